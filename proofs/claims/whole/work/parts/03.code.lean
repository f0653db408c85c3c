/-! ===== made by wip/prog/gen.py: the operations of each method, by pc (64 to a list) ===== -/
def z_c0_0 : List zO := [o_aload 1 0, o_obj, o_bad, o_bad, o_aload 1 0, o_const 2 (.int (12)), o_bad, o_anew "MailVerdicts$Domain", o_bad, o_bad, o_put 0 0 (.array (.object "MailVerdicts$Domain")), o_bad, o_bad, o_aload 1 0, o_new 2 3 [.int 0, .int 0, .int 0], o_bad, o_bad, o_dup, o_ci 35 0, o_bad, o_bad, o_put 0 2 (.object "MailVerdicts$Checking"), o_bad, o_bad, o_aload 1 0, o_new 3 6 [.null, .null, .null, .null, .null, .int 0], o_bad, o_bad, o_dup, o_ci 46 0, o_bad, o_bad, o_put 0 3 (.object "MailVerdicts$CanonicalForm"), o_bad, o_bad, o_aload 1 0, o_aload 1 0, o_get 0 3, o_bad, o_bad, o_get 3 0, o_bad, o_bad, o_put 0 4 (.object "MailVerdicts$Message"), o_bad, o_bad, o_aload 1 0, o_aload 1 0, o_get 0 3, o_bad, o_bad, o_get 3 1, o_bad, o_bad, o_put 0 5 (.object "MailVerdicts$Text"), o_bad, o_bad, o_aload 1 0, o_const 1 (.int (3)), o_anew "MailVerdicts$Signature", o_bad, o_bad, o_put 0 6 (.array (.object "MailVerdicts$Signature")), o_bad]
def z_c0_1 : List zO := [o_bad, o_vret]
def z_c1_0 : List zO := [o_aload 1 0, o_iload 1 1, o_cv 20 0 1, o_bad, o_bad, o_ast 1 3 false, o_aload 1 0, o_get 0 1, o_bad, o_bad, o_const 2 (.int (12)), o_bad, o_ic (fun x y => x = y) 24, o_bad, o_bad, o_aload 1 3, o_nn 26, o_bad, o_bad, o_iload 1 1, o_const 1 (.int (-1)), o_ic (fun x y => x = y) 26, o_bad, o_bad, o_const 1 (.int (-1)), o_iret .int, o_aload 1 0, o_get 0 0, o_bad, o_bad, o_aload 1 0, o_get 0 1, o_bad, o_bad, o_new 1 11 [.null, .int 0, .null, .int 0, .null, .int 0, .null, .int 0, .null, .null, .null], o_bad, o_bad, o_dup, o_aload 1 3, o_iload 1 2, o_ci 27 2, o_bad, o_bad, o_rst "MailVerdicts$Domain" 1, o_aload 1 0, o_dup, o_get 0 1, o_bad, o_bad, o_const 1 (.int (1)), o_ib (fun x y => x + y), o_put 0 1 .int, o_bad, o_bad, o_aload 1 0, o_get 0 1, o_bad, o_bad, o_const 1 (.int (1)), o_ib (fun x y => x - y), o_iret .int]
def z_c2_0 : List zO := [o_aload 1 0, o_iload 1 1, o_cv 20 0 1, o_bad, o_bad, o_ast 1 3 false, o_aload 1 3, o_nul 22, o_bad, o_bad, o_aload 1 3, o_iload 1 2, o_cv 28 1 1, o_bad, o_bad, o_if (fun x => x = 0) 22, o_bad, o_bad, o_const 1 (.int (1)), o_goto 23, o_bad, o_bad, o_const 1 (.int (0)), o_iret .boolean]
def z_c3_0 : List zO := [o_aload 1 0, o_iload 1 1, o_cv 20 0 1, o_bad, o_bad, o_ast 1 3 false, o_aload 1 0, o_iload 1 2, o_cv 20 0 1, o_bad, o_bad, o_ast 2 4 false, o_bad, o_aload 1 3, o_nul 35, o_bad, o_bad, o_aload 2 4, o_bad, o_nul 35, o_bad, o_bad, o_aload 1 3, o_aload 2 4, o_bad, o_cv 29 1 1, o_bad, o_bad, o_if (fun x => x = 0) 35, o_bad, o_bad, o_const 1 (.int (1)), o_goto 36, o_bad, o_bad, o_const 1 (.int (0)), o_iret .boolean]
def z_c4_0 : List zO := [o_aload 1 0, o_iload 1 1, o_cv 20 0 1, o_bad, o_bad, o_ast 2 6 false, o_bad, o_aload 2 6, o_bad, o_nul 22, o_bad, o_bad, o_iload 1 3, o_if (fun x => x < 0) 22, o_bad, o_bad, o_iload 1 3, o_const 2 (.int (6)), o_bad, o_ic (fun x y => x ≤ y) 24, o_bad, o_bad, o_const 1 (.int (-1)), o_iret .int, o_iload 1 3, o_const 2 (.int (6)), o_bad, o_ic (fun x y => x = y) 42, o_bad, o_bad, o_iload 1 2, o_const 1 (.int (1)), o_ic (fun x y => x < y) 40, o_bad, o_bad, o_iload 1 2, o_const 1 (.int (4)), o_ic (fun x y => x ≤ y) 42, o_bad, o_bad, o_const 1 (.int (-1)), o_iret .int, o_iload 1 3, o_cs 22 1, o_bad, o_bad, o_if (fun x => x = 0) 63, o_bad, o_bad, o_iload 2 5, o_bad, o_if (fun x => x < 0) 61, o_bad, o_bad, o_iload 2 5, o_bad, o_const 2 (.int (32)), o_bad, o_ic (fun x y => x ≤ y) 63, o_bad, o_bad, o_const 1 (.int (-1)), o_iret .int, o_iload 2 4]
def z_c4_1 : List zO := [o_bad, o_const 1 (.int (-1)), o_ic (fun x y => ¬ x = y) 74, o_bad, o_bad, o_aload 2 6, o_bad, o_goto 80, o_bad, o_bad, o_aload 1 0, o_iload 2 4, o_bad, o_cv 20 0 1, o_bad, o_bad, o_ast 2 7 false, o_bad, o_iload 1 3, o_cs 23 1, o_bad, o_bad, o_if (fun x => x = 0) 96, o_bad, o_bad, o_aload 2 7, o_bad, o_nn 96, o_bad, o_bad, o_const 1 (.int (-1)), o_iret .int, o_aload 2 6, o_bad, o_iload 1 3, o_cv 31 1 1, o_bad, o_bad, o_if (fun x => ¬ x = 0) 108, o_bad, o_bad, o_const 2 (.int (-2)), o_bad, o_iret .int, o_iload 1 3, o_const 2 (.int (6)), o_bad, o_ic (fun x y => ¬ x = y) 124, o_bad, o_bad, o_aload 2 6, o_bad, o_aload 2 7, o_bad, o_put 1 8 (.object "MailVerdicts$Domain"), o_bad, o_bad, o_goto 144, o_bad, o_bad, o_aload 2 6, o_bad, o_new 7 5 [.int 0, .int 0, .int 0, .null, .int 0], o_bad]
def z_c4_2 : List zO := [o_bad, o_dup, o_iload 1 2, o_iload 1 3, o_iload 2 4, o_bad, o_aload 2 7, o_bad, o_iload 2 5, o_bad, o_ci 66 5, o_bad, o_bad, o_cv 32 1 1, o_bad, o_bad, o_aload 2 6, o_bad, o_cv 30 1 0, o_bad, o_bad, o_iret .int]
def z_c5_0 : List zO := [o_aload 1 0, o_iload 1 1, o_cv 20 0 1, o_bad, o_bad, o_ast 2 4 false, o_bad, o_aload 2 4, o_bad, o_nul 22, o_bad, o_bad, o_iload 1 2, o_const 1 (.int (2)), o_ic (fun x y => x < y) 22, o_bad, o_bad, o_iload 1 3, o_const 1 (.int (1)), o_ic (fun x y => y ≤ x) 24, o_bad, o_bad, o_const 1 (.int (0)), o_iret .boolean, o_aload 2 4, o_bad, o_new 8 2 [.int 0, .int 0], o_bad, o_bad, o_dup, o_iload 1 2, o_iload 1 3, o_ci 67 2, o_bad, o_bad, o_put 1 9 (.object "MailVerdicts$Key"), o_bad, o_bad, o_const 1 (.int (1)), o_iret .boolean]
def z_c6_0 : List zO := [o_aload 1 0, o_iload 1 1, o_cv 20 0 1, o_bad, o_bad, o_ast 2 6 false, o_bad, o_aload 2 6, o_bad, o_nul 26, o_bad, o_bad, o_iload 1 2, o_cs 24 1, o_bad, o_bad, o_if (fun x => x = 0) 26, o_bad, o_bad, o_iload 1 3, o_cs 24 1, o_bad, o_bad, o_if (fun x => ¬ x = 0) 28, o_bad, o_bad, o_const 1 (.int (0)), o_iret .boolean, o_aload 2 6, o_bad, o_new 9 4 [.int 0, .int 0, .int 0, .int 0], o_bad, o_bad, o_dup, o_iload 1 2, o_iload 1 3, o_iload 2 4, o_bad, o_iload 2 5, o_bad, o_ci 69 4, o_bad, o_bad, o_put 1 10 (.object "MailVerdicts$Wish"), o_bad, o_bad, o_const 1 (.int (1)), o_iret .boolean]
def z_c7_0 : List zO := [o_aload 1 0, o_iload 1 2, o_cv 20 0 1, o_bad, o_bad, o_ast 1 3 false, o_aload 1 3, o_nn 14, o_bad, o_bad, o_const 1 (.int (-1)), o_goto 23, o_bad, o_bad, o_aload 1 0, o_get 0 2, o_bad, o_bad, o_iload 1 1, o_aload 1 3, o_cv 36 2 2, o_bad, o_bad, o_iret .int]
def z_c8_0 : List zO := [o_aload 1 0, o_get 0 2, o_bad, o_bad, o_get 2 1, o_bad, o_bad, o_iret .int]
def z_c9_0 : List zO := [o_aload 1 0, o_get 0 2, o_bad, o_bad, o_get 2 2, o_bad, o_bad, o_iret .int]
def z_c10_0 : List zO := [o_iload 1 1, o_const 2 (.int (10)), o_bad, o_ic (fun x y => x = y) 18, o_bad, o_bad, o_iload 1 1, o_const 2 (.int (32)), o_bad, o_ic (fun x y => x < y) 22, o_bad, o_bad, o_iload 1 1, o_const 2 (.int (126)), o_bad, o_ic (fun x y => y < x) 22, o_bad, o_bad, o_const 1 (.int (1)), o_goto 23, o_bad, o_bad, o_const 1 (.int (0)), o_ist 1 2 false, o_iload 1 2, o_if (fun x => x = 0) 46, o_bad, o_bad, o_aload 1 0, o_get 0 4, o_bad, o_bad, o_get 4 0, o_bad, o_bad, o_iload 1 1, o_cv 61 5 1, o_bad, o_bad, o_if (fun x => x = 0) 46, o_bad, o_bad, o_const 1 (.int (1)), o_goto 47, o_bad, o_bad, o_const 1 (.int (0)), o_iret .boolean]
def z_c11_0 : List zO := [o_iload 1 1, o_const 2 (.int (58)), o_bad, o_ic (fun x y => x = y) 13, o_bad, o_bad, o_iload 1 1, o_cs 25 1, o_bad, o_bad, o_if (fun x => x = 0) 17, o_bad, o_bad, o_const 1 (.int (1)), o_goto 18, o_bad, o_bad, o_const 1 (.int (0)), o_ist 1 2 false, o_iload 1 2, o_if (fun x => x = 0) 38, o_bad, o_bad, o_aload 1 0, o_get 0 5, o_bad, o_bad, o_iload 1 1, o_cv 61 5 1, o_bad, o_bad, o_if (fun x => x = 0) 38, o_bad, o_bad, o_const 1 (.int (1)), o_goto 39, o_bad, o_bad, o_const 1 (.int (0)), o_iret .boolean]
def z_c12_0 : List zO := [o_aload 1 0, o_get 0 4, o_bad, o_bad, o_get 4 0, o_bad, o_bad, o_const 1 (.int (0)), o_cv 63 5 1, o_bad, o_bad, o_aload 1 0, o_get 0 5, o_bad, o_bad, o_const 1 (.int (0)), o_cv 63 5 1, o_bad, o_bad, o_aload 1 0, o_const 1 (.int (0)), o_put 0 7 .int, o_bad, o_bad, o_vret]
def z_c13_0 : List zO := [o_aload 1 0, o_get 0 4, o_bad, o_bad, o_cv 57 4 0, o_bad, o_bad, o_if (fun x => x = 0) 20, o_bad, o_bad, o_aload 1 0, o_get 0 4, o_bad, o_bad, o_get 4 1, o_bad, o_bad, o_goto 21, o_bad, o_bad, o_const 1 (.int (-1)), o_iret .int]
def z_c14_0 : List zO := [o_aload 1 0, o_get 0 3, o_bad, o_bad, o_iload 1 1, o_iload 1 2, o_cv 47 3 2, o_bad, o_bad, o_if (fun x => x = 0) 25, o_bad, o_bad, o_aload 1 0, o_get 0 3, o_bad, o_bad, o_get 3 2, o_bad, o_bad, o_get 5 1, o_bad, o_bad, o_goto 26, o_bad, o_bad, o_const 1 (.int (-1)), o_iret .int]
def z_c15_0 : List zO := [o_aload 1 0, o_get 0 3, o_bad, o_bad, o_iload 1 1, o_iload 1 2, o_cv 47 3 2, o_bad, o_bad, o_if (fun x => x = 0) 26, o_bad, o_bad, o_aload 1 0, o_get 0 3, o_bad, o_bad, o_get 3 2, o_bad, o_bad, o_iload 1 3, o_cv 62 5 1, o_bad, o_bad, o_goto 27, o_bad, o_bad, o_const 1 (.int (-1)), o_iret .int]
def z_c16_0 : List zO := [o_aload 1 0, o_get 0 3, o_bad, o_bad, o_iload 1 1, o_iload 1 2, o_cv 47 3 2, o_bad, o_bad, o_if (fun x => x = 0) 25, o_bad, o_bad, o_aload 1 0, o_get 0 3, o_bad, o_bad, o_get 3 2, o_bad, o_bad, o_cv 64 5 0, o_bad, o_bad, o_goto 26, o_bad, o_bad, o_const 1 (.int (-1)), o_iret .int]
def z_c17_0 : List zO := [o_aload 1 0, o_iload 1 1, o_cv 20 0 1, o_bad, o_bad, o_ast 2 5 false, o_bad, o_aload 2 5, o_bad, o_nn 14, o_bad, o_bad, o_const 1 (.int (-1)), o_iret .int, o_aload 1 0, o_get 0 7, o_bad, o_bad, o_const 1 (.int (3)), o_ic (fun x y => ¬ x = y) 25, o_bad, o_bad, o_const 2 (.int (-2)), o_bad, o_iret .int, o_aload 1 0, o_get 0 6, o_bad, o_bad, o_aload 1 0, o_get 0 7, o_bad, o_bad, o_new 6 4 [.null, .int 0, .int 0, .int 0], o_bad, o_bad, o_dup, o_aload 2 5, o_bad, o_iload 1 2, o_iload 1 3, o_iload 2 4, o_bad, o_ci 65 4, o_bad, o_bad, o_rst "MailVerdicts$Signature" 6, o_aload 1 0, o_dup, o_get 0 7, o_bad, o_bad, o_const 1 (.int (1)), o_ib (fun x y => x + y), o_put 0 7 .int, o_bad, o_bad, o_aload 1 0, o_get 0 7, o_bad, o_bad, o_iret .int]
def z_c18_0 : List zO := [o_iload 1 1, o_if (fun x => x < 0) 29, o_bad, o_bad, o_iload 1 1, o_aload 1 0, o_get 0 7, o_bad, o_bad, o_ic (fun x y => y ≤ x) 29, o_bad, o_bad, o_aload 1 0, o_aload 1 0, o_get 0 6, o_bad, o_bad, o_iload 1 1, o_rld "MailVerdicts$Signature", o_cv 21 0 1, o_bad, o_bad, o_if (fun x => x = 0) 29, o_bad, o_bad, o_const 1 (.int (1)), o_goto 30, o_bad, o_bad, o_const 1 (.int (0)), o_iret .boolean]
def z_c19_0 : List zO := [o_aload 1 0, o_iload 1 2, o_cv 20 0 1, o_bad, o_bad, o_ast 2 4 false, o_bad, o_aload 1 0, o_iload 1 3, o_cv 20 0 1, o_bad, o_bad, o_ast 2 5 false, o_bad, o_aload 2 4, o_bad, o_nul 24, o_bad, o_bad, o_aload 2 5, o_bad, o_nn 26, o_bad, o_bad, o_const 1 (.int (-1)), o_iret .int, o_aload 1 0, o_get 0 2, o_bad, o_bad, o_iload 1 1, o_aload 2 4, o_bad, o_cv 36 2 2, o_bad, o_bad, o_ist 2 6 false, o_bad, o_aload 2 5, o_bad, o_get 1 10, o_bad, o_bad, o_nul 54, o_bad, o_bad, o_aload 2 5, o_bad, o_get 1 10, o_bad, o_bad, o_goto 62, o_bad, o_bad, o_aload 2 5, o_bad, o_cv 33 1 0, o_bad, o_bad, o_get 1 10, o_bad, o_bad, o_ast 2 7 false, o_bad]
def z_c19_1 : List zO := [o_aload 2 7, o_bad, o_nn 71, o_bad, o_bad, o_const 1 (.int (0)), o_iret .int, o_iload 2 6, o_bad, o_const 1 (.int (2)), o_ic (fun x y => ¬ x = y) 94, o_bad, o_bad, o_aload 2 4, o_bad, o_aload 2 5, o_bad, o_aload 2 7, o_bad, o_get 9 2, o_bad, o_bad, o_cv 34 1 2, o_bad, o_bad, o_if (fun x => x = 0) 94, o_bad, o_bad, o_const 1 (.int (1)), o_iret .int, o_const 1 (.int (0)), o_ist 2 8 false, o_bad, o_iload 2 8, o_bad, o_aload 1 0, o_get 0 7, o_bad, o_bad, o_ic (fun x y => y ≤ x) 151, o_bad, o_bad, o_aload 1 0, o_get 0 6, o_bad, o_bad, o_iload 2 8, o_bad, o_rld "MailVerdicts$Signature", o_get 6 0, o_bad, o_bad, o_aload 2 5, o_bad, o_aload 2 7, o_bad, o_get 9 3, o_bad, o_bad, o_cv 34 1 2, o_bad, o_bad, o_if (fun x => x = 0) 145, o_bad]
def z_c19_2 : List zO := [o_bad, o_aload 1 0, o_aload 1 0, o_get 0 6, o_bad, o_bad, o_iload 2 8, o_bad, o_rld "MailVerdicts$Signature", o_cv 21 0 1, o_bad, o_bad, o_if (fun x => x = 0) 145, o_bad, o_bad, o_const 1 (.int (1)), o_iret .int, o_iinc 8 (1), o_bad, o_bad, o_goto 97, o_bad, o_bad, o_const 1 (.int (2)), o_aload 2 5, o_bad, o_get 1 10, o_bad, o_bad, o_nul 168, o_bad, o_bad, o_aload 2 7, o_bad, o_get 9 0, o_bad, o_bad, o_goto 173, o_bad, o_bad, o_aload 2 7, o_bad, o_get 9 1, o_bad, o_bad, o_ib (fun x y => x + y), o_iret .int]
def z_c20_0 : List zO := [o_iload 1 1, o_if (fun x => x < 0) 21, o_bad, o_bad, o_iload 1 1, o_aload 1 0, o_get 0 1, o_bad, o_bad, o_ic (fun x y => y ≤ x) 21, o_bad, o_bad, o_aload 1 0, o_get 0 0, o_bad, o_bad, o_iload 1 1, o_rld "MailVerdicts$Domain", o_goto 22, o_bad, o_bad, o_const 1 .null, o_aret]
def z_c21_0 : List zO := [o_aload 1 1, o_get 6 0, o_bad, o_bad, o_get 1 9, o_bad, o_bad, o_ast 1 2 false, o_aload 1 2, o_nul 55, o_bad, o_bad, o_aload 1 0, o_get 0 3, o_bad, o_bad, o_aload 1 1, o_get 6 1, o_bad, o_bad, o_aload 1 1, o_get 6 2, o_bad, o_bad, o_cv 47 3 2, o_bad, o_bad, o_if (fun x => x = 0) 55, o_bad, o_bad, o_aload 1 2, o_aload 1 1, o_get 6 3, o_bad, o_bad, o_aload 1 0, o_get 0 3, o_bad, o_bad, o_get 3 2, o_bad, o_bad, o_cv 64 5 0, o_bad, o_bad, o_cv 68 8 2, o_bad, o_bad, o_if (fun x => x = 0) 55, o_bad, o_bad, o_const 1 (.int (1)), o_goto 56, o_bad, o_bad, o_const 1 (.int (0)), o_iret .boolean]
def z_c22_0 : List zO := [o_iload 1 0, o_const 1 (.int (1)), o_ic (fun x y => x = y) 15, o_bad, o_bad, o_iload 1 0, o_const 1 (.int (2)), o_ic (fun x y => x = y) 15, o_bad, o_bad, o_iload 1 0, o_const 1 (.int (3)), o_ic (fun x y => ¬ x = y) 19, o_bad, o_bad, o_const 1 (.int (1)), o_goto 20, o_bad, o_bad, o_const 1 (.int (0)), o_iret .boolean]
def z_c23_0 : List zO := [o_iload 1 0, o_if (fun x => x = 0) 13, o_bad, o_bad, o_iload 1 0, o_const 1 (.int (1)), o_ic (fun x y => x = y) 13, o_bad, o_bad, o_const 1 (.int (1)), o_goto 14, o_bad, o_bad, o_const 1 (.int (0)), o_iret .boolean]
def z_c24_0 : List zO := [o_iload 1 0, o_if (fun x => x < 0) 13, o_bad, o_bad, o_iload 1 0, o_const 1 (.int (2)), o_ic (fun x y => y < x) 13, o_bad, o_bad, o_const 1 (.int (1)), o_goto 14, o_bad, o_bad, o_const 1 (.int (0)), o_iret .boolean]
def z_c25_0 : List zO := [o_iload 1 0, o_const 2 (.int (65)), o_bad, o_ic (fun x y => x < y) 12, o_bad, o_bad, o_iload 1 0, o_const 2 (.int (90)), o_bad, o_ic (fun x y => x ≤ y) 42, o_bad, o_bad, o_iload 1 0, o_const 2 (.int (97)), o_bad, o_ic (fun x y => x < y) 24, o_bad, o_bad, o_iload 1 0, o_const 2 (.int (122)), o_bad, o_ic (fun x y => x ≤ y) 42, o_bad, o_bad, o_iload 1 0, o_const 2 (.int (48)), o_bad, o_ic (fun x y => x < y) 36, o_bad, o_bad, o_iload 1 0, o_const 2 (.int (57)), o_bad, o_ic (fun x y => x ≤ y) 42, o_bad, o_bad, o_iload 1 0, o_const 2 (.int (45)), o_bad, o_ic (fun x y => ¬ x = y) 46, o_bad, o_bad, o_const 1 (.int (1)), o_goto 47, o_bad, o_bad, o_const 1 (.int (0)), o_iret .boolean]
def z_c26_0 : List zO := [o_iload 1 0, o_const 2 (.int (65)), o_bad, o_ic (fun x y => x < y) 22, o_bad, o_bad, o_iload 1 0, o_const 2 (.int (90)), o_bad, o_ic (fun x y => y < x) 22, o_bad, o_bad, o_iload 1 0, o_const 2 (.int (65)), o_bad, o_ib (fun x y => x - y), o_const 2 (.int (97)), o_bad, o_ib (fun x y => x + y), o_goto 23, o_bad, o_bad, o_iload 1 0, o_iret .int]
def z_c27_0 : List zO := [o_aload 1 0, o_obj, o_bad, o_bad, o_aload 1 0, o_aload 1 1, o_put 1 0 (.object "MailVerdicts$Domain"), o_bad, o_bad, o_aload 1 0, o_iload 1 2, o_put 1 1 .boolean, o_bad, o_bad, o_aload 1 0, o_const 1 (.int (3)), o_newa .int, o_bad, o_put 1 2 (.array .int), o_bad, o_bad, o_aload 1 0, o_const 1 (.int (3)), o_anew "MailVerdicts$Domain", o_bad, o_bad, o_put 1 4 (.array (.object "MailVerdicts$Domain")), o_bad, o_bad, o_aload 1 0, o_const 2 (.int (8)), o_bad, o_anew "MailVerdicts$Term", o_bad, o_bad, o_put 1 6 (.array (.object "MailVerdicts$Term")), o_bad, o_bad, o_vret]
def z_c28_0 : List zO := [o_aload 1 0, o_get 1 3, o_bad, o_bad, o_const 1 (.int (3)), o_ic (fun x y => ¬ x = y) 10, o_bad, o_bad, o_const 1 (.int (0)), o_iret .boolean, o_aload 1 0, o_get 1 2, o_bad, o_bad, o_aload 1 0, o_get 1 3, o_bad, o_bad, o_iload 1 1, o_aast .int, o_aload 1 0, o_dup, o_get 1 3, o_bad, o_bad, o_const 1 (.int (1)), o_ib (fun x y => x + y), o_put 1 3 .int, o_bad, o_bad, o_const 1 (.int (1)), o_iret .boolean]
def z_c29_0 : List zO := [o_aload 1 0, o_get 1 5, o_bad, o_bad, o_const 1 (.int (3)), o_ic (fun x y => ¬ x = y) 10, o_bad, o_bad, o_const 1 (.int (0)), o_iret .boolean, o_aload 1 0, o_get 1 4, o_bad, o_bad, o_aload 1 0, o_get 1 5, o_bad, o_bad, o_aload 1 1, o_rst "MailVerdicts$Domain" 1, o_aload 1 0, o_dup, o_get 1 5, o_bad, o_bad, o_const 1 (.int (1)), o_ib (fun x y => x + y), o_put 1 5 .int, o_bad, o_bad, o_const 1 (.int (1)), o_iret .boolean]
def z_c30_0 : List zO := [o_aload 1 0, o_get 1 8, o_bad, o_bad, o_nn 14, o_bad, o_bad, o_aload 1 0, o_get 1 7, o_bad, o_bad, o_goto 20, o_bad, o_bad, o_aload 1 0, o_get 1 7, o_bad, o_bad, o_const 1 (.int (1)), o_ib (fun x y => x + y), o_iret .int]
def z_c31_0 : List zO := [o_aload 1 0, o_cv 30 1 0, o_bad, o_bad, o_const 2 (.int (8)), o_bad, o_ic (fun x y => y ≤ x) 26, o_bad, o_bad, o_iload 1 1, o_const 2 (.int (6)), o_bad, o_ic (fun x y => ¬ x = y) 22, o_bad, o_bad, o_aload 1 0, o_get 1 8, o_bad, o_bad, o_nn 26, o_bad, o_bad, o_const 1 (.int (1)), o_goto 27, o_bad, o_bad, o_const 1 (.int (0)), o_iret .boolean]
def z_c32_0 : List zO := [o_aload 1 0, o_get 1 7, o_bad, o_bad, o_const 2 (.int (8)), o_bad, o_ic (fun x y => y ≤ x) 29, o_bad, o_bad, o_aload 1 0, o_get 1 6, o_bad, o_bad, o_aload 1 0, o_get 1 7, o_bad, o_bad, o_aload 1 1, o_rst "MailVerdicts$Term" 7, o_aload 1 0, o_dup, o_get 1 7, o_bad, o_bad, o_const 1 (.int (1)), o_ib (fun x y => x + y), o_put 1 7 .int, o_bad, o_bad, o_vret]
def z_c33_0 : List zO := [o_aload 1 0, o_ast 1 1 false, o_aload 1 0, o_get 1 1, o_bad, o_bad, o_if (fun x => ¬ x = 0) 34, o_bad, o_bad, o_aload 1 1, o_get 1 0, o_bad, o_bad, o_nul 34, o_bad, o_bad, o_aload 1 1, o_get 1 0, o_bad, o_bad, o_get 1 1, o_bad, o_bad, o_if (fun x => ¬ x = 0) 34, o_bad, o_bad, o_aload 1 1, o_get 1 0, o_bad, o_bad, o_ast 1 1 false, o_goto 2, o_bad, o_bad, o_aload 1 1, o_aret]
def z_c34_0 : List zO := [o_aload 1 0, o_aload 1 1, o_ac true 20, o_bad, o_bad, o_iload 1 2, o_if (fun x => ¬ x = 0) 24, o_bad, o_bad, o_aload 1 0, o_cv 33 1 0, o_bad, o_bad, o_aload 1 1, o_cv 33 1 0, o_bad, o_bad, o_ac false 24, o_bad, o_bad, o_const 1 (.int (1)), o_goto 25, o_bad, o_bad, o_const 1 (.int (0)), o_iret .boolean]
def z_c35_0 : List zO := [o_aload 1 0, o_obj, o_bad, o_bad, o_vret]
def z_c36_0 : List zO := [o_aload 1 0, o_iload 1 1, o_put 2 0 .int, o_bad, o_bad, o_aload 1 0, o_const 1 (.int (0)), o_put 2 1 .int, o_bad, o_bad, o_aload 1 0, o_const 1 (.int (0)), o_put 2 2 .int, o_bad, o_bad, o_aload 1 0, o_aload 1 2, o_const 1 (.int (0)), o_cv 37 2 2, o_bad, o_bad, o_iret .int]
def z_c37_0 : List zO := [o_iload 1 2, o_const 2 (.int (10)), o_bad, o_ic (fun x y => x ≤ y) 8, o_bad, o_bad, o_const 1 (.int (5)), o_iret .int, o_aload 1 1, o_cv 30 1 0, o_bad, o_bad, o_if (fun x => ¬ x = 0) 17, o_bad, o_bad, o_const 1 (.int (0)), o_iret .int, o_const 1 (.int (0)), o_ist 1 3 false, o_iload 1 3, o_aload 1 1, o_get 1 7, o_bad, o_bad, o_ic (fun x y => y ≤ x) 70, o_bad, o_bad, o_aload 1 0, o_aload 1 1, o_get 1 6, o_bad, o_bad, o_iload 1 3, o_rld "MailVerdicts$Term", o_iload 1 2, o_cv 39 2 2, o_bad, o_bad, o_ist 2 4 false, o_bad, o_iload 2 4, o_bad, o_const 1 (.int (2)), o_ic (fun x y => ¬ x = y) 48, o_bad, o_bad, o_const 1 (.int (5)), o_iret .int, o_iload 2 4, o_bad, o_const 1 (.int (1)), o_ic (fun x y => ¬ x = y) 64, o_bad, o_bad, o_aload 1 1, o_get 1 6, o_bad, o_bad, o_iload 1 3, o_rld "MailVerdicts$Term", o_get 7 0, o_bad, o_bad, o_iret .int]
def z_c37_1 : List zO := [o_iinc 3 (1), o_bad, o_bad, o_goto 19, o_bad, o_bad, o_aload 1 1, o_get 1 8, o_bad, o_bad, o_nn 81, o_bad, o_bad, o_const 1 (.int (1)), o_goto 90, o_bad, o_bad, o_aload 1 0, o_aload 1 1, o_get 1 8, o_bad, o_bad, o_iload 1 2, o_cv 38 2 2, o_bad, o_bad, o_iret .int]
def z_c38_0 : List zO := [o_aload 1 0, o_cv 44 2 0, o_bad, o_bad, o_if (fun x => ¬ x = 0) 9, o_bad, o_bad, o_const 1 (.int (5)), o_iret .int, o_aload 1 0, o_aload 1 1, o_iload 1 2, o_const 1 (.int (1)), o_ib (fun x y => x + y), o_cv 37 2 2, o_bad, o_bad, o_ist 1 3 false, o_iload 1 3, o_if (fun x => ¬ x = 0) 26, o_bad, o_bad, o_const 1 (.int (5)), o_goto 27, o_bad, o_bad, o_iload 1 3, o_iret .int]
def z_c39_0 : List zO := [o_aload 1 1, o_get 7 1, o_bad, o_bad, o_if (fun x => ¬ x = 0) 9, o_bad, o_bad, o_const 1 (.int (1)), o_iret .int, o_aload 1 1, o_get 7 1, o_bad, o_bad, o_const 1 (.int (1)), o_ic (fun x y => ¬ x = y) 38, o_bad, o_bad, o_aload 1 0, o_aload 1 1, o_get 7 2, o_bad, o_bad, o_aload 1 1, o_get 7 4, o_bad, o_bad, o_cv 45 2 2, o_bad, o_bad, o_if (fun x => x = 0) 36, o_bad, o_bad, o_const 1 (.int (1)), o_goto 37, o_bad, o_bad, o_const 1 (.int (0)), o_iret .int, o_aload 1 0, o_cv 44 2 0, o_bad, o_bad, o_if (fun x => ¬ x = 0) 47, o_bad, o_bad, o_const 1 (.int (2)), o_iret .int, o_aload 1 1, o_get 7 1, o_bad, o_bad, o_tab 2 [80, 93, 106, 116] 116, o_bad, o_bad, o_bad, o_bad, o_bad, o_bad, o_bad, o_bad, o_bad, o_bad, o_bad, o_bad]
def z_c39_1 : List zO := [o_bad, o_bad, o_bad, o_bad, o_bad, o_bad, o_bad, o_bad, o_bad, o_bad, o_bad, o_bad, o_bad, o_bad, o_bad, o_bad, o_aload 1 0, o_aload 1 1, o_get 7 3, o_bad, o_bad, o_aload 1 1, o_get 7 4, o_bad, o_bad, o_cv 40 2 2, o_bad, o_bad, o_iret .int, o_aload 1 0, o_aload 1 1, o_get 7 3, o_bad, o_bad, o_aload 1 1, o_get 7 4, o_bad, o_bad, o_cv 41 2 2, o_bad, o_bad, o_iret .int, o_aload 1 0, o_aload 1 1, o_get 7 3, o_bad, o_bad, o_iload 1 2, o_cv 42 2 2, o_bad, o_bad, o_iret .int, o_aload 1 1, o_get 7 3, o_bad, o_bad, o_get 1 3, o_bad, o_bad, o_if (fun x => x ≤ 0) 130, o_bad, o_bad, o_const 1 (.int (1)), o_goto 134]
def z_c39_2 : List zO := [o_bad, o_bad, o_aload 1 0, o_cv 43 2 0, o_bad, o_bad, o_iret .int]
def z_c40_0 : List zO := [o_aload 1 1, o_get 1 3, o_bad, o_bad, o_if (fun x => ¬ x = 0) 12, o_bad, o_bad, o_aload 1 0, o_cv 43 2 0, o_bad, o_bad, o_iret .int, o_const 1 (.int (0)), o_ist 1 3 false, o_iload 1 3, o_aload 1 1, o_get 1 3, o_bad, o_bad, o_ic (fun x y => y ≤ x) 44, o_bad, o_bad, o_aload 1 0, o_aload 1 1, o_get 1 2, o_bad, o_bad, o_iload 1 3, o_ald .int, o_iload 1 2, o_cv 45 2 2, o_bad, o_bad, o_if (fun x => x = 0) 38, o_bad, o_bad, o_const 1 (.int (1)), o_iret .int, o_iinc 3 (1), o_bad, o_bad, o_goto 14, o_bad, o_bad, o_const 1 (.int (0)), o_iret .int]
def z_c41_0 : List zO := [o_aload 1 1, o_get 1 5, o_bad, o_bad, o_if (fun x => ¬ x = 0) 12, o_bad, o_bad, o_aload 1 0, o_cv 43 2 0, o_bad, o_bad, o_iret .int, o_const 1 (.int (0)), o_ist 1 3 false, o_iload 1 3, o_aload 1 1, o_get 1 5, o_bad, o_bad, o_ic (fun x y => y ≤ x) 49, o_bad, o_bad, o_aload 1 0, o_aload 1 1, o_get 1 4, o_bad, o_bad, o_iload 1 3, o_rld "MailVerdicts$Domain", o_iload 1 2, o_cv 40 2 2, o_bad, o_bad, o_ist 2 4 false, o_bad, o_iload 2 4, o_bad, o_if (fun x => x = 0) 43, o_bad, o_bad, o_iload 2 4, o_bad, o_iret .int, o_iinc 3 (1), o_bad, o_bad, o_goto 14, o_bad, o_bad, o_const 1 (.int (0)), o_iret .int]
def z_c42_0 : List zO := [o_aload 1 0, o_aload 1 1, o_iload 1 2, o_const 1 (.int (1)), o_ib (fun x y => x + y), o_cv 37 2 2, o_bad, o_bad, o_ist 1 3 false, o_iload 1 3, o_if (fun x => x = 0) 18, o_bad, o_bad, o_iload 1 3, o_const 1 (.int (5)), o_ic (fun x y => ¬ x = y) 20, o_bad, o_bad, o_const 1 (.int (2)), o_iret .int, o_iload 1 3, o_const 1 (.int (2)), o_ic (fun x y => ¬ x = y) 29, o_bad, o_bad, o_const 1 (.int (1)), o_goto 30, o_bad, o_bad, o_const 1 (.int (0)), o_iret .int]
def z_c43_0 : List zO := [o_aload 1 0, o_get 2 2, o_bad, o_bad, o_const 1 (.int (2)), o_ic (fun x y => ¬ x = y) 10, o_bad, o_bad, o_const 1 (.int (2)), o_iret .int, o_aload 1 0, o_dup, o_get 2 2, o_bad, o_bad, o_const 1 (.int (1)), o_ib (fun x y => x + y), o_put 2 2 .int, o_bad, o_bad, o_const 1 (.int (0)), o_iret .int]
def z_c44_0 : List zO := [o_aload 1 0, o_get 2 1, o_bad, o_bad, o_const 2 (.int (10)), o_bad, o_ic (fun x y => ¬ x = y) 11, o_bad, o_bad, o_const 1 (.int (0)), o_iret .boolean, o_aload 1 0, o_dup, o_get 2 1, o_bad, o_bad, o_const 1 (.int (1)), o_ib (fun x y => x + y), o_put 2 1 .int, o_bad, o_bad, o_const 1 (.int (1)), o_iret .boolean]
def z_c45_0 : List zO := [o_iload 1 2, o_if (fun x => x = 0) 18, o_bad, o_bad, o_aload 1 0, o_get 2 0, o_bad, o_bad, o_iload 1 1, o_ib (fun x y => x ^^^ y), o_const 2 (.int (32)), o_bad, o_iload 1 2, o_ib (fun x y => x - y), o_ib (fun x y => (x.toUInt32 >>> (y.toUInt32 &&& Int32.toUInt32 31)).toInt32), o_if (fun x => ¬ x = 0) 22, o_bad, o_bad, o_const 1 (.int (1)), o_goto 23, o_bad, o_bad, o_const 1 (.int (0)), o_iret .boolean]
def z_c46_0 : List zO := [o_aload 1 0, o_obj, o_bad, o_bad, o_aload 1 0, o_new 4 6 [.null, .int 0, .int 0, .null, .null, .null], o_bad, o_bad, o_dup, o_ci 56 0, o_bad, o_bad, o_put 3 0 (.object "MailVerdicts$Message"), o_bad, o_bad, o_aload 1 0, o_new 5 2 [.null, .int 0], o_bad, o_bad, o_dup, o_const 2 (.int (60)), o_bad, o_ci 60 1, o_bad, o_bad, o_put 3 1 (.object "MailVerdicts$Text"), o_bad, o_bad, o_aload 1 0, o_new 5 2 [.null, .int 0], o_bad, o_bad, o_dup, o_const 3 (.int (242)), o_bad, o_bad, o_ci 60 1, o_bad, o_bad, o_put 3 2 (.object "MailVerdicts$Text"), o_bad, o_bad, o_aload 1 0, o_const 2 (.int (12)), o_bad, o_newa .boolean, o_bad, o_put 3 3 (.array .boolean), o_bad, o_bad, o_aload 1 0, o_const 2 (.int (12)), o_bad, o_newa .int, o_bad, o_put 3 4 (.array .int), o_bad, o_bad, o_vret]
def z_c47_0 : List zO := [o_aload 1 0, o_get 3 2, o_bad, o_bad, o_const 1 (.int (0)), o_cv 63 5 1, o_bad, o_bad, o_aload 1 0, o_get 3 0, o_bad, o_bad, o_cv 57 4 0, o_bad, o_bad, o_if (fun x => ¬ x = 0) 20, o_bad, o_bad, o_const 1 (.int (0)), o_iret .boolean, o_aload 1 0, o_cv 48 3 0, o_bad, o_bad, o_const 1 (.int (0)), o_ist 1 3 false, o_iload 1 3, o_aload 1 0, o_get 3 5, o_bad, o_bad, o_ic (fun x y => y ≤ x) 99, o_bad, o_bad, o_iload 1 1, o_if (fun x => x = 0) 51, o_bad, o_bad, o_aload 1 0, o_aload 1 0, o_get 3 4, o_bad, o_bad, o_iload 1 3, o_ald .int, o_cv 51 3 1, o_bad, o_bad, o_goto 93, o_bad, o_bad, o_aload 1 0, o_aload 1 0, o_get 3 0, o_bad, o_bad, o_get 4 3, o_bad, o_bad, o_aload 1 0, o_get 3 4, o_bad, o_bad, o_iload 1 3]
def z_c47_1 : List zO := [o_ald .int, o_ald .int, o_aload 1 0, o_get 3 0, o_bad, o_bad, o_get 4 5, o_bad, o_bad, o_aload 1 0, o_get 3 4, o_bad, o_bad, o_iload 1 3, o_ald .int, o_ald .int, o_cv 54 3 2, o_bad, o_bad, o_aload 1 0, o_get 3 2, o_bad, o_bad, o_const 2 (.int (10)), o_bad, o_cv 61 5 1, o_bad, o_bad, o_pop, o_iinc 3 (1), o_bad, o_bad, o_goto 26, o_bad, o_bad, o_iload 1 2, o_if (fun x => x = 0) 110, o_bad, o_bad, o_aload 1 0, o_cv 53 3 0, o_bad, o_bad, o_goto 114, o_bad, o_bad, o_aload 1 0, o_cv 52 3 0, o_bad, o_bad, o_const 1 (.int (1)), o_iret .boolean]
def z_c48_0 : List zO := [o_aload 1 0, o_const 1 (.int (0)), o_put 3 5 .int, o_bad, o_bad, o_const 1 (.int (0)), o_ist 1 1 false, o_iload 1 1, o_aload 1 0, o_get 3 0, o_bad, o_bad, o_get 4 1, o_bad, o_bad, o_ic (fun x y => y ≤ x) 31, o_bad, o_bad, o_aload 1 0, o_get 3 3, o_bad, o_bad, o_iload 1 1, o_const 1 (.int (0)), o_aast .boolean, o_iinc 1 (1), o_bad, o_bad, o_goto 7, o_bad, o_bad, o_const 1 (.int (0)), o_ist 1 1 false, o_const 1 (.int (0)), o_ist 1 2 false, o_iload 1 2, o_aload 1 0, o_get 3 1, o_bad, o_bad, o_get 5 1, o_bad, o_bad, o_ic (fun x y => y < x) 86, o_bad, o_bad, o_iload 1 2, o_aload 1 0, o_get 3 1, o_bad, o_bad, o_get 5 1, o_bad, o_bad, o_ic (fun x y => x = y) 70, o_bad, o_bad, o_aload 1 0, o_get 3 1, o_bad, o_bad, o_iload 1 2, o_cv 62 5 1, o_bad]
def z_c48_1 : List zO := [o_bad, o_const 2 (.int (58)), o_bad, o_ic (fun x y => ¬ x = y) 80, o_bad, o_bad, o_aload 1 0, o_iload 1 1, o_iload 1 2, o_cv 49 3 2, o_bad, o_bad, o_iload 1 2, o_const 1 (.int (1)), o_ib (fun x y => x + y), o_ist 1 1 false, o_iinc 2 (1), o_bad, o_bad, o_goto 35, o_bad, o_bad, o_vret]
def z_c49_0 : List zO := [o_aload 1 0, o_get 3 0, o_bad, o_bad, o_get 4 1, o_bad, o_bad, o_const 1 (.int (1)), o_ib (fun x y => x - y), o_ist 1 3 false, o_iload 1 3, o_if (fun x => x < 0) 67, o_bad, o_bad, o_aload 1 0, o_get 3 3, o_bad, o_bad, o_iload 1 3, o_ald .boolean, o_if (fun x => ¬ x = 0) 61, o_bad, o_bad, o_aload 1 0, o_iload 1 3, o_iload 1 1, o_iload 1 2, o_cv 50 3 3, o_bad, o_bad, o_if (fun x => x = 0) 61, o_bad, o_bad, o_aload 1 0, o_get 3 3, o_bad, o_bad, o_iload 1 3, o_const 1 (.int (1)), o_aast .boolean, o_aload 1 0, o_get 3 4, o_bad, o_bad, o_aload 1 0, o_get 3 5, o_bad, o_bad, o_iload 1 3, o_aast .int, o_aload 1 0, o_dup, o_get 3 5, o_bad, o_bad, o_const 1 (.int (1)), o_ib (fun x y => x + y), o_put 3 5 .int, o_bad, o_bad, o_vret, o_iinc 3 (-1), o_bad, o_bad]
def z_c49_1 : List zO := [o_goto 10, o_bad, o_bad, o_vret]
def z_c50_0 : List zO := [o_aload 1 0, o_get 3 0, o_bad, o_bad, o_get 4 3, o_bad, o_bad, o_iload 1 1, o_ald .int, o_ist 2 4 false, o_bad, o_aload 1 0, o_get 3 0, o_bad, o_bad, o_get 4 4, o_bad, o_bad, o_iload 1 1, o_ald .int, o_iload 2 4, o_bad, o_ib (fun x y => x - y), o_iload 1 3, o_iload 1 2, o_ib (fun x y => x - y), o_ic (fun x y => x = y) 31, o_bad, o_bad, o_const 1 (.int (0)), o_iret .boolean, o_const 1 (.int (0)), o_ist 2 5 false, o_bad, o_iload 2 5, o_bad, o_iload 1 3, o_iload 1 2, o_ib (fun x y => x - y), o_ic (fun x y => y ≤ x) 89, o_bad, o_bad, o_aload 1 0, o_get 3 0, o_bad, o_bad, o_get 4 0, o_bad, o_bad, o_iload 2 4, o_bad, o_iload 2 5, o_bad, o_ib (fun x y => x + y), o_cv 62 5 1, o_bad, o_bad, o_cs 26 1, o_bad, o_bad, o_ist 2 6 false, o_bad, o_iload 2 6, o_bad]
def z_c50_1 : List zO := [o_aload 1 0, o_get 3 1, o_bad, o_bad, o_iload 1 2, o_iload 2 5, o_bad, o_ib (fun x y => x + y), o_cv 62 5 1, o_bad, o_bad, o_cs 26 1, o_bad, o_bad, o_ic (fun x y => x = y) 83, o_bad, o_bad, o_const 1 (.int (0)), o_iret .boolean, o_iinc 5 (1), o_bad, o_bad, o_goto 34, o_bad, o_bad, o_const 1 (.int (1)), o_iret .boolean]
def z_c51_0 : List zO := [o_aload 1 0, o_get 3 0, o_bad, o_bad, o_get 4 4, o_bad, o_bad, o_iload 1 1, o_ald .int, o_ist 1 2 false, o_aload 1 0, o_get 3 0, o_bad, o_bad, o_get 4 3, o_bad, o_bad, o_iload 1 1, o_ald .int, o_ist 1 3 false, o_iload 1 3, o_iload 1 2, o_ic (fun x y => y ≤ x) 53, o_bad, o_bad, o_aload 1 0, o_get 3 2, o_bad, o_bad, o_aload 1 0, o_get 3 0, o_bad, o_bad, o_get 4 0, o_bad, o_bad, o_iload 1 3, o_cv 62 5 1, o_bad, o_bad, o_cs 26 1, o_bad, o_bad, o_cv 61 5 1, o_bad, o_bad, o_pop, o_iinc 3 (1), o_bad, o_bad, o_goto 20, o_bad, o_bad, o_aload 1 0, o_get 3 2, o_bad, o_bad, o_const 2 (.int (58)), o_bad, o_cv 61 5 1, o_bad, o_bad, o_pop, o_aload 1 0]
def z_c51_1 : List zO := [o_iload 1 2, o_const 1 (.int (1)), o_ib (fun x y => x + y), o_aload 1 0, o_get 3 0, o_bad, o_bad, o_get 4 5, o_bad, o_bad, o_iload 1 1, o_ald .int, o_const 1 (.int (1)), o_cv 55 3 3, o_bad, o_bad, o_aload 1 0, o_get 3 2, o_bad, o_bad, o_const 2 (.int (10)), o_bad, o_cv 61 5 1, o_bad, o_bad, o_pop, o_vret]
def z_c52_0 : List zO := [o_aload 1 0, o_get 3 0, o_bad, o_bad, o_get 4 0, o_bad, o_bad, o_get 5 1, o_bad, o_bad, o_ist 1 1 false, o_iload 1 1, o_aload 1 0, o_get 3 0, o_bad, o_bad, o_get 4 2, o_bad, o_bad, o_ic (fun x y => x ≤ y) 46, o_bad, o_bad, o_aload 1 0, o_get 3 0, o_bad, o_bad, o_get 4 0, o_bad, o_bad, o_iload 1 1, o_const 1 (.int (1)), o_ib (fun x y => x - y), o_cv 62 5 1, o_bad, o_bad, o_const 2 (.int (10)), o_bad, o_ic (fun x y => ¬ x = y) 46, o_bad, o_bad, o_iinc 1 (-1), o_bad, o_bad, o_goto 11, o_bad, o_bad, o_aload 1 0, o_aload 1 0, o_get 3 0, o_bad, o_bad, o_get 4 2, o_bad, o_bad, o_iload 1 1, o_cv 54 3 2, o_bad, o_bad, o_aload 1 0, o_get 3 2, o_bad, o_bad, o_const 2 (.int (10)), o_bad]
def z_c52_1 : List zO := [o_cv 61 5 1, o_bad, o_bad, o_pop, o_vret]
def z_c53_0 : List zO := [o_aload 1 0, o_get 3 2, o_bad, o_bad, o_get 5 1, o_bad, o_bad, o_ist 1 1 false, o_aload 1 0, o_get 3 0, o_bad, o_bad, o_get 4 2, o_bad, o_bad, o_ist 1 2 false, o_iload 1 2, o_ist 1 3 false, o_iload 1 3, o_aload 1 0, o_get 3 0, o_bad, o_bad, o_get 4 0, o_bad, o_bad, o_get 5 1, o_bad, o_bad, o_ic (fun x y => y < x) 134, o_bad, o_bad, o_iload 1 3, o_aload 1 0, o_get 3 0, o_bad, o_bad, o_get 4 0, o_bad, o_bad, o_get 5 1, o_bad, o_bad, o_ic (fun x y => x = y) 62, o_bad, o_bad, o_aload 1 0, o_get 3 0, o_bad, o_bad, o_get 4 0, o_bad, o_bad, o_iload 1 3, o_cv 62 5 1, o_bad, o_bad, o_const 2 (.int (10)), o_bad, o_ic (fun x y => ¬ x = y) 128, o_bad, o_bad, o_aload 1 0, o_get 3 2]
def z_c53_1 : List zO := [o_bad, o_bad, o_get 5 1, o_bad, o_bad, o_ist 2 4 false, o_bad, o_aload 1 0, o_iload 1 2, o_iload 1 3, o_const 1 (.int (0)), o_cv 55 3 3, o_bad, o_bad, o_aload 1 0, o_get 3 2, o_bad, o_bad, o_get 5 1, o_bad, o_bad, o_iload 2 4, o_bad, o_ic (fun x y => ¬ x = y) 94, o_bad, o_bad, o_const 1 (.int (1)), o_goto 95, o_bad, o_bad, o_const 1 (.int (0)), o_ist 2 5 false, o_bad, o_aload 1 0, o_get 3 2, o_bad, o_bad, o_const 2 (.int (10)), o_bad, o_cv 61 5 1, o_bad, o_bad, o_pop, o_iload 2 5, o_bad, o_if (fun x => x = 0) 116, o_bad, o_bad, o_iload 1 1, o_goto 123, o_bad, o_bad, o_aload 1 0, o_get 3 2, o_bad, o_bad, o_get 5 1, o_bad, o_bad, o_ist 1 1 false, o_iload 1 3, o_const 1 (.int (1)), o_ib (fun x y => x + y), o_ist 1 2 false]
def z_c53_2 : List zO := [o_iinc 3 (1), o_bad, o_bad, o_goto 18, o_bad, o_bad, o_aload 1 0, o_get 3 2, o_bad, o_bad, o_iload 1 1, o_cv 63 5 1, o_bad, o_bad, o_vret]
def z_c54_0 : List zO := [o_iload 1 1, o_ist 1 3 false, o_iload 1 3, o_iload 1 2, o_ic (fun x y => y ≤ x) 32, o_bad, o_bad, o_aload 1 0, o_get 3 2, o_bad, o_bad, o_aload 1 0, o_get 3 0, o_bad, o_bad, o_get 4 0, o_bad, o_bad, o_iload 1 3, o_cv 62 5 1, o_bad, o_bad, o_cv 61 5 1, o_bad, o_bad, o_pop, o_iinc 3 (1), o_bad, o_bad, o_goto 2, o_bad, o_bad, o_vret]
def z_c55_0 : List zO := [o_iload 1 3, o_ist 2 4 false, o_bad, o_const 1 (.int (0)), o_ist 2 5 false, o_bad, o_iload 1 1, o_ist 2 6 false, o_bad, o_iload 2 6, o_bad, o_iload 1 2, o_ic (fun x y => y ≤ x) 91, o_bad, o_bad, o_aload 1 0, o_get 3 0, o_bad, o_bad, o_get 4 0, o_bad, o_bad, o_iload 2 6, o_bad, o_cv 62 5 1, o_bad, o_bad, o_ist 2 7 false, o_bad, o_iload 2 7, o_bad, o_const 2 (.int (32)), o_bad, o_ic (fun x y => ¬ x = y) 42, o_bad, o_bad, o_const 1 (.int (1)), o_ist 2 5 false, o_bad, o_goto 85, o_bad, o_bad, o_iload 2 7, o_bad, o_const 2 (.int (10)), o_bad, o_ic (fun x y => x = y) 85, o_bad, o_bad, o_iload 2 5, o_bad, o_if (fun x => x = 0) 69, o_bad, o_bad, o_iload 2 4, o_bad, o_if (fun x => ¬ x = 0) 69, o_bad, o_bad, o_aload 1 0, o_get 3 2, o_bad, o_bad, o_const 2 (.int (32))]
def z_c55_1 : List zO := [o_bad, o_cv 61 5 1, o_bad, o_bad, o_pop, o_aload 1 0, o_get 3 2, o_bad, o_bad, o_iload 2 7, o_bad, o_cv 61 5 1, o_bad, o_bad, o_pop, o_const 1 (.int (0)), o_ist 2 5 false, o_bad, o_const 1 (.int (0)), o_ist 2 4 false, o_bad, o_iinc 6 (1), o_bad, o_bad, o_goto 9, o_bad, o_bad, o_vret]
def z_c56_0 : List zO := [o_aload 1 0, o_obj, o_bad, o_bad, o_aload 1 0, o_new 5 2 [.null, .int 0], o_bad, o_bad, o_dup, o_const 3 (.int (240)), o_bad, o_bad, o_ci 60 1, o_bad, o_bad, o_put 4 0 (.object "MailVerdicts$Text"), o_bad, o_bad, o_aload 1 0, o_const 2 (.int (12)), o_bad, o_newa .int, o_bad, o_put 4 3 (.array .int), o_bad, o_bad, o_aload 1 0, o_const 2 (.int (12)), o_bad, o_newa .int, o_bad, o_put 4 4 (.array .int), o_bad, o_bad, o_aload 1 0, o_const 2 (.int (12)), o_bad, o_newa .int, o_bad, o_put 4 5 (.array .int), o_bad, o_bad, o_vret]
def z_c57_0 : List zO := [o_aload 1 0, o_const 1 (.int (0)), o_put 4 1 .int, o_bad, o_bad, o_aload 1 0, o_aload 1 0, o_get 4 0, o_bad, o_bad, o_get 5 1, o_bad, o_bad, o_put 4 2 .int, o_bad, o_bad, o_const 1 (.int (0)), o_ist 1 1 false, o_const 1 (.int (0)), o_ist 1 2 false, o_iload 1 2, o_aload 1 0, o_get 4 0, o_bad, o_bad, o_get 5 1, o_bad, o_bad, o_ic (fun x y => y ≤ x) 79, o_bad, o_bad, o_aload 1 0, o_get 4 0, o_bad, o_bad, o_iload 1 2, o_cv 62 5 1, o_bad, o_bad, o_const 2 (.int (10)), o_bad, o_ic (fun x y => ¬ x = y) 73, o_bad, o_bad, o_iload 1 2, o_iload 1 1, o_ic (fun x y => ¬ x = y) 58, o_bad, o_bad, o_aload 1 0, o_iload 1 2, o_const 1 (.int (1)), o_ib (fun x y => x + y), o_put 4 2 .int, o_bad, o_bad, o_const 1 (.int (1)), o_iret .boolean, o_aload 1 0, o_iload 1 1, o_iload 1 2, o_cv 58 4 2, o_bad, o_bad]
def z_c57_1 : List zO := [o_if (fun x => ¬ x = 0) 69, o_bad, o_bad, o_const 1 (.int (0)), o_iret .boolean, o_iload 1 2, o_const 1 (.int (1)), o_ib (fun x y => x + y), o_ist 1 1 false, o_iinc 2 (1), o_bad, o_bad, o_goto 20, o_bad, o_bad, o_iload 1 1, o_aload 1 0, o_get 4 0, o_bad, o_bad, o_get 5 1, o_bad, o_bad, o_ic (fun x y => x = y) 105, o_bad, o_bad, o_aload 1 0, o_iload 1 1, o_aload 1 0, o_get 4 0, o_bad, o_bad, o_get 5 1, o_bad, o_bad, o_cv 58 4 2, o_bad, o_bad, o_if (fun x => x = 0) 109, o_bad, o_bad, o_const 1 (.int (1)), o_goto 110, o_bad, o_bad, o_const 1 (.int (0)), o_iret .boolean]
def z_c58_0 : List zO := [o_aload 1 0, o_get 4 0, o_bad, o_bad, o_iload 1 1, o_cv 62 5 1, o_bad, o_bad, o_const 2 (.int (32)), o_bad, o_ic (fun x y => x = y) 20, o_bad, o_bad, o_aload 1 0, o_iload 1 1, o_iload 1 2, o_cv 59 4 2, o_bad, o_bad, o_iret .boolean, o_aload 1 0, o_get 4 1, o_bad, o_bad, o_if (fun x => ¬ x = 0) 29, o_bad, o_bad, o_const 1 (.int (0)), o_iret .boolean, o_aload 1 0, o_get 4 5, o_bad, o_bad, o_aload 1 0, o_get 4 1, o_bad, o_bad, o_const 1 (.int (1)), o_ib (fun x y => x - y), o_iload 1 2, o_aast .int, o_const 1 (.int (1)), o_iret .boolean]
def z_c59_0 : List zO := [o_iload 1 1, o_ist 1 3 false, o_iload 1 3, o_iload 1 2, o_ic (fun x y => y ≤ x) 27, o_bad, o_bad, o_aload 1 0, o_get 4 0, o_bad, o_bad, o_iload 1 3, o_cv 62 5 1, o_bad, o_bad, o_cs 25 1, o_bad, o_bad, o_if (fun x => x = 0) 27, o_bad, o_bad, o_iinc 3 (1), o_bad, o_bad, o_goto 2, o_bad, o_bad, o_iload 1 3, o_iload 1 1, o_ic (fun x y => x ≤ y) 54, o_bad, o_bad, o_iload 1 3, o_iload 1 2, o_ic (fun x y => y ≤ x) 54, o_bad, o_bad, o_aload 1 0, o_get 4 0, o_bad, o_bad, o_iload 1 3, o_cv 62 5 1, o_bad, o_bad, o_const 2 (.int (58)), o_bad, o_ic (fun x y => ¬ x = y) 54, o_bad, o_bad, o_const 1 (.int (1)), o_goto 55, o_bad, o_bad, o_const 1 (.int (0)), o_ist 2 4 false, o_bad, o_iload 2 4, o_bad, o_if (fun x => x = 0) 71, o_bad, o_bad, o_aload 1 0, o_get 4 1]
def z_c59_1 : List zO := [o_bad, o_bad, o_const 2 (.int (12)), o_bad, o_ic (fun x y => ¬ x = y) 73, o_bad, o_bad, o_const 1 (.int (0)), o_iret .boolean, o_aload 1 0, o_get 4 3, o_bad, o_bad, o_aload 1 0, o_get 4 1, o_bad, o_bad, o_iload 1 1, o_aast .int, o_aload 1 0, o_get 4 4, o_bad, o_bad, o_aload 1 0, o_get 4 1, o_bad, o_bad, o_iload 1 3, o_aast .int, o_aload 1 0, o_get 4 5, o_bad, o_bad, o_aload 1 0, o_get 4 1, o_bad, o_bad, o_iload 1 2, o_aast .int, o_aload 1 0, o_dup, o_get 4 1, o_bad, o_bad, o_const 1 (.int (1)), o_ib (fun x y => x + y), o_put 4 1 .int, o_bad, o_bad, o_const 1 (.int (1)), o_iret .boolean]
def z_c60_0 : List zO := [o_aload 1 0, o_obj, o_bad, o_bad, o_aload 1 0, o_iload 1 1, o_newa .char, o_bad, o_put 5 0 (.array .char), o_bad, o_bad, o_vret]
def z_c61_0 : List zO := [o_aload 1 0, o_get 5 1, o_bad, o_bad, o_aload 1 0, o_get 5 0, o_bad, o_bad, o_alen, o_ic (fun x y => ¬ x = y) 14, o_bad, o_bad, o_const 1 (.int (0)), o_iret .boolean, o_aload 1 0, o_get 5 0, o_bad, o_bad, o_aload 1 0, o_get 5 1, o_bad, o_bad, o_iload 1 1, o_i1 (fun x => (x.toUInt32 % 65536).toInt32), o_aast .char, o_aload 1 0, o_dup, o_get 5 1, o_bad, o_bad, o_const 1 (.int (1)), o_ib (fun x y => x + y), o_put 5 1 .int, o_bad, o_bad, o_const 1 (.int (1)), o_iret .boolean]
def z_c62_0 : List zO := [o_iload 1 1, o_if (fun x => x < 0) 21, o_bad, o_bad, o_iload 1 1, o_aload 1 0, o_get 5 1, o_bad, o_bad, o_ic (fun x y => y ≤ x) 21, o_bad, o_bad, o_aload 1 0, o_get 5 0, o_bad, o_bad, o_iload 1 1, o_ald .char, o_goto 22, o_bad, o_bad, o_const 1 (.int (-1)), o_iret .int]
def z_c63_0 : List zO := [o_iload 1 1, o_if (fun x => x < 0) 17, o_bad, o_bad, o_iload 1 1, o_aload 1 0, o_get 5 1, o_bad, o_bad, o_ic (fun x y => y ≤ x) 17, o_bad, o_bad, o_aload 1 0, o_iload 1 1, o_put 5 1 .int, o_bad, o_bad, o_vret]
def z_c64_0 : List zO := [o_const 1 (.long 0), o_lst 1 1, o_const 1 (.int (0)), o_ist 1 3 true, o_iload 1 3, o_aload 1 0, o_get 5 1, o_bad, o_bad, o_ic (fun x y => y ≤ x) 38, o_bad, o_bad, o_const 3 (.long 257), o_bad, o_bad, o_lload 1 1, o_lb (fun x y => x * y), o_aload 1 0, o_get 5 0, o_bad, o_bad, o_iload 1 3, o_ald .char, o_i2l, o_lb (fun x y => x + y), o_const 1 (.long 1), o_lb (fun x y => x + y), o_const 3 (.long 2147483647), o_bad, o_bad, o_lbn (fun x y => x - x / y * y), o_lst 1 1, o_iinc 3 (1), o_bad, o_bad, o_goto 4, o_bad, o_bad, o_lload 1 1, o_l2i, o_iret .int]
def z_c65_0 : List zO := [o_aload 1 0, o_obj, o_bad, o_bad, o_aload 1 0, o_aload 1 1, o_put 6 0 (.object "MailVerdicts$Domain"), o_bad, o_bad, o_aload 1 0, o_iload 1 2, o_put 6 1 .boolean, o_bad, o_bad, o_aload 1 0, o_iload 1 3, o_put 6 2 .boolean, o_bad, o_bad, o_aload 1 0, o_iload 2 4, o_bad, o_put 6 3 .int, o_bad, o_bad, o_vret]
def z_c66_0 : List zO := [o_aload 1 0, o_obj, o_bad, o_bad, o_aload 1 0, o_iload 1 1, o_put 7 0 .int, o_bad, o_bad, o_aload 1 0, o_iload 1 2, o_put 7 1 .int, o_bad, o_bad, o_aload 1 0, o_iload 1 3, o_put 7 2 .int, o_bad, o_bad, o_aload 1 0, o_aload 2 4, o_bad, o_put 7 3 (.object "MailVerdicts$Domain"), o_bad, o_bad, o_aload 1 0, o_iload 2 5, o_bad, o_put 7 4 .int, o_bad, o_bad, o_vret]
def z_c67_0 : List zO := [o_aload 1 0, o_obj, o_bad, o_bad, o_aload 1 0, o_iload 1 1, o_put 8 0 .int, o_bad, o_bad, o_aload 1 0, o_iload 1 2, o_put 8 1 .int, o_bad, o_bad, o_vret]
def z_c68_0 : List zO := [o_aload 1 0, o_get 8 0, o_bad, o_bad, o_const 1 (.int (2)), o_ic (fun x y => y ≤ x) 10, o_bad, o_bad, o_const 1 (.int (0)), o_iret .boolean, o_iload 1 1, o_aload 1 0, o_get 8 0, o_bad, o_bad, o_cs 116 2, o_bad, o_bad, o_i2l, o_lst 1 3, o_const 1 (.long 1), o_lst 2 5, o_bad, o_aload 1 0, o_get 8 1, o_bad, o_bad, o_ist 2 7 true, o_bad, o_iload 2 7, o_bad, o_if (fun x => x ≤ 0) 73, o_bad, o_bad, o_iload 2 7, o_bad, o_const 1 (.int (1)), o_ib (fun x y => x &&& y), o_const 1 (.int (1)), o_ic (fun x y => ¬ x = y) 54, o_bad, o_bad, o_lload 2 5, o_bad, o_lload 1 3, o_lb (fun x y => x * y), o_aload 1 0, o_get 8 0, o_bad, o_bad, o_i2l, o_lbn (fun x y => x - x / y * y), o_lst 2 5, o_bad, o_lload 1 3, o_lload 1 3, o_lb (fun x y => x * y), o_aload 1 0, o_get 8 0, o_bad, o_bad, o_i2l, o_lbn (fun x y => x - x / y * y), o_lst 1 3]
def z_c68_1 : List zO := [o_iload 2 7, o_bad, o_const 1 (.int (1)), o_ib (fun x y => x >>> (y &&& 31)), o_ist 2 7 true, o_bad, o_goto 29, o_bad, o_bad, o_lload 2 5, o_bad, o_iload 1 2, o_aload 1 0, o_get 8 0, o_bad, o_bad, o_ibn (fun x y => x - x / y * y), o_i2l, o_lcmp, o_if (fun x => ¬ x = 0) 90, o_bad, o_bad, o_const 1 (.int (1)), o_goto 91, o_bad, o_bad, o_const 1 (.int (0)), o_iret .boolean]
def z_c69_0 : List zO := [o_aload 1 0, o_obj, o_bad, o_bad, o_aload 1 0, o_iload 1 1, o_put 9 0 .int, o_bad, o_bad, o_aload 1 0, o_iload 1 2, o_put 9 1 .int, o_bad, o_bad, o_aload 1 0, o_iload 1 3, o_put 9 2 .boolean, o_bad, o_bad, o_aload 1 0, o_iload 2 4, o_bad, o_put 9 3 .boolean, o_bad, o_bad, o_vret]
def z_c70_0 : List zO := [o_aload 1 0, o_obj, o_bad, o_bad, o_aload 1 0, o_const 2 (.int (12)), o_bad, o_newa .int, o_bad, o_put 10 1 (.array .int), o_bad, o_bad, o_aload 1 0, o_const 2 (.int (12)), o_bad, o_newa .boolean, o_bad, o_put 10 2 (.array .boolean), o_bad, o_bad, o_aload 1 0, o_const 2 (.int (12)), o_bad, o_newa .int, o_bad, o_put 10 3 (.array .int), o_bad, o_bad, o_aload 1 0, o_const 2 (.int (36)), o_bad, o_newa .int, o_bad, o_put 10 4 (.array .int), o_bad, o_bad, o_aload 1 0, o_const 2 (.int (12)), o_bad, o_newa .int, o_bad, o_put 10 5 (.array .int), o_bad, o_bad, o_aload 1 0, o_const 2 (.int (36)), o_bad, o_newa .int, o_bad, o_put 10 6 (.array .int), o_bad, o_bad, o_aload 1 0, o_const 2 (.int (12)), o_bad, o_newa .int, o_bad, o_put 10 7 (.array .int), o_bad, o_bad, o_aload 1 0, o_const 2 (.int (12)), o_bad, o_newa .int]
def z_c70_1 : List zO := [o_bad, o_put 10 8 (.array .int), o_bad, o_bad, o_aload 1 0, o_const 2 (.int (12)), o_bad, o_newa .int, o_bad, o_put 10 9 (.array .int), o_bad, o_bad, o_aload 1 0, o_const 2 (.int (12)), o_bad, o_newa .int, o_bad, o_put 10 10 (.array .int), o_bad, o_bad, o_aload 1 0, o_const 2 (.int (12)), o_bad, o_newa .boolean, o_bad, o_put 10 11 (.array .boolean), o_bad, o_bad, o_aload 1 0, o_const 2 (.int (12)), o_bad, o_newa .boolean, o_bad, o_put 10 12 (.array .boolean), o_bad, o_bad, o_aload 1 0, o_const 2 (.int (12)), o_bad, o_newa .int, o_bad, o_put 10 13 (.array .int), o_bad, o_bad, o_aload 1 0, o_const 2 (.int (96)), o_bad, o_newa .int, o_bad, o_put 10 14 (.array .int), o_bad, o_bad, o_aload 1 0, o_const 2 (.int (96)), o_bad, o_newa .int, o_bad, o_put 10 15 (.array .int), o_bad, o_bad, o_aload 1 0, o_const 2 (.int (96)), o_bad, o_newa .int]
def z_c70_2 : List zO := [o_bad, o_put 10 16 (.array .int), o_bad, o_bad, o_aload 1 0, o_const 2 (.int (96)), o_bad, o_newa .int, o_bad, o_put 10 17 (.array .int), o_bad, o_bad, o_aload 1 0, o_const 2 (.int (12)), o_bad, o_newa .int, o_bad, o_put 10 21 (.array .int), o_bad, o_bad, o_aload 1 0, o_const 2 (.int (12)), o_bad, o_newa .int, o_bad, o_put 10 22 (.array .int), o_bad, o_bad, o_aload 1 0, o_const 2 (.int (12)), o_bad, o_newa .boolean, o_bad, o_put 10 23 (.array .boolean), o_bad, o_bad, o_aload 1 0, o_const 3 (.int (240)), o_bad, o_bad, o_newa .int, o_bad, o_put 10 25 (.array .int), o_bad, o_bad, o_aload 1 0, o_const 2 (.int (60)), o_bad, o_newa .int, o_bad, o_put 10 27 (.array .int), o_bad, o_bad, o_aload 1 0, o_const 1 (.int (3)), o_newa .int, o_bad, o_put 10 29 (.array .int), o_bad, o_bad, o_aload 1 0, o_const 1 (.int (3)), o_newa .boolean, o_bad]
def z_c70_3 : List zO := [o_put 10 30 (.array .boolean), o_bad, o_bad, o_aload 1 0, o_const 1 (.int (3)), o_newa .boolean, o_bad, o_put 10 31 (.array .boolean), o_bad, o_bad, o_aload 1 0, o_const 1 (.int (3)), o_newa .int, o_bad, o_put 10 32 (.array .int), o_bad, o_bad, o_aload 1 0, o_const 3 (.int (241)), o_bad, o_bad, o_newa .int, o_bad, o_put 10 34 (.array .int), o_bad, o_bad, o_aload 1 0, o_const 3 (.int (241)), o_bad, o_bad, o_newa .int, o_bad, o_put 10 35 (.array .int), o_bad, o_bad, o_aload 1 0, o_const 2 (.int (12)), o_bad, o_newa .int, o_bad, o_put 10 38 (.array .int), o_bad, o_bad, o_aload 1 0, o_const 2 (.int (12)), o_bad, o_newa .int, o_bad, o_put 10 39 (.array .int), o_bad, o_bad, o_aload 1 0, o_const 2 (.int (12)), o_bad, o_newa .int, o_bad, o_put 10 40 (.array .int), o_bad, o_bad, o_aload 1 0, o_const 2 (.int (12)), o_bad, o_newa .boolean, o_bad]
def z_c70_4 : List zO := [o_put 10 41 (.array .boolean), o_bad, o_bad, o_aload 1 0, o_const 3 (.int (500)), o_bad, o_bad, o_newa .int, o_bad, o_put 10 43 (.array .int), o_bad, o_bad, o_vret]
def z_c71_0 : List zO := [o_iload 1 1, o_if (fun x => x < 0) 12, o_bad, o_bad, o_iload 1 1, o_aload 1 0, o_get 10 0, o_bad, o_bad, o_ic (fun x y => x < y) 16, o_bad, o_bad, o_const 1 (.int (1)), o_goto 17, o_bad, o_bad, o_const 1 (.int (0)), o_iret .boolean]
def z_c72_0 : List zO := [o_aload 1 0, o_get 10 0, o_bad, o_bad, o_const 2 (.int (12)), o_bad, o_ic (fun x y => x = y) 22, o_bad, o_bad, o_iload 1 1, o_const 1 (.int (-1)), o_ic (fun x y => x = y) 24, o_bad, o_bad, o_aload 1 0, o_iload 1 1, o_cv 71 10 1, o_bad, o_bad, o_if (fun x => x = 0) 24, o_bad, o_bad, o_const 1 (.int (-1)), o_iret .int, o_aload 1 0, o_get 10 1, o_bad, o_bad, o_aload 1 0, o_get 10 0, o_bad, o_bad, o_iload 1 1, o_aast .int, o_aload 1 0, o_get 10 2, o_bad, o_bad, o_aload 1 0, o_get 10 0, o_bad, o_bad, o_iload 1 2, o_aast .boolean, o_aload 1 0, o_get 10 9, o_bad, o_bad, o_aload 1 0, o_get 10 0, o_bad, o_bad, o_const 1 (.int (-1)), o_aast .int, o_aload 1 0, o_dup, o_get 10 0, o_bad, o_bad, o_const 1 (.int (1)), o_ib (fun x y => x + y), o_put 10 0 .int, o_bad, o_bad]
def z_c72_1 : List zO := [o_aload 1 0, o_get 10 0, o_bad, o_bad, o_const 1 (.int (1)), o_ib (fun x y => x - y), o_iret .int]
def z_c73_0 : List zO := [o_aload 1 0, o_iload 1 1, o_cv 71 10 1, o_bad, o_bad, o_if (fun x => ¬ x = 0) 18, o_bad, o_bad, o_aload 1 0, o_get 10 3, o_bad, o_bad, o_iload 1 1, o_ald .int, o_const 1 (.int (3)), o_ic (fun x y => ¬ x = y) 20, o_bad, o_bad, o_const 1 (.int (0)), o_iret .boolean, o_aload 1 0, o_get 10 4, o_bad, o_bad, o_const 1 (.int (3)), o_iload 1 1, o_ib (fun x y => x * y), o_aload 1 0, o_get 10 3, o_bad, o_bad, o_iload 1 1, o_ald .int, o_ib (fun x y => x + y), o_iload 1 2, o_aast .int, o_aload 1 0, o_get 10 3, o_bad, o_bad, o_iload 1 1, o_dup2, o_ald .int, o_const 1 (.int (1)), o_ib (fun x y => x + y), o_aast .int, o_const 1 (.int (1)), o_iret .boolean]
def z_c74_0 : List zO := [o_aload 1 0, o_iload 1 1, o_cv 71 10 1, o_bad, o_bad, o_if (fun x => ¬ x = 0) 26, o_bad, o_bad, o_aload 1 0, o_iload 1 2, o_cv 71 10 1, o_bad, o_bad, o_if (fun x => ¬ x = 0) 26, o_bad, o_bad, o_aload 1 0, o_get 10 5, o_bad, o_bad, o_iload 1 1, o_ald .int, o_const 1 (.int (3)), o_ic (fun x y => ¬ x = y) 28, o_bad, o_bad, o_const 1 (.int (0)), o_iret .boolean, o_aload 1 0, o_get 10 6, o_bad, o_bad, o_const 1 (.int (3)), o_iload 1 1, o_ib (fun x y => x * y), o_aload 1 0, o_get 10 5, o_bad, o_bad, o_iload 1 1, o_ald .int, o_ib (fun x y => x + y), o_iload 1 2, o_aast .int, o_aload 1 0, o_get 10 5, o_bad, o_bad, o_iload 1 1, o_dup2, o_ald .int, o_const 1 (.int (1)), o_ib (fun x y => x + y), o_aast .int, o_const 1 (.int (1)), o_iret .boolean]
def z_c75_0 : List zO := [o_const 1 (.int (-1)), o_ist 1 2 false, o_const 2 (.int (8)), o_bad, o_iload 1 1, o_ib (fun x y => x * y), o_ist 1 3 false, o_iload 1 3, o_const 2 (.int (8)), o_bad, o_iload 1 1, o_ib (fun x y => x * y), o_aload 1 0, o_get 10 13, o_bad, o_bad, o_iload 1 1, o_ald .int, o_ib (fun x y => x + y), o_ic (fun x y => y ≤ x) 45, o_bad, o_bad, o_aload 1 0, o_get 10 15, o_bad, o_bad, o_iload 1 3, o_ald .int, o_const 2 (.int (6)), o_bad, o_ic (fun x y => ¬ x = y) 37, o_bad, o_bad, o_iload 1 3, o_goto 38, o_bad, o_bad, o_iload 1 2, o_ist 1 2 false, o_iinc 3 (1), o_bad, o_bad, o_goto 7, o_bad, o_bad, o_iload 1 2, o_iret .int]
def z_c76_0 : List zO := [o_aload 1 0, o_iload 1 1, o_cv 71 10 1, o_bad, o_bad, o_if (fun x => ¬ x = 0) 34, o_bad, o_bad, o_iload 1 3, o_if (fun x => x < 0) 34, o_bad, o_bad, o_iload 1 3, o_const 2 (.int (6)), o_bad, o_ic (fun x y => y < x) 34, o_bad, o_bad, o_iload 1 3, o_const 2 (.int (6)), o_bad, o_ic (fun x y => x = y) 36, o_bad, o_bad, o_iload 1 2, o_const 1 (.int (1)), o_ic (fun x y => x < y) 34, o_bad, o_bad, o_iload 1 2, o_const 1 (.int (4)), o_ic (fun x y => x ≤ y) 36, o_bad, o_bad, o_const 1 (.int (-1)), o_iret .int, o_iload 1 3, o_const 1 (.int (2)), o_ic (fun x y => x < y) 56, o_bad, o_bad, o_iload 2 4, o_bad, o_const 1 (.int (-1)), o_ic (fun x y => x = y) 56, o_bad, o_bad, o_aload 1 0, o_iload 2 4, o_bad, o_cv 71 10 1, o_bad, o_bad, o_if (fun x => ¬ x = 0) 78, o_bad, o_bad, o_iload 1 3, o_const 1 (.int (1)), o_ic (fun x y => x < y) 80, o_bad, o_bad, o_iload 1 3, o_const 1 (.int (3)), o_ic (fun x y => y < x) 80]
def z_c76_1 : List zO := [o_bad, o_bad, o_iload 2 5, o_bad, o_if (fun x => x < 0) 78, o_bad, o_bad, o_iload 2 5, o_bad, o_const 2 (.int (32)), o_bad, o_ic (fun x y => x ≤ y) 80, o_bad, o_bad, o_const 1 (.int (-1)), o_iret .int, o_aload 1 0, o_get 10 13, o_bad, o_bad, o_iload 1 1, o_ald .int, o_const 2 (.int (8)), o_bad, o_ic (fun x y => x = y) 105, o_bad, o_bad, o_iload 1 3, o_const 2 (.int (6)), o_bad, o_ic (fun x y => ¬ x = y) 108, o_bad, o_bad, o_aload 1 0, o_iload 1 1, o_cv 75 10 1, o_bad, o_bad, o_if (fun x => x < 0) 108, o_bad, o_bad, o_const 2 (.int (-2)), o_bad, o_iret .int, o_const 2 (.int (8)), o_bad, o_iload 1 1, o_ib (fun x y => x * y), o_aload 1 0, o_get 10 13, o_bad, o_bad, o_iload 1 1, o_ald .int, o_ib (fun x y => x + y), o_ist 2 6 false, o_bad, o_aload 1 0, o_get 10 14, o_bad, o_bad, o_iload 2 6, o_bad, o_iload 1 2]
def z_c76_2 : List zO := [o_aast .int, o_aload 1 0, o_get 10 15, o_bad, o_bad, o_iload 2 6, o_bad, o_iload 1 3, o_aast .int, o_aload 1 0, o_get 10 16, o_bad, o_bad, o_iload 2 6, o_bad, o_iload 1 3, o_const 1 (.int (2)), o_ic (fun x y => x < y) 158, o_bad, o_bad, o_iload 2 4, o_bad, o_const 1 (.int (-1)), o_ic (fun x y => ¬ x = y) 158, o_bad, o_bad, o_iload 1 1, o_goto 160, o_bad, o_bad, o_iload 2 4, o_bad, o_aast .int, o_aload 1 0, o_get 10 17, o_bad, o_bad, o_iload 2 6, o_bad, o_iload 2 5, o_bad, o_aast .int, o_aload 1 0, o_get 10 13, o_bad, o_bad, o_iload 1 1, o_dup2, o_ald .int, o_const 1 (.int (1)), o_ib (fun x y => x + y), o_aast .int, o_aload 1 0, o_get 10 13, o_bad, o_bad, o_iload 1 1, o_ald .int, o_iret .int]
def z_c77_0 : List zO := [o_aload 1 0, o_iload 1 1, o_cv 71 10 1, o_bad, o_bad, o_if (fun x => ¬ x = 0) 18, o_bad, o_bad, o_iload 1 2, o_const 1 (.int (2)), o_ic (fun x y => x < y) 18, o_bad, o_bad, o_iload 1 3, o_const 1 (.int (1)), o_ic (fun x y => y ≤ x) 20, o_bad, o_bad, o_const 1 (.int (0)), o_iret .boolean, o_aload 1 0, o_get 10 7, o_bad, o_bad, o_iload 1 1, o_iload 1 2, o_aast .int, o_aload 1 0, o_get 10 8, o_bad, o_bad, o_iload 1 1, o_iload 1 3, o_aast .int, o_const 1 (.int (1)), o_iret .boolean]
def z_c78_0 : List zO := [o_aload 1 0, o_iload 1 1, o_cv 71 10 1, o_bad, o_bad, o_if (fun x => ¬ x = 0) 26, o_bad, o_bad, o_iload 1 2, o_if (fun x => x < 0) 26, o_bad, o_bad, o_iload 1 2, o_const 1 (.int (2)), o_ic (fun x y => y < x) 26, o_bad, o_bad, o_iload 1 3, o_if (fun x => x < 0) 26, o_bad, o_bad, o_iload 1 3, o_const 1 (.int (2)), o_ic (fun x y => x ≤ y) 28, o_bad, o_bad, o_const 1 (.int (0)), o_iret .boolean, o_aload 1 0, o_get 10 9, o_bad, o_bad, o_iload 1 1, o_iload 1 2, o_aast .int, o_aload 1 0, o_get 10 10, o_bad, o_bad, o_iload 1 1, o_iload 1 3, o_aast .int, o_aload 1 0, o_get 10 11, o_bad, o_bad, o_iload 1 1, o_iload 2 4, o_bad, o_aast .boolean, o_aload 1 0, o_get 10 12, o_bad, o_bad, o_iload 1 1, o_iload 2 5, o_bad, o_aast .boolean, o_const 1 (.int (1)), o_iret .boolean]
def z_c79_0 : List zO := [o_const 1 (.int (1)), o_ist 2 4 false, o_bad, o_const 1 (.int (0)), o_ist 2 5 false, o_bad, o_iload 2 5, o_bad, o_iload 1 3, o_ic (fun x y => y ≤ x) 51, o_bad, o_bad, o_iload 2 4, o_bad, o_if (fun x => x = 0) 42, o_bad, o_bad, o_iload 1 1, o_const 2 (.int (31)), o_bad, o_iload 2 5, o_bad, o_ib (fun x y => x - y), o_ib (fun x y => x >>> (y &&& 31)), o_const 1 (.int (1)), o_ib (fun x y => x &&& y), o_iload 1 2, o_const 2 (.int (31)), o_bad, o_iload 2 5, o_bad, o_ib (fun x y => x - y), o_ib (fun x y => x >>> (y &&& 31)), o_const 1 (.int (1)), o_ib (fun x y => x &&& y), o_ic (fun x y => ¬ x = y) 42, o_bad, o_bad, o_const 1 (.int (1)), o_goto 43, o_bad, o_bad, o_const 1 (.int (0)), o_ist 2 4 false, o_bad, o_iinc 5 (1), o_bad, o_bad, o_goto 6, o_bad, o_bad, o_iload 2 4, o_bad, o_iret .boolean]
def z_c80_0 : List zO := [o_aload 1 0, o_aload 1 0, o_get 10 20, o_bad, o_bad, o_if (fun x => ¬ x = 0) 17, o_bad, o_bad, o_aload 1 0, o_get 10 18, o_bad, o_bad, o_const 2 (.int (10)), o_bad, o_ic (fun x y => ¬ x = y) 21, o_bad, o_bad, o_const 1 (.int (1)), o_goto 22, o_bad, o_bad, o_const 1 (.int (0)), o_put 10 20 .boolean, o_bad, o_bad, o_aload 1 0, o_aload 1 0, o_get 10 20, o_bad, o_bad, o_if (fun x => x = 0) 40, o_bad, o_bad, o_aload 1 0, o_get 10 18, o_bad, o_bad, o_goto 46, o_bad, o_bad, o_aload 1 0, o_get 10 18, o_bad, o_bad, o_const 1 (.int (1)), o_ib (fun x y => x + y), o_put 10 18 .int, o_bad, o_bad, o_aload 1 0, o_get 10 20, o_bad, o_bad, o_if (fun x => ¬ x = 0) 60, o_bad, o_bad, o_const 1 (.int (1)), o_goto 61, o_bad, o_bad, o_const 1 (.int (0)), o_iret .boolean]
def z_c81_0 : List zO := [o_aload 1 0, o_aload 1 0, o_get 10 20, o_bad, o_bad, o_if (fun x => ¬ x = 0) 16, o_bad, o_bad, o_aload 1 0, o_get 10 19, o_bad, o_bad, o_const 1 (.int (2)), o_ic (fun x y => ¬ x = y) 20, o_bad, o_bad, o_const 1 (.int (1)), o_goto 21, o_bad, o_bad, o_const 1 (.int (0)), o_put 10 20 .boolean, o_bad, o_bad, o_aload 1 0, o_aload 1 0, o_get 10 20, o_bad, o_bad, o_if (fun x => x = 0) 39, o_bad, o_bad, o_aload 1 0, o_get 10 19, o_bad, o_bad, o_goto 45, o_bad, o_bad, o_aload 1 0, o_get 10 19, o_bad, o_bad, o_const 1 (.int (1)), o_ib (fun x y => x + y), o_put 10 19 .int, o_bad, o_bad, o_aload 1 0, o_get 10 20, o_bad, o_bad, o_if (fun x => ¬ x = 0) 59, o_bad, o_bad, o_const 1 (.int (1)), o_goto 60, o_bad, o_bad, o_const 1 (.int (0)), o_iret .boolean]
def z_c82_0 : List zO := [o_const 1 (.int (0)), o_ist 2 4 false, o_bad, o_const 1 (.int (0)), o_ist 2 5 false, o_bad, o_iload 2 5, o_bad, o_aload 1 0, o_get 10 3, o_bad, o_bad, o_iload 1 2, o_ald .int, o_ic (fun x y => y ≤ x) 55, o_bad, o_bad, o_iload 2 4, o_bad, o_if (fun x => ¬ x = 0) 42, o_bad, o_bad, o_aload 1 0, o_iload 1 1, o_aload 1 0, o_get 10 4, o_bad, o_bad, o_const 1 (.int (3)), o_iload 1 2, o_ib (fun x y => x * y), o_iload 2 5, o_bad, o_ib (fun x y => x + y), o_ald .int, o_iload 1 3, o_cv 79 10 3, o_bad, o_bad, o_if (fun x => x = 0) 46, o_bad, o_bad, o_const 1 (.int (1)), o_goto 47, o_bad, o_bad, o_const 1 (.int (0)), o_ist 2 4 false, o_bad, o_iinc 5 (1), o_bad, o_bad, o_goto 6, o_bad, o_bad, o_iload 2 4, o_bad, o_iret .boolean]
def z_c83_0 : List zO := [o_aload 1 0, o_get 10 15, o_bad, o_bad, o_iload 1 2, o_ald .int, o_if (fun x => ¬ x = 0) 11, o_bad, o_bad, o_const 1 (.int (1)), o_iret .boolean, o_aload 1 0, o_get 10 15, o_bad, o_bad, o_iload 1 2, o_ald .int, o_const 1 (.int (1)), o_ic (fun x y => ¬ x = y) 39, o_bad, o_bad, o_aload 1 0, o_iload 1 1, o_aload 1 0, o_get 10 16, o_bad, o_bad, o_iload 1 2, o_ald .int, o_aload 1 0, o_get 10 17, o_bad, o_bad, o_iload 1 2, o_ald .int, o_cv 79 10 3, o_bad, o_bad, o_iret .boolean, o_aload 1 0, o_get 10 16, o_bad, o_bad, o_iload 1 2, o_ald .int, o_ist 1 3 false, o_aload 1 0, o_cv 80 10 0, o_bad, o_bad, o_if (fun x => ¬ x = 0) 55, o_bad, o_bad, o_const 1 (.int (0)), o_iret .boolean, o_aload 1 0, o_get 10 15, o_bad, o_bad, o_iload 1 2, o_ald .int, o_const 1 (.int (3)), o_ic (fun x y => x = y) 131, o_bad]
def z_c83_1 : List zO := [o_bad, o_aload 1 0, o_get 10 3, o_bad, o_bad, o_iload 1 3, o_ald .int, o_if (fun x => 0 < x) 81, o_bad, o_bad, o_aload 1 0, o_cv 81 10 0, o_bad, o_bad, o_if (fun x => ¬ x = 0) 85, o_bad, o_bad, o_const 1 (.int (1)), o_goto 86, o_bad, o_bad, o_const 1 (.int (0)), o_ist 2 4 false, o_bad, o_aload 1 0, o_get 10 20, o_bad, o_bad, o_if (fun x => ¬ x = 0) 129, o_bad, o_bad, o_iload 2 4, o_bad, o_if (fun x => x = 0) 129, o_bad, o_bad, o_aload 1 0, o_get 10 15, o_bad, o_bad, o_iload 1 2, o_ald .int, o_const 1 (.int (5)), o_ic (fun x y => x = y) 125, o_bad, o_bad, o_aload 1 0, o_iload 1 1, o_iload 1 3, o_aload 1 0, o_get 10 17, o_bad, o_bad, o_iload 1 2, o_ald .int, o_cv 82 10 3, o_bad, o_bad, o_if (fun x => x = 0) 129, o_bad, o_bad, o_const 1 (.int (1)), o_goto 130, o_bad]
def z_c83_2 : List zO := [o_bad, o_const 1 (.int (0)), o_iret .boolean, o_aload 1 0, o_get 10 5, o_bad, o_bad, o_iload 1 3, o_ald .int, o_if (fun x => ¬ x = 0) 148, o_bad, o_bad, o_aload 1 0, o_cv 81 10 0, o_bad, o_bad, o_ist 2 4 false, o_bad, o_const 1 (.int (0)), o_iret .boolean, o_const 1 (.int (0)), o_ist 2 4 false, o_bad, o_const 1 (.int (0)), o_ist 2 5 false, o_bad, o_iload 2 5, o_bad, o_aload 1 0, o_get 10 5, o_bad, o_bad, o_iload 1 3, o_ald .int, o_ic (fun x y => y ≤ x) 241, o_bad, o_bad, o_iload 2 4, o_bad, o_if (fun x => ¬ x = 0) 241, o_bad, o_bad, o_aload 1 0, o_get 10 20, o_bad, o_bad, o_if (fun x => ¬ x = 0) 241, o_bad, o_bad, o_aload 1 0, o_get 10 6, o_bad, o_bad, o_const 1 (.int (3)), o_iload 1 3, o_ib (fun x y => x * y), o_iload 2 5, o_bad, o_ib (fun x y => x + y), o_ald .int, o_ist 2 6 false, o_bad, o_aload 1 0, o_get 10 3]
def z_c83_3 : List zO := [o_bad, o_bad, o_iload 2 6, o_bad, o_ald .int, o_if (fun x => ¬ x = 0) 204, o_bad, o_bad, o_const 1 (.int (0)), o_goto 217, o_bad, o_bad, o_aload 1 0, o_iload 1 1, o_iload 2 6, o_bad, o_aload 1 0, o_get 10 17, o_bad, o_bad, o_iload 1 2, o_ald .int, o_cv 82 10 3, o_bad, o_bad, o_ist 2 4 false, o_bad, o_aload 1 0, o_get 10 3, o_bad, o_bad, o_iload 2 6, o_bad, o_ald .int, o_if (fun x => ¬ x = 0) 235, o_bad, o_bad, o_aload 1 0, o_cv 81 10 0, o_bad, o_bad, o_ist 2 7 false, o_bad, o_iinc 5 (1), o_bad, o_bad, o_goto 154, o_bad, o_bad, o_iload 2 4, o_bad, o_if (fun x => x = 0) 257, o_bad, o_bad, o_aload 1 0, o_get 10 20, o_bad, o_bad, o_if (fun x => ¬ x = 0) 257, o_bad, o_bad, o_const 1 (.int (1)), o_goto 258, o_bad]
def z_c83_4 : List zO := [o_bad, o_const 1 (.int (0)), o_iret .boolean]
def z_c84_0 : List zO := [o_aload 1 0, o_get 10 21, o_bad, o_bad, o_iload 1 1, o_iload 1 2, o_aast .int, o_aload 1 0, o_get 10 22, o_bad, o_bad, o_iload 1 1, o_const 1 (.int (0)), o_aast .int, o_aload 1 0, o_get 10 23, o_bad, o_bad, o_iload 1 1, o_iload 1 3, o_aast .boolean, o_vret]
def z_c85_0 : List zO := [o_aload 1 0, o_get 10 21, o_bad, o_bad, o_iload 1 2, o_ald .int, o_ist 1 3 false, o_aload 1 0, o_get 10 13, o_bad, o_bad, o_iload 1 3, o_ald .int, o_if (fun x => ¬ x = 0) 28, o_bad, o_bad, o_aload 1 0, o_aload 1 0, o_get 10 23, o_bad, o_bad, o_iload 1 2, o_ald .boolean, o_put 10 20 .boolean, o_bad, o_bad, o_const 1 (.int (0)), o_iret .int, o_const 2 (.int (8)), o_bad, o_iload 1 3, o_ib (fun x y => x * y), o_aload 1 0, o_get 10 22, o_bad, o_bad, o_iload 1 2, o_ald .int, o_ib (fun x y => x + y), o_ist 2 4 false, o_bad, o_aload 1 0, o_get 10 22, o_bad, o_bad, o_iload 1 2, o_ald .int, o_aload 1 0, o_get 10 13, o_bad, o_bad, o_iload 1 3, o_ald .int, o_ic (fun x y => y ≤ x) 127, o_bad, o_bad, o_aload 1 0, o_get 10 22, o_bad, o_bad, o_iload 1 2, o_dup2, o_ald .int, o_const 1 (.int (1))]
def z_c85_1 : List zO := [o_ib (fun x y => x + y), o_aast .int, o_aload 1 0, o_get 10 15, o_bad, o_bad, o_iload 2 4, o_bad, o_ald .int, o_const 2 (.int (6)), o_bad, o_ic (fun x y => ¬ x = y) 80, o_bad, o_bad, o_const 1 (.int (-1)), o_iret .int, o_aload 1 0, o_get 10 15, o_bad, o_bad, o_iload 2 4, o_bad, o_ald .int, o_const 1 (.int (4)), o_ic (fun x y => ¬ x = y) 105, o_bad, o_bad, o_aload 1 0, o_cv 80 10 0, o_bad, o_bad, o_if (fun x => x = 0) 103, o_bad, o_bad, o_const 2 (.int (-2)), o_bad, o_goto 104, o_bad, o_bad, o_const 1 (.int (-1)), o_iret .int, o_aload 1 0, o_iload 1 1, o_iload 2 4, o_bad, o_cv 83 10 2, o_bad, o_bad, o_if (fun x => x = 0) 125, o_bad, o_bad, o_aload 1 0, o_get 10 14, o_bad, o_bad, o_iload 2 4, o_bad, o_ald .int, o_goto 126, o_bad, o_bad, o_const 1 (.int (-1)), o_iret .int, o_aload 1 0]
def z_c85_2 : List zO := [o_iload 1 3, o_cv 75 10 1, o_bad, o_bad, o_ist 2 5 false, o_bad, o_iload 2 5, o_bad, o_if (fun x => 0 ≤ x) 141, o_bad, o_bad, o_const 1 (.int (1)), o_iret .int, o_aload 1 0, o_cv 80 10 0, o_bad, o_bad, o_if (fun x => x = 0) 161, o_bad, o_bad, o_aload 1 0, o_iload 1 2, o_aload 1 0, o_get 10 16, o_bad, o_bad, o_iload 2 5, o_bad, o_ald .int, o_const 1 (.int (1)), o_cv 84 10 3, o_bad, o_bad, o_const 1 (.int (-1)), o_iret .int]
def z_c86_0 : List zO := [o_aload 1 0, o_const 1 (.int (0)), o_put 10 18 .int, o_bad, o_bad, o_aload 1 0, o_const 1 (.int (0)), o_put 10 19 .int, o_bad, o_bad, o_aload 1 0, o_const 1 (.int (0)), o_put 10 20 .boolean, o_bad, o_bad, o_const 1 (.int (0)), o_ist 1 3 false, o_const 1 (.int (-1)), o_ist 2 4 false, o_bad, o_aload 1 0, o_const 1 (.int (0)), o_iload 1 2, o_const 1 (.int (0)), o_cv 84 10 3, o_bad, o_bad, o_const 1 (.int (0)), o_ist 2 5 false, o_bad, o_iload 2 5, o_bad, o_const 3 (.int (1000)), o_bad, o_bad, o_ic (fun x y => y ≤ x) 187, o_bad, o_bad, o_iload 1 3, o_if (fun x => x < 0) 187, o_bad, o_bad, o_aload 1 0, o_get 10 20, o_bad, o_bad, o_if (fun x => ¬ x = 0) 187, o_bad, o_bad, o_aload 1 0, o_iload 1 1, o_iload 1 3, o_cv 85 10 2, o_bad, o_bad, o_ist 2 6 false, o_bad, o_iload 2 6, o_bad, o_const 2 (.int (-2)), o_bad, o_ic (fun x y => ¬ x = y) 100, o_bad, o_bad]
def z_c86_1 : List zO := [o_const 2 (.int (8)), o_bad, o_aload 1 0, o_get 10 21, o_bad, o_bad, o_iload 1 3, o_ald .int, o_ib (fun x y => x * y), o_aload 1 0, o_get 10 22, o_bad, o_bad, o_iload 1 3, o_ald .int, o_ib (fun x y => x + y), o_const 1 (.int (1)), o_ib (fun x y => x - y), o_ist 2 7 false, o_bad, o_iinc 3 (1), o_bad, o_bad, o_aload 1 0, o_iload 1 3, o_aload 1 0, o_get 10 16, o_bad, o_bad, o_iload 2 7, o_bad, o_ald .int, o_const 1 (.int (0)), o_cv 84 10 3, o_bad, o_bad, o_iload 2 6, o_bad, o_if (fun x => x < 0) 181, o_bad, o_bad, o_iload 1 3, o_if (fun x => x < 0) 181, o_bad, o_bad, o_aload 1 0, o_get 10 20, o_bad, o_bad, o_if (fun x => ¬ x = 0) 181, o_bad, o_bad, o_iinc 3 (-1), o_bad, o_bad, o_iload 1 3, o_if (fun x => 0 ≤ x) 130, o_bad, o_bad, o_iload 2 6, o_bad, o_ist 2 4 false, o_bad, o_goto 100]
def z_c86_2 : List zO := [o_bad, o_bad, o_iload 2 6, o_bad, o_if (fun x => ¬ x = 0) 143, o_bad, o_bad, o_aload 1 0, o_const 1 (.int (1)), o_put 10 20 .boolean, o_bad, o_bad, o_goto 100, o_bad, o_bad, o_iload 2 6, o_bad, o_const 1 (.int (2)), o_ic (fun x y => ¬ x = y) 175, o_bad, o_bad, o_aload 1 0, o_get 10 14, o_bad, o_bad, o_const 2 (.int (8)), o_bad, o_aload 1 0, o_get 10 21, o_bad, o_bad, o_iload 1 3, o_ald .int, o_ib (fun x y => x * y), o_aload 1 0, o_get 10 22, o_bad, o_bad, o_iload 1 3, o_ald .int, o_ib (fun x y => x + y), o_const 1 (.int (1)), o_ib (fun x y => x - y), o_ald .int, o_goto 176, o_bad, o_bad, o_const 1 (.int (-1)), o_ist 2 6 false, o_bad, o_goto 100, o_bad, o_bad, o_iinc 5 (1), o_bad, o_bad, o_goto 30, o_bad, o_bad, o_aload 1 0, o_get 10 20, o_bad, o_bad, o_if (fun x => x = 0) 198]
def z_c86_3 : List zO := [o_bad, o_bad, o_const 1 (.int (5)), o_goto 200, o_bad, o_bad, o_iload 2 4, o_bad, o_iret .int]
def z_c87_0 : List zO := [o_aload 1 0, o_iload 1 2, o_cv 71 10 1, o_bad, o_bad, o_if (fun x => x = 0) 12, o_bad, o_bad, o_const 1 (.int (-1)), o_goto 18, o_bad, o_bad, o_aload 1 0, o_iload 1 1, o_iload 1 2, o_cv 86 10 2, o_bad, o_bad, o_iret .int]
def z_c88_0 : List zO := [o_aload 1 0, o_get 10 18, o_bad, o_bad, o_iret .int]
def z_c89_0 : List zO := [o_aload 1 0, o_get 10 19, o_bad, o_bad, o_iret .int]
def z_c90_0 : List zO := [o_aload 1 0, o_get 10 24, o_bad, o_bad, o_const 3 (.int (240)), o_bad, o_bad, o_ic (fun x y => x = y) 28, o_bad, o_bad, o_iload 1 1, o_const 2 (.int (10)), o_bad, o_ic (fun x y => x = y) 30, o_bad, o_bad, o_iload 1 1, o_const 2 (.int (32)), o_bad, o_ic (fun x y => x < y) 28, o_bad, o_bad, o_iload 1 1, o_const 2 (.int (126)), o_bad, o_ic (fun x y => x ≤ y) 30, o_bad, o_bad, o_const 1 (.int (0)), o_iret .boolean, o_aload 1 0, o_get 10 25, o_bad, o_bad, o_aload 1 0, o_get 10 24, o_bad, o_bad, o_iload 1 1, o_aast .int, o_aload 1 0, o_dup, o_get 10 24, o_bad, o_bad, o_const 1 (.int (1)), o_ib (fun x y => x + y), o_put 10 24 .int, o_bad, o_bad, o_const 1 (.int (1)), o_iret .boolean]
def z_c91_0 : List zO := [o_iload 1 1, o_const 2 (.int (65)), o_bad, o_ic (fun x y => x < y) 12, o_bad, o_bad, o_iload 1 1, o_const 2 (.int (90)), o_bad, o_ic (fun x y => x ≤ y) 42, o_bad, o_bad, o_iload 1 1, o_const 2 (.int (97)), o_bad, o_ic (fun x y => x < y) 24, o_bad, o_bad, o_iload 1 1, o_const 2 (.int (122)), o_bad, o_ic (fun x y => x ≤ y) 42, o_bad, o_bad, o_iload 1 1, o_const 2 (.int (48)), o_bad, o_ic (fun x y => x < y) 36, o_bad, o_bad, o_iload 1 1, o_const 2 (.int (57)), o_bad, o_ic (fun x y => x ≤ y) 42, o_bad, o_bad, o_iload 1 1, o_const 2 (.int (45)), o_bad, o_ic (fun x y => ¬ x = y) 46, o_bad, o_bad, o_const 1 (.int (1)), o_goto 47, o_bad, o_bad, o_const 1 (.int (0)), o_iret .boolean]
def z_c92_0 : List zO := [o_aload 1 0, o_get 10 26, o_bad, o_bad, o_const 2 (.int (60)), o_bad, o_ic (fun x y => x = y) 23, o_bad, o_bad, o_aload 1 0, o_iload 1 1, o_cv 91 10 1, o_bad, o_bad, o_if (fun x => ¬ x = 0) 25, o_bad, o_bad, o_iload 1 1, o_const 2 (.int (58)), o_bad, o_ic (fun x y => x = y) 25, o_bad, o_bad, o_const 1 (.int (0)), o_iret .boolean, o_aload 1 0, o_get 10 27, o_bad, o_bad, o_aload 1 0, o_get 10 26, o_bad, o_bad, o_iload 1 1, o_aast .int, o_aload 1 0, o_dup, o_get 10 26, o_bad, o_bad, o_const 1 (.int (1)), o_ib (fun x y => x + y), o_put 10 26 .int, o_bad, o_bad, o_const 1 (.int (1)), o_iret .boolean]
def z_c93_0 : List zO := [o_aload 1 0, o_const 1 (.int (0)), o_put 10 24 .int, o_bad, o_bad, o_aload 1 0, o_const 1 (.int (0)), o_put 10 26 .int, o_bad, o_bad, o_aload 1 0, o_const 1 (.int (0)), o_put 10 28 .int, o_bad, o_bad, o_vret]
def z_c94_0 : List zO := [o_iload 1 1, o_const 2 (.int (65)), o_bad, o_ic (fun x y => x < y) 19, o_bad, o_bad, o_iload 1 1, o_const 2 (.int (90)), o_bad, o_ic (fun x y => y < x) 19, o_bad, o_bad, o_iload 1 1, o_const 2 (.int (32)), o_bad, o_ib (fun x y => x + y), o_goto 20, o_bad, o_bad, o_iload 1 1, o_iret .int]
def z_c95_0 : List zO := [o_aload 1 0, o_const 1 (.int (0)), o_put 10 33 .int, o_bad, o_bad, o_const 1 (.int (0)), o_ist 1 1 false, o_const 1 (.int (0)), o_ist 1 2 false, o_iload 1 2, o_aload 1 0, o_get 10 24, o_bad, o_bad, o_ic (fun x y => y ≤ x) 68, o_bad, o_bad, o_aload 1 0, o_get 10 25, o_bad, o_bad, o_iload 1 2, o_ald .int, o_const 2 (.int (10)), o_bad, o_ic (fun x y => ¬ x = y) 62, o_bad, o_bad, o_aload 1 0, o_get 10 34, o_bad, o_bad, o_aload 1 0, o_get 10 33, o_bad, o_bad, o_iload 1 1, o_aast .int, o_aload 1 0, o_get 10 35, o_bad, o_bad, o_aload 1 0, o_get 10 33, o_bad, o_bad, o_iload 1 2, o_aast .int, o_aload 1 0, o_dup, o_get 10 33, o_bad, o_bad, o_const 1 (.int (1)), o_ib (fun x y => x + y), o_put 10 33 .int, o_bad, o_bad, o_iload 1 2, o_const 1 (.int (1)), o_ib (fun x y => x + y), o_ist 1 1 false, o_iinc 2 (1), o_bad]
def z_c95_1 : List zO := [o_bad, o_goto 9, o_bad, o_bad, o_iload 1 1, o_aload 1 0, o_get 10 24, o_bad, o_bad, o_ic (fun x y => y ≤ x) 109, o_bad, o_bad, o_aload 1 0, o_get 10 34, o_bad, o_bad, o_aload 1 0, o_get 10 33, o_bad, o_bad, o_iload 1 1, o_aast .int, o_aload 1 0, o_get 10 35, o_bad, o_bad, o_aload 1 0, o_get 10 33, o_bad, o_bad, o_aload 1 0, o_get 10 24, o_bad, o_bad, o_aast .int, o_aload 1 0, o_dup, o_get 10 33, o_bad, o_bad, o_const 1 (.int (1)), o_ib (fun x y => x + y), o_put 10 33 .int, o_bad, o_bad, o_aload 1 0, o_aload 1 0, o_get 10 33, o_bad, o_bad, o_put 10 36 .int, o_bad, o_bad, o_aload 1 0, o_get 10 33, o_bad, o_bad, o_const 1 (.int (1)), o_ib (fun x y => x - y), o_ist 1 2 false, o_iload 1 2, o_if (fun x => x < 0) 161, o_bad, o_bad]
def z_c95_2 : List zO := [o_aload 1 0, o_aload 1 0, o_get 10 34, o_bad, o_bad, o_iload 1 2, o_ald .int, o_aload 1 0, o_get 10 35, o_bad, o_bad, o_iload 1 2, o_ald .int, o_ic (fun x y => ¬ x = y) 148, o_bad, o_bad, o_iload 1 2, o_goto 152, o_bad, o_bad, o_aload 1 0, o_get 10 36, o_bad, o_bad, o_put 10 36 .int, o_bad, o_bad, o_iinc 2 (-1), o_bad, o_bad, o_goto 124, o_bad, o_bad, o_vret]
def z_c96_0 : List zO := [o_aload 1 0, o_cv 95 10 0, o_bad, o_bad, o_aload 1 0, o_const 1 (.int (0)), o_put 10 37 .int, o_bad, o_bad, o_const 1 (.int (0)), o_ist 1 1 false, o_iload 1 1, o_aload 1 0, o_get 10 36, o_bad, o_bad, o_ic (fun x y => y ≤ x) 200, o_bad, o_bad, o_aload 1 0, o_get 10 25, o_bad, o_bad, o_aload 1 0, o_get 10 34, o_bad, o_bad, o_iload 1 1, o_ald .int, o_ald .int, o_const 2 (.int (32)), o_bad, o_ic (fun x y => ¬ x = y) 59, o_bad, o_bad, o_aload 1 0, o_get 10 37, o_bad, o_bad, o_if (fun x => ¬ x = 0) 44, o_bad, o_bad, o_const 1 (.int (0)), o_iret .boolean, o_aload 1 0, o_get 10 39, o_bad, o_bad, o_aload 1 0, o_get 10 37, o_bad, o_bad, o_const 1 (.int (1)), o_ib (fun x y => x - y), o_iload 1 1, o_aast .int, o_goto 194, o_bad, o_bad, o_const 1 (.int (0)), o_ist 1 2 false, o_aload 1 0, o_get 10 34, o_bad]
def z_c96_1 : List zO := [o_bad, o_iload 1 1, o_ald .int, o_iload 1 2, o_ib (fun x y => x + y), o_aload 1 0, o_get 10 35, o_bad, o_bad, o_iload 1 1, o_ald .int, o_ic (fun x y => y ≤ x) 104, o_bad, o_bad, o_aload 1 0, o_aload 1 0, o_get 10 25, o_bad, o_bad, o_aload 1 0, o_get 10 34, o_bad, o_bad, o_iload 1 1, o_ald .int, o_iload 1 2, o_ib (fun x y => x + y), o_ald .int, o_cv 91 10 1, o_bad, o_bad, o_if (fun x => x = 0) 104, o_bad, o_bad, o_iinc 2 (1), o_bad, o_bad, o_goto 61, o_bad, o_bad, o_iload 1 2, o_if (fun x => x = 0) 152, o_bad, o_bad, o_aload 1 0, o_get 10 34, o_bad, o_bad, o_iload 1 1, o_ald .int, o_iload 1 2, o_ib (fun x y => x + y), o_aload 1 0, o_get 10 35, o_bad, o_bad, o_iload 1 1, o_ald .int, o_ic (fun x y => x = y) 152, o_bad, o_bad, o_aload 1 0, o_get 10 25, o_bad]
def z_c96_2 : List zO := [o_bad, o_aload 1 0, o_get 10 34, o_bad, o_bad, o_iload 1 1, o_ald .int, o_iload 1 2, o_ib (fun x y => x + y), o_ald .int, o_const 2 (.int (58)), o_bad, o_ic (fun x y => ¬ x = y) 152, o_bad, o_bad, o_aload 1 0, o_get 10 37, o_bad, o_bad, o_const 2 (.int (12)), o_bad, o_ic (fun x y => ¬ x = y) 154, o_bad, o_bad, o_const 1 (.int (0)), o_iret .boolean, o_aload 1 0, o_get 10 38, o_bad, o_bad, o_aload 1 0, o_get 10 37, o_bad, o_bad, o_iload 1 1, o_aast .int, o_aload 1 0, o_get 10 39, o_bad, o_bad, o_aload 1 0, o_get 10 37, o_bad, o_bad, o_iload 1 1, o_aast .int, o_aload 1 0, o_get 10 40, o_bad, o_bad, o_aload 1 0, o_get 10 37, o_bad, o_bad, o_iload 1 2, o_aast .int, o_aload 1 0, o_dup, o_get 10 37, o_bad, o_bad, o_const 1 (.int (1)), o_ib (fun x y => x + y), o_put 10 37 .int]
def z_c96_3 : List zO := [o_bad, o_bad, o_iinc 1 (1), o_bad, o_bad, o_goto 11, o_bad, o_bad, o_const 1 (.int (1)), o_iret .boolean]
def z_c97_0 : List zO := [o_aload 1 0, o_cv 96 10 0, o_bad, o_bad, o_if (fun x => x = 0) 14, o_bad, o_bad, o_aload 1 0, o_get 10 37, o_bad, o_bad, o_goto 15, o_bad, o_bad, o_const 1 (.int (-1)), o_iret .int]
def z_c98_0 : List zO := [o_aload 1 0, o_get 10 43, o_bad, o_bad, o_aload 1 0, o_get 10 42, o_bad, o_bad, o_iload 1 1, o_aast .int, o_aload 1 0, o_dup, o_get 10 42, o_bad, o_bad, o_const 1 (.int (1)), o_ib (fun x y => x + y), o_put 10 42 .int, o_bad, o_bad, o_vret]
def z_c99_0 : List zO := [o_aload 1 0, o_get 10 34, o_bad, o_bad, o_iload 1 1, o_ald .int, o_ist 1 2 false, o_iload 1 2, o_aload 1 0, o_get 10 35, o_bad, o_bad, o_iload 1 1, o_ald .int, o_ic (fun x y => y ≤ x) 33, o_bad, o_bad, o_aload 1 0, o_aload 1 0, o_get 10 25, o_bad, o_bad, o_iload 1 2, o_ald .int, o_cv 98 10 1, o_bad, o_bad, o_iinc 2 (1), o_bad, o_bad, o_goto 7, o_bad, o_bad, o_aload 1 0, o_const 2 (.int (10)), o_bad, o_cv 98 10 1, o_bad, o_bad, o_vret]
def z_c100_0 : List zO := [o_aload 1 0, o_get 10 34, o_bad, o_bad, o_aload 1 0, o_get 10 38, o_bad, o_bad, o_iload 1 1, o_ald .int, o_ald .int, o_ist 1 2 false, o_const 1 (.int (0)), o_ist 1 3 false, o_iload 1 3, o_aload 1 0, o_get 10 40, o_bad, o_bad, o_iload 1 1, o_ald .int, o_ic (fun x y => y ≤ x) 46, o_bad, o_bad, o_aload 1 0, o_aload 1 0, o_aload 1 0, o_get 10 25, o_bad, o_bad, o_iload 1 2, o_iload 1 3, o_ib (fun x y => x + y), o_ald .int, o_cv 94 10 1, o_bad, o_bad, o_cv 98 10 1, o_bad, o_bad, o_iinc 3 (1), o_bad, o_bad, o_goto 14, o_bad, o_bad, o_aload 1 0, o_const 2 (.int (58)), o_bad, o_cv 98 10 1, o_bad, o_bad, o_aload 1 0, o_get 10 42, o_bad, o_bad, o_ist 1 3 false, o_const 1 (.int (0)), o_ist 2 4 false, o_bad, o_iload 1 2, o_aload 1 0, o_get 10 40, o_bad]
def z_c100_1 : List zO := [o_bad, o_iload 1 1, o_ald .int, o_ib (fun x y => x + y), o_const 1 (.int (1)), o_ib (fun x y => x + y), o_ist 2 5 false, o_bad, o_iload 2 5, o_bad, o_aload 1 0, o_get 10 35, o_bad, o_bad, o_aload 1 0, o_get 10 39, o_bad, o_bad, o_iload 1 1, o_ald .int, o_ald .int, o_ic (fun x y => y ≤ x) 157, o_bad, o_bad, o_aload 1 0, o_get 10 25, o_bad, o_bad, o_iload 2 5, o_bad, o_ald .int, o_const 2 (.int (32)), o_bad, o_ic (fun x y => ¬ x = y) 106, o_bad, o_bad, o_const 1 (.int (1)), o_ist 2 4 false, o_bad, o_goto 151, o_bad, o_bad, o_aload 1 0, o_get 10 25, o_bad, o_bad, o_iload 2 5, o_bad, o_ald .int, o_const 2 (.int (10)), o_bad, o_ic (fun x y => x = y) 151, o_bad, o_bad, o_iload 2 4, o_bad, o_if (fun x => x = 0) 137, o_bad, o_bad, o_aload 1 0, o_get 10 42, o_bad, o_bad, o_iload 1 3]
def z_c100_2 : List zO := [o_ic (fun x y => x ≤ y) 137, o_bad, o_bad, o_aload 1 0, o_const 2 (.int (32)), o_bad, o_cv 98 10 1, o_bad, o_bad, o_const 1 (.int (0)), o_ist 2 4 false, o_bad, o_aload 1 0, o_aload 1 0, o_get 10 25, o_bad, o_bad, o_iload 2 5, o_bad, o_ald .int, o_cv 98 10 1, o_bad, o_bad, o_iinc 5 (1), o_bad, o_bad, o_goto 72, o_bad, o_bad, o_aload 1 0, o_const 2 (.int (10)), o_bad, o_cv 98 10 1, o_bad, o_bad, o_vret]
def z_c101_0 : List zO := [o_const 1 (.int (0)), o_ist 1 2 false, o_aload 1 0, o_get 10 34, o_bad, o_bad, o_iload 1 1, o_ald .int, o_ist 1 3 false, o_iload 1 3, o_aload 1 0, o_get 10 35, o_bad, o_bad, o_iload 1 1, o_ald .int, o_ic (fun x y => y ≤ x) 63, o_bad, o_bad, o_aload 1 0, o_get 10 25, o_bad, o_bad, o_iload 1 3, o_ald .int, o_const 2 (.int (32)), o_bad, o_ic (fun x y => ¬ x = y) 35, o_bad, o_bad, o_const 1 (.int (1)), o_ist 1 2 false, o_goto 57, o_bad, o_bad, o_iload 1 2, o_if (fun x => x = 0) 45, o_bad, o_bad, o_aload 1 0, o_const 2 (.int (32)), o_bad, o_cv 98 10 1, o_bad, o_bad, o_const 1 (.int (0)), o_ist 1 2 false, o_aload 1 0, o_aload 1 0, o_get 10 25, o_bad, o_bad, o_iload 1 3, o_ald .int, o_cv 98 10 1, o_bad, o_bad, o_iinc 3 (1), o_bad, o_bad, o_goto 9, o_bad, o_bad, o_aload 1 0]
def z_c101_1 : List zO := [o_const 2 (.int (10)), o_bad, o_cv 98 10 1, o_bad, o_bad, o_vret]
def z_c102_0 : List zO := [o_const 1 (.int (1)), o_ist 1 2 false, o_aload 1 0, o_get 10 34, o_bad, o_bad, o_iload 1 1, o_ald .int, o_ist 1 3 false, o_iload 1 3, o_aload 1 0, o_get 10 35, o_bad, o_bad, o_iload 1 1, o_ald .int, o_ic (fun x y => y ≤ x) 46, o_bad, o_bad, o_iload 1 2, o_if (fun x => x = 0) 38, o_bad, o_bad, o_aload 1 0, o_get 10 25, o_bad, o_bad, o_iload 1 3, o_ald .int, o_const 2 (.int (32)), o_bad, o_ic (fun x y => ¬ x = y) 38, o_bad, o_bad, o_const 1 (.int (1)), o_goto 39, o_bad, o_bad, o_const 1 (.int (0)), o_ist 1 2 false, o_iinc 3 (1), o_bad, o_bad, o_goto 9, o_bad, o_bad, o_iload 1 2, o_iret .boolean]
def z_c103_0 : List zO := [o_aload 1 0, o_get 10 33, o_bad, o_bad, o_ist 1 2 false, o_iload 1 2, o_aload 1 0, o_get 10 36, o_bad, o_bad, o_const 1 (.int (1)), o_ib (fun x y => x + y), o_ic (fun x y => x ≤ y) 57, o_bad, o_bad, o_iload 1 1, o_if (fun x => x = 0) 32, o_bad, o_bad, o_aload 1 0, o_iload 1 2, o_const 1 (.int (1)), o_ib (fun x y => x - y), o_cv 102 10 1, o_bad, o_bad, o_if (fun x => x = 0) 57, o_bad, o_bad, o_goto 51, o_bad, o_bad, o_aload 1 0, o_get 10 34, o_bad, o_bad, o_iload 1 2, o_const 1 (.int (1)), o_ib (fun x y => x - y), o_ald .int, o_aload 1 0, o_get 10 35, o_bad, o_bad, o_iload 1 2, o_const 1 (.int (1)), o_ib (fun x y => x - y), o_ald .int, o_ic (fun x y => ¬ x = y) 57, o_bad, o_bad, o_iinc 2 (-1), o_bad, o_bad, o_goto 5, o_bad, o_bad, o_aload 1 0, o_get 10 36, o_bad, o_bad, o_const 1 (.int (1)), o_ib (fun x y => x + y), o_ist 1 3 false]
def z_c103_1 : List zO := [o_iload 1 3, o_iload 1 2, o_ic (fun x y => y ≤ x) 92, o_bad, o_bad, o_iload 1 1, o_if (fun x => x = 0) 81, o_bad, o_bad, o_aload 1 0, o_iload 1 3, o_cv 101 10 1, o_bad, o_bad, o_goto 86, o_bad, o_bad, o_aload 1 0, o_iload 1 3, o_cv 99 10 1, o_bad, o_bad, o_iinc 3 (1), o_bad, o_bad, o_goto 64, o_bad, o_bad, o_iload 1 1, o_if (fun x => ¬ x = 0) 112, o_bad, o_bad, o_iload 1 2, o_aload 1 0, o_get 10 36, o_bad, o_bad, o_const 1 (.int (1)), o_ib (fun x y => x + y), o_ic (fun x y => y < x) 112, o_bad, o_bad, o_aload 1 0, o_const 2 (.int (10)), o_bad, o_cv 98 10 1, o_bad, o_bad, o_vret]
def z_c104_0 : List zO := [o_aload 1 0, o_get 10 37, o_bad, o_bad, o_const 1 (.int (1)), o_ib (fun x y => x - y), o_ist 1 3 false, o_iload 1 3, o_if (fun x => x < 0) 116, o_bad, o_bad, o_aload 1 0, o_get 10 41, o_bad, o_bad, o_iload 1 3, o_ald .boolean, o_if (fun x => ¬ x = 0) 34, o_bad, o_bad, o_aload 1 0, o_get 10 40, o_bad, o_bad, o_iload 1 3, o_ald .int, o_iload 1 2, o_ic (fun x y => ¬ x = y) 34, o_bad, o_bad, o_const 1 (.int (1)), o_goto 35, o_bad, o_bad, o_const 1 (.int (0)), o_ist 2 4 false, o_bad, o_const 1 (.int (0)), o_ist 2 5 false, o_bad, o_iload 2 5, o_bad, o_iload 1 2, o_ic (fun x y => y ≤ x) 103, o_bad, o_bad, o_iload 2 4, o_bad, o_if (fun x => x = 0) 103, o_bad, o_bad, o_aload 1 0, o_aload 1 0, o_get 10 27, o_bad, o_bad, o_iload 1 1, o_iload 2 5, o_bad, o_ib (fun x y => x + y), o_ald .int, o_cv 94 10 1, o_bad, o_bad]
def z_c104_1 : List zO := [o_aload 1 0, o_aload 1 0, o_get 10 25, o_bad, o_bad, o_aload 1 0, o_get 10 34, o_bad, o_bad, o_aload 1 0, o_get 10 38, o_bad, o_bad, o_iload 1 3, o_ald .int, o_ald .int, o_iload 2 5, o_bad, o_ib (fun x y => x + y), o_ald .int, o_cv 94 10 1, o_bad, o_bad, o_ic (fun x y => ¬ x = y) 94, o_bad, o_bad, o_const 1 (.int (1)), o_goto 95, o_bad, o_bad, o_const 1 (.int (0)), o_ist 2 4 false, o_bad, o_iinc 5 (1), o_bad, o_bad, o_goto 40, o_bad, o_bad, o_iload 2 4, o_bad, o_if (fun x => x = 0) 110, o_bad, o_bad, o_iload 1 3, o_iret .int, o_iinc 3 (-1), o_bad, o_bad, o_goto 7, o_bad, o_bad, o_const 1 (.int (-1)), o_iret .int]
def z_c105_0 : List zO := [o_aload 1 0, o_cv 96 10 0, o_bad, o_bad, o_if (fun x => ¬ x = 0) 9, o_bad, o_bad, o_const 1 (.int (0)), o_iret .boolean, o_aload 1 0, o_const 1 (.int (0)), o_put 10 42 .int, o_bad, o_bad, o_const 1 (.int (0)), o_ist 1 3 false, o_iload 1 3, o_aload 1 0, o_get 10 37, o_bad, o_bad, o_ic (fun x y => y ≤ x) 37, o_bad, o_bad, o_aload 1 0, o_get 10 41, o_bad, o_bad, o_iload 1 3, o_const 1 (.int (0)), o_aast .boolean, o_iinc 3 (1), o_bad, o_bad, o_goto 16, o_bad, o_bad, o_const 1 (.int (0)), o_ist 1 3 false, o_iload 1 3, o_aload 1 0, o_get 10 26, o_bad, o_bad, o_ic (fun x y => y ≤ x) 129, o_bad, o_bad, o_const 1 (.int (0)), o_ist 2 4 false, o_bad, o_iload 1 3, o_iload 2 4, o_bad, o_ib (fun x y => x + y), o_aload 1 0, o_get 10 26, o_bad, o_bad, o_ic (fun x y => y ≤ x) 81, o_bad, o_bad, o_aload 1 0, o_get 10 27, o_bad]
def z_c105_1 : List zO := [o_bad, o_iload 1 3, o_iload 2 4, o_bad, o_ib (fun x y => x + y), o_ald .int, o_const 2 (.int (58)), o_bad, o_ic (fun x y => x = y) 81, o_bad, o_bad, o_iinc 4 (1), o_bad, o_bad, o_goto 50, o_bad, o_bad, o_iload 2 4, o_bad, o_if (fun x => x ≤ 0) 96, o_bad, o_bad, o_aload 1 0, o_iload 1 3, o_iload 2 4, o_bad, o_cv 104 10 2, o_bad, o_bad, o_goto 97, o_bad, o_bad, o_const 1 (.int (-1)), o_ist 2 5 false, o_bad, o_iload 2 5, o_bad, o_if (fun x => x < 0) 119, o_bad, o_bad, o_aload 1 0, o_get 10 41, o_bad, o_bad, o_iload 2 5, o_bad, o_const 1 (.int (1)), o_aast .boolean, o_aload 1 0, o_iload 2 5, o_bad, o_iload 1 1, o_cv 106 10 2, o_bad, o_bad, o_iload 1 3, o_iload 2 4, o_bad, o_ib (fun x y => x + y), o_const 1 (.int (1)), o_ib (fun x y => x + y), o_ist 1 3 false, o_goto 39, o_bad]
def z_c105_2 : List zO := [o_bad, o_aload 1 0, o_iload 1 2, o_cv 103 10 1, o_bad, o_bad, o_const 1 (.int (1)), o_iret .boolean]
def z_c106_0 : List zO := [o_iload 1 2, o_if (fun x => x = 0) 10, o_bad, o_bad, o_aload 1 0, o_iload 1 1, o_cv 100 10 1, o_bad, o_bad, o_vret, o_aload 1 0, o_get 10 38, o_bad, o_bad, o_iload 1 1, o_ald .int, o_ist 1 3 false, o_iload 1 3, o_aload 1 0, o_get 10 39, o_bad, o_bad, o_iload 1 1, o_ald .int, o_ic (fun x y => y < x) 38, o_bad, o_bad, o_aload 1 0, o_iload 1 3, o_cv 99 10 1, o_bad, o_bad, o_iinc 3 (1), o_bad, o_bad, o_goto 17, o_bad, o_bad, o_vret]
def z_c107_0 : List zO := [o_aload 1 0, o_iload 1 1, o_iload 1 2, o_cv 105 10 2, o_bad, o_bad, o_if (fun x => x = 0) 16, o_bad, o_bad, o_aload 1 0, o_get 10 42, o_bad, o_bad, o_goto 17, o_bad, o_bad, o_const 1 (.int (-1)), o_iret .int]
def z_c108_0 : List zO := [o_aload 1 0, o_iload 1 1, o_iload 1 2, o_cv 105 10 2, o_bad, o_bad, o_if (fun x => x = 0) 21, o_bad, o_bad, o_iload 1 3, o_if (fun x => x < 0) 21, o_bad, o_bad, o_iload 1 3, o_aload 1 0, o_get 10 42, o_bad, o_bad, o_ic (fun x y => x < y) 25, o_bad, o_bad, o_const 1 (.int (-1)), o_goto 31, o_bad, o_bad, o_aload 1 0, o_get 10 43, o_bad, o_bad, o_iload 1 3, o_ald .int, o_iret .int]
def z_c109_0 : List zO := [o_aload 1 0, o_iload 1 1, o_iload 1 2, o_cv 105 10 2, o_bad, o_bad, o_if (fun x => ¬ x = 0) 11, o_bad, o_bad, o_const 1 (.int (-1)), o_iret .int, o_const 1 (.long 0), o_lst 1 3, o_const 1 (.int (0)), o_ist 2 5 true, o_bad, o_iload 2 5, o_bad, o_aload 1 0, o_get 10 42, o_bad, o_bad, o_ic (fun x y => y ≤ x) 52, o_bad, o_bad, o_const 3 (.long 257), o_bad, o_bad, o_lload 1 3, o_lb (fun x y => x * y), o_aload 1 0, o_get 10 43, o_bad, o_bad, o_iload 2 5, o_bad, o_ald .int, o_i2l, o_lb (fun x y => x + y), o_const 1 (.long 1), o_lb (fun x y => x + y), o_const 3 (.long 2147483647), o_bad, o_bad, o_lbn (fun x y => x - x / y * y), o_lst 1 3, o_iinc 5 (1), o_bad, o_bad, o_goto 16, o_bad, o_bad, o_lload 1 3, o_l2i, o_iret .int]
def z_c110_0 : List zO := [o_aload 1 0, o_iload 1 1, o_cv 71 10 1, o_bad, o_bad, o_if (fun x => x = 0) 10, o_bad, o_bad, o_const 1 (.int (-1)), o_iret .int, o_aload 1 0, o_get 10 28, o_bad, o_bad, o_const 1 (.int (3)), o_ic (fun x y => ¬ x = y) 21, o_bad, o_bad, o_const 2 (.int (-2)), o_bad, o_iret .int, o_aload 1 0, o_get 10 29, o_bad, o_bad, o_aload 1 0, o_get 10 28, o_bad, o_bad, o_iload 1 1, o_aast .int, o_aload 1 0, o_get 10 30, o_bad, o_bad, o_aload 1 0, o_get 10 28, o_bad, o_bad, o_iload 1 2, o_aast .boolean, o_aload 1 0, o_get 10 31, o_bad, o_bad, o_aload 1 0, o_get 10 28, o_bad, o_bad, o_iload 1 3, o_aast .boolean, o_aload 1 0, o_get 10 32, o_bad, o_bad, o_aload 1 0, o_get 10 28, o_bad, o_bad, o_iload 2 4, o_bad, o_aast .int, o_aload 1 0, o_dup]
def z_c110_1 : List zO := [o_get 10 28, o_bad, o_bad, o_const 1 (.int (1)), o_ib (fun x y => x + y), o_put 10 28 .int, o_bad, o_bad, o_aload 1 0, o_get 10 28, o_bad, o_bad, o_iret .int]
def z_c111_0 : List zO := [o_iload 1 1, o_if (fun x => x < 0) 26, o_bad, o_bad, o_iload 1 1, o_aload 1 0, o_get 10 28, o_bad, o_bad, o_ic (fun x y => y ≤ x) 26, o_bad, o_bad, o_aload 1 0, o_get 10 7, o_bad, o_bad, o_aload 1 0, o_get 10 29, o_bad, o_bad, o_iload 1 1, o_ald .int, o_ald .int, o_if (fun x => ¬ x = 0) 28, o_bad, o_bad, o_const 1 (.int (0)), o_iret .boolean, o_aload 1 0, o_aload 1 0, o_get 10 30, o_bad, o_bad, o_iload 1 1, o_ald .boolean, o_aload 1 0, o_get 10 31, o_bad, o_bad, o_iload 1 1, o_ald .boolean, o_cv 109 10 2, o_bad, o_bad, o_ist 1 2 true, o_iload 1 2, o_if (fun x => 0 ≤ x) 51, o_bad, o_bad, o_const 1 (.int (0)), o_iret .boolean, o_aload 1 0, o_get 10 7, o_bad, o_bad, o_aload 1 0, o_get 10 29, o_bad, o_bad, o_iload 1 1, o_ald .int, o_ald .int, o_i2l, o_lst 1 3]
def z_c111_1 : List zO := [o_aload 1 0, o_get 10 32, o_bad, o_bad, o_iload 1 1, o_ald .int, o_i2l, o_lload 1 3, o_lbn (fun x y => x - x / y * y), o_lload 1 3, o_lb (fun x y => x + y), o_lload 1 3, o_lbn (fun x y => x - x / y * y), o_lst 2 5, o_bad, o_const 1 (.long 1), o_lload 1 3, o_lbn (fun x y => x - x / y * y), o_lst 2 7, o_bad, o_const 2 (.int (30)), o_bad, o_ist 2 9 true, o_bad, o_iload 2 9, o_bad, o_if (fun x => x < 0) 142, o_bad, o_bad, o_lload 2 7, o_bad, o_lload 2 7, o_bad, o_lb (fun x y => x * y), o_lload 1 3, o_lbn (fun x y => x - x / y * y), o_lst 2 7, o_bad, o_aload 1 0, o_get 10 8, o_bad, o_bad, o_aload 1 0, o_get 10 29, o_bad, o_bad, o_iload 1 1, o_ald .int, o_ald .int, o_iload 2 9, o_bad, o_ib (fun x y => x >>> (y &&& 31)), o_const 1 (.int (1)), o_ib (fun x y => x &&& y), o_const 1 (.int (1)), o_ic (fun x y => ¬ x = y) 132, o_bad, o_bad, o_lload 2 7, o_bad, o_lload 2 5, o_bad, o_lb (fun x y => x * y), o_lload 1 3]
def z_c111_2 : List zO := [o_lbn (fun x y => x - x / y * y), o_goto 134, o_bad, o_bad, o_lload 2 7, o_bad, o_lst 2 7, o_bad, o_iinc 9 (-1), o_bad, o_bad, o_goto 88, o_bad, o_bad, o_lload 2 7, o_bad, o_iload 1 2, o_i2l, o_lload 1 3, o_lbn (fun x y => x - x / y * y), o_lcmp, o_if (fun x => ¬ x = 0) 156, o_bad, o_bad, o_const 1 (.int (1)), o_goto 157, o_bad, o_bad, o_const 1 (.int (0)), o_iret .boolean]
def z_c112_0 : List zO := [o_iload 1 1, o_ist 1 2 false, o_const 1 (.int (0)), o_ist 1 3 false, o_iload 1 3, o_const 2 (.int (12)), o_bad, o_ic (fun x y => y ≤ x) 55, o_bad, o_bad, o_aload 1 0, o_get 10 2, o_bad, o_bad, o_iload 1 1, o_ald .boolean, o_if (fun x => ¬ x = 0) 55, o_bad, o_bad, o_aload 1 0, o_get 10 1, o_bad, o_bad, o_iload 1 2, o_ald .int, o_ist 2 4 false, o_bad, o_iload 2 4, o_bad, o_if (fun x => x < 0) 47, o_bad, o_bad, o_aload 1 0, o_get 10 2, o_bad, o_bad, o_iload 2 4, o_bad, o_ald .boolean, o_if (fun x => ¬ x = 0) 47, o_bad, o_bad, o_iload 2 4, o_bad, o_goto 48, o_bad, o_bad, o_iload 1 2, o_ist 1 2 false, o_iinc 3 (1), o_bad, o_bad, o_goto 4, o_bad, o_bad, o_iload 1 2, o_iret .int]
def z_c113_0 : List zO := [o_iload 1 1, o_iload 1 2, o_ic (fun x y => x = y) 22, o_bad, o_bad, o_iload 1 3, o_if (fun x => ¬ x = 0) 26, o_bad, o_bad, o_aload 1 0, o_iload 1 1, o_cv 112 10 1, o_bad, o_bad, o_aload 1 0, o_iload 1 2, o_cv 112 10 1, o_bad, o_bad, o_ic (fun x y => ¬ x = y) 26, o_bad, o_bad, o_const 1 (.int (1)), o_goto 27, o_bad, o_bad, o_const 1 (.int (0)), o_iret .boolean]
def z_c114_0 : List zO := [o_aload 1 0, o_iload 1 2, o_cv 71 10 1, o_bad, o_bad, o_if (fun x => ¬ x = 0) 16, o_bad, o_bad, o_aload 1 0, o_iload 1 3, o_cv 71 10 1, o_bad, o_bad, o_if (fun x => x = 0) 18, o_bad, o_bad, o_const 1 (.int (-1)), o_iret .int, o_aload 1 0, o_iload 1 1, o_iload 1 2, o_cv 86 10 2, o_bad, o_bad, o_ist 2 4 false, o_bad, o_aload 1 0, o_get 10 9, o_bad, o_bad, o_iload 1 3, o_ald .int, o_if (fun x => x < 0) 39, o_bad, o_bad, o_iload 1 3, o_goto 44, o_bad, o_bad, o_aload 1 0, o_iload 1 3, o_cv 112 10 1, o_bad, o_bad, o_ist 2 5 false, o_bad, o_aload 1 0, o_get 10 9, o_bad, o_bad, o_iload 2 5, o_bad, o_ald .int, o_if (fun x => 0 ≤ x) 58, o_bad, o_bad, o_const 1 (.int (0)), o_iret .int, o_iload 2 4, o_bad, o_const 1 (.int (2)), o_ic (fun x y => ¬ x = y) 84, o_bad, o_bad]
def z_c114_1 : List zO := [o_aload 1 0, o_iload 1 2, o_iload 1 3, o_aload 1 0, o_get 10 11, o_bad, o_bad, o_iload 2 5, o_bad, o_ald .boolean, o_cv 113 10 3, o_bad, o_bad, o_if (fun x => x = 0) 84, o_bad, o_bad, o_const 1 (.int (1)), o_goto 85, o_bad, o_bad, o_const 1 (.int (0)), o_ist 2 6 false, o_bad, o_const 1 (.int (0)), o_ist 2 7 false, o_bad, o_iload 2 7, o_bad, o_aload 1 0, o_get 10 28, o_bad, o_bad, o_ic (fun x y => y ≤ x) 152, o_bad, o_bad, o_aload 1 0, o_iload 2 7, o_bad, o_cv 111 10 1, o_bad, o_bad, o_ist 2 8 false, o_bad, o_iload 2 6, o_bad, o_if (fun x => ¬ x = 0) 139, o_bad, o_bad, o_iload 2 8, o_bad, o_if (fun x => x = 0) 143, o_bad, o_bad, o_aload 1 0, o_aload 1 0, o_get 10 29, o_bad, o_bad, o_iload 2 7, o_bad, o_ald .int, o_iload 1 3, o_aload 1 0, o_get 10 12]
def z_c114_2 : List zO := [o_bad, o_bad, o_iload 2 5, o_bad, o_ald .boolean, o_cv 113 10 3, o_bad, o_bad, o_if (fun x => x = 0) 143, o_bad, o_bad, o_const 1 (.int (1)), o_goto 144, o_bad, o_bad, o_const 1 (.int (0)), o_ist 2 6 false, o_bad, o_iinc 7 (1), o_bad, o_bad, o_goto 90, o_bad, o_bad, o_iload 2 6, o_bad, o_if (fun x => x = 0) 161, o_bad, o_bad, o_const 1 (.int (1)), o_goto 186, o_bad, o_bad, o_const 1 (.int (2)), o_iload 2 5, o_bad, o_iload 1 3, o_ic (fun x y => ¬ x = y) 178, o_bad, o_bad, o_aload 1 0, o_get 10 9, o_bad, o_bad, o_iload 2 5, o_bad, o_ald .int, o_goto 185, o_bad, o_bad, o_aload 1 0, o_get 10 10, o_bad, o_bad, o_iload 2 5, o_bad, o_ald .int, o_ib (fun x y => x + y), o_iret .int]
def z_c115_0 : List zO := [o_new 0 8 [.null, .int 0, .null, .null, .null, .null, .null, .int 0], o_bad, o_bad, o_dup, o_ci 0 0, o_bad, o_bad, o_ast 1 1 false, o_new 10 44 [.int 0, .null, .null, .null, .null, .null, .null, .null, .null, .null, .null, .null, .null, .null, .null, .null, .null, .null, .int 0, .int 0, .int 0, .null, .null, .null, .int 0, .null, .int 0, .null, .int 0, .null, .null, .null, .null, .int 0, .null, .null, .int 0, .int 0, .null, .null, .null, .null, .int 0, .null], o_bad, o_bad, o_dup, o_ci 70 0, o_bad, o_bad, o_ast 1 2 false, o_const 1 (.int (0)), o_ist 1 3 false, o_iload 1 3, o_aload 1 0, o_alen, o_const 2 (.int (6)), o_bad, o_ib (fun x y => x - y), o_ic (fun x y => y < x) 935, o_bad, o_bad, o_aload 1 0, o_iload 1 3, o_ald (.array .int), o_const 2 (.int (31)), o_bad, o_ib (fun x y => x &&& y), o_tab 0 [124, 173, 206, 239, 302, 345, 440, 473, 486, 499, 524, 549, 560, 573, 638, 713, 778, 863, 886] 929, o_bad, o_bad, o_bad, o_bad, o_bad, o_bad, o_bad, o_bad, o_bad, o_bad, o_bad, o_bad, o_bad, o_bad, o_bad, o_bad, o_bad, o_bad, o_bad, o_bad, o_bad, o_bad, o_bad, o_bad, o_bad, o_bad, o_bad, o_bad, o_bad, o_bad]
def z_c115_1 : List zO := [o_bad, o_bad, o_bad, o_bad, o_bad, o_bad, o_bad, o_bad, o_bad, o_bad, o_bad, o_bad, o_bad, o_bad, o_bad, o_bad, o_bad, o_bad, o_bad, o_bad, o_bad, o_bad, o_bad, o_bad, o_bad, o_bad, o_bad, o_bad, o_bad, o_bad, o_bad, o_bad, o_bad, o_bad, o_bad, o_bad, o_bad, o_bad, o_bad, o_bad, o_bad, o_bad, o_bad, o_bad, o_bad, o_bad, o_bad, o_bad, o_bad, o_bad, o_bad, o_bad, o_bad, o_bad, o_bad, o_bad, o_bad, o_bad, o_bad, o_bad, o_aload 1 1, o_aload 1 0, o_iload 1 3, o_const 1 (.int (1))]
def z_c115_2 : List zO := [o_ib (fun x y => x + y), o_ald (.array .int), o_aload 1 0, o_iload 1 3, o_const 1 (.int (2)), o_ib (fun x y => x + y), o_ald (.array .int), o_if (fun x => x = 0) 142, o_bad, o_bad, o_const 1 (.int (1)), o_goto 143, o_bad, o_bad, o_const 1 (.int (0)), o_cv 1 0 2, o_bad, o_bad, o_aload 1 2, o_aload 1 0, o_iload 1 3, o_const 1 (.int (1)), o_ib (fun x y => x + y), o_ald (.array .int), o_aload 1 0, o_iload 1 3, o_const 1 (.int (2)), o_ib (fun x y => x + y), o_ald (.array .int), o_if (fun x => x = 0) 164, o_bad, o_bad, o_const 1 (.int (1)), o_goto 165, o_bad, o_bad, o_const 1 (.int (0)), o_cv 72 10 2, o_bad, o_bad, o_ic (fun x y => x = y) 929, o_bad, o_bad, o_const 1 (.int (0)), o_iret .boolean, o_aload 1 1, o_aload 1 0, o_iload 1 3, o_const 1 (.int (1)), o_ib (fun x y => x + y), o_ald (.array .int), o_aload 1 0, o_iload 1 3, o_const 1 (.int (2)), o_ib (fun x y => x + y), o_ald (.array .int), o_cv 2 0 2, o_bad, o_bad, o_aload 1 2, o_aload 1 0, o_iload 1 3, o_const 1 (.int (1)), o_ib (fun x y => x + y)]
def z_c115_3 : List zO := [o_ald (.array .int), o_aload 1 0, o_iload 1 3, o_const 1 (.int (2)), o_ib (fun x y => x + y), o_ald (.array .int), o_cv 73 10 2, o_bad, o_bad, o_ic (fun x y => x = y) 929, o_bad, o_bad, o_const 1 (.int (0)), o_iret .boolean, o_aload 1 1, o_aload 1 0, o_iload 1 3, o_const 1 (.int (1)), o_ib (fun x y => x + y), o_ald (.array .int), o_aload 1 0, o_iload 1 3, o_const 1 (.int (2)), o_ib (fun x y => x + y), o_ald (.array .int), o_cv 3 0 2, o_bad, o_bad, o_aload 1 2, o_aload 1 0, o_iload 1 3, o_const 1 (.int (1)), o_ib (fun x y => x + y), o_ald (.array .int), o_aload 1 0, o_iload 1 3, o_const 1 (.int (2)), o_ib (fun x y => x + y), o_ald (.array .int), o_cv 74 10 2, o_bad, o_bad, o_ic (fun x y => x = y) 929, o_bad, o_bad, o_const 1 (.int (0)), o_iret .boolean, o_aload 1 1, o_aload 1 0, o_iload 1 3, o_const 1 (.int (1)), o_ib (fun x y => x + y), o_ald (.array .int), o_aload 1 0, o_iload 1 3, o_const 1 (.int (2)), o_ib (fun x y => x + y), o_ald (.array .int), o_aload 1 0, o_iload 1 3, o_const 1 (.int (3)), o_ib (fun x y => x + y), o_ald (.array .int), o_aload 1 0]
def z_c115_4 : List zO := [o_iload 1 3, o_const 1 (.int (4)), o_ib (fun x y => x + y), o_ald (.array .int), o_aload 1 0, o_iload 1 3, o_const 1 (.int (5)), o_ib (fun x y => x + y), o_ald (.array .int), o_cv 4 0 5, o_bad, o_bad, o_aload 1 2, o_aload 1 0, o_iload 1 3, o_const 1 (.int (1)), o_ib (fun x y => x + y), o_ald (.array .int), o_aload 1 0, o_iload 1 3, o_const 1 (.int (2)), o_ib (fun x y => x + y), o_ald (.array .int), o_aload 1 0, o_iload 1 3, o_const 1 (.int (3)), o_ib (fun x y => x + y), o_ald (.array .int), o_aload 1 0, o_iload 1 3, o_const 1 (.int (4)), o_ib (fun x y => x + y), o_ald (.array .int), o_aload 1 0, o_iload 1 3, o_const 1 (.int (5)), o_ib (fun x y => x + y), o_ald (.array .int), o_cv 76 10 5, o_bad, o_bad, o_ic (fun x y => x = y) 929, o_bad, o_bad, o_const 1 (.int (0)), o_iret .boolean, o_aload 1 1, o_aload 1 0, o_iload 1 3, o_const 1 (.int (1)), o_ib (fun x y => x + y), o_ald (.array .int), o_aload 1 0, o_iload 1 3, o_const 1 (.int (2)), o_ib (fun x y => x + y), o_ald (.array .int), o_aload 1 0, o_iload 1 3, o_const 1 (.int (3)), o_ib (fun x y => x + y), o_ald (.array .int), o_cv 5 0 3, o_bad]
def z_c115_5 : List zO := [o_bad, o_aload 1 2, o_aload 1 0, o_iload 1 3, o_const 1 (.int (1)), o_ib (fun x y => x + y), o_ald (.array .int), o_aload 1 0, o_iload 1 3, o_const 1 (.int (2)), o_ib (fun x y => x + y), o_ald (.array .int), o_aload 1 0, o_iload 1 3, o_const 1 (.int (3)), o_ib (fun x y => x + y), o_ald (.array .int), o_cv 77 10 3, o_bad, o_bad, o_ic (fun x y => x = y) 929, o_bad, o_bad, o_const 1 (.int (0)), o_iret .boolean, o_aload 1 1, o_aload 1 0, o_iload 1 3, o_const 1 (.int (1)), o_ib (fun x y => x + y), o_ald (.array .int), o_aload 1 0, o_iload 1 3, o_const 1 (.int (2)), o_ib (fun x y => x + y), o_ald (.array .int), o_aload 1 0, o_iload 1 3, o_const 1 (.int (3)), o_ib (fun x y => x + y), o_ald (.array .int), o_aload 1 0, o_iload 1 3, o_const 1 (.int (4)), o_ib (fun x y => x + y), o_ald (.array .int), o_if (fun x => x = 0) 373, o_bad, o_bad, o_const 1 (.int (1)), o_goto 374, o_bad, o_bad, o_const 1 (.int (0)), o_aload 1 0, o_iload 1 3, o_const 1 (.int (5)), o_ib (fun x y => x + y), o_ald (.array .int), o_if (fun x => x = 0) 386, o_bad, o_bad, o_const 1 (.int (1)), o_goto 387]
def z_c115_6 : List zO := [o_bad, o_bad, o_const 1 (.int (0)), o_cv 6 0 5, o_bad, o_bad, o_aload 1 2, o_aload 1 0, o_iload 1 3, o_const 1 (.int (1)), o_ib (fun x y => x + y), o_ald (.array .int), o_aload 1 0, o_iload 1 3, o_const 1 (.int (2)), o_ib (fun x y => x + y), o_ald (.array .int), o_aload 1 0, o_iload 1 3, o_const 1 (.int (3)), o_ib (fun x y => x + y), o_ald (.array .int), o_aload 1 0, o_iload 1 3, o_const 1 (.int (4)), o_ib (fun x y => x + y), o_ald (.array .int), o_if (fun x => x = 0) 418, o_bad, o_bad, o_const 1 (.int (1)), o_goto 419, o_bad, o_bad, o_const 1 (.int (0)), o_aload 1 0, o_iload 1 3, o_const 1 (.int (5)), o_ib (fun x y => x + y), o_ald (.array .int), o_if (fun x => x = 0) 431, o_bad, o_bad, o_const 1 (.int (1)), o_goto 432, o_bad, o_bad, o_const 1 (.int (0)), o_cv 78 10 5, o_bad, o_bad, o_ic (fun x y => x = y) 929, o_bad, o_bad, o_const 1 (.int (0)), o_iret .boolean, o_aload 1 1, o_aload 1 0, o_iload 1 3, o_const 1 (.int (1)), o_ib (fun x y => x + y), o_ald (.array .int), o_aload 1 0, o_iload 1 3]
def z_c115_7 : List zO := [o_const 1 (.int (2)), o_ib (fun x y => x + y), o_ald (.array .int), o_cv 7 0 2, o_bad, o_bad, o_aload 1 2, o_aload 1 0, o_iload 1 3, o_const 1 (.int (1)), o_ib (fun x y => x + y), o_ald (.array .int), o_aload 1 0, o_iload 1 3, o_const 1 (.int (2)), o_ib (fun x y => x + y), o_ald (.array .int), o_cv 87 10 2, o_bad, o_bad, o_ic (fun x y => x = y) 929, o_bad, o_bad, o_const 1 (.int (0)), o_iret .boolean, o_aload 1 1, o_cv 8 0 0, o_bad, o_bad, o_aload 1 2, o_cv 88 10 0, o_bad, o_bad, o_ic (fun x y => x = y) 929, o_bad, o_bad, o_const 1 (.int (0)), o_iret .boolean, o_aload 1 1, o_cv 9 0 0, o_bad, o_bad, o_aload 1 2, o_cv 89 10 0, o_bad, o_bad, o_ic (fun x y => x = y) 929, o_bad, o_bad, o_const 1 (.int (0)), o_iret .boolean, o_aload 1 1, o_aload 1 0, o_iload 1 3, o_const 1 (.int (1)), o_ib (fun x y => x + y), o_ald (.array .int), o_i1 (fun x => (x.toUInt32 % 65536).toInt32), o_cv 10 0 1, o_bad, o_bad, o_aload 1 2, o_aload 1 0, o_iload 1 3]
def z_c115_8 : List zO := [o_const 1 (.int (1)), o_ib (fun x y => x + y), o_ald (.array .int), o_i1 (fun x => (x.toUInt32 % 65536).toInt32), o_cv 90 10 1, o_bad, o_bad, o_ic (fun x y => x = y) 929, o_bad, o_bad, o_const 1 (.int (0)), o_iret .boolean, o_aload 1 1, o_aload 1 0, o_iload 1 3, o_const 1 (.int (1)), o_ib (fun x y => x + y), o_ald (.array .int), o_i1 (fun x => (x.toUInt32 % 65536).toInt32), o_cv 11 0 1, o_bad, o_bad, o_aload 1 2, o_aload 1 0, o_iload 1 3, o_const 1 (.int (1)), o_ib (fun x y => x + y), o_ald (.array .int), o_i1 (fun x => (x.toUInt32 % 65536).toInt32), o_cv 92 10 1, o_bad, o_bad, o_ic (fun x y => x = y) 929, o_bad, o_bad, o_const 1 (.int (0)), o_iret .boolean, o_aload 1 1, o_cv 12 0 0, o_bad, o_bad, o_aload 1 2, o_cv 93 10 0, o_bad, o_bad, o_goto 929, o_bad, o_bad, o_aload 1 1, o_cv 13 0 0, o_bad, o_bad, o_aload 1 2, o_cv 97 10 0, o_bad, o_bad, o_ic (fun x y => x = y) 929, o_bad, o_bad, o_const 1 (.int (0)), o_iret .boolean, o_aload 1 1, o_aload 1 0, o_iload 1 3]
def z_c115_9 : List zO := [o_const 1 (.int (1)), o_ib (fun x y => x + y), o_ald (.array .int), o_if (fun x => x = 0) 586, o_bad, o_bad, o_const 1 (.int (1)), o_goto 587, o_bad, o_bad, o_const 1 (.int (0)), o_aload 1 0, o_iload 1 3, o_const 1 (.int (2)), o_ib (fun x y => x + y), o_ald (.array .int), o_if (fun x => x = 0) 599, o_bad, o_bad, o_const 1 (.int (1)), o_goto 600, o_bad, o_bad, o_const 1 (.int (0)), o_cv 14 0 2, o_bad, o_bad, o_aload 1 2, o_aload 1 0, o_iload 1 3, o_const 1 (.int (1)), o_ib (fun x y => x + y), o_ald (.array .int), o_if (fun x => x = 0) 616, o_bad, o_bad, o_const 1 (.int (1)), o_goto 617, o_bad, o_bad, o_const 1 (.int (0)), o_aload 1 0, o_iload 1 3, o_const 1 (.int (2)), o_ib (fun x y => x + y), o_ald (.array .int), o_if (fun x => x = 0) 629, o_bad, o_bad, o_const 1 (.int (1)), o_goto 630, o_bad, o_bad, o_const 1 (.int (0)), o_cv 107 10 2, o_bad, o_bad, o_ic (fun x y => x = y) 929, o_bad, o_bad, o_const 1 (.int (0)), o_iret .boolean, o_aload 1 1, o_aload 1 0]
def z_c115_10 : List zO := [o_iload 1 3, o_const 1 (.int (1)), o_ib (fun x y => x + y), o_ald (.array .int), o_if (fun x => x = 0) 651, o_bad, o_bad, o_const 1 (.int (1)), o_goto 652, o_bad, o_bad, o_const 1 (.int (0)), o_aload 1 0, o_iload 1 3, o_const 1 (.int (2)), o_ib (fun x y => x + y), o_ald (.array .int), o_if (fun x => x = 0) 664, o_bad, o_bad, o_const 1 (.int (1)), o_goto 665, o_bad, o_bad, o_const 1 (.int (0)), o_aload 1 0, o_iload 1 3, o_const 1 (.int (3)), o_ib (fun x y => x + y), o_ald (.array .int), o_cv 15 0 3, o_bad, o_bad, o_aload 1 2, o_aload 1 0, o_iload 1 3, o_const 1 (.int (1)), o_ib (fun x y => x + y), o_ald (.array .int), o_if (fun x => x = 0) 686, o_bad, o_bad, o_const 1 (.int (1)), o_goto 687, o_bad, o_bad, o_const 1 (.int (0)), o_aload 1 0, o_iload 1 3, o_const 1 (.int (2)), o_ib (fun x y => x + y), o_ald (.array .int), o_if (fun x => x = 0) 699, o_bad, o_bad, o_const 1 (.int (1)), o_goto 700, o_bad, o_bad, o_const 1 (.int (0)), o_aload 1 0, o_iload 1 3, o_const 1 (.int (3)), o_ib (fun x y => x + y)]
def z_c115_11 : List zO := [o_ald (.array .int), o_cv 108 10 3, o_bad, o_bad, o_ic (fun x y => x = y) 929, o_bad, o_bad, o_const 1 (.int (0)), o_iret .boolean, o_aload 1 1, o_aload 1 0, o_iload 1 3, o_const 1 (.int (1)), o_ib (fun x y => x + y), o_ald (.array .int), o_if (fun x => x = 0) 726, o_bad, o_bad, o_const 1 (.int (1)), o_goto 727, o_bad, o_bad, o_const 1 (.int (0)), o_aload 1 0, o_iload 1 3, o_const 1 (.int (2)), o_ib (fun x y => x + y), o_ald (.array .int), o_if (fun x => x = 0) 739, o_bad, o_bad, o_const 1 (.int (1)), o_goto 740, o_bad, o_bad, o_const 1 (.int (0)), o_cv 16 0 2, o_bad, o_bad, o_aload 1 2, o_aload 1 0, o_iload 1 3, o_const 1 (.int (1)), o_ib (fun x y => x + y), o_ald (.array .int), o_if (fun x => x = 0) 756, o_bad, o_bad, o_const 1 (.int (1)), o_goto 757, o_bad, o_bad, o_const 1 (.int (0)), o_aload 1 0, o_iload 1 3, o_const 1 (.int (2)), o_ib (fun x y => x + y), o_ald (.array .int), o_if (fun x => x = 0) 769, o_bad, o_bad, o_const 1 (.int (1)), o_goto 770, o_bad]
def z_c115_12 : List zO := [o_bad, o_const 1 (.int (0)), o_cv 109 10 2, o_bad, o_bad, o_ic (fun x y => x = y) 929, o_bad, o_bad, o_const 1 (.int (0)), o_iret .boolean, o_aload 1 1, o_aload 1 0, o_iload 1 3, o_const 1 (.int (1)), o_ib (fun x y => x + y), o_ald (.array .int), o_aload 1 0, o_iload 1 3, o_const 1 (.int (2)), o_ib (fun x y => x + y), o_ald (.array .int), o_if (fun x => x = 0) 796, o_bad, o_bad, o_const 1 (.int (1)), o_goto 797, o_bad, o_bad, o_const 1 (.int (0)), o_aload 1 0, o_iload 1 3, o_const 1 (.int (3)), o_ib (fun x y => x + y), o_ald (.array .int), o_if (fun x => x = 0) 809, o_bad, o_bad, o_const 1 (.int (1)), o_goto 810, o_bad, o_bad, o_const 1 (.int (0)), o_aload 1 0, o_iload 1 3, o_const 1 (.int (4)), o_ib (fun x y => x + y), o_ald (.array .int), o_cv 17 0 4, o_bad, o_bad, o_aload 1 2, o_aload 1 0, o_iload 1 3, o_const 1 (.int (1)), o_ib (fun x y => x + y), o_ald (.array .int), o_aload 1 0, o_iload 1 3, o_const 1 (.int (2)), o_ib (fun x y => x + y), o_ald (.array .int), o_if (fun x => x = 0) 836, o_bad, o_bad]
def z_c115_13 : List zO := [o_const 1 (.int (1)), o_goto 837, o_bad, o_bad, o_const 1 (.int (0)), o_aload 1 0, o_iload 1 3, o_const 1 (.int (3)), o_ib (fun x y => x + y), o_ald (.array .int), o_if (fun x => x = 0) 849, o_bad, o_bad, o_const 1 (.int (1)), o_goto 850, o_bad, o_bad, o_const 1 (.int (0)), o_aload 1 0, o_iload 1 3, o_const 1 (.int (4)), o_ib (fun x y => x + y), o_ald (.array .int), o_cv 110 10 4, o_bad, o_bad, o_ic (fun x y => x = y) 929, o_bad, o_bad, o_const 1 (.int (0)), o_iret .boolean, o_aload 1 1, o_aload 1 0, o_iload 1 3, o_const 1 (.int (1)), o_ib (fun x y => x + y), o_ald (.array .int), o_cv 18 0 1, o_bad, o_bad, o_aload 1 2, o_aload 1 0, o_iload 1 3, o_const 1 (.int (1)), o_ib (fun x y => x + y), o_ald (.array .int), o_cv 111 10 1, o_bad, o_bad, o_ic (fun x y => x = y) 929, o_bad, o_bad, o_const 1 (.int (0)), o_iret .boolean, o_aload 1 1, o_aload 1 0, o_iload 1 3, o_const 1 (.int (1)), o_ib (fun x y => x + y), o_ald (.array .int), o_aload 1 0, o_iload 1 3, o_const 1 (.int (2)), o_ib (fun x y => x + y)]
def z_c115_14 : List zO := [o_ald (.array .int), o_aload 1 0, o_iload 1 3, o_const 1 (.int (3)), o_ib (fun x y => x + y), o_ald (.array .int), o_cv 19 0 3, o_bad, o_bad, o_aload 1 2, o_aload 1 0, o_iload 1 3, o_const 1 (.int (1)), o_ib (fun x y => x + y), o_ald (.array .int), o_aload 1 0, o_iload 1 3, o_const 1 (.int (2)), o_ib (fun x y => x + y), o_ald (.array .int), o_aload 1 0, o_iload 1 3, o_const 1 (.int (3)), o_ib (fun x y => x + y), o_ald (.array .int), o_cv 114 10 3, o_bad, o_bad, o_ic (fun x y => x = y) 929, o_bad, o_bad, o_const 1 (.int (0)), o_iret .boolean, o_iinc 3 (6), o_bad, o_bad, o_goto 18, o_bad, o_bad, o_const 1 (.int (1)), o_iret .boolean]
def z_c116_0 : List zO := [o_iload 1 0, o_iload 1 1, o_ibn (fun x y => x - x / y * y), o_ist 1 2 false, o_iload 1 0, o_iload 1 1, o_ib (fun x y => x ^^^ y), o_if (fun x => 0 ≤ x) 18, o_bad, o_bad, o_iload 1 2, o_if (fun x => x = 0) 18, o_bad, o_bad, o_iload 1 2, o_iload 1 1, o_ib (fun x y => x + y), o_iret .int, o_iload 1 2, o_iret .int]
def z_tb0 : List (List (List zO)) := [[z_c0_0, z_c0_1],
  [z_c1_0],
  [z_c2_0],
  [z_c3_0],
  [z_c4_0, z_c4_1, z_c4_2],
  [z_c5_0],
  [z_c6_0],
  [z_c7_0],
  [z_c8_0],
  [z_c9_0],
  [z_c10_0],
  [z_c11_0],
  [z_c12_0],
  [z_c13_0],
  [z_c14_0],
  [z_c15_0],
  [z_c16_0],
  [z_c17_0],
  [z_c18_0],
  [z_c19_0, z_c19_1, z_c19_2],
  [z_c20_0],
  [z_c21_0],
  [z_c22_0],
  [z_c23_0],
  [z_c24_0],
  [z_c25_0],
  [z_c26_0],
  [z_c27_0],
  [z_c28_0],
  [z_c29_0]]
def z_tb1 : List (List (List zO)) := [[z_c30_0],
  [z_c31_0],
  [z_c32_0],
  [z_c33_0],
  [z_c34_0],
  [z_c35_0],
  [z_c36_0],
  [z_c37_0, z_c37_1],
  [z_c38_0],
  [z_c39_0, z_c39_1, z_c39_2],
  [z_c40_0],
  [z_c41_0],
  [z_c42_0],
  [z_c43_0],
  [z_c44_0],
  [z_c45_0],
  [z_c46_0],
  [z_c47_0, z_c47_1],
  [z_c48_0, z_c48_1],
  [z_c49_0, z_c49_1],
  [z_c50_0, z_c50_1],
  [z_c51_0, z_c51_1],
  [z_c52_0, z_c52_1],
  [z_c53_0, z_c53_1, z_c53_2],
  [z_c54_0],
  [z_c55_0, z_c55_1],
  [z_c56_0],
  [z_c57_0, z_c57_1],
  [z_c58_0],
  [z_c59_0, z_c59_1]]
def z_tb2 : List (List (List zO)) := [[z_c60_0],
  [z_c61_0],
  [z_c62_0],
  [z_c63_0],
  [z_c64_0],
  [z_c65_0],
  [z_c66_0],
  [z_c67_0],
  [z_c68_0, z_c68_1],
  [z_c69_0],
  [z_c70_0, z_c70_1, z_c70_2, z_c70_3, z_c70_4],
  [z_c71_0],
  [z_c72_0, z_c72_1],
  [z_c73_0],
  [z_c74_0],
  [z_c75_0],
  [z_c76_0, z_c76_1, z_c76_2],
  [z_c77_0],
  [z_c78_0],
  [z_c79_0],
  [z_c80_0],
  [z_c81_0],
  [z_c82_0],
  [z_c83_0, z_c83_1, z_c83_2, z_c83_3, z_c83_4],
  [z_c84_0],
  [z_c85_0, z_c85_1, z_c85_2],
  [z_c86_0, z_c86_1, z_c86_2, z_c86_3],
  [z_c87_0],
  [z_c88_0],
  [z_c89_0]]
def z_tb3 : List (List (List zO)) := [[z_c90_0],
  [z_c91_0],
  [z_c92_0],
  [z_c93_0],
  [z_c94_0],
  [z_c95_0, z_c95_1, z_c95_2],
  [z_c96_0, z_c96_1, z_c96_2, z_c96_3],
  [z_c97_0],
  [z_c98_0],
  [z_c99_0],
  [z_c100_0, z_c100_1, z_c100_2],
  [z_c101_0, z_c101_1],
  [z_c102_0],
  [z_c103_0, z_c103_1],
  [z_c104_0, z_c104_1],
  [z_c105_0, z_c105_1, z_c105_2],
  [z_c106_0],
  [z_c107_0],
  [z_c108_0],
  [z_c109_0],
  [z_c110_0, z_c110_1],
  [z_c111_0, z_c111_1, z_c111_2],
  [z_c112_0],
  [z_c113_0],
  [z_c114_0, z_c114_1, z_c114_2],
  [z_c115_0, z_c115_1, z_c115_2, z_c115_3, z_c115_4, z_c115_5, z_c115_6, z_c115_7, z_c115_8, z_c115_9, z_c115_10, z_c115_11, z_c115_12, z_c115_13, z_c115_14],
  [z_c116_0]]
def z_tbs : List (List (List (List zO))) := [z_tb0, z_tb1, z_tb2, z_tb3]
def z_op (M pc : Nat) : zO := (((z_tbs.getD (M / 30) []).getD (M % 30) []).getD (pc / 64) []).getD (pc % 64) o_bad
theorem k0_0 : z_op 0 0 = o_aload 1 0 := rfl
theorem k0_1 : z_op 0 1 = o_obj := rfl
theorem k0_4 : z_op 0 4 = o_aload 1 0 := rfl
theorem k0_5 : z_op 0 5 = o_const 2 (.int (12)) := rfl
theorem k0_7 : z_op 0 7 = o_anew "MailVerdicts$Domain" := rfl
theorem k0_10 : z_op 0 10 = o_put 0 0 (.array (.object "MailVerdicts$Domain")) := rfl
theorem k0_13 : z_op 0 13 = o_aload 1 0 := rfl
theorem k0_14 : z_op 0 14 = o_new 2 3 [.int 0, .int 0, .int 0] := rfl
theorem k0_17 : z_op 0 17 = o_dup := rfl
theorem k0_18 : z_op 0 18 = o_ci 35 0 := rfl
theorem k0_21 : z_op 0 21 = o_put 0 2 (.object "MailVerdicts$Checking") := rfl
theorem k0_24 : z_op 0 24 = o_aload 1 0 := rfl
theorem k0_25 : z_op 0 25 = o_new 3 6 [.null, .null, .null, .null, .null, .int 0] := rfl
theorem k0_28 : z_op 0 28 = o_dup := rfl
theorem k0_29 : z_op 0 29 = o_ci 46 0 := rfl
theorem k0_32 : z_op 0 32 = o_put 0 3 (.object "MailVerdicts$CanonicalForm") := rfl
theorem k0_35 : z_op 0 35 = o_aload 1 0 := rfl
theorem k0_36 : z_op 0 36 = o_aload 1 0 := rfl
theorem k0_37 : z_op 0 37 = o_get 0 3 := rfl
theorem k0_40 : z_op 0 40 = o_get 3 0 := rfl
theorem k0_43 : z_op 0 43 = o_put 0 4 (.object "MailVerdicts$Message") := rfl
theorem k0_46 : z_op 0 46 = o_aload 1 0 := rfl
theorem k0_47 : z_op 0 47 = o_aload 1 0 := rfl
theorem k0_48 : z_op 0 48 = o_get 0 3 := rfl
theorem k0_51 : z_op 0 51 = o_get 3 1 := rfl
theorem k0_54 : z_op 0 54 = o_put 0 5 (.object "MailVerdicts$Text") := rfl
theorem k0_57 : z_op 0 57 = o_aload 1 0 := rfl
theorem k0_58 : z_op 0 58 = o_const 1 (.int (3)) := rfl
theorem k0_59 : z_op 0 59 = o_anew "MailVerdicts$Signature" := rfl
theorem k0_62 : z_op 0 62 = o_put 0 6 (.array (.object "MailVerdicts$Signature")) := rfl
theorem k0_65 : z_op 0 65 = o_vret := rfl
theorem k1_0 : z_op 1 0 = o_aload 1 0 := rfl
theorem k1_1 : z_op 1 1 = o_iload 1 1 := rfl
theorem k1_2 : z_op 1 2 = o_cv 20 0 1 := rfl
theorem k1_5 : z_op 1 5 = o_ast 1 3 false := rfl
theorem k1_6 : z_op 1 6 = o_aload 1 0 := rfl
theorem k1_7 : z_op 1 7 = o_get 0 1 := rfl
theorem k1_10 : z_op 1 10 = o_const 2 (.int (12)) := rfl
theorem k1_12 : z_op 1 12 = o_ic (fun x y => x = y) 24 := rfl
theorem k1_15 : z_op 1 15 = o_aload 1 3 := rfl
theorem k1_16 : z_op 1 16 = o_nn 26 := rfl
theorem k1_19 : z_op 1 19 = o_iload 1 1 := rfl
theorem k1_20 : z_op 1 20 = o_const 1 (.int (-1)) := rfl
theorem k1_21 : z_op 1 21 = o_ic (fun x y => x = y) 26 := rfl
theorem k1_24 : z_op 1 24 = o_const 1 (.int (-1)) := rfl
theorem k1_25 : z_op 1 25 = o_iret .int := rfl
theorem k1_26 : z_op 1 26 = o_aload 1 0 := rfl
theorem k1_27 : z_op 1 27 = o_get 0 0 := rfl
theorem k1_30 : z_op 1 30 = o_aload 1 0 := rfl
theorem k1_31 : z_op 1 31 = o_get 0 1 := rfl
theorem k1_34 : z_op 1 34 = o_new 1 11 [.null, .int 0, .null, .int 0, .null, .int 0, .null, .int 0, .null, .null, .null] := rfl
theorem k1_37 : z_op 1 37 = o_dup := rfl
theorem k1_38 : z_op 1 38 = o_aload 1 3 := rfl
theorem k1_39 : z_op 1 39 = o_iload 1 2 := rfl
theorem k1_40 : z_op 1 40 = o_ci 27 2 := rfl
theorem k1_43 : z_op 1 43 = o_rst "MailVerdicts$Domain" 1 := rfl
theorem k1_44 : z_op 1 44 = o_aload 1 0 := rfl
theorem k1_45 : z_op 1 45 = o_dup := rfl
theorem k1_46 : z_op 1 46 = o_get 0 1 := rfl
theorem k1_49 : z_op 1 49 = o_const 1 (.int (1)) := rfl
theorem k1_50 : z_op 1 50 = o_ib (fun x y => x + y) := rfl
theorem k1_51 : z_op 1 51 = o_put 0 1 .int := rfl
theorem k1_54 : z_op 1 54 = o_aload 1 0 := rfl
theorem k1_55 : z_op 1 55 = o_get 0 1 := rfl
theorem k1_58 : z_op 1 58 = o_const 1 (.int (1)) := rfl
theorem k1_59 : z_op 1 59 = o_ib (fun x y => x - y) := rfl
theorem k1_60 : z_op 1 60 = o_iret .int := rfl
theorem k2_0 : z_op 2 0 = o_aload 1 0 := rfl
theorem k2_1 : z_op 2 1 = o_iload 1 1 := rfl
theorem k2_2 : z_op 2 2 = o_cv 20 0 1 := rfl
theorem k2_5 : z_op 2 5 = o_ast 1 3 false := rfl
theorem k2_6 : z_op 2 6 = o_aload 1 3 := rfl
theorem k2_7 : z_op 2 7 = o_nul 22 := rfl
theorem k2_10 : z_op 2 10 = o_aload 1 3 := rfl
theorem k2_11 : z_op 2 11 = o_iload 1 2 := rfl
theorem k2_12 : z_op 2 12 = o_cv 28 1 1 := rfl
theorem k2_15 : z_op 2 15 = o_if (fun x => x = 0) 22 := rfl
theorem k2_18 : z_op 2 18 = o_const 1 (.int (1)) := rfl
theorem k2_19 : z_op 2 19 = o_goto 23 := rfl
theorem k2_22 : z_op 2 22 = o_const 1 (.int (0)) := rfl
theorem k2_23 : z_op 2 23 = o_iret .boolean := rfl
theorem k3_0 : z_op 3 0 = o_aload 1 0 := rfl
theorem k3_1 : z_op 3 1 = o_iload 1 1 := rfl
theorem k3_2 : z_op 3 2 = o_cv 20 0 1 := rfl
theorem k3_5 : z_op 3 5 = o_ast 1 3 false := rfl
theorem k3_6 : z_op 3 6 = o_aload 1 0 := rfl
theorem k3_7 : z_op 3 7 = o_iload 1 2 := rfl
theorem k3_8 : z_op 3 8 = o_cv 20 0 1 := rfl
theorem k3_11 : z_op 3 11 = o_ast 2 4 false := rfl
theorem k3_13 : z_op 3 13 = o_aload 1 3 := rfl
theorem k3_14 : z_op 3 14 = o_nul 35 := rfl
theorem k3_17 : z_op 3 17 = o_aload 2 4 := rfl
theorem k3_19 : z_op 3 19 = o_nul 35 := rfl
theorem k3_22 : z_op 3 22 = o_aload 1 3 := rfl
theorem k3_23 : z_op 3 23 = o_aload 2 4 := rfl
theorem k3_25 : z_op 3 25 = o_cv 29 1 1 := rfl
theorem k3_28 : z_op 3 28 = o_if (fun x => x = 0) 35 := rfl
theorem k3_31 : z_op 3 31 = o_const 1 (.int (1)) := rfl
theorem k3_32 : z_op 3 32 = o_goto 36 := rfl
theorem k3_35 : z_op 3 35 = o_const 1 (.int (0)) := rfl
theorem k3_36 : z_op 3 36 = o_iret .boolean := rfl
theorem k4_0 : z_op 4 0 = o_aload 1 0 := rfl
theorem k4_1 : z_op 4 1 = o_iload 1 1 := rfl
theorem k4_2 : z_op 4 2 = o_cv 20 0 1 := rfl
theorem k4_5 : z_op 4 5 = o_ast 2 6 false := rfl
theorem k4_7 : z_op 4 7 = o_aload 2 6 := rfl
theorem k4_9 : z_op 4 9 = o_nul 22 := rfl
theorem k4_12 : z_op 4 12 = o_iload 1 3 := rfl
theorem k4_13 : z_op 4 13 = o_if (fun x => x < 0) 22 := rfl
theorem k4_16 : z_op 4 16 = o_iload 1 3 := rfl
theorem k4_17 : z_op 4 17 = o_const 2 (.int (6)) := rfl
theorem k4_19 : z_op 4 19 = o_ic (fun x y => x ≤ y) 24 := rfl
theorem k4_22 : z_op 4 22 = o_const 1 (.int (-1)) := rfl
theorem k4_23 : z_op 4 23 = o_iret .int := rfl
theorem k4_24 : z_op 4 24 = o_iload 1 3 := rfl
theorem k4_25 : z_op 4 25 = o_const 2 (.int (6)) := rfl
theorem k4_27 : z_op 4 27 = o_ic (fun x y => x = y) 42 := rfl
theorem k4_30 : z_op 4 30 = o_iload 1 2 := rfl
theorem k4_31 : z_op 4 31 = o_const 1 (.int (1)) := rfl
theorem k4_32 : z_op 4 32 = o_ic (fun x y => x < y) 40 := rfl
theorem k4_35 : z_op 4 35 = o_iload 1 2 := rfl
theorem k4_36 : z_op 4 36 = o_const 1 (.int (4)) := rfl
theorem k4_37 : z_op 4 37 = o_ic (fun x y => x ≤ y) 42 := rfl
theorem k4_40 : z_op 4 40 = o_const 1 (.int (-1)) := rfl
theorem k4_41 : z_op 4 41 = o_iret .int := rfl
theorem k4_42 : z_op 4 42 = o_iload 1 3 := rfl
theorem k4_43 : z_op 4 43 = o_cs 22 1 := rfl
theorem k4_46 : z_op 4 46 = o_if (fun x => x = 0) 63 := rfl
theorem k4_49 : z_op 4 49 = o_iload 2 5 := rfl
theorem k4_51 : z_op 4 51 = o_if (fun x => x < 0) 61 := rfl
theorem k4_54 : z_op 4 54 = o_iload 2 5 := rfl
theorem k4_56 : z_op 4 56 = o_const 2 (.int (32)) := rfl
theorem k4_58 : z_op 4 58 = o_ic (fun x y => x ≤ y) 63 := rfl
theorem k4_61 : z_op 4 61 = o_const 1 (.int (-1)) := rfl
theorem k4_62 : z_op 4 62 = o_iret .int := rfl
theorem k4_63 : z_op 4 63 = o_iload 2 4 := rfl
theorem k4_65 : z_op 4 65 = o_const 1 (.int (-1)) := rfl
theorem k4_66 : z_op 4 66 = o_ic (fun x y => ¬ x = y) 74 := rfl
theorem k4_69 : z_op 4 69 = o_aload 2 6 := rfl
theorem k4_71 : z_op 4 71 = o_goto 80 := rfl
theorem k4_74 : z_op 4 74 = o_aload 1 0 := rfl
theorem k4_75 : z_op 4 75 = o_iload 2 4 := rfl
theorem k4_77 : z_op 4 77 = o_cv 20 0 1 := rfl
theorem k4_80 : z_op 4 80 = o_ast 2 7 false := rfl
theorem k4_82 : z_op 4 82 = o_iload 1 3 := rfl
theorem k4_83 : z_op 4 83 = o_cs 23 1 := rfl
theorem k4_86 : z_op 4 86 = o_if (fun x => x = 0) 96 := rfl
theorem k4_89 : z_op 4 89 = o_aload 2 7 := rfl
theorem k4_91 : z_op 4 91 = o_nn 96 := rfl
theorem k4_94 : z_op 4 94 = o_const 1 (.int (-1)) := rfl
theorem k4_95 : z_op 4 95 = o_iret .int := rfl
theorem k4_96 : z_op 4 96 = o_aload 2 6 := rfl
theorem k4_98 : z_op 4 98 = o_iload 1 3 := rfl
theorem k4_99 : z_op 4 99 = o_cv 31 1 1 := rfl
theorem k4_102 : z_op 4 102 = o_if (fun x => ¬ x = 0) 108 := rfl
theorem k4_105 : z_op 4 105 = o_const 2 (.int (-2)) := rfl
theorem k4_107 : z_op 4 107 = o_iret .int := rfl
theorem k4_108 : z_op 4 108 = o_iload 1 3 := rfl
theorem k4_109 : z_op 4 109 = o_const 2 (.int (6)) := rfl
theorem k4_111 : z_op 4 111 = o_ic (fun x y => ¬ x = y) 124 := rfl
theorem k4_114 : z_op 4 114 = o_aload 2 6 := rfl
theorem k4_116 : z_op 4 116 = o_aload 2 7 := rfl
theorem k4_118 : z_op 4 118 = o_put 1 8 (.object "MailVerdicts$Domain") := rfl
theorem k4_121 : z_op 4 121 = o_goto 144 := rfl
theorem k4_124 : z_op 4 124 = o_aload 2 6 := rfl
theorem k4_126 : z_op 4 126 = o_new 7 5 [.int 0, .int 0, .int 0, .null, .int 0] := rfl
theorem k4_129 : z_op 4 129 = o_dup := rfl
theorem k4_130 : z_op 4 130 = o_iload 1 2 := rfl
theorem k4_131 : z_op 4 131 = o_iload 1 3 := rfl
theorem k4_132 : z_op 4 132 = o_iload 2 4 := rfl
theorem k4_134 : z_op 4 134 = o_aload 2 7 := rfl
theorem k4_136 : z_op 4 136 = o_iload 2 5 := rfl
theorem k4_138 : z_op 4 138 = o_ci 66 5 := rfl
theorem k4_141 : z_op 4 141 = o_cv 32 1 1 := rfl
theorem k4_144 : z_op 4 144 = o_aload 2 6 := rfl
theorem k4_146 : z_op 4 146 = o_cv 30 1 0 := rfl
theorem k4_149 : z_op 4 149 = o_iret .int := rfl
theorem k5_0 : z_op 5 0 = o_aload 1 0 := rfl
theorem k5_1 : z_op 5 1 = o_iload 1 1 := rfl
theorem k5_2 : z_op 5 2 = o_cv 20 0 1 := rfl
theorem k5_5 : z_op 5 5 = o_ast 2 4 false := rfl
theorem k5_7 : z_op 5 7 = o_aload 2 4 := rfl
theorem k5_9 : z_op 5 9 = o_nul 22 := rfl
theorem k5_12 : z_op 5 12 = o_iload 1 2 := rfl
theorem k5_13 : z_op 5 13 = o_const 1 (.int (2)) := rfl
theorem k5_14 : z_op 5 14 = o_ic (fun x y => x < y) 22 := rfl
theorem k5_17 : z_op 5 17 = o_iload 1 3 := rfl
theorem k5_18 : z_op 5 18 = o_const 1 (.int (1)) := rfl
theorem k5_19 : z_op 5 19 = o_ic (fun x y => y ≤ x) 24 := rfl
theorem k5_22 : z_op 5 22 = o_const 1 (.int (0)) := rfl
theorem k5_23 : z_op 5 23 = o_iret .boolean := rfl
theorem k5_24 : z_op 5 24 = o_aload 2 4 := rfl
theorem k5_26 : z_op 5 26 = o_new 8 2 [.int 0, .int 0] := rfl
theorem k5_29 : z_op 5 29 = o_dup := rfl
theorem k5_30 : z_op 5 30 = o_iload 1 2 := rfl
theorem k5_31 : z_op 5 31 = o_iload 1 3 := rfl
theorem k5_32 : z_op 5 32 = o_ci 67 2 := rfl
theorem k5_35 : z_op 5 35 = o_put 1 9 (.object "MailVerdicts$Key") := rfl
theorem k5_38 : z_op 5 38 = o_const 1 (.int (1)) := rfl
theorem k5_39 : z_op 5 39 = o_iret .boolean := rfl
theorem k6_0 : z_op 6 0 = o_aload 1 0 := rfl
theorem k6_1 : z_op 6 1 = o_iload 1 1 := rfl
theorem k6_2 : z_op 6 2 = o_cv 20 0 1 := rfl
theorem k6_5 : z_op 6 5 = o_ast 2 6 false := rfl
theorem k6_7 : z_op 6 7 = o_aload 2 6 := rfl
theorem k6_9 : z_op 6 9 = o_nul 26 := rfl
theorem k6_12 : z_op 6 12 = o_iload 1 2 := rfl
theorem k6_13 : z_op 6 13 = o_cs 24 1 := rfl
theorem k6_16 : z_op 6 16 = o_if (fun x => x = 0) 26 := rfl
theorem k6_19 : z_op 6 19 = o_iload 1 3 := rfl
theorem k6_20 : z_op 6 20 = o_cs 24 1 := rfl
theorem k6_23 : z_op 6 23 = o_if (fun x => ¬ x = 0) 28 := rfl
theorem k6_26 : z_op 6 26 = o_const 1 (.int (0)) := rfl
theorem k6_27 : z_op 6 27 = o_iret .boolean := rfl
theorem k6_28 : z_op 6 28 = o_aload 2 6 := rfl
theorem k6_30 : z_op 6 30 = o_new 9 4 [.int 0, .int 0, .int 0, .int 0] := rfl
theorem k6_33 : z_op 6 33 = o_dup := rfl
theorem k6_34 : z_op 6 34 = o_iload 1 2 := rfl
theorem k6_35 : z_op 6 35 = o_iload 1 3 := rfl
theorem k6_36 : z_op 6 36 = o_iload 2 4 := rfl
theorem k6_38 : z_op 6 38 = o_iload 2 5 := rfl
theorem k6_40 : z_op 6 40 = o_ci 69 4 := rfl
theorem k6_43 : z_op 6 43 = o_put 1 10 (.object "MailVerdicts$Wish") := rfl
theorem k6_46 : z_op 6 46 = o_const 1 (.int (1)) := rfl
theorem k6_47 : z_op 6 47 = o_iret .boolean := rfl
theorem k7_0 : z_op 7 0 = o_aload 1 0 := rfl
theorem k7_1 : z_op 7 1 = o_iload 1 2 := rfl
theorem k7_2 : z_op 7 2 = o_cv 20 0 1 := rfl
theorem k7_5 : z_op 7 5 = o_ast 1 3 false := rfl
theorem k7_6 : z_op 7 6 = o_aload 1 3 := rfl
theorem k7_7 : z_op 7 7 = o_nn 14 := rfl
theorem k7_10 : z_op 7 10 = o_const 1 (.int (-1)) := rfl
theorem k7_11 : z_op 7 11 = o_goto 23 := rfl
theorem k7_14 : z_op 7 14 = o_aload 1 0 := rfl
theorem k7_15 : z_op 7 15 = o_get 0 2 := rfl
theorem k7_18 : z_op 7 18 = o_iload 1 1 := rfl
theorem k7_19 : z_op 7 19 = o_aload 1 3 := rfl
theorem k7_20 : z_op 7 20 = o_cv 36 2 2 := rfl
theorem k7_23 : z_op 7 23 = o_iret .int := rfl
theorem k8_0 : z_op 8 0 = o_aload 1 0 := rfl
theorem k8_1 : z_op 8 1 = o_get 0 2 := rfl
theorem k8_4 : z_op 8 4 = o_get 2 1 := rfl
theorem k8_7 : z_op 8 7 = o_iret .int := rfl
theorem k9_0 : z_op 9 0 = o_aload 1 0 := rfl
theorem k9_1 : z_op 9 1 = o_get 0 2 := rfl
theorem k9_4 : z_op 9 4 = o_get 2 2 := rfl
theorem k9_7 : z_op 9 7 = o_iret .int := rfl
theorem k10_0 : z_op 10 0 = o_iload 1 1 := rfl
theorem k10_1 : z_op 10 1 = o_const 2 (.int (10)) := rfl
theorem k10_3 : z_op 10 3 = o_ic (fun x y => x = y) 18 := rfl
theorem k10_6 : z_op 10 6 = o_iload 1 1 := rfl
theorem k10_7 : z_op 10 7 = o_const 2 (.int (32)) := rfl
theorem k10_9 : z_op 10 9 = o_ic (fun x y => x < y) 22 := rfl
theorem k10_12 : z_op 10 12 = o_iload 1 1 := rfl
theorem k10_13 : z_op 10 13 = o_const 2 (.int (126)) := rfl
theorem k10_15 : z_op 10 15 = o_ic (fun x y => y < x) 22 := rfl
theorem k10_18 : z_op 10 18 = o_const 1 (.int (1)) := rfl
theorem k10_19 : z_op 10 19 = o_goto 23 := rfl
theorem k10_22 : z_op 10 22 = o_const 1 (.int (0)) := rfl
theorem k10_23 : z_op 10 23 = o_ist 1 2 false := rfl
theorem k10_24 : z_op 10 24 = o_iload 1 2 := rfl
theorem k10_25 : z_op 10 25 = o_if (fun x => x = 0) 46 := rfl
theorem k10_28 : z_op 10 28 = o_aload 1 0 := rfl
theorem k10_29 : z_op 10 29 = o_get 0 4 := rfl
theorem k10_32 : z_op 10 32 = o_get 4 0 := rfl
theorem k10_35 : z_op 10 35 = o_iload 1 1 := rfl
theorem k10_36 : z_op 10 36 = o_cv 61 5 1 := rfl
theorem k10_39 : z_op 10 39 = o_if (fun x => x = 0) 46 := rfl
theorem k10_42 : z_op 10 42 = o_const 1 (.int (1)) := rfl
theorem k10_43 : z_op 10 43 = o_goto 47 := rfl
theorem k10_46 : z_op 10 46 = o_const 1 (.int (0)) := rfl
theorem k10_47 : z_op 10 47 = o_iret .boolean := rfl
theorem k11_0 : z_op 11 0 = o_iload 1 1 := rfl
theorem k11_1 : z_op 11 1 = o_const 2 (.int (58)) := rfl
theorem k11_3 : z_op 11 3 = o_ic (fun x y => x = y) 13 := rfl
theorem k11_6 : z_op 11 6 = o_iload 1 1 := rfl
theorem k11_7 : z_op 11 7 = o_cs 25 1 := rfl
theorem k11_10 : z_op 11 10 = o_if (fun x => x = 0) 17 := rfl
theorem k11_13 : z_op 11 13 = o_const 1 (.int (1)) := rfl
theorem k11_14 : z_op 11 14 = o_goto 18 := rfl
theorem k11_17 : z_op 11 17 = o_const 1 (.int (0)) := rfl
theorem k11_18 : z_op 11 18 = o_ist 1 2 false := rfl
theorem k11_19 : z_op 11 19 = o_iload 1 2 := rfl
theorem k11_20 : z_op 11 20 = o_if (fun x => x = 0) 38 := rfl
theorem k11_23 : z_op 11 23 = o_aload 1 0 := rfl
theorem k11_24 : z_op 11 24 = o_get 0 5 := rfl
theorem k11_27 : z_op 11 27 = o_iload 1 1 := rfl
theorem k11_28 : z_op 11 28 = o_cv 61 5 1 := rfl
theorem k11_31 : z_op 11 31 = o_if (fun x => x = 0) 38 := rfl
theorem k11_34 : z_op 11 34 = o_const 1 (.int (1)) := rfl
theorem k11_35 : z_op 11 35 = o_goto 39 := rfl
theorem k11_38 : z_op 11 38 = o_const 1 (.int (0)) := rfl
theorem k11_39 : z_op 11 39 = o_iret .boolean := rfl
theorem k12_0 : z_op 12 0 = o_aload 1 0 := rfl
theorem k12_1 : z_op 12 1 = o_get 0 4 := rfl
theorem k12_4 : z_op 12 4 = o_get 4 0 := rfl
theorem k12_7 : z_op 12 7 = o_const 1 (.int (0)) := rfl
theorem k12_8 : z_op 12 8 = o_cv 63 5 1 := rfl
theorem k12_11 : z_op 12 11 = o_aload 1 0 := rfl
theorem k12_12 : z_op 12 12 = o_get 0 5 := rfl
theorem k12_15 : z_op 12 15 = o_const 1 (.int (0)) := rfl
theorem k12_16 : z_op 12 16 = o_cv 63 5 1 := rfl
theorem k12_19 : z_op 12 19 = o_aload 1 0 := rfl
theorem k12_20 : z_op 12 20 = o_const 1 (.int (0)) := rfl
theorem k12_21 : z_op 12 21 = o_put 0 7 .int := rfl
theorem k12_24 : z_op 12 24 = o_vret := rfl
theorem k13_0 : z_op 13 0 = o_aload 1 0 := rfl
theorem k13_1 : z_op 13 1 = o_get 0 4 := rfl
theorem k13_4 : z_op 13 4 = o_cv 57 4 0 := rfl
theorem k13_7 : z_op 13 7 = o_if (fun x => x = 0) 20 := rfl
theorem k13_10 : z_op 13 10 = o_aload 1 0 := rfl
theorem k13_11 : z_op 13 11 = o_get 0 4 := rfl
theorem k13_14 : z_op 13 14 = o_get 4 1 := rfl
theorem k13_17 : z_op 13 17 = o_goto 21 := rfl
theorem k13_20 : z_op 13 20 = o_const 1 (.int (-1)) := rfl
theorem k13_21 : z_op 13 21 = o_iret .int := rfl
theorem k14_0 : z_op 14 0 = o_aload 1 0 := rfl
theorem k14_1 : z_op 14 1 = o_get 0 3 := rfl
theorem k14_4 : z_op 14 4 = o_iload 1 1 := rfl
theorem k14_5 : z_op 14 5 = o_iload 1 2 := rfl
theorem k14_6 : z_op 14 6 = o_cv 47 3 2 := rfl
theorem k14_9 : z_op 14 9 = o_if (fun x => x = 0) 25 := rfl
theorem k14_12 : z_op 14 12 = o_aload 1 0 := rfl
theorem k14_13 : z_op 14 13 = o_get 0 3 := rfl
theorem k14_16 : z_op 14 16 = o_get 3 2 := rfl
theorem k14_19 : z_op 14 19 = o_get 5 1 := rfl
theorem k14_22 : z_op 14 22 = o_goto 26 := rfl
theorem k14_25 : z_op 14 25 = o_const 1 (.int (-1)) := rfl
theorem k14_26 : z_op 14 26 = o_iret .int := rfl
theorem k15_0 : z_op 15 0 = o_aload 1 0 := rfl
theorem k15_1 : z_op 15 1 = o_get 0 3 := rfl
theorem k15_4 : z_op 15 4 = o_iload 1 1 := rfl
theorem k15_5 : z_op 15 5 = o_iload 1 2 := rfl
theorem k15_6 : z_op 15 6 = o_cv 47 3 2 := rfl
theorem k15_9 : z_op 15 9 = o_if (fun x => x = 0) 26 := rfl
theorem k15_12 : z_op 15 12 = o_aload 1 0 := rfl
theorem k15_13 : z_op 15 13 = o_get 0 3 := rfl
theorem k15_16 : z_op 15 16 = o_get 3 2 := rfl
theorem k15_19 : z_op 15 19 = o_iload 1 3 := rfl
theorem k15_20 : z_op 15 20 = o_cv 62 5 1 := rfl
theorem k15_23 : z_op 15 23 = o_goto 27 := rfl
theorem k15_26 : z_op 15 26 = o_const 1 (.int (-1)) := rfl
theorem k15_27 : z_op 15 27 = o_iret .int := rfl
theorem k16_0 : z_op 16 0 = o_aload 1 0 := rfl
theorem k16_1 : z_op 16 1 = o_get 0 3 := rfl
theorem k16_4 : z_op 16 4 = o_iload 1 1 := rfl
theorem k16_5 : z_op 16 5 = o_iload 1 2 := rfl
theorem k16_6 : z_op 16 6 = o_cv 47 3 2 := rfl
theorem k16_9 : z_op 16 9 = o_if (fun x => x = 0) 25 := rfl
theorem k16_12 : z_op 16 12 = o_aload 1 0 := rfl
theorem k16_13 : z_op 16 13 = o_get 0 3 := rfl
theorem k16_16 : z_op 16 16 = o_get 3 2 := rfl
theorem k16_19 : z_op 16 19 = o_cv 64 5 0 := rfl
theorem k16_22 : z_op 16 22 = o_goto 26 := rfl
theorem k16_25 : z_op 16 25 = o_const 1 (.int (-1)) := rfl
theorem k16_26 : z_op 16 26 = o_iret .int := rfl
theorem k17_0 : z_op 17 0 = o_aload 1 0 := rfl
theorem k17_1 : z_op 17 1 = o_iload 1 1 := rfl
theorem k17_2 : z_op 17 2 = o_cv 20 0 1 := rfl
theorem k17_5 : z_op 17 5 = o_ast 2 5 false := rfl
theorem k17_7 : z_op 17 7 = o_aload 2 5 := rfl
theorem k17_9 : z_op 17 9 = o_nn 14 := rfl
theorem k17_12 : z_op 17 12 = o_const 1 (.int (-1)) := rfl
theorem k17_13 : z_op 17 13 = o_iret .int := rfl
theorem k17_14 : z_op 17 14 = o_aload 1 0 := rfl
theorem k17_15 : z_op 17 15 = o_get 0 7 := rfl
theorem k17_18 : z_op 17 18 = o_const 1 (.int (3)) := rfl
theorem k17_19 : z_op 17 19 = o_ic (fun x y => ¬ x = y) 25 := rfl
theorem k17_22 : z_op 17 22 = o_const 2 (.int (-2)) := rfl
theorem k17_24 : z_op 17 24 = o_iret .int := rfl
theorem k17_25 : z_op 17 25 = o_aload 1 0 := rfl
theorem k17_26 : z_op 17 26 = o_get 0 6 := rfl
theorem k17_29 : z_op 17 29 = o_aload 1 0 := rfl
theorem k17_30 : z_op 17 30 = o_get 0 7 := rfl
theorem k17_33 : z_op 17 33 = o_new 6 4 [.null, .int 0, .int 0, .int 0] := rfl
theorem k17_36 : z_op 17 36 = o_dup := rfl
theorem k17_37 : z_op 17 37 = o_aload 2 5 := rfl
theorem k17_39 : z_op 17 39 = o_iload 1 2 := rfl
theorem k17_40 : z_op 17 40 = o_iload 1 3 := rfl
theorem k17_41 : z_op 17 41 = o_iload 2 4 := rfl
theorem k17_43 : z_op 17 43 = o_ci 65 4 := rfl
theorem k17_46 : z_op 17 46 = o_rst "MailVerdicts$Signature" 6 := rfl
theorem k17_47 : z_op 17 47 = o_aload 1 0 := rfl
theorem k17_48 : z_op 17 48 = o_dup := rfl
theorem k17_49 : z_op 17 49 = o_get 0 7 := rfl
theorem k17_52 : z_op 17 52 = o_const 1 (.int (1)) := rfl
theorem k17_53 : z_op 17 53 = o_ib (fun x y => x + y) := rfl
theorem k17_54 : z_op 17 54 = o_put 0 7 .int := rfl
theorem k17_57 : z_op 17 57 = o_aload 1 0 := rfl
theorem k17_58 : z_op 17 58 = o_get 0 7 := rfl
theorem k17_61 : z_op 17 61 = o_iret .int := rfl
theorem k18_0 : z_op 18 0 = o_iload 1 1 := rfl
theorem k18_1 : z_op 18 1 = o_if (fun x => x < 0) 29 := rfl
theorem k18_4 : z_op 18 4 = o_iload 1 1 := rfl
theorem k18_5 : z_op 18 5 = o_aload 1 0 := rfl
theorem k18_6 : z_op 18 6 = o_get 0 7 := rfl
theorem k18_9 : z_op 18 9 = o_ic (fun x y => y ≤ x) 29 := rfl
theorem k18_12 : z_op 18 12 = o_aload 1 0 := rfl
theorem k18_13 : z_op 18 13 = o_aload 1 0 := rfl
theorem k18_14 : z_op 18 14 = o_get 0 6 := rfl
theorem k18_17 : z_op 18 17 = o_iload 1 1 := rfl
theorem k18_18 : z_op 18 18 = o_rld "MailVerdicts$Signature" := rfl
theorem k18_19 : z_op 18 19 = o_cv 21 0 1 := rfl
theorem k18_22 : z_op 18 22 = o_if (fun x => x = 0) 29 := rfl
theorem k18_25 : z_op 18 25 = o_const 1 (.int (1)) := rfl
theorem k18_26 : z_op 18 26 = o_goto 30 := rfl
theorem k18_29 : z_op 18 29 = o_const 1 (.int (0)) := rfl
theorem k18_30 : z_op 18 30 = o_iret .boolean := rfl
theorem k19_0 : z_op 19 0 = o_aload 1 0 := rfl
theorem k19_1 : z_op 19 1 = o_iload 1 2 := rfl
theorem k19_2 : z_op 19 2 = o_cv 20 0 1 := rfl
theorem k19_5 : z_op 19 5 = o_ast 2 4 false := rfl
theorem k19_7 : z_op 19 7 = o_aload 1 0 := rfl
theorem k19_8 : z_op 19 8 = o_iload 1 3 := rfl
theorem k19_9 : z_op 19 9 = o_cv 20 0 1 := rfl
theorem k19_12 : z_op 19 12 = o_ast 2 5 false := rfl
theorem k19_14 : z_op 19 14 = o_aload 2 4 := rfl
theorem k19_16 : z_op 19 16 = o_nul 24 := rfl
theorem k19_19 : z_op 19 19 = o_aload 2 5 := rfl
theorem k19_21 : z_op 19 21 = o_nn 26 := rfl
theorem k19_24 : z_op 19 24 = o_const 1 (.int (-1)) := rfl
theorem k19_25 : z_op 19 25 = o_iret .int := rfl
theorem k19_26 : z_op 19 26 = o_aload 1 0 := rfl
theorem k19_27 : z_op 19 27 = o_get 0 2 := rfl
theorem k19_30 : z_op 19 30 = o_iload 1 1 := rfl
theorem k19_31 : z_op 19 31 = o_aload 2 4 := rfl
theorem k19_33 : z_op 19 33 = o_cv 36 2 2 := rfl
theorem k19_36 : z_op 19 36 = o_ist 2 6 false := rfl
theorem k19_38 : z_op 19 38 = o_aload 2 5 := rfl
theorem k19_40 : z_op 19 40 = o_get 1 10 := rfl
theorem k19_43 : z_op 19 43 = o_nul 54 := rfl
theorem k19_46 : z_op 19 46 = o_aload 2 5 := rfl
theorem k19_48 : z_op 19 48 = o_get 1 10 := rfl
theorem k19_51 : z_op 19 51 = o_goto 62 := rfl
theorem k19_54 : z_op 19 54 = o_aload 2 5 := rfl
theorem k19_56 : z_op 19 56 = o_cv 33 1 0 := rfl
theorem k19_59 : z_op 19 59 = o_get 1 10 := rfl
theorem k19_62 : z_op 19 62 = o_ast 2 7 false := rfl
theorem k19_64 : z_op 19 64 = o_aload 2 7 := rfl
theorem k19_66 : z_op 19 66 = o_nn 71 := rfl
theorem k19_69 : z_op 19 69 = o_const 1 (.int (0)) := rfl
theorem k19_70 : z_op 19 70 = o_iret .int := rfl
theorem k19_71 : z_op 19 71 = o_iload 2 6 := rfl
theorem k19_73 : z_op 19 73 = o_const 1 (.int (2)) := rfl
theorem k19_74 : z_op 19 74 = o_ic (fun x y => ¬ x = y) 94 := rfl
theorem k19_77 : z_op 19 77 = o_aload 2 4 := rfl
theorem k19_79 : z_op 19 79 = o_aload 2 5 := rfl
theorem k19_81 : z_op 19 81 = o_aload 2 7 := rfl
theorem k19_83 : z_op 19 83 = o_get 9 2 := rfl
theorem k19_86 : z_op 19 86 = o_cv 34 1 2 := rfl
theorem k19_89 : z_op 19 89 = o_if (fun x => x = 0) 94 := rfl
theorem k19_92 : z_op 19 92 = o_const 1 (.int (1)) := rfl
theorem k19_93 : z_op 19 93 = o_iret .int := rfl
theorem k19_94 : z_op 19 94 = o_const 1 (.int (0)) := rfl
theorem k19_95 : z_op 19 95 = o_ist 2 8 false := rfl
theorem k19_97 : z_op 19 97 = o_iload 2 8 := rfl
theorem k19_99 : z_op 19 99 = o_aload 1 0 := rfl
theorem k19_100 : z_op 19 100 = o_get 0 7 := rfl
theorem k19_103 : z_op 19 103 = o_ic (fun x y => y ≤ x) 151 := rfl
theorem k19_106 : z_op 19 106 = o_aload 1 0 := rfl
theorem k19_107 : z_op 19 107 = o_get 0 6 := rfl
theorem k19_110 : z_op 19 110 = o_iload 2 8 := rfl
theorem k19_112 : z_op 19 112 = o_rld "MailVerdicts$Signature" := rfl
theorem k19_113 : z_op 19 113 = o_get 6 0 := rfl
theorem k19_116 : z_op 19 116 = o_aload 2 5 := rfl
theorem k19_118 : z_op 19 118 = o_aload 2 7 := rfl
theorem k19_120 : z_op 19 120 = o_get 9 3 := rfl
theorem k19_123 : z_op 19 123 = o_cv 34 1 2 := rfl
theorem k19_126 : z_op 19 126 = o_if (fun x => x = 0) 145 := rfl
theorem k19_129 : z_op 19 129 = o_aload 1 0 := rfl
theorem k19_130 : z_op 19 130 = o_aload 1 0 := rfl
theorem k19_131 : z_op 19 131 = o_get 0 6 := rfl
theorem k19_134 : z_op 19 134 = o_iload 2 8 := rfl
theorem k19_136 : z_op 19 136 = o_rld "MailVerdicts$Signature" := rfl
theorem k19_137 : z_op 19 137 = o_cv 21 0 1 := rfl
theorem k19_140 : z_op 19 140 = o_if (fun x => x = 0) 145 := rfl
theorem k19_143 : z_op 19 143 = o_const 1 (.int (1)) := rfl
theorem k19_144 : z_op 19 144 = o_iret .int := rfl
theorem k19_145 : z_op 19 145 = o_iinc 8 (1) := rfl
theorem k19_148 : z_op 19 148 = o_goto 97 := rfl
theorem k19_151 : z_op 19 151 = o_const 1 (.int (2)) := rfl
theorem k19_152 : z_op 19 152 = o_aload 2 5 := rfl
theorem k19_154 : z_op 19 154 = o_get 1 10 := rfl
theorem k19_157 : z_op 19 157 = o_nul 168 := rfl
theorem k19_160 : z_op 19 160 = o_aload 2 7 := rfl
theorem k19_162 : z_op 19 162 = o_get 9 0 := rfl
theorem k19_165 : z_op 19 165 = o_goto 173 := rfl
theorem k19_168 : z_op 19 168 = o_aload 2 7 := rfl
theorem k19_170 : z_op 19 170 = o_get 9 1 := rfl
theorem k19_173 : z_op 19 173 = o_ib (fun x y => x + y) := rfl
theorem k19_174 : z_op 19 174 = o_iret .int := rfl
theorem k20_0 : z_op 20 0 = o_iload 1 1 := rfl
theorem k20_1 : z_op 20 1 = o_if (fun x => x < 0) 21 := rfl
theorem k20_4 : z_op 20 4 = o_iload 1 1 := rfl
theorem k20_5 : z_op 20 5 = o_aload 1 0 := rfl
theorem k20_6 : z_op 20 6 = o_get 0 1 := rfl
theorem k20_9 : z_op 20 9 = o_ic (fun x y => y ≤ x) 21 := rfl
theorem k20_12 : z_op 20 12 = o_aload 1 0 := rfl
theorem k20_13 : z_op 20 13 = o_get 0 0 := rfl
theorem k20_16 : z_op 20 16 = o_iload 1 1 := rfl
theorem k20_17 : z_op 20 17 = o_rld "MailVerdicts$Domain" := rfl
theorem k20_18 : z_op 20 18 = o_goto 22 := rfl
theorem k20_21 : z_op 20 21 = o_const 1 .null := rfl
theorem k20_22 : z_op 20 22 = o_aret := rfl
theorem k21_0 : z_op 21 0 = o_aload 1 1 := rfl
theorem k21_1 : z_op 21 1 = o_get 6 0 := rfl
theorem k21_4 : z_op 21 4 = o_get 1 9 := rfl
theorem k21_7 : z_op 21 7 = o_ast 1 2 false := rfl
theorem k21_8 : z_op 21 8 = o_aload 1 2 := rfl
theorem k21_9 : z_op 21 9 = o_nul 55 := rfl
theorem k21_12 : z_op 21 12 = o_aload 1 0 := rfl
theorem k21_13 : z_op 21 13 = o_get 0 3 := rfl
theorem k21_16 : z_op 21 16 = o_aload 1 1 := rfl
theorem k21_17 : z_op 21 17 = o_get 6 1 := rfl
theorem k21_20 : z_op 21 20 = o_aload 1 1 := rfl
theorem k21_21 : z_op 21 21 = o_get 6 2 := rfl
theorem k21_24 : z_op 21 24 = o_cv 47 3 2 := rfl
theorem k21_27 : z_op 21 27 = o_if (fun x => x = 0) 55 := rfl
theorem k21_30 : z_op 21 30 = o_aload 1 2 := rfl
theorem k21_31 : z_op 21 31 = o_aload 1 1 := rfl
theorem k21_32 : z_op 21 32 = o_get 6 3 := rfl
theorem k21_35 : z_op 21 35 = o_aload 1 0 := rfl
theorem k21_36 : z_op 21 36 = o_get 0 3 := rfl
theorem k21_39 : z_op 21 39 = o_get 3 2 := rfl
theorem k21_42 : z_op 21 42 = o_cv 64 5 0 := rfl
theorem k21_45 : z_op 21 45 = o_cv 68 8 2 := rfl
theorem k21_48 : z_op 21 48 = o_if (fun x => x = 0) 55 := rfl
theorem k21_51 : z_op 21 51 = o_const 1 (.int (1)) := rfl
theorem k21_52 : z_op 21 52 = o_goto 56 := rfl
theorem k21_55 : z_op 21 55 = o_const 1 (.int (0)) := rfl
theorem k21_56 : z_op 21 56 = o_iret .boolean := rfl
theorem k22_0 : z_op 22 0 = o_iload 1 0 := rfl
theorem k22_1 : z_op 22 1 = o_const 1 (.int (1)) := rfl
theorem k22_2 : z_op 22 2 = o_ic (fun x y => x = y) 15 := rfl
theorem k22_5 : z_op 22 5 = o_iload 1 0 := rfl
theorem k22_6 : z_op 22 6 = o_const 1 (.int (2)) := rfl
theorem k22_7 : z_op 22 7 = o_ic (fun x y => x = y) 15 := rfl
theorem k22_10 : z_op 22 10 = o_iload 1 0 := rfl
theorem k22_11 : z_op 22 11 = o_const 1 (.int (3)) := rfl
theorem k22_12 : z_op 22 12 = o_ic (fun x y => ¬ x = y) 19 := rfl
theorem k22_15 : z_op 22 15 = o_const 1 (.int (1)) := rfl
theorem k22_16 : z_op 22 16 = o_goto 20 := rfl
theorem k22_19 : z_op 22 19 = o_const 1 (.int (0)) := rfl
theorem k22_20 : z_op 22 20 = o_iret .boolean := rfl
theorem k23_0 : z_op 23 0 = o_iload 1 0 := rfl
theorem k23_1 : z_op 23 1 = o_if (fun x => x = 0) 13 := rfl
theorem k23_4 : z_op 23 4 = o_iload 1 0 := rfl
theorem k23_5 : z_op 23 5 = o_const 1 (.int (1)) := rfl
theorem k23_6 : z_op 23 6 = o_ic (fun x y => x = y) 13 := rfl
theorem k23_9 : z_op 23 9 = o_const 1 (.int (1)) := rfl
theorem k23_10 : z_op 23 10 = o_goto 14 := rfl
theorem k23_13 : z_op 23 13 = o_const 1 (.int (0)) := rfl
theorem k23_14 : z_op 23 14 = o_iret .boolean := rfl
theorem k24_0 : z_op 24 0 = o_iload 1 0 := rfl
theorem k24_1 : z_op 24 1 = o_if (fun x => x < 0) 13 := rfl
theorem k24_4 : z_op 24 4 = o_iload 1 0 := rfl
theorem k24_5 : z_op 24 5 = o_const 1 (.int (2)) := rfl
theorem k24_6 : z_op 24 6 = o_ic (fun x y => y < x) 13 := rfl
theorem k24_9 : z_op 24 9 = o_const 1 (.int (1)) := rfl
theorem k24_10 : z_op 24 10 = o_goto 14 := rfl
theorem k24_13 : z_op 24 13 = o_const 1 (.int (0)) := rfl
theorem k24_14 : z_op 24 14 = o_iret .boolean := rfl
theorem k25_0 : z_op 25 0 = o_iload 1 0 := rfl
theorem k25_1 : z_op 25 1 = o_const 2 (.int (65)) := rfl
theorem k25_3 : z_op 25 3 = o_ic (fun x y => x < y) 12 := rfl
theorem k25_6 : z_op 25 6 = o_iload 1 0 := rfl
theorem k25_7 : z_op 25 7 = o_const 2 (.int (90)) := rfl
theorem k25_9 : z_op 25 9 = o_ic (fun x y => x ≤ y) 42 := rfl
theorem k25_12 : z_op 25 12 = o_iload 1 0 := rfl
theorem k25_13 : z_op 25 13 = o_const 2 (.int (97)) := rfl
theorem k25_15 : z_op 25 15 = o_ic (fun x y => x < y) 24 := rfl
theorem k25_18 : z_op 25 18 = o_iload 1 0 := rfl
theorem k25_19 : z_op 25 19 = o_const 2 (.int (122)) := rfl
theorem k25_21 : z_op 25 21 = o_ic (fun x y => x ≤ y) 42 := rfl
theorem k25_24 : z_op 25 24 = o_iload 1 0 := rfl
theorem k25_25 : z_op 25 25 = o_const 2 (.int (48)) := rfl
theorem k25_27 : z_op 25 27 = o_ic (fun x y => x < y) 36 := rfl
theorem k25_30 : z_op 25 30 = o_iload 1 0 := rfl
theorem k25_31 : z_op 25 31 = o_const 2 (.int (57)) := rfl
theorem k25_33 : z_op 25 33 = o_ic (fun x y => x ≤ y) 42 := rfl
theorem k25_36 : z_op 25 36 = o_iload 1 0 := rfl
theorem k25_37 : z_op 25 37 = o_const 2 (.int (45)) := rfl
theorem k25_39 : z_op 25 39 = o_ic (fun x y => ¬ x = y) 46 := rfl
theorem k25_42 : z_op 25 42 = o_const 1 (.int (1)) := rfl
theorem k25_43 : z_op 25 43 = o_goto 47 := rfl
theorem k25_46 : z_op 25 46 = o_const 1 (.int (0)) := rfl
theorem k25_47 : z_op 25 47 = o_iret .boolean := rfl
theorem k26_0 : z_op 26 0 = o_iload 1 0 := rfl
theorem k26_1 : z_op 26 1 = o_const 2 (.int (65)) := rfl
theorem k26_3 : z_op 26 3 = o_ic (fun x y => x < y) 22 := rfl
theorem k26_6 : z_op 26 6 = o_iload 1 0 := rfl
theorem k26_7 : z_op 26 7 = o_const 2 (.int (90)) := rfl
theorem k26_9 : z_op 26 9 = o_ic (fun x y => y < x) 22 := rfl
theorem k26_12 : z_op 26 12 = o_iload 1 0 := rfl
theorem k26_13 : z_op 26 13 = o_const 2 (.int (65)) := rfl
theorem k26_15 : z_op 26 15 = o_ib (fun x y => x - y) := rfl
theorem k26_16 : z_op 26 16 = o_const 2 (.int (97)) := rfl
theorem k26_18 : z_op 26 18 = o_ib (fun x y => x + y) := rfl
theorem k26_19 : z_op 26 19 = o_goto 23 := rfl
theorem k26_22 : z_op 26 22 = o_iload 1 0 := rfl
theorem k26_23 : z_op 26 23 = o_iret .int := rfl
theorem k27_0 : z_op 27 0 = o_aload 1 0 := rfl
theorem k27_1 : z_op 27 1 = o_obj := rfl
theorem k27_4 : z_op 27 4 = o_aload 1 0 := rfl
theorem k27_5 : z_op 27 5 = o_aload 1 1 := rfl
theorem k27_6 : z_op 27 6 = o_put 1 0 (.object "MailVerdicts$Domain") := rfl
theorem k27_9 : z_op 27 9 = o_aload 1 0 := rfl
theorem k27_10 : z_op 27 10 = o_iload 1 2 := rfl
theorem k27_11 : z_op 27 11 = o_put 1 1 .boolean := rfl
theorem k27_14 : z_op 27 14 = o_aload 1 0 := rfl
theorem k27_15 : z_op 27 15 = o_const 1 (.int (3)) := rfl
theorem k27_16 : z_op 27 16 = o_newa .int := rfl
theorem k27_18 : z_op 27 18 = o_put 1 2 (.array .int) := rfl
theorem k27_21 : z_op 27 21 = o_aload 1 0 := rfl
theorem k27_22 : z_op 27 22 = o_const 1 (.int (3)) := rfl
theorem k27_23 : z_op 27 23 = o_anew "MailVerdicts$Domain" := rfl
theorem k27_26 : z_op 27 26 = o_put 1 4 (.array (.object "MailVerdicts$Domain")) := rfl
theorem k27_29 : z_op 27 29 = o_aload 1 0 := rfl
theorem k27_30 : z_op 27 30 = o_const 2 (.int (8)) := rfl
theorem k27_32 : z_op 27 32 = o_anew "MailVerdicts$Term" := rfl
theorem k27_35 : z_op 27 35 = o_put 1 6 (.array (.object "MailVerdicts$Term")) := rfl
theorem k27_38 : z_op 27 38 = o_vret := rfl
theorem k28_0 : z_op 28 0 = o_aload 1 0 := rfl
theorem k28_1 : z_op 28 1 = o_get 1 3 := rfl
theorem k28_4 : z_op 28 4 = o_const 1 (.int (3)) := rfl
theorem k28_5 : z_op 28 5 = o_ic (fun x y => ¬ x = y) 10 := rfl
theorem k28_8 : z_op 28 8 = o_const 1 (.int (0)) := rfl
theorem k28_9 : z_op 28 9 = o_iret .boolean := rfl
theorem k28_10 : z_op 28 10 = o_aload 1 0 := rfl
theorem k28_11 : z_op 28 11 = o_get 1 2 := rfl
theorem k28_14 : z_op 28 14 = o_aload 1 0 := rfl
theorem k28_15 : z_op 28 15 = o_get 1 3 := rfl
theorem k28_18 : z_op 28 18 = o_iload 1 1 := rfl
theorem k28_19 : z_op 28 19 = o_aast .int := rfl
theorem k28_20 : z_op 28 20 = o_aload 1 0 := rfl
theorem k28_21 : z_op 28 21 = o_dup := rfl
theorem k28_22 : z_op 28 22 = o_get 1 3 := rfl
theorem k28_25 : z_op 28 25 = o_const 1 (.int (1)) := rfl
theorem k28_26 : z_op 28 26 = o_ib (fun x y => x + y) := rfl
theorem k28_27 : z_op 28 27 = o_put 1 3 .int := rfl
theorem k28_30 : z_op 28 30 = o_const 1 (.int (1)) := rfl
theorem k28_31 : z_op 28 31 = o_iret .boolean := rfl
theorem k29_0 : z_op 29 0 = o_aload 1 0 := rfl
theorem k29_1 : z_op 29 1 = o_get 1 5 := rfl
theorem k29_4 : z_op 29 4 = o_const 1 (.int (3)) := rfl
theorem k29_5 : z_op 29 5 = o_ic (fun x y => ¬ x = y) 10 := rfl
theorem k29_8 : z_op 29 8 = o_const 1 (.int (0)) := rfl
theorem k29_9 : z_op 29 9 = o_iret .boolean := rfl
theorem k29_10 : z_op 29 10 = o_aload 1 0 := rfl
theorem k29_11 : z_op 29 11 = o_get 1 4 := rfl
theorem k29_14 : z_op 29 14 = o_aload 1 0 := rfl
theorem k29_15 : z_op 29 15 = o_get 1 5 := rfl
theorem k29_18 : z_op 29 18 = o_aload 1 1 := rfl
theorem k29_19 : z_op 29 19 = o_rst "MailVerdicts$Domain" 1 := rfl
theorem k29_20 : z_op 29 20 = o_aload 1 0 := rfl
theorem k29_21 : z_op 29 21 = o_dup := rfl
theorem k29_22 : z_op 29 22 = o_get 1 5 := rfl
theorem k29_25 : z_op 29 25 = o_const 1 (.int (1)) := rfl
theorem k29_26 : z_op 29 26 = o_ib (fun x y => x + y) := rfl
theorem k29_27 : z_op 29 27 = o_put 1 5 .int := rfl
theorem k29_30 : z_op 29 30 = o_const 1 (.int (1)) := rfl
theorem k29_31 : z_op 29 31 = o_iret .boolean := rfl
theorem k30_0 : z_op 30 0 = o_aload 1 0 := rfl
theorem k30_1 : z_op 30 1 = o_get 1 8 := rfl
theorem k30_4 : z_op 30 4 = o_nn 14 := rfl
theorem k30_7 : z_op 30 7 = o_aload 1 0 := rfl
theorem k30_8 : z_op 30 8 = o_get 1 7 := rfl
theorem k30_11 : z_op 30 11 = o_goto 20 := rfl
theorem k30_14 : z_op 30 14 = o_aload 1 0 := rfl
theorem k30_15 : z_op 30 15 = o_get 1 7 := rfl
theorem k30_18 : z_op 30 18 = o_const 1 (.int (1)) := rfl
theorem k30_19 : z_op 30 19 = o_ib (fun x y => x + y) := rfl
theorem k30_20 : z_op 30 20 = o_iret .int := rfl
theorem k31_0 : z_op 31 0 = o_aload 1 0 := rfl
theorem k31_1 : z_op 31 1 = o_cv 30 1 0 := rfl
theorem k31_4 : z_op 31 4 = o_const 2 (.int (8)) := rfl
theorem k31_6 : z_op 31 6 = o_ic (fun x y => y ≤ x) 26 := rfl
theorem k31_9 : z_op 31 9 = o_iload 1 1 := rfl
theorem k31_10 : z_op 31 10 = o_const 2 (.int (6)) := rfl
theorem k31_12 : z_op 31 12 = o_ic (fun x y => ¬ x = y) 22 := rfl
theorem k31_15 : z_op 31 15 = o_aload 1 0 := rfl
theorem k31_16 : z_op 31 16 = o_get 1 8 := rfl
theorem k31_19 : z_op 31 19 = o_nn 26 := rfl
theorem k31_22 : z_op 31 22 = o_const 1 (.int (1)) := rfl
theorem k31_23 : z_op 31 23 = o_goto 27 := rfl
theorem k31_26 : z_op 31 26 = o_const 1 (.int (0)) := rfl
theorem k31_27 : z_op 31 27 = o_iret .boolean := rfl
theorem k32_0 : z_op 32 0 = o_aload 1 0 := rfl
theorem k32_1 : z_op 32 1 = o_get 1 7 := rfl
theorem k32_4 : z_op 32 4 = o_const 2 (.int (8)) := rfl
theorem k32_6 : z_op 32 6 = o_ic (fun x y => y ≤ x) 29 := rfl
theorem k32_9 : z_op 32 9 = o_aload 1 0 := rfl
theorem k32_10 : z_op 32 10 = o_get 1 6 := rfl
theorem k32_13 : z_op 32 13 = o_aload 1 0 := rfl
theorem k32_14 : z_op 32 14 = o_get 1 7 := rfl
theorem k32_17 : z_op 32 17 = o_aload 1 1 := rfl
theorem k32_18 : z_op 32 18 = o_rst "MailVerdicts$Term" 7 := rfl
theorem k32_19 : z_op 32 19 = o_aload 1 0 := rfl
theorem k32_20 : z_op 32 20 = o_dup := rfl
theorem k32_21 : z_op 32 21 = o_get 1 7 := rfl
theorem k32_24 : z_op 32 24 = o_const 1 (.int (1)) := rfl
theorem k32_25 : z_op 32 25 = o_ib (fun x y => x + y) := rfl
theorem k32_26 : z_op 32 26 = o_put 1 7 .int := rfl
theorem k32_29 : z_op 32 29 = o_vret := rfl
theorem k33_0 : z_op 33 0 = o_aload 1 0 := rfl
theorem k33_1 : z_op 33 1 = o_ast 1 1 false := rfl
theorem k33_2 : z_op 33 2 = o_aload 1 0 := rfl
theorem k33_3 : z_op 33 3 = o_get 1 1 := rfl
theorem k33_6 : z_op 33 6 = o_if (fun x => ¬ x = 0) 34 := rfl
theorem k33_9 : z_op 33 9 = o_aload 1 1 := rfl
theorem k33_10 : z_op 33 10 = o_get 1 0 := rfl
theorem k33_13 : z_op 33 13 = o_nul 34 := rfl
theorem k33_16 : z_op 33 16 = o_aload 1 1 := rfl
theorem k33_17 : z_op 33 17 = o_get 1 0 := rfl
theorem k33_20 : z_op 33 20 = o_get 1 1 := rfl
theorem k33_23 : z_op 33 23 = o_if (fun x => ¬ x = 0) 34 := rfl
theorem k33_26 : z_op 33 26 = o_aload 1 1 := rfl
theorem k33_27 : z_op 33 27 = o_get 1 0 := rfl
theorem k33_30 : z_op 33 30 = o_ast 1 1 false := rfl
theorem k33_31 : z_op 33 31 = o_goto 2 := rfl
theorem k33_34 : z_op 33 34 = o_aload 1 1 := rfl
theorem k33_35 : z_op 33 35 = o_aret := rfl
theorem k34_0 : z_op 34 0 = o_aload 1 0 := rfl
theorem k34_1 : z_op 34 1 = o_aload 1 1 := rfl
theorem k34_2 : z_op 34 2 = o_ac true 20 := rfl
theorem k34_5 : z_op 34 5 = o_iload 1 2 := rfl
theorem k34_6 : z_op 34 6 = o_if (fun x => ¬ x = 0) 24 := rfl
theorem k34_9 : z_op 34 9 = o_aload 1 0 := rfl
theorem k34_10 : z_op 34 10 = o_cv 33 1 0 := rfl
theorem k34_13 : z_op 34 13 = o_aload 1 1 := rfl
theorem k34_14 : z_op 34 14 = o_cv 33 1 0 := rfl
theorem k34_17 : z_op 34 17 = o_ac false 24 := rfl
theorem k34_20 : z_op 34 20 = o_const 1 (.int (1)) := rfl
theorem k34_21 : z_op 34 21 = o_goto 25 := rfl
theorem k34_24 : z_op 34 24 = o_const 1 (.int (0)) := rfl
theorem k34_25 : z_op 34 25 = o_iret .boolean := rfl
theorem k35_0 : z_op 35 0 = o_aload 1 0 := rfl
theorem k35_1 : z_op 35 1 = o_obj := rfl
theorem k35_4 : z_op 35 4 = o_vret := rfl
theorem k36_0 : z_op 36 0 = o_aload 1 0 := rfl
theorem k36_1 : z_op 36 1 = o_iload 1 1 := rfl
theorem k36_2 : z_op 36 2 = o_put 2 0 .int := rfl
theorem k36_5 : z_op 36 5 = o_aload 1 0 := rfl
theorem k36_6 : z_op 36 6 = o_const 1 (.int (0)) := rfl
theorem k36_7 : z_op 36 7 = o_put 2 1 .int := rfl
theorem k36_10 : z_op 36 10 = o_aload 1 0 := rfl
theorem k36_11 : z_op 36 11 = o_const 1 (.int (0)) := rfl
theorem k36_12 : z_op 36 12 = o_put 2 2 .int := rfl
theorem k36_15 : z_op 36 15 = o_aload 1 0 := rfl
theorem k36_16 : z_op 36 16 = o_aload 1 2 := rfl
theorem k36_17 : z_op 36 17 = o_const 1 (.int (0)) := rfl
theorem k36_18 : z_op 36 18 = o_cv 37 2 2 := rfl
theorem k36_21 : z_op 36 21 = o_iret .int := rfl
theorem k37_0 : z_op 37 0 = o_iload 1 2 := rfl
theorem k37_1 : z_op 37 1 = o_const 2 (.int (10)) := rfl
theorem k37_3 : z_op 37 3 = o_ic (fun x y => x ≤ y) 8 := rfl
theorem k37_6 : z_op 37 6 = o_const 1 (.int (5)) := rfl
theorem k37_7 : z_op 37 7 = o_iret .int := rfl
theorem k37_8 : z_op 37 8 = o_aload 1 1 := rfl
theorem k37_9 : z_op 37 9 = o_cv 30 1 0 := rfl
theorem k37_12 : z_op 37 12 = o_if (fun x => ¬ x = 0) 17 := rfl
theorem k37_15 : z_op 37 15 = o_const 1 (.int (0)) := rfl
theorem k37_16 : z_op 37 16 = o_iret .int := rfl
theorem k37_17 : z_op 37 17 = o_const 1 (.int (0)) := rfl
theorem k37_18 : z_op 37 18 = o_ist 1 3 false := rfl
theorem k37_19 : z_op 37 19 = o_iload 1 3 := rfl
theorem k37_20 : z_op 37 20 = o_aload 1 1 := rfl
theorem k37_21 : z_op 37 21 = o_get 1 7 := rfl
theorem k37_24 : z_op 37 24 = o_ic (fun x y => y ≤ x) 70 := rfl
theorem k37_27 : z_op 37 27 = o_aload 1 0 := rfl
theorem k37_28 : z_op 37 28 = o_aload 1 1 := rfl
theorem k37_29 : z_op 37 29 = o_get 1 6 := rfl
theorem k37_32 : z_op 37 32 = o_iload 1 3 := rfl
theorem k37_33 : z_op 37 33 = o_rld "MailVerdicts$Term" := rfl
theorem k37_34 : z_op 37 34 = o_iload 1 2 := rfl
theorem k37_35 : z_op 37 35 = o_cv 39 2 2 := rfl
theorem k37_38 : z_op 37 38 = o_ist 2 4 false := rfl
theorem k37_40 : z_op 37 40 = o_iload 2 4 := rfl
theorem k37_42 : z_op 37 42 = o_const 1 (.int (2)) := rfl
theorem k37_43 : z_op 37 43 = o_ic (fun x y => ¬ x = y) 48 := rfl
theorem k37_46 : z_op 37 46 = o_const 1 (.int (5)) := rfl
theorem k37_47 : z_op 37 47 = o_iret .int := rfl
theorem k37_48 : z_op 37 48 = o_iload 2 4 := rfl
theorem k37_50 : z_op 37 50 = o_const 1 (.int (1)) := rfl
theorem k37_51 : z_op 37 51 = o_ic (fun x y => ¬ x = y) 64 := rfl
theorem k37_54 : z_op 37 54 = o_aload 1 1 := rfl
theorem k37_55 : z_op 37 55 = o_get 1 6 := rfl
theorem k37_58 : z_op 37 58 = o_iload 1 3 := rfl
theorem k37_59 : z_op 37 59 = o_rld "MailVerdicts$Term" := rfl
theorem k37_60 : z_op 37 60 = o_get 7 0 := rfl
theorem k37_63 : z_op 37 63 = o_iret .int := rfl
theorem k37_64 : z_op 37 64 = o_iinc 3 (1) := rfl
theorem k37_67 : z_op 37 67 = o_goto 19 := rfl
theorem k37_70 : z_op 37 70 = o_aload 1 1 := rfl
theorem k37_71 : z_op 37 71 = o_get 1 8 := rfl
theorem k37_74 : z_op 37 74 = o_nn 81 := rfl
theorem k37_77 : z_op 37 77 = o_const 1 (.int (1)) := rfl
theorem k37_78 : z_op 37 78 = o_goto 90 := rfl
theorem k37_81 : z_op 37 81 = o_aload 1 0 := rfl
theorem k37_82 : z_op 37 82 = o_aload 1 1 := rfl
theorem k37_83 : z_op 37 83 = o_get 1 8 := rfl
theorem k37_86 : z_op 37 86 = o_iload 1 2 := rfl
theorem k37_87 : z_op 37 87 = o_cv 38 2 2 := rfl
theorem k37_90 : z_op 37 90 = o_iret .int := rfl
theorem k38_0 : z_op 38 0 = o_aload 1 0 := rfl
theorem k38_1 : z_op 38 1 = o_cv 44 2 0 := rfl
theorem k38_4 : z_op 38 4 = o_if (fun x => ¬ x = 0) 9 := rfl
theorem k38_7 : z_op 38 7 = o_const 1 (.int (5)) := rfl
theorem k38_8 : z_op 38 8 = o_iret .int := rfl
theorem k38_9 : z_op 38 9 = o_aload 1 0 := rfl
theorem k38_10 : z_op 38 10 = o_aload 1 1 := rfl
theorem k38_11 : z_op 38 11 = o_iload 1 2 := rfl
theorem k38_12 : z_op 38 12 = o_const 1 (.int (1)) := rfl
theorem k38_13 : z_op 38 13 = o_ib (fun x y => x + y) := rfl
theorem k38_14 : z_op 38 14 = o_cv 37 2 2 := rfl
theorem k38_17 : z_op 38 17 = o_ist 1 3 false := rfl
theorem k38_18 : z_op 38 18 = o_iload 1 3 := rfl
theorem k38_19 : z_op 38 19 = o_if (fun x => ¬ x = 0) 26 := rfl
theorem k38_22 : z_op 38 22 = o_const 1 (.int (5)) := rfl
theorem k38_23 : z_op 38 23 = o_goto 27 := rfl
theorem k38_26 : z_op 38 26 = o_iload 1 3 := rfl
theorem k38_27 : z_op 38 27 = o_iret .int := rfl
theorem k39_0 : z_op 39 0 = o_aload 1 1 := rfl
theorem k39_1 : z_op 39 1 = o_get 7 1 := rfl
theorem k39_4 : z_op 39 4 = o_if (fun x => ¬ x = 0) 9 := rfl
theorem k39_7 : z_op 39 7 = o_const 1 (.int (1)) := rfl
theorem k39_8 : z_op 39 8 = o_iret .int := rfl
theorem k39_9 : z_op 39 9 = o_aload 1 1 := rfl
theorem k39_10 : z_op 39 10 = o_get 7 1 := rfl
theorem k39_13 : z_op 39 13 = o_const 1 (.int (1)) := rfl
theorem k39_14 : z_op 39 14 = o_ic (fun x y => ¬ x = y) 38 := rfl
theorem k39_17 : z_op 39 17 = o_aload 1 0 := rfl
theorem k39_18 : z_op 39 18 = o_aload 1 1 := rfl
theorem k39_19 : z_op 39 19 = o_get 7 2 := rfl
theorem k39_22 : z_op 39 22 = o_aload 1 1 := rfl
theorem k39_23 : z_op 39 23 = o_get 7 4 := rfl
theorem k39_26 : z_op 39 26 = o_cv 45 2 2 := rfl
theorem k39_29 : z_op 39 29 = o_if (fun x => x = 0) 36 := rfl
theorem k39_32 : z_op 39 32 = o_const 1 (.int (1)) := rfl
theorem k39_33 : z_op 39 33 = o_goto 37 := rfl
theorem k39_36 : z_op 39 36 = o_const 1 (.int (0)) := rfl
theorem k39_37 : z_op 39 37 = o_iret .int := rfl
theorem k39_38 : z_op 39 38 = o_aload 1 0 := rfl
theorem k39_39 : z_op 39 39 = o_cv 44 2 0 := rfl
theorem k39_42 : z_op 39 42 = o_if (fun x => ¬ x = 0) 47 := rfl
theorem k39_45 : z_op 39 45 = o_const 1 (.int (2)) := rfl
theorem k39_46 : z_op 39 46 = o_iret .int := rfl
theorem k39_47 : z_op 39 47 = o_aload 1 1 := rfl
theorem k39_48 : z_op 39 48 = o_get 7 1 := rfl
theorem k39_51 : z_op 39 51 = o_tab 2 [80, 93, 106, 116] 116 := rfl
theorem k39_80 : z_op 39 80 = o_aload 1 0 := rfl
theorem k39_81 : z_op 39 81 = o_aload 1 1 := rfl
theorem k39_82 : z_op 39 82 = o_get 7 3 := rfl
theorem k39_85 : z_op 39 85 = o_aload 1 1 := rfl
theorem k39_86 : z_op 39 86 = o_get 7 4 := rfl
theorem k39_89 : z_op 39 89 = o_cv 40 2 2 := rfl
theorem k39_92 : z_op 39 92 = o_iret .int := rfl
theorem k39_93 : z_op 39 93 = o_aload 1 0 := rfl
theorem k39_94 : z_op 39 94 = o_aload 1 1 := rfl
theorem k39_95 : z_op 39 95 = o_get 7 3 := rfl
theorem k39_98 : z_op 39 98 = o_aload 1 1 := rfl
theorem k39_99 : z_op 39 99 = o_get 7 4 := rfl
theorem k39_102 : z_op 39 102 = o_cv 41 2 2 := rfl
theorem k39_105 : z_op 39 105 = o_iret .int := rfl
theorem k39_106 : z_op 39 106 = o_aload 1 0 := rfl
theorem k39_107 : z_op 39 107 = o_aload 1 1 := rfl
theorem k39_108 : z_op 39 108 = o_get 7 3 := rfl
theorem k39_111 : z_op 39 111 = o_iload 1 2 := rfl
theorem k39_112 : z_op 39 112 = o_cv 42 2 2 := rfl
theorem k39_115 : z_op 39 115 = o_iret .int := rfl
theorem k39_116 : z_op 39 116 = o_aload 1 1 := rfl
theorem k39_117 : z_op 39 117 = o_get 7 3 := rfl
theorem k39_120 : z_op 39 120 = o_get 1 3 := rfl
theorem k39_123 : z_op 39 123 = o_if (fun x => x ≤ 0) 130 := rfl
theorem k39_126 : z_op 39 126 = o_const 1 (.int (1)) := rfl
theorem k39_127 : z_op 39 127 = o_goto 134 := rfl
theorem k39_130 : z_op 39 130 = o_aload 1 0 := rfl
theorem k39_131 : z_op 39 131 = o_cv 43 2 0 := rfl
theorem k39_134 : z_op 39 134 = o_iret .int := rfl
theorem k40_0 : z_op 40 0 = o_aload 1 1 := rfl
theorem k40_1 : z_op 40 1 = o_get 1 3 := rfl
theorem k40_4 : z_op 40 4 = o_if (fun x => ¬ x = 0) 12 := rfl
theorem k40_7 : z_op 40 7 = o_aload 1 0 := rfl
theorem k40_8 : z_op 40 8 = o_cv 43 2 0 := rfl
theorem k40_11 : z_op 40 11 = o_iret .int := rfl
theorem k40_12 : z_op 40 12 = o_const 1 (.int (0)) := rfl
theorem k40_13 : z_op 40 13 = o_ist 1 3 false := rfl
theorem k40_14 : z_op 40 14 = o_iload 1 3 := rfl
theorem k40_15 : z_op 40 15 = o_aload 1 1 := rfl
theorem k40_16 : z_op 40 16 = o_get 1 3 := rfl
theorem k40_19 : z_op 40 19 = o_ic (fun x y => y ≤ x) 44 := rfl
theorem k40_22 : z_op 40 22 = o_aload 1 0 := rfl
theorem k40_23 : z_op 40 23 = o_aload 1 1 := rfl
theorem k40_24 : z_op 40 24 = o_get 1 2 := rfl
theorem k40_27 : z_op 40 27 = o_iload 1 3 := rfl
theorem k40_28 : z_op 40 28 = o_ald .int := rfl
theorem k40_29 : z_op 40 29 = o_iload 1 2 := rfl
theorem k40_30 : z_op 40 30 = o_cv 45 2 2 := rfl
theorem k40_33 : z_op 40 33 = o_if (fun x => x = 0) 38 := rfl
theorem k40_36 : z_op 40 36 = o_const 1 (.int (1)) := rfl
theorem k40_37 : z_op 40 37 = o_iret .int := rfl
theorem k40_38 : z_op 40 38 = o_iinc 3 (1) := rfl
theorem k40_41 : z_op 40 41 = o_goto 14 := rfl
theorem k40_44 : z_op 40 44 = o_const 1 (.int (0)) := rfl
theorem k40_45 : z_op 40 45 = o_iret .int := rfl
theorem k41_0 : z_op 41 0 = o_aload 1 1 := rfl
theorem k41_1 : z_op 41 1 = o_get 1 5 := rfl
theorem k41_4 : z_op 41 4 = o_if (fun x => ¬ x = 0) 12 := rfl
theorem k41_7 : z_op 41 7 = o_aload 1 0 := rfl
theorem k41_8 : z_op 41 8 = o_cv 43 2 0 := rfl
theorem k41_11 : z_op 41 11 = o_iret .int := rfl
theorem k41_12 : z_op 41 12 = o_const 1 (.int (0)) := rfl
theorem k41_13 : z_op 41 13 = o_ist 1 3 false := rfl
theorem k41_14 : z_op 41 14 = o_iload 1 3 := rfl
theorem k41_15 : z_op 41 15 = o_aload 1 1 := rfl
theorem k41_16 : z_op 41 16 = o_get 1 5 := rfl
theorem k41_19 : z_op 41 19 = o_ic (fun x y => y ≤ x) 49 := rfl
theorem k41_22 : z_op 41 22 = o_aload 1 0 := rfl
theorem k41_23 : z_op 41 23 = o_aload 1 1 := rfl
theorem k41_24 : z_op 41 24 = o_get 1 4 := rfl
theorem k41_27 : z_op 41 27 = o_iload 1 3 := rfl
theorem k41_28 : z_op 41 28 = o_rld "MailVerdicts$Domain" := rfl
theorem k41_29 : z_op 41 29 = o_iload 1 2 := rfl
theorem k41_30 : z_op 41 30 = o_cv 40 2 2 := rfl
theorem k41_33 : z_op 41 33 = o_ist 2 4 false := rfl
theorem k41_35 : z_op 41 35 = o_iload 2 4 := rfl
theorem k41_37 : z_op 41 37 = o_if (fun x => x = 0) 43 := rfl
theorem k41_40 : z_op 41 40 = o_iload 2 4 := rfl
theorem k41_42 : z_op 41 42 = o_iret .int := rfl
theorem k41_43 : z_op 41 43 = o_iinc 3 (1) := rfl
theorem k41_46 : z_op 41 46 = o_goto 14 := rfl
theorem k41_49 : z_op 41 49 = o_const 1 (.int (0)) := rfl
theorem k41_50 : z_op 41 50 = o_iret .int := rfl
theorem k42_0 : z_op 42 0 = o_aload 1 0 := rfl
theorem k42_1 : z_op 42 1 = o_aload 1 1 := rfl
theorem k42_2 : z_op 42 2 = o_iload 1 2 := rfl
theorem k42_3 : z_op 42 3 = o_const 1 (.int (1)) := rfl
theorem k42_4 : z_op 42 4 = o_ib (fun x y => x + y) := rfl
theorem k42_5 : z_op 42 5 = o_cv 37 2 2 := rfl
theorem k42_8 : z_op 42 8 = o_ist 1 3 false := rfl
theorem k42_9 : z_op 42 9 = o_iload 1 3 := rfl
theorem k42_10 : z_op 42 10 = o_if (fun x => x = 0) 18 := rfl
theorem k42_13 : z_op 42 13 = o_iload 1 3 := rfl
theorem k42_14 : z_op 42 14 = o_const 1 (.int (5)) := rfl
theorem k42_15 : z_op 42 15 = o_ic (fun x y => ¬ x = y) 20 := rfl
theorem k42_18 : z_op 42 18 = o_const 1 (.int (2)) := rfl
theorem k42_19 : z_op 42 19 = o_iret .int := rfl
theorem k42_20 : z_op 42 20 = o_iload 1 3 := rfl
theorem k42_21 : z_op 42 21 = o_const 1 (.int (2)) := rfl
theorem k42_22 : z_op 42 22 = o_ic (fun x y => ¬ x = y) 29 := rfl
theorem k42_25 : z_op 42 25 = o_const 1 (.int (1)) := rfl
theorem k42_26 : z_op 42 26 = o_goto 30 := rfl
theorem k42_29 : z_op 42 29 = o_const 1 (.int (0)) := rfl
theorem k42_30 : z_op 42 30 = o_iret .int := rfl
theorem k43_0 : z_op 43 0 = o_aload 1 0 := rfl
theorem k43_1 : z_op 43 1 = o_get 2 2 := rfl
theorem k43_4 : z_op 43 4 = o_const 1 (.int (2)) := rfl
theorem k43_5 : z_op 43 5 = o_ic (fun x y => ¬ x = y) 10 := rfl
theorem k43_8 : z_op 43 8 = o_const 1 (.int (2)) := rfl
theorem k43_9 : z_op 43 9 = o_iret .int := rfl
theorem k43_10 : z_op 43 10 = o_aload 1 0 := rfl
theorem k43_11 : z_op 43 11 = o_dup := rfl
theorem k43_12 : z_op 43 12 = o_get 2 2 := rfl
theorem k43_15 : z_op 43 15 = o_const 1 (.int (1)) := rfl
theorem k43_16 : z_op 43 16 = o_ib (fun x y => x + y) := rfl
theorem k43_17 : z_op 43 17 = o_put 2 2 .int := rfl
theorem k43_20 : z_op 43 20 = o_const 1 (.int (0)) := rfl
theorem k43_21 : z_op 43 21 = o_iret .int := rfl
theorem k44_0 : z_op 44 0 = o_aload 1 0 := rfl
theorem k44_1 : z_op 44 1 = o_get 2 1 := rfl
theorem k44_4 : z_op 44 4 = o_const 2 (.int (10)) := rfl
theorem k44_6 : z_op 44 6 = o_ic (fun x y => ¬ x = y) 11 := rfl
theorem k44_9 : z_op 44 9 = o_const 1 (.int (0)) := rfl
theorem k44_10 : z_op 44 10 = o_iret .boolean := rfl
theorem k44_11 : z_op 44 11 = o_aload 1 0 := rfl
theorem k44_12 : z_op 44 12 = o_dup := rfl
theorem k44_13 : z_op 44 13 = o_get 2 1 := rfl
theorem k44_16 : z_op 44 16 = o_const 1 (.int (1)) := rfl
theorem k44_17 : z_op 44 17 = o_ib (fun x y => x + y) := rfl
theorem k44_18 : z_op 44 18 = o_put 2 1 .int := rfl
theorem k44_21 : z_op 44 21 = o_const 1 (.int (1)) := rfl
theorem k44_22 : z_op 44 22 = o_iret .boolean := rfl
theorem k45_0 : z_op 45 0 = o_iload 1 2 := rfl
theorem k45_1 : z_op 45 1 = o_if (fun x => x = 0) 18 := rfl
theorem k45_4 : z_op 45 4 = o_aload 1 0 := rfl
theorem k45_5 : z_op 45 5 = o_get 2 0 := rfl
theorem k45_8 : z_op 45 8 = o_iload 1 1 := rfl
theorem k45_9 : z_op 45 9 = o_ib (fun x y => x ^^^ y) := rfl
theorem k45_10 : z_op 45 10 = o_const 2 (.int (32)) := rfl
theorem k45_12 : z_op 45 12 = o_iload 1 2 := rfl
theorem k45_13 : z_op 45 13 = o_ib (fun x y => x - y) := rfl
theorem k45_14 : z_op 45 14 = o_ib (fun x y => (x.toUInt32 >>> (y.toUInt32 &&& Int32.toUInt32 31)).toInt32) := rfl
theorem k45_15 : z_op 45 15 = o_if (fun x => ¬ x = 0) 22 := rfl
theorem k45_18 : z_op 45 18 = o_const 1 (.int (1)) := rfl
theorem k45_19 : z_op 45 19 = o_goto 23 := rfl
theorem k45_22 : z_op 45 22 = o_const 1 (.int (0)) := rfl
theorem k45_23 : z_op 45 23 = o_iret .boolean := rfl
theorem k46_0 : z_op 46 0 = o_aload 1 0 := rfl
theorem k46_1 : z_op 46 1 = o_obj := rfl
theorem k46_4 : z_op 46 4 = o_aload 1 0 := rfl
theorem k46_5 : z_op 46 5 = o_new 4 6 [.null, .int 0, .int 0, .null, .null, .null] := rfl
theorem k46_8 : z_op 46 8 = o_dup := rfl
theorem k46_9 : z_op 46 9 = o_ci 56 0 := rfl
theorem k46_12 : z_op 46 12 = o_put 3 0 (.object "MailVerdicts$Message") := rfl
theorem k46_15 : z_op 46 15 = o_aload 1 0 := rfl
theorem k46_16 : z_op 46 16 = o_new 5 2 [.null, .int 0] := rfl
theorem k46_19 : z_op 46 19 = o_dup := rfl
theorem k46_20 : z_op 46 20 = o_const 2 (.int (60)) := rfl
theorem k46_22 : z_op 46 22 = o_ci 60 1 := rfl
theorem k46_25 : z_op 46 25 = o_put 3 1 (.object "MailVerdicts$Text") := rfl
theorem k46_28 : z_op 46 28 = o_aload 1 0 := rfl
theorem k46_29 : z_op 46 29 = o_new 5 2 [.null, .int 0] := rfl
theorem k46_32 : z_op 46 32 = o_dup := rfl
theorem k46_33 : z_op 46 33 = o_const 3 (.int (242)) := rfl
theorem k46_36 : z_op 46 36 = o_ci 60 1 := rfl
theorem k46_39 : z_op 46 39 = o_put 3 2 (.object "MailVerdicts$Text") := rfl
theorem k46_42 : z_op 46 42 = o_aload 1 0 := rfl
theorem k46_43 : z_op 46 43 = o_const 2 (.int (12)) := rfl
theorem k46_45 : z_op 46 45 = o_newa .boolean := rfl
theorem k46_47 : z_op 46 47 = o_put 3 3 (.array .boolean) := rfl
theorem k46_50 : z_op 46 50 = o_aload 1 0 := rfl
theorem k46_51 : z_op 46 51 = o_const 2 (.int (12)) := rfl
theorem k46_53 : z_op 46 53 = o_newa .int := rfl
theorem k46_55 : z_op 46 55 = o_put 3 4 (.array .int) := rfl
theorem k46_58 : z_op 46 58 = o_vret := rfl
theorem k47_0 : z_op 47 0 = o_aload 1 0 := rfl
theorem k47_1 : z_op 47 1 = o_get 3 2 := rfl
theorem k47_4 : z_op 47 4 = o_const 1 (.int (0)) := rfl
theorem k47_5 : z_op 47 5 = o_cv 63 5 1 := rfl
theorem k47_8 : z_op 47 8 = o_aload 1 0 := rfl
theorem k47_9 : z_op 47 9 = o_get 3 0 := rfl
theorem k47_12 : z_op 47 12 = o_cv 57 4 0 := rfl
theorem k47_15 : z_op 47 15 = o_if (fun x => ¬ x = 0) 20 := rfl
theorem k47_18 : z_op 47 18 = o_const 1 (.int (0)) := rfl
theorem k47_19 : z_op 47 19 = o_iret .boolean := rfl
theorem k47_20 : z_op 47 20 = o_aload 1 0 := rfl
theorem k47_21 : z_op 47 21 = o_cv 48 3 0 := rfl
theorem k47_24 : z_op 47 24 = o_const 1 (.int (0)) := rfl
theorem k47_25 : z_op 47 25 = o_ist 1 3 false := rfl
theorem k47_26 : z_op 47 26 = o_iload 1 3 := rfl
theorem k47_27 : z_op 47 27 = o_aload 1 0 := rfl
theorem k47_28 : z_op 47 28 = o_get 3 5 := rfl
theorem k47_31 : z_op 47 31 = o_ic (fun x y => y ≤ x) 99 := rfl
theorem k47_34 : z_op 47 34 = o_iload 1 1 := rfl
theorem k47_35 : z_op 47 35 = o_if (fun x => x = 0) 51 := rfl
theorem k47_38 : z_op 47 38 = o_aload 1 0 := rfl
theorem k47_39 : z_op 47 39 = o_aload 1 0 := rfl
theorem k47_40 : z_op 47 40 = o_get 3 4 := rfl
theorem k47_43 : z_op 47 43 = o_iload 1 3 := rfl
theorem k47_44 : z_op 47 44 = o_ald .int := rfl
theorem k47_45 : z_op 47 45 = o_cv 51 3 1 := rfl
theorem k47_48 : z_op 47 48 = o_goto 93 := rfl
theorem k47_51 : z_op 47 51 = o_aload 1 0 := rfl
theorem k47_52 : z_op 47 52 = o_aload 1 0 := rfl
theorem k47_53 : z_op 47 53 = o_get 3 0 := rfl
theorem k47_56 : z_op 47 56 = o_get 4 3 := rfl
theorem k47_59 : z_op 47 59 = o_aload 1 0 := rfl
theorem k47_60 : z_op 47 60 = o_get 3 4 := rfl
theorem k47_63 : z_op 47 63 = o_iload 1 3 := rfl
theorem k47_64 : z_op 47 64 = o_ald .int := rfl
theorem k47_65 : z_op 47 65 = o_ald .int := rfl
theorem k47_66 : z_op 47 66 = o_aload 1 0 := rfl
theorem k47_67 : z_op 47 67 = o_get 3 0 := rfl
theorem k47_70 : z_op 47 70 = o_get 4 5 := rfl
theorem k47_73 : z_op 47 73 = o_aload 1 0 := rfl
theorem k47_74 : z_op 47 74 = o_get 3 4 := rfl
theorem k47_77 : z_op 47 77 = o_iload 1 3 := rfl
theorem k47_78 : z_op 47 78 = o_ald .int := rfl
theorem k47_79 : z_op 47 79 = o_ald .int := rfl
theorem k47_80 : z_op 47 80 = o_cv 54 3 2 := rfl
theorem k47_83 : z_op 47 83 = o_aload 1 0 := rfl
theorem k47_84 : z_op 47 84 = o_get 3 2 := rfl
theorem k47_87 : z_op 47 87 = o_const 2 (.int (10)) := rfl
theorem k47_89 : z_op 47 89 = o_cv 61 5 1 := rfl
theorem k47_92 : z_op 47 92 = o_pop := rfl
theorem k47_93 : z_op 47 93 = o_iinc 3 (1) := rfl
theorem k47_96 : z_op 47 96 = o_goto 26 := rfl
theorem k47_99 : z_op 47 99 = o_iload 1 2 := rfl
theorem k47_100 : z_op 47 100 = o_if (fun x => x = 0) 110 := rfl
theorem k47_103 : z_op 47 103 = o_aload 1 0 := rfl
theorem k47_104 : z_op 47 104 = o_cv 53 3 0 := rfl
theorem k47_107 : z_op 47 107 = o_goto 114 := rfl
theorem k47_110 : z_op 47 110 = o_aload 1 0 := rfl
theorem k47_111 : z_op 47 111 = o_cv 52 3 0 := rfl
theorem k47_114 : z_op 47 114 = o_const 1 (.int (1)) := rfl
theorem k47_115 : z_op 47 115 = o_iret .boolean := rfl
theorem k48_0 : z_op 48 0 = o_aload 1 0 := rfl
theorem k48_1 : z_op 48 1 = o_const 1 (.int (0)) := rfl
theorem k48_2 : z_op 48 2 = o_put 3 5 .int := rfl
theorem k48_5 : z_op 48 5 = o_const 1 (.int (0)) := rfl
theorem k48_6 : z_op 48 6 = o_ist 1 1 false := rfl
theorem k48_7 : z_op 48 7 = o_iload 1 1 := rfl
theorem k48_8 : z_op 48 8 = o_aload 1 0 := rfl
theorem k48_9 : z_op 48 9 = o_get 3 0 := rfl
theorem k48_12 : z_op 48 12 = o_get 4 1 := rfl
theorem k48_15 : z_op 48 15 = o_ic (fun x y => y ≤ x) 31 := rfl
theorem k48_18 : z_op 48 18 = o_aload 1 0 := rfl
theorem k48_19 : z_op 48 19 = o_get 3 3 := rfl
theorem k48_22 : z_op 48 22 = o_iload 1 1 := rfl
theorem k48_23 : z_op 48 23 = o_const 1 (.int (0)) := rfl
theorem k48_24 : z_op 48 24 = o_aast .boolean := rfl
theorem k48_25 : z_op 48 25 = o_iinc 1 (1) := rfl
theorem k48_28 : z_op 48 28 = o_goto 7 := rfl
theorem k48_31 : z_op 48 31 = o_const 1 (.int (0)) := rfl
theorem k48_32 : z_op 48 32 = o_ist 1 1 false := rfl
theorem k48_33 : z_op 48 33 = o_const 1 (.int (0)) := rfl
theorem k48_34 : z_op 48 34 = o_ist 1 2 false := rfl
theorem k48_35 : z_op 48 35 = o_iload 1 2 := rfl
theorem k48_36 : z_op 48 36 = o_aload 1 0 := rfl
theorem k48_37 : z_op 48 37 = o_get 3 1 := rfl
theorem k48_40 : z_op 48 40 = o_get 5 1 := rfl
theorem k48_43 : z_op 48 43 = o_ic (fun x y => y < x) 86 := rfl
theorem k48_46 : z_op 48 46 = o_iload 1 2 := rfl
theorem k48_47 : z_op 48 47 = o_aload 1 0 := rfl
theorem k48_48 : z_op 48 48 = o_get 3 1 := rfl
theorem k48_51 : z_op 48 51 = o_get 5 1 := rfl
theorem k48_54 : z_op 48 54 = o_ic (fun x y => x = y) 70 := rfl
theorem k48_57 : z_op 48 57 = o_aload 1 0 := rfl
theorem k48_58 : z_op 48 58 = o_get 3 1 := rfl
theorem k48_61 : z_op 48 61 = o_iload 1 2 := rfl
theorem k48_62 : z_op 48 62 = o_cv 62 5 1 := rfl
theorem k48_65 : z_op 48 65 = o_const 2 (.int (58)) := rfl
theorem k48_67 : z_op 48 67 = o_ic (fun x y => ¬ x = y) 80 := rfl
theorem k48_70 : z_op 48 70 = o_aload 1 0 := rfl
theorem k48_71 : z_op 48 71 = o_iload 1 1 := rfl
theorem k48_72 : z_op 48 72 = o_iload 1 2 := rfl
theorem k48_73 : z_op 48 73 = o_cv 49 3 2 := rfl
theorem k48_76 : z_op 48 76 = o_iload 1 2 := rfl
theorem k48_77 : z_op 48 77 = o_const 1 (.int (1)) := rfl
theorem k48_78 : z_op 48 78 = o_ib (fun x y => x + y) := rfl
theorem k48_79 : z_op 48 79 = o_ist 1 1 false := rfl
theorem k48_80 : z_op 48 80 = o_iinc 2 (1) := rfl
theorem k48_83 : z_op 48 83 = o_goto 35 := rfl
theorem k48_86 : z_op 48 86 = o_vret := rfl
theorem k49_0 : z_op 49 0 = o_aload 1 0 := rfl
theorem k49_1 : z_op 49 1 = o_get 3 0 := rfl
theorem k49_4 : z_op 49 4 = o_get 4 1 := rfl
theorem k49_7 : z_op 49 7 = o_const 1 (.int (1)) := rfl
theorem k49_8 : z_op 49 8 = o_ib (fun x y => x - y) := rfl
theorem k49_9 : z_op 49 9 = o_ist 1 3 false := rfl
theorem k49_10 : z_op 49 10 = o_iload 1 3 := rfl
theorem k49_11 : z_op 49 11 = o_if (fun x => x < 0) 67 := rfl
theorem k49_14 : z_op 49 14 = o_aload 1 0 := rfl
theorem k49_15 : z_op 49 15 = o_get 3 3 := rfl
theorem k49_18 : z_op 49 18 = o_iload 1 3 := rfl
theorem k49_19 : z_op 49 19 = o_ald .boolean := rfl
theorem k49_20 : z_op 49 20 = o_if (fun x => ¬ x = 0) 61 := rfl
theorem k49_23 : z_op 49 23 = o_aload 1 0 := rfl
theorem k49_24 : z_op 49 24 = o_iload 1 3 := rfl
theorem k49_25 : z_op 49 25 = o_iload 1 1 := rfl
theorem k49_26 : z_op 49 26 = o_iload 1 2 := rfl
theorem k49_27 : z_op 49 27 = o_cv 50 3 3 := rfl
theorem k49_30 : z_op 49 30 = o_if (fun x => x = 0) 61 := rfl
theorem k49_33 : z_op 49 33 = o_aload 1 0 := rfl
theorem k49_34 : z_op 49 34 = o_get 3 3 := rfl
theorem k49_37 : z_op 49 37 = o_iload 1 3 := rfl
theorem k49_38 : z_op 49 38 = o_const 1 (.int (1)) := rfl
theorem k49_39 : z_op 49 39 = o_aast .boolean := rfl
theorem k49_40 : z_op 49 40 = o_aload 1 0 := rfl
theorem k49_41 : z_op 49 41 = o_get 3 4 := rfl
theorem k49_44 : z_op 49 44 = o_aload 1 0 := rfl
theorem k49_45 : z_op 49 45 = o_get 3 5 := rfl
theorem k49_48 : z_op 49 48 = o_iload 1 3 := rfl
theorem k49_49 : z_op 49 49 = o_aast .int := rfl
theorem k49_50 : z_op 49 50 = o_aload 1 0 := rfl
theorem k49_51 : z_op 49 51 = o_dup := rfl
theorem k49_52 : z_op 49 52 = o_get 3 5 := rfl
theorem k49_55 : z_op 49 55 = o_const 1 (.int (1)) := rfl
theorem k49_56 : z_op 49 56 = o_ib (fun x y => x + y) := rfl
theorem k49_57 : z_op 49 57 = o_put 3 5 .int := rfl
theorem k49_60 : z_op 49 60 = o_vret := rfl
theorem k49_61 : z_op 49 61 = o_iinc 3 (-1) := rfl
theorem k49_64 : z_op 49 64 = o_goto 10 := rfl
theorem k49_67 : z_op 49 67 = o_vret := rfl
theorem k50_0 : z_op 50 0 = o_aload 1 0 := rfl
theorem k50_1 : z_op 50 1 = o_get 3 0 := rfl
theorem k50_4 : z_op 50 4 = o_get 4 3 := rfl
theorem k50_7 : z_op 50 7 = o_iload 1 1 := rfl
theorem k50_8 : z_op 50 8 = o_ald .int := rfl
theorem k50_9 : z_op 50 9 = o_ist 2 4 false := rfl
theorem k50_11 : z_op 50 11 = o_aload 1 0 := rfl
theorem k50_12 : z_op 50 12 = o_get 3 0 := rfl
theorem k50_15 : z_op 50 15 = o_get 4 4 := rfl
theorem k50_18 : z_op 50 18 = o_iload 1 1 := rfl
theorem k50_19 : z_op 50 19 = o_ald .int := rfl
theorem k50_20 : z_op 50 20 = o_iload 2 4 := rfl
theorem k50_22 : z_op 50 22 = o_ib (fun x y => x - y) := rfl
theorem k50_23 : z_op 50 23 = o_iload 1 3 := rfl
theorem k50_24 : z_op 50 24 = o_iload 1 2 := rfl
theorem k50_25 : z_op 50 25 = o_ib (fun x y => x - y) := rfl
theorem k50_26 : z_op 50 26 = o_ic (fun x y => x = y) 31 := rfl
theorem k50_29 : z_op 50 29 = o_const 1 (.int (0)) := rfl
theorem k50_30 : z_op 50 30 = o_iret .boolean := rfl
theorem k50_31 : z_op 50 31 = o_const 1 (.int (0)) := rfl
theorem k50_32 : z_op 50 32 = o_ist 2 5 false := rfl
theorem k50_34 : z_op 50 34 = o_iload 2 5 := rfl
theorem k50_36 : z_op 50 36 = o_iload 1 3 := rfl
theorem k50_37 : z_op 50 37 = o_iload 1 2 := rfl
theorem k50_38 : z_op 50 38 = o_ib (fun x y => x - y) := rfl
theorem k50_39 : z_op 50 39 = o_ic (fun x y => y ≤ x) 89 := rfl
theorem k50_42 : z_op 50 42 = o_aload 1 0 := rfl
theorem k50_43 : z_op 50 43 = o_get 3 0 := rfl
theorem k50_46 : z_op 50 46 = o_get 4 0 := rfl
theorem k50_49 : z_op 50 49 = o_iload 2 4 := rfl
theorem k50_51 : z_op 50 51 = o_iload 2 5 := rfl
theorem k50_53 : z_op 50 53 = o_ib (fun x y => x + y) := rfl
theorem k50_54 : z_op 50 54 = o_cv 62 5 1 := rfl
theorem k50_57 : z_op 50 57 = o_cs 26 1 := rfl
theorem k50_60 : z_op 50 60 = o_ist 2 6 false := rfl
theorem k50_62 : z_op 50 62 = o_iload 2 6 := rfl
theorem k50_64 : z_op 50 64 = o_aload 1 0 := rfl
theorem k50_65 : z_op 50 65 = o_get 3 1 := rfl
theorem k50_68 : z_op 50 68 = o_iload 1 2 := rfl
theorem k50_69 : z_op 50 69 = o_iload 2 5 := rfl
theorem k50_71 : z_op 50 71 = o_ib (fun x y => x + y) := rfl
theorem k50_72 : z_op 50 72 = o_cv 62 5 1 := rfl
theorem k50_75 : z_op 50 75 = o_cs 26 1 := rfl
theorem k50_78 : z_op 50 78 = o_ic (fun x y => x = y) 83 := rfl
theorem k50_81 : z_op 50 81 = o_const 1 (.int (0)) := rfl
theorem k50_82 : z_op 50 82 = o_iret .boolean := rfl
theorem k50_83 : z_op 50 83 = o_iinc 5 (1) := rfl
theorem k50_86 : z_op 50 86 = o_goto 34 := rfl
theorem k50_89 : z_op 50 89 = o_const 1 (.int (1)) := rfl
theorem k50_90 : z_op 50 90 = o_iret .boolean := rfl
theorem k51_0 : z_op 51 0 = o_aload 1 0 := rfl
theorem k51_1 : z_op 51 1 = o_get 3 0 := rfl
theorem k51_4 : z_op 51 4 = o_get 4 4 := rfl
theorem k51_7 : z_op 51 7 = o_iload 1 1 := rfl
theorem k51_8 : z_op 51 8 = o_ald .int := rfl
theorem k51_9 : z_op 51 9 = o_ist 1 2 false := rfl
theorem k51_10 : z_op 51 10 = o_aload 1 0 := rfl
theorem k51_11 : z_op 51 11 = o_get 3 0 := rfl
theorem k51_14 : z_op 51 14 = o_get 4 3 := rfl
theorem k51_17 : z_op 51 17 = o_iload 1 1 := rfl
theorem k51_18 : z_op 51 18 = o_ald .int := rfl
theorem k51_19 : z_op 51 19 = o_ist 1 3 false := rfl
theorem k51_20 : z_op 51 20 = o_iload 1 3 := rfl
theorem k51_21 : z_op 51 21 = o_iload 1 2 := rfl
theorem k51_22 : z_op 51 22 = o_ic (fun x y => y ≤ x) 53 := rfl
theorem k51_25 : z_op 51 25 = o_aload 1 0 := rfl
theorem k51_26 : z_op 51 26 = o_get 3 2 := rfl
theorem k51_29 : z_op 51 29 = o_aload 1 0 := rfl
theorem k51_30 : z_op 51 30 = o_get 3 0 := rfl
theorem k51_33 : z_op 51 33 = o_get 4 0 := rfl
theorem k51_36 : z_op 51 36 = o_iload 1 3 := rfl
theorem k51_37 : z_op 51 37 = o_cv 62 5 1 := rfl
theorem k51_40 : z_op 51 40 = o_cs 26 1 := rfl
theorem k51_43 : z_op 51 43 = o_cv 61 5 1 := rfl
theorem k51_46 : z_op 51 46 = o_pop := rfl
theorem k51_47 : z_op 51 47 = o_iinc 3 (1) := rfl
theorem k51_50 : z_op 51 50 = o_goto 20 := rfl
theorem k51_53 : z_op 51 53 = o_aload 1 0 := rfl
theorem k51_54 : z_op 51 54 = o_get 3 2 := rfl
theorem k51_57 : z_op 51 57 = o_const 2 (.int (58)) := rfl
theorem k51_59 : z_op 51 59 = o_cv 61 5 1 := rfl
theorem k51_62 : z_op 51 62 = o_pop := rfl
theorem k51_63 : z_op 51 63 = o_aload 1 0 := rfl
theorem k51_64 : z_op 51 64 = o_iload 1 2 := rfl
theorem k51_65 : z_op 51 65 = o_const 1 (.int (1)) := rfl
theorem k51_66 : z_op 51 66 = o_ib (fun x y => x + y) := rfl
theorem k51_67 : z_op 51 67 = o_aload 1 0 := rfl
theorem k51_68 : z_op 51 68 = o_get 3 0 := rfl
theorem k51_71 : z_op 51 71 = o_get 4 5 := rfl
theorem k51_74 : z_op 51 74 = o_iload 1 1 := rfl
theorem k51_75 : z_op 51 75 = o_ald .int := rfl
theorem k51_76 : z_op 51 76 = o_const 1 (.int (1)) := rfl
theorem k51_77 : z_op 51 77 = o_cv 55 3 3 := rfl
theorem k51_80 : z_op 51 80 = o_aload 1 0 := rfl
theorem k51_81 : z_op 51 81 = o_get 3 2 := rfl
theorem k51_84 : z_op 51 84 = o_const 2 (.int (10)) := rfl
theorem k51_86 : z_op 51 86 = o_cv 61 5 1 := rfl
theorem k51_89 : z_op 51 89 = o_pop := rfl
theorem k51_90 : z_op 51 90 = o_vret := rfl
theorem k52_0 : z_op 52 0 = o_aload 1 0 := rfl
theorem k52_1 : z_op 52 1 = o_get 3 0 := rfl
theorem k52_4 : z_op 52 4 = o_get 4 0 := rfl
theorem k52_7 : z_op 52 7 = o_get 5 1 := rfl
theorem k52_10 : z_op 52 10 = o_ist 1 1 false := rfl
theorem k52_11 : z_op 52 11 = o_iload 1 1 := rfl
theorem k52_12 : z_op 52 12 = o_aload 1 0 := rfl
theorem k52_13 : z_op 52 13 = o_get 3 0 := rfl
theorem k52_16 : z_op 52 16 = o_get 4 2 := rfl
theorem k52_19 : z_op 52 19 = o_ic (fun x y => x ≤ y) 46 := rfl
theorem k52_22 : z_op 52 22 = o_aload 1 0 := rfl
theorem k52_23 : z_op 52 23 = o_get 3 0 := rfl
theorem k52_26 : z_op 52 26 = o_get 4 0 := rfl
theorem k52_29 : z_op 52 29 = o_iload 1 1 := rfl
theorem k52_30 : z_op 52 30 = o_const 1 (.int (1)) := rfl
theorem k52_31 : z_op 52 31 = o_ib (fun x y => x - y) := rfl
theorem k52_32 : z_op 52 32 = o_cv 62 5 1 := rfl
theorem k52_35 : z_op 52 35 = o_const 2 (.int (10)) := rfl
theorem k52_37 : z_op 52 37 = o_ic (fun x y => ¬ x = y) 46 := rfl
theorem k52_40 : z_op 52 40 = o_iinc 1 (-1) := rfl
theorem k52_43 : z_op 52 43 = o_goto 11 := rfl
theorem k52_46 : z_op 52 46 = o_aload 1 0 := rfl
theorem k52_47 : z_op 52 47 = o_aload 1 0 := rfl
theorem k52_48 : z_op 52 48 = o_get 3 0 := rfl
theorem k52_51 : z_op 52 51 = o_get 4 2 := rfl
theorem k52_54 : z_op 52 54 = o_iload 1 1 := rfl
theorem k52_55 : z_op 52 55 = o_cv 54 3 2 := rfl
theorem k52_58 : z_op 52 58 = o_aload 1 0 := rfl
theorem k52_59 : z_op 52 59 = o_get 3 2 := rfl
theorem k52_62 : z_op 52 62 = o_const 2 (.int (10)) := rfl
theorem k52_64 : z_op 52 64 = o_cv 61 5 1 := rfl
theorem k52_67 : z_op 52 67 = o_pop := rfl
theorem k52_68 : z_op 52 68 = o_vret := rfl
theorem k53_0 : z_op 53 0 = o_aload 1 0 := rfl
theorem k53_1 : z_op 53 1 = o_get 3 2 := rfl
theorem k53_4 : z_op 53 4 = o_get 5 1 := rfl
theorem k53_7 : z_op 53 7 = o_ist 1 1 false := rfl
theorem k53_8 : z_op 53 8 = o_aload 1 0 := rfl
theorem k53_9 : z_op 53 9 = o_get 3 0 := rfl
theorem k53_12 : z_op 53 12 = o_get 4 2 := rfl
theorem k53_15 : z_op 53 15 = o_ist 1 2 false := rfl
theorem k53_16 : z_op 53 16 = o_iload 1 2 := rfl
theorem k53_17 : z_op 53 17 = o_ist 1 3 false := rfl
theorem k53_18 : z_op 53 18 = o_iload 1 3 := rfl
theorem k53_19 : z_op 53 19 = o_aload 1 0 := rfl
theorem k53_20 : z_op 53 20 = o_get 3 0 := rfl
theorem k53_23 : z_op 53 23 = o_get 4 0 := rfl
theorem k53_26 : z_op 53 26 = o_get 5 1 := rfl
theorem k53_29 : z_op 53 29 = o_ic (fun x y => y < x) 134 := rfl
theorem k53_32 : z_op 53 32 = o_iload 1 3 := rfl
theorem k53_33 : z_op 53 33 = o_aload 1 0 := rfl
theorem k53_34 : z_op 53 34 = o_get 3 0 := rfl
theorem k53_37 : z_op 53 37 = o_get 4 0 := rfl
theorem k53_40 : z_op 53 40 = o_get 5 1 := rfl
theorem k53_43 : z_op 53 43 = o_ic (fun x y => x = y) 62 := rfl
theorem k53_46 : z_op 53 46 = o_aload 1 0 := rfl
theorem k53_47 : z_op 53 47 = o_get 3 0 := rfl
theorem k53_50 : z_op 53 50 = o_get 4 0 := rfl
theorem k53_53 : z_op 53 53 = o_iload 1 3 := rfl
theorem k53_54 : z_op 53 54 = o_cv 62 5 1 := rfl
theorem k53_57 : z_op 53 57 = o_const 2 (.int (10)) := rfl
theorem k53_59 : z_op 53 59 = o_ic (fun x y => ¬ x = y) 128 := rfl
theorem k53_62 : z_op 53 62 = o_aload 1 0 := rfl
theorem k53_63 : z_op 53 63 = o_get 3 2 := rfl
theorem k53_66 : z_op 53 66 = o_get 5 1 := rfl
theorem k53_69 : z_op 53 69 = o_ist 2 4 false := rfl
theorem k53_71 : z_op 53 71 = o_aload 1 0 := rfl
theorem k53_72 : z_op 53 72 = o_iload 1 2 := rfl
theorem k53_73 : z_op 53 73 = o_iload 1 3 := rfl
theorem k53_74 : z_op 53 74 = o_const 1 (.int (0)) := rfl
theorem k53_75 : z_op 53 75 = o_cv 55 3 3 := rfl
theorem k53_78 : z_op 53 78 = o_aload 1 0 := rfl
theorem k53_79 : z_op 53 79 = o_get 3 2 := rfl
theorem k53_82 : z_op 53 82 = o_get 5 1 := rfl
theorem k53_85 : z_op 53 85 = o_iload 2 4 := rfl
theorem k53_87 : z_op 53 87 = o_ic (fun x y => ¬ x = y) 94 := rfl
theorem k53_90 : z_op 53 90 = o_const 1 (.int (1)) := rfl
theorem k53_91 : z_op 53 91 = o_goto 95 := rfl
theorem k53_94 : z_op 53 94 = o_const 1 (.int (0)) := rfl
theorem k53_95 : z_op 53 95 = o_ist 2 5 false := rfl
theorem k53_97 : z_op 53 97 = o_aload 1 0 := rfl
theorem k53_98 : z_op 53 98 = o_get 3 2 := rfl
theorem k53_101 : z_op 53 101 = o_const 2 (.int (10)) := rfl
theorem k53_103 : z_op 53 103 = o_cv 61 5 1 := rfl
theorem k53_106 : z_op 53 106 = o_pop := rfl
theorem k53_107 : z_op 53 107 = o_iload 2 5 := rfl
theorem k53_109 : z_op 53 109 = o_if (fun x => x = 0) 116 := rfl
theorem k53_112 : z_op 53 112 = o_iload 1 1 := rfl
theorem k53_113 : z_op 53 113 = o_goto 123 := rfl
theorem k53_116 : z_op 53 116 = o_aload 1 0 := rfl
theorem k53_117 : z_op 53 117 = o_get 3 2 := rfl
theorem k53_120 : z_op 53 120 = o_get 5 1 := rfl
theorem k53_123 : z_op 53 123 = o_ist 1 1 false := rfl
theorem k53_124 : z_op 53 124 = o_iload 1 3 := rfl
theorem k53_125 : z_op 53 125 = o_const 1 (.int (1)) := rfl
theorem k53_126 : z_op 53 126 = o_ib (fun x y => x + y) := rfl
theorem k53_127 : z_op 53 127 = o_ist 1 2 false := rfl
theorem k53_128 : z_op 53 128 = o_iinc 3 (1) := rfl
theorem k53_131 : z_op 53 131 = o_goto 18 := rfl
theorem k53_134 : z_op 53 134 = o_aload 1 0 := rfl
theorem k53_135 : z_op 53 135 = o_get 3 2 := rfl
theorem k53_138 : z_op 53 138 = o_iload 1 1 := rfl
theorem k53_139 : z_op 53 139 = o_cv 63 5 1 := rfl
theorem k53_142 : z_op 53 142 = o_vret := rfl
theorem k54_0 : z_op 54 0 = o_iload 1 1 := rfl
theorem k54_1 : z_op 54 1 = o_ist 1 3 false := rfl
theorem k54_2 : z_op 54 2 = o_iload 1 3 := rfl
theorem k54_3 : z_op 54 3 = o_iload 1 2 := rfl
theorem k54_4 : z_op 54 4 = o_ic (fun x y => y ≤ x) 32 := rfl
theorem k54_7 : z_op 54 7 = o_aload 1 0 := rfl
theorem k54_8 : z_op 54 8 = o_get 3 2 := rfl
theorem k54_11 : z_op 54 11 = o_aload 1 0 := rfl
theorem k54_12 : z_op 54 12 = o_get 3 0 := rfl
theorem k54_15 : z_op 54 15 = o_get 4 0 := rfl
theorem k54_18 : z_op 54 18 = o_iload 1 3 := rfl
theorem k54_19 : z_op 54 19 = o_cv 62 5 1 := rfl
theorem k54_22 : z_op 54 22 = o_cv 61 5 1 := rfl
theorem k54_25 : z_op 54 25 = o_pop := rfl
theorem k54_26 : z_op 54 26 = o_iinc 3 (1) := rfl
theorem k54_29 : z_op 54 29 = o_goto 2 := rfl
theorem k54_32 : z_op 54 32 = o_vret := rfl
theorem k55_0 : z_op 55 0 = o_iload 1 3 := rfl
theorem k55_1 : z_op 55 1 = o_ist 2 4 false := rfl
theorem k55_3 : z_op 55 3 = o_const 1 (.int (0)) := rfl
theorem k55_4 : z_op 55 4 = o_ist 2 5 false := rfl
theorem k55_6 : z_op 55 6 = o_iload 1 1 := rfl
theorem k55_7 : z_op 55 7 = o_ist 2 6 false := rfl
theorem k55_9 : z_op 55 9 = o_iload 2 6 := rfl
theorem k55_11 : z_op 55 11 = o_iload 1 2 := rfl
theorem k55_12 : z_op 55 12 = o_ic (fun x y => y ≤ x) 91 := rfl
theorem k55_15 : z_op 55 15 = o_aload 1 0 := rfl
theorem k55_16 : z_op 55 16 = o_get 3 0 := rfl
theorem k55_19 : z_op 55 19 = o_get 4 0 := rfl
theorem k55_22 : z_op 55 22 = o_iload 2 6 := rfl
theorem k55_24 : z_op 55 24 = o_cv 62 5 1 := rfl
theorem k55_27 : z_op 55 27 = o_ist 2 7 false := rfl
theorem k55_29 : z_op 55 29 = o_iload 2 7 := rfl
theorem k55_31 : z_op 55 31 = o_const 2 (.int (32)) := rfl
theorem k55_33 : z_op 55 33 = o_ic (fun x y => ¬ x = y) 42 := rfl
theorem k55_36 : z_op 55 36 = o_const 1 (.int (1)) := rfl
theorem k55_37 : z_op 55 37 = o_ist 2 5 false := rfl
theorem k55_39 : z_op 55 39 = o_goto 85 := rfl
theorem k55_42 : z_op 55 42 = o_iload 2 7 := rfl
theorem k55_44 : z_op 55 44 = o_const 2 (.int (10)) := rfl
theorem k55_46 : z_op 55 46 = o_ic (fun x y => x = y) 85 := rfl
theorem k55_49 : z_op 55 49 = o_iload 2 5 := rfl
theorem k55_51 : z_op 55 51 = o_if (fun x => x = 0) 69 := rfl
theorem k55_54 : z_op 55 54 = o_iload 2 4 := rfl
theorem k55_56 : z_op 55 56 = o_if (fun x => ¬ x = 0) 69 := rfl
theorem k55_59 : z_op 55 59 = o_aload 1 0 := rfl
theorem k55_60 : z_op 55 60 = o_get 3 2 := rfl
theorem k55_63 : z_op 55 63 = o_const 2 (.int (32)) := rfl
theorem k55_65 : z_op 55 65 = o_cv 61 5 1 := rfl
theorem k55_68 : z_op 55 68 = o_pop := rfl
theorem k55_69 : z_op 55 69 = o_aload 1 0 := rfl
theorem k55_70 : z_op 55 70 = o_get 3 2 := rfl
theorem k55_73 : z_op 55 73 = o_iload 2 7 := rfl
theorem k55_75 : z_op 55 75 = o_cv 61 5 1 := rfl
theorem k55_78 : z_op 55 78 = o_pop := rfl
theorem k55_79 : z_op 55 79 = o_const 1 (.int (0)) := rfl
theorem k55_80 : z_op 55 80 = o_ist 2 5 false := rfl
theorem k55_82 : z_op 55 82 = o_const 1 (.int (0)) := rfl
theorem k55_83 : z_op 55 83 = o_ist 2 4 false := rfl
theorem k55_85 : z_op 55 85 = o_iinc 6 (1) := rfl
theorem k55_88 : z_op 55 88 = o_goto 9 := rfl
theorem k55_91 : z_op 55 91 = o_vret := rfl
theorem k56_0 : z_op 56 0 = o_aload 1 0 := rfl
theorem k56_1 : z_op 56 1 = o_obj := rfl
theorem k56_4 : z_op 56 4 = o_aload 1 0 := rfl
theorem k56_5 : z_op 56 5 = o_new 5 2 [.null, .int 0] := rfl
theorem k56_8 : z_op 56 8 = o_dup := rfl
theorem k56_9 : z_op 56 9 = o_const 3 (.int (240)) := rfl
theorem k56_12 : z_op 56 12 = o_ci 60 1 := rfl
theorem k56_15 : z_op 56 15 = o_put 4 0 (.object "MailVerdicts$Text") := rfl
theorem k56_18 : z_op 56 18 = o_aload 1 0 := rfl
theorem k56_19 : z_op 56 19 = o_const 2 (.int (12)) := rfl
theorem k56_21 : z_op 56 21 = o_newa .int := rfl
theorem k56_23 : z_op 56 23 = o_put 4 3 (.array .int) := rfl
theorem k56_26 : z_op 56 26 = o_aload 1 0 := rfl
theorem k56_27 : z_op 56 27 = o_const 2 (.int (12)) := rfl
theorem k56_29 : z_op 56 29 = o_newa .int := rfl
theorem k56_31 : z_op 56 31 = o_put 4 4 (.array .int) := rfl
theorem k56_34 : z_op 56 34 = o_aload 1 0 := rfl
theorem k56_35 : z_op 56 35 = o_const 2 (.int (12)) := rfl
theorem k56_37 : z_op 56 37 = o_newa .int := rfl
theorem k56_39 : z_op 56 39 = o_put 4 5 (.array .int) := rfl
theorem k56_42 : z_op 56 42 = o_vret := rfl
theorem k57_0 : z_op 57 0 = o_aload 1 0 := rfl
theorem k57_1 : z_op 57 1 = o_const 1 (.int (0)) := rfl
theorem k57_2 : z_op 57 2 = o_put 4 1 .int := rfl
theorem k57_5 : z_op 57 5 = o_aload 1 0 := rfl
theorem k57_6 : z_op 57 6 = o_aload 1 0 := rfl
theorem k57_7 : z_op 57 7 = o_get 4 0 := rfl
theorem k57_10 : z_op 57 10 = o_get 5 1 := rfl
theorem k57_13 : z_op 57 13 = o_put 4 2 .int := rfl
theorem k57_16 : z_op 57 16 = o_const 1 (.int (0)) := rfl
theorem k57_17 : z_op 57 17 = o_ist 1 1 false := rfl
theorem k57_18 : z_op 57 18 = o_const 1 (.int (0)) := rfl
theorem k57_19 : z_op 57 19 = o_ist 1 2 false := rfl
theorem k57_20 : z_op 57 20 = o_iload 1 2 := rfl
theorem k57_21 : z_op 57 21 = o_aload 1 0 := rfl
theorem k57_22 : z_op 57 22 = o_get 4 0 := rfl
theorem k57_25 : z_op 57 25 = o_get 5 1 := rfl
theorem k57_28 : z_op 57 28 = o_ic (fun x y => y ≤ x) 79 := rfl
theorem k57_31 : z_op 57 31 = o_aload 1 0 := rfl
theorem k57_32 : z_op 57 32 = o_get 4 0 := rfl
theorem k57_35 : z_op 57 35 = o_iload 1 2 := rfl
theorem k57_36 : z_op 57 36 = o_cv 62 5 1 := rfl
theorem k57_39 : z_op 57 39 = o_const 2 (.int (10)) := rfl
theorem k57_41 : z_op 57 41 = o_ic (fun x y => ¬ x = y) 73 := rfl
theorem k57_44 : z_op 57 44 = o_iload 1 2 := rfl
theorem k57_45 : z_op 57 45 = o_iload 1 1 := rfl
theorem k57_46 : z_op 57 46 = o_ic (fun x y => ¬ x = y) 58 := rfl
theorem k57_49 : z_op 57 49 = o_aload 1 0 := rfl
theorem k57_50 : z_op 57 50 = o_iload 1 2 := rfl
theorem k57_51 : z_op 57 51 = o_const 1 (.int (1)) := rfl
theorem k57_52 : z_op 57 52 = o_ib (fun x y => x + y) := rfl
theorem k57_53 : z_op 57 53 = o_put 4 2 .int := rfl
theorem k57_56 : z_op 57 56 = o_const 1 (.int (1)) := rfl
theorem k57_57 : z_op 57 57 = o_iret .boolean := rfl
theorem k57_58 : z_op 57 58 = o_aload 1 0 := rfl
theorem k57_59 : z_op 57 59 = o_iload 1 1 := rfl
theorem k57_60 : z_op 57 60 = o_iload 1 2 := rfl
theorem k57_61 : z_op 57 61 = o_cv 58 4 2 := rfl
theorem k57_64 : z_op 57 64 = o_if (fun x => ¬ x = 0) 69 := rfl
theorem k57_67 : z_op 57 67 = o_const 1 (.int (0)) := rfl
theorem k57_68 : z_op 57 68 = o_iret .boolean := rfl
theorem k57_69 : z_op 57 69 = o_iload 1 2 := rfl
theorem k57_70 : z_op 57 70 = o_const 1 (.int (1)) := rfl
theorem k57_71 : z_op 57 71 = o_ib (fun x y => x + y) := rfl
theorem k57_72 : z_op 57 72 = o_ist 1 1 false := rfl
theorem k57_73 : z_op 57 73 = o_iinc 2 (1) := rfl
theorem k57_76 : z_op 57 76 = o_goto 20 := rfl
theorem k57_79 : z_op 57 79 = o_iload 1 1 := rfl
theorem k57_80 : z_op 57 80 = o_aload 1 0 := rfl
theorem k57_81 : z_op 57 81 = o_get 4 0 := rfl
theorem k57_84 : z_op 57 84 = o_get 5 1 := rfl
theorem k57_87 : z_op 57 87 = o_ic (fun x y => x = y) 105 := rfl
theorem k57_90 : z_op 57 90 = o_aload 1 0 := rfl
theorem k57_91 : z_op 57 91 = o_iload 1 1 := rfl
theorem k57_92 : z_op 57 92 = o_aload 1 0 := rfl
theorem k57_93 : z_op 57 93 = o_get 4 0 := rfl
theorem k57_96 : z_op 57 96 = o_get 5 1 := rfl
theorem k57_99 : z_op 57 99 = o_cv 58 4 2 := rfl
theorem k57_102 : z_op 57 102 = o_if (fun x => x = 0) 109 := rfl
theorem k57_105 : z_op 57 105 = o_const 1 (.int (1)) := rfl
theorem k57_106 : z_op 57 106 = o_goto 110 := rfl
theorem k57_109 : z_op 57 109 = o_const 1 (.int (0)) := rfl
theorem k57_110 : z_op 57 110 = o_iret .boolean := rfl
theorem k58_0 : z_op 58 0 = o_aload 1 0 := rfl
theorem k58_1 : z_op 58 1 = o_get 4 0 := rfl
theorem k58_4 : z_op 58 4 = o_iload 1 1 := rfl
theorem k58_5 : z_op 58 5 = o_cv 62 5 1 := rfl
theorem k58_8 : z_op 58 8 = o_const 2 (.int (32)) := rfl
theorem k58_10 : z_op 58 10 = o_ic (fun x y => x = y) 20 := rfl
theorem k58_13 : z_op 58 13 = o_aload 1 0 := rfl
theorem k58_14 : z_op 58 14 = o_iload 1 1 := rfl
theorem k58_15 : z_op 58 15 = o_iload 1 2 := rfl
theorem k58_16 : z_op 58 16 = o_cv 59 4 2 := rfl
theorem k58_19 : z_op 58 19 = o_iret .boolean := rfl
theorem k58_20 : z_op 58 20 = o_aload 1 0 := rfl
theorem k58_21 : z_op 58 21 = o_get 4 1 := rfl
theorem k58_24 : z_op 58 24 = o_if (fun x => ¬ x = 0) 29 := rfl
theorem k58_27 : z_op 58 27 = o_const 1 (.int (0)) := rfl
theorem k58_28 : z_op 58 28 = o_iret .boolean := rfl
theorem k58_29 : z_op 58 29 = o_aload 1 0 := rfl
theorem k58_30 : z_op 58 30 = o_get 4 5 := rfl
theorem k58_33 : z_op 58 33 = o_aload 1 0 := rfl
theorem k58_34 : z_op 58 34 = o_get 4 1 := rfl
theorem k58_37 : z_op 58 37 = o_const 1 (.int (1)) := rfl
theorem k58_38 : z_op 58 38 = o_ib (fun x y => x - y) := rfl
theorem k58_39 : z_op 58 39 = o_iload 1 2 := rfl
theorem k58_40 : z_op 58 40 = o_aast .int := rfl
theorem k58_41 : z_op 58 41 = o_const 1 (.int (1)) := rfl
theorem k58_42 : z_op 58 42 = o_iret .boolean := rfl
theorem k59_0 : z_op 59 0 = o_iload 1 1 := rfl
theorem k59_1 : z_op 59 1 = o_ist 1 3 false := rfl
theorem k59_2 : z_op 59 2 = o_iload 1 3 := rfl
theorem k59_3 : z_op 59 3 = o_iload 1 2 := rfl
theorem k59_4 : z_op 59 4 = o_ic (fun x y => y ≤ x) 27 := rfl
theorem k59_7 : z_op 59 7 = o_aload 1 0 := rfl
theorem k59_8 : z_op 59 8 = o_get 4 0 := rfl
theorem k59_11 : z_op 59 11 = o_iload 1 3 := rfl
theorem k59_12 : z_op 59 12 = o_cv 62 5 1 := rfl
theorem k59_15 : z_op 59 15 = o_cs 25 1 := rfl
theorem k59_18 : z_op 59 18 = o_if (fun x => x = 0) 27 := rfl
theorem k59_21 : z_op 59 21 = o_iinc 3 (1) := rfl
theorem k59_24 : z_op 59 24 = o_goto 2 := rfl
theorem k59_27 : z_op 59 27 = o_iload 1 3 := rfl
theorem k59_28 : z_op 59 28 = o_iload 1 1 := rfl
theorem k59_29 : z_op 59 29 = o_ic (fun x y => x ≤ y) 54 := rfl
theorem k59_32 : z_op 59 32 = o_iload 1 3 := rfl
theorem k59_33 : z_op 59 33 = o_iload 1 2 := rfl
theorem k59_34 : z_op 59 34 = o_ic (fun x y => y ≤ x) 54 := rfl
theorem k59_37 : z_op 59 37 = o_aload 1 0 := rfl
theorem k59_38 : z_op 59 38 = o_get 4 0 := rfl
theorem k59_41 : z_op 59 41 = o_iload 1 3 := rfl
theorem k59_42 : z_op 59 42 = o_cv 62 5 1 := rfl
theorem k59_45 : z_op 59 45 = o_const 2 (.int (58)) := rfl
theorem k59_47 : z_op 59 47 = o_ic (fun x y => ¬ x = y) 54 := rfl
theorem k59_50 : z_op 59 50 = o_const 1 (.int (1)) := rfl
theorem k59_51 : z_op 59 51 = o_goto 55 := rfl
theorem k59_54 : z_op 59 54 = o_const 1 (.int (0)) := rfl
theorem k59_55 : z_op 59 55 = o_ist 2 4 false := rfl
theorem k59_57 : z_op 59 57 = o_iload 2 4 := rfl
theorem k59_59 : z_op 59 59 = o_if (fun x => x = 0) 71 := rfl
theorem k59_62 : z_op 59 62 = o_aload 1 0 := rfl
theorem k59_63 : z_op 59 63 = o_get 4 1 := rfl
theorem k59_66 : z_op 59 66 = o_const 2 (.int (12)) := rfl
theorem k59_68 : z_op 59 68 = o_ic (fun x y => ¬ x = y) 73 := rfl
theorem k59_71 : z_op 59 71 = o_const 1 (.int (0)) := rfl
theorem k59_72 : z_op 59 72 = o_iret .boolean := rfl
theorem k59_73 : z_op 59 73 = o_aload 1 0 := rfl
theorem k59_74 : z_op 59 74 = o_get 4 3 := rfl
theorem k59_77 : z_op 59 77 = o_aload 1 0 := rfl
theorem k59_78 : z_op 59 78 = o_get 4 1 := rfl
theorem k59_81 : z_op 59 81 = o_iload 1 1 := rfl
theorem k59_82 : z_op 59 82 = o_aast .int := rfl
theorem k59_83 : z_op 59 83 = o_aload 1 0 := rfl
theorem k59_84 : z_op 59 84 = o_get 4 4 := rfl
theorem k59_87 : z_op 59 87 = o_aload 1 0 := rfl
theorem k59_88 : z_op 59 88 = o_get 4 1 := rfl
theorem k59_91 : z_op 59 91 = o_iload 1 3 := rfl
theorem k59_92 : z_op 59 92 = o_aast .int := rfl
theorem k59_93 : z_op 59 93 = o_aload 1 0 := rfl
theorem k59_94 : z_op 59 94 = o_get 4 5 := rfl
theorem k59_97 : z_op 59 97 = o_aload 1 0 := rfl
theorem k59_98 : z_op 59 98 = o_get 4 1 := rfl
theorem k59_101 : z_op 59 101 = o_iload 1 2 := rfl
theorem k59_102 : z_op 59 102 = o_aast .int := rfl
theorem k59_103 : z_op 59 103 = o_aload 1 0 := rfl
theorem k59_104 : z_op 59 104 = o_dup := rfl
theorem k59_105 : z_op 59 105 = o_get 4 1 := rfl
theorem k59_108 : z_op 59 108 = o_const 1 (.int (1)) := rfl
theorem k59_109 : z_op 59 109 = o_ib (fun x y => x + y) := rfl
theorem k59_110 : z_op 59 110 = o_put 4 1 .int := rfl
theorem k59_113 : z_op 59 113 = o_const 1 (.int (1)) := rfl
theorem k59_114 : z_op 59 114 = o_iret .boolean := rfl
theorem k60_0 : z_op 60 0 = o_aload 1 0 := rfl
theorem k60_1 : z_op 60 1 = o_obj := rfl
theorem k60_4 : z_op 60 4 = o_aload 1 0 := rfl
theorem k60_5 : z_op 60 5 = o_iload 1 1 := rfl
theorem k60_6 : z_op 60 6 = o_newa .char := rfl
theorem k60_8 : z_op 60 8 = o_put 5 0 (.array .char) := rfl
theorem k60_11 : z_op 60 11 = o_vret := rfl
theorem k61_0 : z_op 61 0 = o_aload 1 0 := rfl
theorem k61_1 : z_op 61 1 = o_get 5 1 := rfl
theorem k61_4 : z_op 61 4 = o_aload 1 0 := rfl
theorem k61_5 : z_op 61 5 = o_get 5 0 := rfl
theorem k61_8 : z_op 61 8 = o_alen := rfl
theorem k61_9 : z_op 61 9 = o_ic (fun x y => ¬ x = y) 14 := rfl
theorem k61_12 : z_op 61 12 = o_const 1 (.int (0)) := rfl
theorem k61_13 : z_op 61 13 = o_iret .boolean := rfl
theorem k61_14 : z_op 61 14 = o_aload 1 0 := rfl
theorem k61_15 : z_op 61 15 = o_get 5 0 := rfl
theorem k61_18 : z_op 61 18 = o_aload 1 0 := rfl
theorem k61_19 : z_op 61 19 = o_get 5 1 := rfl
theorem k61_22 : z_op 61 22 = o_iload 1 1 := rfl
theorem k61_23 : z_op 61 23 = o_i1 (fun x => (x.toUInt32 % 65536).toInt32) := rfl
theorem k61_24 : z_op 61 24 = o_aast .char := rfl
theorem k61_25 : z_op 61 25 = o_aload 1 0 := rfl
theorem k61_26 : z_op 61 26 = o_dup := rfl
theorem k61_27 : z_op 61 27 = o_get 5 1 := rfl
theorem k61_30 : z_op 61 30 = o_const 1 (.int (1)) := rfl
theorem k61_31 : z_op 61 31 = o_ib (fun x y => x + y) := rfl
theorem k61_32 : z_op 61 32 = o_put 5 1 .int := rfl
theorem k61_35 : z_op 61 35 = o_const 1 (.int (1)) := rfl
theorem k61_36 : z_op 61 36 = o_iret .boolean := rfl
theorem k62_0 : z_op 62 0 = o_iload 1 1 := rfl
theorem k62_1 : z_op 62 1 = o_if (fun x => x < 0) 21 := rfl
theorem k62_4 : z_op 62 4 = o_iload 1 1 := rfl
theorem k62_5 : z_op 62 5 = o_aload 1 0 := rfl
theorem k62_6 : z_op 62 6 = o_get 5 1 := rfl
theorem k62_9 : z_op 62 9 = o_ic (fun x y => y ≤ x) 21 := rfl
theorem k62_12 : z_op 62 12 = o_aload 1 0 := rfl
theorem k62_13 : z_op 62 13 = o_get 5 0 := rfl
theorem k62_16 : z_op 62 16 = o_iload 1 1 := rfl
theorem k62_17 : z_op 62 17 = o_ald .char := rfl
theorem k62_18 : z_op 62 18 = o_goto 22 := rfl
theorem k62_21 : z_op 62 21 = o_const 1 (.int (-1)) := rfl
theorem k62_22 : z_op 62 22 = o_iret .int := rfl
theorem k63_0 : z_op 63 0 = o_iload 1 1 := rfl
theorem k63_1 : z_op 63 1 = o_if (fun x => x < 0) 17 := rfl
theorem k63_4 : z_op 63 4 = o_iload 1 1 := rfl
theorem k63_5 : z_op 63 5 = o_aload 1 0 := rfl
theorem k63_6 : z_op 63 6 = o_get 5 1 := rfl
theorem k63_9 : z_op 63 9 = o_ic (fun x y => y ≤ x) 17 := rfl
theorem k63_12 : z_op 63 12 = o_aload 1 0 := rfl
theorem k63_13 : z_op 63 13 = o_iload 1 1 := rfl
theorem k63_14 : z_op 63 14 = o_put 5 1 .int := rfl
theorem k63_17 : z_op 63 17 = o_vret := rfl
theorem k64_0 : z_op 64 0 = o_const 1 (.long 0) := rfl
theorem k64_1 : z_op 64 1 = o_lst 1 1 := rfl
theorem k64_2 : z_op 64 2 = o_const 1 (.int (0)) := rfl
theorem k64_3 : z_op 64 3 = o_ist 1 3 true := rfl
theorem k64_4 : z_op 64 4 = o_iload 1 3 := rfl
theorem k64_5 : z_op 64 5 = o_aload 1 0 := rfl
theorem k64_6 : z_op 64 6 = o_get 5 1 := rfl
theorem k64_9 : z_op 64 9 = o_ic (fun x y => y ≤ x) 38 := rfl
theorem k64_12 : z_op 64 12 = o_const 3 (.long 257) := rfl
theorem k64_15 : z_op 64 15 = o_lload 1 1 := rfl
theorem k64_16 : z_op 64 16 = o_lb (fun x y => x * y) := rfl
theorem k64_17 : z_op 64 17 = o_aload 1 0 := rfl
theorem k64_18 : z_op 64 18 = o_get 5 0 := rfl
theorem k64_21 : z_op 64 21 = o_iload 1 3 := rfl
theorem k64_22 : z_op 64 22 = o_ald .char := rfl
theorem k64_23 : z_op 64 23 = o_i2l := rfl
theorem k64_24 : z_op 64 24 = o_lb (fun x y => x + y) := rfl
theorem k64_25 : z_op 64 25 = o_const 1 (.long 1) := rfl
theorem k64_26 : z_op 64 26 = o_lb (fun x y => x + y) := rfl
theorem k64_27 : z_op 64 27 = o_const 3 (.long 2147483647) := rfl
theorem k64_30 : z_op 64 30 = o_lbn (fun x y => x - x / y * y) := rfl
theorem k64_31 : z_op 64 31 = o_lst 1 1 := rfl
theorem k64_32 : z_op 64 32 = o_iinc 3 (1) := rfl
theorem k64_35 : z_op 64 35 = o_goto 4 := rfl
theorem k64_38 : z_op 64 38 = o_lload 1 1 := rfl
theorem k64_39 : z_op 64 39 = o_l2i := rfl
theorem k64_40 : z_op 64 40 = o_iret .int := rfl
theorem k65_0 : z_op 65 0 = o_aload 1 0 := rfl
theorem k65_1 : z_op 65 1 = o_obj := rfl
theorem k65_4 : z_op 65 4 = o_aload 1 0 := rfl
theorem k65_5 : z_op 65 5 = o_aload 1 1 := rfl
theorem k65_6 : z_op 65 6 = o_put 6 0 (.object "MailVerdicts$Domain") := rfl
theorem k65_9 : z_op 65 9 = o_aload 1 0 := rfl
theorem k65_10 : z_op 65 10 = o_iload 1 2 := rfl
theorem k65_11 : z_op 65 11 = o_put 6 1 .boolean := rfl
theorem k65_14 : z_op 65 14 = o_aload 1 0 := rfl
theorem k65_15 : z_op 65 15 = o_iload 1 3 := rfl
theorem k65_16 : z_op 65 16 = o_put 6 2 .boolean := rfl
theorem k65_19 : z_op 65 19 = o_aload 1 0 := rfl
theorem k65_20 : z_op 65 20 = o_iload 2 4 := rfl
theorem k65_22 : z_op 65 22 = o_put 6 3 .int := rfl
theorem k65_25 : z_op 65 25 = o_vret := rfl
theorem k66_0 : z_op 66 0 = o_aload 1 0 := rfl
theorem k66_1 : z_op 66 1 = o_obj := rfl
theorem k66_4 : z_op 66 4 = o_aload 1 0 := rfl
theorem k66_5 : z_op 66 5 = o_iload 1 1 := rfl
theorem k66_6 : z_op 66 6 = o_put 7 0 .int := rfl
theorem k66_9 : z_op 66 9 = o_aload 1 0 := rfl
theorem k66_10 : z_op 66 10 = o_iload 1 2 := rfl
theorem k66_11 : z_op 66 11 = o_put 7 1 .int := rfl
theorem k66_14 : z_op 66 14 = o_aload 1 0 := rfl
theorem k66_15 : z_op 66 15 = o_iload 1 3 := rfl
theorem k66_16 : z_op 66 16 = o_put 7 2 .int := rfl
theorem k66_19 : z_op 66 19 = o_aload 1 0 := rfl
theorem k66_20 : z_op 66 20 = o_aload 2 4 := rfl
theorem k66_22 : z_op 66 22 = o_put 7 3 (.object "MailVerdicts$Domain") := rfl
theorem k66_25 : z_op 66 25 = o_aload 1 0 := rfl
theorem k66_26 : z_op 66 26 = o_iload 2 5 := rfl
theorem k66_28 : z_op 66 28 = o_put 7 4 .int := rfl
theorem k66_31 : z_op 66 31 = o_vret := rfl
theorem k67_0 : z_op 67 0 = o_aload 1 0 := rfl
theorem k67_1 : z_op 67 1 = o_obj := rfl
theorem k67_4 : z_op 67 4 = o_aload 1 0 := rfl
theorem k67_5 : z_op 67 5 = o_iload 1 1 := rfl
theorem k67_6 : z_op 67 6 = o_put 8 0 .int := rfl
theorem k67_9 : z_op 67 9 = o_aload 1 0 := rfl
theorem k67_10 : z_op 67 10 = o_iload 1 2 := rfl
theorem k67_11 : z_op 67 11 = o_put 8 1 .int := rfl
theorem k67_14 : z_op 67 14 = o_vret := rfl
theorem k68_0 : z_op 68 0 = o_aload 1 0 := rfl
theorem k68_1 : z_op 68 1 = o_get 8 0 := rfl
theorem k68_4 : z_op 68 4 = o_const 1 (.int (2)) := rfl
theorem k68_5 : z_op 68 5 = o_ic (fun x y => y ≤ x) 10 := rfl
theorem k68_8 : z_op 68 8 = o_const 1 (.int (0)) := rfl
theorem k68_9 : z_op 68 9 = o_iret .boolean := rfl
theorem k68_10 : z_op 68 10 = o_iload 1 1 := rfl
theorem k68_11 : z_op 68 11 = o_aload 1 0 := rfl
theorem k68_12 : z_op 68 12 = o_get 8 0 := rfl
theorem k68_15 : z_op 68 15 = o_cs 116 2 := rfl
theorem k68_18 : z_op 68 18 = o_i2l := rfl
theorem k68_19 : z_op 68 19 = o_lst 1 3 := rfl
theorem k68_20 : z_op 68 20 = o_const 1 (.long 1) := rfl
theorem k68_21 : z_op 68 21 = o_lst 2 5 := rfl
theorem k68_23 : z_op 68 23 = o_aload 1 0 := rfl
theorem k68_24 : z_op 68 24 = o_get 8 1 := rfl
theorem k68_27 : z_op 68 27 = o_ist 2 7 true := rfl
theorem k68_29 : z_op 68 29 = o_iload 2 7 := rfl
theorem k68_31 : z_op 68 31 = o_if (fun x => x ≤ 0) 73 := rfl
theorem k68_34 : z_op 68 34 = o_iload 2 7 := rfl
theorem k68_36 : z_op 68 36 = o_const 1 (.int (1)) := rfl
theorem k68_37 : z_op 68 37 = o_ib (fun x y => x &&& y) := rfl
theorem k68_38 : z_op 68 38 = o_const 1 (.int (1)) := rfl
theorem k68_39 : z_op 68 39 = o_ic (fun x y => ¬ x = y) 54 := rfl
theorem k68_42 : z_op 68 42 = o_lload 2 5 := rfl
theorem k68_44 : z_op 68 44 = o_lload 1 3 := rfl
theorem k68_45 : z_op 68 45 = o_lb (fun x y => x * y) := rfl
theorem k68_46 : z_op 68 46 = o_aload 1 0 := rfl
theorem k68_47 : z_op 68 47 = o_get 8 0 := rfl
theorem k68_50 : z_op 68 50 = o_i2l := rfl
theorem k68_51 : z_op 68 51 = o_lbn (fun x y => x - x / y * y) := rfl
theorem k68_52 : z_op 68 52 = o_lst 2 5 := rfl
theorem k68_54 : z_op 68 54 = o_lload 1 3 := rfl
theorem k68_55 : z_op 68 55 = o_lload 1 3 := rfl
theorem k68_56 : z_op 68 56 = o_lb (fun x y => x * y) := rfl
theorem k68_57 : z_op 68 57 = o_aload 1 0 := rfl
theorem k68_58 : z_op 68 58 = o_get 8 0 := rfl
theorem k68_61 : z_op 68 61 = o_i2l := rfl
theorem k68_62 : z_op 68 62 = o_lbn (fun x y => x - x / y * y) := rfl
theorem k68_63 : z_op 68 63 = o_lst 1 3 := rfl
theorem k68_64 : z_op 68 64 = o_iload 2 7 := rfl
theorem k68_66 : z_op 68 66 = o_const 1 (.int (1)) := rfl
theorem k68_67 : z_op 68 67 = o_ib (fun x y => x >>> (y &&& 31)) := rfl
theorem k68_68 : z_op 68 68 = o_ist 2 7 true := rfl
theorem k68_70 : z_op 68 70 = o_goto 29 := rfl
theorem k68_73 : z_op 68 73 = o_lload 2 5 := rfl
theorem k68_75 : z_op 68 75 = o_iload 1 2 := rfl
theorem k68_76 : z_op 68 76 = o_aload 1 0 := rfl
theorem k68_77 : z_op 68 77 = o_get 8 0 := rfl
theorem k68_80 : z_op 68 80 = o_ibn (fun x y => x - x / y * y) := rfl
theorem k68_81 : z_op 68 81 = o_i2l := rfl
theorem k68_82 : z_op 68 82 = o_lcmp := rfl
theorem k68_83 : z_op 68 83 = o_if (fun x => ¬ x = 0) 90 := rfl
theorem k68_86 : z_op 68 86 = o_const 1 (.int (1)) := rfl
theorem k68_87 : z_op 68 87 = o_goto 91 := rfl
theorem k68_90 : z_op 68 90 = o_const 1 (.int (0)) := rfl
theorem k68_91 : z_op 68 91 = o_iret .boolean := rfl
theorem k69_0 : z_op 69 0 = o_aload 1 0 := rfl
theorem k69_1 : z_op 69 1 = o_obj := rfl
theorem k69_4 : z_op 69 4 = o_aload 1 0 := rfl
theorem k69_5 : z_op 69 5 = o_iload 1 1 := rfl
theorem k69_6 : z_op 69 6 = o_put 9 0 .int := rfl
theorem k69_9 : z_op 69 9 = o_aload 1 0 := rfl
theorem k69_10 : z_op 69 10 = o_iload 1 2 := rfl
theorem k69_11 : z_op 69 11 = o_put 9 1 .int := rfl
theorem k69_14 : z_op 69 14 = o_aload 1 0 := rfl
theorem k69_15 : z_op 69 15 = o_iload 1 3 := rfl
theorem k69_16 : z_op 69 16 = o_put 9 2 .boolean := rfl
theorem k69_19 : z_op 69 19 = o_aload 1 0 := rfl
theorem k69_20 : z_op 69 20 = o_iload 2 4 := rfl
theorem k69_22 : z_op 69 22 = o_put 9 3 .boolean := rfl
theorem k69_25 : z_op 69 25 = o_vret := rfl
theorem k70_0 : z_op 70 0 = o_aload 1 0 := rfl
theorem k70_1 : z_op 70 1 = o_obj := rfl
theorem k70_4 : z_op 70 4 = o_aload 1 0 := rfl
theorem k70_5 : z_op 70 5 = o_const 2 (.int (12)) := rfl
theorem k70_7 : z_op 70 7 = o_newa .int := rfl
theorem k70_9 : z_op 70 9 = o_put 10 1 (.array .int) := rfl
theorem k70_12 : z_op 70 12 = o_aload 1 0 := rfl
theorem k70_13 : z_op 70 13 = o_const 2 (.int (12)) := rfl
theorem k70_15 : z_op 70 15 = o_newa .boolean := rfl
theorem k70_17 : z_op 70 17 = o_put 10 2 (.array .boolean) := rfl
theorem k70_20 : z_op 70 20 = o_aload 1 0 := rfl
theorem k70_21 : z_op 70 21 = o_const 2 (.int (12)) := rfl
theorem k70_23 : z_op 70 23 = o_newa .int := rfl
theorem k70_25 : z_op 70 25 = o_put 10 3 (.array .int) := rfl
theorem k70_28 : z_op 70 28 = o_aload 1 0 := rfl
theorem k70_29 : z_op 70 29 = o_const 2 (.int (36)) := rfl
theorem k70_31 : z_op 70 31 = o_newa .int := rfl
theorem k70_33 : z_op 70 33 = o_put 10 4 (.array .int) := rfl
theorem k70_36 : z_op 70 36 = o_aload 1 0 := rfl
theorem k70_37 : z_op 70 37 = o_const 2 (.int (12)) := rfl
theorem k70_39 : z_op 70 39 = o_newa .int := rfl
theorem k70_41 : z_op 70 41 = o_put 10 5 (.array .int) := rfl
theorem k70_44 : z_op 70 44 = o_aload 1 0 := rfl
theorem k70_45 : z_op 70 45 = o_const 2 (.int (36)) := rfl
theorem k70_47 : z_op 70 47 = o_newa .int := rfl
theorem k70_49 : z_op 70 49 = o_put 10 6 (.array .int) := rfl
theorem k70_52 : z_op 70 52 = o_aload 1 0 := rfl
theorem k70_53 : z_op 70 53 = o_const 2 (.int (12)) := rfl
theorem k70_55 : z_op 70 55 = o_newa .int := rfl
theorem k70_57 : z_op 70 57 = o_put 10 7 (.array .int) := rfl
theorem k70_60 : z_op 70 60 = o_aload 1 0 := rfl
theorem k70_61 : z_op 70 61 = o_const 2 (.int (12)) := rfl
theorem k70_63 : z_op 70 63 = o_newa .int := rfl
theorem k70_65 : z_op 70 65 = o_put 10 8 (.array .int) := rfl
theorem k70_68 : z_op 70 68 = o_aload 1 0 := rfl
theorem k70_69 : z_op 70 69 = o_const 2 (.int (12)) := rfl
theorem k70_71 : z_op 70 71 = o_newa .int := rfl
theorem k70_73 : z_op 70 73 = o_put 10 9 (.array .int) := rfl
theorem k70_76 : z_op 70 76 = o_aload 1 0 := rfl
theorem k70_77 : z_op 70 77 = o_const 2 (.int (12)) := rfl
theorem k70_79 : z_op 70 79 = o_newa .int := rfl
theorem k70_81 : z_op 70 81 = o_put 10 10 (.array .int) := rfl
theorem k70_84 : z_op 70 84 = o_aload 1 0 := rfl
theorem k70_85 : z_op 70 85 = o_const 2 (.int (12)) := rfl
theorem k70_87 : z_op 70 87 = o_newa .boolean := rfl
theorem k70_89 : z_op 70 89 = o_put 10 11 (.array .boolean) := rfl
theorem k70_92 : z_op 70 92 = o_aload 1 0 := rfl
theorem k70_93 : z_op 70 93 = o_const 2 (.int (12)) := rfl
theorem k70_95 : z_op 70 95 = o_newa .boolean := rfl
theorem k70_97 : z_op 70 97 = o_put 10 12 (.array .boolean) := rfl
theorem k70_100 : z_op 70 100 = o_aload 1 0 := rfl
theorem k70_101 : z_op 70 101 = o_const 2 (.int (12)) := rfl
theorem k70_103 : z_op 70 103 = o_newa .int := rfl
theorem k70_105 : z_op 70 105 = o_put 10 13 (.array .int) := rfl
theorem k70_108 : z_op 70 108 = o_aload 1 0 := rfl
theorem k70_109 : z_op 70 109 = o_const 2 (.int (96)) := rfl
theorem k70_111 : z_op 70 111 = o_newa .int := rfl
theorem k70_113 : z_op 70 113 = o_put 10 14 (.array .int) := rfl
theorem k70_116 : z_op 70 116 = o_aload 1 0 := rfl
theorem k70_117 : z_op 70 117 = o_const 2 (.int (96)) := rfl
theorem k70_119 : z_op 70 119 = o_newa .int := rfl
theorem k70_121 : z_op 70 121 = o_put 10 15 (.array .int) := rfl
theorem k70_124 : z_op 70 124 = o_aload 1 0 := rfl
theorem k70_125 : z_op 70 125 = o_const 2 (.int (96)) := rfl
theorem k70_127 : z_op 70 127 = o_newa .int := rfl
theorem k70_129 : z_op 70 129 = o_put 10 16 (.array .int) := rfl
theorem k70_132 : z_op 70 132 = o_aload 1 0 := rfl
theorem k70_133 : z_op 70 133 = o_const 2 (.int (96)) := rfl
theorem k70_135 : z_op 70 135 = o_newa .int := rfl
theorem k70_137 : z_op 70 137 = o_put 10 17 (.array .int) := rfl
theorem k70_140 : z_op 70 140 = o_aload 1 0 := rfl
theorem k70_141 : z_op 70 141 = o_const 2 (.int (12)) := rfl
theorem k70_143 : z_op 70 143 = o_newa .int := rfl
theorem k70_145 : z_op 70 145 = o_put 10 21 (.array .int) := rfl
theorem k70_148 : z_op 70 148 = o_aload 1 0 := rfl
theorem k70_149 : z_op 70 149 = o_const 2 (.int (12)) := rfl
theorem k70_151 : z_op 70 151 = o_newa .int := rfl
theorem k70_153 : z_op 70 153 = o_put 10 22 (.array .int) := rfl
theorem k70_156 : z_op 70 156 = o_aload 1 0 := rfl
theorem k70_157 : z_op 70 157 = o_const 2 (.int (12)) := rfl
theorem k70_159 : z_op 70 159 = o_newa .boolean := rfl
theorem k70_161 : z_op 70 161 = o_put 10 23 (.array .boolean) := rfl
theorem k70_164 : z_op 70 164 = o_aload 1 0 := rfl
theorem k70_165 : z_op 70 165 = o_const 3 (.int (240)) := rfl
theorem k70_168 : z_op 70 168 = o_newa .int := rfl
theorem k70_170 : z_op 70 170 = o_put 10 25 (.array .int) := rfl
theorem k70_173 : z_op 70 173 = o_aload 1 0 := rfl
theorem k70_174 : z_op 70 174 = o_const 2 (.int (60)) := rfl
theorem k70_176 : z_op 70 176 = o_newa .int := rfl
theorem k70_178 : z_op 70 178 = o_put 10 27 (.array .int) := rfl
theorem k70_181 : z_op 70 181 = o_aload 1 0 := rfl
theorem k70_182 : z_op 70 182 = o_const 1 (.int (3)) := rfl
theorem k70_183 : z_op 70 183 = o_newa .int := rfl
theorem k70_185 : z_op 70 185 = o_put 10 29 (.array .int) := rfl
theorem k70_188 : z_op 70 188 = o_aload 1 0 := rfl
theorem k70_189 : z_op 70 189 = o_const 1 (.int (3)) := rfl
theorem k70_190 : z_op 70 190 = o_newa .boolean := rfl
theorem k70_192 : z_op 70 192 = o_put 10 30 (.array .boolean) := rfl
theorem k70_195 : z_op 70 195 = o_aload 1 0 := rfl
theorem k70_196 : z_op 70 196 = o_const 1 (.int (3)) := rfl
theorem k70_197 : z_op 70 197 = o_newa .boolean := rfl
theorem k70_199 : z_op 70 199 = o_put 10 31 (.array .boolean) := rfl
theorem k70_202 : z_op 70 202 = o_aload 1 0 := rfl
theorem k70_203 : z_op 70 203 = o_const 1 (.int (3)) := rfl
theorem k70_204 : z_op 70 204 = o_newa .int := rfl
theorem k70_206 : z_op 70 206 = o_put 10 32 (.array .int) := rfl
theorem k70_209 : z_op 70 209 = o_aload 1 0 := rfl
theorem k70_210 : z_op 70 210 = o_const 3 (.int (241)) := rfl
theorem k70_213 : z_op 70 213 = o_newa .int := rfl
theorem k70_215 : z_op 70 215 = o_put 10 34 (.array .int) := rfl
theorem k70_218 : z_op 70 218 = o_aload 1 0 := rfl
theorem k70_219 : z_op 70 219 = o_const 3 (.int (241)) := rfl
theorem k70_222 : z_op 70 222 = o_newa .int := rfl
theorem k70_224 : z_op 70 224 = o_put 10 35 (.array .int) := rfl
theorem k70_227 : z_op 70 227 = o_aload 1 0 := rfl
theorem k70_228 : z_op 70 228 = o_const 2 (.int (12)) := rfl
theorem k70_230 : z_op 70 230 = o_newa .int := rfl
theorem k70_232 : z_op 70 232 = o_put 10 38 (.array .int) := rfl
theorem k70_235 : z_op 70 235 = o_aload 1 0 := rfl
theorem k70_236 : z_op 70 236 = o_const 2 (.int (12)) := rfl
theorem k70_238 : z_op 70 238 = o_newa .int := rfl
theorem k70_240 : z_op 70 240 = o_put 10 39 (.array .int) := rfl
theorem k70_243 : z_op 70 243 = o_aload 1 0 := rfl
theorem k70_244 : z_op 70 244 = o_const 2 (.int (12)) := rfl
theorem k70_246 : z_op 70 246 = o_newa .int := rfl
theorem k70_248 : z_op 70 248 = o_put 10 40 (.array .int) := rfl
theorem k70_251 : z_op 70 251 = o_aload 1 0 := rfl
theorem k70_252 : z_op 70 252 = o_const 2 (.int (12)) := rfl
theorem k70_254 : z_op 70 254 = o_newa .boolean := rfl
theorem k70_256 : z_op 70 256 = o_put 10 41 (.array .boolean) := rfl
theorem k70_259 : z_op 70 259 = o_aload 1 0 := rfl
theorem k70_260 : z_op 70 260 = o_const 3 (.int (500)) := rfl
theorem k70_263 : z_op 70 263 = o_newa .int := rfl
theorem k70_265 : z_op 70 265 = o_put 10 43 (.array .int) := rfl
theorem k70_268 : z_op 70 268 = o_vret := rfl
theorem k71_0 : z_op 71 0 = o_iload 1 1 := rfl
theorem k71_1 : z_op 71 1 = o_if (fun x => x < 0) 12 := rfl
theorem k71_4 : z_op 71 4 = o_iload 1 1 := rfl
theorem k71_5 : z_op 71 5 = o_aload 1 0 := rfl
theorem k71_6 : z_op 71 6 = o_get 10 0 := rfl
theorem k71_9 : z_op 71 9 = o_ic (fun x y => x < y) 16 := rfl
theorem k71_12 : z_op 71 12 = o_const 1 (.int (1)) := rfl
theorem k71_13 : z_op 71 13 = o_goto 17 := rfl
theorem k71_16 : z_op 71 16 = o_const 1 (.int (0)) := rfl
theorem k71_17 : z_op 71 17 = o_iret .boolean := rfl
theorem k72_0 : z_op 72 0 = o_aload 1 0 := rfl
theorem k72_1 : z_op 72 1 = o_get 10 0 := rfl
theorem k72_4 : z_op 72 4 = o_const 2 (.int (12)) := rfl
theorem k72_6 : z_op 72 6 = o_ic (fun x y => x = y) 22 := rfl
theorem k72_9 : z_op 72 9 = o_iload 1 1 := rfl
theorem k72_10 : z_op 72 10 = o_const 1 (.int (-1)) := rfl
theorem k72_11 : z_op 72 11 = o_ic (fun x y => x = y) 24 := rfl
theorem k72_14 : z_op 72 14 = o_aload 1 0 := rfl
theorem k72_15 : z_op 72 15 = o_iload 1 1 := rfl
theorem k72_16 : z_op 72 16 = o_cv 71 10 1 := rfl
theorem k72_19 : z_op 72 19 = o_if (fun x => x = 0) 24 := rfl
theorem k72_22 : z_op 72 22 = o_const 1 (.int (-1)) := rfl
theorem k72_23 : z_op 72 23 = o_iret .int := rfl
theorem k72_24 : z_op 72 24 = o_aload 1 0 := rfl
theorem k72_25 : z_op 72 25 = o_get 10 1 := rfl
theorem k72_28 : z_op 72 28 = o_aload 1 0 := rfl
theorem k72_29 : z_op 72 29 = o_get 10 0 := rfl
theorem k72_32 : z_op 72 32 = o_iload 1 1 := rfl
theorem k72_33 : z_op 72 33 = o_aast .int := rfl
theorem k72_34 : z_op 72 34 = o_aload 1 0 := rfl
theorem k72_35 : z_op 72 35 = o_get 10 2 := rfl
theorem k72_38 : z_op 72 38 = o_aload 1 0 := rfl
theorem k72_39 : z_op 72 39 = o_get 10 0 := rfl
theorem k72_42 : z_op 72 42 = o_iload 1 2 := rfl
theorem k72_43 : z_op 72 43 = o_aast .boolean := rfl
theorem k72_44 : z_op 72 44 = o_aload 1 0 := rfl
theorem k72_45 : z_op 72 45 = o_get 10 9 := rfl
theorem k72_48 : z_op 72 48 = o_aload 1 0 := rfl
theorem k72_49 : z_op 72 49 = o_get 10 0 := rfl
theorem k72_52 : z_op 72 52 = o_const 1 (.int (-1)) := rfl
theorem k72_53 : z_op 72 53 = o_aast .int := rfl
theorem k72_54 : z_op 72 54 = o_aload 1 0 := rfl
theorem k72_55 : z_op 72 55 = o_dup := rfl
theorem k72_56 : z_op 72 56 = o_get 10 0 := rfl
theorem k72_59 : z_op 72 59 = o_const 1 (.int (1)) := rfl
theorem k72_60 : z_op 72 60 = o_ib (fun x y => x + y) := rfl
theorem k72_61 : z_op 72 61 = o_put 10 0 .int := rfl
theorem k72_64 : z_op 72 64 = o_aload 1 0 := rfl
theorem k72_65 : z_op 72 65 = o_get 10 0 := rfl
theorem k72_68 : z_op 72 68 = o_const 1 (.int (1)) := rfl
theorem k72_69 : z_op 72 69 = o_ib (fun x y => x - y) := rfl
theorem k72_70 : z_op 72 70 = o_iret .int := rfl
theorem k73_0 : z_op 73 0 = o_aload 1 0 := rfl
theorem k73_1 : z_op 73 1 = o_iload 1 1 := rfl
theorem k73_2 : z_op 73 2 = o_cv 71 10 1 := rfl
theorem k73_5 : z_op 73 5 = o_if (fun x => ¬ x = 0) 18 := rfl
theorem k73_8 : z_op 73 8 = o_aload 1 0 := rfl
theorem k73_9 : z_op 73 9 = o_get 10 3 := rfl
theorem k73_12 : z_op 73 12 = o_iload 1 1 := rfl
theorem k73_13 : z_op 73 13 = o_ald .int := rfl
theorem k73_14 : z_op 73 14 = o_const 1 (.int (3)) := rfl
theorem k73_15 : z_op 73 15 = o_ic (fun x y => ¬ x = y) 20 := rfl
theorem k73_18 : z_op 73 18 = o_const 1 (.int (0)) := rfl
theorem k73_19 : z_op 73 19 = o_iret .boolean := rfl
theorem k73_20 : z_op 73 20 = o_aload 1 0 := rfl
theorem k73_21 : z_op 73 21 = o_get 10 4 := rfl
theorem k73_24 : z_op 73 24 = o_const 1 (.int (3)) := rfl
theorem k73_25 : z_op 73 25 = o_iload 1 1 := rfl
theorem k73_26 : z_op 73 26 = o_ib (fun x y => x * y) := rfl
theorem k73_27 : z_op 73 27 = o_aload 1 0 := rfl
theorem k73_28 : z_op 73 28 = o_get 10 3 := rfl
theorem k73_31 : z_op 73 31 = o_iload 1 1 := rfl
theorem k73_32 : z_op 73 32 = o_ald .int := rfl
theorem k73_33 : z_op 73 33 = o_ib (fun x y => x + y) := rfl
theorem k73_34 : z_op 73 34 = o_iload 1 2 := rfl
theorem k73_35 : z_op 73 35 = o_aast .int := rfl
theorem k73_36 : z_op 73 36 = o_aload 1 0 := rfl
theorem k73_37 : z_op 73 37 = o_get 10 3 := rfl
theorem k73_40 : z_op 73 40 = o_iload 1 1 := rfl
theorem k73_41 : z_op 73 41 = o_dup2 := rfl
theorem k73_42 : z_op 73 42 = o_ald .int := rfl
theorem k73_43 : z_op 73 43 = o_const 1 (.int (1)) := rfl
theorem k73_44 : z_op 73 44 = o_ib (fun x y => x + y) := rfl
theorem k73_45 : z_op 73 45 = o_aast .int := rfl
theorem k73_46 : z_op 73 46 = o_const 1 (.int (1)) := rfl
theorem k73_47 : z_op 73 47 = o_iret .boolean := rfl
theorem k74_0 : z_op 74 0 = o_aload 1 0 := rfl
theorem k74_1 : z_op 74 1 = o_iload 1 1 := rfl
theorem k74_2 : z_op 74 2 = o_cv 71 10 1 := rfl
theorem k74_5 : z_op 74 5 = o_if (fun x => ¬ x = 0) 26 := rfl
theorem k74_8 : z_op 74 8 = o_aload 1 0 := rfl
theorem k74_9 : z_op 74 9 = o_iload 1 2 := rfl
theorem k74_10 : z_op 74 10 = o_cv 71 10 1 := rfl
theorem k74_13 : z_op 74 13 = o_if (fun x => ¬ x = 0) 26 := rfl
theorem k74_16 : z_op 74 16 = o_aload 1 0 := rfl
theorem k74_17 : z_op 74 17 = o_get 10 5 := rfl
theorem k74_20 : z_op 74 20 = o_iload 1 1 := rfl
theorem k74_21 : z_op 74 21 = o_ald .int := rfl
theorem k74_22 : z_op 74 22 = o_const 1 (.int (3)) := rfl
theorem k74_23 : z_op 74 23 = o_ic (fun x y => ¬ x = y) 28 := rfl
theorem k74_26 : z_op 74 26 = o_const 1 (.int (0)) := rfl
theorem k74_27 : z_op 74 27 = o_iret .boolean := rfl
theorem k74_28 : z_op 74 28 = o_aload 1 0 := rfl
theorem k74_29 : z_op 74 29 = o_get 10 6 := rfl
theorem k74_32 : z_op 74 32 = o_const 1 (.int (3)) := rfl
theorem k74_33 : z_op 74 33 = o_iload 1 1 := rfl
theorem k74_34 : z_op 74 34 = o_ib (fun x y => x * y) := rfl
theorem k74_35 : z_op 74 35 = o_aload 1 0 := rfl
theorem k74_36 : z_op 74 36 = o_get 10 5 := rfl
theorem k74_39 : z_op 74 39 = o_iload 1 1 := rfl
theorem k74_40 : z_op 74 40 = o_ald .int := rfl
theorem k74_41 : z_op 74 41 = o_ib (fun x y => x + y) := rfl
theorem k74_42 : z_op 74 42 = o_iload 1 2 := rfl
theorem k74_43 : z_op 74 43 = o_aast .int := rfl
theorem k74_44 : z_op 74 44 = o_aload 1 0 := rfl
theorem k74_45 : z_op 74 45 = o_get 10 5 := rfl
theorem k74_48 : z_op 74 48 = o_iload 1 1 := rfl
theorem k74_49 : z_op 74 49 = o_dup2 := rfl
theorem k74_50 : z_op 74 50 = o_ald .int := rfl
theorem k74_51 : z_op 74 51 = o_const 1 (.int (1)) := rfl
theorem k74_52 : z_op 74 52 = o_ib (fun x y => x + y) := rfl
theorem k74_53 : z_op 74 53 = o_aast .int := rfl
theorem k74_54 : z_op 74 54 = o_const 1 (.int (1)) := rfl
theorem k74_55 : z_op 74 55 = o_iret .boolean := rfl
theorem k75_0 : z_op 75 0 = o_const 1 (.int (-1)) := rfl
theorem k75_1 : z_op 75 1 = o_ist 1 2 false := rfl
theorem k75_2 : z_op 75 2 = o_const 2 (.int (8)) := rfl
theorem k75_4 : z_op 75 4 = o_iload 1 1 := rfl
theorem k75_5 : z_op 75 5 = o_ib (fun x y => x * y) := rfl
theorem k75_6 : z_op 75 6 = o_ist 1 3 false := rfl
theorem k75_7 : z_op 75 7 = o_iload 1 3 := rfl
theorem k75_8 : z_op 75 8 = o_const 2 (.int (8)) := rfl
theorem k75_10 : z_op 75 10 = o_iload 1 1 := rfl
theorem k75_11 : z_op 75 11 = o_ib (fun x y => x * y) := rfl
theorem k75_12 : z_op 75 12 = o_aload 1 0 := rfl
theorem k75_13 : z_op 75 13 = o_get 10 13 := rfl
theorem k75_16 : z_op 75 16 = o_iload 1 1 := rfl
theorem k75_17 : z_op 75 17 = o_ald .int := rfl
theorem k75_18 : z_op 75 18 = o_ib (fun x y => x + y) := rfl
theorem k75_19 : z_op 75 19 = o_ic (fun x y => y ≤ x) 45 := rfl
theorem k75_22 : z_op 75 22 = o_aload 1 0 := rfl
theorem k75_23 : z_op 75 23 = o_get 10 15 := rfl
theorem k75_26 : z_op 75 26 = o_iload 1 3 := rfl
theorem k75_27 : z_op 75 27 = o_ald .int := rfl
theorem k75_28 : z_op 75 28 = o_const 2 (.int (6)) := rfl
theorem k75_30 : z_op 75 30 = o_ic (fun x y => ¬ x = y) 37 := rfl
theorem k75_33 : z_op 75 33 = o_iload 1 3 := rfl
theorem k75_34 : z_op 75 34 = o_goto 38 := rfl
theorem k75_37 : z_op 75 37 = o_iload 1 2 := rfl
theorem k75_38 : z_op 75 38 = o_ist 1 2 false := rfl
theorem k75_39 : z_op 75 39 = o_iinc 3 (1) := rfl
theorem k75_42 : z_op 75 42 = o_goto 7 := rfl
theorem k75_45 : z_op 75 45 = o_iload 1 2 := rfl
theorem k75_46 : z_op 75 46 = o_iret .int := rfl
theorem k76_0 : z_op 76 0 = o_aload 1 0 := rfl
theorem k76_1 : z_op 76 1 = o_iload 1 1 := rfl
theorem k76_2 : z_op 76 2 = o_cv 71 10 1 := rfl
theorem k76_5 : z_op 76 5 = o_if (fun x => ¬ x = 0) 34 := rfl
theorem k76_8 : z_op 76 8 = o_iload 1 3 := rfl
theorem k76_9 : z_op 76 9 = o_if (fun x => x < 0) 34 := rfl
theorem k76_12 : z_op 76 12 = o_iload 1 3 := rfl
theorem k76_13 : z_op 76 13 = o_const 2 (.int (6)) := rfl
theorem k76_15 : z_op 76 15 = o_ic (fun x y => y < x) 34 := rfl
theorem k76_18 : z_op 76 18 = o_iload 1 3 := rfl
theorem k76_19 : z_op 76 19 = o_const 2 (.int (6)) := rfl
theorem k76_21 : z_op 76 21 = o_ic (fun x y => x = y) 36 := rfl
theorem k76_24 : z_op 76 24 = o_iload 1 2 := rfl
theorem k76_25 : z_op 76 25 = o_const 1 (.int (1)) := rfl
theorem k76_26 : z_op 76 26 = o_ic (fun x y => x < y) 34 := rfl
theorem k76_29 : z_op 76 29 = o_iload 1 2 := rfl
theorem k76_30 : z_op 76 30 = o_const 1 (.int (4)) := rfl
theorem k76_31 : z_op 76 31 = o_ic (fun x y => x ≤ y) 36 := rfl
theorem k76_34 : z_op 76 34 = o_const 1 (.int (-1)) := rfl
theorem k76_35 : z_op 76 35 = o_iret .int := rfl
theorem k76_36 : z_op 76 36 = o_iload 1 3 := rfl
theorem k76_37 : z_op 76 37 = o_const 1 (.int (2)) := rfl
theorem k76_38 : z_op 76 38 = o_ic (fun x y => x < y) 56 := rfl
theorem k76_41 : z_op 76 41 = o_iload 2 4 := rfl
theorem k76_43 : z_op 76 43 = o_const 1 (.int (-1)) := rfl
theorem k76_44 : z_op 76 44 = o_ic (fun x y => x = y) 56 := rfl
theorem k76_47 : z_op 76 47 = o_aload 1 0 := rfl
theorem k76_48 : z_op 76 48 = o_iload 2 4 := rfl
theorem k76_50 : z_op 76 50 = o_cv 71 10 1 := rfl
theorem k76_53 : z_op 76 53 = o_if (fun x => ¬ x = 0) 78 := rfl
theorem k76_56 : z_op 76 56 = o_iload 1 3 := rfl
theorem k76_57 : z_op 76 57 = o_const 1 (.int (1)) := rfl
theorem k76_58 : z_op 76 58 = o_ic (fun x y => x < y) 80 := rfl
theorem k76_61 : z_op 76 61 = o_iload 1 3 := rfl
theorem k76_62 : z_op 76 62 = o_const 1 (.int (3)) := rfl
theorem k76_63 : z_op 76 63 = o_ic (fun x y => y < x) 80 := rfl
theorem k76_66 : z_op 76 66 = o_iload 2 5 := rfl
theorem k76_68 : z_op 76 68 = o_if (fun x => x < 0) 78 := rfl
theorem k76_71 : z_op 76 71 = o_iload 2 5 := rfl
theorem k76_73 : z_op 76 73 = o_const 2 (.int (32)) := rfl
theorem k76_75 : z_op 76 75 = o_ic (fun x y => x ≤ y) 80 := rfl
theorem k76_78 : z_op 76 78 = o_const 1 (.int (-1)) := rfl
theorem k76_79 : z_op 76 79 = o_iret .int := rfl
theorem k76_80 : z_op 76 80 = o_aload 1 0 := rfl
theorem k76_81 : z_op 76 81 = o_get 10 13 := rfl
theorem k76_84 : z_op 76 84 = o_iload 1 1 := rfl
theorem k76_85 : z_op 76 85 = o_ald .int := rfl
theorem k76_86 : z_op 76 86 = o_const 2 (.int (8)) := rfl
theorem k76_88 : z_op 76 88 = o_ic (fun x y => x = y) 105 := rfl
theorem k76_91 : z_op 76 91 = o_iload 1 3 := rfl
theorem k76_92 : z_op 76 92 = o_const 2 (.int (6)) := rfl
theorem k76_94 : z_op 76 94 = o_ic (fun x y => ¬ x = y) 108 := rfl
theorem k76_97 : z_op 76 97 = o_aload 1 0 := rfl
theorem k76_98 : z_op 76 98 = o_iload 1 1 := rfl
theorem k76_99 : z_op 76 99 = o_cv 75 10 1 := rfl
theorem k76_102 : z_op 76 102 = o_if (fun x => x < 0) 108 := rfl
theorem k76_105 : z_op 76 105 = o_const 2 (.int (-2)) := rfl
theorem k76_107 : z_op 76 107 = o_iret .int := rfl
theorem k76_108 : z_op 76 108 = o_const 2 (.int (8)) := rfl
theorem k76_110 : z_op 76 110 = o_iload 1 1 := rfl
theorem k76_111 : z_op 76 111 = o_ib (fun x y => x * y) := rfl
theorem k76_112 : z_op 76 112 = o_aload 1 0 := rfl
theorem k76_113 : z_op 76 113 = o_get 10 13 := rfl
theorem k76_116 : z_op 76 116 = o_iload 1 1 := rfl
theorem k76_117 : z_op 76 117 = o_ald .int := rfl
theorem k76_118 : z_op 76 118 = o_ib (fun x y => x + y) := rfl
theorem k76_119 : z_op 76 119 = o_ist 2 6 false := rfl
theorem k76_121 : z_op 76 121 = o_aload 1 0 := rfl
theorem k76_122 : z_op 76 122 = o_get 10 14 := rfl
theorem k76_125 : z_op 76 125 = o_iload 2 6 := rfl
theorem k76_127 : z_op 76 127 = o_iload 1 2 := rfl
theorem k76_128 : z_op 76 128 = o_aast .int := rfl
theorem k76_129 : z_op 76 129 = o_aload 1 0 := rfl
theorem k76_130 : z_op 76 130 = o_get 10 15 := rfl
theorem k76_133 : z_op 76 133 = o_iload 2 6 := rfl
theorem k76_135 : z_op 76 135 = o_iload 1 3 := rfl
theorem k76_136 : z_op 76 136 = o_aast .int := rfl
theorem k76_137 : z_op 76 137 = o_aload 1 0 := rfl
theorem k76_138 : z_op 76 138 = o_get 10 16 := rfl
theorem k76_141 : z_op 76 141 = o_iload 2 6 := rfl
theorem k76_143 : z_op 76 143 = o_iload 1 3 := rfl
theorem k76_144 : z_op 76 144 = o_const 1 (.int (2)) := rfl
theorem k76_145 : z_op 76 145 = o_ic (fun x y => x < y) 158 := rfl
theorem k76_148 : z_op 76 148 = o_iload 2 4 := rfl
theorem k76_150 : z_op 76 150 = o_const 1 (.int (-1)) := rfl
theorem k76_151 : z_op 76 151 = o_ic (fun x y => ¬ x = y) 158 := rfl
theorem k76_154 : z_op 76 154 = o_iload 1 1 := rfl
theorem k76_155 : z_op 76 155 = o_goto 160 := rfl
theorem k76_158 : z_op 76 158 = o_iload 2 4 := rfl
theorem k76_160 : z_op 76 160 = o_aast .int := rfl
theorem k76_161 : z_op 76 161 = o_aload 1 0 := rfl
theorem k76_162 : z_op 76 162 = o_get 10 17 := rfl
theorem k76_165 : z_op 76 165 = o_iload 2 6 := rfl
theorem k76_167 : z_op 76 167 = o_iload 2 5 := rfl
theorem k76_169 : z_op 76 169 = o_aast .int := rfl
theorem k76_170 : z_op 76 170 = o_aload 1 0 := rfl
theorem k76_171 : z_op 76 171 = o_get 10 13 := rfl
theorem k76_174 : z_op 76 174 = o_iload 1 1 := rfl
theorem k76_175 : z_op 76 175 = o_dup2 := rfl
theorem k76_176 : z_op 76 176 = o_ald .int := rfl
theorem k76_177 : z_op 76 177 = o_const 1 (.int (1)) := rfl
theorem k76_178 : z_op 76 178 = o_ib (fun x y => x + y) := rfl
theorem k76_179 : z_op 76 179 = o_aast .int := rfl
theorem k76_180 : z_op 76 180 = o_aload 1 0 := rfl
theorem k76_181 : z_op 76 181 = o_get 10 13 := rfl
theorem k76_184 : z_op 76 184 = o_iload 1 1 := rfl
theorem k76_185 : z_op 76 185 = o_ald .int := rfl
theorem k76_186 : z_op 76 186 = o_iret .int := rfl
theorem k77_0 : z_op 77 0 = o_aload 1 0 := rfl
theorem k77_1 : z_op 77 1 = o_iload 1 1 := rfl
theorem k77_2 : z_op 77 2 = o_cv 71 10 1 := rfl
theorem k77_5 : z_op 77 5 = o_if (fun x => ¬ x = 0) 18 := rfl
theorem k77_8 : z_op 77 8 = o_iload 1 2 := rfl
theorem k77_9 : z_op 77 9 = o_const 1 (.int (2)) := rfl
theorem k77_10 : z_op 77 10 = o_ic (fun x y => x < y) 18 := rfl
theorem k77_13 : z_op 77 13 = o_iload 1 3 := rfl
theorem k77_14 : z_op 77 14 = o_const 1 (.int (1)) := rfl
theorem k77_15 : z_op 77 15 = o_ic (fun x y => y ≤ x) 20 := rfl
theorem k77_18 : z_op 77 18 = o_const 1 (.int (0)) := rfl
theorem k77_19 : z_op 77 19 = o_iret .boolean := rfl
theorem k77_20 : z_op 77 20 = o_aload 1 0 := rfl
theorem k77_21 : z_op 77 21 = o_get 10 7 := rfl
theorem k77_24 : z_op 77 24 = o_iload 1 1 := rfl
theorem k77_25 : z_op 77 25 = o_iload 1 2 := rfl
theorem k77_26 : z_op 77 26 = o_aast .int := rfl
theorem k77_27 : z_op 77 27 = o_aload 1 0 := rfl
theorem k77_28 : z_op 77 28 = o_get 10 8 := rfl
theorem k77_31 : z_op 77 31 = o_iload 1 1 := rfl
theorem k77_32 : z_op 77 32 = o_iload 1 3 := rfl
theorem k77_33 : z_op 77 33 = o_aast .int := rfl
theorem k77_34 : z_op 77 34 = o_const 1 (.int (1)) := rfl
theorem k77_35 : z_op 77 35 = o_iret .boolean := rfl
theorem k78_0 : z_op 78 0 = o_aload 1 0 := rfl
theorem k78_1 : z_op 78 1 = o_iload 1 1 := rfl
theorem k78_2 : z_op 78 2 = o_cv 71 10 1 := rfl
theorem k78_5 : z_op 78 5 = o_if (fun x => ¬ x = 0) 26 := rfl
theorem k78_8 : z_op 78 8 = o_iload 1 2 := rfl
theorem k78_9 : z_op 78 9 = o_if (fun x => x < 0) 26 := rfl
theorem k78_12 : z_op 78 12 = o_iload 1 2 := rfl
theorem k78_13 : z_op 78 13 = o_const 1 (.int (2)) := rfl
theorem k78_14 : z_op 78 14 = o_ic (fun x y => y < x) 26 := rfl
theorem k78_17 : z_op 78 17 = o_iload 1 3 := rfl
theorem k78_18 : z_op 78 18 = o_if (fun x => x < 0) 26 := rfl
theorem k78_21 : z_op 78 21 = o_iload 1 3 := rfl
theorem k78_22 : z_op 78 22 = o_const 1 (.int (2)) := rfl
theorem k78_23 : z_op 78 23 = o_ic (fun x y => x ≤ y) 28 := rfl
theorem k78_26 : z_op 78 26 = o_const 1 (.int (0)) := rfl
theorem k78_27 : z_op 78 27 = o_iret .boolean := rfl
theorem k78_28 : z_op 78 28 = o_aload 1 0 := rfl
theorem k78_29 : z_op 78 29 = o_get 10 9 := rfl
theorem k78_32 : z_op 78 32 = o_iload 1 1 := rfl
theorem k78_33 : z_op 78 33 = o_iload 1 2 := rfl
theorem k78_34 : z_op 78 34 = o_aast .int := rfl
theorem k78_35 : z_op 78 35 = o_aload 1 0 := rfl
theorem k78_36 : z_op 78 36 = o_get 10 10 := rfl
theorem k78_39 : z_op 78 39 = o_iload 1 1 := rfl
theorem k78_40 : z_op 78 40 = o_iload 1 3 := rfl
theorem k78_41 : z_op 78 41 = o_aast .int := rfl
theorem k78_42 : z_op 78 42 = o_aload 1 0 := rfl
theorem k78_43 : z_op 78 43 = o_get 10 11 := rfl
theorem k78_46 : z_op 78 46 = o_iload 1 1 := rfl
theorem k78_47 : z_op 78 47 = o_iload 2 4 := rfl
theorem k78_49 : z_op 78 49 = o_aast .boolean := rfl
theorem k78_50 : z_op 78 50 = o_aload 1 0 := rfl
theorem k78_51 : z_op 78 51 = o_get 10 12 := rfl
theorem k78_54 : z_op 78 54 = o_iload 1 1 := rfl
theorem k78_55 : z_op 78 55 = o_iload 2 5 := rfl
theorem k78_57 : z_op 78 57 = o_aast .boolean := rfl
theorem k78_58 : z_op 78 58 = o_const 1 (.int (1)) := rfl
theorem k78_59 : z_op 78 59 = o_iret .boolean := rfl
theorem k79_0 : z_op 79 0 = o_const 1 (.int (1)) := rfl
theorem k79_1 : z_op 79 1 = o_ist 2 4 false := rfl
theorem k79_3 : z_op 79 3 = o_const 1 (.int (0)) := rfl
theorem k79_4 : z_op 79 4 = o_ist 2 5 false := rfl
theorem k79_6 : z_op 79 6 = o_iload 2 5 := rfl
theorem k79_8 : z_op 79 8 = o_iload 1 3 := rfl
theorem k79_9 : z_op 79 9 = o_ic (fun x y => y ≤ x) 51 := rfl
theorem k79_12 : z_op 79 12 = o_iload 2 4 := rfl
theorem k79_14 : z_op 79 14 = o_if (fun x => x = 0) 42 := rfl
theorem k79_17 : z_op 79 17 = o_iload 1 1 := rfl
theorem k79_18 : z_op 79 18 = o_const 2 (.int (31)) := rfl
theorem k79_20 : z_op 79 20 = o_iload 2 5 := rfl
theorem k79_22 : z_op 79 22 = o_ib (fun x y => x - y) := rfl
theorem k79_23 : z_op 79 23 = o_ib (fun x y => x >>> (y &&& 31)) := rfl
theorem k79_24 : z_op 79 24 = o_const 1 (.int (1)) := rfl
theorem k79_25 : z_op 79 25 = o_ib (fun x y => x &&& y) := rfl
theorem k79_26 : z_op 79 26 = o_iload 1 2 := rfl
theorem k79_27 : z_op 79 27 = o_const 2 (.int (31)) := rfl
theorem k79_29 : z_op 79 29 = o_iload 2 5 := rfl
theorem k79_31 : z_op 79 31 = o_ib (fun x y => x - y) := rfl
theorem k79_32 : z_op 79 32 = o_ib (fun x y => x >>> (y &&& 31)) := rfl
theorem k79_33 : z_op 79 33 = o_const 1 (.int (1)) := rfl
theorem k79_34 : z_op 79 34 = o_ib (fun x y => x &&& y) := rfl
theorem k79_35 : z_op 79 35 = o_ic (fun x y => ¬ x = y) 42 := rfl
theorem k79_38 : z_op 79 38 = o_const 1 (.int (1)) := rfl
theorem k79_39 : z_op 79 39 = o_goto 43 := rfl
theorem k79_42 : z_op 79 42 = o_const 1 (.int (0)) := rfl
theorem k79_43 : z_op 79 43 = o_ist 2 4 false := rfl
theorem k79_45 : z_op 79 45 = o_iinc 5 (1) := rfl
theorem k79_48 : z_op 79 48 = o_goto 6 := rfl
theorem k79_51 : z_op 79 51 = o_iload 2 4 := rfl
theorem k79_53 : z_op 79 53 = o_iret .boolean := rfl
theorem k80_0 : z_op 80 0 = o_aload 1 0 := rfl
theorem k80_1 : z_op 80 1 = o_aload 1 0 := rfl
theorem k80_2 : z_op 80 2 = o_get 10 20 := rfl
theorem k80_5 : z_op 80 5 = o_if (fun x => ¬ x = 0) 17 := rfl
theorem k80_8 : z_op 80 8 = o_aload 1 0 := rfl
theorem k80_9 : z_op 80 9 = o_get 10 18 := rfl
theorem k80_12 : z_op 80 12 = o_const 2 (.int (10)) := rfl
theorem k80_14 : z_op 80 14 = o_ic (fun x y => ¬ x = y) 21 := rfl
theorem k80_17 : z_op 80 17 = o_const 1 (.int (1)) := rfl
theorem k80_18 : z_op 80 18 = o_goto 22 := rfl
theorem k80_21 : z_op 80 21 = o_const 1 (.int (0)) := rfl
theorem k80_22 : z_op 80 22 = o_put 10 20 .boolean := rfl
theorem k80_25 : z_op 80 25 = o_aload 1 0 := rfl
theorem k80_26 : z_op 80 26 = o_aload 1 0 := rfl
theorem k80_27 : z_op 80 27 = o_get 10 20 := rfl
theorem k80_30 : z_op 80 30 = o_if (fun x => x = 0) 40 := rfl
theorem k80_33 : z_op 80 33 = o_aload 1 0 := rfl
theorem k80_34 : z_op 80 34 = o_get 10 18 := rfl
theorem k80_37 : z_op 80 37 = o_goto 46 := rfl
theorem k80_40 : z_op 80 40 = o_aload 1 0 := rfl
theorem k80_41 : z_op 80 41 = o_get 10 18 := rfl
theorem k80_44 : z_op 80 44 = o_const 1 (.int (1)) := rfl
theorem k80_45 : z_op 80 45 = o_ib (fun x y => x + y) := rfl
theorem k80_46 : z_op 80 46 = o_put 10 18 .int := rfl
theorem k80_49 : z_op 80 49 = o_aload 1 0 := rfl
theorem k80_50 : z_op 80 50 = o_get 10 20 := rfl
theorem k80_53 : z_op 80 53 = o_if (fun x => ¬ x = 0) 60 := rfl
theorem k80_56 : z_op 80 56 = o_const 1 (.int (1)) := rfl
theorem k80_57 : z_op 80 57 = o_goto 61 := rfl
theorem k80_60 : z_op 80 60 = o_const 1 (.int (0)) := rfl
theorem k80_61 : z_op 80 61 = o_iret .boolean := rfl
theorem k81_0 : z_op 81 0 = o_aload 1 0 := rfl
theorem k81_1 : z_op 81 1 = o_aload 1 0 := rfl
theorem k81_2 : z_op 81 2 = o_get 10 20 := rfl
theorem k81_5 : z_op 81 5 = o_if (fun x => ¬ x = 0) 16 := rfl
theorem k81_8 : z_op 81 8 = o_aload 1 0 := rfl
theorem k81_9 : z_op 81 9 = o_get 10 19 := rfl
theorem k81_12 : z_op 81 12 = o_const 1 (.int (2)) := rfl
theorem k81_13 : z_op 81 13 = o_ic (fun x y => ¬ x = y) 20 := rfl
theorem k81_16 : z_op 81 16 = o_const 1 (.int (1)) := rfl
theorem k81_17 : z_op 81 17 = o_goto 21 := rfl
theorem k81_20 : z_op 81 20 = o_const 1 (.int (0)) := rfl
theorem k81_21 : z_op 81 21 = o_put 10 20 .boolean := rfl
theorem k81_24 : z_op 81 24 = o_aload 1 0 := rfl
theorem k81_25 : z_op 81 25 = o_aload 1 0 := rfl
theorem k81_26 : z_op 81 26 = o_get 10 20 := rfl
theorem k81_29 : z_op 81 29 = o_if (fun x => x = 0) 39 := rfl
theorem k81_32 : z_op 81 32 = o_aload 1 0 := rfl
theorem k81_33 : z_op 81 33 = o_get 10 19 := rfl
theorem k81_36 : z_op 81 36 = o_goto 45 := rfl
theorem k81_39 : z_op 81 39 = o_aload 1 0 := rfl
theorem k81_40 : z_op 81 40 = o_get 10 19 := rfl
theorem k81_43 : z_op 81 43 = o_const 1 (.int (1)) := rfl
theorem k81_44 : z_op 81 44 = o_ib (fun x y => x + y) := rfl
theorem k81_45 : z_op 81 45 = o_put 10 19 .int := rfl
theorem k81_48 : z_op 81 48 = o_aload 1 0 := rfl
theorem k81_49 : z_op 81 49 = o_get 10 20 := rfl
theorem k81_52 : z_op 81 52 = o_if (fun x => ¬ x = 0) 59 := rfl
theorem k81_55 : z_op 81 55 = o_const 1 (.int (1)) := rfl
theorem k81_56 : z_op 81 56 = o_goto 60 := rfl
theorem k81_59 : z_op 81 59 = o_const 1 (.int (0)) := rfl
theorem k81_60 : z_op 81 60 = o_iret .boolean := rfl
theorem k82_0 : z_op 82 0 = o_const 1 (.int (0)) := rfl
theorem k82_1 : z_op 82 1 = o_ist 2 4 false := rfl
theorem k82_3 : z_op 82 3 = o_const 1 (.int (0)) := rfl
theorem k82_4 : z_op 82 4 = o_ist 2 5 false := rfl
theorem k82_6 : z_op 82 6 = o_iload 2 5 := rfl
theorem k82_8 : z_op 82 8 = o_aload 1 0 := rfl
theorem k82_9 : z_op 82 9 = o_get 10 3 := rfl
theorem k82_12 : z_op 82 12 = o_iload 1 2 := rfl
theorem k82_13 : z_op 82 13 = o_ald .int := rfl
theorem k82_14 : z_op 82 14 = o_ic (fun x y => y ≤ x) 55 := rfl
theorem k82_17 : z_op 82 17 = o_iload 2 4 := rfl
theorem k82_19 : z_op 82 19 = o_if (fun x => ¬ x = 0) 42 := rfl
theorem k82_22 : z_op 82 22 = o_aload 1 0 := rfl
theorem k82_23 : z_op 82 23 = o_iload 1 1 := rfl
theorem k82_24 : z_op 82 24 = o_aload 1 0 := rfl
theorem k82_25 : z_op 82 25 = o_get 10 4 := rfl
theorem k82_28 : z_op 82 28 = o_const 1 (.int (3)) := rfl
theorem k82_29 : z_op 82 29 = o_iload 1 2 := rfl
theorem k82_30 : z_op 82 30 = o_ib (fun x y => x * y) := rfl
theorem k82_31 : z_op 82 31 = o_iload 2 5 := rfl
theorem k82_33 : z_op 82 33 = o_ib (fun x y => x + y) := rfl
theorem k82_34 : z_op 82 34 = o_ald .int := rfl
theorem k82_35 : z_op 82 35 = o_iload 1 3 := rfl
theorem k82_36 : z_op 82 36 = o_cv 79 10 3 := rfl
theorem k82_39 : z_op 82 39 = o_if (fun x => x = 0) 46 := rfl
theorem k82_42 : z_op 82 42 = o_const 1 (.int (1)) := rfl
theorem k82_43 : z_op 82 43 = o_goto 47 := rfl
theorem k82_46 : z_op 82 46 = o_const 1 (.int (0)) := rfl
theorem k82_47 : z_op 82 47 = o_ist 2 4 false := rfl
theorem k82_49 : z_op 82 49 = o_iinc 5 (1) := rfl
theorem k82_52 : z_op 82 52 = o_goto 6 := rfl
theorem k82_55 : z_op 82 55 = o_iload 2 4 := rfl
theorem k82_57 : z_op 82 57 = o_iret .boolean := rfl
theorem k83_0 : z_op 83 0 = o_aload 1 0 := rfl
theorem k83_1 : z_op 83 1 = o_get 10 15 := rfl
theorem k83_4 : z_op 83 4 = o_iload 1 2 := rfl
theorem k83_5 : z_op 83 5 = o_ald .int := rfl
theorem k83_6 : z_op 83 6 = o_if (fun x => ¬ x = 0) 11 := rfl
theorem k83_9 : z_op 83 9 = o_const 1 (.int (1)) := rfl
theorem k83_10 : z_op 83 10 = o_iret .boolean := rfl
theorem k83_11 : z_op 83 11 = o_aload 1 0 := rfl
theorem k83_12 : z_op 83 12 = o_get 10 15 := rfl
theorem k83_15 : z_op 83 15 = o_iload 1 2 := rfl
theorem k83_16 : z_op 83 16 = o_ald .int := rfl
theorem k83_17 : z_op 83 17 = o_const 1 (.int (1)) := rfl
theorem k83_18 : z_op 83 18 = o_ic (fun x y => ¬ x = y) 39 := rfl
theorem k83_21 : z_op 83 21 = o_aload 1 0 := rfl
theorem k83_22 : z_op 83 22 = o_iload 1 1 := rfl
theorem k83_23 : z_op 83 23 = o_aload 1 0 := rfl
theorem k83_24 : z_op 83 24 = o_get 10 16 := rfl
theorem k83_27 : z_op 83 27 = o_iload 1 2 := rfl
theorem k83_28 : z_op 83 28 = o_ald .int := rfl
theorem k83_29 : z_op 83 29 = o_aload 1 0 := rfl
theorem k83_30 : z_op 83 30 = o_get 10 17 := rfl
theorem k83_33 : z_op 83 33 = o_iload 1 2 := rfl
theorem k83_34 : z_op 83 34 = o_ald .int := rfl
theorem k83_35 : z_op 83 35 = o_cv 79 10 3 := rfl
theorem k83_38 : z_op 83 38 = o_iret .boolean := rfl
theorem k83_39 : z_op 83 39 = o_aload 1 0 := rfl
theorem k83_40 : z_op 83 40 = o_get 10 16 := rfl
theorem k83_43 : z_op 83 43 = o_iload 1 2 := rfl
theorem k83_44 : z_op 83 44 = o_ald .int := rfl
theorem k83_45 : z_op 83 45 = o_ist 1 3 false := rfl
theorem k83_46 : z_op 83 46 = o_aload 1 0 := rfl
theorem k83_47 : z_op 83 47 = o_cv 80 10 0 := rfl
theorem k83_50 : z_op 83 50 = o_if (fun x => ¬ x = 0) 55 := rfl
theorem k83_53 : z_op 83 53 = o_const 1 (.int (0)) := rfl
theorem k83_54 : z_op 83 54 = o_iret .boolean := rfl
theorem k83_55 : z_op 83 55 = o_aload 1 0 := rfl
theorem k83_56 : z_op 83 56 = o_get 10 15 := rfl
theorem k83_59 : z_op 83 59 = o_iload 1 2 := rfl
theorem k83_60 : z_op 83 60 = o_ald .int := rfl
theorem k83_61 : z_op 83 61 = o_const 1 (.int (3)) := rfl
theorem k83_62 : z_op 83 62 = o_ic (fun x y => x = y) 131 := rfl
theorem k83_65 : z_op 83 65 = o_aload 1 0 := rfl
theorem k83_66 : z_op 83 66 = o_get 10 3 := rfl
theorem k83_69 : z_op 83 69 = o_iload 1 3 := rfl
theorem k83_70 : z_op 83 70 = o_ald .int := rfl
theorem k83_71 : z_op 83 71 = o_if (fun x => 0 < x) 81 := rfl
theorem k83_74 : z_op 83 74 = o_aload 1 0 := rfl
theorem k83_75 : z_op 83 75 = o_cv 81 10 0 := rfl
theorem k83_78 : z_op 83 78 = o_if (fun x => ¬ x = 0) 85 := rfl
theorem k83_81 : z_op 83 81 = o_const 1 (.int (1)) := rfl
theorem k83_82 : z_op 83 82 = o_goto 86 := rfl
theorem k83_85 : z_op 83 85 = o_const 1 (.int (0)) := rfl
theorem k83_86 : z_op 83 86 = o_ist 2 4 false := rfl
theorem k83_88 : z_op 83 88 = o_aload 1 0 := rfl
theorem k83_89 : z_op 83 89 = o_get 10 20 := rfl
theorem k83_92 : z_op 83 92 = o_if (fun x => ¬ x = 0) 129 := rfl
theorem k83_95 : z_op 83 95 = o_iload 2 4 := rfl
theorem k83_97 : z_op 83 97 = o_if (fun x => x = 0) 129 := rfl
theorem k83_100 : z_op 83 100 = o_aload 1 0 := rfl
theorem k83_101 : z_op 83 101 = o_get 10 15 := rfl
theorem k83_104 : z_op 83 104 = o_iload 1 2 := rfl
theorem k83_105 : z_op 83 105 = o_ald .int := rfl
theorem k83_106 : z_op 83 106 = o_const 1 (.int (5)) := rfl
theorem k83_107 : z_op 83 107 = o_ic (fun x y => x = y) 125 := rfl
theorem k83_110 : z_op 83 110 = o_aload 1 0 := rfl
theorem k83_111 : z_op 83 111 = o_iload 1 1 := rfl
theorem k83_112 : z_op 83 112 = o_iload 1 3 := rfl
theorem k83_113 : z_op 83 113 = o_aload 1 0 := rfl
theorem k83_114 : z_op 83 114 = o_get 10 17 := rfl
theorem k83_117 : z_op 83 117 = o_iload 1 2 := rfl
theorem k83_118 : z_op 83 118 = o_ald .int := rfl
theorem k83_119 : z_op 83 119 = o_cv 82 10 3 := rfl
theorem k83_122 : z_op 83 122 = o_if (fun x => x = 0) 129 := rfl
theorem k83_125 : z_op 83 125 = o_const 1 (.int (1)) := rfl
theorem k83_126 : z_op 83 126 = o_goto 130 := rfl
theorem k83_129 : z_op 83 129 = o_const 1 (.int (0)) := rfl
theorem k83_130 : z_op 83 130 = o_iret .boolean := rfl
theorem k83_131 : z_op 83 131 = o_aload 1 0 := rfl
theorem k83_132 : z_op 83 132 = o_get 10 5 := rfl
theorem k83_135 : z_op 83 135 = o_iload 1 3 := rfl
theorem k83_136 : z_op 83 136 = o_ald .int := rfl
theorem k83_137 : z_op 83 137 = o_if (fun x => ¬ x = 0) 148 := rfl
theorem k83_140 : z_op 83 140 = o_aload 1 0 := rfl
theorem k83_141 : z_op 83 141 = o_cv 81 10 0 := rfl
theorem k83_144 : z_op 83 144 = o_ist 2 4 false := rfl
theorem k83_146 : z_op 83 146 = o_const 1 (.int (0)) := rfl
theorem k83_147 : z_op 83 147 = o_iret .boolean := rfl
theorem k83_148 : z_op 83 148 = o_const 1 (.int (0)) := rfl
theorem k83_149 : z_op 83 149 = o_ist 2 4 false := rfl
theorem k83_151 : z_op 83 151 = o_const 1 (.int (0)) := rfl
theorem k83_152 : z_op 83 152 = o_ist 2 5 false := rfl
theorem k83_154 : z_op 83 154 = o_iload 2 5 := rfl
theorem k83_156 : z_op 83 156 = o_aload 1 0 := rfl
theorem k83_157 : z_op 83 157 = o_get 10 5 := rfl
theorem k83_160 : z_op 83 160 = o_iload 1 3 := rfl
theorem k83_161 : z_op 83 161 = o_ald .int := rfl
theorem k83_162 : z_op 83 162 = o_ic (fun x y => y ≤ x) 241 := rfl
theorem k83_165 : z_op 83 165 = o_iload 2 4 := rfl
theorem k83_167 : z_op 83 167 = o_if (fun x => ¬ x = 0) 241 := rfl
theorem k83_170 : z_op 83 170 = o_aload 1 0 := rfl
theorem k83_171 : z_op 83 171 = o_get 10 20 := rfl
theorem k83_174 : z_op 83 174 = o_if (fun x => ¬ x = 0) 241 := rfl
theorem k83_177 : z_op 83 177 = o_aload 1 0 := rfl
theorem k83_178 : z_op 83 178 = o_get 10 6 := rfl
theorem k83_181 : z_op 83 181 = o_const 1 (.int (3)) := rfl
theorem k83_182 : z_op 83 182 = o_iload 1 3 := rfl
theorem k83_183 : z_op 83 183 = o_ib (fun x y => x * y) := rfl
theorem k83_184 : z_op 83 184 = o_iload 2 5 := rfl
theorem k83_186 : z_op 83 186 = o_ib (fun x y => x + y) := rfl
theorem k83_187 : z_op 83 187 = o_ald .int := rfl
theorem k83_188 : z_op 83 188 = o_ist 2 6 false := rfl
theorem k83_190 : z_op 83 190 = o_aload 1 0 := rfl
theorem k83_191 : z_op 83 191 = o_get 10 3 := rfl
theorem k83_194 : z_op 83 194 = o_iload 2 6 := rfl
theorem k83_196 : z_op 83 196 = o_ald .int := rfl
theorem k83_197 : z_op 83 197 = o_if (fun x => ¬ x = 0) 204 := rfl
theorem k83_200 : z_op 83 200 = o_const 1 (.int (0)) := rfl
theorem k83_201 : z_op 83 201 = o_goto 217 := rfl
theorem k83_204 : z_op 83 204 = o_aload 1 0 := rfl
theorem k83_205 : z_op 83 205 = o_iload 1 1 := rfl
theorem k83_206 : z_op 83 206 = o_iload 2 6 := rfl
theorem k83_208 : z_op 83 208 = o_aload 1 0 := rfl
theorem k83_209 : z_op 83 209 = o_get 10 17 := rfl
theorem k83_212 : z_op 83 212 = o_iload 1 2 := rfl
theorem k83_213 : z_op 83 213 = o_ald .int := rfl
theorem k83_214 : z_op 83 214 = o_cv 82 10 3 := rfl
theorem k83_217 : z_op 83 217 = o_ist 2 4 false := rfl
theorem k83_219 : z_op 83 219 = o_aload 1 0 := rfl
theorem k83_220 : z_op 83 220 = o_get 10 3 := rfl
theorem k83_223 : z_op 83 223 = o_iload 2 6 := rfl
theorem k83_225 : z_op 83 225 = o_ald .int := rfl
theorem k83_226 : z_op 83 226 = o_if (fun x => ¬ x = 0) 235 := rfl
theorem k83_229 : z_op 83 229 = o_aload 1 0 := rfl
theorem k83_230 : z_op 83 230 = o_cv 81 10 0 := rfl
theorem k83_233 : z_op 83 233 = o_ist 2 7 false := rfl
theorem k83_235 : z_op 83 235 = o_iinc 5 (1) := rfl
theorem k83_238 : z_op 83 238 = o_goto 154 := rfl
theorem k83_241 : z_op 83 241 = o_iload 2 4 := rfl
theorem k83_243 : z_op 83 243 = o_if (fun x => x = 0) 257 := rfl
theorem k83_246 : z_op 83 246 = o_aload 1 0 := rfl
theorem k83_247 : z_op 83 247 = o_get 10 20 := rfl
theorem k83_250 : z_op 83 250 = o_if (fun x => ¬ x = 0) 257 := rfl
theorem k83_253 : z_op 83 253 = o_const 1 (.int (1)) := rfl
theorem k83_254 : z_op 83 254 = o_goto 258 := rfl
theorem k83_257 : z_op 83 257 = o_const 1 (.int (0)) := rfl
theorem k83_258 : z_op 83 258 = o_iret .boolean := rfl
theorem k84_0 : z_op 84 0 = o_aload 1 0 := rfl
theorem k84_1 : z_op 84 1 = o_get 10 21 := rfl
theorem k84_4 : z_op 84 4 = o_iload 1 1 := rfl
theorem k84_5 : z_op 84 5 = o_iload 1 2 := rfl
theorem k84_6 : z_op 84 6 = o_aast .int := rfl
theorem k84_7 : z_op 84 7 = o_aload 1 0 := rfl
theorem k84_8 : z_op 84 8 = o_get 10 22 := rfl
theorem k84_11 : z_op 84 11 = o_iload 1 1 := rfl
theorem k84_12 : z_op 84 12 = o_const 1 (.int (0)) := rfl
theorem k84_13 : z_op 84 13 = o_aast .int := rfl
theorem k84_14 : z_op 84 14 = o_aload 1 0 := rfl
theorem k84_15 : z_op 84 15 = o_get 10 23 := rfl
theorem k84_18 : z_op 84 18 = o_iload 1 1 := rfl
theorem k84_19 : z_op 84 19 = o_iload 1 3 := rfl
theorem k84_20 : z_op 84 20 = o_aast .boolean := rfl
theorem k84_21 : z_op 84 21 = o_vret := rfl
theorem k85_0 : z_op 85 0 = o_aload 1 0 := rfl
theorem k85_1 : z_op 85 1 = o_get 10 21 := rfl
theorem k85_4 : z_op 85 4 = o_iload 1 2 := rfl
theorem k85_5 : z_op 85 5 = o_ald .int := rfl
theorem k85_6 : z_op 85 6 = o_ist 1 3 false := rfl
theorem k85_7 : z_op 85 7 = o_aload 1 0 := rfl
theorem k85_8 : z_op 85 8 = o_get 10 13 := rfl
theorem k85_11 : z_op 85 11 = o_iload 1 3 := rfl
theorem k85_12 : z_op 85 12 = o_ald .int := rfl
theorem k85_13 : z_op 85 13 = o_if (fun x => ¬ x = 0) 28 := rfl
theorem k85_16 : z_op 85 16 = o_aload 1 0 := rfl
theorem k85_17 : z_op 85 17 = o_aload 1 0 := rfl
theorem k85_18 : z_op 85 18 = o_get 10 23 := rfl
theorem k85_21 : z_op 85 21 = o_iload 1 2 := rfl
theorem k85_22 : z_op 85 22 = o_ald .boolean := rfl
theorem k85_23 : z_op 85 23 = o_put 10 20 .boolean := rfl
theorem k85_26 : z_op 85 26 = o_const 1 (.int (0)) := rfl
theorem k85_27 : z_op 85 27 = o_iret .int := rfl
theorem k85_28 : z_op 85 28 = o_const 2 (.int (8)) := rfl
theorem k85_30 : z_op 85 30 = o_iload 1 3 := rfl
theorem k85_31 : z_op 85 31 = o_ib (fun x y => x * y) := rfl
theorem k85_32 : z_op 85 32 = o_aload 1 0 := rfl
theorem k85_33 : z_op 85 33 = o_get 10 22 := rfl
theorem k85_36 : z_op 85 36 = o_iload 1 2 := rfl
theorem k85_37 : z_op 85 37 = o_ald .int := rfl
theorem k85_38 : z_op 85 38 = o_ib (fun x y => x + y) := rfl
theorem k85_39 : z_op 85 39 = o_ist 2 4 false := rfl
theorem k85_41 : z_op 85 41 = o_aload 1 0 := rfl
theorem k85_42 : z_op 85 42 = o_get 10 22 := rfl
theorem k85_45 : z_op 85 45 = o_iload 1 2 := rfl
theorem k85_46 : z_op 85 46 = o_ald .int := rfl
theorem k85_47 : z_op 85 47 = o_aload 1 0 := rfl
theorem k85_48 : z_op 85 48 = o_get 10 13 := rfl
theorem k85_51 : z_op 85 51 = o_iload 1 3 := rfl
theorem k85_52 : z_op 85 52 = o_ald .int := rfl
theorem k85_53 : z_op 85 53 = o_ic (fun x y => y ≤ x) 127 := rfl
theorem k85_56 : z_op 85 56 = o_aload 1 0 := rfl
theorem k85_57 : z_op 85 57 = o_get 10 22 := rfl
theorem k85_60 : z_op 85 60 = o_iload 1 2 := rfl
theorem k85_61 : z_op 85 61 = o_dup2 := rfl
theorem k85_62 : z_op 85 62 = o_ald .int := rfl
theorem k85_63 : z_op 85 63 = o_const 1 (.int (1)) := rfl
theorem k85_64 : z_op 85 64 = o_ib (fun x y => x + y) := rfl
theorem k85_65 : z_op 85 65 = o_aast .int := rfl
theorem k85_66 : z_op 85 66 = o_aload 1 0 := rfl
theorem k85_67 : z_op 85 67 = o_get 10 15 := rfl
theorem k85_70 : z_op 85 70 = o_iload 2 4 := rfl
theorem k85_72 : z_op 85 72 = o_ald .int := rfl
theorem k85_73 : z_op 85 73 = o_const 2 (.int (6)) := rfl
theorem k85_75 : z_op 85 75 = o_ic (fun x y => ¬ x = y) 80 := rfl
theorem k85_78 : z_op 85 78 = o_const 1 (.int (-1)) := rfl
theorem k85_79 : z_op 85 79 = o_iret .int := rfl
theorem k85_80 : z_op 85 80 = o_aload 1 0 := rfl
theorem k85_81 : z_op 85 81 = o_get 10 15 := rfl
theorem k85_84 : z_op 85 84 = o_iload 2 4 := rfl
theorem k85_86 : z_op 85 86 = o_ald .int := rfl
theorem k85_87 : z_op 85 87 = o_const 1 (.int (4)) := rfl
theorem k85_88 : z_op 85 88 = o_ic (fun x y => ¬ x = y) 105 := rfl
theorem k85_91 : z_op 85 91 = o_aload 1 0 := rfl
theorem k85_92 : z_op 85 92 = o_cv 80 10 0 := rfl
theorem k85_95 : z_op 85 95 = o_if (fun x => x = 0) 103 := rfl
theorem k85_98 : z_op 85 98 = o_const 2 (.int (-2)) := rfl
theorem k85_100 : z_op 85 100 = o_goto 104 := rfl
theorem k85_103 : z_op 85 103 = o_const 1 (.int (-1)) := rfl
theorem k85_104 : z_op 85 104 = o_iret .int := rfl
theorem k85_105 : z_op 85 105 = o_aload 1 0 := rfl
theorem k85_106 : z_op 85 106 = o_iload 1 1 := rfl
theorem k85_107 : z_op 85 107 = o_iload 2 4 := rfl
theorem k85_109 : z_op 85 109 = o_cv 83 10 2 := rfl
theorem k85_112 : z_op 85 112 = o_if (fun x => x = 0) 125 := rfl
theorem k85_115 : z_op 85 115 = o_aload 1 0 := rfl
theorem k85_116 : z_op 85 116 = o_get 10 14 := rfl
theorem k85_119 : z_op 85 119 = o_iload 2 4 := rfl
theorem k85_121 : z_op 85 121 = o_ald .int := rfl
theorem k85_122 : z_op 85 122 = o_goto 126 := rfl
theorem k85_125 : z_op 85 125 = o_const 1 (.int (-1)) := rfl
theorem k85_126 : z_op 85 126 = o_iret .int := rfl
theorem k85_127 : z_op 85 127 = o_aload 1 0 := rfl
theorem k85_128 : z_op 85 128 = o_iload 1 3 := rfl
theorem k85_129 : z_op 85 129 = o_cv 75 10 1 := rfl
theorem k85_132 : z_op 85 132 = o_ist 2 5 false := rfl
theorem k85_134 : z_op 85 134 = o_iload 2 5 := rfl
theorem k85_136 : z_op 85 136 = o_if (fun x => 0 ≤ x) 141 := rfl
theorem k85_139 : z_op 85 139 = o_const 1 (.int (1)) := rfl
theorem k85_140 : z_op 85 140 = o_iret .int := rfl
theorem k85_141 : z_op 85 141 = o_aload 1 0 := rfl
theorem k85_142 : z_op 85 142 = o_cv 80 10 0 := rfl
theorem k85_145 : z_op 85 145 = o_if (fun x => x = 0) 161 := rfl
theorem k85_148 : z_op 85 148 = o_aload 1 0 := rfl
theorem k85_149 : z_op 85 149 = o_iload 1 2 := rfl
theorem k85_150 : z_op 85 150 = o_aload 1 0 := rfl
theorem k85_151 : z_op 85 151 = o_get 10 16 := rfl
theorem k85_154 : z_op 85 154 = o_iload 2 5 := rfl
theorem k85_156 : z_op 85 156 = o_ald .int := rfl
theorem k85_157 : z_op 85 157 = o_const 1 (.int (1)) := rfl
theorem k85_158 : z_op 85 158 = o_cv 84 10 3 := rfl
theorem k85_161 : z_op 85 161 = o_const 1 (.int (-1)) := rfl
theorem k85_162 : z_op 85 162 = o_iret .int := rfl
theorem k86_0 : z_op 86 0 = o_aload 1 0 := rfl
theorem k86_1 : z_op 86 1 = o_const 1 (.int (0)) := rfl
theorem k86_2 : z_op 86 2 = o_put 10 18 .int := rfl
theorem k86_5 : z_op 86 5 = o_aload 1 0 := rfl
theorem k86_6 : z_op 86 6 = o_const 1 (.int (0)) := rfl
theorem k86_7 : z_op 86 7 = o_put 10 19 .int := rfl
theorem k86_10 : z_op 86 10 = o_aload 1 0 := rfl
theorem k86_11 : z_op 86 11 = o_const 1 (.int (0)) := rfl
theorem k86_12 : z_op 86 12 = o_put 10 20 .boolean := rfl
theorem k86_15 : z_op 86 15 = o_const 1 (.int (0)) := rfl
theorem k86_16 : z_op 86 16 = o_ist 1 3 false := rfl
theorem k86_17 : z_op 86 17 = o_const 1 (.int (-1)) := rfl
theorem k86_18 : z_op 86 18 = o_ist 2 4 false := rfl
theorem k86_20 : z_op 86 20 = o_aload 1 0 := rfl
theorem k86_21 : z_op 86 21 = o_const 1 (.int (0)) := rfl
theorem k86_22 : z_op 86 22 = o_iload 1 2 := rfl
theorem k86_23 : z_op 86 23 = o_const 1 (.int (0)) := rfl
theorem k86_24 : z_op 86 24 = o_cv 84 10 3 := rfl
theorem k86_27 : z_op 86 27 = o_const 1 (.int (0)) := rfl
theorem k86_28 : z_op 86 28 = o_ist 2 5 false := rfl
theorem k86_30 : z_op 86 30 = o_iload 2 5 := rfl
theorem k86_32 : z_op 86 32 = o_const 3 (.int (1000)) := rfl
theorem k86_35 : z_op 86 35 = o_ic (fun x y => y ≤ x) 187 := rfl
theorem k86_38 : z_op 86 38 = o_iload 1 3 := rfl
theorem k86_39 : z_op 86 39 = o_if (fun x => x < 0) 187 := rfl
theorem k86_42 : z_op 86 42 = o_aload 1 0 := rfl
theorem k86_43 : z_op 86 43 = o_get 10 20 := rfl
theorem k86_46 : z_op 86 46 = o_if (fun x => ¬ x = 0) 187 := rfl
theorem k86_49 : z_op 86 49 = o_aload 1 0 := rfl
theorem k86_50 : z_op 86 50 = o_iload 1 1 := rfl
theorem k86_51 : z_op 86 51 = o_iload 1 3 := rfl
theorem k86_52 : z_op 86 52 = o_cv 85 10 2 := rfl
theorem k86_55 : z_op 86 55 = o_ist 2 6 false := rfl
theorem k86_57 : z_op 86 57 = o_iload 2 6 := rfl
theorem k86_59 : z_op 86 59 = o_const 2 (.int (-2)) := rfl
theorem k86_61 : z_op 86 61 = o_ic (fun x y => ¬ x = y) 100 := rfl
theorem k86_64 : z_op 86 64 = o_const 2 (.int (8)) := rfl
theorem k86_66 : z_op 86 66 = o_aload 1 0 := rfl
theorem k86_67 : z_op 86 67 = o_get 10 21 := rfl
theorem k86_70 : z_op 86 70 = o_iload 1 3 := rfl
theorem k86_71 : z_op 86 71 = o_ald .int := rfl
theorem k86_72 : z_op 86 72 = o_ib (fun x y => x * y) := rfl
theorem k86_73 : z_op 86 73 = o_aload 1 0 := rfl
theorem k86_74 : z_op 86 74 = o_get 10 22 := rfl
theorem k86_77 : z_op 86 77 = o_iload 1 3 := rfl
theorem k86_78 : z_op 86 78 = o_ald .int := rfl
theorem k86_79 : z_op 86 79 = o_ib (fun x y => x + y) := rfl
theorem k86_80 : z_op 86 80 = o_const 1 (.int (1)) := rfl
theorem k86_81 : z_op 86 81 = o_ib (fun x y => x - y) := rfl
theorem k86_82 : z_op 86 82 = o_ist 2 7 false := rfl
theorem k86_84 : z_op 86 84 = o_iinc 3 (1) := rfl
theorem k86_87 : z_op 86 87 = o_aload 1 0 := rfl
theorem k86_88 : z_op 86 88 = o_iload 1 3 := rfl
theorem k86_89 : z_op 86 89 = o_aload 1 0 := rfl
theorem k86_90 : z_op 86 90 = o_get 10 16 := rfl
theorem k86_93 : z_op 86 93 = o_iload 2 7 := rfl
theorem k86_95 : z_op 86 95 = o_ald .int := rfl
theorem k86_96 : z_op 86 96 = o_const 1 (.int (0)) := rfl
theorem k86_97 : z_op 86 97 = o_cv 84 10 3 := rfl
theorem k86_100 : z_op 86 100 = o_iload 2 6 := rfl
theorem k86_102 : z_op 86 102 = o_if (fun x => x < 0) 181 := rfl
theorem k86_105 : z_op 86 105 = o_iload 1 3 := rfl
theorem k86_106 : z_op 86 106 = o_if (fun x => x < 0) 181 := rfl
theorem k86_109 : z_op 86 109 = o_aload 1 0 := rfl
theorem k86_110 : z_op 86 110 = o_get 10 20 := rfl
theorem k86_113 : z_op 86 113 = o_if (fun x => ¬ x = 0) 181 := rfl
theorem k86_116 : z_op 86 116 = o_iinc 3 (-1) := rfl
theorem k86_119 : z_op 86 119 = o_iload 1 3 := rfl
theorem k86_120 : z_op 86 120 = o_if (fun x => 0 ≤ x) 130 := rfl
theorem k86_123 : z_op 86 123 = o_iload 2 6 := rfl
theorem k86_125 : z_op 86 125 = o_ist 2 4 false := rfl
theorem k86_127 : z_op 86 127 = o_goto 100 := rfl
theorem k86_130 : z_op 86 130 = o_iload 2 6 := rfl
theorem k86_132 : z_op 86 132 = o_if (fun x => ¬ x = 0) 143 := rfl
theorem k86_135 : z_op 86 135 = o_aload 1 0 := rfl
theorem k86_136 : z_op 86 136 = o_const 1 (.int (1)) := rfl
theorem k86_137 : z_op 86 137 = o_put 10 20 .boolean := rfl
theorem k86_140 : z_op 86 140 = o_goto 100 := rfl
theorem k86_143 : z_op 86 143 = o_iload 2 6 := rfl
theorem k86_145 : z_op 86 145 = o_const 1 (.int (2)) := rfl
theorem k86_146 : z_op 86 146 = o_ic (fun x y => ¬ x = y) 175 := rfl
theorem k86_149 : z_op 86 149 = o_aload 1 0 := rfl
theorem k86_150 : z_op 86 150 = o_get 10 14 := rfl
theorem k86_153 : z_op 86 153 = o_const 2 (.int (8)) := rfl
theorem k86_155 : z_op 86 155 = o_aload 1 0 := rfl
theorem k86_156 : z_op 86 156 = o_get 10 21 := rfl
theorem k86_159 : z_op 86 159 = o_iload 1 3 := rfl
theorem k86_160 : z_op 86 160 = o_ald .int := rfl
theorem k86_161 : z_op 86 161 = o_ib (fun x y => x * y) := rfl
theorem k86_162 : z_op 86 162 = o_aload 1 0 := rfl
theorem k86_163 : z_op 86 163 = o_get 10 22 := rfl
theorem k86_166 : z_op 86 166 = o_iload 1 3 := rfl
theorem k86_167 : z_op 86 167 = o_ald .int := rfl
theorem k86_168 : z_op 86 168 = o_ib (fun x y => x + y) := rfl
theorem k86_169 : z_op 86 169 = o_const 1 (.int (1)) := rfl
theorem k86_170 : z_op 86 170 = o_ib (fun x y => x - y) := rfl
theorem k86_171 : z_op 86 171 = o_ald .int := rfl
theorem k86_172 : z_op 86 172 = o_goto 176 := rfl
theorem k86_175 : z_op 86 175 = o_const 1 (.int (-1)) := rfl
theorem k86_176 : z_op 86 176 = o_ist 2 6 false := rfl
theorem k86_178 : z_op 86 178 = o_goto 100 := rfl
theorem k86_181 : z_op 86 181 = o_iinc 5 (1) := rfl
theorem k86_184 : z_op 86 184 = o_goto 30 := rfl
theorem k86_187 : z_op 86 187 = o_aload 1 0 := rfl
theorem k86_188 : z_op 86 188 = o_get 10 20 := rfl
theorem k86_191 : z_op 86 191 = o_if (fun x => x = 0) 198 := rfl
theorem k86_194 : z_op 86 194 = o_const 1 (.int (5)) := rfl
theorem k86_195 : z_op 86 195 = o_goto 200 := rfl
theorem k86_198 : z_op 86 198 = o_iload 2 4 := rfl
theorem k86_200 : z_op 86 200 = o_iret .int := rfl
theorem k87_0 : z_op 87 0 = o_aload 1 0 := rfl
theorem k87_1 : z_op 87 1 = o_iload 1 2 := rfl
theorem k87_2 : z_op 87 2 = o_cv 71 10 1 := rfl
theorem k87_5 : z_op 87 5 = o_if (fun x => x = 0) 12 := rfl
theorem k87_8 : z_op 87 8 = o_const 1 (.int (-1)) := rfl
theorem k87_9 : z_op 87 9 = o_goto 18 := rfl
theorem k87_12 : z_op 87 12 = o_aload 1 0 := rfl
theorem k87_13 : z_op 87 13 = o_iload 1 1 := rfl
theorem k87_14 : z_op 87 14 = o_iload 1 2 := rfl
theorem k87_15 : z_op 87 15 = o_cv 86 10 2 := rfl
theorem k87_18 : z_op 87 18 = o_iret .int := rfl
theorem k88_0 : z_op 88 0 = o_aload 1 0 := rfl
theorem k88_1 : z_op 88 1 = o_get 10 18 := rfl
theorem k88_4 : z_op 88 4 = o_iret .int := rfl
theorem k89_0 : z_op 89 0 = o_aload 1 0 := rfl
theorem k89_1 : z_op 89 1 = o_get 10 19 := rfl
theorem k89_4 : z_op 89 4 = o_iret .int := rfl
theorem k90_0 : z_op 90 0 = o_aload 1 0 := rfl
theorem k90_1 : z_op 90 1 = o_get 10 24 := rfl
theorem k90_4 : z_op 90 4 = o_const 3 (.int (240)) := rfl
theorem k90_7 : z_op 90 7 = o_ic (fun x y => x = y) 28 := rfl
theorem k90_10 : z_op 90 10 = o_iload 1 1 := rfl
theorem k90_11 : z_op 90 11 = o_const 2 (.int (10)) := rfl
theorem k90_13 : z_op 90 13 = o_ic (fun x y => x = y) 30 := rfl
theorem k90_16 : z_op 90 16 = o_iload 1 1 := rfl
theorem k90_17 : z_op 90 17 = o_const 2 (.int (32)) := rfl
theorem k90_19 : z_op 90 19 = o_ic (fun x y => x < y) 28 := rfl
theorem k90_22 : z_op 90 22 = o_iload 1 1 := rfl
theorem k90_23 : z_op 90 23 = o_const 2 (.int (126)) := rfl
theorem k90_25 : z_op 90 25 = o_ic (fun x y => x ≤ y) 30 := rfl
theorem k90_28 : z_op 90 28 = o_const 1 (.int (0)) := rfl
theorem k90_29 : z_op 90 29 = o_iret .boolean := rfl
theorem k90_30 : z_op 90 30 = o_aload 1 0 := rfl
theorem k90_31 : z_op 90 31 = o_get 10 25 := rfl
theorem k90_34 : z_op 90 34 = o_aload 1 0 := rfl
theorem k90_35 : z_op 90 35 = o_get 10 24 := rfl
theorem k90_38 : z_op 90 38 = o_iload 1 1 := rfl
theorem k90_39 : z_op 90 39 = o_aast .int := rfl
theorem k90_40 : z_op 90 40 = o_aload 1 0 := rfl
theorem k90_41 : z_op 90 41 = o_dup := rfl
theorem k90_42 : z_op 90 42 = o_get 10 24 := rfl
theorem k90_45 : z_op 90 45 = o_const 1 (.int (1)) := rfl
theorem k90_46 : z_op 90 46 = o_ib (fun x y => x + y) := rfl
theorem k90_47 : z_op 90 47 = o_put 10 24 .int := rfl
theorem k90_50 : z_op 90 50 = o_const 1 (.int (1)) := rfl
theorem k90_51 : z_op 90 51 = o_iret .boolean := rfl
theorem k91_0 : z_op 91 0 = o_iload 1 1 := rfl
theorem k91_1 : z_op 91 1 = o_const 2 (.int (65)) := rfl
theorem k91_3 : z_op 91 3 = o_ic (fun x y => x < y) 12 := rfl
theorem k91_6 : z_op 91 6 = o_iload 1 1 := rfl
theorem k91_7 : z_op 91 7 = o_const 2 (.int (90)) := rfl
theorem k91_9 : z_op 91 9 = o_ic (fun x y => x ≤ y) 42 := rfl
theorem k91_12 : z_op 91 12 = o_iload 1 1 := rfl
theorem k91_13 : z_op 91 13 = o_const 2 (.int (97)) := rfl
theorem k91_15 : z_op 91 15 = o_ic (fun x y => x < y) 24 := rfl
theorem k91_18 : z_op 91 18 = o_iload 1 1 := rfl
theorem k91_19 : z_op 91 19 = o_const 2 (.int (122)) := rfl
theorem k91_21 : z_op 91 21 = o_ic (fun x y => x ≤ y) 42 := rfl
theorem k91_24 : z_op 91 24 = o_iload 1 1 := rfl
theorem k91_25 : z_op 91 25 = o_const 2 (.int (48)) := rfl
theorem k91_27 : z_op 91 27 = o_ic (fun x y => x < y) 36 := rfl
theorem k91_30 : z_op 91 30 = o_iload 1 1 := rfl
theorem k91_31 : z_op 91 31 = o_const 2 (.int (57)) := rfl
theorem k91_33 : z_op 91 33 = o_ic (fun x y => x ≤ y) 42 := rfl
theorem k91_36 : z_op 91 36 = o_iload 1 1 := rfl
theorem k91_37 : z_op 91 37 = o_const 2 (.int (45)) := rfl
theorem k91_39 : z_op 91 39 = o_ic (fun x y => ¬ x = y) 46 := rfl
theorem k91_42 : z_op 91 42 = o_const 1 (.int (1)) := rfl
theorem k91_43 : z_op 91 43 = o_goto 47 := rfl
theorem k91_46 : z_op 91 46 = o_const 1 (.int (0)) := rfl
theorem k91_47 : z_op 91 47 = o_iret .boolean := rfl
theorem k92_0 : z_op 92 0 = o_aload 1 0 := rfl
theorem k92_1 : z_op 92 1 = o_get 10 26 := rfl
theorem k92_4 : z_op 92 4 = o_const 2 (.int (60)) := rfl
theorem k92_6 : z_op 92 6 = o_ic (fun x y => x = y) 23 := rfl
theorem k92_9 : z_op 92 9 = o_aload 1 0 := rfl
theorem k92_10 : z_op 92 10 = o_iload 1 1 := rfl
theorem k92_11 : z_op 92 11 = o_cv 91 10 1 := rfl
theorem k92_14 : z_op 92 14 = o_if (fun x => ¬ x = 0) 25 := rfl
theorem k92_17 : z_op 92 17 = o_iload 1 1 := rfl
theorem k92_18 : z_op 92 18 = o_const 2 (.int (58)) := rfl
theorem k92_20 : z_op 92 20 = o_ic (fun x y => x = y) 25 := rfl
theorem k92_23 : z_op 92 23 = o_const 1 (.int (0)) := rfl
theorem k92_24 : z_op 92 24 = o_iret .boolean := rfl
theorem k92_25 : z_op 92 25 = o_aload 1 0 := rfl
theorem k92_26 : z_op 92 26 = o_get 10 27 := rfl
theorem k92_29 : z_op 92 29 = o_aload 1 0 := rfl
theorem k92_30 : z_op 92 30 = o_get 10 26 := rfl
theorem k92_33 : z_op 92 33 = o_iload 1 1 := rfl
theorem k92_34 : z_op 92 34 = o_aast .int := rfl
theorem k92_35 : z_op 92 35 = o_aload 1 0 := rfl
theorem k92_36 : z_op 92 36 = o_dup := rfl
theorem k92_37 : z_op 92 37 = o_get 10 26 := rfl
theorem k92_40 : z_op 92 40 = o_const 1 (.int (1)) := rfl
theorem k92_41 : z_op 92 41 = o_ib (fun x y => x + y) := rfl
theorem k92_42 : z_op 92 42 = o_put 10 26 .int := rfl
theorem k92_45 : z_op 92 45 = o_const 1 (.int (1)) := rfl
theorem k92_46 : z_op 92 46 = o_iret .boolean := rfl
theorem k93_0 : z_op 93 0 = o_aload 1 0 := rfl
theorem k93_1 : z_op 93 1 = o_const 1 (.int (0)) := rfl
theorem k93_2 : z_op 93 2 = o_put 10 24 .int := rfl
theorem k93_5 : z_op 93 5 = o_aload 1 0 := rfl
theorem k93_6 : z_op 93 6 = o_const 1 (.int (0)) := rfl
theorem k93_7 : z_op 93 7 = o_put 10 26 .int := rfl
theorem k93_10 : z_op 93 10 = o_aload 1 0 := rfl
theorem k93_11 : z_op 93 11 = o_const 1 (.int (0)) := rfl
theorem k93_12 : z_op 93 12 = o_put 10 28 .int := rfl
theorem k93_15 : z_op 93 15 = o_vret := rfl
theorem k94_0 : z_op 94 0 = o_iload 1 1 := rfl
theorem k94_1 : z_op 94 1 = o_const 2 (.int (65)) := rfl
theorem k94_3 : z_op 94 3 = o_ic (fun x y => x < y) 19 := rfl
theorem k94_6 : z_op 94 6 = o_iload 1 1 := rfl
theorem k94_7 : z_op 94 7 = o_const 2 (.int (90)) := rfl
theorem k94_9 : z_op 94 9 = o_ic (fun x y => y < x) 19 := rfl
theorem k94_12 : z_op 94 12 = o_iload 1 1 := rfl
theorem k94_13 : z_op 94 13 = o_const 2 (.int (32)) := rfl
theorem k94_15 : z_op 94 15 = o_ib (fun x y => x + y) := rfl
theorem k94_16 : z_op 94 16 = o_goto 20 := rfl
theorem k94_19 : z_op 94 19 = o_iload 1 1 := rfl
theorem k94_20 : z_op 94 20 = o_iret .int := rfl
theorem k95_0 : z_op 95 0 = o_aload 1 0 := rfl
theorem k95_1 : z_op 95 1 = o_const 1 (.int (0)) := rfl
theorem k95_2 : z_op 95 2 = o_put 10 33 .int := rfl
theorem k95_5 : z_op 95 5 = o_const 1 (.int (0)) := rfl
theorem k95_6 : z_op 95 6 = o_ist 1 1 false := rfl
theorem k95_7 : z_op 95 7 = o_const 1 (.int (0)) := rfl
theorem k95_8 : z_op 95 8 = o_ist 1 2 false := rfl
theorem k95_9 : z_op 95 9 = o_iload 1 2 := rfl
theorem k95_10 : z_op 95 10 = o_aload 1 0 := rfl
theorem k95_11 : z_op 95 11 = o_get 10 24 := rfl
theorem k95_14 : z_op 95 14 = o_ic (fun x y => y ≤ x) 68 := rfl
theorem k95_17 : z_op 95 17 = o_aload 1 0 := rfl
theorem k95_18 : z_op 95 18 = o_get 10 25 := rfl
theorem k95_21 : z_op 95 21 = o_iload 1 2 := rfl
theorem k95_22 : z_op 95 22 = o_ald .int := rfl
theorem k95_23 : z_op 95 23 = o_const 2 (.int (10)) := rfl
theorem k95_25 : z_op 95 25 = o_ic (fun x y => ¬ x = y) 62 := rfl
theorem k95_28 : z_op 95 28 = o_aload 1 0 := rfl
theorem k95_29 : z_op 95 29 = o_get 10 34 := rfl
theorem k95_32 : z_op 95 32 = o_aload 1 0 := rfl
theorem k95_33 : z_op 95 33 = o_get 10 33 := rfl
theorem k95_36 : z_op 95 36 = o_iload 1 1 := rfl
theorem k95_37 : z_op 95 37 = o_aast .int := rfl
theorem k95_38 : z_op 95 38 = o_aload 1 0 := rfl
theorem k95_39 : z_op 95 39 = o_get 10 35 := rfl
theorem k95_42 : z_op 95 42 = o_aload 1 0 := rfl
theorem k95_43 : z_op 95 43 = o_get 10 33 := rfl
theorem k95_46 : z_op 95 46 = o_iload 1 2 := rfl
theorem k95_47 : z_op 95 47 = o_aast .int := rfl
theorem k95_48 : z_op 95 48 = o_aload 1 0 := rfl
theorem k95_49 : z_op 95 49 = o_dup := rfl
theorem k95_50 : z_op 95 50 = o_get 10 33 := rfl
theorem k95_53 : z_op 95 53 = o_const 1 (.int (1)) := rfl
theorem k95_54 : z_op 95 54 = o_ib (fun x y => x + y) := rfl
theorem k95_55 : z_op 95 55 = o_put 10 33 .int := rfl
theorem k95_58 : z_op 95 58 = o_iload 1 2 := rfl
theorem k95_59 : z_op 95 59 = o_const 1 (.int (1)) := rfl
theorem k95_60 : z_op 95 60 = o_ib (fun x y => x + y) := rfl
theorem k95_61 : z_op 95 61 = o_ist 1 1 false := rfl
theorem k95_62 : z_op 95 62 = o_iinc 2 (1) := rfl
theorem k95_65 : z_op 95 65 = o_goto 9 := rfl
theorem k95_68 : z_op 95 68 = o_iload 1 1 := rfl
theorem k95_69 : z_op 95 69 = o_aload 1 0 := rfl
theorem k95_70 : z_op 95 70 = o_get 10 24 := rfl
theorem k95_73 : z_op 95 73 = o_ic (fun x y => y ≤ x) 109 := rfl
theorem k95_76 : z_op 95 76 = o_aload 1 0 := rfl
theorem k95_77 : z_op 95 77 = o_get 10 34 := rfl
theorem k95_80 : z_op 95 80 = o_aload 1 0 := rfl
theorem k95_81 : z_op 95 81 = o_get 10 33 := rfl
theorem k95_84 : z_op 95 84 = o_iload 1 1 := rfl
theorem k95_85 : z_op 95 85 = o_aast .int := rfl
theorem k95_86 : z_op 95 86 = o_aload 1 0 := rfl
theorem k95_87 : z_op 95 87 = o_get 10 35 := rfl
theorem k95_90 : z_op 95 90 = o_aload 1 0 := rfl
theorem k95_91 : z_op 95 91 = o_get 10 33 := rfl
theorem k95_94 : z_op 95 94 = o_aload 1 0 := rfl
theorem k95_95 : z_op 95 95 = o_get 10 24 := rfl
theorem k95_98 : z_op 95 98 = o_aast .int := rfl
theorem k95_99 : z_op 95 99 = o_aload 1 0 := rfl
theorem k95_100 : z_op 95 100 = o_dup := rfl
theorem k95_101 : z_op 95 101 = o_get 10 33 := rfl
theorem k95_104 : z_op 95 104 = o_const 1 (.int (1)) := rfl
theorem k95_105 : z_op 95 105 = o_ib (fun x y => x + y) := rfl
theorem k95_106 : z_op 95 106 = o_put 10 33 .int := rfl
theorem k95_109 : z_op 95 109 = o_aload 1 0 := rfl
theorem k95_110 : z_op 95 110 = o_aload 1 0 := rfl
theorem k95_111 : z_op 95 111 = o_get 10 33 := rfl
theorem k95_114 : z_op 95 114 = o_put 10 36 .int := rfl
theorem k95_117 : z_op 95 117 = o_aload 1 0 := rfl
theorem k95_118 : z_op 95 118 = o_get 10 33 := rfl
theorem k95_121 : z_op 95 121 = o_const 1 (.int (1)) := rfl
theorem k95_122 : z_op 95 122 = o_ib (fun x y => x - y) := rfl
theorem k95_123 : z_op 95 123 = o_ist 1 2 false := rfl
theorem k95_124 : z_op 95 124 = o_iload 1 2 := rfl
theorem k95_125 : z_op 95 125 = o_if (fun x => x < 0) 161 := rfl
theorem k95_128 : z_op 95 128 = o_aload 1 0 := rfl
theorem k95_129 : z_op 95 129 = o_aload 1 0 := rfl
theorem k95_130 : z_op 95 130 = o_get 10 34 := rfl
theorem k95_133 : z_op 95 133 = o_iload 1 2 := rfl
theorem k95_134 : z_op 95 134 = o_ald .int := rfl
theorem k95_135 : z_op 95 135 = o_aload 1 0 := rfl
theorem k95_136 : z_op 95 136 = o_get 10 35 := rfl
theorem k95_139 : z_op 95 139 = o_iload 1 2 := rfl
theorem k95_140 : z_op 95 140 = o_ald .int := rfl
theorem k95_141 : z_op 95 141 = o_ic (fun x y => ¬ x = y) 148 := rfl
theorem k95_144 : z_op 95 144 = o_iload 1 2 := rfl
theorem k95_145 : z_op 95 145 = o_goto 152 := rfl
theorem k95_148 : z_op 95 148 = o_aload 1 0 := rfl
theorem k95_149 : z_op 95 149 = o_get 10 36 := rfl
theorem k95_152 : z_op 95 152 = o_put 10 36 .int := rfl
theorem k95_155 : z_op 95 155 = o_iinc 2 (-1) := rfl
theorem k95_158 : z_op 95 158 = o_goto 124 := rfl
theorem k95_161 : z_op 95 161 = o_vret := rfl
theorem k96_0 : z_op 96 0 = o_aload 1 0 := rfl
theorem k96_1 : z_op 96 1 = o_cv 95 10 0 := rfl
theorem k96_4 : z_op 96 4 = o_aload 1 0 := rfl
theorem k96_5 : z_op 96 5 = o_const 1 (.int (0)) := rfl
theorem k96_6 : z_op 96 6 = o_put 10 37 .int := rfl
theorem k96_9 : z_op 96 9 = o_const 1 (.int (0)) := rfl
theorem k96_10 : z_op 96 10 = o_ist 1 1 false := rfl
theorem k96_11 : z_op 96 11 = o_iload 1 1 := rfl
theorem k96_12 : z_op 96 12 = o_aload 1 0 := rfl
theorem k96_13 : z_op 96 13 = o_get 10 36 := rfl
theorem k96_16 : z_op 96 16 = o_ic (fun x y => y ≤ x) 200 := rfl
theorem k96_19 : z_op 96 19 = o_aload 1 0 := rfl
theorem k96_20 : z_op 96 20 = o_get 10 25 := rfl
theorem k96_23 : z_op 96 23 = o_aload 1 0 := rfl
theorem k96_24 : z_op 96 24 = o_get 10 34 := rfl
theorem k96_27 : z_op 96 27 = o_iload 1 1 := rfl
theorem k96_28 : z_op 96 28 = o_ald .int := rfl
theorem k96_29 : z_op 96 29 = o_ald .int := rfl
theorem k96_30 : z_op 96 30 = o_const 2 (.int (32)) := rfl
theorem k96_32 : z_op 96 32 = o_ic (fun x y => ¬ x = y) 59 := rfl
theorem k96_35 : z_op 96 35 = o_aload 1 0 := rfl
theorem k96_36 : z_op 96 36 = o_get 10 37 := rfl
theorem k96_39 : z_op 96 39 = o_if (fun x => ¬ x = 0) 44 := rfl
theorem k96_42 : z_op 96 42 = o_const 1 (.int (0)) := rfl
theorem k96_43 : z_op 96 43 = o_iret .boolean := rfl
theorem k96_44 : z_op 96 44 = o_aload 1 0 := rfl
theorem k96_45 : z_op 96 45 = o_get 10 39 := rfl
theorem k96_48 : z_op 96 48 = o_aload 1 0 := rfl
theorem k96_49 : z_op 96 49 = o_get 10 37 := rfl
theorem k96_52 : z_op 96 52 = o_const 1 (.int (1)) := rfl
theorem k96_53 : z_op 96 53 = o_ib (fun x y => x - y) := rfl
theorem k96_54 : z_op 96 54 = o_iload 1 1 := rfl
theorem k96_55 : z_op 96 55 = o_aast .int := rfl
theorem k96_56 : z_op 96 56 = o_goto 194 := rfl
theorem k96_59 : z_op 96 59 = o_const 1 (.int (0)) := rfl
theorem k96_60 : z_op 96 60 = o_ist 1 2 false := rfl
theorem k96_61 : z_op 96 61 = o_aload 1 0 := rfl
theorem k96_62 : z_op 96 62 = o_get 10 34 := rfl
theorem k96_65 : z_op 96 65 = o_iload 1 1 := rfl
theorem k96_66 : z_op 96 66 = o_ald .int := rfl
theorem k96_67 : z_op 96 67 = o_iload 1 2 := rfl
theorem k96_68 : z_op 96 68 = o_ib (fun x y => x + y) := rfl
theorem k96_69 : z_op 96 69 = o_aload 1 0 := rfl
theorem k96_70 : z_op 96 70 = o_get 10 35 := rfl
theorem k96_73 : z_op 96 73 = o_iload 1 1 := rfl
theorem k96_74 : z_op 96 74 = o_ald .int := rfl
theorem k96_75 : z_op 96 75 = o_ic (fun x y => y ≤ x) 104 := rfl
theorem k96_78 : z_op 96 78 = o_aload 1 0 := rfl
theorem k96_79 : z_op 96 79 = o_aload 1 0 := rfl
theorem k96_80 : z_op 96 80 = o_get 10 25 := rfl
theorem k96_83 : z_op 96 83 = o_aload 1 0 := rfl
theorem k96_84 : z_op 96 84 = o_get 10 34 := rfl
theorem k96_87 : z_op 96 87 = o_iload 1 1 := rfl
theorem k96_88 : z_op 96 88 = o_ald .int := rfl
theorem k96_89 : z_op 96 89 = o_iload 1 2 := rfl
theorem k96_90 : z_op 96 90 = o_ib (fun x y => x + y) := rfl
theorem k96_91 : z_op 96 91 = o_ald .int := rfl
theorem k96_92 : z_op 96 92 = o_cv 91 10 1 := rfl
theorem k96_95 : z_op 96 95 = o_if (fun x => x = 0) 104 := rfl
theorem k96_98 : z_op 96 98 = o_iinc 2 (1) := rfl
theorem k96_101 : z_op 96 101 = o_goto 61 := rfl
theorem k96_104 : z_op 96 104 = o_iload 1 2 := rfl
theorem k96_105 : z_op 96 105 = o_if (fun x => x = 0) 152 := rfl
theorem k96_108 : z_op 96 108 = o_aload 1 0 := rfl
theorem k96_109 : z_op 96 109 = o_get 10 34 := rfl
theorem k96_112 : z_op 96 112 = o_iload 1 1 := rfl
theorem k96_113 : z_op 96 113 = o_ald .int := rfl
theorem k96_114 : z_op 96 114 = o_iload 1 2 := rfl
theorem k96_115 : z_op 96 115 = o_ib (fun x y => x + y) := rfl
theorem k96_116 : z_op 96 116 = o_aload 1 0 := rfl
theorem k96_117 : z_op 96 117 = o_get 10 35 := rfl
theorem k96_120 : z_op 96 120 = o_iload 1 1 := rfl
theorem k96_121 : z_op 96 121 = o_ald .int := rfl
theorem k96_122 : z_op 96 122 = o_ic (fun x y => x = y) 152 := rfl
theorem k96_125 : z_op 96 125 = o_aload 1 0 := rfl
theorem k96_126 : z_op 96 126 = o_get 10 25 := rfl
theorem k96_129 : z_op 96 129 = o_aload 1 0 := rfl
theorem k96_130 : z_op 96 130 = o_get 10 34 := rfl
theorem k96_133 : z_op 96 133 = o_iload 1 1 := rfl
theorem k96_134 : z_op 96 134 = o_ald .int := rfl
theorem k96_135 : z_op 96 135 = o_iload 1 2 := rfl
theorem k96_136 : z_op 96 136 = o_ib (fun x y => x + y) := rfl
theorem k96_137 : z_op 96 137 = o_ald .int := rfl
theorem k96_138 : z_op 96 138 = o_const 2 (.int (58)) := rfl
theorem k96_140 : z_op 96 140 = o_ic (fun x y => ¬ x = y) 152 := rfl
theorem k96_143 : z_op 96 143 = o_aload 1 0 := rfl
theorem k96_144 : z_op 96 144 = o_get 10 37 := rfl
theorem k96_147 : z_op 96 147 = o_const 2 (.int (12)) := rfl
theorem k96_149 : z_op 96 149 = o_ic (fun x y => ¬ x = y) 154 := rfl
theorem k96_152 : z_op 96 152 = o_const 1 (.int (0)) := rfl
theorem k96_153 : z_op 96 153 = o_iret .boolean := rfl
theorem k96_154 : z_op 96 154 = o_aload 1 0 := rfl
theorem k96_155 : z_op 96 155 = o_get 10 38 := rfl
theorem k96_158 : z_op 96 158 = o_aload 1 0 := rfl
theorem k96_159 : z_op 96 159 = o_get 10 37 := rfl
theorem k96_162 : z_op 96 162 = o_iload 1 1 := rfl
theorem k96_163 : z_op 96 163 = o_aast .int := rfl
theorem k96_164 : z_op 96 164 = o_aload 1 0 := rfl
theorem k96_165 : z_op 96 165 = o_get 10 39 := rfl
theorem k96_168 : z_op 96 168 = o_aload 1 0 := rfl
theorem k96_169 : z_op 96 169 = o_get 10 37 := rfl
theorem k96_172 : z_op 96 172 = o_iload 1 1 := rfl
theorem k96_173 : z_op 96 173 = o_aast .int := rfl
theorem k96_174 : z_op 96 174 = o_aload 1 0 := rfl
theorem k96_175 : z_op 96 175 = o_get 10 40 := rfl
theorem k96_178 : z_op 96 178 = o_aload 1 0 := rfl
theorem k96_179 : z_op 96 179 = o_get 10 37 := rfl
theorem k96_182 : z_op 96 182 = o_iload 1 2 := rfl
theorem k96_183 : z_op 96 183 = o_aast .int := rfl
theorem k96_184 : z_op 96 184 = o_aload 1 0 := rfl
theorem k96_185 : z_op 96 185 = o_dup := rfl
theorem k96_186 : z_op 96 186 = o_get 10 37 := rfl
theorem k96_189 : z_op 96 189 = o_const 1 (.int (1)) := rfl
theorem k96_190 : z_op 96 190 = o_ib (fun x y => x + y) := rfl
theorem k96_191 : z_op 96 191 = o_put 10 37 .int := rfl
theorem k96_194 : z_op 96 194 = o_iinc 1 (1) := rfl
theorem k96_197 : z_op 96 197 = o_goto 11 := rfl
theorem k96_200 : z_op 96 200 = o_const 1 (.int (1)) := rfl
theorem k96_201 : z_op 96 201 = o_iret .boolean := rfl
theorem k97_0 : z_op 97 0 = o_aload 1 0 := rfl
theorem k97_1 : z_op 97 1 = o_cv 96 10 0 := rfl
theorem k97_4 : z_op 97 4 = o_if (fun x => x = 0) 14 := rfl
theorem k97_7 : z_op 97 7 = o_aload 1 0 := rfl
theorem k97_8 : z_op 97 8 = o_get 10 37 := rfl
theorem k97_11 : z_op 97 11 = o_goto 15 := rfl
theorem k97_14 : z_op 97 14 = o_const 1 (.int (-1)) := rfl
theorem k97_15 : z_op 97 15 = o_iret .int := rfl
theorem k98_0 : z_op 98 0 = o_aload 1 0 := rfl
theorem k98_1 : z_op 98 1 = o_get 10 43 := rfl
theorem k98_4 : z_op 98 4 = o_aload 1 0 := rfl
theorem k98_5 : z_op 98 5 = o_get 10 42 := rfl
theorem k98_8 : z_op 98 8 = o_iload 1 1 := rfl
theorem k98_9 : z_op 98 9 = o_aast .int := rfl
theorem k98_10 : z_op 98 10 = o_aload 1 0 := rfl
theorem k98_11 : z_op 98 11 = o_dup := rfl
theorem k98_12 : z_op 98 12 = o_get 10 42 := rfl
theorem k98_15 : z_op 98 15 = o_const 1 (.int (1)) := rfl
theorem k98_16 : z_op 98 16 = o_ib (fun x y => x + y) := rfl
theorem k98_17 : z_op 98 17 = o_put 10 42 .int := rfl
theorem k98_20 : z_op 98 20 = o_vret := rfl
theorem k99_0 : z_op 99 0 = o_aload 1 0 := rfl
theorem k99_1 : z_op 99 1 = o_get 10 34 := rfl
theorem k99_4 : z_op 99 4 = o_iload 1 1 := rfl
theorem k99_5 : z_op 99 5 = o_ald .int := rfl
theorem k99_6 : z_op 99 6 = o_ist 1 2 false := rfl
theorem k99_7 : z_op 99 7 = o_iload 1 2 := rfl
theorem k99_8 : z_op 99 8 = o_aload 1 0 := rfl
theorem k99_9 : z_op 99 9 = o_get 10 35 := rfl
theorem k99_12 : z_op 99 12 = o_iload 1 1 := rfl
theorem k99_13 : z_op 99 13 = o_ald .int := rfl
theorem k99_14 : z_op 99 14 = o_ic (fun x y => y ≤ x) 33 := rfl
theorem k99_17 : z_op 99 17 = o_aload 1 0 := rfl
theorem k99_18 : z_op 99 18 = o_aload 1 0 := rfl
theorem k99_19 : z_op 99 19 = o_get 10 25 := rfl
theorem k99_22 : z_op 99 22 = o_iload 1 2 := rfl
theorem k99_23 : z_op 99 23 = o_ald .int := rfl
theorem k99_24 : z_op 99 24 = o_cv 98 10 1 := rfl
theorem k99_27 : z_op 99 27 = o_iinc 2 (1) := rfl
theorem k99_30 : z_op 99 30 = o_goto 7 := rfl
theorem k99_33 : z_op 99 33 = o_aload 1 0 := rfl
theorem k99_34 : z_op 99 34 = o_const 2 (.int (10)) := rfl
theorem k99_36 : z_op 99 36 = o_cv 98 10 1 := rfl
theorem k99_39 : z_op 99 39 = o_vret := rfl
theorem k100_0 : z_op 100 0 = o_aload 1 0 := rfl
theorem k100_1 : z_op 100 1 = o_get 10 34 := rfl
theorem k100_4 : z_op 100 4 = o_aload 1 0 := rfl
theorem k100_5 : z_op 100 5 = o_get 10 38 := rfl
theorem k100_8 : z_op 100 8 = o_iload 1 1 := rfl
theorem k100_9 : z_op 100 9 = o_ald .int := rfl
theorem k100_10 : z_op 100 10 = o_ald .int := rfl
theorem k100_11 : z_op 100 11 = o_ist 1 2 false := rfl
theorem k100_12 : z_op 100 12 = o_const 1 (.int (0)) := rfl
theorem k100_13 : z_op 100 13 = o_ist 1 3 false := rfl
theorem k100_14 : z_op 100 14 = o_iload 1 3 := rfl
theorem k100_15 : z_op 100 15 = o_aload 1 0 := rfl
theorem k100_16 : z_op 100 16 = o_get 10 40 := rfl
theorem k100_19 : z_op 100 19 = o_iload 1 1 := rfl
theorem k100_20 : z_op 100 20 = o_ald .int := rfl
theorem k100_21 : z_op 100 21 = o_ic (fun x y => y ≤ x) 46 := rfl
theorem k100_24 : z_op 100 24 = o_aload 1 0 := rfl
theorem k100_25 : z_op 100 25 = o_aload 1 0 := rfl
theorem k100_26 : z_op 100 26 = o_aload 1 0 := rfl
theorem k100_27 : z_op 100 27 = o_get 10 25 := rfl
theorem k100_30 : z_op 100 30 = o_iload 1 2 := rfl
theorem k100_31 : z_op 100 31 = o_iload 1 3 := rfl
theorem k100_32 : z_op 100 32 = o_ib (fun x y => x + y) := rfl
theorem k100_33 : z_op 100 33 = o_ald .int := rfl
theorem k100_34 : z_op 100 34 = o_cv 94 10 1 := rfl
theorem k100_37 : z_op 100 37 = o_cv 98 10 1 := rfl
theorem k100_40 : z_op 100 40 = o_iinc 3 (1) := rfl
theorem k100_43 : z_op 100 43 = o_goto 14 := rfl
theorem k100_46 : z_op 100 46 = o_aload 1 0 := rfl
theorem k100_47 : z_op 100 47 = o_const 2 (.int (58)) := rfl
theorem k100_49 : z_op 100 49 = o_cv 98 10 1 := rfl
theorem k100_52 : z_op 100 52 = o_aload 1 0 := rfl
theorem k100_53 : z_op 100 53 = o_get 10 42 := rfl
theorem k100_56 : z_op 100 56 = o_ist 1 3 false := rfl
theorem k100_57 : z_op 100 57 = o_const 1 (.int (0)) := rfl
theorem k100_58 : z_op 100 58 = o_ist 2 4 false := rfl
theorem k100_60 : z_op 100 60 = o_iload 1 2 := rfl
theorem k100_61 : z_op 100 61 = o_aload 1 0 := rfl
theorem k100_62 : z_op 100 62 = o_get 10 40 := rfl
theorem k100_65 : z_op 100 65 = o_iload 1 1 := rfl
theorem k100_66 : z_op 100 66 = o_ald .int := rfl
theorem k100_67 : z_op 100 67 = o_ib (fun x y => x + y) := rfl
theorem k100_68 : z_op 100 68 = o_const 1 (.int (1)) := rfl
theorem k100_69 : z_op 100 69 = o_ib (fun x y => x + y) := rfl
theorem k100_70 : z_op 100 70 = o_ist 2 5 false := rfl
theorem k100_72 : z_op 100 72 = o_iload 2 5 := rfl
theorem k100_74 : z_op 100 74 = o_aload 1 0 := rfl
theorem k100_75 : z_op 100 75 = o_get 10 35 := rfl
theorem k100_78 : z_op 100 78 = o_aload 1 0 := rfl
theorem k100_79 : z_op 100 79 = o_get 10 39 := rfl
theorem k100_82 : z_op 100 82 = o_iload 1 1 := rfl
theorem k100_83 : z_op 100 83 = o_ald .int := rfl
theorem k100_84 : z_op 100 84 = o_ald .int := rfl
theorem k100_85 : z_op 100 85 = o_ic (fun x y => y ≤ x) 157 := rfl
theorem k100_88 : z_op 100 88 = o_aload 1 0 := rfl
theorem k100_89 : z_op 100 89 = o_get 10 25 := rfl
theorem k100_92 : z_op 100 92 = o_iload 2 5 := rfl
theorem k100_94 : z_op 100 94 = o_ald .int := rfl
theorem k100_95 : z_op 100 95 = o_const 2 (.int (32)) := rfl
theorem k100_97 : z_op 100 97 = o_ic (fun x y => ¬ x = y) 106 := rfl
theorem k100_100 : z_op 100 100 = o_const 1 (.int (1)) := rfl
theorem k100_101 : z_op 100 101 = o_ist 2 4 false := rfl
theorem k100_103 : z_op 100 103 = o_goto 151 := rfl
theorem k100_106 : z_op 100 106 = o_aload 1 0 := rfl
theorem k100_107 : z_op 100 107 = o_get 10 25 := rfl
theorem k100_110 : z_op 100 110 = o_iload 2 5 := rfl
theorem k100_112 : z_op 100 112 = o_ald .int := rfl
theorem k100_113 : z_op 100 113 = o_const 2 (.int (10)) := rfl
theorem k100_115 : z_op 100 115 = o_ic (fun x y => x = y) 151 := rfl
theorem k100_118 : z_op 100 118 = o_iload 2 4 := rfl
theorem k100_120 : z_op 100 120 = o_if (fun x => x = 0) 137 := rfl
theorem k100_123 : z_op 100 123 = o_aload 1 0 := rfl
theorem k100_124 : z_op 100 124 = o_get 10 42 := rfl
theorem k100_127 : z_op 100 127 = o_iload 1 3 := rfl
theorem k100_128 : z_op 100 128 = o_ic (fun x y => x ≤ y) 137 := rfl
theorem k100_131 : z_op 100 131 = o_aload 1 0 := rfl
theorem k100_132 : z_op 100 132 = o_const 2 (.int (32)) := rfl
theorem k100_134 : z_op 100 134 = o_cv 98 10 1 := rfl
theorem k100_137 : z_op 100 137 = o_const 1 (.int (0)) := rfl
theorem k100_138 : z_op 100 138 = o_ist 2 4 false := rfl
theorem k100_140 : z_op 100 140 = o_aload 1 0 := rfl
theorem k100_141 : z_op 100 141 = o_aload 1 0 := rfl
theorem k100_142 : z_op 100 142 = o_get 10 25 := rfl
theorem k100_145 : z_op 100 145 = o_iload 2 5 := rfl
theorem k100_147 : z_op 100 147 = o_ald .int := rfl
theorem k100_148 : z_op 100 148 = o_cv 98 10 1 := rfl
theorem k100_151 : z_op 100 151 = o_iinc 5 (1) := rfl
theorem k100_154 : z_op 100 154 = o_goto 72 := rfl
theorem k100_157 : z_op 100 157 = o_aload 1 0 := rfl
theorem k100_158 : z_op 100 158 = o_const 2 (.int (10)) := rfl
theorem k100_160 : z_op 100 160 = o_cv 98 10 1 := rfl
theorem k100_163 : z_op 100 163 = o_vret := rfl
theorem k101_0 : z_op 101 0 = o_const 1 (.int (0)) := rfl
theorem k101_1 : z_op 101 1 = o_ist 1 2 false := rfl
theorem k101_2 : z_op 101 2 = o_aload 1 0 := rfl
theorem k101_3 : z_op 101 3 = o_get 10 34 := rfl
theorem k101_6 : z_op 101 6 = o_iload 1 1 := rfl
theorem k101_7 : z_op 101 7 = o_ald .int := rfl
theorem k101_8 : z_op 101 8 = o_ist 1 3 false := rfl
theorem k101_9 : z_op 101 9 = o_iload 1 3 := rfl
theorem k101_10 : z_op 101 10 = o_aload 1 0 := rfl
theorem k101_11 : z_op 101 11 = o_get 10 35 := rfl
theorem k101_14 : z_op 101 14 = o_iload 1 1 := rfl
theorem k101_15 : z_op 101 15 = o_ald .int := rfl
theorem k101_16 : z_op 101 16 = o_ic (fun x y => y ≤ x) 63 := rfl
theorem k101_19 : z_op 101 19 = o_aload 1 0 := rfl
theorem k101_20 : z_op 101 20 = o_get 10 25 := rfl
theorem k101_23 : z_op 101 23 = o_iload 1 3 := rfl
theorem k101_24 : z_op 101 24 = o_ald .int := rfl
theorem k101_25 : z_op 101 25 = o_const 2 (.int (32)) := rfl
theorem k101_27 : z_op 101 27 = o_ic (fun x y => ¬ x = y) 35 := rfl
theorem k101_30 : z_op 101 30 = o_const 1 (.int (1)) := rfl
theorem k101_31 : z_op 101 31 = o_ist 1 2 false := rfl
theorem k101_32 : z_op 101 32 = o_goto 57 := rfl
theorem k101_35 : z_op 101 35 = o_iload 1 2 := rfl
theorem k101_36 : z_op 101 36 = o_if (fun x => x = 0) 45 := rfl
theorem k101_39 : z_op 101 39 = o_aload 1 0 := rfl
theorem k101_40 : z_op 101 40 = o_const 2 (.int (32)) := rfl
theorem k101_42 : z_op 101 42 = o_cv 98 10 1 := rfl
theorem k101_45 : z_op 101 45 = o_const 1 (.int (0)) := rfl
theorem k101_46 : z_op 101 46 = o_ist 1 2 false := rfl
theorem k101_47 : z_op 101 47 = o_aload 1 0 := rfl
theorem k101_48 : z_op 101 48 = o_aload 1 0 := rfl
theorem k101_49 : z_op 101 49 = o_get 10 25 := rfl
theorem k101_52 : z_op 101 52 = o_iload 1 3 := rfl
theorem k101_53 : z_op 101 53 = o_ald .int := rfl
theorem k101_54 : z_op 101 54 = o_cv 98 10 1 := rfl
theorem k101_57 : z_op 101 57 = o_iinc 3 (1) := rfl
theorem k101_60 : z_op 101 60 = o_goto 9 := rfl
theorem k101_63 : z_op 101 63 = o_aload 1 0 := rfl
theorem k101_64 : z_op 101 64 = o_const 2 (.int (10)) := rfl
theorem k101_66 : z_op 101 66 = o_cv 98 10 1 := rfl
theorem k101_69 : z_op 101 69 = o_vret := rfl
theorem k102_0 : z_op 102 0 = o_const 1 (.int (1)) := rfl
theorem k102_1 : z_op 102 1 = o_ist 1 2 false := rfl
theorem k102_2 : z_op 102 2 = o_aload 1 0 := rfl
theorem k102_3 : z_op 102 3 = o_get 10 34 := rfl
theorem k102_6 : z_op 102 6 = o_iload 1 1 := rfl
theorem k102_7 : z_op 102 7 = o_ald .int := rfl
theorem k102_8 : z_op 102 8 = o_ist 1 3 false := rfl
theorem k102_9 : z_op 102 9 = o_iload 1 3 := rfl
theorem k102_10 : z_op 102 10 = o_aload 1 0 := rfl
theorem k102_11 : z_op 102 11 = o_get 10 35 := rfl
theorem k102_14 : z_op 102 14 = o_iload 1 1 := rfl
theorem k102_15 : z_op 102 15 = o_ald .int := rfl
theorem k102_16 : z_op 102 16 = o_ic (fun x y => y ≤ x) 46 := rfl
theorem k102_19 : z_op 102 19 = o_iload 1 2 := rfl
theorem k102_20 : z_op 102 20 = o_if (fun x => x = 0) 38 := rfl
theorem k102_23 : z_op 102 23 = o_aload 1 0 := rfl
theorem k102_24 : z_op 102 24 = o_get 10 25 := rfl
theorem k102_27 : z_op 102 27 = o_iload 1 3 := rfl
theorem k102_28 : z_op 102 28 = o_ald .int := rfl
theorem k102_29 : z_op 102 29 = o_const 2 (.int (32)) := rfl
theorem k102_31 : z_op 102 31 = o_ic (fun x y => ¬ x = y) 38 := rfl
theorem k102_34 : z_op 102 34 = o_const 1 (.int (1)) := rfl
theorem k102_35 : z_op 102 35 = o_goto 39 := rfl
theorem k102_38 : z_op 102 38 = o_const 1 (.int (0)) := rfl
theorem k102_39 : z_op 102 39 = o_ist 1 2 false := rfl
theorem k102_40 : z_op 102 40 = o_iinc 3 (1) := rfl
theorem k102_43 : z_op 102 43 = o_goto 9 := rfl
theorem k102_46 : z_op 102 46 = o_iload 1 2 := rfl
theorem k102_47 : z_op 102 47 = o_iret .boolean := rfl
theorem k103_0 : z_op 103 0 = o_aload 1 0 := rfl
theorem k103_1 : z_op 103 1 = o_get 10 33 := rfl
theorem k103_4 : z_op 103 4 = o_ist 1 2 false := rfl
theorem k103_5 : z_op 103 5 = o_iload 1 2 := rfl
theorem k103_6 : z_op 103 6 = o_aload 1 0 := rfl
theorem k103_7 : z_op 103 7 = o_get 10 36 := rfl
theorem k103_10 : z_op 103 10 = o_const 1 (.int (1)) := rfl
theorem k103_11 : z_op 103 11 = o_ib (fun x y => x + y) := rfl
theorem k103_12 : z_op 103 12 = o_ic (fun x y => x ≤ y) 57 := rfl
theorem k103_15 : z_op 103 15 = o_iload 1 1 := rfl
theorem k103_16 : z_op 103 16 = o_if (fun x => x = 0) 32 := rfl
theorem k103_19 : z_op 103 19 = o_aload 1 0 := rfl
theorem k103_20 : z_op 103 20 = o_iload 1 2 := rfl
theorem k103_21 : z_op 103 21 = o_const 1 (.int (1)) := rfl
theorem k103_22 : z_op 103 22 = o_ib (fun x y => x - y) := rfl
theorem k103_23 : z_op 103 23 = o_cv 102 10 1 := rfl
theorem k103_26 : z_op 103 26 = o_if (fun x => x = 0) 57 := rfl
theorem k103_29 : z_op 103 29 = o_goto 51 := rfl
theorem k103_32 : z_op 103 32 = o_aload 1 0 := rfl
theorem k103_33 : z_op 103 33 = o_get 10 34 := rfl
theorem k103_36 : z_op 103 36 = o_iload 1 2 := rfl
theorem k103_37 : z_op 103 37 = o_const 1 (.int (1)) := rfl
theorem k103_38 : z_op 103 38 = o_ib (fun x y => x - y) := rfl
theorem k103_39 : z_op 103 39 = o_ald .int := rfl
theorem k103_40 : z_op 103 40 = o_aload 1 0 := rfl
theorem k103_41 : z_op 103 41 = o_get 10 35 := rfl
theorem k103_44 : z_op 103 44 = o_iload 1 2 := rfl
theorem k103_45 : z_op 103 45 = o_const 1 (.int (1)) := rfl
theorem k103_46 : z_op 103 46 = o_ib (fun x y => x - y) := rfl
theorem k103_47 : z_op 103 47 = o_ald .int := rfl
theorem k103_48 : z_op 103 48 = o_ic (fun x y => ¬ x = y) 57 := rfl
theorem k103_51 : z_op 103 51 = o_iinc 2 (-1) := rfl
theorem k103_54 : z_op 103 54 = o_goto 5 := rfl
theorem k103_57 : z_op 103 57 = o_aload 1 0 := rfl
theorem k103_58 : z_op 103 58 = o_get 10 36 := rfl
theorem k103_61 : z_op 103 61 = o_const 1 (.int (1)) := rfl
theorem k103_62 : z_op 103 62 = o_ib (fun x y => x + y) := rfl
theorem k103_63 : z_op 103 63 = o_ist 1 3 false := rfl
theorem k103_64 : z_op 103 64 = o_iload 1 3 := rfl
theorem k103_65 : z_op 103 65 = o_iload 1 2 := rfl
theorem k103_66 : z_op 103 66 = o_ic (fun x y => y ≤ x) 92 := rfl
theorem k103_69 : z_op 103 69 = o_iload 1 1 := rfl
theorem k103_70 : z_op 103 70 = o_if (fun x => x = 0) 81 := rfl
theorem k103_73 : z_op 103 73 = o_aload 1 0 := rfl
theorem k103_74 : z_op 103 74 = o_iload 1 3 := rfl
theorem k103_75 : z_op 103 75 = o_cv 101 10 1 := rfl
theorem k103_78 : z_op 103 78 = o_goto 86 := rfl
theorem k103_81 : z_op 103 81 = o_aload 1 0 := rfl
theorem k103_82 : z_op 103 82 = o_iload 1 3 := rfl
theorem k103_83 : z_op 103 83 = o_cv 99 10 1 := rfl
theorem k103_86 : z_op 103 86 = o_iinc 3 (1) := rfl
theorem k103_89 : z_op 103 89 = o_goto 64 := rfl
theorem k103_92 : z_op 103 92 = o_iload 1 1 := rfl
theorem k103_93 : z_op 103 93 = o_if (fun x => ¬ x = 0) 112 := rfl
theorem k103_96 : z_op 103 96 = o_iload 1 2 := rfl
theorem k103_97 : z_op 103 97 = o_aload 1 0 := rfl
theorem k103_98 : z_op 103 98 = o_get 10 36 := rfl
theorem k103_101 : z_op 103 101 = o_const 1 (.int (1)) := rfl
theorem k103_102 : z_op 103 102 = o_ib (fun x y => x + y) := rfl
theorem k103_103 : z_op 103 103 = o_ic (fun x y => y < x) 112 := rfl
theorem k103_106 : z_op 103 106 = o_aload 1 0 := rfl
theorem k103_107 : z_op 103 107 = o_const 2 (.int (10)) := rfl
theorem k103_109 : z_op 103 109 = o_cv 98 10 1 := rfl
theorem k103_112 : z_op 103 112 = o_vret := rfl
theorem k104_0 : z_op 104 0 = o_aload 1 0 := rfl
theorem k104_1 : z_op 104 1 = o_get 10 37 := rfl
theorem k104_4 : z_op 104 4 = o_const 1 (.int (1)) := rfl
theorem k104_5 : z_op 104 5 = o_ib (fun x y => x - y) := rfl
theorem k104_6 : z_op 104 6 = o_ist 1 3 false := rfl
theorem k104_7 : z_op 104 7 = o_iload 1 3 := rfl
theorem k104_8 : z_op 104 8 = o_if (fun x => x < 0) 116 := rfl
theorem k104_11 : z_op 104 11 = o_aload 1 0 := rfl
theorem k104_12 : z_op 104 12 = o_get 10 41 := rfl
theorem k104_15 : z_op 104 15 = o_iload 1 3 := rfl
theorem k104_16 : z_op 104 16 = o_ald .boolean := rfl
theorem k104_17 : z_op 104 17 = o_if (fun x => ¬ x = 0) 34 := rfl
theorem k104_20 : z_op 104 20 = o_aload 1 0 := rfl
theorem k104_21 : z_op 104 21 = o_get 10 40 := rfl
theorem k104_24 : z_op 104 24 = o_iload 1 3 := rfl
theorem k104_25 : z_op 104 25 = o_ald .int := rfl
theorem k104_26 : z_op 104 26 = o_iload 1 2 := rfl
theorem k104_27 : z_op 104 27 = o_ic (fun x y => ¬ x = y) 34 := rfl
theorem k104_30 : z_op 104 30 = o_const 1 (.int (1)) := rfl
theorem k104_31 : z_op 104 31 = o_goto 35 := rfl
theorem k104_34 : z_op 104 34 = o_const 1 (.int (0)) := rfl
theorem k104_35 : z_op 104 35 = o_ist 2 4 false := rfl
theorem k104_37 : z_op 104 37 = o_const 1 (.int (0)) := rfl
theorem k104_38 : z_op 104 38 = o_ist 2 5 false := rfl
theorem k104_40 : z_op 104 40 = o_iload 2 5 := rfl
theorem k104_42 : z_op 104 42 = o_iload 1 2 := rfl
theorem k104_43 : z_op 104 43 = o_ic (fun x y => y ≤ x) 103 := rfl
theorem k104_46 : z_op 104 46 = o_iload 2 4 := rfl
theorem k104_48 : z_op 104 48 = o_if (fun x => x = 0) 103 := rfl
theorem k104_51 : z_op 104 51 = o_aload 1 0 := rfl
theorem k104_52 : z_op 104 52 = o_aload 1 0 := rfl
theorem k104_53 : z_op 104 53 = o_get 10 27 := rfl
theorem k104_56 : z_op 104 56 = o_iload 1 1 := rfl
theorem k104_57 : z_op 104 57 = o_iload 2 5 := rfl
theorem k104_59 : z_op 104 59 = o_ib (fun x y => x + y) := rfl
theorem k104_60 : z_op 104 60 = o_ald .int := rfl
theorem k104_61 : z_op 104 61 = o_cv 94 10 1 := rfl
theorem k104_64 : z_op 104 64 = o_aload 1 0 := rfl
theorem k104_65 : z_op 104 65 = o_aload 1 0 := rfl
theorem k104_66 : z_op 104 66 = o_get 10 25 := rfl
theorem k104_69 : z_op 104 69 = o_aload 1 0 := rfl
theorem k104_70 : z_op 104 70 = o_get 10 34 := rfl
theorem k104_73 : z_op 104 73 = o_aload 1 0 := rfl
theorem k104_74 : z_op 104 74 = o_get 10 38 := rfl
theorem k104_77 : z_op 104 77 = o_iload 1 3 := rfl
theorem k104_78 : z_op 104 78 = o_ald .int := rfl
theorem k104_79 : z_op 104 79 = o_ald .int := rfl
theorem k104_80 : z_op 104 80 = o_iload 2 5 := rfl
theorem k104_82 : z_op 104 82 = o_ib (fun x y => x + y) := rfl
theorem k104_83 : z_op 104 83 = o_ald .int := rfl
theorem k104_84 : z_op 104 84 = o_cv 94 10 1 := rfl
theorem k104_87 : z_op 104 87 = o_ic (fun x y => ¬ x = y) 94 := rfl
theorem k104_90 : z_op 104 90 = o_const 1 (.int (1)) := rfl
theorem k104_91 : z_op 104 91 = o_goto 95 := rfl
theorem k104_94 : z_op 104 94 = o_const 1 (.int (0)) := rfl
theorem k104_95 : z_op 104 95 = o_ist 2 4 false := rfl
theorem k104_97 : z_op 104 97 = o_iinc 5 (1) := rfl
theorem k104_100 : z_op 104 100 = o_goto 40 := rfl
theorem k104_103 : z_op 104 103 = o_iload 2 4 := rfl
theorem k104_105 : z_op 104 105 = o_if (fun x => x = 0) 110 := rfl
theorem k104_108 : z_op 104 108 = o_iload 1 3 := rfl
theorem k104_109 : z_op 104 109 = o_iret .int := rfl
theorem k104_110 : z_op 104 110 = o_iinc 3 (-1) := rfl
theorem k104_113 : z_op 104 113 = o_goto 7 := rfl
theorem k104_116 : z_op 104 116 = o_const 1 (.int (-1)) := rfl
theorem k104_117 : z_op 104 117 = o_iret .int := rfl
theorem k105_0 : z_op 105 0 = o_aload 1 0 := rfl
theorem k105_1 : z_op 105 1 = o_cv 96 10 0 := rfl
theorem k105_4 : z_op 105 4 = o_if (fun x => ¬ x = 0) 9 := rfl
theorem k105_7 : z_op 105 7 = o_const 1 (.int (0)) := rfl
theorem k105_8 : z_op 105 8 = o_iret .boolean := rfl
theorem k105_9 : z_op 105 9 = o_aload 1 0 := rfl
theorem k105_10 : z_op 105 10 = o_const 1 (.int (0)) := rfl
theorem k105_11 : z_op 105 11 = o_put 10 42 .int := rfl
theorem k105_14 : z_op 105 14 = o_const 1 (.int (0)) := rfl
theorem k105_15 : z_op 105 15 = o_ist 1 3 false := rfl
theorem k105_16 : z_op 105 16 = o_iload 1 3 := rfl
theorem k105_17 : z_op 105 17 = o_aload 1 0 := rfl
theorem k105_18 : z_op 105 18 = o_get 10 37 := rfl
theorem k105_21 : z_op 105 21 = o_ic (fun x y => y ≤ x) 37 := rfl
theorem k105_24 : z_op 105 24 = o_aload 1 0 := rfl
theorem k105_25 : z_op 105 25 = o_get 10 41 := rfl
theorem k105_28 : z_op 105 28 = o_iload 1 3 := rfl
theorem k105_29 : z_op 105 29 = o_const 1 (.int (0)) := rfl
theorem k105_30 : z_op 105 30 = o_aast .boolean := rfl
theorem k105_31 : z_op 105 31 = o_iinc 3 (1) := rfl
theorem k105_34 : z_op 105 34 = o_goto 16 := rfl
theorem k105_37 : z_op 105 37 = o_const 1 (.int (0)) := rfl
theorem k105_38 : z_op 105 38 = o_ist 1 3 false := rfl
theorem k105_39 : z_op 105 39 = o_iload 1 3 := rfl
theorem k105_40 : z_op 105 40 = o_aload 1 0 := rfl
theorem k105_41 : z_op 105 41 = o_get 10 26 := rfl
theorem k105_44 : z_op 105 44 = o_ic (fun x y => y ≤ x) 129 := rfl
theorem k105_47 : z_op 105 47 = o_const 1 (.int (0)) := rfl
theorem k105_48 : z_op 105 48 = o_ist 2 4 false := rfl
theorem k105_50 : z_op 105 50 = o_iload 1 3 := rfl
theorem k105_51 : z_op 105 51 = o_iload 2 4 := rfl
theorem k105_53 : z_op 105 53 = o_ib (fun x y => x + y) := rfl
theorem k105_54 : z_op 105 54 = o_aload 1 0 := rfl
theorem k105_55 : z_op 105 55 = o_get 10 26 := rfl
theorem k105_58 : z_op 105 58 = o_ic (fun x y => y ≤ x) 81 := rfl
theorem k105_61 : z_op 105 61 = o_aload 1 0 := rfl
theorem k105_62 : z_op 105 62 = o_get 10 27 := rfl
theorem k105_65 : z_op 105 65 = o_iload 1 3 := rfl
theorem k105_66 : z_op 105 66 = o_iload 2 4 := rfl
theorem k105_68 : z_op 105 68 = o_ib (fun x y => x + y) := rfl
theorem k105_69 : z_op 105 69 = o_ald .int := rfl
theorem k105_70 : z_op 105 70 = o_const 2 (.int (58)) := rfl
theorem k105_72 : z_op 105 72 = o_ic (fun x y => x = y) 81 := rfl
theorem k105_75 : z_op 105 75 = o_iinc 4 (1) := rfl
theorem k105_78 : z_op 105 78 = o_goto 50 := rfl
theorem k105_81 : z_op 105 81 = o_iload 2 4 := rfl
theorem k105_83 : z_op 105 83 = o_if (fun x => x ≤ 0) 96 := rfl
theorem k105_86 : z_op 105 86 = o_aload 1 0 := rfl
theorem k105_87 : z_op 105 87 = o_iload 1 3 := rfl
theorem k105_88 : z_op 105 88 = o_iload 2 4 := rfl
theorem k105_90 : z_op 105 90 = o_cv 104 10 2 := rfl
theorem k105_93 : z_op 105 93 = o_goto 97 := rfl
theorem k105_96 : z_op 105 96 = o_const 1 (.int (-1)) := rfl
theorem k105_97 : z_op 105 97 = o_ist 2 5 false := rfl
theorem k105_99 : z_op 105 99 = o_iload 2 5 := rfl
theorem k105_101 : z_op 105 101 = o_if (fun x => x < 0) 119 := rfl
theorem k105_104 : z_op 105 104 = o_aload 1 0 := rfl
theorem k105_105 : z_op 105 105 = o_get 10 41 := rfl
theorem k105_108 : z_op 105 108 = o_iload 2 5 := rfl
theorem k105_110 : z_op 105 110 = o_const 1 (.int (1)) := rfl
theorem k105_111 : z_op 105 111 = o_aast .boolean := rfl
theorem k105_112 : z_op 105 112 = o_aload 1 0 := rfl
theorem k105_113 : z_op 105 113 = o_iload 2 5 := rfl
theorem k105_115 : z_op 105 115 = o_iload 1 1 := rfl
theorem k105_116 : z_op 105 116 = o_cv 106 10 2 := rfl
theorem k105_119 : z_op 105 119 = o_iload 1 3 := rfl
theorem k105_120 : z_op 105 120 = o_iload 2 4 := rfl
theorem k105_122 : z_op 105 122 = o_ib (fun x y => x + y) := rfl
theorem k105_123 : z_op 105 123 = o_const 1 (.int (1)) := rfl
theorem k105_124 : z_op 105 124 = o_ib (fun x y => x + y) := rfl
theorem k105_125 : z_op 105 125 = o_ist 1 3 false := rfl
theorem k105_126 : z_op 105 126 = o_goto 39 := rfl
theorem k105_129 : z_op 105 129 = o_aload 1 0 := rfl
theorem k105_130 : z_op 105 130 = o_iload 1 2 := rfl
theorem k105_131 : z_op 105 131 = o_cv 103 10 1 := rfl
theorem k105_134 : z_op 105 134 = o_const 1 (.int (1)) := rfl
theorem k105_135 : z_op 105 135 = o_iret .boolean := rfl
theorem k106_0 : z_op 106 0 = o_iload 1 2 := rfl
theorem k106_1 : z_op 106 1 = o_if (fun x => x = 0) 10 := rfl
theorem k106_4 : z_op 106 4 = o_aload 1 0 := rfl
theorem k106_5 : z_op 106 5 = o_iload 1 1 := rfl
theorem k106_6 : z_op 106 6 = o_cv 100 10 1 := rfl
theorem k106_9 : z_op 106 9 = o_vret := rfl
theorem k106_10 : z_op 106 10 = o_aload 1 0 := rfl
theorem k106_11 : z_op 106 11 = o_get 10 38 := rfl
theorem k106_14 : z_op 106 14 = o_iload 1 1 := rfl
theorem k106_15 : z_op 106 15 = o_ald .int := rfl
theorem k106_16 : z_op 106 16 = o_ist 1 3 false := rfl
theorem k106_17 : z_op 106 17 = o_iload 1 3 := rfl
theorem k106_18 : z_op 106 18 = o_aload 1 0 := rfl
theorem k106_19 : z_op 106 19 = o_get 10 39 := rfl
theorem k106_22 : z_op 106 22 = o_iload 1 1 := rfl
theorem k106_23 : z_op 106 23 = o_ald .int := rfl
theorem k106_24 : z_op 106 24 = o_ic (fun x y => y < x) 38 := rfl
theorem k106_27 : z_op 106 27 = o_aload 1 0 := rfl
theorem k106_28 : z_op 106 28 = o_iload 1 3 := rfl
theorem k106_29 : z_op 106 29 = o_cv 99 10 1 := rfl
theorem k106_32 : z_op 106 32 = o_iinc 3 (1) := rfl
theorem k106_35 : z_op 106 35 = o_goto 17 := rfl
theorem k106_38 : z_op 106 38 = o_vret := rfl
theorem k107_0 : z_op 107 0 = o_aload 1 0 := rfl
theorem k107_1 : z_op 107 1 = o_iload 1 1 := rfl
theorem k107_2 : z_op 107 2 = o_iload 1 2 := rfl
theorem k107_3 : z_op 107 3 = o_cv 105 10 2 := rfl
theorem k107_6 : z_op 107 6 = o_if (fun x => x = 0) 16 := rfl
theorem k107_9 : z_op 107 9 = o_aload 1 0 := rfl
theorem k107_10 : z_op 107 10 = o_get 10 42 := rfl
theorem k107_13 : z_op 107 13 = o_goto 17 := rfl
theorem k107_16 : z_op 107 16 = o_const 1 (.int (-1)) := rfl
theorem k107_17 : z_op 107 17 = o_iret .int := rfl
theorem k108_0 : z_op 108 0 = o_aload 1 0 := rfl
theorem k108_1 : z_op 108 1 = o_iload 1 1 := rfl
theorem k108_2 : z_op 108 2 = o_iload 1 2 := rfl
theorem k108_3 : z_op 108 3 = o_cv 105 10 2 := rfl
theorem k108_6 : z_op 108 6 = o_if (fun x => x = 0) 21 := rfl
theorem k108_9 : z_op 108 9 = o_iload 1 3 := rfl
theorem k108_10 : z_op 108 10 = o_if (fun x => x < 0) 21 := rfl
theorem k108_13 : z_op 108 13 = o_iload 1 3 := rfl
theorem k108_14 : z_op 108 14 = o_aload 1 0 := rfl
theorem k108_15 : z_op 108 15 = o_get 10 42 := rfl
theorem k108_18 : z_op 108 18 = o_ic (fun x y => x < y) 25 := rfl
theorem k108_21 : z_op 108 21 = o_const 1 (.int (-1)) := rfl
theorem k108_22 : z_op 108 22 = o_goto 31 := rfl
theorem k108_25 : z_op 108 25 = o_aload 1 0 := rfl
theorem k108_26 : z_op 108 26 = o_get 10 43 := rfl
theorem k108_29 : z_op 108 29 = o_iload 1 3 := rfl
theorem k108_30 : z_op 108 30 = o_ald .int := rfl
theorem k108_31 : z_op 108 31 = o_iret .int := rfl
theorem k109_0 : z_op 109 0 = o_aload 1 0 := rfl
theorem k109_1 : z_op 109 1 = o_iload 1 1 := rfl
theorem k109_2 : z_op 109 2 = o_iload 1 2 := rfl
theorem k109_3 : z_op 109 3 = o_cv 105 10 2 := rfl
theorem k109_6 : z_op 109 6 = o_if (fun x => ¬ x = 0) 11 := rfl
theorem k109_9 : z_op 109 9 = o_const 1 (.int (-1)) := rfl
theorem k109_10 : z_op 109 10 = o_iret .int := rfl
theorem k109_11 : z_op 109 11 = o_const 1 (.long 0) := rfl
theorem k109_12 : z_op 109 12 = o_lst 1 3 := rfl
theorem k109_13 : z_op 109 13 = o_const 1 (.int (0)) := rfl
theorem k109_14 : z_op 109 14 = o_ist 2 5 true := rfl
theorem k109_16 : z_op 109 16 = o_iload 2 5 := rfl
theorem k109_18 : z_op 109 18 = o_aload 1 0 := rfl
theorem k109_19 : z_op 109 19 = o_get 10 42 := rfl
theorem k109_22 : z_op 109 22 = o_ic (fun x y => y ≤ x) 52 := rfl
theorem k109_25 : z_op 109 25 = o_const 3 (.long 257) := rfl
theorem k109_28 : z_op 109 28 = o_lload 1 3 := rfl
theorem k109_29 : z_op 109 29 = o_lb (fun x y => x * y) := rfl
theorem k109_30 : z_op 109 30 = o_aload 1 0 := rfl
theorem k109_31 : z_op 109 31 = o_get 10 43 := rfl
theorem k109_34 : z_op 109 34 = o_iload 2 5 := rfl
theorem k109_36 : z_op 109 36 = o_ald .int := rfl
theorem k109_37 : z_op 109 37 = o_i2l := rfl
theorem k109_38 : z_op 109 38 = o_lb (fun x y => x + y) := rfl
theorem k109_39 : z_op 109 39 = o_const 1 (.long 1) := rfl
theorem k109_40 : z_op 109 40 = o_lb (fun x y => x + y) := rfl
theorem k109_41 : z_op 109 41 = o_const 3 (.long 2147483647) := rfl
theorem k109_44 : z_op 109 44 = o_lbn (fun x y => x - x / y * y) := rfl
theorem k109_45 : z_op 109 45 = o_lst 1 3 := rfl
theorem k109_46 : z_op 109 46 = o_iinc 5 (1) := rfl
theorem k109_49 : z_op 109 49 = o_goto 16 := rfl
theorem k109_52 : z_op 109 52 = o_lload 1 3 := rfl
theorem k109_53 : z_op 109 53 = o_l2i := rfl
theorem k109_54 : z_op 109 54 = o_iret .int := rfl
theorem k110_0 : z_op 110 0 = o_aload 1 0 := rfl
theorem k110_1 : z_op 110 1 = o_iload 1 1 := rfl
theorem k110_2 : z_op 110 2 = o_cv 71 10 1 := rfl
theorem k110_5 : z_op 110 5 = o_if (fun x => x = 0) 10 := rfl
theorem k110_8 : z_op 110 8 = o_const 1 (.int (-1)) := rfl
theorem k110_9 : z_op 110 9 = o_iret .int := rfl
theorem k110_10 : z_op 110 10 = o_aload 1 0 := rfl
theorem k110_11 : z_op 110 11 = o_get 10 28 := rfl
theorem k110_14 : z_op 110 14 = o_const 1 (.int (3)) := rfl
theorem k110_15 : z_op 110 15 = o_ic (fun x y => ¬ x = y) 21 := rfl
theorem k110_18 : z_op 110 18 = o_const 2 (.int (-2)) := rfl
theorem k110_20 : z_op 110 20 = o_iret .int := rfl
theorem k110_21 : z_op 110 21 = o_aload 1 0 := rfl
theorem k110_22 : z_op 110 22 = o_get 10 29 := rfl
theorem k110_25 : z_op 110 25 = o_aload 1 0 := rfl
theorem k110_26 : z_op 110 26 = o_get 10 28 := rfl
theorem k110_29 : z_op 110 29 = o_iload 1 1 := rfl
theorem k110_30 : z_op 110 30 = o_aast .int := rfl
theorem k110_31 : z_op 110 31 = o_aload 1 0 := rfl
theorem k110_32 : z_op 110 32 = o_get 10 30 := rfl
theorem k110_35 : z_op 110 35 = o_aload 1 0 := rfl
theorem k110_36 : z_op 110 36 = o_get 10 28 := rfl
theorem k110_39 : z_op 110 39 = o_iload 1 2 := rfl
theorem k110_40 : z_op 110 40 = o_aast .boolean := rfl
theorem k110_41 : z_op 110 41 = o_aload 1 0 := rfl
theorem k110_42 : z_op 110 42 = o_get 10 31 := rfl
theorem k110_45 : z_op 110 45 = o_aload 1 0 := rfl
theorem k110_46 : z_op 110 46 = o_get 10 28 := rfl
theorem k110_49 : z_op 110 49 = o_iload 1 3 := rfl
theorem k110_50 : z_op 110 50 = o_aast .boolean := rfl
theorem k110_51 : z_op 110 51 = o_aload 1 0 := rfl
theorem k110_52 : z_op 110 52 = o_get 10 32 := rfl
theorem k110_55 : z_op 110 55 = o_aload 1 0 := rfl
theorem k110_56 : z_op 110 56 = o_get 10 28 := rfl
theorem k110_59 : z_op 110 59 = o_iload 2 4 := rfl
theorem k110_61 : z_op 110 61 = o_aast .int := rfl
theorem k110_62 : z_op 110 62 = o_aload 1 0 := rfl
theorem k110_63 : z_op 110 63 = o_dup := rfl
theorem k110_64 : z_op 110 64 = o_get 10 28 := rfl
theorem k110_67 : z_op 110 67 = o_const 1 (.int (1)) := rfl
theorem k110_68 : z_op 110 68 = o_ib (fun x y => x + y) := rfl
theorem k110_69 : z_op 110 69 = o_put 10 28 .int := rfl
theorem k110_72 : z_op 110 72 = o_aload 1 0 := rfl
theorem k110_73 : z_op 110 73 = o_get 10 28 := rfl
theorem k110_76 : z_op 110 76 = o_iret .int := rfl
theorem k111_0 : z_op 111 0 = o_iload 1 1 := rfl
theorem k111_1 : z_op 111 1 = o_if (fun x => x < 0) 26 := rfl
theorem k111_4 : z_op 111 4 = o_iload 1 1 := rfl
theorem k111_5 : z_op 111 5 = o_aload 1 0 := rfl
theorem k111_6 : z_op 111 6 = o_get 10 28 := rfl
theorem k111_9 : z_op 111 9 = o_ic (fun x y => y ≤ x) 26 := rfl
theorem k111_12 : z_op 111 12 = o_aload 1 0 := rfl
theorem k111_13 : z_op 111 13 = o_get 10 7 := rfl
theorem k111_16 : z_op 111 16 = o_aload 1 0 := rfl
theorem k111_17 : z_op 111 17 = o_get 10 29 := rfl
theorem k111_20 : z_op 111 20 = o_iload 1 1 := rfl
theorem k111_21 : z_op 111 21 = o_ald .int := rfl
theorem k111_22 : z_op 111 22 = o_ald .int := rfl
theorem k111_23 : z_op 111 23 = o_if (fun x => ¬ x = 0) 28 := rfl
theorem k111_26 : z_op 111 26 = o_const 1 (.int (0)) := rfl
theorem k111_27 : z_op 111 27 = o_iret .boolean := rfl
theorem k111_28 : z_op 111 28 = o_aload 1 0 := rfl
theorem k111_29 : z_op 111 29 = o_aload 1 0 := rfl
theorem k111_30 : z_op 111 30 = o_get 10 30 := rfl
theorem k111_33 : z_op 111 33 = o_iload 1 1 := rfl
theorem k111_34 : z_op 111 34 = o_ald .boolean := rfl
theorem k111_35 : z_op 111 35 = o_aload 1 0 := rfl
theorem k111_36 : z_op 111 36 = o_get 10 31 := rfl
theorem k111_39 : z_op 111 39 = o_iload 1 1 := rfl
theorem k111_40 : z_op 111 40 = o_ald .boolean := rfl
theorem k111_41 : z_op 111 41 = o_cv 109 10 2 := rfl
theorem k111_44 : z_op 111 44 = o_ist 1 2 true := rfl
theorem k111_45 : z_op 111 45 = o_iload 1 2 := rfl
theorem k111_46 : z_op 111 46 = o_if (fun x => 0 ≤ x) 51 := rfl
theorem k111_49 : z_op 111 49 = o_const 1 (.int (0)) := rfl
theorem k111_50 : z_op 111 50 = o_iret .boolean := rfl
theorem k111_51 : z_op 111 51 = o_aload 1 0 := rfl
theorem k111_52 : z_op 111 52 = o_get 10 7 := rfl
theorem k111_55 : z_op 111 55 = o_aload 1 0 := rfl
theorem k111_56 : z_op 111 56 = o_get 10 29 := rfl
theorem k111_59 : z_op 111 59 = o_iload 1 1 := rfl
theorem k111_60 : z_op 111 60 = o_ald .int := rfl
theorem k111_61 : z_op 111 61 = o_ald .int := rfl
theorem k111_62 : z_op 111 62 = o_i2l := rfl
theorem k111_63 : z_op 111 63 = o_lst 1 3 := rfl
theorem k111_64 : z_op 111 64 = o_aload 1 0 := rfl
theorem k111_65 : z_op 111 65 = o_get 10 32 := rfl
theorem k111_68 : z_op 111 68 = o_iload 1 1 := rfl
theorem k111_69 : z_op 111 69 = o_ald .int := rfl
theorem k111_70 : z_op 111 70 = o_i2l := rfl
theorem k111_71 : z_op 111 71 = o_lload 1 3 := rfl
theorem k111_72 : z_op 111 72 = o_lbn (fun x y => x - x / y * y) := rfl
theorem k111_73 : z_op 111 73 = o_lload 1 3 := rfl
theorem k111_74 : z_op 111 74 = o_lb (fun x y => x + y) := rfl
theorem k111_75 : z_op 111 75 = o_lload 1 3 := rfl
theorem k111_76 : z_op 111 76 = o_lbn (fun x y => x - x / y * y) := rfl
theorem k111_77 : z_op 111 77 = o_lst 2 5 := rfl
theorem k111_79 : z_op 111 79 = o_const 1 (.long 1) := rfl
theorem k111_80 : z_op 111 80 = o_lload 1 3 := rfl
theorem k111_81 : z_op 111 81 = o_lbn (fun x y => x - x / y * y) := rfl
theorem k111_82 : z_op 111 82 = o_lst 2 7 := rfl
theorem k111_84 : z_op 111 84 = o_const 2 (.int (30)) := rfl
theorem k111_86 : z_op 111 86 = o_ist 2 9 true := rfl
theorem k111_88 : z_op 111 88 = o_iload 2 9 := rfl
theorem k111_90 : z_op 111 90 = o_if (fun x => x < 0) 142 := rfl
theorem k111_93 : z_op 111 93 = o_lload 2 7 := rfl
theorem k111_95 : z_op 111 95 = o_lload 2 7 := rfl
theorem k111_97 : z_op 111 97 = o_lb (fun x y => x * y) := rfl
theorem k111_98 : z_op 111 98 = o_lload 1 3 := rfl
theorem k111_99 : z_op 111 99 = o_lbn (fun x y => x - x / y * y) := rfl
theorem k111_100 : z_op 111 100 = o_lst 2 7 := rfl
theorem k111_102 : z_op 111 102 = o_aload 1 0 := rfl
theorem k111_103 : z_op 111 103 = o_get 10 8 := rfl
theorem k111_106 : z_op 111 106 = o_aload 1 0 := rfl
theorem k111_107 : z_op 111 107 = o_get 10 29 := rfl
theorem k111_110 : z_op 111 110 = o_iload 1 1 := rfl
theorem k111_111 : z_op 111 111 = o_ald .int := rfl
theorem k111_112 : z_op 111 112 = o_ald .int := rfl
theorem k111_113 : z_op 111 113 = o_iload 2 9 := rfl
theorem k111_115 : z_op 111 115 = o_ib (fun x y => x >>> (y &&& 31)) := rfl
theorem k111_116 : z_op 111 116 = o_const 1 (.int (1)) := rfl
theorem k111_117 : z_op 111 117 = o_ib (fun x y => x &&& y) := rfl
theorem k111_118 : z_op 111 118 = o_const 1 (.int (1)) := rfl
theorem k111_119 : z_op 111 119 = o_ic (fun x y => ¬ x = y) 132 := rfl
theorem k111_122 : z_op 111 122 = o_lload 2 7 := rfl
theorem k111_124 : z_op 111 124 = o_lload 2 5 := rfl
theorem k111_126 : z_op 111 126 = o_lb (fun x y => x * y) := rfl
theorem k111_127 : z_op 111 127 = o_lload 1 3 := rfl
theorem k111_128 : z_op 111 128 = o_lbn (fun x y => x - x / y * y) := rfl
theorem k111_129 : z_op 111 129 = o_goto 134 := rfl
theorem k111_132 : z_op 111 132 = o_lload 2 7 := rfl
theorem k111_134 : z_op 111 134 = o_lst 2 7 := rfl
theorem k111_136 : z_op 111 136 = o_iinc 9 (-1) := rfl
theorem k111_139 : z_op 111 139 = o_goto 88 := rfl
theorem k111_142 : z_op 111 142 = o_lload 2 7 := rfl
theorem k111_144 : z_op 111 144 = o_iload 1 2 := rfl
theorem k111_145 : z_op 111 145 = o_i2l := rfl
theorem k111_146 : z_op 111 146 = o_lload 1 3 := rfl
theorem k111_147 : z_op 111 147 = o_lbn (fun x y => x - x / y * y) := rfl
theorem k111_148 : z_op 111 148 = o_lcmp := rfl
theorem k111_149 : z_op 111 149 = o_if (fun x => ¬ x = 0) 156 := rfl
theorem k111_152 : z_op 111 152 = o_const 1 (.int (1)) := rfl
theorem k111_153 : z_op 111 153 = o_goto 157 := rfl
theorem k111_156 : z_op 111 156 = o_const 1 (.int (0)) := rfl
theorem k111_157 : z_op 111 157 = o_iret .boolean := rfl
theorem k112_0 : z_op 112 0 = o_iload 1 1 := rfl
theorem k112_1 : z_op 112 1 = o_ist 1 2 false := rfl
theorem k112_2 : z_op 112 2 = o_const 1 (.int (0)) := rfl
theorem k112_3 : z_op 112 3 = o_ist 1 3 false := rfl
theorem k112_4 : z_op 112 4 = o_iload 1 3 := rfl
theorem k112_5 : z_op 112 5 = o_const 2 (.int (12)) := rfl
theorem k112_7 : z_op 112 7 = o_ic (fun x y => y ≤ x) 55 := rfl
theorem k112_10 : z_op 112 10 = o_aload 1 0 := rfl
theorem k112_11 : z_op 112 11 = o_get 10 2 := rfl
theorem k112_14 : z_op 112 14 = o_iload 1 1 := rfl
theorem k112_15 : z_op 112 15 = o_ald .boolean := rfl
theorem k112_16 : z_op 112 16 = o_if (fun x => ¬ x = 0) 55 := rfl
theorem k112_19 : z_op 112 19 = o_aload 1 0 := rfl
theorem k112_20 : z_op 112 20 = o_get 10 1 := rfl
theorem k112_23 : z_op 112 23 = o_iload 1 2 := rfl
theorem k112_24 : z_op 112 24 = o_ald .int := rfl
theorem k112_25 : z_op 112 25 = o_ist 2 4 false := rfl
theorem k112_27 : z_op 112 27 = o_iload 2 4 := rfl
theorem k112_29 : z_op 112 29 = o_if (fun x => x < 0) 47 := rfl
theorem k112_32 : z_op 112 32 = o_aload 1 0 := rfl
theorem k112_33 : z_op 112 33 = o_get 10 2 := rfl
theorem k112_36 : z_op 112 36 = o_iload 2 4 := rfl
theorem k112_38 : z_op 112 38 = o_ald .boolean := rfl
theorem k112_39 : z_op 112 39 = o_if (fun x => ¬ x = 0) 47 := rfl
theorem k112_42 : z_op 112 42 = o_iload 2 4 := rfl
theorem k112_44 : z_op 112 44 = o_goto 48 := rfl
theorem k112_47 : z_op 112 47 = o_iload 1 2 := rfl
theorem k112_48 : z_op 112 48 = o_ist 1 2 false := rfl
theorem k112_49 : z_op 112 49 = o_iinc 3 (1) := rfl
theorem k112_52 : z_op 112 52 = o_goto 4 := rfl
theorem k112_55 : z_op 112 55 = o_iload 1 2 := rfl
theorem k112_56 : z_op 112 56 = o_iret .int := rfl
theorem k113_0 : z_op 113 0 = o_iload 1 1 := rfl
theorem k113_1 : z_op 113 1 = o_iload 1 2 := rfl
theorem k113_2 : z_op 113 2 = o_ic (fun x y => x = y) 22 := rfl
theorem k113_5 : z_op 113 5 = o_iload 1 3 := rfl
theorem k113_6 : z_op 113 6 = o_if (fun x => ¬ x = 0) 26 := rfl
theorem k113_9 : z_op 113 9 = o_aload 1 0 := rfl
theorem k113_10 : z_op 113 10 = o_iload 1 1 := rfl
theorem k113_11 : z_op 113 11 = o_cv 112 10 1 := rfl
theorem k113_14 : z_op 113 14 = o_aload 1 0 := rfl
theorem k113_15 : z_op 113 15 = o_iload 1 2 := rfl
theorem k113_16 : z_op 113 16 = o_cv 112 10 1 := rfl
theorem k113_19 : z_op 113 19 = o_ic (fun x y => ¬ x = y) 26 := rfl
theorem k113_22 : z_op 113 22 = o_const 1 (.int (1)) := rfl
theorem k113_23 : z_op 113 23 = o_goto 27 := rfl
theorem k113_26 : z_op 113 26 = o_const 1 (.int (0)) := rfl
theorem k113_27 : z_op 113 27 = o_iret .boolean := rfl
theorem k114_0 : z_op 114 0 = o_aload 1 0 := rfl
theorem k114_1 : z_op 114 1 = o_iload 1 2 := rfl
theorem k114_2 : z_op 114 2 = o_cv 71 10 1 := rfl
theorem k114_5 : z_op 114 5 = o_if (fun x => ¬ x = 0) 16 := rfl
theorem k114_8 : z_op 114 8 = o_aload 1 0 := rfl
theorem k114_9 : z_op 114 9 = o_iload 1 3 := rfl
theorem k114_10 : z_op 114 10 = o_cv 71 10 1 := rfl
theorem k114_13 : z_op 114 13 = o_if (fun x => x = 0) 18 := rfl
theorem k114_16 : z_op 114 16 = o_const 1 (.int (-1)) := rfl
theorem k114_17 : z_op 114 17 = o_iret .int := rfl
theorem k114_18 : z_op 114 18 = o_aload 1 0 := rfl
theorem k114_19 : z_op 114 19 = o_iload 1 1 := rfl
theorem k114_20 : z_op 114 20 = o_iload 1 2 := rfl
theorem k114_21 : z_op 114 21 = o_cv 86 10 2 := rfl
theorem k114_24 : z_op 114 24 = o_ist 2 4 false := rfl
theorem k114_26 : z_op 114 26 = o_aload 1 0 := rfl
theorem k114_27 : z_op 114 27 = o_get 10 9 := rfl
theorem k114_30 : z_op 114 30 = o_iload 1 3 := rfl
theorem k114_31 : z_op 114 31 = o_ald .int := rfl
theorem k114_32 : z_op 114 32 = o_if (fun x => x < 0) 39 := rfl
theorem k114_35 : z_op 114 35 = o_iload 1 3 := rfl
theorem k114_36 : z_op 114 36 = o_goto 44 := rfl
theorem k114_39 : z_op 114 39 = o_aload 1 0 := rfl
theorem k114_40 : z_op 114 40 = o_iload 1 3 := rfl
theorem k114_41 : z_op 114 41 = o_cv 112 10 1 := rfl
theorem k114_44 : z_op 114 44 = o_ist 2 5 false := rfl
theorem k114_46 : z_op 114 46 = o_aload 1 0 := rfl
theorem k114_47 : z_op 114 47 = o_get 10 9 := rfl
theorem k114_50 : z_op 114 50 = o_iload 2 5 := rfl
theorem k114_52 : z_op 114 52 = o_ald .int := rfl
theorem k114_53 : z_op 114 53 = o_if (fun x => 0 ≤ x) 58 := rfl
theorem k114_56 : z_op 114 56 = o_const 1 (.int (0)) := rfl
theorem k114_57 : z_op 114 57 = o_iret .int := rfl
theorem k114_58 : z_op 114 58 = o_iload 2 4 := rfl
theorem k114_60 : z_op 114 60 = o_const 1 (.int (2)) := rfl
theorem k114_61 : z_op 114 61 = o_ic (fun x y => ¬ x = y) 84 := rfl
theorem k114_64 : z_op 114 64 = o_aload 1 0 := rfl
theorem k114_65 : z_op 114 65 = o_iload 1 2 := rfl
theorem k114_66 : z_op 114 66 = o_iload 1 3 := rfl
theorem k114_67 : z_op 114 67 = o_aload 1 0 := rfl
theorem k114_68 : z_op 114 68 = o_get 10 11 := rfl
theorem k114_71 : z_op 114 71 = o_iload 2 5 := rfl
theorem k114_73 : z_op 114 73 = o_ald .boolean := rfl
theorem k114_74 : z_op 114 74 = o_cv 113 10 3 := rfl
theorem k114_77 : z_op 114 77 = o_if (fun x => x = 0) 84 := rfl
theorem k114_80 : z_op 114 80 = o_const 1 (.int (1)) := rfl
theorem k114_81 : z_op 114 81 = o_goto 85 := rfl
theorem k114_84 : z_op 114 84 = o_const 1 (.int (0)) := rfl
theorem k114_85 : z_op 114 85 = o_ist 2 6 false := rfl
theorem k114_87 : z_op 114 87 = o_const 1 (.int (0)) := rfl
theorem k114_88 : z_op 114 88 = o_ist 2 7 false := rfl
theorem k114_90 : z_op 114 90 = o_iload 2 7 := rfl
theorem k114_92 : z_op 114 92 = o_aload 1 0 := rfl
theorem k114_93 : z_op 114 93 = o_get 10 28 := rfl
theorem k114_96 : z_op 114 96 = o_ic (fun x y => y ≤ x) 152 := rfl
theorem k114_99 : z_op 114 99 = o_aload 1 0 := rfl
theorem k114_100 : z_op 114 100 = o_iload 2 7 := rfl
theorem k114_102 : z_op 114 102 = o_cv 111 10 1 := rfl
theorem k114_105 : z_op 114 105 = o_ist 2 8 false := rfl
theorem k114_107 : z_op 114 107 = o_iload 2 6 := rfl
theorem k114_109 : z_op 114 109 = o_if (fun x => ¬ x = 0) 139 := rfl
theorem k114_112 : z_op 114 112 = o_iload 2 8 := rfl
theorem k114_114 : z_op 114 114 = o_if (fun x => x = 0) 143 := rfl
theorem k114_117 : z_op 114 117 = o_aload 1 0 := rfl
theorem k114_118 : z_op 114 118 = o_aload 1 0 := rfl
theorem k114_119 : z_op 114 119 = o_get 10 29 := rfl
theorem k114_122 : z_op 114 122 = o_iload 2 7 := rfl
theorem k114_124 : z_op 114 124 = o_ald .int := rfl
theorem k114_125 : z_op 114 125 = o_iload 1 3 := rfl
theorem k114_126 : z_op 114 126 = o_aload 1 0 := rfl
theorem k114_127 : z_op 114 127 = o_get 10 12 := rfl
theorem k114_130 : z_op 114 130 = o_iload 2 5 := rfl
theorem k114_132 : z_op 114 132 = o_ald .boolean := rfl
theorem k114_133 : z_op 114 133 = o_cv 113 10 3 := rfl
theorem k114_136 : z_op 114 136 = o_if (fun x => x = 0) 143 := rfl
theorem k114_139 : z_op 114 139 = o_const 1 (.int (1)) := rfl
theorem k114_140 : z_op 114 140 = o_goto 144 := rfl
theorem k114_143 : z_op 114 143 = o_const 1 (.int (0)) := rfl
theorem k114_144 : z_op 114 144 = o_ist 2 6 false := rfl
theorem k114_146 : z_op 114 146 = o_iinc 7 (1) := rfl
theorem k114_149 : z_op 114 149 = o_goto 90 := rfl
theorem k114_152 : z_op 114 152 = o_iload 2 6 := rfl
theorem k114_154 : z_op 114 154 = o_if (fun x => x = 0) 161 := rfl
theorem k114_157 : z_op 114 157 = o_const 1 (.int (1)) := rfl
theorem k114_158 : z_op 114 158 = o_goto 186 := rfl
theorem k114_161 : z_op 114 161 = o_const 1 (.int (2)) := rfl
theorem k114_162 : z_op 114 162 = o_iload 2 5 := rfl
theorem k114_164 : z_op 114 164 = o_iload 1 3 := rfl
theorem k114_165 : z_op 114 165 = o_ic (fun x y => ¬ x = y) 178 := rfl
theorem k114_168 : z_op 114 168 = o_aload 1 0 := rfl
theorem k114_169 : z_op 114 169 = o_get 10 9 := rfl
theorem k114_172 : z_op 114 172 = o_iload 2 5 := rfl
theorem k114_174 : z_op 114 174 = o_ald .int := rfl
theorem k114_175 : z_op 114 175 = o_goto 185 := rfl
theorem k114_178 : z_op 114 178 = o_aload 1 0 := rfl
theorem k114_179 : z_op 114 179 = o_get 10 10 := rfl
theorem k114_182 : z_op 114 182 = o_iload 2 5 := rfl
theorem k114_184 : z_op 114 184 = o_ald .int := rfl
theorem k114_185 : z_op 114 185 = o_ib (fun x y => x + y) := rfl
theorem k114_186 : z_op 114 186 = o_iret .int := rfl
theorem k115_0 : z_op 115 0 = o_new 0 8 [.null, .int 0, .null, .null, .null, .null, .null, .int 0] := rfl
theorem k115_3 : z_op 115 3 = o_dup := rfl
theorem k115_4 : z_op 115 4 = o_ci 0 0 := rfl
theorem k115_7 : z_op 115 7 = o_ast 1 1 false := rfl
theorem k115_8 : z_op 115 8 = o_new 10 44 [.int 0, .null, .null, .null, .null, .null, .null, .null, .null, .null, .null, .null, .null, .null, .null, .null, .null, .null, .int 0, .int 0, .int 0, .null, .null, .null, .int 0, .null, .int 0, .null, .int 0, .null, .null, .null, .null, .int 0, .null, .null, .int 0, .int 0, .null, .null, .null, .null, .int 0, .null] := rfl
theorem k115_11 : z_op 115 11 = o_dup := rfl
theorem k115_12 : z_op 115 12 = o_ci 70 0 := rfl
theorem k115_15 : z_op 115 15 = o_ast 1 2 false := rfl
theorem k115_16 : z_op 115 16 = o_const 1 (.int (0)) := rfl
theorem k115_17 : z_op 115 17 = o_ist 1 3 false := rfl
theorem k115_18 : z_op 115 18 = o_iload 1 3 := rfl
theorem k115_19 : z_op 115 19 = o_aload 1 0 := rfl
theorem k115_20 : z_op 115 20 = o_alen := rfl
theorem k115_21 : z_op 115 21 = o_const 2 (.int (6)) := rfl
theorem k115_23 : z_op 115 23 = o_ib (fun x y => x - y) := rfl
theorem k115_24 : z_op 115 24 = o_ic (fun x y => y < x) 935 := rfl
theorem k115_27 : z_op 115 27 = o_aload 1 0 := rfl
theorem k115_28 : z_op 115 28 = o_iload 1 3 := rfl
theorem k115_29 : z_op 115 29 = o_ald (.array .int) := rfl
theorem k115_30 : z_op 115 30 = o_const 2 (.int (31)) := rfl
theorem k115_32 : z_op 115 32 = o_ib (fun x y => x &&& y) := rfl
theorem k115_33 : z_op 115 33 = o_tab 0 [124, 173, 206, 239, 302, 345, 440, 473, 486, 499, 524, 549, 560, 573, 638, 713, 778, 863, 886] 929 := rfl
theorem k115_124 : z_op 115 124 = o_aload 1 1 := rfl
theorem k115_125 : z_op 115 125 = o_aload 1 0 := rfl
theorem k115_126 : z_op 115 126 = o_iload 1 3 := rfl
theorem k115_127 : z_op 115 127 = o_const 1 (.int (1)) := rfl
theorem k115_128 : z_op 115 128 = o_ib (fun x y => x + y) := rfl
theorem k115_129 : z_op 115 129 = o_ald (.array .int) := rfl
theorem k115_130 : z_op 115 130 = o_aload 1 0 := rfl
theorem k115_131 : z_op 115 131 = o_iload 1 3 := rfl
theorem k115_132 : z_op 115 132 = o_const 1 (.int (2)) := rfl
theorem k115_133 : z_op 115 133 = o_ib (fun x y => x + y) := rfl
theorem k115_134 : z_op 115 134 = o_ald (.array .int) := rfl
theorem k115_135 : z_op 115 135 = o_if (fun x => x = 0) 142 := rfl
theorem k115_138 : z_op 115 138 = o_const 1 (.int (1)) := rfl
theorem k115_139 : z_op 115 139 = o_goto 143 := rfl
theorem k115_142 : z_op 115 142 = o_const 1 (.int (0)) := rfl
theorem k115_143 : z_op 115 143 = o_cv 1 0 2 := rfl
theorem k115_146 : z_op 115 146 = o_aload 1 2 := rfl
theorem k115_147 : z_op 115 147 = o_aload 1 0 := rfl
theorem k115_148 : z_op 115 148 = o_iload 1 3 := rfl
theorem k115_149 : z_op 115 149 = o_const 1 (.int (1)) := rfl
theorem k115_150 : z_op 115 150 = o_ib (fun x y => x + y) := rfl
theorem k115_151 : z_op 115 151 = o_ald (.array .int) := rfl
theorem k115_152 : z_op 115 152 = o_aload 1 0 := rfl
theorem k115_153 : z_op 115 153 = o_iload 1 3 := rfl
theorem k115_154 : z_op 115 154 = o_const 1 (.int (2)) := rfl
theorem k115_155 : z_op 115 155 = o_ib (fun x y => x + y) := rfl
theorem k115_156 : z_op 115 156 = o_ald (.array .int) := rfl
theorem k115_157 : z_op 115 157 = o_if (fun x => x = 0) 164 := rfl
theorem k115_160 : z_op 115 160 = o_const 1 (.int (1)) := rfl
theorem k115_161 : z_op 115 161 = o_goto 165 := rfl
theorem k115_164 : z_op 115 164 = o_const 1 (.int (0)) := rfl
theorem k115_165 : z_op 115 165 = o_cv 72 10 2 := rfl
theorem k115_168 : z_op 115 168 = o_ic (fun x y => x = y) 929 := rfl
theorem k115_171 : z_op 115 171 = o_const 1 (.int (0)) := rfl
theorem k115_172 : z_op 115 172 = o_iret .boolean := rfl
theorem k115_173 : z_op 115 173 = o_aload 1 1 := rfl
theorem k115_174 : z_op 115 174 = o_aload 1 0 := rfl
theorem k115_175 : z_op 115 175 = o_iload 1 3 := rfl
theorem k115_176 : z_op 115 176 = o_const 1 (.int (1)) := rfl
theorem k115_177 : z_op 115 177 = o_ib (fun x y => x + y) := rfl
theorem k115_178 : z_op 115 178 = o_ald (.array .int) := rfl
theorem k115_179 : z_op 115 179 = o_aload 1 0 := rfl
theorem k115_180 : z_op 115 180 = o_iload 1 3 := rfl
theorem k115_181 : z_op 115 181 = o_const 1 (.int (2)) := rfl
theorem k115_182 : z_op 115 182 = o_ib (fun x y => x + y) := rfl
theorem k115_183 : z_op 115 183 = o_ald (.array .int) := rfl
theorem k115_184 : z_op 115 184 = o_cv 2 0 2 := rfl
theorem k115_187 : z_op 115 187 = o_aload 1 2 := rfl
theorem k115_188 : z_op 115 188 = o_aload 1 0 := rfl
theorem k115_189 : z_op 115 189 = o_iload 1 3 := rfl
theorem k115_190 : z_op 115 190 = o_const 1 (.int (1)) := rfl
theorem k115_191 : z_op 115 191 = o_ib (fun x y => x + y) := rfl
theorem k115_192 : z_op 115 192 = o_ald (.array .int) := rfl
theorem k115_193 : z_op 115 193 = o_aload 1 0 := rfl
theorem k115_194 : z_op 115 194 = o_iload 1 3 := rfl
theorem k115_195 : z_op 115 195 = o_const 1 (.int (2)) := rfl
theorem k115_196 : z_op 115 196 = o_ib (fun x y => x + y) := rfl
theorem k115_197 : z_op 115 197 = o_ald (.array .int) := rfl
theorem k115_198 : z_op 115 198 = o_cv 73 10 2 := rfl
theorem k115_201 : z_op 115 201 = o_ic (fun x y => x = y) 929 := rfl
theorem k115_204 : z_op 115 204 = o_const 1 (.int (0)) := rfl
theorem k115_205 : z_op 115 205 = o_iret .boolean := rfl
theorem k115_206 : z_op 115 206 = o_aload 1 1 := rfl
theorem k115_207 : z_op 115 207 = o_aload 1 0 := rfl
theorem k115_208 : z_op 115 208 = o_iload 1 3 := rfl
theorem k115_209 : z_op 115 209 = o_const 1 (.int (1)) := rfl
theorem k115_210 : z_op 115 210 = o_ib (fun x y => x + y) := rfl
theorem k115_211 : z_op 115 211 = o_ald (.array .int) := rfl
theorem k115_212 : z_op 115 212 = o_aload 1 0 := rfl
theorem k115_213 : z_op 115 213 = o_iload 1 3 := rfl
theorem k115_214 : z_op 115 214 = o_const 1 (.int (2)) := rfl
theorem k115_215 : z_op 115 215 = o_ib (fun x y => x + y) := rfl
theorem k115_216 : z_op 115 216 = o_ald (.array .int) := rfl
theorem k115_217 : z_op 115 217 = o_cv 3 0 2 := rfl
theorem k115_220 : z_op 115 220 = o_aload 1 2 := rfl
theorem k115_221 : z_op 115 221 = o_aload 1 0 := rfl
theorem k115_222 : z_op 115 222 = o_iload 1 3 := rfl
theorem k115_223 : z_op 115 223 = o_const 1 (.int (1)) := rfl
theorem k115_224 : z_op 115 224 = o_ib (fun x y => x + y) := rfl
theorem k115_225 : z_op 115 225 = o_ald (.array .int) := rfl
theorem k115_226 : z_op 115 226 = o_aload 1 0 := rfl
theorem k115_227 : z_op 115 227 = o_iload 1 3 := rfl
theorem k115_228 : z_op 115 228 = o_const 1 (.int (2)) := rfl
theorem k115_229 : z_op 115 229 = o_ib (fun x y => x + y) := rfl
theorem k115_230 : z_op 115 230 = o_ald (.array .int) := rfl
theorem k115_231 : z_op 115 231 = o_cv 74 10 2 := rfl
theorem k115_234 : z_op 115 234 = o_ic (fun x y => x = y) 929 := rfl
theorem k115_237 : z_op 115 237 = o_const 1 (.int (0)) := rfl
theorem k115_238 : z_op 115 238 = o_iret .boolean := rfl
theorem k115_239 : z_op 115 239 = o_aload 1 1 := rfl
theorem k115_240 : z_op 115 240 = o_aload 1 0 := rfl
theorem k115_241 : z_op 115 241 = o_iload 1 3 := rfl
theorem k115_242 : z_op 115 242 = o_const 1 (.int (1)) := rfl
theorem k115_243 : z_op 115 243 = o_ib (fun x y => x + y) := rfl
theorem k115_244 : z_op 115 244 = o_ald (.array .int) := rfl
theorem k115_245 : z_op 115 245 = o_aload 1 0 := rfl
theorem k115_246 : z_op 115 246 = o_iload 1 3 := rfl
theorem k115_247 : z_op 115 247 = o_const 1 (.int (2)) := rfl
theorem k115_248 : z_op 115 248 = o_ib (fun x y => x + y) := rfl
theorem k115_249 : z_op 115 249 = o_ald (.array .int) := rfl
theorem k115_250 : z_op 115 250 = o_aload 1 0 := rfl
theorem k115_251 : z_op 115 251 = o_iload 1 3 := rfl
theorem k115_252 : z_op 115 252 = o_const 1 (.int (3)) := rfl
theorem k115_253 : z_op 115 253 = o_ib (fun x y => x + y) := rfl
theorem k115_254 : z_op 115 254 = o_ald (.array .int) := rfl
theorem k115_255 : z_op 115 255 = o_aload 1 0 := rfl
theorem k115_256 : z_op 115 256 = o_iload 1 3 := rfl
theorem k115_257 : z_op 115 257 = o_const 1 (.int (4)) := rfl
theorem k115_258 : z_op 115 258 = o_ib (fun x y => x + y) := rfl
theorem k115_259 : z_op 115 259 = o_ald (.array .int) := rfl
theorem k115_260 : z_op 115 260 = o_aload 1 0 := rfl
theorem k115_261 : z_op 115 261 = o_iload 1 3 := rfl
theorem k115_262 : z_op 115 262 = o_const 1 (.int (5)) := rfl
theorem k115_263 : z_op 115 263 = o_ib (fun x y => x + y) := rfl
theorem k115_264 : z_op 115 264 = o_ald (.array .int) := rfl
theorem k115_265 : z_op 115 265 = o_cv 4 0 5 := rfl
theorem k115_268 : z_op 115 268 = o_aload 1 2 := rfl
theorem k115_269 : z_op 115 269 = o_aload 1 0 := rfl
theorem k115_270 : z_op 115 270 = o_iload 1 3 := rfl
theorem k115_271 : z_op 115 271 = o_const 1 (.int (1)) := rfl
theorem k115_272 : z_op 115 272 = o_ib (fun x y => x + y) := rfl
theorem k115_273 : z_op 115 273 = o_ald (.array .int) := rfl
theorem k115_274 : z_op 115 274 = o_aload 1 0 := rfl
theorem k115_275 : z_op 115 275 = o_iload 1 3 := rfl
theorem k115_276 : z_op 115 276 = o_const 1 (.int (2)) := rfl
theorem k115_277 : z_op 115 277 = o_ib (fun x y => x + y) := rfl
theorem k115_278 : z_op 115 278 = o_ald (.array .int) := rfl
theorem k115_279 : z_op 115 279 = o_aload 1 0 := rfl
theorem k115_280 : z_op 115 280 = o_iload 1 3 := rfl
theorem k115_281 : z_op 115 281 = o_const 1 (.int (3)) := rfl
theorem k115_282 : z_op 115 282 = o_ib (fun x y => x + y) := rfl
theorem k115_283 : z_op 115 283 = o_ald (.array .int) := rfl
theorem k115_284 : z_op 115 284 = o_aload 1 0 := rfl
theorem k115_285 : z_op 115 285 = o_iload 1 3 := rfl
theorem k115_286 : z_op 115 286 = o_const 1 (.int (4)) := rfl
theorem k115_287 : z_op 115 287 = o_ib (fun x y => x + y) := rfl
theorem k115_288 : z_op 115 288 = o_ald (.array .int) := rfl
theorem k115_289 : z_op 115 289 = o_aload 1 0 := rfl
theorem k115_290 : z_op 115 290 = o_iload 1 3 := rfl
theorem k115_291 : z_op 115 291 = o_const 1 (.int (5)) := rfl
theorem k115_292 : z_op 115 292 = o_ib (fun x y => x + y) := rfl
theorem k115_293 : z_op 115 293 = o_ald (.array .int) := rfl
theorem k115_294 : z_op 115 294 = o_cv 76 10 5 := rfl
theorem k115_297 : z_op 115 297 = o_ic (fun x y => x = y) 929 := rfl
theorem k115_300 : z_op 115 300 = o_const 1 (.int (0)) := rfl
theorem k115_301 : z_op 115 301 = o_iret .boolean := rfl
theorem k115_302 : z_op 115 302 = o_aload 1 1 := rfl
theorem k115_303 : z_op 115 303 = o_aload 1 0 := rfl
theorem k115_304 : z_op 115 304 = o_iload 1 3 := rfl
theorem k115_305 : z_op 115 305 = o_const 1 (.int (1)) := rfl
theorem k115_306 : z_op 115 306 = o_ib (fun x y => x + y) := rfl
theorem k115_307 : z_op 115 307 = o_ald (.array .int) := rfl
theorem k115_308 : z_op 115 308 = o_aload 1 0 := rfl
theorem k115_309 : z_op 115 309 = o_iload 1 3 := rfl
theorem k115_310 : z_op 115 310 = o_const 1 (.int (2)) := rfl
theorem k115_311 : z_op 115 311 = o_ib (fun x y => x + y) := rfl
theorem k115_312 : z_op 115 312 = o_ald (.array .int) := rfl
theorem k115_313 : z_op 115 313 = o_aload 1 0 := rfl
theorem k115_314 : z_op 115 314 = o_iload 1 3 := rfl
theorem k115_315 : z_op 115 315 = o_const 1 (.int (3)) := rfl
theorem k115_316 : z_op 115 316 = o_ib (fun x y => x + y) := rfl
theorem k115_317 : z_op 115 317 = o_ald (.array .int) := rfl
theorem k115_318 : z_op 115 318 = o_cv 5 0 3 := rfl
theorem k115_321 : z_op 115 321 = o_aload 1 2 := rfl
theorem k115_322 : z_op 115 322 = o_aload 1 0 := rfl
theorem k115_323 : z_op 115 323 = o_iload 1 3 := rfl
theorem k115_324 : z_op 115 324 = o_const 1 (.int (1)) := rfl
theorem k115_325 : z_op 115 325 = o_ib (fun x y => x + y) := rfl
theorem k115_326 : z_op 115 326 = o_ald (.array .int) := rfl
theorem k115_327 : z_op 115 327 = o_aload 1 0 := rfl
theorem k115_328 : z_op 115 328 = o_iload 1 3 := rfl
theorem k115_329 : z_op 115 329 = o_const 1 (.int (2)) := rfl
theorem k115_330 : z_op 115 330 = o_ib (fun x y => x + y) := rfl
theorem k115_331 : z_op 115 331 = o_ald (.array .int) := rfl
theorem k115_332 : z_op 115 332 = o_aload 1 0 := rfl
theorem k115_333 : z_op 115 333 = o_iload 1 3 := rfl
theorem k115_334 : z_op 115 334 = o_const 1 (.int (3)) := rfl
theorem k115_335 : z_op 115 335 = o_ib (fun x y => x + y) := rfl
theorem k115_336 : z_op 115 336 = o_ald (.array .int) := rfl
theorem k115_337 : z_op 115 337 = o_cv 77 10 3 := rfl
theorem k115_340 : z_op 115 340 = o_ic (fun x y => x = y) 929 := rfl
theorem k115_343 : z_op 115 343 = o_const 1 (.int (0)) := rfl
theorem k115_344 : z_op 115 344 = o_iret .boolean := rfl
theorem k115_345 : z_op 115 345 = o_aload 1 1 := rfl
theorem k115_346 : z_op 115 346 = o_aload 1 0 := rfl
theorem k115_347 : z_op 115 347 = o_iload 1 3 := rfl
theorem k115_348 : z_op 115 348 = o_const 1 (.int (1)) := rfl
theorem k115_349 : z_op 115 349 = o_ib (fun x y => x + y) := rfl
theorem k115_350 : z_op 115 350 = o_ald (.array .int) := rfl
theorem k115_351 : z_op 115 351 = o_aload 1 0 := rfl
theorem k115_352 : z_op 115 352 = o_iload 1 3 := rfl
theorem k115_353 : z_op 115 353 = o_const 1 (.int (2)) := rfl
theorem k115_354 : z_op 115 354 = o_ib (fun x y => x + y) := rfl
theorem k115_355 : z_op 115 355 = o_ald (.array .int) := rfl
theorem k115_356 : z_op 115 356 = o_aload 1 0 := rfl
theorem k115_357 : z_op 115 357 = o_iload 1 3 := rfl
theorem k115_358 : z_op 115 358 = o_const 1 (.int (3)) := rfl
theorem k115_359 : z_op 115 359 = o_ib (fun x y => x + y) := rfl
theorem k115_360 : z_op 115 360 = o_ald (.array .int) := rfl
theorem k115_361 : z_op 115 361 = o_aload 1 0 := rfl
theorem k115_362 : z_op 115 362 = o_iload 1 3 := rfl
theorem k115_363 : z_op 115 363 = o_const 1 (.int (4)) := rfl
theorem k115_364 : z_op 115 364 = o_ib (fun x y => x + y) := rfl
theorem k115_365 : z_op 115 365 = o_ald (.array .int) := rfl
theorem k115_366 : z_op 115 366 = o_if (fun x => x = 0) 373 := rfl
theorem k115_369 : z_op 115 369 = o_const 1 (.int (1)) := rfl
theorem k115_370 : z_op 115 370 = o_goto 374 := rfl
theorem k115_373 : z_op 115 373 = o_const 1 (.int (0)) := rfl
theorem k115_374 : z_op 115 374 = o_aload 1 0 := rfl
theorem k115_375 : z_op 115 375 = o_iload 1 3 := rfl
theorem k115_376 : z_op 115 376 = o_const 1 (.int (5)) := rfl
theorem k115_377 : z_op 115 377 = o_ib (fun x y => x + y) := rfl
theorem k115_378 : z_op 115 378 = o_ald (.array .int) := rfl
theorem k115_379 : z_op 115 379 = o_if (fun x => x = 0) 386 := rfl
theorem k115_382 : z_op 115 382 = o_const 1 (.int (1)) := rfl
theorem k115_383 : z_op 115 383 = o_goto 387 := rfl
theorem k115_386 : z_op 115 386 = o_const 1 (.int (0)) := rfl
theorem k115_387 : z_op 115 387 = o_cv 6 0 5 := rfl
theorem k115_390 : z_op 115 390 = o_aload 1 2 := rfl
theorem k115_391 : z_op 115 391 = o_aload 1 0 := rfl
theorem k115_392 : z_op 115 392 = o_iload 1 3 := rfl
theorem k115_393 : z_op 115 393 = o_const 1 (.int (1)) := rfl
theorem k115_394 : z_op 115 394 = o_ib (fun x y => x + y) := rfl
theorem k115_395 : z_op 115 395 = o_ald (.array .int) := rfl
theorem k115_396 : z_op 115 396 = o_aload 1 0 := rfl
theorem k115_397 : z_op 115 397 = o_iload 1 3 := rfl
theorem k115_398 : z_op 115 398 = o_const 1 (.int (2)) := rfl
theorem k115_399 : z_op 115 399 = o_ib (fun x y => x + y) := rfl
theorem k115_400 : z_op 115 400 = o_ald (.array .int) := rfl
theorem k115_401 : z_op 115 401 = o_aload 1 0 := rfl
theorem k115_402 : z_op 115 402 = o_iload 1 3 := rfl
theorem k115_403 : z_op 115 403 = o_const 1 (.int (3)) := rfl
theorem k115_404 : z_op 115 404 = o_ib (fun x y => x + y) := rfl
theorem k115_405 : z_op 115 405 = o_ald (.array .int) := rfl
theorem k115_406 : z_op 115 406 = o_aload 1 0 := rfl
theorem k115_407 : z_op 115 407 = o_iload 1 3 := rfl
theorem k115_408 : z_op 115 408 = o_const 1 (.int (4)) := rfl
theorem k115_409 : z_op 115 409 = o_ib (fun x y => x + y) := rfl
theorem k115_410 : z_op 115 410 = o_ald (.array .int) := rfl
theorem k115_411 : z_op 115 411 = o_if (fun x => x = 0) 418 := rfl
theorem k115_414 : z_op 115 414 = o_const 1 (.int (1)) := rfl
theorem k115_415 : z_op 115 415 = o_goto 419 := rfl
theorem k115_418 : z_op 115 418 = o_const 1 (.int (0)) := rfl
theorem k115_419 : z_op 115 419 = o_aload 1 0 := rfl
theorem k115_420 : z_op 115 420 = o_iload 1 3 := rfl
theorem k115_421 : z_op 115 421 = o_const 1 (.int (5)) := rfl
theorem k115_422 : z_op 115 422 = o_ib (fun x y => x + y) := rfl
theorem k115_423 : z_op 115 423 = o_ald (.array .int) := rfl
theorem k115_424 : z_op 115 424 = o_if (fun x => x = 0) 431 := rfl
theorem k115_427 : z_op 115 427 = o_const 1 (.int (1)) := rfl
theorem k115_428 : z_op 115 428 = o_goto 432 := rfl
theorem k115_431 : z_op 115 431 = o_const 1 (.int (0)) := rfl
theorem k115_432 : z_op 115 432 = o_cv 78 10 5 := rfl
theorem k115_435 : z_op 115 435 = o_ic (fun x y => x = y) 929 := rfl
theorem k115_438 : z_op 115 438 = o_const 1 (.int (0)) := rfl
theorem k115_439 : z_op 115 439 = o_iret .boolean := rfl
theorem k115_440 : z_op 115 440 = o_aload 1 1 := rfl
theorem k115_441 : z_op 115 441 = o_aload 1 0 := rfl
theorem k115_442 : z_op 115 442 = o_iload 1 3 := rfl
theorem k115_443 : z_op 115 443 = o_const 1 (.int (1)) := rfl
theorem k115_444 : z_op 115 444 = o_ib (fun x y => x + y) := rfl
theorem k115_445 : z_op 115 445 = o_ald (.array .int) := rfl
theorem k115_446 : z_op 115 446 = o_aload 1 0 := rfl
theorem k115_447 : z_op 115 447 = o_iload 1 3 := rfl
theorem k115_448 : z_op 115 448 = o_const 1 (.int (2)) := rfl
theorem k115_449 : z_op 115 449 = o_ib (fun x y => x + y) := rfl
theorem k115_450 : z_op 115 450 = o_ald (.array .int) := rfl
theorem k115_451 : z_op 115 451 = o_cv 7 0 2 := rfl
theorem k115_454 : z_op 115 454 = o_aload 1 2 := rfl
theorem k115_455 : z_op 115 455 = o_aload 1 0 := rfl
theorem k115_456 : z_op 115 456 = o_iload 1 3 := rfl
theorem k115_457 : z_op 115 457 = o_const 1 (.int (1)) := rfl
theorem k115_458 : z_op 115 458 = o_ib (fun x y => x + y) := rfl
theorem k115_459 : z_op 115 459 = o_ald (.array .int) := rfl
theorem k115_460 : z_op 115 460 = o_aload 1 0 := rfl
theorem k115_461 : z_op 115 461 = o_iload 1 3 := rfl
theorem k115_462 : z_op 115 462 = o_const 1 (.int (2)) := rfl
theorem k115_463 : z_op 115 463 = o_ib (fun x y => x + y) := rfl
theorem k115_464 : z_op 115 464 = o_ald (.array .int) := rfl
theorem k115_465 : z_op 115 465 = o_cv 87 10 2 := rfl
theorem k115_468 : z_op 115 468 = o_ic (fun x y => x = y) 929 := rfl
theorem k115_471 : z_op 115 471 = o_const 1 (.int (0)) := rfl
theorem k115_472 : z_op 115 472 = o_iret .boolean := rfl
theorem k115_473 : z_op 115 473 = o_aload 1 1 := rfl
theorem k115_474 : z_op 115 474 = o_cv 8 0 0 := rfl
theorem k115_477 : z_op 115 477 = o_aload 1 2 := rfl
theorem k115_478 : z_op 115 478 = o_cv 88 10 0 := rfl
theorem k115_481 : z_op 115 481 = o_ic (fun x y => x = y) 929 := rfl
theorem k115_484 : z_op 115 484 = o_const 1 (.int (0)) := rfl
theorem k115_485 : z_op 115 485 = o_iret .boolean := rfl
theorem k115_486 : z_op 115 486 = o_aload 1 1 := rfl
theorem k115_487 : z_op 115 487 = o_cv 9 0 0 := rfl
theorem k115_490 : z_op 115 490 = o_aload 1 2 := rfl
theorem k115_491 : z_op 115 491 = o_cv 89 10 0 := rfl
theorem k115_494 : z_op 115 494 = o_ic (fun x y => x = y) 929 := rfl
theorem k115_497 : z_op 115 497 = o_const 1 (.int (0)) := rfl
theorem k115_498 : z_op 115 498 = o_iret .boolean := rfl
theorem k115_499 : z_op 115 499 = o_aload 1 1 := rfl
theorem k115_500 : z_op 115 500 = o_aload 1 0 := rfl
theorem k115_501 : z_op 115 501 = o_iload 1 3 := rfl
theorem k115_502 : z_op 115 502 = o_const 1 (.int (1)) := rfl
theorem k115_503 : z_op 115 503 = o_ib (fun x y => x + y) := rfl
theorem k115_504 : z_op 115 504 = o_ald (.array .int) := rfl
theorem k115_505 : z_op 115 505 = o_i1 (fun x => (x.toUInt32 % 65536).toInt32) := rfl
theorem k115_506 : z_op 115 506 = o_cv 10 0 1 := rfl
theorem k115_509 : z_op 115 509 = o_aload 1 2 := rfl
theorem k115_510 : z_op 115 510 = o_aload 1 0 := rfl
theorem k115_511 : z_op 115 511 = o_iload 1 3 := rfl
theorem k115_512 : z_op 115 512 = o_const 1 (.int (1)) := rfl
theorem k115_513 : z_op 115 513 = o_ib (fun x y => x + y) := rfl
theorem k115_514 : z_op 115 514 = o_ald (.array .int) := rfl
theorem k115_515 : z_op 115 515 = o_i1 (fun x => (x.toUInt32 % 65536).toInt32) := rfl
theorem k115_516 : z_op 115 516 = o_cv 90 10 1 := rfl
theorem k115_519 : z_op 115 519 = o_ic (fun x y => x = y) 929 := rfl
theorem k115_522 : z_op 115 522 = o_const 1 (.int (0)) := rfl
theorem k115_523 : z_op 115 523 = o_iret .boolean := rfl
theorem k115_524 : z_op 115 524 = o_aload 1 1 := rfl
theorem k115_525 : z_op 115 525 = o_aload 1 0 := rfl
theorem k115_526 : z_op 115 526 = o_iload 1 3 := rfl
theorem k115_527 : z_op 115 527 = o_const 1 (.int (1)) := rfl
theorem k115_528 : z_op 115 528 = o_ib (fun x y => x + y) := rfl
theorem k115_529 : z_op 115 529 = o_ald (.array .int) := rfl
theorem k115_530 : z_op 115 530 = o_i1 (fun x => (x.toUInt32 % 65536).toInt32) := rfl
theorem k115_531 : z_op 115 531 = o_cv 11 0 1 := rfl
theorem k115_534 : z_op 115 534 = o_aload 1 2 := rfl
theorem k115_535 : z_op 115 535 = o_aload 1 0 := rfl
theorem k115_536 : z_op 115 536 = o_iload 1 3 := rfl
theorem k115_537 : z_op 115 537 = o_const 1 (.int (1)) := rfl
theorem k115_538 : z_op 115 538 = o_ib (fun x y => x + y) := rfl
theorem k115_539 : z_op 115 539 = o_ald (.array .int) := rfl
theorem k115_540 : z_op 115 540 = o_i1 (fun x => (x.toUInt32 % 65536).toInt32) := rfl
theorem k115_541 : z_op 115 541 = o_cv 92 10 1 := rfl
theorem k115_544 : z_op 115 544 = o_ic (fun x y => x = y) 929 := rfl
theorem k115_547 : z_op 115 547 = o_const 1 (.int (0)) := rfl
theorem k115_548 : z_op 115 548 = o_iret .boolean := rfl
theorem k115_549 : z_op 115 549 = o_aload 1 1 := rfl
theorem k115_550 : z_op 115 550 = o_cv 12 0 0 := rfl
theorem k115_553 : z_op 115 553 = o_aload 1 2 := rfl
theorem k115_554 : z_op 115 554 = o_cv 93 10 0 := rfl
theorem k115_557 : z_op 115 557 = o_goto 929 := rfl
theorem k115_560 : z_op 115 560 = o_aload 1 1 := rfl
theorem k115_561 : z_op 115 561 = o_cv 13 0 0 := rfl
theorem k115_564 : z_op 115 564 = o_aload 1 2 := rfl
theorem k115_565 : z_op 115 565 = o_cv 97 10 0 := rfl
theorem k115_568 : z_op 115 568 = o_ic (fun x y => x = y) 929 := rfl
theorem k115_571 : z_op 115 571 = o_const 1 (.int (0)) := rfl
theorem k115_572 : z_op 115 572 = o_iret .boolean := rfl
theorem k115_573 : z_op 115 573 = o_aload 1 1 := rfl
theorem k115_574 : z_op 115 574 = o_aload 1 0 := rfl
theorem k115_575 : z_op 115 575 = o_iload 1 3 := rfl
theorem k115_576 : z_op 115 576 = o_const 1 (.int (1)) := rfl
theorem k115_577 : z_op 115 577 = o_ib (fun x y => x + y) := rfl
theorem k115_578 : z_op 115 578 = o_ald (.array .int) := rfl
theorem k115_579 : z_op 115 579 = o_if (fun x => x = 0) 586 := rfl
theorem k115_582 : z_op 115 582 = o_const 1 (.int (1)) := rfl
theorem k115_583 : z_op 115 583 = o_goto 587 := rfl
theorem k115_586 : z_op 115 586 = o_const 1 (.int (0)) := rfl
theorem k115_587 : z_op 115 587 = o_aload 1 0 := rfl
theorem k115_588 : z_op 115 588 = o_iload 1 3 := rfl
theorem k115_589 : z_op 115 589 = o_const 1 (.int (2)) := rfl
theorem k115_590 : z_op 115 590 = o_ib (fun x y => x + y) := rfl
theorem k115_591 : z_op 115 591 = o_ald (.array .int) := rfl
theorem k115_592 : z_op 115 592 = o_if (fun x => x = 0) 599 := rfl
theorem k115_595 : z_op 115 595 = o_const 1 (.int (1)) := rfl
theorem k115_596 : z_op 115 596 = o_goto 600 := rfl
theorem k115_599 : z_op 115 599 = o_const 1 (.int (0)) := rfl
theorem k115_600 : z_op 115 600 = o_cv 14 0 2 := rfl
theorem k115_603 : z_op 115 603 = o_aload 1 2 := rfl
theorem k115_604 : z_op 115 604 = o_aload 1 0 := rfl
theorem k115_605 : z_op 115 605 = o_iload 1 3 := rfl
theorem k115_606 : z_op 115 606 = o_const 1 (.int (1)) := rfl
theorem k115_607 : z_op 115 607 = o_ib (fun x y => x + y) := rfl
theorem k115_608 : z_op 115 608 = o_ald (.array .int) := rfl
theorem k115_609 : z_op 115 609 = o_if (fun x => x = 0) 616 := rfl
theorem k115_612 : z_op 115 612 = o_const 1 (.int (1)) := rfl
theorem k115_613 : z_op 115 613 = o_goto 617 := rfl
theorem k115_616 : z_op 115 616 = o_const 1 (.int (0)) := rfl
theorem k115_617 : z_op 115 617 = o_aload 1 0 := rfl
theorem k115_618 : z_op 115 618 = o_iload 1 3 := rfl
theorem k115_619 : z_op 115 619 = o_const 1 (.int (2)) := rfl
theorem k115_620 : z_op 115 620 = o_ib (fun x y => x + y) := rfl
theorem k115_621 : z_op 115 621 = o_ald (.array .int) := rfl
theorem k115_622 : z_op 115 622 = o_if (fun x => x = 0) 629 := rfl
theorem k115_625 : z_op 115 625 = o_const 1 (.int (1)) := rfl
theorem k115_626 : z_op 115 626 = o_goto 630 := rfl
theorem k115_629 : z_op 115 629 = o_const 1 (.int (0)) := rfl
theorem k115_630 : z_op 115 630 = o_cv 107 10 2 := rfl
theorem k115_633 : z_op 115 633 = o_ic (fun x y => x = y) 929 := rfl
theorem k115_636 : z_op 115 636 = o_const 1 (.int (0)) := rfl
theorem k115_637 : z_op 115 637 = o_iret .boolean := rfl
theorem k115_638 : z_op 115 638 = o_aload 1 1 := rfl
theorem k115_639 : z_op 115 639 = o_aload 1 0 := rfl
theorem k115_640 : z_op 115 640 = o_iload 1 3 := rfl
theorem k115_641 : z_op 115 641 = o_const 1 (.int (1)) := rfl
theorem k115_642 : z_op 115 642 = o_ib (fun x y => x + y) := rfl
theorem k115_643 : z_op 115 643 = o_ald (.array .int) := rfl
theorem k115_644 : z_op 115 644 = o_if (fun x => x = 0) 651 := rfl
theorem k115_647 : z_op 115 647 = o_const 1 (.int (1)) := rfl
theorem k115_648 : z_op 115 648 = o_goto 652 := rfl
theorem k115_651 : z_op 115 651 = o_const 1 (.int (0)) := rfl
theorem k115_652 : z_op 115 652 = o_aload 1 0 := rfl
theorem k115_653 : z_op 115 653 = o_iload 1 3 := rfl
theorem k115_654 : z_op 115 654 = o_const 1 (.int (2)) := rfl
theorem k115_655 : z_op 115 655 = o_ib (fun x y => x + y) := rfl
theorem k115_656 : z_op 115 656 = o_ald (.array .int) := rfl
theorem k115_657 : z_op 115 657 = o_if (fun x => x = 0) 664 := rfl
theorem k115_660 : z_op 115 660 = o_const 1 (.int (1)) := rfl
theorem k115_661 : z_op 115 661 = o_goto 665 := rfl
theorem k115_664 : z_op 115 664 = o_const 1 (.int (0)) := rfl
theorem k115_665 : z_op 115 665 = o_aload 1 0 := rfl
theorem k115_666 : z_op 115 666 = o_iload 1 3 := rfl
theorem k115_667 : z_op 115 667 = o_const 1 (.int (3)) := rfl
theorem k115_668 : z_op 115 668 = o_ib (fun x y => x + y) := rfl
theorem k115_669 : z_op 115 669 = o_ald (.array .int) := rfl
theorem k115_670 : z_op 115 670 = o_cv 15 0 3 := rfl
theorem k115_673 : z_op 115 673 = o_aload 1 2 := rfl
theorem k115_674 : z_op 115 674 = o_aload 1 0 := rfl
theorem k115_675 : z_op 115 675 = o_iload 1 3 := rfl
theorem k115_676 : z_op 115 676 = o_const 1 (.int (1)) := rfl
theorem k115_677 : z_op 115 677 = o_ib (fun x y => x + y) := rfl
theorem k115_678 : z_op 115 678 = o_ald (.array .int) := rfl
theorem k115_679 : z_op 115 679 = o_if (fun x => x = 0) 686 := rfl
theorem k115_682 : z_op 115 682 = o_const 1 (.int (1)) := rfl
theorem k115_683 : z_op 115 683 = o_goto 687 := rfl
theorem k115_686 : z_op 115 686 = o_const 1 (.int (0)) := rfl
theorem k115_687 : z_op 115 687 = o_aload 1 0 := rfl
theorem k115_688 : z_op 115 688 = o_iload 1 3 := rfl
theorem k115_689 : z_op 115 689 = o_const 1 (.int (2)) := rfl
theorem k115_690 : z_op 115 690 = o_ib (fun x y => x + y) := rfl
theorem k115_691 : z_op 115 691 = o_ald (.array .int) := rfl
theorem k115_692 : z_op 115 692 = o_if (fun x => x = 0) 699 := rfl
theorem k115_695 : z_op 115 695 = o_const 1 (.int (1)) := rfl
theorem k115_696 : z_op 115 696 = o_goto 700 := rfl
theorem k115_699 : z_op 115 699 = o_const 1 (.int (0)) := rfl
theorem k115_700 : z_op 115 700 = o_aload 1 0 := rfl
theorem k115_701 : z_op 115 701 = o_iload 1 3 := rfl
theorem k115_702 : z_op 115 702 = o_const 1 (.int (3)) := rfl
theorem k115_703 : z_op 115 703 = o_ib (fun x y => x + y) := rfl
theorem k115_704 : z_op 115 704 = o_ald (.array .int) := rfl
theorem k115_705 : z_op 115 705 = o_cv 108 10 3 := rfl
theorem k115_708 : z_op 115 708 = o_ic (fun x y => x = y) 929 := rfl
theorem k115_711 : z_op 115 711 = o_const 1 (.int (0)) := rfl
theorem k115_712 : z_op 115 712 = o_iret .boolean := rfl
theorem k115_713 : z_op 115 713 = o_aload 1 1 := rfl
theorem k115_714 : z_op 115 714 = o_aload 1 0 := rfl
theorem k115_715 : z_op 115 715 = o_iload 1 3 := rfl
theorem k115_716 : z_op 115 716 = o_const 1 (.int (1)) := rfl
theorem k115_717 : z_op 115 717 = o_ib (fun x y => x + y) := rfl
theorem k115_718 : z_op 115 718 = o_ald (.array .int) := rfl
theorem k115_719 : z_op 115 719 = o_if (fun x => x = 0) 726 := rfl
theorem k115_722 : z_op 115 722 = o_const 1 (.int (1)) := rfl
theorem k115_723 : z_op 115 723 = o_goto 727 := rfl
theorem k115_726 : z_op 115 726 = o_const 1 (.int (0)) := rfl
theorem k115_727 : z_op 115 727 = o_aload 1 0 := rfl
theorem k115_728 : z_op 115 728 = o_iload 1 3 := rfl
theorem k115_729 : z_op 115 729 = o_const 1 (.int (2)) := rfl
theorem k115_730 : z_op 115 730 = o_ib (fun x y => x + y) := rfl
theorem k115_731 : z_op 115 731 = o_ald (.array .int) := rfl
theorem k115_732 : z_op 115 732 = o_if (fun x => x = 0) 739 := rfl
theorem k115_735 : z_op 115 735 = o_const 1 (.int (1)) := rfl
theorem k115_736 : z_op 115 736 = o_goto 740 := rfl
theorem k115_739 : z_op 115 739 = o_const 1 (.int (0)) := rfl
theorem k115_740 : z_op 115 740 = o_cv 16 0 2 := rfl
theorem k115_743 : z_op 115 743 = o_aload 1 2 := rfl
theorem k115_744 : z_op 115 744 = o_aload 1 0 := rfl
theorem k115_745 : z_op 115 745 = o_iload 1 3 := rfl
theorem k115_746 : z_op 115 746 = o_const 1 (.int (1)) := rfl
theorem k115_747 : z_op 115 747 = o_ib (fun x y => x + y) := rfl
theorem k115_748 : z_op 115 748 = o_ald (.array .int) := rfl
theorem k115_749 : z_op 115 749 = o_if (fun x => x = 0) 756 := rfl
theorem k115_752 : z_op 115 752 = o_const 1 (.int (1)) := rfl
theorem k115_753 : z_op 115 753 = o_goto 757 := rfl
theorem k115_756 : z_op 115 756 = o_const 1 (.int (0)) := rfl
theorem k115_757 : z_op 115 757 = o_aload 1 0 := rfl
theorem k115_758 : z_op 115 758 = o_iload 1 3 := rfl
theorem k115_759 : z_op 115 759 = o_const 1 (.int (2)) := rfl
theorem k115_760 : z_op 115 760 = o_ib (fun x y => x + y) := rfl
theorem k115_761 : z_op 115 761 = o_ald (.array .int) := rfl
theorem k115_762 : z_op 115 762 = o_if (fun x => x = 0) 769 := rfl
theorem k115_765 : z_op 115 765 = o_const 1 (.int (1)) := rfl
theorem k115_766 : z_op 115 766 = o_goto 770 := rfl
theorem k115_769 : z_op 115 769 = o_const 1 (.int (0)) := rfl
theorem k115_770 : z_op 115 770 = o_cv 109 10 2 := rfl
theorem k115_773 : z_op 115 773 = o_ic (fun x y => x = y) 929 := rfl
theorem k115_776 : z_op 115 776 = o_const 1 (.int (0)) := rfl
theorem k115_777 : z_op 115 777 = o_iret .boolean := rfl
theorem k115_778 : z_op 115 778 = o_aload 1 1 := rfl
theorem k115_779 : z_op 115 779 = o_aload 1 0 := rfl
theorem k115_780 : z_op 115 780 = o_iload 1 3 := rfl
theorem k115_781 : z_op 115 781 = o_const 1 (.int (1)) := rfl
theorem k115_782 : z_op 115 782 = o_ib (fun x y => x + y) := rfl
theorem k115_783 : z_op 115 783 = o_ald (.array .int) := rfl
theorem k115_784 : z_op 115 784 = o_aload 1 0 := rfl
theorem k115_785 : z_op 115 785 = o_iload 1 3 := rfl
theorem k115_786 : z_op 115 786 = o_const 1 (.int (2)) := rfl
theorem k115_787 : z_op 115 787 = o_ib (fun x y => x + y) := rfl
theorem k115_788 : z_op 115 788 = o_ald (.array .int) := rfl
theorem k115_789 : z_op 115 789 = o_if (fun x => x = 0) 796 := rfl
theorem k115_792 : z_op 115 792 = o_const 1 (.int (1)) := rfl
theorem k115_793 : z_op 115 793 = o_goto 797 := rfl
theorem k115_796 : z_op 115 796 = o_const 1 (.int (0)) := rfl
theorem k115_797 : z_op 115 797 = o_aload 1 0 := rfl
theorem k115_798 : z_op 115 798 = o_iload 1 3 := rfl
theorem k115_799 : z_op 115 799 = o_const 1 (.int (3)) := rfl
theorem k115_800 : z_op 115 800 = o_ib (fun x y => x + y) := rfl
theorem k115_801 : z_op 115 801 = o_ald (.array .int) := rfl
theorem k115_802 : z_op 115 802 = o_if (fun x => x = 0) 809 := rfl
theorem k115_805 : z_op 115 805 = o_const 1 (.int (1)) := rfl
theorem k115_806 : z_op 115 806 = o_goto 810 := rfl
theorem k115_809 : z_op 115 809 = o_const 1 (.int (0)) := rfl
theorem k115_810 : z_op 115 810 = o_aload 1 0 := rfl
theorem k115_811 : z_op 115 811 = o_iload 1 3 := rfl
theorem k115_812 : z_op 115 812 = o_const 1 (.int (4)) := rfl
theorem k115_813 : z_op 115 813 = o_ib (fun x y => x + y) := rfl
theorem k115_814 : z_op 115 814 = o_ald (.array .int) := rfl
theorem k115_815 : z_op 115 815 = o_cv 17 0 4 := rfl
theorem k115_818 : z_op 115 818 = o_aload 1 2 := rfl
theorem k115_819 : z_op 115 819 = o_aload 1 0 := rfl
theorem k115_820 : z_op 115 820 = o_iload 1 3 := rfl
theorem k115_821 : z_op 115 821 = o_const 1 (.int (1)) := rfl
theorem k115_822 : z_op 115 822 = o_ib (fun x y => x + y) := rfl
theorem k115_823 : z_op 115 823 = o_ald (.array .int) := rfl
theorem k115_824 : z_op 115 824 = o_aload 1 0 := rfl
theorem k115_825 : z_op 115 825 = o_iload 1 3 := rfl
theorem k115_826 : z_op 115 826 = o_const 1 (.int (2)) := rfl
theorem k115_827 : z_op 115 827 = o_ib (fun x y => x + y) := rfl
theorem k115_828 : z_op 115 828 = o_ald (.array .int) := rfl
theorem k115_829 : z_op 115 829 = o_if (fun x => x = 0) 836 := rfl
theorem k115_832 : z_op 115 832 = o_const 1 (.int (1)) := rfl
theorem k115_833 : z_op 115 833 = o_goto 837 := rfl
theorem k115_836 : z_op 115 836 = o_const 1 (.int (0)) := rfl
theorem k115_837 : z_op 115 837 = o_aload 1 0 := rfl
theorem k115_838 : z_op 115 838 = o_iload 1 3 := rfl
theorem k115_839 : z_op 115 839 = o_const 1 (.int (3)) := rfl
theorem k115_840 : z_op 115 840 = o_ib (fun x y => x + y) := rfl
theorem k115_841 : z_op 115 841 = o_ald (.array .int) := rfl
theorem k115_842 : z_op 115 842 = o_if (fun x => x = 0) 849 := rfl
theorem k115_845 : z_op 115 845 = o_const 1 (.int (1)) := rfl
theorem k115_846 : z_op 115 846 = o_goto 850 := rfl
theorem k115_849 : z_op 115 849 = o_const 1 (.int (0)) := rfl
theorem k115_850 : z_op 115 850 = o_aload 1 0 := rfl
theorem k115_851 : z_op 115 851 = o_iload 1 3 := rfl
theorem k115_852 : z_op 115 852 = o_const 1 (.int (4)) := rfl
theorem k115_853 : z_op 115 853 = o_ib (fun x y => x + y) := rfl
theorem k115_854 : z_op 115 854 = o_ald (.array .int) := rfl
theorem k115_855 : z_op 115 855 = o_cv 110 10 4 := rfl
theorem k115_858 : z_op 115 858 = o_ic (fun x y => x = y) 929 := rfl
theorem k115_861 : z_op 115 861 = o_const 1 (.int (0)) := rfl
theorem k115_862 : z_op 115 862 = o_iret .boolean := rfl
theorem k115_863 : z_op 115 863 = o_aload 1 1 := rfl
theorem k115_864 : z_op 115 864 = o_aload 1 0 := rfl
theorem k115_865 : z_op 115 865 = o_iload 1 3 := rfl
theorem k115_866 : z_op 115 866 = o_const 1 (.int (1)) := rfl
theorem k115_867 : z_op 115 867 = o_ib (fun x y => x + y) := rfl
theorem k115_868 : z_op 115 868 = o_ald (.array .int) := rfl
theorem k115_869 : z_op 115 869 = o_cv 18 0 1 := rfl
theorem k115_872 : z_op 115 872 = o_aload 1 2 := rfl
theorem k115_873 : z_op 115 873 = o_aload 1 0 := rfl
theorem k115_874 : z_op 115 874 = o_iload 1 3 := rfl
theorem k115_875 : z_op 115 875 = o_const 1 (.int (1)) := rfl
theorem k115_876 : z_op 115 876 = o_ib (fun x y => x + y) := rfl
theorem k115_877 : z_op 115 877 = o_ald (.array .int) := rfl
theorem k115_878 : z_op 115 878 = o_cv 111 10 1 := rfl
theorem k115_881 : z_op 115 881 = o_ic (fun x y => x = y) 929 := rfl
theorem k115_884 : z_op 115 884 = o_const 1 (.int (0)) := rfl
theorem k115_885 : z_op 115 885 = o_iret .boolean := rfl
theorem k115_886 : z_op 115 886 = o_aload 1 1 := rfl
theorem k115_887 : z_op 115 887 = o_aload 1 0 := rfl
theorem k115_888 : z_op 115 888 = o_iload 1 3 := rfl
theorem k115_889 : z_op 115 889 = o_const 1 (.int (1)) := rfl
theorem k115_890 : z_op 115 890 = o_ib (fun x y => x + y) := rfl
theorem k115_891 : z_op 115 891 = o_ald (.array .int) := rfl
theorem k115_892 : z_op 115 892 = o_aload 1 0 := rfl
theorem k115_893 : z_op 115 893 = o_iload 1 3 := rfl
theorem k115_894 : z_op 115 894 = o_const 1 (.int (2)) := rfl
theorem k115_895 : z_op 115 895 = o_ib (fun x y => x + y) := rfl
theorem k115_896 : z_op 115 896 = o_ald (.array .int) := rfl
theorem k115_897 : z_op 115 897 = o_aload 1 0 := rfl
theorem k115_898 : z_op 115 898 = o_iload 1 3 := rfl
theorem k115_899 : z_op 115 899 = o_const 1 (.int (3)) := rfl
theorem k115_900 : z_op 115 900 = o_ib (fun x y => x + y) := rfl
theorem k115_901 : z_op 115 901 = o_ald (.array .int) := rfl
theorem k115_902 : z_op 115 902 = o_cv 19 0 3 := rfl
theorem k115_905 : z_op 115 905 = o_aload 1 2 := rfl
theorem k115_906 : z_op 115 906 = o_aload 1 0 := rfl
theorem k115_907 : z_op 115 907 = o_iload 1 3 := rfl
theorem k115_908 : z_op 115 908 = o_const 1 (.int (1)) := rfl
theorem k115_909 : z_op 115 909 = o_ib (fun x y => x + y) := rfl
theorem k115_910 : z_op 115 910 = o_ald (.array .int) := rfl
theorem k115_911 : z_op 115 911 = o_aload 1 0 := rfl
theorem k115_912 : z_op 115 912 = o_iload 1 3 := rfl
theorem k115_913 : z_op 115 913 = o_const 1 (.int (2)) := rfl
theorem k115_914 : z_op 115 914 = o_ib (fun x y => x + y) := rfl
theorem k115_915 : z_op 115 915 = o_ald (.array .int) := rfl
theorem k115_916 : z_op 115 916 = o_aload 1 0 := rfl
theorem k115_917 : z_op 115 917 = o_iload 1 3 := rfl
theorem k115_918 : z_op 115 918 = o_const 1 (.int (3)) := rfl
theorem k115_919 : z_op 115 919 = o_ib (fun x y => x + y) := rfl
theorem k115_920 : z_op 115 920 = o_ald (.array .int) := rfl
theorem k115_921 : z_op 115 921 = o_cv 114 10 3 := rfl
theorem k115_924 : z_op 115 924 = o_ic (fun x y => x = y) 929 := rfl
theorem k115_927 : z_op 115 927 = o_const 1 (.int (0)) := rfl
theorem k115_928 : z_op 115 928 = o_iret .boolean := rfl
theorem k115_929 : z_op 115 929 = o_iinc 3 (6) := rfl
theorem k115_932 : z_op 115 932 = o_goto 18 := rfl
theorem k115_935 : z_op 115 935 = o_const 1 (.int (1)) := rfl
theorem k115_936 : z_op 115 936 = o_iret .boolean := rfl
theorem k116_0 : z_op 116 0 = o_iload 1 0 := rfl
theorem k116_1 : z_op 116 1 = o_iload 1 1 := rfl
theorem k116_2 : z_op 116 2 = o_ibn (fun x y => x - x / y * y) := rfl
theorem k116_3 : z_op 116 3 = o_ist 1 2 false := rfl
theorem k116_4 : z_op 116 4 = o_iload 1 0 := rfl
theorem k116_5 : z_op 116 5 = o_iload 1 1 := rfl
theorem k116_6 : z_op 116 6 = o_ib (fun x y => x ^^^ y) := rfl
theorem k116_7 : z_op 116 7 = o_if (fun x => 0 ≤ x) 18 := rfl
theorem k116_10 : z_op 116 10 = o_iload 1 2 := rfl
theorem k116_11 : z_op 116 11 = o_if (fun x => x = 0) 18 := rfl
theorem k116_14 : z_op 116 14 = o_iload 1 2 := rfl
theorem k116_15 : z_op 116 15 = o_iload 1 1 := rfl
theorem k116_16 : z_op 116 16 = o_ib (fun x y => x + y) := rfl
theorem k116_17 : z_op 116 17 = o_iret .int := rfl
theorem k116_18 : z_op 116 18 = o_iload 1 2 := rfl
theorem k116_19 : z_op 116 19 = o_iret .int := rfl
