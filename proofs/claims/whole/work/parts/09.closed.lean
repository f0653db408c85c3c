/-! ===== made by wip/prog/gen8.py: all operations are sound ===== -/
def z_All2 (l : Launch) (scr B : Nat) (D : va_G) (M : Nat) : Nat → List (List zO) → Prop
  | _, [] => True
  | i, t :: ts => z_All l scr B D M (64 * i) t ∧ z_All2 l scr B D M (i + 1) ts
theorem z_All2.at {l : Launch} {scr B : Nat} {D : va_G} {M : Nat} : ∀ (ts : List (List zO)) (i j k : Nat), z_All2 l scr B D M i ts → z_OK l scr B D M (64 * (i + j) + k) ((ts.getD j []).getD k o_bad)
  | [], i, j, k, _ => by
    rw [List.getD_nil, List.getD_nil]
    exact ok_bad
  | t :: ts, i, 0, k, h => by
    rw [List.getD_cons_zero]
    exact h.1.at t (64 * i) k
  | t :: ts, i, j + 1, k, h => by
    rw [List.getD_cons_succ, show i + (j + 1) = i + 1 + j by omega]
    exact z_All2.at ts (i + 1) j k h.2
def z_All3 (l : Launch) (scr B : Nat) (D : va_G) : Nat → List (List (List zO)) → Prop
  | _, [] => True
  | i, t :: ts => z_All2 l scr B D i 0 t ∧ z_All3 l scr B D (i + 1) ts
theorem z_All3.at {l : Launch} {scr B : Nat} {D : va_G} : ∀ (ts : List (List (List zO))) (i j pc : Nat), z_All3 l scr B D i ts → z_OK l scr B D (i + j) pc (((ts.getD j []).getD (pc / 64) []).getD (pc % 64) o_bad)
  | [], i, j, pc, _ => by
    rw [List.getD_nil, List.getD_nil, List.getD_nil]
    exact ok_bad
  | t :: ts, i, 0, pc, h => by
    rw [List.getD_cons_zero]
    have := z_All2.at t 0 (pc / 64) (pc % 64) h.1
    rw [Nat.zero_add, Nat.div_add_mod] at this
    exact this
  | t :: ts, i, j + 1, pc, h => by
    rw [List.getD_cons_succ, show i + (j + 1) = i + 1 + j by omega]
    exact z_All3.at ts (i + 1) j pc h.2
def z_All4 (l : Launch) (scr B : Nat) (D : va_G) : Nat → List (List (List (List zO))) → Prop
  | _, [] => True
  | i, t :: ts => z_All3 l scr B D (30 * i) t ∧ z_All4 l scr B D (i + 1) ts
theorem z_All4.at {l : Launch} {scr B : Nat} {D : va_G} : ∀ (ts : List (List (List (List zO)))) (i j k pc : Nat), z_All4 l scr B D i ts → z_OK l scr B D (30 * (i + j) + k) pc ((((ts.getD j []).getD k []).getD (pc / 64) []).getD (pc % 64) o_bad)
  | [], i, j, k, pc, _ => by
    rw [List.getD_nil, List.getD_nil, List.getD_nil, List.getD_nil]
    exact ok_bad
  | t :: ts, i, 0, k, pc, h => by
    rw [List.getD_cons_zero]
    exact z_All3.at t (30 * i) k pc h.1
  | t :: ts, i, j + 1, k, pc, h => by
    rw [List.getD_cons_succ, show i + (j + 1) = i + 1 + j by omega]
    exact z_All4.at ts (i + 1) j k pc h.2
theorem z_ok3_0 (l : Launch) (scr B : Nat) (D : va_G) : z_All3 l scr B D 0 z_tb0 := by
  refine And.intro (And.intro (zk0_0 l scr B D) (And.intro (zk0_1 l scr B D) (trivial))) ?_
  refine And.intro (And.intro (zk1_0 l scr B D) (trivial)) ?_
  refine And.intro (And.intro (zk2_0 l scr B D) (trivial)) ?_
  refine And.intro (And.intro (zk3_0 l scr B D) (trivial)) ?_
  refine And.intro (And.intro (zk4_0 l scr B D) (And.intro (zk4_1 l scr B D) (And.intro (zk4_2 l scr B D) (trivial)))) ?_
  refine And.intro (And.intro (zk5_0 l scr B D) (trivial)) ?_
  refine And.intro (And.intro (zk6_0 l scr B D) (trivial)) ?_
  refine And.intro (And.intro (zk7_0 l scr B D) (trivial)) ?_
  refine And.intro (And.intro (zk8_0 l scr B D) (trivial)) ?_
  refine And.intro (And.intro (zk9_0 l scr B D) (trivial)) ?_
  refine And.intro (And.intro (zk10_0 l scr B D) (trivial)) ?_
  refine And.intro (And.intro (zk11_0 l scr B D) (trivial)) ?_
  refine And.intro (And.intro (zk12_0 l scr B D) (trivial)) ?_
  refine And.intro (And.intro (zk13_0 l scr B D) (trivial)) ?_
  refine And.intro (And.intro (zk14_0 l scr B D) (trivial)) ?_
  refine And.intro (And.intro (zk15_0 l scr B D) (trivial)) ?_
  refine And.intro (And.intro (zk16_0 l scr B D) (trivial)) ?_
  refine And.intro (And.intro (zk17_0 l scr B D) (trivial)) ?_
  refine And.intro (And.intro (zk18_0 l scr B D) (trivial)) ?_
  refine And.intro (And.intro (zk19_0 l scr B D) (And.intro (zk19_1 l scr B D) (And.intro (zk19_2 l scr B D) (trivial)))) ?_
  refine And.intro (And.intro (zk20_0 l scr B D) (trivial)) ?_
  refine And.intro (And.intro (zk21_0 l scr B D) (trivial)) ?_
  refine And.intro (And.intro (zk22_0 l scr B D) (trivial)) ?_
  refine And.intro (And.intro (zk23_0 l scr B D) (trivial)) ?_
  refine And.intro (And.intro (zk24_0 l scr B D) (trivial)) ?_
  refine And.intro (And.intro (zk25_0 l scr B D) (trivial)) ?_
  refine And.intro (And.intro (zk26_0 l scr B D) (trivial)) ?_
  refine And.intro (And.intro (zk27_0 l scr B D) (trivial)) ?_
  refine And.intro (And.intro (zk28_0 l scr B D) (trivial)) ?_
  refine And.intro (And.intro (zk29_0 l scr B D) (trivial)) ?_
  exact trivial
theorem z_ok3_1 (l : Launch) (scr B : Nat) (D : va_G) : z_All3 l scr B D 30 z_tb1 := by
  refine And.intro (And.intro (zk30_0 l scr B D) (trivial)) ?_
  refine And.intro (And.intro (zk31_0 l scr B D) (trivial)) ?_
  refine And.intro (And.intro (zk32_0 l scr B D) (trivial)) ?_
  refine And.intro (And.intro (zk33_0 l scr B D) (trivial)) ?_
  refine And.intro (And.intro (zk34_0 l scr B D) (trivial)) ?_
  refine And.intro (And.intro (zk35_0 l scr B D) (trivial)) ?_
  refine And.intro (And.intro (zk36_0 l scr B D) (trivial)) ?_
  refine And.intro (And.intro (zk37_0 l scr B D) (And.intro (zk37_1 l scr B D) (trivial))) ?_
  refine And.intro (And.intro (zk38_0 l scr B D) (trivial)) ?_
  refine And.intro (And.intro (zk39_0 l scr B D) (And.intro (zk39_1 l scr B D) (And.intro (zk39_2 l scr B D) (trivial)))) ?_
  refine And.intro (And.intro (zk40_0 l scr B D) (trivial)) ?_
  refine And.intro (And.intro (zk41_0 l scr B D) (trivial)) ?_
  refine And.intro (And.intro (zk42_0 l scr B D) (trivial)) ?_
  refine And.intro (And.intro (zk43_0 l scr B D) (trivial)) ?_
  refine And.intro (And.intro (zk44_0 l scr B D) (trivial)) ?_
  refine And.intro (And.intro (zk45_0 l scr B D) (trivial)) ?_
  refine And.intro (And.intro (zk46_0 l scr B D) (trivial)) ?_
  refine And.intro (And.intro (zk47_0 l scr B D) (And.intro (zk47_1 l scr B D) (trivial))) ?_
  refine And.intro (And.intro (zk48_0 l scr B D) (And.intro (zk48_1 l scr B D) (trivial))) ?_
  refine And.intro (And.intro (zk49_0 l scr B D) (And.intro (zk49_1 l scr B D) (trivial))) ?_
  refine And.intro (And.intro (zk50_0 l scr B D) (And.intro (zk50_1 l scr B D) (trivial))) ?_
  refine And.intro (And.intro (zk51_0 l scr B D) (And.intro (zk51_1 l scr B D) (trivial))) ?_
  refine And.intro (And.intro (zk52_0 l scr B D) (And.intro (zk52_1 l scr B D) (trivial))) ?_
  refine And.intro (And.intro (zk53_0 l scr B D) (And.intro (zk53_1 l scr B D) (And.intro (zk53_2 l scr B D) (trivial)))) ?_
  refine And.intro (And.intro (zk54_0 l scr B D) (trivial)) ?_
  refine And.intro (And.intro (zk55_0 l scr B D) (And.intro (zk55_1 l scr B D) (trivial))) ?_
  refine And.intro (And.intro (zk56_0 l scr B D) (trivial)) ?_
  refine And.intro (And.intro (zk57_0 l scr B D) (And.intro (zk57_1 l scr B D) (trivial))) ?_
  refine And.intro (And.intro (zk58_0 l scr B D) (trivial)) ?_
  refine And.intro (And.intro (zk59_0 l scr B D) (And.intro (zk59_1 l scr B D) (trivial))) ?_
  exact trivial
theorem z_ok3_2 (l : Launch) (scr B : Nat) (D : va_G) : z_All3 l scr B D 60 z_tb2 := by
  refine And.intro (And.intro (zk60_0 l scr B D) (trivial)) ?_
  refine And.intro (And.intro (zk61_0 l scr B D) (trivial)) ?_
  refine And.intro (And.intro (zk62_0 l scr B D) (trivial)) ?_
  refine And.intro (And.intro (zk63_0 l scr B D) (trivial)) ?_
  refine And.intro (And.intro (zk64_0 l scr B D) (trivial)) ?_
  refine And.intro (And.intro (zk65_0 l scr B D) (trivial)) ?_
  refine And.intro (And.intro (zk66_0 l scr B D) (trivial)) ?_
  refine And.intro (And.intro (zk67_0 l scr B D) (trivial)) ?_
  refine And.intro (And.intro (zk68_0 l scr B D) (And.intro (zk68_1 l scr B D) (trivial))) ?_
  refine And.intro (And.intro (zk69_0 l scr B D) (trivial)) ?_
  refine And.intro (And.intro (zk70_0 l scr B D) (And.intro (zk70_1 l scr B D) (And.intro (zk70_2 l scr B D) (And.intro (zk70_3 l scr B D) (And.intro (zk70_4 l scr B D) (trivial)))))) ?_
  refine And.intro (And.intro (zk71_0 l scr B D) (trivial)) ?_
  refine And.intro (And.intro (zk72_0 l scr B D) (And.intro (zk72_1 l scr B D) (trivial))) ?_
  refine And.intro (And.intro (zk73_0 l scr B D) (trivial)) ?_
  refine And.intro (And.intro (zk74_0 l scr B D) (trivial)) ?_
  refine And.intro (And.intro (zk75_0 l scr B D) (trivial)) ?_
  refine And.intro (And.intro (zk76_0 l scr B D) (And.intro (zk76_1 l scr B D) (And.intro (zk76_2 l scr B D) (trivial)))) ?_
  refine And.intro (And.intro (zk77_0 l scr B D) (trivial)) ?_
  refine And.intro (And.intro (zk78_0 l scr B D) (trivial)) ?_
  refine And.intro (And.intro (zk79_0 l scr B D) (trivial)) ?_
  refine And.intro (And.intro (zk80_0 l scr B D) (trivial)) ?_
  refine And.intro (And.intro (zk81_0 l scr B D) (trivial)) ?_
  refine And.intro (And.intro (zk82_0 l scr B D) (trivial)) ?_
  refine And.intro (And.intro (zk83_0 l scr B D) (And.intro (zk83_1 l scr B D) (And.intro (zk83_2 l scr B D) (And.intro (zk83_3 l scr B D) (And.intro (zk83_4 l scr B D) (trivial)))))) ?_
  refine And.intro (And.intro (zk84_0 l scr B D) (trivial)) ?_
  refine And.intro (And.intro (zk85_0 l scr B D) (And.intro (zk85_1 l scr B D) (And.intro (zk85_2 l scr B D) (trivial)))) ?_
  refine And.intro (And.intro (zk86_0 l scr B D) (And.intro (zk86_1 l scr B D) (And.intro (zk86_2 l scr B D) (And.intro (zk86_3 l scr B D) (trivial))))) ?_
  refine And.intro (And.intro (zk87_0 l scr B D) (trivial)) ?_
  refine And.intro (And.intro (zk88_0 l scr B D) (trivial)) ?_
  refine And.intro (And.intro (zk89_0 l scr B D) (trivial)) ?_
  exact trivial
theorem z_ok3_3 (l : Launch) (scr B : Nat) (D : va_G) : z_All3 l scr B D 90 z_tb3 := by
  refine And.intro (And.intro (zk90_0 l scr B D) (trivial)) ?_
  refine And.intro (And.intro (zk91_0 l scr B D) (trivial)) ?_
  refine And.intro (And.intro (zk92_0 l scr B D) (trivial)) ?_
  refine And.intro (And.intro (zk93_0 l scr B D) (trivial)) ?_
  refine And.intro (And.intro (zk94_0 l scr B D) (trivial)) ?_
  refine And.intro (And.intro (zk95_0 l scr B D) (And.intro (zk95_1 l scr B D) (And.intro (zk95_2 l scr B D) (trivial)))) ?_
  refine And.intro (And.intro (zk96_0 l scr B D) (And.intro (zk96_1 l scr B D) (And.intro (zk96_2 l scr B D) (And.intro (zk96_3 l scr B D) (trivial))))) ?_
  refine And.intro (And.intro (zk97_0 l scr B D) (trivial)) ?_
  refine And.intro (And.intro (zk98_0 l scr B D) (trivial)) ?_
  refine And.intro (And.intro (zk99_0 l scr B D) (trivial)) ?_
  refine And.intro (And.intro (zk100_0 l scr B D) (And.intro (zk100_1 l scr B D) (And.intro (zk100_2 l scr B D) (trivial)))) ?_
  refine And.intro (And.intro (zk101_0 l scr B D) (And.intro (zk101_1 l scr B D) (trivial))) ?_
  refine And.intro (And.intro (zk102_0 l scr B D) (trivial)) ?_
  refine And.intro (And.intro (zk103_0 l scr B D) (And.intro (zk103_1 l scr B D) (trivial))) ?_
  refine And.intro (And.intro (zk104_0 l scr B D) (And.intro (zk104_1 l scr B D) (trivial))) ?_
  refine And.intro (And.intro (zk105_0 l scr B D) (And.intro (zk105_1 l scr B D) (And.intro (zk105_2 l scr B D) (trivial)))) ?_
  refine And.intro (And.intro (zk106_0 l scr B D) (trivial)) ?_
  refine And.intro (And.intro (zk107_0 l scr B D) (trivial)) ?_
  refine And.intro (And.intro (zk108_0 l scr B D) (trivial)) ?_
  refine And.intro (And.intro (zk109_0 l scr B D) (trivial)) ?_
  refine And.intro (And.intro (zk110_0 l scr B D) (And.intro (zk110_1 l scr B D) (trivial))) ?_
  refine And.intro (And.intro (zk111_0 l scr B D) (And.intro (zk111_1 l scr B D) (And.intro (zk111_2 l scr B D) (trivial)))) ?_
  refine And.intro (And.intro (zk112_0 l scr B D) (trivial)) ?_
  refine And.intro (And.intro (zk113_0 l scr B D) (trivial)) ?_
  refine And.intro (And.intro (zk114_0 l scr B D) (And.intro (zk114_1 l scr B D) (And.intro (zk114_2 l scr B D) (trivial)))) ?_
  refine And.intro (And.intro (zk115_0 l scr B D) (And.intro (zk115_1 l scr B D) (And.intro (zk115_2 l scr B D) (And.intro (zk115_3 l scr B D) (And.intro (zk115_4 l scr B D) (And.intro (zk115_5 l scr B D) (And.intro (zk115_6 l scr B D) (And.intro (zk115_7 l scr B D) (And.intro (zk115_8 l scr B D) (And.intro (zk115_9 l scr B D) (And.intro (zk115_10 l scr B D) (And.intro (zk115_11 l scr B D) (And.intro (zk115_12 l scr B D) (And.intro (zk115_13 l scr B D) (And.intro (zk115_14 l scr B D) (trivial)))))))))))))))) ?_
  refine And.intro (And.intro (zk116_0 l scr B D) (trivial)) ?_
  exact trivial
theorem z_allok (l : Launch) (scr B : Nat) (D : va_G) (M pc : Nat) : z_OK l scr B D M pc (z_op M pc) := by
  have h := z_All4.at z_tbs 0 (M / 30) (M % 30) pc (l := l) (scr := scr) (B := B) (D := D) (And.intro (z_ok3_0 l scr B D) (And.intro (z_ok3_1 l scr B D) (And.intro (z_ok3_2 l scr B D) (And.intro (z_ok3_3 l scr B D) (trivial)))))
  rw [Nat.zero_add, Nat.div_add_mod] at h
  exact h
theorem z_closed (l : Launch) (scr B : Nat) (D : va_G) : z_cl (z_W l scr B D) := fun d M pc L S h r ho => z_allok l scr B D M pc d L S h r ho
theorem z_kn : ∀ (c : Nat) (q : vw_C), zcl[c]? = some q → ∃ n, Jvm.Cond.instantiable q.1 n ∈ z_ws ∧ ∀ w ∈ u_ws q.1 q.2.1 q.2.2, w ∈ z_ws := by
  intro c q h
  cases c with
  | zero => cases h; exact ⟨_, zw14, z_i0⟩
  | succ c =>
  cases c with
  | zero => cases h; exact ⟨_, zw158, z_i1⟩
  | succ c =>
  cases c with
  | zero => cases h; exact ⟨_, zw24, z_i2⟩
  | succ c =>
  cases c with
  | zero => cases h; exact ⟨_, zw42, z_i3⟩
  | succ c =>
  cases c with
  | zero => cases h; exact ⟨_, zw48, z_i4⟩
  | succ c =>
  cases c with
  | zero => cases h; exact ⟨_, zw54, z_i5⟩
  | succ c =>
  cases c with
  | zero => cases h; exact ⟨_, zw484, z_i6⟩
  | succ c =>
  cases c with
  | zero => cases h; exact ⟨_, zw243, z_i7⟩
  | succ c =>
  cases c with
  | zero => cases h; exact ⟨_, zw279, z_i8⟩
  | succ c =>
  cases c with
  | zero => cases h; exact ⟨_, zw299, z_i9⟩
  | succ c =>
  cases c with
  | zero => cases h; exact ⟨_, zw535, z_i10⟩
  | succ c =>
  cases h
