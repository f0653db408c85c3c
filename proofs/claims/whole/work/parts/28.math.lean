/-! Numbers: remainders of ints and longs, powers; the canonical form's signs, so the digest is no negative number. -/
theorem z_r64 {z M : Int} (h1 : -(2 : Int) ^ 63 ≤ z) (h2 : z < 2 ^ 63) (h3 : 0 < M) (h4 : M < 2 ^ 63) : Int64.ofInt z - Int64.ofInt z / Int64.ofInt M * Int64.ofInt M = Int64.ofInt (z.tmod M) := by
  have m1 : Int64.minValue.toInt = -2 ^ 63 := by decide +kernel
  have m2 : Int64.maxValue.toInt = 2 ^ 63 - 1 := by decide +kernel
  rw [← Int64.ofInt_tdiv (by omega) (by omega) (by omega) (by omega), ← Int64.ofInt_mul, ← Int64.ofInt_sub, Int.tmod_def, Int.mul_comm]
theorem z_r32 {z M : Int} (h1 : -(2 : Int) ^ 31 ≤ z) (h2 : z < 2 ^ 31) (h3 : 0 < M) (h4 : M < 2 ^ 31) : Int32.ofInt z - Int32.ofInt z / Int32.ofInt M * Int32.ofInt M = Int32.ofInt (z.tmod M) := by
  have m1 : Int32.minValue.toInt = -2 ^ 31 := by decide +kernel
  have m2 : Int32.maxValue.toInt = 2 ^ 31 - 1 := by decide +kernel
  rw [← Int32.ofInt_tdiv (by omega) (by omega) (by omega) (by omega), ← Int32.ofInt_mul, ← Int32.ofInt_sub, Int.tmod_def, Int.mul_comm]
theorem z_lN (n : Nat) : lN n = Int64.ofInt (n : Int) := Int64.ofInt_eq_ofNat.symm
theorem z_nI (n : Nat) : nI n = Int32.ofInt (n : Int) := Int32.ofInt_eq_ofNat.symm
/-- the rest of a long that is no negative number -/
theorem z_lm {X M : Nat} (hX : X < 2 ^ 63) (h0 : 0 < M) (hM : M < 2 ^ 63) : lN X - lN X / lN M * lN M = lN (X % M) := by
  rw [z_lN, z_lN M, z_r64 (by omega) (by omega) (by omega) (by omega), z_lN, Int.ofNat_tmod]
theorem z_im {X M : Nat} (hX : X < 2 ^ 31) (h0 : 0 < M) (hM : M < 2 ^ 31) : nI X - nI X / nI M * nI M = nI (X % M) := by
  rw [z_nI, z_nI M, z_r32 (by omega) (by omega) (by omega) (by omega), z_nI, Int.ofNat_tmod]
/-- a number's residue -/
def z_rs2 (x : Int32) (M : Nat) : Nat := (x.toInt % (M : Int)).toNat
theorem z_rs2_lt (x : Int32) {M : Nat} (h : 0 < M) : z_rs2 x M < M := by
  have := Int.emod_lt_of_pos x.toInt (show (0 : Int) < M by omega)
  have := Int.emod_nonneg x.toInt (show (M : Int) ≠ 0 by omega)
  unfold z_rs2
  omega
theorem z_rs2_cast (x : Int32) {M : Nat} (h : 0 < M) : (z_rs2 x M : Int) = x.toInt % (M : Int) := by
  have := Int.emod_nonneg x.toInt (show (M : Int) ≠ 0 by omega)
  unfold z_rs2
  omega
theorem z_x64 (x : Int32) : x.toInt64 = Int64.ofInt x.toInt := by rw [← Int32.toInt_toInt64, Int64.ofInt_toInt]
theorem z_tme (z : Int) {M : Int} (h : 0 < M) : z.tmod M = z % M ∨ (z < 0 ∧ 0 < z % M ∧ z.tmod M = z % M - M) := by
  have h0 := Int.emod_nonneg z (show M ≠ 0 by omega)
  rw [Int.tmod_eq_emod]
  split
  · left; omega
  · rename_i c
    right
    have c1 : ¬ 0 ≤ z := fun y => c (Or.inl y)
    have c2 : ¬ z % M = 0 := fun y => c (Or.inr (Int.dvd_of_emod_eq_zero y))
    omega
/-- the model's residue -/
theorem z_smM (x : Int32) {M : Nat} (h0 : 0 < M) (hM : M < 2 ^ 31) : (x.toInt64 - x.toInt64 / lN M * lN M + lN M) - (x.toInt64 - x.toInt64 / lN M * lN M + lN M) / lN M * lN M = lN (z_rs2 x M) := by
  have a1 := x.le_toInt
  have a2 := x.toInt_lt
  have b0 := Int.emod_nonneg x.toInt (show (M : Int) ≠ 0 by omega)
  have b1 := Int.emod_lt_of_pos x.toInt (show (0 : Int) < M by omega)
  rw [z_x64, z_lN M, z_r64 (by omega) (by omega) (by omega) (by omega), ← Int64.ofInt_add, z_lN, z_rs2_cast x h0]
  rcases z_tme x.toInt (show (0 : Int) < M by omega) with e | ⟨_, _, e⟩
  · rw [e, z_r64 (by omega) (by omega) (by omega) (by omega), Int.tmod_eq_emod_of_nonneg (by omega), Int.add_emod_right, Int.emod_emod]
  · rw [e, Int.sub_add_cancel, z_r64 (by omega) (by omega) (by omega) (by omega), Int.tmod_eq_emod_of_nonneg (by omega), Int.emod_emod]
/-- the class's residue -/
theorem z_smC (x : Int32) {M : Nat} (h0 : 0 < M) (hM : M < 2 ^ 31) : (if 0 ≤ x ^^^ nI M then x - x / nI M * nI M else if x - x / nI M * nI M = 0 then x - x / nI M * nI M else x - x / nI M * nI M + nI M) = nI (z_rs2 x M) := by
  have a1 := x.le_toInt
  have a2 := x.toInt_lt
  have b0 := Int.emod_nonneg x.toInt (show (M : Int) ≠ 0 by omega)
  have b1 := Int.emod_lt_of_pos x.toInt (show (0 : Int) < M by omega)
  have hx : (0 ≤ x ^^^ nI M) ↔ 0 ≤ x.toInt := by
    have e1 : (0 ≤ x ^^^ nI M) ↔ (x ^^^ nI M).toBitVec.msb = false := by
      rw [Int32.le_iff_toInt_le]
      show 0 ≤ (x ^^^ nI M).toBitVec.toInt ↔ _
      rw [BitVec.msb_eq_toInt]
      simp
    have e2 : (nI M).toBitVec.msb = false := by
      rw [BitVec.msb_eq_toInt]
      have := nI_toInt hM
      have h : (nI M).toBitVec.toInt = (M : Int) := this
      rw [h]
      simp
    have e3 : 0 ≤ x.toInt ↔ x.toBitVec.msb = false := by
      show 0 ≤ x.toBitVec.toInt ↔ _
      rw [BitVec.msb_eq_toInt]
      simp
    rw [e1, e3, Int32.toBitVec_xor, BitVec.msb_xor, e2, Bool.xor_false]
  have hr : x - x / nI M * nI M = Int32.ofInt (x.toInt.tmod M) := by
    have := z_r32 (z := x.toInt) (M := M) (by omega) (by omega) (by omega) (by omega)
    rw [Int32.ofInt_toInt] at this
    rw [z_nI, this]
  rw [hr, z_nI (z_rs2 x M), z_rs2_cast x h0]
  have t1 : ∀ z : Int, -(2 : Int) ^ 31 ≤ z → z < 2 ^ 31 → (Int32.ofInt z = 0 ↔ z = 0) := by
    intro z y1 y2
    constructor
    · intro e
      have := congrArg Int32.toInt e
      rw [Int32.toInt_ofInt_of_le (by omega) (by omega)] at this
      exact this
    · rintro rfl; rfl
  rcases z_tme x.toInt (show (0 : Int) < M by omega) with e | ⟨e1, e2, e⟩
  · rw [e]
    by_cases c : 0 ≤ x ^^^ nI M
    · rw [if_pos c]
    · rw [if_neg c]
      have c' : ¬ 0 ≤ x.toInt := fun y => c (hx.mpr y)
      have hz : x.toInt % (M : Int) = 0 := by
        rw [Int.tmod_eq_emod] at e
        split at e
        · rename_i d
          rcases d with d | d
          · exact absurd d c'
          · exact Int.emod_eq_zero_of_dvd d
        · have : (M : Int).natAbs = M := rfl
          omega
      rw [hz, if_pos ((t1 0 (by omega) (by omega)).mpr rfl)]
  · rw [e, if_neg (fun y => by have := hx.mp y; omega), if_neg (fun y => by have := (t1 _ (by omega) (by omega)).mp y; omega), z_nI, ← Int32.ofInt_add, Int.sub_add_cancel]
theorem z_and1 (n : Nat) : nI n &&& 1 = nI (n % 2) := by
  apply Int32.toBitVec_inj.1
  show BitVec.ofNat 32 n &&& BitVec.ofNat 32 1 = BitVec.ofNat 32 (n % 2)
  apply BitVec.eq_of_toNat_eq
  rw [BitVec.toNat_and, BitVec.toNat_ofNat, BitVec.toNat_ofNat, BitVec.toNat_ofNat, show 1 % 2 ^ 32 = 1 from rfl, Nat.and_one_is_mod]
  omega
theorem z_am : ∀ k, k < 32 → ((nI k &&& 31).toBitVec.smod 32).toNat = k := by decide +kernel
theorem z_shr {n k : Nat} (hn : n < 2 ^ 31) (hk : k < 32) : nI n >>> (nI k &&& 31) = nI (n / 2 ^ k) := by
  apply Int32.toBitVec_inj.1
  rw [Int32.toBitVec_shiftRight]
  show (nI n).toBitVec.sshiftRight ((nI k &&& 31).toBitVec.smod 32).toNat = BitVec.ofNat 32 (n / 2 ^ k)
  rw [z_am k hk]
  apply BitVec.eq_of_toInt_eq
  rw [BitVec.toInt_sshiftRight]
  have h1 : (nI n).toBitVec.toInt = (n : Int) := nI_toInt hn
  have hd : n / 2 ^ k ≤ n := Nat.div_le_self _ _
  have h2 : (BitVec.ofNat 32 (n / 2 ^ k)).toInt = ((n / 2 ^ k : Nat) : Int) := nI_toInt (n := n / 2 ^ k) (by omega)
  rw [h1, h2, Int.shiftRight_eq_div_pow]
  norm_cast
/-- a product's rest, both below M -/
theorem z_pm {a b M : Nat} (ha : a < M) (hb : b < M) (hM : M < 2 ^ 31) : lN a * lN b - lN a * lN b / lN M * lN M = lN (a * b % M) := by
  rw [lN_mul]
  refine z_lm ?_ (by omega) (by omega)
  have : a * b ≤ 2 ^ 31 * 2 ^ 31 := Nat.mul_le_mul (by omega) (by omega)
  omega
theorem z_sl7 {t : Nat → Int32} (h : ∀ j, z_c7 (t j)) : ∀ (m i : Nat), ∀ c ∈ z_sl t i m, z_c7 c
  | 0, i, c, hc => by cases hc
  | m + 1, i, c, hc => by
    rw [z_sl] at hc
    rcases List.mem_cons.mp hc with rfl | hc
    · exact h i
    · exact z_sl7 h m (i + 1) c hc
theorem z_sq7 {t : Nat → Int32} (h : ∀ j, z_c7 (t j)) : ∀ (m i : Nat) (b g : Bool), ∀ c ∈ z_sq t i b g m, z_c7 c
  | 0, i, b, g, c, hc => by cases hc
  | m + 1, i, b, g, c, hc => by
    rw [z_sq] at hc
    split at hc
    · exact z_sq7 h m _ _ _ c hc
    · split at hc
      · exact z_sq7 h m _ _ _ c hc
      · rcases List.mem_append.mp hc with hc | hc
        · split at hc
          · rcases List.mem_cons.mp hc with rfl | hc
            · exact z_c32
            · cases hc
          · cases hc
        · rcases List.mem_cons.mp hc with rfl | hc
          · exact h i
          · exact z_sq7 h m _ _ _ c hc
theorem z_ten7 : ∀ c ∈ [(10 : Int32)], z_c7 c := fun c hc => by
  rcases List.mem_cons.mp hc with rfl | hc
  · exact z_c10
  · cases hc
theorem z_app7 {A B : List Int32} (h1 : ∀ c ∈ A, z_c7 c) (h2 : ∀ c ∈ B, z_c7 c) : ∀ c ∈ A ++ B, z_c7 c := fun c hc => (List.mem_append.mp hc).elim (h1 c) (h2 c)
theorem z_fo7 {t : Nat → Int32} (h : ∀ j, z_c7 (t j)) (rf : Bool) (x : Nat × Nat × Nat) : ∀ c ∈ z_fo t rf x, z_c7 c := by
  unfold z_fo
  split
  · refine z_app7 (fun c hc => ?_) (fun c hc => ?_)
    · obtain ⟨y, hy, rfl⟩ := List.mem_map.mp hc
      exact (z_sl7 h _ _ y hy).lw
    · rcases List.mem_cons.mp hc with rfl | hc
      · exact z_c58
      · exact z_app7 (z_sq7 h _ _ _ _) z_ten7 c hc
  · exact z_app7 (z_sl7 h _ _) z_ten7
theorem z_fos7 {t : Nat → Int32} (h : ∀ j, z_c7 (t j)) (rf : Bool) (F : List (Nat × Nat × Nat)) : ∀ O, ∀ c ∈ z_fos t rf F O, z_c7 c
  | [], c, hc => by cases hc
  | i :: r, c, hc => z_app7 (z_fo7 h rf _) (z_fos7 h rf F r) c hc
theorem z_rb7 {t : Nat → Int32} (h : ∀ j, z_c7 (t j)) (n : Nat) : ∀ (m i s : Nat) (out keep : List Int32), (∀ c ∈ out, z_c7 c) → (∀ c ∈ keep, z_c7 c) → ∀ c ∈ z_rb t n m i s out keep, z_c7 c
  | 0, i, s, out, keep, h1, h2 => h2
  | m + 1, i, s, out, keep, h1, h2 => by
    rw [z_rb]
    split
    · refine z_rb7 h n m _ _ _ _ (z_app7 (z_app7 h1 (z_sq7 h _ _ _ _)) z_ten7) ?_
      split
      · exact h2
      · exact z_app7 (z_app7 h1 (z_sq7 h _ _ _ _)) z_ten7
    · exact z_rb7 h n m _ _ _ _ h1 h2
theorem z_cf7 {t u : Nat → Int32} {n k : Nat} {rf rb : Bool} {o : List Int32} (h : ∀ j, z_c7 (t j)) (e : z_cf t u n k rf rb = some o) : ∀ c ∈ o, z_c7 c := by
  unfold z_cf at e
  split at e
  · cases e
  · cases e
    unfold z_bd
    split
    · exact z_rb7 h _ _ _ _ _ _ (z_fos7 h _ _ _) (z_fos7 h _ _ _)
    · exact z_app7 (z_fos7 h _ _ _) (z_app7 (z_sl7 h _ _) z_ten7)
theorem z_dgN {f : Nat → Int32} : ∀ k, (∀ j, j < k → z_c7 (f j)) → ∃ D, D < 2147483647 ∧ z_dg f k = lN D
  | 0, _ => ⟨0, by decide, rfl⟩
  | k + 1, h => by
    obtain ⟨D, hD, e⟩ := z_dgN k (fun j hj => h j (by omega))
    obtain ⟨m, hm, e2⟩ := h k (by omega)
    refine ⟨(257 * D + m + 1) % 2147483647, Nat.mod_lt _ (by decide), ?_⟩
    rw [z_dg, e, e2, nI_l (by omega), show (257 : Int64) = lN 257 from rfl, lN_mul, lN_add, lN_1, show (2147483647 : Int64) = lN 2147483647 from rfl]
    exact z_lm (by omega) (by omega) (by omega)
/-- the digest is a number from 0 on -/
theorem z_dgvN {t u : Nat → Int32} {n k : Nat} {rf rb : Bool} {o : List Int32} (h : ∀ j, z_c7 (t j)) (e : z_cf t u n k rf rb = some o) : ∃ D, D < 2147483647 ∧ z_dgv o = nI D := by
  obtain ⟨D, hD, e1⟩ := z_dgN (f := fun j => o.getD j 0) o.length (fun j hj => z_cf7 h e _ (by
    show o.getD j 0 ∈ o
    rw [List.getD_eq_getElem?_getD, List.getElem?_eq_getElem hj]
    exact List.getElem_mem hj))
  exact ⟨D, hD, by rw [z_dgv, e1, lN_i]⟩
/-- what a key answers -/
def z_opn (M E D : Nat) (x : Int32) : Bool := decide (z_rs2 x M ^ E % M = D % M)
theorem z_pwC {p f L M : Nat} : ((if L % 2 = 1 then p * f % M else p) * (f * f % M) ^ (L / 2)) % M = (p * f ^ L) % M := by
  have h : f ^ L = (if L % 2 = 1 then f else 1) * (f * f) ^ (L / 2) := by
    have e : (f * f) ^ (L / 2) = f ^ (2 * (L / 2)) := by rw [Nat.pow_mul, Nat.pow_two]
    split
    · rw [e, ← Nat.pow_succ']
      congr 1; omega
    · rw [e, Nat.one_mul]
      congr 1; omega
  rw [Nat.mul_mod, ← Nat.pow_mod, ← Nat.mul_mod, h]
  split
  · rw [Nat.mul_mod, Nat.mod_mod, ← Nat.mul_mod, Nat.mul_assoc]
  · rw [Nat.one_mul]
theorem z_pwM {S E k M : Nat} : (if E / 2 ^ k % 2 = 1 then (S ^ (E / 2 ^ (k + 1)) % M * (S ^ (E / 2 ^ (k + 1)) % M) % M) * S % M else S ^ (E / 2 ^ (k + 1)) % M * (S ^ (E / 2 ^ (k + 1)) % M) % M) = S ^ (E / 2 ^ k) % M := by
  have e : E / 2 ^ (k + 1) = E / 2 ^ k / 2 := by rw [Nat.pow_succ, Nat.div_div_eq_div_mul]
  rw [e]
  have e2 : S ^ (E / 2 ^ k / 2) % M * (S ^ (E / 2 ^ k / 2) % M) % M = S ^ (E / 2 ^ k / 2 * 2) % M := by
    rw [← Nat.mul_mod, Nat.pow_mul, Nat.pow_two]
  rw [e2]
  split
  · rw [Nat.mod_mul_mod, ← Nat.pow_succ]
    congr 2; omega
  · congr 2; omega
theorem z_cmp0 {x y : Int64} : ¬ lg_cmp x y = 0 ↔ ¬ x = y := by
  unfold lg_cmp
  split
  · rename_i c
    constructor
    · rintro - rfl
      exact absurd c Int64.lt_irrefl
    · intro _ z; exact absurd z (by decide)
  · split
    · rename_i e; simp [e]
    · rename_i e
      exact ⟨fun _ => e, fun _ z => absurd z (by decide)⟩
theorem l_opens {d : Nat} {h : zH} {ρ : Nat → Nat → Option Nat} {σ : Nat → Nat → Int32} {a M E D R : Nat} {x1 : Int32} (h52 : 52 ≤ a) (ha : h.1 a = some (.inr (8, [.int (nI M), .int (nI E)]))) (hM : 2 ≤ M) (hM2 : M < 2 ^ 31) (hD : D < 2 ^ 31) : ∀ (L p f : Nat), L < 2 ^ 31 → p < M → f < M → p * f ^ L % M = R →
    z_E (d + 1) 68 29 [some (.ref a), some (.int x1), some (.int (nI D)), some (.long (lN f)), none, some (.long (lN p)), none, some (.int (nI L))] [] (z_G h σ ρ) (z_qi fun x h' => x = z_bi (decide (R = D % M)) ∧ h' = z_G h σ ρ) := by
  intro L
  induction L using Nat.strongRecOn with
  | _ L ih =>
    intro p f hL hp hf hR
    rcases Nat.eq_zero_or_pos L with rfl | hpos
    · rw [Nat.pow_zero, Nat.mul_one, Nat.mod_eq_of_lt hp] at hR
      subst hR
      have hDM : D % M < M := Nat.mod_lt _ (by omega)
      refine e_iload k68_29 (q := 31) rfl rfl ?_
      refine e_if k68_31 (q := 34) rfl (fun c31 => ?_) (fun c31 => absurd (by show nI 0 ≤ 0; decide) c31)
      refine e_lload k68_73 (q := 75) rfl rfl ?_
      refine e_iload k68_75 (q := 76) rfl rfl ?_
      refine e_aload k68_76 (q := 77) rfl rfl ?_
      refine d_get k68_77 (q := 80) rfl h52 ha rfl ?_
      refine e_ibn k68_80 (q := 81) rfl (nI_ne0 (by omega) hM2) ?_
      rw [z_im hD (by omega) hM2]
      refine e_i2l k68_81 (q := 82) rfl ?_
      rw [nI_l (by omega)]
      refine e_lcmp k68_82 (q := 83) rfl ?_
      refine e_if k68_83 (q := 86) rfl (fun c83 => ?_) (fun c83 => ?_)
      · refine e_const k68_90 (q := 91) rfl ?_
        refine e_iret k68_91 (by first | exact Or.inl rfl | exact Or.inr rfl | assumption) ?_
        have c : ¬ p = D % M := fun z => z_cmp0.mp c83 (by rw [z])
        exact ⟨_, _, rfl, by rw [show decide (p = D % M) = false from decide_eq_false c]; rfl, rfl⟩
      · refine e_const k68_86 (q := 87) rfl ?_
        refine e_goto k68_87 ?_
        refine e_iret k68_91 (by first | exact Or.inl rfl | exact Or.inr rfl | assumption) ?_
        have c : p = D % M := by
          by_cases z : p = D % M
          · exact z
          · exact absurd (z_cmp0.mpr (fun y => z ((lN_eq (by omega) (by omega)).mp y))) c83
        exact ⟨_, _, rfl, by rw [show decide (p = D % M) = true from decide_eq_true c]; rfl, rfl⟩
    · have hmod : ∀ y, y % M < M := fun y => Nat.mod_lt _ (by omega)
      have hsh : nI L >>> ((1 : Int32) &&& 31) = nI (L / 2) := z_shr (k := 1) hL (by decide)
      have hpw := z_pwC (p := p) (f := f) (L := L) (M := M)
      have hm0 : ¬ lN M = 0 := fun z => absurd ((lN_eq (b := 0) hM2 (by decide)).mp z) (by omega)
      refine e_iload k68_29 (q := 31) rfl rfl ?_
      refine e_if k68_31 (q := 34) rfl (fun c31 => absurd c31 (nI_nle hpos hL)) (fun c31 => ?_)
      refine e_iload k68_34 (q := 36) rfl rfl ?_
      refine e_const k68_36 (q := 37) rfl ?_
      refine e_ib k68_37 (q := 38) rfl ?_
      refine e_const k68_38 (q := 39) rfl ?_
      rw [z_and1]
      refine e_ic k68_39 (q := 42) rfl (fun c39 => ?_) (fun c39 => ?_)
      · have hodd : ¬ L % 2 = 1 := fun z => c39 (by rw [z]; rfl)
        refine e_lload k68_54 (q := 55) rfl rfl ?_
        refine e_lload k68_55 (q := 56) rfl rfl ?_
        refine e_lb k68_56 (q := 57) rfl ?_
        refine e_aload k68_57 (q := 58) rfl rfl ?_
        refine d_get k68_58 (q := 61) rfl h52 ha rfl ?_
        refine e_i2l k68_61 (q := 62) rfl ?_
        rw [nI_l hM2]
        refine e_lbn k68_62 (q := 63) rfl hm0 ?_
        rw [z_pm hf hf hM2]
        refine e_lst k68_63 (q := 64) (L' := [_, _, _, _, _, _, _, _]) rfl rfl rfl ?_
        refine e_iload k68_64 (q := 66) rfl rfl ?_
        refine e_const k68_66 (q := 67) rfl ?_
        refine e_ib k68_67 (q := 68) rfl ?_
        refine e_ist k68_68 (q := 70) (L' := [_, _, _, _, _, _, _, some (.int (nI (L / 2)))]) rfl rfl (by rw [hsh]; rfl) ?_
        refine e_goto k68_70 ?_
        rw [if_neg hodd] at hpw
        exact ih (L / 2) (by omega) _ _ (by omega) hp (hmod _) (by rw [hpw]; exact hR)
      · have hodd : L % 2 = 1 := by
          have := Classical.not_not.mp c39
          exact (nI_eq (by omega) (by omega)).mp this
        refine e_lload k68_42 (q := 44) rfl rfl ?_
        refine e_lload k68_44 (q := 45) rfl rfl ?_
        refine e_lb k68_45 (q := 46) rfl ?_
        refine e_aload k68_46 (q := 47) rfl rfl ?_
        refine d_get k68_47 (q := 50) rfl h52 ha rfl ?_
        refine e_i2l k68_50 (q := 51) rfl ?_
        rw [nI_l hM2]
        refine e_lbn k68_51 (q := 52) rfl hm0 ?_
        rw [z_pm hp hf hM2]
        refine e_lst k68_52 (q := 54) (L' := [_, _, _, _, _, _, _, _]) rfl rfl rfl ?_
        refine e_lload k68_54 (q := 55) rfl rfl ?_
        refine e_lload k68_55 (q := 56) rfl rfl ?_
        refine e_lb k68_56 (q := 57) rfl ?_
        refine e_aload k68_57 (q := 58) rfl rfl ?_
        refine d_get k68_58 (q := 61) rfl h52 ha rfl ?_
        refine e_i2l k68_61 (q := 62) rfl ?_
        rw [nI_l hM2]
        refine e_lbn k68_62 (q := 63) rfl hm0 ?_
        rw [z_pm hf hf hM2]
        refine e_lst k68_63 (q := 64) (L' := [_, _, _, _, _, _, _, _]) rfl rfl rfl ?_
        refine e_iload k68_64 (q := 66) rfl rfl ?_
        refine e_const k68_66 (q := 67) rfl ?_
        refine e_ib k68_67 (q := 68) rfl ?_
        refine e_ist k68_68 (q := 70) (L' := [_, _, _, _, _, _, _, some (.int (nI (L / 2)))]) rfl rfl (by rw [hsh]; rfl) ?_
        refine e_goto k68_70 ?_
        rw [if_pos hodd] at hpw
        exact ih (L / 2) (by omega) _ _ (by omega) (hmod _) (hmod _) (by rw [hpw]; exact hR)
theorem m_opens {d : Nat} {h : zH} {ρ : Nat → Nat → Option Nat} {σ : Nat → Nat → Int32} {a M E D : Nat} (h52 : 52 ≤ a) (ha : h.1 a = some (.inr (8, [.int (nI M), .int (nI E)]))) (hM : 2 ≤ M) (hM2 : M < 2 ^ 31) (hE : E < 2 ^ 31) (hD : D < 2 ^ 31) (x1 : Int32) : z_M (d + 2) 68 [.ref a, .int x1, .int (nI D)] (z_G h σ ρ) (z_qi fun x h' => x = z_bi (z_opn M E D x1) ∧ h' = z_G h σ ρ) := by
  refine z_M.of ⟨Nat.le_of_ble_eq_true rfl, by simp [Value.category]⟩ (L := [some (.ref a), some (.int x1), some (.int (nI D)), none, none, none, none, none]) rfl ?_
  have hS := z_rs2_lt x1 (M := M) (by omega)
  refine e_aload k68_0 (q := 1) rfl rfl ?_
  refine d_get k68_1 (q := 4) rfl h52 ha rfl ?_
  refine e_const k68_4 (q := 5) rfl ?_
  refine e_ic k68_5 (q := 8) rfl (fun c5 => ?_) (fun c5 => absurd (by show (2 : Int32) ≤ nI M; exact nI_le (a := 2) hM hM2) c5)
  refine e_iload k68_10 (q := 11) rfl rfl ?_
  refine e_aload k68_11 (q := 12) rfl rfl ?_
  refine d_get k68_12 (q := 15) rfl h52 ha rfl ?_
  refine e_cs k68_15 (q := 18) (as := [_, _]) rfl rfl (Nat.le_of_ble_eq_true rfl) (m_floorMod x1 (nI M) (nI_ne0 (by omega) hM2)) rfl (z_ki fun x15 h15 p15 => ?_)
  obtain ⟨rfl, rfl⟩ := p15
  rw [z_smC x1 (by omega) hM2]
  refine e_i2l k68_18 (q := 19) rfl ?_
  rw [nI_l (by omega)]
  refine e_lst k68_19 (q := 20) (L' := [_, _, _, _, _, _, _, _]) rfl rfl rfl ?_
  refine e_const k68_20 (q := 21) rfl ?_
  refine e_lst k68_21 (q := 23) (L' := [_, _, _, _, _, _, _, _]) rfl rfl rfl ?_
  refine e_aload k68_23 (q := 24) rfl rfl ?_
  refine d_get k68_24 (q := 27) rfl h52 ha rfl ?_
  refine e_ist k68_27 (q := 29) (L' := [_, _, _, _, _, _, _, _]) rfl rfl rfl ?_
  exact l_opens h52 ha hM hM2 hD E 1 _ hE (by omega) hS (by rw [Nat.one_mul])
