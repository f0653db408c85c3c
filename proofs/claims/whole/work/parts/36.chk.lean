/-! The checking of an address, as a function of the rows; bits. -/
/-- the first n bits are the same -/
def z_sb (a b : Int32) : Nat → Bool
  | 0 => true
  | n + 1 => z_sb a b n && (a.toBitVec.getLsbD (31 - n) == b.toBitVec.getLsbD (31 - n))
theorem z_bt1 (x : Int32) {k : Nat} (hk : k < 32) : x >>> (nI k &&& 31) &&& 1 = z_bi (x.toBitVec.getLsbD k) := by
  apply Int32.toBitVec_inj.1
  rw [Int32.toBitVec_and, Int32.toBitVec_shiftRight]
  show x.toBitVec.sshiftRight ((nI k &&& 31).toBitVec.smod 32).toNat &&& 1#32 = _
  rw [z_am k hk]
  apply BitVec.eq_of_getLsbD_eq
  intro i hi
  rcases Nat.eq_zero_or_pos i with rfl | hp
  · rw [BitVec.getLsbD_and, BitVec.getLsbD_sshiftRight]
    cases h : x.toBitVec.getLsbD k <;> simp [z_bi, h, hk]
  · rw [BitVec.getLsbD_and]
    have h1 : (1#32).getLsbD i = false := by rw [BitVec.getLsbD_one]; simp; omega
    rw [h1, Bool.and_false]
    cases h : x.toBitVec.getLsbD k
    · exact BitVec.getLsbD_zero.symm
    · exact h1.symm
theorem z_au : ∀ k, k < 32 → (((nI k).toUInt32 &&& Int32.toUInt32 31).toBitVec % 32).toNat = k := by decide +kernel
theorem z_ush (x : Int32) {k : Nat} (hk : k < 32) : (x.toUInt32 >>> ((nI k).toUInt32 &&& Int32.toUInt32 31)).toInt32 = 0 ↔ ∀ i, k ≤ i → i < 32 → x.toBitVec.getLsbD i = false := by
  have e : (x.toUInt32 >>> ((nI k).toUInt32 &&& Int32.toUInt32 31)).toInt32.toBitVec = x.toBitVec >>> k := by
    show (x.toUInt32 >>> ((nI k).toUInt32 &&& Int32.toUInt32 31)).toBitVec = _
    rw [UInt32.toBitVec_shiftRight]
    show x.toUInt32.toBitVec >>> (((nI k).toUInt32 &&& Int32.toUInt32 31).toBitVec % 32).toNat = _
    rw [z_au k hk]
    rfl
  constructor
  · intro h i h1 h2
    have h3 : x.toBitVec >>> k = 0#32 := by rw [← e, h]; rfl
    have h4 : (x.toBitVec >>> k).getLsbD (i - k) = false := by rw [h3]; exact BitVec.getLsbD_zero
    rw [BitVec.getLsbD_ushiftRight, show k + (i - k) = i by omega] at h4
    exact h4
  · intro h
    apply Int32.toBitVec_inj.1
    rw [e]
    apply BitVec.eq_of_getLsbD_eq
    intro i hi
    rw [BitVec.getLsbD_ushiftRight]
    by_cases c : k + i < 32
    · rw [h (k + i) (by omega) c]; exact BitVec.getLsbD_zero.symm
    · rw [BitVec.getLsbD_of_ge _ _ (by omega)]; exact BitVec.getLsbD_zero.symm
theorem z_sb_iff (a b : Int32) : ∀ n, n ≤ 32 → (z_sb a b n = true ↔ ∀ i, 32 - n ≤ i → i < 32 → a.toBitVec.getLsbD i = b.toBitVec.getLsbD i)
  | 0, _ => ⟨fun _ i h1 h2 => by omega, fun _ => rfl⟩
  | n + 1, hn => by
    rw [z_sb, Bool.and_eq_true, z_sb_iff a b n (by omega)]
    constructor
    · rintro ⟨h1, h2⟩ i h3 h4
      by_cases c : i = 31 - n
      · subst c; exact beq_iff_eq.mp h2
      · exact h1 i (by omega) h4
    · intro h
      exact ⟨fun i h1 h2 => h i (by omega) h2, beq_iff_eq.mpr (h (31 - n) (by omega) (by omega))⟩
/-- the class's way -/
theorem z_sb_cls (a b : Int32) {n : Nat} (h0 : 0 < n) (hn : n ≤ 32) : ((a ^^^ b).toUInt32 >>> ((nI (32 - n)).toUInt32 &&& Int32.toUInt32 31)).toInt32 = 0 ↔ z_sb a b n = true := by
  rw [z_ush _ (by omega), z_sb_iff a b n hn]
  have e : ∀ i, (a ^^^ b).toBitVec.getLsbD i = false ↔ a.toBitVec.getLsbD i = b.toBitVec.getLsbD i := by
    intro i
    rw [Int32.toBitVec_xor, BitVec.getLsbD_xor]
    cases a.toBitVec.getLsbD i <;> cases b.toBitVec.getLsbD i <;> simp
  exact ⟨fun h i h1 h2 => (e i).mp (h i h1 h2), fun h i h1 h2 => (e i).mpr (h i h1 h2)⟩
/-- numbers in the rows -/
def z_na (σ : Nat → Nat → Int32) (r i : Nat) : Nat := (σ r i).toNatClampNeg
def z_any (σ : Nat → Nat → Int32) (ip : Int32) (b n : Nat) : Nat → Bool
  | 0 => false
  | m + 1 => z_any σ ip b n m || z_sb ip (σ 22 (b + m)) n
def z_emp (q e : Nat) : Nat × Nat × Nat := if e = 2 then (2, q, e) else (0, q, e + 1)
def z_hos (σ : Nat → Nat → Int32) (ip : Int32) (t n q e : Nat) : Nat × Nat × Nat := if z_na σ 21 t = 0 then z_emp q e else (if z_any σ ip (3 * t) n (z_na σ 21 t) = true then 1 else 0, q, e)
def z_mal (σ : Nat → Nat → Int32) (ip : Int32) (t n : Nat) : Nat → Nat → Nat → Nat → Nat × Nat × Nat
  | 0, _, q, e => (0, q, e)
  | m + 1, k, q, e => if (z_hos σ ip (z_na σ 24 (3 * t + k)) n q e).1 = 0 then z_mal σ ip t n m (k + 1) (z_hos σ ip (z_na σ 24 (3 * t + k)) n q e).2.1 (z_hos σ ip (z_na σ 24 (3 * t + k)) n q e).2.2 else z_hos σ ip (z_na σ 24 (3 * t + k)) n q e
def z_mai (σ : Nat → Nat → Int32) (ip : Int32) (t n q e : Nat) : Nat × Nat × Nat := if z_na σ 23 t = 0 then z_emp q e else z_mal σ ip t n (z_na σ 23 t) 0 q e
def z_wit (r : Nat × Nat × Nat) : Nat × Nat × Nat := (if r.1 = 0 ∨ r.1 = 5 then 2 else if r.1 = 2 then 1 else 0, r.2)
def z_kno (σ : Nat → Nat → Int32) (t q e : Nat) : Nat × Nat × Nat := if z_na σ 21 t = 0 then z_emp q e else (1, q, e)
def z_oc (res : Nat → Nat → Nat → Nat × Nat × Nat) (σ : Nat → Nat → Int32) (ip : Int32) (p q e : Nat) : Nat × Nat × Nat :=
  if σ 33 p = 0 then (1, q, e) else if σ 33 p = 1 then (if z_sb ip (σ 34 p) (z_na σ 35 p) = true then 1 else 0, q, e) else if q = 10 then (2, q, e)
  else if σ 33 p = 2 then z_hos σ ip (z_na σ 34 p) (z_na σ 35 p) (q + 1) e else if σ 33 p = 3 then z_mai σ ip (z_na σ 34 p) (z_na σ 35 p) (q + 1) e
  else if σ 33 p = 4 then z_wit (res (z_na σ 34 p) (q + 1) e) else z_kno σ (z_na σ 34 p) (q + 1) e
def z_led (r : Nat × Nat × Nat) : Nat × Nat × Nat := (if r.1 = 0 then 5 else r.1, r.2)
def z_end (res : Nat → Nat → Nat → Nat × Nat × Nat) (σ : Nat → Nat → Int32) (i q e : Nat) : Nat × Nat × Nat :=
  if z_lf (σ 33) (8 * i) (z_na σ 31 i) = -1 then (1, q, e) else if q = 10 then (5, q, e) else z_led (res (z_na σ 34 (z_lf (σ 33) (8 * i) (z_na σ 31 i)).toNatClampNeg) (q + 1) e)
def z_tms (res : Nat → Nat → Nat → Nat × Nat × Nat) (σ : Nat → Nat → Int32) (ip : Int32) (i : Nat) : Nat → Nat → Nat → Nat → Nat × Nat × Nat
  | 0, _, q, e => z_end res σ i q e
  | m + 1, j, q, e => if σ 33 (8 * i + j) = 6 then z_tms res σ ip i m (j + 1) q e else if (z_oc res σ ip (8 * i + j) q e).1 = 0 then z_tms res σ ip i m (j + 1) (z_oc res σ ip (8 * i + j) q e).2.1 (z_oc res σ ip (8 * i + j) q e).2.2 else if (z_oc res σ ip (8 * i + j) q e).1 = 1 then (z_na σ 32 (8 * i + j), (z_oc res σ ip (8 * i + j) q e).2) else (5, (z_oc res σ ip (8 * i + j) q e).2)
def z_res (σ : Nat → Nat → Int32) (ip : Int32) : Nat → Nat → Nat → Nat → Nat × Nat × Nat
  | 0, _, q, e => (5, q, e)
  | f + 1, i, q, e => if z_na σ 31 i = 0 then (0, q, e) else z_tms (z_res σ ip f) σ ip i (z_na σ 31 i) 0 q e
/-- counts go up, and not too far -/
def z_gd (q : Nat) (r : Nat × Nat × Nat) : Prop := q ≤ r.2.1 ∧ r.2.1 ≤ 10 ∧ r.2.2 ≤ 2
theorem z_emp_gd {q e : Nat} (hq : q ≤ 10) (he : e ≤ 2) : z_gd q (z_emp q e) := by
  unfold z_emp
  split
  · exact ⟨Nat.le_refl _, hq, he⟩
  · exact ⟨Nat.le_refl _, hq, by show e + 1 ≤ 2; omega⟩
theorem z_emp_o (q e : Nat) : (z_emp q e).1 = 0 ∨ (z_emp q e).1 = 2 := by
  unfold z_emp
  split
  · exact Or.inr rfl
  · exact Or.inl rfl
theorem z_gd.le {q q' : Nat} {r : Nat × Nat × Nat} (h : z_gd q' r) (hq : q ≤ q') : z_gd q r := ⟨Nat.le_trans hq h.1, h.2⟩
theorem z_hos_gd (σ : Nat → Nat → Int32) (ip : Int32) (t n : Nat) {q e : Nat} (hq : q ≤ 10) (he : e ≤ 2) : z_gd q (z_hos σ ip t n q e) := by
  unfold z_hos
  split
  · exact z_emp_gd hq he
  · exact ⟨Nat.le_refl _, hq, he⟩
theorem z_mal_gd (σ : Nat → Nat → Int32) (ip : Int32) (t n : Nat) : ∀ (m k : Nat) {q e : Nat}, q ≤ 10 → e ≤ 2 → z_gd q (z_mal σ ip t n m k q e)
  | 0, k, q, e, hq, he => ⟨Nat.le_refl _, hq, he⟩
  | m + 1, k, q, e, hq, he => by
    have h := z_hos_gd σ ip (z_na σ 24 (3 * t + k)) n hq he
    rw [z_mal]
    split
    · exact (z_mal_gd σ ip t n m (k + 1) h.2.1 h.2.2).le h.1
    · exact h
theorem z_mai_gd (σ : Nat → Nat → Int32) (ip : Int32) (t n : Nat) {q e : Nat} (hq : q ≤ 10) (he : e ≤ 2) : z_gd q (z_mai σ ip t n q e) := by
  unfold z_mai
  split
  · exact z_emp_gd hq he
  · exact z_mal_gd σ ip t n _ _ hq he
theorem z_oc_gd {res : Nat → Nat → Nat → Nat × Nat × Nat} (H : ∀ i q e, q ≤ 10 → e ≤ 2 → z_gd q (res i q e)) (σ : Nat → Nat → Int32) (ip : Int32) (p : Nat) {q e : Nat} (hq : q ≤ 10) (he : e ≤ 2) : z_gd q (z_oc res σ ip p q e) := by
  have h0 : ∀ o, z_gd q (o, q, e) := fun o => ⟨Nat.le_refl _, hq, he⟩
  unfold z_oc
  split
  · exact h0 _
  · split
    · exact h0 _
    · split
      · exact h0 _
      · have hq1 : q + 1 ≤ 10 := by omega
        split
        · exact (z_hos_gd σ ip _ _ hq1 he).le (Nat.le_succ _)
        · split
          · exact (z_mai_gd σ ip _ _ hq1 he).le (Nat.le_succ _)
          · split
            · exact (show z_gd (q + 1) (z_wit _) from H _ _ _ hq1 he).le (Nat.le_succ _)
            · unfold z_kno
              split
              · exact (z_emp_gd hq1 he).le (Nat.le_succ _)
              · exact ⟨Nat.le_succ _, hq1, he⟩
theorem z_end_gd {res : Nat → Nat → Nat → Nat × Nat × Nat} (H : ∀ i q e, q ≤ 10 → e ≤ 2 → z_gd q (res i q e)) (σ : Nat → Nat → Int32) (i : Nat) {q e : Nat} (hq : q ≤ 10) (he : e ≤ 2) : z_gd q (z_end res σ i q e) := by
  have h0 : ∀ o, z_gd q (o, q, e) := fun o => ⟨Nat.le_refl _, hq, he⟩
  unfold z_end
  split
  · exact h0 _
  · split
    · exact h0 _
    · have hq1 : q + 1 ≤ 10 := by omega
      exact (show z_gd (q + 1) (z_led _) from H _ _ _ hq1 he).le (Nat.le_succ _)
theorem z_tms_gd {res : Nat → Nat → Nat → Nat × Nat × Nat} (H : ∀ i q e, q ≤ 10 → e ≤ 2 → z_gd q (res i q e)) (σ : Nat → Nat → Int32) (ip : Int32) (i : Nat) : ∀ (m j : Nat) {q e : Nat}, q ≤ 10 → e ≤ 2 → z_gd q (z_tms res σ ip i m j q e)
  | 0, j, q, e, hq, he => z_end_gd H σ i hq he
  | m + 1, j, q, e, hq, he => by
    have h := z_oc_gd H σ ip (8 * i + j) hq he
    rw [z_tms]
    split
    · exact z_tms_gd H σ ip i m (j + 1) hq he
    · split
      · exact (z_tms_gd H σ ip i m (j + 1) h.2.1 h.2.2).le h.1
      · split
        · exact h
        · exact h
theorem z_res_gd (σ : Nat → Nat → Int32) (ip : Int32) : ∀ (f i : Nat) {q e : Nat}, q ≤ 10 → e ≤ 2 → z_gd q (z_res σ ip f i q e)
  | 0, i, q, e, hq, he => ⟨Nat.le_refl _, hq, he⟩
  | f + 1, i, q, e, hq, he => by
    rw [z_res]
    split
    · exact ⟨Nat.le_refl _, hq, he⟩
    · exact z_tms_gd (fun i q e hq he => z_res_gd σ ip f i hq he) σ ip i _ _ hq he
/-- the class's counts -/
def z_cq (σ σ0 : Nat → Nat → Int32) (ip : Int32) (q e : Nat) : Prop := (∀ k, k ≠ 3 → σ k = σ0 k) ∧ σ 3 0 = ip ∧ σ 3 1 = nI q ∧ σ 3 2 = nI e
def z_crr (h : zH) (ρ : Nat → Nat → Option Nat) (σ0 : Nat → Nat → Int32) (ip : Int32) (w : Nat × Nat × Nat) (r : Int32) (h' : zH) : Prop := r = nI w.1 ∧ ∃ σ', h' = z_G h σ' ρ ∧ z_cq σ' σ0 ip w.2.1 w.2.2
theorem m_countQuery {d : Nat} {h : zH} {ρ : Nat → Nat → Option Nat} {σ σ0 : Nat → Nat → Int32} {ip : Int32} {q e : Nat} (hQ : z_cq σ σ0 ip q e) (hq : q ≤ 10) : z_M (d + 1) 44 [.ref 3] (z_G h σ ρ) (z_qi fun r h' => (q = 10 → r = 0 ∧ h' = z_G h σ ρ) ∧ (q < 10 → r = 1 ∧ ∃ σ', h' = z_G h σ' ρ ∧ z_cq σ' σ0 ip (q + 1) e)) := by
  refine z_M.of ⟨Nat.le_of_ble_eq_true rfl, by simp [Value.category]⟩ (L := [some (.ref 3)]) rfl ?_
  refine e_aload k44_0 (q := 1) rfl rfl ?_
  refine g_get k44_1 (q := 4) rfl rfl rfl ?_
  refine e_const k44_4 (q := 6) rfl ?_
  refine e_ic k44_6 (q := 9) rfl (fun c6 => ?_) (fun c6 => ?_)
  · have hlt : q < 10 := by
      have : ¬ q = 10 := fun z => c6 (by rw [hQ.2.2.1, z]; rfl)
      omega
    refine e_aload k44_11 (q := 12) rfl rfl ?_
    refine e_dup k44_12 (q := 13) rfl rfl ?_
    refine g_get k44_13 (q := 16) rfl rfl rfl ?_
    refine e_const k44_16 (q := 17) rfl ?_
    refine e_ib k44_17 (q := 18) rfl ?_
    refine g_put k44_18 (q := 21) rfl rfl ⟨_, rfl⟩ rfl ?_
    refine e_const k44_21 (q := 22) rfl ?_
    refine e_iret k44_22 (by first | exact Or.inl rfl | exact Or.inr rfl | assumption) ?_
    refine ⟨_, _, rfl, fun z => by omega, fun _ => ⟨rfl, _, rfl, fun k hk => ?_, ?_, ?_, ?_⟩⟩
    · rw [z_us_ne _ _ hk]; exact hQ.1 k hk
    · rw [z_us_eq]; exact hQ.2.1
    · rw [z_us_eq, hQ.2.2.1, nI_1]; rfl
    · rw [z_us_eq]; exact hQ.2.2.2
  · have heq : q = 10 := (nI_eq (by omega) (by decide)).mp (by rw [← hQ.2.2.1]; exact Classical.not_not.mp c6)
    refine e_const k44_9 (q := 10) rfl ?_
    refine e_iret k44_10 (by first | exact Or.inl rfl | exact Or.inr rfl | assumption) ?_
    exact ⟨_, _, rfl, fun _ => ⟨rfl, rfl⟩, fun z => by omega⟩
theorem m_empty {d : Nat} {h : zH} {ρ : Nat → Nat → Option Nat} {σ σ0 : Nat → Nat → Int32} {ip : Int32} {q e : Nat} (hQ : z_cq σ σ0 ip q e) (he : e ≤ 2) : z_M (d + 1) 43 [.ref 3] (z_G h σ ρ) (z_qi fun r h' => z_crr h ρ σ0 ip (z_emp q e) r h') := by
  refine z_M.of ⟨Nat.le_of_ble_eq_true rfl, by simp [Value.category]⟩ (L := [some (.ref 3)]) rfl ?_
  refine e_aload k43_0 (q := 1) rfl rfl ?_
  refine g_get k43_1 (q := 4) rfl rfl rfl ?_
  refine e_const k43_4 (q := 5) rfl ?_
  refine e_ic k43_5 (q := 8) rfl (fun c5 => ?_) (fun c5 => ?_)
  · have hlt : ¬ e = 2 := fun z => c5 (by rw [hQ.2.2.2, z]; rfl)
    refine e_aload k43_10 (q := 11) rfl rfl ?_
    refine e_dup k43_11 (q := 12) rfl rfl ?_
    refine g_get k43_12 (q := 15) rfl rfl rfl ?_
    refine e_const k43_15 (q := 16) rfl ?_
    refine e_ib k43_16 (q := 17) rfl ?_
    refine g_put k43_17 (q := 20) rfl rfl ⟨_, rfl⟩ rfl ?_
    refine e_const k43_20 (q := 21) rfl ?_
    refine e_iret k43_21 ⟨_, rfl⟩ ?_
    refine ⟨_, _, rfl, ?_⟩
    rw [z_emp, if_neg hlt]
    refine ⟨rfl, _, rfl, fun k hk => ?_, ?_, ?_, ?_⟩
    · rw [z_us_ne _ _ hk]; exact hQ.1 k hk
    · rw [z_us_eq]; exact hQ.2.1
    · rw [z_us_eq]; exact hQ.2.2.1
    · rw [z_us_eq, hQ.2.2.2, nI_1]; rfl
  · have heq : e = 2 := (nI_eq (by omega) (by decide)).mp (by rw [← hQ.2.2.2]; exact Classical.not_not.mp c5)
    refine e_const k43_8 (q := 9) rfl ?_
    refine e_iret k43_9 ⟨_, rfl⟩ ?_
    refine ⟨_, _, rfl, ?_⟩
    rw [z_emp, if_pos heq]
    exact ⟨rfl, _, rfl, hQ⟩
theorem m_beginsLike {d : Nat} {h : zH} {ρ : Nat → Nat → Option Nat} {σ σ0 : Nat → Nat → Int32} {ip : Int32} {q e : Nat} {n : Nat} (hQ : z_cq σ σ0 ip q e) (x : Int32) (hn : n ≤ 32) : z_M (d + 1) 45 [.ref 3, .int x, .int (nI n)] (z_G h σ ρ) (z_qi fun r h' => r = z_bi (z_sb ip x n) ∧ h' = z_G h σ ρ) := by
  refine z_M.of ⟨Nat.le_of_ble_eq_true rfl, by simp [Value.category]⟩ (L := [some (.ref 3), some (.int x), some (.int (nI n))]) rfl ?_
  have hs : (32 : Int32) - nI n = nI (32 - n) := by
    rw [show (32 : Int32) = nI (32 - n + n) by rw [Nat.sub_add_cancel hn]; rfl, ← nI_add, Int32.add_sub_cancel]
  refine e_iload k45_0 (q := 1) rfl rfl ?_
  refine e_if k45_1 (q := 4) rfl (fun c1 => ?_) (fun c1 => ?_)
  · refine e_const k45_18 (q := 19) rfl ?_
    refine e_goto k45_19 ?_
    refine e_iret k45_23 (by first | exact Or.inl rfl | exact Or.inr rfl | assumption) ?_
    have : n = 0 := (nI_eq (b := 0) (by omega) (by decide)).mp c1
    subst this
    exact ⟨_, _, rfl, rfl, rfl⟩
  · have hp : 0 < n := Nat.pos_of_ne_zero (fun z => c1 (by rw [z]; rfl))
    refine e_aload k45_4 (q := 5) rfl rfl ?_
    refine g_get k45_5 (q := 8) rfl rfl rfl ?_
    refine e_iload k45_8 (q := 9) rfl rfl ?_
    refine e_ib k45_9 (q := 10) rfl ?_
    refine e_const k45_10 (q := 12) rfl ?_
    refine e_iload k45_12 (q := 13) rfl rfl ?_
    refine e_ib k45_13 (q := 14) rfl ?_
    refine e_ib k45_14 (q := 15) rfl ?_
    rw [hs, hQ.2.1]
    refine e_if k45_15 (q := 18) rfl (fun c15 => ?_) (fun c15 => ?_)
    · refine e_const k45_22 (q := 23) rfl ?_
      refine e_iret k45_23 (by first | exact Or.inl rfl | exact Or.inr rfl | assumption) ?_
      exact ⟨_, _, rfl, by rw [show z_sb ip x n = false from Bool.not_eq_true _ ▸ fun z => c15 ((z_sb_cls ip x hp hn).mpr z)]; rfl, rfl⟩
    · refine e_const k45_18 (q := 19) rfl ?_
      refine e_goto k45_19 ?_
      refine e_iret k45_23 (by first | exact Or.inl rfl | exact Or.inr rfl | assumption) ?_
      exact ⟨_, _, rfl, by rw [(z_sb_cls ip x hp hn).mp (Classical.not_not.mp c15)]; rfl, rfl⟩
