/-! The model's checking: bits, counts, matches. -/
/-- the model's counts, and whether it went wrong -/
def z_mst (σ σ0 : Nat → Nat → Int32) (q e : Nat) (w : Bool) : Prop := (∀ k, k ≠ 18 → k ≠ 36 → k ≠ 37 → k ≠ 38 → σ k = σ0 k) ∧ (∀ j, j ≠ 18 → j ≠ 19 → j ≠ 20 → σ 18 j = σ0 18 j) ∧ σ 18 18 = nI q ∧ σ 18 19 = nI e ∧ σ 18 20 = z_bi w
def z_fra (σ' σ : Nat → Nat → Int32) : Prop := σ' 36 = σ 36 ∧ σ' 37 = σ 37 ∧ σ' 38 = σ 38
theorem z_fra.rf {σ : Nat → Nat → Int32} : z_fra σ σ := ⟨rfl, rfl, rfl⟩
theorem z_fra.tr {a b c : Nat → Nat → Int32} (h1 : z_fra a b) (h2 : z_fra b c) : z_fra a c := ⟨h1.1.trans h2.1, h1.2.1.trans h2.2.1, h1.2.2.trans h2.2.2⟩
theorem z_bi_eq {a b : Bool} : z_bi a = z_bi b ↔ a = b := by cases a <;> cases b <;> decide
theorem z_bi_0 {a : Bool} : z_bi a = 0 ↔ a = false := by cases a <;> decide
theorem l_same {d : Nat} {h : zH} {ρ : Nat → Nat → Option Nat} {σ : Nat → Nat → Int32} {n : Nat} {a b : Int32} (hn : n ≤ 32) : ∀ (m k : Nat), k + m = n →
    z_E d 79 6 [some (.ref 18), some (.int a), some (.int b), some (.int (nI n)), some (.int (z_bi (z_sb a b k))), some (.int (nI k))] [] (z_G h σ ρ) (z_qi fun r h' => r = z_bi (z_sb a b n) ∧ h' = z_G h σ ρ)
  | 0, k, hk => by
    obtain rfl : k = n := by omega
    refine e_iload k79_6 (q := 8) rfl rfl ?_
    refine e_iload k79_8 (q := 9) rfl rfl ?_
    refine e_ic k79_9 (q := 12) rfl (fun c9 => ?_) (fun c9 => absurd (nI_le (Nat.le_refl _) (by omega)) c9)
    refine e_iload k79_51 (q := 53) rfl rfl ?_
    refine e_iret k79_53 (z_fitb _) ?_
    exact ⟨_, _, rfl, rfl, rfl⟩
  | m + 1, k, hk => by
    have hs : (31 : Int32) - nI k = nI (31 - k) := by
      rw [show (31 : Int32) = nI (31 - k + k) by rw [Nat.sub_add_cancel (by omega)]; rfl, ← nI_add, Int32.add_sub_cancel]
    refine e_iload k79_6 (q := 8) rfl rfl ?_
    refine e_iload k79_8 (q := 9) rfl rfl ?_
    refine e_ic k79_9 (q := 12) rfl (fun c9 => absurd c9 (nI_ge (by omega) (by omega))) (fun c9 => ?_)
    refine e_iload k79_12 (q := 14) rfl rfl ?_
    refine e_if k79_14 (q := 17) rfl (fun c14 => ?_) (fun c14 => ?_)
    · refine e_const k79_42 (q := 43) rfl ?_
      refine e_ist k79_43 (q := 45) (L' := [_, _, _, _, some (.int (z_bi (z_sb a b (k + 1)))), _]) rfl rfl (by rw [z_sb, z_bi_0.mp c14]; rfl) ?_
      refine e_iinc k79_45 (q := 48) (L' := [_, _, _, _, _, some (.int (nI (k + 1)))]) rfl rfl (by rw [nI_1]; rfl) ?_
      refine e_goto k79_48 ?_
      exact l_same hn m (k + 1) (by omega)
    · refine e_iload k79_17 (q := 18) rfl rfl ?_
      refine e_const k79_18 (q := 20) rfl ?_
      refine e_iload k79_20 (q := 22) rfl rfl ?_
      refine e_ib k79_22 (q := 23) rfl ?_
      refine e_ib k79_23 (q := 24) rfl ?_
      rw [hs]
      refine e_const k79_24 (q := 25) rfl ?_
      refine e_ib k79_25 (q := 26) rfl ?_
      rw [z_bt1 a (by omega)]
      refine e_iload k79_26 (q := 27) rfl rfl ?_
      refine e_const k79_27 (q := 29) rfl ?_
      refine e_iload k79_29 (q := 31) rfl rfl ?_
      refine e_ib k79_31 (q := 32) rfl ?_
      refine e_ib k79_32 (q := 33) rfl ?_
      rw [hs]
      refine e_const k79_33 (q := 34) rfl ?_
      refine e_ib k79_34 (q := 35) rfl ?_
      rw [z_bt1 b (by omega)]
      refine e_ic k79_35 (q := 38) rfl (fun c35 => ?_) (fun c35 => ?_)
      · refine e_const k79_42 (q := 43) rfl ?_
        refine e_ist k79_43 (q := 45) (L' := [_, _, _, _, some (.int (z_bi (z_sb a b (k + 1)))), _]) rfl rfl (by rw [z_sb, beq_eq_false_iff_ne.mpr (fun z => c35 (z_bi_eq.mpr z)), Bool.and_false]; rfl) ?_
        refine e_iinc k79_45 (q := 48) (L' := [_, _, _, _, _, some (.int (nI (k + 1)))]) rfl rfl (by rw [nI_1]; rfl) ?_
        refine e_goto k79_48 ?_
        exact l_same hn m (k + 1) (by omega)
      · refine e_const k79_38 (q := 39) rfl ?_
        refine e_goto k79_39 ?_
        refine e_ist k79_43 (q := 45) (L' := [_, _, _, _, some (.int (z_bi (z_sb a b (k + 1)))), _]) rfl rfl (by rw [z_sb, beq_iff_eq.mpr (z_bi_eq.mp (Classical.not_not.mp c35)), Bool.and_true, show z_sb a b k = true from Classical.byContradiction (fun z => c14 (z_bi_0.mpr (Bool.not_eq_true _ ▸ z)))]; rfl) ?_
        refine e_iinc k79_45 (q := 48) (L' := [_, _, _, _, _, some (.int (nI (k + 1)))]) rfl rfl (by rw [nI_1]; rfl) ?_
        refine e_goto k79_48 ?_
        exact l_same hn m (k + 1) (by omega)
theorem m_same {d : Nat} {h : zH} {ρ : Nat → Nat → Option Nat} {σ : Nat → Nat → Int32} {n : Nat} (a b : Int32) (hn : n ≤ 32) : z_M (d + 1) 79 [.ref 18, .int a, .int b, .int (nI n)] (z_G h σ ρ) (z_qi fun r h' => r = z_bi (z_sb a b n) ∧ h' = z_G h σ ρ) := by
  refine z_M.of ⟨Nat.le_of_ble_eq_true rfl, by simp [Value.category]⟩ (L := [some (.ref 18), some (.int a), some (.int b), some (.int (nI n)), none, none]) rfl ?_
  refine e_const k79_0 (q := 1) rfl ?_
  refine e_ist k79_1 (q := 3) (L' := [_, _, _, _, _, _]) rfl rfl rfl ?_
  refine e_const k79_3 (q := 4) rfl ?_
  refine e_ist k79_4 (q := 6) (L' := [_, _, _, _, _, _]) rfl rfl rfl ?_
  exact l_same hn n 0 (by omega)
theorem m_ask {d : Nat} {h : zH} {ρ : Nat → Nat → Option Nat} {σ σ0 : Nat → Nat → Int32} {q e : Nat} (hS : z_mst σ σ0 q e false) (hl : q ≤ 10) : z_M (d + 1) 80 [.ref 18] (z_G h σ ρ) (z_qi fun r h' => ∃ σ', h' = z_G h σ' ρ ∧ z_fra σ' σ ∧ ((q = 10 ∧ r = 0 ∧ z_mst σ' σ0 q e true) ∨ (q < 10 ∧ r = 1 ∧ z_mst σ' σ0 (q + 1) e false))) := by
  refine z_M.of ⟨Nat.le_of_ble_eq_true rfl, by simp [Value.category]⟩ (L := [some (.ref 18)]) rfl ?_
  have hw : σ 18 20 = 0 := hS.2.2.2.2
  have hv : σ 18 18 = nI q := hS.2.2.1
  refine e_aload k80_0 (q := 1) rfl rfl ?_
  refine e_aload k80_1 (q := 2) rfl rfl ?_
  refine g_get k80_2 (q := 5) rfl rfl rfl ?_
  refine e_if k80_5 (q := 8) rfl (fun c5 => absurd c5 (fun z => z hw)) (fun c5 => ?_)
  refine e_aload k80_8 (q := 9) rfl rfl ?_
  refine g_get k80_9 (q := 12) rfl rfl rfl ?_
  refine e_const k80_12 (q := 14) rfl ?_
  refine e_ic k80_14 (q := 17) rfl (fun c14 => ?_) (fun c14 => ?_)
  · have hlt : q < 10 := by
      have : ¬ q = 10 := fun z => c14 (by rw [hv, z]; rfl)
      omega
    refine e_const k80_21 (q := 22) rfl ?_
    refine g_put k80_22 (q := 25) rfl rfl (by first | exact Or.inl rfl | exact Or.inr rfl | assumption) rfl ?_
    refine e_aload k80_25 (q := 26) rfl rfl ?_
    refine e_aload k80_26 (q := 27) rfl rfl ?_
    refine g_get k80_27 (q := 30) rfl rfl rfl ?_
    refine e_if k80_30 (q := 33) rfl (fun c30 => ?_) (fun c30 => absurd rfl c30)
    refine e_aload k80_40 (q := 41) rfl rfl ?_
    refine g_get k80_41 (q := 44) rfl rfl rfl ?_
    refine e_const k80_44 (q := 45) rfl ?_
    refine e_ib k80_45 (q := 46) rfl ?_
    refine g_put k80_46 (q := 49) rfl rfl ⟨_, rfl⟩ rfl ?_
    refine e_aload k80_49 (q := 50) rfl rfl ?_
    refine g_get k80_50 (q := 53) rfl rfl rfl ?_
    refine e_if k80_53 (q := 56) rfl (fun c53 => absurd c53 (fun z => z rfl)) (fun c53 => ?_)
    refine e_const k80_56 (q := 57) rfl ?_
    refine e_goto k80_57 ?_
    refine e_iret k80_61 (by first | exact Or.inl rfl | exact Or.inr rfl | assumption) ?_
    refine ⟨_, _, rfl, _, rfl, ⟨rfl, rfl, rfl⟩, Or.inr ⟨hlt, rfl, fun k k1 k2 k3 k4 => ?_, fun j j1 j2 j3 => ?_, ?_, ?_, ?_⟩⟩
    · rw [z_us_ne _ _ k1, z_us_ne _ _ k1]; exact hS.1 k k1 k2 k3 k4
    · rw [z_us_eq, pk_un j1, z_us_eq, pk_un j3]; exact hS.2.1 j j1 j2 j3
    · show σ 18 18 + 1 = _
      rw [hv, nI_1]
    · exact hS.2.2.2.1
    · rfl
  · have heq : q = 10 := (nI_eq (by omega) (by decide)).mp (by rw [← hv]; exact Classical.not_not.mp c14)
    refine e_const k80_17 (q := 18) rfl ?_
    refine e_goto k80_18 ?_
    refine g_put k80_22 (q := 25) rfl rfl (by first | exact Or.inl rfl | exact Or.inr rfl | assumption) rfl ?_
    refine e_aload k80_25 (q := 26) rfl rfl ?_
    refine e_aload k80_26 (q := 27) rfl rfl ?_
    refine g_get k80_27 (q := 30) rfl rfl rfl ?_
    refine e_if k80_30 (q := 33) rfl (fun c30 => absurd c30 (show ¬ (1 : Int32) = 0 by decide)) (fun c30 => ?_)
    refine e_aload k80_33 (q := 34) rfl rfl ?_
    refine g_get k80_34 (q := 37) rfl rfl rfl ?_
    refine e_goto k80_37 ?_
    refine g_put k80_46 (q := 49) rfl rfl ⟨_, rfl⟩ rfl ?_
    refine e_aload k80_49 (q := 50) rfl rfl ?_
    refine g_get k80_50 (q := 53) rfl rfl rfl ?_
    refine e_if k80_53 (q := 56) rfl (fun c53 => ?_) (fun c53 => absurd (show ¬ (1 : Int32) = 0 by decide) c53)
    refine e_const k80_60 (q := 61) rfl ?_
    refine e_iret k80_61 (by first | exact Or.inl rfl | exact Or.inr rfl | assumption) ?_
    refine ⟨_, _, rfl, _, rfl, ⟨rfl, rfl, rfl⟩, Or.inl ⟨heq, rfl, fun k k1 k2 k3 k4 => ?_, fun j j1 j2 j3 => ?_, ?_, ?_, ?_⟩⟩
    · rw [z_us_ne _ _ k1, z_us_ne _ _ k1]; exact hS.1 k k1 k2 k3 k4
    · rw [z_us_eq, pk_un j1, z_us_eq, pk_un j3]; exact hS.2.1 j j1 j2 j3
    · exact hS.2.2.1
    · exact hS.2.2.2.1
    · rfl
theorem m_miss {d : Nat} {h : zH} {ρ : Nat → Nat → Option Nat} {σ σ0 : Nat → Nat → Int32} {q e : Nat} (hS : z_mst σ σ0 q e false) (hl : e ≤ 2) : z_M (d + 1) 81 [.ref 18] (z_G h σ ρ) (z_qi fun r h' => ∃ σ', h' = z_G h σ' ρ ∧ z_fra σ' σ ∧ ((e = 2 ∧ r = 0 ∧ z_mst σ' σ0 q e true) ∨ (e < 2 ∧ r = 1 ∧ z_mst σ' σ0 q (e + 1) false))) := by
  refine z_M.of ⟨Nat.le_of_ble_eq_true rfl, by simp [Value.category]⟩ (L := [some (.ref 18)]) rfl ?_
  have hw : σ 18 20 = 0 := hS.2.2.2.2
  have hv : σ 18 19 = nI e := hS.2.2.2.1
  refine e_aload k81_0 (q := 1) rfl rfl ?_
  refine e_aload k81_1 (q := 2) rfl rfl ?_
  refine g_get k81_2 (q := 5) rfl rfl rfl ?_
  refine e_if k81_5 (q := 8) rfl (fun c5 => absurd c5 (fun z => z hw)) (fun c5 => ?_)
  refine e_aload k81_8 (q := 9) rfl rfl ?_
  refine g_get k81_9 (q := 12) rfl rfl rfl ?_
  refine e_const k81_12 (q := 13) rfl ?_
  refine e_ic k81_13 (q := 16) rfl (fun c13 => ?_) (fun c13 => ?_)
  · have hlt : e < 2 := by
      have : ¬ e = 2 := fun z => c13 (by rw [hv, z]; rfl)
      omega
    refine e_const k81_20 (q := 21) rfl ?_
    refine g_put k81_21 (q := 24) rfl rfl (by first | exact Or.inl rfl | exact Or.inr rfl | assumption) rfl ?_
    refine e_aload k81_24 (q := 25) rfl rfl ?_
    refine e_aload k81_25 (q := 26) rfl rfl ?_
    refine g_get k81_26 (q := 29) rfl rfl rfl ?_
    refine e_if k81_29 (q := 32) rfl (fun c29 => ?_) (fun c29 => absurd rfl c29)
    refine e_aload k81_39 (q := 40) rfl rfl ?_
    refine g_get k81_40 (q := 43) rfl rfl rfl ?_
    refine e_const k81_43 (q := 44) rfl ?_
    refine e_ib k81_44 (q := 45) rfl ?_
    refine g_put k81_45 (q := 48) rfl rfl ⟨_, rfl⟩ rfl ?_
    refine e_aload k81_48 (q := 49) rfl rfl ?_
    refine g_get k81_49 (q := 52) rfl rfl rfl ?_
    refine e_if k81_52 (q := 55) rfl (fun c52 => absurd c52 (fun z => z rfl)) (fun c52 => ?_)
    refine e_const k81_55 (q := 56) rfl ?_
    refine e_goto k81_56 ?_
    refine e_iret k81_60 (by first | exact Or.inl rfl | exact Or.inr rfl | assumption) ?_
    refine ⟨_, _, rfl, _, rfl, ⟨rfl, rfl, rfl⟩, Or.inr ⟨hlt, rfl, fun k k1 k2 k3 k4 => ?_, fun j j1 j2 j3 => ?_, ?_, ?_, ?_⟩⟩
    · rw [z_us_ne _ _ k1, z_us_ne _ _ k1]; exact hS.1 k k1 k2 k3 k4
    · rw [z_us_eq, pk_un j2, z_us_eq, pk_un j3]; exact hS.2.1 j j1 j2 j3
    · exact hS.2.2.1
    · show σ 18 19 + 1 = _
      rw [hv, nI_1]
    · rfl
  · have heq : e = 2 := (nI_eq (by omega) (by decide)).mp (by rw [← hv]; exact Classical.not_not.mp c13)
    refine e_const k81_16 (q := 17) rfl ?_
    refine e_goto k81_17 ?_
    refine g_put k81_21 (q := 24) rfl rfl (by first | exact Or.inl rfl | exact Or.inr rfl | assumption) rfl ?_
    refine e_aload k81_24 (q := 25) rfl rfl ?_
    refine e_aload k81_25 (q := 26) rfl rfl ?_
    refine g_get k81_26 (q := 29) rfl rfl rfl ?_
    refine e_if k81_29 (q := 32) rfl (fun c29 => absurd c29 (show ¬ (1 : Int32) = 0 by decide)) (fun c29 => ?_)
    refine e_aload k81_32 (q := 33) rfl rfl ?_
    refine g_get k81_33 (q := 36) rfl rfl rfl ?_
    refine e_goto k81_36 ?_
    refine g_put k81_45 (q := 48) rfl rfl ⟨_, rfl⟩ rfl ?_
    refine e_aload k81_48 (q := 49) rfl rfl ?_
    refine g_get k81_49 (q := 52) rfl rfl rfl ?_
    refine e_if k81_52 (q := 55) rfl (fun c52 => ?_) (fun c52 => absurd (show ¬ (1 : Int32) = 0 by decide) c52)
    refine e_const k81_59 (q := 60) rfl ?_
    refine e_iret k81_60 (by first | exact Or.inl rfl | exact Or.inr rfl | assumption) ?_
    refine ⟨_, _, rfl, _, rfl, ⟨rfl, rfl, rfl⟩, Or.inl ⟨heq, rfl, fun k k1 k2 k3 k4 => ?_, fun j j1 j2 j3 => ?_, ?_, ?_, ?_⟩⟩
    · rw [z_us_ne _ _ k1, z_us_ne _ _ k1]; exact hS.1 k k1 k2 k3 k4
    · rw [z_us_eq, pk_un j2, z_us_eq, pk_un j3]; exact hS.2.1 j j1 j2 j3
    · exact hS.2.2.1
    · exact hS.2.2.2.1
    · rfl
theorem m_missE {d : Nat} {h : zH} {ρ : Nat → Nat → Option Nat} {σ σ0 : Nat → Nat → Int32} {q e : Nat} (hS : z_mst σ σ0 q e false) (hl : e ≤ 2) : z_M (d + 1) 81 [.ref 18] (z_G h σ ρ) (z_qi fun r h' => ∃ σ', h' = z_G h σ' ρ ∧ z_fra σ' σ ∧ r = z_bi (decide ((z_emp q e).1 = 0)) ∧ z_mst σ' σ0 (z_emp q e).2.1 (z_emp q e).2.2 (decide ((z_emp q e).1 = 2))) := by
  refine (m_miss hS hl).mono ?_
  rintro r ⟨x, h', rfl, σ', rfl, e1, ⟨z, rfl, y⟩ | ⟨z, rfl, y⟩⟩
  · refine ⟨_, _, rfl, σ', rfl, e1, ?_⟩
    rw [z_emp, if_pos z]
    exact ⟨rfl, y⟩
  · refine ⟨_, _, rfl, σ', rfl, e1, ?_⟩
    rw [z_emp, if_neg (by omega)]
    exact ⟨rfl, y⟩
theorem l_hostsM {d : Nat} {h : zH} {ρ : Nat → Nat → Option Nat} {σ σ0 : Nat → Nat → Int32} {ip : Int32} {n t na : Nat} (r21 : σ 21 = σ0 21) (r22 : σ 22 = σ0 22) (ht : t < 12) (hA : σ0 21 t = nI na) (h3 : na ≤ 3) (hn : n ≤ 32) : ∀ (m k : Nat), k + m = na →
    z_E (d + 1) 82 6 [some (.ref 18), some (.int ip), some (.int (nI t)), some (.int (nI n)), some (.int (z_bi (z_any σ0 ip (3 * t) n k))), some (.int (nI k))] [] (z_G h σ ρ) (z_qi fun r h' => r = z_bi (z_any σ0 ip (3 * t) n na) ∧ h' = z_G h σ ρ)
  | 0, k, hk => by
    obtain rfl : k = na := by omega
    have hin : vp_in (nI t) 12 := vp_in_nI (by omega) (by decide)
    have hcl : (nI t).toNatClampNeg = t := nI_clamp (by omega)
    refine e_iload k82_6 (q := 8) rfl rfl ?_
    refine e_aload k82_8 (q := 9) rfl rfl ?_
    refine g_get k82_9 (q := 12) rfl rfl rfl ?_
    refine e_iload k82_12 (q := 13) rfl rfl ?_
    refine g_ald k82_13 (q := 14) rfl rfl (by assumption) ?_
    rw [hcl, r21, hA]
    refine e_ic k82_14 (q := 17) rfl (fun c14 => ?_) (fun c14 => absurd (nI_le (Nat.le_refl _) (by omega)) c14)
    refine e_iload k82_55 (q := 57) rfl rfl ?_
    refine e_iret k82_57 (z_fitb _) ?_
    exact ⟨_, _, rfl, rfl, rfl⟩
  | m + 1, k, hk => by
    have hin : vp_in (nI t) 12 := vp_in_nI (by omega) (by decide)
    have hcl : (nI t).toNatClampNeg = t := nI_clamp (by omega)
    have hx : (3 : Int32) * nI t + nI k = nI (3 * t + k) := by rw [show (3 : Int32) = nI 3 from rfl, z_nmul, nI_add]
    have hin2 : vp_in (nI (3 * t + k)) 36 := vp_in_nI (by omega) (by decide)
    refine e_iload k82_6 (q := 8) rfl rfl ?_
    refine e_aload k82_8 (q := 9) rfl rfl ?_
    refine g_get k82_9 (q := 12) rfl rfl rfl ?_
    refine e_iload k82_12 (q := 13) rfl rfl ?_
    refine g_ald k82_13 (q := 14) rfl rfl (by assumption) ?_
    rw [hcl, r21, hA]
    refine e_ic k82_14 (q := 17) rfl (fun c14 => absurd c14 (nI_ge (by omega) (by omega))) (fun c14 => ?_)
    refine e_iload k82_17 (q := 19) rfl rfl ?_
    refine e_if k82_19 (q := 22) rfl (fun c19 => ?_) (fun c19 => ?_)
    · refine e_const k82_42 (q := 43) rfl ?_
      refine e_goto k82_43 ?_
      refine e_ist k82_47 (q := 49) (L' := [_, _, _, _, some (.int (z_bi (z_any σ0 ip (3 * t) n (k + 1)))), _]) rfl rfl (by rw [z_any, show z_any σ0 ip (3 * t) n k = true from Classical.byContradiction (fun z => c19 (z_bi_0.mpr (Bool.not_eq_true _ ▸ z)))]; rfl) ?_
      refine e_iinc k82_49 (q := 52) (L' := [_, _, _, _, _, some (.int (nI (k + 1)))]) rfl rfl (by rw [nI_1]; rfl) ?_
      refine e_goto k82_52 ?_
      exact l_hostsM r21 r22 ht hA h3 hn m (k + 1) (by omega)
    · refine e_aload k82_22 (q := 23) rfl rfl ?_
      refine e_iload k82_23 (q := 24) rfl rfl ?_
      refine e_aload k82_24 (q := 25) rfl rfl ?_
      refine g_get k82_25 (q := 28) rfl rfl rfl ?_
      refine e_const k82_28 (q := 29) rfl ?_
      refine e_iload k82_29 (q := 30) rfl rfl ?_
      refine e_ib k82_30 (q := 31) rfl ?_
      refine e_iload k82_31 (q := 33) rfl rfl ?_
      refine e_ib k82_33 (q := 34) rfl ?_
      rw [hx]
      refine g_ald k82_34 (q := 35) rfl rfl (by assumption) ?_
      rw [nI_clamp (by omega), r22]
      refine e_iload k82_35 (q := 36) rfl rfl ?_
      refine g_cv k82_36 (q := 39) (as := [_, _, _]) rfl rfl rfl rfl (m_same ip _ hn) rfl (z_ki fun x36 h36 p36 => ?_)
      obtain ⟨rfl, rfl⟩ := p36
      refine e_if k82_39 (q := 42) rfl (fun c39 => ?_) (fun c39 => ?_)
      · refine e_const k82_46 (q := 47) rfl ?_
        refine e_ist k82_47 (q := 49) (L' := [_, _, _, _, some (.int (z_bi (z_any σ0 ip (3 * t) n (k + 1)))), _]) rfl rfl (by rw [z_any, z_bi_0.mp (Classical.not_not.mp c19), z_bi_0.mp c39]; rfl) ?_
        refine e_iinc k82_49 (q := 52) (L' := [_, _, _, _, _, some (.int (nI (k + 1)))]) rfl rfl (by rw [nI_1]; rfl) ?_
        refine e_goto k82_52 ?_
        exact l_hostsM r21 r22 ht hA h3 hn m (k + 1) (by omega)
      · refine e_const k82_42 (q := 43) rfl ?_
        refine e_goto k82_43 ?_
        refine e_ist k82_47 (q := 49) (L' := [_, _, _, _, some (.int (z_bi (z_any σ0 ip (3 * t) n (k + 1)))), _]) rfl rfl (by rw [z_any, show z_sb ip (σ0 22 (3 * t + k)) n = true from Classical.byContradiction (fun z => c39 (z_bi_0.mpr (Bool.not_eq_true _ ▸ z))), Bool.or_true]; rfl) ?_
        refine e_iinc k82_49 (q := 52) (L' := [_, _, _, _, _, some (.int (nI (k + 1)))]) rfl rfl (by rw [nI_1]; rfl) ?_
        refine e_goto k82_52 ?_
        exact l_hostsM r21 r22 ht hA h3 hn m (k + 1) (by omega)
theorem m_hostsM {d : Nat} {h : zH} {ρ : Nat → Nat → Option Nat} {σ σ0 : Nat → Nat → Int32} {ip : Int32} {n t na : Nat} (r21 : σ 21 = σ0 21) (r22 : σ 22 = σ0 22) (ht : t < 12) (hA : σ0 21 t = nI na) (h3 : na ≤ 3) (hn : n ≤ 32) : z_M (d + 2) 82 [.ref 18, .int ip, .int (nI t), .int (nI n)] (z_G h σ ρ) (z_qi fun r h' => r = z_bi (z_any σ0 ip (3 * t) n na) ∧ h' = z_G h σ ρ) := by
  refine z_M.of ⟨Nat.le_of_ble_eq_true rfl, by simp [Value.category]⟩ (L := [some (.ref 18), some (.int ip), some (.int (nI t)), some (.int (nI n)), none, none]) rfl ?_
  refine e_const k82_0 (q := 1) rfl ?_
  refine e_ist k82_1 (q := 3) (L' := [_, _, _, _, _, _]) rfl rfl rfl ?_
  refine e_const k82_3 (q := 4) rfl ?_
  refine e_ist k82_4 (q := 6) (L' := [_, _, _, _, _, _]) rfl rfl rfl ?_
  exact l_hostsM r21 r22 ht hA h3 hn na 0 (by omega)
theorem m_open {d : Nat} {h : zH} {ρ : Nat → Nat → Option Nat} {σ : Nat → Nat → Int32} {p i : Nat} (hp : p < 12) (ld : Bool) : z_M (d + 1) 84 [.ref 18, .int (nI p), .int (nI i), .int (z_bi ld)] (z_G h σ ρ) (z_qv fun h' => ∃ σ', h' = z_G h σ' ρ ∧ (∀ k, k ≠ 36 → k ≠ 37 → k ≠ 38 → σ' k = σ k) ∧ σ' 36 = upd (σ 36) p (nI i) ∧ σ' 37 = upd (σ 37) p 0 ∧ σ' 38 = upd (σ 38) p (z_bi ld)) := by
  refine z_M.of ⟨Nat.le_of_ble_eq_true rfl, by simp [Value.category]⟩ (L := [some (.ref 18), some (.int (nI p)), some (.int (nI i)), some (.int (z_bi ld))]) rfl ?_
  have hin : vp_in (nI p) 12 := vp_in_nI hp (by decide)
  have hcl : (nI p).toNatClampNeg = p := nI_clamp (by omega)
  refine e_aload k84_0 (q := 1) rfl rfl ?_
  refine g_get k84_1 (q := 4) rfl rfl rfl ?_
  refine e_iload k84_4 (q := 5) rfl rfl ?_
  refine e_iload k84_5 (q := 6) rfl rfl ?_
  refine g_aast k84_6 (q := 7) rfl (fun _ => rfl) (by assumption) ?_
  refine e_aload k84_7 (q := 8) rfl rfl ?_
  refine g_get k84_8 (q := 11) rfl rfl rfl ?_
  refine e_iload k84_11 (q := 12) rfl rfl ?_
  refine e_const k84_12 (q := 13) rfl ?_
  refine g_aast k84_13 (q := 14) rfl (fun _ => rfl) (by assumption) ?_
  refine e_aload k84_14 (q := 15) rfl rfl ?_
  refine g_get k84_15 (q := 18) rfl rfl rfl ?_
  refine e_iload k84_18 (q := 19) rfl rfl ?_
  refine e_iload k84_19 (q := 20) rfl rfl ?_
  refine g_aast k84_20 (q := 21) rfl (fun _ => rfl) (by assumption) ?_
  refine e_vret k84_21 ?_
  refine ⟨_, rfl, _, rfl, fun k k1 k2 k3 => ?_, ?_, ?_, ?_⟩
  · rw [z_us_ne _ _ k3, z_us_ne _ _ k2, z_us_ne _ _ k1]
  · show upd (σ 36) (nI p).toNatClampNeg (nI i) = _
    rw [hcl]
  · show upd (σ 37) (nI p).toNatClampNeg 0 = _
    rw [hcl]
  · show upd (σ 38) (nI p).toNatClampNeg (vp_nar .boolean (z_bi ld)) = _
    rw [hcl, z_narb]
