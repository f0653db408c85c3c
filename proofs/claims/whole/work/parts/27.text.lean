/-! What is typed, listed, cleared; what is asked of the form: the class and the model. -/
def z_ok10 (c : Int32) : Prop := c = 10 ∨ (¬ c < 32 ∧ ¬ 126 < c)
theorem m_type {d : Nat} {h : zH} {ρ : Nat → Nat → Option Nat} {σ : Nat → Nat → Int32} {n : Nat} (hT : z_tm σ n) (c : Int32) : z_M (d + 2) 10 [.ref 1, .int c] (z_G h σ ρ) (z_qi fun x h' => (z_ok10 c ∧ n < 240 → x = 1 ∧ h' = z_G h (z_us (z_us σ 7 (upd (σ 7) n (z_ch c))) 6 (upd (σ 6) 1 (nI (n + 1)))) ρ) ∧ (¬ (z_ok10 c ∧ n < 240) → x = 0 ∧ h' = z_G h σ ρ)) := by
  refine z_M.of ⟨Nat.le_of_ble_eq_true rfl, by simp [Value.category]⟩ (L := [some (.ref 1), some (.int c), none]) rfl ?_
  refine e_iload k10_0 (q := 1) rfl rfl ?_
  refine e_const k10_1 (q := 3) rfl ?_
  refine e_ic k10_3 (q := 6) rfl (fun c3 => ?_) (fun c3 => ?_)
  · refine e_const k10_18 (q := 19) rfl ?_
    refine e_goto k10_19 ?_
    refine e_ist k10_23 (q := 24) (L' := [_, _, _]) rfl rfl rfl ?_
    refine e_iload k10_24 (q := 25) rfl rfl ?_
    refine e_if k10_25 (q := 28) rfl (fun c25 => absurd c25 (by decide)) (fun c25 => ?_)
    refine e_aload k10_28 (q := 29) rfl rfl ?_
    refine g_get k10_29 (q := 32) rfl rfl rfl ?_
    refine g_get k10_32 (q := 35) rfl rfl rfl ?_
    refine e_iload k10_35 (q := 36) rfl rfl ?_
    refine g_cv k10_36 (q := 39) (as := [_]) rfl rfl rfl rfl (m_append z_tx6 hT.1 hT.2.1 c) rfl (z_ki fun x36 h36 p36 => ?_)
    obtain ⟨rfl, rfl⟩ := p36
    refine e_if k10_39 (q := 42) rfl (fun c39 => ?_) (fun c39 => ?_)
    · refine e_const k10_46 (q := 47) rfl ?_
      refine e_iret k10_47 (by first | exact Or.inl rfl | exact Or.inr rfl | assumption) ?_
      have hn240 : ¬ n < 240 := fun z => by rw [if_pos z] at c39; exact absurd c39 (by decide)
      exact ⟨_, _, rfl, fun z => absurd z.2 hn240, fun _ => ⟨rfl, by rw [z_ap, if_neg hn240]⟩⟩
    · refine e_const k10_42 (q := 43) rfl ?_
      refine e_goto k10_43 ?_
      refine e_iret k10_47 (by first | exact Or.inl rfl | exact Or.inr rfl | assumption) ?_
      have hn240 : n < 240 := by
        by_cases z : n < 240
        · exact z
        · rw [if_neg z] at c39; exact absurd rfl c39
      exact ⟨_, _, rfl, fun _ => ⟨rfl, by rw [z_ap, if_pos hn240]⟩, fun z => absurd ⟨(Or.inl c3), hn240⟩ z⟩
  · refine e_iload k10_6 (q := 7) rfl rfl ?_
    refine e_const k10_7 (q := 9) rfl ?_
    refine e_ic k10_9 (q := 12) rfl (fun c9 => ?_) (fun c9 => ?_)
    · refine e_const k10_22 (q := 23) rfl ?_
      refine e_ist k10_23 (q := 24) (L' := [_, _, _]) rfl rfl rfl ?_
      refine e_iload k10_24 (q := 25) rfl rfl ?_
      refine e_if k10_25 (q := 28) rfl (fun c25 => ?_) (fun c25 => absurd rfl c25)
      refine e_const k10_46 (q := 47) rfl ?_
      refine e_iret k10_47 (by first | exact Or.inl rfl | exact Or.inr rfl | assumption) ?_
      exact ⟨_, _, rfl, fun z => absurd z.1 (by rintro (y | y); exact c3 y; exact y.1 c9), fun _ => ⟨rfl, rfl⟩⟩
    · refine e_iload k10_12 (q := 13) rfl rfl ?_
      refine e_const k10_13 (q := 15) rfl ?_
      refine e_ic k10_15 (q := 18) rfl (fun c15 => ?_) (fun c15 => ?_)
      · refine e_const k10_22 (q := 23) rfl ?_
        refine e_ist k10_23 (q := 24) (L' := [_, _, _]) rfl rfl rfl ?_
        refine e_iload k10_24 (q := 25) rfl rfl ?_
        refine e_if k10_25 (q := 28) rfl (fun c25 => ?_) (fun c25 => absurd rfl c25)
        refine e_const k10_46 (q := 47) rfl ?_
        refine e_iret k10_47 (by first | exact Or.inl rfl | exact Or.inr rfl | assumption) ?_
        exact ⟨_, _, rfl, fun z => absurd z.1 (by rintro (y | y); exact c3 y; exact y.2 c15), fun _ => ⟨rfl, rfl⟩⟩
      · refine e_const k10_18 (q := 19) rfl ?_
        refine e_goto k10_19 ?_
        refine e_ist k10_23 (q := 24) (L' := [_, _, _]) rfl rfl rfl ?_
        refine e_iload k10_24 (q := 25) rfl rfl ?_
        refine e_if k10_25 (q := 28) rfl (fun c25 => absurd c25 (by decide)) (fun c25 => ?_)
        refine e_aload k10_28 (q := 29) rfl rfl ?_
        refine g_get k10_29 (q := 32) rfl rfl rfl ?_
        refine g_get k10_32 (q := 35) rfl rfl rfl ?_
        refine e_iload k10_35 (q := 36) rfl rfl ?_
        refine g_cv k10_36 (q := 39) (as := [_]) rfl rfl rfl rfl (m_append z_tx6 hT.1 hT.2.1 c) rfl (z_ki fun x36 h36 p36 => ?_)
        obtain ⟨rfl, rfl⟩ := p36
        refine e_if k10_39 (q := 42) rfl (fun c39 => ?_) (fun c39 => ?_)
        · refine e_const k10_46 (q := 47) rfl ?_
          refine e_iret k10_47 (by first | exact Or.inl rfl | exact Or.inr rfl | assumption) ?_
          have hn240 : ¬ n < 240 := fun z => by rw [if_pos z] at c39; exact absurd c39 (by decide)
          exact ⟨_, _, rfl, fun z => absurd z.2 hn240, fun _ => ⟨rfl, by rw [z_ap, if_neg hn240]⟩⟩
        · refine e_const k10_42 (q := 43) rfl ?_
          refine e_goto k10_43 ?_
          refine e_iret k10_47 (by first | exact Or.inl rfl | exact Or.inr rfl | assumption) ?_
          have hn240 : n < 240 := by
            by_cases z : n < 240
            · exact z
            · rw [if_neg z] at c39; exact absurd rfl c39
          exact ⟨_, _, rfl, fun _ => ⟨rfl, by rw [z_ap, if_pos hn240]⟩, fun z => absurd ⟨(Or.inr ⟨c9, c15⟩), hn240⟩ z⟩
theorem m_typeM {d : Nat} {h : zH} {ρ : Nat → Nat → Option Nat} {σ : Nat → Nat → Int32} {n : Nat} (hT : z_xm σ n) (c : Int32) : z_M (d + 1) 90 [.ref 18, .int c] (z_G h σ ρ) (z_qi fun x h' => (z_ok10 c ∧ n < 240 → x = 1 ∧ h' = z_G h (z_us (z_us σ 39 (upd (σ 39) n c)) 18 (upd (σ 18) 24 (nI (n + 1)))) ρ) ∧ (¬ (z_ok10 c ∧ n < 240) → x = 0 ∧ h' = z_G h σ ρ)) := by
  refine z_M.of ⟨Nat.le_of_ble_eq_true rfl, by simp [Value.category]⟩ (L := [some (.ref 18), some (.int c)]) rfl ?_
  have hn := hT.2
  have hcl : (σ 18 24).toNatClampNeg = n := by rw [hT.1]; exact nI_clamp (by omega)
  refine e_aload k90_0 (q := 1) rfl rfl ?_
  refine g_get k90_1 (q := 4) rfl rfl rfl ?_
  refine e_const k90_4 (q := 7) rfl ?_
  refine e_ic k90_7 (q := 10) rfl (fun c7 => ?_) (fun c7 => ?_)
  · refine e_const k90_28 (q := 29) rfl ?_
    refine e_iret k90_29 (by first | exact Or.inl rfl | exact Or.inr rfl | assumption) ?_
    have : n = 240 := (nI_eq (by omega) (by decide)).mp (by rw [← hT.1]; exact c7)
    exact ⟨_, _, rfl, fun z => absurd z.2 (by omega), fun _ => ⟨rfl, rfl⟩⟩
  · have hlt : n < 240 := by
      have : ¬ n = 240 := fun z => c7 (by rw [hT.1, z]; rfl)
      omega
    have hin : vp_in (σ 18 24) 240 := by rw [hT.1]; exact vp_in_nI hlt (by decide)
    refine e_iload k90_10 (q := 11) rfl rfl ?_
    refine e_const k90_11 (q := 13) rfl ?_
    refine e_ic k90_13 (q := 16) rfl (fun c13 => ?_) (fun c13 => ?_)
    · refine e_aload k90_30 (q := 31) rfl rfl ?_
      refine g_get k90_31 (q := 34) rfl rfl rfl ?_
      refine e_aload k90_34 (q := 35) rfl rfl ?_
      refine g_get k90_35 (q := 38) rfl rfl rfl ?_
      refine e_iload k90_38 (q := 39) rfl rfl ?_
      refine g_aast k90_39 (q := 40) rfl (fun _ => rfl) (by assumption) ?_
      refine e_aload k90_40 (q := 41) rfl rfl ?_
      refine e_dup k90_41 (q := 42) rfl rfl ?_
      refine g_get k90_42 (q := 45) rfl rfl rfl ?_
      refine e_const k90_45 (q := 46) rfl ?_
      refine e_ib k90_46 (q := 47) rfl ?_
      refine g_put k90_47 (q := 50) rfl rfl ⟨_, rfl⟩ rfl ?_
      refine e_const k90_50 (q := 51) rfl ?_
      refine e_iret k90_51 (by first | exact Or.inl rfl | exact Or.inr rfl | assumption) ?_
      refine ⟨_, _, rfl, fun _ => ⟨rfl, congrArg (fun z => z_G h z ρ) ?_⟩, fun z => absurd ⟨(Or.inl c13), hlt⟩ z⟩
      rw [hcl, z_us_ne _ _ (by decide), hT.1, nI_1]
      rfl
    · refine e_iload k90_16 (q := 17) rfl rfl ?_
      refine e_const k90_17 (q := 19) rfl ?_
      refine e_ic k90_19 (q := 22) rfl (fun c19 => ?_) (fun c19 => ?_)
      · refine e_const k90_28 (q := 29) rfl ?_
        refine e_iret k90_29 (by first | exact Or.inl rfl | exact Or.inr rfl | assumption) ?_
        exact ⟨_, _, rfl, fun z => absurd z.1 (by rintro (y | y); exact c13 y; exact y.1 c19), fun _ => ⟨rfl, rfl⟩⟩
      · refine e_iload k90_22 (q := 23) rfl rfl ?_
        refine e_const k90_23 (q := 25) rfl ?_
        refine e_ic k90_25 (q := 28) rfl (fun c25 => ?_) (fun c25 => ?_)
        · refine e_aload k90_30 (q := 31) rfl rfl ?_
          refine g_get k90_31 (q := 34) rfl rfl rfl ?_
          refine e_aload k90_34 (q := 35) rfl rfl ?_
          refine g_get k90_35 (q := 38) rfl rfl rfl ?_
          refine e_iload k90_38 (q := 39) rfl rfl ?_
          refine g_aast k90_39 (q := 40) rfl (fun _ => rfl) (by assumption) ?_
          refine e_aload k90_40 (q := 41) rfl rfl ?_
          refine e_dup k90_41 (q := 42) rfl rfl ?_
          refine g_get k90_42 (q := 45) rfl rfl rfl ?_
          refine e_const k90_45 (q := 46) rfl ?_
          refine e_ib k90_46 (q := 47) rfl ?_
          refine g_put k90_47 (q := 50) rfl rfl ⟨_, rfl⟩ rfl ?_
          refine e_const k90_50 (q := 51) rfl ?_
          refine e_iret k90_51 (by first | exact Or.inl rfl | exact Or.inr rfl | assumption) ?_
          refine ⟨_, _, rfl, fun _ => ⟨rfl, congrArg (fun z => z_G h z ρ) ?_⟩, fun z => absurd ⟨(Or.inr ⟨c19, Int32.not_lt.mpr c25⟩), hlt⟩ z⟩
          rw [hcl, z_us_ne _ _ (by decide), hT.1, nI_1]
          rfl
        · refine e_const k90_28 (q := 29) rfl ?_
          refine e_iret k90_29 (by first | exact Or.inl rfl | exact Or.inr rfl | assumption) ?_
          exact ⟨_, _, rfl, fun z => absurd z.1 (by rintro (y | y); exact c13 y; exact y.2 (Int32.not_le.mp c25)), fun _ => ⟨rfl, rfl⟩⟩
def z_ok58 (c : Int32) : Prop := c = 58 ∨ ¬ z_nm c = 0
theorem m_list {d : Nat} {h : zH} {ρ : Nat → Nat → Option Nat} {σ : Nat → Nat → Int32} {k : Nat} (hN : z_tn σ k) (c : Int32) : z_M (d + 2) 11 [.ref 1, .int c] (z_G h σ ρ) (z_qi fun x h' => (z_ok58 c ∧ k < 60 → x = 1 ∧ h' = z_G h (z_us (z_us σ 12 (upd (σ 12) k (z_ch c))) 11 (upd (σ 11) 1 (nI (k + 1)))) ρ) ∧ (¬ (z_ok58 c ∧ k < 60) → x = 0 ∧ h' = z_G h σ ρ)) := by
  refine z_M.of ⟨Nat.le_of_ble_eq_true rfl, by simp [Value.category]⟩ (L := [some (.ref 1), some (.int c), none]) rfl ?_
  refine e_iload k11_0 (q := 1) rfl rfl ?_
  refine e_const k11_1 (q := 3) rfl ?_
  refine e_ic k11_3 (q := 6) rfl (fun c3 => ?_) (fun c3 => ?_)
  · refine e_const k11_13 (q := 14) rfl ?_
    refine e_goto k11_14 ?_
    refine e_ist k11_18 (q := 19) (L' := [_, _, _]) rfl rfl rfl ?_
    refine e_iload k11_19 (q := 20) rfl rfl ?_
    refine e_if k11_20 (q := 23) rfl (fun c20 => absurd c20 (by decide)) (fun c20 => ?_)
    refine e_aload k11_23 (q := 24) rfl rfl ?_
    refine g_get k11_24 (q := 27) rfl rfl rfl ?_
    refine e_iload k11_27 (q := 28) rfl rfl ?_
    refine g_cv k11_28 (q := 31) (as := [_]) rfl rfl rfl rfl (m_append z_tx11 hN.1 hN.2.1 c) rfl (z_ki fun x28 h28 p28 => ?_)
    obtain ⟨rfl, rfl⟩ := p28
    refine e_if k11_31 (q := 34) rfl (fun c31 => ?_) (fun c31 => ?_)
    · refine e_const k11_38 (q := 39) rfl ?_
      refine e_iret k11_39 (by first | exact Or.inl rfl | exact Or.inr rfl | assumption) ?_
      have hn240 : ¬ k < 60 := fun z => by rw [if_pos z] at c31; exact absurd c31 (by decide)
      exact ⟨_, _, rfl, fun z => absurd z.2 hn240, fun _ => ⟨rfl, by rw [z_ap, if_neg hn240]⟩⟩
    · refine e_const k11_34 (q := 35) rfl ?_
      refine e_goto k11_35 ?_
      refine e_iret k11_39 (by first | exact Or.inl rfl | exact Or.inr rfl | assumption) ?_
      have hn240 : k < 60 := by
        by_cases z : k < 60
        · exact z
        · rw [if_neg z] at c31; exact absurd rfl c31
      exact ⟨_, _, rfl, fun _ => ⟨rfl, by rw [z_ap, if_pos hn240]⟩, fun z => absurd ⟨(Or.inl c3), hn240⟩ z⟩
  · refine e_iload k11_6 (q := 7) rfl rfl ?_
    refine e_cs k11_7 (q := 10) (as := [_]) rfl rfl (Nat.le_of_ble_eq_true rfl) (m_isNameSign c) rfl (z_ki fun x7 h7 p7 => ?_)
    obtain ⟨rfl, rfl⟩ := p7
    refine e_if k11_10 (q := 13) rfl (fun c10 => ?_) (fun c10 => ?_)
    · refine e_const k11_17 (q := 18) rfl ?_
      refine e_ist k11_18 (q := 19) (L' := [_, _, _]) rfl rfl rfl ?_
      refine e_iload k11_19 (q := 20) rfl rfl ?_
      refine e_if k11_20 (q := 23) rfl (fun c20 => ?_) (fun c20 => absurd rfl c20)
      refine e_const k11_38 (q := 39) rfl ?_
      refine e_iret k11_39 (by first | exact Or.inl rfl | exact Or.inr rfl | assumption) ?_
      exact ⟨_, _, rfl, fun z => absurd z.1 (by rintro (y | y); exact c3 y; exact y c10), fun _ => ⟨rfl, rfl⟩⟩
    · refine e_const k11_13 (q := 14) rfl ?_
      refine e_goto k11_14 ?_
      refine e_ist k11_18 (q := 19) (L' := [_, _, _]) rfl rfl rfl ?_
      refine e_iload k11_19 (q := 20) rfl rfl ?_
      refine e_if k11_20 (q := 23) rfl (fun c20 => absurd c20 (by decide)) (fun c20 => ?_)
      refine e_aload k11_23 (q := 24) rfl rfl ?_
      refine g_get k11_24 (q := 27) rfl rfl rfl ?_
      refine e_iload k11_27 (q := 28) rfl rfl ?_
      refine g_cv k11_28 (q := 31) (as := [_]) rfl rfl rfl rfl (m_append z_tx11 hN.1 hN.2.1 c) rfl (z_ki fun x28 h28 p28 => ?_)
      obtain ⟨rfl, rfl⟩ := p28
      refine e_if k11_31 (q := 34) rfl (fun c31 => ?_) (fun c31 => ?_)
      · refine e_const k11_38 (q := 39) rfl ?_
        refine e_iret k11_39 (by first | exact Or.inl rfl | exact Or.inr rfl | assumption) ?_
        have hn240 : ¬ k < 60 := fun z => by rw [if_pos z] at c31; exact absurd c31 (by decide)
        exact ⟨_, _, rfl, fun z => absurd z.2 hn240, fun _ => ⟨rfl, by rw [z_ap, if_neg hn240]⟩⟩
      · refine e_const k11_34 (q := 35) rfl ?_
        refine e_goto k11_35 ?_
        refine e_iret k11_39 (by first | exact Or.inl rfl | exact Or.inr rfl | assumption) ?_
        have hn240 : k < 60 := by
          by_cases z : k < 60
          · exact z
          · rw [if_neg z] at c31; exact absurd rfl c31
        exact ⟨_, _, rfl, fun _ => ⟨rfl, by rw [z_ap, if_pos hn240]⟩, fun z => absurd ⟨(Or.inr c10), hn240⟩ z⟩
theorem m_listM {d : Nat} {h : zH} {ρ : Nat → Nat → Option Nat} {σ : Nat → Nat → Int32} {k : Nat} (hN : z_xn σ k) (c : Int32) : z_M (d + 2) 92 [.ref 18, .int c] (z_G h σ ρ) (z_qi fun x h' => (z_ok58 c ∧ k < 60 → x = 1 ∧ h' = z_G h (z_us (z_us σ 40 (upd (σ 40) k c)) 18 (upd (σ 18) 26 (nI (k + 1)))) ρ) ∧ (¬ (z_ok58 c ∧ k < 60) → x = 0 ∧ h' = z_G h σ ρ)) := by
  refine z_M.of ⟨Nat.le_of_ble_eq_true rfl, by simp [Value.category]⟩ (L := [some (.ref 18), some (.int c)]) rfl ?_
  have hn := hN.2
  have hcl : (σ 18 26).toNatClampNeg = k := by rw [hN.1]; exact nI_clamp (by omega)
  refine e_aload k92_0 (q := 1) rfl rfl ?_
  refine g_get k92_1 (q := 4) rfl rfl rfl ?_
  refine e_const k92_4 (q := 6) rfl ?_
  refine e_ic k92_6 (q := 9) rfl (fun c6 => ?_) (fun c6 => ?_)
  · refine e_const k92_23 (q := 24) rfl ?_
    refine e_iret k92_24 (by first | exact Or.inl rfl | exact Or.inr rfl | assumption) ?_
    have : k = 60 := (nI_eq (by omega) (by decide)).mp (by rw [← hN.1]; exact c6)
    exact ⟨_, _, rfl, fun z => absurd z.2 (by omega), fun _ => ⟨rfl, rfl⟩⟩
  · have hlt : k < 60 := by
      have : ¬ k = 60 := fun z => c6 (by rw [hN.1, z]; rfl)
      omega
    have hin : vp_in (σ 18 26) 60 := by rw [hN.1]; exact vp_in_nI hlt (by decide)
    refine e_aload k92_9 (q := 10) rfl rfl ?_
    refine e_iload k92_10 (q := 11) rfl rfl ?_
    refine g_cv k92_11 (q := 14) (as := [_]) rfl rfl rfl rfl (m_plain c) rfl (z_ki fun x11 h11 p11 => ?_)
    obtain ⟨rfl, rfl⟩ := p11
    refine e_if k92_14 (q := 17) rfl (fun c14 => ?_) (fun c14 => ?_)
    · refine e_aload k92_25 (q := 26) rfl rfl ?_
      refine g_get k92_26 (q := 29) rfl rfl rfl ?_
      refine e_aload k92_29 (q := 30) rfl rfl ?_
      refine g_get k92_30 (q := 33) rfl rfl rfl ?_
      refine e_iload k92_33 (q := 34) rfl rfl ?_
      refine g_aast k92_34 (q := 35) rfl (fun _ => rfl) (by assumption) ?_
      refine e_aload k92_35 (q := 36) rfl rfl ?_
      refine e_dup k92_36 (q := 37) rfl rfl ?_
      refine g_get k92_37 (q := 40) rfl rfl rfl ?_
      refine e_const k92_40 (q := 41) rfl ?_
      refine e_ib k92_41 (q := 42) rfl ?_
      refine g_put k92_42 (q := 45) rfl rfl ⟨_, rfl⟩ rfl ?_
      refine e_const k92_45 (q := 46) rfl ?_
      refine e_iret k92_46 (by first | exact Or.inl rfl | exact Or.inr rfl | assumption) ?_
      refine ⟨_, _, rfl, fun _ => ⟨rfl, congrArg (fun z => z_G h z ρ) ?_⟩, fun z => absurd ⟨(Or.inr c14), hlt⟩ z⟩
      rw [hcl, z_us_ne _ _ (by decide), hN.1, nI_1]
      rfl
    · refine e_iload k92_17 (q := 18) rfl rfl ?_
      refine e_const k92_18 (q := 20) rfl ?_
      refine e_ic k92_20 (q := 23) rfl (fun c20 => ?_) (fun c20 => ?_)
      · refine e_aload k92_25 (q := 26) rfl rfl ?_
        refine g_get k92_26 (q := 29) rfl rfl rfl ?_
        refine e_aload k92_29 (q := 30) rfl rfl ?_
        refine g_get k92_30 (q := 33) rfl rfl rfl ?_
        refine e_iload k92_33 (q := 34) rfl rfl ?_
        refine g_aast k92_34 (q := 35) rfl (fun _ => rfl) (by assumption) ?_
        refine e_aload k92_35 (q := 36) rfl rfl ?_
        refine e_dup k92_36 (q := 37) rfl rfl ?_
        refine g_get k92_37 (q := 40) rfl rfl rfl ?_
        refine e_const k92_40 (q := 41) rfl ?_
        refine e_ib k92_41 (q := 42) rfl ?_
        refine g_put k92_42 (q := 45) rfl rfl ⟨_, rfl⟩ rfl ?_
        refine e_const k92_45 (q := 46) rfl ?_
        refine e_iret k92_46 (by first | exact Or.inl rfl | exact Or.inr rfl | assumption) ?_
        refine ⟨_, _, rfl, fun _ => ⟨rfl, congrArg (fun z => z_G h z ρ) ?_⟩, fun z => absurd ⟨(Or.inl c20), hlt⟩ z⟩
        rw [hcl, z_us_ne _ _ (by decide), hN.1, nI_1]
        rfl
      · refine e_const k92_23 (q := 24) rfl ?_
        refine e_iret k92_24 (by first | exact Or.inl rfl | exact Or.inr rfl | assumption) ?_
        exact ⟨_, _, rfl, fun z => absurd z.1 (by rintro (y | y); exact c20 y; exact c14 y), fun _ => ⟨rfl, rfl⟩⟩
theorem m_clear {d : Nat} {h : zH} {ρ : Nat → Nat → Option Nat} {σ : Nat → Nat → Int32} {n k : Nat} (hT : z_tm σ n) (hN : z_tn σ k) : z_M (d + 2) 12 [.ref 1] (z_G h σ ρ) (z_qv fun h' => h' = z_G h (z_us (z_us (z_us σ 6 (upd (σ 6) 1 0)) 11 (upd (σ 11) 1 0)) 1 (upd (σ 1) 7 0)) ρ) := by
  refine z_M.of ⟨Nat.le_of_ble_eq_true rfl, by simp [Value.category]⟩ (L := [some (.ref 1)]) rfl ?_
  refine e_aload k12_0 (q := 1) rfl rfl ?_
  refine g_get k12_1 (q := 4) rfl rfl rfl ?_
  refine g_get k12_4 (q := 7) rfl rfl rfl ?_
  refine e_const k12_7 (q := 8) rfl ?_
  refine g_cv k12_8 (q := 11) (as := [_]) rfl rfl rfl rfl (m_cut0 z_tx6 hT.1 hT.2.1) rfl (z_kv fun h8 p8 => ?_)
  obtain rfl := p8
  refine e_aload k12_11 (q := 12) rfl rfl ?_
  refine g_get k12_12 (q := 15) rfl rfl rfl ?_
  refine e_const k12_15 (q := 16) rfl ?_
  refine g_cv k12_16 (q := 19) (as := [_]) rfl rfl rfl rfl (m_cut0 (σ := z_us σ 6 (upd (σ 6) 1 0)) z_tx11 (by rw [z_us_ne _ _ (by decide)]; exact hN.1) hN.2.1) rfl (z_kv fun h16 p16 => ?_)
  obtain rfl := p16
  refine e_aload k12_19 (q := 20) rfl rfl ?_
  refine e_const k12_20 (q := 21) rfl ?_
  refine g_put k12_21 (q := 24) rfl rfl ⟨_, rfl⟩ rfl ?_
  refine e_vret k12_24 ?_
  refine ⟨_, rfl, congrArg (fun z => z_G h z ρ) ?_⟩
  rw [z_us_ne σ (a := 6) (k := 11) _ (by decide), z_us_ne _ (a := 11) (k := 1) _ (by decide), z_us_ne σ (a := 6) (k := 1) _ (by decide)]
theorem m_clearM {d : Nat} {h : zH} {ρ : Nat → Nat → Option Nat} {σ : Nat → Nat → Int32}  : z_M (d + 1) 93 [.ref 18] (z_G h σ ρ) (z_qv fun h' => h' = z_G h (z_us σ 18 (upd (upd (upd (σ 18) 24 0) 26 0) 28 0)) ρ) := by
  refine z_M.of ⟨Nat.le_of_ble_eq_true rfl, by simp [Value.category]⟩ (L := [some (.ref 18)]) rfl ?_
  refine e_aload k93_0 (q := 1) rfl rfl ?_
  refine e_const k93_1 (q := 2) rfl ?_
  refine g_put k93_2 (q := 5) rfl rfl ⟨_, rfl⟩ rfl ?_
  refine e_aload k93_5 (q := 6) rfl rfl ?_
  refine e_const k93_6 (q := 7) rfl ?_
  refine g_put k93_7 (q := 10) rfl rfl ⟨_, rfl⟩ rfl ?_
  refine e_aload k93_10 (q := 11) rfl rfl ?_
  refine e_const k93_11 (q := 12) rfl ?_
  refine g_put k93_12 (q := 15) rfl rfl ⟨_, rfl⟩ rfl ?_
  refine e_vret k93_15 ?_
  refine ⟨_, rfl, congrArg (fun z => z_G h z ρ) ?_⟩
  funext j
  by_cases e : j = 18
  · subst e; rfl
  · rw [z_us_ne _ _ e, z_us_ne _ _ e, z_us_ne _ _ e, z_us_ne _ _ e]
theorem m_fields {d : Nat} {h : zH} {ρ : Nat → Nat → Option Nat} {σ : Nat → Nat → Int32} {n : Nat} (hT : z_tm σ n) : z_M (d + 5) 13 [.ref 1] (z_G h σ ρ) (z_qi fun x h' => ∃ σ', h' = z_G h σ' ρ ∧ z_ew σ' σ ∧ (σ' 13 = σ 13 ∧ σ' 14 = σ 14) ∧ match z_rd (σ 7) n (z_ln (σ 7) n 0 0) [] with
      | none => x = -1
      | some y => x = nI y.1.length) := by
  refine z_M.of ⟨Nat.le_of_ble_eq_true rfl, by simp [Value.category]⟩ (L := [some (.ref 1)]) rfl ?_
  refine e_aload k13_0 (q := 1) rfl rfl ?_
  refine g_get k13_1 (q := 4) rfl rfl rfl ?_
  refine g_cv k13_4 (q := 7) (as := []) rfl rfl rfl rfl (m_read hT) rfl (z_ki fun x4 h4 p4 => ?_)
  obtain ⟨σ1, rfl, e1, q1⟩ := p4
  refine e_if k13_7 (q := 10) rfl (fun c7 => ?_) (fun c7 => ?_)
  · refine e_const k13_20 (q := 21) rfl ?_
    refine e_iret k13_21 ⟨_, rfl⟩ ?_
    refine ⟨_, _, rfl, σ1, rfl, e1.ew, ⟨e1 13 (by decide) (by decide) (by decide) (by decide), e1 14 (by decide) (by decide) (by decide) (by decide)⟩, ?_⟩
    cases hz : z_rd (σ 7) n (z_ln (σ 7) n 0 0) [] with
    | none => rfl
    | some y => rw [hz] at q1; rw [q1.1] at c7; exact absurd c7 (by decide)
  · refine e_aload k13_10 (q := 11) rfl rfl ?_
    refine g_get k13_11 (q := 14) rfl rfl rfl ?_
    refine g_get k13_14 (q := 17) rfl rfl rfl ?_
    refine e_goto k13_17 ?_
    refine e_iret k13_21 ⟨_, rfl⟩ ?_
    refine ⟨_, _, rfl, σ1, rfl, e1.ew, ⟨e1 13 (by decide) (by decide) (by decide) (by decide), e1 14 (by decide) (by decide) (by decide) (by decide)⟩, ?_⟩
    cases hz : z_rd (σ 7) n (z_ln (σ 7) n 0 0) [] with
    | none => rw [hz] at q1; exact absurd q1 c7
    | some y => rw [hz] at q1; exact q1.2.1.1
theorem m_fieldsM {d : Nat} {h : zH} {ρ : Nat → Nat → Option Nat} {σ : Nat → Nat → Int32} {n : Nat} (hT : z_xm σ n) : z_M (d + 3) 97 [.ref 18] (z_G h σ ρ) (z_qi fun x h' => ∃ σ', h' = z_G h σ' ρ ∧ z_ey σ' σ ∧ match z_rd (σ 39) n (z_ln (σ 39) n 0 0) [] with
      | none => x = -1
      | some y => x = nI y.1.length) := by
  refine z_M.of ⟨Nat.le_of_ble_eq_true rfl, by simp [Value.category]⟩ (L := [some (.ref 18)]) rfl ?_
  refine e_aload k97_0 (q := 1) rfl rfl ?_
  refine g_cv k97_1 (q := 4) (as := []) rfl rfl rfl rfl (m_readM hT) rfl (z_ki fun x1 h1 p1 => ?_)
  obtain ⟨σ1, rfl, ⟨σ0, e1, e0⟩, hL, hH, q1⟩ := p1
  refine e_if k97_4 (q := 7) rfl (fun c4 => ?_) (fun c4 => ?_)
  · refine e_const k97_14 (q := 15) rfl ?_
    refine e_iret k97_15 ⟨_, rfl⟩ ?_
    refine ⟨_, _, rfl, σ1, rfl, e1.ey.tr e0.ey, ?_⟩
    cases hz : z_rd (σ 39) n (z_ln (σ 39) n 0 0) [] with
    | none => rfl
    | some y => rw [hz] at q1; rw [q1.1] at c4; exact absurd c4 (by decide)
  · refine e_aload k97_7 (q := 8) rfl rfl ?_
    refine g_get k97_8 (q := 11) rfl rfl rfl ?_
    refine e_goto k97_11 ?_
    refine e_iret k97_15 ⟨_, rfl⟩ ?_
    refine ⟨_, _, rfl, σ1, rfl, e1.ey.tr e0.ey, ?_⟩
    cases hz : z_rd (σ 39) n (z_ln (σ 39) n 0 0) [] with
    | none => rw [hz] at q1; exact absurd q1 c4
    | some y => rw [hz] at q1; exact q1.2.1
def z_atv (o : List Int32) (i : Int32) : Int32 := if i < 0 ∨ nI o.length ≤ i then -1 else o.getD i.toNatClampNeg 0
def z_dgv (o : List Int32) : Int32 := (z_dg (fun j => o.getD j 0) o.length).toInt32
theorem m_length {d : Nat} {h : zH} {ρ : Nat → Nat → Option Nat} {σ : Nat → Nat → Int32} {n k : Nat} {out : List Int32} (rf rb : Bool) (hT : z_tm σ n) (hN : z_tn σ k) (hC : z_cs σ out) : z_M (d + 6) 14 [.ref 1, .int (z_bi rf), .int (z_bi rb)] (z_G h σ ρ) (z_qi fun x h' => ∃ σ', h' = z_G h σ' ρ ∧ z_ew σ' σ ∧ (∃ o', z_cs σ' o') ∧ match z_cf (σ 7) (σ 12) n k rf rb with
      | none => x = -1
      | some o => x = nI o.length) := by
  refine z_M.of ⟨Nat.le_of_ble_eq_true rfl, by simp [Value.category]⟩ (L := [some (.ref 1), some (.int (z_bi rf)), some (.int (z_bi rb))]) rfl ?_
  refine e_aload k14_0 (q := 1) rfl rfl ?_
  refine g_get k14_1 (q := 4) rfl rfl rfl ?_
  refine e_iload k14_4 (q := 5) rfl rfl ?_
  refine e_iload k14_5 (q := 6) rfl rfl ?_
  refine g_cv k14_6 (q := 9) (as := [_, _]) rfl rfl rfl rfl (m_write rf rb hT hN hC) rfl (z_ki fun x6 h6 p6 => ?_)
  obtain ⟨σ1, rfl, e1, w1, q1⟩ := p6
  refine e_if k14_9 (q := 12) rfl (fun c9 => ?_) (fun c9 => ?_)
  · refine e_const k14_25 (q := 26) rfl ?_
    refine e_iret k14_26 ⟨_, rfl⟩ ?_
    refine ⟨_, _, rfl, σ1, rfl, e1, w1, ?_⟩
    cases hz : z_cf (σ 7) (σ 12) n k rf rb with
    | none => rfl
    | some o => rw [hz] at q1; rw [q1.1] at c9; exact absurd c9 (by decide)
  · refine e_aload k14_12 (q := 13) rfl rfl ?_
    refine g_get k14_13 (q := 16) rfl rfl rfl ?_
    refine g_get k14_16 (q := 19) rfl rfl rfl ?_
    refine g_get k14_19 (q := 22) rfl rfl rfl ?_
    refine e_goto k14_22 ?_
    refine e_iret k14_26 ⟨_, rfl⟩ ?_
    refine ⟨_, _, rfl, σ1, rfl, e1, w1, ?_⟩
    cases hz : z_cf (σ 7) (σ 12) n k rf rb with
    | none => rw [hz] at q1; exact absurd q1 c9
    | some o =>
      rw [hz] at q1
      have hol := z_cf_len hz
      have hn := hT.2.1
      exact q1.2.size (by omega)
theorem m_at {d : Nat} {h : zH} {ρ : Nat → Nat → Option Nat} {σ : Nat → Nat → Int32} {n k : Nat} {out : List Int32} (rf rb : Bool) (hT : z_tm σ n) (hN : z_tn σ k) (hC : z_cs σ out) (i : Int32) : z_M (d + 6) 15 [.ref 1, .int (z_bi rf), .int (z_bi rb), .int i] (z_G h σ ρ) (z_qi fun x h' => ∃ σ', h' = z_G h σ' ρ ∧ z_ew σ' σ ∧ (∃ o', z_cs σ' o') ∧ match z_cf (σ 7) (σ 12) n k rf rb with
      | none => x = -1
      | some o => x = z_atv o i) := by
  refine z_M.of ⟨Nat.le_of_ble_eq_true rfl, by simp [Value.category]⟩ (L := [some (.ref 1), some (.int (z_bi rf)), some (.int (z_bi rb)), some (.int i)]) rfl ?_
  refine e_aload k15_0 (q := 1) rfl rfl ?_
  refine g_get k15_1 (q := 4) rfl rfl rfl ?_
  refine e_iload k15_4 (q := 5) rfl rfl ?_
  refine e_iload k15_5 (q := 6) rfl rfl ?_
  refine g_cv k15_6 (q := 9) (as := [_, _]) rfl rfl rfl rfl (m_write rf rb hT hN hC) rfl (z_ki fun x6 h6 p6 => ?_)
  obtain ⟨σ1, rfl, e1, w1, q1⟩ := p6
  refine e_if k15_9 (q := 12) rfl (fun c9 => ?_) (fun c9 => ?_)
  · refine e_const k15_26 (q := 27) rfl ?_
    refine e_iret k15_27 ⟨_, rfl⟩ ?_
    refine ⟨_, _, rfl, σ1, rfl, e1, w1, ?_⟩
    cases hz : z_cf (σ 7) (σ 12) n k rf rb with
    | none => rfl
    | some o => rw [hz] at q1; rw [q1.1] at c9; exact absurd c9 (by decide)
  · cases hz : z_cf (σ 7) (σ 12) n k rf rb with
    | none => rw [hz] at q1; exact absurd q1 c9
    | some o =>
    rw [hz] at q1
    have hol := z_cf_len hz
    have hn := hT.2.1
    have hsz := q1.2.size (by omega)
    refine e_aload k15_12 (q := 13) rfl rfl ?_
    refine g_get k15_13 (q := 16) rfl rfl rfl ?_
    refine g_get k15_16 (q := 19) rfl rfl rfl ?_
    refine e_iload k15_19 (q := 20) rfl rfl ?_
    refine g_cv k15_20 (q := 23) (as := [_]) rfl rfl rfl rfl (m_codeAt z_tx13 hsz (by omega) i) rfl (z_ki fun x20 h20 p20 => ?_)
    obtain ⟨rfl, rfl⟩ := p20
    refine e_goto k15_23 ?_
    refine e_iret k15_27 ⟨_, rfl⟩ ?_
    refine ⟨_, _, rfl, σ1, rfl, e1, w1, ?_⟩
    show _ = z_atv o i
    rw [z_atv]
    by_cases hi : i < 0 ∨ nI o.length ≤ i
    · rw [if_pos hi, if_pos hi]
    · rw [if_neg hi, if_neg hi]
      obtain ⟨j, hj, rfl⟩ := nI_of (fun z => hi (Or.inl z))
      have hjl : j < o.length := by
        rcases Nat.lt_or_ge j o.length with z | z
        · exact z
        · exact absurd (Or.inr (nI_le z hj)) hi
      rw [nI_clamp hj]
      exact q1.2.2 j (by omega)
theorem m_digest {d : Nat} {h : zH} {ρ : Nat → Nat → Option Nat} {σ : Nat → Nat → Int32} {n k : Nat} {out : List Int32} (rf rb : Bool) (hT : z_tm σ n) (hN : z_tn σ k) (hC : z_cs σ out) : z_M (d + 6) 16 [.ref 1, .int (z_bi rf), .int (z_bi rb)] (z_G h σ ρ) (z_qi fun x h' => ∃ σ', h' = z_G h σ' ρ ∧ z_ew σ' σ ∧ (∃ o', z_cs σ' o') ∧ match z_cf (σ 7) (σ 12) n k rf rb with
      | none => x = -1
      | some o => x = z_dgv o) := by
  refine z_M.of ⟨Nat.le_of_ble_eq_true rfl, by simp [Value.category]⟩ (L := [some (.ref 1), some (.int (z_bi rf)), some (.int (z_bi rb))]) rfl ?_
  refine e_aload k16_0 (q := 1) rfl rfl ?_
  refine g_get k16_1 (q := 4) rfl rfl rfl ?_
  refine e_iload k16_4 (q := 5) rfl rfl ?_
  refine e_iload k16_5 (q := 6) rfl rfl ?_
  refine g_cv k16_6 (q := 9) (as := [_, _]) rfl rfl rfl rfl (m_write rf rb hT hN hC) rfl (z_ki fun x6 h6 p6 => ?_)
  obtain ⟨σ1, rfl, e1, w1, q1⟩ := p6
  refine e_if k16_9 (q := 12) rfl (fun c9 => ?_) (fun c9 => ?_)
  · refine e_const k16_25 (q := 26) rfl ?_
    refine e_iret k16_26 ⟨_, rfl⟩ ?_
    refine ⟨_, _, rfl, σ1, rfl, e1, w1, ?_⟩
    cases hz : z_cf (σ 7) (σ 12) n k rf rb with
    | none => rfl
    | some o => rw [hz] at q1; rw [q1.1] at c9; exact absurd c9 (by decide)
  · cases hz : z_cf (σ 7) (σ 12) n k rf rb with
    | none => rw [hz] at q1; exact absurd q1 c9
    | some o =>
    rw [hz] at q1
    have hol := z_cf_len hz
    have hn := hT.2.1
    have hsz := q1.2.size (by omega)
    refine e_aload k16_12 (q := 13) rfl rfl ?_
    refine g_get k16_13 (q := 16) rfl rfl rfl ?_
    refine g_get k16_16 (q := 19) rfl rfl rfl ?_
    refine g_cv k16_19 (q := 22) (as := []) rfl rfl rfl rfl (m_summary z_tx13 hsz (by omega)) rfl (z_ki fun x19 h19 p19 => ?_)
    obtain ⟨rfl, rfl⟩ := p19
    refine e_goto k16_22 ?_
    refine e_iret k16_26 ⟨_, rfl⟩ ?_
    refine ⟨_, _, rfl, σ1, rfl, e1, w1, ?_⟩
    show _ = z_dgv o
    rw [z_dgv]
    congr 1
    exact z_dg_eq _ (fun j hj => q1.2.2 j (by omega))
theorem m_lengthM {d : Nat} {h : zH} {ρ : Nat → Nat → Option Nat} {σ : Nat → Nat → Int32} {n k : Nat} (rf rb : Bool) (hT : z_xm σ n) (hN : z_xn σ k) : z_M (d + 6) 107 [.ref 18, .int (z_bi rf), .int (z_bi rb)] (z_G h σ ρ) (z_qi fun x h' => ∃ σ', h' = z_G h σ' ρ ∧ z_ey σ' σ ∧ match z_cf (σ 39) (σ 40) n k rf rb with
      | none => x = -1
      | some o => x = nI o.length) := by
  refine z_M.of ⟨Nat.le_of_ble_eq_true rfl, by simp [Value.category]⟩ (L := [some (.ref 18), some (.int (z_bi rf)), some (.int (z_bi rb))]) rfl ?_
  refine e_aload k107_0 (q := 1) rfl rfl ?_
  refine e_iload k107_1 (q := 2) rfl rfl ?_
  refine e_iload k107_2 (q := 3) rfl rfl ?_
  refine g_cv k107_3 (q := 6) (as := [_, _]) rfl rfl rfl rfl (m_writeM rf rb hT hN) rfl (z_ki fun x3 h3 p3 => ?_)
  obtain ⟨σ1, rfl, e1, q1⟩ := p3
  refine e_if k107_6 (q := 9) rfl (fun c6 => ?_) (fun c6 => ?_)
  · refine e_const k107_16 (q := 17) rfl ?_
    refine e_iret k107_17 ⟨_, rfl⟩ ?_
    refine ⟨_, _, rfl, σ1, rfl, e1, ?_⟩
    cases hz : z_cf (σ 39) (σ 40) n k rf rb with
    | none => rfl
    | some o => rw [hz] at q1; rw [q1.1] at c6; exact absurd c6 (by decide)
  · refine e_aload k107_9 (q := 10) rfl rfl ?_
    refine g_get k107_10 (q := 13) rfl rfl rfl ?_
    refine e_goto k107_13 ?_
    refine e_iret k107_17 ⟨_, rfl⟩ ?_
    refine ⟨_, _, rfl, σ1, rfl, e1, ?_⟩
    cases hz : z_cf (σ 39) (σ 40) n k rf rb with
    | none => rw [hz] at q1; exact absurd q1 c6
    | some o => rw [hz] at q1; exact q1.2.1
theorem m_atM {d : Nat} {h : zH} {ρ : Nat → Nat → Option Nat} {σ : Nat → Nat → Int32} {n k : Nat} (rf rb : Bool) (hT : z_xm σ n) (hN : z_xn σ k) (i : Int32) : z_M (d + 6) 108 [.ref 18, .int (z_bi rf), .int (z_bi rb), .int i] (z_G h σ ρ) (z_qi fun x h' => ∃ σ', h' = z_G h σ' ρ ∧ z_ey σ' σ ∧ match z_cf (σ 39) (σ 40) n k rf rb with
      | none => x = -1
      | some o => x = z_atv o i) := by
  refine z_M.of ⟨Nat.le_of_ble_eq_true rfl, by simp [Value.category]⟩ (L := [some (.ref 18), some (.int (z_bi rf)), some (.int (z_bi rb)), some (.int i)]) rfl ?_
  refine e_aload k108_0 (q := 1) rfl rfl ?_
  refine e_iload k108_1 (q := 2) rfl rfl ?_
  refine e_iload k108_2 (q := 3) rfl rfl ?_
  refine g_cv k108_3 (q := 6) (as := [_, _]) rfl rfl rfl rfl (m_writeM rf rb hT hN) rfl (z_ki fun x3 h3 p3 => ?_)
  obtain ⟨σ1, rfl, e1, q1⟩ := p3
  refine e_if k108_6 (q := 9) rfl (fun c6 => ?_) (fun c6 => ?_)
  · refine e_const k108_21 (q := 22) rfl ?_
    refine e_goto k108_22 ?_
    refine e_iret k108_31 ⟨_, rfl⟩ ?_
    refine ⟨_, _, rfl, σ1, rfl, e1, ?_⟩
    cases hz : z_cf (σ 39) (σ 40) n k rf rb with
    | none => rfl
    | some o => rw [hz] at q1; rw [q1.1] at c6; exact absurd c6 (by decide)
  · cases hz : z_cf (σ 39) (σ 40) n k rf rb with
    | none => rw [hz] at q1; exact absurd q1 c6
    | some o =>
    rw [hz] at q1
    have hol := z_cf_len hz
    have hn := hT.2
    refine e_iload k108_9 (q := 10) rfl rfl ?_
    refine e_if k108_10 (q := 13) rfl (fun c10 => ?_) (fun c10 => ?_)
    · refine e_const k108_21 (q := 22) rfl ?_
      refine e_goto k108_22 ?_
      refine e_iret k108_31 ⟨_, rfl⟩ ?_
      refine ⟨_, _, rfl, σ1, rfl, e1, ?_⟩
      show _ = z_atv o i
      rw [z_atv, if_pos (Or.inl c10)]
    · refine e_iload k108_13 (q := 14) rfl rfl ?_
      refine e_aload k108_14 (q := 15) rfl rfl ?_
      refine g_get k108_15 (q := 18) rfl rfl rfl ?_
      refine e_ic k108_18 (q := 21) rfl (fun c18 => ?_) (fun c18 => ?_)
      · obtain ⟨j, hj, rfl⟩ := nI_of c10
        have hjl : j < o.length := by
          have c : nI j < σ1 18 42 := c18
          rw [q1.2.1] at c
          exact (nI_ltI hj (by omega)).mp c
        have hin : vp_in (nI j) 500 := vp_in_nI (by omega) (by decide)
        refine e_aload k108_25 (q := 26) rfl rfl ?_
        refine g_get k108_26 (q := 29) rfl rfl rfl ?_
        refine e_iload k108_29 (q := 30) rfl rfl ?_
        refine g_ald k108_30 (q := 31) rfl rfl (by assumption) ?_
        refine e_iret k108_31 ⟨_, rfl⟩ ?_
        refine ⟨_, _, rfl, σ1, rfl, e1, ?_⟩
        show _ = z_atv o (nI j)
        rw [z_atv, if_neg (by rintro (z | z); exact c10 z; exact nI_ge hjl (by omega) z), nI_clamp hj]
        exact q1.2.2 j hjl
      · refine e_const k108_21 (q := 22) rfl ?_
        refine e_goto k108_22 ?_
        refine e_iret k108_31 ⟨_, rfl⟩ ?_
        refine ⟨_, _, rfl, σ1, rfl, e1, ?_⟩
        show _ = z_atv o i
        rw [z_atv, if_pos (Or.inr (by rw [← q1.2.1]; exact Int32.not_lt.mp c18))]
theorem l_digestM {d : Nat} {h : zH} {ρ : Nat → Nat → Option Nat} {σ : Nat → Nat → Int32} {P : Int32 → zH → Prop} {k : Nat} {y1 y2 : Int32} (hk : σ 18 42 = nI k) (hkn : k ≤ 500) : ∀ (m i : Nat), i + m = k → P (z_dg (σ 51) k).toInt32 (z_G h σ ρ) →
    z_E d 109 16 [some (.ref 18), some (.int y1), some (.int y2), some (.long (z_dg (σ 51) i)), none, some (.int (nI i))] [] (z_G h σ ρ) (z_qi P)
  | 0, i, hi, kk => by
    obtain rfl : i = k := by omega
    refine e_iload k109_16 (q := 18) rfl rfl ?_
    refine e_aload k109_18 (q := 19) rfl rfl ?_
    refine g_get k109_19 (q := 22) rfl rfl rfl ?_
    refine e_ic k109_22 (q := 25) rfl (fun c22 => ?_) (fun c22 => absurd (by show σ 18 42 ≤ nI i; rw [hk]; exact nI_le (Nat.le_refl _) (by omega)) c22)
    refine e_lload k109_52 (q := 53) rfl rfl ?_
    refine e_l2i k109_53 (q := 54) rfl ?_
    refine e_iret k109_54 ⟨_, rfl⟩ ?_
    exact ⟨_, _, rfl, kk⟩
  | m + 1, i, hi, kk => by
    have hin : vp_in (nI i) 500 := vp_in_nI (by omega) (by decide)
    have hcl : (nI i).toNatClampNeg = i := nI_clamp (by omega)
    refine e_iload k109_16 (q := 18) rfl rfl ?_
    refine e_aload k109_18 (q := 19) rfl rfl ?_
    refine g_get k109_19 (q := 22) rfl rfl rfl ?_
    refine e_ic k109_22 (q := 25) rfl (fun c22 => absurd c22 (by show ¬ σ 18 42 ≤ nI i; rw [hk]; exact nI_ge (by omega) (by omega))) (fun c22 => ?_)
    refine e_const k109_25 (q := 28) rfl ?_
    refine e_lload k109_28 (q := 29) rfl rfl ?_
    refine e_lb k109_29 (q := 30) rfl ?_
    refine e_aload k109_30 (q := 31) rfl rfl ?_
    refine g_get k109_31 (q := 34) rfl rfl rfl ?_
    refine e_iload k109_34 (q := 36) rfl rfl ?_
    refine g_ald k109_36 (q := 37) rfl rfl (by assumption) ?_
    rw [hcl]
    refine e_i2l k109_37 (q := 38) rfl ?_
    refine e_lb k109_38 (q := 39) rfl ?_
    refine e_const k109_39 (q := 40) rfl ?_
    refine e_lb k109_40 (q := 41) rfl ?_
    refine e_const k109_41 (q := 44) rfl ?_
    refine e_lbn k109_44 (q := 45) rfl (by decide) ?_
    refine e_lst k109_45 (q := 46) (L' := [_, _, _, some (.long (z_dg (σ 51) (i + 1))), _, _]) rfl rfl rfl ?_
    refine e_iinc k109_46 (q := 49) (L' := [_, _, _, _, _, some (.int (nI (i + 1)))]) rfl rfl (by rw [nI_1]; rfl) ?_
    refine e_goto k109_49 ?_
    exact l_digestM hk hkn m (i + 1) (by omega) kk
theorem m_digestM {d : Nat} {h : zH} {ρ : Nat → Nat → Option Nat} {σ : Nat → Nat → Int32} {n k : Nat} (rf rb : Bool) (hT : z_xm σ n) (hN : z_xn σ k) : z_M (d + 6) 109 [.ref 18, .int (z_bi rf), .int (z_bi rb)] (z_G h σ ρ) (z_qi fun x h' => ∃ σ', h' = z_G h σ' ρ ∧ z_ey σ' σ ∧ match z_cf (σ 39) (σ 40) n k rf rb with
      | none => x = -1
      | some o => x = z_dgv o) := by
  refine z_M.of ⟨Nat.le_of_ble_eq_true rfl, by simp [Value.category]⟩ (L := [some (.ref 18), some (.int (z_bi rf)), some (.int (z_bi rb)), none, none, none]) rfl ?_
  refine e_aload k109_0 (q := 1) rfl rfl ?_
  refine e_iload k109_1 (q := 2) rfl rfl ?_
  refine e_iload k109_2 (q := 3) rfl rfl ?_
  refine g_cv k109_3 (q := 6) (as := [_, _]) rfl rfl rfl rfl (m_writeM rf rb hT hN) rfl (z_ki fun x3 h3 p3 => ?_)
  obtain ⟨σ1, rfl, e1, q1⟩ := p3
  refine e_if k109_6 (q := 9) rfl (fun c6 => ?_) (fun c6 => ?_)
  · cases hz : z_cf (σ 39) (σ 40) n k rf rb with
    | none => rw [hz] at q1; exact absurd q1 c6
    | some o =>
    rw [hz] at q1
    have hol := z_cf_len hz
    have hn := hT.2
    refine e_const k109_11 (q := 12) rfl ?_
    refine e_lst k109_12 (q := 13) (L' := [_, _, _, _, _, _]) rfl rfl rfl ?_
    refine e_const k109_13 (q := 14) rfl ?_
    refine e_ist k109_14 (q := 16) (L' := [_, _, _, _, _, _]) rfl rfl rfl ?_
    refine l_digestM q1.2.1 (by omega) o.length 0 (by omega) ⟨σ1, rfl, e1, ?_⟩
    show _ = z_dgv o
    rw [z_dgv]
    congr 1
    exact z_dg_eq _ (fun j hj => q1.2.2 j hj)
  · refine e_const k109_9 (q := 10) rfl ?_
    refine e_iret k109_10 ⟨_, rfl⟩ ?_
    refine ⟨_, _, rfl, σ1, rfl, e1, ?_⟩
    cases hz : z_cf (σ 39) (σ 40) n k rf rb with
    | none => rfl
    | some o => rw [hz] at q1; exact absurd (by rw [q1.1]; decide) c6
