/-! The class reads the message, second part: a head's line, the whole. -/
theorem m_readHeadLine {d : Nat} {h : zH} {ρ : Nat → Nat → Option Nat} {σ : Nat → Nat → Int32} {n a b : Nat} {F : List (Nat × Nat × Nat)} (hT : z_tm σ n) (hF : z_fl σ F) (hab : a < b) (hb : b ≤ n) : z_M (d + 3) 58 [.ref 5, .int (nI a), .int (nI b)] (z_G h σ ρ) (z_qi fun x h' => (z_rl (σ 7) a b F = none → x = 0 ∧ h' = z_G h σ ρ) ∧ ∀ F', z_rl (σ 7) a b F = some F' → x = 1 ∧ ∃ σ', h' = z_G h σ' ρ ∧ z_fl σ' F' ∧ z_em σ' σ ∧ σ' 5 2 = σ 5 2) := by
  refine z_M.of ⟨Nat.le_of_ble_eq_true rfl, by simp [Value.category]⟩ (L := [some (.ref 5), some (.int (nI a)), some (.int (nI b))]) rfl ?_
  have hn := hT.2.1
  have hF1 := hF.2.1
  refine e_aload k58_0 (q := 1) rfl rfl ?_
  refine g_get k58_1 (q := 4) rfl rfl rfl ?_
  refine e_iload k58_4 (q := 5) rfl rfl ?_
  refine g_cv k58_5 (q := 8) (as := [_]) rfl rfl rfl rfl (m_codeT hT (show a < n by omega)) rfl (z_ki fun x5 h5 p5 => ?_)
  obtain ⟨rfl, rfl⟩ := p5
  refine e_const k58_8 (q := 10) rfl ?_
  refine e_ic k58_10 (q := 13) rfl (fun c10 => ?_) (fun c10 => ?_)
  · refine e_aload k58_20 (q := 21) rfl rfl ?_
    refine g_get k58_21 (q := 24) rfl rfl rfl ?_
    refine e_if k58_24 (q := 27) rfl (fun c24 => ?_) (fun c24 => ?_)
    · have hin : vp_in (σ 5 1 - 1) 12 := by
        cases F with
        | nil => exact absurd hF.1 c24
        | cons y r =>
          have := hF.2.1
          rw [List.length_cons] at this
          rw [hF.1, List.length_cons, nI_pred]
          exact vp_in_nI (by omega) (by decide)
      refine e_aload k58_29 (q := 30) rfl rfl ?_
      refine g_get k58_30 (q := 33) rfl rfl rfl ?_
      refine e_aload k58_33 (q := 34) rfl rfl ?_
      refine g_get k58_34 (q := 37) rfl rfl rfl ?_
      refine e_const k58_37 (q := 38) rfl ?_
      refine e_ib k58_38 (q := 39) rfl ?_
      refine e_iload k58_39 (q := 40) rfl rfl ?_
      refine g_aast k58_40 (q := 41) rfl (fun _ => rfl) (by assumption) ?_
      refine e_const k58_41 (q := 42) rfl ?_
      refine e_iret k58_42 (by first | exact Or.inl rfl | exact Or.inr rfl | assumption) ?_
      refine ⟨_, _, rfl, ?_⟩
      cases F with
      | nil => exact absurd hF.1 c24
      | cons y r =>
        refine ⟨fun z => (by rw [z_rl, if_pos c10] at z; cases z), fun F' hF' => ?_⟩
        rw [z_rl, if_pos c10] at hF'
        cases hF'
        have hr : r.length + 1 ≤ 12 := by have := hF.2.1; rw [List.length_cons] at this; exact this
        have hix : (σ 5 1 - 1).toNatClampNeg = r.length := by rw [hF.1, List.length_cons, nI_pred, nI_clamp (by omega)]
        refine ⟨rfl, _, rfl, ⟨?_, ?_, ?_⟩, ?_, ?_⟩
        · rw [z_us_ne _ _ (by decide)]; exact hF.1
        · exact hF.2.1
        · obtain ⟨f1, f2, f3, f4⟩ := hF.2.2
          refine ⟨by rw [z_us_ne _ _ (by decide)]; exact f1, by rw [z_us_ne _ _ (by decide)]; exact f2, ?_, f4.up r (fun j hj => ⟨by rw [z_us_ne _ _ (by decide)], by rw [z_us_ne _ _ (by decide)], ?_⟩)⟩
          · rw [z_us_eq]
            exact (if_pos hix.symm).trans rfl
          · rw [z_us_eq]
            exact if_neg (by rw [hix]; omega)
        · intro k h1 h2 h3 h4
          exact z_us_ne _ _ h4
        · rw [z_us_ne _ _ (by decide)]
    · skip
      refine e_const k58_27 (q := 28) rfl ?_
      refine e_iret k58_28 (by first | exact Or.inl rfl | exact Or.inr rfl | assumption) ?_
      refine ⟨_, _, rfl, ?_⟩
      cases F with
      | nil => exact ⟨fun _ => ⟨rfl, rfl⟩, fun F' hF' => by rw [z_rl, if_pos c10] at hF'; cases hF'⟩
      | cons y r => exact absurd (nI_ne0 (n := (y :: r).length) (by rw [List.length_cons]; omega) (by omega)) (fun z => c24 (by rw [hF.1]; exact z))
  · refine e_aload k58_13 (q := 14) rfl rfl ?_
    refine e_iload k58_14 (q := 15) rfl rfl ?_
    refine e_iload k58_15 (q := 16) rfl rfl ?_
    refine g_cv k58_16 (q := 19) (as := [_, _]) rfl rfl rfl rfl (m_beginField hT hF (Nat.le_of_lt hab) hb) rfl (z_ki fun x16 h16 p16 => ?_)
    refine e_iret k58_19 (by
          by_cases hc : (a < z_cp (σ 7) a (b - a) ∧ z_cp (σ 7) a (b - a) < b ∧ σ 7 (z_cp (σ 7) a (b - a)) = 58) ∧ F.length ≠ 12
          · exact Or.inr (by rw [(p16.1 hc).1])
          · exact Or.inl (by rw [(p16.2 hc).1])) ?_
    refine ⟨_, _, rfl, ?_⟩
    unfold z_rl
    rw [if_neg c10]
    by_cases hc : (a < z_cp (σ 7) a (b - a) ∧ z_cp (σ 7) a (b - a) < b ∧ σ 7 (z_cp (σ 7) a (b - a)) = 58) ∧ F.length ≠ 12
    · rw [if_pos hc]
      obtain ⟨rfl, σ', rfl, h2, h3, h4⟩ := p16.1 hc
      exact ⟨fun z => (by cases z), fun F' hF' => by cases hF'; exact ⟨rfl, σ', rfl, h2, h3, h4⟩⟩
    · rw [if_neg hc]
      exact ⟨fun _ => p16.2 hc, fun F' hF' => (by cases hF')⟩
theorem l_read {d : Nat} {h : zH} {ρ : Nat → Nat → Option Nat} {n : Nat} : ∀ (m i s : Nat) (σ : Nat → Nat → Int32) (F : List (Nat × Nat × Nat)), i + m = n → s ≤ i → z_tm σ n → z_fl σ F → σ 5 2 = nI n →
    z_E (d + 3) 57 20 [some (.ref 5), some (.int (nI s)), some (.int (nI i))] [] (z_G h σ ρ) (z_qi fun x h' => ∃ σ', h' = z_G h σ' ρ ∧ z_em σ' σ ∧ match z_rd (σ 7) n (z_ln (σ 7) m i s) F with
      | none => x = 0
      | some y => x = 1 ∧ z_fl σ' y.1 ∧ σ' 5 2 = nI y.2)
  | 0, i, s, σ, F, hi, hs, hT, hF, hB => by
    obtain rfl : i = n := by omega
    have hn := hT.2.1
    refine e_iload k57_20 (q := 21) rfl rfl ?_
    refine e_aload k57_21 (q := 22) rfl rfl ?_
    refine g_get k57_22 (q := 25) rfl rfl rfl ?_
    refine g_get k57_25 (q := 28) rfl rfl rfl ?_
    refine e_ic k57_28 (q := 31) rfl (fun c28 => ?_) (fun c28 => absurd (by show σ 6 1 ≤ nI i; rw [hT.1]; exact nI_le (Nat.le_refl _) (by omega)) c28)
    refine e_iload k57_79 (q := 80) rfl rfl ?_
    refine e_aload k57_80 (q := 81) rfl rfl ?_
    refine g_get k57_81 (q := 84) rfl rfl rfl ?_
    refine g_get k57_84 (q := 87) rfl rfl rfl ?_
    refine e_ic k57_87 (q := 90) rfl (fun c87 => ?_) (fun c87 => ?_)
    · refine e_const k57_105 (q := 106) rfl ?_
      refine e_goto k57_106 ?_
      refine e_iret k57_110 (by first | exact Or.inl rfl | exact Or.inr rfl | assumption) ?_
      have hsi : s = i := (nI_eq (by omega) (by omega)).mp (by rw [← hT.1]; exact c87)
      refine ⟨_, _, rfl, σ, rfl, z_em.rf, ?_⟩
      rw [z_ln, if_neg (by omega)]
      exact ⟨rfl, hF, hB⟩
    · have hsi : s < i := by
        rcases Nat.lt_or_ge s i with z | z
        · exact z
        · exact absurd (show nI s = σ 6 1 by rw [hT.1, show s = i by omega]) c87
      refine e_aload k57_90 (q := 91) rfl rfl ?_
      refine e_iload k57_91 (q := 92) rfl rfl ?_
      refine e_aload k57_92 (q := 93) rfl rfl ?_
      refine g_get k57_93 (q := 96) rfl rfl rfl ?_
      refine g_get k57_96 (q := 99) rfl rfl rfl ?_
      rw [show (Value.int (σ 6 1)) = .int (nI i) by rw [hT.1]]
      refine g_cv k57_99 (q := 102) (as := [_, _]) rfl rfl rfl rfl (m_readHeadLine hT hF hsi (Nat.le_refl _)) rfl (z_ki fun x99 h99 p99 => ?_)
      refine e_if k57_102 (q := 105) rfl (fun c102 => ?_) (fun c102 => ?_)
      · refine e_const k57_109 (q := 110) rfl ?_
        refine e_iret k57_110 (by first | exact Or.inl rfl | exact Or.inr rfl | assumption) ?_
        refine ⟨_, _, rfl, ?_⟩
        rw [z_ln, if_pos hsi, z_rd, if_neg (by omega)]
        cases hz : z_rl (σ 7) s i F with
        | none =>
          obtain ⟨-, rfl⟩ := p99.1 hz
          exact ⟨σ, rfl, z_em.rf, rfl⟩
        | some F' => exact absurd c102 (by rw [(p99.2 F' hz).1]; decide)
      · refine e_const k57_105 (q := 106) rfl ?_
        refine e_goto k57_106 ?_
        refine e_iret k57_110 (by first | exact Or.inl rfl | exact Or.inr rfl | assumption) ?_
        refine ⟨_, _, rfl, ?_⟩
        rw [z_ln, if_pos hsi, z_rd, if_neg (by omega)]
        cases hz : z_rl (σ 7) s i F with
        | none => exact absurd (p99.1 hz).1 c102
        | some F' =>
          obtain ⟨-, σ', rfl, h2, h3, h4⟩ := p99.2 F' hz
          exact ⟨σ', rfl, h3, rfl, h2, h4.trans hB⟩
  | m + 1, i, s, σ, F, hi, hs, hT, hF, hB => by
    have hn := hT.2.1
    have hin : i < n := by omega
    refine e_iload k57_20 (q := 21) rfl rfl ?_
    refine e_aload k57_21 (q := 22) rfl rfl ?_
    refine g_get k57_22 (q := 25) rfl rfl rfl ?_
    refine g_get k57_25 (q := 28) rfl rfl rfl ?_
    refine e_ic k57_28 (q := 31) rfl (fun c28 => absurd c28 (by show ¬ σ 6 1 ≤ nI i; rw [hT.1]; exact nI_ge hin (by omega))) (fun c28 => ?_)
    refine e_aload k57_31 (q := 32) rfl rfl ?_
    refine g_get k57_32 (q := 35) rfl rfl rfl ?_
    refine e_iload k57_35 (q := 36) rfl rfl ?_
    refine g_cv k57_36 (q := 39) (as := [_]) rfl rfl rfl rfl (m_codeT hT hin) rfl (z_ki fun x36 h36 p36 => ?_)
    obtain ⟨rfl, rfl⟩ := p36
    refine e_const k57_39 (q := 41) rfl ?_
    refine e_ic k57_41 (q := 44) rfl (fun c41 => ?_) (fun c41 => ?_)
    · refine e_iinc k57_73 (q := 76) (L' := [_, _, some (.int (nI (i + 1)))]) rfl rfl (by rw [nI_1]; rfl) ?_
      refine e_goto k57_76 ?_
      refine (l_read m (i + 1) s σ F (by omega) (by omega) hT hF hB).mono ?_
      rintro r ⟨x, h', rfl, σ', rfl, h1, h2⟩
      refine ⟨_, _, rfl, σ', rfl, h1, ?_⟩
      rw [z_ln, if_neg c41]
      exact h2
    · refine e_iload k57_44 (q := 45) rfl rfl ?_
      refine e_iload k57_45 (q := 46) rfl rfl ?_
      refine e_ic k57_46 (q := 49) rfl (fun c46 => ?_) (fun c46 => ?_)
      · have hsi : s < i := by
          rcases Nat.lt_or_ge s i with z | z
          · exact z
          · exact absurd (show nI i = nI s by rw [show i = s by omega]) c46
        refine e_aload k57_58 (q := 59) rfl rfl ?_
        refine e_iload k57_59 (q := 60) rfl rfl ?_
        refine e_iload k57_60 (q := 61) rfl rfl ?_
        refine g_cv k57_61 (q := 64) (as := [_, _]) rfl rfl rfl rfl (m_readHeadLine hT hF hsi (by omega)) rfl (z_ki fun x61 h61 p61 => ?_)
        refine e_if k57_64 (q := 67) rfl (fun c64 => ?_) (fun c64 => ?_)
        · refine e_iload k57_69 (q := 70) rfl rfl ?_
          refine e_const k57_70 (q := 71) rfl ?_
          refine e_ib k57_71 (q := 72) rfl ?_
          refine e_ist k57_72 (q := 73) (L' := [_, some (.int (nI (i + 1))), _]) rfl rfl (by rw [nI_1]; rfl) ?_
          refine e_iinc k57_73 (q := 76) (L' := [_, _, some (.int (nI (i + 1)))]) rfl rfl (by rw [nI_1]; rfl) ?_
          refine e_goto k57_76 ?_
          cases hz : z_rl (σ 7) s i F with
          | none => exact absurd (p61.1 hz).1 c64
          | some F' =>
            obtain ⟨-, σ1, rfl, f2, f3, f4⟩ := p61.2 F' hz
            refine (l_read m (i + 1) (i + 1) σ1 F' (by omega) (Nat.le_refl _) (hT.em f3) f2 (f4.trans hB)).mono ?_
            rintro r ⟨x, h', rfl, σ', rfl, h1, h2⟩
            refine ⟨_, _, rfl, σ', rfl, h1.tr f3, ?_⟩
            rw [f3 7 (by decide) (by decide) (by decide) (by decide)] at h2
            rw [z_ln, if_pos (Classical.not_not.mp c41), z_rd, if_neg (by omega), hz]
            exact h2
        · refine e_const k57_67 (q := 68) rfl ?_
          refine e_iret k57_68 (by first | exact Or.inl rfl | exact Or.inr rfl | assumption) ?_
          refine ⟨_, _, rfl, ?_⟩
          rw [z_ln, if_pos (Classical.not_not.mp c41), z_rd, if_neg (by omega)]
          cases hz : z_rl (σ 7) s i F with
          | none =>
            obtain ⟨-, rfl⟩ := p61.1 hz
            exact ⟨σ, rfl, z_em.rf, rfl⟩
          | some F' => exact absurd c64 (by rw [(p61.2 F' hz).1]; decide)
      · refine e_aload k57_49 (q := 50) rfl rfl ?_
        refine e_iload k57_50 (q := 51) rfl rfl ?_
        refine e_const k57_51 (q := 52) rfl ?_
        refine e_ib k57_52 (q := 53) rfl ?_
        refine g_put k57_53 (q := 56) rfl rfl ⟨_, rfl⟩ rfl ?_
        refine e_const k57_56 (q := 57) rfl ?_
        refine e_iret k57_57 (by first | exact Or.inl rfl | exact Or.inr rfl | assumption) ?_
        have hsi : i = s := (nI_eq (by omega) (by omega)).mp (Classical.not_not.mp c46)
        subst hsi
        refine ⟨_, _, rfl, _, rfl, fun k h1 _ _ _ => z_us_ne _ _ h1, ?_⟩
        rw [z_ln, if_pos (Classical.not_not.mp c41), z_rd, if_pos rfl]
        refine ⟨rfl, ⟨?_, hF.2.1, hF.2.2.up F (fun j _ => ⟨by rw [z_us_ne _ _ (by decide)], by rw [z_us_ne _ _ (by decide)], by rw [z_us_ne _ _ (by decide)]⟩)⟩, ?_⟩
        · rw [z_us_eq]; exact hF.1
        · rw [z_us_eq]
          show nI i + 1 = _
          rw [nI_1]
theorem m_read {d : Nat} {h : zH} {ρ : Nat → Nat → Option Nat} {σ : Nat → Nat → Int32} {n : Nat} (hT : z_tm σ n) : z_M (d + 4) 57 [.ref 5] (z_G h σ ρ) (z_qi fun x h' => ∃ σ', h' = z_G h σ' ρ ∧ z_em σ' σ ∧ match z_rd (σ 7) n (z_ln (σ 7) n 0 0) [] with
      | none => x = 0
      | some y => x = 1 ∧ z_fl σ' y.1 ∧ σ' 5 2 = nI y.2) := by
  refine z_M.of ⟨Nat.le_of_ble_eq_true rfl, by simp [Value.category]⟩ (L := [some (.ref 5), none, none]) rfl ?_
  refine e_aload k57_0 (q := 1) rfl rfl ?_
  refine e_const k57_1 (q := 2) rfl ?_
  refine g_put k57_2 (q := 5) rfl rfl ⟨_, rfl⟩ rfl ?_
  refine e_aload k57_5 (q := 6) rfl rfl ?_
  refine e_aload k57_6 (q := 7) rfl rfl ?_
  refine g_get k57_7 (q := 10) rfl rfl rfl ?_
  refine g_get k57_10 (q := 13) rfl rfl rfl ?_
  refine g_put k57_13 (q := 16) rfl rfl ⟨_, rfl⟩ rfl ?_
  refine e_const k57_16 (q := 17) rfl ?_
  refine e_ist k57_17 (q := 18) (L' := [_, _, _]) rfl rfl rfl ?_
  refine e_const k57_18 (q := 19) rfl ?_
  refine e_ist k57_19 (q := 20) (L' := [_, _, _]) rfl rfl rfl ?_
  have e1 : z_em (z_us (z_us σ 5 (upd (σ 5) 1 0)) 5 (upd (z_us σ 5 (upd (σ 5) 1 0) 5) 2 (z_us σ 5 (upd (σ 5) 1 0) 6 1))) σ := fun k h1 _ _ _ => by rw [z_us_ne _ _ h1, z_us_ne _ _ h1]
  refine (l_read n 0 0 _ [] (by omega) (Nat.le_refl _) (hT.em e1) ⟨?_, by decide, trivial⟩ ?_).mono ?_
  · rw [z_us_eq, z_us_eq]; rfl
  · rw [z_us_eq]
    show z_us σ 5 (upd (σ 5) 1 0) 6 1 = nI n
    rw [z_us_ne _ _ (by decide)]
    exact hT.1
  · rintro r ⟨x, h', rfl, σ', rfl, h1, h2⟩
    refine ⟨_, _, rfl, σ', rfl, h1.tr e1, ?_⟩
    rw [e1 7 (by decide) (by decide) (by decide) (by decide)] at h2
    exact h2
