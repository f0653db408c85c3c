/-! Verdicts: the model; both. -/
theorem z_ey.rf {σ : Nat → Nat → Int32} : z_ey σ σ := ⟨fun _ _ _ _ _ _ _ _ _ => rfl, fun _ _ _ _ _ => rfl⟩
theorem m_verdM0 {d : Nat} {h : zH} {ρ : Nat → Nat → Option Nat} {σ : Nat → Nat → Int32} {nD : Nat} (h0 : σ 18 0 = nI nD) (ip : Int32) {y z : Int32} (hx : z_nb nD y ∨ z_nb nD z) : z_M (d + 2) 114 [.ref 18, .int ip, .int y, .int z] (z_G h σ ρ) (z_qi fun r h' => r = -1 ∧ h' = z_G h σ ρ) := by
  refine z_M.of ⟨Nat.le_of_ble_eq_true rfl, by simp [Value.category]⟩ (L := [some (.ref 18), some (.int ip), some (.int y), some (.int z), none, none, none, none, none]) rfl ?_
  by_cases hb : z_nb nD y
  · refine e_aload k114_0 (q := 1) rfl rfl ?_
    refine e_iload k114_1 (q := 2) rfl rfl ?_
    refine g_cv k114_2 (q := 5) (as := [_]) rfl rfl rfl rfl (m_noneB h0 hb) rfl (z_ki fun x2 h2 p2 => ?_)
    obtain ⟨rfl, rfl⟩ := p2
    refine e_if k114_5 (q := 8) rfl (fun c5 => ?_) (fun c5 => absurd (by decide) c5)
    refine e_const k114_16 (q := 17) rfl ?_
    refine e_iret k114_17 ⟨_, rfl⟩ ?_
    exact ⟨_, _, rfl, rfl, rfl⟩
  · refine e_aload k114_0 (q := 1) rfl rfl ?_
    refine e_iload k114_1 (q := 2) rfl rfl ?_
    refine g_cv k114_2 (q := 5) (as := [_]) rfl rfl rfl rfl (m_noneG h0 hb) rfl (z_ki fun x2 h2 p2 => ?_)
    obtain ⟨rfl, rfl⟩ := p2
    refine e_if k114_5 (q := 8) rfl (fun c5 => absurd c5 (fun z => z rfl)) (fun c5 => ?_)
    refine e_aload k114_8 (q := 9) rfl rfl ?_
    refine e_iload k114_9 (q := 10) rfl rfl ?_
    refine g_cv k114_10 (q := 13) (as := [_]) rfl rfl rfl rfl (m_noneB h0 (hx.resolve_left hb)) rfl (z_ki fun x10 h10 p10 => ?_)
    obtain ⟨rfl, rfl⟩ := p10
    refine e_if k114_13 (q := 16) rfl (fun c13 => absurd c13 (by decide)) (fun c13 => ?_)
    refine e_const k114_16 (q := 17) rfl ?_
    refine e_iret k114_17 ⟨_, rfl⟩ ?_
    exact ⟨_, _, rfl, rfl, rfl⟩
theorem l_verdM {d : Nat} {h : zH} {ρ : Nat → Nat → Option Nat} {σ0 : Nat → Nat → Int32} {nD n k ns j wi : Nat} {dm : Nat → Nat} {g : Bool} {fin : Int32} {x1 x2 x4 : Option Value} (hn : nD ≤ 12) (hD : z_DD h σ0 ρ nD dm) (hS : z_SS h σ0 ρ nD dm ns) (hT : z_TK σ0 n k) (hj : j < nD) (hwi : wi < nD) (e30 : σ0 30 wi = z_bi g)
    (kfin : ∀ σ x8, z_rv σ σ0 → z_E (d + 7) 114 161 [some (.ref 18), x1, x2, some (.int (nI j)), x4, some (.int (nI wi)), some (.int (z_bi false)), some (.int (nI ns)), x8] [] (z_G h σ ρ) (z_qi fun r h' => r = fin ∧ h' = z_G h σ ρ)) : ∀ (m t : Nat) (σ : Nat → Nat → Int32) (gd : Bool) (x8 : Option Value), t + m = ns → z_rv σ σ0 →
    z_E (d + 7) 114 90 [some (.ref 18), x1, x2, some (.int (nI j)), x4, some (.int (nI wi)), some (.int (z_bi gd)), some (.int (nI t)), x8] [] (z_G h σ ρ) (z_qi fun r h' => r = (if (gd || z_an (z_vt σ0 n k j g) m t) = true then 1 else fin) ∧ ∃ σ', h' = z_G h σ' ρ ∧ z_ey σ' σ)
  | 0, t, σ, gd, x8, ht, hr => by
    obtain rfl : t = ns := by omega
    have hns := hS.1
    have h28 : σ 18 28 = nI t := by rw [hr.2 28 (by omega)]; exact hS.2.2.1
    refine e_iload k114_90 (q := 92) rfl rfl ?_
    refine e_aload k114_92 (q := 93) rfl rfl ?_
    refine g_get k114_93 (q := 96) rfl rfl rfl ?_
    refine e_ic k114_96 (q := 99) rfl (fun c96 => ?_) (fun c96 => absurd (by show σ 18 28 ≤ nI t; rw [h28]; exact nI_le (Nat.le_refl _) (by omega)) c96)
    refine e_iload k114_152 (q := 154) rfl rfl ?_
    refine e_if k114_154 (q := 157) rfl (fun c154 => ?_) (fun c154 => ?_)
    · obtain rfl : gd = false := z_bi_0.mp c154
      refine (kfin σ _ hr).mono ?_
      rintro r ⟨x, h', rfl, rfl, rfl⟩
      exact ⟨_, _, rfl, rfl, σ, rfl, z_ey.rf⟩
    · obtain rfl : gd = true := Classical.byContradiction (fun z => c154 (z_bi_0.mpr (Bool.not_eq_true _ ▸ z)))
      refine e_const k114_157 (q := 158) rfl ?_
      refine e_goto k114_158 ?_
      refine e_iret k114_186 ⟨_, rfl⟩ ?_
      exact ⟨_, _, rfl, rfl, σ, rfl, z_ey.rf⟩
  | m + 1, t, σ, gd, x8, ht, hr => by
    have hns := hS.1
    have h28 : σ 18 28 = nI ns := by rw [hr.2 28 (by omega)]; exact hS.2.2.1
    have hin : vp_in (nI t) 3 := vp_in_nI (by omega) (by decide)
    have hclt : (nI t).toNatClampNeg = t := nI_clamp (by omega)
    have hinw : vp_in (nI wi) 12 := vp_in_nI (by omega) (by decide)
    have hclw : (nI wi).toNatClampNeg = wi := nI_clamp (by omega)
    obtain ⟨a, sg, rf, rb, a1, a2, a3, a4, a5, a6, a7⟩ := hS.2.2.2 t (by omega)
    have hsn : z_na σ0 41 t = sg := z_na_of a5 (by omega)
    have hgr := z_gr_of (σ := σ0) (n := n) (k := k) (show sg < 12 by omega) a5 a6 a7
    have hD1 : z_DD h σ ρ nD dm := hD.fr z_kp.rf (fun _ _ _ _ => rfl) rfl (fun k x y => hr.1 k (by omega))
    have hT1 := hr.tk hT
    have hholds := m_holdsM1 (d := d) (h := h) (ρ := ρ) (σ := σ) (n := n) (k := k) (rf := rf) (rb := rb) (sg := sg) (by omega) (hD1.key a4) hT1.2.2.1 hT1.2.2.2.1 (by rw [hT1.2.2.2.2.1]; exact hT1.2.2.2.2.2.2) h28 hns (show t < ns by omega) (by rw [hr.1 41 (by omega)]; exact a5) (by rw [hr.1 42 (by omega)]; exact a6) (by rw [hr.1 43 (by omega)]; exact a7)
    rw [hT1.2.2.2.2.1, hT1.2.2.2.2.2.1, hr.1 7 (by omega), hr.1 12 (by omega), hr.1 25 (by omega), hr.1 26 (by omega), hr.1 44 (by omega), ← hgr] at hholds
    refine e_iload k114_90 (q := 92) rfl rfl ?_
    refine e_aload k114_92 (q := 93) rfl rfl ?_
    refine g_get k114_93 (q := 96) rfl rfl rfl ?_
    refine e_ic k114_96 (q := 99) rfl (fun c96 => absurd c96 (by show ¬ σ 18 28 ≤ nI t; rw [h28]; exact nI_ge (by omega) (by omega))) (fun c96 => ?_)
    refine e_aload k114_99 (q := 100) rfl rfl ?_
    refine e_iload k114_100 (q := 102) rfl rfl ?_
    refine g_cv k114_102 (q := 105) (as := [_]) rfl rfl rfl rfl hholds rfl (z_ki fun x102 h102 p102 => ?_)
    obtain ⟨σ1, rfl, e1, rfl⟩ := p102
    have rr : ∀ k, 18 < k ∧ k < 45 → σ1 k = σ k := fun k hk => e1.sc.1 k (by omega)
    refine e_ist k114_105 (q := 107) (L' := [_, _, _, _, _, _, _, _, _]) rfl rfl rfl ?_
    refine e_iload k114_107 (q := 109) rfl rfl ?_
    refine e_if k114_109 (q := 112) rfl (fun c109 => ?_) (fun c109 => ?_)
    · refine e_const k114_139 (q := 140) rfl ?_
      refine e_goto k114_140 ?_
      refine e_ist k114_144 (q := 146) (L' := [_, _, _, _, _, _, some (.int (z_bi true)), _, _]) rfl rfl rfl ?_
      refine e_iinc k114_146 (q := 149) (L' := [_, _, _, _, _, _, _, some (.int (nI (t + 1))), _]) rfl rfl (by rw [nI_1]; rfl) ?_
      refine e_goto k114_149 ?_
      have hgd : gd = true := Classical.byContradiction (fun z => c109 (z_bi_0.mpr (Bool.not_eq_true _ ▸ z)))
      rw [hgd, Bool.true_or]
      have ih := l_verdM (d := d) (x1 := x1) (x2 := x2) (x4 := x4) hn hD hS hT hj hwi e30 kfin m (t + 1) σ1 true (some (.int (z_bi (z_gr σ0 n k t)))) (by omega) (e1.sc.rv.tr hr)
      rw [Bool.true_or] at ih
      refine ih.mono ?_
      rintro r ⟨x, h', rfl, rfl, σ2, rfl, b1⟩
      exact ⟨_, _, rfl, rfl, σ2, rfl, b1.tr e1⟩
    · refine e_iload k114_112 (q := 114) rfl rfl ?_
      refine e_if k114_114 (q := 117) rfl (fun c114 => ?_) (fun c114 => ?_)
      · refine e_const k114_143 (q := 144) rfl ?_
        refine e_ist k114_144 (q := 146) (L' := [_, _, _, _, _, _, some (.int (z_bi false)), _, _]) rfl rfl rfl ?_
        refine e_iinc k114_146 (q := 149) (L' := [_, _, _, _, _, _, _, some (.int (nI (t + 1))), _]) rfl rfl (by rw [nI_1]; rfl) ?_
        refine e_goto k114_149 ?_
        have hgd : gd = false := z_bi_0.mp (Classical.not_not.mp c109)
        have hv : z_vt σ0 n k j g t = false := by rw [z_vt, z_bi_0.mp c114, Bool.false_and]
        rw [hgd, z_an, hv, Bool.false_or, Bool.false_or]
        have ih := l_verdM (d := d) (x1 := x1) (x2 := x2) (x4 := x4) hn hD hS hT hj hwi e30 kfin m (t + 1) σ1 false (some (.int (z_bi (z_gr σ0 n k t)))) (by omega) (e1.sc.rv.tr hr)
        rw [Bool.false_or] at ih
        refine ih.mono ?_
        rintro r ⟨x, h', rfl, rfl, σ2, rfl, b1⟩
        exact ⟨_, _, rfl, rfl, σ2, rfl, b1.tr e1⟩
      · refine e_aload k114_117 (q := 118) rfl rfl ?_
        refine e_aload k114_118 (q := 119) rfl rfl ?_
        refine g_get k114_119 (q := 122) rfl rfl rfl ?_
        refine e_iload k114_122 (q := 124) rfl rfl ?_
        refine g_ald k114_124 (q := 125) rfl rfl (by assumption) ?_
        rw [hclt, rr 41 (by omega), hr.1 41 (by omega), a5]
        refine e_iload k114_125 (q := 126) rfl rfl ?_
        refine e_aload k114_126 (q := 127) rfl rfl ?_
        refine g_get k114_127 (q := 130) rfl rfl rfl ?_
        refine e_iload k114_130 (q := 132) rfl rfl ?_
        refine g_ald k114_132 (q := 133) rfl rfl (by assumption) ?_
        rw [hclw, rr 30 (by omega), hr.1 30 (by omega), e30]
        refine g_cv k114_133 (q := 136) (as := [_, _, _]) rfl rfl rfl rfl (m_fitsM hn hD.par ((rr 19 (by omega)).trans (hr.1 19 (by omega))) ((rr 20 (by omega)).trans (hr.1 20 (by omega))) a4 hj g) rfl (z_ki fun x133 h133 p133 => ?_)
        obtain ⟨rfl, rfl⟩ := p133
        refine e_if k114_136 (q := 139) rfl (fun c136 => ?_) (fun c136 => ?_)
        · refine e_const k114_143 (q := 144) rfl ?_
          refine e_ist k114_144 (q := 146) (L' := [_, _, _, _, _, _, some (.int (z_bi false)), _, _]) rfl rfl rfl ?_
          refine e_iinc k114_146 (q := 149) (L' := [_, _, _, _, _, _, _, some (.int (nI (t + 1))), _]) rfl rfl (by rw [nI_1]; rfl) ?_
          refine e_goto k114_149 ?_
          have hgd : gd = false := z_bi_0.mp (Classical.not_not.mp c109)
          have hv : z_vt σ0 n k j g t = false := by rw [z_vt, hsn, z_bi_0.mp c136, Bool.and_false]
          rw [hgd, z_an, hv, Bool.false_or, Bool.false_or]
          have ih := l_verdM (d := d) (x1 := x1) (x2 := x2) (x4 := x4) hn hD hS hT hj hwi e30 kfin m (t + 1) σ1 false (some (.int (z_bi (z_gr σ0 n k t)))) (by omega) (e1.sc.rv.tr hr)
          rw [Bool.false_or] at ih
          refine ih.mono ?_
          rintro r ⟨x, h', rfl, rfl, σ2, rfl, b1⟩
          exact ⟨_, _, rfl, rfl, σ2, rfl, b1.tr e1⟩
        · refine e_const k114_139 (q := 140) rfl ?_
          refine e_goto k114_140 ?_
          refine e_ist k114_144 (q := 146) (L' := [_, _, _, _, _, _, some (.int (z_bi true)), _, _]) rfl rfl rfl ?_
          refine e_iinc k114_146 (q := 149) (L' := [_, _, _, _, _, _, _, some (.int (nI (t + 1))), _]) rfl rfl (by rw [nI_1]; rfl) ?_
          refine e_goto k114_149 ?_
          have hgd : gd = false := z_bi_0.mp (Classical.not_not.mp c109)
          have hv : z_vt σ0 n k j g t = true := by
            rw [z_vt, hsn, show z_gr σ0 n k t = true from Classical.byContradiction (fun z => c114 (z_bi_0.mpr (Bool.not_eq_true _ ▸ z))), show z_ft σ0 sg j g = true from Classical.byContradiction (fun z => c136 (z_bi_0.mpr (Bool.not_eq_true _ ▸ z)))]
            rfl
          rw [hgd, z_an, hv, Bool.true_or, Bool.false_or]
          have ih := l_verdM (d := d) (x1 := x1) (x2 := x2) (x4 := x4) hn hD hS hT hj hwi e30 kfin m (t + 1) σ1 true (some (.int (z_bi (z_gr σ0 n k t)))) (by omega) (e1.sc.rv.tr hr)
          rw [Bool.true_or] at ih
          refine ih.mono ?_
          rintro r ⟨x, h', rfl, rfl, σ2, rfl, b1⟩
          exact ⟨_, _, rfl, rfl, σ2, rfl, b1.tr e1⟩
theorem l_verdM2 {d : Nat} {h : zH} {ρ : Nat → Nat → Option Nat} {σ σ0 : Nat → Nat → Int32} {nD n k ns i j wi w1 : Nat} {dm : Nat → Nat} {s g : Bool} {fin : Int32} {x1 : Option Value} (hn : nD ≤ 12) (hD : z_DD h σ0 ρ nD dm) (hS : z_SS h σ0 ρ nD dm ns) (hT : z_TK σ0 n k) (hi : i < nD) (hj : j < nD) (hwi : wi < nD) (e29 : σ0 29 wi = z_bi s) (e30 : σ0 30 wi = z_bi g) (hw1 : w1 < 2 ^ 31) (hr : z_rv σ σ0)
    (kfin : ∀ σ x8, z_rv σ σ0 → z_E (d + 7) 114 161 [some (.ref 18), x1, some (.int (nI i)), some (.int (nI j)), some (.int (nI w1)), some (.int (nI wi)), some (.int (z_bi false)), some (.int (nI ns)), x8] [] (z_G h σ ρ) (z_qi fun r h' => r = fin ∧ h' = z_G h σ ρ)) :
    z_E (d + 7) 114 58 [some (.ref 18), x1, some (.int (nI i)), some (.int (nI j)), some (.int (nI w1)), some (.int (nI wi)), none, none, none] [] (z_G h σ ρ) (z_qi fun r h' => r = (if ((decide (w1 = 2) && z_ft σ0 i j s) || z_an (z_vt σ0 n k j g) ns 0) = true then 1 else fin) ∧ ∃ σ', h' = z_G h σ' ρ ∧ z_ey σ' σ) := by
  have hinw : vp_in (nI wi) 12 := vp_in_nI (by omega) (by decide)
  have hclw : (nI wi).toNatClampNeg = wi := nI_clamp (by omega)
  refine e_iload k114_58 (q := 60) rfl rfl ?_
  refine e_const k114_60 (q := 61) rfl ?_
  refine e_ic k114_61 (q := 64) rfl (fun c61 => ?_) (fun c61 => ?_)
  · refine e_const k114_84 (q := 85) rfl ?_
    refine e_ist k114_85 (q := 87) (L' := [_, _, _, _, _, _, some (.int (z_bi false)), _, _]) rfl rfl rfl ?_
    refine e_const k114_87 (q := 88) rfl ?_
    refine e_ist k114_88 (q := 90) (L' := [_, _, _, _, _, _, _, some (.int (nI 0)), _]) rfl rfl rfl ?_
    rw [decide_eq_false (show ¬ w1 = 2 from fun z => c61 (by rw [z]; rfl)), Bool.false_and]
    exact l_verdM hn hD hS hT hj hwi e30 kfin ns 0 σ false _ (by omega) hr
  · refine e_aload k114_64 (q := 65) rfl rfl ?_
    refine e_iload k114_65 (q := 66) rfl rfl ?_
    refine e_iload k114_66 (q := 67) rfl rfl ?_
    refine e_aload k114_67 (q := 68) rfl rfl ?_
    refine g_get k114_68 (q := 71) rfl rfl rfl ?_
    refine e_iload k114_71 (q := 73) rfl rfl ?_
    refine g_ald k114_73 (q := 74) rfl rfl (by assumption) ?_
    rw [hclw, hr.1 29 (by omega), e29]
    refine g_cv k114_74 (q := 77) (as := [_, _, _]) rfl rfl rfl rfl (m_fitsM hn hD.par (hr.1 19 (by omega)) (hr.1 20 (by omega)) hi hj s) rfl (z_ki fun x74 h74 p74 => ?_)
    obtain ⟨rfl, rfl⟩ := p74
    refine e_if k114_77 (q := 80) rfl (fun c77 => ?_) (fun c77 => ?_)
    · refine e_const k114_84 (q := 85) rfl ?_
      refine e_ist k114_85 (q := 87) (L' := [_, _, _, _, _, _, some (.int (z_bi false)), _, _]) rfl rfl rfl ?_
      refine e_const k114_87 (q := 88) rfl ?_
      refine e_ist k114_88 (q := 90) (L' := [_, _, _, _, _, _, _, some (.int (nI 0)), _]) rfl rfl rfl ?_
      rw [z_bi_0.mp c77, Bool.and_false]
      exact l_verdM hn hD hS hT hj hwi e30 kfin ns 0 σ false _ (by omega) hr
    · refine e_const k114_80 (q := 81) rfl ?_
      refine e_goto k114_81 ?_
      refine e_ist k114_85 (q := 87) (L' := [_, _, _, _, _, _, some (.int (z_bi true)), _, _]) rfl rfl rfl ?_
      refine e_const k114_87 (q := 88) rfl ?_
      refine e_ist k114_88 (q := 90) (L' := [_, _, _, _, _, _, _, some (.int (nI 0)), _]) rfl rfl rfl ?_
      rw [decide_eq_true (show w1 = 2 from (nI_eq (b := 2) hw1 (by decide)).mp (Classical.not_not.mp c61)), show z_ft σ0 i j s = true from Classical.byContradiction (fun z => c77 (z_bi_0.mpr (Bool.not_eq_true _ ▸ z))), Bool.true_and]
      exact l_verdM hn hD hS hT hj hwi e30 kfin ns 0 σ true _ (by omega) hr
theorem m_verdM1 {d : Nat} {h : zH} {ρ : Nat → Nat → Option Nat} {σ : Nat → Nat → Int32} {nD n k ns i j : Nat} {dm : Nat → Nat} (h0 : σ 18 0 = nI nD) (hn : nD ≤ 12) (hD : z_DD h σ ρ nD dm) (hS : z_SS h σ ρ nD dm ns) (hT : z_TK σ n k) (ip : Int32) (hi : i < nD) (hj : j < nD) : z_M (d + 8) 114 [.ref 18, .int ip, .int (nI i), .int (nI j)] (z_G h σ ρ) (z_qi fun r h' => r = z_vd σ ip n k ns i j ∧ ∃ σ' σ1 b, h' = z_G h σ' ρ ∧ z_ey σ' σ1 ∧ z_mst σ1 σ (z_res σ ip 11 i 0 0).2.1 (z_res σ ip 11 i 0 0).2.2 b) := by
  refine z_M.of ⟨Nat.le_of_ble_eq_true rfl, by simp [Value.category]⟩ (L := [some (.ref 18), some (.int ip), some (.int (nI i)), some (.int (nI j)), none, none, none, none, none]) rfl ?_
  have hlt := z_res_lt σ ip 11 i 0 0
  have hinj : vp_in (nI j) 12 := vp_in_nI (by omega) (by decide)
  have hclj : (nI j).toNatClampNeg = j := nI_clamp (by omega)
  obtain ⟨j52, poj, sfj, naj, nej, nmj, loj, koj, woj, fj, gj, ttj, j1, j2, j3, j4, j5, j6, j7, j8, jW⟩ := (hD.1 j hj).2
  rcases jW with ⟨rfl, e27⟩ | ⟨wa, ow, bl, s, g, rfl, w52, hw, ow2, bl2, e27, e28, e29, e30⟩
  · have hwi : z_wi σ j = z_org σ j := by rw [z_wi, if_pos e27]
    have holt := z_org_lt hn hD.par hj
    have hino : vp_in (nI (z_org σ j)) 12 := vp_in_nI (by omega) (by decide)
    have hclo : (nI (z_org σ j)).toNatClampNeg = z_org σ j := nI_clamp (by omega)
    obtain ⟨o52, poo, sfo, nao, neo, nmo, loo, koo, woo, fo, go, tto, o1, o2, o3, o4, o5, o6, o7, o8, oW⟩ := (hD.1 (z_org σ j) holt).2
    rcases oW with ⟨rfl, f27⟩ | ⟨wa, ow, bl, s, g, rfl, w52, hw, ow2, bl2, f27, f28, f29, f30⟩
    · refine e_aload k114_0 (q := 1) rfl rfl ?_
      refine e_iload k114_1 (q := 2) rfl rfl ?_
      refine g_cv k114_2 (q := 5) (as := [_]) rfl rfl rfl rfl (m_noneG h0 (z_nb_no hn hi)) rfl (z_ki fun x2 h2 p2 => ?_)
      obtain ⟨rfl, rfl⟩ := p2
      refine e_if k114_5 (q := 8) rfl (fun c5 => absurd c5 (fun z => z rfl)) (fun c5 => ?_)
      refine e_aload k114_8 (q := 9) rfl rfl ?_
      refine e_iload k114_9 (q := 10) rfl rfl ?_
      refine g_cv k114_10 (q := 13) (as := [_]) rfl rfl rfl rfl (m_noneG h0 (z_nb_no hn hj)) rfl (z_ki fun x10 h10 p10 => ?_)
      obtain ⟨rfl, rfl⟩ := p10
      refine e_if k114_13 (q := 16) rfl (fun c13 => ?_) (fun c13 => absurd rfl c13)
      refine e_aload k114_18 (q := 19) rfl rfl ?_
      refine e_iload k114_19 (q := 20) rfl rfl ?_
      refine e_iload k114_20 (q := 21) rfl rfl ?_
      refine g_cv k114_21 (q := 24) (as := [_, _]) rfl rfl rfl rfl (m_checked ip hn hD hi) rfl (z_ki fun x21 h21 p21 => ?_)
      obtain ⟨rfl, σ1, b, rfl, hM⟩ := p21
      refine e_ist k114_24 (q := 26) (L' := [_, _, _, _, _, _, _, _, _]) rfl rfl rfl ?_
      refine e_aload k114_26 (q := 27) rfl rfl ?_
      refine g_get k114_27 (q := 30) rfl rfl rfl ?_
      refine e_iload k114_30 (q := 31) rfl rfl ?_
      refine g_ald k114_31 (q := 32) rfl rfl (by assumption) ?_
      rw [hclj, hM.rv.1 27 (by omega), e27]
      refine e_if k114_32 (q := 35) rfl (fun c32 => ?_) (fun c32 => absurd (by decide) c32)
      refine e_aload k114_39 (q := 40) rfl rfl ?_
      refine e_iload k114_40 (q := 41) rfl rfl ?_
      refine g_cv k114_41 (q := 44) (as := [_]) rfl rfl rfl rfl (m_orgM hn hD.par (hM.rv.1 19 (by omega)) (hM.rv.1 20 (by omega)) hj) rfl (z_ki fun x41 h41 p41 => ?_)
      obtain ⟨rfl, rfl⟩ := p41
      refine e_ist k114_44 (q := 46) (L' := [_, _, _, _, _, _, _, _, _]) rfl rfl rfl ?_
      refine e_aload k114_46 (q := 47) rfl rfl ?_
      refine g_get k114_47 (q := 50) rfl rfl rfl ?_
      refine e_iload k114_50 (q := 52) rfl rfl ?_
      refine g_ald k114_52 (q := 53) rfl rfl (by assumption) ?_
      rw [hclo, hM.rv.1 27 (by omega), f27]
      refine e_if k114_53 (q := 56) rfl (fun c53 => absurd c53 (by decide)) (fun c53 => ?_)
      refine e_const k114_56 (q := 57) rfl ?_
      refine e_iret k114_57 ⟨_, rfl⟩ ?_
      exact ⟨_, _, rfl, by rw [z_vd, hwi, if_pos f27], σ1, σ1, b, rfl, z_ey.rf, hM⟩
    · have hoj : ¬ nI (z_org σ j) = nI j := fun z => by
        have z := (nI_eq (by omega) (by omega)).mp z
        rw [z, e27] at f27
        exact z_nI_m1 (show ow < 2 ^ 31 by omega) f27.symm
      refine e_aload k114_0 (q := 1) rfl rfl ?_
      refine e_iload k114_1 (q := 2) rfl rfl ?_
      refine g_cv k114_2 (q := 5) (as := [_]) rfl rfl rfl rfl (m_noneG h0 (z_nb_no hn hi)) rfl (z_ki fun x2 h2 p2 => ?_)
      obtain ⟨rfl, rfl⟩ := p2
      refine e_if k114_5 (q := 8) rfl (fun c5 => absurd c5 (fun z => z rfl)) (fun c5 => ?_)
      refine e_aload k114_8 (q := 9) rfl rfl ?_
      refine e_iload k114_9 (q := 10) rfl rfl ?_
      refine g_cv k114_10 (q := 13) (as := [_]) rfl rfl rfl rfl (m_noneG h0 (z_nb_no hn hj)) rfl (z_ki fun x10 h10 p10 => ?_)
      obtain ⟨rfl, rfl⟩ := p10
      refine e_if k114_13 (q := 16) rfl (fun c13 => ?_) (fun c13 => absurd rfl c13)
      refine e_aload k114_18 (q := 19) rfl rfl ?_
      refine e_iload k114_19 (q := 20) rfl rfl ?_
      refine e_iload k114_20 (q := 21) rfl rfl ?_
      refine g_cv k114_21 (q := 24) (as := [_, _]) rfl rfl rfl rfl (m_checked ip hn hD hi) rfl (z_ki fun x21 h21 p21 => ?_)
      obtain ⟨rfl, σ1, b, rfl, hM⟩ := p21
      refine e_ist k114_24 (q := 26) (L' := [_, _, _, _, _, _, _, _, _]) rfl rfl rfl ?_
      refine e_aload k114_26 (q := 27) rfl rfl ?_
      refine g_get k114_27 (q := 30) rfl rfl rfl ?_
      refine e_iload k114_30 (q := 31) rfl rfl ?_
      refine g_ald k114_31 (q := 32) rfl rfl (by assumption) ?_
      rw [hclj, hM.rv.1 27 (by omega), e27]
      refine e_if k114_32 (q := 35) rfl (fun c32 => ?_) (fun c32 => absurd (by decide) c32)
      refine e_aload k114_39 (q := 40) rfl rfl ?_
      refine e_iload k114_40 (q := 41) rfl rfl ?_
      refine g_cv k114_41 (q := 44) (as := [_]) rfl rfl rfl rfl (m_orgM hn hD.par (hM.rv.1 19 (by omega)) (hM.rv.1 20 (by omega)) hj) rfl (z_ki fun x41 h41 p41 => ?_)
      obtain ⟨rfl, rfl⟩ := p41
      refine e_ist k114_44 (q := 46) (L' := [_, _, _, _, _, _, _, _, _]) rfl rfl rfl ?_
      refine e_aload k114_46 (q := 47) rfl rfl ?_
      refine g_get k114_47 (q := 50) rfl rfl rfl ?_
      refine e_iload k114_50 (q := 52) rfl rfl ?_
      refine g_ald k114_52 (q := 53) rfl rfl (by assumption) ?_
      rw [hclo, hM.rv.1 27 (by omega), f27]
      refine e_if k114_53 (q := 56) rfl (fun c53 => ?_) (fun c53 => absurd (nI_pos' (by omega)) c53)
      refine (l_verdM2 (d := d) hn hD hS hT hi hj holt f29 f30 hlt hM.rv (fin := 2 + nI bl) (fun σ x8 hr => ?_)).mono ?_
      · refine e_const k114_161 (q := 162) rfl ?_
        refine e_iload k114_162 (q := 164) rfl rfl ?_
        refine e_iload k114_164 (q := 165) rfl rfl ?_
        refine e_ic k114_165 (q := 168) rfl (fun c165 => ?_) (fun c165 => absurd hoj c165)
        refine e_aload k114_178 (q := 179) rfl rfl ?_
        refine g_get k114_179 (q := 182) rfl rfl rfl ?_
        refine e_iload k114_182 (q := 184) rfl rfl ?_
        refine g_ald k114_184 (q := 185) rfl rfl (by assumption) ?_
        rw [hclo, hr.1 28 (by omega), f28]
        refine e_ib k114_185 (q := 186) rfl ?_
        refine e_iret k114_186 ⟨_, rfl⟩ ?_
        exact ⟨_, _, rfl, rfl, rfl⟩
      · rintro r ⟨x, h', rfl, rfl, σ2, rfl, b1⟩
        refine ⟨_, _, rfl, ?_, σ2, σ1, b, rfl, b1, hM⟩
        rw [z_vd, hwi, if_neg (show ¬ σ 27 (z_org σ j) = -1 by rw [f27]; exact z_nI_m1 (by omega)), f29, f30, z_bi_1, z_bi_1, if_pos e27, f28]
  · have hne : ¬ σ 27 j = -1 := by rw [e27]; exact z_nI_m1 (by omega)
    have hwi : z_wi σ j = j := by rw [z_wi, if_neg hne]
    refine e_aload k114_0 (q := 1) rfl rfl ?_
    refine e_iload k114_1 (q := 2) rfl rfl ?_
    refine g_cv k114_2 (q := 5) (as := [_]) rfl rfl rfl rfl (m_noneG h0 (z_nb_no hn hi)) rfl (z_ki fun x2 h2 p2 => ?_)
    obtain ⟨rfl, rfl⟩ := p2
    refine e_if k114_5 (q := 8) rfl (fun c5 => absurd c5 (fun z => z rfl)) (fun c5 => ?_)
    refine e_aload k114_8 (q := 9) rfl rfl ?_
    refine e_iload k114_9 (q := 10) rfl rfl ?_
    refine g_cv k114_10 (q := 13) (as := [_]) rfl rfl rfl rfl (m_noneG h0 (z_nb_no hn hj)) rfl (z_ki fun x10 h10 p10 => ?_)
    obtain ⟨rfl, rfl⟩ := p10
    refine e_if k114_13 (q := 16) rfl (fun c13 => ?_) (fun c13 => absurd rfl c13)
    refine e_aload k114_18 (q := 19) rfl rfl ?_
    refine e_iload k114_19 (q := 20) rfl rfl ?_
    refine e_iload k114_20 (q := 21) rfl rfl ?_
    refine g_cv k114_21 (q := 24) (as := [_, _]) rfl rfl rfl rfl (m_checked ip hn hD hi) rfl (z_ki fun x21 h21 p21 => ?_)
    obtain ⟨rfl, σ1, b, rfl, hM⟩ := p21
    refine e_ist k114_24 (q := 26) (L' := [_, _, _, _, _, _, _, _, _]) rfl rfl rfl ?_
    refine e_aload k114_26 (q := 27) rfl rfl ?_
    refine g_get k114_27 (q := 30) rfl rfl rfl ?_
    refine e_iload k114_30 (q := 31) rfl rfl ?_
    refine g_ald k114_31 (q := 32) rfl rfl (by assumption) ?_
    rw [hclj, hM.rv.1 27 (by omega), e27]
    refine e_if k114_32 (q := 35) rfl (fun c32 => absurd c32 (nI_pos (by omega))) (fun c32 => ?_)
    refine e_iload k114_35 (q := 36) rfl rfl ?_
    refine e_goto k114_36 ?_
    refine e_ist k114_44 (q := 46) (L' := [_, _, _, _, _, _, _, _, _]) rfl rfl rfl ?_
    refine e_aload k114_46 (q := 47) rfl rfl ?_
    refine g_get k114_47 (q := 50) rfl rfl rfl ?_
    refine e_iload k114_50 (q := 52) rfl rfl ?_
    refine g_ald k114_52 (q := 53) rfl rfl (by assumption) ?_
    rw [hclj, hM.rv.1 27 (by omega), e27]
    refine e_if k114_53 (q := 56) rfl (fun c53 => ?_) (fun c53 => absurd (nI_pos' (by omega)) c53)
    refine (l_verdM2 (d := d) hn hD hS hT hi hj hj e29 e30 hlt hM.rv (fin := 2 + nI ow) (fun σ x8 hr => ?_)).mono ?_
    · refine e_const k114_161 (q := 162) rfl ?_
      refine e_iload k114_162 (q := 164) rfl rfl ?_
      refine e_iload k114_164 (q := 165) rfl rfl ?_
      refine e_ic k114_165 (q := 168) rfl (fun c165 => absurd c165 (fun z => z rfl)) (fun c165 => ?_)
      refine e_aload k114_168 (q := 169) rfl rfl ?_
      refine g_get k114_169 (q := 172) rfl rfl rfl ?_
      refine e_iload k114_172 (q := 174) rfl rfl ?_
      refine g_ald k114_174 (q := 175) rfl rfl (by assumption) ?_
      refine e_goto k114_175 ?_
      rw [hclj, hr.1 27 (by omega), e27]
      refine e_ib k114_185 (q := 186) rfl ?_
      refine e_iret k114_186 ⟨_, rfl⟩ ?_
      exact ⟨_, _, rfl, rfl, rfl⟩
    · rintro r ⟨x, h', rfl, rfl, σ2, rfl, b1⟩
      refine ⟨_, _, rfl, ?_, σ2, σ1, b, rfl, b1, hM⟩
      rw [z_vd, hwi, if_neg hne, e29, e30, z_bi_1, z_bi_1, if_neg hne, e27]
theorem s_verdict {d : Nat} {X : zE} {h : zH} {σ : Nat → Nat → Int32} {ρ : Nat → Nat → Option Nat} (hI : z_I X h σ ρ) (ip y z : Int32) : z_M (d + 37) 19 [.ref 1, .int ip, .int y, .int z] (z_G h σ ρ) (z_qi fun r h' => z_mid X h' ∧ z_M (d + 37) 114 [.ref 18, .int ip, .int y, .int z] h' (z_ok X h r)) := by
  obtain ⟨nD, dm, ns, hC, hD, hS, ⟨n0, k0, out, t1, t2, t3, t4, t5, t6, t7, t8⟩, hF⟩ := hI
  have hT : z_TK σ n0 k0 := ⟨t1, t2, t4, t5, t6, t7, t8⟩
  have hn := hC.1
  by_cases hb : z_nb nD y ∨ z_nb nD z
  · refine (m_verd0 hC hD ip hb).mono ?_
    rintro r ⟨x, h', rfl, rfl, rfl⟩
    refine ⟨_, _, rfl, z_mid.of hF.2.1, (m_verdM0 hC.2.2.1 ip hb).mono ?_⟩
    rintro r ⟨x, h', rfl, rfl, rfl⟩
    exact z_ok.same ⟨nD, dm, ns, hC, hD, hS, hT.tt ⟨out, t3⟩, hF⟩
  · obtain ⟨i, hi, rfl⟩ := (z_nb_or hn y).resolve_left (fun z => hb (Or.inl z))
    obtain ⟨j, hj, rfl⟩ := (z_nb_or hn z).resolve_left (fun z => hb (Or.inr z))
    refine (m_verd1 hC hD hS hT t3 ip hi hj).mono ?_
    rintro r ⟨x, h', rfl, rfl, σ1, rfl, b1, b2, b3, b4⟩
    have hD1 : z_DD h σ1 ρ nD dm := hD.fr z_kp.rf (fun _ _ _ _ => rfl) rfl (fun k x y => b1.1 k (by omega))
    have hS1 : z_SS h σ1 ρ nD dm ns := hS.fr (Nat.le_refl _) (fun _ _ => rfl) z_kp.rf rfl (fun k x y => b1.1 k (by omega)) (by rw [b1.1 1 (by omega)]) (b1.2 28 (by omega))
    refine ⟨_, _, rfl, z_mid.of hF.2.1, (m_verdM1 (σ := σ1) (by rw [b1.2 0 (by omega)]; exact hC.2.2.1) hn hD1 hS1 (b1.tk hT) ip hi hj).mono ?_⟩
    rintro r ⟨x, h', rfl, rfl, σ2, σ3, b, rfl, f1, f2⟩
    have hres : z_res σ1 ip 11 = z_res σ ip 11 := z_res_cg (fun k a c => b1.1 k (by omega)) ip 11
    rw [hres] at f2
    have hrv : z_rv σ2 σ := (f1.sc.rv.tr f2.rv).tr b1
    have e3 : σ2 3 = σ1 3 := (f1.sc.1 3 (by omega)).trans (f2.1 3 (by decide) (by decide) (by decide) (by decide))
    have ecs : ∃ o, z_cs σ2 o := by
      obtain ⟨o, ho⟩ := b2
      exact ⟨o, f1.cs (ho.of (f2.1 13 (by decide) (by decide) (by decide) (by decide)) (f2.1 14 (by decide) (by decide) (by decide) (by decide)))⟩
    refine ⟨_, _, rfl, z_vd_cg b1 ip n0 k0 ns i j, h, σ2, ρ, rfl, ?_, by omega, by omega⟩
    refine z_I.chk hC hD hS ((hrv.tk hT).tt ecs) hF (hrv.1 1 (by omega)) (fun k hk => hrv.1 k (by omega)) (fun k hk => hrv.1 k (by omega)) (fun j hj => hrv.2 j (by omega)) ?_ ?_
    · rw [e3, b3, f1.2 18 (by decide) (by decide) (by decide) (by decide), f2.2.2.1]
    · rw [e3, b4, f1.2 19 (by decide) (by decide) (by decide) (by decide), f2.2.2.2.1]
