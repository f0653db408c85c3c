/-! The model's step. -/
theorem z_mst.of {σ' σ σ0 : Nat → Nat → Int32} {q e : Nat} {w : Bool} (h : z_mst σ σ0 q e w) (r : ∀ k, k ≠ 36 → k ≠ 37 → k ≠ 38 → σ' k = σ k) : z_mst σ' σ0 q e w := by
  have e18 := r 18 (by decide) (by decide) (by decide)
  refine ⟨fun k k1 k2 k3 k4 => by rw [r k k2 k3 k4]; exact h.1 k k1 k2 k3 k4, ?_⟩
  rw [e18]
  exact h.2
theorem m_step0 {d : Nat} {h : zH} {ρ : Nat → Nat → Option Nat} {σ σ0 : Nat → Nat → Int32} {ip : Int32} {q e : Nat} {pp i : Nat} {ld : Bool} (hS : z_mst σ σ0 q e false) (hpp : pp < 12) (a36 : σ 36 pp = nI i) (a38 : σ 38 pp = z_bi ld) (hi : i < 12) (hm : σ0 31 i = nI 0) : z_M (d + 1) 85 [.ref 18, .int ip, .int (nI pp)] (z_G h σ ρ) (z_qi fun r h' => r = 0 ∧ ∃ σ', h' = z_G h σ' ρ ∧ z_fra σ' σ ∧ z_mst σ' σ0 q e ld) := by
  refine z_M.of ⟨Nat.le_of_ble_eq_true rfl, by simp [Value.category]⟩ (L := [some (.ref 18), some (.int ip), some (.int (nI pp)), none, none, none]) rfl ?_
  have hinp : vp_in (nI pp) 12 := vp_in_nI hpp (by decide)
  have hclp : (nI pp).toNatClampNeg = pp := nI_clamp (by omega)
  have hini : vp_in (nI i) 12 := vp_in_nI hi (by decide)
  have hcli : (nI i).toNatClampNeg = i := nI_clamp (by omega)
  have h8 : (8 : Int32) * nI i = nI (8 * i) := z_nmul 8 i
  have r31 := hS.rw (k := 31) (by omega)
  refine e_aload k85_0 (q := 1) rfl rfl ?_
  refine g_get k85_1 (q := 4) rfl rfl rfl ?_
  refine e_iload k85_4 (q := 5) rfl rfl ?_
  refine g_ald k85_5 (q := 6) rfl rfl (by assumption) ?_
  rw [hclp, a36]
  refine e_ist k85_6 (q := 7) (L' := [_, _, _, _, _, _]) rfl rfl rfl ?_
  refine e_aload k85_7 (q := 8) rfl rfl ?_
  refine g_get k85_8 (q := 11) rfl rfl rfl ?_
  refine e_iload k85_11 (q := 12) rfl rfl ?_
  refine g_ald k85_12 (q := 13) rfl rfl (by assumption) ?_
  rw [hcli, r31, hm]
  refine e_if k85_13 (q := 16) rfl (fun c13 => absurd c13 (fun z => z rfl)) (fun c13 => ?_)
  refine e_aload k85_16 (q := 17) rfl rfl ?_
  refine e_aload k85_17 (q := 18) rfl rfl ?_
  refine g_get k85_18 (q := 21) rfl rfl rfl ?_
  refine e_iload k85_21 (q := 22) rfl rfl ?_
  refine g_ald k85_22 (q := 23) rfl rfl (by assumption) ?_
  rw [hclp, a38]
  refine g_put k85_23 (q := 26) rfl rfl (z_fitb ld) rfl ?_
  refine e_const k85_26 (q := 27) rfl ?_
  refine e_iret k85_27 ⟨_, rfl⟩ ?_
  refine ⟨_, _, rfl, rfl, _, rfl, ⟨rfl, rfl, rfl⟩, fun k k1 k2 k3 k4 => ?_, fun j j1 j2 j3 => ?_, ?_, ?_, ?_⟩
  · rw [z_us_ne _ _ k1]; exact hS.1 k k1 k2 k3 k4
  · rw [z_us_eq, pk_un j3]; exact hS.2.1 j j1 j2 j3
  · exact hS.2.2.1
  · exact hS.2.2.2.1
  · rfl
theorem l_step {d : Nat} {h : zH} {ρ : Nat → Nat → Option Nat} {σ σ0 : Nat → Nat → Int32} {ip : Int32} {q e : Nat} {Q : zR → Prop} {pp i j nm : Nat} (hS : z_mst σ σ0 q e false) (hpp : pp < 12) (a36 : σ 36 pp = nI i) (a37 : σ 37 pp = nI j) (hi : i < 12) (hm : σ0 31 i = nI nm) (hm8 : nm ≤ 8) (hj : j < nm) (kk : z_E d 85 73 [some (.ref 18), some (.int ip), some (.int (nI pp)), some (.int (nI i)), some (.int (nI (8 * i + j))), none] [.int (σ0 33 (8 * i + j))] (z_G h (z_us σ 37 (upd (σ 37) pp (nI (j + 1)))) ρ) Q) :
    z_E d 85 0 [some (.ref 18), some (.int ip), some (.int (nI pp)), none, none, none] [] (z_G h σ ρ) Q := by
  have hinp : vp_in (nI pp) 12 := vp_in_nI hpp (by decide)
  have hclp : (nI pp).toNatClampNeg = pp := nI_clamp (by omega)
  have hini : vp_in (nI i) 12 := vp_in_nI hi (by decide)
  have hcli : (nI i).toNatClampNeg = i := nI_clamp (by omega)
  have h8 : (8 : Int32) * nI i = nI (8 * i) := z_nmul 8 i
  have r31 := hS.rw (k := 31) (by omega)
  have hinx : vp_in (nI (8 * i + j)) 96 := vp_in_nI (by omega) (by decide)
  have hclx : (nI (8 * i + j)).toNatClampNeg = 8 * i + j := nI_clamp (by omega)
  have r33 := hS.rw (k := 33) (by omega)
  refine e_aload k85_0 (q := 1) rfl rfl ?_
  refine g_get k85_1 (q := 4) rfl rfl rfl ?_
  refine e_iload k85_4 (q := 5) rfl rfl ?_
  refine g_ald k85_5 (q := 6) rfl rfl (by assumption) ?_
  rw [hclp, a36]
  refine e_ist k85_6 (q := 7) (L' := [_, _, _, _, _, _]) rfl rfl rfl ?_
  refine e_aload k85_7 (q := 8) rfl rfl ?_
  refine g_get k85_8 (q := 11) rfl rfl rfl ?_
  refine e_iload k85_11 (q := 12) rfl rfl ?_
  refine g_ald k85_12 (q := 13) rfl rfl (by assumption) ?_
  rw [hcli, r31, hm]
  refine e_if k85_13 (q := 16) rfl (fun c13 => ?_) (fun c13 => absurd (nI_ne0 (by omega) (by omega)) c13)
  refine e_const k85_28 (q := 30) rfl ?_
  refine e_iload k85_30 (q := 31) rfl rfl ?_
  refine e_ib k85_31 (q := 32) rfl ?_
  refine e_aload k85_32 (q := 33) rfl rfl ?_
  refine g_get k85_33 (q := 36) rfl rfl rfl ?_
  refine e_iload k85_36 (q := 37) rfl rfl ?_
  refine g_ald k85_37 (q := 38) rfl rfl (by assumption) ?_
  rw [hclp, a37]
  refine e_ib k85_38 (q := 39) rfl ?_
  rw [h8, nI_add]
  refine e_ist k85_39 (q := 41) (L' := [_, _, _, _, _, _]) rfl rfl rfl ?_
  refine e_aload k85_41 (q := 42) rfl rfl ?_
  refine g_get k85_42 (q := 45) rfl rfl rfl ?_
  refine e_iload k85_45 (q := 46) rfl rfl ?_
  refine g_ald k85_46 (q := 47) rfl rfl (by assumption) ?_
  rw [hclp, a37]
  refine e_aload k85_47 (q := 48) rfl rfl ?_
  refine g_get k85_48 (q := 51) rfl rfl rfl ?_
  refine e_iload k85_51 (q := 52) rfl rfl ?_
  refine g_ald k85_52 (q := 53) rfl rfl (by assumption) ?_
  rw [hcli, r31, hm]
  refine e_ic k85_53 (q := 56) rfl (fun c53 => absurd c53 (nI_ge hj (by omega))) (fun c53 => ?_)
  refine e_aload k85_56 (q := 57) rfl rfl ?_
  refine g_get k85_57 (q := 60) rfl rfl rfl ?_
  refine e_iload k85_60 (q := 61) rfl rfl ?_
  refine e_dup2 k85_61 (q := 62) rfl rfl rfl ?_
  refine g_ald k85_62 (q := 63) rfl rfl (by assumption) ?_
  rw [hclp, a37]
  refine e_const k85_63 (q := 64) rfl ?_
  refine e_ib k85_64 (q := 65) rfl ?_
  refine g_aast k85_65 (q := 66) rfl (fun _ => rfl) (by assumption) ?_
  rw [hclp, nI_1]
  refine e_aload k85_66 (q := 67) rfl rfl ?_
  refine g_get k85_67 (q := 70) rfl rfl rfl ?_
  refine e_iload k85_70 (q := 72) rfl rfl ?_
  refine g_ald k85_72 (q := 73) rfl rfl hinx ?_
  rw [hclx, z_us_ne _ _ (show (33 : Nat) ≠ 37 by decide), r33]
  exact kk
theorem m_step6 {d : Nat} {h : zH} {ρ : Nat → Nat → Option Nat} {σ σ0 : Nat → Nat → Int32} {ip : Int32} {q e : Nat} {pp i j nm : Nat} (hS : z_mst σ σ0 q e false) (hpp : pp < 12) (a36 : σ 36 pp = nI i) (a37 : σ 37 pp = nI j) (hi : i < 12) (hm : σ0 31 i = nI nm) (hm8 : nm ≤ 8) (hj : j < nm) (hk : σ0 33 (8 * i + j) = 6) : z_M (d + 1) 85 [.ref 18, .int ip, .int (nI pp)] (z_G h σ ρ) (z_qi fun r h' => r = -1 ∧ ∃ σ', h' = z_G h σ' ρ ∧ σ' 36 = σ 36 ∧ σ' 37 = upd (σ 37) pp (nI (j + 1)) ∧ σ' 38 = σ 38 ∧ z_mst σ' σ0 q e false) := by
  refine z_M.of ⟨Nat.le_of_ble_eq_true rfl, by simp [Value.category]⟩ (L := [some (.ref 18), some (.int ip), some (.int (nI pp)), none, none, none]) rfl ?_
  have hS1 : z_mst (z_us σ 37 (upd (σ 37) pp (nI (j + 1)))) σ0 q e false := hS.of (fun k k1 k2 k3 => z_us_ne _ _ k2)
  have hinx : vp_in (nI (8 * i + j)) 96 := vp_in_nI (by omega) (by decide)
  have hclx : (nI (8 * i + j)).toNatClampNeg = 8 * i + j := nI_clamp (by omega)
  have f0 : (z_us σ 37 (upd (σ 37) pp (nI (j + 1)))) 36 = σ 36 ∧ (z_us σ 37 (upd (σ 37) pp (nI (j + 1)))) 37 = upd (σ 37) pp (nI (j + 1)) ∧ (z_us σ 37 (upd (σ 37) pp (nI (j + 1)))) 38 = σ 38 := ⟨rfl, rfl, rfl⟩
  refine l_step hS hpp a36 a37 hi hm hm8 hj ?_
  refine e_const k85_73 (q := 75) rfl ?_
  refine e_ic k85_75 (q := 78) rfl (fun c75 => absurd c75 (fun z => z hk)) (fun c75 => ?_)
  refine e_const k85_78 (q := 79) rfl ?_
  refine e_iret k85_79 ⟨_, rfl⟩ ?_
  exact ⟨_, _, rfl, rfl, _, rfl, rfl, rfl, rfl, hS1⟩
theorem m_step4 {d : Nat} {h : zH} {ρ : Nat → Nat → Option Nat} {σ σ0 : Nat → Nat → Int32} {ip : Int32} {q e : Nat} {pp i j nm : Nat} (hS : z_mst σ σ0 q e false) (hpp : pp < 12) (a36 : σ 36 pp = nI i) (a37 : σ 37 pp = nI j) (hi : i < 12) (hm : σ0 31 i = nI nm) (hm8 : nm ≤ 8) (hj : j < nm) (hk : σ0 33 (8 * i + j) = 4) (hq : q ≤ 10) : z_M (d + 2) 85 [.ref 18, .int ip, .int (nI pp)] (z_G h σ ρ) (z_qi fun r h' => ∃ σ', h' = z_G h σ' ρ ∧ σ' 36 = σ 36 ∧ σ' 37 = upd (σ 37) pp (nI (j + 1)) ∧ σ' 38 = σ 38 ∧ ((q = 10 ∧ r = -1 ∧ z_mst σ' σ0 q e true) ∨ (q < 10 ∧ r = -2 ∧ z_mst σ' σ0 (q + 1) e false))) := by
  refine z_M.of ⟨Nat.le_of_ble_eq_true rfl, by simp [Value.category]⟩ (L := [some (.ref 18), some (.int ip), some (.int (nI pp)), none, none, none]) rfl ?_
  have hS1 : z_mst (z_us σ 37 (upd (σ 37) pp (nI (j + 1)))) σ0 q e false := hS.of (fun k k1 k2 k3 => z_us_ne _ _ k2)
  have hinx : vp_in (nI (8 * i + j)) 96 := vp_in_nI (by omega) (by decide)
  have hclx : (nI (8 * i + j)).toNatClampNeg = 8 * i + j := nI_clamp (by omega)
  have f0 : (z_us σ 37 (upd (σ 37) pp (nI (j + 1)))) 36 = σ 36 ∧ (z_us σ 37 (upd (σ 37) pp (nI (j + 1)))) 37 = upd (σ 37) pp (nI (j + 1)) ∧ (z_us σ 37 (upd (σ 37) pp (nI (j + 1)))) 38 = σ 38 := ⟨rfl, rfl, rfl⟩
  refine l_step hS hpp a36 a37 hi hm hm8 hj ?_
  rw [hk]
  refine e_const k85_73 (q := 75) rfl ?_
  refine e_ic k85_75 (q := 78) rfl (fun c75 => ?_) (fun c75 => absurd (by decide) c75)
  refine e_aload k85_80 (q := 81) rfl rfl ?_
  refine g_get k85_81 (q := 84) rfl rfl rfl ?_
  refine e_iload k85_84 (q := 86) rfl rfl ?_
  refine g_ald k85_86 (q := 87) rfl rfl (by assumption) ?_
  rw [hclx, hS1.rw (k := 33) (by omega), hk]
  refine e_const k85_87 (q := 88) rfl ?_
  refine e_ic k85_88 (q := 91) rfl (fun c88 => absurd c88 (fun z => z rfl)) (fun c88 => ?_)
  refine e_aload k85_91 (q := 92) rfl rfl ?_
  refine g_cv k85_92 (q := 95) (as := []) rfl rfl rfl rfl (m_ask hS1 hq) rfl (z_ki fun x92 h92 p92 => ?_)
  obtain ⟨σ2, rfl, f2, hor⟩ := p92
  refine e_if k85_95 (q := 98) rfl (fun c95 => ?_) (fun c95 => ?_)
  · obtain ⟨hq10, rfl, hS2⟩ := hor.resolve_right (fun z => by rw [z.2.1] at c95; exact absurd c95 (by decide))
    refine e_const k85_103 (q := 104) rfl ?_
    refine e_iret k85_104 ⟨_, rfl⟩ ?_
    exact ⟨_, _, rfl, σ2, rfl, f2.1.trans f0.1, f2.2.1.trans f0.2.1, f2.2.2.trans f0.2.2, Or.inl ⟨hq10, rfl, hS2⟩⟩
  · obtain ⟨hq10, rfl, hS2⟩ := hor.resolve_left (fun z => c95 z.2.1)
    refine e_const k85_98 (q := 100) rfl ?_
    refine e_goto k85_100 ?_
    refine e_iret k85_104 ⟨_, rfl⟩ ?_
    exact ⟨_, _, rfl, σ2, rfl, f2.1.trans f0.1, f2.2.1.trans f0.2.1, f2.2.2.trans f0.2.2, Or.inr ⟨hq10, rfl, hS2⟩⟩
theorem m_stepT {d : Nat} {h : zH} {ρ : Nat → Nat → Option Nat} {σ σ0 : Nat → Nat → Int32} {ip : Int32} {q e : Nat} {pp i j nm : Nat} (hS : z_mst σ σ0 q e false) (hpp : pp < 12) (a36 : σ 36 pp = nI i) (a37 : σ 37 pp = nI j) (hi : i < 12) (hm : σ0 31 i = nI nm) (hm8 : nm ≤ 8) {kd ql nD : Nat} (res : Nat → Nat → Nat → Nat × Nat × Nat) (hn2 : nD ≤ 12) (hR : z_rwd σ0 nD) (hP : z_pl σ0 nD (8 * i + j) kd) (hkd : kd ≤ 5) (hk4 : kd ≠ 4) (hql : σ0 32 (8 * i + j) = nI ql) (hj : j < nm) (hq : q ≤ 10) (he : e ≤ 2) : z_M (d + 4) 85 [.ref 18, .int ip, .int (nI pp)] (z_G h σ ρ) (z_qi fun r h' => r = (if (z_oc res σ0 ip (8 * i + j) q e).1 = 1 then nI ql else -1) ∧ ∃ σ', h' = z_G h σ' ρ ∧ σ' 36 = σ 36 ∧ σ' 37 = upd (σ 37) pp (nI (j + 1)) ∧ σ' 38 = σ 38 ∧ z_mst σ' σ0 (z_oc res σ0 ip (8 * i + j) q e).2.1 (z_oc res σ0 ip (8 * i + j) q e).2.2 (decide ((z_oc res σ0 ip (8 * i + j) q e).1 = 2))) := by
  refine z_M.of ⟨Nat.le_of_ble_eq_true rfl, by simp [Value.category]⟩ (L := [some (.ref 18), some (.int ip), some (.int (nI pp)), none, none, none]) rfl ?_
  have hk6 : ¬ σ0 33 (8 * i + j) = 6 := by rw [hP.1]; exact fun z => by have := (nI_eq (b := 6) (by omega) (by decide)).mp z; omega
  have hk4' : ¬ σ0 33 (8 * i + j) = 4 := by rw [hP.1]; exact fun z => by have := (nI_eq (b := 4) (by omega) (by decide)).mp z; omega
  have hS1 : z_mst (z_us σ 37 (upd (σ 37) pp (nI (j + 1)))) σ0 q e false := hS.of (fun k k1 k2 k3 => z_us_ne _ _ k2)
  have hinx : vp_in (nI (8 * i + j)) 96 := vp_in_nI (by omega) (by decide)
  have hclx : (nI (8 * i + j)).toNatClampNeg = 8 * i + j := nI_clamp (by omega)
  have f0 : (z_us σ 37 (upd (σ 37) pp (nI (j + 1)))) 36 = σ 36 ∧ (z_us σ 37 (upd (σ 37) pp (nI (j + 1)))) 37 = upd (σ 37) pp (nI (j + 1)) ∧ (z_us σ 37 (upd (σ 37) pp (nI (j + 1)))) 38 = σ 38 := ⟨rfl, rfl, rfl⟩
  refine l_step hS hpp a36 a37 hi hm hm8 hj ?_
  refine e_const k85_73 (q := 75) rfl ?_
  refine e_ic k85_75 (q := 78) rfl (fun c75 => ?_) (fun c75 => absurd hk6 c75)
  refine e_aload k85_80 (q := 81) rfl rfl ?_
  refine g_get k85_81 (q := 84) rfl rfl rfl ?_
  refine e_iload k85_84 (q := 86) rfl rfl ?_
  refine g_ald k85_86 (q := 87) rfl rfl (by assumption) ?_
  rw [hclx, hS1.rw (k := 33) (by omega)]
  refine e_const k85_87 (q := 88) rfl ?_
  refine e_ic k85_88 (q := 91) rfl (fun c88 => ?_) (fun c88 => absurd hk4' c88)
  refine e_aload k85_105 (q := 106) rfl rfl ?_
  refine e_iload k85_106 (q := 107) rfl rfl ?_
  refine e_iload k85_107 (q := 109) rfl rfl ?_
  refine g_cv k85_109 (q := 112) (as := [_, _]) rfl rfl rfl rfl (m_matches res hn2 hR (by omega) hP hkd hk4 hS1 hq he) rfl (z_ki fun x109 h109 p109 => ?_)
  obtain ⟨σ2, rfl, f2, rfl, hS2⟩ := p109
  refine e_if k85_112 (q := 115) rfl (fun c112 => ?_) (fun c112 => ?_)
  · refine e_const k85_125 (q := 126) rfl ?_
    refine e_iret k85_126 ⟨_, rfl⟩ ?_
    have hno : ¬ (z_oc res σ0 ip (8 * i + j) q e).1 = 1 := of_decide_eq_false (z_bi_0.mp c112)
    exact ⟨_, _, rfl, (if_neg hno).symm, σ2, rfl, f2.1.trans f0.1, f2.2.1.trans f0.2.1, f2.2.2.trans f0.2.2, hS2⟩
  · refine e_aload k85_115 (q := 116) rfl rfl ?_
    refine g_get k85_116 (q := 119) rfl rfl rfl ?_
    refine e_iload k85_119 (q := 121) rfl rfl ?_
    refine g_ald k85_121 (q := 122) rfl rfl (by assumption) ?_
    rw [hclx, hS2.rw (k := 32) (by omega), hql]
    refine e_goto k85_122 ?_
    refine e_iret k85_126 ⟨_, rfl⟩ ?_
    have hyes : (z_oc res σ0 ip (8 * i + j) q e).1 = 1 := Classical.byContradiction (fun z => c112 (z_bi_0.mpr (decide_eq_false z)))
    exact ⟨_, _, rfl, (if_pos hyes).symm, σ2, rfl, f2.1.trans f0.1, f2.2.1.trans f0.2.1, f2.2.2.trans f0.2.2, hS2⟩
theorem m_stepE {d : Nat} {h : zH} {ρ : Nat → Nat → Option Nat} {σ σ0 : Nat → Nat → Int32} {ip : Int32} {q e : Nat} {pp i nm : Nat} (hS : z_mst σ σ0 q e false) (hpp : pp < 12) (a36 : σ 36 pp = nI i) (a37 : σ 37 pp = nI nm) (hi : i < 12) (hm : σ0 31 i = nI nm) (hm8 : nm ≤ 8) (h0 : 0 < nm) (hno : z_lf (σ0 33) (8 * i) nm = -1) : z_M (d + 2) 85 [.ref 18, .int ip, .int (nI pp)] (z_G h σ ρ) (z_qi fun r h' => r = 1 ∧ h' = z_G h σ ρ) := by
  refine z_M.of ⟨Nat.le_of_ble_eq_true rfl, by simp [Value.category]⟩ (L := [some (.ref 18), some (.int ip), some (.int (nI pp)), none, none, none]) rfl ?_
  have hinp : vp_in (nI pp) 12 := vp_in_nI hpp (by decide)
  have hclp : (nI pp).toNatClampNeg = pp := nI_clamp (by omega)
  have hini : vp_in (nI i) 12 := vp_in_nI hi (by decide)
  have hcli : (nI i).toNatClampNeg = i := nI_clamp (by omega)
  have h8 : (8 : Int32) * nI i = nI (8 * i) := z_nmul 8 i
  have r31 := hS.rw (k := 31) (by omega)
  refine e_aload k85_0 (q := 1) rfl rfl ?_
  refine g_get k85_1 (q := 4) rfl rfl rfl ?_
  refine e_iload k85_4 (q := 5) rfl rfl ?_
  refine g_ald k85_5 (q := 6) rfl rfl (by assumption) ?_
  rw [hclp, a36]
  refine e_ist k85_6 (q := 7) (L' := [_, _, _, _, _, _]) rfl rfl rfl ?_
  refine e_aload k85_7 (q := 8) rfl rfl ?_
  refine g_get k85_8 (q := 11) rfl rfl rfl ?_
  refine e_iload k85_11 (q := 12) rfl rfl ?_
  refine g_ald k85_12 (q := 13) rfl rfl (by assumption) ?_
  rw [hcli, r31, hm]
  refine e_if k85_13 (q := 16) rfl (fun c13 => ?_) (fun c13 => absurd (nI_ne0 (by omega) (by omega)) c13)
  refine e_const k85_28 (q := 30) rfl ?_
  refine e_iload k85_30 (q := 31) rfl rfl ?_
  refine e_ib k85_31 (q := 32) rfl ?_
  refine e_aload k85_32 (q := 33) rfl rfl ?_
  refine g_get k85_33 (q := 36) rfl rfl rfl ?_
  refine e_iload k85_36 (q := 37) rfl rfl ?_
  refine g_ald k85_37 (q := 38) rfl rfl (by assumption) ?_
  rw [hclp, a37]
  refine e_ib k85_38 (q := 39) rfl ?_
  rw [h8, nI_add]
  refine e_ist k85_39 (q := 41) (L' := [_, _, _, _, _, _]) rfl rfl rfl ?_
  refine e_aload k85_41 (q := 42) rfl rfl ?_
  refine g_get k85_42 (q := 45) rfl rfl rfl ?_
  refine e_iload k85_45 (q := 46) rfl rfl ?_
  refine g_ald k85_46 (q := 47) rfl rfl (by assumption) ?_
  rw [hclp, a37]
  refine e_aload k85_47 (q := 48) rfl rfl ?_
  refine g_get k85_48 (q := 51) rfl rfl rfl ?_
  refine e_iload k85_51 (q := 52) rfl rfl ?_
  refine g_ald k85_52 (q := 53) rfl rfl (by assumption) ?_
  rw [hcli, r31, hm]
  refine e_ic k85_53 (q := 56) rfl (fun c53 => ?_) (fun c53 => absurd (nI_le (Nat.le_refl _) (by omega)) c53)
  refine e_aload k85_127 (q := 128) rfl rfl ?_
  refine e_iload k85_128 (q := 129) rfl rfl ?_
  refine g_cv k85_129 (q := 132) (as := [_]) rfl rfl rfl rfl (m_leadOf hi (by rw [r31]; exact hm) hm8) rfl (z_ki fun x129 h129 p129 => ?_)
  obtain ⟨rfl, rfl⟩ := p129
  rw [hS.rw (k := 33) (by omega)]
  refine e_ist k85_132 (q := 134) (L' := [_, _, _, _, _, _]) rfl rfl rfl ?_
  refine e_iload k85_134 (q := 136) rfl rfl ?_
  rw [hno]
  refine e_if k85_136 (q := 139) rfl (fun c136 => absurd c136 (by decide)) (fun c136 => ?_)
  refine e_const k85_139 (q := 140) rfl ?_
  refine e_iret k85_140 ⟨_, rfl⟩ ?_
  exact ⟨_, _, rfl, rfl, rfl⟩
theorem m_stepL {d : Nat} {h : zH} {ρ : Nat → Nat → Option Nat} {σ σ0 : Nat → Nat → Int32} {ip : Int32} {q e : Nat} {pp i nm : Nat} (hS : z_mst σ σ0 q e false) (hpp : pp < 12) (a36 : σ 36 pp = nI i) (a37 : σ 37 pp = nI nm) (hi : i < 12) (hm : σ0 31 i = nI nm) (hm8 : nm ≤ 8) {x l : Nat} (h0 : 0 < nm) (hx : x < 96) (hl : z_lf (σ0 33) (8 * i) nm = nI x) (hl2 : σ0 34 x = nI l) (hq : q ≤ 10) : z_M (d + 2) 85 [.ref 18, .int ip, .int (nI pp)] (z_G h σ ρ) (z_qi fun r h' => r = -1 ∧ ∃ σ', h' = z_G h σ' ρ ∧ ((q = 10 ∧ z_fra σ' σ ∧ z_mst σ' σ0 q e true) ∨ (q < 10 ∧ σ' 36 = upd (σ 36) pp (nI l) ∧ σ' 37 = upd (σ 37) pp 0 ∧ σ' 38 = upd (σ 38) pp (z_bi true) ∧ z_mst σ' σ0 (q + 1) e false))) := by
  refine z_M.of ⟨Nat.le_of_ble_eq_true rfl, by simp [Value.category]⟩ (L := [some (.ref 18), some (.int ip), some (.int (nI pp)), none, none, none]) rfl ?_
  have hinp : vp_in (nI pp) 12 := vp_in_nI hpp (by decide)
  have hclp : (nI pp).toNatClampNeg = pp := nI_clamp (by omega)
  have hini : vp_in (nI i) 12 := vp_in_nI hi (by decide)
  have hcli : (nI i).toNatClampNeg = i := nI_clamp (by omega)
  have h8 : (8 : Int32) * nI i = nI (8 * i) := z_nmul 8 i
  have r31 := hS.rw (k := 31) (by omega)
  have hinx : vp_in (nI x) 96 := vp_in_nI hx (by decide)
  refine e_aload k85_0 (q := 1) rfl rfl ?_
  refine g_get k85_1 (q := 4) rfl rfl rfl ?_
  refine e_iload k85_4 (q := 5) rfl rfl ?_
  refine g_ald k85_5 (q := 6) rfl rfl (by assumption) ?_
  rw [hclp, a36]
  refine e_ist k85_6 (q := 7) (L' := [_, _, _, _, _, _]) rfl rfl rfl ?_
  refine e_aload k85_7 (q := 8) rfl rfl ?_
  refine g_get k85_8 (q := 11) rfl rfl rfl ?_
  refine e_iload k85_11 (q := 12) rfl rfl ?_
  refine g_ald k85_12 (q := 13) rfl rfl (by assumption) ?_
  rw [hcli, r31, hm]
  refine e_if k85_13 (q := 16) rfl (fun c13 => ?_) (fun c13 => absurd (nI_ne0 (by omega) (by omega)) c13)
  refine e_const k85_28 (q := 30) rfl ?_
  refine e_iload k85_30 (q := 31) rfl rfl ?_
  refine e_ib k85_31 (q := 32) rfl ?_
  refine e_aload k85_32 (q := 33) rfl rfl ?_
  refine g_get k85_33 (q := 36) rfl rfl rfl ?_
  refine e_iload k85_36 (q := 37) rfl rfl ?_
  refine g_ald k85_37 (q := 38) rfl rfl (by assumption) ?_
  rw [hclp, a37]
  refine e_ib k85_38 (q := 39) rfl ?_
  rw [h8, nI_add]
  refine e_ist k85_39 (q := 41) (L' := [_, _, _, _, _, _]) rfl rfl rfl ?_
  refine e_aload k85_41 (q := 42) rfl rfl ?_
  refine g_get k85_42 (q := 45) rfl rfl rfl ?_
  refine e_iload k85_45 (q := 46) rfl rfl ?_
  refine g_ald k85_46 (q := 47) rfl rfl (by assumption) ?_
  rw [hclp, a37]
  refine e_aload k85_47 (q := 48) rfl rfl ?_
  refine g_get k85_48 (q := 51) rfl rfl rfl ?_
  refine e_iload k85_51 (q := 52) rfl rfl ?_
  refine g_ald k85_52 (q := 53) rfl rfl (by assumption) ?_
  rw [hcli, r31, hm]
  refine e_ic k85_53 (q := 56) rfl (fun c53 => ?_) (fun c53 => absurd (nI_le (Nat.le_refl _) (by omega)) c53)
  refine e_aload k85_127 (q := 128) rfl rfl ?_
  refine e_iload k85_128 (q := 129) rfl rfl ?_
  refine g_cv k85_129 (q := 132) (as := [_]) rfl rfl rfl rfl (m_leadOf hi (by rw [r31]; exact hm) hm8) rfl (z_ki fun x129 h129 p129 => ?_)
  obtain ⟨rfl, rfl⟩ := p129
  rw [hS.rw (k := 33) (by omega)]
  refine e_ist k85_132 (q := 134) (L' := [_, _, _, _, _, _]) rfl rfl rfl ?_
  refine e_iload k85_134 (q := 136) rfl rfl ?_
  rw [hl]
  refine e_if k85_136 (q := 139) rfl (fun c136 => ?_) (fun c136 => absurd (nI_pos' (by omega)) c136)
  refine e_aload k85_141 (q := 142) rfl rfl ?_
  refine g_cv k85_142 (q := 145) (as := []) rfl rfl rfl rfl (m_ask hS hq) rfl (z_ki fun x142 h142 p142 => ?_)
  obtain ⟨σ2, rfl, f2, hor⟩ := p142
  refine e_if k85_145 (q := 148) rfl (fun c145 => ?_) (fun c145 => ?_)
  · obtain ⟨hq10, rfl, hS2⟩ := hor.resolve_right (fun z => by rw [z.2.1] at c145; exact absurd c145 (by decide))
    refine e_const k85_161 (q := 162) rfl ?_
    refine e_iret k85_162 ⟨_, rfl⟩ ?_
    exact ⟨_, _, rfl, rfl, σ2, rfl, Or.inl ⟨hq10, f2, hS2⟩⟩
  · obtain ⟨hq10, rfl, hS2⟩ := hor.resolve_left (fun z => c145 z.2.1)
    refine e_aload k85_148 (q := 149) rfl rfl ?_
    refine e_iload k85_149 (q := 150) rfl rfl ?_
    refine e_aload k85_150 (q := 151) rfl rfl ?_
    refine g_get k85_151 (q := 154) rfl rfl rfl ?_
    refine e_iload k85_154 (q := 156) rfl rfl ?_
    refine g_ald k85_156 (q := 157) rfl rfl (by assumption) ?_
    rw [nI_clamp (by omega), hS2.rw (k := 34) (by omega), hl2]
    refine e_const k85_157 (q := 158) rfl ?_
    refine g_cv k85_158 (q := 161) (as := [_, _, _]) rfl rfl rfl rfl (m_open hpp true) rfl (z_kv fun h158 p158 => ?_)
    obtain ⟨σ3, rfl, g1, g2, g3, g4⟩ := p158
    refine e_const k85_161 (q := 162) rfl ?_
    refine e_iret k85_162 ⟨_, rfl⟩ ?_
    exact ⟨_, _, rfl, rfl, σ3, rfl, Or.inr ⟨hq10, by rw [g2, f2.1], by rw [g3, f2.2.1], by rw [g4, f2.2.2], hS2.of g1⟩⟩
