/-! The class takes all named fields; writes a field; writes the body. -/
/-- the names' pieces, from place i on, the piece at hand begun at s -/
def z_sg (u : Nat → Int32) : Nat → Nat → Nat → List (Nat × Nat)
  | 0, i, s => [(s, i)]
  | m + 1, i, s => if u i = 58 then (s, i) :: z_sg u m (i + 1) (i + 1) else z_sg u m (i + 1) s
def z_ta (t u : Nat → Int32) (F : List (Nat × Nat × Nat)) : List (Nat × Nat) → (Nat → Bool) × List Nat → (Nat → Bool) × List Nat
  | [], p => p
  | x :: r, p => z_ta t u F r (z_tp t u F x.1 x.2 p)
theorem l_untake {d : Nat} {h : zH} {ρ : Nat → Nat → Option Nat} {Q : zR → Prop} {c : Nat} {x2 : Option Value} (hc : c ≤ 12) : ∀ (m i : Nat) (σ : Nat → Nat → Int32), i + m = c → σ 5 1 = nI c → (∀ f, f < i → σ 15 f = 0) →
    (∀ σ', (∀ k, k ≠ 15 → σ' k = σ k) → (∀ f, f < c → σ' 15 f = 0) → z_E (d + 3) 48 31 [some (.ref 4), some (.int (nI c)), x2] [] (z_G h σ' ρ) Q) →
    z_E (d + 3) 48 7 [some (.ref 4), some (.int (nI i)), x2] [] (z_G h σ ρ) Q
  | 0, i, σ, hi, hF, h0, kk => by
    obtain rfl : i = c := by omega
    refine e_iload k48_7 (q := 8) rfl rfl ?_
    refine e_aload k48_8 (q := 9) rfl rfl ?_
    refine g_get k48_9 (q := 12) rfl rfl rfl ?_
    refine g_get k48_12 (q := 15) rfl rfl rfl ?_
    refine e_ic k48_15 (q := 18) rfl (fun c15 => ?_) (fun c15 => absurd (by show σ 5 1 ≤ nI i; rw [hF]; exact nI_le (Nat.le_refl _) (by omega)) c15)
    exact kk σ (fun _ _ => rfl) h0
  | m + 1, i, σ, hi, hF, h0, kk => by
    have hin : vp_in (nI i) 12 := vp_in_nI (by omega) (by decide)
    have hcl : (nI i).toNatClampNeg = i := nI_clamp (by omega)
    refine e_iload k48_7 (q := 8) rfl rfl ?_
    refine e_aload k48_8 (q := 9) rfl rfl ?_
    refine g_get k48_9 (q := 12) rfl rfl rfl ?_
    refine g_get k48_12 (q := 15) rfl rfl rfl ?_
    refine e_ic k48_15 (q := 18) rfl (fun c15 => absurd c15 (by show ¬ σ 5 1 ≤ nI i; rw [hF]; exact nI_ge (by omega) (by omega))) (fun c15 => ?_)
    refine e_aload k48_18 (q := 19) rfl rfl ?_
    refine g_get k48_19 (q := 22) rfl rfl rfl ?_
    refine e_iload k48_22 (q := 23) rfl rfl ?_
    refine e_const k48_23 (q := 24) rfl ?_
    refine g_aast k48_24 (q := 25) rfl (fun _ => rfl) (by assumption) ?_
    refine e_iinc k48_25 (q := 28) (L' := [_, some (.int (nI (i + 1))), _]) rfl rfl (by rw [nI_1]; rfl) ?_
    refine e_goto k48_28 ?_
    refine l_untake hc m (i + 1) _ (by omega) (by rw [z_us_ne _ _ (by decide)]; exact hF) (fun f hf => ?_) (fun σ' e' z' => kk σ' (fun k hk => (e' k hk).trans (z_us_ne _ _ hk)) z')
    rw [z_us_eq, hcl]
    by_cases e : f = i
    · subst e
      exact (if_pos rfl).trans (by decide)
    · exact (if_neg e).trans (h0 f (by omega))
theorem l_takeAll {d : Nat} {h : zH} {ρ : Nat → Nat → Option Nat} {P : zH → Prop} {n k : Nat} {F : List (Nat × Nat × Nat)} (hB : z_fb n F) : ∀ (m i s : Nat) (σ : Nat → Nat → Int32) (T : Nat → Bool) (O : List Nat), i + m = k → s ≤ i → z_tm σ n → z_tn σ k → z_fl σ F → z_td σ F.length T O →
    (∀ σ', z_et σ' σ → z_td σ' F.length (z_ta (σ 7) (σ 12) F (z_sg (σ 12) m i s) (T, O)).1 (z_ta (σ 7) (σ 12) F (z_sg (σ 12) m i s) (T, O)).2 → P (z_G h σ' ρ)) →
    z_E (d + 3) 48 35 [some (.ref 4), some (.int (nI s)), some (.int (nI i))] [] (z_G h σ ρ) (z_qv P)
  | 0, i, s, σ, T, O, hi, hs, hT, hN, hF, hD, kk => by
    obtain rfl : i = k := by omega
    have hk := hN.2.1
    refine e_iload k48_35 (q := 36) rfl rfl ?_
    refine e_aload k48_36 (q := 37) rfl rfl ?_
    refine g_get k48_37 (q := 40) rfl rfl rfl ?_
    refine g_get k48_40 (q := 43) rfl rfl rfl ?_
    refine e_ic k48_43 (q := 46) rfl (fun c43 => absurd c43 (by show ¬ σ 11 1 < nI i; rw [hN.1]; exact nI_nlt (Nat.le_refl _) (by omega))) (fun c43 => ?_)
    refine e_iload k48_46 (q := 47) rfl rfl ?_
    refine e_aload k48_47 (q := 48) rfl rfl ?_
    refine g_get k48_48 (q := 51) rfl rfl rfl ?_
    refine g_get k48_51 (q := 54) rfl rfl rfl ?_
    refine e_ic k48_54 (q := 57) rfl (fun c54 => ?_) (fun c54 => absurd (by show nI i = σ 11 1; rw [hN.1]) c54)
    refine e_aload k48_70 (q := 71) rfl rfl ?_
    refine e_iload k48_71 (q := 72) rfl rfl ?_
    refine e_iload k48_72 (q := 73) rfl rfl ?_
    refine g_cv k48_73 (q := 76) (as := [_, _]) rfl rfl rfl rfl (m_takeLast hT hN hs (Nat.le_refl _) hF hB hD) rfl (z_kv fun h73 p73 => ?_)
    obtain ⟨σ1, rfl, e1, k1⟩ := p73
    refine e_iload k48_76 (q := 77) rfl rfl ?_
    refine e_const k48_77 (q := 78) rfl ?_
    refine e_ib k48_78 (q := 79) rfl ?_
    refine e_ist k48_79 (q := 80) (L' := [_, some (.int (nI (i + 1))), _]) rfl rfl (by rw [nI_1]; rfl) ?_
    refine e_iinc k48_80 (q := 83) (L' := [_, _, some (.int (nI (i + 1)))]) rfl rfl (by rw [nI_1]; rfl) ?_
    refine e_goto k48_83 ?_
    refine e_iload k48_35 (q := 36) rfl rfl ?_
    refine e_aload k48_36 (q := 37) rfl rfl ?_
    refine g_get k48_37 (q := 40) rfl rfl rfl ?_
    refine g_get k48_40 (q := 43) rfl rfl rfl ?_
    refine e_ic k48_43 (q := 46) rfl (fun c43 => ?_) (fun c43 => absurd (by show σ1 11 1 < nI (i + 1); rw [e1 11 (by decide) (by decide) (by decide), hN.1]; exact nI_lt (by omega) (by omega)) c43)
    refine e_vret k48_86 ?_
    refine ⟨_, rfl, kk σ1 e1 ?_⟩
    rw [z_sg, z_ta, z_ta]
    exact k1
  | m + 1, i, s, σ, T, O, hi, hs, hT, hN, hF, hD, kk => by
    have hk := hN.2.1
    have hin : i < k := by omega
    refine e_iload k48_35 (q := 36) rfl rfl ?_
    refine e_aload k48_36 (q := 37) rfl rfl ?_
    refine g_get k48_37 (q := 40) rfl rfl rfl ?_
    refine g_get k48_40 (q := 43) rfl rfl rfl ?_
    refine e_ic k48_43 (q := 46) rfl (fun c43 => absurd c43 (by show ¬ σ 11 1 < nI i; rw [hN.1]; exact nI_nlt (by omega) (by omega))) (fun c43 => ?_)
    refine e_iload k48_46 (q := 47) rfl rfl ?_
    refine e_aload k48_47 (q := 48) rfl rfl ?_
    refine g_get k48_48 (q := 51) rfl rfl rfl ?_
    refine g_get k48_51 (q := 54) rfl rfl rfl ?_
    refine e_ic k48_54 (q := 57) rfl (fun c54 => absurd c54 (by show ¬ nI i = σ 11 1; rw [hN.1]; exact fun z => by have := (nI_eq (by omega) (by omega)).mp z; omega)) (fun c54 => ?_)
    refine e_aload k48_57 (q := 58) rfl rfl ?_
    refine g_get k48_58 (q := 61) rfl rfl rfl ?_
    refine e_iload k48_61 (q := 62) rfl rfl ?_
    refine g_cv k48_62 (q := 65) (as := [_]) rfl rfl rfl rfl (m_codeN hN hin) rfl (z_ki fun x62 h62 p62 => ?_)
    obtain ⟨rfl, rfl⟩ := p62
    refine e_const k48_65 (q := 67) rfl ?_
    refine e_ic k48_67 (q := 70) rfl (fun c67 => ?_) (fun c67 => ?_)
    · refine e_iinc k48_80 (q := 83) (L' := [_, _, some (.int (nI (i + 1)))]) rfl rfl (by rw [nI_1]; rfl) ?_
      refine e_goto k48_83 ?_
      refine l_takeAll hB m (i + 1) s σ T O (by omega) (by omega) hT hN hF hD (fun σ2 e2 k2 => kk σ2 e2 ?_)
      rw [z_sg, if_neg c67]
      exact k2
    · refine e_aload k48_70 (q := 71) rfl rfl ?_
      refine e_iload k48_71 (q := 72) rfl rfl ?_
      refine e_iload k48_72 (q := 73) rfl rfl ?_
      refine g_cv k48_73 (q := 76) (as := [_, _]) rfl rfl rfl rfl (m_takeLast hT hN hs (show i ≤ k by omega) hF hB hD) rfl (z_kv fun h73 p73 => ?_)
      obtain ⟨σ1, rfl, e1, k1⟩ := p73
      refine e_iload k48_76 (q := 77) rfl rfl ?_
      refine e_const k48_77 (q := 78) rfl ?_
      refine e_ib k48_78 (q := 79) rfl ?_
      refine e_ist k48_79 (q := 80) (L' := [_, some (.int (nI (i + 1))), _]) rfl rfl (by rw [nI_1]; rfl) ?_
      refine e_iinc k48_80 (q := 83) (L' := [_, _, some (.int (nI (i + 1)))]) rfl rfl (by rw [nI_1]; rfl) ?_
      refine e_goto k48_83 ?_
      refine l_takeAll hB m (i + 1) (i + 1) σ1 _ _ (by omega) (Nat.le_refl _) (hT.et e1) (hN.et e1) (hF.et e1) k1 (fun σ2 e2 k2 => kk σ2 (e2.tr e1) ?_)
      rw [e1 7 (by decide) (by decide) (by decide), e1 12 (by decide) (by decide) (by decide)] at k2
      rw [z_sg, if_pos (Classical.not_not.mp c67), z_ta]
      exact k2
theorem m_takeFields {d : Nat} {h : zH} {ρ : Nat → Nat → Option Nat} {σ : Nat → Nat → Int32} {n k : Nat} {F : List (Nat × Nat × Nat)} (hT : z_tm σ n) (hN : z_tn σ k) (hF : z_fl σ F) (hB : z_fb n F) : z_M (d + 4) 48 [.ref 4] (z_G h σ ρ) (z_qv fun h' => ∃ σ', h' = z_G h σ' ρ ∧ z_et σ' σ ∧ z_td σ' F.length (z_ta (σ 7) (σ 12) F (z_sg (σ 12) k 0 0) (fun _ => false, [])).1 (z_ta (σ 7) (σ 12) F (z_sg (σ 12) k 0 0) (fun _ => false, [])).2) := by
  refine z_M.of ⟨Nat.le_of_ble_eq_true rfl, by simp [Value.category]⟩ (L := [some (.ref 4), none, none]) rfl ?_
  refine e_aload k48_0 (q := 1) rfl rfl ?_
  refine e_const k48_1 (q := 2) rfl ?_
  refine g_put k48_2 (q := 5) rfl rfl ⟨_, rfl⟩ rfl ?_
  refine e_const k48_5 (q := 6) rfl ?_
  refine e_ist k48_6 (q := 7) (L' := [_, _, _]) rfl rfl rfl ?_
  refine l_untake hF.2.1 F.length 0 _ (by omega) (by rw [z_us_ne _ _ (by decide)]; exact hF.1) (fun f hf => absurd hf (Nat.not_lt_zero _)) (fun σ1 e1 z1 => ?_)
  have e2 : z_et σ1 σ := fun j h1 h2 h3 => (e1 j h2).trans (z_us_ne _ _ h1)
  refine e_const k48_31 (q := 32) rfl ?_
  refine e_ist k48_32 (q := 33) (L' := [_, _, _]) rfl rfl rfl ?_
  refine e_const k48_33 (q := 34) rfl ?_
  refine e_ist k48_34 (q := 35) (L' := [_, _, _]) rfl rfl rfl ?_
  refine l_takeAll hB k 0 0 σ1 (fun _ => false) [] (by omega) (Nat.le_refl _) (hT.et e2) (hN.et e2) (hF.et e2) ⟨z1, ?_, fun j hj => absurd hj (Nat.not_lt_zero _), ?_⟩ (fun σ3 e3 k3 => ⟨σ3, rfl, e3.tr e2, ?_⟩)
  · rw [e1 4 (by decide), z_us_eq]; rfl
  · have : ∀ c, z_sm (fun _ => 1) (fun _ => false) c = 0 := fun c => by
      induction c with
      | zero => rfl
      | succ c ih => unfold z_sm; rw [ih]; rfl
    rw [this]; rfl
  · rw [e2 7 (by decide) (by decide) (by decide), e2 12 (by decide) (by decide) (by decide)] at k3
    exact k3
def z_fo (t : Nat → Int32) (rf : Bool) (x : Nat × Nat × Nat) : List Int32 := if rf = true then (z_sl t x.1 (x.2.1 - x.1)).map z_lw ++ (58 :: (z_sq t (x.2.1 + 1) true false (x.2.2 - (x.2.1 + 1)) ++ [10])) else z_sl t x.1 (x.2.2 - x.1) ++ [10]
theorem l_lower {d : Nat} {h : zH} {ρ : Nat → Nat → Option Nat} {Q : zR → Prop} {n b : Nat} {x1 : Option Value} (hb : b ≤ n) : ∀ (m i : Nat) (σ : Nat → Nat → Int32) (out : List Int32), i + m = b → z_tm σ n → z_cs σ out →
    (∀ σ', z_cs σ' (out ++ (z_sl (σ 7) i m).map z_lw) → z_eq σ' σ → z_E (d + 2) 51 53 [some (.ref 4), x1, some (.int (nI b)), some (.int (nI b))] [] (z_G h σ' ρ) Q) →
    z_E (d + 2) 51 20 [some (.ref 4), x1, some (.int (nI b)), some (.int (nI i))] [] (z_G h σ ρ) Q
  | 0, i, σ, out, hi, hT, hC, kk => by
    obtain rfl : i = b := by omega
    have hn := hT.2.1
    refine e_iload k51_20 (q := 21) rfl rfl ?_
    refine e_iload k51_21 (q := 22) rfl rfl ?_
    refine e_ic k51_22 (q := 25) rfl (fun c22 => ?_) (fun c22 => absurd (nI_le (Nat.le_refl _) (by omega)) c22)
    exact kk σ (hC.eq (List.append_nil _).symm) z_eq.rf
  | m + 1, i, σ, out, hi, hT, hC, kk => by
    have hn := hT.2.1
    have hin : i < n := by omega
    refine e_iload k51_20 (q := 21) rfl rfl ?_
    refine e_iload k51_21 (q := 22) rfl rfl ?_
    refine e_ic k51_22 (q := 25) rfl (fun c22 => absurd c22 (nI_ge (show i < b by omega) (by omega))) (fun c22 => ?_)
    refine e_aload k51_25 (q := 26) rfl rfl ?_
    refine g_get k51_26 (q := 29) rfl rfl rfl ?_
    refine e_aload k51_29 (q := 30) rfl rfl ?_
    refine g_get k51_30 (q := 33) rfl rfl rfl ?_
    refine g_get k51_33 (q := 36) rfl rfl rfl ?_
    refine e_iload k51_36 (q := 37) rfl rfl ?_
    refine g_cv k51_37 (q := 40) (as := [_]) rfl rfl rfl rfl (m_codeT hT hin) rfl (z_ki fun x37 h37 p37 => ?_)
    obtain ⟨rfl, rfl⟩ := p37
    refine e_cs k51_40 (q := 43) (as := [_]) rfl rfl (Nat.le_of_ble_eq_true rfl) (m_lowered _) rfl (z_ki fun x40 h40 p40 => ?_)
    obtain ⟨rfl, rfl⟩ := p40
    refine g_cv k51_43 (q := 46) (as := [_]) rfl rfl rfl rfl (m_app hC (z_lw (σ 7 i))) rfl (z_ki fun x43 h43 p43 => ?_)
    obtain ⟨σ1, rfl, hC1, e1⟩ := p43
    refine e_pop k51_46 (q := 47) rfl rfl ?_
    refine e_iinc k51_47 (q := 50) (L' := [_, _, _, some (.int (nI (i + 1)))]) rfl rfl (by rw [nI_1]; rfl) ?_
    refine e_goto k51_50 ?_
    refine l_lower hb m (i + 1) σ1 _ (by omega) (hT.eq e1) hC1 (fun σ2 h2 e2 => kk σ2 (h2.eq ?_) (e2.tr e1))
    rw [e1 7 (by decide) (by decide), (hT.2.2 i hin).lw.ch, List.append_assoc]
    rfl
theorem m_writeRelaxedField {d : Nat} {h : zH} {ρ : Nat → Nat → Option Nat} {σ : Nat → Nat → Int32} {n f : Nat} {x : Nat × Nat × Nat} {out : List Int32} (hT : z_tm σ n) (hC : z_cs σ out) (hf : f < 12) (h8 : σ 8 f = nI x.1) (h9 : σ 9 f = nI x.2.1) (h10 : σ 10 f = nI x.2.2) (hb : x.1 < x.2.1 ∧ x.2.1 < x.2.2 ∧ x.2.2 ≤ n) : z_M (d + 3) 51 [.ref 4, .int (nI f)] (z_G h σ ρ) (z_qv fun h' => ∃ σ', h' = z_G h σ' ρ ∧ z_cs σ' (out ++ z_fo (σ 7) true x) ∧ z_eq σ' σ) := by
  refine z_M.of ⟨Nat.le_of_ble_eq_true rfl, by simp [Value.category]⟩ (L := [some (.ref 4), some (.int (nI f)), none, none]) rfl ?_
  obtain ⟨b1, b2, b3⟩ := hb
  have hn := hT.2.1
  have hin : vp_in (nI f) 12 := vp_in_nI hf (by decide)
  have hcf : (nI f).toNatClampNeg = f := nI_clamp (by omega)
  refine e_aload k51_0 (q := 1) rfl rfl ?_
  refine g_get k51_1 (q := 4) rfl rfl rfl ?_
  refine g_get k51_4 (q := 7) rfl rfl rfl ?_
  refine e_iload k51_7 (q := 8) rfl rfl ?_
  refine g_ald k51_8 (q := 9) rfl rfl (by assumption) ?_
  rw [hcf, h9]
  refine e_ist k51_9 (q := 10) (L' := [_, _, _, _]) rfl rfl rfl ?_
  refine e_aload k51_10 (q := 11) rfl rfl ?_
  refine g_get k51_11 (q := 14) rfl rfl rfl ?_
  refine g_get k51_14 (q := 17) rfl rfl rfl ?_
  refine e_iload k51_17 (q := 18) rfl rfl ?_
  refine g_ald k51_18 (q := 19) rfl rfl (by assumption) ?_
  rw [hcf, h8]
  refine e_ist k51_19 (q := 20) (L' := [_, _, _, _]) rfl rfl rfl ?_
  refine l_lower (show x.2.1 ≤ n by omega) (x.2.1 - x.1) x.1 σ out (by omega) hT hC (fun σ1 hC1 e1 => ?_)
  refine e_aload k51_53 (q := 54) rfl rfl ?_
  refine g_get k51_54 (q := 57) rfl rfl rfl ?_
  refine e_const k51_57 (q := 59) rfl ?_
  refine g_cv k51_59 (q := 62) (as := [_]) rfl rfl rfl rfl (m_app hC1 58) rfl (z_ki fun x59 h59 p59 => ?_)
  obtain ⟨σ2, rfl, hC2, e2⟩ := p59
  refine e_pop k51_62 (q := 63) rfl rfl ?_
  refine e_aload k51_63 (q := 64) rfl rfl ?_
  refine e_iload k51_64 (q := 65) rfl rfl ?_
  refine e_const k51_65 (q := 66) rfl ?_
  refine e_ib k51_66 (q := 67) rfl ?_
  refine e_aload k51_67 (q := 68) rfl rfl ?_
  refine g_get k51_68 (q := 71) rfl rfl rfl ?_
  refine g_get k51_71 (q := 74) rfl rfl rfl ?_
  refine e_iload k51_74 (q := 75) rfl rfl ?_
  refine g_ald k51_75 (q := 76) rfl rfl (by assumption) ?_
  rw [show (σ2 10 (nI f).toNatClampNeg) = nI x.2.2 by rw [hcf, e2 10 (by decide) (by decide), e1 10 (by decide) (by decide), h10]]
  refine e_const k51_76 (q := 77) rfl ?_
  rw [show nI x.2.1 + 1 = nI (x.2.1 + 1) from nI_1 _]
  refine g_cv k51_77 (q := 80) (as := [_, _, _]) rfl rfl rfl rfl (m_squeeze true ((hT.eq e1).eq e2) hC2 (show x.2.1 + 1 ≤ x.2.2 by omega) b3) rfl (z_kv fun h77 p77 => ?_)
  obtain ⟨σ3, rfl, hC3, e3⟩ := p77
  refine e_aload k51_80 (q := 81) rfl rfl ?_
  refine g_get k51_81 (q := 84) rfl rfl rfl ?_
  refine e_const k51_84 (q := 86) rfl ?_
  refine g_cv k51_86 (q := 89) (as := [_]) rfl rfl rfl rfl (m_app hC3 10) rfl (z_ki fun x86 h86 p86 => ?_)
  obtain ⟨σ4, rfl, hC4, e4⟩ := p86
  refine e_pop k51_89 (q := 90) rfl rfl ?_
  refine e_vret k51_90 ?_
  refine ⟨_, rfl, σ4, rfl, hC4.eq ?_, e4.tr (e3.tr (e2.tr e1))⟩
  rw [z_fo, if_pos rfl, z_c58.ch, z_c10.ch, (e2.tr e1) 7 (by decide) (by decide)]
  simp
/-- where the body's end stands without its last ends of lines -/
def z_te (t : Nat → Int32) (bs : Nat) : Nat → Nat
  | 0 => 0
  | e + 1 => if bs < e + 1 ∧ t e = 10 then z_te t bs e else e + 1
theorem z_te_ge (t : Nat → Int32) (bs : Nat) : ∀ e, bs ≤ e → bs ≤ z_te t bs e ∧ z_te t bs e ≤ e
  | 0, h => ⟨h, Nat.le_refl _⟩
  | e + 1, h => by
    unfold z_te
    split
    · rename_i z
      have := z_te_ge t bs e (by omega)
      omega
    · omega
def z_pb (t : Nat → Int32) (bs n : Nat) : List Int32 := z_sl t bs (z_te t bs n - bs) ++ [10]
theorem l_trim {d : Nat} {h : zH} {ρ : Nat → Nat → Option Nat} {σ : Nat → Nat → Int32} {Q : zR → Prop} {n bs : Nat} (hT : z_tm σ n) (hS : σ 5 2 = nI bs) : ∀ (e : Nat), bs ≤ e → e ≤ n →
    z_E (d + 2) 52 46 [some (.ref 4), some (.int (nI (z_te (σ 7) bs e)))] [] (z_G h σ ρ) Q →
    z_E (d + 2) 52 11 [some (.ref 4), some (.int (nI e))] [] (z_G h σ ρ) Q
  | 0, h1, h2, kk => by
    have hn := hT.2.1
    refine e_iload k52_11 (q := 12) rfl rfl ?_
    refine e_aload k52_12 (q := 13) rfl rfl ?_
    refine g_get k52_13 (q := 16) rfl rfl rfl ?_
    refine g_get k52_16 (q := 19) rfl rfl rfl ?_
    refine e_ic k52_19 (q := 22) rfl (fun c19 => ?_) (fun c19 => absurd (by show nI 0 ≤ σ 5 2; rw [hS]; exact nI_le (by omega) (by omega)) c19)
    exact kk
  | e + 1, h1, h2, kk => by
    have hn := hT.2.1
    refine e_iload k52_11 (q := 12) rfl rfl ?_
    refine e_aload k52_12 (q := 13) rfl rfl ?_
    refine g_get k52_13 (q := 16) rfl rfl rfl ?_
    refine g_get k52_16 (q := 19) rfl rfl rfl ?_
    refine e_ic k52_19 (q := 22) rfl (fun c19 => ?_) (fun c19 => ?_)
    · have hl : ¬ bs < e + 1 := fun z => by
        have c : nI (e + 1) ≤ σ 5 2 := c19
        rw [hS] at c
        exact nI_ge z (by omega) c
      rw [z_te, if_neg (fun z => hl z.1)] at kk
      exact kk
    · have hl : bs < e + 1 := by
        rcases Nat.lt_or_ge bs (e + 1) with z | z
        · exact z
        · exact absurd (show nI (e + 1) ≤ σ 5 2 by rw [hS]; exact nI_le z (by omega)) c19
      refine e_aload k52_22 (q := 23) rfl rfl ?_
      refine g_get k52_23 (q := 26) rfl rfl rfl ?_
      refine g_get k52_26 (q := 29) rfl rfl rfl ?_
      refine e_iload k52_29 (q := 30) rfl rfl ?_
      refine e_const k52_30 (q := 31) rfl ?_
      refine e_ib k52_31 (q := 32) rfl ?_
      rw [show nI (e + 1) - 1 = nI e from nI_pred e]
      refine g_cv k52_32 (q := 35) (as := [_]) rfl rfl rfl rfl (m_codeT hT (show e < n by omega)) rfl (z_ki fun x32 h32 p32 => ?_)
      obtain ⟨rfl, rfl⟩ := p32
      refine e_const k52_35 (q := 37) rfl ?_
      refine e_ic k52_37 (q := 40) rfl (fun c37 => ?_) (fun c37 => ?_)
      · rw [z_te, if_neg (fun z => c37 z.2)] at kk
        exact kk
      · rw [z_te, if_pos ⟨hl, Classical.not_not.mp c37⟩] at kk
        refine e_iinc k52_40 (q := 43) (L' := [_, some (.int (nI e))]) rfl rfl (by rw [show nI (e + 1) + -1 = nI e by rw [← Int32.sub_eq_add_neg]; exact nI_pred e]; rfl) ?_
        refine e_goto k52_43 ?_
        exact l_trim hT hS e (by omega) (by omega) kk
theorem m_writePlainBody {d : Nat} {h : zH} {ρ : Nat → Nat → Option Nat} {σ : Nat → Nat → Int32} {n bs : Nat} {out : List Int32} (hT : z_tm σ n) (hC : z_cs σ out) (hS : σ 5 2 = nI bs) (hb : bs ≤ n) : z_M (d + 3) 52 [.ref 4] (z_G h σ ρ) (z_qv fun h' => ∃ σ', h' = z_G h σ' ρ ∧ z_cs σ' (out ++ z_pb (σ 7) bs n) ∧ z_eq σ' σ) := by
  refine z_M.of ⟨Nat.le_of_ble_eq_true rfl, by simp [Value.category]⟩ (L := [some (.ref 4), none]) rfl ?_
  refine e_aload k52_0 (q := 1) rfl rfl ?_
  refine g_get k52_1 (q := 4) rfl rfl rfl ?_
  refine g_get k52_4 (q := 7) rfl rfl rfl ?_
  refine g_get k52_7 (q := 10) rfl rfl rfl ?_
  rw [show (σ 6 1) = nI n from hT.1]
  refine e_ist k52_10 (q := 11) (L' := [_, _]) rfl rfl rfl ?_
  refine l_trim hT hS n hb (Nat.le_refl _) ?_
  have hte := z_te_ge (σ 7) bs n hb
  refine e_aload k52_46 (q := 47) rfl rfl ?_
  refine e_aload k52_47 (q := 48) rfl rfl ?_
  refine g_get k52_48 (q := 51) rfl rfl rfl ?_
  refine g_get k52_51 (q := 54) rfl rfl rfl ?_
  refine e_iload k52_54 (q := 55) rfl rfl ?_
  rw [show (σ 5 2) = nI bs from hS]
  refine g_cv k52_55 (q := 58) (as := [_, _]) rfl rfl rfl rfl (m_copy hT hC hte.1 hte.2) rfl (z_kv fun h55 p55 => ?_)
  obtain ⟨σ1, rfl, hC1, e1⟩ := p55
  refine e_aload k52_58 (q := 59) rfl rfl ?_
  refine g_get k52_59 (q := 62) rfl rfl rfl ?_
  refine e_const k52_62 (q := 64) rfl ?_
  refine g_cv k52_64 (q := 67) (as := [_]) rfl rfl rfl rfl (m_app hC1 10) rfl (z_ki fun x64 h64 p64 => ?_)
  obtain ⟨σ2, rfl, hC2, e2⟩ := p64
  refine e_pop k52_67 (q := 68) rfl rfl ?_
  refine e_vret k52_68 ?_
  refine ⟨_, rfl, σ2, rfl, hC2.eq ?_, e2.tr e1⟩
  rw [z_pb, z_c10.ch, List.append_assoc]
