/-! The model writes a field, and finds one by its name. -/
theorem l_lowerM {d : Nat} {h : zH} {ρ : Nat → Nat → Option Nat} {Q : zR → Prop} {f s c : Nat} {x4 x5 : Option Value} (hf : f < 12) (hs : s + c ≤ 240) : ∀ (m i : Nat) (σ : Nat → Nat → Int32) (out : List Int32), i + m = c → σ 49 f = nI c → z_pg σ out → out.length + m ≤ 499 →
    (∀ σ', z_pg σ' (out ++ (z_sl (σ 39) (s + i) m).map z_lw) → z_ep σ' σ → z_E (d + 1) 100 46 [some (.ref 18), some (.int (nI f)), some (.int (nI s)), some (.int (nI c)), x4, x5] [] (z_G h σ' ρ) Q) →
    z_E (d + 1) 100 14 [some (.ref 18), some (.int (nI f)), some (.int (nI s)), some (.int (nI i)), x4, x5] [] (z_G h σ ρ) Q
  | 0, i, σ, out, hi, h49, hP, hl, kk => by
    obtain rfl : i = c := by omega
    have hin : vp_in (nI f) 12 := vp_in_nI hf (by decide)
    have hcl : (nI f).toNatClampNeg = f := nI_clamp (by omega)
    refine e_iload k100_14 (q := 15) rfl rfl ?_
    refine e_aload k100_15 (q := 16) rfl rfl ?_
    refine g_get k100_16 (q := 19) rfl rfl rfl ?_
    refine e_iload k100_19 (q := 20) rfl rfl ?_
    refine g_ald k100_20 (q := 21) rfl rfl (by assumption) ?_
    rw [hcl, h49]
    refine e_ic k100_21 (q := 24) rfl (fun c21 => ?_) (fun c21 => absurd (nI_le (Nat.le_refl _) (by omega)) c21)
    exact kk σ (hP.eq (List.append_nil _).symm) z_ep.rf
  | m + 1, i, σ, out, hi, h49, hP, hl, kk => by
    have hin : vp_in (nI f) 12 := vp_in_nI hf (by decide)
    have hcl : (nI f).toNatClampNeg = f := nI_clamp (by omega)
    have hii : vp_in (nI (s + i)) 240 := vp_in_nI (by omega) (by decide)
    have hci : (nI (s + i)).toNatClampNeg = s + i := nI_clamp (by omega)
    refine e_iload k100_14 (q := 15) rfl rfl ?_
    refine e_aload k100_15 (q := 16) rfl rfl ?_
    refine g_get k100_16 (q := 19) rfl rfl rfl ?_
    refine e_iload k100_19 (q := 20) rfl rfl ?_
    refine g_ald k100_20 (q := 21) rfl rfl (by assumption) ?_
    rw [hcl, h49]
    refine e_ic k100_21 (q := 24) rfl (fun c21 => absurd c21 (nI_ge (show i < c by omega) (by omega))) (fun c21 => ?_)
    refine e_aload k100_24 (q := 25) rfl rfl ?_
    refine e_aload k100_25 (q := 26) rfl rfl ?_
    refine e_aload k100_26 (q := 27) rfl rfl ?_
    refine g_get k100_27 (q := 30) rfl rfl rfl ?_
    refine e_iload k100_30 (q := 31) rfl rfl ?_
    refine e_iload k100_31 (q := 32) rfl rfl ?_
    refine e_ib k100_32 (q := 33) rfl ?_
    rw [nI_add]
    refine g_ald k100_33 (q := 34) rfl rfl hii ?_
    rw [hci]
    refine g_cv k100_34 (q := 37) (as := [_]) rfl rfl rfl rfl (m_small _) rfl (z_ki fun x34 h34 p34 => ?_)
    obtain ⟨rfl, rfl⟩ := p34
    refine g_cv k100_37 (q := 40) (as := [_]) rfl rfl rfl rfl (m_put hP (by omega) _) rfl (z_kv fun h37 p37 => ?_)
    obtain ⟨σ1, rfl, hP1, e1⟩ := p37
    refine e_iinc k100_40 (q := 43) (L' := [_, _, _, some (.int (nI (i + 1))), _, _]) rfl rfl (by rw [nI_1]; rfl) ?_
    refine e_goto k100_43 ?_
    refine l_lowerM hf hs m (i + 1) σ1 _ (by omega) (by rw [e1.1 49 (by decide) (by decide)]; exact h49) hP1 (by rw [List.length_append]; show out.length + 1 + m ≤ 499; omega) (fun σ2 h2 e2 => kk σ2 (h2.eq ?_) (e2.tr e1))
    rw [e1.1 39 (by decide) (by decide), List.append_assoc]
    rfl
theorem l_squeezeM {d : Nat} {h : zH} {ρ : Nat → Nat → Option Nat} {Q : zR → Prop} {f k e base : Nat} {x2 : Option Value} (hf : f < 12) (hk : k < 241) (hb : e ≤ 240) (hbase : base ≤ 499) : ∀ (m i : Nat) (b g : Bool) (σ : Nat → Nat → Int32) (out : List Int32), i + m = e → σ 48 f = nI k → σ 46 k = nI e → (b = true ↔ out.length = base) → base ≤ out.length → z_pg σ out → out.length + m + (if g = true then 1 else 0) ≤ 499 →
    (∀ σ' g', z_pg σ' (out ++ z_sq (σ 39) i b g m) → z_ep σ' σ → z_E (d + 1) 100 157 [some (.ref 18), some (.int (nI f)), x2, some (.int (nI base)), some (.int (z_bi g')), some (.int (nI e))] [] (z_G h σ' ρ) Q) →
    z_E (d + 1) 100 72 [some (.ref 18), some (.int (nI f)), x2, some (.int (nI base)), some (.int (z_bi g)), some (.int (nI i))] [] (z_G h σ ρ) Q
  | 0, i, b, g, σ, out, hi, h48, h46, hbb, hbl, hP, hl, kk => by
    obtain rfl : i = e := by omega
    have hin : vp_in (nI f) 12 := vp_in_nI hf (by decide)
    have hcl : (nI f).toNatClampNeg = f := nI_clamp (by omega)
    have hin2 : vp_in (nI k) 241 := vp_in_nI hk (by decide)
    have hcl2 : (nI k).toNatClampNeg = k := nI_clamp (by omega)
    refine e_iload k100_72 (q := 74) rfl rfl ?_
    refine e_aload k100_74 (q := 75) rfl rfl ?_
    refine g_get k100_75 (q := 78) rfl rfl rfl ?_
    refine e_aload k100_78 (q := 79) rfl rfl ?_
    refine g_get k100_79 (q := 82) rfl rfl rfl ?_
    refine e_iload k100_82 (q := 83) rfl rfl ?_
    refine g_ald k100_83 (q := 84) rfl rfl (by assumption) ?_
    rw [hcl, h48]
    refine g_ald k100_84 (q := 85) rfl rfl hin2 ?_
    rw [hcl2, h46]
    refine e_ic k100_85 (q := 88) rfl (fun c85 => ?_) (fun c85 => absurd (nI_le (Nat.le_refl _) (by omega)) c85)
    exact kk σ g (hP.eq (List.append_nil _).symm) z_ep.rf
  | m + 1, i, b, g, σ, out, hi, h48, h46, hbb, hbl, hP, hl, kk => by
    have hin : vp_in (nI f) 12 := vp_in_nI hf (by decide)
    have hcl : (nI f).toNatClampNeg = f := nI_clamp (by omega)
    have hin2 : vp_in (nI k) 241 := vp_in_nI hk (by decide)
    have hcl2 : (nI k).toNatClampNeg = k := nI_clamp (by omega)
    have hii : vp_in (nI i) 240 := vp_in_nI (by omega) (by decide)
    have hci : (nI i).toNatClampNeg = i := nI_clamp (by omega)
    refine e_iload k100_72 (q := 74) rfl rfl ?_
    refine e_aload k100_74 (q := 75) rfl rfl ?_
    refine g_get k100_75 (q := 78) rfl rfl rfl ?_
    refine e_aload k100_78 (q := 79) rfl rfl ?_
    refine g_get k100_79 (q := 82) rfl rfl rfl ?_
    refine e_iload k100_82 (q := 83) rfl rfl ?_
    refine g_ald k100_83 (q := 84) rfl rfl (by assumption) ?_
    rw [hcl, h48]
    refine g_ald k100_84 (q := 85) rfl rfl hin2 ?_
    rw [hcl2, h46]
    refine e_ic k100_85 (q := 88) rfl (fun c85 => absurd c85 (nI_ge (show i < e by omega) (by omega))) (fun c85 => ?_)
    refine e_aload k100_88 (q := 89) rfl rfl ?_
    refine g_get k100_89 (q := 92) rfl rfl rfl ?_
    refine e_iload k100_92 (q := 94) rfl rfl ?_
    refine g_ald k100_94 (q := 95) rfl rfl hii ?_
    rw [hci]
    refine e_const k100_95 (q := 97) rfl ?_
    refine e_ic k100_97 (q := 100) rfl (fun c97 => ?_) (fun c97 => ?_)
    · refine e_aload k100_106 (q := 107) rfl rfl ?_
      refine g_get k100_107 (q := 110) rfl rfl rfl ?_
      refine e_iload k100_110 (q := 112) rfl rfl ?_
      refine g_ald k100_112 (q := 113) rfl rfl hii ?_
      rw [hci]
      refine e_const k100_113 (q := 115) rfl ?_
      refine e_ic k100_115 (q := 118) rfl (fun c115 => ?_) (fun c115 => ?_)
      · refine e_iinc k100_151 (q := 154) (L' := [_, _, _, _, _, some (.int (nI (i + 1)))]) rfl rfl (by rw [nI_1]; rfl) ?_
        refine e_goto k100_154 ?_
        refine l_squeezeM hf hk hb hbase m (i + 1) b g σ out (by omega) h48 h46 hbb hbl hP (by omega) (fun σ2 g2 h2 e2 => kk σ2 g2 (h2.eq ?_) e2)
        rw [z_sq, if_neg c97, if_pos c115]
      · refine e_iload k100_118 (q := 120) rfl rfl ?_
        refine e_if k100_120 (q := 123) rfl (fun c120 => ?_) (fun c120 => ?_)
        · refine e_const k100_137 (q := 138) rfl ?_
          refine e_ist k100_138 (q := 140) (L' := [_, _, _, _, _, _]) rfl rfl rfl ?_
          refine e_aload k100_140 (q := 141) rfl rfl ?_
          refine e_aload k100_141 (q := 142) rfl rfl ?_
          refine g_get k100_142 (q := 145) rfl rfl rfl ?_
          refine e_iload k100_145 (q := 147) rfl rfl ?_
          refine g_ald k100_147 (q := 148) rfl rfl hii ?_
          rw [hci]
          refine g_cv k100_148 (q := 151) (as := [_]) rfl rfl rfl rfl (m_put hP (by omega) _) rfl (z_kv fun h148 p148 => ?_)
          obtain ⟨σ2, rfl, hP2, e2⟩ := p148
          refine e_iinc k100_151 (q := 154) (L' := [_, _, _, _, _, some (.int (nI (i + 1)))]) rfl rfl (by rw [nI_1]; rfl) ?_
          refine e_goto k100_154 ?_
          refine l_squeezeM hf hk hb hbase m (i + 1) false false σ2 _ (by omega) (by rw [e2.1 48 (by decide) (by decide)]; exact h48) (by rw [e2.1 46 (by decide) (by decide)]; exact h46) (by rw [List.length_append]; show false = true ↔ out.length + 1 = base; exact ⟨fun z => (by cases z), fun z => (by omega)⟩) (by rw [List.length_append]; show base ≤ out.length + 1; omega) hP2 (by rw [List.length_append, if_neg (by decide)]; show out.length + 1 + m + 0 ≤ 499; omega) (fun σ3 g3 h3 e3 => kk σ3 g3 (h3.eq ?_) (e3.tr e2))
          rw [z_sq, if_neg c97, if_neg c115, if_neg (fun z => by rw [z.1] at c120; exact absurd c120 (by decide)), e2.1 39 (by decide) (by decide)]
          simp
        · have hg : g = true := by cases g with
            | true => rfl
            | false => exact absurd rfl c120
          refine e_aload k100_123 (q := 124) rfl rfl ?_
          refine g_get k100_124 (q := 127) rfl rfl rfl ?_
          refine e_iload k100_127 (q := 128) rfl rfl ?_
          refine e_ic k100_128 (q := 131) rfl (fun c128 => ?_) (fun c128 => ?_)
          · have hbt : b = true := hbb.mpr (by
              have c : σ 18 42 ≤ nI base := c128
              rw [hP.1] at c
              have := (nI_leI (by omega) (by omega)).mp c
              omega)
            refine e_const k100_137 (q := 138) rfl ?_
            refine e_ist k100_138 (q := 140) (L' := [_, _, _, _, _, _]) rfl rfl rfl ?_
            refine e_aload k100_140 (q := 141) rfl rfl ?_
            refine e_aload k100_141 (q := 142) rfl rfl ?_
            refine g_get k100_142 (q := 145) rfl rfl rfl ?_
            refine e_iload k100_145 (q := 147) rfl rfl ?_
            refine g_ald k100_147 (q := 148) rfl rfl hii ?_
            rw [hci]
            refine g_cv k100_148 (q := 151) (as := [_]) rfl rfl rfl rfl (m_put hP (by omega) _) rfl (z_kv fun h148 p148 => ?_)
            obtain ⟨σ2, rfl, hP2, e2⟩ := p148
            refine e_iinc k100_151 (q := 154) (L' := [_, _, _, _, _, some (.int (nI (i + 1)))]) rfl rfl (by rw [nI_1]; rfl) ?_
            refine e_goto k100_154 ?_
            refine l_squeezeM hf hk hb hbase m (i + 1) false false σ2 _ (by omega) (by rw [e2.1 48 (by decide) (by decide)]; exact h48) (by rw [e2.1 46 (by decide) (by decide)]; exact h46) (by rw [List.length_append]; show false = true ↔ out.length + 1 = base; exact ⟨fun z => (by cases z), fun z => (by omega)⟩) (by rw [List.length_append]; show base ≤ out.length + 1; omega) hP2 (by rw [List.length_append, if_neg (by decide)]; show out.length + 1 + m + 0 ≤ 499; omega) (fun σ3 g3 h3 e3 => kk σ3 g3 (h3.eq ?_) (e3.tr e2))
            rw [z_sq, if_neg c97, if_neg c115, if_neg (fun z => by rw [hbt] at z; exact absurd z.2 (by decide)), e2.1 39 (by decide) (by decide)]
            simp
          · have hbf : b = false := by
              cases hz : b with
              | false => rfl
              | true => exact absurd (show σ 18 42 ≤ nI base by rw [hP.1, hbb.mp hz]; exact nI_le (Nat.le_refl _) (by omega)) c128
            refine e_aload k100_131 (q := 132) rfl rfl ?_
            refine e_const k100_132 (q := 134) rfl ?_
            refine g_cv k100_134 (q := 137) (as := [_]) rfl rfl rfl rfl (m_put hP (by omega) 32) rfl (z_kv fun h134 p134 => ?_)
            obtain ⟨σ1, rfl, hP1, e1⟩ := p134
            refine e_const k100_137 (q := 138) rfl ?_
            refine e_ist k100_138 (q := 140) (L' := [_, _, _, _, _, _]) rfl rfl rfl ?_
            refine e_aload k100_140 (q := 141) rfl rfl ?_
            refine e_aload k100_141 (q := 142) rfl rfl ?_
            refine g_get k100_142 (q := 145) rfl rfl rfl ?_
            refine e_iload k100_145 (q := 147) rfl rfl ?_
            refine g_ald k100_147 (q := 148) rfl rfl hii ?_
            rw [hci]
            refine g_cv k100_148 (q := 151) (as := [_]) rfl rfl rfl rfl (m_put hP1 (by rw [List.length_append]; show out.length + 1 < 500; rw [hg, if_pos rfl] at hl; omega) _) rfl (z_kv fun h148 p148 => ?_)
            obtain ⟨σ2, rfl, hP2, e2⟩ := p148
            rw [e1.1 39 (by decide) (by decide)] at hP2
            refine e_iinc k100_151 (q := 154) (L' := [_, _, _, _, _, some (.int (nI (i + 1)))]) rfl rfl (by rw [nI_1]; rfl) ?_
            refine e_goto k100_154 ?_
            refine l_squeezeM hf hk hb hbase m (i + 1) false false σ2 _ (by omega) (by rw [(e2.tr e1).1 48 (by decide) (by decide)]; exact h48) (by rw [(e2.tr e1).1 46 (by decide) (by decide)]; exact h46) (by rw [List.length_append, List.length_append]; show false = true ↔ out.length + 1 + 1 = base; exact ⟨fun z => (by cases z), fun z => (by omega)⟩) (by rw [List.length_append, List.length_append]; show base ≤ out.length + 1 + 1; omega) hP2 (by rw [List.length_append, List.length_append, if_neg (by decide)]; show out.length + 1 + 1 + m + 0 ≤ 499; rw [hg, if_pos rfl] at hl; omega) (fun σ3 g3 h3 e3 => kk σ3 g3 (h3.eq ?_) (e3.tr (e2.tr e1)))
            rw [z_sq, if_neg c97, if_neg c115, if_pos ⟨hg, hbf⟩, (e2.tr e1).1 39 (by decide) (by decide)]
            simp
    · refine e_const k100_100 (q := 101) rfl ?_
      refine e_ist k100_101 (q := 103) (L' := [_, _, _, _, _, _]) rfl rfl rfl ?_
      refine e_goto k100_103 ?_
      refine e_iinc k100_151 (q := 154) (L' := [_, _, _, _, _, some (.int (nI (i + 1)))]) rfl rfl (by rw [nI_1]; rfl) ?_
      refine e_goto k100_154 ?_
      refine l_squeezeM hf hk hb hbase m (i + 1) b true σ out (by omega) h48 h46 hbb hbl hP (by rw [if_pos rfl]; omega) (fun σ2 g2 h2 e2 => kk σ2 g2 (h2.eq ?_) e2)
      rw [z_sq, if_pos (Classical.not_not.mp c97)]
theorem m_relaxedField {d : Nat} {h : zH} {ρ : Nat → Nat → Option Nat} {σ : Nat → Nat → Int32} {f k1 k2 : Nat} {x : Nat × Nat × Nat} {out : List Int32} (hf : f < 12) (hk1 : k1 < 241) (hk2 : k2 < 241) (h47 : σ 47 f = nI k1) (h48 : σ 48 f = nI k2) (h49 : σ 49 f = nI (x.2.1 - x.1)) (h45 : σ 45 k1 = nI x.1) (h46 : σ 46 k2 = nI x.2.2) (hx : x.1 < x.2.1 ∧ x.2.1 < x.2.2 ∧ x.2.2 ≤ 240) (hP : z_pg σ out) (hl : out.length + (x.2.2 - x.1) ≤ 499) : z_M (d + 2) 100 [.ref 18, .int (nI f)] (z_G h σ ρ) (z_qv fun h' => ∃ σ', h' = z_G h σ' ρ ∧ z_pg σ' (out ++ z_fo (σ 39) true x) ∧ z_ep σ' σ) := by
  refine z_M.of ⟨Nat.le_of_ble_eq_true rfl, by simp [Value.category]⟩ (L := [some (.ref 18), some (.int (nI f)), none, none, none, none]) rfl ?_
  obtain ⟨b1, b2, b3⟩ := hx
  have hin : vp_in (nI f) 12 := vp_in_nI hf (by decide)
  have hcl : (nI f).toNatClampNeg = f := nI_clamp (by omega)
  have hin2 : vp_in (nI k1) 241 := vp_in_nI hk1 (by decide)
  have hcl2 : (nI k1).toNatClampNeg = k1 := nI_clamp (by omega)
  refine e_aload k100_0 (q := 1) rfl rfl ?_
  refine g_get k100_1 (q := 4) rfl rfl rfl ?_
  refine e_aload k100_4 (q := 5) rfl rfl ?_
  refine g_get k100_5 (q := 8) rfl rfl rfl ?_
  refine e_iload k100_8 (q := 9) rfl rfl ?_
  refine g_ald k100_9 (q := 10) rfl rfl (by assumption) ?_
  rw [hcl, h47]
  refine g_ald k100_10 (q := 11) rfl rfl hin2 ?_
  rw [hcl2, h45]
  refine e_ist k100_11 (q := 12) (L' := [_, _, _, _, _, _]) rfl rfl rfl ?_
  refine e_const k100_12 (q := 13) rfl ?_
  refine e_ist k100_13 (q := 14) (L' := [_, _, _, _, _, _]) rfl rfl rfl ?_
  refine l_lowerM hf (show x.1 + (x.2.1 - x.1) ≤ 240 by omega) (x.2.1 - x.1) 0 σ out (by omega) h49 hP (by omega) (fun σ1 hP1 e1 => ?_)
  rw [Nat.add_zero] at hP1
  have hl1 : (out ++ (z_sl (σ 39) x.1 (x.2.1 - x.1)).map z_lw).length = out.length + (x.2.1 - x.1) := by rw [List.length_append, List.length_map, z_sll]
  refine e_aload k100_46 (q := 47) rfl rfl ?_
  refine e_const k100_47 (q := 49) rfl ?_
  refine g_cv k100_49 (q := 52) (as := [_]) rfl rfl rfl rfl (m_put hP1 (by omega) 58) rfl (z_kv fun h49 p49 => ?_)
  obtain ⟨σ2, rfl, hP2, e2⟩ := p49
  have hl2 : (out ++ (z_sl (σ 39) x.1 (x.2.1 - x.1)).map z_lw ++ [58]).length = out.length + (x.2.1 - x.1) + 1 := by rw [List.length_append, hl1]; rfl
  refine e_aload k100_52 (q := 53) rfl rfl ?_
  refine g_get k100_53 (q := 56) rfl rfl rfl ?_
  rw [show σ2 18 42 = nI (out.length + (x.2.1 - x.1) + 1) by rw [hP2.1, hl2]]
  refine e_ist k100_56 (q := 57) (L' := [_, _, _, _, _, _]) rfl rfl rfl ?_
  refine e_const k100_57 (q := 58) rfl ?_
  refine e_ist k100_58 (q := 60) (L' := [_, _, _, _, _, _]) rfl rfl rfl ?_
  refine e_iload k100_60 (q := 61) rfl rfl ?_
  refine e_aload k100_61 (q := 62) rfl rfl ?_
  refine g_get k100_62 (q := 65) rfl rfl rfl ?_
  refine e_iload k100_65 (q := 66) rfl rfl ?_
  refine g_ald k100_66 (q := 67) rfl rfl (by assumption) ?_
  rw [hcl, e2.1 49 (by decide) (by decide), e1.1 49 (by decide) (by decide), h49]
  refine e_ib k100_67 (q := 68) rfl ?_
  refine e_const k100_68 (q := 69) rfl ?_
  refine e_ib k100_69 (q := 70) rfl ?_
  refine e_ist k100_70 (q := 72) (L' := [_, _, _, _, _, some (.int (nI (x.2.1 + 1)))]) rfl rfl (by rw [nI_add, nI_1, show x.1 + (x.2.1 - x.1) + 1 = x.2.1 + 1 by omega]; rfl) ?_
  refine l_squeezeM hf hk2 (show x.2.2 ≤ 240 by omega) (show out.length + (x.2.1 - x.1) + 1 ≤ 499 by omega) (x.2.2 - (x.2.1 + 1)) (x.2.1 + 1) true false σ2 _ (by omega) (by rw [e2.1 48 (by decide) (by decide), e1.1 48 (by decide) (by decide)]; exact h48) (by rw [e2.1 46 (by decide) (by decide), e1.1 46 (by decide) (by decide)]; exact h46) (by rw [hl2]; exact ⟨fun _ => rfl, fun _ => rfl⟩) (by rw [hl2]; exact Nat.le_refl _) hP2 (by rw [hl2, if_neg (by decide)]; omega) (fun σ3 g3 hP3 e3 => ?_)
  refine e_aload k100_157 (q := 158) rfl rfl ?_
  refine e_const k100_158 (q := 160) rfl ?_
  refine g_cv k100_160 (q := 163) (as := [_]) rfl rfl rfl rfl (m_put hP3 (by have := z_sq_len (σ2 39) (x.2.2 - (x.2.1 + 1)) (x.2.1 + 1) true false; rw [if_neg (by decide)] at this; rw [List.length_append, hl2]; omega) 10) rfl (z_kv fun h160 p160 => ?_)
  obtain ⟨σ4, rfl, hP4, e4⟩ := p160
  refine e_vret k100_163 ?_
  refine ⟨_, rfl, σ4, rfl, hP4.eq ?_, e4.tr (e3.tr (e2.tr e1))⟩
  rw [z_fo, if_pos rfl, e2.1 39 (by decide) (by decide), e1.1 39 (by decide) (by decide)]
  simp
/-- the model's taken fields -/
def z_tt (σ : Nat → Nat → Int32) (c : Nat) (T : Nat → Bool) : Prop := ∀ f, f < c → σ 50 f = z_bi (T f)
theorem l_sameM {d : Nat} {h : zH} {ρ : Nat → Nat → Option Nat} {σ : Nat → Nat → Int32} {Q : zR → Prop} {a w f k1 s : Nat} (hf : f < 12) (hk1 : k1 < 241) (h47 : σ 47 f = nI k1) (h45 : σ 45 k1 = nI s) (haw : a + w ≤ 60) : ∀ (m j : Nat) (c : Bool), j + m = w → (c = true → s + w ≤ 240) →
    (∀ j', z_E (d + 1) 104 103 [some (.ref 18), some (.int (nI a)), some (.int (nI w)), some (.int (nI f)), some (.int (z_bi (c && z_mt (σ 39) (σ 40) (s + j) (a + j) m))), some (.int (nI j'))] [] (z_G h σ ρ) Q) →
    z_E (d + 1) 104 40 [some (.ref 18), some (.int (nI a)), some (.int (nI w)), some (.int (nI f)), some (.int (z_bi c)), some (.int (nI j))] [] (z_G h σ ρ) Q
  | 0, j, c, hj, hs, kk => by
    rw [z_mt, Bool.and_true] at kk
    refine e_iload k104_40 (q := 42) rfl rfl ?_
    refine e_iload k104_42 (q := 43) rfl rfl ?_
    refine e_ic k104_43 (q := 46) rfl (fun c43 => ?_) (fun c43 => absurd (nI_le (show w ≤ j by omega) (by omega)) c43)
    exact kk j
  | m + 1, j, c, hj, hs, kk => by
    have hin : vp_in (nI f) 12 := vp_in_nI hf (by decide)
    have hcl : (nI f).toNatClampNeg = f := nI_clamp (by omega)
    have hin2 : vp_in (nI k1) 241 := vp_in_nI hk1 (by decide)
    have hcl2 : (nI k1).toNatClampNeg = k1 := nI_clamp (by omega)
    have hia : vp_in (nI (a + j)) 60 := vp_in_nI (by omega) (by decide)
    have hca : (nI (a + j)).toNatClampNeg = a + j := nI_clamp (by omega)
    refine e_iload k104_40 (q := 42) rfl rfl ?_
    refine e_iload k104_42 (q := 43) rfl rfl ?_
    refine e_ic k104_43 (q := 46) rfl (fun c43 => absurd c43 (nI_ge (show j < w by omega) (by omega))) (fun c43 => ?_)
    refine e_iload k104_46 (q := 48) rfl rfl ?_
    refine e_if k104_48 (q := 51) rfl (fun c48 => ?_) (fun c48 => ?_)
    · obtain rfl : c = false := by cases c with
        | false => rfl
        | true => exact absurd c48 (by decide)
      exact kk j
    · obtain rfl : c = true := by cases c with
        | true => rfl
        | false => exact absurd rfl c48
      have hs := hs rfl
      have his : vp_in (nI (s + j)) 240 := vp_in_nI (by omega) (by decide)
      have hcs : (nI (s + j)).toNatClampNeg = s + j := nI_clamp (by omega)
      refine e_aload k104_51 (q := 52) rfl rfl ?_
      refine e_aload k104_52 (q := 53) rfl rfl ?_
      refine g_get k104_53 (q := 56) rfl rfl rfl ?_
      refine e_iload k104_56 (q := 57) rfl rfl ?_
      refine e_iload k104_57 (q := 59) rfl rfl ?_
      refine e_ib k104_59 (q := 60) rfl ?_
      rw [nI_add]
      refine g_ald k104_60 (q := 61) rfl rfl hia ?_
      rw [hca]
      refine g_cv k104_61 (q := 64) (as := [_]) rfl rfl rfl rfl (m_small _) rfl (z_ki fun x61 h61 p61 => ?_)
      obtain ⟨rfl, rfl⟩ := p61
      refine e_aload k104_64 (q := 65) rfl rfl ?_
      refine e_aload k104_65 (q := 66) rfl rfl ?_
      refine g_get k104_66 (q := 69) rfl rfl rfl ?_
      refine e_aload k104_69 (q := 70) rfl rfl ?_
      refine g_get k104_70 (q := 73) rfl rfl rfl ?_
      refine e_aload k104_73 (q := 74) rfl rfl ?_
      refine g_get k104_74 (q := 77) rfl rfl rfl ?_
      refine e_iload k104_77 (q := 78) rfl rfl ?_
      refine g_ald k104_78 (q := 79) rfl rfl (by assumption) ?_
      rw [hcl, h47]
      refine g_ald k104_79 (q := 80) rfl rfl hin2 ?_
      rw [hcl2, h45]
      refine e_iload k104_80 (q := 82) rfl rfl ?_
      refine e_ib k104_82 (q := 83) rfl ?_
      rw [nI_add]
      refine g_ald k104_83 (q := 84) rfl rfl his ?_
      rw [hcs]
      refine g_cv k104_84 (q := 87) (as := [_]) rfl rfl rfl rfl (m_small _) rfl (z_ki fun x84 h84 p84 => ?_)
      obtain ⟨rfl, rfl⟩ := p84
      refine e_ic k104_87 (q := 90) rfl (fun c87 => ?_) (fun c87 => ?_)
      · refine e_const k104_94 (q := 95) rfl ?_
        refine e_ist k104_95 (q := 97) (L' := [_, _, _, _, _, _]) rfl rfl rfl ?_
        refine e_iinc k104_97 (q := 100) (L' := [_, _, _, _, _, some (.int (nI (j + 1)))]) rfl rfl (by rw [nI_1]; rfl) ?_
        refine e_goto k104_100 ?_
        refine l_sameM hf hk1 h47 h45 haw m (j + 1) false (by omega) (fun _ => hs) (fun j2 => ?_)
        have := kk j2
        rw [z_mt, decide_eq_false (fun z => c87 z.symm)] at this
        exact this
      · refine e_const k104_90 (q := 91) rfl ?_
        refine e_goto k104_91 ?_
        refine e_ist k104_95 (q := 97) (L' := [_, _, _, _, _, _]) rfl rfl rfl ?_
        refine e_iinc k104_97 (q := 100) (L' := [_, _, _, _, _, some (.int (nI (j + 1)))]) rfl rfl (by rw [nI_1]; rfl) ?_
        refine e_goto k104_100 ?_
        refine l_sameM hf hk1 h47 h45 haw m (j + 1) true (by omega) (fun _ => hs) (fun j2 => ?_)
        have := kk j2
        rw [z_mt, decide_eq_true (Classical.not_not.mp c87).symm, Bool.true_and] at this
        exact this
theorem l_takeM {d : Nat} {h : zH} {ρ : Nat → Nat → Option Nat} {σ : Nat → Nat → Int32} {n a w c K : Nat} {A : List (Nat × Nat)} {T : Nat → Bool} (hn : n ≤ 240) (hL : z_la σ A) (hA : A.length ≤ 241) (hK : K ≤ A.length) (hTt : z_tt σ c T) (hc : c ≤ 12) (haw : a + w ≤ 60) :
    ∀ (r : List (Nat × Nat × Nat)) (x4 x5 : Option Value), z_ga σ A K r → z_fb n r → r.length ≤ c →
    z_E (d + 1) 104 7 [some (.ref 18), some (.int (nI a)), some (.int (nI w)), some (.int (nI r.length - 1)), x4, x5] [] (z_G h σ ρ) (z_qi fun x h' => h' = z_G h σ ρ ∧ match z_tk (σ 39) (σ 40) a (a + w) T r with
      | none => x = -1
      | some i => x = nI i)
  | [], x4, x5, hG, hB, hl => by
    refine e_iload k104_7 (q := 8) rfl rfl ?_
    refine e_if k104_8 (q := 11) rfl (fun c8 => ?_) (fun c8 => absurd (by decide) c8)
    refine e_const k104_116 (q := 117) rfl ?_
    refine e_iret k104_117 ⟨_, rfl⟩ ?_
    exact ⟨_, _, rfl, rfl, rfl⟩
  | x :: r, x4, x5, hG, hB, hl => by
    rw [List.length_cons] at hl
    rw [List.length_cons, nI_pred]
    obtain ⟨⟨k1, k2, g1, g2, g3, g4, g5, g6⟩, g7, g8⟩ := hG
    obtain ⟨b1, b2, b3⟩ := hB x List.mem_cons_self
    have hB' : z_fb n r := fun y hy => hB y (List.mem_cons_of_mem _ hy)
    have hin : vp_in (nI r.length) 12 := vp_in_nI (by omega) (by decide)
    have hcl : (nI r.length).toNatClampNeg = r.length := nI_clamp (by omega)
    have ht := hTt r.length (by omega)
    have h45 : σ 45 k1 = nI x.1 := by rw [(hL.2 k1 (by omega)).1, g5]
    refine e_iload k104_7 (q := 8) rfl rfl ?_
    refine e_if k104_8 (q := 11) rfl (fun c8 => absurd c8 (nI_pos (by omega))) (fun c8 => ?_)
    refine e_aload k104_11 (q := 12) rfl rfl ?_
    refine g_get k104_12 (q := 15) rfl rfl rfl ?_
    refine e_iload k104_15 (q := 16) rfl rfl ?_
    refine g_ald k104_16 (q := 17) rfl rfl (by assumption) ?_
    rw [hcl, ht]
    refine e_if k104_17 (q := 20) rfl (fun c17 => ?_) (fun c17 => ?_)
    · refine e_const k104_34 (q := 35) rfl ?_
      refine e_ist k104_35 (q := 37) (L' := [_, _, _, _, _, _]) rfl rfl rfl ?_
      refine e_const k104_37 (q := 38) rfl ?_
      refine e_ist k104_38 (q := 40) (L' := [_, _, _, _, _, _]) rfl rfl rfl ?_
      refine l_sameM (show r.length < 12 by omega) (show k1 < 241 by omega) g1 h45 haw w 0 false (by omega) (fun z => by cases z) (fun j' => ?_)
      simp only [Nat.add_zero]
      refine e_iload k104_103 (q := 105) rfl rfl ?_
      refine e_if k104_105 (q := 108) rfl (fun c105 => ?_) (fun c105 => absurd (by rw [Bool.false_and]; rfl) c105)
      refine e_iinc k104_110 (q := 113) (L' := [_, _, _, some (.int (nI r.length - 1)), _, _]) rfl rfl (by rw [Int32.sub_eq_add_neg]; rfl) ?_
      refine e_goto k104_113 ?_
      refine (l_takeM hn hL hA hK hTt hc haw r _ _ g8 hB' (by omega)).mono ?_
      rintro q ⟨y, h', rfl, rfl, h2⟩
      refine ⟨_, _, rfl, rfl, ?_⟩
      rw [z_tk, if_neg]
      · exact h2
      · rintro ⟨z, -⟩
        exact c17 (by rw [z]; rfl)
    · have htf : T r.length = false := by
        cases hz : T r.length with
        | false => rfl
        | true => rw [hz] at c17; exact absurd (by decide) c17
      refine e_aload k104_20 (q := 21) rfl rfl ?_
      refine g_get k104_21 (q := 24) rfl rfl rfl ?_
      refine e_iload k104_24 (q := 25) rfl rfl ?_
      refine g_ald k104_25 (q := 26) rfl rfl (by assumption) ?_
      refine e_iload k104_26 (q := 27) rfl rfl ?_
      rw [hcl, g7]
      refine e_ic k104_27 (q := 30) rfl (fun c27 => ?_) (fun c27 => ?_)
      · have hlen : ¬ x.2.1 - x.1 = w := fun z => c27 (by rw [z])
        refine e_const k104_34 (q := 35) rfl ?_
        refine e_ist k104_35 (q := 37) (L' := [_, _, _, _, _, _]) rfl rfl rfl ?_
        refine e_const k104_37 (q := 38) rfl ?_
        refine e_ist k104_38 (q := 40) (L' := [_, _, _, _, _, _]) rfl rfl rfl ?_
        refine l_sameM (show r.length < 12 by omega) (show k1 < 241 by omega) g1 h45 haw w 0 false (by omega) (fun z => by cases z) (fun j' => ?_)
        simp only [Nat.add_zero]
        refine e_iload k104_103 (q := 105) rfl rfl ?_
        refine e_if k104_105 (q := 108) rfl (fun c105 => ?_) (fun c105 => absurd (by rw [Bool.false_and]; rfl) c105)
        refine e_iinc k104_110 (q := 113) (L' := [_, _, _, some (.int (nI r.length - 1)), _, _]) rfl rfl (by rw [Int32.sub_eq_add_neg]; rfl) ?_
        refine e_goto k104_113 ?_
        refine (l_takeM hn hL hA hK hTt hc haw r _ _ g8 hB' (by omega)).mono ?_
        rintro q ⟨y, h', rfl, rfl, h2⟩
        refine ⟨_, _, rfl, rfl, ?_⟩
        rw [z_tk, if_neg]
        · exact h2
        · rintro ⟨-, z⟩
          rw [Nat.add_sub_cancel_left, decide_eq_false hlen, Bool.false_and] at z
          cases z
      · have hlen : x.2.1 - x.1 = w := (nI_eq (by omega) (by omega)).mp (Classical.not_not.mp c27)
        refine e_const k104_30 (q := 31) rfl ?_
        refine e_goto k104_31 ?_
        refine e_ist k104_35 (q := 37) (L' := [_, _, _, _, _, _]) rfl rfl rfl ?_
        refine e_const k104_37 (q := 38) rfl ?_
        refine e_ist k104_38 (q := 40) (L' := [_, _, _, _, _, _]) rfl rfl rfl ?_
        refine l_sameM (show r.length < 12 by omega) (show k1 < 241 by omega) g1 h45 haw w 0 true (by omega) (fun _ => by omega) (fun j' => ?_)
        simp only [Nat.add_zero, Bool.true_and]
        refine e_iload k104_103 (q := 105) rfl rfl ?_
        refine e_if k104_105 (q := 108) rfl (fun c105 => ?_) (fun c105 => ?_)
        · refine e_iinc k104_110 (q := 113) (L' := [_, _, _, some (.int (nI r.length - 1)), _, _]) rfl rfl (by rw [Int32.sub_eq_add_neg]; rfl) ?_
          refine e_goto k104_113 ?_
          refine (l_takeM hn hL hA hK hTt hc haw r _ _ g8 hB' (by omega)).mono ?_
          rintro q ⟨y, h', rfl, rfl, h2⟩
          refine ⟨_, _, rfl, rfl, ?_⟩
          rw [z_tk, if_neg]
          · exact h2
          · rintro ⟨-, z⟩
            rw [Nat.add_sub_cancel_left, decide_eq_true hlen, Bool.true_and] at z
            rw [z] at c105
            exact absurd c105 (by decide)
        · refine e_iload k104_108 (q := 109) rfl rfl ?_
          refine e_iret k104_109 ⟨_, rfl⟩ ?_
          refine ⟨_, _, rfl, rfl, ?_⟩
          have hm : z_mt (σ 39) (σ 40) x.1 a w = true := by
            cases hz : z_mt (σ 39) (σ 40) x.1 a w with
            | true => rfl
            | false => rw [hz] at c105; exact absurd rfl c105
          rw [z_tk, if_pos ⟨htf, by rw [Nat.add_sub_cancel_left, decide_eq_true hlen, hm]; rfl⟩]
theorem m_takeM {d : Nat} {h : zH} {ρ : Nat → Nat → Option Nat} {σ : Nat → Nat → Int32} {n a w K : Nat} {A : List (Nat × Nat)} {F : List (Nat × Nat × Nat)} {T : Nat → Bool} (hn : n ≤ 240) (hL : z_la σ A) (hA : A.length ≤ 241) (hK : K ≤ A.length) (hG : z_gl σ A K F) (hB : z_fb n F) (hTt : z_tt σ F.length T) (haw : a + w ≤ 60) : z_M (d + 2) 104 [.ref 18, .int (nI a), .int (nI w)] (z_G h σ ρ) (z_qi fun x h' => h' = z_G h σ ρ ∧ match z_tk (σ 39) (σ 40) a (a + w) T F with
      | none => x = -1
      | some i => x = nI i) := by
  refine z_M.of ⟨Nat.le_of_ble_eq_true rfl, by simp [Value.category]⟩ (L := [some (.ref 18), some (.int (nI a)), some (.int (nI w)), none, none, none]) rfl ?_
  refine e_aload k104_0 (q := 1) rfl rfl ?_
  refine g_get k104_1 (q := 4) rfl rfl rfl ?_
  refine e_const k104_4 (q := 5) rfl ?_
  refine e_ib k104_5 (q := 6) rfl ?_
  rw [hG.1]
  refine e_ist k104_6 (q := 7) (L' := [_, _, _, _, _, _]) rfl rfl rfl ?_
  exact l_takeM hn hL hA hK hTt hG.2.1 haw F _ _ hG.2.2 hB (Nat.le_refl _)
