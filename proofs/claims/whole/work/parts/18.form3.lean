/-! The class writes the relaxed body. -/
theorem z_sq_len (t : Nat → Int32) : ∀ (m i : Nat) (b g : Bool), (z_sq t i b g m).length ≤ m + (if g = true then 1 else 0)
  | 0, i, b, g => by unfold z_sq; exact Nat.zero_le _
  | m + 1, i, b, g => by
    unfold z_sq
    split
    · have := z_sq_len t m (i + 1) b true
      rw [if_pos rfl] at this
      omega
    · split
      · have := z_sq_len t m (i + 1) b g
        omega
      · have := z_sq_len t m (i + 1) false false
        rw [if_neg (by decide)] at this
        rw [List.length_append, List.length_cons]
        by_cases hg : g = true
        · rw [if_pos hg]
          split
          · rw [List.length_cons, List.length_nil]; omega
          · rw [List.length_nil]; omega
        · rw [if_neg hg, if_neg (fun z => hg z.1), List.length_nil]
          omega
theorem m_cut {d : Nat} {h : zH} {σ : Nat → Nat → Int32} {ρ : Nat → Nat → Option Nat} {t a n k c : Nat} (T : z_tx t a n) (hk : σ t 1 = nI k) (hkn : k ≤ n) (hc : c ≤ k) : z_M (d + 1) 63 [.ref t, .int (nI c)] (z_G h σ ρ) (z_qv fun h' => h' = z_G h (z_us σ t (upd (σ t) 1 (nI c))) ρ) := by
  refine z_M.of ⟨Nat.le_of_ble_eq_true rfl, by simp [Value.category]⟩ (L := [some (.ref t), some (.int (nI c))]) rfl ?_
  have hn := T.2.2.2
  refine e_iload k63_0 (q := 1) rfl rfl ?_
  refine e_if k63_1 (q := 4) rfl (fun c1 => absurd c1 (nI_pos (by omega))) (fun c1 => ?_)
  refine e_iload k63_4 (q := 5) rfl rfl ?_
  refine e_aload k63_5 (q := 6) rfl rfl ?_
  refine g_get k63_6 (q := 9) rfl (T.1 _ _) rfl ?_
  refine e_ic k63_9 (q := 12) rfl (fun c9 => ?_) (fun c9 => ?_)
  · rw [hk] at c9
    refine e_vret k63_17 ?_
    refine ⟨_, rfl, ?_⟩
    have h0 : c = k := by
      have := (nI_leI (by omega) (by omega)).mp c9
      omega
    have e : z_us σ t (upd (σ t) 1 (nI c)) = σ := by
      funext j
      by_cases ej : j = t
      · subst ej
        rw [z_us_eq]
        funext i
        by_cases ei : i = 1
        · subst ei; rw [hk, h0]; exact if_pos rfl
        · exact if_neg ei
      · exact z_us_ne _ _ ej
    rw [e]
  · refine e_aload k63_12 (q := 13) rfl rfl ?_
    refine e_iload k63_13 (q := 14) rfl rfl ?_
    refine g_put k63_14 (q := 17) rfl (T.1 _ _) ⟨_, rfl⟩ (T.1 _ _) ?_
    refine e_vret k63_17 ?_
    exact ⟨_, rfl, rfl⟩
/-- the relaxed body's lines written one by one (out); keep: what stands behind the last line that isn't empty -/
def z_rb (t : Nat → Int32) (n : Nat) : Nat → Nat → Nat → List Int32 → List Int32 → List Int32
  | 0, _, _, _, keep => keep
  | m + 1, i, s, out, keep => if i = n ∨ t i = 10 then z_rb t n m (i + 1) (i + 1) (out ++ z_sq t s false false (i - s) ++ [10]) (if z_sq t s false false (i - s) = [] then keep else out ++ z_sq t s false false (i - s) ++ [10]) else z_rb t n m (i + 1) s out keep
theorem z_cs.size {σ : Nat → Nat → Int32} {out : List Int32} (h : z_cs σ out) (hl : out.length ≤ 242) : σ 13 1 = nI out.length := by
  rw [h.1, show min out.length 242 = out.length by omega]
theorem l_relaxedBody {d : Nat} {h : zH} {ρ : Nat → Nat → Option Nat} {P : zH → Prop} {n : Nat} : ∀ (m i s : Nat) (σ : Nat → Nat → Int32) (out keep rest : List Int32) (x4 x5 : Option Value), i + m = n + 1 → s ≤ i → z_tm σ n → z_cs σ out → out.length ≤ 242 → (i ≤ n → out.length + (n - s) + 1 ≤ 242) → out = keep ++ rest →
    (∀ σ', z_cs σ' (z_rb (σ 7) n m i s out keep) → z_eq σ' σ → P (z_G h σ' ρ)) →
    z_E (d + 2) 53 18 [some (.ref 4), some (.int (nI keep.length)), some (.int (nI s)), some (.int (nI i)), x4, x5] [] (z_G h σ ρ) (z_qv P)
  | 0, i, s, σ, out, keep, rest, x4, x5, hi, hs, hT, hC, hl, hcap, hkp, kk => by
    have hn := hT.2.1
    have hkl : keep.length ≤ out.length := by rw [hkp, List.length_append]; omega
    rw [show z_rb (σ 7) n 0 i s out keep = keep from rfl] at kk
    refine e_iload k53_18 (q := 19) rfl rfl ?_
    refine e_aload k53_19 (q := 20) rfl rfl ?_
    refine g_get k53_20 (q := 23) rfl rfl rfl ?_
    refine g_get k53_23 (q := 26) rfl rfl rfl ?_
    refine g_get k53_26 (q := 29) rfl rfl rfl ?_
    refine e_ic k53_29 (q := 32) rfl (fun c29 => ?_) (fun c29 => absurd (by show σ 6 1 < nI i; rw [hT.1]; exact nI_lt (by omega) (by omega)) c29)
    refine e_aload k53_134 (q := 135) rfl rfl ?_
    refine g_get k53_135 (q := 138) rfl rfl rfl ?_
    refine e_iload k53_138 (q := 139) rfl rfl ?_
    refine g_cv k53_139 (q := 142) (as := [_]) rfl rfl rfl rfl (m_cut z_tx13 (hC.size hl) (by omega) hkl) rfl (z_kv fun h139 p139 => ?_)
    obtain rfl := p139
    refine e_vret k53_142 ?_
    refine ⟨_, rfl, kk _ ?_ ?_⟩
    · refine ⟨?_, fun j hj => ?_⟩
      · rw [z_us_eq, show min keep.length 242 = keep.length by omega]
        exact if_pos rfl
      · rw [z_us_ne _ _ (by decide), hC.2 j (by omega), List.getD_eq_getElem?_getD, List.getD_eq_getElem?_getD, hkp, List.getElem?_append_left (by omega)]
    · intro k h1 h2
      exact z_us_ne _ _ h1
  | m + 1, i, s, σ, out, keep, rest, x4, x5, hi, hs, hT, hC, hl, hcap, hkp, kk => by
    have hn := hT.2.1
    have hcap := hcap (by omega)
    have hkl : keep.length ≤ out.length := by rw [hkp, List.length_append]; omega
    have hq := z_sq_len (σ 7) (i - s) s false false
    rw [if_neg (by decide)] at hq
    refine e_iload k53_18 (q := 19) rfl rfl ?_
    refine e_aload k53_19 (q := 20) rfl rfl ?_
    refine g_get k53_20 (q := 23) rfl rfl rfl ?_
    refine g_get k53_23 (q := 26) rfl rfl rfl ?_
    refine g_get k53_26 (q := 29) rfl rfl rfl ?_
    refine e_ic k53_29 (q := 32) rfl (fun c29 => absurd c29 (by show ¬ σ 6 1 < nI i; rw [hT.1]; exact nI_nlt (by omega) (by omega))) (fun c29 => ?_)
    refine e_iload k53_32 (q := 33) rfl rfl ?_
    refine e_aload k53_33 (q := 34) rfl rfl ?_
    refine g_get k53_34 (q := 37) rfl rfl rfl ?_
    refine g_get k53_37 (q := 40) rfl rfl rfl ?_
    refine g_get k53_40 (q := 43) rfl rfl rfl ?_
    refine e_ic k53_43 (q := 46) rfl (fun c43 => ?_) (fun c43 => ?_)
    · have hin : i = n := (nI_eq (by omega) (by omega)).mp (by rw [← hT.1]; exact c43)
      refine e_aload k53_62 (q := 63) rfl rfl ?_
      refine g_get k53_63 (q := 66) rfl rfl rfl ?_
      refine g_get k53_66 (q := 69) rfl rfl rfl ?_
      refine e_ist k53_69 (q := 71) (L' := [_, _, _, _, _, _]) rfl rfl rfl ?_
      refine e_aload k53_71 (q := 72) rfl rfl ?_
      refine e_iload k53_72 (q := 73) rfl rfl ?_
      refine e_iload k53_73 (q := 74) rfl rfl ?_
      refine e_const k53_74 (q := 75) rfl ?_
      refine g_cv k53_75 (q := 78) (as := [_, _, _]) rfl rfl rfl rfl (m_squeeze false hT hC hs (show i ≤ n by omega)) rfl (z_kv fun h75 p75 => ?_)
      obtain ⟨σ1, rfl, hC1, e1⟩ := p75
      have hl1 : (out ++ z_sq (σ 7) s false false (i - s)).length ≤ 242 := by rw [List.length_append]; omega
      have s1 := hC1.size hl1
      have s0 := hC.size hl
      rw [List.length_append] at s1
      refine e_aload k53_78 (q := 79) rfl rfl ?_
      refine g_get k53_79 (q := 82) rfl rfl rfl ?_
      refine g_get k53_82 (q := 85) rfl rfl rfl ?_
      refine e_iload k53_85 (q := 87) rfl rfl ?_
      refine e_ic k53_87 (q := 90) rfl (fun c87 => ?_) (fun c87 => ?_)
      · have hem : ¬ z_sq (σ 7) s false false (i - s) = [] := fun z => c87 (by
          show σ1 13 1 = σ 13 1
          rw [s1, s0, z]; rfl)
        refine e_const k53_94 (q := 95) rfl ?_
        refine e_ist k53_95 (q := 97) (L' := [_, _, _, _, _, _]) rfl rfl rfl ?_
        refine e_aload k53_97 (q := 98) rfl rfl ?_
        refine g_get k53_98 (q := 101) rfl rfl rfl ?_
        refine e_const k53_101 (q := 103) rfl ?_
        refine g_cv k53_103 (q := 106) (as := [_]) rfl rfl rfl rfl (m_app hC1 10) rfl (z_ki fun x103 h103 p103 => ?_)
        obtain ⟨σ2, rfl, hC2, e2⟩ := p103
        rw [z_c10.ch] at hC2
        have s2 := hC2.size (show (out ++ z_sq (σ 7) s false false (i - s) ++ [10]).length ≤ 242 by rw [List.length_append, List.length_append]; show out.length + _ + 1 ≤ 242; omega)
        refine e_pop k53_106 (q := 107) rfl rfl ?_
        refine e_iload k53_107 (q := 109) rfl rfl ?_
        refine e_if k53_109 (q := 112) rfl (fun c109 => ?_) (fun c109 => absurd rfl c109)
        refine e_aload k53_116 (q := 117) rfl rfl ?_
        refine g_get k53_117 (q := 120) rfl rfl rfl ?_
        refine g_get k53_120 (q := 123) rfl rfl rfl ?_
        rw [show σ2 13 1 = nI (out ++ z_sq (σ 7) s false false (i - s) ++ [10]).length from s2]
        refine e_ist k53_123 (q := 124) (L' := [_, _, _, _, _, _]) rfl rfl rfl ?_
        refine e_iload k53_124 (q := 125) rfl rfl ?_
        refine e_const k53_125 (q := 126) rfl ?_
        refine e_ib k53_126 (q := 127) rfl ?_
        refine e_ist k53_127 (q := 128) (L' := [_, _, some (.int (nI (i + 1))), _, _, _]) rfl rfl (by rw [nI_1]; rfl) ?_
        refine e_iinc k53_128 (q := 131) (L' := [_, _, _, some (.int (nI (i + 1))), _, _]) rfl rfl (by rw [nI_1]; rfl) ?_
        refine e_goto k53_131 ?_
        refine l_relaxedBody m (i + 1) (i + 1) σ2 (out ++ z_sq (σ 7) s false false (i - s) ++ [10]) (out ++ z_sq (σ 7) s false false (i - s) ++ [10]) [] _ _ (by omega) (Nat.le_refl _) ((hT.eq e1).eq e2) hC2 ?_ ?_ ?_ (fun σ3 h3 e3 => kk σ3 (h3.eq ?_) (e3.tr (e2.tr e1)))
        · rw [List.length_append, List.length_append]
          show out.length + _ + 1 ≤ 242
          omega
        · intro _
          rw [List.length_append, List.length_append]
          show out.length + _ + 1 + (n - (i + 1)) + 1 ≤ 242
          omega
        · rw [List.append_nil]
        · rw [(e2.tr e1) 7 (by decide) (by decide), z_rb, if_pos (Or.inl hin), if_neg hem]
      · have hem : z_sq (σ 7) s false false (i - s) = [] := by
          have c : σ1 13 1 = σ 13 1 := Classical.not_not.mp c87
          rw [s1, s0] at c
          have := (nI_eq (by omega) (by omega)).mp c
          exact List.eq_nil_of_length_eq_zero (by omega)
        refine e_const k53_90 (q := 91) rfl ?_
        refine e_goto k53_91 ?_
        refine e_ist k53_95 (q := 97) (L' := [_, _, _, _, _, _]) rfl rfl rfl ?_
        refine e_aload k53_97 (q := 98) rfl rfl ?_
        refine g_get k53_98 (q := 101) rfl rfl rfl ?_
        refine e_const k53_101 (q := 103) rfl ?_
        refine g_cv k53_103 (q := 106) (as := [_]) rfl rfl rfl rfl (m_app hC1 10) rfl (z_ki fun x103 h103 p103 => ?_)
        obtain ⟨σ2, rfl, hC2, e2⟩ := p103
        rw [z_c10.ch] at hC2
        have s2 := hC2.size (show (out ++ z_sq (σ 7) s false false (i - s) ++ [10]).length ≤ 242 by rw [List.length_append, List.length_append]; show out.length + _ + 1 ≤ 242; omega)
        refine e_pop k53_106 (q := 107) rfl rfl ?_
        refine e_iload k53_107 (q := 109) rfl rfl ?_
        refine e_if k53_109 (q := 112) rfl (fun c109 => absurd c109 (by decide)) (fun c109 => ?_)
        refine e_iload k53_112 (q := 113) rfl rfl ?_
        refine e_goto k53_113 ?_
        skip
        refine e_ist k53_123 (q := 124) (L' := [_, _, _, _, _, _]) rfl rfl rfl ?_
        refine e_iload k53_124 (q := 125) rfl rfl ?_
        refine e_const k53_125 (q := 126) rfl ?_
        refine e_ib k53_126 (q := 127) rfl ?_
        refine e_ist k53_127 (q := 128) (L' := [_, _, some (.int (nI (i + 1))), _, _, _]) rfl rfl (by rw [nI_1]; rfl) ?_
        refine e_iinc k53_128 (q := 131) (L' := [_, _, _, some (.int (nI (i + 1))), _, _]) rfl rfl (by rw [nI_1]; rfl) ?_
        refine e_goto k53_131 ?_
        refine l_relaxedBody m (i + 1) (i + 1) σ2 (out ++ z_sq (σ 7) s false false (i - s) ++ [10]) keep (rest ++ z_sq (σ 7) s false false (i - s) ++ [10]) _ _ (by omega) (Nat.le_refl _) ((hT.eq e1).eq e2) hC2 ?_ ?_ ?_ (fun σ3 h3 e3 => kk σ3 (h3.eq ?_) (e3.tr (e2.tr e1)))
        · rw [List.length_append, List.length_append]
          show out.length + _ + 1 ≤ 242
          omega
        · intro _
          rw [List.length_append, List.length_append]
          show out.length + _ + 1 + (n - (i + 1)) + 1 ≤ 242
          omega
        · rw [hkp]; simp
        · rw [(e2.tr e1) 7 (by decide) (by decide), z_rb, if_pos (Or.inl hin), if_pos hem]
    · have hin : i < n := by
        rcases Nat.lt_or_ge i n with z | z
        · exact z
        · exact absurd (show nI i = σ 6 1 by rw [hT.1, show i = n by omega]) c43
      refine e_aload k53_46 (q := 47) rfl rfl ?_
      refine g_get k53_47 (q := 50) rfl rfl rfl ?_
      refine g_get k53_50 (q := 53) rfl rfl rfl ?_
      refine e_iload k53_53 (q := 54) rfl rfl ?_
      refine g_cv k53_54 (q := 57) (as := [_]) rfl rfl rfl rfl (m_codeT hT hin) rfl (z_ki fun x54 h54 p54 => ?_)
      obtain ⟨rfl, rfl⟩ := p54
      refine e_const k53_57 (q := 59) rfl ?_
      refine e_ic k53_59 (q := 62) rfl (fun c59 => ?_) (fun c59 => ?_)
      · refine e_iinc k53_128 (q := 131) (L' := [_, _, _, some (.int (nI (i + 1))), _, _]) rfl rfl (by rw [nI_1]; rfl) ?_
        refine e_goto k53_131 ?_
        refine l_relaxedBody m (i + 1) s σ out keep rest _ _ (by omega) (by omega) hT hC hl (fun _ => by omega) hkp (fun σ3 h3 e3 => kk σ3 (h3.eq ?_) e3)
        rw [z_rb, if_neg]
        rintro (z | z)
        · exact c43 (by rw [z]; exact hT.1.symm)
        · exact c59 z
      · refine e_aload k53_62 (q := 63) rfl rfl ?_
        refine g_get k53_63 (q := 66) rfl rfl rfl ?_
        refine g_get k53_66 (q := 69) rfl rfl rfl ?_
        refine e_ist k53_69 (q := 71) (L' := [_, _, _, _, _, _]) rfl rfl rfl ?_
        refine e_aload k53_71 (q := 72) rfl rfl ?_
        refine e_iload k53_72 (q := 73) rfl rfl ?_
        refine e_iload k53_73 (q := 74) rfl rfl ?_
        refine e_const k53_74 (q := 75) rfl ?_
        refine g_cv k53_75 (q := 78) (as := [_, _, _]) rfl rfl rfl rfl (m_squeeze false hT hC hs (show i ≤ n by omega)) rfl (z_kv fun h75 p75 => ?_)
        obtain ⟨σ1, rfl, hC1, e1⟩ := p75
        have hl1 : (out ++ z_sq (σ 7) s false false (i - s)).length ≤ 242 := by rw [List.length_append]; omega
        have s1 := hC1.size hl1
        have s0 := hC.size hl
        rw [List.length_append] at s1
        refine e_aload k53_78 (q := 79) rfl rfl ?_
        refine g_get k53_79 (q := 82) rfl rfl rfl ?_
        refine g_get k53_82 (q := 85) rfl rfl rfl ?_
        refine e_iload k53_85 (q := 87) rfl rfl ?_
        refine e_ic k53_87 (q := 90) rfl (fun c87 => ?_) (fun c87 => ?_)
        · have hem : ¬ z_sq (σ 7) s false false (i - s) = [] := fun z => c87 (by
            show σ1 13 1 = σ 13 1
            rw [s1, s0, z]; rfl)
          refine e_const k53_94 (q := 95) rfl ?_
          refine e_ist k53_95 (q := 97) (L' := [_, _, _, _, _, _]) rfl rfl rfl ?_
          refine e_aload k53_97 (q := 98) rfl rfl ?_
          refine g_get k53_98 (q := 101) rfl rfl rfl ?_
          refine e_const k53_101 (q := 103) rfl ?_
          refine g_cv k53_103 (q := 106) (as := [_]) rfl rfl rfl rfl (m_app hC1 10) rfl (z_ki fun x103 h103 p103 => ?_)
          obtain ⟨σ2, rfl, hC2, e2⟩ := p103
          rw [z_c10.ch] at hC2
          have s2 := hC2.size (show (out ++ z_sq (σ 7) s false false (i - s) ++ [10]).length ≤ 242 by rw [List.length_append, List.length_append]; show out.length + _ + 1 ≤ 242; omega)
          refine e_pop k53_106 (q := 107) rfl rfl ?_
          refine e_iload k53_107 (q := 109) rfl rfl ?_
          refine e_if k53_109 (q := 112) rfl (fun c109 => ?_) (fun c109 => absurd rfl c109)
          refine e_aload k53_116 (q := 117) rfl rfl ?_
          refine g_get k53_117 (q := 120) rfl rfl rfl ?_
          refine g_get k53_120 (q := 123) rfl rfl rfl ?_
          rw [show σ2 13 1 = nI (out ++ z_sq (σ 7) s false false (i - s) ++ [10]).length from s2]
          refine e_ist k53_123 (q := 124) (L' := [_, _, _, _, _, _]) rfl rfl rfl ?_
          refine e_iload k53_124 (q := 125) rfl rfl ?_
          refine e_const k53_125 (q := 126) rfl ?_
          refine e_ib k53_126 (q := 127) rfl ?_
          refine e_ist k53_127 (q := 128) (L' := [_, _, some (.int (nI (i + 1))), _, _, _]) rfl rfl (by rw [nI_1]; rfl) ?_
          refine e_iinc k53_128 (q := 131) (L' := [_, _, _, some (.int (nI (i + 1))), _, _]) rfl rfl (by rw [nI_1]; rfl) ?_
          refine e_goto k53_131 ?_
          refine l_relaxedBody m (i + 1) (i + 1) σ2 (out ++ z_sq (σ 7) s false false (i - s) ++ [10]) (out ++ z_sq (σ 7) s false false (i - s) ++ [10]) [] _ _ (by omega) (Nat.le_refl _) ((hT.eq e1).eq e2) hC2 ?_ ?_ ?_ (fun σ3 h3 e3 => kk σ3 (h3.eq ?_) (e3.tr (e2.tr e1)))
          · rw [List.length_append, List.length_append]
            show out.length + _ + 1 ≤ 242
            omega
          · intro _
            rw [List.length_append, List.length_append]
            show out.length + _ + 1 + (n - (i + 1)) + 1 ≤ 242
            omega
          · rw [List.append_nil]
          · rw [(e2.tr e1) 7 (by decide) (by decide), z_rb, if_pos (Or.inr (Classical.not_not.mp c59)), if_neg hem]
        · have hem : z_sq (σ 7) s false false (i - s) = [] := by
            have c : σ1 13 1 = σ 13 1 := Classical.not_not.mp c87
            rw [s1, s0] at c
            have := (nI_eq (by omega) (by omega)).mp c
            exact List.eq_nil_of_length_eq_zero (by omega)
          refine e_const k53_90 (q := 91) rfl ?_
          refine e_goto k53_91 ?_
          refine e_ist k53_95 (q := 97) (L' := [_, _, _, _, _, _]) rfl rfl rfl ?_
          refine e_aload k53_97 (q := 98) rfl rfl ?_
          refine g_get k53_98 (q := 101) rfl rfl rfl ?_
          refine e_const k53_101 (q := 103) rfl ?_
          refine g_cv k53_103 (q := 106) (as := [_]) rfl rfl rfl rfl (m_app hC1 10) rfl (z_ki fun x103 h103 p103 => ?_)
          obtain ⟨σ2, rfl, hC2, e2⟩ := p103
          rw [z_c10.ch] at hC2
          have s2 := hC2.size (show (out ++ z_sq (σ 7) s false false (i - s) ++ [10]).length ≤ 242 by rw [List.length_append, List.length_append]; show out.length + _ + 1 ≤ 242; omega)
          refine e_pop k53_106 (q := 107) rfl rfl ?_
          refine e_iload k53_107 (q := 109) rfl rfl ?_
          refine e_if k53_109 (q := 112) rfl (fun c109 => absurd c109 (by decide)) (fun c109 => ?_)
          refine e_iload k53_112 (q := 113) rfl rfl ?_
          refine e_goto k53_113 ?_
          skip
          refine e_ist k53_123 (q := 124) (L' := [_, _, _, _, _, _]) rfl rfl rfl ?_
          refine e_iload k53_124 (q := 125) rfl rfl ?_
          refine e_const k53_125 (q := 126) rfl ?_
          refine e_ib k53_126 (q := 127) rfl ?_
          refine e_ist k53_127 (q := 128) (L' := [_, _, some (.int (nI (i + 1))), _, _, _]) rfl rfl (by rw [nI_1]; rfl) ?_
          refine e_iinc k53_128 (q := 131) (L' := [_, _, _, some (.int (nI (i + 1))), _, _]) rfl rfl (by rw [nI_1]; rfl) ?_
          refine e_goto k53_131 ?_
          refine l_relaxedBody m (i + 1) (i + 1) σ2 (out ++ z_sq (σ 7) s false false (i - s) ++ [10]) keep (rest ++ z_sq (σ 7) s false false (i - s) ++ [10]) _ _ (by omega) (Nat.le_refl _) ((hT.eq e1).eq e2) hC2 ?_ ?_ ?_ (fun σ3 h3 e3 => kk σ3 (h3.eq ?_) (e3.tr (e2.tr e1)))
          · rw [List.length_append, List.length_append]
            show out.length + _ + 1 ≤ 242
            omega
          · intro _
            rw [List.length_append, List.length_append]
            show out.length + _ + 1 + (n - (i + 1)) + 1 ≤ 242
            omega
          · rw [hkp]; simp
          · rw [(e2.tr e1) 7 (by decide) (by decide), z_rb, if_pos (Or.inr (Classical.not_not.mp c59)), if_pos hem]
theorem m_writeRelaxedBody {d : Nat} {h : zH} {ρ : Nat → Nat → Option Nat} {σ : Nat → Nat → Int32} {n bs : Nat} {out : List Int32} (hT : z_tm σ n) (hC : z_cs σ out) (hS : σ 5 2 = nI bs) (hb : bs ≤ n) (hcap : out.length + (n - bs) + 1 ≤ 242) : z_M (d + 3) 53 [.ref 4] (z_G h σ ρ) (z_qv fun h' => ∃ σ', h' = z_G h σ' ρ ∧ z_cs σ' (z_rb (σ 7) n (n + 1 - bs) bs bs out out) ∧ z_eq σ' σ) := by
  refine z_M.of ⟨Nat.le_of_ble_eq_true rfl, by simp [Value.category]⟩ (L := [some (.ref 4), none, none, none, none, none]) rfl ?_
  refine e_aload k53_0 (q := 1) rfl rfl ?_
  refine g_get k53_1 (q := 4) rfl rfl rfl ?_
  refine g_get k53_4 (q := 7) rfl rfl rfl ?_
  rw [show (σ 13 1) = nI out.length from hC.size (by omega)]
  refine e_ist k53_7 (q := 8) (L' := [_, _, _, _, _, _]) rfl rfl rfl ?_
  refine e_aload k53_8 (q := 9) rfl rfl ?_
  refine g_get k53_9 (q := 12) rfl rfl rfl ?_
  refine g_get k53_12 (q := 15) rfl rfl rfl ?_
  rw [show (σ 5 2) = nI bs from hS]
  refine e_ist k53_15 (q := 16) (L' := [_, _, _, _, _, _]) rfl rfl rfl ?_
  refine e_iload k53_16 (q := 17) rfl rfl ?_
  refine e_ist k53_17 (q := 18) (L' := [_, _, _, _, _, _]) rfl rfl rfl ?_
  exact l_relaxedBody (n + 1 - bs) bs bs σ out out [] _ _ (by omega) (Nat.le_refl _) hT hC (by omega) (fun _ => hcap) (List.append_nil _).symm (fun σ' h' e' => ⟨σ', rfl, h', e'⟩)
/-- the digest of k signs, as both programs reckon it -/
def z_dg (f : Nat → Int32) : Nat → Int64
  | 0 => 0
  | k + 1 => (257 * z_dg f k + (f k).toInt64 + 1) - (257 * z_dg f k + (f k).toInt64 + 1) / 2147483647 * 2147483647
theorem z_dg_eq {f g : Nat → Int32} : ∀ k, (∀ j, j < k → f j = g j) → z_dg f k = z_dg g k
  | 0, _ => rfl
  | k + 1, h => by
    unfold z_dg
    rw [z_dg_eq k (fun j hj => h j (by omega)), h k (by omega)]
theorem l_summary {d : Nat} {h : zH} {ρ : Nat → Nat → Option Nat} {σ : Nat → Nat → Int32} {t a n k : Nat} (T : z_tx t a n) (hk : σ t 1 = nI k) (hkn : k ≤ n) : ∀ (m i : Nat), i + m = k →
    z_E d 64 4 [some (.ref t), some (.long (z_dg (σ a) i)), none, some (.int (nI i))] [] (z_G h σ ρ) (z_qi fun x h' => x = (z_dg (σ a) k).toInt32 ∧ h' = z_G h σ ρ)
  | 0, i, hi => by
    obtain rfl : i = k := by omega
    have hn := T.2.2.2
    refine e_iload k64_4 (q := 5) rfl rfl ?_
    refine e_aload k64_5 (q := 6) rfl rfl ?_
    refine g_get k64_6 (q := 9) rfl (T.1 _ _) rfl ?_
    refine e_ic k64_9 (q := 12) rfl (fun c9 => ?_) (fun c9 => absurd (by show σ t 1 ≤ nI i; rw [hk]; exact nI_le (Nat.le_refl _) (by omega)) c9)
    refine e_lload k64_38 (q := 39) rfl rfl ?_
    refine e_l2i k64_39 (q := 40) rfl ?_
    refine e_iret k64_40 ⟨_, rfl⟩ ?_
    exact ⟨_, _, rfl, rfl, rfl⟩
  | m + 1, i, hi => by
    have hn := T.2.2.2
    have hin : vp_in (nI i) n := vp_in_nI (by omega) hn
    have hcl : (nI i).toNatClampNeg = i := nI_clamp (by omega)
    refine e_iload k64_4 (q := 5) rfl rfl ?_
    refine e_aload k64_5 (q := 6) rfl rfl ?_
    refine g_get k64_6 (q := 9) rfl (T.1 _ _) rfl ?_
    refine e_ic k64_9 (q := 12) rfl (fun c9 => absurd c9 (by show ¬ σ t 1 ≤ nI i; rw [hk]; exact nI_ge (by omega) (by omega))) (fun c9 => ?_)
    refine e_const k64_12 (q := 15) rfl ?_
    refine e_lload k64_15 (q := 16) rfl rfl ?_
    refine e_lb k64_16 (q := 17) rfl ?_
    refine e_aload k64_17 (q := 18) rfl rfl ?_
    refine g_get k64_18 (q := 21) rfl (T.1 _ _) rfl ?_
    refine e_iload k64_21 (q := 22) rfl rfl ?_
    refine g_ald k64_22 (q := 23) rfl (T.2.1 _ _) (by assumption) ?_
    rw [hcl]
    refine e_i2l k64_23 (q := 24) rfl ?_
    refine e_lb k64_24 (q := 25) rfl ?_
    refine e_const k64_25 (q := 26) rfl ?_
    refine e_lb k64_26 (q := 27) rfl ?_
    refine e_const k64_27 (q := 30) rfl ?_
    refine e_lbn k64_30 (q := 31) rfl (by decide) ?_
    refine e_lst k64_31 (q := 32) (L' := [_, some (.long (z_dg (σ a) (i + 1))), _, _]) rfl rfl rfl ?_
    refine e_iinc k64_32 (q := 35) (L' := [_, _, _, some (.int (nI (i + 1)))]) rfl rfl (by rw [nI_1]; rfl) ?_
    refine e_goto k64_35 ?_
    exact l_summary T hk hkn m (i + 1) (by omega)
theorem m_summary {d : Nat} {h : zH} {ρ : Nat → Nat → Option Nat} {σ : Nat → Nat → Int32} {t a n k : Nat} (T : z_tx t a n) (hk : σ t 1 = nI k) (hkn : k ≤ n) : z_M (d + 1) 64 [.ref t] (z_G h σ ρ) (z_qi fun x h' => x = (z_dg (σ a) k).toInt32 ∧ h' = z_G h σ ρ) := by
  refine z_M.of ⟨Nat.le_of_ble_eq_true rfl, by simp [Value.category]⟩ (L := [some (.ref t), none, none, none]) rfl ?_
  refine e_const k64_0 (q := 1) rfl ?_
  refine e_lst k64_1 (q := 2) (L' := [_, _, _, _]) rfl rfl rfl ?_
  refine e_const k64_2 (q := 3) rfl ?_
  refine e_ist k64_3 (q := 4) (L' := [_, _, _, _]) rfl rfl rfl ?_
  exact l_summary T hk hkn k 0 (by omega)
