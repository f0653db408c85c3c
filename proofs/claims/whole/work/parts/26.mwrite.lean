/-! The model writes the canonical form. -/
/-- how many signs stand before the next colon -/
def z_nc (u : Nat → Int32) (i : Nat) : Nat → Nat
  | 0 => 0
  | m + 1 => if u i = 58 then 0 else z_nc u (i + 1) m + 1
theorem z_nc_le (u : Nat → Int32) : ∀ (m i : Nat), z_nc u i m ≤ m
  | 0, _ => Nat.le_refl _
  | m + 1, i => by
    rw [z_nc]
    split
    · omega
    · have := z_nc_le u m (i + 1)
      omega
theorem z_sg_nc (u : Nat → Int32) : ∀ (m i s : Nat), z_sg u m i s = (s, i + z_nc u i m) :: (if z_nc u i m = m then [] else z_sg u (m - z_nc u i m - 1) (i + z_nc u i m + 1) (i + z_nc u i m + 1))
  | 0, i, s => by rw [z_sg, z_nc, if_pos rfl]; rfl
  | m + 1, i, s => by
    rw [z_sg, z_nc]
    by_cases h : u i = 58
    · rw [if_pos h, if_pos h, if_neg (by omega)]
      rfl
    · rw [if_neg h, if_neg h, z_sg_nc u m (i + 1) s]
      have := z_nc_le u m (i + 1)
      rw [show i + 1 + z_nc u (i + 1) m = i + (z_nc u (i + 1) m + 1) by omega]
      by_cases hc : z_nc u (i + 1) m = m
      · rw [if_pos hc, if_pos (by omega)]
      · rw [if_neg hc, if_neg (by omega), show m - z_nc u (i + 1) m - 1 = m + 1 - (z_nc u (i + 1) m + 1) - 1 by omega]
theorem z_tk_nil {t u : Nat → Int32} {a n : Nat} {T : Nat → Bool} : ∀ {F : List (Nat × Nat × Nat)}, z_fb n F → z_tk t u a a T F = none
  | [], _ => rfl
  | x :: r, h => by
    have hx := h x List.mem_cons_self
    rw [z_tk, if_neg (fun z => by
      have z2 := z.2
      rw [decide_eq_false (by omega), Bool.false_and] at z2
      cases z2)]
    exact z_tk_nil (fun y hy => h y (List.mem_cons_of_mem _ hy))
theorem z_ga_ix {σ : Nat → Nat → Int32} {A : List (Nat × Nat)} {K : Nat} : ∀ {F : List (Nat × Nat × Nat)} {i : Nat}, z_ga σ A K F → i < F.length → (∃ k1 k2, σ 47 i = nI k1 ∧ σ 48 i = nI k2 ∧ k1 ≤ k2 ∧ k2 < K ∧ (A.getD k1 (0, 0)).1 = (z_ix F i).1 ∧ (A.getD k2 (0, 0)).2 = (z_ix F i).2.2) ∧ σ 49 i = nI ((z_ix F i).2.1 - (z_ix F i).1)
  | [], i, _, h => absurd h (Nat.not_lt_zero _)
  | x :: r, i, hA, h => by
    obtain ⟨h1, h2, h3⟩ := hA
    rw [List.length_cons] at h
    by_cases e : i = r.length
    · subst e
      rw [z_ix_top]
      exact ⟨h1, h2⟩
    · rw [z_ix_low x (by omega)]
      exact z_ga_ix h3 (by omega)
theorem z_fos_app (t : Nat → Int32) (rf : Bool) (F : List (Nat × Nat × Nat)) (i : Nat) : ∀ O, z_fos t rf F (O ++ [i]) = z_fos t rf F O ++ z_fo t rf (z_ix F i)
  | [] => by rw [List.nil_append, z_fos, z_fos, z_fos, List.append_nil]; rfl
  | j :: r => by rw [List.cons_append, z_fos, z_fos, z_fos_app t rf F i r, List.append_assoc]
def z_ez (σ' σ : Nat → Nat → Int32) : Prop := (∀ k, k ≠ 18 → k ≠ 50 → k ≠ 51 → σ' k = σ k) ∧ ∀ j, j ≠ 42 → σ' 18 j = σ 18 j
theorem z_ez.rf {σ : Nat → Nat → Int32} : z_ez σ σ := ⟨fun _ _ _ _ => rfl, fun _ _ => rfl⟩
theorem z_ez.tr {a b c : Nat → Nat → Int32} (h1 : z_ez a b) (h2 : z_ez b c) : z_ez a c := ⟨fun k x y z => (h1.1 k x y z).trans (h2.1 k x y z), fun j x => (h1.2 j x).trans (h2.2 j x)⟩
theorem z_ep.ez {a b : Nat → Nat → Int32} (h : z_ep a b) : z_ez a b := ⟨fun k x _ z => h.1 k x z, h.2⟩
theorem z_la.ez {σ' σ : Nat → Nat → Int32} {A : List (Nat × Nat)} (h : z_la σ A) (e : z_ez σ' σ) : z_la σ' A := by
  refine ⟨(e.2 33 (by decide)).trans h.1, fun k hk => ?_⟩
  rw [e.1 45 (by decide) (by decide) (by decide), e.1 46 (by decide) (by decide) (by decide)]
  exact h.2 k hk
theorem z_gl.ez {σ' σ : Nat → Nat → Int32} {A : List (Nat × Nat)} {K : Nat} {F : List (Nat × Nat × Nat)} (h : z_gl σ A K F) (e : z_ez σ' σ) : z_gl σ' A K F := by
  refine ⟨(e.2 37 (by decide)).trans h.1, h.2.1, h.2.2.up (Nat.le_refl _) F (fun j _ => ?_)⟩
  rw [e.1 47 (by decide) (by decide) (by decide), e.1 48 (by decide) (by decide) (by decide), e.1 49 (by decide) (by decide) (by decide)]
  exact ⟨rfl, rfl, rfl⟩
/-- the model's names -/
def z_xn (σ : Nat → Nat → Int32) (k : Nat) : Prop := σ 18 26 = nI k ∧ k ≤ 60
theorem l_untakeM {d : Nat} {h : zH} {ρ : Nat → Nat → Option Nat} {Q : zR → Prop} {c : Nat} {x1 x2 x4 x5 : Option Value} (hc : c ≤ 12) : ∀ (m i : Nat) (σ : Nat → Nat → Int32), i + m = c → σ 18 37 = nI c → (∀ f, f < i → σ 50 f = 0) →
    (∀ σ', (∀ k, k ≠ 50 → σ' k = σ k) → (∀ f, f < c → σ' 50 f = 0) → z_E (d + 4) 105 37 [some (.ref 18), x1, x2, some (.int (nI c)), x4, x5] [] (z_G h σ' ρ) Q) →
    z_E (d + 4) 105 16 [some (.ref 18), x1, x2, some (.int (nI i)), x4, x5] [] (z_G h σ ρ) Q
  | 0, i, σ, hi, hF, h0, kk => by
    obtain rfl : i = c := by omega
    refine e_iload k105_16 (q := 17) rfl rfl ?_
    refine e_aload k105_17 (q := 18) rfl rfl ?_
    refine g_get k105_18 (q := 21) rfl rfl rfl ?_
    refine e_ic k105_21 (q := 24) rfl (fun c21 => ?_) (fun c21 => absurd (by show σ 18 37 ≤ nI i; rw [hF]; exact nI_le (Nat.le_refl _) (by omega)) c21)
    exact kk σ (fun _ _ => rfl) h0
  | m + 1, i, σ, hi, hF, h0, kk => by
    have hin : vp_in (nI i) 12 := vp_in_nI (by omega) (by decide)
    have hcl : (nI i).toNatClampNeg = i := nI_clamp (by omega)
    refine e_iload k105_16 (q := 17) rfl rfl ?_
    refine e_aload k105_17 (q := 18) rfl rfl ?_
    refine g_get k105_18 (q := 21) rfl rfl rfl ?_
    refine e_ic k105_21 (q := 24) rfl (fun c21 => absurd c21 (by show ¬ σ 18 37 ≤ nI i; rw [hF]; exact nI_ge (by omega) (by omega))) (fun c21 => ?_)
    refine e_aload k105_24 (q := 25) rfl rfl ?_
    refine g_get k105_25 (q := 28) rfl rfl rfl ?_
    refine e_iload k105_28 (q := 29) rfl rfl ?_
    refine e_const k105_29 (q := 30) rfl ?_
    refine g_aast k105_30 (q := 31) rfl (fun _ => rfl) (by assumption) ?_
    refine e_iinc k105_31 (q := 34) (L' := [_, _, _, some (.int (nI (i + 1))), _, _]) rfl rfl (by rw [nI_1]; rfl) ?_
    refine e_goto k105_34 ?_
    refine l_untakeM hc m (i + 1) _ (by omega) (by rw [z_us_ne _ _ (by decide)]; exact hF) (fun f hf => ?_) (fun σ' e' z' => kk σ' (fun k hk => (e' k hk).trans (z_us_ne _ _ hk)) z')
    rw [z_us_eq, hcl]
    by_cases e : f = i
    · subst e
      exact (if_pos rfl).trans (by decide)
    · exact (if_neg e).trans (h0 f (by omega))
theorem l_countM {d : Nat} {h : zH} {ρ : Nat → Nat → Option Nat} {σ : Nat → Nat → Int32} {Q : zR → Prop} {k i : Nat} {x1 x2 x5 : Option Value} (hN : z_xn σ k) : ∀ (m j : Nat), i + j + m = k →
    z_E (d + 4) 105 81 [some (.ref 18), x1, x2, some (.int (nI i)), some (.int (nI (j + z_nc (σ 40) (i + j) m))), x5] [] (z_G h σ ρ) Q →
    z_E (d + 4) 105 50 [some (.ref 18), x1, x2, some (.int (nI i)), some (.int (nI j)), x5] [] (z_G h σ ρ) Q
  | 0, j, hj, kk => by
    have hk := hN.2
    refine e_iload k105_50 (q := 51) rfl rfl ?_
    refine e_iload k105_51 (q := 53) rfl rfl ?_
    refine e_ib k105_53 (q := 54) rfl ?_
    refine e_aload k105_54 (q := 55) rfl rfl ?_
    refine g_get k105_55 (q := 58) rfl rfl rfl ?_
    refine e_ic k105_58 (q := 61) rfl (fun c58 => ?_) (fun c58 => absurd (by show σ 18 26 ≤ nI i + nI j; rw [hN.1, nI_add]; exact nI_le (by omega) (by omega)) c58)
    exact kk
  | m + 1, j, hj, kk => by
    have hk := hN.2
    have hin : vp_in (nI (i + j)) 60 := vp_in_nI (by omega) (by decide)
    have hcl : (nI (i + j)).toNatClampNeg = i + j := nI_clamp (by omega)
    refine e_iload k105_50 (q := 51) rfl rfl ?_
    refine e_iload k105_51 (q := 53) rfl rfl ?_
    refine e_ib k105_53 (q := 54) rfl ?_
    refine e_aload k105_54 (q := 55) rfl rfl ?_
    refine g_get k105_55 (q := 58) rfl rfl rfl ?_
    refine e_ic k105_58 (q := 61) rfl (fun c58 => absurd c58 (by show ¬ σ 18 26 ≤ nI i + nI j; rw [hN.1, nI_add]; exact nI_ge (by omega) (by omega))) (fun c58 => ?_)
    refine e_aload k105_61 (q := 62) rfl rfl ?_
    refine g_get k105_62 (q := 65) rfl rfl rfl ?_
    refine e_iload k105_65 (q := 66) rfl rfl ?_
    refine e_iload k105_66 (q := 68) rfl rfl ?_
    refine e_ib k105_68 (q := 69) rfl ?_
    rw [nI_add]
    refine g_ald k105_69 (q := 70) rfl rfl (by assumption) ?_
    rw [hcl]
    refine e_const k105_70 (q := 72) rfl ?_
    refine e_ic k105_72 (q := 75) rfl (fun c72 => ?_) (fun c72 => ?_)
    · rw [z_nc, if_pos c72] at kk
      exact kk
    · rw [z_nc, if_neg c72] at kk
      refine e_iinc k105_75 (q := 78) (L' := [_, _, _, _, some (.int (nI (j + 1))), _]) rfl rfl (by rw [nI_1]; rfl) ?_
      refine e_goto k105_78 ?_
      refine l_countM hN m (j + 1) (by omega) ?_
      rw [show j + 1 + z_nc (σ 40) (i + (j + 1)) m = j + (z_nc (σ 40) (i + j + 1) m + 1) by rw [show i + (j + 1) = i + j + 1 by omega]; omega]
      exact kk
def z_rs (u : Nat → Int32) (k i : Nat) : List (Nat × Nat) := if i ≤ k then z_sg u (k - i) i i else []
theorem l_namesM {d : Nat} {h : zH} {ρ : Nat → Nat → Option Nat} {Q : zR → Prop} {n k : Nat} {A : List (Nat × Nat)} {F : List (Nat × Nat × Nat)} {rf : Bool} {x2 : Option Value} (hn : n ≤ 240) (hA : A.length ≤ 241) (hB : z_fb n F) (hcap : z_sm (z_wt F) (fun _ => true) F.length ≤ 241) : ∀ (N i : Nat) (σ : Nat → Nat → Int32) (T : Nat → Bool) (O : List Nat) (x4 x5 : Option Value), k + 1 - i ≤ N → i ≤ k + 1 → z_xn σ k → z_lc (σ 39) n 0 A → z_la σ A → z_gl σ A (z_he A) F → z_tt σ F.length T → z_so (z_wt F) O = z_sm (z_wt F) T F.length → (∀ j ∈ O, j < F.length) → z_pg σ (z_fos (σ 39) rf F O) →
    (∀ σ' y3 y4 y5, z_pg σ' (z_fos (σ 39) rf F (z_ta (σ 39) (σ 40) F (z_rs (σ 40) k i) (T, O)).2) → z_ez σ' σ → z_E (d + 4) 105 129 [some (.ref 18), some (.int (z_bi rf)), x2, y3, y4, y5] [] (z_G h σ' ρ) Q) →
    z_E (d + 4) 105 39 [some (.ref 18), some (.int (z_bi rf)), x2, some (.int (nI i)), x4, x5] [] (z_G h σ ρ) Q := by
  intro N
  induction N with
  | zero =>
    intro i σ T O x4 x5 hN0 hik hN hlc hL hG hTt hso hOl hP kk
    have hk := hN.2
    refine e_iload k105_39 (q := 40) rfl rfl ?_
    refine e_aload k105_40 (q := 41) rfl rfl ?_
    refine g_get k105_41 (q := 44) rfl rfl rfl ?_
    refine e_ic k105_44 (q := 47) rfl (fun c44 => ?_) (fun c44 => absurd (by show σ 18 26 ≤ nI i; rw [hN.1]; exact nI_le (by omega) (by omega)) c44)
    refine kk σ _ _ _ ?_ z_ez.rf
    rw [z_rs, if_neg (by omega), z_ta]
    exact hP
  | succ N ih =>
    intro i σ T O x4 x5 hN0 hik hN hlc hL hG hTt hso hOl hP kk
    have hk := hN.2
    have hle := z_he_le A
    have hG2 := hG.2.1
    refine e_iload k105_39 (q := 40) rfl rfl ?_
    refine e_aload k105_40 (q := 41) rfl rfl ?_
    refine g_get k105_41 (q := 44) rfl rfl rfl ?_
    refine e_ic k105_44 (q := 47) rfl (fun c44 => ?_) (fun c44 => ?_)
    · have hik2 : k ≤ i := by
        rcases Nat.lt_or_ge i k with z | z
        · exact absurd (show σ 18 26 ≤ nI i from c44) (by rw [hN.1]; exact nI_ge z (by omega))
        · exact z
      refine kk σ _ _ _ ?_ z_ez.rf
      rw [z_rs]
      split
      · rw [show k - i = 0 by omega, z_sg, z_ta, z_ta]
        unfold z_tp
        rw [z_tk_nil hB]
        exact hP
      · rw [z_ta]
        exact hP
    · have hik2 : i < k := by
        rcases Nat.lt_or_ge i k with z | z
        · exact z
        · exact absurd (show σ 18 26 ≤ nI i by rw [hN.1]; exact nI_le z (by omega)) c44
      refine e_const k105_47 (q := 48) rfl ?_
      refine e_ist k105_48 (q := 50) (L' := [_, _, _, _, _, _]) rfl rfl rfl ?_
      refine l_countM hN (k - i) 0 (by omega) ?_
      rw [Nat.zero_add, show i + 0 = i from rfl]
      have hnc := z_nc_le (σ 40) (k - i) i
      have hrs : z_rs (σ 40) k i = (i, i + z_nc (σ 40) i (k - i)) :: z_rs (σ 40) k (i + z_nc (σ 40) i (k - i) + 1) := by
        unfold z_rs
        rw [if_pos (by omega), z_sg_nc]
        by_cases hc : z_nc (σ 40) i (k - i) = k - i
        · rw [if_pos hc, if_neg (by omega)]
        · rw [if_neg hc, if_pos (by omega), show k - i - z_nc (σ 40) i (k - i) - 1 = k - (i + z_nc (σ 40) i (k - i) + 1) by omega]
      refine e_iload k105_81 (q := 83) rfl rfl ?_
      refine e_if k105_83 (q := 86) rfl (fun c83 => ?_) (fun c83 => ?_)
      · refine e_const k105_96 (q := 97) rfl ?_
        refine e_ist k105_97 (q := 99) (L' := [_, _, _, _, _, _]) rfl rfl rfl ?_
        refine e_iload k105_99 (q := 101) rfl rfl ?_
        refine e_if k105_101 (q := 104) rfl (fun c101 => ?_) (fun c101 => absurd (by decide) c101)
        refine e_iload k105_119 (q := 120) rfl rfl ?_
        refine e_iload k105_120 (q := 122) rfl rfl ?_
        refine e_ib k105_122 (q := 123) rfl ?_
        refine e_const k105_123 (q := 124) rfl ?_
        refine e_ib k105_124 (q := 125) rfl ?_
        refine e_ist k105_125 (q := 126) (L' := [_, _, _, some (.int (nI (i + z_nc (σ 40) i (k - i) + 1))), _, _]) rfl rfl (by rw [nI_add, nI_1]; rfl) ?_
        refine e_goto k105_126 ?_
        have hc0 : z_nc (σ 40) i (k - i) = 0 := by
          rcases Nat.eq_zero_or_pos (z_nc (σ 40) i (k - i)) with z | z
          · exact z
          · exact absurd c83 (nI_nle (by omega) (by omega))
        refine ih (i + z_nc (σ 40) i (k - i) + 1) σ T O _ _ (by omega) (by omega) hN hlc hL hG hTt hso hOl hP (fun σ2 y3 y4 y5 h2 e2 => kk σ2 y3 y4 y5 (h2.eq ?_) e2)
        rw [hrs, z_ta]
        congr 3
        unfold z_tp
        rw [hc0, Nat.add_zero, z_tk_nil hB]
      · refine e_aload k105_86 (q := 87) rfl rfl ?_
        refine e_iload k105_87 (q := 88) rfl rfl ?_
        refine e_iload k105_88 (q := 90) rfl rfl ?_
        refine g_cv k105_90 (q := 93) (as := [_, _]) rfl rfl rfl rfl (m_takeM hn hL hA hle hG hB hTt (show i + z_nc (σ 40) i (k - i) ≤ 60 by omega)) rfl (z_ki fun x90 h90 p90 => ?_)
        refine e_goto k105_93 ?_
        refine e_ist k105_97 (q := 99) (L' := [_, _, _, _, _, _]) rfl rfl rfl ?_
        refine e_iload k105_99 (q := 101) rfl rfl ?_
        refine e_if k105_101 (q := 104) rfl (fun c101 => ?_) (fun c101 => ?_)
        · refine e_iload k105_119 (q := 120) rfl rfl ?_
          refine e_iload k105_120 (q := 122) rfl rfl ?_
          refine e_ib k105_122 (q := 123) rfl ?_
          refine e_const k105_123 (q := 124) rfl ?_
          refine e_ib k105_124 (q := 125) rfl ?_
          refine e_ist k105_125 (q := 126) (L' := [_, _, _, some (.int (nI (i + z_nc (σ 40) i (k - i) + 1))), _, _]) rfl rfl (by rw [nI_add, nI_1]; rfl) ?_
          refine e_goto k105_126 ?_
          cases hz : z_tk (σ 39) (σ 40) i (i + z_nc (σ 40) i (k - i)) T F with
          | some f =>
            rw [hz] at p90
            rw [p90.2] at c101
            exact absurd c101 (nI_pos (by have := (z_tk_some hz).1; omega))
          | none =>
            obtain rfl := p90.1
            refine ih (i + z_nc (σ 40) i (k - i) + 1) σ T O _ _ (by omega) (by omega) hN hlc hL hG hTt hso hOl hP (fun σ2 y3 y4 y5 h2 e2 => kk σ2 y3 y4 y5 (h2.eq ?_) e2)
            rw [hrs, z_ta]
            congr 3
            unfold z_tp
            rw [hz]
        · obtain ⟨f, hz⟩ : ∃ f, z_tk (σ 39) (σ 40) i (i + z_nc (σ 40) i (k - i)) T F = some f := by
            cases hz : z_tk (σ 39) (σ 40) i (i + z_nc (σ 40) i (k - i)) T F with
            | none => rw [hz] at p90; rw [p90.2] at c101; exact absurd (by decide) c101
            | some f => exact ⟨f, rfl⟩
          rw [hz] at p90
          obtain ⟨rfl, rfl⟩ := p90
          have hff := z_tk_some hz
          have hif : vp_in (nI f) 12 := vp_in_nI (by omega) (by decide)
          have hcf : (nI f).toNatClampNeg = f := nI_clamp (by omega)
          have u1 := z_sm_up (z_wt F) T hff.2 F.length
          rw [if_pos hff.1] at u1
          have u2 := z_sm_le (z_wt F) (z_us T f true) F.length
          have u3 := z_fos_len (σ 39) rf hB O hOl
          obtain ⟨⟨k1, k2, g1, g2, g3, g4, g5, g6⟩, g7⟩ := z_ga_ix hG.2.2 hff.1
          have hbx := hB _ (z_ix_mem hff.1)
          have hw : (z_ix F f).2.2 - (z_ix F f).1 + 1 = z_wt F f := rfl
          refine e_aload k105_104 (q := 105) rfl rfl ?_
          refine g_get k105_105 (q := 108) rfl rfl rfl ?_
          refine e_iload k105_108 (q := 110) rfl rfl ?_
          refine e_const k105_110 (q := 111) rfl ?_
          refine g_aast k105_111 (q := 112) rfl (fun _ => rfl) hif ?_
          refine e_aload k105_112 (q := 113) rfl rfl ?_
          refine e_iload k105_113 (q := 115) rfl rfl ?_
          refine e_iload k105_115 (q := 116) rfl rfl ?_
          have e1 : z_ez (z_us σ 50 (upd (σ 50) (nI f).toNatClampNeg (vp_nar .boolean 1))) σ := ⟨fun q _ h2 _ => z_us_ne _ _ h2, fun j _ => by rw [z_us_ne _ _ (by decide)]⟩
          refine g_cv k105_116 (q := 119) (as := [_, _]) rfl rfl rfl rfl (m_writeField rf (show f < 12 by omega) hn hA (by rw [e1.1 39 (by decide) (by decide) (by decide)]; exact hlc) (hL.ez e1) (by rw [e1.1 47 (by decide) (by decide) (by decide)]; exact g1) (by rw [e1.1 48 (by decide) (by decide) (by decide)]; exact g2) g3 (by omega) (by rw [e1.1 49 (by decide) (by decide) (by decide)]; exact g7) g5 g6 hbx (show z_pg (z_us σ 50 (upd (σ 50) (nI f).toNatClampNeg (vp_nar .boolean 1))) (z_fos (σ 39) rf F O) from ⟨(by rw [z_us_ne _ _ (by decide)]; exact hP.1), by rw [z_us_ne _ _ (by decide)]; exact hP.2⟩) (by omega)) rfl (z_kv fun h116 p116 => ?_)
          obtain ⟨σ2, rfl, hP2, e2⟩ := p116
          refine e_iload k105_119 (q := 120) rfl rfl ?_
          refine e_iload k105_120 (q := 122) rfl rfl ?_
          refine e_ib k105_122 (q := 123) rfl ?_
          refine e_const k105_123 (q := 124) rfl ?_
          refine e_ib k105_124 (q := 125) rfl ?_
          refine e_ist k105_125 (q := 126) (L' := [_, _, _, some (.int (nI (i + z_nc (σ 40) i (k - i) + 1))), _, _]) rfl rfl (by rw [nI_add, nI_1]; rfl) ?_
          refine e_goto k105_126 ?_
          have e3 : z_ez σ2 σ := e2.ez.tr e1
          refine ih (i + z_nc (σ 40) i (k - i) + 1) σ2 (z_us T f true) (O ++ [f]) _ _ (by omega) (by omega) ⟨(e3.2 26 (by decide)).trans hN.1, hN.2⟩ (by rw [e3.1 39 (by decide) (by decide) (by decide)]; exact hlc) (hL.ez e3) (hG.ez e3) ?_ ?_ ?_ ?_ (fun σ3 y3 y4 y5 h3 e4 => kk σ3 y3 y4 y5 (h3.eq ?_) (e4.tr e3))
          · intro g hg
            rw [e2.1 50 (by decide) (by decide), z_us_eq]
            by_cases eg : g = f
            · subst eg
              rw [z_us_eq, hcf]
              exact (if_pos rfl).trans (by decide)
            · rw [z_us_ne _ _ eg, hcf]
              exact (if_neg eg).trans (hTt g hg)
          · rw [z_so_app, z_sm_up _ T hff.2, if_pos hff.1, hso]
          · intro g hg
            rcases List.mem_append.mp hg with hg | hg
            · exact hOl g hg
            · rw [List.mem_singleton.mp hg]; exact hff.1
          · rw [e3.1 39 (by decide) (by decide) (by decide), z_fos_app]
            rw [e1.1 39 (by decide) (by decide) (by decide)] at hP2
            exact hP2
          · rw [e3.1 39 (by decide) (by decide) (by decide), e3.1 40 (by decide) (by decide) (by decide), hrs, z_ta]
            congr 3
            unfold z_tp
            rw [hz]
def z_ey (σ' σ : Nat → Nat → Int32) : Prop := (∀ k, k ≠ 18 → k ≠ 45 → k ≠ 46 → k ≠ 47 → k ≠ 48 → k ≠ 49 → k ≠ 50 → k ≠ 51 → σ' k = σ k) ∧ ∀ j, j ≠ 33 → j ≠ 36 → j ≠ 37 → j ≠ 42 → σ' 18 j = σ 18 j
theorem z_ey.tr {a b c : Nat → Nat → Int32} (h1 : z_ey a b) (h2 : z_ey b c) : z_ey a c := ⟨fun k q1 q2 q3 q4 q5 q6 q7 q8 => (h1.1 k q1 q2 q3 q4 q5 q6 q7 q8).trans (h2.1 k q1 q2 q3 q4 q5 q6 q7 q8), fun j q1 q2 q3 q4 => (h1.2 j q1 q2 q3 q4).trans (h2.2 j q1 q2 q3 q4)⟩
theorem z_el.ey {a b : Nat → Nat → Int32} (h : z_el a b) : z_ey a b := ⟨fun k q1 q2 q3 _ _ _ _ _ => h.1 k q1 q2 q3, fun j q1 q2 _ _ => h.2 j q1 q2⟩
theorem z_er.ey {a b : Nat → Nat → Int32} (h : z_er a b) : z_ey a b := ⟨fun k q1 _ _ q4 q5 q6 _ _ => h.1 k q1 q4 q5 q6, fun j _ _ q3 _ => h.2 j q3⟩
theorem z_ez.ey {a b : Nat → Nat → Int32} (h : z_ez a b) : z_ey a b := ⟨fun k q1 _ _ _ _ _ q7 q8 => h.1 k q1 q7 q8, fun j _ _ _ q4 => h.2 j q4⟩
theorem m_writeM {d : Nat} {h : zH} {ρ : Nat → Nat → Option Nat} {σ : Nat → Nat → Int32} {n k : Nat} (rf rb : Bool) (hT : z_xm σ n) (hN : z_xn σ k) : z_M (d + 5) 105 [.ref 18, .int (z_bi rf), .int (z_bi rb)] (z_G h σ ρ) (z_qi fun x h' => ∃ σ', h' = z_G h σ' ρ ∧ z_ey σ' σ ∧ match z_cf (σ 39) (σ 40) n k rf rb with
      | none => x = 0
      | some o => x = 1 ∧ z_pg σ' o) := by
  refine z_M.of ⟨Nat.le_of_ble_eq_true rfl, by simp [Value.category]⟩ (L := [some (.ref 18), some (.int (z_bi rf)), some (.int (z_bi rb)), none, none, none]) rfl ?_
  have hn := hT.2
  have hk := hN.2
  refine e_aload k105_0 (q := 1) rfl rfl ?_
  refine g_cv k105_1 (q := 4) (as := []) rfl rfl rfl rfl (m_readM hT) rfl (z_ki fun x1 h1 p1 => ?_)
  obtain ⟨σ1, rfl, ⟨σ0, e1, e0⟩, hL, hH, q1⟩ := p1
  have ey1 : z_ey σ1 σ := e1.ey.tr e0.ey
  have h39 : σ1 39 = σ 39 := ey1.1 39 (by decide) (by decide) (by decide) (by decide) (by decide) (by decide) (by decide) (by decide)
  have h40 : σ1 40 = σ 40 := ey1.1 40 (by decide) (by decide) (by decide) (by decide) (by decide) (by decide) (by decide) (by decide)
  refine e_if k105_4 (q := 7) rfl (fun c4 => ?_) (fun c4 => ?_)
  · cases hz : z_rd (σ 39) n (z_ln (σ 39) n 0 0) [] with
    | none => rw [hz] at q1; exact absurd q1 c4
    | some y =>
    rw [hz] at q1
    obtain ⟨rfl, hG⟩ := q1
    have hcn : ∃ s, z_cn y.1 s ∧ s ≤ n + 1 := by
      rcases z_rd_cn n 0 0 [] y.1 y.2 (by omega) (Nat.le_refl _) trivial hz with ⟨g1, g2, g3⟩ | ⟨g1, g3⟩
      · exact ⟨_, g3, by omega⟩
      · exact ⟨_, g3, Nat.le_refl _⟩
    obtain ⟨s, hcn, hs⟩ := hcn
    have hwt := z_wt_sum y.1 s hcn
    have hB := hcn.fb hs
    have hlen := z_ln_len (σ 39) n 0 0
    have hlc := z_ln_lc (t := σ 39) (n := n) n 0 0 (by omega) (Nat.le_refl _) (fun j _ h2 => absurd h2 (Nat.not_lt_zero _))
    refine e_aload k105_9 (q := 10) rfl rfl ?_
    refine e_const k105_10 (q := 11) rfl ?_
    refine g_put k105_11 (q := 14) rfl rfl ⟨_, rfl⟩ rfl ?_
    refine e_const k105_14 (q := 15) rfl ?_
    refine e_ist k105_15 (q := 16) (L' := [_, _, _, _, _, _]) rfl rfl rfl ?_
    have e2 : z_ez (z_us σ1 18 (upd (σ1 18) 42 0)) σ1 := ⟨fun q h1 _ _ => z_us_ne _ _ h1, fun j hj => by rw [z_us_eq]; exact if_neg hj⟩
    refine l_untakeM hG.2.1 y.1.length 0 _ (by omega) ((e2.2 37 (by decide)).trans hG.1) (fun f hf => absurd hf (Nat.not_lt_zero _)) (fun σ2 e3 z3 => ?_)
    have e3' : z_ez σ2 σ1 := z_ez.tr ⟨fun q _ h2 _ => e3 q h2, fun j _ => by rw [e3 18 (by decide)]⟩ e2
    have hP2 : z_pg σ2 [] := ⟨by rw [e3 18 (by decide), z_us_eq]; rfl, fun j hj => absurd hj (Nat.not_lt_zero _)⟩
    have h392 : σ2 39 = σ 39 := (e3'.1 39 (by decide) (by decide) (by decide)).trans h39
    have h402 : σ2 40 = σ 40 := (e3'.1 40 (by decide) (by decide) (by decide)).trans h40
    refine e_const k105_37 (q := 38) rfl ?_
    refine e_ist k105_38 (q := 39) (L' := [_, _, _, _, _, _]) rfl rfl rfl ?_
    refine l_namesM (k := k) hn (by omega) hB (by omega) (k + 1) 0 σ2 (fun _ => false) [] _ _ (by omega) (by omega) ⟨(e3'.2 26 (by decide)).trans ((ey1.2 26 (by decide) (by decide) (by decide) (by decide)).trans hN.1), hk⟩ (by rw [h392]; exact hlc) (hL.ez e3') (hG.ez e3') z3 (by rw [z_sm_false]; rfl) (fun j hj => by cases hj) hP2 (fun σ4 y3 y4 y5 hP4 e4 => ?_)
    rw [h392, h402] at hP4
    have hP4 : z_pg σ4 (z_fos (σ 39) rf y.1 (z_tO (σ 39) (σ 40) k y.1)) := hP4
    have h394 : σ4 39 = σ 39 := (e4.1 39 (by decide) (by decide) (by decide)).trans h392
    have e5 := e4.tr e3'
    have hol := z_cap1 (t := σ 39) (u := σ 40) (k := k) (n := n) rf hcn hs
    refine e_aload k105_129 (q := 130) rfl rfl ?_
    refine e_iload k105_130 (q := 131) rfl rfl ?_
    refine g_cv k105_131 (q := 134) (as := [_]) rfl rfl rfl rfl (m_body rb hn (by omega) (by rw [h394]; exact hlc) (hL.ez e5) ((e5.2 36 (by decide)).trans hH) hP4 (by omega)) rfl (z_kv fun h131 p131 => ?_)
    obtain ⟨σ5, rfl, hP5, e6⟩ := p131
    refine e_const k105_134 (q := 135) rfl ?_
    refine e_iret k105_135 (by first | exact Or.inl rfl | exact Or.inr rfl | assumption) ?_
    refine ⟨_, _, rfl, σ5, rfl, (e6.ez.ey.tr e5.ey).tr ey1, ?_⟩
    rw [z_cf, hz]
    refine ⟨rfl, hP5.eq ?_⟩
    rw [h394, z_mb_bd, z_rd_bs _ _ y hz]
  · refine e_const k105_7 (q := 8) rfl ?_
    refine e_iret k105_8 (by first | exact Or.inl rfl | exact Or.inr rfl | assumption) ?_
    refine ⟨_, _, rfl, σ1, rfl, ey1, ?_⟩
    rw [z_cf]
    cases hz : z_rd (σ 39) n (z_ln (σ 39) n 0 0) [] with
    | none => rfl
    | some y => rw [hz] at q1; exact absurd (by rw [q1.1]; decide) c4
