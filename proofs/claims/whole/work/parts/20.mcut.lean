/-! The model cuts the message into lines. -/
/-- lines that follow each other from s on up to n -/
def z_lc (t : Nat → Int32) (n : Nat) : Nat → List (Nat × Nat) → Prop
  | s, [] => s = n
  | s, x :: r => x.1 = s ∧ x.1 ≤ x.2 ∧ (∀ j, x.1 ≤ j → j < x.2 → ¬ t j = 10) ∧ ((x.2 < n ∧ t x.2 = 10 ∧ z_lc t n (x.2 + 1) r) ∨ (x.2 = n ∧ x.1 < x.2 ∧ r = []))
theorem z_ln_lc {t : Nat → Int32} {n : Nat} : ∀ (m i s : Nat), i + m = n → s ≤ i → (∀ j, s ≤ j → j < i → ¬ t j = 10) → z_lc t n s (z_ln t m i s)
  | 0, i, s, hi, hs, h => by
    rw [z_ln]
    split
    · exact ⟨rfl, hs, h, Or.inr ⟨by show i = n; omega, by assumption, rfl⟩⟩
    · show s = n
      omega
  | m + 1, i, s, hi, hs, h => by
    rw [z_ln]
    split
    · rename_i ht
      exact ⟨rfl, hs, h, Or.inl ⟨by show i < n; omega, ht, z_ln_lc m (i + 1) (i + 1) (by omega) (Nat.le_refl _) (fun j h1 h2 => by omega)⟩⟩
    · rename_i ht
      refine z_ln_lc m (i + 1) s (by omega) (by omega) (fun j h1 h2 => ?_)
      by_cases e : j = i
      · subst e; exact ht
      · exact h j h1 (by omega)
theorem z_ln_len (t : Nat → Int32) : ∀ (m i s : Nat), (z_ln t m i s).length ≤ m + 1
  | 0, i, s => by rw [z_ln]; split <;> simp
  | m + 1, i, s => by
    rw [z_ln]
    split
    · rw [List.length_cons]
      have := z_ln_len t m (i + 1) (i + 1)
      omega
    · have := z_ln_len t m (i + 1) s
      omega
/-- the model's text: n signs -/
def z_xm (σ : Nat → Nat → Int32) (n : Nat) : Prop := σ 18 24 = nI n ∧ n ≤ 240
/-- the model's lines -/
def z_la (σ : Nat → Nat → Int32) (A : List (Nat × Nat)) : Prop := σ 18 33 = nI A.length ∧ ∀ k, k < A.length → σ 45 k = nI (A.getD k (0, 0)).1 ∧ σ 46 k = nI (A.getD k (0, 0)).2
/-- only the model's lines are changed -/
def z_el (σ' σ : Nat → Nat → Int32) : Prop := (∀ k, k ≠ 18 → k ≠ 45 → k ≠ 46 → σ' k = σ k) ∧ ∀ j, j ≠ 33 → j ≠ 36 → σ' 18 j = σ 18 j
theorem z_el.rf {σ : Nat → Nat → Int32} : z_el σ σ := ⟨fun _ _ _ _ => rfl, fun _ _ _ => rfl⟩
theorem z_el.tr {a b c : Nat → Nat → Int32} (h1 : z_el a b) (h2 : z_el b c) : z_el a c := ⟨fun k x y z => (h1.1 k x y z).trans (h2.1 k x y z), fun j x y => (h1.2 j x y).trans (h2.2 j x y)⟩
theorem z_xm.el {σ' σ : Nat → Nat → Int32} {n : Nat} (h : z_xm σ n) (e : z_el σ' σ) : z_xm σ' n := ⟨(e.2 24 (by decide) (by decide)).trans h.1, h.2⟩
theorem z_la.put {σ : Nat → Nat → Int32} {A : List (Nat × Nat)} {a b : Nat} (h : z_la σ A) : z_la (z_us (z_us (z_us σ 45 (upd (σ 45) A.length (nI a))) 46 (upd (σ 46) A.length (nI b))) 18 (upd (σ 18) 33 (nI (A.length + 1)))) (A ++ [(a, b)]) ∧ z_el (z_us (z_us (z_us σ 45 (upd (σ 45) A.length (nI a))) 46 (upd (σ 46) A.length (nI b))) 18 (upd (σ 18) 33 (nI (A.length + 1)))) σ := by
  refine ⟨⟨?_, fun k hk => ?_⟩, fun k h1 h2 h3 => ?_, fun j h1 h2 => ?_⟩
  · rw [z_us_eq, List.length_append]
    exact if_pos rfl
  · rw [List.length_append] at hk
    have hk : k < A.length + 1 := hk
    rw [z_us_ne _ _ (by decide), z_us_ne _ _ (by decide), z_us_eq, z_us_ne _ _ (by decide), z_us_eq, List.getD_eq_getElem?_getD]
    by_cases e : k = A.length
    · subst e
      rw [List.getElem?_append_right (Nat.le_refl _), Nat.sub_self]
      exact ⟨if_pos rfl, if_pos rfl⟩
    · rw [List.getElem?_append_left (by omega), ← List.getD_eq_getElem?_getD]
      have := h.2 k (by omega)
      exact ⟨(if_neg e).trans this.1, (if_neg e).trans this.2⟩
  · rw [z_us_ne _ _ h1, z_us_ne _ _ h3, z_us_ne _ _ h2]
  · rw [z_us_eq]
    exact if_neg h1
/-- the first line without signs -/
def z_he : List (Nat × Nat) → Nat
  | [] => 0
  | x :: r => if x.1 = x.2 then 0 else z_he r + 1
theorem l_cut1 {d : Nat} {h : zH} {ρ : Nat → Nat → Option Nat} {Q : zR → Prop} {n : Nat} : ∀ (m i s : Nat) (σ : Nat → Nat → Int32) (A : List (Nat × Nat)), i + m = n → s ≤ i → A.length ≤ s → z_xm σ n → z_la σ A →
    (∀ σ' x2, z_la σ' (A ++ z_ln (σ 39) m i s) → z_el σ' σ → z_E d 95 109 [some (.ref 18), x2, some (.int (nI n))] [] (z_G h σ' ρ) Q) →
    z_E d 95 9 [some (.ref 18), some (.int (nI s)), some (.int (nI i))] [] (z_G h σ ρ) Q
  | 0, i, s, σ, A, hi, hs, hA, hT, hL, kk => by
    obtain rfl : i = n := by omega
    have hn := hT.2
    have hin : vp_in (σ 18 33) 241 := by rw [hL.1]; exact vp_in_nI (by omega) (by decide)
    have hcl : (σ 18 33).toNatClampNeg = A.length := by rw [hL.1]; exact nI_clamp (by omega)
    refine e_iload k95_9 (q := 10) rfl rfl ?_
    refine e_aload k95_10 (q := 11) rfl rfl ?_
    refine g_get k95_11 (q := 14) rfl rfl rfl ?_
    refine e_ic k95_14 (q := 17) rfl (fun c14 => ?_) (fun c14 => absurd (by show σ 18 24 ≤ nI i; rw [hT.1]; exact nI_le (Nat.le_refl _) (by omega)) c14)
    refine e_iload k95_68 (q := 69) rfl rfl ?_
    refine e_aload k95_69 (q := 70) rfl rfl ?_
    refine g_get k95_70 (q := 73) rfl rfl rfl ?_
    refine e_ic k95_73 (q := 76) rfl (fun c73 => ?_) (fun c73 => ?_)
    · have hsi : ¬ s < i := fun z => nI_ge z (by omega) (by
        have c : σ 18 24 ≤ nI s := c73
        rw [hT.1] at c
        exact c)
      exact kk σ _ (by rw [z_ln, if_neg hsi, List.append_nil]; exact hL) z_el.rf
    · refine e_aload k95_76 (q := 77) rfl rfl ?_
      refine g_get k95_77 (q := 80) rfl rfl rfl ?_
      refine e_aload k95_80 (q := 81) rfl rfl ?_
      refine g_get k95_81 (q := 84) rfl rfl rfl ?_
      refine e_iload k95_84 (q := 85) rfl rfl ?_
      refine g_aast k95_85 (q := 86) rfl (fun _ => rfl) (by assumption) ?_
      refine e_aload k95_86 (q := 87) rfl rfl ?_
      refine g_get k95_87 (q := 90) rfl rfl rfl ?_
      refine e_aload k95_90 (q := 91) rfl rfl ?_
      refine g_get k95_91 (q := 94) rfl rfl rfl ?_
      refine e_aload k95_94 (q := 95) rfl rfl ?_
      refine g_get k95_95 (q := 98) rfl rfl rfl ?_
      refine g_aast k95_98 (q := 99) rfl (fun _ => rfl) (by assumption) ?_
      refine e_aload k95_99 (q := 100) rfl rfl ?_
      refine e_dup k95_100 (q := 101) rfl rfl ?_
      refine g_get k95_101 (q := 104) rfl rfl rfl ?_
      refine e_const k95_104 (q := 105) rfl ?_
      refine e_ib k95_105 (q := 106) rfl ?_
      refine g_put k95_106 (q := 109) rfl rfl ⟨_, rfl⟩ rfl ?_
      have hsi : s < i := by
        rcases Nat.lt_or_ge s i with z | z
        · exact z
        · exact absurd (show σ 18 24 ≤ nI s by rw [hT.1]; exact nI_le z (by omega)) c73
      have hp := hL.put (a := s) (b := i)
      have he : z_us (z_us (z_us σ 45 (upd (σ 45) (σ 18 33).toNatClampNeg (vp_nar .int (nI s)))) 46 (upd (z_us σ 45 (upd (σ 45) (σ 18 33).toNatClampNeg (vp_nar .int (nI s))) 46) (z_us σ 45 (upd (σ 45) (σ 18 33).toNatClampNeg (vp_nar .int (nI s))) 18 33).toNatClampNeg (vp_nar .int (z_us σ 45 (upd (σ 45) (σ 18 33).toNatClampNeg (vp_nar .int (nI s))) 18 24)))) 18 (upd (z_us (z_us σ 45 (upd (σ 45) (σ 18 33).toNatClampNeg (vp_nar .int (nI s)))) 46 (upd (z_us σ 45 (upd (σ 45) (σ 18 33).toNatClampNeg (vp_nar .int (nI s))) 46) (z_us σ 45 (upd (σ 45) (σ 18 33).toNatClampNeg (vp_nar .int (nI s))) 18 33).toNatClampNeg (vp_nar .int (z_us σ 45 (upd (σ 45) (σ 18 33).toNatClampNeg (vp_nar .int (nI s))) 18 24))) 18) 33 (z_us (z_us σ 45 (upd (σ 45) (σ 18 33).toNatClampNeg (vp_nar .int (nI s)))) 46 (upd (z_us σ 45 (upd (σ 45) (σ 18 33).toNatClampNeg (vp_nar .int (nI s))) 46) (z_us σ 45 (upd (σ 45) (σ 18 33).toNatClampNeg (vp_nar .int (nI s))) 18 33).toNatClampNeg (vp_nar .int (z_us σ 45 (upd (σ 45) (σ 18 33).toNatClampNeg (vp_nar .int (nI s))) 18 24))) 18 33 + 1)) = z_us (z_us (z_us σ 45 (upd (σ 45) A.length (nI s))) 46 (upd (σ 46) A.length (nI i))) 18 (upd (σ 18) 33 (nI (A.length + 1))) := by
        rw [z_us_ne σ (a := 45) (k := 18) _ (by decide), z_us_ne σ (a := 45) (k := 46) _ (by decide), z_us_ne _ (a := 46) (k := 18) _ (by decide), z_us_ne σ (a := 45) (k := 18) _ (by decide), hcl, hT.1, hL.1, nI_1]
        rfl
      rw [he]
      exact kk _ _ (by rw [z_ln, if_pos hsi]; exact hp.1) hp.2
  | m + 1, i, s, σ, A, hi, hs, hA, hT, hL, kk => by
    have hn := hT.2
    have hin : vp_in (σ 18 33) 241 := by rw [hL.1]; exact vp_in_nI (by omega) (by decide)
    have hcl : (σ 18 33).toNatClampNeg = A.length := by rw [hL.1]; exact nI_clamp (by omega)
    have hii : vp_in (nI i) 240 := vp_in_nI (by omega) (by decide)
    have hci : (nI i).toNatClampNeg = i := nI_clamp (by omega)
    refine e_iload k95_9 (q := 10) rfl rfl ?_
    refine e_aload k95_10 (q := 11) rfl rfl ?_
    refine g_get k95_11 (q := 14) rfl rfl rfl ?_
    refine e_ic k95_14 (q := 17) rfl (fun c14 => absurd c14 (by show ¬ σ 18 24 ≤ nI i; rw [hT.1]; exact nI_ge (by omega) (by omega))) (fun c14 => ?_)
    refine e_aload k95_17 (q := 18) rfl rfl ?_
    refine g_get k95_18 (q := 21) rfl rfl rfl ?_
    refine e_iload k95_21 (q := 22) rfl rfl ?_
    refine g_ald k95_22 (q := 23) rfl rfl hii ?_
    rw [hci]
    refine e_const k95_23 (q := 25) rfl ?_
    refine e_ic k95_25 (q := 28) rfl (fun c25 => ?_) (fun c25 => ?_)
    · refine e_iinc k95_62 (q := 65) (L' := [_, _, some (.int (nI (i + 1)))]) rfl rfl (by rw [nI_1]; rfl) ?_
      refine e_goto k95_65 ?_
      refine l_cut1 m (i + 1) s σ A (by omega) (by omega) hA hT hL (fun σ2 x2 h2 e2 => kk σ2 x2 ?_ e2)
      rw [z_ln, if_neg c25]
      exact h2
    · refine e_aload k95_28 (q := 29) rfl rfl ?_
      refine g_get k95_29 (q := 32) rfl rfl rfl ?_
      refine e_aload k95_32 (q := 33) rfl rfl ?_
      refine g_get k95_33 (q := 36) rfl rfl rfl ?_
      refine e_iload k95_36 (q := 37) rfl rfl ?_
      refine g_aast k95_37 (q := 38) rfl (fun _ => rfl) (by assumption) ?_
      refine e_aload k95_38 (q := 39) rfl rfl ?_
      refine g_get k95_39 (q := 42) rfl rfl rfl ?_
      refine e_aload k95_42 (q := 43) rfl rfl ?_
      refine g_get k95_43 (q := 46) rfl rfl rfl ?_
      refine e_iload k95_46 (q := 47) rfl rfl ?_
      refine g_aast k95_47 (q := 48) rfl (fun _ => rfl) (by assumption) ?_
      refine e_aload k95_48 (q := 49) rfl rfl ?_
      refine e_dup k95_49 (q := 50) rfl rfl ?_
      refine g_get k95_50 (q := 53) rfl rfl rfl ?_
      refine e_const k95_53 (q := 54) rfl ?_
      refine e_ib k95_54 (q := 55) rfl ?_
      refine g_put k95_55 (q := 58) rfl rfl ⟨_, rfl⟩ rfl ?_
      refine e_iload k95_58 (q := 59) rfl rfl ?_
      refine e_const k95_59 (q := 60) rfl ?_
      refine e_ib k95_60 (q := 61) rfl ?_
      refine e_ist k95_61 (q := 62) (L' := [_, some (.int (nI (i + 1))), _]) rfl rfl (by rw [nI_1]; rfl) ?_
      refine e_iinc k95_62 (q := 65) (L' := [_, _, some (.int (nI (i + 1)))]) rfl rfl (by rw [nI_1]; rfl) ?_
      refine e_goto k95_65 ?_
      have hp := hL.put (a := s) (b := i)
      have he : z_us (z_us (z_us σ 45 (upd (σ 45) (σ 18 33).toNatClampNeg (vp_nar .int (nI s)))) 46 (upd (z_us σ 45 (upd (σ 45) (σ 18 33).toNatClampNeg (vp_nar .int (nI s))) 46) (z_us σ 45 (upd (σ 45) (σ 18 33).toNatClampNeg (vp_nar .int (nI s))) 18 33).toNatClampNeg (vp_nar .int (nI i)))) 18 (upd (z_us (z_us σ 45 (upd (σ 45) (σ 18 33).toNatClampNeg (vp_nar .int (nI s)))) 46 (upd (z_us σ 45 (upd (σ 45) (σ 18 33).toNatClampNeg (vp_nar .int (nI s))) 46) (z_us σ 45 (upd (σ 45) (σ 18 33).toNatClampNeg (vp_nar .int (nI s))) 18 33).toNatClampNeg (vp_nar .int (nI i))) 18) 33 (z_us (z_us σ 45 (upd (σ 45) (σ 18 33).toNatClampNeg (vp_nar .int (nI s)))) 46 (upd (z_us σ 45 (upd (σ 45) (σ 18 33).toNatClampNeg (vp_nar .int (nI s))) 46) (z_us σ 45 (upd (σ 45) (σ 18 33).toNatClampNeg (vp_nar .int (nI s))) 18 33).toNatClampNeg (vp_nar .int (nI i))) 18 33 + 1)) = z_us (z_us (z_us σ 45 (upd (σ 45) A.length (nI s))) 46 (upd (σ 46) A.length (nI i))) 18 (upd (σ 18) 33 (nI (A.length + 1))) := by
        rw [z_us_ne σ (a := 45) (k := 18) _ (by decide), z_us_ne σ (a := 45) (k := 46) _ (by decide), z_us_ne _ (a := 46) (k := 18) _ (by decide), z_us_ne σ (a := 45) (k := 18) _ (by decide), hcl, hL.1, nI_1]
        rfl
      rw [he]
      refine l_cut1 m (i + 1) (i + 1) _ (A ++ [(s, i)]) (by omega) (Nat.le_refl _) (by rw [List.length_append]; show A.length + 1 ≤ i + 1; omega) (hT.el hp.2) hp.1 (fun σ2 x2 h2 e2 => kk σ2 x2 ?_ (e2.tr hp.2))
      rw [hp.2.1 39 (by decide) (by decide) (by decide), List.append_assoc] at h2
      rw [z_ln, if_pos (Classical.not_not.mp c25)]
      exact h2
theorem l_cut2 {d : Nat} {h : zH} {ρ : Nat → Nat → Option Nat} {P : zH → Prop} {A : List (Nat × Nat)} {x1 : Option Value} (hA : A.length ≤ 241) : ∀ (i : Nat) (σ : Nat → Nat → Int32), i ≤ A.length → z_la σ A → (∀ x ∈ A, x.1 < 2 ^ 31 ∧ x.2 < 2 ^ 31) → σ 18 36 = nI (i + z_he (A.drop i)) →
    (∀ σ', z_la σ' A → σ' 18 36 = nI (z_he A) → z_el σ' σ → P (z_G h σ' ρ)) →
    z_E d 95 124 [some (.ref 18), x1, some (.int (nI i - 1))] [] (z_G h σ ρ) (z_qv P)
  | 0, σ, hi, hL, hx, h36, kk => by
    rw [Nat.zero_add, List.drop_zero] at h36
    refine e_iload k95_124 (q := 125) rfl rfl ?_
    refine e_if k95_125 (q := 128) rfl (fun c125 => ?_) (fun c125 => absurd (by decide) c125)
    refine e_vret k95_161 ?_
    exact ⟨_, rfl, kk σ hL h36 z_el.rf⟩
  | i + 1, σ, hi, hL, hx, h36, kk => by
    rw [nI_pred]
    have hil : i < A.length := by omega
    have hin : vp_in (nI i) 241 := vp_in_nI (by omega) (by decide)
    have hcl : (nI i).toNatClampNeg = i := nI_clamp (by omega)
    obtain ⟨l1, l2⟩ := hL.2 i hil
    have hdr : A.drop i = A.getD i (0, 0) :: A.drop (i + 1) := by rw [List.drop_eq_getElem_cons hil, List.getD_eq_getElem?_getD, List.getElem?_eq_getElem hil]; rfl
    have hmem : A.getD i (0, 0) ∈ A := by rw [List.getD_eq_getElem?_getD, List.getElem?_eq_getElem hil]; exact List.getElem_mem hil
    obtain ⟨m1, m2⟩ := hx _ hmem
    refine e_iload k95_124 (q := 125) rfl rfl ?_
    refine e_if k95_125 (q := 128) rfl (fun c125 => absurd c125 (nI_pos (by omega))) (fun c125 => ?_)
    refine e_aload k95_128 (q := 129) rfl rfl ?_
    refine e_aload k95_129 (q := 130) rfl rfl ?_
    refine g_get k95_130 (q := 133) rfl rfl rfl ?_
    refine e_iload k95_133 (q := 134) rfl rfl ?_
    refine g_ald k95_134 (q := 135) rfl rfl (by assumption) ?_
    refine e_aload k95_135 (q := 136) rfl rfl ?_
    refine g_get k95_136 (q := 139) rfl rfl rfl ?_
    refine e_iload k95_139 (q := 140) rfl rfl ?_
    refine g_ald k95_140 (q := 141) rfl rfl (by assumption) ?_
    rw [hcl, l1, l2]
    refine e_ic k95_141 (q := 144) rfl (fun c141 => ?_) (fun c141 => ?_)
    · have hab : ¬ (A.getD i (0, 0)).1 = (A.getD i (0, 0)).2 := fun z => c141 (by rw [z])
      refine e_aload k95_148 (q := 149) rfl rfl ?_
      refine g_get k95_149 (q := 152) rfl rfl rfl ?_
      refine g_put k95_152 (q := 155) rfl rfl ⟨_, rfl⟩ rfl ?_
      refine e_iinc k95_155 (q := 158) (L' := [_, _, some (.int (nI i - 1))]) rfl rfl (by rw [Int32.sub_eq_add_neg]; rfl) ?_
      refine e_goto k95_158 ?_
      have e1 : z_el (z_us σ 18 (upd (σ 18) 36 (σ 18 36))) σ := ⟨fun k h1 _ _ => z_us_ne _ _ h1, fun j _ h2 => by rw [z_us_eq]; exact if_neg h2⟩
      refine l_cut2 hA i _ (by omega) ⟨?_, fun k hk => ?_⟩ hx ?_ (fun σ2 h2 f2 e2 => kk σ2 h2 f2 (e2.tr e1))
      · rw [z_us_eq]
        exact (if_neg (by decide)).trans hL.1
      · rw [z_us_ne _ _ (by decide), z_us_ne _ _ (by decide)]
        exact hL.2 k hk
      · rw [z_us_eq, show upd (σ 18) 36 (σ 18 36) 36 = σ 18 36 from if_pos rfl, hdr, z_he, if_neg hab, h36]
        congr 1
        omega
    · have hab : (A.getD i (0, 0)).1 = (A.getD i (0, 0)).2 := (nI_eq m1 m2).mp (Classical.not_not.mp c141)
      refine e_iload k95_144 (q := 145) rfl rfl ?_
      refine e_goto k95_145 ?_
      refine g_put k95_152 (q := 155) rfl rfl ⟨_, rfl⟩ rfl ?_
      refine e_iinc k95_155 (q := 158) (L' := [_, _, some (.int (nI i - 1))]) rfl rfl (by rw [Int32.sub_eq_add_neg]; rfl) ?_
      refine e_goto k95_158 ?_
      have e1 : z_el (z_us σ 18 (upd (σ 18) 36 (nI i))) σ := ⟨fun k h1 _ _ => z_us_ne _ _ h1, fun j _ h2 => by rw [z_us_eq]; exact if_neg h2⟩
      refine l_cut2 hA i _ (by omega) ⟨?_, fun k hk => ?_⟩ hx ?_ (fun σ2 h2 f2 e2 => kk σ2 h2 f2 (e2.tr e1))
      · rw [z_us_eq]
        exact (if_neg (by decide)).trans hL.1
      · rw [z_us_ne _ _ (by decide), z_us_ne _ _ (by decide)]
        exact hL.2 k hk
      · rw [z_us_eq, show upd (σ 18) 36 (nI i) 36 = nI i from if_pos rfl, hdr, z_he, if_pos hab]
        rfl
theorem z_lc.bd {t : Nat → Int32} {n : Nat} : ∀ {s : Nat} {A : List (Nat × Nat)}, z_lc t n s A → s ≤ n → ∀ x ∈ A, s ≤ x.1 ∧ x.1 ≤ x.2 ∧ x.2 ≤ n
  | s, [], _, _ => fun x hx => by cases hx
  | s, y :: r, h, hs => fun x hx => by
    obtain ⟨h1, h2, h3, h4⟩ := h
    rcases List.mem_cons.mp hx with rfl | hx
    · rcases h4 with ⟨h5, _⟩ | ⟨h5, _⟩ <;> omega
    · rcases h4 with ⟨h5, _, h6⟩ | ⟨h5, _, rfl⟩
      · have := z_lc.bd h6 (by omega) x hx
        omega
      · cases hx
theorem m_cutM {d : Nat} {h : zH} {ρ : Nat → Nat → Option Nat} {σ : Nat → Nat → Int32} {n : Nat} (hT : z_xm σ n) : z_M (d + 1) 95 [.ref 18] (z_G h σ ρ) (z_qv fun h' => ∃ σ', h' = z_G h σ' ρ ∧ z_la σ' (z_ln (σ 39) n 0 0) ∧ σ' 18 36 = nI (z_he (z_ln (σ 39) n 0 0)) ∧ z_el σ' σ) := by
  refine z_M.of ⟨Nat.le_of_ble_eq_true rfl, by simp [Value.category]⟩ (L := [some (.ref 18), none, none]) rfl ?_
  have e0 : z_el (z_us σ 18 (upd (σ 18) 33 0)) σ := ⟨fun k h1 _ _ => z_us_ne _ _ h1, fun j h1 _ => by rw [z_us_eq]; exact if_neg h1⟩
  have hn := hT.2
  refine e_aload k95_0 (q := 1) rfl rfl ?_
  refine e_const k95_1 (q := 2) rfl ?_
  refine g_put k95_2 (q := 5) rfl rfl ⟨_, rfl⟩ rfl ?_
  refine e_const k95_5 (q := 6) rfl ?_
  refine e_ist k95_6 (q := 7) (L' := [_, _, _]) rfl rfl rfl ?_
  refine e_const k95_7 (q := 8) rfl ?_
  refine e_ist k95_8 (q := 9) (L' := [_, _, _]) rfl rfl rfl ?_
  refine l_cut1 n 0 0 _ [] (by omega) (Nat.le_refl _) (Nat.le_refl _) (hT.el e0) ⟨by rw [z_us_eq]; rfl, fun k hk => absurd hk (Nat.not_lt_zero _)⟩ (fun σ1 x1 h1 e1 => ?_)
  rw [List.nil_append, e0.1 39 (by decide) (by decide) (by decide)] at h1
  have hlen := z_ln_len (σ 39) n 0 0
  have hlc := z_ln_lc (t := σ 39) (n := n) n 0 0 (by omega) (Nat.le_refl _) (fun j _ h2 => absurd h2 (Nat.not_lt_zero _))
  have hbd := hlc.bd (Nat.zero_le _)
  generalize z_ln (σ 39) n 0 0 = A at h1 hlen hbd ⊢
  refine e_aload k95_109 (q := 110) rfl rfl ?_
  refine e_aload k95_110 (q := 111) rfl rfl ?_
  refine g_get k95_111 (q := 114) rfl rfl rfl ?_
  refine g_put k95_114 (q := 117) rfl rfl ⟨_, rfl⟩ rfl ?_
  refine e_aload k95_117 (q := 118) rfl rfl ?_
  refine g_get k95_118 (q := 121) rfl rfl rfl ?_
  refine e_const k95_121 (q := 122) rfl ?_
  refine e_ib k95_122 (q := 123) rfl ?_
  rw [show (z_us σ1 18 (upd (σ1 18) 36 (σ1 18 33)) 18 33) = nI A.length by rw [z_us_eq]; exact (if_neg (by decide)).trans h1.1]
  refine e_ist k95_123 (q := 124) (L' := [_, _, _]) rfl rfl rfl ?_
  have e2 : z_el (z_us σ1 18 (upd (σ1 18) 36 (σ1 18 33))) σ1 := ⟨fun k h1 _ _ => z_us_ne _ _ h1, fun j _ h2 => by rw [z_us_eq]; exact if_neg h2⟩
  refine l_cut2 (by omega) A.length _ (Nat.le_refl _) ⟨?_, fun k hk => ?_⟩ (fun x hx => by have := hbd x hx; omega) ?_ (fun σ3 h3 f3 e3 => ⟨σ3, rfl, h3, f3, e3.tr (e2.tr (e1.tr e0))⟩)
  · rw [z_us_eq]
    exact (if_neg (by decide)).trans h1.1
  · rw [z_us_ne _ _ (by decide), z_us_ne _ _ (by decide)]
    exact h1.2 k hk
  · rw [z_us_eq, List.drop_length]
    exact (if_pos rfl).trans h1.1
