/-! The class reads the message: lines, fields. -/
/-- the first place from a on, m places looked at, that holds no name's sign -/
def z_cp (t : Nat → Int32) (a : Nat) : Nat → Nat
  | 0 => a
  | m + 1 => if z_nm (t a) = 0 then a else z_cp t (a + 1) m
theorem z_cp_ge (t : Nat → Int32) : ∀ (m a : Nat), a ≤ z_cp t a m ∧ z_cp t a m ≤ a + m
  | 0, a => ⟨Nat.le_refl _, Nat.le_refl _⟩
  | m + 1, a => by
    unfold z_cp
    split
    · omega
    · have := z_cp_ge t m (a + 1)
      omega
/-- a head's line a..b and the fields so far (start, colon, end; newest first) -/
def z_rl (t : Nat → Int32) (a b : Nat) (F : List (Nat × Nat × Nat)) : Option (List (Nat × Nat × Nat)) :=
  if t a = 32 then (match F with
    | [] => none
    | x :: r => some ((x.1, x.2.1, b) :: r))
  else if (a < z_cp t a (b - a) ∧ z_cp t a (b - a) < b ∧ t (z_cp t a (b - a)) = 58) ∧ F.length ≠ 12 then some ((a, z_cp t a (b - a), b) :: F) else none
/-- the lines, from place i on, the line at hand begun at s -/
def z_ln (t : Nat → Int32) : Nat → Nat → Nat → List (Nat × Nat)
  | 0, i, s => if s < i then [(s, i)] else []
  | m + 1, i, s => if t i = 10 then (s, i) :: z_ln t m (i + 1) (i + 1) else z_ln t m (i + 1) s
/-- the head read: the fields, and where the body begins -/
def z_rd (t : Nat → Int32) (n : Nat) : List (Nat × Nat) → List (Nat × Nat × Nat) → Option (List (Nat × Nat × Nat) × Nat)
  | [], F => some (F, n)
  | (a, b) :: r, F => if a = b then some (F, b + 1) else match z_rl t a b F with
    | none => none
    | some F' => z_rd t n r F'
def z_fa (σ : Nat → Nat → Int32) : List (Nat × Nat × Nat) → Prop
  | [] => True
  | x :: r => σ 8 r.length = nI x.1 ∧ σ 9 r.length = nI x.2.1 ∧ σ 10 r.length = nI x.2.2 ∧ z_fa σ r
/-- the fields as they stand in the message's rows -/
def z_fl (σ : Nat → Nat → Int32) (F : List (Nat × Nat × Nat)) : Prop := σ 5 1 = nI F.length ∧ F.length ≤ 12 ∧ z_fa σ F
def z_em (σ' σ : Nat → Nat → Int32) : Prop := ∀ k, k ≠ 5 → k ≠ 8 → k ≠ 9 → k ≠ 10 → σ' k = σ k
theorem z_em.rf {σ : Nat → Nat → Int32} : z_em σ σ := fun _ _ _ _ _ => rfl
theorem z_em.tr {a b c : Nat → Nat → Int32} (h1 : z_em a b) (h2 : z_em b c) : z_em a c := fun k x y z w => (h1 k x y z w).trans (h2 k x y z w)
theorem z_tm.em {σ' σ : Nat → Nat → Int32} {n : Nat} (h : z_tm σ n) (e : z_em σ' σ) : z_tm σ' n := by
  unfold z_tm
  rw [e 6 (by decide) (by decide) (by decide) (by decide), e 7 (by decide) (by decide) (by decide) (by decide)]
  exact h
theorem z_fa.up {σ σ' : Nat → Nat → Int32} : ∀ (F : List (Nat × Nat × Nat)), z_fa σ F → (∀ j, j < F.length → σ' 8 j = σ 8 j ∧ σ' 9 j = σ 9 j ∧ σ' 10 j = σ 10 j) → z_fa σ' F
  | [], _, _ => trivial
  | x :: r, h, e => by
    obtain ⟨h1, h2, h3, h4⟩ := h
    obtain ⟨e1, e2, e3⟩ := e r.length (by rw [List.length_cons]; omega)
    exact ⟨e1.trans h1, e2.trans h2, e3.trans h3, z_fa.up r h4 (fun j hj => e j (by rw [List.length_cons]; omega))⟩
theorem l_colon {d : Nat} {h : zH} {ρ : Nat → Nat → Option Nat} {σ : Nat → Nat → Int32} {Q : zR → Prop} {n b : Nat} {x1 x4 : Option Value} (hb : b ≤ n) (hT : z_tm σ n) : ∀ (m i : Nat), i + m = b →
    z_E (d + 1) 59 27 [some (.ref 5), x1, some (.int (nI b)), some (.int (nI (z_cp (σ 7) i m))), x4] [] (z_G h σ ρ) Q →
    z_E (d + 1) 59 2 [some (.ref 5), x1, some (.int (nI b)), some (.int (nI i)), x4] [] (z_G h σ ρ) Q
  | 0, i, hi, kk => by
    obtain rfl : i = b := by omega
    have hn := hT.2.1
    refine e_iload k59_2 (q := 3) rfl rfl ?_
    refine e_iload k59_3 (q := 4) rfl rfl ?_
    refine e_ic k59_4 (q := 7) rfl (fun c4 => ?_) (fun c4 => absurd (nI_le (Nat.le_refl _) (by omega)) c4)
    exact kk
  | m + 1, i, hi, kk => by
    have hn := hT.2.1
    have hin : i < n := by omega
    refine e_iload k59_2 (q := 3) rfl rfl ?_
    refine e_iload k59_3 (q := 4) rfl rfl ?_
    refine e_ic k59_4 (q := 7) rfl (fun c4 => absurd c4 (nI_ge (show i < b by omega) (by omega))) (fun c4 => ?_)
    refine e_aload k59_7 (q := 8) rfl rfl ?_
    refine g_get k59_8 (q := 11) rfl rfl rfl ?_
    refine e_iload k59_11 (q := 12) rfl rfl ?_
    refine g_cv k59_12 (q := 15) (as := [_]) rfl rfl rfl rfl (m_codeT hT hin) rfl (z_ki fun x12 h12 p12 => ?_)
    obtain ⟨rfl, rfl⟩ := p12
    refine e_cs k59_15 (q := 18) (as := [_]) rfl rfl (Nat.le_of_ble_eq_true rfl) (m_isNameSign (σ 7 i)) rfl (z_ki fun x15 h15 p15 => ?_)
    obtain ⟨rfl, rfl⟩ := p15
    refine e_if k59_18 (q := 21) rfl (fun c18 => ?_) (fun c18 => ?_)
    · rw [z_cp, if_pos c18] at kk
      exact kk
    · rw [z_cp, if_neg c18] at kk
      refine e_iinc k59_21 (q := 24) (L' := [_, _, _, some (.int (nI (i + 1))), _]) rfl rfl (by rw [← nI_1]; rfl) ?_
      refine e_goto k59_24 ?_
      exact l_colon hb hT m (i + 1) (by omega) kk
theorem m_beginField {d : Nat} {h : zH} {ρ : Nat → Nat → Option Nat} {σ : Nat → Nat → Int32} {n a b : Nat} {F : List (Nat × Nat × Nat)} (hT : z_tm σ n) (hF : z_fl σ F) (hab : a ≤ b) (hb : b ≤ n) : z_M (d + 2) 59 [.ref 5, .int (nI a), .int (nI b)] (z_G h σ ρ) (z_qi fun x h' => ((a < z_cp (σ 7) a (b - a) ∧ z_cp (σ 7) a (b - a) < b ∧ σ 7 (z_cp (σ 7) a (b - a)) = 58) ∧ F.length ≠ 12 → x = 1 ∧ ∃ σ', h' = z_G h σ' ρ ∧ z_fl σ' ((a, z_cp (σ 7) a (b - a), b) :: F) ∧ z_em σ' σ ∧ σ' 5 2 = σ 5 2) ∧ (¬ ((a < z_cp (σ 7) a (b - a) ∧ z_cp (σ 7) a (b - a) < b ∧ σ 7 (z_cp (σ 7) a (b - a)) = 58) ∧ F.length ≠ 12) → x = 0 ∧ h' = z_G h σ ρ)) := by
  refine z_M.of ⟨Nat.le_of_ble_eq_true rfl, by simp [Value.category]⟩ (L := [some (.ref 5), some (.int (nI a)), some (.int (nI b)), none, none]) rfl ?_
  refine e_iload k59_0 (q := 1) rfl rfl ?_
  refine e_ist k59_1 (q := 2) (L' := [_, _, _, _, _]) rfl rfl rfl ?_
  refine l_colon hb hT (b - a) a (by omega) ?_
  have hcp := z_cp_ge (σ 7) (b - a) a
  generalize hc : z_cp (σ 7) a (b - a) = c at hcp ⊢
  have hn := hT.2.1
  refine e_iload k59_27 (q := 28) rfl rfl ?_
  refine e_iload k59_28 (q := 29) rfl rfl ?_
  refine e_ic k59_29 (q := 32) rfl (fun c29 => ?_) (fun c29 => ?_)
  · refine e_const k59_54 (q := 55) rfl ?_
    refine e_ist k59_55 (q := 57) (L' := [_, _, _, _, _]) rfl rfl rfl ?_
    refine e_iload k59_57 (q := 59) rfl rfl ?_
    refine e_if k59_59 (q := 62) rfl (fun c59 => ?_) (fun c59 => absurd rfl c59)
    refine e_const k59_71 (q := 72) rfl ?_
    refine e_iret k59_72 (by first | exact Or.inl rfl | exact Or.inr rfl | assumption) ?_
    exact ⟨_, _, rfl, fun z => absurd z (fun z => by have := (nI_leI (by omega) (by omega)).mp c29; omega), fun _ => ⟨rfl, rfl⟩⟩
  · have hca : a < c := by
      rcases Nat.lt_or_ge a c with z | z
      · exact z
      · exact absurd (nI_le z (by omega)) c29
    refine e_iload k59_32 (q := 33) rfl rfl ?_
    refine e_iload k59_33 (q := 34) rfl rfl ?_
    refine e_ic k59_34 (q := 37) rfl (fun c34 => ?_) (fun c34 => ?_)
    · refine e_const k59_54 (q := 55) rfl ?_
      refine e_ist k59_55 (q := 57) (L' := [_, _, _, _, _]) rfl rfl rfl ?_
      refine e_iload k59_57 (q := 59) rfl rfl ?_
      refine e_if k59_59 (q := 62) rfl (fun c59 => ?_) (fun c59 => absurd rfl c59)
      refine e_const k59_71 (q := 72) rfl ?_
      refine e_iret k59_72 (by first | exact Or.inl rfl | exact Or.inr rfl | assumption) ?_
      exact ⟨_, _, rfl, fun z => absurd z (fun z => by have := (nI_leI (by omega) (by omega)).mp c34; omega), fun _ => ⟨rfl, rfl⟩⟩
    · have hcb : c < b := by
        rcases Nat.lt_or_ge c b with z | z
        · exact z
        · exact absurd (nI_le z (by omega)) c34
      refine e_aload k59_37 (q := 38) rfl rfl ?_
      refine g_get k59_38 (q := 41) rfl rfl rfl ?_
      refine e_iload k59_41 (q := 42) rfl rfl ?_
      refine g_cv k59_42 (q := 45) (as := [_]) rfl rfl rfl rfl (m_codeT hT (show c < n by omega)) rfl (z_ki fun x42 h42 p42 => ?_)
      obtain ⟨rfl, rfl⟩ := p42
      refine e_const k59_45 (q := 47) rfl ?_
      refine e_ic k59_47 (q := 50) rfl (fun c47 => ?_) (fun c47 => ?_)
      · refine e_const k59_54 (q := 55) rfl ?_
        refine e_ist k59_55 (q := 57) (L' := [_, _, _, _, _]) rfl rfl rfl ?_
        refine e_iload k59_57 (q := 59) rfl rfl ?_
        refine e_if k59_59 (q := 62) rfl (fun c59 => ?_) (fun c59 => absurd rfl c59)
        refine e_const k59_71 (q := 72) rfl ?_
        refine e_iret k59_72 (by first | exact Or.inl rfl | exact Or.inr rfl | assumption) ?_
        exact ⟨_, _, rfl, fun z => absurd z (fun z => c47 z.1.2.2), fun _ => ⟨rfl, rfl⟩⟩
      · refine e_const k59_50 (q := 51) rfl ?_
        refine e_goto k59_51 ?_
        refine e_ist k59_55 (q := 57) (L' := [_, _, _, _, _]) rfl rfl rfl ?_
        refine e_iload k59_57 (q := 59) rfl rfl ?_
        refine e_if k59_59 (q := 62) rfl (fun c59 => absurd c59 (by decide)) (fun c59 => ?_)
        refine e_aload k59_62 (q := 63) rfl rfl ?_
        refine g_get k59_63 (q := 66) rfl rfl rfl ?_
        refine e_const k59_66 (q := 68) rfl ?_
        refine e_ic k59_68 (q := 71) rfl (fun c68 => ?_) (fun c68 => ?_)
        · have hl12 : F.length ≠ 12 := fun z => c68 (by rw [hF.1, z]; rfl)
          have hF1 := hF.2.1
          have hin : vp_in (σ 5 1) 12 := by rw [hF.1]; exact vp_in_nI (by omega) (by decide)
          refine e_aload k59_73 (q := 74) rfl rfl ?_
          refine g_get k59_74 (q := 77) rfl rfl rfl ?_
          refine e_aload k59_77 (q := 78) rfl rfl ?_
          refine g_get k59_78 (q := 81) rfl rfl rfl ?_
          refine e_iload k59_81 (q := 82) rfl rfl ?_
          refine g_aast k59_82 (q := 83) rfl (fun _ => rfl) (by assumption) ?_
          refine e_aload k59_83 (q := 84) rfl rfl ?_
          refine g_get k59_84 (q := 87) rfl rfl rfl ?_
          refine e_aload k59_87 (q := 88) rfl rfl ?_
          refine g_get k59_88 (q := 91) rfl rfl rfl ?_
          refine e_iload k59_91 (q := 92) rfl rfl ?_
          refine g_aast k59_92 (q := 93) rfl (fun _ => rfl) (by assumption) ?_
          refine e_aload k59_93 (q := 94) rfl rfl ?_
          refine g_get k59_94 (q := 97) rfl rfl rfl ?_
          refine e_aload k59_97 (q := 98) rfl rfl ?_
          refine g_get k59_98 (q := 101) rfl rfl rfl ?_
          refine e_iload k59_101 (q := 102) rfl rfl ?_
          refine g_aast k59_102 (q := 103) rfl (fun _ => rfl) (by assumption) ?_
          refine e_aload k59_103 (q := 104) rfl rfl ?_
          refine e_dup k59_104 (q := 105) rfl rfl ?_
          refine g_get k59_105 (q := 108) rfl rfl rfl ?_
          refine e_const k59_108 (q := 109) rfl ?_
          refine e_ib k59_109 (q := 110) rfl ?_
          refine g_put k59_110 (q := 113) rfl rfl ⟨_, rfl⟩ rfl ?_
          refine e_const k59_113 (q := 114) rfl ?_
          refine e_iret k59_114 (by first | exact Or.inl rfl | exact Or.inr rfl | assumption) ?_
          have hF1 := hF.2.1
          refine ⟨_, _, rfl, fun _ => ⟨rfl, _, rfl, ?_, ?_, ?_⟩, fun z => absurd ⟨⟨hca, hcb, Classical.not_not.mp c47⟩, hl12⟩ z⟩
          · refine ⟨?_, by rw [List.length_cons]; omega, ?_⟩
            · rw [List.length_cons, z_us_eq]
              show σ 5 1 + 1 = _
              rw [hF.1, nI_1]
            · refine ⟨?_, ?_, ?_, hF.2.2.up F (fun j hj => ?_)⟩
              · rw [z_us_ne _ _ (by decide), z_us_ne _ _ (by decide), z_us_ne _ _ (by decide), z_us_eq]
                exact (if_pos (by rw [hF.1, nI_clamp (by omega)])).trans rfl
              · rw [z_us_ne _ _ (by decide), z_us_ne _ _ (by decide), z_us_eq]
                exact (if_pos (by rw [z_us_ne _ _ (by decide), hF.1, nI_clamp (by omega)])).trans rfl
              · rw [z_us_ne _ _ (by decide), z_us_eq]
                exact (if_pos (by rw [z_us_ne _ _ (by decide), z_us_ne _ _ (by decide), hF.1, nI_clamp (by omega)])).trans rfl
              · refine ⟨?_, ?_, ?_⟩
                · rw [z_us_ne _ _ (by decide), z_us_ne _ _ (by decide), z_us_ne _ _ (by decide), z_us_eq]
                  exact if_neg (by rw [hF.1, nI_clamp (by omega)]; omega)
                · rw [z_us_ne _ _ (by decide), z_us_ne _ _ (by decide), z_us_eq]
                  exact (if_neg (by rw [z_us_ne _ _ (by decide), hF.1, nI_clamp (by omega)]; omega)).trans (by rw [z_us_ne _ _ (by decide)])
                · rw [z_us_ne _ _ (by decide), z_us_eq]
                  exact (if_neg (by rw [z_us_ne _ _ (by decide), z_us_ne _ _ (by decide), hF.1, nI_clamp (by omega)]; omega)).trans (by rw [z_us_ne _ _ (by decide), z_us_ne _ _ (by decide)])
          · intro k h1 h2 h3 h4
            rw [z_us_ne _ _ h1, z_us_ne _ _ h4, z_us_ne _ _ h3, z_us_ne _ _ h2]
          · rw [z_us_eq]
            rfl
        · have hF1 := hF.2.1
          have hl12 : F.length = 12 := (nI_eq (by omega) (by decide)).mp (by rw [← hF.1]; exact Classical.not_not.mp c68)
          refine e_const k59_71 (q := 72) rfl ?_
          refine e_iret k59_72 (by first | exact Or.inl rfl | exact Or.inr rfl | assumption) ?_
          exact ⟨_, _, rfl, fun z => absurd z (fun z => z.2 hl12), fun _ => ⟨rfl, rfl⟩⟩
