/-! The model reads the head. -/
theorem z_rl_n {t : Nat → Int32} {a b : Nat} {F : List (Nat × Nat × Nat)} (h : ¬ t a = 32) : z_rl t a b F = if (a < z_cp t a (b - a) ∧ z_cp t a (b - a) < b ∧ t (z_cp t a (b - a)) = 58) ∧ F.length ≠ 12 then some ((a, z_cp t a (b - a), b) :: F) else none := by
  unfold z_rl
  rw [if_neg h]
/-- the model's fields (newest first): first line, last line (before K), length of the name -/
def z_ga (σ : Nat → Nat → Int32) (A : List (Nat × Nat)) (K : Nat) : List (Nat × Nat × Nat) → Prop
  | [] => True
  | x :: r => (∃ k1 k2, σ 47 r.length = nI k1 ∧ σ 48 r.length = nI k2 ∧ k1 ≤ k2 ∧ k2 < K ∧ (A.getD k1 (0, 0)).1 = x.1 ∧ (A.getD k2 (0, 0)).2 = x.2.2) ∧ σ 49 r.length = nI (x.2.1 - x.1) ∧ z_ga σ A K r
def z_gl (σ : Nat → Nat → Int32) (A : List (Nat × Nat)) (K : Nat) (F : List (Nat × Nat × Nat)) : Prop := σ 18 37 = nI F.length ∧ F.length ≤ 12 ∧ z_ga σ A K F
theorem z_ga.up {σ σ' : Nat → Nat → Int32} {A : List (Nat × Nat)} {K K' : Nat} (hK : K ≤ K') : ∀ (F : List (Nat × Nat × Nat)), z_ga σ A K F → (∀ j, j < F.length → σ' 47 j = σ 47 j ∧ σ' 48 j = σ 48 j ∧ σ' 49 j = σ 49 j) → z_ga σ' A K' F
  | [], _, _ => trivial
  | x :: r, h, e => by
    obtain ⟨⟨k1, k2, h1, h2, h3, h4, h5, h6⟩, h7, h8⟩ := h
    obtain ⟨e1, e2, e3⟩ := e r.length (by rw [List.length_cons]; omega)
    exact ⟨⟨k1, k2, e1.trans h1, e2.trans h2, h3, by omega, h5, h6⟩, e3.trans h7, z_ga.up hK r h8 (fun j hj => e j (by rw [List.length_cons]; omega))⟩
def z_er (σ' σ : Nat → Nat → Int32) : Prop := (∀ k, k ≠ 18 → k ≠ 47 → k ≠ 48 → k ≠ 49 → σ' k = σ k) ∧ ∀ j, j ≠ 37 → σ' 18 j = σ 18 j
theorem z_er.rf {σ : Nat → Nat → Int32} : z_er σ σ := ⟨fun _ _ _ _ _ => rfl, fun _ _ => rfl⟩
theorem z_er.tr {a b c : Nat → Nat → Int32} (h1 : z_er a b) (h2 : z_er b c) : z_er a c := ⟨fun k x y z w => (h1.1 k x y z w).trans (h2.1 k x y z w), fun j x => (h1.2 j x).trans (h2.2 j x)⟩
theorem z_la.er {σ' σ : Nat → Nat → Int32} {A : List (Nat × Nat)} (h : z_la σ A) (e : z_er σ' σ) : z_la σ' A := by
  refine ⟨(e.2 33 (by decide)).trans h.1, fun k hk => ?_⟩
  rw [e.1 45 (by decide) (by decide) (by decide) (by decide), e.1 46 (by decide) (by decide) (by decide) (by decide)]
  exact h.2 k hk
theorem z_he_le : ∀ (A : List (Nat × Nat)), z_he A ≤ A.length
  | [] => Nat.le_refl _
  | x :: r => by
    rw [z_he]
    split
    · exact Nat.zero_le _
    · have := z_he_le r
      rw [List.length_cons]
      omega
theorem z_he_ne : ∀ (A : List (Nat × Nat)) (k : Nat), k < z_he A → ¬ (A.getD k (0, 0)).1 = (A.getD k (0, 0)).2
  | [], k, h => absurd h (Nat.not_lt_zero _)
  | x :: r, k, h => by
    rw [z_he] at h
    split at h
    · exact absurd h (Nat.not_lt_zero _)
    · rename_i hx
      cases k with
      | zero => exact hx
      | succ k =>
        rw [List.getD_cons_succ]
        exact z_he_ne r k (by omega)
theorem z_he_end (t : Nat → Int32) (n : Nat) (F : List (Nat × Nat × Nat)) : ∀ (A : List (Nat × Nat)), ∃ bs, z_rd t n (A.drop (z_he A)) F = some (F, bs)
  | [] => ⟨n, rfl⟩
  | x :: r => by
    rw [z_he]
    split
    · rename_i hx
      exact ⟨x.2 + 1, by rw [List.drop_zero]; obtain ⟨a, b⟩ := x; exact (if_pos hx).trans rfl⟩
    · exact z_he_end t n F r
/-- where the body begins, by the lines -/
def z_bs (A : List (Nat × Nat)) (n : Nat) : Nat := if z_he A < A.length then (A.getD (z_he A) (0, 0)).2 + 1 else n
theorem z_rd_bs {t : Nat → Int32} {n : Nat} : ∀ (A : List (Nat × Nat)) (F : List (Nat × Nat × Nat)) (y : List (Nat × Nat × Nat) × Nat), z_rd t n A F = some y → y.2 = z_bs A n
  | [], F, y, h => by cases h; rfl
  | (a, b) :: r, F, y, h => by
    rw [z_rd] at h
    unfold z_bs
    rw [z_he]
    split at h
    · rename_i hab
      cases h
      rw [if_pos (show (a, b).1 = (a, b).2 from hab), if_pos (by rw [List.length_cons]; omega)]
      rfl
    · rename_i hab
      cases hz : z_rl t a b F with
      | none => rw [hz] at h; cases h
      | some G =>
        rw [hz] at h
        have := z_rd_bs r G y h
        rw [this, if_neg (show ¬ (a, b).1 = (a, b).2 from hab), List.length_cons, List.getD_cons_succ]
        unfold z_bs
        by_cases l : z_he r < r.length
        · rw [if_pos l, if_pos (by omega)]
        · rw [if_neg l, if_neg (by omega)]
theorem l_colonM {d : Nat} {h : zH} {ρ : Nat → Nat → Option Nat} {σ : Nat → Nat → Int32} {Q : zR → Prop} {k a b : Nat} (hk : k < 241) (hb : b ≤ 240) (h45 : σ 45 k = nI a) (h46 : σ 46 k = nI b) : ∀ (m j : Nat), a + j + m = b →
    (∀ j', a + j' = z_cp (σ 39) (a + j) m → z_E (d + 1) 96 104 [some (.ref 18), some (.int (nI k)), some (.int (nI j'))] [] (z_G h σ ρ) Q) →
    z_E (d + 1) 96 61 [some (.ref 18), some (.int (nI k)), some (.int (nI j))] [] (z_G h σ ρ) Q
  | 0, j, hj, kk => by
    have hin : vp_in (nI k) 241 := vp_in_nI hk (by decide)
    have hcl : (nI k).toNatClampNeg = k := nI_clamp (by omega)
    refine e_aload k96_61 (q := 62) rfl rfl ?_
    refine g_get k96_62 (q := 65) rfl rfl rfl ?_
    refine e_iload k96_65 (q := 66) rfl rfl ?_
    refine g_ald k96_66 (q := 67) rfl rfl (by assumption) ?_
    refine e_iload k96_67 (q := 68) rfl rfl ?_
    refine e_ib k96_68 (q := 69) rfl ?_
    refine e_aload k96_69 (q := 70) rfl rfl ?_
    refine g_get k96_70 (q := 73) rfl rfl rfl ?_
    refine e_iload k96_73 (q := 74) rfl rfl ?_
    refine g_ald k96_74 (q := 75) rfl rfl (by assumption) ?_
    rw [hcl, h45, h46, nI_add]
    refine e_ic k96_75 (q := 78) rfl (fun c75 => ?_) (fun c75 => absurd (nI_le (show b ≤ a + j by omega) (by omega)) c75)
    exact kk j rfl
  | m + 1, j, hj, kk => by
    have hin : vp_in (nI k) 241 := vp_in_nI hk (by decide)
    have hcl : (nI k).toNatClampNeg = k := nI_clamp (by omega)
    have hia : vp_in (nI (a + j)) 240 := vp_in_nI (by omega) (by decide)
    have hca : (nI (a + j)).toNatClampNeg = a + j := nI_clamp (by omega)
    refine e_aload k96_61 (q := 62) rfl rfl ?_
    refine g_get k96_62 (q := 65) rfl rfl rfl ?_
    refine e_iload k96_65 (q := 66) rfl rfl ?_
    refine g_ald k96_66 (q := 67) rfl rfl (by assumption) ?_
    refine e_iload k96_67 (q := 68) rfl rfl ?_
    refine e_ib k96_68 (q := 69) rfl ?_
    refine e_aload k96_69 (q := 70) rfl rfl ?_
    refine g_get k96_70 (q := 73) rfl rfl rfl ?_
    refine e_iload k96_73 (q := 74) rfl rfl ?_
    refine g_ald k96_74 (q := 75) rfl rfl (by assumption) ?_
    rw [hcl, h45, h46, nI_add]
    refine e_ic k96_75 (q := 78) rfl (fun c75 => absurd c75 (nI_ge (show a + j < b by omega) (by omega))) (fun c75 => ?_)
    refine e_aload k96_78 (q := 79) rfl rfl ?_
    refine e_aload k96_79 (q := 80) rfl rfl ?_
    refine g_get k96_80 (q := 83) rfl rfl rfl ?_
    refine e_aload k96_83 (q := 84) rfl rfl ?_
    refine g_get k96_84 (q := 87) rfl rfl rfl ?_
    refine e_iload k96_87 (q := 88) rfl rfl ?_
    refine g_ald k96_88 (q := 89) rfl rfl (by assumption) ?_
    refine e_iload k96_89 (q := 90) rfl rfl ?_
    refine e_ib k96_90 (q := 91) rfl ?_
    rw [hcl, h45, nI_add]
    refine g_ald k96_91 (q := 92) rfl rfl hia ?_
    rw [hca]
    refine g_cv k96_92 (q := 95) (as := [_]) rfl rfl rfl rfl (m_plain _) rfl (z_ki fun x92 h92 p92 => ?_)
    obtain ⟨rfl, rfl⟩ := p92
    refine e_if k96_95 (q := 98) rfl (fun c95 => ?_) (fun c95 => ?_)
    · rw [z_cp, if_pos c95] at kk
      exact kk j rfl
    · rw [z_cp, if_neg c95] at kk
      refine e_iinc k96_98 (q := 101) (L' := [_, _, some (.int (nI (j + 1)))]) rfl rfl (by rw [nI_1]; rfl) ?_
      refine e_goto k96_101 ?_
      exact l_colonM hk hb h45 h46 m (j + 1) (by omega) kk
theorem z_E.hp {d M pc : Nat} {L : zL} {S : List Value} {h h' : zH} {Q : zR → Prop} (e : h = h') (k : z_E d M pc L S h' Q) : z_E d M pc L S h Q := e ▸ k
theorem l_readM {d : Nat} {h : zH} {ρ : Nat → Nat → Option Nat} {n : Nat} {A : List (Nat × Nat)} (hn : n ≤ 240) (hA : A.length ≤ 241) (hbd : ∀ x ∈ A, x.1 ≤ x.2 ∧ x.2 ≤ n) : ∀ (m k : Nat) (σ : Nat → Nat → Int32) (F : List (Nat × Nat × Nat)) (x2 : Option Value), k + m = z_he A → z_la σ A → σ 18 36 = nI (z_he A) → z_gl σ A k F →
    z_E (d + 1) 96 11 [some (.ref 18), some (.int (nI k)), x2] [] (z_G h σ ρ) (z_qi fun x h' => ∃ σ', h' = z_G h σ' ρ ∧ z_er σ' σ ∧ match z_rd (σ 39) n (A.drop k) F with
      | none => x = 0
      | some y => x = 1 ∧ z_gl σ' A (z_he A) y.1)
  | 0, k, σ, F, x2, hk, hL, hH, hG => by
    obtain rfl : k = z_he A := by omega
    have hle := z_he_le A
    refine e_iload k96_11 (q := 12) rfl rfl ?_
    refine e_aload k96_12 (q := 13) rfl rfl ?_
    refine g_get k96_13 (q := 16) rfl rfl rfl ?_
    refine e_ic k96_16 (q := 19) rfl (fun c16 => ?_) (fun c16 => absurd (by show σ 18 36 ≤ nI (z_he A); rw [hH]; exact nI_le (Nat.le_refl _) (by omega)) c16)
    refine e_const k96_200 (q := 201) rfl ?_
    refine e_iret k96_201 (by first | exact Or.inl rfl | exact Or.inr rfl | assumption) ?_
    refine ⟨_, _, rfl, σ, rfl, z_er.rf, ?_⟩
    obtain ⟨bs, hbs⟩ := z_he_end (σ 39) n F A
    rw [hbs]
    exact ⟨rfl, hG⟩
  | m + 1, k, σ, F, x2, hk, hL, hH, hG => by
    have hle := z_he_le A
    have hkl : k < A.length := by omega
    have hin : vp_in (nI k) 241 := vp_in_nI (by omega) (by decide)
    have hcl : (nI k).toNatClampNeg = k := nI_clamp (by omega)
    obtain ⟨l1, l2⟩ := hL.2 k hkl
    have hdr : A.drop k = A.getD k (0, 0) :: A.drop (k + 1) := by rw [List.drop_eq_getElem_cons hkl, List.getD_eq_getElem?_getD, List.getElem?_eq_getElem hkl]; rfl
    have hmem : A.getD k (0, 0) ∈ A := by rw [List.getD_eq_getElem?_getD, List.getElem?_eq_getElem hkl]; exact List.getElem_mem hkl
    obtain ⟨m1, m2⟩ := hbd _ hmem
    have hne := z_he_ne A k (by omega)
    have hsame : ∀ (p : Nat × Nat), A.getD k (0, 0) = p → z_rd (σ 39) n (A.drop k) F = match z_rl (σ 39) p.1 p.2 F with
      | none => none
      | some F' => z_rd (σ 39) n (A.drop (k + 1)) F' := by
      rintro ⟨a, b⟩ hp
      rw [hdr, hp]
      rw [hp] at hne
      rw [z_rd, if_neg hne]
      first | rfl | (cases z_rl (σ 39) a b F <;> rfl)
    rw [hsame _ rfl]
    have hgab : ∀ (p : Nat × Nat), A.getD k (0, 0) = p → p.1 < p.2 ∧ p.2 ≤ 240 := by
      rintro p rfl
      omega
    obtain ⟨hab, hb⟩ := hgab _ rfl
    have hg1 : (A.getD k (0, 0)).1 = (A.getD k (0, 0)).1 := rfl
    have hg2 : (A.getD k (0, 0)).2 = (A.getD k (0, 0)).2 := rfl
    generalize hga : (A.getD k (0, 0)).1 = a at l1 hab hg1 ⊢
    generalize hgb : (A.getD k (0, 0)).2 = b at l2 hab hb hg2 ⊢
    have hia : vp_in (nI a) 240 := vp_in_nI (by omega) (by decide)
    have hca : (nI a).toNatClampNeg = a := nI_clamp (by omega)
    have hG1 := hG.1
    have hG2 := hG.2.1
    refine e_iload k96_11 (q := 12) rfl rfl ?_
    refine e_aload k96_12 (q := 13) rfl rfl ?_
    refine g_get k96_13 (q := 16) rfl rfl rfl ?_
    refine e_ic k96_16 (q := 19) rfl (fun c16 => absurd c16 (by show ¬ σ 18 36 ≤ nI k; rw [hH]; exact nI_ge (by omega) (by omega))) (fun c16 => ?_)
    refine e_aload k96_19 (q := 20) rfl rfl ?_
    refine g_get k96_20 (q := 23) rfl rfl rfl ?_
    refine e_aload k96_23 (q := 24) rfl rfl ?_
    refine g_get k96_24 (q := 27) rfl rfl rfl ?_
    refine e_iload k96_27 (q := 28) rfl rfl ?_
    refine g_ald k96_28 (q := 29) rfl rfl (by assumption) ?_
    rw [hcl, l1]
    refine g_ald k96_29 (q := 30) rfl rfl hia ?_
    rw [hca]
    refine e_const k96_30 (q := 32) rfl ?_
    refine e_ic k96_32 (q := 35) rfl (fun c32 => ?_) (fun c32 => ?_)
    · refine e_const k96_59 (q := 60) rfl ?_
      refine e_ist k96_60 (q := 61) (L' := [_, _, _]) rfl rfl rfl ?_
      refine l_colonM (show k < 241 by omega) hb l1 l2 (b - a) 0 (by omega) (fun j hcp => ?_)
      have hge := z_cp_ge (σ 39) (b - a) a
      rw [Nat.add_zero] at hcp
      have hjb0 : a + j ≤ b := by omega
      refine e_iload k96_104 (q := 105) rfl rfl ?_
      refine e_if k96_105 (q := 108) rfl (fun c105 => ?_) (fun c105 => ?_)
      · refine e_const k96_152 (q := 153) rfl ?_
        refine e_iret k96_153 (by first | exact Or.inl rfl | exact Or.inr rfl | assumption) ?_
        refine ⟨_, _, rfl, σ, rfl, z_er.rf, ?_⟩
        rw [z_rl_n c32, if_neg (fun z => (by have hz : j = 0 := (nI_eq (by omega) (by decide)).mp (by rw [c105]; rfl); omega))]
      · refine e_aload k96_108 (q := 109) rfl rfl ?_
        refine g_get k96_109 (q := 112) rfl rfl rfl ?_
        refine e_iload k96_112 (q := 113) rfl rfl ?_
        refine g_ald k96_113 (q := 114) rfl rfl (by assumption) ?_
        refine e_iload k96_114 (q := 115) rfl rfl ?_
        refine e_ib k96_115 (q := 116) rfl ?_
        refine e_aload k96_116 (q := 117) rfl rfl ?_
        refine g_get k96_117 (q := 120) rfl rfl rfl ?_
        refine e_iload k96_120 (q := 121) rfl rfl ?_
        refine g_ald k96_121 (q := 122) rfl rfl (by assumption) ?_
        rw [hcl, l1, l2, nI_add]
        refine e_ic k96_122 (q := 125) rfl (fun c122 => ?_) (fun c122 => ?_)
        · refine e_const k96_152 (q := 153) rfl ?_
          refine e_iret k96_153 (by first | exact Or.inl rfl | exact Or.inr rfl | assumption) ?_
          refine ⟨_, _, rfl, σ, rfl, z_er.rf, ?_⟩
          rw [z_rl_n c32, if_neg (fun z => (by have hz := (nI_eq (by omega) (by omega)).mp c122; omega))]
        · have hjb : a + j < b := by
            have : ¬ a + j = b := fun z => c122 (by rw [z])
            omega
          have hij : vp_in (nI (a + j)) 240 := vp_in_nI (by omega) (by decide)
          have hcj : σ 39 (nI (a + j)).toNatClampNeg = σ 39 (a + j) := by rw [nI_clamp (by omega)]
          refine e_aload k96_125 (q := 126) rfl rfl ?_
          refine g_get k96_126 (q := 129) rfl rfl rfl ?_
          refine e_aload k96_129 (q := 130) rfl rfl ?_
          refine g_get k96_130 (q := 133) rfl rfl rfl ?_
          refine e_iload k96_133 (q := 134) rfl rfl ?_
          refine g_ald k96_134 (q := 135) rfl rfl (by assumption) ?_
          refine e_iload k96_135 (q := 136) rfl rfl ?_
          refine e_ib k96_136 (q := 137) rfl ?_
          rw [hcl, l1, nI_add]
          refine g_ald k96_137 (q := 138) rfl rfl hij ?_
          refine e_const k96_138 (q := 140) rfl ?_
          skip
          refine e_ic k96_140 (q := 143) rfl (fun c140 => ?_) (fun c140 => ?_)
          · refine e_const k96_152 (q := 153) rfl ?_
            refine e_iret k96_153 (by first | exact Or.inl rfl | exact Or.inr rfl | assumption) ?_
            refine ⟨_, _, rfl, σ, rfl, z_er.rf, ?_⟩
            rw [z_rl_n c32, if_neg (fun z => c140 (by rw [hcj, hcp]; exact z.1.2.2))]
          · refine e_aload k96_143 (q := 144) rfl rfl ?_
            refine g_get k96_144 (q := 147) rfl rfl rfl ?_
            refine e_const k96_147 (q := 149) rfl ?_
            refine e_ic k96_149 (q := 152) rfl (fun c149 => ?_) (fun c149 => ?_)
            · have hin37 : vp_in (σ 18 37) 12 := by
                have hl : F.length ≠ 12 := fun z => c149 (by rw [show σ 18 37 = nI F.length from hG1, z]; rfl)
                rw [hG1]; exact vp_in_nI (by omega) (by decide)
              refine e_aload k96_154 (q := 155) rfl rfl ?_
              refine g_get k96_155 (q := 158) rfl rfl rfl ?_
              refine e_aload k96_158 (q := 159) rfl rfl ?_
              refine g_get k96_159 (q := 162) rfl rfl rfl ?_
              refine e_iload k96_162 (q := 163) rfl rfl ?_
              refine g_aast k96_163 (q := 164) rfl (fun _ => rfl) hin37 ?_
              refine e_aload k96_164 (q := 165) rfl rfl ?_
              refine g_get k96_165 (q := 168) rfl rfl rfl ?_
              refine e_aload k96_168 (q := 169) rfl rfl ?_
              refine g_get k96_169 (q := 172) rfl rfl rfl ?_
              refine e_iload k96_172 (q := 173) rfl rfl ?_
              refine g_aast k96_173 (q := 174) rfl (fun _ => rfl) hin37 ?_
              refine e_aload k96_174 (q := 175) rfl rfl ?_
              refine g_get k96_175 (q := 178) rfl rfl rfl ?_
              refine e_aload k96_178 (q := 179) rfl rfl ?_
              refine g_get k96_179 (q := 182) rfl rfl rfl ?_
              refine e_iload k96_182 (q := 183) rfl rfl ?_
              refine g_aast k96_183 (q := 184) rfl (fun _ => rfl) hin37 ?_
              refine e_aload k96_184 (q := 185) rfl rfl ?_
              refine e_dup k96_185 (q := 186) rfl rfl ?_
              refine g_get k96_186 (q := 189) rfl rfl rfl ?_
              refine e_const k96_189 (q := 190) rfl ?_
              refine e_ib k96_190 (q := 191) rfl ?_
              refine g_put k96_191 (q := 194) rfl rfl ⟨_, rfl⟩ rfl ?_
              refine e_iinc k96_194 (q := 197) (L' := [_, some (.int (nI (k + 1))), _]) rfl rfl (by rw [nI_1]; rfl) ?_
              refine e_goto k96_197 ?_
              have hl12 : F.length ≠ 12 := fun z => c149 (by rw [show σ 18 37 = nI F.length from hG1, z]; rfl)
              have hj1 : a < a + j := by
                rcases Nat.eq_zero_or_pos j with z | z
                · subst z; exact absurd nI_0 c105
                · omega
              have hj2 : a + j < b := by
                have : ¬ a + j = b := fun z => c122 (by rw [z])
                omega
              have hj3 : σ 39 (a + j) = 58 := by rw [← hcj]; exact Classical.not_not.mp c140
              have hix : (σ 18 37).toNatClampNeg = F.length := by rw [hG1, nI_clamp (by omega)]
              have he : z_us (z_us (z_us (z_us σ 47 (upd (σ 47) (σ 18 37).toNatClampNeg (vp_nar .int (nI k)))) 48 (upd (z_us σ 47 (upd (σ 47) (σ 18 37).toNatClampNeg (vp_nar .int (nI k))) 48) (z_us σ 47 (upd (σ 47) (σ 18 37).toNatClampNeg (vp_nar .int (nI k))) 18 37).toNatClampNeg (vp_nar .int (nI k)))) 49 (upd (z_us (z_us σ 47 (upd (σ 47) (σ 18 37).toNatClampNeg (vp_nar .int (nI k)))) 48 (upd (z_us σ 47 (upd (σ 47) (σ 18 37).toNatClampNeg (vp_nar .int (nI k))) 48) (z_us σ 47 (upd (σ 47) (σ 18 37).toNatClampNeg (vp_nar .int (nI k))) 18 37).toNatClampNeg (vp_nar .int (nI k))) 49) (z_us (z_us σ 47 (upd (σ 47) (σ 18 37).toNatClampNeg (vp_nar .int (nI k)))) 48 (upd (z_us σ 47 (upd (σ 47) (σ 18 37).toNatClampNeg (vp_nar .int (nI k))) 48) (z_us σ 47 (upd (σ 47) (σ 18 37).toNatClampNeg (vp_nar .int (nI k))) 18 37).toNatClampNeg (vp_nar .int (nI k))) 18 37).toNatClampNeg (vp_nar .int (nI j)))) 18 (upd (σ 18) 37 (σ 18 37 + 1)) = z_us (z_us (z_us (z_us σ 47 (upd (σ 47) F.length (nI k))) 48 (upd (σ 48) F.length (nI k))) 49 (upd (σ 49) F.length (nI j))) 18 (upd (σ 18) 37 (nI (F.length + 1))) := by
                rw [z_us_ne σ (a := 47) (k := 18) _ (by decide), z_us_ne σ (a := 47) (k := 48) _ (by decide), z_us_ne _ (a := 48) (k := 18) _ (by decide), z_us_ne σ (a := 47) (k := 18) _ (by decide), z_us_ne _ (a := 48) (k := 49) _ (by decide), z_us_ne σ (a := 47) (k := 49) _ (by decide), hix, hG1, nI_1]
                rfl
              refine z_E.hp (show z_G h _ ρ = z_G h (z_us (z_us (z_us (z_us σ 47 (upd (σ 47) F.length (nI k))) 48 (upd (σ 48) F.length (nI k))) 49 (upd (σ 49) F.length (nI j))) 18 (upd (σ 18) 37 (nI (F.length + 1)))) ρ from congrArg (fun z => z_G h z ρ) (he.symm.trans rfl).symm) ?_
              have e1 : z_er (z_us (z_us (z_us (z_us σ 47 (upd (σ 47) F.length (nI k))) 48 (upd (σ 48) F.length (nI k))) 49 (upd (σ 49) F.length (nI j))) 18 (upd (σ 18) 37 (nI (F.length + 1)))) σ := ⟨fun q h1 h2 h3 h4 => by rw [z_us_ne _ _ h1, z_us_ne _ _ h4, z_us_ne _ _ h3, z_us_ne _ _ h2], fun i hi => by rw [z_us_eq]; exact if_neg hi⟩
              have hG' : z_gl (z_us (z_us (z_us (z_us σ 47 (upd (σ 47) F.length (nI k))) 48 (upd (σ 48) F.length (nI k))) 49 (upd (σ 49) F.length (nI j))) 18 (upd (σ 18) 37 (nI (F.length + 1)))) A (k + 1) ((a, a + j, b) :: F) := by
                refine ⟨by rw [z_us_eq, List.length_cons]; exact if_pos rfl, by rw [List.length_cons]; omega, ⟨⟨k, k, ?_, ?_, Nat.le_refl _, Nat.lt_succ_self _, hga, hgb⟩, ?_, hG.2.2.up (Nat.le_succ _) F (fun i hi => ⟨?_, ?_, ?_⟩)⟩⟩
                · rw [z_us_ne _ _ (by decide), z_us_ne _ _ (by decide), z_us_ne _ _ (by decide), z_us_eq]; exact if_pos rfl
                · rw [z_us_ne _ _ (by decide), z_us_ne _ _ (by decide), z_us_eq]; exact if_pos rfl
                · rw [z_us_ne _ _ (by decide), z_us_eq]
                  exact (if_pos rfl).trans (by show nI j = nI (a + j - a); rw [Nat.add_sub_cancel_left])
                · rw [z_us_ne _ _ (by decide), z_us_ne _ _ (by decide), z_us_ne _ _ (by decide), z_us_eq]; exact if_neg (by omega)
                · rw [z_us_ne _ _ (by decide), z_us_ne _ _ (by decide), z_us_eq]; exact if_neg (by omega)
                · rw [z_us_ne _ _ (by decide), z_us_eq]; exact if_neg (by omega)
              refine (l_readM hn hA hbd m (k + 1) _ _ _ (by omega) (hL.er e1) ((e1.2 36 (by decide)).trans hH) hG').mono ?_
              rintro q ⟨x, h', rfl, σ', rfl, h1, h2⟩
              refine ⟨_, _, rfl, σ', rfl, h1.tr e1, ?_⟩
              rw [e1.1 39 (by decide) (by decide) (by decide) (by decide)] at h2
              rw [z_rl_n c32, if_pos (by rw [← hcp]; exact ⟨⟨hj1, hj2, hj3⟩, hl12⟩), ← hcp]
              exact h2
            · refine e_const k96_152 (q := 153) rfl ?_
              refine e_iret k96_153 (by first | exact Or.inl rfl | exact Or.inr rfl | assumption) ?_
              refine ⟨_, _, rfl, σ, rfl, z_er.rf, ?_⟩
              rw [z_rl_n c32, if_neg (fun z => z.2 ((nI_eq (by omega) (by decide)).mp (by rw [← hG1]; exact Classical.not_not.mp c149)))]
    · refine e_aload k96_35 (q := 36) rfl rfl ?_
      refine g_get k96_36 (q := 39) rfl rfl rfl ?_
      refine e_if k96_39 (q := 42) rfl (fun c39 => ?_) (fun c39 => ?_)
      · have hin37 : vp_in (σ 18 37 - 1) 12 := by
          cases F with
          | nil => exact absurd (show σ 18 37 = 0 from hG1) c39
          | cons y r =>
            rw [List.length_cons] at hG2
            rw [hG1, List.length_cons, nI_pred]
            exact vp_in_nI (by omega) (by decide)
        refine e_aload k96_44 (q := 45) rfl rfl ?_
        refine g_get k96_45 (q := 48) rfl rfl rfl ?_
        refine e_aload k96_48 (q := 49) rfl rfl ?_
        refine g_get k96_49 (q := 52) rfl rfl rfl ?_
        refine e_const k96_52 (q := 53) rfl ?_
        refine e_ib k96_53 (q := 54) rfl ?_
        refine e_iload k96_54 (q := 55) rfl rfl ?_
        refine g_aast k96_55 (q := 56) rfl (fun _ => rfl) hin37 ?_
        refine e_goto k96_56 ?_
        refine e_iinc k96_194 (q := 197) (L' := [_, some (.int (nI (k + 1))), _]) rfl rfl (by rw [nI_1]; rfl) ?_
        refine e_goto k96_197 ?_
        cases F with
        | nil => exact absurd (show σ 18 37 = 0 from hG1) c39
        | cons y r =>
          have hr : r.length + 1 ≤ 12 := by rw [List.length_cons] at hG2; exact hG2
          have hix : (σ 18 37 - 1).toNatClampNeg = r.length := by rw [hG1, List.length_cons, nI_pred, nI_clamp (by omega)]
          rw [hix]
          have e1 : z_er (z_us σ 48 (upd (σ 48) r.length (vp_nar .int (nI k)))) σ := ⟨fun q h1 h2 h3 h4 => z_us_ne _ _ h3, fun j _ => by rw [z_us_ne _ _ (by decide)]⟩
          have hG' : z_gl (z_us σ 48 (upd (σ 48) r.length (vp_nar .int (nI k)))) A (k + 1) ((y.1, y.2.1, b) :: r) := by
            obtain ⟨⟨k1, k2, h1, h2, h3, h4, h5, h6⟩, h7, h8⟩ := hG.2.2
            refine ⟨by rw [z_us_ne _ _ (by decide)]; exact hG1, hG2, ⟨⟨k1, k, by rw [z_us_ne _ _ (by decide)]; exact h1, ?_, by omega, by omega, h5, hgb⟩, by rw [z_us_ne _ _ (by decide)]; exact h7, h8.up (Nat.le_succ _) r (fun j hj => ⟨by rw [z_us_ne _ _ (by decide)], ?_, by rw [z_us_ne _ _ (by decide)]⟩)⟩⟩
            · rw [z_us_eq]; exact (if_pos rfl).trans rfl
            · rw [z_us_eq]; exact if_neg (by omega)
          refine (l_readM hn hA hbd m (k + 1) _ _ _ (by omega) (hL.er e1) ((e1.2 36 (by decide)).trans hH) hG').mono ?_
          rintro q ⟨x, h', rfl, σ', rfl, h1, h2⟩
          refine ⟨_, _, rfl, σ', rfl, h1.tr e1, ?_⟩
          rw [e1.1 39 (by decide) (by decide) (by decide) (by decide)] at h2
          rw [z_rl, if_pos (Classical.not_not.mp c32)]
          exact h2
      · refine e_const k96_42 (q := 43) rfl ?_
        refine e_iret k96_43 (by first | exact Or.inl rfl | exact Or.inr rfl | assumption) ?_
        refine ⟨_, _, rfl, σ, rfl, z_er.rf, ?_⟩
        have hF : F = [] := by
          cases F with
          | nil => rfl
          | cons y r => exact absurd (Classical.not_not.mp c39) (by rw [show σ 18 37 = nI (y :: r).length from hG1]; exact nI_ne0 (by rw [List.length_cons]; omega) (by omega))
        subst hF
        rw [z_rl, if_pos (Classical.not_not.mp c32)]
theorem m_readM {d : Nat} {h : zH} {ρ : Nat → Nat → Option Nat} {σ : Nat → Nat → Int32} {n : Nat} (hT : z_xm σ n) : z_M (d + 2) 96 [.ref 18] (z_G h σ ρ) (z_qi fun x h' => ∃ σ', h' = z_G h σ' ρ ∧ (∃ σ1, z_er σ' σ1 ∧ z_el σ1 σ) ∧ z_la σ' (z_ln (σ 39) n 0 0) ∧ σ' 18 36 = nI (z_he (z_ln (σ 39) n 0 0)) ∧ match z_rd (σ 39) n (z_ln (σ 39) n 0 0) [] with
      | none => x = 0
      | some y => x = 1 ∧ z_gl σ' (z_ln (σ 39) n 0 0) (z_he (z_ln (σ 39) n 0 0)) y.1) := by
  refine z_M.of ⟨Nat.le_of_ble_eq_true rfl, by simp [Value.category]⟩ (L := [some (.ref 18), none, none]) rfl ?_
  refine e_aload k96_0 (q := 1) rfl rfl ?_
  refine g_cv k96_1 (q := 4) (as := []) rfl rfl rfl rfl (m_cutM hT) rfl (z_kv fun h1 p1 => ?_)
  obtain ⟨σ1, rfl, hL, hH, e1⟩ := p1
  have hlen := z_ln_len (σ 39) n 0 0
  have hlc := z_ln_lc (t := σ 39) (n := n) n 0 0 (by omega) (Nat.le_refl _) (fun j _ h2 => absurd h2 (Nat.not_lt_zero _))
  have hbd := hlc.bd (Nat.zero_le _)
  have hn := hT.2
  refine e_aload k96_4 (q := 5) rfl rfl ?_
  refine e_const k96_5 (q := 6) rfl ?_
  refine g_put k96_6 (q := 9) rfl rfl ⟨_, rfl⟩ rfl ?_
  refine e_const k96_9 (q := 10) rfl ?_
  refine e_ist k96_10 (q := 11) (L' := [_, _, _]) rfl rfl rfl ?_
  have e2 : z_er (z_us σ1 18 (upd (σ1 18) 37 0)) σ1 := ⟨fun k h1 _ _ _ => z_us_ne _ _ h1, fun j h1 => by rw [z_us_eq]; exact if_neg h1⟩
  refine (l_readM hn (by omega) (fun x hx => (hbd x hx).2) (z_he (z_ln (σ 39) n 0 0)) 0 _ [] _ (by omega) (hL.er e2) ((e2.2 36 (by decide)).trans hH) ⟨by rw [z_us_eq]; rfl, by decide, trivial⟩).mono ?_
  rintro q ⟨x, h', rfl, σ', rfl, h1, h2⟩
  refine ⟨_, _, rfl, σ', rfl, ⟨σ1, h1.tr e2, e1⟩, hL.er (h1.tr e2), ((h1.tr e2).2 36 (by decide)).trans hH, ?_⟩
  rw [e2.1 39 (by decide) (by decide) (by decide) (by decide), e1.1 39 (by decide) (by decide) (by decide), List.drop_zero] at h2
  exact h2
