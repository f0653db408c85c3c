/-! The model's checking: its loop. -/
def z_rwt (σ0 : Nat → Nat → Int32) (nD : Nat) : Prop := ∀ i, i < nD → ∃ nm, nm ≤ 8 ∧ σ0 31 i = nI nm ∧ (∀ j, j < nm → ¬ σ0 33 (8 * i + j) = 6 → ∃ kd ql, kd ≤ 5 ∧ z_pl σ0 nD (8 * i + j) kd ∧ σ0 32 (8 * i + j) = nI ql ∧ 1 ≤ ql ∧ ql ≤ 4) ∧ ((∀ j, j < nm → ¬ σ0 33 (8 * i + j) = 6) ∨ ∃ j l, j < nm ∧ l < nD ∧ σ0 33 (8 * i + j) = 6 ∧ σ0 34 (8 * i + j) = nI l ∧ ∀ j', j' < nm → σ0 33 (8 * i + j') = 6 → j' = j)
def z_lo (σ' σ : Nat → Nat → Int32) (pp : Nat) : Prop := ∀ x, x < pp → σ' 36 x = σ 36 x ∧ σ' 37 x = σ 37 x
theorem z_dec (n : Nat) : nI (n + 1) + -1 = nI n := by rw [← nI_pred n, Int32.sub_eq_add_neg]
theorem z_nm2 {r : Nat} (h : r < 2 ^ 31) : ¬ nI r = -2 := fun z => nI_pos h (by rw [z]; decide)
theorem l_wrong {d : Nat} {h : zH} {ρ : Nat → Nat → Option Nat} {σ σ0 : Nat → Nat → Int32} {q e : Nat} {P : Int32 → zH → Prop} {x1 x2 x4 x7 : Option Value} {dep k got : Int32} (hS : z_mst σ σ0 q e true) (kk : P 5 (z_G h σ ρ)) :
    z_E d 86 100 [some (.ref 18), x1, x2, some (.int (dep)), x4, some (.int (k)), some (.int got), x7] [] (z_G h σ ρ) (z_qi P) := by
  have hw : ¬ σ 18 20 = 0 := by rw [hS.2.2.2.2]; decide
  refine e_iload k86_100 (q := 102) rfl rfl ?_
  refine e_if k86_102 (q := 105) rfl (fun c102 => ?_) (fun c102 => ?_)
  · refine e_iinc k86_181 (q := 184) (L' := [_, _, _, _, _, _, _, _]) rfl rfl rfl ?_
    refine e_goto k86_184 ?_
    refine e_iload k86_30 (q := 32) rfl rfl ?_
    refine e_const k86_32 (q := 35) rfl ?_
    refine e_ic k86_35 (q := 38) rfl (fun c35 => ?_) (fun c35 => ?_)
    · refine e_aload k86_187 (q := 188) rfl rfl ?_
      refine g_get k86_188 (q := 191) rfl rfl rfl ?_
      refine e_if k86_191 (q := 194) rfl (fun c191 => absurd c191 hw) (fun c191 => ?_)
      refine e_const k86_194 (q := 195) rfl ?_
      refine e_goto k86_195 ?_
      refine e_iret k86_200 ⟨_, rfl⟩ ?_
      exact ⟨_, _, rfl, kk⟩
    · refine e_iload k86_38 (q := 39) rfl rfl ?_
      refine e_if k86_39 (q := 42) rfl (fun c39 => ?_) (fun c39 => ?_)
      · refine e_aload k86_187 (q := 188) rfl rfl ?_
        refine g_get k86_188 (q := 191) rfl rfl rfl ?_
        refine e_if k86_191 (q := 194) rfl (fun c191 => absurd c191 hw) (fun c191 => ?_)
        refine e_const k86_194 (q := 195) rfl ?_
        refine e_goto k86_195 ?_
        refine e_iret k86_200 ⟨_, rfl⟩ ?_
        exact ⟨_, _, rfl, kk⟩
      · refine e_aload k86_42 (q := 43) rfl rfl ?_
        refine g_get k86_43 (q := 46) rfl rfl rfl ?_
        refine e_if k86_46 (q := 49) rfl (fun c46 => ?_) (fun c46 => absurd hw c46)
        refine e_aload k86_187 (q := 188) rfl rfl ?_
        refine g_get k86_188 (q := 191) rfl rfl rfl ?_
        refine e_if k86_191 (q := 194) rfl (fun c191 => absurd c191 hw) (fun c191 => ?_)
        refine e_const k86_194 (q := 195) rfl ?_
        refine e_goto k86_195 ?_
        refine e_iret k86_200 ⟨_, rfl⟩ ?_
        exact ⟨_, _, rfl, kk⟩
  · refine e_iload k86_105 (q := 106) rfl rfl ?_
    refine e_if k86_106 (q := 109) rfl (fun c106 => ?_) (fun c106 => ?_)
    · refine e_iinc k86_181 (q := 184) (L' := [_, _, _, _, _, _, _, _]) rfl rfl rfl ?_
      refine e_goto k86_184 ?_
      refine e_iload k86_30 (q := 32) rfl rfl ?_
      refine e_const k86_32 (q := 35) rfl ?_
      refine e_ic k86_35 (q := 38) rfl (fun c35 => ?_) (fun c35 => ?_)
      · refine e_aload k86_187 (q := 188) rfl rfl ?_
        refine g_get k86_188 (q := 191) rfl rfl rfl ?_
        refine e_if k86_191 (q := 194) rfl (fun c191 => absurd c191 hw) (fun c191 => ?_)
        refine e_const k86_194 (q := 195) rfl ?_
        refine e_goto k86_195 ?_
        refine e_iret k86_200 ⟨_, rfl⟩ ?_
        exact ⟨_, _, rfl, kk⟩
      · refine e_iload k86_38 (q := 39) rfl rfl ?_
        refine e_if k86_39 (q := 42) rfl (fun c39 => ?_) (fun c39 => ?_)
        · refine e_aload k86_187 (q := 188) rfl rfl ?_
          refine g_get k86_188 (q := 191) rfl rfl rfl ?_
          refine e_if k86_191 (q := 194) rfl (fun c191 => absurd c191 hw) (fun c191 => ?_)
          refine e_const k86_194 (q := 195) rfl ?_
          refine e_goto k86_195 ?_
          refine e_iret k86_200 ⟨_, rfl⟩ ?_
          exact ⟨_, _, rfl, kk⟩
        · refine e_aload k86_42 (q := 43) rfl rfl ?_
          refine g_get k86_43 (q := 46) rfl rfl rfl ?_
          refine e_if k86_46 (q := 49) rfl (fun c46 => ?_) (fun c46 => absurd hw c46)
          refine e_aload k86_187 (q := 188) rfl rfl ?_
          refine g_get k86_188 (q := 191) rfl rfl rfl ?_
          refine e_if k86_191 (q := 194) rfl (fun c191 => absurd c191 hw) (fun c191 => ?_)
          refine e_const k86_194 (q := 195) rfl ?_
          refine e_goto k86_195 ?_
          refine e_iret k86_200 ⟨_, rfl⟩ ?_
          exact ⟨_, _, rfl, kk⟩
    · refine e_aload k86_109 (q := 110) rfl rfl ?_
      refine g_get k86_110 (q := 113) rfl rfl rfl ?_
      refine e_if k86_113 (q := 116) rfl (fun c113 => ?_) (fun c113 => absurd hw c113)
      refine e_iinc k86_181 (q := 184) (L' := [_, _, _, _, _, _, _, _]) rfl rfl rfl ?_
      refine e_goto k86_184 ?_
      refine e_iload k86_30 (q := 32) rfl rfl ?_
      refine e_const k86_32 (q := 35) rfl ?_
      refine e_ic k86_35 (q := 38) rfl (fun c35 => ?_) (fun c35 => ?_)
      · refine e_aload k86_187 (q := 188) rfl rfl ?_
        refine g_get k86_188 (q := 191) rfl rfl rfl ?_
        refine e_if k86_191 (q := 194) rfl (fun c191 => absurd c191 hw) (fun c191 => ?_)
        refine e_const k86_194 (q := 195) rfl ?_
        refine e_goto k86_195 ?_
        refine e_iret k86_200 ⟨_, rfl⟩ ?_
        exact ⟨_, _, rfl, kk⟩
      · refine e_iload k86_38 (q := 39) rfl rfl ?_
        refine e_if k86_39 (q := 42) rfl (fun c39 => ?_) (fun c39 => ?_)
        · refine e_aload k86_187 (q := 188) rfl rfl ?_
          refine g_get k86_188 (q := 191) rfl rfl rfl ?_
          refine e_if k86_191 (q := 194) rfl (fun c191 => absurd c191 hw) (fun c191 => ?_)
          refine e_const k86_194 (q := 195) rfl ?_
          refine e_goto k86_195 ?_
          refine e_iret k86_200 ⟨_, rfl⟩ ?_
          exact ⟨_, _, rfl, kk⟩
        · refine e_aload k86_42 (q := 43) rfl rfl ?_
          refine g_get k86_43 (q := 46) rfl rfl rfl ?_
          refine e_if k86_46 (q := 49) rfl (fun c46 => ?_) (fun c46 => absurd hw c46)
          refine e_aload k86_187 (q := 188) rfl rfl ?_
          refine g_get k86_188 (q := 191) rfl rfl rfl ?_
          refine e_if k86_191 (q := 194) rfl (fun c191 => absurd c191 hw) (fun c191 => ?_)
          refine e_const k86_194 (q := 195) rfl ?_
          refine e_goto k86_195 ?_
          refine e_iret k86_200 ⟨_, rfl⟩ ?_
          exact ⟨_, _, rfl, kk⟩
theorem l_done {d : Nat} {h : zH} {ρ : Nat → Nat → Option Nat} {σ σ0 : Nat → Nat → Int32} {q e : Nat} {P : Int32 → zH → Prop} {x1 x2 x4 x7 : Option Value} {k : Int32} {r : Nat} (hr : r < 2 ^ 31) (hS : z_mst σ σ0 q e false) (kk : P (nI r) (z_G h σ ρ)) :
    z_E d 86 100 [some (.ref 18), x1, x2, some (.int (nI 0)), x4, some (.int (k)), some (.int (nI r)), x7] [] (z_G h σ ρ) (z_qi P) := by
  have hw : σ 18 20 = 0 := hS.2.2.2.2
  refine e_iload k86_100 (q := 102) rfl rfl ?_
  refine e_if k86_102 (q := 105) rfl (fun c102 => absurd c102 (nI_pos hr)) (fun c102 => ?_)
  refine e_iload k86_105 (q := 106) rfl rfl ?_
  refine e_if k86_106 (q := 109) rfl (fun c106 => absurd c106 (by decide)) (fun c106 => ?_)
  refine e_aload k86_109 (q := 110) rfl rfl ?_
  refine g_get k86_110 (q := 113) rfl rfl rfl ?_
  refine e_if k86_113 (q := 116) rfl (fun c113 => absurd c113 (fun z => z hw)) (fun c113 => ?_)
  refine e_iinc k86_116 (q := 119) (L' := [_, _, _, _, _, _, _, _]) rfl rfl rfl ?_
  refine e_iload k86_119 (q := 120) rfl rfl ?_
  refine e_if k86_120 (q := 123) rfl (fun c120 => absurd c120 (by decide)) (fun c120 => ?_)
  refine e_iload k86_123 (q := 125) rfl rfl ?_
  refine e_ist k86_125 (q := 127) (L' := [_, _, _, _, _, _, _, _]) rfl rfl rfl ?_
  refine e_goto k86_127 ?_
  refine e_iload k86_100 (q := 102) rfl rfl ?_
  refine e_if k86_102 (q := 105) rfl (fun c102 => absurd c102 (nI_pos hr)) (fun c102 => ?_)
  refine e_iload k86_105 (q := 106) rfl rfl ?_
  refine e_if k86_106 (q := 109) rfl (fun c106 => ?_) (fun c106 => absurd (by decide) c106)
  refine e_iinc k86_181 (q := 184) (L' := [_, _, _, _, _, _, _, _]) rfl rfl rfl ?_
  refine e_goto k86_184 ?_
  refine e_iload k86_30 (q := 32) rfl rfl ?_
  refine e_const k86_32 (q := 35) rfl ?_
  refine e_ic k86_35 (q := 38) rfl (fun c35 => ?_) (fun c35 => ?_)
  · refine e_aload k86_187 (q := 188) rfl rfl ?_
    refine g_get k86_188 (q := 191) rfl rfl rfl ?_
    refine e_if k86_191 (q := 194) rfl (fun c191 => ?_) (fun c191 => absurd hw c191)
    refine e_iload k86_198 (q := 200) rfl rfl ?_
    refine e_iret k86_200 ⟨_, rfl⟩ ?_
    exact ⟨_, _, rfl, kk⟩
  · refine e_iload k86_38 (q := 39) rfl rfl ?_
    refine e_if k86_39 (q := 42) rfl (fun c39 => ?_) (fun c39 => absurd (by decide) c39)
    refine e_aload k86_187 (q := 188) rfl rfl ?_
    refine g_get k86_188 (q := 191) rfl rfl rfl ?_
    refine e_if k86_191 (q := 194) rfl (fun c191 => ?_) (fun c191 => absurd hw c191)
    refine e_iload k86_198 (q := 200) rfl rfl ?_
    refine e_iret k86_200 ⟨_, rfl⟩ ?_
    exact ⟨_, _, rfl, kk⟩
theorem l_iter {d : Nat} {h : zH} {ρ : Nat → Nat → Option Nat} {σ σ0 : Nat → Nat → Int32} {ip : Int32} {q e : Nat} {Q : zR → Prop} {x2 x4 x6 x7 : Option Value} {R : Int32 → zH → Prop} {k pp : Nat} (hk : k < 1000) (hpp : pp < 2 ^ 31) (hS : z_mst σ σ0 q e false) (hst : z_M d 85 [.ref 18, .int ip, .int (nI pp)] (z_G h σ ρ) (z_qi R))
    (kk : ∀ r h', R r h' → z_E d 86 57 [some (.ref 18), some (.int ip), x2, some (.int (nI pp)), x4, some (.int (nI k)), some (.int r), x7] [] h' Q) :
    z_E d 86 30 [some (.ref 18), some (.int ip), x2, some (.int (nI pp)), x4, some (.int (nI k)), x6, x7] [] (z_G h σ ρ) Q := by
  have hw : σ 18 20 = 0 := hS.2.2.2.2
  refine e_iload k86_30 (q := 32) rfl rfl ?_
  refine e_const k86_32 (q := 35) rfl ?_
  refine e_ic k86_35 (q := 38) rfl (fun c35 => absurd c35 (nI_ge (b := 1000) hk (by decide))) (fun c35 => ?_)
  refine e_iload k86_38 (q := 39) rfl rfl ?_
  refine e_if k86_39 (q := 42) rfl (fun c39 => absurd c39 (nI_pos hpp)) (fun c39 => ?_)
  refine e_aload k86_42 (q := 43) rfl rfl ?_
  refine g_get k86_43 (q := 46) rfl rfl rfl ?_
  refine e_if k86_46 (q := 49) rfl (fun c46 => absurd c46 (fun z => z hw)) (fun c46 => ?_)
  refine e_aload k86_49 (q := 50) rfl rfl ?_
  refine e_iload k86_50 (q := 51) rfl rfl ?_
  refine e_iload k86_51 (q := 52) rfl rfl ?_
  refine g_cv k86_52 (q := 55) (as := [_, _]) rfl rfl rfl rfl hst rfl (z_ki fun x52 h52 p52 => ?_)
  refine e_ist k86_55 (q := 57) (L' := [_, _, _, _, _, _, _, _]) rfl rfl rfl ?_
  exact kk _ _ p52
theorem l_next {d : Nat} {h' : zH} {Q : zR → Prop} {x1 x2 x4 x7 : Option Value} {dep : Int32} {k : Nat} (kk : z_E d 86 30 [some (.ref 18), x1, x2, some (.int (dep)), x4, some (.int (nI (k + 1))), some (.int (-1)), x7] [] h' Q) :
    z_E d 86 57 [some (.ref 18), x1, x2, some (.int (dep)), x4, some (.int (nI k)), some (.int (-1)), x7] [] h' Q := by
  refine e_iload k86_57 (q := 59) rfl rfl ?_
  refine e_const k86_59 (q := 61) rfl ?_
  refine e_ic k86_61 (q := 64) rfl (fun c61 => ?_) (fun c61 => absurd (by decide) c61)
  refine e_iload k86_100 (q := 102) rfl rfl ?_
  refine e_if k86_102 (q := 105) rfl (fun c102 => ?_) (fun c102 => absurd (by decide) c102)
  refine e_iinc k86_181 (q := 184) (L' := [_, _, _, _, _, some (.int (nI (k + 1))), _, _]) rfl rfl (by rw [nI_1]; rfl) ?_
  refine e_goto k86_184 ?_
  exact kk
theorem l_next0 {d : Nat} {h' : zH} {Q : zR → Prop} {x1 x2 x4 x7 : Option Value} {dep : Int32} {k : Nat} (kk : z_E d 86 30 [some (.ref 18), x1, x2, some (.int (dep)), x4, some (.int (nI (k + 1))), some (.int (-1)), x7] [] h' Q) :
    z_E d 86 100 [some (.ref 18), x1, x2, some (.int (dep)), x4, some (.int (nI k)), some (.int (-1)), x7] [] h' Q := by
  refine e_iload k86_100 (q := 102) rfl rfl ?_
  refine e_if k86_102 (q := 105) rfl (fun c102 => ?_) (fun c102 => absurd (by decide) c102)
  refine e_iinc k86_181 (q := 184) (L' := [_, _, _, _, _, some (.int (nI (k + 1))), _, _]) rfl rfl (by rw [nI_1]; rfl) ?_
  refine e_goto k86_184 ?_
  exact kk
theorem l_got {d : Nat} {h' : zH} {Q : zR → Prop} {x1 x2 x4 x7 : Option Value} {dep k got : Int32} (hg : ¬ got = -2) (kk : z_E d 86 100 [some (.ref 18), x1, x2, some (.int (dep)), x4, some (.int (k)), some (.int got), x7] [] h' Q) :
    z_E d 86 57 [some (.ref 18), x1, x2, some (.int (dep)), x4, some (.int (k)), some (.int got), x7] [] h' Q := by
  refine e_iload k86_57 (q := 59) rfl rfl ?_
  refine e_const k86_59 (q := 61) rfl ?_
  refine e_ic k86_61 (q := 64) rfl (fun c61 => ?_) (fun c61 => absurd hg c61)
  exact kk
theorem l_in {d : Nat} {h : zH} {ρ : Nat → Nat → Option Nat} {σ : Nat → Nat → Int32} {Q : zR → Prop} {x1 x2 x4 x7 : Option Value} {k pp i j t : Nat} (hpp : pp + 1 < 12) (hi : i < 12) (hj : j < 8) (a36 : σ 36 pp = nI i) (a37 : σ 37 pp = nI (j + 1)) (a34 : σ 34 (8 * i + j) = nI t)
    (kk : ∀ σ', (∀ k, k ≠ 36 → k ≠ 37 → k ≠ 38 → σ' k = σ k) → σ' 36 = upd (σ 36) (pp + 1) (nI t) → σ' 37 = upd (σ 37) (pp + 1) 0 → σ' 38 = upd (σ 38) (pp + 1) (z_bi false) → z_E (d + 1) 86 30 [some (.ref 18), x1, x2, some (.int (nI (pp + 1))), x4, some (.int (nI (k + 1))), some (.int (-2)), some (.int (nI (8 * i + j)))] [] (z_G h σ' ρ) Q) :
    z_E (d + 1) 86 57 [some (.ref 18), x1, x2, some (.int (nI pp)), x4, some (.int (nI k)), some (.int (-2)), x7] [] (z_G h σ ρ) Q := by
  have hinp : vp_in (nI pp) 12 := vp_in_nI (by omega) (by decide)
  have hclp : (nI pp).toNatClampNeg = pp := nI_clamp (by omega)
  have hinx : vp_in (nI (8 * i + j)) 96 := vp_in_nI (by omega) (by decide)
  have hclx : (nI (8 * i + j)).toNatClampNeg = 8 * i + j := nI_clamp (by omega)
  have h8 : (8 : Int32) * nI i = nI (8 * i) := z_nmul 8 i
  refine e_iload k86_57 (q := 59) rfl rfl ?_
  refine e_const k86_59 (q := 61) rfl ?_
  refine e_ic k86_61 (q := 64) rfl (fun c61 => absurd c61 (fun z => z rfl)) (fun c61 => ?_)
  refine e_const k86_64 (q := 66) rfl ?_
  refine e_aload k86_66 (q := 67) rfl rfl ?_
  refine g_get k86_67 (q := 70) rfl rfl rfl ?_
  refine e_iload k86_70 (q := 71) rfl rfl ?_
  refine g_ald k86_71 (q := 72) rfl rfl (by assumption) ?_
  rw [hclp, a36]
  refine e_ib k86_72 (q := 73) rfl ?_
  refine e_aload k86_73 (q := 74) rfl rfl ?_
  refine g_get k86_74 (q := 77) rfl rfl rfl ?_
  refine e_iload k86_77 (q := 78) rfl rfl ?_
  refine g_ald k86_78 (q := 79) rfl rfl (by assumption) ?_
  rw [hclp, a37, h8]
  refine e_ib k86_79 (q := 80) rfl ?_
  rw [nI_add]
  refine e_const k86_80 (q := 81) rfl ?_
  refine e_ib k86_81 (q := 82) rfl ?_
  rw [show 8 * i + (j + 1) = 8 * i + j + 1 by omega, nI_pred]
  refine e_ist k86_82 (q := 84) (L' := [_, _, _, _, _, _, _, _]) rfl rfl rfl ?_
  refine e_iinc k86_84 (q := 87) (L' := [_, _, _, some (.int (nI (pp + 1))), _, _, _, _]) rfl rfl (by rw [nI_1]; rfl) ?_
  refine e_aload k86_87 (q := 88) rfl rfl ?_
  refine e_iload k86_88 (q := 89) rfl rfl ?_
  refine e_aload k86_89 (q := 90) rfl rfl ?_
  refine g_get k86_90 (q := 93) rfl rfl rfl ?_
  refine e_iload k86_93 (q := 95) rfl rfl ?_
  refine g_ald k86_95 (q := 96) rfl rfl (by assumption) ?_
  rw [hclx, a34]
  refine e_const k86_96 (q := 97) rfl ?_
  refine g_cv k86_97 (q := 100) (as := [_, _, _]) rfl rfl rfl rfl (m_open hpp false) rfl (z_kv fun h97 p97 => ?_)
  obtain ⟨σ1, rfl, g1, g2, g3, g4⟩ := p97
  refine e_iload k86_100 (q := 102) rfl rfl ?_
  refine e_if k86_102 (q := 105) rfl (fun c102 => ?_) (fun c102 => absurd (by decide) c102)
  refine e_iinc k86_181 (q := 184) (L' := [_, _, _, _, _, some (.int (nI (k + 1))), _, _]) rfl rfl (by rw [nI_1]; rfl) ?_
  refine e_goto k86_184 ?_
  exact kk σ1 g1 g2 g3 g4
theorem l_back {d : Nat} {h : zH} {ρ : Nat → Nat → Option Nat} {σ σ0 : Nat → Nat → Int32} {q e : Nat} {Q : zR → Prop} {x1 x2 x4 x7 : Option Value} {k : Int32} {pp i j r ql : Nat} (hr : r < 2 ^ 31) (hr0 : ¬ r = 0) (hS : z_mst σ σ0 q e false) (hpp : pp < 12) (hi : i < 12) (hj : j < 8) (a36 : σ 36 pp = nI i) (a37 : σ 37 pp = nI (j + 1)) (a32 : σ 32 (8 * i + j) = nI ql)
    (k2 : r = 2 → z_E d 86 100 [some (.ref 18), x1, x2, some (.int (nI pp)), x4, some (.int (k)), some (.int (nI ql)), x7] [] (z_G h σ ρ) Q) (k3 : ¬ r = 2 → z_E d 86 100 [some (.ref 18), x1, x2, some (.int (nI pp)), x4, some (.int (k)), some (.int (-1)), x7] [] (z_G h σ ρ) Q) :
    z_E d 86 100 [some (.ref 18), x1, x2, some (.int (nI (pp + 1))), x4, some (.int (k)), some (.int (nI r)), x7] [] (z_G h σ ρ) Q := by
  have hw : σ 18 20 = 0 := hS.2.2.2.2
  have hinp : vp_in (nI pp) 12 := vp_in_nI (by omega) (by decide)
  have hclp : (nI pp).toNatClampNeg = pp := nI_clamp (by omega)
  have hinx : vp_in (nI (8 * i + j)) 96 := vp_in_nI (by omega) (by decide)
  have hclx : (nI (8 * i + j)).toNatClampNeg = 8 * i + j := nI_clamp (by omega)
  have h8 : (8 : Int32) * nI i = nI (8 * i) := z_nmul 8 i
  refine e_iload k86_100 (q := 102) rfl rfl ?_
  refine e_if k86_102 (q := 105) rfl (fun c102 => absurd c102 (nI_pos hr)) (fun c102 => ?_)
  refine e_iload k86_105 (q := 106) rfl rfl ?_
  refine e_if k86_106 (q := 109) rfl (fun c106 => absurd c106 (nI_pos (by omega))) (fun c106 => ?_)
  refine e_aload k86_109 (q := 110) rfl rfl ?_
  refine g_get k86_110 (q := 113) rfl rfl rfl ?_
  refine e_if k86_113 (q := 116) rfl (fun c113 => absurd c113 (fun z => z hw)) (fun c113 => ?_)
  refine e_iinc k86_116 (q := 119) (L' := [_, _, _, some (.int (nI pp)), _, _, _, _]) rfl rfl (by rw [z_dec]; rfl) ?_
  refine e_iload k86_119 (q := 120) rfl rfl ?_
  refine e_if k86_120 (q := 123) rfl (fun c120 => ?_) (fun c120 => absurd (nI_pos' (by omega)) c120)
  refine e_iload k86_130 (q := 132) rfl rfl ?_
  refine e_if k86_132 (q := 135) rfl (fun c132 => ?_) (fun c132 => absurd (nI_ne0 (by omega) hr) c132)
  refine e_iload k86_143 (q := 145) rfl rfl ?_
  refine e_const k86_145 (q := 146) rfl ?_
  refine e_ic k86_146 (q := 149) rfl (fun c146 => ?_) (fun c146 => ?_)
  · refine e_const k86_175 (q := 176) rfl ?_
    refine e_ist k86_176 (q := 178) (L' := [_, _, _, _, _, _, _, _]) rfl rfl rfl ?_
    refine e_goto k86_178 ?_
    exact k3 (fun z => c146 (by rw [z]; rfl))
  · refine e_aload k86_149 (q := 150) rfl rfl ?_
    refine g_get k86_150 (q := 153) rfl rfl rfl ?_
    refine e_const k86_153 (q := 155) rfl ?_
    refine e_aload k86_155 (q := 156) rfl rfl ?_
    refine g_get k86_156 (q := 159) rfl rfl rfl ?_
    refine e_iload k86_159 (q := 160) rfl rfl ?_
    refine g_ald k86_160 (q := 161) rfl rfl (by assumption) ?_
    rw [hclp, a36]
    refine e_ib k86_161 (q := 162) rfl ?_
    refine e_aload k86_162 (q := 163) rfl rfl ?_
    refine g_get k86_163 (q := 166) rfl rfl rfl ?_
    refine e_iload k86_166 (q := 167) rfl rfl ?_
    refine g_ald k86_167 (q := 168) rfl rfl (by assumption) ?_
    rw [hclp, a37, h8]
    refine e_ib k86_168 (q := 169) rfl ?_
    rw [nI_add]
    refine e_const k86_169 (q := 170) rfl ?_
    refine e_ib k86_170 (q := 171) rfl ?_
    rw [show 8 * i + (j + 1) = 8 * i + j + 1 by omega, nI_pred]
    refine g_ald k86_171 (q := 172) rfl rfl (by assumption) ?_
    rw [hclx, a32]
    refine e_goto k86_172 ?_
    refine e_ist k86_176 (q := 178) (L' := [_, _, _, _, _, _, _, _]) rfl rfl rfl ?_
    refine e_goto k86_178 ?_
    exact k2 ((nI_eq (b := 2) hr (by decide)).mp (Classical.not_not.mp c146))
theorem l_back0 {d : Nat} {h : zH} {ρ : Nat → Nat → Option Nat} {σ σ0 : Nat → Nat → Int32} {q e : Nat} {P : Int32 → zH → Prop} {x1 x2 x4 x7 : Option Value} {k : Int32} {pp : Nat} (hS : z_mst σ σ0 q e false) (hpp : pp < 12)
    (kk : ∀ σ', z_mst σ' σ0 q e true → P 5 (z_G h σ' ρ)) :
    z_E d 86 100 [some (.ref 18), x1, x2, some (.int (nI (pp + 1))), x4, some (.int (k)), some (.int 0), x7] [] (z_G h σ ρ) (z_qi P) := by
  have hw : σ 18 20 = 0 := hS.2.2.2.2
  have hS1 : z_mst (z_us σ 18 (upd (σ 18) 20 1)) σ0 q e true := by
    refine ⟨fun k k1 k2 k3 k4 => ?_, fun j j1 j2 j3 => ?_, ?_, ?_, ?_⟩
    · rw [z_us_ne _ _ k1]; exact hS.1 k k1 k2 k3 k4
    · rw [z_us_eq, pk_un j3]; exact hS.2.1 j j1 j2 j3
    · exact hS.2.2.1
    · exact hS.2.2.2.1
    · rfl
  refine e_iload k86_100 (q := 102) rfl rfl ?_
  refine e_if k86_102 (q := 105) rfl (fun c102 => absurd c102 (by decide)) (fun c102 => ?_)
  refine e_iload k86_105 (q := 106) rfl rfl ?_
  refine e_if k86_106 (q := 109) rfl (fun c106 => absurd c106 (nI_pos (by omega))) (fun c106 => ?_)
  refine e_aload k86_109 (q := 110) rfl rfl ?_
  refine g_get k86_110 (q := 113) rfl rfl rfl ?_
  refine e_if k86_113 (q := 116) rfl (fun c113 => absurd c113 (fun z => z hw)) (fun c113 => ?_)
  refine e_iinc k86_116 (q := 119) (L' := [_, _, _, some (.int (nI pp)), _, _, _, _]) rfl rfl (by rw [z_dec]; rfl) ?_
  refine e_iload k86_119 (q := 120) rfl rfl ?_
  refine e_if k86_120 (q := 123) rfl (fun c120 => ?_) (fun c120 => absurd (nI_pos' (by omega)) c120)
  refine e_iload k86_130 (q := 132) rfl rfl ?_
  refine e_if k86_132 (q := 135) rfl (fun c132 => absurd c132 (fun z => z rfl)) (fun c132 => ?_)
  refine e_aload k86_135 (q := 136) rfl rfl ?_
  refine e_const k86_136 (q := 137) rfl ?_
  refine g_put k86_137 (q := 140) rfl rfl (by first | exact Or.inl rfl | exact Or.inr rfl | assumption) rfl ?_
  refine e_goto k86_140 ?_
  exact l_wrong hS1 (kk _ hS1)
def z_L (d : Nat) (h : zH) (ρ : Nat → Nat → Option Nat) (σ0 : Nat → Nat → Int32) (ip : Int32) (nD f : Nat) : Prop := ∀ (m j pp i q e k B : Nat) (σ : Nat → Nat → Int32) (x2 x6 x7 : Option Value) (P : Int32 → zH → Prop), i < nD → σ0 31 i = nI (j + m) → 0 < j + m → j + m ≤ 8 → pp ≤ q → q ≤ 10 → e ≤ 2 → 10 ≤ q + f → z_mst σ σ0 q e false → σ 36 pp = nI i → σ 37 pp = nI j → k + (m + 1) + 9 * (10 - q) + B ≤ 1000 →
  ((z_tms (z_res σ0 ip f) σ0 ip i m j q e).1 = 5 → ∀ σ', z_mst σ' σ0 (z_tms (z_res σ0 ip f) σ0 ip i m j q e).2.1 (z_tms (z_res σ0 ip f) σ0 ip i m j q e).2.2 true → P 5 (z_G h σ' ρ)) →
  (¬ (z_tms (z_res σ0 ip f) σ0 ip i m j q e).1 = 5 → ∀ σ' k' x7', z_mst σ' σ0 (z_tms (z_res σ0 ip f) σ0 ip i m j q e).2.1 (z_tms (z_res σ0 ip f) σ0 ip i m j q e).2.2 false → z_lo σ' σ pp → k' + 1 + 9 * (10 - (z_tms (z_res σ0 ip f) σ0 ip i m j q e).2.1) + B ≤ 1000 → z_E (d + 4) 86 100 [some (.ref 18), some (.int ip), x2, some (.int (nI pp)), some (.int (-1)), some (.int (nI k')), some (.int (nI (z_tms (z_res σ0 ip f) σ0 ip i m j q e).1)), x7'] [] (z_G h σ' ρ) (z_qi P)) →
  z_E (d + 4) 86 30 [some (.ref 18), some (.int ip), x2, some (.int (nI pp)), some (.int (-1)), some (.int (nI k)), x6, x7] [] (z_G h σ ρ) (z_qi P)
theorem z_tms_pos {res : Nat → Nat → Nat → Nat × Nat × Nat} {σ0 : Nat → Nat → Int32} (ip : Int32) {i nm : Nat} (hq : ∀ j, j < nm → ¬ σ0 33 (8 * i + j) = 6 → ∃ ql, σ0 32 (8 * i + j) = nI ql ∧ 1 ≤ ql ∧ ql ≤ 4) : ∀ (m j q e : Nat), j + m = nm → ¬ (z_tms res σ0 ip i m j q e).1 = 0
  | 0, j, q, e, _ => by
    rw [z_tms]
    unfold z_end
    split
    · exact Nat.one_ne_zero
    · split
      · exact Nat.succ_ne_zero _
      · show ¬ (if _ then 5 else _) = 0
        split
        · exact Nat.succ_ne_zero _
        · rename_i z; exact z
  | m + 1, j, q, e, hj => by
    rw [z_tms]
    split
    · exact z_tms_pos ip hq m (j + 1) _ _ (by omega)
    · rename_i h6
      split
      · exact z_tms_pos ip hq m (j + 1) _ _ (by omega)
      · split
        · obtain ⟨ql, h1, h2, h3⟩ := hq j (by omega) h6
          show ¬ z_na σ0 32 (8 * i + j) = 0
          rw [z_na_of h1 (by omega)]
          omega
        · exact Nat.succ_ne_zero _
theorem l_ckm {d : Nat} {h : zH} {ρ : Nat → Nat → Option Nat} {σ0 : Nat → Nat → Int32} {ip : Int32} {nD f : Nat} (hn2 : nD ≤ 12) (hR : z_rwd σ0 nD) (hW : z_rwt σ0 nD) (HL : ∀ f', f = f' + 1 → z_L d h ρ σ0 ip nD f') : z_L d h ρ σ0 ip nD f := by
  intro m
  induction m with
  | zero =>
    intro j pp i q e k B σ x2 x6 x7 P hi hm h0 h8 hpq hq he hf hS a36 a37 hk K5 KR
    have hnm : z_na σ0 31 i = j := z_na_of (n := j) hm (by omega)
    obtain ⟨nm, hnm8, hnm1, hT, hLd⟩ := hW i hi
    obtain rfl : nm = j := (nI_eq (by omega) (by omega)).mp (hnm1.symm.trans hm)
    rw [z_tms] at K5 KR
    rcases hLd with hno | ⟨j0, l, hj0, hl, l1, l2, l3⟩
    · have hlf := z_lf_none nm hno
      rw [z_end, hnm, if_pos hlf] at K5 KR
      refine l_iter (by omega) (by omega) hS (m_stepE hS (by omega) a36 a37 (by omega) hm hnm8 h0 hlf) ?_
      rintro r h' ⟨rfl, rfl⟩
      refine l_got (by decide) ?_
      exact KR (show ¬ 1 = 5 by decide) σ k x7 hS (fun _ _ => ⟨rfl, rfl⟩) (by show k + 1 + 9 * (10 - q) + B ≤ 1000; omega)
    · have hlf := z_lf_one nm hj0 l1 l3
      rw [z_end, hnm, if_neg (by rw [hlf]; exact z_nI_m1 (by omega)), hlf, nI_clamp (by omega), z_na_of l2 (by omega)] at K5 KR
      refine l_iter (by omega) (by omega) hS (m_stepL hS (by omega) a36 a37 (by omega) hm hnm8 h0 (by omega) hlf l2 hq) ?_
      rintro r h' ⟨rfl, σ1, rfl, ⟨hq10, f1, hS1⟩ | ⟨hq10, g1, g2, g3, hS1⟩⟩
      · rw [if_pos hq10] at K5 KR
        exact l_got (by decide) (l_wrong hS1 (K5 rfl σ1 hS1))
      · rw [if_neg (show ¬ q = 10 by omega)] at K5 KR
        obtain ⟨f', rfl⟩ : ∃ f', f = f' + 1 := ⟨f - 1, by omega⟩
        refine l_next ?_
        obtain ⟨nl, hnl8, hnl1, hTl, -⟩ := hW l hl
        have hnln : z_na σ0 31 l = nl := z_na_of hnl1 (by omega)
        rw [z_res, hnln] at K5 KR
        have b36 : σ1 36 pp = nI l := by rw [g1]; exact pk_us
        have b37 : σ1 37 pp = nI 0 := by rw [g2]; exact pk_us
        have b38 : σ1 38 pp = z_bi true := by rw [g3]; exact pk_us
        by_cases hz : nl = 0
        · subst hz
          rw [if_pos rfl] at K5 KR
          refine l_iter (by omega) (by omega) hS1 (m_step0 hS1 (by omega) b36 b38 (by omega) hnl1) ?_
          rintro r h' ⟨rfl, σ2, rfl, f2, hS2⟩
          exact l_got (by decide) (l_wrong hS2 (K5 rfl σ2 hS2))
        · rw [if_neg hz] at K5 KR
          have hpos : ¬ (z_tms (z_res σ0 ip f') σ0 ip l nl 0 (q + 1) e).1 = 0 := z_tms_pos ip (fun j hj h6 => by
            obtain ⟨kd, ql, -, -, u1, u2, u3⟩ := hTl j hj h6
            exact ⟨ql, u1, u2, u3⟩) nl 0 _ _ (by omega)
          have hled : z_led (z_tms (z_res σ0 ip f') σ0 ip l nl 0 (q + 1) e) = z_tms (z_res σ0 ip f') σ0 ip l nl 0 (q + 1) e := by
            unfold z_led
            rw [if_neg hpos]
          rw [hled] at K5 KR
          refine HL f' rfl nl 0 pp l (q + 1) e (k + 1) B σ1 x2 _ _ P hl (by rw [Nat.zero_add]; exact hnl1) (by omega) (by omega) (by omega) (by omega) he (by omega) hS1 b36 b37 (by omega) K5 (fun c σ' k' x7' hS' hlo hk' => KR c σ' k' x7' hS' (fun x hx => ?_) hk')
          obtain ⟨u1, u2⟩ := hlo x hx
          exact ⟨by rw [u1, g1]; exact pk_un (by omega), by rw [u2, g2]; exact pk_un (by omega)⟩
  | succ m ih =>
    intro j pp i q e k B σ x2 x6 x7 P hi hm h0 h8 hpq hq he hf hS a36 a37 hk K5 KR
    obtain ⟨nm, hnm8, hnm1, hT, hLd⟩ := hW i hi
    obtain rfl : nm = j + (m + 1) := (nI_eq (by omega) (by omega)).mp (hnm1.symm.trans hm)
    have hjm : j + (m + 1) = j + 1 + m := by omega
    rw [z_tms] at K5 KR
    have low : ∀ σ', σ' 36 = σ 36 → σ' 37 = upd (σ 37) pp (nI (j + 1)) → σ' 36 pp = nI i ∧ σ' 37 pp = nI (j + 1) ∧ z_lo σ' σ pp := fun σ' u1 u2 => ⟨by rw [u1]; exact a36, by rw [u2]; exact pk_us, fun x hx => ⟨by rw [u1], by rw [u2]; exact pk_un (by omega)⟩⟩
    by_cases h6 : σ0 33 (8 * i + j) = 6
    · rw [if_pos h6] at K5 KR
      refine l_iter (by omega) (by omega) hS (m_step6 hS (by omega) a36 a37 (by omega) hm hnm8 (by omega) h6) ?_
      rintro r h' ⟨rfl, σ1, rfl, g1, g2, g3, hS1⟩
      obtain ⟨b36, b37, blo⟩ := low σ1 g1 g2
      refine l_next ?_
      exact ih (j + 1) pp i q e (k + 1) B σ1 x2 _ _ P hi (by rw [← hjm]; exact hm) (by omega) (by omega) hpq hq he hf hS1 b36 b37 (by omega) K5 (fun c σ' k' x7' hS' hlo hk' => KR c σ' k' x7' hS' (fun x hx => ⟨(hlo x hx).1.trans (blo x hx).1, (hlo x hx).2.trans (blo x hx).2⟩) hk')
    · rw [if_neg h6] at K5 KR
      obtain ⟨kd, ql, hkd, hP, hql, ql1, ql4⟩ := hT j (by omega) h6
      have hqn : z_na σ0 32 (8 * i + j) = ql := z_na_of hql (by omega)
      by_cases hk4 : kd = 4
      · subst hk4
        obtain ⟨t, ht, ht1⟩ := hP.2.1 (by decide)
        have htn : z_na σ0 34 (8 * i + j) = t := z_na_of ht1 (by omega)
        have hoc : z_oc (z_res σ0 ip f) σ0 ip (8 * i + j) q e = if q = 10 then (2, q, e) else z_wit (z_res σ0 ip f t (q + 1) e) := by
          rw [z_oc, if_neg (by rw [hP.1]; decide), if_neg (by rw [hP.1]; decide), if_neg (show ¬ σ0 33 (8 * i + j) = 2 by rw [hP.1]; decide), if_neg (show ¬ σ0 33 (8 * i + j) = 3 by rw [hP.1]; decide), if_pos (show σ0 33 (8 * i + j) = 4 by rw [hP.1]; rfl), htn]
        rw [hoc] at K5 KR
        refine l_iter (by omega) (by omega) hS (m_step4 hS (by omega) a36 a37 (by omega) hm hnm8 (by omega) hP.1 hq) ?_
        rintro r h' ⟨σ1, rfl, g1, g2, g3, ⟨hq10, rfl, hS1⟩ | ⟨hq10, rfl, hS1⟩⟩
        · rw [if_pos hq10, if_neg (show ¬ 2 = 0 by decide), if_neg (show ¬ 2 = 1 by decide)] at K5 KR
          exact l_got (by decide) (l_wrong hS1 (K5 rfl σ1 hS1))
        · rw [if_neg (show ¬ q = 10 by omega)] at K5 KR
          obtain ⟨b36, b37, blo⟩ := low σ1 g1 g2
          obtain ⟨f', rfl⟩ : ∃ f', f = f' + 1 := ⟨f - 1, by omega⟩
          refine l_in (by omega) (by omega) (by omega) b36 b37 (by rw [hS1.rw (k := 34) (by omega)]; exact ht1) ?_
          intro σ2 e0 e36 e37 e38
          have hS2 : z_mst σ2 σ0 (q + 1) e false := hS1.of e0
          have d36 : σ2 36 (pp + 1) = nI t := by rw [e36]; exact pk_us
          have d37 : σ2 37 (pp + 1) = nI 0 := by rw [e37]; exact pk_us
          have d38 : σ2 38 (pp + 1) = z_bi false := by rw [e38]; exact pk_us
          obtain ⟨nl, hnl8, hnl1, hTl, -⟩ := hW t ht
          have hnln : z_na σ0 31 t = nl := z_na_of hnl1 (by omega)
          have hgd := z_res_gd σ0 ip (f' + 1) t (q := q + 1) (e := e) (by omega) he
          by_cases hz : nl = 0
          · subst hz
            have hres : z_res σ0 ip (f' + 1) t (q + 1) e = (0, q + 1, e) := by rw [z_res, hnln, if_pos rfl]
            rw [hres, show z_wit (0, q + 1, e) = (2, q + 1, e) from rfl, if_neg (show ¬ 2 = 0 by decide), if_neg (show ¬ 2 = 1 by decide)] at K5
            refine l_iter (by omega) (by omega) hS2 (m_step0 hS2 (by omega) d36 d38 (by omega) hnl1) ?_
            rintro r h' ⟨rfl, σ3, rfl, f3, hS3⟩
            refine l_got (by decide) (l_back0 hS3 (by omega) (fun σ' hS' => K5 rfl σ' hS'))
          · have hres : z_res σ0 ip (f' + 1) t (q + 1) e = z_tms (z_res σ0 ip f') σ0 ip t nl 0 (q + 1) e := by rw [z_res, hnln, if_neg hz]
            have hpos : ¬ (z_tms (z_res σ0 ip f') σ0 ip t nl 0 (q + 1) e).1 = 0 := z_tms_pos ip (fun j hj h6 => by
              obtain ⟨kd, ql, -, -, u1, u2, u3⟩ := hTl j hj h6
              exact ⟨ql, u1, u2, u3⟩) nl 0 _ _ (by omega)
            have hlt : (z_tms (z_res σ0 ip f') σ0 ip t nl 0 (q + 1) e).1 < 2 ^ 31 := z_tms_lt (z_res_lt σ0 ip f') σ0 ip t _ _ _ _
            have hw5 : (z_tms (z_res σ0 ip f') σ0 ip t nl 0 (q + 1) e).1 = 5 → (z_wit (z_res σ0 ip (f' + 1) t (q + 1) e)).1 = 2 := fun c => by
              rw [hres]
              show (if _ then 2 else _) = 2
              rw [if_pos (Or.inr c)]
            have hw2 : (z_tms (z_res σ0 ip f') σ0 ip t nl 0 (q + 1) e).1 = 2 → (z_wit (z_res σ0 ip (f' + 1) t (q + 1) e)).1 = 1 := fun c => by
              rw [hres]
              show (if _ then 2 else if _ then 1 else 0) = 1
              rw [if_neg (by omega), if_pos c]
            have hw0 : ¬ (z_tms (z_res σ0 ip f') σ0 ip t nl 0 (q + 1) e).1 = 5 → ¬ (z_tms (z_res σ0 ip f') σ0 ip t nl 0 (q + 1) e).1 = 2 → (z_wit (z_res σ0 ip (f' + 1) t (q + 1) e)).1 = 0 := fun c c' => by
              rw [hres]
              show (if _ then 2 else if _ then 1 else 0) = 0
              rw [if_neg (by omega), if_neg c']
            have hsnd : (z_wit (z_res σ0 ip (f' + 1) t (q + 1) e)).2 = (z_tms (z_res σ0 ip f') σ0 ip t nl 0 (q + 1) e).2 := by rw [hres]; rfl
            rw [hres] at hgd
            refine HL f' rfl nl 0 (pp + 1) t (q + 1) e (k + 1) (B + (m + 1)) σ2 x2 _ _ P ht (by rw [Nat.zero_add]; exact hnl1) (by omega) (by omega) (by omega) (by omega) he (by omega) hS2 d36 d37 (by omega) (fun c σ' hS' => ?_) (fun c σ' k' x7' hS' hlo hk' => ?_)
            · rw [if_neg (by rw [hw5 c]; decide), if_neg (by rw [hw5 c]; decide), hsnd] at K5
              exact K5 rfl σ' hS'
            · have u36 : σ' 36 pp = nI i := by rw [(hlo pp (by omega)).1, e36, pk_un (by omega)]; exact b36
              have u37 : σ' 37 pp = nI (j + 1) := by rw [(hlo pp (by omega)).2, e37, pk_un (by omega)]; exact b37
              have ulo : z_lo σ' σ pp := fun x hx => ⟨by rw [(hlo x (by omega)).1, e36, pk_un (by omega)]; exact (blo x hx).1, by rw [(hlo x (by omega)).2, e37, pk_un (by omega)]; exact (blo x hx).2⟩
              refine l_back hlt hpos hS' (by omega) (by omega) (by omega) u36 u37 (by rw [hS'.rw (k := 32) (by omega)]; exact hql) (fun c2 => ?_) (fun c2 => ?_)
              · rw [if_neg (by rw [hw2 c2]; decide), if_pos (hw2 c2), hsnd, hqn] at KR
                exact KR (show ¬ ql = 5 by omega) σ' k' x7' hS' ulo (by show k' + 1 + 9 * (10 - (z_tms (z_res σ0 ip f') σ0 ip t nl 0 (q + 1) e).2.1) + B ≤ 1000; omega)
              · rw [if_pos (hw0 c c2), hsnd] at K5 KR
                refine l_next0 ?_
                refine ih (j + 1) pp i _ _ (k' + 1) B σ' x2 _ _ P hi (by rw [← hjm]; exact hm) (by omega) (by omega) ?_ hgd.2.1 hgd.2.2 ?_ hS' u36 u37 (by omega) K5 (fun c σ'' k'' x7'' hS'' hlo'' hk'' => KR c σ'' k'' x7'' hS'' (fun x hx => ⟨(hlo'' x hx).1.trans (ulo x hx).1, (hlo'' x hx).2.trans (ulo x hx).2⟩) hk'')
                · have := hgd.1; omega
                · have := hgd.1; omega
      · have hgd := z_oc_gd (res := z_res σ0 ip f) (fun i q e hq he => z_res_gd σ0 ip f i hq he) σ0 ip (8 * i + j) hq he
        have hle := z_oc_le (z_res σ0 ip f) σ0 ip (8 * i + j) q e
        refine l_iter (by omega) (by omega) hS (m_stepT hS (by omega) a36 a37 (by omega) hm hnm8 (z_res σ0 ip f) hn2 hR hP hkd hk4 hql (by omega) hq he) ?_
        rintro r h' ⟨rfl, σ1, rfl, g1, g2, g3, hS1⟩
        obtain ⟨b36, b37, blo⟩ := low σ1 g1 g2
        rcases (by omega : (z_oc (z_res σ0 ip f) σ0 ip (8 * i + j) q e).1 = 0 ∨ (z_oc (z_res σ0 ip f) σ0 ip (8 * i + j) q e).1 = 1 ∨ (z_oc (z_res σ0 ip f) σ0 ip (8 * i + j) q e).1 = 2) with ho | ho | ho
        · rw [if_pos ho] at K5 KR
          rw [if_neg (by omega)]
          rw [decide_eq_false (by omega)] at hS1
          refine l_next ?_
          refine ih (j + 1) pp i _ _ (k + 1) B σ1 x2 _ _ P hi (by rw [← hjm]; exact hm) (by omega) (by omega) ?_ hgd.2.1 hgd.2.2 ?_ hS1 b36 b37 ?_ K5 (fun c σ'' k'' x7'' hS'' hlo'' hk'' => KR c σ'' k'' x7'' hS'' (fun x hx => ⟨(hlo'' x hx).1.trans (blo x hx).1, (hlo'' x hx).2.trans (blo x hx).2⟩) hk'')
          · have := hgd.1; omega
          · have := hgd.1; omega
          · have := hgd.1; omega
        · rw [if_neg (by omega), if_pos ho, hqn] at KR
          rw [if_pos ho]
          rw [decide_eq_false (by omega)] at hS1
          refine l_got (z_nm2 (by omega)) ?_
          exact KR (show ¬ ql = 5 by omega) σ1 k x7 hS1 blo (by show k + 1 + 9 * (10 - (z_oc (z_res σ0 ip f) σ0 ip (8 * i + j) q e).2.1) + B ≤ 1000; have := hgd.1; omega)
        · rw [if_neg (by omega), if_neg (by omega)] at K5
          rw [if_neg (by omega)]
          rw [decide_eq_true ho] at hS1
          exact l_got (by decide) (l_wrong hS1 (K5 rfl σ1 hS1))
theorem l_ckf {d : Nat} {h : zH} {ρ : Nat → Nat → Option Nat} {σ0 : Nat → Nat → Int32} {ip : Int32} {nD : Nat} (hn2 : nD ≤ 12) (hR : z_rwd σ0 nD) (hW : z_rwt σ0 nD) : ∀ f, z_L d h ρ σ0 ip nD f
  | 0 => l_ckm hn2 hR hW (fun f' z => absurd z (by omega))
  | f + 1 => l_ckm hn2 hR hW (fun f' z => by
    obtain rfl : f' = f := by omega
    exact l_ckf hn2 hR hW f')
