/-! Signatures. -/
def z_gv (t u a b : Nat → Int32) (n k sg : Nat) (rf rb : Bool) (num : Int32) : Bool := if a sg = 0 then false else match z_cf t u n k rf rb with
  | none => false
  | some o => z_opn (a sg).toNatClampNeg (b sg).toNatClampNeg (z_dgv o).toNatClampNeg num
theorem m_isGood {d : Nat} {h : zH} {ρ : Nat → Nat → Option Nat} {σ : Nat → Nat → Int32} {nD n k sg a : Nat} {dm : Nat → Nat} {rf rb : Bool} {num : Int32} {out : List Int32} (hn2 : nD ≤ 12) (hD : z_DD h σ ρ nD dm) (hT : z_TK σ n k) (hC : z_cs σ out) (ha52 : 52 ≤ a) (ha : h.1 a = some (.inr (6, [.ref (dm sg), .int (z_bi rf), .int (z_bi rb), .int num]))) (hsg : sg < nD) : z_M (d + 6) 21 [.ref 1, .ref a] (z_G h σ ρ) (z_qi fun r h' => ∃ σ', h' = z_G h σ' ρ ∧ z_ew σ' σ ∧ (∃ o', z_cs σ' o') ∧ r = z_bi (z_gv (σ 7) (σ 12) (σ 25) (σ 26) n k sg rf rb num)) := by
  refine z_M.of ⟨Nat.le_of_ble_eq_true rfl, by simp [Value.category]⟩ (L := [some (.ref 1), some (.ref a), none]) rfl ?_
  obtain ⟨h52, po, sf, na, ne, nm, lo, ko, wo, f, g, tt, c1, c2, c3, c4, c5, c6, c7, hK, c9x⟩ := (hD.1 sg hsg).2
  rcases hK with ⟨rfl, k0⟩ | ⟨ka, M, E, rfl, k52, kc, hM, hM2, hE, k25, k26⟩
  · refine e_aload k21_0 (q := 1) rfl rfl ?_
    refine d_get k21_1 (q := 4) rfl ha52 ha rfl ?_
    refine d_get k21_4 (q := 7) rfl h52 c1.1 rfl ?_
    refine e_astq (a := none) k21_7 (q := 8) (L' := [_, _, _]) rfl rfl rfl ?_
    refine e_aloadq (a := none) k21_8 (q := 9) rfl rfl ?_
    refine e_nulN k21_9 ?_
    refine e_const k21_55 (q := 56) rfl ?_
    refine e_iret k21_56 (by first | exact Or.inl rfl | exact Or.inr rfl | assumption) ?_
    exact ⟨_, _, rfl, σ, rfl, fun _ _ _ _ _ _ _ _ _ _ => rfl, ⟨out, hC⟩, by rw [z_gv, if_pos k0]; rfl⟩
  · refine e_aload k21_0 (q := 1) rfl rfl ?_
    refine d_get k21_1 (q := 4) rfl ha52 ha rfl ?_
    refine d_get k21_4 (q := 7) rfl h52 c1.1 rfl ?_
    refine e_ast (a := ka) k21_7 (q := 8) (L' := [_, _, _]) rfl rfl rfl ?_
    refine e_aload k21_8 (q := 9) rfl rfl ?_
    refine e_nulR k21_9 (q := 12) rfl ?_
    refine e_aload k21_12 (q := 13) rfl rfl ?_
    refine g_get k21_13 (q := 16) rfl rfl rfl ?_
    refine e_aload k21_16 (q := 17) rfl rfl ?_
    refine d_get k21_17 (q := 20) rfl ha52 ha rfl ?_
    refine e_aload k21_20 (q := 21) rfl rfl ?_
    refine d_get k21_21 (q := 24) rfl ha52 ha rfl ?_
    refine g_cv k21_24 (q := 27) (as := [_, _]) rfl rfl rfl rfl (m_write rf rb hT.1 hT.2.1 hC) rfl (z_ki fun x24 h24 p24 => ?_)
    obtain ⟨σ1, rfl, e1, w1, q1⟩ := p24
    refine e_if k21_27 (q := 30) rfl (fun c27 => ?_) (fun c27 => ?_)
    · have hz : z_cf (σ 7) (σ 12) n k rf rb = none := by
        cases hz : z_cf (σ 7) (σ 12) n k rf rb with
        | none => rfl
        | some o => rw [hz] at q1; rw [q1.1] at c27; exact absurd c27 (by decide)
      refine e_const k21_55 (q := 56) rfl ?_
      refine e_iret k21_56 (by first | exact Or.inl rfl | exact Or.inr rfl | assumption) ?_
      have hgv : z_gv (σ 7) (σ 12) (σ 25) (σ 26) n k sg rf rb num = false := by
        rw [z_gv, if_neg (by rw [k25]; exact nI_ne0 (by omega) hM2), hz]
      exact ⟨_, _, rfl, σ1, rfl, e1, w1, by rw [hgv]; rfl⟩
    · cases hz : z_cf (σ 7) (σ 12) n k rf rb with
      | none => rw [hz] at q1; exact absurd q1 c27
      | some o =>
      rw [hz] at q1
      have hol := z_cf_len hz
      have hn := hT.1.2.1
      have hsz := q1.2.size (by omega)
      obtain ⟨D, hD31, hDg⟩ := z_dgvN hT.2.2.2.2.2.2 hz
      refine e_aload k21_30 (q := 31) rfl rfl ?_
      refine e_aload k21_31 (q := 32) rfl rfl ?_
      refine d_get k21_32 (q := 35) rfl ha52 ha rfl ?_
      refine e_aload k21_35 (q := 36) rfl rfl ?_
      refine g_get k21_36 (q := 39) rfl rfl rfl ?_
      refine g_get k21_39 (q := 42) rfl rfl rfl ?_
      refine g_cv k21_42 (q := 45) (as := []) rfl rfl rfl rfl (m_summary z_tx13 hsz (by omega)) rfl (z_ki fun x42 h42 p42 => ?_)
      obtain ⟨rfl, rfl⟩ := p42
      rw [show (z_dg (σ1 14) o.length).toInt32 = nI D by rw [← hDg, z_dgv]; congr 1; exact z_dg_eq _ (fun j hj => q1.2.2 j (by omega))]
      refine d_cv k21_45 (q := 48) (as := [_, _]) rfl rfl k52 kc rfl (m_opens k52 kc hM hM2 hE (by omega) num) rfl (z_ki fun x45 h45 p45 => ?_)
      obtain ⟨rfl, rfl⟩ := p45
      refine e_if k21_48 (q := 51) rfl (fun c48 => ?_) (fun c48 => ?_)
      · refine e_const k21_55 (q := 56) rfl ?_
        refine e_iret k21_56 (by first | exact Or.inl rfl | exact Or.inr rfl | assumption) ?_
        have hgv : z_gv (σ 7) (σ 12) (σ 25) (σ 26) n k sg rf rb num = z_opn M E D num := by
          rw [z_gv, if_neg (by rw [k25]; exact nI_ne0 (by omega) hM2), hz]
          show z_opn (σ 25 sg).toNatClampNeg (σ 26 sg).toNatClampNeg (z_dgv o).toNatClampNeg num = _
          rw [k25, k26, hDg, nI_clamp hM2, nI_clamp hE, nI_clamp (by omega)]
        exact ⟨_, _, rfl, σ1, rfl, e1, w1, by rw [hgv, z_bi_0.mp c48]; rfl⟩
      · refine e_const k21_51 (q := 52) rfl ?_
        refine e_goto k21_52 ?_
        refine e_iret k21_56 (by first | exact Or.inl rfl | exact Or.inr rfl | assumption) ?_
        have hgv : z_gv (σ 7) (σ 12) (σ 25) (σ 26) n k sg rf rb num = z_opn M E D num := by
          rw [z_gv, if_neg (by rw [k25]; exact nI_ne0 (by omega) hM2), hz]
          show z_opn (σ 25 sg).toNatClampNeg (σ 26 sg).toNatClampNeg (z_dgv o).toNatClampNeg num = _
          rw [k25, k26, hDg, nI_clamp hM2, nI_clamp hE, nI_clamp (by omega)]
        exact ⟨_, _, rfl, σ1, rfl, e1, w1, by rw [hgv, show z_opn M E D num = true from Classical.byContradiction (fun z => c48 (z_bi_0.mpr (Bool.not_eq_true _ ▸ z)))]; rfl⟩
theorem m_holds0 {d : Nat} {h : zH} {ρ : Nat → Nat → Option Nat} {σ : Nat → Nat → Int32} {ns : Nat} (h7 : σ 1 7 = nI ns) {i : Int32} (hi : i < 0 ∨ ¬ i < nI ns) : z_M (d + 1) 18 [.ref 1, .int i] (z_G h σ ρ) (z_qi fun r h' => r = 0 ∧ h' = z_G h σ ρ) := by
  refine z_M.of ⟨Nat.le_of_ble_eq_true rfl, by simp [Value.category]⟩ (L := [some (.ref 1), some (.int i)]) rfl ?_
  refine e_iload k18_0 (q := 1) rfl rfl ?_
  refine e_if k18_1 (q := 4) rfl (fun c1 => ?_) (fun c1 => ?_)
  · refine e_const k18_29 (q := 30) rfl ?_
    refine e_iret k18_30 (by first | exact Or.inl rfl | exact Or.inr rfl | assumption) ?_
    exact ⟨_, _, rfl, rfl, rfl⟩
  · refine e_iload k18_4 (q := 5) rfl rfl ?_
    refine e_aload k18_5 (q := 6) rfl rfl ?_
    refine g_get k18_6 (q := 9) rfl rfl rfl ?_
    refine e_ic k18_9 (q := 12) rfl (fun c9 => ?_) (fun c9 => ?_)
    · refine e_const k18_29 (q := 30) rfl ?_
      refine e_iret k18_30 (by first | exact Or.inl rfl | exact Or.inr rfl | assumption) ?_
      exact ⟨_, _, rfl, rfl, rfl⟩
    · exact absurd (show i < σ 1 7 from Int32.not_le.mp c9) (by rw [h7]; exact hi.resolve_left c1)
theorem m_holds1 {d : Nat} {h : zH} {ρ : Nat → Nat → Option Nat} {σ : Nat → Nat → Int32} {nD n k sg a ns j : Nat} {dm : Nat → Nat} {rf rb : Bool} {num : Int32} {out : List Int32} (hn2 : nD ≤ 12) (hD : z_DD h σ ρ nD dm) (hT : z_TK σ n k) (hC : z_cs σ out) (ha52 : 52 ≤ a) (ha : h.1 a = some (.inr (6, [.ref (dm sg), .int (z_bi rf), .int (z_bi rb), .int num]))) (hsg : sg < nD) (h7 : σ 1 7 = nI ns) (hns : ns ≤ 3) (hj : j < ns) (hr : ρ 17 j = some a) : z_M (d + 7) 18 [.ref 1, .int (nI j)] (z_G h σ ρ) (z_qi fun r h' => ∃ σ', h' = z_G h σ' ρ ∧ z_ew σ' σ ∧ (∃ o', z_cs σ' o') ∧ r = z_bi (z_gv (σ 7) (σ 12) (σ 25) (σ 26) n k sg rf rb num)) := by
  refine z_M.of ⟨Nat.le_of_ble_eq_true rfl, by simp [Value.category]⟩ (L := [some (.ref 1), some (.int (nI j))]) rfl ?_
  have hin : vp_in (nI j) 3 := vp_in_nI (by omega) (by decide)
  refine e_iload k18_0 (q := 1) rfl rfl ?_
  refine e_if k18_1 (q := 4) rfl (fun c1 => absurd c1 (nI_pos (by omega))) (fun c1 => ?_)
  refine e_iload k18_4 (q := 5) rfl rfl ?_
  refine e_aload k18_5 (q := 6) rfl rfl ?_
  refine g_get k18_6 (q := 9) rfl rfl rfl ?_
  refine e_ic k18_9 (q := 12) rfl (fun c9 => absurd c9 (by show ¬ σ 1 7 ≤ nI j; rw [h7]; exact nI_ge hj (by omega))) (fun c9 => ?_)
  refine e_aload k18_12 (q := 13) rfl rfl ?_
  refine e_aload k18_13 (q := 14) rfl rfl ?_
  refine g_get k18_14 (q := 17) rfl rfl rfl ?_
  refine e_iload k18_17 (q := 18) rfl rfl ?_
  refine g_rld k18_18 (q := 19) rfl rfl (by assumption) ?_
  rw [nI_clamp (by omega), hr]
  show z_E _ _ _ _ (.ref a :: _) _ _
  refine g_cv k18_19 (q := 22) (as := [_]) rfl rfl rfl rfl (m_isGood hn2 hD hT hC ha52 ha hsg) rfl (z_ki fun x19 h19 p19 => ?_)
  obtain ⟨σ1, rfl, e1, w1, rfl⟩ := p19
  refine e_if k18_22 (q := 25) rfl (fun c22 => ?_) (fun c22 => ?_)
  · refine e_const k18_29 (q := 30) rfl ?_
    refine e_iret k18_30 (by first | exact Or.inl rfl | exact Or.inr rfl | assumption) ?_
    exact ⟨_, _, rfl, σ1, rfl, e1, w1, by rw [z_bi_0.mp c22]; rfl⟩
  · refine e_const k18_25 (q := 26) rfl ?_
    refine e_goto k18_26 ?_
    refine e_iret k18_30 (by first | exact Or.inl rfl | exact Or.inr rfl | assumption) ?_
    exact ⟨_, _, rfl, σ1, rfl, e1, w1, by rw [show z_gv (σ 7) (σ 12) (σ 25) (σ 26) n k sg rf rb num = true from Classical.byContradiction (fun z => c22 (z_bi_0.mpr (Bool.not_eq_true _ ▸ z)))]; rfl⟩
theorem l_holdsM {d : Nat} {h : zH} {ρ : Nat → Nat → Option Nat} {σ : Nat → Nat → Int32} {j sg M E S D : Nat} {Q : Int32 → zH → Prop} (hj : j < 3) (hsg : sg < 12) (r41 : σ 41 j = nI sg) (r26 : σ 26 sg = nI E) (hM : 2 ≤ M) (hM2 : M < 2 ^ 31) (hE : E < 2 ^ 31) (hS : S < M) (hD : D < 2 ^ 31) (kk : Q (z_bi (decide (S ^ E % M = D % M))) (z_G h σ ρ)) : ∀ (m : Nat), m < 32 →
    z_E (d + 1) 111 88 [some (.ref 18), some (.int (nI j)), some (.int (nI D)), some (.long (lN M)), none, some (.long (lN S)), none, some (.long (lN (S ^ (E / 2 ^ m) % M))), none, some (.int (nI m + -1))] [] (z_G h σ ρ) (z_qi Q)
  | 0, _ => by
    have hm0 : ¬ lN M = 0 := fun z => absurd ((lN_eq (b := 0) hM2 (by decide)).mp z) (by omega)
    have hDM : D % M < M := Nat.mod_lt _ (by omega)
    have hp : S ^ (E / 2 ^ 0) % M = S ^ E % M := by rw [Nat.pow_zero, Nat.div_one]
    have hpl : S ^ E % M < M := Nat.mod_lt _ (by omega)
    rw [hp]
    refine e_iload k111_88 (q := 90) rfl rfl ?_
    refine e_if k111_90 (q := 93) rfl (fun c90 => ?_) (fun c90 => absurd (by decide) c90)
    refine e_lload k111_142 (q := 144) rfl rfl ?_
    refine e_iload k111_144 (q := 145) rfl rfl ?_
    refine e_i2l k111_145 (q := 146) rfl ?_
    rw [nI_l hD]
    refine e_lload k111_146 (q := 147) rfl rfl ?_
    refine e_lbn k111_147 (q := 148) rfl hm0 ?_
    rw [z_lm (by omega) (by omega) (by omega)]
    refine e_lcmp k111_148 (q := 149) rfl ?_
    refine e_if k111_149 (q := 152) rfl (fun c149 => ?_) (fun c149 => ?_)
    · refine e_const k111_156 (q := 157) rfl ?_
      refine e_iret k111_157 (by first | exact Or.inl rfl | exact Or.inr rfl | assumption) ?_
      have c : ¬ S ^ E % M = D % M := fun z => z_cmp0.mp c149 (by rw [z])
      exact ⟨_, _, rfl, by rw [decide_eq_false c] at kk; exact kk⟩
    · refine e_const k111_152 (q := 153) rfl ?_
      refine e_goto k111_153 ?_
      refine e_iret k111_157 (by first | exact Or.inl rfl | exact Or.inr rfl | assumption) ?_
      have c : S ^ E % M = D % M := by
        by_cases z : S ^ E % M = D % M
        · exact z
        · exact absurd (z_cmp0.mpr (fun y => z ((lN_eq (by omega) (by omega)).mp y))) c149
      exact ⟨_, _, rfl, by rw [decide_eq_true c] at kk; exact kk⟩
  | m + 1, hm => by
    have hm0 : ¬ lN M = 0 := fun z => absurd ((lN_eq (b := 0) hM2 (by decide)).mp z) (by omega)
    have hmod : ∀ y, y % M < M := fun y => Nat.mod_lt _ (by omega)
    have hinj : vp_in (nI j) 3 := vp_in_nI hj (by decide)
    have hins : vp_in (nI sg) 12 := vp_in_nI hsg (by decide)
    have hpw := z_pwM (S := S) (E := E) (k := m) (M := M)
    rw [z_dec]
    refine e_iload k111_88 (q := 90) rfl rfl ?_
    refine e_if k111_90 (q := 93) rfl (fun c90 => absurd c90 (nI_pos (by omega))) (fun c90 => ?_)
    refine e_lload k111_93 (q := 95) rfl rfl ?_
    refine e_lload k111_95 (q := 97) rfl rfl ?_
    refine e_lb k111_97 (q := 98) rfl ?_
    refine e_lload k111_98 (q := 99) rfl rfl ?_
    refine e_lbn k111_99 (q := 100) rfl hm0 ?_
    rw [z_pm (hmod _) (hmod _) hM2]
    refine e_lst k111_100 (q := 102) (L' := [_, _, _, _, _, _, _, _, _, _]) rfl rfl rfl ?_
    refine e_aload k111_102 (q := 103) rfl rfl ?_
    refine g_get k111_103 (q := 106) rfl rfl rfl ?_
    refine e_aload k111_106 (q := 107) rfl rfl ?_
    refine g_get k111_107 (q := 110) rfl rfl rfl ?_
    refine e_iload k111_110 (q := 111) rfl rfl ?_
    refine g_ald k111_111 (q := 112) rfl rfl (by assumption) ?_
    rw [nI_clamp (by omega), r41]
    refine g_ald k111_112 (q := 113) rfl rfl (by assumption) ?_
    rw [nI_clamp (by omega), r26]
    refine e_iload k111_113 (q := 115) rfl rfl ?_
    refine e_ib k111_115 (q := 116) rfl ?_
    rw [z_shr hE (by omega)]
    refine e_const k111_116 (q := 117) rfl ?_
    refine e_ib k111_117 (q := 118) rfl ?_
    rw [z_and1]
    refine e_const k111_118 (q := 119) rfl ?_
    refine e_ic k111_119 (q := 122) rfl (fun c119 => ?_) (fun c119 => ?_)
    · refine e_lload k111_132 (q := 134) rfl rfl ?_
      have hb : ¬ E / 2 ^ m % 2 = 1 := fun z => c119 (by rw [z]; rfl)
      rw [if_neg hb] at hpw
      refine e_lst k111_134 (q := 136) (L' := [_, _, _, _, _, _, _, some (.long (lN (S ^ (E / 2 ^ m) % M))), _, _]) rfl rfl (by rw [← hpw]; rfl) ?_
      refine e_iinc k111_136 (q := 139) (L' := [_, _, _, _, _, _, _, _, _, some (.int (nI m + -1))]) rfl rfl rfl ?_
      refine e_goto k111_139 ?_
      exact l_holdsM hj hsg r41 r26 hM hM2 hE hS hD kk m (by omega)
    · refine e_lload k111_122 (q := 124) rfl rfl ?_
      refine e_lload k111_124 (q := 126) rfl rfl ?_
      refine e_lb k111_126 (q := 127) rfl ?_
      refine e_lload k111_127 (q := 128) rfl rfl ?_
      refine e_lbn k111_128 (q := 129) rfl hm0 ?_
      refine e_goto k111_129 ?_
      have hb : E / 2 ^ m % 2 = 1 := (nI_eq (b := 1) (by omega) (by decide)).mp (Classical.not_not.mp c119)
      rw [if_pos hb] at hpw
      rw [z_pm (hmod _) hS hM2]
      refine e_lst k111_134 (q := 136) (L' := [_, _, _, _, _, _, _, some (.long (lN (S ^ (E / 2 ^ m) % M))), _, _]) rfl rfl (by rw [← hpw]; rfl) ?_
      refine e_iinc k111_136 (q := 139) (L' := [_, _, _, _, _, _, _, _, _, some (.int (nI m + -1))]) rfl rfl rfl ?_
      refine e_goto k111_139 ?_
      exact l_holdsM hj hsg r41 r26 hM hM2 hE hS hD kk m (by omega)
theorem m_holdsM0 {d : Nat} {h : zH} {ρ : Nat → Nat → Option Nat} {σ : Nat → Nat → Int32} {ns : Nat} (h7 : σ 18 28 = nI ns) {i : Int32} (hi : i < 0 ∨ ¬ i < nI ns) : z_M (d + 1) 111 [.ref 18, .int i] (z_G h σ ρ) (z_qi fun r h' => r = 0 ∧ h' = z_G h σ ρ) := by
  refine z_M.of ⟨Nat.le_of_ble_eq_true rfl, by simp [Value.category]⟩ (L := [some (.ref 18), some (.int i), none, none, none, none, none, none, none, none]) rfl ?_
  refine e_iload k111_0 (q := 1) rfl rfl ?_
  refine e_if k111_1 (q := 4) rfl (fun c1 => ?_) (fun c1 => ?_)
  · refine e_const k111_26 (q := 27) rfl ?_
    refine e_iret k111_27 (by first | exact Or.inl rfl | exact Or.inr rfl | assumption) ?_
    exact ⟨_, _, rfl, rfl, rfl⟩
  · refine e_iload k111_4 (q := 5) rfl rfl ?_
    refine e_aload k111_5 (q := 6) rfl rfl ?_
    refine g_get k111_6 (q := 9) rfl rfl rfl ?_
    refine e_ic k111_9 (q := 12) rfl (fun c9 => ?_) (fun c9 => ?_)
    · refine e_const k111_26 (q := 27) rfl ?_
      refine e_iret k111_27 (by first | exact Or.inl rfl | exact Or.inr rfl | assumption) ?_
      exact ⟨_, _, rfl, rfl, rfl⟩
    · exact absurd (show i < σ 18 28 from Int32.not_le.mp c9) (by rw [h7]; exact hi.resolve_left c1)
theorem m_holdsM1 {d : Nat} {h : zH} {ρ : Nat → Nat → Option Nat} {σ : Nat → Nat → Int32} {n k sg ns j : Nat} {rf rb : Bool} (hsg : sg < 12) (hK : σ 25 sg = 0 ∨ ∃ M E, 2 ≤ M ∧ M < 2 ^ 31 ∧ E < 2 ^ 31 ∧ σ 25 sg = nI M ∧ σ 26 sg = nI E) (hT : z_xm σ n) (hN : z_xn σ k) (h7c : ∀ j, z_c7 (σ 39 j)) (h7 : σ 18 28 = nI ns) (hns : ns ≤ 3) (hj : j < ns) (r41 : σ 41 j = nI sg) (r42 : σ 42 j = z_bi rf) (r43 : σ 43 j = z_bi rb) : z_M (d + 7) 111 [.ref 18, .int (nI j)] (z_G h σ ρ) (z_qi fun r h' => ∃ σ', h' = z_G h σ' ρ ∧ z_ey σ' σ ∧ r = z_bi (z_gv (σ 39) (σ 40) (σ 25) (σ 26) n k sg rf rb (σ 44 j))) := by
  refine z_M.of ⟨Nat.le_of_ble_eq_true rfl, by simp [Value.category]⟩ (L := [some (.ref 18), some (.int (nI j)), none, none, none, none, none, none, none, none]) rfl ?_
  have hinj : vp_in (nI j) 3 := vp_in_nI (by omega) (by decide)
  have hclj : (nI j).toNatClampNeg = j := nI_clamp (by omega)
  have hins : vp_in (nI sg) 12 := vp_in_nI hsg (by decide)
  have hcls : (nI sg).toNatClampNeg = sg := nI_clamp (by omega)
  refine e_iload k111_0 (q := 1) rfl rfl ?_
  refine e_if k111_1 (q := 4) rfl (fun c1 => absurd c1 (nI_pos (by omega))) (fun c1 => ?_)
  refine e_iload k111_4 (q := 5) rfl rfl ?_
  refine e_aload k111_5 (q := 6) rfl rfl ?_
  refine g_get k111_6 (q := 9) rfl rfl rfl ?_
  refine e_ic k111_9 (q := 12) rfl (fun c9 => absurd c9 (by show ¬ σ 18 28 ≤ nI j; rw [h7]; exact nI_ge hj (by omega))) (fun c9 => ?_)
  refine e_aload k111_12 (q := 13) rfl rfl ?_
  refine g_get k111_13 (q := 16) rfl rfl rfl ?_
  refine e_aload k111_16 (q := 17) rfl rfl ?_
  refine g_get k111_17 (q := 20) rfl rfl rfl ?_
  refine e_iload k111_20 (q := 21) rfl rfl ?_
  refine g_ald k111_21 (q := 22) rfl rfl (by assumption) ?_
  rw [hclj, r41]
  refine g_ald k111_22 (q := 23) rfl rfl (by assumption) ?_
  rw [hcls]
  refine e_if k111_23 (q := 26) rfl (fun c23 => ?_) (fun c23 => ?_)
  · have hne : ¬ σ 25 sg = 0 := c23
    obtain ⟨M, E, hM, hM2, hE, k25, k26⟩ := hK.resolve_left hne
    refine e_aload k111_28 (q := 29) rfl rfl ?_
    refine e_aload k111_29 (q := 30) rfl rfl ?_
    refine g_get k111_30 (q := 33) rfl rfl rfl ?_
    refine e_iload k111_33 (q := 34) rfl rfl ?_
    refine g_ald k111_34 (q := 35) rfl rfl (by assumption) ?_
    rw [hclj, r42]
    refine e_aload k111_35 (q := 36) rfl rfl ?_
    refine g_get k111_36 (q := 39) rfl rfl rfl ?_
    refine e_iload k111_39 (q := 40) rfl rfl ?_
    refine g_ald k111_40 (q := 41) rfl rfl (by assumption) ?_
    rw [hclj, r43]
    refine g_cv k111_41 (q := 44) (as := [_, _]) rfl rfl rfl rfl (m_digestM rf rb hT hN) rfl (z_ki fun x41 h41 p41 => ?_)
    obtain ⟨σ1, rfl, e1, q1⟩ := p41
    refine e_ist k111_44 (q := 45) (L' := [_, _, _, _, _, _, _, _, _, _]) rfl rfl rfl ?_
    refine e_iload k111_45 (q := 46) rfl rfl ?_
    refine e_if k111_46 (q := 49) rfl (fun c46 => ?_) (fun c46 => ?_)
    · cases hz : z_cf (σ 39) (σ 40) n k rf rb with
      | none =>
        rw [hz] at q1
        rw [show x41 = -1 from q1] at c46
        exact absurd c46 (by decide)
      | some o =>
      rw [hz] at q1
      obtain ⟨D, hD31, hDg⟩ := z_dgvN h7c hz
      obtain rfl : x41 = nI D := (show x41 = z_dgv o from q1).trans hDg
      have rr : ∀ k, k = 25 ∨ k = 26 ∨ k = 41 ∨ k = 44 → σ1 k = σ k := fun k hk => e1.1 k (by omega) (by omega) (by omega) (by omega) (by omega) (by omega) (by omega) (by omega)
      have hm0 : ¬ lN M = 0 := fun z => absurd ((lN_eq (b := 0) hM2 (by decide)).mp z) (by omega)
      have hSlt := z_rs2_lt (σ 44 j) (M := M) (by omega)
      refine e_aload k111_51 (q := 52) rfl rfl ?_
      refine g_get k111_52 (q := 55) rfl rfl rfl ?_
      refine e_aload k111_55 (q := 56) rfl rfl ?_
      refine g_get k111_56 (q := 59) rfl rfl rfl ?_
      refine e_iload k111_59 (q := 60) rfl rfl ?_
      refine g_ald k111_60 (q := 61) rfl rfl (by assumption) ?_
      rw [hclj, rr 41 (by omega), r41]
      refine g_ald k111_61 (q := 62) rfl rfl (by assumption) ?_
      rw [hcls, rr 25 (by omega), k25]
      refine e_i2l k111_62 (q := 63) rfl ?_
      rw [nI_l hM2]
      refine e_lst k111_63 (q := 64) (L' := [_, _, _, _, _, _, _, _, _, _]) rfl rfl rfl ?_
      refine e_aload k111_64 (q := 65) rfl rfl ?_
      refine g_get k111_65 (q := 68) rfl rfl rfl ?_
      refine e_iload k111_68 (q := 69) rfl rfl ?_
      refine g_ald k111_69 (q := 70) rfl rfl (by assumption) ?_
      rw [hclj, rr 44 (by omega)]
      refine e_i2l k111_70 (q := 71) rfl ?_
      refine e_lload k111_71 (q := 72) rfl rfl ?_
      refine e_lbn k111_72 (q := 73) rfl hm0 ?_
      refine e_lload k111_73 (q := 74) rfl rfl ?_
      refine e_lb k111_74 (q := 75) rfl ?_
      refine e_lload k111_75 (q := 76) rfl rfl ?_
      refine e_lbn k111_76 (q := 77) rfl hm0 ?_
      rw [z_smM (σ 44 j) (by omega) hM2]
      refine e_lst k111_77 (q := 79) (L' := [_, _, _, _, _, _, _, _, _, _]) rfl rfl rfl ?_
      refine e_const k111_79 (q := 80) rfl ?_
      refine e_lload k111_80 (q := 81) rfl rfl ?_
      refine e_lbn k111_81 (q := 82) rfl hm0 ?_
      rw [show (1 : Int64) = lN 1 from rfl, z_lm (by decide) (by omega) (by omega)]
      refine e_lst k111_82 (q := 84) (L' := [_, _, _, _, _, _, _, _, _, _]) rfl rfl rfl ?_
      refine e_const k111_84 (q := 86) rfl ?_
      refine e_ist k111_86 (q := 88) (L' := [_, _, _, _, _, _, _, _, _, _]) rfl rfl rfl ?_
      have hgv : z_gv (σ 39) (σ 40) (σ 25) (σ 26) n k sg rf rb (σ 44 j) = decide (z_rs2 (σ 44 j) M ^ E % M = D % M) := by
        rw [z_gv, if_neg hne, hz]
        show z_opn (σ 25 sg).toNatClampNeg (σ 26 sg).toNatClampNeg (z_dgv o).toNatClampNeg (σ 44 j) = _
        rw [k25, k26, hDg, nI_clamp hM2, nI_clamp hE, nI_clamp (by omega)]
        rfl
      have h31 : z_rs2 (σ 44 j) M ^ (E / 2 ^ 31) % M = 1 % M := by rw [Nat.div_eq_of_lt hE, Nat.pow_zero]
      have hl := l_holdsM (d := d + 5) (h := h) (ρ := ρ) (σ := σ1) (S := z_rs2 (σ 44 j) M) (Q := fun r h' => ∃ σ', h' = z_G h σ' ρ ∧ z_ey σ' σ ∧ r = z_bi (z_gv (σ 39) (σ 40) (σ 25) (σ 26) n k sg rf rb (σ 44 j))) (j := j) (by omega) hsg (by rw [rr 41 (by omega)]; exact r41) (by rw [rr 26 (by omega)]; exact k26) hM hM2 hE hSlt (show D < 2 ^ 31 by omega) ⟨σ1, rfl, e1, by rw [hgv]⟩ 31 (by decide)
      rw [h31] at hl
      exact hl
    · refine e_const k111_49 (q := 50) rfl ?_
      refine e_iret k111_50 (by first | exact Or.inl rfl | exact Or.inr rfl | assumption) ?_
      have hz : z_cf (σ 39) (σ 40) n k rf rb = none := by
        cases hz : z_cf (σ 39) (σ 40) n k rf rb with
        | none => rfl
        | some o =>
          rw [hz] at q1
          obtain ⟨D, hD31, hDg⟩ := z_dgvN h7c hz
          exact absurd (by rw [show x41 = nI D from (show x41 = z_dgv o from q1).trans hDg]; exact nI_pos' (by omega)) c46
      exact ⟨_, _, rfl, σ1, rfl, e1, by rw [z_gv, if_neg hne, hz]; rfl⟩
  · have hz0 : σ 25 sg = 0 := Classical.not_not.mp c23
    refine e_const k111_26 (q := 27) rfl ?_
    refine e_iret k111_27 (by first | exact Or.inl rfl | exact Or.inr rfl | assumption) ?_
    exact ⟨_, _, rfl, σ, rfl, ⟨fun _ _ _ _ _ _ _ _ _ => rfl, fun _ _ _ _ _ => rfl⟩, by rw [z_gv, if_pos hz0]; rfl⟩
theorem z_dK.or {h : zH} {σ : Nat → Nat → Int32} {i : Nat} {ko : Option Nat} (H : z_dK h σ i ko) : σ 25 i = 0 ∨ ∃ M E, 2 ≤ M ∧ M < 2 ^ 31 ∧ E < 2 ^ 31 ∧ σ 25 i = nI M ∧ σ 26 i = nI E := by
  rcases H with ⟨-, z⟩ | ⟨a, M, E, -, -, -, e4, e5, e6, e7, e8⟩
  · exact Or.inl z
  · exact Or.inr ⟨M, E, e4, e5, e6, e7, e8⟩
theorem z_DD.key {h : zH} {σ : Nat → Nat → Int32} {ρ : Nat → Nat → Option Nat} {nD i : Nat} {dm : Nat → Nat} (hD : z_DD h σ ρ nD dm) (hi : i < nD) : σ 25 i = 0 ∨ ∃ M E, 2 ≤ M ∧ M < 2 ^ 31 ∧ E < 2 ^ 31 ∧ σ 25 i = nI M ∧ σ 26 i = nI E := by
  obtain ⟨h52, po, sf, na, ne, nm, lo, ko, wo, f, g, tt, c1, c2, c3, c4, c5, c6, c7, hK, c9x⟩ := (hD.1 i hi).2
  exact hK.or
theorem s_holds {d : Nat} {X : zE} {h : zH} {σ : Nat → Nat → Int32} {ρ : Nat → Nat → Option Nat} (hI : z_I X h σ ρ) (i : Int32) : z_M (d + 7) 18 [.ref 1, .int i] (z_G h σ ρ) (z_qi fun r h' => z_mid X h' ∧ z_M (d + 7) 111 [.ref 18, .int i] h' (z_ok X h r)) := by
  obtain ⟨nD, dm, ns, hC, hD, hS, ⟨n0, k0, out, t1, t2, t3, t4, t5, t6, t7, t8⟩, hF⟩ := hI
  have hT : z_TK σ n0 k0 := ⟨t1, t2, t4, t5, t6, t7, t8⟩
  obtain ⟨hns, s1, s2, s3⟩ := hS
  have hcase : (i < 0 ∨ ¬ i < nI ns) ∨ ∃ j, j < ns ∧ i = nI j := by
    by_cases z0 : i < 0
    · exact Or.inl (Or.inl z0)
    · by_cases z1 : i < nI ns
      · obtain ⟨j, hj, rfl⟩ := nI_of z0
        exact Or.inr ⟨j, (nI_ltI hj (by omega)).mp z1, rfl⟩
      · exact Or.inl (Or.inr z1)
  rcases hcase with hb | ⟨j, hj, rfl⟩
  · refine (m_holds0 s1 hb).mono ?_
    rintro r ⟨x, h', rfl, rfl, rfl⟩
    refine ⟨_, _, rfl, z_mid.of hF.2.1, (m_holdsM0 s2 hb).mono ?_⟩
    rintro r ⟨x, h', rfl, rfl, rfl⟩
    exact z_ok.same ⟨nD, dm, ns, hC, hD, ⟨hns, s1, s2, s3⟩, hT.tt ⟨out, t3⟩, hF⟩
  · obtain ⟨a, sg, rf, rb, a1, a2, a3, a4, a5, a6, a7⟩ := s3 j hj
    have hn := hC.1
    refine (m_holds1 hn hD hT t3 a2 a3 a4 s1 hns hj a1).mono ?_
    rintro r ⟨x, h', rfl, σ1, rfl, w1, ⟨o1, w2⟩, rfl⟩
    have sc := w1.sc
    have hD1 : z_DD h σ1 ρ nD dm := hD.fr z_kp.rf (fun _ _ _ _ => rfl) rfl (fun k x y => sc.1 k (by omega))
    refine ⟨_, _, rfl, z_mid.of hF.2.1, (m_holdsM1 (σ := σ1) (rf := rf) (rb := rb) (sg := sg) (by omega) (hD1.key a4) (sc.xm t4) (sc.xn t5) (by rw [sc.1 39 (by omega), t6]; exact t8) (by rw [sc.2 28 (by decide) (by decide) (by decide) (by decide)]; exact s2) hns hj (by rw [sc.1 41 (by omega)]; exact a5) (by rw [sc.1 42 (by omega)]; exact a6) (by rw [sc.1 43 (by omega)]; exact a7)).mono ?_⟩
    rintro r ⟨y, h', rfl, σ2, rfl, w4, rfl⟩
    refine ⟨_, _, rfl, ?_, h, σ2, ρ, rfl, z_I.sc hC hD ⟨hns, s1, s2, s3⟩ hT hF (w4.sc.tr sc) ⟨o1, w4.cs w2⟩, by omega, by omega⟩
    rw [sc.1 39 (by omega), sc.1 40 (by omega), t6, t7, sc.1 25 (by omega), sc.1 26 (by omega), sc.1 44 (by omega)]
