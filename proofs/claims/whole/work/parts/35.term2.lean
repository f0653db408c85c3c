/-! Terms of a policy: the model; both. -/
def z_lf (k : Nat → Int32) (b : Nat) : Nat → Int32
  | 0 => -1
  | m + 1 => if k (b + m) = 6 then nI (b + m) else z_lf k b m
theorem z_lf_none {k : Nat → Int32} {b : Nat} : ∀ m, (∀ j, j < m → ¬ k (b + j) = 6) → z_lf k b m = -1
  | 0, _ => rfl
  | m + 1, h => by rw [z_lf, if_neg (h m (by omega)), z_lf_none m (fun j hj => h j (by omega))]
theorem z_lf_one {k : Nat → Int32} {b j : Nat} : ∀ m, j < m → k (b + j) = 6 → (∀ j', j' < m → k (b + j') = 6 → j' = j) → z_lf k b m = nI (b + j)
  | 0, h, _, _ => absurd h (Nat.not_lt_zero _)
  | m + 1, h, e, u => by
    rw [z_lf]
    by_cases c : k (b + m) = 6
    · rw [if_pos c, u m (by omega) c]
    · rw [if_neg c]
      refine z_lf_one m ?_ e (fun j' h' => u j' (by omega))
      have : j ≠ m := fun z => c (z ▸ e)
      omega
theorem l_leadOf {d : Nat} {h : zH} {ρ : Nat → Nat → Option Nat} {σ : Nat → Nat → Int32} {i nm : Nat} (hi : i < 12) (hm : σ 31 i = nI nm) (hm8 : nm ≤ 8) : ∀ (m j : Nat), j + m = nm →
    z_E d 75 7 [some (.ref 18), some (.int (nI i)), some (.int (z_lf (σ 33) (8 * i) j)), some (.int (nI (8 * i + j)))] [] (z_G h σ ρ) (z_qi fun r h' => r = z_lf (σ 33) (8 * i) nm ∧ h' = z_G h σ ρ)
  | 0, j, hj => by
    obtain rfl : j = nm := by omega
    have hin : vp_in (nI i) 12 := vp_in_nI (by omega) (by decide)
    have hcl : (nI i).toNatClampNeg = i := nI_clamp (by omega)
    have h8 : (8 : Int32) * nI i = nI (8 * i) := z_nmul 8 i
    refine e_iload k75_7 (q := 8) rfl rfl ?_
    refine e_const k75_8 (q := 10) rfl ?_
    refine e_iload k75_10 (q := 11) rfl rfl ?_
    refine e_ib k75_11 (q := 12) rfl ?_
    refine e_aload k75_12 (q := 13) rfl rfl ?_
    refine g_get k75_13 (q := 16) rfl rfl rfl ?_
    refine e_iload k75_16 (q := 17) rfl rfl ?_
    refine g_ald k75_17 (q := 18) rfl rfl (by assumption) ?_
    rw [hcl]
    refine e_ib k75_18 (q := 19) rfl ?_
    rw [h8, hm, nI_add]
    refine e_ic k75_19 (q := 22) rfl (fun c19 => ?_) (fun c19 => absurd (nI_le (Nat.le_refl _) (by omega)) c19)
    refine e_iload k75_45 (q := 46) rfl rfl ?_
    refine e_iret k75_46 ⟨_, rfl⟩ ?_
    exact ⟨_, _, rfl, rfl, rfl⟩
  | m + 1, j, hj => by
    have hin : vp_in (nI i) 12 := vp_in_nI (by omega) (by decide)
    have hcl : (nI i).toNatClampNeg = i := nI_clamp (by omega)
    have h8 : (8 : Int32) * nI i = nI (8 * i) := z_nmul 8 i
    have hin2 : vp_in (nI (8 * i + j)) 96 := vp_in_nI (by omega) (by decide)
    have hcl2 : (nI (8 * i + j)).toNatClampNeg = 8 * i + j := nI_clamp (by omega)
    refine e_iload k75_7 (q := 8) rfl rfl ?_
    refine e_const k75_8 (q := 10) rfl ?_
    refine e_iload k75_10 (q := 11) rfl rfl ?_
    refine e_ib k75_11 (q := 12) rfl ?_
    refine e_aload k75_12 (q := 13) rfl rfl ?_
    refine g_get k75_13 (q := 16) rfl rfl rfl ?_
    refine e_iload k75_16 (q := 17) rfl rfl ?_
    refine g_ald k75_17 (q := 18) rfl rfl (by assumption) ?_
    rw [hcl]
    refine e_ib k75_18 (q := 19) rfl ?_
    rw [h8, hm, nI_add]
    refine e_ic k75_19 (q := 22) rfl (fun c19 => absurd c19 (nI_ge (by omega) (by omega))) (fun c19 => ?_)
    refine e_aload k75_22 (q := 23) rfl rfl ?_
    refine g_get k75_23 (q := 26) rfl rfl rfl ?_
    refine e_iload k75_26 (q := 27) rfl rfl ?_
    refine g_ald k75_27 (q := 28) rfl rfl (by assumption) ?_
    rw [hcl2]
    refine e_const k75_28 (q := 30) rfl ?_
    refine e_ic k75_30 (q := 33) rfl (fun c30 => ?_) (fun c30 => ?_)
    · refine e_iload k75_37 (q := 38) rfl rfl ?_
      refine e_ist k75_38 (q := 39) (L' := [_, _, some (.int (z_lf (σ 33) (8 * i) (j + 1))), _]) rfl rfl (by rw [z_lf, if_neg c30]; rfl) ?_
      refine e_iinc k75_39 (q := 42) (L' := [_, _, _, some (.int (nI (8 * i + (j + 1))))]) rfl rfl (by rw [nI_1]; rfl) ?_
      refine e_goto k75_42 ?_
      exact l_leadOf hi hm hm8 m (j + 1) (by omega)
    · refine e_iload k75_33 (q := 34) rfl rfl ?_
      refine e_goto k75_34 ?_
      refine e_ist k75_38 (q := 39) (L' := [_, _, some (.int (z_lf (σ 33) (8 * i) (j + 1))), _]) rfl rfl (by rw [z_lf, if_pos (Classical.not_not.mp c30)]; rfl) ?_
      refine e_iinc k75_39 (q := 42) (L' := [_, _, _, some (.int (nI (8 * i + (j + 1))))]) rfl rfl (by rw [nI_1]; rfl) ?_
      refine e_goto k75_42 ?_
      exact l_leadOf hi hm hm8 m (j + 1) (by omega)
theorem m_leadOf {d : Nat} {h : zH} {ρ : Nat → Nat → Option Nat} {σ : Nat → Nat → Int32} {i nm : Nat} (hi : i < 12) (hm : σ 31 i = nI nm) (hm8 : nm ≤ 8) : z_M (d + 1) 75 [.ref 18, .int (nI i)] (z_G h σ ρ) (z_qi fun r h' => r = z_lf (σ 33) (8 * i) nm ∧ h' = z_G h σ ρ) := by
  refine z_M.of ⟨Nat.le_of_ble_eq_true rfl, by simp [Value.category]⟩ (L := [some (.ref 18), some (.int (nI i)), none, none]) rfl ?_
  have h8 : (8 : Int32) * nI i = nI (8 * i) := z_nmul 8 i
  refine e_const k75_0 (q := 1) rfl ?_
  refine e_ist k75_1 (q := 2) (L' := [_, _, _, _]) rfl rfl rfl ?_
  refine e_const k75_2 (q := 4) rfl ?_
  refine e_iload k75_4 (q := 5) rfl rfl ?_
  refine e_ib k75_5 (q := 6) rfl ?_
  rw [h8]
  refine e_ist k75_6 (q := 7) (L' := [_, _, _, _]) rfl rfl rfl ?_
  exact l_leadOf hi hm hm8 nm 0 (by omega)
theorem m_termMB {d : Nat} {h : zH} {ρ : Nat → Nat → Option Nat} {σ : Nat → Nat → Int32} {nD : Nat} (h0 : σ 18 0 = nI nD) {p : Int32} (q k a n : Int32) (hx : z_nb nD p) : z_M (d + 2) 76 [.ref 18, .int p, .int q, .int k, .int a, .int n] (z_G h σ ρ) (z_qi fun r h' => r = -1 ∧ h' = z_G h σ ρ) := by
  refine z_M.of ⟨Nat.le_of_ble_eq_true rfl, by simp [Value.category]⟩ (L := [some (.ref 18), some (.int p), some (.int q), some (.int k), some (.int a), some (.int n), none]) rfl ?_
  refine e_aload k76_0 (q := 1) rfl rfl ?_
  refine e_iload k76_1 (q := 2) rfl rfl ?_
  refine g_cv k76_2 (q := 5) (as := [_]) rfl rfl rfl rfl (m_noneB h0 hx) rfl (z_ki fun x2 h2 p2 => ?_)
  obtain ⟨rfl, rfl⟩ := p2
  refine e_if k76_5 (q := 8) rfl (fun c5 => ?_) (fun c5 => absurd (by decide) c5)
  refine e_const k76_34 (q := 35) rfl ?_
  refine e_iret k76_35 ⟨_, rfl⟩ ?_
  exact ⟨_, _, rfl, rfl, rfl⟩
theorem l_termM {d : Nat} {h : zH} {ρ : Nat → Nat → Option Nat} {σ : Nat → Nat → Int32} {nD : Nat} {dm : Nat → Nat} {i : Nat} {P : Int32 → zH → Prop} (h0 : σ 18 0 = nI nD) (hn : nD ≤ 12) (hi : i < nD) {q k a n : Int32} {tg : Option Nat} (ht : z_tgo nD dm i a tg) (kk0 : ¬ z_okt q k n tg → P (-1) (z_G h σ ρ))
    (kk1 : z_okt q k n tg → z_E (d + 1) 76 80 [some (.ref 18), some (.int (nI i)), some (.int q), some (.int k), some (.int a), some (.int n), none] [] (z_G h σ ρ) (z_qi P)) :
    z_E (d + 1) 76 0 [some (.ref 18), some (.int (nI i)), some (.int q), some (.int k), some (.int a), some (.int n), none] [] (z_G h σ ρ) (z_qi P) := by
  have ha1 : a = -1 → ¬ tg = none := by
    rintro rfl
    rcases ht with ⟨-, rfl⟩ | ⟨z, -⟩ | ⟨v, -, -, rfl⟩
    · intro z; cases z
    · exact absurd rfl z
    · intro z; cases z
  have ha2 : ¬ a = -1 → z_nb nD a → tg = none := by
    intro x y
    rcases ht with ⟨z, -⟩ | ⟨-, -, z⟩ | ⟨v, hv, rfl, -⟩
    · exact absurd z x
    · exact z
    · exact absurd y (z_nb_no hn hv)
  have ha3 : ¬ z_nb nD a → ¬ tg = none := by
    intro y
    rcases ht with ⟨-, rfl⟩ | ⟨-, z, -⟩ | ⟨v, hv, -, rfl⟩
    · intro z; cases z
    · exact absurd z y
    · intro z; cases z
  by_cases hb : z_nb nD a
  · refine e_aload k76_0 (q := 1) rfl rfl ?_
    refine e_iload k76_1 (q := 2) rfl rfl ?_
    refine g_cv k76_2 (q := 5) (as := [_]) rfl rfl rfl rfl (m_noneG h0 (z_nb_no hn hi)) rfl (z_ki fun x2 h2 p2 => ?_)
    obtain ⟨rfl, rfl⟩ := p2
    refine e_if k76_5 (q := 8) rfl (fun c5 => absurd c5 (fun z => z rfl)) (fun c5 => ?_)
    refine e_iload k76_8 (q := 9) rfl rfl ?_
    refine e_if k76_9 (q := 12) rfl (fun c9 => ?_) (fun c9 => ?_)
    · refine e_const k76_34 (q := 35) rfl ?_
      refine e_iret k76_35 ⟨_, rfl⟩ ?_
      exact ⟨_, _, rfl, kk0 (fun ok => ok.1.1 c9)⟩
    · refine e_iload k76_12 (q := 13) rfl rfl ?_
      refine e_const k76_13 (q := 15) rfl ?_
      refine e_ic k76_15 (q := 18) rfl (fun c15 => ?_) (fun c15 => ?_)
      · refine e_const k76_34 (q := 35) rfl ?_
        refine e_iret k76_35 ⟨_, rfl⟩ ?_
        exact ⟨_, _, rfl, kk0 (fun ok => Int32.not_le.mpr c15 ok.1.2)⟩
      · refine e_iload k76_18 (q := 19) rfl rfl ?_
        refine e_const k76_19 (q := 21) rfl ?_
        refine e_ic k76_21 (q := 24) rfl (fun c21 => ?_) (fun c21 => ?_)
        · refine e_iload k76_36 (q := 37) rfl rfl ?_
          refine e_const k76_37 (q := 38) rfl ?_
          refine e_ic k76_38 (q := 41) rfl (fun c38 => ?_) (fun c38 => ?_)
          · refine e_iload k76_56 (q := 57) rfl rfl ?_
            refine e_const k76_57 (q := 58) rfl ?_
            refine e_ic k76_58 (q := 61) rfl (fun c58 => ?_) (fun c58 => ?_)
            · exact kk1 ⟨⟨c9, Int32.not_lt.mp c15⟩, (Or.inl c21), (fun z => absurd c58 ((z_k3 c9).mpr z).1), (fun z => absurd ((z_k2 c9).mp c38) z)⟩
            · refine e_iload k76_61 (q := 62) rfl rfl ?_
              refine e_const k76_62 (q := 63) rfl ?_
              refine e_ic k76_63 (q := 66) rfl (fun c63 => ?_) (fun c63 => ?_)
              · exact kk1 ⟨⟨c9, Int32.not_lt.mp c15⟩, (Or.inl c21), (fun z => absurd c63 ((z_k3 c9).mpr z).2), (fun z => absurd ((z_k2 c9).mp c38) z)⟩
              · refine e_iload k76_66 (q := 68) rfl rfl ?_
                refine e_if k76_68 (q := 71) rfl (fun c68 => ?_) (fun c68 => ?_)
                · refine e_const k76_78 (q := 79) rfl ?_
                  refine e_iret k76_79 ⟨_, rfl⟩ ?_
                  exact ⟨_, _, rfl, kk0 (fun ok => (ok.2.2.1 ((z_k3 c9).mp ⟨c58, c63⟩)).1 c68)⟩
                · refine e_iload k76_71 (q := 73) rfl rfl ?_
                  refine e_const k76_73 (q := 75) rfl ?_
                  refine e_ic k76_75 (q := 78) rfl (fun c75 => ?_) (fun c75 => ?_)
                  · exact kk1 ⟨⟨c9, Int32.not_lt.mp c15⟩, (Or.inl c21), (fun _ => ⟨c68, c75⟩), (fun z => absurd ((z_k2 c9).mp c38) z)⟩
                  · refine e_const k76_78 (q := 79) rfl ?_
                    refine e_iret k76_79 ⟨_, rfl⟩ ?_
                    exact ⟨_, _, rfl, kk0 (fun ok => c75 (ok.2.2.1 ((z_k3 c9).mp ⟨c58, c63⟩)).2)⟩
          · refine e_iload k76_41 (q := 43) rfl rfl ?_
            refine e_const k76_43 (q := 44) rfl ?_
            refine e_ic k76_44 (q := 47) rfl (fun c44 => ?_) (fun c44 => ?_)
            · refine e_iload k76_56 (q := 57) rfl rfl ?_
              refine e_const k76_57 (q := 58) rfl ?_
              refine e_ic k76_58 (q := 61) rfl (fun c58 => ?_) (fun c58 => ?_)
              · exact kk1 ⟨⟨c9, Int32.not_lt.mp c15⟩, (Or.inl c21), (fun z => absurd c58 ((z_k3 c9).mpr z).1), (fun _ => ha1 c44)⟩
              · refine e_iload k76_61 (q := 62) rfl rfl ?_
                refine e_const k76_62 (q := 63) rfl ?_
                refine e_ic k76_63 (q := 66) rfl (fun c63 => ?_) (fun c63 => ?_)
                · exact kk1 ⟨⟨c9, Int32.not_lt.mp c15⟩, (Or.inl c21), (fun z => absurd c63 ((z_k3 c9).mpr z).2), (fun _ => ha1 c44)⟩
                · refine e_iload k76_66 (q := 68) rfl rfl ?_
                  refine e_if k76_68 (q := 71) rfl (fun c68 => ?_) (fun c68 => ?_)
                  · refine e_const k76_78 (q := 79) rfl ?_
                    refine e_iret k76_79 ⟨_, rfl⟩ ?_
                    exact ⟨_, _, rfl, kk0 (fun ok => (ok.2.2.1 ((z_k3 c9).mp ⟨c58, c63⟩)).1 c68)⟩
                  · refine e_iload k76_71 (q := 73) rfl rfl ?_
                    refine e_const k76_73 (q := 75) rfl ?_
                    refine e_ic k76_75 (q := 78) rfl (fun c75 => ?_) (fun c75 => ?_)
                    · exact kk1 ⟨⟨c9, Int32.not_lt.mp c15⟩, (Or.inl c21), (fun _ => ⟨c68, c75⟩), (fun _ => ha1 c44)⟩
                    · refine e_const k76_78 (q := 79) rfl ?_
                      refine e_iret k76_79 ⟨_, rfl⟩ ?_
                      exact ⟨_, _, rfl, kk0 (fun ok => c75 (ok.2.2.1 ((z_k3 c9).mp ⟨c58, c63⟩)).2)⟩
            · refine e_aload k76_47 (q := 48) rfl rfl ?_
              refine e_iload k76_48 (q := 50) rfl rfl ?_
              refine g_cv k76_50 (q := 53) (as := [_]) rfl rfl rfl rfl (m_noneB h0 hb) rfl (z_ki fun x50 h50 p50 => ?_)
              obtain ⟨rfl, rfl⟩ := p50
              refine e_if k76_53 (q := 56) rfl (fun c53 => ?_) (fun c53 => absurd (by decide) c53)
              refine e_const k76_78 (q := 79) rfl ?_
              refine e_iret k76_79 ⟨_, rfl⟩ ?_
              exact ⟨_, _, rfl, kk0 (fun ok => ok.2.2.2 (fun z => c38 ((z_k2 c9).mpr z)) (ha2 c44 hb))⟩
        · refine e_iload k76_24 (q := 25) rfl rfl ?_
          refine e_const k76_25 (q := 26) rfl ?_
          refine e_ic k76_26 (q := 29) rfl (fun c26 => ?_) (fun c26 => ?_)
          · refine e_const k76_34 (q := 35) rfl ?_
            refine e_iret k76_35 ⟨_, rfl⟩ ?_
            exact ⟨_, _, rfl, kk0 (fun ok => ok.2.1.elim c21 (fun z => z.1 c26))⟩
          · refine e_iload k76_29 (q := 30) rfl rfl ?_
            refine e_const k76_30 (q := 31) rfl ?_
            refine e_ic k76_31 (q := 34) rfl (fun c31 => ?_) (fun c31 => ?_)
            · refine e_iload k76_36 (q := 37) rfl rfl ?_
              refine e_const k76_37 (q := 38) rfl ?_
              refine e_ic k76_38 (q := 41) rfl (fun c38 => ?_) (fun c38 => ?_)
              · refine e_iload k76_56 (q := 57) rfl rfl ?_
                refine e_const k76_57 (q := 58) rfl ?_
                refine e_ic k76_58 (q := 61) rfl (fun c58 => ?_) (fun c58 => ?_)
                · exact kk1 ⟨⟨c9, Int32.not_lt.mp c15⟩, (Or.inr ⟨c26, c31⟩), (fun z => absurd c58 ((z_k3 c9).mpr z).1), (fun z => absurd ((z_k2 c9).mp c38) z)⟩
                · refine e_iload k76_61 (q := 62) rfl rfl ?_
                  refine e_const k76_62 (q := 63) rfl ?_
                  refine e_ic k76_63 (q := 66) rfl (fun c63 => ?_) (fun c63 => ?_)
                  · exact kk1 ⟨⟨c9, Int32.not_lt.mp c15⟩, (Or.inr ⟨c26, c31⟩), (fun z => absurd c63 ((z_k3 c9).mpr z).2), (fun z => absurd ((z_k2 c9).mp c38) z)⟩
                  · refine e_iload k76_66 (q := 68) rfl rfl ?_
                    refine e_if k76_68 (q := 71) rfl (fun c68 => ?_) (fun c68 => ?_)
                    · refine e_const k76_78 (q := 79) rfl ?_
                      refine e_iret k76_79 ⟨_, rfl⟩ ?_
                      exact ⟨_, _, rfl, kk0 (fun ok => (ok.2.2.1 ((z_k3 c9).mp ⟨c58, c63⟩)).1 c68)⟩
                    · refine e_iload k76_71 (q := 73) rfl rfl ?_
                      refine e_const k76_73 (q := 75) rfl ?_
                      refine e_ic k76_75 (q := 78) rfl (fun c75 => ?_) (fun c75 => ?_)
                      · exact kk1 ⟨⟨c9, Int32.not_lt.mp c15⟩, (Or.inr ⟨c26, c31⟩), (fun _ => ⟨c68, c75⟩), (fun z => absurd ((z_k2 c9).mp c38) z)⟩
                      · refine e_const k76_78 (q := 79) rfl ?_
                        refine e_iret k76_79 ⟨_, rfl⟩ ?_
                        exact ⟨_, _, rfl, kk0 (fun ok => c75 (ok.2.2.1 ((z_k3 c9).mp ⟨c58, c63⟩)).2)⟩
              · refine e_iload k76_41 (q := 43) rfl rfl ?_
                refine e_const k76_43 (q := 44) rfl ?_
                refine e_ic k76_44 (q := 47) rfl (fun c44 => ?_) (fun c44 => ?_)
                · refine e_iload k76_56 (q := 57) rfl rfl ?_
                  refine e_const k76_57 (q := 58) rfl ?_
                  refine e_ic k76_58 (q := 61) rfl (fun c58 => ?_) (fun c58 => ?_)
                  · exact kk1 ⟨⟨c9, Int32.not_lt.mp c15⟩, (Or.inr ⟨c26, c31⟩), (fun z => absurd c58 ((z_k3 c9).mpr z).1), (fun _ => ha1 c44)⟩
                  · refine e_iload k76_61 (q := 62) rfl rfl ?_
                    refine e_const k76_62 (q := 63) rfl ?_
                    refine e_ic k76_63 (q := 66) rfl (fun c63 => ?_) (fun c63 => ?_)
                    · exact kk1 ⟨⟨c9, Int32.not_lt.mp c15⟩, (Or.inr ⟨c26, c31⟩), (fun z => absurd c63 ((z_k3 c9).mpr z).2), (fun _ => ha1 c44)⟩
                    · refine e_iload k76_66 (q := 68) rfl rfl ?_
                      refine e_if k76_68 (q := 71) rfl (fun c68 => ?_) (fun c68 => ?_)
                      · refine e_const k76_78 (q := 79) rfl ?_
                        refine e_iret k76_79 ⟨_, rfl⟩ ?_
                        exact ⟨_, _, rfl, kk0 (fun ok => (ok.2.2.1 ((z_k3 c9).mp ⟨c58, c63⟩)).1 c68)⟩
                      · refine e_iload k76_71 (q := 73) rfl rfl ?_
                        refine e_const k76_73 (q := 75) rfl ?_
                        refine e_ic k76_75 (q := 78) rfl (fun c75 => ?_) (fun c75 => ?_)
                        · exact kk1 ⟨⟨c9, Int32.not_lt.mp c15⟩, (Or.inr ⟨c26, c31⟩), (fun _ => ⟨c68, c75⟩), (fun _ => ha1 c44)⟩
                        · refine e_const k76_78 (q := 79) rfl ?_
                          refine e_iret k76_79 ⟨_, rfl⟩ ?_
                          exact ⟨_, _, rfl, kk0 (fun ok => c75 (ok.2.2.1 ((z_k3 c9).mp ⟨c58, c63⟩)).2)⟩
                · refine e_aload k76_47 (q := 48) rfl rfl ?_
                  refine e_iload k76_48 (q := 50) rfl rfl ?_
                  refine g_cv k76_50 (q := 53) (as := [_]) rfl rfl rfl rfl (m_noneB h0 hb) rfl (z_ki fun x50 h50 p50 => ?_)
                  obtain ⟨rfl, rfl⟩ := p50
                  refine e_if k76_53 (q := 56) rfl (fun c53 => ?_) (fun c53 => absurd (by decide) c53)
                  refine e_const k76_78 (q := 79) rfl ?_
                  refine e_iret k76_79 ⟨_, rfl⟩ ?_
                  exact ⟨_, _, rfl, kk0 (fun ok => ok.2.2.2 (fun z => c38 ((z_k2 c9).mpr z)) (ha2 c44 hb))⟩
            · refine e_const k76_34 (q := 35) rfl ?_
              refine e_iret k76_35 ⟨_, rfl⟩ ?_
              exact ⟨_, _, rfl, kk0 (fun ok => ok.2.1.elim c21 (fun z => c31 z.2))⟩
  · refine e_aload k76_0 (q := 1) rfl rfl ?_
    refine e_iload k76_1 (q := 2) rfl rfl ?_
    refine g_cv k76_2 (q := 5) (as := [_]) rfl rfl rfl rfl (m_noneG h0 (z_nb_no hn hi)) rfl (z_ki fun x2 h2 p2 => ?_)
    obtain ⟨rfl, rfl⟩ := p2
    refine e_if k76_5 (q := 8) rfl (fun c5 => absurd c5 (fun z => z rfl)) (fun c5 => ?_)
    refine e_iload k76_8 (q := 9) rfl rfl ?_
    refine e_if k76_9 (q := 12) rfl (fun c9 => ?_) (fun c9 => ?_)
    · refine e_const k76_34 (q := 35) rfl ?_
      refine e_iret k76_35 ⟨_, rfl⟩ ?_
      exact ⟨_, _, rfl, kk0 (fun ok => ok.1.1 c9)⟩
    · refine e_iload k76_12 (q := 13) rfl rfl ?_
      refine e_const k76_13 (q := 15) rfl ?_
      refine e_ic k76_15 (q := 18) rfl (fun c15 => ?_) (fun c15 => ?_)
      · refine e_const k76_34 (q := 35) rfl ?_
        refine e_iret k76_35 ⟨_, rfl⟩ ?_
        exact ⟨_, _, rfl, kk0 (fun ok => Int32.not_le.mpr c15 ok.1.2)⟩
      · refine e_iload k76_18 (q := 19) rfl rfl ?_
        refine e_const k76_19 (q := 21) rfl ?_
        refine e_ic k76_21 (q := 24) rfl (fun c21 => ?_) (fun c21 => ?_)
        · refine e_iload k76_36 (q := 37) rfl rfl ?_
          refine e_const k76_37 (q := 38) rfl ?_
          refine e_ic k76_38 (q := 41) rfl (fun c38 => ?_) (fun c38 => ?_)
          · refine e_iload k76_56 (q := 57) rfl rfl ?_
            refine e_const k76_57 (q := 58) rfl ?_
            refine e_ic k76_58 (q := 61) rfl (fun c58 => ?_) (fun c58 => ?_)
            · exact kk1 ⟨⟨c9, Int32.not_lt.mp c15⟩, (Or.inl c21), (fun z => absurd c58 ((z_k3 c9).mpr z).1), (fun z => absurd ((z_k2 c9).mp c38) z)⟩
            · refine e_iload k76_61 (q := 62) rfl rfl ?_
              refine e_const k76_62 (q := 63) rfl ?_
              refine e_ic k76_63 (q := 66) rfl (fun c63 => ?_) (fun c63 => ?_)
              · exact kk1 ⟨⟨c9, Int32.not_lt.mp c15⟩, (Or.inl c21), (fun z => absurd c63 ((z_k3 c9).mpr z).2), (fun z => absurd ((z_k2 c9).mp c38) z)⟩
              · refine e_iload k76_66 (q := 68) rfl rfl ?_
                refine e_if k76_68 (q := 71) rfl (fun c68 => ?_) (fun c68 => ?_)
                · refine e_const k76_78 (q := 79) rfl ?_
                  refine e_iret k76_79 ⟨_, rfl⟩ ?_
                  exact ⟨_, _, rfl, kk0 (fun ok => (ok.2.2.1 ((z_k3 c9).mp ⟨c58, c63⟩)).1 c68)⟩
                · refine e_iload k76_71 (q := 73) rfl rfl ?_
                  refine e_const k76_73 (q := 75) rfl ?_
                  refine e_ic k76_75 (q := 78) rfl (fun c75 => ?_) (fun c75 => ?_)
                  · exact kk1 ⟨⟨c9, Int32.not_lt.mp c15⟩, (Or.inl c21), (fun _ => ⟨c68, c75⟩), (fun z => absurd ((z_k2 c9).mp c38) z)⟩
                  · refine e_const k76_78 (q := 79) rfl ?_
                    refine e_iret k76_79 ⟨_, rfl⟩ ?_
                    exact ⟨_, _, rfl, kk0 (fun ok => c75 (ok.2.2.1 ((z_k3 c9).mp ⟨c58, c63⟩)).2)⟩
          · refine e_iload k76_41 (q := 43) rfl rfl ?_
            refine e_const k76_43 (q := 44) rfl ?_
            refine e_ic k76_44 (q := 47) rfl (fun c44 => ?_) (fun c44 => ?_)
            · refine e_iload k76_56 (q := 57) rfl rfl ?_
              refine e_const k76_57 (q := 58) rfl ?_
              refine e_ic k76_58 (q := 61) rfl (fun c58 => ?_) (fun c58 => ?_)
              · exact kk1 ⟨⟨c9, Int32.not_lt.mp c15⟩, (Or.inl c21), (fun z => absurd c58 ((z_k3 c9).mpr z).1), (fun _ => ha1 c44)⟩
              · refine e_iload k76_61 (q := 62) rfl rfl ?_
                refine e_const k76_62 (q := 63) rfl ?_
                refine e_ic k76_63 (q := 66) rfl (fun c63 => ?_) (fun c63 => ?_)
                · exact kk1 ⟨⟨c9, Int32.not_lt.mp c15⟩, (Or.inl c21), (fun z => absurd c63 ((z_k3 c9).mpr z).2), (fun _ => ha1 c44)⟩
                · refine e_iload k76_66 (q := 68) rfl rfl ?_
                  refine e_if k76_68 (q := 71) rfl (fun c68 => ?_) (fun c68 => ?_)
                  · refine e_const k76_78 (q := 79) rfl ?_
                    refine e_iret k76_79 ⟨_, rfl⟩ ?_
                    exact ⟨_, _, rfl, kk0 (fun ok => (ok.2.2.1 ((z_k3 c9).mp ⟨c58, c63⟩)).1 c68)⟩
                  · refine e_iload k76_71 (q := 73) rfl rfl ?_
                    refine e_const k76_73 (q := 75) rfl ?_
                    refine e_ic k76_75 (q := 78) rfl (fun c75 => ?_) (fun c75 => ?_)
                    · exact kk1 ⟨⟨c9, Int32.not_lt.mp c15⟩, (Or.inl c21), (fun _ => ⟨c68, c75⟩), (fun _ => ha1 c44)⟩
                    · refine e_const k76_78 (q := 79) rfl ?_
                      refine e_iret k76_79 ⟨_, rfl⟩ ?_
                      exact ⟨_, _, rfl, kk0 (fun ok => c75 (ok.2.2.1 ((z_k3 c9).mp ⟨c58, c63⟩)).2)⟩
            · refine e_aload k76_47 (q := 48) rfl rfl ?_
              refine e_iload k76_48 (q := 50) rfl rfl ?_
              refine g_cv k76_50 (q := 53) (as := [_]) rfl rfl rfl rfl (m_noneG h0 hb) rfl (z_ki fun x50 h50 p50 => ?_)
              obtain ⟨rfl, rfl⟩ := p50
              refine e_if k76_53 (q := 56) rfl (fun c53 => absurd c53 (fun z => z rfl)) (fun c53 => ?_)
              refine e_iload k76_56 (q := 57) rfl rfl ?_
              refine e_const k76_57 (q := 58) rfl ?_
              refine e_ic k76_58 (q := 61) rfl (fun c58 => ?_) (fun c58 => ?_)
              · exact kk1 ⟨⟨c9, Int32.not_lt.mp c15⟩, (Or.inl c21), (fun z => absurd c58 ((z_k3 c9).mpr z).1), (fun _ => ha3 hb)⟩
              · refine e_iload k76_61 (q := 62) rfl rfl ?_
                refine e_const k76_62 (q := 63) rfl ?_
                refine e_ic k76_63 (q := 66) rfl (fun c63 => ?_) (fun c63 => ?_)
                · exact kk1 ⟨⟨c9, Int32.not_lt.mp c15⟩, (Or.inl c21), (fun z => absurd c63 ((z_k3 c9).mpr z).2), (fun _ => ha3 hb)⟩
                · refine e_iload k76_66 (q := 68) rfl rfl ?_
                  refine e_if k76_68 (q := 71) rfl (fun c68 => ?_) (fun c68 => ?_)
                  · refine e_const k76_78 (q := 79) rfl ?_
                    refine e_iret k76_79 ⟨_, rfl⟩ ?_
                    exact ⟨_, _, rfl, kk0 (fun ok => (ok.2.2.1 ((z_k3 c9).mp ⟨c58, c63⟩)).1 c68)⟩
                  · refine e_iload k76_71 (q := 73) rfl rfl ?_
                    refine e_const k76_73 (q := 75) rfl ?_
                    refine e_ic k76_75 (q := 78) rfl (fun c75 => ?_) (fun c75 => ?_)
                    · exact kk1 ⟨⟨c9, Int32.not_lt.mp c15⟩, (Or.inl c21), (fun _ => ⟨c68, c75⟩), (fun _ => ha3 hb)⟩
                    · refine e_const k76_78 (q := 79) rfl ?_
                      refine e_iret k76_79 ⟨_, rfl⟩ ?_
                      exact ⟨_, _, rfl, kk0 (fun ok => c75 (ok.2.2.1 ((z_k3 c9).mp ⟨c58, c63⟩)).2)⟩
        · refine e_iload k76_24 (q := 25) rfl rfl ?_
          refine e_const k76_25 (q := 26) rfl ?_
          refine e_ic k76_26 (q := 29) rfl (fun c26 => ?_) (fun c26 => ?_)
          · refine e_const k76_34 (q := 35) rfl ?_
            refine e_iret k76_35 ⟨_, rfl⟩ ?_
            exact ⟨_, _, rfl, kk0 (fun ok => ok.2.1.elim c21 (fun z => z.1 c26))⟩
          · refine e_iload k76_29 (q := 30) rfl rfl ?_
            refine e_const k76_30 (q := 31) rfl ?_
            refine e_ic k76_31 (q := 34) rfl (fun c31 => ?_) (fun c31 => ?_)
            · refine e_iload k76_36 (q := 37) rfl rfl ?_
              refine e_const k76_37 (q := 38) rfl ?_
              refine e_ic k76_38 (q := 41) rfl (fun c38 => ?_) (fun c38 => ?_)
              · refine e_iload k76_56 (q := 57) rfl rfl ?_
                refine e_const k76_57 (q := 58) rfl ?_
                refine e_ic k76_58 (q := 61) rfl (fun c58 => ?_) (fun c58 => ?_)
                · exact kk1 ⟨⟨c9, Int32.not_lt.mp c15⟩, (Or.inr ⟨c26, c31⟩), (fun z => absurd c58 ((z_k3 c9).mpr z).1), (fun z => absurd ((z_k2 c9).mp c38) z)⟩
                · refine e_iload k76_61 (q := 62) rfl rfl ?_
                  refine e_const k76_62 (q := 63) rfl ?_
                  refine e_ic k76_63 (q := 66) rfl (fun c63 => ?_) (fun c63 => ?_)
                  · exact kk1 ⟨⟨c9, Int32.not_lt.mp c15⟩, (Or.inr ⟨c26, c31⟩), (fun z => absurd c63 ((z_k3 c9).mpr z).2), (fun z => absurd ((z_k2 c9).mp c38) z)⟩
                  · refine e_iload k76_66 (q := 68) rfl rfl ?_
                    refine e_if k76_68 (q := 71) rfl (fun c68 => ?_) (fun c68 => ?_)
                    · refine e_const k76_78 (q := 79) rfl ?_
                      refine e_iret k76_79 ⟨_, rfl⟩ ?_
                      exact ⟨_, _, rfl, kk0 (fun ok => (ok.2.2.1 ((z_k3 c9).mp ⟨c58, c63⟩)).1 c68)⟩
                    · refine e_iload k76_71 (q := 73) rfl rfl ?_
                      refine e_const k76_73 (q := 75) rfl ?_
                      refine e_ic k76_75 (q := 78) rfl (fun c75 => ?_) (fun c75 => ?_)
                      · exact kk1 ⟨⟨c9, Int32.not_lt.mp c15⟩, (Or.inr ⟨c26, c31⟩), (fun _ => ⟨c68, c75⟩), (fun z => absurd ((z_k2 c9).mp c38) z)⟩
                      · refine e_const k76_78 (q := 79) rfl ?_
                        refine e_iret k76_79 ⟨_, rfl⟩ ?_
                        exact ⟨_, _, rfl, kk0 (fun ok => c75 (ok.2.2.1 ((z_k3 c9).mp ⟨c58, c63⟩)).2)⟩
              · refine e_iload k76_41 (q := 43) rfl rfl ?_
                refine e_const k76_43 (q := 44) rfl ?_
                refine e_ic k76_44 (q := 47) rfl (fun c44 => ?_) (fun c44 => ?_)
                · refine e_iload k76_56 (q := 57) rfl rfl ?_
                  refine e_const k76_57 (q := 58) rfl ?_
                  refine e_ic k76_58 (q := 61) rfl (fun c58 => ?_) (fun c58 => ?_)
                  · exact kk1 ⟨⟨c9, Int32.not_lt.mp c15⟩, (Or.inr ⟨c26, c31⟩), (fun z => absurd c58 ((z_k3 c9).mpr z).1), (fun _ => ha1 c44)⟩
                  · refine e_iload k76_61 (q := 62) rfl rfl ?_
                    refine e_const k76_62 (q := 63) rfl ?_
                    refine e_ic k76_63 (q := 66) rfl (fun c63 => ?_) (fun c63 => ?_)
                    · exact kk1 ⟨⟨c9, Int32.not_lt.mp c15⟩, (Or.inr ⟨c26, c31⟩), (fun z => absurd c63 ((z_k3 c9).mpr z).2), (fun _ => ha1 c44)⟩
                    · refine e_iload k76_66 (q := 68) rfl rfl ?_
                      refine e_if k76_68 (q := 71) rfl (fun c68 => ?_) (fun c68 => ?_)
                      · refine e_const k76_78 (q := 79) rfl ?_
                        refine e_iret k76_79 ⟨_, rfl⟩ ?_
                        exact ⟨_, _, rfl, kk0 (fun ok => (ok.2.2.1 ((z_k3 c9).mp ⟨c58, c63⟩)).1 c68)⟩
                      · refine e_iload k76_71 (q := 73) rfl rfl ?_
                        refine e_const k76_73 (q := 75) rfl ?_
                        refine e_ic k76_75 (q := 78) rfl (fun c75 => ?_) (fun c75 => ?_)
                        · exact kk1 ⟨⟨c9, Int32.not_lt.mp c15⟩, (Or.inr ⟨c26, c31⟩), (fun _ => ⟨c68, c75⟩), (fun _ => ha1 c44)⟩
                        · refine e_const k76_78 (q := 79) rfl ?_
                          refine e_iret k76_79 ⟨_, rfl⟩ ?_
                          exact ⟨_, _, rfl, kk0 (fun ok => c75 (ok.2.2.1 ((z_k3 c9).mp ⟨c58, c63⟩)).2)⟩
                · refine e_aload k76_47 (q := 48) rfl rfl ?_
                  refine e_iload k76_48 (q := 50) rfl rfl ?_
                  refine g_cv k76_50 (q := 53) (as := [_]) rfl rfl rfl rfl (m_noneG h0 hb) rfl (z_ki fun x50 h50 p50 => ?_)
                  obtain ⟨rfl, rfl⟩ := p50
                  refine e_if k76_53 (q := 56) rfl (fun c53 => absurd c53 (fun z => z rfl)) (fun c53 => ?_)
                  refine e_iload k76_56 (q := 57) rfl rfl ?_
                  refine e_const k76_57 (q := 58) rfl ?_
                  refine e_ic k76_58 (q := 61) rfl (fun c58 => ?_) (fun c58 => ?_)
                  · exact kk1 ⟨⟨c9, Int32.not_lt.mp c15⟩, (Or.inr ⟨c26, c31⟩), (fun z => absurd c58 ((z_k3 c9).mpr z).1), (fun _ => ha3 hb)⟩
                  · refine e_iload k76_61 (q := 62) rfl rfl ?_
                    refine e_const k76_62 (q := 63) rfl ?_
                    refine e_ic k76_63 (q := 66) rfl (fun c63 => ?_) (fun c63 => ?_)
                    · exact kk1 ⟨⟨c9, Int32.not_lt.mp c15⟩, (Or.inr ⟨c26, c31⟩), (fun z => absurd c63 ((z_k3 c9).mpr z).2), (fun _ => ha3 hb)⟩
                    · refine e_iload k76_66 (q := 68) rfl rfl ?_
                      refine e_if k76_68 (q := 71) rfl (fun c68 => ?_) (fun c68 => ?_)
                      · refine e_const k76_78 (q := 79) rfl ?_
                        refine e_iret k76_79 ⟨_, rfl⟩ ?_
                        exact ⟨_, _, rfl, kk0 (fun ok => (ok.2.2.1 ((z_k3 c9).mp ⟨c58, c63⟩)).1 c68)⟩
                      · refine e_iload k76_71 (q := 73) rfl rfl ?_
                        refine e_const k76_73 (q := 75) rfl ?_
                        refine e_ic k76_75 (q := 78) rfl (fun c75 => ?_) (fun c75 => ?_)
                        · exact kk1 ⟨⟨c9, Int32.not_lt.mp c15⟩, (Or.inr ⟨c26, c31⟩), (fun _ => ⟨c68, c75⟩), (fun _ => ha3 hb)⟩
                        · refine e_const k76_78 (q := 79) rfl ?_
                          refine e_iret k76_79 ⟨_, rfl⟩ ?_
                          exact ⟨_, _, rfl, kk0 (fun ok => c75 (ok.2.2.1 ((z_k3 c9).mp ⟨c58, c63⟩)).2)⟩
            · refine e_const k76_34 (q := 35) rfl ?_
              refine e_iret k76_35 ⟨_, rfl⟩ ?_
              exact ⟨_, _, rfl, kk0 (fun ok => ok.2.1.elim c21 (fun z => c31 z.2))⟩
theorem m_termMG {d : Nat} {h : zH} {ρ : Nat → Nat → Option Nat} {σ : Nat → Nat → Int32} {nD : Nat} {dm : Nat → Nat} {i nm : Nat} (h0 : σ 18 0 = nI nD) (hn : nD ≤ 12) (hi : i < nD) (hm : σ 31 i = nI nm) (hm8 : nm ≤ 8) (hu : (∀ j, j < nm → ¬ σ 33 (8 * i + j) = 6) ∨ ∃ j, j < nm ∧ σ 33 (8 * i + j) = 6 ∧ ∀ j', j' < nm → σ 33 (8 * i + j') = 6 → j' = j) {q k a n : Int32} {tg : Option Nat} (ht : z_tgo nD dm i a tg) : z_M (d + 2) 76 [.ref 18, .int (nI i), .int q, .int k, .int a, .int n] (z_G h σ ρ) (z_qi fun r h' => (¬ z_okt q k n tg → r = -1 ∧ h' = z_G h σ ρ) ∧ (z_okt q k n tg → (¬ (nm < 8 ∧ (k = 6 → ∀ j, j < nm → ¬ σ 33 (8 * i + j) = 6)) → r = -2 ∧ h' = z_G h σ ρ) ∧ ((nm < 8 ∧ (k = 6 → ∀ j, j < nm → ¬ σ 33 (8 * i + j) = 6)) → r = nI (nm + 1) ∧ ∃ σ', h' = z_G h σ' ρ ∧ (∀ r, r < 31 ∨ 35 < r → σ' r = σ r) ∧ σ' 31 = upd (σ 31) i (nI (nm + 1)) ∧ σ' 32 = upd (σ 32) (8 * i + nm) q ∧ σ' 33 = upd (σ 33) (8 * i + nm) k ∧ σ' 34 = upd (σ 34) (8 * i + nm) (if ¬ k < 2 ∧ a = -1 then nI i else a) ∧ σ' 35 = upd (σ 35) (8 * i + nm) n))) := by
  refine z_M.of ⟨Nat.le_of_ble_eq_true rfl, by simp [Value.category]⟩ (L := [some (.ref 18), some (.int (nI i)), some (.int q), some (.int k), some (.int a), some (.int n), none]) rfl ?_
  refine l_termM h0 hn hi ht (fun z => ⟨fun _ => ⟨rfl, rfl⟩, fun y => absurd y z⟩) (fun ok => ?_)
  have hin : vp_in (nI i) 12 := vp_in_nI (by omega) (by decide)
  have hcl : (nI i).toNatClampNeg = i := nI_clamp (by omega)
  have h8 : (8 : Int32) * nI i = nI (8 * i) := z_nmul 8 i
  refine e_aload k76_80 (q := 81) rfl rfl ?_
  refine g_get k76_81 (q := 84) rfl rfl rfl ?_
  refine e_iload k76_84 (q := 85) rfl rfl ?_
  refine g_ald k76_85 (q := 86) rfl rfl (by assumption) ?_
  rw [hcl, hm]
  refine e_const k76_86 (q := 88) rfl ?_
  refine e_ic k76_88 (q := 91) rfl (fun c88 => ?_) (fun c88 => ?_)
  · have hm8e : nm = 8 := (nI_eq (by omega) (by decide)).mp c88
    refine e_const k76_105 (q := 107) rfl ?_
    refine e_iret k76_107 ⟨_, rfl⟩ ?_
    exact ⟨_, _, rfl, fun z => absurd ok z, fun _ => ⟨fun _ => ⟨rfl, rfl⟩, fun z => absurd z (fun z => absurd z.1 (by omega))⟩⟩
  · have hlt : nm < 8 := by
      have : ¬ nm = 8 := fun z => c88 (by rw [z]; rfl)
      omega
    have hin2 : vp_in (nI (8 * i + nm)) 96 := vp_in_nI (by omega) (by decide)
    have hcl2 : (nI (8 * i + nm)).toNatClampNeg = 8 * i + nm := nI_clamp (by omega)
    refine e_iload k76_91 (q := 92) rfl rfl ?_
    refine e_const k76_92 (q := 94) rfl ?_
    refine e_ic k76_94 (q := 97) rfl (fun c94 => ?_) (fun c94 => ?_)
    · refine e_const k76_108 (q := 110) rfl ?_
      refine e_iload k76_110 (q := 111) rfl rfl ?_
      refine e_ib k76_111 (q := 112) rfl ?_
      refine e_aload k76_112 (q := 113) rfl rfl ?_
      refine g_get k76_113 (q := 116) rfl rfl rfl ?_
      refine e_iload k76_116 (q := 117) rfl rfl ?_
      refine g_ald k76_117 (q := 118) rfl rfl (by assumption) ?_
      rw [hcl]
      refine e_ib k76_118 (q := 119) rfl ?_
      rw [h8, hm, nI_add]
      refine e_ist k76_119 (q := 121) (L' := [_, _, _, _, _, _, _]) rfl rfl rfl ?_
      refine e_aload k76_121 (q := 122) rfl rfl ?_
      refine g_get k76_122 (q := 125) rfl rfl rfl ?_
      refine e_iload k76_125 (q := 127) rfl rfl ?_
      refine e_iload k76_127 (q := 128) rfl rfl ?_
      refine g_aast k76_128 (q := 129) rfl (fun _ => rfl) hin2 ?_
      refine e_aload k76_129 (q := 130) rfl rfl ?_
      refine g_get k76_130 (q := 133) rfl rfl rfl ?_
      refine e_iload k76_133 (q := 135) rfl rfl ?_
      refine e_iload k76_135 (q := 136) rfl rfl ?_
      refine g_aast k76_136 (q := 137) rfl (fun _ => rfl) hin2 ?_
      refine e_aload k76_137 (q := 138) rfl rfl ?_
      refine g_get k76_138 (q := 141) rfl rfl rfl ?_
      refine e_iload k76_141 (q := 143) rfl rfl ?_
      refine e_iload k76_143 (q := 144) rfl rfl ?_
      refine e_const k76_144 (q := 145) rfl ?_
      refine e_ic k76_145 (q := 148) rfl (fun c145 => ?_) (fun c145 => ?_)
      · refine e_iload k76_158 (q := 160) rfl rfl ?_
        refine g_aast k76_160 (q := 161) rfl (fun _ => rfl) hin2 ?_
        refine e_aload k76_161 (q := 162) rfl rfl ?_
        refine g_get k76_162 (q := 165) rfl rfl rfl ?_
        refine e_iload k76_165 (q := 167) rfl rfl ?_
        refine e_iload k76_167 (q := 169) rfl rfl ?_
        refine g_aast k76_169 (q := 170) rfl (fun _ => rfl) hin2 ?_
        refine e_aload k76_170 (q := 171) rfl rfl ?_
        refine g_get k76_171 (q := 174) rfl rfl rfl ?_
        refine e_iload k76_174 (q := 175) rfl rfl ?_
        refine e_dup2 k76_175 (q := 176) rfl rfl rfl ?_
        refine g_ald k76_176 (q := 177) rfl rfl (by assumption) ?_
        refine e_const k76_177 (q := 178) rfl ?_
        refine e_ib k76_178 (q := 179) rfl ?_
        refine g_aast k76_179 (q := 180) rfl (fun _ => rfl) (by assumption) ?_
        refine e_aload k76_180 (q := 181) rfl rfl ?_
        refine g_get k76_181 (q := 184) rfl rfl rfl ?_
        refine e_iload k76_184 (q := 185) rfl rfl ?_
        refine g_ald k76_185 (q := 186) rfl rfl (by assumption) ?_
        refine e_iret k76_186 ⟨_, rfl⟩ ?_
        refine ⟨_, _, rfl, fun z => absurd ok z, fun _ => ⟨fun z => absurd ⟨hlt, fun z => absurd z c94⟩ z, fun _ => ⟨?_, _, rfl, fun r hr => ?_, ?_, ?_, ?_, ?_, ?_⟩⟩⟩
        · show upd (σ 31) (nI i).toNatClampNeg (σ 31 (nI i).toNatClampNeg + 1) (nI i).toNatClampNeg = _
          rw [hcl, pk_us, hm, nI_1]
        · rw [z_us_ne _ _ (by omega), z_us_ne _ _ (by omega), z_us_ne _ _ (by omega), z_us_ne _ _ (by omega), z_us_ne _ _ (by omega)]
        · show upd (σ 31) (nI i).toNatClampNeg (σ 31 (nI i).toNatClampNeg + 1) = _
          rw [hcl, hm, nI_1]
        · show upd (σ 32) (nI (8 * i + nm)).toNatClampNeg q = _
          rw [hcl2]
        · show upd (σ 33) (nI (8 * i + nm)).toNatClampNeg k = _
          rw [hcl2]
        · show upd (σ 34) (nI (8 * i + nm)).toNatClampNeg _ = _
          rw [hcl2, if_neg (fun z => z.1 c145)]
          rfl
        · show upd (σ 35) (nI (8 * i + nm)).toNatClampNeg n = _
          rw [hcl2]
      · refine e_iload k76_148 (q := 150) rfl rfl ?_
        refine e_const k76_150 (q := 151) rfl ?_
        refine e_ic k76_151 (q := 154) rfl (fun c151 => ?_) (fun c151 => ?_)
        · refine e_iload k76_158 (q := 160) rfl rfl ?_
          refine g_aast k76_160 (q := 161) rfl (fun _ => rfl) hin2 ?_
          refine e_aload k76_161 (q := 162) rfl rfl ?_
          refine g_get k76_162 (q := 165) rfl rfl rfl ?_
          refine e_iload k76_165 (q := 167) rfl rfl ?_
          refine e_iload k76_167 (q := 169) rfl rfl ?_
          refine g_aast k76_169 (q := 170) rfl (fun _ => rfl) hin2 ?_
          refine e_aload k76_170 (q := 171) rfl rfl ?_
          refine g_get k76_171 (q := 174) rfl rfl rfl ?_
          refine e_iload k76_174 (q := 175) rfl rfl ?_
          refine e_dup2 k76_175 (q := 176) rfl rfl rfl ?_
          refine g_ald k76_176 (q := 177) rfl rfl (by assumption) ?_
          refine e_const k76_177 (q := 178) rfl ?_
          refine e_ib k76_178 (q := 179) rfl ?_
          refine g_aast k76_179 (q := 180) rfl (fun _ => rfl) (by assumption) ?_
          refine e_aload k76_180 (q := 181) rfl rfl ?_
          refine g_get k76_181 (q := 184) rfl rfl rfl ?_
          refine e_iload k76_184 (q := 185) rfl rfl ?_
          refine g_ald k76_185 (q := 186) rfl rfl (by assumption) ?_
          refine e_iret k76_186 ⟨_, rfl⟩ ?_
          refine ⟨_, _, rfl, fun z => absurd ok z, fun _ => ⟨fun z => absurd ⟨hlt, fun z => absurd z c94⟩ z, fun _ => ⟨?_, _, rfl, fun r hr => ?_, ?_, ?_, ?_, ?_, ?_⟩⟩⟩
          · show upd (σ 31) (nI i).toNatClampNeg (σ 31 (nI i).toNatClampNeg + 1) (nI i).toNatClampNeg = _
            rw [hcl, pk_us, hm, nI_1]
          · rw [z_us_ne _ _ (by omega), z_us_ne _ _ (by omega), z_us_ne _ _ (by omega), z_us_ne _ _ (by omega), z_us_ne _ _ (by omega)]
          · show upd (σ 31) (nI i).toNatClampNeg (σ 31 (nI i).toNatClampNeg + 1) = _
            rw [hcl, hm, nI_1]
          · show upd (σ 32) (nI (8 * i + nm)).toNatClampNeg q = _
            rw [hcl2]
          · show upd (σ 33) (nI (8 * i + nm)).toNatClampNeg k = _
            rw [hcl2]
          · show upd (σ 34) (nI (8 * i + nm)).toNatClampNeg _ = _
            rw [hcl2, if_neg (fun z => c151 z.2)]
            rfl
          · show upd (σ 35) (nI (8 * i + nm)).toNatClampNeg n = _
            rw [hcl2]
        · refine e_iload k76_154 (q := 155) rfl rfl ?_
          refine e_goto k76_155 ?_
          refine g_aast k76_160 (q := 161) rfl (fun _ => rfl) hin2 ?_
          refine e_aload k76_161 (q := 162) rfl rfl ?_
          refine g_get k76_162 (q := 165) rfl rfl rfl ?_
          refine e_iload k76_165 (q := 167) rfl rfl ?_
          refine e_iload k76_167 (q := 169) rfl rfl ?_
          refine g_aast k76_169 (q := 170) rfl (fun _ => rfl) hin2 ?_
          refine e_aload k76_170 (q := 171) rfl rfl ?_
          refine g_get k76_171 (q := 174) rfl rfl rfl ?_
          refine e_iload k76_174 (q := 175) rfl rfl ?_
          refine e_dup2 k76_175 (q := 176) rfl rfl rfl ?_
          refine g_ald k76_176 (q := 177) rfl rfl (by assumption) ?_
          refine e_const k76_177 (q := 178) rfl ?_
          refine e_ib k76_178 (q := 179) rfl ?_
          refine g_aast k76_179 (q := 180) rfl (fun _ => rfl) (by assumption) ?_
          refine e_aload k76_180 (q := 181) rfl rfl ?_
          refine g_get k76_181 (q := 184) rfl rfl rfl ?_
          refine e_iload k76_184 (q := 185) rfl rfl ?_
          refine g_ald k76_185 (q := 186) rfl rfl (by assumption) ?_
          refine e_iret k76_186 ⟨_, rfl⟩ ?_
          refine ⟨_, _, rfl, fun z => absurd ok z, fun _ => ⟨fun z => absurd ⟨hlt, fun z => absurd z c94⟩ z, fun _ => ⟨?_, _, rfl, fun r hr => ?_, ?_, ?_, ?_, ?_, ?_⟩⟩⟩
          · show upd (σ 31) (nI i).toNatClampNeg (σ 31 (nI i).toNatClampNeg + 1) (nI i).toNatClampNeg = _
            rw [hcl, pk_us, hm, nI_1]
          · rw [z_us_ne _ _ (by omega), z_us_ne _ _ (by omega), z_us_ne _ _ (by omega), z_us_ne _ _ (by omega), z_us_ne _ _ (by omega)]
          · show upd (σ 31) (nI i).toNatClampNeg (σ 31 (nI i).toNatClampNeg + 1) = _
            rw [hcl, hm, nI_1]
          · show upd (σ 32) (nI (8 * i + nm)).toNatClampNeg q = _
            rw [hcl2]
          · show upd (σ 33) (nI (8 * i + nm)).toNatClampNeg k = _
            rw [hcl2]
          · show upd (σ 34) (nI (8 * i + nm)).toNatClampNeg _ = _
            rw [hcl2, if_pos ⟨c145, Classical.not_not.mp c151⟩]
            rfl
          · show upd (σ 35) (nI (8 * i + nm)).toNatClampNeg n = _
            rw [hcl2]
    · refine e_aload k76_97 (q := 98) rfl rfl ?_
      refine e_iload k76_98 (q := 99) rfl rfl ?_
      refine g_cv k76_99 (q := 102) (as := [_]) rfl rfl rfl rfl (m_leadOf (by omega) hm hm8) rfl (z_ki fun x99 h99 p99 => ?_)
      obtain ⟨rfl, rfl⟩ := p99
      refine e_if k76_102 (q := 105) rfl (fun c102 => ?_) (fun c102 => ?_)
      · have hno : ∀ j, j < nm → ¬ σ 33 (8 * i + j) = 6 := by
          rcases hu with z | ⟨j, hj, e1, e2⟩
          · exact z
          · rw [z_lf_one nm hj e1 e2] at c102
            exact absurd c102 (nI_pos (by omega))
        refine e_const k76_108 (q := 110) rfl ?_
        refine e_iload k76_110 (q := 111) rfl rfl ?_
        refine e_ib k76_111 (q := 112) rfl ?_
        refine e_aload k76_112 (q := 113) rfl rfl ?_
        refine g_get k76_113 (q := 116) rfl rfl rfl ?_
        refine e_iload k76_116 (q := 117) rfl rfl ?_
        refine g_ald k76_117 (q := 118) rfl rfl (by assumption) ?_
        rw [hcl]
        refine e_ib k76_118 (q := 119) rfl ?_
        rw [h8, hm, nI_add]
        refine e_ist k76_119 (q := 121) (L' := [_, _, _, _, _, _, _]) rfl rfl rfl ?_
        refine e_aload k76_121 (q := 122) rfl rfl ?_
        refine g_get k76_122 (q := 125) rfl rfl rfl ?_
        refine e_iload k76_125 (q := 127) rfl rfl ?_
        refine e_iload k76_127 (q := 128) rfl rfl ?_
        refine g_aast k76_128 (q := 129) rfl (fun _ => rfl) hin2 ?_
        refine e_aload k76_129 (q := 130) rfl rfl ?_
        refine g_get k76_130 (q := 133) rfl rfl rfl ?_
        refine e_iload k76_133 (q := 135) rfl rfl ?_
        refine e_iload k76_135 (q := 136) rfl rfl ?_
        refine g_aast k76_136 (q := 137) rfl (fun _ => rfl) hin2 ?_
        refine e_aload k76_137 (q := 138) rfl rfl ?_
        refine g_get k76_138 (q := 141) rfl rfl rfl ?_
        refine e_iload k76_141 (q := 143) rfl rfl ?_
        refine e_iload k76_143 (q := 144) rfl rfl ?_
        refine e_const k76_144 (q := 145) rfl ?_
        refine e_ic k76_145 (q := 148) rfl (fun c145 => ?_) (fun c145 => ?_)
        · refine e_iload k76_158 (q := 160) rfl rfl ?_
          refine g_aast k76_160 (q := 161) rfl (fun _ => rfl) hin2 ?_
          refine e_aload k76_161 (q := 162) rfl rfl ?_
          refine g_get k76_162 (q := 165) rfl rfl rfl ?_
          refine e_iload k76_165 (q := 167) rfl rfl ?_
          refine e_iload k76_167 (q := 169) rfl rfl ?_
          refine g_aast k76_169 (q := 170) rfl (fun _ => rfl) hin2 ?_
          refine e_aload k76_170 (q := 171) rfl rfl ?_
          refine g_get k76_171 (q := 174) rfl rfl rfl ?_
          refine e_iload k76_174 (q := 175) rfl rfl ?_
          refine e_dup2 k76_175 (q := 176) rfl rfl rfl ?_
          refine g_ald k76_176 (q := 177) rfl rfl (by assumption) ?_
          refine e_const k76_177 (q := 178) rfl ?_
          refine e_ib k76_178 (q := 179) rfl ?_
          refine g_aast k76_179 (q := 180) rfl (fun _ => rfl) (by assumption) ?_
          refine e_aload k76_180 (q := 181) rfl rfl ?_
          refine g_get k76_181 (q := 184) rfl rfl rfl ?_
          refine e_iload k76_184 (q := 185) rfl rfl ?_
          refine g_ald k76_185 (q := 186) rfl rfl (by assumption) ?_
          refine e_iret k76_186 ⟨_, rfl⟩ ?_
          refine ⟨_, _, rfl, fun z => absurd ok z, fun _ => ⟨fun z => absurd ⟨hlt, fun _ => hno⟩ z, fun _ => ⟨?_, _, rfl, fun r hr => ?_, ?_, ?_, ?_, ?_, ?_⟩⟩⟩
          · show upd (σ 31) (nI i).toNatClampNeg (σ 31 (nI i).toNatClampNeg + 1) (nI i).toNatClampNeg = _
            rw [hcl, pk_us, hm, nI_1]
          · rw [z_us_ne _ _ (by omega), z_us_ne _ _ (by omega), z_us_ne _ _ (by omega), z_us_ne _ _ (by omega), z_us_ne _ _ (by omega)]
          · show upd (σ 31) (nI i).toNatClampNeg (σ 31 (nI i).toNatClampNeg + 1) = _
            rw [hcl, hm, nI_1]
          · show upd (σ 32) (nI (8 * i + nm)).toNatClampNeg q = _
            rw [hcl2]
          · show upd (σ 33) (nI (8 * i + nm)).toNatClampNeg k = _
            rw [hcl2]
          · show upd (σ 34) (nI (8 * i + nm)).toNatClampNeg _ = _
            rw [hcl2, if_neg (fun z => z.1 c145)]
            rfl
          · show upd (σ 35) (nI (8 * i + nm)).toNatClampNeg n = _
            rw [hcl2]
        · refine e_iload k76_148 (q := 150) rfl rfl ?_
          refine e_const k76_150 (q := 151) rfl ?_
          refine e_ic k76_151 (q := 154) rfl (fun c151 => ?_) (fun c151 => ?_)
          · refine e_iload k76_158 (q := 160) rfl rfl ?_
            refine g_aast k76_160 (q := 161) rfl (fun _ => rfl) hin2 ?_
            refine e_aload k76_161 (q := 162) rfl rfl ?_
            refine g_get k76_162 (q := 165) rfl rfl rfl ?_
            refine e_iload k76_165 (q := 167) rfl rfl ?_
            refine e_iload k76_167 (q := 169) rfl rfl ?_
            refine g_aast k76_169 (q := 170) rfl (fun _ => rfl) hin2 ?_
            refine e_aload k76_170 (q := 171) rfl rfl ?_
            refine g_get k76_171 (q := 174) rfl rfl rfl ?_
            refine e_iload k76_174 (q := 175) rfl rfl ?_
            refine e_dup2 k76_175 (q := 176) rfl rfl rfl ?_
            refine g_ald k76_176 (q := 177) rfl rfl (by assumption) ?_
            refine e_const k76_177 (q := 178) rfl ?_
            refine e_ib k76_178 (q := 179) rfl ?_
            refine g_aast k76_179 (q := 180) rfl (fun _ => rfl) (by assumption) ?_
            refine e_aload k76_180 (q := 181) rfl rfl ?_
            refine g_get k76_181 (q := 184) rfl rfl rfl ?_
            refine e_iload k76_184 (q := 185) rfl rfl ?_
            refine g_ald k76_185 (q := 186) rfl rfl (by assumption) ?_
            refine e_iret k76_186 ⟨_, rfl⟩ ?_
            refine ⟨_, _, rfl, fun z => absurd ok z, fun _ => ⟨fun z => absurd ⟨hlt, fun _ => hno⟩ z, fun _ => ⟨?_, _, rfl, fun r hr => ?_, ?_, ?_, ?_, ?_, ?_⟩⟩⟩
            · show upd (σ 31) (nI i).toNatClampNeg (σ 31 (nI i).toNatClampNeg + 1) (nI i).toNatClampNeg = _
              rw [hcl, pk_us, hm, nI_1]
            · rw [z_us_ne _ _ (by omega), z_us_ne _ _ (by omega), z_us_ne _ _ (by omega), z_us_ne _ _ (by omega), z_us_ne _ _ (by omega)]
            · show upd (σ 31) (nI i).toNatClampNeg (σ 31 (nI i).toNatClampNeg + 1) = _
              rw [hcl, hm, nI_1]
            · show upd (σ 32) (nI (8 * i + nm)).toNatClampNeg q = _
              rw [hcl2]
            · show upd (σ 33) (nI (8 * i + nm)).toNatClampNeg k = _
              rw [hcl2]
            · show upd (σ 34) (nI (8 * i + nm)).toNatClampNeg _ = _
              rw [hcl2, if_neg (fun z => c151 z.2)]
              rfl
            · show upd (σ 35) (nI (8 * i + nm)).toNatClampNeg n = _
              rw [hcl2]
          · refine e_iload k76_154 (q := 155) rfl rfl ?_
            refine e_goto k76_155 ?_
            refine g_aast k76_160 (q := 161) rfl (fun _ => rfl) hin2 ?_
            refine e_aload k76_161 (q := 162) rfl rfl ?_
            refine g_get k76_162 (q := 165) rfl rfl rfl ?_
            refine e_iload k76_165 (q := 167) rfl rfl ?_
            refine e_iload k76_167 (q := 169) rfl rfl ?_
            refine g_aast k76_169 (q := 170) rfl (fun _ => rfl) hin2 ?_
            refine e_aload k76_170 (q := 171) rfl rfl ?_
            refine g_get k76_171 (q := 174) rfl rfl rfl ?_
            refine e_iload k76_174 (q := 175) rfl rfl ?_
            refine e_dup2 k76_175 (q := 176) rfl rfl rfl ?_
            refine g_ald k76_176 (q := 177) rfl rfl (by assumption) ?_
            refine e_const k76_177 (q := 178) rfl ?_
            refine e_ib k76_178 (q := 179) rfl ?_
            refine g_aast k76_179 (q := 180) rfl (fun _ => rfl) (by assumption) ?_
            refine e_aload k76_180 (q := 181) rfl rfl ?_
            refine g_get k76_181 (q := 184) rfl rfl rfl ?_
            refine e_iload k76_184 (q := 185) rfl rfl ?_
            refine g_ald k76_185 (q := 186) rfl rfl (by assumption) ?_
            refine e_iret k76_186 ⟨_, rfl⟩ ?_
            refine ⟨_, _, rfl, fun z => absurd ok z, fun _ => ⟨fun z => absurd ⟨hlt, fun _ => hno⟩ z, fun _ => ⟨?_, _, rfl, fun r hr => ?_, ?_, ?_, ?_, ?_, ?_⟩⟩⟩
            · show upd (σ 31) (nI i).toNatClampNeg (σ 31 (nI i).toNatClampNeg + 1) (nI i).toNatClampNeg = _
              rw [hcl, pk_us, hm, nI_1]
            · rw [z_us_ne _ _ (by omega), z_us_ne _ _ (by omega), z_us_ne _ _ (by omega), z_us_ne _ _ (by omega), z_us_ne _ _ (by omega)]
            · show upd (σ 31) (nI i).toNatClampNeg (σ 31 (nI i).toNatClampNeg + 1) = _
              rw [hcl, hm, nI_1]
            · show upd (σ 32) (nI (8 * i + nm)).toNatClampNeg q = _
              rw [hcl2]
            · show upd (σ 33) (nI (8 * i + nm)).toNatClampNeg k = _
              rw [hcl2]
            · show upd (σ 34) (nI (8 * i + nm)).toNatClampNeg _ = _
              rw [hcl2, if_pos ⟨c145, Classical.not_not.mp c151⟩]
              rfl
            · show upd (σ 35) (nI (8 * i + nm)).toNatClampNeg n = _
              rw [hcl2]
      · refine e_const k76_105 (q := 107) rfl ?_
        refine e_iret k76_107 ⟨_, rfl⟩ ?_
        exact ⟨_, _, rfl, fun z => absurd ok z, fun _ => ⟨fun _ => ⟨rfl, rfl⟩, fun z => absurd z (fun z => c102 (by rw [z_lf_none nm (z.2 (Classical.not_not.mp c94))]; decide))⟩⟩
theorem s_term {d : Nat} {X : zE} {h : zH} {σ : Nat → Nat → Int32} {ρ : Nat → Nat → Option Nat} (hI : z_I X h σ ρ) (p q k a n : Int32) : z_M (d + 3) 4 [.ref 1, .int p, .int q, .int k, .int a, .int n] (z_G h σ ρ) (z_qi fun r h' => z_mid X h' ∧ z_M (d + 3) 76 [.ref 18, .int p, .int q, .int k, .int a, .int n] h' (z_ok X h r)) := by
  obtain ⟨nD, dm, ns, hC, hD, hS, hT, hF⟩ := hI
  have hn := hC.1
  rcases z_nb_or hn p with hb | ⟨i, hi, rfl⟩
  · refine (m_termB hC.2.1 q k a n hb).mono ?_
    rintro r ⟨x, h', rfl, rfl, rfl⟩
    refine ⟨_, _, rfl, z_mid.of hF.2.1, (m_termMB hC.2.2.1 q k a n hb).mono ?_⟩
    rintro r ⟨x, h', rfl, rfl, rfl⟩
    exact z_ok.same ⟨nD, dm, ns, hC, hD, hS, hT, hF⟩
  · obtain ⟨h52, po, sf, na, ne, nm, lo, ko, wo, f, g, tt, c1, c2, c3, c4, c5, c6, c7, c8, c9⟩ := (hD.1 i hi).2
    obtain ⟨tg, ht⟩ := z_tgo_or hn dm i a
    have hm8 := c6.2.1
    have hp : (lo = none ∧ z_ct (σ 33) (8 * i) nm = nm) ∨ (¬ lo = none ∧ z_ct (σ 33) (8 * i) nm + 1 = nm) := by
      rcases c7 with ⟨z1, z2⟩ | ⟨j, l, z1, z2, z3, z4, z5, z6⟩
      · exact Or.inl ⟨z1, z_ct_all nm z2⟩
      · exact Or.inr ⟨(by rw [z3]; intro z; cases z), z_ct_one nm z1 z4 z6⟩
    have hu : (∀ j, j < nm → ¬ σ 33 (8 * i + j) = 6) ∨ ∃ j, j < nm ∧ σ 33 (8 * i + j) = 6 ∧ ∀ j', j' < nm → σ 33 (8 * i + j') = 6 → j' = j := by
      rcases c7 with ⟨z1, z2⟩ | ⟨j, l, z1, z2, z3, z4, z5, z6⟩
      · exact Or.inl z2
      · exact Or.inr ⟨j, z1, z4, z6⟩
    have hroom : (nm < 8 ∧ (k = 6 → lo = none)) ↔ (nm < 8 ∧ (k = 6 → ∀ j, j < nm → ¬ σ 33 (8 * i + j) = 6)) := by
      rcases c7 with ⟨z1, z2⟩ | ⟨j, l, z1, z2, z3, z4, z5, z6⟩
      · exact ⟨fun z => ⟨z.1, fun _ => z2⟩, fun z => ⟨z.1, fun _ => z1⟩⟩
      · exact ⟨fun z => ⟨z.1, fun y => absurd (z.2 y) (by rw [z3]; intro z; cases z)⟩, fun z => ⟨z.1, fun y => absurd z4 (z.2 y j z1)⟩⟩
    refine (m_termG hC hD hi h52 c1 hF hp hm8 ht).mono ?_
    rintro r ⟨x, h', rfl, pa, pb⟩
    by_cases ok : z_okt q k n tg
    · obtain ⟨pb1, pb2⟩ := pb ok
      by_cases room : nm < 8 ∧ (k = 6 → lo = none)
      · obtain ⟨rfl, h1, rfl, w2, w3, w4⟩ := pb2 room
        refine ⟨_, _, rfl, z_mid.of (w2.x0 h52 hF), (m_termMG (σ := σ) hC.2.2.1 hn hi c6.1 hm8 hu ht).mono ?_⟩
        rintro r ⟨x, h', rfl, -, pd⟩
        obtain ⟨rfl, σ', rfl, e0, e31, e32, e33, e34, e35⟩ := (pd ok).2 (hroom.mp room)
        refine ⟨_, _, rfl, rfl, h1, σ', ρ, rfl, ?_, w2.2.1, w2.2.2.1⟩
        have hkp := w2.kp hF.2.2 c1
        have hm1 := room.1
        have lo33 : ∀ j, j < nm → σ' 33 (8 * i + j) = σ 33 (8 * i + j) := fun j hj => by rw [e33]; exact pk_un (by omega)
        have rlow : ∀ r, 32 ≤ r → r ≤ 35 → ∀ x, x ≠ 8 * i + nm → σ' r x = σ r x := fun r a b x hx => by
          rcases (by omega : r = 32 ∨ r = 33 ∨ r = 34 ∨ r = 35) with rfl | rfl | rfl | rfl
          · rw [e32]; exact pk_un hx
          · rw [e33]; exact pk_un hx
          · rw [e34]; exact pk_un hx
          · rw [e35]; exact pk_un hx
        have hct : z_ct (σ' 33) (8 * i) nm = z_ct (σ 33) (8 * i) nm := z_ct_cg nm lo33
        have htr : ∀ j t, j < nm → z_tr h σ dm nD t (8 * i + j) → z_tr h1 σ' dm nD t (8 * i + j) := fun j t hj H => H.fr (Nat.le_refl _) (fun _ _ => rfl) hkp (fun r a b => rlow r a b _ (by omega))
        have cts : ∀ j, j ≤ nm → z_ct (σ' 33) (8 * i) j = z_ct (σ 33) (8 * i) j := fun j hj => z_ct_cg j (fun j' h' => lo33 j' (by omega))
        have tgt : ¬ (k = 0 ∨ k = 1) → ∃ v, v < nD ∧ (if ¬ k < 2 ∧ a = -1 then nI i else a) = nI v ∧ tg = some (dm v) := fun hk => by
          have hk2 : ¬ k < 2 := fun z => hk ((z_k2 ok.1.1).mp z)
          rcases ht with ⟨rfl, rfl⟩ | ⟨-, -, z⟩ | ⟨v, hv, rfl, rfl⟩
          · exact ⟨i, hi, if_pos ⟨hk2, rfl⟩, rfl⟩
          · exact absurd z (ok.2.2.2 hk)
          · exact ⟨v, hv, if_neg (fun z => z_nI_m1 (by omega) z.2), rfl⟩
        have main : z_dm h1 σ' dm nD i := by
          by_cases hk : k = 6
          · obtain rfl : lo = none := room.2 hk
            have hno := (hroom.mp room).2 hk
            obtain ⟨v, hv, v1, v2⟩ := tgt (by rw [hk]; decide)
            have hcn : z_ct (σ' 33) (8 * i) (nm + 1) = z_ct (σ 33) (8 * i) nm := by
              rw [z_ct, hct, if_pos (by rw [e33, pk_us, hk])]; rfl
            refine ⟨h52, po, sf, na, ne, nm + 1, tg, ko, wo, f, g, tt, by rw [hcn]; exact w3 hk, by rw [e0 20 (by omega)]; exact c2, c3.fr (nD := nD) (by omega) (fun _ _ => rfl) (by rw [e0 19 (by omega)]), c4.fr (by rw [e0 21 (by omega)]) (fun k hk => by rw [e0 22 (by omega)]), c5.fr (Nat.le_refl _) (fun _ _ => rfl) (by rw [e0 23 (by omega)]) (fun k hk => by rw [e0 24 (by omega)]), ⟨by rw [e31]; exact pk_us, by omega, fun j hj h6 => ?_⟩, Or.inr ⟨nm, v, by omega, hv, v2, by rw [e33, pk_us, hk], by rw [e34, pk_us, v1], fun j' h' h6 => ?_⟩, c8.fr hkp (by rw [e0 25 (by omega)]) (by rw [e0 26 (by omega)]), c9.fr hkp (fun r a b => by rw [e0 r (by omega)])⟩
            · have hj' : j < nm := by
                have : j ≠ nm := fun z => h6 (by rw [z, e33, pk_us, hk])
                omega
              rw [lo33 j hj'] at h6
              obtain ⟨t, t1, t2⟩ := c6.2.2 j hj' h6
              exact ⟨t, by rw [cts j (by omega)]; exact t1, htr j t hj' t2⟩
            · rcases Nat.lt_or_ge j' nm with y | y
              · rw [lo33 j' y] at h6
                exact absurd h6 (hno j' y)
              · omega
          · obtain ⟨w5, w6⟩ := w4 hk
            have hcn : z_ct (σ' 33) (8 * i) (nm + 1) = z_ct (σ 33) (8 * i) nm + 1 := by
              rw [z_ct, hct, if_neg (by rw [e33, pk_us]; exact hk)]
            refine ⟨h52, po, sf, na, ne, nm + 1, lo, ko, wo, f, g, va_up tt (z_ct (σ 33) (8 * i) nm) (some h.2.1), by rw [hcn]; exact w5, by rw [e0 20 (by omega)]; exact c2, c3.fr (nD := nD) (by omega) (fun _ _ => rfl) (by rw [e0 19 (by omega)]), c4.fr (by rw [e0 21 (by omega)]) (fun k hk => by rw [e0 22 (by omega)]), c5.fr (Nat.le_refl _) (fun _ _ => rfl) (by rw [e0 23 (by omega)]) (fun k hk => by rw [e0 24 (by omega)]), ⟨by rw [e31]; exact pk_us, by omega, fun j hj h6 => ?_⟩, ?_, c8.fr hkp (by rw [e0 25 (by omega)]) (by rw [e0 26 (by omega)]), c9.fr hkp (fun r a b => by rw [e0 r (by omega)])⟩
            · rcases Nat.lt_or_ge j nm with y | y
              · rw [lo33 j y] at h6
                obtain ⟨t, t1, t2⟩ := c6.2.2 j y h6
                refine ⟨t, ?_, htr j t y t2⟩
                rw [cts j (by omega)]
                have := z_ct_lt (σ 33) (8 * i) y h6
                exact (if_neg (by omega)).trans t1
              · obtain rfl : j = nm := by omega
                refine ⟨h.2.1, by rw [cts j (by omega)]; exact if_pos rfl, hF.1, ?_⟩
                obtain ⟨⟨k0, k6⟩, kq, kl, kd⟩ := ok
                obtain ⟨kn, hkn, rfl⟩ := nI_of2 (M := 6) (n := 6) rfl k0 k6
                have hkq := kq.resolve_left hk
                obtain ⟨qn, hqn, rfl⟩ := nI_of2 (M := 4) (n := 4) (x := q) rfl (fun z => hkq.1 (Int32.lt_trans z (by decide))) hkq.2
                have hkn6 : kn ≠ 6 := fun z => hk (by rw [z]; rfl)
                refine ⟨kn, qn, a, tg, by rw [e35, pk_us]; exact w6, by rw [e32, pk_us], ?_, hqn, by rw [e33, pk_us], by omega, fun z => ?_, fun z => ?_, fun z1 z2 => ?_⟩
                · rcases Nat.lt_or_ge qn 1 with z | z
                  · exact absurd (nI_lt (b := 1) z (by decide)) hkq.1
                  · exact z
                · subst z
                  rw [e34, pk_us, if_neg (fun z => z.1 (by decide))]
                · have hkk : ¬ (nI kn = 0 ∨ nI kn = 1) := by
                    rintro (y | y)
                    · have := (nI_eq (b := 0) (by omega) (by decide)).mp y; omega
                    · have := (nI_eq (b := 1) (by omega) (by decide)).mp y; omega
                  obtain ⟨v, hv, v1, v2⟩ := tgt hkk
                  exact ⟨v, hv, by rw [e34, pk_us]; exact v1, v2⟩
                · have hl := kl (by
                    rcases (by omega : kn = 1 ∨ kn = 2 ∨ kn = 3) with rfl | rfl | rfl
                    · exact Or.inl rfl
                    · exact Or.inr (Or.inl rfl)
                    · exact Or.inr (Or.inr rfl))
                  obtain ⟨b, hb, rfl⟩ := nI_of2 (M := 32) (n := 32) rfl hl.1 hl.2
                  exact ⟨b, hb, by rw [e35, pk_us]⟩
            · rcases c7 with ⟨z1, z2⟩ | ⟨j, l, z1, z2, z3, z4, z5, z6⟩
              · refine Or.inl ⟨z1, fun j hj => ?_⟩
                rcases Nat.lt_or_ge j nm with y | y
                · rw [lo33 j y]; exact z2 j y
                · obtain rfl : j = nm := by omega
                  rw [e33, pk_us]; exact hk
              · refine Or.inr ⟨j, l, by omega, z2, z3, by rw [lo33 j z1]; exact z4, by rw [rlow 34 (by decide) (by decide) _ (by omega)]; exact z5, fun j' h' h6 => ?_⟩
                rcases Nat.lt_or_ge j' nm with y | y
                · rw [lo33 j' y] at h6; exact z6 j' y h6
                · obtain rfl : j' = nm := by omega
                  rw [e33, pk_us] at h6
                  exact absurd h6 hk
        refine z_I.up hC hD hS hT hF hi w2 main (fun r hr => e0 r (by omega)) (fun j hj => ⟨fun r a b u v => ?_, fun k hk => ⟨by rw [e0 22 (by omega)], by rw [e0 24 (by omega)]⟩, fun r a b k hk => rlow r a b _ (by omega)⟩)
        by_cases e : r = 31
        · subst e; rw [e31]; exact pk_un hj
        · rw [e0 r (by omega)]
      · obtain ⟨rfl, rfl⟩ := pb1 room
        refine ⟨_, _, rfl, z_mid.of hF.2.1, (m_termMG hC.2.2.1 hn hi c6.1 hm8 hu ht).mono ?_⟩
        rintro r ⟨x, h', rfl, -, pd⟩
        obtain ⟨rfl, rfl⟩ := (pd ok).1 (fun z => room (hroom.mpr z))
        exact z_ok.same ⟨nD, dm, ns, hC, hD, hS, hT, hF⟩
    · obtain ⟨rfl, rfl⟩ := pa ok
      refine ⟨_, _, rfl, z_mid.of hF.2.1, (m_termMG hC.2.2.1 hn hi c6.1 hm8 hu ht).mono ?_⟩
      rintro r ⟨x, h', rfl, pd, -⟩
      obtain ⟨rfl, rfl⟩ := pd ok
      exact z_ok.same ⟨nD, dm, ns, hC, hD, hS, hT, hF⟩
