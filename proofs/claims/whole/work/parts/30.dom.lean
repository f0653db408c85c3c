/-! Domains: found by number, made. -/
theorem z_st_self (h : zH) (a : Nat) (x : zE) : (z_st h a x).1 a = some x := z_up_self _ _ _
theorem z_st_ne (h : zH) {a b : Nat} (x : zE) (hn : b ≠ a) : (z_st h a x).1 b = h.1 b := z_up_ne _ _ hn
theorem z_al_self (h : zH) (x : zE) (n : Nat) {a : Nat} (ha : h.2.1 = a) : (z_al h x n).1 a = some x := by subst ha; exact z_up_self _ _ _
theorem z_al_ne (h : zH) {b : Nat} (x : zE) (n : Nat) (hn : b ≠ h.2.1) : (z_al h x n).1 b = h.1 b := z_up_ne _ _ hn
theorem m_numb1 {d : Nat} {h : zH} {ρ : Nat → Nat → Option Nat} {σ : Nat → Nat → Int32} {nD : Nat} {dm : Nat → Nat} {i : Nat} (hC : z_CC σ nD) (hD : z_DD h σ ρ nD dm) (hi : i < nD) : z_M (d + 1) 20 [.ref 1, .int (nI i)] (z_G h σ ρ) (z_qr fun x h' => x = some (dm i) ∧ h' = z_G h σ ρ) := by
  refine z_M.of ⟨Nat.le_of_ble_eq_true rfl, by simp [Value.category]⟩ (L := [some (.ref 1), some (.int (nI i))]) rfl ?_
  have hn := hC.1
  have hin : vp_in (nI i) 12 := vp_in_nI (by omega) (by decide)
  refine e_iload k20_0 (q := 1) rfl rfl ?_
  refine e_if k20_1 (q := 4) rfl (fun c1 => absurd c1 (nI_pos (by omega))) (fun c1 => ?_)
  refine e_iload k20_4 (q := 5) rfl rfl ?_
  refine e_aload k20_5 (q := 6) rfl rfl ?_
  refine g_get k20_6 (q := 9) rfl rfl rfl ?_
  refine e_ic k20_9 (q := 12) rfl (fun c9 => absurd c9 (by show ¬ σ 1 1 ≤ nI i; rw [hC.2.1]; exact nI_ge hi (by omega))) (fun c9 => ?_)
  refine e_aload k20_12 (q := 13) rfl rfl ?_
  refine g_get k20_13 (q := 16) rfl rfl rfl ?_
  refine e_iload k20_16 (q := 17) rfl rfl ?_
  refine g_rld k20_17 (q := 18) rfl rfl (by assumption) ?_
  refine e_goto k20_18 ?_
  refine e_aret k20_22 ?_
  exact ⟨_, _, rfl, by rw [nI_clamp (by omega)]; exact (hD.1 i hi).1, rfl⟩
theorem m_numb0 {d : Nat} {h : zH} {ρ : Nat → Nat → Option Nat} {σ : Nat → Nat → Int32} {nD : Nat} (h1 : σ 1 1 = nI nD) {x : Int32} (hx : z_nb nD x) : z_M (d + 1) 20 [.ref 1, .int x] (z_G h σ ρ) (z_qr fun x h' => x = none ∧ h' = z_G h σ ρ) := by
  refine z_M.of ⟨Nat.le_of_ble_eq_true rfl, by simp [Value.category]⟩ (L := [some (.ref 1), some (.int x)]) rfl ?_
  refine e_iload k20_0 (q := 1) rfl rfl ?_
  refine e_if k20_1 (q := 4) rfl (fun c1 => ?_) (fun c1 => ?_)
  · refine e_const k20_21 (q := 22) rfl ?_
    exact e_aret (a := none) k20_22 ⟨_, _, rfl, rfl, rfl⟩
  · refine e_iload k20_4 (q := 5) rfl rfl ?_
    refine e_aload k20_5 (q := 6) rfl rfl ?_
    refine g_get k20_6 (q := 9) rfl rfl rfl ?_
    refine e_ic k20_9 (q := 12) rfl (fun c9 => ?_) (fun c9 => ?_)
    · refine e_const k20_21 (q := 22) rfl ?_
      exact e_aret (a := none) k20_22 ⟨_, _, rfl, rfl, rfl⟩
    · exact absurd (show x < σ 1 1 from Int32.not_le.mp c9) (by
        rw [h1]
        rcases hx with z | z
        · exact absurd z c1
        · exact z)
theorem m_domInit {d : Nat} {h : zH} {ρ : Nat → Nat → Option Nat} {σ : Nat → Nat → Int32} {a : Nat} (po : Option Nat) (s : Bool) (h52 : 52 ≤ a) (ha : h.1 a = some (.inr (1, [.null, .int 0, .null, .int 0, .null, .int 0, .null, .int 0, .null, .null, .null]))) (hl : h.2.1 = a + 1) : z_M (d + 1) 27 [.ref a, va_rf po, .int (z_bi s)] (z_G h σ ρ) (z_qv fun h' => ∃ h1, h' = z_G h1 σ ρ ∧ z_dc h1 a po s 0 0 0 none none none (fun _ => 0) (fun _ => none) (fun _ => none) ∧ (∀ b, b < a → h1.1 b = h.1 b) ∧ (∀ b, a + 4 ≤ b → h1.1 b = h.1 b) ∧ h1.2.1 = a + 4 ∧ h1.2.2 = h.2.2 + 14) := by
  refine z_M.of ⟨Nat.le_of_ble_eq_true rfl, by cases po <;> simp [Value.category, va_rf]⟩ (L := [some (.ref a), some (va_rf po), some (.int (z_bi s))]) rfl ?_
  refine e_aload k27_0 (q := 1) rfl rfl ?_
  refine e_obj k27_1 (q := 4) rfl (Nat.le_of_ble_eq_true rfl) ?_
  refine e_aload k27_4 (q := 5) rfl rfl ?_
  refine e_aloadq k27_5 (q := 6) rfl rfl ?_
  refine d_put k27_6 (q := 9) (fs' := [_, _, _, _, _, _, _, _, _, _, _]) rfl h52 ha (z_fitq po) rfl ?_
  refine e_aload k27_9 (q := 10) rfl rfl ?_
  refine e_iload k27_10 (q := 11) rfl rfl ?_
  refine d_put k27_11 (q := 14) (fs' := [_, _, _, _, _, _, _, _, _, _, _]) rfl h52 (z_st_self _ _ _) (z_fitb s) rfl ?_
  refine e_aload k27_14 (q := 15) rfl rfl ?_
  refine e_const k27_15 (q := 16) rfl ?_
  refine d_newa k27_16 (q := 18) (N := 3) (a := a + 1) rfl (by decide) rfl (by decide) (by show 52 ≤ h.2.1 + 0; omega) (by show h.2.1 + 0 = a + 1; omega) ?_
  refine d_put k27_18 (q := 21) (fs' := [_, _, _, _, _, _, _, _, _, _, _]) rfl h52 ((z_al_ne _ _ _ (by show a ≠ h.2.1; omega)).trans (z_st_self _ _ _)) (Or.inr ⟨_, rfl⟩) rfl ?_
  refine e_aload k27_21 (q := 22) rfl rfl ?_
  refine e_const k27_22 (q := 23) rfl ?_
  refine d_anew k27_23 (q := 26) (N := 3) (a := a + 2) rfl (by decide) rfl (by decide) (by show 52 ≤ h.2.1 + 1; omega) (by show h.2.1 + 1 = a + 2; omega) ?_
  refine d_put k27_26 (q := 29) (fs' := [_, _, _, _, _, _, _, _, _, _, _]) rfl h52 ((z_al_ne _ _ _ (by show a ≠ h.2.1 + 1; omega)).trans (z_st_self _ _ _)) (Or.inr ⟨_, rfl⟩) rfl ?_
  refine e_aload k27_29 (q := 30) rfl rfl ?_
  refine e_const k27_30 (q := 32) rfl ?_
  refine d_anew k27_32 (q := 35) (N := 8) (a := a + 3) rfl (by decide) rfl (by decide) (by show 52 ≤ h.2.1 + 2; omega) (by show h.2.1 + 2 = a + 3; omega) ?_
  refine d_put k27_35 (q := 38) (fs' := [_, _, _, _, _, _, _, _, _, _, _]) rfl h52 ((z_al_ne _ _ _ (by show a ≠ h.2.1 + 2; omega)).trans (z_st_self _ _ _)) (Or.inr ⟨_, rfl⟩) rfl ?_
  refine e_vret k27_38 ?_
  refine ⟨_, rfl, _, rfl, ⟨z_st_self _ _ _, ?_, ?_, ?_⟩, fun b hb => ?_, fun b hb => ?_, ?_, ?_⟩
  · simp [z_st, z_al, z_up, hl]
  · simp [z_st, z_al, z_up, hl]
  · simp [z_st, z_al, z_up, hl]
  · have e1 : b ≠ a := by omega
    have e2 : b ≠ h.2.1 := by omega
    have e3 : b ≠ h.2.1 + 1 := by omega
    have e4 : b ≠ h.2.1 + 1 + 1 := by omega
    simp [z_st, z_al, z_up, e1, e2, e3, e4]
  · have e1 : b ≠ a := by omega
    have e2 : b ≠ h.2.1 := by omega
    have e3 : b ≠ h.2.1 + 1 := by omega
    have e4 : b ≠ h.2.1 + 1 + 1 := by omega
    simp [z_st, z_al, z_up, e1, e2, e3, e4]
  · show h.2.1 + 1 + 1 + 1 = a + 4
    omega
  · rfl
theorem m_domain0 {d : Nat} {h : zH} {ρ : Nat → Nat → Option Nat} {σ : Nat → Nat → Int32} {nD : Nat} {dm : Nat → Nat} (hC : z_CC σ nD) (hD : z_DD h σ ρ nD dm) {p : Int32} (s : Bool) (hr : nD = 12 ∨ (z_nb nD p ∧ ¬ p = -1)) : z_M (d + 2) 1 [.ref 1, .int p, .int (z_bi s)] (z_G h σ ρ) (z_qi fun x h' => x = -1 ∧ h' = z_G h σ ρ) := by
  refine z_M.of ⟨Nat.le_of_ble_eq_true rfl, by simp [Value.category]⟩ (L := [some (.ref 1), some (.int p), some (.int (z_bi s)), none]) rfl ?_
  have hn := hC.1
  have main : ∀ q : Option Nat, (nD = 12 ∨ (q = none ∧ ¬ p = -1)) → z_E (d + 1) 1 5 [some (.ref 1), some (.int p), some (.int (z_bi s)), none] [va_rf q] (z_G h σ ρ) (z_qi fun x h' => x = -1 ∧ h' = z_G h σ ρ) := by
    intro q hq
    refine e_astq k1_5 (q := 6) (L' := [_, _, _, _]) rfl rfl rfl ?_
    refine e_aload k1_6 (q := 7) rfl rfl ?_
    refine g_get k1_7 (q := 10) rfl rfl rfl ?_
    refine e_const k1_10 (q := 12) rfl ?_
    refine e_ic k1_12 (q := 15) rfl (fun c12 => ?_) (fun c12 => ?_)
    · refine e_const k1_24 (q := 25) rfl ?_
      refine e_iret k1_25 ⟨_, rfl⟩ ?_
      exact ⟨_, _, rfl, rfl, rfl⟩
    · obtain ⟨rfl, hp⟩ : q = none ∧ ¬ p = -1 := by
        rcases hq with z | z
        · exact absurd (by show σ 1 1 = nI 12; rw [hC.2.1, z]) c12
        · exact z
      refine e_aloadq (a := none) k1_15 (q := 16) rfl rfl ?_
      refine e_nnN k1_16 (q := 19) rfl ?_
      refine e_iload k1_19 (q := 20) rfl rfl ?_
      refine e_const k1_20 (q := 21) rfl ?_
      refine e_ic k1_21 (q := 24) rfl (fun c21 => absurd c21 hp) (fun c21 => ?_)
      refine e_const k1_24 (q := 25) rfl ?_
      refine e_iret k1_25 ⟨_, rfl⟩ ?_
      exact ⟨_, _, rfl, rfl, rfl⟩
  rcases z_nb_or hn p with hb | ⟨i, hi, rfl⟩
  · refine e_aload k1_0 (q := 1) rfl rfl ?_
    refine e_iload k1_1 (q := 2) rfl rfl ?_
    refine g_cv k1_2 (q := 5) (as := [_]) rfl rfl rfl rfl (m_numb0 hC.2.1 hb) rfl (z_kr fun x2 h2 p2 => ?_)
    obtain ⟨rfl, rfl⟩ := p2
    exact main none (by rcases hr with z | z; exact Or.inl z; exact Or.inr ⟨rfl, z.2⟩)
  · refine e_aload k1_0 (q := 1) rfl rfl ?_
    refine e_iload k1_1 (q := 2) rfl rfl ?_
    refine g_cv k1_2 (q := 5) (as := [_]) rfl rfl rfl rfl (m_numb1 hC hD hi) rfl (z_kr fun x2 h2 p2 => ?_)
    obtain ⟨rfl, rfl⟩ := p2
    exact main (some (dm i)) (by rcases hr with z | z; exact Or.inl z; exact absurd z.1 (z_nb_no hn hi))
theorem m_domain1 {d : Nat} {h : zH} {ρ : Nat → Nat → Option Nat} {σ : Nat → Nat → Int32} {nD : Nat} {dm : Nat → Nat} (hC : z_CC σ nD) (hD : z_DD h σ ρ nD dm) {p : Int32} (s : Bool) {po : Option Nat} (hn2 : nD < 12) (hp : (po = none ∧ p = -1) ∨ ∃ i, i < nD ∧ p = nI i ∧ po = some (dm i)) (h52 : 52 ≤ h.2.1) : z_M (d + 2) 1 [.ref 1, .int p, .int (z_bi s)] (z_G h σ ρ) (z_qi fun x h' => x = nI nD ∧ ∃ h1, h' = z_G h1 (z_us σ 1 (upd (σ 1) 1 (nI (nD + 1)))) (z_us ρ 2 (va_up (ρ 2) nD (some h.2.1))) ∧ z_dc h1 h.2.1 po s 0 0 0 none none none (fun _ => 0) (fun _ => none) (fun _ => none) ∧ (∀ b, b < h.2.1 → h1.1 b = h.1 b) ∧ (∀ b, h.2.1 + 4 ≤ b → h1.1 b = h.1 b) ∧ h1.2.1 = h.2.1 + 4 ∧ h1.2.2 = h.2.2 + 25) := by
  refine z_M.of ⟨Nat.le_of_ble_eq_true rfl, by simp [Value.category]⟩ (L := [some (.ref 1), some (.int p), some (.int (z_bi s)), none]) rfl ?_
  have hn := hC.1
  have hcl : (σ 1 1).toNatClampNeg = nD := by rw [hC.2.1]; exact nI_clamp (by omega)
  have hin : vp_in (σ 1 1) 12 := by rw [hC.2.1]; exact vp_in_nI hn2 (by decide)
  have main : z_E (d + 1) 1 26 [some (.ref 1), some (.int p), some (.int (z_bi s)), some (va_rf po)] [] (z_G h σ ρ) (z_qi fun x h' => x = nI nD ∧ ∃ h1, h' = z_G h1 (z_us σ 1 (upd (σ 1) 1 (nI (nD + 1)))) (z_us ρ 2 (va_up (ρ 2) nD (some h.2.1))) ∧ z_dc h1 h.2.1 po s 0 0 0 none none none (fun _ => 0) (fun _ => none) (fun _ => none) ∧ (∀ b, b < h.2.1 → h1.1 b = h.1 b) ∧ (∀ b, h.2.1 + 4 ≤ b → h1.1 b = h.1 b) ∧ h1.2.1 = h.2.1 + 4 ∧ h1.2.2 = h.2.2 + 25) := by
    refine e_aload k1_26 (q := 27) rfl rfl ?_
    refine g_get k1_27 (q := 30) rfl rfl rfl ?_
    refine e_aload k1_30 (q := 31) rfl rfl ?_
    refine g_get k1_31 (q := 34) rfl rfl rfl ?_
    refine d_new k1_34 (q := 37) (a := h.2.1) rfl h52 rfl ?_
    refine e_dup k1_37 (q := 38) rfl rfl ?_
    refine e_aloadq k1_38 (q := 39) rfl rfl ?_
    refine e_iload k1_39 (q := 40) rfl rfl ?_
    refine e_ci k1_40 (q := 43) (as := [_, _]) rfl rfl (Nat.le_of_ble_eq_true rfl) (m_domInit po s h52 (z_al_self _ _ _ rfl) rfl) rfl (z_kv fun h40 p40 => ?_)
    obtain ⟨h1, rfl, q1, q2, q3, q4, q5⟩ := p40
    refine g_rst k1_43 (q := 44) rfl (fun _ => rfl) ((z_G_dyn h52).trans q1.1) hin ?_
    rw [hcl]
    refine e_aload k1_44 (q := 45) rfl rfl ?_
    refine e_dup k1_45 (q := 46) rfl rfl ?_
    refine g_get k1_46 (q := 49) rfl rfl rfl ?_
    refine e_const k1_49 (q := 50) rfl ?_
    refine e_ib k1_50 (q := 51) rfl ?_
    refine g_put k1_51 (q := 54) rfl rfl ⟨_, rfl⟩ rfl ?_
    refine e_aload k1_54 (q := 55) rfl rfl ?_
    refine g_get k1_55 (q := 58) rfl rfl rfl ?_
    refine e_const k1_58 (q := 59) rfl ?_
    refine e_ib k1_59 (q := 60) rfl ?_
    refine e_iret k1_60 ⟨_, rfl⟩ ?_
    refine ⟨_, _, rfl, ?_, h1, ?_, q1, fun b hb => ?_, fun b hb => ?_, q4, ?_⟩
    · show σ 1 1 + 1 - 1 = nI nD
      rw [hC.2.1, nI_1, nI_pred]
    · rw [hC.2.1, nI_1]
    · rw [q2 b hb]
      exact z_al_ne _ _ _ (by omega)
    · rw [q3 b hb]
      exact z_al_ne _ _ _ (by omega)
    · rw [q5]
      rfl
  rcases hp with ⟨rfl, rfl⟩ | ⟨i, hi, rfl, rfl⟩
  · refine e_aload k1_0 (q := 1) rfl rfl ?_
    refine e_iload k1_1 (q := 2) rfl rfl ?_
    refine g_cv k1_2 (q := 5) (as := [_]) rfl rfl rfl rfl (m_numb0 hC.2.1 (z_nb_m1 nD)) rfl (z_kr fun x2 h2 p2 => ?_)
    obtain ⟨rfl, rfl⟩ := p2
    refine e_astq (a := none) k1_5 (q := 6) (L' := [_, _, _, _]) rfl rfl rfl ?_
    refine e_aload k1_6 (q := 7) rfl rfl ?_
    refine g_get k1_7 (q := 10) rfl rfl rfl ?_
    refine e_const k1_10 (q := 12) rfl ?_
    refine e_ic k1_12 (q := 15) rfl (fun c12 => absurd c12 (by show ¬ σ 1 1 = nI 12; rw [hC.2.1]; exact fun z => by have := (nI_eq (by omega) (by decide)).mp z; omega)) (fun c12 => ?_)
    refine e_aloadq (a := none) k1_15 (q := 16) rfl rfl ?_
    refine e_nnN k1_16 (q := 19) rfl ?_
    refine e_iload k1_19 (q := 20) rfl rfl ?_
    refine e_const k1_20 (q := 21) rfl ?_
    refine e_ic k1_21 (q := 24) rfl (fun c21 => ?_) (fun c21 => absurd rfl c21)
    exact main
  · refine e_aload k1_0 (q := 1) rfl rfl ?_
    refine e_iload k1_1 (q := 2) rfl rfl ?_
    refine g_cv k1_2 (q := 5) (as := [_]) rfl rfl rfl rfl (m_numb1 hC hD hi) rfl (z_kr fun x2 h2 p2 => ?_)
    obtain ⟨rfl, rfl⟩ := p2
    refine e_astq (a := some (dm i)) k1_5 (q := 6) (L' := [_, _, _, _]) rfl rfl rfl ?_
    refine e_aload k1_6 (q := 7) rfl rfl ?_
    refine g_get k1_7 (q := 10) rfl rfl rfl ?_
    refine e_const k1_10 (q := 12) rfl ?_
    refine e_ic k1_12 (q := 15) rfl (fun c12 => absurd c12 (by show ¬ σ 1 1 = nI 12; rw [hC.2.1]; exact fun z => by have := (nI_eq (by omega) (by decide)).mp z; omega)) (fun c12 => ?_)
    refine e_aloadq (a := some (dm i)) k1_15 (q := 16) rfl rfl ?_
    refine e_nnR k1_16 ?_
    exact main
theorem z_nb_if {nD : Nat} {σ : Nat → Nat → Int32} (h : σ 18 0 = nI nD) {x : Int32} : (z_nb nD x → (if x < 0 ∨ ¬ x < σ 18 0 then (1 : Int32) else 0) = 1) ∧ (¬ z_nb nD x → (if x < 0 ∨ ¬ x < σ 18 0 then (1 : Int32) else 0) = 0) := by
  rw [h]
  exact ⟨fun z => if_pos z, fun z => if_neg z⟩
theorem m_noneB {d : Nat} {h : zH} {σ : Nat → Nat → Int32} {ρ : Nat → Nat → Option Nat} {nD : Nat} (h0 : σ 18 0 = nI nD) {x : Int32} (hx : z_nb nD x) : z_M (d + 1) 71 [.ref 18, .int x] (z_G h σ ρ) (z_qi fun r h' => r = 1 ∧ h' = z_G h σ ρ) := by
  have := m_none (d := d) (h := h) (σ := σ) (ρ := ρ) x
  rw [(z_nb_if h0).1 hx] at this
  exact this
theorem m_noneG {d : Nat} {h : zH} {σ : Nat → Nat → Int32} {ρ : Nat → Nat → Option Nat} {nD : Nat} (h0 : σ 18 0 = nI nD) {x : Int32} (hx : ¬ z_nb nD x) : z_M (d + 1) 71 [.ref 18, .int x] (z_G h σ ρ) (z_qi fun r h' => r = 0 ∧ h' = z_G h σ ρ) := by
  have := m_none (d := d) (h := h) (σ := σ) (ρ := ρ) x
  rw [(z_nb_if h0).2 hx] at this
  exact this
theorem m_domainM0 {d : Nat} {h : zH} {ρ : Nat → Nat → Option Nat} {σ : Nat → Nat → Int32} {nD : Nat} (h0 : σ 18 0 = nI nD) {p : Int32} (s : Bool) (hn : nD ≤ 12) (hr : nD = 12 ∨ (z_nb nD p ∧ ¬ p = -1)) : z_M (d + 2) 72 [.ref 18, .int p, .int (z_bi s)] (z_G h σ ρ) (z_qi fun x h' => x = -1 ∧ h' = z_G h σ ρ) := by
  refine z_M.of ⟨Nat.le_of_ble_eq_true rfl, by simp [Value.category]⟩ (L := [some (.ref 18), some (.int p), some (.int (z_bi s))]) rfl ?_
  refine e_aload k72_0 (q := 1) rfl rfl ?_
  refine g_get k72_1 (q := 4) rfl rfl rfl ?_
  refine e_const k72_4 (q := 6) rfl ?_
  refine e_ic k72_6 (q := 9) rfl (fun c6 => ?_) (fun c6 => ?_)
  · refine e_const k72_22 (q := 23) rfl ?_
    refine e_iret k72_23 ⟨_, rfl⟩ ?_
    exact ⟨_, _, rfl, rfl, rfl⟩
  · obtain ⟨hb, hp⟩ : z_nb nD p ∧ ¬ p = -1 := by
      rcases hr with z | z
      · exact absurd (by show σ 18 0 = nI 12; rw [h0, z]) c6
      · exact z
    refine e_iload k72_9 (q := 10) rfl rfl ?_
    refine e_const k72_10 (q := 11) rfl ?_
    refine e_ic k72_11 (q := 14) rfl (fun c11 => absurd c11 hp) (fun c11 => ?_)
    refine e_aload k72_14 (q := 15) rfl rfl ?_
    refine e_iload k72_15 (q := 16) rfl rfl ?_
    refine g_cv k72_16 (q := 19) (as := [_]) rfl rfl rfl rfl (m_noneB h0 hb) rfl (z_ki fun x16 h16 p16 => ?_)
    obtain ⟨rfl, rfl⟩ := p16
    refine e_if k72_19 (q := 22) rfl (fun c19 => absurd c19 (by decide)) (fun c19 => ?_)
    refine e_const k72_22 (q := 23) rfl ?_
    refine e_iret k72_23 ⟨_, rfl⟩ ?_
    exact ⟨_, _, rfl, rfl, rfl⟩
theorem m_domainM1 {d : Nat} {h : zH} {ρ : Nat → Nat → Option Nat} {σ : Nat → Nat → Int32} {nD : Nat} (h0 : σ 18 0 = nI nD) {p : Int32} (s : Bool) (hn : nD < 12) (hp : p = -1 ∨ ¬ z_nb nD p) : z_M (d + 2) 72 [.ref 18, .int p, .int (z_bi s)] (z_G h σ ρ) (z_qi fun x h' => x = nI nD ∧ ∃ σ', h' = z_G h σ' ρ ∧ (∀ k, k ≠ 18 → k ≠ 19 → k ≠ 20 → k ≠ 27 → σ' k = σ k) ∧ σ' 18 = upd (σ 18) 0 (nI (nD + 1)) ∧ σ' 19 = upd (σ 19) nD p ∧ σ' 20 = upd (σ 20) nD (z_bi s) ∧ σ' 27 = upd (σ 27) nD (-1)) := by
  refine z_M.of ⟨Nat.le_of_ble_eq_true rfl, by simp [Value.category]⟩ (L := [some (.ref 18), some (.int p), some (.int (z_bi s))]) rfl ?_
  have hcl : (σ 18 0).toNatClampNeg = nD := by rw [h0]; exact nI_clamp (by omega)
  have hin : vp_in (σ 18 0) 12 := by rw [h0]; exact vp_in_nI hn (by decide)
  refine e_aload k72_0 (q := 1) rfl rfl ?_
  refine g_get k72_1 (q := 4) rfl rfl rfl ?_
  refine e_const k72_4 (q := 6) rfl ?_
  refine e_ic k72_6 (q := 9) rfl (fun c6 => absurd c6 (by show ¬ σ 18 0 = nI 12; rw [h0]; exact fun z => by have := (nI_eq (by omega) (by decide)).mp z; omega)) (fun c6 => ?_)
  refine e_iload k72_9 (q := 10) rfl rfl ?_
  refine e_const k72_10 (q := 11) rfl ?_
  refine e_ic k72_11 (q := 14) rfl (fun c11 => ?_) (fun c11 => ?_)
  · refine e_aload k72_24 (q := 25) rfl rfl ?_
    refine g_get k72_25 (q := 28) rfl rfl rfl ?_
    refine e_aload k72_28 (q := 29) rfl rfl ?_
    refine g_get k72_29 (q := 32) rfl rfl rfl ?_
    refine e_iload k72_32 (q := 33) rfl rfl ?_
    refine g_aast k72_33 (q := 34) rfl (fun _ => rfl) hin ?_
    refine e_aload k72_34 (q := 35) rfl rfl ?_
    refine g_get k72_35 (q := 38) rfl rfl rfl ?_
    refine e_aload k72_38 (q := 39) rfl rfl ?_
    refine g_get k72_39 (q := 42) rfl rfl rfl ?_
    refine e_iload k72_42 (q := 43) rfl rfl ?_
    refine g_aast k72_43 (q := 44) rfl (fun _ => rfl) hin ?_
    refine e_aload k72_44 (q := 45) rfl rfl ?_
    refine g_get k72_45 (q := 48) rfl rfl rfl ?_
    refine e_aload k72_48 (q := 49) rfl rfl ?_
    refine g_get k72_49 (q := 52) rfl rfl rfl ?_
    refine e_const k72_52 (q := 53) rfl ?_
    refine g_aast k72_53 (q := 54) rfl (fun _ => rfl) hin ?_
    refine e_aload k72_54 (q := 55) rfl rfl ?_
    refine e_dup k72_55 (q := 56) rfl rfl ?_
    refine g_get k72_56 (q := 59) rfl rfl rfl ?_
    refine e_const k72_59 (q := 60) rfl ?_
    refine e_ib k72_60 (q := 61) rfl ?_
    refine g_put k72_61 (q := 64) rfl rfl ⟨_, rfl⟩ rfl ?_
    refine e_aload k72_64 (q := 65) rfl rfl ?_
    refine g_get k72_65 (q := 68) rfl rfl rfl ?_
    refine e_const k72_68 (q := 69) rfl ?_
    refine e_ib k72_69 (q := 70) rfl ?_
    refine e_iret k72_70 ⟨_, rfl⟩ ?_
    refine ⟨_, _, rfl, ?_, _, rfl, ?_, ?_, ?_, ?_, ?_⟩
    · show σ 18 0 + 1 - 1 = nI nD
      rw [h0, nI_1, nI_pred]
    · intro k k1 k2 k3 k4
      simp [z_us, k1, k2, k3, k4]
    · show upd (σ 18) 0 (σ 18 0 + 1) = _
      rw [h0, nI_1]
    · show upd (σ 19) (σ 18 0).toNatClampNeg p = _
      rw [hcl]
    · show upd (σ 20) (σ 18 0).toNatClampNeg (vp_nar .boolean (z_bi s)) = _
      rw [hcl, z_narb]
    · show upd (σ 27) (σ 18 0).toNatClampNeg (-1) = _
      rw [hcl]
  · refine e_aload k72_14 (q := 15) rfl rfl ?_
    refine e_iload k72_15 (q := 16) rfl rfl ?_
    refine g_cv k72_16 (q := 19) (as := [_]) rfl rfl rfl rfl (m_noneG h0 (hp.resolve_left c11)) rfl (z_ki fun x16 h16 p16 => ?_)
    obtain ⟨rfl, rfl⟩ := p16
    refine e_if k72_19 (q := 22) rfl (fun c19 => ?_) (fun c19 => absurd rfl c19)
    refine e_aload k72_24 (q := 25) rfl rfl ?_
    refine g_get k72_25 (q := 28) rfl rfl rfl ?_
    refine e_aload k72_28 (q := 29) rfl rfl ?_
    refine g_get k72_29 (q := 32) rfl rfl rfl ?_
    refine e_iload k72_32 (q := 33) rfl rfl ?_
    refine g_aast k72_33 (q := 34) rfl (fun _ => rfl) hin ?_
    refine e_aload k72_34 (q := 35) rfl rfl ?_
    refine g_get k72_35 (q := 38) rfl rfl rfl ?_
    refine e_aload k72_38 (q := 39) rfl rfl ?_
    refine g_get k72_39 (q := 42) rfl rfl rfl ?_
    refine e_iload k72_42 (q := 43) rfl rfl ?_
    refine g_aast k72_43 (q := 44) rfl (fun _ => rfl) hin ?_
    refine e_aload k72_44 (q := 45) rfl rfl ?_
    refine g_get k72_45 (q := 48) rfl rfl rfl ?_
    refine e_aload k72_48 (q := 49) rfl rfl ?_
    refine g_get k72_49 (q := 52) rfl rfl rfl ?_
    refine e_const k72_52 (q := 53) rfl ?_
    refine g_aast k72_53 (q := 54) rfl (fun _ => rfl) hin ?_
    refine e_aload k72_54 (q := 55) rfl rfl ?_
    refine e_dup k72_55 (q := 56) rfl rfl ?_
    refine g_get k72_56 (q := 59) rfl rfl rfl ?_
    refine e_const k72_59 (q := 60) rfl ?_
    refine e_ib k72_60 (q := 61) rfl ?_
    refine g_put k72_61 (q := 64) rfl rfl ⟨_, rfl⟩ rfl ?_
    refine e_aload k72_64 (q := 65) rfl rfl ?_
    refine g_get k72_65 (q := 68) rfl rfl rfl ?_
    refine e_const k72_68 (q := 69) rfl ?_
    refine e_ib k72_69 (q := 70) rfl ?_
    refine e_iret k72_70 ⟨_, rfl⟩ ?_
    refine ⟨_, _, rfl, ?_, _, rfl, ?_, ?_, ?_, ?_, ?_⟩
    · show σ 18 0 + 1 - 1 = nI nD
      rw [h0, nI_1, nI_pred]
    · intro k k1 k2 k3 k4
      simp [z_us, k1, k2, k3, k4]
    · show upd (σ 18) 0 (σ 18 0 + 1) = _
      rw [h0, nI_1]
    · show upd (σ 19) (σ 18 0).toNatClampNeg p = _
      rw [hcl]
    · show upd (σ 20) (σ 18 0).toNatClampNeg (vp_nar .boolean (z_bi s)) = _
      rw [hcl, z_narb]
    · show upd (σ 27) (σ 18 0).toNatClampNeg (-1) = _
      rw [hcl]
