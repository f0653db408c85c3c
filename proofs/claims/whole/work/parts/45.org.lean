/-! Signing; organisations. -/
theorem m_sigInit {d : Nat} {h : zH} {ρ : Nat → Nat → Option Nat} {σ : Nat → Nat → Int32} {a s : Nat} (h52 : 52 ≤ a) (ha : h.1 a = some (.inr (6, [.null, .int 0, .int 0, .int 0]))) (rf rb : Bool) (x : Int32) : z_M (d + 1) 65 [.ref a, .ref s, .int (z_bi rf), .int (z_bi rb), .int x] (z_G h σ ρ) (z_qv fun h' => ∃ h1, h' = z_G h1 σ ρ ∧ h1.1 a = some (.inr (6, [.ref s, .int (z_bi rf), .int (z_bi rb), .int x])) ∧ (∀ b, b ≠ a → h1.1 b = h.1 b) ∧ h1.2 = h.2) := by
  refine z_M.of ⟨Nat.le_of_ble_eq_true rfl, by simp [Value.category]⟩ (L := [some (.ref a), some (.ref s), some (.int (z_bi rf)), some (.int (z_bi rb)), some (.int x)]) rfl ?_
  refine e_aload k65_0 (q := 1) rfl rfl ?_
  refine e_obj k65_1 (q := 4) rfl (Nat.le_of_ble_eq_true rfl) ?_
  refine e_aload k65_4 (q := 5) rfl rfl ?_
  refine e_aload k65_5 (q := 6) rfl rfl ?_
  refine d_put k65_6 (q := 9) (fs' := [_, _, _, _]) rfl h52 ha (Or.inr ⟨_, rfl⟩) rfl ?_
  refine e_aload k65_9 (q := 10) rfl rfl ?_
  refine e_iload k65_10 (q := 11) rfl rfl ?_
  refine d_put k65_11 (q := 14) (fs' := [_, _, _, _]) rfl h52 (z_st_self _ _ _) (z_fitb rf) rfl ?_
  refine e_aload k65_14 (q := 15) rfl rfl ?_
  refine e_iload k65_15 (q := 16) rfl rfl ?_
  refine d_put k65_16 (q := 19) (fs' := [_, _, _, _]) rfl h52 (z_st_self _ _ _) (z_fitb rb) rfl ?_
  refine e_aload k65_19 (q := 20) rfl rfl ?_
  refine e_iload k65_20 (q := 22) rfl rfl ?_
  refine d_put k65_22 (q := 25) (fs' := [_, _, _, _]) rfl h52 (z_st_self _ _ _) ⟨_, rfl⟩ rfl ?_
  refine e_vret k65_25 ?_
  refine ⟨_, rfl, _, rfl, z_st_self _ _ _, fun b hb => ?_, rfl⟩
  rw [z_st_ne _ _ hb, z_st_ne _ _ hb, z_st_ne _ _ hb, z_st_ne _ _ hb]
theorem m_sign0 {d : Nat} {h : zH} {ρ : Nat → Nat → Option Nat} {σ : Nat → Nat → Int32} {nD : Nat} (h1 : σ 1 1 = nI nD) {p : Int32} (rf rb : Bool) (x : Int32) (hx : z_nb nD p) : z_M (d + 2) 17 [.ref 1, .int p, .int (z_bi rf), .int (z_bi rb), .int x] (z_G h σ ρ) (z_qi fun r h' => r = -1 ∧ h' = z_G h σ ρ) := by
  refine z_M.of ⟨Nat.le_of_ble_eq_true rfl, by simp [Value.category]⟩ (L := [some (.ref 1), some (.int p), some (.int (z_bi rf)), some (.int (z_bi rb)), some (.int x), none]) rfl ?_
  refine e_aload k17_0 (q := 1) rfl rfl ?_
  refine e_iload k17_1 (q := 2) rfl rfl ?_
  refine g_cv k17_2 (q := 5) (as := [_]) rfl rfl rfl rfl (m_numb0 h1 hx) rfl (z_kr fun x2 h2 p2 => ?_)
  obtain ⟨rfl, rfl⟩ := p2
  refine e_astq (a := none) k17_5 (q := 7) (L' := [_, _, _, _, _, _]) rfl rfl rfl ?_
  refine e_aloadq (a := none) k17_7 (q := 9) rfl rfl ?_
  refine e_nnN k17_9 (q := 12) rfl ?_
  refine e_const k17_12 (q := 13) rfl ?_
  refine e_iret k17_13 ⟨_, rfl⟩ ?_
  exact ⟨_, _, rfl, rfl, rfl⟩
theorem m_sign1 {d : Nat} {h : zH} {ρ : Nat → Nat → Option Nat} {σ : Nat → Nat → Int32} {nD : Nat} {dm : Nat → Nat} {i ns : Nat} (hC : z_CC σ nD) (hD : z_DD h σ ρ nD dm) (hi : i < nD) (h7 : σ 1 7 = nI ns) (hns : ns ≤ 3) (h52 : 52 ≤ h.2.1) (rf rb : Bool) (x : Int32) : z_M (d + 2) 17 [.ref 1, .int (nI i), .int (z_bi rf), .int (z_bi rb), .int x] (z_G h σ ρ) (z_qi fun r h' => (ns = 3 → r = -2 ∧ h' = z_G h σ ρ) ∧ (ns < 3 → r = nI (ns + 1) ∧ ∃ h1, h' = z_G h1 (z_us σ 1 (upd (σ 1) 7 (nI (ns + 1)))) (z_us ρ 17 (va_up (ρ 17) ns (some h.2.1))) ∧ h1.1 h.2.1 = some (.inr (6, [.ref (dm i), .int (z_bi rf), .int (z_bi rb), .int x])) ∧ (∀ b, b ≠ h.2.1 → h1.1 b = h.1 b) ∧ h1.2.1 = h.2.1 + 1 ∧ h1.2.2 = h.2.2 + 4)) := by
  refine z_M.of ⟨Nat.le_of_ble_eq_true rfl, by simp [Value.category]⟩ (L := [some (.ref 1), some (.int (nI i)), some (.int (z_bi rf)), some (.int (z_bi rb)), some (.int x), none]) rfl ?_
  refine e_aload k17_0 (q := 1) rfl rfl ?_
  refine e_iload k17_1 (q := 2) rfl rfl ?_
  refine g_cv k17_2 (q := 5) (as := [_]) rfl rfl rfl rfl (m_numb1 hC hD hi) rfl (z_kr fun x2 h2 p2 => ?_)
  obtain ⟨rfl, rfl⟩ := p2
  refine e_ast (a := dm i) k17_5 (q := 7) (L' := [_, _, _, _, _, _]) rfl rfl rfl ?_
  refine e_aload k17_7 (q := 9) rfl rfl ?_
  refine e_nnR k17_9 ?_
  refine e_aload k17_14 (q := 15) rfl rfl ?_
  refine g_get k17_15 (q := 18) rfl rfl rfl ?_
  refine e_const k17_18 (q := 19) rfl ?_
  refine e_ic k17_19 (q := 22) rfl (fun c19 => ?_) (fun c19 => ?_)
  · have hlt : ns < 3 := by
      have : ¬ ns = 3 := fun z => c19 (by rw [h7, z]; rfl)
      omega
    have hcl : (σ 1 7).toNatClampNeg = ns := by rw [h7]; exact nI_clamp (by omega)
    have hin : vp_in (σ 1 7) 3 := by rw [h7]; exact vp_in_nI hlt (by decide)
    refine e_aload k17_25 (q := 26) rfl rfl ?_
    refine g_get k17_26 (q := 29) rfl rfl rfl ?_
    refine e_aload k17_29 (q := 30) rfl rfl ?_
    refine g_get k17_30 (q := 33) rfl rfl rfl ?_
    refine d_new k17_33 (q := 36) (a := h.2.1) rfl h52 rfl ?_
    refine e_dup k17_36 (q := 37) rfl rfl ?_
    refine e_aload k17_37 (q := 39) rfl rfl ?_
    refine e_iload k17_39 (q := 40) rfl rfl ?_
    refine e_iload k17_40 (q := 41) rfl rfl ?_
    refine e_iload k17_41 (q := 43) rfl rfl ?_
    refine e_ci k17_43 (q := 46) (as := [_, _, _, _]) rfl rfl (Nat.le_of_ble_eq_true rfl) (m_sigInit h52 (z_al_self _ _ _ rfl) rf rb x) rfl (z_kv fun h43 p43 => ?_)
    obtain ⟨h1, rfl, q1, q2, q3⟩ := p43
    refine g_rst k17_46 (q := 47) rfl (fun _ => rfl) ((z_G_dyn h52).trans q1) hin ?_
    rw [hcl]
    refine e_aload k17_47 (q := 48) rfl rfl ?_
    refine e_dup k17_48 (q := 49) rfl rfl ?_
    refine g_get k17_49 (q := 52) rfl rfl rfl ?_
    refine e_const k17_52 (q := 53) rfl ?_
    refine e_ib k17_53 (q := 54) rfl ?_
    refine g_put k17_54 (q := 57) rfl rfl ⟨_, rfl⟩ rfl ?_
    refine e_aload k17_57 (q := 58) rfl rfl ?_
    refine g_get k17_58 (q := 61) rfl rfl rfl ?_
    refine e_iret k17_61 ⟨_, rfl⟩ ?_
    refine ⟨_, _, rfl, fun z => by omega, fun _ => ⟨?_, h1, ?_, q1, fun b hb => ?_, ?_, ?_⟩⟩
    · show σ 1 7 + 1 = nI (ns + 1)
      rw [h7, nI_1]
    · rw [h7, nI_1]
    · rw [q2 b hb]; exact z_al_ne _ _ _ hb
    · rw [q3]; rfl
    · rw [q3]; rfl
  · have heq : ns = 3 := (nI_eq (by omega) (by decide)).mp (by rw [← h7]; exact Classical.not_not.mp c19)
    refine e_const k17_22 (q := 24) rfl ?_
    refine e_iret k17_24 ⟨_, rfl⟩ ?_
    exact ⟨_, _, rfl, fun _ => ⟨rfl, rfl⟩, fun z => by omega⟩
theorem m_signM0 {d : Nat} {h : zH} {ρ : Nat → Nat → Option Nat} {σ : Nat → Nat → Int32} {nD : Nat} (h0 : σ 18 0 = nI nD) {p : Int32} (rf rb : Bool) (x : Int32) (hx : z_nb nD p) : z_M (d + 2) 110 [.ref 18, .int p, .int (z_bi rf), .int (z_bi rb), .int x] (z_G h σ ρ) (z_qi fun r h' => r = -1 ∧ h' = z_G h σ ρ) := by
  refine z_M.of ⟨Nat.le_of_ble_eq_true rfl, by simp [Value.category]⟩ (L := [some (.ref 18), some (.int p), some (.int (z_bi rf)), some (.int (z_bi rb)), some (.int x)]) rfl ?_
  refine e_aload k110_0 (q := 1) rfl rfl ?_
  refine e_iload k110_1 (q := 2) rfl rfl ?_
  refine g_cv k110_2 (q := 5) (as := [_]) rfl rfl rfl rfl (m_noneB h0 hx) rfl (z_ki fun x2 h2 p2 => ?_)
  obtain ⟨rfl, rfl⟩ := p2
  refine e_if k110_5 (q := 8) rfl (fun c5 => absurd c5 (by decide)) (fun c5 => ?_)
  refine e_const k110_8 (q := 9) rfl ?_
  refine e_iret k110_9 ⟨_, rfl⟩ ?_
  exact ⟨_, _, rfl, rfl, rfl⟩
theorem m_signM1 {d : Nat} {h : zH} {ρ : Nat → Nat → Option Nat} {σ : Nat → Nat → Int32} {nD i ns : Nat} (h0 : σ 18 0 = nI nD) (hn : nD ≤ 12) (hi : i < nD) (h28 : σ 18 28 = nI ns) (hns : ns ≤ 3) (rf rb : Bool) (x : Int32) : z_M (d + 2) 110 [.ref 18, .int (nI i), .int (z_bi rf), .int (z_bi rb), .int x] (z_G h σ ρ) (z_qi fun r h' => (ns = 3 → r = -2 ∧ h' = z_G h σ ρ) ∧ (ns < 3 → r = nI (ns + 1) ∧ ∃ σ', h' = z_G h σ' ρ ∧ (∀ k, k ≠ 18 → (k < 41 ∨ 44 < k) → σ' k = σ k) ∧ σ' 18 = upd (σ 18) 28 (nI (ns + 1)) ∧ σ' 41 = upd (σ 41) ns (nI i) ∧ σ' 42 = upd (σ 42) ns (z_bi rf) ∧ σ' 43 = upd (σ 43) ns (z_bi rb) ∧ σ' 44 = upd (σ 44) ns x)) := by
  refine z_M.of ⟨Nat.le_of_ble_eq_true rfl, by simp [Value.category]⟩ (L := [some (.ref 18), some (.int (nI i)), some (.int (z_bi rf)), some (.int (z_bi rb)), some (.int x)]) rfl ?_
  refine e_aload k110_0 (q := 1) rfl rfl ?_
  refine e_iload k110_1 (q := 2) rfl rfl ?_
  refine g_cv k110_2 (q := 5) (as := [_]) rfl rfl rfl rfl (m_noneG h0 (z_nb_no hn hi)) rfl (z_ki fun x2 h2 p2 => ?_)
  obtain ⟨rfl, rfl⟩ := p2
  refine e_if k110_5 (q := 8) rfl (fun c5 => ?_) (fun c5 => absurd rfl c5)
  refine e_aload k110_10 (q := 11) rfl rfl ?_
  refine g_get k110_11 (q := 14) rfl rfl rfl ?_
  refine e_const k110_14 (q := 15) rfl ?_
  refine e_ic k110_15 (q := 18) rfl (fun c15 => ?_) (fun c15 => ?_)
  · have hlt : ns < 3 := by
      have : ¬ ns = 3 := fun z => c15 (by rw [h28, z]; rfl)
      omega
    have hcl : (σ 18 28).toNatClampNeg = ns := by rw [h28]; exact nI_clamp (by omega)
    have hin : vp_in (σ 18 28) 3 := by rw [h28]; exact vp_in_nI hlt (by decide)
    refine e_aload k110_21 (q := 22) rfl rfl ?_
    refine g_get k110_22 (q := 25) rfl rfl rfl ?_
    refine e_aload k110_25 (q := 26) rfl rfl ?_
    refine g_get k110_26 (q := 29) rfl rfl rfl ?_
    refine e_iload k110_29 (q := 30) rfl rfl ?_
    refine g_aast k110_30 (q := 31) rfl (fun _ => rfl) hin ?_
    refine e_aload k110_31 (q := 32) rfl rfl ?_
    refine g_get k110_32 (q := 35) rfl rfl rfl ?_
    refine e_aload k110_35 (q := 36) rfl rfl ?_
    refine g_get k110_36 (q := 39) rfl rfl rfl ?_
    refine e_iload k110_39 (q := 40) rfl rfl ?_
    refine g_aast k110_40 (q := 41) rfl (fun _ => rfl) hin ?_
    refine e_aload k110_41 (q := 42) rfl rfl ?_
    refine g_get k110_42 (q := 45) rfl rfl rfl ?_
    refine e_aload k110_45 (q := 46) rfl rfl ?_
    refine g_get k110_46 (q := 49) rfl rfl rfl ?_
    refine e_iload k110_49 (q := 50) rfl rfl ?_
    refine g_aast k110_50 (q := 51) rfl (fun _ => rfl) hin ?_
    refine e_aload k110_51 (q := 52) rfl rfl ?_
    refine g_get k110_52 (q := 55) rfl rfl rfl ?_
    refine e_aload k110_55 (q := 56) rfl rfl ?_
    refine g_get k110_56 (q := 59) rfl rfl rfl ?_
    refine e_iload k110_59 (q := 61) rfl rfl ?_
    refine g_aast k110_61 (q := 62) rfl (fun _ => rfl) hin ?_
    refine e_aload k110_62 (q := 63) rfl rfl ?_
    refine e_dup k110_63 (q := 64) rfl rfl ?_
    refine g_get k110_64 (q := 67) rfl rfl rfl ?_
    refine e_const k110_67 (q := 68) rfl ?_
    refine e_ib k110_68 (q := 69) rfl ?_
    refine g_put k110_69 (q := 72) rfl rfl ⟨_, rfl⟩ rfl ?_
    refine e_aload k110_72 (q := 73) rfl rfl ?_
    refine g_get k110_73 (q := 76) rfl rfl rfl ?_
    refine e_iret k110_76 ⟨_, rfl⟩ ?_
    refine ⟨_, _, rfl, fun z => by omega, fun _ => ⟨?_, _, rfl, fun k k1 k2 => ?_, ?_, ?_, ?_, ?_, ?_⟩⟩
    · show σ 18 28 + 1 = nI (ns + 1)
      rw [h28, nI_1]
    · rw [z_us_ne _ _ k1, z_us_ne _ _ (by omega), z_us_ne _ _ (by omega), z_us_ne _ _ (by omega), z_us_ne _ _ (by omega)]
    · show upd (σ 18) 28 (σ 18 28 + 1) = _
      rw [h28, nI_1]
    · show upd (σ 41) (σ 18 28).toNatClampNeg (nI i) = _
      rw [hcl]
    · show upd (σ 42) (σ 18 28).toNatClampNeg (vp_nar .boolean (z_bi rf)) = _
      rw [hcl, z_narb]
    · show upd (σ 43) (σ 18 28).toNatClampNeg (vp_nar .boolean (z_bi rb)) = _
      rw [hcl, z_narb]
    · show upd (σ 44) (σ 18 28).toNatClampNeg x = _
      rw [hcl]
  · have heq : ns = 3 := (nI_eq (by omega) (by decide)).mp (by rw [← h28]; exact Classical.not_not.mp c15)
    refine e_const k110_18 (q := 20) rfl ?_
    refine e_iret k110_20 ⟨_, rfl⟩ ?_
    exact ⟨_, _, rfl, fun _ => ⟨rfl, rfl⟩, fun z => by omega⟩
theorem s_sign {d : Nat} {X : zE} {h : zH} {σ : Nat → Nat → Int32} {ρ : Nat → Nat → Option Nat} (hI : z_I X h σ ρ) (p : Int32) (rf rb : Bool) (x : Int32) : z_M (d + 2) 17 [.ref 1, .int p, .int (z_bi rf), .int (z_bi rb), .int x] (z_G h σ ρ) (z_qi fun r h' => z_mid X h' ∧ z_M (d + 2) 110 [.ref 18, .int p, .int (z_bi rf), .int (z_bi rb), .int x] h' (z_ok X h r)) := by
  obtain ⟨nD, dm, ns, hC, hD, hS, hT, hF⟩ := hI
  have hn := hC.1
  rcases z_nb_or hn p with hb | ⟨i, hi, rfl⟩
  · refine (m_sign0 hC.2.1 rf rb x hb).mono ?_
    rintro r ⟨x, h', rfl, rfl, rfl⟩
    refine ⟨_, _, rfl, z_mid.of hF.2.1, (m_signM0 hC.2.2.1 rf rb _ hb).mono ?_⟩
    rintro r ⟨x, h', rfl, rfl, rfl⟩
    exact z_ok.same ⟨nD, dm, ns, hC, hD, hS, hT, hF⟩
  · obtain ⟨hns, s1, s2, s3⟩ := hS
    refine (m_sign1 hC hD hi s1 hns hF.1 rf rb x).mono ?_
    rintro r ⟨y, h', rfl, pa, pb⟩
    rcases Nat.lt_or_ge ns 3 with z | z
    · obtain ⟨rfl, h1, rfl, q1, q2, q3, q4⟩ := pb z
      have e18 : z_us σ 1 (upd (σ 1) 7 (nI (ns + 1))) 18 = σ 18 := z_us_ne _ _ (by decide)
      refine ⟨_, _, rfl, z_mid.of (by rw [q2 0 (by have := hF.1; omega)]; exact hF.2.1), (m_signM1 (nD := nD) (by rw [e18]; exact hC.2.2.1) hn hi (by rw [e18]; exact s2) hns rf rb x).mono ?_⟩
      rintro r ⟨y, h', rfl, -, pc⟩
      obtain ⟨rfl, σ2, rfl, f0, f18, f41, f42, f43, f44⟩ := pc z
      rw [z_us_ne _ _ (by decide)] at f18 f41 f42 f43 f44
      have f1 : σ2 1 = upd (σ 1) 7 (nI (ns + 1)) := by rw [f0 1 (by decide) (by omega), z_us_eq]
      have g0 : ∀ k, k ≠ 1 → k ≠ 18 → (k < 41 ∨ 44 < k) → σ2 k = σ k := fun k a b c => by rw [f0 k b c, z_us_ne _ _ a]
      have hkp : z_kp h1 h := fun b ci fs _ hb => by rw [q2 b (by have := z_lt hF.2.2 hb; omega)]; exact hb
      have hcell : ∀ i, i < nD → ∀ c, c < 4 → h1.1 (dm i + c) = h.1 (dm i + c) := fun i hi c hc => by
        obtain ⟨-, po', sf', na', ne', nm', lo', ko', wo', f', g', tt', e1, -⟩ := (hD.1 i hi).2
        refine q2 _ ?_
        have := z_lt hF.2.2 e1.2.2.2
        omega
      refine ⟨_, _, rfl, rfl, h1, σ2, _, rfl, ⟨nD, dm, ns + 1, ⟨hC.1, by rw [f1]; exact hC.2.1, by rw [f18]; exact hC.2.2.1, by rw [g0 3 (by decide) (by decide) (by omega), f18]; exact hC.2.2.2.1, by rw [g0 3 (by decide) (by decide) (by omega), f18]; exact hC.2.2.2.2⟩, hD.fr hkp hcell (z_us_ne _ _ (by decide)) (fun k a b => g0 k (by omega) (by omega) (by omega)), ⟨by omega, by rw [f1]; exact pk_us, by rw [f18]; exact pk_us, fun j hj => ?_⟩, hT.fr (fun k hk => g0 k (by omega) (by omega) (by omega)) (by rw [f18]; rfl) (by rw [f18]; rfl), ⟨by rw [q3]; have := hF.1; omega, by rw [q2 0 (by have := hF.1; omega)]; exact hF.2.1, fun a ha => by rw [q3] at ha; rw [q2 a (by omega)]; exact hF.2.2 a (by omega)⟩⟩, by omega, by omega⟩
      rw [z_us_eq]
      by_cases e : j = ns
      · subst e
        exact ⟨h.2.1, i, rf, rb, if_pos rfl, hF.1, by rw [f44, pk_us]; exact q1, hi, by rw [f41]; exact pk_us, by rw [f42]; exact pk_us, by rw [f43]; exact pk_us⟩
      · obtain ⟨a, sg, rf', rb', a1, a2, a3, a4, a5, a6, a7⟩ := s3 j (by omega)
        exact ⟨a, sg, rf', rb', (if_neg e).trans a1, a2, by rw [f44, pk_un e]; exact hkp _ _ _ (by decide) a3, a4, by rw [f41, pk_un e]; exact a5, by rw [f42, pk_un e]; exact a6, by rw [f43, pk_un e]; exact a7⟩
    · obtain ⟨rfl, rfl⟩ := pa (by omega)
      refine ⟨_, _, rfl, z_mid.of hF.2.1, (m_signM1 hC.2.2.1 hn hi s2 hns rf rb x).mono ?_⟩
      rintro r ⟨y, h', rfl, pc, -⟩
      obtain ⟨rfl, rfl⟩ := pc (by omega)
      exact z_ok.same ⟨nD, dm, ns, hC, hD, ⟨hns, s1, s2, s3⟩, hT, hF⟩
/-- a step up -/
def z_up1 (σ : Nat → Nat → Int32) (o : Nat) : Nat := if ¬ σ 19 o < 0 ∧ σ 20 (z_na σ 19 o) = 0 then z_na σ 19 o else o
def z_it (σ : Nat → Nat → Int32) : Nat → Nat → Nat
  | 0, o => o
  | m + 1, o => z_it σ m (z_up1 σ o)
def z_org (σ : Nat → Nat → Int32) (i : Nat) : Nat := if σ 20 i = 0 then z_it σ 12 i else i
theorem z_it_fix {σ : Nat → Nat → Int32} {o : Nat} (h : z_up1 σ o = o) : ∀ m, z_it σ m o = o
  | 0 => rfl
  | m + 1 => by rw [z_it, h, z_it_fix h m]
/-- what the rows say of parents -/
def z_par (σ : Nat → Nat → Int32) (nD : Nat) : Prop := ∀ i, i < nD → (σ 19 i = -1 ∨ ∃ p, p < i ∧ σ 19 i = nI p) ∧ ∃ b, σ 20 i = z_bi b
theorem z_DD.par {h : zH} {σ : Nat → Nat → Int32} {ρ : Nat → Nat → Option Nat} {nD : Nat} {dm : Nat → Nat} (hD : z_DD h σ ρ nD dm) : z_par σ nD := fun i hi => by
  obtain ⟨h52, po, sf, na, ne, nm, lo, ko, wo, f, g, tt, c1, c2, c3, -⟩ := (hD.1 i hi).2
  refine ⟨?_, sf, c2⟩
  rcases c3 with ⟨-, z⟩ | ⟨p, hp, -, z⟩
  · exact Or.inl z
  · exact Or.inr ⟨p, hp, z⟩
theorem z_up1_lt {σ : Nat → Nat → Int32} {nD : Nat} (hn : nD ≤ 12) (H : z_par σ nD) {o : Nat} (ho : o < nD) : z_up1 σ o ≤ o := by
  unfold z_up1
  split
  · rename_i c
    rcases (H o ho).1 with z | ⟨p, hp, z⟩
    · exact absurd (by rw [z]; decide) c.1
    · rw [z_na_of z (by omega)]; omega
  · exact Nat.le_refl _
theorem z_it_lt {σ : Nat → Nat → Int32} {nD : Nat} (hn : nD ≤ 12) (H : z_par σ nD) : ∀ (m o : Nat), o < nD → z_it σ m o < nD
  | 0, o, ho => ho
  | m + 1, o, ho => by
    have := z_up1_lt hn H ho
    exact z_it_lt hn H m _ (by omega)
theorem z_org_lt {σ : Nat → Nat → Int32} {nD : Nat} (hn : nD ≤ 12) (H : z_par σ nD) {i : Nat} (hi : i < nD) : z_org σ i < nD := by
  unfold z_org
  split
  · exact z_it_lt hn H _ _ hi
  · exact hi
theorem l_org {d : Nat} {h : zH} {ρ : Nat → Nat → Option Nat} {σ σ0 : Nat → Nat → Int32} {nD i : Nat} {dm : Nat → Nat} (hn : nD ≤ 12) (hD : z_DD h σ0 ρ nD dm) (hi : i < nD) (hs : σ0 20 i = 0) : ∀ (o m : Nat), o ≤ m → o < nD →
    z_E d 33 2 [some (.ref (dm i)), some (.ref (dm o))] [] (z_G h σ ρ) (z_qr fun x h' => x = some (dm (z_it σ0 m o)) ∧ h' = z_G h σ ρ) := by
  intro o
  induction o using Nat.strongRecOn with
  | _ o ih =>
    intro m hm ho
    obtain ⟨i52, poi, sfi, nai, nei, nmi, loi, koi, woi, fi, gi, tti, i1, i2, -⟩ := (hD.1 i hi).2
    obtain ⟨o52, po, sf, na, ne, nm, lo, ko, wo, f, g, tt, c1, c2, c3, -⟩ := (hD.1 o ho).2
    have hsi : z_bi sfi = 0 := i2.symm.trans hs
    rcases c3 with ⟨rfl, e1⟩ | ⟨p, hp, rfl, e1⟩
    · refine e_aload k33_2 (q := 3) rfl rfl ?_
      refine d_get k33_3 (q := 6) rfl i52 i1.1 rfl ?_
      refine e_if k33_6 (q := 9) rfl (fun c6 => absurd c6 (fun z => z hsi)) (fun c6 => ?_)
      refine e_aload k33_9 (q := 10) rfl rfl ?_
      refine d_get k33_10 (q := 13) rfl o52 c1.1 rfl ?_
      refine e_nulN k33_13 ?_
      refine e_aload k33_34 (q := 35) rfl rfl ?_
      exact e_aret (a := some (dm o)) k33_35 ⟨_, _, rfl, by rw [z_it_fix (by unfold z_up1; rw [if_neg (fun z => z.1 (by rw [e1]; decide))])], rfl⟩
    · have hpn : z_na σ0 19 o = p := z_na_of e1 (by omega)
      obtain ⟨p52, pop, sfp, nap, nep, nmp, lop, kop, wop, fp, gp, ttp, p1, p2, -⟩ := (hD.1 p (by omega)).2
      refine e_aload k33_2 (q := 3) rfl rfl ?_
      refine d_get k33_3 (q := 6) rfl i52 i1.1 rfl ?_
      refine e_if k33_6 (q := 9) rfl (fun c6 => absurd c6 (fun z => z hsi)) (fun c6 => ?_)
      refine e_aload k33_9 (q := 10) rfl rfl ?_
      refine d_get k33_10 (q := 13) rfl o52 c1.1 rfl ?_
      show z_E _ _ _ _ (.ref (dm p) :: _) _ _
      refine e_nulR k33_13 (q := 16) rfl ?_
      refine e_aload k33_16 (q := 17) rfl rfl ?_
      refine d_get k33_17 (q := 20) rfl o52 c1.1 rfl ?_
      show z_E _ _ _ _ (.ref (dm p) :: _) _ _
      refine d_get k33_20 (q := 23) rfl p52 p1.1 rfl ?_
      refine e_if k33_23 (q := 26) rfl (fun c23 => ?_) (fun c23 => ?_)
      · refine e_aload k33_34 (q := 35) rfl rfl ?_
        exact e_aret (a := some (dm o)) k33_35 ⟨_, _, rfl, by rw [z_it_fix (by unfold z_up1; rw [hpn, if_neg (fun z => c23 (p2.symm.trans z.2))])], rfl⟩
      · refine e_aload k33_26 (q := 27) rfl rfl ?_
        refine d_get k33_27 (q := 30) rfl o52 c1.1 rfl ?_
        show z_E _ _ _ _ (.ref (dm p) :: _) _ _
        refine e_ast k33_30 (q := 31) (L' := [_, _]) rfl rfl rfl ?_
        refine e_goto k33_31 ?_
        obtain ⟨m', rfl⟩ : ∃ m', m = m' + 1 := ⟨m - 1, by omega⟩
        have hup : z_up1 σ0 o = p := by
          unfold z_up1
          rw [hpn, if_pos ⟨by rw [e1]; exact nI_pos (by omega), p2.trans (Classical.not_not.mp c23)⟩]
        rw [z_it, hup]
        exact ih p hp m' (by omega) (by omega)
theorem m_org {d : Nat} {h : zH} {ρ : Nat → Nat → Option Nat} {σ σ0 : Nat → Nat → Int32} {nD i : Nat} {dm : Nat → Nat} (hn : nD ≤ 12) (hD : z_DD h σ0 ρ nD dm) (hi : i < nD) : z_M (d + 1) 33 [.ref (dm i)] (z_G h σ ρ) (z_qr fun x h' => x = some (dm (z_org σ0 i)) ∧ h' = z_G h σ ρ) := by
  refine z_M.of ⟨Nat.le_of_ble_eq_true rfl, by simp [Value.category]⟩ (L := [some (.ref (dm i)), none]) rfl ?_
  obtain ⟨i52, poi, sfi, nai, nei, nmi, loi, koi, woi, fi, gi, tti, i1, i2, -⟩ := (hD.1 i hi).2
  by_cases hs : σ0 20 i = 0
  · refine e_aload k33_0 (q := 1) rfl rfl ?_
    refine e_ast k33_1 (q := 2) (L' := [_, _]) rfl rfl rfl ?_
    rw [z_org, if_pos hs]
    exact l_org hn hD hi hs i 12 (by omega) hi
  · refine e_aload k33_0 (q := 1) rfl rfl ?_
    refine e_ast k33_1 (q := 2) (L' := [_, _]) rfl rfl rfl ?_
    refine e_aload k33_2 (q := 3) rfl rfl ?_
    refine d_get k33_3 (q := 6) rfl i52 i1.1 rfl ?_
    refine e_if k33_6 (q := 9) rfl (fun c6 => ?_) (fun c6 => absurd (fun z => hs (i2.trans z)) c6)
    refine e_aload k33_34 (q := 35) rfl rfl ?_
    exact e_aret (a := some (dm i)) k33_35 ⟨_, _, rfl, by rw [z_org, if_neg hs], rfl⟩
theorem l_orgM {d : Nat} {h : zH} {ρ : Nat → Nat → Option Nat} {σ σ0 : Nat → Nat → Int32} {nD i : Nat} (hn : nD ≤ 12) (H : z_par σ0 nD) (r19 : σ 19 = σ0 19) (r20 : σ 20 = σ0 20) (hi : i < nD) (hs : σ0 20 i = 0) : ∀ (m k o : Nat) (x4 : Option Value), k + m = 12 → o < nD →
    z_E d 112 4 [some (.ref 18), some (.int (nI i)), some (.int (nI o)), some (.int (nI k)), x4] [] (z_G h σ ρ) (z_qi fun r h' => r = nI (z_it σ0 m o) ∧ h' = z_G h σ ρ)
  | 0, k, o, x4, hk, ho => by
    obtain rfl : k = 12 := by omega
    refine e_iload k112_4 (q := 5) rfl rfl ?_
    refine e_const k112_5 (q := 7) rfl ?_
    refine e_ic k112_7 (q := 10) rfl (fun c7 => ?_) (fun c7 => absurd (by decide) c7)
    refine e_iload k112_55 (q := 56) rfl rfl ?_
    refine e_iret k112_56 ⟨_, rfl⟩ ?_
    exact ⟨_, _, rfl, rfl, rfl⟩
  | m + 1, k, o, x4, hk, ho => by
    have hini : vp_in (nI i) 12 := vp_in_nI (by omega) (by decide)
    have hino : vp_in (nI o) 12 := vp_in_nI (by omega) (by decide)
    have hle := z_up1_lt hn H ho
    have ih := fun x4 => l_orgM (d := d) (h := h) (ρ := ρ) hn H r19 r20 hi hs m (k + 1) (z_up1 σ0 o) x4 (by omega) (by omega)
    refine e_iload k112_4 (q := 5) rfl rfl ?_
    refine e_const k112_5 (q := 7) rfl ?_
    refine e_ic k112_7 (q := 10) rfl (fun c7 => absurd c7 (nI_ge (b := 12) (by omega) (by decide))) (fun c7 => ?_)
    refine e_aload k112_10 (q := 11) rfl rfl ?_
    refine g_get k112_11 (q := 14) rfl rfl rfl ?_
    refine e_iload k112_14 (q := 15) rfl rfl ?_
    refine g_ald k112_15 (q := 16) rfl rfl (by assumption) ?_
    rw [nI_clamp (by omega), r20]
    refine e_if k112_16 (q := 19) rfl (fun c16 => absurd c16 (fun z => z hs)) (fun c16 => ?_)
    refine e_aload k112_19 (q := 20) rfl rfl ?_
    refine g_get k112_20 (q := 23) rfl rfl rfl ?_
    refine e_iload k112_23 (q := 24) rfl rfl ?_
    refine g_ald k112_24 (q := 25) rfl rfl (by assumption) ?_
    rw [nI_clamp (by omega), r19]
    refine e_ist k112_25 (q := 27) (L' := [_, _, _, _, _]) rfl rfl rfl ?_
    refine e_iload k112_27 (q := 29) rfl rfl ?_
    refine e_if k112_29 (q := 32) rfl (fun c29 => ?_) (fun c29 => ?_)
    · refine e_iload k112_47 (q := 48) rfl rfl ?_
      refine e_ist k112_48 (q := 49) (L' := [_, _, some (.int (nI (z_up1 σ0 o))), _, _]) rfl rfl (by rw [z_up1, if_neg (fun z => z.1 c29)]; rfl) ?_
      refine e_iinc k112_49 (q := 52) (L' := [_, _, _, some (.int (nI (k + 1))), _]) rfl rfl (by rw [nI_1]; rfl) ?_
      refine e_goto k112_52 ?_
      exact ih _
    · obtain ⟨p, hp, hp1⟩ := (H o ho).1.resolve_left (fun z => c29 (by rw [z]; decide))
      have hpn : z_na σ0 19 o = p := z_na_of hp1 (by omega)
      have hinp : vp_in (σ0 19 o) 12 := by rw [hp1]; exact vp_in_nI (by omega) (by decide)
      refine e_aload k112_32 (q := 33) rfl rfl ?_
      refine g_get k112_33 (q := 36) rfl rfl rfl ?_
      refine e_iload k112_36 (q := 38) rfl rfl ?_
      refine g_ald k112_38 (q := 39) rfl rfl (by assumption) ?_
      rw [hp1, nI_clamp (by omega), r20]
      refine e_if k112_39 (q := 42) rfl (fun c39 => ?_) (fun c39 => ?_)
      · refine e_iload k112_47 (q := 48) rfl rfl ?_
        refine e_ist k112_48 (q := 49) (L' := [_, _, some (.int (nI (z_up1 σ0 o))), _, _]) rfl rfl (by rw [z_up1, hpn, if_neg (fun z => c39 z.2)]; rfl) ?_
        refine e_iinc k112_49 (q := 52) (L' := [_, _, _, some (.int (nI (k + 1))), _]) rfl rfl (by rw [nI_1]; rfl) ?_
        refine e_goto k112_52 ?_
        exact ih _
      · refine e_iload k112_42 (q := 44) rfl rfl ?_
        refine e_goto k112_44 ?_
        refine e_ist k112_48 (q := 49) (L' := [_, _, some (.int (nI (z_up1 σ0 o))), _, _]) rfl rfl (by rw [z_up1, hpn, if_pos ⟨c29, Classical.not_not.mp c39⟩]; rfl) ?_
        refine e_iinc k112_49 (q := 52) (L' := [_, _, _, some (.int (nI (k + 1))), _]) rfl rfl (by rw [nI_1]; rfl) ?_
        refine e_goto k112_52 ?_
        exact ih _
theorem m_orgM {d : Nat} {h : zH} {ρ : Nat → Nat → Option Nat} {σ σ0 : Nat → Nat → Int32} {nD i : Nat} (hn : nD ≤ 12) (H : z_par σ0 nD) (r19 : σ 19 = σ0 19) (r20 : σ 20 = σ0 20) (hi : i < nD) : z_M (d + 1) 112 [.ref 18, .int (nI i)] (z_G h σ ρ) (z_qi fun r h' => r = nI (z_org σ0 i) ∧ h' = z_G h σ ρ) := by
  refine z_M.of ⟨Nat.le_of_ble_eq_true rfl, by simp [Value.category]⟩ (L := [some (.ref 18), some (.int (nI i)), none, none, none]) rfl ?_
  have hini : vp_in (nI i) 12 := vp_in_nI (by omega) (by decide)
  by_cases hs : σ0 20 i = 0
  · refine e_iload k112_0 (q := 1) rfl rfl ?_
    refine e_ist k112_1 (q := 2) (L' := [_, _, _, _, _]) rfl rfl rfl ?_
    refine e_const k112_2 (q := 3) rfl ?_
    refine e_ist k112_3 (q := 4) (L' := [_, _, _, _, _]) rfl rfl rfl ?_
    rw [z_org, if_pos hs]
    exact l_orgM hn H r19 r20 hi hs 12 0 i _ rfl hi
  · refine e_iload k112_0 (q := 1) rfl rfl ?_
    refine e_ist k112_1 (q := 2) (L' := [_, _, _, _, _]) rfl rfl rfl ?_
    refine e_const k112_2 (q := 3) rfl ?_
    refine e_ist k112_3 (q := 4) (L' := [_, _, _, _, _]) rfl rfl rfl ?_
    refine e_iload k112_4 (q := 5) rfl rfl ?_
    refine e_const k112_5 (q := 7) rfl ?_
    refine e_ic k112_7 (q := 10) rfl (fun c7 => absurd c7 (by decide)) (fun c7 => ?_)
    refine e_aload k112_10 (q := 11) rfl rfl ?_
    refine g_get k112_11 (q := 14) rfl rfl rfl ?_
    refine e_iload k112_14 (q := 15) rfl rfl ?_
    refine g_ald k112_15 (q := 16) rfl rfl (by assumption) ?_
    rw [nI_clamp (by omega), r20]
    refine e_if k112_16 (q := 19) rfl (fun c16 => ?_) (fun c16 => absurd hs c16)
    refine e_iload k112_55 (q := 56) rfl rfl ?_
    refine e_iret k112_56 ⟨_, rfl⟩ ?_
    exact ⟨_, _, rfl, by rw [z_org, if_neg hs], rfl⟩
def z_ft (σ : Nat → Nat → Int32) (i j : Nat) (st : Bool) : Bool := decide (i = j) || (!st && decide (z_org σ i = z_org σ j))
theorem z_dm_inj {h : zH} {σ : Nat → Nat → Int32} {ρ : Nat → Nat → Option Nat} {nD : Nat} {dm : Nat → Nat} (hD : z_DD h σ ρ nD dm) {i j : Nat} (hi : i < nD) (hj : j < nD) (e : some (dm i) = some (dm j)) : i = j := by
  have e : dm i = dm j := Option.some.inj e
  rcases Nat.lt_trichotomy i j with z | z | z
  · have := hD.2.1 i j z hj; omega
  · exact z
  · have := hD.2.1 j i z hi; omega
theorem m_fits {d : Nat} {h : zH} {ρ : Nat → Nat → Option Nat} {σ σ0 : Nat → Nat → Int32} {nD i j : Nat} {dm : Nat → Nat} (hn : nD ≤ 12) (hD : z_DD h σ0 ρ nD dm) (hi : i < nD) (hj : j < nD) (st : Bool) : z_M (d + 2) 34 [.ref (dm i), .ref (dm j), .int (z_bi st)] (z_G h σ ρ) (z_qi fun r h' => r = z_bi (z_ft σ0 i j st) ∧ h' = z_G h σ ρ) := by
  refine z_M.of ⟨Nat.le_of_ble_eq_true rfl, by simp [Value.category]⟩ (L := [some (.ref (dm i)), some (.ref (dm j)), some (.int (z_bi st))]) rfl ?_
  obtain ⟨i52, poi, sfi, nai, nei, nmi, loi, koi, woi, fi, gi, tti, i1, i2, -⟩ := (hD.1 i hi).2
  obtain ⟨j52, poj, sfj, naj, nej, nmj, loj, koj, woj, fj, gj, ttj, j1, j2, -⟩ := (hD.1 j hj).2
  have oi := z_org_lt hn hD.par hi
  have oj := z_org_lt hn hD.par hj
  refine e_aload k34_0 (q := 1) rfl rfl ?_
  refine e_aload k34_1 (q := 2) rfl rfl ?_
  refine e_acE (x := some (dm i)) (y := some (dm j)) k34_2 (q := 5) rfl (fun c2 => ?_) (fun c2 => ?_)
  · refine e_const k34_20 (q := 21) rfl ?_
    refine e_goto k34_21 ?_
    refine e_iret k34_25 (by first | exact Or.inl rfl | exact Or.inr rfl | assumption) ?_
    exact ⟨_, _, rfl, by rw [z_ft, decide_eq_true (z_dm_inj hD hi hj c2), Bool.true_or]; rfl, rfl⟩
  · refine e_iload k34_5 (q := 6) rfl rfl ?_
    refine e_if k34_6 (q := 9) rfl (fun c6 => ?_) (fun c6 => ?_)
    · refine e_const k34_24 (q := 25) rfl ?_
      refine e_iret k34_25 (by first | exact Or.inl rfl | exact Or.inr rfl | assumption) ?_
      exact ⟨_, _, rfl, by rw [z_ft, decide_eq_false (fun z => c2 (by rw [z])), show st = true from Classical.byContradiction (fun z => c6 (z_bi_0.mpr (Bool.not_eq_true _ ▸ z)))]; rfl, rfl⟩
    · refine e_aload k34_9 (q := 10) rfl rfl ?_
      refine d_cv k34_10 (q := 13) (as := []) rfl rfl i52 i1.1 rfl (m_org hn hD hi) rfl (z_kr fun x10 h10 p10 => ?_)
      obtain ⟨rfl, rfl⟩ := p10
      refine e_aload k34_13 (q := 14) rfl rfl ?_
      refine d_cv k34_14 (q := 17) (as := []) rfl rfl j52 j1.1 rfl (m_org hn hD hj) rfl (z_kr fun x14 h14 p14 => ?_)
      obtain ⟨rfl, rfl⟩ := p14
      refine e_acN (x := some (dm (z_org σ0 i))) (y := some (dm (z_org σ0 j))) k34_17 (q := 20) rfl (fun c17 => ?_) (fun c17 => ?_)
      · refine e_const k34_24 (q := 25) rfl ?_
        refine e_iret k34_25 (by first | exact Or.inl rfl | exact Or.inr rfl | assumption) ?_
        exact ⟨_, _, rfl, by rw [z_ft, decide_eq_false (show ¬ i = j from fun z => c2 (by rw [z])), z_bi_0.mp (Classical.not_not.mp c6), decide_eq_false (show ¬ z_org σ0 i = z_org σ0 j from fun z => c17 (by rw [z]))]; rfl, rfl⟩
      · refine e_const k34_20 (q := 21) rfl ?_
        refine e_goto k34_21 ?_
        refine e_iret k34_25 (by first | exact Or.inl rfl | exact Or.inr rfl | assumption) ?_
        exact ⟨_, _, rfl, by rw [z_ft, decide_eq_false (show ¬ i = j from fun z => c2 (by rw [z])), z_bi_0.mp (Classical.not_not.mp c6), decide_eq_true (z_dm_inj hD oi oj c17)]; rfl, rfl⟩
theorem m_fitsM {d : Nat} {h : zH} {ρ : Nat → Nat → Option Nat} {σ σ0 : Nat → Nat → Int32} {nD i j : Nat} (hn : nD ≤ 12) (H : z_par σ0 nD) (r19 : σ 19 = σ0 19) (r20 : σ 20 = σ0 20) (hi : i < nD) (hj : j < nD) (st : Bool) : z_M (d + 2) 113 [.ref 18, .int (nI i), .int (nI j), .int (z_bi st)] (z_G h σ ρ) (z_qi fun r h' => r = z_bi (z_ft σ0 i j st) ∧ h' = z_G h σ ρ) := by
  refine z_M.of ⟨Nat.le_of_ble_eq_true rfl, by simp [Value.category]⟩ (L := [some (.ref 18), some (.int (nI i)), some (.int (nI j)), some (.int (z_bi st))]) rfl ?_
  have oi := z_org_lt hn H hi
  have oj := z_org_lt hn H hj
  refine e_iload k113_0 (q := 1) rfl rfl ?_
  refine e_iload k113_1 (q := 2) rfl rfl ?_
  refine e_ic k113_2 (q := 5) rfl (fun c2 => ?_) (fun c2 => ?_)
  · refine e_const k113_22 (q := 23) rfl ?_
    refine e_goto k113_23 ?_
    refine e_iret k113_27 (by first | exact Or.inl rfl | exact Or.inr rfl | assumption) ?_
    exact ⟨_, _, rfl, by rw [z_ft, decide_eq_true (show i = j from (nI_eq (by omega) (by omega)).mp c2), Bool.true_or]; rfl, rfl⟩
  · refine e_iload k113_5 (q := 6) rfl rfl ?_
    refine e_if k113_6 (q := 9) rfl (fun c6 => ?_) (fun c6 => ?_)
    · refine e_const k113_26 (q := 27) rfl ?_
      refine e_iret k113_27 (by first | exact Or.inl rfl | exact Or.inr rfl | assumption) ?_
      exact ⟨_, _, rfl, by rw [z_ft, decide_eq_false (show ¬ i = j from fun z => c2 (by rw [z])), show st = true from Classical.byContradiction (fun z => c6 (z_bi_0.mpr (Bool.not_eq_true _ ▸ z)))]; rfl, rfl⟩
    · refine e_aload k113_9 (q := 10) rfl rfl ?_
      refine e_iload k113_10 (q := 11) rfl rfl ?_
      refine g_cv k113_11 (q := 14) (as := [_]) rfl rfl rfl rfl (m_orgM hn H r19 r20 hi) rfl (z_ki fun x11 h11 p11 => ?_)
      obtain ⟨rfl, rfl⟩ := p11
      refine e_aload k113_14 (q := 15) rfl rfl ?_
      refine e_iload k113_15 (q := 16) rfl rfl ?_
      refine g_cv k113_16 (q := 19) (as := [_]) rfl rfl rfl rfl (m_orgM hn H r19 r20 hj) rfl (z_ki fun x16 h16 p16 => ?_)
      obtain ⟨rfl, rfl⟩ := p16
      refine e_ic k113_19 (q := 22) rfl (fun c19 => ?_) (fun c19 => ?_)
      · refine e_const k113_26 (q := 27) rfl ?_
        refine e_iret k113_27 (by first | exact Or.inl rfl | exact Or.inr rfl | assumption) ?_
        exact ⟨_, _, rfl, by rw [z_ft, decide_eq_false (show ¬ i = j from fun z => c2 (by rw [z])), z_bi_0.mp (Classical.not_not.mp c6), decide_eq_false (show ¬ z_org σ0 i = z_org σ0 j from fun z => c19 (by rw [z]))]; rfl, rfl⟩
      · refine e_const k113_22 (q := 23) rfl ?_
        refine e_goto k113_23 ?_
        refine e_iret k113_27 (by first | exact Or.inl rfl | exact Or.inr rfl | assumption) ?_
        exact ⟨_, _, rfl, by rw [z_ft, decide_eq_false (show ¬ i = j from fun z => c2 (by rw [z])), z_bi_0.mp (Classical.not_not.mp c6), decide_eq_true (show z_org σ0 i = z_org σ0 j from (nI_eq (by omega) (by omega)).mp (Classical.not_not.mp c19))]; rfl, rfl⟩
