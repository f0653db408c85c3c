/-! Keys and wishes. -/
theorem z_ch2.one {h h1 : zH} {a ci n : Nat} {fs : List Value} {y : zE} (ha : a < h.2.1) (hn : n ≤ 50) (e0 : ∀ b, b ≠ h.2.1 → h1.1 b = (z_al h (.inr (ci, fs)) n).1 b) (e1 : h1.2 = (z_al h (.inr (ci, fs)) n).2) : z_ch2 (z_st h1 a y) h a := by
  refine ⟨?_, ?_, ?_, fun b hb hx => ?_, fun hF b hb => ?_⟩
  · show h.2.1 ≤ h1.2.1
    rw [e1]; exact Nat.le_succ _
  · show h1.2.1 ≤ _
    rw [e1]; show h.2.1 + 1 ≤ _; omega
  · show h1.2.2 ≤ _
    rw [e1]; show h.2.2 + n ≤ _; omega
  · rw [z_st_ne _ _ (by omega), e0 b (by omega), z_al_ne _ _ _ (by omega)]
  · have hb : h1.2.1 ≤ b := hb
    rw [e1] at hb
    have hb : h.2.1 + 1 ≤ b := hb
    rw [z_st_ne _ _ (by omega), e0 b (by omega), z_al_ne _ _ _ (by omega)]
    exact hF b (by omega)
theorem z_dc.up {h h1 : zH} {a na ne nt : Nat} {po lo ko wo : Option Nat} {sf : Bool} {f : Nat → Int32} {g tt : Nat → Option Nat} {na' ne' nt' : Nat} {po' lo' ko' wo' : Option Nat} {sf' : Bool} (hc : z_dc h a po sf na ne nt lo ko wo f g tt) (e : ∀ b, b = a + 1 ∨ b = a + 2 ∨ b = a + 3 → h1.1 b = h.1 b) : z_dc (z_st h1 a (.inr (1, [va_rf po', .int (z_bi sf'), .ref (a + 1), .int (nI na'), .ref (a + 2), .int (nI ne'), .ref (a + 3), .int (nI nt'), va_rf lo', va_rf ko', va_rf wo']))) a po' sf' na' ne' nt' lo' ko' wo' f g tt :=
  ⟨z_st_self _ _ _, by rw [z_st_ne _ _ (by omega), e _ (by omega)]; exact hc.2.1, by rw [z_st_ne _ _ (by omega), e _ (by omega)]; exact hc.2.2.1, by rw [z_st_ne _ _ (by omega), e _ (by omega)]; exact hc.2.2.2⟩
theorem m_keyInit {d : Nat} {h : zH} {ρ : Nat → Nat → Option Nat} {σ : Nat → Nat → Int32} {a : Nat} (h52 : 52 ≤ a) (ha : h.1 a = some (.inr (8, [.int 0, .int 0]))) (x y : Int32) : z_M (d + 1) 67 [.ref a, .int x, .int y] (z_G h σ ρ) (z_qv fun h' => ∃ h1, h' = z_G h1 σ ρ ∧ h1.1 a = some (.inr (8, [.int x, .int y])) ∧ (∀ b, b ≠ a → h1.1 b = h.1 b) ∧ h1.2 = h.2) := by
  refine z_M.of ⟨Nat.le_of_ble_eq_true rfl, by simp [Value.category]⟩ (L := [some (.ref a), some (.int x), some (.int y)]) rfl ?_
  refine e_aload k67_0 (q := 1) rfl rfl ?_
  refine e_obj k67_1 (q := 4) rfl (Nat.le_of_ble_eq_true rfl) ?_
  refine e_aload k67_4 (q := 5) rfl rfl ?_
  refine e_iload k67_5 (q := 6) rfl rfl ?_
  refine d_put k67_6 (q := 9) (fs' := [_, _]) rfl h52 ha ⟨_, rfl⟩ rfl ?_
  refine e_aload k67_9 (q := 10) rfl rfl ?_
  refine e_iload k67_10 (q := 11) rfl rfl ?_
  refine d_put k67_11 (q := 14) (fs' := [_, _]) rfl h52 (z_st_self _ _ _) ⟨_, rfl⟩ rfl ?_
  refine e_vret k67_14 ?_
  refine ⟨_, rfl, _, rfl, z_st_self _ _ _, fun b hb => ?_, rfl⟩
  rw [z_st_ne _ _ hb, z_st_ne _ _ hb]
theorem m_wishInit {d : Nat} {h : zH} {ρ : Nat → Nat → Option Nat} {σ : Nat → Nat → Int32} {a : Nat} (h52 : 52 ≤ a) (ha : h.1 a = some (.inr (9, [.int 0, .int 0, .int 0, .int 0]))) (x y : Int32) (s g : Bool) : z_M (d + 1) 69 [.ref a, .int x, .int y, .int (z_bi s), .int (z_bi g)] (z_G h σ ρ) (z_qv fun h' => ∃ h1, h' = z_G h1 σ ρ ∧ h1.1 a = some (.inr (9, [.int x, .int y, .int (z_bi s), .int (z_bi g)])) ∧ (∀ b, b ≠ a → h1.1 b = h.1 b) ∧ h1.2 = h.2) := by
  refine z_M.of ⟨Nat.le_of_ble_eq_true rfl, by simp [Value.category]⟩ (L := [some (.ref a), some (.int x), some (.int y), some (.int (z_bi s)), some (.int (z_bi g))]) rfl ?_
  refine e_aload k69_0 (q := 1) rfl rfl ?_
  refine e_obj k69_1 (q := 4) rfl (Nat.le_of_ble_eq_true rfl) ?_
  refine e_aload k69_4 (q := 5) rfl rfl ?_
  refine e_iload k69_5 (q := 6) rfl rfl ?_
  refine d_put k69_6 (q := 9) (fs' := [_, _, _, _]) rfl h52 ha ⟨_, rfl⟩ rfl ?_
  refine e_aload k69_9 (q := 10) rfl rfl ?_
  refine e_iload k69_10 (q := 11) rfl rfl ?_
  refine d_put k69_11 (q := 14) (fs' := [_, _, _, _]) rfl h52 (z_st_self _ _ _) ⟨_, rfl⟩ rfl ?_
  refine e_aload k69_14 (q := 15) rfl rfl ?_
  refine e_iload k69_15 (q := 16) rfl rfl ?_
  refine d_put k69_16 (q := 19) (fs' := [_, _, _, _]) rfl h52 (z_st_self _ _ _) (z_fitb s) rfl ?_
  refine e_aload k69_19 (q := 20) rfl rfl ?_
  refine e_iload k69_20 (q := 22) rfl rfl ?_
  refine d_put k69_22 (q := 25) (fs' := [_, _, _, _]) rfl h52 (z_st_self _ _ _) (z_fitb g) rfl ?_
  refine e_vret k69_25 ?_
  refine ⟨_, rfl, _, rfl, z_st_self _ _ _, fun b hb => ?_, rfl⟩
  rw [z_st_ne _ _ hb, z_st_ne _ _ hb, z_st_ne _ _ hb, z_st_ne _ _ hb]
theorem m_key0 {d : Nat} {h : zH} {ρ : Nat → Nat → Option Nat} {σ : Nat → Nat → Int32} {nD : Nat} {dm : Nat → Nat} (hC : z_CC σ nD) (hD : z_DD h σ ρ nD dm) {p x y : Int32} (hr : z_nb nD p ∨ x < 2 ∨ ¬ 1 ≤ y) : z_M (d + 2) 5 [.ref 1, .int p, .int x, .int y] (z_G h σ ρ) (z_qi fun r h' => r = 0 ∧ h' = z_G h σ ρ) := by
  refine z_M.of ⟨Nat.le_of_ble_eq_true rfl, by simp [Value.category]⟩ (L := [some (.ref 1), some (.int p), some (.int x), some (.int y), none]) rfl ?_
  have hn := hC.1
  have main : ∀ q : Option Nat, (q = none ∨ x < 2 ∨ ¬ 1 ≤ y) → z_E (d + 1) 5 7 [some (.ref 1), some (.int p), some (.int x), some (.int y), some (va_rf q)] [] (z_G h σ ρ) (z_qi fun r h' => r = 0 ∧ h' = z_G h σ ρ) := by
    intro q hq
    cases q with
    | none =>
      refine e_aloadq (a := none) k5_7 (q := 9) rfl rfl ?_
      refine e_nulN k5_9 ?_
      refine e_const k5_22 (q := 23) rfl ?_
      refine e_iret k5_23 (by first | exact Or.inl rfl | exact Or.inr rfl | assumption) ?_
      exact ⟨_, _, rfl, rfl, rfl⟩
    | some a =>
      have hq : x < 2 ∨ ¬ 1 ≤ y := hq.resolve_left (by intro z; cases z)
      refine e_aload (a := a) k5_7 (q := 9) rfl rfl ?_
      refine e_nulR k5_9 (q := 12) rfl ?_
      refine e_iload k5_12 (q := 13) rfl rfl ?_
      refine e_const k5_13 (q := 14) rfl ?_
      refine e_ic k5_14 (q := 17) rfl (fun c14 => ?_) (fun c14 => ?_)
      · refine e_const k5_22 (q := 23) rfl ?_
        refine e_iret k5_23 (by first | exact Or.inl rfl | exact Or.inr rfl | assumption) ?_
        exact ⟨_, _, rfl, rfl, rfl⟩
      · refine e_iload k5_17 (q := 18) rfl rfl ?_
        refine e_const k5_18 (q := 19) rfl ?_
        refine e_ic k5_19 (q := 22) rfl (fun c19 => ?_) (fun c19 => ?_)
        · exact absurd c19 (hq.resolve_left c14)
        · refine e_const k5_22 (q := 23) rfl ?_
          refine e_iret k5_23 (by first | exact Or.inl rfl | exact Or.inr rfl | assumption) ?_
          exact ⟨_, _, rfl, rfl, rfl⟩
  rcases z_nb_or hn p with hb | ⟨i, hi, rfl⟩
  · refine e_aload k5_0 (q := 1) rfl rfl ?_
    refine e_iload k5_1 (q := 2) rfl rfl ?_
    refine g_cv k5_2 (q := 5) (as := [_]) rfl rfl rfl rfl (m_numb0 hC.2.1 hb) rfl (z_kr fun x2 h2 p2 => ?_)
    obtain ⟨rfl, rfl⟩ := p2
    refine e_astq (a := none) k5_5 (q := 7) (L' := [_, _, _, _, _]) rfl rfl rfl ?_
    exact main none (Or.inl rfl)
  · refine e_aload k5_0 (q := 1) rfl rfl ?_
    refine e_iload k5_1 (q := 2) rfl rfl ?_
    refine g_cv k5_2 (q := 5) (as := [_]) rfl rfl rfl rfl (m_numb1 hC hD hi) rfl (z_kr fun x2 h2 p2 => ?_)
    obtain ⟨rfl, rfl⟩ := p2
    refine e_astq (a := (some (dm i))) k5_5 (q := 7) (L' := [_, _, _, _, _]) rfl rfl rfl ?_
    exact main (some (dm i)) (Or.inr (hr.resolve_left (z_nb_no hn hi)))
theorem m_key1 {d : Nat} {h : zH} {ρ : Nat → Nat → Option Nat} {σ : Nat → Nat → Int32} {nD : Nat} {dm : Nat → Nat} {na ne nt : Nat} {po lo ko wo : Option Nat} {sf : Bool} {f : Nat → Int32} {g tt : Nat → Option Nat} {i : Nat} (hC : z_CC σ nD) (hD : z_DD h σ ρ nD dm) (hi : i < nD) (h52 : 52 ≤ dm i) (hc : z_dc h (dm i) po sf na ne nt lo ko wo f g tt) {X : zE} (hF : z_FF X h) {x y : Int32} (hx : ¬ x < 2) (hy : 1 ≤ y) : z_M (d + 2) 5 [.ref 1, .int (nI i), .int x, .int y] (z_G h σ ρ) (z_qi fun r h' => r = 1 ∧ ∃ h1, h' = z_G h1 σ ρ ∧ z_dc h1 (dm i) po sf na ne nt lo (some h.2.1) wo f g tt ∧ h1.1 h.2.1 = some (.inr (8, [.int x, .int y])) ∧ z_ch2 h1 h (dm i)) := by
  refine z_M.of ⟨Nat.le_of_ble_eq_true rfl, by simp [Value.category]⟩ (L := [some (.ref 1), some (.int (nI i)), some (.int x), some (.int y), none]) rfl ?_
  have hlt := z_lt hF.2.2 hc.1
  have hlt3 := z_lt hF.2.2 hc.2.2.2
  refine e_aload k5_0 (q := 1) rfl rfl ?_
  refine e_iload k5_1 (q := 2) rfl rfl ?_
  refine g_cv k5_2 (q := 5) (as := [_]) rfl rfl rfl rfl (m_numb1 hC hD hi) rfl (z_kr fun x2 h2 p2 => ?_)
  obtain ⟨rfl, rfl⟩ := p2
  refine e_ast (a := dm i) k5_5 (q := 7) (L' := [_, _, _, _, _]) rfl rfl rfl ?_
  refine e_aload k5_7 (q := 9) rfl rfl ?_
  refine e_nulR k5_9 (q := 12) rfl ?_
  refine e_iload k5_12 (q := 13) rfl rfl ?_
  refine e_const k5_13 (q := 14) rfl ?_
  refine e_ic k5_14 (q := 17) rfl (fun c14 => absurd c14 hx) (fun c14 => ?_)
  refine e_iload k5_17 (q := 18) rfl rfl ?_
  refine e_const k5_18 (q := 19) rfl ?_
  refine e_ic k5_19 (q := 22) rfl (fun c19 => ?_) (fun c19 => absurd hy c19)
  refine e_aload k5_24 (q := 26) rfl rfl ?_
  refine d_new k5_26 (q := 29) (a := h.2.1) rfl hF.1 rfl ?_
  refine e_dup k5_29 (q := 30) rfl rfl ?_
  refine e_iload k5_30 (q := 31) rfl rfl ?_
  refine e_iload k5_31 (q := 32) rfl rfl ?_
  refine e_ci k5_32 (q := 35) (as := [_, _]) rfl rfl (Nat.le_of_ble_eq_true rfl) (m_keyInit hF.1 (z_al_self _ _ _ rfl) x y) rfl (z_kv fun h32 p32 => ?_)
  obtain ⟨h1, rfl, q1, q2, q3⟩ := p32
  refine d_put k5_35 (q := 38) (fs' := [va_rf po, .int (z_bi sf), .ref (dm i + 1), .int (nI na), .ref (dm i + 2), .int (nI ne), .ref (dm i + 3), .int (nI nt), va_rf lo, va_rf (some h.2.1), va_rf wo]) rfl h52 ((q2 _ (by omega)).trans ((z_al_ne _ _ _ (by omega)).trans hc.1)) (z_fitq (some h.2.1)) rfl ?_
  refine e_const k5_38 (q := 39) rfl ?_
  refine e_iret k5_39 (by first | exact Or.inl rfl | exact Or.inr rfl | assumption) ?_
  refine ⟨_, _, rfl, rfl, _, rfl, hc.up (fun b hb => ?_), ?_, z_ch2.one (n := 2) hlt (by decide) q2 q3⟩
  · rw [q2 b (by omega), z_al_ne _ _ _ (by omega)]
  · rw [z_st_ne _ _ (by omega)]
    exact q1
theorem m_wish0 {d : Nat} {h : zH} {ρ : Nat → Nat → Option Nat} {σ : Nat → Nat → Int32} {nD : Nat} {dm : Nat → Nat} (hC : z_CC σ nD) (hD : z_DD h σ ρ nD dm) {p o b : Int32} (s g : Bool) (hr : z_nb nD p ∨ (o < 0 ∨ 2 < o) ∨ (b < 0 ∨ 2 < b)) : z_M (d + 2) 6 [.ref 1, .int p, .int o, .int b, .int (z_bi s), .int (z_bi g)] (z_G h σ ρ) (z_qi fun r h' => r = 0 ∧ h' = z_G h σ ρ) := by
  refine z_M.of ⟨Nat.le_of_ble_eq_true rfl, by simp [Value.category]⟩ (L := [some (.ref 1), some (.int p), some (.int o), some (.int b), some (.int (z_bi s)), some (.int (z_bi g)), none]) rfl ?_
  have hn := hC.1
  have main : ∀ q : Option Nat, (q = none ∨ (o < 0 ∨ 2 < o) ∨ (b < 0 ∨ 2 < b)) → z_E (d + 1) 6 7 [some (.ref 1), some (.int p), some (.int o), some (.int b), some (.int (z_bi s)), some (.int (z_bi g)), some (va_rf q)] [] (z_G h σ ρ) (z_qi fun r h' => r = 0 ∧ h' = z_G h σ ρ) := by
    intro q hq
    cases q with
    | none =>
      refine e_aloadq (a := none) k6_7 (q := 9) rfl rfl ?_
      refine e_nulN k6_9 ?_
      refine e_const k6_26 (q := 27) rfl ?_
      refine e_iret k6_27 (by first | exact Or.inl rfl | exact Or.inr rfl | assumption) ?_
      exact ⟨_, _, rfl, rfl, rfl⟩
    | some a =>
      have hq : (o < 0 ∨ 2 < o) ∨ (b < 0 ∨ 2 < b) := hq.resolve_left (by intro z; cases z)
      refine e_aload (a := a) k6_7 (q := 9) rfl rfl ?_
      refine e_nulR k6_9 (q := 12) rfl ?_
      refine e_iload k6_12 (q := 13) rfl rfl ?_
      refine e_cs k6_13 (q := 16) (as := [_]) rfl rfl (Nat.le_of_ble_eq_true rfl) (m_isWish o) rfl (z_ki fun x13 h13 p13 => ?_)
      obtain ⟨rfl, rfl⟩ := p13
      refine e_if k6_16 (q := 19) rfl (fun c16 => ?_) (fun c16 => ?_)
      · refine e_const k6_26 (q := 27) rfl ?_
        refine e_iret k6_27 (by first | exact Or.inl rfl | exact Or.inr rfl | assumption) ?_
        exact ⟨_, _, rfl, rfl, rfl⟩
      · refine e_iload k6_19 (q := 20) rfl rfl ?_
        refine e_cs k6_20 (q := 23) (as := [_]) rfl rfl (Nat.le_of_ble_eq_true rfl) (m_isWish b) rfl (z_ki fun x20 h20 p20 => ?_)
        obtain ⟨rfl, rfl⟩ := p20
        refine e_if k6_23 (q := 26) rfl (fun c23 => ?_) (fun c23 => ?_)
        · exact absurd (if_pos (hq.resolve_left (fun z => c16 (if_pos z)))) c23
        · refine e_const k6_26 (q := 27) rfl ?_
          refine e_iret k6_27 (by first | exact Or.inl rfl | exact Or.inr rfl | assumption) ?_
          exact ⟨_, _, rfl, rfl, rfl⟩
  rcases z_nb_or hn p with hb | ⟨i, hi, rfl⟩
  · refine e_aload k6_0 (q := 1) rfl rfl ?_
    refine e_iload k6_1 (q := 2) rfl rfl ?_
    refine g_cv k6_2 (q := 5) (as := [_]) rfl rfl rfl rfl (m_numb0 hC.2.1 hb) rfl (z_kr fun x2 h2 p2 => ?_)
    obtain ⟨rfl, rfl⟩ := p2
    refine e_astq (a := none) k6_5 (q := 7) (L' := [_, _, _, _, _, _, _]) rfl rfl rfl ?_
    exact main none (Or.inl rfl)
  · refine e_aload k6_0 (q := 1) rfl rfl ?_
    refine e_iload k6_1 (q := 2) rfl rfl ?_
    refine g_cv k6_2 (q := 5) (as := [_]) rfl rfl rfl rfl (m_numb1 hC hD hi) rfl (z_kr fun x2 h2 p2 => ?_)
    obtain ⟨rfl, rfl⟩ := p2
    refine e_astq (a := (some (dm i))) k6_5 (q := 7) (L' := [_, _, _, _, _, _, _]) rfl rfl rfl ?_
    exact main (some (dm i)) (Or.inr (hr.resolve_left (z_nb_no hn hi)))
theorem m_wish1 {d : Nat} {h : zH} {ρ : Nat → Nat → Option Nat} {σ : Nat → Nat → Int32} {nD : Nat} {dm : Nat → Nat} {na ne nt : Nat} {po lo ko wo : Option Nat} {sf : Bool} {f : Nat → Int32} {g tt : Nat → Option Nat} {i : Nat} (hC : z_CC σ nD) (hD : z_DD h σ ρ nD dm) (hi : i < nD) (h52 : 52 ≤ dm i) (hc : z_dc h (dm i) po sf na ne nt lo ko wo f g tt) {X : zE} (hF : z_FF X h) {o b : Int32} (s u : Bool) (hx : ¬ (o < 0 ∨ 2 < o)) (hy : ¬ (b < 0 ∨ 2 < b)) : z_M (d + 2) 6 [.ref 1, .int (nI i), .int o, .int b, .int (z_bi s), .int (z_bi u)] (z_G h σ ρ) (z_qi fun r h' => r = 1 ∧ ∃ h1, h' = z_G h1 σ ρ ∧ z_dc h1 (dm i) po sf na ne nt lo ko (some h.2.1) f g tt ∧ h1.1 h.2.1 = some (.inr (9, [.int o, .int b, .int (z_bi s), .int (z_bi u)])) ∧ z_ch2 h1 h (dm i)) := by
  refine z_M.of ⟨Nat.le_of_ble_eq_true rfl, by simp [Value.category]⟩ (L := [some (.ref 1), some (.int (nI i)), some (.int o), some (.int b), some (.int (z_bi s)), some (.int (z_bi u)), none]) rfl ?_
  have hlt := z_lt hF.2.2 hc.1
  have hlt3 := z_lt hF.2.2 hc.2.2.2
  refine e_aload k6_0 (q := 1) rfl rfl ?_
  refine e_iload k6_1 (q := 2) rfl rfl ?_
  refine g_cv k6_2 (q := 5) (as := [_]) rfl rfl rfl rfl (m_numb1 hC hD hi) rfl (z_kr fun x2 h2 p2 => ?_)
  obtain ⟨rfl, rfl⟩ := p2
  refine e_ast (a := dm i) k6_5 (q := 7) (L' := [_, _, _, _, _, _, _]) rfl rfl rfl ?_
  refine e_aload k6_7 (q := 9) rfl rfl ?_
  refine e_nulR k6_9 (q := 12) rfl ?_
  refine e_iload k6_12 (q := 13) rfl rfl ?_
  refine e_cs k6_13 (q := 16) (as := [_]) rfl rfl (Nat.le_of_ble_eq_true rfl) (m_isWish o) rfl (z_ki fun x13 h13 p13 => ?_)
  obtain ⟨rfl, rfl⟩ := p13
  rw [if_neg hx]
  refine e_if k6_16 (q := 19) rfl (fun c16 => absurd c16 (by decide)) (fun c16 => ?_)
  refine e_iload k6_19 (q := 20) rfl rfl ?_
  refine e_cs k6_20 (q := 23) (as := [_]) rfl rfl (Nat.le_of_ble_eq_true rfl) (m_isWish b) rfl (z_ki fun x20 h20 p20 => ?_)
  obtain ⟨rfl, rfl⟩ := p20
  rw [if_neg hy]
  refine e_if k6_23 (q := 26) rfl (fun c23 => ?_) (fun c23 => absurd (by decide) c23)
  refine e_aload k6_28 (q := 30) rfl rfl ?_
  refine d_new k6_30 (q := 33) (a := h.2.1) rfl hF.1 rfl ?_
  refine e_dup k6_33 (q := 34) rfl rfl ?_
  refine e_iload k6_34 (q := 35) rfl rfl ?_
  refine e_iload k6_35 (q := 36) rfl rfl ?_
  refine e_iload k6_36 (q := 38) rfl rfl ?_
  refine e_iload k6_38 (q := 40) rfl rfl ?_
  refine e_ci k6_40 (q := 43) (as := [_, _, _, _]) rfl rfl (Nat.le_of_ble_eq_true rfl) (m_wishInit hF.1 (z_al_self _ _ _ rfl) o b s u) rfl (z_kv fun h40 p40 => ?_)
  obtain ⟨h1, rfl, q1, q2, q3⟩ := p40
  refine d_put k6_43 (q := 46) (fs' := [va_rf po, .int (z_bi sf), .ref (dm i + 1), .int (nI na), .ref (dm i + 2), .int (nI ne), .ref (dm i + 3), .int (nI nt), va_rf lo, va_rf ko, va_rf (some h.2.1)]) rfl h52 ((q2 _ (by omega)).trans ((z_al_ne _ _ _ (by omega)).trans hc.1)) (z_fitq (some h.2.1)) rfl ?_
  refine e_const k6_46 (q := 47) rfl ?_
  refine e_iret k6_47 (by first | exact Or.inl rfl | exact Or.inr rfl | assumption) ?_
  refine ⟨_, _, rfl, rfl, _, rfl, hc.up (fun b hb => ?_), ?_, z_ch2.one (n := 4) hlt (by decide) q2 q3⟩
  · rw [q2 b (by omega), z_al_ne _ _ _ (by omega)]
  · rw [z_st_ne _ _ (by omega)]
    exact q1
theorem m_keyM0 {d : Nat} {h : zH} {ρ : Nat → Nat → Option Nat} {σ : Nat → Nat → Int32} {nD : Nat} (h0 : σ 18 0 = nI nD) {p x y : Int32} (hr : z_nb nD p ∨ x < 2 ∨ ¬ 1 ≤ y) : z_M (d + 2) 77 [.ref 18, .int p, .int x, .int y] (z_G h σ ρ) (z_qi fun r h' => r = 0 ∧ h' = z_G h σ ρ) := by
  refine z_M.of ⟨Nat.le_of_ble_eq_true rfl, by simp [Value.category]⟩ (L := [some (.ref 18), some (.int p), some (.int x), some (.int y)]) rfl ?_
  by_cases hb : z_nb nD p
  · refine e_aload k77_0 (q := 1) rfl rfl ?_
    refine e_iload k77_1 (q := 2) rfl rfl ?_
    refine g_cv k77_2 (q := 5) (as := [_]) rfl rfl rfl rfl (m_noneB h0 hb) rfl (z_ki fun x2 h2 p2 => ?_)
    obtain ⟨rfl, rfl⟩ := p2
    refine e_if k77_5 (q := 8) rfl (fun c5 => ?_) (fun c5 => absurd (by decide) c5)
    refine e_const k77_18 (q := 19) rfl ?_
    refine e_iret k77_19 (by first | exact Or.inl rfl | exact Or.inr rfl | assumption) ?_
    exact ⟨_, _, rfl, rfl, rfl⟩
  · refine e_aload k77_0 (q := 1) rfl rfl ?_
    refine e_iload k77_1 (q := 2) rfl rfl ?_
    refine g_cv k77_2 (q := 5) (as := [_]) rfl rfl rfl rfl (m_noneG h0 hb) rfl (z_ki fun x2 h2 p2 => ?_)
    obtain ⟨rfl, rfl⟩ := p2
    refine e_if k77_5 (q := 8) rfl (fun c5 => absurd c5 (fun z => z rfl)) (fun c5 => ?_)
    refine e_iload k77_8 (q := 9) rfl rfl ?_
    refine e_const k77_9 (q := 10) rfl ?_
    refine e_ic k77_10 (q := 13) rfl (fun c10 => ?_) (fun c10 => ?_)
    · refine e_const k77_18 (q := 19) rfl ?_
      refine e_iret k77_19 (by first | exact Or.inl rfl | exact Or.inr rfl | assumption) ?_
      exact ⟨_, _, rfl, rfl, rfl⟩
    · refine e_iload k77_13 (q := 14) rfl rfl ?_
      refine e_const k77_14 (q := 15) rfl ?_
      refine e_ic k77_15 (q := 18) rfl (fun c15 => ?_) (fun c15 => ?_)
      · exact absurd c15 ((hr.resolve_left hb).resolve_left c10)
      · refine e_const k77_18 (q := 19) rfl ?_
        refine e_iret k77_19 (by first | exact Or.inl rfl | exact Or.inr rfl | assumption) ?_
        exact ⟨_, _, rfl, rfl, rfl⟩
theorem m_keyM1 {d : Nat} {h : zH} {ρ : Nat → Nat → Option Nat} {σ : Nat → Nat → Int32} {nD i : Nat} (h0 : σ 18 0 = nI nD) (hn : nD ≤ 12) (hi : i < nD) {x y : Int32} (hx : ¬ x < 2) (hy : 1 ≤ y) : z_M (d + 2) 77 [.ref 18, .int (nI i), .int x, .int y] (z_G h σ ρ) (z_qi fun r h' => r = 1 ∧ h' = z_G h (z_us (z_us σ 25 (upd (σ 25) i x)) 26 (upd (σ 26) i y)) ρ) := by
  refine z_M.of ⟨Nat.le_of_ble_eq_true rfl, by simp [Value.category]⟩ (L := [some (.ref 18), some (.int (nI i)), some (.int x), some (.int y)]) rfl ?_
  have hin : vp_in (nI i) 12 := vp_in_nI (by omega) (by decide)
  have hcl : (nI i).toNatClampNeg = i := nI_clamp (by omega)
  refine e_aload k77_0 (q := 1) rfl rfl ?_
  refine e_iload k77_1 (q := 2) rfl rfl ?_
  refine g_cv k77_2 (q := 5) (as := [_]) rfl rfl rfl rfl (m_noneG h0 (z_nb_no hn hi)) rfl (z_ki fun x2 h2 p2 => ?_)
  obtain ⟨rfl, rfl⟩ := p2
  refine e_if k77_5 (q := 8) rfl (fun c5 => absurd c5 (fun z => z rfl)) (fun c5 => ?_)
  refine e_iload k77_8 (q := 9) rfl rfl ?_
  refine e_const k77_9 (q := 10) rfl ?_
  refine e_ic k77_10 (q := 13) rfl (fun c10 => absurd c10 hx) (fun c10 => ?_)
  refine e_iload k77_13 (q := 14) rfl rfl ?_
  refine e_const k77_14 (q := 15) rfl ?_
  refine e_ic k77_15 (q := 18) rfl (fun c15 => ?_) (fun c15 => absurd hy c15)
  refine e_aload k77_20 (q := 21) rfl rfl ?_
  refine g_get k77_21 (q := 24) rfl rfl rfl ?_
  refine e_iload k77_24 (q := 25) rfl rfl ?_
  refine e_iload k77_25 (q := 26) rfl rfl ?_
  refine g_aast k77_26 (q := 27) rfl (fun _ => rfl) (by assumption) ?_
  refine e_aload k77_27 (q := 28) rfl rfl ?_
  refine g_get k77_28 (q := 31) rfl rfl rfl ?_
  refine e_iload k77_31 (q := 32) rfl rfl ?_
  refine e_iload k77_32 (q := 33) rfl rfl ?_
  refine g_aast k77_33 (q := 34) rfl (fun _ => rfl) (by assumption) ?_
  refine e_const k77_34 (q := 35) rfl ?_
  refine e_iret k77_35 (by first | exact Or.inl rfl | exact Or.inr rfl | assumption) ?_
  refine ⟨_, _, rfl, rfl, congrArg (fun z => z_G h z ρ) ?_⟩
  rw [hcl]
  rfl
theorem m_wishM0 {d : Nat} {h : zH} {ρ : Nat → Nat → Option Nat} {σ : Nat → Nat → Int32} {nD : Nat} (h0 : σ 18 0 = nI nD) {p o b : Int32} (s g : Bool) (hr : z_nb nD p ∨ (o < 0 ∨ 2 < o) ∨ (b < 0 ∨ 2 < b)) : z_M (d + 2) 78 [.ref 18, .int p, .int o, .int b, .int (z_bi s), .int (z_bi g)] (z_G h σ ρ) (z_qi fun r h' => r = 0 ∧ h' = z_G h σ ρ) := by
  refine z_M.of ⟨Nat.le_of_ble_eq_true rfl, by simp [Value.category]⟩ (L := [some (.ref 18), some (.int p), some (.int o), some (.int b), some (.int (z_bi s)), some (.int (z_bi g))]) rfl ?_
  by_cases hb : z_nb nD p
  · refine e_aload k78_0 (q := 1) rfl rfl ?_
    refine e_iload k78_1 (q := 2) rfl rfl ?_
    refine g_cv k78_2 (q := 5) (as := [_]) rfl rfl rfl rfl (m_noneB h0 hb) rfl (z_ki fun x2 h2 p2 => ?_)
    obtain ⟨rfl, rfl⟩ := p2
    refine e_if k78_5 (q := 8) rfl (fun c5 => ?_) (fun c5 => absurd (by decide) c5)
    refine e_const k78_26 (q := 27) rfl ?_
    refine e_iret k78_27 (by first | exact Or.inl rfl | exact Or.inr rfl | assumption) ?_
    exact ⟨_, _, rfl, rfl, rfl⟩
  · refine e_aload k78_0 (q := 1) rfl rfl ?_
    refine e_iload k78_1 (q := 2) rfl rfl ?_
    refine g_cv k78_2 (q := 5) (as := [_]) rfl rfl rfl rfl (m_noneG h0 hb) rfl (z_ki fun x2 h2 p2 => ?_)
    obtain ⟨rfl, rfl⟩ := p2
    refine e_if k78_5 (q := 8) rfl (fun c5 => absurd c5 (fun z => z rfl)) (fun c5 => ?_)
    refine e_iload k78_8 (q := 9) rfl rfl ?_
    refine e_if k78_9 (q := 12) rfl (fun c9 => ?_) (fun c9 => ?_)
    · refine e_const k78_26 (q := 27) rfl ?_
      refine e_iret k78_27 (by first | exact Or.inl rfl | exact Or.inr rfl | assumption) ?_
      exact ⟨_, _, rfl, rfl, rfl⟩
    · refine e_iload k78_12 (q := 13) rfl rfl ?_
      refine e_const k78_13 (q := 14) rfl ?_
      refine e_ic k78_14 (q := 17) rfl (fun c14 => ?_) (fun c14 => ?_)
      · refine e_const k78_26 (q := 27) rfl ?_
        refine e_iret k78_27 (by first | exact Or.inl rfl | exact Or.inr rfl | assumption) ?_
        exact ⟨_, _, rfl, rfl, rfl⟩
      · refine e_iload k78_17 (q := 18) rfl rfl ?_
        refine e_if k78_18 (q := 21) rfl (fun c18 => ?_) (fun c18 => ?_)
        · refine e_const k78_26 (q := 27) rfl ?_
          refine e_iret k78_27 (by first | exact Or.inl rfl | exact Or.inr rfl | assumption) ?_
          exact ⟨_, _, rfl, rfl, rfl⟩
        · refine e_iload k78_21 (q := 22) rfl rfl ?_
          refine e_const k78_22 (q := 23) rfl ?_
          refine e_ic k78_23 (q := 26) rfl (fun c23 => ?_) (fun c23 => ?_)
          · exact absurd (hr.resolve_left hb) (by
              rintro ((z | z) | (z | z))
              · exact c9 z
              · exact c14 z
              · exact c18 z
              · exact Int32.not_le.mpr z c23)
          · refine e_const k78_26 (q := 27) rfl ?_
            refine e_iret k78_27 (by first | exact Or.inl rfl | exact Or.inr rfl | assumption) ?_
            exact ⟨_, _, rfl, rfl, rfl⟩
theorem m_wishM1 {d : Nat} {h : zH} {ρ : Nat → Nat → Option Nat} {σ : Nat → Nat → Int32} {nD i : Nat} (h0 : σ 18 0 = nI nD) (hn : nD ≤ 12) (hi : i < nD) {o b : Int32} (s g : Bool) (hx : ¬ (o < 0 ∨ 2 < o)) (hy : ¬ (b < 0 ∨ 2 < b)) : z_M (d + 2) 78 [.ref 18, .int (nI i), .int o, .int b, .int (z_bi s), .int (z_bi g)] (z_G h σ ρ) (z_qi fun r h' => r = 1 ∧ h' = z_G h (z_us (z_us (z_us (z_us σ 27 (upd (σ 27) i o)) 28 (upd (σ 28) i b)) 29 (upd (σ 29) i (z_bi s))) 30 (upd (σ 30) i (z_bi g))) ρ) := by
  refine z_M.of ⟨Nat.le_of_ble_eq_true rfl, by simp [Value.category]⟩ (L := [some (.ref 18), some (.int (nI i)), some (.int o), some (.int b), some (.int (z_bi s)), some (.int (z_bi g))]) rfl ?_
  have hin : vp_in (nI i) 12 := vp_in_nI (by omega) (by decide)
  have hcl : (nI i).toNatClampNeg = i := nI_clamp (by omega)
  refine e_aload k78_0 (q := 1) rfl rfl ?_
  refine e_iload k78_1 (q := 2) rfl rfl ?_
  refine g_cv k78_2 (q := 5) (as := [_]) rfl rfl rfl rfl (m_noneG h0 (z_nb_no hn hi)) rfl (z_ki fun x2 h2 p2 => ?_)
  obtain ⟨rfl, rfl⟩ := p2
  refine e_if k78_5 (q := 8) rfl (fun c5 => absurd c5 (fun z => z rfl)) (fun c5 => ?_)
  refine e_iload k78_8 (q := 9) rfl rfl ?_
  refine e_if k78_9 (q := 12) rfl (fun c9 => absurd c9 (fun z => hx (Or.inl z))) (fun c9 => ?_)
  refine e_iload k78_12 (q := 13) rfl rfl ?_
  refine e_const k78_13 (q := 14) rfl ?_
  refine e_ic k78_14 (q := 17) rfl (fun c14 => absurd c14 (fun z => hx (Or.inr z))) (fun c14 => ?_)
  refine e_iload k78_17 (q := 18) rfl rfl ?_
  refine e_if k78_18 (q := 21) rfl (fun c18 => absurd c18 (fun z => hy (Or.inl z))) (fun c18 => ?_)
  refine e_iload k78_21 (q := 22) rfl rfl ?_
  refine e_const k78_22 (q := 23) rfl ?_
  refine e_ic k78_23 (q := 26) rfl (fun c23 => ?_) (fun c23 => absurd (Int32.not_lt.mp (fun z => hy (Or.inr z))) c23)
  refine e_aload k78_28 (q := 29) rfl rfl ?_
  refine g_get k78_29 (q := 32) rfl rfl rfl ?_
  refine e_iload k78_32 (q := 33) rfl rfl ?_
  refine e_iload k78_33 (q := 34) rfl rfl ?_
  refine g_aast k78_34 (q := 35) rfl (fun _ => rfl) (by assumption) ?_
  refine e_aload k78_35 (q := 36) rfl rfl ?_
  refine g_get k78_36 (q := 39) rfl rfl rfl ?_
  refine e_iload k78_39 (q := 40) rfl rfl ?_
  refine e_iload k78_40 (q := 41) rfl rfl ?_
  refine g_aast k78_41 (q := 42) rfl (fun _ => rfl) (by assumption) ?_
  refine e_aload k78_42 (q := 43) rfl rfl ?_
  refine g_get k78_43 (q := 46) rfl rfl rfl ?_
  refine e_iload k78_46 (q := 47) rfl rfl ?_
  refine e_iload k78_47 (q := 49) rfl rfl ?_
  refine g_aast k78_49 (q := 50) rfl (fun _ => rfl) (by assumption) ?_
  refine e_aload k78_50 (q := 51) rfl rfl ?_
  refine g_get k78_51 (q := 54) rfl rfl rfl ?_
  refine e_iload k78_54 (q := 55) rfl rfl ?_
  refine e_iload k78_55 (q := 57) rfl rfl ?_
  refine g_aast k78_57 (q := 58) rfl (fun _ => rfl) (by assumption) ?_
  refine e_const k78_58 (q := 59) rfl ?_
  refine e_iret k78_59 (by first | exact Or.inl rfl | exact Or.inr rfl | assumption) ?_
  refine ⟨_, _, rfl, rfl, congrArg (fun z => z_G h z ρ) ?_⟩
  rw [hcl, z_narb, z_narb]
  rfl
theorem s_key {d : Nat} {X : zE} {h : zH} {σ : Nat → Nat → Int32} {ρ : Nat → Nat → Option Nat} (hI : z_I X h σ ρ) (p x y : Int32) : z_M (d + 2) 5 [.ref 1, .int p, .int x, .int y] (z_G h σ ρ) (z_qi fun r h' => z_mid X h' ∧ z_M (d + 2) 77 [.ref 18, .int p, .int x, .int y] h' (z_ok X h r)) := by
  obtain ⟨nD, dm, ns, hC, hD, hS, hT, hF⟩ := hI
  have hn := hC.1
  by_cases hb : z_nb nD p ∨ x < 2 ∨ ¬ 1 ≤ y
  · refine (m_key0 hC hD hb).mono ?_
    rintro r ⟨x, h', rfl, rfl, rfl⟩
    refine ⟨_, _, rfl, z_mid.of hF.2.1, (m_keyM0 hC.2.2.1 hb).mono ?_⟩
    rintro r ⟨x, h', rfl, rfl, rfl⟩
    exact z_ok.same ⟨nD, dm, ns, hC, hD, hS, hT, hF⟩
  · obtain ⟨i, hi, rfl⟩ := (z_nb_or hn p).resolve_left (fun z => hb (Or.inl z))
    have hx : ¬ x < 2 := fun z => hb (Or.inr (Or.inl z))
    have hy : 1 ≤ y := Classical.not_not.mp (fun z => hb (Or.inr (Or.inr z)))
    obtain ⟨h52, po, sf, na, ne, nm, lo, ko, wo, f, g, tt, c1, c2, c3, c4, c5, c6, c7, c8, c9⟩ := (hD.1 i hi).2
    refine (m_key1 hC hD hi h52 c1 hF hx hy).mono ?_
    rintro r ⟨_, h', rfl, rfl, h1, rfl, w1, w3, w2⟩
    refine ⟨_, _, rfl, z_mid.of (w2.x0 h52 hF), (m_keyM1 (σ := σ) hC.2.2.1 hn hi hx hy).mono ?_⟩
    rintro r ⟨_, h', rfl, rfl, rfl⟩
    refine ⟨_, _, rfl, rfl, h1, _, ρ, rfl, ?_, w2.2.1, w2.2.2.1⟩
    have hkp := w2.kp hF.2.2 c1
    have e0 : ∀ r, r ≠ 25 → r ≠ 26 → z_us (z_us σ 25 (upd (σ 25) i x)) 26 (upd (σ 26) i y) r = σ r := fun r a b => by rw [z_us_ne _ _ b, z_us_ne _ _ a]
    have e2 : z_us (z_us σ 25 (upd (σ 25) i x)) 26 (upd (σ 26) i y) 26 = upd (σ 26) i y := z_us_eq _ _ _
    have e1 : z_us (z_us σ 25 (upd (σ 25) i x)) 26 (upd (σ 26) i y) 25 = upd (σ 25) i x := by rw [z_us_ne _ _ (by decide), z_us_eq]
    have hx0 : ¬ x < 0 := fun z => hx (Int32.lt_trans z (by decide))
    have hy0 : ¬ y < 0 := fun z => Int32.not_le.mpr (Int32.lt_trans z (by decide)) hy
    obtain ⟨Mx, hMx, rfl⟩ := nI_of hx0
    obtain ⟨Ey, hEy, rfl⟩ := nI_of hy0
    have hM2 : 2 ≤ Mx := by
      rcases Nat.lt_or_ge Mx 2 with z | z
      · exact absurd (nI_lt (b := 2) z (by decide)) hx
      · exact z
    refine z_I.up hC hD hS hT hF hi w2 ⟨h52, po, sf, na, ne, nm, lo, some h.2.1, wo, f, g, tt, by rw [e0 33 (by decide) (by decide)]; exact w1, by rw [e0 20 (by decide) (by decide)]; exact c2, c3.fr (nD := nD) (by omega) (fun _ _ => rfl) (by rw [e0 19 (by decide) (by decide)]), c4.fr (by rw [e0 21 (by decide) (by decide)]) (fun k hk => by rw [e0 22 (by decide) (by decide)]), c5.fr (Nat.le_refl _) (fun _ _ => rfl) (by rw [e0 23 (by decide) (by decide)]) (fun k hk => by rw [e0 24 (by decide) (by decide)]), c6.fr (Nat.le_refl _) (fun _ _ => rfl) hkp (by rw [e0 31 (by decide) (by decide)]) (fun r a b j hj => by rw [e0 r (by omega) (by omega)]), c7.fr c6.2.1 (Nat.le_refl _) (fun _ _ => rfl) (fun r a b j hj => by rw [e0 r (by omega) (by omega)]), Or.inr ⟨h.2.1, Mx, Ey, rfl, hF.1, w3, hM2, hMx, hEy, by rw [e1]; exact pk_us, by rw [e2]; exact pk_us⟩, c9.fr hkp (fun r a b => by rw [e0 r (by omega) (by omega)])⟩ (fun r hr => e0 r (by omega) (by omega)) (fun j hj => ⟨fun r a b u v => ?_, fun k hk => ⟨by rw [e0 22 (by decide) (by decide)], by rw [e0 24 (by decide) (by decide)]⟩, fun r a b k hk => by rw [e0 r (by omega) (by omega)]⟩)
    by_cases e : r = 25
    · subst e; rw [e1]; exact pk_un hj
    · by_cases e' : r = 26
      · subst e'; rw [e2]; exact pk_un hj
      · rw [e0 r e e']
theorem s_wish {d : Nat} {X : zE} {h : zH} {σ : Nat → Nat → Int32} {ρ : Nat → Nat → Option Nat} (hI : z_I X h σ ρ) (p x y : Int32) (s t : Bool) : z_M (d + 2) 6 [.ref 1, .int p, .int x, .int y, .int (z_bi s), .int (z_bi t)] (z_G h σ ρ) (z_qi fun r h' => z_mid X h' ∧ z_M (d + 2) 78 [.ref 18, .int p, .int x, .int y, .int (z_bi s), .int (z_bi t)] h' (z_ok X h r)) := by
  obtain ⟨nD, dm, ns, hC, hD, hS, hT, hF⟩ := hI
  have hn := hC.1
  by_cases hb : z_nb nD p ∨ (x < 0 ∨ 2 < x) ∨ (y < 0 ∨ 2 < y)
  · refine (m_wish0 hC hD s t hb).mono ?_
    rintro r ⟨x, h', rfl, rfl, rfl⟩
    refine ⟨_, _, rfl, z_mid.of hF.2.1, (m_wishM0 hC.2.2.1 s t hb).mono ?_⟩
    rintro r ⟨x, h', rfl, rfl, rfl⟩
    exact z_ok.same ⟨nD, dm, ns, hC, hD, hS, hT, hF⟩
  · obtain ⟨i, hi, rfl⟩ := (z_nb_or hn p).resolve_left (fun z => hb (Or.inl z))
    have hx : ¬ (x < 0 ∨ 2 < x) := fun z => hb (Or.inr (Or.inl z))
    have hy : ¬ (y < 0 ∨ 2 < y) := fun z => hb (Or.inr (Or.inr z))
    obtain ⟨h52, po, sf, na, ne, nm, lo, ko, wo, f, g, tt, c1, c2, c3, c4, c5, c6, c7, c8, c9⟩ := (hD.1 i hi).2
    refine (m_wish1 hC hD hi h52 c1 hF s t hx hy).mono ?_
    rintro r ⟨_, h', rfl, rfl, h1, rfl, w1, w3, w2⟩
    refine ⟨_, _, rfl, z_mid.of (w2.x0 h52 hF), (m_wishM1 (σ := σ) hC.2.2.1 hn hi s t hx hy).mono ?_⟩
    rintro r ⟨_, h', rfl, rfl, rfl⟩
    refine ⟨_, _, rfl, rfl, h1, _, ρ, rfl, ?_, w2.2.1, w2.2.2.1⟩
    have hkp := w2.kp hF.2.2 c1
    obtain ⟨Mx, hMx, rfl⟩ := nI_of2 (M := 2) (n := 2) rfl (fun z => hx (Or.inl z)) (Int32.not_lt.mp (fun z => hx (Or.inr z)))
    obtain ⟨Ey, hEy, rfl⟩ := nI_of2 (M := 2) (n := 2) rfl (fun z => hy (Or.inl z)) (Int32.not_lt.mp (fun z => hy (Or.inr z)))
    generalize hs : z_us (z_us (z_us (z_us σ 27 (upd (σ 27) i (nI Mx))) 28 (upd (σ 28) i (nI Ey))) 29 (upd (σ 29) i (z_bi s))) 30 (upd (σ 30) i (z_bi t)) = σ'
    have e0 : ∀ r, (r < 27 ∨ 30 < r) → σ' r = σ r := fun r a => by rw [← hs, z_us_ne _ _ (by omega), z_us_ne _ _ (by omega), z_us_ne _ _ (by omega), z_us_ne _ _ (by omega)]
    have e1 : σ' 27 = upd (σ 27) i (nI Mx) := by rw [← hs]; rfl
    have e2 : σ' 28 = upd (σ 28) i (nI Ey) := by rw [← hs]; rfl
    have e3 : σ' 29 = upd (σ 29) i (z_bi s) := by rw [← hs]; rfl
    have e4 : σ' 30 = upd (σ 30) i (z_bi t) := by rw [← hs]; rfl
    refine z_I.up hC hD hS hT hF hi w2 ⟨h52, po, sf, na, ne, nm, lo, ko, some h.2.1, f, g, tt, by rw [e0 33 (by omega)]; exact w1, by rw [e0 20 (by omega)]; exact c2, c3.fr (nD := nD) (by omega) (fun _ _ => rfl) (by rw [e0 19 (by omega)]), c4.fr (by rw [e0 21 (by omega)]) (fun k hk => by rw [e0 22 (by omega)]), c5.fr (Nat.le_refl _) (fun _ _ => rfl) (by rw [e0 23 (by omega)]) (fun k hk => by rw [e0 24 (by omega)]), c6.fr (Nat.le_refl _) (fun _ _ => rfl) hkp (by rw [e0 31 (by omega)]) (fun r a b j hj => by rw [e0 r (by omega)]), c7.fr c6.2.1 (Nat.le_refl _) (fun _ _ => rfl) (fun r a b j hj => by rw [e0 r (by omega)]), c8.fr hkp (by rw [e0 25 (by omega)]) (by rw [e0 26 (by omega)]), Or.inr ⟨h.2.1, Mx, Ey, s, t, rfl, hF.1, w3, hMx, hEy, by rw [e1]; exact pk_us, by rw [e2]; exact pk_us, by rw [e3]; exact pk_us, by rw [e4]; exact pk_us⟩⟩ (fun r hr => e0 r (by omega)) (fun j hj => ⟨fun r a b u v => ?_, fun k hk => ⟨by rw [e0 22 (by omega)], by rw [e0 24 (by omega)]⟩, fun r a b k hk => by rw [e0 r (by omega)]⟩)
    rcases (by omega : (r < 27 ∨ 30 < r) ∨ r = 27 ∨ r = 28 ∨ r = 29 ∨ r = 30) with e | rfl | rfl | rfl | rfl
    · rw [e0 r e]
    · rw [e1]; exact pk_un hj
    · rw [e2]; exact pk_un hj
    · rw [e3]; exact pk_un hj
    · rw [e4]; exact pk_un hj
