/-! Addresses and exchangers. -/
theorem z_ch2.two {h : zH} {a b : Nat} {x y : zE} (ha : a < h.2.1) (hb : b < h.2.1) (hab : a ≤ b) (hb4 : b < a + 4) : z_ch2 (z_st (z_st h b x) a y) h a := by
  refine ⟨Nat.le_refl _, Nat.le_add_right _ _, Nat.le_add_right _ _, fun c hc hx => ?_, fun hF c hc => ?_⟩
  · rw [z_st_ne _ _ (by omega), z_st_ne _ _ (by omega)]
  · have hc : h.2.1 ≤ c := hc
    rw [z_st_ne _ _ (by omega), z_st_ne _ _ (by omega)]
    exact hF c hc
theorem m_addAddress {d : Nat} {h : zH} {ρ : Nat → Nat → Option Nat} {σ : Nat → Nat → Int32} {na ne nt : Nat} {po lo ko wo : Option Nat} {sf : Bool} {f : Nat → Int32} {g tt : Nat → Option Nat} {a : Nat} (h52 : 52 ≤ a) (hc : z_dc h a po sf na ne nt lo ko wo f g tt) (hF : ∀ b, h.2.1 ≤ b → h.1 b = none) (hm : na ≤ 3) (x : Int32) : z_M (d + 1) 28 [.ref a, .int x] (z_G h σ ρ) (z_qi fun r h' => (na = 3 → r = 0 ∧ h' = z_G h σ ρ) ∧ (na < 3 → r = 1 ∧ ∃ h1, h' = z_G h1 σ ρ ∧ z_dc h1 a po sf (na + 1) ne nt lo ko wo (upd f na x) g tt ∧ z_ch2 h1 h a)) := by
  refine z_M.of ⟨Nat.le_of_ble_eq_true rfl, by simp [Value.category]⟩ (L := [some (.ref a), some (.int x)]) rfl ?_
  have hin : ∀ k, k < 3 → vp_in (nI k) 3 := fun k hk => vp_in_nI hk (by decide)
  refine e_aload k28_0 (q := 1) rfl rfl ?_
  refine d_get k28_1 (q := 4) rfl h52 hc.1 rfl ?_
  refine e_const k28_4 (q := 5) rfl ?_
  refine e_ic k28_5 (q := 8) rfl (fun c5 => ?_) (fun c5 => ?_)
  · have hlt : na < 3 := by
      have : ¬ na = 3 := fun z => c5 (by rw [z]; rfl)
      omega
    refine e_aload k28_10 (q := 11) rfl rfl ?_
    refine d_get k28_11 (q := 14) rfl h52 hc.1 rfl ?_
    refine e_aload k28_14 (q := 15) rfl rfl ?_
    refine d_get k28_15 (q := 18) rfl h52 hc.1 rfl ?_
    refine e_iload k28_18 (q := 19) rfl rfl ?_
    refine d_aast k28_19 (q := 20) rfl (by omega) hc.2.1 (hin _ hlt) ?_
    rw [nI_clamp (by omega)]
    refine e_aload k28_20 (q := 21) rfl rfl ?_
    refine e_dup k28_21 (q := 22) rfl rfl ?_
    refine d_get k28_22 (q := 25) rfl h52 ((z_st_ne _ _ (by omega)).trans hc.1) rfl ?_
    refine e_const k28_25 (q := 26) rfl ?_
    refine e_ib k28_26 (q := 27) rfl ?_
    refine d_put k28_27 (q := 30) (fs' := [_, _, _, _, _, _, _, _, _, _, _]) rfl h52 ((z_st_ne _ _ (by omega)).trans hc.1) ⟨_, rfl⟩ rfl ?_
    refine e_const k28_30 (q := 31) rfl ?_
    refine e_iret k28_31 (by first | exact Or.inl rfl | exact Or.inr rfl | assumption) ?_
    refine ⟨_, _, rfl, fun z => by omega, fun _ => ⟨rfl, _, rfl, ⟨?_, ?_, ?_, ?_⟩, z_ch2.two (z_lt hF hc.1) (z_lt hF hc.2.1) (by omega) (by omega)⟩⟩
    · rw [nI_1]; exact z_st_self _ _ _
    · rw [z_st_ne _ _ (by omega)]; exact z_st_self _ _ _
    · rw [z_st_ne _ _ (by omega), z_st_ne _ _ (by omega)]; exact hc.2.2.1
    · rw [z_st_ne _ _ (by omega), z_st_ne _ _ (by omega)]; exact hc.2.2.2
  · have heq : na = 3 := (nI_eq (by omega) (by decide)).mp (Classical.not_not.mp c5)
    refine e_const k28_8 (q := 9) rfl ?_
    refine e_iret k28_9 (by first | exact Or.inl rfl | exact Or.inr rfl | assumption) ?_
    exact ⟨_, _, rfl, fun _ => ⟨rfl, rfl⟩, fun z => by omega⟩
theorem m_addExchanger {d : Nat} {h : zH} {ρ : Nat → Nat → Option Nat} {σ : Nat → Nat → Int32} {na ne nt : Nat} {po lo ko wo : Option Nat} {sf : Bool} {f : Nat → Int32} {g tt : Nat → Option Nat} {a : Nat} (h52 : 52 ≤ a) (hc : z_dc h a po sf na ne nt lo ko wo f g tt) (hF : ∀ b, h.2.1 ≤ b → h.1 b = none) (hm : ne ≤ 3) {x : Nat} {fx : List Value} (hx : h.1 x = some (.inr (1, fx))) (hx52 : 52 ≤ x) : z_M (d + 1) 29 [.ref a, .ref x] (z_G h σ ρ) (z_qi fun r h' => (ne = 3 → r = 0 ∧ h' = z_G h σ ρ) ∧ (ne < 3 → r = 1 ∧ ∃ h1, h' = z_G h1 σ ρ ∧ z_dc h1 a po sf na (ne + 1) nt lo ko wo f (va_up g ne (some x)) tt ∧ z_ch2 h1 h a)) := by
  refine z_M.of ⟨Nat.le_of_ble_eq_true rfl, by simp [Value.category]⟩ (L := [some (.ref a), some (.ref x)]) rfl ?_
  have hin : ∀ k, k < 3 → vp_in (nI k) 3 := fun k hk => vp_in_nI hk (by decide)
  refine e_aload k29_0 (q := 1) rfl rfl ?_
  refine d_get k29_1 (q := 4) rfl h52 hc.1 rfl ?_
  refine e_const k29_4 (q := 5) rfl ?_
  refine e_ic k29_5 (q := 8) rfl (fun c5 => ?_) (fun c5 => ?_)
  · have hlt : ne < 3 := by
      have : ¬ ne = 3 := fun z => c5 (by rw [z]; rfl)
      omega
    refine e_aload k29_10 (q := 11) rfl rfl ?_
    refine d_get k29_11 (q := 14) rfl h52 hc.1 rfl ?_
    refine e_aload k29_14 (q := 15) rfl rfl ?_
    refine d_get k29_15 (q := 18) rfl h52 hc.1 rfl ?_
    refine e_aload k29_18 (q := 19) rfl rfl ?_
    refine d_rst k29_19 (q := 20) rfl (by omega) hc.2.2.1 ((z_G_dyn hx52).trans hx) (hin _ hlt) ?_
    rw [nI_clamp (by omega)]
    refine e_aload k29_20 (q := 21) rfl rfl ?_
    refine e_dup k29_21 (q := 22) rfl rfl ?_
    refine d_get k29_22 (q := 25) rfl h52 ((z_st_ne _ _ (by omega)).trans hc.1) rfl ?_
    refine e_const k29_25 (q := 26) rfl ?_
    refine e_ib k29_26 (q := 27) rfl ?_
    refine d_put k29_27 (q := 30) (fs' := [_, _, _, _, _, _, _, _, _, _, _]) rfl h52 ((z_st_ne _ _ (by omega)).trans hc.1) ⟨_, rfl⟩ rfl ?_
    refine e_const k29_30 (q := 31) rfl ?_
    refine e_iret k29_31 (by first | exact Or.inl rfl | exact Or.inr rfl | assumption) ?_
    refine ⟨_, _, rfl, fun z => by omega, fun _ => ⟨rfl, _, rfl, ⟨?_, ?_, ?_, ?_⟩, z_ch2.two (z_lt hF hc.1) (z_lt hF hc.2.2.1) (by omega) (by omega)⟩⟩
    · rw [nI_1]; exact z_st_self _ _ _
    · rw [z_st_ne _ _ (by omega), z_st_ne _ _ (by omega)]; exact hc.2.1
    · rw [z_st_ne _ _ (by omega)]; exact z_st_self _ _ _
    · rw [z_st_ne _ _ (by omega), z_st_ne _ _ (by omega)]; exact hc.2.2.2
  · have heq : ne = 3 := (nI_eq (by omega) (by decide)).mp (Classical.not_not.mp c5)
    refine e_const k29_8 (q := 9) rfl ?_
    refine e_iret k29_9 (by first | exact Or.inl rfl | exact Or.inr rfl | assumption) ?_
    exact ⟨_, _, rfl, fun _ => ⟨rfl, rfl⟩, fun z => by omega⟩
theorem m_address0 {d : Nat} {h : zH} {ρ : Nat → Nat → Option Nat} {σ : Nat → Nat → Int32} {nD : Nat} (h1 : σ 1 1 = nI nD) {x : Int32} (y : Int32) (hx : z_nb nD x) : z_M (d + 2) 2 [.ref 1, .int x, .int y] (z_G h σ ρ) (z_qi fun r h' => r = 0 ∧ h' = z_G h σ ρ) := by
  refine z_M.of ⟨Nat.le_of_ble_eq_true rfl, by simp [Value.category]⟩ (L := [some (.ref 1), some (.int x), some (.int y), none]) rfl ?_
  refine e_aload k2_0 (q := 1) rfl rfl ?_
  refine e_iload k2_1 (q := 2) rfl rfl ?_
  refine g_cv k2_2 (q := 5) (as := [_]) rfl rfl rfl rfl (m_numb0 h1 hx) rfl (z_kr fun x2 h2 p2 => ?_)
  obtain ⟨rfl, rfl⟩ := p2
  refine e_astq (a := none) k2_5 (q := 6) (L' := [_, _, _, _]) rfl rfl rfl ?_
  refine e_aloadq (a := none) k2_6 (q := 7) rfl rfl ?_
  refine e_nulN k2_7 ?_
  refine e_const k2_22 (q := 23) rfl ?_
  refine e_iret k2_23 (by first | exact Or.inl rfl | exact Or.inr rfl | assumption) ?_
  exact ⟨_, _, rfl, rfl, rfl⟩
theorem m_address1 {d : Nat} {h : zH} {ρ : Nat → Nat → Option Nat} {σ : Nat → Nat → Int32} {nD : Nat} {dm : Nat → Nat} {na ne nt : Nat} {po lo ko wo : Option Nat} {sf : Bool} {f : Nat → Int32} {g tt : Nat → Option Nat} {i : Nat} (hC : z_CC σ nD) (hD : z_DD h σ ρ nD dm) (hi : i < nD) (h52 : 52 ≤ dm i) (hc : z_dc h (dm i) po sf na ne nt lo ko wo f g tt) (hF : ∀ b, h.2.1 ≤ b → h.1 b = none) (hm : na ≤ 3) (x : Int32) : z_M (d + 2) 2 [.ref 1, .int (nI i), .int x] (z_G h σ ρ) (z_qi fun r h' => (na = 3 → r = 0 ∧ h' = z_G h σ ρ) ∧ (na < 3 → r = 1 ∧ ∃ h1, h' = z_G h1 σ ρ ∧ z_dc h1 (dm i) po sf (na + 1) ne nt lo ko wo (upd f na x) g tt ∧ z_ch2 h1 h (dm i))) := by
  refine z_M.of ⟨Nat.le_of_ble_eq_true rfl, by simp [Value.category]⟩ (L := [some (.ref 1), some (.int (nI i)), some (.int x), none]) rfl ?_
  refine e_aload k2_0 (q := 1) rfl rfl ?_
  refine e_iload k2_1 (q := 2) rfl rfl ?_
  refine g_cv k2_2 (q := 5) (as := [_]) rfl rfl rfl rfl (m_numb1 hC hD hi) rfl (z_kr fun x2 h2 p2 => ?_)
  obtain ⟨rfl, rfl⟩ := p2
  refine e_ast (a := dm i) k2_5 (q := 6) (L' := [_, _, _, _]) rfl rfl rfl ?_
  refine e_aload k2_6 (q := 7) rfl rfl ?_
  refine e_nulR k2_7 (q := 10) rfl ?_
  refine e_aload k2_10 (q := 11) rfl rfl ?_
  refine e_iload k2_11 (q := 12) rfl rfl ?_
  refine d_cv k2_12 (q := 15) (as := [_]) rfl rfl h52 hc.1 rfl (m_addAddress h52 hc hF hm x) rfl (z_ki fun x12 h12 p12 => ?_)
  have p := p12
  refine e_if k2_15 (q := 18) rfl (fun c15 => ?_) (fun c15 => ?_)
  · refine e_const k2_22 (q := 23) rfl ?_
    refine e_iret k2_23 (by first | exact Or.inl rfl | exact Or.inr rfl | assumption) ?_
    rcases Nat.lt_or_ge na 3 with z | z
    · exact absurd ((p.2 z).1.symm.trans c15) (by decide)
    · obtain ⟨-, rfl⟩ := p.1 (by omega)
      exact ⟨_, _, rfl, fun _ => ⟨rfl, rfl⟩, fun y => by omega⟩
  · refine e_const k2_18 (q := 19) rfl ?_
    refine e_goto k2_19 ?_
    refine e_iret k2_23 (by first | exact Or.inl rfl | exact Or.inr rfl | assumption) ?_
    rcases Nat.lt_or_ge na 3 with z | z
    · obtain ⟨-, h1, rfl, w⟩ := p.2 z
      exact ⟨_, _, rfl, fun y => by omega, fun _ => ⟨rfl, h1, rfl, w⟩⟩
    · exact absurd (p.1 (by omega)).1 c15
theorem m_exchanger0 {d : Nat} {h : zH} {ρ : Nat → Nat → Option Nat} {σ : Nat → Nat → Int32} {nD : Nat} {dm : Nat → Nat} (hC : z_CC σ nD) (hD : z_DD h σ ρ nD dm) {x y : Int32} (hx : z_nb nD x ∨ z_nb nD y) : z_M (d + 2) 3 [.ref 1, .int x, .int y] (z_G h σ ρ) (z_qi fun r h' => r = 0 ∧ h' = z_G h σ ρ) := by
  refine z_M.of ⟨Nat.le_of_ble_eq_true rfl, by simp [Value.category]⟩ (L := [some (.ref 1), some (.int x), some (.int y), none, none]) rfl ?_
  have hn := hC.1
  have main : ∀ q q' : Option Nat, (q = none ∨ q' = none) → z_E (d + 1) 3 13 [some (.ref 1), some (.int x), some (.int y), some (va_rf q), some (va_rf q')] [] (z_G h σ ρ) (z_qi fun r h' => r = 0 ∧ h' = z_G h σ ρ) := by
    intro q q' hq
    cases q with
    | none =>
      refine e_aloadq (a := none) k3_13 (q := 14) rfl rfl ?_
      refine e_nulN k3_14 ?_
      refine e_const k3_35 (q := 36) rfl ?_
      refine e_iret k3_36 (by first | exact Or.inl rfl | exact Or.inr rfl | assumption) ?_
      exact ⟨_, _, rfl, rfl, rfl⟩
    | some a =>
      obtain rfl : q' = none := by
        rcases hq with z | z
        · cases z
        · exact z
      refine e_aload (a := a) k3_13 (q := 14) rfl rfl ?_
      refine e_nulR k3_14 (q := 17) rfl ?_
      refine e_aloadq (a := none) k3_17 (q := 19) rfl rfl ?_
      refine e_nulN k3_19 ?_
      refine e_const k3_35 (q := 36) rfl ?_
      refine e_iret k3_36 (by first | exact Or.inl rfl | exact Or.inr rfl | assumption) ?_
      exact ⟨_, _, rfl, rfl, rfl⟩
  rcases z_nb_or hn x with hb | ⟨i, hi, rfl⟩
  · rcases z_nb_or hn y with hb' | ⟨j, hj, rfl⟩
    · refine e_aload k3_0 (q := 1) rfl rfl ?_
      refine e_iload k3_1 (q := 2) rfl rfl ?_
      refine g_cv k3_2 (q := 5) (as := [_]) rfl rfl rfl rfl (m_numb0 hC.2.1 hb) rfl (z_kr fun x2 h2 p2 => ?_)
      obtain ⟨rfl, rfl⟩ := p2
      refine e_astq (a := none) k3_5 (q := 6) (L' := [_, _, _, _, _]) rfl rfl rfl ?_
      refine e_aload k3_6 (q := 7) rfl rfl ?_
      refine e_iload k3_7 (q := 8) rfl rfl ?_
      refine g_cv k3_8 (q := 11) (as := [_]) rfl rfl rfl rfl (m_numb0 hC.2.1 hb') rfl (z_kr fun x8 h8 p8 => ?_)
      obtain ⟨rfl, rfl⟩ := p8
      refine e_astq (a := none) k3_11 (q := 13) (L' := [_, _, _, _, _]) rfl rfl rfl ?_
      exact main none none (Or.inl rfl)
    · refine e_aload k3_0 (q := 1) rfl rfl ?_
      refine e_iload k3_1 (q := 2) rfl rfl ?_
      refine g_cv k3_2 (q := 5) (as := [_]) rfl rfl rfl rfl (m_numb0 hC.2.1 hb) rfl (z_kr fun x2 h2 p2 => ?_)
      obtain ⟨rfl, rfl⟩ := p2
      refine e_astq (a := none) k3_5 (q := 6) (L' := [_, _, _, _, _]) rfl rfl rfl ?_
      refine e_aload k3_6 (q := 7) rfl rfl ?_
      refine e_iload k3_7 (q := 8) rfl rfl ?_
      refine g_cv k3_8 (q := 11) (as := [_]) rfl rfl rfl rfl (m_numb1 hC hD hj) rfl (z_kr fun x8 h8 p8 => ?_)
      obtain ⟨rfl, rfl⟩ := p8
      refine e_astq (a := (some (dm j))) k3_11 (q := 13) (L' := [_, _, _, _, _]) rfl rfl rfl ?_
      exact main none (some (dm j)) (Or.inl rfl)
  · rcases z_nb_or hn y with hb' | ⟨j, hj, rfl⟩
    · refine e_aload k3_0 (q := 1) rfl rfl ?_
      refine e_iload k3_1 (q := 2) rfl rfl ?_
      refine g_cv k3_2 (q := 5) (as := [_]) rfl rfl rfl rfl (m_numb1 hC hD hi) rfl (z_kr fun x2 h2 p2 => ?_)
      obtain ⟨rfl, rfl⟩ := p2
      refine e_astq (a := (some (dm i))) k3_5 (q := 6) (L' := [_, _, _, _, _]) rfl rfl rfl ?_
      refine e_aload k3_6 (q := 7) rfl rfl ?_
      refine e_iload k3_7 (q := 8) rfl rfl ?_
      refine g_cv k3_8 (q := 11) (as := [_]) rfl rfl rfl rfl (m_numb0 hC.2.1 hb') rfl (z_kr fun x8 h8 p8 => ?_)
      obtain ⟨rfl, rfl⟩ := p8
      refine e_astq (a := none) k3_11 (q := 13) (L' := [_, _, _, _, _]) rfl rfl rfl ?_
      exact main (some (dm i)) none (Or.inr rfl)
    · exact (hx.elim (z_nb_no hn hi) (z_nb_no hn hj)).elim
theorem m_exchanger1 {d : Nat} {h : zH} {ρ : Nat → Nat → Option Nat} {σ : Nat → Nat → Int32} {nD : Nat} {dm : Nat → Nat} {na ne nt : Nat} {po lo ko wo : Option Nat} {sf : Bool} {f : Nat → Int32} {g tt : Nat → Option Nat} {i e : Nat} (hC : z_CC σ nD) (hD : z_DD h σ ρ nD dm) (hi : i < nD) (hj : e < nD) (h52 : 52 ≤ dm i) (hc : z_dc h (dm i) po sf na ne nt lo ko wo f g tt) (hF : ∀ b, h.2.1 ≤ b → h.1 b = none) (hm : ne ≤ 3) : z_M (d + 2) 3 [.ref 1, .int (nI i), .int (nI e)] (z_G h σ ρ) (z_qi fun r h' => (ne = 3 → r = 0 ∧ h' = z_G h σ ρ) ∧ (ne < 3 → r = 1 ∧ ∃ h1, h' = z_G h1 σ ρ ∧ z_dc h1 (dm i) po sf na (ne + 1) nt lo ko wo f (va_up g ne (some (dm e))) tt ∧ z_ch2 h1 h (dm i))) := by
  refine z_M.of ⟨Nat.le_of_ble_eq_true rfl, by simp [Value.category]⟩ (L := [some (.ref 1), some (.int (nI i)), some (.int (nI e)), none, none]) rfl ?_
  obtain ⟨he52, po', sf', na', ne', nm', lo', ko', wo', f', g', tt', e1, -⟩ := (hD.1 e hj).2
  refine e_aload k3_0 (q := 1) rfl rfl ?_
  refine e_iload k3_1 (q := 2) rfl rfl ?_
  refine g_cv k3_2 (q := 5) (as := [_]) rfl rfl rfl rfl (m_numb1 hC hD hi) rfl (z_kr fun x2 h2 p2 => ?_)
  obtain ⟨rfl, rfl⟩ := p2
  refine e_ast (a := dm i) k3_5 (q := 6) (L' := [_, _, _, _, _]) rfl rfl rfl ?_
  refine e_aload k3_6 (q := 7) rfl rfl ?_
  refine e_iload k3_7 (q := 8) rfl rfl ?_
  refine g_cv k3_8 (q := 11) (as := [_]) rfl rfl rfl rfl (m_numb1 hC hD hj) rfl (z_kr fun x8 h8 p8 => ?_)
  obtain ⟨rfl, rfl⟩ := p8
  refine e_ast (a := dm e) k3_11 (q := 13) (L' := [_, _, _, _, _]) rfl rfl rfl ?_
  refine e_aload k3_13 (q := 14) rfl rfl ?_
  refine e_nulR k3_14 (q := 17) rfl ?_
  refine e_aload k3_17 (q := 19) rfl rfl ?_
  refine e_nulR k3_19 (q := 22) rfl ?_
  refine e_aload k3_22 (q := 23) rfl rfl ?_
  refine e_aload k3_23 (q := 25) rfl rfl ?_
  refine d_cv k3_25 (q := 28) (as := [_]) rfl rfl h52 hc.1 rfl (m_addExchanger h52 hc hF hm e1.1 he52) rfl (z_ki fun x25 h25 p25 => ?_)
  have p := p25
  refine e_if k3_28 (q := 31) rfl (fun c28 => ?_) (fun c28 => ?_)
  · refine e_const k3_35 (q := 36) rfl ?_
    refine e_iret k3_36 (by first | exact Or.inl rfl | exact Or.inr rfl | assumption) ?_
    rcases Nat.lt_or_ge ne 3 with z | z
    · exact absurd ((p.2 z).1.symm.trans c28) (by decide)
    · obtain ⟨-, rfl⟩ := p.1 (by omega)
      exact ⟨_, _, rfl, fun _ => ⟨rfl, rfl⟩, fun y => by omega⟩
  · refine e_const k3_31 (q := 32) rfl ?_
    refine e_goto k3_32 ?_
    refine e_iret k3_36 (by first | exact Or.inl rfl | exact Or.inr rfl | assumption) ?_
    rcases Nat.lt_or_ge ne 3 with z | z
    · obtain ⟨-, h1, rfl, w⟩ := p.2 z
      exact ⟨_, _, rfl, fun y => by omega, fun _ => ⟨rfl, h1, rfl, w⟩⟩
    · exact absurd (p.1 (by omega)).1 c28
theorem m_addressM0 {d : Nat} {h : zH} {ρ : Nat → Nat → Option Nat} {σ : Nat → Nat → Int32} {nD : Nat} (h0 : σ 18 0 = nI nD) (hn : nD ≤ 12) {x y : Int32} (hx : z_nb nD x) : z_M (d + 2) 73 [.ref 18, .int x, .int y] (z_G h σ ρ) (z_qi fun r h' => r = 0 ∧ h' = z_G h σ ρ) := by
  refine z_M.of ⟨Nat.le_of_ble_eq_true rfl, by simp [Value.category]⟩ (L := [some (.ref 18), some (.int x), some (.int y)]) rfl ?_
  refine e_aload k73_0 (q := 1) rfl rfl ?_
  refine e_iload k73_1 (q := 2) rfl rfl ?_
  refine g_cv k73_2 (q := 5) (as := [_]) rfl rfl rfl rfl (m_noneB h0 hx) rfl (z_ki fun x2 h2 p2 => ?_)
  obtain ⟨rfl, rfl⟩ := p2
  refine e_if k73_5 (q := 8) rfl (fun c5 => ?_) (fun c5 => absurd (by decide) c5)
  refine e_const k73_18 (q := 19) rfl ?_
  refine e_iret k73_19 (by first | exact Or.inl rfl | exact Or.inr rfl | assumption) ?_
  exact ⟨_, _, rfl, rfl, rfl⟩
theorem m_addressM1 {d : Nat} {h : zH} {ρ : Nat → Nat → Option Nat} {σ : Nat → Nat → Int32} {nD : Nat} {i m : Nat} (h0 : σ 18 0 = nI nD) (hn : nD ≤ 12) (hi : i < nD) (hm : σ 21 i = nI m) (hm3 : m ≤ 3) (y : Int32) : z_M (d + 2) 73 [.ref 18, .int (nI i), .int y] (z_G h σ ρ) (z_qi fun r h' => (m = 3 → r = 0 ∧ h' = z_G h σ ρ) ∧ (m < 3 → r = 1 ∧ h' = z_G h (z_us (z_us σ 22 (upd (σ 22) (3 * i + m) y)) 21 (upd (σ 21) i (nI (m + 1)))) ρ)) := by
  refine z_M.of ⟨Nat.le_of_ble_eq_true rfl, by simp [Value.category]⟩ (L := [some (.ref 18), some (.int (nI i)), some (.int y)]) rfl ?_
  have hin : vp_in (nI i) 12 := vp_in_nI (by omega) (by decide)
  have hcl : (nI i).toNatClampNeg = i := nI_clamp (by omega)
  have hg : ¬ z_nb nD (nI i) := z_nb_no hn hi
  have hix : (3 : Int32) * nI i + σ 21 i = nI (3 * i + m) := by rw [hm, show (3 : Int32) = nI 3 from rfl, z_nmul, nI_add]
  refine e_aload k73_0 (q := 1) rfl rfl ?_
  refine e_iload k73_1 (q := 2) rfl rfl ?_
  refine g_cv k73_2 (q := 5) (as := [_]) rfl rfl rfl rfl (m_noneG h0 hg) rfl (z_ki fun x2 h2 p2 => ?_)
  obtain ⟨rfl, rfl⟩ := p2
  refine e_if k73_5 (q := 8) rfl (fun c5 => absurd c5 (fun z => z rfl)) (fun c5 => ?_)
  refine e_aload k73_8 (q := 9) rfl rfl ?_
  refine g_get k73_9 (q := 12) rfl rfl rfl ?_
  refine e_iload k73_12 (q := 13) rfl rfl ?_
  refine g_ald k73_13 (q := 14) rfl rfl (by assumption) ?_
  rw [hcl]
  refine e_const k73_14 (q := 15) rfl ?_
  refine e_ic k73_15 (q := 18) rfl (fun c15 => ?_) (fun c15 => ?_)
  · have hlt : m < 3 := by
      have : ¬ m = 3 := fun z => c15 (by show σ 21 i = 3; rw [hm, z]; rfl)
      omega
    have hin2 : vp_in (nI (3 * i + m)) 36 := vp_in_nI (by omega) (by decide)
    refine e_aload k73_20 (q := 21) rfl rfl ?_
    refine g_get k73_21 (q := 24) rfl rfl rfl ?_
    refine e_const k73_24 (q := 25) rfl ?_
    refine e_iload k73_25 (q := 26) rfl rfl ?_
    refine e_ib k73_26 (q := 27) rfl ?_
    refine e_aload k73_27 (q := 28) rfl rfl ?_
    refine g_get k73_28 (q := 31) rfl rfl rfl ?_
    refine e_iload k73_31 (q := 32) rfl rfl ?_
    refine g_ald k73_32 (q := 33) rfl rfl (by assumption) ?_
    rw [hcl]
    refine e_ib k73_33 (q := 34) rfl ?_
    rw [show (3 : Int32) * nI i + σ 21 i = nI (3 * i + m) from hix]
    refine e_iload k73_34 (q := 35) rfl rfl ?_
    refine g_aast k73_35 (q := 36) rfl (fun _ => rfl) (by assumption) ?_
    rw [nI_clamp (by omega)]
    refine e_aload k73_36 (q := 37) rfl rfl ?_
    refine g_get k73_37 (q := 40) rfl rfl rfl ?_
    refine e_iload k73_40 (q := 41) rfl rfl ?_
    refine e_dup2 k73_41 (q := 42) rfl rfl rfl ?_
    refine g_ald k73_42 (q := 43) rfl rfl (by assumption) ?_
    rw [hcl]
    refine e_const k73_43 (q := 44) rfl ?_
    refine e_ib k73_44 (q := 45) rfl ?_
    refine g_aast k73_45 (q := 46) rfl (fun _ => rfl) (by assumption) ?_
    rw [hcl]
    refine e_const k73_46 (q := 47) rfl ?_
    refine e_iret k73_47 (by first | exact Or.inl rfl | exact Or.inr rfl | assumption) ?_
    refine ⟨_, _, rfl, fun z => by omega, fun _ => ⟨rfl, congrArg (fun z => z_G h z ρ) ?_⟩⟩
    rw [z_us_ne (a := 22) (k := 21) _ _ (by decide), hm, nI_1]
    rfl
  · have heq : m = 3 := (nI_eq (by omega) (by decide)).mp (by rw [← hm]; exact Classical.not_not.mp c15)
    refine e_const k73_18 (q := 19) rfl ?_
    refine e_iret k73_19 (by first | exact Or.inl rfl | exact Or.inr rfl | assumption) ?_
    exact ⟨_, _, rfl, fun _ => ⟨rfl, rfl⟩, fun z => by omega⟩
theorem m_exchangerM0 {d : Nat} {h : zH} {ρ : Nat → Nat → Option Nat} {σ : Nat → Nat → Int32} {nD : Nat} (h0 : σ 18 0 = nI nD) (hn : nD ≤ 12) {x y : Int32} (hx : z_nb nD x ∨ z_nb nD y) : z_M (d + 2) 74 [.ref 18, .int x, .int y] (z_G h σ ρ) (z_qi fun r h' => r = 0 ∧ h' = z_G h σ ρ) := by
  refine z_M.of ⟨Nat.le_of_ble_eq_true rfl, by simp [Value.category]⟩ (L := [some (.ref 18), some (.int x), some (.int y)]) rfl ?_
  by_cases hb : z_nb nD x
  · refine e_aload k74_0 (q := 1) rfl rfl ?_
    refine e_iload k74_1 (q := 2) rfl rfl ?_
    refine g_cv k74_2 (q := 5) (as := [_]) rfl rfl rfl rfl (m_noneB h0 hb) rfl (z_ki fun x2 h2 p2 => ?_)
    obtain ⟨rfl, rfl⟩ := p2
    refine e_if k74_5 (q := 8) rfl (fun c5 => ?_) (fun c5 => absurd (by decide) c5)
    refine e_const k74_26 (q := 27) rfl ?_
    refine e_iret k74_27 (by first | exact Or.inl rfl | exact Or.inr rfl | assumption) ?_
    exact ⟨_, _, rfl, rfl, rfl⟩
  · refine e_aload k74_0 (q := 1) rfl rfl ?_
    refine e_iload k74_1 (q := 2) rfl rfl ?_
    refine g_cv k74_2 (q := 5) (as := [_]) rfl rfl rfl rfl (m_noneG h0 hb) rfl (z_ki fun x2 h2 p2 => ?_)
    obtain ⟨rfl, rfl⟩ := p2
    refine e_if k74_5 (q := 8) rfl (fun c5 => absurd c5 (fun z => z rfl)) (fun c5 => ?_)
    refine e_aload k74_8 (q := 9) rfl rfl ?_
    refine e_iload k74_9 (q := 10) rfl rfl ?_
    refine g_cv k74_10 (q := 13) (as := [_]) rfl rfl rfl rfl (m_noneB h0 (hx.resolve_left hb)) rfl (z_ki fun x10 h10 p10 => ?_)
    obtain ⟨rfl, rfl⟩ := p10
    refine e_if k74_13 (q := 16) rfl (fun c13 => ?_) (fun c13 => absurd (by decide) c13)
    refine e_const k74_26 (q := 27) rfl ?_
    refine e_iret k74_27 (by first | exact Or.inl rfl | exact Or.inr rfl | assumption) ?_
    exact ⟨_, _, rfl, rfl, rfl⟩
theorem m_exchangerM1 {d : Nat} {h : zH} {ρ : Nat → Nat → Option Nat} {σ : Nat → Nat → Int32} {nD : Nat} {i m : Nat} (h0 : σ 18 0 = nI nD) (hn : nD ≤ 12) (hi : i < nD) (hm : σ 23 i = nI m) (hm3 : m ≤ 3) {y : Int32} (hy : ¬ z_nb nD y) : z_M (d + 2) 74 [.ref 18, .int (nI i), .int y] (z_G h σ ρ) (z_qi fun r h' => (m = 3 → r = 0 ∧ h' = z_G h σ ρ) ∧ (m < 3 → r = 1 ∧ h' = z_G h (z_us (z_us σ 24 (upd (σ 24) (3 * i + m) y)) 23 (upd (σ 23) i (nI (m + 1)))) ρ)) := by
  refine z_M.of ⟨Nat.le_of_ble_eq_true rfl, by simp [Value.category]⟩ (L := [some (.ref 18), some (.int (nI i)), some (.int y)]) rfl ?_
  have hin : vp_in (nI i) 12 := vp_in_nI (by omega) (by decide)
  have hcl : (nI i).toNatClampNeg = i := nI_clamp (by omega)
  have hg : ¬ z_nb nD (nI i) := z_nb_no hn hi
  have hix : (3 : Int32) * nI i + σ 23 i = nI (3 * i + m) := by rw [hm, show (3 : Int32) = nI 3 from rfl, z_nmul, nI_add]
  refine e_aload k74_0 (q := 1) rfl rfl ?_
  refine e_iload k74_1 (q := 2) rfl rfl ?_
  refine g_cv k74_2 (q := 5) (as := [_]) rfl rfl rfl rfl (m_noneG h0 hg) rfl (z_ki fun x2 h2 p2 => ?_)
  obtain ⟨rfl, rfl⟩ := p2
  refine e_if k74_5 (q := 8) rfl (fun c5 => absurd c5 (fun z => z rfl)) (fun c5 => ?_)
  refine e_aload k74_8 (q := 9) rfl rfl ?_
  refine e_iload k74_9 (q := 10) rfl rfl ?_
  refine g_cv k74_10 (q := 13) (as := [_]) rfl rfl rfl rfl (m_noneG h0 hy) rfl (z_ki fun x10 h10 p10 => ?_)
  obtain ⟨rfl, rfl⟩ := p10
  refine e_if k74_13 (q := 16) rfl (fun c13 => absurd c13 (fun z => z rfl)) (fun c13 => ?_)
  refine e_aload k74_16 (q := 17) rfl rfl ?_
  refine g_get k74_17 (q := 20) rfl rfl rfl ?_
  refine e_iload k74_20 (q := 21) rfl rfl ?_
  refine g_ald k74_21 (q := 22) rfl rfl (by assumption) ?_
  rw [hcl]
  refine e_const k74_22 (q := 23) rfl ?_
  refine e_ic k74_23 (q := 26) rfl (fun c23 => ?_) (fun c23 => ?_)
  · have hlt : m < 3 := by
      have : ¬ m = 3 := fun z => c23 (by show σ 23 i = 3; rw [hm, z]; rfl)
      omega
    have hin2 : vp_in (nI (3 * i + m)) 36 := vp_in_nI (by omega) (by decide)
    refine e_aload k74_28 (q := 29) rfl rfl ?_
    refine g_get k74_29 (q := 32) rfl rfl rfl ?_
    refine e_const k74_32 (q := 33) rfl ?_
    refine e_iload k74_33 (q := 34) rfl rfl ?_
    refine e_ib k74_34 (q := 35) rfl ?_
    refine e_aload k74_35 (q := 36) rfl rfl ?_
    refine g_get k74_36 (q := 39) rfl rfl rfl ?_
    refine e_iload k74_39 (q := 40) rfl rfl ?_
    refine g_ald k74_40 (q := 41) rfl rfl (by assumption) ?_
    rw [hcl]
    refine e_ib k74_41 (q := 42) rfl ?_
    rw [show (3 : Int32) * nI i + σ 23 i = nI (3 * i + m) from hix]
    refine e_iload k74_42 (q := 43) rfl rfl ?_
    refine g_aast k74_43 (q := 44) rfl (fun _ => rfl) (by assumption) ?_
    rw [nI_clamp (by omega)]
    refine e_aload k74_44 (q := 45) rfl rfl ?_
    refine g_get k74_45 (q := 48) rfl rfl rfl ?_
    refine e_iload k74_48 (q := 49) rfl rfl ?_
    refine e_dup2 k74_49 (q := 50) rfl rfl rfl ?_
    refine g_ald k74_50 (q := 51) rfl rfl (by assumption) ?_
    rw [hcl]
    refine e_const k74_51 (q := 52) rfl ?_
    refine e_ib k74_52 (q := 53) rfl ?_
    refine g_aast k74_53 (q := 54) rfl (fun _ => rfl) (by assumption) ?_
    rw [hcl]
    refine e_const k74_54 (q := 55) rfl ?_
    refine e_iret k74_55 (by first | exact Or.inl rfl | exact Or.inr rfl | assumption) ?_
    refine ⟨_, _, rfl, fun z => by omega, fun _ => ⟨rfl, congrArg (fun z => z_G h z ρ) ?_⟩⟩
    rw [z_us_ne (a := 24) (k := 23) _ _ (by decide), hm, nI_1]
    rfl
  · have heq : m = 3 := (nI_eq (by omega) (by decide)).mp (by rw [← hm]; exact Classical.not_not.mp c23)
    refine e_const k74_26 (q := 27) rfl ?_
    refine e_iret k74_27 (by first | exact Or.inl rfl | exact Or.inr rfl | assumption) ?_
    exact ⟨_, _, rfl, fun _ => ⟨rfl, rfl⟩, fun z => by omega⟩
theorem s_address {d : Nat} {X : zE} {h : zH} {σ : Nat → Nat → Int32} {ρ : Nat → Nat → Option Nat} (hI : z_I X h σ ρ) (x y : Int32) : z_M (d + 2) 2 [.ref 1, .int x, .int y] (z_G h σ ρ) (z_qi fun r h' => z_mid X h' ∧ z_M (d + 2) 73 [.ref 18, .int x, .int y] h' (z_ok X h r)) := by
  obtain ⟨nD, dm, ns, hC, hD, hS, hT, hF⟩ := hI
  have hn := hC.1
  rcases z_nb_or hn x with hb | ⟨i, hi, rfl⟩
  · refine (m_address0 hC.2.1 y hb).mono ?_
    rintro r ⟨x, h', rfl, rfl, rfl⟩
    refine ⟨_, _, rfl, z_mid.of hF.2.1, (m_addressM0 hC.2.2.1 hn hb).mono ?_⟩
    rintro r ⟨x, h', rfl, rfl, rfl⟩
    exact z_ok.same ⟨nD, dm, ns, hC, hD, hS, hT, hF⟩
  · obtain ⟨h52, po, sf, na, ne, nm, lo, ko, wo, f, g, tt, c1, c2, c3, c4, c5, c6, c7, c8, c9⟩ := (hD.1 i hi).2
    have hm := c4.2.1
    refine (m_address1 hC hD hi h52 c1 hF.2.2 hm y).mono ?_
    rintro r ⟨x, h', rfl, pa, pb⟩
    rcases Nat.lt_or_ge na 3 with z | z
    · obtain ⟨rfl, h1, rfl, w1, w2⟩ := pb z
      refine ⟨_, _, rfl, z_mid.of (w2.x0 h52 hF), (m_addressM1 (σ := σ) hC.2.2.1 hn hi c4.1 hm y).mono ?_⟩
      rintro r ⟨x, h', rfl, -, pc⟩
      obtain ⟨rfl, rfl⟩ := pc z
      refine ⟨_, _, rfl, rfl, h1, _, ρ, rfl, ?_, w2.2.1, w2.2.2.1⟩
      have hkp := w2.kp hF.2.2 c1
      have e0 : ∀ r, r ≠ 21 → r ≠ 22 → z_us (z_us σ 22 (upd (σ 22) (3 * i + na) y)) 21 (upd (σ 21) i (nI (na + 1))) r = σ r := fun r a b => by rw [z_us_ne _ _ a, z_us_ne _ _ b]
      have e1 : z_us (z_us σ 22 (upd (σ 22) (3 * i + na) y)) 21 (upd (σ 21) i (nI (na + 1))) 21 = upd (σ 21) i (nI (na + 1)) := z_us_eq _ _ _
      have e2 : z_us (z_us σ 22 (upd (σ 22) (3 * i + na) y)) 21 (upd (σ 21) i (nI (na + 1))) 22 = upd (σ 22) (3 * i + na) y := by rw [z_us_ne _ _ (by decide), z_us_eq]
      refine z_I.up hC hD hS hT hF hi w2 ⟨h52, po, sf, na + 1, ne, nm, lo, ko, wo, upd f na y, g, tt, by rw [e0 33 (by decide) (by decide)]; exact w1, by rw [e0 20 (by decide) (by decide)]; exact c2, c3.fr (nD := nD) (by omega) (fun _ _ => rfl) (by rw [e0 19 (by decide) (by decide)]), ⟨by rw [e1]; exact pk_us, by omega, fun k hk => ?_⟩, c5.fr (Nat.le_refl _) (fun _ _ => rfl) (by rw [e0 23 (by decide) (by decide)]) (fun k hk => by rw [e0 24 (by decide) (by decide)]), c6.fr (Nat.le_refl _) (fun _ _ => rfl) hkp (by rw [e0 31 (by decide) (by decide)]) (fun r a b j hj => by rw [e0 r (by omega) (by omega)]), c7.fr c6.2.1 (Nat.le_refl _) (fun _ _ => rfl) (fun r a b j hj => by rw [e0 r (by omega) (by omega)]), c8.fr hkp (by rw [e0 25 (by decide) (by decide)]) (by rw [e0 26 (by decide) (by decide)]), c9.fr hkp (fun r a b => by rw [e0 r (by omega) (by omega)])⟩ (fun r hr => e0 r (by omega) (by omega)) (fun j hj => ⟨fun r a b u v => ?_, fun k hk => ⟨?_, by rw [e0 24 (by decide) (by decide)]⟩, fun r a b k hk => by rw [e0 r (by omega) (by omega)]⟩)
      · rw [e2]
        by_cases e : k = na
        · subst e; rw [pk_us, pk_us]
        · rw [pk_un e, pk_un (by omega)]; exact c4.2.2 k (by omega)
      · by_cases e : r = 21
        · subst e; rw [e1]; exact pk_un hj
        · rw [e0 r e u]
      · rw [e2]; exact pk_un (by omega)
    · obtain ⟨rfl, rfl⟩ := pa (by omega)
      refine ⟨_, _, rfl, z_mid.of hF.2.1, (m_addressM1 hC.2.2.1 hn hi c4.1 hm y).mono ?_⟩
      rintro r ⟨x, h', rfl, pc, -⟩
      obtain ⟨rfl, rfl⟩ := pc (by omega)
      exact z_ok.same ⟨nD, dm, ns, hC, hD, hS, hT, hF⟩
theorem s_exchanger {d : Nat} {X : zE} {h : zH} {σ : Nat → Nat → Int32} {ρ : Nat → Nat → Option Nat} (hI : z_I X h σ ρ) (x y : Int32) : z_M (d + 2) 3 [.ref 1, .int x, .int y] (z_G h σ ρ) (z_qi fun r h' => z_mid X h' ∧ z_M (d + 2) 74 [.ref 18, .int x, .int y] h' (z_ok X h r)) := by
  obtain ⟨nD, dm, ns, hC, hD, hS, hT, hF⟩ := hI
  have hn := hC.1
  by_cases hb : z_nb nD x ∨ z_nb nD y
  · refine (m_exchanger0 hC hD hb).mono ?_
    rintro r ⟨x, h', rfl, rfl, rfl⟩
    refine ⟨_, _, rfl, z_mid.of hF.2.1, (m_exchangerM0 hC.2.2.1 hn hb).mono ?_⟩
    rintro r ⟨x, h', rfl, rfl, rfl⟩
    exact z_ok.same ⟨nD, dm, ns, hC, hD, hS, hT, hF⟩
  · obtain ⟨i, hi, rfl⟩ := (z_nb_or hn x).resolve_left (fun z => hb (Or.inl z))
    obtain ⟨v, hv, rfl⟩ := (z_nb_or hn y).resolve_left (fun z => hb (Or.inr z))
    obtain ⟨h52, po, sf, na, ne, nm, lo, ko, wo, f, g, tt, c1, c2, c3, c4, c5, c6, c7, c8, c9⟩ := (hD.1 i hi).2
    have hm := c5.2.1
    refine (m_exchanger1 hC hD hi hv h52 c1 hF.2.2 hm).mono ?_
    rintro r ⟨x, h', rfl, pa, pb⟩
    rcases Nat.lt_or_ge ne 3 with z | z
    · obtain ⟨rfl, h1, rfl, w1, w2⟩ := pb z
      refine ⟨_, _, rfl, z_mid.of (w2.x0 h52 hF), (m_exchangerM1 (σ := σ) hC.2.2.1 hn hi c5.1 hm (z_nb_no hn hv)).mono ?_⟩
      rintro r ⟨x, h', rfl, -, pc⟩
      obtain ⟨rfl, rfl⟩ := pc z
      refine ⟨_, _, rfl, rfl, h1, _, ρ, rfl, ?_, w2.2.1, w2.2.2.1⟩
      have hkp := w2.kp hF.2.2 c1
      have e0 : ∀ r, r ≠ 23 → r ≠ 24 → z_us (z_us σ 24 (upd (σ 24) (3 * i + ne) (nI v))) 23 (upd (σ 23) i (nI (ne + 1))) r = σ r := fun r a b => by rw [z_us_ne _ _ a, z_us_ne _ _ b]
      have e1 : z_us (z_us σ 24 (upd (σ 24) (3 * i + ne) (nI v))) 23 (upd (σ 23) i (nI (ne + 1))) 23 = upd (σ 23) i (nI (ne + 1)) := z_us_eq _ _ _
      have e2 : z_us (z_us σ 24 (upd (σ 24) (3 * i + ne) (nI v))) 23 (upd (σ 23) i (nI (ne + 1))) 24 = upd (σ 24) (3 * i + ne) (nI v) := by rw [z_us_ne _ _ (by decide), z_us_eq]
      refine z_I.up hC hD hS hT hF hi w2 ⟨h52, po, sf, na, ne + 1, nm, lo, ko, wo, f, va_up g ne (some (dm v)), tt, by rw [e0 33 (by decide) (by decide)]; exact w1, by rw [e0 20 (by decide) (by decide)]; exact c2, c3.fr (nD := nD) (by omega) (fun _ _ => rfl) (by rw [e0 19 (by decide) (by decide)]), c4.fr (by rw [e0 21 (by decide) (by decide)]) (fun k hk => by rw [e0 22 (by decide) (by decide)]), ⟨by rw [e1]; exact pk_us, by omega, fun k hk => ?_⟩, c6.fr (Nat.le_refl _) (fun _ _ => rfl) hkp (by rw [e0 31 (by decide) (by decide)]) (fun r a b j hj => by rw [e0 r (by omega) (by omega)]), c7.fr c6.2.1 (Nat.le_refl _) (fun _ _ => rfl) (fun r a b j hj => by rw [e0 r (by omega) (by omega)]), c8.fr hkp (by rw [e0 25 (by decide) (by decide)]) (by rw [e0 26 (by decide) (by decide)]), c9.fr hkp (fun r a b => by rw [e0 r (by omega) (by omega)])⟩ (fun r hr => e0 r (by omega) (by omega)) (fun j hj => ⟨fun r a b u v => ?_, fun k hk => ⟨by rw [e0 22 (by decide) (by decide)], ?_⟩, fun r a b k hk => by rw [e0 r (by omega) (by omega)]⟩)
      · rw [e2]
        by_cases e : k = ne
        · subst e; exact ⟨v, hv, pk_us, if_pos rfl⟩
        · obtain ⟨u, hu, u1, u2⟩ := c5.2.2 k (by omega)
          exact ⟨u, hu, by rw [pk_un (by omega)]; exact u1, (if_neg e).trans u2⟩
      · by_cases e : r = 23
        · subst e; rw [e1]; exact pk_un hj
        · rw [e0 r e v]
      · rw [e2]; exact pk_un (by omega)
    · obtain ⟨rfl, rfl⟩ := pa (by omega)
      refine ⟨_, _, rfl, z_mid.of hF.2.1, (m_exchangerM1 hC.2.2.1 hn hi c5.1 hm (z_nb_no hn hv)).mono ?_⟩
      rintro r ⟨x, h', rfl, pc, -⟩
      obtain ⟨rfl, rfl⟩ := pc (by omega)
      exact z_ok.same ⟨nD, dm, ns, hC, hD, hS, hT, hF⟩
