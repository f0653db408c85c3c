/-! Terms of a policy: the class. -/
theorem z_k2 {k : Int32} (h : ¬ k < 0) : k < 2 ↔ k = 0 ∨ k = 1 := by
  obtain ⟨m, hm, rfl⟩ := nI_of h
  rw [show (2 : Int32) = nI 2 from rfl, show (0 : Int32) = nI 0 from rfl, show (1 : Int32) = nI 1 from rfl, nI_ltI hm (by decide), nI_eq hm (by decide), nI_eq hm (by decide)]
  omega
theorem z_k3 {k : Int32} (h : ¬ k < 0) : (¬ k < 1 ∧ ¬ 3 < k) ↔ k = 1 ∨ k = 2 ∨ k = 3 := by
  obtain ⟨m, hm, rfl⟩ := nI_of h
  rw [show (2 : Int32) = nI 2 from rfl, show (3 : Int32) = nI 3 from rfl, show (1 : Int32) = nI 1 from rfl, nI_ltI hm (by decide), nI_ltI (by decide) hm, nI_eq hm (by decide), nI_eq hm (by decide), nI_eq hm (by decide)]
  omega
/-- a term that is not refused -/
def z_okt (q k len : Int32) (tg : Option Nat) : Prop := (¬ k < 0 ∧ k ≤ 6) ∧ (k = 6 ∨ (¬ q < 1 ∧ q ≤ 4)) ∧ (k = 1 ∨ k = 2 ∨ k = 3 → ¬ len < 0 ∧ len ≤ 32) ∧ (¬ (k = 0 ∨ k = 1) → ¬ tg = none)
def z_tgo (nD : Nat) (dm : Nat → Nat) (i : Nat) (a : Int32) (tg : Option Nat) : Prop := (a = -1 ∧ tg = some (dm i)) ∨ (¬ a = -1 ∧ z_nb nD a ∧ tg = none) ∨ ∃ v, v < nD ∧ a = nI v ∧ tg = some (dm v)
theorem z_tgo_or {nD : Nat} (hn : nD ≤ 12) (dm : Nat → Nat) (i : Nat) (a : Int32) : ∃ tg, z_tgo nD dm i a tg := by
  by_cases e : a = -1
  · exact ⟨_, Or.inl ⟨e, rfl⟩⟩
  · rcases z_nb_or hn a with z | ⟨v, hv, rfl⟩
    · exact ⟨_, Or.inr (Or.inl ⟨e, z, rfl⟩)⟩
    · exact ⟨_, Or.inr (Or.inr ⟨v, hv, rfl, rfl⟩)⟩
theorem z_nI_m1 {v : Nat} (h : v < 2 ^ 31) : ¬ nI v = -1 := fun z => nI_pos h (by rw [z]; decide)
theorem m_policySize {d : Nat} {h : zH} {ρ : Nat → Nat → Option Nat} {σ : Nat → Nat → Int32} {na ne nt : Nat} {po lo ko wo : Option Nat} {sf : Bool} {f : Nat → Int32} {g tt : Nat → Option Nat} {a nm : Nat} (h52 : 52 ≤ a) (hc : z_dc h a po sf na ne nt lo ko wo f g tt) (hp : (lo = none ∧ nt = nm) ∨ (¬ lo = none ∧ nt + 1 = nm)) : z_M (d + 1) 30 [.ref a] (z_G h σ ρ) (z_qi fun r h' => r = nI nm ∧ h' = z_G h σ ρ) := by
  refine z_M.of ⟨Nat.le_of_ble_eq_true rfl, by simp [Value.category]⟩ (L := [some (.ref a)]) rfl ?_
  cases lo with
  | none =>
    have e : nt = nm := by
      rcases hp with z | z
      · exact z.2
      · exact absurd rfl z.1
    refine e_aload k30_0 (q := 1) rfl rfl ?_
    refine d_get k30_1 (q := 4) rfl h52 hc.1 rfl ?_
    refine e_nnN k30_4 (q := 7) rfl ?_
    refine e_aload k30_7 (q := 8) rfl rfl ?_
    refine d_get k30_8 (q := 11) rfl h52 hc.1 rfl ?_
    refine e_goto k30_11 ?_
    refine e_iret k30_20 ⟨_, rfl⟩ ?_
    exact ⟨_, _, rfl, by rw [e], rfl⟩
  | some l =>
    have e : nt + 1 = nm := by
      rcases hp with z | z
      · cases z.1
      · exact z.2
    refine e_aload k30_0 (q := 1) rfl rfl ?_
    refine d_get k30_1 (q := 4) rfl h52 hc.1 rfl ?_
    refine e_nnR k30_4 ?_
    refine e_aload k30_14 (q := 15) rfl rfl ?_
    refine d_get k30_15 (q := 18) rfl h52 hc.1 rfl ?_
    refine e_const k30_18 (q := 19) rfl ?_
    refine e_ib k30_19 (q := 20) rfl ?_
    refine e_iret k30_20 ⟨_, rfl⟩ ?_
    exact ⟨_, _, rfl, by rw [nI_1, e], rfl⟩
theorem m_hasRoom {d : Nat} {h : zH} {ρ : Nat → Nat → Option Nat} {σ : Nat → Nat → Int32} {na ne nt : Nat} {po lo ko wo : Option Nat} {sf : Bool} {f : Nat → Int32} {g tt : Nat → Option Nat} {a nm : Nat} (h52 : 52 ≤ a) (hc : z_dc h a po sf na ne nt lo ko wo f g tt) (hp : (lo = none ∧ nt = nm) ∨ (¬ lo = none ∧ nt + 1 = nm)) (hm : nm ≤ 8) (k : Int32) : z_M (d + 2) 31 [.ref a, .int k] (z_G h σ ρ) (z_qi fun r h' => h' = z_G h σ ρ ∧ ((nm < 8 ∧ (k = 6 → lo = none)) → r = 1) ∧ (¬ (nm < 8 ∧ (k = 6 → lo = none)) → r = 0)) := by
  refine z_M.of ⟨Nat.le_of_ble_eq_true rfl, by simp [Value.category]⟩ (L := [some (.ref a), some (.int k)]) rfl ?_
  refine e_aload k31_0 (q := 1) rfl rfl ?_
  refine d_cv k31_1 (q := 4) (as := []) rfl rfl h52 hc.1 rfl (m_policySize h52 hc hp) rfl (z_ki fun x1 h1 p1 => ?_)
  obtain ⟨rfl, rfl⟩ := p1
  refine e_const k31_4 (q := 6) rfl ?_
  refine e_ic k31_6 (q := 9) rfl (fun c6 => ?_) (fun c6 => ?_)
  · have hge : ¬ nm < 8 := by
      have := (nI_leI (a := 8) (b := nm) (by decide) (by omega)).mp c6
      omega
    refine e_const k31_26 (q := 27) rfl ?_
    refine e_iret k31_27 (by first | exact Or.inl rfl | exact Or.inr rfl | assumption) ?_
    exact ⟨_, _, rfl, rfl, fun z => absurd z.1 hge, fun _ => rfl⟩
  · have hlt : nm < 8 := by
      rcases Nat.lt_or_ge nm 8 with z | z
      · exact z
      · exact absurd (nI_le (a := 8) z (by omega)) c6
    refine e_iload k31_9 (q := 10) rfl rfl ?_
    refine e_const k31_10 (q := 12) rfl ?_
    refine e_ic k31_12 (q := 15) rfl (fun c12 => ?_) (fun c12 => ?_)
    · refine e_const k31_22 (q := 23) rfl ?_
      refine e_goto k31_23 ?_
      refine e_iret k31_27 (by first | exact Or.inl rfl | exact Or.inr rfl | assumption) ?_
      exact ⟨_, _, rfl, rfl, fun _ => rfl, fun z => absurd ⟨hlt, fun y => absurd y c12⟩ z⟩
    · have hk : k = 6 := Classical.not_not.mp c12
      refine e_aload k31_15 (q := 16) rfl rfl ?_
      cases lo with
      | none =>
        refine d_get k31_16 (q := 19) rfl h52 hc.1 rfl ?_
        refine e_nnN k31_19 (q := 22) rfl ?_
        refine e_const k31_22 (q := 23) rfl ?_
        refine e_goto k31_23 ?_
        refine e_iret k31_27 (Or.inr rfl) ?_
        exact ⟨_, _, rfl, rfl, fun _ => rfl, fun z => absurd ⟨hlt, fun _ => rfl⟩ z⟩
      | some l =>
        refine d_get k31_16 (q := 19) rfl h52 hc.1 rfl ?_
        refine e_nnR k31_19 ?_
        refine e_const k31_26 (q := 27) rfl ?_
        refine e_iret k31_27 (Or.inl rfl) ?_
        exact ⟨_, _, rfl, rfl, fun z => absurd (z.2 hk) (by intro y; cases y), fun _ => rfl⟩
theorem m_termInit {d : Nat} {h : zH} {ρ : Nat → Nat → Option Nat} {σ : Nat → Nat → Int32} {a : Nat} (h52 : 52 ≤ a) (ha : h.1 a = some (.inr (7, [.int 0, .int 0, .int 0, .null, .int 0]))) (x y w v : Int32) (tg : Option Nat) : z_M (d + 1) 66 [.ref a, .int x, .int y, .int w, va_rf tg, .int v] (z_G h σ ρ) (z_qv fun h' => ∃ h1, h' = z_G h1 σ ρ ∧ h1.1 a = some (.inr (7, [.int x, .int y, .int w, va_rf tg, .int v])) ∧ (∀ b, b ≠ a → h1.1 b = h.1 b) ∧ h1.2 = h.2) := by
  refine z_M.of ⟨Nat.le_of_ble_eq_true rfl, by cases tg <;> simp [Value.category, va_rf]⟩ (L := [some (.ref a), some (.int x), some (.int y), some (.int w), some (va_rf tg), some (.int v)]) rfl ?_
  refine e_aload k66_0 (q := 1) rfl rfl ?_
  refine e_obj k66_1 (q := 4) rfl (Nat.le_of_ble_eq_true rfl) ?_
  refine e_aload k66_4 (q := 5) rfl rfl ?_
  refine e_iload k66_5 (q := 6) rfl rfl ?_
  refine d_put k66_6 (q := 9) (fs' := [_, _, _, _, _]) rfl h52 ha ⟨_, rfl⟩ rfl ?_
  refine e_aload k66_9 (q := 10) rfl rfl ?_
  refine e_iload k66_10 (q := 11) rfl rfl ?_
  refine d_put k66_11 (q := 14) (fs' := [_, _, _, _, _]) rfl h52 (z_st_self _ _ _) ⟨_, rfl⟩ rfl ?_
  refine e_aload k66_14 (q := 15) rfl rfl ?_
  refine e_iload k66_15 (q := 16) rfl rfl ?_
  refine d_put k66_16 (q := 19) (fs' := [_, _, _, _, _]) rfl h52 (z_st_self _ _ _) ⟨_, rfl⟩ rfl ?_
  refine e_aload k66_19 (q := 20) rfl rfl ?_
  refine e_aloadq k66_20 (q := 22) rfl rfl ?_
  refine d_put k66_22 (q := 25) (fs' := [_, _, _, _, _]) rfl h52 (z_st_self _ _ _) (z_fitq tg) rfl ?_
  refine e_aload k66_25 (q := 26) rfl rfl ?_
  refine e_iload k66_26 (q := 28) rfl rfl ?_
  refine d_put k66_28 (q := 31) (fs' := [_, _, _, _, _]) rfl h52 (z_st_self _ _ _) ⟨_, rfl⟩ rfl ?_
  refine e_vret k66_31 ?_
  refine ⟨_, rfl, _, rfl, z_st_self _ _ _, fun b hb => ?_, rfl⟩
  rw [z_st_ne _ _ hb, z_st_ne _ _ hb, z_st_ne _ _ hb, z_st_ne _ _ hb, z_st_ne _ _ hb]
theorem m_addTerm {d : Nat} {h : zH} {ρ : Nat → Nat → Option Nat} {σ : Nat → Nat → Int32} {na ne nt : Nat} {po lo ko wo : Option Nat} {sf : Bool} {f : Nat → Int32} {g tt : Nat → Option Nat} {a t : Nat} {ft : List Value} (h52 : 52 ≤ a) (hc : z_dc h a po sf na ne nt lo ko wo f g tt) (ht52 : 52 ≤ t) (ht : h.1 t = some (.inr (7, ft))) (hm : nt < 8) : z_M (d + 1) 32 [.ref a, .ref t] (z_G h σ ρ) (z_qv fun h' => ∃ h1, h' = z_G h1 σ ρ ∧ z_dc h1 a po sf na ne (nt + 1) lo ko wo f g (va_up tt nt (some t)) ∧ (∀ b, b < a ∨ a + 4 ≤ b → h1.1 b = h.1 b) ∧ h1.2 = h.2) := by
  refine z_M.of ⟨Nat.le_of_ble_eq_true rfl, by simp [Value.category]⟩ (L := [some (.ref a), some (.ref t)]) rfl ?_
  have hin : vp_in (nI nt) 8 := vp_in_nI hm (by decide)
  refine e_aload k32_0 (q := 1) rfl rfl ?_
  refine d_get k32_1 (q := 4) rfl h52 hc.1 rfl ?_
  refine e_const k32_4 (q := 6) rfl ?_
  refine e_ic k32_6 (q := 9) rfl (fun c6 => absurd c6 (nI_ge (b := 8) hm (by decide))) (fun c6 => ?_)
  refine e_aload k32_9 (q := 10) rfl rfl ?_
  refine d_get k32_10 (q := 13) rfl h52 hc.1 rfl ?_
  refine e_aload k32_13 (q := 14) rfl rfl ?_
  refine d_get k32_14 (q := 17) rfl h52 hc.1 rfl ?_
  refine e_aload k32_17 (q := 18) rfl rfl ?_
  refine d_rst k32_18 (q := 19) rfl (by omega) hc.2.2.2 ((z_G_dyn ht52).trans ht) hin ?_
  rw [nI_clamp (by omega)]
  refine e_aload k32_19 (q := 20) rfl rfl ?_
  refine e_dup k32_20 (q := 21) rfl rfl ?_
  refine d_get k32_21 (q := 24) rfl h52 ((z_st_ne _ _ (by omega)).trans hc.1) rfl ?_
  refine e_const k32_24 (q := 25) rfl ?_
  refine e_ib k32_25 (q := 26) rfl ?_
  refine d_put k32_26 (q := 29) (fs' := [_, _, _, _, _, _, _, _, _, _, _]) rfl h52 ((z_st_ne _ _ (by omega)).trans hc.1) ⟨_, rfl⟩ rfl ?_
  refine e_vret k32_29 ?_
  refine ⟨_, rfl, _, rfl, ⟨?_, ?_, ?_, ?_⟩, fun b hb => ?_, rfl⟩
  · rw [nI_1]; exact z_st_self _ _ _
  · rw [z_st_ne _ _ (by omega), z_st_ne _ _ (by omega)]; exact hc.2.1
  · rw [z_st_ne _ _ (by omega), z_st_ne _ _ (by omega)]; exact hc.2.2.1
  · rw [z_st_ne _ _ (by omega)]; exact z_st_self _ _ _
  · rw [z_st_ne _ _ (by omega), z_st_ne _ _ (by omega)]
theorem m_termB {d : Nat} {h : zH} {ρ : Nat → Nat → Option Nat} {σ : Nat → Nat → Int32} {nD : Nat} (h1 : σ 1 1 = nI nD) {p : Int32} (q k a n : Int32) (hx : z_nb nD p) : z_M (d + 3) 4 [.ref 1, .int p, .int q, .int k, .int a, .int n] (z_G h σ ρ) (z_qi fun r h' => r = -1 ∧ h' = z_G h σ ρ) := by
  refine z_M.of ⟨Nat.le_of_ble_eq_true rfl, by simp [Value.category]⟩ (L := [some (.ref 1), some (.int p), some (.int q), some (.int k), some (.int a), some (.int n), none, none]) rfl ?_
  refine e_aload k4_0 (q := 1) rfl rfl ?_
  refine e_iload k4_1 (q := 2) rfl rfl ?_
  refine g_cv k4_2 (q := 5) (as := [_]) rfl rfl rfl rfl (m_numb0 h1 hx) rfl (z_kr fun x2 h2 p2 => ?_)
  obtain ⟨rfl, rfl⟩ := p2
  refine e_astq (a := none) k4_5 (q := 7) (L' := [_, _, _, _, _, _, _, _]) rfl rfl rfl ?_
  refine e_aloadq (a := none) k4_7 (q := 9) rfl rfl ?_
  refine e_nulN k4_9 ?_
  refine e_const k4_22 (q := 23) rfl ?_
  refine e_iret k4_23 ⟨_, rfl⟩ ?_
  exact ⟨_, _, rfl, rfl, rfl⟩
theorem l_term {d : Nat} {h : zH} {ρ : Nat → Nat → Option Nat} {σ : Nat → Nat → Int32} {nD : Nat} {dm : Nat → Nat} {i : Nat} {P : Int32 → zH → Prop} (hC : z_CC σ nD) (hD : z_DD h σ ρ nD dm) (hi : i < nD) {q k a n : Int32} {tg : Option Nat} (ht : z_tgo nD dm i a tg) (kk0 : ¬ z_okt q k n tg → P (-1) (z_G h σ ρ))
    (kk1 : z_okt q k n tg → z_E (d + 2) 4 96 [some (.ref 1), some (.int (nI i)), some (.int q), some (.int k), some (.int a), some (.int n), some (.ref (dm i)), some (va_rf tg)] [] (z_G h σ ρ) (z_qi P)) :
    z_E (d + 2) 4 0 [some (.ref 1), some (.int (nI i)), some (.int q), some (.int k), some (.int a), some (.int n), none, none] [] (z_G h σ ρ) (z_qi P) := by
  have hn := hC.1
  have hlen : ¬ (if k = 1 ∨ k = 2 ∨ k = 3 then (1 : Int32) else 0) = 0 → k = 1 ∨ k = 2 ∨ k = 3 := fun c => Classical.byContradiction (fun z => c (if_neg z))
  have hdom : ¬ (if k = 0 ∨ k = 1 then (0 : Int32) else 1) = 0 → ¬ (k = 0 ∨ k = 1) := fun c z => c (if_pos z)
  rcases ht with ⟨rfl, rfl⟩ | ⟨ha, hb, rfl⟩ | ⟨v, hv, rfl, rfl⟩
  · refine e_aload k4_0 (q := 1) rfl rfl ?_
    refine e_iload k4_1 (q := 2) rfl rfl ?_
    refine g_cv k4_2 (q := 5) (as := [_]) rfl rfl rfl rfl (m_numb1 hC hD hi) rfl (z_kr fun x2 h2 p2 => ?_)
    obtain ⟨rfl, rfl⟩ := p2
    refine e_ast (a := dm i) k4_5 (q := 7) (L' := [_, _, _, _, _, _, _, _]) rfl rfl rfl ?_
    refine e_aload k4_7 (q := 9) rfl rfl ?_
    refine e_nulR k4_9 (q := 12) rfl ?_
    refine e_iload k4_12 (q := 13) rfl rfl ?_
    refine e_if k4_13 (q := 16) rfl (fun c13 => ?_) (fun c13 => ?_)
    · refine e_const k4_22 (q := 23) rfl ?_
      refine e_iret k4_23 ⟨_, rfl⟩ ?_
      exact ⟨_, _, rfl, kk0 (fun ok => ok.1.1 c13)⟩
    · refine e_iload k4_16 (q := 17) rfl rfl ?_
      refine e_const k4_17 (q := 19) rfl ?_
      refine e_ic k4_19 (q := 22) rfl (fun c19 => ?_) (fun c19 => ?_)
      · refine e_iload k4_24 (q := 25) rfl rfl ?_
        refine e_const k4_25 (q := 27) rfl ?_
        refine e_ic k4_27 (q := 30) rfl (fun c27 => ?_) (fun c27 => ?_)
        · refine e_iload k4_42 (q := 43) rfl rfl ?_
          refine e_cs k4_43 (q := 46) (as := [_]) rfl rfl (Nat.le_of_ble_eq_true rfl) (m_looksAtLength k) rfl (z_ki fun x43 h43 p43 => ?_)
          obtain ⟨rfl, rfl⟩ := p43
          refine e_if k4_46 (q := 49) rfl (fun c46 => ?_) (fun c46 => ?_)
          · refine e_iload k4_63 (q := 65) rfl rfl ?_
            refine e_const k4_65 (q := 66) rfl ?_
            refine e_ic k4_66 (q := 69) rfl (fun c66 => absurd c66 (fun z => z rfl)) (fun c66 => ?_)
            refine e_aload k4_69 (q := 71) rfl rfl ?_
            refine e_goto k4_71 ?_
            refine e_ast (a := dm i) k4_80 (q := 82) (L' := [_, _, _, _, _, _, _, some (va_rf (some (dm i)))]) rfl rfl rfl ?_
            refine e_iload k4_82 (q := 83) rfl rfl ?_
            refine e_cs k4_83 (q := 86) (as := [_]) rfl rfl (Nat.le_of_ble_eq_true rfl) (m_looksAtDomain k) rfl (z_ki fun x83 h83 p83 => ?_)
            obtain ⟨rfl, rfl⟩ := p83
            refine e_if k4_86 (q := 89) rfl (fun c86 => ?_) (fun c86 => ?_)
            · exact kk1 ⟨⟨c13, c19⟩, (Or.inl c27), (fun z => absurd ((if_pos z).symm.trans c46) (by decide)), (fun z => absurd ((if_neg z).symm.trans c86) (by decide))⟩
            · refine e_aload (a := dm i) k4_89 (q := 91) rfl rfl ?_
              refine e_nnR k4_91 ?_
              exact kk1 ⟨⟨c13, c19⟩, (Or.inl c27), (fun z => absurd ((if_pos z).symm.trans c46) (by decide)), (fun _ z => by cases z)⟩
          · refine e_iload k4_49 (q := 51) rfl rfl ?_
            refine e_if k4_51 (q := 54) rfl (fun c51 => ?_) (fun c51 => ?_)
            · refine e_const k4_61 (q := 62) rfl ?_
              refine e_iret k4_62 ⟨_, rfl⟩ ?_
              exact ⟨_, _, rfl, kk0 (fun ok => (ok.2.2.1 (hlen c46)).1 c51)⟩
            · refine e_iload k4_54 (q := 56) rfl rfl ?_
              refine e_const k4_56 (q := 58) rfl ?_
              refine e_ic k4_58 (q := 61) rfl (fun c58 => ?_) (fun c58 => ?_)
              · refine e_iload k4_63 (q := 65) rfl rfl ?_
                refine e_const k4_65 (q := 66) rfl ?_
                refine e_ic k4_66 (q := 69) rfl (fun c66 => absurd c66 (fun z => z rfl)) (fun c66 => ?_)
                refine e_aload k4_69 (q := 71) rfl rfl ?_
                refine e_goto k4_71 ?_
                refine e_ast (a := dm i) k4_80 (q := 82) (L' := [_, _, _, _, _, _, _, some (va_rf (some (dm i)))]) rfl rfl rfl ?_
                refine e_iload k4_82 (q := 83) rfl rfl ?_
                refine e_cs k4_83 (q := 86) (as := [_]) rfl rfl (Nat.le_of_ble_eq_true rfl) (m_looksAtDomain k) rfl (z_ki fun x83 h83 p83 => ?_)
                obtain ⟨rfl, rfl⟩ := p83
                refine e_if k4_86 (q := 89) rfl (fun c86 => ?_) (fun c86 => ?_)
                · exact kk1 ⟨⟨c13, c19⟩, (Or.inl c27), (fun _ => ⟨c51, c58⟩), (fun z => absurd ((if_neg z).symm.trans c86) (by decide))⟩
                · refine e_aload (a := dm i) k4_89 (q := 91) rfl rfl ?_
                  refine e_nnR k4_91 ?_
                  exact kk1 ⟨⟨c13, c19⟩, (Or.inl c27), (fun _ => ⟨c51, c58⟩), (fun _ z => by cases z)⟩
              · refine e_const k4_61 (q := 62) rfl ?_
                refine e_iret k4_62 ⟨_, rfl⟩ ?_
                exact ⟨_, _, rfl, kk0 (fun ok => c58 (ok.2.2.1 (hlen c46)).2)⟩
        · refine e_iload k4_30 (q := 31) rfl rfl ?_
          refine e_const k4_31 (q := 32) rfl ?_
          refine e_ic k4_32 (q := 35) rfl (fun c32 => ?_) (fun c32 => ?_)
          · refine e_const k4_40 (q := 41) rfl ?_
            refine e_iret k4_41 ⟨_, rfl⟩ ?_
            exact ⟨_, _, rfl, kk0 (fun ok => ok.2.1.elim c27 (fun z => z.1 c32))⟩
          · refine e_iload k4_35 (q := 36) rfl rfl ?_
            refine e_const k4_36 (q := 37) rfl ?_
            refine e_ic k4_37 (q := 40) rfl (fun c37 => ?_) (fun c37 => ?_)
            · refine e_iload k4_42 (q := 43) rfl rfl ?_
              refine e_cs k4_43 (q := 46) (as := [_]) rfl rfl (Nat.le_of_ble_eq_true rfl) (m_looksAtLength k) rfl (z_ki fun x43 h43 p43 => ?_)
              obtain ⟨rfl, rfl⟩ := p43
              refine e_if k4_46 (q := 49) rfl (fun c46 => ?_) (fun c46 => ?_)
              · refine e_iload k4_63 (q := 65) rfl rfl ?_
                refine e_const k4_65 (q := 66) rfl ?_
                refine e_ic k4_66 (q := 69) rfl (fun c66 => absurd c66 (fun z => z rfl)) (fun c66 => ?_)
                refine e_aload k4_69 (q := 71) rfl rfl ?_
                refine e_goto k4_71 ?_
                refine e_ast (a := dm i) k4_80 (q := 82) (L' := [_, _, _, _, _, _, _, some (va_rf (some (dm i)))]) rfl rfl rfl ?_
                refine e_iload k4_82 (q := 83) rfl rfl ?_
                refine e_cs k4_83 (q := 86) (as := [_]) rfl rfl (Nat.le_of_ble_eq_true rfl) (m_looksAtDomain k) rfl (z_ki fun x83 h83 p83 => ?_)
                obtain ⟨rfl, rfl⟩ := p83
                refine e_if k4_86 (q := 89) rfl (fun c86 => ?_) (fun c86 => ?_)
                · exact kk1 ⟨⟨c13, c19⟩, (Or.inr ⟨c32, c37⟩), (fun z => absurd ((if_pos z).symm.trans c46) (by decide)), (fun z => absurd ((if_neg z).symm.trans c86) (by decide))⟩
                · refine e_aload (a := dm i) k4_89 (q := 91) rfl rfl ?_
                  refine e_nnR k4_91 ?_
                  exact kk1 ⟨⟨c13, c19⟩, (Or.inr ⟨c32, c37⟩), (fun z => absurd ((if_pos z).symm.trans c46) (by decide)), (fun _ z => by cases z)⟩
              · refine e_iload k4_49 (q := 51) rfl rfl ?_
                refine e_if k4_51 (q := 54) rfl (fun c51 => ?_) (fun c51 => ?_)
                · refine e_const k4_61 (q := 62) rfl ?_
                  refine e_iret k4_62 ⟨_, rfl⟩ ?_
                  exact ⟨_, _, rfl, kk0 (fun ok => (ok.2.2.1 (hlen c46)).1 c51)⟩
                · refine e_iload k4_54 (q := 56) rfl rfl ?_
                  refine e_const k4_56 (q := 58) rfl ?_
                  refine e_ic k4_58 (q := 61) rfl (fun c58 => ?_) (fun c58 => ?_)
                  · refine e_iload k4_63 (q := 65) rfl rfl ?_
                    refine e_const k4_65 (q := 66) rfl ?_
                    refine e_ic k4_66 (q := 69) rfl (fun c66 => absurd c66 (fun z => z rfl)) (fun c66 => ?_)
                    refine e_aload k4_69 (q := 71) rfl rfl ?_
                    refine e_goto k4_71 ?_
                    refine e_ast (a := dm i) k4_80 (q := 82) (L' := [_, _, _, _, _, _, _, some (va_rf (some (dm i)))]) rfl rfl rfl ?_
                    refine e_iload k4_82 (q := 83) rfl rfl ?_
                    refine e_cs k4_83 (q := 86) (as := [_]) rfl rfl (Nat.le_of_ble_eq_true rfl) (m_looksAtDomain k) rfl (z_ki fun x83 h83 p83 => ?_)
                    obtain ⟨rfl, rfl⟩ := p83
                    refine e_if k4_86 (q := 89) rfl (fun c86 => ?_) (fun c86 => ?_)
                    · exact kk1 ⟨⟨c13, c19⟩, (Or.inr ⟨c32, c37⟩), (fun _ => ⟨c51, c58⟩), (fun z => absurd ((if_neg z).symm.trans c86) (by decide))⟩
                    · refine e_aload (a := dm i) k4_89 (q := 91) rfl rfl ?_
                      refine e_nnR k4_91 ?_
                      exact kk1 ⟨⟨c13, c19⟩, (Or.inr ⟨c32, c37⟩), (fun _ => ⟨c51, c58⟩), (fun _ z => by cases z)⟩
                  · refine e_const k4_61 (q := 62) rfl ?_
                    refine e_iret k4_62 ⟨_, rfl⟩ ?_
                    exact ⟨_, _, rfl, kk0 (fun ok => c58 (ok.2.2.1 (hlen c46)).2)⟩
            · refine e_const k4_40 (q := 41) rfl ?_
              refine e_iret k4_41 ⟨_, rfl⟩ ?_
              exact ⟨_, _, rfl, kk0 (fun ok => ok.2.1.elim c27 (fun z => c37 z.2))⟩
      · refine e_const k4_22 (q := 23) rfl ?_
        refine e_iret k4_23 ⟨_, rfl⟩ ?_
        exact ⟨_, _, rfl, kk0 (fun ok => c19 ok.1.2)⟩
  · refine e_aload k4_0 (q := 1) rfl rfl ?_
    refine e_iload k4_1 (q := 2) rfl rfl ?_
    refine g_cv k4_2 (q := 5) (as := [_]) rfl rfl rfl rfl (m_numb1 hC hD hi) rfl (z_kr fun x2 h2 p2 => ?_)
    obtain ⟨rfl, rfl⟩ := p2
    refine e_ast (a := dm i) k4_5 (q := 7) (L' := [_, _, _, _, _, _, _, _]) rfl rfl rfl ?_
    refine e_aload k4_7 (q := 9) rfl rfl ?_
    refine e_nulR k4_9 (q := 12) rfl ?_
    refine e_iload k4_12 (q := 13) rfl rfl ?_
    refine e_if k4_13 (q := 16) rfl (fun c13 => ?_) (fun c13 => ?_)
    · refine e_const k4_22 (q := 23) rfl ?_
      refine e_iret k4_23 ⟨_, rfl⟩ ?_
      exact ⟨_, _, rfl, kk0 (fun ok => ok.1.1 c13)⟩
    · refine e_iload k4_16 (q := 17) rfl rfl ?_
      refine e_const k4_17 (q := 19) rfl ?_
      refine e_ic k4_19 (q := 22) rfl (fun c19 => ?_) (fun c19 => ?_)
      · refine e_iload k4_24 (q := 25) rfl rfl ?_
        refine e_const k4_25 (q := 27) rfl ?_
        refine e_ic k4_27 (q := 30) rfl (fun c27 => ?_) (fun c27 => ?_)
        · refine e_iload k4_42 (q := 43) rfl rfl ?_
          refine e_cs k4_43 (q := 46) (as := [_]) rfl rfl (Nat.le_of_ble_eq_true rfl) (m_looksAtLength k) rfl (z_ki fun x43 h43 p43 => ?_)
          obtain ⟨rfl, rfl⟩ := p43
          refine e_if k4_46 (q := 49) rfl (fun c46 => ?_) (fun c46 => ?_)
          · refine e_iload k4_63 (q := 65) rfl rfl ?_
            refine e_const k4_65 (q := 66) rfl ?_
            refine e_ic k4_66 (q := 69) rfl (fun c66 => ?_) (fun c66 => absurd ha c66)
            refine e_aload k4_74 (q := 75) rfl rfl ?_
            refine e_iload k4_75 (q := 77) rfl rfl ?_
            refine g_cv k4_77 (q := 80) (as := [_]) rfl rfl rfl rfl (m_numb0 hC.2.1 hb) rfl (z_kr fun x77 h77 p77 => ?_)
            obtain ⟨rfl, rfl⟩ := p77
            refine e_astq (a := none) k4_80 (q := 82) (L' := [_, _, _, _, _, _, _, some (va_rf none)]) rfl rfl rfl ?_
            refine e_iload k4_82 (q := 83) rfl rfl ?_
            refine e_cs k4_83 (q := 86) (as := [_]) rfl rfl (Nat.le_of_ble_eq_true rfl) (m_looksAtDomain k) rfl (z_ki fun x83 h83 p83 => ?_)
            obtain ⟨rfl, rfl⟩ := p83
            refine e_if k4_86 (q := 89) rfl (fun c86 => ?_) (fun c86 => ?_)
            · exact kk1 ⟨⟨c13, c19⟩, (Or.inl c27), (fun z => absurd ((if_pos z).symm.trans c46) (by decide)), (fun z => absurd ((if_neg z).symm.trans c86) (by decide))⟩
            · refine e_aloadq (a := none) k4_89 (q := 91) rfl rfl ?_
              refine e_nnN k4_91 (q := 94) rfl ?_
              refine e_const k4_94 (q := 95) rfl ?_
              refine e_iret k4_95 ⟨_, rfl⟩ ?_
              exact ⟨_, _, rfl, kk0 (fun ok => ok.2.2.2 (hdom c86) rfl)⟩
          · refine e_iload k4_49 (q := 51) rfl rfl ?_
            refine e_if k4_51 (q := 54) rfl (fun c51 => ?_) (fun c51 => ?_)
            · refine e_const k4_61 (q := 62) rfl ?_
              refine e_iret k4_62 ⟨_, rfl⟩ ?_
              exact ⟨_, _, rfl, kk0 (fun ok => (ok.2.2.1 (hlen c46)).1 c51)⟩
            · refine e_iload k4_54 (q := 56) rfl rfl ?_
              refine e_const k4_56 (q := 58) rfl ?_
              refine e_ic k4_58 (q := 61) rfl (fun c58 => ?_) (fun c58 => ?_)
              · refine e_iload k4_63 (q := 65) rfl rfl ?_
                refine e_const k4_65 (q := 66) rfl ?_
                refine e_ic k4_66 (q := 69) rfl (fun c66 => ?_) (fun c66 => absurd ha c66)
                refine e_aload k4_74 (q := 75) rfl rfl ?_
                refine e_iload k4_75 (q := 77) rfl rfl ?_
                refine g_cv k4_77 (q := 80) (as := [_]) rfl rfl rfl rfl (m_numb0 hC.2.1 hb) rfl (z_kr fun x77 h77 p77 => ?_)
                obtain ⟨rfl, rfl⟩ := p77
                refine e_astq (a := none) k4_80 (q := 82) (L' := [_, _, _, _, _, _, _, some (va_rf none)]) rfl rfl rfl ?_
                refine e_iload k4_82 (q := 83) rfl rfl ?_
                refine e_cs k4_83 (q := 86) (as := [_]) rfl rfl (Nat.le_of_ble_eq_true rfl) (m_looksAtDomain k) rfl (z_ki fun x83 h83 p83 => ?_)
                obtain ⟨rfl, rfl⟩ := p83
                refine e_if k4_86 (q := 89) rfl (fun c86 => ?_) (fun c86 => ?_)
                · exact kk1 ⟨⟨c13, c19⟩, (Or.inl c27), (fun _ => ⟨c51, c58⟩), (fun z => absurd ((if_neg z).symm.trans c86) (by decide))⟩
                · refine e_aloadq (a := none) k4_89 (q := 91) rfl rfl ?_
                  refine e_nnN k4_91 (q := 94) rfl ?_
                  refine e_const k4_94 (q := 95) rfl ?_
                  refine e_iret k4_95 ⟨_, rfl⟩ ?_
                  exact ⟨_, _, rfl, kk0 (fun ok => ok.2.2.2 (hdom c86) rfl)⟩
              · refine e_const k4_61 (q := 62) rfl ?_
                refine e_iret k4_62 ⟨_, rfl⟩ ?_
                exact ⟨_, _, rfl, kk0 (fun ok => c58 (ok.2.2.1 (hlen c46)).2)⟩
        · refine e_iload k4_30 (q := 31) rfl rfl ?_
          refine e_const k4_31 (q := 32) rfl ?_
          refine e_ic k4_32 (q := 35) rfl (fun c32 => ?_) (fun c32 => ?_)
          · refine e_const k4_40 (q := 41) rfl ?_
            refine e_iret k4_41 ⟨_, rfl⟩ ?_
            exact ⟨_, _, rfl, kk0 (fun ok => ok.2.1.elim c27 (fun z => z.1 c32))⟩
          · refine e_iload k4_35 (q := 36) rfl rfl ?_
            refine e_const k4_36 (q := 37) rfl ?_
            refine e_ic k4_37 (q := 40) rfl (fun c37 => ?_) (fun c37 => ?_)
            · refine e_iload k4_42 (q := 43) rfl rfl ?_
              refine e_cs k4_43 (q := 46) (as := [_]) rfl rfl (Nat.le_of_ble_eq_true rfl) (m_looksAtLength k) rfl (z_ki fun x43 h43 p43 => ?_)
              obtain ⟨rfl, rfl⟩ := p43
              refine e_if k4_46 (q := 49) rfl (fun c46 => ?_) (fun c46 => ?_)
              · refine e_iload k4_63 (q := 65) rfl rfl ?_
                refine e_const k4_65 (q := 66) rfl ?_
                refine e_ic k4_66 (q := 69) rfl (fun c66 => ?_) (fun c66 => absurd ha c66)
                refine e_aload k4_74 (q := 75) rfl rfl ?_
                refine e_iload k4_75 (q := 77) rfl rfl ?_
                refine g_cv k4_77 (q := 80) (as := [_]) rfl rfl rfl rfl (m_numb0 hC.2.1 hb) rfl (z_kr fun x77 h77 p77 => ?_)
                obtain ⟨rfl, rfl⟩ := p77
                refine e_astq (a := none) k4_80 (q := 82) (L' := [_, _, _, _, _, _, _, some (va_rf none)]) rfl rfl rfl ?_
                refine e_iload k4_82 (q := 83) rfl rfl ?_
                refine e_cs k4_83 (q := 86) (as := [_]) rfl rfl (Nat.le_of_ble_eq_true rfl) (m_looksAtDomain k) rfl (z_ki fun x83 h83 p83 => ?_)
                obtain ⟨rfl, rfl⟩ := p83
                refine e_if k4_86 (q := 89) rfl (fun c86 => ?_) (fun c86 => ?_)
                · exact kk1 ⟨⟨c13, c19⟩, (Or.inr ⟨c32, c37⟩), (fun z => absurd ((if_pos z).symm.trans c46) (by decide)), (fun z => absurd ((if_neg z).symm.trans c86) (by decide))⟩
                · refine e_aloadq (a := none) k4_89 (q := 91) rfl rfl ?_
                  refine e_nnN k4_91 (q := 94) rfl ?_
                  refine e_const k4_94 (q := 95) rfl ?_
                  refine e_iret k4_95 ⟨_, rfl⟩ ?_
                  exact ⟨_, _, rfl, kk0 (fun ok => ok.2.2.2 (hdom c86) rfl)⟩
              · refine e_iload k4_49 (q := 51) rfl rfl ?_
                refine e_if k4_51 (q := 54) rfl (fun c51 => ?_) (fun c51 => ?_)
                · refine e_const k4_61 (q := 62) rfl ?_
                  refine e_iret k4_62 ⟨_, rfl⟩ ?_
                  exact ⟨_, _, rfl, kk0 (fun ok => (ok.2.2.1 (hlen c46)).1 c51)⟩
                · refine e_iload k4_54 (q := 56) rfl rfl ?_
                  refine e_const k4_56 (q := 58) rfl ?_
                  refine e_ic k4_58 (q := 61) rfl (fun c58 => ?_) (fun c58 => ?_)
                  · refine e_iload k4_63 (q := 65) rfl rfl ?_
                    refine e_const k4_65 (q := 66) rfl ?_
                    refine e_ic k4_66 (q := 69) rfl (fun c66 => ?_) (fun c66 => absurd ha c66)
                    refine e_aload k4_74 (q := 75) rfl rfl ?_
                    refine e_iload k4_75 (q := 77) rfl rfl ?_
                    refine g_cv k4_77 (q := 80) (as := [_]) rfl rfl rfl rfl (m_numb0 hC.2.1 hb) rfl (z_kr fun x77 h77 p77 => ?_)
                    obtain ⟨rfl, rfl⟩ := p77
                    refine e_astq (a := none) k4_80 (q := 82) (L' := [_, _, _, _, _, _, _, some (va_rf none)]) rfl rfl rfl ?_
                    refine e_iload k4_82 (q := 83) rfl rfl ?_
                    refine e_cs k4_83 (q := 86) (as := [_]) rfl rfl (Nat.le_of_ble_eq_true rfl) (m_looksAtDomain k) rfl (z_ki fun x83 h83 p83 => ?_)
                    obtain ⟨rfl, rfl⟩ := p83
                    refine e_if k4_86 (q := 89) rfl (fun c86 => ?_) (fun c86 => ?_)
                    · exact kk1 ⟨⟨c13, c19⟩, (Or.inr ⟨c32, c37⟩), (fun _ => ⟨c51, c58⟩), (fun z => absurd ((if_neg z).symm.trans c86) (by decide))⟩
                    · refine e_aloadq (a := none) k4_89 (q := 91) rfl rfl ?_
                      refine e_nnN k4_91 (q := 94) rfl ?_
                      refine e_const k4_94 (q := 95) rfl ?_
                      refine e_iret k4_95 ⟨_, rfl⟩ ?_
                      exact ⟨_, _, rfl, kk0 (fun ok => ok.2.2.2 (hdom c86) rfl)⟩
                  · refine e_const k4_61 (q := 62) rfl ?_
                    refine e_iret k4_62 ⟨_, rfl⟩ ?_
                    exact ⟨_, _, rfl, kk0 (fun ok => c58 (ok.2.2.1 (hlen c46)).2)⟩
            · refine e_const k4_40 (q := 41) rfl ?_
              refine e_iret k4_41 ⟨_, rfl⟩ ?_
              exact ⟨_, _, rfl, kk0 (fun ok => ok.2.1.elim c27 (fun z => c37 z.2))⟩
      · refine e_const k4_22 (q := 23) rfl ?_
        refine e_iret k4_23 ⟨_, rfl⟩ ?_
        exact ⟨_, _, rfl, kk0 (fun ok => c19 ok.1.2)⟩
  · refine e_aload k4_0 (q := 1) rfl rfl ?_
    refine e_iload k4_1 (q := 2) rfl rfl ?_
    refine g_cv k4_2 (q := 5) (as := [_]) rfl rfl rfl rfl (m_numb1 hC hD hi) rfl (z_kr fun x2 h2 p2 => ?_)
    obtain ⟨rfl, rfl⟩ := p2
    refine e_ast (a := dm i) k4_5 (q := 7) (L' := [_, _, _, _, _, _, _, _]) rfl rfl rfl ?_
    refine e_aload k4_7 (q := 9) rfl rfl ?_
    refine e_nulR k4_9 (q := 12) rfl ?_
    refine e_iload k4_12 (q := 13) rfl rfl ?_
    refine e_if k4_13 (q := 16) rfl (fun c13 => ?_) (fun c13 => ?_)
    · refine e_const k4_22 (q := 23) rfl ?_
      refine e_iret k4_23 ⟨_, rfl⟩ ?_
      exact ⟨_, _, rfl, kk0 (fun ok => ok.1.1 c13)⟩
    · refine e_iload k4_16 (q := 17) rfl rfl ?_
      refine e_const k4_17 (q := 19) rfl ?_
      refine e_ic k4_19 (q := 22) rfl (fun c19 => ?_) (fun c19 => ?_)
      · refine e_iload k4_24 (q := 25) rfl rfl ?_
        refine e_const k4_25 (q := 27) rfl ?_
        refine e_ic k4_27 (q := 30) rfl (fun c27 => ?_) (fun c27 => ?_)
        · refine e_iload k4_42 (q := 43) rfl rfl ?_
          refine e_cs k4_43 (q := 46) (as := [_]) rfl rfl (Nat.le_of_ble_eq_true rfl) (m_looksAtLength k) rfl (z_ki fun x43 h43 p43 => ?_)
          obtain ⟨rfl, rfl⟩ := p43
          refine e_if k4_46 (q := 49) rfl (fun c46 => ?_) (fun c46 => ?_)
          · refine e_iload k4_63 (q := 65) rfl rfl ?_
            refine e_const k4_65 (q := 66) rfl ?_
            refine e_ic k4_66 (q := 69) rfl (fun c66 => ?_) (fun c66 => absurd (z_nI_m1 (by omega)) c66)
            refine e_aload k4_74 (q := 75) rfl rfl ?_
            refine e_iload k4_75 (q := 77) rfl rfl ?_
            refine g_cv k4_77 (q := 80) (as := [_]) rfl rfl rfl rfl (m_numb1 hC hD hv) rfl (z_kr fun x77 h77 p77 => ?_)
            obtain ⟨rfl, rfl⟩ := p77
            refine e_ast (a := dm v) k4_80 (q := 82) (L' := [_, _, _, _, _, _, _, some (va_rf (some (dm v)))]) rfl rfl rfl ?_
            refine e_iload k4_82 (q := 83) rfl rfl ?_
            refine e_cs k4_83 (q := 86) (as := [_]) rfl rfl (Nat.le_of_ble_eq_true rfl) (m_looksAtDomain k) rfl (z_ki fun x83 h83 p83 => ?_)
            obtain ⟨rfl, rfl⟩ := p83
            refine e_if k4_86 (q := 89) rfl (fun c86 => ?_) (fun c86 => ?_)
            · exact kk1 ⟨⟨c13, c19⟩, (Or.inl c27), (fun z => absurd ((if_pos z).symm.trans c46) (by decide)), (fun z => absurd ((if_neg z).symm.trans c86) (by decide))⟩
            · refine e_aload (a := dm v) k4_89 (q := 91) rfl rfl ?_
              refine e_nnR k4_91 ?_
              exact kk1 ⟨⟨c13, c19⟩, (Or.inl c27), (fun z => absurd ((if_pos z).symm.trans c46) (by decide)), (fun _ z => by cases z)⟩
          · refine e_iload k4_49 (q := 51) rfl rfl ?_
            refine e_if k4_51 (q := 54) rfl (fun c51 => ?_) (fun c51 => ?_)
            · refine e_const k4_61 (q := 62) rfl ?_
              refine e_iret k4_62 ⟨_, rfl⟩ ?_
              exact ⟨_, _, rfl, kk0 (fun ok => (ok.2.2.1 (hlen c46)).1 c51)⟩
            · refine e_iload k4_54 (q := 56) rfl rfl ?_
              refine e_const k4_56 (q := 58) rfl ?_
              refine e_ic k4_58 (q := 61) rfl (fun c58 => ?_) (fun c58 => ?_)
              · refine e_iload k4_63 (q := 65) rfl rfl ?_
                refine e_const k4_65 (q := 66) rfl ?_
                refine e_ic k4_66 (q := 69) rfl (fun c66 => ?_) (fun c66 => absurd (z_nI_m1 (by omega)) c66)
                refine e_aload k4_74 (q := 75) rfl rfl ?_
                refine e_iload k4_75 (q := 77) rfl rfl ?_
                refine g_cv k4_77 (q := 80) (as := [_]) rfl rfl rfl rfl (m_numb1 hC hD hv) rfl (z_kr fun x77 h77 p77 => ?_)
                obtain ⟨rfl, rfl⟩ := p77
                refine e_ast (a := dm v) k4_80 (q := 82) (L' := [_, _, _, _, _, _, _, some (va_rf (some (dm v)))]) rfl rfl rfl ?_
                refine e_iload k4_82 (q := 83) rfl rfl ?_
                refine e_cs k4_83 (q := 86) (as := [_]) rfl rfl (Nat.le_of_ble_eq_true rfl) (m_looksAtDomain k) rfl (z_ki fun x83 h83 p83 => ?_)
                obtain ⟨rfl, rfl⟩ := p83
                refine e_if k4_86 (q := 89) rfl (fun c86 => ?_) (fun c86 => ?_)
                · exact kk1 ⟨⟨c13, c19⟩, (Or.inl c27), (fun _ => ⟨c51, c58⟩), (fun z => absurd ((if_neg z).symm.trans c86) (by decide))⟩
                · refine e_aload (a := dm v) k4_89 (q := 91) rfl rfl ?_
                  refine e_nnR k4_91 ?_
                  exact kk1 ⟨⟨c13, c19⟩, (Or.inl c27), (fun _ => ⟨c51, c58⟩), (fun _ z => by cases z)⟩
              · refine e_const k4_61 (q := 62) rfl ?_
                refine e_iret k4_62 ⟨_, rfl⟩ ?_
                exact ⟨_, _, rfl, kk0 (fun ok => c58 (ok.2.2.1 (hlen c46)).2)⟩
        · refine e_iload k4_30 (q := 31) rfl rfl ?_
          refine e_const k4_31 (q := 32) rfl ?_
          refine e_ic k4_32 (q := 35) rfl (fun c32 => ?_) (fun c32 => ?_)
          · refine e_const k4_40 (q := 41) rfl ?_
            refine e_iret k4_41 ⟨_, rfl⟩ ?_
            exact ⟨_, _, rfl, kk0 (fun ok => ok.2.1.elim c27 (fun z => z.1 c32))⟩
          · refine e_iload k4_35 (q := 36) rfl rfl ?_
            refine e_const k4_36 (q := 37) rfl ?_
            refine e_ic k4_37 (q := 40) rfl (fun c37 => ?_) (fun c37 => ?_)
            · refine e_iload k4_42 (q := 43) rfl rfl ?_
              refine e_cs k4_43 (q := 46) (as := [_]) rfl rfl (Nat.le_of_ble_eq_true rfl) (m_looksAtLength k) rfl (z_ki fun x43 h43 p43 => ?_)
              obtain ⟨rfl, rfl⟩ := p43
              refine e_if k4_46 (q := 49) rfl (fun c46 => ?_) (fun c46 => ?_)
              · refine e_iload k4_63 (q := 65) rfl rfl ?_
                refine e_const k4_65 (q := 66) rfl ?_
                refine e_ic k4_66 (q := 69) rfl (fun c66 => ?_) (fun c66 => absurd (z_nI_m1 (by omega)) c66)
                refine e_aload k4_74 (q := 75) rfl rfl ?_
                refine e_iload k4_75 (q := 77) rfl rfl ?_
                refine g_cv k4_77 (q := 80) (as := [_]) rfl rfl rfl rfl (m_numb1 hC hD hv) rfl (z_kr fun x77 h77 p77 => ?_)
                obtain ⟨rfl, rfl⟩ := p77
                refine e_ast (a := dm v) k4_80 (q := 82) (L' := [_, _, _, _, _, _, _, some (va_rf (some (dm v)))]) rfl rfl rfl ?_
                refine e_iload k4_82 (q := 83) rfl rfl ?_
                refine e_cs k4_83 (q := 86) (as := [_]) rfl rfl (Nat.le_of_ble_eq_true rfl) (m_looksAtDomain k) rfl (z_ki fun x83 h83 p83 => ?_)
                obtain ⟨rfl, rfl⟩ := p83
                refine e_if k4_86 (q := 89) rfl (fun c86 => ?_) (fun c86 => ?_)
                · exact kk1 ⟨⟨c13, c19⟩, (Or.inr ⟨c32, c37⟩), (fun z => absurd ((if_pos z).symm.trans c46) (by decide)), (fun z => absurd ((if_neg z).symm.trans c86) (by decide))⟩
                · refine e_aload (a := dm v) k4_89 (q := 91) rfl rfl ?_
                  refine e_nnR k4_91 ?_
                  exact kk1 ⟨⟨c13, c19⟩, (Or.inr ⟨c32, c37⟩), (fun z => absurd ((if_pos z).symm.trans c46) (by decide)), (fun _ z => by cases z)⟩
              · refine e_iload k4_49 (q := 51) rfl rfl ?_
                refine e_if k4_51 (q := 54) rfl (fun c51 => ?_) (fun c51 => ?_)
                · refine e_const k4_61 (q := 62) rfl ?_
                  refine e_iret k4_62 ⟨_, rfl⟩ ?_
                  exact ⟨_, _, rfl, kk0 (fun ok => (ok.2.2.1 (hlen c46)).1 c51)⟩
                · refine e_iload k4_54 (q := 56) rfl rfl ?_
                  refine e_const k4_56 (q := 58) rfl ?_
                  refine e_ic k4_58 (q := 61) rfl (fun c58 => ?_) (fun c58 => ?_)
                  · refine e_iload k4_63 (q := 65) rfl rfl ?_
                    refine e_const k4_65 (q := 66) rfl ?_
                    refine e_ic k4_66 (q := 69) rfl (fun c66 => ?_) (fun c66 => absurd (z_nI_m1 (by omega)) c66)
                    refine e_aload k4_74 (q := 75) rfl rfl ?_
                    refine e_iload k4_75 (q := 77) rfl rfl ?_
                    refine g_cv k4_77 (q := 80) (as := [_]) rfl rfl rfl rfl (m_numb1 hC hD hv) rfl (z_kr fun x77 h77 p77 => ?_)
                    obtain ⟨rfl, rfl⟩ := p77
                    refine e_ast (a := dm v) k4_80 (q := 82) (L' := [_, _, _, _, _, _, _, some (va_rf (some (dm v)))]) rfl rfl rfl ?_
                    refine e_iload k4_82 (q := 83) rfl rfl ?_
                    refine e_cs k4_83 (q := 86) (as := [_]) rfl rfl (Nat.le_of_ble_eq_true rfl) (m_looksAtDomain k) rfl (z_ki fun x83 h83 p83 => ?_)
                    obtain ⟨rfl, rfl⟩ := p83
                    refine e_if k4_86 (q := 89) rfl (fun c86 => ?_) (fun c86 => ?_)
                    · exact kk1 ⟨⟨c13, c19⟩, (Or.inr ⟨c32, c37⟩), (fun _ => ⟨c51, c58⟩), (fun z => absurd ((if_neg z).symm.trans c86) (by decide))⟩
                    · refine e_aload (a := dm v) k4_89 (q := 91) rfl rfl ?_
                      refine e_nnR k4_91 ?_
                      exact kk1 ⟨⟨c13, c19⟩, (Or.inr ⟨c32, c37⟩), (fun _ => ⟨c51, c58⟩), (fun _ z => by cases z)⟩
                  · refine e_const k4_61 (q := 62) rfl ?_
                    refine e_iret k4_62 ⟨_, rfl⟩ ?_
                    exact ⟨_, _, rfl, kk0 (fun ok => c58 (ok.2.2.1 (hlen c46)).2)⟩
            · refine e_const k4_40 (q := 41) rfl ?_
              refine e_iret k4_41 ⟨_, rfl⟩ ?_
              exact ⟨_, _, rfl, kk0 (fun ok => ok.2.1.elim c27 (fun z => c37 z.2))⟩
      · refine e_const k4_22 (q := 23) rfl ?_
        refine e_iret k4_23 ⟨_, rfl⟩ ?_
        exact ⟨_, _, rfl, kk0 (fun ok => c19 ok.1.2)⟩
theorem m_termG {d : Nat} {h : zH} {ρ : Nat → Nat → Option Nat} {σ : Nat → Nat → Int32} {nD : Nat} {dm : Nat → Nat} {na ne nt : Nat} {po lo ko wo : Option Nat} {sf : Bool} {f : Nat → Int32} {g tt : Nat → Option Nat} {i nm : Nat} (hC : z_CC σ nD) (hD : z_DD h σ ρ nD dm) (hi : i < nD) (h52 : 52 ≤ dm i) (hc : z_dc h (dm i) po sf na ne nt lo ko wo f g tt) {X : zE} (hF : z_FF X h) (hp : (lo = none ∧ nt = nm) ∨ (¬ lo = none ∧ nt + 1 = nm)) (hm : nm ≤ 8) {q k a n : Int32} {tg : Option Nat} (ht : z_tgo nD dm i a tg) : z_M (d + 3) 4 [.ref 1, .int (nI i), .int q, .int k, .int a, .int n] (z_G h σ ρ) (z_qi fun r h' => (¬ z_okt q k n tg → r = -1 ∧ h' = z_G h σ ρ) ∧ (z_okt q k n tg → (¬ (nm < 8 ∧ (k = 6 → lo = none)) → r = -2 ∧ h' = z_G h σ ρ) ∧ (nm < 8 ∧ (k = 6 → lo = none) → r = nI (nm + 1) ∧ ∃ h1, h' = z_G h1 σ ρ ∧ z_ch2 h1 h (dm i) ∧ (k = 6 → z_dc h1 (dm i) po sf na ne nt tg ko wo f g tt) ∧ (¬ k = 6 → z_dc h1 (dm i) po sf na ne (nt + 1) lo ko wo f g (va_up tt nt (some h.2.1)) ∧ h1.1 h.2.1 = some (.inr (7, [.int q, .int k, .int a, va_rf tg, .int n])))))) := by
  refine z_M.of ⟨Nat.le_of_ble_eq_true rfl, by simp [Value.category]⟩ (L := [some (.ref 1), some (.int (nI i)), some (.int q), some (.int k), some (.int a), some (.int n), none, none]) rfl ?_
  have hlt := z_lt hF.2.2 hc.1
  have hlt3 := z_lt hF.2.2 hc.2.2.2
  refine l_term hC hD hi ht (fun z => ⟨fun _ => ⟨rfl, rfl⟩, fun y => absurd y z⟩) (fun ok => ?_)
  refine e_aload k4_96 (q := 98) rfl rfl ?_
  refine e_iload k4_98 (q := 99) rfl rfl ?_
  refine d_cv k4_99 (q := 102) (as := [_]) rfl rfl h52 hc.1 rfl (m_hasRoom h52 hc hp hm k) rfl (z_ki fun x99 h99 p99 => ?_)
  obtain ⟨rfl, q1, q2⟩ := p99
  refine e_if k4_102 (q := 105) rfl (fun c102 => ?_) (fun c102 => ?_)
  · have room : nm < 8 ∧ (k = 6 → lo = none) := Classical.byContradiction (fun z => c102 (q2 z))
    clear q1 q2
    refine e_iload k4_108 (q := 109) rfl rfl ?_
    refine e_const k4_109 (q := 111) rfl ?_
    refine e_ic k4_111 (q := 114) rfl (fun c111 => ?_) (fun c111 => ?_)
    · refine e_aload k4_124 (q := 126) rfl rfl ?_
      refine d_new k4_126 (q := 129) (a := h.2.1) rfl hF.1 rfl ?_
      refine e_dup k4_129 (q := 130) rfl rfl ?_
      refine e_iload k4_130 (q := 131) rfl rfl ?_
      refine e_iload k4_131 (q := 132) rfl rfl ?_
      refine e_iload k4_132 (q := 134) rfl rfl ?_
      refine e_aloadq k4_134 (q := 136) rfl rfl ?_
      refine e_iload k4_136 (q := 138) rfl rfl ?_
      refine e_ci k4_138 (q := 141) (as := [_, _, _, _, _]) rfl rfl (Nat.le_of_ble_eq_true rfl) (m_termInit hF.1 (z_al_self _ _ _ rfl) q k a n tg) rfl (z_kv fun h138 p138 => ?_)
      obtain ⟨h1, rfl, q1, q2, q3⟩ := p138
      have hc1 : z_dc h1 (dm i) po sf na ne nt lo ko wo f g tt := by
        refine ⟨?_, ?_, ?_, ?_⟩
        · rw [q2 _ (by omega), z_al_ne _ _ _ (by omega)]; exact hc.1
        · rw [q2 _ (by omega), z_al_ne _ _ _ (by omega)]; exact hc.2.1
        · rw [q2 _ (by omega), z_al_ne _ _ _ (by omega)]; exact hc.2.2.1
        · rw [q2 _ (by omega), z_al_ne _ _ _ (by omega)]; exact hc.2.2.2
      have hnt8 : nt < 8 := by
        have := room.1
        rcases hp with z | z
        · omega
        · omega
      refine d_cv k4_141 (q := 144) (as := [_]) rfl rfl h52 ((q2 _ (by omega)).trans ((z_al_ne _ _ _ (by omega)).trans hc.1)) rfl (m_addTerm h52 hc1 hF.1 q1 hnt8) rfl (z_kv fun h141 p141 => ?_)
      obtain ⟨h2, rfl, w1, w2, w3⟩ := p141
      refine e_aload k4_144 (q := 146) rfl rfl ?_
      refine d_cv k4_146 (q := 149) (as := []) rfl rfl h52 w1.1 rfl (m_policySize (nm := nm + 1) h52 w1 (by rcases hp with z | z; exact Or.inl ⟨z.1, by omega⟩; exact Or.inr ⟨z.1, by omega⟩)) rfl (z_ki fun x146 h146 p146 => ?_)
      obtain ⟨rfl, rfl⟩ := p146
      refine e_iret k4_149 ⟨_, rfl⟩ ?_
      refine ⟨_, _, rfl, fun z => absurd ok z, fun _ => ⟨fun z => absurd room z, fun _ => ⟨rfl, _, rfl, ⟨?_, ?_, ?_, fun b hb hx => ?_, fun hF b hb => ?_⟩, fun z => absurd z c111, fun _ => ⟨w1, ?_⟩⟩⟩⟩
      · rw [w3, q3]; exact Nat.le_succ _
      · rw [w3, q3]; show h.2.1 + 1 ≤ _; omega
      · rw [w3, q3]; show h.2.2 + 5 ≤ _; omega
      · rw [w2 b hx, q2 b (by omega), z_al_ne _ _ _ (by omega)]
      · rw [w3, q3] at hb
        have hb : h.2.1 + 1 ≤ b := hb
        rw [w2 b (by omega), q2 b (by omega), z_al_ne _ _ _ (by omega)]
        exact hF b (by omega)
      · rw [w2 _ (by omega)]; exact q1
    · have hk : k = 6 := Classical.not_not.mp c111
      obtain rfl : lo = none := room.2 hk
      have hnt : nt = nm := by
        rcases hp with z | z
        · exact z.2
        · exact absurd rfl z.1
      obtain ⟨tv, rfl⟩ : ∃ tv, tg = some tv := by
        cases tg with
        | none => exact absurd rfl (ok.2.2.2 (by rw [hk]; decide))
        | some tv => exact ⟨tv, rfl⟩
      refine e_aload k4_114 (q := 116) rfl rfl ?_
      refine e_aload (a := tv) k4_116 (q := 118) rfl rfl ?_
      refine d_put k4_118 (q := 121) (fs' := [va_rf po, .int (z_bi sf), .ref (dm i + 1), .int (nI na), .ref (dm i + 2), .int (nI ne), .ref (dm i + 3), .int (nI nt), va_rf (some tv), va_rf ko, va_rf wo]) rfl h52 hc.1 (z_fitq (some tv)) rfl ?_
      have hnew : z_dc (z_st h (dm i) (.inr (1, [va_rf po, .int (z_bi sf), .ref (dm i + 1), .int (nI na), .ref (dm i + 2), .int (nI ne), .ref (dm i + 3), .int (nI nt), va_rf (some tv), va_rf ko, va_rf wo]))) (dm i) po sf na ne nt (some tv) ko wo f g tt := hc.up (fun _ _ => rfl)
      refine e_goto k4_121 ?_
      refine e_aload k4_144 (q := 146) rfl rfl ?_
      refine d_cv k4_146 (q := 149) (as := []) rfl rfl h52 hnew.1 rfl (m_policySize (nm := nm + 1) h52 hnew (Or.inr ⟨(by intro z; cases z), by omega⟩)) rfl (z_ki fun x146 h146 p146 => ?_)
      obtain ⟨rfl, rfl⟩ := p146
      refine e_iret k4_149 ⟨_, rfl⟩ ?_
      refine ⟨_, _, rfl, fun z => absurd ok z, fun _ => ⟨fun z => absurd room z, fun _ => ⟨rfl, _, rfl, ⟨Nat.le_refl _, Nat.le_add_right _ _, Nat.le_add_right _ _, fun b hb hx => z_st_ne _ _ (by omega), fun hF b hb => ?_⟩, fun _ => hnew, fun z => absurd hk z⟩⟩⟩
      have hb : h.2.1 ≤ b := hb
      rw [z_st_ne _ _ (by omega)]
      exact hF b hb
  · refine e_const k4_105 (q := 107) rfl ?_
    refine e_iret k4_107 ⟨_, rfl⟩ ?_
    have c : ¬ (nm < 8 ∧ (k = 6 → lo = none)) := fun z => by
      have := q1 z
      subst this
      exact c102 (by decide)
    exact ⟨_, _, rfl, fun z => absurd ok z, fun _ => ⟨fun _ => ⟨rfl, rfl⟩, fun z => absurd z c⟩⟩
