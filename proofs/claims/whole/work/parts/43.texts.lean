/-! The message, the list, the form: both. -/
/-- only scratch changed -/
def z_sc (σ' σ : Nat → Nat → Int32) : Prop := (∀ k, k = 1 ∨ k = 3 ∨ k = 6 ∨ k = 7 ∨ k = 11 ∨ k = 12 ∨ (18 < k ∧ k < 45) → σ' k = σ k) ∧ ∀ j, j ≠ 33 → j ≠ 36 → j ≠ 37 → j ≠ 42 → σ' 18 j = σ 18 j
theorem z_ew.sc {σ' σ : Nat → Nat → Int32} (h : z_ew σ' σ) : z_sc σ' σ := ⟨fun k hk => h k (by omega) (by omega) (by omega) (by omega) (by omega) (by omega) (by omega) (by omega) (by omega), fun j _ _ _ _ => by rw [h 18 (by decide) (by decide) (by decide) (by decide) (by decide) (by decide) (by decide) (by decide) (by decide)]⟩
theorem z_ey.sc {σ' σ : Nat → Nat → Int32} (h : z_ey σ' σ) : z_sc σ' σ := ⟨fun k hk => h.1 k (by omega) (by omega) (by omega) (by omega) (by omega) (by omega) (by omega) (by omega), h.2⟩
theorem z_sc.tr {a b c : Nat → Nat → Int32} (h1 : z_sc a b) (h2 : z_sc b c) : z_sc a c := ⟨fun k hk => (h1.1 k hk).trans (h2.1 k hk), fun j a b c d => (h1.2 j a b c d).trans (h2.2 j a b c d)⟩
theorem z_sc.tm {σ' σ : Nat → Nat → Int32} {n : Nat} (s : z_sc σ' σ) (h : z_tm σ n) : z_tm σ' n := by
  unfold z_tm
  rw [s.1 6 (by omega), s.1 7 (by omega)]
  exact h
theorem z_sc.tn {σ' σ : Nat → Nat → Int32} {n : Nat} (s : z_sc σ' σ) (h : z_tn σ n) : z_tn σ' n := by
  unfold z_tn
  rw [s.1 11 (by omega), s.1 12 (by omega)]
  exact h
theorem z_sc.xm {σ' σ : Nat → Nat → Int32} {n : Nat} (s : z_sc σ' σ) (h : z_xm σ n) : z_xm σ' n := by
  unfold z_xm
  rw [s.2 24 (by decide) (by decide) (by decide) (by decide)]
  exact h
theorem z_sc.xn {σ' σ : Nat → Nat → Int32} {n : Nat} (s : z_sc σ' σ) (h : z_xn σ n) : z_xn σ' n := by
  unfold z_xn
  rw [s.2 26 (by decide) (by decide) (by decide) (by decide)]
  exact h
/-- the message and the list: n and k signs -/
def z_TK (σ : Nat → Nat → Int32) (n k : Nat) : Prop := z_tm σ n ∧ z_tn σ k ∧ z_xm σ n ∧ z_xn σ k ∧ σ 39 = σ 7 ∧ σ 40 = σ 12 ∧ ∀ j, z_c7 (σ 7 j)
theorem z_sc.tk {σ' σ : Nat → Nat → Int32} {n k : Nat} (s : z_sc σ' σ) (h : z_TK σ n k) : z_TK σ' n k := by
  obtain ⟨c1, c2, c4, c5, c6, c7, c8⟩ := h
  exact ⟨s.tm c1, s.tn c2, s.xm c4, s.xn c5, by rw [s.1 39 (by omega), s.1 7 (by omega)]; exact c6, by rw [s.1 40 (by omega), s.1 12 (by omega)]; exact c7, by rw [s.1 7 (by omega)]; exact c8⟩
theorem z_TK.tt {σ : Nat → Nat → Int32} {n k : Nat} (h : z_TK σ n k) (hc : ∃ o, z_cs σ o) : z_TT σ := by
  obtain ⟨c1, c2, c4, c5, c6, c7, c8⟩ := h
  obtain ⟨o, ho⟩ := hc
  exact ⟨n, k, o, c1, c2, ho, c4, c5, c6, c7, c8⟩
theorem z_ey.cs {σ' σ : Nat → Nat → Int32} {out : List Int32} (h : z_ey σ' σ) (hc : z_cs σ out) : z_cs σ' out := hc.of (h.1 13 (by decide) (by decide) (by decide) (by decide) (by decide) (by decide) (by decide) (by decide)) (h.1 14 (by decide) (by decide) (by decide) (by decide) (by decide) (by decide) (by decide) (by decide))
theorem z_I.sc {X : zE} {h : zH} {σ σ' : Nat → Nat → Int32} {ρ : Nat → Nat → Option Nat} {nD ns n k : Nat} {dm : Nat → Nat} (hC : z_CC σ nD) (hD : z_DD h σ ρ nD dm) (hS : z_SS h σ ρ nD dm ns) (hT : z_TK σ n k) (hF : z_FF X h) (s : z_sc σ' σ) (hc : ∃ o, z_cs σ' o) : z_I X h σ' ρ :=
  z_I.chk hC hD hS ((s.tk hT).tt hc) hF (s.1 1 (by omega)) (fun k hk => s.1 k (by omega)) (fun k hk => s.1 k (by omega)) (fun j hj => s.2 j (by omega) (by omega) (by omega) (by omega)) (by rw [s.1 3 (by omega), s.2 18 (by decide) (by decide) (by decide) (by decide)]; exact hC.2.2.2.1) (by rw [s.1 3 (by omega), s.2 19 (by decide) (by decide) (by decide) (by decide)]; exact hC.2.2.2.2)
theorem z_ok10.c7 {c : Int32} (h : z_ok10 c) : z_c7 c := by
  rcases h with rfl | ⟨h1, h2⟩
  · exact z_c10
  · obtain ⟨m, hm, rfl⟩ := nI_of2 (M := 126) (n := 126) rfl (fun z => h1 (Int32.lt_trans z (by decide))) (Int32.not_lt.mp h2)
    exact ⟨m, by omega, rfl⟩
theorem z_ok58.c7 {c : Int32} (h : z_ok58 c) : z_c7 c := by
  rcases h with rfl | h
  · exact z_c58
  · have h0 : ¬ c < 0 := fun z => h (by
      unfold z_nm
      have z45 : c < 45 := Int32.lt_trans z (by decide)
      have z48 : c < 48 := Int32.lt_trans z (by decide)
      have z65 : c < 65 := Int32.lt_trans z (by decide)
      have z97 : c < 97 := Int32.lt_trans z (by decide)
      rw [if_neg (fun y => y.1 z65), if_neg (fun y => y.1 z97), if_neg (fun y => y.1 z48), if_neg (fun y => by rw [y] at z45; exact absurd z45 (by decide))])
    obtain ⟨m, hm, rfl⟩ := nI_of h0
    refine ⟨m, ?_, rfl⟩
    rcases Nat.lt_or_ge m 127 with z | z
    · exact z
    · exfalso
      apply h
      have g : ∀ b : Nat, b < 127 → ¬ nI m ≤ nI b := fun b hb => nI_ge (by omega) hm
      unfold z_nm
      rw [if_neg (fun y => g 90 (by decide) y.2), if_neg (fun y => g 122 (by decide) y.2), if_neg (fun y => g 57 (by decide) y.2), if_neg (fun y => by have := (nI_eq (b := 45) hm (by decide)).mp y; omega)]
theorem s_type {d : Nat} {X : zE} {h : zH} {σ : Nat → Nat → Int32} {ρ : Nat → Nat → Option Nat} (hI : z_I X h σ ρ) (c : Int32) : z_M (d + 2) 10 [.ref 1, .int c] (z_G h σ ρ) (z_qi fun r h' => z_mid X h' ∧ z_M (d + 2) 90 [.ref 18, .int c] h' (z_ok X h r)) := by
  obtain ⟨nD, dm, ns, hC, hD, hS, ⟨n0, k0, out, t1, t2, t3, t4, t5, t6, t7, t8⟩, hF⟩ := hI
  refine (m_type t1 c).mono ?_
  rintro r ⟨x, h', rfl, pa, pb⟩
  by_cases ok : z_ok10 c ∧ n0 < 240
  · obtain ⟨rfl, rfl⟩ := pa ok
    have hch := ok.1.c7.ch
    generalize hs : z_us (z_us σ 7 (upd (σ 7) n0 (z_ch c))) 6 (upd (σ 6) 1 (nI (n0 + 1))) = σ1
    have e0 : ∀ k, k ≠ 7 → k ≠ 6 → σ1 k = σ k := fun k a b => by rw [← hs, z_us_ne _ _ b, z_us_ne _ _ a]
    have e1 : σ1 7 = upd (σ 7) n0 (z_ch c) := by rw [← hs]; rfl
    have e2 : σ1 6 1 = nI (n0 + 1) := by rw [← hs]; rfl
    have hx : z_xm σ1 n0 := by
      unfold z_xm
      rw [e0 18 (by decide) (by decide)]
      exact t4
    refine ⟨_, _, rfl, z_mid.of hF.2.1, (m_typeM hx c).mono ?_⟩
    rintro r ⟨x, h', rfl, pc, -⟩
    obtain ⟨rfl, rfl⟩ := pc ok
    refine ⟨_, _, rfl, rfl, h, _, ρ, rfl, ?_, by omega, by omega⟩
    generalize hs2 : z_us (z_us σ1 39 (upd (σ1 39) n0 c)) 18 (upd (σ1 18) 24 (nI (n0 + 1))) = σ2
    have f0 : ∀ k, k ≠ 39 → k ≠ 18 → σ2 k = σ1 k := fun k a b => by rw [← hs2, z_us_ne _ _ b, z_us_ne _ _ a]
    have f1 : σ2 39 = upd (σ 39) n0 c := by rw [← hs2, z_us_ne _ _ (by decide), z_us_eq, e0 39 (by decide) (by decide)]
    have f2 : ∀ j, j ≠ 24 → σ2 18 j = σ 18 j := fun j hj => by rw [← hs2, z_us_eq, pk_un hj, e0 18 (by decide) (by decide)]
    have f3 : σ2 18 24 = nI (n0 + 1) := by rw [← hs2, z_us_eq]; exact pk_us
    have g0 : ∀ k, k ≠ 7 → k ≠ 6 → k ≠ 39 → k ≠ 18 → σ2 k = σ k := fun k a b c d => (f0 k c d).trans (e0 k a b)
    have g1 : σ2 7 = upd (σ 7) n0 c := by rw [f0 7 (by decide) (by decide), e1, hch]
    have g2 : σ2 6 1 = nI (n0 + 1) := by rw [f0 6 (by decide) (by decide), e2]
    refine z_I.chk hC hD hS ⟨n0 + 1, k0, out, ⟨g2, by omega, fun j hj => ?_⟩, ?_, ?_, ⟨f3, by omega⟩, ?_, ?_, ?_, fun j => ?_⟩ hF (g0 1 (by decide) (by decide) (by decide) (by decide)) (fun k hk => g0 k (by omega) (by omega) (by omega) (by omega)) (fun k hk => g0 k (by omega) (by omega) (by omega) (by omega)) (fun j hj => f2 j (by omega)) (by rw [g0 3 (by decide) (by decide) (by decide) (by decide), f2 18 (by decide)]; exact hC.2.2.2.1) (by rw [g0 3 (by decide) (by decide) (by decide) (by decide), f2 19 (by decide)]; exact hC.2.2.2.2)
    · rw [g1]
      by_cases z : j = n0
      · subst z; rw [pk_us]; exact ok.1.c7
      · rw [pk_un z]; exact t1.2.2 j (by omega)
    · unfold z_tn; rw [g0 11 (by decide) (by decide) (by decide) (by decide), g0 12 (by decide) (by decide) (by decide) (by decide)]; exact t2
    · unfold z_cs; rw [g0 13 (by decide) (by decide) (by decide) (by decide), g0 14 (by decide) (by decide) (by decide) (by decide)]; exact t3
    · unfold z_xn; rw [f2 26 (by decide)]; exact t5
    · rw [f1, g1, t6]
    · rw [g0 40 (by decide) (by decide) (by decide) (by decide), g0 12 (by decide) (by decide) (by decide) (by decide)]; exact t7
    · rw [g1]
      by_cases z : j = n0
      · subst z; rw [pk_us]; exact ok.1.c7
      · rw [pk_un z]; exact t8 j
  · obtain ⟨rfl, rfl⟩ := pb ok
    refine ⟨_, _, rfl, z_mid.of hF.2.1, (m_typeM t4 c).mono ?_⟩
    rintro r ⟨x, h', rfl, -, pd⟩
    obtain ⟨rfl, rfl⟩ := pd ok
    exact z_ok.same ⟨nD, dm, ns, hC, hD, hS, ⟨n0, k0, out, t1, t2, t3, t4, t5, t6, t7, t8⟩, hF⟩
theorem s_list {d : Nat} {X : zE} {h : zH} {σ : Nat → Nat → Int32} {ρ : Nat → Nat → Option Nat} (hI : z_I X h σ ρ) (c : Int32) : z_M (d + 2) 11 [.ref 1, .int c] (z_G h σ ρ) (z_qi fun r h' => z_mid X h' ∧ z_M (d + 2) 92 [.ref 18, .int c] h' (z_ok X h r)) := by
  obtain ⟨nD, dm, ns, hC, hD, hS, ⟨n0, k0, out, t1, t2, t3, t4, t5, t6, t7, t8⟩, hF⟩ := hI
  refine (m_list t2 c).mono ?_
  rintro r ⟨x, h', rfl, pa, pb⟩
  by_cases ok : z_ok58 c ∧ k0 < 60
  · obtain ⟨rfl, rfl⟩ := pa ok
    have hch := ok.1.c7.ch
    generalize hs : z_us (z_us σ 12 (upd (σ 12) k0 (z_ch c))) 11 (upd (σ 11) 1 (nI (k0 + 1))) = σ1
    have e0 : ∀ k, k ≠ 12 → k ≠ 11 → σ1 k = σ k := fun k a b => by rw [← hs, z_us_ne _ _ b, z_us_ne _ _ a]
    have e1 : σ1 12 = upd (σ 12) k0 (z_ch c) := by rw [← hs]; rfl
    have e2 : σ1 11 1 = nI (k0 + 1) := by rw [← hs]; rfl
    have hx : z_xn σ1 k0 := by
      unfold z_xn
      rw [e0 18 (by decide) (by decide)]
      exact t5
    refine ⟨_, _, rfl, z_mid.of hF.2.1, (m_listM hx c).mono ?_⟩
    rintro r ⟨x, h', rfl, pc, -⟩
    obtain ⟨rfl, rfl⟩ := pc ok
    refine ⟨_, _, rfl, rfl, h, _, ρ, rfl, ?_, by omega, by omega⟩
    generalize hs2 : z_us (z_us σ1 40 (upd (σ1 40) k0 c)) 18 (upd (σ1 18) 26 (nI (k0 + 1))) = σ2
    have f0 : ∀ k, k ≠ 40 → k ≠ 18 → σ2 k = σ1 k := fun k a b => by rw [← hs2, z_us_ne _ _ b, z_us_ne _ _ a]
    have f1 : σ2 40 = upd (σ 40) k0 c := by rw [← hs2, z_us_ne _ _ (by decide), z_us_eq, e0 40 (by decide) (by decide)]
    have f2 : ∀ j, j ≠ 26 → σ2 18 j = σ 18 j := fun j hj => by rw [← hs2, z_us_eq, pk_un hj, e0 18 (by decide) (by decide)]
    have f3 : σ2 18 26 = nI (k0 + 1) := by rw [← hs2, z_us_eq]; exact pk_us
    have g0 : ∀ k, k ≠ 12 → k ≠ 11 → k ≠ 40 → k ≠ 18 → σ2 k = σ k := fun k a b c d => (f0 k c d).trans (e0 k a b)
    have g1 : σ2 12 = upd (σ 12) k0 c := by rw [f0 12 (by decide) (by decide), e1, hch]
    have g2 : σ2 11 1 = nI (k0 + 1) := by rw [f0 11 (by decide) (by decide), e2]
    refine z_I.chk hC hD hS ⟨n0, k0 + 1, out, ?_, ⟨g2, by omega, fun j hj => ?_⟩, ?_, ?_, ⟨f3, by omega⟩, ?_, ?_, fun j => ?_⟩ hF (g0 1 (by decide) (by decide) (by decide) (by decide)) (fun k hk => g0 k (by omega) (by omega) (by omega) (by omega)) (fun k hk => g0 k (by omega) (by omega) (by omega) (by omega)) (fun j hj => f2 j (by omega)) (by rw [g0 3 (by decide) (by decide) (by decide) (by decide), f2 18 (by decide)]; exact hC.2.2.2.1) (by rw [g0 3 (by decide) (by decide) (by decide) (by decide), f2 19 (by decide)]; exact hC.2.2.2.2)
    · unfold z_tm; rw [g0 6 (by decide) (by decide) (by decide) (by decide), g0 7 (by decide) (by decide) (by decide) (by decide)]; exact t1
    · rw [g1]
      by_cases z : j = k0
      · subst z; rw [pk_us]; exact ok.1.c7
      · rw [pk_un z]; exact t2.2.2 j (by omega)
    · unfold z_cs; rw [g0 13 (by decide) (by decide) (by decide) (by decide), g0 14 (by decide) (by decide) (by decide) (by decide)]; exact t3
    · unfold z_xm; rw [f2 24 (by decide)]; exact t4
    · rw [g0 39 (by decide) (by decide) (by decide) (by decide), g0 7 (by decide) (by decide) (by decide) (by decide)]; exact t6
    · rw [f1, g1, t7]
    · rw [g0 7 (by decide) (by decide) (by decide) (by decide)]; exact t8 j
  · obtain ⟨rfl, rfl⟩ := pb ok
    refine ⟨_, _, rfl, z_mid.of hF.2.1, (m_listM t5 c).mono ?_⟩
    rintro r ⟨x, h', rfl, -, pd⟩
    obtain ⟨rfl, rfl⟩ := pd ok
    exact z_ok.same ⟨nD, dm, ns, hC, hD, hS, ⟨n0, k0, out, t1, t2, t3, t4, t5, t6, t7, t8⟩, hF⟩
theorem s_clear {d : Nat} {X : zE} {h : zH} {σ : Nat → Nat → Int32} {ρ : Nat → Nat → Option Nat} (hI : z_I X h σ ρ) : z_M (d + 2) 12 [.ref 1] (z_G h σ ρ) (z_qv fun h' => z_mid X h' ∧ z_M (d + 2) 93 [.ref 18] h' (z_qv fun h'' => ∃ h2 σ2 ρ2, h'' = z_G h2 σ2 ρ2 ∧ z_I X h2 σ2 ρ2 ∧ h2.2.1 ≤ h.2.1 + 4 ∧ h2.2.2 ≤ h.2.2 + 50)) := by
  obtain ⟨nD, dm, ns, hC, hD, hS, ⟨n0, k0, out, t1, t2, t3, t4, t5, t6, t7, t8⟩, hF⟩ := hI
  refine (m_clear t1 t2).mono ?_
  rintro r ⟨h', rfl, rfl⟩
  refine ⟨_, rfl, z_mid.of hF.2.1, m_clearM.mono ?_⟩
  rintro r ⟨h', rfl, rfl⟩
  refine ⟨_, rfl, h, _, ρ, rfl, ?_, by omega, by omega⟩
  generalize hs : z_us (z_us (z_us (z_us σ 6 (upd (σ 6) 1 0)) 11 (upd (σ 11) 1 0)) 1 (upd (σ 1) 7 0)) 18 (upd (upd (upd (z_us (z_us (z_us σ 6 (upd (σ 6) 1 0)) 11 (upd (σ 11) 1 0)) 1 (upd (σ 1) 7 0) 18) 24 0) 26 0) 28 0) = σ2
  have e0 : ∀ k, k ≠ 1 → k ≠ 6 → k ≠ 11 → k ≠ 18 → σ2 k = σ k := fun k a b c d => by rw [← hs, z_us_ne _ _ d, z_us_ne _ _ a, z_us_ne _ _ c, z_us_ne _ _ b]
  have e18 : σ2 18 = upd (upd (upd (σ 18) 24 0) 26 0) 28 0 := by rw [← hs]; rfl
  have e1 : σ2 1 = upd (σ 1) 7 0 := by rw [← hs]; rfl
  have e6 : σ2 6 = upd (σ 6) 1 0 := by rw [← hs]; rfl
  have e11 : σ2 11 = upd (σ 11) 1 0 := by rw [← hs]; rfl
  refine ⟨nD, dm, 0, ⟨hC.1, by rw [e1]; exact hC.2.1, by rw [e18]; exact hC.2.2.1, by rw [e0 3 (by decide) (by decide) (by decide) (by decide), e18]; exact hC.2.2.2.1, by rw [e0 3 (by decide) (by decide) (by decide) (by decide), e18]; exact hC.2.2.2.2⟩, hD.fr z_kp.rf (fun _ _ _ _ => rfl) rfl (fun k a b => e0 k (by omega) (by omega) (by omega) (by omega)), ⟨by decide, by rw [e1]; rfl, by rw [e18]; rfl, fun j hj => absurd hj (Nat.not_lt_zero _)⟩, ⟨0, 0, out, ⟨by rw [e6]; rfl, by decide, fun j hj => absurd hj (Nat.not_lt_zero _)⟩, ⟨by rw [e11]; rfl, by decide, fun j hj => absurd hj (Nat.not_lt_zero _)⟩, ?_, ⟨by rw [e18]; rfl, by decide⟩, ⟨by rw [e18]; rfl, by decide⟩, ?_, ?_, ?_⟩, hF⟩
  · unfold z_cs
    rw [e0 13 (by decide) (by decide) (by decide) (by decide), e0 14 (by decide) (by decide) (by decide) (by decide)]
    exact t3
  · rw [e0 39 (by decide) (by decide) (by decide) (by decide), e0 7 (by decide) (by decide) (by decide) (by decide)]; exact t6
  · rw [e0 40 (by decide) (by decide) (by decide) (by decide), e0 12 (by decide) (by decide) (by decide) (by decide)]; exact t7
  · rw [e0 7 (by decide) (by decide) (by decide) (by decide)]; exact t8
theorem s_fields {d : Nat} {X : zE} {h : zH} {σ : Nat → Nat → Int32} {ρ : Nat → Nat → Option Nat} (hI : z_I X h σ ρ) : z_M (d + 5) 13 [.ref 1] (z_G h σ ρ) (z_qi fun r h' => z_mid X h' ∧ z_M (d + 5) 97 [.ref 18] h' (z_ok X h r)) := by
  obtain ⟨nD, dm, ns, hC, hD, hS, ⟨n0, k0, out, t1, t2, t3, t4, t5, t6, t7, t8⟩, hF⟩ := hI
  refine (m_fields t1).mono ?_
  rintro r ⟨x, h', rfl, σ1, rfl, w1, ⟨w2, w3⟩, q1⟩
  have hT : z_TK σ n0 k0 := ⟨t1, t2, t4, t5, t6, t7, t8⟩
  refine ⟨_, _, rfl, z_mid.of hF.2.1, (m_fieldsM (w1.sc.xm t4)).mono ?_⟩
  rintro r ⟨y, h', rfl, σ2, rfl, w4, q2⟩
  refine ⟨_, _, rfl, ?_, h, σ2, ρ, rfl, z_I.sc hC hD hS hT hF (w4.sc.tr w1.sc) ⟨out, w4.cs (t3.of w2 w3)⟩, by omega, by omega⟩
  rw [w1.sc.1 39 (by omega), t6] at q2
  cases hz : z_rd (σ 7) n0 (z_ln (σ 7) n0 0 0) [] with
  | none => rw [hz] at q1 q2; rw [q1, q2]
  | some v => rw [hz] at q1 q2; rw [q1, q2]
theorem s_length {d : Nat} {X : zE} {h : zH} {σ : Nat → Nat → Int32} {ρ : Nat → Nat → Option Nat} (hI : z_I X h σ ρ) (rf rb : Bool) : z_M (d + 6) 14 [.ref 1, .int (z_bi rf), .int (z_bi rb)] (z_G h σ ρ) (z_qi fun r h' => z_mid X h' ∧ z_M (d + 6) 107 [.ref 18, .int (z_bi rf), .int (z_bi rb)] h' (z_ok X h r)) := by
  obtain ⟨nD, dm, ns, hC, hD, hS, ⟨n0, k0, out, t1, t2, t3, t4, t5, t6, t7, t8⟩, hF⟩ := hI
  refine (m_length rf rb t1 t2 t3).mono ?_
  rintro r ⟨x, h', rfl, σ1, rfl, w1, ⟨o1, w2⟩, q1⟩
  have hT : z_TK σ n0 k0 := ⟨t1, t2, t4, t5, t6, t7, t8⟩
  refine ⟨_, _, rfl, z_mid.of hF.2.1, (m_lengthM rf rb (w1.sc.xm t4) (w1.sc.xn t5)).mono ?_⟩
  rintro r ⟨y, h', rfl, σ2, rfl, w4, q2⟩
  refine ⟨_, _, rfl, ?_, h, σ2, ρ, rfl, z_I.sc hC hD hS hT hF (w4.sc.tr w1.sc) ⟨o1, w4.cs w2⟩, by omega, by omega⟩
  rw [w1.sc.1 39 (by omega), w1.sc.1 40 (by omega), t6, t7] at q2
  cases hz : z_cf (σ 7) (σ 12) n0 k0 rf rb with
  | none => rw [hz] at q1 q2; rw [q1, q2]
  | some v => rw [hz] at q1 q2; rw [q1, q2]
theorem s_at {d : Nat} {X : zE} {h : zH} {σ : Nat → Nat → Int32} {ρ : Nat → Nat → Option Nat} (hI : z_I X h σ ρ) (rf rb : Bool) (i : Int32) : z_M (d + 6) 15 [.ref 1, .int (z_bi rf), .int (z_bi rb), .int i] (z_G h σ ρ) (z_qi fun r h' => z_mid X h' ∧ z_M (d + 6) 108 [.ref 18, .int (z_bi rf), .int (z_bi rb), .int i] h' (z_ok X h r)) := by
  obtain ⟨nD, dm, ns, hC, hD, hS, ⟨n0, k0, out, t1, t2, t3, t4, t5, t6, t7, t8⟩, hF⟩ := hI
  refine (m_at rf rb t1 t2 t3 i).mono ?_
  rintro r ⟨x, h', rfl, σ1, rfl, w1, ⟨o1, w2⟩, q1⟩
  have hT : z_TK σ n0 k0 := ⟨t1, t2, t4, t5, t6, t7, t8⟩
  refine ⟨_, _, rfl, z_mid.of hF.2.1, (m_atM rf rb (w1.sc.xm t4) (w1.sc.xn t5) i).mono ?_⟩
  rintro r ⟨y, h', rfl, σ2, rfl, w4, q2⟩
  refine ⟨_, _, rfl, ?_, h, σ2, ρ, rfl, z_I.sc hC hD hS hT hF (w4.sc.tr w1.sc) ⟨o1, w4.cs w2⟩, by omega, by omega⟩
  rw [w1.sc.1 39 (by omega), w1.sc.1 40 (by omega), t6, t7] at q2
  cases hz : z_cf (σ 7) (σ 12) n0 k0 rf rb with
  | none => rw [hz] at q1 q2; rw [q1, q2]
  | some v => rw [hz] at q1 q2; rw [q1, q2]
theorem s_digest {d : Nat} {X : zE} {h : zH} {σ : Nat → Nat → Int32} {ρ : Nat → Nat → Option Nat} (hI : z_I X h σ ρ) (rf rb : Bool) : z_M (d + 6) 16 [.ref 1, .int (z_bi rf), .int (z_bi rb)] (z_G h σ ρ) (z_qi fun r h' => z_mid X h' ∧ z_M (d + 6) 109 [.ref 18, .int (z_bi rf), .int (z_bi rb)] h' (z_ok X h r)) := by
  obtain ⟨nD, dm, ns, hC, hD, hS, ⟨n0, k0, out, t1, t2, t3, t4, t5, t6, t7, t8⟩, hF⟩ := hI
  refine (m_digest rf rb t1 t2 t3).mono ?_
  rintro r ⟨x, h', rfl, σ1, rfl, w1, ⟨o1, w2⟩, q1⟩
  have hT : z_TK σ n0 k0 := ⟨t1, t2, t4, t5, t6, t7, t8⟩
  refine ⟨_, _, rfl, z_mid.of hF.2.1, (m_digestM rf rb (w1.sc.xm t4) (w1.sc.xn t5)).mono ?_⟩
  rintro r ⟨y, h', rfl, σ2, rfl, w4, q2⟩
  refine ⟨_, _, rfl, ?_, h, σ2, ρ, rfl, z_I.sc hC hD hS hT hF (w4.sc.tr w1.sc) ⟨o1, w4.cs w2⟩, by omega, by omega⟩
  rw [w1.sc.1 39 (by omega), w1.sc.1 40 (by omega), t6, t7] at q2
  cases hz : z_cf (σ 7) (σ 12) n0 k0 rf rb with
  | none => rw [hz] at q1 q2; rw [q1, q2]
  | some v => rw [hz] at q1 q2; rw [q1, q2]
