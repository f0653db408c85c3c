/-! One domain changed; addresses and exchangers. -/
theorem z_nmul (a b : Nat) : nI a * nI b = nI (a * b) := (Int32.ofNat_mul a b).symm
/-- what stands at a changes, something new may be made -/
def z_ch2 (h1 h : zH) (a : Nat) : Prop := h.2.1 ≤ h1.2.1 ∧ h1.2.1 ≤ h.2.1 + 4 ∧ h1.2.2 ≤ h.2.2 + 50 ∧ (∀ b, b < h.2.1 → b < a ∨ a + 4 ≤ b → h1.1 b = h.1 b) ∧ ((∀ b, h.2.1 ≤ b → h.1 b = none) → ∀ b, h1.2.1 ≤ b → h1.1 b = none)
theorem z_dc.ne {h : zH} {a na ne nt b ci : Nat} {po lo ko wo : Option Nat} {sf : Bool} {f : Nat → Int32} {g tt : Nat → Option Nat} {fs : List Value} (hc : z_dc h a po sf na ne nt lo ko wo f g tt) (h1 : ci ≠ 1) (hb : h.1 b = some (.inr (ci, fs))) : b < a ∨ a + 4 ≤ b := by
  obtain ⟨c1, c2, c3, c4⟩ := hc
  rcases Nat.lt_or_ge b a with z | z
  · exact Or.inl z
  · rcases Nat.lt_or_ge b (a + 4) with y | y
    · exfalso
      rcases (by omega : b = a ∨ b = a + 1 ∨ b = a + 2 ∨ b = a + 3) with rfl | rfl | rfl | rfl
      · rw [c1] at hb; cases hb; exact h1 rfl
      · rw [c2] at hb; cases hb
      · rw [c3] at hb; cases hb
      · rw [c4] at hb; cases hb
    · exact Or.inr y
theorem z_lt {h : zH} {b : Nat} {x : zE} (hF : ∀ a, h.2.1 ≤ a → h.1 a = none) (hb : h.1 b = some x) : b < h.2.1 := by
  rcases Nat.lt_or_ge b h.2.1 with z | z
  · exact z
  · rw [hF b z] at hb; cases hb
theorem z_ch2.kp {h1 h : zH} {a na ne nt : Nat} {po lo ko wo : Option Nat} {sf : Bool} {f : Nat → Int32} {g tt : Nat → Option Nat} (H : z_ch2 h1 h a) (hF : ∀ a, h.2.1 ≤ a → h.1 a = none) (hc : z_dc h a po sf na ne nt lo ko wo f g tt) : z_kp h1 h := fun b ci fs e hb => by
  rw [H.2.2.2.1 b (z_lt hF hb) (hc.ne e hb)]; exact hb
theorem z_ch2.x0 {X : zE} {h1 h : zH} {a : Nat} (H : z_ch2 h1 h a) (h52 : 52 ≤ a) (hF : z_FF X h) : h1.1 0 = some X := by
  rw [H.2.2.2.1 0 (z_lt hF.2.2 hF.2.1) (Or.inl (by omega))]; exact hF.2.1
/-- the state after a change of one domain -/
theorem z_I.up {X : zE} {h h1 : zH} {σ σ' : Nat → Nat → Int32} {ρ : Nat → Nat → Option Nat} {nD ns i : Nat} {dm : Nat → Nat} (hC : z_CC σ nD) (hD : z_DD h σ ρ nD dm) (hS : z_SS h σ ρ nD dm ns) (hT : z_TT σ) (hF : z_FF X h) (hi : i < nD) (hch : z_ch2 h1 h (dm i)) (hnew : z_dm h1 σ' dm nD i) (r0 : ∀ r, r < 19 ∨ 35 < r → σ' r = σ r) (r1 : ∀ j, j ≠ i → z_ri σ' σ j) : z_I X h1 σ' ρ := by
  obtain ⟨h52, po, sf, na, ne, nm, lo, ko, wo, f, g, tt, c1, -⟩ := (hD.1 i hi).2
  have hkp := hch.kp hF.2.2 c1
  have c1' := c1.1
  refine ⟨nD, dm, ns, ?_, ⟨fun j hj => ?_, hD.2.1, fun j hj => ?_⟩, hS.fr (Nat.le_refl _) (fun _ _ => rfl) hkp rfl (fun r a b => r0 r (by omega)) (by rw [r0 1 (by omega)]) (by rw [r0 18 (by omega)]), hT.fr (fun r hr => r0 r (by omega)) (by rw [r0 18 (by omega)]) (by rw [r0 18 (by omega)]), ?_⟩
  · unfold z_CC
    rw [r0 1 (by omega), r0 3 (by omega), r0 18 (by omega)]
    exact hC
  · refine ⟨(hD.1 j hj).1, ?_⟩
    by_cases e : j = i
    · subst e; exact hnew
    · refine (hD.1 j hj).2.fr hj (Nat.le_refl _) (fun _ _ => rfl) hkp (fun c hc => ?_) (r1 j e)
      obtain ⟨-, po', sf', na', ne', nm', lo', ko', wo', f', g', tt', e1, -⟩ := (hD.1 j hj).2
      refine hch.2.2.2.1 _ ?_ ?_
      · rcases (by omega : c = 0 ∨ c = 1 ∨ c = 2 ∨ c = 3) with rfl | rfl | rfl | rfl
        · exact z_lt hF.2.2 e1.1
        · exact z_lt hF.2.2 e1.2.1
        · exact z_lt hF.2.2 e1.2.2.1
        · exact z_lt hF.2.2 e1.2.2.2
      · rcases Nat.lt_or_gt_of_ne e with y | y
        · have := hD.2.1 j i y hi
          omega
        · have := hD.2.1 i j y hj
          omega
  · have hr := r1 j (by omega)
    rw [hr.1 21 (by decide) (by decide) (by decide) (by decide), hr.1 23 (by decide) (by decide) (by decide) (by decide), hr.1 25 (by decide) (by decide) (by decide) (by decide), hr.1 31 (by decide) (by decide) (by decide) (by decide)]
    exact hD.2.2 j hj
  · refine ⟨Nat.le_trans hF.1 hch.1, ?_, hch.2.2.2.2 hF.2.2⟩
    rw [hch.2.2.2.1 0 (z_lt hF.2.2 hF.2.1) (Or.inl (by omega))]
    exact hF.2.1
/-- nothing changed -/
theorem z_ok.same {X : zE} {h : zH} {σ : Nat → Nat → Int32} {ρ : Nat → Nat → Option Nat} {x : Int32} (hI : z_I X h σ ρ) : z_ok X h x (some (.int x), z_G h σ ρ) := ⟨_, _, rfl, rfl, h, σ, ρ, rfl, hI, by omega, by omega⟩
/-- domain: the class and the model -/
theorem s_domain {d : Nat} {X : zE} {h : zH} {σ : Nat → Nat → Int32} {ρ : Nat → Nat → Option Nat} (hI : z_I X h σ ρ) (p : Int32) (s : Bool) : z_M (d + 2) 1 [.ref 1, .int p, .int (z_bi s)] (z_G h σ ρ) (z_qi fun r h' => z_mid X h' ∧ z_M (d + 2) 72 [.ref 18, .int p, .int (z_bi s)] h' (z_ok X h r)) := by
  obtain ⟨nD, dm, ns, hC, hD, hS, hT, hF⟩ := hI
  have hn := hC.1
  by_cases hr : nD = 12 ∨ (z_nb nD p ∧ ¬ p = -1)
  · refine (m_domain0 hC hD s hr).mono ?_
    rintro r ⟨x, h', rfl, rfl, rfl⟩
    refine ⟨_, _, rfl, z_mid.of hF.2.1, (m_domainM0 hC.2.2.1 s hn hr).mono ?_⟩
    rintro r ⟨x, h', rfl, rfl, rfl⟩
    exact z_ok.same ⟨nD, dm, ns, hC, hD, hS, hT, hF⟩
  · have hn2 : nD < 12 := by
      have : ¬ nD = 12 := fun z => hr (Or.inl z)
      omega
    obtain ⟨po, hp, hp2⟩ : ∃ po : Option Nat, ((po = none ∧ p = -1) ∨ ∃ i, i < nD ∧ p = nI i ∧ po = some (dm i)) ∧ (p = -1 ∨ ¬ z_nb nD p) := by
      rcases z_nb_or hn p with z | ⟨i, hi, rfl⟩
      · have : p = -1 := Classical.not_not.mp (fun y => hr (Or.inr ⟨z, y⟩))
        exact ⟨none, Or.inl ⟨rfl, this⟩, Or.inl this⟩
      · exact ⟨some (dm i), Or.inr ⟨i, hi, rfl, rfl⟩, Or.inr (z_nb_no hn hi)⟩
    refine (m_domain1 hC hD s hn2 hp hF.1).mono ?_
    rintro r ⟨x, h', rfl, rfl, h1, rfl, q1, q2, q3, q4, q5⟩
    refine ⟨_, _, rfl, z_mid.of (by rw [q2 0 (by have := hF.1; omega)]; exact hF.2.1), (m_domainM1 (nD := nD) (by rw [z_us_ne _ _ (by decide)]; exact hC.2.2.1) s hn2 hp2).mono ?_⟩
    rintro r ⟨x, h', rfl, rfl, σ', rfl, e0, e1, e2, e3, e4⟩
    refine ⟨_, _, rfl, rfl, h1, σ', _, rfl, ?_, by omega, by omega⟩
    have s0 : ∀ k, k ≠ 1 → k ≠ 18 → k ≠ 19 → k ≠ 20 → k ≠ 27 → σ' k = σ k := fun k k1 k2 k3 k4 k5 => by rw [e0 k k2 k3 k4 k5, z_us_ne _ _ k1]
    have s1 : σ' 1 = upd (σ 1) 1 (nI (nD + 1)) := by rw [e0 1 (by decide) (by decide) (by decide) (by decide), z_us_eq]
    rw [z_us_ne _ _ (by decide)] at e1 e2 e3 e4
    have hkp : z_kp h1 h := fun b ci fs _ hb => by rw [q2 b (z_lt hF.2.2 hb)]; exact hb
    have hdm : ∀ e, e < nD → z_us dm nD h.2.1 e = dm e := fun e he => z_us_ne _ _ (by omega)
    have hlt : ∀ i, i < nD → dm i + 4 ≤ h.2.1 := fun i hi => by
      obtain ⟨-, po', sf', na', ne', nm', lo', ko', wo', f', g', tt', c1, -⟩ := (hD.1 i hi).2
      have := z_lt hF.2.2 c1.2.2.2
      omega
    have rr : ∀ i, i < nD → z_ri σ' σ i := fun i hi => by
      refine ⟨fun r a b c e => ?_, fun k hk => ⟨by rw [s0 22 (by decide) (by decide) (by decide) (by decide) (by decide)], by rw [s0 24 (by decide) (by decide) (by decide) (by decide) (by decide)]⟩, fun r a b j hj => by rw [s0 r (by omega) (by omega) (by omega) (by omega) (by omega)]⟩
      by_cases c1 : r = 19
      · subst c1; rw [e2]; exact pk_un (by omega)
      · by_cases c2 : r = 20
        · subst c2; rw [e3]; exact pk_un (by omega)
        · by_cases c3 : r = 27
          · subst c3; rw [e4]; exact pk_un (by omega)
          · rw [s0 r (by omega) (by omega) c1 c2 c3]
    refine ⟨nD + 1, z_us dm nD h.2.1, ns, ?_, ⟨fun i hi => ?_, fun i j hij hj => ?_, fun i hi => ?_⟩, hS.fr (by omega) hdm hkp rfl (fun r a b => s0 r (by omega) (by omega) (by omega) (by omega) (by omega)) (by rw [s1]; rfl) (by rw [e1]; rfl), hT.fr (fun r hr => s0 r (by omega) (by omega) (by omega) (by omega) (by omega)) (by rw [e1]; rfl) (by rw [e1]; rfl), ?_⟩
    · refine ⟨by omega, by rw [s1]; rfl, by rw [e1]; rfl, ?_, ?_⟩
      · rw [s0 3 (by decide) (by decide) (by decide) (by decide) (by decide), e1]; exact hC.2.2.2.1
      · rw [s0 3 (by decide) (by decide) (by decide) (by decide) (by decide), e1]; exact hC.2.2.2.2
    · by_cases e : i = nD
      · subst e
        obtain ⟨b1, b2, b3, b4⟩ := hD.2.2 i (Nat.le_refl _)
        refine ⟨by rw [z_us_eq, z_us_eq]; exact if_pos rfl, by rw [z_us_eq]; exact hF.1, po, s, 0, 0, 0, none, none, none, _, _, _, by rw [z_us_eq]; exact q1, by rw [e3]; exact if_pos rfl, ?_, ⟨by rw [s0 21 (by decide) (by decide) (by decide) (by decide) (by decide)]; exact b1, by decide, fun k hk => absurd hk (Nat.not_lt_zero _)⟩, ⟨by rw [s0 23 (by decide) (by decide) (by decide) (by decide) (by decide)]; exact b2, by decide, fun k hk => absurd hk (Nat.not_lt_zero _)⟩, ⟨by rw [s0 31 (by decide) (by decide) (by decide) (by decide) (by decide)]; exact b4, by decide, fun k hk => absurd hk (Nat.not_lt_zero _)⟩, Or.inl ⟨rfl, fun k hk => absurd hk (Nat.not_lt_zero _)⟩, Or.inl ⟨rfl, by rw [s0 25 (by decide) (by decide) (by decide) (by decide) (by decide)]; exact b3⟩, Or.inl ⟨rfl, by rw [e4]; exact if_pos rfl⟩⟩
        rcases hp with ⟨rfl, rfl⟩ | ⟨j, hj, rfl, rfl⟩
        · exact Or.inl ⟨rfl, by rw [e2]; exact if_pos rfl⟩
        · exact Or.inr ⟨j, hj, by rw [hdm j hj], by rw [e2]; exact if_pos rfl⟩
      · have hi' : i < nD := by omega
        refine ⟨?_, (hD.1 i hi').2.fr hi' (by omega) hdm hkp (fun c hc => q2 _ (by have := hlt i hi'; omega)) (rr i hi')⟩
        rw [hdm i hi', z_us_eq]
        exact (if_neg e).trans (hD.1 i hi').1
    · by_cases e : j = nD
      · subst e
        rw [z_us_eq, hdm i hij]
        exact hlt i hij
      · rw [hdm i (by omega), hdm j (by omega)]
        exact hD.2.1 i j hij (by omega)
    · rw [s0 21 (by decide) (by decide) (by decide) (by decide) (by decide), s0 23 (by decide) (by decide) (by decide) (by decide) (by decide), s0 25 (by decide) (by decide) (by decide) (by decide) (by decide), s0 31 (by decide) (by decide) (by decide) (by decide) (by decide)]
      exact hD.2.2 i (by omega)
    · refine ⟨by rw [q4]; have := hF.1; omega, ?_, fun a ha => ?_⟩
      · rw [q2 0 (by have := hF.1; omega)]; exact hF.2.1
      · rw [q4] at ha
        rw [q3 a ha]
        exact hF.2.2 a (by omega)
