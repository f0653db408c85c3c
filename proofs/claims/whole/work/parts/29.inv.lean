/-! The state: what the class's cells and the model's rows have in common. -/
def z_nb (nD : Nat) (x : Int32) : Prop := x < 0 ∨ ¬ x < nI nD
theorem z_nb_or {nD : Nat} (hn : nD ≤ 12) (x : Int32) : z_nb nD x ∨ ∃ i, i < nD ∧ x = nI i := by
  by_cases h0 : x < 0
  · exact Or.inl (Or.inl h0)
  · by_cases h1 : x < nI nD
    · obtain ⟨j, hj, rfl⟩ := nI_of h0
      exact Or.inr ⟨j, (nI_ltI hj (by omega)).mp h1, rfl⟩
    · exact Or.inl (Or.inr h1)
theorem z_nb_no {nD i : Nat} (hn : nD ≤ 12) (hi : i < nD) : ¬ z_nb nD (nI i) := by
  rintro (h | h)
  · exact nI_pos (by omega) h
  · exact h (nI_lt hi (by omega))
theorem z_nb_m1 (nD : Nat) : z_nb nD (-1) := Or.inl (by decide)
theorem z_catq (q : Option Nat) : (va_rf q).category = 1 := by cases q <;> rfl
theorem z_fitq (q : Option Nat) : va_rf q = .null ∨ ∃ a, va_rf q = .ref a := by
  cases q with
  | none => exact Or.inl rfl
  | some a => exact Or.inr ⟨a, rfl⟩
theorem z_fitb (b : Bool) : z_fit .boolean (.int (z_bi b)) := by
  cases b
  · exact Or.inl rfl
  · exact Or.inr rfl
theorem z_narb (b : Bool) : vp_nar .boolean (z_bi b) = z_bi b := by cases b <;> rfl
/-- the terms before place m that are no leads -/
def z_ct (k : Nat → Int32) (b : Nat) : Nat → Nat
  | 0 => 0
  | m + 1 => z_ct k b m + (if k (b + m) = 6 then 0 else 1)
theorem z_ct_le (k : Nat → Int32) (b : Nat) : ∀ m, z_ct k b m ≤ m
  | 0 => Nat.le_refl _
  | m + 1 => by
    have := z_ct_le k b m
    rw [z_ct]
    split <;> omega
theorem z_ct_cg {k k' : Nat → Int32} {b : Nat} : ∀ m, (∀ j, j < m → k' (b + j) = k (b + j)) → z_ct k' b m = z_ct k b m
  | 0, _ => rfl
  | m + 1, h => by rw [z_ct, z_ct, z_ct_cg m (fun j hj => h j (by omega)), h m (by omega)]
theorem z_ct_all {k : Nat → Int32} {b : Nat} : ∀ m, (∀ j, j < m → ¬ k (b + j) = 6) → z_ct k b m = m
  | 0, _ => rfl
  | m + 1, h => by rw [z_ct, z_ct_all m (fun j hj => h j (by omega)), if_neg (h m (by omega))]
theorem z_ct_one {k : Nat → Int32} {b j : Nat} : ∀ m, j < m → k (b + j) = 6 → (∀ j', j' < m → k (b + j') = 6 → j' = j) → z_ct k b m + 1 = m
  | 0, h, _, _ => absurd h (Nat.not_lt_zero _)
  | m + 1, h, e, u => by
    rw [z_ct]
    by_cases c : j = m
    · subst c
      rw [if_pos e, z_ct_all j (fun j' h' e' => by have := u j' (by omega) e'; omega)]
    · rw [if_neg (fun z => c (u m (by omega) z).symm)]
      have := z_ct_one m (by omega) e (fun j' h' => u j' (by omega))
      omega
theorem z_ct_mono (k : Nat → Int32) (b : Nat) : ∀ {j m : Nat}, j ≤ m → z_ct k b j ≤ z_ct k b m
  | j, 0, h => by
    obtain rfl : j = 0 := by omega
    exact Nat.le_refl _
  | j, m + 1, h => by
    by_cases c : j = m + 1
    · subst c; exact Nat.le_refl _
    · have := z_ct_mono k b (j := j) (m := m) (by omega)
      rw [z_ct]
      omega
theorem z_ct_lt (k : Nat → Int32) (b : Nat) {j m : Nat} (h : j < m) (hk : ¬ k (b + j) = 6) : z_ct k b j < z_ct k b m := by
  have h1 := z_ct_mono k b (j := j + 1) (m := m) h
  rw [z_ct, if_neg hk] at h1
  omega
/-- a term's cell t says what row place q says -/
def z_tr (h : zH) (σ : Nat → Nat → Int32) (dm : Nat → Nat) (nD t q : Nat) : Prop := 52 ≤ t ∧ ∃ (kd ql : Nat) (num : Int32) (tg : Option Nat), h.1 t = some (.inr (7, [.int (nI ql), .int (nI kd), .int num, va_rf tg, .int (σ 35 q)])) ∧ σ 32 q = nI ql ∧ 1 ≤ ql ∧ ql ≤ 4 ∧ σ 33 q = nI kd ∧ kd ≤ 5 ∧ (kd = 1 → num = σ 34 q) ∧ (2 ≤ kd → ∃ e, e < nD ∧ σ 34 q = nI e ∧ tg = some (dm e)) ∧ (1 ≤ kd → kd ≤ 3 → ∃ b, b ≤ 32 ∧ σ 35 q = nI b)
def z_dP (σ : Nat → Nat → Int32) (dm : Nat → Nat) (i : Nat) (po : Option Nat) : Prop := (po = none ∧ σ 19 i = -1) ∨ ∃ p, p < i ∧ po = some (dm p) ∧ σ 19 i = nI p
def z_dA (σ : Nat → Nat → Int32) (i na : Nat) (f : Nat → Int32) : Prop := σ 21 i = nI na ∧ na ≤ 3 ∧ ∀ k, k < na → f k = σ 22 (3 * i + k)
def z_dE (σ : Nat → Nat → Int32) (dm : Nat → Nat) (nD i ne : Nat) (g : Nat → Option Nat) : Prop := σ 23 i = nI ne ∧ ne ≤ 3 ∧ ∀ k, k < ne → ∃ e, e < nD ∧ σ 24 (3 * i + k) = nI e ∧ g k = some (dm e)
def z_dT (h : zH) (σ : Nat → Nat → Int32) (dm : Nat → Nat) (nD i nm : Nat) (tt : Nat → Option Nat) : Prop := σ 31 i = nI nm ∧ nm ≤ 8 ∧ ∀ j, j < nm → ¬ σ 33 (8 * i + j) = 6 → ∃ t, tt (z_ct (σ 33) (8 * i) j) = some t ∧ z_tr h σ dm nD t (8 * i + j)
def z_dL (σ : Nat → Nat → Int32) (dm : Nat → Nat) (nD i nm : Nat) (lo : Option Nat) : Prop := (lo = none ∧ ∀ j, j < nm → ¬ σ 33 (8 * i + j) = 6) ∨ ∃ j l, j < nm ∧ l < nD ∧ lo = some (dm l) ∧ σ 33 (8 * i + j) = 6 ∧ σ 34 (8 * i + j) = nI l ∧ ∀ j', j' < nm → σ 33 (8 * i + j') = 6 → j' = j
def z_dK (h : zH) (σ : Nat → Nat → Int32) (i : Nat) (ko : Option Nat) : Prop := (ko = none ∧ σ 25 i = 0) ∨ ∃ a M E, ko = some a ∧ 52 ≤ a ∧ h.1 a = some (.inr (8, [.int (nI M), .int (nI E)])) ∧ 2 ≤ M ∧ M < 2 ^ 31 ∧ E < 2 ^ 31 ∧ σ 25 i = nI M ∧ σ 26 i = nI E
def z_dW (h : zH) (σ : Nat → Nat → Int32) (i : Nat) (wo : Option Nat) : Prop := (wo = none ∧ σ 27 i = -1) ∨ ∃ a ow bl s g, wo = some a ∧ 52 ≤ a ∧ h.1 a = some (.inr (9, [.int (nI ow), .int (nI bl), .int (z_bi s), .int (z_bi g)])) ∧ ow ≤ 2 ∧ bl ≤ 2 ∧ σ 27 i = nI ow ∧ σ 28 i = nI bl ∧ σ 29 i = z_bi s ∧ σ 30 i = z_bi g
/-- a domain's four cells -/
def z_dc (h : zH) (a : Nat) (po : Option Nat) (sf : Bool) (na ne nt : Nat) (lo ko wo : Option Nat) (f : Nat → Int32) (g tt : Nat → Option Nat) : Prop := h.1 a = some (.inr (1, [va_rf po, .int (z_bi sf), .ref (a + 1), .int (nI na), .ref (a + 2), .int (nI ne), .ref (a + 3), .int (nI nt), va_rf lo, va_rf ko, va_rf wo])) ∧ h.1 (a + 1) = some (.inl (.int, 3, .inl f)) ∧ h.1 (a + 2) = some (.inl (.object "MailVerdicts$Domain", 3, .inr (.inr (.inr (.inr g))))) ∧ h.1 (a + 3) = some (.inl (.object "MailVerdicts$Term", 8, .inr (.inr (.inr (.inr tt)))))
/-- domain i -/
def z_dm (h : zH) (σ : Nat → Nat → Int32) (dm : Nat → Nat) (nD i : Nat) : Prop := 52 ≤ dm i ∧ ∃ (po : Option Nat) (sf : Bool) (na ne nm : Nat) (lo ko wo : Option Nat) (f : Nat → Int32) (g tt : Nat → Option Nat), z_dc h (dm i) po sf na ne (z_ct (σ 33) (8 * i) nm) lo ko wo f g tt ∧ σ 20 i = z_bi sf ∧ z_dP σ dm i po ∧ z_dA σ i na f ∧ z_dE σ dm nD i ne g ∧ z_dT h σ dm nD i nm tt ∧ z_dL σ dm nD i nm lo ∧ z_dK h σ i ko ∧ z_dW h σ i wo
/-- cells that are no domains' stay -/
def z_kp (h' h : zH) : Prop := ∀ a ci fs, ci ≠ 1 → h.1 a = some (.inr (ci, fs)) → h'.1 a = some (.inr (ci, fs))
theorem z_kp.rf {h : zH} : z_kp h h := fun _ _ _ _ x => x
section zFr
variable {h h' : zH} {σ σ' : Nat → Nat → Int32} {dm dm' : Nat → Nat} {nD nD' i : Nat}
theorem z_dP.fr {po : Option Nat} (H : z_dP σ dm i po) (hi : i ≤ nD) (hd : ∀ e, e < nD → dm' e = dm e) (r : σ' 19 i = σ 19 i) : z_dP σ' dm' i po := by
  rcases H with ⟨e1, e2⟩ | ⟨p, hp, e1, e2⟩
  · exact Or.inl ⟨e1, r.trans e2⟩
  · exact Or.inr ⟨p, hp, by rw [hd p (by omega)]; exact e1, r.trans e2⟩
theorem z_dA.fr {na : Nat} {f : Nat → Int32} (H : z_dA σ i na f) (r : σ' 21 i = σ 21 i) (r2 : ∀ k, k < 3 → σ' 22 (3 * i + k) = σ 22 (3 * i + k)) : z_dA σ' i na f :=
  ⟨r.trans H.1, H.2.1, fun k hk => by have := H.2.1; rw [r2 k (by omega)]; exact H.2.2 k hk⟩
theorem z_dE.fr {ne : Nat} {g : Nat → Option Nat} (H : z_dE σ dm nD i ne g) (hn : nD ≤ nD') (hd : ∀ e, e < nD → dm' e = dm e) (r : σ' 23 i = σ 23 i) (r2 : ∀ k, k < 3 → σ' 24 (3 * i + k) = σ 24 (3 * i + k)) : z_dE σ' dm' nD' i ne g :=
  ⟨r.trans H.1, H.2.1, fun k hk => by
    have := H.2.1
    obtain ⟨e, he, h1, h2⟩ := H.2.2 k hk
    exact ⟨e, by omega, by rw [r2 k (by omega)]; exact h1, by rw [hd e he]; exact h2⟩⟩
theorem z_tr.fr {t q : Nat} (H : z_tr h σ dm nD t q) (hn : nD ≤ nD') (hd : ∀ e, e < nD → dm' e = dm e) (ho : z_kp h' h) (r : ∀ r, 32 ≤ r → r ≤ 35 → σ' r q = σ r q) : z_tr h' σ' dm' nD' t q := by
  obtain ⟨h1, kd, ql, num, tg, h2, h3, h4, h5, h6, h7, h8, h9, h10⟩ := H
  refine ⟨h1, kd, ql, num, tg, ?_, ?_, h4, h5, ?_, h7, ?_, ?_, ?_⟩
  · rw [r 35 (by decide) (by decide)]; exact ho _ _ _ (by decide) h2
  · rw [r 32 (by decide) (by decide)]; exact h3
  · rw [r 33 (by decide) (by decide)]; exact h6
  · rw [r 34 (by decide) (by decide)]; exact h8
  · intro z
    obtain ⟨e, he, e1, e2⟩ := h9 z
    exact ⟨e, by omega, by rw [r 34 (by decide) (by decide)]; exact e1, by rw [hd e he]; exact e2⟩
  · rw [r 35 (by decide) (by decide)]; exact h10
theorem z_dT.fr {nm : Nat} {tt : Nat → Option Nat} (H : z_dT h σ dm nD i nm tt) (hn : nD ≤ nD') (hd : ∀ e, e < nD → dm' e = dm e) (ho : z_kp h' h) (r : σ' 31 i = σ 31 i) (r3 : ∀ r, 32 ≤ r → r ≤ 35 → ∀ j, j < 8 → σ' r (8 * i + j) = σ r (8 * i + j)) : z_dT h' σ' dm' nD' i nm tt := by
  have hm := H.2.1
  refine ⟨r.trans H.1, hm, fun j hj => ?_⟩
  rw [r3 33 (by decide) (by decide) j (by omega), z_ct_cg j (fun j' h' => r3 33 (by decide) (by decide) j' (by omega))]
  intro hk
  obtain ⟨t, h1, h2⟩ := H.2.2 j hj hk
  exact ⟨t, h1, h2.fr hn hd ho (fun r a b => r3 r a b j (by omega))⟩
theorem z_dL.fr {nm : Nat} {lo : Option Nat} (H : z_dL σ dm nD i nm lo) (hm : nm ≤ 8) (hn : nD ≤ nD') (hd : ∀ e, e < nD → dm' e = dm e) (r3 : ∀ r, 32 ≤ r → r ≤ 35 → ∀ j, j < 8 → σ' r (8 * i + j) = σ r (8 * i + j)) : z_dL σ' dm' nD' i nm lo := by
  rcases H with ⟨e1, e2⟩ | ⟨j, l, hj, hl, e1, e2, e3, e4⟩
  · exact Or.inl ⟨e1, fun j hj => by rw [r3 33 (by decide) (by decide) j (by omega)]; exact e2 j hj⟩
  · exact Or.inr ⟨j, l, hj, by omega, by rw [hd l hl]; exact e1, by rw [r3 33 (by decide) (by decide) j (by omega)]; exact e2, by rw [r3 34 (by decide) (by decide) j (by omega)]; exact e3, fun j' h' => by rw [r3 33 (by decide) (by decide) j' (by omega)]; exact e4 j' h'⟩
theorem z_dK.fr {ko : Option Nat} (H : z_dK h σ i ko) (ho : z_kp h' h) (r1 : σ' 25 i = σ 25 i) (r2 : σ' 26 i = σ 26 i) : z_dK h' σ' i ko := by
  rcases H with ⟨e1, e2⟩ | ⟨a, M, E, e1, e2, e3, e4, e5, e6, e7, e8⟩
  · exact Or.inl ⟨e1, r1.trans e2⟩
  · exact Or.inr ⟨a, M, E, e1, e2, ho _ _ _ (by decide) e3, e4, e5, e6, r1.trans e7, r2.trans e8⟩
theorem z_dW.fr {wo : Option Nat} (H : z_dW h σ i wo) (ho : z_kp h' h) (r : ∀ r, 27 ≤ r → r ≤ 30 → σ' r i = σ r i) : z_dW h' σ' i wo := by
  rcases H with ⟨e1, e2⟩ | ⟨a, ow, bl, s, g, e1, e2, e3, e4, e5, e6, e7, e8, e9⟩
  · exact Or.inl ⟨e1, (r 27 (by decide) (by decide)).trans e2⟩
  · exact Or.inr ⟨a, ow, bl, s, g, e1, e2, ho _ _ _ (by decide) e3, e4, e5, (r 27 (by decide) (by decide)).trans e6, (r 28 (by decide) (by decide)).trans e7, (r 29 (by decide) (by decide)).trans e8, (r 30 (by decide) (by decide)).trans e9⟩
/-- rows of domain i that stay -/
def z_ri (σ' σ : Nat → Nat → Int32) (i : Nat) : Prop := (∀ r, 19 ≤ r → r ≤ 31 → r ≠ 22 → r ≠ 24 → σ' r i = σ r i) ∧ (∀ k, k < 3 → σ' 22 (3 * i + k) = σ 22 (3 * i + k) ∧ σ' 24 (3 * i + k) = σ 24 (3 * i + k)) ∧ ∀ r, 32 ≤ r → r ≤ 35 → ∀ j, j < 8 → σ' r (8 * i + j) = σ r (8 * i + j)
theorem z_dm.fr (H : z_dm h σ dm nD i) (hi : i < nD) (hn : nD ≤ nD') (hd : ∀ e, e < nD → dm' e = dm e) (ho : z_kp h' h) (hc : ∀ c, c < 4 → h'.1 (dm i + c) = h.1 (dm i + c)) (r : z_ri σ' σ i) : z_dm h' σ' dm' nD' i := by
  obtain ⟨h52, po, sf, na, ne, nm, lo, ko, wo, f, g, tt, c1, c2, c3, c4, c5, c6, c7, c8, c9⟩ := H
  obtain ⟨r1, r2, r3⟩ := r
  have hm := c6.2.1
  refine ⟨by rw [hd i hi]; exact h52, po, sf, na, ne, nm, lo, ko, wo, f, g, tt, ?_, (r1 20 (by decide) (by decide) (by decide) (by decide)).trans c2, c3.fr (by omega) hd (r1 19 (by decide) (by decide) (by decide) (by decide)), c4.fr (r1 21 (by decide) (by decide) (by decide) (by decide)) (fun k hk => (r2 k hk).1), c5.fr hn hd (r1 23 (by decide) (by decide) (by decide) (by decide)) (fun k hk => (r2 k hk).2), c6.fr hn hd ho (r1 31 (by decide) (by decide) (by decide) (by decide)) r3, c7.fr hm hn hd r3, c8.fr ho (r1 25 (by decide) (by decide) (by decide) (by decide)) (r1 26 (by decide) (by decide) (by decide) (by decide)), c9.fr ho (fun r a b => r1 r (by omega) (by omega) (by omega) (by omega))⟩
  rw [hd i hi, z_ct_cg nm (fun j hj => r3 33 (by decide) (by decide) j (by omega))]
  obtain ⟨d1, d2, d3, d4⟩ := c1
  exact ⟨(hc 0 (by decide)).trans d1, (hc 1 (by decide)).trans d2, (hc 2 (by decide)).trans d3, (hc 3 (by decide)).trans d4⟩
end zFr
def z_DD (h : zH) (σ : Nat → Nat → Int32) (ρ : Nat → Nat → Option Nat) (nD : Nat) (dm : Nat → Nat) : Prop := (∀ i, i < nD → ρ 2 i = some (dm i) ∧ z_dm h σ dm nD i) ∧ (∀ i j, i < j → j < nD → dm i + 4 ≤ dm j) ∧ ∀ i, nD ≤ i → σ 21 i = 0 ∧ σ 23 i = 0 ∧ σ 25 i = 0 ∧ σ 31 i = 0
def z_SS (h : zH) (σ : Nat → Nat → Int32) (ρ : Nat → Nat → Option Nat) (nD : Nat) (dm : Nat → Nat) (ns : Nat) : Prop := ns ≤ 3 ∧ σ 1 7 = nI ns ∧ σ 18 28 = nI ns ∧ ∀ j, j < ns → ∃ a sg rf rb, ρ 17 j = some a ∧ 52 ≤ a ∧ h.1 a = some (.inr (6, [.ref (dm sg), .int (z_bi rf), .int (z_bi rb), .int (σ 44 j)])) ∧ sg < nD ∧ σ 41 j = nI sg ∧ σ 42 j = z_bi rf ∧ σ 43 j = z_bi rb
def z_TT (σ : Nat → Nat → Int32) : Prop := ∃ n k out, z_tm σ n ∧ z_tn σ k ∧ z_cs σ out ∧ z_xm σ n ∧ z_xn σ k ∧ σ 39 = σ 7 ∧ σ 40 = σ 12 ∧ ∀ j, z_c7 (σ 7 j)
def z_FF (X : zE) (h : zH) : Prop := 52 ≤ h.2.1 ∧ h.1 0 = some X ∧ ∀ a, h.2.1 ≤ a → h.1 a = none
/-- between the class's call and the model's: the script, and the model's cell -/
def z_mid (X : zE) (h' : zH) : Prop := h'.1 0 = some X ∧ ∃ fs, h'.1 18 = some (.inr (10, fs))
theorem z_mid.of {X : zE} {h : zH} {σ : Nat → Nat → Int32} {ρ : Nat → Nat → Option Nat} (h0 : h.1 0 = some X) : z_mid X (z_G h σ ρ) := ⟨h0, _, z_G_fix rfl⟩
def z_CC (σ : Nat → Nat → Int32) (nD : Nat) : Prop := nD ≤ 12 ∧ σ 1 1 = nI nD ∧ σ 18 0 = nI nD ∧ σ 3 1 = σ 18 18 ∧ σ 3 2 = σ 18 19
/-- the state -/
def z_I (X : zE) (h : zH) (σ : Nat → Nat → Int32) (ρ : Nat → Nat → Option Nat) : Prop := ∃ nD dm ns, z_CC σ nD ∧ z_DD h σ ρ nD dm ∧ z_SS h σ ρ nD dm ns ∧ z_TT σ ∧ z_FF X h
/-- after a call of the class and of the model: the same answer x, the state again, little room taken -/
def z_ok (X : zE) (h : zH) (x : Int32) : zR → Prop := z_qi fun y h'' => y = x ∧ ∃ h2 σ2 ρ2, h'' = z_G h2 σ2 ρ2 ∧ z_I X h2 σ2 ρ2 ∧ h2.2.1 ≤ h.2.1 + 4 ∧ h2.2.2 ≤ h.2.2 + 50
theorem z_SS.fr {h h' : zH} {σ σ' : Nat → Nat → Int32} {ρ ρ' : Nat → Nat → Option Nat} {dm dm' : Nat → Nat} {nD nD' ns : Nat} (H : z_SS h σ ρ nD dm ns) (hn : nD ≤ nD') (hd : ∀ e, e < nD → dm' e = dm e) (ho : z_kp h' h) (h17 : ρ' 17 = ρ 17) (r : ∀ r, 41 ≤ r → r ≤ 44 → σ' r = σ r) (h1 : σ' 1 7 = σ 1 7) (h2 : σ' 18 28 = σ 18 28) : z_SS h' σ' ρ' nD' dm' ns := by
  refine ⟨H.1, h1.trans H.2.1, h2.trans H.2.2.1, fun j hj => ?_⟩
  obtain ⟨a, sg, rf, rb, c1, c2, c3, c4, c5, c6, c7⟩ := H.2.2.2 j hj
  refine ⟨a, sg, rf, rb, by rw [h17]; exact c1, c2, ?_, by omega, ?_, ?_, ?_⟩
  · rw [r 44 (by decide) (by decide), hd sg c4]; exact ho _ _ _ (by decide) c3
  · rw [r 41 (by decide) (by decide)]; exact c5
  · rw [r 42 (by decide) (by decide)]; exact c6
  · rw [r 43 (by decide) (by decide)]; exact c7
theorem z_TT.fr {σ σ' : Nat → Nat → Int32} (H : z_TT σ) (r : ∀ r, r = 6 ∨ r = 7 ∨ r = 11 ∨ r = 12 ∨ r = 13 ∨ r = 14 ∨ r = 39 ∨ r = 40 → σ' r = σ r) (h1 : σ' 18 24 = σ 18 24) (h2 : σ' 18 26 = σ 18 26) : z_TT σ' := by
  obtain ⟨n, k, out, c1, c2, c3, c4, c5, c6, c7, c8⟩ := H
  refine ⟨n, k, out, ?_, ?_, ?_, ?_, ?_, ?_, ?_, ?_⟩
  · unfold z_tm; rw [r 6 (by decide), r 7 (by decide)]; exact c1
  · unfold z_tn; rw [r 11 (by decide), r 12 (by decide)]; exact c2
  · unfold z_cs; rw [r 13 (by decide), r 14 (by decide)]; exact c3
  · unfold z_xm; rw [h1]; exact c4
  · unfold z_xn; rw [h2]; exact c5
  · rw [r 39 (by decide), r 7 (by decide)]; exact c6
  · rw [r 40 (by decide), r 12 (by decide)]; exact c7
  · rw [r 7 (by decide)]; exact c8
/-- all domains stay, the rows of domains too -/
theorem z_DD.fr {h h' : zH} {σ σ' : Nat → Nat → Int32} {ρ ρ' : Nat → Nat → Option Nat} {dm : Nat → Nat} {nD : Nat} (H : z_DD h σ ρ nD dm) (ho : z_kp h' h) (hc : ∀ i, i < nD → ∀ c, c < 4 → h'.1 (dm i + c) = h.1 (dm i + c)) (h2 : ρ' 2 = ρ 2) (r : ∀ r, 19 ≤ r → r ≤ 35 → σ' r = σ r) : z_DD h' σ' ρ' nD dm := by
  refine ⟨fun i hi => ?_, H.2.1, fun i hi => ?_⟩
  · rw [h2]
    refine ⟨(H.1 i hi).1, (H.1 i hi).2.fr hi (Nat.le_refl _) (fun _ _ => rfl) ho (hc i hi) ⟨fun q a b _ _ => by rw [r q a (by omega)], fun k _ => ⟨by rw [r 22 (by decide) (by decide)], by rw [r 24 (by decide) (by decide)]⟩, fun q a b j _ => by rw [r q (by omega) b]⟩⟩
  · rw [r 21 (by decide) (by decide), r 23 (by decide) (by decide), r 25 (by decide) (by decide), r 31 (by decide) (by decide)]
    exact H.2.2 i hi
