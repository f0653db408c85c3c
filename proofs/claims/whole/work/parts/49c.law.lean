/-! The law. -/
theorem z_and31 (x : Int32) : ∃ c, c < 32 ∧ x &&& 31 = nI c := by
  refine ⟨x.toBitVec.toNat % 32, Nat.mod_lt _ (by decide), ?_⟩
  apply Int32.toBitVec_inj.1
  rw [Int32.toBitVec_and]
  apply BitVec.eq_of_toNat_eq
  rw [BitVec.toNat_and]
  show x.toBitVec.toNat &&& 31 = (BitVec.ofNat 32 (x.toBitVec.toNat % 32)).toNat
  rw [BitVec.toNat_ofNat, show (31 : Nat) = 2 ^ 5 - 1 from rfl, Nat.and_two_pow_sub_one_eq_mod]
  omega
theorem z_lim {i L : Nat} (hi : i < 2 ^ 31) (hL : L ≤ 3072) : nI L - 6 < nI i ↔ L < i + 6 := by
  rcases Nat.lt_or_ge L 6 with z | z
  · have h6 : ∀ L, L < 6 → nI L - 6 < 0 := by decide
    exact ⟨fun _ => by omega, fun _ => Int32.lt_of_lt_of_le (h6 L z) (nI_pos' hi)⟩
  · have e : nI L - 6 = nI (L - 6) := by
      rw [show nI L = nI (L - 6 + 6) by rw [Nat.sub_add_cancel z], ← nI_add]
      exact Int32.add_sub_cancel _ _
    rw [e, nI_ltI (by omega) hi]
    omega
theorem l_law {L : Nat} {xs : Nat → Int32} (hL : L ≤ 3072) : ∀ (m i : Nat) (h : zH) (σ : Nat → Nat → Int32) (ρ : Nat → Nat → Option Nat), i < 2 ^ 31 → L < i + 6 * m + 6 → i ≤ L → z_I (.inl (.array .int, L, .inl xs)) h σ ρ → h.2.1 + 4 * m ≤ 600000 → h.2.2 + 50 * m ≤ 7302249 →
    z_E 1000 115 18 [some (.ref 0), some (.ref 1), some (.ref 18), some (.int (nI i))] [] (z_G h σ ρ) (fun r => r.1 = some (.int 1) ∧ r.2.2.1 ≤ 600000 ∧ r.2.2.2 ≤ 7302249)
  | m, i, h, σ, ρ, hi31, hm, hiL, hI, b1, b2 => by
    have hX0 : (z_G h σ ρ).1 0 = some (.inl (.array .int, L, .inl xs)) := by
      obtain ⟨nD, dm, ns, hC, hD, hS, hT, hF⟩ := hI
      exact hF.2.1
    refine e_iload k115_18 (q := 19) rfl rfl ?_
    refine e_aload k115_19 (q := 20) rfl rfl ?_
    refine e_alen k115_20 (q := 21) rfl hX0 ?_
    show z_E _ _ _ _ (.int (nI L) :: _) _ _
    refine e_const k115_21 (q := 23) rfl ?_
    refine e_ib k115_23 (q := 24) rfl ?_
    refine e_ic k115_24 (q := 27) rfl (fun c24 => ?_) (fun c24 => ?_)
    · have hge : L < i + 6 := (z_lim hi31 hL).mp c24
      refine e_const k115_935 (q := 936) rfl ?_
      refine e_iret k115_936 (by first | exact Or.inl rfl | exact Or.inr rfl | assumption) ?_
      exact ⟨rfl, (by show h.2.1 ≤ 600000; omega), (by show h.2.2 ≤ 7302249; omega)⟩
    · have hlt : i + 6 ≤ L := by
        rcases Nat.lt_or_ge L (i + 6) with z | z
        · exact absurd ((z_lim hi31 hL).mpr z) c24
        · exact z
      have v0 : vp_in (nI i) L := vp_in_nI (by omega) (by omega)
      refine e_aload k115_27 (q := 28) rfl rfl ?_
      refine e_iload k115_28 (q := 29) rfl rfl ?_
      refine e_ald k115_29 (q := 30) rfl hX0 v0 ?_
      rw [nI_clamp (by omega)]
      refine e_const k115_30 (q := 32) rfl ?_
      refine e_ib k115_32 (q := 33) rfl ?_
      obtain ⟨c, hc, hce⟩ := z_and31 (xs i)
      rw [show xs i &&& 31 = nI c from hce]
      obtain ⟨m', rfl⟩ : ∃ m', m = m' + 1 := ⟨m - 1, by omega⟩
      have next : ∀ h2 σ2 ρ2, z_I (.inl (.array .int, L, .inl xs)) h2 σ2 ρ2 → h2.2.1 ≤ h.2.1 + 4 → h2.2.2 ≤ h.2.2 + 50 → z_E 1000 115 929 [some (.ref 0), some (.ref 1), some (.ref 18), some (.int (nI i))] [] (z_G h2 σ2 ρ2) (fun r => r.1 = some (.int 1) ∧ r.2.2.1 ≤ 600000 ∧ r.2.2.2 ≤ 7302249) := by
        intro h2 σ2 ρ2 hI2 r1 r2
        refine e_iinc k115_929 (q := 932) (L' := [_, _, _, some (.int (nI (i + 6)))]) rfl rfl (by rw [show (6 : Int32) = nI 6 from rfl, nI_add]; rfl) ?_
        refine e_goto k115_932 ?_
        exact l_law hL m' (i + 6) h2 σ2 ρ2 (by omega) (by omega) (by omega) hI2 (by omega) (by omega)
      rcases (by omega : c = 0 ∨ c = 1 ∨ c = 2 ∨ c = 3 ∨ c = 4 ∨ c = 5 ∨ c = 6 ∨ c = 7 ∨ c = 8 ∨ c = 9 ∨ c = 10 ∨ c = 11 ∨ c = 12 ∨ c = 13 ∨ c = 14 ∨ c = 15 ∨ c = 16 ∨ c = 17 ∨ c = 18 ∨ 19 ≤ c) with rfl | rfl | rfl | rfl | rfl | rfl | rfl | rfl | rfl | rfl | rfl | rfl | rfl | rfl | rfl | rfl | rfl | rfl | rfl | hd
      · exact e_tab k115_33 124 0 rfl (by decide) (c_domain hI (by omega) hL next)
      · exact e_tab k115_33 173 1 rfl (by decide) (c_address hI (by omega) hL next)
      · exact e_tab k115_33 206 2 rfl (by decide) (c_exchanger hI (by omega) hL next)
      · exact e_tab k115_33 239 3 rfl (by decide) (c_term hI (by omega) hL next)
      · exact e_tab k115_33 302 4 rfl (by decide) (c_key hI (by omega) hL next)
      · exact e_tab k115_33 345 5 rfl (by decide) (c_wish hI (by omega) hL next)
      · exact e_tab k115_33 440 6 rfl (by decide) (c_check hI (by omega) hL next)
      · exact e_tab k115_33 473 7 rfl (by decide) (c_queries hI (by omega) hL next)
      · exact e_tab k115_33 486 8 rfl (by decide) (c_empties hI (by omega) hL next)
      · exact e_tab k115_33 499 9 rfl (by decide) (c_type hI (by omega) hL next)
      · exact e_tab k115_33 524 10 rfl (by decide) (c_list hI (by omega) hL next)
      · exact e_tab k115_33 549 11 rfl (by decide) (c_clear hI (by omega) hL next)
      · exact e_tab k115_33 560 12 rfl (by decide) (c_fields hI (by omega) hL next)
      · exact e_tab k115_33 573 13 rfl (by decide) (c_length hI (by omega) hL next)
      · exact e_tab k115_33 638 14 rfl (by decide) (c_at hI (by omega) hL next)
      · exact e_tab k115_33 713 15 rfl (by decide) (c_digest hI (by omega) hL next)
      · exact e_tab k115_33 778 16 rfl (by decide) (c_sign hI (by omega) hL next)
      · exact e_tab k115_33 863 17 rfl (by decide) (c_holds hI (by omega) hL next)
      · exact e_tab k115_33 886 18 rfl (by decide) (c_verdict hI (by omega) hL next)
      · refine e_tabD k115_33 (Or.inr ?_) (next h σ ρ hI (by omega) (by omega))
        rw [nI_toInt (by omega)]
        show (0 : Int) + 19 ≤ _
        omega
termination_by m => m
