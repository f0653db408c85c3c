/-! The class's checking. -/
theorem z_na_of {σ : Nat → Nat → Int32} {r i n : Nat} (h : σ r i = nI n) (hn : n < 2 ^ 31) : z_na σ r i = n := by rw [z_na, h, nI_clamp hn]
theorem z_na_lt (σ : Nat → Nat → Int32) (r i : Nat) : z_na σ r i < 2 ^ 31 := by
  unfold z_na
  by_cases h : σ r i < 0
  · have h2 := Int32.lt_iff_toInt_lt.mp h
    have h2 : (σ r i).toInt < 0 := h2
    show (σ r i).toInt.toNat < 2 ^ 31
    omega
  · obtain ⟨j, hj, e⟩ := nI_of h
    rw [e, nI_clamp hj]; exact hj
theorem z_any_up (σ : Nat → Nat → Int32) (ip : Int32) (b n : Nat) {k : Nat} (h : z_any σ ip b n k = true) : ∀ m, k ≤ m → z_any σ ip b n m = true
  | 0, hm => by
    obtain rfl : k = 0 := by omega
    exact h
  | m + 1, hm => by
    by_cases c : k = m + 1
    · subst c; exact h
    · rw [z_any, z_any_up σ ip b n h m (by omega), Bool.true_or]
theorem z_hos_le (σ : Nat → Nat → Int32) (ip : Int32) (t n q e : Nat) : (z_hos σ ip t n q e).1 ≤ 2 := by
  unfold z_hos
  split
  · rcases z_emp_o q e with z | z <;> rw [z] <;> decide
  · show (if _ then 1 else 0) ≤ 2
    split <;> decide
theorem z_mal_le (σ : Nat → Nat → Int32) (ip : Int32) (t n : Nat) : ∀ (m k q e : Nat), (z_mal σ ip t n m k q e).1 ≤ 2
  | 0, k, q, e => Nat.zero_le _
  | m + 1, k, q, e => by
    rw [z_mal]
    split
    · exact z_mal_le σ ip t n m _ _ _
    · exact z_hos_le σ ip _ _ _ _
theorem z_oc_le (res : Nat → Nat → Nat → Nat × Nat × Nat) (σ : Nat → Nat → Int32) (ip : Int32) (p q e : Nat) : (z_oc res σ ip p q e).1 ≤ 2 := by
  unfold z_oc
  split
  · exact Nat.le_of_ble_eq_true rfl
  · split
    · show (if _ then 1 else 0) ≤ 2
      split <;> decide
    · split
      · exact Nat.le_of_ble_eq_true rfl
      · split
        · exact z_hos_le _ _ _ _ _ _
        · split
          · unfold z_mai
            split
            · rcases z_emp_o (q + 1) e with z | z <;> rw [z] <;> decide
            · exact z_mal_le _ _ _ _ _ _ _ _
          · split
            · show (if _ then 2 else if _ then 1 else 0) ≤ 2
              split
              · exact Nat.le_of_ble_eq_true rfl
              · split <;> decide
            · unfold z_kno
              split
              · rcases z_emp_o (q + 1) e with z | z <;> rw [z] <;> decide
              · exact Nat.le_of_ble_eq_true rfl
theorem z_tms_lt {res : Nat → Nat → Nat → Nat × Nat × Nat} (H : ∀ i q e, (res i q e).1 < 2 ^ 31) (σ : Nat → Nat → Int32) (ip : Int32) (i : Nat) : ∀ (m j q e : Nat), (z_tms res σ ip i m j q e).1 < 2 ^ 31
  | 0, j, q, e => by
    rw [z_tms]
    unfold z_end
    split
    · exact Nat.le_of_ble_eq_true rfl
    · split
      · exact Nat.le_of_ble_eq_true rfl
      · show (if _ then 5 else _) < 2 ^ 31
        split
        · exact Nat.le_of_ble_eq_true rfl
        · exact H _ _ _
  | m + 1, j, q, e => by
    rw [z_tms]
    split
    · exact z_tms_lt H σ ip i m _ _ _
    · split
      · exact z_tms_lt H σ ip i m _ _ _
      · split
        · exact z_na_lt _ _ _
        · exact Nat.le_of_ble_eq_true rfl
theorem z_res_lt (σ : Nat → Nat → Int32) (ip : Int32) : ∀ (f i q e : Nat), (z_res σ ip f i q e).1 < 2 ^ 31
  | 0, i, q, e => Nat.le_of_ble_eq_true rfl
  | f + 1, i, q, e => by
    rw [z_res]
    split
    · exact Nat.le_of_ble_eq_true rfl
    · exact z_tms_lt (z_res_lt σ ip f) σ ip i _ _ _ _
theorem l_host {d : Nat} {h : zH} {ρ : Nat → Nat → Option Nat} {σ σ0 : Nat → Nat → Int32} {ip : Int32} {q e n t a na ne nt : Nat} {po lo ko wo : Option Nat} {sf : Bool} {f : Nat → Int32} {g tt : Nat → Option Nat} (hQ : z_cq σ σ0 ip q e) (h52 : 52 ≤ a) (hc : z_dc h a po sf na ne nt lo ko wo f g tt) (hA : z_dA σ0 t na f) (hn : n ≤ 32) : ∀ (m k : Nat), k + m = na → z_any σ0 ip (3 * t) n k = false →
    z_E (d + 1) 40 14 [some (.ref 3), some (.ref a), some (.int (nI n)), some (.int (nI k))] [] (z_G h σ ρ) (z_qi fun r h' => r = nI (if z_any σ0 ip (3 * t) n na = true then 1 else 0) ∧ h' = z_G h σ ρ)
  | 0, k, hk, hz => by
    obtain rfl : k = na := by omega
    have h3 := hA.2.1
    refine e_iload k40_14 (q := 15) rfl rfl ?_
    refine e_aload k40_15 (q := 16) rfl rfl ?_
    refine d_get k40_16 (q := 19) rfl h52 hc.1 rfl ?_
    refine e_ic k40_19 (q := 22) rfl (fun c19 => ?_) (fun c19 => absurd (nI_le (Nat.le_refl _) (by omega)) c19)
    refine e_const k40_44 (q := 45) rfl ?_
    refine e_iret k40_45 ⟨_, rfl⟩ ?_
    exact ⟨_, _, rfl, by rw [if_neg (by rw [hz]; decide)]; rfl, rfl⟩
  | m + 1, k, hk, hz => by
    have h3 := hA.2.1
    have hin : vp_in (nI k) 3 := vp_in_nI (by omega) (by decide)
    refine e_iload k40_14 (q := 15) rfl rfl ?_
    refine e_aload k40_15 (q := 16) rfl rfl ?_
    refine d_get k40_16 (q := 19) rfl h52 hc.1 rfl ?_
    refine e_ic k40_19 (q := 22) rfl (fun c19 => absurd c19 (nI_ge (by omega) (by omega))) (fun c19 => ?_)
    refine e_aload k40_22 (q := 23) rfl rfl ?_
    refine e_aload k40_23 (q := 24) rfl rfl ?_
    refine d_get k40_24 (q := 27) rfl h52 hc.1 rfl ?_
    refine e_iload k40_27 (q := 28) rfl rfl ?_
    refine d_ald k40_28 (q := 29) rfl (by omega) hc.2.1 (by assumption) ?_
    rw [nI_clamp (by omega), hA.2.2 k (by omega)]
    refine e_iload k40_29 (q := 30) rfl rfl ?_
    refine g_cv k40_30 (q := 33) (as := [_, _]) rfl rfl rfl rfl (m_beginsLike hQ _ hn) rfl (z_ki fun x30 h30 p30 => ?_)
    obtain ⟨rfl, rfl⟩ := p30
    refine e_if k40_33 (q := 36) rfl (fun c33 => ?_) (fun c33 => ?_)
    · have hf : z_sb ip (σ0 22 (3 * t + k)) n = false := by
        cases hs : z_sb ip (σ0 22 (3 * t + k)) n
        · rfl
        · rw [hs] at c33; exact absurd c33 (by decide)
      refine e_iinc k40_38 (q := 41) (L' := [_, _, _, some (.int (nI (k + 1)))]) rfl rfl (by rw [nI_1]; rfl) ?_
      refine e_goto k40_41 ?_
      exact l_host hQ h52 hc hA hn m (k + 1) (by omega) (by rw [z_any, hz, hf]; rfl)
    · have ht : z_any σ0 ip (3 * t) n (k + 1) = true := by
        rw [z_any]
        cases hs : z_sb ip (σ0 22 (3 * t + k)) n
        · rw [hs] at c33; exact absurd rfl c33
        · exact Bool.or_true _
      refine e_const k40_36 (q := 37) rfl ?_
      refine e_iret k40_37 ⟨_, rfl⟩ ?_
      exact ⟨_, _, rfl, by rw [if_pos (z_any_up _ _ _ _ ht na (by omega))]; rfl, rfl⟩
theorem m_host {d : Nat} {h : zH} {ρ : Nat → Nat → Option Nat} {σ σ0 : Nat → Nat → Int32} {ip : Int32} {q e : Nat} {nD : Nat} {dm : Nat → Nat} {n t : Nat} (hQ : z_cq σ σ0 ip q e) (hD : z_DD h σ0 ρ nD dm) (ht : t < nD) (hn : n ≤ 32) (he : e ≤ 2) : z_M (d + 2) 40 [.ref 3, .ref (dm t), .int (nI n)] (z_G h σ ρ) (z_qi fun r h' => z_crr h ρ σ0 ip (z_hos σ0 ip t n q e) r h') := by
  refine z_M.of ⟨Nat.le_of_ble_eq_true rfl, by simp [Value.category]⟩ (L := [some (.ref 3), some (.ref (dm t)), some (.int (nI n)), none]) rfl ?_
  obtain ⟨h52, po, sf, na, ne, nm, lo, ko, wo, f, g, tt, hc, c2, c3, c4d, c5, c6, c7, c8, c9⟩ := (hD.1 t ht).2
  have h3 := c4d.2.1
  have hna := z_na_of c4d.1 (by omega)
  refine e_aload k40_0 (q := 1) rfl rfl ?_
  refine d_get k40_1 (q := 4) rfl h52 hc.1 rfl ?_
  refine e_if k40_4 (q := 7) rfl (fun c4 => ?_) (fun c4 => ?_)
  · have hne : ¬ z_na σ0 21 t = 0 := fun z => by
      rw [hna] at z
      subst z
      exact absurd rfl c4
    refine e_const k40_12 (q := 13) rfl ?_
    refine e_ist k40_13 (q := 14) (L' := [_, _, _, _]) rfl rfl rfl ?_
    refine (l_host hQ h52 hc c4d hn na 0 (by omega) rfl).mono ?_
    rintro r ⟨x, h', rfl, rfl, rfl⟩
    refine ⟨_, _, rfl, ?_⟩
    rw [z_hos, if_neg hne, hna]
    exact ⟨rfl, _, rfl, hQ⟩
  · have hne : z_na σ0 21 t = 0 := by
      rw [hna]
      exact (nI_eq (b := 0) (by omega) (by decide)).mp (Classical.not_not.mp c4)
    refine e_aload k40_7 (q := 8) rfl rfl ?_
    refine g_cv k40_8 (q := 11) (as := []) rfl rfl rfl rfl (m_empty hQ he) rfl (z_ki fun x8 h8 p8 => ?_)
    refine e_iret k40_11 ⟨_, rfl⟩ ?_
    refine ⟨_, _, rfl, ?_⟩
    rw [z_hos, if_pos hne]
    exact p8
theorem l_mail {d : Nat} {h : zH} {ρ : Nat → Nat → Option Nat} {σ0 : Nat → Nat → Int32} {ip : Int32} {nD : Nat} {dm : Nat → Nat} {n t a na ne nt : Nat} {po lo ko wo : Option Nat} {sf : Bool} {f : Nat → Int32} {g tt : Nat → Option Nat} (hn2 : nD ≤ 12) (hD : z_DD h σ0 ρ nD dm) (h52 : 52 ≤ a) (hc : z_dc h a po sf na ne nt lo ko wo f g tt) (hE : z_dE σ0 dm nD t ne g) (hn : n ≤ 32) : ∀ (m k : Nat) (σ : Nat → Nat → Int32) (q e : Nat) (x4 : Option Value), k + m = ne → z_cq σ σ0 ip q e → q ≤ 10 → e ≤ 2 →
    z_E (d + 2) 41 14 [some (.ref 3), some (.ref a), some (.int (nI n)), some (.int (nI k)), x4] [] (z_G h σ ρ) (z_qi fun r h' => z_crr h ρ σ0 ip (z_mal σ0 ip t n m k q e) r h')
  | 0, k, σ, q, e, x4, hk, hQ, hq, he => by
    obtain rfl : k = ne := by omega
    have h3 := hE.2.1
    refine e_iload k41_14 (q := 15) rfl rfl ?_
    refine e_aload k41_15 (q := 16) rfl rfl ?_
    refine d_get k41_16 (q := 19) rfl h52 hc.1 rfl ?_
    refine e_ic k41_19 (q := 22) rfl (fun c19 => ?_) (fun c19 => absurd (nI_le (Nat.le_refl _) (by omega)) c19)
    refine e_const k41_49 (q := 50) rfl ?_
    refine e_iret k41_50 ⟨_, rfl⟩ ?_
    exact ⟨_, _, rfl, rfl, _, rfl, hQ⟩
  | m + 1, k, σ, q, e, x4, hk, hQ, hq, he => by
    have h3 := hE.2.1
    have hin : vp_in (nI k) 3 := vp_in_nI (by omega) (by decide)
    obtain ⟨v, hv, v1, v2⟩ := hE.2.2 k (by omega)
    have hvn : z_na σ0 24 (3 * t + k) = v := z_na_of v1 (by omega)
    have hle := z_hos_le σ0 ip v n q e
    have hgd := z_hos_gd σ0 ip v n hq he
    refine e_iload k41_14 (q := 15) rfl rfl ?_
    refine e_aload k41_15 (q := 16) rfl rfl ?_
    refine d_get k41_16 (q := 19) rfl h52 hc.1 rfl ?_
    refine e_ic k41_19 (q := 22) rfl (fun c19 => absurd c19 (nI_ge (by omega) (by omega))) (fun c19 => ?_)
    refine e_aload k41_22 (q := 23) rfl rfl ?_
    refine e_aload k41_23 (q := 24) rfl rfl ?_
    refine d_get k41_24 (q := 27) rfl h52 hc.1 rfl ?_
    refine e_iload k41_27 (q := 28) rfl rfl ?_
    refine d_rld k41_28 (q := 29) rfl (by omega) hc.2.2.1 (by assumption) ?_
    rw [nI_clamp (by omega), v2]
    show z_E _ _ _ _ (.ref (dm v) :: _) _ _
    refine e_iload k41_29 (q := 30) rfl rfl ?_
    refine g_cv k41_30 (q := 33) (as := [_, _]) rfl rfl rfl rfl (m_host hQ hD hv hn he) rfl (z_ki fun x30 h30 p30 => ?_)
    obtain ⟨rfl, σ1, rfl, hQ1⟩ := p30
    refine e_ist k41_33 (q := 35) (L' := [_, _, _, _, _]) rfl rfl rfl ?_
    refine e_iload k41_35 (q := 37) rfl rfl ?_
    refine e_if k41_37 (q := 40) rfl (fun c37 => ?_) (fun c37 => ?_)
    · have ho : (z_hos σ0 ip v n q e).1 = 0 := (nI_eq (b := 0) (by omega) (by decide)).mp c37
      refine e_iinc k41_43 (q := 46) (L' := [_, _, _, some (.int (nI (k + 1))), _]) rfl rfl (by rw [nI_1]; rfl) ?_
      refine e_goto k41_46 ?_
      rw [z_mal, hvn, if_pos ho]
      exact l_mail hn2 hD h52 hc hE hn m (k + 1) σ1 _ _ _ (by omega) hQ1 hgd.2.1 hgd.2.2
    · have ho : ¬ (z_hos σ0 ip v n q e).1 = 0 := fun z => c37 (by rw [z]; rfl)
      refine e_iload k41_40 (q := 42) rfl rfl ?_
      refine e_iret k41_42 ⟨_, rfl⟩ ?_
      refine ⟨_, _, rfl, ?_⟩
      rw [z_mal, hvn, if_neg ho]
      exact ⟨rfl, _, rfl, hQ1⟩
theorem m_mail {d : Nat} {h : zH} {ρ : Nat → Nat → Option Nat} {σ σ0 : Nat → Nat → Int32} {ip : Int32} {q e : Nat} {nD : Nat} {dm : Nat → Nat} {n t : Nat} (hn2 : nD ≤ 12) (hQ : z_cq σ σ0 ip q e) (hD : z_DD h σ0 ρ nD dm) (ht : t < nD) (hn : n ≤ 32) (hq : q ≤ 10) (he : e ≤ 2) : z_M (d + 3) 41 [.ref 3, .ref (dm t), .int (nI n)] (z_G h σ ρ) (z_qi fun r h' => z_crr h ρ σ0 ip (z_mai σ0 ip t n q e) r h') := by
  refine z_M.of ⟨Nat.le_of_ble_eq_true rfl, by simp [Value.category]⟩ (L := [some (.ref 3), some (.ref (dm t)), some (.int (nI n)), none, none]) rfl ?_
  obtain ⟨h52, po, sf, na, ne, nm, lo, ko, wo, f, g, tt, hc, c2, c3, c4d, c5, c6, c7, c8, c9⟩ := (hD.1 t ht).2
  have h3 := c5.2.1
  have hna := z_na_of c5.1 (by omega)
  refine e_aload k41_0 (q := 1) rfl rfl ?_
  refine d_get k41_1 (q := 4) rfl h52 hc.1 rfl ?_
  refine e_if k41_4 (q := 7) rfl (fun c4 => ?_) (fun c4 => ?_)
  · have hne : ¬ z_na σ0 23 t = 0 := fun z => by
      rw [hna] at z
      subst z
      exact absurd rfl c4
    refine e_const k41_12 (q := 13) rfl ?_
    refine e_ist k41_13 (q := 14) (L' := [_, _, _, _, _]) rfl rfl rfl ?_
    rw [z_mai, if_neg hne, hna]
    exact l_mail hn2 hD h52 hc c5 hn ne 0 σ q e _ (by omega) hQ hq he
  · have hne : z_na σ0 23 t = 0 := by
      rw [hna]
      exact (nI_eq (b := 0) (by omega) (by decide)).mp (Classical.not_not.mp c4)
    refine e_aload k41_7 (q := 8) rfl rfl ?_
    refine g_cv k41_8 (q := 11) (as := []) rfl rfl rfl rfl (m_empty hQ he) rfl (z_ki fun x8 h8 p8 => ?_)
    refine e_iret k41_11 ⟨_, rfl⟩ ?_
    refine ⟨_, _, rfl, ?_⟩
    rw [z_mai, if_pos hne]
    exact p8
theorem m_within {d : Nat} {h : zH} {ρ : Nat → Nat → Option Nat} {σ σ0 : Nat → Nat → Int32} {ip : Int32} {q e : Nat} {nD : Nat} {dm : Nat → Nat} {res : Nat → Nat → Nat → Nat × Nat × Nat} {D dep : Nat} {t : Nat} (HR : ∀ (d : Nat) (σ : Nat → Nat → Int32) (i q e : Nat), i < nD → q ≤ 10 → e ≤ 2 → z_cq σ σ0 ip q e → z_M (d + D + 2) 37 [.ref 3, .ref (dm i), .int (nI (dep + 1))] (z_G h σ ρ) (z_qi fun r h' => z_crr h ρ σ0 ip (res i q e) r h')) (Hlt : ∀ i q e, (res i q e).1 < 2 ^ 31) (hQ : z_cq σ σ0 ip q e) (ht : t < nD) (hq : q ≤ 10) (he : e ≤ 2) : z_M (d + D + 3) 42 [.ref 3, .ref (dm t), .int (nI dep)] (z_G h σ ρ) (z_qi fun r h' => z_crr h ρ σ0 ip (z_wit (res t q e)) r h') := by
  refine z_M.of ⟨Nat.le_of_ble_eq_true rfl, by simp [Value.category]⟩ (L := [some (.ref 3), some (.ref (dm t)), some (.int (nI dep)), none]) rfl ?_
  have hl := Hlt t q e
  refine e_aload k42_0 (q := 1) rfl rfl ?_
  refine e_aload k42_1 (q := 2) rfl rfl ?_
  refine e_iload k42_2 (q := 3) rfl rfl ?_
  refine e_const k42_3 (q := 4) rfl ?_
  refine e_ib k42_4 (q := 5) rfl ?_
  rw [nI_1]
  refine g_cv k42_5 (q := 8) (as := [_, _]) rfl rfl rfl rfl (HR d σ t q e ht hq he hQ) rfl (z_ki fun x5 h5 p5 => ?_)
  obtain ⟨rfl, σ1, rfl, hQ1⟩ := p5
  refine e_ist k42_8 (q := 9) (L' := [_, _, _, _]) rfl rfl rfl ?_
  refine e_iload k42_9 (q := 10) rfl rfl ?_
  refine e_if k42_10 (q := 13) rfl (fun c10 => ?_) (fun c10 => ?_)
  · refine e_const k42_18 (q := 19) rfl ?_
    refine e_iret k42_19 ⟨_, rfl⟩ ?_
    refine ⟨_, _, rfl, ?_, σ1, rfl, hQ1⟩
    show _ = nI (if (res t q e).1 = 0 ∨ (res t q e).1 = 5 then 2 else if (res t q e).1 = 2 then 1 else 0)
    rw [if_pos (Or.inl ((nI_eq (b := 0) hl (by decide)).mp c10))]
    rfl
  · refine e_iload k42_13 (q := 14) rfl rfl ?_
    refine e_const k42_14 (q := 15) rfl ?_
    refine e_ic k42_15 (q := 18) rfl (fun c15 => ?_) (fun c15 => ?_)
    · refine e_iload k42_20 (q := 21) rfl rfl ?_
      refine e_const k42_21 (q := 22) rfl ?_
      refine e_ic k42_22 (q := 25) rfl (fun c22 => ?_) (fun c22 => ?_)
      · refine e_const k42_29 (q := 30) rfl ?_
        refine e_iret k42_30 ⟨_, rfl⟩ ?_
        refine ⟨_, _, rfl, ?_, σ1, rfl, hQ1⟩
        show _ = nI (if (res t q e).1 = 0 ∨ (res t q e).1 = 5 then 2 else if (res t q e).1 = 2 then 1 else 0)
        rw [if_neg (by rintro (z | z); exact c10 (by rw [z]; rfl); exact c15 (by rw [z]; rfl)), if_neg (fun z => c22 (by rw [z]; rfl))]
        rfl
      · refine e_const k42_25 (q := 26) rfl ?_
        refine e_goto k42_26 ?_
        refine e_iret k42_30 ⟨_, rfl⟩ ?_
        refine ⟨_, _, rfl, ?_, σ1, rfl, hQ1⟩
        show _ = nI (if (res t q e).1 = 0 ∨ (res t q e).1 = 5 then 2 else if (res t q e).1 = 2 then 1 else 0)
        rw [if_neg (by rintro (z | z); exact c10 (by rw [z]; rfl); exact c15 (by rw [z]; rfl)), if_pos ((nI_eq (b := 2) hl (by decide)).mp (Classical.not_not.mp c22))]
        rfl
    · refine e_const k42_18 (q := 19) rfl ?_
      refine e_iret k42_19 ⟨_, rfl⟩ ?_
      refine ⟨_, _, rfl, ?_, σ1, rfl, hQ1⟩
      show _ = nI (if (res t q e).1 = 0 ∨ (res t q e).1 = 5 then 2 else if (res t q e).1 = 2 then 1 else 0)
      rw [if_pos (Or.inr ((nI_eq (b := 5) hl (by decide)).mp (Classical.not_not.mp c15)))]
      rfl
theorem m_leadR {d : Nat} {h : zH} {ρ : Nat → Nat → Option Nat} {σ σ0 : Nat → Nat → Int32} {ip : Int32} {q e : Nat} {nD : Nat} {dm : Nat → Nat} {res : Nat → Nat → Nat → Nat × Nat × Nat} {D dep : Nat} {t : Nat} (HR : ∀ (d : Nat) (σ : Nat → Nat → Int32) (i q e : Nat), i < nD → q ≤ 10 → e ≤ 2 → z_cq σ σ0 ip q e → z_M (d + D + 2) 37 [.ref 3, .ref (dm i), .int (nI (dep + 1))] (z_G h σ ρ) (z_qi fun r h' => z_crr h ρ σ0 ip (res i q e) r h')) (Hlt : ∀ i q e, (res i q e).1 < 2 ^ 31) (hQ : z_cq σ σ0 ip q e) (ht : t < nD) (hq : q ≤ 10) (he : e ≤ 2) : z_M (d + D + 3) 38 [.ref 3, .ref (dm t), .int (nI dep)] (z_G h σ ρ) (z_qi fun r h' => z_crr h ρ σ0 ip (if q = 10 then (5, q, e) else z_led (res t (q + 1) e)) r h') := by
  refine z_M.of ⟨Nat.le_of_ble_eq_true rfl, by simp [Value.category]⟩ (L := [some (.ref 3), some (.ref (dm t)), some (.int (nI dep)), none]) rfl ?_
  have hl := Hlt t (q + 1) e
  refine e_aload k38_0 (q := 1) rfl rfl ?_
  refine g_cv k38_1 (q := 4) (as := []) rfl rfl rfl rfl (m_countQuery hQ hq) rfl (z_ki fun x1 h1 p1 => ?_)
  refine e_if k38_4 (q := 7) rfl (fun c4 => ?_) (fun c4 => ?_)
  · have hq10 : q < 10 := by
      rcases Nat.lt_or_ge q 10 with z | z
      · exact z
      · exact absurd (p1.1 (by omega)).1 c4
    obtain ⟨rfl, σ1, rfl, hQ1⟩ := p1.2 hq10
    refine e_aload k38_9 (q := 10) rfl rfl ?_
    refine e_aload k38_10 (q := 11) rfl rfl ?_
    refine e_iload k38_11 (q := 12) rfl rfl ?_
    refine e_const k38_12 (q := 13) rfl ?_
    refine e_ib k38_13 (q := 14) rfl ?_
    rw [nI_1]
    refine g_cv k38_14 (q := 17) (as := [_, _]) rfl rfl rfl rfl (HR d σ1 t (q + 1) e ht (by omega) he hQ1) rfl (z_ki fun x14 h14 p14 => ?_)
    obtain ⟨rfl, σ2, rfl, hQ2⟩ := p14
    refine e_ist k38_17 (q := 18) (L' := [_, _, _, _]) rfl rfl rfl ?_
    refine e_iload k38_18 (q := 19) rfl rfl ?_
    refine e_if k38_19 (q := 22) rfl (fun c19 => ?_) (fun c19 => ?_)
    · refine e_iload k38_26 (q := 27) rfl rfl ?_
      refine e_iret k38_27 ⟨_, rfl⟩ ?_
      refine ⟨_, _, rfl, ?_⟩
      rw [if_neg (by omega)]
      refine ⟨?_, σ2, rfl, hQ2⟩
      show _ = nI (if (res t (q + 1) e).1 = 0 then 5 else (res t (q + 1) e).1)
      rw [if_neg (fun z => c19 (by rw [z]; rfl))]
    · refine e_const k38_22 (q := 23) rfl ?_
      refine e_goto k38_23 ?_
      refine e_iret k38_27 ⟨_, rfl⟩ ?_
      refine ⟨_, _, rfl, ?_⟩
      rw [if_neg (by omega)]
      refine ⟨?_, σ2, rfl, hQ2⟩
      show _ = nI (if (res t (q + 1) e).1 = 0 then 5 else (res t (q + 1) e).1)
      rw [if_pos ((nI_eq (b := 0) hl (by decide)).mp (Classical.not_not.mp c19))]
      rfl
  · refine e_const k38_7 (q := 8) rfl ?_
    refine e_iret k38_8 ⟨_, rfl⟩ ?_
    have hq10 : q = 10 := by
      rcases Nat.lt_or_ge q 10 with z | z
      · exact absurd (Classical.not_not.mp c4) (by rw [(p1.2 z).1]; decide)
      · omega
    obtain ⟨-, rfl⟩ := p1.1 hq10
    refine ⟨_, _, rfl, ?_⟩
    rw [if_pos hq10]
    exact ⟨rfl, _, rfl, hQ⟩
theorem m_outcome {d : Nat} {h : zH} {ρ : Nat → Nat → Option Nat} {σ σ0 : Nat → Nat → Int32} {ip : Int32} {q e : Nat} {nD : Nat} {dm : Nat → Nat} {res : Nat → Nat → Nat → Nat × Nat × Nat} {D dep : Nat} {t p : Nat} (HR : ∀ (d : Nat) (σ : Nat → Nat → Int32) (i q e : Nat), i < nD → q ≤ 10 → e ≤ 2 → z_cq σ σ0 ip q e → z_M (d + D + 2) 37 [.ref 3, .ref (dm i), .int (nI (dep + 1))] (z_G h σ ρ) (z_qi fun r h' => z_crr h ρ σ0 ip (res i q e) r h')) (Hlt : ∀ i q e, (res i q e).1 < 2 ^ 31) (hn2 : nD ≤ 12) (hD : z_DD h σ0 ρ nD dm) (hQ : z_cq σ σ0 ip q e) (hq : q ≤ 10) (he : e ≤ 2) (hT : z_tr h σ0 dm nD t p) : z_M (d + D + 4) 39 [.ref 3, .ref t, .int (nI dep)] (z_G h σ ρ) (z_qi fun r h' => z_crr h ρ σ0 ip (z_oc res σ0 ip p q e) r h') := by
  refine z_M.of ⟨Nat.le_of_ble_eq_true rfl, by simp [Value.category]⟩ (L := [some (.ref 3), some (.ref t), some (.int (nI dep))]) rfl ?_
  obtain ⟨h52, kd, ql, num, tg, t1, t2, t3, t4, t5, t6, t7, t8, t9⟩ := hT
  have ksplit : kd = 0 ∨ kd = 1 ∨ kd = 2 ∨ kd = 3 ∨ kd = 4 ∨ kd = 5 := by omega
  have kne : ∀ a b : Nat, a < 2 ^ 31 → b < 2 ^ 31 → a ≠ b → ¬ nI a = nI b := fun a b ha hb hab z => hab ((nI_eq ha hb).mp z)
  rcases ksplit with rfl | rfl | rfl | rfl | rfl | rfl
  · refine e_aload k39_0 (q := 1) rfl rfl ?_
    refine d_get k39_1 (q := 4) rfl h52 t1 rfl ?_
    refine e_if k39_4 (q := 7) rfl (fun c4 => absurd c4 (fun z => z rfl)) (fun c4 => ?_)
    refine e_const k39_7 (q := 8) rfl ?_
    refine e_iret k39_8 ⟨_, rfl⟩ ?_
    refine ⟨_, _, rfl, ?_⟩
    rw [z_oc, if_pos (by rw [t5]; rfl)]
    exact ⟨rfl, _, rfl, hQ⟩
  · obtain ⟨b, hb, b1⟩ := t9 (by decide) (by decide)
    refine e_aload k39_0 (q := 1) rfl rfl ?_
    refine d_get k39_1 (q := 4) rfl h52 t1 rfl ?_
    refine e_if k39_4 (q := 7) rfl (fun c4 => ?_) (fun c4 => absurd (by decide) c4)
    refine e_aload k39_9 (q := 10) rfl rfl ?_
    refine d_get k39_10 (q := 13) rfl h52 t1 rfl ?_
    refine e_const k39_13 (q := 14) rfl ?_
    refine e_ic k39_14 (q := 17) rfl (fun c14 => absurd c14 (fun z => z rfl)) (fun c14 => ?_)
    refine e_aload k39_17 (q := 18) rfl rfl ?_
    refine e_aload k39_18 (q := 19) rfl rfl ?_
    refine d_get k39_19 (q := 22) rfl h52 t1 rfl ?_
    refine e_aload k39_22 (q := 23) rfl rfl ?_
    refine d_get k39_23 (q := 26) rfl h52 t1 rfl ?_
    rw [b1, t7 rfl]
    refine g_cv k39_26 (q := 29) (as := [_, _]) rfl rfl rfl rfl (m_beginsLike hQ _ hb) rfl (z_ki fun x26 h26 p26 => ?_)
    obtain ⟨rfl, rfl⟩ := p26
    refine e_if k39_29 (q := 32) rfl (fun c29 => ?_) (fun c29 => ?_)
    · refine e_const k39_36 (q := 37) rfl ?_
      refine e_iret k39_37 ⟨_, rfl⟩ ?_
      have hs : z_sb ip (σ0 34 p) b = false := by
        cases hs : z_sb ip (σ0 34 p) b
        · rfl
        · rw [hs] at c29; exact absurd c29 (by decide)
      refine ⟨_, _, rfl, ?_⟩
      rw [z_oc, if_neg (by rw [t5]; decide), if_pos (by rw [t5]; rfl), z_na_of b1 (by omega), hs]
      exact ⟨rfl, _, rfl, hQ⟩
    · refine e_const k39_32 (q := 33) rfl ?_
      refine e_goto k39_33 ?_
      refine e_iret k39_37 ⟨_, rfl⟩ ?_
      have hs : z_sb ip (σ0 34 p) b = true := by
        cases hs : z_sb ip (σ0 34 p) b
        · rw [hs] at c29; exact absurd rfl c29
        · rfl
      refine ⟨_, _, rfl, ?_⟩
      rw [z_oc, if_neg (by rw [t5]; decide), if_pos (by rw [t5]; rfl), z_na_of b1 (by omega), hs]
      exact ⟨rfl, _, rfl, hQ⟩
  · obtain ⟨g, hg, hg1, hg2⟩ := t8 (by decide)
    have hgn : z_na σ0 34 p = g := z_na_of hg1 (by omega)
    obtain ⟨b, hb, b1⟩ := t9 (by decide) (by decide)
    refine e_aload k39_0 (q := 1) rfl rfl ?_
    refine d_get k39_1 (q := 4) rfl h52 t1 rfl ?_
    refine e_if k39_4 (q := 7) rfl (fun c4 => ?_) (fun c4 => absurd (by decide) c4)
    refine e_aload k39_9 (q := 10) rfl rfl ?_
    refine d_get k39_10 (q := 13) rfl h52 t1 rfl ?_
    refine e_const k39_13 (q := 14) rfl ?_
    refine e_ic k39_14 (q := 17) rfl (fun c14 => ?_) (fun c14 => absurd (by decide) c14)
    refine e_aload k39_38 (q := 39) rfl rfl ?_
    refine g_cv k39_39 (q := 42) (as := []) rfl rfl rfl rfl (m_countQuery hQ hq) rfl (z_ki fun x39 h39 p39 => ?_)
    refine e_if k39_42 (q := 45) rfl (fun c42 => ?_) (fun c42 => ?_)
    · have hq10 : q < 10 := by
        rcases Nat.lt_or_ge q 10 with z | z
        · exact z
        · exact absurd (p39.1 (by omega)).1 c42
      obtain ⟨rfl, σ1, rfl, hQ1⟩ := p39.2 hq10
      refine e_aload k39_47 (q := 48) rfl rfl ?_
      refine d_get k39_48 (q := 51) rfl h52 t1 rfl ?_
      refine e_tab k39_51 80 0 rfl (by decide) ?_
      refine e_aload k39_80 (q := 81) rfl rfl ?_
      refine e_aload k39_81 (q := 82) rfl rfl ?_
      refine d_get k39_82 (q := 85) rfl h52 t1 rfl ?_
      rw [hg2]
      show z_E _ _ _ _ (.ref (dm g) :: _) _ _
      refine e_aload k39_85 (q := 86) rfl rfl ?_
      refine d_get k39_86 (q := 89) rfl h52 t1 rfl ?_
      rw [b1]
      refine g_cv k39_89 (q := 92) (as := [_, _]) rfl rfl rfl rfl (m_host hQ1 hD hg hb he) rfl (z_ki fun x89 h89 p89 => ?_)
      refine e_iret k39_92 ⟨_, rfl⟩ ?_
      refine ⟨_, _, rfl, ?_⟩
      rw [z_oc, if_neg (by rw [t5]; decide), if_neg (by rw [t5]; decide), if_neg (by omega), if_pos (by rw [t5]; rfl), hgn, z_na_of b1 (by omega)]
      exact p89
    · refine e_const k39_45 (q := 46) rfl ?_
      refine e_iret k39_46 ⟨_, rfl⟩ ?_
      have hq10 : q = 10 := by
        rcases Nat.lt_or_ge q 10 with z | z
        · exact absurd (Classical.not_not.mp c42) (by rw [(p39.2 z).1]; decide)
        · omega
      obtain ⟨-, rfl⟩ := p39.1 hq10
      refine ⟨_, _, rfl, ?_⟩
      rw [z_oc, if_neg (by rw [t5]; decide), if_neg (by rw [t5]; decide), if_pos hq10]
      exact ⟨rfl, _, rfl, hQ⟩
  · obtain ⟨g, hg, hg1, hg2⟩ := t8 (by decide)
    have hgn : z_na σ0 34 p = g := z_na_of hg1 (by omega)
    obtain ⟨b, hb, b1⟩ := t9 (by decide) (by decide)
    refine e_aload k39_0 (q := 1) rfl rfl ?_
    refine d_get k39_1 (q := 4) rfl h52 t1 rfl ?_
    refine e_if k39_4 (q := 7) rfl (fun c4 => ?_) (fun c4 => absurd (by decide) c4)
    refine e_aload k39_9 (q := 10) rfl rfl ?_
    refine d_get k39_10 (q := 13) rfl h52 t1 rfl ?_
    refine e_const k39_13 (q := 14) rfl ?_
    refine e_ic k39_14 (q := 17) rfl (fun c14 => ?_) (fun c14 => absurd (by decide) c14)
    refine e_aload k39_38 (q := 39) rfl rfl ?_
    refine g_cv k39_39 (q := 42) (as := []) rfl rfl rfl rfl (m_countQuery hQ hq) rfl (z_ki fun x39 h39 p39 => ?_)
    refine e_if k39_42 (q := 45) rfl (fun c42 => ?_) (fun c42 => ?_)
    · have hq10 : q < 10 := by
        rcases Nat.lt_or_ge q 10 with z | z
        · exact z
        · exact absurd (p39.1 (by omega)).1 c42
      obtain ⟨rfl, σ1, rfl, hQ1⟩ := p39.2 hq10
      refine e_aload k39_47 (q := 48) rfl rfl ?_
      refine d_get k39_48 (q := 51) rfl h52 t1 rfl ?_
      refine e_tab k39_51 93 1 rfl (by decide) ?_
      refine e_aload k39_93 (q := 94) rfl rfl ?_
      refine e_aload k39_94 (q := 95) rfl rfl ?_
      refine d_get k39_95 (q := 98) rfl h52 t1 rfl ?_
      rw [hg2]
      show z_E _ _ _ _ (.ref (dm g) :: _) _ _
      refine e_aload k39_98 (q := 99) rfl rfl ?_
      refine d_get k39_99 (q := 102) rfl h52 t1 rfl ?_
      rw [b1]
      refine g_cv k39_102 (q := 105) (as := [_, _]) rfl rfl rfl rfl (m_mail hn2 hQ1 hD hg hb (by omega) he) rfl (z_ki fun x102 h102 p102 => ?_)
      refine e_iret k39_105 ⟨_, rfl⟩ ?_
      refine ⟨_, _, rfl, ?_⟩
      rw [z_oc, if_neg (by rw [t5]; decide), if_neg (by rw [t5]; decide), if_neg (by omega), if_neg (by rw [t5]; decide), if_pos (by rw [t5]; rfl), hgn, z_na_of b1 (by omega)]
      exact p102
    · refine e_const k39_45 (q := 46) rfl ?_
      refine e_iret k39_46 ⟨_, rfl⟩ ?_
      have hq10 : q = 10 := by
        rcases Nat.lt_or_ge q 10 with z | z
        · exact absurd (Classical.not_not.mp c42) (by rw [(p39.2 z).1]; decide)
        · omega
      obtain ⟨-, rfl⟩ := p39.1 hq10
      refine ⟨_, _, rfl, ?_⟩
      rw [z_oc, if_neg (by rw [t5]; decide), if_neg (by rw [t5]; decide), if_pos hq10]
      exact ⟨rfl, _, rfl, hQ⟩
  · obtain ⟨g, hg, hg1, hg2⟩ := t8 (by decide)
    have hgn : z_na σ0 34 p = g := z_na_of hg1 (by omega)
    refine e_aload k39_0 (q := 1) rfl rfl ?_
    refine d_get k39_1 (q := 4) rfl h52 t1 rfl ?_
    refine e_if k39_4 (q := 7) rfl (fun c4 => ?_) (fun c4 => absurd (by decide) c4)
    refine e_aload k39_9 (q := 10) rfl rfl ?_
    refine d_get k39_10 (q := 13) rfl h52 t1 rfl ?_
    refine e_const k39_13 (q := 14) rfl ?_
    refine e_ic k39_14 (q := 17) rfl (fun c14 => ?_) (fun c14 => absurd (by decide) c14)
    refine e_aload k39_38 (q := 39) rfl rfl ?_
    refine g_cv k39_39 (q := 42) (as := []) rfl rfl rfl rfl (m_countQuery hQ hq) rfl (z_ki fun x39 h39 p39 => ?_)
    refine e_if k39_42 (q := 45) rfl (fun c42 => ?_) (fun c42 => ?_)
    · have hq10 : q < 10 := by
        rcases Nat.lt_or_ge q 10 with z | z
        · exact z
        · exact absurd (p39.1 (by omega)).1 c42
      obtain ⟨rfl, σ1, rfl, hQ1⟩ := p39.2 hq10
      refine e_aload k39_47 (q := 48) rfl rfl ?_
      refine d_get k39_48 (q := 51) rfl h52 t1 rfl ?_
      refine e_tab k39_51 106 2 rfl (by decide) ?_
      refine e_aload k39_106 (q := 107) rfl rfl ?_
      refine e_aload k39_107 (q := 108) rfl rfl ?_
      refine d_get k39_108 (q := 111) rfl h52 t1 rfl ?_
      rw [hg2]
      show z_E _ _ _ _ (.ref (dm g) :: _) _ _
      refine e_iload k39_111 (q := 112) rfl rfl ?_
      refine g_cv k39_112 (q := 115) (as := [_, _]) rfl rfl rfl rfl (m_within HR Hlt hQ1 hg (by omega) he) rfl (z_ki fun x112 h112 p112 => ?_)
      refine e_iret k39_115 ⟨_, rfl⟩ ?_
      refine ⟨_, _, rfl, ?_⟩
      rw [z_oc, if_neg (by rw [t5]; decide), if_neg (by rw [t5]; decide), if_neg (by omega), if_neg (by rw [t5]; decide), if_neg (by rw [t5]; decide), if_pos (by rw [t5]; rfl), hgn]
      exact p112
    · refine e_const k39_45 (q := 46) rfl ?_
      refine e_iret k39_46 ⟨_, rfl⟩ ?_
      have hq10 : q = 10 := by
        rcases Nat.lt_or_ge q 10 with z | z
        · exact absurd (Classical.not_not.mp c42) (by rw [(p39.2 z).1]; decide)
        · omega
      obtain ⟨-, rfl⟩ := p39.1 hq10
      refine ⟨_, _, rfl, ?_⟩
      rw [z_oc, if_neg (by rw [t5]; decide), if_neg (by rw [t5]; decide), if_pos hq10]
      exact ⟨rfl, _, rfl, hQ⟩
  · obtain ⟨g, hg, hg1, hg2⟩ := t8 (by decide)
    have hgn : z_na σ0 34 p = g := z_na_of hg1 (by omega)
    obtain ⟨g52, po, sf, na, ne, nm, lo, ko, wo, f, gg, tt, gc, -, -, gA, -⟩ := (hD.1 g hg).2
    have g3 := gA.2.1
    have gna := z_na_of gA.1 (by omega)
    refine e_aload k39_0 (q := 1) rfl rfl ?_
    refine d_get k39_1 (q := 4) rfl h52 t1 rfl ?_
    refine e_if k39_4 (q := 7) rfl (fun c4 => ?_) (fun c4 => absurd (by decide) c4)
    refine e_aload k39_9 (q := 10) rfl rfl ?_
    refine d_get k39_10 (q := 13) rfl h52 t1 rfl ?_
    refine e_const k39_13 (q := 14) rfl ?_
    refine e_ic k39_14 (q := 17) rfl (fun c14 => ?_) (fun c14 => absurd (by decide) c14)
    refine e_aload k39_38 (q := 39) rfl rfl ?_
    refine g_cv k39_39 (q := 42) (as := []) rfl rfl rfl rfl (m_countQuery hQ hq) rfl (z_ki fun x39 h39 p39 => ?_)
    refine e_if k39_42 (q := 45) rfl (fun c42 => ?_) (fun c42 => ?_)
    · have hq10 : q < 10 := by
        rcases Nat.lt_or_ge q 10 with z | z
        · exact z
        · exact absurd (p39.1 (by omega)).1 c42
      obtain ⟨rfl, σ1, rfl, hQ1⟩ := p39.2 hq10
      refine e_aload k39_47 (q := 48) rfl rfl ?_
      refine d_get k39_48 (q := 51) rfl h52 t1 rfl ?_
      refine e_tab k39_51 116 3 rfl (by decide) ?_
      refine e_aload k39_116 (q := 117) rfl rfl ?_
      refine d_get k39_117 (q := 120) rfl h52 t1 rfl ?_
      rw [hg2]
      show z_E _ _ _ _ (.ref (dm g) :: _) _ _
      refine d_get k39_120 (q := 123) rfl g52 gc.1 rfl ?_
      refine e_if k39_123 (q := 126) rfl (fun c123 => ?_) (fun c123 => ?_)
      · have hz : z_na σ0 21 g = 0 := by
          rw [gna]
          rcases Nat.eq_zero_or_pos na with z | z
          · exact z
          · exact absurd c123 (nI_nle z (by omega))
        refine e_aload k39_130 (q := 131) rfl rfl ?_
        refine g_cv k39_131 (q := 134) (as := []) rfl rfl rfl rfl (m_empty hQ1 he) rfl (z_ki fun x131 h131 p131 => ?_)
        refine e_iret k39_134 ⟨_, rfl⟩ ?_
        refine ⟨_, _, rfl, ?_⟩
        rw [z_oc, if_neg (by rw [t5]; decide), if_neg (by rw [t5]; decide), if_neg (by omega), if_neg (by rw [t5]; decide), if_neg (by rw [t5]; decide), if_neg (by rw [t5]; decide), hgn, z_kno, if_pos hz]
        exact p131
      · have hz : ¬ z_na σ0 21 g = 0 := fun z => by
          rw [gna] at z
          subst z
          exact c123 (by decide)
        refine e_const k39_126 (q := 127) rfl ?_
        refine e_goto k39_127 ?_
        refine e_iret k39_134 ⟨_, rfl⟩ ?_
        refine ⟨_, _, rfl, ?_⟩
        rw [z_oc, if_neg (by rw [t5]; decide), if_neg (by rw [t5]; decide), if_neg (by omega), if_neg (by rw [t5]; decide), if_neg (by rw [t5]; decide), if_neg (by rw [t5]; decide), hgn, z_kno, if_neg hz]
        exact ⟨rfl, _, rfl, hQ1⟩
    · refine e_const k39_45 (q := 46) rfl ?_
      refine e_iret k39_46 ⟨_, rfl⟩ ?_
      have hq10 : q = 10 := by
        rcases Nat.lt_or_ge q 10 with z | z
        · exact absurd (Classical.not_not.mp c42) (by rw [(p39.2 z).1]; decide)
        · omega
      obtain ⟨-, rfl⟩ := p39.1 hq10
      refine ⟨_, _, rfl, ?_⟩
      rw [z_oc, if_neg (by rw [t5]; decide), if_neg (by rw [t5]; decide), if_pos hq10]
      exact ⟨rfl, _, rfl, hQ⟩
theorem l_result {d : Nat} {h : zH} {ρ : Nat → Nat → Option Nat} {σ0 : Nat → Nat → Int32} {ip : Int32} {nD : Nat} {dm : Nat → Nat} {res : Nat → Nat → Nat → Nat × Nat × Nat} {D dep : Nat} {i na ne nm : Nat} {po lo ko wo : Option Nat} {sf : Bool} {f : Nat → Int32} {g tt : Nat → Option Nat} (HR : ∀ (d : Nat) (σ : Nat → Nat → Int32) (i q e : Nat), i < nD → q ≤ 10 → e ≤ 2 → z_cq σ σ0 ip q e → z_M (d + D + 2) 37 [.ref 3, .ref (dm i), .int (nI (dep + 1))] (z_G h σ ρ) (z_qi fun r h' => z_crr h ρ σ0 ip (res i q e) r h')) (Hlt : ∀ i q e, (res i q e).1 < 2 ^ 31) (Hgd : ∀ i q e, q ≤ 10 → e ≤ 2 → z_gd q (res i q e)) (hn2 : nD ≤ 12) (hD : z_DD h σ0 ρ nD dm) (hi : i < nD) (h52 : 52 ≤ dm i) (hc : z_dc h (dm i) po sf na ne (z_ct (σ0 33) (8 * i) nm) lo ko wo f g tt) (hT : z_dT h σ0 dm nD i nm tt) (hL : z_dL σ0 dm nD i nm lo) : ∀ (m j : Nat) (σ : Nat → Nat → Int32) (q e : Nat) (x4 : Option Value), j + m = nm → z_cq σ σ0 ip q e → q ≤ 10 → e ≤ 2 →
    z_E (d + D + 4) 37 19 [some (.ref 3), some (.ref (dm i)), some (.int (nI dep)), some (.int (nI (z_ct (σ0 33) (8 * i) j))), x4] [] (z_G h σ ρ) (z_qi fun r h' => z_crr h ρ σ0 ip (z_tms res σ0 ip i m j q e) r h')
  | 0, j, σ, q, e, x4, hj, hQ, hq, he => by
    obtain rfl : j = nm := by omega
    have h8 := hT.2.1
    have hctl := z_ct_le (σ0 33) (8 * i) j
    have hnm : z_na σ0 31 i = j := z_na_of hT.1 (by omega)
    rcases hL with ⟨rfl, hno⟩ | ⟨j0, l, hj0, hl, rfl, l1, l2, l3⟩
    · refine e_iload k37_19 (q := 20) rfl rfl ?_
      refine e_aload k37_20 (q := 21) rfl rfl ?_
      refine d_get k37_21 (q := 24) rfl h52 hc.1 rfl ?_
      refine e_ic k37_24 (q := 27) rfl (fun c24 => ?_) (fun c24 => absurd (nI_le (Nat.le_refl _) (by omega)) c24)
      refine e_aload k37_70 (q := 71) rfl rfl ?_
      refine d_get k37_71 (q := 74) rfl h52 hc.1 rfl ?_
      refine e_nnN k37_74 (q := 77) rfl ?_
      refine e_const k37_77 (q := 78) rfl ?_
      refine e_goto k37_78 ?_
      refine e_iret k37_90 ⟨_, rfl⟩ ?_
      refine ⟨_, _, rfl, ?_⟩
      rw [z_tms, z_end, hnm, if_pos (z_lf_none j hno)]
      exact ⟨rfl, _, rfl, hQ⟩
    · refine e_iload k37_19 (q := 20) rfl rfl ?_
      refine e_aload k37_20 (q := 21) rfl rfl ?_
      refine d_get k37_21 (q := 24) rfl h52 hc.1 rfl ?_
      refine e_ic k37_24 (q := 27) rfl (fun c24 => ?_) (fun c24 => absurd (nI_le (Nat.le_refl _) (by omega)) c24)
      refine e_aload k37_70 (q := 71) rfl rfl ?_
      refine d_get k37_71 (q := 74) rfl h52 hc.1 rfl ?_
      refine e_nnR k37_74 ?_
      refine e_aload k37_81 (q := 82) rfl rfl ?_
      refine e_aload k37_82 (q := 83) rfl rfl ?_
      refine d_get k37_83 (q := 86) rfl h52 hc.1 rfl ?_
      show z_E _ _ _ _ (.ref (dm l) :: _) _ _
      refine e_iload k37_86 (q := 87) rfl rfl ?_
      have hlr := m_leadR (d := d + 1) HR Hlt hQ hl hq he
      rw [show d + 1 + D + 3 = d + D + 4 by omega] at hlr
      refine g_cv k37_87 (q := 90) (as := [_, _]) rfl rfl rfl rfl hlr rfl (z_ki fun x87 h87 p87 => ?_)
      refine e_iret k37_90 ⟨_, rfl⟩ ?_
      refine ⟨_, _, rfl, ?_⟩
      rw [z_tms, z_end, hnm, z_lf_one j hj0 l1 l3, if_neg (z_nI_m1 (by omega)), nI_clamp (by omega), z_na_of l2 (by omega)]
      exact p87
  | m + 1, j, σ, q, e, x4, hj, hQ, hq, he => by
    have h8 := hT.2.1
    by_cases h6 : σ0 33 (8 * i + j) = 6
    · have := l_result (d := d) HR Hlt Hgd hn2 hD hi h52 hc hT hL m (j + 1) σ q e x4 (by omega) hQ hq he
      rw [z_tms, if_pos h6]
      rw [z_ct, if_pos h6, Nat.add_zero] at this
      exact this
    · obtain ⟨t, ht1, ht2⟩ := hT.2.2 j (by omega) h6
      have hlt := z_ct_lt (σ0 33) (8 * i) (show j < nm by omega) h6
      have hctl := z_ct_le (σ0 33) (8 * i) nm
      have hin : vp_in (nI (z_ct (σ0 33) (8 * i) j)) 8 := vp_in_nI (by omega) (by decide)
      have hle := z_oc_le res σ0 ip (8 * i + j) q e
      have hgd := z_oc_gd Hgd σ0 ip (8 * i + j) hq he
      have ht3 := ht2
      obtain ⟨tq52, kd, ql, num, tg, t1, t2, t3, t4, t5, -⟩ := ht2
      refine e_iload k37_19 (q := 20) rfl rfl ?_
      refine e_aload k37_20 (q := 21) rfl rfl ?_
      refine d_get k37_21 (q := 24) rfl h52 hc.1 rfl ?_
      refine e_ic k37_24 (q := 27) rfl (fun c24 => absurd c24 (nI_ge (by omega) (by omega))) (fun c24 => ?_)
      refine e_aload k37_27 (q := 28) rfl rfl ?_
      refine e_aload k37_28 (q := 29) rfl rfl ?_
      refine d_get k37_29 (q := 32) rfl h52 hc.1 rfl ?_
      refine e_iload k37_32 (q := 33) rfl rfl ?_
      refine d_rld k37_33 (q := 34) rfl (by omega) hc.2.2.2 hin ?_
      rw [nI_clamp (by omega), ht1]
      show z_E _ _ _ _ (.ref t :: _) _ _
      refine e_iload k37_34 (q := 35) rfl rfl ?_
      refine g_cv k37_35 (q := 38) (as := [_, _]) rfl rfl rfl rfl (m_outcome HR Hlt hn2 hD hQ hq he ht3) rfl (z_ki fun x35 h35 p35 => ?_)
      obtain ⟨rfl, σ1, rfl, hQ1⟩ := p35
      refine e_ist k37_38 (q := 40) (L' := [_, _, _, _, _]) rfl rfl rfl ?_
      refine e_iload k37_40 (q := 42) rfl rfl ?_
      refine e_const k37_42 (q := 43) rfl ?_
      refine e_ic k37_43 (q := 46) rfl (fun c43 => ?_) (fun c43 => ?_)
      · have o2 : ¬ (z_oc res σ0 ip (8 * i + j) q e).1 = 2 := fun z => c43 (by rw [z]; rfl)
        refine e_iload k37_48 (q := 50) rfl rfl ?_
        refine e_const k37_50 (q := 51) rfl ?_
        refine e_ic k37_51 (q := 54) rfl (fun c51 => ?_) (fun c51 => ?_)
        · have o1 : ¬ (z_oc res σ0 ip (8 * i + j) q e).1 = 1 := fun z => c51 (by rw [z]; rfl)
          refine e_iinc k37_64 (q := 67) (L' := [_, _, _, some (.int (nI (z_ct (σ0 33) (8 * i) j + 1))), _]) rfl rfl (by rw [nI_1]; rfl) ?_
          refine e_goto k37_67 ?_
          have := l_result (d := d) HR Hlt Hgd hn2 hD hi h52 hc hT hL m (j + 1) σ1 _ _ (some (.int (nI (z_oc res σ0 ip (8 * i + j) q e).1))) (by omega) hQ1 hgd.2.1 hgd.2.2
          rw [z_tms, if_neg h6, if_pos (by omega)]
          rw [z_ct, if_neg h6] at this
          exact this
        · have o1 : (z_oc res σ0 ip (8 * i + j) q e).1 = 1 := (nI_eq (b := 1) (by omega) (by decide)).mp (Classical.not_not.mp c51)
          refine e_aload k37_54 (q := 55) rfl rfl ?_
          refine d_get k37_55 (q := 58) rfl h52 hc.1 rfl ?_
          refine e_iload k37_58 (q := 59) rfl rfl ?_
          refine d_rld k37_59 (q := 60) rfl (by omega) hc.2.2.2 hin ?_
          rw [nI_clamp (by omega), ht1]
          show z_E _ _ _ _ (.ref t :: _) _ _
          refine d_get k37_60 (q := 63) rfl tq52 t1 rfl ?_
          refine e_iret k37_63 ⟨_, rfl⟩ ?_
          refine ⟨_, _, rfl, ?_⟩
          rw [z_tms, if_neg h6, if_neg (by omega), if_pos o1, z_na_of t2 (by omega)]
          exact ⟨rfl, _, rfl, hQ1⟩
      · have o2 : (z_oc res σ0 ip (8 * i + j) q e).1 = 2 := (nI_eq (b := 2) (by omega) (by decide)).mp (Classical.not_not.mp c43)
        refine e_const k37_46 (q := 47) rfl ?_
        refine e_iret k37_47 ⟨_, rfl⟩ ?_
        refine ⟨_, _, rfl, ?_⟩
        rw [z_tms, if_neg h6, if_neg (by omega), if_neg (by omega)]
        exact ⟨rfl, _, rfl, hQ1⟩
/-- the class's checking is the function of the rows -/
theorem m_result {h : zH} {ρ : Nat → Nat → Option Nat} {σ0 : Nat → Nat → Int32} {ip : Int32} {nD : Nat} {dm : Nat → Nat} (hn2 : nD ≤ 12) (hD : z_DD h σ0 ρ nD dm) : ∀ (f dep d : Nat) (σ : Nat → Nat → Int32) (i q e : Nat), dep + f = 11 → i < nD → q ≤ 10 → e ≤ 2 → z_cq σ σ0 ip q e → z_M (d + 3 * f + 2) 37 [.ref 3, .ref (dm i), .int (nI dep)] (z_G h σ ρ) (z_qi fun r h' => z_crr h ρ σ0 ip (z_res σ0 ip f i q e) r h')
  | 0, dep, d, σ, i, q, e, hd, hi, hq, he, hQ => by
    obtain rfl : dep = 11 := by omega
    refine z_M.of ⟨Nat.le_of_ble_eq_true rfl, by simp [Value.category]⟩ (L := [some (.ref 3), some (.ref (dm i)), some (.int (nI 11)), none, none]) rfl ?_
    refine e_iload k37_0 (q := 1) rfl rfl ?_
    refine e_const k37_1 (q := 3) rfl ?_
    refine e_ic k37_3 (q := 6) rfl (fun c3 => absurd c3 (by decide)) (fun c3 => ?_)
    refine e_const k37_6 (q := 7) rfl ?_
    refine e_iret k37_7 ⟨_, rfl⟩ ?_
    exact ⟨_, _, rfl, rfl, _, rfl, hQ⟩
  | f + 1, dep, d, σ, i, q, e, hd, hi, hq, he, hQ => by
    have HR := fun (d : Nat) (σ : Nat → Nat → Int32) (i q e : Nat) (hi : i < nD) (hq : q ≤ 10) (he : e ≤ 2) (hQ : z_cq σ σ0 ip q e) => m_result hn2 hD f (dep + 1) d σ i q e (by omega) hi hq he hQ
    obtain ⟨h52, po, sf, na, ne, nm, lo, ko, wo, f1, g, tt, hc, c2, c3, c4d, c5, c6, c7, c8, c9⟩ := (hD.1 i hi).2
    have h8 := c6.2.1
    have hnm : z_na σ0 31 i = nm := z_na_of c6.1 (by omega)
    have hp : (lo = none ∧ z_ct (σ0 33) (8 * i) nm = nm) ∨ (¬ lo = none ∧ z_ct (σ0 33) (8 * i) nm + 1 = nm) := by
      rcases c7 with ⟨z1, z2⟩ | ⟨j, l, z1, z2, z3, z4, z5, z6⟩
      · exact Or.inl ⟨z1, z_ct_all nm z2⟩
      · exact Or.inr ⟨(by rw [z3]; intro z; cases z), z_ct_one nm z1 z4 z6⟩
    show z_M (d + 3 * f + 4 + 1) 37 _ _ _
    refine z_M.of ⟨Nat.le_of_ble_eq_true rfl, by simp [Value.category]⟩ (L := [some (.ref 3), some (.ref (dm i)), some (.int (nI dep)), none, none]) rfl ?_
    refine e_iload k37_0 (q := 1) rfl rfl ?_
    refine e_const k37_1 (q := 3) rfl ?_
    refine e_ic k37_3 (q := 6) rfl (fun c3 => ?_) (fun c3 => absurd (nI_le (b := 10) (by omega) (by decide)) c3)
    refine e_aload k37_8 (q := 9) rfl rfl ?_
    refine d_cv k37_9 (q := 12) (as := []) rfl rfl h52 hc.1 rfl (m_policySize h52 hc hp) rfl (z_ki fun x9 h9 p9 => ?_)
    obtain ⟨rfl, rfl⟩ := p9
    refine e_if k37_12 (q := 15) rfl (fun c12 => ?_) (fun c12 => ?_)
    · have hz : ¬ z_na σ0 31 i = 0 := fun z => by
        rw [hnm] at z
        subst z
        exact absurd rfl c12
      refine e_const k37_17 (q := 18) rfl ?_
      refine e_ist k37_18 (q := 19) (L' := [_, _, _, _, _]) rfl rfl rfl ?_
      rw [z_res, if_neg hz, hnm]
      exact l_result (D := 3 * f) HR (fun i q e => z_res_lt σ0 ip f i q e) (fun i q e hq he => z_res_gd σ0 ip f i hq he) hn2 hD hi h52 hc c6 c7 nm 0 σ q e _ (by omega) hQ hq he
    · have hz : z_na σ0 31 i = 0 := by rw [hnm]; exact (nI_eq (b := 0) (by omega) (by decide)).mp (Classical.not_not.mp c12)
      refine e_const k37_15 (q := 16) rfl ?_
      refine e_iret k37_16 ⟨_, rfl⟩ ?_
      refine ⟨_, _, rfl, ?_⟩
      rw [z_res, if_pos hz]
      exact ⟨rfl, _, rfl, hQ⟩
