/-! Checking: both. -/
theorem z_na_cg {σ σ' : Nat → Nat → Int32} (r : ∀ k, 19 ≤ k → k ≤ 35 → σ' k = σ k) {k : Nat} (h1 : 19 ≤ k) (h2 : k ≤ 35) (i : Nat) : z_na σ' k i = z_na σ k i := by rw [z_na, z_na, r k h1 h2]
theorem z_any_cg {σ σ' : Nat → Nat → Int32} (r : ∀ k, 19 ≤ k → k ≤ 35 → σ' k = σ k) (ip : Int32) (b n : Nat) : ∀ m, z_any σ' ip b n m = z_any σ ip b n m
  | 0 => rfl
  | m + 1 => by rw [z_any, z_any, z_any_cg r ip b n m, r 22 (by decide) (by decide)]
theorem z_hos_cg {σ σ' : Nat → Nat → Int32} (r : ∀ k, 19 ≤ k → k ≤ 35 → σ' k = σ k) (ip : Int32) (t n q e : Nat) : z_hos σ' ip t n q e = z_hos σ ip t n q e := by
  unfold z_hos
  rw [z_na_cg r (by decide) (by decide), z_any_cg r ip]
theorem z_mal_cg {σ σ' : Nat → Nat → Int32} (r : ∀ k, 19 ≤ k → k ≤ 35 → σ' k = σ k) (ip : Int32) (t n : Nat) : ∀ m k q e, z_mal σ' ip t n m k q e = z_mal σ ip t n m k q e
  | 0, k, q, e => rfl
  | m + 1, k, q, e => by rw [z_mal, z_mal, z_na_cg r (by decide) (by decide), z_hos_cg r ip, z_mal_cg r ip t n m]
theorem z_oc_cg {σ σ' : Nat → Nat → Int32} (r : ∀ k, 19 ≤ k → k ≤ 35 → σ' k = σ k) (ip : Int32) (res : Nat → Nat → Nat → Nat × Nat × Nat) (p q e : Nat) : z_oc res σ' ip p q e = z_oc res σ ip p q e := by
  unfold z_oc z_mai z_kno
  rw [r 33 (by decide) (by decide), r 34 (by decide) (by decide), z_na_cg r (k := 35) (by decide) (by decide), z_na_cg r (k := 34) (by decide) (by decide), z_hos_cg r ip, z_mal_cg r ip, z_na_cg r (k := 23) (by decide) (by decide), z_na_cg r (k := 21) (by decide) (by decide)]
theorem z_tms_cg {σ σ' : Nat → Nat → Int32} (r : ∀ k, 19 ≤ k → k ≤ 35 → σ' k = σ k) (ip : Int32) (res : Nat → Nat → Nat → Nat × Nat × Nat) (i : Nat) : ∀ m j q e, z_tms res σ' ip i m j q e = z_tms res σ ip i m j q e
  | 0, j, q, e => by
    rw [z_tms, z_tms]
    unfold z_end
    rw [r 33 (by decide) (by decide), z_na_cg r (k := 31) (by decide) (by decide), z_na_cg r (k := 34) (by decide) (by decide)]
  | m + 1, j, q, e => by
    rw [z_tms, z_tms, r 33 (by decide) (by decide), z_oc_cg r ip, z_tms_cg r ip res i m, z_tms_cg r ip res i m, z_na_cg r (k := 32) (by decide) (by decide)]
theorem z_res_cg {σ σ' : Nat → Nat → Int32} (r : ∀ k, 19 ≤ k → k ≤ 35 → σ' k = σ k) (ip : Int32) : ∀ f, z_res σ' ip f = z_res σ ip f
  | 0 => rfl
  | f + 1 => by
    funext i q e
    rw [z_res, z_res, z_res_cg r ip f, z_na_cg r (k := 31) (by decide) (by decide), z_tms_cg r ip]
theorem m_begin {d : Nat} {h : zH} {ρ : Nat → Nat → Option Nat} {σ : Nat → Nat → Int32} {nD : Nat} {dm : Nat → Nat} {i : Nat} (ip : Int32) (hn2 : nD ≤ 12) (hD : z_DD h σ ρ nD dm) (hi : i < nD) : z_M (d + 36) 36 [.ref 3, .int ip, .ref (dm i)] (z_G h σ ρ) (z_qi fun r h' => z_crr h ρ σ ip (z_res σ ip 11 i 0 0) r h') := by
  refine z_M.of ⟨Nat.le_of_ble_eq_true rfl, by simp [Value.category]⟩ (L := [some (.ref 3), some (.int ip), some (.ref (dm i))]) rfl ?_
  refine e_aload k36_0 (q := 1) rfl rfl ?_
  refine e_iload k36_1 (q := 2) rfl rfl ?_
  refine g_put k36_2 (q := 5) rfl rfl ⟨_, rfl⟩ rfl ?_
  refine e_aload k36_5 (q := 6) rfl rfl ?_
  refine e_const k36_6 (q := 7) rfl ?_
  refine g_put k36_7 (q := 10) rfl rfl ⟨_, rfl⟩ rfl ?_
  refine e_aload k36_10 (q := 11) rfl rfl ?_
  refine e_const k36_11 (q := 12) rfl ?_
  refine g_put k36_12 (q := 15) rfl rfl ⟨_, rfl⟩ rfl ?_
  refine e_aload k36_15 (q := 16) rfl rfl ?_
  refine e_aload k36_16 (q := 17) rfl rfl ?_
  refine e_const k36_17 (q := 18) rfl ?_
  have hQ : z_cq (z_us (z_us (z_us σ 3 (upd (σ 3) 0 ip)) 3 (upd (z_us σ 3 (upd (σ 3) 0 ip) 3) 1 0)) 3 (upd (z_us (z_us σ 3 (upd (σ 3) 0 ip)) 3 (upd (z_us σ 3 (upd (σ 3) 0 ip) 3) 1 0) 3) 2 0)) σ ip 0 0 := ⟨fun k hk => by rw [z_us_ne _ _ hk, z_us_ne _ _ hk, z_us_ne _ _ hk], rfl, rfl, rfl⟩
  refine g_cv k36_18 (q := 21) (as := [_, _]) rfl rfl rfl rfl (m_result hn2 hD 11 0 d _ i 0 0 rfl hi (by decide) (by decide) hQ) rfl (z_ki fun x18 h18 p18 => ?_)
  refine e_iret k36_21 ⟨_, rfl⟩ ?_
  exact ⟨_, _, rfl, p18⟩
theorem m_check0 {d : Nat} {h : zH} {ρ : Nat → Nat → Option Nat} {σ : Nat → Nat → Int32} {nD : Nat} (h1 : σ 1 1 = nI nD) (ip : Int32) {x : Int32} (hx : z_nb nD x) : z_M (d + 2) 7 [.ref 1, .int ip, .int x] (z_G h σ ρ) (z_qi fun r h' => r = -1 ∧ h' = z_G h σ ρ) := by
  refine z_M.of ⟨Nat.le_of_ble_eq_true rfl, by simp [Value.category]⟩ (L := [some (.ref 1), some (.int ip), some (.int x), none]) rfl ?_
  refine e_aload k7_0 (q := 1) rfl rfl ?_
  refine e_iload k7_1 (q := 2) rfl rfl ?_
  refine g_cv k7_2 (q := 5) (as := [_]) rfl rfl rfl rfl (m_numb0 h1 hx) rfl (z_kr fun x2 h2 p2 => ?_)
  obtain ⟨rfl, rfl⟩ := p2
  refine e_astq (a := none) k7_5 (q := 6) (L' := [_, _, _, _]) rfl rfl rfl ?_
  refine e_aloadq (a := none) k7_6 (q := 7) rfl rfl ?_
  refine e_nnN k7_7 (q := 10) rfl ?_
  refine e_const k7_10 (q := 11) rfl ?_
  refine e_goto k7_11 ?_
  refine e_iret k7_23 ⟨_, rfl⟩ ?_
  exact ⟨_, _, rfl, rfl, rfl⟩
theorem m_check1 {d : Nat} {h : zH} {ρ : Nat → Nat → Option Nat} {σ : Nat → Nat → Int32} {nD : Nat} {dm : Nat → Nat} {i : Nat} (hC : z_CC σ nD) (hD : z_DD h σ ρ nD dm) (ip : Int32) (hi : i < nD) : z_M (d + 37) 7 [.ref 1, .int ip, .int (nI i)] (z_G h σ ρ) (z_qi fun r h' => z_crr h ρ σ ip (z_res σ ip 11 i 0 0) r h') := by
  refine z_M.of ⟨Nat.le_of_ble_eq_true rfl, by simp [Value.category]⟩ (L := [some (.ref 1), some (.int ip), some (.int (nI i)), none]) rfl ?_
  refine e_aload k7_0 (q := 1) rfl rfl ?_
  refine e_iload k7_1 (q := 2) rfl rfl ?_
  refine g_cv k7_2 (q := 5) (as := [_]) rfl rfl rfl rfl (m_numb1 hC hD hi) rfl (z_kr fun x2 h2 p2 => ?_)
  obtain ⟨rfl, rfl⟩ := p2
  refine e_ast (a := dm i) k7_5 (q := 6) (L' := [_, _, _, _]) rfl rfl rfl ?_
  refine e_aload k7_6 (q := 7) rfl rfl ?_
  refine e_nnR k7_7 ?_
  refine e_aload k7_14 (q := 15) rfl rfl ?_
  refine g_get k7_15 (q := 18) rfl rfl rfl ?_
  refine e_iload k7_18 (q := 19) rfl rfl ?_
  refine e_aload k7_19 (q := 20) rfl rfl ?_
  refine g_cv k7_20 (q := 23) (as := [_, _]) rfl rfl rfl rfl (m_begin ip hC.1 hD hi) rfl (z_ki fun x20 h20 p20 => ?_)
  refine e_iret k7_23 ⟨_, rfl⟩ ?_
  exact ⟨_, _, rfl, p20⟩
theorem z_DD.rwd {h : zH} {σ : Nat → Nat → Int32} {ρ : Nat → Nat → Option Nat} {nD : Nat} {dm : Nat → Nat} (hD : z_DD h σ ρ nD dm) : z_rwd σ nD := fun g hg => by
  obtain ⟨h52, po, sf, na, ne, nm, lo, ko, wo, f, gg, tt, c1, c2, c3, c4, c5, c6, c7, c8, c9⟩ := (hD.1 g hg).2
  exact ⟨⟨na, c4.2.1, c4.1⟩, ne, c5.2.1, c5.1, fun k hk => by
    obtain ⟨v, hv, v1, -⟩ := c5.2.2 k hk
    exact ⟨v, hv, v1⟩⟩
theorem z_DD.rwt {h : zH} {σ : Nat → Nat → Int32} {ρ : Nat → Nat → Option Nat} {nD : Nat} {dm : Nat → Nat} (hD : z_DD h σ ρ nD dm) : z_rwt σ nD := fun i hi => by
  obtain ⟨h52, po, sf, na, ne, nm, lo, ko, wo, f, gg, tt, c1, c2, c3, c4, c5, c6, c7, c8, c9⟩ := (hD.1 i hi).2
  refine ⟨nm, c6.2.1, c6.1, fun j hj h6 => ?_, ?_⟩
  · obtain ⟨t, -, -, kd, ql, num, tg, -, t2, t3, t4, t5, t6, t7, t8, t9⟩ := c6.2.2 j hj h6
    exact ⟨kd, ql, t6, ⟨t5, fun z => by
      obtain ⟨g, hg, g1, -⟩ := t8 z
      exact ⟨g, hg, g1⟩, t9⟩, t2, t3, t4⟩
  · rcases c7 with ⟨-, z2⟩ | ⟨j, l, z1, z2, z3, z4, z5, z6⟩
    · exact Or.inl z2
    · exact Or.inr ⟨j, l, z1, z2, z4, z5, z6⟩
theorem m_checked {d : Nat} {h : zH} {ρ : Nat → Nat → Option Nat} {σ : Nat → Nat → Int32} {nD : Nat} {dm : Nat → Nat} {i : Nat} (ip : Int32) (hn2 : nD ≤ 12) (hD : z_DD h σ ρ nD dm) (hi : i < nD) : z_M (d + 5) 86 [.ref 18, .int ip, .int (nI i)] (z_G h σ ρ) (z_qi fun r h' => r = nI (z_res σ ip 11 i 0 0).1 ∧ ∃ σ' b, h' = z_G h σ' ρ ∧ z_mst σ' σ (z_res σ ip 11 i 0 0).2.1 (z_res σ ip 11 i 0 0).2.2 b) := by
  refine z_M.of ⟨Nat.le_of_ble_eq_true rfl, by simp [Value.category]⟩ (L := [some (.ref 18), some (.int ip), some (.int (nI i)), none, none, none, none, none]) rfl ?_
  refine e_aload k86_0 (q := 1) rfl rfl ?_
  refine e_const k86_1 (q := 2) rfl ?_
  refine g_put k86_2 (q := 5) rfl rfl ⟨_, rfl⟩ rfl ?_
  refine e_aload k86_5 (q := 6) rfl rfl ?_
  refine e_const k86_6 (q := 7) rfl ?_
  refine g_put k86_7 (q := 10) rfl rfl ⟨_, rfl⟩ rfl ?_
  refine e_aload k86_10 (q := 11) rfl rfl ?_
  refine e_const k86_11 (q := 12) rfl ?_
  refine g_put k86_12 (q := 15) rfl rfl (by first | exact Or.inl rfl | exact Or.inr rfl | assumption) rfl ?_
  refine e_const k86_15 (q := 16) rfl ?_
  refine e_ist k86_16 (q := 17) (L' := [_, _, _, _, _, _, _, _]) rfl rfl rfl ?_
  refine e_const k86_17 (q := 18) rfl ?_
  refine e_ist k86_18 (q := 20) (L' := [_, _, _, _, _, _, _, _]) rfl rfl rfl ?_
  refine e_aload k86_20 (q := 21) rfl rfl ?_
  refine e_const k86_21 (q := 22) rfl ?_
  refine e_iload k86_22 (q := 23) rfl rfl ?_
  refine e_const k86_23 (q := 24) rfl ?_
  have hS0 : z_mst (z_us (z_us (z_us σ 18 (upd (σ 18) 18 0)) 18 (upd (z_us σ 18 (upd (σ 18) 18 0) 18) 19 0)) 18 (upd (z_us (z_us σ 18 (upd (σ 18) 18 0)) 18 (upd (z_us σ 18 (upd (σ 18) 18 0) 18) 19 0) 18) 20 0)) σ 0 0 false := by
    refine ⟨fun k k1 k2 k3 k4 => by rw [z_us_ne _ _ k1, z_us_ne _ _ k1, z_us_ne _ _ k1], fun j j1 j2 j3 => ?_, rfl, rfl, rfl⟩
    rw [z_us_eq, pk_un j3, z_us_eq, pk_un j2, z_us_eq, pk_un j1]
  refine g_cv k86_24 (q := 27) (as := [_, _, _]) rfl rfl rfl rfl (m_open (p := 0) (by decide) false) rfl (z_kv fun h24 p24 => ?_)
  obtain ⟨σ1, rfl, g1, g2, g3, g4⟩ := p24
  have hS1 : z_mst σ1 σ 0 0 false := hS0.of g1
  have b36 : σ1 36 0 = nI i := by rw [g2]; exact pk_us
  have b37 : σ1 37 0 = nI 0 := by rw [g3]; exact pk_us
  have b38 : σ1 38 0 = z_bi false := by rw [g4]; exact pk_us
  refine e_const k86_27 (q := 28) rfl ?_
  refine e_ist k86_28 (q := 30) (L' := [_, _, _, _, _, _, _, _]) rfl rfl rfl ?_
  show z_E (d + 4) 86 30 [some (.ref 18), some (.int ip), some (.int (nI i)), some (.int (nI 0)), some (.int (-1)), some (.int (nI 0)), none, none] [] (z_G h σ1 ρ) _
  obtain ⟨nm, hnm8, hnm1, hT, -⟩ := hD.rwt i hi
  have hnm : z_na σ 31 i = nm := z_na_of hnm1 (by omega)
  by_cases hz : nm = 0
  · subst hz
    have hres : z_res σ ip 11 i 0 0 = (0, 0, 0) := by rw [z_res, hnm, if_pos rfl]
    rw [hres]
    refine l_iter (by decide) (by decide) hS1 (m_step0 hS1 (by decide) b36 b38 (by omega) hnm1) ?_
    rintro r h' ⟨rfl, σ2, rfl, f2, hS2⟩
    refine l_got (by decide) ?_
    exact l_done (r := 0) (by decide) hS2 ⟨rfl, σ2, false, rfl, hS2⟩
  · have hres : z_res σ ip 11 i 0 0 = z_tms (z_res σ ip 10) σ ip i nm 0 0 0 := by rw [z_res, hnm, if_neg hz]
    rw [hres]
    refine l_ckf (d := d) hn2 hD.rwd hD.rwt 10 nm 0 0 i 0 0 0 0 σ1 _ _ _ _ hi (by rw [Nat.zero_add]; exact hnm1) (by omega) (by omega) (by decide) (by decide) (by decide) (by decide) hS1 b36 b37 (by omega) (fun c σ' hS' => ?_) (fun c σ' k' x7' hS' hlo hk' => ?_)
    · exact ⟨by rw [c]; rfl, σ', true, rfl, hS'⟩
    · exact l_done (z_tms_lt (z_res_lt σ ip 10) σ ip i _ _ _ _) hS' ⟨rfl, σ', false, rfl, hS'⟩
theorem m_checkM0 {d : Nat} {h : zH} {ρ : Nat → Nat → Option Nat} {σ : Nat → Nat → Int32} {nD : Nat} (h0 : σ 18 0 = nI nD) (ip : Int32) {x : Int32} (hx : z_nb nD x) : z_M (d + 2) 87 [.ref 18, .int ip, .int x] (z_G h σ ρ) (z_qi fun r h' => r = -1 ∧ h' = z_G h σ ρ) := by
  refine z_M.of ⟨Nat.le_of_ble_eq_true rfl, by simp [Value.category]⟩ (L := [some (.ref 18), some (.int ip), some (.int x)]) rfl ?_
  refine e_aload k87_0 (q := 1) rfl rfl ?_
  refine e_iload k87_1 (q := 2) rfl rfl ?_
  refine g_cv k87_2 (q := 5) (as := [_]) rfl rfl rfl rfl (m_noneB h0 hx) rfl (z_ki fun x2 h2 p2 => ?_)
  obtain ⟨rfl, rfl⟩ := p2
  refine e_if k87_5 (q := 8) rfl (fun c5 => absurd c5 (by decide)) (fun c5 => ?_)
  refine e_const k87_8 (q := 9) rfl ?_
  refine e_goto k87_9 ?_
  refine e_iret k87_18 ⟨_, rfl⟩ ?_
  exact ⟨_, _, rfl, rfl, rfl⟩
theorem m_checkM1 {d : Nat} {h : zH} {ρ : Nat → Nat → Option Nat} {σ : Nat → Nat → Int32} {nD : Nat} {dm : Nat → Nat} {i : Nat} (h0 : σ 18 0 = nI nD) (hn2 : nD ≤ 12) (hD : z_DD h σ ρ nD dm) (ip : Int32) (hi : i < nD) : z_M (d + 6) 87 [.ref 18, .int ip, .int (nI i)] (z_G h σ ρ) (z_qi fun r h' => r = nI (z_res σ ip 11 i 0 0).1 ∧ ∃ σ' b, h' = z_G h σ' ρ ∧ z_mst σ' σ (z_res σ ip 11 i 0 0).2.1 (z_res σ ip 11 i 0 0).2.2 b) := by
  refine z_M.of ⟨Nat.le_of_ble_eq_true rfl, by simp [Value.category]⟩ (L := [some (.ref 18), some (.int ip), some (.int (nI i))]) rfl ?_
  refine e_aload k87_0 (q := 1) rfl rfl ?_
  refine e_iload k87_1 (q := 2) rfl rfl ?_
  refine g_cv k87_2 (q := 5) (as := [_]) rfl rfl rfl rfl (m_noneG h0 (z_nb_no hn2 hi)) rfl (z_ki fun x2 h2 p2 => ?_)
  obtain ⟨rfl, rfl⟩ := p2
  refine e_if k87_5 (q := 8) rfl (fun c5 => ?_) (fun c5 => absurd rfl c5)
  refine e_aload k87_12 (q := 13) rfl rfl ?_
  refine e_iload k87_13 (q := 14) rfl rfl ?_
  refine e_iload k87_14 (q := 15) rfl rfl ?_
  refine g_cv k87_15 (q := 18) (as := [_, _]) rfl rfl rfl rfl (m_checked ip hn2 hD hi) rfl (z_ki fun x15 h15 p15 => ?_)
  refine e_iret k87_18 ⟨_, rfl⟩ ?_
  exact ⟨_, _, rfl, p15⟩
/-- only scratch and the counts changed -/
theorem z_I.chk {X : zE} {h : zH} {σ σ' : Nat → Nat → Int32} {ρ : Nat → Nat → Option Nat} {nD ns : Nat} {dm : Nat → Nat} (hC : z_CC σ nD) (hD : z_DD h σ ρ nD dm) (hS : z_SS h σ ρ nD dm ns) (hT : z_TT σ') (hF : z_FF X h) (r1 : σ' 1 = σ 1) (r : ∀ k, 18 < k ∧ k < 36 → σ' k = σ k) (rs : ∀ k, 40 < k ∧ k < 45 → σ' k = σ k) (r18 : ∀ j, j = 0 ∨ j = 28 → σ' 18 j = σ 18 j) (c1 : σ' 3 1 = σ' 18 18) (c2 : σ' 3 2 = σ' 18 19) : z_I X h σ' ρ :=
  ⟨nD, dm, ns, ⟨hC.1, by rw [r1]; exact hC.2.1, by rw [r18 0 (by omega)]; exact hC.2.2.1, c1, c2⟩, hD.fr z_kp.rf (fun _ _ _ _ => rfl) rfl (fun k a b => r k (by omega)), hS.fr (Nat.le_refl _) (fun _ _ => rfl) z_kp.rf rfl (fun k a b => rs k (by omega)) (by rw [r1]) (r18 28 (by omega)), hT, hF⟩
theorem s_check {d : Nat} {X : zE} {h : zH} {σ : Nat → Nat → Int32} {ρ : Nat → Nat → Option Nat} (hI : z_I X h σ ρ) (ip x : Int32) : z_M (d + 37) 7 [.ref 1, .int ip, .int x] (z_G h σ ρ) (z_qi fun r h' => z_mid X h' ∧ z_M (d + 37) 87 [.ref 18, .int ip, .int x] h' (z_ok X h r)) := by
  obtain ⟨nD, dm, ns, hC, hD, hS, hT, hF⟩ := hI
  have hn := hC.1
  rcases z_nb_or hn x with hb | ⟨i, hi, rfl⟩
  · refine (m_check0 hC.2.1 ip hb).mono ?_
    rintro r ⟨x, h', rfl, rfl, rfl⟩
    refine ⟨_, _, rfl, z_mid.of hF.2.1, (m_checkM0 hC.2.2.1 ip hb).mono ?_⟩
    rintro r ⟨x, h', rfl, rfl, rfl⟩
    exact z_ok.same ⟨nD, dm, ns, hC, hD, hS, hT, hF⟩
  · refine (m_check1 hC hD ip hi).mono ?_
    rintro r ⟨x, h', rfl, rfl, σ1, rfl, hQ⟩
    have rr : ∀ k, 19 ≤ k → k ≤ 35 → σ1 k = σ k := fun k a b => hQ.1 k (by omega)
    have hD1 : z_DD h σ1 ρ nD dm := hD.fr z_kp.rf (fun _ _ _ _ => rfl) rfl rr
    have hres : z_res σ1 ip 11 = z_res σ ip 11 := z_res_cg rr ip 11
    refine ⟨_, _, rfl, z_mid.of hF.2.1, (m_checkM1 (σ := σ1) (by rw [hQ.1 18 (by decide)]; exact hC.2.2.1) hn hD1 ip hi).mono ?_⟩
    rw [hres]
    rintro r ⟨x, h', rfl, rfl, σ2, b, rfl, hM⟩
    refine ⟨_, _, rfl, rfl, h, σ2, ρ, rfl, ?_, by omega, by omega⟩
    have e3 : σ2 3 = σ1 3 := hM.1 3 (by decide) (by decide) (by decide) (by decide)
    have rk : ∀ k, k ≠ 3 → k ≠ 18 → k ≠ 36 → k ≠ 37 → k ≠ 38 → σ2 k = σ k := fun k a b c d e => (hM.1 k b c d e).trans (hQ.1 k a)
    have r18 : ∀ j, j ≠ 18 → j ≠ 19 → j ≠ 20 → σ2 18 j = σ 18 j := fun j a b c => by rw [hM.2.1 j a b c, hQ.1 18 (by decide)]
    exact z_I.chk hC hD hS (hT.fr (fun k hk => rk k (by omega) (by omega) (by omega) (by omega) (by omega)) (r18 24 (by decide) (by decide) (by decide)) (r18 26 (by decide) (by decide) (by decide))) hF (rk 1 (by decide) (by decide) (by decide) (by decide) (by decide)) (fun k hk => rk k (by omega) (by omega) (by omega) (by omega) (by omega)) (fun k hk => rk k (by omega) (by omega) (by omega) (by omega) (by omega)) (fun j hj => r18 j (by omega) (by omega) (by omega)) (by rw [e3, hQ.2.2.1, hM.2.2.1]) (by rw [e3, hQ.2.2.2, hM.2.2.2.1])
theorem s_queries {d : Nat} {X : zE} {h : zH} {σ : Nat → Nat → Int32} {ρ : Nat → Nat → Option Nat} (hI : z_I X h σ ρ) : z_M (d + 1) 8 [.ref 1] (z_G h σ ρ) (z_qi fun r h' => z_mid X h' ∧ z_M (d + 1) 88 [.ref 18] h' (z_ok X h r)) := by
  have hcnt : σ 3 1 = σ 18 18 := by
    obtain ⟨nD, dm, ns, hC, -⟩ := hI
    exact hC.2.2.2.1
  have hX0 : h.1 0 = some X := by
    obtain ⟨nD, dm, ns, hC, hD, hS, hT, hF⟩ := hI
    exact hF.2.1
  refine z_M.of ⟨Nat.le_of_ble_eq_true rfl, by simp [Value.category]⟩ (L := [some (.ref 1)]) rfl ?_
  refine e_aload k8_0 (q := 1) rfl rfl ?_
  refine g_get k8_1 (q := 4) rfl rfl rfl ?_
  refine g_get k8_4 (q := 7) rfl rfl rfl ?_
  refine e_iret k8_7 ⟨_, rfl⟩ ?_
  refine ⟨_, _, rfl, z_mid.of hX0, ?_⟩
  rw [show σ 3 1 = σ 18 18 from hcnt]
  refine z_M.of ⟨Nat.le_of_ble_eq_true rfl, by simp [Value.category]⟩ (L := [some (.ref 18)]) rfl ?_
  refine e_aload k88_0 (q := 1) rfl rfl ?_
  refine g_get k88_1 (q := 4) rfl rfl rfl ?_
  refine e_iret k88_4 ⟨_, rfl⟩ ?_
  exact z_ok.same hI
theorem s_empties {d : Nat} {X : zE} {h : zH} {σ : Nat → Nat → Int32} {ρ : Nat → Nat → Option Nat} (hI : z_I X h σ ρ) : z_M (d + 1) 9 [.ref 1] (z_G h σ ρ) (z_qi fun r h' => z_mid X h' ∧ z_M (d + 1) 89 [.ref 18] h' (z_ok X h r)) := by
  have hcnt : σ 3 2 = σ 18 19 := by
    obtain ⟨nD, dm, ns, hC, -⟩ := hI
    exact hC.2.2.2.2
  have hX0 : h.1 0 = some X := by
    obtain ⟨nD, dm, ns, hC, hD, hS, hT, hF⟩ := hI
    exact hF.2.1
  refine z_M.of ⟨Nat.le_of_ble_eq_true rfl, by simp [Value.category]⟩ (L := [some (.ref 1)]) rfl ?_
  refine e_aload k9_0 (q := 1) rfl rfl ?_
  refine g_get k9_1 (q := 4) rfl rfl rfl ?_
  refine g_get k9_4 (q := 7) rfl rfl rfl ?_
  refine e_iret k9_7 ⟨_, rfl⟩ ?_
  refine ⟨_, _, rfl, z_mid.of hX0, ?_⟩
  rw [show σ 3 2 = σ 18 19 from hcnt]
  refine z_M.of ⟨Nat.le_of_ble_eq_true rfl, by simp [Value.category]⟩ (L := [some (.ref 18)]) rfl ?_
  refine e_aload k89_0 (q := 1) rfl rfl ?_
  refine g_get k89_1 (q := 4) rfl rfl rfl ?_
  refine e_iret k89_4 ⟨_, rfl⟩ ?_
  exact z_ok.same hI
