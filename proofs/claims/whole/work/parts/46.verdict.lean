/-! Verdicts. -/
def z_rv (σ σ0 : Nat → Nat → Int32) : Prop := (∀ k, k = 1 ∨ k = 6 ∨ k = 7 ∨ k = 11 ∨ k = 12 ∨ (18 < k ∧ k < 36) ∨ (38 < k ∧ k < 45) → σ k = σ0 k) ∧ ∀ j, j = 0 ∨ j = 24 ∨ j = 26 ∨ j = 28 → σ 18 j = σ0 18 j
theorem z_rv.tr {a b c : Nat → Nat → Int32} (h1 : z_rv a b) (h2 : z_rv b c) : z_rv a c := ⟨fun k hk => (h1.1 k hk).trans (h2.1 k hk), fun j hj => (h1.2 j hj).trans (h2.2 j hj)⟩
theorem z_sc.rv {a b : Nat → Nat → Int32} (h : z_sc a b) : z_rv a b := ⟨fun k hk => h.1 k (by omega), fun j hj => h.2 j (by omega) (by omega) (by omega) (by omega)⟩
theorem z_cq.rv {a b : Nat → Nat → Int32} {ip : Int32} {q e : Nat} (h : z_cq a b ip q e) : z_rv a b := ⟨fun k hk => h.1 k (by omega), fun j _ => by rw [h.1 18 (by decide)]⟩
theorem z_mst.rv {a b : Nat → Nat → Int32} {q e : Nat} {w : Bool} (h : z_mst a b q e w) : z_rv a b := ⟨fun k hk => h.1 k (by omega) (by omega) (by omega) (by omega), fun j hj => h.2.1 j (by omega) (by omega) (by omega)⟩
theorem z_rv.tk {σ' σ : Nat → Nat → Int32} {n k : Nat} (s : z_rv σ' σ) (h : z_TK σ n k) : z_TK σ' n k := by
  obtain ⟨c1, c2, c4, c5, c6, c7, c8⟩ := h
  refine ⟨?_, ?_, ?_, ?_, ?_, ?_, ?_⟩
  · unfold z_tm; rw [s.1 6 (by omega), s.1 7 (by omega)]; exact c1
  · unfold z_tn; rw [s.1 11 (by omega), s.1 12 (by omega)]; exact c2
  · unfold z_xm; rw [s.2 24 (by omega)]; exact c4
  · unfold z_xn; rw [s.2 26 (by omega)]; exact c5
  · rw [s.1 39 (by omega), s.1 7 (by omega)]; exact c6
  · rw [s.1 40 (by omega), s.1 12 (by omega)]; exact c7
  · rw [s.1 7 (by omega)]; exact c8
theorem z_bi_1 (b : Bool) : decide (z_bi b = 1) = b := by cases b <;> decide
def z_gr (σ : Nat → Nat → Int32) (n k t : Nat) : Bool := z_gv (σ 7) (σ 12) (σ 25) (σ 26) n k (z_na σ 41 t) (decide (σ 42 t = 1)) (decide (σ 43 t = 1)) (σ 44 t)
def z_vt (σ : Nat → Nat → Int32) (n k j : Nat) (st : Bool) (t : Nat) : Bool := z_gr σ n k t && z_ft σ (z_na σ 41 t) j st
def z_an (f : Nat → Bool) : Nat → Nat → Bool
  | 0, _ => false
  | m + 1, t => f t || z_an f m (t + 1)
def z_wi (σ : Nat → Nat → Int32) (j : Nat) : Nat := if σ 27 j = -1 then z_org σ j else j
def z_vd (σ : Nat → Nat → Int32) (ip : Int32) (n k ns i j : Nat) : Int32 := if σ 27 (z_wi σ j) = -1 then 0 else if ((decide ((z_res σ ip 11 i 0 0).1 = 2) && z_ft σ i j (decide (σ 29 (z_wi σ j) = 1))) || z_an (z_vt σ n k j (decide (σ 30 (z_wi σ j) = 1))) ns 0) = true then 1 else 2 + (if σ 27 j = -1 then σ 28 (z_wi σ j) else σ 27 (z_wi σ j))
theorem z_it_cg {σ' σ : Nat → Nat → Int32} (h1 : σ' 19 = σ 19) (h2 : σ' 20 = σ 20) : ∀ m o, z_it σ' m o = z_it σ m o
  | 0, o => rfl
  | m + 1, o => by
    have e : z_up1 σ' o = z_up1 σ o := by
      unfold z_up1 z_na
      rw [h1, h2]
    rw [z_it, z_it, e, z_it_cg h1 h2 m]
theorem z_org_cg {σ' σ : Nat → Nat → Int32} (h1 : σ' 19 = σ 19) (h2 : σ' 20 = σ 20) (i : Nat) : z_org σ' i = z_org σ i := by
  unfold z_org
  rw [h2, z_it_cg h1 h2]
theorem z_vd_cg {σ' σ : Nat → Nat → Int32} (r : z_rv σ' σ) (ip : Int32) (n k ns i j : Nat) : z_vd σ' ip n k ns i j = z_vd σ ip n k ns i j := by
  have eo : ∀ i, z_org σ' i = z_org σ i := z_org_cg (r.1 19 (by omega)) (r.1 20 (by omega))
  have ew : ∀ j, z_wi σ' j = z_wi σ j := fun j => by unfold z_wi; rw [r.1 27 (by omega), eo]
  have ef : ∀ i j st, z_ft σ' i j st = z_ft σ i j st := fun i j st => by unfold z_ft; rw [eo, eo]
  have en : ∀ t, z_na σ' 41 t = z_na σ 41 t := fun t => by unfold z_na; rw [r.1 41 (by omega)]
  have eg : ∀ t, z_gr σ' n k t = z_gr σ n k t := fun t => by
    unfold z_gr
    rw [r.1 7 (by omega), r.1 12 (by omega), r.1 25 (by omega), r.1 26 (by omega), en, r.1 42 (by omega), r.1 43 (by omega), r.1 44 (by omega)]
  have ev : ∀ j st, z_vt σ' n k j st = z_vt σ n k j st := fun j st => funext fun t => by unfold z_vt; rw [eg, en, ef]
  unfold z_vd
  rw [ew, r.1 27 (by omega), r.1 28 (by omega), r.1 29 (by omega), r.1 30 (by omega), z_res_cg (fun k a b => r.1 k (by omega)) ip 11, ef, ev]
/-- a signature's rows -/
theorem z_gr_of {σ : Nat → Nat → Int32} {n k t sg : Nat} {rf rb : Bool} (hsg : sg < 12) (h1 : σ 41 t = nI sg) (h2 : σ 42 t = z_bi rf) (h3 : σ 43 t = z_bi rb) : z_gr σ n k t = z_gv (σ 7) (σ 12) (σ 25) (σ 26) n k sg rf rb (σ 44 t) := by
  unfold z_gr
  rw [z_na_of h1 (by omega), h2, h3, z_bi_1, z_bi_1]
theorem m_verd0 {d : Nat} {h : zH} {ρ : Nat → Nat → Option Nat} {σ : Nat → Nat → Int32} {nD : Nat} {dm : Nat → Nat} (hC : z_CC σ nD) (hD : z_DD h σ ρ nD dm) (ip : Int32) {y z : Int32} (hx : z_nb nD y ∨ z_nb nD z) : z_M (d + 2) 19 [.ref 1, .int ip, .int y, .int z] (z_G h σ ρ) (z_qi fun r h' => r = -1 ∧ h' = z_G h σ ρ) := by
  refine z_M.of ⟨Nat.le_of_ble_eq_true rfl, by simp [Value.category]⟩ (L := [some (.ref 1), some (.int ip), some (.int y), some (.int z), none, none, none, none, none]) rfl ?_
  have hn := hC.1
  have main : ∀ q q' : Option Nat, (q = none ∨ q' = none) → z_E (d + 1) 19 14 [some (.ref 1), some (.int ip), some (.int y), some (.int z), some (va_rf q), some (va_rf q'), none, none, none] [] (z_G h σ ρ) (z_qi fun r h' => r = -1 ∧ h' = z_G h σ ρ) := by
    intro q q' hq
    cases q with
    | none =>
      refine e_aloadq (a := none) k19_14 (q := 16) rfl rfl ?_
      refine e_nulN k19_16 ?_
      refine e_const k19_24 (q := 25) rfl ?_
      refine e_iret k19_25 ⟨_, rfl⟩ ?_
      exact ⟨_, _, rfl, rfl, rfl⟩
    | some a =>
      obtain rfl : q' = none := by
        rcases hq with z | z
        · cases z
        · exact z
      refine e_aload (a := a) k19_14 (q := 16) rfl rfl ?_
      refine e_nulR k19_16 (q := 19) rfl ?_
      refine e_aloadq (a := none) k19_19 (q := 21) rfl rfl ?_
      refine e_nnN k19_21 (q := 24) rfl ?_
      refine e_const k19_24 (q := 25) rfl ?_
      refine e_iret k19_25 ⟨_, rfl⟩ ?_
      exact ⟨_, _, rfl, rfl, rfl⟩
  rcases z_nb_or hn y with hb | ⟨i, hi, rfl⟩
  · rcases z_nb_or hn z with hb' | ⟨j, hj, rfl⟩
    · refine e_aload k19_0 (q := 1) rfl rfl ?_
      refine e_iload k19_1 (q := 2) rfl rfl ?_
      refine g_cv k19_2 (q := 5) (as := [_]) rfl rfl rfl rfl (m_numb0 hC.2.1 hb) rfl (z_kr fun x2 h2 p2 => ?_)
      obtain ⟨rfl, rfl⟩ := p2
      refine e_astq (a := none) k19_5 (q := 7) (L' := [_, _, _, _, _, _, _, _, _]) rfl rfl rfl ?_
      refine e_aload k19_7 (q := 8) rfl rfl ?_
      refine e_iload k19_8 (q := 9) rfl rfl ?_
      refine g_cv k19_9 (q := 12) (as := [_]) rfl rfl rfl rfl (m_numb0 hC.2.1 hb') rfl (z_kr fun x9 h9 p9 => ?_)
      obtain ⟨rfl, rfl⟩ := p9
      refine e_astq (a := none) k19_12 (q := 14) (L' := [_, _, _, _, _, _, _, _, _]) rfl rfl rfl ?_
      exact main none none (Or.inl rfl)
    · refine e_aload k19_0 (q := 1) rfl rfl ?_
      refine e_iload k19_1 (q := 2) rfl rfl ?_
      refine g_cv k19_2 (q := 5) (as := [_]) rfl rfl rfl rfl (m_numb0 hC.2.1 hb) rfl (z_kr fun x2 h2 p2 => ?_)
      obtain ⟨rfl, rfl⟩ := p2
      refine e_astq (a := none) k19_5 (q := 7) (L' := [_, _, _, _, _, _, _, _, _]) rfl rfl rfl ?_
      refine e_aload k19_7 (q := 8) rfl rfl ?_
      refine e_iload k19_8 (q := 9) rfl rfl ?_
      refine g_cv k19_9 (q := 12) (as := [_]) rfl rfl rfl rfl (m_numb1 hC hD hj) rfl (z_kr fun x9 h9 p9 => ?_)
      obtain ⟨rfl, rfl⟩ := p9
      refine e_astq (a := (some (dm j))) k19_12 (q := 14) (L' := [_, _, _, _, _, _, _, _, _]) rfl rfl rfl ?_
      exact main none (some (dm j)) (Or.inl rfl)
  · rcases z_nb_or hn z with hb' | ⟨j, hj, rfl⟩
    · refine e_aload k19_0 (q := 1) rfl rfl ?_
      refine e_iload k19_1 (q := 2) rfl rfl ?_
      refine g_cv k19_2 (q := 5) (as := [_]) rfl rfl rfl rfl (m_numb1 hC hD hi) rfl (z_kr fun x2 h2 p2 => ?_)
      obtain ⟨rfl, rfl⟩ := p2
      refine e_astq (a := (some (dm i))) k19_5 (q := 7) (L' := [_, _, _, _, _, _, _, _, _]) rfl rfl rfl ?_
      refine e_aload k19_7 (q := 8) rfl rfl ?_
      refine e_iload k19_8 (q := 9) rfl rfl ?_
      refine g_cv k19_9 (q := 12) (as := [_]) rfl rfl rfl rfl (m_numb0 hC.2.1 hb') rfl (z_kr fun x9 h9 p9 => ?_)
      obtain ⟨rfl, rfl⟩ := p9
      refine e_astq (a := none) k19_12 (q := 14) (L' := [_, _, _, _, _, _, _, _, _]) rfl rfl rfl ?_
      exact main (some (dm i)) none (Or.inr rfl)
    · exact (hx.elim (z_nb_no hn hi) (z_nb_no hn hj)).elim
theorem l_verd {d : Nat} {h : zH} {ρ : Nat → Nat → Option Nat} {σ0 : Nat → Nat → Int32} {nD n k ns i j wa ow bl : Nat} {dm : Nat → Nat} {s g : Bool} {fin : Int32} {x1 x2 x3 x6 : Option Value} (hn : nD ≤ 12) (hD : z_DD h σ0 ρ nD dm) (hS : z_SS h σ0 ρ nD dm ns) (hT : z_TK σ0 n k) (hj : j < nD) (w52 : 52 ≤ wa) (hw : h.1 wa = some (.inr (9, [.int (nI ow), .int (nI bl), .int (z_bi s), .int (z_bi g)])))
    (kfin : ∀ σ, z_E (d + 6) 19 151 [some (.ref 1), x1, x2, x3, some (.ref (dm i)), some (.ref (dm j)), x6, some (.ref wa), some (.int (nI ns))] [] (z_G h σ ρ) (z_qi fun r h' => r = fin ∧ h' = z_G h σ ρ)) : ∀ (m t : Nat) (σ : Nat → Nat → Int32) (out : List Int32), t + m = ns → z_rv σ σ0 → z_cs σ out →
    z_E (d + 6) 19 97 [some (.ref 1), x1, x2, x3, some (.ref (dm i)), some (.ref (dm j)), x6, some (.ref wa), some (.int (nI t))] [] (z_G h σ ρ) (z_qi fun r h' => r = (if z_an (z_vt σ0 n k j g) m t = true then 1 else fin) ∧ ∃ σ', h' = z_G h σ' ρ ∧ z_rv σ' σ0 ∧ (∃ o, z_cs σ' o) ∧ σ' 3 = σ 3)
  | 0, t, σ, out, ht, hr, hc => by
    obtain rfl : t = ns := by omega
    have hns := hS.1
    have h7 : σ 1 7 = nI t := by rw [hr.1 1 (by omega)]; exact hS.2.1
    refine e_iload k19_97 (q := 99) rfl rfl ?_
    refine e_aload k19_99 (q := 100) rfl rfl ?_
    refine g_get k19_100 (q := 103) rfl rfl rfl ?_
    refine e_ic k19_103 (q := 106) rfl (fun c103 => ?_) (fun c103 => absurd (by show σ 1 7 ≤ nI t; rw [h7]; exact nI_le (Nat.le_refl _) (by omega)) c103)
    refine (kfin σ).mono ?_
    rintro r ⟨x, h', rfl, rfl, rfl⟩
    exact ⟨_, _, rfl, rfl, σ, rfl, hr, ⟨out, hc⟩, rfl⟩
  | m + 1, t, σ, out, ht, hr, hc => by
    have hns := hS.1
    have h7 : σ 1 7 = nI ns := by rw [hr.1 1 (by omega)]; exact hS.2.1
    have hin : vp_in (nI t) 3 := vp_in_nI (by omega) (by decide)
    obtain ⟨a, sg, rf, rb, a1, a2, a3, a4, a5, a6, a7⟩ := hS.2.2.2 t (by omega)
    obtain ⟨g52, pog, sfg, nag, neg, nmg, log, kog, wog, fg, gg, ttg, g1, g2, -⟩ := (hD.1 sg a4).2
    have hsn : z_na σ0 41 t = sg := z_na_of a5 (by omega)
    have hgr := z_gr_of (σ := σ0) (n := n) (k := k) (show sg < 12 by omega) a5 a6 a7
    have hD1 : z_DD h σ ρ nD dm := hD.fr z_kp.rf (fun _ _ _ _ => rfl) rfl (fun k x y => hr.1 k (by omega))
    refine e_iload k19_97 (q := 99) rfl rfl ?_
    refine e_aload k19_99 (q := 100) rfl rfl ?_
    refine g_get k19_100 (q := 103) rfl rfl rfl ?_
    refine e_ic k19_103 (q := 106) rfl (fun c103 => absurd c103 (by show ¬ σ 1 7 ≤ nI t; rw [h7]; exact nI_ge (by omega) (by omega))) (fun c103 => ?_)
    refine e_aload k19_106 (q := 107) rfl rfl ?_
    refine g_get k19_107 (q := 110) rfl rfl rfl ?_
    refine e_iload k19_110 (q := 112) rfl rfl ?_
    refine g_rld k19_112 (q := 113) rfl rfl (by assumption) ?_
    rw [nI_clamp (by omega), a1]
    show z_E _ _ _ _ (.ref a :: _) _ _
    refine d_get k19_113 (q := 116) rfl a2 a3 rfl ?_
    refine e_aload k19_116 (q := 118) rfl rfl ?_
    refine e_aload k19_118 (q := 120) rfl rfl ?_
    refine d_get k19_120 (q := 123) rfl w52 hw rfl ?_
    refine d_cv k19_123 (q := 126) (as := [_, _]) rfl rfl g52 g1.1 rfl (m_fits hn hD a4 hj g) rfl (z_ki fun x123 h123 p123 => ?_)
    obtain ⟨rfl, rfl⟩ := p123
    refine e_if k19_126 (q := 129) rfl (fun c126 => ?_) (fun c126 => ?_)
    · refine e_iinc k19_145 (q := 148) (L' := [_, _, _, _, _, _, _, _, some (.int (nI (t + 1)))]) rfl rfl (by rw [nI_1]; rfl) ?_
      refine e_goto k19_148 ?_
      have hv : z_vt σ0 n k j g t = false := by rw [z_vt, hsn, z_bi_0.mp c126, Bool.and_false]
      rw [z_an, hv, Bool.false_or]
      exact l_verd hn hD hS hT hj w52 hw kfin m (t + 1) σ out (by omega) hr hc
    · refine e_aload k19_129 (q := 130) rfl rfl ?_
      refine e_aload k19_130 (q := 131) rfl rfl ?_
      refine g_get k19_131 (q := 134) rfl rfl rfl ?_
      refine e_iload k19_134 (q := 136) rfl rfl ?_
      refine g_rld k19_136 (q := 137) rfl rfl (by assumption) ?_
      rw [nI_clamp (by omega), a1]
      show z_E _ _ _ _ (.ref a :: _) _ _
      refine g_cv k19_137 (q := 140) (as := [_]) rfl rfl rfl rfl (m_isGood hn hD1 (hr.tk hT) hc a2 a3 a4) rfl (z_ki fun x137 h137 p137 => ?_)
      obtain ⟨σ1, rfl, e1, w1, rfl⟩ := p137
      rw [hr.1 7 (by omega), hr.1 12 (by omega), hr.1 25 (by omega), hr.1 26 (by omega)]
      refine e_if k19_140 (q := 143) rfl (fun c140 => ?_) (fun c140 => ?_)
      · refine e_iinc k19_145 (q := 148) (L' := [_, _, _, _, _, _, _, _, some (.int (nI (t + 1)))]) rfl rfl (by rw [nI_1]; rfl) ?_
        refine e_goto k19_148 ?_
        have hv : z_vt σ0 n k j g t = false := by rw [z_vt, hgr, z_bi_0.mp c140, Bool.false_and]
        rw [z_an, hv, Bool.false_or]
        obtain ⟨o1, w1⟩ := w1
        refine (l_verd hn hD hS hT hj w52 hw kfin m (t + 1) σ1 o1 (by omega) (e1.sc.rv.tr hr) w1).mono ?_
        rintro r ⟨x, h', rfl, rfl, σ2, rfl, b1, b2, b3⟩
        exact ⟨_, _, rfl, rfl, σ2, rfl, b1, b2, b3.trans (e1.sc.1 3 (by omega))⟩
      · refine e_const k19_143 (q := 144) rfl ?_
        refine e_iret k19_144 ⟨_, rfl⟩ ?_
        have hv : z_vt σ0 n k j g t = true := by
          rw [z_vt, hgr, hsn, show z_gv (σ0 7) (σ0 12) (σ0 25) (σ0 26) n k sg rf rb (σ0 44 t) = true from Classical.byContradiction (fun z => c140 (z_bi_0.mpr (Bool.not_eq_true _ ▸ z))), show z_ft σ0 sg j g = true from Classical.byContradiction (fun z => c126 (z_bi_0.mpr (Bool.not_eq_true _ ▸ z)))]
          rfl
        exact ⟨_, _, rfl, by rw [z_an, hv, Bool.true_or, if_pos rfl], σ1, rfl, e1.sc.rv.tr hr, w1, e1.sc.1 3 (by omega)⟩
theorem l_verd2 {d : Nat} {h : zH} {ρ : Nat → Nat → Option Nat} {σ σ0 : Nat → Nat → Int32} {nD n k ns i j wa ow bl w1 : Nat} {dm : Nat → Nat} {s g : Bool} {fin : Int32} {out : List Int32} {x1 x2 x3 : Option Value} (hn : nD ≤ 12) (hD : z_DD h σ0 ρ nD dm) (hS : z_SS h σ0 ρ nD dm ns) (hT : z_TK σ0 n k) (hi : i < nD) (hj : j < nD) (w52 : 52 ≤ wa) (hw : h.1 wa = some (.inr (9, [.int (nI ow), .int (nI bl), .int (z_bi s), .int (z_bi g)]))) (hw1 : w1 < 2 ^ 31) (hr : z_rv σ σ0) (hc : z_cs σ out)
    (kfin : ∀ σ, z_E (d + 6) 19 151 [some (.ref 1), x1, x2, x3, some (.ref (dm i)), some (.ref (dm j)), some (.int (nI w1)), some (.ref wa), some (.int (nI ns))] [] (z_G h σ ρ) (z_qi fun r h' => r = fin ∧ h' = z_G h σ ρ)) :
    z_E (d + 6) 19 71 [some (.ref 1), x1, x2, x3, some (.ref (dm i)), some (.ref (dm j)), some (.int (nI w1)), some (.ref wa), none] [] (z_G h σ ρ) (z_qi fun r h' => r = (if ((decide (w1 = 2) && z_ft σ0 i j s) || z_an (z_vt σ0 n k j g) ns 0) = true then 1 else fin) ∧ ∃ σ', h' = z_G h σ' ρ ∧ z_rv σ' σ0 ∧ (∃ o, z_cs σ' o) ∧ σ' 3 = σ 3) := by
  obtain ⟨i52, poi, sfi, nai, nei, nmi, loi, koi, woi, fi, gi, tti, i1, i2, -⟩ := (hD.1 i hi).2
  refine e_iload k19_71 (q := 73) rfl rfl ?_
  refine e_const k19_73 (q := 74) rfl ?_
  refine e_ic k19_74 (q := 77) rfl (fun c74 => ?_) (fun c74 => ?_)
  · refine e_const k19_94 (q := 95) rfl ?_
    refine e_ist k19_95 (q := 97) (L' := [_, _, _, _, _, _, _, _, _]) rfl rfl rfl ?_
    rw [decide_eq_false (show ¬ w1 = 2 from fun z => c74 (by rw [z]; rfl)), Bool.false_and, Bool.false_or]
    exact l_verd hn hD hS hT hj w52 hw kfin ns 0 σ out (by omega) hr hc
  · refine e_aload k19_77 (q := 79) rfl rfl ?_
    refine e_aload k19_79 (q := 81) rfl rfl ?_
    refine e_aload k19_81 (q := 83) rfl rfl ?_
    refine d_get k19_83 (q := 86) rfl w52 hw rfl ?_
    refine d_cv k19_86 (q := 89) (as := [_, _]) rfl rfl i52 i1.1 rfl (m_fits hn hD hi hj s) rfl (z_ki fun x86 h86 p86 => ?_)
    obtain ⟨rfl, rfl⟩ := p86
    refine e_if k19_89 (q := 92) rfl (fun c89 => ?_) (fun c89 => ?_)
    · refine e_const k19_94 (q := 95) rfl ?_
      refine e_ist k19_95 (q := 97) (L' := [_, _, _, _, _, _, _, _, _]) rfl rfl rfl ?_
      rw [z_bi_0.mp c89, Bool.and_false, Bool.false_or]
      exact l_verd hn hD hS hT hj w52 hw kfin ns 0 σ out (by omega) hr hc
    · refine e_const k19_92 (q := 93) rfl ?_
      refine e_iret k19_93 ⟨_, rfl⟩ ?_
      have hf : z_ft σ0 i j s = true := Classical.byContradiction (fun z => c89 (z_bi_0.mpr (Bool.not_eq_true _ ▸ z)))
      exact ⟨_, _, rfl, by rw [decide_eq_true (show w1 = 2 from (nI_eq (b := 2) hw1 (by decide)).mp (Classical.not_not.mp c74)), hf]; rfl, σ, rfl, hr, ⟨out, hc⟩, rfl⟩
theorem m_verd1 {d : Nat} {h : zH} {ρ : Nat → Nat → Option Nat} {σ : Nat → Nat → Int32} {nD n k ns i j : Nat} {dm : Nat → Nat} {out : List Int32} (hC : z_CC σ nD) (hD : z_DD h σ ρ nD dm) (hS : z_SS h σ ρ nD dm ns) (hT : z_TK σ n k) (hc : z_cs σ out) (ip : Int32) (hi : i < nD) (hj : j < nD) : z_M (d + 37) 19 [.ref 1, .int ip, .int (nI i), .int (nI j)] (z_G h σ ρ) (z_qi fun r h' => r = z_vd σ ip n k ns i j ∧ ∃ σ', h' = z_G h σ' ρ ∧ z_rv σ' σ ∧ (∃ o, z_cs σ' o) ∧ σ' 3 1 = nI (z_res σ ip 11 i 0 0).2.1 ∧ σ' 3 2 = nI (z_res σ ip 11 i 0 0).2.2) := by
  refine z_M.of ⟨Nat.le_of_ble_eq_true rfl, by simp [Value.category]⟩ (L := [some (.ref 1), some (.int ip), some (.int (nI i)), some (.int (nI j)), none, none, none, none, none]) rfl ?_
  have hn := hC.1
  have hlt := z_res_lt σ ip 11 i 0 0
  obtain ⟨j52, poj, sfj, naj, nej, nmj, loj, koj, woj, fj, gj, ttj, j1, j2, j3, j4, j5, j6, j7, j8, jW⟩ := (hD.1 j hj).2
  rcases jW with ⟨rfl, e27⟩ | ⟨wa, ow, bl, s, g, rfl, w52, hw, ow2, bl2, e27, e28, e29, e30⟩
  · have hwi : z_wi σ j = z_org σ j := by rw [z_wi, if_pos e27]
    have holt := z_org_lt hn hD.par hj
    obtain ⟨o52, poo, sfo, nao, neo, nmo, loo, koo, woo, fo, go, tto, o1, o2, o3, o4, o5, o6, o7, o8, oW⟩ := (hD.1 (z_org σ j) holt).2
    rcases oW with ⟨rfl, f27⟩ | ⟨wa, ow, bl, s, g, rfl, w52, hw, ow2, bl2, f27, f28, f29, f30⟩
    · refine e_aload k19_0 (q := 1) rfl rfl ?_
      refine e_iload k19_1 (q := 2) rfl rfl ?_
      refine g_cv k19_2 (q := 5) (as := [_]) rfl rfl rfl rfl (m_numb1 hC hD hi) rfl (z_kr fun x2 h2 p2 => ?_)
      obtain ⟨rfl, rfl⟩ := p2
      refine e_ast (a := dm i) k19_5 (q := 7) (L' := [_, _, _, _, _, _, _, _, _]) rfl rfl rfl ?_
      refine e_aload k19_7 (q := 8) rfl rfl ?_
      refine e_iload k19_8 (q := 9) rfl rfl ?_
      refine g_cv k19_9 (q := 12) (as := [_]) rfl rfl rfl rfl (m_numb1 hC hD hj) rfl (z_kr fun x9 h9 p9 => ?_)
      obtain ⟨rfl, rfl⟩ := p9
      refine e_ast (a := dm j) k19_12 (q := 14) (L' := [_, _, _, _, _, _, _, _, _]) rfl rfl rfl ?_
      refine e_aload k19_14 (q := 16) rfl rfl ?_
      refine e_nulR k19_16 (q := 19) rfl ?_
      refine e_aload k19_19 (q := 21) rfl rfl ?_
      refine e_nnR k19_21 ?_
      refine e_aload k19_26 (q := 27) rfl rfl ?_
      refine g_get k19_27 (q := 30) rfl rfl rfl ?_
      refine e_iload k19_30 (q := 31) rfl rfl ?_
      refine e_aload k19_31 (q := 33) rfl rfl ?_
      refine g_cv k19_33 (q := 36) (as := [_, _]) rfl rfl rfl rfl (m_begin ip hn hD hi) rfl (z_ki fun x33 h33 p33 => ?_)
      obtain ⟨rfl, σ1, rfl, hQ⟩ := p33
      have hc1 : z_cs σ1 out := hc.of (hQ.1 13 (by decide)) (hQ.1 14 (by decide))
      refine e_ist k19_36 (q := 38) (L' := [_, _, _, _, _, _, _, _, _]) rfl rfl rfl ?_
      refine e_aload k19_38 (q := 40) rfl rfl ?_
      refine d_get k19_40 (q := 43) rfl j52 j1.1 rfl ?_
      refine e_nulN k19_43 ?_
      refine e_aload k19_54 (q := 56) rfl rfl ?_
      refine d_cv k19_56 (q := 59) (as := []) rfl rfl j52 j1.1 rfl (m_org hn hD hj) rfl (z_kr fun x56 h56 p56 => ?_)
      obtain ⟨rfl, rfl⟩ := p56
      show z_E _ _ _ _ (.ref (dm (z_org σ j)) :: _) _ _
      refine d_get k19_59 (q := 62) rfl o52 o1.1 rfl ?_
      refine e_astq (a := none) k19_62 (q := 64) (L' := [_, _, _, _, _, _, _, _, _]) rfl rfl rfl ?_
      refine e_aloadq (a := none) k19_64 (q := 66) rfl rfl ?_
      refine e_nnN k19_66 (q := 69) rfl ?_
      refine e_const k19_69 (q := 70) rfl ?_
      refine e_iret k19_70 ⟨_, rfl⟩ ?_
      exact ⟨_, _, rfl, by rw [z_vd, hwi, if_pos f27], σ1, rfl, hQ.rv, ⟨out, hc1⟩, hQ.2.2.1, hQ.2.2.2⟩
    · refine e_aload k19_0 (q := 1) rfl rfl ?_
      refine e_iload k19_1 (q := 2) rfl rfl ?_
      refine g_cv k19_2 (q := 5) (as := [_]) rfl rfl rfl rfl (m_numb1 hC hD hi) rfl (z_kr fun x2 h2 p2 => ?_)
      obtain ⟨rfl, rfl⟩ := p2
      refine e_ast (a := dm i) k19_5 (q := 7) (L' := [_, _, _, _, _, _, _, _, _]) rfl rfl rfl ?_
      refine e_aload k19_7 (q := 8) rfl rfl ?_
      refine e_iload k19_8 (q := 9) rfl rfl ?_
      refine g_cv k19_9 (q := 12) (as := [_]) rfl rfl rfl rfl (m_numb1 hC hD hj) rfl (z_kr fun x9 h9 p9 => ?_)
      obtain ⟨rfl, rfl⟩ := p9
      refine e_ast (a := dm j) k19_12 (q := 14) (L' := [_, _, _, _, _, _, _, _, _]) rfl rfl rfl ?_
      refine e_aload k19_14 (q := 16) rfl rfl ?_
      refine e_nulR k19_16 (q := 19) rfl ?_
      refine e_aload k19_19 (q := 21) rfl rfl ?_
      refine e_nnR k19_21 ?_
      refine e_aload k19_26 (q := 27) rfl rfl ?_
      refine g_get k19_27 (q := 30) rfl rfl rfl ?_
      refine e_iload k19_30 (q := 31) rfl rfl ?_
      refine e_aload k19_31 (q := 33) rfl rfl ?_
      refine g_cv k19_33 (q := 36) (as := [_, _]) rfl rfl rfl rfl (m_begin ip hn hD hi) rfl (z_ki fun x33 h33 p33 => ?_)
      obtain ⟨rfl, σ1, rfl, hQ⟩ := p33
      have hc1 : z_cs σ1 out := hc.of (hQ.1 13 (by decide)) (hQ.1 14 (by decide))
      refine e_ist k19_36 (q := 38) (L' := [_, _, _, _, _, _, _, _, _]) rfl rfl rfl ?_
      refine e_aload k19_38 (q := 40) rfl rfl ?_
      refine d_get k19_40 (q := 43) rfl j52 j1.1 rfl ?_
      refine e_nulN k19_43 ?_
      refine e_aload k19_54 (q := 56) rfl rfl ?_
      refine d_cv k19_56 (q := 59) (as := []) rfl rfl j52 j1.1 rfl (m_org hn hD hj) rfl (z_kr fun x56 h56 p56 => ?_)
      obtain ⟨rfl, rfl⟩ := p56
      show z_E _ _ _ _ (.ref (dm (z_org σ j)) :: _) _ _
      refine d_get k19_59 (q := 62) rfl o52 o1.1 rfl ?_
      refine e_ast (a := wa) k19_62 (q := 64) (L' := [_, _, _, _, _, _, _, _, _]) rfl rfl rfl ?_
      refine e_aload (a := wa) k19_64 (q := 66) rfl rfl ?_
      refine e_nnR k19_66 ?_
      refine (l_verd2 (d := d + 30) hn hD hS hT hi hj w52 hw hlt hQ.rv hc1 (fin := 2 + nI bl) (fun σ => ?_)).mono ?_
      · refine e_const k19_151 (q := 152) rfl ?_
        refine e_aload k19_152 (q := 154) rfl rfl ?_
        refine d_get k19_154 (q := 157) rfl j52 j1.1 rfl ?_
        refine e_nulN k19_157 ?_
        refine e_aload k19_168 (q := 170) rfl rfl ?_
        refine d_get k19_170 (q := 173) rfl w52 hw rfl ?_
        refine e_ib k19_173 (q := 174) rfl ?_
        refine e_iret k19_174 ⟨_, rfl⟩ ?_
        exact ⟨_, _, rfl, rfl, rfl⟩
      · rintro r ⟨x, h', rfl, rfl, σ2, rfl, b1, b2, b3⟩
        refine ⟨_, _, rfl, ?_, σ2, rfl, b1, b2, by rw [b3, hQ.2.2.1], by rw [b3, hQ.2.2.2]⟩
        rw [z_vd, hwi, if_neg (show ¬ σ 27 (z_org σ j) = -1 by rw [f27]; exact z_nI_m1 (by omega)), f29, f30, z_bi_1, z_bi_1, if_pos e27, f28]
  · have hne : ¬ σ 27 j = -1 := by rw [e27]; exact z_nI_m1 (by omega)
    have hwi : z_wi σ j = j := by rw [z_wi, if_neg hne]
    refine e_aload k19_0 (q := 1) rfl rfl ?_
    refine e_iload k19_1 (q := 2) rfl rfl ?_
    refine g_cv k19_2 (q := 5) (as := [_]) rfl rfl rfl rfl (m_numb1 hC hD hi) rfl (z_kr fun x2 h2 p2 => ?_)
    obtain ⟨rfl, rfl⟩ := p2
    refine e_ast (a := dm i) k19_5 (q := 7) (L' := [_, _, _, _, _, _, _, _, _]) rfl rfl rfl ?_
    refine e_aload k19_7 (q := 8) rfl rfl ?_
    refine e_iload k19_8 (q := 9) rfl rfl ?_
    refine g_cv k19_9 (q := 12) (as := [_]) rfl rfl rfl rfl (m_numb1 hC hD hj) rfl (z_kr fun x9 h9 p9 => ?_)
    obtain ⟨rfl, rfl⟩ := p9
    refine e_ast (a := dm j) k19_12 (q := 14) (L' := [_, _, _, _, _, _, _, _, _]) rfl rfl rfl ?_
    refine e_aload k19_14 (q := 16) rfl rfl ?_
    refine e_nulR k19_16 (q := 19) rfl ?_
    refine e_aload k19_19 (q := 21) rfl rfl ?_
    refine e_nnR k19_21 ?_
    refine e_aload k19_26 (q := 27) rfl rfl ?_
    refine g_get k19_27 (q := 30) rfl rfl rfl ?_
    refine e_iload k19_30 (q := 31) rfl rfl ?_
    refine e_aload k19_31 (q := 33) rfl rfl ?_
    refine g_cv k19_33 (q := 36) (as := [_, _]) rfl rfl rfl rfl (m_begin ip hn hD hi) rfl (z_ki fun x33 h33 p33 => ?_)
    obtain ⟨rfl, σ1, rfl, hQ⟩ := p33
    have hc1 : z_cs σ1 out := hc.of (hQ.1 13 (by decide)) (hQ.1 14 (by decide))
    refine e_ist k19_36 (q := 38) (L' := [_, _, _, _, _, _, _, _, _]) rfl rfl rfl ?_
    refine e_aload k19_38 (q := 40) rfl rfl ?_
    refine d_get k19_40 (q := 43) rfl j52 j1.1 rfl ?_
    refine e_nulR k19_43 (q := 46) rfl ?_
    refine e_aload k19_46 (q := 48) rfl rfl ?_
    refine d_get k19_48 (q := 51) rfl j52 j1.1 rfl ?_
    refine e_goto k19_51 ?_
    refine e_ast (a := wa) k19_62 (q := 64) (L' := [_, _, _, _, _, _, _, _, _]) rfl rfl rfl ?_
    refine e_aload (a := wa) k19_64 (q := 66) rfl rfl ?_
    refine e_nnR k19_66 ?_
    refine (l_verd2 (d := d + 30) hn hD hS hT hi hj w52 hw hlt hQ.rv hc1 (fin := 2 + nI ow) (fun σ => ?_)).mono ?_
    · refine e_const k19_151 (q := 152) rfl ?_
      refine e_aload k19_152 (q := 154) rfl rfl ?_
      refine d_get k19_154 (q := 157) rfl j52 j1.1 rfl ?_
      refine e_nulR k19_157 (q := 160) rfl ?_
      refine e_aload k19_160 (q := 162) rfl rfl ?_
      refine d_get k19_162 (q := 165) rfl w52 hw rfl ?_
      refine e_goto k19_165 ?_
      refine e_ib k19_173 (q := 174) rfl ?_
      refine e_iret k19_174 ⟨_, rfl⟩ ?_
      exact ⟨_, _, rfl, rfl, rfl⟩
    · rintro r ⟨x, h', rfl, rfl, σ2, rfl, b1, b2, b3⟩
      refine ⟨_, _, rfl, ?_, σ2, rfl, b1, b2, by rw [b3, hQ.2.2.1], by rw [b3, hQ.2.2.2]⟩
      rw [z_vd, hwi, if_neg hne, e29, e30, z_bi_1, z_bi_1, if_neg hne, e27]
