/-! The class takes the named fields. -/
/-- m signs of the message from s on are those of the names from a on, letters alike -/
def z_mt (t u : Nat → Int32) (s a : Nat) : Nat → Bool
  | 0 => true
  | m + 1 => decide (z_lw (t s) = z_lw (u a)) && z_mt t u (s + 1) (a + 1) m
theorem z_bi_t : z_bi true = 1 := rfl
theorem z_bi_f : z_bi false = 0 := rfl
theorem l_named {d : Nat} {h : zH} {ρ : Nat → Nat → Option Nat} {σ : Nat → Nat → Int32} {P : Int32 → zH → Prop} {n k a b s : Nat} {x1 : Option Value} (hT : z_tm σ n) (hN : z_tn σ k) (hab : a ≤ b) (hb : b ≤ k) (hs : s + (b - a) ≤ n) : ∀ (m j : Nat) (x6 : Option Value), j + m = b - a →
    P (z_bi (z_mt (σ 7) (σ 12) (s + j) (a + j) m)) (z_G h σ ρ) →
    z_E (d + 1) 50 34 [some (.ref 4), x1, some (.int (nI a)), some (.int (nI b)), some (.int (nI s)), some (.int (nI j)), x6] [] (z_G h σ ρ) (z_qi P)
  | 0, j, x6, hj, kk => by
    have hn := hT.2.1
    have hk := hN.2.1
    have hsub : nI b - nI a = nI (b - a) := by rw [show b = (b - a) + a by omega, ← nI_add, Nat.add_sub_cancel, Int32.add_sub_cancel]
    refine e_iload k50_34 (q := 36) rfl rfl ?_
    refine e_iload k50_36 (q := 37) rfl rfl ?_
    refine e_iload k50_37 (q := 38) rfl rfl ?_
    refine e_ib k50_38 (q := 39) rfl ?_
    refine e_ic k50_39 (q := 42) rfl (fun c39 => ?_) (fun c39 => absurd (by show nI b - nI a ≤ nI j; rw [hsub]; exact nI_le (by omega) (by omega)) c39)
    refine e_const k50_89 (q := 90) rfl ?_
    refine e_iret k50_90 (by first | exact Or.inl rfl | exact Or.inr rfl | assumption) ?_
    exact ⟨_, _, rfl, kk⟩
  | m + 1, j, x6, hj, kk => by
    have hn := hT.2.1
    have hk := hN.2.1
    have hsub : nI b - nI a = nI (b - a) := by rw [show b = (b - a) + a by omega, ← nI_add, Nat.add_sub_cancel, Int32.add_sub_cancel]
    refine e_iload k50_34 (q := 36) rfl rfl ?_
    refine e_iload k50_36 (q := 37) rfl rfl ?_
    refine e_iload k50_37 (q := 38) rfl rfl ?_
    refine e_ib k50_38 (q := 39) rfl ?_
    refine e_ic k50_39 (q := 42) rfl (fun c39 => absurd c39 (by show ¬ nI b - nI a ≤ nI j; rw [hsub]; exact nI_ge (by omega) (by omega))) (fun c39 => ?_)
    refine e_aload k50_42 (q := 43) rfl rfl ?_
    refine g_get k50_43 (q := 46) rfl rfl rfl ?_
    refine g_get k50_46 (q := 49) rfl rfl rfl ?_
    refine e_iload k50_49 (q := 51) rfl rfl ?_
    refine e_iload k50_51 (q := 53) rfl rfl ?_
    refine e_ib k50_53 (q := 54) rfl ?_
    rw [show nI s + nI j = nI (s + j) from nI_add _ _]
    refine g_cv k50_54 (q := 57) (as := [_]) rfl rfl rfl rfl (m_codeT hT (show s + j < n by omega)) rfl (z_ki fun x54 h54 p54 => ?_)
    obtain ⟨rfl, rfl⟩ := p54
    refine e_cs k50_57 (q := 60) (as := [_]) rfl rfl (Nat.le_of_ble_eq_true rfl) (m_lowered _) rfl (z_ki fun x57 h57 p57 => ?_)
    obtain ⟨rfl, rfl⟩ := p57
    refine e_ist k50_60 (q := 62) (L' := [_, _, _, _, _, _, _]) rfl rfl rfl ?_
    refine e_iload k50_62 (q := 64) rfl rfl ?_
    refine e_aload k50_64 (q := 65) rfl rfl ?_
    refine g_get k50_65 (q := 68) rfl rfl rfl ?_
    refine e_iload k50_68 (q := 69) rfl rfl ?_
    refine e_iload k50_69 (q := 71) rfl rfl ?_
    refine e_ib k50_71 (q := 72) rfl ?_
    rw [show nI a + nI j = nI (a + j) from nI_add _ _]
    refine g_cv k50_72 (q := 75) (as := [_]) rfl rfl rfl rfl (m_codeN hN (show a + j < k by omega)) rfl (z_ki fun x72 h72 p72 => ?_)
    obtain ⟨rfl, rfl⟩ := p72
    refine e_cs k50_75 (q := 78) (as := [_]) rfl rfl (Nat.le_of_ble_eq_true rfl) (m_lowered _) rfl (z_ki fun x75 h75 p75 => ?_)
    obtain ⟨rfl, rfl⟩ := p75
    refine e_ic k50_78 (q := 81) rfl (fun c78 => ?_) (fun c78 => ?_)
    · refine e_iinc k50_83 (q := 86) (L' := [_, _, _, _, _, some (.int (nI (j + 1))), _]) rfl rfl (by rw [nI_1]; rfl) ?_
      refine e_goto k50_86 ?_
      refine l_named hT hN hab hb hs m (j + 1) _ (by omega) ?_
      rw [z_mt, decide_eq_true c78, Bool.true_and] at kk
      exact kk
    · refine e_const k50_81 (q := 82) rfl ?_
      refine e_iret k50_82 (by first | exact Or.inl rfl | exact Or.inr rfl | assumption) ?_
      rw [z_mt, decide_eq_false c78, Bool.false_and] at kk
      exact ⟨_, _, rfl, kk⟩
theorem m_isNamed {d : Nat} {h : zH} {ρ : Nat → Nat → Option Nat} {σ : Nat → Nat → Int32} {n k a b s c f : Nat} (hT : z_tm σ n) (hN : z_tn σ k) (hab : a ≤ b) (hb : b ≤ k) (hf : f < 12) (h8 : σ 8 f = nI s) (h9 : σ 9 f = nI c) (hsc : s ≤ c) (hc : c ≤ n) : z_M (d + 2) 50 [.ref 4, .int (nI f), .int (nI a), .int (nI b)] (z_G h σ ρ) (z_qi fun x h' => x = z_bi (decide (c - s = b - a) && z_mt (σ 7) (σ 12) s a (b - a)) ∧ h' = z_G h σ ρ) := by
  refine z_M.of ⟨Nat.le_of_ble_eq_true rfl, by simp [Value.category]⟩ (L := [some (.ref 4), some (.int (nI f)), some (.int (nI a)), some (.int (nI b)), none, none, none]) rfl ?_
  have hn := hT.2.1
  have hk := hN.2.1
  have hin : vp_in (nI f) 12 := vp_in_nI hf (by decide)
  have hcf : (nI f).toNatClampNeg = f := nI_clamp (by omega)
  have hsub : nI b - nI a = nI (b - a) := by rw [show b = (b - a) + a by omega, ← nI_add, Nat.add_sub_cancel, Int32.add_sub_cancel]
  have hsub2 : nI c - nI s = nI (c - s) := by rw [show c = (c - s) + s by omega, ← nI_add, Nat.add_sub_cancel, Int32.add_sub_cancel]
  refine e_aload k50_0 (q := 1) rfl rfl ?_
  refine g_get k50_1 (q := 4) rfl rfl rfl ?_
  refine g_get k50_4 (q := 7) rfl rfl rfl ?_
  refine e_iload k50_7 (q := 8) rfl rfl ?_
  refine g_ald k50_8 (q := 9) rfl rfl (by assumption) ?_
  rw [hcf, h8]
  refine e_ist k50_9 (q := 11) (L' := [_, _, _, _, _, _, _]) rfl rfl rfl ?_
  refine e_aload k50_11 (q := 12) rfl rfl ?_
  refine g_get k50_12 (q := 15) rfl rfl rfl ?_
  refine g_get k50_15 (q := 18) rfl rfl rfl ?_
  refine e_iload k50_18 (q := 19) rfl rfl ?_
  refine g_ald k50_19 (q := 20) rfl rfl (by assumption) ?_
  rw [hcf, h9]
  refine e_iload k50_20 (q := 22) rfl rfl ?_
  refine e_ib k50_22 (q := 23) rfl ?_
  refine e_iload k50_23 (q := 24) rfl rfl ?_
  refine e_iload k50_24 (q := 25) rfl rfl ?_
  refine e_ib k50_25 (q := 26) rfl ?_
  rw [hsub, hsub2]
  refine e_ic k50_26 (q := 29) rfl (fun c26 => ?_) (fun c26 => ?_)
  · have hcs : c - s = b - a := (nI_eq (by omega) (by omega)).mp c26
    refine e_const k50_31 (q := 32) rfl ?_
    refine e_ist k50_32 (q := 34) (L' := [_, _, _, _, _, _, _]) rfl rfl rfl ?_
    refine l_named hT hN hab hb (by omega) (b - a) 0 _ (by omega) ?_
    rw [decide_eq_true hcs, Bool.true_and]
    exact ⟨rfl, rfl⟩
  · have hcs : ¬ c - s = b - a := fun z => c26 (by rw [z])
    refine e_const k50_29 (q := 30) rfl ?_
    refine e_iret k50_30 (by first | exact Or.inl rfl | exact Or.inr rfl | assumption) ?_
    exact ⟨_, _, rfl, by rw [decide_eq_false hcs, Bool.false_and]; rfl, rfl⟩
/-- the first of the fields (newest first) that isn't taken and has the name a..b -/
def z_tk (t u : Nat → Int32) (a b : Nat) (T : Nat → Bool) : List (Nat × Nat × Nat) → Option Nat
  | [] => none
  | x :: r => if T r.length = false ∧ (decide (x.2.1 - x.1 = b - a) && z_mt t u x.1 a (b - a)) = true then some r.length else z_tk t u a b T r
/-- of the places below c that are taken, the weights -/
def z_sm (w : Nat → Nat) (T : Nat → Bool) : Nat → Nat
  | 0 => 0
  | c + 1 => z_sm w T c + (if T c = true then w c else 0)
theorem z_sm_up (w : Nat → Nat) (T : Nat → Bool) {i : Nat} (hT : T i = false) : ∀ c, z_sm w (z_us T i true) c = z_sm w T c + (if i < c then w i else 0)
  | 0 => by rw [if_neg (Nat.not_lt_zero _)]; rfl
  | c + 1 => by
    unfold z_sm
    rw [z_sm_up w T hT c]
    by_cases e : c = i
    · subst e
      rw [z_us_eq, hT, if_neg (Nat.lt_irrefl _), if_pos rfl, if_neg (by decide), if_pos (Nat.lt_succ_self _)]
    · rw [z_us_ne _ _ e]
      by_cases l : i < c
      · rw [if_pos l, if_pos (Nat.lt_succ_of_lt l)]; omega
      · rw [if_neg l, if_neg (show ¬ i < c + 1 by omega)]; omega
theorem z_sm_le (w : Nat → Nat) (T : Nat → Bool) : ∀ c, z_sm w T c ≤ z_sm w (fun _ => true) c
  | 0 => Nat.le_refl _
  | c + 1 => by
    unfold z_sm
    have := z_sm_le w T c
    rw [if_pos (c := (true = true)) rfl]
    split <;> omega
theorem z_sm_one : ∀ c, z_sm (fun _ => 1) (fun _ => true) c = c
  | 0 => rfl
  | c + 1 => by
    unfold z_sm
    rw [z_sm_one c]
    rfl
/-- what is taken, and in which order: the form's rows -/
def z_td (σ : Nat → Nat → Int32) (c : Nat) (T : Nat → Bool) (O : List Nat) : Prop := (∀ f, f < c → σ 15 f = z_bi (T f)) ∧ σ 4 5 = nI O.length ∧ (∀ j, j < O.length → σ 16 j = nI (O.getD j 0)) ∧ O.length = z_sm (fun _ => 1) T c
def z_et (σ' σ : Nat → Nat → Int32) : Prop := ∀ k, k ≠ 4 → k ≠ 15 → k ≠ 16 → σ' k = σ k
theorem z_et.rf {σ : Nat → Nat → Int32} : z_et σ σ := fun _ _ _ _ => rfl
theorem z_et.tr {a b c : Nat → Nat → Int32} (h1 : z_et a b) (h2 : z_et b c) : z_et a c := fun k x y z => (h1 k x y z).trans (h2 k x y z)
theorem z_tm.et {σ' σ : Nat → Nat → Int32} {n : Nat} (h : z_tm σ n) (e : z_et σ' σ) : z_tm σ' n := by
  unfold z_tm
  rw [e 6 (by decide) (by decide) (by decide), e 7 (by decide) (by decide) (by decide)]
  exact h
theorem z_tn.et {σ' σ : Nat → Nat → Int32} {n : Nat} (h : z_tn σ n) (e : z_et σ' σ) : z_tn σ' n := by
  unfold z_tn
  rw [e 11 (by decide) (by decide) (by decide), e 12 (by decide) (by decide) (by decide)]
  exact h
theorem z_fl.et {σ' σ : Nat → Nat → Int32} {F : List (Nat × Nat × Nat)} (h : z_fl σ F) (e : z_et σ' σ) : z_fl σ' F := by
  refine ⟨by rw [e 5 (by decide) (by decide) (by decide)]; exact h.1, h.2.1, h.2.2.up F (fun j _ => ?_)⟩
  rw [e 8 (by decide) (by decide) (by decide), e 9 (by decide) (by decide) (by decide), e 10 (by decide) (by decide) (by decide)]
  exact ⟨rfl, rfl, rfl⟩
theorem z_td.put {σ : Nat → Nat → Int32} {c i : Nat} {T : Nat → Bool} {O : List Nat} (h : z_td σ c T O) (hc : c ≤ 12) (hi : i < c) (hT : T i = false) : O.length < 12 ∧ z_td (z_us (z_us (z_us σ 15 (upd (σ 15) i 1)) 16 (upd (σ 16) O.length (nI i))) 4 (upd (σ 4) 5 (nI (O.length + 1)))) c (z_us T i true) (O ++ [i]) := by
  obtain ⟨h1, h2, h3, h4⟩ := h
  have u1 := z_sm_up (fun _ => 1) T hT c
  rw [if_pos hi] at u1
  have u2 := z_sm_le (fun _ => 1) (z_us T i true) c
  rw [z_sm_one] at u2
  have hl : O.length < 12 := by omega
  refine ⟨hl, fun f hf => ?_, ?_, fun j hj => ?_, ?_⟩
  · rw [z_us_ne _ _ (by decide), z_us_ne _ _ (by decide), z_us_eq]
    by_cases e : f = i
    · subst e
      rw [z_us_eq]
      exact if_pos rfl
    · rw [z_us_ne _ _ e]
      exact (if_neg e).trans (h1 f hf)
  · rw [z_us_eq, List.length_append]
    exact if_pos rfl
  · rw [z_us_ne _ _ (by decide), z_us_eq]
    rw [List.length_append] at hj
    have hj : j < O.length + 1 := hj
    by_cases e : j = O.length
    · subst e
      rw [show upd (σ 16) O.length (nI i) O.length = nI i from if_pos rfl, List.getD_eq_getElem?_getD, List.getElem?_append_right (Nat.le_refl _), Nat.sub_self]
      rfl
    · rw [show upd (σ 16) O.length (nI i) j = σ 16 j from if_neg e, h3 j (by omega), List.getD_eq_getElem?_getD, List.getD_eq_getElem?_getD, List.getElem?_append_left (by omega)]
  · rw [List.length_append, u1]
    show O.length + 1 = _
    omega
/-- each field lies within the text -/
def z_fb (n : Nat) (F : List (Nat × Nat × Nat)) : Prop := ∀ x ∈ F, x.1 < x.2.1 ∧ x.2.1 < x.2.2 ∧ x.2.2 ≤ n
def z_tp (t u : Nat → Int32) (F : List (Nat × Nat × Nat)) (a b : Nat) (p : (Nat → Bool) × List Nat) : (Nat → Bool) × List Nat := match z_tk t u a b p.1 F with
  | none => p
  | some i => (z_us p.1 i true, p.2 ++ [i])
theorem l_takeLast {d : Nat} {h : zH} {ρ : Nat → Nat → Option Nat} {σ : Nat → Nat → Int32} {P : zH → Prop} {n k a b c : Nat} {T : Nat → Bool} {O : List Nat} (hT : z_tm σ n) (hN : z_tn σ k) (hab : a ≤ b) (hb : b ≤ k) (hc : c ≤ 12) (hD : z_td σ c T O) :
    ∀ (r : List (Nat × Nat × Nat)), z_fa σ r → z_fb n r → r.length ≤ c →
    (∀ σ', z_et σ' σ → (match z_tk (σ 7) (σ 12) a b T r with
      | none => z_td σ' c T O
      | some i => z_td σ' c (z_us T i true) (O ++ [i])) → P (z_G h σ' ρ)) →
    z_E (d + 2) 49 10 [some (.ref 4), some (.int (nI a)), some (.int (nI b)), some (.int (nI r.length - 1))] [] (z_G h σ ρ) (z_qv P)
  | [], hA, hB, hl, kk => by
    refine e_iload k49_10 (q := 11) rfl rfl ?_
    refine e_if k49_11 (q := 14) rfl (fun c11 => ?_) (fun c11 => absurd (by decide) c11)
    refine e_vret k49_67 ?_
    exact ⟨_, rfl, kk σ z_et.rf hD⟩
  | x :: r, hA, hB, hl, kk => by
    rw [List.length_cons] at hl
    rw [List.length_cons, nI_pred]
    obtain ⟨f1, f2, f3, f4⟩ := hA
    obtain ⟨b1, b2, b3⟩ := hB x List.mem_cons_self
    have hB' : z_fb n r := fun y hy => hB y (List.mem_cons_of_mem _ hy)
    have hin : vp_in (nI r.length) 12 := vp_in_nI (by omega) (by decide)
    have hcl : (nI r.length).toNatClampNeg = r.length := nI_clamp (by omega)
    have ht : σ 15 r.length = z_bi (T r.length) := hD.1 _ (by omega)
    refine e_iload k49_10 (q := 11) rfl rfl ?_
    refine e_if k49_11 (q := 14) rfl (fun c11 => absurd c11 (nI_pos (by omega))) (fun c11 => ?_)
    refine e_aload k49_14 (q := 15) rfl rfl ?_
    refine g_get k49_15 (q := 18) rfl rfl rfl ?_
    refine e_iload k49_18 (q := 19) rfl rfl ?_
    refine g_ald k49_19 (q := 20) rfl rfl (by assumption) ?_
    rw [hcl, ht]
    refine e_if k49_20 (q := 23) rfl (fun c20 => ?_) (fun c20 => ?_)
    · refine e_iinc k49_61 (q := 64) (L' := [_, _, _, some (.int (nI r.length - 1))]) rfl rfl (by rw [Int32.sub_eq_add_neg]; rfl) ?_
      refine e_goto k49_64 ?_
      refine l_takeLast hT hN hab hb hc hD r f4 hB' (by omega) (fun σ' e' k' => kk σ' e' ?_)
      rw [z_tk, if_neg (fun z => c20 (by rw [z.1]; rfl))]
      exact k'
    · have htf : T r.length = false := by
        cases hz : T r.length with
        | false => rfl
        | true => rw [hz] at c20; exact absurd (by decide) c20
      refine e_aload k49_23 (q := 24) rfl rfl ?_
      refine e_iload k49_24 (q := 25) rfl rfl ?_
      refine e_iload k49_25 (q := 26) rfl rfl ?_
      refine e_iload k49_26 (q := 27) rfl rfl ?_
      refine g_cv k49_27 (q := 30) (as := [_, _, _]) rfl rfl rfl rfl (m_isNamed hT hN hab hb (show r.length < 12 by omega) f1 f2 (by omega) (by omega)) rfl (z_ki fun x27 h27 p27 => ?_)
      obtain ⟨rfl, rfl⟩ := p27
      refine e_if k49_30 (q := 33) rfl (fun c30 => ?_) (fun c30 => ?_)
      · refine e_iinc k49_61 (q := 64) (L' := [_, _, _, some (.int (nI r.length - 1))]) rfl rfl (by rw [Int32.sub_eq_add_neg]; rfl) ?_
        refine e_goto k49_64 ?_
        refine l_takeLast hT hN hab hb hc hD r f4 hB' (by omega) (fun σ' e' k' => kk σ' e' ?_)
        rw [z_tk, if_neg (fun z => by rw [z.2] at c30; exact absurd c30 (by decide))]
        exact k'
      · have hm : (decide (x.2.1 - x.1 = b - a) && z_mt (σ 7) (σ 12) x.1 a (b - a)) = true := by
          cases hz : (decide (x.2.1 - x.1 = b - a) && z_mt (σ 7) (σ 12) x.1 a (b - a)) with
          | true => rfl
          | false => rw [hz] at c30; exact absurd rfl c30
        have hput := hD.put hc (show r.length < c by omega) htf
        have hin2 : vp_in (σ 4 5) 12 := by rw [hD.2.1]; exact vp_in_nI hput.1 (by decide)
        have hcl2 : (σ 4 5).toNatClampNeg = O.length := by rw [hD.2.1]; exact nI_clamp (by omega)
        refine e_aload k49_33 (q := 34) rfl rfl ?_
        refine g_get k49_34 (q := 37) rfl rfl rfl ?_
        refine e_iload k49_37 (q := 38) rfl rfl ?_
        refine e_const k49_38 (q := 39) rfl ?_
        refine g_aast k49_39 (q := 40) rfl (fun _ => rfl) (by assumption) ?_
        refine e_aload k49_40 (q := 41) rfl rfl ?_
        refine g_get k49_41 (q := 44) rfl rfl rfl ?_
        refine e_aload k49_44 (q := 45) rfl rfl ?_
        refine g_get k49_45 (q := 48) rfl rfl rfl ?_
        refine e_iload k49_48 (q := 49) rfl rfl ?_
        refine g_aast k49_49 (q := 50) rfl (fun _ => rfl) hin2 ?_
        refine e_aload k49_50 (q := 51) rfl rfl ?_
        refine e_dup k49_51 (q := 52) rfl rfl ?_
        refine g_get k49_52 (q := 55) rfl rfl rfl ?_
        refine e_const k49_55 (q := 56) rfl ?_
        refine e_ib k49_56 (q := 57) rfl ?_
        refine g_put k49_57 (q := 60) rfl rfl ⟨_, rfl⟩ rfl ?_
        refine e_vret k49_60 ?_
        refine ⟨_, rfl, ?_⟩
        refine kk _ ?_ ?_
        · intro k h1 h2 h3
          rw [z_us_ne _ _ h1, z_us_ne _ _ h3, z_us_ne _ _ h2]
        · rw [z_tk, if_pos ⟨htf, hm⟩]
          have := hput.2
          rw [← nI_1, ← hD.2.1, ← hcl2] at this
          rw [hcl]
          exact this
theorem m_takeLast {d : Nat} {h : zH} {ρ : Nat → Nat → Option Nat} {σ : Nat → Nat → Int32} {n k a b : Nat} {F : List (Nat × Nat × Nat)} {T : Nat → Bool} {O : List Nat} (hT : z_tm σ n) (hN : z_tn σ k) (hab : a ≤ b) (hb : b ≤ k) (hF : z_fl σ F) (hB : z_fb n F) (hD : z_td σ F.length T O) : z_M (d + 3) 49 [.ref 4, .int (nI a), .int (nI b)] (z_G h σ ρ) (z_qv fun h' => ∃ σ', h' = z_G h σ' ρ ∧ z_et σ' σ ∧ z_td σ' F.length (z_tp (σ 7) (σ 12) F a b (T, O)).1 (z_tp (σ 7) (σ 12) F a b (T, O)).2) := by
  refine z_M.of ⟨Nat.le_of_ble_eq_true rfl, by simp [Value.category]⟩ (L := [some (.ref 4), some (.int (nI a)), some (.int (nI b)), none]) rfl ?_
  refine e_aload k49_0 (q := 1) rfl rfl ?_
  refine g_get k49_1 (q := 4) rfl rfl rfl ?_
  refine g_get k49_4 (q := 7) rfl rfl rfl ?_
  refine e_const k49_7 (q := 8) rfl ?_
  refine e_ib k49_8 (q := 9) rfl ?_
  rw [hF.1]
  refine e_ist k49_9 (q := 10) (L' := [_, _, _, _]) rfl rfl rfl ?_
  refine l_takeLast hT hN hab hb hF.2.1 hD F hF.2.2 hB (Nat.le_refl _) (fun σ' e' k' => ⟨σ', rfl, e', ?_⟩)
  unfold z_tp
  revert k'
  cases z_tk (σ 7) (σ 12) a b T F with
  | none => exact fun k' => k'
  | some i => exact fun k' => k'
