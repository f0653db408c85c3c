/-! The model writes: its page as a list; lines and fields. -/
def z_pg (σ : Nat → Nat → Int32) (out : List Int32) : Prop := σ 18 42 = nI out.length ∧ ∀ j, j < out.length → σ 51 j = out.getD j 0
def z_ep (σ' σ : Nat → Nat → Int32) : Prop := (∀ k, k ≠ 18 → k ≠ 51 → σ' k = σ k) ∧ ∀ j, j ≠ 42 → σ' 18 j = σ 18 j
theorem z_ep.rf {σ : Nat → Nat → Int32} : z_ep σ σ := ⟨fun _ _ _ => rfl, fun _ _ => rfl⟩
theorem z_ep.tr {a b c : Nat → Nat → Int32} (h1 : z_ep a b) (h2 : z_ep b c) : z_ep a c := ⟨fun k x y => (h1.1 k x y).trans (h2.1 k x y), fun j x => (h1.2 j x).trans (h2.2 j x)⟩
theorem z_pg.eq {σ : Nat → Nat → Int32} {out out' : List Int32} (h : z_pg σ out) (e : out = out') : z_pg σ out' := e ▸ h
theorem m_put {d : Nat} {h : zH} {ρ : Nat → Nat → Option Nat} {σ : Nat → Nat → Int32} {out : List Int32} (hP : z_pg σ out) (hl : out.length < 500) (c : Int32) : z_M (d + 1) 98 [.ref 18, .int c] (z_G h σ ρ) (z_qv fun h' => ∃ σ', h' = z_G h σ' ρ ∧ z_pg σ' (out ++ [c]) ∧ z_ep σ' σ) := by
  refine z_M.of ⟨Nat.le_of_ble_eq_true rfl, by simp [Value.category]⟩ (L := [some (.ref 18), some (.int c)]) rfl ?_
  have hin : vp_in (σ 18 42) 500 := by rw [hP.1]; exact vp_in_nI hl (by decide)
  have hcl : (σ 18 42).toNatClampNeg = out.length := by rw [hP.1]; exact nI_clamp (by omega)
  refine e_aload k98_0 (q := 1) rfl rfl ?_
  refine g_get k98_1 (q := 4) rfl rfl rfl ?_
  refine e_aload k98_4 (q := 5) rfl rfl ?_
  refine g_get k98_5 (q := 8) rfl rfl rfl ?_
  refine e_iload k98_8 (q := 9) rfl rfl ?_
  refine g_aast k98_9 (q := 10) rfl (fun _ => rfl) (by assumption) ?_
  refine e_aload k98_10 (q := 11) rfl rfl ?_
  refine e_dup k98_11 (q := 12) rfl rfl ?_
  refine g_get k98_12 (q := 15) rfl rfl rfl ?_
  refine e_const k98_15 (q := 16) rfl ?_
  refine e_ib k98_16 (q := 17) rfl ?_
  refine g_put k98_17 (q := 20) rfl rfl ⟨_, rfl⟩ rfl ?_
  refine e_vret k98_20 ?_
  have he : z_us (z_us σ 51 (upd (σ 51) (σ 18 42).toNatClampNeg (vp_nar .int c))) 18 (upd (σ 18) 42 (σ 18 42 + 1)) = z_us (z_us σ 51 (upd (σ 51) out.length c)) 18 (upd (σ 18) 42 (nI (out.length + 1))) := by
    rw [hcl, hP.1, nI_1]
    rfl
  refine ⟨_, rfl, z_us (z_us σ 51 (upd (σ 51) out.length c)) 18 (upd (σ 18) 42 (nI (out.length + 1))), congrArg (fun z => z_G h z ρ) he, ⟨?_, fun j hj => ?_⟩, fun k h1 h2 => ?_, fun j hj => ?_⟩
  · rw [z_us_eq, List.length_append]
    exact if_pos rfl
  · rw [List.length_append] at hj
    have hj : j < out.length + 1 := hj
    rw [z_us_ne _ _ (by decide), z_us_eq, List.getD_eq_getElem?_getD]
    by_cases e : j = out.length
    · subst e
      rw [List.getElem?_append_right (Nat.le_refl _), Nat.sub_self]
      exact if_pos rfl
    · rw [List.getElem?_append_left (by omega), ← List.getD_eq_getElem?_getD]
      exact (if_neg e).trans (hP.2 j (by omega))
  · rw [z_us_ne _ _ h1, z_us_ne _ _ h2]
  · rw [z_us_eq]
    exact if_neg hj
theorem l_plainLine {d : Nat} {h : zH} {ρ : Nat → Nat → Option Nat} {Q : zR → Prop} {k b : Nat} (hk : k < 241) (hb : b ≤ 240) : ∀ (m i : Nat) (σ : Nat → Nat → Int32) (out : List Int32), i + m = b → σ 46 k = nI b → z_pg σ out → out.length + m ≤ 499 →
    (∀ σ', z_pg σ' (out ++ z_sl (σ 39) i m) → z_ep σ' σ → z_E (d + 1) 99 33 [some (.ref 18), some (.int (nI k)), some (.int (nI b))] [] (z_G h σ' ρ) Q) →
    z_E (d + 1) 99 7 [some (.ref 18), some (.int (nI k)), some (.int (nI i))] [] (z_G h σ ρ) Q
  | 0, i, σ, out, hi, h46, hP, hl, kk => by
    obtain rfl : i = b := by omega
    have hin : vp_in (nI k) 241 := vp_in_nI hk (by decide)
    have hcl : (nI k).toNatClampNeg = k := nI_clamp (by omega)
    refine e_iload k99_7 (q := 8) rfl rfl ?_
    refine e_aload k99_8 (q := 9) rfl rfl ?_
    refine g_get k99_9 (q := 12) rfl rfl rfl ?_
    refine e_iload k99_12 (q := 13) rfl rfl ?_
    refine g_ald k99_13 (q := 14) rfl rfl (by assumption) ?_
    rw [hcl, h46]
    refine e_ic k99_14 (q := 17) rfl (fun c14 => ?_) (fun c14 => absurd (nI_le (Nat.le_refl _) (by omega)) c14)
    exact kk σ (hP.eq (List.append_nil _).symm) z_ep.rf
  | m + 1, i, σ, out, hi, h46, hP, hl, kk => by
    have hin : vp_in (nI k) 241 := vp_in_nI hk (by decide)
    have hcl : (nI k).toNatClampNeg = k := nI_clamp (by omega)
    have hii : vp_in (nI i) 240 := vp_in_nI (by omega) (by decide)
    have hci : (nI i).toNatClampNeg = i := nI_clamp (by omega)
    refine e_iload k99_7 (q := 8) rfl rfl ?_
    refine e_aload k99_8 (q := 9) rfl rfl ?_
    refine g_get k99_9 (q := 12) rfl rfl rfl ?_
    refine e_iload k99_12 (q := 13) rfl rfl ?_
    refine g_ald k99_13 (q := 14) rfl rfl (by assumption) ?_
    rw [hcl, h46]
    refine e_ic k99_14 (q := 17) rfl (fun c14 => absurd c14 (nI_ge (show i < b by omega) (by omega))) (fun c14 => ?_)
    refine e_aload k99_17 (q := 18) rfl rfl ?_
    refine e_aload k99_18 (q := 19) rfl rfl ?_
    refine g_get k99_19 (q := 22) rfl rfl rfl ?_
    refine e_iload k99_22 (q := 23) rfl rfl ?_
    refine g_ald k99_23 (q := 24) rfl rfl hii ?_
    rw [hci]
    refine g_cv k99_24 (q := 27) (as := [_]) rfl rfl rfl rfl (m_put hP (by omega) (σ 39 i)) rfl (z_kv fun h24 p24 => ?_)
    obtain ⟨σ1, rfl, hP1, e1⟩ := p24
    refine e_iinc k99_27 (q := 30) (L' := [_, _, some (.int (nI (i + 1)))]) rfl rfl (by rw [nI_1]; rfl) ?_
    refine e_goto k99_30 ?_
    refine l_plainLine hk hb m (i + 1) σ1 _ (by omega) (by rw [e1.1 46 (by decide) (by decide)]; exact h46) hP1 (by rw [List.length_append]; show out.length + 1 + m ≤ 499; omega) (fun σ2 h2 e2 => kk σ2 (h2.eq ?_) (e2.tr e1))
    rw [e1.1 39 (by decide) (by decide), List.append_assoc]
    rfl
theorem m_plainLine {d : Nat} {h : zH} {ρ : Nat → Nat → Option Nat} {σ : Nat → Nat → Int32} {k a b : Nat} {out : List Int32} (hk : k < 241) (h45 : σ 45 k = nI a) (h46 : σ 46 k = nI b) (hab : a ≤ b) (hb : b ≤ 240) (hP : z_pg σ out) (hl : out.length + (b - a) ≤ 499) : z_M (d + 2) 99 [.ref 18, .int (nI k)] (z_G h σ ρ) (z_qv fun h' => ∃ σ', h' = z_G h σ' ρ ∧ z_pg σ' (out ++ (z_sl (σ 39) a (b - a) ++ [10])) ∧ z_ep σ' σ) := by
  refine z_M.of ⟨Nat.le_of_ble_eq_true rfl, by simp [Value.category]⟩ (L := [some (.ref 18), some (.int (nI k)), none]) rfl ?_
  have hin : vp_in (nI k) 241 := vp_in_nI hk (by decide)
  have hcl : (nI k).toNatClampNeg = k := nI_clamp (by omega)
  refine e_aload k99_0 (q := 1) rfl rfl ?_
  refine g_get k99_1 (q := 4) rfl rfl rfl ?_
  refine e_iload k99_4 (q := 5) rfl rfl ?_
  refine g_ald k99_5 (q := 6) rfl rfl (by assumption) ?_
  rw [hcl, h45]
  refine e_ist k99_6 (q := 7) (L' := [_, _, _]) rfl rfl rfl ?_
  refine l_plainLine hk hb (b - a) a σ out (by omega) h46 hP hl (fun σ1 hP1 e1 => ?_)
  refine e_aload k99_33 (q := 34) rfl rfl ?_
  refine e_const k99_34 (q := 36) rfl ?_
  refine g_cv k99_36 (q := 39) (as := [_]) rfl rfl rfl rfl (m_put hP1 (by rw [List.length_append, z_sll]; omega) 10) rfl (z_kv fun h36 p36 => ?_)
  obtain ⟨σ2, rfl, hP2, e2⟩ := p36
  refine e_vret k99_39 ?_
  exact ⟨_, rfl, σ2, rfl, hP2.eq (List.append_assoc _ _ _), e2.tr e1⟩
theorem l_relaxedLine {d : Nat} {h : zH} {ρ : Nat → Nat → Option Nat} {Q : zR → Prop} {k b : Nat} (hk : k < 241) (hb : b ≤ 240) : ∀ (m i : Nat) (g : Bool) (σ : Nat → Nat → Int32) (out : List Int32), i + m = b → σ 46 k = nI b → (∀ j, i ≤ j → j < b → ¬ σ 39 j = 10) → z_pg σ out → out.length + m + (if g = true then 1 else 0) ≤ 499 →
    (∀ σ' g', z_pg σ' (out ++ z_sq (σ 39) i false g m) → z_ep σ' σ → z_E (d + 1) 101 63 [some (.ref 18), some (.int (nI k)), some (.int (z_bi g')), some (.int (nI b))] [] (z_G h σ' ρ) Q) →
    z_E (d + 1) 101 9 [some (.ref 18), some (.int (nI k)), some (.int (z_bi g)), some (.int (nI i))] [] (z_G h σ ρ) Q
  | 0, i, g, σ, out, hi, h46, hno, hP, hl, kk => by
    obtain rfl : i = b := by omega
    have hin : vp_in (nI k) 241 := vp_in_nI hk (by decide)
    have hcl : (nI k).toNatClampNeg = k := nI_clamp (by omega)
    refine e_iload k101_9 (q := 10) rfl rfl ?_
    refine e_aload k101_10 (q := 11) rfl rfl ?_
    refine g_get k101_11 (q := 14) rfl rfl rfl ?_
    refine e_iload k101_14 (q := 15) rfl rfl ?_
    refine g_ald k101_15 (q := 16) rfl rfl (by assumption) ?_
    rw [hcl, h46]
    refine e_ic k101_16 (q := 19) rfl (fun c16 => ?_) (fun c16 => absurd (nI_le (Nat.le_refl _) (by omega)) c16)
    exact kk σ g (hP.eq (List.append_nil _).symm) z_ep.rf
  | m + 1, i, g, σ, out, hi, h46, hno, hP, hl, kk => by
    have hin : vp_in (nI k) 241 := vp_in_nI hk (by decide)
    have hcl : (nI k).toNatClampNeg = k := nI_clamp (by omega)
    have hii : vp_in (nI i) 240 := vp_in_nI (by omega) (by decide)
    have hci : (nI i).toNatClampNeg = i := nI_clamp (by omega)
    have h10 := hno i (Nat.le_refl _) (by omega)
    refine e_iload k101_9 (q := 10) rfl rfl ?_
    refine e_aload k101_10 (q := 11) rfl rfl ?_
    refine g_get k101_11 (q := 14) rfl rfl rfl ?_
    refine e_iload k101_14 (q := 15) rfl rfl ?_
    refine g_ald k101_15 (q := 16) rfl rfl (by assumption) ?_
    rw [hcl, h46]
    refine e_ic k101_16 (q := 19) rfl (fun c16 => absurd c16 (nI_ge (show i < b by omega) (by omega))) (fun c16 => ?_)
    refine e_aload k101_19 (q := 20) rfl rfl ?_
    refine g_get k101_20 (q := 23) rfl rfl rfl ?_
    refine e_iload k101_23 (q := 24) rfl rfl ?_
    refine g_ald k101_24 (q := 25) rfl rfl hii ?_
    rw [hci]
    refine e_const k101_25 (q := 27) rfl ?_
    refine e_ic k101_27 (q := 30) rfl (fun c27 => ?_) (fun c27 => ?_)
    · refine e_iload k101_35 (q := 36) rfl rfl ?_
      refine e_if k101_36 (q := 39) rfl (fun c36 => ?_) (fun c36 => ?_)
      · refine e_const k101_45 (q := 46) rfl ?_
        refine e_ist k101_46 (q := 47) (L' := [_, _, _, _]) rfl rfl rfl ?_
        refine e_aload k101_47 (q := 48) rfl rfl ?_
        refine e_aload k101_48 (q := 49) rfl rfl ?_
        refine g_get k101_49 (q := 52) rfl rfl rfl ?_
        refine e_iload k101_52 (q := 53) rfl rfl ?_
        refine g_ald k101_53 (q := 54) rfl rfl hii ?_
        rw [hci]
        refine g_cv k101_54 (q := 57) (as := [_]) rfl rfl rfl rfl (m_put hP (by omega) _) rfl (z_kv fun h54 p54 => ?_)
        obtain ⟨σ2, rfl, hP2, e2⟩ := p54
        refine e_iinc k101_57 (q := 60) (L' := [_, _, _, some (.int (nI (i + 1)))]) rfl rfl (by rw [nI_1]; rfl) ?_
        refine e_goto k101_60 ?_
        refine l_relaxedLine hk hb m (i + 1) false σ2 _ (by omega) (by rw [e2.1 46 (by decide) (by decide)]; exact h46) (fun j h1 h2 => by rw [e2.1 39 (by decide) (by decide)]; exact hno j (by omega) h2) hP2 (by rw [List.length_append, if_neg (by decide)]; show out.length + 1 + m + 0 ≤ 499; omega) (fun σ3 g3 h3 e3 => kk σ3 g3 (h3.eq ?_) (e3.tr e2))
        rw [z_sq, if_neg c27, if_neg h10, if_neg (fun z => by rw [z.1] at c36; exact absurd c36 (by decide)), e2.1 39 (by decide) (by decide)]
        simp
      · have hg : g = true := by cases g with
          | true => rfl
          | false => exact absurd rfl c36
        refine e_aload k101_39 (q := 40) rfl rfl ?_
        refine e_const k101_40 (q := 42) rfl ?_
        refine g_cv k101_42 (q := 45) (as := [_]) rfl rfl rfl rfl (m_put hP (by omega) 32) rfl (z_kv fun h42 p42 => ?_)
        obtain ⟨σ1, rfl, hP1, e1⟩ := p42
        refine e_const k101_45 (q := 46) rfl ?_
        refine e_ist k101_46 (q := 47) (L' := [_, _, _, _]) rfl rfl rfl ?_
        refine e_aload k101_47 (q := 48) rfl rfl ?_
        refine e_aload k101_48 (q := 49) rfl rfl ?_
        refine g_get k101_49 (q := 52) rfl rfl rfl ?_
        refine e_iload k101_52 (q := 53) rfl rfl ?_
        refine g_ald k101_53 (q := 54) rfl rfl hii ?_
        rw [hci]
        refine g_cv k101_54 (q := 57) (as := [_]) rfl rfl rfl rfl (m_put hP1 (by rw [List.length_append]; show out.length + 1 < 500; rw [hg, if_pos rfl] at hl; omega) _) rfl (z_kv fun h54 p54 => ?_)
        obtain ⟨σ2, rfl, hP2, e2⟩ := p54
        rw [e1.1 39 (by decide) (by decide)] at hP2
        refine e_iinc k101_57 (q := 60) (L' := [_, _, _, some (.int (nI (i + 1)))]) rfl rfl (by rw [nI_1]; rfl) ?_
        refine e_goto k101_60 ?_
        refine l_relaxedLine hk hb m (i + 1) false σ2 _ (by omega) (by rw [(e2.tr e1).1 46 (by decide) (by decide)]; exact h46) (fun j h1 h2 => by rw [(e2.tr e1).1 39 (by decide) (by decide)]; exact hno j (by omega) h2) hP2 (by rw [List.length_append, List.length_append, if_neg (by decide)]; show out.length + 1 + 1 + m + 0 ≤ 499; rw [hg, if_pos rfl] at hl; omega) (fun σ3 g3 h3 e3 => kk σ3 g3 (h3.eq ?_) (e3.tr (e2.tr e1)))
        rw [z_sq, if_neg c27, if_neg h10, if_pos ⟨hg, rfl⟩, (e2.tr e1).1 39 (by decide) (by decide)]
        simp
    · refine e_const k101_30 (q := 31) rfl ?_
      refine e_ist k101_31 (q := 32) (L' := [_, _, _, _]) rfl rfl rfl ?_
      refine e_goto k101_32 ?_
      refine e_iinc k101_57 (q := 60) (L' := [_, _, _, some (.int (nI (i + 1)))]) rfl rfl (by rw [nI_1]; rfl) ?_
      refine e_goto k101_60 ?_
      refine l_relaxedLine hk hb m (i + 1) true σ out (by omega) h46 (fun j h1 h2 => hno j (by omega) h2) hP (by rw [if_pos rfl]; omega) (fun σ2 g2 h2 e2 => kk σ2 g2 (h2.eq ?_) e2)
      rw [z_sq, if_pos (Classical.not_not.mp c27)]
theorem m_relaxedLine {d : Nat} {h : zH} {ρ : Nat → Nat → Option Nat} {σ : Nat → Nat → Int32} {k a b : Nat} {out : List Int32} (hk : k < 241) (h45 : σ 45 k = nI a) (h46 : σ 46 k = nI b) (hab : a ≤ b) (hb : b ≤ 240) (hno : ∀ j, a ≤ j → j < b → ¬ σ 39 j = 10) (hP : z_pg σ out) (hl : out.length + (b - a) ≤ 499) : z_M (d + 2) 101 [.ref 18, .int (nI k)] (z_G h σ ρ) (z_qv fun h' => ∃ σ', h' = z_G h σ' ρ ∧ z_pg σ' (out ++ (z_sq (σ 39) a false false (b - a) ++ [10])) ∧ z_ep σ' σ) := by
  refine z_M.of ⟨Nat.le_of_ble_eq_true rfl, by simp [Value.category]⟩ (L := [some (.ref 18), some (.int (nI k)), none, none]) rfl ?_
  have hin : vp_in (nI k) 241 := vp_in_nI hk (by decide)
  have hcl : (nI k).toNatClampNeg = k := nI_clamp (by omega)
  refine e_const k101_0 (q := 1) rfl ?_
  refine e_ist k101_1 (q := 2) (L' := [_, _, _, _]) rfl rfl rfl ?_
  refine e_aload k101_2 (q := 3) rfl rfl ?_
  refine g_get k101_3 (q := 6) rfl rfl rfl ?_
  refine e_iload k101_6 (q := 7) rfl rfl ?_
  refine g_ald k101_7 (q := 8) rfl rfl (by assumption) ?_
  rw [hcl, h45]
  refine e_ist k101_8 (q := 9) (L' := [_, _, _, _]) rfl rfl rfl ?_
  refine l_relaxedLine hk hb (b - a) a false σ out (by omega) h46 hno hP (by rw [if_neg (by decide)]; exact hl) (fun σ1 g1 hP1 e1 => ?_)
  refine e_aload k101_63 (q := 64) rfl rfl ?_
  refine e_const k101_64 (q := 66) rfl ?_
  refine g_cv k101_66 (q := 69) (as := [_]) rfl rfl rfl rfl (m_put hP1 (by have := z_sq_len (σ 39) (b - a) a false false; rw [if_neg (by decide)] at this; rw [List.length_append]; omega) 10) rfl (z_kv fun h66 p66 => ?_)
  obtain ⟨σ2, rfl, hP2, e2⟩ := p66
  refine e_vret k101_69 ?_
  exact ⟨_, rfl, σ2, rfl, hP2.eq (List.append_assoc _ _ _), e2.tr e1⟩
def z_bk (t : Nat → Int32) (a : Nat) : Nat → Bool
  | 0 => true
  | m + 1 => decide (t a = 32) && z_bk t (a + 1) m
theorem l_blank {d : Nat} {h : zH} {ρ : Nat → Nat → Option Nat} {σ : Nat → Nat → Int32} {P : Int32 → zH → Prop} {k b : Nat} (hk : k < 241) (hb : b ≤ 240) (h46 : σ 46 k = nI b) : ∀ (m i : Nat) (c : Bool), i + m = b → P (z_bi (c && z_bk (σ 39) i m)) (z_G h σ ρ) →
    z_E d 102 9 [some (.ref 18), some (.int (nI k)), some (.int (z_bi c)), some (.int (nI i))] [] (z_G h σ ρ) (z_qi P)
  | 0, i, c, hi, kk => by
    obtain rfl : i = b := by omega
    have hin : vp_in (nI k) 241 := vp_in_nI hk (by decide)
    have hcl : (nI k).toNatClampNeg = k := nI_clamp (by omega)
    rw [z_bk, Bool.and_true] at kk
    refine e_iload k102_9 (q := 10) rfl rfl ?_
    refine e_aload k102_10 (q := 11) rfl rfl ?_
    refine g_get k102_11 (q := 14) rfl rfl rfl ?_
    refine e_iload k102_14 (q := 15) rfl rfl ?_
    refine g_ald k102_15 (q := 16) rfl rfl (by assumption) ?_
    rw [hcl, h46]
    refine e_ic k102_16 (q := 19) rfl (fun c16 => ?_) (fun c16 => absurd (nI_le (Nat.le_refl _) (by omega)) c16)
    refine e_iload k102_46 (q := 47) rfl rfl ?_
    refine e_iret k102_47 (by cases c; exact Or.inl rfl; exact Or.inr rfl) ?_
    exact ⟨_, _, rfl, kk⟩
  | m + 1, i, c, hi, kk => by
    have hin : vp_in (nI k) 241 := vp_in_nI hk (by decide)
    have hcl : (nI k).toNatClampNeg = k := nI_clamp (by omega)
    have hii : vp_in (nI i) 240 := vp_in_nI (by omega) (by decide)
    have hci : (nI i).toNatClampNeg = i := nI_clamp (by omega)
    refine e_iload k102_9 (q := 10) rfl rfl ?_
    refine e_aload k102_10 (q := 11) rfl rfl ?_
    refine g_get k102_11 (q := 14) rfl rfl rfl ?_
    refine e_iload k102_14 (q := 15) rfl rfl ?_
    refine g_ald k102_15 (q := 16) rfl rfl (by assumption) ?_
    rw [hcl, h46]
    refine e_ic k102_16 (q := 19) rfl (fun c16 => absurd c16 (nI_ge (show i < b by omega) (by omega))) (fun c16 => ?_)
    refine e_iload k102_19 (q := 20) rfl rfl ?_
    refine e_if k102_20 (q := 23) rfl (fun c20 => ?_) (fun c20 => ?_)
    · refine e_const k102_38 (q := 39) rfl ?_
      refine e_ist k102_39 (q := 40) (L' := [_, _, _, _]) rfl rfl rfl ?_
      refine e_iinc k102_40 (q := 43) (L' := [_, _, _, some (.int (nI (i + 1)))]) rfl rfl (by rw [nI_1]; rfl) ?_
      refine e_goto k102_43 ?_
      refine l_blank hk hb h46 m (i + 1) false (by omega) ?_
      obtain rfl : c = false := by cases c with
        | false => rfl
        | true => exact absurd c20 (by decide)
      exact kk
    · refine e_aload k102_23 (q := 24) rfl rfl ?_
      refine g_get k102_24 (q := 27) rfl rfl rfl ?_
      refine e_iload k102_27 (q := 28) rfl rfl ?_
      refine g_ald k102_28 (q := 29) rfl rfl hii ?_
      rw [hci]
      refine e_const k102_29 (q := 31) rfl ?_
      refine e_ic k102_31 (q := 34) rfl (fun c31 => ?_) (fun c31 => ?_)
      · refine e_const k102_38 (q := 39) rfl ?_
        refine e_ist k102_39 (q := 40) (L' := [_, _, _, _]) rfl rfl rfl ?_
        refine e_iinc k102_40 (q := 43) (L' := [_, _, _, some (.int (nI (i + 1)))]) rfl rfl (by rw [nI_1]; rfl) ?_
        refine e_goto k102_43 ?_
        refine l_blank hk hb h46 m (i + 1) false (by omega) ?_
        obtain rfl : c = true := by cases c with
          | true => rfl
          | false => exact absurd rfl c20
        rw [z_bk, decide_eq_false c31] at kk
        exact kk
      · refine e_const k102_34 (q := 35) rfl ?_
        refine e_goto k102_35 ?_
        refine e_ist k102_39 (q := 40) (L' := [_, _, _, _]) rfl rfl rfl ?_
        refine e_iinc k102_40 (q := 43) (L' := [_, _, _, some (.int (nI (i + 1)))]) rfl rfl (by rw [nI_1]; rfl) ?_
        refine e_goto k102_43 ?_
        refine l_blank hk hb h46 m (i + 1) true (by omega) ?_
        obtain rfl : c = true := by cases c with
          | true => rfl
          | false => exact absurd rfl c20
        rw [z_bk, decide_eq_true (Classical.not_not.mp c31), Bool.true_and] at kk
        exact kk
theorem m_blank {d : Nat} {h : zH} {ρ : Nat → Nat → Option Nat} {σ : Nat → Nat → Int32} {k a b : Nat} (hk : k < 241) (h45 : σ 45 k = nI a) (h46 : σ 46 k = nI b) (hab : a ≤ b) (hb : b ≤ 240) : z_M (d + 1) 102 [.ref 18, .int (nI k)] (z_G h σ ρ) (z_qi fun x h' => x = z_bi (z_bk (σ 39) a (b - a)) ∧ h' = z_G h σ ρ) := by
  refine z_M.of ⟨Nat.le_of_ble_eq_true rfl, by simp [Value.category]⟩ (L := [some (.ref 18), some (.int (nI k)), none, none]) rfl ?_
  have hin : vp_in (nI k) 241 := vp_in_nI hk (by decide)
  have hcl : (nI k).toNatClampNeg = k := nI_clamp (by omega)
  refine e_const k102_0 (q := 1) rfl ?_
  refine e_ist k102_1 (q := 2) (L' := [_, _, _, _]) rfl rfl rfl ?_
  refine e_aload k102_2 (q := 3) rfl rfl ?_
  refine g_get k102_3 (q := 6) rfl rfl rfl ?_
  refine e_iload k102_6 (q := 7) rfl rfl ?_
  refine g_ald k102_7 (q := 8) rfl rfl (by assumption) ?_
  rw [hcl, h45]
  refine e_ist k102_8 (q := 9) (L' := [_, _, _, _]) rfl rfl rfl ?_
  exact l_blank hk hb h46 (b - a) a true (by omega) ⟨rfl, rfl⟩
