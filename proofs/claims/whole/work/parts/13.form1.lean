/-! The class's canonical form, first part: the written text as a list; copying and squeezing. -/
def z_c7 (c : Int32) : Prop := ∃ m, m < 127 ∧ c = nI m
theorem z_ch7 : ∀ m, m < 127 → z_ch (nI m) = nI m := by decide +kernel
theorem z_lw7 : ∀ m, m < 127 → ∃ k, k < 127 ∧ z_lw (nI m) = nI k := by
  intro m hm
  have h1 : ∀ m, m < 127 → z_lw (nI m) = nI (if 65 ≤ m ∧ m ≤ 90 then m + 32 else m) := by decide +kernel
  refine ⟨_, ?_, h1 m hm⟩
  split <;> omega
theorem z_c7.ch {c : Int32} (h : z_c7 c) : z_ch c = c := by
  obtain ⟨m, hm, rfl⟩ := h
  exact z_ch7 m hm
theorem z_c7.lw {c : Int32} (h : z_c7 c) : z_c7 (z_lw c) := by
  obtain ⟨m, hm, rfl⟩ := h
  obtain ⟨k, hk, e⟩ := z_lw7 m hm
  exact ⟨k, hk, e⟩
theorem z_c32 : z_c7 32 := ⟨32, by decide, by decide⟩
theorem z_c58 : z_c7 58 := ⟨58, by decide, by decide⟩
theorem z_c10 : z_c7 10 := ⟨10, by decide, by decide⟩
/-- the message's text: n signs -/
def z_tm (σ : Nat → Nat → Int32) (n : Nat) : Prop := σ 6 1 = nI n ∧ n ≤ 240 ∧ ∀ j, j < n → z_c7 (σ 7 j)
/-- the list of names: k signs -/
def z_tn (σ : Nat → Nat → Int32) (k : Nat) : Prop := σ 11 1 = nI k ∧ k ≤ 60 ∧ ∀ j, j < k → z_c7 (σ 12 j)
/-- the form's text holds the list, as far as it has room -/
def z_cs (σ : Nat → Nat → Int32) (out : List Int32) : Prop := σ 13 1 = nI (min out.length 242) ∧ ∀ j, j < min out.length 242 → σ 14 j = out.getD j 0
def z_eq (σ' σ : Nat → Nat → Int32) : Prop := ∀ k, k ≠ 13 → k ≠ 14 → σ' k = σ k
theorem z_eq.rf {σ : Nat → Nat → Int32} : z_eq σ σ := fun _ _ _ => rfl
theorem z_eq.tr {a b c : Nat → Nat → Int32} (h1 : z_eq a b) (h2 : z_eq b c) : z_eq a c := fun k x y => (h1 k x y).trans (h2 k x y)
theorem z_tm.eq {σ' σ : Nat → Nat → Int32} {n : Nat} (h : z_tm σ n) (e : z_eq σ' σ) : z_tm σ' n := by
  unfold z_tm
  rw [e 6 (by decide) (by decide), e 7 (by decide) (by decide)]
  exact h
theorem z_tn.eq {σ' σ : Nat → Nat → Int32} {n : Nat} (h : z_tn σ n) (e : z_eq σ' σ) : z_tn σ' n := by
  unfold z_tn
  rw [e 11 (by decide) (by decide), e 12 (by decide) (by decide)]
  exact h
def z_sl (t : Nat → Int32) (i : Nat) : Nat → List Int32
  | 0 => []
  | m + 1 => t i :: z_sl t (i + 1) m
theorem z_cs.app {σ : Nat → Nat → Int32} {out : List Int32} (c : Int32) (h : z_cs σ out) : z_cs (z_ap σ 13 14 242 (min out.length 242) c) (out ++ [z_ch c]) ∧ z_eq (z_ap σ 13 14 242 (min out.length 242) c) σ := by
  unfold z_ap
  by_cases hl : min out.length 242 < 242
  · rw [if_pos hl]
    have e1 : min out.length 242 = out.length := by omega
    rw [e1] at hl ⊢
    refine ⟨⟨?_, fun j hj => ?_⟩, fun k h1 h2 => ?_⟩
    · rw [z_us_eq, List.length_append]
      show nI (out.length + 1) = nI (min (out.length + 1) 242)
      rw [show min (out.length + 1) 242 = out.length + 1 by omega]
    · rw [z_us_ne _ _ (by decide), z_us_eq]
      rw [List.length_append] at hj
      have hj : j < min (out.length + 1) 242 := hj
      by_cases ej : j = out.length
      · subst ej
        rw [show upd (σ 14) out.length (z_ch c) out.length = z_ch c from if_pos rfl, List.getD_eq_getElem?_getD, List.getElem?_append_right (Nat.le_refl _), Nat.sub_self]
        rfl
      · rw [show upd (σ 14) out.length (z_ch c) j = σ 14 j from if_neg ej, h.2 j (by omega), List.getD_eq_getElem?_getD, List.getD_eq_getElem?_getD, List.getElem?_append_left (by omega)]
    · rw [z_us_ne _ _ h1, z_us_ne _ _ h2]
  · rw [if_neg hl]
    refine ⟨⟨?_, fun j hj => ?_⟩, z_eq.rf⟩
    · rw [h.1, List.length_append]
      show nI _ = nI (min (out.length + 1) 242)
      congr 1
      omega
    · rw [h.2 j (by omega), List.getD_eq_getElem?_getD, List.getD_eq_getElem?_getD, List.getElem?_append_left (by omega)]
theorem z_cs.eq {σ : Nat → Nat → Int32} {out out' : List Int32} (h : z_cs σ out) (e : out = out') : z_cs σ out' := e ▸ h
/-- append to the form's text -/
theorem m_app {d : Nat} {h : zH} {σ : Nat → Nat → Int32} {ρ : Nat → Nat → Option Nat} {out : List Int32} (hC : z_cs σ out) (c : Int32) : z_M (d + 1) 61 [.ref 13, .int c] (z_G h σ ρ) (z_qi fun _ h' => ∃ σ', h' = z_G h σ' ρ ∧ z_cs σ' (out ++ [z_ch c]) ∧ z_eq σ' σ) := by
  refine (m_append z_tx13 hC.1 (by omega) c).mono ?_
  rintro r ⟨x, h', rfl, -, rfl⟩
  exact ⟨_, _, rfl, _, rfl, (hC.app c).1, (hC.app c).2⟩
/-- a sign of the message -/
theorem m_codeT {d : Nat} {h : zH} {σ : Nat → Nat → Int32} {ρ : Nat → Nat → Option Nat} {n i : Nat} (hT : z_tm σ n) (hi : i < n) : z_M (d + 1) 62 [.ref 6, .int (nI i)] (z_G h σ ρ) (z_qi fun x h' => x = σ 7 i ∧ h' = z_G h σ ρ) := by
  have hn := hT.2.1
  refine (m_codeAt z_tx6 hT.1 hn (nI i)).mono ?_
  rintro r ⟨x, h', rfl, rfl, rfl⟩
  refine ⟨_, _, rfl, ?_, rfl⟩
  rw [if_neg, nI_clamp (by omega)]
  rintro (z | z)
  · exact nI_pos (by omega) z
  · have := (nI_leI (by omega) (by omega)).mp z
    omega
/-- a sign of the names -/
theorem m_codeN {d : Nat} {h : zH} {σ : Nat → Nat → Int32} {ρ : Nat → Nat → Option Nat} {n i : Nat} (hT : z_tn σ n) (hi : i < n) : z_M (d + 1) 62 [.ref 11, .int (nI i)] (z_G h σ ρ) (z_qi fun x h' => x = σ 12 i ∧ h' = z_G h σ ρ) := by
  have hn := hT.2.1
  refine (m_codeAt z_tx11 hT.1 hn (nI i)).mono ?_
  rintro r ⟨x, h', rfl, rfl, rfl⟩
  refine ⟨_, _, rfl, ?_, rfl⟩
  rw [if_neg, nI_clamp (by omega)]
  rintro (z | z)
  · exact nI_pos (by omega) z
  · have := (nI_leI (by omega) (by omega)).mp z
    omega
theorem l_copy {d : Nat} {h : zH} {ρ : Nat → Nat → Option Nat} {Q : zR → Prop} {n b : Nat} {x1 : Option Value} (hb : b ≤ n) : ∀ (m i : Nat) (σ : Nat → Nat → Int32) (out : List Int32), i + m = b → z_tm σ n → z_cs σ out →
    (∀ σ', z_cs σ' (out ++ z_sl (σ 7) i m) → z_eq σ' σ → z_E (d + 1) 54 32 [some (.ref 4), x1, some (.int (nI b)), some (.int (nI b))] [] (z_G h σ' ρ) Q) →
    z_E (d + 1) 54 2 [some (.ref 4), x1, some (.int (nI b)), some (.int (nI i))] [] (z_G h σ ρ) Q
  | 0, i, σ, out, hi, hT, hC, kk => by
    obtain rfl : i = b := by omega
    have hn := hT.2.1
    refine e_iload k54_2 (q := 3) rfl rfl ?_
    refine e_iload k54_3 (q := 4) rfl rfl ?_
    refine e_ic k54_4 (q := 7) rfl (fun c4 => ?_) (fun c4 => absurd (nI_le (Nat.le_refl _) (by omega)) c4)
    exact kk σ (hC.eq (List.append_nil _).symm) z_eq.rf
  | m + 1, i, σ, out, hi, hT, hC, kk => by
    have hn := hT.2.1
    have hin : i < n := by omega
    refine e_iload k54_2 (q := 3) rfl rfl ?_
    refine e_iload k54_3 (q := 4) rfl rfl ?_
    refine e_ic k54_4 (q := 7) rfl (fun c4 => absurd c4 (nI_ge (show i < b by omega) (by omega))) (fun c4 => ?_)
    refine e_aload k54_7 (q := 8) rfl rfl ?_
    refine g_get k54_8 (q := 11) rfl rfl rfl ?_
    refine e_aload k54_11 (q := 12) rfl rfl ?_
    refine g_get k54_12 (q := 15) rfl rfl rfl ?_
    refine g_get k54_15 (q := 18) rfl rfl rfl ?_
    refine e_iload k54_18 (q := 19) rfl rfl ?_
    refine g_cv k54_19 (q := 22) (as := [_]) rfl rfl rfl rfl (m_codeT hT hin) rfl (z_ki fun x19 h19 p19 => ?_)
    obtain ⟨rfl, rfl⟩ := p19
    refine g_cv k54_22 (q := 25) (as := [_]) rfl rfl rfl rfl (m_app hC (σ 7 i)) rfl (z_ki fun x22 h22 p22 => ?_)
    obtain ⟨σ1, rfl, hC1, e1⟩ := p22
    refine e_pop k54_25 (q := 26) rfl rfl ?_
    refine e_iinc k54_26 (q := 29) (L' := [_, _, _, some (.int (nI (i + 1)))]) rfl rfl (by rw [← nI_1]; rfl) ?_
    refine e_goto k54_29 ?_
    refine l_copy hb m (i + 1) σ1 _ (by omega) (hT.eq e1) hC1 (fun σ2 h2 e2 => kk σ2 (h2.eq ?_) (e2.tr e1))
    rw [e1 7 (by decide) (by decide), (hT.2.2 i hin).ch, List.append_assoc]
    rfl
theorem m_copy {d : Nat} {h : zH} {ρ : Nat → Nat → Option Nat} {σ : Nat → Nat → Int32} {n a b : Nat} {out : List Int32} (hT : z_tm σ n) (hC : z_cs σ out) (hab : a ≤ b) (hb : b ≤ n) : z_M (d + 2) 54 [.ref 4, .int (nI a), .int (nI b)] (z_G h σ ρ) (z_qv fun h' => ∃ σ', h' = z_G h σ' ρ ∧ z_cs σ' (out ++ z_sl (σ 7) a (b - a)) ∧ z_eq σ' σ) := by
  refine z_M.of ⟨Nat.le_of_ble_eq_true rfl, by simp [Value.category]⟩ (L := [some (.ref 4), some (.int (nI a)), some (.int (nI b)), none]) rfl ?_
  refine e_iload k54_0 (q := 1) rfl rfl ?_
  refine e_ist k54_1 (q := 2) (L' := [_, _, _, _]) rfl rfl rfl ?_
  refine l_copy hb (b - a) a σ out (by omega) hT hC (fun σ1 h1 e1 => ?_)
  refine e_vret k54_32 ?_
  exact ⟨_, rfl, σ1, rfl, h1, e1⟩
/-- what squeezing writes: rows of spaces made one, not at the beginning (b), ends of lines left out; g: a gap waits -/
def z_sq (t : Nat → Int32) (i : Nat) (b g : Bool) : Nat → List Int32
  | 0 => []
  | m + 1 => if t i = 32 then z_sq t (i + 1) b true m else if t i = 10 then z_sq t (i + 1) b g m else (if g = true ∧ b = false then [32] else []) ++ t i :: z_sq t (i + 1) false false m
def z_bi (b : Bool) : Int32 := if b then 1 else 0
theorem l_squeeze {d : Nat} {h : zH} {ρ : Nat → Nat → Option Nat} {Q : zR → Prop} {n e : Nat} {x1 x3 : Option Value} (hb : e ≤ n) : ∀ (m i : Nat) (b g : Bool) (σ : Nat → Nat → Int32) (out : List Int32) (x7 : Option Value), i + m = e → z_tm σ n → z_cs σ out →
    (∀ σ' b' g' x7', z_cs σ' (out ++ z_sq (σ 7) i b g m) → z_eq σ' σ → z_E (d + 1) 55 91 [some (.ref 4), x1, some (.int (nI e)), x3, some (.int (z_bi b')), some (.int (z_bi g')), some (.int (nI e)), x7'] [] (z_G h σ' ρ) Q) →
    z_E (d + 1) 55 9 [some (.ref 4), x1, some (.int (nI e)), x3, some (.int (z_bi b)), some (.int (z_bi g)), some (.int (nI i)), x7] [] (z_G h σ ρ) Q
  | 0, i, b, g, σ, out, x7, hi, hT, hC, kk => by
    obtain rfl : i = e := by omega
    have hn := hT.2.1
    refine e_iload k55_9 (q := 11) rfl rfl ?_
    refine e_iload k55_11 (q := 12) rfl rfl ?_
    refine e_ic k55_12 (q := 15) rfl (fun c12 => ?_) (fun c12 => absurd (nI_le (Nat.le_refl _) (by omega)) c12)
    exact kk σ b g x7 (hC.eq (List.append_nil _).symm) z_eq.rf
  | m + 1, i, b, g, σ, out, x7, hi, hT, hC, kk => by
    have hn := hT.2.1
    have hin : i < n := by omega
    refine e_iload k55_9 (q := 11) rfl rfl ?_
    refine e_iload k55_11 (q := 12) rfl rfl ?_
    refine e_ic k55_12 (q := 15) rfl (fun c12 => absurd c12 (nI_ge (show i < e by omega) (by omega))) (fun c12 => ?_)
    refine e_aload k55_15 (q := 16) rfl rfl ?_
    refine g_get k55_16 (q := 19) rfl rfl rfl ?_
    refine g_get k55_19 (q := 22) rfl rfl rfl ?_
    refine e_iload k55_22 (q := 24) rfl rfl ?_
    refine g_cv k55_24 (q := 27) (as := [_]) rfl rfl rfl rfl (m_codeT hT hin) rfl (z_ki fun x24 h24 p24 => ?_)
    obtain ⟨rfl, rfl⟩ := p24
    refine e_ist k55_27 (q := 29) (L' := [_, _, _, _, _, _, _, _]) rfl rfl rfl ?_
    refine e_iload k55_29 (q := 31) rfl rfl ?_
    refine e_const k55_31 (q := 33) rfl ?_
    refine e_ic k55_33 (q := 36) rfl (fun c33 => ?_) (fun c33 => ?_)
    · refine e_iload k55_42 (q := 44) rfl rfl ?_
      refine e_const k55_44 (q := 46) rfl ?_
      refine e_ic k55_46 (q := 49) rfl (fun c46 => ?_) (fun c46 => ?_)
      · refine e_iinc k55_85 (q := 88) (L' := [_, _, _, _, _, _, some (.int (nI (i + 1))), _]) rfl rfl (by rw [← nI_1]; rfl) ?_
        refine e_goto k55_88 ?_
        refine l_squeeze hb m (i + 1) b g σ out _ (by omega) hT hC (fun σ2 b2 g2 y2 h2 e2 => kk σ2 b2 g2 y2 (h2.eq ?_) e2)
        rw [z_sq, if_neg c33, if_pos c46]
      · refine e_iload k55_49 (q := 51) rfl rfl ?_
        refine e_if k55_51 (q := 54) rfl (fun c51 => ?_) (fun c51 => ?_)
        · refine e_aload k55_69 (q := 70) rfl rfl ?_
          refine g_get k55_70 (q := 73) rfl rfl rfl ?_
          refine e_iload k55_73 (q := 75) rfl rfl ?_
          refine g_cv k55_75 (q := 78) (as := [_]) rfl rfl rfl rfl (m_app hC (σ 7 i)) rfl (z_ki fun x75 h75 p75 => ?_)
          obtain ⟨σ2, rfl, hC2, e2⟩ := p75
          refine e_pop k55_78 (q := 79) rfl rfl ?_
          refine e_const k55_79 (q := 80) rfl ?_
          refine e_ist k55_80 (q := 82) (L' := [_, _, _, _, _, _, _, _]) rfl rfl rfl ?_
          refine e_const k55_82 (q := 83) rfl ?_
          refine e_ist k55_83 (q := 85) (L' := [_, _, _, _, _, _, _, _]) rfl rfl rfl ?_
          refine e_iinc k55_85 (q := 88) (L' := [_, _, _, _, _, _, some (.int (nI (i + 1))), _]) rfl rfl (by rw [← nI_1]; rfl) ?_
          refine e_goto k55_88 ?_
          refine l_squeeze hb m (i + 1) false false σ2 _ _ (by omega) (hT.eq e2) hC2 (fun σ3 b3 g3 y3 h3 e3 => kk σ3 b3 g3 y3 (h3.eq ?_) (e3.tr e2))
          rw [z_sq, if_neg c33, if_neg c46, if_neg, e2 7 (by decide) (by decide), (hT.2.2 i hin).ch]
          · simp
          · rintro ⟨rfl, -⟩
            exact absurd c51 (by decide)
        · refine e_iload k55_54 (q := 56) rfl rfl ?_
          refine e_if k55_56 (q := 59) rfl (fun c56 => ?_) (fun c56 => ?_)
          · refine e_aload k55_69 (q := 70) rfl rfl ?_
            refine g_get k55_70 (q := 73) rfl rfl rfl ?_
            refine e_iload k55_73 (q := 75) rfl rfl ?_
            refine g_cv k55_75 (q := 78) (as := [_]) rfl rfl rfl rfl (m_app hC (σ 7 i)) rfl (z_ki fun x75 h75 p75 => ?_)
            obtain ⟨σ2, rfl, hC2, e2⟩ := p75
            refine e_pop k55_78 (q := 79) rfl rfl ?_
            refine e_const k55_79 (q := 80) rfl ?_
            refine e_ist k55_80 (q := 82) (L' := [_, _, _, _, _, _, _, _]) rfl rfl rfl ?_
            refine e_const k55_82 (q := 83) rfl ?_
            refine e_ist k55_83 (q := 85) (L' := [_, _, _, _, _, _, _, _]) rfl rfl rfl ?_
            refine e_iinc k55_85 (q := 88) (L' := [_, _, _, _, _, _, some (.int (nI (i + 1))), _]) rfl rfl (by rw [← nI_1]; rfl) ?_
            refine e_goto k55_88 ?_
            refine l_squeeze hb m (i + 1) false false σ2 _ _ (by omega) (hT.eq e2) hC2 (fun σ3 b3 g3 y3 h3 e3 => kk σ3 b3 g3 y3 (h3.eq ?_) (e3.tr e2))
            rw [z_sq, if_neg c33, if_neg c46, if_neg, e2 7 (by decide) (by decide), (hT.2.2 i hin).ch]
            · simp
            · rintro ⟨-, rfl⟩
              exact c56 rfl
          · refine e_aload k55_59 (q := 60) rfl rfl ?_
            refine g_get k55_60 (q := 63) rfl rfl rfl ?_
            refine e_const k55_63 (q := 65) rfl ?_
            refine g_cv k55_65 (q := 68) (as := [_]) rfl rfl rfl rfl (m_app hC 32) rfl (z_ki fun x65 h65 p65 => ?_)
            obtain ⟨σ1, rfl, hC1, e1⟩ := p65
            refine e_pop k55_68 (q := 69) rfl rfl ?_
            refine e_aload k55_69 (q := 70) rfl rfl ?_
            refine g_get k55_70 (q := 73) rfl rfl rfl ?_
            refine e_iload k55_73 (q := 75) rfl rfl ?_
            refine g_cv k55_75 (q := 78) (as := [_]) rfl rfl rfl rfl (m_app hC1 (σ 7 i)) rfl (z_ki fun x75 h75 p75 => ?_)
            obtain ⟨σ2, rfl, hC2, e2⟩ := p75
            refine e_pop k55_78 (q := 79) rfl rfl ?_
            refine e_const k55_79 (q := 80) rfl ?_
            refine e_ist k55_80 (q := 82) (L' := [_, _, _, _, _, _, _, _]) rfl rfl rfl ?_
            refine e_const k55_82 (q := 83) rfl ?_
            refine e_ist k55_83 (q := 85) (L' := [_, _, _, _, _, _, _, _]) rfl rfl rfl ?_
            refine e_iinc k55_85 (q := 88) (L' := [_, _, _, _, _, _, some (.int (nI (i + 1))), _]) rfl rfl (by rw [← nI_1]; rfl) ?_
            refine e_goto k55_88 ?_
            refine l_squeeze hb m (i + 1) false false σ2 _ _ (by omega) ((hT.eq e1).eq e2) hC2 (fun σ3 b3 g3 y3 h3 e3 => kk σ3 b3 g3 y3 (h3.eq ?_) (e3.tr (e2.tr e1)))
            have hg : g = true := by cases g with
              | true => rfl
              | false => exact absurd rfl c51
            have hbb : b = false := by cases b with
              | false => rfl
              | true => exact absurd (show ¬ z_bi true = 0 by decide) c56
            rw [z_sq, if_neg c33, if_neg c46, if_pos ⟨hg, hbb⟩, (e2.tr e1) 7 (by decide) (by decide), (hT.2.2 i hin).ch, z_c32.ch]
            simp
    · refine e_const k55_36 (q := 37) rfl ?_
      refine e_ist k55_37 (q := 39) (L' := [_, _, _, _, _, _, _, _]) rfl rfl rfl ?_
      refine e_goto k55_39 ?_
      refine e_iinc k55_85 (q := 88) (L' := [_, _, _, _, _, _, some (.int (nI (i + 1))), _]) rfl rfl (by rw [← nI_1]; rfl) ?_
      refine e_goto k55_88 ?_
      refine l_squeeze hb m (i + 1) b true σ out _ (by omega) hT hC (fun σ2 b2 g2 y2 h2 e2 => kk σ2 b2 g2 y2 (h2.eq ?_) e2)
      rw [z_sq, if_pos (Classical.not_not.mp c33)]
theorem m_squeeze {d : Nat} {h : zH} {ρ : Nat → Nat → Option Nat} {σ : Nat → Nat → Int32} {n a e : Nat} {out : List Int32} (b : Bool) (hT : z_tm σ n) (hC : z_cs σ out) (hab : a ≤ e) (hb : e ≤ n) : z_M (d + 2) 55 [.ref 4, .int (nI a), .int (nI e), .int (z_bi b)] (z_G h σ ρ) (z_qv fun h' => ∃ σ', h' = z_G h σ' ρ ∧ z_cs σ' (out ++ z_sq (σ 7) a b false (e - a)) ∧ z_eq σ' σ) := by
  refine z_M.of ⟨Nat.le_of_ble_eq_true rfl, by simp [Value.category]⟩ (L := [some (.ref 4), some (.int (nI a)), some (.int (nI e)), some (.int (z_bi b)), none, none, none, none]) rfl ?_
  refine e_iload k55_0 (q := 1) rfl rfl ?_
  refine e_ist k55_1 (q := 3) (L' := [_, _, _, _, _, _, _, _]) rfl rfl rfl ?_
  refine e_const k55_3 (q := 4) rfl ?_
  refine e_ist k55_4 (q := 6) (L' := [_, _, _, _, _, _, _, _]) rfl rfl rfl ?_
  refine e_iload k55_6 (q := 7) rfl rfl ?_
  refine e_ist k55_7 (q := 9) (L' := [_, _, _, _, _, _, _, _]) rfl rfl rfl ?_
  refine l_squeeze hb (e - a) a b false σ out _ (by omega) hT hC (fun σ1 b1 g1 y1 h1 e1 => ?_)
  refine e_vret k55_91 ?_
  exact ⟨_, rfl, σ1, rfl, h1, e1⟩
