/-! The model writes lines one behind the other: a plain field, the body. -/
def z_pls (t : Nat → Int32) : List (Nat × Nat) → List Int32
  | [] => []
  | x :: r => (z_sl t x.1 (x.2 - x.1) ++ [10]) ++ z_pls t r
def z_qls (t : Nat → Int32) : List (Nat × Nat) → List Int32
  | [] => []
  | x :: r => (z_sq t x.1 false false (x.2 - x.1) ++ [10]) ++ z_qls t r
def z_tl : List (Nat × Nat) → Nat
  | [] => 0
  | x :: r => (x.2 - x.1 + 1) + z_tl r
theorem z_tl_app : ∀ (A B : List (Nat × Nat)), z_tl (A ++ B) = z_tl A + z_tl B
  | [], B => by rw [List.nil_append, z_tl, Nat.zero_add]
  | x :: r, B => by
    rw [List.cons_append, z_tl, z_tl, z_tl_app r B]
    omega
theorem z_lc_tl {t : Nat → Int32} {n : Nat} : ∀ {s : Nat} {A : List (Nat × Nat)}, z_lc t n s A → s ≤ n → z_tl A + s ≤ n + 1
  | s, [], h, hs => by rw [z_tl]; omega
  | s, x :: r, h, hs => by
    obtain ⟨h1, h2, h3, h4⟩ := h
    rw [z_tl]
    rcases h4 with ⟨h5, h6, h7⟩ | ⟨h5, h6, rfl⟩
    · have := z_lc_tl h7 (by omega)
      omega
    · rw [z_tl]; omega
theorem z_take_succ {A : List (Nat × Nat)} {k m : Nat} (h : k < A.length) : (A.drop k).take (m + 1) = A.getD k (0, 0) :: (A.drop (k + 1)).take m := by
  rw [List.drop_eq_getElem_cons h, List.take_succ_cons, List.getD_eq_getElem?_getD, List.getElem?_eq_getElem h]
  rfl
theorem z_la.ep {σ' σ : Nat → Nat → Int32} {A : List (Nat × Nat)} (h : z_la σ A) (e : z_ep σ' σ) : z_la σ' A := by
  refine ⟨(e.2 33 (by decide)).trans h.1, fun k hk => ?_⟩
  rw [e.1 45 (by decide) (by decide), e.1 46 (by decide) (by decide)]
  exact h.2 k hk
theorem z_getD_mem {A : List (Nat × Nat)} {k : Nat} (h : k < A.length) : A.getD k (0, 0) ∈ A := by
  rw [List.getD_eq_getElem?_getD, List.getElem?_eq_getElem h]
  exact List.getElem_mem h
theorem l_writeField {d : Nat} {h : zH} {ρ : Nat → Nat → Option Nat} {P : zH → Prop} {f k2 : Nat} {x2 : Option Value} {A : List (Nat × Nat)} (hf : f < 12) (hA : A.length ≤ 241) (hk2 : k2 < A.length) (hbd : ∀ x ∈ A, x.1 ≤ x.2 ∧ x.2 ≤ 240) : ∀ (m k : Nat) (σ : Nat → Nat → Int32) (out : List Int32), k + m = k2 + 1 → σ 48 f = nI k2 → z_la σ A → z_pg σ out → out.length + z_tl ((A.drop k).take m) ≤ 499 →
    (∀ σ', z_pg σ' (out ++ z_pls (σ 39) ((A.drop k).take m)) → z_ep σ' σ → P (z_G h σ' ρ)) →
    z_E (d + 2) 106 17 [some (.ref 18), some (.int (nI f)), x2, some (.int (nI k))] [] (z_G h σ ρ) (z_qv P)
  | 0, k, σ, out, hk, h48, hL, hP, hl, kk => by
    have hin : vp_in (nI f) 12 := vp_in_nI hf (by decide)
    have hcl : (nI f).toNatClampNeg = f := nI_clamp (by omega)
    refine e_iload k106_17 (q := 18) rfl rfl ?_
    refine e_aload k106_18 (q := 19) rfl rfl ?_
    refine g_get k106_19 (q := 22) rfl rfl rfl ?_
    refine e_iload k106_22 (q := 23) rfl rfl ?_
    refine g_ald k106_23 (q := 24) rfl rfl (by assumption) ?_
    rw [hcl, h48]
    refine e_ic k106_24 (q := 27) rfl (fun c24 => ?_) (fun c24 => absurd (nI_lt (show k2 < k by omega) (by omega)) c24)
    refine e_vret k106_38 ?_
    exact ⟨_, rfl, kk σ (hP.eq (by rw [List.take_zero, z_pls, List.append_nil])) z_ep.rf⟩
  | m + 1, k, σ, out, hk, h48, hL, hP, hl, kk => by
    have hin : vp_in (nI f) 12 := vp_in_nI hf (by decide)
    have hcl : (nI f).toNatClampNeg = f := nI_clamp (by omega)
    have hkl : k < A.length := by omega
    obtain ⟨l1, l2⟩ := hL.2 k hkl
    obtain ⟨b1, b2⟩ := hbd _ (z_getD_mem hkl)
    rw [z_take_succ hkl, z_tl] at hl
    refine e_iload k106_17 (q := 18) rfl rfl ?_
    refine e_aload k106_18 (q := 19) rfl rfl ?_
    refine g_get k106_19 (q := 22) rfl rfl rfl ?_
    refine e_iload k106_22 (q := 23) rfl rfl ?_
    refine g_ald k106_23 (q := 24) rfl rfl (by assumption) ?_
    rw [hcl, h48]
    refine e_ic k106_24 (q := 27) rfl (fun c24 => absurd c24 (nI_nlt (show k ≤ k2 by omega) (by omega))) (fun c24 => ?_)
    refine e_aload k106_27 (q := 28) rfl rfl ?_
    refine e_iload k106_28 (q := 29) rfl rfl ?_
    refine g_cv k106_29 (q := 32) (as := [_]) rfl rfl rfl rfl (m_plainLine (show k < 241 by omega) l1 l2 b1 b2 hP (by omega)) rfl (z_kv fun h29 p29 => ?_)
    obtain ⟨σ1, rfl, hP1, e1⟩ := p29
    refine e_iinc k106_32 (q := 35) (L' := [_, _, _, some (.int (nI (k + 1)))]) rfl rfl (by rw [nI_1]; rfl) ?_
    refine e_goto k106_35 ?_
    refine l_writeField hf hA hk2 hbd m (k + 1) σ1 _ (by omega) (by rw [e1.1 48 (by decide) (by decide)]; exact h48) (hL.ep e1) hP1 (by rw [List.length_append, List.length_append, z_sll]; show out.length + (_ + 1) + _ ≤ 499; omega) (fun σ2 h2 e2 => kk σ2 (h2.eq ?_) (e2.tr e1))
    rw [e1.1 39 (by decide) (by decide), z_take_succ hkl, z_pls, List.append_assoc]
/-- consecutive lines -/
theorem z_sl_add (t : Nat → Int32) : ∀ (m1 a m2 : Nat), z_sl t a (m1 + m2) = z_sl t a m1 ++ z_sl t (a + m1) m2
  | 0, a, m2 => by rw [Nat.zero_add]; rfl
  | m1 + 1, a, m2 => by
    rw [show m1 + 1 + m2 = (m1 + m2) + 1 by omega, z_sl, z_sl, z_sl_add t m1 (a + 1) m2, show a + 1 + m1 = a + (m1 + 1) by omega]
    rfl
theorem z_lc_next {t : Nat → Int32} {n : Nat} : ∀ {s : Nat} {A : List (Nat × Nat)} (k : Nat), z_lc t n s A → k + 1 < A.length → (A.getD (k + 1) (0, 0)).1 = (A.getD k (0, 0)).2 + 1 ∧ t (A.getD k (0, 0)).2 = 10
  | s, [], k, _, hk => absurd hk (Nat.not_lt_zero _)
  | s, x :: r, 0, h, hk => by
    obtain ⟨h1, h2, h3, h4⟩ := h
    rcases h4 with ⟨h5, h6, h7⟩ | ⟨h5, h6, rfl⟩
    · cases r with
      | nil => exact absurd hk (by show ¬ 0 + 1 < 1; omega)
      | cons y r => exact ⟨h7.1, h6⟩
    · exact absurd hk (by show ¬ 0 + 1 < 1; omega)
  | s, x :: r, k + 1, h, hk => by
    obtain ⟨h1, h2, h3, h4⟩ := h
    rw [List.length_cons] at hk
    rcases h4 with ⟨h5, h6, h7⟩ | ⟨h5, h6, rfl⟩
    · rw [List.getD_cons_succ, List.getD_cons_succ]
      exact z_lc_next k h7 (by omega)
    · exact absurd hk (by show ¬ k + 1 + 1 < 0 + 1; omega)
theorem z_pls_lines {t : Nat → Int32} {n s : Nat} {A : List (Nat × Nat)} (h : z_lc t n s A) (hs : s ≤ n) : ∀ (m k : Nat), k + m < A.length → z_pls t ((A.drop k).take (m + 1)) = z_sl t (A.getD k (0, 0)).1 ((A.getD (k + m) (0, 0)).2 - (A.getD k (0, 0)).1) ++ [10] ∧ (A.getD k (0, 0)).1 ≤ (A.getD (k + m) (0, 0)).2
  | 0, k, hk => by
    rw [z_take_succ (by omega), List.take_zero, z_pls, z_pls, List.append_nil, Nat.add_zero]
    exact ⟨rfl, (h.bd hs _ (z_getD_mem (by omega))).2.1⟩
  | m + 1, k, hk => by
    obtain ⟨i1, i2⟩ := z_pls_lines h hs m (k + 1) (by omega)
    obtain ⟨n1, n2⟩ := z_lc_next k h (by omega)
    have hb := (h.bd hs _ (z_getD_mem (show k < A.length by omega))).2.1
    rw [z_take_succ (by omega), z_pls, i1, show k + (m + 1) = k + 1 + m by omega]
    rw [n1] at i2 ⊢
    refine ⟨?_, by omega⟩
    generalize (A.getD (k + 1 + m) (0, 0)).2 = e at i2 ⊢
    generalize A.getD k (0, 0) = x at hb n2 i2 ⊢
    rw [show e - x.1 = (x.2 - x.1) + (1 + (e - (x.2 + 1))) by omega, z_sl_add, z_sl_add, show x.1 + (x.2 - x.1) = x.2 by omega]
    rw [show z_sl t x.2 1 = [10] by show [t x.2] = [10]; rw [n2]]
    simp
theorem m_writeField {d : Nat} {h : zH} {ρ : Nat → Nat → Option Nat} {σ : Nat → Nat → Int32} {n f k1 k2 : Nat} {x : Nat × Nat × Nat} {A : List (Nat × Nat)} {out : List Int32} (rf : Bool) (hf : f < 12) (hn : n ≤ 240) (hA : A.length ≤ 241) (hlc : z_lc (σ 39) n 0 A) (hL : z_la σ A) (h47 : σ 47 f = nI k1) (h48 : σ 48 f = nI k2) (h12 : k1 ≤ k2) (hk2 : k2 < A.length) (h49 : σ 49 f = nI (x.2.1 - x.1)) (h45 : (A.getD k1 (0, 0)).1 = x.1) (h46 : (A.getD k2 (0, 0)).2 = x.2.2) (hx : x.1 < x.2.1 ∧ x.2.1 < x.2.2 ∧ x.2.2 ≤ n) (hP : z_pg σ out) (hl : out.length + (x.2.2 - x.1) + 1 ≤ 499) : z_M (d + 3) 106 [.ref 18, .int (nI f), .int (z_bi rf)] (z_G h σ ρ) (z_qv fun h' => ∃ σ', h' = z_G h σ' ρ ∧ z_pg σ' (out ++ z_fo (σ 39) rf x) ∧ z_ep σ' σ) := by
  refine z_M.of ⟨Nat.le_of_ble_eq_true rfl, by simp [Value.category]⟩ (L := [some (.ref 18), some (.int (nI f)), some (.int (z_bi rf)), none]) rfl ?_
  have hin : vp_in (nI f) 12 := vp_in_nI hf (by decide)
  have hcl : (nI f).toNatClampNeg = f := nI_clamp (by omega)
  obtain ⟨b1, b2, b3⟩ := hx
  refine e_iload k106_0 (q := 1) rfl rfl ?_
  refine e_if k106_1 (q := 4) rfl (fun c1 => ?_) (fun c1 => ?_)
  · obtain rfl : rf = false := by
      cases rf with
      | false => rfl
      | true => exact absurd c1 (by decide)
    refine e_aload k106_10 (q := 11) rfl rfl ?_
    refine g_get k106_11 (q := 14) rfl rfl rfl ?_
    refine e_iload k106_14 (q := 15) rfl rfl ?_
    refine g_ald k106_15 (q := 16) rfl rfl (by assumption) ?_
    rw [hcl, h47]
    refine e_ist k106_16 (q := 17) (L' := [_, _, _, _]) rfl rfl rfl ?_
    obtain ⟨i1, i2⟩ := z_pls_lines hlc (Nat.zero_le _) (k2 - k1) k1 (by omega)
    rw [show k1 + (k2 - k1) = k2 by omega, h45, h46] at i1
    have hbd := hlc.bd (Nat.zero_le _)
    have ht : ∀ (B : List (Nat × Nat)), (z_pls (σ 39) B).length = z_tl B := by
      intro B
      induction B with
      | nil => rfl
      | cons y r ih => rw [z_pls, z_tl, List.length_append, List.length_append, z_sll, ih]; rfl
    have hlen := ht ((A.drop k1).take (k2 - k1 + 1))
    rw [i1, List.length_append, z_sll] at hlen
    have hlen : x.2.2 - x.1 + 1 = z_tl ((A.drop k1).take (k2 - k1 + 1)) := hlen
    refine l_writeField hf hA hk2 (fun y hy => by have := hbd y hy; omega) (k2 - k1 + 1) k1 σ out (by omega) h48 hL hP (by omega) (fun σ1 hP1 e1 => ⟨σ1, rfl, hP1.eq ?_, e1⟩)
    rw [i1, z_fo, if_neg (by decide)]
  · obtain rfl : rf = true := by
      cases rf with
      | true => rfl
      | false => exact absurd rfl c1
    refine e_aload k106_4 (q := 5) rfl rfl ?_
    refine e_iload k106_5 (q := 6) rfl rfl ?_
    refine g_cv k106_6 (q := 9) (as := [_]) rfl rfl rfl rfl (m_relaxedField hf (show k1 < 241 by omega) (show k2 < 241 by omega) h47 h48 h49 (by rw [(hL.2 k1 (by omega)).1, h45]) (by rw [(hL.2 k2 hk2).2, h46]) ⟨b1, b2, by omega⟩ hP (by omega)) rfl (z_kv fun h6 p6 => ?_)
    obtain ⟨σ1, rfl, hP1, e1⟩ := p6
    refine e_vret k106_9 ?_
    exact ⟨_, rfl, σ1, rfl, hP1, e1⟩
/-- the lines before the last that p says no of -/
def z_en (p : Nat → Bool) (lo : Nat) : Nat → Nat
  | 0 => 0
  | e + 1 => if lo < e + 1 ∧ p e = true then z_en p lo e else e + 1
theorem z_en_le (p : Nat → Bool) (lo : Nat) : ∀ e, z_en p lo e ≤ e
  | 0 => Nat.le_refl _
  | e + 1 => by
    rw [z_en]
    split
    · have := z_en_le p lo e
      omega
    · exact Nat.le_refl _
def z_bp (t : Nat → Int32) (A : List (Nat × Nat)) (rb : Bool) (k : Nat) : Bool := if rb = true then z_bk t (A.getD k (0, 0)).1 ((A.getD k (0, 0)).2 - (A.getD k (0, 0)).1) else decide ((A.getD k (0, 0)).1 = (A.getD k (0, 0)).2)
theorem l_bodyEnd {d : Nat} {h : zH} {ρ : Nat → Nat → Option Nat} {σ : Nat → Nat → Int32} {Q : zR → Prop} {A : List (Nat × Nat)} {he : Nat} {rb : Bool} {x3 : Option Value} (hA : A.length ≤ 241) (hbd : ∀ x ∈ A, x.1 ≤ x.2 ∧ x.2 ≤ 240) (hL : z_la σ A) (hH : σ 18 36 = nI he) (hhe : he ≤ 241) : ∀ (e : Nat), e ≤ A.length →
    z_E (d + 1) 103 57 [some (.ref 18), some (.int (z_bi rb)), some (.int (nI (z_en (z_bp (σ 39) A rb) (he + 1) e))), x3] [] (z_G h σ ρ) Q →
    z_E (d + 1) 103 5 [some (.ref 18), some (.int (z_bi rb)), some (.int (nI e)), x3] [] (z_G h σ ρ) Q
  | 0, hl, kk => by
    refine e_iload k103_5 (q := 6) rfl rfl ?_
    refine e_aload k103_6 (q := 7) rfl rfl ?_
    refine g_get k103_7 (q := 10) rfl rfl rfl ?_
    refine e_const k103_10 (q := 11) rfl ?_
    refine e_ib k103_11 (q := 12) rfl ?_
    refine e_ic k103_12 (q := 15) rfl (fun c12 => ?_) (fun c12 => absurd (by show nI 0 ≤ σ 18 36 + 1; rw [hH, nI_1]; exact nI_le (by omega) (by omega)) c12)
    exact kk
  | e + 1, hl, kk => by
    have hel : e < A.length := by omega
    obtain ⟨l1, l2⟩ := hL.2 e hel
    obtain ⟨b1, b2⟩ := hbd _ (z_getD_mem hel)
    have hin : vp_in (nI e) 241 := vp_in_nI (by omega) (by decide)
    have hcl : (nI e).toNatClampNeg = e := nI_clamp (by omega)
    refine e_iload k103_5 (q := 6) rfl rfl ?_
    refine e_aload k103_6 (q := 7) rfl rfl ?_
    refine g_get k103_7 (q := 10) rfl rfl rfl ?_
    refine e_const k103_10 (q := 11) rfl ?_
    refine e_ib k103_11 (q := 12) rfl ?_
    refine e_ic k103_12 (q := 15) rfl (fun c12 => ?_) (fun c12 => ?_)
    · rw [z_en, if_neg (fun z => by
        have c : nI (e + 1) ≤ σ 18 36 + 1 := c12
        rw [hH, nI_1] at c
        have := (nI_leI (by omega) (by omega)).mp c
        omega)] at kk
      exact kk
    · have hlo : he + 1 < e + 1 := by
        rcases Nat.lt_or_ge (he + 1) (e + 1) with z | z
        · exact z
        · exact absurd (show nI (e + 1) ≤ σ 18 36 + 1 by rw [hH, nI_1]; exact nI_le z (by omega)) c12
      refine e_iload k103_15 (q := 16) rfl rfl ?_
      refine e_if k103_16 (q := 19) rfl (fun c16 => ?_) (fun c16 => ?_)
      · obtain rfl : rb = false := by
          cases rb with
          | false => rfl
          | true => exact absurd c16 (by decide)
        refine e_aload k103_32 (q := 33) rfl rfl ?_
        refine g_get k103_33 (q := 36) rfl rfl rfl ?_
        refine e_iload k103_36 (q := 37) rfl rfl ?_
        refine e_const k103_37 (q := 38) rfl ?_
        refine e_ib k103_38 (q := 39) rfl ?_
        rw [nI_pred]
        refine g_ald k103_39 (q := 40) rfl rfl hin ?_
        refine e_aload k103_40 (q := 41) rfl rfl ?_
        refine g_get k103_41 (q := 44) rfl rfl rfl ?_
        refine e_iload k103_44 (q := 45) rfl rfl ?_
        refine e_const k103_45 (q := 46) rfl ?_
        refine e_ib k103_46 (q := 47) rfl ?_
        rw [nI_pred]
        refine g_ald k103_47 (q := 48) rfl rfl hin ?_
        rw [hcl, l1, l2]
        refine e_ic k103_48 (q := 51) rfl (fun c48 => ?_) (fun c48 => ?_)
        · rw [z_en, if_neg (fun z => by
            have z2 := z.2
            rw [z_bp, if_neg (by decide)] at z2
            exact c48 (by rw [of_decide_eq_true z2]))] at kk
          exact kk
        · refine e_iinc k103_51 (q := 54) (L' := [_, _, some (.int (nI e)), _]) rfl rfl (by rw [show nI (e + 1) + -1 = nI e by rw [← Int32.sub_eq_add_neg]; exact nI_pred e]; rfl) ?_
          refine e_goto k103_54 ?_
          rw [z_en, if_pos ⟨hlo, by
            rw [z_bp, if_neg (by decide)]
            exact decide_eq_true ((nI_eq (by omega) (by omega)).mp (Classical.not_not.mp c48))⟩] at kk
          exact l_bodyEnd hA hbd hL hH hhe e (by omega) kk
      · obtain rfl : rb = true := by
          cases rb with
          | true => rfl
          | false => exact absurd rfl c16
        refine e_aload k103_19 (q := 20) rfl rfl ?_
        refine e_iload k103_20 (q := 21) rfl rfl ?_
        refine e_const k103_21 (q := 22) rfl ?_
        refine e_ib k103_22 (q := 23) rfl ?_
        rw [nI_pred]
        refine g_cv k103_23 (q := 26) (as := [_]) rfl rfl rfl rfl (m_blank (show e < 241 by omega) l1 l2 b1 b2) rfl (z_ki fun x23 h23 p23 => ?_)
        obtain ⟨rfl, rfl⟩ := p23
        refine e_if k103_26 (q := 29) rfl (fun c26 => ?_) (fun c26 => ?_)
        · rw [z_en, if_neg (fun z => by
            have z2 := z.2
            rw [z_bp, if_pos rfl] at z2
            rw [z2] at c26
            exact absurd c26 (by decide))] at kk
          exact kk
        · refine e_goto k103_29 ?_
          refine e_iinc k103_51 (q := 54) (L' := [_, _, some (.int (nI e)), _]) rfl rfl (by rw [show nI (e + 1) + -1 = nI e by rw [← Int32.sub_eq_add_neg]; exact nI_pred e]; rfl) ?_
          refine e_goto k103_54 ?_
          rw [z_en, if_pos ⟨hlo, by
            rw [z_bp, if_pos rfl]
            cases hz : z_bk (σ 39) (A.getD e (0, 0)).1 ((A.getD e (0, 0)).2 - (A.getD e (0, 0)).1) with
            | true => rfl
            | false => rw [hz] at c26; exact absurd rfl c26⟩] at kk
          exact l_bodyEnd hA hbd hL hH hhe e (by omega) kk
def z_bl (t : Nat → Int32) (rb : Bool) (B : List (Nat × Nat)) : List Int32 := if rb = true then z_qls t B else z_pls t B
theorem l_bodyLines {d : Nat} {h : zH} {ρ : Nat → Nat → Option Nat} {Q : zR → Prop} {n e : Nat} {A : List (Nat × Nat)} {rb : Bool} (hA : A.length ≤ 241) (hn : n ≤ 240) (hbd : ∀ x ∈ A, x.1 ≤ x.2 ∧ x.2 ≤ 240) (he : e ≤ A.length) : ∀ (m k : Nat) (σ : Nat → Nat → Int32) (out : List Int32), (m = 0 → e ≤ k) → (0 < m → k + m = e) → k ≤ 300 → (∀ x ∈ A, ∀ j, x.1 ≤ j → j < x.2 → ¬ σ 39 j = 10) → z_la σ A → z_pg σ out → out.length + z_tl ((A.drop k).take m) ≤ 499 →
    (∀ σ' k', z_pg σ' (out ++ z_bl (σ 39) rb ((A.drop k).take m)) → z_ep σ' σ → z_E (d + 2) 103 92 [some (.ref 18), some (.int (z_bi rb)), some (.int (nI e)), some (.int (nI k'))] [] (z_G h σ' ρ) Q) →
    z_E (d + 2) 103 64 [some (.ref 18), some (.int (z_bi rb)), some (.int (nI e)), some (.int (nI k))] [] (z_G h σ ρ) Q
  | 0, k, σ, out, hm0, hm, hk, hno, hL, hP, hl, kk => by
    have hke := hm0 rfl
    refine e_iload k103_64 (q := 65) rfl rfl ?_
    refine e_iload k103_65 (q := 66) rfl rfl ?_
    refine e_ic k103_66 (q := 69) rfl (fun c66 => ?_) (fun c66 => absurd (nI_le hke (by omega)) c66)
    refine kk σ k (hP.eq ?_) z_ep.rf
    rw [List.take_zero, z_bl]
    split <;> exact (List.append_nil _).symm
  | m + 1, k, σ, out, hm0, hm, hk, hno, hL, hP, hl, kk => by
    have hke := hm (Nat.succ_pos _)
    have hkl : k < A.length := by omega
    obtain ⟨l1, l2⟩ := hL.2 k hkl
    obtain ⟨b1, b2⟩ := hbd _ (z_getD_mem hkl)
    have hnk := hno _ (z_getD_mem hkl)
    rw [z_take_succ hkl, z_tl] at hl
    refine e_iload k103_64 (q := 65) rfl rfl ?_
    refine e_iload k103_65 (q := 66) rfl rfl ?_
    refine e_ic k103_66 (q := 69) rfl (fun c66 => absurd c66 (nI_ge (show k < e by omega) (by omega))) (fun c66 => ?_)
    refine e_iload k103_69 (q := 70) rfl rfl ?_
    refine e_if k103_70 (q := 73) rfl (fun c70 => ?_) (fun c70 => ?_)
    · obtain rfl : rb = false := by
        cases rb with
        | false => rfl
        | true => exact absurd c70 (by decide)
      refine e_aload k103_81 (q := 82) rfl rfl ?_
      refine e_iload k103_82 (q := 83) rfl rfl ?_
      refine g_cv k103_83 (q := 86) (as := [_]) rfl rfl rfl rfl (m_plainLine (show k < 241 by omega) l1 l2 b1 b2 hP (by omega)) rfl (z_kv fun h83 p83 => ?_)
      obtain ⟨σ1, rfl, hP1, e1⟩ := p83
      refine e_iinc k103_86 (q := 89) (L' := [_, _, _, some (.int (nI (k + 1)))]) rfl rfl (by rw [nI_1]; rfl) ?_
      refine e_goto k103_89 ?_
      have := z_sll (σ 39) ((A.getD k (0, 0)).2 - (A.getD k (0, 0)).1) (A.getD k (0, 0)).1
      refine l_bodyLines hA hn hbd he m (k + 1) σ1 _ (by omega) (by omega) (by omega) (by rw [e1.1 39 (by decide) (by decide)]; exact hno) (hL.ep e1) hP1 (by rw [List.length_append, List.length_append]; show out.length + (_ + 1) + _ ≤ 499; omega) (fun σ2 k' h2 e2 => kk σ2 k' (h2.eq ?_) (e2.tr e1))
      rw [e1.1 39 (by decide) (by decide), z_take_succ hkl, z_bl, z_bl, if_neg (by decide), if_neg (by decide), z_pls, List.append_assoc]
    · obtain rfl : rb = true := by
        cases rb with
        | true => rfl
        | false => exact absurd rfl c70
      refine e_aload k103_73 (q := 74) rfl rfl ?_
      refine e_iload k103_74 (q := 75) rfl rfl ?_
      refine g_cv k103_75 (q := 78) (as := [_]) rfl rfl rfl rfl (m_relaxedLine (show k < 241 by omega) l1 l2 b1 b2 hnk hP (by omega)) rfl (z_kv fun h75 p75 => ?_)
      obtain ⟨σ1, rfl, hP1, e1⟩ := p75
      refine e_goto k103_78 ?_
      refine e_iinc k103_86 (q := 89) (L' := [_, _, _, some (.int (nI (k + 1)))]) rfl rfl (by rw [nI_1]; rfl) ?_
      refine e_goto k103_89 ?_
      have := z_sq_len (σ 39) ((A.getD k (0, 0)).2 - (A.getD k (0, 0)).1) (A.getD k (0, 0)).1 false false
      rw [if_neg (by decide)] at this
      refine l_bodyLines hA hn hbd he m (k + 1) σ1 _ (by omega) (by omega) (by omega) (by rw [e1.1 39 (by decide) (by decide)]; exact hno) (hL.ep e1) hP1 (by rw [List.length_append, List.length_append]; show out.length + (_ + 1) + _ ≤ 499; omega) (fun σ2 k' h2 e2 => kk σ2 k' (h2.eq ?_) (e2.tr e1))
      rw [e1.1 39 (by decide) (by decide), z_take_succ hkl, z_bl, z_bl, if_pos rfl, if_pos rfl, z_qls, List.append_assoc]
/-- what the model writes of the body -/
def z_mb (t : Nat → Int32) (A : List (Nat × Nat)) (rb : Bool) : List Int32 := z_bl t rb ((A.drop (z_he A + 1)).take (z_en (z_bp t A rb) (z_he A + 1) A.length - (z_he A + 1))) ++ (if rb = false ∧ z_en (z_bp t A rb) (z_he A + 1) A.length ≤ z_he A + 1 then [10] else [])
theorem z_lc_no {t : Nat → Int32} {n : Nat} : ∀ {s : Nat} {A : List (Nat × Nat)}, z_lc t n s A → ∀ x ∈ A, ∀ j, x.1 ≤ j → j < x.2 → ¬ t j = 10
  | s, [], _, x, hx => by cases hx
  | s, y :: r, h, x, hx => by
    obtain ⟨h1, h2, h3, h4⟩ := h
    rcases List.mem_cons.mp hx with rfl | hx
    · exact h3
    · rcases h4 with ⟨_, _, h7⟩ | ⟨_, _, rfl⟩
      · exact z_lc_no h7 x hx
      · cases hx
theorem z_tl_drop : ∀ (A : List (Nat × Nat)) (k m : Nat), z_tl ((A.drop k).take m) ≤ z_tl A := by
  intro A k m
  have h1 := z_tl_app (A.take k) (A.drop k)
  have h2 := z_tl_app ((A.drop k).take m) ((A.drop k).drop m)
  rw [List.take_append_drop] at h1 h2
  omega
theorem z_bl_len (t : Nat → Int32) (rb : Bool) : ∀ (B : List (Nat × Nat)), (z_bl t rb B).length ≤ z_tl B := by
  intro B
  unfold z_bl
  induction B with
  | nil => split <;> exact Nat.le_refl _
  | cons x r ih =>
    split
    · rename_i hrb
      rw [if_pos hrb] at ih
      have := z_sq_len t (x.2 - x.1) x.1 false false
      rw [if_neg (by decide)] at this
      rw [z_qls, z_tl, List.length_append, List.length_append]
      show _ + 1 + _ ≤ _
      omega
    · rename_i hrb
      rw [if_neg hrb] at ih
      rw [z_pls, z_tl, List.length_append, List.length_append, z_sll]
      show _ + 1 + _ ≤ _
      omega
theorem m_body {d : Nat} {h : zH} {ρ : Nat → Nat → Option Nat} {σ : Nat → Nat → Int32} {n : Nat} {A : List (Nat × Nat)} {out : List Int32} (rb : Bool) (hn : n ≤ 240) (hA : A.length ≤ 241) (hlc : z_lc (σ 39) n 0 A) (hL : z_la σ A) (hH : σ 18 36 = nI (z_he A)) (hP : z_pg σ out) (hl : out.length ≤ 250) : z_M (d + 3) 103 [.ref 18, .int (z_bi rb)] (z_G h σ ρ) (z_qv fun h' => ∃ σ', h' = z_G h σ' ρ ∧ z_pg σ' (out ++ z_mb (σ 39) A rb) ∧ z_ep σ' σ) := by
  refine z_M.of ⟨Nat.le_of_ble_eq_true rfl, by simp [Value.category]⟩ (L := [some (.ref 18), some (.int (z_bi rb)), none, none]) rfl ?_
  have hbd0 := hlc.bd (Nat.zero_le _)
  have hbd : ∀ x ∈ A, x.1 ≤ x.2 ∧ x.2 ≤ 240 := fun x hx => by have := hbd0 x hx; omega
  have hhe := z_he_le A
  have htl := z_lc_tl hlc (Nat.zero_le _)
  refine e_aload k103_0 (q := 1) rfl rfl ?_
  refine g_get k103_1 (q := 4) rfl rfl rfl ?_
  rw [hL.1]
  refine e_ist k103_4 (q := 5) (L' := [_, _, _, _]) rfl rfl rfl ?_
  refine l_bodyEnd hA hbd hL hH (by omega) A.length (Nat.le_refl _) ?_
  have hen := z_en_le (z_bp (σ 39) A rb) (z_he A + 1) A.length
  have htd := z_tl_drop A (z_he A + 1) (z_en (z_bp (σ 39) A rb) (z_he A + 1) A.length - (z_he A + 1))
  have hbll := z_bl_len (σ 39) rb ((A.drop (z_he A + 1)).take (z_en (z_bp (σ 39) A rb) (z_he A + 1) A.length - (z_he A + 1)))
  unfold z_mb
  generalize z_en (z_bp (σ 39) A rb) (z_he A + 1) A.length = e at hen htd hbll ⊢
  refine e_aload k103_57 (q := 58) rfl rfl ?_
  refine g_get k103_58 (q := 61) rfl rfl rfl ?_
  refine e_const k103_61 (q := 62) rfl ?_
  refine e_ib k103_62 (q := 63) rfl ?_
  rw [hH, nI_1]
  refine e_ist k103_63 (q := 64) (L' := [_, _, _, _]) rfl rfl rfl ?_
  refine l_bodyLines hA hn hbd hen (e - (z_he A + 1)) (z_he A + 1) σ out (by omega) (by omega) (by omega) (z_lc_no hlc) hL hP (by omega) (fun σ1 k1 hP1 e1 => ?_)
  refine e_iload k103_92 (q := 93) rfl rfl ?_
  refine e_if k103_93 (q := 96) rfl (fun c93 => ?_) (fun c93 => ?_)
  · refine e_vret k103_112 ?_
    refine ⟨_, rfl, σ1, rfl, hP1.eq ?_, e1⟩
    rw [if_neg (fun z => by rw [z.1] at c93; exact c93 rfl), List.append_nil]
  · refine e_iload k103_96 (q := 97) rfl rfl ?_
    refine e_aload k103_97 (q := 98) rfl rfl ?_
    refine g_get k103_98 (q := 101) rfl rfl rfl ?_
    refine e_const k103_101 (q := 102) rfl ?_
    refine e_ib k103_102 (q := 103) rfl ?_
    refine e_ic k103_103 (q := 106) rfl (fun c103 => ?_) (fun c103 => ?_)
    · refine e_vret k103_112 ?_
      refine ⟨_, rfl, σ1, rfl, hP1.eq ?_, e1⟩
      rw [if_neg (fun z => nI_ge (show z_he A + 1 < e from (nI_ltI (by omega) (by omega)).mp (by have c : σ1 18 36 + 1 < nI e := c103; rw [e1.2 36 (by decide), hH, nI_1] at c; exact c)) (by omega) (nI_le z.2 (by omega))), List.append_nil]
    · refine e_aload k103_106 (q := 107) rfl rfl ?_
      refine e_const k103_107 (q := 109) rfl ?_
      refine g_cv k103_109 (q := 112) (as := [_]) rfl rfl rfl rfl (m_put hP1 (by rw [List.length_append]; omega) 10) rfl (z_kv fun h109 p109 => ?_)
      obtain ⟨σ2, rfl, hP2, e2⟩ := p109
      refine e_vret k103_112 ?_
      have hle : e ≤ z_he A + 1 := by
        rcases Nat.lt_or_ge (z_he A + 1) e with z | z
        · exact absurd (show σ1 18 36 + 1 < nI e by rw [e1.2 36 (by decide), hH, nI_1]; exact nI_lt z (by omega)) c103
        · exact z
      have hrb : rb = false := by cases rb with
        | false => rfl
        | true => exact absurd (by decide) c93
      refine ⟨_, rfl, σ2, rfl, hP2.eq ?_, e2.tr e1⟩
      rw [if_pos ⟨hrb, hle⟩, List.append_assoc]
