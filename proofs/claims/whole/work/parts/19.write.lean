/-! The canonical form as a list; its length; the class writes it. -/
/-- the fields (newest first) stand one before the other, the newest ends before place s -/
def z_cn : List (Nat × Nat × Nat) → Nat → Prop
  | [], _ => True
  | x :: r, s => x.1 < x.2.1 ∧ x.2.1 < x.2.2 ∧ x.2.2 + 1 ≤ s ∧ z_cn r x.1
theorem z_cn.le : ∀ {F : List (Nat × Nat × Nat)} {s s' : Nat}, z_cn F s → s ≤ s' → z_cn F s'
  | [], _, _, _, _ => trivial
  | x :: r, s, s', h, hs => ⟨h.1, h.2.1, Nat.le_trans h.2.2.1 hs, h.2.2.2⟩
theorem z_cn.fb : ∀ {F : List (Nat × Nat × Nat)} {s n : Nat}, z_cn F s → s ≤ n + 1 → z_fb n F
  | [], _, _, _, _ => fun x hx => by cases hx
  | x :: r, s, n, h, hs => fun y hy => by
    obtain ⟨h1, h2, h3, h4⟩ := h
    rcases List.mem_cons.mp hy with rfl | hy
    · exact ⟨h1, h2, by omega⟩
    · exact z_cn.fb h4 (by omega) y hy
theorem z_rl_cn {t : Nat → Int32} {a b : Nat} {F F' : List (Nat × Nat × Nat)} (h : z_cn F a) (hab : a < b) (e : z_rl t a b F = some F') : z_cn F' (b + 1) := by
  unfold z_rl at e
  split at e
  · split at e
    · cases e
    · rename_i x r
      cases e
      obtain ⟨h1, h2, h3, h4⟩ := h
      exact ⟨h1, by show x.2.1 < b; omega, Nat.le_refl _, h4⟩
  · split at e
    · rename_i hc
      cases e
      exact ⟨hc.1.1, hc.1.2.1, Nat.le_refl _, h⟩
    · cases e
theorem z_rd_cn {t : Nat → Int32} {n : Nat} : ∀ (m i s : Nat) (F F' : List (Nat × Nat × Nat)) (bs : Nat), i + m = n → s ≤ i → z_cn F s → z_rd t n (z_ln t m i s) F = some (F', bs) → (1 ≤ bs ∧ bs ≤ n ∧ z_cn F' (bs - 1)) ∨ (bs = n ∧ z_cn F' (n + 1))
  | 0, i, s, F, F', bs, hi, hs, h, e => by
    rw [z_ln] at e
    split at e
    · rename_i hl
      rw [z_rd, if_neg (by omega)] at e
      cases hz : z_rl t s i F with
      | none => rw [hz] at e; cases e
      | some G =>
        rw [hz] at e
        cases e
        have := z_rl_cn h hl hz
        exact Or.inr ⟨rfl, this.le (by omega)⟩
    · cases e
      exact Or.inr ⟨rfl, h.le (by omega)⟩
  | m + 1, i, s, F, F', bs, hi, hs, h, e => by
    rw [z_ln] at e
    split at e
    · rw [z_rd] at e
      split at e
      · rename_i hsi
        cases e
        exact Or.inl ⟨by omega, by omega, h.le (by omega)⟩
      · rename_i hsi
        cases hz : z_rl t s i F with
        | none => rw [hz] at e; cases e
        | some G =>
          rw [hz] at e
          exact z_rd_cn m (i + 1) (i + 1) G F' bs (by omega) (Nat.le_refl _) (z_rl_cn h (by omega) hz) e
    · exact z_rd_cn m (i + 1) s F F' bs (by omega) (by omega) h e
/-- the i-th field -/
def z_ix (F : List (Nat × Nat × Nat)) (i : Nat) : Nat × Nat × Nat := F.getD (F.length - 1 - i) (0, 0, 0)
theorem z_ix_top (x : Nat × Nat × Nat) (r : List (Nat × Nat × Nat)) : z_ix (x :: r) r.length = x := by
  unfold z_ix
  rw [List.length_cons, show r.length + 1 - 1 - r.length = 0 by omega]
  rfl
theorem z_ix_low (x : Nat × Nat × Nat) {r : List (Nat × Nat × Nat)} {i : Nat} (h : i < r.length) : z_ix (x :: r) i = z_ix r i := by
  unfold z_ix
  rw [List.length_cons, show r.length + 1 - 1 - i = (r.length - 1 - i) + 1 by omega, List.getD_cons_succ]
theorem z_ix_mem : ∀ {F : List (Nat × Nat × Nat)} {i : Nat}, i < F.length → z_ix F i ∈ F
  | [], i, h => absurd h (Nat.not_lt_zero _)
  | x :: r, i, h => by
    rw [List.length_cons] at h
    by_cases e : i = r.length
    · subst e
      rw [z_ix_top]
      exact List.mem_cons_self
    · rw [z_ix_low x (by omega)]
      exact List.mem_cons_of_mem _ (z_ix_mem (by omega))
theorem z_fa.ix {σ : Nat → Nat → Int32} : ∀ {F : List (Nat × Nat × Nat)} {i : Nat}, z_fa σ F → i < F.length → σ 8 i = nI (z_ix F i).1 ∧ σ 9 i = nI (z_ix F i).2.1 ∧ σ 10 i = nI (z_ix F i).2.2
  | [], i, _, h => absurd h (Nat.not_lt_zero _)
  | x :: r, i, hA, h => by
    obtain ⟨h1, h2, h3, h4⟩ := hA
    rw [List.length_cons] at h
    by_cases e : i = r.length
    · subst e
      rw [z_ix_top]
      exact ⟨h1, h2, h3⟩
    · rw [z_ix_low x (by omega)]
      exact z_fa.ix h4 (by omega)
def z_fos (t : Nat → Int32) (rf : Bool) (F : List (Nat × Nat × Nat)) : List Nat → List Int32
  | [] => []
  | i :: r => z_fo t rf (z_ix F i) ++ z_fos t rf F r
theorem z_sll (t : Nat → Int32) : ∀ (m i : Nat), (z_sl t i m).length = m
  | 0, _ => rfl
  | m + 1, i => by rw [z_sl, List.length_cons, z_sll t m]
def z_wt (F : List (Nat × Nat × Nat)) (i : Nat) : Nat := (z_ix F i).2.2 - (z_ix F i).1 + 1
theorem z_fo_len (t : Nat → Int32) (rf : Bool) {x : Nat × Nat × Nat} (h : x.1 < x.2.1 ∧ x.2.1 < x.2.2) : (z_fo t rf x).length ≤ x.2.2 - x.1 + 1 := by
  unfold z_fo
  split
  · have := z_sq_len t (x.2.2 - (x.2.1 + 1)) (x.2.1 + 1) true false
    rw [if_neg (by decide)] at this
    rw [List.length_append, List.length_map, z_sll, List.length_cons, List.length_append]
    show _ + (_ + 1 + 1) ≤ _
    omega
  · rw [List.length_append, z_sll]
    exact Nat.le_refl _
def z_so (w : Nat → Nat) : List Nat → Nat
  | [] => 0
  | i :: r => w i + z_so w r
theorem z_so_app (w : Nat → Nat) (i : Nat) : ∀ O, z_so w (O ++ [i]) = z_so w O + w i
  | [] => by simp [z_so]
  | j :: r => by
    show w j + z_so w (r ++ [i]) = w j + z_so w r + w i
    rw [z_so_app w i r]; omega
theorem z_tk_some {t u : Nat → Int32} {a b : Nat} {T : Nat → Bool} : ∀ {F : List (Nat × Nat × Nat)} {i : Nat}, z_tk t u a b T F = some i → i < F.length ∧ T i = false
  | [], i, h => by cases h
  | x :: r, i, h => by
    rw [z_tk] at h
    split at h
    · rename_i hc
      cases h
      exact ⟨by rw [List.length_cons]; omega, hc.1⟩
    · obtain ⟨h1, h2⟩ := z_tk_some h
      exact ⟨by rw [List.length_cons]; omega, h2⟩
theorem z_ta_sum {t u : Nat → Int32} {F : List (Nat × Nat × Nat)} (w : Nat → Nat) : ∀ (l : List (Nat × Nat)) (p : (Nat → Bool) × List Nat), z_so w p.2 = z_sm w p.1 F.length → (∀ i ∈ p.2, i < F.length) → z_so w (z_ta t u F l p).2 = z_sm w (z_ta t u F l p).1 F.length ∧ ∀ i ∈ (z_ta t u F l p).2, i < F.length
  | [], p, h, hm => ⟨h, hm⟩
  | x :: r, p, h, hm => by
    rw [z_ta]
    refine z_ta_sum w r _ ?_ ?_
    · unfold z_tp
      cases hz : z_tk t u x.1 x.2 p.1 F with
      | none => exact h
      | some i =>
        obtain ⟨h1, h2⟩ := z_tk_some hz
        show z_so w (p.2 ++ [i]) = z_sm w (z_us p.1 i true) F.length
        rw [z_so_app, z_sm_up w p.1 h2, if_pos h1, h]
    · unfold z_tp
      cases hz : z_tk t u x.1 x.2 p.1 F with
      | none => exact hm
      | some i =>
        intro j hj
        rcases List.mem_append.mp hj with hj | hj
        · exact hm j hj
        · rw [List.mem_singleton.mp hj]
          exact (z_tk_some hz).1
theorem z_sm_false (w : Nat → Nat) : ∀ c, z_sm w (fun _ => false) c = 0
  | 0 => rfl
  | c + 1 => by
    unfold z_sm
    rw [z_sm_false w c]
    rfl
theorem z_sm_congr {w w' : Nat → Nat} (T : Nat → Bool) : ∀ c, (∀ i, i < c → w i = w' i) → z_sm w T c = z_sm w' T c
  | 0, _ => rfl
  | c + 1, h => by
    unfold z_sm
    rw [z_sm_congr T c (fun i hi => h i (by omega)), h c (by omega)]
theorem z_wt_sum : ∀ (F : List (Nat × Nat × Nat)) (s : Nat), z_cn F s → z_sm (z_wt F) (fun _ => true) F.length ≤ s
  | [], s, _ => Nat.zero_le _
  | x :: r, s, h => by
    obtain ⟨h1, h2, h3, h4⟩ := h
    rw [List.length_cons]
    unfold z_sm
    rw [if_pos (c := (true = true)) rfl, z_sm_congr (w' := z_wt r) _ r.length (fun i hi => by unfold z_wt; rw [z_ix_low x hi])]
    have := z_wt_sum r x.1 h4
    have e : z_wt (x :: r) r.length = x.2.2 - x.1 + 1 := by unfold z_wt; rw [z_ix_top]
    omega
theorem z_fos_len (t : Nat → Int32) (rf : Bool) {F : List (Nat × Nat × Nat)} {n : Nat} (hF : z_fb n F) : ∀ (O : List Nat), (∀ i ∈ O, i < F.length) → (z_fos t rf F O).length ≤ z_so (z_wt F) O
  | [], _ => Nat.le_refl _
  | i :: r, h => by
    have hi := h i List.mem_cons_self
    obtain ⟨b1, b2, b3⟩ := hF _ (z_ix_mem hi)
    have l1 := z_fo_len t rf (x := z_ix F i) ⟨b1, b2⟩
    have l2 := z_fos_len t rf hF r (fun j hj => h j (List.mem_cons_of_mem _ hj))
    rw [z_fos, List.length_append]
    show _ ≤ z_wt F i + z_so (z_wt F) r
    unfold z_wt at *
    omega
def z_tO (t u : Nat → Int32) (k : Nat) (F : List (Nat × Nat × Nat)) : List Nat := (z_ta t u F (z_sg u k 0 0) (fun _ => false, [])).2
theorem z_tO_lt (t u : Nat → Int32) (k : Nat) (F : List (Nat × Nat × Nat)) : ∀ i ∈ z_tO t u k F, i < F.length := (z_ta_sum (fun _ => 0) _ _ (by rw [z_sm_false]; rfl) (fun i hi => by cases hi)).2
/-- the fields' part of the form is no longer than the head -/
theorem z_cap1 {t u : Nat → Int32} {k s n : Nat} {F : List (Nat × Nat × Nat)} (rf : Bool) (h : z_cn F s) (hs : s ≤ n + 1) : (z_fos t rf F (z_tO t u k F)).length ≤ s := by
  have h1 := z_fos_len t rf (h.fb hs) _ (z_tO_lt t u k F)
  have h2 := (z_ta_sum (t := t) (u := u) (F := F) (z_wt F) (z_sg u k 0 0) (fun _ => false, []) (by rw [z_sm_false]; rfl) (fun i hi => by cases hi)).1
  have h3 := z_sm_le (z_wt F) (z_ta t u F (z_sg u k 0 0) (fun _ => false, [])).1 F.length
  have h4 := z_wt_sum F s h
  have h5 : z_so (z_wt F) (z_tO t u k F) = z_so (z_wt F) (z_ta t u F (z_sg u k 0 0) (fun _ => false, [])).2 := rfl
  omega
theorem z_cap {t u : Nat → Int32} {k n bs : Nat} {F : List (Nat × Nat × Nat)} (rf : Bool) (h : z_rd t n (z_ln t n 0 0) [] = some (F, bs)) : bs ≤ n ∧ z_fb n F ∧ (z_fos t rf F (z_tO t u k F)).length + (n - bs) + 1 ≤ n + 2 := by
  rcases z_rd_cn n 0 0 [] F bs (by omega) (Nat.le_refl _) trivial h with ⟨h1, h2, h3⟩ | ⟨rfl, h3⟩
  · have := z_cap1 (t := t) (u := u) (k := k) (n := n) rf h3 (by omega)
    exact ⟨h2, h3.fb (by omega), by omega⟩
  · have := z_cap1 (t := t) (u := u) (k := k) (n := bs) rf h3 (Nat.le_refl _)
    exact ⟨Nat.le_refl _, h3.fb (Nat.le_refl _), by omega⟩
theorem z_rb_len (t : Nat → Int32) (n N : Nat) : ∀ (m i s : Nat) (out keep : List Int32), s ≤ i → i + m = n + 1 → keep.length ≤ N → (i ≤ n → out.length + (n - s) + 1 ≤ N) → (z_rb t n m i s out keep).length ≤ N
  | 0, i, s, out, keep, _, _, hk, _ => hk
  | m + 1, i, s, out, keep, hs, hi, hk, ho => by
    have ho := ho (by omega)
    have hq := z_sq_len t (i - s) s false false
    rw [if_neg (by decide)] at hq
    rw [z_rb]
    split
    · refine z_rb_len t n N m (i + 1) (i + 1) _ _ (Nat.le_refl _) (by omega) ?_ (fun _ => ?_)
      · split
        · exact hk
        · rw [List.length_append, List.length_append]
          show out.length + _ + 1 ≤ N
          omega
      · rw [List.length_append, List.length_append]
        show out.length + _ + 1 + (n - (i + 1)) + 1 ≤ N
        omega
    · exact z_rb_len t n N m (i + 1) s out keep (by omega) (by omega) hk (fun _ => ho)
/-- the canonical form: of n signs t and k signs u of names -/
def z_bd (t : Nat → Int32) (n bs : Nat) (rb : Bool) (out : List Int32) : List Int32 := if rb = true then z_rb t n (n + 1 - bs) bs bs out out else out ++ z_pb t bs n
def z_cf (t u : Nat → Int32) (n k : Nat) (rf rb : Bool) : Option (List Int32) := match z_rd t n (z_ln t n 0 0) [] with
  | none => none
  | some y => some (z_bd t n y.2 rb (z_fos t rf y.1 (z_tO t u k y.1)))
theorem z_bd_len {t : Nat → Int32} {n bs N : Nat} (rb : Bool) {out : List Int32} (hb : bs ≤ n) (h : out.length + (n - bs) + 1 ≤ N) : (z_bd t n bs rb out).length ≤ N := by
  unfold z_bd
  split
  · exact z_rb_len t n N (n + 1 - bs) bs bs out out (Nat.le_refl _) (by omega) (by omega) (fun _ => h)
  · have := z_te_ge t bs n hb
    rw [z_pb, List.length_append, List.length_append, z_sll]
    show out.length + (_ + 1) ≤ N
    omega
theorem z_cf_len {t u : Nat → Int32} {n k : Nat} {rf rb : Bool} {out : List Int32} (h : z_cf t u n k rf rb = some out) : out.length ≤ n + 2 := by
  unfold z_cf at h
  cases hz : z_rd t n (z_ln t n 0 0) [] with
  | none => rw [hz] at h; cases h
  | some y =>
    rw [hz] at h
    cases h
    obtain ⟨h1, h2, h3⟩ := z_cap (u := u) (k := k) rf (show z_rd t n (z_ln t n 0 0) [] = some (y.1, y.2) from hz)
    exact z_bd_len rb h1 h3
def z_ew (σ' σ : Nat → Nat → Int32) : Prop := ∀ k, k ≠ 4 → k ≠ 5 → k ≠ 8 → k ≠ 9 → k ≠ 10 → k ≠ 13 → k ≠ 14 → k ≠ 15 → k ≠ 16 → σ' k = σ k
theorem z_ew.tr {a b c : Nat → Nat → Int32} (h1 : z_ew a b) (h2 : z_ew b c) : z_ew a c := fun k q1 q2 q3 q4 q5 q6 q7 q8 q9 => (h1 k q1 q2 q3 q4 q5 q6 q7 q8 q9).trans (h2 k q1 q2 q3 q4 q5 q6 q7 q8 q9)
theorem z_eq.ew {a b : Nat → Nat → Int32} (h : z_eq a b) : z_ew a b := fun k _ _ _ _ _ q6 q7 _ _ => h k q6 q7
theorem z_em.ew {a b : Nat → Nat → Int32} (h : z_em a b) : z_ew a b := fun k _ q2 q3 q4 q5 _ _ _ _ => h k q2 q3 q4 q5
theorem z_et.ew {a b : Nat → Nat → Int32} (h : z_et a b) : z_ew a b := fun k q1 _ _ _ _ _ _ q8 q9 => h k q1 q8 q9
theorem z_tn.em {σ' σ : Nat → Nat → Int32} {n : Nat} (h : z_tn σ n) (e : z_em σ' σ) : z_tn σ' n := by
  unfold z_tn
  rw [e 11 (by decide) (by decide) (by decide) (by decide), e 12 (by decide) (by decide) (by decide) (by decide)]
  exact h
theorem z_cs.of {σ' σ : Nat → Nat → Int32} {out : List Int32} (h : z_cs σ out) (e1 : σ' 13 = σ 13) (e2 : σ' 14 = σ 14) : z_cs σ' out := by
  unfold z_cs
  rw [e1, e2]
  exact h
theorem l_write {d : Nat} {h : zH} {ρ : Nat → Nat → Option Nat} {Q : zR → Prop} {n : Nat} {F : List (Nat × Nat × Nat)} {O : List Nat} {rf rb : Bool} (hB : z_fb n F) (hO : ∀ i ∈ O, i < F.length) (hl : O.length ≤ 12) : ∀ (m j : Nat) (σ : Nat → Nat → Int32) (out : List Int32), j + m = O.length → z_tm σ n → z_cs σ out → z_fl σ F → σ 4 5 = nI O.length → (∀ j, j < O.length → σ 16 j = nI (O.getD j 0)) →
    (∀ σ', z_cs σ' (out ++ z_fos (σ 7) rf F (O.drop j)) → z_eq σ' σ → z_E (d + 3) 47 99 [some (.ref 4), some (.int (z_bi rf)), some (.int (z_bi rb)), some (.int (nI O.length))] [] (z_G h σ' ρ) Q) →
    z_E (d + 3) 47 26 [some (.ref 4), some (.int (z_bi rf)), some (.int (z_bi rb)), some (.int (nI j))] [] (z_G h σ ρ) Q
  | 0, j, σ, out, hj, hT, hC, hF, h4, h16, kk => by
    obtain rfl : j = O.length := by omega
    refine e_iload k47_26 (q := 27) rfl rfl ?_
    refine e_aload k47_27 (q := 28) rfl rfl ?_
    refine g_get k47_28 (q := 31) rfl rfl rfl ?_
    refine e_ic k47_31 (q := 34) rfl (fun c31 => ?_) (fun c31 => absurd (by show σ 4 5 ≤ nI O.length; rw [h4]; exact nI_le (Nat.le_refl _) (by omega)) c31)
    exact kk σ (hC.eq (by rw [List.drop_length, z_fos, List.append_nil])) z_eq.rf
  | m + 1, j, σ, out, hj, hT, hC, hF, h4, h16, kk => by
    have hjl : j < O.length := by omega
    have hin : vp_in (nI j) 12 := vp_in_nI (by omega) (by decide)
    have hcl : (nI j).toNatClampNeg = j := nI_clamp (by omega)
    have hdr : O.drop j = O.getD j 0 :: O.drop (j + 1) := by rw [List.drop_eq_getElem_cons hjl, List.getD_eq_getElem?_getD, List.getElem?_eq_getElem hjl]; rfl
    have h6 := h16 j hjl
    have hi : O.getD j 0 < F.length := hO _ (by rw [List.getD_eq_getElem?_getD, List.getElem?_eq_getElem hjl]; exact List.getElem_mem hjl)
    rw [hdr, z_fos] at kk
    generalize O.getD j 0 = i at kk h6 hi
    obtain ⟨f8, f9, f10⟩ := hF.2.2.ix hi
    obtain ⟨b1, b2, b3⟩ := hB _ (z_ix_mem hi)
    have hfl := hF.2.1
    have hn := hT.2.1
    have hin2 : vp_in (nI i) 12 := vp_in_nI (by omega) (by decide)
    have hcl2 : (nI i).toNatClampNeg = i := nI_clamp (by omega)
    refine e_iload k47_26 (q := 27) rfl rfl ?_
    refine e_aload k47_27 (q := 28) rfl rfl ?_
    refine g_get k47_28 (q := 31) rfl rfl rfl ?_
    refine e_ic k47_31 (q := 34) rfl (fun c31 => absurd c31 (by show ¬ σ 4 5 ≤ nI j; rw [h4]; exact nI_ge hjl (by omega))) (fun c31 => ?_)
    refine e_iload k47_34 (q := 35) rfl rfl ?_
    refine e_if k47_35 (q := 38) rfl (fun c35 => ?_) (fun c35 => ?_)
    · obtain rfl : rf = false := by
        cases rf with
        | false => rfl
        | true => exact absurd c35 (by decide)
      refine e_aload k47_51 (q := 52) rfl rfl ?_
      refine e_aload k47_52 (q := 53) rfl rfl ?_
      refine g_get k47_53 (q := 56) rfl rfl rfl ?_
      refine g_get k47_56 (q := 59) rfl rfl rfl ?_
      refine e_aload k47_59 (q := 60) rfl rfl ?_
      refine g_get k47_60 (q := 63) rfl rfl rfl ?_
      refine e_iload k47_63 (q := 64) rfl rfl ?_
      refine g_ald k47_64 (q := 65) rfl rfl (by assumption) ?_
      rw [hcl, h6]
      refine g_ald k47_65 (q := 66) rfl rfl hin2 ?_
      rw [hcl2, f8]
      refine e_aload k47_66 (q := 67) rfl rfl ?_
      refine g_get k47_67 (q := 70) rfl rfl rfl ?_
      refine g_get k47_70 (q := 73) rfl rfl rfl ?_
      refine e_aload k47_73 (q := 74) rfl rfl ?_
      refine g_get k47_74 (q := 77) rfl rfl rfl ?_
      refine e_iload k47_77 (q := 78) rfl rfl ?_
      refine g_ald k47_78 (q := 79) rfl rfl (by assumption) ?_
      rw [hcl, h6]
      refine g_ald k47_79 (q := 80) rfl rfl hin2 ?_
      rw [hcl2, f10]
      refine g_cv k47_80 (q := 83) (as := [_, _]) rfl rfl rfl rfl (m_copy hT hC (show (z_ix F i).1 ≤ (z_ix F i).2.2 by omega) b3) rfl (z_kv fun h80 p80 => ?_)
      obtain ⟨σ1, rfl, hC1, e1⟩ := p80
      refine e_aload k47_83 (q := 84) rfl rfl ?_
      refine g_get k47_84 (q := 87) rfl rfl rfl ?_
      refine e_const k47_87 (q := 89) rfl ?_
      refine g_cv k47_89 (q := 92) (as := [_]) rfl rfl rfl rfl (m_app hC1 10) rfl (z_ki fun x89 h89 p89 => ?_)
      obtain ⟨σ2, rfl, hC2, e2'⟩ := p89
      have e2 := e2'.tr e1
      refine e_pop k47_92 (q := 93) rfl rfl ?_
      refine e_iinc k47_93 (q := 96) (L' := [_, _, _, some (.int (nI (j + 1)))]) rfl rfl (by rw [nI_1]; rfl) ?_
      refine e_goto k47_96 ?_
      refine l_write hB hO hl m (j + 1) σ2 _ (by omega) (hT.eq e2) hC2 ⟨by rw [e2 5 (by decide) (by decide)]; exact hF.1, hF.2.1, hF.2.2.up F (fun q _ => ⟨by rw [e2 8 (by decide) (by decide)], by rw [e2 9 (by decide) (by decide)], by rw [e2 10 (by decide) (by decide)]⟩)⟩ (by rw [e2 4 (by decide) (by decide)]; exact h4) (by rw [e2 16 (by decide) (by decide)]; exact h16) (fun σ3 h3 e3 => kk σ3 (h3.eq ?_) (e3.tr e2))
      rw [e2 7 (by decide) (by decide), z_fo, if_neg (by decide), z_c10.ch]
      simp
    · obtain rfl : rf = true := by
        cases rf with
        | true => rfl
        | false => exact absurd rfl c35
      refine e_aload k47_38 (q := 39) rfl rfl ?_
      refine e_aload k47_39 (q := 40) rfl rfl ?_
      refine g_get k47_40 (q := 43) rfl rfl rfl ?_
      refine e_iload k47_43 (q := 44) rfl rfl ?_
      refine g_ald k47_44 (q := 45) rfl rfl (by assumption) ?_
      rw [hcl, h6]
      refine g_cv k47_45 (q := 48) (as := [_]) rfl rfl rfl rfl (m_writeRelaxedField hT hC (show i < 12 by omega) f8 f9 f10 ⟨b1, b2, b3⟩) rfl (z_kv fun h45 p45 => ?_)
      obtain ⟨σ1, rfl, hC1, e1⟩ := p45
      refine e_goto k47_48 ?_
      refine e_iinc k47_93 (q := 96) (L' := [_, _, _, some (.int (nI (j + 1)))]) rfl rfl (by rw [nI_1]; rfl) ?_
      refine e_goto k47_96 ?_
      refine l_write hB hO hl m (j + 1) σ1 _ (by omega) (hT.eq e1) hC1 ⟨by rw [e1 5 (by decide) (by decide)]; exact hF.1, hF.2.1, hF.2.2.up F (fun q _ => ⟨by rw [e1 8 (by decide) (by decide)], by rw [e1 9 (by decide) (by decide)], by rw [e1 10 (by decide) (by decide)]⟩)⟩ (by rw [e1 4 (by decide) (by decide)]; exact h4) (by rw [e1 16 (by decide) (by decide)]; exact h16) (fun σ3 h3 e3 => kk σ3 (h3.eq ?_) (e3.tr e1))
      rw [e1 7 (by decide) (by decide), List.append_assoc]
theorem m_write {d : Nat} {h : zH} {ρ : Nat → Nat → Option Nat} {σ : Nat → Nat → Int32} {n k : Nat} {out : List Int32} (rf rb : Bool) (hT : z_tm σ n) (hN : z_tn σ k) (hC : z_cs σ out) : z_M (d + 5) 47 [.ref 4, .int (z_bi rf), .int (z_bi rb)] (z_G h σ ρ) (z_qi fun x h' => ∃ σ', h' = z_G h σ' ρ ∧ z_ew σ' σ ∧ (∃ o', z_cs σ' o') ∧ match z_cf (σ 7) (σ 12) n k rf rb with
      | none => x = 0
      | some o => x = 1 ∧ z_cs σ' o) := by
  refine z_M.of ⟨Nat.le_of_ble_eq_true rfl, by simp [Value.category]⟩ (L := [some (.ref 4), some (.int (z_bi rf)), some (.int (z_bi rb)), none]) rfl ?_
  refine e_aload k47_0 (q := 1) rfl rfl ?_
  refine g_get k47_1 (q := 4) rfl rfl rfl ?_
  refine e_const k47_4 (q := 5) rfl ?_
  refine g_cv k47_5 (q := 8) (as := [_]) rfl rfl rfl rfl (m_cut0 z_tx13 hC.1 (by omega)) rfl (z_kv fun h5 p5 => ?_)
  obtain rfl := p5
  have e1 : z_eq (z_us σ 13 (upd (σ 13) 1 0)) σ := fun k h1 _ => z_us_ne _ _ h1
  have hC1 : z_cs (z_us σ 13 (upd (σ 13) 1 0)) [] := ⟨by rw [z_us_eq]; rfl, fun j hj => absurd hj (by show ¬ j < min 0 242; omega)⟩
  have h7 : z_us σ 13 (upd (σ 13) 1 0) 7 = σ 7 := z_us_ne _ _ (by decide)
  have h12 : z_us σ 13 (upd (σ 13) 1 0) 12 = σ 12 := z_us_ne _ _ (by decide)
  have hT1 := hT.eq e1
  have hN1 := hN.eq e1
  generalize z_us σ 13 (upd (σ 13) 1 0) = σ1 at e1 hC1 h7 h12 hT1 hN1 ⊢
  refine e_aload k47_8 (q := 9) rfl rfl ?_
  refine g_get k47_9 (q := 12) rfl rfl rfl ?_
  refine g_cv k47_12 (q := 15) (as := []) rfl rfl rfl rfl (m_read hT1) rfl (z_ki fun x12 h12 p12 => ?_)
  obtain ⟨σ2, rfl, e2, q2⟩ := p12
  rw [h7] at q2
  refine e_if k47_15 (q := 18) rfl (fun c15 => ?_) (fun c15 => ?_)
  · cases hz : z_rd (σ 7) n (z_ln (σ 7) n 0 0) [] with
    | none => rw [hz] at q2; exact absurd q2 c15
    | some y =>
    rw [hz] at q2
    obtain ⟨rfl, hF, hS⟩ := q2
    obtain ⟨g1, g2, g3⟩ := z_cap (u := σ 12) (k := k) rf (show z_rd (σ 7) n (z_ln (σ 7) n 0 0) [] = some (y.1, y.2) from hz)
    have hT2 := hT1.em e2
    have hN2 := hN1.em e2
    have h72 : σ2 7 = σ 7 := (e2 7 (by decide) (by decide) (by decide) (by decide)).trans h7
    have h122 : σ2 12 = σ 12 := (e2 12 (by decide) (by decide) (by decide) (by decide)).trans h12
    refine e_aload k47_20 (q := 21) rfl rfl ?_
    refine g_cv k47_21 (q := 24) (as := []) rfl rfl rfl rfl (m_takeFields hT2 hN2 hF g2) rfl (z_kv fun h21 p21 => ?_)
    obtain ⟨σ3, rfl, e3, hD⟩ := p21
    rw [h72, h122] at hD
    have h73 : σ3 7 = σ 7 := (e3 7 (by decide) (by decide) (by decide)).trans h72
    have hC3 : z_cs σ3 [] := hC1.of ((e3 13 (by decide) (by decide) (by decide)).trans (e2 13 (by decide) (by decide) (by decide) (by decide))) ((e3 14 (by decide) (by decide) (by decide)).trans (e2 14 (by decide) (by decide) (by decide) (by decide)))
    have hS3 : σ3 5 2 = nI y.2 := by rw [e3 5 (by decide) (by decide) (by decide)]; exact hS
    have hl12 : (z_tO (σ 7) (σ 12) k y.1).length ≤ 12 := by
      have z1 := hD.2.2.2
      have z2 := z_sm_le (fun _ => 1) (z_ta (σ 7) (σ 12) y.1 (z_sg (σ 12) k 0 0) (fun _ => false, [])).1 y.1.length
      rw [z_sm_one] at z2
      have z3 := hF.2.1
      show (z_ta (σ 7) (σ 12) y.1 (z_sg (σ 12) k 0 0) (fun _ => false, [])).2.length ≤ 12
      omega
    refine e_const k47_24 (q := 25) rfl ?_
    refine e_ist k47_25 (q := 26) (L' := [_, _, _, _]) rfl rfl rfl ?_
    refine l_write (O := z_tO (σ 7) (σ 12) k y.1) g2 (z_tO_lt _ _ _ _) hl12 (z_tO (σ 7) (σ 12) k y.1).length 0 σ3 [] (by omega) (hT2.et e3) hC3 (hF.et e3) hD.2.1 hD.2.2.1 (fun σ4 hC4 e4 => ?_)
    rw [List.nil_append, List.drop_zero, h73] at hC4
    have hT4 := (hT2.et e3).eq e4
    have hn := hT.2.1
    have hS4 : σ4 5 2 = nI y.2 := by rw [e4 5 (by decide) (by decide)]; exact hS3
    have h74 : σ4 7 = σ 7 := (e4 7 (by decide) (by decide)).trans h73
    refine e_iload k47_99 (q := 100) rfl rfl ?_
    refine e_if k47_100 (q := 103) rfl (fun c100 => ?_) (fun c100 => ?_)
    · obtain rfl : rb = false := by
        cases rb with
        | false => rfl
        | true => exact absurd c100 (by decide)
      refine e_aload k47_110 (q := 111) rfl rfl ?_
      refine g_cv k47_111 (q := 114) (as := []) rfl rfl rfl rfl (m_writePlainBody hT4 hC4 hS4 g1) rfl (z_kv fun h111 p111 => ?_)
      obtain ⟨σ5, rfl, hC5, e5⟩ := p111
      refine e_const k47_114 (q := 115) rfl ?_
      refine e_iret k47_115 (by first | exact Or.inl rfl | exact Or.inr rfl | assumption) ?_
      refine ⟨_, _, rfl, σ5, rfl, e5.ew.tr (e4.ew.tr (e3.ew.tr (e2.ew.tr e1.ew))), ⟨_, hC5⟩, ?_⟩
      rw [z_cf, hz]
      refine ⟨rfl, hC5.eq ?_⟩
      rw [h74]
      rfl
    · obtain rfl : rb = true := by
        cases rb with
        | true => rfl
        | false => exact absurd rfl c100
      refine e_aload k47_103 (q := 104) rfl rfl ?_
      refine g_cv k47_104 (q := 107) (as := []) rfl rfl rfl rfl (m_writeRelaxedBody hT4 hC4 hS4 g1 (by omega)) rfl (z_kv fun h104 p104 => ?_)
      obtain ⟨σ5, rfl, hC5, e5⟩ := p104
      refine e_goto k47_107 ?_
      refine e_const k47_114 (q := 115) rfl ?_
      refine e_iret k47_115 (by first | exact Or.inl rfl | exact Or.inr rfl | assumption) ?_
      refine ⟨_, _, rfl, σ5, rfl, e5.ew.tr (e4.ew.tr (e3.ew.tr (e2.ew.tr e1.ew))), ⟨_, hC5⟩, ?_⟩
      rw [z_cf, hz]
      refine ⟨rfl, hC5.eq ?_⟩
      rw [h74]
      rfl
  · skip
    refine e_const k47_18 (q := 19) rfl ?_
    refine e_iret k47_19 (by first | exact Or.inl rfl | exact Or.inr rfl | assumption) ?_
    refine ⟨_, _, rfl, σ2, rfl, e2.ew.tr e1.ew, ⟨[], hC1.of (e2 13 (by decide) (by decide) (by decide) (by decide)) (e2 14 (by decide) (by decide) (by decide) (by decide))⟩, ?_⟩
    rw [z_cf]
    cases hz : z_rd (σ 7) n (z_ln (σ 7) n 0 0) [] with
    | none => rfl
    | some y => rw [hz] at q2; exact absurd (by rw [q2.1]; decide) c15
