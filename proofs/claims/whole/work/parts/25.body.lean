/-! The two ways of writing the body are one. -/
theorem z_ln_drop {t : Nat → Int32} {n : Nat} : ∀ (m i s : Nat), i + m = n → s ≤ i → z_he (z_ln t m i s) < (z_ln t m i s).length → (z_ln t m i s).drop (z_he (z_ln t m i s) + 1) = z_ln t (n - z_bs (z_ln t m i s) n) (z_bs (z_ln t m i s) n) (z_bs (z_ln t m i s) n) ∧ z_bs (z_ln t m i s) n ≤ n
  | 0, i, s, hi, hs, h => by
    rw [z_ln] at h
    split at h
    · rename_i hsi
      rw [z_he, if_neg (show ¬ (s, i).1 = (s, i).2 from by show ¬ s = i; omega)] at h
      exact absurd h (by show ¬ 0 + 1 < 0 + 1; omega)
    · exact absurd h (Nat.not_lt_zero _)
  | m + 1, i, s, hi, hs, h => by
    by_cases ht : t i = 10
    · have e : z_ln t (m + 1) i s = (s, i) :: z_ln t m (i + 1) (i + 1) := by rw [z_ln, if_pos ht]
      rw [e] at h ⊢
      by_cases hsi : s = i
      · have e2 : z_he ((s, i) :: z_ln t m (i + 1) (i + 1)) = 0 := by rw [z_he, if_pos hsi]
        have e3 : z_bs ((s, i) :: z_ln t m (i + 1) (i + 1)) n = i + 1 := by
          unfold z_bs
          rw [e2, if_pos (by rw [List.length_cons]; omega)]
          rfl
        rw [e3, e2]
        refine ⟨?_, by omega⟩
        rw [show n - (i + 1) = m by omega]
        rfl
      · have e2 : z_he ((s, i) :: z_ln t m (i + 1) (i + 1)) = z_he (z_ln t m (i + 1) (i + 1)) + 1 := by rw [z_he, if_neg hsi]
        rw [e2, List.length_cons] at h
        have h' : z_he (z_ln t m (i + 1) (i + 1)) < (z_ln t m (i + 1) (i + 1)).length := by omega
        obtain ⟨i1, i2⟩ := z_ln_drop (n := n) m (i + 1) (i + 1) (by omega) (Nat.le_refl _) h'
        have e3 : z_bs ((s, i) :: z_ln t m (i + 1) (i + 1)) n = z_bs (z_ln t m (i + 1) (i + 1)) n := by
          unfold z_bs
          rw [e2, if_pos (by rw [List.length_cons]; omega), if_pos h', List.getD_cons_succ]
        rw [e3, e2, List.drop_succ_cons]
        exact ⟨i1, i2⟩
    · have e : z_ln t (m + 1) i s = z_ln t m (i + 1) s := by rw [z_ln, if_neg ht]
      rw [e] at h ⊢
      exact z_ln_drop m (i + 1) s (by omega) (by omega) h
def z_rf (t : Nat → Int32) : List (Nat × Nat) → List Int32 → List Int32 → List Int32
  | [], _, keep => keep
  | x :: r, out, keep => z_rf t r (out ++ z_sq t x.1 false false (x.2 - x.1) ++ [10]) (if z_sq t x.1 false false (x.2 - x.1) = [] then keep else out ++ z_sq t x.1 false false (x.2 - x.1) ++ [10])
theorem z_rb_rf {t : Nat → Int32} {n : Nat} : ∀ (m i s : Nat) (out keep : List Int32), i + m = n → s ≤ i → z_rb t n (m + 1) i s out keep = z_rf t (z_ln t m i s) out keep
  | 0, i, s, out, keep, hi, hs => by
    rw [z_rb, if_pos (Or.inl (by omega)), z_rb, z_ln]
    by_cases hsi : s < i
    · rw [if_pos hsi]
      rfl
    · rw [if_neg hsi, show i - s = 0 by omega, z_sq, if_pos rfl]
      rfl
  | m + 1, i, s, out, keep, hi, hs => by
    rw [z_rb, z_ln]
    by_cases ht : t i = 10
    · rw [if_pos (Or.inr ht), if_pos ht, z_rf]
      exact z_rb_rf m (i + 1) (i + 1) _ _ (by omega) (Nat.le_refl _)
    · rw [if_neg (by rintro (z | z); omega; exact ht z), if_neg ht]
      exact z_rb_rf m (i + 1) s out keep (by omega) (by omega)
theorem z_rf_app (t : Nat → Int32) (x : Nat × Nat) : ∀ (B : List (Nat × Nat)) (out keep : List Int32), z_rf t (B ++ [x]) out keep = if z_sq t x.1 false false (x.2 - x.1) = [] then z_rf t B out keep else out ++ z_qls t B ++ (z_sq t x.1 false false (x.2 - x.1) ++ [10])
  | [], out, keep => by
    rw [List.nil_append, z_rf, z_rf, z_rf, z_qls, List.append_nil, List.append_assoc]
  | y :: B, out, keep => by
    rw [List.cons_append, z_rf, z_rf_app t x B, z_rf, z_qls]
    split
    · rfl
    · simp only [List.append_assoc]
theorem z_qls_app (t : Nat → Int32) : ∀ (A B : List (Nat × Nat)), z_qls t (A ++ B) = z_qls t A ++ z_qls t B
  | [], B => rfl
  | x :: r, B => by rw [List.cons_append, z_qls, z_qls, z_qls_app t r B]; simp only [List.append_assoc]
theorem z_sq_nil {t : Nat → Int32} : ∀ (m a : Nat) (g : Bool), (∀ j, a ≤ j → j < a + m → ¬ t j = 10) → (z_sq t a false g m = [] ↔ z_bk t a m = true)
  | 0, a, g, _ => ⟨fun _ => rfl, fun _ => rfl⟩
  | m + 1, a, g, h => by
    have h0 := h a (Nat.le_refl _) (by omega)
    rw [z_sq, z_bk]
    by_cases h32 : t a = 32
    · rw [if_pos h32, decide_eq_true h32, Bool.true_and]
      exact z_sq_nil m (a + 1) true (fun j h1 h2 => h j (by omega) (by omega))
    · rw [if_neg h32, if_neg h0, decide_eq_false h32, Bool.false_and]
      refine ⟨fun z => ?_, fun z => (by cases z)⟩
      simp at z
theorem z_en_shift (p : Nat → Bool) (lo : Nat) : ∀ e, z_en p lo (lo + e) = lo + z_en (fun k => p (lo + k)) 0 e
  | 0 => by
    cases lo with
    | zero => rfl
    | succ l =>
      rw [Nat.add_zero]
      show (if l + 1 < l + 1 ∧ p l = true then z_en p (l + 1) l else l + 1) = l + 1 + 0
      rw [if_neg (fun z => by omega)]
  | e + 1 => by
    rw [← Nat.add_assoc, z_en, z_en]
    by_cases hp : p (lo + e) = true
    · rw [if_pos ⟨by omega, hp⟩, if_pos ⟨by omega, hp⟩]
      exact z_en_shift p lo e
    · rw [if_neg (fun z => hp z.2), if_neg (fun z => hp z.2)]
      omega
theorem z_take_snoc {B : List (Nat × Nat)} {k : Nat} (h : k < B.length) : B.take (k + 1) = B.take k ++ [B.getD k (0, 0)] := by
  rw [List.take_add_one, List.getElem?_eq_getElem h, List.getD_eq_getElem?_getD, List.getElem?_eq_getElem h]
  rfl
theorem z_rf_en {t : Nat → Int32} {B : List (Nat × Nat)} (hno : ∀ x ∈ B, x.1 ≤ x.2 ∧ ∀ j, x.1 ≤ j → j < x.2 → ¬ t j = 10) (out : List Int32) : ∀ k, k ≤ B.length → z_rf t (B.take k) out out = out ++ z_qls t (B.take (z_en (z_bp t B true) 0 k))
  | 0, _ => by rw [List.take_zero, z_rf, z_en, List.take_zero, z_qls, List.append_nil]
  | k + 1, hk => by
    have hkl : k < B.length := by omega
    obtain ⟨n1, n2⟩ := hno _ (z_getD_mem hkl)
    have hq := z_sq_nil (t := t) ((B.getD k (0, 0)).2 - (B.getD k (0, 0)).1) (B.getD k (0, 0)).1 false (fun j h1 h2 => n2 j h1 (by omega))
    rw [z_take_snoc hkl, z_rf_app, z_en]
    by_cases hb : z_bk t (B.getD k (0, 0)).1 ((B.getD k (0, 0)).2 - (B.getD k (0, 0)).1) = true
    · rw [if_pos (hq.mpr hb), if_pos ⟨by omega, by rw [z_bp, if_pos rfl]; exact hb⟩]
      exact z_rf_en hno out k (by omega)
    · rw [if_neg (fun z => hb (hq.mp z)), if_neg (fun z => hb (by have := z.2; rw [z_bp, if_pos rfl] at this; exact this)), z_take_snoc hkl, z_qls_app, z_qls, z_qls, List.append_nil, List.append_assoc]
theorem z_te_at {t : Nat → Int32} {bs E : Nat} (h0 : E = bs ∨ (bs < E ∧ ¬ t (E - 1) = 10)) : ∀ (m : Nat), (∀ j, E ≤ j → j < E + m → t j = 10) → bs ≤ E → z_te t bs (E + m) = E
  | 0, _, hb => by
    rw [Nat.add_zero]
    cases E with
    | zero => rfl
    | succ e =>
      rw [z_te, if_neg]
      rintro ⟨z1, z2⟩
      rcases h0 with h0 | ⟨_, h0⟩
      · omega
      · exact h0 z2
  | m + 1, h, hb => by
    rw [← Nat.add_assoc, z_te, if_pos ⟨by omega, h (E + m) (by omega) (by omega)⟩]
    exact z_te_at h0 m (fun j h1 h2 => h j h1 (by omega)) hb
theorem z_lc_empty {t : Nat → Int32} {n : Nat} : ∀ {s : Nat} {R : List (Nat × Nat)}, z_lc t n s R → (∀ x ∈ R, x.1 = x.2) → ∀ j, s ≤ j → j < n → t j = 10
  | s, [], h, _, j, h1, h2 => by
    have h : s = n := h
    omega
  | s, x :: r, h, he, j, h1, h2 => by
    obtain ⟨g1, g2, g3, g4⟩ := h
    have hx := he x List.mem_cons_self
    rcases g4 with ⟨g5, g6, g7⟩ | ⟨g5, g6, _⟩
    · by_cases e : j = x.2
      · subst e; exact g6
      · exact z_lc_empty g7 (fun y hy => he y (List.mem_cons_of_mem _ hy)) j (by omega) h2
    · omega
theorem z_lc_drop {t : Nat → Int32} {n : Nat} : ∀ {s : Nat} {A : List (Nat × Nat)} (k : Nat), z_lc t n s A → k < A.length → ((A.getD k (0, 0)).2 < n ∧ t (A.getD k (0, 0)).2 = 10 ∧ z_lc t n ((A.getD k (0, 0)).2 + 1) (A.drop (k + 1))) ∨ (A.getD k (0, 0)).2 = n
  | s, [], k, _, hk => absurd hk (Nat.not_lt_zero _)
  | s, x :: r, 0, h, hk => by
    rcases h.2.2.2 with h | h
    · exact Or.inl h
    · exact Or.inr h.1
  | s, x :: r, k + 1, h, hk => by
    rw [List.length_cons] at hk
    rw [List.getD_cons_succ, List.drop_succ_cons]
    rcases h.2.2.2 with ⟨_, _, h⟩ | ⟨_, _, h⟩
    · exact z_lc_drop k h (by omega)
    · subst h
      exact absurd hk (by show ¬ k + 1 < 0 + 1; omega)
theorem z_en_top (p : Nat → Bool) : ∀ e k, z_en p 0 e ≤ k → k < e → p k = true
  | 0, k, _, h => absurd h (Nat.not_lt_zero _)
  | e + 1, k, h1, h2 => by
    rw [z_en] at h1
    split at h1
    · rename_i hp
      by_cases ek : k = e
      · subst ek; exact hp.2
      · exact z_en_top p e k h1 (by omega)
    · omega
theorem z_en_last (p : Nat → Bool) : ∀ e, 0 < z_en p 0 e → ¬ p (z_en p 0 e - 1) = true
  | 0, h => absurd h (Nat.lt_irrefl _)
  | e + 1, h => by
    rw [z_en] at h ⊢
    split
    · rename_i hp
      rw [if_pos hp] at h
      exact z_en_last p e h
    · rename_i hp
      intro z
      exact hp ⟨by omega, z⟩
/-- the plain body by lines -/
theorem z_pb_lines {t : Nat → Int32} {n bs : Nat} {B : List (Nat × Nat)} (h : z_lc t n bs B) (hb : bs ≤ n) : z_pb t bs n = z_pls t (B.take (z_en (z_bp t B false) 0 B.length)) ++ (if z_en (z_bp t B false) 0 B.length = 0 then [10] else []) := by
  have htop := z_en_top (z_bp t B false) B.length
  have hlast := z_en_last (z_bp t B false) B.length
  have hle := z_en_le (z_bp t B false) 0 B.length
  generalize z_en (z_bp t B false) 0 B.length = e at htop hlast hle ⊢
  have hemp : ∀ k, e ≤ k → k < B.length → (B.getD k (0, 0)).1 = (B.getD k (0, 0)).2 := fun k h1 h2 => by
    have := htop k h1 h2
    rw [z_bp, if_neg (by decide)] at this
    exact of_decide_eq_true this
  have hmem : ∀ k, e ≤ k → ∀ x ∈ B.drop k, x.1 = x.2 := fun k hk x hx => by
    obtain ⟨i, hi⟩ := List.getElem?_of_mem hx
    rw [List.getElem?_drop] at hi
    have hlt := (List.getElem?_eq_some_iff.mp hi).1
    have := hemp (k + i) (by omega) hlt
    rw [List.getD_eq_getElem?_getD, hi] at this
    exact this
  unfold z_pb
  cases e with
  | zero =>
    rw [if_pos rfl, List.take_zero, z_pls, List.nil_append]
    have hall := z_lc_empty h (fun x hx => hmem 0 (Nat.le_refl _) x (by rw [List.drop_zero]; exact hx))
    have := z_te_at (t := t) (bs := bs) (E := bs) (Or.inl rfl) (n - bs) (fun j h1 h2 => hall j h1 (by omega)) (Nat.le_refl _)
    rw [show bs + (n - bs) = n by omega] at this
    rw [this, Nat.sub_self]
    rfl
  | succ e =>
    rw [if_neg (Nat.succ_ne_zero _), List.append_nil]
    have hel : e < B.length := by omega
    have hne : ¬ (B.getD e (0, 0)).1 = (B.getD e (0, 0)).2 := fun z => hlast (Nat.succ_pos _) (by
      rw [Nat.add_sub_cancel, z_bp, if_neg (by decide)]
      exact decide_eq_true z)
    have hbd := h.bd hb _ (z_getD_mem hel)
    have hno := z_lc_no h _ (z_getD_mem hel)
    obtain ⟨p1, p2⟩ := z_pls_lines h hb e 0 (by omega)
    rw [List.drop_zero, Nat.zero_add] at p1
    have h0 : (B.getD 0 (0, 0)).1 = bs := by
      cases B with
      | nil => exact absurd hel (Nat.not_lt_zero _)
      | cons y r => exact h.1
    rw [p1, h0]
    have hE : z_te t bs n = (B.getD e (0, 0)).2 := by
      have := z_te_at (t := t) (bs := bs) (E := (B.getD e (0, 0)).2) (Or.inr ⟨by omega, hno _ (by omega) (by omega)⟩) (n - (B.getD e (0, 0)).2) (fun j h1 h2 => ?_) (by omega)
      · rw [show (B.getD e (0, 0)).2 + (n - (B.getD e (0, 0)).2) = n by omega] at this
        exact this
      · rcases z_lc_drop e h hel with ⟨q1, q2, q3⟩ | q1
        · by_cases ej : j = (B.getD e (0, 0)).2
          · subst ej; exact q2
          · exact z_lc_empty q3 (hmem (e + 1) (Nat.le_refl _)) j (by omega) (by omega)
        · omega
    rw [hE]
theorem z_bp_drop (t : Nat → Int32) (A : List (Nat × Nat)) (rb : Bool) (lo k : Nat) : z_bp t A rb (lo + k) = z_bp t (A.drop lo) rb k := by
  unfold z_bp
  rw [List.getD_eq_getElem?_getD, List.getD_eq_getElem?_getD, List.getElem?_drop]
/-- what the model writes of the body is what the class writes -/
theorem z_mb_bd (t : Nat → Int32) (n : Nat) (rb : Bool) (out : List Int32) : out ++ z_mb t (z_ln t n 0 0) rb = z_bd t n (z_bs (z_ln t n 0 0) n) rb out := by
  have hle := z_he_le (z_ln t n 0 0)
  by_cases hhe : z_he (z_ln t n 0 0) < (z_ln t n 0 0).length
  · obtain ⟨d1, d2⟩ := z_ln_drop (n := n) n 0 0 (by omega) (Nat.le_refl _) hhe
    have hlc := z_ln_lc (t := t) (n := n) (n - z_bs (z_ln t n 0 0) n) (z_bs (z_ln t n 0 0) n) (z_bs (z_ln t n 0 0) n) (by omega) (Nat.le_refl _) (fun j h1 h2 => by omega)
    have hrf := z_rb_rf (t := t) (n := n) (n - z_bs (z_ln t n 0 0) n) (z_bs (z_ln t n 0 0) n) (z_bs (z_ln t n 0 0) n) out out (by omega) (Nat.le_refl _)
    unfold z_mb z_bd
    generalize z_bs (z_ln t n 0 0) n = bs at d1 d2 hlc hrf ⊢
    rw [← d1] at hlc hrf
    generalize z_ln t n 0 0 = A at hle hhe d1 hlc hrf ⊢
    generalize z_he A = he at hle hhe d1 hlc hrf ⊢
    have hlen : A.length = (he + 1) + (A.drop (he + 1)).length := by rw [List.length_drop]; omega
    rw [hlen, z_en_shift, show (fun k => z_bp t A rb (he + 1 + k)) = z_bp t (A.drop (he + 1)) rb from funext fun k => z_bp_drop t A rb (he + 1) k, Nat.add_sub_cancel_left]
    generalize A.drop (he + 1) = B at hlc hrf ⊢
    unfold z_bl
    cases rb with
    | true =>
      rw [if_pos rfl, if_pos rfl, if_neg (fun z => by cases z.1), List.append_nil, show n + 1 - bs = n - bs + 1 by omega, hrf]
      have hbd := hlc.bd d2
      have := z_rf_en (t := t) (B := B) (fun x hx => ⟨(hbd x hx).2.1, z_lc_no hlc x hx⟩) out B.length (Nat.le_refl _)
      rw [List.take_length] at this
      exact this.symm
    | false =>
      rw [if_neg (show ¬ (false = true) by decide), if_neg (show ¬ (false = true) by decide), z_pb_lines hlc d2]
      by_cases hz : z_en (z_bp t B false) 0 B.length = 0
      · rw [if_pos (show false = false ∧ he + 1 + z_en (z_bp t B false) 0 B.length ≤ he + 1 from ⟨rfl, by omega⟩), if_pos hz]
      · rw [if_neg (show ¬ (false = false ∧ he + 1 + z_en (z_bp t B false) 0 B.length ≤ he + 1) from fun z => hz (by omega)), if_neg hz]
  · have hb : z_bs (z_ln t n 0 0) n = n := by unfold z_bs; rw [if_neg hhe]
    rw [hb]
    unfold z_mb z_bd
    have hen := z_en_le (z_bp t (z_ln t n 0 0) rb) (z_he (z_ln t n 0 0) + 1) (z_ln t n 0 0).length
    rw [show z_en (z_bp t (z_ln t n 0 0) rb) (z_he (z_ln t n 0 0) + 1) (z_ln t n 0 0).length - (z_he (z_ln t n 0 0) + 1) = 0 by omega, List.take_zero]
    cases rb with
    | true =>
      rw [if_neg (fun z => by cases z.1), if_pos rfl, z_bl, if_pos rfl, z_qls, show n + 1 - n = 1 by omega, z_rb, if_pos (Or.inl rfl), z_rb, Nat.sub_self, z_sq, if_pos rfl]
      simp
    | false =>
      rw [if_pos ⟨rfl, by omega⟩, if_neg (by decide), z_bl, if_neg (by decide), z_pls]
      unfold z_pb
      have := z_te_at (t := t) (bs := n) (E := n) (Or.inl rfl) 0 (fun j h1 h2 => by omega) (Nat.le_refl _)
      rw [Nat.add_zero] at this
      rw [this, Nat.sub_self]
      rfl
