/-! The pure machine's runs (the least relation closed under the operations) and its rules, a rule an instruction: goal first. -/
def z_aok (M : Nat) (as : List Value) : Prop := as.length ≤ z_ml M ∧ ∀ v ∈ as, v.category = 1
def z_ent (M : Nat) (as : List Value) : zL := as.map some ++ List.replicate (z_ml M - as.length) none
def z_cl (X : Nat → Nat → Nat → zL → List Value → zH → zR → Prop) : Prop :=
  ∀ (d M pc : Nat) (L : zL) (S : List Value) (h : zH) (r : zR), z_op M pc (fun M' as h' r' => ∃ d', d = d' + 1 ∧ z_aok M' as ∧ X d' M' 0 (z_ent M' as) [] h' r') (fun pc' L' S' h' => X d M pc' L' S' h' r) (fun r' => r' = r) pc L S h → X d M pc L S h r
def z_Ev (d M pc : Nat) (L : zL) (S : List Value) (h : zH) (r : zR) : Prop := ∀ X, z_cl X → X d M pc L S h r
def z_E (d M pc : Nat) (L : zL) (S : List Value) (h : zH) (Q : zR → Prop) : Prop := ∃ r, z_Ev d M pc L S h r ∧ Q r
def z_M (d M : Nat) (as : List Value) (h : zH) (Q : zR → Prop) : Prop := ∃ (d' : Nat) (r : zR), d = d' + 1 ∧ z_aok M as ∧ z_Ev d' M 0 (z_ent M as) [] h r ∧ Q r
def z_qi (P : Int32 → zH → Prop) : zR → Prop := fun r => ∃ (x : Int32) (h' : zH), r = (some (.int x), h') ∧ P x h'
def z_qr (P : Option Nat → zH → Prop) : zR → Prop := fun r => ∃ (q : Option Nat) (h' : zH), r = (some (va_rf q), h') ∧ P q h'
def z_qv (P : zH → Prop) : zR → Prop := fun r => ∃ (h' : zH), r = (none, h') ∧ P h'
section zCalc
variable {d M pc q : Nat} {L : zL} {S : List Value} {h : zH} {Q : zR → Prop}
theorem z_M.of {as : List Value} (ha : as.length ≤ z_ml M ∧ ∀ v ∈ as, v.category = 1) (hL : z_ent M as = L) (hE : z_E d M 0 L [] h Q) : z_M (d + 1) M as h Q := by
  obtain ⟨r, he, hq⟩ := hE
  subst hL
  exact ⟨d, r, rfl, ha, he, hq⟩
theorem z_M.mono {as : List Value} {Q' : zR → Prop} (hM : z_M d M as h Q) (hQ : ∀ r, Q r → Q' r) : z_M d M as h Q' := by
  obtain ⟨d', r, h1, h2, h3, h4⟩ := hM
  exact ⟨d', r, h1, h2, h3, hQ r h4⟩
theorem z_E.mono {Q' : zR → Prop} (hM : z_E d M pc L S h Q) (hQ : ∀ r, Q r → Q' r) : z_E d M pc L S h Q' := by
  obtain ⟨r, h3, h4⟩ := hM
  exact ⟨r, h3, hQ r h4⟩
theorem e_go {pc' : Nat} {L' : zL} {S' : List Value} {h' : zH} (hs : ∀ (c : zC) (k : zK) (t : zR → Prop), k pc' L' S' h' → z_op M pc c k t pc L S h) (hE : z_E d M pc' L' S' h' Q) : z_E d M pc L S h Q := by
  obtain ⟨r, he, hq⟩ := hE
  exact ⟨r, fun X hX => hX _ _ _ _ _ _ _ (hs _ _ _ (he X hX)), hq⟩
theorem e_const {w : Nat} {v : Value} (ho : z_op M pc = o_const w v) (hq : pc + w = q) (k : z_E d M q L (v :: S) h Q) : z_E d M pc L S h Q :=
  e_go (by subst hq; rw [ho]; exact fun _ _ _ hk => hk) k
theorem e_iload {w i : Nat} {x : Int32} (ho : z_op M pc = o_iload w i) (hq : pc + w = q) (hl : L[i]? = some (some (.int x))) (k : z_E d M q L (.int x :: S) h Q) : z_E d M pc L S h Q :=
  e_go (by subst hq; rw [ho]; exact fun _ _ _ hk => ⟨x, hl, hk⟩) k
theorem e_lload {w i : Nat} {x : Int64} (ho : z_op M pc = o_lload w i) (hq : pc + w = q) (hl : L[i]? = some (some (.long x))) (k : z_E d M q L (.long x :: S) h Q) : z_E d M pc L S h Q :=
  e_go (by subst hq; rw [ho]; exact fun _ _ _ hk => ⟨x, hl, hk⟩) k
theorem e_aload {w i a : Nat} (ho : z_op M pc = o_aload w i) (hq : pc + w = q) (hl : L[i]? = some (some (.ref a))) (k : z_E d M q L (.ref a :: S) h Q) : z_E d M pc L S h Q :=
  e_go (by subst hq; rw [ho]; exact fun _ _ _ hk => ⟨some a, hl, hk⟩) k
theorem e_aloadq {w i : Nat} {a : Option Nat} (ho : z_op M pc = o_aload w i) (hq : pc + w = q) (hl : L[i]? = some (some (va_rf a))) (k : z_E d M q L (va_rf a :: S) h Q) : z_E d M pc L S h Q :=
  e_go (by subst hq; rw [ho]; exact fun _ _ _ hk => ⟨a, hl, hk⟩) k
theorem e_ist {w i : Nat} {fx : Bool} {x : Int32} {L' : zL} (ho : z_op M pc = o_ist w i fx) (hq : pc + w = q) (hi : Nat.blt i L.length = true) (hL : (z_fx L i fx).set i (some (.int x)) = L') (k : z_E d M q L' S h Q) : z_E d M pc L (.int x :: S) h Q :=
  e_go (by subst hq; subst hL; rw [ho]; exact fun _ _ _ hk => ⟨x, S, rfl, Nat.le_of_ble_eq_true hi, hk⟩) k
theorem e_ast {w i a : Nat} {fx : Bool} {L' : zL} (ho : z_op M pc = o_ast w i fx) (hq : pc + w = q) (hi : Nat.blt i L.length = true) (hL : (z_fx L i fx).set i (some (.ref a)) = L') (k : z_E d M q L' S h Q) : z_E d M pc L (.ref a :: S) h Q :=
  e_go (by subst hq; subst hL; rw [ho]; exact fun _ _ _ hk => ⟨some a, S, rfl, Nat.le_of_ble_eq_true hi, hk⟩) k
theorem e_astq {w i : Nat} {a : Option Nat} {fx : Bool} {L' : zL} (ho : z_op M pc = o_ast w i fx) (hq : pc + w = q) (hi : Nat.blt i L.length = true) (hL : (z_fx L i fx).set i (some (va_rf a)) = L') (k : z_E d M q L' S h Q) : z_E d M pc L (va_rf a :: S) h Q :=
  e_go (by subst hq; subst hL; rw [ho]; exact fun _ _ _ hk => ⟨a, S, rfl, Nat.le_of_ble_eq_true hi, hk⟩) k
theorem e_lst {w i : Nat} {x : Int64} {L' : zL} (ho : z_op M pc = o_lst w i) (hq : pc + w = q) (hi : Nat.blt (i + 1) L.length = true) (hL : ((z_fx L i true).set i (some (.long x))).set (i + 1) none = L') (k : z_E d M q L' S h Q) : z_E d M pc L (.long x :: S) h Q :=
  e_go (by subst hq; subst hL; rw [ho]; exact fun _ _ _ hk => ⟨x, S, rfl, Nat.le_of_ble_eq_true hi, hk⟩) k
theorem e_iinc {i : Nat} {n x : Int32} {L' : zL} (ho : z_op M pc = o_iinc i n) (hq : pc + 3 = q) (hl : L[i]? = some (some (.int x))) (hL : L.set i (some (.int (x + n))) = L') (k : z_E d M q L' S h Q) : z_E d M pc L S h Q :=
  e_go (by subst hq; subst hL; rw [ho]; exact fun _ _ _ hk => ⟨x, hl, hk⟩) k
theorem e_ib {f : Int32 → Int32 → Int32} {x y : Int32} (ho : z_op M pc = o_ib f) (hq : pc + 1 = q) (k : z_E d M q L (.int (f x y) :: S) h Q) : z_E d M pc L (.int y :: .int x :: S) h Q :=
  e_go (by subst hq; rw [ho]; exact fun _ _ _ hk => ⟨x, y, S, rfl, hk⟩) k
theorem e_ibn {f : Int32 → Int32 → Int32} {x y : Int32} (ho : z_op M pc = o_ibn f) (hq : pc + 1 = q) (hy : ¬ y = 0) (k : z_E d M q L (.int (f x y) :: S) h Q) : z_E d M pc L (.int y :: .int x :: S) h Q :=
  e_go (by subst hq; rw [ho]; exact fun _ _ _ hk => ⟨x, y, S, rfl, hy, hk⟩) k
theorem e_lb {f : Int64 → Int64 → Int64} {x y : Int64} (ho : z_op M pc = o_lb f) (hq : pc + 1 = q) (k : z_E d M q L (.long (f x y) :: S) h Q) : z_E d M pc L (.long y :: .long x :: S) h Q :=
  e_go (by subst hq; rw [ho]; exact fun _ _ _ hk => ⟨x, y, S, rfl, hk⟩) k
theorem e_lbn {f : Int64 → Int64 → Int64} {x y : Int64} (ho : z_op M pc = o_lbn f) (hq : pc + 1 = q) (hy : ¬ y = 0) (k : z_E d M q L (.long (f x y) :: S) h Q) : z_E d M pc L (.long y :: .long x :: S) h Q :=
  e_go (by subst hq; rw [ho]; exact fun _ _ _ hk => ⟨x, y, S, rfl, hy, hk⟩) k
theorem e_i1 {f : Int32 → Int32} {x : Int32} (ho : z_op M pc = o_i1 f) (hq : pc + 1 = q) (k : z_E d M q L (.int (f x) :: S) h Q) : z_E d M pc L (.int x :: S) h Q :=
  e_go (by subst hq; rw [ho]; exact fun _ _ _ hk => ⟨x, S, rfl, hk⟩) k
theorem e_i2l {x : Int32} (ho : z_op M pc = o_i2l) (hq : pc + 1 = q) (k : z_E d M q L (.long x.toInt64 :: S) h Q) : z_E d M pc L (.int x :: S) h Q :=
  e_go (by subst hq; rw [ho]; exact fun _ _ _ hk => ⟨x, S, rfl, hk⟩) k
theorem e_l2i {x : Int64} (ho : z_op M pc = o_l2i) (hq : pc + 1 = q) (k : z_E d M q L (.int x.toInt32 :: S) h Q) : z_E d M pc L (.long x :: S) h Q :=
  e_go (by subst hq; rw [ho]; exact fun _ _ _ hk => ⟨x, S, rfl, hk⟩) k
theorem e_lcmp {x y : Int64} (ho : z_op M pc = o_lcmp) (hq : pc + 1 = q) (k : z_E d M q L (.int (lg_cmp x y) :: S) h Q) : z_E d M pc L (.long y :: .long x :: S) h Q :=
  e_go (by subst hq; rw [ho]; exact fun _ _ _ hk => ⟨x, y, S, rfl, hk⟩) k
theorem e_dup {v : Value} (ho : z_op M pc = o_dup) (hq : pc + 1 = q) (hv : v.category = 1) (k : z_E d M q L (v :: v :: S) h Q) : z_E d M pc L (v :: S) h Q :=
  e_go (by subst hq; rw [ho]; exact fun _ _ _ hk => ⟨v, S, rfl, hv, hk⟩) k
theorem e_dupx1 {v w : Value} (ho : z_op M pc = o_dupx1) (hq : pc + 1 = q) (hv : v.category = 1) (hw : w.category = 1) (k : z_E d M q L (v :: w :: v :: S) h Q) : z_E d M pc L (v :: w :: S) h Q :=
  e_go (by subst hq; rw [ho]; exact fun _ _ _ hk => ⟨v, w, S, rfl, hv, hw, hk⟩) k
theorem e_dup2 {v w : Value} (ho : z_op M pc = o_dup2) (hq : pc + 1 = q) (hv : v.category = 1) (hw : w.category = 1) (k : z_E d M q L (v :: w :: v :: w :: S) h Q) : z_E d M pc L (v :: w :: S) h Q :=
  e_go (by subst hq; rw [ho]; exact fun _ _ _ hk => ⟨v, w, S, rfl, hv, hw, hk⟩) k
theorem e_pop {v : Value} (ho : z_op M pc = o_pop) (hq : pc + 1 = q) (hv : v.category = 1) (k : z_E d M q L S h Q) : z_E d M pc L (v :: S) h Q :=
  e_go (by subst hq; rw [ho]; exact fun _ _ _ hk => ⟨v, S, rfl, hv, hk⟩) k
theorem e_if {c : Int32 → Prop} {tgt : Nat} {x : Int32} (ho : z_op M pc = o_if c tgt) (hq : pc + 3 = q) (kt : c x → z_E d M tgt L S h Q) (kf : ¬ c x → z_E d M q L S h Q) : z_E d M pc L (.int x :: S) h Q := by
  by_cases hc : c x
  · exact e_go (by rw [ho]; exact fun _ _ _ hk => ⟨x, S, rfl, fun _ => hk, fun z => absurd hc z⟩) (kt hc)
  · exact e_go (by subst hq; rw [ho]; exact fun _ _ _ hk => ⟨x, S, rfl, fun z => absurd z hc, fun _ => hk⟩) (kf hc)
theorem e_ic {c : Int32 → Int32 → Prop} {tgt : Nat} {x y : Int32} (ho : z_op M pc = o_ic c tgt) (hq : pc + 3 = q) (kt : c x y → z_E d M tgt L S h Q) (kf : ¬ c x y → z_E d M q L S h Q) : z_E d M pc L (.int y :: .int x :: S) h Q := by
  by_cases hc : c x y
  · exact e_go (by rw [ho]; exact fun _ _ _ hk => ⟨x, y, S, rfl, fun _ => hk, fun z => absurd hc z⟩) (kt hc)
  · exact e_go (by subst hq; rw [ho]; exact fun _ _ _ hk => ⟨x, y, S, rfl, fun z => absurd z hc, fun _ => hk⟩) (kf hc)
theorem e_nulN {tgt : Nat} (ho : z_op M pc = o_nul tgt) (k : z_E d M tgt L S h Q) : z_E d M pc L (.null :: S) h Q :=
  e_go (by rw [ho]; exact fun _ _ _ hk => ⟨none, S, rfl, fun _ => hk, fun a z => by cases z⟩) k
theorem e_nulR {tgt a : Nat} (ho : z_op M pc = o_nul tgt) (hq : pc + 3 = q) (k : z_E d M q L S h Q) : z_E d M pc L (.ref a :: S) h Q :=
  e_go (by subst hq; rw [ho]; exact fun _ _ _ hk => ⟨some a, S, rfl, fun z => (by cases z), fun _ _ => hk⟩) k
theorem e_nnN {tgt : Nat} (ho : z_op M pc = o_nn tgt) (hq : pc + 3 = q) (k : z_E d M q L S h Q) : z_E d M pc L (.null :: S) h Q :=
  e_go (by subst hq; rw [ho]; exact fun _ _ _ hk => ⟨none, S, rfl, fun _ => hk, fun a z => by cases z⟩) k
theorem e_nnR {tgt a : Nat} (ho : z_op M pc = o_nn tgt) (k : z_E d M tgt L S h Q) : z_E d M pc L (.ref a :: S) h Q :=
  e_go (by rw [ho]; exact fun _ _ _ hk => ⟨some a, S, rfl, fun z => (by cases z), fun _ _ => hk⟩) k
theorem e_acE {x y : Option Nat} {tgt : Nat} (ho : z_op M pc = o_ac true tgt) (hq : pc + 3 = q) (kt : x = y → z_E d M tgt L S h Q) (kf : ¬ x = y → z_E d M q L S h Q) : z_E d M pc L (va_rf y :: va_rf x :: S) h Q := by
  by_cases hc : x = y
  · exact e_go (by rw [ho]; exact fun _ _ _ hk => ⟨x, y, S, rfl, fun _ => hk, fun z => absurd hc z⟩) (kt hc)
  · exact e_go (by subst hq; rw [ho]; exact fun _ _ _ hk => ⟨x, y, S, rfl, fun z => absurd z hc, fun _ => hk⟩) (kf hc)
theorem e_acN {x y : Option Nat} {tgt : Nat} (ho : z_op M pc = o_ac false tgt) (hq : pc + 3 = q) (kt : ¬ x = y → z_E d M tgt L S h Q) (kf : x = y → z_E d M q L S h Q) : z_E d M pc L (va_rf y :: va_rf x :: S) h Q := by
  by_cases hc : x = y
  · exact e_go (by subst hq; rw [ho]; exact fun _ _ _ hk => ⟨x, y, S, rfl, fun _ => hk, fun z => absurd hc z⟩) (kf hc)
  · exact e_go (by rw [ho]; exact fun _ _ _ hk => ⟨x, y, S, rfl, fun z => absurd z hc, fun _ => hk⟩) (kt hc)
theorem e_goto {tgt : Nat} (ho : z_op M pc = o_goto tgt) (k : z_E d M tgt L S h Q) : z_E d M pc L S h Q :=
  e_go (by rw [ho]; exact fun _ _ _ hk => hk) k
theorem e_tab {lo : Int} {tg : List Nat} {dflt : Nat} {x : Int32} (ho : z_op M pc = o_tab lo tg dflt) (t : Nat) (j : Nat) (ht : tg[j]? = some t) (hx : x.toInt = lo + j) (k : z_E d M t L S h Q) : z_E d M pc L (.int x :: S) h Q :=
  e_go (by
    rw [ho]
    exact fun _ kk _ hk => ⟨x, S, rfl, fun j' t' h1 h2 => by
      have : j' = j := by omega
      subst this
      rw [ht] at h1
      cases h1
      exact hk, fun z => by
      have := (List.getElem?_eq_some_iff.mp ht).1
      omega⟩) k
theorem e_tabD {lo : Int} {tg : List Nat} {dflt : Nat} {x : Int32} (ho : z_op M pc = o_tab lo tg dflt) (hx : x.toInt < lo ∨ lo + tg.length ≤ x.toInt) (k : z_E d M dflt L S h Q) : z_E d M pc L (.int x :: S) h Q :=
  e_go (by
    rw [ho]
    exact fun _ kk _ hk => ⟨x, S, rfl, fun j' t' h1 h2 => by
      have := (List.getElem?_eq_some_iff.mp h1).1
      omega, fun _ => hk⟩) k
theorem e_get {ci j a : Nat} {fs : List Value} {v : Value} (ho : z_op M pc = o_get ci j) (hq : pc + 3 = q) (ha : h.1 a = some (.inr (ci, fs))) (hv : fs[j]? = some v) (k : z_E d M q L (v :: S) h Q) : z_E d M pc L (.ref a :: S) h Q :=
  e_go (by subst hq; rw [ho]; exact fun _ _ _ hk => ⟨a, fs, v, S, rfl, ha, hv, hk⟩) k
theorem e_put {ci j a : Nat} {ty : FieldType} {fs fs' : List Value} {v : Value} (ho : z_op M pc = o_put ci j ty) (hq : pc + 3 = q) (ha : h.1 a = some (.inr (ci, fs))) (hv : z_fit ty v) (hf : fs.set j v = fs') (k : z_E d M q L S (z_st h a (.inr (ci, fs'))) Q) : z_E d M pc L (v :: .ref a :: S) h Q :=
  e_go (by subst hq; subst hf; rw [ho]; exact fun _ _ _ hk => ⟨a, fs, v, S, rfl, ha, hv, hk⟩) k
theorem e_new {ci n a : Nat} {fs : List Value} (ho : z_op M pc = o_new ci n fs) (hq : pc + 3 = q) (ha : h.2.1 = a) (k : z_E d M q L (.ref a :: S) (z_al h (.inr (ci, fs)) n) Q) : z_E d M pc L S h Q :=
  e_go (by subst hq; subst ha; rw [ho]; exact fun _ _ _ hk => hk) k
theorem e_newa {ty : FieldType} {n : Int32} {N a : Nat} (ho : z_op M pc = o_newa ty) (hq : pc + 2 = q) (h0 : ¬ n < 0) (h1 : n.toNatClampNeg = N) (h2 : N ≤ 100000) (ha : h.2.1 = a) (k : z_E d M q L (.ref a :: S) (z_al h (.inl (ty, N, .inl (fun _ => 0))) N) Q) : z_E d M pc L (.int n :: S) h Q :=
  e_go (by subst hq; subst h1; subst ha; rw [ho]; exact fun _ _ _ hk => ⟨n, S, rfl, h0, h2, hk⟩) k
theorem e_anew {C : String} {n : Int32} {N a : Nat} (ho : z_op M pc = o_anew C) (hq : pc + 3 = q) (h0 : ¬ n < 0) (h1 : n.toNatClampNeg = N) (h2 : N ≤ 100000) (ha : h.2.1 = a) (k : z_E d M q L (.ref a :: S) (z_al h (.inl (.object C, N, .inr (.inr (.inr (.inr (fun _ => none)))))) N) Q) : z_E d M pc L (.int n :: S) h Q :=
  e_go (by subst hq; subst h1; subst ha; rw [ho]; exact fun _ _ _ hk => ⟨n, S, rfl, h0, h2, hk⟩) k
theorem e_alen {a : Nat} {ty : FieldType} {x : vp_A} (ho : z_op M pc = o_alen) (hq : pc + 1 = q) (ha : h.1 a = some (.inl (ty, x))) (k : z_E d M q L (.int (Int32.ofNat x.1) :: S) h Q) : z_E d M pc L (.ref a :: S) h Q :=
  e_go (by subst hq; rw [ho]; exact fun _ _ _ hk => ⟨a, ty, x, S, rfl, ha, hk⟩) k
theorem e_ald {ty : FieldType} {a n : Nat} {f : Nat → Int32} {i : Int32} (ho : z_op M pc = o_ald ty) (hq : pc + 1 = q) (ha : h.1 a = some (.inl (ty, n, .inl f))) (hi : vp_in i n) (k : z_E d M q L (.int (f i.toNatClampNeg) :: S) h Q) : z_E d M pc L (.int i :: .ref a :: S) h Q :=
  e_go (by subst hq; rw [ho]; exact fun _ _ _ hk => ⟨a, n, f, i, S, rfl, ha, hi, hk⟩) k
theorem e_aast {ty : FieldType} {a n : Nat} {f : Nat → Int32} {i x : Int32} (ho : z_op M pc = o_aast ty) (hq : pc + 1 = q) (ha : h.1 a = some (.inl (ty, n, .inl f))) (hi : vp_in i n) (k : z_E d M q L S (z_st h a (.inl (ty, n, .inl (upd f i.toNatClampNeg (vp_nar ty x))))) Q) : z_E d M pc L (.int x :: .int i :: .ref a :: S) h Q :=
  e_go (by subst hq; rw [ho]; exact fun _ _ _ hk => ⟨a, n, f, i, x, S, rfl, ha, hi, hk⟩) k
theorem e_rld {C : String} {a n : Nat} {f : Nat → Option Nat} {i : Int32} (ho : z_op M pc = o_rld C) (hq : pc + 1 = q) (ha : h.1 a = some (.inl (.object C, n, .inr (.inr (.inr (.inr f)))))) (hi : vp_in i n) (k : z_E d M q L (va_rf (f i.toNatClampNeg) :: S) h Q) : z_E d M pc L (.int i :: .ref a :: S) h Q :=
  e_go (by subst hq; rw [ho]; exact fun _ _ _ hk => ⟨a, n, f, i, S, rfl, ha, hi, hk⟩) k
theorem e_rst {C : String} {ci a n v : Nat} {vs : List Value} {f : Nat → Option Nat} {i : Int32} (ho : z_op M pc = o_rst C ci) (hq : pc + 1 = q) (ha : h.1 a = some (.inl (.object C, n, .inr (.inr (.inr (.inr f)))))) (hv : h.1 v = some (.inr (ci, vs))) (hi : vp_in i n) (k : z_E d M q L S (z_st h a (.inl (.object C, n, .inr (.inr (.inr (.inr (va_up f i.toNatClampNeg (some v)))))))) Q) : z_E d M pc L (.ref v :: .int i :: .ref a :: S) h Q :=
  e_go (by subst hq; rw [ho]; exact fun _ _ _ hk => ⟨a, n, v, vs, f, i, S, rfl, ha, hv, hi, hk⟩) k
theorem e_obj {a : Nat} (ho : z_op M pc = o_obj) (hq : pc + 3 = q) (hc : z_cat S ≤ 8) (k : z_E d M q L S h Q) : z_E d M pc L (.ref a :: S) h Q :=
  e_go (by subst hq; rw [ho]; exact fun _ _ _ hk => ⟨a, S, rfl, hc, hk⟩) k
theorem e_iret {ty : FieldType} {x : Int32} (ho : z_op M pc = o_iret ty) (hf : z_fit ty (.int x)) (hQ : Q (some (.int x), h)) : z_E d M pc L [.int x] h Q :=
  ⟨_, fun X hX => hX _ _ _ _ _ _ _ (by rw [ho]; exact ⟨x, rfl, hf, rfl⟩), hQ⟩
theorem e_aret {a : Option Nat} (ho : z_op M pc = o_aret) (hQ : Q (some (va_rf a), h)) : z_E d M pc L [va_rf a] h Q :=
  ⟨_, fun X hX => hX _ _ _ _ _ _ _ (by rw [ho]; exact ⟨a, rfl, rfl⟩), hQ⟩
theorem e_vret (ho : z_op M pc = o_vret) (hQ : Q (none, h)) : z_E d M pc L [] h Q :=
  ⟨_, fun X hX => hX _ _ _ _ _ _ _ (by rw [ho]; exact ⟨rfl, rfl⟩), hQ⟩
theorem e_cv {M' ci n b : Nat} {as fs S0 : List Value} {P : zR → Prop} (ho : z_op M pc = o_cv M' ci n) (hS : S0 = as.reverse ++ .ref b :: S) (hn : as.length = n) (hb : h.1 b = some (.inr (ci, fs))) (hc : z_cat S ≤ 8) (hM : z_M d M' (.ref b :: as) h P) (hq : pc + 3 = q) (k : ∀ r, P r → z_E d M q L (r.1.toList ++ S) r.2 Q) : z_E d M pc L S0 h Q := by
  obtain ⟨d', r, h1, h2, h3, h4⟩ := hM
  obtain ⟨r', k1, k2⟩ := k r h4
  subst hq
  exact ⟨r', fun X hX => hX _ _ _ _ _ _ _ (by rw [ho]; exact ⟨as, b, S, fs, r, hS, hn, hb, hc, ⟨d', h1, h2, h3 X hX⟩, k1 X hX⟩), k2⟩
theorem e_cs {M' n : Nat} {as S0 : List Value} {P : zR → Prop} (ho : z_op M pc = o_cs M' n) (hS : S0 = as.reverse ++ S) (hn : as.length = n) (hc : z_cat S ≤ 8) (hM : z_M d M' as h P) (hq : pc + 3 = q) (k : ∀ r, P r → z_E d M q L (r.1.toList ++ S) r.2 Q) : z_E d M pc L S0 h Q := by
  obtain ⟨d', r, h1, h2, h3, h4⟩ := hM
  obtain ⟨r', k1, k2⟩ := k r h4
  subst hq
  exact ⟨r', fun X hX => hX _ _ _ _ _ _ _ (by rw [ho]; exact ⟨as, S, r, hS, hn, hc, ⟨d', h1, h2, h3 X hX⟩, k1 X hX⟩), k2⟩
theorem e_ci {M' n b : Nat} {as S0 : List Value} {P : zR → Prop} (ho : z_op M pc = o_ci M' n) (hS : S0 = as.reverse ++ .ref b :: S) (hn : as.length = n) (hc : z_cat S ≤ 8) (hM : z_M d M' (.ref b :: as) h P) (hq : pc + 3 = q) (k : ∀ r, P r → z_E d M q L (r.1.toList ++ S) r.2 Q) : z_E d M pc L S0 h Q := by
  obtain ⟨d', r, h1, h2, h3, h4⟩ := hM
  obtain ⟨r', k1, k2⟩ := k r h4
  subst hq
  exact ⟨r', fun X hX => hX _ _ _ _ _ _ _ (by rw [ho]; exact ⟨as, b, S, r, hS, hn, hc, ⟨d', h1, h2, h3 X hX⟩, k1 X hX⟩), k2⟩
/-- what a call gives: an int, a reference, nothing -/
theorem z_ki {S' : List Value} {P : Int32 → zH → Prop} (k : ∀ (x : Int32) (h' : zH), P x h' → z_E d M q L (.int x :: S') h' Q) : ∀ r, z_qi P r → z_E d M q L (r.1.toList ++ S') r.2 Q := by
  rintro r ⟨x, h', rfl, hp⟩
  exact k x h' hp
theorem z_kr {S' : List Value} {P : Option Nat → zH → Prop} (k : ∀ (x : Option Nat) (h' : zH), P x h' → z_E d M q L (va_rf x :: S') h' Q) : ∀ r, z_qr P r → z_E d M q L (r.1.toList ++ S') r.2 Q := by
  rintro r ⟨x, h', rfl, hp⟩
  exact k x h' hp
theorem z_kv {S' : List Value} {P : zH → Prop} (k : ∀ (h' : zH), P h' → z_E d M q L S' h' Q) : ∀ r, z_qv P r → z_E d M q L (r.1.toList ++ S') r.2 Q := by
  rintro r ⟨h', rfl, hp⟩
  exact k h' hp
end zCalc
theorem z_up_self (g : Nat → Option zE) (a : Nat) (x : zE) : z_up g a x a = some x := if_pos rfl
theorem z_up_ne (g : Nat → Option zE) {a b : Nat} (x : zE) (hn : b ≠ a) : z_up g a x b = g b := if_neg hn
