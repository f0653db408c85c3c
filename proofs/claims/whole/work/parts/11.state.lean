/-! The fixed cells, which the two constructors make (addresses 1 to 51), as rows of one function of numbers σ and one of references ρ; what is made later lies in h. Made by wip/prog/state.py. -/
def z_rw (a : Nat) (s : Nat → Int32) (r : Nat → Option Nat) : Option zE := match a with
  | 1 => some (.inr (0, [.ref 2, .int (s 1), .ref 3, .ref 4, .ref 5, .ref 11, .ref 17, .int (s 7)]))
  | 2 => some (.inl (.object "MailVerdicts$Domain", 12, .inr (.inr (.inr (.inr r)))))
  | 3 => some (.inr (2, [.int (s 0), .int (s 1), .int (s 2)]))
  | 4 => some (.inr (3, [.ref 5, .ref 11, .ref 13, .ref 15, .ref 16, .int (s 5)]))
  | 5 => some (.inr (4, [.ref 6, .int (s 1), .int (s 2), .ref 8, .ref 9, .ref 10]))
  | 6 => some (.inr (5, [.ref 7, .int (s 1)]))
  | 7 => some (.inl (.char, 240, .inl s))
  | 8 => some (.inl (.int, 12, .inl s))
  | 9 => some (.inl (.int, 12, .inl s))
  | 10 => some (.inl (.int, 12, .inl s))
  | 11 => some (.inr (5, [.ref 12, .int (s 1)]))
  | 12 => some (.inl (.char, 60, .inl s))
  | 13 => some (.inr (5, [.ref 14, .int (s 1)]))
  | 14 => some (.inl (.char, 242, .inl s))
  | 15 => some (.inl (.boolean, 12, .inl s))
  | 16 => some (.inl (.int, 12, .inl s))
  | 17 => some (.inl (.object "MailVerdicts$Signature", 3, .inr (.inr (.inr (.inr r)))))
  | 18 => some (.inr (10, [.int (s 0), .ref 19, .ref 20, .ref 21, .ref 22, .ref 23, .ref 24, .ref 25, .ref 26, .ref 27, .ref 28, .ref 29, .ref 30, .ref 31, .ref 32, .ref 33, .ref 34, .ref 35, .int (s 18), .int (s 19), .int (s 20), .ref 36, .ref 37, .ref 38, .int (s 24), .ref 39, .int (s 26), .ref 40, .int (s 28), .ref 41, .ref 42, .ref 43, .ref 44, .int (s 33), .ref 45, .ref 46, .int (s 36), .int (s 37), .ref 47, .ref 48, .ref 49, .ref 50, .int (s 42), .ref 51]))
  | 19 => some (.inl (.int, 12, .inl s))
  | 20 => some (.inl (.boolean, 12, .inl s))
  | 21 => some (.inl (.int, 12, .inl s))
  | 22 => some (.inl (.int, 36, .inl s))
  | 23 => some (.inl (.int, 12, .inl s))
  | 24 => some (.inl (.int, 36, .inl s))
  | 25 => some (.inl (.int, 12, .inl s))
  | 26 => some (.inl (.int, 12, .inl s))
  | 27 => some (.inl (.int, 12, .inl s))
  | 28 => some (.inl (.int, 12, .inl s))
  | 29 => some (.inl (.boolean, 12, .inl s))
  | 30 => some (.inl (.boolean, 12, .inl s))
  | 31 => some (.inl (.int, 12, .inl s))
  | 32 => some (.inl (.int, 96, .inl s))
  | 33 => some (.inl (.int, 96, .inl s))
  | 34 => some (.inl (.int, 96, .inl s))
  | 35 => some (.inl (.int, 96, .inl s))
  | 36 => some (.inl (.int, 12, .inl s))
  | 37 => some (.inl (.int, 12, .inl s))
  | 38 => some (.inl (.boolean, 12, .inl s))
  | 39 => some (.inl (.int, 240, .inl s))
  | 40 => some (.inl (.int, 60, .inl s))
  | 41 => some (.inl (.int, 3, .inl s))
  | 42 => some (.inl (.boolean, 3, .inl s))
  | 43 => some (.inl (.boolean, 3, .inl s))
  | 44 => some (.inl (.int, 3, .inl s))
  | 45 => some (.inl (.int, 241, .inl s))
  | 46 => some (.inl (.int, 241, .inl s))
  | 47 => some (.inl (.int, 12, .inl s))
  | 48 => some (.inl (.int, 12, .inl s))
  | 49 => some (.inl (.int, 12, .inl s))
  | 50 => some (.inl (.boolean, 12, .inl s))
  | 51 => some (.inl (.int, 500, .inl s))
  | _ => none
def z_G (h : zH) (σ : Nat → Nat → Int32) (ρ : Nat → Nat → Option Nat) : zH := (fun a => match z_rw a (σ a) (ρ a) with
  | some x => some x
  | none => h.1 a, h.2)
/-- row a becomes s -/
def z_us {α : Type} (σ : Nat → α) (a : Nat) (s : α) : Nat → α := fun k => if k = a then s else σ k
theorem z_us_eq {α : Type} (σ : Nat → α) (a : Nat) (s : α) : z_us σ a s a = s := if_pos rfl
theorem z_us_ne {α : Type} (σ : Nat → α) {a k : Nat} (s : α) (h : k ≠ a) : z_us σ a s k = σ k := if_neg h
theorem z_rw_none {a : Nat} (s : Nat → Int32) (r : Nat → Option Nat) (ha : 52 ≤ a) : z_rw a s r = none := by
  obtain ⟨k, rfl⟩ : ∃ k, a = k + 52 := ⟨a - 52, by omega⟩
  rfl
theorem z_rw_none0 (s : Nat → Int32) (r : Nat → Option Nat) : z_rw 0 s r = none := rfl
section zGs
variable {h : zH} {σ σ' : Nat → Nat → Int32} {ρ ρ' : Nat → Nat → Option Nat}
theorem z_G_fix {a : Nat} {x : zE} (hx : z_rw a (σ a) (ρ a) = some x) : (z_G h σ ρ).1 a = some x := by
  show (match z_rw a (σ a) (ρ a) with
    | some x => some x
    | none => h.1 a) = some x
  rw [hx]
theorem z_G_dyn {a : Nat} (ha : 52 ≤ a) : (z_G h σ ρ).1 a = h.1 a := by
  show (match z_rw a (σ a) (ρ a) with
    | some x => some x
    | none => h.1 a) = h.1 a
  rw [z_rw_none _ _ ha]
theorem z_G_put {a : Nat} {x : zE} (hx : z_rw a (σ' a) (ρ' a) = some x) (hs : ∀ j, j ≠ a → σ' j = σ j) (hr : ∀ j, j ≠ a → ρ' j = ρ j) : z_st (z_G h σ ρ) a x = z_G h σ' ρ' := by
  refine Prod.ext (funext fun j => ?_) rfl
  by_cases e : j = a
  · subst e
    rw [show (z_st (z_G h σ ρ) j x).1 j = some x from z_up_self _ _ _, z_G_fix hx]
  · rw [show (z_st (z_G h σ ρ) a x).1 j = (z_G h σ ρ).1 j from z_up_ne _ _ e]
    show (match z_rw j (σ j) (ρ j) with
      | some x => some x
      | none => h.1 j) = (match z_rw j (σ' j) (ρ' j) with
      | some x => some x
      | none => h.1 j)
    rw [hs j e, hr j e]
theorem z_G_putd {a : Nat} {x : zE} (ha : 52 ≤ a) : z_st (z_G h σ ρ) a x = z_G (z_st h a x) σ ρ := by
  refine Prod.ext (funext fun j => ?_) rfl
  by_cases e : j = a
  · subst e
    rw [show (z_st (z_G h σ ρ) j x).1 j = some x from z_up_self _ _ _, z_G_dyn ha]
    exact (z_up_self _ _ _).symm
  · rw [show (z_st (z_G h σ ρ) a x).1 j = (z_G h σ ρ).1 j from z_up_ne _ _ e]
    show (match z_rw j (σ j) (ρ j) with
      | some x => some x
      | none => h.1 j) = (match z_rw j (σ j) (ρ j) with
      | some x => some x
      | none => (z_st h a x).1 j)
    rw [show (z_st h a x).1 j = h.1 j from z_up_ne _ _ e]
theorem z_G_al {x : zE} {n : Nat} (ha : 52 ≤ h.2.1) : z_al (z_G h σ ρ) x n = z_G (z_al h x n) σ ρ := by
  refine Prod.ext (funext fun j => ?_) rfl
  by_cases e : j = h.2.1
  · subst e
    rw [show (z_al (z_G h σ ρ) x n).1 h.2.1 = some x from z_up_self _ _ _, z_G_dyn ha]
    exact (z_up_self _ _ _).symm
  · rw [show (z_al (z_G h σ ρ) x n).1 j = (z_G h σ ρ).1 j from z_up_ne _ _ e]
    show (match z_rw j (σ j) (ρ j) with
      | some x => some x
      | none => h.1 j) = (match z_rw j (σ j) (ρ j) with
      | some x => some x
      | none => (z_al h x n).1 j)
    rw [show (z_al h x n).1 j = h.1 j from z_up_ne _ _ e]
end zGs
section zGr
variable {d M pc q : Nat} {L : zL} {S : List Value} {Q : zR → Prop} {h : zH} {σ : Nat → Nat → Int32} {ρ : Nat → Nat → Option Nat}
/-- reads and writes of fixed cells -/
theorem g_get {ci j a : Nat} {fs : List Value} {v : Value} (ho : z_op M pc = o_get ci j) (hq : pc + 3 = q) (hx : z_rw a (σ a) (ρ a) = some (.inr (ci, fs))) (hv : fs[j]? = some v) (k : z_E d M q L (v :: S) (z_G h σ ρ) Q) : z_E d M pc L (.ref a :: S) (z_G h σ ρ) Q :=
  e_get ho hq (z_G_fix hx) hv k
theorem g_put {ci j a : Nat} {ty : FieldType} {fs : List Value} {x : Int32} (ho : z_op M pc = o_put ci j ty) (hq : pc + 3 = q) (hx : z_rw a (σ a) (ρ a) = some (.inr (ci, fs))) (hv : z_fit ty (.int x)) (hf : z_rw a (upd (σ a) j x) (ρ a) = some (.inr (ci, fs.set j (.int x)))) (k : z_E d M q L S (z_G h (z_us σ a (upd (σ a) j x)) ρ) Q) : z_E d M pc L (.int x :: .ref a :: S) (z_G h σ ρ) Q := by
  refine e_put ho hq (z_G_fix hx) hv rfl ?_
  rw [z_G_put (σ' := z_us σ a (upd (σ a) j x)) (ρ' := ρ) (by rw [z_us_eq]; exact hf) (fun j e => z_us_ne _ _ e) (fun _ _ => rfl)]
  exact k
theorem g_alen {a : Nat} {ty : FieldType} {x : vp_A} (ho : z_op M pc = o_alen) (hq : pc + 1 = q) (hx : z_rw a (σ a) (ρ a) = some (.inl (ty, x))) (k : z_E d M q L (.int (Int32.ofNat x.1) :: S) (z_G h σ ρ) Q) : z_E d M pc L (.ref a :: S) (z_G h σ ρ) Q :=
  e_alen ho hq (z_G_fix hx) k
theorem g_ald {ty : FieldType} {a n : Nat} {i : Int32} (ho : z_op M pc = o_ald ty) (hq : pc + 1 = q) (hx : z_rw a (σ a) (ρ a) = some (.inl (ty, n, .inl (σ a)))) (hi : vp_in i n) (k : z_E d M q L (.int (σ a i.toNatClampNeg) :: S) (z_G h σ ρ) Q) : z_E d M pc L (.int i :: .ref a :: S) (z_G h σ ρ) Q :=
  e_ald ho hq (z_G_fix hx) hi k
theorem g_aast {ty : FieldType} {a n : Nat} {i x : Int32} (ho : z_op M pc = o_aast ty) (hq : pc + 1 = q) (hx : ∀ s, z_rw a s (ρ a) = some (.inl (ty, n, .inl s))) (hi : vp_in i n) (k : z_E d M q L S (z_G h (z_us σ a (upd (σ a) i.toNatClampNeg (vp_nar ty x))) ρ) Q) : z_E d M pc L (.int x :: .int i :: .ref a :: S) (z_G h σ ρ) Q := by
  refine e_aast ho hq (z_G_fix (hx (σ a))) hi ?_
  rw [z_G_put (σ' := z_us σ a (upd (σ a) i.toNatClampNeg (vp_nar ty x))) (ρ' := ρ) (by rw [z_us_eq]; exact hx _) (fun j e => z_us_ne _ _ e) (fun _ _ => rfl)]
  exact k
theorem g_rld {C : String} {a n : Nat} {i : Int32} (ho : z_op M pc = o_rld C) (hq : pc + 1 = q) (hx : z_rw a (σ a) (ρ a) = some (.inl (.object C, n, .inr (.inr (.inr (.inr (ρ a))))))) (hi : vp_in i n) (k : z_E d M q L (va_rf (ρ a i.toNatClampNeg) :: S) (z_G h σ ρ) Q) : z_E d M pc L (.int i :: .ref a :: S) (z_G h σ ρ) Q :=
  e_rld ho hq (z_G_fix hx) hi k
theorem g_rst {C : String} {ci a n v : Nat} {vs : List Value} {i : Int32} (ho : z_op M pc = o_rst C ci) (hq : pc + 1 = q) (hx : ∀ r, z_rw a (σ a) r = some (.inl (.object C, n, .inr (.inr (.inr (.inr r)))))) (hv : (z_G h σ ρ).1 v = some (.inr (ci, vs))) (hi : vp_in i n) (k : z_E d M q L S (z_G h σ (z_us ρ a (va_up (ρ a) i.toNatClampNeg (some v)))) Q) : z_E d M pc L (.ref v :: .int i :: .ref a :: S) (z_G h σ ρ) Q := by
  refine e_rst ho hq (z_G_fix (hx (ρ a))) hv hi ?_
  rw [z_G_put (σ' := σ) (ρ' := z_us ρ a (va_up (ρ a) i.toNatClampNeg (some v))) (by rw [z_us_eq]; exact hx _) (fun _ _ => rfl) (fun j e => z_us_ne _ _ e)]
  exact k
/-- reads and writes of cells that were made later -/
theorem d_get {ci j a : Nat} {fs : List Value} {v : Value} (ho : z_op M pc = o_get ci j) (hq : pc + 3 = q) (h52 : 52 ≤ a) (hx : h.1 a = some (.inr (ci, fs))) (hv : fs[j]? = some v) (k : z_E d M q L (v :: S) (z_G h σ ρ) Q) : z_E d M pc L (.ref a :: S) (z_G h σ ρ) Q :=
  e_get ho hq ((z_G_dyn h52).trans hx) hv k
theorem d_put {ci j a : Nat} {ty : FieldType} {fs fs' : List Value} {v : Value} (ho : z_op M pc = o_put ci j ty) (hq : pc + 3 = q) (h52 : 52 ≤ a) (hx : h.1 a = some (.inr (ci, fs))) (hv : z_fit ty v) (hf : fs.set j v = fs') (k : z_E d M q L S (z_G (z_st h a (.inr (ci, fs'))) σ ρ) Q) : z_E d M pc L (v :: .ref a :: S) (z_G h σ ρ) Q := by
  refine e_put ho hq ((z_G_dyn h52).trans hx) hv hf ?_
  rw [z_G_putd h52]
  exact k
theorem d_ald {ty : FieldType} {a n : Nat} {f : Nat → Int32} {i : Int32} (ho : z_op M pc = o_ald ty) (hq : pc + 1 = q) (h52 : 52 ≤ a) (hx : h.1 a = some (.inl (ty, n, .inl f))) (hi : vp_in i n) (k : z_E d M q L (.int (f i.toNatClampNeg) :: S) (z_G h σ ρ) Q) : z_E d M pc L (.int i :: .ref a :: S) (z_G h σ ρ) Q :=
  e_ald ho hq ((z_G_dyn h52).trans hx) hi k
theorem d_aast {ty : FieldType} {a n : Nat} {f : Nat → Int32} {i x : Int32} (ho : z_op M pc = o_aast ty) (hq : pc + 1 = q) (h52 : 52 ≤ a) (hx : h.1 a = some (.inl (ty, n, .inl f))) (hi : vp_in i n) (k : z_E d M q L S (z_G (z_st h a (.inl (ty, n, .inl (upd f i.toNatClampNeg (vp_nar ty x))))) σ ρ) Q) : z_E d M pc L (.int x :: .int i :: .ref a :: S) (z_G h σ ρ) Q := by
  refine e_aast ho hq ((z_G_dyn h52).trans hx) hi ?_
  rw [z_G_putd h52]
  exact k
theorem d_rld {C : String} {a n : Nat} {f : Nat → Option Nat} {i : Int32} (ho : z_op M pc = o_rld C) (hq : pc + 1 = q) (h52 : 52 ≤ a) (hx : h.1 a = some (.inl (.object C, n, .inr (.inr (.inr (.inr f)))))) (hi : vp_in i n) (k : z_E d M q L (va_rf (f i.toNatClampNeg) :: S) (z_G h σ ρ) Q) : z_E d M pc L (.int i :: .ref a :: S) (z_G h σ ρ) Q :=
  e_rld ho hq ((z_G_dyn h52).trans hx) hi k
theorem d_rst {C : String} {ci a n v : Nat} {vs : List Value} {f : Nat → Option Nat} {i : Int32} (ho : z_op M pc = o_rst C ci) (hq : pc + 1 = q) (h52 : 52 ≤ a) (hx : h.1 a = some (.inl (.object C, n, .inr (.inr (.inr (.inr f)))))) (hv : (z_G h σ ρ).1 v = some (.inr (ci, vs))) (hi : vp_in i n) (k : z_E d M q L S (z_G (z_st h a (.inl (.object C, n, .inr (.inr (.inr (.inr (va_up f i.toNatClampNeg (some v)))))))) σ ρ) Q) : z_E d M pc L (.ref v :: .int i :: .ref a :: S) (z_G h σ ρ) Q := by
  refine e_rst ho hq ((z_G_dyn h52).trans hx) hv hi ?_
  rw [z_G_putd h52]
  exact k
theorem d_new {ci n a : Nat} {fs : List Value} (ho : z_op M pc = o_new ci n fs) (hq : pc + 3 = q) (h52 : 52 ≤ h.2.1) (ha : h.2.1 = a) (k : z_E d M q L (.ref a :: S) (z_G (z_al h (.inr (ci, fs)) n) σ ρ) Q) : z_E d M pc L S (z_G h σ ρ) Q := by
  refine e_new ho hq ha ?_
  rw [z_G_al h52]
  exact k
theorem d_newa {ty : FieldType} {n : Int32} {N a : Nat} (ho : z_op M pc = o_newa ty) (hq : pc + 2 = q) (h0 : ¬ n < 0) (h1 : n.toNatClampNeg = N) (h2 : N ≤ 100000) (h52 : 52 ≤ h.2.1) (ha : h.2.1 = a) (k : z_E d M q L (.ref a :: S) (z_G (z_al h (.inl (ty, N, .inl (fun _ => 0))) N) σ ρ) Q) : z_E d M pc L (.int n :: S) (z_G h σ ρ) Q := by
  refine e_newa ho hq h0 h1 h2 ha ?_
  rw [z_G_al h52]
  exact k
theorem d_anew {C : String} {n : Int32} {N a : Nat} (ho : z_op M pc = o_anew C) (hq : pc + 3 = q) (h0 : ¬ n < 0) (h1 : n.toNatClampNeg = N) (h2 : N ≤ 100000) (h52 : 52 ≤ h.2.1) (ha : h.2.1 = a) (k : z_E d M q L (.ref a :: S) (z_G (z_al h (.inl (.object C, N, .inr (.inr (.inr (.inr (fun _ => none)))))) N) σ ρ) Q) : z_E d M pc L (.int n :: S) (z_G h σ ρ) Q := by
  refine e_anew ho hq h0 h1 h2 ha ?_
  rw [z_G_al h52]
  exact k
/-- calls on fixed cells, and on cells that were made later -/
theorem g_cv {M' ci n b : Nat} {as fs S0 : List Value} {P : zR → Prop} (ho : z_op M pc = o_cv M' ci n) (hS : S0 = as.reverse ++ .ref b :: S) (hn : as.length = n) (hb : z_rw b (σ b) (ρ b) = some (.inr (ci, fs))) (hc : Nat.ble (z_cat S) 8 = true) (hM : z_M d M' (.ref b :: as) (z_G h σ ρ) P) (hq : pc + 3 = q) (k : ∀ r, P r → z_E d M q L (r.1.toList ++ S) r.2 Q) : z_E d M pc L S0 (z_G h σ ρ) Q :=
  e_cv ho hS hn (z_G_fix hb) (Nat.le_of_ble_eq_true hc) hM hq k
theorem d_cv {M' ci n b : Nat} {as fs S0 : List Value} {P : zR → Prop} (ho : z_op M pc = o_cv M' ci n) (hS : S0 = as.reverse ++ .ref b :: S) (hn : as.length = n) (h52 : 52 ≤ b) (hb : h.1 b = some (.inr (ci, fs))) (hc : Nat.ble (z_cat S) 8 = true) (hM : z_M d M' (.ref b :: as) (z_G h σ ρ) P) (hq : pc + 3 = q) (k : ∀ r, P r → z_E d M q L (r.1.toList ++ S) r.2 Q) : z_E d M pc L S0 (z_G h σ ρ) Q :=
  e_cv ho hS hn ((z_G_dyn h52).trans hb) (Nat.le_of_ble_eq_true hc) hM hq k
end zGr
