/-! A pure machine over addresses that begin at 0: configurations, operations as predicate transformers, no bytes. 0: the script; 1, 2, ..: cells in the order of their making. -/
abbrev zE : Type := (FieldType × vp_A) ⊕ (Nat × List Value)
abbrev zH : Type := (Nat → Option zE) × Nat × Nat
abbrev zL : Type := List (Option Value)
abbrev zR : Type := Option Value × zH
abbrev zC : Type := Nat → List Value → zH → zR → Prop
abbrev zK : Type := Nat → zL → List Value → zH → Prop
abbrev zO : Type := zC → zK → (zR → Prop) → Nat → zL → List Value → zH → Prop
def z_up (g : Nat → Option zE) (a : Nat) (x : zE) : Nat → Option zE := fun j => if j = a then some x else g j
def z_st (h : zH) (a : Nat) (x : zE) : zH := (z_up h.1 a x, h.2.1, h.2.2)
def z_al (h : zH) (x : zE) (n : Nat) : zH := (z_up h.1 h.2.1 x, h.2.1 + 1, h.2.2 + n)
def z_cat (S : List Value) : Nat := (S.map fun v => v.category).sum
/-- storing at place i: a long that stands just before it goes (fx: the method has longs) -/
def z_fx (L : zL) (i : Nat) (fx : Bool) : zL := match fx with
  | false => L
  | true => match i with
    | 0 => L
    | j + 1 => match L[j]? with
      | some (some v) => match v.category with
        | 2 => L.set j none
        | _ => L
      | _ => L
def z_fit (ty : FieldType) (v : Value) : Prop := match ty with
  | .int => ∃ x, v = .int x
  | .boolean => v = .int 0 ∨ v = .int 1
  | .long => ∃ x, v = .long x
  | .object _ => v = .null ∨ ∃ a, v = .ref a
  | .array _ => v = .null ∨ ∃ a, v = .ref a
  | _ => False
def o_bad : zO := fun _ _ _ _ _ _ _ => False
def o_const (w : Nat) (v : Value) : zO := fun _ k _ pc L S h => k (pc + w) L (v :: S) h
def o_iload (w i : Nat) : zO := fun _ k _ pc L S h => ∃ x : Int32, L[i]? = some (some (.int x)) ∧ k (pc + w) L (.int x :: S) h
def o_lload (w i : Nat) : zO := fun _ k _ pc L S h => ∃ x : Int64, L[i]? = some (some (.long x)) ∧ k (pc + w) L (.long x :: S) h
def o_aload (w i : Nat) : zO := fun _ k _ pc L S h => ∃ q : Option Nat, L[i]? = some (some (va_rf q)) ∧ k (pc + w) L (va_rf q :: S) h
def o_ist (w i : Nat) (fx : Bool) : zO := fun _ k _ pc L S h => ∃ (x : Int32) (S' : List Value), S = .int x :: S' ∧ i < L.length ∧ k (pc + w) ((z_fx L i fx).set i (some (.int x))) S' h
def o_ast (w i : Nat) (fx : Bool) : zO := fun _ k _ pc L S h => ∃ (q : Option Nat) (S' : List Value), S = va_rf q :: S' ∧ i < L.length ∧ k (pc + w) ((z_fx L i fx).set i (some (va_rf q))) S' h
def o_lst (w i : Nat) : zO := fun _ k _ pc L S h => ∃ (x : Int64) (S' : List Value), S = .long x :: S' ∧ i + 1 < L.length ∧ k (pc + w) (((z_fx L i true).set i (some (.long x))).set (i + 1) none) S' h
def o_iinc (i : Nat) (n : Int32) : zO := fun _ k _ pc L S h => ∃ x : Int32, L[i]? = some (some (.int x)) ∧ k (pc + 3) (L.set i (some (.int (x + n)))) S h
def o_ib (f : Int32 → Int32 → Int32) : zO := fun _ k _ pc L S h => ∃ (x y : Int32) (S' : List Value), S = .int y :: .int x :: S' ∧ k (pc + 1) L (.int (f x y) :: S') h
def o_ibn (f : Int32 → Int32 → Int32) : zO := fun _ k _ pc L S h => ∃ (x y : Int32) (S' : List Value), S = .int y :: .int x :: S' ∧ ¬ y = 0 ∧ k (pc + 1) L (.int (f x y) :: S') h
def o_lb (f : Int64 → Int64 → Int64) : zO := fun _ k _ pc L S h => ∃ (x y : Int64) (S' : List Value), S = .long y :: .long x :: S' ∧ k (pc + 1) L (.long (f x y) :: S') h
def o_lbn (f : Int64 → Int64 → Int64) : zO := fun _ k _ pc L S h => ∃ (x y : Int64) (S' : List Value), S = .long y :: .long x :: S' ∧ ¬ y = 0 ∧ k (pc + 1) L (.long (f x y) :: S') h
def o_i1 (f : Int32 → Int32) : zO := fun _ k _ pc L S h => ∃ (x : Int32) (S' : List Value), S = .int x :: S' ∧ k (pc + 1) L (.int (f x) :: S') h
def o_i2l : zO := fun _ k _ pc L S h => ∃ (x : Int32) (S' : List Value), S = .int x :: S' ∧ k (pc + 1) L (.long x.toInt64 :: S') h
def o_l2i : zO := fun _ k _ pc L S h => ∃ (x : Int64) (S' : List Value), S = .long x :: S' ∧ k (pc + 1) L (.int x.toInt32 :: S') h
def o_lcmp : zO := fun _ k _ pc L S h => ∃ (x y : Int64) (S' : List Value), S = .long y :: .long x :: S' ∧ k (pc + 1) L (.int (lg_cmp x y) :: S') h
def o_dup : zO := fun _ k _ pc L S h => ∃ (v : Value) (S' : List Value), S = v :: S' ∧ v.category = 1 ∧ k (pc + 1) L (v :: v :: S') h
def o_dupx1 : zO := fun _ k _ pc L S h => ∃ (v w : Value) (S' : List Value), S = v :: w :: S' ∧ v.category = 1 ∧ w.category = 1 ∧ k (pc + 1) L (v :: w :: v :: S') h
def o_dup2 : zO := fun _ k _ pc L S h => ∃ (v w : Value) (S' : List Value), S = v :: w :: S' ∧ v.category = 1 ∧ w.category = 1 ∧ k (pc + 1) L (v :: w :: v :: w :: S') h
def o_pop : zO := fun _ k _ pc L S h => ∃ (v : Value) (S' : List Value), S = v :: S' ∧ v.category = 1 ∧ k (pc + 1) L S' h
def o_if (c : Int32 → Prop) (tgt : Nat) : zO := fun _ k _ pc L S h => ∃ (x : Int32) (S' : List Value), S = .int x :: S' ∧ (c x → k tgt L S' h) ∧ (¬ c x → k (pc + 3) L S' h)
def o_ic (c : Int32 → Int32 → Prop) (tgt : Nat) : zO := fun _ k _ pc L S h => ∃ (x y : Int32) (S' : List Value), S = .int y :: .int x :: S' ∧ (c x y → k tgt L S' h) ∧ (¬ c x y → k (pc + 3) L S' h)
/-- ifnull -/
def o_nul (tgt : Nat) : zO := fun _ k _ pc L S h => ∃ (q : Option Nat) (S' : List Value), S = va_rf q :: S' ∧ (q = none → k tgt L S' h) ∧ (∀ a, q = some a → k (pc + 3) L S' h)
/-- ifnonnull -/
def o_nn (tgt : Nat) : zO := fun _ k _ pc L S h => ∃ (q : Option Nat) (S' : List Value), S = va_rf q :: S' ∧ (q = none → k (pc + 3) L S' h) ∧ (∀ a, q = some a → k tgt L S' h)
/-- if_acmp: e for eq -/
def o_ac (eq : Bool) (tgt : Nat) : zO := fun _ k _ pc L S h => ∃ (x y : Option Nat) (S' : List Value), S = va_rf y :: va_rf x :: S' ∧ (x = y → k (if eq then tgt else pc + 3) L S' h) ∧ (¬ x = y → k (if eq then pc + 3 else tgt) L S' h)
def o_goto (tgt : Nat) : zO := fun _ k _ _ L S h => k tgt L S h
def o_tab (lo : Int) (tg : List Nat) (dflt : Nat) : zO := fun _ k _ _ L S h => ∃ (x : Int32) (S' : List Value), S = .int x :: S' ∧ (∀ (j t : Nat), tg[j]? = some t → x.toInt = lo + j → k t L S' h) ∧ ((x.toInt < lo ∨ lo + tg.length ≤ x.toInt) → k dflt L S' h)
def o_get (ci j : Nat) : zO := fun _ k _ pc L S h => ∃ (a : Nat) (fs : List Value) (v : Value) (S' : List Value), S = .ref a :: S' ∧ h.1 a = some (.inr (ci, fs)) ∧ fs[j]? = some v ∧ k (pc + 3) L (v :: S') h
def o_put (ci j : Nat) (ty : FieldType) : zO := fun _ k _ pc L S h => ∃ (a : Nat) (fs : List Value) (v : Value) (S' : List Value), S = v :: .ref a :: S' ∧ h.1 a = some (.inr (ci, fs)) ∧ z_fit ty v ∧ k (pc + 3) L S' (z_st h a (.inr (ci, fs.set j v)))
def o_new (ci n : Nat) (fs : List Value) : zO := fun _ k _ pc L S h => k (pc + 3) L (.ref h.2.1 :: S) (z_al h (.inr (ci, fs)) n)
def o_newa (ty : FieldType) : zO := fun _ k _ pc L S h => ∃ (n : Int32) (S' : List Value), S = .int n :: S' ∧ ¬ n < 0 ∧ n.toNatClampNeg ≤ 100000 ∧ k (pc + 2) L (.ref h.2.1 :: S') (z_al h (.inl (ty, n.toNatClampNeg, .inl (fun _ => 0))) n.toNatClampNeg)
def o_anew (C : String) : zO := fun _ k _ pc L S h => ∃ (n : Int32) (S' : List Value), S = .int n :: S' ∧ ¬ n < 0 ∧ n.toNatClampNeg ≤ 100000 ∧ k (pc + 3) L (.ref h.2.1 :: S') (z_al h (.inl (.object C, n.toNatClampNeg, .inr (.inr (.inr (.inr (fun _ => none)))))) n.toNatClampNeg)
def o_alen : zO := fun _ k _ pc L S h => ∃ (a : Nat) (ty : FieldType) (x : vp_A) (S' : List Value), S = .ref a :: S' ∧ h.1 a = some (.inl (ty, x)) ∧ k (pc + 1) L (.int (Int32.ofNat x.1) :: S') h
def o_ald (ty : FieldType) : zO := fun _ k _ pc L S h => ∃ (a n : Nat) (f : Nat → Int32) (i : Int32) (S' : List Value), S = .int i :: .ref a :: S' ∧ h.1 a = some (.inl (ty, n, .inl f)) ∧ vp_in i n ∧ k (pc + 1) L (.int (f i.toNatClampNeg) :: S') h
def o_aast (ty : FieldType) : zO := fun _ k _ pc L S h => ∃ (a n : Nat) (f : Nat → Int32) (i x : Int32) (S' : List Value), S = .int x :: .int i :: .ref a :: S' ∧ h.1 a = some (.inl (ty, n, .inl f)) ∧ vp_in i n ∧ k (pc + 1) L S' (z_st h a (.inl (ty, n, .inl (upd f i.toNatClampNeg (vp_nar ty x)))))
def o_rld (C : String) : zO := fun _ k _ pc L S h => ∃ (a n : Nat) (f : Nat → Option Nat) (i : Int32) (S' : List Value), S = .int i :: .ref a :: S' ∧ h.1 a = some (.inl (.object C, n, .inr (.inr (.inr (.inr f))))) ∧ vp_in i n ∧ k (pc + 1) L (va_rf (f i.toNatClampNeg) :: S') h
def o_rst (C : String) (ci : Nat) : zO := fun _ k _ pc L S h => ∃ (a n v : Nat) (vs : List Value) (f : Nat → Option Nat) (i : Int32) (S' : List Value), S = .ref v :: .int i :: .ref a :: S' ∧ h.1 a = some (.inl (.object C, n, .inr (.inr (.inr (.inr f))))) ∧ h.1 v = some (.inr (ci, vs)) ∧ vp_in i n ∧ k (pc + 1) L S' (z_st h a (.inl (.object C, n, .inr (.inr (.inr (.inr (va_up f i.toNatClampNeg (some v))))))))
/-- calls: a virtual one, a static one, a constructor -/
def o_cv (M ci n : Nat) : zO := fun c k _ pc L S h => ∃ (as : List Value) (b : Nat) (S' : List Value) (fs : List Value) (r : zR), S = as.reverse ++ .ref b :: S' ∧ as.length = n ∧ h.1 b = some (.inr (ci, fs)) ∧ z_cat S' ≤ 8 ∧ c M (.ref b :: as) h r ∧ k (pc + 3) L (r.1.toList ++ S') r.2
def o_cs (M n : Nat) : zO := fun c k _ pc L S h => ∃ (as : List Value) (S' : List Value) (r : zR), S = as.reverse ++ S' ∧ as.length = n ∧ z_cat S' ≤ 8 ∧ c M as h r ∧ k (pc + 3) L (r.1.toList ++ S') r.2
def o_ci (M n : Nat) : zO := fun c k _ pc L S h => ∃ (as : List Value) (b : Nat) (S' : List Value) (r : zR), S = as.reverse ++ .ref b :: S' ∧ as.length = n ∧ z_cat S' ≤ 8 ∧ c M (.ref b :: as) h r ∧ k (pc + 3) L (r.1.toList ++ S') r.2
def o_obj : zO := fun _ k _ pc L S h => ∃ (a : Nat) (S' : List Value), S = .ref a :: S' ∧ z_cat S' ≤ 8 ∧ k (pc + 3) L S' h
/-- ends: an int (of a type), a reference, nothing -/
def o_iret (ty : FieldType) : zO := fun _ _ t _ _ S h => ∃ x : Int32, S = [.int x] ∧ z_fit ty (.int x) ∧ t (some (.int x), h)
def o_aret : zO := fun _ _ t _ _ S h => ∃ q : Option Nat, S = [va_rf q] ∧ t (some (va_rf q), h)
def o_vret : zO := fun _ _ t _ _ S h => S = [] ∧ t (none, h)
