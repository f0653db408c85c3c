/-! The pure machine is sound: what it runs to, the real machine runs to. -/
def z_ad (scr B a : Nat) : Nat := if a = 0 then scr else B + a
def z_v (scr B : Nat) (v : Value) : Value := match v with
  | .ref a => .ref (z_ad scr B a)
  | w => w
def z_x (scr B : Nat) (x : vp_A) : vp_A := match x with
  | (n, .inr (.inr (.inr (.inr f)))) => (n, .inr (.inr (.inr (.inr (fun j => (f j).map (z_ad scr B))))))
  | y => y
def z_cell (scr B : Nat) (D : va_G) (s : State) (H : Heap) (a : Nat) (x : zE) : Prop := match x with
  | .inl t => (a = 0 ∧ t.1 = .array .int ∧ ∃ f, t.2.2 = .inl f ∧ va_X scr t.2.1 f s H) ∨ (a ≠ 0 ∧ t.1 ≠ .array .int ∧ ∃ cA : ClassId, ArrOfT s cA t.1 ∧ va_RA s cA t.1 ∧ H[B + a]? = some (vp_cell cA (z_x scr B t.2)))
  | .inr o => a ≠ 0 ∧ ∃ r : vw_C, zcl[o.1]? = some r ∧ o.2.length = r.2.2 ∧ t_OB (B + a) (D.1 o.1) r.2.2 (D.2 o.1) H (vp_V (o.2.map (z_v scr B)))
def z_rel (scr B : Nat) (D : va_G) (s : State) (h : zH) (H : Heap) : Prop := H.size = B + h.2.1 ∧ 1 ≤ h.2.1 ∧ scr ≤ B ∧ ∀ (a : Nat) (x : zE), h.1 a = some x → z_cell scr B D s H a x
def z_fr (B : Nat) (s : State) (H : Heap) : Prop := ∀ q : Nat, q ≤ B → H[q]? = s.heap[q]?
def z_loc (scr B M : Nat) (L : zL) (ls : Array Slot) : Prop := ls.size = z_ml M ∧ lv_wf ls ∧ L.length = z_ml M ∧ (∀ (i : Nat) (v : Value), L[i]? = some (some v) → ls[i]? = some (.val (z_v scr B v))) ∧ (z_lp M = false → ∀ (i : Nat) (v : Value), L[i]? = some (some v) → v.category = 1)
def z_ctx (D : va_G) (M d : Nat) (p : Program) (R : Room) (s : State) (m : MethodId) (args : Array Value) (meth : Method) (c : Code) : Prop :=
  p.tables.exec = Jvm.exec ∧ c.code = z_by M ∧ c.maxLocals = z_ml M ∧ meth.sig.returnType = z_rt M ∧ meth.locks = false ∧ s.vm.findClass (z_y M).cls = some m.cls ∧ (∀ w ∈ z_ws, w.before args s = true) ∧ va_K D zcl [] s ∧ ((z_y M).name = "<init>" → meth.name = "<init>") ∧ d + 1 ≤ R.frames ∧ (d + 1) * 40 ≤ R.locals
def z_rok (M pc : Nat) (v : Option Value) : Prop := (v = none ∧ z_rt M = none ∧ decode (z_by M) pc = .ok (.return_, 1)) ∨ (∃ (x : Int32) (ty : FieldType), v = some (.int x) ∧ z_rt M = some ty ∧ narrow ty (.int x) = .int x ∧ decode (z_by M) pc = .ok (.ireturn, 1)) ∨ ∃ (q : Option Nat) (n : String), v = some (va_rf q) ∧ z_rt M = some (.object n) ∧ decode (z_by M) pc = .ok (.areturn, 1)
def z_fin (l : Launch) (scr B : Nat) (D : va_G) (M : Nat) (r : zR) (p : Program) (e : Env) (R : Room) (s : State) (m : MethodId) (args : Array Value) (below : List Frame) (meth : Method) (c : Code) (n0 s0 : Nat) (Q : State → Prop) : Prop :=
  ∀ (H : Heap) (locs : List Loc) (cells slots pc : Nat) (ls : Array Slot), z_rel scr B D s r.2 H → z_fr B s H → (∀ x ∈ locs, B < x.base) → cells + n0 = r.2.2.1 → slots + s0 = r.2.2.2 → z_rok M pc r.1 → W p l e R s m args below meth c H locs cells slots Q (F0 m pc ls (r.1.toList.map (z_v scr B)))
def z_W (l : Launch) (scr B : Nat) (D : va_G) (d M pc : Nat) (L : zL) (S : List Value) (h : zH) (r : zR) : Prop := (h.2.1 ≤ r.2.2.1 ∧ h.2.2 ≤ r.2.2.2) ∧
  ∀ (p : Program) (e : Env) (R : Room) (s : State) (m : MethodId) (args : Array Value) (below : List Frame) (meth : Method) (c : Code) (H : Heap) (locs : List Loc) (cells slots : Nat) (ls : Array Slot) (Q : State → Prop) (n0 s0 : Nat),
    z_ctx D M d p R s m args meth c → z_loc scr B M L ls → z_rel scr B D s h H → z_fr B s H → (∀ x ∈ locs, B < x.base) → cells + n0 = h.2.1 → slots + s0 = h.2.2 → r.2.2.1 ≤ n0 + R.cells → r.2.2.2 ≤ s0 + R.slots →
    z_fin l scr B D M r p e R s m args below meth c n0 s0 Q → W p l e R s m args below meth c H locs cells slots Q (F0 m pc ls (S.map (z_v scr B)))
def z_cr (l : Launch) (scr B : Nat) (D : va_G) (d : Nat) : zC := fun M' as h' r' => ∃ d', d = d' + 1 ∧ z_aok M' as ∧ z_W l scr B D d' M' 0 (z_ent M' as) [] h' r'
def z_OK (l : Launch) (scr B : Nat) (D : va_G) (M pc : Nat) (o : zO) : Prop := ∀ (d : Nat) (L : zL) (S : List Value) (h : zH) (r : zR), o (z_cr l scr B D d) (fun pc' L' S' h' => z_W l scr B D d M pc' L' S' h' r) (fun r' => r' = r) pc L S h → z_W l scr B D d M pc L S h r
theorem z_v_cat (scr B : Nat) (v : Value) : (z_v scr B v).category = v.category := by cases v <;> rfl
theorem z_cat_map (scr B : Nat) (S : List Value) : ((S.map (z_v scr B)).map fun v => v.category).sum = z_cat S := by
  rw [List.map_map, z_cat]
  congr 1
  exact List.map_congr_left fun v _ => z_v_cat scr B v
theorem z_cell.kept {scr B : Nat} {D : va_G} {s : State} {H H' : Heap} {b : Nat} {y : zE} (hc : z_cell scr B D s H b y) (h0 : H'[scr]? = H[scr]?) (hq : b ≠ 0 → H'[B + b]? = H[B + b]?) : z_cell scr B D s H' b y := by
  cases y with
  | inl t =>
    rcases hc with ⟨e1, e2, f, e3, hX⟩ | ⟨e1, e2, cA, a1, a2, a3⟩
    · exact Or.inl ⟨e1, e2, f, e3, hX.kept h0⟩
    · exact Or.inr ⟨e1, e2, cA, a1, a2, (hq e1).trans a3⟩
  | inr o =>
    obtain ⟨e1, r, h1, h2, h3⟩ := hc
    exact ⟨e1, r, h1, h2, h3.kept (hq e1)⟩
theorem z_cell.moved {scr B : Nat} {D : va_G} {u U : State} {H : Heap} {b : Nat} {y : zE} (hvm : u.vm.Alike U.vm) (hc : z_cell scr B D u H b y) : z_cell scr B D U H b y := by
  cases y with
  | inl t =>
    rcases hc with ⟨e1, e2, f, e3, hX⟩ | ⟨e1, e2, cA, a1, a2, a3⟩
    · exact Or.inl ⟨e1, e2, f, e3, hX.moved hvm⟩
    · exact Or.inr ⟨e1, e2, cA, arrOfT_moved hvm a1, a2.moved hvm, a3⟩
  | inr o => exact hc
theorem z_rel.moved {scr B : Nat} {D : va_G} {u U : State} {h : zH} {H : Heap} (hvm : u.vm.Alike U.vm) (hr : z_rel scr B D u h H) : z_rel scr B D U h H := ⟨hr.1, hr.2.1, hr.2.2.1, fun a x hx => (hr.2.2.2 a x hx).moved hvm⟩
theorem z_rel.put {scr B : Nat} {D : va_G} {s : State} {h : zH} {H H' : Heap} {a : Nat} {x : zE} (hr : z_rel scr B D s h H) (h0 : a ≠ 0) (hz : H'.size = H.size) (ho : ∀ q, q ≠ B + a → H'[q]? = H[q]?) (hx : z_cell scr B D s H' a x) : z_rel scr B D s (z_st h a x) H' := by
  refine ⟨hz.trans hr.1, hr.2.1, hr.2.2.1, fun b y hb => ?_⟩
  have hs := hr.2.2.1
  by_cases e : b = a
  · subst e
    rw [show (z_st h b x).1 b = some x from z_up_self _ _ _] at hb
    cases hb
    exact hx
  · rw [show (z_st h a x).1 b = h.1 b from z_up_ne _ _ e] at hb
    exact (hr.2.2.2 b y hb).kept (ho _ (by omega)) (fun _ => ho _ (by omega))
theorem z_cell.lt {scr B : Nat} {D : va_G} {s : State} {H : Heap} {b : Nat} {y : zE} (hc : z_cell scr B D s H b y) (hb : b ≠ 0) : B + b < H.size := by
  cases y with
  | inl t =>
    rcases hc with ⟨e1, e2, f, e3, hX⟩ | ⟨e1, e2, cA, a1, a2, a3⟩
    · exact absurd e1 hb
    · exact (Array.getElem?_eq_some_iff.mp a3).1
  | inr o =>
    obtain ⟨e1, r, h1, h2, cell, h3, -⟩ := hc
    exact (Array.getElem?_eq_some_iff.mp h3).1
theorem z_rel.push {scr B : Nat} {D : va_G} {s : State} {h : zH} {H H' : Heap} {x : zE} {n : Nat} (hr : z_rel scr B D s h H) (hz : H'.size = H.size + 1) (ho : ∀ q, q < H.size → H'[q]? = H[q]?) (hx : z_cell scr B D s H' h.2.1 x) : z_rel scr B D s (z_al h x n) H' := by
  obtain ⟨r1, r2, r3, r4⟩ := hr
  refine ⟨by rw [hz, r1]; rfl, Nat.le_succ_of_le r2, r3, fun b y hb => ?_⟩
  by_cases e : b = h.2.1
  · subst e
    rw [show (z_al h x n).1 h.2.1 = some x from z_up_self _ _ _] at hb
    cases hb
    exact hx
  · rw [show (z_al h x n).1 b = h.1 b from z_up_ne _ _ e] at hb
    exact (r4 b y hb).kept (ho _ (by omega)) (fun hb0 => ho _ ((r4 b y hb).lt hb0))
theorem z_b0 : narrow .boolean (.int 0) = .int 0 ∧ fits .boolean (.int 0) = true := by decide +kernel
theorem z_b1 : narrow .boolean (.int 1) = .int 1 ∧ fits .boolean (.int 1) = true := by decide +kernel
theorem z_fit_v {scr B : Nat} {ty : FieldType} {v : Value} (h : z_fit ty v) : narrow ty (z_v scr B v) = z_v scr B v ∧ fits ty (z_v scr B v) = true := by
  cases ty with
  | int => obtain ⟨x, rfl⟩ := h; exact ⟨rfl, rfl⟩
  | boolean =>
    rcases h with rfl | rfl
    · exact z_b0
    · exact z_b1
  | long => obtain ⟨x, rfl⟩ := h; exact ⟨rfl, rfl⟩
  | object n => rcases h with rfl | ⟨a, rfl⟩ <;> exact ⟨rfl, rfl⟩
  | array n => rcases h with rfl | ⟨a, rfl⟩ <;> exact ⟨rfl, rfl⟩
  | _ => exact h.elim
theorem z_P1 {D : va_G} {cl : List vw_C} {q : Nat × va_E} {H : Heap} (h : va_at D cl q H) : va_P D cl [q] H := by
  intro k x hx
  cases k with
  | zero => cases hx; exact h
  | succ k => simp at hx
theorem z_K1 {D : va_G} {cl : List vw_C} {s : State} {cA : ClassId} {ty : FieldType} (h : va_K D cl [] s) (h1 : ArrOfT s cA ty) (h2 : va_RA s cA ty) : va_K D cl [(cA, ty)] s := by
  refine ⟨h.1, fun k x hx => ?_⟩
  cases k with
  | zero => cases hx; exact ⟨h1, h2⟩
  | succ k => simp at hx
theorem z_ad_inj {scr B x y : Nat} (hs : scr ≤ B) (h : z_ad scr B x = z_ad scr B y) : x = y := by
  unfold z_ad at h
  split at h <;> split at h <;> omega
section zSound
variable {l : Launch} {scr B : Nat} {D : va_G} {M pc : Nat}
theorem z_go {d pc' : Nat} {L : zL} {S S' : List Value} {h : zH} {r : zR}
    (row : ∀ (p : Program) (e : Env) (R : Room) (s : State) (m : MethodId) (args : Array Value) (below : List Frame) (meth : Method) (c : Code) (H : Heap) (locs : List Loc) (cells slots : Nat) (ls : Array Slot) (Q : State → Prop),
      z_ctx D M d p R s m args meth c → z_loc scr B M L ls → z_rel scr B D s h H →
      W p l e R s m args below meth c H locs cells slots Q (F0 m pc' ls (S'.map (z_v scr B))) → W p l e R s m args below meth c H locs cells slots Q (F0 m pc ls (S.map (z_v scr B))))
    (hk : z_W l scr B D d M pc' L S' h r) : z_W l scr B D d M pc L S h r :=
  ⟨hk.1, fun p e R s m args below meth c H locs cells slots ls Q n0 s0 C hl hr fr lo hc hs hR hR2 hF => row p e R s m args below meth c H locs cells slots ls Q C hl hr (hk.2 p e R s m args below meth c H locs cells slots ls Q n0 s0 C hl hr fr lo hc hs hR hR2 hF)⟩
theorem z_br {d pc1 pc2 : Nat} {L : zL} {S S' : List Value} {h : zH} {r : zR} (b : Prop)
    (row : ∀ (p : Program) (e : Env) (R : Room) (s : State) (m : MethodId) (args : Array Value) (below : List Frame) (meth : Method) (c : Code) (H : Heap) (locs : List Loc) (cells slots : Nat) (ls : Array Slot) (Q : State → Prop),
      z_ctx D M d p R s m args meth c → z_rel scr B D s h H →
      (b → W p l e R s m args below meth c H locs cells slots Q (F0 m pc1 ls (S'.map (z_v scr B)))) → (¬ b → W p l e R s m args below meth c H locs cells slots Q (F0 m pc2 ls (S'.map (z_v scr B)))) → W p l e R s m args below meth c H locs cells slots Q (F0 m pc ls (S.map (z_v scr B))))
    (kt : b → z_W l scr B D d M pc1 L S' h r) (kf : ¬ b → z_W l scr B D d M pc2 L S' h r) : z_W l scr B D d M pc L S h r := by
  refine ⟨?_, fun p e R s m args below meth c H locs cells slots ls Q n0 s0 C hl hr fr lo hc hs hR hR2 hF => row p e R s m args below meth c H locs cells slots ls Q C hr (fun hb => (kt hb).2 p e R s m args below meth c H locs cells slots ls Q n0 s0 C hl hr fr lo hc hs hR hR2 hF) (fun hb => (kf hb).2 p e R s m args below meth c H locs cells slots ls Q n0 s0 C hl hr fr lo hc hs hR hR2 hF)⟩
  by_cases hb : b
  · exact (kt hb).1
  · exact (kf hb).1
theorem ok_bad : z_OK l scr B D M pc o_bad := fun _ _ _ _ _ h => h.elim
theorem ok_iconst {n : Int} {v : Int32} (hdg : decode (z_by M) pc = .ok (.iconst n, 1)) (hv : Int32.ofInt n = v) : z_OK l scr B D M pc (o_const 1 (.int v)) :=
  fun _ _ _ _ _ hk => z_go (fun _ _ _ _ _ _ _ _ _ _ _ _ _ _ _ C _ _ k => lv_iconst C.1 C.2.1 hdg hv k) hk
theorem ok_bipush {n : Int} {v : Int32} (hdg : decode (z_by M) pc = .ok (.bipush n, 2)) (hv : (Int8.ofInt n).toInt32 = v) : z_OK l scr B D M pc (o_const 2 (.int v)) :=
  fun _ _ _ _ _ hk => z_go (fun _ _ _ _ _ _ _ _ _ _ _ _ _ _ _ C _ _ k => lv_bipush C.1 C.2.1 hdg hv k) hk
theorem ok_sipush {n : Int} {v : Int32} (hdg : decode (z_by M) pc = .ok (.sipush n, 3)) (hv : (Int16.ofInt n).toInt32 = v) : z_OK l scr B D M pc (o_const 3 (.int v)) :=
  fun _ _ _ _ _ hk => z_go (fun _ _ _ _ _ _ _ _ _ _ _ _ _ _ _ C _ _ k => lv_sipush C.1 C.2.1 hdg hv k) hk
theorem ok_lconst {n : Fin 2} {v : Int64} (hdg : decode (z_by M) pc = .ok (.lconst n, 1)) (hv : Int64.ofNat (n : Nat) = v) : z_OK l scr B D M pc (o_const 1 (.long v)) :=
  fun _ _ _ _ _ hk => z_go (fun _ _ _ _ _ _ _ _ _ _ _ _ _ _ _ C _ _ k => lv_lconst C.1 C.2.1 hdg hv k) hk
theorem ok_null (hdg : decode (z_by M) pc = .ok (.aconst_null, 1)) : z_OK l scr B D M pc (o_const 1 .null) :=
  fun _ _ _ _ _ hk => z_go (fun _ _ _ _ _ _ _ _ _ _ _ _ _ _ _ C _ _ k => lv_null C.1 C.2.1 hdg k) hk
theorem ok_ldc {idx : Nat} {v : Int32} (hdg : decode (z_by M) pc = .ok (.ldc idx, 2)) (hw : Jvm.Cond.constant (z_y M).cls idx v ∈ z_ws) : z_OK l scr B D M pc (o_const 2 (.int v)) :=
  fun _ _ _ _ _ hk => z_go (fun _ _ _ _ _ _ _ _ _ _ _ _ _ _ _ C _ _ k => lv_ldc C.1 C.2.1 C.2.2.2.2.2.1 (C.2.2.2.2.2.2.1 _ hw) hdg k) hk
theorem ok_ldc2 {idx : Nat} {v : Int64} (hdg : decode (z_by M) pc = .ok (.ldc2_w idx, 3)) (hw : Jvm.Cond.constantLong (z_y M).cls idx v ∈ z_ws) : z_OK l scr B D M pc (o_const 3 (.long v)) :=
  fun _ _ _ _ _ hk => z_go (fun _ _ _ _ _ _ _ _ _ _ _ _ _ _ _ C _ _ k => lv_ldc2 C.1 C.2.1 C.2.2.2.2.2.1 (C.2.2.2.2.2.2.1 _ hw) hdg k) hk
theorem ok_iload_n {n : Fin 4} {i : Nat} (hdg : decode (z_by M) pc = .ok (.iload_n n, 1)) (hi : (n : Nat) = i) : z_OK l scr B D M pc (o_iload 1 i) := by
  rintro d L S h r ⟨x, hx, hk⟩
  exact z_go (fun _ _ _ _ _ _ _ _ _ _ _ _ _ _ _ C hl _ k => lv_iload_n C.1 C.2.1 hdg hi (hl.2.2.2.1 i _ hx) k) hk
theorem ok_iload {i : Nat} (hdg : decode (z_by M) pc = .ok (.iload i, 2)) : z_OK l scr B D M pc (o_iload 2 i) := by
  rintro d L S h r ⟨x, hx, hk⟩
  exact z_go (fun _ _ _ _ _ _ _ _ _ _ _ _ _ _ _ C hl _ k => lv_iload C.1 C.2.1 hdg (hl.2.2.2.1 i _ hx) k) hk
theorem ok_lload_n {n : Fin 4} {i : Nat} (hdg : decode (z_by M) pc = .ok (.lload_n n, 1)) (hi : (n : Nat) = i) : z_OK l scr B D M pc (o_lload 1 i) := by
  rintro d L S h r ⟨x, hx, hk⟩
  exact z_go (fun _ _ _ _ _ _ _ _ _ _ _ _ _ _ _ C hl _ k => lv_lload_n C.1 C.2.1 hdg hi (hl.2.2.2.1 i _ hx) k) hk
theorem ok_lload {i : Nat} (hdg : decode (z_by M) pc = .ok (.lload i, 2)) : z_OK l scr B D M pc (o_lload 2 i) := by
  rintro d L S h r ⟨x, hx, hk⟩
  exact z_go (fun _ _ _ _ _ _ _ _ _ _ _ _ _ _ _ C hl _ k => lv_lload C.1 C.2.1 hdg (hl.2.2.2.1 i _ hx) k) hk
theorem ok_aload_n {n : Fin 4} {i : Nat} (hdg : decode (z_by M) pc = .ok (.aload_n n, 1)) (hi : (n : Nat) = i) : z_OK l scr B D M pc (o_aload 1 i) := by
  rintro d L S h r ⟨q, hx, hk⟩
  cases q with
  | none => exact z_go (fun _ _ _ _ _ _ _ _ _ _ _ _ _ _ _ C hl _ k => lv_aload_nN C.1 C.2.1 hdg hi (hl.2.2.2.1 i _ hx) k) hk
  | some a => exact z_go (fun _ _ _ _ _ _ _ _ _ _ _ _ _ _ _ C hl _ k => lv_aload_n C.1 C.2.1 hdg hi (hl.2.2.2.1 i _ hx) k) hk
theorem ok_aload {i : Nat} (hdg : decode (z_by M) pc = .ok (.aload i, 2)) : z_OK l scr B D M pc (o_aload 2 i) := by
  rintro d L S h r ⟨q, hx, hk⟩
  cases q with
  | none => exact z_go (fun _ _ _ _ _ _ _ _ _ _ _ _ _ _ _ C hl _ k => lv_aloadN C.1 C.2.1 hdg (hl.2.2.2.1 i _ hx) k) hk
  | some a => exact z_go (fun _ _ _ _ _ _ _ _ _ _ _ _ _ _ _ C hl _ k => lv_aload C.1 C.2.1 hdg (hl.2.2.2.1 i _ hx) k) hk
theorem ok_iadd (hdg : decode (z_by M) pc = .ok (.iadd, 1)) : z_OK l scr B D M pc (o_ib (fun x y => x + y)) := by
  rintro d L S h r ⟨x, y, S', rfl, hk⟩
  exact z_go (fun _ _ _ _ _ _ _ _ _ _ _ _ _ _ _ C _ _ k => lv_iadd C.1 C.2.1 hdg k) hk
theorem ok_isub (hdg : decode (z_by M) pc = .ok (.isub, 1)) : z_OK l scr B D M pc (o_ib (fun x y => x - y)) := by
  rintro d L S h r ⟨x, y, S', rfl, hk⟩
  exact z_go (fun _ _ _ _ _ _ _ _ _ _ _ _ _ _ _ C _ _ k => lv_isub C.1 C.2.1 hdg k) hk
theorem ok_imul (hdg : decode (z_by M) pc = .ok (.imul, 1)) : z_OK l scr B D M pc (o_ib (fun x y => x * y)) := by
  rintro d L S h r ⟨x, y, S', rfl, hk⟩
  exact z_go (fun _ _ _ _ _ _ _ _ _ _ _ _ _ _ _ C _ _ k => lv_imul C.1 C.2.1 hdg k) hk
theorem ok_iand (hdg : decode (z_by M) pc = .ok (.iand, 1)) : z_OK l scr B D M pc (o_ib (fun x y => x &&& y)) := by
  rintro d L S h r ⟨x, y, S', rfl, hk⟩
  exact z_go (fun _ _ _ _ _ _ _ _ _ _ _ _ _ _ _ C _ _ k => lv_iand C.1 C.2.1 hdg k) hk
theorem ok_ior (hdg : decode (z_by M) pc = .ok (.ior, 1)) : z_OK l scr B D M pc (o_ib (fun x y => x ||| y)) := by
  rintro d L S h r ⟨x, y, S', rfl, hk⟩
  exact z_go (fun _ _ _ _ _ _ _ _ _ _ _ _ _ _ _ C _ _ k => lv_ior C.1 C.2.1 hdg k) hk
theorem ok_ixor (hdg : decode (z_by M) pc = .ok (.ixor, 1)) : z_OK l scr B D M pc (o_ib (fun x y => x ^^^ y)) := by
  rintro d L S h r ⟨x, y, S', rfl, hk⟩
  exact z_go (fun _ _ _ _ _ _ _ _ _ _ _ _ _ _ _ C _ _ k => lv_ixor C.1 C.2.1 hdg k) hk
theorem ok_ishr (hdg : decode (z_by M) pc = .ok (.ishr, 1)) : z_OK l scr B D M pc (o_ib (fun x y => x >>> (y &&& 31))) := by
  rintro d L S h r ⟨x, y, S', rfl, hk⟩
  exact z_go (fun _ _ _ _ _ _ _ _ _ _ _ _ _ _ _ C _ _ k => lv_ishr C.1 C.2.1 hdg k) hk
theorem ok_ishl (hdg : decode (z_by M) pc = .ok (.ishl, 1)) : z_OK l scr B D M pc (o_ib (fun x y => x <<< (y &&& 31))) := by
  rintro d L S h r ⟨x, y, S', rfl, hk⟩
  exact z_go (fun _ _ _ _ _ _ _ _ _ _ _ _ _ _ _ C _ _ k => lv_ishl C.1 C.2.1 hdg k) hk
theorem ok_iushr (hdg : decode (z_by M) pc = .ok (.iushr, 1)) : z_OK l scr B D M pc (o_ib (fun x y => (x.toUInt32 >>> (y.toUInt32 &&& Int32.toUInt32 31)).toInt32)) := by
  rintro d L S h r ⟨x, y, S', rfl, hk⟩
  exact z_go (fun _ _ _ _ _ _ _ _ _ _ _ _ _ _ _ C _ _ k => lv_iushr C.1 C.2.1 hdg rfl k) hk
theorem ok_irem (hdg : decode (z_by M) pc = .ok (.irem, 1)) : z_OK l scr B D M pc (o_ibn (fun x y => x - x / y * y)) := by
  rintro d L S h r ⟨x, y, S', rfl, hy, hk⟩
  exact z_go (fun _ _ _ _ _ _ _ _ _ _ _ _ _ _ _ C _ _ k => lv_irem C.1 C.2.1 hdg hy k) hk
theorem ok_ladd (hdg : decode (z_by M) pc = .ok (.ladd, 1)) : z_OK l scr B D M pc (o_lb (fun x y => x + y)) := by
  rintro d L S h r ⟨x, y, S', rfl, hk⟩
  exact z_go (fun _ _ _ _ _ _ _ _ _ _ _ _ _ _ _ C _ _ k => lv_ladd C.1 C.2.1 hdg k) hk
theorem ok_lmul (hdg : decode (z_by M) pc = .ok (.lmul, 1)) : z_OK l scr B D M pc (o_lb (fun x y => x * y)) := by
  rintro d L S h r ⟨x, y, S', rfl, hk⟩
  exact z_go (fun _ _ _ _ _ _ _ _ _ _ _ _ _ _ _ C _ _ k => lv_lmul C.1 C.2.1 hdg k) hk
theorem ok_lrem (hdg : decode (z_by M) pc = .ok (.lrem, 1)) : z_OK l scr B D M pc (o_lbn (fun x y => x - x / y * y)) := by
  rintro d L S h r ⟨x, y, S', rfl, hy, hk⟩
  exact z_go (fun _ _ _ _ _ _ _ _ _ _ _ _ _ _ _ C _ _ k => lv_lrem C.1 C.2.1 hdg hy k) hk
theorem ok_i2c (hdg : decode (z_by M) pc = .ok (.i2c, 1)) : z_OK l scr B D M pc (o_i1 (fun x => (x.toUInt32 % 65536).toInt32)) := by
  rintro d L S h r ⟨x, S', rfl, hk⟩
  exact z_go (fun _ _ _ _ _ _ _ _ _ _ _ _ _ _ _ C _ _ k => lv_i2c C.1 C.2.1 hdg rfl k) hk
theorem ok_i2l (hdg : decode (z_by M) pc = .ok (.i2l, 1)) : z_OK l scr B D M pc o_i2l := by
  rintro d L S h r ⟨x, S', rfl, hk⟩
  exact z_go (fun _ _ _ _ _ _ _ _ _ _ _ _ _ _ _ C _ _ k => lv_i2l C.1 C.2.1 hdg rfl k) hk
theorem ok_l2i (hdg : decode (z_by M) pc = .ok (.l2i, 1)) : z_OK l scr B D M pc o_l2i := by
  rintro d L S h r ⟨x, S', rfl, hk⟩
  exact z_go (fun _ _ _ _ _ _ _ _ _ _ _ _ _ _ _ C _ _ k => lv_l2i C.1 C.2.1 hdg rfl k) hk
theorem ok_lcmp (hdg : decode (z_by M) pc = .ok (.lcmp, 1)) : z_OK l scr B D M pc o_lcmp := by
  rintro d L S h r ⟨x, y, S', rfl, hk⟩
  exact z_go (fun _ _ _ _ _ _ _ _ _ _ _ _ _ _ _ C _ _ k => W.lcmp C.1 C.2.1 hdg k) hk
theorem ok_dup (hdg : decode (z_by M) pc = .ok (.dup, 1)) : z_OK l scr B D M pc o_dup := by
  rintro d L S h r ⟨v, S', rfl, hv, hk⟩
  exact z_go (fun _ _ _ _ _ _ _ _ _ _ _ _ _ _ _ C _ _ k => lv_dup C.1 C.2.1 hdg ((z_v_cat _ _ _).trans hv) k) hk
theorem ok_dupx1 (hdg : decode (z_by M) pc = .ok (.dup_x1, 1)) : z_OK l scr B D M pc o_dupx1 := by
  rintro d L S h r ⟨v, w, S', rfl, hv, hw, hk⟩
  exact z_go (fun _ _ _ _ _ _ _ _ _ _ _ _ _ _ _ C _ _ k => lv_dup_x1 C.1 C.2.1 hdg ((z_v_cat _ _ _).trans hv) ((z_v_cat _ _ _).trans hw) k) hk
theorem ok_dup2 (hdg : decode (z_by M) pc = .ok (.dup2, 1)) : z_OK l scr B D M pc o_dup2 := by
  rintro d L S h r ⟨v, w, S', rfl, hv, hw, hk⟩
  exact z_go (fun _ _ _ _ _ _ _ _ _ _ _ _ _ _ _ C _ _ k => lv_dup2_11 C.1 C.2.1 hdg ((z_v_cat _ _ _).trans hv) ((z_v_cat _ _ _).trans hw) k) hk
theorem ok_pop (hdg : decode (z_by M) pc = .ok (.pop, 1)) : z_OK l scr B D M pc o_pop := by
  rintro d L S h r ⟨v, S', rfl, hv, hk⟩
  exact z_go (fun _ _ _ _ _ _ _ _ _ _ _ _ _ _ _ C _ _ k => lv_pop C.1 C.2.1 hdg ((z_v_cat _ _ _).trans hv) k) hk
theorem ok_goto {off : Int} {tgt : Nat} (hdg : decode (z_by M) pc = .ok (.goto off, 3)) (ht : (pc : Int) + off = (tgt : Int)) : z_OK l scr B D M pc (o_goto tgt) :=
  fun _ _ _ _ _ hk => z_go (fun _ _ _ _ _ _ _ _ _ _ _ _ _ _ _ C _ _ k => lv_goto C.1 C.2.1 hdg ht k) hk
theorem ok_if_eq {off : Int} {tgt : Nat} (hdg : decode (z_by M) pc = .ok (.ifCond .eq off, 3)) (ht : (pc : Int) + off = (tgt : Int)) : z_OK l scr B D M pc (o_if (fun x => x = 0) tgt) := by
  rintro d L S h r ⟨x, S', rfl, kt, kf⟩
  exact z_br (x = 0) (fun _ _ _ _ _ _ _ _ _ _ _ _ _ _ _ C _ k1 k2 => lv_if_eq C.1 C.2.1 hdg ht k1 k2) kt kf
theorem ok_ic_eq {off : Int} {tgt : Nat} (hdg : decode (z_by M) pc = .ok (.if_icmp .eq off, 3)) (ht : (pc : Int) + off = (tgt : Int)) : z_OK l scr B D M pc (o_ic (fun x y => x = y) tgt) := by
  rintro d L S h r ⟨x, y, S', rfl, kt, kf⟩
  exact z_br (x = y) (fun _ _ _ _ _ _ _ _ _ _ _ _ _ _ _ C _ k1 k2 => lv_icmp_eq C.1 C.2.1 hdg ht k1 k2) kt kf
theorem ok_if_ne {off : Int} {tgt : Nat} (hdg : decode (z_by M) pc = .ok (.ifCond .ne off, 3)) (ht : (pc : Int) + off = (tgt : Int)) : z_OK l scr B D M pc (o_if (fun x => ¬ x = 0) tgt) := by
  rintro d L S h r ⟨x, S', rfl, kt, kf⟩
  exact z_br (¬ x = 0) (fun _ _ _ _ _ _ _ _ _ _ _ _ _ _ _ C _ k1 k2 => lv_if_ne C.1 C.2.1 hdg ht k1 (fun e => k2 (fun z => z e))) kt kf
theorem ok_ic_ne {off : Int} {tgt : Nat} (hdg : decode (z_by M) pc = .ok (.if_icmp .ne off, 3)) (ht : (pc : Int) + off = (tgt : Int)) : z_OK l scr B D M pc (o_ic (fun x y => ¬ x = y) tgt) := by
  rintro d L S h r ⟨x, y, S', rfl, kt, kf⟩
  exact z_br (¬ x = y) (fun _ _ _ _ _ _ _ _ _ _ _ _ _ _ _ C _ k1 k2 => lv_icmp_ne C.1 C.2.1 hdg ht k1 (fun e => k2 (fun z => z e))) kt kf
theorem ok_if_lt {off : Int} {tgt : Nat} (hdg : decode (z_by M) pc = .ok (.ifCond .lt off, 3)) (ht : (pc : Int) + off = (tgt : Int)) : z_OK l scr B D M pc (o_if (fun x => x < 0) tgt) := by
  rintro d L S h r ⟨x, S', rfl, kt, kf⟩
  exact z_br (x < 0) (fun _ _ _ _ _ _ _ _ _ _ _ _ _ _ _ C _ k1 k2 => lv_if_lt C.1 C.2.1 hdg ht k1 k2) kt kf
theorem ok_ic_lt {off : Int} {tgt : Nat} (hdg : decode (z_by M) pc = .ok (.if_icmp .lt off, 3)) (ht : (pc : Int) + off = (tgt : Int)) : z_OK l scr B D M pc (o_ic (fun x y => x < y) tgt) := by
  rintro d L S h r ⟨x, y, S', rfl, kt, kf⟩
  exact z_br (x < y) (fun _ _ _ _ _ _ _ _ _ _ _ _ _ _ _ C _ k1 k2 => lv_icmp_lt C.1 C.2.1 hdg ht k1 k2) kt kf
theorem ok_if_ge {off : Int} {tgt : Nat} (hdg : decode (z_by M) pc = .ok (.ifCond .ge off, 3)) (ht : (pc : Int) + off = (tgt : Int)) : z_OK l scr B D M pc (o_if (fun x => 0 ≤ x) tgt) := by
  rintro d L S h r ⟨x, S', rfl, kt, kf⟩
  exact z_br (0 ≤ x) (fun _ _ _ _ _ _ _ _ _ _ _ _ _ _ _ C _ k1 k2 => lv_if_ge C.1 C.2.1 hdg ht k1 k2) kt kf
theorem ok_ic_ge {off : Int} {tgt : Nat} (hdg : decode (z_by M) pc = .ok (.if_icmp .ge off, 3)) (ht : (pc : Int) + off = (tgt : Int)) : z_OK l scr B D M pc (o_ic (fun x y => y ≤ x) tgt) := by
  rintro d L S h r ⟨x, y, S', rfl, kt, kf⟩
  exact z_br (y ≤ x) (fun _ _ _ _ _ _ _ _ _ _ _ _ _ _ _ C _ k1 k2 => lv_icmp_ge C.1 C.2.1 hdg ht k1 k2) kt kf
theorem ok_if_gt {off : Int} {tgt : Nat} (hdg : decode (z_by M) pc = .ok (.ifCond .gt off, 3)) (ht : (pc : Int) + off = (tgt : Int)) : z_OK l scr B D M pc (o_if (fun x => 0 < x) tgt) := by
  rintro d L S h r ⟨x, S', rfl, kt, kf⟩
  exact z_br (0 < x) (fun _ _ _ _ _ _ _ _ _ _ _ _ _ _ _ C _ k1 k2 => lv_if_gt C.1 C.2.1 hdg ht k1 k2) kt kf
theorem ok_ic_gt {off : Int} {tgt : Nat} (hdg : decode (z_by M) pc = .ok (.if_icmp .gt off, 3)) (ht : (pc : Int) + off = (tgt : Int)) : z_OK l scr B D M pc (o_ic (fun x y => y < x) tgt) := by
  rintro d L S h r ⟨x, y, S', rfl, kt, kf⟩
  exact z_br (y < x) (fun _ _ _ _ _ _ _ _ _ _ _ _ _ _ _ C _ k1 k2 => lv_icmp_gt C.1 C.2.1 hdg ht k1 k2) kt kf
theorem ok_if_le {off : Int} {tgt : Nat} (hdg : decode (z_by M) pc = .ok (.ifCond .le off, 3)) (ht : (pc : Int) + off = (tgt : Int)) : z_OK l scr B D M pc (o_if (fun x => x ≤ 0) tgt) := by
  rintro d L S h r ⟨x, S', rfl, kt, kf⟩
  exact z_br (x ≤ 0) (fun _ _ _ _ _ _ _ _ _ _ _ _ _ _ _ C _ k1 k2 => lv_if_le C.1 C.2.1 hdg ht k1 k2) kt kf
theorem ok_ic_le {off : Int} {tgt : Nat} (hdg : decode (z_by M) pc = .ok (.if_icmp .le off, 3)) (ht : (pc : Int) + off = (tgt : Int)) : z_OK l scr B D M pc (o_ic (fun x y => x ≤ y) tgt) := by
  rintro d L S h r ⟨x, y, S', rfl, kt, kf⟩
  exact z_br (x ≤ y) (fun _ _ _ _ _ _ _ _ _ _ _ _ _ _ _ C _ k1 k2 => lv_icmp_le C.1 C.2.1 hdg ht k1 k2) kt kf
theorem ok_nul {off : Int} {tgt : Nat} (hdg : decode (z_by M) pc = .ok (.ifnull off, 3)) (ht : (pc : Int) + off = (tgt : Int)) : z_OK l scr B D M pc (o_nul tgt) := by
  rintro d L S h r ⟨q, S', rfl, kt, kf⟩
  cases q with
  | none => exact z_go (fun _ _ _ _ _ _ _ _ _ _ _ _ _ _ _ C _ _ k => lv_ifnullN C.1 C.2.1 hdg ht k) (kt rfl)
  | some a => exact z_go (fun _ _ _ _ _ _ _ _ _ _ _ _ _ _ _ C _ _ k => lv_ifnull C.1 C.2.1 hdg k) (kf a rfl)
theorem ok_nn {off : Int} {tgt : Nat} (hdg : decode (z_by M) pc = .ok (.ifnonnull off, 3)) (ht : (pc : Int) + off = (tgt : Int)) : z_OK l scr B D M pc (o_nn tgt) := by
  rintro d L S h r ⟨q, S', rfl, kt, kf⟩
  cases q with
  | none => exact z_go (fun _ _ _ _ _ _ _ _ _ _ _ _ _ _ _ C _ _ k => lv_ifnonnullN C.1 C.2.1 hdg k) (kt rfl)
  | some a => exact z_go (fun _ _ _ _ _ _ _ _ _ _ _ _ _ _ _ C _ _ k => lv_ifnonnull C.1 C.2.1 hdg ht k) (kf a rfl)
theorem z_rf_map (q : Option Nat) : z_v scr B (va_rf q) = va_rf (q.map (z_ad scr B)) := by cases q <;> rfl
theorem z_map_inj (hs : scr ≤ B) {x y : Option Nat} : x.map (z_ad scr B) = y.map (z_ad scr B) ↔ x = y := by
  constructor
  · intro h
    cases x <;> cases y <;> simp at h ⊢
    exact z_ad_inj hs h
  · rintro rfl; rfl
theorem ok_acE {off : Int} {tgt : Nat} (hdg : decode (z_by M) pc = .ok (.if_acmp .eq off, 3)) (ht : (pc : Int) + off = (tgt : Int)) : z_OK l scr B D M pc (o_ac true tgt) := by
  rintro d L S h r ⟨x, y, S', rfl, kt, kf⟩
  refine z_br (x = y) (fun p e R s m args below meth c H locs cells slots ls Q C hr k1 k2 => ?_) kt kf
  show W p l e R s m args below meth c H locs cells slots Q (F0 m pc ls (z_v scr B (va_rf y) :: z_v scr B (va_rf x) :: S'.map (z_v scr B)))
  rw [z_rf_map, z_rf_map]
  exact lv_acmp_eq C.1 C.2.1 hdg ht (fun e => k1 ((z_map_inj hr.2.2.1).mp e)) (fun e => k2 (fun z => e ((z_map_inj hr.2.2.1).mpr z)))
theorem ok_acN {off : Int} {tgt : Nat} (hdg : decode (z_by M) pc = .ok (.if_acmp .ne off, 3)) (ht : (pc : Int) + off = (tgt : Int)) : z_OK l scr B D M pc (o_ac false tgt) := by
  rintro d L S h r ⟨x, y, S', rfl, kt, kf⟩
  refine z_br (x = y) (fun p e R s m args below meth c H locs cells slots ls Q C hr k1 k2 => ?_) kt kf
  show W p l e R s m args below meth c H locs cells slots Q (F0 m pc ls (z_v scr B (va_rf y) :: z_v scr B (va_rf x) :: S'.map (z_v scr B)))
  rw [z_rf_map, z_rf_map]
  exact lv_acmp_ne C.1 C.2.1 hdg ht (fun e => k2 (fun z => e ((z_map_inj hr.2.2.1).mpr z))) (fun e => k1 ((z_map_inj hr.2.2.1).mp e))
end zSound
