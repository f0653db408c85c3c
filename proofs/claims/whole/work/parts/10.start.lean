/-! THE CLAIM OUT OF ONE WALK OF THE LAW'S BODY. Your part is whole_start (and what it stands on); all else here is the same for every law, but numbers. -/
def R_law : String := "MailVerdictsLaw"
def lw_P (b : Addr) (xs : List Int32) (args : Array Value) (s : State) : Prop := args = #[.ref b] ∧ s.IntsAt b xs ∧ xs.length ≤ 3072 ∧ (Jvm.Cond.and given_1 narrow_1).before args s = true
def lw_Q (_ : Array Value) (s : State) (o : Outcome) (t : State) : Prop := o = .returned (some (.int 1)) ∧ Framed s o t [] 600000 7302249
def lw_Z (below : List Frame) (a : Array Value) (s : State) : State → Prop := fun t => ∃ o, t.status = .running ∧ Ended t below o ∧ lw_Q a s o t
/-- the law's own end, with 1 on the stack, nothing written that was there before, its room as the claim has it -/
theorem lw_ret {p : Program} {l : Launch} {e : Env} {s : State} {m : MethodId} {below : List Frame} {meth : Method} {c : Code} {b : Nat} (hx : p.tables.exec = Jvm.exec) (hb : c.code = code) (hr : meth.sig.returnType = ret) (hlocks : meth.locks = false) {pc : Nat} {H : Heap} {ls : Array Slot} (hdg : decode code pc = .ok (.ireturn, 1)) : W p l e room_1 s m #[Value.ref b] below meth c H [] 600000 7302249 (lw_Z below #[Value.ref b] s) (F0 m pc ls [.int 1]) := by
  intro T hT X
  obtain ⟨fs, hret, hrun, hended, hW, hframe⟩ := X.leave (v := some (.int 1)) (hlocks := hlocks) (fun h => by rw [hr] at h; cases h)
  have hmeth' : T.vm.method? m = some meth := X.method'
  refine ⟨T.setFrames fs, ?_, .returned (some (.int 1)), hrun, hended, rfl, ⟨_, rfl⟩, hW, hframe⟩
  jvm_step X.here [X.here.top, hx, hb, hdg, hmeth', hr, ret, narrow_b1]
  (try refine ⟨rfl, ?_⟩); (try refine ⟨rfl, ?_⟩)
  first | (intro acts; rw [hret _ acts rfl rfl rfl]) | rw [hret _ _ rfl rfl rfl]
  exact Steps.refl _
/-- what holds at the law's entry: the machine, the code, the tables' words (any of lw_tbl by 'hts w (by decide +kernel)'), the script of L ints xs at the cell b, what the Statement gives of the start (any of its parts by flat_of_before) -/
def lw_At (p : Program) (s : State) (m : MethodId) (meth : Method) (c : Code) (b L : Nat) (xs : Nat → Int32) : Prop :=
  p.tables.exec = Jvm.exec ∧ c.code = code ∧ meth.sig.returnType = ret ∧ c.maxLocals = 4 ∧ s.vm.findClass R_law = some m.cls ∧ (∀ w ∈ lw_tbl, w.before #[Value.ref b] s = true) ∧ va_X b L xs s s.heap ∧ b < s.heap.size ∧ meth.locks = false ∧ (Jvm.Cond.and given_1 narrow_1).before #[Value.ref b] s = true
/-- the script's heap -/
def z_h0 (L : Nat) (xs : Nat → Int32) : zH := (fun a => if a = 0 then some (.inl (.array .int, L, .inl xs)) else none, 1, 0)
theorem z_getD {s : State} {args : Array Value} (hts : ∀ w ∈ z_ws, w.before args s = true) : ∃ D : va_G, va_K D zcl [] s := by
  have h2 : ∀ c : Nat, ∃ x : ClassId × (Nat → Nat), ∀ q, zcl[c]? = some q → u_Kn s q.1 q.2.1 q.2.2 x.1 x.2 := fun c => by
    cases hc : zcl[c]? with
    | none => exact ⟨(0, fun _ => 0), fun q hq => by cases hq⟩
    | some q0 =>
      obtain ⟨n, h3, h4⟩ := z_kn c q0 hc
      obtain ⟨cC, iS, hk⟩ := u_known hts h4 (hts _ h3)
      exact ⟨(cC, iS), fun q hq => by cases hq; exact hk⟩
  have ⟨f, hf⟩ := Classical.axiomOfChoice h2
  exact ⟨(fun c => (f c).1, fun c => (f c).2), fun c q hq => hf c q hq, fun k q hk => by simp at hk⟩
/-- the law's walk, out of the pure machine's -/
theorem z_start {p : Program} {e : Env} {s : State} {m : MethodId} {below : List Frame} {meth : Method} {c : Code} (l : Launch) {b L : Nat} {xs : Nat → Int32}
    (hE : z_E 1000 115 0 [some (.ref 0), none, none, none] [] (z_h0 L xs) (fun r => r.1 = some (.int 1) ∧ r.2.2.1 ≤ 600000 ∧ r.2.2.2 ≤ 7302249))
    (C0 : lw_At p s m meth c b L xs) : W p l e room_1 s m #[Value.ref b] below meth c s.heap [] 0 0 (lw_Z below #[Value.ref b] s) (entryFrame m ([Value.ref b] : List Value).toArray 4) := by
  obtain ⟨hx, hb, hr, hml, hown, hts0, hX, hbl, hlocks, hgv⟩ := C0
  have hts : ∀ w ∈ z_ws, w.before #[Value.ref b] s = true := fun w hw => hts0 w (List.mem_filter.mp hw).1
  obtain ⟨D, hK⟩ := z_getD hts
  obtain ⟨r, hev, hq1, hq2, hq3⟩ := hE
  have hw : z_W l b (s.heap.size - 1) D 1000 115 0 [some (.ref 0), none, none, none] [] (z_h0 L xs) r := hev _ (z_closed l b (s.heap.size - 1) D)
  rw [lg_entry_eq]
  refine hw.2 p e room_1 s m #[Value.ref b] below meth c s.heap [] 0 0 _ (lw_Z below #[Value.ref b] s) 1 0 ⟨hx, hb, hml, hr, hlocks, hown, hts, hK, fun hz => absurd hz (by decide +kernel), by decide +kernel, by decide +kernel⟩ (z_ent_loc (scr := b) (B := s.heap.size - 1) (M := 115) (as := [.ref 0]) ⟨by decide +kernel, by decide +kernel⟩) ?_ (fun _ _ => rfl) (fun _ h => by cases h) rfl rfl (by show r.2.2.1 ≤ 1 + 600000; omega) (by show r.2.2.2 ≤ 0 + 7302249; omega) ?_
  · refine ⟨?_, Nat.le_refl _, by omega, fun a x hx => ?_⟩
    · show s.heap.size = s.heap.size - 1 + 1
      omega
    · by_cases ha : a = 0
      · subst ha
        have hx : some (Sum.inl (FieldType.array .int, L, Sum.inl xs)) = some x := hx
        cases hx
        exact Or.inl ⟨rfl, rfl, xs, rfl, hX⟩
      · rw [show (z_h0 L xs).1 a = none from if_neg ha] at hx
        cases hx
  · intro H locs cells slots pc ls hrel hfr hlo hce hsl hro
    rw [hq1] at hro ⊢
    rcases hro with ⟨v1, v2, v3⟩ | ⟨x, ty, v1, v2, v3, v4⟩ | ⟨q, n, v1, v2, v3⟩
    · cases v1
    · refine va_forget (fun q hq => by have := hlo q hq; omega) ?_
      refine W.widen (k := 600000) (n := 7302249) (by omega) (by omega) ?_
      exact lw_ret hx hb hr hlocks v4
    · cases q <;> cases v1
