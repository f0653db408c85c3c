/-! Soundness, third part: ends, entries, calls. z_ws: the words that every method has (z_gw: they stay as the tables grow warm). -/
theorem z_pay {s : State} {args : Array Value} (hts : ∀ w ∈ z_ws, w.before args s = true) : ∀ w ∈ z_ws, ∀ (a' : Array Value) (U : State), s.WarmedH U.vm → w.before a' U = true := by
  intro w hw a' U hW
  have hb := hts w hw
  have hg : z_gw w = true := (List.mem_filter.mp hw).2
  unfold z_gw at hg
  rcases Bool.or_eq_true_iff.mp hg with h1 | h1
  · exact word_at hW (good_of_word h1) hb
  · cases w with
    | methodLinkNest a i x h => exact va_Nw.use rfl (va_Nw.warmM hW (va_Nw.of rfl hb))
    | arrayOver ty =>
      cases ty with
      | object C => exact va_AO.use (va_AO.moved hW.alike (va_AO.of hb))
      | _ => cases h1
    | _ => cases h1
def z_wm (M : Nat) : List Jvm.Cond := Jvm.Cond.code (z_y M) (z_by M) (z_ml M) (z_rt M) :: z_ws
def z_Qc (scr B : Nat) (D : va_G) (r : zR) : Array Value → State → Outcome → State → Prop := fun _ st oc t => oc = .returned (r.1.map (z_v scr B)) ∧ z_rel scr B D t r.2 t.heap ∧ ∀ q : Nat, q ≤ B → t.heap[q]? = st.heap[q]?
def z_Pc (scr B : Nat) (D : va_G) (as : List Value) (h : zH) : Array Value → State → Prop := va_Pc (as.map (z_v scr B)) (fun U => z_rel scr B D U h U.heap ∧ va_K D zcl [] U)
def z_rm (d : Nat) (h : zH) (r : zR) : Room := { frames := d + 1, cells := r.2.2.1 - h.2.1, slots := r.2.2.2 - h.2.2, locals := (d + 1) * 40 }
def z_mok (M n : Nat) : Prop := plainFor (z_y M) = true ∧ Jvm.Cond.code (z_y M) (z_by M) (z_ml M) (z_rt M) ∈ z_ws ∧ Jvm.Cond.initialized (z_y M).cls ∈ z_ws ∧ ((z_y M).cls ≠ "java/lang/invoke/MethodHandle" ∧ (z_y M).cls ≠ "java/lang/invoke/VarHandle") ∧ (parseMethodDescriptor (z_y M).desc).map (fun d => d.parameters.length) = some n ∧ z_ml M ≤ 21
theorem z_args_mem : ∀ (vs : List Value) (j i : Nat) (v : Value), (∀ w ∈ vs, w.category = 1) → vs[i]? = some v → (j + i, v) ∈ lv_args j vs
  | [], j, i, v, _, h => by simp at h
  | w :: ws, j, i, v, hc, h => by
    have hw := hc w List.mem_cons_self
    unfold lv_args
    rw [if_neg (by omega)]
    cases i with
    | zero =>
      rw [List.getElem?_cons_zero] at h
      cases h
      exact List.mem_cons_self
    | succ i =>
      rw [List.getElem?_cons_succ] at h
      have := z_args_mem ws (j + 1) i v (fun u hu => hc u (List.mem_cons_of_mem _ hu)) h
      rw [show j + (i + 1) = j + 1 + i by omega]
      exact List.mem_cons_of_mem _ this
theorem z_sl_len : ∀ (vs : List Value), (∀ w ∈ vs, w.category = 1) → (lg_sl vs).length = vs.length
  | [], _ => rfl
  | w :: ws, hc => by
    have hw := hc w List.mem_cons_self
    have ih := z_sl_len ws (fun u hu => hc u (List.mem_cons_of_mem _ hu))
    unfold lg_sl at ih ⊢
    rw [List.flatMap_cons, if_neg (by omega), List.length_append, ih]
    simp only [List.length_cons, List.length_nil]
    omega
theorem z_ent_get {M i : Nat} {as : List Value} {v : Value} (h : (z_ent M as)[i]? = some (some v)) : as[i]? = some v := by
  unfold z_ent at h
  by_cases hi : i < (as.map some).length
  · rw [List.getElem?_append_left hi, List.getElem?_map] at h
    cases hx : as[i]? with
    | none => rw [hx] at h; cases h
    | some w => rw [hx] at h; cases h; rfl
  · rw [List.getElem?_append_right (by omega), List.getElem?_replicate] at h
    split at h <;> cases h
theorem z_ent_loc {scr B M : Nat} {as : List Value} (ha : z_aok M as) : z_loc scr B M (z_ent M as) ((lg_sl (as.map (z_v scr B)) ++ List.replicate (z_ml M - (lg_sl (as.map (z_v scr B))).length) Slot.unset).toArray) := by
  have hc : ∀ w ∈ as.map (z_v scr B), w.category = 1 := fun w hw => by
    obtain ⟨u, hu, rfl⟩ := List.mem_map.mp hw
    exact (z_v_cat _ _ _).trans (ha.2 u hu)
  have h1 := lv_entry (as.map (z_v scr B)) (n := z_ml M) (by rw [z_sl_len _ hc, List.length_map]; exact ha.1)
  refine ⟨h1.1, h1.2.1, ?_, fun i v hv => ?_, fun _ i v hv => ?_⟩
  · unfold z_ent
    rw [List.length_append, List.length_map, List.length_replicate]
    have := ha.1
    omega
  · have h2 : (as.map (z_v scr B))[i]? = some (z_v scr B v) := by rw [List.getElem?_map, z_ent_get hv]; rfl
    have h3 := z_args_mem _ 0 i _ hc h2
    rw [Nat.zero_add] at h3
    exact h1.2.2 _ h3
  · exact ha.2 v (List.mem_of_getElem? (z_ent_get hv))
/-- Met.ofW for a method in whose place nothing native runs -/
theorem z_ofW {l : Launch} {y : MethodName} {ws ws' : List Cond} {rm : Room} {Pc : Array Value → State → Prop} {Qc : Array Value → State → Outcome → State → Prop} {mc ms : Nat} {free : Addr → Prop} {cc : ByteArray} {maxL : Nat} {ret : Option FieldType}
    (hy : plainFor y = true) (hw : ws = Cond.code y cc maxL ret :: ws')
    (body : ∀ p e s m args below meth c s₁, BodyLoose p l y (headSpec ws rm) cc maxL ret e s m args below meth c s₁ → c.maxLocals = maxL → Pc args s →
      W p l e (headSpec ws rm).room s m args below meth c s.heap [] 0 0 (MQ below Qc args s mc ms free) (entryFrame m args maxL)) : Met l y ws rm Pc Qc mc ms free := by
  refine MetFree.of_bodySF (code := cc) (maxLocals := maxL) (ret := ret) hy ?_ ?_
  · intro args s m h hn
    obtain ⟨meth, c, h1, h2, h3, h4, h5, h6, -, -⟩ := Cond.code_spec hn (atoms_spec (ws := ws) h _ (by rw [hw]; exact List.mem_cons_self))
    exact ⟨meth, c, h1, h2, h3, h4, h5, h6⟩
  · intro p e s m args below meth c s₁ B hml hP _
    have hh0 : s₁.heap = s.heap := by rw [B.state]; rfl
    obtain ⟨t, a1, o, b1, b2, b3⟩ := body p e s m args below meth c s₁ B hml hP s₁ hh0 (Stand.of_body B)
    exact ⟨t, o, a1, b1, b2, ⟨b3.1, b3.2⟩⟩
section zCalls
variable {l : Launch} {scr B : Nat} {D : va_G} {M pc : Nat}
theorem ok_iret {ty : FieldType} (hdg : decode (z_by M) pc = .ok (.ireturn, 1)) (hrt : z_rt M = some ty) : z_OK l scr B D M pc (o_iret ty) := by
  rintro d L S h r ⟨x, rfl, hf, hr⟩
  have hr : (some (Value.int x), h) = r := hr
  subst hr
  exact ⟨⟨Nat.le_refl _, Nat.le_refl _⟩, fun p e R s m args below meth c H locs cells slots ls Q n0 s0 C hl hr fr lo hc hs hR hR2 hF => hF H locs cells slots pc ls hr fr lo hc hs (Or.inr (Or.inl ⟨x, ty, rfl, hrt, (z_fit_v (scr := scr) (B := B) hf).1, hdg⟩))⟩
theorem ok_aret {n : String} (hdg : decode (z_by M) pc = .ok (.areturn, 1)) (hrt : z_rt M = some (.object n)) : z_OK l scr B D M pc o_aret := by
  rintro d L S h r ⟨q, rfl, hr⟩
  have hr : (some (va_rf q), h) = r := hr
  subst hr
  exact ⟨⟨Nat.le_refl _, Nat.le_refl _⟩, fun p e R s m args below meth c H locs cells slots ls Q n0 s0 C hl hr fr lo hc hs hR hR2 hF => hF H locs cells slots pc ls hr fr lo hc hs (Or.inr (Or.inr ⟨q, n, rfl, hrt, hdg⟩))⟩
theorem ok_vret (hdg : decode (z_by M) pc = .ok (.return_, 1)) (hrt : z_rt M = none) : z_OK l scr B D M pc o_vret := by
  rintro d L S h r ⟨rfl, hr⟩
  have hr : ((none : Option Value), h) = r := hr
  subst hr
  exact ⟨⟨Nat.le_refl _, Nat.le_refl _⟩, fun p e R s m args below meth c H locs cells slots ls Q n0 s0 C hl hr fr lo hc hs hR hR2 hF => hF H locs cells slots pc ls hr fr lo hc hs (Or.inl ⟨rfl, hrt, hdg⟩)⟩
theorem ok_obj {idx : Nat} (hdg : decode (z_by M) pc = .ok (.invokespecial idx, 3)) (hl : Jvm.Cond.methodLink (z_y M).cls idx Lib.objectInit ∈ z_ws) (hi : Jvm.Cond.instanceMethod Lib.objectInit ∈ z_ws) (hcd : Jvm.Cond.code Lib.objectInit ⟨#[0xb1]⟩ 1 none ∈ z_ws) : z_OK l scr B D M pc o_obj := by
  rintro d L S h r ⟨a, S', rfl, hc, hk⟩
  refine z_go (fun p e R s m args below meth c H locs cells slots ls Q C hL _ k => ?_) hk
  have hts := C.2.2.2.2.2.2.1
  have hf := C.2.2.2.2.2.2.2.2.2.1
  have hlo := C.2.2.2.2.2.2.2.2.2.2
  have hrm := lv_room (m := m) (pc := pc) (ls := ls) (rest := (Value.ref a :: S').map (z_v scr B)) (st := S'.map (z_v scr B)) (by rw [z_cat_map]; exact hc)
  exact W.objInit C.1 C.2.1 C.2.2.2.2.2.1 (hts _ hl) (hts _ hi) (hts _ hcd) rfl (hL.1.trans C.2.2.1.symm) rfl hdg (by omega) (by omega) k
theorem z_met {d' M' : Nat} {as : List Value} {h : zH} {r : zR} (hw : z_W l scr B D d' M' 0 (z_ent M' as) [] h r) (ha : z_aok M' as) (hy : plainFor (z_y M') = true) :
    Met l (z_y M') (z_wm M') (z_rm d' h r) (z_Pc scr B D as h) (z_Qc scr B D r) (r.2.2.1 - h.2.1) (r.2.2.2 - h.2.2) (fun q => B < q) := by
  refine z_ofW (cc := z_by M') (maxL := z_ml M') (ret := z_rt M') hy rfl ?_
  intro p e s m args below meth c s₁ Bd hml hv
  obtain ⟨rfl, hrel, hK⟩ := hv
  have hts := atoms_spec (ws := z_wm M') Bd.pre
  have hlocks := Bd.notSynchronized
  rw [lg_entry_eq]
  have k := hw.1
  refine hw.2 p e _ s m _ below meth c s.heap [] 0 0 _ _ h.2.1 h.2.2 ⟨Bd.exec, Bd.bytes, hml, Bd.returns, Bd.notSynchronized, findClass_of_methodNamed Bd.named, fun w hw => hts w (List.mem_cons_of_mem _ hw), hK, fun hz => (name_of_methodNamed Bd.named Bd.method).1.trans hz, Nat.le_refl _, Nat.le_refl _⟩ (z_ent_loc ha) hrel (fun _ _ => rfl) (fun _ h => by cases h) (Nat.zero_add _) (Nat.zero_add _) (by show r.2.2.1 ≤ h.2.1 + (r.2.2.1 - h.2.1); omega) (by show r.2.2.2 ≤ h.2.2 + (r.2.2.2 - h.2.2); omega) ?_
  intro H locs cells slots pc ls hR hfr hlo hce hsl hro
  have e1 : cells = r.2.2.1 - h.2.1 := by omega
  have e2 : slots = r.2.2.2 - h.2.2 := by omega
  subst e1
  subst e2
  have hq : ∀ t : State, t.heap = H → s.WarmedH t.vm → z_Qc scr B D r (as.map (z_v scr B)).toArray s (.returned (r.1.map (z_v scr B))) t := fun t ht hW => ⟨rfl, by rw [ht]; exact hR.moved hW.alike, fun q hq => by rw [ht]; exact hfr q hq⟩
  rcases hro with ⟨v1, v2, v3⟩ | ⟨x, ty, v1, v2, v3, v4⟩ | ⟨q, n, v1, v2, v3⟩
  · rw [v1] at hq ⊢
    exact W.vret Bd.exec Bd.bytes (Bd.returns.trans v2) hq hlo v3
  · rw [v1] at hq ⊢
    exact W.zret Bd.exec Bd.bytes (Bd.returns.trans v2) v3 hq hlo v4
  · rw [v1] at hq ⊢
    exact W.aret Bd.exec Bd.bytes (Bd.returns.trans v2) (Or.inl ⟨n, rfl⟩) (by cases q with
      | none => exact Or.inl rfl
      | some a => exact Or.inr ⟨_, rfl⟩) hq hlo v3
theorem z_blind {as : List Value} {h : zH} : FrameBlind (z_Pc scr B D as h) := fun a U g mk q => ⟨q.1, z_rel.moved (u := U) (U := U.calling g mk a) (Vm.Alike.refl U.vm) q.2.1, va_K.moved (u := U) (U := U.calling g mk a) (Vm.Alike.refl U.vm) q.2.2⟩
theorem z_after {d : Nat} {L : zL} {S' st : List Value} {h : zH} {r r' : zR} {a : Array Value} {p : Program} {e : Env} {R : Room} {s : State} {m : MethodId} {args : Array Value} {below : List Frame} {meth : Method} {c : Code} {H : Heap} {locs : List Loc} {cells slots : Nat} {ls : Array Slot} {Q : State → Prop} {n0 s0 : Nat}
    (hr : va_Run p l e R s m args below meth c H locs cells slots (r'.2.2.1 - h.2.1) (r'.2.2.2 - h.2.2) (F0 m pc ls st) (S'.map (z_v scr B)) (z_Qc scr B D r' a) (fun q => B < q))
    (hk : z_W l scr B D d M (pc + 3) L (r'.1.toList ++ S') r'.2 r) (hm : h.2.1 ≤ r'.2.2.1 ∧ h.2.2 ≤ r'.2.2.2)
    (C0 : z_ctx D M d p R s m args meth c) (hl : z_loc scr B M L ls) (hfr : z_fr B s H) (hlo : ∀ x ∈ locs, B < x.base) (hce : cells + n0 = h.2.1) (hsl : slots + s0 = h.2.2) (hR1 : r.2.2.1 ≤ n0 + R.cells) (hR2 : r.2.2.2 ≤ s0 + R.slots)
    (hF : z_fin l scr B D M r p e R s m args below meth c n0 s0 Q) : W p l e R s m args below meth c H locs cells slots Q (F0 m pc ls st) := by
  intro T hT X
  obtain ⟨v, st₀, t, T', L1, e0, X', hL1, e1, e2, ⟨ov, hrel', hfr'⟩, go⟩ := hr T hT X
  have hv : v = r'.1.map (z_v scr B) := Outcome.returned.inj ov
  subst hv
  have hvm : t.vm.Alike s.vm := by rw [← e2]; exact X'.warmed.alike.symm
  obtain ⟨t2, a1, b1⟩ := hk.2 p e R s m args below meth c T'.heap (locs ++ L1) _ _ ls Q n0 s0 C0 hl (by rw [e1]; exact hrel'.moved hvm)
    (fun q hq => by rw [e1, hfr' q hq, e0]; exact hfr q hq)
    (fun x hx => by
      rcases List.mem_append.mp hx with z | z
      · exact hlo x z
      · exact hL1 x z) (by omega) (by omega) hR1 hR2 hF T' rfl X'
  refine ⟨t2, go t2 ?_, b1⟩
  have ef : (r'.1.toList ++ S').map (z_v scr B) = (r'.1.map (z_v scr B)).toList ++ S'.map (z_v scr B) := by cases r'.1 <;> rfl
  rw [ef] at a1
  exact a1
theorem z_callB {M' n idx d' : Nat} {h : zH} {r : zR} {R : Room} {s : State} {args : Array Value} {ret : Option FieldType} (hts : ∀ w ∈ z_ws, w.before args s = true) (hy : z_mok M' n) (hrt : z_rt M' = ret) (hl : Jvm.Cond.methodLink (z_y M).cls idx (z_y M') ∈ z_ws) (hf : d' + 1 + 1 ≤ R.frames) (hlo : (d' + 1 + 1) * 40 ≤ R.locals) :
    CallB R s args (z_y M).cls idx (z_y M') (z_by M') (z_ml M') ret (z_wm M') (z_rm d' h r) (r.2.2.1 - h.2.1) (r.2.2.2 - h.2.2) n := by
  subst hrt
  obtain ⟨-, h1, h2, h3, h4, h5⟩ := hy
  have hp := z_pay hts
  refine ⟨rfl, rfl, hf, by show 8 + (z_ml M' + 11) + (d' + 1) * 40 ≤ R.locals; omega, fun w hw a' U hW => ?_, List.mem_cons_self, hts _ h1, hts _ h2, h3, fun sig hs => ?_, hts _ hl⟩
  · rcases List.mem_cons.mp hw with rfl | hw
    · exact hp _ h1 a' U hW
    · exact hp w hw a' U hW
  · rw [hs] at h4
    exact (Option.some.inj h4).symm
theorem ok_cv {M' ci idx n N : Nat} {C : String} {T : u_T} (hdg : decode (z_by M) pc = .ok (.invokevirtual idx, 3)) (hc : zcl[ci]? = some (C, T, N)) (hy : z_mok M' n) (hl : Jvm.Cond.methodLink (z_y M).cls idx (z_y M') ∈ z_ws) (hi : Jvm.Cond.instanceMethod (z_y M') ∈ z_ws) (hs : Jvm.Cond.selects C (z_y M') (z_y M') ∈ z_ws) : z_OK l scr B D M pc (o_cv M' ci n) := by
  rintro d L S h r ⟨as, b, S', fs, r', rfl, hn, hb, hcat, ⟨d', rfl, haok, hw⟩, hk⟩
  have m1 := hw.1
  have m2 := hk.1
  refine ⟨⟨by omega, by omega⟩, fun p e R s m args below meth c H locs cells slots ls Q n0 s0 C0 hL hr hfr hlo hce hsl hR1 hR2 hF => ?_⟩
  obtain ⟨h0, r0, hr0, -, cell, g1, g2, g3, -⟩ := hr.2.2.2 b _ hb
  have hts := C0.2.2.2.2.2.2.1
  have hK := C0.2.2.2.2.2.2.2.1
  have ev : z_v scr B (.ref b) = .ref (B + b) := by show Value.ref (z_ad scr B b) = _; rw [show z_ad scr B b = B + b from if_neg h0]
  refine W.eq (g2 := F0 m pc ls ((as.map (z_v scr B)).reverse ++ .ref (B + b) :: S'.map (z_v scr B))) (by rw [List.map_append, List.map_reverse, List.map_cons, ev]) ?_
  refine z_after (a := (Value.ref (B + b) :: as.map (z_v scr B)).toArray) (va_runV (C := C) (As := as.map (z_v scr B)) (rest := S'.map (z_v scr B)) ⟨C0.1, C0.2.1, C0.2.2.1, C0.2.2.2.2.2.1, hts⟩ (z_met hw haok hy.1) ⟨z_callB hts hy rfl hl C0.2.2.2.2.2.2.2.2.2.1 C0.2.2.2.2.2.2.2.2.2.2, hts _ hi, hts _ hs⟩
    ⟨z_blind, ⟨cell, g1, by rw [g3]; rfl, by rw [g2]; exact (hK.1 ci _ hc).2.1⟩, fun U hU hW => ⟨by rw [List.map_cons, ev], by rw [hU]; exact hr.moved hW.alike, va_K.moved hW.alike hK⟩⟩ rfl (by rw [List.length_map]; exact hn) hL.1 rfl (lv_room (by rw [z_cat_map]; exact hcat)) hdg ⟨by omega, by omega⟩)
    hk hw.1 C0 hL hfr hlo hce hsl hR1 hR2 hF
theorem ok_cs {M' idx n : Nat} (hdg : decode (z_by M) pc = .ok (.invokestatic idx, 3)) (hy : z_mok M' n) (hl : Jvm.Cond.methodLink (z_y M).cls idx (z_y M') ∈ z_ws) (hs : Jvm.Cond.static (z_y M') ∈ z_ws) : z_OK l scr B D M pc (o_cs M' n) := by
  rintro d L S h r ⟨as, S', r', rfl, hn, hcat, ⟨d', rfl, haok, hw⟩, hk⟩
  have m1 := hw.1
  have m2 := hk.1
  refine ⟨⟨by omega, by omega⟩, fun p e R s m args below meth c H locs cells slots ls Q n0 s0 C0 hL hr hfr hlo hce hsl hR1 hR2 hF => ?_⟩
  have hts := C0.2.2.2.2.2.2.1
  have hK := C0.2.2.2.2.2.2.2.1
  refine W.eq (g2 := F0 m pc ls ((as.map (z_v scr B)).reverse ++ S'.map (z_v scr B))) (by rw [List.map_append, List.map_reverse]) ?_
  refine z_after (a := (as.map (z_v scr B)).toArray) (va_runS (As := as.map (z_v scr B)) (rest := S'.map (z_v scr B)) ⟨C0.1, C0.2.1, C0.2.2.1, C0.2.2.2.2.2.1, hts⟩ (z_met hw haok hy.1) ⟨z_callB hts hy rfl hl C0.2.2.2.2.2.2.2.2.2.1 C0.2.2.2.2.2.2.2.2.2.2, hts _ hs⟩
    ⟨z_blind, fun U hU hW => ⟨rfl, by rw [hU]; exact hr.moved hW.alike, va_K.moved hW.alike hK⟩⟩ rfl (by rw [List.length_map]; exact hn) hL.1 rfl (lv_room (by rw [z_cat_map]; exact hcat)) hdg ⟨by omega, by omega⟩)
    hk hw.1 C0 hL hfr hlo hce hsl hR1 hR2 hF
theorem ok_ci {M' idx n : Nat} (hdg : decode (z_by M) pc = .ok (.invokespecial idx, 3)) (hy : z_mok M' n) (hrt : z_rt M' = none) (hin : (z_y M').name = "<init>") (hl : Jvm.Cond.methodLink (z_y M).cls idx (z_y M') ∈ z_ws) (hi : Jvm.Cond.instanceMethod (z_y M') ∈ z_ws) : z_OK l scr B D M pc (o_ci M' n) := by
  rintro d L S h r ⟨as, b, S', r', rfl, hn, hcat, ⟨d', rfl, haok, hw⟩, hk⟩
  have m1 := hw.1
  have m2 := hk.1
  refine ⟨⟨by omega, by omega⟩, fun p e R s m args below meth c H locs cells slots ls Q n0 s0 C0 hL hr hfr hlo hce hsl hR1 hR2 hF => ?_⟩
  have hts := C0.2.2.2.2.2.2.1
  have hK := C0.2.2.2.2.2.2.2.1
  have hM := z_met hw haok hy.1
  refine W.eq (g2 := F0 m pc ls ((as.map (z_v scr B)).reverse ++ .ref (z_ad scr B b) :: S'.map (z_v scr B))) (by rw [List.map_append, List.map_reverse, List.map_cons]; rfl) ?_
  refine z_after (a := (Value.ref (z_ad scr B b) :: as.map (z_v scr B)).toArray) (va_runI (As := as.map (z_v scr B)) (rest := S'.map (z_v scr B)) ⟨C0.1, C0.2.1, C0.2.2.1, C0.2.2.2.2.2.1, hts⟩ hM ⟨z_callB hts hy hrt hl C0.2.2.2.2.2.2.2.2.2.1 C0.2.2.2.2.2.2.2.2.2.2, hin, hts _ hi⟩
    ⟨z_blind, fun U hU hW => ⟨rfl, by rw [hU]; exact hr.moved hW.alike, va_K.moved hW.alike hK⟩⟩ rfl (by rw [List.length_map]; exact hn) hL.1 rfl (lv_room (by rw [z_cat_map]; exact hcat)) hdg ⟨by omega, by omega⟩)
    hk hw.1 C0 hL hfr hlo hce hsl hR1 hR2 hF
/-- a static private method of a nest mate -/
theorem ok_csN {M' idx n : Nat} {host : String} (hdg : decode (z_by M) pc = .ok (.invokestatic idx, 3)) (hy : z_mok M' n) (hl : Jvm.Cond.methodLinkNest (z_y M).cls idx (z_y M') host ∈ z_ws) (hs : Jvm.Cond.static (z_y M') ∈ z_ws) : z_OK l scr B D M pc (o_cs M' n) := by
  rintro d L S h r ⟨as, S', r', rfl, hn, hcat, ⟨d', rfl, haok, hw⟩, hk⟩
  have m1 := hw.1
  have m2 := hk.1
  refine ⟨⟨by omega, by omega⟩, fun p e R s m args below meth c H locs cells slots ls Q n0 s0 C0 hL hr hfr hlo hce hsl hR1 hR2 hF => ?_⟩
  have hts := C0.2.2.2.2.2.2.1
  have hK := C0.2.2.2.2.2.2.2.1
  have hfm := C0.2.2.2.2.2.2.2.2.2.1
  have hlm := C0.2.2.2.2.2.2.2.2.2.2
  obtain ⟨hpn, h1, h2, h3, h4, h5⟩ := hy
  have hp := z_pay hts
  have cn : va_CN R s args (z_y M).cls idx (z_y M') host (z_by M') (z_ml M') (z_rt M') (z_wm M') (z_rm d' h r') (r'.2.2.1 - h.2.1) (r'.2.2.2 - h.2.2) n := by
    refine ⟨⟨rfl, rfl, hfm, by show 8 + (z_ml M' + 11) + (d' + 1) * 40 ≤ R.locals; omega, fun w hw a' U hW => ?_, List.mem_cons_self⟩, hts _ h1, hts _ h2, h3, fun sig hs => ?_, hts _ hl⟩
    · rcases List.mem_cons.mp hw with rfl | hw
      · exact hp _ h1 a' U hW
      · exact hp w hw a' U hW
    · rw [hs] at h4
      exact (Option.some.inj h4).symm
  refine W.eq (g2 := F0 m pc ls ((as.map (z_v scr B)).reverse ++ S'.map (z_v scr B))) (by rw [List.map_append, List.map_reverse]) ?_
  refine z_after (a := (as.map (z_v scr B)).toArray) (va_runSN (As := as.map (z_v scr B)) (rest := S'.map (z_v scr B)) ⟨C0.1, C0.2.1, C0.2.2.1, C0.2.2.2.2.2.1, hts⟩ (z_met hw haok hpn) ⟨cn, hts _ hs, trivial⟩
    ⟨z_blind, fun U hU hW => ⟨rfl, by rw [hU]; exact hr.moved hW.alike, va_K.moved hW.alike hK⟩⟩ rfl (by rw [List.length_map]; exact hn) hL.1 rfl (lv_room (by rw [z_cat_map]; exact hcat)) hdg ⟨by omega, by omega⟩)
    hk hw.1 C0 hL hfr hlo hce hsl hR1 hR2 hF
/-- a private constructor of a nest mate -/
theorem ok_ciN {M' idx n : Nat} {host : String} (hdg : decode (z_by M) pc = .ok (.invokespecial idx, 3)) (hy : z_mok M' n) (hrt : z_rt M' = none) (hin : (z_y M').name = "<init>") (hl : Jvm.Cond.methodLinkNest (z_y M).cls idx (z_y M') host ∈ z_ws) (hi : Jvm.Cond.instanceMethod (z_y M') ∈ z_ws) : z_OK l scr B D M pc (o_ci M' n) := by
  rintro d L S h r ⟨as, b, S', r', rfl, hn, hcat, ⟨d', rfl, haok, hw⟩, hk⟩
  have m1 := hw.1
  have m2 := hk.1
  refine ⟨⟨by omega, by omega⟩, fun p e R s m args below meth c H locs cells slots ls Q n0 s0 C0 hL hr hfr hlo hce hsl hR1 hR2 hF => ?_⟩
  have hts := C0.2.2.2.2.2.2.1
  have hK := C0.2.2.2.2.2.2.2.1
  have hfm := C0.2.2.2.2.2.2.2.2.2.1
  have hlm := C0.2.2.2.2.2.2.2.2.2.2
  obtain ⟨hpn, h1, h2, h3, h4, h5⟩ := hy
  have hp := z_pay hts
  have cn : va_CN R s args (z_y M).cls idx (z_y M') host (z_by M') (z_ml M') none (z_wm M') (z_rm d' h r') (r'.2.2.1 - h.2.1) (r'.2.2.2 - h.2.2) n := by
    rw [← hrt]
    refine ⟨⟨rfl, rfl, hfm, by show 8 + (z_ml M' + 11) + (d' + 1) * 40 ≤ R.locals; omega, fun w hw a' U hW => ?_, List.mem_cons_self⟩, hts _ h1, hts _ h2, h3, fun sig hs => ?_, hts _ hl⟩
    · rcases List.mem_cons.mp hw with rfl | hw
      · exact hp _ h1 a' U hW
      · exact hp w hw a' U hW
    · rw [hs] at h4
      exact (Option.some.inj h4).symm
  refine W.eq (g2 := F0 m pc ls ((as.map (z_v scr B)).reverse ++ .ref (z_ad scr B b) :: S'.map (z_v scr B))) (by rw [List.map_append, List.map_reverse, List.map_cons]; rfl) ?_
  refine z_after (a := (Value.ref (z_ad scr B b) :: as.map (z_v scr B)).toArray) (va_runIN (As := as.map (z_v scr B)) (rest := S'.map (z_v scr B)) ⟨C0.1, C0.2.1, C0.2.2.1, C0.2.2.2.2.2.1, hts⟩ (z_met hw haok hpn) ⟨cn, hin, hts _ hi⟩
    ⟨z_blind, fun U hU hW => ⟨rfl, by rw [hU]; exact hr.moved hW.alike, va_K.moved hW.alike hK⟩⟩ rfl (by rw [List.length_map]; exact hn) hL.1 rfl (lv_room (by rw [z_cat_map]; exact hcat)) hdg ⟨by omega, by omega⟩)
    hk hw.1 C0 hL hfr hlo hce hsl hR1 hR2 hF
end zCalls
/-- a method's list of operations, a place a pc -/
def z_All (l : Launch) (scr B : Nat) (D : va_G) (M : Nat) : Nat → List zO → Prop
  | _, [] => True
  | i, o :: t => z_OK l scr B D M i o ∧ z_All l scr B D M (i + 1) t
theorem z_All.at {l : Launch} {scr B : Nat} {D : va_G} {M : Nat} : ∀ (t : List zO) (i j : Nat), z_All l scr B D M i t → z_OK l scr B D M (i + j) (t.getD j o_bad)
  | [], i, j, _ => by
    rw [List.getD_nil]
    exact ok_bad
  | o :: t, i, 0, h => by
    rw [List.getD_cons_zero]
    exact h.1
  | o :: t, i, j + 1, h => by
    rw [List.getD_cons_succ, show i + (j + 1) = i + 1 + j by omega]
    exact z_All.at t (i + 1) j h.2
