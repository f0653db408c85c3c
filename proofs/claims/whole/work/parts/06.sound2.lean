/-! Soundness, second part: locals that are stored, switches, fields, arrays, makings. -/
def z_prs (scr B : Nat) (L : zL) : List (Nat × Value) := (List.range L.length).filterMap fun j => (L[j]?).bind fun o => o.map fun v => (j, z_v scr B v)
theorem z_prs_mem {scr B : Nat} {L : zL} {j : Nat} {v : Value} (h : L[j]? = some (some v)) : (j, z_v scr B v) ∈ z_prs scr B L := by
  refine List.mem_filterMap.mpr ⟨j, List.mem_range.mpr (List.getElem?_eq_some_iff.mp h).1, ?_⟩
  rw [h]
  rfl
theorem z_prs_of {scr B : Nat} {L : zL} {q : Nat × Value} (h : q ∈ z_prs scr B L) : ∃ v, L[q.1]? = some (some v) ∧ q.2 = z_v scr B v := by
  obtain ⟨j, -, h2⟩ := List.mem_filterMap.mp h
  cases hL : L[j]? with
  | none => rw [hL] at h2; cases h2
  | some o =>
    rw [hL] at h2
    cases o with
    | none => cases h2
    | some v =>
      cases h2
      exact ⟨v, hL, rfl⟩
theorem z_fx_len (L : zL) (i : Nat) (fx : Bool) : (z_fx L i fx).length = L.length := by
  unfold z_fx
  cases fx with
  | false => rfl
  | true =>
    cases i with
    | zero => rfl
    | succ j =>
      dsimp only
      split
      · split
        · exact List.length_set
        · rfl
      · rfl
theorem z_fx_get {L : zL} {i j : Nat} {fx : Bool} {w : Value} (h : (z_fx L i fx)[j]? = some (some w)) : L[j]? = some (some w) ∧ (fx = true → j + 1 = i → ¬ w.category = 2) := by
  unfold z_fx at h
  cases fx with
  | false => exact ⟨h, fun z => by cases z⟩
  | true =>
    cases i with
    | zero => exact ⟨h, fun _ z => by omega⟩
    | succ k =>
      dsimp only at h
      split at h
      · rename_i v hv
        split at h
        · rename_i hc
          by_cases e : k = j
          · subst e
            rw [List.getElem?_set_self (List.getElem?_eq_some_iff.mp hv).1] at h
            cases h
          · rw [List.getElem?_set_ne e] at h
            exact ⟨h, fun _ z => by omega⟩
        · rename_i hc
          refine ⟨h, fun _ z => ?_⟩
          have : j = k := by omega
          subst this
          rw [hv] at h
          cases h
          exact hc
      · rename_i hn
        refine ⟨h, fun _ z => ?_⟩
        have : j = k := by omega
        subst this
        exact absurd h (hn w)
section zStore
variable {scr B M : Nat} {L : zL} {ls ls' : Array Slot} {i : Nat}
theorem z_loc.has (hl : z_loc scr B M L ls) : lv_has ls (z_ml M) (z_prs scr B L) := by
  refine ⟨hl.1, hl.2.1, fun q hq => ?_⟩
  obtain ⟨v, h1, h2⟩ := z_prs_of hq
  rw [h2]
  exact hl.2.2.2.1 _ _ h1
theorem z_loc.st1 {v : Value} {fx : Bool} (hl : z_loc scr B M L ls) (hi : i < L.length) (hv : v.category = 1) (hfx : fx = false → z_lp M = false)
    (h' : lv_has ls' (z_ml M) ((i, z_v scr B v) :: (z_prs scr B L).filter (fun q => !(q.1 == i) && !(q.1 + 1 == i && q.2.category == 2)))) : z_loc scr B M ((z_fx L i fx).set i (some v)) ls' := by
  have hi' : i < (z_fx L i fx).length := by rw [z_fx_len]; exact hi
  refine ⟨h'.1, h'.2.1, by rw [List.length_set, z_fx_len]; exact hl.2.2.1, fun j w hw => ?_, fun hp j w hw => ?_⟩
  · by_cases e : i = j
    · subst e
      rw [List.getElem?_set_self hi'] at hw
      cases hw
      exact h'.2.2 _ List.mem_cons_self
    · rw [List.getElem?_set_ne e] at hw
      obtain ⟨a1, a2⟩ := z_fx_get hw
      refine h'.2.2 (j, z_v scr B w) (List.mem_cons_of_mem _ (List.mem_filter.mpr ⟨z_prs_mem a1, ?_⟩))
      have hc : ¬ (j + 1 = i ∧ w.category = 2) := by
        rintro ⟨c1, c2⟩
        cases fx with
        | true => exact a2 rfl c1 c2
        | false =>
          have := hl.2.2.2.2 (hfx rfl) j w a1
          omega
      have e' : ¬ j = i := fun z => e z.symm
      simp only [Bool.and_eq_true, Bool.not_eq_true', beq_eq_false_iff_ne, ne_eq, z_v_cat, e', not_false_eq_true, true_and, Bool.and_eq_false_iff]
      by_cases c1 : j + 1 = i
      · exact Or.inr fun c2 => hc ⟨c1, c2⟩
      · exact Or.inl c1
  · by_cases e : i = j
    · subst e
      rw [List.getElem?_set_self hi'] at hw
      cases hw
      exact hv
    · rw [List.getElem?_set_ne e] at hw
      exact hl.2.2.2.2 hp j w (z_fx_get hw).1
theorem z_loc.st2 {x : Int64} (hl : z_loc scr B M L ls) (hi : i + 1 < L.length) (hlp : z_lp M = true)
    (h' : lv_has ls' (z_ml M) ((i, Value.long x) :: (z_prs scr B L).filter (fun q => !(q.1 == i) && (!(q.1 == i + 1) && !(q.1 + 1 == i && q.2.category == 2))))) : z_loc scr B M (((z_fx L i true).set i (some (.long x))).set (i + 1) none) ls' := by
  have hi' : i < (z_fx L i true).length := by rw [z_fx_len]; omega
  have hi2 : i + 1 < ((z_fx L i true).set i (some (.long x))).length := by rw [List.length_set, z_fx_len]; omega
  refine ⟨h'.1, h'.2.1, by rw [List.length_set, List.length_set, z_fx_len]; exact hl.2.2.1, fun j w hw => ?_, fun hp => by rw [hlp] at hp; cases hp⟩
  by_cases e2 : i + 1 = j
  · subst e2
    rw [List.getElem?_set_self hi2] at hw
    cases hw
  · rw [List.getElem?_set_ne e2] at hw
    by_cases e : i = j
    · subst e
      rw [List.getElem?_set_self hi'] at hw
      cases hw
      exact h'.2.2 _ List.mem_cons_self
    · rw [List.getElem?_set_ne e] at hw
      obtain ⟨a1, a2⟩ := z_fx_get hw
      refine h'.2.2 (j, z_v scr B w) (List.mem_cons_of_mem _ (List.mem_filter.mpr ⟨z_prs_mem a1, ?_⟩))
      have e' : ¬ j = i := fun z => e z.symm
      have e3 : ¬ j = i + 1 := fun z => e2 z.symm
      simp only [Bool.and_eq_true, Bool.not_eq_true', beq_eq_false_iff_ne, ne_eq, z_v_cat, e', e3, not_false_eq_true, true_and, Bool.and_eq_false_iff]
      by_cases c1 : j + 1 = i
      · exact Or.inr fun c2 => a2 rfl c1 c2
      · exact Or.inl c1
theorem z_loc.inc {x y : Int32} (hl : z_loc scr B M L ls) (hi : L[i]? = some (some (.int x)))
    (h' : lv_has ls' (z_ml M) ((i, Value.int y) :: (z_prs scr B L).filter (fun q => !(q.1 == i) && !(q.1 + 1 == i && q.2.category == 2)))) : z_loc scr B M (L.set i (some (.int y))) ls' := by
  have hi' : i < L.length := (List.getElem?_eq_some_iff.mp hi).1
  refine ⟨h'.1, h'.2.1, by rw [List.length_set]; exact hl.2.2.1, fun j w hw => ?_, fun hp j w hw => ?_⟩
  · by_cases e : i = j
    · subst e
      rw [List.getElem?_set_self hi'] at hw
      cases hw
      exact h'.2.2 _ List.mem_cons_self
    · rw [List.getElem?_set_ne e] at hw
      refine h'.2.2 (j, z_v scr B w) (List.mem_cons_of_mem _ (List.mem_filter.mpr ⟨z_prs_mem hw, ?_⟩))
      have hc : ¬ (j + 1 = i ∧ w.category = 2) := by
        rintro ⟨c1, c2⟩
        have h1 := hl.2.1.1 j _ (hl.2.2.2.1 j w hw) ((z_v_cat _ _ _).trans c2)
        rw [c1, hl.2.2.2.1 i _ hi] at h1
        cases h1
      have e' : ¬ j = i := fun z => e z.symm
      simp only [Bool.and_eq_true, Bool.not_eq_true', beq_eq_false_iff_ne, ne_eq, z_v_cat, e', not_false_eq_true, true_and, Bool.and_eq_false_iff]
      by_cases c1 : j + 1 = i
      · exact Or.inr fun c2 => hc ⟨c1, c2⟩
      · exact Or.inl c1
  · by_cases e : i = j
    · subst e
      rw [List.getElem?_set_self hi'] at hw
      cases hw
      rfl
    · rw [List.getElem?_set_ne e] at hw
      exact hl.2.2.2.2 hp j w hw
end zStore
section zSound2
variable {l : Launch} {scr B : Nat} {D : va_G} {M pc : Nat}
/-- a row that changes the locals alone -/
theorem z_goL {d pc' : Nat} {L L' : zL} {S S' : List Value} {h : zH} {r : zR}
    (row : ∀ (p : Program) (e : Env) (R : Room) (s : State) (m : MethodId) (args : Array Value) (below : List Frame) (meth : Method) (c : Code) (H : Heap) (locs : List Loc) (cells slots : Nat) (ls : Array Slot) (Q : State → Prop),
      z_ctx D M d p R s m args meth c → z_loc scr B M L ls →
      (∀ ls', z_loc scr B M L' ls' → W p l e R s m args below meth c H locs cells slots Q (F0 m pc' ls' (S'.map (z_v scr B)))) → W p l e R s m args below meth c H locs cells slots Q (F0 m pc ls (S.map (z_v scr B))))
    (hk : z_W l scr B D d M pc' L' S' h r) : z_W l scr B D d M pc L S h r :=
  ⟨hk.1, fun p e R s m args below meth c H locs cells slots ls Q n0 s0 C hl hr fr lo hc hs hR hR2 hF => row p e R s m args below meth c H locs cells slots ls Q C hl (fun ls' hl' => hk.2 p e R s m args below meth c H locs cells slots ls' Q n0 s0 C hl' hr fr lo hc hs hR hR2 hF)⟩
theorem ok_istore_n {n : Fin 4} {i : Nat} {fx : Bool} (hdg : decode (z_by M) pc = .ok (.istore_n n, 1)) (hi : (n : Nat) = i) (hfx : fx = false → z_lp M = false) : z_OK l scr B D M pc (o_ist 1 i fx) := by
  rintro d L S h r ⟨x, S', rfl, hl, hk⟩
  exact z_goL (fun _ _ _ _ _ _ _ _ _ _ _ _ _ _ _ C hL k => lv_istore_n C.1 C.2.1 hdg hi hL.has (by rw [← hL.2.2.1]; exact hl) rfl fun ls' h' => k ls' (hL.st1 (v := .int x) hl rfl hfx h')) hk
theorem ok_istore {i : Nat} {fx : Bool} (hdg : decode (z_by M) pc = .ok (.istore i, 2)) (hfx : fx = false → z_lp M = false) : z_OK l scr B D M pc (o_ist 2 i fx) := by
  rintro d L S h r ⟨x, S', rfl, hl, hk⟩
  exact z_goL (fun _ _ _ _ _ _ _ _ _ _ _ _ _ _ _ C hL k => lv_istore C.1 C.2.1 hdg hL.has (by rw [← hL.2.2.1]; exact hl) rfl fun ls' h' => k ls' (hL.st1 (v := .int x) hl rfl hfx h')) hk
theorem ok_astore_n {n : Fin 4} {i : Nat} {fx : Bool} (hdg : decode (z_by M) pc = .ok (.astore_n n, 1)) (hi : (n : Nat) = i) (hfx : fx = false → z_lp M = false) : z_OK l scr B D M pc (o_ast 1 i fx) := by
  rintro d L S h r ⟨q, S', rfl, hl, hk⟩
  cases q with
  | none => exact z_goL (fun _ _ _ _ _ _ _ _ _ _ _ _ _ _ _ C hL k => lv_astore_nN C.1 C.2.1 hdg hi hL.has (by rw [← hL.2.2.1]; exact hl) rfl fun ls' h' => k ls' (hL.st1 (v := .null) hl rfl hfx h')) hk
  | some a => exact z_goL (fun _ _ _ _ _ _ _ _ _ _ _ _ _ _ _ C hL k => lv_astore_n C.1 C.2.1 hdg hi hL.has (by rw [← hL.2.2.1]; exact hl) rfl fun ls' h' => k ls' (hL.st1 (v := .ref a) hl rfl hfx h')) hk
theorem ok_astore {i : Nat} {fx : Bool} (hdg : decode (z_by M) pc = .ok (.astore i, 2)) (hfx : fx = false → z_lp M = false) : z_OK l scr B D M pc (o_ast 2 i fx) := by
  rintro d L S h r ⟨q, S', rfl, hl, hk⟩
  cases q with
  | none => exact z_goL (fun _ _ _ _ _ _ _ _ _ _ _ _ _ _ _ C hL k => lv_astoreN C.1 C.2.1 hdg hL.has (by rw [← hL.2.2.1]; exact hl) rfl fun ls' h' => k ls' (hL.st1 (v := .null) hl rfl hfx h')) hk
  | some a => exact z_goL (fun _ _ _ _ _ _ _ _ _ _ _ _ _ _ _ C hL k => lv_astore C.1 C.2.1 hdg hL.has (by rw [← hL.2.2.1]; exact hl) rfl fun ls' h' => k ls' (hL.st1 (v := .ref a) hl rfl hfx h')) hk
theorem ok_lstore_n {n : Fin 4} {i : Nat} (hdg : decode (z_by M) pc = .ok (.lstore_n n, 1)) (hi : (n : Nat) = i) (hlp : z_lp M = true) : z_OK l scr B D M pc (o_lst 1 i) := by
  rintro d L S h r ⟨x, S', rfl, hl, hk⟩
  exact z_goL (fun _ _ _ _ _ _ _ _ _ _ _ _ _ _ _ C hL k => lv_lstore_n C.1 C.2.1 hdg hi hL.has (by rw [← hL.2.2.1]; exact hl) rfl fun ls' h' => k ls' (hL.st2 hl hlp h')) hk
theorem ok_lstore {i : Nat} (hdg : decode (z_by M) pc = .ok (.lstore i, 2)) (hlp : z_lp M = true) : z_OK l scr B D M pc (o_lst 2 i) := by
  rintro d L S h r ⟨x, S', rfl, hl, hk⟩
  exact z_goL (fun _ _ _ _ _ _ _ _ _ _ _ _ _ _ _ C hL k => lv_lstore C.1 C.2.1 hdg hL.has (by rw [← hL.2.2.1]; exact hl) rfl fun ls' h' => k ls' (hL.st2 hl hlp h')) hk
theorem ok_iinc {i : Nat} {n : Int} {n' : Int32} (hdg : decode (z_by M) pc = .ok (.iinc i n, 3)) (hn : Int32.ofInt n = n') : z_OK l scr B D M pc (o_iinc i n') := by
  rintro d L S h r ⟨x, hx, hk⟩
  subst hn
  refine z_goL (fun _ _ _ _ _ _ _ _ _ _ _ _ _ _ _ C hL k => ?_) hk
  obtain ⟨j, hj⟩ := List.getElem?_of_mem (z_prs_mem (scr := scr) (B := B) hx)
  exact lv_iinc C.1 C.2.1 hdg hL.has hj rfl (by rw [← hL.2.2.1]; exact (List.getElem?_eq_some_iff.mp hx).1) rfl fun ls' h' => k ls' (hL.inc hx h')
theorem ok_tab {dflt lo hi : Int} {offs : Array Int} {len : Nat} {tg : List Nat} {dt : Nat} (hdg : decode (z_by M) pc = .ok (.tableswitch dflt lo hi offs, len)) (hd : (pc : Int) + dflt = (dt : Int)) (hh : lo + tg.length = hi + 1)
    (ho : offs.toList.map (fun o => (pc : Int) + o) = tg.map (fun t : Nat => (t : Int))) : z_OK l scr B D M pc (o_tab lo tg dt) := by
  rintro d L S h r ⟨x, S', rfl, kt, kf⟩
  by_cases hx : x.toInt < lo ∨ hi < x.toInt
  · exact z_go (fun _ _ _ _ _ _ _ _ _ _ _ _ _ _ _ C _ _ k => lv_tableOut C.1 C.2.1 hdg hx hd k) (kf (by omega))
  · have hlen : (x.toInt - lo).toNat < tg.length := by omega
    have ht : tg[(x.toInt - lo).toNat]? = some tg[(x.toInt - lo).toNat] := List.getElem?_eq_getElem hlen
    have h2 : (offs.toList.map (fun o => (pc : Int) + o))[(x.toInt - lo).toNat]? = some (tg[(x.toInt - lo).toNat] : Int) := by rw [ho, List.getElem?_map, ht]; rfl
    rw [List.getElem?_map] at h2
    cases ho2 : offs.toList[(x.toInt - lo).toNat]? with
    | none => rw [ho2] at h2; cases h2
    | some off =>
      rw [ho2] at h2
      have h3 : (pc : Int) + off = (tg[(x.toInt - lo).toNat] : Int) := by simpa using h2
      exact z_go (fun _ _ _ _ _ _ _ _ _ _ _ _ _ _ _ C _ _ k => lv_tableIn C.1 C.2.1 hdg (fun z => hx (Or.inl z)) (fun z => hx (Or.inr z)) (by rw [← Array.getElem?_toList]; exact ho2) h3 k) (kt _ _ ht (by omega))
theorem ok_get {ci j idx N : Nat} {C : String} {T : u_T} (hdg : decode (z_by M) pc = .ok (.getfield idx, 3)) (hc : zcl[ci]? = some (C, T, N)) (hj : j < N) (hin : ∀ w ∈ u_ws C T N, w ∈ z_ws) (hlink : Jvm.Cond.fieldLink (z_y M).cls idx (T j).1 (T j).2.1 (T j).2.2.1 ∈ z_ws) : z_OK l scr B D M pc (o_get ci j) := by
  rintro d L S h r ⟨a, fs, v, S', rfl, ha, hv, hk⟩
  refine z_go (fun p e R s m args below meth c H locs cells slots ls Q C0 _ hr k => ?_) hk
  obtain ⟨h0, r0, hr0, hlen, hob⟩ := hr.2.2.2 a _ ha
  show W p l e R s m args below meth c H locs cells slots Q (F0 m pc ls (.ref (z_ad scr B a) :: S'.map (z_v scr B)))
  rw [show z_ad scr B a = B + a from if_neg h0]
  exact va_get C0.1 C0.2.1 C0.2.2.2.2.2.2.1 hin C0.2.2.2.2.2.1 C0.2.2.2.2.2.2.2.1 (z_P1 (q := (B + a, .inr (ci, fs.map (z_v scr B)))) ⟨r0, hr0, hob⟩) 0 rfl hc j hj (C0.2.2.2.2.2.2.1 _ hlink) (fun _ h9 => h9) (v := z_v scr B v) (by rw [List.getElem?_map, hv]; rfl) hdg k
theorem z_putcell {ci j N : Nat} {C : String} {T : u_T} {s : State} {H' : Heap} {a : Nat} {fs : List Value} {v : Value} {cell : Cell} (h0 : a ≠ 0) (hc : zcl[ci]? = some (C, T, N)) (hj : j < N) (hlen : fs.length = N)
    (q2 : cell.cls = D.1 ci) (q3 : cell.vm = .none) (q4 : ∀ k, k < N → cell.slots[D.2 ci k]? = some (vp_V (fs.map (z_v scr B)) k)) (hap : ∀ x y, x < N → y < N → x ≠ y → (D.2 ci) x ≠ (D.2 ci) y)
    (e1 : H'[B + a]? = some (cell.setSlot (D.2 ci j) (z_v scr B v))) : z_cell scr B D s H' a (.inr (ci, fs.set j v)) := by
  refine ⟨h0, _, hc, by rw [List.length_set]; exact hlen, t_OB.to (V := updV (vp_V (fs.map (z_v scr B))) j (z_v scr B v)) ⟨_, e1, q2, q3, t_set q4 hap hj _⟩ (fun k _ => ?_)⟩
  rw [vp_updV_set (by rw [List.length_map, hlen]; exact hj), List.map_set]
theorem z_frput {s : State} {H H' : Heap} {a : Nat} (h0 : a ≠ 0) (hf : z_fr B s H) (ho : ∀ q, q ≠ B + a → H'[q]? = H[q]?) : z_fr B s H' := fun q hq => (ho q (by omega)).trans (hf q hq)
theorem z_loput {locs : List Loc} {a i : Nat} (h0 : a ≠ 0) (hl : ∀ x ∈ locs, B < x.base) : ∀ x ∈ locs ++ [⟨B + a, i⟩], B < x.base := by
  intro x hx
  rcases List.mem_append.mp hx with h | h
  · exact hl x h
  · rw [List.mem_singleton.mp h]
    show B < B + a
    omega
theorem ok_put {ci j idx N : Nat} {C : String} {T : u_T} {ty : FieldType} {ty0 : Nat → FieldType} (hdg : decode (z_by M) pc = .ok (.putfield idx, 3)) (hc : zcl[ci]? = some (C, T, N)) (hj : j < N) (hin : ∀ w ∈ u_ws C T N, w ∈ z_ws) (hty : ∀ k, k < N → parseFieldDescriptor (T k).2.2.1 = some (ty0 k)) (hnm : ∀ a, a < N → ∀ b, b < N → a ≠ b → (T a).2.1 ≠ (T b).2.1)
    (hlink : Jvm.Cond.fieldLink (z_y M).cls idx (T j).1 (T j).2.1 (T j).2.2.1 ∈ z_ws) (hfin : (T j).2.2.2 = false) (hd : parseFieldDescriptor (T j).2.2.1 = some ty) : z_OK l scr B D M pc (o_put ci j ty) := by
  rintro d L S h r ⟨a, fs, v, S', rfl, ha, hfit, hk⟩
  refine ⟨hk.1, fun p e R s m args below meth c H locs cells slots ls Q n0 s0 C0 hl hr hfr hlo hce hsl hR1 hR2 hF => ?_⟩
  obtain ⟨h0, r0, hr0, hlen, cell, q1, q2, q3, q4⟩ := hr.2.2.2 a _ ha
  have e0 : r0 = (C, T, N) := Option.some.inj (hr0.symm.trans hc)
  subst e0
  have hts := C0.2.2.2.2.2.2.1
  have hK := C0.2.2.2.2.2.2.2.1
  have hap := va_apart (own := (z_y M).cls) hts hin ty0 hty hnm hK hc
  obtain ⟨hS, hfc, kC, hkC, hkind⟩ := hK.1 ci _ hc
  obtain ⟨cf, kf, fi, f, hi, hsl2⟩ := hS j hj
  have hlay := hts _ (hin _ (u_in_lay hj))
  unfold u_lay at hlay
  rw [if_neg (by rw [hfin]; decide)] at hlay
  have hst := (u_facts hfc hkC (u_lays hts hin hj) hi).1
  have hf2 := z_fit_v (scr := scr) (B := B) hfit
  have h6 := u_store hfc hkC hkind hlay hi hd hf2.1 hf2.2
  show W p l e R s m args below meth c H locs cells slots Q (F0 m pc ls (z_v scr B v :: .ref (z_ad scr B a) :: S'.map (z_v scr B)))
  rw [show z_ad scr B a = B + a from if_neg h0]
  refine W.putK C0.1 C0.2.1 (f := f) ⟨C0.2.2.2.2.2.1, hts _ hlink, ⟨_, _, _, hi⟩, hst⟩ (by rw [q2]; exact h6) q1 q3 (by rw [hsl2]; exact k2_hasslot (q4 j hj)) rfl rfl hdg fun H' e1 e2 e3 => ?_
  rw [hsl2] at e1
  exact hk.2 p e R s m args below meth c H' _ cells slots ls Q n0 s0 C0 hl (hr.put h0 e2 e3 (z_putcell h0 hc hj hlen q2 q3 q4 hap e1)) (z_frput h0 hfr e3) (z_loput h0 hlo) hce hsl hR1 hR2 hF
theorem ok_putF {ci j idx N : Nat} {C : String} {T : u_T} {ty : FieldType} {ty0 : Nat → FieldType} (hdg : decode (z_by M) pc = .ok (.putfield idx, 3)) (hc : zcl[ci]? = some (C, T, N)) (hj : j < N) (hin : ∀ w ∈ u_ws C T N, w ∈ z_ws) (hty : ∀ k, k < N → parseFieldDescriptor (T k).2.2.1 = some (ty0 k)) (hnm : ∀ a, a < N → ∀ b, b < N → a ≠ b → (T a).2.1 ≠ (T b).2.1)
    (hlink : Jvm.Cond.fieldLink (z_y M).cls idx (T j).1 (T j).2.1 (T j).2.2.1 ∈ z_ws) (hfin : (T j).2.2.2 = true) (hini : (z_y M).name = "<init>") (hdecl : (T j).1 = (z_y M).cls) (hd : parseFieldDescriptor (T j).2.2.1 = some ty) : z_OK l scr B D M pc (o_put ci j ty) := by
  rintro d L S h r ⟨a, fs, v, S', rfl, ha, hfit, hk⟩
  refine ⟨hk.1, fun p e R s m args below meth c H locs cells slots ls Q n0 s0 C0 hl hr hfr hlo hce hsl hR1 hR2 hF => ?_⟩
  obtain ⟨h0, r0, hr0, hlen, cell, q1, q2, q3, q4⟩ := hr.2.2.2 a _ ha
  have e0 : r0 = (C, T, N) := Option.some.inj (hr0.symm.trans hc)
  subst e0
  have hts := C0.2.2.2.2.2.2.1
  have hK := C0.2.2.2.2.2.2.2.1
  have hown := C0.2.2.2.2.2.1
  have hap := va_apart (own := (z_y M).cls) hts hin ty0 hty hnm hK hc
  obtain ⟨hS, hfc, kC, hkC, hkind⟩ := hK.1 ci _ hc
  obtain ⟨cf, kf, fi, f, hi, hsl2⟩ := hS j hj
  have hlay := hts _ (hin _ (u_in_lay hj))
  unfold u_lay at hlay
  rw [if_pos hfin] at hlay
  have hst := (u_facts hfc hkC (u_lays hts hin hj) hi).1
  have hcf : m.cls = cf := by
    obtain ⟨_, _, c', _, _, _, -, -, hf', -, -, -, hown2, -⟩ := Cond.laysFinal_spec hlay
    have e1 : c' = cf := by have := hi.symm.trans hf'; simp at this; exact this.1.symm
    rw [hdecl] at hown2
    rw [← e1]; exact Option.some.inj (hown.symm.trans hown2)
  have hf2 := z_fit_v (scr := scr) (B := B) hfit
  have h6 := u_fits hfc hkC hkind (Or.inr hlay) hi hd hf2.1 hf2.2
  show W p l e R s m args below meth c H locs cells slots Q (F0 m pc ls (z_v scr B v :: .ref (z_ad scr B a) :: S'.map (z_v scr B)))
  rw [show z_ad scr B a = B + a from if_neg h0]
  refine W.putFinK C0.1 C0.2.1 hown (hts _ hlink) hi hst hcf (C0.2.2.2.2.2.2.2.2.1 hini) (by rw [q2]; exact h6) q1 q3 (by rw [hsl2]; exact k2_hasslot (q4 j hj)) rfl rfl hdg fun H' e1 e2 e3 => ?_
  rw [hsl2] at e1
  exact hk.2 p e R s m args below meth c H' _ cells slots ls Q n0 s0 C0 hl (hr.put h0 e2 e3 (z_putcell h0 hc hj hlen q2 q3 q4 hap e1)) (z_frput h0 hfr e3) (z_loput h0 hlo) hce hsl hR1 hR2 hF
theorem z_frpush {s : State} {h : zH} {H H' : Heap} (hr : z_rel scr B D s h H) (hf : z_fr B s H) (ho : ∀ q, q < H.size → H'[q]? = H[q]?) : z_fr B s H' := fun q hq => (ho q (by have := hr.1; have := hr.2.1; omega)).trans (hf q hq)
theorem ok_new {ci idx N : Nat} {C : String} {T : u_T} {ty0 : Nat → FieldType} {fs : List Value} (hdg : decode (z_by M) pc = .ok (.new idx, 3)) (hc : zcl[ci]? = some (C, T, N)) (hin : ∀ w ∈ u_ws C T N, w ∈ z_ws) (hty : ∀ k, k < N → parseFieldDescriptor (T k).2.2.1 = some (ty0 k))
    (hcl : Jvm.Cond.classLink (z_y M).cls idx C ∈ z_ws) (hins : Jvm.Cond.instantiable C N ∈ z_ws) (hini : Jvm.Cond.initialized C ∈ z_ws) (hfl : fs.length = N) (hfs : ∀ j, j < N → defaultValue (ty0 j) = vp_V (fs.map (z_v scr B)) j) : z_OK l scr B D M pc (o_new ci N fs) := by
  intro d L S h r hk
  have hk1 : (z_al h (.inr (ci, fs)) N).2.1 ≤ r.2.2.1 ∧ (z_al h (.inr (ci, fs)) N).2.2 ≤ r.2.2.2 := hk.1
  have k1 : h.2.1 + 1 ≤ r.2.2.1 := hk1.1
  have k2 : h.2.2 + N ≤ r.2.2.2 := hk1.2
  refine ⟨⟨by omega, by omega⟩, fun p e R s m args below meth c H locs cells slots ls Q n0 s0 C0 hl hr hfr hlo hce hsl hR1 hR2 hF => ?_⟩
  have hts := C0.2.2.2.2.2.2.1
  have hKn := C0.2.2.2.2.2.2.2.1.1 ci _ hc
  refine W.newcK C0.1 C0.2.1 C0.2.2.2.2.2.1 (hts _ hcl) (hts _ hins) (hts _ hini) rfl hdg (by omega) (by omega) hKn.2.1 hr.1 fun H' kC hkC e1 z1 o1 => ?_
  have hz : H'.size = H.size + 1 := by rw [z1, hr.1]
  have ho : ∀ q, q < H.size → H'[q]? = H[q]? := fun q hq => o1 q (by rw [← hr.1]; exact hq)
  have hx : z_cell scr B D s H' h.2.1 (.inr (ci, fs)) := ⟨by have := hr.2.1; omega, _, hc, hfl, (u_born ty0 hts hin hKn hkC e1 hty).to hfs⟩
  have hn0 : h.2.1 ≠ 0 := by have := hr.2.1; omega
  refine W.eq (g2 := F0 m (pc + 3) ls ((.ref h.2.1 :: S).map (z_v scr B))) ?_ (hk.2 p e R s m args below meth c H' locs (cells + 1) (slots + N) ls Q n0 s0 C0 hl (hr.push hz ho hx) (z_frpush hr hfr ho) hlo (by show cells + 1 + n0 = h.2.1 + 1; omega) (by show slots + N + s0 = h.2.2 + N; omega) hR1 hR2 hF)
  show F0 m (pc + 3) ls (.ref (B + h.2.1) :: S.map (z_v scr B)) = F0 m (pc + 3) ls (.ref (z_ad scr B h.2.1) :: S.map (z_v scr B))
  rw [show z_ad scr B h.2.1 = B + h.2.1 from if_neg hn0]
theorem ok_newa {aty : ArrayType} {ty : FieldType} (hdg : decode (z_by M) pc = .ok (.newarray aty, 2)) (hty : newarray.typeOf aty = ty) (hw : Jvm.Cond.arrayClass (newarray.typeOf aty) ∈ z_ws) (hd : defaultValue ty = .int 0) (hb : componentBytes ty ≤ 8) (hn : ty ≠ .array .int) : z_OK l scr B D M pc (o_newa ty) := by
  rintro d L S h r ⟨n, S', rfl, hn0, hn1, hk⟩
  subst hty
  have hk1 : (z_al h (.inl (newarray.typeOf aty, n.toNatClampNeg, .inl (fun _ => 0))) n.toNatClampNeg).2.1 ≤ r.2.2.1 ∧ (z_al h (.inl (newarray.typeOf aty, n.toNatClampNeg, .inl (fun _ => 0))) n.toNatClampNeg).2.2 ≤ r.2.2.2 := hk.1
  have k1 : h.2.1 + 1 ≤ r.2.2.1 := hk1.1
  have k2 : h.2.2 + n.toNatClampNeg ≤ r.2.2.2 := hk1.2
  refine ⟨⟨by omega, by omega⟩, fun p e R s m args below meth c H locs cells slots ls Q n0 s0 C0 hl hr hfr hlo hce hsl hR1 hR2 hF => ?_⟩
  have hts := C0.2.2.2.2.2.2.1
  have hbytes : n.toNatClampNeg * componentBytes (newarray.typeOf aty) ≤ 536870912 := Nat.le_trans (Nat.mul_le_mul hn1 hb) (by decide)
  refine va_newaK C0.1 C0.2.1 (hts _ hw) rfl hdg rfl hn0 rfl hbytes (by omega) (by omega) hr.1 fun H' cA e1 z1 o1 hAr hNm => ?_
  have hz : H'.size = H.size + 1 := by rw [z1, hr.1]
  have ho : ∀ q, q < H.size → H'[q]? = H[q]? := fun q hq => o1 q (by rw [← hr.1]; exact hq)
  have hne : h.2.1 ≠ 0 := by have := hr.2.1; omega
  have hx : z_cell scr B D s H' h.2.1 (.inl (newarray.typeOf aty, n.toNatClampNeg, .inl (fun _ => 0))) := Or.inr ⟨hne, hn, cA, hAr, by cases aty <;> exact hNm, by rw [e1, hd]; rfl⟩
  refine W.eq (g2 := F0 m (pc + 2) ls ((.ref h.2.1 :: S').map (z_v scr B))) ?_ (hk.2 p e R s m args below meth c H' locs (cells + 1) (slots + n.toNatClampNeg) ls Q n0 s0 C0 hl (hr.push hz ho hx) (z_frpush hr hfr ho) hlo (by show cells + 1 + n0 = h.2.1 + 1; omega) (by show slots + n.toNatClampNeg + s0 = h.2.2 + n.toNatClampNeg; omega) hR1 hR2 hF)
  show F0 m (pc + 2) ls (.ref (B + h.2.1) :: S'.map (z_v scr B)) = F0 m (pc + 2) ls (.ref (z_ad scr B h.2.1) :: S'.map (z_v scr B))
  rw [show z_ad scr B h.2.1 = B + h.2.1 from if_neg hne]
theorem ok_anew {idx : Nat} {C : String} (hdg : decode (z_by M) pc = .ok (.anewarray idx, 3)) (hcl : Jvm.Cond.classLink (z_y M).cls idx C ∈ z_ws) (hov : Jvm.Cond.arrayOver (.object C) ∈ z_ws) : z_OK l scr B D M pc (o_anew C) := by
  rintro d L S h r ⟨n, S', rfl, hn0, hn1, hk⟩
  have hk1 : (z_al h (.inl (.object C, n.toNatClampNeg, .inr (.inr (.inr (.inr (fun _ => none)))))) n.toNatClampNeg).2.1 ≤ r.2.2.1 ∧ (z_al h (.inl (.object C, n.toNatClampNeg, .inr (.inr (.inr (.inr (fun _ => none)))))) n.toNatClampNeg).2.2 ≤ r.2.2.2 := hk.1
  have k1 : h.2.1 + 1 ≤ r.2.2.1 := hk1.1
  have k2 : h.2.2 + n.toNatClampNeg ≤ r.2.2.2 := hk1.2
  refine ⟨⟨by omega, by omega⟩, fun p e R s m args below meth c H locs cells slots ls Q n0 s0 C0 hl hr hfr hlo hce hsl hR1 hR2 hF => ?_⟩
  have hts := C0.2.2.2.2.2.2.1
  refine W.anew C0.1 C0.2.1 C0.2.2.2.2.2.1 (hts _ hcl) (hts _ hov) rfl hdg rfl hn0 (Nat.le_trans (Nat.mul_le_mul_right 4 hn1) (by decide)) (by omega) (by omega) fun cA kA comp f1 f2 f3 f4 => ?_
  generalize hH1 : H.push ({ cls := cA, slots := Array.replicate n.toNatClampNeg .null, vm := .none } : Cell) = H'
  have hz : H'.size = H.size + 1 := by rw [← hH1, Array.size_push]
  have e1 : H'[H.size]? = some (arrV cA n.toNatClampNeg (fun _ => .null)) := by rw [← hH1, Array.getElem?_push_size, ← arrV_new]
  have ho : ∀ q : Nat, q < H.size → H'[q]? = H[q]? := fun q hq => by rw [← hH1, Array.getElem?_push, if_neg (Nat.ne_of_lt hq)]
  have hne : h.2.1 ≠ 0 := by have := hr.2.1; omega
  have hx : z_cell scr B D s H' h.2.1 (.inl (.object C, n.toNatClampNeg, .inr (.inr (.inr (.inr (fun _ => none)))))) := Or.inr ⟨hne, (by intro z; cases z), cA, fun N z => ⟨(fun k h => by cases h), kA, f2, comp, f3⟩, ⟨kA, comp, f2, f3, f4, f1⟩, by rw [← hr.1, e1]; rfl⟩
  refine W.eq (g2 := F0 m (pc + 3) ls ((.ref h.2.1 :: S').map (z_v scr B))) ?_ (hk.2 p e R s m args below meth c H' locs (cells + 1) (slots + n.toNatClampNeg) ls Q n0 s0 C0 hl (hr.push hz ho hx) (z_frpush hr hfr ho) hlo (by show cells + 1 + n0 = h.2.1 + 1; omega) (by show slots + n.toNatClampNeg + s0 = h.2.2 + n.toNatClampNeg; omega) hR1 hR2 hF)
  show F0 m (pc + 3) ls (.ref H.size :: S'.map (z_v scr B)) = F0 m (pc + 3) ls (.ref (z_ad scr B h.2.1) :: S'.map (z_v scr B))
  rw [show z_ad scr B h.2.1 = B + h.2.1 from if_neg hne, hr.1]
theorem ok_alen (hdg : decode (z_by M) pc = .ok (.arraylength, 1)) : z_OK l scr B D M pc o_alen := by
  rintro d L S h r ⟨a, ty, x, S', rfl, ha, hk⟩
  refine z_go (fun p e R s m args below meth c H locs cells slots ls Q C0 _ hr k => ?_) hk
  show W p l e R s m args below meth c H locs cells slots Q (F0 m pc ls (.ref (z_ad scr B a) :: S'.map (z_v scr B)))
  rcases hr.2.2.2 a _ ha with ⟨e1, e2, f, e3, scr0, h1, h2, h3, h4, h5⟩ | ⟨h0, hn, cA, a1, a2, a3⟩
  · rw [show z_ad scr B a = scr from if_pos e1]
    exact W.alen (n := Int32.ofNat x.1) C0.1 C0.2.1 h1 h2 (by rw [h4] <;> rfl) rfl rfl hdg k
  · rw [show z_ad scr B a = B + a from if_neg h0]
    refine va_alen C0.1 C0.2.1 (z_K1 C0.2.2.2.2.2.2.2.1 a1 a2) (z_P1 (D := D) (cl := zcl) (q := (B + a, .inl (cA, z_x scr B x))) a3) 0 0 rfl rfl ?_ hdg k
    obtain ⟨n, f | f | f | f | f⟩ := x <;> rfl
theorem ok_iald (hdg : decode (z_by M) pc = .ok (.iaload, 1)) : z_OK l scr B D M pc (o_ald .int) := by
  rintro d L S h r ⟨a, n, f, i, S', rfl, ha, hi, hk⟩
  refine z_go (fun p e R s m args below meth c H locs cells slots ls Q C0 _ hr k => ?_) hk
  show W p l e R s m args below meth c H locs cells slots Q (F0 m pc ls (.int i :: .ref (z_ad scr B a) :: S'.map (z_v scr B)))
  rcases hr.2.2.2 a _ ha with ⟨e1, e2, _⟩ | ⟨h0, hn, cA, a1, a2, a3⟩
  · cases e2
  · rw [show z_ad scr B a = B + a from if_neg h0]
    exact va_iald C0.1 C0.2.1 (z_K1 C0.2.2.2.2.2.2.2.1 a1 a2) (z_P1 (D := D) (cl := zcl) (q := (B + a, .inl (cA, n, .inl f))) a3) 0 0 rfl rfl hi hdg k
theorem ok_sld (hdg : decode (z_by M) pc = .ok (.iaload, 1)) : z_OK l scr B D M pc (o_ald (.array .int)) := by
  rintro d L S h r ⟨a, n, f, i, S', rfl, ha, hi, hk⟩
  refine z_go (fun p e R s m args below meth c H locs cells slots ls Q C0 _ hr k => ?_) hk
  show W p l e R s m args below meth c H locs cells slots Q (F0 m pc ls (.int i :: .ref (z_ad scr B a) :: S'.map (z_v scr B)))
  rcases hr.2.2.2 a _ ha with ⟨e1, e2, f', e3, scr0, h1, h2, h3, h4, h5⟩ | ⟨h0, hn, _⟩
  · cases e3
    rw [show z_ad scr B a = scr from if_pos e1]
    exact W.iald (v := .int (f i.toNatClampNeg)) C0.1 C0.2.1 h1 h2 h3 (by rw [h4]; exact hi) (h5 _ (Nat.not_le.mp fun q => hi (Or.inr q))) rfl rfl hdg k
  · exact absurd rfl hn
theorem ok_cald (hdg : decode (z_by M) pc = .ok (.caload, 1)) : z_OK l scr B D M pc (o_ald .char) := by
  rintro d L S h r ⟨a, n, f, i, S', rfl, ha, hi, hk⟩
  refine z_go (fun p e R s m args below meth c H locs cells slots ls Q C0 _ hr k => ?_) hk
  show W p l e R s m args below meth c H locs cells slots Q (F0 m pc ls (.int i :: .ref (z_ad scr B a) :: S'.map (z_v scr B)))
  rcases hr.2.2.2 a _ ha with ⟨e1, e2, _⟩ | ⟨h0, hn, cA, a1, a2, a3⟩
  · cases e2
  · rw [show z_ad scr B a = B + a from if_neg h0]
    exact va_cald C0.1 C0.2.1 (z_K1 C0.2.2.2.2.2.2.2.1 a1 a2) (z_P1 (D := D) (cl := zcl) (q := (B + a, .inl (cA, n, .inl f))) a3) 0 0 rfl rfl hi hdg k
theorem ok_zald (hdg : decode (z_by M) pc = .ok (.baload, 1)) : z_OK l scr B D M pc (o_ald .boolean) := by
  rintro d L S h r ⟨a, n, f, i, S', rfl, ha, hi, hk⟩
  refine z_go (fun p e R s m args below meth c H locs cells slots ls Q C0 _ hr k => ?_) hk
  show W p l e R s m args below meth c H locs cells slots Q (F0 m pc ls (.int i :: .ref (z_ad scr B a) :: S'.map (z_v scr B)))
  rcases hr.2.2.2 a _ ha with ⟨e1, e2, _⟩ | ⟨h0, hn, cA, a1, a2, a3⟩
  · cases e2
  · rw [show z_ad scr B a = B + a from if_neg h0]
    exact va_zald C0.1 C0.2.1 (z_K1 C0.2.2.2.2.2.2.2.1 a1 a2) (z_P1 (D := D) (cl := zcl) (q := (B + a, .inl (cA, n, .inl f))) a3) 0 0 rfl rfl hi hdg k
theorem ok_iast (hdg : decode (z_by M) pc = .ok (.iastore, 1)) : z_OK l scr B D M pc (o_aast .int) := by
  rintro d L S h r ⟨a, n, f, i, x, S', rfl, ha, hi, hk⟩
  refine ⟨hk.1, fun p e R s m args below meth c H locs cells slots ls Q n0 s0 C0 hl hr hfr hlo hce hsl hR1 hR2 hF => ?_⟩
  rcases hr.2.2.2 a _ ha with ⟨e1, e2, _⟩ | ⟨h0, hn, cA, a1, a2, a3⟩
  · cases e2
  · show W p l e R s m args below meth c H locs cells slots Q (F0 m pc ls (.int x :: .int i :: .ref (z_ad scr B a) :: S'.map (z_v scr B)))
    rw [show z_ad scr B a = B + a from if_neg h0]
    refine W.iast C0.1 C0.2.1 a3 (a1 n (fun j => .int (f j))) (fun q => by cases q) (by show ¬ (i < 0 ∨ (arrV _ _ _).slots.size ≤ _); rw [arrV_size]; exact hi) rfl rfl hdg fun H' e1 e2 e3 => ?_
    refine hk.2 p e R s m args below meth c H' _ cells slots ls Q n0 s0 C0 hl (hr.put h0 e2 e3 (Or.inr ⟨h0, hn, cA, a1, a2, ?_⟩)) (z_frput h0 hfr e3) (z_loput h0 hlo) hce hsl hR1 hR2 hF
    rw [e1]
    show some ((vp_cell cA (n, .inl f)).setSlot _ _) = some (vp_cell cA (n, .inl (upd f i.toNatClampNeg (vp_nar .int x))))
    rw [vp_cell_i, vp_cell_i, arrV_store]
    congr 2
    funext q
    by_cases hq : q = i.toNatClampNeg
    · subst hq
      simp [updV, upd, vp_nar]
      try rfl
    · simp [updV, upd, hq]
theorem ok_cast (hdg : decode (z_by M) pc = .ok (.castore, 1)) : z_OK l scr B D M pc (o_aast .char) := by
  rintro d L S h r ⟨a, n, f, i, x, S', rfl, ha, hi, hk⟩
  refine ⟨hk.1, fun p e R s m args below meth c H locs cells slots ls Q n0 s0 C0 hl hr hfr hlo hce hsl hR1 hR2 hF => ?_⟩
  rcases hr.2.2.2 a _ ha with ⟨e1, e2, _⟩ | ⟨h0, hn, cA, a1, a2, a3⟩
  · cases e2
  · show W p l e R s m args below meth c H locs cells slots Q (F0 m pc ls (.int x :: .int i :: .ref (z_ad scr B a) :: S'.map (z_v scr B)))
    rw [show z_ad scr B a = B + a from if_neg h0]
    refine W.cast C0.1 C0.2.1 a3 (a1 n (fun j => .int (f j))) (fun q => by cases q) (by show ¬ (i < 0 ∨ (arrV _ _ _).slots.size ≤ _); rw [arrV_size]; exact hi) rfl rfl hdg fun H' e1 e2 e3 => ?_
    refine hk.2 p e R s m args below meth c H' _ cells slots ls Q n0 s0 C0 hl (hr.put h0 e2 e3 (Or.inr ⟨h0, hn, cA, a1, a2, ?_⟩)) (z_frput h0 hfr e3) (z_loput h0 hlo) hce hsl hR1 hR2 hF
    rw [e1]
    show some ((vp_cell cA (n, .inl f)).setSlot _ _) = some (vp_cell cA (n, .inl (upd f i.toNatClampNeg (vp_nar .char x))))
    rw [vp_cell_i, vp_cell_i, arrV_store]
    congr 2
    funext q
    by_cases hq : q = i.toNatClampNeg
    · subst hq
      simp [updV, upd, vp_nar]
      try rfl
    · simp [updV, upd, hq]
theorem ok_zast (hdg : decode (z_by M) pc = .ok (.bastore, 1)) : z_OK l scr B D M pc (o_aast .boolean) := by
  rintro d L S h r ⟨a, n, f, i, x, S', rfl, ha, hi, hk⟩
  refine ⟨hk.1, fun p e R s m args below meth c H locs cells slots ls Q n0 s0 C0 hl hr hfr hlo hce hsl hR1 hR2 hF => ?_⟩
  rcases hr.2.2.2 a _ ha with ⟨e1, e2, _⟩ | ⟨h0, hn, cA, a1, a2, a3⟩
  · cases e2
  · show W p l e R s m args below meth c H locs cells slots Q (F0 m pc ls (.int x :: .int i :: .ref (z_ad scr B a) :: S'.map (z_v scr B)))
    rw [show z_ad scr B a = B + a from if_neg h0]
    refine W.zast C0.1 C0.2.1 a3 (a1 n (fun j => .int (f j))) (fun q => by cases q) (by show ¬ (i < 0 ∨ (arrV _ _ _).slots.size ≤ _); rw [arrV_size]; exact hi) rfl rfl hdg fun H' e1 e2 e3 => ?_
    refine hk.2 p e R s m args below meth c H' _ cells slots ls Q n0 s0 C0 hl (hr.put h0 e2 e3 (Or.inr ⟨h0, hn, cA, a1, a2, ?_⟩)) (z_frput h0 hfr e3) (z_loput h0 hlo) hce hsl hR1 hR2 hF
    rw [e1]
    show some ((vp_cell cA (n, .inl f)).setSlot _ _) = some (vp_cell cA (n, .inl (upd f i.toNatClampNeg (vp_nar .boolean x))))
    rw [vp_cell_i, vp_cell_i, arrV_store]
    congr 2
    funext q
    by_cases hq : q = i.toNatClampNeg
    · subst hq
      simp [updV, upd, vp_nar]
      try rfl
    · simp [updV, upd, hq]
theorem ok_rld {C : String} (hdg : decode (z_by M) pc = .ok (.aaload, 1)) : z_OK l scr B D M pc (o_rld C) := by
  rintro d L S h r ⟨a, n, f, i, S', rfl, ha, hi, hk⟩
  refine z_go (fun p e R s m args below meth c H locs cells slots ls Q C0 _ hr k => ?_) hk
  show W p l e R s m args below meth c H locs cells slots Q (F0 m pc ls (.int i :: .ref (z_ad scr B a) :: S'.map (z_v scr B)))
  rcases hr.2.2.2 a _ ha with ⟨e1, e2, _⟩ | ⟨h0, hn, cA, a1, a2, a3⟩
  · cases e2
  · rw [show z_ad scr B a = B + a from if_neg h0]
    refine va_aldq C0.1 C0.2.1 (z_K1 C0.2.2.2.2.2.2.2.1 a1 a2) (z_P1 (D := D) (cl := zcl) (q := (B + a, .inl (cA, n, .inr (.inr (.inr (.inr (fun j => (f j).map (z_ad scr B)))))))) a3) 0 0 rfl rfl hi hdg ?_
    rw [← z_rf_map]
    exact k
theorem ok_rst {C : String} {T : u_T} {ci N : Nat} (hdg : decode (z_by M) pc = .ok (.aastore, 1)) (hc : zcl[ci]? = some (C, T, N)) : z_OK l scr B D M pc (o_rst C ci) := by
  rintro d L S h r ⟨a, n, v, vs, f, i, S', rfl, ha, hv, hi, hk⟩
  refine ⟨hk.1, fun p e R s m args below meth c H locs cells slots ls Q n0 s0 C0 hl hr hfr hlo hce hsl hR1 hR2 hF => ?_⟩
  obtain ⟨hv0, r0, hr0, -, cellV, g1, g2, g3, -⟩ := hr.2.2.2 v _ hv
  rcases hr.2.2.2 a _ ha with ⟨e1, e2, _⟩ | ⟨h0, hn, cA, a1, ⟨kA, comp, k1, k2, k3, k4⟩, a3⟩
  · cases e2
  · have hcls := (C0.2.2.2.2.2.2.2.1.1 ci _ hc).2
    have hcomp : comp = D.1 ci := Option.some.inj (k3.symm.trans hcls.1)
    subst hcomp
    obtain ⟨kC, hkC, -⟩ := hcls.2
    have hlt : i.toNatClampNeg < n := Nat.not_le.mp fun q => hi (Or.inr q)
    have h00 : ¬ i < 0 := fun q => hi (Or.inl q)
    show W p l e R s m args below meth c H locs cells slots Q (F0 m pc ls (.ref (z_ad scr B v) :: .int i :: .ref (z_ad scr B a) :: S'.map (z_v scr B)))
    rw [show z_ad scr B a = B + a from if_neg h0, show z_ad scr B v = B + v from if_neg hv0]
    refine W.aast C0.1 C0.2.1 a3 (fun q h => by cases h) (fun h => by cases h) k1 k2 rfl hkC ⟨h00, by show _ < (arrV _ _ _).slots.size; rw [arrV_size]; exact hlt⟩ g1 (fun q h => by rw [g3] at h; cases h) (by rw [g2]; exact hkC) (by rw [g2]; exact va_assign hcls) rfl rfl hdg fun H' e1 e2 e3 => ?_
    refine hk.2 p e R s m args below meth c H' _ cells slots ls Q n0 s0 C0 hl (hr.put h0 e2 e3 (Or.inr ⟨h0, hn, cA, a1, ⟨kA, _, k1, k2, k3, k4⟩, ?_⟩)) (z_frput h0 hfr e3) (z_loput h0 hlo) hce hsl hR1 hR2 hF
    rw [e1]
    show some ((vp_cell cA (n, .inr (.inr (.inr (.inr (fun j => (f j).map (z_ad scr B))))))).setSlot _ _) = some (vp_cell cA (n, .inr (.inr (.inr (.inr (fun j => (va_up f i.toNatClampNeg (some v) j).map (z_ad scr B)))))))
    rw [vp_cell_q, vp_cell_q, arrV_store]
    congr 2
    funext q
    by_cases hq : q = i.toNatClampNeg
    · subst hq
      simp [updV, va_up, va_rf, z_ad, hv0]
    · simp [updV, va_up, hq]
end zSound2
