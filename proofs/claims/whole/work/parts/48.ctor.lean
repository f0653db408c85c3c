/-! The two constructors, over a heap that is a list of cells. -/
def z_lh (l : List zE) (s : Nat) : zH := (fun a => l[a]?, l.length, s)
theorem z_lh_st {l : List zE} {s a : Nat} {x : zE} (h : a < l.length) : z_st (z_lh l s) a x = z_lh (l.set a x) s := by
  refine Prod.ext (funext fun j => ?_) (Prod.ext (List.length_set).symm rfl)
  show (if j = a then some x else l[j]?) = (l.set a x)[j]?
  by_cases e : j = a
  · subst e; rw [if_pos rfl, List.getElem?_set_self h]
  · rw [if_neg e, List.getElem?_set_ne (fun z => e z.symm)]
theorem z_lh_al {l : List zE} {s n : Nat} {x : zE} : z_al (z_lh l s) x n = z_lh (l ++ [x]) (s + n) := by
  refine Prod.ext (funext fun j => ?_) (Prod.ext (by show l.length + 1 = (l ++ [x]).length; rw [List.length_append]; rfl) rfl)
  show (if j = l.length then some x else l[j]?) = (l ++ [x])[j]?
  by_cases e : j = l.length
  · subst e; rw [if_pos rfl, List.getElem?_concat_length]
  · rw [if_neg e]
    rcases Nat.lt_or_ge j l.length with z | z
    · rw [List.getElem?_append_left z]
    · rw [List.getElem?_eq_none z, List.getElem?_eq_none (by rw [List.length_append]; show l.length + 1 ≤ j; omega)]
section zLh
variable {d M pc q s : Nat} {L : zL} {S : List Value} {Q : zR → Prop} {l l' : List zE}
theorem r_put {ci j a : Nat} {ty : FieldType} {fs fs' : List Value} {v : Value} (ho : z_op M pc = o_put ci j ty) (hq : pc + 3 = q) (hx : l[a]? = some (.inr (ci, fs))) (hv : z_fit ty v) (hf : fs.set j v = fs') (hl : l.set a (.inr (ci, fs')) = l') (k : z_E d M q L S (z_lh l' s) Q) : z_E d M pc L (v :: .ref a :: S) (z_lh l s) Q := by
  refine e_put ho hq hx hv hf ?_
  rw [z_lh_st (List.getElem?_eq_some_iff.mp hx).1, hl]
  exact k
theorem r_new {ci n a : Nat} {fs : List Value} (ho : z_op M pc = o_new ci n fs) (hq : pc + 3 = q) (ha : l.length = a) (hl : l ++ [.inr (ci, fs)] = l') (k : z_E d M q L (.ref a :: S) (z_lh l' (s + n)) Q) : z_E d M pc L S (z_lh l s) Q := by
  refine e_new ho hq ha ?_
  rw [z_lh_al, hl]
  exact k
theorem r_newa {ty : FieldType} {n : Int32} {N a : Nat} (ho : z_op M pc = o_newa ty) (hq : pc + 2 = q) (h0 : ¬ n < 0) (h1 : n.toNatClampNeg = N) (h2 : N ≤ 100000) (ha : l.length = a) (hl : l ++ [.inl (ty, N, .inl (fun _ => 0))] = l') (k : z_E d M q L (.ref a :: S) (z_lh l' (s + N)) Q) : z_E d M pc L (.int n :: S) (z_lh l s) Q := by
  refine e_newa ho hq h0 h1 h2 ha ?_
  rw [z_lh_al, hl]
  exact k
theorem r_anew {C : String} {n : Int32} {N a : Nat} (ho : z_op M pc = o_anew C) (hq : pc + 3 = q) (h0 : ¬ n < 0) (h1 : n.toNatClampNeg = N) (h2 : N ≤ 100000) (ha : l.length = a) (hl : l ++ [.inl (.object C, N, .inr (.inr (.inr (.inr (fun _ => none)))))] = l') (k : z_E d M q L (.ref a :: S) (z_lh l' (s + N)) Q) : z_E d M pc L (.int n :: S) (z_lh l s) Q := by
  refine e_anew ho hq h0 h1 h2 ha ?_
  rw [z_lh_al, hl]
  exact k
end zLh
theorem m_chkInit {d : Nat} {h : zH} {a : Nat} : z_M (d + 1) 35 [.ref a] h (z_qv fun h' => h' = h) := by
  refine z_M.of ⟨Nat.le_of_ble_eq_true rfl, by simp [Value.category]⟩ (L := [some (.ref a)]) rfl ?_
  refine e_aload k35_0 (q := 1) rfl rfl ?_
  refine e_obj k35_1 (q := 4) rfl (Nat.le_of_ble_eq_true rfl) ?_
  refine e_vret k35_4 ?_
  exact ⟨_, rfl, rfl⟩
theorem m_textInit {d s a b N : Nat} {l l' : List zE} {n : Int32} (ha : (l ++ [(.inl (.char, N, .inl (fun _ => 0)) : zE)])[a]? = some (.inr (5, [.null, .int 0]))) (hb : l.length = b) (h0 : ¬ n < 0) (h1 : n.toNatClampNeg = N) (h2 : N ≤ 100000) (hl : (l ++ [(.inl (.char, N, .inl (fun _ => 0)) : zE)]).set a (.inr (5, [.ref b, .int 0])) = l') : z_M (d + 1) 60 [.ref a, .int n] (z_lh l s) (z_qv fun h' => h' = z_lh l' (s + N)) := by
  refine z_M.of ⟨Nat.le_of_ble_eq_true rfl, by simp [Value.category]⟩ (L := [some (.ref a), some (.int n)]) rfl ?_
  refine e_aload k60_0 (q := 1) rfl rfl ?_
  refine e_obj k60_1 (q := 4) rfl (Nat.le_of_ble_eq_true rfl) ?_
  refine e_aload k60_4 (q := 5) rfl rfl ?_
  refine e_iload k60_5 (q := 6) rfl rfl ?_
  refine r_newa k60_6 (q := 8) (N := N) (a := b) rfl h0 h1 h2 hb rfl ?_
  refine r_put k60_8 (q := 11) (fs' := [_, _]) rfl ha (Or.inr ⟨_, rfl⟩) rfl hl ?_
  refine e_vret k60_11 ?_
  exact ⟨_, rfl, rfl⟩
theorem m_msgInit {d s : Nat} {c0 c1 c2 c3 c4 : zE} : z_M (d + 2) 56 [.ref 5] (z_lh [c0, c1, c2, c3, c4, .inr (4, [.null, .int 0, .int 0, .null, .null, .null])] s) (z_qv fun h' => ∃ s', h' = z_lh [c0, c1, c2, c3, c4, .inr (4, [.ref 6, .int 0, .int 0, .ref 8, .ref 9, .ref 10]), .inr (5, [.ref 7, .int 0]), .inl (.char, 240, .inl (fun _ => 0)), .inl (.int, 12, .inl (fun _ => 0)), .inl (.int, 12, .inl (fun _ => 0)), .inl (.int, 12, .inl (fun _ => 0))] s' ∧ s' ≤ s + 1000) := by
  refine z_M.of ⟨Nat.le_of_ble_eq_true rfl, by simp [Value.category]⟩ (L := [some (.ref 5)]) rfl ?_
  refine e_aload k56_0 (q := 1) rfl rfl ?_
  refine e_obj k56_1 (q := 4) rfl (Nat.le_of_ble_eq_true rfl) ?_
  refine e_aload k56_4 (q := 5) rfl rfl ?_
  refine r_new k56_5 (q := 8) (a := 6) (l' := [_, _, _, _, _, _, _]) rfl rfl rfl ?_
  refine e_dup k56_8 (q := 9) rfl rfl ?_
  refine e_const k56_9 (q := 12) rfl ?_
  refine e_ci k56_12 (q := 15) (as := [_]) rfl rfl (Nat.le_of_ble_eq_true rfl) (m_textInit (a := 6) (b := 7) (N := 240) (l' := [_, _, _, _, _, _, _, _]) rfl rfl (by decide) rfl (by decide) rfl) rfl (z_kv fun h12 p12 => ?_)
  obtain rfl := p12
  refine r_put k56_15 (q := 18) (fs' := [_, _, _, _, _, _]) (l' := [_, _, _, _, _, _, _, _]) rfl rfl (Or.inr ⟨_, rfl⟩) rfl rfl ?_
  refine e_aload k56_18 (q := 19) rfl rfl ?_
  refine e_const k56_19 (q := 21) rfl ?_
  refine r_newa k56_21 (q := 23) (N := 12) (a := 8) (l' := [_, _, _, _, _, _, _, _, _]) rfl (by decide) rfl (by decide) rfl rfl ?_
  refine r_put k56_23 (q := 26) (fs' := [_, _, _, _, _, _]) (l' := [_, _, _, _, _, _, _, _, _]) rfl rfl (Or.inr ⟨_, rfl⟩) rfl rfl ?_
  refine e_aload k56_26 (q := 27) rfl rfl ?_
  refine e_const k56_27 (q := 29) rfl ?_
  refine r_newa k56_29 (q := 31) (N := 12) (a := 9) (l' := [_, _, _, _, _, _, _, _, _, _]) rfl (by decide) rfl (by decide) rfl rfl ?_
  refine r_put k56_31 (q := 34) (fs' := [_, _, _, _, _, _]) (l' := [_, _, _, _, _, _, _, _, _, _]) rfl rfl (Or.inr ⟨_, rfl⟩) rfl rfl ?_
  refine e_aload k56_34 (q := 35) rfl rfl ?_
  refine e_const k56_35 (q := 37) rfl ?_
  refine r_newa k56_37 (q := 39) (N := 12) (a := 10) (l' := [_, _, _, _, _, _, _, _, _, _, _]) rfl (by decide) rfl (by decide) rfl rfl ?_
  refine r_put k56_39 (q := 42) (fs' := [_, _, _, _, _, _]) (l' := [_, _, _, _, _, _, _, _, _, _, _]) rfl rfl (Or.inr ⟨_, rfl⟩) rfl rfl ?_
  refine e_vret k56_42 ?_
  exact ⟨_, rfl, _, rfl, by omega⟩
theorem m_cfInit {d s : Nat} {c0 c1 c2 c3 : zE} : z_M (d + 3) 46 [.ref 4] (z_lh [c0, c1, c2, c3, .inr (3, [.null, .null, .null, .null, .null, .int 0])] s) (z_qv fun h' => ∃ s', h' = z_lh [c0, c1, c2, c3, .inr (3, [.ref 5, .ref 11, .ref 13, .ref 15, .ref 16, .int 0]), .inr (4, [.ref 6, .int 0, .int 0, .ref 8, .ref 9, .ref 10]), .inr (5, [.ref 7, .int 0]), .inl (.char, 240, .inl (fun _ => 0)), .inl (.int, 12, .inl (fun _ => 0)), .inl (.int, 12, .inl (fun _ => 0)), .inl (.int, 12, .inl (fun _ => 0)), .inr (5, [.ref 12, .int 0]), .inl (.char, 60, .inl (fun _ => 0)), .inr (5, [.ref 14, .int 0]), .inl (.char, 242, .inl (fun _ => 0)), .inl (.boolean, 12, .inl (fun _ => 0)), .inl (.int, 12, .inl (fun _ => 0))] s' ∧ s' ≤ s + 2000) := by
  refine z_M.of ⟨Nat.le_of_ble_eq_true rfl, by simp [Value.category]⟩ (L := [some (.ref 4)]) rfl ?_
  refine e_aload k46_0 (q := 1) rfl rfl ?_
  refine e_obj k46_1 (q := 4) rfl (Nat.le_of_ble_eq_true rfl) ?_
  refine e_aload k46_4 (q := 5) rfl rfl ?_
  refine r_new k46_5 (q := 8) (a := 5) (l' := [_, _, _, _, _, _]) rfl rfl rfl ?_
  refine e_dup k46_8 (q := 9) rfl rfl ?_
  refine e_ci k46_9 (q := 12) (as := []) rfl rfl (Nat.le_of_ble_eq_true rfl) m_msgInit rfl (z_kv fun h9 p9 => ?_)
  obtain ⟨s9, rfl, hs9⟩ := p9
  refine r_put k46_12 (q := 15) (fs' := [_, _, _, _, _, _]) (l' := [_, _, _, _, _, _, _, _, _, _, _]) rfl rfl (Or.inr ⟨_, rfl⟩) rfl rfl ?_
  refine e_aload k46_15 (q := 16) rfl rfl ?_
  refine r_new k46_16 (q := 19) (a := 11) (l' := [_, _, _, _, _, _, _, _, _, _, _, _]) rfl rfl rfl ?_
  refine e_dup k46_19 (q := 20) rfl rfl ?_
  refine e_const k46_20 (q := 22) rfl ?_
  refine e_ci k46_22 (q := 25) (as := [_]) rfl rfl (Nat.le_of_ble_eq_true rfl) (m_textInit (a := 11) (b := 12) (N := 60) (l' := [_, _, _, _, _, _, _, _, _, _, _, _, _]) rfl rfl (by decide) rfl (by decide) rfl) rfl (z_kv fun h22 p22 => ?_)
  obtain rfl := p22
  refine r_put k46_25 (q := 28) (fs' := [_, _, _, _, _, _]) (l' := [_, _, _, _, _, _, _, _, _, _, _, _, _]) rfl rfl (Or.inr ⟨_, rfl⟩) rfl rfl ?_
  refine e_aload k46_28 (q := 29) rfl rfl ?_
  refine r_new k46_29 (q := 32) (a := 13) (l' := [_, _, _, _, _, _, _, _, _, _, _, _, _, _]) rfl rfl rfl ?_
  refine e_dup k46_32 (q := 33) rfl rfl ?_
  refine e_const k46_33 (q := 36) rfl ?_
  refine e_ci k46_36 (q := 39) (as := [_]) rfl rfl (Nat.le_of_ble_eq_true rfl) (m_textInit (a := 13) (b := 14) (N := 242) (l' := [_, _, _, _, _, _, _, _, _, _, _, _, _, _, _]) rfl rfl (by decide) rfl (by decide) rfl) rfl (z_kv fun h36 p36 => ?_)
  obtain rfl := p36
  refine r_put k46_39 (q := 42) (fs' := [_, _, _, _, _, _]) (l' := [_, _, _, _, _, _, _, _, _, _, _, _, _, _, _]) rfl rfl (Or.inr ⟨_, rfl⟩) rfl rfl ?_
  refine e_aload k46_42 (q := 43) rfl rfl ?_
  refine e_const k46_43 (q := 45) rfl ?_
  refine r_newa k46_45 (q := 47) (N := 12) (a := 15) (l' := [_, _, _, _, _, _, _, _, _, _, _, _, _, _, _, _]) rfl (by decide) rfl (by decide) rfl rfl ?_
  refine r_put k46_47 (q := 50) (fs' := [_, _, _, _, _, _]) (l' := [_, _, _, _, _, _, _, _, _, _, _, _, _, _, _, _]) rfl rfl (Or.inr ⟨_, rfl⟩) rfl rfl ?_
  refine e_aload k46_50 (q := 51) rfl rfl ?_
  refine e_const k46_51 (q := 53) rfl ?_
  refine r_newa k46_53 (q := 55) (N := 12) (a := 16) (l' := [_, _, _, _, _, _, _, _, _, _, _, _, _, _, _, _, _]) rfl (by decide) rfl (by decide) rfl rfl ?_
  refine r_put k46_55 (q := 58) (fs' := [_, _, _, _, _, _]) (l' := [_, _, _, _, _, _, _, _, _, _, _, _, _, _, _, _, _]) rfl rfl (Or.inr ⟨_, rfl⟩) rfl rfl ?_
  refine e_vret k46_58 ?_
  exact ⟨_, rfl, _, rfl, by omega⟩
theorem m_init0 {d s : Nat} {c0 : zE} : z_M (d + 4) 0 [.ref 1] (z_lh [c0, .inr (0, [.null, .int 0, .null, .null, .null, .null, .null, .int 0])] s) (z_qv fun h' => ∃ s', h' = z_lh [c0, .inr (0, [.ref 2, .int 0, .ref 3, .ref 4, .ref 5, .ref 11, .ref 17, .int 0]), .inl (.object "MailVerdicts$Domain", 12, .inr (.inr (.inr (.inr (fun _ => none))))), .inr (2, [.int 0, .int 0, .int 0]), .inr (3, [.ref 5, .ref 11, .ref 13, .ref 15, .ref 16, .int 0]), .inr (4, [.ref 6, .int 0, .int 0, .ref 8, .ref 9, .ref 10]), .inr (5, [.ref 7, .int 0]), .inl (.char, 240, .inl (fun _ => 0)), .inl (.int, 12, .inl (fun _ => 0)), .inl (.int, 12, .inl (fun _ => 0)), .inl (.int, 12, .inl (fun _ => 0)), .inr (5, [.ref 12, .int 0]), .inl (.char, 60, .inl (fun _ => 0)), .inr (5, [.ref 14, .int 0]), .inl (.char, 242, .inl (fun _ => 0)), .inl (.boolean, 12, .inl (fun _ => 0)), .inl (.int, 12, .inl (fun _ => 0)), .inl (.object "MailVerdicts$Signature", 3, .inr (.inr (.inr (.inr (fun _ => none)))))] s' ∧ s' ≤ s + 3000) := by
  refine z_M.of ⟨Nat.le_of_ble_eq_true rfl, by simp [Value.category]⟩ (L := [some (.ref 1)]) rfl ?_
  refine e_aload k0_0 (q := 1) rfl rfl ?_
  refine e_obj k0_1 (q := 4) rfl (Nat.le_of_ble_eq_true rfl) ?_
  refine e_aload k0_4 (q := 5) rfl rfl ?_
  refine e_const k0_5 (q := 7) rfl ?_
  refine r_anew k0_7 (q := 10) (N := 12) (a := 2) (l' := [_, _, _]) rfl (by decide) rfl (by decide) rfl rfl ?_
  refine r_put k0_10 (q := 13) (fs' := [_, _, _, _, _, _, _, _]) (l' := [_, _, _]) rfl rfl (Or.inr ⟨_, rfl⟩) rfl rfl ?_
  refine e_aload k0_13 (q := 14) rfl rfl ?_
  refine r_new k0_14 (q := 17) (a := 3) (l' := [_, _, _, _]) rfl rfl rfl ?_
  refine e_dup k0_17 (q := 18) rfl rfl ?_
  refine e_ci k0_18 (q := 21) (as := []) rfl rfl (Nat.le_of_ble_eq_true rfl) m_chkInit rfl (z_kv fun h18 p18 => ?_)
  obtain rfl := p18
  refine r_put k0_21 (q := 24) (fs' := [_, _, _, _, _, _, _, _]) (l' := [_, _, _, _]) rfl rfl (Or.inr ⟨_, rfl⟩) rfl rfl ?_
  refine e_aload k0_24 (q := 25) rfl rfl ?_
  refine r_new k0_25 (q := 28) (a := 4) (l' := [_, _, _, _, _]) rfl rfl rfl ?_
  refine e_dup k0_28 (q := 29) rfl rfl ?_
  refine e_ci k0_29 (q := 32) (as := []) rfl rfl (Nat.le_of_ble_eq_true rfl) m_cfInit rfl (z_kv fun h29 p29 => ?_)
  obtain ⟨s29, rfl, hs29⟩ := p29
  refine r_put k0_32 (q := 35) (fs' := [_, _, _, _, _, _, _, _]) (l' := [_, _, _, _, _, _, _, _, _, _, _, _, _, _, _, _, _]) rfl rfl (Or.inr ⟨_, rfl⟩) rfl rfl ?_
  refine e_aload k0_35 (q := 36) rfl rfl ?_
  refine e_aload k0_36 (q := 37) rfl rfl ?_
  refine e_get k0_37 (q := 40) rfl rfl rfl ?_
  refine e_get k0_40 (q := 43) rfl rfl rfl ?_
  refine r_put k0_43 (q := 46) (fs' := [_, _, _, _, _, _, _, _]) (l' := [_, _, _, _, _, _, _, _, _, _, _, _, _, _, _, _, _]) rfl rfl (Or.inr ⟨_, rfl⟩) rfl rfl ?_
  refine e_aload k0_46 (q := 47) rfl rfl ?_
  refine e_aload k0_47 (q := 48) rfl rfl ?_
  refine e_get k0_48 (q := 51) rfl rfl rfl ?_
  refine e_get k0_51 (q := 54) rfl rfl rfl ?_
  refine r_put k0_54 (q := 57) (fs' := [_, _, _, _, _, _, _, _]) (l' := [_, _, _, _, _, _, _, _, _, _, _, _, _, _, _, _, _]) rfl rfl (Or.inr ⟨_, rfl⟩) rfl rfl ?_
  refine e_aload k0_57 (q := 58) rfl rfl ?_
  refine e_const k0_58 (q := 59) rfl ?_
  refine r_anew k0_59 (q := 62) (N := 3) (a := 17) (l' := [_, _, _, _, _, _, _, _, _, _, _, _, _, _, _, _, _, _]) rfl (by decide) rfl (by decide) rfl rfl ?_
  refine r_put k0_62 (q := 65) (fs' := [_, _, _, _, _, _, _, _]) (l' := [_, _, _, _, _, _, _, _, _, _, _, _, _, _, _, _, _, _]) rfl rfl (Or.inr ⟨_, rfl⟩) rfl rfl ?_
  refine e_vret k0_65 ?_
  exact ⟨_, rfl, _, rfl, by omega⟩
theorem m_init70 {d s : Nat} {c0 c1 c2 c3 c4 c5 c6 c7 c8 c9 c10 c11 c12 c13 c14 c15 c16 c17 : zE} : z_M (d + 1) 70 [.ref 18] (z_lh [c0, c1, c2, c3, c4, c5, c6, c7, c8, c9, c10, c11, c12, c13, c14, c15, c16, c17, .inr (10, [.int 0, .null, .null, .null, .null, .null, .null, .null, .null, .null, .null, .null, .null, .null, .null, .null, .null, .null, .int 0, .int 0, .int 0, .null, .null, .null, .int 0, .null, .int 0, .null, .int 0, .null, .null, .null, .null, .int 0, .null, .null, .int 0, .int 0, .null, .null, .null, .null, .int 0, .null])] s) (z_qv fun h' => ∃ s', h' = z_lh [c0, c1, c2, c3, c4, c5, c6, c7, c8, c9, c10, c11, c12, c13, c14, c15, c16, c17, .inr (10, [.int 0, .ref 19, .ref 20, .ref 21, .ref 22, .ref 23, .ref 24, .ref 25, .ref 26, .ref 27, .ref 28, .ref 29, .ref 30, .ref 31, .ref 32, .ref 33, .ref 34, .ref 35, .int 0, .int 0, .int 0, .ref 36, .ref 37, .ref 38, .int 0, .ref 39, .int 0, .ref 40, .int 0, .ref 41, .ref 42, .ref 43, .ref 44, .int 0, .ref 45, .ref 46, .int 0, .int 0, .ref 47, .ref 48, .ref 49, .ref 50, .int 0, .ref 51]), .inl (.int, 12, .inl (fun _ => 0)), .inl (.boolean, 12, .inl (fun _ => 0)), .inl (.int, 12, .inl (fun _ => 0)), .inl (.int, 36, .inl (fun _ => 0)), .inl (.int, 12, .inl (fun _ => 0)), .inl (.int, 36, .inl (fun _ => 0)), .inl (.int, 12, .inl (fun _ => 0)), .inl (.int, 12, .inl (fun _ => 0)), .inl (.int, 12, .inl (fun _ => 0)), .inl (.int, 12, .inl (fun _ => 0)), .inl (.boolean, 12, .inl (fun _ => 0)), .inl (.boolean, 12, .inl (fun _ => 0)), .inl (.int, 12, .inl (fun _ => 0)), .inl (.int, 96, .inl (fun _ => 0)), .inl (.int, 96, .inl (fun _ => 0)), .inl (.int, 96, .inl (fun _ => 0)), .inl (.int, 96, .inl (fun _ => 0)), .inl (.int, 12, .inl (fun _ => 0)), .inl (.int, 12, .inl (fun _ => 0)), .inl (.boolean, 12, .inl (fun _ => 0)), .inl (.int, 240, .inl (fun _ => 0)), .inl (.int, 60, .inl (fun _ => 0)), .inl (.int, 3, .inl (fun _ => 0)), .inl (.boolean, 3, .inl (fun _ => 0)), .inl (.boolean, 3, .inl (fun _ => 0)), .inl (.int, 3, .inl (fun _ => 0)), .inl (.int, 241, .inl (fun _ => 0)), .inl (.int, 241, .inl (fun _ => 0)), .inl (.int, 12, .inl (fun _ => 0)), .inl (.int, 12, .inl (fun _ => 0)), .inl (.int, 12, .inl (fun _ => 0)), .inl (.boolean, 12, .inl (fun _ => 0)), .inl (.int, 500, .inl (fun _ => 0))] s' ∧ s' ≤ s + 3000) := by
  refine z_M.of ⟨Nat.le_of_ble_eq_true rfl, by simp [Value.category]⟩ (L := [some (.ref 18)]) rfl ?_
  refine e_aload k70_0 (q := 1) rfl rfl ?_
  refine e_obj k70_1 (q := 4) rfl (Nat.le_of_ble_eq_true rfl) ?_
  refine e_aload k70_4 (q := 5) rfl rfl ?_
  refine e_const k70_5 (q := 7) rfl ?_
  refine r_newa k70_7 (q := 9) (N := 12) (a := 19) (l' := [_, _, _, _, _, _, _, _, _, _, _, _, _, _, _, _, _, _, _, _]) rfl (by decide) rfl (by decide) rfl rfl ?_
  refine r_put k70_9 (q := 12) (fs' := [_, _, _, _, _, _, _, _, _, _, _, _, _, _, _, _, _, _, _, _, _, _, _, _, _, _, _, _, _, _, _, _, _, _, _, _, _, _, _, _, _, _, _, _]) (l' := [_, _, _, _, _, _, _, _, _, _, _, _, _, _, _, _, _, _, _, _]) rfl rfl (Or.inr ⟨_, rfl⟩) rfl rfl ?_
  refine e_aload k70_12 (q := 13) rfl rfl ?_
  refine e_const k70_13 (q := 15) rfl ?_
  refine r_newa k70_15 (q := 17) (N := 12) (a := 20) (l' := [_, _, _, _, _, _, _, _, _, _, _, _, _, _, _, _, _, _, _, _, _]) rfl (by decide) rfl (by decide) rfl rfl ?_
  refine r_put k70_17 (q := 20) (fs' := [_, _, _, _, _, _, _, _, _, _, _, _, _, _, _, _, _, _, _, _, _, _, _, _, _, _, _, _, _, _, _, _, _, _, _, _, _, _, _, _, _, _, _, _]) (l' := [_, _, _, _, _, _, _, _, _, _, _, _, _, _, _, _, _, _, _, _, _]) rfl rfl (Or.inr ⟨_, rfl⟩) rfl rfl ?_
  refine e_aload k70_20 (q := 21) rfl rfl ?_
  refine e_const k70_21 (q := 23) rfl ?_
  refine r_newa k70_23 (q := 25) (N := 12) (a := 21) (l' := [_, _, _, _, _, _, _, _, _, _, _, _, _, _, _, _, _, _, _, _, _, _]) rfl (by decide) rfl (by decide) rfl rfl ?_
  refine r_put k70_25 (q := 28) (fs' := [_, _, _, _, _, _, _, _, _, _, _, _, _, _, _, _, _, _, _, _, _, _, _, _, _, _, _, _, _, _, _, _, _, _, _, _, _, _, _, _, _, _, _, _]) (l' := [_, _, _, _, _, _, _, _, _, _, _, _, _, _, _, _, _, _, _, _, _, _]) rfl rfl (Or.inr ⟨_, rfl⟩) rfl rfl ?_
  refine e_aload k70_28 (q := 29) rfl rfl ?_
  refine e_const k70_29 (q := 31) rfl ?_
  refine r_newa k70_31 (q := 33) (N := 36) (a := 22) (l' := [_, _, _, _, _, _, _, _, _, _, _, _, _, _, _, _, _, _, _, _, _, _, _]) rfl (by decide) rfl (by decide) rfl rfl ?_
  refine r_put k70_33 (q := 36) (fs' := [_, _, _, _, _, _, _, _, _, _, _, _, _, _, _, _, _, _, _, _, _, _, _, _, _, _, _, _, _, _, _, _, _, _, _, _, _, _, _, _, _, _, _, _]) (l' := [_, _, _, _, _, _, _, _, _, _, _, _, _, _, _, _, _, _, _, _, _, _, _]) rfl rfl (Or.inr ⟨_, rfl⟩) rfl rfl ?_
  refine e_aload k70_36 (q := 37) rfl rfl ?_
  refine e_const k70_37 (q := 39) rfl ?_
  refine r_newa k70_39 (q := 41) (N := 12) (a := 23) (l' := [_, _, _, _, _, _, _, _, _, _, _, _, _, _, _, _, _, _, _, _, _, _, _, _]) rfl (by decide) rfl (by decide) rfl rfl ?_
  refine r_put k70_41 (q := 44) (fs' := [_, _, _, _, _, _, _, _, _, _, _, _, _, _, _, _, _, _, _, _, _, _, _, _, _, _, _, _, _, _, _, _, _, _, _, _, _, _, _, _, _, _, _, _]) (l' := [_, _, _, _, _, _, _, _, _, _, _, _, _, _, _, _, _, _, _, _, _, _, _, _]) rfl rfl (Or.inr ⟨_, rfl⟩) rfl rfl ?_
  refine e_aload k70_44 (q := 45) rfl rfl ?_
  refine e_const k70_45 (q := 47) rfl ?_
  refine r_newa k70_47 (q := 49) (N := 36) (a := 24) (l' := [_, _, _, _, _, _, _, _, _, _, _, _, _, _, _, _, _, _, _, _, _, _, _, _, _]) rfl (by decide) rfl (by decide) rfl rfl ?_
  refine r_put k70_49 (q := 52) (fs' := [_, _, _, _, _, _, _, _, _, _, _, _, _, _, _, _, _, _, _, _, _, _, _, _, _, _, _, _, _, _, _, _, _, _, _, _, _, _, _, _, _, _, _, _]) (l' := [_, _, _, _, _, _, _, _, _, _, _, _, _, _, _, _, _, _, _, _, _, _, _, _, _]) rfl rfl (Or.inr ⟨_, rfl⟩) rfl rfl ?_
  refine e_aload k70_52 (q := 53) rfl rfl ?_
  refine e_const k70_53 (q := 55) rfl ?_
  refine r_newa k70_55 (q := 57) (N := 12) (a := 25) (l' := [_, _, _, _, _, _, _, _, _, _, _, _, _, _, _, _, _, _, _, _, _, _, _, _, _, _]) rfl (by decide) rfl (by decide) rfl rfl ?_
  refine r_put k70_57 (q := 60) (fs' := [_, _, _, _, _, _, _, _, _, _, _, _, _, _, _, _, _, _, _, _, _, _, _, _, _, _, _, _, _, _, _, _, _, _, _, _, _, _, _, _, _, _, _, _]) (l' := [_, _, _, _, _, _, _, _, _, _, _, _, _, _, _, _, _, _, _, _, _, _, _, _, _, _]) rfl rfl (Or.inr ⟨_, rfl⟩) rfl rfl ?_
  refine e_aload k70_60 (q := 61) rfl rfl ?_
  refine e_const k70_61 (q := 63) rfl ?_
  refine r_newa k70_63 (q := 65) (N := 12) (a := 26) (l' := [_, _, _, _, _, _, _, _, _, _, _, _, _, _, _, _, _, _, _, _, _, _, _, _, _, _, _]) rfl (by decide) rfl (by decide) rfl rfl ?_
  refine r_put k70_65 (q := 68) (fs' := [_, _, _, _, _, _, _, _, _, _, _, _, _, _, _, _, _, _, _, _, _, _, _, _, _, _, _, _, _, _, _, _, _, _, _, _, _, _, _, _, _, _, _, _]) (l' := [_, _, _, _, _, _, _, _, _, _, _, _, _, _, _, _, _, _, _, _, _, _, _, _, _, _, _]) rfl rfl (Or.inr ⟨_, rfl⟩) rfl rfl ?_
  refine e_aload k70_68 (q := 69) rfl rfl ?_
  refine e_const k70_69 (q := 71) rfl ?_
  refine r_newa k70_71 (q := 73) (N := 12) (a := 27) (l' := [_, _, _, _, _, _, _, _, _, _, _, _, _, _, _, _, _, _, _, _, _, _, _, _, _, _, _, _]) rfl (by decide) rfl (by decide) rfl rfl ?_
  refine r_put k70_73 (q := 76) (fs' := [_, _, _, _, _, _, _, _, _, _, _, _, _, _, _, _, _, _, _, _, _, _, _, _, _, _, _, _, _, _, _, _, _, _, _, _, _, _, _, _, _, _, _, _]) (l' := [_, _, _, _, _, _, _, _, _, _, _, _, _, _, _, _, _, _, _, _, _, _, _, _, _, _, _, _]) rfl rfl (Or.inr ⟨_, rfl⟩) rfl rfl ?_
  refine e_aload k70_76 (q := 77) rfl rfl ?_
  refine e_const k70_77 (q := 79) rfl ?_
  refine r_newa k70_79 (q := 81) (N := 12) (a := 28) (l' := [_, _, _, _, _, _, _, _, _, _, _, _, _, _, _, _, _, _, _, _, _, _, _, _, _, _, _, _, _]) rfl (by decide) rfl (by decide) rfl rfl ?_
  refine r_put k70_81 (q := 84) (fs' := [_, _, _, _, _, _, _, _, _, _, _, _, _, _, _, _, _, _, _, _, _, _, _, _, _, _, _, _, _, _, _, _, _, _, _, _, _, _, _, _, _, _, _, _]) (l' := [_, _, _, _, _, _, _, _, _, _, _, _, _, _, _, _, _, _, _, _, _, _, _, _, _, _, _, _, _]) rfl rfl (Or.inr ⟨_, rfl⟩) rfl rfl ?_
  refine e_aload k70_84 (q := 85) rfl rfl ?_
  refine e_const k70_85 (q := 87) rfl ?_
  refine r_newa k70_87 (q := 89) (N := 12) (a := 29) (l' := [_, _, _, _, _, _, _, _, _, _, _, _, _, _, _, _, _, _, _, _, _, _, _, _, _, _, _, _, _, _]) rfl (by decide) rfl (by decide) rfl rfl ?_
  refine r_put k70_89 (q := 92) (fs' := [_, _, _, _, _, _, _, _, _, _, _, _, _, _, _, _, _, _, _, _, _, _, _, _, _, _, _, _, _, _, _, _, _, _, _, _, _, _, _, _, _, _, _, _]) (l' := [_, _, _, _, _, _, _, _, _, _, _, _, _, _, _, _, _, _, _, _, _, _, _, _, _, _, _, _, _, _]) rfl rfl (Or.inr ⟨_, rfl⟩) rfl rfl ?_
  refine e_aload k70_92 (q := 93) rfl rfl ?_
  refine e_const k70_93 (q := 95) rfl ?_
  refine r_newa k70_95 (q := 97) (N := 12) (a := 30) (l' := [_, _, _, _, _, _, _, _, _, _, _, _, _, _, _, _, _, _, _, _, _, _, _, _, _, _, _, _, _, _, _]) rfl (by decide) rfl (by decide) rfl rfl ?_
  refine r_put k70_97 (q := 100) (fs' := [_, _, _, _, _, _, _, _, _, _, _, _, _, _, _, _, _, _, _, _, _, _, _, _, _, _, _, _, _, _, _, _, _, _, _, _, _, _, _, _, _, _, _, _]) (l' := [_, _, _, _, _, _, _, _, _, _, _, _, _, _, _, _, _, _, _, _, _, _, _, _, _, _, _, _, _, _, _]) rfl rfl (Or.inr ⟨_, rfl⟩) rfl rfl ?_
  refine e_aload k70_100 (q := 101) rfl rfl ?_
  refine e_const k70_101 (q := 103) rfl ?_
  refine r_newa k70_103 (q := 105) (N := 12) (a := 31) (l' := [_, _, _, _, _, _, _, _, _, _, _, _, _, _, _, _, _, _, _, _, _, _, _, _, _, _, _, _, _, _, _, _]) rfl (by decide) rfl (by decide) rfl rfl ?_
  refine r_put k70_105 (q := 108) (fs' := [_, _, _, _, _, _, _, _, _, _, _, _, _, _, _, _, _, _, _, _, _, _, _, _, _, _, _, _, _, _, _, _, _, _, _, _, _, _, _, _, _, _, _, _]) (l' := [_, _, _, _, _, _, _, _, _, _, _, _, _, _, _, _, _, _, _, _, _, _, _, _, _, _, _, _, _, _, _, _]) rfl rfl (Or.inr ⟨_, rfl⟩) rfl rfl ?_
  refine e_aload k70_108 (q := 109) rfl rfl ?_
  refine e_const k70_109 (q := 111) rfl ?_
  refine r_newa k70_111 (q := 113) (N := 96) (a := 32) (l' := [_, _, _, _, _, _, _, _, _, _, _, _, _, _, _, _, _, _, _, _, _, _, _, _, _, _, _, _, _, _, _, _, _]) rfl (by decide) rfl (by decide) rfl rfl ?_
  refine r_put k70_113 (q := 116) (fs' := [_, _, _, _, _, _, _, _, _, _, _, _, _, _, _, _, _, _, _, _, _, _, _, _, _, _, _, _, _, _, _, _, _, _, _, _, _, _, _, _, _, _, _, _]) (l' := [_, _, _, _, _, _, _, _, _, _, _, _, _, _, _, _, _, _, _, _, _, _, _, _, _, _, _, _, _, _, _, _, _]) rfl rfl (Or.inr ⟨_, rfl⟩) rfl rfl ?_
  refine e_aload k70_116 (q := 117) rfl rfl ?_
  refine e_const k70_117 (q := 119) rfl ?_
  refine r_newa k70_119 (q := 121) (N := 96) (a := 33) (l' := [_, _, _, _, _, _, _, _, _, _, _, _, _, _, _, _, _, _, _, _, _, _, _, _, _, _, _, _, _, _, _, _, _, _]) rfl (by decide) rfl (by decide) rfl rfl ?_
  refine r_put k70_121 (q := 124) (fs' := [_, _, _, _, _, _, _, _, _, _, _, _, _, _, _, _, _, _, _, _, _, _, _, _, _, _, _, _, _, _, _, _, _, _, _, _, _, _, _, _, _, _, _, _]) (l' := [_, _, _, _, _, _, _, _, _, _, _, _, _, _, _, _, _, _, _, _, _, _, _, _, _, _, _, _, _, _, _, _, _, _]) rfl rfl (Or.inr ⟨_, rfl⟩) rfl rfl ?_
  refine e_aload k70_124 (q := 125) rfl rfl ?_
  refine e_const k70_125 (q := 127) rfl ?_
  refine r_newa k70_127 (q := 129) (N := 96) (a := 34) (l' := [_, _, _, _, _, _, _, _, _, _, _, _, _, _, _, _, _, _, _, _, _, _, _, _, _, _, _, _, _, _, _, _, _, _, _]) rfl (by decide) rfl (by decide) rfl rfl ?_
  refine r_put k70_129 (q := 132) (fs' := [_, _, _, _, _, _, _, _, _, _, _, _, _, _, _, _, _, _, _, _, _, _, _, _, _, _, _, _, _, _, _, _, _, _, _, _, _, _, _, _, _, _, _, _]) (l' := [_, _, _, _, _, _, _, _, _, _, _, _, _, _, _, _, _, _, _, _, _, _, _, _, _, _, _, _, _, _, _, _, _, _, _]) rfl rfl (Or.inr ⟨_, rfl⟩) rfl rfl ?_
  refine e_aload k70_132 (q := 133) rfl rfl ?_
  refine e_const k70_133 (q := 135) rfl ?_
  refine r_newa k70_135 (q := 137) (N := 96) (a := 35) (l' := [_, _, _, _, _, _, _, _, _, _, _, _, _, _, _, _, _, _, _, _, _, _, _, _, _, _, _, _, _, _, _, _, _, _, _, _]) rfl (by decide) rfl (by decide) rfl rfl ?_
  refine r_put k70_137 (q := 140) (fs' := [_, _, _, _, _, _, _, _, _, _, _, _, _, _, _, _, _, _, _, _, _, _, _, _, _, _, _, _, _, _, _, _, _, _, _, _, _, _, _, _, _, _, _, _]) (l' := [_, _, _, _, _, _, _, _, _, _, _, _, _, _, _, _, _, _, _, _, _, _, _, _, _, _, _, _, _, _, _, _, _, _, _, _]) rfl rfl (Or.inr ⟨_, rfl⟩) rfl rfl ?_
  refine e_aload k70_140 (q := 141) rfl rfl ?_
  refine e_const k70_141 (q := 143) rfl ?_
  refine r_newa k70_143 (q := 145) (N := 12) (a := 36) (l' := [_, _, _, _, _, _, _, _, _, _, _, _, _, _, _, _, _, _, _, _, _, _, _, _, _, _, _, _, _, _, _, _, _, _, _, _, _]) rfl (by decide) rfl (by decide) rfl rfl ?_
  refine r_put k70_145 (q := 148) (fs' := [_, _, _, _, _, _, _, _, _, _, _, _, _, _, _, _, _, _, _, _, _, _, _, _, _, _, _, _, _, _, _, _, _, _, _, _, _, _, _, _, _, _, _, _]) (l' := [_, _, _, _, _, _, _, _, _, _, _, _, _, _, _, _, _, _, _, _, _, _, _, _, _, _, _, _, _, _, _, _, _, _, _, _, _]) rfl rfl (Or.inr ⟨_, rfl⟩) rfl rfl ?_
  refine e_aload k70_148 (q := 149) rfl rfl ?_
  refine e_const k70_149 (q := 151) rfl ?_
  refine r_newa k70_151 (q := 153) (N := 12) (a := 37) (l' := [_, _, _, _, _, _, _, _, _, _, _, _, _, _, _, _, _, _, _, _, _, _, _, _, _, _, _, _, _, _, _, _, _, _, _, _, _, _]) rfl (by decide) rfl (by decide) rfl rfl ?_
  refine r_put k70_153 (q := 156) (fs' := [_, _, _, _, _, _, _, _, _, _, _, _, _, _, _, _, _, _, _, _, _, _, _, _, _, _, _, _, _, _, _, _, _, _, _, _, _, _, _, _, _, _, _, _]) (l' := [_, _, _, _, _, _, _, _, _, _, _, _, _, _, _, _, _, _, _, _, _, _, _, _, _, _, _, _, _, _, _, _, _, _, _, _, _, _]) rfl rfl (Or.inr ⟨_, rfl⟩) rfl rfl ?_
  refine e_aload k70_156 (q := 157) rfl rfl ?_
  refine e_const k70_157 (q := 159) rfl ?_
  refine r_newa k70_159 (q := 161) (N := 12) (a := 38) (l' := [_, _, _, _, _, _, _, _, _, _, _, _, _, _, _, _, _, _, _, _, _, _, _, _, _, _, _, _, _, _, _, _, _, _, _, _, _, _, _]) rfl (by decide) rfl (by decide) rfl rfl ?_
  refine r_put k70_161 (q := 164) (fs' := [_, _, _, _, _, _, _, _, _, _, _, _, _, _, _, _, _, _, _, _, _, _, _, _, _, _, _, _, _, _, _, _, _, _, _, _, _, _, _, _, _, _, _, _]) (l' := [_, _, _, _, _, _, _, _, _, _, _, _, _, _, _, _, _, _, _, _, _, _, _, _, _, _, _, _, _, _, _, _, _, _, _, _, _, _, _]) rfl rfl (Or.inr ⟨_, rfl⟩) rfl rfl ?_
  refine e_aload k70_164 (q := 165) rfl rfl ?_
  refine e_const k70_165 (q := 168) rfl ?_
  refine r_newa k70_168 (q := 170) (N := 240) (a := 39) (l' := [_, _, _, _, _, _, _, _, _, _, _, _, _, _, _, _, _, _, _, _, _, _, _, _, _, _, _, _, _, _, _, _, _, _, _, _, _, _, _, _]) rfl (by decide) rfl (by decide) rfl rfl ?_
  refine r_put k70_170 (q := 173) (fs' := [_, _, _, _, _, _, _, _, _, _, _, _, _, _, _, _, _, _, _, _, _, _, _, _, _, _, _, _, _, _, _, _, _, _, _, _, _, _, _, _, _, _, _, _]) (l' := [_, _, _, _, _, _, _, _, _, _, _, _, _, _, _, _, _, _, _, _, _, _, _, _, _, _, _, _, _, _, _, _, _, _, _, _, _, _, _, _]) rfl rfl (Or.inr ⟨_, rfl⟩) rfl rfl ?_
  refine e_aload k70_173 (q := 174) rfl rfl ?_
  refine e_const k70_174 (q := 176) rfl ?_
  refine r_newa k70_176 (q := 178) (N := 60) (a := 40) (l' := [_, _, _, _, _, _, _, _, _, _, _, _, _, _, _, _, _, _, _, _, _, _, _, _, _, _, _, _, _, _, _, _, _, _, _, _, _, _, _, _, _]) rfl (by decide) rfl (by decide) rfl rfl ?_
  refine r_put k70_178 (q := 181) (fs' := [_, _, _, _, _, _, _, _, _, _, _, _, _, _, _, _, _, _, _, _, _, _, _, _, _, _, _, _, _, _, _, _, _, _, _, _, _, _, _, _, _, _, _, _]) (l' := [_, _, _, _, _, _, _, _, _, _, _, _, _, _, _, _, _, _, _, _, _, _, _, _, _, _, _, _, _, _, _, _, _, _, _, _, _, _, _, _, _]) rfl rfl (Or.inr ⟨_, rfl⟩) rfl rfl ?_
  refine e_aload k70_181 (q := 182) rfl rfl ?_
  refine e_const k70_182 (q := 183) rfl ?_
  refine r_newa k70_183 (q := 185) (N := 3) (a := 41) (l' := [_, _, _, _, _, _, _, _, _, _, _, _, _, _, _, _, _, _, _, _, _, _, _, _, _, _, _, _, _, _, _, _, _, _, _, _, _, _, _, _, _, _]) rfl (by decide) rfl (by decide) rfl rfl ?_
  refine r_put k70_185 (q := 188) (fs' := [_, _, _, _, _, _, _, _, _, _, _, _, _, _, _, _, _, _, _, _, _, _, _, _, _, _, _, _, _, _, _, _, _, _, _, _, _, _, _, _, _, _, _, _]) (l' := [_, _, _, _, _, _, _, _, _, _, _, _, _, _, _, _, _, _, _, _, _, _, _, _, _, _, _, _, _, _, _, _, _, _, _, _, _, _, _, _, _, _]) rfl rfl (Or.inr ⟨_, rfl⟩) rfl rfl ?_
  refine e_aload k70_188 (q := 189) rfl rfl ?_
  refine e_const k70_189 (q := 190) rfl ?_
  refine r_newa k70_190 (q := 192) (N := 3) (a := 42) (l' := [_, _, _, _, _, _, _, _, _, _, _, _, _, _, _, _, _, _, _, _, _, _, _, _, _, _, _, _, _, _, _, _, _, _, _, _, _, _, _, _, _, _, _]) rfl (by decide) rfl (by decide) rfl rfl ?_
  refine r_put k70_192 (q := 195) (fs' := [_, _, _, _, _, _, _, _, _, _, _, _, _, _, _, _, _, _, _, _, _, _, _, _, _, _, _, _, _, _, _, _, _, _, _, _, _, _, _, _, _, _, _, _]) (l' := [_, _, _, _, _, _, _, _, _, _, _, _, _, _, _, _, _, _, _, _, _, _, _, _, _, _, _, _, _, _, _, _, _, _, _, _, _, _, _, _, _, _, _]) rfl rfl (Or.inr ⟨_, rfl⟩) rfl rfl ?_
  refine e_aload k70_195 (q := 196) rfl rfl ?_
  refine e_const k70_196 (q := 197) rfl ?_
  refine r_newa k70_197 (q := 199) (N := 3) (a := 43) (l' := [_, _, _, _, _, _, _, _, _, _, _, _, _, _, _, _, _, _, _, _, _, _, _, _, _, _, _, _, _, _, _, _, _, _, _, _, _, _, _, _, _, _, _, _]) rfl (by decide) rfl (by decide) rfl rfl ?_
  refine r_put k70_199 (q := 202) (fs' := [_, _, _, _, _, _, _, _, _, _, _, _, _, _, _, _, _, _, _, _, _, _, _, _, _, _, _, _, _, _, _, _, _, _, _, _, _, _, _, _, _, _, _, _]) (l' := [_, _, _, _, _, _, _, _, _, _, _, _, _, _, _, _, _, _, _, _, _, _, _, _, _, _, _, _, _, _, _, _, _, _, _, _, _, _, _, _, _, _, _, _]) rfl rfl (Or.inr ⟨_, rfl⟩) rfl rfl ?_
  refine e_aload k70_202 (q := 203) rfl rfl ?_
  refine e_const k70_203 (q := 204) rfl ?_
  refine r_newa k70_204 (q := 206) (N := 3) (a := 44) (l' := [_, _, _, _, _, _, _, _, _, _, _, _, _, _, _, _, _, _, _, _, _, _, _, _, _, _, _, _, _, _, _, _, _, _, _, _, _, _, _, _, _, _, _, _, _]) rfl (by decide) rfl (by decide) rfl rfl ?_
  refine r_put k70_206 (q := 209) (fs' := [_, _, _, _, _, _, _, _, _, _, _, _, _, _, _, _, _, _, _, _, _, _, _, _, _, _, _, _, _, _, _, _, _, _, _, _, _, _, _, _, _, _, _, _]) (l' := [_, _, _, _, _, _, _, _, _, _, _, _, _, _, _, _, _, _, _, _, _, _, _, _, _, _, _, _, _, _, _, _, _, _, _, _, _, _, _, _, _, _, _, _, _]) rfl rfl (Or.inr ⟨_, rfl⟩) rfl rfl ?_
  refine e_aload k70_209 (q := 210) rfl rfl ?_
  refine e_const k70_210 (q := 213) rfl ?_
  refine r_newa k70_213 (q := 215) (N := 241) (a := 45) (l' := [_, _, _, _, _, _, _, _, _, _, _, _, _, _, _, _, _, _, _, _, _, _, _, _, _, _, _, _, _, _, _, _, _, _, _, _, _, _, _, _, _, _, _, _, _, _]) rfl (by decide) rfl (by decide) rfl rfl ?_
  refine r_put k70_215 (q := 218) (fs' := [_, _, _, _, _, _, _, _, _, _, _, _, _, _, _, _, _, _, _, _, _, _, _, _, _, _, _, _, _, _, _, _, _, _, _, _, _, _, _, _, _, _, _, _]) (l' := [_, _, _, _, _, _, _, _, _, _, _, _, _, _, _, _, _, _, _, _, _, _, _, _, _, _, _, _, _, _, _, _, _, _, _, _, _, _, _, _, _, _, _, _, _, _]) rfl rfl (Or.inr ⟨_, rfl⟩) rfl rfl ?_
  refine e_aload k70_218 (q := 219) rfl rfl ?_
  refine e_const k70_219 (q := 222) rfl ?_
  refine r_newa k70_222 (q := 224) (N := 241) (a := 46) (l' := [_, _, _, _, _, _, _, _, _, _, _, _, _, _, _, _, _, _, _, _, _, _, _, _, _, _, _, _, _, _, _, _, _, _, _, _, _, _, _, _, _, _, _, _, _, _, _]) rfl (by decide) rfl (by decide) rfl rfl ?_
  refine r_put k70_224 (q := 227) (fs' := [_, _, _, _, _, _, _, _, _, _, _, _, _, _, _, _, _, _, _, _, _, _, _, _, _, _, _, _, _, _, _, _, _, _, _, _, _, _, _, _, _, _, _, _]) (l' := [_, _, _, _, _, _, _, _, _, _, _, _, _, _, _, _, _, _, _, _, _, _, _, _, _, _, _, _, _, _, _, _, _, _, _, _, _, _, _, _, _, _, _, _, _, _, _]) rfl rfl (Or.inr ⟨_, rfl⟩) rfl rfl ?_
  refine e_aload k70_227 (q := 228) rfl rfl ?_
  refine e_const k70_228 (q := 230) rfl ?_
  refine r_newa k70_230 (q := 232) (N := 12) (a := 47) (l' := [_, _, _, _, _, _, _, _, _, _, _, _, _, _, _, _, _, _, _, _, _, _, _, _, _, _, _, _, _, _, _, _, _, _, _, _, _, _, _, _, _, _, _, _, _, _, _, _]) rfl (by decide) rfl (by decide) rfl rfl ?_
  refine r_put k70_232 (q := 235) (fs' := [_, _, _, _, _, _, _, _, _, _, _, _, _, _, _, _, _, _, _, _, _, _, _, _, _, _, _, _, _, _, _, _, _, _, _, _, _, _, _, _, _, _, _, _]) (l' := [_, _, _, _, _, _, _, _, _, _, _, _, _, _, _, _, _, _, _, _, _, _, _, _, _, _, _, _, _, _, _, _, _, _, _, _, _, _, _, _, _, _, _, _, _, _, _, _]) rfl rfl (Or.inr ⟨_, rfl⟩) rfl rfl ?_
  refine e_aload k70_235 (q := 236) rfl rfl ?_
  refine e_const k70_236 (q := 238) rfl ?_
  refine r_newa k70_238 (q := 240) (N := 12) (a := 48) (l' := [_, _, _, _, _, _, _, _, _, _, _, _, _, _, _, _, _, _, _, _, _, _, _, _, _, _, _, _, _, _, _, _, _, _, _, _, _, _, _, _, _, _, _, _, _, _, _, _, _]) rfl (by decide) rfl (by decide) rfl rfl ?_
  refine r_put k70_240 (q := 243) (fs' := [_, _, _, _, _, _, _, _, _, _, _, _, _, _, _, _, _, _, _, _, _, _, _, _, _, _, _, _, _, _, _, _, _, _, _, _, _, _, _, _, _, _, _, _]) (l' := [_, _, _, _, _, _, _, _, _, _, _, _, _, _, _, _, _, _, _, _, _, _, _, _, _, _, _, _, _, _, _, _, _, _, _, _, _, _, _, _, _, _, _, _, _, _, _, _, _]) rfl rfl (Or.inr ⟨_, rfl⟩) rfl rfl ?_
  refine e_aload k70_243 (q := 244) rfl rfl ?_
  refine e_const k70_244 (q := 246) rfl ?_
  refine r_newa k70_246 (q := 248) (N := 12) (a := 49) (l' := [_, _, _, _, _, _, _, _, _, _, _, _, _, _, _, _, _, _, _, _, _, _, _, _, _, _, _, _, _, _, _, _, _, _, _, _, _, _, _, _, _, _, _, _, _, _, _, _, _, _]) rfl (by decide) rfl (by decide) rfl rfl ?_
  refine r_put k70_248 (q := 251) (fs' := [_, _, _, _, _, _, _, _, _, _, _, _, _, _, _, _, _, _, _, _, _, _, _, _, _, _, _, _, _, _, _, _, _, _, _, _, _, _, _, _, _, _, _, _]) (l' := [_, _, _, _, _, _, _, _, _, _, _, _, _, _, _, _, _, _, _, _, _, _, _, _, _, _, _, _, _, _, _, _, _, _, _, _, _, _, _, _, _, _, _, _, _, _, _, _, _, _]) rfl rfl (Or.inr ⟨_, rfl⟩) rfl rfl ?_
  refine e_aload k70_251 (q := 252) rfl rfl ?_
  refine e_const k70_252 (q := 254) rfl ?_
  refine r_newa k70_254 (q := 256) (N := 12) (a := 50) (l' := [_, _, _, _, _, _, _, _, _, _, _, _, _, _, _, _, _, _, _, _, _, _, _, _, _, _, _, _, _, _, _, _, _, _, _, _, _, _, _, _, _, _, _, _, _, _, _, _, _, _, _]) rfl (by decide) rfl (by decide) rfl rfl ?_
  refine r_put k70_256 (q := 259) (fs' := [_, _, _, _, _, _, _, _, _, _, _, _, _, _, _, _, _, _, _, _, _, _, _, _, _, _, _, _, _, _, _, _, _, _, _, _, _, _, _, _, _, _, _, _]) (l' := [_, _, _, _, _, _, _, _, _, _, _, _, _, _, _, _, _, _, _, _, _, _, _, _, _, _, _, _, _, _, _, _, _, _, _, _, _, _, _, _, _, _, _, _, _, _, _, _, _, _, _]) rfl rfl (Or.inr ⟨_, rfl⟩) rfl rfl ?_
  refine e_aload k70_259 (q := 260) rfl rfl ?_
  refine e_const k70_260 (q := 263) rfl ?_
  refine r_newa k70_263 (q := 265) (N := 500) (a := 51) (l' := [_, _, _, _, _, _, _, _, _, _, _, _, _, _, _, _, _, _, _, _, _, _, _, _, _, _, _, _, _, _, _, _, _, _, _, _, _, _, _, _, _, _, _, _, _, _, _, _, _, _, _, _]) rfl (by decide) rfl (by decide) rfl rfl ?_
  refine r_put k70_265 (q := 268) (fs' := [_, _, _, _, _, _, _, _, _, _, _, _, _, _, _, _, _, _, _, _, _, _, _, _, _, _, _, _, _, _, _, _, _, _, _, _, _, _, _, _, _, _, _, _]) (l' := [_, _, _, _, _, _, _, _, _, _, _, _, _, _, _, _, _, _, _, _, _, _, _, _, _, _, _, _, _, _, _, _, _, _, _, _, _, _, _, _, _, _, _, _, _, _, _, _, _, _, _, _]) rfl rfl (Or.inr ⟨_, rfl⟩) rfl rfl ?_
  refine e_vret k70_268 ?_
  exact ⟨_, rfl, _, rfl, by omega⟩
