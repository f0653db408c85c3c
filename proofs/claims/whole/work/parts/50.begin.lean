/-! The start. -/
def z_hs (X : zE) (s : Nat) : zH := (fun a => if a = 0 then some X else none, 52, s)
theorem z_hs_eq (X : zE) (s : Nat) : z_lh [X, .inr (0, [.ref 2, .int 0, .ref 3, .ref 4, .ref 5, .ref 11, .ref 17, .int 0]), .inl (.object "MailVerdicts$Domain", 12, .inr (.inr (.inr (.inr (fun _ => none))))), .inr (2, [.int 0, .int 0, .int 0]), .inr (3, [.ref 5, .ref 11, .ref 13, .ref 15, .ref 16, .int 0]), .inr (4, [.ref 6, .int 0, .int 0, .ref 8, .ref 9, .ref 10]), .inr (5, [.ref 7, .int 0]), .inl (.char, 240, .inl (fun _ => 0)), .inl (.int, 12, .inl (fun _ => 0)), .inl (.int, 12, .inl (fun _ => 0)), .inl (.int, 12, .inl (fun _ => 0)), .inr (5, [.ref 12, .int 0]), .inl (.char, 60, .inl (fun _ => 0)), .inr (5, [.ref 14, .int 0]), .inl (.char, 242, .inl (fun _ => 0)), .inl (.boolean, 12, .inl (fun _ => 0)), .inl (.int, 12, .inl (fun _ => 0)), .inl (.object "MailVerdicts$Signature", 3, .inr (.inr (.inr (.inr (fun _ => none))))), .inr (10, [.int 0, .ref 19, .ref 20, .ref 21, .ref 22, .ref 23, .ref 24, .ref 25, .ref 26, .ref 27, .ref 28, .ref 29, .ref 30, .ref 31, .ref 32, .ref 33, .ref 34, .ref 35, .int 0, .int 0, .int 0, .ref 36, .ref 37, .ref 38, .int 0, .ref 39, .int 0, .ref 40, .int 0, .ref 41, .ref 42, .ref 43, .ref 44, .int 0, .ref 45, .ref 46, .int 0, .int 0, .ref 47, .ref 48, .ref 49, .ref 50, .int 0, .ref 51]), .inl (.int, 12, .inl (fun _ => 0)), .inl (.boolean, 12, .inl (fun _ => 0)), .inl (.int, 12, .inl (fun _ => 0)), .inl (.int, 36, .inl (fun _ => 0)), .inl (.int, 12, .inl (fun _ => 0)), .inl (.int, 36, .inl (fun _ => 0)), .inl (.int, 12, .inl (fun _ => 0)), .inl (.int, 12, .inl (fun _ => 0)), .inl (.int, 12, .inl (fun _ => 0)), .inl (.int, 12, .inl (fun _ => 0)), .inl (.boolean, 12, .inl (fun _ => 0)), .inl (.boolean, 12, .inl (fun _ => 0)), .inl (.int, 12, .inl (fun _ => 0)), .inl (.int, 96, .inl (fun _ => 0)), .inl (.int, 96, .inl (fun _ => 0)), .inl (.int, 96, .inl (fun _ => 0)), .inl (.int, 96, .inl (fun _ => 0)), .inl (.int, 12, .inl (fun _ => 0)), .inl (.int, 12, .inl (fun _ => 0)), .inl (.boolean, 12, .inl (fun _ => 0)), .inl (.int, 240, .inl (fun _ => 0)), .inl (.int, 60, .inl (fun _ => 0)), .inl (.int, 3, .inl (fun _ => 0)), .inl (.boolean, 3, .inl (fun _ => 0)), .inl (.boolean, 3, .inl (fun _ => 0)), .inl (.int, 3, .inl (fun _ => 0)), .inl (.int, 241, .inl (fun _ => 0)), .inl (.int, 241, .inl (fun _ => 0)), .inl (.int, 12, .inl (fun _ => 0)), .inl (.int, 12, .inl (fun _ => 0)), .inl (.int, 12, .inl (fun _ => 0)), .inl (.boolean, 12, .inl (fun _ => 0)), .inl (.int, 500, .inl (fun _ => 0))] s = z_G (z_hs X s) (fun _ _ => 0) (fun _ _ => none) := by
  refine Prod.ext (funext fun a => ?_) rfl
  rcases Nat.lt_or_ge a 52 with z | z
  · show ([X, .inr (0, [.ref 2, .int 0, .ref 3, .ref 4, .ref 5, .ref 11, .ref 17, .int 0]), .inl (.object "MailVerdicts$Domain", 12, .inr (.inr (.inr (.inr (fun _ => none))))), .inr (2, [.int 0, .int 0, .int 0]), .inr (3, [.ref 5, .ref 11, .ref 13, .ref 15, .ref 16, .int 0]), .inr (4, [.ref 6, .int 0, .int 0, .ref 8, .ref 9, .ref 10]), .inr (5, [.ref 7, .int 0]), .inl (.char, 240, .inl (fun _ => 0)), .inl (.int, 12, .inl (fun _ => 0)), .inl (.int, 12, .inl (fun _ => 0)), .inl (.int, 12, .inl (fun _ => 0)), .inr (5, [.ref 12, .int 0]), .inl (.char, 60, .inl (fun _ => 0)), .inr (5, [.ref 14, .int 0]), .inl (.char, 242, .inl (fun _ => 0)), .inl (.boolean, 12, .inl (fun _ => 0)), .inl (.int, 12, .inl (fun _ => 0)), .inl (.object "MailVerdicts$Signature", 3, .inr (.inr (.inr (.inr (fun _ => none))))), .inr (10, [.int 0, .ref 19, .ref 20, .ref 21, .ref 22, .ref 23, .ref 24, .ref 25, .ref 26, .ref 27, .ref 28, .ref 29, .ref 30, .ref 31, .ref 32, .ref 33, .ref 34, .ref 35, .int 0, .int 0, .int 0, .ref 36, .ref 37, .ref 38, .int 0, .ref 39, .int 0, .ref 40, .int 0, .ref 41, .ref 42, .ref 43, .ref 44, .int 0, .ref 45, .ref 46, .int 0, .int 0, .ref 47, .ref 48, .ref 49, .ref 50, .int 0, .ref 51]), .inl (.int, 12, .inl (fun _ => 0)), .inl (.boolean, 12, .inl (fun _ => 0)), .inl (.int, 12, .inl (fun _ => 0)), .inl (.int, 36, .inl (fun _ => 0)), .inl (.int, 12, .inl (fun _ => 0)), .inl (.int, 36, .inl (fun _ => 0)), .inl (.int, 12, .inl (fun _ => 0)), .inl (.int, 12, .inl (fun _ => 0)), .inl (.int, 12, .inl (fun _ => 0)), .inl (.int, 12, .inl (fun _ => 0)), .inl (.boolean, 12, .inl (fun _ => 0)), .inl (.boolean, 12, .inl (fun _ => 0)), .inl (.int, 12, .inl (fun _ => 0)), .inl (.int, 96, .inl (fun _ => 0)), .inl (.int, 96, .inl (fun _ => 0)), .inl (.int, 96, .inl (fun _ => 0)), .inl (.int, 96, .inl (fun _ => 0)), .inl (.int, 12, .inl (fun _ => 0)), .inl (.int, 12, .inl (fun _ => 0)), .inl (.boolean, 12, .inl (fun _ => 0)), .inl (.int, 240, .inl (fun _ => 0)), .inl (.int, 60, .inl (fun _ => 0)), .inl (.int, 3, .inl (fun _ => 0)), .inl (.boolean, 3, .inl (fun _ => 0)), .inl (.boolean, 3, .inl (fun _ => 0)), .inl (.int, 3, .inl (fun _ => 0)), .inl (.int, 241, .inl (fun _ => 0)), .inl (.int, 241, .inl (fun _ => 0)), .inl (.int, 12, .inl (fun _ => 0)), .inl (.int, 12, .inl (fun _ => 0)), .inl (.int, 12, .inl (fun _ => 0)), .inl (.boolean, 12, .inl (fun _ => 0)), .inl (.int, 500, .inl (fun _ => 0))] : List zE)[a]? = (z_G (z_hs X s) (fun _ _ => 0) (fun _ _ => none)).1 a
    match a, z with
    | 0, _ => rfl
    | 1, _ => rfl
    | 2, _ => rfl
    | 3, _ => rfl
    | 4, _ => rfl
    | 5, _ => rfl
    | 6, _ => rfl
    | 7, _ => rfl
    | 8, _ => rfl
    | 9, _ => rfl
    | 10, _ => rfl
    | 11, _ => rfl
    | 12, _ => rfl
    | 13, _ => rfl
    | 14, _ => rfl
    | 15, _ => rfl
    | 16, _ => rfl
    | 17, _ => rfl
    | 18, _ => rfl
    | 19, _ => rfl
    | 20, _ => rfl
    | 21, _ => rfl
    | 22, _ => rfl
    | 23, _ => rfl
    | 24, _ => rfl
    | 25, _ => rfl
    | 26, _ => rfl
    | 27, _ => rfl
    | 28, _ => rfl
    | 29, _ => rfl
    | 30, _ => rfl
    | 31, _ => rfl
    | 32, _ => rfl
    | 33, _ => rfl
    | 34, _ => rfl
    | 35, _ => rfl
    | 36, _ => rfl
    | 37, _ => rfl
    | 38, _ => rfl
    | 39, _ => rfl
    | 40, _ => rfl
    | 41, _ => rfl
    | 42, _ => rfl
    | 43, _ => rfl
    | 44, _ => rfl
    | 45, _ => rfl
    | 46, _ => rfl
    | 47, _ => rfl
    | 48, _ => rfl
    | 49, _ => rfl
    | 50, _ => rfl
    | 51, _ => rfl
    | n + 52, z => exact absurd z (by omega)
  · rw [z_G_dyn z]
    show ([X, .inr (0, [.ref 2, .int 0, .ref 3, .ref 4, .ref 5, .ref 11, .ref 17, .int 0]), .inl (.object "MailVerdicts$Domain", 12, .inr (.inr (.inr (.inr (fun _ => none))))), .inr (2, [.int 0, .int 0, .int 0]), .inr (3, [.ref 5, .ref 11, .ref 13, .ref 15, .ref 16, .int 0]), .inr (4, [.ref 6, .int 0, .int 0, .ref 8, .ref 9, .ref 10]), .inr (5, [.ref 7, .int 0]), .inl (.char, 240, .inl (fun _ => 0)), .inl (.int, 12, .inl (fun _ => 0)), .inl (.int, 12, .inl (fun _ => 0)), .inl (.int, 12, .inl (fun _ => 0)), .inr (5, [.ref 12, .int 0]), .inl (.char, 60, .inl (fun _ => 0)), .inr (5, [.ref 14, .int 0]), .inl (.char, 242, .inl (fun _ => 0)), .inl (.boolean, 12, .inl (fun _ => 0)), .inl (.int, 12, .inl (fun _ => 0)), .inl (.object "MailVerdicts$Signature", 3, .inr (.inr (.inr (.inr (fun _ => none))))), .inr (10, [.int 0, .ref 19, .ref 20, .ref 21, .ref 22, .ref 23, .ref 24, .ref 25, .ref 26, .ref 27, .ref 28, .ref 29, .ref 30, .ref 31, .ref 32, .ref 33, .ref 34, .ref 35, .int 0, .int 0, .int 0, .ref 36, .ref 37, .ref 38, .int 0, .ref 39, .int 0, .ref 40, .int 0, .ref 41, .ref 42, .ref 43, .ref 44, .int 0, .ref 45, .ref 46, .int 0, .int 0, .ref 47, .ref 48, .ref 49, .ref 50, .int 0, .ref 51]), .inl (.int, 12, .inl (fun _ => 0)), .inl (.boolean, 12, .inl (fun _ => 0)), .inl (.int, 12, .inl (fun _ => 0)), .inl (.int, 36, .inl (fun _ => 0)), .inl (.int, 12, .inl (fun _ => 0)), .inl (.int, 36, .inl (fun _ => 0)), .inl (.int, 12, .inl (fun _ => 0)), .inl (.int, 12, .inl (fun _ => 0)), .inl (.int, 12, .inl (fun _ => 0)), .inl (.int, 12, .inl (fun _ => 0)), .inl (.boolean, 12, .inl (fun _ => 0)), .inl (.boolean, 12, .inl (fun _ => 0)), .inl (.int, 12, .inl (fun _ => 0)), .inl (.int, 96, .inl (fun _ => 0)), .inl (.int, 96, .inl (fun _ => 0)), .inl (.int, 96, .inl (fun _ => 0)), .inl (.int, 96, .inl (fun _ => 0)), .inl (.int, 12, .inl (fun _ => 0)), .inl (.int, 12, .inl (fun _ => 0)), .inl (.boolean, 12, .inl (fun _ => 0)), .inl (.int, 240, .inl (fun _ => 0)), .inl (.int, 60, .inl (fun _ => 0)), .inl (.int, 3, .inl (fun _ => 0)), .inl (.boolean, 3, .inl (fun _ => 0)), .inl (.boolean, 3, .inl (fun _ => 0)), .inl (.int, 3, .inl (fun _ => 0)), .inl (.int, 241, .inl (fun _ => 0)), .inl (.int, 241, .inl (fun _ => 0)), .inl (.int, 12, .inl (fun _ => 0)), .inl (.int, 12, .inl (fun _ => 0)), .inl (.int, 12, .inl (fun _ => 0)), .inl (.boolean, 12, .inl (fun _ => 0)), .inl (.int, 500, .inl (fun _ => 0))] : List zE)[a]? = if a = 0 then some X else none
    rw [List.getElem?_eq_none z, if_neg (by omega)]
theorem z_I0 (X : zE) (s : Nat) : z_I X (z_hs X s) (fun _ _ => 0) (fun _ _ => none) := by
  refine ⟨0, fun _ => 0, 0, ⟨by decide, rfl, rfl, rfl, rfl⟩, ⟨fun i hi => absurd hi (Nat.not_lt_zero _), fun i j _ hj => absurd hj (Nat.not_lt_zero _), fun i _ => ⟨rfl, rfl, rfl, rfl⟩⟩, ⟨by decide, rfl, rfl, fun j hj => absurd hj (Nat.not_lt_zero _)⟩, ⟨0, 0, [], ⟨rfl, by decide, fun j hj => absurd hj (Nat.not_lt_zero _)⟩, ⟨rfl, by decide, fun j hj => absurd hj (Nat.not_lt_zero _)⟩, ⟨rfl, fun j hj => absurd hj (Nat.not_lt_zero _)⟩, ⟨rfl, by decide⟩, ⟨rfl, by decide⟩, rfl, rfl, fun j => ⟨0, by decide, rfl⟩⟩, ⟨Nat.le_refl _, rfl, fun a ha => if_neg (show ¬ a = 0 from fun z => by rw [z] at ha; exact absurd ha (by decide : ¬ 52 ≤ 0))⟩⟩
theorem z_h0_eq (L : Nat) (xs : Nat → Int32) : z_h0 L xs = z_lh [(.inl (.array .int, L, .inl xs))] 0 := by
  refine Prod.ext (funext fun a => ?_) rfl
  cases a with
  | zero => rfl
  | succ a => rfl
/-- the law's body, on every script -/
theorem z_law {L : Nat} {xs : Nat → Int32} (hL : L ≤ 3072) : z_E 1000 115 0 [some (.ref 0), none, none, none] [] (z_h0 L xs) (fun r => r.1 = some (.int 1) ∧ r.2.2.1 ≤ 600000 ∧ r.2.2.2 ≤ 7302249) := by
  rw [z_h0_eq]
  refine r_new k115_0 (q := 3) (a := 1) (l' := [_, _]) rfl rfl rfl ?_
  refine e_dup k115_3 (q := 4) rfl rfl ?_
  refine e_ci k115_4 (q := 7) (as := []) rfl rfl (Nat.le_of_ble_eq_true rfl) m_init0 rfl (z_kv fun h4 p4 => ?_)
  obtain ⟨s4, rfl, hs4⟩ := p4
  refine e_ast k115_7 (q := 8) (L' := [_, _, _, _]) rfl rfl rfl ?_
  refine r_new k115_8 (q := 11) (a := 18) (l' := [_, _, _, _, _, _, _, _, _, _, _, _, _, _, _, _, _, _, _]) rfl rfl rfl ?_
  refine e_dup k115_11 (q := 12) rfl rfl ?_
  refine e_ci k115_12 (q := 15) (as := []) rfl rfl (Nat.le_of_ble_eq_true rfl) m_init70 rfl (z_kv fun h12 p12 => ?_)
  obtain ⟨s12, rfl, hs12⟩ := p12
  refine e_ast k115_15 (q := 16) (L' := [_, _, _, _]) rfl rfl rfl ?_
  refine e_const k115_16 (q := 17) rfl ?_
  refine e_ist k115_17 (q := 18) (L' := [_, _, _, _]) rfl rfl rfl ?_
  rw [z_hs_eq]
  exact l_law hL 512 0 _ _ _ (by decide) (by omega) (by omega) (z_I0 _ _) (by show 52 + 4 * 512 ≤ 600000; decide) (by show s12 + 50 * 512 ≤ 7302249; omega)
