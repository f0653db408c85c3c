/-! Leaves: methods without calls. -/
def z_nm (c : Int32) : Int32 := if ¬ c < 65 ∧ c ≤ 90 then 1 else if ¬ c < 97 ∧ c ≤ 122 then 1 else if ¬ c < 48 ∧ c ≤ 57 then 1 else if c = 45 then 1 else 0
def z_lw (c : Int32) : Int32 := if c < 65 then c else if 90 < c then c else c + 32
theorem z_l32 (c : Int32) : c - 65 + 97 = c + 32 := by rw [Int32.sub_eq_add_neg, Int32.add_assoc]; congr 1
theorem m_isNameSign {d : Nat} {h : zH} (c : Int32) : z_M (d + 1) 25 [.int c] h (z_qi fun x h' => x = z_nm c ∧ h' = h) := by
  refine z_M.of ⟨Nat.le_of_ble_eq_true rfl, by simp [Value.category]⟩ (L := [some (.int c)]) rfl ?_
  refine e_iload k25_0 (q := 1) rfl rfl ?_
  refine e_const k25_1 (q := 3) rfl ?_
  refine e_ic k25_3 (q := 6) rfl (fun c3 => ?_) (fun c3 => ?_)
  · refine e_iload k25_12 (q := 13) rfl rfl ?_
    refine e_const k25_13 (q := 15) rfl ?_
    refine e_ic k25_15 (q := 18) rfl (fun c15 => ?_) (fun c15 => ?_)
    · refine e_iload k25_24 (q := 25) rfl rfl ?_
      refine e_const k25_25 (q := 27) rfl ?_
      refine e_ic k25_27 (q := 30) rfl (fun c27 => ?_) (fun c27 => ?_)
      · refine e_iload k25_36 (q := 37) rfl rfl ?_
        refine e_const k25_37 (q := 39) rfl ?_
        refine e_ic k25_39 (q := 42) rfl (fun c39 => ?_) (fun c39 => ?_)
        · refine e_const k25_46 (q := 47) rfl ?_
          refine e_iret k25_47 (by first | exact Or.inl rfl | exact Or.inr rfl | assumption) ?_
          exact ⟨_, _, rfl, by simp [z_nm, *], rfl⟩
        · refine e_const k25_42 (q := 43) rfl ?_
          refine e_goto k25_43 ?_
          refine e_iret k25_47 (by first | exact Or.inl rfl | exact Or.inr rfl | assumption) ?_
          exact ⟨_, _, rfl, by simp [z_nm, *], rfl⟩
      · refine e_iload k25_30 (q := 31) rfl rfl ?_
        refine e_const k25_31 (q := 33) rfl ?_
        refine e_ic k25_33 (q := 36) rfl (fun c33 => ?_) (fun c33 => ?_)
        · refine e_const k25_42 (q := 43) rfl ?_
          refine e_goto k25_43 ?_
          refine e_iret k25_47 (by first | exact Or.inl rfl | exact Or.inr rfl | assumption) ?_
          exact ⟨_, _, rfl, by simp [z_nm, *], rfl⟩
        · refine e_iload k25_36 (q := 37) rfl rfl ?_
          refine e_const k25_37 (q := 39) rfl ?_
          refine e_ic k25_39 (q := 42) rfl (fun c39 => ?_) (fun c39 => ?_)
          · refine e_const k25_46 (q := 47) rfl ?_
            refine e_iret k25_47 (by first | exact Or.inl rfl | exact Or.inr rfl | assumption) ?_
            exact ⟨_, _, rfl, by simp [z_nm, *], rfl⟩
          · refine e_const k25_42 (q := 43) rfl ?_
            refine e_goto k25_43 ?_
            refine e_iret k25_47 (by first | exact Or.inl rfl | exact Or.inr rfl | assumption) ?_
            exact ⟨_, _, rfl, by simp [z_nm, *], rfl⟩
    · refine e_iload k25_18 (q := 19) rfl rfl ?_
      refine e_const k25_19 (q := 21) rfl ?_
      refine e_ic k25_21 (q := 24) rfl (fun c21 => ?_) (fun c21 => ?_)
      · refine e_const k25_42 (q := 43) rfl ?_
        refine e_goto k25_43 ?_
        refine e_iret k25_47 (by first | exact Or.inl rfl | exact Or.inr rfl | assumption) ?_
        exact ⟨_, _, rfl, by simp [z_nm, *], rfl⟩
      · refine e_iload k25_24 (q := 25) rfl rfl ?_
        refine e_const k25_25 (q := 27) rfl ?_
        refine e_ic k25_27 (q := 30) rfl (fun c27 => ?_) (fun c27 => ?_)
        · refine e_iload k25_36 (q := 37) rfl rfl ?_
          refine e_const k25_37 (q := 39) rfl ?_
          refine e_ic k25_39 (q := 42) rfl (fun c39 => ?_) (fun c39 => ?_)
          · refine e_const k25_46 (q := 47) rfl ?_
            refine e_iret k25_47 (by first | exact Or.inl rfl | exact Or.inr rfl | assumption) ?_
            exact ⟨_, _, rfl, by simp [z_nm, *], rfl⟩
          · refine e_const k25_42 (q := 43) rfl ?_
            refine e_goto k25_43 ?_
            refine e_iret k25_47 (by first | exact Or.inl rfl | exact Or.inr rfl | assumption) ?_
            exact ⟨_, _, rfl, by simp [z_nm, *], rfl⟩
        · refine e_iload k25_30 (q := 31) rfl rfl ?_
          refine e_const k25_31 (q := 33) rfl ?_
          refine e_ic k25_33 (q := 36) rfl (fun c33 => ?_) (fun c33 => ?_)
          · refine e_const k25_42 (q := 43) rfl ?_
            refine e_goto k25_43 ?_
            refine e_iret k25_47 (by first | exact Or.inl rfl | exact Or.inr rfl | assumption) ?_
            exact ⟨_, _, rfl, by simp [z_nm, *], rfl⟩
          · refine e_iload k25_36 (q := 37) rfl rfl ?_
            refine e_const k25_37 (q := 39) rfl ?_
            refine e_ic k25_39 (q := 42) rfl (fun c39 => ?_) (fun c39 => ?_)
            · refine e_const k25_46 (q := 47) rfl ?_
              refine e_iret k25_47 (by first | exact Or.inl rfl | exact Or.inr rfl | assumption) ?_
              exact ⟨_, _, rfl, by simp [z_nm, *], rfl⟩
            · refine e_const k25_42 (q := 43) rfl ?_
              refine e_goto k25_43 ?_
              refine e_iret k25_47 (by first | exact Or.inl rfl | exact Or.inr rfl | assumption) ?_
              exact ⟨_, _, rfl, by simp [z_nm, *], rfl⟩
  · refine e_iload k25_6 (q := 7) rfl rfl ?_
    refine e_const k25_7 (q := 9) rfl ?_
    refine e_ic k25_9 (q := 12) rfl (fun c9 => ?_) (fun c9 => ?_)
    · refine e_const k25_42 (q := 43) rfl ?_
      refine e_goto k25_43 ?_
      refine e_iret k25_47 (by first | exact Or.inl rfl | exact Or.inr rfl | assumption) ?_
      exact ⟨_, _, rfl, by simp [z_nm, *], rfl⟩
    · refine e_iload k25_12 (q := 13) rfl rfl ?_
      refine e_const k25_13 (q := 15) rfl ?_
      refine e_ic k25_15 (q := 18) rfl (fun c15 => ?_) (fun c15 => ?_)
      · refine e_iload k25_24 (q := 25) rfl rfl ?_
        refine e_const k25_25 (q := 27) rfl ?_
        refine e_ic k25_27 (q := 30) rfl (fun c27 => ?_) (fun c27 => ?_)
        · refine e_iload k25_36 (q := 37) rfl rfl ?_
          refine e_const k25_37 (q := 39) rfl ?_
          refine e_ic k25_39 (q := 42) rfl (fun c39 => ?_) (fun c39 => ?_)
          · refine e_const k25_46 (q := 47) rfl ?_
            refine e_iret k25_47 (by first | exact Or.inl rfl | exact Or.inr rfl | assumption) ?_
            exact ⟨_, _, rfl, by simp [z_nm, *], rfl⟩
          · refine e_const k25_42 (q := 43) rfl ?_
            refine e_goto k25_43 ?_
            refine e_iret k25_47 (by first | exact Or.inl rfl | exact Or.inr rfl | assumption) ?_
            exact ⟨_, _, rfl, by simp [z_nm, *], rfl⟩
        · refine e_iload k25_30 (q := 31) rfl rfl ?_
          refine e_const k25_31 (q := 33) rfl ?_
          refine e_ic k25_33 (q := 36) rfl (fun c33 => ?_) (fun c33 => ?_)
          · refine e_const k25_42 (q := 43) rfl ?_
            refine e_goto k25_43 ?_
            refine e_iret k25_47 (by first | exact Or.inl rfl | exact Or.inr rfl | assumption) ?_
            exact ⟨_, _, rfl, by simp [z_nm, *], rfl⟩
          · refine e_iload k25_36 (q := 37) rfl rfl ?_
            refine e_const k25_37 (q := 39) rfl ?_
            refine e_ic k25_39 (q := 42) rfl (fun c39 => ?_) (fun c39 => ?_)
            · refine e_const k25_46 (q := 47) rfl ?_
              refine e_iret k25_47 (by first | exact Or.inl rfl | exact Or.inr rfl | assumption) ?_
              exact ⟨_, _, rfl, by simp [z_nm, *], rfl⟩
            · refine e_const k25_42 (q := 43) rfl ?_
              refine e_goto k25_43 ?_
              refine e_iret k25_47 (by first | exact Or.inl rfl | exact Or.inr rfl | assumption) ?_
              exact ⟨_, _, rfl, by simp [z_nm, *], rfl⟩
      · refine e_iload k25_18 (q := 19) rfl rfl ?_
        refine e_const k25_19 (q := 21) rfl ?_
        refine e_ic k25_21 (q := 24) rfl (fun c21 => ?_) (fun c21 => ?_)
        · refine e_const k25_42 (q := 43) rfl ?_
          refine e_goto k25_43 ?_
          refine e_iret k25_47 (by first | exact Or.inl rfl | exact Or.inr rfl | assumption) ?_
          exact ⟨_, _, rfl, by simp [z_nm, *], rfl⟩
        · refine e_iload k25_24 (q := 25) rfl rfl ?_
          refine e_const k25_25 (q := 27) rfl ?_
          refine e_ic k25_27 (q := 30) rfl (fun c27 => ?_) (fun c27 => ?_)
          · refine e_iload k25_36 (q := 37) rfl rfl ?_
            refine e_const k25_37 (q := 39) rfl ?_
            refine e_ic k25_39 (q := 42) rfl (fun c39 => ?_) (fun c39 => ?_)
            · refine e_const k25_46 (q := 47) rfl ?_
              refine e_iret k25_47 (by first | exact Or.inl rfl | exact Or.inr rfl | assumption) ?_
              exact ⟨_, _, rfl, by simp [z_nm, *], rfl⟩
            · refine e_const k25_42 (q := 43) rfl ?_
              refine e_goto k25_43 ?_
              refine e_iret k25_47 (by first | exact Or.inl rfl | exact Or.inr rfl | assumption) ?_
              exact ⟨_, _, rfl, by simp [z_nm, *], rfl⟩
          · refine e_iload k25_30 (q := 31) rfl rfl ?_
            refine e_const k25_31 (q := 33) rfl ?_
            refine e_ic k25_33 (q := 36) rfl (fun c33 => ?_) (fun c33 => ?_)
            · refine e_const k25_42 (q := 43) rfl ?_
              refine e_goto k25_43 ?_
              refine e_iret k25_47 (by first | exact Or.inl rfl | exact Or.inr rfl | assumption) ?_
              exact ⟨_, _, rfl, by simp [z_nm, *], rfl⟩
            · refine e_iload k25_36 (q := 37) rfl rfl ?_
              refine e_const k25_37 (q := 39) rfl ?_
              refine e_ic k25_39 (q := 42) rfl (fun c39 => ?_) (fun c39 => ?_)
              · refine e_const k25_46 (q := 47) rfl ?_
                refine e_iret k25_47 (by first | exact Or.inl rfl | exact Or.inr rfl | assumption) ?_
                exact ⟨_, _, rfl, by simp [z_nm, *], rfl⟩
              · refine e_const k25_42 (q := 43) rfl ?_
                refine e_goto k25_43 ?_
                refine e_iret k25_47 (by first | exact Or.inl rfl | exact Or.inr rfl | assumption) ?_
                exact ⟨_, _, rfl, by simp [z_nm, *], rfl⟩
theorem m_plain {d : Nat} {h : zH} {a : Nat} (c : Int32) : z_M (d + 1) 91 [.ref a, .int c] h (z_qi fun x h' => x = z_nm c ∧ h' = h) := by
  refine z_M.of ⟨Nat.le_of_ble_eq_true rfl, by simp [Value.category]⟩ (L := [some (.ref a), some (.int c)]) rfl ?_
  refine e_iload k91_0 (q := 1) rfl rfl ?_
  refine e_const k91_1 (q := 3) rfl ?_
  refine e_ic k91_3 (q := 6) rfl (fun c3 => ?_) (fun c3 => ?_)
  · refine e_iload k91_12 (q := 13) rfl rfl ?_
    refine e_const k91_13 (q := 15) rfl ?_
    refine e_ic k91_15 (q := 18) rfl (fun c15 => ?_) (fun c15 => ?_)
    · refine e_iload k91_24 (q := 25) rfl rfl ?_
      refine e_const k91_25 (q := 27) rfl ?_
      refine e_ic k91_27 (q := 30) rfl (fun c27 => ?_) (fun c27 => ?_)
      · refine e_iload k91_36 (q := 37) rfl rfl ?_
        refine e_const k91_37 (q := 39) rfl ?_
        refine e_ic k91_39 (q := 42) rfl (fun c39 => ?_) (fun c39 => ?_)
        · refine e_const k91_46 (q := 47) rfl ?_
          refine e_iret k91_47 (by first | exact Or.inl rfl | exact Or.inr rfl | assumption) ?_
          exact ⟨_, _, rfl, by simp [z_nm, *], rfl⟩
        · refine e_const k91_42 (q := 43) rfl ?_
          refine e_goto k91_43 ?_
          refine e_iret k91_47 (by first | exact Or.inl rfl | exact Or.inr rfl | assumption) ?_
          exact ⟨_, _, rfl, by simp [z_nm, *], rfl⟩
      · refine e_iload k91_30 (q := 31) rfl rfl ?_
        refine e_const k91_31 (q := 33) rfl ?_
        refine e_ic k91_33 (q := 36) rfl (fun c33 => ?_) (fun c33 => ?_)
        · refine e_const k91_42 (q := 43) rfl ?_
          refine e_goto k91_43 ?_
          refine e_iret k91_47 (by first | exact Or.inl rfl | exact Or.inr rfl | assumption) ?_
          exact ⟨_, _, rfl, by simp [z_nm, *], rfl⟩
        · refine e_iload k91_36 (q := 37) rfl rfl ?_
          refine e_const k91_37 (q := 39) rfl ?_
          refine e_ic k91_39 (q := 42) rfl (fun c39 => ?_) (fun c39 => ?_)
          · refine e_const k91_46 (q := 47) rfl ?_
            refine e_iret k91_47 (by first | exact Or.inl rfl | exact Or.inr rfl | assumption) ?_
            exact ⟨_, _, rfl, by simp [z_nm, *], rfl⟩
          · refine e_const k91_42 (q := 43) rfl ?_
            refine e_goto k91_43 ?_
            refine e_iret k91_47 (by first | exact Or.inl rfl | exact Or.inr rfl | assumption) ?_
            exact ⟨_, _, rfl, by simp [z_nm, *], rfl⟩
    · refine e_iload k91_18 (q := 19) rfl rfl ?_
      refine e_const k91_19 (q := 21) rfl ?_
      refine e_ic k91_21 (q := 24) rfl (fun c21 => ?_) (fun c21 => ?_)
      · refine e_const k91_42 (q := 43) rfl ?_
        refine e_goto k91_43 ?_
        refine e_iret k91_47 (by first | exact Or.inl rfl | exact Or.inr rfl | assumption) ?_
        exact ⟨_, _, rfl, by simp [z_nm, *], rfl⟩
      · refine e_iload k91_24 (q := 25) rfl rfl ?_
        refine e_const k91_25 (q := 27) rfl ?_
        refine e_ic k91_27 (q := 30) rfl (fun c27 => ?_) (fun c27 => ?_)
        · refine e_iload k91_36 (q := 37) rfl rfl ?_
          refine e_const k91_37 (q := 39) rfl ?_
          refine e_ic k91_39 (q := 42) rfl (fun c39 => ?_) (fun c39 => ?_)
          · refine e_const k91_46 (q := 47) rfl ?_
            refine e_iret k91_47 (by first | exact Or.inl rfl | exact Or.inr rfl | assumption) ?_
            exact ⟨_, _, rfl, by simp [z_nm, *], rfl⟩
          · refine e_const k91_42 (q := 43) rfl ?_
            refine e_goto k91_43 ?_
            refine e_iret k91_47 (by first | exact Or.inl rfl | exact Or.inr rfl | assumption) ?_
            exact ⟨_, _, rfl, by simp [z_nm, *], rfl⟩
        · refine e_iload k91_30 (q := 31) rfl rfl ?_
          refine e_const k91_31 (q := 33) rfl ?_
          refine e_ic k91_33 (q := 36) rfl (fun c33 => ?_) (fun c33 => ?_)
          · refine e_const k91_42 (q := 43) rfl ?_
            refine e_goto k91_43 ?_
            refine e_iret k91_47 (by first | exact Or.inl rfl | exact Or.inr rfl | assumption) ?_
            exact ⟨_, _, rfl, by simp [z_nm, *], rfl⟩
          · refine e_iload k91_36 (q := 37) rfl rfl ?_
            refine e_const k91_37 (q := 39) rfl ?_
            refine e_ic k91_39 (q := 42) rfl (fun c39 => ?_) (fun c39 => ?_)
            · refine e_const k91_46 (q := 47) rfl ?_
              refine e_iret k91_47 (by first | exact Or.inl rfl | exact Or.inr rfl | assumption) ?_
              exact ⟨_, _, rfl, by simp [z_nm, *], rfl⟩
            · refine e_const k91_42 (q := 43) rfl ?_
              refine e_goto k91_43 ?_
              refine e_iret k91_47 (by first | exact Or.inl rfl | exact Or.inr rfl | assumption) ?_
              exact ⟨_, _, rfl, by simp [z_nm, *], rfl⟩
  · refine e_iload k91_6 (q := 7) rfl rfl ?_
    refine e_const k91_7 (q := 9) rfl ?_
    refine e_ic k91_9 (q := 12) rfl (fun c9 => ?_) (fun c9 => ?_)
    · refine e_const k91_42 (q := 43) rfl ?_
      refine e_goto k91_43 ?_
      refine e_iret k91_47 (by first | exact Or.inl rfl | exact Or.inr rfl | assumption) ?_
      exact ⟨_, _, rfl, by simp [z_nm, *], rfl⟩
    · refine e_iload k91_12 (q := 13) rfl rfl ?_
      refine e_const k91_13 (q := 15) rfl ?_
      refine e_ic k91_15 (q := 18) rfl (fun c15 => ?_) (fun c15 => ?_)
      · refine e_iload k91_24 (q := 25) rfl rfl ?_
        refine e_const k91_25 (q := 27) rfl ?_
        refine e_ic k91_27 (q := 30) rfl (fun c27 => ?_) (fun c27 => ?_)
        · refine e_iload k91_36 (q := 37) rfl rfl ?_
          refine e_const k91_37 (q := 39) rfl ?_
          refine e_ic k91_39 (q := 42) rfl (fun c39 => ?_) (fun c39 => ?_)
          · refine e_const k91_46 (q := 47) rfl ?_
            refine e_iret k91_47 (by first | exact Or.inl rfl | exact Or.inr rfl | assumption) ?_
            exact ⟨_, _, rfl, by simp [z_nm, *], rfl⟩
          · refine e_const k91_42 (q := 43) rfl ?_
            refine e_goto k91_43 ?_
            refine e_iret k91_47 (by first | exact Or.inl rfl | exact Or.inr rfl | assumption) ?_
            exact ⟨_, _, rfl, by simp [z_nm, *], rfl⟩
        · refine e_iload k91_30 (q := 31) rfl rfl ?_
          refine e_const k91_31 (q := 33) rfl ?_
          refine e_ic k91_33 (q := 36) rfl (fun c33 => ?_) (fun c33 => ?_)
          · refine e_const k91_42 (q := 43) rfl ?_
            refine e_goto k91_43 ?_
            refine e_iret k91_47 (by first | exact Or.inl rfl | exact Or.inr rfl | assumption) ?_
            exact ⟨_, _, rfl, by simp [z_nm, *], rfl⟩
          · refine e_iload k91_36 (q := 37) rfl rfl ?_
            refine e_const k91_37 (q := 39) rfl ?_
            refine e_ic k91_39 (q := 42) rfl (fun c39 => ?_) (fun c39 => ?_)
            · refine e_const k91_46 (q := 47) rfl ?_
              refine e_iret k91_47 (by first | exact Or.inl rfl | exact Or.inr rfl | assumption) ?_
              exact ⟨_, _, rfl, by simp [z_nm, *], rfl⟩
            · refine e_const k91_42 (q := 43) rfl ?_
              refine e_goto k91_43 ?_
              refine e_iret k91_47 (by first | exact Or.inl rfl | exact Or.inr rfl | assumption) ?_
              exact ⟨_, _, rfl, by simp [z_nm, *], rfl⟩
      · refine e_iload k91_18 (q := 19) rfl rfl ?_
        refine e_const k91_19 (q := 21) rfl ?_
        refine e_ic k91_21 (q := 24) rfl (fun c21 => ?_) (fun c21 => ?_)
        · refine e_const k91_42 (q := 43) rfl ?_
          refine e_goto k91_43 ?_
          refine e_iret k91_47 (by first | exact Or.inl rfl | exact Or.inr rfl | assumption) ?_
          exact ⟨_, _, rfl, by simp [z_nm, *], rfl⟩
        · refine e_iload k91_24 (q := 25) rfl rfl ?_
          refine e_const k91_25 (q := 27) rfl ?_
          refine e_ic k91_27 (q := 30) rfl (fun c27 => ?_) (fun c27 => ?_)
          · refine e_iload k91_36 (q := 37) rfl rfl ?_
            refine e_const k91_37 (q := 39) rfl ?_
            refine e_ic k91_39 (q := 42) rfl (fun c39 => ?_) (fun c39 => ?_)
            · refine e_const k91_46 (q := 47) rfl ?_
              refine e_iret k91_47 (by first | exact Or.inl rfl | exact Or.inr rfl | assumption) ?_
              exact ⟨_, _, rfl, by simp [z_nm, *], rfl⟩
            · refine e_const k91_42 (q := 43) rfl ?_
              refine e_goto k91_43 ?_
              refine e_iret k91_47 (by first | exact Or.inl rfl | exact Or.inr rfl | assumption) ?_
              exact ⟨_, _, rfl, by simp [z_nm, *], rfl⟩
          · refine e_iload k91_30 (q := 31) rfl rfl ?_
            refine e_const k91_31 (q := 33) rfl ?_
            refine e_ic k91_33 (q := 36) rfl (fun c33 => ?_) (fun c33 => ?_)
            · refine e_const k91_42 (q := 43) rfl ?_
              refine e_goto k91_43 ?_
              refine e_iret k91_47 (by first | exact Or.inl rfl | exact Or.inr rfl | assumption) ?_
              exact ⟨_, _, rfl, by simp [z_nm, *], rfl⟩
            · refine e_iload k91_36 (q := 37) rfl rfl ?_
              refine e_const k91_37 (q := 39) rfl ?_
              refine e_ic k91_39 (q := 42) rfl (fun c39 => ?_) (fun c39 => ?_)
              · refine e_const k91_46 (q := 47) rfl ?_
                refine e_iret k91_47 (by first | exact Or.inl rfl | exact Or.inr rfl | assumption) ?_
                exact ⟨_, _, rfl, by simp [z_nm, *], rfl⟩
              · refine e_const k91_42 (q := 43) rfl ?_
                refine e_goto k91_43 ?_
                refine e_iret k91_47 (by first | exact Or.inl rfl | exact Or.inr rfl | assumption) ?_
                exact ⟨_, _, rfl, by simp [z_nm, *], rfl⟩
theorem m_lowered {d : Nat} {h : zH} (c : Int32) : z_M (d + 1) 26 [.int c] h (z_qi fun x h' => x = z_lw c ∧ h' = h) := by
  refine z_M.of ⟨Nat.le_of_ble_eq_true rfl, by simp [Value.category]⟩ (L := [some (.int c)]) rfl ?_
  refine e_iload k26_0 (q := 1) rfl rfl ?_
  refine e_const k26_1 (q := 3) rfl ?_
  refine e_ic k26_3 (q := 6) rfl (fun c3 => ?_) (fun c3 => ?_)
  · refine e_iload k26_22 (q := 23) rfl rfl ?_
    refine e_iret k26_23 ⟨_, rfl⟩ ?_
    exact ⟨_, _, rfl, by simp [z_lw, z_l32, *], rfl⟩
  · refine e_iload k26_6 (q := 7) rfl rfl ?_
    refine e_const k26_7 (q := 9) rfl ?_
    refine e_ic k26_9 (q := 12) rfl (fun c9 => ?_) (fun c9 => ?_)
    · refine e_iload k26_22 (q := 23) rfl rfl ?_
      refine e_iret k26_23 ⟨_, rfl⟩ ?_
      exact ⟨_, _, rfl, by simp [z_lw, z_l32, *], rfl⟩
    · refine e_iload k26_12 (q := 13) rfl rfl ?_
      refine e_const k26_13 (q := 15) rfl ?_
      refine e_ib k26_15 (q := 16) rfl ?_
      refine e_const k26_16 (q := 18) rfl ?_
      refine e_ib k26_18 (q := 19) rfl ?_
      refine e_goto k26_19 ?_
      refine e_iret k26_23 ⟨_, rfl⟩ ?_
      exact ⟨_, _, rfl, by simp [z_lw, z_l32, *], rfl⟩
theorem m_small {d : Nat} {h : zH} {a : Nat} (c : Int32) : z_M (d + 1) 94 [.ref a, .int c] h (z_qi fun x h' => x = z_lw c ∧ h' = h) := by
  refine z_M.of ⟨Nat.le_of_ble_eq_true rfl, by simp [Value.category]⟩ (L := [some (.ref a), some (.int c)]) rfl ?_
  refine e_iload k94_0 (q := 1) rfl rfl ?_
  refine e_const k94_1 (q := 3) rfl ?_
  refine e_ic k94_3 (q := 6) rfl (fun c3 => ?_) (fun c3 => ?_)
  · refine e_iload k94_19 (q := 20) rfl rfl ?_
    refine e_iret k94_20 ⟨_, rfl⟩ ?_
    exact ⟨_, _, rfl, by simp [z_lw, z_l32, *], rfl⟩
  · refine e_iload k94_6 (q := 7) rfl rfl ?_
    refine e_const k94_7 (q := 9) rfl ?_
    refine e_ic k94_9 (q := 12) rfl (fun c9 => ?_) (fun c9 => ?_)
    · refine e_iload k94_19 (q := 20) rfl rfl ?_
      refine e_iret k94_20 ⟨_, rfl⟩ ?_
      exact ⟨_, _, rfl, by simp [z_lw, z_l32, *], rfl⟩
    · refine e_iload k94_12 (q := 13) rfl rfl ?_
      refine e_const k94_13 (q := 15) rfl ?_
      refine e_ib k94_15 (q := 16) rfl ?_
      refine e_goto k94_16 ?_
      refine e_iret k94_20 ⟨_, rfl⟩ ?_
      exact ⟨_, _, rfl, by simp [z_lw, z_l32, *], rfl⟩
theorem m_looksAtLength {d : Nat} {h : zH} (k : Int32) : z_M (d + 1) 22 [.int k] h (z_qi fun x h' => x = (if k = 1 ∨ k = 2 ∨ k = 3 then 1 else 0) ∧ h' = h) := by
  refine z_M.of ⟨Nat.le_of_ble_eq_true rfl, by simp [Value.category]⟩ (L := [some (.int k)]) rfl ?_
  refine e_iload k22_0 (q := 1) rfl rfl ?_
  refine e_const k22_1 (q := 2) rfl ?_
  refine e_ic k22_2 (q := 5) rfl (fun c2 => ?_) (fun c2 => ?_)
  · refine e_const k22_15 (q := 16) rfl ?_
    refine e_goto k22_16 ?_
    refine e_iret k22_20 (by first | exact Or.inl rfl | exact Or.inr rfl | assumption) ?_
    exact ⟨_, _, rfl, by simp [*], rfl⟩
  · refine e_iload k22_5 (q := 6) rfl rfl ?_
    refine e_const k22_6 (q := 7) rfl ?_
    refine e_ic k22_7 (q := 10) rfl (fun c7 => ?_) (fun c7 => ?_)
    · refine e_const k22_15 (q := 16) rfl ?_
      refine e_goto k22_16 ?_
      refine e_iret k22_20 (by first | exact Or.inl rfl | exact Or.inr rfl | assumption) ?_
      exact ⟨_, _, rfl, by simp [*], rfl⟩
    · refine e_iload k22_10 (q := 11) rfl rfl ?_
      refine e_const k22_11 (q := 12) rfl ?_
      refine e_ic k22_12 (q := 15) rfl (fun c12 => ?_) (fun c12 => ?_)
      · refine e_const k22_19 (q := 20) rfl ?_
        refine e_iret k22_20 (by first | exact Or.inl rfl | exact Or.inr rfl | assumption) ?_
        exact ⟨_, _, rfl, by simp [*], rfl⟩
      · refine e_const k22_15 (q := 16) rfl ?_
        refine e_goto k22_16 ?_
        refine e_iret k22_20 (by first | exact Or.inl rfl | exact Or.inr rfl | assumption) ?_
        exact ⟨_, _, rfl, by simp [*], rfl⟩
theorem m_looksAtDomain {d : Nat} {h : zH} (k : Int32) : z_M (d + 1) 23 [.int k] h (z_qi fun x h' => x = (if k = 0 ∨ k = 1 then 0 else 1) ∧ h' = h) := by
  refine z_M.of ⟨Nat.le_of_ble_eq_true rfl, by simp [Value.category]⟩ (L := [some (.int k)]) rfl ?_
  refine e_iload k23_0 (q := 1) rfl rfl ?_
  refine e_if k23_1 (q := 4) rfl (fun c1 => ?_) (fun c1 => ?_)
  · refine e_const k23_13 (q := 14) rfl ?_
    refine e_iret k23_14 (by first | exact Or.inl rfl | exact Or.inr rfl | assumption) ?_
    exact ⟨_, _, rfl, by simp [*], rfl⟩
  · refine e_iload k23_4 (q := 5) rfl rfl ?_
    refine e_const k23_5 (q := 6) rfl ?_
    refine e_ic k23_6 (q := 9) rfl (fun c6 => ?_) (fun c6 => ?_)
    · refine e_const k23_13 (q := 14) rfl ?_
      refine e_iret k23_14 (by first | exact Or.inl rfl | exact Or.inr rfl | assumption) ?_
      exact ⟨_, _, rfl, by simp [*], rfl⟩
    · refine e_const k23_9 (q := 10) rfl ?_
      refine e_goto k23_10 ?_
      refine e_iret k23_14 (by first | exact Or.inl rfl | exact Or.inr rfl | assumption) ?_
      exact ⟨_, _, rfl, by simp [*], rfl⟩
theorem m_isWish {d : Nat} {h : zH} (k : Int32) : z_M (d + 1) 24 [.int k] h (z_qi fun x h' => x = (if k < 0 ∨ 2 < k then 0 else 1) ∧ h' = h) := by
  refine z_M.of ⟨Nat.le_of_ble_eq_true rfl, by simp [Value.category]⟩ (L := [some (.int k)]) rfl ?_
  refine e_iload k24_0 (q := 1) rfl rfl ?_
  refine e_if k24_1 (q := 4) rfl (fun c1 => ?_) (fun c1 => ?_)
  · refine e_const k24_13 (q := 14) rfl ?_
    refine e_iret k24_14 (by first | exact Or.inl rfl | exact Or.inr rfl | assumption) ?_
    exact ⟨_, _, rfl, by simp [*], rfl⟩
  · refine e_iload k24_4 (q := 5) rfl rfl ?_
    refine e_const k24_5 (q := 6) rfl ?_
    refine e_ic k24_6 (q := 9) rfl (fun c6 => ?_) (fun c6 => ?_)
    · refine e_const k24_13 (q := 14) rfl ?_
      refine e_iret k24_14 (by first | exact Or.inl rfl | exact Or.inr rfl | assumption) ?_
      exact ⟨_, _, rfl, by simp [*], rfl⟩
    · refine e_const k24_9 (q := 10) rfl ?_
      refine e_goto k24_10 ?_
      refine e_iret k24_14 (by first | exact Or.inl rfl | exact Or.inr rfl | assumption) ?_
      exact ⟨_, _, rfl, by simp [*], rfl⟩
theorem m_floorMod {d : Nat} {h : zH} (x y : Int32) (hy : ¬ y = 0) : z_M (d + 1) 116 [.int x, .int y] h (z_qi fun r h' => r = (if 0 ≤ x ^^^ y then x - x / y * y else if x - x / y * y = 0 then x - x / y * y else x - x / y * y + y) ∧ h' = h) := by
  refine z_M.of ⟨Nat.le_of_ble_eq_true rfl, by simp [Value.category]⟩ (L := [some (.int x), some (.int y), none]) rfl ?_
  refine e_iload k116_0 (q := 1) rfl rfl ?_
  refine e_iload k116_1 (q := 2) rfl rfl ?_
  refine e_ibn k116_2 (q := 3) rfl (by assumption) ?_
  refine e_ist k116_3 (q := 4) (L' := [_, _, _]) rfl rfl rfl ?_
  refine e_iload k116_4 (q := 5) rfl rfl ?_
  refine e_iload k116_5 (q := 6) rfl rfl ?_
  refine e_ib k116_6 (q := 7) rfl ?_
  refine e_if k116_7 (q := 10) rfl (fun c7 => ?_) (fun c7 => ?_)
  · refine e_iload k116_18 (q := 19) rfl rfl ?_
    refine e_iret k116_19 ⟨_, rfl⟩ ?_
    exact ⟨_, _, rfl, by simp [*], rfl⟩
  · refine e_iload k116_10 (q := 11) rfl rfl ?_
    refine e_if k116_11 (q := 14) rfl (fun c11 => ?_) (fun c11 => ?_)
    · refine e_iload k116_18 (q := 19) rfl rfl ?_
      refine e_iret k116_19 ⟨_, rfl⟩ ?_
      exact ⟨_, _, rfl, by simp [*], rfl⟩
    · refine e_iload k116_14 (q := 15) rfl rfl ?_
      refine e_iload k116_15 (q := 16) rfl rfl ?_
      refine e_ib k116_16 (q := 17) rfl ?_
      refine e_iret k116_17 ⟨_, rfl⟩ ?_
      exact ⟨_, _, rfl, by simp [*], rfl⟩
theorem m_none {d : Nat} {h : zH} {σ : Nat → Nat → Int32} {ρ : Nat → Nat → Option Nat} (x : Int32) : z_M (d + 1) 71 [.ref 18, .int x] (z_G h σ ρ) (z_qi fun r h' => r = (if x < 0 ∨ ¬ x < σ 18 0 then 1 else 0) ∧ h' = z_G h σ ρ) := by
  refine z_M.of ⟨Nat.le_of_ble_eq_true rfl, by simp [Value.category]⟩ (L := [some (.ref 18), some (.int x)]) rfl ?_
  refine e_iload k71_0 (q := 1) rfl rfl ?_
  refine e_if k71_1 (q := 4) rfl (fun c1 => ?_) (fun c1 => ?_)
  · refine e_const k71_12 (q := 13) rfl ?_
    refine e_goto k71_13 ?_
    refine e_iret k71_17 (by first | exact Or.inl rfl | exact Or.inr rfl | assumption) ?_
    exact ⟨_, _, rfl, by simp [*], rfl⟩
  · refine e_iload k71_4 (q := 5) rfl rfl ?_
    refine e_aload k71_5 (q := 6) rfl rfl ?_
    refine g_get k71_6 (q := 9) rfl rfl rfl ?_
    refine e_ic k71_9 (q := 12) rfl (fun c9 => ?_) (fun c9 => ?_)
    · refine e_const k71_16 (q := 17) rfl ?_
      refine e_iret k71_17 (by first | exact Or.inl rfl | exact Or.inr rfl | assumption) ?_
      exact ⟨_, _, rfl, by simp [*], rfl⟩
    · refine e_const k71_12 (q := 13) rfl ?_
      refine e_goto k71_13 ?_
      refine e_iret k71_17 (by first | exact Or.inl rfl | exact Or.inr rfl | assumption) ?_
      exact ⟨_, _, rfl, by simp [*], rfl⟩
/-- a text: its object t, its row a of n places -/
def z_tx (t a n : Nat) : Prop := (∀ s r, z_rw t s r = some (.inr (5, [.ref a, .int (s 1)]))) ∧ (∀ s r, z_rw a s r = some (.inl (.char, n, .inl s))) ∧ t ≠ a ∧ n < 2 ^ 31
theorem z_tx6 : z_tx 6 7 240 := ⟨fun _ _ => rfl, fun _ _ => rfl, by decide, by decide⟩
theorem z_tx11 : z_tx 11 12 60 := ⟨fun _ _ => rfl, fun _ _ => rfl, by decide, by decide⟩
theorem z_tx13 : z_tx 13 14 242 := ⟨fun _ _ => rfl, fun _ _ => rfl, by decide, by decide⟩
def z_ch (c : Int32) : Int32 := vp_nar .char (c.toUInt32 % 65536).toInt32
/-- c put behind k signs of the text t -/
def z_ap (σ : Nat → Nat → Int32) (t a n k : Nat) (c : Int32) : Nat → Nat → Int32 := if k < n then z_us (z_us σ a (upd (σ a) k (z_ch c))) t (upd (σ t) 1 (nI (k + 1))) else σ
theorem m_append {d : Nat} {h : zH} {σ : Nat → Nat → Int32} {ρ : Nat → Nat → Option Nat} {t a n k : Nat} (T : z_tx t a n) (hk : σ t 1 = nI k) (hkn : k ≤ n) (c : Int32) : z_M (d + 1) 61 [.ref t, .int c] (z_G h σ ρ) (z_qi fun x h' => x = (if k < n then 1 else 0) ∧ h' = z_G h (z_ap σ t a n k c) ρ) := by
  refine z_M.of ⟨Nat.le_of_ble_eq_true rfl, by simp [Value.category]⟩ (L := [some (.ref t), some (.int c)]) rfl ?_
  have hn := T.2.2.2
  refine e_aload k61_0 (q := 1) rfl rfl ?_
  refine g_get k61_1 (q := 4) rfl (T.1 _ _) rfl ?_
  refine e_aload k61_4 (q := 5) rfl rfl ?_
  refine g_get k61_5 (q := 8) rfl (T.1 _ _) rfl ?_
  refine g_alen k61_8 (q := 9) rfl (T.2.1 _ _) ?_
  refine e_ic k61_9 (q := 12) rfl (fun c9 => ?_) (fun c9 => ?_)
  · have hl : k < n := by
      rcases Nat.lt_or_ge k n with z | z
      · exact z
      · exact absurd (by rw [hk, show k = n by omega]; rfl) c9
    have hin : vp_in (σ t 1) n := by rw [hk]; exact vp_in_nI hl hn
    refine e_aload k61_14 (q := 15) rfl rfl ?_
    refine g_get k61_15 (q := 18) rfl (T.1 _ _) rfl ?_
    refine e_aload k61_18 (q := 19) rfl rfl ?_
    refine g_get k61_19 (q := 22) rfl (T.1 _ _) rfl ?_
    refine e_iload k61_22 (q := 23) rfl rfl ?_
    refine e_i1 k61_23 (q := 24) rfl ?_
    refine g_aast k61_24 (q := 25) rfl (fun s => T.2.1 s _) (by assumption) ?_
    refine e_aload k61_25 (q := 26) rfl rfl ?_
    refine e_dup k61_26 (q := 27) rfl rfl ?_
    refine g_get k61_27 (q := 30) rfl (T.1 _ _) rfl ?_
    refine e_const k61_30 (q := 31) rfl ?_
    refine e_ib k61_31 (q := 32) rfl ?_
    refine g_put k61_32 (q := 35) rfl (T.1 _ _) ⟨_, rfl⟩ (T.1 _ _) ?_
    refine e_const k61_35 (q := 36) rfl ?_
    refine e_iret k61_36 (by first | exact Or.inl rfl | exact Or.inr rfl | assumption) ?_
    refine ⟨_, _, rfl, (if_pos hl).symm, ?_⟩
    rw [z_ap, if_pos hl, z_us_ne _ _ T.2.2.1, hk, nI_clamp (by omega), nI_1]
    rfl
  · have hl : ¬ k < n := fun z => by
      rw [hk] at c9
      have := (nI_eq (by omega) hn).mp (Classical.not_not.mp c9)
      omega
    refine e_const k61_12 (q := 13) rfl ?_
    refine e_iret k61_13 (by first | exact Or.inl rfl | exact Or.inr rfl | assumption) ?_
    exact ⟨_, _, rfl, (if_neg hl).symm, by rw [z_ap, if_neg hl]⟩
theorem m_codeAt {d : Nat} {h : zH} {σ : Nat → Nat → Int32} {ρ : Nat → Nat → Option Nat} {t a n k : Nat} (T : z_tx t a n) (hk : σ t 1 = nI k) (hkn : k ≤ n) (i : Int32) : z_M (d + 1) 62 [.ref t, .int i] (z_G h σ ρ) (z_qi fun x h' => x = (if i < 0 ∨ nI k ≤ i then -1 else σ a i.toNatClampNeg) ∧ h' = z_G h σ ρ) := by
  refine z_M.of ⟨Nat.le_of_ble_eq_true rfl, by simp [Value.category]⟩ (L := [some (.ref t), some (.int i)]) rfl ?_
  refine e_iload k62_0 (q := 1) rfl rfl ?_
  refine e_if k62_1 (q := 4) rfl (fun c1 => ?_) (fun c1 => ?_)
  · refine e_const k62_21 (q := 22) rfl ?_
    refine e_iret k62_22 ⟨_, rfl⟩ ?_
    exact ⟨_, _, rfl, by simp [*], rfl⟩
  · refine e_iload k62_4 (q := 5) rfl rfl ?_
    refine e_aload k62_5 (q := 6) rfl rfl ?_
    refine g_get k62_6 (q := 9) rfl (T.1 _ _) rfl ?_
    refine e_ic k62_9 (q := 12) rfl (fun c9 => ?_) (fun c9 => ?_)
    · rw [hk] at c9
      refine e_const k62_21 (q := 22) rfl ?_
      refine e_iret k62_22 ⟨_, rfl⟩ ?_
      exact ⟨_, _, rfl, by simp [*], rfl⟩
    · rw [hk] at c9
      have hin : vp_in i n := by
        obtain ⟨j, hj, rfl⟩ := nI_of c1
        have hn := T.2.2.2
        have : j < k := by
          rcases Nat.lt_or_ge j k with z | z
          · exact z
          · exact absurd (nI_le z hj) c9
        exact vp_in_nI (by omega) hn
      refine e_aload k62_12 (q := 13) rfl rfl ?_
      refine g_get k62_13 (q := 16) rfl (T.1 _ _) rfl ?_
      refine e_iload k62_16 (q := 17) rfl rfl ?_
      refine g_ald k62_17 (q := 18) rfl (T.2.1 _ _) (by assumption) ?_
      refine e_goto k62_18 ?_
      refine e_iret k62_22 ⟨_, rfl⟩ ?_
      exact ⟨_, _, rfl, by simp [*], rfl⟩
theorem m_cut0 {d : Nat} {h : zH} {σ : Nat → Nat → Int32} {ρ : Nat → Nat → Option Nat} {t a n k : Nat} (T : z_tx t a n) (hk : σ t 1 = nI k) (hkn : k ≤ n) : z_M (d + 1) 63 [.ref t, .int 0] (z_G h σ ρ) (z_qv fun h' => h' = z_G h (z_us σ t (upd (σ t) 1 0)) ρ) := by
  refine z_M.of ⟨Nat.le_of_ble_eq_true rfl, by simp [Value.category]⟩ (L := [some (.ref t), some (.int 0)]) rfl ?_
  have hn := T.2.2.2
  refine e_iload k63_0 (q := 1) rfl rfl ?_
  refine e_if k63_1 (q := 4) rfl (fun c1 => absurd c1 (by decide)) (fun c1 => ?_)
  refine e_iload k63_4 (q := 5) rfl rfl ?_
  refine e_aload k63_5 (q := 6) rfl rfl ?_
  refine g_get k63_6 (q := 9) rfl (T.1 _ _) rfl ?_
  refine e_ic k63_9 (q := 12) rfl (fun c9 => ?_) (fun c9 => ?_)
  · rw [hk] at c9
    refine e_vret k63_17 ?_
    refine ⟨_, rfl, ?_⟩
    have h0 : σ t 1 = 0 := by
      rw [hk]
      rcases Nat.eq_zero_or_pos k with z | z
      · subst z; exact nI_0
      · exact absurd c9 (nI_nle z (by omega))
    have e : z_us σ t (upd (σ t) 1 0) = σ := by
      funext j
      by_cases ej : j = t
      · subst ej
        rw [z_us_eq]
        funext i
        by_cases ei : i = 1
        · subst ei; rw [h0]; exact if_pos rfl
        · exact if_neg ei
      · exact z_us_ne _ _ ej
    rw [e]
  · refine e_aload k63_12 (q := 13) rfl rfl ?_
    refine e_iload k63_13 (q := 14) rfl rfl ?_
    refine g_put k63_14 (q := 17) rfl (T.1 _ _) ⟨_, rfl⟩ (T.1 _ _) ?_
    refine e_vret k63_17 ?_
    exact ⟨_, rfl, rfl⟩
