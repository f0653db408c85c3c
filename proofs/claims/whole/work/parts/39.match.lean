/-! The model's matches. -/
/-- what the rows of domains say -/
def z_rwd (σ0 : Nat → Nat → Int32) (nD : Nat) : Prop := ∀ g, g < nD → (∃ na, na ≤ 3 ∧ σ0 21 g = nI na) ∧ ∃ ne, ne ≤ 3 ∧ σ0 23 g = nI ne ∧ ∀ k, k < ne → ∃ v, v < nD ∧ σ0 24 (3 * g + k) = nI v
def z_pl (σ0 : Nat → Nat → Int32) (nD p kd : Nat) : Prop := σ0 33 p = nI kd ∧ (2 ≤ kd → ∃ g, g < nD ∧ σ0 34 p = nI g) ∧ (1 ≤ kd → kd ≤ 3 → ∃ b, b ≤ 32 ∧ σ0 35 p = nI b)
theorem z_mst.rw {σ σ0 : Nat → Nat → Int32} {q e : Nat} {w : Bool} (h : z_mst σ σ0 q e w) {k : Nat} (hk : 18 < k ∧ k < 36) : σ k = σ0 k := h.1 k (by omega) (by omega) (by omega) (by omega)
theorem l_mexit1 {d : Nat} {h : zH} {ρ : Nat → Nat → Option Nat} {σ σ0 : Nat → Nat → Int32} {q e t : Nat} {x1 x2 x6 x7 : Option Value} {k : Int32} (hS : z_mst σ σ0 q e false) (ht : t < 12) :
    z_E d 83 154 [some (.ref 18), x1, x2, some (.int (nI t)), some (.int 1), some (.int k), x6, x7] [] (z_G h σ ρ) (z_qi fun r h' => r = 1 ∧ h' = z_G h σ ρ) := by
  have hin : vp_in (nI t) 12 := vp_in_nI ht (by decide)
  have hw := hS.2.2.2.2
  refine e_iload k83_154 (q := 156) rfl rfl ?_
  refine e_aload k83_156 (q := 157) rfl rfl ?_
  refine g_get k83_157 (q := 160) rfl rfl rfl ?_
  refine e_iload k83_160 (q := 161) rfl rfl ?_
  refine g_ald k83_161 (q := 162) rfl rfl (by assumption) ?_
  refine e_ic k83_162 (q := 165) rfl (fun c162 => ?_) (fun c162 => ?_)
  · refine e_iload k83_241 (q := 243) rfl rfl ?_
    refine e_if k83_243 (q := 246) rfl (fun c243 => absurd c243 (by decide)) (fun c243 => ?_)
    refine e_aload k83_246 (q := 247) rfl rfl ?_
    refine g_get k83_247 (q := 250) rfl rfl rfl ?_
    refine e_if k83_250 (q := 253) rfl (fun c250 => absurd c250 (fun z => z hw)) (fun c250 => ?_)
    refine e_const k83_253 (q := 254) rfl ?_
    refine e_goto k83_254 ?_
    refine e_iret k83_258 (by first | exact Or.inl rfl | exact Or.inr rfl | assumption) ?_
    exact ⟨_, _, rfl, rfl, rfl⟩
  · refine e_iload k83_165 (q := 167) rfl rfl ?_
    refine e_if k83_167 (q := 170) rfl (fun c167 => ?_) (fun c167 => absurd (by decide) c167)
    refine e_iload k83_241 (q := 243) rfl rfl ?_
    refine e_if k83_243 (q := 246) rfl (fun c243 => absurd c243 (by decide)) (fun c243 => ?_)
    refine e_aload k83_246 (q := 247) rfl rfl ?_
    refine g_get k83_247 (q := 250) rfl rfl rfl ?_
    refine e_if k83_250 (q := 253) rfl (fun c250 => absurd c250 (fun z => z hw)) (fun c250 => ?_)
    refine e_const k83_253 (q := 254) rfl ?_
    refine e_goto k83_254 ?_
    refine e_iret k83_258 (by first | exact Or.inl rfl | exact Or.inr rfl | assumption) ?_
    exact ⟨_, _, rfl, rfl, rfl⟩
theorem l_mexit0 {d : Nat} {h : zH} {ρ : Nat → Nat → Option Nat} {σ σ0 : Nat → Nat → Int32} {q e t : Nat} {x1 x2 x6 x7 : Option Value} {k : Int32} (hS : z_mst σ σ0 q e true) (ht : t < 12) :
    z_E d 83 154 [some (.ref 18), x1, x2, some (.int (nI t)), some (.int 0), some (.int k), x6, x7] [] (z_G h σ ρ) (z_qi fun r h' => r = 0 ∧ h' = z_G h σ ρ) := by
  have hin : vp_in (nI t) 12 := vp_in_nI ht (by decide)
  have hw := hS.2.2.2.2
  refine e_iload k83_154 (q := 156) rfl rfl ?_
  refine e_aload k83_156 (q := 157) rfl rfl ?_
  refine g_get k83_157 (q := 160) rfl rfl rfl ?_
  refine e_iload k83_160 (q := 161) rfl rfl ?_
  refine g_ald k83_161 (q := 162) rfl rfl (by assumption) ?_
  refine e_ic k83_162 (q := 165) rfl (fun c162 => ?_) (fun c162 => ?_)
  · refine e_iload k83_241 (q := 243) rfl rfl ?_
    refine e_if k83_243 (q := 246) rfl (fun c243 => ?_) (fun c243 => absurd rfl c243)
    refine e_const k83_257 (q := 258) rfl ?_
    refine e_iret k83_258 (by first | exact Or.inl rfl | exact Or.inr rfl | assumption) ?_
    exact ⟨_, _, rfl, rfl, rfl⟩
  · refine e_iload k83_165 (q := 167) rfl rfl ?_
    refine e_if k83_167 (q := 170) rfl (fun c167 => absurd c167 (fun z => z rfl)) (fun c167 => ?_)
    refine e_aload k83_170 (q := 171) rfl rfl ?_
    refine g_get k83_171 (q := 174) rfl rfl rfl ?_
    refine e_if k83_174 (q := 177) rfl (fun c174 => ?_) (fun c174 => absurd (fun z => absurd (hw.symm.trans z) (by decide)) c174)
    refine e_iload k83_241 (q := 243) rfl rfl ?_
    refine e_if k83_243 (q := 246) rfl (fun c243 => ?_) (fun c243 => absurd rfl c243)
    refine e_const k83_257 (q := 258) rfl ?_
    refine e_iret k83_258 (by first | exact Or.inl rfl | exact Or.inr rfl | assumption) ?_
    exact ⟨_, _, rfl, rfl, rfl⟩
theorem l_mloop {d : Nat} {h : zH} {ρ : Nat → Nat → Option Nat} {σ0 : Nat → Nat → Int32} {ip : Int32} {nD n t p ne : Nat} (hn2 : nD ≤ 12) (hR : z_rwd σ0 nD) (ht : t < nD) (hp : p < 96) (hn : n ≤ 32) (hb : σ0 35 p = nI n) (he1 : σ0 23 t = nI ne) (he2 : ne ≤ 3) (he3 : ∀ k, k < ne → ∃ v, v < nD ∧ σ0 24 (3 * t + k) = nI v) : ∀ (m k : Nat) (σ : Nat → Nat → Int32) (q e : Nat) (x6 x7 : Option Value), k + m = ne → z_mst σ σ0 q e false → q ≤ 10 → e ≤ 2 →
    z_E (d + 2) 83 154 [some (.ref 18), some (.int ip), some (.int (nI p)), some (.int (nI t)), some (.int 0), some (.int (nI k)), x6, x7] [] (z_G h σ ρ) (z_qi fun r h' => ∃ σ', h' = z_G h σ' ρ ∧ z_fra σ' σ ∧ r = z_bi (decide ((z_mal σ0 ip t n m k q e).1 = 1)) ∧ z_mst σ' σ0 (z_mal σ0 ip t n m k q e).2.1 (z_mal σ0 ip t n m k q e).2.2 (decide ((z_mal σ0 ip t n m k q e).1 = 2)))
  | 0, k, σ, q, e, x6, x7, hk, hS, hq, he => by
    obtain rfl : k = ne := by omega
    have hin : vp_in (nI t) 12 := vp_in_nI (by omega) (by decide)
    refine e_iload k83_154 (q := 156) rfl rfl ?_
    refine e_aload k83_156 (q := 157) rfl rfl ?_
    refine g_get k83_157 (q := 160) rfl rfl rfl ?_
    refine e_iload k83_160 (q := 161) rfl rfl ?_
    refine g_ald k83_161 (q := 162) rfl rfl (by assumption) ?_
    rw [nI_clamp (by omega), hS.rw (k := 23) (by omega), he1]
    refine e_ic k83_162 (q := 165) rfl (fun c162 => ?_) (fun c162 => absurd (nI_le (Nat.le_refl _) (by omega)) c162)
    refine e_iload k83_241 (q := 243) rfl rfl ?_
    refine e_if k83_243 (q := 246) rfl (fun c243 => ?_) (fun c243 => absurd rfl c243)
    refine e_const k83_257 (q := 258) rfl ?_
    refine e_iret k83_258 (by first | exact Or.inl rfl | exact Or.inr rfl | assumption) ?_
    exact ⟨_, _, rfl, σ, rfl, z_fra.rf, rfl, hS⟩
  | m + 1, k, σ, q, e, x6, x7, hk, hS, hq, he => by
    have hin : vp_in (nI t) 12 := vp_in_nI (by omega) (by decide)
    obtain ⟨v, hv, hv1⟩ := he3 k (by omega)
    obtain ⟨⟨na, hna3, hna⟩, -⟩ := hR v hv
    have hvn : z_na σ0 24 (3 * t + k) = v := z_na_of hv1 (by omega)
    have hnan : z_na σ0 21 v = na := z_na_of hna (by omega)
    have hinv : vp_in (nI v) 12 := vp_in_nI (by omega) (by decide)
    have hinp : vp_in (nI p) 96 := vp_in_nI (by omega) (by decide)
    have hx : (3 : Int32) * nI t + nI k = nI (3 * t + k) := by rw [show (3 : Int32) = nI 3 from rfl, z_nmul, nI_add]
    have hin2 : vp_in (nI (3 * t + k)) 36 := vp_in_nI (by omega) (by decide)
    refine e_iload k83_154 (q := 156) rfl rfl ?_
    refine e_aload k83_156 (q := 157) rfl rfl ?_
    refine g_get k83_157 (q := 160) rfl rfl rfl ?_
    refine e_iload k83_160 (q := 161) rfl rfl ?_
    refine g_ald k83_161 (q := 162) rfl rfl (by assumption) ?_
    rw [nI_clamp (by omega), hS.rw (k := 23) (by omega), he1]
    refine e_ic k83_162 (q := 165) rfl (fun c162 => absurd c162 (nI_ge (by omega) (by omega))) (fun c162 => ?_)
    refine e_iload k83_165 (q := 167) rfl rfl ?_
    refine e_if k83_167 (q := 170) rfl (fun c167 => absurd c167 (fun z => z rfl)) (fun c167 => ?_)
    refine e_aload k83_170 (q := 171) rfl rfl ?_
    refine g_get k83_171 (q := 174) rfl rfl rfl ?_
    refine e_if k83_174 (q := 177) rfl (fun c174 => absurd c174 (fun z => z hS.2.2.2.2)) (fun c174 => ?_)
    refine e_aload k83_177 (q := 178) rfl rfl ?_
    refine g_get k83_178 (q := 181) rfl rfl rfl ?_
    refine e_const k83_181 (q := 182) rfl ?_
    refine e_iload k83_182 (q := 183) rfl rfl ?_
    refine e_ib k83_183 (q := 184) rfl ?_
    refine e_iload k83_184 (q := 186) rfl rfl ?_
    refine e_ib k83_186 (q := 187) rfl ?_
    rw [hx]
    refine g_ald k83_187 (q := 188) rfl rfl (by assumption) ?_
    rw [nI_clamp (by omega), hS.rw (k := 24) (by omega), hv1]
    refine e_ist k83_188 (q := 190) (L' := [_, _, _, _, _, _, _, _]) rfl rfl rfl ?_
    refine e_aload k83_190 (q := 191) rfl rfl ?_
    refine g_get k83_191 (q := 194) rfl rfl rfl ?_
    refine e_iload k83_194 (q := 196) rfl rfl ?_
    refine g_ald k83_196 (q := 197) rfl rfl (by assumption) ?_
    rw [nI_clamp (by omega), hS.rw (k := 21) (by omega), hna]
    refine e_if k83_197 (q := 200) rfl (fun c197 => ?_) (fun c197 => ?_)
    · have hna0 : ¬ na = 0 := fun z => c197 (by rw [z]; rfl)
      refine e_aload k83_204 (q := 205) rfl rfl ?_
      refine e_iload k83_205 (q := 206) rfl rfl ?_
      refine e_iload k83_206 (q := 208) rfl rfl ?_
      refine e_aload k83_208 (q := 209) rfl rfl ?_
      refine g_get k83_209 (q := 212) rfl rfl rfl ?_
      refine e_iload k83_212 (q := 213) rfl rfl ?_
      refine g_ald k83_213 (q := 214) rfl rfl (by assumption) ?_
      rw [nI_clamp (by omega), hS.rw (k := 35) (by omega), hb]
      refine g_cv k83_214 (q := 217) (as := [_, _, _]) rfl rfl rfl rfl (m_hostsM (hS.rw (k := 21) (by omega)) (hS.rw (k := 22) (by omega)) (by omega) hna hna3 hn) rfl (z_ki fun x214 h214 p214 => ?_)
      obtain ⟨rfl, rfl⟩ := p214
      refine e_ist k83_217 (q := 219) (L' := [_, _, _, _, _, _, _, _]) rfl rfl rfl ?_
      refine e_aload k83_219 (q := 220) rfl rfl ?_
      refine g_get k83_220 (q := 223) rfl rfl rfl ?_
      refine e_iload k83_223 (q := 225) rfl rfl ?_
      refine g_ald k83_225 (q := 226) rfl rfl (by assumption) ?_
      rw [nI_clamp (by omega), hS.rw (k := 21) (by omega), hna]
      refine e_if k83_226 (q := 229) rfl (fun c226 => ?_) (fun c226 => absurd c197 c226)
      refine e_iinc k83_235 (q := 238) (L' := [_, _, _, _, _, some (.int (nI (k + 1))), _, _]) rfl rfl (by rw [nI_1]; rfl) ?_
      refine e_goto k83_238 ?_
      cases hany : z_any σ0 ip (3 * v) n na
      · have hz : z_hos σ0 ip v n q e = (0, q, e) := by rw [z_hos, hnan, if_neg hna0, hany]; rfl
        have := l_mloop (d := d) (h := h) (ρ := ρ) (ip := ip) hn2 hR ht hp hn hb he1 he2 he3 m (k + 1) σ q e (some (.int (nI v))) x7 (by omega) hS hq he
        rw [z_mal, hvn, hz, if_pos rfl]
        exact this
      · have hz : z_hos σ0 ip v n q e = (1, q, e) := by rw [z_hos, hnan, if_neg hna0, hany]; rfl
        refine (l_mexit1 hS (by omega)).mono ?_
        rintro r ⟨x, h', rfl, rfl, rfl⟩
        refine ⟨_, _, rfl, σ, rfl, z_fra.rf, ?_⟩
        rw [z_mal, hvn, hz, if_neg (show ¬ 1 = 0 by decide)]
        exact ⟨rfl, hS⟩
    · have hna0 : na = 0 := (nI_eq (b := 0) (by omega) (by decide)).mp (Classical.not_not.mp c197)
      refine e_const k83_200 (q := 201) rfl ?_
      refine e_goto k83_201 ?_
      refine e_ist k83_217 (q := 219) (L' := [_, _, _, _, _, _, _, _]) rfl rfl rfl ?_
      refine e_aload k83_219 (q := 220) rfl rfl ?_
      refine g_get k83_220 (q := 223) rfl rfl rfl ?_
      refine e_iload k83_223 (q := 225) rfl rfl ?_
      refine g_ald k83_225 (q := 226) rfl rfl (by assumption) ?_
      rw [nI_clamp (by omega), hS.rw (k := 21) (by omega), hna]
      refine e_if k83_226 (q := 229) rfl (fun c226 => absurd c226 (fun z => z (by rw [hna0]; rfl))) (fun c226 => ?_)
      refine e_aload k83_229 (q := 230) rfl rfl ?_
      refine g_cv k83_230 (q := 233) (as := []) rfl rfl rfl rfl (m_missE hS he) rfl (z_ki fun x230 h230 p230 => ?_)
      obtain ⟨σ1, rfl, f1, rfl, hS1⟩ := p230
      refine e_ist k83_233 (q := 235) (L' := [_, _, _, _, _, _, _, _]) rfl rfl rfl ?_
      refine e_iinc k83_235 (q := 238) (L' := [_, _, _, _, _, some (.int (nI (k + 1))), _, _]) rfl rfl (by rw [nI_1]; rfl) ?_
      refine e_goto k83_238 ?_
      have hz : z_hos σ0 ip v n q e = z_emp q e := by rw [z_hos, hnan, if_pos hna0]
      have hg := z_emp_gd hq he
      rcases z_emp_o q e with ho | ho
      · rw [ho] at hS1
        have := l_mloop (d := d) (h := h) (ρ := ρ) (ip := ip) hn2 hR ht hp hn hb he1 he2 he3 m (k + 1) σ1 (z_emp q e).2.1 (z_emp q e).2.2 (some (.int (nI v))) (some (.int (z_bi (decide ((z_emp q e).1 = 0))))) (by omega) hS1 hg.2.1 hg.2.2
        rw [z_mal, hvn, hz, if_pos ho]
        refine this.mono ?_
        rintro r ⟨x, h', rfl, σ2, rfl, f2, w2⟩
        exact ⟨_, _, rfl, σ2, rfl, f2.tr f1, w2⟩
      · rw [ho] at hS1
        refine (l_mexit0 hS1 (by omega)).mono ?_
        rintro r ⟨x, h', rfl, rfl, rfl⟩
        refine ⟨_, _, rfl, σ1, rfl, f1, ?_⟩
        rw [z_mal, hvn, hz, if_neg (by omega), ho]
        exact ⟨rfl, hS1⟩
theorem m_matches {d : Nat} {h : zH} {ρ : Nat → Nat → Option Nat} {σ σ0 : Nat → Nat → Int32} {ip : Int32} {q e nD : Nat} {p kd : Nat} (res : Nat → Nat → Nat → Nat × Nat × Nat) (hn2 : nD ≤ 12) (hR : z_rwd σ0 nD) (hp : p < 96) (hP : z_pl σ0 nD p kd) (hkd : kd ≤ 5) (hk4 : kd ≠ 4) (hS : z_mst σ σ0 q e false) (hq : q ≤ 10) (he : e ≤ 2) : z_M (d + 3) 83 [.ref 18, .int ip, .int (nI p)] (z_G h σ ρ) (z_qi fun r h' => ∃ σ', h' = z_G h σ' ρ ∧ z_fra σ' σ ∧ r = z_bi (decide ((z_oc res σ0 ip p q e).1 = 1)) ∧ z_mst σ' σ0 (z_oc res σ0 ip p q e).2.1 (z_oc res σ0 ip p q e).2.2 (decide ((z_oc res σ0 ip p q e).1 = 2))) := by
  refine z_M.of ⟨Nat.le_of_ble_eq_true rfl, by simp [Value.category]⟩ (L := [some (.ref 18), some (.int ip), some (.int (nI p)), none, none, none, none, none]) rfl ?_
  have ksplit : kd = 0 ∨ kd = 1 ∨ kd = 2 ∨ kd = 3 ∨ kd = 5 := by
    clear hR hP hS
    omega
  obtain ⟨t5, t8, t9⟩ := hP
  have hinp : vp_in (nI p) 96 := vp_in_nI (by omega) (by decide)
  have hclp : (nI p).toNatClampNeg = p := nI_clamp (by omega)
  have r33 := hS.rw (k := 33) (by omega)
  have r34 := hS.rw (k := 34) (by omega)
  have r35 := hS.rw (k := 35) (by omega)
  rcases ksplit with rfl | rfl | rfl | rfl | rfl
  · refine e_aload k83_0 (q := 1) rfl rfl ?_
    refine g_get k83_1 (q := 4) rfl rfl rfl ?_
    refine e_iload k83_4 (q := 5) rfl rfl ?_
    refine g_ald k83_5 (q := 6) rfl rfl (by assumption) ?_
    rw [hclp, r33, t5]
    refine e_if k83_6 (q := 9) rfl (fun c6 => absurd c6 (fun z => z rfl)) (fun c6 => ?_)
    refine e_const k83_9 (q := 10) rfl ?_
    refine e_iret k83_10 (by first | exact Or.inl rfl | exact Or.inr rfl | assumption) ?_
    refine ⟨_, _, rfl, σ, rfl, z_fra.rf, ?_⟩
    rw [z_oc, if_pos (by rw [t5]; rfl)]
    exact ⟨rfl, hS⟩
  · obtain ⟨b, hb, b1⟩ := t9 (by decide) (by decide)
    refine e_aload k83_0 (q := 1) rfl rfl ?_
    refine g_get k83_1 (q := 4) rfl rfl rfl ?_
    refine e_iload k83_4 (q := 5) rfl rfl ?_
    refine g_ald k83_5 (q := 6) rfl rfl (by assumption) ?_
    rw [hclp, r33, t5]
    refine e_if k83_6 (q := 9) rfl (fun c6 => ?_) (fun c6 => absurd (by decide) c6)
    refine e_aload k83_11 (q := 12) rfl rfl ?_
    refine g_get k83_12 (q := 15) rfl rfl rfl ?_
    refine e_iload k83_15 (q := 16) rfl rfl ?_
    refine g_ald k83_16 (q := 17) rfl rfl (by assumption) ?_
    rw [hclp, r33, t5]
    refine e_const k83_17 (q := 18) rfl ?_
    refine e_ic k83_18 (q := 21) rfl (fun c18 => absurd c18 (fun z => z rfl)) (fun c18 => ?_)
    refine e_aload k83_21 (q := 22) rfl rfl ?_
    refine e_iload k83_22 (q := 23) rfl rfl ?_
    refine e_aload k83_23 (q := 24) rfl rfl ?_
    refine g_get k83_24 (q := 27) rfl rfl rfl ?_
    refine e_iload k83_27 (q := 28) rfl rfl ?_
    refine g_ald k83_28 (q := 29) rfl rfl (by assumption) ?_
    rw [hclp, r34]
    refine e_aload k83_29 (q := 30) rfl rfl ?_
    refine g_get k83_30 (q := 33) rfl rfl rfl ?_
    refine e_iload k83_33 (q := 34) rfl rfl ?_
    refine g_ald k83_34 (q := 35) rfl rfl (by assumption) ?_
    rw [hclp, r35, b1]
    refine g_cv k83_35 (q := 38) (as := [_, _, _]) rfl rfl rfl rfl (m_same ip _ hb) rfl (z_ki fun x35 h35 p35 => ?_)
    obtain ⟨rfl, rfl⟩ := p35
    refine e_iret k83_38 (z_fitb _) ?_
    refine ⟨_, _, rfl, σ, rfl, z_fra.rf, ?_⟩
    rw [z_oc, if_neg (by rw [t5]; decide), if_pos (by rw [t5]; rfl), z_na_of b1 (by omega)]
    cases hs : z_sb ip (σ0 34 p) b
    · exact ⟨rfl, hS⟩
    · exact ⟨rfl, hS⟩
  · obtain ⟨g, hg, hg1⟩ := t8 (by decide)
    have hgn : z_na σ0 34 p = g := z_na_of hg1 (by omega)
    have hing : vp_in (nI g) 12 := vp_in_nI (by omega) (by decide)
    obtain ⟨⟨na, hna3, hna⟩, ne, hne3, hne, hne2⟩ := hR g hg
    have hgna : z_na σ0 21 g = na := z_na_of hna (by omega)
    have hgne : z_na σ0 23 g = ne := z_na_of hne (by omega)
    obtain ⟨b, hb, b1⟩ := t9 (by decide) (by decide)
    refine e_aload k83_0 (q := 1) rfl rfl ?_
    refine g_get k83_1 (q := 4) rfl rfl rfl ?_
    refine e_iload k83_4 (q := 5) rfl rfl ?_
    refine g_ald k83_5 (q := 6) rfl rfl (by assumption) ?_
    rw [hclp, r33, t5]
    refine e_if k83_6 (q := 9) rfl (fun c6 => ?_) (fun c6 => absurd (by decide) c6)
    refine e_aload k83_11 (q := 12) rfl rfl ?_
    refine g_get k83_12 (q := 15) rfl rfl rfl ?_
    refine e_iload k83_15 (q := 16) rfl rfl ?_
    refine g_ald k83_16 (q := 17) rfl rfl (by assumption) ?_
    rw [hclp, r33, t5]
    refine e_const k83_17 (q := 18) rfl ?_
    refine e_ic k83_18 (q := 21) rfl (fun c18 => ?_) (fun c18 => absurd (by decide) c18)
    refine e_aload k83_39 (q := 40) rfl rfl ?_
    refine g_get k83_40 (q := 43) rfl rfl rfl ?_
    refine e_iload k83_43 (q := 44) rfl rfl ?_
    refine g_ald k83_44 (q := 45) rfl rfl (by assumption) ?_
    rw [hclp, r34, hg1]
    refine e_ist k83_45 (q := 46) (L' := [_, _, _, _, _, _, _, _]) rfl rfl rfl ?_
    refine e_aload k83_46 (q := 47) rfl rfl ?_
    refine g_cv k83_47 (q := 50) (as := []) rfl rfl rfl rfl (m_ask hS hq) rfl (z_ki fun x47 h47 p47 => ?_)
    obtain ⟨σ1, rfl, f1, hor⟩ := p47
    refine e_if k83_50 (q := 53) rfl (fun c50 => ?_) (fun c50 => ?_)
    · obtain ⟨hq10, rfl, hS1⟩ := hor.resolve_left (fun z => c50 z.2.1)
      have r33' := hS1.rw (k := 33) (by omega)
      have r35' := hS1.rw (k := 35) (by omega)
      have r21' := hS1.rw (k := 21) (by omega)
      have r22' := hS1.rw (k := 22) (by omega)
      have r23' := hS1.rw (k := 23) (by omega)
      refine e_aload k83_55 (q := 56) rfl rfl ?_
      refine g_get k83_56 (q := 59) rfl rfl rfl ?_
      refine e_iload k83_59 (q := 60) rfl rfl ?_
      refine g_ald k83_60 (q := 61) rfl rfl (by assumption) ?_
      rw [hclp, r33', t5]
      refine e_const k83_61 (q := 62) rfl ?_
      refine e_ic k83_62 (q := 65) rfl (fun c62 => absurd c62 (by decide)) (fun c62 => ?_)
      refine e_aload k83_65 (q := 66) rfl rfl ?_
      refine g_get k83_66 (q := 69) rfl rfl rfl ?_
      refine e_iload k83_69 (q := 70) rfl rfl ?_
      refine g_ald k83_70 (q := 71) rfl rfl (by assumption) ?_
      rw [nI_clamp (by omega), r21', hna]
      refine e_if k83_71 (q := 74) rfl (fun c71 => ?_) (fun c71 => ?_)
      · have hz : ¬ z_na σ0 21 g = 0 := fun z => by
          rw [hgna] at z
          subst z
          exact absurd c71 (by decide)
        refine e_const k83_81 (q := 82) rfl ?_
        refine e_goto k83_82 ?_
        refine e_ist k83_86 (q := 88) (L' := [_, _, _, _, _, _, _, _]) rfl rfl rfl ?_
        refine e_aload k83_88 (q := 89) rfl rfl ?_
        refine g_get k83_89 (q := 92) rfl rfl rfl ?_
        refine e_if k83_92 (q := 95) rfl (fun c92 => absurd c92 (fun z => z hS1.2.2.2.2)) (fun c92 => ?_)
        refine e_iload k83_95 (q := 97) rfl rfl ?_
        refine e_if k83_97 (q := 100) rfl (fun c97 => absurd c97 (by decide)) (fun c97 => ?_)
        refine e_aload k83_100 (q := 101) rfl rfl ?_
        refine g_get k83_101 (q := 104) rfl rfl rfl ?_
        refine e_iload k83_104 (q := 105) rfl rfl ?_
        refine g_ald k83_105 (q := 106) rfl rfl (by assumption) ?_
        rw [hclp, r33', t5]
        refine e_const k83_106 (q := 107) rfl ?_
        refine e_ic k83_107 (q := 110) rfl (fun c107 => absurd c107 (by decide)) (fun c107 => ?_)
        refine e_aload k83_110 (q := 111) rfl rfl ?_
        refine e_iload k83_111 (q := 112) rfl rfl ?_
        refine e_iload k83_112 (q := 113) rfl rfl ?_
        refine e_aload k83_113 (q := 114) rfl rfl ?_
        refine g_get k83_114 (q := 117) rfl rfl rfl ?_
        refine e_iload k83_117 (q := 118) rfl rfl ?_
        refine g_ald k83_118 (q := 119) rfl rfl (by assumption) ?_
        rw [hclp, r35', b1]
        refine g_cv k83_119 (q := 122) (as := [_, _, _]) rfl rfl rfl rfl (m_hostsM r21' r22' (by omega) hna hna3 hb) rfl (z_ki fun x119 h119 p119 => ?_)
        obtain ⟨rfl, rfl⟩ := p119
        refine e_if k83_122 (q := 125) rfl (fun c122 => ?_) (fun c122 => ?_)
        · refine e_const k83_129 (q := 130) rfl ?_
          refine e_iret k83_130 (by first | exact Or.inl rfl | exact Or.inr rfl | assumption) ?_
          have hs : z_any σ0 ip (3 * g) b na = false := by
            cases hs : z_any σ0 ip (3 * g) b na
            · rfl
            · rw [hs] at c122; exact absurd c122 (by decide)
          refine ⟨_, _, rfl, σ1, rfl, f1, ?_⟩
          rw [z_oc, if_neg (by rw [t5]; decide), if_neg (by rw [t5]; decide), if_neg (by omega), if_pos (by rw [t5]; rfl), hgn, z_na_of b1 (by omega), z_hos, if_neg hz, hgna, hs]
          exact ⟨rfl, hS1⟩
        · refine e_const k83_125 (q := 126) rfl ?_
          refine e_goto k83_126 ?_
          refine e_iret k83_130 (by first | exact Or.inl rfl | exact Or.inr rfl | assumption) ?_
          have hs : z_any σ0 ip (3 * g) b na = true := by
            cases hs : z_any σ0 ip (3 * g) b na
            · rw [hs] at c122; exact absurd rfl c122
            · rfl
          refine ⟨_, _, rfl, σ1, rfl, f1, ?_⟩
          rw [z_oc, if_neg (by rw [t5]; decide), if_neg (by rw [t5]; decide), if_neg (by omega), if_pos (by rw [t5]; rfl), hgn, z_na_of b1 (by omega), z_hos, if_neg hz, hgna, hs]
          exact ⟨rfl, hS1⟩
      · have hz : z_na σ0 21 g = 0 := by
          rw [hgna]
          rcases Nat.eq_zero_or_pos na with z | z
          · exact z
          · exact absurd (nI_lt (a := 0) z (by omega)) c71
        refine e_aload k83_74 (q := 75) rfl rfl ?_
        refine g_cv k83_75 (q := 78) (as := []) rfl rfl rfl rfl (m_missE hS1 he) rfl (z_ki fun x75 h75 p75 => ?_)
        obtain ⟨σ2, rfl, f2, rfl, hS2⟩ := p75
        refine e_if k83_78 (q := 81) rfl (fun c78 => ?_) (fun c78 => ?_)
        · have ho : (z_emp (q + 1) e).1 = 0 := Classical.byContradiction (fun z => c78 (by rw [decide_eq_false z]; rfl))
          have hw2 : σ2 18 20 = 0 := by rw [hS2.2.2.2.2, ho]; rfl
          refine e_const k83_85 (q := 86) rfl ?_
          refine e_ist k83_86 (q := 88) (L' := [_, _, _, _, _, _, _, _]) rfl rfl rfl ?_
          refine e_aload k83_88 (q := 89) rfl rfl ?_
          refine g_get k83_89 (q := 92) rfl rfl rfl ?_
          refine e_if k83_92 (q := 95) rfl (fun c92 => absurd c92 (fun z => z hw2)) (fun c92 => ?_)
          refine e_iload k83_95 (q := 97) rfl rfl ?_
          refine e_if k83_97 (q := 100) rfl (fun c97 => ?_) (fun c97 => absurd rfl c97)
          refine e_const k83_129 (q := 130) rfl ?_
          refine e_iret k83_130 (by first | exact Or.inl rfl | exact Or.inr rfl | assumption) ?_
          refine ⟨_, _, rfl, σ2, rfl, f2.tr f1, ?_⟩
          rw [z_oc, if_neg (by rw [t5]; decide), if_neg (by rw [t5]; decide), if_neg (by omega), if_pos (by rw [t5]; rfl), hgn, z_na_of b1 (by omega), z_hos, if_pos hz]
          rw [ho] at hS2 ⊢
          exact ⟨rfl, hS2⟩
        · have ho : (z_emp (q + 1) e).1 = 2 := (z_emp_o (q + 1) e).resolve_left (fun z => by rw [z] at c78; exact absurd c78 (by decide))
          have hw2 : ¬ σ2 18 20 = 0 := by rw [hS2.2.2.2.2, ho]; decide
          refine e_const k83_81 (q := 82) rfl ?_
          refine e_goto k83_82 ?_
          refine e_ist k83_86 (q := 88) (L' := [_, _, _, _, _, _, _, _]) rfl rfl rfl ?_
          refine e_aload k83_88 (q := 89) rfl rfl ?_
          refine g_get k83_89 (q := 92) rfl rfl rfl ?_
          refine e_if k83_92 (q := 95) rfl (fun c92 => ?_) (fun c92 => absurd hw2 c92)
          refine e_const k83_129 (q := 130) rfl ?_
          refine e_iret k83_130 (by first | exact Or.inl rfl | exact Or.inr rfl | assumption) ?_
          refine ⟨_, _, rfl, σ2, rfl, f2.tr f1, ?_⟩
          rw [z_oc, if_neg (by rw [t5]; decide), if_neg (by rw [t5]; decide), if_neg (by omega), if_pos (by rw [t5]; rfl), hgn, z_na_of b1 (by omega), z_hos, if_pos hz]
          rw [ho] at hS2 ⊢
          exact ⟨rfl, hS2⟩
    · obtain ⟨hq10, rfl, hS1⟩ := hor.resolve_right (fun z => by rw [z.2.1] at c50; exact c50 (by decide))
      refine e_const k83_53 (q := 54) rfl ?_
      refine e_iret k83_54 (by first | exact Or.inl rfl | exact Or.inr rfl | assumption) ?_
      refine ⟨_, _, rfl, σ1, rfl, f1, ?_⟩
      rw [z_oc, if_neg (by rw [t5]; decide), if_neg (by rw [t5]; decide), if_pos hq10]
      exact ⟨rfl, hS1⟩
  · obtain ⟨g, hg, hg1⟩ := t8 (by decide)
    have hgn : z_na σ0 34 p = g := z_na_of hg1 (by omega)
    have hing : vp_in (nI g) 12 := vp_in_nI (by omega) (by decide)
    obtain ⟨⟨na, hna3, hna⟩, ne, hne3, hne, hne2⟩ := hR g hg
    have hgna : z_na σ0 21 g = na := z_na_of hna (by omega)
    have hgne : z_na σ0 23 g = ne := z_na_of hne (by omega)
    obtain ⟨b, hb, b1⟩ := t9 (by decide) (by decide)
    refine e_aload k83_0 (q := 1) rfl rfl ?_
    refine g_get k83_1 (q := 4) rfl rfl rfl ?_
    refine e_iload k83_4 (q := 5) rfl rfl ?_
    refine g_ald k83_5 (q := 6) rfl rfl (by assumption) ?_
    rw [hclp, r33, t5]
    refine e_if k83_6 (q := 9) rfl (fun c6 => ?_) (fun c6 => absurd (by decide) c6)
    refine e_aload k83_11 (q := 12) rfl rfl ?_
    refine g_get k83_12 (q := 15) rfl rfl rfl ?_
    refine e_iload k83_15 (q := 16) rfl rfl ?_
    refine g_ald k83_16 (q := 17) rfl rfl (by assumption) ?_
    rw [hclp, r33, t5]
    refine e_const k83_17 (q := 18) rfl ?_
    refine e_ic k83_18 (q := 21) rfl (fun c18 => ?_) (fun c18 => absurd (by decide) c18)
    refine e_aload k83_39 (q := 40) rfl rfl ?_
    refine g_get k83_40 (q := 43) rfl rfl rfl ?_
    refine e_iload k83_43 (q := 44) rfl rfl ?_
    refine g_ald k83_44 (q := 45) rfl rfl (by assumption) ?_
    rw [hclp, r34, hg1]
    refine e_ist k83_45 (q := 46) (L' := [_, _, _, _, _, _, _, _]) rfl rfl rfl ?_
    refine e_aload k83_46 (q := 47) rfl rfl ?_
    refine g_cv k83_47 (q := 50) (as := []) rfl rfl rfl rfl (m_ask hS hq) rfl (z_ki fun x47 h47 p47 => ?_)
    obtain ⟨σ1, rfl, f1, hor⟩ := p47
    refine e_if k83_50 (q := 53) rfl (fun c50 => ?_) (fun c50 => ?_)
    · obtain ⟨hq10, rfl, hS1⟩ := hor.resolve_left (fun z => c50 z.2.1)
      have r33' := hS1.rw (k := 33) (by omega)
      have r35' := hS1.rw (k := 35) (by omega)
      have r21' := hS1.rw (k := 21) (by omega)
      have r22' := hS1.rw (k := 22) (by omega)
      have r23' := hS1.rw (k := 23) (by omega)
      refine e_aload k83_55 (q := 56) rfl rfl ?_
      refine g_get k83_56 (q := 59) rfl rfl rfl ?_
      refine e_iload k83_59 (q := 60) rfl rfl ?_
      refine g_ald k83_60 (q := 61) rfl rfl (by assumption) ?_
      rw [hclp, r33', t5]
      refine e_const k83_61 (q := 62) rfl ?_
      refine e_ic k83_62 (q := 65) rfl (fun c62 => ?_) (fun c62 => absurd rfl c62)
      refine e_aload k83_131 (q := 132) rfl rfl ?_
      refine g_get k83_132 (q := 135) rfl rfl rfl ?_
      refine e_iload k83_135 (q := 136) rfl rfl ?_
      refine g_ald k83_136 (q := 137) rfl rfl (by assumption) ?_
      rw [nI_clamp (by omega), r23', hne]
      refine e_if k83_137 (q := 140) rfl (fun c137 => ?_) (fun c137 => ?_)
      · have hz : ¬ z_na σ0 23 g = 0 := fun z => by
          rw [hgne] at z
          subst z
          exact absurd rfl c137
        refine e_const k83_148 (q := 149) rfl ?_
        refine e_ist k83_149 (q := 151) (L' := [_, _, _, _, _, _, _, _]) rfl rfl rfl ?_
        refine e_const k83_151 (q := 152) rfl ?_
        refine e_ist k83_152 (q := 154) (L' := [_, _, _, _, _, _, _, _]) rfl rfl rfl ?_
        rw [z_oc, if_neg (by rw [t5]; decide), if_neg (by rw [t5]; decide), if_neg (by omega), if_neg (by rw [t5]; decide), if_pos (by rw [t5]; rfl), hgn, z_na_of b1 (by omega), z_mai, if_neg hz, hgne]
        refine (l_mloop (ip := ip) hn2 hR hg hp hb b1 hne hne3 hne2 ne 0 σ1 (q + 1) e _ _ (by omega) hS1 (by omega) he).mono ?_
        rintro r ⟨x, h', rfl, σ2, rfl, f2, w2⟩
        exact ⟨_, _, rfl, σ2, rfl, f2.tr f1, w2⟩
      · have hz : z_na σ0 23 g = 0 := by
          rw [hgne]
          exact (nI_eq (b := 0) (by omega) (by decide)).mp (Classical.not_not.mp c137)
        refine e_aload k83_140 (q := 141) rfl rfl ?_
        refine g_cv k83_141 (q := 144) (as := []) rfl rfl rfl rfl (m_missE hS1 he) rfl (z_ki fun x141 h141 p141 => ?_)
        obtain ⟨σ2, rfl, f2, rfl, hS2⟩ := p141
        refine e_ist k83_144 (q := 146) (L' := [_, _, _, _, _, _, _, _]) rfl rfl rfl ?_
        refine e_const k83_146 (q := 147) rfl ?_
        refine e_iret k83_147 (by first | exact Or.inl rfl | exact Or.inr rfl | assumption) ?_
        refine ⟨_, _, rfl, σ2, rfl, f2.tr f1, ?_⟩
        rw [z_oc, if_neg (by rw [t5]; decide), if_neg (by rw [t5]; decide), if_neg (by omega), if_neg (by rw [t5]; decide), if_pos (by rw [t5]; rfl), hgn, z_na_of b1 (by omega), z_mai, if_pos hz]
        rcases z_emp_o (q + 1) e with ho | ho
        · rw [ho] at hS2 ⊢
          exact ⟨rfl, hS2⟩
        · rw [ho] at hS2 ⊢
          exact ⟨rfl, hS2⟩
    · obtain ⟨hq10, rfl, hS1⟩ := hor.resolve_right (fun z => by rw [z.2.1] at c50; exact c50 (by decide))
      refine e_const k83_53 (q := 54) rfl ?_
      refine e_iret k83_54 (by first | exact Or.inl rfl | exact Or.inr rfl | assumption) ?_
      refine ⟨_, _, rfl, σ1, rfl, f1, ?_⟩
      rw [z_oc, if_neg (by rw [t5]; decide), if_neg (by rw [t5]; decide), if_pos hq10]
      exact ⟨rfl, hS1⟩
  · obtain ⟨g, hg, hg1⟩ := t8 (by decide)
    have hgn : z_na σ0 34 p = g := z_na_of hg1 (by omega)
    have hing : vp_in (nI g) 12 := vp_in_nI (by omega) (by decide)
    obtain ⟨⟨na, hna3, hna⟩, ne, hne3, hne, hne2⟩ := hR g hg
    have hgna : z_na σ0 21 g = na := z_na_of hna (by omega)
    have hgne : z_na σ0 23 g = ne := z_na_of hne (by omega)
    refine e_aload k83_0 (q := 1) rfl rfl ?_
    refine g_get k83_1 (q := 4) rfl rfl rfl ?_
    refine e_iload k83_4 (q := 5) rfl rfl ?_
    refine g_ald k83_5 (q := 6) rfl rfl (by assumption) ?_
    rw [hclp, r33, t5]
    refine e_if k83_6 (q := 9) rfl (fun c6 => ?_) (fun c6 => absurd (by decide) c6)
    refine e_aload k83_11 (q := 12) rfl rfl ?_
    refine g_get k83_12 (q := 15) rfl rfl rfl ?_
    refine e_iload k83_15 (q := 16) rfl rfl ?_
    refine g_ald k83_16 (q := 17) rfl rfl (by assumption) ?_
    rw [hclp, r33, t5]
    refine e_const k83_17 (q := 18) rfl ?_
    refine e_ic k83_18 (q := 21) rfl (fun c18 => ?_) (fun c18 => absurd (by decide) c18)
    refine e_aload k83_39 (q := 40) rfl rfl ?_
    refine g_get k83_40 (q := 43) rfl rfl rfl ?_
    refine e_iload k83_43 (q := 44) rfl rfl ?_
    refine g_ald k83_44 (q := 45) rfl rfl (by assumption) ?_
    rw [hclp, r34, hg1]
    refine e_ist k83_45 (q := 46) (L' := [_, _, _, _, _, _, _, _]) rfl rfl rfl ?_
    refine e_aload k83_46 (q := 47) rfl rfl ?_
    refine g_cv k83_47 (q := 50) (as := []) rfl rfl rfl rfl (m_ask hS hq) rfl (z_ki fun x47 h47 p47 => ?_)
    obtain ⟨σ1, rfl, f1, hor⟩ := p47
    refine e_if k83_50 (q := 53) rfl (fun c50 => ?_) (fun c50 => ?_)
    · obtain ⟨hq10, rfl, hS1⟩ := hor.resolve_left (fun z => c50 z.2.1)
      have r33' := hS1.rw (k := 33) (by omega)
      have r35' := hS1.rw (k := 35) (by omega)
      have r21' := hS1.rw (k := 21) (by omega)
      have r22' := hS1.rw (k := 22) (by omega)
      have r23' := hS1.rw (k := 23) (by omega)
      refine e_aload k83_55 (q := 56) rfl rfl ?_
      refine g_get k83_56 (q := 59) rfl rfl rfl ?_
      refine e_iload k83_59 (q := 60) rfl rfl ?_
      refine g_ald k83_60 (q := 61) rfl rfl (by assumption) ?_
      rw [hclp, r33', t5]
      refine e_const k83_61 (q := 62) rfl ?_
      refine e_ic k83_62 (q := 65) rfl (fun c62 => absurd c62 (by decide)) (fun c62 => ?_)
      refine e_aload k83_65 (q := 66) rfl rfl ?_
      refine g_get k83_66 (q := 69) rfl rfl rfl ?_
      refine e_iload k83_69 (q := 70) rfl rfl ?_
      refine g_ald k83_70 (q := 71) rfl rfl (by assumption) ?_
      rw [nI_clamp (by omega), r21', hna]
      refine e_if k83_71 (q := 74) rfl (fun c71 => ?_) (fun c71 => ?_)
      · have hz : ¬ z_na σ0 21 g = 0 := fun z => by
          rw [hgna] at z
          subst z
          exact absurd c71 (by decide)
        refine e_const k83_81 (q := 82) rfl ?_
        refine e_goto k83_82 ?_
        refine e_ist k83_86 (q := 88) (L' := [_, _, _, _, _, _, _, _]) rfl rfl rfl ?_
        refine e_aload k83_88 (q := 89) rfl rfl ?_
        refine g_get k83_89 (q := 92) rfl rfl rfl ?_
        refine e_if k83_92 (q := 95) rfl (fun c92 => absurd c92 (fun z => z hS1.2.2.2.2)) (fun c92 => ?_)
        refine e_iload k83_95 (q := 97) rfl rfl ?_
        refine e_if k83_97 (q := 100) rfl (fun c97 => absurd c97 (by decide)) (fun c97 => ?_)
        refine e_aload k83_100 (q := 101) rfl rfl ?_
        refine g_get k83_101 (q := 104) rfl rfl rfl ?_
        refine e_iload k83_104 (q := 105) rfl rfl ?_
        refine g_ald k83_105 (q := 106) rfl rfl (by assumption) ?_
        rw [hclp, r33', t5]
        refine e_const k83_106 (q := 107) rfl ?_
        refine e_ic k83_107 (q := 110) rfl (fun c107 => ?_) (fun c107 => absurd rfl c107)
        refine e_const k83_125 (q := 126) rfl ?_
        refine e_goto k83_126 ?_
        refine e_iret k83_130 (by first | exact Or.inl rfl | exact Or.inr rfl | assumption) ?_
        refine ⟨_, _, rfl, σ1, rfl, f1, ?_⟩
        rw [z_oc, if_neg (by rw [t5]; decide), if_neg (by rw [t5]; decide), if_neg (by omega), if_neg (by rw [t5]; decide), if_neg (by rw [t5]; decide), if_neg (by rw [t5]; decide), hgn, z_kno, if_neg hz]
        exact ⟨rfl, hS1⟩
      · have hz : z_na σ0 21 g = 0 := by
          rw [hgna]
          rcases Nat.eq_zero_or_pos na with z | z
          · exact z
          · exact absurd (nI_lt (a := 0) z (by omega)) c71
        refine e_aload k83_74 (q := 75) rfl rfl ?_
        refine g_cv k83_75 (q := 78) (as := []) rfl rfl rfl rfl (m_missE hS1 he) rfl (z_ki fun x75 h75 p75 => ?_)
        obtain ⟨σ2, rfl, f2, rfl, hS2⟩ := p75
        refine e_if k83_78 (q := 81) rfl (fun c78 => ?_) (fun c78 => ?_)
        · have ho : (z_emp (q + 1) e).1 = 0 := Classical.byContradiction (fun z => c78 (by rw [decide_eq_false z]; rfl))
          have hw2 : σ2 18 20 = 0 := by rw [hS2.2.2.2.2, ho]; rfl
          refine e_const k83_85 (q := 86) rfl ?_
          refine e_ist k83_86 (q := 88) (L' := [_, _, _, _, _, _, _, _]) rfl rfl rfl ?_
          refine e_aload k83_88 (q := 89) rfl rfl ?_
          refine g_get k83_89 (q := 92) rfl rfl rfl ?_
          refine e_if k83_92 (q := 95) rfl (fun c92 => absurd c92 (fun z => z hw2)) (fun c92 => ?_)
          refine e_iload k83_95 (q := 97) rfl rfl ?_
          refine e_if k83_97 (q := 100) rfl (fun c97 => ?_) (fun c97 => absurd rfl c97)
          refine e_const k83_129 (q := 130) rfl ?_
          refine e_iret k83_130 (by first | exact Or.inl rfl | exact Or.inr rfl | assumption) ?_
          refine ⟨_, _, rfl, σ2, rfl, f2.tr f1, ?_⟩
          rw [z_oc, if_neg (by rw [t5]; decide), if_neg (by rw [t5]; decide), if_neg (by omega), if_neg (by rw [t5]; decide), if_neg (by rw [t5]; decide), if_neg (by rw [t5]; decide), hgn, z_kno, if_pos hz]
          rw [ho] at hS2 ⊢
          exact ⟨rfl, hS2⟩
        · have ho : (z_emp (q + 1) e).1 = 2 := (z_emp_o (q + 1) e).resolve_left (fun z => by rw [z] at c78; exact absurd c78 (by decide))
          have hw2 : ¬ σ2 18 20 = 0 := by rw [hS2.2.2.2.2, ho]; decide
          refine e_const k83_81 (q := 82) rfl ?_
          refine e_goto k83_82 ?_
          refine e_ist k83_86 (q := 88) (L' := [_, _, _, _, _, _, _, _]) rfl rfl rfl ?_
          refine e_aload k83_88 (q := 89) rfl rfl ?_
          refine g_get k83_89 (q := 92) rfl rfl rfl ?_
          refine e_if k83_92 (q := 95) rfl (fun c92 => ?_) (fun c92 => absurd hw2 c92)
          refine e_const k83_129 (q := 130) rfl ?_
          refine e_iret k83_130 (by first | exact Or.inl rfl | exact Or.inr rfl | assumption) ?_
          refine ⟨_, _, rfl, σ2, rfl, f2.tr f1, ?_⟩
          rw [z_oc, if_neg (by rw [t5]; decide), if_neg (by rw [t5]; decide), if_neg (by omega), if_neg (by rw [t5]; decide), if_neg (by rw [t5]; decide), if_neg (by rw [t5]; decide), hgn, z_kno, if_pos hz]
          rw [ho] at hS2 ⊢
          exact ⟨rfl, hS2⟩
    · obtain ⟨hq10, rfl, hS1⟩ := hor.resolve_right (fun z => by rw [z.2.1] at c50; exact c50 (by decide))
      refine e_const k83_53 (q := 54) rfl ?_
      refine e_iret k83_54 (by first | exact Or.inl rfl | exact Or.inr rfl | assumption) ?_
      refine ⟨_, _, rfl, σ1, rfl, f1, ?_⟩
      rw [z_oc, if_neg (by rw [t5]; decide), if_neg (by rw [t5]; decide), if_pos hq10]
      exact ⟨rfl, hS1⟩
