/-! The law. -/
theorem e_bool {d M pc p2 q p3 p4 : Nat} {L : zL} {S : List Value} {h : zH} {Q : zR → Prop} {v : Int32} (h0 : z_op M pc = o_if (fun x => x = 0) p2) (h3 : pc + 3 = p3) (h1 : z_op M p3 = o_const 1 (.int 1)) (h4 : p3 + 1 = p4) (h2 : z_op M p4 = o_goto q) (h5 : z_op M p2 = o_const 1 (.int 0)) (hq : p2 + 1 = q) (k : z_E d M q L (.int (z_bi (decide (¬ v = 0))) :: S) h Q) : z_E d M pc L (.int v :: S) h Q := by
  refine e_if h0 h3 (fun c => ?_) (fun c => ?_)
  · refine e_const h5 hq ?_
    rw [decide_eq_false (fun z => z c)] at k
    exact k
  · refine e_const h1 h4 ?_
    refine e_goto h2 ?_
    rw [decide_eq_true c] at k
    exact k
theorem z_vin {i L : Nat} (k : Nat) (h : i + k < L) (hL : L ≤ 3072) : vp_in (nI i + nI k) L := by
  rw [nI_add]
  exact vp_in_nI h (by omega)
theorem c_domain {L i : Nat} {xs : Nat → Int32} {h : zH} {σ : Nat → Nat → Int32} {ρ : Nat → Nat → Option Nat} {Q : zR → Prop} (hI : z_I (.inl (.array .int, L, .inl xs)) h σ ρ) (hi : i + 6 ≤ L) (hL : L ≤ 3072) (kk : ∀ h2 σ2 ρ2, z_I (.inl (.array .int, L, .inl xs)) h2 σ2 ρ2 → h2.2.1 ≤ h.2.1 + 4 → h2.2.2 ≤ h.2.2 + 50 → z_E 1000 115 929 [some (.ref 0), some (.ref 1), some (.ref 18), some (.int (nI i))] [] (z_G h2 σ2 ρ2) Q) :
    z_E 1000 115 124 [some (.ref 0), some (.ref 1), some (.ref 18), some (.int (nI i))] [] (z_G h σ ρ) Q := by
  have hX0 : (z_G h σ ρ).1 0 = some (.inl (.array .int, L, .inl xs)) := by
    obtain ⟨nD, dm, ns, hC, hD, hS, hT, hF⟩ := hI
    exact hF.2.1
  have v1 : vp_in (nI i + 1) L := z_vin 1 (by omega) hL
  have v2 : vp_in (nI i + 2) L := z_vin 2 (by omega) hL
  have v3 : vp_in (nI i + 3) L := z_vin 3 (by omega) hL
  have v4 : vp_in (nI i + 4) L := z_vin 4 (by omega) hL
  have v5 : vp_in (nI i + 5) L := z_vin 5 (by omega) hL
  refine e_aload k115_124 (q := 125) rfl rfl ?_
  refine e_aload k115_125 (q := 126) rfl rfl ?_
  refine e_iload k115_126 (q := 127) rfl rfl ?_
  refine e_const k115_127 (q := 128) rfl ?_
  refine e_ib k115_128 (q := 129) rfl ?_
  refine e_ald k115_129 (q := 130) rfl hX0 (by assumption) ?_
  refine e_aload k115_130 (q := 131) rfl rfl ?_
  refine e_iload k115_131 (q := 132) rfl rfl ?_
  refine e_const k115_132 (q := 133) rfl ?_
  refine e_ib k115_133 (q := 134) rfl ?_
  refine e_ald k115_134 (q := 135) rfl hX0 (by assumption) ?_
  refine e_bool k115_135 rfl k115_138 rfl k115_139 k115_142 rfl ?_
  refine g_cv k115_143 (q := 146) (as := [_, _]) rfl rfl rfl rfl (s_domain hI _ _) rfl (z_ki fun x143 h143 p143 => ?_)
  obtain ⟨⟨hX1, fs1, h18⟩, hm⟩ := p143
  refine e_aload k115_146 (q := 147) rfl rfl ?_
  refine e_aload k115_147 (q := 148) rfl rfl ?_
  refine e_iload k115_148 (q := 149) rfl rfl ?_
  refine e_const k115_149 (q := 150) rfl ?_
  refine e_ib k115_150 (q := 151) rfl ?_
  refine e_ald k115_151 (q := 152) rfl hX1 (by assumption) ?_
  refine e_aload k115_152 (q := 153) rfl rfl ?_
  refine e_iload k115_153 (q := 154) rfl rfl ?_
  refine e_const k115_154 (q := 155) rfl ?_
  refine e_ib k115_155 (q := 156) rfl ?_
  refine e_ald k115_156 (q := 157) rfl hX1 (by assumption) ?_
  refine e_bool k115_157 rfl k115_160 rfl k115_161 k115_164 rfl ?_
  refine e_cv k115_165 (as := [_, _]) rfl rfl h18 (Nat.le_of_ble_eq_true rfl) hm (q := 168) rfl (z_ki fun x165 h165 p165 => ?_)
  obtain ⟨rfl, h2, σ2, ρ2, rfl, hI2, r1, r2⟩ := p165
  refine e_ic k115_168 (q := 171) rfl (fun c168 => ?_) (fun c168 => absurd rfl c168)
  exact kk h2 σ2 ρ2 hI2 r1 r2
theorem c_address {L i : Nat} {xs : Nat → Int32} {h : zH} {σ : Nat → Nat → Int32} {ρ : Nat → Nat → Option Nat} {Q : zR → Prop} (hI : z_I (.inl (.array .int, L, .inl xs)) h σ ρ) (hi : i + 6 ≤ L) (hL : L ≤ 3072) (kk : ∀ h2 σ2 ρ2, z_I (.inl (.array .int, L, .inl xs)) h2 σ2 ρ2 → h2.2.1 ≤ h.2.1 + 4 → h2.2.2 ≤ h.2.2 + 50 → z_E 1000 115 929 [some (.ref 0), some (.ref 1), some (.ref 18), some (.int (nI i))] [] (z_G h2 σ2 ρ2) Q) :
    z_E 1000 115 173 [some (.ref 0), some (.ref 1), some (.ref 18), some (.int (nI i))] [] (z_G h σ ρ) Q := by
  have hX0 : (z_G h σ ρ).1 0 = some (.inl (.array .int, L, .inl xs)) := by
    obtain ⟨nD, dm, ns, hC, hD, hS, hT, hF⟩ := hI
    exact hF.2.1
  have v1 : vp_in (nI i + 1) L := z_vin 1 (by omega) hL
  have v2 : vp_in (nI i + 2) L := z_vin 2 (by omega) hL
  have v3 : vp_in (nI i + 3) L := z_vin 3 (by omega) hL
  have v4 : vp_in (nI i + 4) L := z_vin 4 (by omega) hL
  have v5 : vp_in (nI i + 5) L := z_vin 5 (by omega) hL
  refine e_aload k115_173 (q := 174) rfl rfl ?_
  refine e_aload k115_174 (q := 175) rfl rfl ?_
  refine e_iload k115_175 (q := 176) rfl rfl ?_
  refine e_const k115_176 (q := 177) rfl ?_
  refine e_ib k115_177 (q := 178) rfl ?_
  refine e_ald k115_178 (q := 179) rfl hX0 (by assumption) ?_
  refine e_aload k115_179 (q := 180) rfl rfl ?_
  refine e_iload k115_180 (q := 181) rfl rfl ?_
  refine e_const k115_181 (q := 182) rfl ?_
  refine e_ib k115_182 (q := 183) rfl ?_
  refine e_ald k115_183 (q := 184) rfl hX0 (by assumption) ?_
  refine g_cv k115_184 (q := 187) (as := [_, _]) rfl rfl rfl rfl (s_address hI _ _) rfl (z_ki fun x184 h184 p184 => ?_)
  obtain ⟨⟨hX1, fs1, h18⟩, hm⟩ := p184
  refine e_aload k115_187 (q := 188) rfl rfl ?_
  refine e_aload k115_188 (q := 189) rfl rfl ?_
  refine e_iload k115_189 (q := 190) rfl rfl ?_
  refine e_const k115_190 (q := 191) rfl ?_
  refine e_ib k115_191 (q := 192) rfl ?_
  refine e_ald k115_192 (q := 193) rfl hX1 (by assumption) ?_
  refine e_aload k115_193 (q := 194) rfl rfl ?_
  refine e_iload k115_194 (q := 195) rfl rfl ?_
  refine e_const k115_195 (q := 196) rfl ?_
  refine e_ib k115_196 (q := 197) rfl ?_
  refine e_ald k115_197 (q := 198) rfl hX1 (by assumption) ?_
  refine e_cv k115_198 (as := [_, _]) rfl rfl h18 (Nat.le_of_ble_eq_true rfl) hm (q := 201) rfl (z_ki fun x198 h198 p198 => ?_)
  obtain ⟨rfl, h2, σ2, ρ2, rfl, hI2, r1, r2⟩ := p198
  refine e_ic k115_201 (q := 204) rfl (fun c201 => ?_) (fun c201 => absurd rfl c201)
  exact kk h2 σ2 ρ2 hI2 r1 r2
theorem c_exchanger {L i : Nat} {xs : Nat → Int32} {h : zH} {σ : Nat → Nat → Int32} {ρ : Nat → Nat → Option Nat} {Q : zR → Prop} (hI : z_I (.inl (.array .int, L, .inl xs)) h σ ρ) (hi : i + 6 ≤ L) (hL : L ≤ 3072) (kk : ∀ h2 σ2 ρ2, z_I (.inl (.array .int, L, .inl xs)) h2 σ2 ρ2 → h2.2.1 ≤ h.2.1 + 4 → h2.2.2 ≤ h.2.2 + 50 → z_E 1000 115 929 [some (.ref 0), some (.ref 1), some (.ref 18), some (.int (nI i))] [] (z_G h2 σ2 ρ2) Q) :
    z_E 1000 115 206 [some (.ref 0), some (.ref 1), some (.ref 18), some (.int (nI i))] [] (z_G h σ ρ) Q := by
  have hX0 : (z_G h σ ρ).1 0 = some (.inl (.array .int, L, .inl xs)) := by
    obtain ⟨nD, dm, ns, hC, hD, hS, hT, hF⟩ := hI
    exact hF.2.1
  have v1 : vp_in (nI i + 1) L := z_vin 1 (by omega) hL
  have v2 : vp_in (nI i + 2) L := z_vin 2 (by omega) hL
  have v3 : vp_in (nI i + 3) L := z_vin 3 (by omega) hL
  have v4 : vp_in (nI i + 4) L := z_vin 4 (by omega) hL
  have v5 : vp_in (nI i + 5) L := z_vin 5 (by omega) hL
  refine e_aload k115_206 (q := 207) rfl rfl ?_
  refine e_aload k115_207 (q := 208) rfl rfl ?_
  refine e_iload k115_208 (q := 209) rfl rfl ?_
  refine e_const k115_209 (q := 210) rfl ?_
  refine e_ib k115_210 (q := 211) rfl ?_
  refine e_ald k115_211 (q := 212) rfl hX0 (by assumption) ?_
  refine e_aload k115_212 (q := 213) rfl rfl ?_
  refine e_iload k115_213 (q := 214) rfl rfl ?_
  refine e_const k115_214 (q := 215) rfl ?_
  refine e_ib k115_215 (q := 216) rfl ?_
  refine e_ald k115_216 (q := 217) rfl hX0 (by assumption) ?_
  refine g_cv k115_217 (q := 220) (as := [_, _]) rfl rfl rfl rfl (s_exchanger hI _ _) rfl (z_ki fun x217 h217 p217 => ?_)
  obtain ⟨⟨hX1, fs1, h18⟩, hm⟩ := p217
  refine e_aload k115_220 (q := 221) rfl rfl ?_
  refine e_aload k115_221 (q := 222) rfl rfl ?_
  refine e_iload k115_222 (q := 223) rfl rfl ?_
  refine e_const k115_223 (q := 224) rfl ?_
  refine e_ib k115_224 (q := 225) rfl ?_
  refine e_ald k115_225 (q := 226) rfl hX1 (by assumption) ?_
  refine e_aload k115_226 (q := 227) rfl rfl ?_
  refine e_iload k115_227 (q := 228) rfl rfl ?_
  refine e_const k115_228 (q := 229) rfl ?_
  refine e_ib k115_229 (q := 230) rfl ?_
  refine e_ald k115_230 (q := 231) rfl hX1 (by assumption) ?_
  refine e_cv k115_231 (as := [_, _]) rfl rfl h18 (Nat.le_of_ble_eq_true rfl) hm (q := 234) rfl (z_ki fun x231 h231 p231 => ?_)
  obtain ⟨rfl, h2, σ2, ρ2, rfl, hI2, r1, r2⟩ := p231
  refine e_ic k115_234 (q := 237) rfl (fun c234 => ?_) (fun c234 => absurd rfl c234)
  exact kk h2 σ2 ρ2 hI2 r1 r2
theorem c_term {L i : Nat} {xs : Nat → Int32} {h : zH} {σ : Nat → Nat → Int32} {ρ : Nat → Nat → Option Nat} {Q : zR → Prop} (hI : z_I (.inl (.array .int, L, .inl xs)) h σ ρ) (hi : i + 6 ≤ L) (hL : L ≤ 3072) (kk : ∀ h2 σ2 ρ2, z_I (.inl (.array .int, L, .inl xs)) h2 σ2 ρ2 → h2.2.1 ≤ h.2.1 + 4 → h2.2.2 ≤ h.2.2 + 50 → z_E 1000 115 929 [some (.ref 0), some (.ref 1), some (.ref 18), some (.int (nI i))] [] (z_G h2 σ2 ρ2) Q) :
    z_E 1000 115 239 [some (.ref 0), some (.ref 1), some (.ref 18), some (.int (nI i))] [] (z_G h σ ρ) Q := by
  have hX0 : (z_G h σ ρ).1 0 = some (.inl (.array .int, L, .inl xs)) := by
    obtain ⟨nD, dm, ns, hC, hD, hS, hT, hF⟩ := hI
    exact hF.2.1
  have v1 : vp_in (nI i + 1) L := z_vin 1 (by omega) hL
  have v2 : vp_in (nI i + 2) L := z_vin 2 (by omega) hL
  have v3 : vp_in (nI i + 3) L := z_vin 3 (by omega) hL
  have v4 : vp_in (nI i + 4) L := z_vin 4 (by omega) hL
  have v5 : vp_in (nI i + 5) L := z_vin 5 (by omega) hL
  refine e_aload k115_239 (q := 240) rfl rfl ?_
  refine e_aload k115_240 (q := 241) rfl rfl ?_
  refine e_iload k115_241 (q := 242) rfl rfl ?_
  refine e_const k115_242 (q := 243) rfl ?_
  refine e_ib k115_243 (q := 244) rfl ?_
  refine e_ald k115_244 (q := 245) rfl hX0 (by assumption) ?_
  refine e_aload k115_245 (q := 246) rfl rfl ?_
  refine e_iload k115_246 (q := 247) rfl rfl ?_
  refine e_const k115_247 (q := 248) rfl ?_
  refine e_ib k115_248 (q := 249) rfl ?_
  refine e_ald k115_249 (q := 250) rfl hX0 (by assumption) ?_
  refine e_aload k115_250 (q := 251) rfl rfl ?_
  refine e_iload k115_251 (q := 252) rfl rfl ?_
  refine e_const k115_252 (q := 253) rfl ?_
  refine e_ib k115_253 (q := 254) rfl ?_
  refine e_ald k115_254 (q := 255) rfl hX0 (by assumption) ?_
  refine e_aload k115_255 (q := 256) rfl rfl ?_
  refine e_iload k115_256 (q := 257) rfl rfl ?_
  refine e_const k115_257 (q := 258) rfl ?_
  refine e_ib k115_258 (q := 259) rfl ?_
  refine e_ald k115_259 (q := 260) rfl hX0 (by assumption) ?_
  refine e_aload k115_260 (q := 261) rfl rfl ?_
  refine e_iload k115_261 (q := 262) rfl rfl ?_
  refine e_const k115_262 (q := 263) rfl ?_
  refine e_ib k115_263 (q := 264) rfl ?_
  refine e_ald k115_264 (q := 265) rfl hX0 (by assumption) ?_
  refine g_cv k115_265 (q := 268) (as := [_, _, _, _, _]) rfl rfl rfl rfl (s_term hI _ _ _ _ _) rfl (z_ki fun x265 h265 p265 => ?_)
  obtain ⟨⟨hX1, fs1, h18⟩, hm⟩ := p265
  refine e_aload k115_268 (q := 269) rfl rfl ?_
  refine e_aload k115_269 (q := 270) rfl rfl ?_
  refine e_iload k115_270 (q := 271) rfl rfl ?_
  refine e_const k115_271 (q := 272) rfl ?_
  refine e_ib k115_272 (q := 273) rfl ?_
  refine e_ald k115_273 (q := 274) rfl hX1 (by assumption) ?_
  refine e_aload k115_274 (q := 275) rfl rfl ?_
  refine e_iload k115_275 (q := 276) rfl rfl ?_
  refine e_const k115_276 (q := 277) rfl ?_
  refine e_ib k115_277 (q := 278) rfl ?_
  refine e_ald k115_278 (q := 279) rfl hX1 (by assumption) ?_
  refine e_aload k115_279 (q := 280) rfl rfl ?_
  refine e_iload k115_280 (q := 281) rfl rfl ?_
  refine e_const k115_281 (q := 282) rfl ?_
  refine e_ib k115_282 (q := 283) rfl ?_
  refine e_ald k115_283 (q := 284) rfl hX1 (by assumption) ?_
  refine e_aload k115_284 (q := 285) rfl rfl ?_
  refine e_iload k115_285 (q := 286) rfl rfl ?_
  refine e_const k115_286 (q := 287) rfl ?_
  refine e_ib k115_287 (q := 288) rfl ?_
  refine e_ald k115_288 (q := 289) rfl hX1 (by assumption) ?_
  refine e_aload k115_289 (q := 290) rfl rfl ?_
  refine e_iload k115_290 (q := 291) rfl rfl ?_
  refine e_const k115_291 (q := 292) rfl ?_
  refine e_ib k115_292 (q := 293) rfl ?_
  refine e_ald k115_293 (q := 294) rfl hX1 (by assumption) ?_
  refine e_cv k115_294 (as := [_, _, _, _, _]) rfl rfl h18 (Nat.le_of_ble_eq_true rfl) hm (q := 297) rfl (z_ki fun x294 h294 p294 => ?_)
  obtain ⟨rfl, h2, σ2, ρ2, rfl, hI2, r1, r2⟩ := p294
  refine e_ic k115_297 (q := 300) rfl (fun c297 => ?_) (fun c297 => absurd rfl c297)
  exact kk h2 σ2 ρ2 hI2 r1 r2
theorem c_key {L i : Nat} {xs : Nat → Int32} {h : zH} {σ : Nat → Nat → Int32} {ρ : Nat → Nat → Option Nat} {Q : zR → Prop} (hI : z_I (.inl (.array .int, L, .inl xs)) h σ ρ) (hi : i + 6 ≤ L) (hL : L ≤ 3072) (kk : ∀ h2 σ2 ρ2, z_I (.inl (.array .int, L, .inl xs)) h2 σ2 ρ2 → h2.2.1 ≤ h.2.1 + 4 → h2.2.2 ≤ h.2.2 + 50 → z_E 1000 115 929 [some (.ref 0), some (.ref 1), some (.ref 18), some (.int (nI i))] [] (z_G h2 σ2 ρ2) Q) :
    z_E 1000 115 302 [some (.ref 0), some (.ref 1), some (.ref 18), some (.int (nI i))] [] (z_G h σ ρ) Q := by
  have hX0 : (z_G h σ ρ).1 0 = some (.inl (.array .int, L, .inl xs)) := by
    obtain ⟨nD, dm, ns, hC, hD, hS, hT, hF⟩ := hI
    exact hF.2.1
  have v1 : vp_in (nI i + 1) L := z_vin 1 (by omega) hL
  have v2 : vp_in (nI i + 2) L := z_vin 2 (by omega) hL
  have v3 : vp_in (nI i + 3) L := z_vin 3 (by omega) hL
  have v4 : vp_in (nI i + 4) L := z_vin 4 (by omega) hL
  have v5 : vp_in (nI i + 5) L := z_vin 5 (by omega) hL
  refine e_aload k115_302 (q := 303) rfl rfl ?_
  refine e_aload k115_303 (q := 304) rfl rfl ?_
  refine e_iload k115_304 (q := 305) rfl rfl ?_
  refine e_const k115_305 (q := 306) rfl ?_
  refine e_ib k115_306 (q := 307) rfl ?_
  refine e_ald k115_307 (q := 308) rfl hX0 (by assumption) ?_
  refine e_aload k115_308 (q := 309) rfl rfl ?_
  refine e_iload k115_309 (q := 310) rfl rfl ?_
  refine e_const k115_310 (q := 311) rfl ?_
  refine e_ib k115_311 (q := 312) rfl ?_
  refine e_ald k115_312 (q := 313) rfl hX0 (by assumption) ?_
  refine e_aload k115_313 (q := 314) rfl rfl ?_
  refine e_iload k115_314 (q := 315) rfl rfl ?_
  refine e_const k115_315 (q := 316) rfl ?_
  refine e_ib k115_316 (q := 317) rfl ?_
  refine e_ald k115_317 (q := 318) rfl hX0 (by assumption) ?_
  refine g_cv k115_318 (q := 321) (as := [_, _, _]) rfl rfl rfl rfl (s_key hI _ _ _) rfl (z_ki fun x318 h318 p318 => ?_)
  obtain ⟨⟨hX1, fs1, h18⟩, hm⟩ := p318
  refine e_aload k115_321 (q := 322) rfl rfl ?_
  refine e_aload k115_322 (q := 323) rfl rfl ?_
  refine e_iload k115_323 (q := 324) rfl rfl ?_
  refine e_const k115_324 (q := 325) rfl ?_
  refine e_ib k115_325 (q := 326) rfl ?_
  refine e_ald k115_326 (q := 327) rfl hX1 (by assumption) ?_
  refine e_aload k115_327 (q := 328) rfl rfl ?_
  refine e_iload k115_328 (q := 329) rfl rfl ?_
  refine e_const k115_329 (q := 330) rfl ?_
  refine e_ib k115_330 (q := 331) rfl ?_
  refine e_ald k115_331 (q := 332) rfl hX1 (by assumption) ?_
  refine e_aload k115_332 (q := 333) rfl rfl ?_
  refine e_iload k115_333 (q := 334) rfl rfl ?_
  refine e_const k115_334 (q := 335) rfl ?_
  refine e_ib k115_335 (q := 336) rfl ?_
  refine e_ald k115_336 (q := 337) rfl hX1 (by assumption) ?_
  refine e_cv k115_337 (as := [_, _, _]) rfl rfl h18 (Nat.le_of_ble_eq_true rfl) hm (q := 340) rfl (z_ki fun x337 h337 p337 => ?_)
  obtain ⟨rfl, h2, σ2, ρ2, rfl, hI2, r1, r2⟩ := p337
  refine e_ic k115_340 (q := 343) rfl (fun c340 => ?_) (fun c340 => absurd rfl c340)
  exact kk h2 σ2 ρ2 hI2 r1 r2
theorem c_wish {L i : Nat} {xs : Nat → Int32} {h : zH} {σ : Nat → Nat → Int32} {ρ : Nat → Nat → Option Nat} {Q : zR → Prop} (hI : z_I (.inl (.array .int, L, .inl xs)) h σ ρ) (hi : i + 6 ≤ L) (hL : L ≤ 3072) (kk : ∀ h2 σ2 ρ2, z_I (.inl (.array .int, L, .inl xs)) h2 σ2 ρ2 → h2.2.1 ≤ h.2.1 + 4 → h2.2.2 ≤ h.2.2 + 50 → z_E 1000 115 929 [some (.ref 0), some (.ref 1), some (.ref 18), some (.int (nI i))] [] (z_G h2 σ2 ρ2) Q) :
    z_E 1000 115 345 [some (.ref 0), some (.ref 1), some (.ref 18), some (.int (nI i))] [] (z_G h σ ρ) Q := by
  have hX0 : (z_G h σ ρ).1 0 = some (.inl (.array .int, L, .inl xs)) := by
    obtain ⟨nD, dm, ns, hC, hD, hS, hT, hF⟩ := hI
    exact hF.2.1
  have v1 : vp_in (nI i + 1) L := z_vin 1 (by omega) hL
  have v2 : vp_in (nI i + 2) L := z_vin 2 (by omega) hL
  have v3 : vp_in (nI i + 3) L := z_vin 3 (by omega) hL
  have v4 : vp_in (nI i + 4) L := z_vin 4 (by omega) hL
  have v5 : vp_in (nI i + 5) L := z_vin 5 (by omega) hL
  refine e_aload k115_345 (q := 346) rfl rfl ?_
  refine e_aload k115_346 (q := 347) rfl rfl ?_
  refine e_iload k115_347 (q := 348) rfl rfl ?_
  refine e_const k115_348 (q := 349) rfl ?_
  refine e_ib k115_349 (q := 350) rfl ?_
  refine e_ald k115_350 (q := 351) rfl hX0 (by assumption) ?_
  refine e_aload k115_351 (q := 352) rfl rfl ?_
  refine e_iload k115_352 (q := 353) rfl rfl ?_
  refine e_const k115_353 (q := 354) rfl ?_
  refine e_ib k115_354 (q := 355) rfl ?_
  refine e_ald k115_355 (q := 356) rfl hX0 (by assumption) ?_
  refine e_aload k115_356 (q := 357) rfl rfl ?_
  refine e_iload k115_357 (q := 358) rfl rfl ?_
  refine e_const k115_358 (q := 359) rfl ?_
  refine e_ib k115_359 (q := 360) rfl ?_
  refine e_ald k115_360 (q := 361) rfl hX0 (by assumption) ?_
  refine e_aload k115_361 (q := 362) rfl rfl ?_
  refine e_iload k115_362 (q := 363) rfl rfl ?_
  refine e_const k115_363 (q := 364) rfl ?_
  refine e_ib k115_364 (q := 365) rfl ?_
  refine e_ald k115_365 (q := 366) rfl hX0 (by assumption) ?_
  refine e_bool k115_366 rfl k115_369 rfl k115_370 k115_373 rfl ?_
  refine e_aload k115_374 (q := 375) rfl rfl ?_
  refine e_iload k115_375 (q := 376) rfl rfl ?_
  refine e_const k115_376 (q := 377) rfl ?_
  refine e_ib k115_377 (q := 378) rfl ?_
  refine e_ald k115_378 (q := 379) rfl hX0 (by assumption) ?_
  refine e_bool k115_379 rfl k115_382 rfl k115_383 k115_386 rfl ?_
  refine g_cv k115_387 (q := 390) (as := [_, _, _, _, _]) rfl rfl rfl rfl (s_wish hI _ _ _ _ _) rfl (z_ki fun x387 h387 p387 => ?_)
  obtain ⟨⟨hX1, fs1, h18⟩, hm⟩ := p387
  refine e_aload k115_390 (q := 391) rfl rfl ?_
  refine e_aload k115_391 (q := 392) rfl rfl ?_
  refine e_iload k115_392 (q := 393) rfl rfl ?_
  refine e_const k115_393 (q := 394) rfl ?_
  refine e_ib k115_394 (q := 395) rfl ?_
  refine e_ald k115_395 (q := 396) rfl hX1 (by assumption) ?_
  refine e_aload k115_396 (q := 397) rfl rfl ?_
  refine e_iload k115_397 (q := 398) rfl rfl ?_
  refine e_const k115_398 (q := 399) rfl ?_
  refine e_ib k115_399 (q := 400) rfl ?_
  refine e_ald k115_400 (q := 401) rfl hX1 (by assumption) ?_
  refine e_aload k115_401 (q := 402) rfl rfl ?_
  refine e_iload k115_402 (q := 403) rfl rfl ?_
  refine e_const k115_403 (q := 404) rfl ?_
  refine e_ib k115_404 (q := 405) rfl ?_
  refine e_ald k115_405 (q := 406) rfl hX1 (by assumption) ?_
  refine e_aload k115_406 (q := 407) rfl rfl ?_
  refine e_iload k115_407 (q := 408) rfl rfl ?_
  refine e_const k115_408 (q := 409) rfl ?_
  refine e_ib k115_409 (q := 410) rfl ?_
  refine e_ald k115_410 (q := 411) rfl hX1 (by assumption) ?_
  refine e_bool k115_411 rfl k115_414 rfl k115_415 k115_418 rfl ?_
  refine e_aload k115_419 (q := 420) rfl rfl ?_
  refine e_iload k115_420 (q := 421) rfl rfl ?_
  refine e_const k115_421 (q := 422) rfl ?_
  refine e_ib k115_422 (q := 423) rfl ?_
  refine e_ald k115_423 (q := 424) rfl hX1 (by assumption) ?_
  refine e_bool k115_424 rfl k115_427 rfl k115_428 k115_431 rfl ?_
  refine e_cv k115_432 (as := [_, _, _, _, _]) rfl rfl h18 (Nat.le_of_ble_eq_true rfl) hm (q := 435) rfl (z_ki fun x432 h432 p432 => ?_)
  obtain ⟨rfl, h2, σ2, ρ2, rfl, hI2, r1, r2⟩ := p432
  refine e_ic k115_435 (q := 438) rfl (fun c435 => ?_) (fun c435 => absurd rfl c435)
  exact kk h2 σ2 ρ2 hI2 r1 r2
theorem c_check {L i : Nat} {xs : Nat → Int32} {h : zH} {σ : Nat → Nat → Int32} {ρ : Nat → Nat → Option Nat} {Q : zR → Prop} (hI : z_I (.inl (.array .int, L, .inl xs)) h σ ρ) (hi : i + 6 ≤ L) (hL : L ≤ 3072) (kk : ∀ h2 σ2 ρ2, z_I (.inl (.array .int, L, .inl xs)) h2 σ2 ρ2 → h2.2.1 ≤ h.2.1 + 4 → h2.2.2 ≤ h.2.2 + 50 → z_E 1000 115 929 [some (.ref 0), some (.ref 1), some (.ref 18), some (.int (nI i))] [] (z_G h2 σ2 ρ2) Q) :
    z_E 1000 115 440 [some (.ref 0), some (.ref 1), some (.ref 18), some (.int (nI i))] [] (z_G h σ ρ) Q := by
  have hX0 : (z_G h σ ρ).1 0 = some (.inl (.array .int, L, .inl xs)) := by
    obtain ⟨nD, dm, ns, hC, hD, hS, hT, hF⟩ := hI
    exact hF.2.1
  have v1 : vp_in (nI i + 1) L := z_vin 1 (by omega) hL
  have v2 : vp_in (nI i + 2) L := z_vin 2 (by omega) hL
  have v3 : vp_in (nI i + 3) L := z_vin 3 (by omega) hL
  have v4 : vp_in (nI i + 4) L := z_vin 4 (by omega) hL
  have v5 : vp_in (nI i + 5) L := z_vin 5 (by omega) hL
  refine e_aload k115_440 (q := 441) rfl rfl ?_
  refine e_aload k115_441 (q := 442) rfl rfl ?_
  refine e_iload k115_442 (q := 443) rfl rfl ?_
  refine e_const k115_443 (q := 444) rfl ?_
  refine e_ib k115_444 (q := 445) rfl ?_
  refine e_ald k115_445 (q := 446) rfl hX0 (by assumption) ?_
  refine e_aload k115_446 (q := 447) rfl rfl ?_
  refine e_iload k115_447 (q := 448) rfl rfl ?_
  refine e_const k115_448 (q := 449) rfl ?_
  refine e_ib k115_449 (q := 450) rfl ?_
  refine e_ald k115_450 (q := 451) rfl hX0 (by assumption) ?_
  refine g_cv k115_451 (q := 454) (as := [_, _]) rfl rfl rfl rfl (s_check hI _ _) rfl (z_ki fun x451 h451 p451 => ?_)
  obtain ⟨⟨hX1, fs1, h18⟩, hm⟩ := p451
  refine e_aload k115_454 (q := 455) rfl rfl ?_
  refine e_aload k115_455 (q := 456) rfl rfl ?_
  refine e_iload k115_456 (q := 457) rfl rfl ?_
  refine e_const k115_457 (q := 458) rfl ?_
  refine e_ib k115_458 (q := 459) rfl ?_
  refine e_ald k115_459 (q := 460) rfl hX1 (by assumption) ?_
  refine e_aload k115_460 (q := 461) rfl rfl ?_
  refine e_iload k115_461 (q := 462) rfl rfl ?_
  refine e_const k115_462 (q := 463) rfl ?_
  refine e_ib k115_463 (q := 464) rfl ?_
  refine e_ald k115_464 (q := 465) rfl hX1 (by assumption) ?_
  refine e_cv k115_465 (as := [_, _]) rfl rfl h18 (Nat.le_of_ble_eq_true rfl) hm (q := 468) rfl (z_ki fun x465 h465 p465 => ?_)
  obtain ⟨rfl, h2, σ2, ρ2, rfl, hI2, r1, r2⟩ := p465
  refine e_ic k115_468 (q := 471) rfl (fun c468 => ?_) (fun c468 => absurd rfl c468)
  exact kk h2 σ2 ρ2 hI2 r1 r2
theorem c_queries {L i : Nat} {xs : Nat → Int32} {h : zH} {σ : Nat → Nat → Int32} {ρ : Nat → Nat → Option Nat} {Q : zR → Prop} (hI : z_I (.inl (.array .int, L, .inl xs)) h σ ρ) (hi : i + 6 ≤ L) (hL : L ≤ 3072) (kk : ∀ h2 σ2 ρ2, z_I (.inl (.array .int, L, .inl xs)) h2 σ2 ρ2 → h2.2.1 ≤ h.2.1 + 4 → h2.2.2 ≤ h.2.2 + 50 → z_E 1000 115 929 [some (.ref 0), some (.ref 1), some (.ref 18), some (.int (nI i))] [] (z_G h2 σ2 ρ2) Q) :
    z_E 1000 115 473 [some (.ref 0), some (.ref 1), some (.ref 18), some (.int (nI i))] [] (z_G h σ ρ) Q := by
  have hX0 : (z_G h σ ρ).1 0 = some (.inl (.array .int, L, .inl xs)) := by
    obtain ⟨nD, dm, ns, hC, hD, hS, hT, hF⟩ := hI
    exact hF.2.1
  have v1 : vp_in (nI i + 1) L := z_vin 1 (by omega) hL
  have v2 : vp_in (nI i + 2) L := z_vin 2 (by omega) hL
  have v3 : vp_in (nI i + 3) L := z_vin 3 (by omega) hL
  have v4 : vp_in (nI i + 4) L := z_vin 4 (by omega) hL
  have v5 : vp_in (nI i + 5) L := z_vin 5 (by omega) hL
  refine e_aload k115_473 (q := 474) rfl rfl ?_
  refine g_cv k115_474 (q := 477) (as := []) rfl rfl rfl rfl (s_queries hI ) rfl (z_ki fun x474 h474 p474 => ?_)
  obtain ⟨⟨hX1, fs1, h18⟩, hm⟩ := p474
  refine e_aload k115_477 (q := 478) rfl rfl ?_
  refine e_cv k115_478 (as := []) rfl rfl h18 (Nat.le_of_ble_eq_true rfl) hm (q := 481) rfl (z_ki fun x478 h478 p478 => ?_)
  obtain ⟨rfl, h2, σ2, ρ2, rfl, hI2, r1, r2⟩ := p478
  refine e_ic k115_481 (q := 484) rfl (fun c481 => ?_) (fun c481 => absurd rfl c481)
  exact kk h2 σ2 ρ2 hI2 r1 r2
theorem c_empties {L i : Nat} {xs : Nat → Int32} {h : zH} {σ : Nat → Nat → Int32} {ρ : Nat → Nat → Option Nat} {Q : zR → Prop} (hI : z_I (.inl (.array .int, L, .inl xs)) h σ ρ) (hi : i + 6 ≤ L) (hL : L ≤ 3072) (kk : ∀ h2 σ2 ρ2, z_I (.inl (.array .int, L, .inl xs)) h2 σ2 ρ2 → h2.2.1 ≤ h.2.1 + 4 → h2.2.2 ≤ h.2.2 + 50 → z_E 1000 115 929 [some (.ref 0), some (.ref 1), some (.ref 18), some (.int (nI i))] [] (z_G h2 σ2 ρ2) Q) :
    z_E 1000 115 486 [some (.ref 0), some (.ref 1), some (.ref 18), some (.int (nI i))] [] (z_G h σ ρ) Q := by
  have hX0 : (z_G h σ ρ).1 0 = some (.inl (.array .int, L, .inl xs)) := by
    obtain ⟨nD, dm, ns, hC, hD, hS, hT, hF⟩ := hI
    exact hF.2.1
  have v1 : vp_in (nI i + 1) L := z_vin 1 (by omega) hL
  have v2 : vp_in (nI i + 2) L := z_vin 2 (by omega) hL
  have v3 : vp_in (nI i + 3) L := z_vin 3 (by omega) hL
  have v4 : vp_in (nI i + 4) L := z_vin 4 (by omega) hL
  have v5 : vp_in (nI i + 5) L := z_vin 5 (by omega) hL
  refine e_aload k115_486 (q := 487) rfl rfl ?_
  refine g_cv k115_487 (q := 490) (as := []) rfl rfl rfl rfl (s_empties hI ) rfl (z_ki fun x487 h487 p487 => ?_)
  obtain ⟨⟨hX1, fs1, h18⟩, hm⟩ := p487
  refine e_aload k115_490 (q := 491) rfl rfl ?_
  refine e_cv k115_491 (as := []) rfl rfl h18 (Nat.le_of_ble_eq_true rfl) hm (q := 494) rfl (z_ki fun x491 h491 p491 => ?_)
  obtain ⟨rfl, h2, σ2, ρ2, rfl, hI2, r1, r2⟩ := p491
  refine e_ic k115_494 (q := 497) rfl (fun c494 => ?_) (fun c494 => absurd rfl c494)
  exact kk h2 σ2 ρ2 hI2 r1 r2
theorem c_type {L i : Nat} {xs : Nat → Int32} {h : zH} {σ : Nat → Nat → Int32} {ρ : Nat → Nat → Option Nat} {Q : zR → Prop} (hI : z_I (.inl (.array .int, L, .inl xs)) h σ ρ) (hi : i + 6 ≤ L) (hL : L ≤ 3072) (kk : ∀ h2 σ2 ρ2, z_I (.inl (.array .int, L, .inl xs)) h2 σ2 ρ2 → h2.2.1 ≤ h.2.1 + 4 → h2.2.2 ≤ h.2.2 + 50 → z_E 1000 115 929 [some (.ref 0), some (.ref 1), some (.ref 18), some (.int (nI i))] [] (z_G h2 σ2 ρ2) Q) :
    z_E 1000 115 499 [some (.ref 0), some (.ref 1), some (.ref 18), some (.int (nI i))] [] (z_G h σ ρ) Q := by
  have hX0 : (z_G h σ ρ).1 0 = some (.inl (.array .int, L, .inl xs)) := by
    obtain ⟨nD, dm, ns, hC, hD, hS, hT, hF⟩ := hI
    exact hF.2.1
  have v1 : vp_in (nI i + 1) L := z_vin 1 (by omega) hL
  have v2 : vp_in (nI i + 2) L := z_vin 2 (by omega) hL
  have v3 : vp_in (nI i + 3) L := z_vin 3 (by omega) hL
  have v4 : vp_in (nI i + 4) L := z_vin 4 (by omega) hL
  have v5 : vp_in (nI i + 5) L := z_vin 5 (by omega) hL
  refine e_aload k115_499 (q := 500) rfl rfl ?_
  refine e_aload k115_500 (q := 501) rfl rfl ?_
  refine e_iload k115_501 (q := 502) rfl rfl ?_
  refine e_const k115_502 (q := 503) rfl ?_
  refine e_ib k115_503 (q := 504) rfl ?_
  refine e_ald k115_504 (q := 505) rfl hX0 (by assumption) ?_
  refine e_i1 k115_505 (q := 506) rfl ?_
  refine g_cv k115_506 (q := 509) (as := [_]) rfl rfl rfl rfl (s_type hI _) rfl (z_ki fun x506 h506 p506 => ?_)
  obtain ⟨⟨hX1, fs1, h18⟩, hm⟩ := p506
  refine e_aload k115_509 (q := 510) rfl rfl ?_
  refine e_aload k115_510 (q := 511) rfl rfl ?_
  refine e_iload k115_511 (q := 512) rfl rfl ?_
  refine e_const k115_512 (q := 513) rfl ?_
  refine e_ib k115_513 (q := 514) rfl ?_
  refine e_ald k115_514 (q := 515) rfl hX1 (by assumption) ?_
  refine e_i1 k115_515 (q := 516) rfl ?_
  refine e_cv k115_516 (as := [_]) rfl rfl h18 (Nat.le_of_ble_eq_true rfl) hm (q := 519) rfl (z_ki fun x516 h516 p516 => ?_)
  obtain ⟨rfl, h2, σ2, ρ2, rfl, hI2, r1, r2⟩ := p516
  refine e_ic k115_519 (q := 522) rfl (fun c519 => ?_) (fun c519 => absurd rfl c519)
  exact kk h2 σ2 ρ2 hI2 r1 r2
theorem c_list {L i : Nat} {xs : Nat → Int32} {h : zH} {σ : Nat → Nat → Int32} {ρ : Nat → Nat → Option Nat} {Q : zR → Prop} (hI : z_I (.inl (.array .int, L, .inl xs)) h σ ρ) (hi : i + 6 ≤ L) (hL : L ≤ 3072) (kk : ∀ h2 σ2 ρ2, z_I (.inl (.array .int, L, .inl xs)) h2 σ2 ρ2 → h2.2.1 ≤ h.2.1 + 4 → h2.2.2 ≤ h.2.2 + 50 → z_E 1000 115 929 [some (.ref 0), some (.ref 1), some (.ref 18), some (.int (nI i))] [] (z_G h2 σ2 ρ2) Q) :
    z_E 1000 115 524 [some (.ref 0), some (.ref 1), some (.ref 18), some (.int (nI i))] [] (z_G h σ ρ) Q := by
  have hX0 : (z_G h σ ρ).1 0 = some (.inl (.array .int, L, .inl xs)) := by
    obtain ⟨nD, dm, ns, hC, hD, hS, hT, hF⟩ := hI
    exact hF.2.1
  have v1 : vp_in (nI i + 1) L := z_vin 1 (by omega) hL
  have v2 : vp_in (nI i + 2) L := z_vin 2 (by omega) hL
  have v3 : vp_in (nI i + 3) L := z_vin 3 (by omega) hL
  have v4 : vp_in (nI i + 4) L := z_vin 4 (by omega) hL
  have v5 : vp_in (nI i + 5) L := z_vin 5 (by omega) hL
  refine e_aload k115_524 (q := 525) rfl rfl ?_
  refine e_aload k115_525 (q := 526) rfl rfl ?_
  refine e_iload k115_526 (q := 527) rfl rfl ?_
  refine e_const k115_527 (q := 528) rfl ?_
  refine e_ib k115_528 (q := 529) rfl ?_
  refine e_ald k115_529 (q := 530) rfl hX0 (by assumption) ?_
  refine e_i1 k115_530 (q := 531) rfl ?_
  refine g_cv k115_531 (q := 534) (as := [_]) rfl rfl rfl rfl (s_list hI _) rfl (z_ki fun x531 h531 p531 => ?_)
  obtain ⟨⟨hX1, fs1, h18⟩, hm⟩ := p531
  refine e_aload k115_534 (q := 535) rfl rfl ?_
  refine e_aload k115_535 (q := 536) rfl rfl ?_
  refine e_iload k115_536 (q := 537) rfl rfl ?_
  refine e_const k115_537 (q := 538) rfl ?_
  refine e_ib k115_538 (q := 539) rfl ?_
  refine e_ald k115_539 (q := 540) rfl hX1 (by assumption) ?_
  refine e_i1 k115_540 (q := 541) rfl ?_
  refine e_cv k115_541 (as := [_]) rfl rfl h18 (Nat.le_of_ble_eq_true rfl) hm (q := 544) rfl (z_ki fun x541 h541 p541 => ?_)
  obtain ⟨rfl, h2, σ2, ρ2, rfl, hI2, r1, r2⟩ := p541
  refine e_ic k115_544 (q := 547) rfl (fun c544 => ?_) (fun c544 => absurd rfl c544)
  exact kk h2 σ2 ρ2 hI2 r1 r2
theorem c_clear {L i : Nat} {xs : Nat → Int32} {h : zH} {σ : Nat → Nat → Int32} {ρ : Nat → Nat → Option Nat} {Q : zR → Prop} (hI : z_I (.inl (.array .int, L, .inl xs)) h σ ρ) (hi : i + 6 ≤ L) (hL : L ≤ 3072) (kk : ∀ h2 σ2 ρ2, z_I (.inl (.array .int, L, .inl xs)) h2 σ2 ρ2 → h2.2.1 ≤ h.2.1 + 4 → h2.2.2 ≤ h.2.2 + 50 → z_E 1000 115 929 [some (.ref 0), some (.ref 1), some (.ref 18), some (.int (nI i))] [] (z_G h2 σ2 ρ2) Q) :
    z_E 1000 115 549 [some (.ref 0), some (.ref 1), some (.ref 18), some (.int (nI i))] [] (z_G h σ ρ) Q := by
  have hX0 : (z_G h σ ρ).1 0 = some (.inl (.array .int, L, .inl xs)) := by
    obtain ⟨nD, dm, ns, hC, hD, hS, hT, hF⟩ := hI
    exact hF.2.1
  have v1 : vp_in (nI i + 1) L := z_vin 1 (by omega) hL
  have v2 : vp_in (nI i + 2) L := z_vin 2 (by omega) hL
  have v3 : vp_in (nI i + 3) L := z_vin 3 (by omega) hL
  have v4 : vp_in (nI i + 4) L := z_vin 4 (by omega) hL
  have v5 : vp_in (nI i + 5) L := z_vin 5 (by omega) hL
  refine e_aload k115_549 (q := 550) rfl rfl ?_
  refine g_cv k115_550 (q := 553) (as := []) rfl rfl rfl rfl (s_clear hI ) rfl (z_kv fun h550 p550 => ?_)
  obtain ⟨⟨hX1, fs1, h18⟩, hm⟩ := p550
  refine e_aload k115_553 (q := 554) rfl rfl ?_
  refine e_cv k115_554 (as := []) rfl rfl h18 (Nat.le_of_ble_eq_true rfl) hm (q := 557) rfl (z_kv fun h554 p554 => ?_)
  obtain ⟨h2, σ2, ρ2, rfl, hI2, r1, r2⟩ := p554
  refine e_goto k115_557 ?_
  exact kk h2 σ2 ρ2 hI2 r1 r2
theorem c_fields {L i : Nat} {xs : Nat → Int32} {h : zH} {σ : Nat → Nat → Int32} {ρ : Nat → Nat → Option Nat} {Q : zR → Prop} (hI : z_I (.inl (.array .int, L, .inl xs)) h σ ρ) (hi : i + 6 ≤ L) (hL : L ≤ 3072) (kk : ∀ h2 σ2 ρ2, z_I (.inl (.array .int, L, .inl xs)) h2 σ2 ρ2 → h2.2.1 ≤ h.2.1 + 4 → h2.2.2 ≤ h.2.2 + 50 → z_E 1000 115 929 [some (.ref 0), some (.ref 1), some (.ref 18), some (.int (nI i))] [] (z_G h2 σ2 ρ2) Q) :
    z_E 1000 115 560 [some (.ref 0), some (.ref 1), some (.ref 18), some (.int (nI i))] [] (z_G h σ ρ) Q := by
  have hX0 : (z_G h σ ρ).1 0 = some (.inl (.array .int, L, .inl xs)) := by
    obtain ⟨nD, dm, ns, hC, hD, hS, hT, hF⟩ := hI
    exact hF.2.1
  have v1 : vp_in (nI i + 1) L := z_vin 1 (by omega) hL
  have v2 : vp_in (nI i + 2) L := z_vin 2 (by omega) hL
  have v3 : vp_in (nI i + 3) L := z_vin 3 (by omega) hL
  have v4 : vp_in (nI i + 4) L := z_vin 4 (by omega) hL
  have v5 : vp_in (nI i + 5) L := z_vin 5 (by omega) hL
  refine e_aload k115_560 (q := 561) rfl rfl ?_
  refine g_cv k115_561 (q := 564) (as := []) rfl rfl rfl rfl (s_fields hI ) rfl (z_ki fun x561 h561 p561 => ?_)
  obtain ⟨⟨hX1, fs1, h18⟩, hm⟩ := p561
  refine e_aload k115_564 (q := 565) rfl rfl ?_
  refine e_cv k115_565 (as := []) rfl rfl h18 (Nat.le_of_ble_eq_true rfl) hm (q := 568) rfl (z_ki fun x565 h565 p565 => ?_)
  obtain ⟨rfl, h2, σ2, ρ2, rfl, hI2, r1, r2⟩ := p565
  refine e_ic k115_568 (q := 571) rfl (fun c568 => ?_) (fun c568 => absurd rfl c568)
  exact kk h2 σ2 ρ2 hI2 r1 r2
theorem c_length {L i : Nat} {xs : Nat → Int32} {h : zH} {σ : Nat → Nat → Int32} {ρ : Nat → Nat → Option Nat} {Q : zR → Prop} (hI : z_I (.inl (.array .int, L, .inl xs)) h σ ρ) (hi : i + 6 ≤ L) (hL : L ≤ 3072) (kk : ∀ h2 σ2 ρ2, z_I (.inl (.array .int, L, .inl xs)) h2 σ2 ρ2 → h2.2.1 ≤ h.2.1 + 4 → h2.2.2 ≤ h.2.2 + 50 → z_E 1000 115 929 [some (.ref 0), some (.ref 1), some (.ref 18), some (.int (nI i))] [] (z_G h2 σ2 ρ2) Q) :
    z_E 1000 115 573 [some (.ref 0), some (.ref 1), some (.ref 18), some (.int (nI i))] [] (z_G h σ ρ) Q := by
  have hX0 : (z_G h σ ρ).1 0 = some (.inl (.array .int, L, .inl xs)) := by
    obtain ⟨nD, dm, ns, hC, hD, hS, hT, hF⟩ := hI
    exact hF.2.1
  have v1 : vp_in (nI i + 1) L := z_vin 1 (by omega) hL
  have v2 : vp_in (nI i + 2) L := z_vin 2 (by omega) hL
  have v3 : vp_in (nI i + 3) L := z_vin 3 (by omega) hL
  have v4 : vp_in (nI i + 4) L := z_vin 4 (by omega) hL
  have v5 : vp_in (nI i + 5) L := z_vin 5 (by omega) hL
  refine e_aload k115_573 (q := 574) rfl rfl ?_
  refine e_aload k115_574 (q := 575) rfl rfl ?_
  refine e_iload k115_575 (q := 576) rfl rfl ?_
  refine e_const k115_576 (q := 577) rfl ?_
  refine e_ib k115_577 (q := 578) rfl ?_
  refine e_ald k115_578 (q := 579) rfl hX0 (by assumption) ?_
  refine e_bool k115_579 rfl k115_582 rfl k115_583 k115_586 rfl ?_
  refine e_aload k115_587 (q := 588) rfl rfl ?_
  refine e_iload k115_588 (q := 589) rfl rfl ?_
  refine e_const k115_589 (q := 590) rfl ?_
  refine e_ib k115_590 (q := 591) rfl ?_
  refine e_ald k115_591 (q := 592) rfl hX0 (by assumption) ?_
  refine e_bool k115_592 rfl k115_595 rfl k115_596 k115_599 rfl ?_
  refine g_cv k115_600 (q := 603) (as := [_, _]) rfl rfl rfl rfl (s_length hI _ _) rfl (z_ki fun x600 h600 p600 => ?_)
  obtain ⟨⟨hX1, fs1, h18⟩, hm⟩ := p600
  refine e_aload k115_603 (q := 604) rfl rfl ?_
  refine e_aload k115_604 (q := 605) rfl rfl ?_
  refine e_iload k115_605 (q := 606) rfl rfl ?_
  refine e_const k115_606 (q := 607) rfl ?_
  refine e_ib k115_607 (q := 608) rfl ?_
  refine e_ald k115_608 (q := 609) rfl hX1 (by assumption) ?_
  refine e_bool k115_609 rfl k115_612 rfl k115_613 k115_616 rfl ?_
  refine e_aload k115_617 (q := 618) rfl rfl ?_
  refine e_iload k115_618 (q := 619) rfl rfl ?_
  refine e_const k115_619 (q := 620) rfl ?_
  refine e_ib k115_620 (q := 621) rfl ?_
  refine e_ald k115_621 (q := 622) rfl hX1 (by assumption) ?_
  refine e_bool k115_622 rfl k115_625 rfl k115_626 k115_629 rfl ?_
  refine e_cv k115_630 (as := [_, _]) rfl rfl h18 (Nat.le_of_ble_eq_true rfl) hm (q := 633) rfl (z_ki fun x630 h630 p630 => ?_)
  obtain ⟨rfl, h2, σ2, ρ2, rfl, hI2, r1, r2⟩ := p630
  refine e_ic k115_633 (q := 636) rfl (fun c633 => ?_) (fun c633 => absurd rfl c633)
  exact kk h2 σ2 ρ2 hI2 r1 r2
theorem c_at {L i : Nat} {xs : Nat → Int32} {h : zH} {σ : Nat → Nat → Int32} {ρ : Nat → Nat → Option Nat} {Q : zR → Prop} (hI : z_I (.inl (.array .int, L, .inl xs)) h σ ρ) (hi : i + 6 ≤ L) (hL : L ≤ 3072) (kk : ∀ h2 σ2 ρ2, z_I (.inl (.array .int, L, .inl xs)) h2 σ2 ρ2 → h2.2.1 ≤ h.2.1 + 4 → h2.2.2 ≤ h.2.2 + 50 → z_E 1000 115 929 [some (.ref 0), some (.ref 1), some (.ref 18), some (.int (nI i))] [] (z_G h2 σ2 ρ2) Q) :
    z_E 1000 115 638 [some (.ref 0), some (.ref 1), some (.ref 18), some (.int (nI i))] [] (z_G h σ ρ) Q := by
  have hX0 : (z_G h σ ρ).1 0 = some (.inl (.array .int, L, .inl xs)) := by
    obtain ⟨nD, dm, ns, hC, hD, hS, hT, hF⟩ := hI
    exact hF.2.1
  have v1 : vp_in (nI i + 1) L := z_vin 1 (by omega) hL
  have v2 : vp_in (nI i + 2) L := z_vin 2 (by omega) hL
  have v3 : vp_in (nI i + 3) L := z_vin 3 (by omega) hL
  have v4 : vp_in (nI i + 4) L := z_vin 4 (by omega) hL
  have v5 : vp_in (nI i + 5) L := z_vin 5 (by omega) hL
  refine e_aload k115_638 (q := 639) rfl rfl ?_
  refine e_aload k115_639 (q := 640) rfl rfl ?_
  refine e_iload k115_640 (q := 641) rfl rfl ?_
  refine e_const k115_641 (q := 642) rfl ?_
  refine e_ib k115_642 (q := 643) rfl ?_
  refine e_ald k115_643 (q := 644) rfl hX0 (by assumption) ?_
  refine e_bool k115_644 rfl k115_647 rfl k115_648 k115_651 rfl ?_
  refine e_aload k115_652 (q := 653) rfl rfl ?_
  refine e_iload k115_653 (q := 654) rfl rfl ?_
  refine e_const k115_654 (q := 655) rfl ?_
  refine e_ib k115_655 (q := 656) rfl ?_
  refine e_ald k115_656 (q := 657) rfl hX0 (by assumption) ?_
  refine e_bool k115_657 rfl k115_660 rfl k115_661 k115_664 rfl ?_
  refine e_aload k115_665 (q := 666) rfl rfl ?_
  refine e_iload k115_666 (q := 667) rfl rfl ?_
  refine e_const k115_667 (q := 668) rfl ?_
  refine e_ib k115_668 (q := 669) rfl ?_
  refine e_ald k115_669 (q := 670) rfl hX0 (by assumption) ?_
  refine g_cv k115_670 (q := 673) (as := [_, _, _]) rfl rfl rfl rfl (s_at hI _ _ _) rfl (z_ki fun x670 h670 p670 => ?_)
  obtain ⟨⟨hX1, fs1, h18⟩, hm⟩ := p670
  refine e_aload k115_673 (q := 674) rfl rfl ?_
  refine e_aload k115_674 (q := 675) rfl rfl ?_
  refine e_iload k115_675 (q := 676) rfl rfl ?_
  refine e_const k115_676 (q := 677) rfl ?_
  refine e_ib k115_677 (q := 678) rfl ?_
  refine e_ald k115_678 (q := 679) rfl hX1 (by assumption) ?_
  refine e_bool k115_679 rfl k115_682 rfl k115_683 k115_686 rfl ?_
  refine e_aload k115_687 (q := 688) rfl rfl ?_
  refine e_iload k115_688 (q := 689) rfl rfl ?_
  refine e_const k115_689 (q := 690) rfl ?_
  refine e_ib k115_690 (q := 691) rfl ?_
  refine e_ald k115_691 (q := 692) rfl hX1 (by assumption) ?_
  refine e_bool k115_692 rfl k115_695 rfl k115_696 k115_699 rfl ?_
  refine e_aload k115_700 (q := 701) rfl rfl ?_
  refine e_iload k115_701 (q := 702) rfl rfl ?_
  refine e_const k115_702 (q := 703) rfl ?_
  refine e_ib k115_703 (q := 704) rfl ?_
  refine e_ald k115_704 (q := 705) rfl hX1 (by assumption) ?_
  refine e_cv k115_705 (as := [_, _, _]) rfl rfl h18 (Nat.le_of_ble_eq_true rfl) hm (q := 708) rfl (z_ki fun x705 h705 p705 => ?_)
  obtain ⟨rfl, h2, σ2, ρ2, rfl, hI2, r1, r2⟩ := p705
  refine e_ic k115_708 (q := 711) rfl (fun c708 => ?_) (fun c708 => absurd rfl c708)
  exact kk h2 σ2 ρ2 hI2 r1 r2
theorem c_digest {L i : Nat} {xs : Nat → Int32} {h : zH} {σ : Nat → Nat → Int32} {ρ : Nat → Nat → Option Nat} {Q : zR → Prop} (hI : z_I (.inl (.array .int, L, .inl xs)) h σ ρ) (hi : i + 6 ≤ L) (hL : L ≤ 3072) (kk : ∀ h2 σ2 ρ2, z_I (.inl (.array .int, L, .inl xs)) h2 σ2 ρ2 → h2.2.1 ≤ h.2.1 + 4 → h2.2.2 ≤ h.2.2 + 50 → z_E 1000 115 929 [some (.ref 0), some (.ref 1), some (.ref 18), some (.int (nI i))] [] (z_G h2 σ2 ρ2) Q) :
    z_E 1000 115 713 [some (.ref 0), some (.ref 1), some (.ref 18), some (.int (nI i))] [] (z_G h σ ρ) Q := by
  have hX0 : (z_G h σ ρ).1 0 = some (.inl (.array .int, L, .inl xs)) := by
    obtain ⟨nD, dm, ns, hC, hD, hS, hT, hF⟩ := hI
    exact hF.2.1
  have v1 : vp_in (nI i + 1) L := z_vin 1 (by omega) hL
  have v2 : vp_in (nI i + 2) L := z_vin 2 (by omega) hL
  have v3 : vp_in (nI i + 3) L := z_vin 3 (by omega) hL
  have v4 : vp_in (nI i + 4) L := z_vin 4 (by omega) hL
  have v5 : vp_in (nI i + 5) L := z_vin 5 (by omega) hL
  refine e_aload k115_713 (q := 714) rfl rfl ?_
  refine e_aload k115_714 (q := 715) rfl rfl ?_
  refine e_iload k115_715 (q := 716) rfl rfl ?_
  refine e_const k115_716 (q := 717) rfl ?_
  refine e_ib k115_717 (q := 718) rfl ?_
  refine e_ald k115_718 (q := 719) rfl hX0 (by assumption) ?_
  refine e_bool k115_719 rfl k115_722 rfl k115_723 k115_726 rfl ?_
  refine e_aload k115_727 (q := 728) rfl rfl ?_
  refine e_iload k115_728 (q := 729) rfl rfl ?_
  refine e_const k115_729 (q := 730) rfl ?_
  refine e_ib k115_730 (q := 731) rfl ?_
  refine e_ald k115_731 (q := 732) rfl hX0 (by assumption) ?_
  refine e_bool k115_732 rfl k115_735 rfl k115_736 k115_739 rfl ?_
  refine g_cv k115_740 (q := 743) (as := [_, _]) rfl rfl rfl rfl (s_digest hI _ _) rfl (z_ki fun x740 h740 p740 => ?_)
  obtain ⟨⟨hX1, fs1, h18⟩, hm⟩ := p740
  refine e_aload k115_743 (q := 744) rfl rfl ?_
  refine e_aload k115_744 (q := 745) rfl rfl ?_
  refine e_iload k115_745 (q := 746) rfl rfl ?_
  refine e_const k115_746 (q := 747) rfl ?_
  refine e_ib k115_747 (q := 748) rfl ?_
  refine e_ald k115_748 (q := 749) rfl hX1 (by assumption) ?_
  refine e_bool k115_749 rfl k115_752 rfl k115_753 k115_756 rfl ?_
  refine e_aload k115_757 (q := 758) rfl rfl ?_
  refine e_iload k115_758 (q := 759) rfl rfl ?_
  refine e_const k115_759 (q := 760) rfl ?_
  refine e_ib k115_760 (q := 761) rfl ?_
  refine e_ald k115_761 (q := 762) rfl hX1 (by assumption) ?_
  refine e_bool k115_762 rfl k115_765 rfl k115_766 k115_769 rfl ?_
  refine e_cv k115_770 (as := [_, _]) rfl rfl h18 (Nat.le_of_ble_eq_true rfl) hm (q := 773) rfl (z_ki fun x770 h770 p770 => ?_)
  obtain ⟨rfl, h2, σ2, ρ2, rfl, hI2, r1, r2⟩ := p770
  refine e_ic k115_773 (q := 776) rfl (fun c773 => ?_) (fun c773 => absurd rfl c773)
  exact kk h2 σ2 ρ2 hI2 r1 r2
theorem c_sign {L i : Nat} {xs : Nat → Int32} {h : zH} {σ : Nat → Nat → Int32} {ρ : Nat → Nat → Option Nat} {Q : zR → Prop} (hI : z_I (.inl (.array .int, L, .inl xs)) h σ ρ) (hi : i + 6 ≤ L) (hL : L ≤ 3072) (kk : ∀ h2 σ2 ρ2, z_I (.inl (.array .int, L, .inl xs)) h2 σ2 ρ2 → h2.2.1 ≤ h.2.1 + 4 → h2.2.2 ≤ h.2.2 + 50 → z_E 1000 115 929 [some (.ref 0), some (.ref 1), some (.ref 18), some (.int (nI i))] [] (z_G h2 σ2 ρ2) Q) :
    z_E 1000 115 778 [some (.ref 0), some (.ref 1), some (.ref 18), some (.int (nI i))] [] (z_G h σ ρ) Q := by
  have hX0 : (z_G h σ ρ).1 0 = some (.inl (.array .int, L, .inl xs)) := by
    obtain ⟨nD, dm, ns, hC, hD, hS, hT, hF⟩ := hI
    exact hF.2.1
  have v1 : vp_in (nI i + 1) L := z_vin 1 (by omega) hL
  have v2 : vp_in (nI i + 2) L := z_vin 2 (by omega) hL
  have v3 : vp_in (nI i + 3) L := z_vin 3 (by omega) hL
  have v4 : vp_in (nI i + 4) L := z_vin 4 (by omega) hL
  have v5 : vp_in (nI i + 5) L := z_vin 5 (by omega) hL
  refine e_aload k115_778 (q := 779) rfl rfl ?_
  refine e_aload k115_779 (q := 780) rfl rfl ?_
  refine e_iload k115_780 (q := 781) rfl rfl ?_
  refine e_const k115_781 (q := 782) rfl ?_
  refine e_ib k115_782 (q := 783) rfl ?_
  refine e_ald k115_783 (q := 784) rfl hX0 (by assumption) ?_
  refine e_aload k115_784 (q := 785) rfl rfl ?_
  refine e_iload k115_785 (q := 786) rfl rfl ?_
  refine e_const k115_786 (q := 787) rfl ?_
  refine e_ib k115_787 (q := 788) rfl ?_
  refine e_ald k115_788 (q := 789) rfl hX0 (by assumption) ?_
  refine e_bool k115_789 rfl k115_792 rfl k115_793 k115_796 rfl ?_
  refine e_aload k115_797 (q := 798) rfl rfl ?_
  refine e_iload k115_798 (q := 799) rfl rfl ?_
  refine e_const k115_799 (q := 800) rfl ?_
  refine e_ib k115_800 (q := 801) rfl ?_
  refine e_ald k115_801 (q := 802) rfl hX0 (by assumption) ?_
  refine e_bool k115_802 rfl k115_805 rfl k115_806 k115_809 rfl ?_
  refine e_aload k115_810 (q := 811) rfl rfl ?_
  refine e_iload k115_811 (q := 812) rfl rfl ?_
  refine e_const k115_812 (q := 813) rfl ?_
  refine e_ib k115_813 (q := 814) rfl ?_
  refine e_ald k115_814 (q := 815) rfl hX0 (by assumption) ?_
  refine g_cv k115_815 (q := 818) (as := [_, _, _, _]) rfl rfl rfl rfl (s_sign hI _ _ _ _) rfl (z_ki fun x815 h815 p815 => ?_)
  obtain ⟨⟨hX1, fs1, h18⟩, hm⟩ := p815
  refine e_aload k115_818 (q := 819) rfl rfl ?_
  refine e_aload k115_819 (q := 820) rfl rfl ?_
  refine e_iload k115_820 (q := 821) rfl rfl ?_
  refine e_const k115_821 (q := 822) rfl ?_
  refine e_ib k115_822 (q := 823) rfl ?_
  refine e_ald k115_823 (q := 824) rfl hX1 (by assumption) ?_
  refine e_aload k115_824 (q := 825) rfl rfl ?_
  refine e_iload k115_825 (q := 826) rfl rfl ?_
  refine e_const k115_826 (q := 827) rfl ?_
  refine e_ib k115_827 (q := 828) rfl ?_
  refine e_ald k115_828 (q := 829) rfl hX1 (by assumption) ?_
  refine e_bool k115_829 rfl k115_832 rfl k115_833 k115_836 rfl ?_
  refine e_aload k115_837 (q := 838) rfl rfl ?_
  refine e_iload k115_838 (q := 839) rfl rfl ?_
  refine e_const k115_839 (q := 840) rfl ?_
  refine e_ib k115_840 (q := 841) rfl ?_
  refine e_ald k115_841 (q := 842) rfl hX1 (by assumption) ?_
  refine e_bool k115_842 rfl k115_845 rfl k115_846 k115_849 rfl ?_
  refine e_aload k115_850 (q := 851) rfl rfl ?_
  refine e_iload k115_851 (q := 852) rfl rfl ?_
  refine e_const k115_852 (q := 853) rfl ?_
  refine e_ib k115_853 (q := 854) rfl ?_
  refine e_ald k115_854 (q := 855) rfl hX1 (by assumption) ?_
  refine e_cv k115_855 (as := [_, _, _, _]) rfl rfl h18 (Nat.le_of_ble_eq_true rfl) hm (q := 858) rfl (z_ki fun x855 h855 p855 => ?_)
  obtain ⟨rfl, h2, σ2, ρ2, rfl, hI2, r1, r2⟩ := p855
  refine e_ic k115_858 (q := 861) rfl (fun c858 => ?_) (fun c858 => absurd rfl c858)
  exact kk h2 σ2 ρ2 hI2 r1 r2
theorem c_holds {L i : Nat} {xs : Nat → Int32} {h : zH} {σ : Nat → Nat → Int32} {ρ : Nat → Nat → Option Nat} {Q : zR → Prop} (hI : z_I (.inl (.array .int, L, .inl xs)) h σ ρ) (hi : i + 6 ≤ L) (hL : L ≤ 3072) (kk : ∀ h2 σ2 ρ2, z_I (.inl (.array .int, L, .inl xs)) h2 σ2 ρ2 → h2.2.1 ≤ h.2.1 + 4 → h2.2.2 ≤ h.2.2 + 50 → z_E 1000 115 929 [some (.ref 0), some (.ref 1), some (.ref 18), some (.int (nI i))] [] (z_G h2 σ2 ρ2) Q) :
    z_E 1000 115 863 [some (.ref 0), some (.ref 1), some (.ref 18), some (.int (nI i))] [] (z_G h σ ρ) Q := by
  have hX0 : (z_G h σ ρ).1 0 = some (.inl (.array .int, L, .inl xs)) := by
    obtain ⟨nD, dm, ns, hC, hD, hS, hT, hF⟩ := hI
    exact hF.2.1
  have v1 : vp_in (nI i + 1) L := z_vin 1 (by omega) hL
  have v2 : vp_in (nI i + 2) L := z_vin 2 (by omega) hL
  have v3 : vp_in (nI i + 3) L := z_vin 3 (by omega) hL
  have v4 : vp_in (nI i + 4) L := z_vin 4 (by omega) hL
  have v5 : vp_in (nI i + 5) L := z_vin 5 (by omega) hL
  refine e_aload k115_863 (q := 864) rfl rfl ?_
  refine e_aload k115_864 (q := 865) rfl rfl ?_
  refine e_iload k115_865 (q := 866) rfl rfl ?_
  refine e_const k115_866 (q := 867) rfl ?_
  refine e_ib k115_867 (q := 868) rfl ?_
  refine e_ald k115_868 (q := 869) rfl hX0 (by assumption) ?_
  refine g_cv k115_869 (q := 872) (as := [_]) rfl rfl rfl rfl (s_holds hI _) rfl (z_ki fun x869 h869 p869 => ?_)
  obtain ⟨⟨hX1, fs1, h18⟩, hm⟩ := p869
  refine e_aload k115_872 (q := 873) rfl rfl ?_
  refine e_aload k115_873 (q := 874) rfl rfl ?_
  refine e_iload k115_874 (q := 875) rfl rfl ?_
  refine e_const k115_875 (q := 876) rfl ?_
  refine e_ib k115_876 (q := 877) rfl ?_
  refine e_ald k115_877 (q := 878) rfl hX1 (by assumption) ?_
  refine e_cv k115_878 (as := [_]) rfl rfl h18 (Nat.le_of_ble_eq_true rfl) hm (q := 881) rfl (z_ki fun x878 h878 p878 => ?_)
  obtain ⟨rfl, h2, σ2, ρ2, rfl, hI2, r1, r2⟩ := p878
  refine e_ic k115_881 (q := 884) rfl (fun c881 => ?_) (fun c881 => absurd rfl c881)
  exact kk h2 σ2 ρ2 hI2 r1 r2
theorem c_verdict {L i : Nat} {xs : Nat → Int32} {h : zH} {σ : Nat → Nat → Int32} {ρ : Nat → Nat → Option Nat} {Q : zR → Prop} (hI : z_I (.inl (.array .int, L, .inl xs)) h σ ρ) (hi : i + 6 ≤ L) (hL : L ≤ 3072) (kk : ∀ h2 σ2 ρ2, z_I (.inl (.array .int, L, .inl xs)) h2 σ2 ρ2 → h2.2.1 ≤ h.2.1 + 4 → h2.2.2 ≤ h.2.2 + 50 → z_E 1000 115 929 [some (.ref 0), some (.ref 1), some (.ref 18), some (.int (nI i))] [] (z_G h2 σ2 ρ2) Q) :
    z_E 1000 115 886 [some (.ref 0), some (.ref 1), some (.ref 18), some (.int (nI i))] [] (z_G h σ ρ) Q := by
  have hX0 : (z_G h σ ρ).1 0 = some (.inl (.array .int, L, .inl xs)) := by
    obtain ⟨nD, dm, ns, hC, hD, hS, hT, hF⟩ := hI
    exact hF.2.1
  have v1 : vp_in (nI i + 1) L := z_vin 1 (by omega) hL
  have v2 : vp_in (nI i + 2) L := z_vin 2 (by omega) hL
  have v3 : vp_in (nI i + 3) L := z_vin 3 (by omega) hL
  have v4 : vp_in (nI i + 4) L := z_vin 4 (by omega) hL
  have v5 : vp_in (nI i + 5) L := z_vin 5 (by omega) hL
  refine e_aload k115_886 (q := 887) rfl rfl ?_
  refine e_aload k115_887 (q := 888) rfl rfl ?_
  refine e_iload k115_888 (q := 889) rfl rfl ?_
  refine e_const k115_889 (q := 890) rfl ?_
  refine e_ib k115_890 (q := 891) rfl ?_
  refine e_ald k115_891 (q := 892) rfl hX0 (by assumption) ?_
  refine e_aload k115_892 (q := 893) rfl rfl ?_
  refine e_iload k115_893 (q := 894) rfl rfl ?_
  refine e_const k115_894 (q := 895) rfl ?_
  refine e_ib k115_895 (q := 896) rfl ?_
  refine e_ald k115_896 (q := 897) rfl hX0 (by assumption) ?_
  refine e_aload k115_897 (q := 898) rfl rfl ?_
  refine e_iload k115_898 (q := 899) rfl rfl ?_
  refine e_const k115_899 (q := 900) rfl ?_
  refine e_ib k115_900 (q := 901) rfl ?_
  refine e_ald k115_901 (q := 902) rfl hX0 (by assumption) ?_
  refine g_cv k115_902 (q := 905) (as := [_, _, _]) rfl rfl rfl rfl (s_verdict hI _ _ _) rfl (z_ki fun x902 h902 p902 => ?_)
  obtain ⟨⟨hX1, fs1, h18⟩, hm⟩ := p902
  refine e_aload k115_905 (q := 906) rfl rfl ?_
  refine e_aload k115_906 (q := 907) rfl rfl ?_
  refine e_iload k115_907 (q := 908) rfl rfl ?_
  refine e_const k115_908 (q := 909) rfl ?_
  refine e_ib k115_909 (q := 910) rfl ?_
  refine e_ald k115_910 (q := 911) rfl hX1 (by assumption) ?_
  refine e_aload k115_911 (q := 912) rfl rfl ?_
  refine e_iload k115_912 (q := 913) rfl rfl ?_
  refine e_const k115_913 (q := 914) rfl ?_
  refine e_ib k115_914 (q := 915) rfl ?_
  refine e_ald k115_915 (q := 916) rfl hX1 (by assumption) ?_
  refine e_aload k115_916 (q := 917) rfl rfl ?_
  refine e_iload k115_917 (q := 918) rfl rfl ?_
  refine e_const k115_918 (q := 919) rfl ?_
  refine e_ib k115_919 (q := 920) rfl ?_
  refine e_ald k115_920 (q := 921) rfl hX1 (by assumption) ?_
  refine e_cv k115_921 (as := [_, _, _]) rfl rfl h18 (Nat.le_of_ble_eq_true rfl) hm (q := 924) rfl (z_ki fun x921 h921 p921 => ?_)
  obtain ⟨rfl, h2, σ2, ρ2, rfl, hI2, r1, r2⟩ := p921
  refine e_ic k115_924 (q := 927) rfl (fun c924 => ?_) (fun c924 => absurd rfl c924)
  exact kk h2 σ2 ρ2 hI2 r1 r2
theorem z_and31 (x : Int32) : ∃ c, c < 32 ∧ x &&& 31 = nI c := by
  refine ⟨x.toBitVec.toNat % 32, Nat.mod_lt _ (by decide), ?_⟩
  apply Int32.toBitVec_inj.1
  rw [Int32.toBitVec_and]
  apply BitVec.eq_of_toNat_eq
  rw [BitVec.toNat_and]
  show x.toBitVec.toNat &&& 31 = (BitVec.ofNat 32 (x.toBitVec.toNat % 32)).toNat
  rw [BitVec.toNat_ofNat, show (31 : Nat) = 2 ^ 5 - 1 from rfl, Nat.and_two_pow_sub_one_eq_mod]
  omega
theorem z_lim {i L : Nat} (hi : i < 2 ^ 31) (hL : L ≤ 3072) : nI L - 6 < nI i ↔ L < i + 6 := by
  rcases Nat.lt_or_ge L 6 with z | z
  · have h6 : ∀ L, L < 6 → nI L - 6 < 0 := by decide
    exact ⟨fun _ => by omega, fun _ => Int32.lt_of_lt_of_le (h6 L z) (nI_pos' hi)⟩
  · have e : nI L - 6 = nI (L - 6) := by
      rw [show nI L = nI (L - 6 + 6) by rw [Nat.sub_add_cancel z], ← nI_add]
      exact Int32.add_sub_cancel _ _
    rw [e, nI_ltI (by omega) hi]
    omega
theorem l_law {L : Nat} {xs : Nat → Int32} (hL : L ≤ 3072) : ∀ (m i : Nat) (h : zH) (σ : Nat → Nat → Int32) (ρ : Nat → Nat → Option Nat), i < 2 ^ 31 → L < i + 6 * m + 6 → i ≤ L → z_I (.inl (.array .int, L, .inl xs)) h σ ρ → h.2.1 + 4 * m ≤ 600000 → h.2.2 + 50 * m ≤ 7302249 →
    z_E 1000 115 18 [some (.ref 0), some (.ref 1), some (.ref 18), some (.int (nI i))] [] (z_G h σ ρ) (fun r => r.1 = some (.int 1) ∧ r.2.2.1 ≤ 600000 ∧ r.2.2.2 ≤ 7302249)
  | m, i, h, σ, ρ, hi31, hm, hiL, hI, b1, b2 => by
    have hX0 : (z_G h σ ρ).1 0 = some (.inl (.array .int, L, .inl xs)) := by
      obtain ⟨nD, dm, ns, hC, hD, hS, hT, hF⟩ := hI
      exact hF.2.1
    refine e_iload k115_18 (q := 19) rfl rfl ?_
    refine e_aload k115_19 (q := 20) rfl rfl ?_
    refine e_alen k115_20 (q := 21) rfl hX0 ?_
    show z_E _ _ _ _ (.int (nI L) :: _) _ _
    refine e_const k115_21 (q := 23) rfl ?_
    refine e_ib k115_23 (q := 24) rfl ?_
    refine e_ic k115_24 (q := 27) rfl (fun c24 => ?_) (fun c24 => ?_)
    · have hge : L < i + 6 := (z_lim hi31 hL).mp c24
      refine e_const k115_935 (q := 936) rfl ?_
      refine e_iret k115_936 (by first | exact Or.inl rfl | exact Or.inr rfl | assumption) ?_
      exact ⟨rfl, (by show h.2.1 ≤ 600000; omega), (by show h.2.2 ≤ 7302249; omega)⟩
    · have hlt : i + 6 ≤ L := by
        rcases Nat.lt_or_ge L (i + 6) with z | z
        · exact absurd ((z_lim hi31 hL).mpr z) c24
        · exact z
      have v0 : vp_in (nI i) L := vp_in_nI (by omega) (by omega)
      refine e_aload k115_27 (q := 28) rfl rfl ?_
      refine e_iload k115_28 (q := 29) rfl rfl ?_
      refine e_ald k115_29 (q := 30) rfl hX0 v0 ?_
      rw [nI_clamp (by omega)]
      refine e_const k115_30 (q := 32) rfl ?_
      refine e_ib k115_32 (q := 33) rfl ?_
      obtain ⟨c, hc, hce⟩ := z_and31 (xs i)
      rw [show xs i &&& 31 = nI c from hce]
      obtain ⟨m', rfl⟩ : ∃ m', m = m' + 1 := ⟨m - 1, by omega⟩
      have next : ∀ h2 σ2 ρ2, z_I (.inl (.array .int, L, .inl xs)) h2 σ2 ρ2 → h2.2.1 ≤ h.2.1 + 4 → h2.2.2 ≤ h.2.2 + 50 → z_E 1000 115 929 [some (.ref 0), some (.ref 1), some (.ref 18), some (.int (nI i))] [] (z_G h2 σ2 ρ2) (fun r => r.1 = some (.int 1) ∧ r.2.2.1 ≤ 600000 ∧ r.2.2.2 ≤ 7302249) := by
        intro h2 σ2 ρ2 hI2 r1 r2
        refine e_iinc k115_929 (q := 932) (L' := [_, _, _, some (.int (nI (i + 6)))]) rfl rfl (by rw [show (6 : Int32) = nI 6 from rfl, nI_add]; rfl) ?_
        refine e_goto k115_932 ?_
        exact l_law hL m' (i + 6) h2 σ2 ρ2 (by omega) (by omega) (by omega) hI2 (by omega) (by omega)
      rcases (by omega : c = 0 ∨ c = 1 ∨ c = 2 ∨ c = 3 ∨ c = 4 ∨ c = 5 ∨ c = 6 ∨ c = 7 ∨ c = 8 ∨ c = 9 ∨ c = 10 ∨ c = 11 ∨ c = 12 ∨ c = 13 ∨ c = 14 ∨ c = 15 ∨ c = 16 ∨ c = 17 ∨ c = 18 ∨ 19 ≤ c) with rfl | rfl | rfl | rfl | rfl | rfl | rfl | rfl | rfl | rfl | rfl | rfl | rfl | rfl | rfl | rfl | rfl | rfl | rfl | hd
      · exact e_tab k115_33 124 0 rfl (by decide) (c_domain hI (by omega) hL next)
      · exact e_tab k115_33 173 1 rfl (by decide) (c_address hI (by omega) hL next)
      · exact e_tab k115_33 206 2 rfl (by decide) (c_exchanger hI (by omega) hL next)
      · exact e_tab k115_33 239 3 rfl (by decide) (c_term hI (by omega) hL next)
      · exact e_tab k115_33 302 4 rfl (by decide) (c_key hI (by omega) hL next)
      · exact e_tab k115_33 345 5 rfl (by decide) (c_wish hI (by omega) hL next)
      · exact e_tab k115_33 440 6 rfl (by decide) (c_check hI (by omega) hL next)
      · exact e_tab k115_33 473 7 rfl (by decide) (c_queries hI (by omega) hL next)
      · exact e_tab k115_33 486 8 rfl (by decide) (c_empties hI (by omega) hL next)
      · exact e_tab k115_33 499 9 rfl (by decide) (c_type hI (by omega) hL next)
      · exact e_tab k115_33 524 10 rfl (by decide) (c_list hI (by omega) hL next)
      · exact e_tab k115_33 549 11 rfl (by decide) (c_clear hI (by omega) hL next)
      · exact e_tab k115_33 560 12 rfl (by decide) (c_fields hI (by omega) hL next)
      · exact e_tab k115_33 573 13 rfl (by decide) (c_length hI (by omega) hL next)
      · exact e_tab k115_33 638 14 rfl (by decide) (c_at hI (by omega) hL next)
      · exact e_tab k115_33 713 15 rfl (by decide) (c_digest hI (by omega) hL next)
      · exact e_tab k115_33 778 16 rfl (by decide) (c_sign hI (by omega) hL next)
      · exact e_tab k115_33 863 17 rfl (by decide) (c_holds hI (by omega) hL next)
      · exact e_tab k115_33 886 18 rfl (by decide) (c_verdict hI (by omega) hL next)
      · refine e_tabD k115_33 (Or.inr ?_) (next h σ ρ hI (by omega) (by omega))
        rw [nI_toInt (by omega)]
        show (0 : Int) + 19 ≤ _
        omega
termination_by m => m
