/-! The law. -/
theorem e_bool {d M pc p2 q p3 p4 : Nat} {L : zL} {S : List Value} {h : zH} {Q : zR → Prop} {v : Int32} (h0 : z_op M pc = o_if (fun x => x = 0) p2) (h3 : pc + 3 = p3) (h1 : z_op M p3 = o_const 1 (.int 1)) (h4 : p3 + 1 = p4) (h2 : z_op M p4 = o_goto q) (h5 : z_op M p2 = o_const 1 (.int 0)) (hq : p2 + 1 = q) (k : z_E d M q L (.int (z_bi (decide (¬ v = 0))) :: S) h Q) : z_E d M pc L (.int v :: S) h Q := by
  refine e_if h0 h3 (fun c => ?_) (fun c => ?_)
  · refine e_const h5 hq ?_
    rw [decide_eq_false (fun z => z c)] at k
    exact k
  · refine e_const h1 h4 ?_
    refine e_goto h2 ?_
    rw [decide_eq_true c] at k
    exact k
theorem z_vin {i L : Nat} (k : Nat) (h : i + k < L) (hL : L ≤ 3072) : vp_in (nI i + nI k) L := by
  rw [nI_add]
  exact vp_in_nI h (by omega)
theorem c_domain {L i : Nat} {xs : Nat → Int32} {h : zH} {σ : Nat → Nat → Int32} {ρ : Nat → Nat → Option Nat} {Q : zR → Prop} (hI : z_I (.inl (.array .int, L, .inl xs)) h σ ρ) (hi : i + 6 ≤ L) (hL : L ≤ 3072) (kk : ∀ h2 σ2 ρ2, z_I (.inl (.array .int, L, .inl xs)) h2 σ2 ρ2 → h2.2.1 ≤ h.2.1 + 4 → h2.2.2 ≤ h.2.2 + 50 → z_E 1000 115 929 [some (.ref 0), some (.ref 1), some (.ref 18), some (.int (nI i))] [] (z_G h2 σ2 ρ2) Q) :
    z_E 1000 115 124 [some (.ref 0), some (.ref 1), some (.ref 18), some (.int (nI i))] [] (z_G h σ ρ) Q := by
  have hX0 : (z_G h σ ρ).1 0 = some (.inl (.array .int, L, .inl xs)) := by
    obtain ⟨nD, dm, ns, hC, hD, hS, hT, hF⟩ := hI
    exact hF.2.1
  have v1 : vp_in (nI i + 1) L := z_vin 1 (by omega) hL
  have v2 : vp_in (nI i + 2) L := z_vin 2 (by omega) hL
  have v3 : vp_in (nI i + 3) L := z_vin 3 (by omega) hL
  have v4 : vp_in (nI i + 4) L := z_vin 4 (by omega) hL
  have v5 : vp_in (nI i + 5) L := z_vin 5 (by omega) hL
  refine e_aload k115_124 (q := 125) rfl rfl ?_
  refine e_aload k115_125 (q := 126) rfl rfl ?_
  refine e_iload k115_126 (q := 127) rfl rfl ?_
  refine e_const k115_127 (q := 128) rfl ?_
  refine e_ib k115_128 (q := 129) rfl ?_
  refine e_ald k115_129 (q := 130) rfl hX0 v1 ?_
  refine e_aload k115_130 (q := 131) rfl rfl ?_
  refine e_iload k115_131 (q := 132) rfl rfl ?_
  refine e_const k115_132 (q := 133) rfl ?_
  refine e_ib k115_133 (q := 134) rfl ?_
  refine e_ald k115_134 (q := 135) rfl hX0 v2 ?_
  refine e_bool k115_135 rfl k115_138 rfl k115_139 k115_142 rfl ?_
  refine g_cv k115_143 (q := 146) (as := [_, _]) rfl rfl rfl rfl (s_domain hI _ _) rfl (z_ki fun x143 h143 p143 => ?_)
  obtain ⟨⟨hX1, fs1, h18⟩, hm⟩ := p143
  refine e_aload k115_146 (q := 147) rfl rfl ?_
  refine e_aload k115_147 (q := 148) rfl rfl ?_
  refine e_iload k115_148 (q := 149) rfl rfl ?_
  refine e_const k115_149 (q := 150) rfl ?_
  refine e_ib k115_150 (q := 151) rfl ?_
  refine e_ald k115_151 (q := 152) rfl hX1 v1 ?_
  refine e_aload k115_152 (q := 153) rfl rfl ?_
  refine e_iload k115_153 (q := 154) rfl rfl ?_
  refine e_const k115_154 (q := 155) rfl ?_
  refine e_ib k115_155 (q := 156) rfl ?_
  refine e_ald k115_156 (q := 157) rfl hX1 v2 ?_
  refine e_bool k115_157 rfl k115_160 rfl k115_161 k115_164 rfl ?_
  refine e_cv k115_165 (as := [_, _]) rfl rfl h18 (Nat.le_of_ble_eq_true rfl) hm (q := 168) rfl (z_ki fun x165 h165 p165 => ?_)
  obtain ⟨rfl, h2, σ2, ρ2, rfl, hI2, r1, r2⟩ := p165
  refine e_ic k115_168 (q := 171) rfl (fun c168 => ?_) (fun c168 => absurd rfl c168)
  exact kk h2 σ2 ρ2 hI2 r1 r2
theorem c_address {L i : Nat} {xs : Nat → Int32} {h : zH} {σ : Nat → Nat → Int32} {ρ : Nat → Nat → Option Nat} {Q : zR → Prop} (hI : z_I (.inl (.array .int, L, .inl xs)) h σ ρ) (hi : i + 6 ≤ L) (hL : L ≤ 3072) (kk : ∀ h2 σ2 ρ2, z_I (.inl (.array .int, L, .inl xs)) h2 σ2 ρ2 → h2.2.1 ≤ h.2.1 + 4 → h2.2.2 ≤ h.2.2 + 50 → z_E 1000 115 929 [some (.ref 0), some (.ref 1), some (.ref 18), some (.int (nI i))] [] (z_G h2 σ2 ρ2) Q) :
    z_E 1000 115 173 [some (.ref 0), some (.ref 1), some (.ref 18), some (.int (nI i))] [] (z_G h σ ρ) Q := by
  have hX0 : (z_G h σ ρ).1 0 = some (.inl (.array .int, L, .inl xs)) := by
    obtain ⟨nD, dm, ns, hC, hD, hS, hT, hF⟩ := hI
    exact hF.2.1
  have v1 : vp_in (nI i + 1) L := z_vin 1 (by omega) hL
  have v2 : vp_in (nI i + 2) L := z_vin 2 (by omega) hL
  have v3 : vp_in (nI i + 3) L := z_vin 3 (by omega) hL
  have v4 : vp_in (nI i + 4) L := z_vin 4 (by omega) hL
  have v5 : vp_in (nI i + 5) L := z_vin 5 (by omega) hL
  refine e_aload k115_173 (q := 174) rfl rfl ?_
  refine e_aload k115_174 (q := 175) rfl rfl ?_
  refine e_iload k115_175 (q := 176) rfl rfl ?_
  refine e_const k115_176 (q := 177) rfl ?_
  refine e_ib k115_177 (q := 178) rfl ?_
  refine e_ald k115_178 (q := 179) rfl hX0 v1 ?_
  refine e_aload k115_179 (q := 180) rfl rfl ?_
  refine e_iload k115_180 (q := 181) rfl rfl ?_
  refine e_const k115_181 (q := 182) rfl ?_
  refine e_ib k115_182 (q := 183) rfl ?_
  refine e_ald k115_183 (q := 184) rfl hX0 v2 ?_
  refine g_cv k115_184 (q := 187) (as := [_, _]) rfl rfl rfl rfl (s_address hI _ _) rfl (z_ki fun x184 h184 p184 => ?_)
  obtain ⟨⟨hX1, fs1, h18⟩, hm⟩ := p184
  refine e_aload k115_187 (q := 188) rfl rfl ?_
  refine e_aload k115_188 (q := 189) rfl rfl ?_
  refine e_iload k115_189 (q := 190) rfl rfl ?_
  refine e_const k115_190 (q := 191) rfl ?_
  refine e_ib k115_191 (q := 192) rfl ?_
  refine e_ald k115_192 (q := 193) rfl hX1 v1 ?_
  refine e_aload k115_193 (q := 194) rfl rfl ?_
  refine e_iload k115_194 (q := 195) rfl rfl ?_
  refine e_const k115_195 (q := 196) rfl ?_
  refine e_ib k115_196 (q := 197) rfl ?_
  refine e_ald k115_197 (q := 198) rfl hX1 v2 ?_
  refine e_cv k115_198 (as := [_, _]) rfl rfl h18 (Nat.le_of_ble_eq_true rfl) hm (q := 201) rfl (z_ki fun x198 h198 p198 => ?_)
  obtain ⟨rfl, h2, σ2, ρ2, rfl, hI2, r1, r2⟩ := p198
  refine e_ic k115_201 (q := 204) rfl (fun c201 => ?_) (fun c201 => absurd rfl c201)
  exact kk h2 σ2 ρ2 hI2 r1 r2
theorem c_exchanger {L i : Nat} {xs : Nat → Int32} {h : zH} {σ : Nat → Nat → Int32} {ρ : Nat → Nat → Option Nat} {Q : zR → Prop} (hI : z_I (.inl (.array .int, L, .inl xs)) h σ ρ) (hi : i + 6 ≤ L) (hL : L ≤ 3072) (kk : ∀ h2 σ2 ρ2, z_I (.inl (.array .int, L, .inl xs)) h2 σ2 ρ2 → h2.2.1 ≤ h.2.1 + 4 → h2.2.2 ≤ h.2.2 + 50 → z_E 1000 115 929 [some (.ref 0), some (.ref 1), some (.ref 18), some (.int (nI i))] [] (z_G h2 σ2 ρ2) Q) :
    z_E 1000 115 206 [some (.ref 0), some (.ref 1), some (.ref 18), some (.int (nI i))] [] (z_G h σ ρ) Q := by
  have hX0 : (z_G h σ ρ).1 0 = some (.inl (.array .int, L, .inl xs)) := by
    obtain ⟨nD, dm, ns, hC, hD, hS, hT, hF⟩ := hI
    exact hF.2.1
  have v1 : vp_in (nI i + 1) L := z_vin 1 (by omega) hL
  have v2 : vp_in (nI i + 2) L := z_vin 2 (by omega) hL
  have v3 : vp_in (nI i + 3) L := z_vin 3 (by omega) hL
  have v4 : vp_in (nI i + 4) L := z_vin 4 (by omega) hL
  have v5 : vp_in (nI i + 5) L := z_vin 5 (by omega) hL
  refine e_aload k115_206 (q := 207) rfl rfl ?_
  refine e_aload k115_207 (q := 208) rfl rfl ?_
  refine e_iload k115_208 (q := 209) rfl rfl ?_
  refine e_const k115_209 (q := 210) rfl ?_
  refine e_ib k115_210 (q := 211) rfl ?_
  refine e_ald k115_211 (q := 212) rfl hX0 v1 ?_
  refine e_aload k115_212 (q := 213) rfl rfl ?_
  refine e_iload k115_213 (q := 214) rfl rfl ?_
  refine e_const k115_214 (q := 215) rfl ?_
  refine e_ib k115_215 (q := 216) rfl ?_
  refine e_ald k115_216 (q := 217) rfl hX0 v2 ?_
  refine g_cv k115_217 (q := 220) (as := [_, _]) rfl rfl rfl rfl (s_exchanger hI _ _) rfl (z_ki fun x217 h217 p217 => ?_)
  obtain ⟨⟨hX1, fs1, h18⟩, hm⟩ := p217
  refine e_aload k115_220 (q := 221) rfl rfl ?_
  refine e_aload k115_221 (q := 222) rfl rfl ?_
  refine e_iload k115_222 (q := 223) rfl rfl ?_
  refine e_const k115_223 (q := 224) rfl ?_
  refine e_ib k115_224 (q := 225) rfl ?_
  refine e_ald k115_225 (q := 226) rfl hX1 v1 ?_
  refine e_aload k115_226 (q := 227) rfl rfl ?_
  refine e_iload k115_227 (q := 228) rfl rfl ?_
  refine e_const k115_228 (q := 229) rfl ?_
  refine e_ib k115_229 (q := 230) rfl ?_
  refine e_ald k115_230 (q := 231) rfl hX1 v2 ?_
  refine e_cv k115_231 (as := [_, _]) rfl rfl h18 (Nat.le_of_ble_eq_true rfl) hm (q := 234) rfl (z_ki fun x231 h231 p231 => ?_)
  obtain ⟨rfl, h2, σ2, ρ2, rfl, hI2, r1, r2⟩ := p231
  refine e_ic k115_234 (q := 237) rfl (fun c234 => ?_) (fun c234 => absurd rfl c234)
  exact kk h2 σ2 ρ2 hI2 r1 r2
theorem c_term {L i : Nat} {xs : Nat → Int32} {h : zH} {σ : Nat → Nat → Int32} {ρ : Nat → Nat → Option Nat} {Q : zR → Prop} (hI : z_I (.inl (.array .int, L, .inl xs)) h σ ρ) (hi : i + 6 ≤ L) (hL : L ≤ 3072) (kk : ∀ h2 σ2 ρ2, z_I (.inl (.array .int, L, .inl xs)) h2 σ2 ρ2 → h2.2.1 ≤ h.2.1 + 4 → h2.2.2 ≤ h.2.2 + 50 → z_E 1000 115 929 [some (.ref 0), some (.ref 1), some (.ref 18), some (.int (nI i))] [] (z_G h2 σ2 ρ2) Q) :
    z_E 1000 115 239 [some (.ref 0), some (.ref 1), some (.ref 18), some (.int (nI i))] [] (z_G h σ ρ) Q := by
  have hX0 : (z_G h σ ρ).1 0 = some (.inl (.array .int, L, .inl xs)) := by
    obtain ⟨nD, dm, ns, hC, hD, hS, hT, hF⟩ := hI
    exact hF.2.1
  have v1 : vp_in (nI i + 1) L := z_vin 1 (by omega) hL
  have v2 : vp_in (nI i + 2) L := z_vin 2 (by omega) hL
  have v3 : vp_in (nI i + 3) L := z_vin 3 (by omega) hL
  have v4 : vp_in (nI i + 4) L := z_vin 4 (by omega) hL
  have v5 : vp_in (nI i + 5) L := z_vin 5 (by omega) hL
  refine e_aload k115_239 (q := 240) rfl rfl ?_
  refine e_aload k115_240 (q := 241) rfl rfl ?_
  refine e_iload k115_241 (q := 242) rfl rfl ?_
  refine e_const k115_242 (q := 243) rfl ?_
  refine e_ib k115_243 (q := 244) rfl ?_
  refine e_ald k115_244 (q := 245) rfl hX0 v1 ?_
  refine e_aload k115_245 (q := 246) rfl rfl ?_
  refine e_iload k115_246 (q := 247) rfl rfl ?_
  refine e_const k115_247 (q := 248) rfl ?_
  refine e_ib k115_248 (q := 249) rfl ?_
  refine e_ald k115_249 (q := 250) rfl hX0 v2 ?_
  refine e_aload k115_250 (q := 251) rfl rfl ?_
  refine e_iload k115_251 (q := 252) rfl rfl ?_
  refine e_const k115_252 (q := 253) rfl ?_
  refine e_ib k115_253 (q := 254) rfl ?_
  refine e_ald k115_254 (q := 255) rfl hX0 v3 ?_
  refine e_aload k115_255 (q := 256) rfl rfl ?_
  refine e_iload k115_256 (q := 257) rfl rfl ?_
  refine e_const k115_257 (q := 258) rfl ?_
  refine e_ib k115_258 (q := 259) rfl ?_
  refine e_ald k115_259 (q := 260) rfl hX0 v4 ?_
  refine e_aload k115_260 (q := 261) rfl rfl ?_
  refine e_iload k115_261 (q := 262) rfl rfl ?_
  refine e_const k115_262 (q := 263) rfl ?_
  refine e_ib k115_263 (q := 264) rfl ?_
  refine e_ald k115_264 (q := 265) rfl hX0 v5 ?_
  refine g_cv k115_265 (q := 268) (as := [_, _, _, _, _]) rfl rfl rfl rfl (s_term hI _ _ _ _ _) rfl (z_ki fun x265 h265 p265 => ?_)
  obtain ⟨⟨hX1, fs1, h18⟩, hm⟩ := p265
  refine e_aload k115_268 (q := 269) rfl rfl ?_
  refine e_aload k115_269 (q := 270) rfl rfl ?_
  refine e_iload k115_270 (q := 271) rfl rfl ?_
  refine e_const k115_271 (q := 272) rfl ?_
  refine e_ib k115_272 (q := 273) rfl ?_
  refine e_ald k115_273 (q := 274) rfl hX1 v1 ?_
  refine e_aload k115_274 (q := 275) rfl rfl ?_
  refine e_iload k115_275 (q := 276) rfl rfl ?_
  refine e_const k115_276 (q := 277) rfl ?_
  refine e_ib k115_277 (q := 278) rfl ?_
  refine e_ald k115_278 (q := 279) rfl hX1 v2 ?_
  refine e_aload k115_279 (q := 280) rfl rfl ?_
  refine e_iload k115_280 (q := 281) rfl rfl ?_
  refine e_const k115_281 (q := 282) rfl ?_
  refine e_ib k115_282 (q := 283) rfl ?_
  refine e_ald k115_283 (q := 284) rfl hX1 v3 ?_
  refine e_aload k115_284 (q := 285) rfl rfl ?_
  refine e_iload k115_285 (q := 286) rfl rfl ?_
  refine e_const k115_286 (q := 287) rfl ?_
  refine e_ib k115_287 (q := 288) rfl ?_
  refine e_ald k115_288 (q := 289) rfl hX1 v4 ?_
  refine e_aload k115_289 (q := 290) rfl rfl ?_
  refine e_iload k115_290 (q := 291) rfl rfl ?_
  refine e_const k115_291 (q := 292) rfl ?_
  refine e_ib k115_292 (q := 293) rfl ?_
  refine e_ald k115_293 (q := 294) rfl hX1 v5 ?_
  refine e_cv k115_294 (as := [_, _, _, _, _]) rfl rfl h18 (Nat.le_of_ble_eq_true rfl) hm (q := 297) rfl (z_ki fun x294 h294 p294 => ?_)
  obtain ⟨rfl, h2, σ2, ρ2, rfl, hI2, r1, r2⟩ := p294
  refine e_ic k115_297 (q := 300) rfl (fun c297 => ?_) (fun c297 => absurd rfl c297)
  exact kk h2 σ2 ρ2 hI2 r1 r2
theorem c_key {L i : Nat} {xs : Nat → Int32} {h : zH} {σ : Nat → Nat → Int32} {ρ : Nat → Nat → Option Nat} {Q : zR → Prop} (hI : z_I (.inl (.array .int, L, .inl xs)) h σ ρ) (hi : i + 6 ≤ L) (hL : L ≤ 3072) (kk : ∀ h2 σ2 ρ2, z_I (.inl (.array .int, L, .inl xs)) h2 σ2 ρ2 → h2.2.1 ≤ h.2.1 + 4 → h2.2.2 ≤ h.2.2 + 50 → z_E 1000 115 929 [some (.ref 0), some (.ref 1), some (.ref 18), some (.int (nI i))] [] (z_G h2 σ2 ρ2) Q) :
    z_E 1000 115 302 [some (.ref 0), some (.ref 1), some (.ref 18), some (.int (nI i))] [] (z_G h σ ρ) Q := by
  have hX0 : (z_G h σ ρ).1 0 = some (.inl (.array .int, L, .inl xs)) := by
    obtain ⟨nD, dm, ns, hC, hD, hS, hT, hF⟩ := hI
    exact hF.2.1
  have v1 : vp_in (nI i + 1) L := z_vin 1 (by omega) hL
  have v2 : vp_in (nI i + 2) L := z_vin 2 (by omega) hL
  have v3 : vp_in (nI i + 3) L := z_vin 3 (by omega) hL
  have v4 : vp_in (nI i + 4) L := z_vin 4 (by omega) hL
  have v5 : vp_in (nI i + 5) L := z_vin 5 (by omega) hL
  refine e_aload k115_302 (q := 303) rfl rfl ?_
  refine e_aload k115_303 (q := 304) rfl rfl ?_
  refine e_iload k115_304 (q := 305) rfl rfl ?_
  refine e_const k115_305 (q := 306) rfl ?_
  refine e_ib k115_306 (q := 307) rfl ?_
  refine e_ald k115_307 (q := 308) rfl hX0 v1 ?_
  refine e_aload k115_308 (q := 309) rfl rfl ?_
  refine e_iload k115_309 (q := 310) rfl rfl ?_
  refine e_const k115_310 (q := 311) rfl ?_
  refine e_ib k115_311 (q := 312) rfl ?_
  refine e_ald k115_312 (q := 313) rfl hX0 v2 ?_
  refine e_aload k115_313 (q := 314) rfl rfl ?_
  refine e_iload k115_314 (q := 315) rfl rfl ?_
  refine e_const k115_315 (q := 316) rfl ?_
  refine e_ib k115_316 (q := 317) rfl ?_
  refine e_ald k115_317 (q := 318) rfl hX0 v3 ?_
  refine g_cv k115_318 (q := 321) (as := [_, _, _]) rfl rfl rfl rfl (s_key hI _ _ _) rfl (z_ki fun x318 h318 p318 => ?_)
  obtain ⟨⟨hX1, fs1, h18⟩, hm⟩ := p318
  refine e_aload k115_321 (q := 322) rfl rfl ?_
  refine e_aload k115_322 (q := 323) rfl rfl ?_
  refine e_iload k115_323 (q := 324) rfl rfl ?_
  refine e_const k115_324 (q := 325) rfl ?_
  refine e_ib k115_325 (q := 326) rfl ?_
  refine e_ald k115_326 (q := 327) rfl hX1 v1 ?_
  refine e_aload k115_327 (q := 328) rfl rfl ?_
  refine e_iload k115_328 (q := 329) rfl rfl ?_
  refine e_const k115_329 (q := 330) rfl ?_
  refine e_ib k115_330 (q := 331) rfl ?_
  refine e_ald k115_331 (q := 332) rfl hX1 v2 ?_
  refine e_aload k115_332 (q := 333) rfl rfl ?_
  refine e_iload k115_333 (q := 334) rfl rfl ?_
  refine e_const k115_334 (q := 335) rfl ?_
  refine e_ib k115_335 (q := 336) rfl ?_
  refine e_ald k115_336 (q := 337) rfl hX1 v3 ?_
  refine e_cv k115_337 (as := [_, _, _]) rfl rfl h18 (Nat.le_of_ble_eq_true rfl) hm (q := 340) rfl (z_ki fun x337 h337 p337 => ?_)
  obtain ⟨rfl, h2, σ2, ρ2, rfl, hI2, r1, r2⟩ := p337
  refine e_ic k115_340 (q := 343) rfl (fun c340 => ?_) (fun c340 => absurd rfl c340)
  exact kk h2 σ2 ρ2 hI2 r1 r2
theorem c_wish {L i : Nat} {xs : Nat → Int32} {h : zH} {σ : Nat → Nat → Int32} {ρ : Nat → Nat → Option Nat} {Q : zR → Prop} (hI : z_I (.inl (.array .int, L, .inl xs)) h σ ρ) (hi : i + 6 ≤ L) (hL : L ≤ 3072) (kk : ∀ h2 σ2 ρ2, z_I (.inl (.array .int, L, .inl xs)) h2 σ2 ρ2 → h2.2.1 ≤ h.2.1 + 4 → h2.2.2 ≤ h.2.2 + 50 → z_E 1000 115 929 [some (.ref 0), some (.ref 1), some (.ref 18), some (.int (nI i))] [] (z_G h2 σ2 ρ2) Q) :
    z_E 1000 115 345 [some (.ref 0), some (.ref 1), some (.ref 18), some (.int (nI i))] [] (z_G h σ ρ) Q := by
  have hX0 : (z_G h σ ρ).1 0 = some (.inl (.array .int, L, .inl xs)) := by
    obtain ⟨nD, dm, ns, hC, hD, hS, hT, hF⟩ := hI
    exact hF.2.1
  have v1 : vp_in (nI i + 1) L := z_vin 1 (by omega) hL
  have v2 : vp_in (nI i + 2) L := z_vin 2 (by omega) hL
  have v3 : vp_in (nI i + 3) L := z_vin 3 (by omega) hL
  have v4 : vp_in (nI i + 4) L := z_vin 4 (by omega) hL
  have v5 : vp_in (nI i + 5) L := z_vin 5 (by omega) hL
  refine e_aload k115_345 (q := 346) rfl rfl ?_
  refine e_aload k115_346 (q := 347) rfl rfl ?_
  refine e_iload k115_347 (q := 348) rfl rfl ?_
  refine e_const k115_348 (q := 349) rfl ?_
  refine e_ib k115_349 (q := 350) rfl ?_
  refine e_ald k115_350 (q := 351) rfl hX0 v1 ?_
  refine e_aload k115_351 (q := 352) rfl rfl ?_
  refine e_iload k115_352 (q := 353) rfl rfl ?_
  refine e_const k115_353 (q := 354) rfl ?_
  refine e_ib k115_354 (q := 355) rfl ?_
  refine e_ald k115_355 (q := 356) rfl hX0 v2 ?_
  refine e_aload k115_356 (q := 357) rfl rfl ?_
  refine e_iload k115_357 (q := 358) rfl rfl ?_
  refine e_const k115_358 (q := 359) rfl ?_
  refine e_ib k115_359 (q := 360) rfl ?_
  refine e_ald k115_360 (q := 361) rfl hX0 v3 ?_
  refine e_aload k115_361 (q := 362) rfl rfl ?_
  refine e_iload k115_362 (q := 363) rfl rfl ?_
  refine e_const k115_363 (q := 364) rfl ?_
  refine e_ib k115_364 (q := 365) rfl ?_
  refine e_ald k115_365 (q := 366) rfl hX0 v4 ?_
  refine e_bool k115_366 rfl k115_369 rfl k115_370 k115_373 rfl ?_
  refine e_aload k115_374 (q := 375) rfl rfl ?_
  refine e_iload k115_375 (q := 376) rfl rfl ?_
  refine e_const k115_376 (q := 377) rfl ?_
  refine e_ib k115_377 (q := 378) rfl ?_
  refine e_ald k115_378 (q := 379) rfl hX0 v5 ?_
  refine e_bool k115_379 rfl k115_382 rfl k115_383 k115_386 rfl ?_
  refine g_cv k115_387 (q := 390) (as := [_, _, _, _, _]) rfl rfl rfl rfl (s_wish hI _ _ _ _ _) rfl (z_ki fun x387 h387 p387 => ?_)
  obtain ⟨⟨hX1, fs1, h18⟩, hm⟩ := p387
  refine e_aload k115_390 (q := 391) rfl rfl ?_
  refine e_aload k115_391 (q := 392) rfl rfl ?_
  refine e_iload k115_392 (q := 393) rfl rfl ?_
  refine e_const k115_393 (q := 394) rfl ?_
  refine e_ib k115_394 (q := 395) rfl ?_
  refine e_ald k115_395 (q := 396) rfl hX1 v1 ?_
  refine e_aload k115_396 (q := 397) rfl rfl ?_
  refine e_iload k115_397 (q := 398) rfl rfl ?_
  refine e_const k115_398 (q := 399) rfl ?_
  refine e_ib k115_399 (q := 400) rfl ?_
  refine e_ald k115_400 (q := 401) rfl hX1 v2 ?_
  refine e_aload k115_401 (q := 402) rfl rfl ?_
  refine e_iload k115_402 (q := 403) rfl rfl ?_
  refine e_const k115_403 (q := 404) rfl ?_
  refine e_ib k115_404 (q := 405) rfl ?_
  refine e_ald k115_405 (q := 406) rfl hX1 v3 ?_
  refine e_aload k115_406 (q := 407) rfl rfl ?_
  refine e_iload k115_407 (q := 408) rfl rfl ?_
  refine e_const k115_408 (q := 409) rfl ?_
  refine e_ib k115_409 (q := 410) rfl ?_
  refine e_ald k115_410 (q := 411) rfl hX1 v4 ?_
  refine e_bool k115_411 rfl k115_414 rfl k115_415 k115_418 rfl ?_
  refine e_aload k115_419 (q := 420) rfl rfl ?_
  refine e_iload k115_420 (q := 421) rfl rfl ?_
  refine e_const k115_421 (q := 422) rfl ?_
  refine e_ib k115_422 (q := 423) rfl ?_
  refine e_ald k115_423 (q := 424) rfl hX1 v5 ?_
  refine e_bool k115_424 rfl k115_427 rfl k115_428 k115_431 rfl ?_
  refine e_cv k115_432 (as := [_, _, _, _, _]) rfl rfl h18 (Nat.le_of_ble_eq_true rfl) hm (q := 435) rfl (z_ki fun x432 h432 p432 => ?_)
  obtain ⟨rfl, h2, σ2, ρ2, rfl, hI2, r1, r2⟩ := p432
  refine e_ic k115_435 (q := 438) rfl (fun c435 => ?_) (fun c435 => absurd rfl c435)
  exact kk h2 σ2 ρ2 hI2 r1 r2
theorem c_check {L i : Nat} {xs : Nat → Int32} {h : zH} {σ : Nat → Nat → Int32} {ρ : Nat → Nat → Option Nat} {Q : zR → Prop} (hI : z_I (.inl (.array .int, L, .inl xs)) h σ ρ) (hi : i + 6 ≤ L) (hL : L ≤ 3072) (kk : ∀ h2 σ2 ρ2, z_I (.inl (.array .int, L, .inl xs)) h2 σ2 ρ2 → h2.2.1 ≤ h.2.1 + 4 → h2.2.2 ≤ h.2.2 + 50 → z_E 1000 115 929 [some (.ref 0), some (.ref 1), some (.ref 18), some (.int (nI i))] [] (z_G h2 σ2 ρ2) Q) :
    z_E 1000 115 440 [some (.ref 0), some (.ref 1), some (.ref 18), some (.int (nI i))] [] (z_G h σ ρ) Q := by
  have hX0 : (z_G h σ ρ).1 0 = some (.inl (.array .int, L, .inl xs)) := by
    obtain ⟨nD, dm, ns, hC, hD, hS, hT, hF⟩ := hI
    exact hF.2.1
  have v1 : vp_in (nI i + 1) L := z_vin 1 (by omega) hL
  have v2 : vp_in (nI i + 2) L := z_vin 2 (by omega) hL
  have v3 : vp_in (nI i + 3) L := z_vin 3 (by omega) hL
  have v4 : vp_in (nI i + 4) L := z_vin 4 (by omega) hL
  have v5 : vp_in (nI i + 5) L := z_vin 5 (by omega) hL
  refine e_aload k115_440 (q := 441) rfl rfl ?_
  refine e_aload k115_441 (q := 442) rfl rfl ?_
  refine e_iload k115_442 (q := 443) rfl rfl ?_
  refine e_const k115_443 (q := 444) rfl ?_
  refine e_ib k115_444 (q := 445) rfl ?_
  refine e_ald k115_445 (q := 446) rfl hX0 v1 ?_
  refine e_aload k115_446 (q := 447) rfl rfl ?_
  refine e_iload k115_447 (q := 448) rfl rfl ?_
  refine e_const k115_448 (q := 449) rfl ?_
  refine e_ib k115_449 (q := 450) rfl ?_
  refine e_ald k115_450 (q := 451) rfl hX0 v2 ?_
  refine g_cv k115_451 (q := 454) (as := [_, _]) rfl rfl rfl rfl (s_check hI _ _) rfl (z_ki fun x451 h451 p451 => ?_)
  obtain ⟨⟨hX1, fs1, h18⟩, hm⟩ := p451
  refine e_aload k115_454 (q := 455) rfl rfl ?_
  refine e_aload k115_455 (q := 456) rfl rfl ?_
  refine e_iload k115_456 (q := 457) rfl rfl ?_
  refine e_const k115_457 (q := 458) rfl ?_
  refine e_ib k115_458 (q := 459) rfl ?_
  refine e_ald k115_459 (q := 460) rfl hX1 v1 ?_
  refine e_aload k115_460 (q := 461) rfl rfl ?_
  refine e_iload k115_461 (q := 462) rfl rfl ?_
  refine e_const k115_462 (q := 463) rfl ?_
  refine e_ib k115_463 (q := 464) rfl ?_
  refine e_ald k115_464 (q := 465) rfl hX1 v2 ?_
  refine e_cv k115_465 (as := [_, _]) rfl rfl h18 (Nat.le_of_ble_eq_true rfl) hm (q := 468) rfl (z_ki fun x465 h465 p465 => ?_)
  obtain ⟨rfl, h2, σ2, ρ2, rfl, hI2, r1, r2⟩ := p465
  refine e_ic k115_468 (q := 471) rfl (fun c468 => ?_) (fun c468 => absurd rfl c468)
  exact kk h2 σ2 ρ2 hI2 r1 r2
theorem c_queries {L i : Nat} {xs : Nat → Int32} {h : zH} {σ : Nat → Nat → Int32} {ρ : Nat → Nat → Option Nat} {Q : zR → Prop} (hI : z_I (.inl (.array .int, L, .inl xs)) h σ ρ) (hi : i + 6 ≤ L) (hL : L ≤ 3072) (kk : ∀ h2 σ2 ρ2, z_I (.inl (.array .int, L, .inl xs)) h2 σ2 ρ2 → h2.2.1 ≤ h.2.1 + 4 → h2.2.2 ≤ h.2.2 + 50 → z_E 1000 115 929 [some (.ref 0), some (.ref 1), some (.ref 18), some (.int (nI i))] [] (z_G h2 σ2 ρ2) Q) :
    z_E 1000 115 473 [some (.ref 0), some (.ref 1), some (.ref 18), some (.int (nI i))] [] (z_G h σ ρ) Q := by
  have hX0 : (z_G h σ ρ).1 0 = some (.inl (.array .int, L, .inl xs)) := by
    obtain ⟨nD, dm, ns, hC, hD, hS, hT, hF⟩ := hI
    exact hF.2.1
  have v1 : vp_in (nI i + 1) L := z_vin 1 (by omega) hL
  have v2 : vp_in (nI i + 2) L := z_vin 2 (by omega) hL
  have v3 : vp_in (nI i + 3) L := z_vin 3 (by omega) hL
  have v4 : vp_in (nI i + 4) L := z_vin 4 (by omega) hL
  have v5 : vp_in (nI i + 5) L := z_vin 5 (by omega) hL
  refine e_aload k115_473 (q := 474) rfl rfl ?_
  refine g_cv k115_474 (q := 477) (as := []) rfl rfl rfl rfl (s_queries hI ) rfl (z_ki fun x474 h474 p474 => ?_)
  obtain ⟨⟨hX1, fs1, h18⟩, hm⟩ := p474
  refine e_aload k115_477 (q := 478) rfl rfl ?_
  refine e_cv k115_478 (as := []) rfl rfl h18 (Nat.le_of_ble_eq_true rfl) hm (q := 481) rfl (z_ki fun x478 h478 p478 => ?_)
  obtain ⟨rfl, h2, σ2, ρ2, rfl, hI2, r1, r2⟩ := p478
  refine e_ic k115_481 (q := 484) rfl (fun c481 => ?_) (fun c481 => absurd rfl c481)
  exact kk h2 σ2 ρ2 hI2 r1 r2
theorem c_empties {L i : Nat} {xs : Nat → Int32} {h : zH} {σ : Nat → Nat → Int32} {ρ : Nat → Nat → Option Nat} {Q : zR → Prop} (hI : z_I (.inl (.array .int, L, .inl xs)) h σ ρ) (hi : i + 6 ≤ L) (hL : L ≤ 3072) (kk : ∀ h2 σ2 ρ2, z_I (.inl (.array .int, L, .inl xs)) h2 σ2 ρ2 → h2.2.1 ≤ h.2.1 + 4 → h2.2.2 ≤ h.2.2 + 50 → z_E 1000 115 929 [some (.ref 0), some (.ref 1), some (.ref 18), some (.int (nI i))] [] (z_G h2 σ2 ρ2) Q) :
    z_E 1000 115 486 [some (.ref 0), some (.ref 1), some (.ref 18), some (.int (nI i))] [] (z_G h σ ρ) Q := by
  have hX0 : (z_G h σ ρ).1 0 = some (.inl (.array .int, L, .inl xs)) := by
    obtain ⟨nD, dm, ns, hC, hD, hS, hT, hF⟩ := hI
    exact hF.2.1
  have v1 : vp_in (nI i + 1) L := z_vin 1 (by omega) hL
  have v2 : vp_in (nI i + 2) L := z_vin 2 (by omega) hL
  have v3 : vp_in (nI i + 3) L := z_vin 3 (by omega) hL
  have v4 : vp_in (nI i + 4) L := z_vin 4 (by omega) hL
  have v5 : vp_in (nI i + 5) L := z_vin 5 (by omega) hL
  refine e_aload k115_486 (q := 487) rfl rfl ?_
  refine g_cv k115_487 (q := 490) (as := []) rfl rfl rfl rfl (s_empties hI ) rfl (z_ki fun x487 h487 p487 => ?_)
  obtain ⟨⟨hX1, fs1, h18⟩, hm⟩ := p487
  refine e_aload k115_490 (q := 491) rfl rfl ?_
  refine e_cv k115_491 (as := []) rfl rfl h18 (Nat.le_of_ble_eq_true rfl) hm (q := 494) rfl (z_ki fun x491 h491 p491 => ?_)
  obtain ⟨rfl, h2, σ2, ρ2, rfl, hI2, r1, r2⟩ := p491
  refine e_ic k115_494 (q := 497) rfl (fun c494 => ?_) (fun c494 => absurd rfl c494)
  exact kk h2 σ2 ρ2 hI2 r1 r2
theorem c_type {L i : Nat} {xs : Nat → Int32} {h : zH} {σ : Nat → Nat → Int32} {ρ : Nat → Nat → Option Nat} {Q : zR → Prop} (hI : z_I (.inl (.array .int, L, .inl xs)) h σ ρ) (hi : i + 6 ≤ L) (hL : L ≤ 3072) (kk : ∀ h2 σ2 ρ2, z_I (.inl (.array .int, L, .inl xs)) h2 σ2 ρ2 → h2.2.1 ≤ h.2.1 + 4 → h2.2.2 ≤ h.2.2 + 50 → z_E 1000 115 929 [some (.ref 0), some (.ref 1), some (.ref 18), some (.int (nI i))] [] (z_G h2 σ2 ρ2) Q) :
    z_E 1000 115 499 [some (.ref 0), some (.ref 1), some (.ref 18), some (.int (nI i))] [] (z_G h σ ρ) Q := by
  have hX0 : (z_G h σ ρ).1 0 = some (.inl (.array .int, L, .inl xs)) := by
    obtain ⟨nD, dm, ns, hC, hD, hS, hT, hF⟩ := hI
    exact hF.2.1
  have v1 : vp_in (nI i + 1) L := z_vin 1 (by omega) hL
  have v2 : vp_in (nI i + 2) L := z_vin 2 (by omega) hL
  have v3 : vp_in (nI i + 3) L := z_vin 3 (by omega) hL
  have v4 : vp_in (nI i + 4) L := z_vin 4 (by omega) hL
  have v5 : vp_in (nI i + 5) L := z_vin 5 (by omega) hL
  refine e_aload k115_499 (q := 500) rfl rfl ?_
  refine e_aload k115_500 (q := 501) rfl rfl ?_
  refine e_iload k115_501 (q := 502) rfl rfl ?_
  refine e_const k115_502 (q := 503) rfl ?_
  refine e_ib k115_503 (q := 504) rfl ?_
  refine e_ald k115_504 (q := 505) rfl hX0 v1 ?_
  refine e_i1 k115_505 (q := 506) rfl ?_
  refine g_cv k115_506 (q := 509) (as := [_]) rfl rfl rfl rfl (s_type hI _) rfl (z_ki fun x506 h506 p506 => ?_)
  obtain ⟨⟨hX1, fs1, h18⟩, hm⟩ := p506
  refine e_aload k115_509 (q := 510) rfl rfl ?_
  refine e_aload k115_510 (q := 511) rfl rfl ?_
  refine e_iload k115_511 (q := 512) rfl rfl ?_
  refine e_const k115_512 (q := 513) rfl ?_
  refine e_ib k115_513 (q := 514) rfl ?_
  refine e_ald k115_514 (q := 515) rfl hX1 v1 ?_
  refine e_i1 k115_515 (q := 516) rfl ?_
  refine e_cv k115_516 (as := [_]) rfl rfl h18 (Nat.le_of_ble_eq_true rfl) hm (q := 519) rfl (z_ki fun x516 h516 p516 => ?_)
  obtain ⟨rfl, h2, σ2, ρ2, rfl, hI2, r1, r2⟩ := p516
  refine e_ic k115_519 (q := 522) rfl (fun c519 => ?_) (fun c519 => absurd rfl c519)
  exact kk h2 σ2 ρ2 hI2 r1 r2
