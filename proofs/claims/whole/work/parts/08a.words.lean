/-! ===== made by wip/prog/gen8.py: words by their places; defaults ===== -/
theorem z_All.c {l : Launch} {scr B : Nat} {D : va_G} {M i j : Nat} {o : zO} {t : List zO} (hj : i + 1 = j) (h : z_OK l scr B D M i o) (k : z_All l scr B D M j t) : z_All l scr B D M i (o :: t) := by subst hj; exact ⟨h, k⟩
set_option maxRecDepth 20000 in
theorem zw18 : Jvm.Cond.methodLink "MailVerdicts" 1 Lib.objectInit ∈ z_ws := z_inT (List.mem_of_getElem? (i := 18) rfl) rfl
set_option maxRecDepth 20000 in
theorem zw19 : Jvm.Cond.instanceMethod Lib.objectInit ∈ z_ws := z_inT (List.mem_of_getElem? (i := 19) rfl) rfl
set_option maxRecDepth 20000 in
theorem zw20 : Jvm.Cond.code Lib.objectInit ⟨#[0xb1]⟩ 1 none ∈ z_ws := z_inT (List.mem_of_getElem? (i := 20) rfl) rfl
set_option maxRecDepth 20000 in
theorem zw21 : Jvm.Cond.classLink "MailVerdicts" 9 "MailVerdicts$Domain" ∈ z_ws := z_inT (List.mem_of_getElem? (i := 21) rfl) rfl
set_option maxRecDepth 20000 in
theorem zw22 : Jvm.Cond.arrayOver (.object "MailVerdicts$Domain") ∈ z_ws := z_inT (List.mem_of_getElem? (i := 22) rfl) rfl
set_option maxRecDepth 20000 in
theorem zw125 : Jvm.Cond.fieldLink "MailVerdicts" 11 "MailVerdicts" "domains" "[LMailVerdicts$Domain;" ∈ z_ws := z_inT (List.mem_of_getElem? (i := 125) rfl) rfl
set_option maxRecDepth 20000 in
theorem zw23 : Jvm.Cond.classLink "MailVerdicts" 15 "MailVerdicts$Checking" ∈ z_ws := z_inT (List.mem_of_getElem? (i := 23) rfl) rfl
set_option maxRecDepth 20000 in
theorem zw24 : Jvm.Cond.instantiable "MailVerdicts$Checking" 3 ∈ z_ws := z_inT (List.mem_of_getElem? (i := 24) rfl) rfl
set_option maxRecDepth 20000 in
theorem zw2 : Jvm.Cond.initialized "MailVerdicts$Checking" ∈ z_ws := z_inT (List.mem_of_getElem? (i := 2) rfl) rfl
set_option maxRecDepth 20000 in
theorem zw25 : Jvm.Cond.methodLinkNest "MailVerdicts" 17 ⟨"MailVerdicts$Checking", "<init>", "()V"⟩ "MailVerdicts" ∈ z_ws := z_inT (List.mem_of_getElem? (i := 25) rfl) rfl
set_option maxRecDepth 20000 in
theorem zm35 : z_mok 35 0 := ⟨by decide +kernel, z_inT (List.mem_of_getElem? (i := 27) rfl) rfl, z_inT (List.mem_of_getElem? (i := 2) rfl) rfl, ⟨by decide +kernel, by decide +kernel⟩, by decide +kernel, by decide +kernel⟩
set_option maxRecDepth 20000 in
theorem zw26 : Jvm.Cond.instanceMethod ⟨"MailVerdicts$Checking", "<init>", "()V"⟩ ∈ z_ws := z_inT (List.mem_of_getElem? (i := 26) rfl) rfl
set_option maxRecDepth 20000 in
theorem zw127 : Jvm.Cond.fieldLink "MailVerdicts" 18 "MailVerdicts" "checking" "LMailVerdicts$Checking;" ∈ z_ws := z_inT (List.mem_of_getElem? (i := 127) rfl) rfl
set_option maxRecDepth 20000 in
theorem zw41 : Jvm.Cond.classLink "MailVerdicts" 22 "MailVerdicts$CanonicalForm" ∈ z_ws := z_inT (List.mem_of_getElem? (i := 41) rfl) rfl
set_option maxRecDepth 20000 in
theorem zw42 : Jvm.Cond.instantiable "MailVerdicts$CanonicalForm" 6 ∈ z_ws := z_inT (List.mem_of_getElem? (i := 42) rfl) rfl
set_option maxRecDepth 20000 in
theorem zw3 : Jvm.Cond.initialized "MailVerdicts$CanonicalForm" ∈ z_ws := z_inT (List.mem_of_getElem? (i := 3) rfl) rfl
set_option maxRecDepth 20000 in
theorem zw43 : Jvm.Cond.methodLink "MailVerdicts" 24 ⟨"MailVerdicts$CanonicalForm", "<init>", "()V"⟩ ∈ z_ws := z_inT (List.mem_of_getElem? (i := 43) rfl) rfl
set_option maxRecDepth 20000 in
theorem zm46 : z_mok 46 0 := ⟨by decide +kernel, z_inT (List.mem_of_getElem? (i := 45) rfl) rfl, z_inT (List.mem_of_getElem? (i := 3) rfl) rfl, ⟨by decide +kernel, by decide +kernel⟩, by decide +kernel, by decide +kernel⟩
set_option maxRecDepth 20000 in
theorem zw44 : Jvm.Cond.instanceMethod ⟨"MailVerdicts$CanonicalForm", "<init>", "()V"⟩ ∈ z_ws := z_inT (List.mem_of_getElem? (i := 44) rfl) rfl
set_option maxRecDepth 20000 in
theorem zw128 : Jvm.Cond.fieldLink "MailVerdicts" 25 "MailVerdicts" "form" "LMailVerdicts$CanonicalForm;" ∈ z_ws := z_inT (List.mem_of_getElem? (i := 128) rfl) rfl
set_option maxRecDepth 20000 in
theorem zw101 : Jvm.Cond.fieldLink "MailVerdicts" 29 "MailVerdicts$CanonicalForm" "message" "LMailVerdicts$Message;" ∈ z_ws := z_inT (List.mem_of_getElem? (i := 101) rfl) rfl
set_option maxRecDepth 20000 in
theorem zw129 : Jvm.Cond.fieldLink "MailVerdicts" 33 "MailVerdicts" "message" "LMailVerdicts$Message;" ∈ z_ws := z_inT (List.mem_of_getElem? (i := 129) rfl) rfl
set_option maxRecDepth 20000 in
theorem zw103 : Jvm.Cond.fieldLink "MailVerdicts" 34 "MailVerdicts$CanonicalForm" "names" "LMailVerdicts$Text;" ∈ z_ws := z_inT (List.mem_of_getElem? (i := 103) rfl) rfl
set_option maxRecDepth 20000 in
theorem zw130 : Jvm.Cond.fieldLink "MailVerdicts" 38 "MailVerdicts" "names" "LMailVerdicts$Text;" ∈ z_ws := z_inT (List.mem_of_getElem? (i := 130) rfl) rfl
set_option maxRecDepth 20000 in
theorem zw123 : Jvm.Cond.classLink "MailVerdicts" 39 "MailVerdicts$Signature" ∈ z_ws := z_inT (List.mem_of_getElem? (i := 123) rfl) rfl
set_option maxRecDepth 20000 in
theorem zw124 : Jvm.Cond.arrayOver (.object "MailVerdicts$Signature") ∈ z_ws := z_inT (List.mem_of_getElem? (i := 124) rfl) rfl
set_option maxRecDepth 20000 in
theorem zw131 : Jvm.Cond.fieldLink "MailVerdicts" 41 "MailVerdicts" "signatures" "[LMailVerdicts$Signature;" ∈ z_ws := z_inT (List.mem_of_getElem? (i := 131) rfl) rfl
set_option maxRecDepth 20000 in
theorem zw154 : Jvm.Cond.methodLink "MailVerdicts" 45 ⟨"MailVerdicts", "numbered", "(I)LMailVerdicts$Domain;"⟩ ∈ z_ws := z_inT (List.mem_of_getElem? (i := 154) rfl) rfl
set_option maxRecDepth 20000 in
theorem zm20 : z_mok 20 1 := ⟨by decide +kernel, z_inT (List.mem_of_getElem? (i := 157) rfl) rfl, z_inT (List.mem_of_getElem? (i := 1) rfl) rfl, ⟨by decide +kernel, by decide +kernel⟩, by decide +kernel, by decide +kernel⟩
set_option maxRecDepth 20000 in
theorem zw156 : Jvm.Cond.instanceMethod ⟨"MailVerdicts", "numbered", "(I)LMailVerdicts$Domain;"⟩ ∈ z_ws := z_inT (List.mem_of_getElem? (i := 156) rfl) rfl
set_option maxRecDepth 20000 in
theorem zw126 : Jvm.Cond.fieldLink "MailVerdicts" 49 "MailVerdicts" "domainCount" "I" ∈ z_ws := z_inT (List.mem_of_getElem? (i := 126) rfl) rfl
set_option maxRecDepth 20000 in
theorem zw158 : Jvm.Cond.instantiable "MailVerdicts$Domain" 11 ∈ z_ws := z_inT (List.mem_of_getElem? (i := 158) rfl) rfl
set_option maxRecDepth 20000 in
theorem zw7 : Jvm.Cond.initialized "MailVerdicts$Domain" ∈ z_ws := z_inT (List.mem_of_getElem? (i := 7) rfl) rfl
set_option maxRecDepth 20000 in
theorem zw159 : Jvm.Cond.methodLink "MailVerdicts" 53 ⟨"MailVerdicts$Domain", "<init>", "(LMailVerdicts$Domain;Z)V"⟩ ∈ z_ws := z_inT (List.mem_of_getElem? (i := 159) rfl) rfl
set_option maxRecDepth 20000 in
theorem zm27 : z_mok 27 2 := ⟨by decide +kernel, z_inT (List.mem_of_getElem? (i := 161) rfl) rfl, z_inT (List.mem_of_getElem? (i := 7) rfl) rfl, ⟨by decide +kernel, by decide +kernel⟩, by decide +kernel, by decide +kernel⟩
set_option maxRecDepth 20000 in
theorem zw160 : Jvm.Cond.instanceMethod ⟨"MailVerdicts$Domain", "<init>", "(LMailVerdicts$Domain;Z)V"⟩ ∈ z_ws := z_inT (List.mem_of_getElem? (i := 160) rfl) rfl
set_option maxRecDepth 20000 in
theorem zw212 : Jvm.Cond.methodLink "MailVerdicts" 56 ⟨"MailVerdicts$Domain", "addAddress", "(I)Z"⟩ ∈ z_ws := z_inT (List.mem_of_getElem? (i := 212) rfl) rfl
set_option maxRecDepth 20000 in
theorem zm28 : z_mok 28 1 := ⟨by decide +kernel, z_inT (List.mem_of_getElem? (i := 215) rfl) rfl, z_inT (List.mem_of_getElem? (i := 7) rfl) rfl, ⟨by decide +kernel, by decide +kernel⟩, by decide +kernel, by decide +kernel⟩
set_option maxRecDepth 20000 in
theorem zw213 : Jvm.Cond.instanceMethod ⟨"MailVerdicts$Domain", "addAddress", "(I)Z"⟩ ∈ z_ws := z_inT (List.mem_of_getElem? (i := 213) rfl) rfl
set_option maxRecDepth 20000 in
theorem zw214 : Jvm.Cond.selects "MailVerdicts$Domain" ⟨"MailVerdicts$Domain", "addAddress", "(I)Z"⟩ ⟨"MailVerdicts$Domain", "addAddress", "(I)Z"⟩ ∈ z_ws := z_inT (List.mem_of_getElem? (i := 214) rfl) rfl
set_option maxRecDepth 20000 in
theorem zw220 : Jvm.Cond.methodLink "MailVerdicts" 60 ⟨"MailVerdicts$Domain", "addExchanger", "(LMailVerdicts$Domain;)Z"⟩ ∈ z_ws := z_inT (List.mem_of_getElem? (i := 220) rfl) rfl
set_option maxRecDepth 20000 in
theorem zm29 : z_mok 29 1 := ⟨by decide +kernel, z_inT (List.mem_of_getElem? (i := 223) rfl) rfl, z_inT (List.mem_of_getElem? (i := 7) rfl) rfl, ⟨by decide +kernel, by decide +kernel⟩, by decide +kernel, by decide +kernel⟩
set_option maxRecDepth 20000 in
theorem zw221 : Jvm.Cond.instanceMethod ⟨"MailVerdicts$Domain", "addExchanger", "(LMailVerdicts$Domain;)Z"⟩ ∈ z_ws := z_inT (List.mem_of_getElem? (i := 221) rfl) rfl
set_option maxRecDepth 20000 in
theorem zw222 : Jvm.Cond.selects "MailVerdicts$Domain" ⟨"MailVerdicts$Domain", "addExchanger", "(LMailVerdicts$Domain;)Z"⟩ ⟨"MailVerdicts$Domain", "addExchanger", "(LMailVerdicts$Domain;)Z"⟩ ∈ z_ws := z_inT (List.mem_of_getElem? (i := 222) rfl) rfl
set_option maxRecDepth 20000 in
theorem zw228 : Jvm.Cond.methodLink "MailVerdicts" 64 ⟨"MailVerdicts", "looksAtLength", "(I)Z"⟩ ∈ z_ws := z_inT (List.mem_of_getElem? (i := 228) rfl) rfl
set_option maxRecDepth 20000 in
theorem zm22 : z_mok 22 1 := ⟨by decide +kernel, z_inT (List.mem_of_getElem? (i := 230) rfl) rfl, z_inT (List.mem_of_getElem? (i := 1) rfl) rfl, ⟨by decide +kernel, by decide +kernel⟩, by decide +kernel, by decide +kernel⟩
set_option maxRecDepth 20000 in
theorem zw229 : Jvm.Cond.static ⟨"MailVerdicts", "looksAtLength", "(I)Z"⟩ ∈ z_ws := z_inT (List.mem_of_getElem? (i := 229) rfl) rfl
set_option maxRecDepth 20000 in
theorem zw231 : Jvm.Cond.methodLink "MailVerdicts" 67 ⟨"MailVerdicts", "looksAtDomain", "(I)Z"⟩ ∈ z_ws := z_inT (List.mem_of_getElem? (i := 231) rfl) rfl
set_option maxRecDepth 20000 in
theorem zm23 : z_mok 23 1 := ⟨by decide +kernel, z_inT (List.mem_of_getElem? (i := 233) rfl) rfl, z_inT (List.mem_of_getElem? (i := 1) rfl) rfl, ⟨by decide +kernel, by decide +kernel⟩, by decide +kernel, by decide +kernel⟩
set_option maxRecDepth 20000 in
theorem zw232 : Jvm.Cond.static ⟨"MailVerdicts", "looksAtDomain", "(I)Z"⟩ ∈ z_ws := z_inT (List.mem_of_getElem? (i := 232) rfl) rfl
set_option maxRecDepth 20000 in
theorem zw234 : Jvm.Cond.methodLink "MailVerdicts" 70 ⟨"MailVerdicts$Domain", "hasRoomFor", "(I)Z"⟩ ∈ z_ws := z_inT (List.mem_of_getElem? (i := 234) rfl) rfl
set_option maxRecDepth 20000 in
theorem zm31 : z_mok 31 1 := ⟨by decide +kernel, z_inT (List.mem_of_getElem? (i := 237) rfl) rfl, z_inT (List.mem_of_getElem? (i := 7) rfl) rfl, ⟨by decide +kernel, by decide +kernel⟩, by decide +kernel, by decide +kernel⟩
set_option maxRecDepth 20000 in
theorem zw235 : Jvm.Cond.instanceMethod ⟨"MailVerdicts$Domain", "hasRoomFor", "(I)Z"⟩ ∈ z_ws := z_inT (List.mem_of_getElem? (i := 235) rfl) rfl
set_option maxRecDepth 20000 in
theorem zw236 : Jvm.Cond.selects "MailVerdicts$Domain" ⟨"MailVerdicts$Domain", "hasRoomFor", "(I)Z"⟩ ⟨"MailVerdicts$Domain", "hasRoomFor", "(I)Z"⟩ ∈ z_ws := z_inT (List.mem_of_getElem? (i := 236) rfl) rfl
set_option maxRecDepth 20000 in
theorem zw182 : Jvm.Cond.fieldLink "MailVerdicts" 73 "MailVerdicts$Domain" "lead" "LMailVerdicts$Domain;" ∈ z_ws := z_inT (List.mem_of_getElem? (i := 182) rfl) rfl
set_option maxRecDepth 20000 in
theorem zw242 : Jvm.Cond.classLink "MailVerdicts" 77 "MailVerdicts$Term" ∈ z_ws := z_inT (List.mem_of_getElem? (i := 242) rfl) rfl
set_option maxRecDepth 20000 in
theorem zw243 : Jvm.Cond.instantiable "MailVerdicts$Term" 5 ∈ z_ws := z_inT (List.mem_of_getElem? (i := 243) rfl) rfl
set_option maxRecDepth 20000 in
theorem zw8 : Jvm.Cond.initialized "MailVerdicts$Term" ∈ z_ws := z_inT (List.mem_of_getElem? (i := 8) rfl) rfl
set_option maxRecDepth 20000 in
theorem zw244 : Jvm.Cond.methodLink "MailVerdicts" 79 ⟨"MailVerdicts$Term", "<init>", "(IIILMailVerdicts$Domain;I)V"⟩ ∈ z_ws := z_inT (List.mem_of_getElem? (i := 244) rfl) rfl
set_option maxRecDepth 20000 in
theorem zm66 : z_mok 66 5 := ⟨by decide +kernel, z_inT (List.mem_of_getElem? (i := 246) rfl) rfl, z_inT (List.mem_of_getElem? (i := 8) rfl) rfl, ⟨by decide +kernel, by decide +kernel⟩, by decide +kernel, by decide +kernel⟩
set_option maxRecDepth 20000 in
theorem zw245 : Jvm.Cond.instanceMethod ⟨"MailVerdicts$Term", "<init>", "(IIILMailVerdicts$Domain;I)V"⟩ ∈ z_ws := z_inT (List.mem_of_getElem? (i := 245) rfl) rfl
set_option maxRecDepth 20000 in
theorem zw269 : Jvm.Cond.methodLink "MailVerdicts" 82 ⟨"MailVerdicts$Domain", "addTerm", "(LMailVerdicts$Term;)V"⟩ ∈ z_ws := z_inT (List.mem_of_getElem? (i := 269) rfl) rfl
set_option maxRecDepth 20000 in
theorem zm32 : z_mok 32 1 := ⟨by decide +kernel, z_inT (List.mem_of_getElem? (i := 272) rfl) rfl, z_inT (List.mem_of_getElem? (i := 7) rfl) rfl, ⟨by decide +kernel, by decide +kernel⟩, by decide +kernel, by decide +kernel⟩
set_option maxRecDepth 20000 in
theorem zw270 : Jvm.Cond.instanceMethod ⟨"MailVerdicts$Domain", "addTerm", "(LMailVerdicts$Term;)V"⟩ ∈ z_ws := z_inT (List.mem_of_getElem? (i := 270) rfl) rfl
set_option maxRecDepth 20000 in
theorem zw271 : Jvm.Cond.selects "MailVerdicts$Domain" ⟨"MailVerdicts$Domain", "addTerm", "(LMailVerdicts$Term;)V"⟩ ⟨"MailVerdicts$Domain", "addTerm", "(LMailVerdicts$Term;)V"⟩ ∈ z_ws := z_inT (List.mem_of_getElem? (i := 271) rfl) rfl
set_option maxRecDepth 20000 in
theorem zw273 : Jvm.Cond.methodLink "MailVerdicts" 86 ⟨"MailVerdicts$Domain", "policySize", "()I"⟩ ∈ z_ws := z_inT (List.mem_of_getElem? (i := 273) rfl) rfl
set_option maxRecDepth 20000 in
theorem zm30 : z_mok 30 0 := ⟨by decide +kernel, z_inT (List.mem_of_getElem? (i := 241) rfl) rfl, z_inT (List.mem_of_getElem? (i := 7) rfl) rfl, ⟨by decide +kernel, by decide +kernel⟩, by decide +kernel, by decide +kernel⟩
set_option maxRecDepth 20000 in
theorem zw239 : Jvm.Cond.instanceMethod ⟨"MailVerdicts$Domain", "policySize", "()I"⟩ ∈ z_ws := z_inT (List.mem_of_getElem? (i := 239) rfl) rfl
set_option maxRecDepth 20000 in
theorem zw240 : Jvm.Cond.selects "MailVerdicts$Domain" ⟨"MailVerdicts$Domain", "policySize", "()I"⟩ ⟨"MailVerdicts$Domain", "policySize", "()I"⟩ ∈ z_ws := z_inT (List.mem_of_getElem? (i := 240) rfl) rfl
set_option maxRecDepth 20000 in
theorem zw278 : Jvm.Cond.classLink "MailVerdicts" 90 "MailVerdicts$Key" ∈ z_ws := z_inT (List.mem_of_getElem? (i := 278) rfl) rfl
set_option maxRecDepth 20000 in
theorem zw279 : Jvm.Cond.instantiable "MailVerdicts$Key" 2 ∈ z_ws := z_inT (List.mem_of_getElem? (i := 279) rfl) rfl
set_option maxRecDepth 20000 in
theorem zw9 : Jvm.Cond.initialized "MailVerdicts$Key" ∈ z_ws := z_inT (List.mem_of_getElem? (i := 9) rfl) rfl
set_option maxRecDepth 20000 in
theorem zw280 : Jvm.Cond.methodLink "MailVerdicts" 92 ⟨"MailVerdicts$Key", "<init>", "(II)V"⟩ ∈ z_ws := z_inT (List.mem_of_getElem? (i := 280) rfl) rfl
set_option maxRecDepth 20000 in
theorem zm67 : z_mok 67 2 := ⟨by decide +kernel, z_inT (List.mem_of_getElem? (i := 282) rfl) rfl, z_inT (List.mem_of_getElem? (i := 9) rfl) rfl, ⟨by decide +kernel, by decide +kernel⟩, by decide +kernel, by decide +kernel⟩
set_option maxRecDepth 20000 in
theorem zw281 : Jvm.Cond.instanceMethod ⟨"MailVerdicts$Key", "<init>", "(II)V"⟩ ∈ z_ws := z_inT (List.mem_of_getElem? (i := 281) rfl) rfl
set_option maxRecDepth 20000 in
theorem zw183 : Jvm.Cond.fieldLink "MailVerdicts" 95 "MailVerdicts$Domain" "ownKey" "LMailVerdicts$Key;" ∈ z_ws := z_inT (List.mem_of_getElem? (i := 183) rfl) rfl
set_option maxRecDepth 20000 in
theorem zw295 : Jvm.Cond.methodLink "MailVerdicts" 99 ⟨"MailVerdicts", "isWish", "(I)Z"⟩ ∈ z_ws := z_inT (List.mem_of_getElem? (i := 295) rfl) rfl
set_option maxRecDepth 20000 in
theorem zm24 : z_mok 24 1 := ⟨by decide +kernel, z_inT (List.mem_of_getElem? (i := 297) rfl) rfl, z_inT (List.mem_of_getElem? (i := 1) rfl) rfl, ⟨by decide +kernel, by decide +kernel⟩, by decide +kernel, by decide +kernel⟩
set_option maxRecDepth 20000 in
theorem zw296 : Jvm.Cond.static ⟨"MailVerdicts", "isWish", "(I)Z"⟩ ∈ z_ws := z_inT (List.mem_of_getElem? (i := 296) rfl) rfl
set_option maxRecDepth 20000 in
theorem zw298 : Jvm.Cond.classLink "MailVerdicts" 102 "MailVerdicts$Wish" ∈ z_ws := z_inT (List.mem_of_getElem? (i := 298) rfl) rfl
set_option maxRecDepth 20000 in
theorem zw299 : Jvm.Cond.instantiable "MailVerdicts$Wish" 4 ∈ z_ws := z_inT (List.mem_of_getElem? (i := 299) rfl) rfl
set_option maxRecDepth 20000 in
theorem zw10 : Jvm.Cond.initialized "MailVerdicts$Wish" ∈ z_ws := z_inT (List.mem_of_getElem? (i := 10) rfl) rfl
set_option maxRecDepth 20000 in
theorem zw300 : Jvm.Cond.methodLink "MailVerdicts" 104 ⟨"MailVerdicts$Wish", "<init>", "(IIZZ)V"⟩ ∈ z_ws := z_inT (List.mem_of_getElem? (i := 300) rfl) rfl
set_option maxRecDepth 20000 in
theorem zm69 : z_mok 69 4 := ⟨by decide +kernel, z_inT (List.mem_of_getElem? (i := 302) rfl) rfl, z_inT (List.mem_of_getElem? (i := 10) rfl) rfl, ⟨by decide +kernel, by decide +kernel⟩, by decide +kernel, by decide +kernel⟩
set_option maxRecDepth 20000 in
theorem zw301 : Jvm.Cond.instanceMethod ⟨"MailVerdicts$Wish", "<init>", "(IIZZ)V"⟩ ∈ z_ws := z_inT (List.mem_of_getElem? (i := 301) rfl) rfl
set_option maxRecDepth 20000 in
theorem zw184 : Jvm.Cond.fieldLink "MailVerdicts" 107 "MailVerdicts$Domain" "ownWish" "LMailVerdicts$Wish;" ∈ z_ws := z_inT (List.mem_of_getElem? (i := 184) rfl) rfl
set_option maxRecDepth 20000 in
theorem zw325 : Jvm.Cond.methodLink "MailVerdicts" 111 ⟨"MailVerdicts$Checking", "begin", "(ILMailVerdicts$Domain;)I"⟩ ∈ z_ws := z_inT (List.mem_of_getElem? (i := 325) rfl) rfl
set_option maxRecDepth 20000 in
theorem zm36 : z_mok 36 2 := ⟨by decide +kernel, z_inT (List.mem_of_getElem? (i := 328) rfl) rfl, z_inT (List.mem_of_getElem? (i := 2) rfl) rfl, ⟨by decide +kernel, by decide +kernel⟩, by decide +kernel, by decide +kernel⟩
set_option maxRecDepth 20000 in
theorem zw326 : Jvm.Cond.instanceMethod ⟨"MailVerdicts$Checking", "begin", "(ILMailVerdicts$Domain;)I"⟩ ∈ z_ws := z_inT (List.mem_of_getElem? (i := 326) rfl) rfl
set_option maxRecDepth 20000 in
theorem zw327 : Jvm.Cond.selects "MailVerdicts$Checking" ⟨"MailVerdicts$Checking", "begin", "(ILMailVerdicts$Domain;)I"⟩ ⟨"MailVerdicts$Checking", "begin", "(ILMailVerdicts$Domain;)I"⟩ ∈ z_ws := z_inT (List.mem_of_getElem? (i := 327) rfl) rfl
set_option maxRecDepth 20000 in
theorem zw31 : Jvm.Cond.fieldLink "MailVerdicts" 115 "MailVerdicts$Checking" "queryCount" "I" ∈ z_ws := z_inT (List.mem_of_getElem? (i := 31) rfl) rfl
set_option maxRecDepth 20000 in
theorem zw33 : Jvm.Cond.fieldLink "MailVerdicts" 118 "MailVerdicts$Checking" "emptyCount" "I" ∈ z_ws := z_inT (List.mem_of_getElem? (i := 33) rfl) rfl
set_option maxRecDepth 20000 in
theorem zw72 : Jvm.Cond.fieldLink "MailVerdicts" 121 "MailVerdicts$Message" "text" "LMailVerdicts$Text;" ∈ z_ws := z_inT (List.mem_of_getElem? (i := 72) rfl) rfl
set_option maxRecDepth 20000 in
theorem zw378 : Jvm.Cond.methodLink "MailVerdicts" 126 ⟨"MailVerdicts$Text", "append", "(I)Z"⟩ ∈ z_ws := z_inT (List.mem_of_getElem? (i := 378) rfl) rfl
set_option maxRecDepth 20000 in
theorem zm61 : z_mok 61 1 := ⟨by decide +kernel, z_inT (List.mem_of_getElem? (i := 381) rfl) rfl, z_inT (List.mem_of_getElem? (i := 5) rfl) rfl, ⟨by decide +kernel, by decide +kernel⟩, by decide +kernel, by decide +kernel⟩
set_option maxRecDepth 20000 in
theorem zw379 : Jvm.Cond.instanceMethod ⟨"MailVerdicts$Text", "append", "(I)Z"⟩ ∈ z_ws := z_inT (List.mem_of_getElem? (i := 379) rfl) rfl
set_option maxRecDepth 20000 in
theorem zw380 : Jvm.Cond.selects "MailVerdicts$Text" ⟨"MailVerdicts$Text", "append", "(I)Z"⟩ ⟨"MailVerdicts$Text", "append", "(I)Z"⟩ ∈ z_ws := z_inT (List.mem_of_getElem? (i := 380) rfl) rfl
set_option maxRecDepth 20000 in
theorem zw386 : Jvm.Cond.methodLink "MailVerdicts" 131 ⟨"MailVerdicts", "isNameSign", "(I)Z"⟩ ∈ z_ws := z_inT (List.mem_of_getElem? (i := 386) rfl) rfl
set_option maxRecDepth 20000 in
theorem zm25 : z_mok 25 1 := ⟨by decide +kernel, z_inT (List.mem_of_getElem? (i := 388) rfl) rfl, z_inT (List.mem_of_getElem? (i := 1) rfl) rfl, ⟨by decide +kernel, by decide +kernel⟩, by decide +kernel, by decide +kernel⟩
set_option maxRecDepth 20000 in
theorem zw387 : Jvm.Cond.static ⟨"MailVerdicts", "isNameSign", "(I)Z"⟩ ∈ z_ws := z_inT (List.mem_of_getElem? (i := 387) rfl) rfl
set_option maxRecDepth 20000 in
theorem zw393 : Jvm.Cond.methodLink "MailVerdicts" 134 ⟨"MailVerdicts$Text", "cut", "(I)V"⟩ ∈ z_ws := z_inT (List.mem_of_getElem? (i := 393) rfl) rfl
set_option maxRecDepth 20000 in
theorem zm63 : z_mok 63 1 := ⟨by decide +kernel, z_inT (List.mem_of_getElem? (i := 396) rfl) rfl, z_inT (List.mem_of_getElem? (i := 5) rfl) rfl, ⟨by decide +kernel, by decide +kernel⟩, by decide +kernel, by decide +kernel⟩
set_option maxRecDepth 20000 in
theorem zw394 : Jvm.Cond.instanceMethod ⟨"MailVerdicts$Text", "cut", "(I)V"⟩ ∈ z_ws := z_inT (List.mem_of_getElem? (i := 394) rfl) rfl
set_option maxRecDepth 20000 in
theorem zw395 : Jvm.Cond.selects "MailVerdicts$Text" ⟨"MailVerdicts$Text", "cut", "(I)V"⟩ ⟨"MailVerdicts$Text", "cut", "(I)V"⟩ ∈ z_ws := z_inT (List.mem_of_getElem? (i := 395) rfl) rfl
set_option maxRecDepth 20000 in
theorem zw132 : Jvm.Cond.fieldLink "MailVerdicts" 138 "MailVerdicts" "signatureCount" "I" ∈ z_ws := z_inT (List.mem_of_getElem? (i := 132) rfl) rfl
set_option maxRecDepth 20000 in
theorem zw401 : Jvm.Cond.methodLink "MailVerdicts" 141 ⟨"MailVerdicts$Message", "read", "()Z"⟩ ∈ z_ws := z_inT (List.mem_of_getElem? (i := 401) rfl) rfl
set_option maxRecDepth 20000 in
theorem zm57 : z_mok 57 0 := ⟨by decide +kernel, z_inT (List.mem_of_getElem? (i := 404) rfl) rfl, z_inT (List.mem_of_getElem? (i := 4) rfl) rfl, ⟨by decide +kernel, by decide +kernel⟩, by decide +kernel, by decide +kernel⟩
set_option maxRecDepth 20000 in
theorem zw402 : Jvm.Cond.instanceMethod ⟨"MailVerdicts$Message", "read", "()Z"⟩ ∈ z_ws := z_inT (List.mem_of_getElem? (i := 402) rfl) rfl
set_option maxRecDepth 20000 in
theorem zw403 : Jvm.Cond.selects "MailVerdicts$Message" ⟨"MailVerdicts$Message", "read", "()Z"⟩ ⟨"MailVerdicts$Message", "read", "()Z"⟩ ∈ z_ws := z_inT (List.mem_of_getElem? (i := 403) rfl) rfl
set_option maxRecDepth 20000 in
theorem zw75 : Jvm.Cond.fieldLink "MailVerdicts" 145 "MailVerdicts$Message" "fieldCount" "I" ∈ z_ws := z_inT (List.mem_of_getElem? (i := 75) rfl) rfl
set_option maxRecDepth 20000 in
theorem zw422 : Jvm.Cond.methodLink "MailVerdicts" 148 ⟨"MailVerdicts$CanonicalForm", "write", "(ZZ)Z"⟩ ∈ z_ws := z_inT (List.mem_of_getElem? (i := 422) rfl) rfl
set_option maxRecDepth 20000 in
theorem zm47 : z_mok 47 2 := ⟨by decide +kernel, z_inT (List.mem_of_getElem? (i := 425) rfl) rfl, z_inT (List.mem_of_getElem? (i := 3) rfl) rfl, ⟨by decide +kernel, by decide +kernel⟩, by decide +kernel, by decide +kernel⟩
set_option maxRecDepth 20000 in
theorem zw423 : Jvm.Cond.instanceMethod ⟨"MailVerdicts$CanonicalForm", "write", "(ZZ)Z"⟩ ∈ z_ws := z_inT (List.mem_of_getElem? (i := 423) rfl) rfl
set_option maxRecDepth 20000 in
theorem zw424 : Jvm.Cond.selects "MailVerdicts$CanonicalForm" ⟨"MailVerdicts$CanonicalForm", "write", "(ZZ)Z"⟩ ⟨"MailVerdicts$CanonicalForm", "write", "(ZZ)Z"⟩ ∈ z_ws := z_inT (List.mem_of_getElem? (i := 424) rfl) rfl
set_option maxRecDepth 20000 in
theorem zw105 : Jvm.Cond.fieldLink "MailVerdicts" 152 "MailVerdicts$CanonicalForm" "text" "LMailVerdicts$Text;" ∈ z_ws := z_inT (List.mem_of_getElem? (i := 105) rfl) rfl
set_option maxRecDepth 20000 in
theorem zw63 : Jvm.Cond.fieldLink "MailVerdicts" 153 "MailVerdicts$Text" "size" "I" ∈ z_ws := z_inT (List.mem_of_getElem? (i := 63) rfl) rfl
set_option maxRecDepth 20000 in
theorem zw469 : Jvm.Cond.methodLink "MailVerdicts" 156 ⟨"MailVerdicts$Text", "codeAt", "(I)I"⟩ ∈ z_ws := z_inT (List.mem_of_getElem? (i := 469) rfl) rfl
set_option maxRecDepth 20000 in
theorem zm62 : z_mok 62 1 := ⟨by decide +kernel, z_inT (List.mem_of_getElem? (i := 408) rfl) rfl, z_inT (List.mem_of_getElem? (i := 5) rfl) rfl, ⟨by decide +kernel, by decide +kernel⟩, by decide +kernel, by decide +kernel⟩
set_option maxRecDepth 20000 in
theorem zw406 : Jvm.Cond.instanceMethod ⟨"MailVerdicts$Text", "codeAt", "(I)I"⟩ ∈ z_ws := z_inT (List.mem_of_getElem? (i := 406) rfl) rfl
set_option maxRecDepth 20000 in
theorem zw407 : Jvm.Cond.selects "MailVerdicts$Text" ⟨"MailVerdicts$Text", "codeAt", "(I)I"⟩ ⟨"MailVerdicts$Text", "codeAt", "(I)I"⟩ ∈ z_ws := z_inT (List.mem_of_getElem? (i := 407) rfl) rfl
set_option maxRecDepth 20000 in
theorem zw474 : Jvm.Cond.methodLink "MailVerdicts" 160 ⟨"MailVerdicts$Text", "summary", "()I"⟩ ∈ z_ws := z_inT (List.mem_of_getElem? (i := 474) rfl) rfl
set_option maxRecDepth 20000 in
theorem zm64 : z_mok 64 0 := ⟨by decide +kernel, z_inT (List.mem_of_getElem? (i := 477) rfl) rfl, z_inT (List.mem_of_getElem? (i := 5) rfl) rfl, ⟨by decide +kernel, by decide +kernel⟩, by decide +kernel, by decide +kernel⟩
set_option maxRecDepth 20000 in
theorem zw475 : Jvm.Cond.instanceMethod ⟨"MailVerdicts$Text", "summary", "()I"⟩ ∈ z_ws := z_inT (List.mem_of_getElem? (i := 475) rfl) rfl
set_option maxRecDepth 20000 in
theorem zw476 : Jvm.Cond.selects "MailVerdicts$Text" ⟨"MailVerdicts$Text", "summary", "()I"⟩ ⟨"MailVerdicts$Text", "summary", "()I"⟩ ∈ z_ws := z_inT (List.mem_of_getElem? (i := 476) rfl) rfl
set_option maxRecDepth 20000 in
theorem zw484 : Jvm.Cond.instantiable "MailVerdicts$Signature" 4 ∈ z_ws := z_inT (List.mem_of_getElem? (i := 484) rfl) rfl
set_option maxRecDepth 20000 in
theorem zw11 : Jvm.Cond.initialized "MailVerdicts$Signature" ∈ z_ws := z_inT (List.mem_of_getElem? (i := 11) rfl) rfl
set_option maxRecDepth 20000 in
theorem zw485 : Jvm.Cond.methodLink "MailVerdicts" 163 ⟨"MailVerdicts$Signature", "<init>", "(LMailVerdicts$Domain;ZZI)V"⟩ ∈ z_ws := z_inT (List.mem_of_getElem? (i := 485) rfl) rfl
set_option maxRecDepth 20000 in
theorem zm65 : z_mok 65 4 := ⟨by decide +kernel, z_inT (List.mem_of_getElem? (i := 487) rfl) rfl, z_inT (List.mem_of_getElem? (i := 11) rfl) rfl, ⟨by decide +kernel, by decide +kernel⟩, by decide +kernel, by decide +kernel⟩
set_option maxRecDepth 20000 in
theorem zw486 : Jvm.Cond.instanceMethod ⟨"MailVerdicts$Signature", "<init>", "(LMailVerdicts$Domain;ZZI)V"⟩ ∈ z_ws := z_inT (List.mem_of_getElem? (i := 486) rfl) rfl
set_option maxRecDepth 20000 in
theorem zw510 : Jvm.Cond.methodLink "MailVerdicts" 166 ⟨"MailVerdicts", "isGood", "(LMailVerdicts$Signature;)Z"⟩ ∈ z_ws := z_inT (List.mem_of_getElem? (i := 510) rfl) rfl
set_option maxRecDepth 20000 in
theorem zm21 : z_mok 21 1 := ⟨by decide +kernel, z_inT (List.mem_of_getElem? (i := 513) rfl) rfl, z_inT (List.mem_of_getElem? (i := 1) rfl) rfl, ⟨by decide +kernel, by decide +kernel⟩, by decide +kernel, by decide +kernel⟩
set_option maxRecDepth 20000 in
theorem zw512 : Jvm.Cond.instanceMethod ⟨"MailVerdicts", "isGood", "(LMailVerdicts$Signature;)Z"⟩ ∈ z_ws := z_inT (List.mem_of_getElem? (i := 512) rfl) rfl
set_option maxRecDepth 20000 in
theorem zw525 : Jvm.Cond.methodLink "MailVerdicts" 170 ⟨"MailVerdicts$Domain", "organisation", "()LMailVerdicts$Domain;"⟩ ∈ z_ws := z_inT (List.mem_of_getElem? (i := 525) rfl) rfl
set_option maxRecDepth 20000 in
theorem zm33 : z_mok 33 0 := ⟨by decide +kernel, z_inT (List.mem_of_getElem? (i := 528) rfl) rfl, z_inT (List.mem_of_getElem? (i := 7) rfl) rfl, ⟨by decide +kernel, by decide +kernel⟩, by decide +kernel, by decide +kernel⟩
set_option maxRecDepth 20000 in
theorem zw526 : Jvm.Cond.instanceMethod ⟨"MailVerdicts$Domain", "organisation", "()LMailVerdicts$Domain;"⟩ ∈ z_ws := z_inT (List.mem_of_getElem? (i := 526) rfl) rfl
set_option maxRecDepth 20000 in
theorem zw527 : Jvm.Cond.selects "MailVerdicts$Domain" ⟨"MailVerdicts$Domain", "organisation", "()LMailVerdicts$Domain;"⟩ ⟨"MailVerdicts$Domain", "organisation", "()LMailVerdicts$Domain;"⟩ ∈ z_ws := z_inT (List.mem_of_getElem? (i := 527) rfl) rfl
set_option maxRecDepth 20000 in
theorem zw309 : Jvm.Cond.fieldLink "MailVerdicts" 174 "MailVerdicts$Wish" "strictSender" "Z" ∈ z_ws := z_inT (List.mem_of_getElem? (i := 309) rfl) rfl
set_option maxRecDepth 20000 in
theorem zw529 : Jvm.Cond.methodLink "MailVerdicts" 178 ⟨"MailVerdicts$Domain", "fits", "(LMailVerdicts$Domain;Z)Z"⟩ ∈ z_ws := z_inT (List.mem_of_getElem? (i := 529) rfl) rfl
set_option maxRecDepth 20000 in
theorem zm34 : z_mok 34 2 := ⟨by decide +kernel, z_inT (List.mem_of_getElem? (i := 532) rfl) rfl, z_inT (List.mem_of_getElem? (i := 7) rfl) rfl, ⟨by decide +kernel, by decide +kernel⟩, by decide +kernel, by decide +kernel⟩
set_option maxRecDepth 20000 in
theorem zw530 : Jvm.Cond.instanceMethod ⟨"MailVerdicts$Domain", "fits", "(LMailVerdicts$Domain;Z)Z"⟩ ∈ z_ws := z_inT (List.mem_of_getElem? (i := 530) rfl) rfl
set_option maxRecDepth 20000 in
theorem zw531 : Jvm.Cond.selects "MailVerdicts$Domain" ⟨"MailVerdicts$Domain", "fits", "(LMailVerdicts$Domain;Z)Z"⟩ ⟨"MailVerdicts$Domain", "fits", "(LMailVerdicts$Domain;Z)Z"⟩ ∈ z_ws := z_inT (List.mem_of_getElem? (i := 531) rfl) rfl
set_option maxRecDepth 20000 in
theorem zw490 : Jvm.Cond.fieldLink "MailVerdicts" 182 "MailVerdicts$Signature" "signer" "LMailVerdicts$Domain;" ∈ z_ws := z_inT (List.mem_of_getElem? (i := 490) rfl) rfl
set_option maxRecDepth 20000 in
theorem zw311 : Jvm.Cond.fieldLink "MailVerdicts" 185 "MailVerdicts$Wish" "strictSigner" "Z" ∈ z_ws := z_inT (List.mem_of_getElem? (i := 311) rfl) rfl
set_option maxRecDepth 20000 in
theorem zw305 : Jvm.Cond.fieldLink "MailVerdicts" 188 "MailVerdicts$Wish" "own" "I" ∈ z_ws := z_inT (List.mem_of_getElem? (i := 305) rfl) rfl
set_option maxRecDepth 20000 in
theorem zw307 : Jvm.Cond.fieldLink "MailVerdicts" 191 "MailVerdicts$Wish" "below" "I" ∈ z_ws := z_inT (List.mem_of_getElem? (i := 307) rfl) rfl
set_option maxRecDepth 20000 in
theorem zw492 : Jvm.Cond.fieldLink "MailVerdicts" 194 "MailVerdicts$Signature" "relaxedFields" "Z" ∈ z_ws := z_inT (List.mem_of_getElem? (i := 492) rfl) rfl
set_option maxRecDepth 20000 in
theorem zw494 : Jvm.Cond.fieldLink "MailVerdicts" 197 "MailVerdicts$Signature" "relaxedBody" "Z" ∈ z_ws := z_inT (List.mem_of_getElem? (i := 494) rfl) rfl
set_option maxRecDepth 20000 in
theorem zw496 : Jvm.Cond.fieldLink "MailVerdicts" 200 "MailVerdicts$Signature" "number" "I" ∈ z_ws := z_inT (List.mem_of_getElem? (i := 496) rfl) rfl
set_option maxRecDepth 20000 in
theorem zw514 : Jvm.Cond.methodLink "MailVerdicts" 203 ⟨"MailVerdicts$Key", "opens", "(II)Z"⟩ ∈ z_ws := z_inT (List.mem_of_getElem? (i := 514) rfl) rfl
set_option maxRecDepth 20000 in
theorem zm68 : z_mok 68 2 := ⟨by decide +kernel, z_inT (List.mem_of_getElem? (i := 517) rfl) rfl, z_inT (List.mem_of_getElem? (i := 9) rfl) rfl, ⟨by decide +kernel, by decide +kernel⟩, by decide +kernel, by decide +kernel⟩
set_option maxRecDepth 20000 in
theorem zw515 : Jvm.Cond.instanceMethod ⟨"MailVerdicts$Key", "opens", "(II)Z"⟩ ∈ z_ws := z_inT (List.mem_of_getElem? (i := 515) rfl) rfl
set_option maxRecDepth 20000 in
theorem zw516 : Jvm.Cond.selects "MailVerdicts$Key" ⟨"MailVerdicts$Key", "opens", "(II)Z"⟩ ⟨"MailVerdicts$Key", "opens", "(II)Z"⟩ ∈ z_ws := z_inT (List.mem_of_getElem? (i := 516) rfl) rfl
set_option maxRecDepth 20000 in
theorem zw162 : Jvm.Cond.methodLink "MailVerdicts$Domain" 3 Lib.objectInit ∈ z_ws := z_inT (List.mem_of_getElem? (i := 162) rfl) rfl
set_option maxRecDepth 20000 in
theorem zw166 : Jvm.Cond.fieldLink "MailVerdicts$Domain" 9 "MailVerdicts$Domain" "parent" "LMailVerdicts$Domain;" ∈ z_ws := z_inT (List.mem_of_getElem? (i := 166) rfl) rfl
set_option maxRecDepth 20000 in
theorem zw167 : Jvm.Cond.fieldLink "MailVerdicts$Domain" 15 "MailVerdicts$Domain" "suffix" "Z" ∈ z_ws := z_inT (List.mem_of_getElem? (i := 167) rfl) rfl
set_option maxRecDepth 20000 in
theorem zw97 : Jvm.Cond.arrayClass (newarray.typeOf .int) ∈ z_ws := z_inT (List.mem_of_getElem? (i := 97) rfl) rfl
set_option maxRecDepth 20000 in
theorem zw168 : Jvm.Cond.fieldLink "MailVerdicts$Domain" 19 "MailVerdicts$Domain" "addresses" "[I" ∈ z_ws := z_inT (List.mem_of_getElem? (i := 168) rfl) rfl
set_option maxRecDepth 20000 in
theorem zw163 : Jvm.Cond.classLink "MailVerdicts$Domain" 10 "MailVerdicts$Domain" ∈ z_ws := z_inT (List.mem_of_getElem? (i := 163) rfl) rfl
set_option maxRecDepth 20000 in
theorem zw172 : Jvm.Cond.fieldLink "MailVerdicts$Domain" 23 "MailVerdicts$Domain" "exchangers" "[LMailVerdicts$Domain;" ∈ z_ws := z_inT (List.mem_of_getElem? (i := 172) rfl) rfl
set_option maxRecDepth 20000 in
theorem zw164 : Jvm.Cond.classLink "MailVerdicts$Domain" 27 "MailVerdicts$Term" ∈ z_ws := z_inT (List.mem_of_getElem? (i := 164) rfl) rfl
set_option maxRecDepth 20000 in
theorem zw165 : Jvm.Cond.arrayOver (.object "MailVerdicts$Term") ∈ z_ws := z_inT (List.mem_of_getElem? (i := 165) rfl) rfl
set_option maxRecDepth 20000 in
theorem zw176 : Jvm.Cond.fieldLink "MailVerdicts$Domain" 29 "MailVerdicts$Domain" "terms" "[LMailVerdicts$Term;" ∈ z_ws := z_inT (List.mem_of_getElem? (i := 176) rfl) rfl
set_option maxRecDepth 20000 in
theorem zw170 : Jvm.Cond.fieldLink "MailVerdicts$Domain" 33 "MailVerdicts$Domain" "addressCount" "I" ∈ z_ws := z_inT (List.mem_of_getElem? (i := 170) rfl) rfl
set_option maxRecDepth 20000 in
theorem zw174 : Jvm.Cond.fieldLink "MailVerdicts$Domain" 37 "MailVerdicts$Domain" "exchangerCount" "I" ∈ z_ws := z_inT (List.mem_of_getElem? (i := 174) rfl) rfl
set_option maxRecDepth 20000 in
theorem zw181 : Jvm.Cond.fieldLink "MailVerdicts$Domain" 40 "MailVerdicts$Domain" "lead" "LMailVerdicts$Domain;" ∈ z_ws := z_inT (List.mem_of_getElem? (i := 181) rfl) rfl
set_option maxRecDepth 20000 in
theorem zw179 : Jvm.Cond.fieldLink "MailVerdicts$Domain" 43 "MailVerdicts$Domain" "termCount" "I" ∈ z_ws := z_inT (List.mem_of_getElem? (i := 179) rfl) rfl
set_option maxRecDepth 20000 in
theorem zw238 : Jvm.Cond.methodLink "MailVerdicts$Domain" 46 ⟨"MailVerdicts$Domain", "policySize", "()I"⟩ ∈ z_ws := z_inT (List.mem_of_getElem? (i := 238) rfl) rfl
set_option maxRecDepth 20000 in
theorem zw533 : Jvm.Cond.methodLink "MailVerdicts$Domain" 50 ⟨"MailVerdicts$Domain", "organisation", "()LMailVerdicts$Domain;"⟩ ∈ z_ws := z_inT (List.mem_of_getElem? (i := 533) rfl) rfl
set_option maxRecDepth 20000 in
theorem zw28 : Jvm.Cond.methodLink "MailVerdicts$Checking" 3 Lib.objectInit ∈ z_ws := z_inT (List.mem_of_getElem? (i := 28) rfl) rfl
set_option maxRecDepth 20000 in
theorem zw29 : Jvm.Cond.fieldLink "MailVerdicts$Checking" 9 "MailVerdicts$Checking" "number" "I" ∈ z_ws := z_inT (List.mem_of_getElem? (i := 29) rfl) rfl
set_option maxRecDepth 20000 in
theorem zw30 : Jvm.Cond.fieldLink "MailVerdicts$Checking" 15 "MailVerdicts$Checking" "queryCount" "I" ∈ z_ws := z_inT (List.mem_of_getElem? (i := 30) rfl) rfl
set_option maxRecDepth 20000 in
theorem zw32 : Jvm.Cond.fieldLink "MailVerdicts$Checking" 18 "MailVerdicts$Checking" "emptyCount" "I" ∈ z_ws := z_inT (List.mem_of_getElem? (i := 32) rfl) rfl
set_option maxRecDepth 20000 in
theorem zw329 : Jvm.Cond.methodLink "MailVerdicts$Checking" 21 ⟨"MailVerdicts$Checking", "resultFor", "(LMailVerdicts$Domain;I)I"⟩ ∈ z_ws := z_inT (List.mem_of_getElem? (i := 329) rfl) rfl
set_option maxRecDepth 20000 in
theorem zm37 : z_mok 37 2 := ⟨by decide +kernel, z_inT (List.mem_of_getElem? (i := 332) rfl) rfl, z_inT (List.mem_of_getElem? (i := 2) rfl) rfl, ⟨by decide +kernel, by decide +kernel⟩, by decide +kernel, by decide +kernel⟩
set_option maxRecDepth 20000 in
theorem zw331 : Jvm.Cond.instanceMethod ⟨"MailVerdicts$Checking", "resultFor", "(LMailVerdicts$Domain;I)I"⟩ ∈ z_ws := z_inT (List.mem_of_getElem? (i := 331) rfl) rfl
set_option maxRecDepth 20000 in
theorem zw333 : Jvm.Cond.methodLink "MailVerdicts$Checking" 25 ⟨"MailVerdicts$Domain", "policySize", "()I"⟩ ∈ z_ws := z_inT (List.mem_of_getElem? (i := 333) rfl) rfl
set_option maxRecDepth 20000 in
theorem zw178 : Jvm.Cond.fieldLink "MailVerdicts$Checking" 31 "MailVerdicts$Domain" "termCount" "I" ∈ z_ws := z_inT (List.mem_of_getElem? (i := 178) rfl) rfl
set_option maxRecDepth 20000 in
theorem zw177 : Jvm.Cond.fieldLink "MailVerdicts$Checking" 34 "MailVerdicts$Domain" "terms" "[LMailVerdicts$Term;" ∈ z_ws := z_inT (List.mem_of_getElem? (i := 177) rfl) rfl
set_option maxRecDepth 20000 in
theorem zw334 : Jvm.Cond.methodLink "MailVerdicts$Checking" 38 ⟨"MailVerdicts$Checking", "outcomeOf", "(LMailVerdicts$Term;I)I"⟩ ∈ z_ws := z_inT (List.mem_of_getElem? (i := 334) rfl) rfl
set_option maxRecDepth 20000 in
theorem zm39 : z_mok 39 2 := ⟨by decide +kernel, z_inT (List.mem_of_getElem? (i := 337) rfl) rfl, z_inT (List.mem_of_getElem? (i := 2) rfl) rfl, ⟨by decide +kernel, by decide +kernel⟩, by decide +kernel, by decide +kernel⟩
set_option maxRecDepth 20000 in
theorem zw336 : Jvm.Cond.instanceMethod ⟨"MailVerdicts$Checking", "outcomeOf", "(LMailVerdicts$Term;I)I"⟩ ∈ z_ws := z_inT (List.mem_of_getElem? (i := 336) rfl) rfl
set_option maxRecDepth 20000 in
theorem zw249 : Jvm.Cond.fieldLink "MailVerdicts$Checking" 42 "MailVerdicts$Term" "qualifier" "I" ∈ z_ws := z_inT (List.mem_of_getElem? (i := 249) rfl) rfl
set_option maxRecDepth 20000 in
theorem zw180 : Jvm.Cond.fieldLink "MailVerdicts$Checking" 47 "MailVerdicts$Domain" "lead" "LMailVerdicts$Domain;" ∈ z_ws := z_inT (List.mem_of_getElem? (i := 180) rfl) rfl
set_option maxRecDepth 20000 in
theorem zw362 : Jvm.Cond.methodLink "MailVerdicts$Checking" 51 ⟨"MailVerdicts$Checking", "resultOfLead", "(LMailVerdicts$Domain;I)I"⟩ ∈ z_ws := z_inT (List.mem_of_getElem? (i := 362) rfl) rfl
set_option maxRecDepth 20000 in
theorem zm38 : z_mok 38 2 := ⟨by decide +kernel, z_inT (List.mem_of_getElem? (i := 365) rfl) rfl, z_inT (List.mem_of_getElem? (i := 2) rfl) rfl, ⟨by decide +kernel, by decide +kernel⟩, by decide +kernel, by decide +kernel⟩
set_option maxRecDepth 20000 in
theorem zw364 : Jvm.Cond.instanceMethod ⟨"MailVerdicts$Checking", "resultOfLead", "(LMailVerdicts$Domain;I)I"⟩ ∈ z_ws := z_inT (List.mem_of_getElem? (i := 364) rfl) rfl
set_option maxRecDepth 20000 in
theorem zw342 : Jvm.Cond.methodLink "MailVerdicts$Checking" 54 ⟨"MailVerdicts$Checking", "countQuery", "()Z"⟩ ∈ z_ws := z_inT (List.mem_of_getElem? (i := 342) rfl) rfl
set_option maxRecDepth 20000 in
theorem zm44 : z_mok 44 0 := ⟨by decide +kernel, z_inT (List.mem_of_getElem? (i := 345) rfl) rfl, z_inT (List.mem_of_getElem? (i := 2) rfl) rfl, ⟨by decide +kernel, by decide +kernel⟩, by decide +kernel, by decide +kernel⟩
set_option maxRecDepth 20000 in
theorem zw344 : Jvm.Cond.instanceMethod ⟨"MailVerdicts$Checking", "countQuery", "()Z"⟩ ∈ z_ws := z_inT (List.mem_of_getElem? (i := 344) rfl) rfl
set_option maxRecDepth 20000 in
theorem zw251 : Jvm.Cond.fieldLink "MailVerdicts$Checking" 58 "MailVerdicts$Term" "kind" "I" ∈ z_ws := z_inT (List.mem_of_getElem? (i := 251) rfl) rfl
set_option maxRecDepth 20000 in
theorem zw253 : Jvm.Cond.fieldLink "MailVerdicts$Checking" 61 "MailVerdicts$Term" "number" "I" ∈ z_ws := z_inT (List.mem_of_getElem? (i := 253) rfl) rfl
set_option maxRecDepth 20000 in
theorem zw257 : Jvm.Cond.fieldLink "MailVerdicts$Checking" 62 "MailVerdicts$Term" "length" "I" ∈ z_ws := z_inT (List.mem_of_getElem? (i := 257) rfl) rfl
set_option maxRecDepth 20000 in
theorem zw338 : Jvm.Cond.methodLink "MailVerdicts$Checking" 65 ⟨"MailVerdicts$Checking", "beginsLike", "(II)Z"⟩ ∈ z_ws := z_inT (List.mem_of_getElem? (i := 338) rfl) rfl
set_option maxRecDepth 20000 in
theorem zm45 : z_mok 45 2 := ⟨by decide +kernel, z_inT (List.mem_of_getElem? (i := 341) rfl) rfl, z_inT (List.mem_of_getElem? (i := 2) rfl) rfl, ⟨by decide +kernel, by decide +kernel⟩, by decide +kernel, by decide +kernel⟩
set_option maxRecDepth 20000 in
theorem zw340 : Jvm.Cond.instanceMethod ⟨"MailVerdicts$Checking", "beginsLike", "(II)Z"⟩ ∈ z_ws := z_inT (List.mem_of_getElem? (i := 340) rfl) rfl
set_option maxRecDepth 20000 in
theorem zw255 : Jvm.Cond.fieldLink "MailVerdicts$Checking" 69 "MailVerdicts$Term" "target" "LMailVerdicts$Domain;" ∈ z_ws := z_inT (List.mem_of_getElem? (i := 255) rfl) rfl
set_option maxRecDepth 20000 in
theorem zw346 : Jvm.Cond.methodLink "MailVerdicts$Checking" 72 ⟨"MailVerdicts$Checking", "outcomeOfHost", "(LMailVerdicts$Domain;I)I"⟩ ∈ z_ws := z_inT (List.mem_of_getElem? (i := 346) rfl) rfl
set_option maxRecDepth 20000 in
theorem zm40 : z_mok 40 2 := ⟨by decide +kernel, z_inT (List.mem_of_getElem? (i := 349) rfl) rfl, z_inT (List.mem_of_getElem? (i := 2) rfl) rfl, ⟨by decide +kernel, by decide +kernel⟩, by decide +kernel, by decide +kernel⟩
set_option maxRecDepth 20000 in
theorem zw348 : Jvm.Cond.instanceMethod ⟨"MailVerdicts$Checking", "outcomeOfHost", "(LMailVerdicts$Domain;I)I"⟩ ∈ z_ws := z_inT (List.mem_of_getElem? (i := 348) rfl) rfl
set_option maxRecDepth 20000 in
theorem zw354 : Jvm.Cond.methodLink "MailVerdicts$Checking" 75 ⟨"MailVerdicts$Checking", "outcomeOfMail", "(LMailVerdicts$Domain;I)I"⟩ ∈ z_ws := z_inT (List.mem_of_getElem? (i := 354) rfl) rfl
set_option maxRecDepth 20000 in
theorem zm41 : z_mok 41 2 := ⟨by decide +kernel, z_inT (List.mem_of_getElem? (i := 357) rfl) rfl, z_inT (List.mem_of_getElem? (i := 2) rfl) rfl, ⟨by decide +kernel, by decide +kernel⟩, by decide +kernel, by decide +kernel⟩
set_option maxRecDepth 20000 in
theorem zw356 : Jvm.Cond.instanceMethod ⟨"MailVerdicts$Checking", "outcomeOfMail", "(LMailVerdicts$Domain;I)I"⟩ ∈ z_ws := z_inT (List.mem_of_getElem? (i := 356) rfl) rfl
set_option maxRecDepth 20000 in
theorem zw358 : Jvm.Cond.methodLink "MailVerdicts$Checking" 78 ⟨"MailVerdicts$Checking", "outcomeOfWithin", "(LMailVerdicts$Domain;I)I"⟩ ∈ z_ws := z_inT (List.mem_of_getElem? (i := 358) rfl) rfl
set_option maxRecDepth 20000 in
theorem zm42 : z_mok 42 2 := ⟨by decide +kernel, z_inT (List.mem_of_getElem? (i := 361) rfl) rfl, z_inT (List.mem_of_getElem? (i := 2) rfl) rfl, ⟨by decide +kernel, by decide +kernel⟩, by decide +kernel, by decide +kernel⟩
set_option maxRecDepth 20000 in
theorem zw360 : Jvm.Cond.instanceMethod ⟨"MailVerdicts$Checking", "outcomeOfWithin", "(LMailVerdicts$Domain;I)I"⟩ ∈ z_ws := z_inT (List.mem_of_getElem? (i := 360) rfl) rfl
set_option maxRecDepth 20000 in
theorem zw171 : Jvm.Cond.fieldLink "MailVerdicts$Checking" 81 "MailVerdicts$Domain" "addressCount" "I" ∈ z_ws := z_inT (List.mem_of_getElem? (i := 171) rfl) rfl
set_option maxRecDepth 20000 in
theorem zw350 : Jvm.Cond.methodLink "MailVerdicts$Checking" 84 ⟨"MailVerdicts$Checking", "outcomeOfEmpty", "()I"⟩ ∈ z_ws := z_inT (List.mem_of_getElem? (i := 350) rfl) rfl
set_option maxRecDepth 20000 in
theorem zm43 : z_mok 43 0 := ⟨by decide +kernel, z_inT (List.mem_of_getElem? (i := 353) rfl) rfl, z_inT (List.mem_of_getElem? (i := 2) rfl) rfl, ⟨by decide +kernel, by decide +kernel⟩, by decide +kernel, by decide +kernel⟩
set_option maxRecDepth 20000 in
theorem zw352 : Jvm.Cond.instanceMethod ⟨"MailVerdicts$Checking", "outcomeOfEmpty", "()I"⟩ ∈ z_ws := z_inT (List.mem_of_getElem? (i := 352) rfl) rfl
set_option maxRecDepth 20000 in
theorem zw169 : Jvm.Cond.fieldLink "MailVerdicts$Checking" 87 "MailVerdicts$Domain" "addresses" "[I" ∈ z_ws := z_inT (List.mem_of_getElem? (i := 169) rfl) rfl
set_option maxRecDepth 20000 in
theorem zw175 : Jvm.Cond.fieldLink "MailVerdicts$Checking" 91 "MailVerdicts$Domain" "exchangerCount" "I" ∈ z_ws := z_inT (List.mem_of_getElem? (i := 175) rfl) rfl
set_option maxRecDepth 20000 in
theorem zw173 : Jvm.Cond.fieldLink "MailVerdicts$Checking" 94 "MailVerdicts$Domain" "exchangers" "[LMailVerdicts$Domain;" ∈ z_ws := z_inT (List.mem_of_getElem? (i := 173) rfl) rfl
set_option maxRecDepth 20000 in
theorem zw46 : Jvm.Cond.methodLink "MailVerdicts$CanonicalForm" 3 Lib.objectInit ∈ z_ws := z_inT (List.mem_of_getElem? (i := 46) rfl) rfl
set_option maxRecDepth 20000 in
theorem zw47 : Jvm.Cond.classLink "MailVerdicts$CanonicalForm" 9 "MailVerdicts$Message" ∈ z_ws := z_inT (List.mem_of_getElem? (i := 47) rfl) rfl
set_option maxRecDepth 20000 in
theorem zw48 : Jvm.Cond.instantiable "MailVerdicts$Message" 6 ∈ z_ws := z_inT (List.mem_of_getElem? (i := 48) rfl) rfl
set_option maxRecDepth 20000 in
theorem zw4 : Jvm.Cond.initialized "MailVerdicts$Message" ∈ z_ws := z_inT (List.mem_of_getElem? (i := 4) rfl) rfl
set_option maxRecDepth 20000 in
theorem zw49 : Jvm.Cond.methodLink "MailVerdicts$CanonicalForm" 11 ⟨"MailVerdicts$Message", "<init>", "()V"⟩ ∈ z_ws := z_inT (List.mem_of_getElem? (i := 49) rfl) rfl
set_option maxRecDepth 20000 in
theorem zm56 : z_mok 56 0 := ⟨by decide +kernel, z_inT (List.mem_of_getElem? (i := 51) rfl) rfl, z_inT (List.mem_of_getElem? (i := 4) rfl) rfl, ⟨by decide +kernel, by decide +kernel⟩, by decide +kernel, by decide +kernel⟩
set_option maxRecDepth 20000 in
theorem zw50 : Jvm.Cond.instanceMethod ⟨"MailVerdicts$Message", "<init>", "()V"⟩ ∈ z_ws := z_inT (List.mem_of_getElem? (i := 50) rfl) rfl
set_option maxRecDepth 20000 in
theorem zw100 : Jvm.Cond.fieldLink "MailVerdicts$CanonicalForm" 12 "MailVerdicts$CanonicalForm" "message" "LMailVerdicts$Message;" ∈ z_ws := z_inT (List.mem_of_getElem? (i := 100) rfl) rfl
set_option maxRecDepth 20000 in
theorem zw98 : Jvm.Cond.classLink "MailVerdicts$CanonicalForm" 18 "MailVerdicts$Text" ∈ z_ws := z_inT (List.mem_of_getElem? (i := 98) rfl) rfl
set_option maxRecDepth 20000 in
theorem zw54 : Jvm.Cond.instantiable "MailVerdicts$Text" 2 ∈ z_ws := z_inT (List.mem_of_getElem? (i := 54) rfl) rfl
set_option maxRecDepth 20000 in
theorem zw5 : Jvm.Cond.initialized "MailVerdicts$Text" ∈ z_ws := z_inT (List.mem_of_getElem? (i := 5) rfl) rfl
set_option maxRecDepth 20000 in
theorem zw99 : Jvm.Cond.methodLink "MailVerdicts$CanonicalForm" 20 ⟨"MailVerdicts$Text", "<init>", "(I)V"⟩ ∈ z_ws := z_inT (List.mem_of_getElem? (i := 99) rfl) rfl
set_option maxRecDepth 20000 in
theorem zm60 : z_mok 60 1 := ⟨by decide +kernel, z_inT (List.mem_of_getElem? (i := 57) rfl) rfl, z_inT (List.mem_of_getElem? (i := 5) rfl) rfl, ⟨by decide +kernel, by decide +kernel⟩, by decide +kernel, by decide +kernel⟩
set_option maxRecDepth 20000 in
theorem zw56 : Jvm.Cond.instanceMethod ⟨"MailVerdicts$Text", "<init>", "(I)V"⟩ ∈ z_ws := z_inT (List.mem_of_getElem? (i := 56) rfl) rfl
set_option maxRecDepth 20000 in
theorem zw102 : Jvm.Cond.fieldLink "MailVerdicts$CanonicalForm" 23 "MailVerdicts$CanonicalForm" "names" "LMailVerdicts$Text;" ∈ z_ws := z_inT (List.mem_of_getElem? (i := 102) rfl) rfl
set_option maxRecDepth 20000 in
theorem zw104 : Jvm.Cond.fieldLink "MailVerdicts$CanonicalForm" 27 "MailVerdicts$CanonicalForm" "text" "LMailVerdicts$Text;" ∈ z_ws := z_inT (List.mem_of_getElem? (i := 104) rfl) rfl
set_option maxRecDepth 20000 in
theorem zw122 : Jvm.Cond.arrayClass (newarray.typeOf .boolean) ∈ z_ws := z_inT (List.mem_of_getElem? (i := 122) rfl) rfl
set_option maxRecDepth 20000 in
theorem zw106 : Jvm.Cond.fieldLink "MailVerdicts$CanonicalForm" 30 "MailVerdicts$CanonicalForm" "taken" "[Z" ∈ z_ws := z_inT (List.mem_of_getElem? (i := 106) rfl) rfl
set_option maxRecDepth 20000 in
theorem zw107 : Jvm.Cond.fieldLink "MailVerdicts$CanonicalForm" 34 "MailVerdicts$CanonicalForm" "order" "[I" ∈ z_ws := z_inT (List.mem_of_getElem? (i := 107) rfl) rfl
set_option maxRecDepth 20000 in
theorem zw426 : Jvm.Cond.methodLink "MailVerdicts$CanonicalForm" 38 ⟨"MailVerdicts$Text", "cut", "(I)V"⟩ ∈ z_ws := z_inT (List.mem_of_getElem? (i := 426) rfl) rfl
set_option maxRecDepth 20000 in
theorem zw427 : Jvm.Cond.methodLink "MailVerdicts$CanonicalForm" 41 ⟨"MailVerdicts$Message", "read", "()Z"⟩ ∈ z_ws := z_inT (List.mem_of_getElem? (i := 427) rfl) rfl
set_option maxRecDepth 20000 in
theorem zw428 : Jvm.Cond.methodLink "MailVerdicts$CanonicalForm" 45 ⟨"MailVerdicts$CanonicalForm", "takeFields", "()V"⟩ ∈ z_ws := z_inT (List.mem_of_getElem? (i := 428) rfl) rfl
set_option maxRecDepth 20000 in
theorem zm48 : z_mok 48 0 := ⟨by decide +kernel, z_inT (List.mem_of_getElem? (i := 431) rfl) rfl, z_inT (List.mem_of_getElem? (i := 3) rfl) rfl, ⟨by decide +kernel, by decide +kernel⟩, by decide +kernel, by decide +kernel⟩
set_option maxRecDepth 20000 in
theorem zw430 : Jvm.Cond.instanceMethod ⟨"MailVerdicts$CanonicalForm", "takeFields", "()V"⟩ ∈ z_ws := z_inT (List.mem_of_getElem? (i := 430) rfl) rfl
set_option maxRecDepth 20000 in
theorem zw108 : Jvm.Cond.fieldLink "MailVerdicts$CanonicalForm" 48 "MailVerdicts$CanonicalForm" "takenCount" "I" ∈ z_ws := z_inT (List.mem_of_getElem? (i := 108) rfl) rfl
set_option maxRecDepth 20000 in
theorem zw444 : Jvm.Cond.methodLink "MailVerdicts$CanonicalForm" 52 ⟨"MailVerdicts$CanonicalForm", "writeRelaxedField", "(I)V"⟩ ∈ z_ws := z_inT (List.mem_of_getElem? (i := 444) rfl) rfl
set_option maxRecDepth 20000 in
theorem zm51 : z_mok 51 1 := ⟨by decide +kernel, z_inT (List.mem_of_getElem? (i := 447) rfl) rfl, z_inT (List.mem_of_getElem? (i := 3) rfl) rfl, ⟨by decide +kernel, by decide +kernel⟩, by decide +kernel, by decide +kernel⟩
set_option maxRecDepth 20000 in
theorem zw446 : Jvm.Cond.instanceMethod ⟨"MailVerdicts$CanonicalForm", "writeRelaxedField", "(I)V"⟩ ∈ z_ws := z_inT (List.mem_of_getElem? (i := 446) rfl) rfl
set_option maxRecDepth 20000 in
theorem zw79 : Jvm.Cond.fieldLink "MailVerdicts$CanonicalForm" 55 "MailVerdicts$Message" "fieldStarts" "[I" ∈ z_ws := z_inT (List.mem_of_getElem? (i := 79) rfl) rfl
set_option maxRecDepth 20000 in
theorem zw83 : Jvm.Cond.fieldLink "MailVerdicts$CanonicalForm" 58 "MailVerdicts$Message" "fieldEnds" "[I" ∈ z_ws := z_inT (List.mem_of_getElem? (i := 83) rfl) rfl
set_option maxRecDepth 20000 in
theorem zw453 : Jvm.Cond.methodLink "MailVerdicts$CanonicalForm" 61 ⟨"MailVerdicts$CanonicalForm", "copy", "(II)V"⟩ ∈ z_ws := z_inT (List.mem_of_getElem? (i := 453) rfl) rfl
set_option maxRecDepth 20000 in
theorem zm54 : z_mok 54 2 := ⟨by decide +kernel, z_inT (List.mem_of_getElem? (i := 456) rfl) rfl, z_inT (List.mem_of_getElem? (i := 3) rfl) rfl, ⟨by decide +kernel, by decide +kernel⟩, by decide +kernel, by decide +kernel⟩
set_option maxRecDepth 20000 in
theorem zw455 : Jvm.Cond.instanceMethod ⟨"MailVerdicts$CanonicalForm", "copy", "(II)V"⟩ ∈ z_ws := z_inT (List.mem_of_getElem? (i := 455) rfl) rfl
set_option maxRecDepth 20000 in
theorem zw448 : Jvm.Cond.methodLink "MailVerdicts$CanonicalForm" 65 ⟨"MailVerdicts$Text", "append", "(I)Z"⟩ ∈ z_ws := z_inT (List.mem_of_getElem? (i := 448) rfl) rfl
set_option maxRecDepth 20000 in
theorem zw457 : Jvm.Cond.methodLink "MailVerdicts$CanonicalForm" 69 ⟨"MailVerdicts$CanonicalForm", "writeRelaxedBody", "()V"⟩ ∈ z_ws := z_inT (List.mem_of_getElem? (i := 457) rfl) rfl
set_option maxRecDepth 20000 in
theorem zm53 : z_mok 53 0 := ⟨by decide +kernel, z_inT (List.mem_of_getElem? (i := 460) rfl) rfl, z_inT (List.mem_of_getElem? (i := 3) rfl) rfl, ⟨by decide +kernel, by decide +kernel⟩, by decide +kernel, by decide +kernel⟩
set_option maxRecDepth 20000 in
theorem zw459 : Jvm.Cond.instanceMethod ⟨"MailVerdicts$CanonicalForm", "writeRelaxedBody", "()V"⟩ ∈ z_ws := z_inT (List.mem_of_getElem? (i := 459) rfl) rfl
set_option maxRecDepth 20000 in
theorem zw461 : Jvm.Cond.methodLink "MailVerdicts$CanonicalForm" 72 ⟨"MailVerdicts$CanonicalForm", "writePlainBody", "()V"⟩ ∈ z_ws := z_inT (List.mem_of_getElem? (i := 461) rfl) rfl
set_option maxRecDepth 20000 in
theorem zm52 : z_mok 52 0 := ⟨by decide +kernel, z_inT (List.mem_of_getElem? (i := 464) rfl) rfl, z_inT (List.mem_of_getElem? (i := 3) rfl) rfl, ⟨by decide +kernel, by decide +kernel⟩, by decide +kernel, by decide +kernel⟩
set_option maxRecDepth 20000 in
theorem zw463 : Jvm.Cond.instanceMethod ⟨"MailVerdicts$CanonicalForm", "writePlainBody", "()V"⟩ ∈ z_ws := z_inT (List.mem_of_getElem? (i := 463) rfl) rfl
set_option maxRecDepth 20000 in
theorem zw74 : Jvm.Cond.fieldLink "MailVerdicts$CanonicalForm" 75 "MailVerdicts$Message" "fieldCount" "I" ∈ z_ws := z_inT (List.mem_of_getElem? (i := 74) rfl) rfl
set_option maxRecDepth 20000 in
theorem zw62 : Jvm.Cond.fieldLink "MailVerdicts$CanonicalForm" 78 "MailVerdicts$Text" "size" "I" ∈ z_ws := z_inT (List.mem_of_getElem? (i := 62) rfl) rfl
set_option maxRecDepth 20000 in
theorem zw432 : Jvm.Cond.methodLink "MailVerdicts$CanonicalForm" 81 ⟨"MailVerdicts$Text", "codeAt", "(I)I"⟩ ∈ z_ws := z_inT (List.mem_of_getElem? (i := 432) rfl) rfl
set_option maxRecDepth 20000 in
theorem zw433 : Jvm.Cond.methodLink "MailVerdicts$CanonicalForm" 85 ⟨"MailVerdicts$CanonicalForm", "takeLast", "(II)V"⟩ ∈ z_ws := z_inT (List.mem_of_getElem? (i := 433) rfl) rfl
set_option maxRecDepth 20000 in
theorem zm49 : z_mok 49 2 := ⟨by decide +kernel, z_inT (List.mem_of_getElem? (i := 436) rfl) rfl, z_inT (List.mem_of_getElem? (i := 3) rfl) rfl, ⟨by decide +kernel, by decide +kernel⟩, by decide +kernel, by decide +kernel⟩
set_option maxRecDepth 20000 in
theorem zw435 : Jvm.Cond.instanceMethod ⟨"MailVerdicts$CanonicalForm", "takeLast", "(II)V"⟩ ∈ z_ws := z_inT (List.mem_of_getElem? (i := 435) rfl) rfl
set_option maxRecDepth 20000 in
theorem zw437 : Jvm.Cond.methodLink "MailVerdicts$CanonicalForm" 88 ⟨"MailVerdicts$CanonicalForm", "isNamed", "(III)Z"⟩ ∈ z_ws := z_inT (List.mem_of_getElem? (i := 437) rfl) rfl
set_option maxRecDepth 20000 in
theorem zm50 : z_mok 50 3 := ⟨by decide +kernel, z_inT (List.mem_of_getElem? (i := 440) rfl) rfl, z_inT (List.mem_of_getElem? (i := 3) rfl) rfl, ⟨by decide +kernel, by decide +kernel⟩, by decide +kernel, by decide +kernel⟩
set_option maxRecDepth 20000 in
theorem zw439 : Jvm.Cond.instanceMethod ⟨"MailVerdicts$CanonicalForm", "isNamed", "(III)Z"⟩ ∈ z_ws := z_inT (List.mem_of_getElem? (i := 439) rfl) rfl
set_option maxRecDepth 20000 in
theorem zw81 : Jvm.Cond.fieldLink "MailVerdicts$CanonicalForm" 92 "MailVerdicts$Message" "fieldColons" "[I" ∈ z_ws := z_inT (List.mem_of_getElem? (i := 81) rfl) rfl
set_option maxRecDepth 20000 in
theorem zw71 : Jvm.Cond.fieldLink "MailVerdicts$CanonicalForm" 95 "MailVerdicts$Message" "text" "LMailVerdicts$Text;" ∈ z_ws := z_inT (List.mem_of_getElem? (i := 71) rfl) rfl
set_option maxRecDepth 20000 in
theorem zw441 : Jvm.Cond.methodLinkNest "MailVerdicts$CanonicalForm" 96 ⟨"MailVerdicts", "lowered", "(I)I"⟩ "MailVerdicts" ∈ z_ws := z_inT (List.mem_of_getElem? (i := 441) rfl) rfl
set_option maxRecDepth 20000 in
theorem zm26 : z_mok 26 1 := ⟨by decide +kernel, z_inT (List.mem_of_getElem? (i := 443) rfl) rfl, z_inT (List.mem_of_getElem? (i := 1) rfl) rfl, ⟨by decide +kernel, by decide +kernel⟩, by decide +kernel, by decide +kernel⟩
set_option maxRecDepth 20000 in
theorem zw442 : Jvm.Cond.static ⟨"MailVerdicts", "lowered", "(I)I"⟩ ∈ z_ws := z_inT (List.mem_of_getElem? (i := 442) rfl) rfl
set_option maxRecDepth 20000 in
theorem zw449 : Jvm.Cond.methodLink "MailVerdicts$CanonicalForm" 99 ⟨"MailVerdicts$CanonicalForm", "squeeze", "(IIZ)V"⟩ ∈ z_ws := z_inT (List.mem_of_getElem? (i := 449) rfl) rfl
set_option maxRecDepth 20000 in
theorem zm55 : z_mok 55 3 := ⟨by decide +kernel, z_inT (List.mem_of_getElem? (i := 452) rfl) rfl, z_inT (List.mem_of_getElem? (i := 3) rfl) rfl, ⟨by decide +kernel, by decide +kernel⟩, by decide +kernel, by decide +kernel⟩
set_option maxRecDepth 20000 in
theorem zw451 : Jvm.Cond.instanceMethod ⟨"MailVerdicts$CanonicalForm", "squeeze", "(IIZ)V"⟩ ∈ z_ws := z_inT (List.mem_of_getElem? (i := 451) rfl) rfl
set_option maxRecDepth 20000 in
theorem zw77 : Jvm.Cond.fieldLink "MailVerdicts$CanonicalForm" 103 "MailVerdicts$Message" "bodyStart" "I" ∈ z_ws := z_inT (List.mem_of_getElem? (i := 77) rfl) rfl
set_option maxRecDepth 20000 in
theorem zw52 : Jvm.Cond.methodLink "MailVerdicts$Message" 3 Lib.objectInit ∈ z_ws := z_inT (List.mem_of_getElem? (i := 52) rfl) rfl
set_option maxRecDepth 20000 in
theorem zw53 : Jvm.Cond.classLink "MailVerdicts$Message" 9 "MailVerdicts$Text" ∈ z_ws := z_inT (List.mem_of_getElem? (i := 53) rfl) rfl
set_option maxRecDepth 20000 in
theorem zw55 : Jvm.Cond.methodLink "MailVerdicts$Message" 11 ⟨"MailVerdicts$Text", "<init>", "(I)V"⟩ ∈ z_ws := z_inT (List.mem_of_getElem? (i := 55) rfl) rfl
set_option maxRecDepth 20000 in
theorem zw70 : Jvm.Cond.fieldLink "MailVerdicts$Message" 14 "MailVerdicts$Message" "text" "LMailVerdicts$Text;" ∈ z_ws := z_inT (List.mem_of_getElem? (i := 70) rfl) rfl
set_option maxRecDepth 20000 in
theorem zw78 : Jvm.Cond.fieldLink "MailVerdicts$Message" 20 "MailVerdicts$Message" "fieldStarts" "[I" ∈ z_ws := z_inT (List.mem_of_getElem? (i := 78) rfl) rfl
set_option maxRecDepth 20000 in
theorem zw80 : Jvm.Cond.fieldLink "MailVerdicts$Message" 24 "MailVerdicts$Message" "fieldColons" "[I" ∈ z_ws := z_inT (List.mem_of_getElem? (i := 80) rfl) rfl
set_option maxRecDepth 20000 in
theorem zw82 : Jvm.Cond.fieldLink "MailVerdicts$Message" 27 "MailVerdicts$Message" "fieldEnds" "[I" ∈ z_ws := z_inT (List.mem_of_getElem? (i := 82) rfl) rfl
set_option maxRecDepth 20000 in
theorem zw73 : Jvm.Cond.fieldLink "MailVerdicts$Message" 30 "MailVerdicts$Message" "fieldCount" "I" ∈ z_ws := z_inT (List.mem_of_getElem? (i := 73) rfl) rfl
set_option maxRecDepth 20000 in
theorem zw61 : Jvm.Cond.fieldLink "MailVerdicts$Message" 34 "MailVerdicts$Text" "size" "I" ∈ z_ws := z_inT (List.mem_of_getElem? (i := 61) rfl) rfl
set_option maxRecDepth 20000 in
theorem zw76 : Jvm.Cond.fieldLink "MailVerdicts$Message" 37 "MailVerdicts$Message" "bodyStart" "I" ∈ z_ws := z_inT (List.mem_of_getElem? (i := 76) rfl) rfl
set_option maxRecDepth 20000 in
theorem zw405 : Jvm.Cond.methodLink "MailVerdicts$Message" 40 ⟨"MailVerdicts$Text", "codeAt", "(I)I"⟩ ∈ z_ws := z_inT (List.mem_of_getElem? (i := 405) rfl) rfl
set_option maxRecDepth 20000 in
theorem zw409 : Jvm.Cond.methodLink "MailVerdicts$Message" 44 ⟨"MailVerdicts$Message", "readHeadLine", "(II)Z"⟩ ∈ z_ws := z_inT (List.mem_of_getElem? (i := 409) rfl) rfl
set_option maxRecDepth 20000 in
theorem zm58 : z_mok 58 2 := ⟨by decide +kernel, z_inT (List.mem_of_getElem? (i := 412) rfl) rfl, z_inT (List.mem_of_getElem? (i := 4) rfl) rfl, ⟨by decide +kernel, by decide +kernel⟩, by decide +kernel, by decide +kernel⟩
set_option maxRecDepth 20000 in
theorem zw411 : Jvm.Cond.instanceMethod ⟨"MailVerdicts$Message", "readHeadLine", "(II)Z"⟩ ∈ z_ws := z_inT (List.mem_of_getElem? (i := 411) rfl) rfl
set_option maxRecDepth 20000 in
theorem zw413 : Jvm.Cond.methodLink "MailVerdicts$Message" 48 ⟨"MailVerdicts$Message", "beginField", "(II)Z"⟩ ∈ z_ws := z_inT (List.mem_of_getElem? (i := 413) rfl) rfl
set_option maxRecDepth 20000 in
theorem zm59 : z_mok 59 2 := ⟨by decide +kernel, z_inT (List.mem_of_getElem? (i := 416) rfl) rfl, z_inT (List.mem_of_getElem? (i := 4) rfl) rfl, ⟨by decide +kernel, by decide +kernel⟩, by decide +kernel, by decide +kernel⟩
set_option maxRecDepth 20000 in
theorem zw415 : Jvm.Cond.instanceMethod ⟨"MailVerdicts$Message", "beginField", "(II)Z"⟩ ∈ z_ws := z_inT (List.mem_of_getElem? (i := 415) rfl) rfl
set_option maxRecDepth 20000 in
theorem zw417 : Jvm.Cond.methodLinkNest "MailVerdicts$Message" 51 ⟨"MailVerdicts", "isNameSign", "(I)Z"⟩ "MailVerdicts" ∈ z_ws := z_inT (List.mem_of_getElem? (i := 417) rfl) rfl
set_option maxRecDepth 20000 in
theorem zw58 : Jvm.Cond.methodLink "MailVerdicts$Text" 1 Lib.objectInit ∈ z_ws := z_inT (List.mem_of_getElem? (i := 58) rfl) rfl
set_option maxRecDepth 20000 in
theorem zw69 : Jvm.Cond.arrayClass (newarray.typeOf .char) ∈ z_ws := z_inT (List.mem_of_getElem? (i := 69) rfl) rfl
set_option maxRecDepth 20000 in
theorem zw59 : Jvm.Cond.fieldLink "MailVerdicts$Text" 7 "MailVerdicts$Text" "signs" "[C" ∈ z_ws := z_inT (List.mem_of_getElem? (i := 59) rfl) rfl
set_option maxRecDepth 20000 in
theorem zw60 : Jvm.Cond.fieldLink "MailVerdicts$Text" 13 "MailVerdicts$Text" "size" "I" ∈ z_ws := z_inT (List.mem_of_getElem? (i := 60) rfl) rfl
set_option maxRecDepth 20000 in
theorem zw478 : Jvm.Cond.constantLong "MailVerdicts$Text" 17 257 ∈ z_ws := z_inT (List.mem_of_getElem? (i := 478) rfl) rfl
set_option maxRecDepth 20000 in
theorem zw479 : Jvm.Cond.constantLong "MailVerdicts$Text" 19 2147483647 ∈ z_ws := z_inT (List.mem_of_getElem? (i := 479) rfl) rfl
set_option maxRecDepth 20000 in
theorem zw488 : Jvm.Cond.methodLink "MailVerdicts$Signature" 1 Lib.objectInit ∈ z_ws := z_inT (List.mem_of_getElem? (i := 488) rfl) rfl
set_option maxRecDepth 20000 in
theorem zw489 : Jvm.Cond.fieldLink "MailVerdicts$Signature" 7 "MailVerdicts$Signature" "signer" "LMailVerdicts$Domain;" ∈ z_ws := z_inT (List.mem_of_getElem? (i := 489) rfl) rfl
set_option maxRecDepth 20000 in
theorem zw491 : Jvm.Cond.fieldLink "MailVerdicts$Signature" 13 "MailVerdicts$Signature" "relaxedFields" "Z" ∈ z_ws := z_inT (List.mem_of_getElem? (i := 491) rfl) rfl
set_option maxRecDepth 20000 in
theorem zw493 : Jvm.Cond.fieldLink "MailVerdicts$Signature" 17 "MailVerdicts$Signature" "relaxedBody" "Z" ∈ z_ws := z_inT (List.mem_of_getElem? (i := 493) rfl) rfl
set_option maxRecDepth 20000 in
theorem zw495 : Jvm.Cond.fieldLink "MailVerdicts$Signature" 20 "MailVerdicts$Signature" "number" "I" ∈ z_ws := z_inT (List.mem_of_getElem? (i := 495) rfl) rfl
set_option maxRecDepth 20000 in
theorem zw247 : Jvm.Cond.methodLink "MailVerdicts$Term" 1 Lib.objectInit ∈ z_ws := z_inT (List.mem_of_getElem? (i := 247) rfl) rfl
set_option maxRecDepth 20000 in
theorem zw248 : Jvm.Cond.fieldLink "MailVerdicts$Term" 7 "MailVerdicts$Term" "qualifier" "I" ∈ z_ws := z_inT (List.mem_of_getElem? (i := 248) rfl) rfl
set_option maxRecDepth 20000 in
theorem zw250 : Jvm.Cond.fieldLink "MailVerdicts$Term" 13 "MailVerdicts$Term" "kind" "I" ∈ z_ws := z_inT (List.mem_of_getElem? (i := 250) rfl) rfl
set_option maxRecDepth 20000 in
theorem zw252 : Jvm.Cond.fieldLink "MailVerdicts$Term" 16 "MailVerdicts$Term" "number" "I" ∈ z_ws := z_inT (List.mem_of_getElem? (i := 252) rfl) rfl
set_option maxRecDepth 20000 in
theorem zw254 : Jvm.Cond.fieldLink "MailVerdicts$Term" 19 "MailVerdicts$Term" "target" "LMailVerdicts$Domain;" ∈ z_ws := z_inT (List.mem_of_getElem? (i := 254) rfl) rfl
set_option maxRecDepth 20000 in
theorem zw256 : Jvm.Cond.fieldLink "MailVerdicts$Term" 23 "MailVerdicts$Term" "length" "I" ∈ z_ws := z_inT (List.mem_of_getElem? (i := 256) rfl) rfl
set_option maxRecDepth 20000 in
theorem zw283 : Jvm.Cond.methodLink "MailVerdicts$Key" 1 Lib.objectInit ∈ z_ws := z_inT (List.mem_of_getElem? (i := 283) rfl) rfl
set_option maxRecDepth 20000 in
theorem zw284 : Jvm.Cond.fieldLink "MailVerdicts$Key" 7 "MailVerdicts$Key" "modulus" "I" ∈ z_ws := z_inT (List.mem_of_getElem? (i := 284) rfl) rfl
set_option maxRecDepth 20000 in
theorem zw285 : Jvm.Cond.fieldLink "MailVerdicts$Key" 13 "MailVerdicts$Key" "exponent" "I" ∈ z_ws := z_inT (List.mem_of_getElem? (i := 285) rfl) rfl
set_option maxRecDepth 20000 in
theorem zw518 : Jvm.Cond.methodLink "MailVerdicts$Key" 16 ⟨"java/lang/Math", "floorMod", "(II)I"⟩ ∈ z_ws := z_inT (List.mem_of_getElem? (i := 518) rfl) rfl
set_option maxRecDepth 20000 in
theorem zm116 : z_mok 116 2 := ⟨by decide +kernel, z_inT (List.mem_of_getElem? (i := 520) rfl) rfl, z_inT (List.mem_of_getElem? (i := 12) rfl) rfl, ⟨by decide +kernel, by decide +kernel⟩, by decide +kernel, by decide +kernel⟩
set_option maxRecDepth 20000 in
theorem zw519 : Jvm.Cond.static ⟨"java/lang/Math", "floorMod", "(II)I"⟩ ∈ z_ws := z_inT (List.mem_of_getElem? (i := 519) rfl) rfl
set_option maxRecDepth 20000 in
theorem zw303 : Jvm.Cond.methodLink "MailVerdicts$Wish" 1 Lib.objectInit ∈ z_ws := z_inT (List.mem_of_getElem? (i := 303) rfl) rfl
set_option maxRecDepth 20000 in
theorem zw304 : Jvm.Cond.fieldLink "MailVerdicts$Wish" 7 "MailVerdicts$Wish" "own" "I" ∈ z_ws := z_inT (List.mem_of_getElem? (i := 304) rfl) rfl
set_option maxRecDepth 20000 in
theorem zw306 : Jvm.Cond.fieldLink "MailVerdicts$Wish" 13 "MailVerdicts$Wish" "below" "I" ∈ z_ws := z_inT (List.mem_of_getElem? (i := 306) rfl) rfl
set_option maxRecDepth 20000 in
theorem zw308 : Jvm.Cond.fieldLink "MailVerdicts$Wish" 16 "MailVerdicts$Wish" "strictSender" "Z" ∈ z_ws := z_inT (List.mem_of_getElem? (i := 308) rfl) rfl
set_option maxRecDepth 20000 in
theorem zw310 : Jvm.Cond.fieldLink "MailVerdicts$Wish" 20 "MailVerdicts$Wish" "strictSigner" "Z" ∈ z_ws := z_inT (List.mem_of_getElem? (i := 310) rfl) rfl
set_option maxRecDepth 20000 in
theorem zw539 : Jvm.Cond.methodLink "MailVerdictsModel" 1 Lib.objectInit ∈ z_ws := z_inT (List.mem_of_getElem? (i := 539) rfl) rfl
set_option maxRecDepth 20000 in
theorem zw541 : Jvm.Cond.fieldLink "MailVerdictsModel" 7 "MailVerdictsModel" "parent" "[I" ∈ z_ws := z_inT (List.mem_of_getElem? (i := 541) rfl) rfl
set_option maxRecDepth 20000 in
theorem zw542 : Jvm.Cond.fieldLink "MailVerdictsModel" 13 "MailVerdictsModel" "suffix" "[Z" ∈ z_ws := z_inT (List.mem_of_getElem? (i := 542) rfl) rfl
set_option maxRecDepth 20000 in
theorem zw543 : Jvm.Cond.fieldLink "MailVerdictsModel" 17 "MailVerdictsModel" "addresses" "[I" ∈ z_ws := z_inT (List.mem_of_getElem? (i := 543) rfl) rfl
set_option maxRecDepth 20000 in
theorem zw544 : Jvm.Cond.fieldLink "MailVerdictsModel" 20 "MailVerdictsModel" "address" "[I" ∈ z_ws := z_inT (List.mem_of_getElem? (i := 544) rfl) rfl
set_option maxRecDepth 20000 in
theorem zw545 : Jvm.Cond.fieldLink "MailVerdictsModel" 23 "MailVerdictsModel" "exchangers" "[I" ∈ z_ws := z_inT (List.mem_of_getElem? (i := 545) rfl) rfl
set_option maxRecDepth 20000 in
theorem zw546 : Jvm.Cond.fieldLink "MailVerdictsModel" 26 "MailVerdictsModel" "exchanger" "[I" ∈ z_ws := z_inT (List.mem_of_getElem? (i := 546) rfl) rfl
set_option maxRecDepth 20000 in
theorem zw547 : Jvm.Cond.fieldLink "MailVerdictsModel" 29 "MailVerdictsModel" "modulus" "[I" ∈ z_ws := z_inT (List.mem_of_getElem? (i := 547) rfl) rfl
set_option maxRecDepth 20000 in
theorem zw548 : Jvm.Cond.fieldLink "MailVerdictsModel" 32 "MailVerdictsModel" "exponent" "[I" ∈ z_ws := z_inT (List.mem_of_getElem? (i := 548) rfl) rfl
set_option maxRecDepth 20000 in
theorem zw549 : Jvm.Cond.fieldLink "MailVerdictsModel" 35 "MailVerdictsModel" "own" "[I" ∈ z_ws := z_inT (List.mem_of_getElem? (i := 549) rfl) rfl
set_option maxRecDepth 20000 in
theorem zw550 : Jvm.Cond.fieldLink "MailVerdictsModel" 38 "MailVerdictsModel" "below" "[I" ∈ z_ws := z_inT (List.mem_of_getElem? (i := 550) rfl) rfl
set_option maxRecDepth 20000 in
theorem zw551 : Jvm.Cond.fieldLink "MailVerdictsModel" 41 "MailVerdictsModel" "justSender" "[Z" ∈ z_ws := z_inT (List.mem_of_getElem? (i := 551) rfl) rfl
set_option maxRecDepth 20000 in
theorem zw552 : Jvm.Cond.fieldLink "MailVerdictsModel" 44 "MailVerdictsModel" "justSigner" "[Z" ∈ z_ws := z_inT (List.mem_of_getElem? (i := 552) rfl) rfl
set_option maxRecDepth 20000 in
theorem zw553 : Jvm.Cond.fieldLink "MailVerdictsModel" 47 "MailVerdictsModel" "terms" "[I" ∈ z_ws := z_inT (List.mem_of_getElem? (i := 553) rfl) rfl
set_option maxRecDepth 20000 in
theorem zw554 : Jvm.Cond.fieldLink "MailVerdictsModel" 50 "MailVerdictsModel" "qualifier" "[I" ∈ z_ws := z_inT (List.mem_of_getElem? (i := 554) rfl) rfl
set_option maxRecDepth 20000 in
theorem zw555 : Jvm.Cond.fieldLink "MailVerdictsModel" 53 "MailVerdictsModel" "kind" "[I" ∈ z_ws := z_inT (List.mem_of_getElem? (i := 555) rfl) rfl
set_option maxRecDepth 20000 in
theorem zw556 : Jvm.Cond.fieldLink "MailVerdictsModel" 56 "MailVerdictsModel" "what" "[I" ∈ z_ws := z_inT (List.mem_of_getElem? (i := 556) rfl) rfl
set_option maxRecDepth 20000 in
theorem zw557 : Jvm.Cond.fieldLink "MailVerdictsModel" 59 "MailVerdictsModel" "bits" "[I" ∈ z_ws := z_inT (List.mem_of_getElem? (i := 557) rfl) rfl
set_option maxRecDepth 20000 in
theorem zw561 : Jvm.Cond.fieldLink "MailVerdictsModel" 62 "MailVerdictsModel" "at" "[I" ∈ z_ws := z_inT (List.mem_of_getElem? (i := 561) rfl) rfl
set_option maxRecDepth 20000 in
theorem zw562 : Jvm.Cond.fieldLink "MailVerdictsModel" 65 "MailVerdictsModel" "next" "[I" ∈ z_ws := z_inT (List.mem_of_getElem? (i := 562) rfl) rfl
set_option maxRecDepth 20000 in
theorem zw563 : Jvm.Cond.fieldLink "MailVerdictsModel" 68 "MailVerdictsModel" "led" "[Z" ∈ z_ws := z_inT (List.mem_of_getElem? (i := 563) rfl) rfl
set_option maxRecDepth 20000 in
theorem zw565 : Jvm.Cond.fieldLink "MailVerdictsModel" 71 "MailVerdictsModel" "text" "[I" ∈ z_ws := z_inT (List.mem_of_getElem? (i := 565) rfl) rfl
set_option maxRecDepth 20000 in
theorem zw567 : Jvm.Cond.fieldLink "MailVerdictsModel" 74 "MailVerdictsModel" "names" "[I" ∈ z_ws := z_inT (List.mem_of_getElem? (i := 567) rfl) rfl
set_option maxRecDepth 20000 in
theorem zw569 : Jvm.Cond.fieldLink "MailVerdictsModel" 77 "MailVerdictsModel" "signer" "[I" ∈ z_ws := z_inT (List.mem_of_getElem? (i := 569) rfl) rfl
set_option maxRecDepth 20000 in
theorem zw570 : Jvm.Cond.fieldLink "MailVerdictsModel" 80 "MailVerdictsModel" "relaxedFields" "[Z" ∈ z_ws := z_inT (List.mem_of_getElem? (i := 570) rfl) rfl
set_option maxRecDepth 20000 in
theorem zw571 : Jvm.Cond.fieldLink "MailVerdictsModel" 83 "MailVerdictsModel" "relaxedBody" "[Z" ∈ z_ws := z_inT (List.mem_of_getElem? (i := 571) rfl) rfl
set_option maxRecDepth 20000 in
theorem zw572 : Jvm.Cond.fieldLink "MailVerdictsModel" 86 "MailVerdictsModel" "number" "[I" ∈ z_ws := z_inT (List.mem_of_getElem? (i := 572) rfl) rfl
set_option maxRecDepth 20000 in
theorem zw574 : Jvm.Cond.fieldLink "MailVerdictsModel" 89 "MailVerdictsModel" "from" "[I" ∈ z_ws := z_inT (List.mem_of_getElem? (i := 574) rfl) rfl
set_option maxRecDepth 20000 in
theorem zw575 : Jvm.Cond.fieldLink "MailVerdictsModel" 92 "MailVerdictsModel" "till" "[I" ∈ z_ws := z_inT (List.mem_of_getElem? (i := 575) rfl) rfl
set_option maxRecDepth 20000 in
theorem zw578 : Jvm.Cond.fieldLink "MailVerdictsModel" 95 "MailVerdictsModel" "first" "[I" ∈ z_ws := z_inT (List.mem_of_getElem? (i := 578) rfl) rfl
set_option maxRecDepth 20000 in
theorem zw579 : Jvm.Cond.fieldLink "MailVerdictsModel" 98 "MailVerdictsModel" "last" "[I" ∈ z_ws := z_inT (List.mem_of_getElem? (i := 579) rfl) rfl
set_option maxRecDepth 20000 in
theorem zw580 : Jvm.Cond.fieldLink "MailVerdictsModel" 101 "MailVerdictsModel" "nameLength" "[I" ∈ z_ws := z_inT (List.mem_of_getElem? (i := 580) rfl) rfl
set_option maxRecDepth 20000 in
theorem zw581 : Jvm.Cond.fieldLink "MailVerdictsModel" 104 "MailVerdictsModel" "taken" "[Z" ∈ z_ws := z_inT (List.mem_of_getElem? (i := 581) rfl) rfl
set_option maxRecDepth 20000 in
theorem zw583 : Jvm.Cond.fieldLink "MailVerdictsModel" 107 "MailVerdictsModel" "page" "[I" ∈ z_ws := z_inT (List.mem_of_getElem? (i := 583) rfl) rfl
set_option maxRecDepth 20000 in
theorem zw540 : Jvm.Cond.fieldLink "MailVerdictsModel" 110 "MailVerdictsModel" "domains" "I" ∈ z_ws := z_inT (List.mem_of_getElem? (i := 540) rfl) rfl
set_option maxRecDepth 20000 in
theorem zw677 : Jvm.Cond.methodLink "MailVerdictsModel" 114 ⟨"MailVerdictsModel", "none", "(I)Z"⟩ ∈ z_ws := z_inT (List.mem_of_getElem? (i := 677) rfl) rfl
set_option maxRecDepth 20000 in
theorem zm71 : z_mok 71 1 := ⟨by decide +kernel, z_inT (List.mem_of_getElem? (i := 680) rfl) rfl, z_inT (List.mem_of_getElem? (i := 6) rfl) rfl, ⟨by decide +kernel, by decide +kernel⟩, by decide +kernel, by decide +kernel⟩
set_option maxRecDepth 20000 in
theorem zw679 : Jvm.Cond.instanceMethod ⟨"MailVerdictsModel", "none", "(I)Z"⟩ ∈ z_ws := z_inT (List.mem_of_getElem? (i := 679) rfl) rfl
set_option maxRecDepth 20000 in
theorem zw693 : Jvm.Cond.methodLink "MailVerdictsModel" 118 ⟨"MailVerdictsModel", "leadOf", "(I)I"⟩ ∈ z_ws := z_inT (List.mem_of_getElem? (i := 693) rfl) rfl
set_option maxRecDepth 20000 in
theorem zm75 : z_mok 75 1 := ⟨by decide +kernel, z_inT (List.mem_of_getElem? (i := 696) rfl) rfl, z_inT (List.mem_of_getElem? (i := 6) rfl) rfl, ⟨by decide +kernel, by decide +kernel⟩, by decide +kernel, by decide +kernel⟩
set_option maxRecDepth 20000 in
theorem zw695 : Jvm.Cond.instanceMethod ⟨"MailVerdictsModel", "leadOf", "(I)I"⟩ ∈ z_ws := z_inT (List.mem_of_getElem? (i := 695) rfl) rfl
set_option maxRecDepth 20000 in
theorem zw560 : Jvm.Cond.fieldLink "MailVerdictsModel" 122 "MailVerdictsModel" "wrong" "Z" ∈ z_ws := z_inT (List.mem_of_getElem? (i := 560) rfl) rfl
set_option maxRecDepth 20000 in
theorem zw558 : Jvm.Cond.fieldLink "MailVerdictsModel" 126 "MailVerdictsModel" "queries" "I" ∈ z_ws := z_inT (List.mem_of_getElem? (i := 558) rfl) rfl
set_option maxRecDepth 20000 in
theorem zw559 : Jvm.Cond.fieldLink "MailVerdictsModel" 129 "MailVerdictsModel" "empties" "I" ∈ z_ws := z_inT (List.mem_of_getElem? (i := 559) rfl) rfl
set_option maxRecDepth 20000 in
theorem zw729 : Jvm.Cond.methodLink "MailVerdictsModel" 132 ⟨"MailVerdictsModel", "same", "(III)Z"⟩ ∈ z_ws := z_inT (List.mem_of_getElem? (i := 729) rfl) rfl
set_option maxRecDepth 20000 in
theorem zm79 : z_mok 79 3 := ⟨by decide +kernel, z_inT (List.mem_of_getElem? (i := 732) rfl) rfl, z_inT (List.mem_of_getElem? (i := 6) rfl) rfl, ⟨by decide +kernel, by decide +kernel⟩, by decide +kernel, by decide +kernel⟩
set_option maxRecDepth 20000 in
theorem zw731 : Jvm.Cond.instanceMethod ⟨"MailVerdictsModel", "same", "(III)Z"⟩ ∈ z_ws := z_inT (List.mem_of_getElem? (i := 731) rfl) rfl
set_option maxRecDepth 20000 in
theorem zw721 : Jvm.Cond.methodLink "MailVerdictsModel" 136 ⟨"MailVerdictsModel", "ask", "()Z"⟩ ∈ z_ws := z_inT (List.mem_of_getElem? (i := 721) rfl) rfl
set_option maxRecDepth 20000 in
theorem zm80 : z_mok 80 0 := ⟨by decide +kernel, z_inT (List.mem_of_getElem? (i := 724) rfl) rfl, z_inT (List.mem_of_getElem? (i := 6) rfl) rfl, ⟨by decide +kernel, by decide +kernel⟩, by decide +kernel, by decide +kernel⟩
set_option maxRecDepth 20000 in
theorem zw723 : Jvm.Cond.instanceMethod ⟨"MailVerdictsModel", "ask", "()Z"⟩ ∈ z_ws := z_inT (List.mem_of_getElem? (i := 723) rfl) rfl
set_option maxRecDepth 20000 in
theorem zw733 : Jvm.Cond.methodLink "MailVerdictsModel" 140 ⟨"MailVerdictsModel", "miss", "()Z"⟩ ∈ z_ws := z_inT (List.mem_of_getElem? (i := 733) rfl) rfl
set_option maxRecDepth 20000 in
theorem zm81 : z_mok 81 0 := ⟨by decide +kernel, z_inT (List.mem_of_getElem? (i := 736) rfl) rfl, z_inT (List.mem_of_getElem? (i := 6) rfl) rfl, ⟨by decide +kernel, by decide +kernel⟩, by decide +kernel, by decide +kernel⟩
set_option maxRecDepth 20000 in
theorem zw735 : Jvm.Cond.instanceMethod ⟨"MailVerdictsModel", "miss", "()Z"⟩ ∈ z_ws := z_inT (List.mem_of_getElem? (i := 735) rfl) rfl
set_option maxRecDepth 20000 in
theorem zw737 : Jvm.Cond.methodLink "MailVerdictsModel" 143 ⟨"MailVerdictsModel", "hosts", "(III)Z"⟩ ∈ z_ws := z_inT (List.mem_of_getElem? (i := 737) rfl) rfl
set_option maxRecDepth 20000 in
theorem zm82 : z_mok 82 3 := ⟨by decide +kernel, z_inT (List.mem_of_getElem? (i := 740) rfl) rfl, z_inT (List.mem_of_getElem? (i := 6) rfl) rfl, ⟨by decide +kernel, by decide +kernel⟩, by decide +kernel, by decide +kernel⟩
set_option maxRecDepth 20000 in
theorem zw739 : Jvm.Cond.instanceMethod ⟨"MailVerdictsModel", "hosts", "(III)Z"⟩ ∈ z_ws := z_inT (List.mem_of_getElem? (i := 739) rfl) rfl
set_option maxRecDepth 20000 in
theorem zw725 : Jvm.Cond.methodLink "MailVerdictsModel" 146 ⟨"MailVerdictsModel", "matches", "(II)Z"⟩ ∈ z_ws := z_inT (List.mem_of_getElem? (i := 725) rfl) rfl
set_option maxRecDepth 20000 in
theorem zm83 : z_mok 83 2 := ⟨by decide +kernel, z_inT (List.mem_of_getElem? (i := 728) rfl) rfl, z_inT (List.mem_of_getElem? (i := 6) rfl) rfl, ⟨by decide +kernel, by decide +kernel⟩, by decide +kernel, by decide +kernel⟩
set_option maxRecDepth 20000 in
theorem zw727 : Jvm.Cond.instanceMethod ⟨"MailVerdictsModel", "matches", "(II)Z"⟩ ∈ z_ws := z_inT (List.mem_of_getElem? (i := 727) rfl) rfl
set_option maxRecDepth 20000 in
theorem zw713 : Jvm.Cond.methodLink "MailVerdictsModel" 150 ⟨"MailVerdictsModel", "open", "(IIZ)V"⟩ ∈ z_ws := z_inT (List.mem_of_getElem? (i := 713) rfl) rfl
set_option maxRecDepth 20000 in
theorem zm84 : z_mok 84 3 := ⟨by decide +kernel, z_inT (List.mem_of_getElem? (i := 716) rfl) rfl, z_inT (List.mem_of_getElem? (i := 6) rfl) rfl, ⟨by decide +kernel, by decide +kernel⟩, by decide +kernel, by decide +kernel⟩
set_option maxRecDepth 20000 in
theorem zw715 : Jvm.Cond.instanceMethod ⟨"MailVerdictsModel", "open", "(IIZ)V"⟩ ∈ z_ws := z_inT (List.mem_of_getElem? (i := 715) rfl) rfl
set_option maxRecDepth 20000 in
theorem zw717 : Jvm.Cond.methodLink "MailVerdictsModel" 154 ⟨"MailVerdictsModel", "step", "(II)I"⟩ ∈ z_ws := z_inT (List.mem_of_getElem? (i := 717) rfl) rfl
set_option maxRecDepth 20000 in
theorem zm85 : z_mok 85 2 := ⟨by decide +kernel, z_inT (List.mem_of_getElem? (i := 720) rfl) rfl, z_inT (List.mem_of_getElem? (i := 6) rfl) rfl, ⟨by decide +kernel, by decide +kernel⟩, by decide +kernel, by decide +kernel⟩
set_option maxRecDepth 20000 in
theorem zw719 : Jvm.Cond.instanceMethod ⟨"MailVerdictsModel", "step", "(II)I"⟩ ∈ z_ws := z_inT (List.mem_of_getElem? (i := 719) rfl) rfl
set_option maxRecDepth 20000 in
theorem zw709 : Jvm.Cond.methodLink "MailVerdictsModel" 158 ⟨"MailVerdictsModel", "checked", "(II)I"⟩ ∈ z_ws := z_inT (List.mem_of_getElem? (i := 709) rfl) rfl
set_option maxRecDepth 20000 in
theorem zm86 : z_mok 86 2 := ⟨by decide +kernel, z_inT (List.mem_of_getElem? (i := 712) rfl) rfl, z_inT (List.mem_of_getElem? (i := 6) rfl) rfl, ⟨by decide +kernel, by decide +kernel⟩, by decide +kernel, by decide +kernel⟩
set_option maxRecDepth 20000 in
theorem zw711 : Jvm.Cond.instanceMethod ⟨"MailVerdictsModel", "checked", "(II)I"⟩ ∈ z_ws := z_inT (List.mem_of_getElem? (i := 711) rfl) rfl
set_option maxRecDepth 20000 in
theorem zw564 : Jvm.Cond.fieldLink "MailVerdictsModel" 161 "MailVerdictsModel" "size" "I" ∈ z_ws := z_inT (List.mem_of_getElem? (i := 564) rfl) rfl
set_option maxRecDepth 20000 in
theorem zw566 : Jvm.Cond.fieldLink "MailVerdictsModel" 164 "MailVerdictsModel" "named" "I" ∈ z_ws := z_inT (List.mem_of_getElem? (i := 566) rfl) rfl
set_option maxRecDepth 20000 in
theorem zw757 : Jvm.Cond.methodLink "MailVerdictsModel" 167 ⟨"MailVerdictsModel", "plain", "(I)Z"⟩ ∈ z_ws := z_inT (List.mem_of_getElem? (i := 757) rfl) rfl
set_option maxRecDepth 20000 in
theorem zm91 : z_mok 91 1 := ⟨by decide +kernel, z_inT (List.mem_of_getElem? (i := 760) rfl) rfl, z_inT (List.mem_of_getElem? (i := 6) rfl) rfl, ⟨by decide +kernel, by decide +kernel⟩, by decide +kernel, by decide +kernel⟩
set_option maxRecDepth 20000 in
theorem zw759 : Jvm.Cond.instanceMethod ⟨"MailVerdictsModel", "plain", "(I)Z"⟩ ∈ z_ws := z_inT (List.mem_of_getElem? (i := 759) rfl) rfl
set_option maxRecDepth 20000 in
theorem zw568 : Jvm.Cond.fieldLink "MailVerdictsModel" 170 "MailVerdictsModel" "signed" "I" ∈ z_ws := z_inT (List.mem_of_getElem? (i := 568) rfl) rfl
set_option maxRecDepth 20000 in
theorem zw573 : Jvm.Cond.fieldLink "MailVerdictsModel" 173 "MailVerdictsModel" "lines" "I" ∈ z_ws := z_inT (List.mem_of_getElem? (i := 573) rfl) rfl
set_option maxRecDepth 20000 in
theorem zw576 : Jvm.Cond.fieldLink "MailVerdictsModel" 176 "MailVerdictsModel" "headEnd" "I" ∈ z_ws := z_inT (List.mem_of_getElem? (i := 576) rfl) rfl
set_option maxRecDepth 20000 in
theorem zw773 : Jvm.Cond.methodLink "MailVerdictsModel" 179 ⟨"MailVerdictsModel", "cut", "()V"⟩ ∈ z_ws := z_inT (List.mem_of_getElem? (i := 773) rfl) rfl
set_option maxRecDepth 20000 in
theorem zm95 : z_mok 95 0 := ⟨by decide +kernel, z_inT (List.mem_of_getElem? (i := 776) rfl) rfl, z_inT (List.mem_of_getElem? (i := 6) rfl) rfl, ⟨by decide +kernel, by decide +kernel⟩, by decide +kernel, by decide +kernel⟩
set_option maxRecDepth 20000 in
theorem zw775 : Jvm.Cond.instanceMethod ⟨"MailVerdictsModel", "cut", "()V"⟩ ∈ z_ws := z_inT (List.mem_of_getElem? (i := 775) rfl) rfl
set_option maxRecDepth 20000 in
theorem zw577 : Jvm.Cond.fieldLink "MailVerdictsModel" 182 "MailVerdictsModel" "fields" "I" ∈ z_ws := z_inT (List.mem_of_getElem? (i := 577) rfl) rfl
set_option maxRecDepth 20000 in
theorem zw769 : Jvm.Cond.methodLink "MailVerdictsModel" 185 ⟨"MailVerdictsModel", "read", "()Z"⟩ ∈ z_ws := z_inT (List.mem_of_getElem? (i := 769) rfl) rfl
set_option maxRecDepth 20000 in
theorem zm96 : z_mok 96 0 := ⟨by decide +kernel, z_inT (List.mem_of_getElem? (i := 772) rfl) rfl, z_inT (List.mem_of_getElem? (i := 6) rfl) rfl, ⟨by decide +kernel, by decide +kernel⟩, by decide +kernel, by decide +kernel⟩
set_option maxRecDepth 20000 in
theorem zw771 : Jvm.Cond.instanceMethod ⟨"MailVerdictsModel", "read", "()Z"⟩ ∈ z_ws := z_inT (List.mem_of_getElem? (i := 771) rfl) rfl
set_option maxRecDepth 20000 in
theorem zw582 : Jvm.Cond.fieldLink "MailVerdictsModel" 188 "MailVerdictsModel" "written" "I" ∈ z_ws := z_inT (List.mem_of_getElem? (i := 582) rfl) rfl
set_option maxRecDepth 20000 in
theorem zw801 : Jvm.Cond.methodLink "MailVerdictsModel" 191 ⟨"MailVerdictsModel", "put", "(I)V"⟩ ∈ z_ws := z_inT (List.mem_of_getElem? (i := 801) rfl) rfl
set_option maxRecDepth 20000 in
theorem zm98 : z_mok 98 1 := ⟨by decide +kernel, z_inT (List.mem_of_getElem? (i := 804) rfl) rfl, z_inT (List.mem_of_getElem? (i := 6) rfl) rfl, ⟨by decide +kernel, by decide +kernel⟩, by decide +kernel, by decide +kernel⟩
set_option maxRecDepth 20000 in
theorem zw803 : Jvm.Cond.instanceMethod ⟨"MailVerdictsModel", "put", "(I)V"⟩ ∈ z_ws := z_inT (List.mem_of_getElem? (i := 803) rfl) rfl
set_option maxRecDepth 20000 in
theorem zw789 : Jvm.Cond.methodLink "MailVerdictsModel" 195 ⟨"MailVerdictsModel", "small", "(I)I"⟩ ∈ z_ws := z_inT (List.mem_of_getElem? (i := 789) rfl) rfl
set_option maxRecDepth 20000 in
theorem zm94 : z_mok 94 1 := ⟨by decide +kernel, z_inT (List.mem_of_getElem? (i := 792) rfl) rfl, z_inT (List.mem_of_getElem? (i := 6) rfl) rfl, ⟨by decide +kernel, by decide +kernel⟩, by decide +kernel, by decide +kernel⟩
set_option maxRecDepth 20000 in
theorem zw791 : Jvm.Cond.instanceMethod ⟨"MailVerdictsModel", "small", "(I)I"⟩ ∈ z_ws := z_inT (List.mem_of_getElem? (i := 791) rfl) rfl
set_option maxRecDepth 20000 in
theorem zw813 : Jvm.Cond.methodLink "MailVerdictsModel" 198 ⟨"MailVerdictsModel", "blank", "(I)Z"⟩ ∈ z_ws := z_inT (List.mem_of_getElem? (i := 813) rfl) rfl
set_option maxRecDepth 20000 in
theorem zm102 : z_mok 102 1 := ⟨by decide +kernel, z_inT (List.mem_of_getElem? (i := 816) rfl) rfl, z_inT (List.mem_of_getElem? (i := 6) rfl) rfl, ⟨by decide +kernel, by decide +kernel⟩, by decide +kernel, by decide +kernel⟩
set_option maxRecDepth 20000 in
theorem zw815 : Jvm.Cond.instanceMethod ⟨"MailVerdictsModel", "blank", "(I)Z"⟩ ∈ z_ws := z_inT (List.mem_of_getElem? (i := 815) rfl) rfl
set_option maxRecDepth 20000 in
theorem zw817 : Jvm.Cond.methodLink "MailVerdictsModel" 201 ⟨"MailVerdictsModel", "relaxedLine", "(I)V"⟩ ∈ z_ws := z_inT (List.mem_of_getElem? (i := 817) rfl) rfl
set_option maxRecDepth 20000 in
theorem zm101 : z_mok 101 1 := ⟨by decide +kernel, z_inT (List.mem_of_getElem? (i := 820) rfl) rfl, z_inT (List.mem_of_getElem? (i := 6) rfl) rfl, ⟨by decide +kernel, by decide +kernel⟩, by decide +kernel, by decide +kernel⟩
set_option maxRecDepth 20000 in
theorem zw819 : Jvm.Cond.instanceMethod ⟨"MailVerdictsModel", "relaxedLine", "(I)V"⟩ ∈ z_ws := z_inT (List.mem_of_getElem? (i := 819) rfl) rfl
set_option maxRecDepth 20000 in
theorem zw805 : Jvm.Cond.methodLink "MailVerdictsModel" 204 ⟨"MailVerdictsModel", "plainLine", "(I)V"⟩ ∈ z_ws := z_inT (List.mem_of_getElem? (i := 805) rfl) rfl
set_option maxRecDepth 20000 in
theorem zm99 : z_mok 99 1 := ⟨by decide +kernel, z_inT (List.mem_of_getElem? (i := 808) rfl) rfl, z_inT (List.mem_of_getElem? (i := 6) rfl) rfl, ⟨by decide +kernel, by decide +kernel⟩, by decide +kernel, by decide +kernel⟩
set_option maxRecDepth 20000 in
theorem zw807 : Jvm.Cond.instanceMethod ⟨"MailVerdictsModel", "plainLine", "(I)V"⟩ ∈ z_ws := z_inT (List.mem_of_getElem? (i := 807) rfl) rfl
set_option maxRecDepth 20000 in
theorem zw785 : Jvm.Cond.methodLink "MailVerdictsModel" 207 ⟨"MailVerdictsModel", "take", "(II)I"⟩ ∈ z_ws := z_inT (List.mem_of_getElem? (i := 785) rfl) rfl
set_option maxRecDepth 20000 in
theorem zm104 : z_mok 104 2 := ⟨by decide +kernel, z_inT (List.mem_of_getElem? (i := 788) rfl) rfl, z_inT (List.mem_of_getElem? (i := 6) rfl) rfl, ⟨by decide +kernel, by decide +kernel⟩, by decide +kernel, by decide +kernel⟩
set_option maxRecDepth 20000 in
theorem zw787 : Jvm.Cond.instanceMethod ⟨"MailVerdictsModel", "take", "(II)I"⟩ ∈ z_ws := z_inT (List.mem_of_getElem? (i := 787) rfl) rfl
set_option maxRecDepth 20000 in
theorem zw793 : Jvm.Cond.methodLink "MailVerdictsModel" 210 ⟨"MailVerdictsModel", "writeField", "(IZ)V"⟩ ∈ z_ws := z_inT (List.mem_of_getElem? (i := 793) rfl) rfl
set_option maxRecDepth 20000 in
theorem zm106 : z_mok 106 2 := ⟨by decide +kernel, z_inT (List.mem_of_getElem? (i := 796) rfl) rfl, z_inT (List.mem_of_getElem? (i := 6) rfl) rfl, ⟨by decide +kernel, by decide +kernel⟩, by decide +kernel, by decide +kernel⟩
set_option maxRecDepth 20000 in
theorem zw795 : Jvm.Cond.instanceMethod ⟨"MailVerdictsModel", "writeField", "(IZ)V"⟩ ∈ z_ws := z_inT (List.mem_of_getElem? (i := 795) rfl) rfl
set_option maxRecDepth 20000 in
theorem zw809 : Jvm.Cond.methodLink "MailVerdictsModel" 214 ⟨"MailVerdictsModel", "body", "(Z)V"⟩ ∈ z_ws := z_inT (List.mem_of_getElem? (i := 809) rfl) rfl
set_option maxRecDepth 20000 in
theorem zm103 : z_mok 103 1 := ⟨by decide +kernel, z_inT (List.mem_of_getElem? (i := 812) rfl) rfl, z_inT (List.mem_of_getElem? (i := 6) rfl) rfl, ⟨by decide +kernel, by decide +kernel⟩, by decide +kernel, by decide +kernel⟩
set_option maxRecDepth 20000 in
theorem zw811 : Jvm.Cond.instanceMethod ⟨"MailVerdictsModel", "body", "(Z)V"⟩ ∈ z_ws := z_inT (List.mem_of_getElem? (i := 811) rfl) rfl
set_option maxRecDepth 20000 in
theorem zw797 : Jvm.Cond.methodLink "MailVerdictsModel" 218 ⟨"MailVerdictsModel", "relaxedField", "(I)V"⟩ ∈ z_ws := z_inT (List.mem_of_getElem? (i := 797) rfl) rfl
set_option maxRecDepth 20000 in
theorem zm100 : z_mok 100 1 := ⟨by decide +kernel, z_inT (List.mem_of_getElem? (i := 800) rfl) rfl, z_inT (List.mem_of_getElem? (i := 6) rfl) rfl, ⟨by decide +kernel, by decide +kernel⟩, by decide +kernel, by decide +kernel⟩
set_option maxRecDepth 20000 in
theorem zw799 : Jvm.Cond.instanceMethod ⟨"MailVerdictsModel", "relaxedField", "(I)V"⟩ ∈ z_ws := z_inT (List.mem_of_getElem? (i := 799) rfl) rfl
set_option maxRecDepth 20000 in
theorem zw781 : Jvm.Cond.methodLink "MailVerdictsModel" 221 ⟨"MailVerdictsModel", "write", "(ZZ)Z"⟩ ∈ z_ws := z_inT (List.mem_of_getElem? (i := 781) rfl) rfl
set_option maxRecDepth 20000 in
theorem zm105 : z_mok 105 2 := ⟨by decide +kernel, z_inT (List.mem_of_getElem? (i := 784) rfl) rfl, z_inT (List.mem_of_getElem? (i := 6) rfl) rfl, ⟨by decide +kernel, by decide +kernel⟩, by decide +kernel, by decide +kernel⟩
set_option maxRecDepth 20000 in
theorem zw783 : Jvm.Cond.instanceMethod ⟨"MailVerdictsModel", "write", "(ZZ)Z"⟩ ∈ z_ws := z_inT (List.mem_of_getElem? (i := 783) rfl) rfl
set_option maxRecDepth 20000 in
theorem zw829 : Jvm.Cond.constantLong "MailVerdictsModel" 225 257 ∈ z_ws := z_inT (List.mem_of_getElem? (i := 829) rfl) rfl
set_option maxRecDepth 20000 in
theorem zw830 : Jvm.Cond.constantLong "MailVerdictsModel" 227 2147483647 ∈ z_ws := z_inT (List.mem_of_getElem? (i := 830) rfl) rfl
set_option maxRecDepth 20000 in
theorem zw839 : Jvm.Cond.methodLink "MailVerdictsModel" 229 ⟨"MailVerdictsModel", "digest", "(ZZ)I"⟩ ∈ z_ws := z_inT (List.mem_of_getElem? (i := 839) rfl) rfl
set_option maxRecDepth 20000 in
theorem zm109 : z_mok 109 2 := ⟨by decide +kernel, z_inT (List.mem_of_getElem? (i := 828) rfl) rfl, z_inT (List.mem_of_getElem? (i := 6) rfl) rfl, ⟨by decide +kernel, by decide +kernel⟩, by decide +kernel, by decide +kernel⟩
set_option maxRecDepth 20000 in
theorem zw826 : Jvm.Cond.instanceMethod ⟨"MailVerdictsModel", "digest", "(ZZ)I"⟩ ∈ z_ws := z_inT (List.mem_of_getElem? (i := 826) rfl) rfl
set_option maxRecDepth 20000 in
theorem zw827 : Jvm.Cond.selects "MailVerdictsModel" ⟨"MailVerdictsModel", "digest", "(ZZ)I"⟩ ⟨"MailVerdictsModel", "digest", "(ZZ)I"⟩ ∈ z_ws := z_inT (List.mem_of_getElem? (i := 827) rfl) rfl
set_option maxRecDepth 20000 in
theorem zw844 : Jvm.Cond.methodLink "MailVerdictsModel" 233 ⟨"MailVerdictsModel", "organisation", "(I)I"⟩ ∈ z_ws := z_inT (List.mem_of_getElem? (i := 844) rfl) rfl
set_option maxRecDepth 20000 in
theorem zm112 : z_mok 112 1 := ⟨by decide +kernel, z_inT (List.mem_of_getElem? (i := 847) rfl) rfl, z_inT (List.mem_of_getElem? (i := 6) rfl) rfl, ⟨by decide +kernel, by decide +kernel⟩, by decide +kernel, by decide +kernel⟩
set_option maxRecDepth 20000 in
theorem zw846 : Jvm.Cond.instanceMethod ⟨"MailVerdictsModel", "organisation", "(I)I"⟩ ∈ z_ws := z_inT (List.mem_of_getElem? (i := 846) rfl) rfl
set_option maxRecDepth 20000 in
theorem zw848 : Jvm.Cond.methodLink "MailVerdictsModel" 236 ⟨"MailVerdictsModel", "fits", "(IIZ)Z"⟩ ∈ z_ws := z_inT (List.mem_of_getElem? (i := 848) rfl) rfl
set_option maxRecDepth 20000 in
theorem zm113 : z_mok 113 3 := ⟨by decide +kernel, z_inT (List.mem_of_getElem? (i := 851) rfl) rfl, z_inT (List.mem_of_getElem? (i := 6) rfl) rfl, ⟨by decide +kernel, by decide +kernel⟩, by decide +kernel, by decide +kernel⟩
set_option maxRecDepth 20000 in
theorem zw850 : Jvm.Cond.instanceMethod ⟨"MailVerdictsModel", "fits", "(IIZ)Z"⟩ ∈ z_ws := z_inT (List.mem_of_getElem? (i := 850) rfl) rfl
set_option maxRecDepth 20000 in
theorem zw852 : Jvm.Cond.methodLink "MailVerdictsModel" 240 ⟨"MailVerdictsModel", "holds", "(I)Z"⟩ ∈ z_ws := z_inT (List.mem_of_getElem? (i := 852) rfl) rfl
set_option maxRecDepth 20000 in
theorem zm111 : z_mok 111 1 := ⟨by decide +kernel, z_inT (List.mem_of_getElem? (i := 838) rfl) rfl, z_inT (List.mem_of_getElem? (i := 6) rfl) rfl, ⟨by decide +kernel, by decide +kernel⟩, by decide +kernel, by decide +kernel⟩
set_option maxRecDepth 20000 in
theorem zw836 : Jvm.Cond.instanceMethod ⟨"MailVerdictsModel", "holds", "(I)Z"⟩ ∈ z_ws := z_inT (List.mem_of_getElem? (i := 836) rfl) rfl
set_option maxRecDepth 20000 in
theorem zw837 : Jvm.Cond.selects "MailVerdictsModel" ⟨"MailVerdictsModel", "holds", "(I)Z"⟩ ⟨"MailVerdictsModel", "holds", "(I)Z"⟩ ∈ z_ws := z_inT (List.mem_of_getElem? (i := 837) rfl) rfl
set_option maxRecDepth 20000 in
theorem zw13 : Jvm.Cond.classLink "MailVerdictsLaw" 7 "MailVerdicts" ∈ z_ws := z_inT (List.mem_of_getElem? (i := 13) rfl) rfl
set_option maxRecDepth 20000 in
theorem zw14 : Jvm.Cond.instantiable "MailVerdicts" 8 ∈ z_ws := z_inT (List.mem_of_getElem? (i := 14) rfl) rfl
set_option maxRecDepth 20000 in
theorem zw1 : Jvm.Cond.initialized "MailVerdicts" ∈ z_ws := z_inT (List.mem_of_getElem? (i := 1) rfl) rfl
set_option maxRecDepth 20000 in
theorem zw15 : Jvm.Cond.methodLink "MailVerdictsLaw" 9 ⟨"MailVerdicts", "<init>", "()V"⟩ ∈ z_ws := z_inT (List.mem_of_getElem? (i := 15) rfl) rfl
set_option maxRecDepth 20000 in
theorem zm0 : z_mok 0 0 := ⟨by decide +kernel, z_inT (List.mem_of_getElem? (i := 17) rfl) rfl, z_inT (List.mem_of_getElem? (i := 1) rfl) rfl, ⟨by decide +kernel, by decide +kernel⟩, by decide +kernel, by decide +kernel⟩
set_option maxRecDepth 20000 in
theorem zw16 : Jvm.Cond.instanceMethod ⟨"MailVerdicts", "<init>", "()V"⟩ ∈ z_ws := z_inT (List.mem_of_getElem? (i := 16) rfl) rfl
set_option maxRecDepth 20000 in
theorem zw534 : Jvm.Cond.classLink "MailVerdictsLaw" 10 "MailVerdictsModel" ∈ z_ws := z_inT (List.mem_of_getElem? (i := 534) rfl) rfl
set_option maxRecDepth 20000 in
theorem zw535 : Jvm.Cond.instantiable "MailVerdictsModel" 44 ∈ z_ws := z_inT (List.mem_of_getElem? (i := 535) rfl) rfl
set_option maxRecDepth 20000 in
theorem zw6 : Jvm.Cond.initialized "MailVerdictsModel" ∈ z_ws := z_inT (List.mem_of_getElem? (i := 6) rfl) rfl
set_option maxRecDepth 20000 in
theorem zw536 : Jvm.Cond.methodLink "MailVerdictsLaw" 12 ⟨"MailVerdictsModel", "<init>", "()V"⟩ ∈ z_ws := z_inT (List.mem_of_getElem? (i := 536) rfl) rfl
set_option maxRecDepth 20000 in
theorem zm70 : z_mok 70 0 := ⟨by decide +kernel, z_inT (List.mem_of_getElem? (i := 538) rfl) rfl, z_inT (List.mem_of_getElem? (i := 6) rfl) rfl, ⟨by decide +kernel, by decide +kernel⟩, by decide +kernel, by decide +kernel⟩
set_option maxRecDepth 20000 in
theorem zw537 : Jvm.Cond.instanceMethod ⟨"MailVerdictsModel", "<init>", "()V"⟩ ∈ z_ws := z_inT (List.mem_of_getElem? (i := 537) rfl) rfl
set_option maxRecDepth 20000 in
theorem zw150 : Jvm.Cond.methodLink "MailVerdictsLaw" 13 ⟨"MailVerdicts", "domain", "(IZ)I"⟩ ∈ z_ws := z_inT (List.mem_of_getElem? (i := 150) rfl) rfl
set_option maxRecDepth 20000 in
theorem zm1 : z_mok 1 2 := ⟨by decide +kernel, z_inT (List.mem_of_getElem? (i := 153) rfl) rfl, z_inT (List.mem_of_getElem? (i := 1) rfl) rfl, ⟨by decide +kernel, by decide +kernel⟩, by decide +kernel, by decide +kernel⟩
set_option maxRecDepth 20000 in
theorem zw151 : Jvm.Cond.instanceMethod ⟨"MailVerdicts", "domain", "(IZ)I"⟩ ∈ z_ws := z_inT (List.mem_of_getElem? (i := 151) rfl) rfl
set_option maxRecDepth 20000 in
theorem zw152 : Jvm.Cond.selects "MailVerdicts" ⟨"MailVerdicts", "domain", "(IZ)I"⟩ ⟨"MailVerdicts", "domain", "(IZ)I"⟩ ∈ z_ws := z_inT (List.mem_of_getElem? (i := 152) rfl) rfl
set_option maxRecDepth 20000 in
theorem zw673 : Jvm.Cond.methodLink "MailVerdictsLaw" 17 ⟨"MailVerdictsModel", "domain", "(IZ)I"⟩ ∈ z_ws := z_inT (List.mem_of_getElem? (i := 673) rfl) rfl
set_option maxRecDepth 20000 in
theorem zm72 : z_mok 72 2 := ⟨by decide +kernel, z_inT (List.mem_of_getElem? (i := 676) rfl) rfl, z_inT (List.mem_of_getElem? (i := 6) rfl) rfl, ⟨by decide +kernel, by decide +kernel⟩, by decide +kernel, by decide +kernel⟩
set_option maxRecDepth 20000 in
theorem zw674 : Jvm.Cond.instanceMethod ⟨"MailVerdictsModel", "domain", "(IZ)I"⟩ ∈ z_ws := z_inT (List.mem_of_getElem? (i := 674) rfl) rfl
set_option maxRecDepth 20000 in
theorem zw675 : Jvm.Cond.selects "MailVerdictsModel" ⟨"MailVerdictsModel", "domain", "(IZ)I"⟩ ⟨"MailVerdictsModel", "domain", "(IZ)I"⟩ ∈ z_ws := z_inT (List.mem_of_getElem? (i := 675) rfl) rfl
set_option maxRecDepth 20000 in
theorem zw208 : Jvm.Cond.methodLink "MailVerdictsLaw" 18 ⟨"MailVerdicts", "address", "(II)Z"⟩ ∈ z_ws := z_inT (List.mem_of_getElem? (i := 208) rfl) rfl
set_option maxRecDepth 20000 in
theorem zm2 : z_mok 2 2 := ⟨by decide +kernel, z_inT (List.mem_of_getElem? (i := 211) rfl) rfl, z_inT (List.mem_of_getElem? (i := 1) rfl) rfl, ⟨by decide +kernel, by decide +kernel⟩, by decide +kernel, by decide +kernel⟩
set_option maxRecDepth 20000 in
theorem zw209 : Jvm.Cond.instanceMethod ⟨"MailVerdicts", "address", "(II)Z"⟩ ∈ z_ws := z_inT (List.mem_of_getElem? (i := 209) rfl) rfl
set_option maxRecDepth 20000 in
theorem zw210 : Jvm.Cond.selects "MailVerdicts" ⟨"MailVerdicts", "address", "(II)Z"⟩ ⟨"MailVerdicts", "address", "(II)Z"⟩ ∈ z_ws := z_inT (List.mem_of_getElem? (i := 210) rfl) rfl
set_option maxRecDepth 20000 in
theorem zw681 : Jvm.Cond.methodLink "MailVerdictsLaw" 22 ⟨"MailVerdictsModel", "address", "(II)Z"⟩ ∈ z_ws := z_inT (List.mem_of_getElem? (i := 681) rfl) rfl
set_option maxRecDepth 20000 in
theorem zm73 : z_mok 73 2 := ⟨by decide +kernel, z_inT (List.mem_of_getElem? (i := 684) rfl) rfl, z_inT (List.mem_of_getElem? (i := 6) rfl) rfl, ⟨by decide +kernel, by decide +kernel⟩, by decide +kernel, by decide +kernel⟩
set_option maxRecDepth 20000 in
theorem zw682 : Jvm.Cond.instanceMethod ⟨"MailVerdictsModel", "address", "(II)Z"⟩ ∈ z_ws := z_inT (List.mem_of_getElem? (i := 682) rfl) rfl
set_option maxRecDepth 20000 in
theorem zw683 : Jvm.Cond.selects "MailVerdictsModel" ⟨"MailVerdictsModel", "address", "(II)Z"⟩ ⟨"MailVerdictsModel", "address", "(II)Z"⟩ ∈ z_ws := z_inT (List.mem_of_getElem? (i := 683) rfl) rfl
set_option maxRecDepth 20000 in
theorem zw216 : Jvm.Cond.methodLink "MailVerdictsLaw" 23 ⟨"MailVerdicts", "exchanger", "(II)Z"⟩ ∈ z_ws := z_inT (List.mem_of_getElem? (i := 216) rfl) rfl
set_option maxRecDepth 20000 in
theorem zm3 : z_mok 3 2 := ⟨by decide +kernel, z_inT (List.mem_of_getElem? (i := 219) rfl) rfl, z_inT (List.mem_of_getElem? (i := 1) rfl) rfl, ⟨by decide +kernel, by decide +kernel⟩, by decide +kernel, by decide +kernel⟩
set_option maxRecDepth 20000 in
theorem zw217 : Jvm.Cond.instanceMethod ⟨"MailVerdicts", "exchanger", "(II)Z"⟩ ∈ z_ws := z_inT (List.mem_of_getElem? (i := 217) rfl) rfl
set_option maxRecDepth 20000 in
theorem zw218 : Jvm.Cond.selects "MailVerdicts" ⟨"MailVerdicts", "exchanger", "(II)Z"⟩ ⟨"MailVerdicts", "exchanger", "(II)Z"⟩ ∈ z_ws := z_inT (List.mem_of_getElem? (i := 218) rfl) rfl
set_option maxRecDepth 20000 in
theorem zw685 : Jvm.Cond.methodLink "MailVerdictsLaw" 26 ⟨"MailVerdictsModel", "exchanger", "(II)Z"⟩ ∈ z_ws := z_inT (List.mem_of_getElem? (i := 685) rfl) rfl
set_option maxRecDepth 20000 in
theorem zm74 : z_mok 74 2 := ⟨by decide +kernel, z_inT (List.mem_of_getElem? (i := 688) rfl) rfl, z_inT (List.mem_of_getElem? (i := 6) rfl) rfl, ⟨by decide +kernel, by decide +kernel⟩, by decide +kernel, by decide +kernel⟩
set_option maxRecDepth 20000 in
theorem zw686 : Jvm.Cond.instanceMethod ⟨"MailVerdictsModel", "exchanger", "(II)Z"⟩ ∈ z_ws := z_inT (List.mem_of_getElem? (i := 686) rfl) rfl
set_option maxRecDepth 20000 in
theorem zw687 : Jvm.Cond.selects "MailVerdictsModel" ⟨"MailVerdictsModel", "exchanger", "(II)Z"⟩ ⟨"MailVerdictsModel", "exchanger", "(II)Z"⟩ ∈ z_ws := z_inT (List.mem_of_getElem? (i := 687) rfl) rfl
set_option maxRecDepth 20000 in
theorem zw224 : Jvm.Cond.methodLink "MailVerdictsLaw" 27 ⟨"MailVerdicts", "term", "(IIIII)I"⟩ ∈ z_ws := z_inT (List.mem_of_getElem? (i := 224) rfl) rfl
set_option maxRecDepth 20000 in
theorem zm4 : z_mok 4 5 := ⟨by decide +kernel, z_inT (List.mem_of_getElem? (i := 227) rfl) rfl, z_inT (List.mem_of_getElem? (i := 1) rfl) rfl, ⟨by decide +kernel, by decide +kernel⟩, by decide +kernel, by decide +kernel⟩
set_option maxRecDepth 20000 in
theorem zw225 : Jvm.Cond.instanceMethod ⟨"MailVerdicts", "term", "(IIIII)I"⟩ ∈ z_ws := z_inT (List.mem_of_getElem? (i := 225) rfl) rfl
set_option maxRecDepth 20000 in
theorem zw226 : Jvm.Cond.selects "MailVerdicts" ⟨"MailVerdicts", "term", "(IIIII)I"⟩ ⟨"MailVerdicts", "term", "(IIIII)I"⟩ ∈ z_ws := z_inT (List.mem_of_getElem? (i := 226) rfl) rfl
set_option maxRecDepth 20000 in
theorem zw689 : Jvm.Cond.methodLink "MailVerdictsLaw" 31 ⟨"MailVerdictsModel", "term", "(IIIII)I"⟩ ∈ z_ws := z_inT (List.mem_of_getElem? (i := 689) rfl) rfl
set_option maxRecDepth 20000 in
theorem zm76 : z_mok 76 5 := ⟨by decide +kernel, z_inT (List.mem_of_getElem? (i := 692) rfl) rfl, z_inT (List.mem_of_getElem? (i := 6) rfl) rfl, ⟨by decide +kernel, by decide +kernel⟩, by decide +kernel, by decide +kernel⟩
set_option maxRecDepth 20000 in
theorem zw690 : Jvm.Cond.instanceMethod ⟨"MailVerdictsModel", "term", "(IIIII)I"⟩ ∈ z_ws := z_inT (List.mem_of_getElem? (i := 690) rfl) rfl
set_option maxRecDepth 20000 in
theorem zw691 : Jvm.Cond.selects "MailVerdictsModel" ⟨"MailVerdictsModel", "term", "(IIIII)I"⟩ ⟨"MailVerdictsModel", "term", "(IIIII)I"⟩ ∈ z_ws := z_inT (List.mem_of_getElem? (i := 691) rfl) rfl
set_option maxRecDepth 20000 in
theorem zw274 : Jvm.Cond.methodLink "MailVerdictsLaw" 32 ⟨"MailVerdicts", "key", "(III)Z"⟩ ∈ z_ws := z_inT (List.mem_of_getElem? (i := 274) rfl) rfl
set_option maxRecDepth 20000 in
theorem zm5 : z_mok 5 3 := ⟨by decide +kernel, z_inT (List.mem_of_getElem? (i := 277) rfl) rfl, z_inT (List.mem_of_getElem? (i := 1) rfl) rfl, ⟨by decide +kernel, by decide +kernel⟩, by decide +kernel, by decide +kernel⟩
set_option maxRecDepth 20000 in
theorem zw275 : Jvm.Cond.instanceMethod ⟨"MailVerdicts", "key", "(III)Z"⟩ ∈ z_ws := z_inT (List.mem_of_getElem? (i := 275) rfl) rfl
set_option maxRecDepth 20000 in
theorem zw276 : Jvm.Cond.selects "MailVerdicts" ⟨"MailVerdicts", "key", "(III)Z"⟩ ⟨"MailVerdicts", "key", "(III)Z"⟩ ∈ z_ws := z_inT (List.mem_of_getElem? (i := 276) rfl) rfl
set_option maxRecDepth 20000 in
theorem zw697 : Jvm.Cond.methodLink "MailVerdictsLaw" 36 ⟨"MailVerdictsModel", "key", "(III)Z"⟩ ∈ z_ws := z_inT (List.mem_of_getElem? (i := 697) rfl) rfl
set_option maxRecDepth 20000 in
theorem zm77 : z_mok 77 3 := ⟨by decide +kernel, z_inT (List.mem_of_getElem? (i := 700) rfl) rfl, z_inT (List.mem_of_getElem? (i := 6) rfl) rfl, ⟨by decide +kernel, by decide +kernel⟩, by decide +kernel, by decide +kernel⟩
set_option maxRecDepth 20000 in
theorem zw698 : Jvm.Cond.instanceMethod ⟨"MailVerdictsModel", "key", "(III)Z"⟩ ∈ z_ws := z_inT (List.mem_of_getElem? (i := 698) rfl) rfl
set_option maxRecDepth 20000 in
theorem zw699 : Jvm.Cond.selects "MailVerdictsModel" ⟨"MailVerdictsModel", "key", "(III)Z"⟩ ⟨"MailVerdictsModel", "key", "(III)Z"⟩ ∈ z_ws := z_inT (List.mem_of_getElem? (i := 699) rfl) rfl
set_option maxRecDepth 20000 in
theorem zw291 : Jvm.Cond.methodLink "MailVerdictsLaw" 37 ⟨"MailVerdicts", "wish", "(IIIZZ)Z"⟩ ∈ z_ws := z_inT (List.mem_of_getElem? (i := 291) rfl) rfl
set_option maxRecDepth 20000 in
theorem zm6 : z_mok 6 5 := ⟨by decide +kernel, z_inT (List.mem_of_getElem? (i := 294) rfl) rfl, z_inT (List.mem_of_getElem? (i := 1) rfl) rfl, ⟨by decide +kernel, by decide +kernel⟩, by decide +kernel, by decide +kernel⟩
set_option maxRecDepth 20000 in
theorem zw292 : Jvm.Cond.instanceMethod ⟨"MailVerdicts", "wish", "(IIIZZ)Z"⟩ ∈ z_ws := z_inT (List.mem_of_getElem? (i := 292) rfl) rfl
set_option maxRecDepth 20000 in
theorem zw293 : Jvm.Cond.selects "MailVerdicts" ⟨"MailVerdicts", "wish", "(IIIZZ)Z"⟩ ⟨"MailVerdicts", "wish", "(IIIZZ)Z"⟩ ∈ z_ws := z_inT (List.mem_of_getElem? (i := 293) rfl) rfl
set_option maxRecDepth 20000 in
theorem zw701 : Jvm.Cond.methodLink "MailVerdictsLaw" 41 ⟨"MailVerdictsModel", "wish", "(IIIZZ)Z"⟩ ∈ z_ws := z_inT (List.mem_of_getElem? (i := 701) rfl) rfl
set_option maxRecDepth 20000 in
theorem zm78 : z_mok 78 5 := ⟨by decide +kernel, z_inT (List.mem_of_getElem? (i := 704) rfl) rfl, z_inT (List.mem_of_getElem? (i := 6) rfl) rfl, ⟨by decide +kernel, by decide +kernel⟩, by decide +kernel, by decide +kernel⟩
set_option maxRecDepth 20000 in
theorem zw702 : Jvm.Cond.instanceMethod ⟨"MailVerdictsModel", "wish", "(IIIZZ)Z"⟩ ∈ z_ws := z_inT (List.mem_of_getElem? (i := 702) rfl) rfl
set_option maxRecDepth 20000 in
theorem zw703 : Jvm.Cond.selects "MailVerdictsModel" ⟨"MailVerdictsModel", "wish", "(IIIZZ)Z"⟩ ⟨"MailVerdictsModel", "wish", "(IIIZZ)Z"⟩ ∈ z_ws := z_inT (List.mem_of_getElem? (i := 703) rfl) rfl
set_option maxRecDepth 20000 in
theorem zw321 : Jvm.Cond.methodLink "MailVerdictsLaw" 42 ⟨"MailVerdicts", "check", "(II)I"⟩ ∈ z_ws := z_inT (List.mem_of_getElem? (i := 321) rfl) rfl
set_option maxRecDepth 20000 in
theorem zm7 : z_mok 7 2 := ⟨by decide +kernel, z_inT (List.mem_of_getElem? (i := 324) rfl) rfl, z_inT (List.mem_of_getElem? (i := 1) rfl) rfl, ⟨by decide +kernel, by decide +kernel⟩, by decide +kernel, by decide +kernel⟩
set_option maxRecDepth 20000 in
theorem zw322 : Jvm.Cond.instanceMethod ⟨"MailVerdicts", "check", "(II)I"⟩ ∈ z_ws := z_inT (List.mem_of_getElem? (i := 322) rfl) rfl
set_option maxRecDepth 20000 in
theorem zw323 : Jvm.Cond.selects "MailVerdicts" ⟨"MailVerdicts", "check", "(II)I"⟩ ⟨"MailVerdicts", "check", "(II)I"⟩ ∈ z_ws := z_inT (List.mem_of_getElem? (i := 323) rfl) rfl
set_option maxRecDepth 20000 in
theorem zw705 : Jvm.Cond.methodLink "MailVerdictsLaw" 46 ⟨"MailVerdictsModel", "check", "(II)I"⟩ ∈ z_ws := z_inT (List.mem_of_getElem? (i := 705) rfl) rfl
set_option maxRecDepth 20000 in
theorem zm87 : z_mok 87 2 := ⟨by decide +kernel, z_inT (List.mem_of_getElem? (i := 708) rfl) rfl, z_inT (List.mem_of_getElem? (i := 6) rfl) rfl, ⟨by decide +kernel, by decide +kernel⟩, by decide +kernel, by decide +kernel⟩
set_option maxRecDepth 20000 in
theorem zw706 : Jvm.Cond.instanceMethod ⟨"MailVerdictsModel", "check", "(II)I"⟩ ∈ z_ws := z_inT (List.mem_of_getElem? (i := 706) rfl) rfl
set_option maxRecDepth 20000 in
theorem zw707 : Jvm.Cond.selects "MailVerdictsModel" ⟨"MailVerdictsModel", "check", "(II)I"⟩ ⟨"MailVerdictsModel", "check", "(II)I"⟩ ∈ z_ws := z_inT (List.mem_of_getElem? (i := 707) rfl) rfl
set_option maxRecDepth 20000 in
theorem zw366 : Jvm.Cond.methodLink "MailVerdictsLaw" 47 ⟨"MailVerdicts", "queries", "()I"⟩ ∈ z_ws := z_inT (List.mem_of_getElem? (i := 366) rfl) rfl
set_option maxRecDepth 20000 in
theorem zm8 : z_mok 8 0 := ⟨by decide +kernel, z_inT (List.mem_of_getElem? (i := 369) rfl) rfl, z_inT (List.mem_of_getElem? (i := 1) rfl) rfl, ⟨by decide +kernel, by decide +kernel⟩, by decide +kernel, by decide +kernel⟩
set_option maxRecDepth 20000 in
theorem zw367 : Jvm.Cond.instanceMethod ⟨"MailVerdicts", "queries", "()I"⟩ ∈ z_ws := z_inT (List.mem_of_getElem? (i := 367) rfl) rfl
set_option maxRecDepth 20000 in
theorem zw368 : Jvm.Cond.selects "MailVerdicts" ⟨"MailVerdicts", "queries", "()I"⟩ ⟨"MailVerdicts", "queries", "()I"⟩ ∈ z_ws := z_inT (List.mem_of_getElem? (i := 368) rfl) rfl
set_option maxRecDepth 20000 in
theorem zw741 : Jvm.Cond.methodLink "MailVerdictsLaw" 51 ⟨"MailVerdictsModel", "queries", "()I"⟩ ∈ z_ws := z_inT (List.mem_of_getElem? (i := 741) rfl) rfl
set_option maxRecDepth 20000 in
theorem zm88 : z_mok 88 0 := ⟨by decide +kernel, z_inT (List.mem_of_getElem? (i := 744) rfl) rfl, z_inT (List.mem_of_getElem? (i := 6) rfl) rfl, ⟨by decide +kernel, by decide +kernel⟩, by decide +kernel, by decide +kernel⟩
set_option maxRecDepth 20000 in
theorem zw742 : Jvm.Cond.instanceMethod ⟨"MailVerdictsModel", "queries", "()I"⟩ ∈ z_ws := z_inT (List.mem_of_getElem? (i := 742) rfl) rfl
set_option maxRecDepth 20000 in
theorem zw743 : Jvm.Cond.selects "MailVerdictsModel" ⟨"MailVerdictsModel", "queries", "()I"⟩ ⟨"MailVerdictsModel", "queries", "()I"⟩ ∈ z_ws := z_inT (List.mem_of_getElem? (i := 743) rfl) rfl
set_option maxRecDepth 20000 in
theorem zw370 : Jvm.Cond.methodLink "MailVerdictsLaw" 52 ⟨"MailVerdicts", "empties", "()I"⟩ ∈ z_ws := z_inT (List.mem_of_getElem? (i := 370) rfl) rfl
set_option maxRecDepth 20000 in
theorem zm9 : z_mok 9 0 := ⟨by decide +kernel, z_inT (List.mem_of_getElem? (i := 373) rfl) rfl, z_inT (List.mem_of_getElem? (i := 1) rfl) rfl, ⟨by decide +kernel, by decide +kernel⟩, by decide +kernel, by decide +kernel⟩
set_option maxRecDepth 20000 in
theorem zw371 : Jvm.Cond.instanceMethod ⟨"MailVerdicts", "empties", "()I"⟩ ∈ z_ws := z_inT (List.mem_of_getElem? (i := 371) rfl) rfl
set_option maxRecDepth 20000 in
theorem zw372 : Jvm.Cond.selects "MailVerdicts" ⟨"MailVerdicts", "empties", "()I"⟩ ⟨"MailVerdicts", "empties", "()I"⟩ ∈ z_ws := z_inT (List.mem_of_getElem? (i := 372) rfl) rfl
set_option maxRecDepth 20000 in
theorem zw745 : Jvm.Cond.methodLink "MailVerdictsLaw" 55 ⟨"MailVerdictsModel", "empties", "()I"⟩ ∈ z_ws := z_inT (List.mem_of_getElem? (i := 745) rfl) rfl
set_option maxRecDepth 20000 in
theorem zm89 : z_mok 89 0 := ⟨by decide +kernel, z_inT (List.mem_of_getElem? (i := 748) rfl) rfl, z_inT (List.mem_of_getElem? (i := 6) rfl) rfl, ⟨by decide +kernel, by decide +kernel⟩, by decide +kernel, by decide +kernel⟩
set_option maxRecDepth 20000 in
theorem zw746 : Jvm.Cond.instanceMethod ⟨"MailVerdictsModel", "empties", "()I"⟩ ∈ z_ws := z_inT (List.mem_of_getElem? (i := 746) rfl) rfl
set_option maxRecDepth 20000 in
theorem zw747 : Jvm.Cond.selects "MailVerdictsModel" ⟨"MailVerdictsModel", "empties", "()I"⟩ ⟨"MailVerdictsModel", "empties", "()I"⟩ ∈ z_ws := z_inT (List.mem_of_getElem? (i := 747) rfl) rfl
set_option maxRecDepth 20000 in
theorem zw374 : Jvm.Cond.methodLink "MailVerdictsLaw" 56 ⟨"MailVerdicts", "type", "(C)Z"⟩ ∈ z_ws := z_inT (List.mem_of_getElem? (i := 374) rfl) rfl
set_option maxRecDepth 20000 in
theorem zm10 : z_mok 10 1 := ⟨by decide +kernel, z_inT (List.mem_of_getElem? (i := 377) rfl) rfl, z_inT (List.mem_of_getElem? (i := 1) rfl) rfl, ⟨by decide +kernel, by decide +kernel⟩, by decide +kernel, by decide +kernel⟩
set_option maxRecDepth 20000 in
theorem zw375 : Jvm.Cond.instanceMethod ⟨"MailVerdicts", "type", "(C)Z"⟩ ∈ z_ws := z_inT (List.mem_of_getElem? (i := 375) rfl) rfl
set_option maxRecDepth 20000 in
theorem zw376 : Jvm.Cond.selects "MailVerdicts" ⟨"MailVerdicts", "type", "(C)Z"⟩ ⟨"MailVerdicts", "type", "(C)Z"⟩ ∈ z_ws := z_inT (List.mem_of_getElem? (i := 376) rfl) rfl
set_option maxRecDepth 20000 in
theorem zw749 : Jvm.Cond.methodLink "MailVerdictsLaw" 60 ⟨"MailVerdictsModel", "type", "(C)Z"⟩ ∈ z_ws := z_inT (List.mem_of_getElem? (i := 749) rfl) rfl
set_option maxRecDepth 20000 in
theorem zm90 : z_mok 90 1 := ⟨by decide +kernel, z_inT (List.mem_of_getElem? (i := 752) rfl) rfl, z_inT (List.mem_of_getElem? (i := 6) rfl) rfl, ⟨by decide +kernel, by decide +kernel⟩, by decide +kernel, by decide +kernel⟩
set_option maxRecDepth 20000 in
theorem zw750 : Jvm.Cond.instanceMethod ⟨"MailVerdictsModel", "type", "(C)Z"⟩ ∈ z_ws := z_inT (List.mem_of_getElem? (i := 750) rfl) rfl
set_option maxRecDepth 20000 in
theorem zw751 : Jvm.Cond.selects "MailVerdictsModel" ⟨"MailVerdictsModel", "type", "(C)Z"⟩ ⟨"MailVerdictsModel", "type", "(C)Z"⟩ ∈ z_ws := z_inT (List.mem_of_getElem? (i := 751) rfl) rfl
set_option maxRecDepth 20000 in
theorem zw382 : Jvm.Cond.methodLink "MailVerdictsLaw" 61 ⟨"MailVerdicts", "list", "(C)Z"⟩ ∈ z_ws := z_inT (List.mem_of_getElem? (i := 382) rfl) rfl
set_option maxRecDepth 20000 in
theorem zm11 : z_mok 11 1 := ⟨by decide +kernel, z_inT (List.mem_of_getElem? (i := 385) rfl) rfl, z_inT (List.mem_of_getElem? (i := 1) rfl) rfl, ⟨by decide +kernel, by decide +kernel⟩, by decide +kernel, by decide +kernel⟩
set_option maxRecDepth 20000 in
theorem zw383 : Jvm.Cond.instanceMethod ⟨"MailVerdicts", "list", "(C)Z"⟩ ∈ z_ws := z_inT (List.mem_of_getElem? (i := 383) rfl) rfl
set_option maxRecDepth 20000 in
theorem zw384 : Jvm.Cond.selects "MailVerdicts" ⟨"MailVerdicts", "list", "(C)Z"⟩ ⟨"MailVerdicts", "list", "(C)Z"⟩ ∈ z_ws := z_inT (List.mem_of_getElem? (i := 384) rfl) rfl
set_option maxRecDepth 20000 in
theorem zw753 : Jvm.Cond.methodLink "MailVerdictsLaw" 64 ⟨"MailVerdictsModel", "list", "(C)Z"⟩ ∈ z_ws := z_inT (List.mem_of_getElem? (i := 753) rfl) rfl
set_option maxRecDepth 20000 in
theorem zm92 : z_mok 92 1 := ⟨by decide +kernel, z_inT (List.mem_of_getElem? (i := 756) rfl) rfl, z_inT (List.mem_of_getElem? (i := 6) rfl) rfl, ⟨by decide +kernel, by decide +kernel⟩, by decide +kernel, by decide +kernel⟩
set_option maxRecDepth 20000 in
theorem zw754 : Jvm.Cond.instanceMethod ⟨"MailVerdictsModel", "list", "(C)Z"⟩ ∈ z_ws := z_inT (List.mem_of_getElem? (i := 754) rfl) rfl
set_option maxRecDepth 20000 in
theorem zw755 : Jvm.Cond.selects "MailVerdictsModel" ⟨"MailVerdictsModel", "list", "(C)Z"⟩ ⟨"MailVerdictsModel", "list", "(C)Z"⟩ ∈ z_ws := z_inT (List.mem_of_getElem? (i := 755) rfl) rfl
set_option maxRecDepth 20000 in
theorem zw389 : Jvm.Cond.methodLink "MailVerdictsLaw" 65 ⟨"MailVerdicts", "clear", "()V"⟩ ∈ z_ws := z_inT (List.mem_of_getElem? (i := 389) rfl) rfl
set_option maxRecDepth 20000 in
theorem zm12 : z_mok 12 0 := ⟨by decide +kernel, z_inT (List.mem_of_getElem? (i := 392) rfl) rfl, z_inT (List.mem_of_getElem? (i := 1) rfl) rfl, ⟨by decide +kernel, by decide +kernel⟩, by decide +kernel, by decide +kernel⟩
set_option maxRecDepth 20000 in
theorem zw390 : Jvm.Cond.instanceMethod ⟨"MailVerdicts", "clear", "()V"⟩ ∈ z_ws := z_inT (List.mem_of_getElem? (i := 390) rfl) rfl
set_option maxRecDepth 20000 in
theorem zw391 : Jvm.Cond.selects "MailVerdicts" ⟨"MailVerdicts", "clear", "()V"⟩ ⟨"MailVerdicts", "clear", "()V"⟩ ∈ z_ws := z_inT (List.mem_of_getElem? (i := 391) rfl) rfl
set_option maxRecDepth 20000 in
theorem zw761 : Jvm.Cond.methodLink "MailVerdictsLaw" 68 ⟨"MailVerdictsModel", "clear", "()V"⟩ ∈ z_ws := z_inT (List.mem_of_getElem? (i := 761) rfl) rfl
set_option maxRecDepth 20000 in
theorem zm93 : z_mok 93 0 := ⟨by decide +kernel, z_inT (List.mem_of_getElem? (i := 764) rfl) rfl, z_inT (List.mem_of_getElem? (i := 6) rfl) rfl, ⟨by decide +kernel, by decide +kernel⟩, by decide +kernel, by decide +kernel⟩
set_option maxRecDepth 20000 in
theorem zw762 : Jvm.Cond.instanceMethod ⟨"MailVerdictsModel", "clear", "()V"⟩ ∈ z_ws := z_inT (List.mem_of_getElem? (i := 762) rfl) rfl
set_option maxRecDepth 20000 in
theorem zw763 : Jvm.Cond.selects "MailVerdictsModel" ⟨"MailVerdictsModel", "clear", "()V"⟩ ⟨"MailVerdictsModel", "clear", "()V"⟩ ∈ z_ws := z_inT (List.mem_of_getElem? (i := 763) rfl) rfl
set_option maxRecDepth 20000 in
theorem zw397 : Jvm.Cond.methodLink "MailVerdictsLaw" 69 ⟨"MailVerdicts", "fields", "()I"⟩ ∈ z_ws := z_inT (List.mem_of_getElem? (i := 397) rfl) rfl
set_option maxRecDepth 20000 in
theorem zm13 : z_mok 13 0 := ⟨by decide +kernel, z_inT (List.mem_of_getElem? (i := 400) rfl) rfl, z_inT (List.mem_of_getElem? (i := 1) rfl) rfl, ⟨by decide +kernel, by decide +kernel⟩, by decide +kernel, by decide +kernel⟩
set_option maxRecDepth 20000 in
theorem zw398 : Jvm.Cond.instanceMethod ⟨"MailVerdicts", "fields", "()I"⟩ ∈ z_ws := z_inT (List.mem_of_getElem? (i := 398) rfl) rfl
set_option maxRecDepth 20000 in
theorem zw399 : Jvm.Cond.selects "MailVerdicts" ⟨"MailVerdicts", "fields", "()I"⟩ ⟨"MailVerdicts", "fields", "()I"⟩ ∈ z_ws := z_inT (List.mem_of_getElem? (i := 399) rfl) rfl
set_option maxRecDepth 20000 in
theorem zw765 : Jvm.Cond.methodLink "MailVerdictsLaw" 72 ⟨"MailVerdictsModel", "fields", "()I"⟩ ∈ z_ws := z_inT (List.mem_of_getElem? (i := 765) rfl) rfl
set_option maxRecDepth 20000 in
theorem zm97 : z_mok 97 0 := ⟨by decide +kernel, z_inT (List.mem_of_getElem? (i := 768) rfl) rfl, z_inT (List.mem_of_getElem? (i := 6) rfl) rfl, ⟨by decide +kernel, by decide +kernel⟩, by decide +kernel, by decide +kernel⟩
set_option maxRecDepth 20000 in
theorem zw766 : Jvm.Cond.instanceMethod ⟨"MailVerdictsModel", "fields", "()I"⟩ ∈ z_ws := z_inT (List.mem_of_getElem? (i := 766) rfl) rfl
set_option maxRecDepth 20000 in
theorem zw767 : Jvm.Cond.selects "MailVerdictsModel" ⟨"MailVerdictsModel", "fields", "()I"⟩ ⟨"MailVerdictsModel", "fields", "()I"⟩ ∈ z_ws := z_inT (List.mem_of_getElem? (i := 767) rfl) rfl
set_option maxRecDepth 20000 in
theorem zw418 : Jvm.Cond.methodLink "MailVerdictsLaw" 73 ⟨"MailVerdicts", "length", "(ZZ)I"⟩ ∈ z_ws := z_inT (List.mem_of_getElem? (i := 418) rfl) rfl
set_option maxRecDepth 20000 in
theorem zm14 : z_mok 14 2 := ⟨by decide +kernel, z_inT (List.mem_of_getElem? (i := 421) rfl) rfl, z_inT (List.mem_of_getElem? (i := 1) rfl) rfl, ⟨by decide +kernel, by decide +kernel⟩, by decide +kernel, by decide +kernel⟩
set_option maxRecDepth 20000 in
theorem zw419 : Jvm.Cond.instanceMethod ⟨"MailVerdicts", "length", "(ZZ)I"⟩ ∈ z_ws := z_inT (List.mem_of_getElem? (i := 419) rfl) rfl
set_option maxRecDepth 20000 in
theorem zw420 : Jvm.Cond.selects "MailVerdicts" ⟨"MailVerdicts", "length", "(ZZ)I"⟩ ⟨"MailVerdicts", "length", "(ZZ)I"⟩ ∈ z_ws := z_inT (List.mem_of_getElem? (i := 420) rfl) rfl
set_option maxRecDepth 20000 in
theorem zw777 : Jvm.Cond.methodLink "MailVerdictsLaw" 77 ⟨"MailVerdictsModel", "length", "(ZZ)I"⟩ ∈ z_ws := z_inT (List.mem_of_getElem? (i := 777) rfl) rfl
set_option maxRecDepth 20000 in
theorem zm107 : z_mok 107 2 := ⟨by decide +kernel, z_inT (List.mem_of_getElem? (i := 780) rfl) rfl, z_inT (List.mem_of_getElem? (i := 6) rfl) rfl, ⟨by decide +kernel, by decide +kernel⟩, by decide +kernel, by decide +kernel⟩
set_option maxRecDepth 20000 in
theorem zw778 : Jvm.Cond.instanceMethod ⟨"MailVerdictsModel", "length", "(ZZ)I"⟩ ∈ z_ws := z_inT (List.mem_of_getElem? (i := 778) rfl) rfl
set_option maxRecDepth 20000 in
theorem zw779 : Jvm.Cond.selects "MailVerdictsModel" ⟨"MailVerdictsModel", "length", "(ZZ)I"⟩ ⟨"MailVerdictsModel", "length", "(ZZ)I"⟩ ∈ z_ws := z_inT (List.mem_of_getElem? (i := 779) rfl) rfl
set_option maxRecDepth 20000 in
theorem zw465 : Jvm.Cond.methodLink "MailVerdictsLaw" 78 ⟨"MailVerdicts", "at", "(ZZI)I"⟩ ∈ z_ws := z_inT (List.mem_of_getElem? (i := 465) rfl) rfl
set_option maxRecDepth 20000 in
theorem zm15 : z_mok 15 3 := ⟨by decide +kernel, z_inT (List.mem_of_getElem? (i := 468) rfl) rfl, z_inT (List.mem_of_getElem? (i := 1) rfl) rfl, ⟨by decide +kernel, by decide +kernel⟩, by decide +kernel, by decide +kernel⟩
set_option maxRecDepth 20000 in
theorem zw466 : Jvm.Cond.instanceMethod ⟨"MailVerdicts", "at", "(ZZI)I"⟩ ∈ z_ws := z_inT (List.mem_of_getElem? (i := 466) rfl) rfl
set_option maxRecDepth 20000 in
theorem zw467 : Jvm.Cond.selects "MailVerdicts" ⟨"MailVerdicts", "at", "(ZZI)I"⟩ ⟨"MailVerdicts", "at", "(ZZI)I"⟩ ∈ z_ws := z_inT (List.mem_of_getElem? (i := 467) rfl) rfl
set_option maxRecDepth 20000 in
theorem zw821 : Jvm.Cond.methodLink "MailVerdictsLaw" 82 ⟨"MailVerdictsModel", "at", "(ZZI)I"⟩ ∈ z_ws := z_inT (List.mem_of_getElem? (i := 821) rfl) rfl
set_option maxRecDepth 20000 in
theorem zm108 : z_mok 108 3 := ⟨by decide +kernel, z_inT (List.mem_of_getElem? (i := 824) rfl) rfl, z_inT (List.mem_of_getElem? (i := 6) rfl) rfl, ⟨by decide +kernel, by decide +kernel⟩, by decide +kernel, by decide +kernel⟩
set_option maxRecDepth 20000 in
theorem zw822 : Jvm.Cond.instanceMethod ⟨"MailVerdictsModel", "at", "(ZZI)I"⟩ ∈ z_ws := z_inT (List.mem_of_getElem? (i := 822) rfl) rfl
set_option maxRecDepth 20000 in
theorem zw823 : Jvm.Cond.selects "MailVerdictsModel" ⟨"MailVerdictsModel", "at", "(ZZI)I"⟩ ⟨"MailVerdictsModel", "at", "(ZZI)I"⟩ ∈ z_ws := z_inT (List.mem_of_getElem? (i := 823) rfl) rfl
set_option maxRecDepth 20000 in
theorem zw470 : Jvm.Cond.methodLink "MailVerdictsLaw" 83 ⟨"MailVerdicts", "digest", "(ZZ)I"⟩ ∈ z_ws := z_inT (List.mem_of_getElem? (i := 470) rfl) rfl
set_option maxRecDepth 20000 in
theorem zm16 : z_mok 16 2 := ⟨by decide +kernel, z_inT (List.mem_of_getElem? (i := 473) rfl) rfl, z_inT (List.mem_of_getElem? (i := 1) rfl) rfl, ⟨by decide +kernel, by decide +kernel⟩, by decide +kernel, by decide +kernel⟩
set_option maxRecDepth 20000 in
theorem zw471 : Jvm.Cond.instanceMethod ⟨"MailVerdicts", "digest", "(ZZ)I"⟩ ∈ z_ws := z_inT (List.mem_of_getElem? (i := 471) rfl) rfl
set_option maxRecDepth 20000 in
theorem zw472 : Jvm.Cond.selects "MailVerdicts" ⟨"MailVerdicts", "digest", "(ZZ)I"⟩ ⟨"MailVerdicts", "digest", "(ZZ)I"⟩ ∈ z_ws := z_inT (List.mem_of_getElem? (i := 472) rfl) rfl
set_option maxRecDepth 20000 in
theorem zw825 : Jvm.Cond.methodLink "MailVerdictsLaw" 86 ⟨"MailVerdictsModel", "digest", "(ZZ)I"⟩ ∈ z_ws := z_inT (List.mem_of_getElem? (i := 825) rfl) rfl
set_option maxRecDepth 20000 in
theorem zw480 : Jvm.Cond.methodLink "MailVerdictsLaw" 87 ⟨"MailVerdicts", "sign", "(IZZI)I"⟩ ∈ z_ws := z_inT (List.mem_of_getElem? (i := 480) rfl) rfl
set_option maxRecDepth 20000 in
theorem zm17 : z_mok 17 4 := ⟨by decide +kernel, z_inT (List.mem_of_getElem? (i := 483) rfl) rfl, z_inT (List.mem_of_getElem? (i := 1) rfl) rfl, ⟨by decide +kernel, by decide +kernel⟩, by decide +kernel, by decide +kernel⟩
set_option maxRecDepth 20000 in
theorem zw481 : Jvm.Cond.instanceMethod ⟨"MailVerdicts", "sign", "(IZZI)I"⟩ ∈ z_ws := z_inT (List.mem_of_getElem? (i := 481) rfl) rfl
set_option maxRecDepth 20000 in
theorem zw482 : Jvm.Cond.selects "MailVerdicts" ⟨"MailVerdicts", "sign", "(IZZI)I"⟩ ⟨"MailVerdicts", "sign", "(IZZI)I"⟩ ∈ z_ws := z_inT (List.mem_of_getElem? (i := 482) rfl) rfl
set_option maxRecDepth 20000 in
theorem zw831 : Jvm.Cond.methodLink "MailVerdictsLaw" 91 ⟨"MailVerdictsModel", "sign", "(IZZI)I"⟩ ∈ z_ws := z_inT (List.mem_of_getElem? (i := 831) rfl) rfl
set_option maxRecDepth 20000 in
theorem zm110 : z_mok 110 4 := ⟨by decide +kernel, z_inT (List.mem_of_getElem? (i := 834) rfl) rfl, z_inT (List.mem_of_getElem? (i := 6) rfl) rfl, ⟨by decide +kernel, by decide +kernel⟩, by decide +kernel, by decide +kernel⟩
set_option maxRecDepth 20000 in
theorem zw832 : Jvm.Cond.instanceMethod ⟨"MailVerdictsModel", "sign", "(IZZI)I"⟩ ∈ z_ws := z_inT (List.mem_of_getElem? (i := 832) rfl) rfl
set_option maxRecDepth 20000 in
theorem zw833 : Jvm.Cond.selects "MailVerdictsModel" ⟨"MailVerdictsModel", "sign", "(IZZI)I"⟩ ⟨"MailVerdictsModel", "sign", "(IZZI)I"⟩ ∈ z_ws := z_inT (List.mem_of_getElem? (i := 833) rfl) rfl
set_option maxRecDepth 20000 in
theorem zw506 : Jvm.Cond.methodLink "MailVerdictsLaw" 92 ⟨"MailVerdicts", "holds", "(I)Z"⟩ ∈ z_ws := z_inT (List.mem_of_getElem? (i := 506) rfl) rfl
set_option maxRecDepth 20000 in
theorem zm18 : z_mok 18 1 := ⟨by decide +kernel, z_inT (List.mem_of_getElem? (i := 509) rfl) rfl, z_inT (List.mem_of_getElem? (i := 1) rfl) rfl, ⟨by decide +kernel, by decide +kernel⟩, by decide +kernel, by decide +kernel⟩
set_option maxRecDepth 20000 in
theorem zw507 : Jvm.Cond.instanceMethod ⟨"MailVerdicts", "holds", "(I)Z"⟩ ∈ z_ws := z_inT (List.mem_of_getElem? (i := 507) rfl) rfl
set_option maxRecDepth 20000 in
theorem zw508 : Jvm.Cond.selects "MailVerdicts" ⟨"MailVerdicts", "holds", "(I)Z"⟩ ⟨"MailVerdicts", "holds", "(I)Z"⟩ ∈ z_ws := z_inT (List.mem_of_getElem? (i := 508) rfl) rfl
set_option maxRecDepth 20000 in
theorem zw835 : Jvm.Cond.methodLink "MailVerdictsLaw" 96 ⟨"MailVerdictsModel", "holds", "(I)Z"⟩ ∈ z_ws := z_inT (List.mem_of_getElem? (i := 835) rfl) rfl
set_option maxRecDepth 20000 in
theorem zw521 : Jvm.Cond.methodLink "MailVerdictsLaw" 97 ⟨"MailVerdicts", "verdict", "(III)I"⟩ ∈ z_ws := z_inT (List.mem_of_getElem? (i := 521) rfl) rfl
set_option maxRecDepth 20000 in
theorem zm19 : z_mok 19 3 := ⟨by decide +kernel, z_inT (List.mem_of_getElem? (i := 524) rfl) rfl, z_inT (List.mem_of_getElem? (i := 1) rfl) rfl, ⟨by decide +kernel, by decide +kernel⟩, by decide +kernel, by decide +kernel⟩
set_option maxRecDepth 20000 in
theorem zw522 : Jvm.Cond.instanceMethod ⟨"MailVerdicts", "verdict", "(III)I"⟩ ∈ z_ws := z_inT (List.mem_of_getElem? (i := 522) rfl) rfl
set_option maxRecDepth 20000 in
theorem zw523 : Jvm.Cond.selects "MailVerdicts" ⟨"MailVerdicts", "verdict", "(III)I"⟩ ⟨"MailVerdicts", "verdict", "(III)I"⟩ ∈ z_ws := z_inT (List.mem_of_getElem? (i := 523) rfl) rfl
set_option maxRecDepth 20000 in
theorem zw840 : Jvm.Cond.methodLink "MailVerdictsLaw" 101 ⟨"MailVerdictsModel", "verdict", "(III)I"⟩ ∈ z_ws := z_inT (List.mem_of_getElem? (i := 840) rfl) rfl
set_option maxRecDepth 20000 in
theorem zm114 : z_mok 114 3 := ⟨by decide +kernel, z_inT (List.mem_of_getElem? (i := 843) rfl) rfl, z_inT (List.mem_of_getElem? (i := 6) rfl) rfl, ⟨by decide +kernel, by decide +kernel⟩, by decide +kernel, by decide +kernel⟩
set_option maxRecDepth 20000 in
theorem zw841 : Jvm.Cond.instanceMethod ⟨"MailVerdictsModel", "verdict", "(III)I"⟩ ∈ z_ws := z_inT (List.mem_of_getElem? (i := 841) rfl) rfl
set_option maxRecDepth 20000 in
theorem zw842 : Jvm.Cond.selects "MailVerdictsModel" ⟨"MailVerdictsModel", "verdict", "(III)I"⟩ ⟨"MailVerdictsModel", "verdict", "(III)I"⟩ ∈ z_ws := z_inT (List.mem_of_getElem? (i := 842) rfl) rfl
theorem zd0 (scr B : Nat) : ∀ j, j < 8 → defaultValue (z_T0 j) = vp_V (([.null, .int 0, .null, .null, .null, .null, .null, .int 0] : List Value).map (z_v scr B)) j := by
  show ∀ j, j < 8 → defaultValue (z_T0 j) = vp_V [.null, .int 0, .null, .null, .null, .null, .null, .int 0] j
  decide +kernel
theorem zd1 (scr B : Nat) : ∀ j, j < 11 → defaultValue (z_T1 j) = vp_V (([.null, .int 0, .null, .int 0, .null, .int 0, .null, .int 0, .null, .null, .null] : List Value).map (z_v scr B)) j := by
  show ∀ j, j < 11 → defaultValue (z_T1 j) = vp_V [.null, .int 0, .null, .int 0, .null, .int 0, .null, .int 0, .null, .null, .null] j
  decide +kernel
theorem zd2 (scr B : Nat) : ∀ j, j < 3 → defaultValue (z_T2 j) = vp_V (([.int 0, .int 0, .int 0] : List Value).map (z_v scr B)) j := by
  show ∀ j, j < 3 → defaultValue (z_T2 j) = vp_V [.int 0, .int 0, .int 0] j
  decide +kernel
theorem zd3 (scr B : Nat) : ∀ j, j < 6 → defaultValue (z_T3 j) = vp_V (([.null, .null, .null, .null, .null, .int 0] : List Value).map (z_v scr B)) j := by
  show ∀ j, j < 6 → defaultValue (z_T3 j) = vp_V [.null, .null, .null, .null, .null, .int 0] j
  decide +kernel
theorem zd4 (scr B : Nat) : ∀ j, j < 6 → defaultValue (z_T4 j) = vp_V (([.null, .int 0, .int 0, .null, .null, .null] : List Value).map (z_v scr B)) j := by
  show ∀ j, j < 6 → defaultValue (z_T4 j) = vp_V [.null, .int 0, .int 0, .null, .null, .null] j
  decide +kernel
theorem zd5 (scr B : Nat) : ∀ j, j < 2 → defaultValue (z_T5 j) = vp_V (([.null, .int 0] : List Value).map (z_v scr B)) j := by
  show ∀ j, j < 2 → defaultValue (z_T5 j) = vp_V [.null, .int 0] j
  decide +kernel
theorem zd6 (scr B : Nat) : ∀ j, j < 4 → defaultValue (z_T6 j) = vp_V (([.null, .int 0, .int 0, .int 0] : List Value).map (z_v scr B)) j := by
  show ∀ j, j < 4 → defaultValue (z_T6 j) = vp_V [.null, .int 0, .int 0, .int 0] j
  decide +kernel
theorem zd7 (scr B : Nat) : ∀ j, j < 5 → defaultValue (z_T7 j) = vp_V (([.int 0, .int 0, .int 0, .null, .int 0] : List Value).map (z_v scr B)) j := by
  show ∀ j, j < 5 → defaultValue (z_T7 j) = vp_V [.int 0, .int 0, .int 0, .null, .int 0] j
  decide +kernel
theorem zd8 (scr B : Nat) : ∀ j, j < 2 → defaultValue (z_T8 j) = vp_V (([.int 0, .int 0] : List Value).map (z_v scr B)) j := by
  show ∀ j, j < 2 → defaultValue (z_T8 j) = vp_V [.int 0, .int 0] j
  decide +kernel
theorem zd9 (scr B : Nat) : ∀ j, j < 4 → defaultValue (z_T9 j) = vp_V (([.int 0, .int 0, .int 0, .int 0] : List Value).map (z_v scr B)) j := by
  show ∀ j, j < 4 → defaultValue (z_T9 j) = vp_V [.int 0, .int 0, .int 0, .int 0] j
  decide +kernel
theorem zd10 (scr B : Nat) : ∀ j, j < 44 → defaultValue (z_T10 j) = vp_V (([.int 0, .null, .null, .null, .null, .null, .null, .null, .null, .null, .null, .null, .null, .null, .null, .null, .null, .null, .int 0, .int 0, .int 0, .null, .null, .null, .int 0, .null, .int 0, .null, .int 0, .null, .null, .null, .null, .int 0, .null, .null, .int 0, .int 0, .null, .null, .null, .null, .int 0, .null] : List Value).map (z_v scr B)) j := by
  show ∀ j, j < 44 → defaultValue (z_T10 j) = vp_V [.int 0, .null, .null, .null, .null, .null, .null, .null, .null, .null, .null, .null, .null, .null, .null, .null, .null, .null, .int 0, .int 0, .int 0, .null, .null, .null, .int 0, .null, .int 0, .null, .int 0, .null, .null, .null, .null, .int 0, .null, .null, .int 0, .int 0, .null, .null, .null, .null, .int 0, .null] j
  decide +kernel
