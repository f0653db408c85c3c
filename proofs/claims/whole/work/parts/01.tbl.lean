-- ===== PART A: goes FIRST, ahead of the names: the tables' words, and 'selects' of the private methods out of them =====
/-- a private method of a class that the tables say can be made, by its rows of tables_1 -/
def lw_okq (q : MethodName × Nat) : Prop := (q.1.cls ≠ "java/lang/invoke/MethodHandle" ∧ q.1.cls ≠ "java/lang/invoke/VarHandle") ∧ Cond.instantiable q.1.cls q.2 ∈ tables_1 ∧ Cond.privateMethod q.1 ∈ tables_1 ∧ Cond.instanceMethod q.1 ∈ tables_1
theorem lw_p0 : lw_okq (⟨"MailVerdicts", "numbered", "(I)LMailVerdicts$Domain;"⟩, 8) := ⟨⟨by decide +kernel, by decide +kernel⟩, List.mem_of_getElem? (i := 14) (by decide +kernel), List.mem_of_getElem? (i := 155) (by decide +kernel), List.mem_of_getElem? (i := 156) (by decide +kernel)⟩
theorem lw_p1 : lw_okq (⟨"MailVerdicts$Checking", "resultFor", "(LMailVerdicts$Domain;I)I"⟩, 3) := ⟨⟨by decide +kernel, by decide +kernel⟩, List.mem_of_getElem? (i := 24) (by decide +kernel), List.mem_of_getElem? (i := 330) (by decide +kernel), List.mem_of_getElem? (i := 331) (by decide +kernel)⟩
theorem lw_p2 : lw_okq (⟨"MailVerdicts$Checking", "outcomeOf", "(LMailVerdicts$Term;I)I"⟩, 3) := ⟨⟨by decide +kernel, by decide +kernel⟩, List.mem_of_getElem? (i := 24) (by decide +kernel), List.mem_of_getElem? (i := 335) (by decide +kernel), List.mem_of_getElem? (i := 336) (by decide +kernel)⟩
theorem lw_p3 : lw_okq (⟨"MailVerdicts$Checking", "beginsLike", "(II)Z"⟩, 3) := ⟨⟨by decide +kernel, by decide +kernel⟩, List.mem_of_getElem? (i := 24) (by decide +kernel), List.mem_of_getElem? (i := 339) (by decide +kernel), List.mem_of_getElem? (i := 340) (by decide +kernel)⟩
theorem lw_p4 : lw_okq (⟨"MailVerdicts$Checking", "countQuery", "()Z"⟩, 3) := ⟨⟨by decide +kernel, by decide +kernel⟩, List.mem_of_getElem? (i := 24) (by decide +kernel), List.mem_of_getElem? (i := 343) (by decide +kernel), List.mem_of_getElem? (i := 344) (by decide +kernel)⟩
theorem lw_p5 : lw_okq (⟨"MailVerdicts$Checking", "outcomeOfHost", "(LMailVerdicts$Domain;I)I"⟩, 3) := ⟨⟨by decide +kernel, by decide +kernel⟩, List.mem_of_getElem? (i := 24) (by decide +kernel), List.mem_of_getElem? (i := 347) (by decide +kernel), List.mem_of_getElem? (i := 348) (by decide +kernel)⟩
theorem lw_p6 : lw_okq (⟨"MailVerdicts$Checking", "outcomeOfEmpty", "()I"⟩, 3) := ⟨⟨by decide +kernel, by decide +kernel⟩, List.mem_of_getElem? (i := 24) (by decide +kernel), List.mem_of_getElem? (i := 351) (by decide +kernel), List.mem_of_getElem? (i := 352) (by decide +kernel)⟩
theorem lw_p7 : lw_okq (⟨"MailVerdicts$Checking", "outcomeOfMail", "(LMailVerdicts$Domain;I)I"⟩, 3) := ⟨⟨by decide +kernel, by decide +kernel⟩, List.mem_of_getElem? (i := 24) (by decide +kernel), List.mem_of_getElem? (i := 355) (by decide +kernel), List.mem_of_getElem? (i := 356) (by decide +kernel)⟩
theorem lw_p8 : lw_okq (⟨"MailVerdicts$Checking", "outcomeOfWithin", "(LMailVerdicts$Domain;I)I"⟩, 3) := ⟨⟨by decide +kernel, by decide +kernel⟩, List.mem_of_getElem? (i := 24) (by decide +kernel), List.mem_of_getElem? (i := 359) (by decide +kernel), List.mem_of_getElem? (i := 360) (by decide +kernel)⟩
theorem lw_p9 : lw_okq (⟨"MailVerdicts$Checking", "resultOfLead", "(LMailVerdicts$Domain;I)I"⟩, 3) := ⟨⟨by decide +kernel, by decide +kernel⟩, List.mem_of_getElem? (i := 24) (by decide +kernel), List.mem_of_getElem? (i := 363) (by decide +kernel), List.mem_of_getElem? (i := 364) (by decide +kernel)⟩
theorem lw_p10 : lw_okq (⟨"MailVerdicts$Message", "readHeadLine", "(II)Z"⟩, 6) := ⟨⟨by decide +kernel, by decide +kernel⟩, List.mem_of_getElem? (i := 48) (by decide +kernel), List.mem_of_getElem? (i := 410) (by decide +kernel), List.mem_of_getElem? (i := 411) (by decide +kernel)⟩
theorem lw_p11 : lw_okq (⟨"MailVerdicts$Message", "beginField", "(II)Z"⟩, 6) := ⟨⟨by decide +kernel, by decide +kernel⟩, List.mem_of_getElem? (i := 48) (by decide +kernel), List.mem_of_getElem? (i := 414) (by decide +kernel), List.mem_of_getElem? (i := 415) (by decide +kernel)⟩
theorem lw_p12 : lw_okq (⟨"MailVerdicts$CanonicalForm", "takeFields", "()V"⟩, 6) := ⟨⟨by decide +kernel, by decide +kernel⟩, List.mem_of_getElem? (i := 42) (by decide +kernel), List.mem_of_getElem? (i := 429) (by decide +kernel), List.mem_of_getElem? (i := 430) (by decide +kernel)⟩
theorem lw_p13 : lw_okq (⟨"MailVerdicts$CanonicalForm", "takeLast", "(II)V"⟩, 6) := ⟨⟨by decide +kernel, by decide +kernel⟩, List.mem_of_getElem? (i := 42) (by decide +kernel), List.mem_of_getElem? (i := 434) (by decide +kernel), List.mem_of_getElem? (i := 435) (by decide +kernel)⟩
theorem lw_p14 : lw_okq (⟨"MailVerdicts$CanonicalForm", "isNamed", "(III)Z"⟩, 6) := ⟨⟨by decide +kernel, by decide +kernel⟩, List.mem_of_getElem? (i := 42) (by decide +kernel), List.mem_of_getElem? (i := 438) (by decide +kernel), List.mem_of_getElem? (i := 439) (by decide +kernel)⟩
theorem lw_p15 : lw_okq (⟨"MailVerdicts$CanonicalForm", "writeRelaxedField", "(I)V"⟩, 6) := ⟨⟨by decide +kernel, by decide +kernel⟩, List.mem_of_getElem? (i := 42) (by decide +kernel), List.mem_of_getElem? (i := 445) (by decide +kernel), List.mem_of_getElem? (i := 446) (by decide +kernel)⟩
def lw_privs_1 : List (MethodName × Nat) := [(⟨"MailVerdicts", "numbered", "(I)LMailVerdicts$Domain;"⟩, 8), (⟨"MailVerdicts$Checking", "resultFor", "(LMailVerdicts$Domain;I)I"⟩, 3), (⟨"MailVerdicts$Checking", "outcomeOf", "(LMailVerdicts$Term;I)I"⟩, 3), (⟨"MailVerdicts$Checking", "beginsLike", "(II)Z"⟩, 3), (⟨"MailVerdicts$Checking", "countQuery", "()Z"⟩, 3), (⟨"MailVerdicts$Checking", "outcomeOfHost", "(LMailVerdicts$Domain;I)I"⟩, 3), (⟨"MailVerdicts$Checking", "outcomeOfEmpty", "()I"⟩, 3), (⟨"MailVerdicts$Checking", "outcomeOfMail", "(LMailVerdicts$Domain;I)I"⟩, 3), (⟨"MailVerdicts$Checking", "outcomeOfWithin", "(LMailVerdicts$Domain;I)I"⟩, 3), (⟨"MailVerdicts$Checking", "resultOfLead", "(LMailVerdicts$Domain;I)I"⟩, 3), (⟨"MailVerdicts$Message", "readHeadLine", "(II)Z"⟩, 6), (⟨"MailVerdicts$Message", "beginField", "(II)Z"⟩, 6), (⟨"MailVerdicts$CanonicalForm", "takeFields", "()V"⟩, 6), (⟨"MailVerdicts$CanonicalForm", "takeLast", "(II)V"⟩, 6), (⟨"MailVerdicts$CanonicalForm", "isNamed", "(III)Z"⟩, 6), (⟨"MailVerdicts$CanonicalForm", "writeRelaxedField", "(I)V"⟩, 6)]
theorem lw_r1 : ∀ q ∈ lw_privs_1, lw_okq q := List.forall_mem_cons.mpr ⟨lw_p0, List.forall_mem_cons.mpr ⟨lw_p1, List.forall_mem_cons.mpr ⟨lw_p2, List.forall_mem_cons.mpr ⟨lw_p3, List.forall_mem_cons.mpr ⟨lw_p4, List.forall_mem_cons.mpr ⟨lw_p5, List.forall_mem_cons.mpr ⟨lw_p6, List.forall_mem_cons.mpr ⟨lw_p7, List.forall_mem_cons.mpr ⟨lw_p8, List.forall_mem_cons.mpr ⟨lw_p9, List.forall_mem_cons.mpr ⟨lw_p10, List.forall_mem_cons.mpr ⟨lw_p11, List.forall_mem_cons.mpr ⟨lw_p12, List.forall_mem_cons.mpr ⟨lw_p13, List.forall_mem_cons.mpr ⟨lw_p14, List.forall_mem_cons.mpr ⟨lw_p15, fun _ h => absurd h List.not_mem_nil⟩⟩⟩⟩⟩⟩⟩⟩⟩⟩⟩⟩⟩⟩⟩⟩
theorem lw_p16 : lw_okq (⟨"MailVerdicts$CanonicalForm", "squeeze", "(IIZ)V"⟩, 6) := ⟨⟨by decide +kernel, by decide +kernel⟩, List.mem_of_getElem? (i := 42) (by decide +kernel), List.mem_of_getElem? (i := 450) (by decide +kernel), List.mem_of_getElem? (i := 451) (by decide +kernel)⟩
theorem lw_p17 : lw_okq (⟨"MailVerdicts$CanonicalForm", "copy", "(II)V"⟩, 6) := ⟨⟨by decide +kernel, by decide +kernel⟩, List.mem_of_getElem? (i := 42) (by decide +kernel), List.mem_of_getElem? (i := 454) (by decide +kernel), List.mem_of_getElem? (i := 455) (by decide +kernel)⟩
theorem lw_p18 : lw_okq (⟨"MailVerdicts$CanonicalForm", "writeRelaxedBody", "()V"⟩, 6) := ⟨⟨by decide +kernel, by decide +kernel⟩, List.mem_of_getElem? (i := 42) (by decide +kernel), List.mem_of_getElem? (i := 458) (by decide +kernel), List.mem_of_getElem? (i := 459) (by decide +kernel)⟩
theorem lw_p19 : lw_okq (⟨"MailVerdicts$CanonicalForm", "writePlainBody", "()V"⟩, 6) := ⟨⟨by decide +kernel, by decide +kernel⟩, List.mem_of_getElem? (i := 42) (by decide +kernel), List.mem_of_getElem? (i := 462) (by decide +kernel), List.mem_of_getElem? (i := 463) (by decide +kernel)⟩
theorem lw_p20 : lw_okq (⟨"MailVerdicts", "isGood", "(LMailVerdicts$Signature;)Z"⟩, 8) := ⟨⟨by decide +kernel, by decide +kernel⟩, List.mem_of_getElem? (i := 14) (by decide +kernel), List.mem_of_getElem? (i := 511) (by decide +kernel), List.mem_of_getElem? (i := 512) (by decide +kernel)⟩
theorem lw_p21 : lw_okq (⟨"MailVerdictsModel", "none", "(I)Z"⟩, 44) := ⟨⟨by decide +kernel, by decide +kernel⟩, List.mem_of_getElem? (i := 535) (by decide +kernel), List.mem_of_getElem? (i := 678) (by decide +kernel), List.mem_of_getElem? (i := 679) (by decide +kernel)⟩
theorem lw_p22 : lw_okq (⟨"MailVerdictsModel", "leadOf", "(I)I"⟩, 44) := ⟨⟨by decide +kernel, by decide +kernel⟩, List.mem_of_getElem? (i := 535) (by decide +kernel), List.mem_of_getElem? (i := 694) (by decide +kernel), List.mem_of_getElem? (i := 695) (by decide +kernel)⟩
theorem lw_p23 : lw_okq (⟨"MailVerdictsModel", "checked", "(II)I"⟩, 44) := ⟨⟨by decide +kernel, by decide +kernel⟩, List.mem_of_getElem? (i := 535) (by decide +kernel), List.mem_of_getElem? (i := 710) (by decide +kernel), List.mem_of_getElem? (i := 711) (by decide +kernel)⟩
theorem lw_p24 : lw_okq (⟨"MailVerdictsModel", "open", "(IIZ)V"⟩, 44) := ⟨⟨by decide +kernel, by decide +kernel⟩, List.mem_of_getElem? (i := 535) (by decide +kernel), List.mem_of_getElem? (i := 714) (by decide +kernel), List.mem_of_getElem? (i := 715) (by decide +kernel)⟩
theorem lw_p25 : lw_okq (⟨"MailVerdictsModel", "step", "(II)I"⟩, 44) := ⟨⟨by decide +kernel, by decide +kernel⟩, List.mem_of_getElem? (i := 535) (by decide +kernel), List.mem_of_getElem? (i := 718) (by decide +kernel), List.mem_of_getElem? (i := 719) (by decide +kernel)⟩
theorem lw_p26 : lw_okq (⟨"MailVerdictsModel", "ask", "()Z"⟩, 44) := ⟨⟨by decide +kernel, by decide +kernel⟩, List.mem_of_getElem? (i := 535) (by decide +kernel), List.mem_of_getElem? (i := 722) (by decide +kernel), List.mem_of_getElem? (i := 723) (by decide +kernel)⟩
theorem lw_p27 : lw_okq (⟨"MailVerdictsModel", "matches", "(II)Z"⟩, 44) := ⟨⟨by decide +kernel, by decide +kernel⟩, List.mem_of_getElem? (i := 535) (by decide +kernel), List.mem_of_getElem? (i := 726) (by decide +kernel), List.mem_of_getElem? (i := 727) (by decide +kernel)⟩
theorem lw_p28 : lw_okq (⟨"MailVerdictsModel", "same", "(III)Z"⟩, 44) := ⟨⟨by decide +kernel, by decide +kernel⟩, List.mem_of_getElem? (i := 535) (by decide +kernel), List.mem_of_getElem? (i := 730) (by decide +kernel), List.mem_of_getElem? (i := 731) (by decide +kernel)⟩
theorem lw_p29 : lw_okq (⟨"MailVerdictsModel", "miss", "()Z"⟩, 44) := ⟨⟨by decide +kernel, by decide +kernel⟩, List.mem_of_getElem? (i := 535) (by decide +kernel), List.mem_of_getElem? (i := 734) (by decide +kernel), List.mem_of_getElem? (i := 735) (by decide +kernel)⟩
theorem lw_p30 : lw_okq (⟨"MailVerdictsModel", "hosts", "(III)Z"⟩, 44) := ⟨⟨by decide +kernel, by decide +kernel⟩, List.mem_of_getElem? (i := 535) (by decide +kernel), List.mem_of_getElem? (i := 738) (by decide +kernel), List.mem_of_getElem? (i := 739) (by decide +kernel)⟩
theorem lw_p31 : lw_okq (⟨"MailVerdictsModel", "plain", "(I)Z"⟩, 44) := ⟨⟨by decide +kernel, by decide +kernel⟩, List.mem_of_getElem? (i := 535) (by decide +kernel), List.mem_of_getElem? (i := 758) (by decide +kernel), List.mem_of_getElem? (i := 759) (by decide +kernel)⟩
def lw_privs_2 : List (MethodName × Nat) := [(⟨"MailVerdicts$CanonicalForm", "squeeze", "(IIZ)V"⟩, 6), (⟨"MailVerdicts$CanonicalForm", "copy", "(II)V"⟩, 6), (⟨"MailVerdicts$CanonicalForm", "writeRelaxedBody", "()V"⟩, 6), (⟨"MailVerdicts$CanonicalForm", "writePlainBody", "()V"⟩, 6), (⟨"MailVerdicts", "isGood", "(LMailVerdicts$Signature;)Z"⟩, 8), (⟨"MailVerdictsModel", "none", "(I)Z"⟩, 44), (⟨"MailVerdictsModel", "leadOf", "(I)I"⟩, 44), (⟨"MailVerdictsModel", "checked", "(II)I"⟩, 44), (⟨"MailVerdictsModel", "open", "(IIZ)V"⟩, 44), (⟨"MailVerdictsModel", "step", "(II)I"⟩, 44), (⟨"MailVerdictsModel", "ask", "()Z"⟩, 44), (⟨"MailVerdictsModel", "matches", "(II)Z"⟩, 44), (⟨"MailVerdictsModel", "same", "(III)Z"⟩, 44), (⟨"MailVerdictsModel", "miss", "()Z"⟩, 44), (⟨"MailVerdictsModel", "hosts", "(III)Z"⟩, 44), (⟨"MailVerdictsModel", "plain", "(I)Z"⟩, 44)]
theorem lw_r2 : ∀ q ∈ lw_privs_2, lw_okq q := List.forall_mem_cons.mpr ⟨lw_p16, List.forall_mem_cons.mpr ⟨lw_p17, List.forall_mem_cons.mpr ⟨lw_p18, List.forall_mem_cons.mpr ⟨lw_p19, List.forall_mem_cons.mpr ⟨lw_p20, List.forall_mem_cons.mpr ⟨lw_p21, List.forall_mem_cons.mpr ⟨lw_p22, List.forall_mem_cons.mpr ⟨lw_p23, List.forall_mem_cons.mpr ⟨lw_p24, List.forall_mem_cons.mpr ⟨lw_p25, List.forall_mem_cons.mpr ⟨lw_p26, List.forall_mem_cons.mpr ⟨lw_p27, List.forall_mem_cons.mpr ⟨lw_p28, List.forall_mem_cons.mpr ⟨lw_p29, List.forall_mem_cons.mpr ⟨lw_p30, List.forall_mem_cons.mpr ⟨lw_p31, fun _ h => absurd h List.not_mem_nil⟩⟩⟩⟩⟩⟩⟩⟩⟩⟩⟩⟩⟩⟩⟩⟩
theorem lw_p32 : lw_okq (⟨"MailVerdictsModel", "read", "()Z"⟩, 44) := ⟨⟨by decide +kernel, by decide +kernel⟩, List.mem_of_getElem? (i := 535) (by decide +kernel), List.mem_of_getElem? (i := 770) (by decide +kernel), List.mem_of_getElem? (i := 771) (by decide +kernel)⟩
theorem lw_p33 : lw_okq (⟨"MailVerdictsModel", "cut", "()V"⟩, 44) := ⟨⟨by decide +kernel, by decide +kernel⟩, List.mem_of_getElem? (i := 535) (by decide +kernel), List.mem_of_getElem? (i := 774) (by decide +kernel), List.mem_of_getElem? (i := 775) (by decide +kernel)⟩
theorem lw_p34 : lw_okq (⟨"MailVerdictsModel", "write", "(ZZ)Z"⟩, 44) := ⟨⟨by decide +kernel, by decide +kernel⟩, List.mem_of_getElem? (i := 535) (by decide +kernel), List.mem_of_getElem? (i := 782) (by decide +kernel), List.mem_of_getElem? (i := 783) (by decide +kernel)⟩
theorem lw_p35 : lw_okq (⟨"MailVerdictsModel", "take", "(II)I"⟩, 44) := ⟨⟨by decide +kernel, by decide +kernel⟩, List.mem_of_getElem? (i := 535) (by decide +kernel), List.mem_of_getElem? (i := 786) (by decide +kernel), List.mem_of_getElem? (i := 787) (by decide +kernel)⟩
theorem lw_p36 : lw_okq (⟨"MailVerdictsModel", "small", "(I)I"⟩, 44) := ⟨⟨by decide +kernel, by decide +kernel⟩, List.mem_of_getElem? (i := 535) (by decide +kernel), List.mem_of_getElem? (i := 790) (by decide +kernel), List.mem_of_getElem? (i := 791) (by decide +kernel)⟩
theorem lw_p37 : lw_okq (⟨"MailVerdictsModel", "writeField", "(IZ)V"⟩, 44) := ⟨⟨by decide +kernel, by decide +kernel⟩, List.mem_of_getElem? (i := 535) (by decide +kernel), List.mem_of_getElem? (i := 794) (by decide +kernel), List.mem_of_getElem? (i := 795) (by decide +kernel)⟩
theorem lw_p38 : lw_okq (⟨"MailVerdictsModel", "relaxedField", "(I)V"⟩, 44) := ⟨⟨by decide +kernel, by decide +kernel⟩, List.mem_of_getElem? (i := 535) (by decide +kernel), List.mem_of_getElem? (i := 798) (by decide +kernel), List.mem_of_getElem? (i := 799) (by decide +kernel)⟩
theorem lw_p39 : lw_okq (⟨"MailVerdictsModel", "put", "(I)V"⟩, 44) := ⟨⟨by decide +kernel, by decide +kernel⟩, List.mem_of_getElem? (i := 535) (by decide +kernel), List.mem_of_getElem? (i := 802) (by decide +kernel), List.mem_of_getElem? (i := 803) (by decide +kernel)⟩
theorem lw_p40 : lw_okq (⟨"MailVerdictsModel", "plainLine", "(I)V"⟩, 44) := ⟨⟨by decide +kernel, by decide +kernel⟩, List.mem_of_getElem? (i := 535) (by decide +kernel), List.mem_of_getElem? (i := 806) (by decide +kernel), List.mem_of_getElem? (i := 807) (by decide +kernel)⟩
theorem lw_p41 : lw_okq (⟨"MailVerdictsModel", "body", "(Z)V"⟩, 44) := ⟨⟨by decide +kernel, by decide +kernel⟩, List.mem_of_getElem? (i := 535) (by decide +kernel), List.mem_of_getElem? (i := 810) (by decide +kernel), List.mem_of_getElem? (i := 811) (by decide +kernel)⟩
theorem lw_p42 : lw_okq (⟨"MailVerdictsModel", "blank", "(I)Z"⟩, 44) := ⟨⟨by decide +kernel, by decide +kernel⟩, List.mem_of_getElem? (i := 535) (by decide +kernel), List.mem_of_getElem? (i := 814) (by decide +kernel), List.mem_of_getElem? (i := 815) (by decide +kernel)⟩
theorem lw_p43 : lw_okq (⟨"MailVerdictsModel", "relaxedLine", "(I)V"⟩, 44) := ⟨⟨by decide +kernel, by decide +kernel⟩, List.mem_of_getElem? (i := 535) (by decide +kernel), List.mem_of_getElem? (i := 818) (by decide +kernel), List.mem_of_getElem? (i := 819) (by decide +kernel)⟩
theorem lw_p44 : lw_okq (⟨"MailVerdictsModel", "organisation", "(I)I"⟩, 44) := ⟨⟨by decide +kernel, by decide +kernel⟩, List.mem_of_getElem? (i := 535) (by decide +kernel), List.mem_of_getElem? (i := 845) (by decide +kernel), List.mem_of_getElem? (i := 846) (by decide +kernel)⟩
theorem lw_p45 : lw_okq (⟨"MailVerdictsModel", "fits", "(IIZ)Z"⟩, 44) := ⟨⟨by decide +kernel, by decide +kernel⟩, List.mem_of_getElem? (i := 535) (by decide +kernel), List.mem_of_getElem? (i := 849) (by decide +kernel), List.mem_of_getElem? (i := 850) (by decide +kernel)⟩
def lw_privs_3 : List (MethodName × Nat) := [(⟨"MailVerdictsModel", "read", "()Z"⟩, 44), (⟨"MailVerdictsModel", "cut", "()V"⟩, 44), (⟨"MailVerdictsModel", "write", "(ZZ)Z"⟩, 44), (⟨"MailVerdictsModel", "take", "(II)I"⟩, 44), (⟨"MailVerdictsModel", "small", "(I)I"⟩, 44), (⟨"MailVerdictsModel", "writeField", "(IZ)V"⟩, 44), (⟨"MailVerdictsModel", "relaxedField", "(I)V"⟩, 44), (⟨"MailVerdictsModel", "put", "(I)V"⟩, 44), (⟨"MailVerdictsModel", "plainLine", "(I)V"⟩, 44), (⟨"MailVerdictsModel", "body", "(Z)V"⟩, 44), (⟨"MailVerdictsModel", "blank", "(I)Z"⟩, 44), (⟨"MailVerdictsModel", "relaxedLine", "(I)V"⟩, 44), (⟨"MailVerdictsModel", "organisation", "(I)I"⟩, 44), (⟨"MailVerdictsModel", "fits", "(IIZ)Z"⟩, 44)]
theorem lw_r3 : ∀ q ∈ lw_privs_3, lw_okq q := List.forall_mem_cons.mpr ⟨lw_p32, List.forall_mem_cons.mpr ⟨lw_p33, List.forall_mem_cons.mpr ⟨lw_p34, List.forall_mem_cons.mpr ⟨lw_p35, List.forall_mem_cons.mpr ⟨lw_p36, List.forall_mem_cons.mpr ⟨lw_p37, List.forall_mem_cons.mpr ⟨lw_p38, List.forall_mem_cons.mpr ⟨lw_p39, List.forall_mem_cons.mpr ⟨lw_p40, List.forall_mem_cons.mpr ⟨lw_p41, List.forall_mem_cons.mpr ⟨lw_p42, List.forall_mem_cons.mpr ⟨lw_p43, List.forall_mem_cons.mpr ⟨lw_p44, List.forall_mem_cons.mpr ⟨lw_p45, fun _ h => absurd h List.not_mem_nil⟩⟩⟩⟩⟩⟩⟩⟩⟩⟩⟩⟩⟩⟩
def lw_privs : List (MethodName × Nat) := lw_privs_1 ++ (lw_privs_2 ++ (lw_privs_3))
def lw_tbl : List Cond := k2_sels lw_privs ++ tables_1
theorem lw_privs_ok : ∀ q ∈ lw_privs, lw_okq q := by
  show ∀ q ∈ lw_privs_1 ++ (lw_privs_2 ++ (lw_privs_3)), lw_okq q
  exact List.forall_mem_append.mpr ⟨lw_r1, List.forall_mem_append.mpr ⟨lw_r2, lw_r3⟩⟩
/-! ===== made by wip/prog/gen.py: numbers of methods and classes ===== -/
def z_gw (w : Jvm.Cond) : Bool := goodWord w || (match w with
  | .methodLinkNest .. => true
  | .arrayOver (.object _) => true
  | _ => false)
def z_ws : List Jvm.Cond := lw_tbl.filter z_gw
theorem z_in {w : Jvm.Cond} (h : w ∈ lw_tbl) (hg : z_gw w = true) : w ∈ z_ws := List.mem_filter.mpr ⟨h, hg⟩
theorem z_inT {w : Jvm.Cond} (h : w ∈ tables_1) (hg : z_gw w = true) : w ∈ z_ws := z_in (List.mem_append_right _ h) hg
theorem z_inP {w : Jvm.Cond} (h : w ∈ k2_sels lw_privs) (hg : z_gw w = true) : w ∈ z_ws := z_in (List.mem_append_left _ h) hg
abbrev zMd : Type := MethodName × ByteArray × Nat × Option FieldType × Bool
def z_ms0 : List zMd := [(⟨"MailVerdicts", "<init>", "()V"⟩, prog_1_method_1_code, 1, none, false),
  (⟨"MailVerdicts", "domain", "(IZ)I"⟩, prog_1_method_2_code, 4, (some .int), false),
  (⟨"MailVerdicts", "address", "(II)Z"⟩, prog_1_method_3_code, 4, (some .boolean), false),
  (⟨"MailVerdicts", "exchanger", "(II)Z"⟩, prog_1_method_4_code, 5, (some .boolean), false),
  (⟨"MailVerdicts", "term", "(IIIII)I"⟩, prog_1_method_5_code, 8, (some .int), false),
  (⟨"MailVerdicts", "key", "(III)Z"⟩, prog_1_method_6_code, 5, (some .boolean), false),
  (⟨"MailVerdicts", "wish", "(IIIZZ)Z"⟩, prog_1_method_7_code, 7, (some .boolean), false),
  (⟨"MailVerdicts", "check", "(II)I"⟩, prog_1_method_8_code, 4, (some .int), false),
  (⟨"MailVerdicts", "queries", "()I"⟩, prog_1_method_9_code, 1, (some .int), false),
  (⟨"MailVerdicts", "empties", "()I"⟩, prog_1_method_10_code, 1, (some .int), false),
  (⟨"MailVerdicts", "type", "(C)Z"⟩, prog_1_method_11_code, 3, (some .boolean), false),
  (⟨"MailVerdicts", "list", "(C)Z"⟩, prog_1_method_12_code, 3, (some .boolean), false),
  (⟨"MailVerdicts", "clear", "()V"⟩, prog_1_method_13_code, 1, none, false),
  (⟨"MailVerdicts", "fields", "()I"⟩, prog_1_method_14_code, 1, (some .int), false),
  (⟨"MailVerdicts", "length", "(ZZ)I"⟩, prog_1_method_15_code, 3, (some .int), false),
  (⟨"MailVerdicts", "at", "(ZZI)I"⟩, prog_1_method_16_code, 4, (some .int), false),
  (⟨"MailVerdicts", "digest", "(ZZ)I"⟩, prog_1_method_17_code, 3, (some .int), false),
  (⟨"MailVerdicts", "sign", "(IZZI)I"⟩, prog_1_method_18_code, 6, (some .int), false),
  (⟨"MailVerdicts", "holds", "(I)Z"⟩, prog_1_method_19_code, 2, (some .boolean), false),
  (⟨"MailVerdicts", "verdict", "(III)I"⟩, prog_1_method_20_code, 9, (some .int), false),
  (⟨"MailVerdicts", "numbered", "(I)LMailVerdicts$Domain;"⟩, prog_1_method_21_code, 2, (some (.object "MailVerdicts$Domain")), false),
  (⟨"MailVerdicts", "isGood", "(LMailVerdicts$Signature;)Z"⟩, prog_1_method_22_code, 3, (some .boolean), false),
  (⟨"MailVerdicts", "looksAtLength", "(I)Z"⟩, prog_1_method_23_code, 1, (some .boolean), false),
  (⟨"MailVerdicts", "looksAtDomain", "(I)Z"⟩, prog_1_method_24_code, 1, (some .boolean), false),
  (⟨"MailVerdicts", "isWish", "(I)Z"⟩, prog_1_method_25_code, 1, (some .boolean), false),
  (⟨"MailVerdicts", "isNameSign", "(I)Z"⟩, prog_1_method_26_code, 1, (some .boolean), false),
  (⟨"MailVerdicts", "lowered", "(I)I"⟩, prog_1_method_27_code, 1, (some .int), false),
  (⟨"MailVerdicts$Domain", "<init>", "(LMailVerdicts$Domain;Z)V"⟩, prog_4_method_1_code, 3, none, false),
  (⟨"MailVerdicts$Domain", "addAddress", "(I)Z"⟩, prog_4_method_2_code, 2, (some .boolean), false),
  (⟨"MailVerdicts$Domain", "addExchanger", "(LMailVerdicts$Domain;)Z"⟩, prog_4_method_3_code, 2, (some .boolean), false)]
def z_ms1 : List zMd := [(⟨"MailVerdicts$Domain", "policySize", "()I"⟩, prog_4_method_4_code, 1, (some .int), false),
  (⟨"MailVerdicts$Domain", "hasRoomFor", "(I)Z"⟩, prog_4_method_5_code, 2, (some .boolean), false),
  (⟨"MailVerdicts$Domain", "addTerm", "(LMailVerdicts$Term;)V"⟩, prog_4_method_6_code, 2, none, false),
  (⟨"MailVerdicts$Domain", "organisation", "()LMailVerdicts$Domain;"⟩, prog_4_method_7_code, 2, (some (.object "MailVerdicts$Domain")), false),
  (⟨"MailVerdicts$Domain", "fits", "(LMailVerdicts$Domain;Z)Z"⟩, prog_4_method_8_code, 3, (some .boolean), false),
  (⟨"MailVerdicts$Checking", "<init>", "()V"⟩, prog_3_method_1_code, 1, none, false),
  (⟨"MailVerdicts$Checking", "begin", "(ILMailVerdicts$Domain;)I"⟩, prog_3_method_2_code, 3, (some .int), false),
  (⟨"MailVerdicts$Checking", "resultFor", "(LMailVerdicts$Domain;I)I"⟩, prog_3_method_3_code, 5, (some .int), false),
  (⟨"MailVerdicts$Checking", "resultOfLead", "(LMailVerdicts$Domain;I)I"⟩, prog_3_method_4_code, 4, (some .int), false),
  (⟨"MailVerdicts$Checking", "outcomeOf", "(LMailVerdicts$Term;I)I"⟩, prog_3_method_5_code, 3, (some .int), false),
  (⟨"MailVerdicts$Checking", "outcomeOfHost", "(LMailVerdicts$Domain;I)I"⟩, prog_3_method_6_code, 4, (some .int), false),
  (⟨"MailVerdicts$Checking", "outcomeOfMail", "(LMailVerdicts$Domain;I)I"⟩, prog_3_method_7_code, 5, (some .int), false),
  (⟨"MailVerdicts$Checking", "outcomeOfWithin", "(LMailVerdicts$Domain;I)I"⟩, prog_3_method_8_code, 4, (some .int), false),
  (⟨"MailVerdicts$Checking", "outcomeOfEmpty", "()I"⟩, prog_3_method_9_code, 1, (some .int), false),
  (⟨"MailVerdicts$Checking", "countQuery", "()Z"⟩, prog_3_method_10_code, 1, (some .boolean), false),
  (⟨"MailVerdicts$Checking", "beginsLike", "(II)Z"⟩, prog_3_method_11_code, 3, (some .boolean), false),
  (⟨"MailVerdicts$CanonicalForm", "<init>", "()V"⟩, prog_2_method_1_code, 1, none, false),
  (⟨"MailVerdicts$CanonicalForm", "write", "(ZZ)Z"⟩, prog_2_method_2_code, 4, (some .boolean), false),
  (⟨"MailVerdicts$CanonicalForm", "takeFields", "()V"⟩, prog_2_method_3_code, 3, none, false),
  (⟨"MailVerdicts$CanonicalForm", "takeLast", "(II)V"⟩, prog_2_method_4_code, 4, none, false),
  (⟨"MailVerdicts$CanonicalForm", "isNamed", "(III)Z"⟩, prog_2_method_5_code, 7, (some .boolean), false),
  (⟨"MailVerdicts$CanonicalForm", "writeRelaxedField", "(I)V"⟩, prog_2_method_6_code, 4, none, false),
  (⟨"MailVerdicts$CanonicalForm", "writePlainBody", "()V"⟩, prog_2_method_7_code, 2, none, false),
  (⟨"MailVerdicts$CanonicalForm", "writeRelaxedBody", "()V"⟩, prog_2_method_8_code, 6, none, false),
  (⟨"MailVerdicts$CanonicalForm", "copy", "(II)V"⟩, prog_2_method_9_code, 4, none, false),
  (⟨"MailVerdicts$CanonicalForm", "squeeze", "(IIZ)V"⟩, prog_2_method_10_code, 8, none, false),
  (⟨"MailVerdicts$Message", "<init>", "()V"⟩, prog_6_method_1_code, 1, none, false),
  (⟨"MailVerdicts$Message", "read", "()Z"⟩, prog_6_method_2_code, 3, (some .boolean), false),
  (⟨"MailVerdicts$Message", "readHeadLine", "(II)Z"⟩, prog_6_method_3_code, 3, (some .boolean), false),
  (⟨"MailVerdicts$Message", "beginField", "(II)Z"⟩, prog_6_method_4_code, 5, (some .boolean), false)]
def z_ms2 : List zMd := [(⟨"MailVerdicts$Text", "<init>", "(I)V"⟩, prog_9_method_1_code, 2, none, false),
  (⟨"MailVerdicts$Text", "append", "(I)Z"⟩, prog_9_method_2_code, 2, (some .boolean), false),
  (⟨"MailVerdicts$Text", "codeAt", "(I)I"⟩, prog_9_method_3_code, 2, (some .int), false),
  (⟨"MailVerdicts$Text", "cut", "(I)V"⟩, prog_9_method_4_code, 2, none, false),
  (⟨"MailVerdicts$Text", "summary", "()I"⟩, prog_9_method_5_code, 4, (some .int), true),
  (⟨"MailVerdicts$Signature", "<init>", "(LMailVerdicts$Domain;ZZI)V"⟩, prog_7_method_1_code, 5, none, false),
  (⟨"MailVerdicts$Term", "<init>", "(IIILMailVerdicts$Domain;I)V"⟩, prog_8_method_1_code, 6, none, false),
  (⟨"MailVerdicts$Key", "<init>", "(II)V"⟩, prog_5_method_1_code, 3, none, false),
  (⟨"MailVerdicts$Key", "opens", "(II)Z"⟩, prog_5_method_2_code, 8, (some .boolean), true),
  (⟨"MailVerdicts$Wish", "<init>", "(IIZZ)V"⟩, prog_10_method_1_code, 5, none, false),
  (⟨"MailVerdictsModel", "<init>", "()V"⟩, prog_12_method_1_code, 1, none, false),
  (⟨"MailVerdictsModel", "none", "(I)Z"⟩, prog_12_method_2_code, 2, (some .boolean), false),
  (⟨"MailVerdictsModel", "domain", "(IZ)I"⟩, prog_12_method_3_code, 3, (some .int), false),
  (⟨"MailVerdictsModel", "address", "(II)Z"⟩, prog_12_method_4_code, 3, (some .boolean), false),
  (⟨"MailVerdictsModel", "exchanger", "(II)Z"⟩, prog_12_method_5_code, 3, (some .boolean), false),
  (⟨"MailVerdictsModel", "leadOf", "(I)I"⟩, prog_12_method_6_code, 4, (some .int), false),
  (⟨"MailVerdictsModel", "term", "(IIIII)I"⟩, prog_12_method_7_code, 7, (some .int), false),
  (⟨"MailVerdictsModel", "key", "(III)Z"⟩, prog_12_method_8_code, 4, (some .boolean), false),
  (⟨"MailVerdictsModel", "wish", "(IIIZZ)Z"⟩, prog_12_method_9_code, 6, (some .boolean), false),
  (⟨"MailVerdictsModel", "same", "(III)Z"⟩, prog_12_method_10_code, 6, (some .boolean), false),
  (⟨"MailVerdictsModel", "ask", "()Z"⟩, prog_12_method_11_code, 1, (some .boolean), false),
  (⟨"MailVerdictsModel", "miss", "()Z"⟩, prog_12_method_12_code, 1, (some .boolean), false),
  (⟨"MailVerdictsModel", "hosts", "(III)Z"⟩, prog_12_method_13_code, 6, (some .boolean), false),
  (⟨"MailVerdictsModel", "matches", "(II)Z"⟩, prog_12_method_14_code, 8, (some .boolean), false),
  (⟨"MailVerdictsModel", "open", "(IIZ)V"⟩, prog_12_method_15_code, 4, none, false),
  (⟨"MailVerdictsModel", "step", "(II)I"⟩, prog_12_method_16_code, 6, (some .int), false),
  (⟨"MailVerdictsModel", "checked", "(II)I"⟩, prog_12_method_17_code, 8, (some .int), false),
  (⟨"MailVerdictsModel", "check", "(II)I"⟩, prog_12_method_18_code, 3, (some .int), false),
  (⟨"MailVerdictsModel", "queries", "()I"⟩, prog_12_method_19_code, 1, (some .int), false),
  (⟨"MailVerdictsModel", "empties", "()I"⟩, prog_12_method_20_code, 1, (some .int), false)]
def z_ms3 : List zMd := [(⟨"MailVerdictsModel", "type", "(C)Z"⟩, prog_12_method_21_code, 2, (some .boolean), false),
  (⟨"MailVerdictsModel", "plain", "(I)Z"⟩, prog_12_method_22_code, 2, (some .boolean), false),
  (⟨"MailVerdictsModel", "list", "(C)Z"⟩, prog_12_method_23_code, 2, (some .boolean), false),
  (⟨"MailVerdictsModel", "clear", "()V"⟩, prog_12_method_24_code, 1, none, false),
  (⟨"MailVerdictsModel", "small", "(I)I"⟩, prog_12_method_25_code, 2, (some .int), false),
  (⟨"MailVerdictsModel", "cut", "()V"⟩, prog_12_method_26_code, 3, none, false),
  (⟨"MailVerdictsModel", "read", "()Z"⟩, prog_12_method_27_code, 3, (some .boolean), false),
  (⟨"MailVerdictsModel", "fields", "()I"⟩, prog_12_method_28_code, 1, (some .int), false),
  (⟨"MailVerdictsModel", "put", "(I)V"⟩, prog_12_method_29_code, 2, none, false),
  (⟨"MailVerdictsModel", "plainLine", "(I)V"⟩, prog_12_method_30_code, 3, none, false),
  (⟨"MailVerdictsModel", "relaxedField", "(I)V"⟩, prog_12_method_31_code, 6, none, false),
  (⟨"MailVerdictsModel", "relaxedLine", "(I)V"⟩, prog_12_method_32_code, 4, none, false),
  (⟨"MailVerdictsModel", "blank", "(I)Z"⟩, prog_12_method_33_code, 4, (some .boolean), false),
  (⟨"MailVerdictsModel", "body", "(Z)V"⟩, prog_12_method_34_code, 4, none, false),
  (⟨"MailVerdictsModel", "take", "(II)I"⟩, prog_12_method_35_code, 6, (some .int), false),
  (⟨"MailVerdictsModel", "write", "(ZZ)Z"⟩, prog_12_method_36_code, 6, (some .boolean), false),
  (⟨"MailVerdictsModel", "writeField", "(IZ)V"⟩, prog_12_method_37_code, 4, none, false),
  (⟨"MailVerdictsModel", "length", "(ZZ)I"⟩, prog_12_method_38_code, 3, (some .int), false),
  (⟨"MailVerdictsModel", "at", "(ZZI)I"⟩, prog_12_method_39_code, 4, (some .int), false),
  (⟨"MailVerdictsModel", "digest", "(ZZ)I"⟩, prog_12_method_40_code, 6, (some .int), true),
  (⟨"MailVerdictsModel", "sign", "(IZZI)I"⟩, prog_12_method_41_code, 5, (some .int), false),
  (⟨"MailVerdictsModel", "holds", "(I)Z"⟩, prog_12_method_42_code, 10, (some .boolean), true),
  (⟨"MailVerdictsModel", "organisation", "(I)I"⟩, prog_12_method_43_code, 5, (some .int), false),
  (⟨"MailVerdictsModel", "fits", "(IIZ)Z"⟩, prog_12_method_44_code, 4, (some .boolean), false),
  (⟨"MailVerdictsModel", "verdict", "(III)I"⟩, prog_12_method_45_code, 9, (some .int), false),
  (⟨"MailVerdictsLaw", "law", "([I)Z"⟩, code, 4, (some .boolean), false),
  (⟨"java/lang/Math", "floorMod", "(II)I"⟩, prog_13_method_50_code, 3, (some .int), false)]
def z_mss : List (List zMd) := [z_ms0, z_ms1, z_ms2, z_ms3]
def z_md (M : Nat) : zMd := (z_mss.getD (M / 30) []).getD (M % 30) (⟨"", "", ""⟩, ⟨#[]⟩, 0, none, false)
def z_y (M : Nat) : MethodName := (z_md M).1
def z_by (M : Nat) : ByteArray := (z_md M).2.1
def z_ml (M : Nat) : Nat := (z_md M).2.2.1
def z_rt (M : Nat) : Option FieldType := (z_md M).2.2.2.1
def z_lp (M : Nat) : Bool := (z_md M).2.2.2.2
def z_F0 : u_T := fun k => match k with
  | 0 => ("MailVerdicts", "domains", "[LMailVerdicts$Domain;", true)
  | 1 => ("MailVerdicts", "domainCount", "I", false)
  | 2 => ("MailVerdicts", "checking", "LMailVerdicts$Checking;", true)
  | 3 => ("MailVerdicts", "form", "LMailVerdicts$CanonicalForm;", true)
  | 4 => ("MailVerdicts", "message", "LMailVerdicts$Message;", true)
  | 5 => ("MailVerdicts", "names", "LMailVerdicts$Text;", true)
  | 6 => ("MailVerdicts", "signatures", "[LMailVerdicts$Signature;", true)
  | _ => ("MailVerdicts", "signatureCount", "I", false)
def z_T0 : Nat → FieldType := fun k => match k with
  | 0 => (.array (.object "MailVerdicts$Domain"))
  | 1 => .int
  | 2 => (.object "MailVerdicts$Checking")
  | 3 => (.object "MailVerdicts$CanonicalForm")
  | 4 => (.object "MailVerdicts$Message")
  | 5 => (.object "MailVerdicts$Text")
  | 6 => (.array (.object "MailVerdicts$Signature"))
  | _ => .int
def z_F1 : u_T := fun k => match k with
  | 0 => ("MailVerdicts$Domain", "parent", "LMailVerdicts$Domain;", true)
  | 1 => ("MailVerdicts$Domain", "suffix", "Z", true)
  | 2 => ("MailVerdicts$Domain", "addresses", "[I", true)
  | 3 => ("MailVerdicts$Domain", "addressCount", "I", false)
  | 4 => ("MailVerdicts$Domain", "exchangers", "[LMailVerdicts$Domain;", true)
  | 5 => ("MailVerdicts$Domain", "exchangerCount", "I", false)
  | 6 => ("MailVerdicts$Domain", "terms", "[LMailVerdicts$Term;", true)
  | 7 => ("MailVerdicts$Domain", "termCount", "I", false)
  | 8 => ("MailVerdicts$Domain", "lead", "LMailVerdicts$Domain;", false)
  | 9 => ("MailVerdicts$Domain", "ownKey", "LMailVerdicts$Key;", false)
  | _ => ("MailVerdicts$Domain", "ownWish", "LMailVerdicts$Wish;", false)
def z_T1 : Nat → FieldType := fun k => match k with
  | 0 => (.object "MailVerdicts$Domain")
  | 1 => .boolean
  | 2 => (.array .int)
  | 3 => .int
  | 4 => (.array (.object "MailVerdicts$Domain"))
  | 5 => .int
  | 6 => (.array (.object "MailVerdicts$Term"))
  | 7 => .int
  | 8 => (.object "MailVerdicts$Domain")
  | 9 => (.object "MailVerdicts$Key")
  | _ => (.object "MailVerdicts$Wish")
def z_F2 : u_T := fun k => match k with
  | 0 => ("MailVerdicts$Checking", "number", "I", false)
  | 1 => ("MailVerdicts$Checking", "queryCount", "I", false)
  | _ => ("MailVerdicts$Checking", "emptyCount", "I", false)
def z_T2 : Nat → FieldType := fun k => match k with
  | 0 => .int
  | 1 => .int
  | _ => .int
def z_F3 : u_T := fun k => match k with
  | 0 => ("MailVerdicts$CanonicalForm", "message", "LMailVerdicts$Message;", true)
  | 1 => ("MailVerdicts$CanonicalForm", "names", "LMailVerdicts$Text;", true)
  | 2 => ("MailVerdicts$CanonicalForm", "text", "LMailVerdicts$Text;", true)
  | 3 => ("MailVerdicts$CanonicalForm", "taken", "[Z", true)
  | 4 => ("MailVerdicts$CanonicalForm", "order", "[I", true)
  | _ => ("MailVerdicts$CanonicalForm", "takenCount", "I", false)
def z_T3 : Nat → FieldType := fun k => match k with
  | 0 => (.object "MailVerdicts$Message")
  | 1 => (.object "MailVerdicts$Text")
  | 2 => (.object "MailVerdicts$Text")
  | 3 => (.array .boolean)
  | 4 => (.array .int)
  | _ => .int
def z_F4 : u_T := fun k => match k with
  | 0 => ("MailVerdicts$Message", "text", "LMailVerdicts$Text;", true)
  | 1 => ("MailVerdicts$Message", "fieldCount", "I", false)
  | 2 => ("MailVerdicts$Message", "bodyStart", "I", false)
  | 3 => ("MailVerdicts$Message", "fieldStarts", "[I", true)
  | 4 => ("MailVerdicts$Message", "fieldColons", "[I", true)
  | _ => ("MailVerdicts$Message", "fieldEnds", "[I", true)
def z_T4 : Nat → FieldType := fun k => match k with
  | 0 => (.object "MailVerdicts$Text")
  | 1 => .int
  | 2 => .int
  | 3 => (.array .int)
  | 4 => (.array .int)
  | _ => (.array .int)
def z_F5 : u_T := fun k => match k with
  | 0 => ("MailVerdicts$Text", "signs", "[C", true)
  | _ => ("MailVerdicts$Text", "size", "I", false)
def z_T5 : Nat → FieldType := fun k => match k with
  | 0 => (.array .char)
  | _ => .int
def z_F6 : u_T := fun k => match k with
  | 0 => ("MailVerdicts$Signature", "signer", "LMailVerdicts$Domain;", true)
  | 1 => ("MailVerdicts$Signature", "relaxedFields", "Z", true)
  | 2 => ("MailVerdicts$Signature", "relaxedBody", "Z", true)
  | _ => ("MailVerdicts$Signature", "number", "I", true)
def z_T6 : Nat → FieldType := fun k => match k with
  | 0 => (.object "MailVerdicts$Domain")
  | 1 => .boolean
  | 2 => .boolean
  | _ => .int
def z_F7 : u_T := fun k => match k with
  | 0 => ("MailVerdicts$Term", "qualifier", "I", true)
  | 1 => ("MailVerdicts$Term", "kind", "I", true)
  | 2 => ("MailVerdicts$Term", "number", "I", true)
  | 3 => ("MailVerdicts$Term", "target", "LMailVerdicts$Domain;", true)
  | _ => ("MailVerdicts$Term", "length", "I", true)
def z_T7 : Nat → FieldType := fun k => match k with
  | 0 => .int
  | 1 => .int
  | 2 => .int
  | 3 => (.object "MailVerdicts$Domain")
  | _ => .int
def z_F8 : u_T := fun k => match k with
  | 0 => ("MailVerdicts$Key", "modulus", "I", true)
  | _ => ("MailVerdicts$Key", "exponent", "I", true)
def z_T8 : Nat → FieldType := fun k => match k with
  | 0 => .int
  | _ => .int
def z_F9 : u_T := fun k => match k with
  | 0 => ("MailVerdicts$Wish", "own", "I", true)
  | 1 => ("MailVerdicts$Wish", "below", "I", true)
  | 2 => ("MailVerdicts$Wish", "strictSender", "Z", true)
  | _ => ("MailVerdicts$Wish", "strictSigner", "Z", true)
def z_T9 : Nat → FieldType := fun k => match k with
  | 0 => .int
  | 1 => .int
  | 2 => .boolean
  | _ => .boolean
def z_F10 : u_T := fun k => match k with
  | 0 => ("MailVerdictsModel", "domains", "I", false)
  | 1 => ("MailVerdictsModel", "parent", "[I", false)
  | 2 => ("MailVerdictsModel", "suffix", "[Z", false)
  | 3 => ("MailVerdictsModel", "addresses", "[I", false)
  | 4 => ("MailVerdictsModel", "address", "[I", false)
  | 5 => ("MailVerdictsModel", "exchangers", "[I", false)
  | 6 => ("MailVerdictsModel", "exchanger", "[I", false)
  | 7 => ("MailVerdictsModel", "modulus", "[I", false)
  | 8 => ("MailVerdictsModel", "exponent", "[I", false)
  | 9 => ("MailVerdictsModel", "own", "[I", false)
  | 10 => ("MailVerdictsModel", "below", "[I", false)
  | 11 => ("MailVerdictsModel", "justSender", "[Z", false)
  | 12 => ("MailVerdictsModel", "justSigner", "[Z", false)
  | 13 => ("MailVerdictsModel", "terms", "[I", false)
  | 14 => ("MailVerdictsModel", "qualifier", "[I", false)
  | 15 => ("MailVerdictsModel", "kind", "[I", false)
  | 16 => ("MailVerdictsModel", "what", "[I", false)
  | 17 => ("MailVerdictsModel", "bits", "[I", false)
  | 18 => ("MailVerdictsModel", "queries", "I", false)
  | 19 => ("MailVerdictsModel", "empties", "I", false)
  | 20 => ("MailVerdictsModel", "wrong", "Z", false)
  | 21 => ("MailVerdictsModel", "at", "[I", false)
  | 22 => ("MailVerdictsModel", "next", "[I", false)
  | 23 => ("MailVerdictsModel", "led", "[Z", false)
  | 24 => ("MailVerdictsModel", "size", "I", false)
  | 25 => ("MailVerdictsModel", "text", "[I", false)
  | 26 => ("MailVerdictsModel", "named", "I", false)
  | 27 => ("MailVerdictsModel", "names", "[I", false)
  | 28 => ("MailVerdictsModel", "signed", "I", false)
  | 29 => ("MailVerdictsModel", "signer", "[I", false)
  | 30 => ("MailVerdictsModel", "relaxedFields", "[Z", false)
  | 31 => ("MailVerdictsModel", "relaxedBody", "[Z", false)
  | 32 => ("MailVerdictsModel", "number", "[I", false)
  | 33 => ("MailVerdictsModel", "lines", "I", false)
  | 34 => ("MailVerdictsModel", "from", "[I", false)
  | 35 => ("MailVerdictsModel", "till", "[I", false)
  | 36 => ("MailVerdictsModel", "headEnd", "I", false)
  | 37 => ("MailVerdictsModel", "fields", "I", false)
  | 38 => ("MailVerdictsModel", "first", "[I", false)
  | 39 => ("MailVerdictsModel", "last", "[I", false)
  | 40 => ("MailVerdictsModel", "nameLength", "[I", false)
  | 41 => ("MailVerdictsModel", "taken", "[Z", false)
  | 42 => ("MailVerdictsModel", "written", "I", false)
  | _ => ("MailVerdictsModel", "page", "[I", false)
def z_T10 : Nat → FieldType := fun k => match k with
  | 0 => .int
  | 1 => (.array .int)
  | 2 => (.array .boolean)
  | 3 => (.array .int)
  | 4 => (.array .int)
  | 5 => (.array .int)
  | 6 => (.array .int)
  | 7 => (.array .int)
  | 8 => (.array .int)
  | 9 => (.array .int)
  | 10 => (.array .int)
  | 11 => (.array .boolean)
  | 12 => (.array .boolean)
  | 13 => (.array .int)
  | 14 => (.array .int)
  | 15 => (.array .int)
  | 16 => (.array .int)
  | 17 => (.array .int)
  | 18 => .int
  | 19 => .int
  | 20 => .boolean
  | 21 => (.array .int)
  | 22 => (.array .int)
  | 23 => (.array .boolean)
  | 24 => .int
  | 25 => (.array .int)
  | 26 => .int
  | 27 => (.array .int)
  | 28 => .int
  | 29 => (.array .int)
  | 30 => (.array .boolean)
  | 31 => (.array .boolean)
  | 32 => (.array .int)
  | 33 => .int
  | 34 => (.array .int)
  | 35 => (.array .int)
  | 36 => .int
  | 37 => .int
  | 38 => (.array .int)
  | 39 => (.array .int)
  | 40 => (.array .int)
  | 41 => (.array .boolean)
  | 42 => .int
  | _ => (.array .int)
def zcl : List vw_C := [("MailVerdicts", z_F0, 8), ("MailVerdicts$Domain", z_F1, 11), ("MailVerdicts$Checking", z_F2, 3), ("MailVerdicts$CanonicalForm", z_F3, 6), ("MailVerdicts$Message", z_F4, 6), ("MailVerdicts$Text", z_F5, 2), ("MailVerdicts$Signature", z_F6, 4), ("MailVerdicts$Term", z_F7, 5), ("MailVerdicts$Key", z_F8, 2), ("MailVerdicts$Wish", z_F9, 4), ("MailVerdictsModel", z_F10, 44)]
theorem z_n0 : ∀ a, a < 8 → ∀ b, b < 8 → a ≠ b → (z_F0 a).2.1 ≠ (z_F0 b).2.1 := by decide +kernel
theorem z_t0 : ∀ k, k < 8 → parseFieldDescriptor (z_F0 k).2.2.1 = some (z_T0 k) := by decide +kernel
theorem z_i0 : ∀ w ∈ u_ws "MailVerdicts" z_F0 8, w ∈ z_ws := by decide +kernel
theorem z_n1 : ∀ a, a < 11 → ∀ b, b < 11 → a ≠ b → (z_F1 a).2.1 ≠ (z_F1 b).2.1 := by decide +kernel
theorem z_t1 : ∀ k, k < 11 → parseFieldDescriptor (z_F1 k).2.2.1 = some (z_T1 k) := by decide +kernel
theorem z_i1 : ∀ w ∈ u_ws "MailVerdicts$Domain" z_F1 11, w ∈ z_ws := by decide +kernel
theorem z_n2 : ∀ a, a < 3 → ∀ b, b < 3 → a ≠ b → (z_F2 a).2.1 ≠ (z_F2 b).2.1 := by decide +kernel
theorem z_t2 : ∀ k, k < 3 → parseFieldDescriptor (z_F2 k).2.2.1 = some (z_T2 k) := by decide +kernel
theorem z_i2 : ∀ w ∈ u_ws "MailVerdicts$Checking" z_F2 3, w ∈ z_ws := by decide +kernel
theorem z_n3 : ∀ a, a < 6 → ∀ b, b < 6 → a ≠ b → (z_F3 a).2.1 ≠ (z_F3 b).2.1 := by decide +kernel
theorem z_t3 : ∀ k, k < 6 → parseFieldDescriptor (z_F3 k).2.2.1 = some (z_T3 k) := by decide +kernel
theorem z_i3 : ∀ w ∈ u_ws "MailVerdicts$CanonicalForm" z_F3 6, w ∈ z_ws := by decide +kernel
theorem z_n4 : ∀ a, a < 6 → ∀ b, b < 6 → a ≠ b → (z_F4 a).2.1 ≠ (z_F4 b).2.1 := by decide +kernel
theorem z_t4 : ∀ k, k < 6 → parseFieldDescriptor (z_F4 k).2.2.1 = some (z_T4 k) := by decide +kernel
theorem z_i4 : ∀ w ∈ u_ws "MailVerdicts$Message" z_F4 6, w ∈ z_ws := by decide +kernel
theorem z_n5 : ∀ a, a < 2 → ∀ b, b < 2 → a ≠ b → (z_F5 a).2.1 ≠ (z_F5 b).2.1 := by decide +kernel
theorem z_t5 : ∀ k, k < 2 → parseFieldDescriptor (z_F5 k).2.2.1 = some (z_T5 k) := by decide +kernel
theorem z_i5 : ∀ w ∈ u_ws "MailVerdicts$Text" z_F5 2, w ∈ z_ws := by decide +kernel
theorem z_n6 : ∀ a, a < 4 → ∀ b, b < 4 → a ≠ b → (z_F6 a).2.1 ≠ (z_F6 b).2.1 := by decide +kernel
theorem z_t6 : ∀ k, k < 4 → parseFieldDescriptor (z_F6 k).2.2.1 = some (z_T6 k) := by decide +kernel
theorem z_i6 : ∀ w ∈ u_ws "MailVerdicts$Signature" z_F6 4, w ∈ z_ws := by decide +kernel
theorem z_n7 : ∀ a, a < 5 → ∀ b, b < 5 → a ≠ b → (z_F7 a).2.1 ≠ (z_F7 b).2.1 := by decide +kernel
theorem z_t7 : ∀ k, k < 5 → parseFieldDescriptor (z_F7 k).2.2.1 = some (z_T7 k) := by decide +kernel
theorem z_i7 : ∀ w ∈ u_ws "MailVerdicts$Term" z_F7 5, w ∈ z_ws := by decide +kernel
theorem z_n8 : ∀ a, a < 2 → ∀ b, b < 2 → a ≠ b → (z_F8 a).2.1 ≠ (z_F8 b).2.1 := by decide +kernel
theorem z_t8 : ∀ k, k < 2 → parseFieldDescriptor (z_F8 k).2.2.1 = some (z_T8 k) := by decide +kernel
theorem z_i8 : ∀ w ∈ u_ws "MailVerdicts$Key" z_F8 2, w ∈ z_ws := by decide +kernel
theorem z_n9 : ∀ a, a < 4 → ∀ b, b < 4 → a ≠ b → (z_F9 a).2.1 ≠ (z_F9 b).2.1 := by decide +kernel
theorem z_t9 : ∀ k, k < 4 → parseFieldDescriptor (z_F9 k).2.2.1 = some (z_T9 k) := by decide +kernel
theorem z_i9 : ∀ w ∈ u_ws "MailVerdicts$Wish" z_F9 4, w ∈ z_ws := by decide +kernel
theorem z_n10 : ∀ a, a < 44 → ∀ b, b < 44 → a ≠ b → (z_F10 a).2.1 ≠ (z_F10 b).2.1 := by decide +kernel
theorem z_t10 : ∀ k, k < 44 → parseFieldDescriptor (z_F10 k).2.2.1 = some (z_T10 k) := by decide +kernel
theorem z_i10 : ∀ w ∈ u_ws "MailVerdictsModel" z_F10 44, w ∈ z_ws := by decide +kernel
