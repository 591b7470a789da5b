-- ===== PART A: goes FIRST, ahead of the names: the tables' words, and 'selects' of the private methods out of them =====
/-- a private method of a class that the tables say can be made, by its rows of tables_1 -/
def lw_okq (q : MethodName × Nat) : Prop := (q.1.cls ≠ "java/lang/invoke/MethodHandle" ∧ q.1.cls ≠ "java/lang/invoke/VarHandle") ∧ Cond.instantiable q.1.cls q.2 ∈ tables_1 ∧ Cond.privateMethod q.1 ∈ tables_1 ∧ Cond.instanceMethod q.1 ∈ tables_1
theorem lw_p0 : lw_okq (⟨"LadderOfRescued$Reader", "hear", "(I)V"⟩, 8) := ⟨⟨by decide +kernel, by decide +kernel⟩, List.mem_of_getElem? (i := 156) (by decide +kernel), List.mem_of_getElem? (i := 237) (by decide +kernel), List.mem_of_getElem? (i := 238) (by decide +kernel)⟩
theorem lw_p1 : lw_okq (⟨"LadderOfRescued$Reader", "read", "(LLadderOfRescued$Law;)I"⟩, 8) := ⟨⟨by decide +kernel, by decide +kernel⟩, List.mem_of_getElem? (i := 156) (by decide +kernel), List.mem_of_getElem? (i := 241) (by decide +kernel), List.mem_of_getElem? (i := 242) (by decide +kernel)⟩
theorem lw_p2 : lw_okq (⟨"LadderOfRescued$Law", "clear", "()V"⟩, 4) := ⟨⟨by decide +kernel, by decide +kernel⟩, List.mem_of_getElem? (i := 119) (by decide +kernel), List.mem_of_getElem? (i := 245) (by decide +kernel), List.mem_of_getElem? (i := 246) (by decide +kernel)⟩
theorem lw_p3 : lw_okq (⟨"LadderOfRescued$Reader", "advance", "()V"⟩, 8) := ⟨⟨by decide +kernel, by decide +kernel⟩, List.mem_of_getElem? (i := 156) (by decide +kernel), List.mem_of_getElem? (i := 249) (by decide +kernel), List.mem_of_getElem? (i := 250) (by decide +kernel)⟩
theorem lw_p4 : lw_okq (⟨"LadderOfRescued$Reader", "takeNumber", "()V"⟩, 8) := ⟨⟨by decide +kernel, by decide +kernel⟩, List.mem_of_getElem? (i := 156) (by decide +kernel), List.mem_of_getElem? (i := 256) (by decide +kernel), List.mem_of_getElem? (i := 257) (by decide +kernel)⟩
theorem lw_p5 : lw_okq (⟨"LadderOfRescued$Reader", "takeWord", "()V"⟩, 8) := ⟨⟨by decide +kernel, by decide +kernel⟩, List.mem_of_getElem? (i := 156) (by decide +kernel), List.mem_of_getElem? (i := 263) (by decide +kernel), List.mem_of_getElem? (i := 264) (by decide +kernel)⟩
theorem lw_p6 : lw_okq (⟨"LadderOfRescued$Reader", "isWord", "(Ljava/lang/String;)Z"⟩, 8) := ⟨⟨by decide +kernel, by decide +kernel⟩, List.mem_of_getElem? (i := 156) (by decide +kernel), List.mem_of_getElem? (i := 283) (by decide +kernel), List.mem_of_getElem? (i := 284) (by decide +kernel)⟩
theorem lw_p7 : lw_okq (⟨"LadderOfRescued$Reader", "expect", "(I)V"⟩, 8) := ⟨⟨by decide +kernel, by decide +kernel⟩, List.mem_of_getElem? (i := 156) (by decide +kernel), List.mem_of_getElem? (i := 292) (by decide +kernel), List.mem_of_getElem? (i := 293) (by decide +kernel)⟩
theorem lw_p8 : lw_okq (⟨"LadderOfRescued$Reader", "fail", "()V"⟩, 8) := ⟨⟨by decide +kernel, by decide +kernel⟩, List.mem_of_getElem? (i := 156) (by decide +kernel), List.mem_of_getElem? (i := 296) (by decide +kernel), List.mem_of_getElem? (i := 297) (by decide +kernel)⟩
theorem lw_p9 : lw_okq (⟨"LadderOfRescued$Reader", "either", "(I)V"⟩, 8) := ⟨⟨by decide +kernel, by decide +kernel⟩, List.mem_of_getElem? (i := 156) (by decide +kernel), List.mem_of_getElem? (i := 300) (by decide +kernel), List.mem_of_getElem? (i := 301) (by decide +kernel)⟩
theorem lw_p10 : lw_okq (⟨"LadderOfRescued$Reader", "both", "(I)V"⟩, 8) := ⟨⟨by decide +kernel, by decide +kernel⟩, List.mem_of_getElem? (i := 156) (by decide +kernel), List.mem_of_getElem? (i := 304) (by decide +kernel), List.mem_of_getElem? (i := 305) (by decide +kernel)⟩
theorem lw_p11 : lw_okq (⟨"LadderOfRescued$Reader", "perhapsNot", "(I)V"⟩, 8) := ⟨⟨by decide +kernel, by decide +kernel⟩, List.mem_of_getElem? (i := 156) (by decide +kernel), List.mem_of_getElem? (i := 308) (by decide +kernel), List.mem_of_getElem? (i := 309) (by decide +kernel)⟩
theorem lw_p12 : lw_okq (⟨"LadderOfRescued$Reader", "negation", "(I)V"⟩, 8) := ⟨⟨by decide +kernel, by decide +kernel⟩, List.mem_of_getElem? (i := 156) (by decide +kernel), List.mem_of_getElem? (i := 312) (by decide +kernel), List.mem_of_getElem? (i := 313) (by decide +kernel)⟩
theorem lw_p13 : lw_okq (⟨"LadderOfRescued$Reader", "mayOpen", "(I)Z"⟩, 8) := ⟨⟨by decide +kernel, by decide +kernel⟩, List.mem_of_getElem? (i := 156) (by decide +kernel), List.mem_of_getElem? (i := 316) (by decide +kernel), List.mem_of_getElem? (i := 317) (by decide +kernel)⟩
theorem lw_p14 : lw_okq (⟨"LadderOfRescued$Law", "append", "(I)V"⟩, 4) := ⟨⟨by decide +kernel, by decide +kernel⟩, List.mem_of_getElem? (i := 119) (by decide +kernel), List.mem_of_getElem? (i := 320) (by decide +kernel), List.mem_of_getElem? (i := 321) (by decide +kernel)⟩
theorem lw_p15 : lw_okq (⟨"LadderOfRescued$Reader", "comparison", "(I)V"⟩, 8) := ⟨⟨by decide +kernel, by decide +kernel⟩, List.mem_of_getElem? (i := 156) (by decide +kernel), List.mem_of_getElem? (i := 324) (by decide +kernel), List.mem_of_getElem? (i := 325) (by decide +kernel)⟩
def lw_privs_1 : List (MethodName × Nat) := [(⟨"LadderOfRescued$Reader", "hear", "(I)V"⟩, 8), (⟨"LadderOfRescued$Reader", "read", "(LLadderOfRescued$Law;)I"⟩, 8), (⟨"LadderOfRescued$Law", "clear", "()V"⟩, 4), (⟨"LadderOfRescued$Reader", "advance", "()V"⟩, 8), (⟨"LadderOfRescued$Reader", "takeNumber", "()V"⟩, 8), (⟨"LadderOfRescued$Reader", "takeWord", "()V"⟩, 8), (⟨"LadderOfRescued$Reader", "isWord", "(Ljava/lang/String;)Z"⟩, 8), (⟨"LadderOfRescued$Reader", "expect", "(I)V"⟩, 8), (⟨"LadderOfRescued$Reader", "fail", "()V"⟩, 8), (⟨"LadderOfRescued$Reader", "either", "(I)V"⟩, 8), (⟨"LadderOfRescued$Reader", "both", "(I)V"⟩, 8), (⟨"LadderOfRescued$Reader", "perhapsNot", "(I)V"⟩, 8), (⟨"LadderOfRescued$Reader", "negation", "(I)V"⟩, 8), (⟨"LadderOfRescued$Reader", "mayOpen", "(I)Z"⟩, 8), (⟨"LadderOfRescued$Law", "append", "(I)V"⟩, 4), (⟨"LadderOfRescued$Reader", "comparison", "(I)V"⟩, 8)]
theorem lw_r1 : ∀ q ∈ lw_privs_1, lw_okq q := List.forall_mem_cons.mpr ⟨lw_p0, List.forall_mem_cons.mpr ⟨lw_p1, List.forall_mem_cons.mpr ⟨lw_p2, List.forall_mem_cons.mpr ⟨lw_p3, List.forall_mem_cons.mpr ⟨lw_p4, List.forall_mem_cons.mpr ⟨lw_p5, List.forall_mem_cons.mpr ⟨lw_p6, List.forall_mem_cons.mpr ⟨lw_p7, List.forall_mem_cons.mpr ⟨lw_p8, List.forall_mem_cons.mpr ⟨lw_p9, List.forall_mem_cons.mpr ⟨lw_p10, List.forall_mem_cons.mpr ⟨lw_p11, List.forall_mem_cons.mpr ⟨lw_p12, List.forall_mem_cons.mpr ⟨lw_p13, List.forall_mem_cons.mpr ⟨lw_p14, List.forall_mem_cons.mpr ⟨lw_p15, fun _ h => absurd h List.not_mem_nil⟩⟩⟩⟩⟩⟩⟩⟩⟩⟩⟩⟩⟩⟩⟩⟩
theorem lw_p16 : lw_okq (⟨"LadderOfRescued$Reader", "sum", "(I)V"⟩, 8) := ⟨⟨by decide +kernel, by decide +kernel⟩, List.mem_of_getElem? (i := 156) (by decide +kernel), List.mem_of_getElem? (i := 328) (by decide +kernel), List.mem_of_getElem? (i := 329) (by decide +kernel)⟩
theorem lw_p17 : lw_okq (⟨"LadderOfRescued$Reader", "term", "(I)V"⟩, 8) := ⟨⟨by decide +kernel, by decide +kernel⟩, List.mem_of_getElem? (i := 156) (by decide +kernel), List.mem_of_getElem? (i := 332) (by decide +kernel), List.mem_of_getElem? (i := 333) (by decide +kernel)⟩
theorem lw_p18 : lw_okq (⟨"LadderOfRescued$Reader", "one", "(I)V"⟩, 8) := ⟨⟨by decide +kernel, by decide +kernel⟩, List.mem_of_getElem? (i := 156) (by decide +kernel), List.mem_of_getElem? (i := 336) (by decide +kernel), List.mem_of_getElem? (i := 337) (by decide +kernel)⟩
theorem lw_p19 : lw_okq (⟨"LadderOfRescued$Reader", "opposite", "(I)V"⟩, 8) := ⟨⟨by decide +kernel, by decide +kernel⟩, List.mem_of_getElem? (i := 156) (by decide +kernel), List.mem_of_getElem? (i := 343) (by decide +kernel), List.mem_of_getElem? (i := 344) (by decide +kernel)⟩
theorem lw_p20 : lw_okq (⟨"LadderOfRescued$Reader", "bracket", "(I)V"⟩, 8) := ⟨⟨by decide +kernel, by decide +kernel⟩, List.mem_of_getElem? (i := 156) (by decide +kernel), List.mem_of_getElem? (i := 347) (by decide +kernel), List.mem_of_getElem? (i := 348) (by decide +kernel)⟩
theorem lw_p21 : lw_okq (⟨"LadderOfRescued$Law", "endPart", "(I)V"⟩, 4) := ⟨⟨by decide +kernel, by decide +kernel⟩, List.mem_of_getElem? (i := 119) (by decide +kernel), List.mem_of_getElem? (i := 351) (by decide +kernel), List.mem_of_getElem? (i := 352) (by decide +kernel)⟩
theorem lw_p22 : lw_okq (⟨"LadderOfRescued$Crew", "has", "(I)Z"⟩, 10) := ⟨⟨by decide +kernel, by decide +kernel⟩, List.mem_of_getElem? (i := 26) (by decide +kernel), List.mem_of_getElem? (i := 417) (by decide +kernel), List.mem_of_getElem? (i := 418) (by decide +kernel)⟩
theorem lw_p23 : lw_okq (⟨"LadderOfRescued", "says", "(LLadderOfRescued$Crew;III)I"⟩, 11) := ⟨⟨by decide +kernel, by decide +kernel⟩, List.mem_of_getElem? (i := 18) (by decide +kernel), List.mem_of_getElem? (i := 421) (by decide +kernel), List.mem_of_getElem? (i := 422) (by decide +kernel)⟩
theorem lw_p24 : lw_okq (⟨"LadderOfRescued$Law", "value", "(ILLadderOfRescued$Crew;II)I"⟩, 4) := ⟨⟨by decide +kernel, by decide +kernel⟩, List.mem_of_getElem? (i := 119) (by decide +kernel), List.mem_of_getElem? (i := 425) (by decide +kernel), List.mem_of_getElem? (i := 426) (by decide +kernel)⟩
theorem lw_p25 : lw_okq (⟨"LadderOfRescued", "join", "(II)I"⟩, 11) := ⟨⟨by decide +kernel, by decide +kernel⟩, List.mem_of_getElem? (i := 18) (by decide +kernel), List.mem_of_getElem? (i := 446) (by decide +kernel), List.mem_of_getElem? (i := 447) (by decide +kernel)⟩
theorem lw_p26 : lw_okq (⟨"LadderOfRescued$Crew", "quarrel", "(II)Z"⟩, 10) := ⟨⟨by decide +kernel, by decide +kernel⟩, List.mem_of_getElem? (i := 26) (by decide +kernel), List.mem_of_getElem? (i := 459) (by decide +kernel), List.mem_of_getElem? (i := 460) (by decide +kernel)⟩
theorem lw_p27 : lw_okq (⟨"LadderOfRescued$Crew", "setQuarrel", "(III)V"⟩, 10) := ⟨⟨by decide +kernel, by decide +kernel⟩, List.mem_of_getElem? (i := 26) (by decide +kernel), List.mem_of_getElem? (i := 463) (by decide +kernel), List.mem_of_getElem? (i := 464) (by decide +kernel)⟩
theorem lw_p28 : lw_okq (⟨"LadderOfRescued$Crew", "rungOf", "(I)I"⟩, 10) := ⟨⟨by decide +kernel, by decide +kernel⟩, List.mem_of_getElem? (i := 26) (by decide +kernel), List.mem_of_getElem? (i := 471) (by decide +kernel), List.mem_of_getElem? (i := 472) (by decide +kernel)⟩
theorem lw_p29 : lw_okq (⟨"LadderOfRescued", "measure", "(LLadderOfRescued$Crew;[III)I"⟩, 11) := ⟨⟨by decide +kernel, by decide +kernel⟩, List.mem_of_getElem? (i := 18) (by decide +kernel), List.mem_of_getElem? (i := 479) (by decide +kernel), List.mem_of_getElem? (i := 480) (by decide +kernel)⟩
theorem lw_p30 : lw_okq (⟨"LadderOfRescued", "highOf", "(LLadderOfRescued$Crew;[II)I"⟩, 11) := ⟨⟨by decide +kernel, by decide +kernel⟩, List.mem_of_getElem? (i := 18) (by decide +kernel), List.mem_of_getElem? (i := 483) (by decide +kernel), List.mem_of_getElem? (i := 484) (by decide +kernel)⟩
theorem lw_p31 : lw_okq (⟨"LadderOfRescued", "risesOf", "(LLadderOfRescued$Crew;II)I"⟩, 11) := ⟨⟨by decide +kernel, by decide +kernel⟩, List.mem_of_getElem? (i := 18) (by decide +kernel), List.mem_of_getElem? (i := 487) (by decide +kernel), List.mem_of_getElem? (i := 488) (by decide +kernel)⟩
def lw_privs_2 : List (MethodName × Nat) := [(⟨"LadderOfRescued$Reader", "sum", "(I)V"⟩, 8), (⟨"LadderOfRescued$Reader", "term", "(I)V"⟩, 8), (⟨"LadderOfRescued$Reader", "one", "(I)V"⟩, 8), (⟨"LadderOfRescued$Reader", "opposite", "(I)V"⟩, 8), (⟨"LadderOfRescued$Reader", "bracket", "(I)V"⟩, 8), (⟨"LadderOfRescued$Law", "endPart", "(I)V"⟩, 4), (⟨"LadderOfRescued$Crew", "has", "(I)Z"⟩, 10), (⟨"LadderOfRescued", "says", "(LLadderOfRescued$Crew;III)I"⟩, 11), (⟨"LadderOfRescued$Law", "value", "(ILLadderOfRescued$Crew;II)I"⟩, 4), (⟨"LadderOfRescued", "join", "(II)I"⟩, 11), (⟨"LadderOfRescued$Crew", "quarrel", "(II)Z"⟩, 10), (⟨"LadderOfRescued$Crew", "setQuarrel", "(III)V"⟩, 10), (⟨"LadderOfRescued$Crew", "rungOf", "(I)I"⟩, 10), (⟨"LadderOfRescued", "measure", "(LLadderOfRescued$Crew;[III)I"⟩, 11), (⟨"LadderOfRescued", "highOf", "(LLadderOfRescued$Crew;[II)I"⟩, 11), (⟨"LadderOfRescued", "risesOf", "(LLadderOfRescued$Crew;II)I"⟩, 11)]
theorem lw_r2 : ∀ q ∈ lw_privs_2, lw_okq q := List.forall_mem_cons.mpr ⟨lw_p16, List.forall_mem_cons.mpr ⟨lw_p17, List.forall_mem_cons.mpr ⟨lw_p18, List.forall_mem_cons.mpr ⟨lw_p19, List.forall_mem_cons.mpr ⟨lw_p20, List.forall_mem_cons.mpr ⟨lw_p21, List.forall_mem_cons.mpr ⟨lw_p22, List.forall_mem_cons.mpr ⟨lw_p23, List.forall_mem_cons.mpr ⟨lw_p24, List.forall_mem_cons.mpr ⟨lw_p25, List.forall_mem_cons.mpr ⟨lw_p26, List.forall_mem_cons.mpr ⟨lw_p27, List.forall_mem_cons.mpr ⟨lw_p28, List.forall_mem_cons.mpr ⟨lw_p29, List.forall_mem_cons.mpr ⟨lw_p30, List.forall_mem_cons.mpr ⟨lw_p31, fun _ h => absurd h List.not_mem_nil⟩⟩⟩⟩⟩⟩⟩⟩⟩⟩⟩⟩⟩⟩⟩⟩
theorem lw_p32 : lw_okq (⟨"LadderOfRescued", "firstWeak", "(LLadderOfRescued$Crew;[II)I"⟩, 11) := ⟨⟨by decide +kernel, by decide +kernel⟩, List.mem_of_getElem? (i := 18) (by decide +kernel), List.mem_of_getElem? (i := 491) (by decide +kernel), List.mem_of_getElem? (i := 492) (by decide +kernel)⟩
theorem lw_p33 : lw_okq (⟨"LadderOfRescued", "bearsOf", "(LLadderOfRescued$Crew;II)I"⟩, 11) := ⟨⟨by decide +kernel, by decide +kernel⟩, List.mem_of_getElem? (i := 18) (by decide +kernel), List.mem_of_getElem? (i := 495) (by decide +kernel), List.mem_of_getElem? (i := 496) (by decide +kernel)⟩
theorem lw_p34 : lw_okq (⟨"LadderOfRescued", "sheetRefusal", "(I)I"⟩, 11) := ⟨⟨by decide +kernel, by decide +kernel⟩, List.mem_of_getElem? (i := 18) (by decide +kernel), List.mem_of_getElem? (i := 509) (by decide +kernel), List.mem_of_getElem? (i := 510) (by decide +kernel)⟩
theorem lw_p35 : lw_okq (⟨"LadderOfRescued", "takeRow", "(LLadderOfRescued$Sheet;)I"⟩, 11) := ⟨⟨by decide +kernel, by decide +kernel⟩, List.mem_of_getElem? (i := 18) (by decide +kernel), List.mem_of_getElem? (i := 513) (by decide +kernel), List.mem_of_getElem? (i := 514) (by decide +kernel)⟩
theorem lw_p36 : lw_okq (⟨"LadderOfRescued", "serves", "(LLadderOfRescued$Crew;[III)Z"⟩, 11) := ⟨⟨by decide +kernel, by decide +kernel⟩, List.mem_of_getElem? (i := 18) (by decide +kernel), List.mem_of_getElem? (i := 521) (by decide +kernel), List.mem_of_getElem? (i := 522) (by decide +kernel)⟩
theorem lw_p37 : lw_okq (⟨"LadderOfRescued", "holds", "(LLadderOfRescued$Crew;[II)Z"⟩, 11) := ⟨⟨by decide +kernel, by decide +kernel⟩, List.mem_of_getElem? (i := 18) (by decide +kernel), List.mem_of_getElem? (i := 525) (by decide +kernel), List.mem_of_getElem? (i := 526) (by decide +kernel)⟩
theorem lw_p38 : lw_okq (⟨"LadderOfRescued$Crew", "saveByFire", "(I)V"⟩, 10) := ⟨⟨by decide +kernel, by decide +kernel⟩, List.mem_of_getElem? (i := 26) (by decide +kernel), List.mem_of_getElem? (i := 529) (by decide +kernel), List.mem_of_getElem? (i := 530) (by decide +kernel)⟩
theorem lw_p39 : lw_okq (⟨"LadderOfRescued$Crew", "save", "(I)V"⟩, 10) := ⟨⟨by decide +kernel, by decide +kernel⟩, List.mem_of_getElem? (i := 26) (by decide +kernel), List.mem_of_getElem? (i := 533) (by decide +kernel), List.mem_of_getElem? (i := 534) (by decide +kernel)⟩
theorem lw_p40 : lw_okq (⟨"LadderOfRescued", "measureAll", "()V"⟩, 11) := ⟨⟨by decide +kernel, by decide +kernel⟩, List.mem_of_getElem? (i := 18) (by decide +kernel), List.mem_of_getElem? (i := 546) (by decide +kernel), List.mem_of_getElem? (i := 547) (by decide +kernel)⟩
theorem lw_p41 : lw_okq (⟨"LadderOfRescued$Crew", "savedBits", "()I"⟩, 10) := ⟨⟨by decide +kernel, by decide +kernel⟩, List.mem_of_getElem? (i := 26) (by decide +kernel), List.mem_of_getElem? (i := 550) (by decide +kernel), List.mem_of_getElem? (i := 551) (by decide +kernel)⟩
theorem lw_p42 : lw_okq (⟨"LadderOfRescued$Search", "run", "(II)V"⟩, 8) := ⟨⟨by decide +kernel, by decide +kernel⟩, List.mem_of_getElem? (i := 83) (by decide +kernel), List.mem_of_getElem? (i := 554) (by decide +kernel), List.mem_of_getElem? (i := 555) (by decide +kernel)⟩
theorem lw_p43 : lw_okq (⟨"LadderOfRescued$Crew", "becomeLike", "(LLadderOfRescued$Crew;)V"⟩, 10) := ⟨⟨by decide +kernel, by decide +kernel⟩, List.mem_of_getElem? (i := 26) (by decide +kernel), List.mem_of_getElem? (i := 582) (by decide +kernel), List.mem_of_getElem? (i := 583) (by decide +kernel)⟩
theorem lw_p44 : lw_okq (⟨"LadderOfRescued", "nightRefusal", "(I)I"⟩, 11) := ⟨⟨by decide +kernel, by decide +kernel⟩, List.mem_of_getElem? (i := 18) (by decide +kernel), List.mem_of_getElem? (i := 608) (by decide +kernel), List.mem_of_getElem? (i := 609) (by decide +kernel)⟩
theorem lw_p45 : lw_okq (⟨"LadderOfRescued", "firstOtherwise", "(LLadderOfRescued$Crew;LLadderOfRescued$Sheet;)I"⟩, 11) := ⟨⟨by decide +kernel, by decide +kernel⟩, List.mem_of_getElem? (i := 18) (by decide +kernel), List.mem_of_getElem? (i := 612) (by decide +kernel), List.mem_of_getElem? (i := 613) (by decide +kernel)⟩
theorem lw_p46 : lw_okq (⟨"LadderOfRescued", "countWays", "(LLadderOfRescued$Sheet;)V"⟩, 11) := ⟨⟨by decide +kernel, by decide +kernel⟩, List.mem_of_getElem? (i := 18) (by decide +kernel), List.mem_of_getElem? (i := 632) (by decide +kernel), List.mem_of_getElem? (i := 633) (by decide +kernel)⟩
theorem lw_p47 : lw_okq (⟨"LadderOfRescued", "fits", "(LLadderOfRescued$Sheet;II)Z"⟩, 11) := ⟨⟨by decide +kernel, by decide +kernel⟩, List.mem_of_getElem? (i := 18) (by decide +kernel), List.mem_of_getElem? (i := 642) (by decide +kernel), List.mem_of_getElem? (i := 643) (by decide +kernel)⟩
def lw_privs_3 : List (MethodName × Nat) := [(⟨"LadderOfRescued", "firstWeak", "(LLadderOfRescued$Crew;[II)I"⟩, 11), (⟨"LadderOfRescued", "bearsOf", "(LLadderOfRescued$Crew;II)I"⟩, 11), (⟨"LadderOfRescued", "sheetRefusal", "(I)I"⟩, 11), (⟨"LadderOfRescued", "takeRow", "(LLadderOfRescued$Sheet;)I"⟩, 11), (⟨"LadderOfRescued", "serves", "(LLadderOfRescued$Crew;[III)Z"⟩, 11), (⟨"LadderOfRescued", "holds", "(LLadderOfRescued$Crew;[II)Z"⟩, 11), (⟨"LadderOfRescued$Crew", "saveByFire", "(I)V"⟩, 10), (⟨"LadderOfRescued$Crew", "save", "(I)V"⟩, 10), (⟨"LadderOfRescued", "measureAll", "()V"⟩, 11), (⟨"LadderOfRescued$Crew", "savedBits", "()I"⟩, 10), (⟨"LadderOfRescued$Search", "run", "(II)V"⟩, 8), (⟨"LadderOfRescued$Crew", "becomeLike", "(LLadderOfRescued$Crew;)V"⟩, 10), (⟨"LadderOfRescued", "nightRefusal", "(I)I"⟩, 11), (⟨"LadderOfRescued", "firstOtherwise", "(LLadderOfRescued$Crew;LLadderOfRescued$Sheet;)I"⟩, 11), (⟨"LadderOfRescued", "countWays", "(LLadderOfRescued$Sheet;)V"⟩, 11), (⟨"LadderOfRescued", "fits", "(LLadderOfRescued$Sheet;II)Z"⟩, 11)]
theorem lw_r3 : ∀ q ∈ lw_privs_3, lw_okq q := List.forall_mem_cons.mpr ⟨lw_p32, List.forall_mem_cons.mpr ⟨lw_p33, List.forall_mem_cons.mpr ⟨lw_p34, List.forall_mem_cons.mpr ⟨lw_p35, List.forall_mem_cons.mpr ⟨lw_p36, List.forall_mem_cons.mpr ⟨lw_p37, List.forall_mem_cons.mpr ⟨lw_p38, List.forall_mem_cons.mpr ⟨lw_p39, List.forall_mem_cons.mpr ⟨lw_p40, List.forall_mem_cons.mpr ⟨lw_p41, List.forall_mem_cons.mpr ⟨lw_p42, List.forall_mem_cons.mpr ⟨lw_p43, List.forall_mem_cons.mpr ⟨lw_p44, List.forall_mem_cons.mpr ⟨lw_p45, List.forall_mem_cons.mpr ⟨lw_p46, List.forall_mem_cons.mpr ⟨lw_p47, fun _ h => absurd h List.not_mem_nil⟩⟩⟩⟩⟩⟩⟩⟩⟩⟩⟩⟩⟩⟩⟩⟩
theorem lw_p48 : lw_okq (⟨"LadderOfRescued", "firstDigits", "(LLadderOfRescued$Sheet;)I"⟩, 11) := ⟨⟨by decide +kernel, by decide +kernel⟩, List.mem_of_getElem? (i := 18) (by decide +kernel), List.mem_of_getElem? (i := 646) (by decide +kernel), List.mem_of_getElem? (i := 647) (by decide +kernel)⟩
theorem lw_p49 : lw_okq (⟨"LadderOfRescued", "firstFitting", "(LLadderOfRescued$Sheet;II)I"⟩, 11) := ⟨⟨by decide +kernel, by decide +kernel⟩, List.mem_of_getElem? (i := 18) (by decide +kernel), List.mem_of_getElem? (i := 650) (by decide +kernel), List.mem_of_getElem? (i := 651) (by decide +kernel)⟩
theorem lw_p50 : lw_okq (⟨"LadderOfRescued$Sheet", "becomeZeros", "(II)V"⟩, 3) := ⟨⟨by decide +kernel, by decide +kernel⟩, List.mem_of_getElem? (i := 137) (by decide +kernel), List.mem_of_getElem? (i := 662) (by decide +kernel), List.mem_of_getElem? (i := 663) (by decide +kernel)⟩
theorem lw_p51 : lw_okq (⟨"LadderOfRescued$Sheet", "write", "(II)V"⟩, 3) := ⟨⟨by decide +kernel, by decide +kernel⟩, List.mem_of_getElem? (i := 137) (by decide +kernel), List.mem_of_getElem? (i := 669) (by decide +kernel), List.mem_of_getElem? (i := 670) (by decide +kernel)⟩
theorem lw_p52 : lw_okq (⟨"LadderOfRescued$Sheet", "has", "(I)Z"⟩, 3) := ⟨⟨by decide +kernel, by decide +kernel⟩, List.mem_of_getElem? (i := 137) (by decide +kernel), List.mem_of_getElem? (i := 673) (by decide +kernel), List.mem_of_getElem? (i := 674) (by decide +kernel)⟩
theorem lw_p53 : lw_okq (⟨"LadderOfRescued", "draw", "(I)I"⟩, 11) := ⟨⟨by decide +kernel, by decide +kernel⟩, List.mem_of_getElem? (i := 18) (by decide +kernel), List.mem_of_getElem? (i := 681) (by decide +kernel), List.mem_of_getElem? (i := 682) (by decide +kernel)⟩
theorem lw_p54 : lw_okq (⟨"LadderOfRescued$Sheet", "hasAll", "(II)Z"⟩, 3) := ⟨⟨by decide +kernel, by decide +kernel⟩, List.mem_of_getElem? (i := 137) (by decide +kernel), List.mem_of_getElem? (i := 712) (by decide +kernel), List.mem_of_getElem? (i := 713) (by decide +kernel)⟩
theorem lw_p55 : lw_okq (⟨"LadderOfRescuedModel", "goesNext", "()V"⟩, 42) := ⟨⟨by decide +kernel, by decide +kernel⟩, List.mem_of_getElem? (i := 730) (by decide +kernel), List.mem_of_getElem? (i := 740) (by decide +kernel), List.mem_of_getElem? (i := 741) (by decide +kernel)⟩
theorem lw_p56 : lw_okq (⟨"LadderOfRescuedModel", "wordFrom", "(II)I"⟩, 42) := ⟨⟨by decide +kernel, by decide +kernel⟩, List.mem_of_getElem? (i := 730) (by decide +kernel), List.mem_of_getElem? (i := 747) (by decide +kernel), List.mem_of_getElem? (i := 748) (by decide +kernel)⟩
theorem lw_p57 : lw_okq (⟨"LadderOfRescuedModel", "eRead", "()Z"⟩, 42) := ⟨⟨by decide +kernel, by decide +kernel⟩, List.mem_of_getElem? (i := 730) (by decide +kernel), List.mem_of_getElem? (i := 751) (by decide +kernel), List.mem_of_getElem? (i := 752) (by decide +kernel)⟩
theorem lw_p58 : lw_okq (⟨"LadderOfRescuedModel", "puts", "(I)V"⟩, 42) := ⟨⟨by decide +kernel, by decide +kernel⟩, List.mem_of_getElem? (i := 730) (by decide +kernel), List.mem_of_getElem? (i := 756) (by decide +kernel), List.mem_of_getElem? (i := 757) (by decide +kernel)⟩
theorem lw_p59 : lw_okq (⟨"LadderOfRescuedModel", "unwinds", "(I)V"⟩, 42) := ⟨⟨by decide +kernel, by decide +kernel⟩, List.mem_of_getElem? (i := 730) (by decide +kernel), List.mem_of_getElem? (i := 760) (by decide +kernel), List.mem_of_getElem? (i := 761) (by decide +kernel)⟩
theorem lw_p60 : lw_okq (⟨"LadderOfRescuedModel", "opensOne", "(I)Z"⟩, 42) := ⟨⟨by decide +kernel, by decide +kernel⟩, List.mem_of_getElem? (i := 730) (by decide +kernel), List.mem_of_getElem? (i := 767) (by decide +kernel), List.mem_of_getElem? (i := 768) (by decide +kernel)⟩
theorem lw_p61 : lw_okq (⟨"LadderOfRescuedModel", "holds", "(I)V"⟩, 42) := ⟨⟨by decide +kernel, by decide +kernel⟩, List.mem_of_getElem? (i := 730) (by decide +kernel), List.mem_of_getElem? (i := 771) (by decide +kernel), List.mem_of_getElem? (i := 772) (by decide +kernel)⟩
theorem lw_p62 : lw_okq (⟨"LadderOfRescuedModel", "signOf", "()I"⟩, 42) := ⟨⟨by decide +kernel, by decide +kernel⟩, List.mem_of_getElem? (i := 730) (by decide +kernel), List.mem_of_getElem? (i := 775) (by decide +kernel), List.mem_of_getElem? (i := 776) (by decide +kernel)⟩
theorem lw_p63 : lw_okq (⟨"LadderOfRescuedModel", "between", "(I)Z"⟩, 42) := ⟨⟨by decide +kernel, by decide +kernel⟩, List.mem_of_getElem? (i := 730) (by decide +kernel), List.mem_of_getElem? (i := 779) (by decide +kernel), List.mem_of_getElem? (i := 780) (by decide +kernel)⟩
def lw_privs_4 : List (MethodName × Nat) := [(⟨"LadderOfRescued", "firstDigits", "(LLadderOfRescued$Sheet;)I"⟩, 11), (⟨"LadderOfRescued", "firstFitting", "(LLadderOfRescued$Sheet;II)I"⟩, 11), (⟨"LadderOfRescued$Sheet", "becomeZeros", "(II)V"⟩, 3), (⟨"LadderOfRescued$Sheet", "write", "(II)V"⟩, 3), (⟨"LadderOfRescued$Sheet", "has", "(I)Z"⟩, 3), (⟨"LadderOfRescued", "draw", "(I)I"⟩, 11), (⟨"LadderOfRescued$Sheet", "hasAll", "(II)Z"⟩, 3), (⟨"LadderOfRescuedModel", "goesNext", "()V"⟩, 42), (⟨"LadderOfRescuedModel", "wordFrom", "(II)I"⟩, 42), (⟨"LadderOfRescuedModel", "eRead", "()Z"⟩, 42), (⟨"LadderOfRescuedModel", "puts", "(I)V"⟩, 42), (⟨"LadderOfRescuedModel", "unwinds", "(I)V"⟩, 42), (⟨"LadderOfRescuedModel", "opensOne", "(I)Z"⟩, 42), (⟨"LadderOfRescuedModel", "holds", "(I)V"⟩, 42), (⟨"LadderOfRescuedModel", "signOf", "()I"⟩, 42), (⟨"LadderOfRescuedModel", "between", "(I)Z"⟩, 42)]
theorem lw_r4 : ∀ q ∈ lw_privs_4, lw_okq q := List.forall_mem_cons.mpr ⟨lw_p48, List.forall_mem_cons.mpr ⟨lw_p49, List.forall_mem_cons.mpr ⟨lw_p50, List.forall_mem_cons.mpr ⟨lw_p51, List.forall_mem_cons.mpr ⟨lw_p52, List.forall_mem_cons.mpr ⟨lw_p53, List.forall_mem_cons.mpr ⟨lw_p54, List.forall_mem_cons.mpr ⟨lw_p55, List.forall_mem_cons.mpr ⟨lw_p56, List.forall_mem_cons.mpr ⟨lw_p57, List.forall_mem_cons.mpr ⟨lw_p58, List.forall_mem_cons.mpr ⟨lw_p59, List.forall_mem_cons.mpr ⟨lw_p60, List.forall_mem_cons.mpr ⟨lw_p61, List.forall_mem_cons.mpr ⟨lw_p62, List.forall_mem_cons.mpr ⟨lw_p63, fun _ h => absurd h List.not_mem_nil⟩⟩⟩⟩⟩⟩⟩⟩⟩⟩⟩⟩⟩⟩⟩⟩
theorem lw_p64 : lw_okq (⟨"LadderOfRescuedModel", "isOne", "(I)Z"⟩, 42) := ⟨⟨by decide +kernel, by decide +kernel⟩, List.mem_of_getElem? (i := 730) (by decide +kernel), List.mem_of_getElem? (i := 934) (by decide +kernel), List.mem_of_getElem? (i := 935) (by decide +kernel)⟩
theorem lw_p65 : lw_okq (⟨"LadderOfRescuedModel", "asksOf", "(III)I"⟩, 42) := ⟨⟨by decide +kernel, by decide +kernel⟩, List.mem_of_getElem? (i := 730) (by decide +kernel), List.mem_of_getElem? (i := 938) (by decide +kernel), List.mem_of_getElem? (i := 939) (by decide +kernel)⟩
theorem lw_p66 : lw_okq (⟨"LadderOfRescuedModel", "says", "(I)I"⟩, 42) := ⟨⟨by decide +kernel, by decide +kernel⟩, List.mem_of_getElem? (i := 730) (by decide +kernel), List.mem_of_getElem? (i := 942) (by decide +kernel), List.mem_of_getElem? (i := 943) (by decide +kernel)⟩
theorem lw_p67 : lw_okq (⟨"LadderOfRescuedModel", "aheadOf", "(I)I"⟩, 42) := ⟨⟨by decide +kernel, by decide +kernel⟩, List.mem_of_getElem? (i := 730) (by decide +kernel), List.mem_of_getElem? (i := 969) (by decide +kernel), List.mem_of_getElem? (i := 970) (by decide +kernel)⟩
theorem lw_p68 : lw_okq (⟨"LadderOfRescuedModel", "tellsAll", "()V"⟩, 42) := ⟨⟨by decide +kernel, by decide +kernel⟩, List.mem_of_getElem? (i := 730) (by decide +kernel), List.mem_of_getElem? (i := 977) (by decide +kernel), List.mem_of_getElem? (i := 978) (by decide +kernel)⟩
theorem lw_p69 : lw_okq (⟨"LadderOfRescuedModel", "weighsOf", "(I)I"⟩, 42) := ⟨⟨by decide +kernel, by decide +kernel⟩, List.mem_of_getElem? (i := 730) (by decide +kernel), List.mem_of_getElem? (i := 981) (by decide +kernel), List.mem_of_getElem? (i := 982) (by decide +kernel)⟩
theorem lw_p70 : lw_okq (⟨"LadderOfRescuedModel", "risesOf", "(II)I"⟩, 42) := ⟨⟨by decide +kernel, by decide +kernel⟩, List.mem_of_getElem? (i := 730) (by decide +kernel), List.mem_of_getElem? (i := 985) (by decide +kernel), List.mem_of_getElem? (i := 986) (by decide +kernel)⟩
theorem lw_p71 : lw_okq (⟨"LadderOfRescuedModel", "bearsOf", "(II)I"⟩, 42) := ⟨⟨by decide +kernel, by decide +kernel⟩, List.mem_of_getElem? (i := 730) (by decide +kernel), List.mem_of_getElem? (i := 989) (by decide +kernel), List.mem_of_getElem? (i := 990) (by decide +kernel)⟩
theorem lw_p72 : lw_okq (⟨"LadderOfRescuedModel", "rowSaved", "()V"⟩, 42) := ⟨⟨by decide +kernel, by decide +kernel⟩, List.mem_of_getElem? (i := 730) (by decide +kernel), List.mem_of_getElem? (i := 993) (by decide +kernel), List.mem_of_getElem? (i := 994) (by decide +kernel)⟩
theorem lw_p73 : lw_okq (⟨"LadderOfRescuedModel", "toldOf", "(I)I"⟩, 42) := ⟨⟨by decide +kernel, by decide +kernel⟩, List.mem_of_getElem? (i := 730) (by decide +kernel), List.mem_of_getElem? (i := 997) (by decide +kernel), List.mem_of_getElem? (i := 998) (by decide +kernel)⟩
theorem lw_p74 : lw_okq (⟨"LadderOfRescuedModel", "highOf", "()I"⟩, 42) := ⟨⟨by decide +kernel, by decide +kernel⟩, List.mem_of_getElem? (i := 730) (by decide +kernel), List.mem_of_getElem? (i := 1001) (by decide +kernel), List.mem_of_getElem? (i := 1002) (by decide +kernel)⟩
theorem lw_p75 : lw_okq (⟨"LadderOfRescuedModel", "firstLoose", "()I"⟩, 42) := ⟨⟨by decide +kernel, by decide +kernel⟩, List.mem_of_getElem? (i := 730) (by decide +kernel), List.mem_of_getElem? (i := 1005) (by decide +kernel), List.mem_of_getElem? (i := 1006) (by decide +kernel)⟩
theorem lw_p76 : lw_okq (⟨"LadderOfRescuedModel", "weighAbove", "()I"⟩, 42) := ⟨⟨by decide +kernel, by decide +kernel⟩, List.mem_of_getElem? (i := 730) (by decide +kernel), List.mem_of_getElem? (i := 1009) (by decide +kernel), List.mem_of_getElem? (i := 1010) (by decide +kernel)⟩
theorem lw_p77 : lw_okq (⟨"LadderOfRescuedModel", "doesReach", "(I)Z"⟩, 42) := ⟨⟨by decide +kernel, by decide +kernel⟩, List.mem_of_getElem? (i := 730) (by decide +kernel), List.mem_of_getElem? (i := 1021) (by decide +kernel), List.mem_of_getElem? (i := 1022) (by decide +kernel)⟩
theorem lw_p78 : lw_okq (⟨"LadderOfRescuedModel", "savedSet", "()I"⟩, 42) := ⟨⟨by decide +kernel, by decide +kernel⟩, List.mem_of_getElem? (i := 730) (by decide +kernel), List.mem_of_getElem? (i := 1033) (by decide +kernel), List.mem_of_getElem? (i := 1034) (by decide +kernel)⟩
theorem lw_p79 : lw_okq (⟨"LadderOfRescuedModel", "goesThrough", "(II)V"⟩, 42) := ⟨⟨by decide +kernel, by decide +kernel⟩, List.mem_of_getElem? (i := 730) (by decide +kernel), List.mem_of_getElem? (i := 1037) (by decide +kernel), List.mem_of_getElem? (i := 1038) (by decide +kernel)⟩
def lw_privs_5 : List (MethodName × Nat) := [(⟨"LadderOfRescuedModel", "isOne", "(I)Z"⟩, 42), (⟨"LadderOfRescuedModel", "asksOf", "(III)I"⟩, 42), (⟨"LadderOfRescuedModel", "says", "(I)I"⟩, 42), (⟨"LadderOfRescuedModel", "aheadOf", "(I)I"⟩, 42), (⟨"LadderOfRescuedModel", "tellsAll", "()V"⟩, 42), (⟨"LadderOfRescuedModel", "weighsOf", "(I)I"⟩, 42), (⟨"LadderOfRescuedModel", "risesOf", "(II)I"⟩, 42), (⟨"LadderOfRescuedModel", "bearsOf", "(II)I"⟩, 42), (⟨"LadderOfRescuedModel", "rowSaved", "()V"⟩, 42), (⟨"LadderOfRescuedModel", "toldOf", "(I)I"⟩, 42), (⟨"LadderOfRescuedModel", "highOf", "()I"⟩, 42), (⟨"LadderOfRescuedModel", "firstLoose", "()I"⟩, 42), (⟨"LadderOfRescuedModel", "weighAbove", "()I"⟩, 42), (⟨"LadderOfRescuedModel", "doesReach", "(I)Z"⟩, 42), (⟨"LadderOfRescuedModel", "savedSet", "()I"⟩, 42), (⟨"LadderOfRescuedModel", "goesThrough", "(II)V"⟩, 42)]
theorem lw_r5 : ∀ q ∈ lw_privs_5, lw_okq q := List.forall_mem_cons.mpr ⟨lw_p64, List.forall_mem_cons.mpr ⟨lw_p65, List.forall_mem_cons.mpr ⟨lw_p66, List.forall_mem_cons.mpr ⟨lw_p67, List.forall_mem_cons.mpr ⟨lw_p68, List.forall_mem_cons.mpr ⟨lw_p69, List.forall_mem_cons.mpr ⟨lw_p70, List.forall_mem_cons.mpr ⟨lw_p71, List.forall_mem_cons.mpr ⟨lw_p72, List.forall_mem_cons.mpr ⟨lw_p73, List.forall_mem_cons.mpr ⟨lw_p74, List.forall_mem_cons.mpr ⟨lw_p75, List.forall_mem_cons.mpr ⟨lw_p76, List.forall_mem_cons.mpr ⟨lw_p77, List.forall_mem_cons.mpr ⟨lw_p78, List.forall_mem_cons.mpr ⟨lw_p79, fun _ h => absurd h List.not_mem_nil⟩⟩⟩⟩⟩⟩⟩⟩⟩⟩⟩⟩⟩⟩⟩⟩
theorem lw_p80 : lw_okq (⟨"LadderOfRescuedModel", "digitsOf", "()I"⟩, 42) := ⟨⟨by decide +kernel, by decide +kernel⟩, List.mem_of_getElem? (i := 730) (by decide +kernel), List.mem_of_getElem? (i := 1041) (by decide +kernel), List.mem_of_getElem? (i := 1042) (by decide +kernel)⟩
theorem lw_p81 : lw_okq (⟨"LadderOfRescuedModel", "rowOf", "(I)V"⟩, 42) := ⟨⟨by decide +kernel, by decide +kernel⟩, List.mem_of_getElem? (i := 730) (by decide +kernel), List.mem_of_getElem? (i := 1074) (by decide +kernel), List.mem_of_getElem? (i := 1075) (by decide +kernel)⟩
theorem lw_p82 : lw_okq (⟨"LadderOfRescuedModel", "sheetWrong", "(I)I"⟩, 42) := ⟨⟨by decide +kernel, by decide +kernel⟩, List.mem_of_getElem? (i := 730) (by decide +kernel), List.mem_of_getElem? (i := 1086) (by decide +kernel), List.mem_of_getElem? (i := 1087) (by decide +kernel)⟩
theorem lw_p83 : lw_okq (⟨"LadderOfRescuedModel", "unlike", "(I)I"⟩, 42) := ⟨⟨by decide +kernel, by decide +kernel⟩, List.mem_of_getElem? (i := 730) (by decide +kernel), List.mem_of_getElem? (i := 1090) (by decide +kernel), List.mem_of_getElem? (i := 1091) (by decide +kernel)⟩
theorem lw_p84 : lw_okq (⟨"LadderOfRescuedModel", "tellsComes", "()V"⟩, 42) := ⟨⟨by decide +kernel, by decide +kernel⟩, List.mem_of_getElem? (i := 730) (by decide +kernel), List.mem_of_getElem? (i := 1122) (by decide +kernel), List.mem_of_getElem? (i := 1123) (by decide +kernel)⟩
theorem lw_p85 : lw_okq (⟨"LadderOfRescuedModel", "firesBy", "(I)V"⟩, 42) := ⟨⟨by decide +kernel, by decide +kernel⟩, List.mem_of_getElem? (i := 730) (by decide +kernel), List.mem_of_getElem? (i := 1126) (by decide +kernel), List.mem_of_getElem? (i := 1127) (by decide +kernel)⟩
def lw_privs_6 : List (MethodName × Nat) := [(⟨"LadderOfRescuedModel", "digitsOf", "()I"⟩, 42), (⟨"LadderOfRescuedModel", "rowOf", "(I)V"⟩, 42), (⟨"LadderOfRescuedModel", "sheetWrong", "(I)I"⟩, 42), (⟨"LadderOfRescuedModel", "unlike", "(I)I"⟩, 42), (⟨"LadderOfRescuedModel", "tellsComes", "()V"⟩, 42), (⟨"LadderOfRescuedModel", "firesBy", "(I)V"⟩, 42)]
theorem lw_r6 : ∀ q ∈ lw_privs_6, lw_okq q := List.forall_mem_cons.mpr ⟨lw_p80, List.forall_mem_cons.mpr ⟨lw_p81, List.forall_mem_cons.mpr ⟨lw_p82, List.forall_mem_cons.mpr ⟨lw_p83, List.forall_mem_cons.mpr ⟨lw_p84, List.forall_mem_cons.mpr ⟨lw_p85, fun _ h => absurd h List.not_mem_nil⟩⟩⟩⟩⟩⟩
def lw_privs : List (MethodName × Nat) := lw_privs_1 ++ (lw_privs_2 ++ (lw_privs_3 ++ (lw_privs_4 ++ (lw_privs_5 ++ (lw_privs_6)))))
def lw_tbl : List Cond := k2_sels lw_privs ++ tables_1
theorem lw_privs_ok : ∀ q ∈ lw_privs, lw_okq q := by
  show ∀ q ∈ lw_privs_1 ++ (lw_privs_2 ++ (lw_privs_3 ++ (lw_privs_4 ++ (lw_privs_5 ++ (lw_privs_6))))), lw_okq q
  exact List.forall_mem_append.mpr ⟨lw_r1, List.forall_mem_append.mpr ⟨lw_r2, List.forall_mem_append.mpr ⟨lw_r3, List.forall_mem_append.mpr ⟨lw_r4, List.forall_mem_append.mpr ⟨lw_r5, lw_r6⟩⟩⟩⟩⟩

def RX0 : String := "LadderOfRescued$Crew"
def TX0 : u_T := fun k => match k with
  | 0 => ("LadderOfRescued$Crew", "kind", "[I", true)
  | 1 => ("LadderOfRescued$Crew", "more", "[I", true)
  | 2 => ("LadderOfRescued$Crew", "height", "[I", true)
  | 3 => ("LadderOfRescued$Crew", "strong", "[I", true)
  | 4 => ("LadderOfRescued$Crew", "feuds", "[I", true)
  | 5 => ("LadderOfRescued$Crew", "order", "[I", true)
  | 6 => ("LadderOfRescued$Crew", "people", "I", false)
  | 7 => ("LadderOfRescued$Crew", "saved", "I", false)
  | 8 => ("LadderOfRescued$Crew", "rust", "I", false)
  | _ => ("LadderOfRescued$Crew", "law", "I", false)
def tyX0 : Nat → FieldType := fun k => match k with
  | 0 => .array .int
  | 1 => .array .int
  | 2 => .array .int
  | 3 => .array .int
  | 4 => .array .int
  | 5 => .array .int
  | 6 => .int
  | 7 => .int
  | 8 => .int
  | _ => .int
abbrev wsX00 : List Cond := u_ws RX0 TX0 10
theorem nmX0 : ∀ a, a < 10 → ∀ b, b < 10 → a ≠ b → (TX0 a).2.1 ≠ (TX0 b).2.1 := by decide +kernel
theorem tyX0_ok : ∀ k, k < 10 → parseFieldDescriptor (TX0 k).2.2.1 = some (tyX0 k) := by decide +kernel
abbrev cX0_init : ByteArray := prog_2_method_1_code
def yX0_init : MethodName := ⟨RX0, "<init>", "()V"⟩
abbrev cX0_becomeLike : ByteArray := prog_2_method_2_code
def yX0_becomeLike : MethodName := ⟨RX0, "becomeLike", "(LLadderOfRescued$Crew;)V"⟩
abbrev cX0_has : ByteArray := prog_2_method_3_code
def yX0_has : MethodName := ⟨RX0, "has", "(I)Z"⟩
abbrev cX0_quarrel : ByteArray := prog_2_method_4_code
def yX0_quarrel : MethodName := ⟨RX0, "quarrel", "(II)Z"⟩
abbrev cX0_setQuarrel : ByteArray := prog_2_method_5_code
def yX0_setQuarrel : MethodName := ⟨RX0, "setQuarrel", "(III)V"⟩
abbrev cX0_rungOf : ByteArray := prog_2_method_6_code
def yX0_rungOf : MethodName := ⟨RX0, "rungOf", "(I)I"⟩
abbrev cX0_savedBits : ByteArray := prog_2_method_7_code
def yX0_savedBits : MethodName := ⟨RX0, "savedBits", "()I"⟩
abbrev cX0_save : ByteArray := prog_2_method_8_code
def yX0_save : MethodName := ⟨RX0, "save", "(I)V"⟩
abbrev cX0_saveByFire : ByteArray := prog_2_method_9_code
def yX0_saveByFire : MethodName := ⟨RX0, "saveByFire", "(I)V"⟩
def RX1 : String := "LadderOfRescued$Law"
def TX1 : u_T := fun k => match k with
  | 0 => ("LadderOfRescued$Law", "code", "[I", true)
  | 1 => ("LadderOfRescued$Law", "ends", "[I", true)
  | 2 => ("LadderOfRescued$Law", "stack", "[I", true)
  | _ => ("LadderOfRescued$Law", "size", "I", false)
def tyX1 : Nat → FieldType := fun k => match k with
  | 0 => .array .int
  | 1 => .array .int
  | 2 => .array .int
  | _ => .int
abbrev wsX10 : List Cond := u_ws RX1 TX1 4
theorem nmX1 : ∀ a, a < 4 → ∀ b, b < 4 → a ≠ b → (TX1 a).2.1 ≠ (TX1 b).2.1 := by decide +kernel
theorem tyX1_ok : ∀ k, k < 4 → parseFieldDescriptor (TX1 k).2.2.1 = some (tyX1 k) := by decide +kernel
abbrev cX1_init : ByteArray := prog_3_method_1_code
def yX1_init : MethodName := ⟨RX1, "<init>", "()V"⟩
abbrev cX1_clear : ByteArray := prog_3_method_2_code
def yX1_clear : MethodName := ⟨RX1, "clear", "()V"⟩
abbrev cX1_append : ByteArray := prog_3_method_3_code
def yX1_append : MethodName := ⟨RX1, "append", "(I)V"⟩
abbrev cX1_endPart : ByteArray := prog_3_method_4_code
def yX1_endPart : MethodName := ⟨RX1, "endPart", "(I)V"⟩
abbrev cX1_value : ByteArray := prog_3_method_5_code
def yX1_value : MethodName := ⟨RX1, "value", "(ILLadderOfRescued$Crew;II)I"⟩
abbrev cX1_named : ByteArray := prog_3_method_6_code
def yX1_named : MethodName := ⟨RX1, "named", "(ILLadderOfRescued$Crew;II)I"⟩
abbrev cX1_joined : ByteArray := prog_3_method_7_code
def yX1_joined : MethodName := ⟨RX1, "joined", "(III)I"⟩
def RX2 : String := "LadderOfRescued$Reader"
def TX2 : u_T := fun k => match k with
  | 0 => ("LadderOfRescued$Reader", "tape", "[I", true)
  | 1 => ("LadderOfRescued$Reader", "size", "I", false)
  | 2 => ("LadderOfRescued$Reader", "at", "I", false)
  | 3 => ("LadderOfRescued$Reader", "token", "I", false)
  | 4 => ("LadderOfRescued$Reader", "place", "I", false)
  | 5 => ("LadderOfRescued$Reader", "number", "I", false)
  | 6 => ("LadderOfRescued$Reader", "fault", "I", false)
  | _ => ("LadderOfRescued$Reader", "law", "LLadderOfRescued$Law;", false)
def tyX2 : Nat → FieldType := fun k => match k with
  | 0 => .array .int
  | 1 => .int
  | 2 => .int
  | 3 => .int
  | 4 => .int
  | 5 => .int
  | 6 => .int
  | _ => .object "LadderOfRescued$Law"
abbrev wsX20 : List Cond := u_ws RX2 TX2 8
theorem nmX2 : ∀ a, a < 8 → ∀ b, b < 8 → a ≠ b → (TX2 a).2.1 ≠ (TX2 b).2.1 := by decide +kernel
theorem tyX2_ok : ∀ k, k < 8 → parseFieldDescriptor (TX2 k).2.2.1 = some (tyX2 k) := by decide +kernel
abbrev cX2_init : ByteArray := prog_4_method_1_code
def yX2_init : MethodName := ⟨RX2, "<init>", "(LLadderOfRescued$Law;)V"⟩
abbrev cX2_hear : ByteArray := prog_4_method_2_code
def yX2_hear : MethodName := ⟨RX2, "hear", "(I)V"⟩
abbrev cX2_read : ByteArray := prog_4_method_3_code
def yX2_read : MethodName := ⟨RX2, "read", "(LLadderOfRescued$Law;)I"⟩
abbrev cX2_either : ByteArray := prog_4_method_4_code
def yX2_either : MethodName := ⟨RX2, "either", "(I)V"⟩
abbrev cX2_both : ByteArray := prog_4_method_5_code
def yX2_both : MethodName := ⟨RX2, "both", "(I)V"⟩
abbrev cX2_perhapsNot : ByteArray := prog_4_method_6_code
def yX2_perhapsNot : MethodName := ⟨RX2, "perhapsNot", "(I)V"⟩
abbrev cX2_negation : ByteArray := prog_4_method_7_code
def yX2_negation : MethodName := ⟨RX2, "negation", "(I)V"⟩
abbrev cX2_comparison : ByteArray := prog_4_method_8_code
def yX2_comparison : MethodName := ⟨RX2, "comparison", "(I)V"⟩
abbrev cX2_sum : ByteArray := prog_4_method_9_code
def yX2_sum : MethodName := ⟨RX2, "sum", "(I)V"⟩
abbrev cX2_term : ByteArray := prog_4_method_10_code
def yX2_term : MethodName := ⟨RX2, "term", "(I)V"⟩
abbrev cX2_one : ByteArray := prog_4_method_11_code
def yX2_one : MethodName := ⟨RX2, "one", "(I)V"⟩
abbrev cX2_opposite : ByteArray := prog_4_method_12_code
def yX2_opposite : MethodName := ⟨RX2, "opposite", "(I)V"⟩
abbrev cX2_bracket : ByteArray := prog_4_method_13_code
def yX2_bracket : MethodName := ⟨RX2, "bracket", "(I)V"⟩
abbrev cX2_mayOpen : ByteArray := prog_4_method_14_code
def yX2_mayOpen : MethodName := ⟨RX2, "mayOpen", "(I)Z"⟩
abbrev cX2_expect : ByteArray := prog_4_method_15_code
def yX2_expect : MethodName := ⟨RX2, "expect", "(I)V"⟩
abbrev cX2_fail : ByteArray := prog_4_method_16_code
def yX2_fail : MethodName := ⟨RX2, "fail", "()V"⟩
abbrev cX2_advance : ByteArray := prog_4_method_17_code
def yX2_advance : MethodName := ⟨RX2, "advance", "()V"⟩
abbrev cX2_takeNumber : ByteArray := prog_4_method_18_code
def yX2_takeNumber : MethodName := ⟨RX2, "takeNumber", "()V"⟩
abbrev cX2_takeWord : ByteArray := prog_4_method_19_code
def yX2_takeWord : MethodName := ⟨RX2, "takeWord", "()V"⟩
abbrev cX2_isWord : ByteArray := prog_4_method_20_code
def yX2_isWord : MethodName := ⟨RX2, "isWord", "(Ljava/lang/String;)Z"⟩
abbrev cX2_isDigit : ByteArray := prog_4_method_21_code
def yX2_isDigit : MethodName := ⟨RX2, "isDigit", "(I)Z"⟩
abbrev cX2_isLetter : ByteArray := prog_4_method_22_code
def yX2_isLetter : MethodName := ⟨RX2, "isLetter", "(I)Z"⟩
def RX3 : String := "LadderOfRescued$Search"
def TX3 : u_T := fun k => match k with
  | 0 => ("LadderOfRescued$Search", "rises", "[I", true)
  | 1 => ("LadderOfRescued$Search", "bears", "[I", true)
  | 2 => ("LadderOfRescued$Search", "weighs", "[I", true)
  | 3 => ("LadderOfRescued$Search", "feuds", "[I", true)
  | 4 => ("LadderOfRescued$Search", "allowed", "I", false)
  | 5 => ("LadderOfRescued$Search", "limit", "I", false)
  | 6 => ("LadderOfRescued$Search", "bestHigh", "I", false)
  | _ => ("LadderOfRescued$Search", "bestDigits", "I", false)
def tyX3 : Nat → FieldType := fun k => match k with
  | 0 => .array .int
  | 1 => .array .int
  | 2 => .array .int
  | 3 => .array .int
  | 4 => .int
  | 5 => .int
  | 6 => .int
  | _ => .int
abbrev wsX30 : List Cond := u_ws RX3 TX3 8
theorem nmX3 : ∀ a, a < 8 → ∀ b, b < 8 → a ≠ b → (TX3 a).2.1 ≠ (TX3 b).2.1 := by decide +kernel
theorem tyX3_ok : ∀ k, k < 8 → parseFieldDescriptor (TX3 k).2.2.1 = some (tyX3 k) := by decide +kernel
abbrev cX3_init : ByteArray := prog_5_method_1_code
def yX3_init : MethodName := ⟨RX3, "<init>", "()V"⟩
abbrev cX3_run : ByteArray := prog_5_method_2_code
def yX3_run : MethodName := ⟨RX3, "run", "(II)V"⟩
abbrev cX3_climb : ByteArray := prog_5_method_3_code
def yX3_climb : MethodName := ⟨RX3, "climb", "(LLadderOfRescued$Search;IIIII)V"⟩
def RX4 : String := "LadderOfRescued$Sheet"
def TX4 : u_T := fun k => match k with
  | 0 => ("LadderOfRescued$Sheet", "numbers", "[I", true)
  | 1 => ("LadderOfRescued$Sheet", "sort", "I", false)
  | _ => ("LadderOfRescued$Sheet", "size", "I", false)
def tyX4 : Nat → FieldType := fun k => match k with
  | 0 => .array .int
  | 1 => .int
  | _ => .int
abbrev wsX40 : List Cond := u_ws RX4 TX4 3
theorem nmX4 : ∀ a, a < 3 → ∀ b, b < 3 → a ≠ b → (TX4 a).2.1 ≠ (TX4 b).2.1 := by decide +kernel
theorem tyX4_ok : ∀ k, k < 3 → parseFieldDescriptor (TX4 k).2.2.1 = some (tyX4 k) := by decide +kernel
abbrev cX4_init : ByteArray := prog_6_method_1_code
def yX4_init : MethodName := ⟨RX4, "<init>", "()V"⟩
abbrev cX4_becomeZeros : ByteArray := prog_6_method_2_code
def yX4_becomeZeros : MethodName := ⟨RX4, "becomeZeros", "(II)V"⟩
abbrev cX4_has : ByteArray := prog_6_method_3_code
def yX4_has : MethodName := ⟨RX4, "has", "(I)Z"⟩
abbrev cX4_hasAll : ByteArray := prog_6_method_4_code
def yX4_hasAll : MethodName := ⟨RX4, "hasAll", "(II)Z"⟩
abbrev cX4_write : ByteArray := prog_6_method_5_code
def yX4_write : MethodName := ⟨RX4, "write", "(II)V"⟩
def RX5 : String := "LadderOfRescued$Token"
def TX5 : u_T := fun k => match k with
  | _ => ("", "", "", false)
def tyX5 : Nat → FieldType := fun k => match k with
  | _ => .int
abbrev wsX50 : List Cond := u_ws RX5 TX5 0
theorem nmX5 : ∀ a, a < 0 → ∀ b, b < 0 → a ≠ b → (TX5 a).2.1 ≠ (TX5 b).2.1 := by decide +kernel
theorem tyX5_ok : ∀ k, k < 0 → parseFieldDescriptor (TX5 k).2.2.1 = some (tyX5 k) := by decide +kernel
abbrev cX5_wordOf : ByteArray := prog_7_method_2_code
def yX5_wordOf : MethodName := ⟨RX5, "wordOf", "(I)Ljava/lang/String;"⟩
abbrev cX5_isSign : ByteArray := prog_7_method_3_code
def yX5_isSign : MethodName := ⟨RX5, "isSign", "(I)Z"⟩
abbrev cX5_isName : ByteArray := prog_7_method_4_code
def yX5_isName : MethodName := ⟨RX5, "isName", "(I)Z"⟩
def RX6 : String := "LadderOfRescued"
def TX6 : u_T := fun k => match k with
  | 0 => ("LadderOfRescued", "now", "LLadderOfRescued$Crew;", true)
  | 1 => ("LadderOfRescued", "kept", "LLadderOfRescued$Crew;", true)
  | 2 => ("LadderOfRescued", "trial", "LLadderOfRescued$Crew;", true)
  | 3 => ("LadderOfRescued", "hasImage", "Z", false)
  | 4 => ("LadderOfRescued", "reader", "LLadderOfRescued$Reader;", true)
  | 5 => ("LadderOfRescued", "texts", "[LLadderOfRescued$Law;", true)
  | 6 => ("LadderOfRescued", "textCount", "I", false)
  | 7 => ("LadderOfRescued", "sheets", "[LLadderOfRescued$Sheet;", true)
  | 8 => ("LadderOfRescued", "search", "LLadderOfRescued$Search;", true)
  | 9 => ("LadderOfRescued", "row", "[I", true)
  | _ => ("LadderOfRescued", "ways", "[I", true)
def tyX6 : Nat → FieldType := fun k => match k with
  | 0 => .object "LadderOfRescued$Crew"
  | 1 => .object "LadderOfRescued$Crew"
  | 2 => .object "LadderOfRescued$Crew"
  | 3 => .boolean
  | 4 => .object "LadderOfRescued$Reader"
  | 5 => .array (.object "LadderOfRescued$Law")
  | 6 => .int
  | 7 => .array (.object "LadderOfRescued$Sheet")
  | 8 => .object "LadderOfRescued$Search"
  | 9 => .array .int
  | _ => .array .int
abbrev wsX60 : List Cond := u_ws RX6 TX6 11
theorem nmX6 : ∀ a, a < 11 → ∀ b, b < 11 → a ≠ b → (TX6 a).2.1 ≠ (TX6 b).2.1 := by decide +kernel
theorem tyX6_ok : ∀ k, k < 11 → parseFieldDescriptor (TX6 k).2.2.1 = some (tyX6 k) := by decide +kernel
abbrev cX6_init : ByteArray := prog_1_method_1_code
def yX6_init : MethodName := ⟨RX6, "<init>", "()V"⟩
abbrev cX6_count : ByteArray := prog_1_method_2_code
def yX6_count : MethodName := ⟨RX6, "count", "(I)I"⟩
abbrev cX6_winters : ByteArray := prog_1_method_3_code
def yX6_winters : MethodName := ⟨RX6, "winters", "(I)I"⟩
abbrev cX6_feed : ByteArray := prog_1_method_4_code
def yX6_feed : MethodName := ⟨RX6, "feed", "(IIIIII)I"⟩
abbrev cX6_text : ByteArray := prog_1_method_5_code
def yX6_text : MethodName := ⟨RX6, "text", "()I"⟩
abbrev cX6_force : ByteArray := prog_1_method_6_code
def yX6_force : MethodName := ⟨RX6, "force", "(I)I"⟩
abbrev cX6_asks : ByteArray := prog_1_method_7_code
def yX6_asks : MethodName := ⟨RX6, "asks", "(III)I"⟩
abbrev cX6_person : ByteArray := prog_1_method_8_code
def yX6_person : MethodName := ⟨RX6, "person", "(II)I"⟩
abbrev cX6_put : ByteArray := prog_1_method_9_code
def yX6_put : MethodName := ⟨RX6, "put", "(III)I"⟩
abbrev cX6_feud : ByteArray := prog_1_method_10_code
def yX6_feud : MethodName := ⟨RX6, "feud", "(III)I"⟩
abbrev cX6_told : ByteArray := prog_1_method_11_code
def yX6_told : MethodName := ⟨RX6, "told", "(II)I"⟩
abbrev cX6_ladder : ByteArray := prog_1_method_12_code
def yX6_ladder : MethodName := ⟨RX6, "ladder", "(I)I"⟩
abbrev cX6_stand : ByteArray := prog_1_method_13_code
def yX6_stand : MethodName := ⟨RX6, "stand", "(II)I"⟩
abbrev cX6_fire : ByteArray := prog_1_method_14_code
def yX6_fire : MethodName := ⟨RX6, "fire", "(II)I"⟩
abbrev cX6_door : ByteArray := prog_1_method_15_code
def yX6_door : MethodName := ⟨RX6, "door", "(I)I"⟩
abbrev cX6_highest : ByteArray := prog_1_method_16_code
def yX6_highest : MethodName := ⟨RX6, "highest", "(II)I"⟩
abbrev cX6_fewest : ByteArray := prog_1_method_17_code
def yX6_fewest : MethodName := ⟨RX6, "fewest", "(I)I"⟩
abbrev cX6_missed : ByteArray := prog_1_method_18_code
def yX6_missed : MethodName := ⟨RX6, "missed", "(I)I"⟩
abbrev cX6_next : ByteArray := prog_1_method_19_code
def yX6_next : MethodName := ⟨RX6, "next", "(I)I"⟩
abbrev cX6_rusts : ByteArray := prog_1_method_20_code
def yX6_rusts : MethodName := ⟨RX6, "rusts", "(I)I"⟩
abbrev cX6_come : ByteArray := prog_1_method_21_code
def yX6_come : MethodName := ⟨RX6, "come", "(II)J"⟩
abbrev cX6_reach : ByteArray := prog_1_method_22_code
def yX6_reach : MethodName := ⟨RX6, "reach", "(II)J"⟩
abbrev cX6_chain : ByteArray := prog_1_method_23_code
def yX6_chain : MethodName := ⟨RX6, "chain", "(I)I"⟩
abbrev cX6_judge : ByteArray := prog_1_method_24_code
def yX6_judge : MethodName := ⟨RX6, "judge", "(I)I"⟩
abbrev cX6_kinds : ByteArray := prog_1_method_25_code
def yX6_kinds : MethodName := ⟨RX6, "kinds", "(III)I"⟩
abbrev cX6_heights : ByteArray := prog_1_method_26_code
def yX6_heights : MethodName := ⟨RX6, "heights", "(III)I"⟩
abbrev cX6_years : ByteArray := prog_1_method_27_code
def yX6_years : MethodName := ⟨RX6, "years", "(II)I"⟩
abbrev cX6_whose : ByteArray := prog_1_method_28_code
def yX6_whose : MethodName := ⟨RX6, "whose", "(II)I"⟩
abbrev cX6_laws : ByteArray := prog_1_method_29_code
def yX6_laws : MethodName := ⟨RX6, "laws", "(I)I"⟩
abbrev cX6_film : ByteArray := prog_1_method_30_code
def yX6_film : MethodName := ⟨RX6, "film", "(I)I"⟩
abbrev cX6_drawn : ByteArray := prog_1_method_31_code
def yX6_drawn : MethodName := ⟨RX6, "drawn", "(II)I"⟩
abbrev cX6_odds : ByteArray := prog_1_method_32_code
def yX6_odds : MethodName := ⟨RX6, "odds", "(IIII)J"⟩
abbrev cX6_image : ByteArray := prog_1_method_33_code
def yX6_image : MethodName := ⟨RX6, "image", "()I"⟩
abbrev cX6_back : ByteArray := prog_1_method_34_code
def yX6_back : MethodName := ⟨RX6, "back", "()I"⟩
abbrev cX6_sheet : ByteArray := prog_1_method_35_code
def yX6_sheet : MethodName := ⟨RX6, "sheet", "(III)I"⟩
abbrev cX6_cell : ByteArray := prog_1_method_36_code
def yX6_cell : MethodName := ⟨RX6, "cell", "(III)I"⟩
abbrev cX6_copy : ByteArray := prog_1_method_37_code
def yX6_copy : MethodName := ⟨RX6, "copy", "(IIIII)I"⟩
abbrev cX6_peopleBy : ByteArray := prog_1_method_38_code
def yX6_peopleBy : MethodName := ⟨RX6, "peopleBy", "(IIII)I"⟩
abbrev cX6_taken : ByteArray := prog_1_method_39_code
def yX6_taken : MethodName := ⟨RX6, "taken", "(II)I"⟩
abbrev cX6_within : ByteArray := prog_1_method_40_code
def yX6_within : MethodName := ⟨RX6, "within", "(II)Z"⟩
abbrev cX6_sheetRefusal : ByteArray := prog_1_method_41_code
def yX6_sheetRefusal : MethodName := ⟨RX6, "sheetRefusal", "(I)I"⟩
abbrev cX6_nightRefusal : ByteArray := prog_1_method_42_code
def yX6_nightRefusal : MethodName := ⟨RX6, "nightRefusal", "(I)I"⟩
abbrev cX6_join : ByteArray := prog_1_method_43_code
def yX6_join : MethodName := ⟨RX6, "join", "(II)I"⟩
abbrev cX6_kindAbove : ByteArray := prog_1_method_44_code
def yX6_kindAbove : MethodName := ⟨RX6, "kindAbove", "(I)I"⟩
abbrev cX6_isA : ByteArray := prog_1_method_45_code
def yX6_isA : MethodName := ⟨RX6, "isA", "(II)Z"⟩
abbrev cX6_says : ByteArray := prog_1_method_46_code
def yX6_says : MethodName := ⟨RX6, "says", "(LLadderOfRescued$Crew;III)I"⟩
abbrev cX6_risesOf : ByteArray := prog_1_method_47_code
def yX6_risesOf : MethodName := ⟨RX6, "risesOf", "(LLadderOfRescued$Crew;II)I"⟩
abbrev cX6_bearsOf : ByteArray := prog_1_method_48_code
def yX6_bearsOf : MethodName := ⟨RX6, "bearsOf", "(LLadderOfRescued$Crew;II)I"⟩
abbrev cX6_weighsOf : ByteArray := prog_1_method_49_code
def yX6_weighsOf : MethodName := ⟨RX6, "weighsOf", "(LLadderOfRescued$Crew;I)I"⟩
abbrev cX6_highOf : ByteArray := prog_1_method_50_code
def yX6_highOf : MethodName := ⟨RX6, "highOf", "(LLadderOfRescued$Crew;[II)I"⟩
abbrev cX6_firstWeak : ByteArray := prog_1_method_51_code
def yX6_firstWeak : MethodName := ⟨RX6, "firstWeak", "(LLadderOfRescued$Crew;[II)I"⟩
abbrev cX6_weightOnLowest : ByteArray := prog_1_method_52_code
def yX6_weightOnLowest : MethodName := ⟨RX6, "weightOnLowest", "(LLadderOfRescued$Crew;[II)I"⟩
abbrev cX6_measure : ByteArray := prog_1_method_53_code
def yX6_measure : MethodName := ⟨RX6, "measure", "(LLadderOfRescued$Crew;[III)I"⟩
abbrev cX6_holds : ByteArray := prog_1_method_54_code
def yX6_holds : MethodName := ⟨RX6, "holds", "(LLadderOfRescued$Crew;[II)Z"⟩
abbrev cX6_serves : ByteArray := prog_1_method_55_code
def yX6_serves : MethodName := ⟨RX6, "serves", "(LLadderOfRescued$Crew;[III)Z"⟩
abbrev cX6_takeRow : ByteArray := prog_1_method_56_code
def yX6_takeRow : MethodName := ⟨RX6, "takeRow", "(LLadderOfRescued$Sheet;)I"⟩
abbrev cX6_draw : ByteArray := prog_1_method_57_code
def yX6_draw : MethodName := ⟨RX6, "draw", "(I)I"⟩
abbrev cX6_measureAll : ByteArray := prog_1_method_58_code
def yX6_measureAll : MethodName := ⟨RX6, "measureAll", "()V"⟩
abbrev cX6_firstOtherwise : ByteArray := prog_1_method_59_code
def yX6_firstOtherwise : MethodName := ⟨RX6, "firstOtherwise", "(LLadderOfRescued$Crew;LLadderOfRescued$Sheet;)I"⟩
abbrev cX6_fits : ByteArray := prog_1_method_60_code
def yX6_fits : MethodName := ⟨RX6, "fits", "(LLadderOfRescued$Sheet;II)Z"⟩
abbrev cX6_countWays : ByteArray := prog_1_method_61_code
def yX6_countWays : MethodName := ⟨RX6, "countWays", "(LLadderOfRescued$Sheet;)V"⟩
abbrev cX6_firstDigits : ByteArray := prog_1_method_62_code
def yX6_firstDigits : MethodName := ⟨RX6, "firstDigits", "(LLadderOfRescued$Sheet;)I"⟩
abbrev cX6_firstFitting : ByteArray := prog_1_method_63_code
def yX6_firstFitting : MethodName := ⟨RX6, "firstFitting", "(LLadderOfRescued$Sheet;II)I"⟩
abbrev cX6_lowest : ByteArray := prog_1_method_64_code
def yX6_lowest : MethodName := ⟨RX6, "lowest", "(JJI)J"⟩
def RX7 : String := "LadderOfRescuedModel"
def TX7 : u_T := fun k => match k with
  | 0 => ("LadderOfRescuedModel", "people", "I", false)
  | 1 => ("LadderOfRescuedModel", "kind", "[I", true)
  | 2 => ("LadderOfRescuedModel", "moreOf", "[I", true)
  | 3 => ("LadderOfRescuedModel", "rows", "[I", true)
  | 4 => ("LadderOfRescuedModel", "feuds", "[I", true)
  | 5 => ("LadderOfRescuedModel", "saved", "[I", true)
  | 6 => ("LadderOfRescuedModel", "savedMany", "I", false)
  | 7 => ("LadderOfRescuedModel", "rust", "I", false)
  | 8 => ("LadderOfRescuedModel", "tape", "[I", true)
  | 9 => ("LadderOfRescuedModel", "taped", "I", false)
  | 10 => ("LadderOfRescuedModel", "codes", "[I", true)
  | 11 => ("LadderOfRescuedModel", "starts", "[I", true)
  | 12 => ("LadderOfRescuedModel", "texts", "I", false)
  | 13 => ("LadderOfRescuedModel", "rule", "I", false)
  | 14 => ("LadderOfRescuedModel", "hasImage", "Z", false)
  | 15 => ("LadderOfRescuedModel", "imageRows", "[I", true)
  | 16 => ("LadderOfRescuedModel", "imageHeld", "[I", true)
  | 17 => ("LadderOfRescuedModel", "sheetSort", "[I", true)
  | 18 => ("LadderOfRescuedModel", "sheetSize", "[I", true)
  | 19 => ("LadderOfRescuedModel", "cells", "[I", true)
  | 20 => ("LadderOfRescuedModel", "law", "[I", true)
  | 21 => ("LadderOfRescuedModel", "at", "I", false)
  | 22 => ("LadderOfRescuedModel", "begun", "I", false)
  | 23 => ("LadderOfRescuedModel", "token", "I", false)
  | 24 => ("LadderOfRescuedModel", "value", "I", false)
  | 25 => ("LadderOfRescuedModel", "words", "[I", true)
  | 26 => ("LadderOfRescuedModel", "held", "[I", true)
  | 27 => ("LadderOfRescuedModel", "heldMany", "I", false)
  | 28 => ("LadderOfRescuedModel", "opens", "I", false)
  | 29 => ("LadderOfRescuedModel", "out", "I", false)
  | 30 => ("LadderOfRescuedModel", "stack", "[I", true)
  | 31 => ("LadderOfRescuedModel", "named", "[I", true)
  | 32 => ("LadderOfRescuedModel", "riseAt", "[I", true)
  | 33 => ("LadderOfRescuedModel", "bearAt", "[I", true)
  | 34 => ("LadderOfRescuedModel", "weigh", "[I", true)
  | 35 => ("LadderOfRescuedModel", "row", "[I", true)
  | 36 => ("LadderOfRescuedModel", "rungs", "I", false)
  | 37 => ("LadderOfRescuedModel", "bestDigits", "I", false)
  | 38 => ("LadderOfRescuedModel", "bestHigh", "I", false)
  | 39 => ("LadderOfRescuedModel", "highBy", "[I", true)
  | 40 => ("LadderOfRescuedModel", "highTold", "[I", true)
  | _ => ("LadderOfRescuedModel", "comesAt", "[I", true)
def tyX7 : Nat → FieldType := fun k => match k with
  | 0 => .int
  | 1 => .array .int
  | 2 => .array .int
  | 3 => .array .int
  | 4 => .array .int
  | 5 => .array .int
  | 6 => .int
  | 7 => .int
  | 8 => .array .int
  | 9 => .int
  | 10 => .array .int
  | 11 => .array .int
  | 12 => .int
  | 13 => .int
  | 14 => .boolean
  | 15 => .array .int
  | 16 => .array .int
  | 17 => .array .int
  | 18 => .array .int
  | 19 => .array .int
  | 20 => .array .int
  | 21 => .int
  | 22 => .int
  | 23 => .int
  | 24 => .int
  | 25 => .array .int
  | 26 => .array .int
  | 27 => .int
  | 28 => .int
  | 29 => .int
  | 30 => .array .int
  | 31 => .array .int
  | 32 => .array .int
  | 33 => .array .int
  | 34 => .array .int
  | 35 => .array .int
  | 36 => .int
  | 37 => .int
  | 38 => .int
  | 39 => .array .int
  | 40 => .array .int
  | _ => .array .int
abbrev wsX70 : List Cond := u_ws RX7 TX7 42
theorem nmX7 : ∀ a, a < 42 → ∀ b, b < 42 → a ≠ b → (TX7 a).2.1 ≠ (TX7 b).2.1 := by decide +kernel
theorem tyX7_ok : ∀ k, k < 42 → parseFieldDescriptor (TX7 k).2.2.1 = some (tyX7 k) := by decide +kernel
abbrev cX7_init : ByteArray := prog_9_method_1_code
def yX7_init : MethodName := ⟨RX7, "<init>", "()V"⟩
abbrev cX7_in : ByteArray := prog_9_method_3_code
def yX7_in : MethodName := ⟨RX7, "in", "(III)Z"⟩
abbrev cX7_within : ByteArray := prog_9_method_4_code
def yX7_within : MethodName := ⟨RX7, "within", "(III)I"⟩
abbrev cX7_isOne : ByteArray := prog_9_method_5_code
def yX7_isOne : MethodName := ⟨RX7, "isOne", "(I)Z"⟩
abbrev cX7_aheadOf : ByteArray := prog_9_method_6_code
def yX7_aheadOf : MethodName := ⟨RX7, "aheadOf", "(I)I"⟩
abbrev cX7_count : ByteArray := prog_9_method_7_code
def yX7_count : MethodName := ⟨RX7, "count", "(I)I"⟩
abbrev cX7_winters : ByteArray := prog_9_method_8_code
def yX7_winters : MethodName := ⟨RX7, "winters", "(I)I"⟩
abbrev cX7_isByte : ByteArray := prog_9_method_9_code
def yX7_isByte : MethodName := ⟨RX7, "isByte", "(I)Z"⟩
abbrev cX7_feed : ByteArray := prog_9_method_10_code
def yX7_feed : MethodName := ⟨RX7, "feed", "(IIIIII)I"⟩
abbrev cX7_wordFrom : ByteArray := prog_9_method_11_code
def yX7_wordFrom : MethodName := ⟨RX7, "wordFrom", "(II)I"⟩
abbrev cX7_goesNext : ByteArray := prog_9_method_12_code
def yX7_goesNext : MethodName := ⟨RX7, "goesNext", "()V"⟩
abbrev cX7_rank : ByteArray := prog_9_method_13_code
def yX7_rank : MethodName := ⟨RX7, "rank", "(I)I"⟩
abbrev cX7_puts : ByteArray := prog_9_method_14_code
def yX7_puts : MethodName := ⟨RX7, "puts", "(I)V"⟩
abbrev cX7_unwinds : ByteArray := prog_9_method_15_code
def yX7_unwinds : MethodName := ⟨RX7, "unwinds", "(I)V"⟩
abbrev cX7_holds : ByteArray := prog_9_method_16_code
def yX7_holds : MethodName := ⟨RX7, "holds", "(I)V"⟩
abbrev cX7_opensOne : ByteArray := prog_9_method_17_code
def yX7_opensOne : MethodName := ⟨RX7, "opensOne", "(I)Z"⟩
abbrev cX7_between : ByteArray := prog_9_method_18_code
def yX7_between : MethodName := ⟨RX7, "between", "(I)Z"⟩
abbrev cX7_signOf : ByteArray := prog_9_method_19_code
def yX7_signOf : MethodName := ⟨RX7, "signOf", "()I"⟩
abbrev cX7_eRead : ByteArray := prog_9_method_20_code
def yX7_eRead : MethodName := ⟨RX7, "eRead", "()Z"⟩
abbrev cX7_text : ByteArray := prog_9_method_21_code
def yX7_text : MethodName := ⟨RX7, "text", "()I"⟩
abbrev cX7_two : ByteArray := prog_9_method_22_code
def yX7_two : MethodName := ⟨RX7, "two", "(III)I"⟩
abbrev cX7_says : ByteArray := prog_9_method_23_code
def yX7_says : MethodName := ⟨RX7, "says", "(I)I"⟩
abbrev cX7_force : ByteArray := prog_9_method_24_code
def yX7_force : MethodName := ⟨RX7, "force", "(I)I"⟩
abbrev cX7_asksOf : ByteArray := prog_9_method_25_code
def yX7_asksOf : MethodName := ⟨RX7, "asksOf", "(III)I"⟩
abbrev cX7_asks : ByteArray := prog_9_method_26_code
def yX7_asks : MethodName := ⟨RX7, "asks", "(III)I"⟩
abbrev cX7_person : ByteArray := prog_9_method_27_code
def yX7_person : MethodName := ⟨RX7, "person", "(II)I"⟩
abbrev cX7_put : ByteArray := prog_9_method_28_code
def yX7_put : MethodName := ⟨RX7, "put", "(III)I"⟩
abbrev cX7_feud : ByteArray := prog_9_method_29_code
def yX7_feud : MethodName := ⟨RX7, "feud", "(III)I"⟩
abbrev cX7_told : ByteArray := prog_9_method_30_code
def yX7_told : MethodName := ⟨RX7, "told", "(II)I"⟩
abbrev cX7_risesOf : ByteArray := prog_9_method_31_code
def yX7_risesOf : MethodName := ⟨RX7, "risesOf", "(II)I"⟩
abbrev cX7_bearsOf : ByteArray := prog_9_method_32_code
def yX7_bearsOf : MethodName := ⟨RX7, "bearsOf", "(II)I"⟩
abbrev cX7_weighsOf : ByteArray := prog_9_method_33_code
def yX7_weighsOf : MethodName := ⟨RX7, "weighsOf", "(I)I"⟩
abbrev cX7_tellsAll : ByteArray := prog_9_method_34_code
def yX7_tellsAll : MethodName := ⟨RX7, "tellsAll", "()V"⟩
abbrev cX7_highOf : ByteArray := prog_9_method_35_code
def yX7_highOf : MethodName := ⟨RX7, "highOf", "()I"⟩
abbrev cX7_firstLoose : ByteArray := prog_9_method_36_code
def yX7_firstLoose : MethodName := ⟨RX7, "firstLoose", "()I"⟩
abbrev cX7_weighAbove : ByteArray := prog_9_method_37_code
def yX7_weighAbove : MethodName := ⟨RX7, "weighAbove", "()I"⟩
abbrev cX7_toldOf : ByteArray := prog_9_method_38_code
def yX7_toldOf : MethodName := ⟨RX7, "toldOf", "(I)I"⟩
abbrev cX7_rowSaved : ByteArray := prog_9_method_39_code
def yX7_rowSaved : MethodName := ⟨RX7, "rowSaved", "()V"⟩
abbrev cX7_ladder : ByteArray := prog_9_method_40_code
def yX7_ladder : MethodName := ⟨RX7, "ladder", "(I)I"⟩
abbrev cX7_stand : ByteArray := prog_9_method_41_code
def yX7_stand : MethodName := ⟨RX7, "stand", "(II)I"⟩
abbrev cX7_doesReach : ByteArray := prog_9_method_42_code
def yX7_doesReach : MethodName := ⟨RX7, "doesReach", "(I)Z"⟩
abbrev cX7_fire : ByteArray := prog_9_method_43_code
def yX7_fire : MethodName := ⟨RX7, "fire", "(II)I"⟩
abbrev cX7_door : ByteArray := prog_9_method_44_code
def yX7_door : MethodName := ⟨RX7, "door", "(I)I"⟩
abbrev cX7_digitsOf : ByteArray := prog_9_method_45_code
def yX7_digitsOf : MethodName := ⟨RX7, "digitsOf", "()I"⟩
abbrev cX7_goesThrough : ByteArray := prog_9_method_46_code
def yX7_goesThrough : MethodName := ⟨RX7, "goesThrough", "(II)V"⟩
abbrev cX7_savedSet : ByteArray := prog_9_method_47_code
def yX7_savedSet : MethodName := ⟨RX7, "savedSet", "()I"⟩
abbrev cX7_highest : ByteArray := prog_9_method_48_code
def yX7_highest : MethodName := ⟨RX7, "highest", "(II)I"⟩
abbrev cX7_fewest : ByteArray := prog_9_method_49_code
def yX7_fewest : MethodName := ⟨RX7, "fewest", "(I)I"⟩
abbrev cX7_missed : ByteArray := prog_9_method_50_code
def yX7_missed : MethodName := ⟨RX7, "missed", "(I)I"⟩
abbrev cX7_next : ByteArray := prog_9_method_51_code
def yX7_next : MethodName := ⟨RX7, "next", "(I)I"⟩
abbrev cX7_rusts : ByteArray := prog_9_method_52_code
def yX7_rusts : MethodName := ⟨RX7, "rusts", "(I)I"⟩
abbrev cX7_lowest : ByteArray := prog_9_method_53_code
def yX7_lowest : MethodName := ⟨RX7, "lowest", "(JJI)J"⟩
abbrev cX7_come : ByteArray := prog_9_method_54_code
def yX7_come : MethodName := ⟨RX7, "come", "(II)J"⟩
abbrev cX7_rowOf : ByteArray := prog_9_method_55_code
def yX7_rowOf : MethodName := ⟨RX7, "rowOf", "(I)V"⟩
abbrev cX7_reach : ByteArray := prog_9_method_56_code
def yX7_reach : MethodName := ⟨RX7, "reach", "(II)J"⟩
abbrev cX7_chain : ByteArray := prog_9_method_57_code
def yX7_chain : MethodName := ⟨RX7, "chain", "(I)I"⟩
abbrev cX7_sheetWrong : ByteArray := prog_9_method_58_code
def yX7_sheetWrong : MethodName := ⟨RX7, "sheetWrong", "(I)I"⟩
abbrev cX7_unlike : ByteArray := prog_9_method_59_code
def yX7_unlike : MethodName := ⟨RX7, "unlike", "(I)I"⟩
abbrev cX7_judge : ByteArray := prog_9_method_60_code
def yX7_judge : MethodName := ⟨RX7, "judge", "(I)I"⟩
abbrev cX7_kinds : ByteArray := prog_9_method_61_code
def yX7_kinds : MethodName := ⟨RX7, "kinds", "(III)I"⟩
abbrev cX7_heights : ByteArray := prog_9_method_62_code
def yX7_heights : MethodName := ⟨RX7, "heights", "(III)I"⟩
abbrev cX7_years : ByteArray := prog_9_method_63_code
def yX7_years : MethodName := ⟨RX7, "years", "(II)I"⟩
abbrev cX7_whose : ByteArray := prog_9_method_64_code
def yX7_whose : MethodName := ⟨RX7, "whose", "(II)I"⟩
abbrev cX7_laws : ByteArray := prog_9_method_65_code
def yX7_laws : MethodName := ⟨RX7, "laws", "(I)I"⟩
abbrev cX7_film : ByteArray := prog_9_method_66_code
def yX7_film : MethodName := ⟨RX7, "film", "(I)I"⟩
abbrev cX7_tellsComes : ByteArray := prog_9_method_67_code
def yX7_tellsComes : MethodName := ⟨RX7, "tellsComes", "()V"⟩
abbrev cX7_firesBy : ByteArray := prog_9_method_68_code
def yX7_firesBy : MethodName := ⟨RX7, "firesBy", "(I)V"⟩
abbrev cX7_drawn : ByteArray := prog_9_method_69_code
def yX7_drawn : MethodName := ⟨RX7, "drawn", "(II)I"⟩
abbrev cX7_odds : ByteArray := prog_9_method_70_code
def yX7_odds : MethodName := ⟨RX7, "odds", "(IIII)J"⟩
abbrev cX7_image : ByteArray := prog_9_method_71_code
def yX7_image : MethodName := ⟨RX7, "image", "()I"⟩
abbrev cX7_back : ByteArray := prog_9_method_72_code
def yX7_back : MethodName := ⟨RX7, "back", "()I"⟩
abbrev cX7_sheet : ByteArray := prog_9_method_73_code
def yX7_sheet : MethodName := ⟨RX7, "sheet", "(III)I"⟩
abbrev cX7_cell : ByteArray := prog_9_method_74_code
def yX7_cell : MethodName := ⟨RX7, "cell", "(III)I"⟩
abbrev cX7_copy : ByteArray := prog_9_method_75_code
def yX7_copy : MethodName := ⟨RX7, "copy", "(IIIII)I"⟩
abbrev cX7_peopleBy : ByteArray := prog_9_method_76_code
def yX7_peopleBy : MethodName := ⟨RX7, "peopleBy", "(IIII)I"⟩
abbrev cX7_isUnder : ByteArray := prog_9_method_77_code
def yX7_isUnder : MethodName := ⟨RX7, "isUnder", "(II)Z"⟩
abbrev cX7_taken : ByteArray := prog_9_method_78_code
def yX7_taken : MethodName := ⟨RX7, "taken", "(II)I"⟩
def RJ6 : String := "java/lang/Integer"
def TJ6 : u_T := fun k => match k with
  | _ => ("", "", "", false)
def tyJ6 : Nat → FieldType := fun k => match k with
  | _ => .int
theorem nmJ6 : ∀ a, a < 0 → ∀ b, b < 0 → a ≠ b → (TJ6 a).2.1 ≠ (TJ6 b).2.1 := by decide +kernel
theorem tyJ6_ok : ∀ k, k < 0 → parseFieldDescriptor (TJ6 k).2.2.1 = some (tyJ6 k) := by decide +kernel
abbrev cJ6_bitCount_0f7a4 : ByteArray := prog_10_method_49_code
def yJ6_bitCount_0f7a4 : MethodName := ⟨RJ6, "bitCount", "(I)I"⟩
def RJ9 : String := "java/lang/Math"
def TJ9 : u_T := fun k => match k with
  | _ => ("", "", "", false)
def tyJ9 : Nat → FieldType := fun k => match k with
  | _ => .int
theorem nmJ9 : ∀ a, a < 0 → ∀ b, b < 0 → a ≠ b → (TJ9 a).2.1 ≠ (TJ9 b).2.1 := by decide +kernel
theorem tyJ9_ok : ∀ k, k < 0 → parseFieldDescriptor (TJ9 k).2.2.1 = some (tyJ9 k) := by decide +kernel
abbrev cJ9_max_7cf53 : ByteArray := prog_11_method_65_code
def yJ9_max_7cf53 : MethodName := ⟨RJ9, "max", "(II)I"⟩
abbrev cJ9_min_7cf53 : ByteArray := prog_11_method_69_code
def yJ9_min_7cf53 : MethodName := ⟨RJ9, "min", "(II)I"⟩
def RJ0 : String := "java/lang/String"
def TJ0 : u_T := fun k => match k with
  | _ => ("", "", "", false)
def tyJ0 : Nat → FieldType := fun k => match k with
  | _ => .int
theorem nmJ0 : ∀ a, a < 0 → ∀ b, b < 0 → a ≠ b → (TJ0 a).2.1 ≠ (TJ0 b).2.1 := by decide +kernel
theorem tyJ0_ok : ∀ k, k < 0 → parseFieldDescriptor (TJ0 k).2.2.1 = some (tyJ0 k) := by decide +kernel
abbrev cJ0_length_8abf5 : ByteArray := prog_12_method_54_code
def yJ0_length_8abf5 : MethodName := ⟨RJ0, "length", "()I"⟩
abbrev cJ0_charAt_5068e : ByteArray := prog_12_method_56_code
def yJ0_charAt_5068e : MethodName := ⟨RJ0, "charAt", "(I)C"⟩
abbrev cJ0_coder_7d493 : ByteArray := prog_12_method_152_code
def yJ0_coder_7d493 : MethodName := ⟨RJ0, "coder", "()B"⟩
abbrev cJ0_isLatin1_aae02 : ByteArray := prog_12_method_154_code
def yJ0_isLatin1_aae02 : MethodName := ⟨RJ0, "isLatin1", "()Z"⟩
abbrev cJ0_checkIndex_df160 : ByteArray := prog_12_method_155_code
def yJ0_checkIndex_df160 : MethodName := ⟨RJ0, "checkIndex", "(II)V"⟩
def RJ1 : String := "java/lang/StringLatin1"
def TJ1 : u_T := fun k => match k with
  | _ => ("", "", "", false)
def tyJ1 : Nat → FieldType := fun k => match k with
  | _ => .int
abbrev wsJ10 : List Cond := u_ws RJ1 TJ1 0
theorem nmJ1 : ∀ a, a < 0 → ∀ b, b < 0 → a ≠ b → (TJ1 a).2.1 ≠ (TJ1 b).2.1 := by decide +kernel
theorem tyJ1_ok : ∀ k, k < 0 → parseFieldDescriptor (TJ1 k).2.2.1 = some (tyJ1 k) := by decide +kernel
abbrev cJ1_charAt_3b067 : ByteArray := prog_13_method_2_code
def yJ1_charAt_3b067 : MethodName := ⟨RJ1, "charAt", "([BI)C"⟩
def RJ2 : String := "java/lang/StringUTF16"
def TJ2 : u_T := fun k => match k with
  | _ => ("", "", "", false)
def tyJ2 : Nat → FieldType := fun k => match k with
  | _ => .int
theorem nmJ2 : ∀ a, a < 0 → ∀ b, b < 0 → a ≠ b → (TJ2 a).2.1 ≠ (TJ2 b).2.1 := by decide +kernel
theorem tyJ2_ok : ∀ k, k < 0 → parseFieldDescriptor (TJ2 k).2.2.1 = some (tyJ2 k) := by decide +kernel
abbrev cJ2_getChar_3b067 : ByteArray := prog_14_method_5_code
def yJ2_getChar_3b067 : MethodName := ⟨RJ2, "getChar", "([BI)C"⟩
abbrev cJ2_length_9d52b : ByteArray := prog_14_method_6_code
def yJ2_length_9d52b : MethodName := ⟨RJ2, "length", "([B)I"⟩
abbrev cJ2_charAt_3b067 : ByteArray := prog_14_method_83_code
def yJ2_charAt_3b067 : MethodName := ⟨RJ2, "charAt", "([BI)C"⟩
abbrev cJ2_checkIndex_2214a : ByteArray := prog_14_method_91_code
def yJ2_checkIndex_2214a : MethodName := ⟨RJ2, "checkIndex", "(I[B)V"⟩
def RJ10 : String := "java/lang/System"
def TJ10 : u_T := fun k => match k with
  | _ => ("", "", "", false)
def tyJ10 : Nat → FieldType := fun k => match k with
  | _ => .int
theorem nmJ10 : ∀ a, a < 0 → ∀ b, b < 0 → a ≠ b → (TJ10 a).2.1 ≠ (TJ10 b).2.1 := by decide +kernel
theorem tyJ10_ok : ∀ k, k < 0 → parseFieldDescriptor (TJ10 k).2.2.1 = some (tyJ10 k) := by decide +kernel
def RJ7 : String := "java/util/Arrays"
def TJ7 : u_T := fun k => match k with
  | _ => ("", "", "", false)
def tyJ7 : Nat → FieldType := fun k => match k with
  | _ => .int
theorem nmJ7 : ∀ a, a < 0 → ∀ b, b < 0 → a ≠ b → (TJ7 a).2.1 ≠ (TJ7 b).2.1 := by decide +kernel
theorem tyJ7_ok : ∀ k, k < 0 → parseFieldDescriptor (TJ7 k).2.2.1 = some (tyJ7 k) := by decide +kernel
abbrev cJ7_fill_53178 : ByteArray := prog_16_method_103_code
def yJ7_fill_53178 : MethodName := ⟨RJ7, "fill", "([II)V"⟩
def RJ3 : String := "jdk/internal/util/Preconditions"
def TJ3 : u_T := fun k => match k with
  | _ => ("", "", "", false)
def tyJ3 : Nat → FieldType := fun k => match k with
  | _ => .int
theorem nmJ3 : ∀ a, a < 0 → ∀ b, b < 0 → a ≠ b → (TJ3 a).2.1 ≠ (TJ3 b).2.1 := by decide +kernel
theorem tyJ3_ok : ∀ k, k < 0 → parseFieldDescriptor (TJ3 k).2.2.1 = some (tyJ3 k) := by decide +kernel
abbrev cJ3_checkIndex_8e157 : ByteArray := prog_17_method_11_code
def yJ3_checkIndex_8e157 : MethodName := ⟨RJ3, "checkIndex", "(IILjava/util/function/BiFunction;)I"⟩
def RL : String := "LadderOfRescuedLaw"
abbrev cL_law : ByteArray := code
def yL_law : MethodName := ⟨RL, "law", "([I)Z"⟩
abbrev vwCl : List vw_C := [(RX0, TX0, 10), (RX1, TX1, 4), (RX2, TX2, 8), (RX3, TX3, 8), (RX4, TX4, 3), (RX6, TX6, 11), (RX7, TX7, 42)]
def lr_str : List (String × Nat × String) := [("LadderOfRescued", 67, "tall height ; bears strong ; comes 80 - rust * 5 ;"), ("LadderOfRescued$Token", 9, "tall"), ("LadderOfRescued$Token", 11, "bears"), ("LadderOfRescued$Token", 13, "comes"), ("LadderOfRescued$Token", 15, "or"), ("LadderOfRescued$Token", 17, "and"), ("LadderOfRescued$Token", 19, "not"), ("LadderOfRescued$Token", 21, "height"), ("LadderOfRescued$Token", 23, "strong"), ("LadderOfRescued$Token", 25, "rust"), ("LadderOfRescued$Token", 27, "rung"), ("LadderOfRescued$Token", 29, "saved"), ("LadderOfRescued$Token", 31, "more"), ("LadderOfRescued$Token", 33, "")]
def lr_nstr : Nat := 14
def lr_slen : List Nat := [50, 4, 5, 5, 2, 3, 3, 6, 6, 4, 4, 5, 4, 0]
def lr_sbyt : List (List Int32) := [[116, 97, 108, 108, 32, 104, 101, 105, 103, 104, 116, 32, 59, 32, 98, 101, 97, 114, 115, 32, 115, 116, 114, 111, 110, 103, 32, 59, 32, 99, 111, 109, 101, 115, 32, 56, 48, 32, 45, 32, 114, 117, 115, 116, 32, 42, 32, 53, 32, 59], [116, 97, 108, 108], [98, 101, 97, 114, 115], [99, 111, 109, 101, 115], [111, 114], [97, 110, 100], [110, 111, 116], [104, 101, 105, 103, 104, 116], [115, 116, 114, 111, 110, 103], [114, 117, 115, 116], [114, 117, 110, 103], [115, 97, 118, 101, 100], [109, 111, 114, 101], []]
