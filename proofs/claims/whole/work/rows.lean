section
-- ===== PART A: goes FIRST, ahead of the names: the tables' words, and 'selects' of the private methods out of them =====
/-- a private method of a class that the tables say can be made, by its rows of tables_1 -/
def lw_okq (q : MethodName × Nat) : Prop := (q.1.cls ≠ "java/lang/invoke/MethodHandle" ∧ q.1.cls ≠ "java/lang/invoke/VarHandle") ∧ Cond.instantiable q.1.cls q.2 ∈ tables_1 ∧ Cond.privateMethod q.1 ∈ tables_1 ∧ Cond.instanceMethod q.1 ∈ tables_1
theorem lw_p0 : lw_okq (⟨"LadderOfRescued$Reader", "hear", "(I)V"⟩, 8) := ⟨⟨by decide +kernel, by decide +kernel⟩, List.mem_of_getElem? (i := 156) (by decide +kernel), List.mem_of_getElem? (i := 237) (by decide +kernel), List.mem_of_getElem? (i := 238) (by decide +kernel)⟩
theorem lw_p1 : lw_okq (⟨"LadderOfRescued$Reader", "read", "(LLadderOfRescued$Law;)I"⟩, 8) := ⟨⟨by decide +kernel, by decide +kernel⟩, List.mem_of_getElem? (i := 156) (by decide +kernel), List.mem_of_getElem? (i := 241) (by decide +kernel), List.mem_of_getElem? (i := 242) (by decide +kernel)⟩
theorem lw_p2 : lw_okq (⟨"LadderOfRescued$Law", "clear", "()V"⟩, 4) := ⟨⟨by decide +kernel, by decide +kernel⟩, List.mem_of_getElem? (i := 119) (by decide +kernel), List.mem_of_getElem? (i := 245) (by decide +kernel), List.mem_of_getElem? (i := 246) (by decide +kernel)⟩
theorem lw_p3 : lw_okq (⟨"LadderOfRescued$Reader", "advance", "()V"⟩, 8) := ⟨⟨by decide +kernel, by decide +kernel⟩, List.mem_of_getElem? (i := 156) (by decide +kernel), List.mem_of_getElem? (i := 249) (by decide +kernel), List.mem_of_getElem? (i := 250) (by decide +kernel)⟩
theorem lw_p4 : lw_okq (⟨"LadderOfRescued$Reader", "takeNumber", "()V"⟩, 8) := ⟨⟨by decide +kernel, by decide +kernel⟩, List.mem_of_getElem? (i := 156) (by decide +kernel), List.mem_of_getElem? (i := 256) (by decide +kernel), List.mem_of_getElem? (i := 257) (by decide +kernel)⟩
theorem lw_p5 : lw_okq (⟨"LadderOfRescued$Reader", "takeWord", "()V"⟩, 8) := ⟨⟨by decide +kernel, by decide +kernel⟩, List.mem_of_getElem? (i := 156) (by decide +kernel), List.mem_of_getElem? (i := 263) (by decide +kernel), List.mem_of_getElem? (i := 264) (by decide +kernel)⟩
theorem lw_p6 : lw_okq (⟨"LadderOfRescued$Reader", "isWord", "(Ljava/lang/String;)Z"⟩, 8) := ⟨⟨by decide +kernel, by decide +kernel⟩, List.mem_of_getElem? (i := 156) (by decide +kernel), List.mem_of_getElem? (i := 283) (by decide +kernel), List.mem_of_getElem? (i := 284) (by decide +kernel)⟩
theorem lw_p7 : lw_okq (⟨"LadderOfRescued$Reader", "expect", "(I)V"⟩, 8) := ⟨⟨by decide +kernel, by decide +kernel⟩, List.mem_of_getElem? (i := 156) (by decide +kernel), List.mem_of_getElem? (i := 292) (by decide +kernel), List.mem_of_getElem? (i := 293) (by decide +kernel)⟩
theorem lw_p8 : lw_okq (⟨"LadderOfRescued$Reader", "fail", "()V"⟩, 8) := ⟨⟨by decide +kernel, by decide +kernel⟩, List.mem_of_getElem? (i := 156) (by decide +kernel), List.mem_of_getElem? (i := 296) (by decide +kernel), List.mem_of_getElem? (i := 297) (by decide +kernel)⟩
theorem lw_p9 : lw_okq (⟨"LadderOfRescued$Reader", "either", "(I)V"⟩, 8) := ⟨⟨by decide +kernel, by decide +kernel⟩, List.mem_of_getElem? (i := 156) (by decide +kernel), List.mem_of_getElem? (i := 300) (by decide +kernel), List.mem_of_getElem? (i := 301) (by decide +kernel)⟩
theorem lw_p10 : lw_okq (⟨"LadderOfRescued$Reader", "both", "(I)V"⟩, 8) := ⟨⟨by decide +kernel, by decide +kernel⟩, List.mem_of_getElem? (i := 156) (by decide +kernel), List.mem_of_getElem? (i := 304) (by decide +kernel), List.mem_of_getElem? (i := 305) (by decide +kernel)⟩
theorem lw_p11 : lw_okq (⟨"LadderOfRescued$Reader", "perhapsNot", "(I)V"⟩, 8) := ⟨⟨by decide +kernel, by decide +kernel⟩, List.mem_of_getElem? (i := 156) (by decide +kernel), List.mem_of_getElem? (i := 308) (by decide +kernel), List.mem_of_getElem? (i := 309) (by decide +kernel)⟩
theorem lw_p12 : lw_okq (⟨"LadderOfRescued$Reader", "mayOpen", "(I)Z"⟩, 8) := ⟨⟨by decide +kernel, by decide +kernel⟩, List.mem_of_getElem? (i := 156) (by decide +kernel), List.mem_of_getElem? (i := 312) (by decide +kernel), List.mem_of_getElem? (i := 313) (by decide +kernel)⟩
theorem lw_p13 : lw_okq (⟨"LadderOfRescued$Law", "append", "(I)V"⟩, 4) := ⟨⟨by decide +kernel, by decide +kernel⟩, List.mem_of_getElem? (i := 119) (by decide +kernel), List.mem_of_getElem? (i := 316) (by decide +kernel), List.mem_of_getElem? (i := 317) (by decide +kernel)⟩
theorem lw_p14 : lw_okq (⟨"LadderOfRescued$Reader", "sum", "(I)V"⟩, 8) := ⟨⟨by decide +kernel, by decide +kernel⟩, List.mem_of_getElem? (i := 156) (by decide +kernel), List.mem_of_getElem? (i := 320) (by decide +kernel), List.mem_of_getElem? (i := 321) (by decide +kernel)⟩
theorem lw_p15 : lw_okq (⟨"LadderOfRescued$Reader", "term", "(I)V"⟩, 8) := ⟨⟨by decide +kernel, by decide +kernel⟩, List.mem_of_getElem? (i := 156) (by decide +kernel), List.mem_of_getElem? (i := 324) (by decide +kernel), List.mem_of_getElem? (i := 325) (by decide +kernel)⟩
def lw_privs_1 : List (MethodName × Nat) := [(⟨"LadderOfRescued$Reader", "hear", "(I)V"⟩, 8), (⟨"LadderOfRescued$Reader", "read", "(LLadderOfRescued$Law;)I"⟩, 8), (⟨"LadderOfRescued$Law", "clear", "()V"⟩, 4), (⟨"LadderOfRescued$Reader", "advance", "()V"⟩, 8), (⟨"LadderOfRescued$Reader", "takeNumber", "()V"⟩, 8), (⟨"LadderOfRescued$Reader", "takeWord", "()V"⟩, 8), (⟨"LadderOfRescued$Reader", "isWord", "(Ljava/lang/String;)Z"⟩, 8), (⟨"LadderOfRescued$Reader", "expect", "(I)V"⟩, 8), (⟨"LadderOfRescued$Reader", "fail", "()V"⟩, 8), (⟨"LadderOfRescued$Reader", "either", "(I)V"⟩, 8), (⟨"LadderOfRescued$Reader", "both", "(I)V"⟩, 8), (⟨"LadderOfRescued$Reader", "perhapsNot", "(I)V"⟩, 8), (⟨"LadderOfRescued$Reader", "mayOpen", "(I)Z"⟩, 8), (⟨"LadderOfRescued$Law", "append", "(I)V"⟩, 4), (⟨"LadderOfRescued$Reader", "sum", "(I)V"⟩, 8), (⟨"LadderOfRescued$Reader", "term", "(I)V"⟩, 8)]
theorem lw_r1 : ∀ q ∈ lw_privs_1, lw_okq q := List.forall_mem_cons.mpr ⟨lw_p0, List.forall_mem_cons.mpr ⟨lw_p1, List.forall_mem_cons.mpr ⟨lw_p2, List.forall_mem_cons.mpr ⟨lw_p3, List.forall_mem_cons.mpr ⟨lw_p4, List.forall_mem_cons.mpr ⟨lw_p5, List.forall_mem_cons.mpr ⟨lw_p6, List.forall_mem_cons.mpr ⟨lw_p7, List.forall_mem_cons.mpr ⟨lw_p8, List.forall_mem_cons.mpr ⟨lw_p9, List.forall_mem_cons.mpr ⟨lw_p10, List.forall_mem_cons.mpr ⟨lw_p11, List.forall_mem_cons.mpr ⟨lw_p12, List.forall_mem_cons.mpr ⟨lw_p13, List.forall_mem_cons.mpr ⟨lw_p14, List.forall_mem_cons.mpr ⟨lw_p15, fun _ h => absurd h List.not_mem_nil⟩⟩⟩⟩⟩⟩⟩⟩⟩⟩⟩⟩⟩⟩⟩⟩
theorem lw_p16 : lw_okq (⟨"LadderOfRescued$Reader", "one", "(I)V"⟩, 8) := ⟨⟨by decide +kernel, by decide +kernel⟩, List.mem_of_getElem? (i := 156) (by decide +kernel), List.mem_of_getElem? (i := 328) (by decide +kernel), List.mem_of_getElem? (i := 329) (by decide +kernel)⟩
theorem lw_p17 : lw_okq (⟨"LadderOfRescued$Law", "endPart", "(I)V"⟩, 4) := ⟨⟨by decide +kernel, by decide +kernel⟩, List.mem_of_getElem? (i := 119) (by decide +kernel), List.mem_of_getElem? (i := 335) (by decide +kernel), List.mem_of_getElem? (i := 336) (by decide +kernel)⟩
theorem lw_p18 : lw_okq (⟨"LadderOfRescued$Crew", "has", "(I)Z"⟩, 10) := ⟨⟨by decide +kernel, by decide +kernel⟩, List.mem_of_getElem? (i := 26) (by decide +kernel), List.mem_of_getElem? (i := 401) (by decide +kernel), List.mem_of_getElem? (i := 402) (by decide +kernel)⟩
theorem lw_p19 : lw_okq (⟨"LadderOfRescued", "says", "(LLadderOfRescued$Crew;III)I"⟩, 11) := ⟨⟨by decide +kernel, by decide +kernel⟩, List.mem_of_getElem? (i := 18) (by decide +kernel), List.mem_of_getElem? (i := 405) (by decide +kernel), List.mem_of_getElem? (i := 406) (by decide +kernel)⟩
theorem lw_p20 : lw_okq (⟨"LadderOfRescued$Law", "value", "(ILLadderOfRescued$Crew;II)I"⟩, 4) := ⟨⟨by decide +kernel, by decide +kernel⟩, List.mem_of_getElem? (i := 119) (by decide +kernel), List.mem_of_getElem? (i := 409) (by decide +kernel), List.mem_of_getElem? (i := 410) (by decide +kernel)⟩
theorem lw_p21 : lw_okq (⟨"LadderOfRescued", "join", "(II)I"⟩, 11) := ⟨⟨by decide +kernel, by decide +kernel⟩, List.mem_of_getElem? (i := 18) (by decide +kernel), List.mem_of_getElem? (i := 430) (by decide +kernel), List.mem_of_getElem? (i := 431) (by decide +kernel)⟩
theorem lw_p22 : lw_okq (⟨"LadderOfRescued$Crew", "quarrel", "(II)Z"⟩, 10) := ⟨⟨by decide +kernel, by decide +kernel⟩, List.mem_of_getElem? (i := 26) (by decide +kernel), List.mem_of_getElem? (i := 443) (by decide +kernel), List.mem_of_getElem? (i := 444) (by decide +kernel)⟩
theorem lw_p23 : lw_okq (⟨"LadderOfRescued$Crew", "setQuarrel", "(III)V"⟩, 10) := ⟨⟨by decide +kernel, by decide +kernel⟩, List.mem_of_getElem? (i := 26) (by decide +kernel), List.mem_of_getElem? (i := 447) (by decide +kernel), List.mem_of_getElem? (i := 448) (by decide +kernel)⟩
theorem lw_p24 : lw_okq (⟨"LadderOfRescued$Crew", "rungOf", "(I)I"⟩, 10) := ⟨⟨by decide +kernel, by decide +kernel⟩, List.mem_of_getElem? (i := 26) (by decide +kernel), List.mem_of_getElem? (i := 455) (by decide +kernel), List.mem_of_getElem? (i := 456) (by decide +kernel)⟩
theorem lw_p25 : lw_okq (⟨"LadderOfRescued", "measure", "(LLadderOfRescued$Crew;[III)I"⟩, 11) := ⟨⟨by decide +kernel, by decide +kernel⟩, List.mem_of_getElem? (i := 18) (by decide +kernel), List.mem_of_getElem? (i := 463) (by decide +kernel), List.mem_of_getElem? (i := 464) (by decide +kernel)⟩
theorem lw_p26 : lw_okq (⟨"LadderOfRescued", "highOf", "(LLadderOfRescued$Crew;[II)I"⟩, 11) := ⟨⟨by decide +kernel, by decide +kernel⟩, List.mem_of_getElem? (i := 18) (by decide +kernel), List.mem_of_getElem? (i := 467) (by decide +kernel), List.mem_of_getElem? (i := 468) (by decide +kernel)⟩
theorem lw_p27 : lw_okq (⟨"LadderOfRescued", "risesOf", "(LLadderOfRescued$Crew;II)I"⟩, 11) := ⟨⟨by decide +kernel, by decide +kernel⟩, List.mem_of_getElem? (i := 18) (by decide +kernel), List.mem_of_getElem? (i := 471) (by decide +kernel), List.mem_of_getElem? (i := 472) (by decide +kernel)⟩
theorem lw_p28 : lw_okq (⟨"LadderOfRescued", "firstWeak", "(LLadderOfRescued$Crew;[II)I"⟩, 11) := ⟨⟨by decide +kernel, by decide +kernel⟩, List.mem_of_getElem? (i := 18) (by decide +kernel), List.mem_of_getElem? (i := 475) (by decide +kernel), List.mem_of_getElem? (i := 476) (by decide +kernel)⟩
theorem lw_p29 : lw_okq (⟨"LadderOfRescued", "bearsOf", "(LLadderOfRescued$Crew;II)I"⟩, 11) := ⟨⟨by decide +kernel, by decide +kernel⟩, List.mem_of_getElem? (i := 18) (by decide +kernel), List.mem_of_getElem? (i := 479) (by decide +kernel), List.mem_of_getElem? (i := 480) (by decide +kernel)⟩
theorem lw_p30 : lw_okq (⟨"LadderOfRescued", "sheetRefusal", "(I)I"⟩, 11) := ⟨⟨by decide +kernel, by decide +kernel⟩, List.mem_of_getElem? (i := 18) (by decide +kernel), List.mem_of_getElem? (i := 493) (by decide +kernel), List.mem_of_getElem? (i := 494) (by decide +kernel)⟩
theorem lw_p31 : lw_okq (⟨"LadderOfRescued", "takeRow", "(LLadderOfRescued$Sheet;)I"⟩, 11) := ⟨⟨by decide +kernel, by decide +kernel⟩, List.mem_of_getElem? (i := 18) (by decide +kernel), List.mem_of_getElem? (i := 497) (by decide +kernel), List.mem_of_getElem? (i := 498) (by decide +kernel)⟩
def lw_privs_2 : List (MethodName × Nat) := [(⟨"LadderOfRescued$Reader", "one", "(I)V"⟩, 8), (⟨"LadderOfRescued$Law", "endPart", "(I)V"⟩, 4), (⟨"LadderOfRescued$Crew", "has", "(I)Z"⟩, 10), (⟨"LadderOfRescued", "says", "(LLadderOfRescued$Crew;III)I"⟩, 11), (⟨"LadderOfRescued$Law", "value", "(ILLadderOfRescued$Crew;II)I"⟩, 4), (⟨"LadderOfRescued", "join", "(II)I"⟩, 11), (⟨"LadderOfRescued$Crew", "quarrel", "(II)Z"⟩, 10), (⟨"LadderOfRescued$Crew", "setQuarrel", "(III)V"⟩, 10), (⟨"LadderOfRescued$Crew", "rungOf", "(I)I"⟩, 10), (⟨"LadderOfRescued", "measure", "(LLadderOfRescued$Crew;[III)I"⟩, 11), (⟨"LadderOfRescued", "highOf", "(LLadderOfRescued$Crew;[II)I"⟩, 11), (⟨"LadderOfRescued", "risesOf", "(LLadderOfRescued$Crew;II)I"⟩, 11), (⟨"LadderOfRescued", "firstWeak", "(LLadderOfRescued$Crew;[II)I"⟩, 11), (⟨"LadderOfRescued", "bearsOf", "(LLadderOfRescued$Crew;II)I"⟩, 11), (⟨"LadderOfRescued", "sheetRefusal", "(I)I"⟩, 11), (⟨"LadderOfRescued", "takeRow", "(LLadderOfRescued$Sheet;)I"⟩, 11)]
theorem lw_r2 : ∀ q ∈ lw_privs_2, lw_okq q := List.forall_mem_cons.mpr ⟨lw_p16, List.forall_mem_cons.mpr ⟨lw_p17, List.forall_mem_cons.mpr ⟨lw_p18, List.forall_mem_cons.mpr ⟨lw_p19, List.forall_mem_cons.mpr ⟨lw_p20, List.forall_mem_cons.mpr ⟨lw_p21, List.forall_mem_cons.mpr ⟨lw_p22, List.forall_mem_cons.mpr ⟨lw_p23, List.forall_mem_cons.mpr ⟨lw_p24, List.forall_mem_cons.mpr ⟨lw_p25, List.forall_mem_cons.mpr ⟨lw_p26, List.forall_mem_cons.mpr ⟨lw_p27, List.forall_mem_cons.mpr ⟨lw_p28, List.forall_mem_cons.mpr ⟨lw_p29, List.forall_mem_cons.mpr ⟨lw_p30, List.forall_mem_cons.mpr ⟨lw_p31, fun _ h => absurd h List.not_mem_nil⟩⟩⟩⟩⟩⟩⟩⟩⟩⟩⟩⟩⟩⟩⟩⟩
theorem lw_p32 : lw_okq (⟨"LadderOfRescued", "serves", "(LLadderOfRescued$Crew;[III)Z"⟩, 11) := ⟨⟨by decide +kernel, by decide +kernel⟩, List.mem_of_getElem? (i := 18) (by decide +kernel), List.mem_of_getElem? (i := 505) (by decide +kernel), List.mem_of_getElem? (i := 506) (by decide +kernel)⟩
theorem lw_p33 : lw_okq (⟨"LadderOfRescued", "holds", "(LLadderOfRescued$Crew;[II)Z"⟩, 11) := ⟨⟨by decide +kernel, by decide +kernel⟩, List.mem_of_getElem? (i := 18) (by decide +kernel), List.mem_of_getElem? (i := 509) (by decide +kernel), List.mem_of_getElem? (i := 510) (by decide +kernel)⟩
theorem lw_p34 : lw_okq (⟨"LadderOfRescued$Crew", "saveByFire", "(I)V"⟩, 10) := ⟨⟨by decide +kernel, by decide +kernel⟩, List.mem_of_getElem? (i := 26) (by decide +kernel), List.mem_of_getElem? (i := 513) (by decide +kernel), List.mem_of_getElem? (i := 514) (by decide +kernel)⟩
theorem lw_p35 : lw_okq (⟨"LadderOfRescued$Crew", "save", "(I)V"⟩, 10) := ⟨⟨by decide +kernel, by decide +kernel⟩, List.mem_of_getElem? (i := 26) (by decide +kernel), List.mem_of_getElem? (i := 517) (by decide +kernel), List.mem_of_getElem? (i := 518) (by decide +kernel)⟩
theorem lw_p36 : lw_okq (⟨"LadderOfRescued", "measureAll", "()V"⟩, 11) := ⟨⟨by decide +kernel, by decide +kernel⟩, List.mem_of_getElem? (i := 18) (by decide +kernel), List.mem_of_getElem? (i := 530) (by decide +kernel), List.mem_of_getElem? (i := 531) (by decide +kernel)⟩
theorem lw_p37 : lw_okq (⟨"LadderOfRescued$Crew", "savedBits", "()I"⟩, 10) := ⟨⟨by decide +kernel, by decide +kernel⟩, List.mem_of_getElem? (i := 26) (by decide +kernel), List.mem_of_getElem? (i := 534) (by decide +kernel), List.mem_of_getElem? (i := 535) (by decide +kernel)⟩
theorem lw_p38 : lw_okq (⟨"LadderOfRescued$Search", "run", "(II)V"⟩, 8) := ⟨⟨by decide +kernel, by decide +kernel⟩, List.mem_of_getElem? (i := 83) (by decide +kernel), List.mem_of_getElem? (i := 538) (by decide +kernel), List.mem_of_getElem? (i := 539) (by decide +kernel)⟩
theorem lw_p39 : lw_okq (⟨"LadderOfRescued$Search", "climb", "(IIIIII)V"⟩, 8) := ⟨⟨by decide +kernel, by decide +kernel⟩, List.mem_of_getElem? (i := 83) (by decide +kernel), List.mem_of_getElem? (i := 544) (by decide +kernel), List.mem_of_getElem? (i := 545) (by decide +kernel)⟩
theorem lw_p40 : lw_okq (⟨"LadderOfRescued$Crew", "becomeLike", "(LLadderOfRescued$Crew;)V"⟩, 10) := ⟨⟨by decide +kernel, by decide +kernel⟩, List.mem_of_getElem? (i := 26) (by decide +kernel), List.mem_of_getElem? (i := 567) (by decide +kernel), List.mem_of_getElem? (i := 568) (by decide +kernel)⟩
theorem lw_p41 : lw_okq (⟨"LadderOfRescued", "nightRefusal", "(I)I"⟩, 11) := ⟨⟨by decide +kernel, by decide +kernel⟩, List.mem_of_getElem? (i := 18) (by decide +kernel), List.mem_of_getElem? (i := 593) (by decide +kernel), List.mem_of_getElem? (i := 594) (by decide +kernel)⟩
theorem lw_p42 : lw_okq (⟨"LadderOfRescued", "firstOtherwise", "(LLadderOfRescued$Crew;LLadderOfRescued$Sheet;)I"⟩, 11) := ⟨⟨by decide +kernel, by decide +kernel⟩, List.mem_of_getElem? (i := 18) (by decide +kernel), List.mem_of_getElem? (i := 597) (by decide +kernel), List.mem_of_getElem? (i := 598) (by decide +kernel)⟩
theorem lw_p43 : lw_okq (⟨"LadderOfRescued", "countWays", "(LLadderOfRescued$Sheet;)V"⟩, 11) := ⟨⟨by decide +kernel, by decide +kernel⟩, List.mem_of_getElem? (i := 18) (by decide +kernel), List.mem_of_getElem? (i := 617) (by decide +kernel), List.mem_of_getElem? (i := 618) (by decide +kernel)⟩
theorem lw_p44 : lw_okq (⟨"LadderOfRescued", "fits", "(LLadderOfRescued$Sheet;II)Z"⟩, 11) := ⟨⟨by decide +kernel, by decide +kernel⟩, List.mem_of_getElem? (i := 18) (by decide +kernel), List.mem_of_getElem? (i := 627) (by decide +kernel), List.mem_of_getElem? (i := 628) (by decide +kernel)⟩
theorem lw_p45 : lw_okq (⟨"LadderOfRescued", "firstDigits", "(LLadderOfRescued$Sheet;)I"⟩, 11) := ⟨⟨by decide +kernel, by decide +kernel⟩, List.mem_of_getElem? (i := 18) (by decide +kernel), List.mem_of_getElem? (i := 631) (by decide +kernel), List.mem_of_getElem? (i := 632) (by decide +kernel)⟩
theorem lw_p46 : lw_okq (⟨"LadderOfRescued", "firstFitting", "(LLadderOfRescued$Sheet;II)I"⟩, 11) := ⟨⟨by decide +kernel, by decide +kernel⟩, List.mem_of_getElem? (i := 18) (by decide +kernel), List.mem_of_getElem? (i := 635) (by decide +kernel), List.mem_of_getElem? (i := 636) (by decide +kernel)⟩
theorem lw_p47 : lw_okq (⟨"LadderOfRescued$Sheet", "becomeZeros", "(II)V"⟩, 3) := ⟨⟨by decide +kernel, by decide +kernel⟩, List.mem_of_getElem? (i := 137) (by decide +kernel), List.mem_of_getElem? (i := 647) (by decide +kernel), List.mem_of_getElem? (i := 648) (by decide +kernel)⟩
def lw_privs_3 : List (MethodName × Nat) := [(⟨"LadderOfRescued", "serves", "(LLadderOfRescued$Crew;[III)Z"⟩, 11), (⟨"LadderOfRescued", "holds", "(LLadderOfRescued$Crew;[II)Z"⟩, 11), (⟨"LadderOfRescued$Crew", "saveByFire", "(I)V"⟩, 10), (⟨"LadderOfRescued$Crew", "save", "(I)V"⟩, 10), (⟨"LadderOfRescued", "measureAll", "()V"⟩, 11), (⟨"LadderOfRescued$Crew", "savedBits", "()I"⟩, 10), (⟨"LadderOfRescued$Search", "run", "(II)V"⟩, 8), (⟨"LadderOfRescued$Search", "climb", "(IIIIII)V"⟩, 8), (⟨"LadderOfRescued$Crew", "becomeLike", "(LLadderOfRescued$Crew;)V"⟩, 10), (⟨"LadderOfRescued", "nightRefusal", "(I)I"⟩, 11), (⟨"LadderOfRescued", "firstOtherwise", "(LLadderOfRescued$Crew;LLadderOfRescued$Sheet;)I"⟩, 11), (⟨"LadderOfRescued", "countWays", "(LLadderOfRescued$Sheet;)V"⟩, 11), (⟨"LadderOfRescued", "fits", "(LLadderOfRescued$Sheet;II)Z"⟩, 11), (⟨"LadderOfRescued", "firstDigits", "(LLadderOfRescued$Sheet;)I"⟩, 11), (⟨"LadderOfRescued", "firstFitting", "(LLadderOfRescued$Sheet;II)I"⟩, 11), (⟨"LadderOfRescued$Sheet", "becomeZeros", "(II)V"⟩, 3)]
theorem lw_r3 : ∀ q ∈ lw_privs_3, lw_okq q := List.forall_mem_cons.mpr ⟨lw_p32, List.forall_mem_cons.mpr ⟨lw_p33, List.forall_mem_cons.mpr ⟨lw_p34, List.forall_mem_cons.mpr ⟨lw_p35, List.forall_mem_cons.mpr ⟨lw_p36, List.forall_mem_cons.mpr ⟨lw_p37, List.forall_mem_cons.mpr ⟨lw_p38, List.forall_mem_cons.mpr ⟨lw_p39, List.forall_mem_cons.mpr ⟨lw_p40, List.forall_mem_cons.mpr ⟨lw_p41, List.forall_mem_cons.mpr ⟨lw_p42, List.forall_mem_cons.mpr ⟨lw_p43, List.forall_mem_cons.mpr ⟨lw_p44, List.forall_mem_cons.mpr ⟨lw_p45, List.forall_mem_cons.mpr ⟨lw_p46, List.forall_mem_cons.mpr ⟨lw_p47, fun _ h => absurd h List.not_mem_nil⟩⟩⟩⟩⟩⟩⟩⟩⟩⟩⟩⟩⟩⟩⟩⟩
theorem lw_p48 : lw_okq (⟨"LadderOfRescued$Sheet", "write", "(II)V"⟩, 3) := ⟨⟨by decide +kernel, by decide +kernel⟩, List.mem_of_getElem? (i := 137) (by decide +kernel), List.mem_of_getElem? (i := 654) (by decide +kernel), List.mem_of_getElem? (i := 655) (by decide +kernel)⟩
theorem lw_p49 : lw_okq (⟨"LadderOfRescued$Sheet", "has", "(I)Z"⟩, 3) := ⟨⟨by decide +kernel, by decide +kernel⟩, List.mem_of_getElem? (i := 137) (by decide +kernel), List.mem_of_getElem? (i := 658) (by decide +kernel), List.mem_of_getElem? (i := 659) (by decide +kernel)⟩
theorem lw_p50 : lw_okq (⟨"LadderOfRescued", "draw", "(I)I"⟩, 11) := ⟨⟨by decide +kernel, by decide +kernel⟩, List.mem_of_getElem? (i := 18) (by decide +kernel), List.mem_of_getElem? (i := 666) (by decide +kernel), List.mem_of_getElem? (i := 667) (by decide +kernel)⟩
theorem lw_p51 : lw_okq (⟨"LadderOfRescued$Sheet", "hasAll", "(II)Z"⟩, 3) := ⟨⟨by decide +kernel, by decide +kernel⟩, List.mem_of_getElem? (i := 137) (by decide +kernel), List.mem_of_getElem? (i := 697) (by decide +kernel), List.mem_of_getElem? (i := 698) (by decide +kernel)⟩
theorem lw_p52 : lw_okq (⟨"LadderOfRescuedModel", "goesNext", "()V"⟩, 42) := ⟨⟨by decide +kernel, by decide +kernel⟩, List.mem_of_getElem? (i := 715) (by decide +kernel), List.mem_of_getElem? (i := 725) (by decide +kernel), List.mem_of_getElem? (i := 726) (by decide +kernel)⟩
theorem lw_p53 : lw_okq (⟨"LadderOfRescuedModel", "wordFrom", "(II)I"⟩, 42) := ⟨⟨by decide +kernel, by decide +kernel⟩, List.mem_of_getElem? (i := 715) (by decide +kernel), List.mem_of_getElem? (i := 732) (by decide +kernel), List.mem_of_getElem? (i := 733) (by decide +kernel)⟩
theorem lw_p54 : lw_okq (⟨"LadderOfRescuedModel", "eRead", "()Z"⟩, 42) := ⟨⟨by decide +kernel, by decide +kernel⟩, List.mem_of_getElem? (i := 715) (by decide +kernel), List.mem_of_getElem? (i := 736) (by decide +kernel), List.mem_of_getElem? (i := 737) (by decide +kernel)⟩
theorem lw_p55 : lw_okq (⟨"LadderOfRescuedModel", "puts", "(I)V"⟩, 42) := ⟨⟨by decide +kernel, by decide +kernel⟩, List.mem_of_getElem? (i := 715) (by decide +kernel), List.mem_of_getElem? (i := 741) (by decide +kernel), List.mem_of_getElem? (i := 742) (by decide +kernel)⟩
theorem lw_p56 : lw_okq (⟨"LadderOfRescuedModel", "unwinds", "(I)V"⟩, 42) := ⟨⟨by decide +kernel, by decide +kernel⟩, List.mem_of_getElem? (i := 715) (by decide +kernel), List.mem_of_getElem? (i := 745) (by decide +kernel), List.mem_of_getElem? (i := 746) (by decide +kernel)⟩
theorem lw_p57 : lw_okq (⟨"LadderOfRescuedModel", "opensOne", "(I)Z"⟩, 42) := ⟨⟨by decide +kernel, by decide +kernel⟩, List.mem_of_getElem? (i := 715) (by decide +kernel), List.mem_of_getElem? (i := 752) (by decide +kernel), List.mem_of_getElem? (i := 753) (by decide +kernel)⟩
theorem lw_p58 : lw_okq (⟨"LadderOfRescuedModel", "holds", "(I)V"⟩, 42) := ⟨⟨by decide +kernel, by decide +kernel⟩, List.mem_of_getElem? (i := 715) (by decide +kernel), List.mem_of_getElem? (i := 756) (by decide +kernel), List.mem_of_getElem? (i := 757) (by decide +kernel)⟩
theorem lw_p59 : lw_okq (⟨"LadderOfRescuedModel", "signOf", "()I"⟩, 42) := ⟨⟨by decide +kernel, by decide +kernel⟩, List.mem_of_getElem? (i := 715) (by decide +kernel), List.mem_of_getElem? (i := 760) (by decide +kernel), List.mem_of_getElem? (i := 761) (by decide +kernel)⟩
theorem lw_p60 : lw_okq (⟨"LadderOfRescuedModel", "between", "(I)Z"⟩, 42) := ⟨⟨by decide +kernel, by decide +kernel⟩, List.mem_of_getElem? (i := 715) (by decide +kernel), List.mem_of_getElem? (i := 764) (by decide +kernel), List.mem_of_getElem? (i := 765) (by decide +kernel)⟩
theorem lw_p61 : lw_okq (⟨"LadderOfRescuedModel", "isOne", "(I)Z"⟩, 42) := ⟨⟨by decide +kernel, by decide +kernel⟩, List.mem_of_getElem? (i := 715) (by decide +kernel), List.mem_of_getElem? (i := 919) (by decide +kernel), List.mem_of_getElem? (i := 920) (by decide +kernel)⟩
theorem lw_p62 : lw_okq (⟨"LadderOfRescuedModel", "asksOf", "(III)I"⟩, 42) := ⟨⟨by decide +kernel, by decide +kernel⟩, List.mem_of_getElem? (i := 715) (by decide +kernel), List.mem_of_getElem? (i := 923) (by decide +kernel), List.mem_of_getElem? (i := 924) (by decide +kernel)⟩
theorem lw_p63 : lw_okq (⟨"LadderOfRescuedModel", "says", "(I)I"⟩, 42) := ⟨⟨by decide +kernel, by decide +kernel⟩, List.mem_of_getElem? (i := 715) (by decide +kernel), List.mem_of_getElem? (i := 927) (by decide +kernel), List.mem_of_getElem? (i := 928) (by decide +kernel)⟩
def lw_privs_4 : List (MethodName × Nat) := [(⟨"LadderOfRescued$Sheet", "write", "(II)V"⟩, 3), (⟨"LadderOfRescued$Sheet", "has", "(I)Z"⟩, 3), (⟨"LadderOfRescued", "draw", "(I)I"⟩, 11), (⟨"LadderOfRescued$Sheet", "hasAll", "(II)Z"⟩, 3), (⟨"LadderOfRescuedModel", "goesNext", "()V"⟩, 42), (⟨"LadderOfRescuedModel", "wordFrom", "(II)I"⟩, 42), (⟨"LadderOfRescuedModel", "eRead", "()Z"⟩, 42), (⟨"LadderOfRescuedModel", "puts", "(I)V"⟩, 42), (⟨"LadderOfRescuedModel", "unwinds", "(I)V"⟩, 42), (⟨"LadderOfRescuedModel", "opensOne", "(I)Z"⟩, 42), (⟨"LadderOfRescuedModel", "holds", "(I)V"⟩, 42), (⟨"LadderOfRescuedModel", "signOf", "()I"⟩, 42), (⟨"LadderOfRescuedModel", "between", "(I)Z"⟩, 42), (⟨"LadderOfRescuedModel", "isOne", "(I)Z"⟩, 42), (⟨"LadderOfRescuedModel", "asksOf", "(III)I"⟩, 42), (⟨"LadderOfRescuedModel", "says", "(I)I"⟩, 42)]
theorem lw_r4 : ∀ q ∈ lw_privs_4, lw_okq q := List.forall_mem_cons.mpr ⟨lw_p48, List.forall_mem_cons.mpr ⟨lw_p49, List.forall_mem_cons.mpr ⟨lw_p50, List.forall_mem_cons.mpr ⟨lw_p51, List.forall_mem_cons.mpr ⟨lw_p52, List.forall_mem_cons.mpr ⟨lw_p53, List.forall_mem_cons.mpr ⟨lw_p54, List.forall_mem_cons.mpr ⟨lw_p55, List.forall_mem_cons.mpr ⟨lw_p56, List.forall_mem_cons.mpr ⟨lw_p57, List.forall_mem_cons.mpr ⟨lw_p58, List.forall_mem_cons.mpr ⟨lw_p59, List.forall_mem_cons.mpr ⟨lw_p60, List.forall_mem_cons.mpr ⟨lw_p61, List.forall_mem_cons.mpr ⟨lw_p62, List.forall_mem_cons.mpr ⟨lw_p63, fun _ h => absurd h List.not_mem_nil⟩⟩⟩⟩⟩⟩⟩⟩⟩⟩⟩⟩⟩⟩⟩⟩
theorem lw_p64 : lw_okq (⟨"LadderOfRescuedModel", "aheadOf", "(I)I"⟩, 42) := ⟨⟨by decide +kernel, by decide +kernel⟩, List.mem_of_getElem? (i := 715) (by decide +kernel), List.mem_of_getElem? (i := 954) (by decide +kernel), List.mem_of_getElem? (i := 955) (by decide +kernel)⟩
theorem lw_p65 : lw_okq (⟨"LadderOfRescuedModel", "tellsAll", "()V"⟩, 42) := ⟨⟨by decide +kernel, by decide +kernel⟩, List.mem_of_getElem? (i := 715) (by decide +kernel), List.mem_of_getElem? (i := 962) (by decide +kernel), List.mem_of_getElem? (i := 963) (by decide +kernel)⟩
theorem lw_p66 : lw_okq (⟨"LadderOfRescuedModel", "weighsOf", "(I)I"⟩, 42) := ⟨⟨by decide +kernel, by decide +kernel⟩, List.mem_of_getElem? (i := 715) (by decide +kernel), List.mem_of_getElem? (i := 966) (by decide +kernel), List.mem_of_getElem? (i := 967) (by decide +kernel)⟩
theorem lw_p67 : lw_okq (⟨"LadderOfRescuedModel", "risesOf", "(II)I"⟩, 42) := ⟨⟨by decide +kernel, by decide +kernel⟩, List.mem_of_getElem? (i := 715) (by decide +kernel), List.mem_of_getElem? (i := 970) (by decide +kernel), List.mem_of_getElem? (i := 971) (by decide +kernel)⟩
theorem lw_p68 : lw_okq (⟨"LadderOfRescuedModel", "bearsOf", "(II)I"⟩, 42) := ⟨⟨by decide +kernel, by decide +kernel⟩, List.mem_of_getElem? (i := 715) (by decide +kernel), List.mem_of_getElem? (i := 974) (by decide +kernel), List.mem_of_getElem? (i := 975) (by decide +kernel)⟩
theorem lw_p69 : lw_okq (⟨"LadderOfRescuedModel", "rowSaved", "()V"⟩, 42) := ⟨⟨by decide +kernel, by decide +kernel⟩, List.mem_of_getElem? (i := 715) (by decide +kernel), List.mem_of_getElem? (i := 978) (by decide +kernel), List.mem_of_getElem? (i := 979) (by decide +kernel)⟩
theorem lw_p70 : lw_okq (⟨"LadderOfRescuedModel", "toldOf", "(I)I"⟩, 42) := ⟨⟨by decide +kernel, by decide +kernel⟩, List.mem_of_getElem? (i := 715) (by decide +kernel), List.mem_of_getElem? (i := 982) (by decide +kernel), List.mem_of_getElem? (i := 983) (by decide +kernel)⟩
theorem lw_p71 : lw_okq (⟨"LadderOfRescuedModel", "highOf", "()I"⟩, 42) := ⟨⟨by decide +kernel, by decide +kernel⟩, List.mem_of_getElem? (i := 715) (by decide +kernel), List.mem_of_getElem? (i := 986) (by decide +kernel), List.mem_of_getElem? (i := 987) (by decide +kernel)⟩
theorem lw_p72 : lw_okq (⟨"LadderOfRescuedModel", "firstLoose", "()I"⟩, 42) := ⟨⟨by decide +kernel, by decide +kernel⟩, List.mem_of_getElem? (i := 715) (by decide +kernel), List.mem_of_getElem? (i := 990) (by decide +kernel), List.mem_of_getElem? (i := 991) (by decide +kernel)⟩
theorem lw_p73 : lw_okq (⟨"LadderOfRescuedModel", "weighAbove", "()I"⟩, 42) := ⟨⟨by decide +kernel, by decide +kernel⟩, List.mem_of_getElem? (i := 715) (by decide +kernel), List.mem_of_getElem? (i := 994) (by decide +kernel), List.mem_of_getElem? (i := 995) (by decide +kernel)⟩
theorem lw_p74 : lw_okq (⟨"LadderOfRescuedModel", "doesReach", "(I)Z"⟩, 42) := ⟨⟨by decide +kernel, by decide +kernel⟩, List.mem_of_getElem? (i := 715) (by decide +kernel), List.mem_of_getElem? (i := 1006) (by decide +kernel), List.mem_of_getElem? (i := 1007) (by decide +kernel)⟩
theorem lw_p75 : lw_okq (⟨"LadderOfRescuedModel", "savedSet", "()I"⟩, 42) := ⟨⟨by decide +kernel, by decide +kernel⟩, List.mem_of_getElem? (i := 715) (by decide +kernel), List.mem_of_getElem? (i := 1018) (by decide +kernel), List.mem_of_getElem? (i := 1019) (by decide +kernel)⟩
theorem lw_p76 : lw_okq (⟨"LadderOfRescuedModel", "goesThrough", "(II)V"⟩, 42) := ⟨⟨by decide +kernel, by decide +kernel⟩, List.mem_of_getElem? (i := 715) (by decide +kernel), List.mem_of_getElem? (i := 1022) (by decide +kernel), List.mem_of_getElem? (i := 1023) (by decide +kernel)⟩
theorem lw_p77 : lw_okq (⟨"LadderOfRescuedModel", "digitsOf", "()I"⟩, 42) := ⟨⟨by decide +kernel, by decide +kernel⟩, List.mem_of_getElem? (i := 715) (by decide +kernel), List.mem_of_getElem? (i := 1026) (by decide +kernel), List.mem_of_getElem? (i := 1027) (by decide +kernel)⟩
theorem lw_p78 : lw_okq (⟨"LadderOfRescuedModel", "rowOf", "(I)V"⟩, 42) := ⟨⟨by decide +kernel, by decide +kernel⟩, List.mem_of_getElem? (i := 715) (by decide +kernel), List.mem_of_getElem? (i := 1059) (by decide +kernel), List.mem_of_getElem? (i := 1060) (by decide +kernel)⟩
theorem lw_p79 : lw_okq (⟨"LadderOfRescuedModel", "sheetWrong", "(I)I"⟩, 42) := ⟨⟨by decide +kernel, by decide +kernel⟩, List.mem_of_getElem? (i := 715) (by decide +kernel), List.mem_of_getElem? (i := 1071) (by decide +kernel), List.mem_of_getElem? (i := 1072) (by decide +kernel)⟩
def lw_privs_5 : List (MethodName × Nat) := [(⟨"LadderOfRescuedModel", "aheadOf", "(I)I"⟩, 42), (⟨"LadderOfRescuedModel", "tellsAll", "()V"⟩, 42), (⟨"LadderOfRescuedModel", "weighsOf", "(I)I"⟩, 42), (⟨"LadderOfRescuedModel", "risesOf", "(II)I"⟩, 42), (⟨"LadderOfRescuedModel", "bearsOf", "(II)I"⟩, 42), (⟨"LadderOfRescuedModel", "rowSaved", "()V"⟩, 42), (⟨"LadderOfRescuedModel", "toldOf", "(I)I"⟩, 42), (⟨"LadderOfRescuedModel", "highOf", "()I"⟩, 42), (⟨"LadderOfRescuedModel", "firstLoose", "()I"⟩, 42), (⟨"LadderOfRescuedModel", "weighAbove", "()I"⟩, 42), (⟨"LadderOfRescuedModel", "doesReach", "(I)Z"⟩, 42), (⟨"LadderOfRescuedModel", "savedSet", "()I"⟩, 42), (⟨"LadderOfRescuedModel", "goesThrough", "(II)V"⟩, 42), (⟨"LadderOfRescuedModel", "digitsOf", "()I"⟩, 42), (⟨"LadderOfRescuedModel", "rowOf", "(I)V"⟩, 42), (⟨"LadderOfRescuedModel", "sheetWrong", "(I)I"⟩, 42)]
theorem lw_r5 : ∀ q ∈ lw_privs_5, lw_okq q := List.forall_mem_cons.mpr ⟨lw_p64, List.forall_mem_cons.mpr ⟨lw_p65, List.forall_mem_cons.mpr ⟨lw_p66, List.forall_mem_cons.mpr ⟨lw_p67, List.forall_mem_cons.mpr ⟨lw_p68, List.forall_mem_cons.mpr ⟨lw_p69, List.forall_mem_cons.mpr ⟨lw_p70, List.forall_mem_cons.mpr ⟨lw_p71, List.forall_mem_cons.mpr ⟨lw_p72, List.forall_mem_cons.mpr ⟨lw_p73, List.forall_mem_cons.mpr ⟨lw_p74, List.forall_mem_cons.mpr ⟨lw_p75, List.forall_mem_cons.mpr ⟨lw_p76, List.forall_mem_cons.mpr ⟨lw_p77, List.forall_mem_cons.mpr ⟨lw_p78, List.forall_mem_cons.mpr ⟨lw_p79, fun _ h => absurd h List.not_mem_nil⟩⟩⟩⟩⟩⟩⟩⟩⟩⟩⟩⟩⟩⟩⟩⟩
theorem lw_p80 : lw_okq (⟨"LadderOfRescuedModel", "unlike", "(I)I"⟩, 42) := ⟨⟨by decide +kernel, by decide +kernel⟩, List.mem_of_getElem? (i := 715) (by decide +kernel), List.mem_of_getElem? (i := 1075) (by decide +kernel), List.mem_of_getElem? (i := 1076) (by decide +kernel)⟩
theorem lw_p81 : lw_okq (⟨"LadderOfRescuedModel", "tellsComes", "()V"⟩, 42) := ⟨⟨by decide +kernel, by decide +kernel⟩, List.mem_of_getElem? (i := 715) (by decide +kernel), List.mem_of_getElem? (i := 1107) (by decide +kernel), List.mem_of_getElem? (i := 1108) (by decide +kernel)⟩
theorem lw_p82 : lw_okq (⟨"LadderOfRescuedModel", "firesBy", "(I)V"⟩, 42) := ⟨⟨by decide +kernel, by decide +kernel⟩, List.mem_of_getElem? (i := 715) (by decide +kernel), List.mem_of_getElem? (i := 1111) (by decide +kernel), List.mem_of_getElem? (i := 1112) (by decide +kernel)⟩
def lw_privs_6 : List (MethodName × Nat) := [(⟨"LadderOfRescuedModel", "unlike", "(I)I"⟩, 42), (⟨"LadderOfRescuedModel", "tellsComes", "()V"⟩, 42), (⟨"LadderOfRescuedModel", "firesBy", "(I)V"⟩, 42)]
theorem lw_r6 : ∀ q ∈ lw_privs_6, lw_okq q := List.forall_mem_cons.mpr ⟨lw_p80, List.forall_mem_cons.mpr ⟨lw_p81, List.forall_mem_cons.mpr ⟨lw_p82, fun _ h => absurd h List.not_mem_nil⟩⟩⟩
def lw_privs : List (MethodName × Nat) := lw_privs_1 ++ (lw_privs_2 ++ (lw_privs_3 ++ (lw_privs_4 ++ (lw_privs_5 ++ (lw_privs_6)))))
def lw_tbl : List Cond := k2_sels lw_privs ++ tables_1
theorem lw_privs_ok : ∀ q ∈ lw_privs, lw_okq q := by
  show ∀ q ∈ lw_privs_1 ++ (lw_privs_2 ++ (lw_privs_3 ++ (lw_privs_4 ++ (lw_privs_5 ++ (lw_privs_6))))), lw_okq q
  exact List.forall_mem_append.mpr ⟨lw_r1, List.forall_mem_append.mpr ⟨lw_r2, List.forall_mem_append.mpr ⟨lw_r3, List.forall_mem_append.mpr ⟨lw_r4, List.forall_mem_append.mpr ⟨lw_r5, lw_r6⟩⟩⟩⟩⟩

def RX0 : String := "LadderOfRescued$Crew"
def TX0 : u_T := fun k => match k with
  | 0 => ("LadderOfRescued$Crew", "kind", "[I", true)
  | 1 => ("LadderOfRescued$Crew", "more", "[I", true)
  | 2 => ("LadderOfRescued$Crew", "height", "[I", true)
  | 3 => ("LadderOfRescued$Crew", "strong", "[I", true)
  | 4 => ("LadderOfRescued$Crew", "feuds", "[I", true)
  | 5 => ("LadderOfRescued$Crew", "order", "[I", true)
  | 6 => ("LadderOfRescued$Crew", "people", "I", false)
  | 7 => ("LadderOfRescued$Crew", "saved", "I", false)
  | 8 => ("LadderOfRescued$Crew", "rust", "I", false)
  | _ => ("LadderOfRescued$Crew", "law", "I", false)
def tyX0 : Nat → FieldType := fun k => match k with
  | 0 => .array .int
  | 1 => .array .int
  | 2 => .array .int
  | 3 => .array .int
  | 4 => .array .int
  | 5 => .array .int
  | 6 => .int
  | 7 => .int
  | 8 => .int
  | _ => .int
abbrev wsX00 : List Cond := u_ws RX0 TX0 10
theorem nmX0 : ∀ a, a < 10 → ∀ b, b < 10 → a ≠ b → (TX0 a).2.1 ≠ (TX0 b).2.1 := by decide +kernel
theorem tyX0_ok : ∀ k, k < 10 → parseFieldDescriptor (TX0 k).2.2.1 = some (tyX0 k) := by decide +kernel
abbrev cX0_init : ByteArray := prog_2_method_1_code
def yX0_init : MethodName := ⟨RX0, "<init>", "()V"⟩
abbrev cX0_becomeLike : ByteArray := prog_2_method_2_code
def yX0_becomeLike : MethodName := ⟨RX0, "becomeLike", "(LLadderOfRescued$Crew;)V"⟩
abbrev cX0_has : ByteArray := prog_2_method_3_code
def yX0_has : MethodName := ⟨RX0, "has", "(I)Z"⟩
abbrev cX0_quarrel : ByteArray := prog_2_method_4_code
def yX0_quarrel : MethodName := ⟨RX0, "quarrel", "(II)Z"⟩
abbrev cX0_setQuarrel : ByteArray := prog_2_method_5_code
def yX0_setQuarrel : MethodName := ⟨RX0, "setQuarrel", "(III)V"⟩
abbrev cX0_rungOf : ByteArray := prog_2_method_6_code
def yX0_rungOf : MethodName := ⟨RX0, "rungOf", "(I)I"⟩
abbrev cX0_savedBits : ByteArray := prog_2_method_7_code
def yX0_savedBits : MethodName := ⟨RX0, "savedBits", "()I"⟩
abbrev cX0_save : ByteArray := prog_2_method_8_code
def yX0_save : MethodName := ⟨RX0, "save", "(I)V"⟩
abbrev cX0_saveByFire : ByteArray := prog_2_method_9_code
def yX0_saveByFire : MethodName := ⟨RX0, "saveByFire", "(I)V"⟩
def RX1 : String := "LadderOfRescued$Law"
def TX1 : u_T := fun k => match k with
  | 0 => ("LadderOfRescued$Law", "code", "[I", true)
  | 1 => ("LadderOfRescued$Law", "ends", "[I", true)
  | 2 => ("LadderOfRescued$Law", "stack", "[I", true)
  | _ => ("LadderOfRescued$Law", "size", "I", false)
def tyX1 : Nat → FieldType := fun k => match k with
  | 0 => .array .int
  | 1 => .array .int
  | 2 => .array .int
  | _ => .int
abbrev wsX10 : List Cond := u_ws RX1 TX1 4
theorem nmX1 : ∀ a, a < 4 → ∀ b, b < 4 → a ≠ b → (TX1 a).2.1 ≠ (TX1 b).2.1 := by decide +kernel
theorem tyX1_ok : ∀ k, k < 4 → parseFieldDescriptor (TX1 k).2.2.1 = some (tyX1 k) := by decide +kernel
abbrev cX1_init : ByteArray := prog_3_method_1_code
def yX1_init : MethodName := ⟨RX1, "<init>", "()V"⟩
abbrev cX1_clear : ByteArray := prog_3_method_2_code
def yX1_clear : MethodName := ⟨RX1, "clear", "()V"⟩
abbrev cX1_append : ByteArray := prog_3_method_3_code
def yX1_append : MethodName := ⟨RX1, "append", "(I)V"⟩
abbrev cX1_endPart : ByteArray := prog_3_method_4_code
def yX1_endPart : MethodName := ⟨RX1, "endPart", "(I)V"⟩
abbrev cX1_value : ByteArray := prog_3_method_5_code
def yX1_value : MethodName := ⟨RX1, "value", "(ILLadderOfRescued$Crew;II)I"⟩
abbrev cX1_named : ByteArray := prog_3_method_6_code
def yX1_named : MethodName := ⟨RX1, "named", "(ILLadderOfRescued$Crew;II)I"⟩
abbrev cX1_joined : ByteArray := prog_3_method_7_code
def yX1_joined : MethodName := ⟨RX1, "joined", "(III)I"⟩
def RX2 : String := "LadderOfRescued$Reader"
def TX2 : u_T := fun k => match k with
  | 0 => ("LadderOfRescued$Reader", "tape", "[I", true)
  | 1 => ("LadderOfRescued$Reader", "size", "I", false)
  | 2 => ("LadderOfRescued$Reader", "at", "I", false)
  | 3 => ("LadderOfRescued$Reader", "token", "I", false)
  | 4 => ("LadderOfRescued$Reader", "place", "I", false)
  | 5 => ("LadderOfRescued$Reader", "number", "I", false)
  | 6 => ("LadderOfRescued$Reader", "fault", "I", false)
  | _ => ("LadderOfRescued$Reader", "law", "LLadderOfRescued$Law;", false)
def tyX2 : Nat → FieldType := fun k => match k with
  | 0 => .array .int
  | 1 => .int
  | 2 => .int
  | 3 => .int
  | 4 => .int
  | 5 => .int
  | 6 => .int
  | _ => .object "LadderOfRescued$Law"
abbrev wsX20 : List Cond := u_ws RX2 TX2 8
theorem nmX2 : ∀ a, a < 8 → ∀ b, b < 8 → a ≠ b → (TX2 a).2.1 ≠ (TX2 b).2.1 := by decide +kernel
theorem tyX2_ok : ∀ k, k < 8 → parseFieldDescriptor (TX2 k).2.2.1 = some (tyX2 k) := by decide +kernel
abbrev cX2_init : ByteArray := prog_4_method_1_code
def yX2_init : MethodName := ⟨RX2, "<init>", "(LLadderOfRescued$Law;)V"⟩
abbrev cX2_hear : ByteArray := prog_4_method_2_code
def yX2_hear : MethodName := ⟨RX2, "hear", "(I)V"⟩
abbrev cX2_read : ByteArray := prog_4_method_3_code
def yX2_read : MethodName := ⟨RX2, "read", "(LLadderOfRescued$Law;)I"⟩
abbrev cX2_either : ByteArray := prog_4_method_4_code
def yX2_either : MethodName := ⟨RX2, "either", "(I)V"⟩
abbrev cX2_both : ByteArray := prog_4_method_5_code
def yX2_both : MethodName := ⟨RX2, "both", "(I)V"⟩
abbrev cX2_perhapsNot : ByteArray := prog_4_method_6_code
def yX2_perhapsNot : MethodName := ⟨RX2, "perhapsNot", "(I)V"⟩
abbrev cX2_sum : ByteArray := prog_4_method_7_code
def yX2_sum : MethodName := ⟨RX2, "sum", "(I)V"⟩
abbrev cX2_term : ByteArray := prog_4_method_8_code
def yX2_term : MethodName := ⟨RX2, "term", "(I)V"⟩
abbrev cX2_one : ByteArray := prog_4_method_9_code
def yX2_one : MethodName := ⟨RX2, "one", "(I)V"⟩
abbrev cX2_mayOpen : ByteArray := prog_4_method_10_code
def yX2_mayOpen : MethodName := ⟨RX2, "mayOpen", "(I)Z"⟩
abbrev cX2_expect : ByteArray := prog_4_method_11_code
def yX2_expect : MethodName := ⟨RX2, "expect", "(I)V"⟩
abbrev cX2_fail : ByteArray := prog_4_method_12_code
def yX2_fail : MethodName := ⟨RX2, "fail", "()V"⟩
abbrev cX2_advance : ByteArray := prog_4_method_13_code
def yX2_advance : MethodName := ⟨RX2, "advance", "()V"⟩
abbrev cX2_takeNumber : ByteArray := prog_4_method_14_code
def yX2_takeNumber : MethodName := ⟨RX2, "takeNumber", "()V"⟩
abbrev cX2_takeWord : ByteArray := prog_4_method_15_code
def yX2_takeWord : MethodName := ⟨RX2, "takeWord", "()V"⟩
abbrev cX2_isWord : ByteArray := prog_4_method_16_code
def yX2_isWord : MethodName := ⟨RX2, "isWord", "(Ljava/lang/String;)Z"⟩
abbrev cX2_isDigit : ByteArray := prog_4_method_17_code
def yX2_isDigit : MethodName := ⟨RX2, "isDigit", "(I)Z"⟩
abbrev cX2_isLetter : ByteArray := prog_4_method_18_code
def yX2_isLetter : MethodName := ⟨RX2, "isLetter", "(I)Z"⟩
def RX3 : String := "LadderOfRescued$Search"
def TX3 : u_T := fun k => match k with
  | 0 => ("LadderOfRescued$Search", "rises", "[I", true)
  | 1 => ("LadderOfRescued$Search", "bears", "[I", true)
  | 2 => ("LadderOfRescued$Search", "weighs", "[I", true)
  | 3 => ("LadderOfRescued$Search", "feuds", "[I", true)
  | 4 => ("LadderOfRescued$Search", "allowed", "I", false)
  | 5 => ("LadderOfRescued$Search", "limit", "I", false)
  | 6 => ("LadderOfRescued$Search", "bestHigh", "I", false)
  | _ => ("LadderOfRescued$Search", "bestDigits", "I", false)
def tyX3 : Nat → FieldType := fun k => match k with
  | 0 => .array .int
  | 1 => .array .int
  | 2 => .array .int
  | 3 => .array .int
  | 4 => .int
  | 5 => .int
  | 6 => .int
  | _ => .int
abbrev wsX30 : List Cond := u_ws RX3 TX3 8
theorem nmX3 : ∀ a, a < 8 → ∀ b, b < 8 → a ≠ b → (TX3 a).2.1 ≠ (TX3 b).2.1 := by decide +kernel
theorem tyX3_ok : ∀ k, k < 8 → parseFieldDescriptor (TX3 k).2.2.1 = some (tyX3 k) := by decide +kernel
abbrev cX3_init : ByteArray := prog_5_method_1_code
def yX3_init : MethodName := ⟨RX3, "<init>", "()V"⟩
abbrev cX3_run : ByteArray := prog_5_method_2_code
def yX3_run : MethodName := ⟨RX3, "run", "(II)V"⟩
abbrev cX3_climb : ByteArray := prog_5_method_3_code
def yX3_climb : MethodName := ⟨RX3, "climb", "(IIIIII)V"⟩
def RX4 : String := "LadderOfRescued$Sheet"
def TX4 : u_T := fun k => match k with
  | 0 => ("LadderOfRescued$Sheet", "numbers", "[I", true)
  | 1 => ("LadderOfRescued$Sheet", "sort", "I", false)
  | _ => ("LadderOfRescued$Sheet", "size", "I", false)
def tyX4 : Nat → FieldType := fun k => match k with
  | 0 => .array .int
  | 1 => .int
  | _ => .int
abbrev wsX40 : List Cond := u_ws RX4 TX4 3
theorem nmX4 : ∀ a, a < 3 → ∀ b, b < 3 → a ≠ b → (TX4 a).2.1 ≠ (TX4 b).2.1 := by decide +kernel
theorem tyX4_ok : ∀ k, k < 3 → parseFieldDescriptor (TX4 k).2.2.1 = some (tyX4 k) := by decide +kernel
abbrev cX4_init : ByteArray := prog_6_method_1_code
def yX4_init : MethodName := ⟨RX4, "<init>", "()V"⟩
abbrev cX4_becomeZeros : ByteArray := prog_6_method_2_code
def yX4_becomeZeros : MethodName := ⟨RX4, "becomeZeros", "(II)V"⟩
abbrev cX4_has : ByteArray := prog_6_method_3_code
def yX4_has : MethodName := ⟨RX4, "has", "(I)Z"⟩
abbrev cX4_hasAll : ByteArray := prog_6_method_4_code
def yX4_hasAll : MethodName := ⟨RX4, "hasAll", "(II)Z"⟩
abbrev cX4_write : ByteArray := prog_6_method_5_code
def yX4_write : MethodName := ⟨RX4, "write", "(II)V"⟩
def RX5 : String := "LadderOfRescued$Token"
def TX5 : u_T := fun k => match k with
  | _ => ("", "", "", false)
def tyX5 : Nat → FieldType := fun k => match k with
  | _ => .int
abbrev wsX50 : List Cond := u_ws RX5 TX5 0
theorem nmX5 : ∀ a, a < 0 → ∀ b, b < 0 → a ≠ b → (TX5 a).2.1 ≠ (TX5 b).2.1 := by decide +kernel
theorem tyX5_ok : ∀ k, k < 0 → parseFieldDescriptor (TX5 k).2.2.1 = some (tyX5 k) := by decide +kernel
abbrev cX5_wordOf : ByteArray := prog_7_method_2_code
def yX5_wordOf : MethodName := ⟨RX5, "wordOf", "(I)Ljava/lang/String;"⟩
abbrev cX5_isSign : ByteArray := prog_7_method_3_code
def yX5_isSign : MethodName := ⟨RX5, "isSign", "(I)Z"⟩
abbrev cX5_isName : ByteArray := prog_7_method_4_code
def yX5_isName : MethodName := ⟨RX5, "isName", "(I)Z"⟩
def RX6 : String := "LadderOfRescued"
def TX6 : u_T := fun k => match k with
  | 0 => ("LadderOfRescued", "now", "LLadderOfRescued$Crew;", true)
  | 1 => ("LadderOfRescued", "kept", "LLadderOfRescued$Crew;", true)
  | 2 => ("LadderOfRescued", "trial", "LLadderOfRescued$Crew;", true)
  | 3 => ("LadderOfRescued", "hasImage", "Z", false)
  | 4 => ("LadderOfRescued", "reader", "LLadderOfRescued$Reader;", true)
  | 5 => ("LadderOfRescued", "texts", "[LLadderOfRescued$Law;", true)
  | 6 => ("LadderOfRescued", "textCount", "I", false)
  | 7 => ("LadderOfRescued", "sheets", "[LLadderOfRescued$Sheet;", true)
  | 8 => ("LadderOfRescued", "search", "LLadderOfRescued$Search;", true)
  | 9 => ("LadderOfRescued", "row", "[I", true)
  | _ => ("LadderOfRescued", "ways", "[I", true)
def tyX6 : Nat → FieldType := fun k => match k with
  | 0 => .object "LadderOfRescued$Crew"
  | 1 => .object "LadderOfRescued$Crew"
  | 2 => .object "LadderOfRescued$Crew"
  | 3 => .boolean
  | 4 => .object "LadderOfRescued$Reader"
  | 5 => .array (.object "LadderOfRescued$Law")
  | 6 => .int
  | 7 => .array (.object "LadderOfRescued$Sheet")
  | 8 => .object "LadderOfRescued$Search"
  | 9 => .array .int
  | _ => .array .int
abbrev wsX60 : List Cond := u_ws RX6 TX6 11
theorem nmX6 : ∀ a, a < 11 → ∀ b, b < 11 → a ≠ b → (TX6 a).2.1 ≠ (TX6 b).2.1 := by decide +kernel
theorem tyX6_ok : ∀ k, k < 11 → parseFieldDescriptor (TX6 k).2.2.1 = some (tyX6 k) := by decide +kernel
abbrev cX6_init : ByteArray := prog_1_method_1_code
def yX6_init : MethodName := ⟨RX6, "<init>", "()V"⟩
abbrev cX6_count : ByteArray := prog_1_method_2_code
def yX6_count : MethodName := ⟨RX6, "count", "(I)I"⟩
abbrev cX6_winters : ByteArray := prog_1_method_3_code
def yX6_winters : MethodName := ⟨RX6, "winters", "(I)I"⟩
abbrev cX6_feed : ByteArray := prog_1_method_4_code
def yX6_feed : MethodName := ⟨RX6, "feed", "(IIIIII)I"⟩
abbrev cX6_text : ByteArray := prog_1_method_5_code
def yX6_text : MethodName := ⟨RX6, "text", "()I"⟩
abbrev cX6_force : ByteArray := prog_1_method_6_code
def yX6_force : MethodName := ⟨RX6, "force", "(I)I"⟩
abbrev cX6_asks : ByteArray := prog_1_method_7_code
def yX6_asks : MethodName := ⟨RX6, "asks", "(III)I"⟩
abbrev cX6_person : ByteArray := prog_1_method_8_code
def yX6_person : MethodName := ⟨RX6, "person", "(II)I"⟩
abbrev cX6_put : ByteArray := prog_1_method_9_code
def yX6_put : MethodName := ⟨RX6, "put", "(III)I"⟩
abbrev cX6_feud : ByteArray := prog_1_method_10_code
def yX6_feud : MethodName := ⟨RX6, "feud", "(III)I"⟩
abbrev cX6_told : ByteArray := prog_1_method_11_code
def yX6_told : MethodName := ⟨RX6, "told", "(II)I"⟩
abbrev cX6_ladder : ByteArray := prog_1_method_12_code
def yX6_ladder : MethodName := ⟨RX6, "ladder", "(I)I"⟩
abbrev cX6_stand : ByteArray := prog_1_method_13_code
def yX6_stand : MethodName := ⟨RX6, "stand", "(II)I"⟩
abbrev cX6_fire : ByteArray := prog_1_method_14_code
def yX6_fire : MethodName := ⟨RX6, "fire", "(II)I"⟩
abbrev cX6_door : ByteArray := prog_1_method_15_code
def yX6_door : MethodName := ⟨RX6, "door", "(I)I"⟩
abbrev cX6_highest : ByteArray := prog_1_method_16_code
def yX6_highest : MethodName := ⟨RX6, "highest", "(II)I"⟩
abbrev cX6_fewest : ByteArray := prog_1_method_17_code
def yX6_fewest : MethodName := ⟨RX6, "fewest", "(I)I"⟩
abbrev cX6_missed : ByteArray := prog_1_method_18_code
def yX6_missed : MethodName := ⟨RX6, "missed", "(I)I"⟩
abbrev cX6_next : ByteArray := prog_1_method_19_code
def yX6_next : MethodName := ⟨RX6, "next", "(I)I"⟩
abbrev cX6_rusts : ByteArray := prog_1_method_20_code
def yX6_rusts : MethodName := ⟨RX6, "rusts", "(I)I"⟩
abbrev cX6_come : ByteArray := prog_1_method_21_code
def yX6_come : MethodName := ⟨RX6, "come", "(II)J"⟩
abbrev cX6_reach : ByteArray := prog_1_method_22_code
def yX6_reach : MethodName := ⟨RX6, "reach", "(II)J"⟩
abbrev cX6_chain : ByteArray := prog_1_method_23_code
def yX6_chain : MethodName := ⟨RX6, "chain", "(I)I"⟩
abbrev cX6_judge : ByteArray := prog_1_method_24_code
def yX6_judge : MethodName := ⟨RX6, "judge", "(I)I"⟩
abbrev cX6_kinds : ByteArray := prog_1_method_25_code
def yX6_kinds : MethodName := ⟨RX6, "kinds", "(III)I"⟩
abbrev cX6_heights : ByteArray := prog_1_method_26_code
def yX6_heights : MethodName := ⟨RX6, "heights", "(III)I"⟩
abbrev cX6_years : ByteArray := prog_1_method_27_code
def yX6_years : MethodName := ⟨RX6, "years", "(II)I"⟩
abbrev cX6_whose : ByteArray := prog_1_method_28_code
def yX6_whose : MethodName := ⟨RX6, "whose", "(II)I"⟩
abbrev cX6_laws : ByteArray := prog_1_method_29_code
def yX6_laws : MethodName := ⟨RX6, "laws", "(I)I"⟩
abbrev cX6_film : ByteArray := prog_1_method_30_code
def yX6_film : MethodName := ⟨RX6, "film", "(I)I"⟩
abbrev cX6_drawn : ByteArray := prog_1_method_31_code
def yX6_drawn : MethodName := ⟨RX6, "drawn", "(II)I"⟩
abbrev cX6_odds : ByteArray := prog_1_method_32_code
def yX6_odds : MethodName := ⟨RX6, "odds", "(IIII)J"⟩
abbrev cX6_image : ByteArray := prog_1_method_33_code
def yX6_image : MethodName := ⟨RX6, "image", "()I"⟩
abbrev cX6_back : ByteArray := prog_1_method_34_code
def yX6_back : MethodName := ⟨RX6, "back", "()I"⟩
abbrev cX6_sheet : ByteArray := prog_1_method_35_code
def yX6_sheet : MethodName := ⟨RX6, "sheet", "(III)I"⟩
abbrev cX6_cell : ByteArray := prog_1_method_36_code
def yX6_cell : MethodName := ⟨RX6, "cell", "(III)I"⟩
abbrev cX6_copy : ByteArray := prog_1_method_37_code
def yX6_copy : MethodName := ⟨RX6, "copy", "(IIIII)I"⟩
abbrev cX6_peopleBy : ByteArray := prog_1_method_38_code
def yX6_peopleBy : MethodName := ⟨RX6, "peopleBy", "(IIII)I"⟩
abbrev cX6_taken : ByteArray := prog_1_method_39_code
def yX6_taken : MethodName := ⟨RX6, "taken", "(II)I"⟩
abbrev cX6_within : ByteArray := prog_1_method_40_code
def yX6_within : MethodName := ⟨RX6, "within", "(II)Z"⟩
abbrev cX6_sheetRefusal : ByteArray := prog_1_method_41_code
def yX6_sheetRefusal : MethodName := ⟨RX6, "sheetRefusal", "(I)I"⟩
abbrev cX6_nightRefusal : ByteArray := prog_1_method_42_code
def yX6_nightRefusal : MethodName := ⟨RX6, "nightRefusal", "(I)I"⟩
abbrev cX6_join : ByteArray := prog_1_method_43_code
def yX6_join : MethodName := ⟨RX6, "join", "(II)I"⟩
abbrev cX6_kindAbove : ByteArray := prog_1_method_44_code
def yX6_kindAbove : MethodName := ⟨RX6, "kindAbove", "(I)I"⟩
abbrev cX6_isA : ByteArray := prog_1_method_45_code
def yX6_isA : MethodName := ⟨RX6, "isA", "(II)Z"⟩
abbrev cX6_says : ByteArray := prog_1_method_46_code
def yX6_says : MethodName := ⟨RX6, "says", "(LLadderOfRescued$Crew;III)I"⟩
abbrev cX6_risesOf : ByteArray := prog_1_method_47_code
def yX6_risesOf : MethodName := ⟨RX6, "risesOf", "(LLadderOfRescued$Crew;II)I"⟩
abbrev cX6_bearsOf : ByteArray := prog_1_method_48_code
def yX6_bearsOf : MethodName := ⟨RX6, "bearsOf", "(LLadderOfRescued$Crew;II)I"⟩
abbrev cX6_weighsOf : ByteArray := prog_1_method_49_code
def yX6_weighsOf : MethodName := ⟨RX6, "weighsOf", "(LLadderOfRescued$Crew;I)I"⟩
abbrev cX6_highOf : ByteArray := prog_1_method_50_code
def yX6_highOf : MethodName := ⟨RX6, "highOf", "(LLadderOfRescued$Crew;[II)I"⟩
abbrev cX6_firstWeak : ByteArray := prog_1_method_51_code
def yX6_firstWeak : MethodName := ⟨RX6, "firstWeak", "(LLadderOfRescued$Crew;[II)I"⟩
abbrev cX6_weightOnLowest : ByteArray := prog_1_method_52_code
def yX6_weightOnLowest : MethodName := ⟨RX6, "weightOnLowest", "(LLadderOfRescued$Crew;[II)I"⟩
abbrev cX6_measure : ByteArray := prog_1_method_53_code
def yX6_measure : MethodName := ⟨RX6, "measure", "(LLadderOfRescued$Crew;[III)I"⟩
abbrev cX6_holds : ByteArray := prog_1_method_54_code
def yX6_holds : MethodName := ⟨RX6, "holds", "(LLadderOfRescued$Crew;[II)Z"⟩
abbrev cX6_serves : ByteArray := prog_1_method_55_code
def yX6_serves : MethodName := ⟨RX6, "serves", "(LLadderOfRescued$Crew;[III)Z"⟩
abbrev cX6_takeRow : ByteArray := prog_1_method_56_code
def yX6_takeRow : MethodName := ⟨RX6, "takeRow", "(LLadderOfRescued$Sheet;)I"⟩
abbrev cX6_draw : ByteArray := prog_1_method_57_code
def yX6_draw : MethodName := ⟨RX6, "draw", "(I)I"⟩
abbrev cX6_measureAll : ByteArray := prog_1_method_58_code
def yX6_measureAll : MethodName := ⟨RX6, "measureAll", "()V"⟩
abbrev cX6_firstOtherwise : ByteArray := prog_1_method_59_code
def yX6_firstOtherwise : MethodName := ⟨RX6, "firstOtherwise", "(LLadderOfRescued$Crew;LLadderOfRescued$Sheet;)I"⟩
abbrev cX6_fits : ByteArray := prog_1_method_60_code
def yX6_fits : MethodName := ⟨RX6, "fits", "(LLadderOfRescued$Sheet;II)Z"⟩
abbrev cX6_countWays : ByteArray := prog_1_method_61_code
def yX6_countWays : MethodName := ⟨RX6, "countWays", "(LLadderOfRescued$Sheet;)V"⟩
abbrev cX6_firstDigits : ByteArray := prog_1_method_62_code
def yX6_firstDigits : MethodName := ⟨RX6, "firstDigits", "(LLadderOfRescued$Sheet;)I"⟩
abbrev cX6_firstFitting : ByteArray := prog_1_method_63_code
def yX6_firstFitting : MethodName := ⟨RX6, "firstFitting", "(LLadderOfRescued$Sheet;II)I"⟩
abbrev cX6_lowest : ByteArray := prog_1_method_64_code
def yX6_lowest : MethodName := ⟨RX6, "lowest", "(JJI)J"⟩
def RX7 : String := "LadderOfRescuedModel"
def TX7 : u_T := fun k => match k with
  | 0 => ("LadderOfRescuedModel", "people", "I", false)
  | 1 => ("LadderOfRescuedModel", "kind", "[I", true)
  | 2 => ("LadderOfRescuedModel", "moreOf", "[I", true)
  | 3 => ("LadderOfRescuedModel", "rows", "[I", true)
  | 4 => ("LadderOfRescuedModel", "feuds", "[I", true)
  | 5 => ("LadderOfRescuedModel", "saved", "[I", true)
  | 6 => ("LadderOfRescuedModel", "savedMany", "I", false)
  | 7 => ("LadderOfRescuedModel", "rust", "I", false)
  | 8 => ("LadderOfRescuedModel", "tape", "[I", true)
  | 9 => ("LadderOfRescuedModel", "taped", "I", false)
  | 10 => ("LadderOfRescuedModel", "codes", "[I", true)
  | 11 => ("LadderOfRescuedModel", "starts", "[I", true)
  | 12 => ("LadderOfRescuedModel", "texts", "I", false)
  | 13 => ("LadderOfRescuedModel", "rule", "I", false)
  | 14 => ("LadderOfRescuedModel", "hasImage", "Z", false)
  | 15 => ("LadderOfRescuedModel", "imageRows", "[I", true)
  | 16 => ("LadderOfRescuedModel", "imageHeld", "[I", true)
  | 17 => ("LadderOfRescuedModel", "sheetSort", "[I", true)
  | 18 => ("LadderOfRescuedModel", "sheetSize", "[I", true)
  | 19 => ("LadderOfRescuedModel", "cells", "[I", true)
  | 20 => ("LadderOfRescuedModel", "law", "[I", true)
  | 21 => ("LadderOfRescuedModel", "at", "I", false)
  | 22 => ("LadderOfRescuedModel", "begun", "I", false)
  | 23 => ("LadderOfRescuedModel", "token", "I", false)
  | 24 => ("LadderOfRescuedModel", "value", "I", false)
  | 25 => ("LadderOfRescuedModel", "words", "[I", true)
  | 26 => ("LadderOfRescuedModel", "held", "[I", true)
  | 27 => ("LadderOfRescuedModel", "heldMany", "I", false)
  | 28 => ("LadderOfRescuedModel", "opens", "I", false)
  | 29 => ("LadderOfRescuedModel", "out", "I", false)
  | 30 => ("LadderOfRescuedModel", "stack", "[I", true)
  | 31 => ("LadderOfRescuedModel", "named", "[I", true)
  | 32 => ("LadderOfRescuedModel", "riseAt", "[I", true)
  | 33 => ("LadderOfRescuedModel", "bearAt", "[I", true)
  | 34 => ("LadderOfRescuedModel", "weigh", "[I", true)
  | 35 => ("LadderOfRescuedModel", "row", "[I", true)
  | 36 => ("LadderOfRescuedModel", "rungs", "I", false)
  | 37 => ("LadderOfRescuedModel", "bestDigits", "I", false)
  | 38 => ("LadderOfRescuedModel", "bestHigh", "I", false)
  | 39 => ("LadderOfRescuedModel", "highBy", "[I", true)
  | 40 => ("LadderOfRescuedModel", "highTold", "[I", true)
  | _ => ("LadderOfRescuedModel", "comesAt", "[I", true)
def tyX7 : Nat → FieldType := fun k => match k with
  | 0 => .int
  | 1 => .array .int
  | 2 => .array .int
  | 3 => .array .int
  | 4 => .array .int
  | 5 => .array .int
  | 6 => .int
  | 7 => .int
  | 8 => .array .int
  | 9 => .int
  | 10 => .array .int
  | 11 => .array .int
  | 12 => .int
  | 13 => .int
  | 14 => .boolean
  | 15 => .array .int
  | 16 => .array .int
  | 17 => .array .int
  | 18 => .array .int
  | 19 => .array .int
  | 20 => .array .int
  | 21 => .int
  | 22 => .int
  | 23 => .int
  | 24 => .int
  | 25 => .array .int
  | 26 => .array .int
  | 27 => .int
  | 28 => .int
  | 29 => .int
  | 30 => .array .int
  | 31 => .array .int
  | 32 => .array .int
  | 33 => .array .int
  | 34 => .array .int
  | 35 => .array .int
  | 36 => .int
  | 37 => .int
  | 38 => .int
  | 39 => .array .int
  | 40 => .array .int
  | _ => .array .int
abbrev wsX70 : List Cond := u_ws RX7 TX7 42
theorem nmX7 : ∀ a, a < 42 → ∀ b, b < 42 → a ≠ b → (TX7 a).2.1 ≠ (TX7 b).2.1 := by decide +kernel
theorem tyX7_ok : ∀ k, k < 42 → parseFieldDescriptor (TX7 k).2.2.1 = some (tyX7 k) := by decide +kernel
abbrev cX7_init : ByteArray := prog_9_method_1_code
def yX7_init : MethodName := ⟨RX7, "<init>", "()V"⟩
abbrev cX7_in : ByteArray := prog_9_method_3_code
def yX7_in : MethodName := ⟨RX7, "in", "(III)Z"⟩
abbrev cX7_within : ByteArray := prog_9_method_4_code
def yX7_within : MethodName := ⟨RX7, "within", "(III)I"⟩
abbrev cX7_isOne : ByteArray := prog_9_method_5_code
def yX7_isOne : MethodName := ⟨RX7, "isOne", "(I)Z"⟩
abbrev cX7_aheadOf : ByteArray := prog_9_method_6_code
def yX7_aheadOf : MethodName := ⟨RX7, "aheadOf", "(I)I"⟩
abbrev cX7_count : ByteArray := prog_9_method_7_code
def yX7_count : MethodName := ⟨RX7, "count", "(I)I"⟩
abbrev cX7_winters : ByteArray := prog_9_method_8_code
def yX7_winters : MethodName := ⟨RX7, "winters", "(I)I"⟩
abbrev cX7_isByte : ByteArray := prog_9_method_9_code
def yX7_isByte : MethodName := ⟨RX7, "isByte", "(I)Z"⟩
abbrev cX7_feed : ByteArray := prog_9_method_10_code
def yX7_feed : MethodName := ⟨RX7, "feed", "(IIIIII)I"⟩
abbrev cX7_wordFrom : ByteArray := prog_9_method_11_code
def yX7_wordFrom : MethodName := ⟨RX7, "wordFrom", "(II)I"⟩
abbrev cX7_goesNext : ByteArray := prog_9_method_12_code
def yX7_goesNext : MethodName := ⟨RX7, "goesNext", "()V"⟩
abbrev cX7_rank : ByteArray := prog_9_method_13_code
def yX7_rank : MethodName := ⟨RX7, "rank", "(I)I"⟩
abbrev cX7_puts : ByteArray := prog_9_method_14_code
def yX7_puts : MethodName := ⟨RX7, "puts", "(I)V"⟩
abbrev cX7_unwinds : ByteArray := prog_9_method_15_code
def yX7_unwinds : MethodName := ⟨RX7, "unwinds", "(I)V"⟩
abbrev cX7_holds : ByteArray := prog_9_method_16_code
def yX7_holds : MethodName := ⟨RX7, "holds", "(I)V"⟩
abbrev cX7_opensOne : ByteArray := prog_9_method_17_code
def yX7_opensOne : MethodName := ⟨RX7, "opensOne", "(I)Z"⟩
abbrev cX7_between : ByteArray := prog_9_method_18_code
def yX7_between : MethodName := ⟨RX7, "between", "(I)Z"⟩
abbrev cX7_signOf : ByteArray := prog_9_method_19_code
def yX7_signOf : MethodName := ⟨RX7, "signOf", "()I"⟩
abbrev cX7_eRead : ByteArray := prog_9_method_20_code
def yX7_eRead : MethodName := ⟨RX7, "eRead", "()Z"⟩
abbrev cX7_text : ByteArray := prog_9_method_21_code
def yX7_text : MethodName := ⟨RX7, "text", "()I"⟩
abbrev cX7_two : ByteArray := prog_9_method_22_code
def yX7_two : MethodName := ⟨RX7, "two", "(III)I"⟩
abbrev cX7_says : ByteArray := prog_9_method_23_code
def yX7_says : MethodName := ⟨RX7, "says", "(I)I"⟩
abbrev cX7_force : ByteArray := prog_9_method_24_code
def yX7_force : MethodName := ⟨RX7, "force", "(I)I"⟩
abbrev cX7_asksOf : ByteArray := prog_9_method_25_code
def yX7_asksOf : MethodName := ⟨RX7, "asksOf", "(III)I"⟩
abbrev cX7_asks : ByteArray := prog_9_method_26_code
def yX7_asks : MethodName := ⟨RX7, "asks", "(III)I"⟩
abbrev cX7_person : ByteArray := prog_9_method_27_code
def yX7_person : MethodName := ⟨RX7, "person", "(II)I"⟩
abbrev cX7_put : ByteArray := prog_9_method_28_code
def yX7_put : MethodName := ⟨RX7, "put", "(III)I"⟩
abbrev cX7_feud : ByteArray := prog_9_method_29_code
def yX7_feud : MethodName := ⟨RX7, "feud", "(III)I"⟩
abbrev cX7_told : ByteArray := prog_9_method_30_code
def yX7_told : MethodName := ⟨RX7, "told", "(II)I"⟩
abbrev cX7_risesOf : ByteArray := prog_9_method_31_code
def yX7_risesOf : MethodName := ⟨RX7, "risesOf", "(II)I"⟩
abbrev cX7_bearsOf : ByteArray := prog_9_method_32_code
def yX7_bearsOf : MethodName := ⟨RX7, "bearsOf", "(II)I"⟩
abbrev cX7_weighsOf : ByteArray := prog_9_method_33_code
def yX7_weighsOf : MethodName := ⟨RX7, "weighsOf", "(I)I"⟩
abbrev cX7_tellsAll : ByteArray := prog_9_method_34_code
def yX7_tellsAll : MethodName := ⟨RX7, "tellsAll", "()V"⟩
abbrev cX7_highOf : ByteArray := prog_9_method_35_code
def yX7_highOf : MethodName := ⟨RX7, "highOf", "()I"⟩
abbrev cX7_firstLoose : ByteArray := prog_9_method_36_code
def yX7_firstLoose : MethodName := ⟨RX7, "firstLoose", "()I"⟩
abbrev cX7_weighAbove : ByteArray := prog_9_method_37_code
def yX7_weighAbove : MethodName := ⟨RX7, "weighAbove", "()I"⟩
abbrev cX7_toldOf : ByteArray := prog_9_method_38_code
def yX7_toldOf : MethodName := ⟨RX7, "toldOf", "(I)I"⟩
abbrev cX7_rowSaved : ByteArray := prog_9_method_39_code
def yX7_rowSaved : MethodName := ⟨RX7, "rowSaved", "()V"⟩
abbrev cX7_ladder : ByteArray := prog_9_method_40_code
def yX7_ladder : MethodName := ⟨RX7, "ladder", "(I)I"⟩
abbrev cX7_stand : ByteArray := prog_9_method_41_code
def yX7_stand : MethodName := ⟨RX7, "stand", "(II)I"⟩
abbrev cX7_doesReach : ByteArray := prog_9_method_42_code
def yX7_doesReach : MethodName := ⟨RX7, "doesReach", "(I)Z"⟩
abbrev cX7_fire : ByteArray := prog_9_method_43_code
def yX7_fire : MethodName := ⟨RX7, "fire", "(II)I"⟩
abbrev cX7_door : ByteArray := prog_9_method_44_code
def yX7_door : MethodName := ⟨RX7, "door", "(I)I"⟩
abbrev cX7_digitsOf : ByteArray := prog_9_method_45_code
def yX7_digitsOf : MethodName := ⟨RX7, "digitsOf", "()I"⟩
abbrev cX7_goesThrough : ByteArray := prog_9_method_46_code
def yX7_goesThrough : MethodName := ⟨RX7, "goesThrough", "(II)V"⟩
abbrev cX7_savedSet : ByteArray := prog_9_method_47_code
def yX7_savedSet : MethodName := ⟨RX7, "savedSet", "()I"⟩
abbrev cX7_highest : ByteArray := prog_9_method_48_code
def yX7_highest : MethodName := ⟨RX7, "highest", "(II)I"⟩
abbrev cX7_fewest : ByteArray := prog_9_method_49_code
def yX7_fewest : MethodName := ⟨RX7, "fewest", "(I)I"⟩
abbrev cX7_missed : ByteArray := prog_9_method_50_code
def yX7_missed : MethodName := ⟨RX7, "missed", "(I)I"⟩
abbrev cX7_next : ByteArray := prog_9_method_51_code
def yX7_next : MethodName := ⟨RX7, "next", "(I)I"⟩
abbrev cX7_rusts : ByteArray := prog_9_method_52_code
def yX7_rusts : MethodName := ⟨RX7, "rusts", "(I)I"⟩
abbrev cX7_lowest : ByteArray := prog_9_method_53_code
def yX7_lowest : MethodName := ⟨RX7, "lowest", "(JJI)J"⟩
abbrev cX7_come : ByteArray := prog_9_method_54_code
def yX7_come : MethodName := ⟨RX7, "come", "(II)J"⟩
abbrev cX7_rowOf : ByteArray := prog_9_method_55_code
def yX7_rowOf : MethodName := ⟨RX7, "rowOf", "(I)V"⟩
abbrev cX7_reach : ByteArray := prog_9_method_56_code
def yX7_reach : MethodName := ⟨RX7, "reach", "(II)J"⟩
abbrev cX7_chain : ByteArray := prog_9_method_57_code
def yX7_chain : MethodName := ⟨RX7, "chain", "(I)I"⟩
abbrev cX7_sheetWrong : ByteArray := prog_9_method_58_code
def yX7_sheetWrong : MethodName := ⟨RX7, "sheetWrong", "(I)I"⟩
abbrev cX7_unlike : ByteArray := prog_9_method_59_code
def yX7_unlike : MethodName := ⟨RX7, "unlike", "(I)I"⟩
abbrev cX7_judge : ByteArray := prog_9_method_60_code
def yX7_judge : MethodName := ⟨RX7, "judge", "(I)I"⟩
abbrev cX7_kinds : ByteArray := prog_9_method_61_code
def yX7_kinds : MethodName := ⟨RX7, "kinds", "(III)I"⟩
abbrev cX7_heights : ByteArray := prog_9_method_62_code
def yX7_heights : MethodName := ⟨RX7, "heights", "(III)I"⟩
abbrev cX7_years : ByteArray := prog_9_method_63_code
def yX7_years : MethodName := ⟨RX7, "years", "(II)I"⟩
abbrev cX7_whose : ByteArray := prog_9_method_64_code
def yX7_whose : MethodName := ⟨RX7, "whose", "(II)I"⟩
abbrev cX7_laws : ByteArray := prog_9_method_65_code
def yX7_laws : MethodName := ⟨RX7, "laws", "(I)I"⟩
abbrev cX7_film : ByteArray := prog_9_method_66_code
def yX7_film : MethodName := ⟨RX7, "film", "(I)I"⟩
abbrev cX7_tellsComes : ByteArray := prog_9_method_67_code
def yX7_tellsComes : MethodName := ⟨RX7, "tellsComes", "()V"⟩
abbrev cX7_firesBy : ByteArray := prog_9_method_68_code
def yX7_firesBy : MethodName := ⟨RX7, "firesBy", "(I)V"⟩
abbrev cX7_drawn : ByteArray := prog_9_method_69_code
def yX7_drawn : MethodName := ⟨RX7, "drawn", "(II)I"⟩
abbrev cX7_odds : ByteArray := prog_9_method_70_code
def yX7_odds : MethodName := ⟨RX7, "odds", "(IIII)J"⟩
abbrev cX7_image : ByteArray := prog_9_method_71_code
def yX7_image : MethodName := ⟨RX7, "image", "()I"⟩
abbrev cX7_back : ByteArray := prog_9_method_72_code
def yX7_back : MethodName := ⟨RX7, "back", "()I"⟩
abbrev cX7_sheet : ByteArray := prog_9_method_73_code
def yX7_sheet : MethodName := ⟨RX7, "sheet", "(III)I"⟩
abbrev cX7_cell : ByteArray := prog_9_method_74_code
def yX7_cell : MethodName := ⟨RX7, "cell", "(III)I"⟩
abbrev cX7_copy : ByteArray := prog_9_method_75_code
def yX7_copy : MethodName := ⟨RX7, "copy", "(IIIII)I"⟩
abbrev cX7_peopleBy : ByteArray := prog_9_method_76_code
def yX7_peopleBy : MethodName := ⟨RX7, "peopleBy", "(IIII)I"⟩
abbrev cX7_isUnder : ByteArray := prog_9_method_77_code
def yX7_isUnder : MethodName := ⟨RX7, "isUnder", "(II)Z"⟩
abbrev cX7_taken : ByteArray := prog_9_method_78_code
def yX7_taken : MethodName := ⟨RX7, "taken", "(II)I"⟩
def RJ6 : String := "java/lang/Integer"
def TJ6 : u_T := fun k => match k with
  | _ => ("", "", "", false)
def tyJ6 : Nat → FieldType := fun k => match k with
  | _ => .int
theorem nmJ6 : ∀ a, a < 0 → ∀ b, b < 0 → a ≠ b → (TJ6 a).2.1 ≠ (TJ6 b).2.1 := by decide +kernel
theorem tyJ6_ok : ∀ k, k < 0 → parseFieldDescriptor (TJ6 k).2.2.1 = some (tyJ6 k) := by decide +kernel
abbrev cJ6_bitCount_0f7a4 : ByteArray := prog_10_method_49_code
def yJ6_bitCount_0f7a4 : MethodName := ⟨RJ6, "bitCount", "(I)I"⟩
def RJ9 : String := "java/lang/Math"
def TJ9 : u_T := fun k => match k with
  | _ => ("", "", "", false)
def tyJ9 : Nat → FieldType := fun k => match k with
  | _ => .int
theorem nmJ9 : ∀ a, a < 0 → ∀ b, b < 0 → a ≠ b → (TJ9 a).2.1 ≠ (TJ9 b).2.1 := by decide +kernel
theorem tyJ9_ok : ∀ k, k < 0 → parseFieldDescriptor (TJ9 k).2.2.1 = some (tyJ9 k) := by decide +kernel
abbrev cJ9_max_7cf53 : ByteArray := prog_11_method_65_code
def yJ9_max_7cf53 : MethodName := ⟨RJ9, "max", "(II)I"⟩
abbrev cJ9_min_7cf53 : ByteArray := prog_11_method_69_code
def yJ9_min_7cf53 : MethodName := ⟨RJ9, "min", "(II)I"⟩
def RJ0 : String := "java/lang/String"
def TJ0 : u_T := fun k => match k with
  | _ => ("", "", "", false)
def tyJ0 : Nat → FieldType := fun k => match k with
  | _ => .int
theorem nmJ0 : ∀ a, a < 0 → ∀ b, b < 0 → a ≠ b → (TJ0 a).2.1 ≠ (TJ0 b).2.1 := by decide +kernel
theorem tyJ0_ok : ∀ k, k < 0 → parseFieldDescriptor (TJ0 k).2.2.1 = some (tyJ0 k) := by decide +kernel
abbrev cJ0_length_8abf5 : ByteArray := prog_12_method_54_code
def yJ0_length_8abf5 : MethodName := ⟨RJ0, "length", "()I"⟩
abbrev cJ0_charAt_5068e : ByteArray := prog_12_method_56_code
def yJ0_charAt_5068e : MethodName := ⟨RJ0, "charAt", "(I)C"⟩
abbrev cJ0_coder_7d493 : ByteArray := prog_12_method_152_code
def yJ0_coder_7d493 : MethodName := ⟨RJ0, "coder", "()B"⟩
abbrev cJ0_isLatin1_aae02 : ByteArray := prog_12_method_154_code
def yJ0_isLatin1_aae02 : MethodName := ⟨RJ0, "isLatin1", "()Z"⟩
abbrev cJ0_checkIndex_df160 : ByteArray := prog_12_method_155_code
def yJ0_checkIndex_df160 : MethodName := ⟨RJ0, "checkIndex", "(II)V"⟩
def RJ1 : String := "java/lang/StringLatin1"
def TJ1 : u_T := fun k => match k with
  | _ => ("", "", "", false)
def tyJ1 : Nat → FieldType := fun k => match k with
  | _ => .int
abbrev wsJ10 : List Cond := u_ws RJ1 TJ1 0
theorem nmJ1 : ∀ a, a < 0 → ∀ b, b < 0 → a ≠ b → (TJ1 a).2.1 ≠ (TJ1 b).2.1 := by decide +kernel
theorem tyJ1_ok : ∀ k, k < 0 → parseFieldDescriptor (TJ1 k).2.2.1 = some (tyJ1 k) := by decide +kernel
abbrev cJ1_charAt_3b067 : ByteArray := prog_13_method_2_code
def yJ1_charAt_3b067 : MethodName := ⟨RJ1, "charAt", "([BI)C"⟩
def RJ2 : String := "java/lang/StringUTF16"
def TJ2 : u_T := fun k => match k with
  | _ => ("", "", "", false)
def tyJ2 : Nat → FieldType := fun k => match k with
  | _ => .int
theorem nmJ2 : ∀ a, a < 0 → ∀ b, b < 0 → a ≠ b → (TJ2 a).2.1 ≠ (TJ2 b).2.1 := by decide +kernel
theorem tyJ2_ok : ∀ k, k < 0 → parseFieldDescriptor (TJ2 k).2.2.1 = some (tyJ2 k) := by decide +kernel
abbrev cJ2_getChar_3b067 : ByteArray := prog_14_method_5_code
def yJ2_getChar_3b067 : MethodName := ⟨RJ2, "getChar", "([BI)C"⟩
abbrev cJ2_length_9d52b : ByteArray := prog_14_method_6_code
def yJ2_length_9d52b : MethodName := ⟨RJ2, "length", "([B)I"⟩
abbrev cJ2_charAt_3b067 : ByteArray := prog_14_method_83_code
def yJ2_charAt_3b067 : MethodName := ⟨RJ2, "charAt", "([BI)C"⟩
abbrev cJ2_checkIndex_2214a : ByteArray := prog_14_method_91_code
def yJ2_checkIndex_2214a : MethodName := ⟨RJ2, "checkIndex", "(I[B)V"⟩
def RJ10 : String := "java/lang/System"
def TJ10 : u_T := fun k => match k with
  | _ => ("", "", "", false)
def tyJ10 : Nat → FieldType := fun k => match k with
  | _ => .int
theorem nmJ10 : ∀ a, a < 0 → ∀ b, b < 0 → a ≠ b → (TJ10 a).2.1 ≠ (TJ10 b).2.1 := by decide +kernel
theorem tyJ10_ok : ∀ k, k < 0 → parseFieldDescriptor (TJ10 k).2.2.1 = some (tyJ10 k) := by decide +kernel
def RJ7 : String := "java/util/Arrays"
def TJ7 : u_T := fun k => match k with
  | _ => ("", "", "", false)
def tyJ7 : Nat → FieldType := fun k => match k with
  | _ => .int
theorem nmJ7 : ∀ a, a < 0 → ∀ b, b < 0 → a ≠ b → (TJ7 a).2.1 ≠ (TJ7 b).2.1 := by decide +kernel
theorem tyJ7_ok : ∀ k, k < 0 → parseFieldDescriptor (TJ7 k).2.2.1 = some (tyJ7 k) := by decide +kernel
abbrev cJ7_fill_53178 : ByteArray := prog_16_method_103_code
def yJ7_fill_53178 : MethodName := ⟨RJ7, "fill", "([II)V"⟩
def RJ3 : String := "jdk/internal/util/Preconditions"
def TJ3 : u_T := fun k => match k with
  | _ => ("", "", "", false)
def tyJ3 : Nat → FieldType := fun k => match k with
  | _ => .int
theorem nmJ3 : ∀ a, a < 0 → ∀ b, b < 0 → a ≠ b → (TJ3 a).2.1 ≠ (TJ3 b).2.1 := by decide +kernel
theorem tyJ3_ok : ∀ k, k < 0 → parseFieldDescriptor (TJ3 k).2.2.1 = some (tyJ3 k) := by decide +kernel
abbrev cJ3_checkIndex_8e157 : ByteArray := prog_17_method_11_code
def yJ3_checkIndex_8e157 : MethodName := ⟨RJ3, "checkIndex", "(IILjava/util/function/BiFunction;)I"⟩
def RL : String := "LadderOfRescuedLaw"
abbrev cL_law : ByteArray := code
def yL_law : MethodName := ⟨RL, "law", "([I)Z"⟩
abbrev vwCl : List vw_C := [(RX0, TX0, 10), (RX1, TX1, 4), (RX2, TX2, 8), (RX3, TX3, 8), (RX4, TX4, 3), (RX6, TX6, 11), (RX7, TX7, 42)]
def lr_str : List (String × Nat × String) := [("LadderOfRescued", 67, "tall height ; bears strong ; comes 80 - rust * 5 ;"), ("LadderOfRescued$Token", 9, "tall"), ("LadderOfRescued$Token", 11, "bears"), ("LadderOfRescued$Token", 13, "comes"), ("LadderOfRescued$Token", 15, "or"), ("LadderOfRescued$Token", 17, "and"), ("LadderOfRescued$Token", 19, "not"), ("LadderOfRescued$Token", 21, "height"), ("LadderOfRescued$Token", 23, "strong"), ("LadderOfRescued$Token", 25, "rust"), ("LadderOfRescued$Token", 27, "rung"), ("LadderOfRescued$Token", 29, "saved"), ("LadderOfRescued$Token", 31, "more"), ("LadderOfRescued$Token", 33, "")]
def lr_nstr : Nat := 14
def lr_slen : List Nat := [50, 4, 5, 5, 2, 3, 3, 6, 6, 4, 4, 5, 4, 0]
def lr_sbyt : List (List Int32) := [[116, 97, 108, 108, 32, 104, 101, 105, 103, 104, 116, 32, 59, 32, 98, 101, 97, 114, 115, 32, 115, 116, 114, 111, 110, 103, 32, 59, 32, 99, 111, 109, 101, 115, 32, 56, 48, 32, 45, 32, 114, 117, 115, 116, 32, 42, 32, 53, 32, 59], [116, 97, 108, 108], [98, 101, 97, 114, 115], [99, 111, 109, 101, 115], [111, 114], [97, 110, 100], [110, 111, 116], [104, 101, 105, 103, 104, 116], [115, 116, 114, 111, 110, 103], [114, 117, 115, 116], [114, 117, 110, 103], [115, 97, 118, 101, 100], [109, 111, 114, 101], []]
end
section
/-! one memory for a whole system: tags, instances, places; the rows of the machine over it -/
abbrev AV := Int32 ⊕ (Int64 ⊕ ((Nat × Nat) ⊕ Option Nat))
abbrev vi (x : Int32) : AV := .inl x
abbrev vl (x : Int64) : AV := .inr (.inl x)
abbrev vo (t i : Nat) : AV := .inr (.inr (.inl (t, i)))
abbrev vr (o : Option Nat) : AV := .inr (.inr (.inr o))
abbrev Wd := Launch × va_G × (Nat → ClassId) × (Nat → Nat → Nat)
abbrev wdG (w : Wd) : va_G := w.2.1
abbrev wdC (w : Wd) : Nat → ClassId := w.2.2.1
abbrev wdA (w : Wd) : Nat → Nat → Nat := w.2.2.2
def emb (w : Wd) : AV → Value
  | .inl x => .int x
  | .inr (.inl x) => .long x
  | .inr (.inr (.inl q)) => .ref (wdA w q.1 q.2)
  | .inr (.inr (.inr o)) => va_rf o
abbrev Mem := Nat → Nat → Nat → Int32
abbrev FK := Nat × Nat × Nat
abbrev Sh := Nat ⊕ ((Nat × Nat × Nat) ⊕ (Nat × List FK))
abbrev Tb := List (Nat × Sh)
abbrev MI := MethodName × ByteArray × Nat × Option FieldType
-- words
def aw_ok : Cond → Bool
  | .fieldLinkNest .. => true
  | .methodLinkNest .. => true
  | x => goodWord x
def AW : List Cond := lw_tbl.filter aw_ok
theorem aw_warm {x : Cond} (h : aw_ok x = true) {s U : State} (hW : s.WarmedH U.vm) (hx : va_Nw x s) : va_Nw x U := by
  cases x <;> first | exact va_Nw.warmF hW hx | exact va_Nw.warmM hW hx | exact word_at hW (good_of_word (w := _) h) hx
theorem aw_args {x : Cond} (h : aw_ok x = true) {s : State} (hx : va_Nw x s) (A : Array Value) : x.before A s = true := by
  cases x <;> first | exact va_Nw.use rfl hx | exact word_at (State.WarmedH.refl s) (good_of_word (w := _) h) hx
theorem aw_mem {x : Cond} (h : x ∈ AW) : aw_ok x = true := (List.mem_filter.mp h).2
theorem aw_in {x : Cond} (h : x ∈ lw_tbl) (h2 : aw_ok x = true) : x ∈ AW := List.mem_filter.mpr ⟨h, h2⟩
-- the cells
def lr_cnt (T : Tb) (t : Nat) : Nat := match T[t]? with
  | some q => q.1
  | none => 0
def lr_sh (T : Tb) (t : Nat) : Sh := match T[t]? with
  | some q => q.2
  | none => .inl 0
def lr_ids (T : Tb) : List (Nat × Nat) := (List.range T.length).flatMap fun t => (List.range (lr_cnt T t)).map fun i => (t, i)
theorem lr_ids_mem {T : Tb} {t i : Nat} : (t, i) ∈ lr_ids T ↔ i < lr_cnt T t := by
  simp only [lr_ids, List.mem_flatMap, List.mem_range, List.mem_map, Prod.mk.injEq]
  constructor
  · rintro ⟨a, _, b, hb, rfl, rfl⟩
    exact hb
  · intro h
    refine ⟨t, ?_, i, h, rfl, rfl⟩
    rcases Nat.lt_or_ge t T.length with q | q
    · exact q
    · simp [lr_cnt, List.getElem?_eq_none q] at h
def lr_fv (w : Wd) (f : Nat → Int32) (i k : Nat) (fk : FK) : Value := match fk.1 with
  | 0 => .int (f k)
  | 1 => .ref (wdA w fk.2.1 i)
  | 2 => .ref (wdA w fk.2.1 fk.2.2)
  | _ => .ref (wdA w fk.2.1 (f k).toNatClampNeg)
def lr_cell (w : Wd) (f : Nat → Int32) (i : Nat) : Sh → va_E
  | .inl n => .inl (wdC w 0, n, .inl f)
  | .inr (.inl q) => .inl (wdC w q.2.2, q.1, .inr (.inr (.inr (.inr (fun k => some (wdA w q.2.1 k))))))
  | .inr (.inr q) => .inr (q.1, q.2.mapIdx (fun k fk => lr_fv w f i k fk))
def lr_cells (T : Tb) (w : Wd) (M : Mem) : va_W := (lr_ids T).map fun q => (wdA w q.1 q.2, lr_cell w (M q.1 q.2) q.2 (lr_sh T q.1))
def lr_R (T : Tb) (w : Wd) : Nat → Prop := fun q => ∃ x ∈ lr_ids T, wdA w x.1 x.2 = q
def lr_P (T : Tb) (S : Nat → Bool) (w : Wd) (M : Mem) (H : Heap) : Prop := ∃ M0 : Mem, (∀ t, S t = false → M0 t = M t) ∧ va_P (wdG w) vwCl (lr_cells T w M0) H ∧ va_D (lr_R T w) (lr_cells T w M0)
def lr_tys (w : Wd) : List (ClassId × FieldType) := [(wdC w 0, .int), (wdC w 1, .object RX1), (wdC w 2, .object RX4)]
def lr_Base (w : Wd) (U : State) : Prop := (∀ x ∈ AW, va_Nw x U) ∧ va_K (wdG w) vwCl (lr_tys w) U ∧ ∀ (k : Nat) (q : String × Nat × String), lr_str[k]? = some q → vk_R q.1 q.2.1 q.2.2 (wdA w 99 k) U
def lr_Str (A : Nat → Prop) (w : Wd) (U : State) (H : Heap) : Prop := vk_S lr_nstr lr_slen lr_sbyt (wdA w 99) (wdA w 98) A U H ∧ va_Z "java/lang/String" "COMPACT_STRINGS" "Z" (.int 1) A U H ∧ ∃ o : Option Nat, va_Z "jdk/internal/util/Preconditions" "SIOOBE_FORMATTER" "Ljava/util/function/BiFunction;" (va_rf o) A U H
def lr_Inv (T : Tb) (S : Nat → Bool) (w : Wd) (M : Mem) (U : State) : Prop := lr_P T S w M U.heap ∧ lr_Base w U ∧ lr_Str (lr_R T w) w U U.heap
def lr_Q (T : Tb) (S : Nat → Bool) (w : Wd) (Q : Option AV → Mem → Prop) : Array Value → State → Outcome → State → Prop := fun _ st o t =>
  (∃ (r : Option AV) (M' : Mem), o = .returned (r.map (emb w)) ∧ Q r M' ∧ lr_P T S w M' t.heap) ∧ va_F (lr_R T w) st t
def lr_rm (d : Nat) : Room := { frames := d, cells := 0, slots := 0, locals := 40 * d }
/-- a method, called with as over the memory M, comes back with Q; frames at most d -/
def lr_Ok (T : Tb) (S : Nat → Bool) (w : Wd) (d : Nat) (j : MI) (as : List AV) (M : Mem) (Q : Option AV → Mem → Prop) : Prop :=
  Met w.1 j.1 [.code j.1 j.2.1 j.2.2.1 j.2.2.2] (lr_rm d) (va_Pc (as.map (emb w)) (lr_Inv T S w M)) (lr_Q T S w Q) 0 0 (lr_R T w)
-- locals
def lr_as (w : Wd) (ls : List (Option AV)) : List (Nat × Value) := ls.zipIdx.filterMap fun q => q.1.map fun v => (q.2, emb w v)
theorem lr_as_mem {w : Wd} {ls : List (Option AV)} {q : Nat × Value} : q ∈ lr_as w ls ↔ ∃ v, ls[q.1]? = some (some v) ∧ q.2 = emb w v := by
  obtain ⟨i, x⟩ := q
  simp only [lr_as, List.mem_filterMap, Option.map_eq_some_iff, Prod.mk.injEq]
  constructor
  · rintro ⟨⟨o, k⟩, hm, v, h1, h2, h3⟩
    have h4 := List.mem_zipIdx_iff_getElem?.mp hm
    dsimp only at h1 h2 h4 ⊢
    subst h2
    exact ⟨v, by rw [h4, h1], h3.symm⟩
  · rintro ⟨v, h1, h2⟩
    exact ⟨(some v, i), List.mem_zipIdx_iff_getElem?.mpr h1, v, rfl, rfl, h2.symm⟩
def lr_L (w : Wd) (n : Nat) (ls : List (Option AV)) (A : Array Slot) : Prop := ls.length = n ∧ lv_has A n (lr_as w ls)
theorem lr_L.at {w : Wd} {n : Nat} {ls : List (Option AV)} {A : Array Slot} (h : lr_L w n ls A) {i : Nat} {v : AV} (hi : ls[i]? = some (some v)) : A[i]? = some (.val (emb w v)) :=
  h.2.2.2 (i, emb w v) (lr_as_mem.mpr ⟨v, hi, rfl⟩)
def lr_kl (ls : List (Option AV)) : Nat → List (Option AV)
  | 0 => ls
  | k + 1 => match ls[k]? with
    | some (some (.inr (.inl _))) => ls.set k none
    | _ => ls
def lr_st (ls : List (Option AV)) (i : Nat) (v : AV) : Option (List (Option AV)) := if i < ls.length then some ((lr_kl ls i).set i (some v)) else none
def lr_st2 (ls : List (Option AV)) (i : Nat) (v : AV) : Option (List (Option AV)) := if i + 1 < ls.length then some (((lr_kl ls i).set i (some v)).set (i + 1) none) else none
theorem lr_kl_len (ls : List (Option AV)) (i : Nat) : (lr_kl ls i).length = ls.length := by
  unfold lr_kl
  split
  · rfl
  · split <;> simp
theorem lr_kl_get {ls : List (Option AV)} {i k : Nat} {v : AV} (h : (lr_kl ls i)[k]? = some (some v)) : ls[k]? = some (some v) ∧ ¬ (k + 1 = i ∧ ∃ x, v = vl x) := by
  unfold lr_kl at h
  split at h
  · exact ⟨h, by omega⟩
  · rename_i k1
    split at h
    · rename_i x hx
      rw [List.getElem?_set] at h
      split at h
      · rename_i e
        split at h <;> cases h
      · rename_i e
        exact ⟨h, fun q => e (by omega)⟩
    · rename_i hx
      refine ⟨h, ?_⟩
      rintro ⟨q, x, rfl⟩
      have e : k = k1 := by omega
      subst e
      exact hx _ h
theorem lr_cat {w : Wd} {v : AV} : (emb w v).category = 2 ↔ ∃ x, v = vl x := by
  rcases v with x | x | x | x
  · simp [emb, Value.category]
  · simp [emb, Value.category]
  · simp [emb, Value.category]
  · cases x <;> simp [emb, va_rf, Value.category]
theorem lr_L.st1 {w : Wd} {n i : Nat} {ls ls' : List (Option AV)} {A : Array Slot} {v : AV} (h : lr_L w n ls A) (hs : lr_st ls i v = some ls') :
    i < n ∧ ∀ A' : Array Slot, lv_has A' n ((i, emb w v) :: (lr_as w ls).filter (fun q => !(q.1 == i) && !(q.1 + 1 == i && q.2.category == 2))) → lr_L w n ls' A' := by
  unfold lr_st at hs
  split at hs
  · rename_i hi
    cases hs
    refine ⟨by rw [← h.1]; exact hi, fun A' hA' => ⟨by rw [List.length_set, lr_kl_len]; exact h.1, hA'.1, hA'.2.1, fun q hq => hA'.2.2 q ?_⟩⟩
    obtain ⟨u, h1, h2⟩ := lr_as_mem.mp hq
    obtain ⟨k, x⟩ := q
    dsimp only at h1 h2
    rw [List.getElem?_set] at h1
    split at h1
    · rename_i e
      split at h1
      · cases h1
        subst e h2
        exact List.mem_cons_self
      · cases h1
    · rename_i e
      obtain ⟨g1, g2⟩ := lr_kl_get h1
      refine List.mem_cons_of_mem _ (List.mem_filter.mpr ⟨lr_as_mem.mpr ⟨u, g1, h2⟩, ?_⟩)
      subst h2
      rw [← lr_cat (w := w)] at g2
      simp
      exact ⟨fun q => e q.symm, (Classical.em (k + 1 = i)).elim (fun a => Or.inr fun b => g2 ⟨a, b⟩) Or.inl⟩
  · cases hs
theorem lr_L.st2 {w : Wd} {n i : Nat} {ls ls' : List (Option AV)} {A : Array Slot} {v : AV} (h : lr_L w n ls A) (hs : lr_st2 ls i v = some ls') :
    i + 1 < n ∧ ∀ A' : Array Slot, lv_has A' n ((i, emb w v) :: (lr_as w ls).filter (fun q => !(q.1 == i) && (!(q.1 == i + 1) && !(q.1 + 1 == i && q.2.category == 2)))) → lr_L w n ls' A' := by
  unfold lr_st2 at hs
  split at hs
  · rename_i hi
    cases hs
    refine ⟨by rw [← h.1]; exact hi, fun A' hA' => ⟨by rw [List.length_set, List.length_set, lr_kl_len]; exact h.1, hA'.1, hA'.2.1, fun q hq => hA'.2.2 q ?_⟩⟩
    obtain ⟨u, h1, h2⟩ := lr_as_mem.mp hq
    obtain ⟨k, x⟩ := q
    dsimp only at h1 h2
    rw [List.getElem?_set] at h1
    split at h1
    · split at h1 <;> cases h1
    · rename_i e0
      rw [List.getElem?_set] at h1
      split at h1
      · rename_i e
        split at h1
        · cases h1
          subst e h2
          exact List.mem_cons_self
        · cases h1
      · rename_i e
        obtain ⟨g1, g2⟩ := lr_kl_get h1
        refine List.mem_cons_of_mem _ (List.mem_filter.mpr ⟨lr_as_mem.mpr ⟨u, g1, h2⟩, ?_⟩)
        subst h2
        rw [← lr_cat (w := w)] at g2
        simp
        exact ⟨fun q => e q.symm, fun q => e0 q.symm, (Classical.em (k + 1 = i)).elim (fun a => Or.inr fun b => g2 ⟨a, b⟩) Or.inl⟩
  · cases hs
-- the walk
def lr_Cx (T : Tb) (w : Wd) (j : MI) (p : Program) (s : State) (m : MethodId) (meth : Method) (c : Code) : Prop :=
  p.tables.exec = Jvm.exec ∧ c.code = j.2.1 ∧ c.maxLocals = j.2.2.1 ∧ s.vm.findClass j.1.cls = some m.cls ∧ meth.sig.returnType = j.2.2.2 ∧ meth.locks = false ∧ lr_Base w s ∧ lr_Str (lr_R T w) w s s.heap
/-- the frame of method j at pc, with these locals and this stack, over the memory M, comes to the method's end with Q -/
def lr_W (T : Tb) (S : Nat → Bool) (w : Wd) (d : Nat) (j : MI) (pc : Nat) (ls : List (Option AV)) (st : List AV) (M : Mem) (Q : Option AV → Mem → Prop) : Prop :=
  ∀ (p : Program) (e : Env) (s : State) (m : MethodId) (args : Array Value) (below : List Frame) (meth : Method) (c : Code) (H : Heap) (locs : List Loc) (A : Array Slot),
    lr_Cx T w j p s m meth c → lr_P T S w M H → va_S (lr_R T w) s.heap H locs → lr_L w j.2.2.1 ls A →
    W p w.1 e (lr_rm d) s m args below meth c H locs 0 0 (MQ below (lr_Q T S w Q) args s 0 0 (lr_R T w)) (F0 m pc A (st.map (emb w)))
end
section
/-! rows of the walk: one instruction each -/
def lr_F (j : MI) (pc : Nat) (i : Instr) (len n : Nat) : Prop := decode j.2.1 pc = .ok (i, len) ∧ pc + len = n
def lr_Br (j : MI) (pc : Nat) (f : Int → Instr) (tgt n : Nat) : Prop := ∃ off, decode j.2.1 pc = .ok (f off, 3) ∧ (pc : Int) + off = (tgt : Int) ∧ pc + 3 = n
def lr_ILd (j : MI) (pc i n : Nat) : Prop := (∃ k : Fin 4, (k : Nat) = i ∧ lr_F j pc (.iload_n k) 1 n) ∨ lr_F j pc (.iload i) 2 n
def lr_LLd (j : MI) (pc i n : Nat) : Prop := (∃ k : Fin 4, (k : Nat) = i ∧ lr_F j pc (.lload_n k) 1 n) ∨ lr_F j pc (.lload i) 2 n
def lr_ALd (j : MI) (pc i n : Nat) : Prop := (∃ k : Fin 4, (k : Nat) = i ∧ lr_F j pc (.aload_n k) 1 n) ∨ lr_F j pc (.aload i) 2 n
def lr_ISt (j : MI) (pc i n : Nat) : Prop := (∃ k : Fin 4, (k : Nat) = i ∧ lr_F j pc (.istore_n k) 1 n) ∨ lr_F j pc (.istore i) 2 n
def lr_LSt (j : MI) (pc i n : Nat) : Prop := (∃ k : Fin 4, (k : Nat) = i ∧ lr_F j pc (.lstore_n k) 1 n) ∨ lr_F j pc (.lstore i) 2 n
def lr_ASt (j : MI) (pc i n : Nat) : Prop := (∃ k : Fin 4, (k : Nat) = i ∧ lr_F j pc (.astore_n k) 1 n) ∨ lr_F j pc (.astore i) 2 n
def lr_IC (j : MI) (pc : Nat) (v : Int32) (n : Nat) : Prop := (∃ z, Int32.ofInt z = v ∧ lr_F j pc (.iconst z) 1 n) ∨ (∃ z, (Int8.ofInt z).toInt32 = v ∧ lr_F j pc (.bipush z) 2 n) ∨ (∃ z, (Int16.ofInt z).toInt32 = v ∧ lr_F j pc (.sipush z) 3 n) ∨ (∃ k, Cond.constant j.1.cls k v ∈ AW ∧ lr_F j pc (.ldc k) 2 n) ∨ ∃ k, Cond.constant j.1.cls k v ∈ AW ∧ lr_F j pc (.ldc_w k) 3 n
def lr_LC (j : MI) (pc : Nat) (v : Int64) (n : Nat) : Prop := (∃ z : Fin 2, Int64.ofNat (z : Nat) = v ∧ lr_F j pc (.lconst z) 1 n) ∨ ∃ k, Cond.constantLong j.1.cls k v ∈ AW ∧ lr_F j pc (.ldc2_w k) 3 n
section RI
variable {T : Tb} {S : Nat → Bool} {w : Wd} {d : Nat} {j : MI} {pc n : Nat} {ls : List (Option AV)} {st : List AV} {M : Mem} {Q : Option AV → Mem → Prop}
theorem ri_ild {i : Nat} {x : Int32} (hd : lr_ILd j pc i n) (hl : ls[i]? = some (some (vi x))) (nx : lr_W T S w d j n ls (vi x :: st) M Q) : lr_W T S w d j pc ls st M Q := by
  intro p e s m args below meth c H locs A X hP hS hL
  rcases hd with ⟨k, rfl, h, rfl⟩ | ⟨h, rfl⟩
  · exact lv_iload_n X.1 X.2.1 h rfl (hL.at hl) (nx p e s m args below meth c H locs A X hP hS hL)
  · exact lv_iload X.1 X.2.1 h (hL.at hl) (nx p e s m args below meth c H locs A X hP hS hL)
theorem ri_lld {i : Nat} {x : Int64} (hd : lr_LLd j pc i n) (hl : ls[i]? = some (some (vl x))) (nx : lr_W T S w d j n ls (vl x :: st) M Q) : lr_W T S w d j pc ls st M Q := by
  intro p e s m args below meth c H locs A X hP hS hL
  rcases hd with ⟨k, rfl, h, rfl⟩ | ⟨h, rfl⟩
  · exact lv_lload_n X.1 X.2.1 h rfl (hL.at hl) (nx p e s m args below meth c H locs A X hP hS hL)
  · exact lv_lload X.1 X.2.1 h (hL.at hl) (nx p e s m args below meth c H locs A X hP hS hL)
theorem ri_ald {i t k : Nat} (hd : lr_ALd j pc i n) (hl : ls[i]? = some (some (vo t k))) (nx : lr_W T S w d j n ls (vo t k :: st) M Q) : lr_W T S w d j pc ls st M Q := by
  intro p e s m args below meth c H locs A X hP hS hL
  rcases hd with ⟨k, rfl, h, rfl⟩ | ⟨h, rfl⟩
  · exact lv_aload_n X.1 X.2.1 h rfl (hL.at hl) (nx p e s m args below meth c H locs A X hP hS hL)
  · exact lv_aload X.1 X.2.1 h (hL.at hl) (nx p e s m args below meth c H locs A X hP hS hL)
theorem ri_istk {i : Nat} {x : Int32} {ls' : List (Option AV)} (hd : lr_ISt j pc i n) (hs : lr_st ls i (vi x) = some ls') (nx : lr_W T S w d j n ls' st M Q) : lr_W T S w d j pc ls (vi x :: st) M Q := by
  intro p e s m args below meth c H locs A X hP hS hL
  obtain ⟨h1, h2⟩ := hL.st1 hs
  rcases hd with ⟨k, rfl, h, rfl⟩ | ⟨h, rfl⟩
  · exact lv_istore_n X.1 X.2.1 h rfl hL.2 h1 rfl (fun A' hA' => nx p e s m args below meth c H locs A' X hP hS (h2 A' hA'))
  · exact lv_istore X.1 X.2.1 h hL.2 h1 rfl (fun A' hA' => nx p e s m args below meth c H locs A' X hP hS (h2 A' hA'))
theorem ri_ist {i : Nat} {x : Int32} {f : Int32 → List (Option AV)} (hd : lr_ISt j pc i n) (hs : ∀ y, lr_st ls i (vi y) = some (f y)) (nx : ∀ y, y = x → lr_W T S w d j n (f y) st M Q) : lr_W T S w d j pc ls (vi x :: st) M Q :=
  ri_istk hd (hs x) (nx x rfl)
theorem ri_ast {i t k : Nat} {ls' : List (Option AV)} (hd : lr_ASt j pc i n) (hs : lr_st ls i (vo t k) = some ls') (nx : lr_W T S w d j n ls' st M Q) : lr_W T S w d j pc ls (vo t k :: st) M Q := by
  intro p e s m args below meth c H locs A X hP hS hL
  obtain ⟨h1, h2⟩ := hL.st1 hs
  rcases hd with ⟨k, rfl, h, rfl⟩ | ⟨h, rfl⟩
  · exact lv_astore_n X.1 X.2.1 h rfl hL.2 h1 rfl (fun A' hA' => nx p e s m args below meth c H locs A' X hP hS (h2 A' hA'))
  · exact lv_astore X.1 X.2.1 h hL.2 h1 rfl (fun A' hA' => nx p e s m args below meth c H locs A' X hP hS (h2 A' hA'))
theorem ri_lstk {i : Nat} {x : Int64} {ls' : List (Option AV)} (hd : lr_LSt j pc i n) (hs : lr_st2 ls i (vl x) = some ls') (nx : lr_W T S w d j n ls' st M Q) : lr_W T S w d j pc ls (vl x :: st) M Q := by
  intro p e s m args below meth c H locs A X hP hS hL
  obtain ⟨h1, h2⟩ := hL.st2 hs
  rcases hd with ⟨k, rfl, h, rfl⟩ | ⟨h, rfl⟩
  · exact lv_lstore_n X.1 X.2.1 h rfl hL.2 h1 rfl (fun A' hA' => nx p e s m args below meth c H locs A' X hP hS (h2 A' hA'))
  · exact lv_lstore X.1 X.2.1 h hL.2 h1 rfl (fun A' hA' => nx p e s m args below meth c H locs A' X hP hS (h2 A' hA'))
theorem ri_lst {i : Nat} {x : Int64} {f : Int64 → List (Option AV)} (hd : lr_LSt j pc i n) (hs : ∀ y, lr_st2 ls i (vl y) = some (f y)) (nx : ∀ y, y = x → lr_W T S w d j n (f y) st M Q) : lr_W T S w d j pc ls (vl x :: st) M Q :=
  ri_lstk hd (hs x) (nx x rfl)
theorem ri_iinck {i : Nat} {z : Int} {x v : Int32} {ls' : List (Option AV)} (hd : lr_F j pc (.iinc i z) 3 n) (hl : ls[i]? = some (some (vi x))) (hv : x + Int32.ofInt z = v) (hs : lr_st ls i (vi v) = some ls') (nx : lr_W T S w d j n ls' st M Q) : lr_W T S w d j pc ls st M Q := by
  intro p e s m args below meth c H locs A X hP hS hL
  obtain ⟨h1, h2⟩ := hL.st1 hs
  obtain ⟨h, rfl⟩ := hd
  obtain ⟨k, hk⟩ := List.getElem?_of_mem (lr_as_mem.mpr ⟨_, hl, rfl⟩ : (i, emb w (vi x)) ∈ lr_as w ls)
  exact lv_iinc X.1 X.2.1 h hL.2 hk hv h1 rfl (fun A' hA' => nx p e s m args below meth c H locs A' X hP hS (h2 A' hA'))
theorem ri_iinc {i : Nat} {z : Int} {x c0 : Int32} {f : Int32 → List (Option AV)} (hd : lr_F j pc (.iinc i z) 3 n) (hl : ls[i]? = some (some (vi x))) (hc : Int32.ofInt z = c0) (hs : ∀ y, lr_st ls i (vi y) = some (f y)) (nx : ∀ y, y = x + c0 → lr_W T S w d j n (f y) st M Q) : lr_W T S w d j pc ls st M Q :=
  ri_iinck hd hl (by rw [hc]) (hs (x + c0)) (nx (x + c0) rfl)
theorem ri_ic {v : Int32} (hd : lr_IC j pc v n) (nx : lr_W T S w d j n ls (vi v :: st) M Q) : lr_W T S w d j pc ls st M Q := by
  intro p e s m args below meth c H locs A X hP hS hL
  have nx' := nx p e s m args below meth c H locs A X hP hS hL
  rcases hd with ⟨z, rfl, h, rfl⟩ | ⟨z, rfl, h, rfl⟩ | ⟨z, rfl, h, rfl⟩ | ⟨k, hm, h, rfl⟩ | ⟨k, hm, h, rfl⟩
  · exact lv_iconst X.1 X.2.1 h rfl nx'
  · exact lv_bipush X.1 X.2.1 h rfl nx'
  · exact lv_sipush X.1 X.2.1 h rfl nx'
  · exact lv_ldc X.1 X.2.1 X.2.2.2.1 (aw_args (aw_mem hm) (X.2.2.2.2.2.2.1.1 _ hm) args) h nx'
  · exact lv_ldcw X.1 X.2.1 X.2.2.2.1 (aw_args (aw_mem hm) (X.2.2.2.2.2.2.1.1 _ hm) args) h nx'
theorem ri_lc {v : Int64} (hd : lr_LC j pc v n) (nx : lr_W T S w d j n ls (vl v :: st) M Q) : lr_W T S w d j pc ls st M Q := by
  intro p e s m args below meth c H locs A X hP hS hL
  have nx' := nx p e s m args below meth c H locs A X hP hS hL
  rcases hd with ⟨z, rfl, h, rfl⟩ | ⟨k, hm, h, rfl⟩
  · exact lv_lconst X.1 X.2.1 h rfl nx'
  · exact lv_ldc2 X.1 X.2.1 X.2.2.2.1 (aw_args (aw_mem hm) (X.2.2.2.2.2.2.1.1 _ hm) args) h nx'
theorem ri_sc {k q : Nat} {tx : String} (hd : lr_F j pc (.ldc k) 2 n) (hq : lr_str[q]? = some (j.1.cls, k, tx)) (nx : lr_W T S w d j n ls (vo 99 q :: st) M Q) : lr_W T S w d j pc ls st M Q := by
  intro p e s m args below meth c H locs A X hP hS hL
  obtain ⟨h, rfl⟩ := hd
  exact va_ldcS X.1 X.2.1 X.2.2.2.1 (X.2.2.2.2.2.2.1.2.2 q _ hq) h (nx p e s m args below meth c H locs A X hP hS hL)
theorem ri_iadd {x y : Int32} (hd : lr_F j pc .iadd 1 n) (nx : lr_W T S w d j n ls (vi (x + y) :: st) M Q) : lr_W T S w d j pc ls (vi y :: vi x :: st) M Q := by
  intro p e s m args below meth c H locs A X hP hS hL
  obtain ⟨h, rfl⟩ := hd
  exact lv_iadd X.1 X.2.1 h (nx p e s m args below meth c H locs A X hP hS hL)
theorem ri_isub {x y : Int32} (hd : lr_F j pc .isub 1 n) (nx : lr_W T S w d j n ls (vi (x - y) :: st) M Q) : lr_W T S w d j pc ls (vi y :: vi x :: st) M Q := by
  intro p e s m args below meth c H locs A X hP hS hL
  obtain ⟨h, rfl⟩ := hd
  exact lv_isub X.1 X.2.1 h (nx p e s m args below meth c H locs A X hP hS hL)
theorem ri_imul {x y : Int32} (hd : lr_F j pc .imul 1 n) (nx : lr_W T S w d j n ls (vi (x * y) :: st) M Q) : lr_W T S w d j pc ls (vi y :: vi x :: st) M Q := by
  intro p e s m args below meth c H locs A X hP hS hL
  obtain ⟨h, rfl⟩ := hd
  exact lv_imul X.1 X.2.1 h (nx p e s m args below meth c H locs A X hP hS hL)
theorem ri_iand {x y : Int32} (hd : lr_F j pc .iand 1 n) (nx : lr_W T S w d j n ls (vi (x &&& y) :: st) M Q) : lr_W T S w d j pc ls (vi y :: vi x :: st) M Q := by
  intro p e s m args below meth c H locs A X hP hS hL
  obtain ⟨h, rfl⟩ := hd
  exact lv_iand X.1 X.2.1 h (nx p e s m args below meth c H locs A X hP hS hL)
theorem ri_ior {x y : Int32} (hd : lr_F j pc .ior 1 n) (nx : lr_W T S w d j n ls (vi (x ||| y) :: st) M Q) : lr_W T S w d j pc ls (vi y :: vi x :: st) M Q := by
  intro p e s m args below meth c H locs A X hP hS hL
  obtain ⟨h, rfl⟩ := hd
  exact lv_ior X.1 X.2.1 h (nx p e s m args below meth c H locs A X hP hS hL)
theorem ri_ixor {x y : Int32} (hd : lr_F j pc .ixor 1 n) (nx : lr_W T S w d j n ls (vi (x ^^^ y) :: st) M Q) : lr_W T S w d j pc ls (vi y :: vi x :: st) M Q := by
  intro p e s m args below meth c H locs A X hP hS hL
  obtain ⟨h, rfl⟩ := hd
  exact lv_ixor X.1 X.2.1 h (nx p e s m args below meth c H locs A X hP hS hL)
theorem ri_ishl {x y : Int32} (hd : lr_F j pc .ishl 1 n) (nx : lr_W T S w d j n ls (vi (x <<< (y &&& 31)) :: st) M Q) : lr_W T S w d j pc ls (vi y :: vi x :: st) M Q := by
  intro p e s m args below meth c H locs A X hP hS hL
  obtain ⟨h, rfl⟩ := hd
  exact lv_ishl X.1 X.2.1 h (nx p e s m args below meth c H locs A X hP hS hL)
theorem ri_ishr {x y : Int32} (hd : lr_F j pc .ishr 1 n) (nx : lr_W T S w d j n ls (vi (x >>> (y &&& 31)) :: st) M Q) : lr_W T S w d j pc ls (vi y :: vi x :: st) M Q := by
  intro p e s m args below meth c H locs A X hP hS hL
  obtain ⟨h, rfl⟩ := hd
  exact lv_ishr X.1 X.2.1 h (nx p e s m args below meth c H locs A X hP hS hL)
theorem ri_idiv {x y : Int32} (hd : lr_F j pc .idiv 1 n) (hne : ¬ y = 0) (nx : lr_W T S w d j n ls (vi (x / y) :: st) M Q) : lr_W T S w d j pc ls (vi y :: vi x :: st) M Q := by
  intro p e s m args below meth c H locs A X hP hS hL
  obtain ⟨h, rfl⟩ := hd
  exact lv_idiv X.1 X.2.1 h hne (nx p e s m args below meth c H locs A X hP hS hL)
theorem ri_irem {x y : Int32} (hd : lr_F j pc .irem 1 n) (hne : ¬ y = 0) (nx : lr_W T S w d j n ls (vi (x - x / y * y) :: st) M Q) : lr_W T S w d j pc ls (vi y :: vi x :: st) M Q := by
  intro p e s m args below meth c H locs A X hP hS hL
  obtain ⟨h, rfl⟩ := hd
  exact lv_irem X.1 X.2.1 h hne (nx p e s m args below meth c H locs A X hP hS hL)
theorem ri_ldiv {x y : Int64} (hd : lr_F j pc .ldiv 1 n) (hne : ¬ y = 0) (nx : lr_W T S w d j n ls (vl (x / y) :: st) M Q) : lr_W T S w d j pc ls (vl y :: vl x :: st) M Q := by
  intro p e s m args below meth c H locs A X hP hS hL
  obtain ⟨h, rfl⟩ := hd
  exact lv_ldiv X.1 X.2.1 h hne (nx p e s m args below meth c H locs A X hP hS hL)
theorem ri_lrem {x y : Int64} (hd : lr_F j pc .lrem 1 n) (hne : ¬ y = 0) (nx : lr_W T S w d j n ls (vl (x - x / y * y) :: st) M Q) : lr_W T S w d j pc ls (vl y :: vl x :: st) M Q := by
  intro p e s m args below meth c H locs A X hP hS hL
  obtain ⟨h, rfl⟩ := hd
  exact lv_lrem X.1 X.2.1 h hne (nx p e s m args below meth c H locs A X hP hS hL)
theorem ri_ladd {x y : Int64} (hd : lr_F j pc .ladd 1 n) (nx : lr_W T S w d j n ls (vl (x + y) :: st) M Q) : lr_W T S w d j pc ls (vl y :: vl x :: st) M Q := by
  intro p e s m args below meth c H locs A X hP hS hL
  obtain ⟨h, rfl⟩ := hd
  exact lv_ladd X.1 X.2.1 h (nx p e s m args below meth c H locs A X hP hS hL)
theorem ri_lmul {x y : Int64} (hd : lr_F j pc .lmul 1 n) (nx : lr_W T S w d j n ls (vl (x * y) :: st) M Q) : lr_W T S w d j pc ls (vl y :: vl x :: st) M Q := by
  intro p e s m args below meth c H locs A X hP hS hL
  obtain ⟨h, rfl⟩ := hd
  exact lv_lmul X.1 X.2.1 h (nx p e s m args below meth c H locs A X hP hS hL)
theorem ri_lcmp {x y : Int64} (hd : lr_F j pc .lcmp 1 n) (nx : lr_W T S w d j n ls (vi (lg_cmp x y) :: st) M Q) : lr_W T S w d j pc ls (vl y :: vl x :: st) M Q := by
  intro p e s m args below meth c H locs A X hP hS hL
  obtain ⟨h, rfl⟩ := hd
  exact W.lcmp X.1 X.2.1 h (nx p e s m args below meth c H locs A X hP hS hL)
theorem ri_ineg {x : Int32} (hd : lr_F j pc .ineg 1 n) (nx : lr_W T S w d j n ls (vi (-x) :: st) M Q) : lr_W T S w d j pc ls (vi x :: st) M Q := by
  intro p e s m args below meth c H locs A X hP hS hL
  obtain ⟨h, rfl⟩ := hd
  exact lv_ineg X.1 X.2.1 h (nx p e s m args below meth c H locs A X hP hS hL)
theorem ri_iushr {x y : Int32} (hd : lr_F j pc .iushr 1 n) (nx : lr_W T S w d j n ls (vi ((x.toUInt32 >>> (y.toUInt32 &&& Int32.toUInt32 31)).toInt32) :: st) M Q) : lr_W T S w d j pc ls (vi y :: vi x :: st) M Q := by
  intro p e s m args below meth c H locs A X hP hS hL
  obtain ⟨h, rfl⟩ := hd
  exact lv_iushr X.1 X.2.1 h rfl (nx p e s m args below meth c H locs A X hP hS hL)
theorem ri_lshl {x : Int64} {y : Int32} (hd : lr_F j pc .lshl 1 n) (nx : lr_W T S w d j n ls (vl (x <<< (y.toInt64 &&& 63)) :: st) M Q) : lr_W T S w d j pc ls (vi y :: vl x :: st) M Q := by
  intro p e s m args below meth c H locs A X hP hS hL
  obtain ⟨h, rfl⟩ := hd
  exact lv_lshl X.1 X.2.1 h rfl (nx p e s m args below meth c H locs A X hP hS hL)
theorem ri_i2l {x : Int32} (hd : lr_F j pc .i2l 1 n) (nx : lr_W T S w d j n ls (vl x.toInt64 :: st) M Q) : lr_W T S w d j pc ls (vi x :: st) M Q := by
  intro p e s m args below meth c H locs A X hP hS hL
  obtain ⟨h, rfl⟩ := hd
  exact lv_i2l X.1 X.2.1 h rfl (nx p e s m args below meth c H locs A X hP hS hL)
theorem ri_i2b {x : Int32} (hd : lr_F j pc .i2b 1 n) (nx : lr_W T S w d j n ls (vi x.toInt8.toInt32 :: st) M Q) : lr_W T S w d j pc ls (vi x :: st) M Q := by
  intro p e s m args below meth c H locs A X hP hS hL
  obtain ⟨h, rfl⟩ := hd
  exact lv_i2b X.1 X.2.1 h rfl (nx p e s m args below meth c H locs A X hP hS hL)
theorem ri_i2s {x : Int32} (hd : lr_F j pc .i2s 1 n) (nx : lr_W T S w d j n ls (vi x.toInt16.toInt32 :: st) M Q) : lr_W T S w d j pc ls (vi x :: st) M Q := by
  intro p e s m args below meth c H locs A X hP hS hL
  obtain ⟨h, rfl⟩ := hd
  exact lv_i2s X.1 X.2.1 h rfl (nx p e s m args below meth c H locs A X hP hS hL)
theorem ri_i2c {x : Int32} (hd : lr_F j pc .i2c 1 n) (nx : lr_W T S w d j n ls (vi (x.toUInt32 % 65536).toInt32 :: st) M Q) : lr_W T S w d j pc ls (vi x :: st) M Q := by
  intro p e s m args below meth c H locs A X hP hS hL
  obtain ⟨h, rfl⟩ := hd
  exact lv_i2c X.1 X.2.1 h rfl (nx p e s m args below meth c H locs A X hP hS hL)
theorem ri_dup {v : AV} (hd : lr_F j pc .dup 1 n) (hv : ∀ x, v ≠ vl x) (nx : lr_W T S w d j n ls (v :: v :: st) M Q) : lr_W T S w d j pc ls (v :: st) M Q := by
  intro p e s m args below meth c H locs A X hP hS hL
  obtain ⟨h, rfl⟩ := hd
  refine lv_dup X.1 X.2.1 h ?_ (nx p e s m args below meth c H locs A X hP hS hL)
  rcases v with x | x | x | x
  · rfl
  · exact absurd rfl (hv x)
  · rfl
  · cases x <;> rfl
theorem ri_pop {v : AV} (hd : lr_F j pc .pop 1 n) (hv : ∀ x, v ≠ vl x) (nx : lr_W T S w d j n ls st M Q) : lr_W T S w d j pc ls (v :: st) M Q := by
  intro p e s m args below meth c H locs A X hP hS hL
  obtain ⟨h, rfl⟩ := hd
  refine lv_pop X.1 X.2.1 h ?_ (nx p e s m args below meth c H locs A X hP hS hL)
  rcases v with x | x | x | x
  · rfl
  · exact absurd rfl (hv x)
  · rfl
  · cases x <;> rfl
theorem ri_goto {tgt : Nat} (hd : lr_Br j pc (Instr.goto) tgt n) (nx : lr_W T S w d j tgt ls st M Q) : lr_W T S w d j pc ls st M Q := by
  intro p e s m args below meth c H locs A X hP hS hL
  obtain ⟨off, h, ht, rfl⟩ := hd
  exact lv_goto X.1 X.2.1 h ht (nx p e s m args below meth c H locs A X hP hS hL)
theorem ri_icmp_eq {x y : Int32} {tgt : Nat} (hd : lr_Br j pc (Instr.if_icmp .eq) tgt n) (kt : x = y → lr_W T S w d j tgt ls st M Q) (kf : ¬ x = y → lr_W T S w d j n ls st M Q) : lr_W T S w d j pc ls (vi y :: vi x :: st) M Q := by
  intro p e s m args below meth c H locs A X hP hS hL
  obtain ⟨off, h, ht, rfl⟩ := hd
  exact lv_icmp_eq X.1 X.2.1 h ht (fun q => kt q p e s m args below meth c H locs A X hP hS hL) (fun q => kf q p e s m args below meth c H locs A X hP hS hL)
theorem ri_if_eq {x : Int32} {tgt : Nat} (hd : lr_Br j pc (Instr.ifCond .eq) tgt n) (kt : x = 0 → lr_W T S w d j tgt ls st M Q) (kf : ¬ x = 0 → lr_W T S w d j n ls st M Q) : lr_W T S w d j pc ls (vi x :: st) M Q := by
  intro p e s m args below meth c H locs A X hP hS hL
  obtain ⟨off, h, ht, rfl⟩ := hd
  exact lv_if_eq X.1 X.2.1 h ht (fun q => kt q p e s m args below meth c H locs A X hP hS hL) (fun q => kf q p e s m args below meth c H locs A X hP hS hL)
theorem ri_icmp_ne {x y : Int32} {tgt : Nat} (hd : lr_Br j pc (Instr.if_icmp .ne) tgt n) (kt : ¬ x = y → lr_W T S w d j tgt ls st M Q) (kf : x = y → lr_W T S w d j n ls st M Q) : lr_W T S w d j pc ls (vi y :: vi x :: st) M Q := by
  intro p e s m args below meth c H locs A X hP hS hL
  obtain ⟨off, h, ht, rfl⟩ := hd
  exact lv_icmp_ne X.1 X.2.1 h ht (fun q => kt q p e s m args below meth c H locs A X hP hS hL) (fun q => kf q p e s m args below meth c H locs A X hP hS hL)
theorem ri_if_ne {x : Int32} {tgt : Nat} (hd : lr_Br j pc (Instr.ifCond .ne) tgt n) (kt : ¬ x = 0 → lr_W T S w d j tgt ls st M Q) (kf : x = 0 → lr_W T S w d j n ls st M Q) : lr_W T S w d j pc ls (vi x :: st) M Q := by
  intro p e s m args below meth c H locs A X hP hS hL
  obtain ⟨off, h, ht, rfl⟩ := hd
  exact lv_if_ne X.1 X.2.1 h ht (fun q => kt q p e s m args below meth c H locs A X hP hS hL) (fun q => kf q p e s m args below meth c H locs A X hP hS hL)
theorem ri_icmp_lt {x y : Int32} {tgt : Nat} (hd : lr_Br j pc (Instr.if_icmp .lt) tgt n) (kt : x < y → lr_W T S w d j tgt ls st M Q) (kf : ¬ x < y → lr_W T S w d j n ls st M Q) : lr_W T S w d j pc ls (vi y :: vi x :: st) M Q := by
  intro p e s m args below meth c H locs A X hP hS hL
  obtain ⟨off, h, ht, rfl⟩ := hd
  exact lv_icmp_lt X.1 X.2.1 h ht (fun q => kt q p e s m args below meth c H locs A X hP hS hL) (fun q => kf q p e s m args below meth c H locs A X hP hS hL)
theorem ri_if_lt {x : Int32} {tgt : Nat} (hd : lr_Br j pc (Instr.ifCond .lt) tgt n) (kt : x < 0 → lr_W T S w d j tgt ls st M Q) (kf : ¬ x < 0 → lr_W T S w d j n ls st M Q) : lr_W T S w d j pc ls (vi x :: st) M Q := by
  intro p e s m args below meth c H locs A X hP hS hL
  obtain ⟨off, h, ht, rfl⟩ := hd
  exact lv_if_lt X.1 X.2.1 h ht (fun q => kt q p e s m args below meth c H locs A X hP hS hL) (fun q => kf q p e s m args below meth c H locs A X hP hS hL)
theorem ri_icmp_ge {x y : Int32} {tgt : Nat} (hd : lr_Br j pc (Instr.if_icmp .ge) tgt n) (kt : y ≤ x → lr_W T S w d j tgt ls st M Q) (kf : ¬ y ≤ x → lr_W T S w d j n ls st M Q) : lr_W T S w d j pc ls (vi y :: vi x :: st) M Q := by
  intro p e s m args below meth c H locs A X hP hS hL
  obtain ⟨off, h, ht, rfl⟩ := hd
  exact lv_icmp_ge X.1 X.2.1 h ht (fun q => kt q p e s m args below meth c H locs A X hP hS hL) (fun q => kf q p e s m args below meth c H locs A X hP hS hL)
theorem ri_if_ge {x : Int32} {tgt : Nat} (hd : lr_Br j pc (Instr.ifCond .ge) tgt n) (kt : 0 ≤ x → lr_W T S w d j tgt ls st M Q) (kf : ¬ 0 ≤ x → lr_W T S w d j n ls st M Q) : lr_W T S w d j pc ls (vi x :: st) M Q := by
  intro p e s m args below meth c H locs A X hP hS hL
  obtain ⟨off, h, ht, rfl⟩ := hd
  exact lv_if_ge X.1 X.2.1 h ht (fun q => kt q p e s m args below meth c H locs A X hP hS hL) (fun q => kf q p e s m args below meth c H locs A X hP hS hL)
theorem ri_icmp_gt {x y : Int32} {tgt : Nat} (hd : lr_Br j pc (Instr.if_icmp .gt) tgt n) (kt : y < x → lr_W T S w d j tgt ls st M Q) (kf : ¬ y < x → lr_W T S w d j n ls st M Q) : lr_W T S w d j pc ls (vi y :: vi x :: st) M Q := by
  intro p e s m args below meth c H locs A X hP hS hL
  obtain ⟨off, h, ht, rfl⟩ := hd
  exact lv_icmp_gt X.1 X.2.1 h ht (fun q => kt q p e s m args below meth c H locs A X hP hS hL) (fun q => kf q p e s m args below meth c H locs A X hP hS hL)
theorem ri_if_gt {x : Int32} {tgt : Nat} (hd : lr_Br j pc (Instr.ifCond .gt) tgt n) (kt : 0 < x → lr_W T S w d j tgt ls st M Q) (kf : ¬ 0 < x → lr_W T S w d j n ls st M Q) : lr_W T S w d j pc ls (vi x :: st) M Q := by
  intro p e s m args below meth c H locs A X hP hS hL
  obtain ⟨off, h, ht, rfl⟩ := hd
  exact lv_if_gt X.1 X.2.1 h ht (fun q => kt q p e s m args below meth c H locs A X hP hS hL) (fun q => kf q p e s m args below meth c H locs A X hP hS hL)
theorem ri_icmp_le {x y : Int32} {tgt : Nat} (hd : lr_Br j pc (Instr.if_icmp .le) tgt n) (kt : x ≤ y → lr_W T S w d j tgt ls st M Q) (kf : ¬ x ≤ y → lr_W T S w d j n ls st M Q) : lr_W T S w d j pc ls (vi y :: vi x :: st) M Q := by
  intro p e s m args below meth c H locs A X hP hS hL
  obtain ⟨off, h, ht, rfl⟩ := hd
  exact lv_icmp_le X.1 X.2.1 h ht (fun q => kt q p e s m args below meth c H locs A X hP hS hL) (fun q => kf q p e s m args below meth c H locs A X hP hS hL)
theorem ri_if_le {x : Int32} {tgt : Nat} (hd : lr_Br j pc (Instr.ifCond .le) tgt n) (kt : x ≤ 0 → lr_W T S w d j tgt ls st M Q) (kf : ¬ x ≤ 0 → lr_W T S w d j n ls st M Q) : lr_W T S w d j pc ls (vi x :: st) M Q := by
  intro p e s m args below meth c H locs A X hP hS hL
  obtain ⟨off, h, ht, rfl⟩ := hd
  exact lv_if_le X.1 X.2.1 h ht (fun q => kt q p e s m args below meth c H locs A X hP hS hL) (fun q => kf q p e s m args below meth c H locs A X hP hS hL)
end RI
end
section
/-! rows of the walk: switches, memory, calls, ends -/
def lr_swt (P : Nat → Int → Prop) : List Nat → Int → Prop
  | [], _ => True
  | t :: ts, z => P t z ∧ lr_swt P ts (z + 1)
theorem lr_swt_get {P : Nat → Int → Prop} : ∀ {tg : List Nat} {z : Int}, lr_swt P tg z → ∀ (k t : Nat), tg[k]? = some t → P t (z + k) := by
  intro tg
  induction tg with
  | nil => intro z _ k t h; simp at h
  | cons a l ih =>
    intro z h k t hk
    cases k with
    | zero => simp at hk; subst hk; simpa using h.1
    | succ k =>
      have := ih h.2 k t (by simpa using hk)
      rw [show z + ((k + 1 : Nat) : Int) = z + 1 + (k : Int) by omega]
      exact this
def lr_TS (j : MI) (pc : Nat) (lo : Int) (tg : List Nat) (df : Nat) : Prop := ∃ dflt hi offs len, decode j.2.1 pc = .ok (.tableswitch dflt lo hi offs, len) ∧ hi + 1 = lo + tg.length ∧ (pc : Int) + dflt = (df : Int) ∧ offs.toList.map (fun o => (pc : Int) + o) = tg.map Int.ofNat
def lr_LS (j : MI) (pc : Nat) (ps : List (Int × Nat)) (df : Nat) : Prop := ∃ dflt qs len, decode j.2.1 pc = .ok (.lookupswitch dflt qs, len) ∧ (qs.toList.zip (qs.toList.drop 1)).all (fun (a, next) => a.1 < next.1) = true ∧ (pc : Int) + dflt = (df : Int) ∧ qs.toList.map (fun o => (o.1, (pc : Int) + o.2)) = ps.map (fun o => (o.1, (o.2 : Int)))
def lr_fk (T : Tb) (t ci k : Nat) : Option FK := match lr_sh T t with
  | .inr (.inr q) => if q.1 = ci then q.2[k]? else none
  | _ => none
def lr_al (T : Tb) (t : Nat) : Option Nat := match lr_sh T t with
  | .inl n => some n
  | _ => none
def lr_rl (T : Tb) (t : Nat) : Option (Nat × Nat × Nat) := match lr_sh T t with
  | .inr (.inl q) => some q
  | _ => none
def lr_FL (own : String) (idx ci k : Nat) : Prop := ∃ q : vw_C, vwCl[ci]? = some q ∧ k < q.2.2 ∧ (Cond.fieldLink own idx (q.2.1 k).1 (q.2.1 k).2.1 (q.2.1 k).2.2.1 ∈ AW ∨ ∃ host, Cond.fieldLinkNest own idx (q.2.1 k).1 (q.2.1 k).2.1 (q.2.1 k).2.2.1 host ∈ AW)
def lr_FP (own : String) (idx ci k : Nat) (ty : FieldType) : Prop := ∃ q : vw_C, vwCl[ci]? = some q ∧ k < q.2.2 ∧ (Cond.fieldLink own idx (q.2.1 k).1 (q.2.1 k).2.1 (q.2.1 k).2.2.1 ∈ AW ∨ ∃ host, Cond.fieldLinkNest own idx (q.2.1 k).1 (q.2.1 k).2.1 (q.2.1 k).2.2.1 host ∈ AW) ∧ (q.2.1 k).2.2.2 = false ∧ parseFieldDescriptor (q.2.1 k).2.2.1 = some ty
/-- what the tables say of a class whose objects the worlds hold -/
def lr_Cl (q : vw_C) : Prop := (∀ x ∈ u_ws q.1 q.2.1 q.2.2, x ∈ AW) ∧ (∀ a, a < q.2.2 → ∀ b, b < q.2.2 → a ≠ b → (q.2.1 a).2.1 ≠ (q.2.1 b).2.1) ∧ ∃ ty0 : Nat → FieldType, ∀ k, k < q.2.2 → parseFieldDescriptor (q.2.1 k).2.2.1 = some (ty0 k)
theorem lr_inAll {l : List Cond} (h : l.all (fun x => decide (x ∈ lw_tbl) && aw_ok x) = true) : ∀ x ∈ l, x ∈ AW := by
  intro x hx
  have h1 := List.all_eq_true.mp h x hx
  simp only [Bool.and_eq_true, decide_eq_true_eq] at h1
  exact aw_in h1.1 h1.2
theorem lr_cl0 : lr_Cl (RX0, TX0, 10) := ⟨lr_inAll (by decide +kernel), nmX0, tyX0, tyX0_ok⟩
theorem lr_cl1 : lr_Cl (RX1, TX1, 4) := ⟨lr_inAll (by decide +kernel), nmX1, tyX1, tyX1_ok⟩
theorem lr_cl2 : lr_Cl (RX2, TX2, 8) := ⟨lr_inAll (by decide +kernel), nmX2, tyX2, tyX2_ok⟩
theorem lr_cl3 : lr_Cl (RX3, TX3, 8) := ⟨lr_inAll (by decide +kernel), nmX3, tyX3, tyX3_ok⟩
theorem lr_cl4 : lr_Cl (RX4, TX4, 3) := ⟨lr_inAll (by decide +kernel), nmX4, tyX4, tyX4_ok⟩
theorem lr_cl5 : lr_Cl (RX6, TX6, 11) := ⟨lr_inAll (by decide +kernel), nmX6, tyX6, tyX6_ok⟩
theorem lr_cl6 : lr_Cl (RX7, TX7, 42) := ⟨lr_inAll (by decide +kernel), nmX7, tyX7, tyX7_ok⟩
theorem lr_cls {ci : Nat} {q : vw_C} (h : vwCl[ci]? = some q) : lr_Cl q := by
  match ci, h with
  | 0, h => cases h; exact lr_cl0
  | 1, h => cases h; exact lr_cl1
  | 2, h => cases h; exact lr_cl2
  | 3, h => cases h; exact lr_cl3
  | 4, h => cases h; exact lr_cl4
  | 5, h => cases h; exact lr_cl5
  | 6, h => cases h; exact lr_cl6
  | k + 7, h => simp at h
def up (M : Mem) (t i k : Nat) (x : Int32) : Mem := fun t' => if t' = t then (fun i' => if i' = i then upd (M t i) k x else M t i') else M t'
theorem up_at (M : Mem) (t i k : Nat) (x : Int32) : up M t i k x t i = upd (M t i) k x := by simp [up]
theorem up_of {M : Mem} {t i k : Nat} {x : Int32} {t' i' : Nat} (h : ¬ (t' = t ∧ i' = i)) : up M t i k x t' i' = M t' i' := by
  unfold up
  by_cases h1 : t' = t
  · subst h1
    rw [if_pos rfl]
    exact if_neg fun q => h ⟨rfl, q⟩
  · rw [if_neg h1]
theorem up_eq {M0 M : Mem} {S : Nat → Bool} (hM : ∀ t, S t = false → M0 t = M t) {t i k : Nat} {x : Int32} (hS : S t = false) : ∀ t', S t' = false → up M0 t i k x t' = up M t i k x t' := by
  intro t' ht'
  unfold up
  by_cases h1 : t' = t
  · subst h1
    rw [if_pos rfl, if_pos rfl, hM _ hS]
  · rw [if_neg h1, if_neg h1, hM _ ht']
theorem lr_pos {T : Tb} (w : Wd) (M : Mem) {t i : Nat} (hi : i < lr_cnt T t) : ∃ q0 : Nat, (lr_ids T)[q0]? = some (t, i) ∧ (lr_cells T w M)[q0]? = some (wdA w t i, lr_cell w (M t i) i (lr_sh T t)) := by
  obtain ⟨q0, h⟩ := List.getElem?_of_mem (lr_ids_mem.mpr hi)
  exact ⟨q0, h, by simp [lr_cells, h]⟩
theorem lr_cells_set {T : Tb} {w : Wd} {M M1 : Mem} {A : Nat → Prop} {t i q0 : Nat} (hD : va_D A (lr_cells T w M)) (hq : (lr_ids T)[q0]? = some (t, i)) (hM : ∀ t' i', ¬ (t' = t ∧ i' = i) → M1 t' i' = M t' i') :
    (lr_cells T w M).set q0 (wdA w t i, lr_cell w (M1 t i) i (lr_sh T t)) = lr_cells T w M1 := by
  apply List.ext_getElem?
  intro k
  have hlt : q0 < (lr_cells T w M).length := by
    rw [lr_cells, List.length_map]
    exact (List.getElem?_eq_some_iff.mp hq).1
  rw [List.getElem?_set]
  by_cases e : q0 = k
  · subst e
    rw [if_pos rfl, if_pos hlt]
    simp [lr_cells, hq]
  · rw [if_neg e]
    simp only [lr_cells, List.getElem?_map]
    cases hk : (lr_ids T)[k]? with
    | none => rfl
    | some p =>
      obtain ⟨t', i'⟩ := p
      have hne : ¬ (t' = t ∧ i' = i) := by
        rintro ⟨rfl, rfl⟩
        have g1 : (lr_cells T w M)[q0]? = some (wdA w t' i', lr_cell w (M t' i') i' (lr_sh T t')) := by simp [lr_cells, hq]
        have g2 : (lr_cells T w M)[k]? = some (wdA w t' i', lr_cell w (M t' i') i' (lr_sh T t')) := by simp [lr_cells, hk]
        exact e (hD.1 q0 k _ _ g1 g2 rfl)
      simp [hM t' i' hne]
theorem lr_fv_ne {w : Wd} {f : Nat → Int32} {k jj i : Nat} {x : Int32} {fk : FK} (h : jj ≠ k) : lr_fv w (upd f k x) i jj fk = lr_fv w f i jj fk := by
  unfold lr_fv
  rw [show upd f k x jj = f jj from if_neg h]
theorem lr_fs_set {w : Wd} {f : Nat → Int32} {fks : List FK} {k i : Nat} {x : Int32} {fk : FK} (h : fks[k]? = some fk) {v : Value} (hv : v = lr_fv w (upd f k x) i k fk) :
    (fks.mapIdx (fun jj q => lr_fv w f i jj q)).set k v = fks.mapIdx (fun jj q => lr_fv w (upd f k x) i jj q) := by
  apply List.ext_getElem?
  intro jj
  rw [List.getElem?_set]
  have hlt : k < fks.length := (List.getElem?_eq_some_iff.mp h).1
  by_cases e : k = jj
  · subst e
    rw [if_pos rfl, List.length_mapIdx, if_pos hlt, List.getElem?_mapIdx, h, hv, Option.map_some]
  · rw [if_neg e, List.getElem?_mapIdx, List.getElem?_mapIdx]
    cases fks[jj]? with
    | none => rw [Option.map_none, Option.map_none]
    | some q => rw [Option.map_some, Option.map_some, lr_fv_ne (Ne.symm e)]
section RJ
variable {T : Tb} {S : Nat → Bool} {w : Wd} {d : Nat} {j : MI} {pc n : Nat} {ls : List (Option AV)} {st : List AV} {M : Mem} {Q : Option AV → Mem → Prop}
theorem lr_hts {p : Program} {s : State} {m : MethodId} {meth : Method} {c : Code} (X : lr_Cx T w j p s m meth c) (args : Array Value) : ∀ x ∈ AW, x.before args s = true := fun x hx => aw_args (aw_mem hx) (X.2.2.2.2.2.2.1.1 x hx) args
theorem ri_tsw {lo : Int} {tg : List Nat} {df : Nat} {x : Int32} (hd : lr_TS j pc lo tg df) (kin : lr_swt (fun t z => x = Int32.ofInt z → lr_W T S w d j t ls st M Q) tg lo) (kout : (x.toInt < lo ∨ lo + tg.length ≤ x.toInt) → lr_W T S w d j df ls st M Q) : lr_W T S w d j pc ls (vi x :: st) M Q := by
  intro p e s m args below meth c H locs A X hP hS hL
  obtain ⟨dflt, hi, offs, len, h, h1, h2, h3⟩ := hd
  by_cases hc : x.toInt < lo ∨ lo + tg.length ≤ x.toInt
  · exact lv_tableOut X.1 X.2.1 h (by omega) h2 (kout hc p e s m args below meth c H locs A X hP hS hL)
  · have g1 : ¬ x.toInt < lo := fun q => hc (Or.inl q)
    have g2 : ¬ lo + tg.length ≤ x.toInt := fun q => hc (Or.inr q)
    have hk : (x.toInt - lo).toNat < tg.length := by omega
    have e1 : tg[(x.toInt - lo).toNat]? = some (tg[(x.toInt - lo).toNat]'hk) := List.getElem?_eq_getElem hk
    have e2 : (offs.toList.map (fun o => (pc : Int) + o))[(x.toInt - lo).toNat]? = (tg.map Int.ofNat)[(x.toInt - lo).toNat]? := by rw [h3]
    rw [List.getElem?_map, List.getElem?_map, e1, Array.getElem?_toList] at e2
    cases ho : offs[(x.toInt - lo).toNat]? with
    | none => rw [ho] at e2; simp at e2
    | some off =>
      rw [ho] at e2
      have e3 : (pc : Int) + off = ((tg[(x.toInt - lo).toNat]'hk : Nat) : Int) := by simpa using e2
      refine lv_tableIn X.1 X.2.1 h g1 (by omega) ho e3 ?_
      refine lr_swt_get kin _ _ e1 ?_ p e s m args below meth c H locs A X hP hS hL
      rw [show lo + (((x.toInt - lo).toNat : Nat) : Int) = x.toInt by omega]
      exact (Int32.ofInt_toInt x).symm
theorem ri_get {idx ci k t i : Nat} {fk : FK} (hd : lr_F j pc (.getfield idx) 3 n) (hf : lr_FL j.1.cls idx ci k) (hk : lr_fk T t ci k = some fk) (hS : S t = false) (hi : i < lr_cnt T t) {v : AV} (hv : emb w v = lr_fv w (M t i) i k fk) (nx : lr_W T S w d j n ls (v :: st) M Q) : lr_W T S w d j pc ls (vo t i :: st) M Q := by
  intro p e s m args below meth c H locs A X hP hS' hL
  have nx' := nx p e s m args below meth c H locs A X hP hS' hL
  obtain ⟨M0, hM, hP, hD⟩ := hP
  obtain ⟨q0, hq0, he⟩ := lr_pos w M0 hi
  obtain ⟨h, rfl⟩ := hd
  obtain ⟨⟨C, TT, N⟩, hc, hkN, hlk⟩ := hf
  obtain ⟨hin, hnm, ty0, hty⟩ := lr_cls hc
  unfold lr_fk at hk
  cases hsh : lr_sh T t with
  | inl z => rw [hsh] at hk; cases hk
  | inr z =>
    cases z with
    | inl z => rw [hsh] at hk; cases hk
    | inr z =>
      rw [hsh] at hk he
      dsimp only at hk
      split at hk
      · rename_i e1
        subst e1
        have hfs : (z.2.mapIdx (fun jj q => lr_fv w (M0 t i) i jj q))[k]? = some (emb w v) := by
          rw [List.getElem?_mapIdx, hk, hv, ← hM t hS]
          rfl
        have hts := lr_hts X args
        rcases hlk with hlk | ⟨host, hlk⟩
        · exact va_get (fs := z.2.mapIdx (fun jj q => lr_fv w (M0 t i) i jj q)) X.1 X.2.1 hts hin X.2.2.2.1 X.2.2.2.2.2.2.1.2.1 hP q0 he hc k hkN (hts _ hlk) (fun _ h9 => h9) hfs h nx'
        · exact va_getN (fs := z.2.mapIdx (fun jj q => lr_fv w (M0 t i) i jj q)) X.1 X.2.1 hts hin X.2.2.2.1 X.2.2.2.2.2.2.1.2.1 hP q0 he hc k hkN (hts _ hlk) (fun _ h9 => h9) hfs h nx'
      · cases hk
theorem ri_put {idx ci k t i : Nat} {fk : FK} {ty : FieldType} {v : AV} {x : Int32} (hd : lr_F j pc (.putfield idx) 3 n) (hf : lr_FP j.1.cls idx ci k ty) (hk : lr_fk T t ci k = some fk) (hS : S t = false) (hi : i < lr_cnt T t) (hv : emb w v = lr_fv w (upd (M t i) k x) i k fk) (hn : narrow ty (emb w v) = emb w v) (hfit : fits ty (emb w v) = true) (nx : ∀ M1, M1 = up M t i k x → lr_W T S w d j n ls st M1 Q) : lr_W T S w d j pc ls (v :: vo t i :: st) M Q := by
  intro p e s m args below meth c H locs A X hP hS' hL
  have nx' := fun H1 locs1 hP1 hS1 => nx _ rfl p e s m args below meth c H1 locs1 A X hP1 hS1 hL
  obtain ⟨M0, hM, hP, hD⟩ := hP
  obtain ⟨q0, hq0, he⟩ := lr_pos w M0 hi
  obtain ⟨h, rfl⟩ := hd
  obtain ⟨⟨C, TT, N⟩, hc, hkN, hlk, hfin, hpd⟩ := hf
  obtain ⟨hin, hnm, ty0, hty⟩ := lr_cls hc
  unfold lr_fk at hk
  cases hsh : lr_sh T t with
  | inl z => rw [hsh] at hk; cases hk
  | inr z =>
    cases z with
    | inl z => rw [hsh] at hk; cases hk
    | inr z =>
      rw [hsh] at hk he
      dsimp only at hk
      split at hk
      · rename_i e1
        subst e1
        have hl : k < (z.2.mapIdx (fun jj q => lr_fv w (M0 t i) i jj q)).length := by rw [List.length_mapIdx]; exact (List.getElem?_eq_some_iff.mp hk).1
        have hts := lr_hts X args
        have hset : (lr_cells T w M0).set q0 (wdA w t i, .inr (z.1, (z.2.mapIdx (fun jj q => lr_fv w (M0 t i) i jj q)).set k (emb w v))) = lr_cells T w (up M0 t i k x) := by
          rw [← lr_cells_set (M1 := up M0 t i k x) hD hq0 (fun t' i' hne => up_of hne), up_at, hsh]
          rw [lr_fs_set (x := x) hk (by rw [hv, hM t hS])]
          rfl
        have fin : ∀ (H1 : Heap) (locs1 : List Loc), va_P (wdG w) vwCl ((lr_cells T w M0).set q0 (wdA w t i, .inr (z.1, (z.2.mapIdx (fun jj q => lr_fv w (M0 t i) i jj q)).set k (emb w v)))) H1 → va_D (lr_R T w) ((lr_cells T w M0).set q0 (wdA w t i, .inr (z.1, (z.2.mapIdx (fun jj q => lr_fv w (M0 t i) i jj q)).set k (emb w v)))) → va_S (lr_R T w) s.heap H1 locs1 → W p w.1 e (lr_rm d) s m args below meth c H1 locs1 0 0 (MQ below (lr_Q T S w Q) args s 0 0 (lr_R T w)) (F0 m (pc + 3) A (st.map (emb w))) := by
          intro H1 locs1 a1 a2 a3
          rw [hset] at a1 a2
          exact nx' H1 locs1 ⟨up M0 t i k x, up_eq hM hS, a1, a2⟩ a3
        rcases hlk with hlk | ⟨host, hlk⟩
        · exact va_put X.1 X.2.1 hts hin ty0 hty hnm X.2.2.2.1 X.2.2.2.2.2.2.1.2.1 hP hD hS' q0 he hc k hkN (hts _ hlk) (fun _ h9 => h9) hfin hpd hn hfit hl h fin
        · exact va_putN X.1 X.2.1 hts hin ty0 hty hnm X.2.2.2.1 X.2.2.2.2.2.2.1.2.1 hP hD hS' q0 he hc k hkN (hts _ hlk) (fun _ h9 => h9) hfin hpd hn hfit hl h fin
      · cases hk
theorem ri_getI {idx ci k t i : Nat} (hd : lr_F j pc (.getfield idx) 3 n) (hf : lr_FL j.1.cls idx ci k) (hk : lr_fk T t ci k = some (0, 0, 0)) (hS : S t = false) (hi : i < lr_cnt T t) (nx : lr_W T S w d j n ls (vi (M t i k) :: st) M Q) : lr_W T S w d j pc ls (vo t i :: st) M Q := ri_get hd hf hk hS hi rfl nx
theorem ri_getR {idx ci k t i t' i' : Nat} {fk : FK} (hd : lr_F j pc (.getfield idx) 3 n) (hf : lr_FL j.1.cls idx ci k) (hk : lr_fk T t ci k = some fk) (hS : S t = false) (hi : i < lr_cnt T t) (hv : (fk.1 = 1 ∧ fk.2.1 = t' ∧ i' = i) ∨ (fk.1 = 2 ∧ fk.2.1 = t' ∧ fk.2.2 = i')) (nx : lr_W T S w d j n ls (vo t' i' :: st) M Q) : lr_W T S w d j pc ls (vo t i :: st) M Q := by
  refine ri_get hd hf hk hS hi ?_ nx
  obtain ⟨a, b, c⟩ := fk
  rcases hv with ⟨e1, e2, e3⟩ | ⟨e1, e2, e3⟩ <;> (dsimp only at e1 e2 e3; subst e1; subst e2; subst e3; rfl)
theorem ri_getV {idx ci k t i t' : Nat} (hd : lr_F j pc (.getfield idx) 3 n) (hf : lr_FL j.1.cls idx ci k) (hk : lr_fk T t ci k = some (3, t', 0)) (hS : S t = false) (hi : i < lr_cnt T t) (nx : lr_W T S w d j n ls (vo t' (M t i k).toNatClampNeg :: st) M Q) : lr_W T S w d j pc ls (vo t i :: st) M Q := ri_get hd hf hk hS hi rfl nx
theorem ri_putI {idx ci k t i : Nat} {x : Int32} (hd : lr_F j pc (.putfield idx) 3 n) (hf : lr_FP j.1.cls idx ci k .int) (hk : lr_fk T t ci k = some (0, 0, 0)) (hS : S t = false) (hi : i < lr_cnt T t) (nx : ∀ M1, M1 = up M t i k x → lr_W T S w d j n ls st M1 Q) : lr_W T S w d j pc ls (vi x :: vo t i :: st) M Q :=
  ri_put (x := x) hd hf hk hS hi (by show Value.int x = Value.int (upd (M t i) k x k); rw [show upd (M t i) k x k = x from if_pos rfl]) rfl rfl nx
theorem ri_putZ {idx ci k t i : Nat} {x : Int32} (hd : lr_F j pc (.putfield idx) 3 n) (hf : lr_FP j.1.cls idx ci k .boolean) (hk : lr_fk T t ci k = some (0, 0, 0)) (hS : S t = false) (hi : i < lr_cnt T t) (hx : x = 0 ∨ x = 1) (nx : ∀ M1, M1 = up M t i k x → lr_W T S w d j n ls st M1 Q) : lr_W T S w d j pc ls (vi x :: vo t i :: st) M Q :=
  ri_put (x := x) hd hf hk hS hi (by show Value.int x = Value.int (upd (M t i) k x k); rw [show upd (M t i) k x k = x from if_pos rfl]) (by rcases hx with rfl | rfl <;> rfl) (by rcases hx with rfl | rfl <;> rfl) nx
theorem ri_putV {idx ci k t i t' i' : Nat} {C : String} (hd : lr_F j pc (.putfield idx) 3 n) (hf : lr_FP j.1.cls idx ci k (.object C)) (hk : lr_fk T t ci k = some (3, t', 0)) (hS : S t = false) (hi : i < lr_cnt T t) (hb : (nI i').toNatClampNeg = i') (nx : ∀ M1, M1 = up M t i k (nI i') → lr_W T S w d j n ls st M1 Q) : lr_W T S w d j pc ls (vo t' i' :: vo t i :: st) M Q :=
  ri_put (x := nI i') hd hf hk hS hi (by show Value.ref (wdA w t' i') = Value.ref (wdA w t' (upd (M t i) k (nI i') k).toNatClampNeg); rw [show upd (M t i) k (nI i') k = nI i' from if_pos rfl, hb]) rfl rfl nx
end RJ
end
section
/-! rows of the walk: arrays, calls, ends, entries -/
def lr_ML (own : String) (idx : Nat) (y : MethodName) : Prop := Cond.methodLink own idx y ∈ AW ∨ ∃ host, Cond.methodLinkNest own idx y host ∈ AW
def lr_MG (j : MI) (n : Nat) : Prop := (Cond.code j.1 j.2.1 j.2.2.1 j.2.2.2 ∈ AW ∧ Cond.initialized j.1.cls ∈ AW) ∧ (j.1.cls ≠ "java/lang/invoke/MethodHandle" ∧ j.1.cls ≠ "java/lang/invoke/VarHandle" ∧ (parseMethodDescriptor j.1.desc).map (fun d => d.parameters.length) = some n) ∧ j.2.2.1 ≤ 21
def lr_MV (j : MI) (n : Nat) : Prop := lr_MG j n ∧ Cond.instanceMethod j.1 ∈ AW ∧ Cond.selects j.1.cls j.1 j.1 ∈ AW
def lr_MS (j : MI) (n : Nat) : Prop := lr_MG j n ∧ Cond.static j.1 ∈ AW
/-- an object of the class C -/
def lr_ci (T : Tb) (t : Nat) : Option Nat := match lr_sh T t with
  | .inr (.inr q) => some q.1
  | _ => none
def lr_Rc (T : Tb) (C : String) (t i : Nat) : Prop := (∃ (ci : Nat) (q : vw_C), lr_ci T t = some ci ∧ vwCl[ci]? = some q ∧ q.1 = C ∧ i < lr_cnt T t) ∨ (t = 99 ∧ i < lr_nstr ∧ C = "java/lang/String")
def lr_c2 (v : AV) : Nat := match v with
  | .inr (.inl _) => 2
  | _ => 1
theorem lr_c2_eq (w : Wd) (v : AV) : (emb w v).category = lr_c2 v := by
  rcases v with x | x | x | x
  · rfl
  · rfl
  · rfl
  · cases x <;> rfl
theorem lr_c2_sum (w : Wd) (l : List AV) : ((l.map (emb w)).map fun v => v.category).sum = (l.map lr_c2).sum := by
  rw [List.map_map]
  exact congrArg (fun f => (l.map f).sum) (funext fun v => lr_c2_eq w v)
theorem lr_Base.warm {w : Wd} {s U : State} (hW : s.WarmedH U.vm) (h : lr_Base w s) : lr_Base w U :=
  ⟨fun x hx => aw_warm (aw_mem hx) hW (h.1 x hx), va_K.moved hW.alike h.2.1, fun k q hq => vk_R.warm hW (h.2.2 k q hq)⟩
theorem lr_Str.moved {A : Nat → Prop} {w : Wd} {s U : State} {H : Heap} (hW : s.vm.Alike U.vm) (h : lr_Str A w s H) : lr_Str A w U H :=
  ⟨vk_S.moved hW h.1, va_Z.moved hW h.2.1, h.2.2.imp fun _ q => va_Z.moved hW q⟩
theorem lr_Str.kept {A : Nat → Prop} {w : Wd} {U : State} {H H1 : Heap} (h : lr_Str A w U H) (hq : ∀ a : Nat, a < H.size → ¬ A a → H1[a]? = H[a]?) : lr_Str A w U H1 :=
  ⟨vk_S.kept h.1 hq, va_Z.kept h.2.1 hq, h.2.2.imp fun _ q => va_Z.kept q hq⟩
theorem lr_Inv.calling {T : Tb} {S : Nat → Bool} {w : Wd} {M : Mem} {as : List Value} : FrameBlind (va_Pc as (lr_Inv T S w M)) := by
  intro a U g mk h
  obtain ⟨h1, h2, h3, h4⟩ := h
  exact ⟨h1, h2, lr_Base.warm (s := U) (State.WarmedH.refl U) h3, lr_Str.moved (s := U) (Vm.Alike.refl U.vm) h4⟩
theorem lr_wordc {j : MI} {n : Nat} (hM : lr_MG j n) {w : Wd} {s : State} (hB : lr_Base w s) : ∀ x ∈ [Cond.code j.1 j.2.1 j.2.2.1 j.2.2.2], ∀ (a' : Array Value) (U : State), s.WarmedH U.vm → x.before a' U = true := by
  intro x hx a' U hW
  rw [List.mem_singleton.mp hx]
  exact aw_args (aw_mem hM.1.1) (aw_warm (aw_mem hM.1.1) hW (hB.1 _ hM.1.1)) a'
section RK
variable {T : Tb} {S : Nat → Bool} {w : Wd} {d : Nat} {j : MI} {pc n : Nat} {ls : List (Option AV)} {st : List AV} {M : Mem} {Q : Option AV → Mem → Prop}
theorem lr_run {p : Program} {e : Env} {s : State} {m : MethodId} {args : Array Value} {below : List Frame} {meth : Method} {c : Code} {H : Heap} {locs : List Loc} {A : Array Slot} {a : Array Value} {Q' : Option AV → Mem → Prop} {st0 : List Value} {rest : List AV}
    (hr : va_Run p w.1 e (lr_rm d) s m args below meth c H locs 0 0 0 0 (F0 m pc A st0) (rest.map (emb w)) (lr_Q T S w Q' a) (lr_R T w)) (X : lr_Cx T w j p s m meth c) (hS : va_S (lr_R T w) s.heap H locs) (hL : lr_L w j.2.2.1 ls A)
    (nx : ∀ r M', Q' r M' → lr_W T S w d j (pc + 3) ls (r.toList ++ rest) M' Q) : W p w.1 e (lr_rm d) s m args below meth c H locs 0 0 (MQ below (lr_Q T S w Q) args s 0 0 (lr_R T w)) (F0 m pc A st0) := by
  intro T0 hT0 X0
  obtain ⟨v, st₀, t, T', L, h0, X', hLf, e1, e2, ⟨⟨r, M', hv, hq, hp⟩, hz, hk⟩, stp⟩ := hr T0 hT0 X0
  have hv2 : v = r.map (emb w) := by cases hv; rfl
  subst hv2
  rw [h0] at hz hk
  have hS2 : va_S (lr_R T w) s.heap T'.heap (locs ++ L) := ⟨Nat.le_trans hS.1 (by rw [e1]; exact hz), fun q h1 h2 => by rw [e1, hk q (Nat.lt_of_lt_of_le h1 hS.1) h2]; exact hS.2.1 q h1 h2, fun q hq => by
    rcases List.mem_append.mp hq with h | h
    · exact hS.2.2 q h
    · exact hLf q h⟩
  have hstk : (r.map (emb w)).toList ++ rest.map (emb w) = (r.toList ++ rest).map (emb w) := by cases r <;> simp
  obtain ⟨t2, a1, b1⟩ := nx r M' hq p e s m args below meth c T'.heap (locs ++ L) A X (by rw [e1]; exact hp) hS2 hL T' rfl X'
  refine ⟨t2, stp t2 ?_, b1⟩
  rw [← hstk] at a1
  exact a1
theorem lr_pre {p : Program} {s : State} {m : MethodId} {meth : Method} {c : Code} {H : Heap} {locs : List Loc} (X : lr_Cx T w j p s m meth c) (hP : lr_P T S w M H) (hS : va_S (lr_R T w) s.heap H locs) {as : List AV} : ∀ U : State, U.heap = H → s.WarmedH U.vm → va_Pc (as.map (emb w)) (lr_Inv T S w M) (as.map (emb w)).toArray U := by
  intro U hU hW
  refine ⟨rfl, by rw [hU]; exact hP, lr_Base.warm hW X.2.2.2.2.2.2.1, ?_⟩
  rw [hU]
  exact lr_Str.kept (lr_Str.moved hW.alike X.2.2.2.2.2.2.2) hS.2.1
theorem lr_cb {idx d' : Nat} {j' : MI} {np : Nat} {s : State} {args : Array Value} (hts : ∀ x ∈ AW, x.before args s = true) (hB : lr_Base w s) (hG : lr_MG j' np) (hl : Cond.methodLink j.1.cls idx j'.1 ∈ AW) (hdd : d' + 1 ≤ d) :
    CallB (lr_rm d) s args j.1.cls idx j'.1 j'.2.1 j'.2.2.1 j'.2.2.2 [.code j'.1 j'.2.1 j'.2.2.1 j'.2.2.2] (lr_rm d') 0 0 np := by
  refine ⟨rfl, rfl, hdd, ?_, lr_wordc hG hB, List.mem_singleton.mpr rfl, hts _ hG.1.1, hts _ hG.1.2, ⟨hG.2.1.1, hG.2.1.2.1⟩, fun sig h => ?_, hts _ hl⟩
  · have := hG.2.2
    show 8 + (j'.2.2.1 + 11) + 40 * d' ≤ 40 * d
    omega
  · have h2 := hG.2.1.2.2
    rw [h] at h2
    exact (Option.some.inj h2).symm
theorem lr_cn {idx d' : Nat} {j' : MI} {np : Nat} {host : String} {s : State} {args : Array Value} (hts : ∀ x ∈ AW, x.before args s = true) (hB : lr_Base w s) (hG : lr_MG j' np) (hl : Cond.methodLinkNest j.1.cls idx j'.1 host ∈ AW) (hdd : d' + 1 ≤ d) :
    va_CN (lr_rm d) s args j.1.cls idx j'.1 host j'.2.1 j'.2.2.1 j'.2.2.2 [.code j'.1 j'.2.1 j'.2.2.1 j'.2.2.2] (lr_rm d') 0 0 np := by
  refine ⟨⟨rfl, rfl, hdd, ?_, lr_wordc hG hB, List.mem_singleton.mpr rfl⟩, hts _ hG.1.1, hts _ hG.1.2, ⟨hG.2.1.1, hG.2.1.2.1⟩, fun sig h => ?_, hts _ hl⟩
  · have := hG.2.2
    show 8 + (j'.2.2.1 + 11) + 40 * d' ≤ 40 * d
    omega
  · have h2 := hG.2.1.2.2
    rw [h] at h2
    exact (Option.some.inj h2).symm
theorem lr_recv {p : Program} {s : State} {m : MethodId} {meth : Method} {c : Code} {H : Heap} {locs : List Loc} (X : lr_Cx T w j p s m meth c) (hP : lr_P T S w M H) (hS : va_S (lr_R T w) s.heap H locs) {C : String} {t i : Nat} (hr : lr_Rc T C t i) : ∃ cellB : Cell, H[wdA w t i]? = some cellB ∧ cellB.vm.isStatics = false ∧ s.vm.findClass C = some cellB.cls := by
  rcases hr with ⟨ci, q, h1, h2, rfl, h4⟩ | ⟨rfl, h2, rfl⟩
  · obtain ⟨M0, hM, hP, hD⟩ := hP
    obtain ⟨q0, hq0, he⟩ := lr_pos w M0 h4
    unfold lr_ci at h1
    cases hsh : lr_sh T t with
    | inl z => rw [hsh] at h1; cases h1
    | inr z =>
      cases z with
      | inl z => rw [hsh] at h1; cases h1
      | inr z =>
        rw [hsh] at h1 he
        cases h1
        exact va_recv (fs := z.2.mapIdx (fun jj q => lr_fv w (M0 t i) i jj q)) X.2.2.2.2.2.2.1.2.1 hP h2 he
  · obtain ⟨hO, -⟩ := (vk_S.kept X.2.2.2.2.2.2.2.1 hS.2.1).1 i h2
    obtain ⟨cA, g1, g2, g3, -⟩ := hO
    exact ⟨cA, g1, g2, g3⟩
/-- a call of a method of an object -/
theorem ri_cV {idx d' t i nx : Nat} {j' : MI} {as rest : List AV} {Q' : Option AV → Mem → Prop} (hd : lr_F j pc (.invokevirtual idx) 3 nx) (hM : lr_MV j' as.length) (hl : lr_ML j.1.cls idx j'.1) (hr : lr_Rc T j'.1.cls t i) (hdd : d' + 1 ≤ d) (hok : lr_Ok T S w d' j' (vo t i :: as) M Q') (hrs : (rest.map lr_c2).sum ≤ 8) (hst : st = as.reverse ++ vo t i :: rest)
    (k : ∀ r M', Q' r M' → lr_W T S w d j nx ls (r.toList ++ rest) M' Q) : lr_W T S w d j pc ls st M Q := by
  intro p e s m args below meth c H locs A X hP hS hL
  obtain ⟨h, rfl⟩ := hd
  have hts := lr_hts X args
  have hB := X.2.2.2.2.2.2.1
  have hrecv := lr_recv X hP hS hr
  have hstk : st.map (emb w) = (as.map (emb w)).reverse ++ .ref (wdA w t i) :: rest.map (emb w) := by rw [hst]; simp [emb]
  have hroom : 2 * (F0 m pc A (st.map (emb w))).monitorRoom + ((rest.map (emb w)).map fun v => v.category).sum ≤ 8 := by
    rw [lr_c2_sum]
    show 2 * 0 + _ ≤ 8
    omega
  rcases hl with hl | ⟨host, hl⟩
  · exact lr_run (va_runV (nL := j.2.2.1) (As := as.map (emb w)) (rest := rest.map (emb w)) ⟨X.1, X.2.1, X.2.2.1, X.2.2.2.1, hts⟩ hok ⟨lr_cb hts hB hM.1 hl hdd, hts _ hM.2.1, hts _ hM.2.2⟩ ⟨lr_Inv.calling, hrecv, lr_pre (as := vo t i :: as) X hP hS⟩ rfl (List.length_map ..) hL.2.1 hstk hroom h ⟨Nat.le_refl 0, Nat.le_refl 0⟩) X hS hL k
  · exact lr_run (va_runVN (nL := j.2.2.1) (As := as.map (emb w)) (rest := rest.map (emb w)) ⟨X.1, X.2.1, X.2.2.1, X.2.2.2.1, hts⟩ hok ⟨lr_cn hts hB hM.1 hl hdd, hts _ hM.2.1, hts _ hM.2.2⟩ ⟨lr_Inv.calling, hrecv, lr_pre (as := vo t i :: as) X hP hS⟩ rfl (List.length_map ..) hL.2.1 hstk hroom h ⟨Nat.le_refl 0, Nat.le_refl 0⟩) X hS hL k
/-- a call of a static method -/
theorem ri_cS {idx d' nx : Nat} {j' : MI} {as rest : List AV} {Q' : Option AV → Mem → Prop} (hd : lr_F j pc (.invokestatic idx) 3 nx) (hM : lr_MS j' as.length) (hl : lr_ML j.1.cls idx j'.1) (hdd : d' + 1 ≤ d) (hok : lr_Ok T S w d' j' as M Q') (hrs : (rest.map lr_c2).sum ≤ 8) (hst : st = as.reverse ++ rest)
    (k : ∀ r M', Q' r M' → lr_W T S w d j nx ls (r.toList ++ rest) M' Q) : lr_W T S w d j pc ls st M Q := by
  intro p e s m args below meth c H locs A X hP hS hL
  obtain ⟨h, rfl⟩ := hd
  have hts := lr_hts X args
  have hB := X.2.2.2.2.2.2.1
  have hstk : st.map (emb w) = (as.map (emb w)).reverse ++ rest.map (emb w) := by rw [hst]; simp [emb]
  have hroom : 2 * (F0 m pc A (st.map (emb w))).monitorRoom + ((rest.map (emb w)).map fun v => v.category).sum ≤ 8 := by
    rw [lr_c2_sum]
    show 2 * 0 + _ ≤ 8
    omega
  rcases hl with hl | ⟨host, hl⟩
  · exact lr_run (va_runS (nL := j.2.2.1) (As := as.map (emb w)) (rest := rest.map (emb w)) ⟨X.1, X.2.1, X.2.2.1, X.2.2.2.1, hts⟩ hok ⟨lr_cb hts hB hM.1 hl hdd, hts _ hM.2⟩ ⟨lr_Inv.calling, lr_pre (as := as) X hP hS⟩ rfl (List.length_map ..) hL.2.1 hstk hroom h ⟨Nat.le_refl 0, Nat.le_refl 0⟩) X hS hL k
  · exact lr_run (va_runSN (nL := j.2.2.1) (As := as.map (emb w)) (rest := rest.map (emb w)) ⟨X.1, X.2.1, X.2.2.1, X.2.2.2.1, hts⟩ hok ⟨lr_cn hts hB hM.1 hl hdd, hts _ hM.2, trivial⟩ ⟨lr_Inv.calling, lr_pre (as := as) X hP hS⟩ rfl (List.length_map ..) hL.2.1 hstk hroom h ⟨Nat.le_refl 0, Nat.le_refl 0⟩) X hS hL k
-- ends
theorem ri_ireturn {x : Int32} {ty : FieldType} (hd : lr_F j pc .ireturn 1 n) (hr : j.2.2.2 = some ty) (hn : narrow ty (.int x) = .int x) (hq : Q (some (vi x)) M) : lr_W T S w d j pc ls [vi x] M Q := by
  intro p e s m args below meth c H locs A X hP hS hL
  exact W.zret (ty := ty) X.1 X.2.1 (X.2.2.2.2.1.trans hr) hn (fun t ht hW => ⟨⟨some (vi x), M, rfl, hq, by rw [ht]; exact hP⟩, hS.F ht⟩) hS.2.2 hd.1 (hlocks := X.2.2.2.2.2.1)
theorem ri_lreturn {x : Int64} (hd : lr_F j pc .lreturn 1 n) (hr : j.2.2.2 = some .long) (hq : Q (some (vl x)) M) : lr_W T S w d j pc ls [vl x] M Q := by
  intro p e s m args below meth c H locs A X hP hS hL
  exact W.lret X.1 X.2.1 (X.2.2.2.2.1.trans hr) (fun t ht hW => ⟨⟨some (vl x), M, rfl, hq, by rw [ht]; exact hP⟩, hS.F ht⟩) hS.2.2 hd.1 (hlocks := X.2.2.2.2.2.1)
theorem ri_areturn {t i : Nat} {ty : FieldType} (hd : lr_F j pc .areturn 1 n) (hr : j.2.2.2 = some ty) (hty : (∃ C, ty = .object C) ∨ ∃ t, ty = .array t) (hq : Q (some (vo t i)) M) : lr_W T S w d j pc ls [vo t i] M Q := by
  intro p e s m args below meth c H locs A X hP hS hL
  exact W.aret X.1 X.2.1 (X.2.2.2.2.1.trans hr) hty (Or.inr ⟨_, rfl⟩) (fun t0 ht hW => ⟨⟨some (vo t i), M, rfl, hq, by rw [ht]; exact hP⟩, hS.F ht⟩) hS.2.2 hd.1 (hlocks := X.2.2.2.2.2.1)
theorem ri_return (hd : lr_F j pc .return_ 1 n) (hr : j.2.2.2 = none) (hq : Q none M) : lr_W T S w d j pc ls [] M Q := by
  intro p e s m args below meth c H locs A X hP hS hL
  exact W.vret X.1 X.2.1 (X.2.2.2.2.1.trans hr) (fun t ht hW => ⟨⟨none, M, rfl, hq, by rw [ht]; exact hP⟩, hS.F ht⟩) hS.2.2 hd.1 (hlocks := X.2.2.2.2.2.1)
end RK
-- entries
def lr_ef (as : List AV) : List (Option AV) := as.flatMap fun a => match a with
  | .inr (.inl x) => [some (vl x), none]
  | v => [some v]
def lr_ent (as : List AV) (n : Nat) : Option (List (Option AV)) := if (lr_ef as).length ≤ n then some (lr_ef as ++ List.replicate (n - (lr_ef as).length) none) else none
theorem lr_ef_len (w : Wd) (as : List AV) : (lg_sl (as.map (emb w))).length = (lr_ef as).length := by
  induction as with
  | nil => rfl
  | cons a l ih =>
    rcases a with x | x | x | x
    · simpa [lg_sl, lr_ef, emb, Value.category] using ih
    · simpa [lg_sl, lr_ef, emb, Value.category] using ih
    · simpa [lg_sl, lr_ef, emb, Value.category] using ih
    · cases x <;> simpa [lg_sl, lr_ef, emb, va_rf, Value.category] using ih
theorem lr_ef_at (w : Wd) : ∀ (as : List AV) (off i : Nat) (v : AV), (lr_ef as)[i]? = some (some v) → (off + i, emb w v) ∈ lv_args off (as.map (emb w)) := by
  intro as
  induction as with
  | nil => intro off i v h; simp [lr_ef] at h
  | cons a l ih =>
    intro off i v h
    have one : ∀ b : AV, (emb w b).category = 1 → (some b :: lr_ef l)[i]? = some (some v) → (off + i, emb w v) ∈ (off, emb w b) :: lv_args (if (emb w b).category = 2 then off + 2 else off + 1) (l.map (emb w)) := by
      intro b hb h
      cases i with
      | zero => simp at h; subst h; exact List.mem_cons_self
      | succ i =>
        have := ih (off + 1) i v (by simpa using h)
        rw [if_neg (by omega), show off + (i + 1) = off + 1 + i by omega]
        exact List.mem_cons_of_mem _ this
    rcases a with x | x | x | x
    · exact one (vi x) rfl h
    · cases i with
      | zero => simp [lr_ef] at h; subst h; exact List.mem_cons_self
      | succ i =>
        cases i with
        | zero => simp [lr_ef] at h
        | succ i =>
          have := ih (off + 2) i v (by simpa [lr_ef] using h)
          rw [show off + (i + 1 + 1) = off + 2 + i by omega]
          exact List.mem_cons_of_mem _ this
    · exact one (vo x.1 x.2) rfl h
    · exact one (vr x) (by cases x <;> rfl) h
theorem lr_ent_L {w : Wd} {as : List AV} {n : Nat} {ls : List (Option AV)} (h : lr_ent as n = some ls) : lr_L w n ls ((lg_sl (as.map (emb w)) ++ List.replicate (n - (lg_sl (as.map (emb w))).length) Slot.unset).toArray) := by
  unfold lr_ent at h
  split at h
  · rename_i hle
    cases h
    have hE := lv_entry (as.map (emb w)) (n := n) (by rw [lr_ef_len]; exact hle)
    refine ⟨by simp; omega, hE.1, hE.2.1, fun q hq => hE.2.2 q ?_⟩
    obtain ⟨u, h1, h2⟩ := lr_as_mem.mp hq
    obtain ⟨k, x⟩ := q
    dsimp only at h1 h2
    subst h2
    rw [List.getElem?_append] at h1
    split at h1
    · have := lr_ef_at w as 0 k u h1
      simpa using this
    · rw [List.getElem?_replicate] at h1
      split at h1 <;> cases h1
  · cases h
theorem lr_ok {T : Tb} {S : Nat → Bool} {w : Wd} {d : Nat} {j : MI} {as : List AV} {M : Mem} {Q : Option AV → Mem → Prop} {ls : List (Option AV)} (hpl : plainName j.1.cls = true) (hls : lr_ent as j.2.2.1 = some ls) (h : lr_W T S w d j 0 ls [] M Q) : lr_Ok T S w d j as M Q := by
  refine Met.ofW (cc := j.2.1) (maxL := j.2.2.1) (ret := j.2.2.2) hpl rfl ?_
  intro p e s m args below meth c s₁ B hml hv
  obtain ⟨rfl, hP, hB, hSt⟩ := hv
  rw [lg_entry_eq]
  exact h p e s m _ below meth c s.heap [] _ ⟨B.exec, B.bytes, hml, findClass_of_methodNamed B.named, B.returns, B.notSynchronized, hB, hSt⟩ hP va_S.rf (lr_ent_L hls)
end
section
/-! rows of the walk: arrays, the JDK's own members, String constants -/
section RL
variable {T : Tb} {S : Nat → Bool} {w : Wd} {d : Nat} {j : MI} {pc n : Nat} {ls : List (Option AV)} {st : List AV} {M : Mem} {Q : Option AV → Mem → Prop}
theorem lr_al_sh {t len : Nat} (h : lr_al T t = some len) : lr_sh T t = .inl len := by
  unfold lr_al at h
  cases hsh : lr_sh T t with
  | inl z => rw [hsh] at h; cases h; rfl
  | inr z => rw [hsh] at h; cases h
theorem lr_rl_sh {t : Nat} {q : Nat × Nat × Nat} (h : lr_rl T t = some q) : lr_sh T t = .inr (.inl q) := by
  unfold lr_rl at h
  cases hsh : lr_sh T t with
  | inl z => rw [hsh] at h; cases h
  | inr z =>
    cases z with
    | inl z => rw [hsh] at h; cases h; rfl
    | inr z => rw [hsh] at h; cases h
theorem ri_iaload {t i len : Nat} {x : Int32} (hd : lr_F j pc .iaload 1 n) (hsh : lr_al T t = some len) (hS : S t = false) (hi : i < lr_cnt T t) (hin : vp_in x len) (nx : lr_W T S w d j n ls (vi (M t i x.toNatClampNeg) :: st) M Q) : lr_W T S w d j pc ls (vi x :: vo t i :: st) M Q := by
  intro p e s m args below meth c H locs A X hP hS' hL
  have nx' := nx p e s m args below meth c H locs A X hP hS' hL
  obtain ⟨M0, hM, hP, hD⟩ := hP
  obtain ⟨q0, hq0, he⟩ := lr_pos w M0 hi
  obtain ⟨h, rfl⟩ := hd
  rw [lr_al_sh hsh, hM t hS] at he
  exact va_iald X.1 X.2.1 X.2.2.2.2.2.2.1.2.1 hP q0 0 he rfl hin h nx'
theorem ri_iastore {t i len : Nat} {x v : Int32} (hd : lr_F j pc .iastore 1 n) (hsh : lr_al T t = some len) (hS : S t = false) (hi : i < lr_cnt T t) (hin : vp_in x len) (nx : ∀ M1, M1 = up M t i x.toNatClampNeg v → lr_W T S w d j n ls st M1 Q) : lr_W T S w d j pc ls (vi v :: vi x :: vo t i :: st) M Q := by
  intro p e s m args below meth c H locs A X hP hS' hL
  have nx' := fun H1 locs1 hP1 hS1 => nx _ rfl p e s m args below meth c H1 locs1 A X hP1 hS1 hL
  obtain ⟨M0, hM, hP, hD⟩ := hP
  obtain ⟨q0, hq0, he⟩ := lr_pos w M0 hi
  obtain ⟨h, rfl⟩ := hd
  have hsh2 := lr_al_sh hsh
  rw [hsh2] at he
  refine va_iast X.1 X.2.1 X.2.2.2.2.2.2.1.2.1 hP hD hS' q0 0 he rfl hin h (fun H1 locs1 a1 a2 a3 => ?_)
  have hset : (lr_cells T w M0).set q0 (wdA w t i, .inl (wdC w 0, len, .inl (upd (M0 t i) x.toNatClampNeg v))) = lr_cells T w (up M0 t i x.toNatClampNeg v) := by
    rw [← lr_cells_set (M1 := up M0 t i x.toNatClampNeg v) hD hq0 (fun t' i' hne => up_of hne), up_at, hsh2]
    rfl
  rw [hset] at a1 a2
  exact nx' H1 locs1 ⟨_, up_eq hM hS, a1, a2⟩ a3
theorem ri_alen {t i len : Nat} (hd : lr_F j pc .arraylength 1 n) (hsh : lr_al T t = some len) (hi : i < lr_cnt T t) (nx : lr_W T S w d j n ls (vi (nI len) :: st) M Q) : lr_W T S w d j pc ls (vo t i :: st) M Q := by
  intro p e s m args below meth c H locs A X hP hS' hL
  have nx' := nx p e s m args below meth c H locs A X hP hS' hL
  obtain ⟨M0, hM, hP, hD⟩ := hP
  obtain ⟨q0, hq0, he⟩ := lr_pos w M0 hi
  obtain ⟨h, rfl⟩ := hd
  rw [lr_al_sh hsh] at he
  exact va_alen X.1 X.2.1 X.2.2.2.2.2.2.1.2.1 hP q0 0 he rfl rfl h nx'
theorem ri_aaload {t i len t' c0 : Nat} {x : Int32} (hd : lr_F j pc .aaload 1 n) (hsh : lr_rl T t = some (len, t', c0)) (hc : c0 = 1 ∨ c0 = 2) (hi : i < lr_cnt T t) (hin : vp_in x len) (nx : lr_W T S w d j n ls (vo t' x.toNatClampNeg :: st) M Q) : lr_W T S w d j pc ls (vi x :: vo t i :: st) M Q := by
  intro p e s m args below meth c H locs A X hP hS' hL
  have nx' := nx p e s m args below meth c H locs A X hP hS' hL
  obtain ⟨M0, hM, hP, hD⟩ := hP
  obtain ⟨q0, hq0, he⟩ := lr_pos w M0 hi
  obtain ⟨h, rfl⟩ := hd
  rw [lr_rl_sh hsh] at he
  rcases hc with rfl | rfl
  · exact va_aldq (f := fun k => some (wdA w t' k)) X.1 X.2.1 X.2.2.2.2.2.2.1.2.1 hP q0 1 he rfl hin h nx'
  · exact va_aldq (f := fun k => some (wdA w t' k)) X.1 X.2.1 X.2.2.2.2.2.2.1.2.1 hP q0 2 he rfl hin h nx'
-- Math, arraycopy
theorem lr_sz {p : Program} {s : State} {m : MethodId} {meth : Method} {c : Code} {A : Array Slot} (X : lr_Cx T w j p s m meth c) (hL : lr_L w j.2.2.1 ls A) : c.maxLocals = A.size := X.2.2.1.trans hL.2.1.symm
theorem ri_max {idx : Nat} {x y : Int32} (hd : lr_F j pc (.invokestatic idx) 3 n) (h1 : Cond.methodLink j.1.cls idx Lib.Math.max.name ∈ AW) (h2 : Cond.static Lib.Math.max.name ∈ AW ∧ Cond.initialized "java/lang/Math" ∈ AW ∧ Cond.code Lib.Math.max.name Lib.Math.max.code 2 (some .int) ∈ AW) (hdd : 1 ≤ d) (hrs : (st.map lr_c2).sum ≤ 8) (nx : lr_W T S w d j n ls (vi (if x < y then y else x) :: st) M Q) : lr_W T S w d j pc ls (vi y :: vi x :: st) M Q := by
  intro p e s m args below meth c H locs A X hP hS hL
  obtain ⟨h, rfl⟩ := hd
  have hts := lr_hts X args
  refine va_mmax X.1 X.2.1 (lr_sz X hL) X.2.2.2.1 (hts _ h1) (hts _ h2.1) (hts _ h2.2.1) (hts _ h2.2.2) hdd ?_ (Nat.le_refl 0) (Nat.le_refl 0) h (nx p e s m args below meth c H locs A X hP hS hL)
  rw [lr_c2_sum]
  show _ ≤ 40 * d
  omega
theorem ri_min {idx : Nat} {x y : Int32} (hd : lr_F j pc (.invokestatic idx) 3 n) (h1 : Cond.methodLink j.1.cls idx Lib.Math.min.name ∈ AW) (h2 : Cond.static Lib.Math.min.name ∈ AW ∧ Cond.initialized "java/lang/Math" ∈ AW ∧ Cond.code Lib.Math.min.name Lib.Math.min.code 2 (some .int) ∈ AW) (hdd : 1 ≤ d) (hrs : (st.map lr_c2).sum ≤ 8) (nx : lr_W T S w d j n ls (vi (if x > y then y else x) :: st) M Q) : lr_W T S w d j pc ls (vi y :: vi x :: st) M Q := by
  intro p e s m args below meth c H locs A X hP hS hL
  obtain ⟨h, rfl⟩ := hd
  have hts := lr_hts X args
  refine va_mmin X.1 X.2.1 (lr_sz X hL) X.2.2.2.1 (hts _ h1) (hts _ h2.1) (hts _ h2.2.1) (hts _ h2.2.2) hdd ?_ (Nat.le_refl 0) (Nat.le_refl 0) h (nx p e s m args below meth c H locs A X hP hS hL)
  rw [lr_c2_sum]
  show _ ≤ 40 * d
  omega
/-- the memory with one row of numbers changed whole -/
def upr (M : Mem) (t i : Nat) (g : Nat → Int32) : Mem := fun t' => if t' = t then (fun i' => if i' = i then g else M t i') else M t'
theorem upr_at (M : Mem) (t i : Nat) (g : Nat → Int32) : upr M t i g t i = g := by simp [upr]
theorem upr_of {M : Mem} {t i : Nat} {g : Nat → Int32} {t' i' : Nat} (h : ¬ (t' = t ∧ i' = i)) : upr M t i g t' i' = M t' i' := by
  unfold upr
  by_cases h1 : t' = t
  · subst h1
    rw [if_pos rfl]
    exact if_neg fun q => h ⟨rfl, q⟩
  · rw [if_neg h1]
theorem upr_eq {M0 M : Mem} {S : Nat → Bool} (hM : ∀ t, S t = false → M0 t = M t) {t i : Nat} {g : Nat → Int32} (hS : S t = false) : ∀ t', S t' = false → upr M0 t i g t' = upr M t i g t' := by
  intro t' ht'
  unfold upr
  by_cases h1 : t' = t
  · subst h1
    rw [if_pos rfl, if_pos rfl, hM _ hS]
  · rw [if_neg h1, if_neg h1, hM _ ht']
theorem ri_copy {idx t0 i0 t i n0 n1 : Nat} {sp dp k : Int32} (hd : lr_F j pc (.invokestatic idx) 3 n) (h1 : Cond.methodLink j.1.cls idx arraycopyName ∈ AW) (h2 : Cond.native arraycopyName ∈ AW ∧ Cond.static arraycopyName ∈ AW ∧ Cond.initialized "java/lang/System" ∈ AW) (hdd : 1 ≤ d) (hrs : (st.map lr_c2).sum ≤ 8)
    (hs0 : lr_al T t0 = some n0) (hs1 : lr_al T t = some n1) (hS0 : S t0 = false) (hS : S t = false) (hi0 : i0 < lr_cnt T t0) (hi : i < lr_cnt T t) (g1 : ¬ sp < 0) (g2 : ¬ dp < 0) (g3 : ¬ k < 0) (g4 : sp.toNatClampNeg + k.toNatClampNeg ≤ n0) (g5 : dp.toNatClampNeg + k.toNatClampNeg ≤ n1)
    (nx : ∀ M1, M1 = upr M t i (va_cpy (M t0 i0) (M t i) sp.toNatClampNeg dp.toNatClampNeg k.toNatClampNeg) → lr_W T S w d j n ls st M1 Q) : lr_W T S w d j pc ls (vi k :: vi dp :: vo t i :: vi sp :: vo t0 i0 :: st) M Q := by
  intro p e s m args below meth c H locs A X hP hS' hL
  have nx' := fun H1 locs1 hP1 hS1 => nx _ rfl p e s m args below meth c H1 locs1 A X hP1 hS1 hL
  obtain ⟨M0, hM, hP, hD⟩ := hP
  obtain ⟨q0, hq0, he0⟩ := lr_pos w M0 hi0
  obtain ⟨q1, hq1, he1⟩ := lr_pos w M0 hi
  obtain ⟨h, rfl⟩ := hd
  have hts := lr_hts X args
  have hsh := lr_al_sh hs1
  rw [lr_al_sh hs0] at he0
  rw [hsh] at he1
  refine va_copyi X.1 X.2.1 (lr_sz X hL) X.2.2.2.1 (hts _ h1) (hts _ h2.1) (hts _ h2.2.1) (hts _ h2.2.2) X.2.2.2.2.2.2.1.2.1 hP hD hS' q0 q1 0 0 he0 he1 rfl rfl rfl g1 g2 g3 g4 g5 (fun _ _ => rfl) hdd ?_ h (fun H1 locs1 a1 a2 a3 => ?_)
  · rw [lr_c2_sum]
    show _ + (nativeFrameWords "java/lang/System" "arraycopy" 5 + 11) ≤ 40 * d
    have : nativeFrameWords "java/lang/System" "arraycopy" 5 + 11 ≤ 32 := by decide +kernel
    omega
  · have hset : (lr_cells T w M0).set q1 (wdA w t i, .inl (wdC w 0, n1, .inl (va_cpy (M0 t0 i0) (M0 t i) sp.toNatClampNeg dp.toNatClampNeg k.toNatClampNeg))) = lr_cells T w (upr M0 t i (va_cpy (M t0 i0) (M t i) sp.toNatClampNeg dp.toNatClampNeg k.toNatClampNeg)) := by
      rw [← lr_cells_set (M1 := upr M0 t i (va_cpy (M t0 i0) (M t i) sp.toNatClampNeg dp.toNatClampNeg k.toNatClampNeg)) hD hq1 (fun t' i' hne => upr_of hne), upr_at, hsh, hM t0 hS0, hM t hS]
      rfl
    rw [hset] at a1 a2
    exact nx' H1 locs1 ⟨_, upr_eq hM hS, a1, a2⟩ a3
-- Strings
theorem ri_strV {idx k : Nat} (hd : lr_F j pc (.getfield idx) 3 n) (hf : Cond.fieldLink j.1.cls idx "java/lang/String" "value" "[B" ∈ AW) (hk : k < lr_nstr) (nx : lr_W T S w d j n ls (vo 98 k :: st) M Q) : lr_W T S w d j pc ls (vo 99 k :: st) M Q := by
  intro p e s m args below meth c H locs A X hP hS hL
  obtain ⟨h, rfl⟩ := hd
  exact vk_getf X.1 X.2.1 (X.2.2.2.2.2.2.2.1.1 k hk).2.2.1 hS X.2.2.2.1 (lr_hts X args _ hf) (fun _ h9 => h9) h (nx p e s m args below meth c H locs A X hP hS hL)
theorem ri_strC {idx k : Nat} (hd : lr_F j pc (.getfield idx) 3 n) (hf : Cond.fieldLink j.1.cls idx "java/lang/String" "coder" "B" ∈ AW) (hk : k < lr_nstr) (nx : lr_W T S w d j n ls (vi 0 :: st) M Q) : lr_W T S w d j pc ls (vo 99 k :: st) M Q := by
  intro p e s m args below meth c H locs A X hP hS hL
  obtain ⟨h, rfl⟩ := hd
  exact vk_getf X.1 X.2.1 (X.2.2.2.2.2.2.2.1.1 k hk).2.1 hS X.2.2.2.1 (lr_hts X args _ hf) (fun _ h9 => h9) h (nx p e s m args below meth c H locs A X hP hS hL)
theorem ri_strL {k : Nat} (hd : lr_F j pc .arraylength 1 n) (hk : k < lr_nstr) (nx : lr_W T S w d j n ls (vi (nI (lr_slen.getD k 0)) :: st) M Q) : lr_W T S w d j pc ls (vo 98 k :: st) M Q := by
  intro p e s m args below meth c H locs A X hP hS hL
  obtain ⟨h, rfl⟩ := hd
  exact va_tlen X.1 X.2.1 (X.2.2.2.2.2.2.2.1.1 k hk).2.2.2 hS rfl h (nx p e s m args below meth c H locs A X hP hS hL)
theorem ri_strB {k : Nat} {x : Int32} (hd : lr_F j pc .baload 1 n) (hk : k < lr_nstr) (hin : vp_in x (lr_slen.getD k 0)) (nx : lr_W T S w d j n ls (vi ((lr_sbyt.getD k []).getD x.toNatClampNeg 0) :: st) M Q) : lr_W T S w d j pc ls (vi x :: vo 98 k :: st) M Q := by
  intro p e s m args below meth c H locs A X hP hS hL
  obtain ⟨h, rfl⟩ := hd
  exact va_tb X.1 X.2.1 (X.2.2.2.2.2.2.2.1.1 k hk).2.2.2 hS hin rfl h (nx p e s m args below meth c H locs A X hP hS hL)
theorem ri_compact {idx : Nat} (hd : lr_F j pc (.getstatic idx) 3 n) (hf : Cond.fieldLink j.1.cls idx "java/lang/String" "COMPACT_STRINGS" "Z" ∈ AW) (nx : lr_W T S w d j n ls (vi 1 :: st) M Q) : lr_W T S w d j pc ls st M Q := by
  intro p e s m args below meth c H locs A X hP hS hL
  obtain ⟨h, rfl⟩ := hd
  exact va_gets X.1 X.2.1 X.2.2.2.2.2.2.2.2.1 hS X.2.2.2.1 (lr_hts X args _ hf) (fun _ h9 => h9) h (nx p e s m args below meth c H locs A X hP hS hL)
theorem ri_sioobe {idx : Nat} (hd : lr_F j pc (.getstatic idx) 3 n) (hf : Cond.fieldLink j.1.cls idx "jdk/internal/util/Preconditions" "SIOOBE_FORMATTER" "Ljava/util/function/BiFunction;" ∈ AW) (nx : ∀ o, lr_W T S w d j n ls (vr o :: st) M Q) : lr_W T S w d j pc ls st M Q := by
  intro p e s m args below meth c H locs A X hP hS hL
  obtain ⟨h, rfl⟩ := hd
  obtain ⟨o, ho⟩ := X.2.2.2.2.2.2.2.2.2
  exact va_gets X.1 X.2.1 ho hS X.2.2.2.1 (lr_hts X args _ hf) (fun _ h9 => h9) h (nx o p e s m args below meth c H locs A X hP hS hL)
end RL
end
