section
-- ===== PART A: goes FIRST, ahead of the names: the tables' words, and 'selects' of the private methods out of them =====
/-- a private method of a class that the tables say can be made, by its rows of tables_1 -/
def lw_okq (q : MethodName × Nat) : Prop := (q.1.cls ≠ "java/lang/invoke/MethodHandle" ∧ q.1.cls ≠ "java/lang/invoke/VarHandle") ∧ Cond.instantiable q.1.cls q.2 ∈ tables_1 ∧ Cond.privateMethod q.1 ∈ tables_1 ∧ Cond.instanceMethod q.1 ∈ tables_1
theorem lw_p0 : lw_okq (⟨"PrintRacks$Pad", "takes", "(I)Z"⟩, 8) := ⟨⟨by decide +kernel, by decide +kernel⟩, List.mem_of_getElem? (i := 125) (by decide +kernel), List.mem_of_getElem? (i := 252) (by decide +kernel), List.mem_of_getElem? (i := 253) (by decide +kernel)⟩
theorem lw_p1 : lw_okq (⟨"PrintRacks$Pad", "takesLetter", "(IC)Z"⟩, 8) := ⟨⟨by decide +kernel, by decide +kernel⟩, List.mem_of_getElem? (i := 125) (by decide +kernel), List.mem_of_getElem? (i := 257) (by decide +kernel), List.mem_of_getElem? (i := 258) (by decide +kernel)⟩
theorem lw_p2 : lw_okq (⟨"PrintRacks$Pad", "takesBehindHundreds", "(II)Z"⟩, 8) := ⟨⟨by decide +kernel, by decide +kernel⟩, List.mem_of_getElem? (i := 125) (by decide +kernel), List.mem_of_getElem? (i := 261) (by decide +kernel), List.mem_of_getElem? (i := 262) (by decide +kernel)⟩
theorem lw_p3 : lw_okq (⟨"PrintRacks$Pad", "takesEndOfJob", "(I)Z"⟩, 8) := ⟨⟨by decide +kernel, by decide +kernel⟩, List.mem_of_getElem? (i := 125) (by decide +kernel), List.mem_of_getElem? (i := 265) (by decide +kernel), List.mem_of_getElem? (i := 266) (by decide +kernel)⟩
theorem lw_p4 : lw_okq (⟨"PrintRacks$Pad", "endJob", "()V"⟩, 8) := ⟨⟨by decide +kernel, by decide +kernel⟩, List.mem_of_getElem? (i := 125) (by decide +kernel), List.mem_of_getElem? (i := 269) (by decide +kernel), List.mem_of_getElem? (i := 270) (by decide +kernel)⟩
theorem lw_p5 : lw_okq (⟨"PrintRacks$Pad", "takesBehindDue", "(II)Z"⟩, 8) := ⟨⟨by decide +kernel, by decide +kernel⟩, List.mem_of_getElem? (i := 125) (by decide +kernel), List.mem_of_getElem? (i := 274) (by decide +kernel), List.mem_of_getElem? (i := 275) (by decide +kernel)⟩
theorem lw_p6 : lw_okq (⟨"PrintRacks", "isJob", "(I)Z"⟩, 7) := ⟨⟨by decide +kernel, by decide +kernel⟩, List.mem_of_getElem? (i := 10) (by decide +kernel), List.mem_of_getElem? (i := 287) (by decide +kernel), List.mem_of_getElem? (i := 288) (by decide +kernel)⟩
theorem lw_p7 : lw_okq (⟨"PrintRacks", "lateSumOf", "(LPrintRacks$Board;)I"⟩, 7) := ⟨⟨by decide +kernel, by decide +kernel⟩, List.mem_of_getElem? (i := 10) (by decide +kernel), List.mem_of_getElem? (i := 304) (by decide +kernel), List.mem_of_getElem? (i := 305) (by decide +kernel)⟩
theorem lw_p8 : lw_okq (⟨"PrintRacks$Press", "clear", "()V"⟩, 18) := ⟨⟨by decide +kernel, by decide +kernel⟩, List.mem_of_getElem? (i := 49) (by decide +kernel), List.mem_of_getElem? (i := 312) (by decide +kernel), List.mem_of_getElem? (i := 313) (by decide +kernel)⟩
theorem lw_p9 : lw_okq (⟨"PrintRacks$Press", "makeReady", "(LPrintRacks$Board;I)V"⟩, 18) := ⟨⟨by decide +kernel, by decide +kernel⟩, List.mem_of_getElem? (i := 49) (by decide +kernel), List.mem_of_getElem? (i := 316) (by decide +kernel), List.mem_of_getElem? (i := 317) (by decide +kernel)⟩
theorem lw_p10 : lw_okq (⟨"PrintRacks$Press", "printJob", "(LPrintRacks$Board;II)V"⟩, 18) := ⟨⟨by decide +kernel, by decide +kernel⟩, List.mem_of_getElem? (i := 49) (by decide +kernel), List.mem_of_getElem? (i := 323) (by decide +kernel), List.mem_of_getElem? (i := 324) (by decide +kernel)⟩
theorem lw_p11 : lw_okq (⟨"PrintRacks$Press", "whenRacksAreFree", "(III)I"⟩, 18) := ⟨⟨by decide +kernel, by decide +kernel⟩, List.mem_of_getElem? (i := 49) (by decide +kernel), List.mem_of_getElem? (i := 328) (by decide +kernel), List.mem_of_getElem? (i := 329) (by decide +kernel)⟩
theorem lw_p12 : lw_okq (⟨"PrintRacks$Press", "dryJob", "(LPrintRacks$Board;I)V"⟩, 18) := ⟨⟨by decide +kernel, by decide +kernel⟩, List.mem_of_getElem? (i := 49) (by decide +kernel), List.mem_of_getElem? (i := 333) (by decide +kernel), List.mem_of_getElem? (i := 334) (by decide +kernel)⟩
theorem lw_p13 : lw_okq (⟨"PrintRacks", "lateSumIfExchanged", "(II)I"⟩, 7) := ⟨⟨by decide +kernel, by decide +kernel⟩, List.mem_of_getElem? (i := 10) (by decide +kernel), List.mem_of_getElem? (i := 398) (by decide +kernel), List.mem_of_getElem? (i := 399) (by decide +kernel)⟩
theorem lw_p14 : lw_okq (⟨"PrintRacks", "lateSumIfFirst", "(I)I"⟩, 7) := ⟨⟨by decide +kernel, by decide +kernel⟩, List.mem_of_getElem? (i := 10) (by decide +kernel), List.mem_of_getElem? (i := 410) (by decide +kernel), List.mem_of_getElem? (i := 411) (by decide +kernel)⟩
theorem lw_p15 : lw_okq (⟨"PrintRacksModel", "mostNeeded", "()I"⟩, 14) := ⟨⟨by decide +kernel, by decide +kernel⟩, List.mem_of_getElem? (i := 455) (by decide +kernel), List.mem_of_getElem? (i := 520) (by decide +kernel), List.mem_of_getElem? (i := 521) (by decide +kernel)⟩
def lw_privs_1 : List (MethodName × Nat) := [(⟨"PrintRacks$Pad", "takes", "(I)Z"⟩, 8), (⟨"PrintRacks$Pad", "takesLetter", "(IC)Z"⟩, 8), (⟨"PrintRacks$Pad", "takesBehindHundreds", "(II)Z"⟩, 8), (⟨"PrintRacks$Pad", "takesEndOfJob", "(I)Z"⟩, 8), (⟨"PrintRacks$Pad", "endJob", "()V"⟩, 8), (⟨"PrintRacks$Pad", "takesBehindDue", "(II)Z"⟩, 8), (⟨"PrintRacks", "isJob", "(I)Z"⟩, 7), (⟨"PrintRacks", "lateSumOf", "(LPrintRacks$Board;)I"⟩, 7), (⟨"PrintRacks$Press", "clear", "()V"⟩, 18), (⟨"PrintRacks$Press", "makeReady", "(LPrintRacks$Board;I)V"⟩, 18), (⟨"PrintRacks$Press", "printJob", "(LPrintRacks$Board;II)V"⟩, 18), (⟨"PrintRacks$Press", "whenRacksAreFree", "(III)I"⟩, 18), (⟨"PrintRacks$Press", "dryJob", "(LPrintRacks$Board;I)V"⟩, 18), (⟨"PrintRacks", "lateSumIfExchanged", "(II)I"⟩, 7), (⟨"PrintRacks", "lateSumIfFirst", "(I)I"⟩, 7), (⟨"PrintRacksModel", "mostNeeded", "()I"⟩, 14)]
theorem lw_r1 : ∀ q ∈ lw_privs_1, lw_okq q := List.forall_mem_cons.mpr ⟨lw_p0, List.forall_mem_cons.mpr ⟨lw_p1, List.forall_mem_cons.mpr ⟨lw_p2, List.forall_mem_cons.mpr ⟨lw_p3, List.forall_mem_cons.mpr ⟨lw_p4, List.forall_mem_cons.mpr ⟨lw_p5, List.forall_mem_cons.mpr ⟨lw_p6, List.forall_mem_cons.mpr ⟨lw_p7, List.forall_mem_cons.mpr ⟨lw_p8, List.forall_mem_cons.mpr ⟨lw_p9, List.forall_mem_cons.mpr ⟨lw_p10, List.forall_mem_cons.mpr ⟨lw_p11, List.forall_mem_cons.mpr ⟨lw_p12, List.forall_mem_cons.mpr ⟨lw_p13, List.forall_mem_cons.mpr ⟨lw_p14, List.forall_mem_cons.mpr ⟨lw_p15, fun _ h => absurd h List.not_mem_nil⟩⟩⟩⟩⟩⟩⟩⟩⟩⟩⟩⟩⟩⟩⟩⟩
theorem lw_p16 : lw_okq (⟨"PrintRacksModel", "racksOf", "(I)I"⟩, 14) := ⟨⟨by decide +kernel, by decide +kernel⟩, List.mem_of_getElem? (i := 455) (by decide +kernel), List.mem_of_getElem? (i := 524) (by decide +kernel), List.mem_of_getElem? (i := 525) (by decide +kernel)⟩
theorem lw_p17 : lw_okq (⟨"PrintRacksModel", "its", "(II)I"⟩, 14) := ⟨⟨by decide +kernel, by decide +kernel⟩, List.mem_of_getElem? (i := 455) (by decide +kernel), List.mem_of_getElem? (i := 528) (by decide +kernel), List.mem_of_getElem? (i := 529) (by decide +kernel)⟩
theorem lw_p18 : lw_okq (⟨"PrintRacksModel", "racksFor", "(I)I"⟩, 14) := ⟨⟨by decide +kernel, by decide +kernel⟩, List.mem_of_getElem? (i := 455) (by decide +kernel), List.mem_of_getElem? (i := 532) (by decide +kernel), List.mem_of_getElem? (i := 533) (by decide +kernel)⟩
theorem lw_p19 : lw_okq (⟨"PrintRacksModel", "changes", "()V"⟩, 14) := ⟨⟨by decide +kernel, by decide +kernel⟩, List.mem_of_getElem? (i := 455) (by decide +kernel), List.mem_of_getElem? (i := 536) (by decide +kernel), List.mem_of_getElem? (i := 537) (by decide +kernel)⟩
theorem lw_p20 : lw_okq (⟨"PrintRacksModel", "puts", "(IIII)V"⟩, 14) := ⟨⟨by decide +kernel, by decide +kernel⟩, List.mem_of_getElem? (i := 455) (by decide +kernel), List.mem_of_getElem? (i := 545) (by decide +kernel), List.mem_of_getElem? (i := 546) (by decide +kernel)⟩
theorem lw_p21 : lw_okq (⟨"PrintRacksModel", "isJob", "(I)Z"⟩, 14) := ⟨⟨by decide +kernel, by decide +kernel⟩, List.mem_of_getElem? (i := 455) (by decide +kernel), List.mem_of_getElem? (i := 553) (by decide +kernel), List.mem_of_getElem? (i := 554) (by decide +kernel)⟩
theorem lw_p22 : lw_okq (⟨"PrintRacksModel", "moves", "(II)V"⟩, 14) := ⟨⟨by decide +kernel, by decide +kernel⟩, List.mem_of_getElem? (i := 455) (by decide +kernel), List.mem_of_getElem? (i := 557) (by decide +kernel), List.mem_of_getElem? (i := 558) (by decide +kernel)⟩
theorem lw_p23 : lw_okq (⟨"PrintRacksModel", "exchanges", "(II)V"⟩, 14) := ⟨⟨by decide +kernel, by decide +kernel⟩, List.mem_of_getElem? (i := 455) (by decide +kernel), List.mem_of_getElem? (i := 561) (by decide +kernel), List.mem_of_getElem? (i := 562) (by decide +kernel)⟩
theorem lw_p24 : lw_okq (⟨"PrintRacksModel", "lateAll", "()I"⟩, 14) := ⟨⟨by decide +kernel, by decide +kernel⟩, List.mem_of_getElem? (i := 455) (by decide +kernel), List.mem_of_getElem? (i := 569) (by decide +kernel), List.mem_of_getElem? (i := 570) (by decide +kernel)⟩
theorem lw_p25 : lw_okq (⟨"PrintRacksModel", "prints", "()V"⟩, 14) := ⟨⟨by decide +kernel, by decide +kernel⟩, List.mem_of_getElem? (i := 455) (by decide +kernel), List.mem_of_getElem? (i := 573) (by decide +kernel), List.mem_of_getElem? (i := 574) (by decide +kernel)⟩
theorem lw_p26 : lw_okq (⟨"PrintRacksModel", "readyFor", "(I)I"⟩, 14) := ⟨⟨by decide +kernel, by decide +kernel⟩, List.mem_of_getElem? (i := 455) (by decide +kernel), List.mem_of_getElem? (i := 577) (by decide +kernel), List.mem_of_getElem? (i := 578) (by decide +kernel)⟩
theorem lw_p27 : lw_okq (⟨"PrintRacksModel", "plateFor", "(I)I"⟩, 14) := ⟨⟨by decide +kernel, by decide +kernel⟩, List.mem_of_getElem? (i := 455) (by decide +kernel), List.mem_of_getElem? (i := 581) (by decide +kernel), List.mem_of_getElem? (i := 582) (by decide +kernel)⟩
theorem lw_p28 : lw_okq (⟨"PrintRacksModel", "washFor", "(I)I"⟩, 14) := ⟨⟨by decide +kernel, by decide +kernel⟩, List.mem_of_getElem? (i := 455) (by decide +kernel), List.mem_of_getElem? (i := 585) (by decide +kernel), List.mem_of_getElem? (i := 586) (by decide +kernel)⟩
theorem lw_p29 : lw_okq (⟨"PrintRacksModel", "taken", "(II)I"⟩, 14) := ⟨⟨by decide +kernel, by decide +kernel⟩, List.mem_of_getElem? (i := 455) (by decide +kernel), List.mem_of_getElem? (i := 589) (by decide +kernel), List.mem_of_getElem? (i := 590) (by decide +kernel)⟩
theorem lw_p30 : lw_okq (⟨"PrintRacksModel", "dry", "(I)I"⟩, 14) := ⟨⟨by decide +kernel, by decide +kernel⟩, List.mem_of_getElem? (i := 455) (by decide +kernel), List.mem_of_getElem? (i := 593) (by decide +kernel), List.mem_of_getElem? (i := 594) (by decide +kernel)⟩
theorem lw_p31 : lw_okq (⟨"PrintRacksModel", "sumOf", "(I)I"⟩, 14) := ⟨⟨by decide +kernel, by decide +kernel⟩, List.mem_of_getElem? (i := 455) (by decide +kernel), List.mem_of_getElem? (i := 597) (by decide +kernel), List.mem_of_getElem? (i := 598) (by decide +kernel)⟩
def lw_privs_2 : List (MethodName × Nat) := [(⟨"PrintRacksModel", "racksOf", "(I)I"⟩, 14), (⟨"PrintRacksModel", "its", "(II)I"⟩, 14), (⟨"PrintRacksModel", "racksFor", "(I)I"⟩, 14), (⟨"PrintRacksModel", "changes", "()V"⟩, 14), (⟨"PrintRacksModel", "puts", "(IIII)V"⟩, 14), (⟨"PrintRacksModel", "isJob", "(I)Z"⟩, 14), (⟨"PrintRacksModel", "moves", "(II)V"⟩, 14), (⟨"PrintRacksModel", "exchanges", "(II)V"⟩, 14), (⟨"PrintRacksModel", "lateAll", "()I"⟩, 14), (⟨"PrintRacksModel", "prints", "()V"⟩, 14), (⟨"PrintRacksModel", "readyFor", "(I)I"⟩, 14), (⟨"PrintRacksModel", "plateFor", "(I)I"⟩, 14), (⟨"PrintRacksModel", "washFor", "(I)I"⟩, 14), (⟨"PrintRacksModel", "taken", "(II)I"⟩, 14), (⟨"PrintRacksModel", "dry", "(I)I"⟩, 14), (⟨"PrintRacksModel", "sumOf", "(I)I"⟩, 14)]
theorem lw_r2 : ∀ q ∈ lw_privs_2, lw_okq q := List.forall_mem_cons.mpr ⟨lw_p16, List.forall_mem_cons.mpr ⟨lw_p17, List.forall_mem_cons.mpr ⟨lw_p18, List.forall_mem_cons.mpr ⟨lw_p19, List.forall_mem_cons.mpr ⟨lw_p20, List.forall_mem_cons.mpr ⟨lw_p21, List.forall_mem_cons.mpr ⟨lw_p22, List.forall_mem_cons.mpr ⟨lw_p23, List.forall_mem_cons.mpr ⟨lw_p24, List.forall_mem_cons.mpr ⟨lw_p25, List.forall_mem_cons.mpr ⟨lw_p26, List.forall_mem_cons.mpr ⟨lw_p27, List.forall_mem_cons.mpr ⟨lw_p28, List.forall_mem_cons.mpr ⟨lw_p29, List.forall_mem_cons.mpr ⟨lw_p30, List.forall_mem_cons.mpr ⟨lw_p31, fun _ h => absurd h List.not_mem_nil⟩⟩⟩⟩⟩⟩⟩⟩⟩⟩⟩⟩⟩⟩⟩⟩
theorem lw_p32 : lw_okq (⟨"PrintRacksModel", "late", "(I)I"⟩, 14) := ⟨⟨by decide +kernel, by decide +kernel⟩, List.mem_of_getElem? (i := 455) (by decide +kernel), List.mem_of_getElem? (i := 601) (by decide +kernel), List.mem_of_getElem? (i := 602) (by decide +kernel)⟩
theorem lw_p33 : lw_okq (⟨"PrintRacksModel", "isOther", "(I)I"⟩, 14) := ⟨⟨by decide +kernel, by decide +kernel⟩, List.mem_of_getElem? (i := 455) (by decide +kernel), List.mem_of_getElem? (i := 605) (by decide +kernel), List.mem_of_getElem? (i := 606) (by decide +kernel)⟩
theorem lw_p34 : lw_okq (⟨"PrintRacksModel", "waits", "(I)I"⟩, 14) := ⟨⟨by decide +kernel, by decide +kernel⟩, List.mem_of_getElem? (i := 455) (by decide +kernel), List.mem_of_getElem? (i := 609) (by decide +kernel), List.mem_of_getElem? (i := 610) (by decide +kernel)⟩
theorem lw_p35 : lw_okq (⟨"PrintRacksModel", "orders", "(I)V"⟩, 14) := ⟨⟨by decide +kernel, by decide +kernel⟩, List.mem_of_getElem? (i := 455) (by decide +kernel), List.mem_of_getElem? (i := 622) (by decide +kernel), List.mem_of_getElem? (i := 623) (by decide +kernel)⟩
theorem lw_p36 : lw_okq (⟨"PrintRacksModel", "greatestOf", "(I)I"⟩, 14) := ⟨⟨by decide +kernel, by decide +kernel⟩, List.mem_of_getElem? (i := 455) (by decide +kernel), List.mem_of_getElem? (i := 637) (by decide +kernel), List.mem_of_getElem? (i := 638) (by decide +kernel)⟩
theorem lw_p37 : lw_okq (⟨"PrintRacksModel", "keeps", "()V"⟩, 14) := ⟨⟨by decide +kernel, by decide +kernel⟩, List.mem_of_getElem? (i := 455) (by decide +kernel), List.mem_of_getElem? (i := 651) (by decide +kernel), List.mem_of_getElem? (i := 652) (by decide +kernel)⟩
theorem lw_p38 : lw_okq (⟨"PrintRacksModel", "comesBack", "()V"⟩, 14) := ⟨⟨by decide +kernel, by decide +kernel⟩, List.mem_of_getElem? (i := 455) (by decide +kernel), List.mem_of_getElem? (i := 655) (by decide +kernel), List.mem_of_getElem? (i := 656) (by decide +kernel)⟩
theorem lw_p39 : lw_okq (⟨"PrintRacksModel", "readsJob", "()Z"⟩, 14) := ⟨⟨by decide +kernel, by decide +kernel⟩, List.mem_of_getElem? (i := 455) (by decide +kernel), List.mem_of_getElem? (i := 690) (by decide +kernel), List.mem_of_getElem? (i := 691) (by decide +kernel)⟩
theorem lw_p40 : lw_okq (⟨"PrintRacksModel", "readsNumber", "(IIII)Z"⟩, 14) := ⟨⟨by decide +kernel, by decide +kernel⟩, List.mem_of_getElem? (i := 455) (by decide +kernel), List.mem_of_getElem? (i := 694) (by decide +kernel), List.mem_of_getElem? (i := 695) (by decide +kernel)⟩
theorem lw_p41 : lw_okq (⟨"PrintRacksModel", "takesOne", "(I)Z"⟩, 14) := ⟨⟨by decide +kernel, by decide +kernel⟩, List.mem_of_getElem? (i := 455) (by decide +kernel), List.mem_of_getElem? (i := 698) (by decide +kernel), List.mem_of_getElem? (i := 699) (by decide +kernel)⟩
theorem lw_p42 : lw_okq (⟨"PrintRacksModel", "isHere", "(II)Z"⟩, 14) := ⟨⟨by decide +kernel, by decide +kernel⟩, List.mem_of_getElem? (i := 455) (by decide +kernel), List.mem_of_getElem? (i := 702) (by decide +kernel), List.mem_of_getElem? (i := 703) (by decide +kernel)⟩
def lw_privs_3 : List (MethodName × Nat) := [(⟨"PrintRacksModel", "late", "(I)I"⟩, 14), (⟨"PrintRacksModel", "isOther", "(I)I"⟩, 14), (⟨"PrintRacksModel", "waits", "(I)I"⟩, 14), (⟨"PrintRacksModel", "orders", "(I)V"⟩, 14), (⟨"PrintRacksModel", "greatestOf", "(I)I"⟩, 14), (⟨"PrintRacksModel", "keeps", "()V"⟩, 14), (⟨"PrintRacksModel", "comesBack", "()V"⟩, 14), (⟨"PrintRacksModel", "readsJob", "()Z"⟩, 14), (⟨"PrintRacksModel", "readsNumber", "(IIII)Z"⟩, 14), (⟨"PrintRacksModel", "takesOne", "(I)Z"⟩, 14), (⟨"PrintRacksModel", "isHere", "(II)Z"⟩, 14)]
theorem lw_r3 : ∀ q ∈ lw_privs_3, lw_okq q := List.forall_mem_cons.mpr ⟨lw_p32, List.forall_mem_cons.mpr ⟨lw_p33, List.forall_mem_cons.mpr ⟨lw_p34, List.forall_mem_cons.mpr ⟨lw_p35, List.forall_mem_cons.mpr ⟨lw_p36, List.forall_mem_cons.mpr ⟨lw_p37, List.forall_mem_cons.mpr ⟨lw_p38, List.forall_mem_cons.mpr ⟨lw_p39, List.forall_mem_cons.mpr ⟨lw_p40, List.forall_mem_cons.mpr ⟨lw_p41, List.forall_mem_cons.mpr ⟨lw_p42, fun _ h => absurd h List.not_mem_nil⟩⟩⟩⟩⟩⟩⟩⟩⟩⟩⟩
def lw_privs : List (MethodName × Nat) := lw_privs_1 ++ (lw_privs_2 ++ (lw_privs_3))
def lw_tbl : List Cond := k2_sels lw_privs ++ tables_1
theorem lw_privs_ok : ∀ q ∈ lw_privs, lw_okq q := by
  show ∀ q ∈ lw_privs_1 ++ (lw_privs_2 ++ (lw_privs_3)), lw_okq q
  exact List.forall_mem_append.mpr ⟨lw_r1, List.forall_mem_append.mpr ⟨lw_r2, lw_r3⟩⟩
-- ===== end of PART A; then your names; then what follows =====
/-! ===== BEGIN words of one list among another's, by their places ===== -/
theorem goodIn_r {big : List Cond} (ws : List Cond) (ps : List Nat) (hp : ws = ps.filterMap (fun i => big[i]?)) (h : ws.all goodWord = true) : GoodIn big ws := by
  intro w hw
  have h1 := List.all_eq_true.mp h w hw
  rw [hp] at hw
  obtain ⟨i, -, hi⟩ := List.mem_filterMap.mp hw
  have hm : w ∈ big := by first | exact List.mem_of_getElem? hi | exact List.getElem?_mem hi
  exact ⟨hm, good_of_word h1⟩
theorem goodIn_app {big a b : List Cond} (ha : GoodIn big a) (hb : GoodIn big b) : GoodIn big (a ++ b) := fun w h => (List.mem_append.mp h).elim (ha w) (hb w)
theorem goodIn_ca {big a b : List Cond} {c : Cond} (ha : GoodIn big (c :: a)) (hb : GoodIn big b) : GoodIn big (c :: (a ++ b)) := fun w h => (List.mem_cons.mp h).elim (fun e => ha w (List.mem_cons.mpr (Or.inl e))) (fun h => (List.mem_append.mp h).elim (fun h => ha w (List.mem_cons.mpr (Or.inr h))) (hb w))
theorem goodIn_sub {big ws : List Cond} (hm : ∀ w ∈ ws, w ∈ big) (h : ws.all goodWord = true) : GoodIn big ws := fun w hw => ⟨hm w hw, good_of_word (List.all_eq_true.mp h w hw)⟩
/-! ===== END ===== -/

/-! ===== BEGIN new T[n][m]: the outer array a place, the inner ones among the pooled ===== -/
/-- f, but v at every address of l -/
def vr_up {α : Type} (f : Nat → α) (l : List Nat) (v : α) : Nat → α := fun a => if a ∈ l then v else f a
theorem vr_up_in {α : Type} {f : Nat → α} {l : List Nat} {v : α} {a : Nat} (h : a ∈ l) : vr_up f l v a = v := if_pos h
theorem vr_up_ne {α : Type} {f : Nat → α} {l : List Nat} {v : α} {a : Nat} (h : a ∉ l) : vr_up f l v a = f a := if_neg h
theorem vr_rows {L l : List Nat} {f : Nat → va_E} {e : va_E} (h : ∀ a, a ∈ l → a ∉ L) : va_pl L f ++ l.map (fun a => (a, e)) = va_pl (L ++ l) (vr_up f l e) := by
  unfold va_pl
  rw [List.map_append]
  congr 1
  · apply List.map_congr_left
    intro a ha
    rw [vr_up_ne (fun q => h a q ha)]
  · apply List.map_congr_left
    intro a ha
    rw [vr_up_in ha]
theorem vr_lay {X rows : va_W} {x : Nat × va_E} {pl : va_W} {D : va_G} {cl : List vw_C} {H : Heap} (hP : va_P D cl (((X ++ pl) ++ [x]) ++ rows) H) : va_P D cl ((X ++ [x]) ++ (pl ++ rows)) H := by
  rw [List.append_assoc (X ++ pl)] at hP
  have h := va_P.swap hP
  rw [← List.append_assoc X] at h
  have h2 := va_P.swap h
  rw [List.append_assoc (X ++ [x])] at h2
  exact h2
theorem vr_layD {X rows : va_W} {x : Nat × va_E} {pl : va_W} {A : Nat → Prop} (hD : va_D A (((X ++ pl) ++ [x]) ++ rows)) : va_D A ((X ++ [x]) ++ (pl ++ rows)) := by
  rw [List.append_assoc (X ++ pl)] at hD
  have h := va_D.swap hD
  rw [← List.append_assoc X] at h
  have h2 := va_D.swap h
  rw [List.append_assoc (X ++ [x])] at h2
  exact h2
theorem vr_outer (c : ClassId) (N h0 : Nat) : ∀ i : Nat, Jvm.Free.Multi.outerC c N h0 i = arrV c N (fun j => va_rf (if j < i then some (h0 + 1 + j) else none))
  | 0 => by
    show ({ cls := c, slots := Array.replicate N .null, vm := .none } : Cell) = _
    rw [arrV_new]
    refine congrArg (arrV c N) (funext fun j => ?_)
    simp [va_rf]
  | i + 1 => by
    show (Jvm.Free.Multi.outerC c N h0 i).setSlot i (.ref (h0 + 1 + i)) = _
    rw [vr_outer c N h0 i, arrV_store]
    refine congrArg (arrV c N) (funext fun j => ?_)
    by_cases e : j = i
    · subst e
      simp [updV, va_rf]
    · by_cases h : j < i
      · simp [updV, e, h, Nat.lt_succ_of_lt h]
      · simp [updV, e, h, show ¬ j < i + 1 by omega]
/-! ===== END ===== -/

/-! ===== BEGIN printed: names, fields, word lists, decode rows ===== -/
def RX0 : String := "PrintRacks$Board"
def TX0 : u_T := fun k => match k with
  | 0 => ("PrintRacks$Board", "settings", "[I", true)
  | 1 => ("PrintRacks$Board", "fields", "[[I", true)
  | _ => ("PrintRacks$Board", "jobs", "I", false)
def tyX0 : Nat → FieldType := fun k => match k with
  | 0 => .array .int
  | 1 => .array (.array .int)
  | _ => .int
abbrev wsX00 : List Cond := u_ws RX0 TX0 3
theorem nmX0 : ∀ a, a < 3 → ∀ b, b < 3 → a ≠ b → (TX0 a).2.1 ≠ (TX0 b).2.1 := by decide +kernel
theorem tyX0_ok : ∀ k, k < 3 → parseFieldDescriptor (TX0 k).2.2.1 = some (tyX0 k) := by decide +kernel
abbrev cX0_init : ByteArray := prog_2_method_1_code
def yX0_init : MethodName := ⟨RX0, "<init>", "()V"⟩
abbrev cX0_copyFrom : ByteArray := prog_2_method_2_code
def yX0_copyFrom : MethodName := ⟨RX0, "copyFrom", "(LPrintRacks$Board;)V"⟩
abbrev cX0_append : ByteArray := prog_2_method_3_code
def yX0_append : MethodName := ⟨RX0, "append", "(IIII)V"⟩
abbrev cX0_appendAll : ByteArray := prog_2_method_4_code
def yX0_appendAll : MethodName := ⟨RX0, "appendAll", "(LPrintRacks$Board;)V"⟩
abbrev cX0_remove : ByteArray := prog_2_method_5_code
def yX0_remove : MethodName := ⟨RX0, "remove", "(I)V"⟩
abbrev cX0_shift : ByteArray := prog_2_method_6_code
def yX0_shift : MethodName := ⟨RX0, "shift", "(II)V"⟩
abbrev cX0_exchange : ByteArray := prog_2_method_7_code
def yX0_exchange : MethodName := ⟨RX0, "exchange", "(II)V"⟩
abbrev cX0_arrange : ByteArray := prog_2_method_8_code
def yX0_arrange : MethodName := ⟨RX0, "arrange", "(LPrintRacks$Board;I)I"⟩
abbrev cX0_placeBy : ByteArray := prog_2_method_9_code
def yX0_placeBy : MethodName := ⟨RX0, "placeBy", "(II)I"⟩
abbrev cX0_mostRacksNeeded : ByteArray := prog_2_method_10_code
def yX0_mostRacksNeeded : MethodName := ⟨RX0, "mostRacksNeeded", "(I)I"⟩
abbrev cX0_hundredsOfAll : ByteArray := prog_2_method_11_code
def yX0_hundredsOfAll : MethodName := ⟨RX0, "hundredsOfAll", "()I"⟩
def RX1 : String := "PrintRacks$History"
def TX1 : u_T := fun k => match k with
  | 0 => ("PrintRacks$History", "kept", "I", false)
  | 1 => ("PrintRacks$History", "states", "[LPrintRacks$Board;", true)
  | _ => ("PrintRacks$History", "next", "I", false)
def tyX1 : Nat → FieldType := fun k => match k with
  | 0 => .int
  | 1 => .array (.object "PrintRacks$Board")
  | _ => .int
abbrev wsX10 : List Cond := u_ws RX1 TX1 3
theorem nmX1 : ∀ a, a < 3 → ∀ b, b < 3 → a ≠ b → (TX1 a).2.1 ≠ (TX1 b).2.1 := by decide +kernel
theorem tyX1_ok : ∀ k, k < 3 → parseFieldDescriptor (TX1 k).2.2.1 = some (tyX1 k) := by decide +kernel
abbrev cX1_init : ByteArray := prog_3_method_1_code
def yX1_init : MethodName := ⟨RX1, "<init>", "()V"⟩
abbrev cX1_remember : ByteArray := prog_3_method_2_code
def yX1_remember : MethodName := ⟨RX1, "remember", "(LPrintRacks$Board;)V"⟩
abbrev cX1_takeBack : ByteArray := prog_3_method_3_code
def yX1_takeBack : MethodName := ⟨RX1, "takeBack", "(LPrintRacks$Board;)V"⟩
def RX2 : String := "PrintRacks$Pad"
def TX2 : u_T := fun k => match k with
  | 0 => ("PrintRacks$Pad", "found", "LPrintRacks$Board;", true)
  | 1 => ("PrintRacks$Pad", "length", "I", false)
  | 2 => ("PrintRacks$Pad", "codes", "[I", true)
  | 3 => ("PrintRacks$Pad", "expected", "I", false)
  | 4 => ("PrintRacks$Pad", "plate", "I", false)
  | 5 => ("PrintRacks$Pad", "shade", "I", false)
  | 6 => ("PrintRacks$Pad", "hundreds", "I", false)
  | _ => ("PrintRacks$Pad", "dueTime", "I", false)
def tyX2 : Nat → FieldType := fun k => match k with
  | 0 => .object "PrintRacks$Board"
  | 1 => .int
  | 2 => .array .int
  | 3 => .int
  | 4 => .int
  | 5 => .int
  | 6 => .int
  | _ => .int
abbrev wsX20 : List Cond := u_ws RX2 TX2 8
theorem nmX2 : ∀ a, a < 8 → ∀ b, b < 8 → a ≠ b → (TX2 a).2.1 ≠ (TX2 b).2.1 := by decide +kernel
theorem tyX2_ok : ∀ k, k < 8 → parseFieldDescriptor (TX2 k).2.2.1 = some (tyX2 k) := by decide +kernel
abbrev cX2_init : ByteArray := prog_4_method_1_code
def yX2_init : MethodName := ⟨RX2, "<init>", "()V"⟩
abbrev cX2_append : ByteArray := prog_4_method_2_code
def yX2_append : MethodName := ⟨RX2, "append", "(I)V"⟩
abbrev cX2_parse : ByteArray := prog_4_method_3_code
def yX2_parse : MethodName := ⟨RX2, "parse", "()I"⟩
abbrev cX2_takes : ByteArray := prog_4_method_4_code
def yX2_takes : MethodName := ⟨RX2, "takes", "(I)Z"⟩
abbrev cX2_takesLetter : ByteArray := prog_4_method_5_code
def yX2_takesLetter : MethodName := ⟨RX2, "takesLetter", "(IC)Z"⟩
abbrev cX2_takesBehindHundreds : ByteArray := prog_4_method_6_code
def yX2_takesBehindHundreds : MethodName := ⟨RX2, "takesBehindHundreds", "(II)Z"⟩
abbrev cX2_takesBehindDue : ByteArray := prog_4_method_7_code
def yX2_takesBehindDue : MethodName := ⟨RX2, "takesBehindDue", "(II)Z"⟩
abbrev cX2_takesEndOfJob : ByteArray := prog_4_method_8_code
def yX2_takesEndOfJob : MethodName := ⟨RX2, "takesEndOfJob", "(I)Z"⟩
abbrev cX2_endJob : ByteArray := prog_4_method_9_code
def yX2_endJob : MethodName := ⟨RX2, "endJob", "()V"⟩
def RX3 : String := "PrintRacks$Press"
def TX3 : u_T := fun k => match k with
  | 0 => ("PrintRacks$Press", "racks", "[I", true)
  | 1 => ("PrintRacks$Press", "wash", "[I", true)
  | 2 => ("PrintRacks$Press", "ready", "[I", true)
  | 3 => ("PrintRacks$Press", "waits", "[I", true)
  | 4 => ("PrintRacks$Press", "begins", "[I", true)
  | 5 => ("PrintRacks$Press", "printed", "[I", true)
  | 6 => ("PrintRacks$Press", "dry", "[I", true)
  | 7 => ("PrintRacks$Press", "late", "[I", true)
  | 8 => ("PrintRacks$Press", "jobs", "I", false)
  | 9 => ("PrintRacks$Press", "lateJobs", "I", false)
  | 10 => ("PrintRacks$Press", "lateSum", "I", false)
  | 11 => ("PrintRacks$Press", "mostLate", "I", false)
  | 12 => ("PrintRacks$Press", "washSum", "I", false)
  | 13 => ("PrintRacks$Press", "platesPutOn", "I", false)
  | 14 => ("PrintRacks$Press", "waitSum", "I", false)
  | 15 => ("PrintRacks$Press", "mostTaken", "I", false)
  | 16 => ("PrintRacks$Press", "taken", "I", false)
  | _ => ("PrintRacks$Press", "oldestDrying", "I", false)
def tyX3 : Nat → FieldType := fun k => match k with
  | 0 => .array .int
  | 1 => .array .int
  | 2 => .array .int
  | 3 => .array .int
  | 4 => .array .int
  | 5 => .array .int
  | 6 => .array .int
  | 7 => .array .int
  | 8 => .int
  | 9 => .int
  | 10 => .int
  | 11 => .int
  | 12 => .int
  | 13 => .int
  | 14 => .int
  | 15 => .int
  | 16 => .int
  | _ => .int
abbrev wsX30 : List Cond := u_ws RX3 TX3 18
theorem nmX3 : ∀ a, a < 18 → ∀ b, b < 18 → a ≠ b → (TX3 a).2.1 ≠ (TX3 b).2.1 := by decide +kernel
theorem tyX3_ok : ∀ k, k < 18 → parseFieldDescriptor (TX3 k).2.2.1 = some (tyX3 k) := by decide +kernel
abbrev cX3_init : ByteArray := prog_5_method_1_code
def yX3_init : MethodName := ⟨RX3, "<init>", "()V"⟩
abbrev cX3_print : ByteArray := prog_5_method_2_code
def yX3_print : MethodName := ⟨RX3, "print", "(LPrintRacks$Board;I)V"⟩
abbrev cX3_clear : ByteArray := prog_5_method_3_code
def yX3_clear : MethodName := ⟨RX3, "clear", "()V"⟩
abbrev cX3_makeReady : ByteArray := prog_5_method_4_code
def yX3_makeReady : MethodName := ⟨RX3, "makeReady", "(LPrintRacks$Board;I)V"⟩
abbrev cX3_washAhead : ByteArray := prog_5_method_5_code
def yX3_washAhead : MethodName := ⟨RX3, "washAhead", "(LPrintRacks$Board;I)I"⟩
abbrev cX3_printJob : ByteArray := prog_5_method_6_code
def yX3_printJob : MethodName := ⟨RX3, "printJob", "(LPrintRacks$Board;II)V"⟩
abbrev cX3_whenRacksAreFree : ByteArray := prog_5_method_7_code
def yX3_whenRacksAreFree : MethodName := ⟨RX3, "whenRacksAreFree", "(III)I"⟩
abbrev cX3_dryJob : ByteArray := prog_5_method_8_code
def yX3_dryJob : MethodName := ⟨RX3, "dryJob", "(LPrintRacks$Board;I)V"⟩
abbrev cX3_lastOf : ByteArray := prog_5_method_9_code
def yX3_lastOf : MethodName := ⟨RX3, "lastOf", "([I)I"⟩
abbrev cX3_jobOnPress : ByteArray := prog_5_method_10_code
def yX3_jobOnPress : MethodName := ⟨RX3, "jobOnPress", "(I)I"⟩
abbrev cX3_racksTaken : ByteArray := prog_5_method_11_code
def yX3_racksTaken : MethodName := ⟨RX3, "racksTaken", "(I)I"⟩
abbrev cX3_reached : ByteArray := prog_5_method_12_code
def yX3_reached : MethodName := ⟨RX3, "reached", "([II)I"⟩
def RX4 : String := "PrintRacks"
def TX4 : u_T := fun k => match k with
  | 0 => ("PrintRacks", "board", "LPrintRacks$Board;", true)
  | 1 => ("PrintRacks", "trial", "LPrintRacks$Board;", true)
  | 2 => ("PrintRacks", "press", "LPrintRacks$Press;", true)
  | 3 => ("PrintRacks", "pad", "LPrintRacks$Pad;", true)
  | 4 => ("PrintRacks", "history", "LPrintRacks$History;", true)
  | 5 => ("PrintRacks", "slots", "[LPrintRacks$Board;", true)
  | _ => ("PrintRacks", "saved", "[Z", true)
def tyX4 : Nat → FieldType := fun k => match k with
  | 0 => .object "PrintRacks$Board"
  | 1 => .object "PrintRacks$Board"
  | 2 => .object "PrintRacks$Press"
  | 3 => .object "PrintRacks$Pad"
  | 4 => .object "PrintRacks$History"
  | 5 => .array (.object "PrintRacks$Board")
  | _ => .array .boolean
abbrev wsX40 : List Cond := u_ws RX4 TX4 7
theorem nmX4 : ∀ a, a < 7 → ∀ b, b < 7 → a ≠ b → (TX4 a).2.1 ≠ (TX4 b).2.1 := by decide +kernel
theorem tyX4_ok : ∀ k, k < 7 → parseFieldDescriptor (TX4 k).2.2.1 = some (tyX4 k) := by decide +kernel
abbrev cX4_init : ByteArray := prog_1_method_1_code
def yX4_init : MethodName := ⟨RX4, "<init>", "()V"⟩
abbrev cX4_set : ByteArray := prog_1_method_2_code
def yX4_set : MethodName := ⟨RX4, "set", "(II)I"⟩
abbrev cX4_job : ByteArray := prog_1_method_3_code
def yX4_job : MethodName := ⟨RX4, "job", "(IIII)I"⟩
abbrev cX4_read : ByteArray := prog_1_method_4_code
def yX4_read : MethodName := ⟨RX4, "read", "()I"⟩
abbrev cX4_drop : ByteArray := prog_1_method_5_code
def yX4_drop : MethodName := ⟨RX4, "drop", "(I)I"⟩
abbrev cX4_move : ByteArray := prog_1_method_6_code
def yX4_move : MethodName := ⟨RX4, "move", "(II)I"⟩
abbrev cX4_due : ByteArray := prog_1_method_7_code
def yX4_due : MethodName := ⟨RX4, "due", "(II)I"⟩
abbrev cX4_order : ByteArray := prog_1_method_8_code
def yX4_order : MethodName := ⟨RX4, "order", "(I)I"⟩
abbrev cX4_jobOf : ByteArray := prog_1_method_9_code
def yX4_jobOf : MethodName := ⟨RX4, "jobOf", "(II)I"⟩
abbrev cX4_count : ByteArray := prog_1_method_10_code
def yX4_count : MethodName := ⟨RX4, "count", "(I)I"⟩
abbrev cX4_at : ByteArray := prog_1_method_11_code
def yX4_at : MethodName := ⟨RX4, "at", "(II)I"⟩
abbrev cX4_ifOrdered : ByteArray := prog_1_method_12_code
def yX4_ifOrdered : MethodName := ⟨RX4, "ifOrdered", "(II)I"⟩
abbrev cX4_bestExchange : ByteArray := prog_1_method_13_code
def yX4_bestExchange : MethodName := ⟨RX4, "bestExchange", "(I)I"⟩
abbrev cX4_bestFirst : ByteArray := prog_1_method_14_code
def yX4_bestFirst : MethodName := ⟨RX4, "bestFirst", "()I"⟩
abbrev cX4_leastRacks : ByteArray := prog_1_method_15_code
def yX4_leastRacks : MethodName := ⟨RX4, "leastRacks", "()I"⟩
abbrev cX4_put : ByteArray := prog_1_method_16_code
def yX4_put : MethodName := ⟨RX4, "put", "(J)I"⟩
abbrev cX4_wipe : ByteArray := prog_1_method_17_code
def yX4_wipe : MethodName := ⟨RX4, "wipe", "()I"⟩
abbrev cX4_fault : ByteArray := prog_1_method_18_code
def yX4_fault : MethodName := ⟨RX4, "fault", "()I"⟩
abbrev cX4_undo : ByteArray := prog_1_method_19_code
def yX4_undo : MethodName := ⟨RX4, "undo", "()I"⟩
abbrev cX4_save : ByteArray := prog_1_method_20_code
def yX4_save : MethodName := ⟨RX4, "save", "(I)I"⟩
abbrev cX4_restore : ByteArray := prog_1_method_21_code
def yX4_restore : MethodName := ⟨RX4, "restore", "(I)I"⟩
abbrev cX4_within : ByteArray := prog_1_method_22_code
def yX4_within : MethodName := ⟨RX4, "within", "(III)Z"⟩
abbrev cX4_isJob : ByteArray := prog_1_method_23_code
def yX4_isJob : MethodName := ⟨RX4, "isJob", "(I)Z"⟩
abbrev cX4_racksFor : ByteArray := prog_1_method_24_code
def yX4_racksFor : MethodName := ⟨RX4, "racksFor", "(II)I"⟩
abbrev cX4_lateSumOf : ByteArray := prog_1_method_25_code
def yX4_lateSumOf : MethodName := ⟨RX4, "lateSumOf", "(LPrintRacks$Board;)I"⟩
abbrev cX4_lateSumIfExchanged : ByteArray := prog_1_method_26_code
def yX4_lateSumIfExchanged : MethodName := ⟨RX4, "lateSumIfExchanged", "(II)I"⟩
abbrev cX4_lateSumIfFirst : ByteArray := prog_1_method_27_code
def yX4_lateSumIfFirst : MethodName := ⟨RX4, "lateSumIfFirst", "(I)I"⟩
abbrev cX4_charactersIn : ByteArray := prog_1_method_28_code
def yX4_charactersIn : MethodName := ⟨RX4, "charactersIn", "(J)I"⟩
def RX5 : String := "PrintRacksModel"
def TX5 : u_T := fun k => match k with
  | 0 => ("PrintRacksModel", "all", "[I", true)
  | 1 => ("PrintRacksModel", "kept", "[I", true)
  | 2 => ("PrintRacksModel", "history", "[I", true)
  | 3 => ("PrintRacksModel", "historyLong", "I", false)
  | 4 => ("PrintRacksModel", "slots", "[I", true)
  | 5 => ("PrintRacksModel", "isSaved", "[I", true)
  | 6 => ("PrintRacksModel", "begins", "[I", true)
  | 7 => ("PrintRacksModel", "printed", "[I", true)
  | 8 => ("PrintRacksModel", "from", "[I", true)
  | 9 => ("PrintRacksModel", "text", "[I", true)
  | 10 => ("PrintRacksModel", "textLong", "I", false)
  | 11 => ("PrintRacksModel", "spot", "I", false)
  | 12 => ("PrintRacksModel", "told", "[I", true)
  | _ => ("PrintRacksModel", "read", "I", false)
def tyX5 : Nat → FieldType := fun k => match k with
  | 0 => .array .int
  | 1 => .array .int
  | 2 => .array .int
  | 3 => .int
  | 4 => .array .int
  | 5 => .array .int
  | 6 => .array .int
  | 7 => .array .int
  | 8 => .array .int
  | 9 => .array .int
  | 10 => .int
  | 11 => .int
  | 12 => .array .int
  | _ => .int
abbrev wsX50 : List Cond := u_ws RX5 TX5 14
theorem nmX5 : ∀ a, a < 14 → ∀ b, b < 14 → a ≠ b → (TX5 a).2.1 ≠ (TX5 b).2.1 := by decide +kernel
theorem tyX5_ok : ∀ k, k < 14 → parseFieldDescriptor (TX5 k).2.2.1 = some (tyX5 k) := by decide +kernel
abbrev cX5_init : ByteArray := prog_7_method_1_code
def yX5_init : MethodName := ⟨RX5, "<init>", "()V"⟩
abbrev cX5_in : ByteArray := prog_7_method_3_code
def yX5_in : MethodName := ⟨RX5, "in", "(JJJ)Z"⟩
abbrev cX5_changes : ByteArray := prog_7_method_4_code
def yX5_changes : MethodName := ⟨RX5, "changes", "()V"⟩
abbrev cX5_keeps : ByteArray := prog_7_method_5_code
def yX5_keeps : MethodName := ⟨RX5, "keeps", "()V"⟩
abbrev cX5_comesBack : ByteArray := prog_7_method_6_code
def yX5_comesBack : MethodName := ⟨RX5, "comesBack", "()V"⟩
abbrev cX5_isJob : ByteArray := prog_7_method_7_code
def yX5_isJob : MethodName := ⟨RX5, "isJob", "(I)Z"⟩
abbrev cX5_its : ByteArray := prog_7_method_8_code
def yX5_its : MethodName := ⟨RX5, "its", "(II)I"⟩
abbrev cX5_racksFor : ByteArray := prog_7_method_9_code
def yX5_racksFor : MethodName := ⟨RX5, "racksFor", "(I)I"⟩
abbrev cX5_racksOf : ByteArray := prog_7_method_10_code
def yX5_racksOf : MethodName := ⟨RX5, "racksOf", "(I)I"⟩
abbrev cX5_exchanges : ByteArray := prog_7_method_11_code
def yX5_exchanges : MethodName := ⟨RX5, "exchanges", "(II)V"⟩
abbrev cX5_moves : ByteArray := prog_7_method_12_code
def yX5_moves : MethodName := ⟨RX5, "moves", "(II)V"⟩
abbrev cX5_washFor : ByteArray := prog_7_method_13_code
def yX5_washFor : MethodName := ⟨RX5, "washFor", "(I)I"⟩
abbrev cX5_plateFor : ByteArray := prog_7_method_14_code
def yX5_plateFor : MethodName := ⟨RX5, "plateFor", "(I)I"⟩
abbrev cX5_readyFor : ByteArray := prog_7_method_15_code
def yX5_readyFor : MethodName := ⟨RX5, "readyFor", "(I)I"⟩
abbrev cX5_dry : ByteArray := prog_7_method_16_code
def yX5_dry : MethodName := ⟨RX5, "dry", "(I)I"⟩
abbrev cX5_taken : ByteArray := prog_7_method_17_code
def yX5_taken : MethodName := ⟨RX5, "taken", "(II)I"⟩
abbrev cX5_prints : ByteArray := prog_7_method_18_code
def yX5_prints : MethodName := ⟨RX5, "prints", "()V"⟩
abbrev cX5_late : ByteArray := prog_7_method_19_code
def yX5_late : MethodName := ⟨RX5, "late", "(I)I"⟩
abbrev cX5_waits : ByteArray := prog_7_method_20_code
def yX5_waits : MethodName := ⟨RX5, "waits", "(I)I"⟩
abbrev cX5_sumOf : ByteArray := prog_7_method_21_code
def yX5_sumOf : MethodName := ⟨RX5, "sumOf", "(I)I"⟩
abbrev cX5_isOther : ByteArray := prog_7_method_22_code
def yX5_isOther : MethodName := ⟨RX5, "isOther", "(I)I"⟩
abbrev cX5_greatestOf : ByteArray := prog_7_method_23_code
def yX5_greatestOf : MethodName := ⟨RX5, "greatestOf", "(I)I"⟩
abbrev cX5_lateAll : ByteArray := prog_7_method_24_code
def yX5_lateAll : MethodName := ⟨RX5, "lateAll", "()I"⟩
abbrev cX5_isSetting : ByteArray := prog_7_method_25_code
def yX5_isSetting : MethodName := ⟨RX5, "isSetting", "(II)Z"⟩
abbrev cX5_mostNeeded : ByteArray := prog_7_method_26_code
def yX5_mostNeeded : MethodName := ⟨RX5, "mostNeeded", "()I"⟩
abbrev cX5_set : ByteArray := prog_7_method_27_code
def yX5_set : MethodName := ⟨RX5, "set", "(II)I"⟩
abbrev cX5_puts : ByteArray := prog_7_method_28_code
def yX5_puts : MethodName := ⟨RX5, "puts", "(IIII)V"⟩
abbrev cX5_job : ByteArray := prog_7_method_29_code
def yX5_job : MethodName := ⟨RX5, "job", "(IIII)I"⟩
abbrev cX5_drop : ByteArray := prog_7_method_30_code
def yX5_drop : MethodName := ⟨RX5, "drop", "(I)I"⟩
abbrev cX5_move : ByteArray := prog_7_method_31_code
def yX5_move : MethodName := ⟨RX5, "move", "(II)I"⟩
abbrev cX5_due : ByteArray := prog_7_method_32_code
def yX5_due : MethodName := ⟨RX5, "due", "(II)I"⟩
abbrev cX5_keyOf : ByteArray := prog_7_method_33_code
def yX5_keyOf : MethodName := ⟨RX5, "keyOf", "(I)I"⟩
abbrev cX5_orders : ByteArray := prog_7_method_34_code
def yX5_orders : MethodName := ⟨RX5, "orders", "(I)V"⟩
abbrev cX5_order : ByteArray := prog_7_method_35_code
def yX5_order : MethodName := ⟨RX5, "order", "(I)I"⟩
abbrev cX5_jobOf : ByteArray := prog_7_method_36_code
def yX5_jobOf : MethodName := ⟨RX5, "jobOf", "(II)I"⟩
abbrev cX5_count : ByteArray := prog_7_method_37_code
def yX5_count : MethodName := ⟨RX5, "count", "(I)I"⟩
abbrev cX5_at : ByteArray := prog_7_method_38_code
def yX5_at : MethodName := ⟨RX5, "at", "(II)I"⟩
abbrev cX5_ifOrdered : ByteArray := prog_7_method_39_code
def yX5_ifOrdered : MethodName := ⟨RX5, "ifOrdered", "(II)I"⟩
abbrev cX5_bestExchange : ByteArray := prog_7_method_40_code
def yX5_bestExchange : MethodName := ⟨RX5, "bestExchange", "(I)I"⟩
abbrev cX5_bestFirst : ByteArray := prog_7_method_41_code
def yX5_bestFirst : MethodName := ⟨RX5, "bestFirst", "()I"⟩
abbrev cX5_leastRacks : ByteArray := prog_7_method_42_code
def yX5_leastRacks : MethodName := ⟨RX5, "leastRacks", "()I"⟩
abbrev cX5_charactersOf : ByteArray := prog_7_method_43_code
def yX5_charactersOf : MethodName := ⟨RX5, "charactersOf", "(J)I"⟩
abbrev cX5_put : ByteArray := prog_7_method_44_code
def yX5_put : MethodName := ⟨RX5, "put", "(J)I"⟩
abbrev cX5_wipe : ByteArray := prog_7_method_45_code
def yX5_wipe : MethodName := ⟨RX5, "wipe", "()I"⟩
abbrev cX5_isHere : ByteArray := prog_7_method_46_code
def yX5_isHere : MethodName := ⟨RX5, "isHere", "(II)Z"⟩
abbrev cX5_takesOne : ByteArray := prog_7_method_47_code
def yX5_takesOne : MethodName := ⟨RX5, "takesOne", "(I)Z"⟩
abbrev cX5_readsNumber : ByteArray := prog_7_method_48_code
def yX5_readsNumber : MethodName := ⟨RX5, "readsNumber", "(IIII)Z"⟩
abbrev cX5_readsJob : ByteArray := prog_7_method_49_code
def yX5_readsJob : MethodName := ⟨RX5, "readsJob", "()Z"⟩
abbrev cX5_fault : ByteArray := prog_7_method_50_code
def yX5_fault : MethodName := ⟨RX5, "fault", "()I"⟩
abbrev cX5_read : ByteArray := prog_7_method_51_code
def yX5_read : MethodName := ⟨RX5, "read", "()I"⟩
abbrev cX5_undo : ByteArray := prog_7_method_52_code
def yX5_undo : MethodName := ⟨RX5, "undo", "()I"⟩
abbrev cX5_isSlot : ByteArray := prog_7_method_53_code
def yX5_isSlot : MethodName := ⟨RX5, "isSlot", "(I)Z"⟩
abbrev cX5_save : ByteArray := prog_7_method_54_code
def yX5_save : MethodName := ⟨RX5, "save", "(I)I"⟩
abbrev cX5_restore : ByteArray := prog_7_method_55_code
def yX5_restore : MethodName := ⟨RX5, "restore", "(I)I"⟩
def RJ9 : String := "java/lang/Math"
def TJ9 : u_T := fun k => match k with
  | _ => ("", "", "", false)
def tyJ9 : Nat → FieldType := fun k => match k with
  | _ => .int
abbrev wsJ90 : List Cond := u_ws RJ9 TJ9 0
theorem nmJ9 : ∀ a, a < 0 → ∀ b, b < 0 → a ≠ b → (TJ9 a).2.1 ≠ (TJ9 b).2.1 := by decide +kernel
theorem tyJ9_ok : ∀ k, k < 0 → parseFieldDescriptor (TJ9 k).2.2.1 = some (tyJ9 k) := by decide +kernel
abbrev cJ9_max_7cf53 : ByteArray := prog_8_method_65_code
def yJ9_max_7cf53 : MethodName := ⟨RJ9, "max", "(II)I"⟩
abbrev cJ9_min_7cf53 : ByteArray := prog_8_method_69_code
def yJ9_min_7cf53 : MethodName := ⟨RJ9, "min", "(II)I"⟩
def RJ10 : String := "java/lang/System"
def TJ10 : u_T := fun k => match k with
  | _ => ("", "", "", false)
def tyJ10 : Nat → FieldType := fun k => match k with
  | _ => .int
abbrev wsJ100 : List Cond := u_ws RJ10 TJ10 0
theorem nmJ10 : ∀ a, a < 0 → ∀ b, b < 0 → a ≠ b → (TJ10 a).2.1 ≠ (TJ10 b).2.1 := by decide +kernel
theorem tyJ10_ok : ∀ k, k < 0 → parseFieldDescriptor (TJ10 k).2.2.1 = some (tyJ10 k) := by decide +kernel
def RL : String := "PrintRacksLaw"
abbrev cL_law : ByteArray := code
def yL_law : MethodName := ⟨RL, "law", "([I)Z"⟩
def wsX0_init : List Cond := .code yX0_init cX0_init 1 none :: ([.methodLink RX0 3 objectInit, .instanceMethod objectInit, .code objectInit ⟨#[0xb1]⟩ 1 none, .arrayClass .int, .fieldLink RX0 9 "PrintRacks$Board" "settings" "[I", .methodLink RX0 18 arraycopyName, .native arraycopyName, .static arraycopyName, .initialized "java/lang/System", .classLink RX0 24 "[[I", .fieldLink RX0 26 "PrintRacks$Board" "fields" "[[I"] ++ wsX00)
def wsX0_copyFrom : List Cond := .code yX0_copyFrom cX0_copyFrom 3 none :: ([.fieldLink RX0 9 "PrintRacks$Board" "settings" "[I", .methodLink RX0 18 arraycopyName, .native arraycopyName, .static arraycopyName, .initialized "java/lang/System", .fieldLink RX0 26 "PrintRacks$Board" "fields" "[[I", .fieldLink RX0 29 "PrintRacks$Board" "jobs" "I"] ++ wsX00)
def wsX0_append : List Cond := .code yX0_append cX0_append 5 none :: ([.fieldLink RX0 29 "PrintRacks$Board" "jobs" "I", .fieldLink RX0 26 "PrintRacks$Board" "fields" "[[I"] ++ wsX00)
def wsX0_appendAll : List Cond := .code yX0_appendAll cX0_appendAll 3 none :: ([.fieldLink RX0 29 "PrintRacks$Board" "jobs" "I", .fieldLink RX0 26 "PrintRacks$Board" "fields" "[[I", .methodLink RX0 33 yX0_append, .instanceMethod yX0_append, .selects RX0 yX0_append yX0_append, .initialized RX0, .code yX0_append cX0_append 5 none] ++ wsX00)
def wsX0_shift : List Cond := .code yX0_shift cX0_shift 9 none :: ([.fieldLink RX0 26 "PrintRacks$Board" "fields" "[[I"] ++ wsX00)
def wsX0_remove : List Cond := .code yX0_remove cX0_remove 2 none :: ([.fieldLink RX0 29 "PrintRacks$Board" "jobs" "I", .methodLink RX0 37 yX0_shift, .instanceMethod yX0_shift, .selects RX0 yX0_shift yX0_shift, .initialized RX0, .code yX0_shift cX0_shift 9 none, .fieldLink RX0 26 "PrintRacks$Board" "fields" "[[I"] ++ wsX00)
def wsX0_exchange : List Cond := .code yX0_exchange cX0_exchange 8 none :: ([.fieldLink RX0 26 "PrintRacks$Board" "fields" "[[I"] ++ wsX00)
def wsX0_placeBy : List Cond := .code yX0_placeBy cX0_placeBy 6 (some .int) :: ([.fieldLink RX0 26 "PrintRacks$Board" "fields" "[[I", .fieldLink RX0 29 "PrintRacks$Board" "jobs" "I"] ++ wsX00)
def wsX0_arrange : List Cond := .code yX0_arrange cX0_arrange 7 (some .int) :: ([.fieldLink RX0 29 "PrintRacks$Board" "jobs" "I", .fieldLink RX0 26 "PrintRacks$Board" "fields" "[[I", .methodLink RX0 41 yX0_copyFrom, .instanceMethod yX0_copyFrom, .selects RX0 yX0_copyFrom yX0_copyFrom, .initialized RX0, .code yX0_copyFrom cX0_copyFrom 3 none, .fieldLink RX0 9 "PrintRacks$Board" "settings" "[I", .methodLink RX0 18 arraycopyName, .native arraycopyName, .static arraycopyName, .initialized "java/lang/System", .methodLink RX0 45 yX0_placeBy, .instanceMethod yX0_placeBy, .selects RX0 yX0_placeBy yX0_placeBy, .code yX0_placeBy cX0_placeBy 6 (some .int)] ++ wsX00)
def wsX4_racksFor : List Cond := .code yX4_racksFor cX4_racksFor 2 (some .int) :: ([])
def wsX0_mostRacksNeeded : List Cond := .code yX0_mostRacksNeeded cX0_mostRacksNeeded 4 (some .int) :: ([.fieldLink RX0 29 "PrintRacks$Board" "jobs" "I", .fieldLink RX0 26 "PrintRacks$Board" "fields" "[[I", .methodLink RX0 52 Lib.Math.max.name, .static Lib.Math.max.name, .initialized "java/lang/Math", .code Lib.Math.max.name Lib.Math.max.code 2 (some .int), .static yX4_racksFor, .initialized RX4, .code yX4_racksFor cX4_racksFor 2 (some .int)] ++ wsX00)
def wsX0_hundredsOfAll : List Cond := .code yX0_hundredsOfAll cX0_hundredsOfAll 3 (some .int) :: ([.fieldLink RX0 29 "PrintRacks$Board" "jobs" "I", .fieldLink RX0 26 "PrintRacks$Board" "fields" "[[I"] ++ wsX00)
def wsX1_init : List Cond := .code yX1_init cX1_init 2 none :: ([.methodLink RX1 3 objectInit, .instanceMethod objectInit, .code objectInit ⟨#[0xb1]⟩ 1 none, .classLink RX1 9 RX0, .fieldLink RX1 11 "PrintRacks$History" "states" "[LPrintRacks$Board;", .instantiable RX0 3, .initialized RX0, .methodLink RX1 17 yX0_init, .instanceMethod yX0_init, .code yX0_init cX0_init 1 none, .methodLink RX0 3 objectInit, .arrayClass .int, .fieldLink RX0 9 "PrintRacks$Board" "settings" "[I", .methodLink RX0 18 arraycopyName, .native arraycopyName, .static arraycopyName, .initialized "java/lang/System", .classLink RX0 24 "[[I", .fieldLink RX0 26 "PrintRacks$Board" "fields" "[[I"] ++ wsX10 ++ wsX00)
def wsX1_remember : List Cond := .code yX1_remember cX1_remember 2 none :: ([.fieldLink RX1 11 "PrintRacks$History" "states" "[LPrintRacks$Board;", .fieldLink RX1 18 "PrintRacks$History" "next" "I", .fieldLink RX1 26 "PrintRacks$History" "kept" "I", .methodLink RX1 29 Lib.Math.min.name, .static Lib.Math.min.name, .initialized "java/lang/Math", .code Lib.Math.min.name Lib.Math.min.code 2 (some .int), .methodLink RX1 22 yX0_copyFrom, .instanceMethod yX0_copyFrom, .selects RX0 yX0_copyFrom yX0_copyFrom, .initialized RX0, .code yX0_copyFrom cX0_copyFrom 3 none, .fieldLink RX0 9 "PrintRacks$Board" "settings" "[I", .methodLink RX0 18 arraycopyName, .native arraycopyName, .static arraycopyName, .initialized "java/lang/System", .fieldLink RX0 26 "PrintRacks$Board" "fields" "[[I", .fieldLink RX0 29 "PrintRacks$Board" "jobs" "I"] ++ wsX10 ++ wsX00)
def wsX1_takeBack : List Cond := .code yX1_takeBack cX1_takeBack 2 none :: ([.fieldLink RX1 18 "PrintRacks$History" "next" "I", .fieldLink RX1 26 "PrintRacks$History" "kept" "I", .fieldLink RX1 11 "PrintRacks$History" "states" "[LPrintRacks$Board;", .methodLink RX1 22 yX0_copyFrom, .instanceMethod yX0_copyFrom, .selects RX0 yX0_copyFrom yX0_copyFrom, .initialized RX0, .code yX0_copyFrom cX0_copyFrom 3 none, .fieldLink RX0 9 "PrintRacks$Board" "settings" "[I", .methodLink RX0 18 arraycopyName, .native arraycopyName, .static arraycopyName, .initialized "java/lang/System", .fieldLink RX0 26 "PrintRacks$Board" "fields" "[[I", .fieldLink RX0 29 "PrintRacks$Board" "jobs" "I"] ++ wsX10 ++ wsX00)
def wsX2_init : List Cond := .code yX2_init cX2_init 1 none :: ([.methodLink RX2 3 objectInit, .instanceMethod objectInit, .code objectInit ⟨#[0xb1]⟩ 1 none, .classLink RX2 9 RX0, .instantiable RX0 3, .initialized RX0, .fieldLink RX2 12 "PrintRacks$Pad" "found" "LPrintRacks$Board;", .arrayClass .int, .fieldLink RX2 18 "PrintRacks$Pad" "codes" "[I", .methodLink RX2 11 yX0_init, .instanceMethod yX0_init, .code yX0_init cX0_init 1 none, .methodLink RX0 3 objectInit, .fieldLink RX0 9 "PrintRacks$Board" "settings" "[I", .methodLink RX0 18 arraycopyName, .native arraycopyName, .static arraycopyName, .initialized "java/lang/System", .classLink RX0 24 "[[I", .fieldLink RX0 26 "PrintRacks$Board" "fields" "[[I"] ++ wsX00 ++ wsX20)
def wsX2_append : List Cond := .code yX2_append cX2_append 2 none :: ([.fieldLink RX2 22 "PrintRacks$Pad" "length" "I", .fieldLink RX2 18 "PrintRacks$Pad" "codes" "[I"] ++ wsX20)
def wsX4_within : List Cond := .code yX4_within cX4_within 3 (some .boolean) :: ([])
def wsX2_takesLetter : List Cond := .code yX2_takesLetter cX2_takesLetter 3 (some .boolean) :: ([.fieldLink RX2 29 "PrintRacks$Pad" "expected" "I"] ++ wsX20)
def wsX2_endJob : List Cond := .code yX2_endJob cX2_endJob 1 none :: ([.fieldLink RX2 12 "PrintRacks$Pad" "found" "LPrintRacks$Board;", .fieldLink RX2 47 "PrintRacks$Pad" "plate" "I", .fieldLink RX2 50 "PrintRacks$Pad" "shade" "I", .fieldLink RX2 53 "PrintRacks$Pad" "hundreds" "I", .fieldLink RX2 56 "PrintRacks$Pad" "dueTime" "I", .methodLink RX2 69 yX0_append, .instanceMethod yX0_append, .selects RX0 yX0_append yX0_append, .initialized RX0, .code yX0_append cX0_append 5 none, .fieldLink RX0 29 "PrintRacks$Board" "jobs" "I", .fieldLink RX0 26 "PrintRacks$Board" "fields" "[[I"] ++ wsX20 ++ wsX00)
def wsX2_takesEndOfJob : List Cond := .code yX2_takesEndOfJob cX2_takesEndOfJob 2 (some .boolean) :: ([.fieldLink RX2 29 "PrintRacks$Pad" "expected" "I", .methodLink RX2 36 yX2_endJob, .instanceMethod yX2_endJob, .selects RX2 yX2_endJob yX2_endJob, .initialized RX2, .code yX2_endJob cX2_endJob 1 none, .fieldLink RX2 12 "PrintRacks$Pad" "found" "LPrintRacks$Board;", .fieldLink RX2 47 "PrintRacks$Pad" "plate" "I", .fieldLink RX2 50 "PrintRacks$Pad" "shade" "I", .fieldLink RX2 53 "PrintRacks$Pad" "hundreds" "I", .fieldLink RX2 56 "PrintRacks$Pad" "dueTime" "I", .methodLink RX2 69 yX0_append, .instanceMethod yX0_append, .selects RX0 yX0_append yX0_append, .initialized RX0, .code yX0_append cX0_append 5 none, .fieldLink RX0 29 "PrintRacks$Board" "jobs" "I", .fieldLink RX0 26 "PrintRacks$Board" "fields" "[[I"] ++ wsX20 ++ wsX00)
def wsX2_takesBehindHundreds : List Cond := .code yX2_takesBehindHundreds cX2_takesBehindHundreds 3 (some .boolean) :: ([.fieldLink RX2 53 "PrintRacks$Pad" "hundreds" "I", .fieldLink RX2 29 "PrintRacks$Pad" "expected" "I", .methodLink RX2 66 yX2_takesEndOfJob, .instanceMethod yX2_takesEndOfJob, .selects RX2 yX2_takesEndOfJob yX2_takesEndOfJob, .initialized RX2, .code yX2_takesEndOfJob cX2_takesEndOfJob 2 (some .boolean), .methodLink RX2 36 yX2_endJob, .instanceMethod yX2_endJob, .selects RX2 yX2_endJob yX2_endJob, .code yX2_endJob cX2_endJob 1 none, .fieldLink RX2 12 "PrintRacks$Pad" "found" "LPrintRacks$Board;", .fieldLink RX2 47 "PrintRacks$Pad" "plate" "I", .fieldLink RX2 50 "PrintRacks$Pad" "shade" "I", .fieldLink RX2 56 "PrintRacks$Pad" "dueTime" "I", .methodLink RX2 69 yX0_append, .instanceMethod yX0_append, .selects RX0 yX0_append yX0_append, .initialized RX0, .code yX0_append cX0_append 5 none, .fieldLink RX0 29 "PrintRacks$Board" "jobs" "I", .fieldLink RX0 26 "PrintRacks$Board" "fields" "[[I"] ++ wsX20 ++ wsX00)
def wsX2_takesBehindDue : List Cond := .code yX2_takesBehindDue cX2_takesBehindDue 4 (some .boolean) :: ([.fieldLink RX2 56 "PrintRacks$Pad" "dueTime" "I", .methodLink RX2 66 yX2_takesEndOfJob, .instanceMethod yX2_takesEndOfJob, .selects RX2 yX2_takesEndOfJob yX2_takesEndOfJob, .initialized RX2, .code yX2_takesEndOfJob cX2_takesEndOfJob 2 (some .boolean), .fieldLink RX2 29 "PrintRacks$Pad" "expected" "I", .methodLink RX2 36 yX2_endJob, .instanceMethod yX2_endJob, .selects RX2 yX2_endJob yX2_endJob, .code yX2_endJob cX2_endJob 1 none, .fieldLink RX2 12 "PrintRacks$Pad" "found" "LPrintRacks$Board;", .fieldLink RX2 47 "PrintRacks$Pad" "plate" "I", .fieldLink RX2 50 "PrintRacks$Pad" "shade" "I", .fieldLink RX2 53 "PrintRacks$Pad" "hundreds" "I", .methodLink RX2 69 yX0_append, .instanceMethod yX0_append, .selects RX0 yX0_append yX0_append, .initialized RX0, .code yX0_append cX0_append 5 none, .fieldLink RX0 29 "PrintRacks$Board" "jobs" "I", .fieldLink RX0 26 "PrintRacks$Board" "fields" "[[I"] ++ wsX20 ++ wsX00)
def wsX2_takes_r1 : List Cond := [Cond.fieldLink RX2 29 "PrintRacks$Pad" "expected" "I", Cond.fieldLink RX2 47 "PrintRacks$Pad" "plate" "I", Cond.fieldLink RX2 50 "PrintRacks$Pad" "shade" "I", Cond.fieldLink RX2 53 "PrintRacks$Pad" "hundreds" "I", Cond.fieldLink RX2 56 "PrintRacks$Pad" "dueTime" "I", Cond.static yX4_within, Cond.initialized RX4, Cond.code yX4_within cX4_within 3 (some .boolean), Cond.methodLink RX2 43 yX2_takesLetter, Cond.instanceMethod yX2_takesLetter, Cond.selects RX2 yX2_takesLetter yX2_takesLetter, Cond.initialized RX2, Cond.code yX2_takesLetter cX2_takesLetter 3 (some .boolean), Cond.methodLink RX2 59 yX2_takesBehindHundreds, Cond.instanceMethod yX2_takesBehindHundreds, Cond.selects RX2 yX2_takesBehindHundreds yX2_takesBehindHundreds, Cond.code yX2_takesBehindHundreds cX2_takesBehindHundreds 3 (some .boolean), Cond.methodLink RX2 66 yX2_takesEndOfJob, Cond.instanceMethod yX2_takesEndOfJob, Cond.selects RX2 yX2_takesEndOfJob yX2_takesEndOfJob, Cond.code yX2_takesEndOfJob cX2_takesEndOfJob 2 (some .boolean), Cond.methodLink RX2 36 yX2_endJob, Cond.instanceMethod yX2_endJob, Cond.selects RX2 yX2_endJob yX2_endJob]
def wsX2_takes_r2 : List Cond := [Cond.code yX2_endJob cX2_endJob 1 none, Cond.fieldLink RX2 12 "PrintRacks$Pad" "found" "LPrintRacks$Board;", Cond.methodLink RX2 69 yX0_append, Cond.instanceMethod yX0_append, Cond.selects RX0 yX0_append yX0_append, Cond.initialized RX0, Cond.code yX0_append cX0_append 5 none, Cond.fieldLink RX0 29 "PrintRacks$Board" "jobs" "I", Cond.fieldLink RX0 26 "PrintRacks$Board" "fields" "[[I", Cond.methodLink RX2 63 yX2_takesBehindDue, Cond.instanceMethod yX2_takesBehindDue, Cond.selects RX2 yX2_takesBehindDue yX2_takesBehindDue, Cond.code yX2_takesBehindDue cX2_takesBehindDue 4 (some .boolean)]
def wsX2_takes : List Cond := .code yX2_takes cX2_takes 3 (some .boolean) :: ((wsX2_takes_r1 ++ wsX2_takes_r2) ++ wsX20 ++ wsX00)
def wsX2_parse_r1 : List Cond := [Cond.fieldLink RX2 12 "PrintRacks$Pad" "found" "LPrintRacks$Board;", Cond.fieldLink RX2 26 "PrintRacks$Board" "jobs" "I", Cond.fieldLink RX2 29 "PrintRacks$Pad" "expected" "I", Cond.fieldLink RX2 22 "PrintRacks$Pad" "length" "I", Cond.fieldLink RX2 18 "PrintRacks$Pad" "codes" "[I", Cond.methodLink RX2 32 yX2_takes, Cond.instanceMethod yX2_takes, Cond.selects RX2 yX2_takes yX2_takes, Cond.initialized RX2, Cond.code yX2_takes cX2_takes 3 (some .boolean), Cond.fieldLink RX2 47 "PrintRacks$Pad" "plate" "I", Cond.fieldLink RX2 50 "PrintRacks$Pad" "shade" "I", Cond.fieldLink RX2 53 "PrintRacks$Pad" "hundreds" "I", Cond.fieldLink RX2 56 "PrintRacks$Pad" "dueTime" "I", Cond.static yX4_within, Cond.initialized RX4, Cond.code yX4_within cX4_within 3 (some .boolean), Cond.methodLink RX2 43 yX2_takesLetter, Cond.instanceMethod yX2_takesLetter, Cond.selects RX2 yX2_takesLetter yX2_takesLetter, Cond.code yX2_takesLetter cX2_takesLetter 3 (some .boolean), Cond.methodLink RX2 59 yX2_takesBehindHundreds, Cond.instanceMethod yX2_takesBehindHundreds, Cond.selects RX2 yX2_takesBehindHundreds yX2_takesBehindHundreds]
def wsX2_parse_r2 : List Cond := [Cond.code yX2_takesBehindHundreds cX2_takesBehindHundreds 3 (some .boolean), Cond.methodLink RX2 66 yX2_takesEndOfJob, Cond.instanceMethod yX2_takesEndOfJob, Cond.selects RX2 yX2_takesEndOfJob yX2_takesEndOfJob, Cond.code yX2_takesEndOfJob cX2_takesEndOfJob 2 (some .boolean), Cond.methodLink RX2 36 yX2_endJob, Cond.instanceMethod yX2_endJob, Cond.selects RX2 yX2_endJob yX2_endJob, Cond.code yX2_endJob cX2_endJob 1 none, Cond.methodLink RX2 69 yX0_append, Cond.instanceMethod yX0_append, Cond.selects RX0 yX0_append yX0_append, Cond.initialized RX0, Cond.code yX0_append cX0_append 5 none, Cond.fieldLink RX0 29 "PrintRacks$Board" "jobs" "I", Cond.fieldLink RX0 26 "PrintRacks$Board" "fields" "[[I", Cond.methodLink RX2 63 yX2_takesBehindDue, Cond.instanceMethod yX2_takesBehindDue, Cond.selects RX2 yX2_takesBehindDue yX2_takesBehindDue, Cond.code yX2_takesBehindDue cX2_takesBehindDue 4 (some .boolean)]
def wsX2_parse : List Cond := .code yX2_parse cX2_parse 2 (some .int) :: ((wsX2_parse_r1 ++ wsX2_parse_r2) ++ wsX20 ++ wsX00)
def wsX3_init : List Cond := .code yX3_init cX3_init 1 none :: ([.methodLink RX3 3 objectInit, .instanceMethod objectInit, .code objectInit ⟨#[0xb1]⟩ 1 none, .arrayClass .int, .fieldLink RX3 9 "PrintRacks$Press" "racks" "[I", .fieldLink RX3 15 "PrintRacks$Press" "wash" "[I", .fieldLink RX3 18 "PrintRacks$Press" "ready" "[I", .fieldLink RX3 21 "PrintRacks$Press" "waits" "[I", .fieldLink RX3 24 "PrintRacks$Press" "begins" "[I", .fieldLink RX3 27 "PrintRacks$Press" "printed" "[I", .fieldLink RX3 30 "PrintRacks$Press" "dry" "[I", .fieldLink RX3 33 "PrintRacks$Press" "late" "[I"] ++ wsX30)
def wsX3_clear : List Cond := .code yX3_clear cX3_clear 1 none :: ([.fieldLink RX3 57 "PrintRacks$Press" "lateJobs" "I", .fieldLink RX3 60 "PrintRacks$Press" "lateSum" "I", .fieldLink RX3 63 "PrintRacks$Press" "mostLate" "I", .fieldLink RX3 66 "PrintRacks$Press" "washSum" "I", .fieldLink RX3 69 "PrintRacks$Press" "platesPutOn" "I", .fieldLink RX3 72 "PrintRacks$Press" "waitSum" "I", .fieldLink RX3 75 "PrintRacks$Press" "mostTaken" "I", .fieldLink RX3 78 "PrintRacks$Press" "taken" "I", .fieldLink RX3 81 "PrintRacks$Press" "oldestDrying" "I"] ++ wsX30)
def wsX3_washAhead : List Cond := .code yX3_washAhead cX3_washAhead 3 (some .int) :: ([.fieldLink RX3 84 "PrintRacks$Board" "fields" "[[I", .fieldLink RX3 92 "PrintRacks$Board" "settings" "[I"] ++ wsX00)
def wsX3_makeReady : List Cond := .code yX3_makeReady cX3_makeReady 4 none :: ([.fieldLink RX3 84 "PrintRacks$Board" "fields" "[[I", .fieldLink RX3 15 "PrintRacks$Press" "wash" "[I", .fieldLink RX3 66 "PrintRacks$Press" "washSum" "I", .fieldLink RX3 18 "PrintRacks$Press" "ready" "[I", .fieldLink RX3 92 "PrintRacks$Board" "settings" "[I", .fieldLink RX3 69 "PrintRacks$Press" "platesPutOn" "I", .methodLink RX3 88 yX3_washAhead, .static yX3_washAhead, .initialized RX3, .code yX3_washAhead cX3_washAhead 3 (some .int)] ++ wsX00 ++ wsX30)
def wsX3_whenRacksAreFree : List Cond := .code yX3_whenRacksAreFree cX3_whenRacksAreFree 5 (some .int) :: ([.fieldLink RX3 81 "PrintRacks$Press" "oldestDrying" "I", .fieldLink RX3 30 "PrintRacks$Press" "dry" "[I", .fieldLink RX3 78 "PrintRacks$Press" "taken" "I", .methodLink RX3 103 Lib.Math.max.name, .static Lib.Math.max.name, .initialized "java/lang/Math", .code Lib.Math.max.name Lib.Math.max.code 2 (some .int), .fieldLink RX3 9 "PrintRacks$Press" "racks" "[I"] ++ wsX30)
def wsX3_printJob : List Cond := .code yX3_printJob cX3_printJob 7 none :: ([.fieldLink RX3 27 "PrintRacks$Press" "printed" "[I", .fieldLink RX3 84 "PrintRacks$Board" "fields" "[[I", .fieldLink RX3 18 "PrintRacks$Press" "ready" "[I", .fieldLink RX3 92 "PrintRacks$Board" "settings" "[I", .fieldLink RX3 9 "PrintRacks$Press" "racks" "[I", .fieldLink RX3 21 "PrintRacks$Press" "waits" "[I", .fieldLink RX3 24 "PrintRacks$Press" "begins" "[I", .fieldLink RX3 72 "PrintRacks$Press" "waitSum" "I", .static yX4_racksFor, .initialized RX4, .code yX4_racksFor cX4_racksFor 2 (some .int), .methodLink RX3 99 yX3_whenRacksAreFree, .instanceMethod yX3_whenRacksAreFree, .selects RX3 yX3_whenRacksAreFree yX3_whenRacksAreFree, .initialized RX3, .code yX3_whenRacksAreFree cX3_whenRacksAreFree 5 (some .int), .fieldLink RX3 81 "PrintRacks$Press" "oldestDrying" "I", .fieldLink RX3 30 "PrintRacks$Press" "dry" "[I", .fieldLink RX3 78 "PrintRacks$Press" "taken" "I", .methodLink RX3 103 Lib.Math.max.name, .static Lib.Math.max.name, .initialized "java/lang/Math", .code Lib.Math.max.name Lib.Math.max.code 2 (some .int)] ++ wsX30 ++ wsX00)
def wsX3_dryJob : List Cond := .code yX3_dryJob cX3_dryJob 3 none :: ([.fieldLink RX3 30 "PrintRacks$Press" "dry" "[I", .fieldLink RX3 27 "PrintRacks$Press" "printed" "[I", .fieldLink RX3 92 "PrintRacks$Board" "settings" "[I", .fieldLink RX3 78 "PrintRacks$Press" "taken" "I", .fieldLink RX3 9 "PrintRacks$Press" "racks" "[I", .fieldLink RX3 75 "PrintRacks$Press" "mostTaken" "I", .methodLink RX3 103 Lib.Math.max.name, .static Lib.Math.max.name, .initialized "java/lang/Math", .code Lib.Math.max.name Lib.Math.max.code 2 (some .int), .fieldLink RX3 33 "PrintRacks$Press" "late" "[I", .fieldLink RX3 84 "PrintRacks$Board" "fields" "[[I", .fieldLink RX3 60 "PrintRacks$Press" "lateSum" "I", .fieldLink RX3 63 "PrintRacks$Press" "mostLate" "I", .fieldLink RX3 57 "PrintRacks$Press" "lateJobs" "I"] ++ wsX30 ++ wsX00)
def wsX3_print_r1 : List Cond := [Cond.fieldLink RX3 39 "PrintRacks$Board" "jobs" "I", Cond.fieldLink RX3 45 "PrintRacks$Press" "jobs" "I", Cond.methodLink RX3 36 yX3_clear, Cond.instanceMethod yX3_clear, Cond.selects RX3 yX3_clear yX3_clear, Cond.initialized RX3, Cond.code yX3_clear cX3_clear 1 none, Cond.fieldLink RX3 57 "PrintRacks$Press" "lateJobs" "I", Cond.fieldLink RX3 60 "PrintRacks$Press" "lateSum" "I", Cond.fieldLink RX3 63 "PrintRacks$Press" "mostLate" "I", Cond.fieldLink RX3 66 "PrintRacks$Press" "washSum" "I", Cond.fieldLink RX3 69 "PrintRacks$Press" "platesPutOn" "I", Cond.fieldLink RX3 72 "PrintRacks$Press" "waitSum" "I", Cond.fieldLink RX3 75 "PrintRacks$Press" "mostTaken" "I", Cond.fieldLink RX3 78 "PrintRacks$Press" "taken" "I", Cond.fieldLink RX3 81 "PrintRacks$Press" "oldestDrying" "I", Cond.methodLink RX3 46 yX3_makeReady, Cond.instanceMethod yX3_makeReady, Cond.selects RX3 yX3_makeReady yX3_makeReady, Cond.code yX3_makeReady cX3_makeReady 4 none, Cond.fieldLink RX3 84 "PrintRacks$Board" "fields" "[[I", Cond.fieldLink RX3 15 "PrintRacks$Press" "wash" "[I", Cond.fieldLink RX3 18 "PrintRacks$Press" "ready" "[I", Cond.fieldLink RX3 92 "PrintRacks$Board" "settings" "[I"]
def wsX3_print_r2 : List Cond := [Cond.methodLink RX3 88 yX3_washAhead, Cond.static yX3_washAhead, Cond.code yX3_washAhead cX3_washAhead 3 (some .int), Cond.methodLink RX3 50 yX3_printJob, Cond.instanceMethod yX3_printJob, Cond.selects RX3 yX3_printJob yX3_printJob, Cond.code yX3_printJob cX3_printJob 7 none, Cond.fieldLink RX3 27 "PrintRacks$Press" "printed" "[I", Cond.fieldLink RX3 9 "PrintRacks$Press" "racks" "[I", Cond.fieldLink RX3 21 "PrintRacks$Press" "waits" "[I", Cond.fieldLink RX3 24 "PrintRacks$Press" "begins" "[I", Cond.static yX4_racksFor, Cond.initialized RX4, Cond.code yX4_racksFor cX4_racksFor 2 (some .int), Cond.methodLink RX3 99 yX3_whenRacksAreFree, Cond.instanceMethod yX3_whenRacksAreFree, Cond.selects RX3 yX3_whenRacksAreFree yX3_whenRacksAreFree, Cond.code yX3_whenRacksAreFree cX3_whenRacksAreFree 5 (some .int), Cond.fieldLink RX3 30 "PrintRacks$Press" "dry" "[I", Cond.methodLink RX3 103 Lib.Math.max.name, Cond.static Lib.Math.max.name, Cond.initialized "java/lang/Math", Cond.code Lib.Math.max.name Lib.Math.max.code 2 (some .int), Cond.methodLink RX3 54 yX3_dryJob]
def wsX3_print_r3 : List Cond := [Cond.instanceMethod yX3_dryJob, Cond.selects RX3 yX3_dryJob yX3_dryJob, Cond.code yX3_dryJob cX3_dryJob 3 none, Cond.fieldLink RX3 33 "PrintRacks$Press" "late" "[I"]
def wsX3_print : List Cond := .code yX3_print cX3_print 4 none :: ((wsX3_print_r1 ++ (wsX3_print_r2 ++ wsX3_print_r3)) ++ wsX00 ++ wsX30)
def wsX3_lastOf : List Cond := .code yX3_lastOf cX3_lastOf 2 (some .int) :: ([.fieldLink RX3 45 "PrintRacks$Press" "jobs" "I"] ++ wsX30)
def wsX3_jobOnPress : List Cond := .code yX3_jobOnPress cX3_jobOnPress 3 (some .int) :: ([.fieldLink RX3 45 "PrintRacks$Press" "jobs" "I", .fieldLink RX3 24 "PrintRacks$Press" "begins" "[I", .fieldLink RX3 27 "PrintRacks$Press" "printed" "[I"] ++ wsX30)
def wsX3_racksTaken : List Cond := .code yX3_racksTaken cX3_racksTaken 4 (some .int) :: ([.fieldLink RX3 45 "PrintRacks$Press" "jobs" "I", .fieldLink RX3 27 "PrintRacks$Press" "printed" "[I", .fieldLink RX3 30 "PrintRacks$Press" "dry" "[I", .fieldLink RX3 9 "PrintRacks$Press" "racks" "[I"] ++ wsX30)
def wsX3_reached : List Cond := .code yX3_reached cX3_reached 5 (some .int) :: ([.fieldLink RX3 45 "PrintRacks$Press" "jobs" "I"] ++ wsX30)
def wsX4_init_r1 : List Cond := [Cond.methodLink RX4 1 objectInit, Cond.instanceMethod objectInit, Cond.code objectInit ⟨#[0xb1]⟩ 1 none, Cond.classLink RX4 7 RX0, Cond.instantiable RX0 3, Cond.initialized RX0, Cond.fieldLink RX4 10 "PrintRacks" "board" "LPrintRacks$Board;", Cond.fieldLink RX4 16 "PrintRacks" "trial" "LPrintRacks$Board;", Cond.classLink RX4 19 RX3, Cond.instantiable RX3 18, Cond.initialized RX3, Cond.fieldLink RX4 22 "PrintRacks" "press" "LPrintRacks$Press;", Cond.classLink RX4 26 RX2, Cond.instantiable RX2 8, Cond.initialized RX2, Cond.fieldLink RX4 29 "PrintRacks" "pad" "LPrintRacks$Pad;", Cond.classLink RX4 33 RX1, Cond.instantiable RX1 3, Cond.initialized RX1, Cond.fieldLink RX4 36 "PrintRacks" "history" "LPrintRacks$History;", Cond.fieldLink RX4 40 "PrintRacks" "slots" "[LPrintRacks$Board;", Cond.arrayClass .boolean, Cond.fieldLink RX4 44 "PrintRacks" "saved" "[Z", Cond.methodLink RX4 9 yX0_init]
def wsX4_init_r2 : List Cond := [Cond.instanceMethod yX0_init, Cond.code yX0_init cX0_init 1 none, Cond.methodLink RX0 3 objectInit, Cond.arrayClass .int, Cond.fieldLink RX0 9 "PrintRacks$Board" "settings" "[I", Cond.methodLink RX0 18 arraycopyName, Cond.native arraycopyName, Cond.static arraycopyName, Cond.initialized "java/lang/System", Cond.classLink RX0 24 "[[I", Cond.fieldLink RX0 26 "PrintRacks$Board" "fields" "[[I", Cond.instanceMethod yX3_init, Cond.code yX3_init cX3_init 1 none, Cond.methodLink RX3 3 objectInit, Cond.fieldLink RX3 9 "PrintRacks$Press" "racks" "[I", Cond.fieldLink RX3 15 "PrintRacks$Press" "wash" "[I", Cond.fieldLink RX3 18 "PrintRacks$Press" "ready" "[I", Cond.fieldLink RX3 21 "PrintRacks$Press" "waits" "[I", Cond.fieldLink RX3 24 "PrintRacks$Press" "begins" "[I", Cond.fieldLink RX3 27 "PrintRacks$Press" "printed" "[I", Cond.fieldLink RX3 30 "PrintRacks$Press" "dry" "[I", Cond.fieldLink RX3 33 "PrintRacks$Press" "late" "[I", Cond.instanceMethod yX2_init, Cond.code yX2_init cX2_init 1 none]
def wsX4_init_r3 : List Cond := [Cond.methodLink RX2 3 objectInit, Cond.classLink RX2 9 RX0, Cond.fieldLink RX2 12 "PrintRacks$Pad" "found" "LPrintRacks$Board;", Cond.fieldLink RX2 18 "PrintRacks$Pad" "codes" "[I", Cond.methodLink RX2 11 yX0_init, Cond.methodLink RX4 35 yX1_init, Cond.instanceMethod yX1_init, Cond.code yX1_init cX1_init 2 none, Cond.methodLink RX1 3 objectInit, Cond.classLink RX1 9 RX0, Cond.fieldLink RX1 11 "PrintRacks$History" "states" "[LPrintRacks$Board;", Cond.methodLink RX1 17 yX0_init]
def wsX4_init : List Cond := .code yX4_init cX4_init 2 none :: ((wsX4_init_r1 ++ (wsX4_init_r2 ++ wsX4_init_r3)) ++ wsX00 ++ wsX40 ++ wsX30 ++ wsX20 ++ wsX10)
def wsX4_set_r1 : List Cond := [Cond.fieldLink RX4 52 "PrintRacks" "LEAST_SETTING" "[I", Cond.fieldLink RX4 56 "PrintRacks" "MOST_SETTING" "[I", Cond.fieldLink RX4 10 "PrintRacks" "board" "LPrintRacks$Board;", Cond.fieldLink RX4 59 "PrintRacks$Board" "settings" "[I", Cond.fieldLink RX4 36 "PrintRacks" "history" "LPrintRacks$History;", Cond.methodLink RX4 48 yX4_within, Cond.static yX4_within, Cond.initialized RX4, Cond.code yX4_within cX4_within 3 (some .boolean), Cond.methodLink RX4 62 yX0_mostRacksNeeded, Cond.instanceMethod yX0_mostRacksNeeded, Cond.selects RX0 yX0_mostRacksNeeded yX0_mostRacksNeeded, Cond.initialized RX0, Cond.code yX0_mostRacksNeeded cX0_mostRacksNeeded 4 (some .int), Cond.fieldLink RX0 29 "PrintRacks$Board" "jobs" "I", Cond.fieldLink RX0 26 "PrintRacks$Board" "fields" "[[I", Cond.methodLink RX0 52 Lib.Math.max.name, Cond.static Lib.Math.max.name, Cond.initialized "java/lang/Math", Cond.code Lib.Math.max.name Lib.Math.max.code 2 (some .int), Cond.static yX4_racksFor, Cond.code yX4_racksFor cX4_racksFor 2 (some .int), Cond.methodLink RX4 66 yX1_remember, Cond.instanceMethod yX1_remember]
def wsX4_set_r2 : List Cond := [Cond.selects RX1 yX1_remember yX1_remember, Cond.initialized RX1, Cond.code yX1_remember cX1_remember 2 none, Cond.fieldLink RX1 11 "PrintRacks$History" "states" "[LPrintRacks$Board;", Cond.fieldLink RX1 18 "PrintRacks$History" "next" "I", Cond.fieldLink RX1 26 "PrintRacks$History" "kept" "I", Cond.methodLink RX1 29 Lib.Math.min.name, Cond.static Lib.Math.min.name, Cond.code Lib.Math.min.name Lib.Math.min.code 2 (some .int), Cond.methodLink RX1 22 yX0_copyFrom, Cond.instanceMethod yX0_copyFrom, Cond.selects RX0 yX0_copyFrom yX0_copyFrom, Cond.code yX0_copyFrom cX0_copyFrom 3 none, Cond.fieldLink RX0 9 "PrintRacks$Board" "settings" "[I", Cond.methodLink RX0 18 arraycopyName, Cond.native arraycopyName, Cond.static arraycopyName, Cond.initialized "java/lang/System"]
def wsX4_set : List Cond := .code yX4_set cX4_set 6 (some .int) :: ((wsX4_set_r1 ++ wsX4_set_r2) ++ wsX40 ++ wsX00 ++ wsX10)
def wsX4_job_r1 : List Cond := [Cond.fieldLink RX4 10 "PrintRacks" "board" "LPrintRacks$Board;", Cond.fieldLink RX4 59 "PrintRacks$Board" "settings" "[I", Cond.fieldLink RX4 74 "PrintRacks$Board" "jobs" "I", Cond.fieldLink RX4 36 "PrintRacks" "history" "LPrintRacks$History;", Cond.methodLink RX4 48 yX4_within, Cond.static yX4_within, Cond.initialized RX4, Cond.code yX4_within cX4_within 3 (some .boolean), Cond.methodLink RX4 70 yX4_racksFor, Cond.static yX4_racksFor, Cond.code yX4_racksFor cX4_racksFor 2 (some .int), Cond.methodLink RX4 66 yX1_remember, Cond.instanceMethod yX1_remember, Cond.selects RX1 yX1_remember yX1_remember, Cond.initialized RX1, Cond.code yX1_remember cX1_remember 2 none, Cond.fieldLink RX1 11 "PrintRacks$History" "states" "[LPrintRacks$Board;", Cond.fieldLink RX1 18 "PrintRacks$History" "next" "I", Cond.fieldLink RX1 26 "PrintRacks$History" "kept" "I", Cond.methodLink RX1 29 Lib.Math.min.name, Cond.static Lib.Math.min.name, Cond.initialized "java/lang/Math", Cond.code Lib.Math.min.name Lib.Math.min.code 2 (some .int), Cond.methodLink RX1 22 yX0_copyFrom]
def wsX4_job_r2 : List Cond := [Cond.instanceMethod yX0_copyFrom, Cond.selects RX0 yX0_copyFrom yX0_copyFrom, Cond.initialized RX0, Cond.code yX0_copyFrom cX0_copyFrom 3 none, Cond.fieldLink RX0 9 "PrintRacks$Board" "settings" "[I", Cond.methodLink RX0 18 arraycopyName, Cond.native arraycopyName, Cond.static arraycopyName, Cond.initialized "java/lang/System", Cond.fieldLink RX0 26 "PrintRacks$Board" "fields" "[[I", Cond.fieldLink RX0 29 "PrintRacks$Board" "jobs" "I", Cond.methodLink RX4 78 yX0_append, Cond.instanceMethod yX0_append, Cond.selects RX0 yX0_append yX0_append, Cond.code yX0_append cX0_append 5 none]
def wsX4_job : List Cond := .code yX4_job cX4_job 5 (some .int) :: ((wsX4_job_r1 ++ wsX4_job_r2) ++ wsX40 ++ wsX00 ++ wsX10)
def wsX4_read_r1 : List Cond := [Cond.fieldLink RX4 29 "PrintRacks" "pad" "LPrintRacks$Pad;", Cond.fieldLink RX4 86 "PrintRacks$Pad" "found" "LPrintRacks$Board;", Cond.fieldLink RX4 10 "PrintRacks" "board" "LPrintRacks$Board;", Cond.fieldLink RX4 59 "PrintRacks$Board" "settings" "[I", Cond.fieldLink RX4 74 "PrintRacks$Board" "jobs" "I", Cond.fieldLink RX4 36 "PrintRacks" "history" "LPrintRacks$History;", Cond.fieldLink RX4 92 "PrintRacks$Pad" "length" "I", Cond.methodLink RX4 82 yX2_parse, Cond.instanceMethod yX2_parse, Cond.selects RX2 yX2_parse yX2_parse, Cond.initialized RX2, Cond.code yX2_parse cX2_parse 2 (some .int), Cond.fieldLink RX2 12 "PrintRacks$Pad" "found" "LPrintRacks$Board;", Cond.fieldLink RX2 26 "PrintRacks$Board" "jobs" "I", Cond.fieldLink RX2 29 "PrintRacks$Pad" "expected" "I", Cond.fieldLink RX2 22 "PrintRacks$Pad" "length" "I", Cond.fieldLink RX2 18 "PrintRacks$Pad" "codes" "[I", Cond.methodLink RX2 32 yX2_takes, Cond.instanceMethod yX2_takes, Cond.selects RX2 yX2_takes yX2_takes, Cond.code yX2_takes cX2_takes 3 (some .boolean), Cond.fieldLink RX2 47 "PrintRacks$Pad" "plate" "I", Cond.fieldLink RX2 50 "PrintRacks$Pad" "shade" "I", Cond.fieldLink RX2 53 "PrintRacks$Pad" "hundreds" "I"]
def wsX4_read_r2 : List Cond := [Cond.fieldLink RX2 56 "PrintRacks$Pad" "dueTime" "I", Cond.static yX4_within, Cond.initialized RX4, Cond.code yX4_within cX4_within 3 (some .boolean), Cond.methodLink RX2 43 yX2_takesLetter, Cond.instanceMethod yX2_takesLetter, Cond.selects RX2 yX2_takesLetter yX2_takesLetter, Cond.code yX2_takesLetter cX2_takesLetter 3 (some .boolean), Cond.methodLink RX2 59 yX2_takesBehindHundreds, Cond.instanceMethod yX2_takesBehindHundreds, Cond.selects RX2 yX2_takesBehindHundreds yX2_takesBehindHundreds, Cond.code yX2_takesBehindHundreds cX2_takesBehindHundreds 3 (some .boolean), Cond.methodLink RX2 66 yX2_takesEndOfJob, Cond.instanceMethod yX2_takesEndOfJob, Cond.selects RX2 yX2_takesEndOfJob yX2_takesEndOfJob, Cond.code yX2_takesEndOfJob cX2_takesEndOfJob 2 (some .boolean), Cond.methodLink RX2 36 yX2_endJob, Cond.instanceMethod yX2_endJob, Cond.selects RX2 yX2_endJob yX2_endJob, Cond.code yX2_endJob cX2_endJob 1 none, Cond.methodLink RX2 69 yX0_append, Cond.instanceMethod yX0_append, Cond.selects RX0 yX0_append yX0_append, Cond.initialized RX0]
def wsX4_read_r3 : List Cond := [Cond.code yX0_append cX0_append 5 none, Cond.fieldLink RX0 29 "PrintRacks$Board" "jobs" "I", Cond.fieldLink RX0 26 "PrintRacks$Board" "fields" "[[I", Cond.methodLink RX2 63 yX2_takesBehindDue, Cond.instanceMethod yX2_takesBehindDue, Cond.selects RX2 yX2_takesBehindDue yX2_takesBehindDue, Cond.code yX2_takesBehindDue cX2_takesBehindDue 4 (some .boolean), Cond.methodLink RX4 62 yX0_mostRacksNeeded, Cond.instanceMethod yX0_mostRacksNeeded, Cond.selects RX0 yX0_mostRacksNeeded yX0_mostRacksNeeded, Cond.code yX0_mostRacksNeeded cX0_mostRacksNeeded 4 (some .int), Cond.methodLink RX0 52 Lib.Math.max.name, Cond.static Lib.Math.max.name, Cond.initialized "java/lang/Math", Cond.code Lib.Math.max.name Lib.Math.max.code 2 (some .int), Cond.static yX4_racksFor, Cond.code yX4_racksFor cX4_racksFor 2 (some .int), Cond.methodLink RX4 66 yX1_remember, Cond.instanceMethod yX1_remember, Cond.selects RX1 yX1_remember yX1_remember, Cond.initialized RX1, Cond.code yX1_remember cX1_remember 2 none, Cond.fieldLink RX1 11 "PrintRacks$History" "states" "[LPrintRacks$Board;", Cond.fieldLink RX1 18 "PrintRacks$History" "next" "I"]
def wsX4_read_r4 : List Cond := [Cond.fieldLink RX1 26 "PrintRacks$History" "kept" "I", Cond.methodLink RX1 29 Lib.Math.min.name, Cond.static Lib.Math.min.name, Cond.code Lib.Math.min.name Lib.Math.min.code 2 (some .int), Cond.methodLink RX1 22 yX0_copyFrom, Cond.instanceMethod yX0_copyFrom, Cond.selects RX0 yX0_copyFrom yX0_copyFrom, Cond.code yX0_copyFrom cX0_copyFrom 3 none, Cond.fieldLink RX0 9 "PrintRacks$Board" "settings" "[I", Cond.methodLink RX0 18 arraycopyName, Cond.native arraycopyName, Cond.static arraycopyName, Cond.initialized "java/lang/System", Cond.methodLink RX4 89 yX0_appendAll, Cond.instanceMethod yX0_appendAll, Cond.selects RX0 yX0_appendAll yX0_appendAll, Cond.code yX0_appendAll cX0_appendAll 3 none, Cond.methodLink RX0 33 yX0_append]
def wsX4_read : List Cond := .code yX4_read cX4_read 1 (some .int) :: ((wsX4_read_r1 ++ (wsX4_read_r2 ++ (wsX4_read_r3 ++ wsX4_read_r4))) ++ wsX40 ++ wsX20 ++ wsX00 ++ wsX10)
def wsX4_isJob : List Cond := .code yX4_isJob cX4_isJob 2 (some .boolean) :: ([.fieldLink RX4 10 "PrintRacks" "board" "LPrintRacks$Board;", .fieldLink RX4 74 "PrintRacks$Board" "jobs" "I", .methodLink RX4 48 yX4_within, .static yX4_within, .initialized RX4, .code yX4_within cX4_within 3 (some .boolean)] ++ wsX40 ++ wsX00)
def wsX4_drop_r1 : List Cond := [Cond.fieldLink RX4 36 "PrintRacks" "history" "LPrintRacks$History;", Cond.fieldLink RX4 10 "PrintRacks" "board" "LPrintRacks$Board;", Cond.fieldLink RX4 74 "PrintRacks$Board" "jobs" "I", Cond.methodLink RX4 95 yX4_isJob, Cond.instanceMethod yX4_isJob, Cond.selects RX4 yX4_isJob yX4_isJob, Cond.initialized RX4, Cond.code yX4_isJob cX4_isJob 2 (some .boolean), Cond.methodLink RX4 48 yX4_within, Cond.static yX4_within, Cond.code yX4_within cX4_within 3 (some .boolean), Cond.methodLink RX4 66 yX1_remember, Cond.instanceMethod yX1_remember, Cond.selects RX1 yX1_remember yX1_remember, Cond.initialized RX1, Cond.code yX1_remember cX1_remember 2 none, Cond.fieldLink RX1 11 "PrintRacks$History" "states" "[LPrintRacks$Board;", Cond.fieldLink RX1 18 "PrintRacks$History" "next" "I", Cond.fieldLink RX1 26 "PrintRacks$History" "kept" "I", Cond.methodLink RX1 29 Lib.Math.min.name, Cond.static Lib.Math.min.name, Cond.initialized "java/lang/Math", Cond.code Lib.Math.min.name Lib.Math.min.code 2 (some .int), Cond.methodLink RX1 22 yX0_copyFrom]
def wsX4_drop_r2 : List Cond := [Cond.instanceMethod yX0_copyFrom, Cond.selects RX0 yX0_copyFrom yX0_copyFrom, Cond.initialized RX0, Cond.code yX0_copyFrom cX0_copyFrom 3 none, Cond.fieldLink RX0 9 "PrintRacks$Board" "settings" "[I", Cond.methodLink RX0 18 arraycopyName, Cond.native arraycopyName, Cond.static arraycopyName, Cond.initialized "java/lang/System", Cond.fieldLink RX0 26 "PrintRacks$Board" "fields" "[[I", Cond.fieldLink RX0 29 "PrintRacks$Board" "jobs" "I", Cond.methodLink RX4 99 yX0_remove, Cond.instanceMethod yX0_remove, Cond.selects RX0 yX0_remove yX0_remove, Cond.code yX0_remove cX0_remove 2 none, Cond.methodLink RX0 37 yX0_shift, Cond.instanceMethod yX0_shift, Cond.selects RX0 yX0_shift yX0_shift, Cond.code yX0_shift cX0_shift 9 none]
def wsX4_drop : List Cond := .code yX4_drop cX4_drop 2 (some .int) :: ((wsX4_drop_r1 ++ wsX4_drop_r2) ++ wsX40 ++ wsX00 ++ wsX10)
def wsX4_lateSumOf_r1 : List Cond := [Cond.fieldLink RX4 22 "PrintRacks" "press" "LPrintRacks$Press;", Cond.fieldLink RX4 59 "PrintRacks$Board" "settings" "[I", Cond.fieldLink RX4 163 "PrintRacks$Press" "lateSum" "I", Cond.methodLink RX4 115 yX3_print, Cond.instanceMethod yX3_print, Cond.selects RX3 yX3_print yX3_print, Cond.initialized RX3, Cond.code yX3_print cX3_print 4 none, Cond.fieldLink RX3 39 "PrintRacks$Board" "jobs" "I", Cond.fieldLink RX3 45 "PrintRacks$Press" "jobs" "I", Cond.methodLink RX3 36 yX3_clear, Cond.instanceMethod yX3_clear, Cond.selects RX3 yX3_clear yX3_clear, Cond.code yX3_clear cX3_clear 1 none, Cond.fieldLink RX3 57 "PrintRacks$Press" "lateJobs" "I", Cond.fieldLink RX3 60 "PrintRacks$Press" "lateSum" "I", Cond.fieldLink RX3 63 "PrintRacks$Press" "mostLate" "I", Cond.fieldLink RX3 66 "PrintRacks$Press" "washSum" "I", Cond.fieldLink RX3 69 "PrintRacks$Press" "platesPutOn" "I", Cond.fieldLink RX3 72 "PrintRacks$Press" "waitSum" "I", Cond.fieldLink RX3 75 "PrintRacks$Press" "mostTaken" "I", Cond.fieldLink RX3 78 "PrintRacks$Press" "taken" "I", Cond.fieldLink RX3 81 "PrintRacks$Press" "oldestDrying" "I", Cond.methodLink RX3 46 yX3_makeReady]
def wsX4_lateSumOf_r2 : List Cond := [Cond.instanceMethod yX3_makeReady, Cond.selects RX3 yX3_makeReady yX3_makeReady, Cond.code yX3_makeReady cX3_makeReady 4 none, Cond.fieldLink RX3 84 "PrintRacks$Board" "fields" "[[I", Cond.fieldLink RX3 15 "PrintRacks$Press" "wash" "[I", Cond.fieldLink RX3 18 "PrintRacks$Press" "ready" "[I", Cond.fieldLink RX3 92 "PrintRacks$Board" "settings" "[I", Cond.methodLink RX3 88 yX3_washAhead, Cond.static yX3_washAhead, Cond.code yX3_washAhead cX3_washAhead 3 (some .int), Cond.methodLink RX3 50 yX3_printJob, Cond.instanceMethod yX3_printJob, Cond.selects RX3 yX3_printJob yX3_printJob, Cond.code yX3_printJob cX3_printJob 7 none, Cond.fieldLink RX3 27 "PrintRacks$Press" "printed" "[I", Cond.fieldLink RX3 9 "PrintRacks$Press" "racks" "[I", Cond.fieldLink RX3 21 "PrintRacks$Press" "waits" "[I", Cond.fieldLink RX3 24 "PrintRacks$Press" "begins" "[I", Cond.static yX4_racksFor, Cond.initialized RX4, Cond.code yX4_racksFor cX4_racksFor 2 (some .int), Cond.methodLink RX3 99 yX3_whenRacksAreFree, Cond.instanceMethod yX3_whenRacksAreFree, Cond.selects RX3 yX3_whenRacksAreFree yX3_whenRacksAreFree]
def wsX4_lateSumOf_r3 : List Cond := [Cond.code yX3_whenRacksAreFree cX3_whenRacksAreFree 5 (some .int), Cond.fieldLink RX3 30 "PrintRacks$Press" "dry" "[I", Cond.methodLink RX3 103 Lib.Math.max.name, Cond.static Lib.Math.max.name, Cond.initialized "java/lang/Math", Cond.code Lib.Math.max.name Lib.Math.max.code 2 (some .int), Cond.methodLink RX3 54 yX3_dryJob, Cond.instanceMethod yX3_dryJob, Cond.selects RX3 yX3_dryJob yX3_dryJob, Cond.code yX3_dryJob cX3_dryJob 3 none, Cond.fieldLink RX3 33 "PrintRacks$Press" "late" "[I"]
def wsX4_lateSumOf : List Cond := .code yX4_lateSumOf cX4_lateSumOf 2 (some .int) :: ((wsX4_lateSumOf_r1 ++ (wsX4_lateSumOf_r2 ++ wsX4_lateSumOf_r3)) ++ wsX40 ++ wsX00 ++ wsX30)
def wsX4_move_r1 : List Cond := [Cond.fieldLink RX4 36 "PrintRacks" "history" "LPrintRacks$History;", Cond.fieldLink RX4 10 "PrintRacks" "board" "LPrintRacks$Board;", Cond.methodLink RX4 95 yX4_isJob, Cond.instanceMethod yX4_isJob, Cond.selects RX4 yX4_isJob yX4_isJob, Cond.initialized RX4, Cond.code yX4_isJob cX4_isJob 2 (some .boolean), Cond.fieldLink RX4 74 "PrintRacks$Board" "jobs" "I", Cond.methodLink RX4 48 yX4_within, Cond.static yX4_within, Cond.code yX4_within cX4_within 3 (some .boolean), Cond.methodLink RX4 66 yX1_remember, Cond.instanceMethod yX1_remember, Cond.selects RX1 yX1_remember yX1_remember, Cond.initialized RX1, Cond.code yX1_remember cX1_remember 2 none, Cond.fieldLink RX1 11 "PrintRacks$History" "states" "[LPrintRacks$Board;", Cond.fieldLink RX1 18 "PrintRacks$History" "next" "I", Cond.fieldLink RX1 26 "PrintRacks$History" "kept" "I", Cond.methodLink RX1 29 Lib.Math.min.name, Cond.static Lib.Math.min.name, Cond.initialized "java/lang/Math", Cond.code Lib.Math.min.name Lib.Math.min.code 2 (some .int), Cond.methodLink RX1 22 yX0_copyFrom]
def wsX4_move_r2 : List Cond := [Cond.instanceMethod yX0_copyFrom, Cond.selects RX0 yX0_copyFrom yX0_copyFrom, Cond.initialized RX0, Cond.code yX0_copyFrom cX0_copyFrom 3 none, Cond.fieldLink RX0 9 "PrintRacks$Board" "settings" "[I", Cond.methodLink RX0 18 arraycopyName, Cond.native arraycopyName, Cond.static arraycopyName, Cond.initialized "java/lang/System", Cond.fieldLink RX0 26 "PrintRacks$Board" "fields" "[[I", Cond.fieldLink RX0 29 "PrintRacks$Board" "jobs" "I", Cond.methodLink RX4 103 yX0_shift, Cond.instanceMethod yX0_shift, Cond.selects RX0 yX0_shift yX0_shift, Cond.code yX0_shift cX0_shift 9 none, Cond.methodLink RX4 107 yX4_lateSumOf, Cond.instanceMethod yX4_lateSumOf, Cond.selects RX4 yX4_lateSumOf yX4_lateSumOf, Cond.code yX4_lateSumOf cX4_lateSumOf 2 (some .int), Cond.fieldLink RX4 22 "PrintRacks" "press" "LPrintRacks$Press;", Cond.fieldLink RX4 59 "PrintRacks$Board" "settings" "[I", Cond.fieldLink RX4 163 "PrintRacks$Press" "lateSum" "I", Cond.methodLink RX4 115 yX3_print, Cond.instanceMethod yX3_print]
def wsX4_move_r3 : List Cond := [Cond.selects RX3 yX3_print yX3_print, Cond.initialized RX3, Cond.code yX3_print cX3_print 4 none, Cond.fieldLink RX3 39 "PrintRacks$Board" "jobs" "I", Cond.fieldLink RX3 45 "PrintRacks$Press" "jobs" "I", Cond.methodLink RX3 36 yX3_clear, Cond.instanceMethod yX3_clear, Cond.selects RX3 yX3_clear yX3_clear, Cond.code yX3_clear cX3_clear 1 none, Cond.fieldLink RX3 57 "PrintRacks$Press" "lateJobs" "I", Cond.fieldLink RX3 60 "PrintRacks$Press" "lateSum" "I", Cond.fieldLink RX3 63 "PrintRacks$Press" "mostLate" "I", Cond.fieldLink RX3 66 "PrintRacks$Press" "washSum" "I", Cond.fieldLink RX3 69 "PrintRacks$Press" "platesPutOn" "I", Cond.fieldLink RX3 72 "PrintRacks$Press" "waitSum" "I", Cond.fieldLink RX3 75 "PrintRacks$Press" "mostTaken" "I", Cond.fieldLink RX3 78 "PrintRacks$Press" "taken" "I", Cond.fieldLink RX3 81 "PrintRacks$Press" "oldestDrying" "I", Cond.methodLink RX3 46 yX3_makeReady, Cond.instanceMethod yX3_makeReady, Cond.selects RX3 yX3_makeReady yX3_makeReady, Cond.code yX3_makeReady cX3_makeReady 4 none, Cond.fieldLink RX3 84 "PrintRacks$Board" "fields" "[[I", Cond.fieldLink RX3 15 "PrintRacks$Press" "wash" "[I"]
def wsX4_move_r4 : List Cond := [Cond.fieldLink RX3 18 "PrintRacks$Press" "ready" "[I", Cond.fieldLink RX3 92 "PrintRacks$Board" "settings" "[I", Cond.methodLink RX3 88 yX3_washAhead, Cond.static yX3_washAhead, Cond.code yX3_washAhead cX3_washAhead 3 (some .int), Cond.methodLink RX3 50 yX3_printJob, Cond.instanceMethod yX3_printJob, Cond.selects RX3 yX3_printJob yX3_printJob, Cond.code yX3_printJob cX3_printJob 7 none, Cond.fieldLink RX3 27 "PrintRacks$Press" "printed" "[I", Cond.fieldLink RX3 9 "PrintRacks$Press" "racks" "[I", Cond.fieldLink RX3 21 "PrintRacks$Press" "waits" "[I", Cond.fieldLink RX3 24 "PrintRacks$Press" "begins" "[I", Cond.static yX4_racksFor, Cond.code yX4_racksFor cX4_racksFor 2 (some .int), Cond.methodLink RX3 99 yX3_whenRacksAreFree, Cond.instanceMethod yX3_whenRacksAreFree, Cond.selects RX3 yX3_whenRacksAreFree yX3_whenRacksAreFree, Cond.code yX3_whenRacksAreFree cX3_whenRacksAreFree 5 (some .int), Cond.fieldLink RX3 30 "PrintRacks$Press" "dry" "[I", Cond.methodLink RX3 103 Lib.Math.max.name, Cond.static Lib.Math.max.name, Cond.code Lib.Math.max.name Lib.Math.max.code 2 (some .int), Cond.methodLink RX3 54 yX3_dryJob]
def wsX4_move_r5 : List Cond := [Cond.instanceMethod yX3_dryJob, Cond.selects RX3 yX3_dryJob yX3_dryJob, Cond.code yX3_dryJob cX3_dryJob 3 none, Cond.fieldLink RX3 33 "PrintRacks$Press" "late" "[I"]
def wsX4_move : List Cond := .code yX4_move cX4_move 3 (some .int) :: ((wsX4_move_r1 ++ (wsX4_move_r2 ++ (wsX4_move_r3 ++ (wsX4_move_r4 ++ wsX4_move_r5)))) ++ wsX40 ++ wsX00 ++ wsX10 ++ wsX30)
def wsX4_due_r1 : List Cond := [Cond.fieldLink RX4 36 "PrintRacks" "history" "LPrintRacks$History;", Cond.fieldLink RX4 10 "PrintRacks" "board" "LPrintRacks$Board;", Cond.fieldLink RX4 111 "PrintRacks$Board" "fields" "[[I", Cond.fieldLink RX4 22 "PrintRacks" "press" "LPrintRacks$Press;", Cond.fieldLink RX4 59 "PrintRacks$Board" "settings" "[I", Cond.fieldLink RX4 119 "PrintRacks$Press" "late" "[I", Cond.methodLink RX4 95 yX4_isJob, Cond.instanceMethod yX4_isJob, Cond.selects RX4 yX4_isJob yX4_isJob, Cond.initialized RX4, Cond.code yX4_isJob cX4_isJob 2 (some .boolean), Cond.fieldLink RX4 74 "PrintRacks$Board" "jobs" "I", Cond.methodLink RX4 48 yX4_within, Cond.static yX4_within, Cond.code yX4_within cX4_within 3 (some .boolean), Cond.methodLink RX4 66 yX1_remember, Cond.instanceMethod yX1_remember, Cond.selects RX1 yX1_remember yX1_remember, Cond.initialized RX1, Cond.code yX1_remember cX1_remember 2 none, Cond.fieldLink RX1 11 "PrintRacks$History" "states" "[LPrintRacks$Board;", Cond.fieldLink RX1 18 "PrintRacks$History" "next" "I", Cond.fieldLink RX1 26 "PrintRacks$History" "kept" "I", Cond.methodLink RX1 29 Lib.Math.min.name]
def wsX4_due_r2 : List Cond := [Cond.static Lib.Math.min.name, Cond.initialized "java/lang/Math", Cond.code Lib.Math.min.name Lib.Math.min.code 2 (some .int), Cond.methodLink RX1 22 yX0_copyFrom, Cond.instanceMethod yX0_copyFrom, Cond.selects RX0 yX0_copyFrom yX0_copyFrom, Cond.initialized RX0, Cond.code yX0_copyFrom cX0_copyFrom 3 none, Cond.fieldLink RX0 9 "PrintRacks$Board" "settings" "[I", Cond.methodLink RX0 18 arraycopyName, Cond.native arraycopyName, Cond.static arraycopyName, Cond.initialized "java/lang/System", Cond.fieldLink RX0 26 "PrintRacks$Board" "fields" "[[I", Cond.fieldLink RX0 29 "PrintRacks$Board" "jobs" "I", Cond.methodLink RX4 115 yX3_print, Cond.instanceMethod yX3_print, Cond.selects RX3 yX3_print yX3_print, Cond.initialized RX3, Cond.code yX3_print cX3_print 4 none, Cond.fieldLink RX3 39 "PrintRacks$Board" "jobs" "I", Cond.fieldLink RX3 45 "PrintRacks$Press" "jobs" "I", Cond.methodLink RX3 36 yX3_clear, Cond.instanceMethod yX3_clear]
def wsX4_due_r3 : List Cond := [Cond.selects RX3 yX3_clear yX3_clear, Cond.code yX3_clear cX3_clear 1 none, Cond.fieldLink RX3 57 "PrintRacks$Press" "lateJobs" "I", Cond.fieldLink RX3 60 "PrintRacks$Press" "lateSum" "I", Cond.fieldLink RX3 63 "PrintRacks$Press" "mostLate" "I", Cond.fieldLink RX3 66 "PrintRacks$Press" "washSum" "I", Cond.fieldLink RX3 69 "PrintRacks$Press" "platesPutOn" "I", Cond.fieldLink RX3 72 "PrintRacks$Press" "waitSum" "I", Cond.fieldLink RX3 75 "PrintRacks$Press" "mostTaken" "I", Cond.fieldLink RX3 78 "PrintRacks$Press" "taken" "I", Cond.fieldLink RX3 81 "PrintRacks$Press" "oldestDrying" "I", Cond.methodLink RX3 46 yX3_makeReady, Cond.instanceMethod yX3_makeReady, Cond.selects RX3 yX3_makeReady yX3_makeReady, Cond.code yX3_makeReady cX3_makeReady 4 none, Cond.fieldLink RX3 84 "PrintRacks$Board" "fields" "[[I", Cond.fieldLink RX3 15 "PrintRacks$Press" "wash" "[I", Cond.fieldLink RX3 18 "PrintRacks$Press" "ready" "[I", Cond.fieldLink RX3 92 "PrintRacks$Board" "settings" "[I", Cond.methodLink RX3 88 yX3_washAhead, Cond.static yX3_washAhead, Cond.code yX3_washAhead cX3_washAhead 3 (some .int), Cond.methodLink RX3 50 yX3_printJob, Cond.instanceMethod yX3_printJob]
def wsX4_due_r4 : List Cond := [Cond.selects RX3 yX3_printJob yX3_printJob, Cond.code yX3_printJob cX3_printJob 7 none, Cond.fieldLink RX3 27 "PrintRacks$Press" "printed" "[I", Cond.fieldLink RX3 9 "PrintRacks$Press" "racks" "[I", Cond.fieldLink RX3 21 "PrintRacks$Press" "waits" "[I", Cond.fieldLink RX3 24 "PrintRacks$Press" "begins" "[I", Cond.static yX4_racksFor, Cond.code yX4_racksFor cX4_racksFor 2 (some .int), Cond.methodLink RX3 99 yX3_whenRacksAreFree, Cond.instanceMethod yX3_whenRacksAreFree, Cond.selects RX3 yX3_whenRacksAreFree yX3_whenRacksAreFree, Cond.code yX3_whenRacksAreFree cX3_whenRacksAreFree 5 (some .int), Cond.fieldLink RX3 30 "PrintRacks$Press" "dry" "[I", Cond.methodLink RX3 103 Lib.Math.max.name, Cond.static Lib.Math.max.name, Cond.code Lib.Math.max.name Lib.Math.max.code 2 (some .int), Cond.methodLink RX3 54 yX3_dryJob, Cond.instanceMethod yX3_dryJob, Cond.selects RX3 yX3_dryJob yX3_dryJob, Cond.code yX3_dryJob cX3_dryJob 3 none, Cond.fieldLink RX3 33 "PrintRacks$Press" "late" "[I"]
def wsX4_due : List Cond := .code yX4_due cX4_due 3 (some .int) :: ((wsX4_due_r1 ++ (wsX4_due_r2 ++ (wsX4_due_r3 ++ wsX4_due_r4))) ++ wsX40 ++ wsX00 ++ wsX30 ++ wsX10)
def wsX4_order_r1 : List Cond := [Cond.fieldLink RX4 36 "PrintRacks" "history" "LPrintRacks$History;", Cond.fieldLink RX4 10 "PrintRacks" "board" "LPrintRacks$Board;", Cond.fieldLink RX4 16 "PrintRacks" "trial" "LPrintRacks$Board;", Cond.fieldLink RX4 122 "PrintRacks" "FIELD_OF_RULE" "[I", Cond.methodLink RX4 48 yX4_within, Cond.static yX4_within, Cond.initialized RX4, Cond.code yX4_within cX4_within 3 (some .boolean), Cond.methodLink RX4 66 yX1_remember, Cond.instanceMethod yX1_remember, Cond.selects RX1 yX1_remember yX1_remember, Cond.initialized RX1, Cond.code yX1_remember cX1_remember 2 none, Cond.fieldLink RX1 11 "PrintRacks$History" "states" "[LPrintRacks$Board;", Cond.fieldLink RX1 18 "PrintRacks$History" "next" "I", Cond.fieldLink RX1 26 "PrintRacks$History" "kept" "I", Cond.methodLink RX1 29 Lib.Math.min.name, Cond.static Lib.Math.min.name, Cond.initialized "java/lang/Math", Cond.code Lib.Math.min.name Lib.Math.min.code 2 (some .int), Cond.methodLink RX1 22 yX0_copyFrom, Cond.instanceMethod yX0_copyFrom, Cond.selects RX0 yX0_copyFrom yX0_copyFrom, Cond.initialized RX0]
def wsX4_order_r2 : List Cond := [Cond.code yX0_copyFrom cX0_copyFrom 3 none, Cond.fieldLink RX0 9 "PrintRacks$Board" "settings" "[I", Cond.methodLink RX0 18 arraycopyName, Cond.native arraycopyName, Cond.static arraycopyName, Cond.initialized "java/lang/System", Cond.fieldLink RX0 26 "PrintRacks$Board" "fields" "[[I", Cond.fieldLink RX0 29 "PrintRacks$Board" "jobs" "I", Cond.methodLink RX4 125 yX0_arrange, Cond.instanceMethod yX0_arrange, Cond.selects RX0 yX0_arrange yX0_arrange, Cond.code yX0_arrange cX0_arrange 7 (some .int), Cond.methodLink RX0 41 yX0_copyFrom, Cond.methodLink RX0 45 yX0_placeBy, Cond.instanceMethod yX0_placeBy, Cond.selects RX0 yX0_placeBy yX0_placeBy, Cond.code yX0_placeBy cX0_placeBy 6 (some .int), Cond.methodLink RX4 129 yX0_copyFrom]
def wsX4_order : List Cond := .code yX4_order cX4_order 3 (some .int) :: ((wsX4_order_r1 ++ wsX4_order_r2) ++ wsX40 ++ wsX10 ++ wsX00)
def wsX4_jobOf_r1 : List Cond := [Cond.fieldLink RX4 10 "PrintRacks" "board" "LPrintRacks$Board;", Cond.fieldLink RX4 111 "PrintRacks$Board" "fields" "[[I", Cond.fieldLink RX4 22 "PrintRacks" "press" "LPrintRacks$Press;", Cond.fieldLink RX4 59 "PrintRacks$Board" "settings" "[I", Cond.fieldLink RX4 132 "PrintRacks$Press" "racks" "[I", Cond.fieldLink RX4 135 "PrintRacks$Press" "begins" "[I", Cond.fieldLink RX4 138 "PrintRacks$Press" "printed" "[I", Cond.fieldLink RX4 141 "PrintRacks$Press" "dry" "[I", Cond.fieldLink RX4 119 "PrintRacks$Press" "late" "[I", Cond.fieldLink RX4 144 "PrintRacks$Press" "waits" "[I", Cond.fieldLink RX4 147 "PrintRacks$Press" "ready" "[I", Cond.fieldLink RX4 150 "PrintRacks$Press" "wash" "[I", Cond.methodLink RX4 95 yX4_isJob, Cond.instanceMethod yX4_isJob, Cond.selects RX4 yX4_isJob yX4_isJob, Cond.initialized RX4, Cond.code yX4_isJob cX4_isJob 2 (some .boolean), Cond.fieldLink RX4 74 "PrintRacks$Board" "jobs" "I", Cond.methodLink RX4 48 yX4_within, Cond.static yX4_within, Cond.code yX4_within cX4_within 3 (some .boolean), Cond.methodLink RX4 115 yX3_print, Cond.instanceMethod yX3_print, Cond.selects RX3 yX3_print yX3_print]
def wsX4_jobOf_r2 : List Cond := [Cond.initialized RX3, Cond.code yX3_print cX3_print 4 none, Cond.fieldLink RX3 39 "PrintRacks$Board" "jobs" "I", Cond.fieldLink RX3 45 "PrintRacks$Press" "jobs" "I", Cond.methodLink RX3 36 yX3_clear, Cond.instanceMethod yX3_clear, Cond.selects RX3 yX3_clear yX3_clear, Cond.code yX3_clear cX3_clear 1 none, Cond.fieldLink RX3 57 "PrintRacks$Press" "lateJobs" "I", Cond.fieldLink RX3 60 "PrintRacks$Press" "lateSum" "I", Cond.fieldLink RX3 63 "PrintRacks$Press" "mostLate" "I", Cond.fieldLink RX3 66 "PrintRacks$Press" "washSum" "I", Cond.fieldLink RX3 69 "PrintRacks$Press" "platesPutOn" "I", Cond.fieldLink RX3 72 "PrintRacks$Press" "waitSum" "I", Cond.fieldLink RX3 75 "PrintRacks$Press" "mostTaken" "I", Cond.fieldLink RX3 78 "PrintRacks$Press" "taken" "I", Cond.fieldLink RX3 81 "PrintRacks$Press" "oldestDrying" "I", Cond.methodLink RX3 46 yX3_makeReady, Cond.instanceMethod yX3_makeReady, Cond.selects RX3 yX3_makeReady yX3_makeReady, Cond.code yX3_makeReady cX3_makeReady 4 none, Cond.fieldLink RX3 84 "PrintRacks$Board" "fields" "[[I", Cond.fieldLink RX3 15 "PrintRacks$Press" "wash" "[I", Cond.fieldLink RX3 18 "PrintRacks$Press" "ready" "[I"]
def wsX4_jobOf_r3 : List Cond := [Cond.fieldLink RX3 92 "PrintRacks$Board" "settings" "[I", Cond.methodLink RX3 88 yX3_washAhead, Cond.static yX3_washAhead, Cond.code yX3_washAhead cX3_washAhead 3 (some .int), Cond.methodLink RX3 50 yX3_printJob, Cond.instanceMethod yX3_printJob, Cond.selects RX3 yX3_printJob yX3_printJob, Cond.code yX3_printJob cX3_printJob 7 none, Cond.fieldLink RX3 27 "PrintRacks$Press" "printed" "[I", Cond.fieldLink RX3 9 "PrintRacks$Press" "racks" "[I", Cond.fieldLink RX3 21 "PrintRacks$Press" "waits" "[I", Cond.fieldLink RX3 24 "PrintRacks$Press" "begins" "[I", Cond.static yX4_racksFor, Cond.code yX4_racksFor cX4_racksFor 2 (some .int), Cond.methodLink RX3 99 yX3_whenRacksAreFree, Cond.instanceMethod yX3_whenRacksAreFree, Cond.selects RX3 yX3_whenRacksAreFree yX3_whenRacksAreFree, Cond.code yX3_whenRacksAreFree cX3_whenRacksAreFree 5 (some .int), Cond.fieldLink RX3 30 "PrintRacks$Press" "dry" "[I", Cond.methodLink RX3 103 Lib.Math.max.name, Cond.static Lib.Math.max.name, Cond.initialized "java/lang/Math", Cond.code Lib.Math.max.name Lib.Math.max.code 2 (some .int), Cond.methodLink RX3 54 yX3_dryJob]
def wsX4_jobOf_r4 : List Cond := [Cond.instanceMethod yX3_dryJob, Cond.selects RX3 yX3_dryJob yX3_dryJob, Cond.code yX3_dryJob cX3_dryJob 3 none, Cond.fieldLink RX3 33 "PrintRacks$Press" "late" "[I"]
def wsX4_jobOf : List Cond := .code yX4_jobOf cX4_jobOf 3 (some .int) :: ((wsX4_jobOf_r1 ++ (wsX4_jobOf_r2 ++ (wsX4_jobOf_r3 ++ wsX4_jobOf_r4))) ++ wsX40 ++ wsX00 ++ wsX30)
def wsX4_count_r1 : List Cond := [Cond.fieldLink RX4 10 "PrintRacks" "board" "LPrintRacks$Board;", Cond.fieldLink RX4 59 "PrintRacks$Board" "settings" "[I", Cond.fieldLink RX4 22 "PrintRacks" "press" "LPrintRacks$Press;", Cond.fieldLink RX4 74 "PrintRacks$Board" "jobs" "I", Cond.fieldLink RX4 138 "PrintRacks$Press" "printed" "[I", Cond.fieldLink RX4 141 "PrintRacks$Press" "dry" "[I", Cond.fieldLink RX4 160 "PrintRacks$Press" "lateJobs" "I", Cond.fieldLink RX4 163 "PrintRacks$Press" "lateSum" "I", Cond.fieldLink RX4 166 "PrintRacks$Press" "mostLate" "I", Cond.fieldLink RX4 169 "PrintRacks$Press" "washSum" "I", Cond.fieldLink RX4 172 "PrintRacks$Press" "platesPutOn" "I", Cond.fieldLink RX4 175 "PrintRacks$Press" "waitSum" "I", Cond.fieldLink RX4 178 "PrintRacks$Press" "mostTaken" "I", Cond.fieldLink RX4 29 "PrintRacks" "pad" "LPrintRacks$Pad;", Cond.fieldLink RX4 92 "PrintRacks$Pad" "length" "I", Cond.fieldLink RX4 36 "PrintRacks" "history" "LPrintRacks$History;", Cond.fieldLink RX4 181 "PrintRacks$History" "kept" "I", Cond.methodLink RX4 48 yX4_within, Cond.static yX4_within, Cond.initialized RX4, Cond.code yX4_within cX4_within 3 (some .boolean), Cond.methodLink RX4 115 yX3_print, Cond.instanceMethod yX3_print, Cond.selects RX3 yX3_print yX3_print]
def wsX4_count_r2 : List Cond := [Cond.initialized RX3, Cond.code yX3_print cX3_print 4 none, Cond.fieldLink RX3 39 "PrintRacks$Board" "jobs" "I", Cond.fieldLink RX3 45 "PrintRacks$Press" "jobs" "I", Cond.methodLink RX3 36 yX3_clear, Cond.instanceMethod yX3_clear, Cond.selects RX3 yX3_clear yX3_clear, Cond.code yX3_clear cX3_clear 1 none, Cond.fieldLink RX3 57 "PrintRacks$Press" "lateJobs" "I", Cond.fieldLink RX3 60 "PrintRacks$Press" "lateSum" "I", Cond.fieldLink RX3 63 "PrintRacks$Press" "mostLate" "I", Cond.fieldLink RX3 66 "PrintRacks$Press" "washSum" "I", Cond.fieldLink RX3 69 "PrintRacks$Press" "platesPutOn" "I", Cond.fieldLink RX3 72 "PrintRacks$Press" "waitSum" "I", Cond.fieldLink RX3 75 "PrintRacks$Press" "mostTaken" "I", Cond.fieldLink RX3 78 "PrintRacks$Press" "taken" "I", Cond.fieldLink RX3 81 "PrintRacks$Press" "oldestDrying" "I", Cond.methodLink RX3 46 yX3_makeReady, Cond.instanceMethod yX3_makeReady, Cond.selects RX3 yX3_makeReady yX3_makeReady, Cond.code yX3_makeReady cX3_makeReady 4 none, Cond.fieldLink RX3 84 "PrintRacks$Board" "fields" "[[I", Cond.fieldLink RX3 15 "PrintRacks$Press" "wash" "[I", Cond.fieldLink RX3 18 "PrintRacks$Press" "ready" "[I"]
def wsX4_count_r3 : List Cond := [Cond.fieldLink RX3 92 "PrintRacks$Board" "settings" "[I", Cond.methodLink RX3 88 yX3_washAhead, Cond.static yX3_washAhead, Cond.code yX3_washAhead cX3_washAhead 3 (some .int), Cond.methodLink RX3 50 yX3_printJob, Cond.instanceMethod yX3_printJob, Cond.selects RX3 yX3_printJob yX3_printJob, Cond.code yX3_printJob cX3_printJob 7 none, Cond.fieldLink RX3 27 "PrintRacks$Press" "printed" "[I", Cond.fieldLink RX3 9 "PrintRacks$Press" "racks" "[I", Cond.fieldLink RX3 21 "PrintRacks$Press" "waits" "[I", Cond.fieldLink RX3 24 "PrintRacks$Press" "begins" "[I", Cond.static yX4_racksFor, Cond.code yX4_racksFor cX4_racksFor 2 (some .int), Cond.methodLink RX3 99 yX3_whenRacksAreFree, Cond.instanceMethod yX3_whenRacksAreFree, Cond.selects RX3 yX3_whenRacksAreFree yX3_whenRacksAreFree, Cond.code yX3_whenRacksAreFree cX3_whenRacksAreFree 5 (some .int), Cond.fieldLink RX3 30 "PrintRacks$Press" "dry" "[I", Cond.methodLink RX3 103 Lib.Math.max.name, Cond.static Lib.Math.max.name, Cond.initialized "java/lang/Math", Cond.code Lib.Math.max.name Lib.Math.max.code 2 (some .int), Cond.methodLink RX3 54 yX3_dryJob]
def wsX4_count_r4 : List Cond := [Cond.instanceMethod yX3_dryJob, Cond.selects RX3 yX3_dryJob yX3_dryJob, Cond.code yX3_dryJob cX3_dryJob 3 none, Cond.fieldLink RX3 33 "PrintRacks$Press" "late" "[I", Cond.methodLink RX4 153 yX0_hundredsOfAll, Cond.instanceMethod yX0_hundredsOfAll, Cond.selects RX0 yX0_hundredsOfAll yX0_hundredsOfAll, Cond.initialized RX0, Cond.code yX0_hundredsOfAll cX0_hundredsOfAll 3 (some .int), Cond.fieldLink RX0 29 "PrintRacks$Board" "jobs" "I", Cond.fieldLink RX0 26 "PrintRacks$Board" "fields" "[[I", Cond.methodLink RX4 156 yX3_lastOf, Cond.instanceMethod yX3_lastOf, Cond.selects RX3 yX3_lastOf yX3_lastOf, Cond.code yX3_lastOf cX3_lastOf 2 (some .int)]
def wsX4_count : List Cond := .code yX4_count cX4_count 2 (some .int) :: ((wsX4_count_r1 ++ (wsX4_count_r2 ++ (wsX4_count_r3 ++ wsX4_count_r4))) ++ wsX40 ++ wsX00 ++ wsX30 ++ wsX20 ++ wsX10)
def wsX4_at_r1 : List Cond := [Cond.constant RX4 184 (99999), Cond.fieldLink RX4 22 "PrintRacks" "press" "LPrintRacks$Press;", Cond.fieldLink RX4 10 "PrintRacks" "board" "LPrintRacks$Board;", Cond.fieldLink RX4 59 "PrintRacks$Board" "settings" "[I", Cond.fieldLink RX4 138 "PrintRacks$Press" "printed" "[I", Cond.fieldLink RX4 141 "PrintRacks$Press" "dry" "[I", Cond.methodLink RX4 48 yX4_within, Cond.static yX4_within, Cond.initialized RX4, Cond.code yX4_within cX4_within 3 (some .boolean), Cond.methodLink RX4 115 yX3_print, Cond.instanceMethod yX3_print, Cond.selects RX3 yX3_print yX3_print, Cond.initialized RX3, Cond.code yX3_print cX3_print 4 none, Cond.fieldLink RX3 39 "PrintRacks$Board" "jobs" "I", Cond.fieldLink RX3 45 "PrintRacks$Press" "jobs" "I", Cond.methodLink RX3 36 yX3_clear, Cond.instanceMethod yX3_clear, Cond.selects RX3 yX3_clear yX3_clear, Cond.code yX3_clear cX3_clear 1 none, Cond.fieldLink RX3 57 "PrintRacks$Press" "lateJobs" "I", Cond.fieldLink RX3 60 "PrintRacks$Press" "lateSum" "I", Cond.fieldLink RX3 63 "PrintRacks$Press" "mostLate" "I"]
def wsX4_at_r2 : List Cond := [Cond.fieldLink RX3 66 "PrintRacks$Press" "washSum" "I", Cond.fieldLink RX3 69 "PrintRacks$Press" "platesPutOn" "I", Cond.fieldLink RX3 72 "PrintRacks$Press" "waitSum" "I", Cond.fieldLink RX3 75 "PrintRacks$Press" "mostTaken" "I", Cond.fieldLink RX3 78 "PrintRacks$Press" "taken" "I", Cond.fieldLink RX3 81 "PrintRacks$Press" "oldestDrying" "I", Cond.methodLink RX3 46 yX3_makeReady, Cond.instanceMethod yX3_makeReady, Cond.selects RX3 yX3_makeReady yX3_makeReady, Cond.code yX3_makeReady cX3_makeReady 4 none, Cond.fieldLink RX3 84 "PrintRacks$Board" "fields" "[[I", Cond.fieldLink RX3 15 "PrintRacks$Press" "wash" "[I", Cond.fieldLink RX3 18 "PrintRacks$Press" "ready" "[I", Cond.fieldLink RX3 92 "PrintRacks$Board" "settings" "[I", Cond.methodLink RX3 88 yX3_washAhead, Cond.static yX3_washAhead, Cond.code yX3_washAhead cX3_washAhead 3 (some .int), Cond.methodLink RX3 50 yX3_printJob, Cond.instanceMethod yX3_printJob, Cond.selects RX3 yX3_printJob yX3_printJob, Cond.code yX3_printJob cX3_printJob 7 none, Cond.fieldLink RX3 27 "PrintRacks$Press" "printed" "[I", Cond.fieldLink RX3 9 "PrintRacks$Press" "racks" "[I", Cond.fieldLink RX3 21 "PrintRacks$Press" "waits" "[I"]
def wsX4_at_r3 : List Cond := [Cond.fieldLink RX3 24 "PrintRacks$Press" "begins" "[I", Cond.static yX4_racksFor, Cond.code yX4_racksFor cX4_racksFor 2 (some .int), Cond.methodLink RX3 99 yX3_whenRacksAreFree, Cond.instanceMethod yX3_whenRacksAreFree, Cond.selects RX3 yX3_whenRacksAreFree yX3_whenRacksAreFree, Cond.code yX3_whenRacksAreFree cX3_whenRacksAreFree 5 (some .int), Cond.fieldLink RX3 30 "PrintRacks$Press" "dry" "[I", Cond.methodLink RX3 103 Lib.Math.max.name, Cond.static Lib.Math.max.name, Cond.initialized "java/lang/Math", Cond.code Lib.Math.max.name Lib.Math.max.code 2 (some .int), Cond.methodLink RX3 54 yX3_dryJob, Cond.instanceMethod yX3_dryJob, Cond.selects RX3 yX3_dryJob yX3_dryJob, Cond.code yX3_dryJob cX3_dryJob 3 none, Cond.fieldLink RX3 33 "PrintRacks$Press" "late" "[I", Cond.methodLink RX4 185 yX3_jobOnPress, Cond.instanceMethod yX3_jobOnPress, Cond.selects RX3 yX3_jobOnPress yX3_jobOnPress, Cond.code yX3_jobOnPress cX3_jobOnPress 3 (some .int), Cond.methodLink RX4 188 yX3_racksTaken, Cond.instanceMethod yX3_racksTaken, Cond.selects RX3 yX3_racksTaken yX3_racksTaken]
def wsX4_at_r4 : List Cond := [Cond.code yX3_racksTaken cX3_racksTaken 4 (some .int), Cond.methodLink RX4 191 yX3_reached, Cond.instanceMethod yX3_reached, Cond.selects RX3 yX3_reached yX3_reached, Cond.code yX3_reached cX3_reached 5 (some .int)]
def wsX4_at : List Cond := .code yX4_at cX4_at 3 (some .int) :: ((wsX4_at_r1 ++ (wsX4_at_r2 ++ (wsX4_at_r3 ++ wsX4_at_r4))) ++ wsX40 ++ wsX00 ++ wsX30)
def wsX4_ifOrdered_r1 : List Cond := [Cond.fieldLink RX4 16 "PrintRacks" "trial" "LPrintRacks$Board;", Cond.fieldLink RX4 10 "PrintRacks" "board" "LPrintRacks$Board;", Cond.fieldLink RX4 122 "PrintRacks" "FIELD_OF_RULE" "[I", Cond.fieldLink RX4 22 "PrintRacks" "press" "LPrintRacks$Press;", Cond.fieldLink RX4 59 "PrintRacks$Board" "settings" "[I", Cond.fieldLink RX4 141 "PrintRacks$Press" "dry" "[I", Cond.fieldLink RX4 163 "PrintRacks$Press" "lateSum" "I", Cond.fieldLink RX4 169 "PrintRacks$Press" "washSum" "I", Cond.fieldLink RX4 172 "PrintRacks$Press" "platesPutOn" "I", Cond.methodLink RX4 48 yX4_within, Cond.static yX4_within, Cond.initialized RX4, Cond.code yX4_within cX4_within 3 (some .boolean), Cond.methodLink RX4 125 yX0_arrange, Cond.instanceMethod yX0_arrange, Cond.selects RX0 yX0_arrange yX0_arrange, Cond.initialized RX0, Cond.code yX0_arrange cX0_arrange 7 (some .int), Cond.fieldLink RX0 29 "PrintRacks$Board" "jobs" "I", Cond.fieldLink RX0 26 "PrintRacks$Board" "fields" "[[I", Cond.methodLink RX0 41 yX0_copyFrom, Cond.instanceMethod yX0_copyFrom, Cond.selects RX0 yX0_copyFrom yX0_copyFrom, Cond.code yX0_copyFrom cX0_copyFrom 3 none]
def wsX4_ifOrdered_r2 : List Cond := [Cond.fieldLink RX0 9 "PrintRacks$Board" "settings" "[I", Cond.methodLink RX0 18 arraycopyName, Cond.native arraycopyName, Cond.static arraycopyName, Cond.initialized "java/lang/System", Cond.methodLink RX0 45 yX0_placeBy, Cond.instanceMethod yX0_placeBy, Cond.selects RX0 yX0_placeBy yX0_placeBy, Cond.code yX0_placeBy cX0_placeBy 6 (some .int), Cond.methodLink RX4 115 yX3_print, Cond.instanceMethod yX3_print, Cond.selects RX3 yX3_print yX3_print, Cond.initialized RX3, Cond.code yX3_print cX3_print 4 none, Cond.fieldLink RX3 39 "PrintRacks$Board" "jobs" "I", Cond.fieldLink RX3 45 "PrintRacks$Press" "jobs" "I", Cond.methodLink RX3 36 yX3_clear, Cond.instanceMethod yX3_clear, Cond.selects RX3 yX3_clear yX3_clear, Cond.code yX3_clear cX3_clear 1 none, Cond.fieldLink RX3 57 "PrintRacks$Press" "lateJobs" "I", Cond.fieldLink RX3 60 "PrintRacks$Press" "lateSum" "I", Cond.fieldLink RX3 63 "PrintRacks$Press" "mostLate" "I", Cond.fieldLink RX3 66 "PrintRacks$Press" "washSum" "I"]
def wsX4_ifOrdered_r3 : List Cond := [Cond.fieldLink RX3 69 "PrintRacks$Press" "platesPutOn" "I", Cond.fieldLink RX3 72 "PrintRacks$Press" "waitSum" "I", Cond.fieldLink RX3 75 "PrintRacks$Press" "mostTaken" "I", Cond.fieldLink RX3 78 "PrintRacks$Press" "taken" "I", Cond.fieldLink RX3 81 "PrintRacks$Press" "oldestDrying" "I", Cond.methodLink RX3 46 yX3_makeReady, Cond.instanceMethod yX3_makeReady, Cond.selects RX3 yX3_makeReady yX3_makeReady, Cond.code yX3_makeReady cX3_makeReady 4 none, Cond.fieldLink RX3 84 "PrintRacks$Board" "fields" "[[I", Cond.fieldLink RX3 15 "PrintRacks$Press" "wash" "[I", Cond.fieldLink RX3 18 "PrintRacks$Press" "ready" "[I", Cond.fieldLink RX3 92 "PrintRacks$Board" "settings" "[I", Cond.methodLink RX3 88 yX3_washAhead, Cond.static yX3_washAhead, Cond.code yX3_washAhead cX3_washAhead 3 (some .int), Cond.methodLink RX3 50 yX3_printJob, Cond.instanceMethod yX3_printJob, Cond.selects RX3 yX3_printJob yX3_printJob, Cond.code yX3_printJob cX3_printJob 7 none, Cond.fieldLink RX3 27 "PrintRacks$Press" "printed" "[I", Cond.fieldLink RX3 9 "PrintRacks$Press" "racks" "[I", Cond.fieldLink RX3 21 "PrintRacks$Press" "waits" "[I", Cond.fieldLink RX3 24 "PrintRacks$Press" "begins" "[I"]
def wsX4_ifOrdered_r4 : List Cond := [Cond.static yX4_racksFor, Cond.code yX4_racksFor cX4_racksFor 2 (some .int), Cond.methodLink RX3 99 yX3_whenRacksAreFree, Cond.instanceMethod yX3_whenRacksAreFree, Cond.selects RX3 yX3_whenRacksAreFree yX3_whenRacksAreFree, Cond.code yX3_whenRacksAreFree cX3_whenRacksAreFree 5 (some .int), Cond.fieldLink RX3 30 "PrintRacks$Press" "dry" "[I", Cond.methodLink RX3 103 Lib.Math.max.name, Cond.static Lib.Math.max.name, Cond.initialized "java/lang/Math", Cond.code Lib.Math.max.name Lib.Math.max.code 2 (some .int), Cond.methodLink RX3 54 yX3_dryJob, Cond.instanceMethod yX3_dryJob, Cond.selects RX3 yX3_dryJob yX3_dryJob, Cond.code yX3_dryJob cX3_dryJob 3 none, Cond.fieldLink RX3 33 "PrintRacks$Press" "late" "[I", Cond.methodLink RX4 156 yX3_lastOf, Cond.instanceMethod yX3_lastOf, Cond.selects RX3 yX3_lastOf yX3_lastOf, Cond.code yX3_lastOf cX3_lastOf 2 (some .int)]
def wsX4_ifOrdered : List Cond := .code yX4_ifOrdered cX4_ifOrdered 3 (some .int) :: ((wsX4_ifOrdered_r1 ++ (wsX4_ifOrdered_r2 ++ (wsX4_ifOrdered_r3 ++ wsX4_ifOrdered_r4))) ++ wsX40 ++ wsX00 ++ wsX30)
def wsX4_lateSumIfExchanged_r1 : List Cond := [Cond.fieldLink RX4 16 "PrintRacks" "trial" "LPrintRacks$Board;", Cond.methodLink RX4 215 yX0_exchange, Cond.instanceMethod yX0_exchange, Cond.selects RX0 yX0_exchange yX0_exchange, Cond.initialized RX0, Cond.code yX0_exchange cX0_exchange 8 none, Cond.fieldLink RX0 26 "PrintRacks$Board" "fields" "[[I", Cond.methodLink RX4 107 yX4_lateSumOf, Cond.instanceMethod yX4_lateSumOf, Cond.selects RX4 yX4_lateSumOf yX4_lateSumOf, Cond.initialized RX4, Cond.code yX4_lateSumOf cX4_lateSumOf 2 (some .int), Cond.fieldLink RX4 22 "PrintRacks" "press" "LPrintRacks$Press;", Cond.fieldLink RX4 59 "PrintRacks$Board" "settings" "[I", Cond.fieldLink RX4 163 "PrintRacks$Press" "lateSum" "I", Cond.methodLink RX4 115 yX3_print, Cond.instanceMethod yX3_print, Cond.selects RX3 yX3_print yX3_print, Cond.initialized RX3, Cond.code yX3_print cX3_print 4 none, Cond.fieldLink RX3 39 "PrintRacks$Board" "jobs" "I", Cond.fieldLink RX3 45 "PrintRacks$Press" "jobs" "I", Cond.methodLink RX3 36 yX3_clear, Cond.instanceMethod yX3_clear]
def wsX4_lateSumIfExchanged_r2 : List Cond := [Cond.selects RX3 yX3_clear yX3_clear, Cond.code yX3_clear cX3_clear 1 none, Cond.fieldLink RX3 57 "PrintRacks$Press" "lateJobs" "I", Cond.fieldLink RX3 60 "PrintRacks$Press" "lateSum" "I", Cond.fieldLink RX3 63 "PrintRacks$Press" "mostLate" "I", Cond.fieldLink RX3 66 "PrintRacks$Press" "washSum" "I", Cond.fieldLink RX3 69 "PrintRacks$Press" "platesPutOn" "I", Cond.fieldLink RX3 72 "PrintRacks$Press" "waitSum" "I", Cond.fieldLink RX3 75 "PrintRacks$Press" "mostTaken" "I", Cond.fieldLink RX3 78 "PrintRacks$Press" "taken" "I", Cond.fieldLink RX3 81 "PrintRacks$Press" "oldestDrying" "I", Cond.methodLink RX3 46 yX3_makeReady, Cond.instanceMethod yX3_makeReady, Cond.selects RX3 yX3_makeReady yX3_makeReady, Cond.code yX3_makeReady cX3_makeReady 4 none, Cond.fieldLink RX3 84 "PrintRacks$Board" "fields" "[[I", Cond.fieldLink RX3 15 "PrintRacks$Press" "wash" "[I", Cond.fieldLink RX3 18 "PrintRacks$Press" "ready" "[I", Cond.fieldLink RX3 92 "PrintRacks$Board" "settings" "[I", Cond.methodLink RX3 88 yX3_washAhead, Cond.static yX3_washAhead, Cond.code yX3_washAhead cX3_washAhead 3 (some .int), Cond.methodLink RX3 50 yX3_printJob, Cond.instanceMethod yX3_printJob]
def wsX4_lateSumIfExchanged_r3 : List Cond := [Cond.selects RX3 yX3_printJob yX3_printJob, Cond.code yX3_printJob cX3_printJob 7 none, Cond.fieldLink RX3 27 "PrintRacks$Press" "printed" "[I", Cond.fieldLink RX3 9 "PrintRacks$Press" "racks" "[I", Cond.fieldLink RX3 21 "PrintRacks$Press" "waits" "[I", Cond.fieldLink RX3 24 "PrintRacks$Press" "begins" "[I", Cond.static yX4_racksFor, Cond.code yX4_racksFor cX4_racksFor 2 (some .int), Cond.methodLink RX3 99 yX3_whenRacksAreFree, Cond.instanceMethod yX3_whenRacksAreFree, Cond.selects RX3 yX3_whenRacksAreFree yX3_whenRacksAreFree, Cond.code yX3_whenRacksAreFree cX3_whenRacksAreFree 5 (some .int), Cond.fieldLink RX3 30 "PrintRacks$Press" "dry" "[I", Cond.methodLink RX3 103 Lib.Math.max.name, Cond.static Lib.Math.max.name, Cond.initialized "java/lang/Math", Cond.code Lib.Math.max.name Lib.Math.max.code 2 (some .int), Cond.methodLink RX3 54 yX3_dryJob, Cond.instanceMethod yX3_dryJob, Cond.selects RX3 yX3_dryJob yX3_dryJob, Cond.code yX3_dryJob cX3_dryJob 3 none, Cond.fieldLink RX3 33 "PrintRacks$Press" "late" "[I"]
def wsX4_lateSumIfExchanged : List Cond := .code yX4_lateSumIfExchanged cX4_lateSumIfExchanged 4 (some .int) :: ((wsX4_lateSumIfExchanged_r1 ++ (wsX4_lateSumIfExchanged_r2 ++ wsX4_lateSumIfExchanged_r3)) ++ wsX40 ++ wsX00 ++ wsX30)
def wsX4_bestExchange_r1 : List Cond := [Cond.fieldLink RX4 16 "PrintRacks" "trial" "LPrintRacks$Board;", Cond.fieldLink RX4 10 "PrintRacks" "board" "LPrintRacks$Board;", Cond.fieldLink RX4 74 "PrintRacks$Board" "jobs" "I", Cond.methodLink RX4 48 yX4_within, Cond.static yX4_within, Cond.initialized RX4, Cond.code yX4_within cX4_within 3 (some .boolean), Cond.methodLink RX4 129 yX0_copyFrom, Cond.instanceMethod yX0_copyFrom, Cond.selects RX0 yX0_copyFrom yX0_copyFrom, Cond.initialized RX0, Cond.code yX0_copyFrom cX0_copyFrom 3 none, Cond.fieldLink RX0 9 "PrintRacks$Board" "settings" "[I", Cond.methodLink RX0 18 arraycopyName, Cond.native arraycopyName, Cond.static arraycopyName, Cond.initialized "java/lang/System", Cond.fieldLink RX0 26 "PrintRacks$Board" "fields" "[[I", Cond.fieldLink RX0 29 "PrintRacks$Board" "jobs" "I", Cond.methodLink RX4 107 yX4_lateSumOf, Cond.instanceMethod yX4_lateSumOf, Cond.selects RX4 yX4_lateSumOf yX4_lateSumOf, Cond.code yX4_lateSumOf cX4_lateSumOf 2 (some .int), Cond.fieldLink RX4 22 "PrintRacks" "press" "LPrintRacks$Press;"]
def wsX4_bestExchange_r2 : List Cond := [Cond.fieldLink RX4 59 "PrintRacks$Board" "settings" "[I", Cond.fieldLink RX4 163 "PrintRacks$Press" "lateSum" "I", Cond.methodLink RX4 115 yX3_print, Cond.instanceMethod yX3_print, Cond.selects RX3 yX3_print yX3_print, Cond.initialized RX3, Cond.code yX3_print cX3_print 4 none, Cond.fieldLink RX3 39 "PrintRacks$Board" "jobs" "I", Cond.fieldLink RX3 45 "PrintRacks$Press" "jobs" "I", Cond.methodLink RX3 36 yX3_clear, Cond.instanceMethod yX3_clear, Cond.selects RX3 yX3_clear yX3_clear, Cond.code yX3_clear cX3_clear 1 none, Cond.fieldLink RX3 57 "PrintRacks$Press" "lateJobs" "I", Cond.fieldLink RX3 60 "PrintRacks$Press" "lateSum" "I", Cond.fieldLink RX3 63 "PrintRacks$Press" "mostLate" "I", Cond.fieldLink RX3 66 "PrintRacks$Press" "washSum" "I", Cond.fieldLink RX3 69 "PrintRacks$Press" "platesPutOn" "I", Cond.fieldLink RX3 72 "PrintRacks$Press" "waitSum" "I", Cond.fieldLink RX3 75 "PrintRacks$Press" "mostTaken" "I", Cond.fieldLink RX3 78 "PrintRacks$Press" "taken" "I", Cond.fieldLink RX3 81 "PrintRacks$Press" "oldestDrying" "I", Cond.methodLink RX3 46 yX3_makeReady, Cond.instanceMethod yX3_makeReady]
def wsX4_bestExchange_r3 : List Cond := [Cond.selects RX3 yX3_makeReady yX3_makeReady, Cond.code yX3_makeReady cX3_makeReady 4 none, Cond.fieldLink RX3 84 "PrintRacks$Board" "fields" "[[I", Cond.fieldLink RX3 15 "PrintRacks$Press" "wash" "[I", Cond.fieldLink RX3 18 "PrintRacks$Press" "ready" "[I", Cond.fieldLink RX3 92 "PrintRacks$Board" "settings" "[I", Cond.methodLink RX3 88 yX3_washAhead, Cond.static yX3_washAhead, Cond.code yX3_washAhead cX3_washAhead 3 (some .int), Cond.methodLink RX3 50 yX3_printJob, Cond.instanceMethod yX3_printJob, Cond.selects RX3 yX3_printJob yX3_printJob, Cond.code yX3_printJob cX3_printJob 7 none, Cond.fieldLink RX3 27 "PrintRacks$Press" "printed" "[I", Cond.fieldLink RX3 9 "PrintRacks$Press" "racks" "[I", Cond.fieldLink RX3 21 "PrintRacks$Press" "waits" "[I", Cond.fieldLink RX3 24 "PrintRacks$Press" "begins" "[I", Cond.static yX4_racksFor, Cond.code yX4_racksFor cX4_racksFor 2 (some .int), Cond.methodLink RX3 99 yX3_whenRacksAreFree, Cond.instanceMethod yX3_whenRacksAreFree, Cond.selects RX3 yX3_whenRacksAreFree yX3_whenRacksAreFree, Cond.code yX3_whenRacksAreFree cX3_whenRacksAreFree 5 (some .int), Cond.fieldLink RX3 30 "PrintRacks$Press" "dry" "[I"]
def wsX4_bestExchange_r4 : List Cond := [Cond.methodLink RX3 103 Lib.Math.max.name, Cond.static Lib.Math.max.name, Cond.initialized "java/lang/Math", Cond.code Lib.Math.max.name Lib.Math.max.code 2 (some .int), Cond.methodLink RX3 54 yX3_dryJob, Cond.instanceMethod yX3_dryJob, Cond.selects RX3 yX3_dryJob yX3_dryJob, Cond.code yX3_dryJob cX3_dryJob 3 none, Cond.fieldLink RX3 33 "PrintRacks$Press" "late" "[I", Cond.methodLink RX4 195 yX4_lateSumIfExchanged, Cond.instanceMethod yX4_lateSumIfExchanged, Cond.selects RX4 yX4_lateSumIfExchanged yX4_lateSumIfExchanged, Cond.code yX4_lateSumIfExchanged cX4_lateSumIfExchanged 4 (some .int), Cond.methodLink RX4 215 yX0_exchange, Cond.instanceMethod yX0_exchange, Cond.selects RX0 yX0_exchange yX0_exchange, Cond.code yX0_exchange cX0_exchange 8 none]
def wsX4_bestExchange : List Cond := .code yX4_bestExchange cX4_bestExchange 8 (some .int) :: ((wsX4_bestExchange_r1 ++ (wsX4_bestExchange_r2 ++ (wsX4_bestExchange_r3 ++ wsX4_bestExchange_r4))) ++ wsX40 ++ wsX00 ++ wsX30)
def wsX4_lateSumIfFirst_r1 : List Cond := [Cond.fieldLink RX4 16 "PrintRacks" "trial" "LPrintRacks$Board;", Cond.methodLink RX4 103 yX0_shift, Cond.instanceMethod yX0_shift, Cond.selects RX0 yX0_shift yX0_shift, Cond.initialized RX0, Cond.code yX0_shift cX0_shift 9 none, Cond.fieldLink RX0 26 "PrintRacks$Board" "fields" "[[I", Cond.methodLink RX4 107 yX4_lateSumOf, Cond.instanceMethod yX4_lateSumOf, Cond.selects RX4 yX4_lateSumOf yX4_lateSumOf, Cond.initialized RX4, Cond.code yX4_lateSumOf cX4_lateSumOf 2 (some .int), Cond.fieldLink RX4 22 "PrintRacks" "press" "LPrintRacks$Press;", Cond.fieldLink RX4 59 "PrintRacks$Board" "settings" "[I", Cond.fieldLink RX4 163 "PrintRacks$Press" "lateSum" "I", Cond.methodLink RX4 115 yX3_print, Cond.instanceMethod yX3_print, Cond.selects RX3 yX3_print yX3_print, Cond.initialized RX3, Cond.code yX3_print cX3_print 4 none, Cond.fieldLink RX3 39 "PrintRacks$Board" "jobs" "I", Cond.fieldLink RX3 45 "PrintRacks$Press" "jobs" "I", Cond.methodLink RX3 36 yX3_clear, Cond.instanceMethod yX3_clear]
def wsX4_lateSumIfFirst_r2 : List Cond := [Cond.selects RX3 yX3_clear yX3_clear, Cond.code yX3_clear cX3_clear 1 none, Cond.fieldLink RX3 57 "PrintRacks$Press" "lateJobs" "I", Cond.fieldLink RX3 60 "PrintRacks$Press" "lateSum" "I", Cond.fieldLink RX3 63 "PrintRacks$Press" "mostLate" "I", Cond.fieldLink RX3 66 "PrintRacks$Press" "washSum" "I", Cond.fieldLink RX3 69 "PrintRacks$Press" "platesPutOn" "I", Cond.fieldLink RX3 72 "PrintRacks$Press" "waitSum" "I", Cond.fieldLink RX3 75 "PrintRacks$Press" "mostTaken" "I", Cond.fieldLink RX3 78 "PrintRacks$Press" "taken" "I", Cond.fieldLink RX3 81 "PrintRacks$Press" "oldestDrying" "I", Cond.methodLink RX3 46 yX3_makeReady, Cond.instanceMethod yX3_makeReady, Cond.selects RX3 yX3_makeReady yX3_makeReady, Cond.code yX3_makeReady cX3_makeReady 4 none, Cond.fieldLink RX3 84 "PrintRacks$Board" "fields" "[[I", Cond.fieldLink RX3 15 "PrintRacks$Press" "wash" "[I", Cond.fieldLink RX3 18 "PrintRacks$Press" "ready" "[I", Cond.fieldLink RX3 92 "PrintRacks$Board" "settings" "[I", Cond.methodLink RX3 88 yX3_washAhead, Cond.static yX3_washAhead, Cond.code yX3_washAhead cX3_washAhead 3 (some .int), Cond.methodLink RX3 50 yX3_printJob, Cond.instanceMethod yX3_printJob]
def wsX4_lateSumIfFirst_r3 : List Cond := [Cond.selects RX3 yX3_printJob yX3_printJob, Cond.code yX3_printJob cX3_printJob 7 none, Cond.fieldLink RX3 27 "PrintRacks$Press" "printed" "[I", Cond.fieldLink RX3 9 "PrintRacks$Press" "racks" "[I", Cond.fieldLink RX3 21 "PrintRacks$Press" "waits" "[I", Cond.fieldLink RX3 24 "PrintRacks$Press" "begins" "[I", Cond.static yX4_racksFor, Cond.code yX4_racksFor cX4_racksFor 2 (some .int), Cond.methodLink RX3 99 yX3_whenRacksAreFree, Cond.instanceMethod yX3_whenRacksAreFree, Cond.selects RX3 yX3_whenRacksAreFree yX3_whenRacksAreFree, Cond.code yX3_whenRacksAreFree cX3_whenRacksAreFree 5 (some .int), Cond.fieldLink RX3 30 "PrintRacks$Press" "dry" "[I", Cond.methodLink RX3 103 Lib.Math.max.name, Cond.static Lib.Math.max.name, Cond.initialized "java/lang/Math", Cond.code Lib.Math.max.name Lib.Math.max.code 2 (some .int), Cond.methodLink RX3 54 yX3_dryJob, Cond.instanceMethod yX3_dryJob, Cond.selects RX3 yX3_dryJob yX3_dryJob, Cond.code yX3_dryJob cX3_dryJob 3 none, Cond.fieldLink RX3 33 "PrintRacks$Press" "late" "[I"]
def wsX4_lateSumIfFirst : List Cond := .code yX4_lateSumIfFirst cX4_lateSumIfFirst 3 (some .int) :: ((wsX4_lateSumIfFirst_r1 ++ (wsX4_lateSumIfFirst_r2 ++ wsX4_lateSumIfFirst_r3)) ++ wsX40 ++ wsX00 ++ wsX30)
def wsX4_bestFirst_r1 : List Cond := [Cond.fieldLink RX4 16 "PrintRacks" "trial" "LPrintRacks$Board;", Cond.fieldLink RX4 10 "PrintRacks" "board" "LPrintRacks$Board;", Cond.fieldLink RX4 74 "PrintRacks$Board" "jobs" "I", Cond.methodLink RX4 129 yX0_copyFrom, Cond.instanceMethod yX0_copyFrom, Cond.selects RX0 yX0_copyFrom yX0_copyFrom, Cond.initialized RX0, Cond.code yX0_copyFrom cX0_copyFrom 3 none, Cond.fieldLink RX0 9 "PrintRacks$Board" "settings" "[I", Cond.methodLink RX0 18 arraycopyName, Cond.native arraycopyName, Cond.static arraycopyName, Cond.initialized "java/lang/System", Cond.fieldLink RX0 26 "PrintRacks$Board" "fields" "[[I", Cond.fieldLink RX0 29 "PrintRacks$Board" "jobs" "I", Cond.methodLink RX4 198 yX4_lateSumIfFirst, Cond.instanceMethod yX4_lateSumIfFirst, Cond.selects RX4 yX4_lateSumIfFirst yX4_lateSumIfFirst, Cond.initialized RX4, Cond.code yX4_lateSumIfFirst cX4_lateSumIfFirst 3 (some .int), Cond.methodLink RX4 103 yX0_shift, Cond.instanceMethod yX0_shift, Cond.selects RX0 yX0_shift yX0_shift, Cond.code yX0_shift cX0_shift 9 none]
def wsX4_bestFirst_r2 : List Cond := [Cond.methodLink RX4 107 yX4_lateSumOf, Cond.instanceMethod yX4_lateSumOf, Cond.selects RX4 yX4_lateSumOf yX4_lateSumOf, Cond.code yX4_lateSumOf cX4_lateSumOf 2 (some .int), Cond.fieldLink RX4 22 "PrintRacks" "press" "LPrintRacks$Press;", Cond.fieldLink RX4 59 "PrintRacks$Board" "settings" "[I", Cond.fieldLink RX4 163 "PrintRacks$Press" "lateSum" "I", Cond.methodLink RX4 115 yX3_print, Cond.instanceMethod yX3_print, Cond.selects RX3 yX3_print yX3_print, Cond.initialized RX3, Cond.code yX3_print cX3_print 4 none, Cond.fieldLink RX3 39 "PrintRacks$Board" "jobs" "I", Cond.fieldLink RX3 45 "PrintRacks$Press" "jobs" "I", Cond.methodLink RX3 36 yX3_clear, Cond.instanceMethod yX3_clear, Cond.selects RX3 yX3_clear yX3_clear, Cond.code yX3_clear cX3_clear 1 none, Cond.fieldLink RX3 57 "PrintRacks$Press" "lateJobs" "I", Cond.fieldLink RX3 60 "PrintRacks$Press" "lateSum" "I", Cond.fieldLink RX3 63 "PrintRacks$Press" "mostLate" "I", Cond.fieldLink RX3 66 "PrintRacks$Press" "washSum" "I", Cond.fieldLink RX3 69 "PrintRacks$Press" "platesPutOn" "I", Cond.fieldLink RX3 72 "PrintRacks$Press" "waitSum" "I"]
def wsX4_bestFirst_r3 : List Cond := [Cond.fieldLink RX3 75 "PrintRacks$Press" "mostTaken" "I", Cond.fieldLink RX3 78 "PrintRacks$Press" "taken" "I", Cond.fieldLink RX3 81 "PrintRacks$Press" "oldestDrying" "I", Cond.methodLink RX3 46 yX3_makeReady, Cond.instanceMethod yX3_makeReady, Cond.selects RX3 yX3_makeReady yX3_makeReady, Cond.code yX3_makeReady cX3_makeReady 4 none, Cond.fieldLink RX3 84 "PrintRacks$Board" "fields" "[[I", Cond.fieldLink RX3 15 "PrintRacks$Press" "wash" "[I", Cond.fieldLink RX3 18 "PrintRacks$Press" "ready" "[I", Cond.fieldLink RX3 92 "PrintRacks$Board" "settings" "[I", Cond.methodLink RX3 88 yX3_washAhead, Cond.static yX3_washAhead, Cond.code yX3_washAhead cX3_washAhead 3 (some .int), Cond.methodLink RX3 50 yX3_printJob, Cond.instanceMethod yX3_printJob, Cond.selects RX3 yX3_printJob yX3_printJob, Cond.code yX3_printJob cX3_printJob 7 none, Cond.fieldLink RX3 27 "PrintRacks$Press" "printed" "[I", Cond.fieldLink RX3 9 "PrintRacks$Press" "racks" "[I", Cond.fieldLink RX3 21 "PrintRacks$Press" "waits" "[I", Cond.fieldLink RX3 24 "PrintRacks$Press" "begins" "[I", Cond.static yX4_racksFor, Cond.code yX4_racksFor cX4_racksFor 2 (some .int)]
def wsX4_bestFirst_r4 : List Cond := [Cond.methodLink RX3 99 yX3_whenRacksAreFree, Cond.instanceMethod yX3_whenRacksAreFree, Cond.selects RX3 yX3_whenRacksAreFree yX3_whenRacksAreFree, Cond.code yX3_whenRacksAreFree cX3_whenRacksAreFree 5 (some .int), Cond.fieldLink RX3 30 "PrintRacks$Press" "dry" "[I", Cond.methodLink RX3 103 Lib.Math.max.name, Cond.static Lib.Math.max.name, Cond.initialized "java/lang/Math", Cond.code Lib.Math.max.name Lib.Math.max.code 2 (some .int), Cond.methodLink RX3 54 yX3_dryJob, Cond.instanceMethod yX3_dryJob, Cond.selects RX3 yX3_dryJob yX3_dryJob, Cond.code yX3_dryJob cX3_dryJob 3 none, Cond.fieldLink RX3 33 "PrintRacks$Press" "late" "[I"]
def wsX4_bestFirst : List Cond := .code yX4_bestFirst cX4_bestFirst 5 (some .int) :: ((wsX4_bestFirst_r1 ++ (wsX4_bestFirst_r2 ++ (wsX4_bestFirst_r3 ++ wsX4_bestFirst_r4))) ++ wsX40 ++ wsX00 ++ wsX30)
def wsX4_leastRacks_r1 : List Cond := [Cond.fieldLink RX4 10 "PrintRacks" "board" "LPrintRacks$Board;", Cond.fieldLink RX4 59 "PrintRacks$Board" "settings" "[I", Cond.fieldLink RX4 52 "PrintRacks" "LEAST_SETTING" "[I", Cond.methodLink RX4 201 Lib.Math.max.name, Cond.static Lib.Math.max.name, Cond.initialized "java/lang/Math", Cond.code Lib.Math.max.name Lib.Math.max.code 2 (some .int), Cond.fieldLink RX4 56 "PrintRacks" "MOST_SETTING" "[I", Cond.fieldLink RX4 22 "PrintRacks" "press" "LPrintRacks$Press;", Cond.fieldLink RX4 175 "PrintRacks$Press" "waitSum" "I", Cond.methodLink RX4 62 yX0_mostRacksNeeded, Cond.instanceMethod yX0_mostRacksNeeded, Cond.selects RX0 yX0_mostRacksNeeded yX0_mostRacksNeeded, Cond.initialized RX0, Cond.code yX0_mostRacksNeeded cX0_mostRacksNeeded 4 (some .int), Cond.fieldLink RX0 29 "PrintRacks$Board" "jobs" "I", Cond.fieldLink RX0 26 "PrintRacks$Board" "fields" "[[I", Cond.methodLink RX0 52 Lib.Math.max.name, Cond.static yX4_racksFor, Cond.initialized RX4, Cond.code yX4_racksFor cX4_racksFor 2 (some .int), Cond.methodLink RX4 115 yX3_print, Cond.instanceMethod yX3_print, Cond.selects RX3 yX3_print yX3_print]
def wsX4_leastRacks_r2 : List Cond := [Cond.initialized RX3, Cond.code yX3_print cX3_print 4 none, Cond.fieldLink RX3 39 "PrintRacks$Board" "jobs" "I", Cond.fieldLink RX3 45 "PrintRacks$Press" "jobs" "I", Cond.methodLink RX3 36 yX3_clear, Cond.instanceMethod yX3_clear, Cond.selects RX3 yX3_clear yX3_clear, Cond.code yX3_clear cX3_clear 1 none, Cond.fieldLink RX3 57 "PrintRacks$Press" "lateJobs" "I", Cond.fieldLink RX3 60 "PrintRacks$Press" "lateSum" "I", Cond.fieldLink RX3 63 "PrintRacks$Press" "mostLate" "I", Cond.fieldLink RX3 66 "PrintRacks$Press" "washSum" "I", Cond.fieldLink RX3 69 "PrintRacks$Press" "platesPutOn" "I", Cond.fieldLink RX3 72 "PrintRacks$Press" "waitSum" "I", Cond.fieldLink RX3 75 "PrintRacks$Press" "mostTaken" "I", Cond.fieldLink RX3 78 "PrintRacks$Press" "taken" "I", Cond.fieldLink RX3 81 "PrintRacks$Press" "oldestDrying" "I", Cond.methodLink RX3 46 yX3_makeReady, Cond.instanceMethod yX3_makeReady, Cond.selects RX3 yX3_makeReady yX3_makeReady, Cond.code yX3_makeReady cX3_makeReady 4 none, Cond.fieldLink RX3 84 "PrintRacks$Board" "fields" "[[I", Cond.fieldLink RX3 15 "PrintRacks$Press" "wash" "[I", Cond.fieldLink RX3 18 "PrintRacks$Press" "ready" "[I"]
def wsX4_leastRacks_r3 : List Cond := [Cond.fieldLink RX3 92 "PrintRacks$Board" "settings" "[I", Cond.methodLink RX3 88 yX3_washAhead, Cond.static yX3_washAhead, Cond.code yX3_washAhead cX3_washAhead 3 (some .int), Cond.methodLink RX3 50 yX3_printJob, Cond.instanceMethod yX3_printJob, Cond.selects RX3 yX3_printJob yX3_printJob, Cond.code yX3_printJob cX3_printJob 7 none, Cond.fieldLink RX3 27 "PrintRacks$Press" "printed" "[I", Cond.fieldLink RX3 9 "PrintRacks$Press" "racks" "[I", Cond.fieldLink RX3 21 "PrintRacks$Press" "waits" "[I", Cond.fieldLink RX3 24 "PrintRacks$Press" "begins" "[I", Cond.methodLink RX3 99 yX3_whenRacksAreFree, Cond.instanceMethod yX3_whenRacksAreFree, Cond.selects RX3 yX3_whenRacksAreFree yX3_whenRacksAreFree, Cond.code yX3_whenRacksAreFree cX3_whenRacksAreFree 5 (some .int), Cond.fieldLink RX3 30 "PrintRacks$Press" "dry" "[I", Cond.methodLink RX3 103 Lib.Math.max.name, Cond.methodLink RX3 54 yX3_dryJob, Cond.instanceMethod yX3_dryJob, Cond.selects RX3 yX3_dryJob yX3_dryJob, Cond.code yX3_dryJob cX3_dryJob 3 none, Cond.fieldLink RX3 33 "PrintRacks$Press" "late" "[I"]
def wsX4_leastRacks : List Cond := .code yX4_leastRacks cX4_leastRacks 4 (some .int) :: ((wsX4_leastRacks_r1 ++ (wsX4_leastRacks_r2 ++ wsX4_leastRacks_r3)) ++ wsX40 ++ wsX00 ++ wsX30)
def wsX4_charactersIn : List Cond := .code yX4_charactersIn cX4_charactersIn 5 (some .int) :: ([.constantLong RX4 218 (255), .methodLink RX4 48 yX4_within, .static yX4_within, .initialized RX4, .code yX4_within cX4_within 3 (some .boolean)])
def wsX4_put : List Cond := .code yX4_put cX4_put 5 (some .int) :: ([.fieldLink RX4 29 "PrintRacks" "pad" "LPrintRacks$Pad;", .fieldLink RX4 92 "PrintRacks$Pad" "length" "I", .methodLink RX4 206 yX4_charactersIn, .static yX4_charactersIn, .initialized RX4, .code yX4_charactersIn cX4_charactersIn 5 (some .int), .constantLong RX4 218 (255), .methodLink RX4 48 yX4_within, .static yX4_within, .code yX4_within cX4_within 3 (some .boolean), .methodLink RX4 210 yX2_append, .instanceMethod yX2_append, .selects RX2 yX2_append yX2_append, .initialized RX2, .code yX2_append cX2_append 2 none, .fieldLink RX2 22 "PrintRacks$Pad" "length" "I", .fieldLink RX2 18 "PrintRacks$Pad" "codes" "[I"] ++ wsX40 ++ wsX20)
def wsX4_wipe : List Cond := .code yX4_wipe cX4_wipe 2 (some .int) :: ([.fieldLink RX4 29 "PrintRacks" "pad" "LPrintRacks$Pad;", .fieldLink RX4 92 "PrintRacks$Pad" "length" "I"] ++ wsX40 ++ wsX20)
def wsX4_fault_r1 : List Cond := [Cond.fieldLink RX4 29 "PrintRacks" "pad" "LPrintRacks$Pad;", Cond.methodLink RX4 82 yX2_parse, Cond.instanceMethod yX2_parse, Cond.selects RX2 yX2_parse yX2_parse, Cond.initialized RX2, Cond.code yX2_parse cX2_parse 2 (some .int), Cond.fieldLink RX2 12 "PrintRacks$Pad" "found" "LPrintRacks$Board;", Cond.fieldLink RX2 26 "PrintRacks$Board" "jobs" "I", Cond.fieldLink RX2 29 "PrintRacks$Pad" "expected" "I", Cond.fieldLink RX2 22 "PrintRacks$Pad" "length" "I", Cond.fieldLink RX2 18 "PrintRacks$Pad" "codes" "[I", Cond.methodLink RX2 32 yX2_takes, Cond.instanceMethod yX2_takes, Cond.selects RX2 yX2_takes yX2_takes, Cond.code yX2_takes cX2_takes 3 (some .boolean), Cond.fieldLink RX2 47 "PrintRacks$Pad" "plate" "I", Cond.fieldLink RX2 50 "PrintRacks$Pad" "shade" "I", Cond.fieldLink RX2 53 "PrintRacks$Pad" "hundreds" "I", Cond.fieldLink RX2 56 "PrintRacks$Pad" "dueTime" "I", Cond.static yX4_within, Cond.initialized RX4, Cond.code yX4_within cX4_within 3 (some .boolean), Cond.methodLink RX2 43 yX2_takesLetter, Cond.instanceMethod yX2_takesLetter]
def wsX4_fault_r2 : List Cond := [Cond.selects RX2 yX2_takesLetter yX2_takesLetter, Cond.code yX2_takesLetter cX2_takesLetter 3 (some .boolean), Cond.methodLink RX2 59 yX2_takesBehindHundreds, Cond.instanceMethod yX2_takesBehindHundreds, Cond.selects RX2 yX2_takesBehindHundreds yX2_takesBehindHundreds, Cond.code yX2_takesBehindHundreds cX2_takesBehindHundreds 3 (some .boolean), Cond.methodLink RX2 66 yX2_takesEndOfJob, Cond.instanceMethod yX2_takesEndOfJob, Cond.selects RX2 yX2_takesEndOfJob yX2_takesEndOfJob, Cond.code yX2_takesEndOfJob cX2_takesEndOfJob 2 (some .boolean), Cond.methodLink RX2 36 yX2_endJob, Cond.instanceMethod yX2_endJob, Cond.selects RX2 yX2_endJob yX2_endJob, Cond.code yX2_endJob cX2_endJob 1 none, Cond.methodLink RX2 69 yX0_append, Cond.instanceMethod yX0_append, Cond.selects RX0 yX0_append yX0_append, Cond.initialized RX0, Cond.code yX0_append cX0_append 5 none, Cond.fieldLink RX0 29 "PrintRacks$Board" "jobs" "I", Cond.fieldLink RX0 26 "PrintRacks$Board" "fields" "[[I", Cond.methodLink RX2 63 yX2_takesBehindDue, Cond.instanceMethod yX2_takesBehindDue, Cond.selects RX2 yX2_takesBehindDue yX2_takesBehindDue]
def wsX4_fault_r3 : List Cond := [Cond.code yX2_takesBehindDue cX2_takesBehindDue 4 (some .boolean)]
def wsX4_fault : List Cond := .code yX4_fault cX4_fault 1 (some .int) :: ((wsX4_fault_r1 ++ (wsX4_fault_r2 ++ wsX4_fault_r3)) ++ wsX40 ++ wsX20 ++ wsX00)
def wsX4_undo : List Cond := .code yX4_undo cX4_undo 1 (some .int) :: ([.fieldLink RX4 36 "PrintRacks" "history" "LPrintRacks$History;", .fieldLink RX4 181 "PrintRacks$History" "kept" "I", .fieldLink RX4 10 "PrintRacks" "board" "LPrintRacks$Board;", .methodLink RX4 212 yX1_takeBack, .instanceMethod yX1_takeBack, .selects RX1 yX1_takeBack yX1_takeBack, .initialized RX1, .code yX1_takeBack cX1_takeBack 2 none, .fieldLink RX1 18 "PrintRacks$History" "next" "I", .fieldLink RX1 26 "PrintRacks$History" "kept" "I", .fieldLink RX1 11 "PrintRacks$History" "states" "[LPrintRacks$Board;", .methodLink RX1 22 yX0_copyFrom, .instanceMethod yX0_copyFrom, .selects RX0 yX0_copyFrom yX0_copyFrom, .initialized RX0, .code yX0_copyFrom cX0_copyFrom 3 none, .fieldLink RX0 9 "PrintRacks$Board" "settings" "[I", .methodLink RX0 18 arraycopyName, .native arraycopyName, .static arraycopyName, .initialized "java/lang/System", .fieldLink RX0 26 "PrintRacks$Board" "fields" "[[I", .fieldLink RX0 29 "PrintRacks$Board" "jobs" "I"] ++ wsX40 ++ wsX10 ++ wsX00)
def wsX4_save : List Cond := .code yX4_save cX4_save 2 (some .int) :: ([.fieldLink RX4 40 "PrintRacks" "slots" "[LPrintRacks$Board;", .fieldLink RX4 10 "PrintRacks" "board" "LPrintRacks$Board;", .fieldLink RX4 44 "PrintRacks" "saved" "[Z", .fieldLink RX4 74 "PrintRacks$Board" "jobs" "I", .methodLink RX4 48 yX4_within, .static yX4_within, .initialized RX4, .code yX4_within cX4_within 3 (some .boolean), .methodLink RX4 129 yX0_copyFrom, .instanceMethod yX0_copyFrom, .selects RX0 yX0_copyFrom yX0_copyFrom, .initialized RX0, .code yX0_copyFrom cX0_copyFrom 3 none, .fieldLink RX0 9 "PrintRacks$Board" "settings" "[I", .methodLink RX0 18 arraycopyName, .native arraycopyName, .static arraycopyName, .initialized "java/lang/System", .fieldLink RX0 26 "PrintRacks$Board" "fields" "[[I", .fieldLink RX0 29 "PrintRacks$Board" "jobs" "I"] ++ wsX40 ++ wsX00)
def wsX4_restore_r1 : List Cond := [Cond.fieldLink RX4 44 "PrintRacks" "saved" "[Z", Cond.fieldLink RX4 36 "PrintRacks" "history" "LPrintRacks$History;", Cond.fieldLink RX4 10 "PrintRacks" "board" "LPrintRacks$Board;", Cond.fieldLink RX4 40 "PrintRacks" "slots" "[LPrintRacks$Board;", Cond.fieldLink RX4 74 "PrintRacks$Board" "jobs" "I", Cond.methodLink RX4 48 yX4_within, Cond.static yX4_within, Cond.initialized RX4, Cond.code yX4_within cX4_within 3 (some .boolean), Cond.methodLink RX4 66 yX1_remember, Cond.instanceMethod yX1_remember, Cond.selects RX1 yX1_remember yX1_remember, Cond.initialized RX1, Cond.code yX1_remember cX1_remember 2 none, Cond.fieldLink RX1 11 "PrintRacks$History" "states" "[LPrintRacks$Board;", Cond.fieldLink RX1 18 "PrintRacks$History" "next" "I", Cond.fieldLink RX1 26 "PrintRacks$History" "kept" "I", Cond.methodLink RX1 29 Lib.Math.min.name, Cond.static Lib.Math.min.name, Cond.initialized "java/lang/Math", Cond.code Lib.Math.min.name Lib.Math.min.code 2 (some .int), Cond.methodLink RX1 22 yX0_copyFrom, Cond.instanceMethod yX0_copyFrom, Cond.selects RX0 yX0_copyFrom yX0_copyFrom]
def wsX4_restore_r2 : List Cond := [Cond.initialized RX0, Cond.code yX0_copyFrom cX0_copyFrom 3 none, Cond.fieldLink RX0 9 "PrintRacks$Board" "settings" "[I", Cond.methodLink RX0 18 arraycopyName, Cond.native arraycopyName, Cond.static arraycopyName, Cond.initialized "java/lang/System", Cond.fieldLink RX0 26 "PrintRacks$Board" "fields" "[[I", Cond.fieldLink RX0 29 "PrintRacks$Board" "jobs" "I", Cond.methodLink RX4 129 yX0_copyFrom]
def wsX4_restore : List Cond := .code yX4_restore cX4_restore 2 (some .int) :: ((wsX4_restore_r1 ++ wsX4_restore_r2) ++ wsX40 ++ wsX00 ++ wsX10)
def wsX5_init : List Cond := .code yX5_init cX5_init 1 none :: ([.methodLink RX5 1 objectInit, .instanceMethod objectInit, .code objectInit ⟨#[0xb1]⟩ 1 none, .arrayClass .int, .fieldLink RX5 7 "PrintRacksModel" "all" "[I", .fieldLink RX5 13 "PrintRacksModel" "kept" "[I", .fieldLink RX5 16 "PrintRacksModel" "history" "[I", .fieldLink RX5 19 "PrintRacksModel" "slots" "[I", .fieldLink RX5 22 "PrintRacksModel" "isSaved" "[I", .fieldLink RX5 25 "PrintRacksModel" "begins" "[I", .fieldLink RX5 28 "PrintRacksModel" "printed" "[I", .fieldLink RX5 31 "PrintRacksModel" "from" "[I", .fieldLink RX5 34 "PrintRacksModel" "text" "[I", .fieldLink RX5 37 "PrintRacksModel" "told" "[I"] ++ wsX50)
def wsX5_in : List Cond := .code yX5_in cX5_in 6 (some .boolean) :: ([])
def wsX5_changes : List Cond := .code yX5_changes cX5_changes 2 none :: ([.fieldLink RX5 40 "PrintRacksModel" "historyLong" "I", .fieldLink RX5 16 "PrintRacksModel" "history" "[I", .fieldLink RX5 7 "PrintRacksModel" "all" "[I"] ++ wsX50)
def wsX5_keeps : List Cond := .code yX5_keeps cX5_keeps 2 none :: ([.fieldLink RX5 13 "PrintRacksModel" "kept" "[I", .fieldLink RX5 7 "PrintRacksModel" "all" "[I"] ++ wsX50)
def wsX5_comesBack : List Cond := .code yX5_comesBack cX5_comesBack 2 none :: ([.fieldLink RX5 7 "PrintRacksModel" "all" "[I", .fieldLink RX5 13 "PrintRacksModel" "kept" "[I"] ++ wsX50)
def wsX5_isJob : List Cond := .code yX5_isJob cX5_isJob 2 (some .boolean) :: ([.fieldLink RX5 7 "PrintRacksModel" "all" "[I", .methodLink RX5 44 yX5_in, .static yX5_in, .initialized RX5, .code yX5_in cX5_in 6 (some .boolean)] ++ wsX50)
def wsX5_its : List Cond := .code yX5_its cX5_its 3 (some .int) :: ([.fieldLink RX5 7 "PrintRacksModel" "all" "[I"] ++ wsX50)
def wsX5_racksFor : List Cond := .code yX5_racksFor cX5_racksFor 2 (some .int) :: ([.fieldLink RX5 7 "PrintRacksModel" "all" "[I"] ++ wsX50)
def wsX5_racksOf : List Cond := .code yX5_racksOf cX5_racksOf 2 (some .int) :: ([.methodLink RX5 48 yX5_its, .instanceMethod yX5_its, .selects RX5 yX5_its yX5_its, .initialized RX5, .code yX5_its cX5_its 3 (some .int), .fieldLink RX5 7 "PrintRacksModel" "all" "[I", .methodLink RX5 52 yX5_racksFor, .instanceMethod yX5_racksFor, .selects RX5 yX5_racksFor yX5_racksFor, .code yX5_racksFor cX5_racksFor 2 (some .int)] ++ wsX50)
def wsX5_exchanges : List Cond := .code yX5_exchanges cX5_exchanges 5 none :: ([.fieldLink RX5 7 "PrintRacksModel" "all" "[I", .methodLink RX5 48 yX5_its, .instanceMethod yX5_its, .selects RX5 yX5_its yX5_its, .initialized RX5, .code yX5_its cX5_its 3 (some .int)] ++ wsX50)
def wsX5_moves : List Cond := .code yX5_moves cX5_moves 5 none :: ([.methodLink RX5 56 yX5_exchanges, .instanceMethod yX5_exchanges, .selects RX5 yX5_exchanges yX5_exchanges, .initialized RX5, .code yX5_exchanges cX5_exchanges 5 none, .fieldLink RX5 7 "PrintRacksModel" "all" "[I", .methodLink RX5 48 yX5_its, .instanceMethod yX5_its, .selects RX5 yX5_its yX5_its, .code yX5_its cX5_its 3 (some .int)] ++ wsX50)
def wsX5_washFor : List Cond := .code yX5_washFor cX5_washFor 3 (some .int) :: ([.fieldLink RX5 7 "PrintRacksModel" "all" "[I", .methodLink RX5 48 yX5_its, .instanceMethod yX5_its, .selects RX5 yX5_its yX5_its, .initialized RX5, .code yX5_its cX5_its 3 (some .int)] ++ wsX50)
def wsX5_plateFor : List Cond := .code yX5_plateFor cX5_plateFor 2 (some .int) :: ([.fieldLink RX5 7 "PrintRacksModel" "all" "[I", .methodLink RX5 48 yX5_its, .instanceMethod yX5_its, .selects RX5 yX5_its yX5_its, .initialized RX5, .code yX5_its cX5_its 3 (some .int)] ++ wsX50)
def wsX5_readyFor : List Cond := .code yX5_readyFor cX5_readyFor 2 (some .int) :: ([.methodLink RX5 60 yX5_plateFor, .instanceMethod yX5_plateFor, .selects RX5 yX5_plateFor yX5_plateFor, .initialized RX5, .code yX5_plateFor cX5_plateFor 2 (some .int), .fieldLink RX5 7 "PrintRacksModel" "all" "[I", .methodLink RX5 48 yX5_its, .instanceMethod yX5_its, .selects RX5 yX5_its yX5_its, .code yX5_its cX5_its 3 (some .int), .methodLink RX5 63 yX5_washFor, .instanceMethod yX5_washFor, .selects RX5 yX5_washFor yX5_washFor, .code yX5_washFor cX5_washFor 3 (some .int)] ++ wsX50)
def wsX5_dry : List Cond := .code yX5_dry cX5_dry 2 (some .int) :: ([.fieldLink RX5 28 "PrintRacksModel" "printed" "[I", .fieldLink RX5 7 "PrintRacksModel" "all" "[I"] ++ wsX50)
def wsX5_taken : List Cond := .code yX5_taken cX5_taken 5 (some .int) :: ([.fieldLink RX5 28 "PrintRacksModel" "printed" "[I", .methodLink RX5 66 yX5_dry, .instanceMethod yX5_dry, .selects RX5 yX5_dry yX5_dry, .initialized RX5, .code yX5_dry cX5_dry 2 (some .int), .fieldLink RX5 7 "PrintRacksModel" "all" "[I", .methodLink RX5 69 yX5_racksOf, .instanceMethod yX5_racksOf, .selects RX5 yX5_racksOf yX5_racksOf, .code yX5_racksOf cX5_racksOf 2 (some .int), .methodLink RX5 48 yX5_its, .instanceMethod yX5_its, .selects RX5 yX5_its yX5_its, .code yX5_its cX5_its 3 (some .int), .methodLink RX5 52 yX5_racksFor, .instanceMethod yX5_racksFor, .selects RX5 yX5_racksFor yX5_racksFor, .code yX5_racksFor cX5_racksFor 2 (some .int)] ++ wsX50)
def wsX5_prints_r1 : List Cond := [Cond.fieldLink RX5 7 "PrintRacksModel" "all" "[I", Cond.fieldLink RX5 25 "PrintRacksModel" "begins" "[I", Cond.fieldLink RX5 28 "PrintRacksModel" "printed" "[I", Cond.methodLink RX5 72 yX5_readyFor, Cond.instanceMethod yX5_readyFor, Cond.selects RX5 yX5_readyFor yX5_readyFor, Cond.initialized RX5, Cond.code yX5_readyFor cX5_readyFor 2 (some .int), Cond.methodLink RX5 60 yX5_plateFor, Cond.instanceMethod yX5_plateFor, Cond.selects RX5 yX5_plateFor yX5_plateFor, Cond.code yX5_plateFor cX5_plateFor 2 (some .int), Cond.methodLink RX5 48 yX5_its, Cond.instanceMethod yX5_its, Cond.selects RX5 yX5_its yX5_its, Cond.code yX5_its cX5_its 3 (some .int), Cond.methodLink RX5 63 yX5_washFor, Cond.instanceMethod yX5_washFor, Cond.selects RX5 yX5_washFor yX5_washFor, Cond.code yX5_washFor cX5_washFor 3 (some .int), Cond.methodLink RX5 75 yX5_taken, Cond.instanceMethod yX5_taken, Cond.selects RX5 yX5_taken yX5_taken, Cond.code yX5_taken cX5_taken 5 (some .int)]
def wsX5_prints_r2 : List Cond := [Cond.methodLink RX5 66 yX5_dry, Cond.instanceMethod yX5_dry, Cond.selects RX5 yX5_dry yX5_dry, Cond.code yX5_dry cX5_dry 2 (some .int), Cond.methodLink RX5 69 yX5_racksOf, Cond.instanceMethod yX5_racksOf, Cond.selects RX5 yX5_racksOf yX5_racksOf, Cond.code yX5_racksOf cX5_racksOf 2 (some .int), Cond.methodLink RX5 52 yX5_racksFor, Cond.instanceMethod yX5_racksFor, Cond.selects RX5 yX5_racksFor yX5_racksFor, Cond.code yX5_racksFor cX5_racksFor 2 (some .int)]
def wsX5_prints : List Cond := .code yX5_prints cX5_prints 5 none :: ((wsX5_prints_r1 ++ wsX5_prints_r2) ++ wsX50)
def wsX5_late : List Cond := .code yX5_late cX5_late 3 (some .int) :: ([.methodLink RX5 66 yX5_dry, .instanceMethod yX5_dry, .selects RX5 yX5_dry yX5_dry, .initialized RX5, .code yX5_dry cX5_dry 2 (some .int), .fieldLink RX5 28 "PrintRacksModel" "printed" "[I", .fieldLink RX5 7 "PrintRacksModel" "all" "[I", .methodLink RX5 48 yX5_its, .instanceMethod yX5_its, .selects RX5 yX5_its yX5_its, .code yX5_its cX5_its 3 (some .int)] ++ wsX50)
def wsX5_waits : List Cond := .code yX5_waits cX5_waits 2 (some .int) :: ([.fieldLink RX5 25 "PrintRacksModel" "begins" "[I", .fieldLink RX5 28 "PrintRacksModel" "printed" "[I"] ++ wsX50)
def wsX5_isOther : List Cond := .code yX5_isOther cX5_isOther 2 (some .int) :: ([.methodLink RX5 48 yX5_its, .instanceMethod yX5_its, .selects RX5 yX5_its yX5_its, .initialized RX5, .code yX5_its cX5_its 3 (some .int), .fieldLink RX5 7 "PrintRacksModel" "all" "[I"] ++ wsX50)
def wsX5_sumOf_r1 : List Cond := [Cond.fieldLink RX5 7 "PrintRacksModel" "all" "[I", Cond.methodLink RX5 48 yX5_its, Cond.instanceMethod yX5_its, Cond.selects RX5 yX5_its yX5_its, Cond.initialized RX5, Cond.code yX5_its cX5_its 3 (some .int), Cond.methodLink RX5 78 yX5_late, Cond.instanceMethod yX5_late, Cond.selects RX5 yX5_late yX5_late, Cond.code yX5_late cX5_late 3 (some .int), Cond.methodLink RX5 66 yX5_dry, Cond.instanceMethod yX5_dry, Cond.selects RX5 yX5_dry yX5_dry, Cond.code yX5_dry cX5_dry 2 (some .int), Cond.fieldLink RX5 28 "PrintRacksModel" "printed" "[I", Cond.methodLink RX5 63 yX5_washFor, Cond.instanceMethod yX5_washFor, Cond.selects RX5 yX5_washFor yX5_washFor, Cond.code yX5_washFor cX5_washFor 3 (some .int), Cond.methodLink RX5 81 yX5_isOther, Cond.instanceMethod yX5_isOther, Cond.selects RX5 yX5_isOther yX5_isOther, Cond.code yX5_isOther cX5_isOther 2 (some .int), Cond.methodLink RX5 84 yX5_waits]
def wsX5_sumOf_r2 : List Cond := [Cond.instanceMethod yX5_waits, Cond.selects RX5 yX5_waits yX5_waits, Cond.code yX5_waits cX5_waits 2 (some .int), Cond.fieldLink RX5 25 "PrintRacksModel" "begins" "[I"]
def wsX5_sumOf : List Cond := .code yX5_sumOf cX5_sumOf 4 (some .int) :: ((wsX5_sumOf_r1 ++ wsX5_sumOf_r2) ++ wsX50)
def wsX5_greatestOf_r1 : List Cond := [Cond.fieldLink RX5 7 "PrintRacksModel" "all" "[I", Cond.fieldLink RX5 28 "PrintRacksModel" "printed" "[I", Cond.methodLink RX5 66 yX5_dry, Cond.instanceMethod yX5_dry, Cond.selects RX5 yX5_dry yX5_dry, Cond.initialized RX5, Cond.code yX5_dry cX5_dry 2 (some .int), Cond.methodLink RX5 78 yX5_late, Cond.instanceMethod yX5_late, Cond.selects RX5 yX5_late yX5_late, Cond.code yX5_late cX5_late 3 (some .int), Cond.methodLink RX5 48 yX5_its, Cond.instanceMethod yX5_its, Cond.selects RX5 yX5_its yX5_its, Cond.code yX5_its cX5_its 3 (some .int), Cond.methodLink RX5 75 yX5_taken, Cond.instanceMethod yX5_taken, Cond.selects RX5 yX5_taken yX5_taken, Cond.code yX5_taken cX5_taken 5 (some .int), Cond.methodLink RX5 69 yX5_racksOf, Cond.instanceMethod yX5_racksOf, Cond.selects RX5 yX5_racksOf yX5_racksOf, Cond.code yX5_racksOf cX5_racksOf 2 (some .int), Cond.methodLink RX5 52 yX5_racksFor]
def wsX5_greatestOf_r2 : List Cond := [Cond.instanceMethod yX5_racksFor, Cond.selects RX5 yX5_racksFor yX5_racksFor, Cond.code yX5_racksFor cX5_racksFor 2 (some .int)]
def wsX5_greatestOf : List Cond := .code yX5_greatestOf cX5_greatestOf 5 (some .int) :: ((wsX5_greatestOf_r1 ++ wsX5_greatestOf_r2) ++ wsX50)
def wsX5_lateAll_r1 : List Cond := [Cond.methodLink RX5 87 yX5_prints, Cond.instanceMethod yX5_prints, Cond.selects RX5 yX5_prints yX5_prints, Cond.initialized RX5, Cond.code yX5_prints cX5_prints 5 none, Cond.fieldLink RX5 7 "PrintRacksModel" "all" "[I", Cond.fieldLink RX5 25 "PrintRacksModel" "begins" "[I", Cond.fieldLink RX5 28 "PrintRacksModel" "printed" "[I", Cond.methodLink RX5 72 yX5_readyFor, Cond.instanceMethod yX5_readyFor, Cond.selects RX5 yX5_readyFor yX5_readyFor, Cond.code yX5_readyFor cX5_readyFor 2 (some .int), Cond.methodLink RX5 60 yX5_plateFor, Cond.instanceMethod yX5_plateFor, Cond.selects RX5 yX5_plateFor yX5_plateFor, Cond.code yX5_plateFor cX5_plateFor 2 (some .int), Cond.methodLink RX5 48 yX5_its, Cond.instanceMethod yX5_its, Cond.selects RX5 yX5_its yX5_its, Cond.code yX5_its cX5_its 3 (some .int), Cond.methodLink RX5 63 yX5_washFor, Cond.instanceMethod yX5_washFor, Cond.selects RX5 yX5_washFor yX5_washFor, Cond.code yX5_washFor cX5_washFor 3 (some .int)]
def wsX5_lateAll_r2 : List Cond := [Cond.methodLink RX5 75 yX5_taken, Cond.instanceMethod yX5_taken, Cond.selects RX5 yX5_taken yX5_taken, Cond.code yX5_taken cX5_taken 5 (some .int), Cond.methodLink RX5 66 yX5_dry, Cond.instanceMethod yX5_dry, Cond.selects RX5 yX5_dry yX5_dry, Cond.code yX5_dry cX5_dry 2 (some .int), Cond.methodLink RX5 69 yX5_racksOf, Cond.instanceMethod yX5_racksOf, Cond.selects RX5 yX5_racksOf yX5_racksOf, Cond.code yX5_racksOf cX5_racksOf 2 (some .int), Cond.methodLink RX5 52 yX5_racksFor, Cond.instanceMethod yX5_racksFor, Cond.selects RX5 yX5_racksFor yX5_racksFor, Cond.code yX5_racksFor cX5_racksFor 2 (some .int), Cond.methodLink RX5 90 yX5_sumOf, Cond.instanceMethod yX5_sumOf, Cond.selects RX5 yX5_sumOf yX5_sumOf, Cond.code yX5_sumOf cX5_sumOf 4 (some .int), Cond.methodLink RX5 78 yX5_late, Cond.instanceMethod yX5_late, Cond.selects RX5 yX5_late yX5_late, Cond.code yX5_late cX5_late 3 (some .int)]
def wsX5_lateAll_r3 : List Cond := [Cond.methodLink RX5 81 yX5_isOther, Cond.instanceMethod yX5_isOther, Cond.selects RX5 yX5_isOther yX5_isOther, Cond.code yX5_isOther cX5_isOther 2 (some .int), Cond.methodLink RX5 84 yX5_waits, Cond.instanceMethod yX5_waits, Cond.selects RX5 yX5_waits yX5_waits, Cond.code yX5_waits cX5_waits 2 (some .int)]
def wsX5_lateAll : List Cond := .code yX5_lateAll cX5_lateAll 1 (some .int) :: ((wsX5_lateAll_r1 ++ (wsX5_lateAll_r2 ++ wsX5_lateAll_r3)) ++ wsX50)
def wsX5_isSetting : List Cond := .code yX5_isSetting cX5_isSetting 2 (some .boolean) :: ([.constantLong RX5 93 (60), .constantLong RX5 95 (9), .constantLong RX5 97 (20), .constantLong RX5 99 (500), .constantLong RX5 101 (4), .constantLong RX5 103 (10), .methodLink RX5 44 yX5_in, .static yX5_in, .initialized RX5, .code yX5_in cX5_in 6 (some .boolean)])
def wsX5_mostNeeded : List Cond := .code yX5_mostNeeded cX5_mostNeeded 3 (some .int) :: ([.fieldLink RX5 7 "PrintRacksModel" "all" "[I", .methodLink RX5 69 yX5_racksOf, .instanceMethod yX5_racksOf, .selects RX5 yX5_racksOf yX5_racksOf, .initialized RX5, .code yX5_racksOf cX5_racksOf 2 (some .int), .methodLink RX5 48 yX5_its, .instanceMethod yX5_its, .selects RX5 yX5_its yX5_its, .code yX5_its cX5_its 3 (some .int), .methodLink RX5 52 yX5_racksFor, .instanceMethod yX5_racksFor, .selects RX5 yX5_racksFor yX5_racksFor, .code yX5_racksFor cX5_racksFor 2 (some .int)] ++ wsX50)
def wsX5_set_r1 : List Cond := [Cond.fieldLink RX5 7 "PrintRacksModel" "all" "[I", Cond.methodLink RX5 105 yX5_isSetting, Cond.static yX5_isSetting, Cond.initialized RX5, Cond.code yX5_isSetting cX5_isSetting 2 (some .boolean), Cond.constantLong RX5 93 (60), Cond.constantLong RX5 95 (9), Cond.constantLong RX5 97 (20), Cond.constantLong RX5 99 (500), Cond.constantLong RX5 101 (4), Cond.constantLong RX5 103 (10), Cond.methodLink RX5 44 yX5_in, Cond.static yX5_in, Cond.code yX5_in cX5_in 6 (some .boolean), Cond.methodLink RX5 109 yX5_mostNeeded, Cond.instanceMethod yX5_mostNeeded, Cond.selects RX5 yX5_mostNeeded yX5_mostNeeded, Cond.code yX5_mostNeeded cX5_mostNeeded 3 (some .int), Cond.methodLink RX5 69 yX5_racksOf, Cond.instanceMethod yX5_racksOf, Cond.selects RX5 yX5_racksOf yX5_racksOf, Cond.code yX5_racksOf cX5_racksOf 2 (some .int), Cond.methodLink RX5 48 yX5_its, Cond.instanceMethod yX5_its]
def wsX5_set_r2 : List Cond := [Cond.selects RX5 yX5_its yX5_its, Cond.code yX5_its cX5_its 3 (some .int), Cond.methodLink RX5 52 yX5_racksFor, Cond.instanceMethod yX5_racksFor, Cond.selects RX5 yX5_racksFor yX5_racksFor, Cond.code yX5_racksFor cX5_racksFor 2 (some .int), Cond.methodLink RX5 113 yX5_changes, Cond.instanceMethod yX5_changes, Cond.selects RX5 yX5_changes yX5_changes, Cond.code yX5_changes cX5_changes 2 none, Cond.fieldLink RX5 40 "PrintRacksModel" "historyLong" "I", Cond.fieldLink RX5 16 "PrintRacksModel" "history" "[I"]
def wsX5_set : List Cond := .code yX5_set cX5_set 5 (some .int) :: ((wsX5_set_r1 ++ wsX5_set_r2) ++ wsX50)
def wsX5_puts : List Cond := .code yX5_puts cX5_puts 6 none :: ([.fieldLink RX5 7 "PrintRacksModel" "all" "[I"] ++ wsX50)
def wsX5_job : List Cond := .code yX5_job cX5_job 5 (some .int) :: ([.constantLong RX5 95 (9), .constantLong RX5 97 (20), .constantLong RX5 116 (3000), .fieldLink RX5 7 "PrintRacksModel" "all" "[I", .methodLink RX5 44 yX5_in, .static yX5_in, .initialized RX5, .code yX5_in cX5_in 6 (some .boolean), .methodLink RX5 52 yX5_racksFor, .instanceMethod yX5_racksFor, .selects RX5 yX5_racksFor yX5_racksFor, .code yX5_racksFor cX5_racksFor 2 (some .int), .methodLink RX5 113 yX5_changes, .instanceMethod yX5_changes, .selects RX5 yX5_changes yX5_changes, .code yX5_changes cX5_changes 2 none, .fieldLink RX5 40 "PrintRacksModel" "historyLong" "I", .fieldLink RX5 16 "PrintRacksModel" "history" "[I", .methodLink RX5 118 yX5_puts, .instanceMethod yX5_puts, .selects RX5 yX5_puts yX5_puts, .code yX5_puts cX5_puts 6 none] ++ wsX50)
def wsX5_drop_r1 : List Cond := [Cond.fieldLink RX5 7 "PrintRacksModel" "all" "[I", Cond.methodLink RX5 122 yX5_isJob, Cond.instanceMethod yX5_isJob, Cond.selects RX5 yX5_isJob yX5_isJob, Cond.initialized RX5, Cond.code yX5_isJob cX5_isJob 2 (some .boolean), Cond.methodLink RX5 44 yX5_in, Cond.static yX5_in, Cond.code yX5_in cX5_in 6 (some .boolean), Cond.methodLink RX5 113 yX5_changes, Cond.instanceMethod yX5_changes, Cond.selects RX5 yX5_changes yX5_changes, Cond.code yX5_changes cX5_changes 2 none, Cond.fieldLink RX5 40 "PrintRacksModel" "historyLong" "I", Cond.fieldLink RX5 16 "PrintRacksModel" "history" "[I", Cond.methodLink RX5 126 yX5_moves, Cond.instanceMethod yX5_moves, Cond.selects RX5 yX5_moves yX5_moves, Cond.code yX5_moves cX5_moves 5 none, Cond.methodLink RX5 56 yX5_exchanges, Cond.instanceMethod yX5_exchanges, Cond.selects RX5 yX5_exchanges yX5_exchanges, Cond.code yX5_exchanges cX5_exchanges 5 none, Cond.methodLink RX5 48 yX5_its]
def wsX5_drop_r2 : List Cond := [Cond.instanceMethod yX5_its, Cond.selects RX5 yX5_its yX5_its, Cond.code yX5_its cX5_its 3 (some .int)]
def wsX5_drop : List Cond := .code yX5_drop cX5_drop 3 (some .int) :: ((wsX5_drop_r1 ++ wsX5_drop_r2) ++ wsX50)
def wsX5_move_r1 : List Cond := [Cond.methodLink RX5 122 yX5_isJob, Cond.instanceMethod yX5_isJob, Cond.selects RX5 yX5_isJob yX5_isJob, Cond.initialized RX5, Cond.code yX5_isJob cX5_isJob 2 (some .boolean), Cond.fieldLink RX5 7 "PrintRacksModel" "all" "[I", Cond.methodLink RX5 44 yX5_in, Cond.static yX5_in, Cond.code yX5_in cX5_in 6 (some .boolean), Cond.methodLink RX5 113 yX5_changes, Cond.instanceMethod yX5_changes, Cond.selects RX5 yX5_changes yX5_changes, Cond.code yX5_changes cX5_changes 2 none, Cond.fieldLink RX5 40 "PrintRacksModel" "historyLong" "I", Cond.fieldLink RX5 16 "PrintRacksModel" "history" "[I", Cond.methodLink RX5 126 yX5_moves, Cond.instanceMethod yX5_moves, Cond.selects RX5 yX5_moves yX5_moves, Cond.code yX5_moves cX5_moves 5 none, Cond.methodLink RX5 56 yX5_exchanges, Cond.instanceMethod yX5_exchanges, Cond.selects RX5 yX5_exchanges yX5_exchanges, Cond.code yX5_exchanges cX5_exchanges 5 none, Cond.methodLink RX5 48 yX5_its]
def wsX5_move_r2 : List Cond := [Cond.instanceMethod yX5_its, Cond.selects RX5 yX5_its yX5_its, Cond.code yX5_its cX5_its 3 (some .int), Cond.methodLink RX5 129 yX5_lateAll, Cond.instanceMethod yX5_lateAll, Cond.selects RX5 yX5_lateAll yX5_lateAll, Cond.code yX5_lateAll cX5_lateAll 1 (some .int), Cond.methodLink RX5 87 yX5_prints, Cond.instanceMethod yX5_prints, Cond.selects RX5 yX5_prints yX5_prints, Cond.code yX5_prints cX5_prints 5 none, Cond.fieldLink RX5 25 "PrintRacksModel" "begins" "[I", Cond.fieldLink RX5 28 "PrintRacksModel" "printed" "[I", Cond.methodLink RX5 72 yX5_readyFor, Cond.instanceMethod yX5_readyFor, Cond.selects RX5 yX5_readyFor yX5_readyFor, Cond.code yX5_readyFor cX5_readyFor 2 (some .int), Cond.methodLink RX5 60 yX5_plateFor, Cond.instanceMethod yX5_plateFor, Cond.selects RX5 yX5_plateFor yX5_plateFor, Cond.code yX5_plateFor cX5_plateFor 2 (some .int), Cond.methodLink RX5 63 yX5_washFor, Cond.instanceMethod yX5_washFor, Cond.selects RX5 yX5_washFor yX5_washFor]
def wsX5_move_r3 : List Cond := [Cond.code yX5_washFor cX5_washFor 3 (some .int), Cond.methodLink RX5 75 yX5_taken, Cond.instanceMethod yX5_taken, Cond.selects RX5 yX5_taken yX5_taken, Cond.code yX5_taken cX5_taken 5 (some .int), Cond.methodLink RX5 66 yX5_dry, Cond.instanceMethod yX5_dry, Cond.selects RX5 yX5_dry yX5_dry, Cond.code yX5_dry cX5_dry 2 (some .int), Cond.methodLink RX5 69 yX5_racksOf, Cond.instanceMethod yX5_racksOf, Cond.selects RX5 yX5_racksOf yX5_racksOf, Cond.code yX5_racksOf cX5_racksOf 2 (some .int), Cond.methodLink RX5 52 yX5_racksFor, Cond.instanceMethod yX5_racksFor, Cond.selects RX5 yX5_racksFor yX5_racksFor, Cond.code yX5_racksFor cX5_racksFor 2 (some .int), Cond.methodLink RX5 90 yX5_sumOf, Cond.instanceMethod yX5_sumOf, Cond.selects RX5 yX5_sumOf yX5_sumOf, Cond.code yX5_sumOf cX5_sumOf 4 (some .int), Cond.methodLink RX5 78 yX5_late, Cond.instanceMethod yX5_late, Cond.selects RX5 yX5_late yX5_late]
def wsX5_move_r4 : List Cond := [Cond.code yX5_late cX5_late 3 (some .int), Cond.methodLink RX5 81 yX5_isOther, Cond.instanceMethod yX5_isOther, Cond.selects RX5 yX5_isOther yX5_isOther, Cond.code yX5_isOther cX5_isOther 2 (some .int), Cond.methodLink RX5 84 yX5_waits, Cond.instanceMethod yX5_waits, Cond.selects RX5 yX5_waits yX5_waits, Cond.code yX5_waits cX5_waits 2 (some .int)]
def wsX5_move : List Cond := .code yX5_move cX5_move 3 (some .int) :: ((wsX5_move_r1 ++ (wsX5_move_r2 ++ (wsX5_move_r3 ++ wsX5_move_r4))) ++ wsX50)
def wsX5_due_r1 : List Cond := [Cond.constantLong RX5 116 (3000), Cond.fieldLink RX5 7 "PrintRacksModel" "all" "[I", Cond.methodLink RX5 122 yX5_isJob, Cond.instanceMethod yX5_isJob, Cond.selects RX5 yX5_isJob yX5_isJob, Cond.initialized RX5, Cond.code yX5_isJob cX5_isJob 2 (some .boolean), Cond.methodLink RX5 44 yX5_in, Cond.static yX5_in, Cond.code yX5_in cX5_in 6 (some .boolean), Cond.methodLink RX5 113 yX5_changes, Cond.instanceMethod yX5_changes, Cond.selects RX5 yX5_changes yX5_changes, Cond.code yX5_changes cX5_changes 2 none, Cond.fieldLink RX5 40 "PrintRacksModel" "historyLong" "I", Cond.fieldLink RX5 16 "PrintRacksModel" "history" "[I", Cond.methodLink RX5 87 yX5_prints, Cond.instanceMethod yX5_prints, Cond.selects RX5 yX5_prints yX5_prints, Cond.code yX5_prints cX5_prints 5 none, Cond.fieldLink RX5 25 "PrintRacksModel" "begins" "[I", Cond.fieldLink RX5 28 "PrintRacksModel" "printed" "[I", Cond.methodLink RX5 72 yX5_readyFor, Cond.instanceMethod yX5_readyFor]
def wsX5_due_r2 : List Cond := [Cond.selects RX5 yX5_readyFor yX5_readyFor, Cond.code yX5_readyFor cX5_readyFor 2 (some .int), Cond.methodLink RX5 60 yX5_plateFor, Cond.instanceMethod yX5_plateFor, Cond.selects RX5 yX5_plateFor yX5_plateFor, Cond.code yX5_plateFor cX5_plateFor 2 (some .int), Cond.methodLink RX5 48 yX5_its, Cond.instanceMethod yX5_its, Cond.selects RX5 yX5_its yX5_its, Cond.code yX5_its cX5_its 3 (some .int), Cond.methodLink RX5 63 yX5_washFor, Cond.instanceMethod yX5_washFor, Cond.selects RX5 yX5_washFor yX5_washFor, Cond.code yX5_washFor cX5_washFor 3 (some .int), Cond.methodLink RX5 75 yX5_taken, Cond.instanceMethod yX5_taken, Cond.selects RX5 yX5_taken yX5_taken, Cond.code yX5_taken cX5_taken 5 (some .int), Cond.methodLink RX5 66 yX5_dry, Cond.instanceMethod yX5_dry, Cond.selects RX5 yX5_dry yX5_dry, Cond.code yX5_dry cX5_dry 2 (some .int), Cond.methodLink RX5 69 yX5_racksOf, Cond.instanceMethod yX5_racksOf]
def wsX5_due_r3 : List Cond := [Cond.selects RX5 yX5_racksOf yX5_racksOf, Cond.code yX5_racksOf cX5_racksOf 2 (some .int), Cond.methodLink RX5 52 yX5_racksFor, Cond.instanceMethod yX5_racksFor, Cond.selects RX5 yX5_racksFor yX5_racksFor, Cond.code yX5_racksFor cX5_racksFor 2 (some .int), Cond.methodLink RX5 78 yX5_late, Cond.instanceMethod yX5_late, Cond.selects RX5 yX5_late yX5_late, Cond.code yX5_late cX5_late 3 (some .int)]
def wsX5_due : List Cond := .code yX5_due cX5_due 3 (some .int) :: ((wsX5_due_r1 ++ (wsX5_due_r2 ++ wsX5_due_r3)) ++ wsX50)
def wsX5_keyOf : List Cond := .code yX5_keyOf cX5_keyOf 1 (some .int) :: ([])
def wsX5_orders : List Cond := .code yX5_orders cX5_orders 5 none :: ([.fieldLink RX5 7 "PrintRacksModel" "all" "[I", .fieldLink RX5 31 "PrintRacksModel" "from" "[I", .methodLink RX5 132 yX5_keyOf, .static yX5_keyOf, .initialized RX5, .code yX5_keyOf cX5_keyOf 1 (some .int), .methodLink RX5 48 yX5_its, .instanceMethod yX5_its, .selects RX5 yX5_its yX5_its, .code yX5_its cX5_its 3 (some .int), .methodLink RX5 56 yX5_exchanges, .instanceMethod yX5_exchanges, .selects RX5 yX5_exchanges yX5_exchanges, .code yX5_exchanges cX5_exchanges 5 none] ++ wsX50)
def wsX5_order_r1 : List Cond := [Cond.constantLong RX5 135 (3), Cond.fieldLink RX5 7 "PrintRacksModel" "all" "[I", Cond.fieldLink RX5 31 "PrintRacksModel" "from" "[I", Cond.methodLink RX5 44 yX5_in, Cond.static yX5_in, Cond.initialized RX5, Cond.code yX5_in cX5_in 6 (some .boolean), Cond.methodLink RX5 113 yX5_changes, Cond.instanceMethod yX5_changes, Cond.selects RX5 yX5_changes yX5_changes, Cond.code yX5_changes cX5_changes 2 none, Cond.fieldLink RX5 40 "PrintRacksModel" "historyLong" "I", Cond.fieldLink RX5 16 "PrintRacksModel" "history" "[I", Cond.methodLink RX5 137 yX5_orders, Cond.instanceMethod yX5_orders, Cond.selects RX5 yX5_orders yX5_orders, Cond.code yX5_orders cX5_orders 5 none, Cond.methodLink RX5 132 yX5_keyOf, Cond.static yX5_keyOf, Cond.code yX5_keyOf cX5_keyOf 1 (some .int), Cond.methodLink RX5 48 yX5_its, Cond.instanceMethod yX5_its, Cond.selects RX5 yX5_its yX5_its, Cond.code yX5_its cX5_its 3 (some .int)]
def wsX5_order_r2 : List Cond := [Cond.methodLink RX5 56 yX5_exchanges, Cond.instanceMethod yX5_exchanges, Cond.selects RX5 yX5_exchanges yX5_exchanges, Cond.code yX5_exchanges cX5_exchanges 5 none]
def wsX5_order : List Cond := .code yX5_order cX5_order 4 (some .int) :: ((wsX5_order_r1 ++ wsX5_order_r2) ++ wsX50)
def wsX5_jobOf_r1 : List Cond := [Cond.fieldLink RX5 25 "PrintRacksModel" "begins" "[I", Cond.fieldLink RX5 28 "PrintRacksModel" "printed" "[I", Cond.methodLink RX5 122 yX5_isJob, Cond.instanceMethod yX5_isJob, Cond.selects RX5 yX5_isJob yX5_isJob, Cond.initialized RX5, Cond.code yX5_isJob cX5_isJob 2 (some .boolean), Cond.fieldLink RX5 7 "PrintRacksModel" "all" "[I", Cond.methodLink RX5 44 yX5_in, Cond.static yX5_in, Cond.code yX5_in cX5_in 6 (some .boolean), Cond.methodLink RX5 87 yX5_prints, Cond.instanceMethod yX5_prints, Cond.selects RX5 yX5_prints yX5_prints, Cond.code yX5_prints cX5_prints 5 none, Cond.methodLink RX5 72 yX5_readyFor, Cond.instanceMethod yX5_readyFor, Cond.selects RX5 yX5_readyFor yX5_readyFor, Cond.code yX5_readyFor cX5_readyFor 2 (some .int), Cond.methodLink RX5 60 yX5_plateFor, Cond.instanceMethod yX5_plateFor, Cond.selects RX5 yX5_plateFor yX5_plateFor, Cond.code yX5_plateFor cX5_plateFor 2 (some .int), Cond.methodLink RX5 48 yX5_its]
def wsX5_jobOf_r2 : List Cond := [Cond.instanceMethod yX5_its, Cond.selects RX5 yX5_its yX5_its, Cond.code yX5_its cX5_its 3 (some .int), Cond.methodLink RX5 63 yX5_washFor, Cond.instanceMethod yX5_washFor, Cond.selects RX5 yX5_washFor yX5_washFor, Cond.code yX5_washFor cX5_washFor 3 (some .int), Cond.methodLink RX5 75 yX5_taken, Cond.instanceMethod yX5_taken, Cond.selects RX5 yX5_taken yX5_taken, Cond.code yX5_taken cX5_taken 5 (some .int), Cond.methodLink RX5 66 yX5_dry, Cond.instanceMethod yX5_dry, Cond.selects RX5 yX5_dry yX5_dry, Cond.code yX5_dry cX5_dry 2 (some .int), Cond.methodLink RX5 69 yX5_racksOf, Cond.instanceMethod yX5_racksOf, Cond.selects RX5 yX5_racksOf yX5_racksOf, Cond.code yX5_racksOf cX5_racksOf 2 (some .int), Cond.methodLink RX5 52 yX5_racksFor, Cond.instanceMethod yX5_racksFor, Cond.selects RX5 yX5_racksFor yX5_racksFor, Cond.code yX5_racksFor cX5_racksFor 2 (some .int), Cond.methodLink RX5 78 yX5_late]
def wsX5_jobOf_r3 : List Cond := [Cond.instanceMethod yX5_late, Cond.selects RX5 yX5_late yX5_late, Cond.code yX5_late cX5_late 3 (some .int), Cond.methodLink RX5 84 yX5_waits, Cond.instanceMethod yX5_waits, Cond.selects RX5 yX5_waits yX5_waits, Cond.code yX5_waits cX5_waits 2 (some .int)]
def wsX5_jobOf : List Cond := .code yX5_jobOf cX5_jobOf 3 (some .int) :: ((wsX5_jobOf_r1 ++ (wsX5_jobOf_r2 ++ wsX5_jobOf_r3)) ++ wsX50)
def wsX5_count_r1 : List Cond := [Cond.fieldLink RX5 7 "PrintRacksModel" "all" "[I", Cond.fieldLink RX5 144 "PrintRacksModel" "textLong" "I", Cond.fieldLink RX5 40 "PrintRacksModel" "historyLong" "I", Cond.constantLong RX5 147 (6), Cond.methodLink RX5 87 yX5_prints, Cond.instanceMethod yX5_prints, Cond.selects RX5 yX5_prints yX5_prints, Cond.initialized RX5, Cond.code yX5_prints cX5_prints 5 none, Cond.fieldLink RX5 25 "PrintRacksModel" "begins" "[I", Cond.fieldLink RX5 28 "PrintRacksModel" "printed" "[I", Cond.methodLink RX5 72 yX5_readyFor, Cond.instanceMethod yX5_readyFor, Cond.selects RX5 yX5_readyFor yX5_readyFor, Cond.code yX5_readyFor cX5_readyFor 2 (some .int), Cond.methodLink RX5 60 yX5_plateFor, Cond.instanceMethod yX5_plateFor, Cond.selects RX5 yX5_plateFor yX5_plateFor, Cond.code yX5_plateFor cX5_plateFor 2 (some .int), Cond.methodLink RX5 48 yX5_its, Cond.instanceMethod yX5_its, Cond.selects RX5 yX5_its yX5_its, Cond.code yX5_its cX5_its 3 (some .int), Cond.methodLink RX5 63 yX5_washFor]
def wsX5_count_r2 : List Cond := [Cond.instanceMethod yX5_washFor, Cond.selects RX5 yX5_washFor yX5_washFor, Cond.code yX5_washFor cX5_washFor 3 (some .int), Cond.methodLink RX5 75 yX5_taken, Cond.instanceMethod yX5_taken, Cond.selects RX5 yX5_taken yX5_taken, Cond.code yX5_taken cX5_taken 5 (some .int), Cond.methodLink RX5 66 yX5_dry, Cond.instanceMethod yX5_dry, Cond.selects RX5 yX5_dry yX5_dry, Cond.code yX5_dry cX5_dry 2 (some .int), Cond.methodLink RX5 69 yX5_racksOf, Cond.instanceMethod yX5_racksOf, Cond.selects RX5 yX5_racksOf yX5_racksOf, Cond.code yX5_racksOf cX5_racksOf 2 (some .int), Cond.methodLink RX5 52 yX5_racksFor, Cond.instanceMethod yX5_racksFor, Cond.selects RX5 yX5_racksFor yX5_racksFor, Cond.code yX5_racksFor cX5_racksFor 2 (some .int), Cond.methodLink RX5 90 yX5_sumOf, Cond.instanceMethod yX5_sumOf, Cond.selects RX5 yX5_sumOf yX5_sumOf, Cond.code yX5_sumOf cX5_sumOf 4 (some .int), Cond.methodLink RX5 78 yX5_late]
def wsX5_count_r3 : List Cond := [Cond.instanceMethod yX5_late, Cond.selects RX5 yX5_late yX5_late, Cond.code yX5_late cX5_late 3 (some .int), Cond.methodLink RX5 81 yX5_isOther, Cond.instanceMethod yX5_isOther, Cond.selects RX5 yX5_isOther yX5_isOther, Cond.code yX5_isOther cX5_isOther 2 (some .int), Cond.methodLink RX5 84 yX5_waits, Cond.instanceMethod yX5_waits, Cond.selects RX5 yX5_waits yX5_waits, Cond.code yX5_waits cX5_waits 2 (some .int), Cond.methodLink RX5 141 yX5_greatestOf, Cond.instanceMethod yX5_greatestOf, Cond.selects RX5 yX5_greatestOf yX5_greatestOf, Cond.code yX5_greatestOf cX5_greatestOf 5 (some .int), Cond.methodLink RX5 44 yX5_in, Cond.static yX5_in, Cond.code yX5_in cX5_in 6 (some .boolean)]
def wsX5_count : List Cond := .code yX5_count cX5_count 2 (some .int) :: ((wsX5_count_r1 ++ (wsX5_count_r2 ++ wsX5_count_r3)) ++ wsX50)
def wsX5_at_r1 : List Cond := [Cond.constantLong RX5 149 (99999), Cond.constantLong RX5 135 (3), Cond.fieldLink RX5 7 "PrintRacksModel" "all" "[I", Cond.fieldLink RX5 25 "PrintRacksModel" "begins" "[I", Cond.fieldLink RX5 28 "PrintRacksModel" "printed" "[I", Cond.methodLink RX5 44 yX5_in, Cond.static yX5_in, Cond.initialized RX5, Cond.code yX5_in cX5_in 6 (some .boolean), Cond.methodLink RX5 87 yX5_prints, Cond.instanceMethod yX5_prints, Cond.selects RX5 yX5_prints yX5_prints, Cond.code yX5_prints cX5_prints 5 none, Cond.methodLink RX5 72 yX5_readyFor, Cond.instanceMethod yX5_readyFor, Cond.selects RX5 yX5_readyFor yX5_readyFor, Cond.code yX5_readyFor cX5_readyFor 2 (some .int), Cond.methodLink RX5 60 yX5_plateFor, Cond.instanceMethod yX5_plateFor, Cond.selects RX5 yX5_plateFor yX5_plateFor, Cond.code yX5_plateFor cX5_plateFor 2 (some .int), Cond.methodLink RX5 48 yX5_its, Cond.instanceMethod yX5_its, Cond.selects RX5 yX5_its yX5_its]
def wsX5_at_r2 : List Cond := [Cond.code yX5_its cX5_its 3 (some .int), Cond.methodLink RX5 63 yX5_washFor, Cond.instanceMethod yX5_washFor, Cond.selects RX5 yX5_washFor yX5_washFor, Cond.code yX5_washFor cX5_washFor 3 (some .int), Cond.methodLink RX5 75 yX5_taken, Cond.instanceMethod yX5_taken, Cond.selects RX5 yX5_taken yX5_taken, Cond.code yX5_taken cX5_taken 5 (some .int), Cond.methodLink RX5 66 yX5_dry, Cond.instanceMethod yX5_dry, Cond.selects RX5 yX5_dry yX5_dry, Cond.code yX5_dry cX5_dry 2 (some .int), Cond.methodLink RX5 69 yX5_racksOf, Cond.instanceMethod yX5_racksOf, Cond.selects RX5 yX5_racksOf yX5_racksOf, Cond.code yX5_racksOf cX5_racksOf 2 (some .int), Cond.methodLink RX5 52 yX5_racksFor, Cond.instanceMethod yX5_racksFor, Cond.selects RX5 yX5_racksFor yX5_racksFor, Cond.code yX5_racksFor cX5_racksFor 2 (some .int)]
def wsX5_at : List Cond := .code yX5_at cX5_at 5 (some .int) :: ((wsX5_at_r1 ++ wsX5_at_r2) ++ wsX50)
def wsX5_ifOrdered_r1 : List Cond := [Cond.constantLong RX5 135 (3), Cond.methodLink RX5 44 yX5_in, Cond.static yX5_in, Cond.initialized RX5, Cond.code yX5_in cX5_in 6 (some .boolean), Cond.methodLink RX5 151 yX5_keeps, Cond.instanceMethod yX5_keeps, Cond.selects RX5 yX5_keeps yX5_keeps, Cond.code yX5_keeps cX5_keeps 2 none, Cond.fieldLink RX5 13 "PrintRacksModel" "kept" "[I", Cond.fieldLink RX5 7 "PrintRacksModel" "all" "[I", Cond.methodLink RX5 137 yX5_orders, Cond.instanceMethod yX5_orders, Cond.selects RX5 yX5_orders yX5_orders, Cond.code yX5_orders cX5_orders 5 none, Cond.fieldLink RX5 31 "PrintRacksModel" "from" "[I", Cond.methodLink RX5 132 yX5_keyOf, Cond.static yX5_keyOf, Cond.code yX5_keyOf cX5_keyOf 1 (some .int), Cond.methodLink RX5 48 yX5_its, Cond.instanceMethod yX5_its, Cond.selects RX5 yX5_its yX5_its, Cond.code yX5_its cX5_its 3 (some .int), Cond.methodLink RX5 56 yX5_exchanges]
def wsX5_ifOrdered_r2 : List Cond := [Cond.instanceMethod yX5_exchanges, Cond.selects RX5 yX5_exchanges yX5_exchanges, Cond.code yX5_exchanges cX5_exchanges 5 none, Cond.methodLink RX5 87 yX5_prints, Cond.instanceMethod yX5_prints, Cond.selects RX5 yX5_prints yX5_prints, Cond.code yX5_prints cX5_prints 5 none, Cond.fieldLink RX5 25 "PrintRacksModel" "begins" "[I", Cond.fieldLink RX5 28 "PrintRacksModel" "printed" "[I", Cond.methodLink RX5 72 yX5_readyFor, Cond.instanceMethod yX5_readyFor, Cond.selects RX5 yX5_readyFor yX5_readyFor, Cond.code yX5_readyFor cX5_readyFor 2 (some .int), Cond.methodLink RX5 60 yX5_plateFor, Cond.instanceMethod yX5_plateFor, Cond.selects RX5 yX5_plateFor yX5_plateFor, Cond.code yX5_plateFor cX5_plateFor 2 (some .int), Cond.methodLink RX5 63 yX5_washFor, Cond.instanceMethod yX5_washFor, Cond.selects RX5 yX5_washFor yX5_washFor, Cond.code yX5_washFor cX5_washFor 3 (some .int), Cond.methodLink RX5 75 yX5_taken, Cond.instanceMethod yX5_taken, Cond.selects RX5 yX5_taken yX5_taken]
def wsX5_ifOrdered_r3 : List Cond := [Cond.code yX5_taken cX5_taken 5 (some .int), Cond.methodLink RX5 66 yX5_dry, Cond.instanceMethod yX5_dry, Cond.selects RX5 yX5_dry yX5_dry, Cond.code yX5_dry cX5_dry 2 (some .int), Cond.methodLink RX5 69 yX5_racksOf, Cond.instanceMethod yX5_racksOf, Cond.selects RX5 yX5_racksOf yX5_racksOf, Cond.code yX5_racksOf cX5_racksOf 2 (some .int), Cond.methodLink RX5 52 yX5_racksFor, Cond.instanceMethod yX5_racksFor, Cond.selects RX5 yX5_racksFor yX5_racksFor, Cond.code yX5_racksFor cX5_racksFor 2 (some .int), Cond.methodLink RX5 141 yX5_greatestOf, Cond.instanceMethod yX5_greatestOf, Cond.selects RX5 yX5_greatestOf yX5_greatestOf, Cond.code yX5_greatestOf cX5_greatestOf 5 (some .int), Cond.methodLink RX5 78 yX5_late, Cond.instanceMethod yX5_late, Cond.selects RX5 yX5_late yX5_late, Cond.code yX5_late cX5_late 3 (some .int), Cond.methodLink RX5 90 yX5_sumOf, Cond.instanceMethod yX5_sumOf, Cond.selects RX5 yX5_sumOf yX5_sumOf]
def wsX5_ifOrdered_r4 : List Cond := [Cond.code yX5_sumOf cX5_sumOf 4 (some .int), Cond.methodLink RX5 81 yX5_isOther, Cond.instanceMethod yX5_isOther, Cond.selects RX5 yX5_isOther yX5_isOther, Cond.code yX5_isOther cX5_isOther 2 (some .int), Cond.methodLink RX5 84 yX5_waits, Cond.instanceMethod yX5_waits, Cond.selects RX5 yX5_waits yX5_waits, Cond.code yX5_waits cX5_waits 2 (some .int), Cond.methodLink RX5 154 yX5_comesBack, Cond.instanceMethod yX5_comesBack, Cond.selects RX5 yX5_comesBack yX5_comesBack, Cond.code yX5_comesBack cX5_comesBack 2 none]
def wsX5_ifOrdered : List Cond := .code yX5_ifOrdered cX5_ifOrdered 4 (some .int) :: ((wsX5_ifOrdered_r1 ++ (wsX5_ifOrdered_r2 ++ (wsX5_ifOrdered_r3 ++ wsX5_ifOrdered_r4))) ++ wsX50)
def wsX5_bestExchange_r1 : List Cond := [Cond.constantLong RX5 157 (2), Cond.fieldLink RX5 7 "PrintRacksModel" "all" "[I", Cond.methodLink RX5 44 yX5_in, Cond.static yX5_in, Cond.initialized RX5, Cond.code yX5_in cX5_in 6 (some .boolean), Cond.methodLink RX5 129 yX5_lateAll, Cond.instanceMethod yX5_lateAll, Cond.selects RX5 yX5_lateAll yX5_lateAll, Cond.code yX5_lateAll cX5_lateAll 1 (some .int), Cond.methodLink RX5 87 yX5_prints, Cond.instanceMethod yX5_prints, Cond.selects RX5 yX5_prints yX5_prints, Cond.code yX5_prints cX5_prints 5 none, Cond.fieldLink RX5 25 "PrintRacksModel" "begins" "[I", Cond.fieldLink RX5 28 "PrintRacksModel" "printed" "[I", Cond.methodLink RX5 72 yX5_readyFor, Cond.instanceMethod yX5_readyFor, Cond.selects RX5 yX5_readyFor yX5_readyFor, Cond.code yX5_readyFor cX5_readyFor 2 (some .int), Cond.methodLink RX5 60 yX5_plateFor, Cond.instanceMethod yX5_plateFor, Cond.selects RX5 yX5_plateFor yX5_plateFor, Cond.code yX5_plateFor cX5_plateFor 2 (some .int)]
def wsX5_bestExchange_r2 : List Cond := [Cond.methodLink RX5 48 yX5_its, Cond.instanceMethod yX5_its, Cond.selects RX5 yX5_its yX5_its, Cond.code yX5_its cX5_its 3 (some .int), Cond.methodLink RX5 63 yX5_washFor, Cond.instanceMethod yX5_washFor, Cond.selects RX5 yX5_washFor yX5_washFor, Cond.code yX5_washFor cX5_washFor 3 (some .int), Cond.methodLink RX5 75 yX5_taken, Cond.instanceMethod yX5_taken, Cond.selects RX5 yX5_taken yX5_taken, Cond.code yX5_taken cX5_taken 5 (some .int), Cond.methodLink RX5 66 yX5_dry, Cond.instanceMethod yX5_dry, Cond.selects RX5 yX5_dry yX5_dry, Cond.code yX5_dry cX5_dry 2 (some .int), Cond.methodLink RX5 69 yX5_racksOf, Cond.instanceMethod yX5_racksOf, Cond.selects RX5 yX5_racksOf yX5_racksOf, Cond.code yX5_racksOf cX5_racksOf 2 (some .int), Cond.methodLink RX5 52 yX5_racksFor, Cond.instanceMethod yX5_racksFor, Cond.selects RX5 yX5_racksFor yX5_racksFor, Cond.code yX5_racksFor cX5_racksFor 2 (some .int)]
def wsX5_bestExchange_r3 : List Cond := [Cond.methodLink RX5 90 yX5_sumOf, Cond.instanceMethod yX5_sumOf, Cond.selects RX5 yX5_sumOf yX5_sumOf, Cond.code yX5_sumOf cX5_sumOf 4 (some .int), Cond.methodLink RX5 78 yX5_late, Cond.instanceMethod yX5_late, Cond.selects RX5 yX5_late yX5_late, Cond.code yX5_late cX5_late 3 (some .int), Cond.methodLink RX5 81 yX5_isOther, Cond.instanceMethod yX5_isOther, Cond.selects RX5 yX5_isOther yX5_isOther, Cond.code yX5_isOther cX5_isOther 2 (some .int), Cond.methodLink RX5 84 yX5_waits, Cond.instanceMethod yX5_waits, Cond.selects RX5 yX5_waits yX5_waits, Cond.code yX5_waits cX5_waits 2 (some .int), Cond.methodLink RX5 56 yX5_exchanges, Cond.instanceMethod yX5_exchanges, Cond.selects RX5 yX5_exchanges yX5_exchanges, Cond.code yX5_exchanges cX5_exchanges 5 none]
def wsX5_bestExchange : List Cond := .code yX5_bestExchange cX5_bestExchange 9 (some .int) :: ((wsX5_bestExchange_r1 ++ (wsX5_bestExchange_r2 ++ wsX5_bestExchange_r3)) ++ wsX50)
def wsX5_bestFirst_r1 : List Cond := [Cond.fieldLink RX5 7 "PrintRacksModel" "all" "[I", Cond.methodLink RX5 126 yX5_moves, Cond.instanceMethod yX5_moves, Cond.selects RX5 yX5_moves yX5_moves, Cond.initialized RX5, Cond.code yX5_moves cX5_moves 5 none, Cond.methodLink RX5 56 yX5_exchanges, Cond.instanceMethod yX5_exchanges, Cond.selects RX5 yX5_exchanges yX5_exchanges, Cond.code yX5_exchanges cX5_exchanges 5 none, Cond.methodLink RX5 48 yX5_its, Cond.instanceMethod yX5_its, Cond.selects RX5 yX5_its yX5_its, Cond.code yX5_its cX5_its 3 (some .int), Cond.methodLink RX5 129 yX5_lateAll, Cond.instanceMethod yX5_lateAll, Cond.selects RX5 yX5_lateAll yX5_lateAll, Cond.code yX5_lateAll cX5_lateAll 1 (some .int), Cond.methodLink RX5 87 yX5_prints, Cond.instanceMethod yX5_prints, Cond.selects RX5 yX5_prints yX5_prints, Cond.code yX5_prints cX5_prints 5 none, Cond.fieldLink RX5 25 "PrintRacksModel" "begins" "[I", Cond.fieldLink RX5 28 "PrintRacksModel" "printed" "[I"]
def wsX5_bestFirst_r2 : List Cond := [Cond.methodLink RX5 72 yX5_readyFor, Cond.instanceMethod yX5_readyFor, Cond.selects RX5 yX5_readyFor yX5_readyFor, Cond.code yX5_readyFor cX5_readyFor 2 (some .int), Cond.methodLink RX5 60 yX5_plateFor, Cond.instanceMethod yX5_plateFor, Cond.selects RX5 yX5_plateFor yX5_plateFor, Cond.code yX5_plateFor cX5_plateFor 2 (some .int), Cond.methodLink RX5 63 yX5_washFor, Cond.instanceMethod yX5_washFor, Cond.selects RX5 yX5_washFor yX5_washFor, Cond.code yX5_washFor cX5_washFor 3 (some .int), Cond.methodLink RX5 75 yX5_taken, Cond.instanceMethod yX5_taken, Cond.selects RX5 yX5_taken yX5_taken, Cond.code yX5_taken cX5_taken 5 (some .int), Cond.methodLink RX5 66 yX5_dry, Cond.instanceMethod yX5_dry, Cond.selects RX5 yX5_dry yX5_dry, Cond.code yX5_dry cX5_dry 2 (some .int), Cond.methodLink RX5 69 yX5_racksOf, Cond.instanceMethod yX5_racksOf, Cond.selects RX5 yX5_racksOf yX5_racksOf, Cond.code yX5_racksOf cX5_racksOf 2 (some .int)]
def wsX5_bestFirst_r3 : List Cond := [Cond.methodLink RX5 52 yX5_racksFor, Cond.instanceMethod yX5_racksFor, Cond.selects RX5 yX5_racksFor yX5_racksFor, Cond.code yX5_racksFor cX5_racksFor 2 (some .int), Cond.methodLink RX5 90 yX5_sumOf, Cond.instanceMethod yX5_sumOf, Cond.selects RX5 yX5_sumOf yX5_sumOf, Cond.code yX5_sumOf cX5_sumOf 4 (some .int), Cond.methodLink RX5 78 yX5_late, Cond.instanceMethod yX5_late, Cond.selects RX5 yX5_late yX5_late, Cond.code yX5_late cX5_late 3 (some .int), Cond.methodLink RX5 81 yX5_isOther, Cond.instanceMethod yX5_isOther, Cond.selects RX5 yX5_isOther yX5_isOther, Cond.code yX5_isOther cX5_isOther 2 (some .int), Cond.methodLink RX5 84 yX5_waits, Cond.instanceMethod yX5_waits, Cond.selects RX5 yX5_waits yX5_waits, Cond.code yX5_waits cX5_waits 2 (some .int)]
def wsX5_bestFirst : List Cond := .code yX5_bestFirst cX5_bestFirst 6 (some .int) :: ((wsX5_bestFirst_r1 ++ (wsX5_bestFirst_r2 ++ wsX5_bestFirst_r3)) ++ wsX50)
def wsX5_leastRacks_r1 : List Cond := [Cond.fieldLink RX5 7 "PrintRacksModel" "all" "[I", Cond.methodLink RX5 109 yX5_mostNeeded, Cond.instanceMethod yX5_mostNeeded, Cond.selects RX5 yX5_mostNeeded yX5_mostNeeded, Cond.initialized RX5, Cond.code yX5_mostNeeded cX5_mostNeeded 3 (some .int), Cond.methodLink RX5 69 yX5_racksOf, Cond.instanceMethod yX5_racksOf, Cond.selects RX5 yX5_racksOf yX5_racksOf, Cond.code yX5_racksOf cX5_racksOf 2 (some .int), Cond.methodLink RX5 48 yX5_its, Cond.instanceMethod yX5_its, Cond.selects RX5 yX5_its yX5_its, Cond.code yX5_its cX5_its 3 (some .int), Cond.methodLink RX5 52 yX5_racksFor, Cond.instanceMethod yX5_racksFor, Cond.selects RX5 yX5_racksFor yX5_racksFor, Cond.code yX5_racksFor cX5_racksFor 2 (some .int), Cond.methodLink RX5 87 yX5_prints, Cond.instanceMethod yX5_prints, Cond.selects RX5 yX5_prints yX5_prints, Cond.code yX5_prints cX5_prints 5 none, Cond.fieldLink RX5 25 "PrintRacksModel" "begins" "[I", Cond.fieldLink RX5 28 "PrintRacksModel" "printed" "[I"]
def wsX5_leastRacks_r2 : List Cond := [Cond.methodLink RX5 72 yX5_readyFor, Cond.instanceMethod yX5_readyFor, Cond.selects RX5 yX5_readyFor yX5_readyFor, Cond.code yX5_readyFor cX5_readyFor 2 (some .int), Cond.methodLink RX5 60 yX5_plateFor, Cond.instanceMethod yX5_plateFor, Cond.selects RX5 yX5_plateFor yX5_plateFor, Cond.code yX5_plateFor cX5_plateFor 2 (some .int), Cond.methodLink RX5 63 yX5_washFor, Cond.instanceMethod yX5_washFor, Cond.selects RX5 yX5_washFor yX5_washFor, Cond.code yX5_washFor cX5_washFor 3 (some .int), Cond.methodLink RX5 75 yX5_taken, Cond.instanceMethod yX5_taken, Cond.selects RX5 yX5_taken yX5_taken, Cond.code yX5_taken cX5_taken 5 (some .int), Cond.methodLink RX5 66 yX5_dry, Cond.instanceMethod yX5_dry, Cond.selects RX5 yX5_dry yX5_dry, Cond.code yX5_dry cX5_dry 2 (some .int), Cond.methodLink RX5 90 yX5_sumOf, Cond.instanceMethod yX5_sumOf, Cond.selects RX5 yX5_sumOf yX5_sumOf, Cond.code yX5_sumOf cX5_sumOf 4 (some .int)]
def wsX5_leastRacks_r3 : List Cond := [Cond.methodLink RX5 78 yX5_late, Cond.instanceMethod yX5_late, Cond.selects RX5 yX5_late yX5_late, Cond.code yX5_late cX5_late 3 (some .int), Cond.methodLink RX5 81 yX5_isOther, Cond.instanceMethod yX5_isOther, Cond.selects RX5 yX5_isOther yX5_isOther, Cond.code yX5_isOther cX5_isOther 2 (some .int), Cond.methodLink RX5 84 yX5_waits, Cond.instanceMethod yX5_waits, Cond.selects RX5 yX5_waits yX5_waits, Cond.code yX5_waits cX5_waits 2 (some .int)]
def wsX5_leastRacks : List Cond := .code yX5_leastRacks cX5_leastRacks 4 (some .int) :: ((wsX5_leastRacks_r1 ++ (wsX5_leastRacks_r2 ++ wsX5_leastRacks_r3)) ++ wsX50)
def wsX5_charactersOf : List Cond := .code yX5_charactersOf cX5_charactersOf 5 (some .int) :: ([.constantLong RX5 159 (255), .constantLong RX5 161 (33), .constantLong RX5 163 (126), .methodLink RX5 44 yX5_in, .static yX5_in, .initialized RX5, .code yX5_in cX5_in 6 (some .boolean)])
def wsX5_put : List Cond := .code yX5_put cX5_put 5 (some .int) :: ([.fieldLink RX5 144 "PrintRacksModel" "textLong" "I", .fieldLink RX5 34 "PrintRacksModel" "text" "[I", .constantLong RX5 159 (255), .methodLink RX5 165 yX5_charactersOf, .static yX5_charactersOf, .initialized RX5, .code yX5_charactersOf cX5_charactersOf 5 (some .int), .constantLong RX5 161 (33), .constantLong RX5 163 (126), .methodLink RX5 44 yX5_in, .static yX5_in, .code yX5_in cX5_in 6 (some .boolean)] ++ wsX50)
def wsX5_wipe : List Cond := .code yX5_wipe cX5_wipe 2 (some .int) :: ([.fieldLink RX5 144 "PrintRacksModel" "textLong" "I"] ++ wsX50)
def wsX5_isHere : List Cond := .code yX5_isHere cX5_isHere 3 (some .boolean) :: ([.fieldLink RX5 169 "PrintRacksModel" "spot" "I", .fieldLink RX5 144 "PrintRacksModel" "textLong" "I", .fieldLink RX5 34 "PrintRacksModel" "text" "[I", .methodLink RX5 44 yX5_in, .static yX5_in, .initialized RX5, .code yX5_in cX5_in 6 (some .boolean)] ++ wsX50)
def wsX5_takesOne : List Cond := .code yX5_takesOne cX5_takesOne 3 (some .boolean) :: ([.fieldLink RX5 169 "PrintRacksModel" "spot" "I", .methodLink RX5 172 yX5_isHere, .instanceMethod yX5_isHere, .selects RX5 yX5_isHere yX5_isHere, .initialized RX5, .code yX5_isHere cX5_isHere 3 (some .boolean), .fieldLink RX5 144 "PrintRacksModel" "textLong" "I", .fieldLink RX5 34 "PrintRacksModel" "text" "[I", .methodLink RX5 44 yX5_in, .static yX5_in, .code yX5_in cX5_in 6 (some .boolean)] ++ wsX50)
def wsX5_readsNumber : List Cond := .code yX5_readsNumber cX5_readsNumber 6 (some .boolean) :: ([.fieldLink RX5 34 "PrintRacksModel" "text" "[I", .fieldLink RX5 169 "PrintRacksModel" "spot" "I", .fieldLink RX5 37 "PrintRacksModel" "told" "[I", .fieldLink RX5 178 "PrintRacksModel" "read" "I", .methodLink RX5 175 yX5_takesOne, .instanceMethod yX5_takesOne, .selects RX5 yX5_takesOne yX5_takesOne, .initialized RX5, .code yX5_takesOne cX5_takesOne 3 (some .boolean), .methodLink RX5 172 yX5_isHere, .instanceMethod yX5_isHere, .selects RX5 yX5_isHere yX5_isHere, .code yX5_isHere cX5_isHere 3 (some .boolean), .fieldLink RX5 144 "PrintRacksModel" "textLong" "I", .methodLink RX5 44 yX5_in, .static yX5_in, .code yX5_in cX5_in 6 (some .boolean)] ++ wsX50)
def wsX5_readsJob : List Cond := .code yX5_readsJob cX5_readsJob 2 (some .boolean) :: ([.fieldLink RX5 37 "PrintRacksModel" "told" "[I", .fieldLink RX5 178 "PrintRacksModel" "read" "I", .methodLink RX5 181 yX5_readsNumber, .instanceMethod yX5_readsNumber, .selects RX5 yX5_readsNumber yX5_readsNumber, .initialized RX5, .code yX5_readsNumber cX5_readsNumber 6 (some .boolean), .fieldLink RX5 34 "PrintRacksModel" "text" "[I", .fieldLink RX5 169 "PrintRacksModel" "spot" "I", .methodLink RX5 175 yX5_takesOne, .instanceMethod yX5_takesOne, .selects RX5 yX5_takesOne yX5_takesOne, .code yX5_takesOne cX5_takesOne 3 (some .boolean), .methodLink RX5 172 yX5_isHere, .instanceMethod yX5_isHere, .selects RX5 yX5_isHere yX5_isHere, .code yX5_isHere cX5_isHere 3 (some .boolean), .fieldLink RX5 144 "PrintRacksModel" "textLong" "I", .methodLink RX5 44 yX5_in, .static yX5_in, .code yX5_in cX5_in 6 (some .boolean)] ++ wsX50)
def wsX5_fault_r1 : List Cond := [Cond.fieldLink RX5 169 "PrintRacksModel" "spot" "I", Cond.fieldLink RX5 178 "PrintRacksModel" "read" "I", Cond.fieldLink RX5 144 "PrintRacksModel" "textLong" "I", Cond.methodLink RX5 185 yX5_readsJob, Cond.instanceMethod yX5_readsJob, Cond.selects RX5 yX5_readsJob yX5_readsJob, Cond.initialized RX5, Cond.code yX5_readsJob cX5_readsJob 2 (some .boolean), Cond.fieldLink RX5 37 "PrintRacksModel" "told" "[I", Cond.methodLink RX5 181 yX5_readsNumber, Cond.instanceMethod yX5_readsNumber, Cond.selects RX5 yX5_readsNumber yX5_readsNumber, Cond.code yX5_readsNumber cX5_readsNumber 6 (some .boolean), Cond.fieldLink RX5 34 "PrintRacksModel" "text" "[I", Cond.methodLink RX5 175 yX5_takesOne, Cond.instanceMethod yX5_takesOne, Cond.selects RX5 yX5_takesOne yX5_takesOne, Cond.code yX5_takesOne cX5_takesOne 3 (some .boolean), Cond.methodLink RX5 172 yX5_isHere, Cond.instanceMethod yX5_isHere, Cond.selects RX5 yX5_isHere yX5_isHere, Cond.code yX5_isHere cX5_isHere 3 (some .boolean), Cond.methodLink RX5 44 yX5_in, Cond.static yX5_in]
def wsX5_fault_r2 : List Cond := [Cond.code yX5_in cX5_in 6 (some .boolean)]
def wsX5_fault : List Cond := .code yX5_fault cX5_fault 2 (some .int) :: ((wsX5_fault_r1 ++ wsX5_fault_r2) ++ wsX50)
def wsX5_read_r1 : List Cond := [Cond.fieldLink RX5 178 "PrintRacksModel" "read" "I", Cond.fieldLink RX5 37 "PrintRacksModel" "told" "[I", Cond.fieldLink RX5 7 "PrintRacksModel" "all" "[I", Cond.fieldLink RX5 144 "PrintRacksModel" "textLong" "I", Cond.methodLink RX5 189 yX5_fault, Cond.instanceMethod yX5_fault, Cond.selects RX5 yX5_fault yX5_fault, Cond.initialized RX5, Cond.code yX5_fault cX5_fault 2 (some .int), Cond.fieldLink RX5 169 "PrintRacksModel" "spot" "I", Cond.methodLink RX5 185 yX5_readsJob, Cond.instanceMethod yX5_readsJob, Cond.selects RX5 yX5_readsJob yX5_readsJob, Cond.code yX5_readsJob cX5_readsJob 2 (some .boolean), Cond.methodLink RX5 181 yX5_readsNumber, Cond.instanceMethod yX5_readsNumber, Cond.selects RX5 yX5_readsNumber yX5_readsNumber, Cond.code yX5_readsNumber cX5_readsNumber 6 (some .boolean), Cond.fieldLink RX5 34 "PrintRacksModel" "text" "[I", Cond.methodLink RX5 175 yX5_takesOne, Cond.instanceMethod yX5_takesOne, Cond.selects RX5 yX5_takesOne yX5_takesOne, Cond.code yX5_takesOne cX5_takesOne 3 (some .boolean), Cond.methodLink RX5 172 yX5_isHere]
def wsX5_read_r2 : List Cond := [Cond.instanceMethod yX5_isHere, Cond.selects RX5 yX5_isHere yX5_isHere, Cond.code yX5_isHere cX5_isHere 3 (some .boolean), Cond.methodLink RX5 44 yX5_in, Cond.static yX5_in, Cond.code yX5_in cX5_in 6 (some .boolean), Cond.methodLink RX5 52 yX5_racksFor, Cond.instanceMethod yX5_racksFor, Cond.selects RX5 yX5_racksFor yX5_racksFor, Cond.code yX5_racksFor cX5_racksFor 2 (some .int), Cond.methodLink RX5 113 yX5_changes, Cond.instanceMethod yX5_changes, Cond.selects RX5 yX5_changes yX5_changes, Cond.code yX5_changes cX5_changes 2 none, Cond.fieldLink RX5 40 "PrintRacksModel" "historyLong" "I", Cond.fieldLink RX5 16 "PrintRacksModel" "history" "[I", Cond.methodLink RX5 118 yX5_puts, Cond.instanceMethod yX5_puts, Cond.selects RX5 yX5_puts yX5_puts, Cond.code yX5_puts cX5_puts 6 none]
def wsX5_read : List Cond := .code yX5_read cX5_read 2 (some .int) :: ((wsX5_read_r1 ++ wsX5_read_r2) ++ wsX50)
def wsX5_undo : List Cond := .code yX5_undo cX5_undo 2 (some .int) :: ([.fieldLink RX5 40 "PrintRacksModel" "historyLong" "I", .fieldLink RX5 7 "PrintRacksModel" "all" "[I", .fieldLink RX5 16 "PrintRacksModel" "history" "[I"] ++ wsX50)
def wsX5_isSlot : List Cond := .code yX5_isSlot cX5_isSlot 1 (some .boolean) :: ([])
def wsX5_save : List Cond := .code yX5_save cX5_save 3 (some .int) :: ([.fieldLink RX5 19 "PrintRacksModel" "slots" "[I", .fieldLink RX5 7 "PrintRacksModel" "all" "[I", .fieldLink RX5 22 "PrintRacksModel" "isSaved" "[I", .methodLink RX5 192 yX5_isSlot, .static yX5_isSlot, .initialized RX5, .code yX5_isSlot cX5_isSlot 1 (some .boolean)] ++ wsX50)
def wsX5_restore : List Cond := .code yX5_restore cX5_restore 3 (some .int) :: ([.fieldLink RX5 22 "PrintRacksModel" "isSaved" "[I", .fieldLink RX5 7 "PrintRacksModel" "all" "[I", .fieldLink RX5 19 "PrintRacksModel" "slots" "[I", .methodLink RX5 192 yX5_isSlot, .static yX5_isSlot, .initialized RX5, .code yX5_isSlot cX5_isSlot 1 (some .boolean), .methodLink RX5 113 yX5_changes, .instanceMethod yX5_changes, .selects RX5 yX5_changes yX5_changes, .code yX5_changes cX5_changes 2 none, .fieldLink RX5 40 "PrintRacksModel" "historyLong" "I", .fieldLink RX5 16 "PrintRacksModel" "history" "[I"] ++ wsX50)
def wsJ9_max_7cf53 : List Cond := .code yJ9_max_7cf53 cJ9_max_7cf53 2 (some .int) :: ([])
def wsJ9_min_7cf53 : List Cond := .code yJ9_min_7cf53 cJ9_min_7cf53 2 (some .int) :: ([])
def wsL_law_r1 : List Cond := [Cond.classLink RL 7 RX4, Cond.instantiable RX4 7, Cond.initialized RX4, Cond.classLink RL 10 RX5, Cond.instantiable RX5 14, Cond.initialized RX5, Cond.constantLong RL 73 (4294967295), Cond.methodLink RL 9 yX4_init, Cond.instanceMethod yX4_init, Cond.code yX4_init cX4_init 2 none, Cond.methodLink RX4 1 objectInit, Cond.instanceMethod objectInit, Cond.code objectInit ⟨#[0xb1]⟩ 1 none, Cond.classLink RX4 7 RX0, Cond.instantiable RX0 3, Cond.initialized RX0, Cond.fieldLink RX4 10 "PrintRacks" "board" "LPrintRacks$Board;", Cond.fieldLink RX4 16 "PrintRacks" "trial" "LPrintRacks$Board;", Cond.classLink RX4 19 RX3, Cond.instantiable RX3 18, Cond.initialized RX3, Cond.fieldLink RX4 22 "PrintRacks" "press" "LPrintRacks$Press;", Cond.classLink RX4 26 RX2, Cond.instantiable RX2 8]
def wsL_law_r2 : List Cond := [Cond.initialized RX2, Cond.fieldLink RX4 29 "PrintRacks" "pad" "LPrintRacks$Pad;", Cond.classLink RX4 33 RX1, Cond.instantiable RX1 3, Cond.initialized RX1, Cond.fieldLink RX4 36 "PrintRacks" "history" "LPrintRacks$History;", Cond.fieldLink RX4 40 "PrintRacks" "slots" "[LPrintRacks$Board;", Cond.arrayClass .boolean, Cond.fieldLink RX4 44 "PrintRacks" "saved" "[Z", Cond.methodLink RX4 9 yX0_init, Cond.instanceMethod yX0_init, Cond.code yX0_init cX0_init 1 none, Cond.methodLink RX0 3 objectInit, Cond.arrayClass .int, Cond.fieldLink RX0 9 "PrintRacks$Board" "settings" "[I", Cond.methodLink RX0 18 arraycopyName, Cond.native arraycopyName, Cond.static arraycopyName, Cond.initialized "java/lang/System", Cond.classLink RX0 24 "[[I", Cond.fieldLink RX0 26 "PrintRacks$Board" "fields" "[[I", Cond.instanceMethod yX3_init, Cond.code yX3_init cX3_init 1 none, Cond.methodLink RX3 3 objectInit]
def wsL_law_r3 : List Cond := [Cond.fieldLink RX3 9 "PrintRacks$Press" "racks" "[I", Cond.fieldLink RX3 15 "PrintRacks$Press" "wash" "[I", Cond.fieldLink RX3 18 "PrintRacks$Press" "ready" "[I", Cond.fieldLink RX3 21 "PrintRacks$Press" "waits" "[I", Cond.fieldLink RX3 24 "PrintRacks$Press" "begins" "[I", Cond.fieldLink RX3 27 "PrintRacks$Press" "printed" "[I", Cond.fieldLink RX3 30 "PrintRacks$Press" "dry" "[I", Cond.fieldLink RX3 33 "PrintRacks$Press" "late" "[I", Cond.instanceMethod yX2_init, Cond.code yX2_init cX2_init 1 none, Cond.methodLink RX2 3 objectInit, Cond.classLink RX2 9 RX0, Cond.fieldLink RX2 12 "PrintRacks$Pad" "found" "LPrintRacks$Board;", Cond.fieldLink RX2 18 "PrintRacks$Pad" "codes" "[I", Cond.methodLink RX2 11 yX0_init, Cond.methodLink RX4 35 yX1_init, Cond.instanceMethod yX1_init, Cond.code yX1_init cX1_init 2 none, Cond.methodLink RX1 3 objectInit, Cond.classLink RX1 9 RX0, Cond.fieldLink RX1 11 "PrintRacks$History" "states" "[LPrintRacks$Board;", Cond.methodLink RX1 17 yX0_init, Cond.methodLink RL 12 yX5_init, Cond.instanceMethod yX5_init]
def wsL_law_r4 : List Cond := [Cond.code yX5_init cX5_init 1 none, Cond.methodLink RX5 1 objectInit, Cond.fieldLink RX5 7 "PrintRacksModel" "all" "[I", Cond.fieldLink RX5 13 "PrintRacksModel" "kept" "[I", Cond.fieldLink RX5 16 "PrintRacksModel" "history" "[I", Cond.fieldLink RX5 19 "PrintRacksModel" "slots" "[I", Cond.fieldLink RX5 22 "PrintRacksModel" "isSaved" "[I", Cond.fieldLink RX5 25 "PrintRacksModel" "begins" "[I", Cond.fieldLink RX5 28 "PrintRacksModel" "printed" "[I", Cond.fieldLink RX5 31 "PrintRacksModel" "from" "[I", Cond.fieldLink RX5 34 "PrintRacksModel" "text" "[I", Cond.fieldLink RX5 37 "PrintRacksModel" "told" "[I", Cond.methodLink RL 13 yX4_set, Cond.instanceMethod yX4_set, Cond.selects RX4 yX4_set yX4_set, Cond.code yX4_set cX4_set 6 (some .int), Cond.fieldLink RX4 52 "PrintRacks" "LEAST_SETTING" "[I", Cond.fieldLink RX4 56 "PrintRacks" "MOST_SETTING" "[I", Cond.fieldLink RX4 59 "PrintRacks$Board" "settings" "[I", Cond.methodLink RX4 48 yX4_within, Cond.static yX4_within, Cond.code yX4_within cX4_within 3 (some .boolean), Cond.methodLink RX4 62 yX0_mostRacksNeeded, Cond.instanceMethod yX0_mostRacksNeeded]
def wsL_law_r5 : List Cond := [Cond.selects RX0 yX0_mostRacksNeeded yX0_mostRacksNeeded, Cond.code yX0_mostRacksNeeded cX0_mostRacksNeeded 4 (some .int), Cond.fieldLink RX0 29 "PrintRacks$Board" "jobs" "I", Cond.methodLink RX0 52 Lib.Math.max.name, Cond.static Lib.Math.max.name, Cond.initialized "java/lang/Math", Cond.code Lib.Math.max.name Lib.Math.max.code 2 (some .int), Cond.static yX4_racksFor, Cond.code yX4_racksFor cX4_racksFor 2 (some .int), Cond.methodLink RX4 66 yX1_remember, Cond.instanceMethod yX1_remember, Cond.selects RX1 yX1_remember yX1_remember, Cond.code yX1_remember cX1_remember 2 none, Cond.fieldLink RX1 18 "PrintRacks$History" "next" "I", Cond.fieldLink RX1 26 "PrintRacks$History" "kept" "I", Cond.methodLink RX1 29 Lib.Math.min.name, Cond.static Lib.Math.min.name, Cond.code Lib.Math.min.name Lib.Math.min.code 2 (some .int), Cond.methodLink RX1 22 yX0_copyFrom, Cond.instanceMethod yX0_copyFrom, Cond.selects RX0 yX0_copyFrom yX0_copyFrom, Cond.code yX0_copyFrom cX0_copyFrom 3 none, Cond.methodLink RL 17 yX5_set, Cond.instanceMethod yX5_set]
def wsL_law_r6 : List Cond := [Cond.selects RX5 yX5_set yX5_set, Cond.code yX5_set cX5_set 5 (some .int), Cond.methodLink RX5 105 yX5_isSetting, Cond.static yX5_isSetting, Cond.code yX5_isSetting cX5_isSetting 2 (some .boolean), Cond.constantLong RX5 93 (60), Cond.constantLong RX5 95 (9), Cond.constantLong RX5 97 (20), Cond.constantLong RX5 99 (500), Cond.constantLong RX5 101 (4), Cond.constantLong RX5 103 (10), Cond.methodLink RX5 44 yX5_in, Cond.static yX5_in, Cond.code yX5_in cX5_in 6 (some .boolean), Cond.methodLink RX5 109 yX5_mostNeeded, Cond.instanceMethod yX5_mostNeeded, Cond.selects RX5 yX5_mostNeeded yX5_mostNeeded, Cond.code yX5_mostNeeded cX5_mostNeeded 3 (some .int), Cond.methodLink RX5 69 yX5_racksOf, Cond.instanceMethod yX5_racksOf, Cond.selects RX5 yX5_racksOf yX5_racksOf, Cond.code yX5_racksOf cX5_racksOf 2 (some .int), Cond.methodLink RX5 48 yX5_its, Cond.instanceMethod yX5_its]
def wsL_law_r7 : List Cond := [Cond.selects RX5 yX5_its yX5_its, Cond.code yX5_its cX5_its 3 (some .int), Cond.methodLink RX5 52 yX5_racksFor, Cond.instanceMethod yX5_racksFor, Cond.selects RX5 yX5_racksFor yX5_racksFor, Cond.code yX5_racksFor cX5_racksFor 2 (some .int), Cond.methodLink RX5 113 yX5_changes, Cond.instanceMethod yX5_changes, Cond.selects RX5 yX5_changes yX5_changes, Cond.code yX5_changes cX5_changes 2 none, Cond.fieldLink RX5 40 "PrintRacksModel" "historyLong" "I", Cond.methodLink RL 18 yX4_job, Cond.instanceMethod yX4_job, Cond.selects RX4 yX4_job yX4_job, Cond.code yX4_job cX4_job 5 (some .int), Cond.fieldLink RX4 74 "PrintRacks$Board" "jobs" "I", Cond.methodLink RX4 70 yX4_racksFor, Cond.methodLink RX4 78 yX0_append, Cond.instanceMethod yX0_append, Cond.selects RX0 yX0_append yX0_append, Cond.code yX0_append cX0_append 5 none, Cond.methodLink RL 22 yX5_job, Cond.instanceMethod yX5_job, Cond.selects RX5 yX5_job yX5_job]
def wsL_law_r8 : List Cond := [Cond.code yX5_job cX5_job 5 (some .int), Cond.constantLong RX5 116 (3000), Cond.methodLink RX5 118 yX5_puts, Cond.instanceMethod yX5_puts, Cond.selects RX5 yX5_puts yX5_puts, Cond.code yX5_puts cX5_puts 6 none, Cond.methodLink RL 23 yX4_read, Cond.instanceMethod yX4_read, Cond.selects RX4 yX4_read yX4_read, Cond.code yX4_read cX4_read 1 (some .int), Cond.fieldLink RX4 86 "PrintRacks$Pad" "found" "LPrintRacks$Board;", Cond.fieldLink RX4 92 "PrintRacks$Pad" "length" "I", Cond.methodLink RX4 82 yX2_parse, Cond.instanceMethod yX2_parse, Cond.selects RX2 yX2_parse yX2_parse, Cond.code yX2_parse cX2_parse 2 (some .int), Cond.fieldLink RX2 26 "PrintRacks$Board" "jobs" "I", Cond.fieldLink RX2 29 "PrintRacks$Pad" "expected" "I", Cond.fieldLink RX2 22 "PrintRacks$Pad" "length" "I", Cond.methodLink RX2 32 yX2_takes, Cond.instanceMethod yX2_takes, Cond.selects RX2 yX2_takes yX2_takes, Cond.code yX2_takes cX2_takes 3 (some .boolean), Cond.fieldLink RX2 47 "PrintRacks$Pad" "plate" "I"]
def wsL_law_r9 : List Cond := [Cond.fieldLink RX2 50 "PrintRacks$Pad" "shade" "I", Cond.fieldLink RX2 53 "PrintRacks$Pad" "hundreds" "I", Cond.fieldLink RX2 56 "PrintRacks$Pad" "dueTime" "I", Cond.methodLink RX2 43 yX2_takesLetter, Cond.instanceMethod yX2_takesLetter, Cond.selects RX2 yX2_takesLetter yX2_takesLetter, Cond.code yX2_takesLetter cX2_takesLetter 3 (some .boolean), Cond.methodLink RX2 59 yX2_takesBehindHundreds, Cond.instanceMethod yX2_takesBehindHundreds, Cond.selects RX2 yX2_takesBehindHundreds yX2_takesBehindHundreds, Cond.code yX2_takesBehindHundreds cX2_takesBehindHundreds 3 (some .boolean), Cond.methodLink RX2 66 yX2_takesEndOfJob, Cond.instanceMethod yX2_takesEndOfJob, Cond.selects RX2 yX2_takesEndOfJob yX2_takesEndOfJob, Cond.code yX2_takesEndOfJob cX2_takesEndOfJob 2 (some .boolean), Cond.methodLink RX2 36 yX2_endJob, Cond.instanceMethod yX2_endJob, Cond.selects RX2 yX2_endJob yX2_endJob, Cond.code yX2_endJob cX2_endJob 1 none, Cond.methodLink RX2 69 yX0_append, Cond.methodLink RX2 63 yX2_takesBehindDue, Cond.instanceMethod yX2_takesBehindDue, Cond.selects RX2 yX2_takesBehindDue yX2_takesBehindDue, Cond.code yX2_takesBehindDue cX2_takesBehindDue 4 (some .boolean)]
def wsL_law_r10 : List Cond := [Cond.methodLink RX4 89 yX0_appendAll, Cond.instanceMethod yX0_appendAll, Cond.selects RX0 yX0_appendAll yX0_appendAll, Cond.code yX0_appendAll cX0_appendAll 3 none, Cond.methodLink RX0 33 yX0_append, Cond.methodLink RL 27 yX5_read, Cond.instanceMethod yX5_read, Cond.selects RX5 yX5_read yX5_read, Cond.code yX5_read cX5_read 2 (some .int), Cond.fieldLink RX5 178 "PrintRacksModel" "read" "I", Cond.fieldLink RX5 144 "PrintRacksModel" "textLong" "I", Cond.methodLink RX5 189 yX5_fault, Cond.instanceMethod yX5_fault, Cond.selects RX5 yX5_fault yX5_fault, Cond.code yX5_fault cX5_fault 2 (some .int), Cond.fieldLink RX5 169 "PrintRacksModel" "spot" "I", Cond.methodLink RX5 185 yX5_readsJob, Cond.instanceMethod yX5_readsJob, Cond.selects RX5 yX5_readsJob yX5_readsJob, Cond.code yX5_readsJob cX5_readsJob 2 (some .boolean), Cond.methodLink RX5 181 yX5_readsNumber, Cond.instanceMethod yX5_readsNumber, Cond.selects RX5 yX5_readsNumber yX5_readsNumber, Cond.code yX5_readsNumber cX5_readsNumber 6 (some .boolean)]
def wsL_law_r11 : List Cond := [Cond.methodLink RX5 175 yX5_takesOne, Cond.instanceMethod yX5_takesOne, Cond.selects RX5 yX5_takesOne yX5_takesOne, Cond.code yX5_takesOne cX5_takesOne 3 (some .boolean), Cond.methodLink RX5 172 yX5_isHere, Cond.instanceMethod yX5_isHere, Cond.selects RX5 yX5_isHere yX5_isHere, Cond.code yX5_isHere cX5_isHere 3 (some .boolean), Cond.methodLink RL 28 yX4_drop, Cond.instanceMethod yX4_drop, Cond.selects RX4 yX4_drop yX4_drop, Cond.code yX4_drop cX4_drop 2 (some .int), Cond.methodLink RX4 95 yX4_isJob, Cond.instanceMethod yX4_isJob, Cond.selects RX4 yX4_isJob yX4_isJob, Cond.code yX4_isJob cX4_isJob 2 (some .boolean), Cond.methodLink RX4 99 yX0_remove, Cond.instanceMethod yX0_remove, Cond.selects RX0 yX0_remove yX0_remove, Cond.code yX0_remove cX0_remove 2 none, Cond.methodLink RX0 37 yX0_shift, Cond.instanceMethod yX0_shift, Cond.selects RX0 yX0_shift yX0_shift, Cond.code yX0_shift cX0_shift 9 none]
def wsL_law_r12 : List Cond := [Cond.methodLink RL 32 yX5_drop, Cond.instanceMethod yX5_drop, Cond.selects RX5 yX5_drop yX5_drop, Cond.code yX5_drop cX5_drop 3 (some .int), Cond.methodLink RX5 122 yX5_isJob, Cond.instanceMethod yX5_isJob, Cond.selects RX5 yX5_isJob yX5_isJob, Cond.code yX5_isJob cX5_isJob 2 (some .boolean), Cond.methodLink RX5 126 yX5_moves, Cond.instanceMethod yX5_moves, Cond.selects RX5 yX5_moves yX5_moves, Cond.code yX5_moves cX5_moves 5 none, Cond.methodLink RX5 56 yX5_exchanges, Cond.instanceMethod yX5_exchanges, Cond.selects RX5 yX5_exchanges yX5_exchanges, Cond.code yX5_exchanges cX5_exchanges 5 none, Cond.methodLink RL 33 yX4_move, Cond.instanceMethod yX4_move, Cond.selects RX4 yX4_move yX4_move, Cond.code yX4_move cX4_move 3 (some .int), Cond.methodLink RX4 103 yX0_shift, Cond.methodLink RX4 107 yX4_lateSumOf, Cond.instanceMethod yX4_lateSumOf, Cond.selects RX4 yX4_lateSumOf yX4_lateSumOf]
def wsL_law_r13 : List Cond := [Cond.code yX4_lateSumOf cX4_lateSumOf 2 (some .int), Cond.fieldLink RX4 163 "PrintRacks$Press" "lateSum" "I", Cond.methodLink RX4 115 yX3_print, Cond.instanceMethod yX3_print, Cond.selects RX3 yX3_print yX3_print, Cond.code yX3_print cX3_print 4 none, Cond.fieldLink RX3 39 "PrintRacks$Board" "jobs" "I", Cond.fieldLink RX3 45 "PrintRacks$Press" "jobs" "I", Cond.methodLink RX3 36 yX3_clear, Cond.instanceMethod yX3_clear, Cond.selects RX3 yX3_clear yX3_clear, Cond.code yX3_clear cX3_clear 1 none, Cond.fieldLink RX3 57 "PrintRacks$Press" "lateJobs" "I", Cond.fieldLink RX3 60 "PrintRacks$Press" "lateSum" "I", Cond.fieldLink RX3 63 "PrintRacks$Press" "mostLate" "I", Cond.fieldLink RX3 66 "PrintRacks$Press" "washSum" "I", Cond.fieldLink RX3 69 "PrintRacks$Press" "platesPutOn" "I", Cond.fieldLink RX3 72 "PrintRacks$Press" "waitSum" "I", Cond.fieldLink RX3 75 "PrintRacks$Press" "mostTaken" "I", Cond.fieldLink RX3 78 "PrintRacks$Press" "taken" "I", Cond.fieldLink RX3 81 "PrintRacks$Press" "oldestDrying" "I", Cond.methodLink RX3 46 yX3_makeReady, Cond.instanceMethod yX3_makeReady, Cond.selects RX3 yX3_makeReady yX3_makeReady]
def wsL_law_r14 : List Cond := [Cond.code yX3_makeReady cX3_makeReady 4 none, Cond.fieldLink RX3 84 "PrintRacks$Board" "fields" "[[I", Cond.fieldLink RX3 92 "PrintRacks$Board" "settings" "[I", Cond.methodLink RX3 88 yX3_washAhead, Cond.static yX3_washAhead, Cond.code yX3_washAhead cX3_washAhead 3 (some .int), Cond.methodLink RX3 50 yX3_printJob, Cond.instanceMethod yX3_printJob, Cond.selects RX3 yX3_printJob yX3_printJob, Cond.code yX3_printJob cX3_printJob 7 none, Cond.methodLink RX3 99 yX3_whenRacksAreFree, Cond.instanceMethod yX3_whenRacksAreFree, Cond.selects RX3 yX3_whenRacksAreFree yX3_whenRacksAreFree, Cond.code yX3_whenRacksAreFree cX3_whenRacksAreFree 5 (some .int), Cond.methodLink RX3 103 Lib.Math.max.name, Cond.methodLink RX3 54 yX3_dryJob, Cond.instanceMethod yX3_dryJob, Cond.selects RX3 yX3_dryJob yX3_dryJob, Cond.code yX3_dryJob cX3_dryJob 3 none, Cond.methodLink RL 36 yX5_move, Cond.instanceMethod yX5_move, Cond.selects RX5 yX5_move yX5_move, Cond.code yX5_move cX5_move 3 (some .int), Cond.methodLink RX5 129 yX5_lateAll]
def wsL_law_r15 : List Cond := [Cond.instanceMethod yX5_lateAll, Cond.selects RX5 yX5_lateAll yX5_lateAll, Cond.code yX5_lateAll cX5_lateAll 1 (some .int), Cond.methodLink RX5 87 yX5_prints, Cond.instanceMethod yX5_prints, Cond.selects RX5 yX5_prints yX5_prints, Cond.code yX5_prints cX5_prints 5 none, Cond.methodLink RX5 72 yX5_readyFor, Cond.instanceMethod yX5_readyFor, Cond.selects RX5 yX5_readyFor yX5_readyFor, Cond.code yX5_readyFor cX5_readyFor 2 (some .int), Cond.methodLink RX5 60 yX5_plateFor, Cond.instanceMethod yX5_plateFor, Cond.selects RX5 yX5_plateFor yX5_plateFor, Cond.code yX5_plateFor cX5_plateFor 2 (some .int), Cond.methodLink RX5 63 yX5_washFor, Cond.instanceMethod yX5_washFor, Cond.selects RX5 yX5_washFor yX5_washFor, Cond.code yX5_washFor cX5_washFor 3 (some .int), Cond.methodLink RX5 75 yX5_taken, Cond.instanceMethod yX5_taken, Cond.selects RX5 yX5_taken yX5_taken, Cond.code yX5_taken cX5_taken 5 (some .int), Cond.methodLink RX5 66 yX5_dry]
def wsL_law_r16 : List Cond := [Cond.instanceMethod yX5_dry, Cond.selects RX5 yX5_dry yX5_dry, Cond.code yX5_dry cX5_dry 2 (some .int), Cond.methodLink RX5 90 yX5_sumOf, Cond.instanceMethod yX5_sumOf, Cond.selects RX5 yX5_sumOf yX5_sumOf, Cond.code yX5_sumOf cX5_sumOf 4 (some .int), Cond.methodLink RX5 78 yX5_late, Cond.instanceMethod yX5_late, Cond.selects RX5 yX5_late yX5_late, Cond.code yX5_late cX5_late 3 (some .int), Cond.methodLink RX5 81 yX5_isOther, Cond.instanceMethod yX5_isOther, Cond.selects RX5 yX5_isOther yX5_isOther, Cond.code yX5_isOther cX5_isOther 2 (some .int), Cond.methodLink RX5 84 yX5_waits, Cond.instanceMethod yX5_waits, Cond.selects RX5 yX5_waits yX5_waits, Cond.code yX5_waits cX5_waits 2 (some .int), Cond.methodLink RL 37 yX4_due, Cond.instanceMethod yX4_due, Cond.selects RX4 yX4_due yX4_due, Cond.code yX4_due cX4_due 3 (some .int), Cond.fieldLink RX4 111 "PrintRacks$Board" "fields" "[[I"]
def wsL_law_r17 : List Cond := [Cond.fieldLink RX4 119 "PrintRacks$Press" "late" "[I", Cond.methodLink RL 40 yX5_due, Cond.instanceMethod yX5_due, Cond.selects RX5 yX5_due yX5_due, Cond.code yX5_due cX5_due 3 (some .int), Cond.methodLink RL 41 yX4_order, Cond.instanceMethod yX4_order, Cond.selects RX4 yX4_order yX4_order, Cond.code yX4_order cX4_order 3 (some .int), Cond.fieldLink RX4 122 "PrintRacks" "FIELD_OF_RULE" "[I", Cond.methodLink RX4 125 yX0_arrange, Cond.instanceMethod yX0_arrange, Cond.selects RX0 yX0_arrange yX0_arrange, Cond.code yX0_arrange cX0_arrange 7 (some .int), Cond.methodLink RX0 41 yX0_copyFrom, Cond.methodLink RX0 45 yX0_placeBy, Cond.instanceMethod yX0_placeBy, Cond.selects RX0 yX0_placeBy yX0_placeBy, Cond.code yX0_placeBy cX0_placeBy 6 (some .int), Cond.methodLink RX4 129 yX0_copyFrom, Cond.methodLink RL 44 yX5_order, Cond.instanceMethod yX5_order, Cond.selects RX5 yX5_order yX5_order, Cond.code yX5_order cX5_order 4 (some .int)]
def wsL_law_r18 : List Cond := [Cond.constantLong RX5 135 (3), Cond.methodLink RX5 137 yX5_orders, Cond.instanceMethod yX5_orders, Cond.selects RX5 yX5_orders yX5_orders, Cond.code yX5_orders cX5_orders 5 none, Cond.methodLink RX5 132 yX5_keyOf, Cond.static yX5_keyOf, Cond.code yX5_keyOf cX5_keyOf 1 (some .int), Cond.methodLink RL 45 yX4_jobOf, Cond.instanceMethod yX4_jobOf, Cond.selects RX4 yX4_jobOf yX4_jobOf, Cond.code yX4_jobOf cX4_jobOf 3 (some .int), Cond.fieldLink RX4 132 "PrintRacks$Press" "racks" "[I", Cond.fieldLink RX4 135 "PrintRacks$Press" "begins" "[I", Cond.fieldLink RX4 138 "PrintRacks$Press" "printed" "[I", Cond.fieldLink RX4 141 "PrintRacks$Press" "dry" "[I", Cond.fieldLink RX4 144 "PrintRacks$Press" "waits" "[I", Cond.fieldLink RX4 147 "PrintRacks$Press" "ready" "[I", Cond.fieldLink RX4 150 "PrintRacks$Press" "wash" "[I", Cond.methodLink RL 48 yX5_jobOf, Cond.instanceMethod yX5_jobOf, Cond.selects RX5 yX5_jobOf yX5_jobOf, Cond.code yX5_jobOf cX5_jobOf 3 (some .int), Cond.methodLink RL 49 yX4_count]
def wsL_law_r19 : List Cond := [Cond.instanceMethod yX4_count, Cond.selects RX4 yX4_count yX4_count, Cond.code yX4_count cX4_count 2 (some .int), Cond.fieldLink RX4 160 "PrintRacks$Press" "lateJobs" "I", Cond.fieldLink RX4 166 "PrintRacks$Press" "mostLate" "I", Cond.fieldLink RX4 169 "PrintRacks$Press" "washSum" "I", Cond.fieldLink RX4 172 "PrintRacks$Press" "platesPutOn" "I", Cond.fieldLink RX4 175 "PrintRacks$Press" "waitSum" "I", Cond.fieldLink RX4 178 "PrintRacks$Press" "mostTaken" "I", Cond.fieldLink RX4 181 "PrintRacks$History" "kept" "I", Cond.methodLink RX4 153 yX0_hundredsOfAll, Cond.instanceMethod yX0_hundredsOfAll, Cond.selects RX0 yX0_hundredsOfAll yX0_hundredsOfAll, Cond.code yX0_hundredsOfAll cX0_hundredsOfAll 3 (some .int), Cond.methodLink RX4 156 yX3_lastOf, Cond.instanceMethod yX3_lastOf, Cond.selects RX3 yX3_lastOf yX3_lastOf, Cond.code yX3_lastOf cX3_lastOf 2 (some .int), Cond.methodLink RL 52 yX5_count, Cond.instanceMethod yX5_count, Cond.selects RX5 yX5_count yX5_count, Cond.code yX5_count cX5_count 2 (some .int), Cond.constantLong RX5 147 (6), Cond.methodLink RX5 141 yX5_greatestOf]
def wsL_law_r20 : List Cond := [Cond.instanceMethod yX5_greatestOf, Cond.selects RX5 yX5_greatestOf yX5_greatestOf, Cond.code yX5_greatestOf cX5_greatestOf 5 (some .int), Cond.methodLink RL 53 yX4_at, Cond.instanceMethod yX4_at, Cond.selects RX4 yX4_at yX4_at, Cond.code yX4_at cX4_at 3 (some .int), Cond.constant RX4 184 (99999), Cond.methodLink RX4 185 yX3_jobOnPress, Cond.instanceMethod yX3_jobOnPress, Cond.selects RX3 yX3_jobOnPress yX3_jobOnPress, Cond.code yX3_jobOnPress cX3_jobOnPress 3 (some .int), Cond.methodLink RX4 188 yX3_racksTaken, Cond.instanceMethod yX3_racksTaken, Cond.selects RX3 yX3_racksTaken yX3_racksTaken, Cond.code yX3_racksTaken cX3_racksTaken 4 (some .int), Cond.methodLink RX4 191 yX3_reached, Cond.instanceMethod yX3_reached, Cond.selects RX3 yX3_reached yX3_reached, Cond.code yX3_reached cX3_reached 5 (some .int), Cond.methodLink RL 56 yX5_at, Cond.instanceMethod yX5_at, Cond.selects RX5 yX5_at yX5_at, Cond.code yX5_at cX5_at 5 (some .int)]
def wsL_law_r21 : List Cond := [Cond.constantLong RX5 149 (99999), Cond.methodLink RL 57 yX4_ifOrdered, Cond.instanceMethod yX4_ifOrdered, Cond.selects RX4 yX4_ifOrdered yX4_ifOrdered, Cond.code yX4_ifOrdered cX4_ifOrdered 3 (some .int), Cond.methodLink RL 60 yX5_ifOrdered, Cond.instanceMethod yX5_ifOrdered, Cond.selects RX5 yX5_ifOrdered yX5_ifOrdered, Cond.code yX5_ifOrdered cX5_ifOrdered 4 (some .int), Cond.methodLink RX5 151 yX5_keeps, Cond.instanceMethod yX5_keeps, Cond.selects RX5 yX5_keeps yX5_keeps, Cond.code yX5_keeps cX5_keeps 2 none, Cond.methodLink RX5 154 yX5_comesBack, Cond.instanceMethod yX5_comesBack, Cond.selects RX5 yX5_comesBack yX5_comesBack, Cond.code yX5_comesBack cX5_comesBack 2 none, Cond.methodLink RL 61 yX4_bestExchange, Cond.instanceMethod yX4_bestExchange, Cond.selects RX4 yX4_bestExchange yX4_bestExchange, Cond.code yX4_bestExchange cX4_bestExchange 8 (some .int), Cond.methodLink RX4 195 yX4_lateSumIfExchanged, Cond.instanceMethod yX4_lateSumIfExchanged, Cond.selects RX4 yX4_lateSumIfExchanged yX4_lateSumIfExchanged]
def wsL_law_r22 : List Cond := [Cond.code yX4_lateSumIfExchanged cX4_lateSumIfExchanged 4 (some .int), Cond.methodLink RX4 215 yX0_exchange, Cond.instanceMethod yX0_exchange, Cond.selects RX0 yX0_exchange yX0_exchange, Cond.code yX0_exchange cX0_exchange 8 none, Cond.methodLink RL 64 yX5_bestExchange, Cond.instanceMethod yX5_bestExchange, Cond.selects RX5 yX5_bestExchange yX5_bestExchange, Cond.code yX5_bestExchange cX5_bestExchange 9 (some .int), Cond.constantLong RX5 157 (2), Cond.methodLink RL 65 yX4_bestFirst, Cond.instanceMethod yX4_bestFirst, Cond.selects RX4 yX4_bestFirst yX4_bestFirst, Cond.code yX4_bestFirst cX4_bestFirst 5 (some .int), Cond.methodLink RX4 198 yX4_lateSumIfFirst, Cond.instanceMethod yX4_lateSumIfFirst, Cond.selects RX4 yX4_lateSumIfFirst yX4_lateSumIfFirst, Cond.code yX4_lateSumIfFirst cX4_lateSumIfFirst 3 (some .int), Cond.methodLink RL 68 yX5_bestFirst, Cond.instanceMethod yX5_bestFirst, Cond.selects RX5 yX5_bestFirst yX5_bestFirst, Cond.code yX5_bestFirst cX5_bestFirst 6 (some .int), Cond.methodLink RL 69 yX4_leastRacks, Cond.instanceMethod yX4_leastRacks]
def wsL_law_r23 : List Cond := [Cond.selects RX4 yX4_leastRacks yX4_leastRacks, Cond.code yX4_leastRacks cX4_leastRacks 4 (some .int), Cond.methodLink RX4 201 Lib.Math.max.name, Cond.methodLink RL 72 yX5_leastRacks, Cond.instanceMethod yX5_leastRacks, Cond.selects RX5 yX5_leastRacks yX5_leastRacks, Cond.code yX5_leastRacks cX5_leastRacks 4 (some .int), Cond.methodLink RL 75 yX4_put, Cond.instanceMethod yX4_put, Cond.selects RX4 yX4_put yX4_put, Cond.code yX4_put cX4_put 5 (some .int), Cond.methodLink RX4 206 yX4_charactersIn, Cond.static yX4_charactersIn, Cond.code yX4_charactersIn cX4_charactersIn 5 (some .int), Cond.constantLong RX4 218 (255), Cond.methodLink RX4 210 yX2_append, Cond.instanceMethod yX2_append, Cond.selects RX2 yX2_append yX2_append, Cond.code yX2_append cX2_append 2 none, Cond.methodLink RL 79 yX5_put, Cond.instanceMethod yX5_put, Cond.selects RX5 yX5_put yX5_put, Cond.code yX5_put cX5_put 5 (some .int), Cond.constantLong RX5 159 (255)]
def wsL_law_r24 : List Cond := [Cond.methodLink RX5 165 yX5_charactersOf, Cond.static yX5_charactersOf, Cond.code yX5_charactersOf cX5_charactersOf 5 (some .int), Cond.constantLong RX5 161 (33), Cond.constantLong RX5 163 (126), Cond.methodLink RL 80 yX4_wipe, Cond.instanceMethod yX4_wipe, Cond.selects RX4 yX4_wipe yX4_wipe, Cond.code yX4_wipe cX4_wipe 2 (some .int), Cond.methodLink RL 83 yX5_wipe, Cond.instanceMethod yX5_wipe, Cond.selects RX5 yX5_wipe yX5_wipe, Cond.code yX5_wipe cX5_wipe 2 (some .int), Cond.methodLink RL 84 yX4_fault, Cond.instanceMethod yX4_fault, Cond.selects RX4 yX4_fault yX4_fault, Cond.code yX4_fault cX4_fault 1 (some .int), Cond.methodLink RL 87 yX5_fault, Cond.methodLink RL 88 yX4_undo, Cond.instanceMethod yX4_undo, Cond.selects RX4 yX4_undo yX4_undo, Cond.code yX4_undo cX4_undo 1 (some .int), Cond.methodLink RX4 212 yX1_takeBack, Cond.instanceMethod yX1_takeBack]
def wsL_law_r25 : List Cond := [Cond.selects RX1 yX1_takeBack yX1_takeBack, Cond.code yX1_takeBack cX1_takeBack 2 none, Cond.methodLink RL 91 yX5_undo, Cond.instanceMethod yX5_undo, Cond.selects RX5 yX5_undo yX5_undo, Cond.code yX5_undo cX5_undo 2 (some .int), Cond.methodLink RL 92 yX4_save, Cond.instanceMethod yX4_save, Cond.selects RX4 yX4_save yX4_save, Cond.code yX4_save cX4_save 2 (some .int), Cond.methodLink RL 95 yX5_save, Cond.instanceMethod yX5_save, Cond.selects RX5 yX5_save yX5_save, Cond.code yX5_save cX5_save 3 (some .int), Cond.methodLink RX5 192 yX5_isSlot, Cond.static yX5_isSlot, Cond.code yX5_isSlot cX5_isSlot 1 (some .boolean), Cond.methodLink RL 96 yX4_restore, Cond.instanceMethod yX4_restore, Cond.selects RX4 yX4_restore yX4_restore, Cond.code yX4_restore cX4_restore 2 (some .int), Cond.methodLink RL 99 yX5_restore, Cond.instanceMethod yX5_restore, Cond.selects RX5 yX5_restore yX5_restore]
def wsL_law_r26 : List Cond := [Cond.code yX5_restore cX5_restore 3 (some .int)]
def wsL_law : List Cond := (wsL_law_r1 ++ (wsL_law_r2 ++ (wsL_law_r3 ++ (wsL_law_r4 ++ (wsL_law_r5 ++ (wsL_law_r6 ++ (wsL_law_r7 ++ (wsL_law_r8 ++ (wsL_law_r9 ++ (wsL_law_r10 ++ (wsL_law_r11 ++ (wsL_law_r12 ++ (wsL_law_r13 ++ (wsL_law_r14 ++ (wsL_law_r15 ++ (wsL_law_r16 ++ (wsL_law_r17 ++ (wsL_law_r18 ++ (wsL_law_r19 ++ (wsL_law_r20 ++ (wsL_law_r21 ++ (wsL_law_r22 ++ (wsL_law_r23 ++ (wsL_law_r24 ++ (wsL_law_r25 ++ wsL_law_r26))))))))))))))))))))))))) ++ wsX40 ++ wsX50 ++ wsX00 ++ wsX30 ++ wsX20 ++ wsX10 ++ ([] : List Cond)
set_option maxRecDepth 20000 in
abbrev vwCl : List vw_C := [(RX0, TX0, 3), (RX1, TX1, 3), (RX2, TX2, 8), (RX3, TX3, 18), (RX4, TX4, 7), (RX5, TX5, 14)]
end
section
/-! ZL: worlds in chunks. A world is a list of chunks (lists of cells); Z K n k cs lv pc st: from the frame at pc, with locals lv, operand stack st and the world cs, the machine comes to K's end. -/
abbrev zG : Type := va_G × (Nat → ClassId)
abbrev zK : Type := (Program × Launch × Env × Room × State × MethodId × Array Value × List Frame × Method × Code) × (State → Prop) × zG × (Nat → Prop) × Nat
abbrev zK.p (K : zK) : Program := K.1.1
abbrev zK.l (K : zK) : Launch := K.1.2.1
abbrev zK.e (K : zK) : Env := K.1.2.2.1
abbrev zK.R (K : zK) : Room := K.1.2.2.2.1
abbrev zK.s (K : zK) : State := K.1.2.2.2.2.1
abbrev zK.m (K : zK) : MethodId := K.1.2.2.2.2.2.1
abbrev zK.args (K : zK) : Array Value := K.1.2.2.2.2.2.2.1
abbrev zK.below (K : zK) : List Frame := K.1.2.2.2.2.2.2.2.1
abbrev zK.meth (K : zK) : Method := K.1.2.2.2.2.2.2.2.2.1
abbrev zK.c (K : zK) : Code := K.1.2.2.2.2.2.2.2.2.2
abbrev zK.Q (K : zK) : State → Prop := K.2.1
abbrev zK.g (K : zK) : zG := K.2.2.1
abbrev zK.A (K : zK) : Nat → Prop := K.2.2.2.1
abbrev zK.nL (K : zK) : Nat := K.2.2.2.2
abbrev zT (g : zG) : List (ClassId × FieldType) := [(g.2 0, .int), (g.2 1, .array .int), (g.2 2, .object "PrintRacks$Board"), (g.2 3, .boolean)]
def Z (K : zK) (n k : Nat) (cs : List va_W) (lv : List (Nat × Value)) (pc : Nat) (st : List Value) : Prop :=
  ∀ (H : Heap) (locs : List Loc) (ls : Array Slot), va_P K.g.1 vwCl cs.flatten H → va_D K.A cs.flatten → va_S K.A K.s.heap H locs → lv_has ls K.nL lv →
    W K.p K.l K.e K.R K.s K.m K.args K.below K.meth K.c H locs n k K.Q (F0 K.m pc ls st)
/-- the words on nest mates, which no method's own list bears -/
def zN (U : State) : Prop := va_Nw (.methodLinkNest RX0 49 yX4_racksFor RX4) U ∧ va_Nw (.methodLinkNest RX2 39 yX4_within RX4) U ∧ va_Nw (.methodLinkNest RX3 95 yX4_racksFor RX4) U ∧ va_Nw (.methodLinkNest RX4 21 yX3_init RX4) U ∧ va_Nw (.methodLinkNest RX4 28 yX2_init RX4) U ∧ va_Nw (.fieldLinkNest RX0 15 RX4 "FIRST_SETTING" "[I" RX4) U
theorem zN.warm {s U : State} (hW : s.WarmedH U.vm) (h : zN s) : zN U := ⟨h.1.warmM hW, h.2.1.warmM hW, h.2.2.1.warmM hW, h.2.2.2.1.warmM hW, h.2.2.2.2.1.warmM hW, h.2.2.2.2.2.warmF hW⟩
theorem zN.same {u U : State} (e : u.vm = U.vm) (h : zN u) : zN U := ⟨h.1.same rfl e, h.2.1.same rfl e, h.2.2.1.same rfl e, h.2.2.2.1.same rfl e, h.2.2.2.2.1.same rfl e, h.2.2.2.2.2.same rfl e⟩
def zKp (g : zG) (U : State) : Prop := va_K g.1 vwCl (zT g) U ∧ zN U
theorem zKp.warm {g : zG} {s U : State} (hW : s.WarmedH U.vm) (h : zKp g s) : zKp g U := ⟨va_K.moved hW.alike h.1, h.2.warm hW⟩
theorem zKp.same {g : zG} {u U : State} (e : u.vm = U.vm) (h : zKp g u) : zKp g U := ⟨va_K.moved (by rw [e]; exact Vm.Alike.refl U.vm) h.1, h.2.same e⟩
def Cx (K : zK) (R0 : Room) (own : String) (cc : ByteArray) (Ts : List Cond) : Prop :=
  CallFix K.p K.m K.c cc K.nL K.s K.args Ts own ∧ zKp K.g K.s ∧ K.R = R0
/-- the flat place of a chunk's first cell -/
def zo : List va_W → Nat → Nat
  | [], _ => 0
  | _ :: _, 0 => 0
  | c :: cs, i + 1 => c.length + zo cs i
theorem zfl_get : ∀ {cs : List va_W} {i k : Nat} {c : va_W} {x : Nat × va_E}, cs[i]? = some c → c[k]? = some x → cs.flatten[zo cs i + k]? = some x
  | [], _, _, _, _, h, _ => by simp at h
  | d :: cs, 0, k, c, x, h, hk => by
    rw [List.getElem?_cons_zero] at h
    cases h
    show (d ++ cs.flatten)[0 + k]? = _
    rw [Nat.zero_add, List.getElem?_append_left (List.getElem?_eq_some_iff.mp hk).1]
    exact hk
  | d :: cs, i + 1, k, c, x, h, hk => by
    rw [List.getElem?_cons_succ] at h
    show (d ++ cs.flatten)[d.length + zo cs i + k]? = _
    rw [Nat.add_assoc, List.getElem?_append_right (Nat.le_add_right _ _), Nat.add_sub_cancel_left]
    exact zfl_get h hk
theorem zfl_inv : ∀ {cs : List va_W} {q : Nat} {x : Nat × va_E}, cs.flatten[q]? = some x → ∃ (i k : Nat) (c : va_W), cs[i]? = some c ∧ c[k]? = some x ∧ q = zo cs i + k
  | [], _, _, h => by simp at h
  | d :: cs, q, x, h => by
    have h : (d ++ cs.flatten)[q]? = some x := h
    by_cases hl : q < d.length
    · rw [List.getElem?_append_left hl] at h
      exact ⟨0, q, d, rfl, h, (Nat.zero_add q).symm⟩
    · rw [List.getElem?_append_right (by omega)] at h
      obtain ⟨i, k, c, h1, h2, h3⟩ := zfl_inv h
      exact ⟨i + 1, k, c, by rw [List.getElem?_cons_succ]; exact h1, h2, by show q = d.length + zo cs i + k; omega⟩
theorem zfl_un : ∀ {cs : List va_W} {i j k l : Nat} {c d : va_W}, cs[i]? = some c → cs[j]? = some d → k < c.length → l < d.length → zo cs i + k = zo cs j + l → i = j ∧ k = l
  | [], _, _, _, _, _, _, h, _, _, _, _ => by simp at h
  | e :: cs, 0, 0, k, l, c, d, _, _, _, _, he => by
    have he : 0 + k = 0 + l := he
    exact ⟨rfl, by omega⟩
  | e :: cs, 0, j + 1, k, l, c, d, h, _, hk, _, he => by
    rw [List.getElem?_cons_zero] at h
    cases h
    have he : 0 + k = e.length + zo cs j + l := he
    omega
  | e :: cs, i + 1, 0, k, l, c, d, _, h, _, hl, he => by
    rw [List.getElem?_cons_zero] at h
    cases h
    have he : e.length + zo cs i + k = 0 + l := he
    omega
  | e :: cs, i + 1, j + 1, k, l, c, d, h1, h2, hk, hl, he => by
    rw [List.getElem?_cons_succ] at h1 h2
    have he : e.length + zo cs i + k = e.length + zo cs j + l := he
    obtain ⟨a, b⟩ := zfl_un h1 h2 hk hl (by omega)
    exact ⟨by rw [a], b⟩
theorem zfl_set : ∀ {cs : List va_W} {i k : Nat} {c : va_W} (x : Nat × va_E), cs[i]? = some c → k < c.length → (cs.set i (c.set k x)).flatten = cs.flatten.set (zo cs i + k) x
  | [], _, _, _, _, h, _ => by simp at h
  | d :: cs, 0, k, c, x, h, hk => by
    rw [List.getElem?_cons_zero] at h
    cases h
    show (d.set k x ++ cs.flatten) = (d ++ cs.flatten).set (0 + k) x
    rw [Nat.zero_add, List.set_append, if_pos hk]
  | d :: cs, i + 1, k, c, x, h, hk => by
    rw [List.getElem?_cons_succ] at h
    show (d ++ (cs.set i (c.set k x)).flatten) = (d ++ cs.flatten).set (d.length + zo cs i + k) x
    rw [List.set_append, if_neg (by omega), zfl_set x h hk]
    congr 2
    omega
theorem zat {α : Type} {cs cs' : List α} {is : List Nat} (hs : is.map (fun i => cs[i]?) = cs'.map some) {k : Nat} {c : α} (h : cs'[k]? = some c) : ∃ i : Nat, is[k]? = some i ∧ cs[i]? = some c := by
  have h1 : (is.map (fun i => cs[i]?))[k]? = some (some c) := by rw [hs, List.getElem?_map, h]; rfl
  rw [List.getElem?_map] at h1
  cases hi : is[k]? with
  | none => rw [hi] at h1; cases h1
  | some i => rw [hi] at h1; exact ⟨i, rfl, Option.some.inj h1⟩
theorem zlen {c : va_W} {k : Nat} {x : Nat × va_E} (h : c[k]? = some x) : k < c.length := (List.getElem?_eq_some_iff.mp h).1
theorem zsubP {D : va_G} {cl : List vw_C} {H : Heap} {cs cs' : List va_W} (h : va_P D cl cs.flatten H) (is : List Nat) (hs : is.map (fun i => cs[i]?) = cs'.map some) : va_P D cl cs'.flatten H := by
  intro q x hq
  obtain ⟨i, k, c, h1, h2, -⟩ := zfl_inv hq
  obtain ⟨i0, -, h3⟩ := zat hs h1
  exact h _ x (zfl_get h3 h2)
theorem zsubD {A : Nat → Prop} {cs cs' : List va_W} (h : va_D A cs.flatten) (is : List Nat) (hn : va_nd is = true) (hs : is.map (fun i => cs[i]?) = cs'.map some) : va_D A cs'.flatten := by
  refine ⟨fun a b x y ha hb hxy => ?_, fun q x hq => ?_⟩
  · obtain ⟨i, k, c, h1, h2, h3⟩ := zfl_inv ha
    obtain ⟨j, l, d, g1, g2, g3⟩ := zfl_inv hb
    obtain ⟨i0, e1, e2⟩ := zat hs h1
    obtain ⟨j0, f1, f2⟩ := zat hs g1
    obtain ⟨u1, u2⟩ := zfl_un e2 f2 (zlen h2) (zlen g2) (h.1 _ _ x y (zfl_get e2 h2) (zfl_get f2 g2) hxy)
    subst u1
    have hij := va_nd_inj is hn i j i0 e1 f1
    subst hij
    rw [h3, g3, u2]
  · obtain ⟨i, k, c, h1, h2, -⟩ := zfl_inv hq
    obtain ⟨i0, -, h3⟩ := zat hs h1
    exact h.2 _ x (zfl_get h3 h2)
/-- the addresses of a world -/
def zA (cs : List va_W) : Nat → Prop := fun q => ∃ (k : Nat) (e : va_E), cs.flatten[k]? = some (q, e)
theorem zA_in {cs : List va_W} {k : Nat} {x : Nat × va_E} (h : cs.flatten[k]? = some x) : zA cs x.1 := ⟨k, x.2, h⟩
theorem zA_sub {A0 : Nat → Prop} {cs wc : List va_W} (hD : va_D A0 cs.flatten) (isC : List Nat) (hC : isC.map (fun i => cs[i]?) = wc.map some) : ∀ q, zA wc q → A0 q := by
  intro q ⟨k, e, h⟩
  obtain ⟨i, j, c, h1, h2, -⟩ := zfl_inv h
  obtain ⟨i0, -, h3⟩ := zat hC h1
  exact hD.2 _ (q, e) (zfl_get h3 h2)
theorem zjoin {A0 : Nat → Prop} {D : va_G} {cl : List vw_C} {cs wc nw cs2 : List va_W} {H H1 : Heap} (hP : va_P D cl cs.flatten H) (hD : va_D A0 cs.flatten) (isC : List Nat) (hC : isC.map (fun i => cs[i]?) = wc.map some)
    (src : List Nat) (hs : src.map (fun i => (cs ++ nw)[i]?) = cs2.map some) (hn : va_nd src = true) (hdis : ∀ x ∈ src, x ∉ isC) (hlc : ∀ x ∈ isC, x < cs.length)
    (hk : ∀ q : Nat, q < H.size → ¬ zA wc q → H1[q]? = H[q]?) (hP1 : va_P D cl nw.flatten H1) (hD1 : va_D (zA wc) nw.flatten) : va_P D cl cs2.flatten H1 ∧ va_D A0 cs2.flatten := by
  have split : ∀ {i k : Nat} {c : va_W} {x : Nat × va_E}, cs2[i]? = some c → c[k]? = some x → (∃ j : Nat, src[i]? = some j ∧ cs[j]? = some c ∧ j ∉ isC) ∨ (∃ j : Nat, src[i]? = some (cs.length + j) ∧ nw[j]? = some c) := by
    intro i k c x h1 _
    obtain ⟨j, e1, e2⟩ := zat hs h1
    by_cases hl : j < cs.length
    · rw [List.getElem?_append_left hl] at e2
      exact Or.inl ⟨j, e1, e2, hdis j (List.mem_of_getElem? e1)⟩
    · rw [List.getElem?_append_right (by omega)] at e2
      exact Or.inr ⟨j - cs.length, by rw [e1]; congr 1; omega, e2⟩
  have apart : ∀ {j k : Nat} {c : va_W} {x : Nat × va_E}, cs[j]? = some c → j ∉ isC → c[k]? = some x → ¬ zA wc x.1 := by
    intro j k c x h1 hj h2 ⟨l, e, h3⟩
    obtain ⟨t, u, d, g1, g2, -⟩ := zfl_inv h3
    obtain ⟨i0, f1, f2⟩ := zat hC g1
    obtain ⟨u1, -⟩ := zfl_un h1 f2 (zlen h2) (zlen g2) (hD.1 _ _ x (x.1, e) (zfl_get h1 h2) (zfl_get f2 g2) rfl)
    subst u1
    exact hj (List.mem_of_getElem? f1)
  refine ⟨fun q x hq => ?_, fun a b x y ha hb hxy => ?_, fun q x hq => ?_⟩
  · obtain ⟨i, k, c, h1, h2, -⟩ := zfl_inv hq
    rcases split h1 h2 with ⟨j, -, e2, e3⟩ | ⟨j, -, e2⟩
    · have h5 := hP _ x (zfl_get e2 h2)
      exact h5.kept (hk _ h5.lt (apart e2 e3 h2))
    · exact hP1 _ x (zfl_get e2 h2)
  · obtain ⟨i, k, c, h1, h2, h3⟩ := zfl_inv ha
    obtain ⟨j, l, d, g1, g2, g3⟩ := zfl_inv hb
    rcases split h1 h2 with ⟨i0, e1, e2, e3⟩ | ⟨i0, e1, e2⟩ <;> rcases split g1 g2 with ⟨j0, f1, f2, f3⟩ | ⟨j0, f1, f2⟩
    · obtain ⟨u1, u2⟩ := zfl_un e2 f2 (zlen h2) (zlen g2) (hD.1 _ _ x y (zfl_get e2 h2) (zfl_get f2 g2) hxy)
      subst u1
      have hij := va_nd_inj src hn i j i0 e1 f1
      subst hij
      rw [h3, g3, u2]
    · exact absurd (by rw [hxy]; exact hD1.2 _ y (zfl_get f2 g2)) (apart e2 e3 h2)
    · exact absurd (by rw [← hxy]; exact hD1.2 _ x (zfl_get e2 h2)) (apart f2 f3 g2)
    · obtain ⟨u1, u2⟩ := zfl_un e2 f2 (zlen h2) (zlen g2) (hD1.1 _ _ x y (zfl_get e2 h2) (zfl_get f2 g2) hxy)
      subst u1
      have hij := va_nd_inj src hn i j _ e1 f1
      subst hij
      rw [h3, g3, u2]
  · obtain ⟨i, k, c, h1, h2, -⟩ := zfl_inv hq
    rcases split h1 h2 with ⟨j, -, e2, -⟩ | ⟨j, -, e2⟩
    · exact hD.2 _ x (zfl_get e2 h2)
    · exact zA_sub hD isC hC _ (hD1.2 _ x (zfl_get e2 h2))
end
section
/-! ZR: rows over Z, an instruction a row; numbers that are never negative as nI of a Nat. -/
section ZR
variable {K : zK} {R0 : Room} {own : String} {cc : ByteArray} {Ts : List Cond} {n k : Nat} {cs : List va_W} {lv : List (Nat × Value)} {pc : Nat} {st : List Value}
theorem Cx.x (C : Cx K R0 own cc Ts) : K.p.tables.exec = Jvm.exec := C.1.1
theorem Cx.b (C : Cx K R0 own cc Ts) : K.c.code = cc := C.1.2.1
theorem Cx.ml (C : Cx K R0 own cc Ts) : K.c.maxLocals = K.nL := C.1.2.2.1
theorem Cx.ow (C : Cx K R0 own cc Ts) : K.s.vm.findClass own = some K.m.cls := C.1.2.2.2.1
theorem Cx.ts (C : Cx K R0 own cc Ts) : ∀ w ∈ Ts, w.before K.args K.s = true := C.1.2.2.2.2
theorem Cx.kp (C : Cx K R0 own cc Ts) : zKp K.g K.s := C.2.1
theorem Cx.ka (C : Cx K R0 own cc Ts) : va_K K.g.1 vwCl (zT K.g) K.s := C.2.1.1
theorem Cx.r (C : Cx K R0 own cc Ts) : K.R = R0 := C.2.2
theorem z_iconst (C : Cx K R0 own cc Ts) {z : Int} {v : Int32} (hv : Int32.ofInt z = v) (hd : decode cc pc = .ok (.iconst z, 1)) (q : Nat) (hq : pc + 1 = q) (kk : Z K n k cs lv q (.int v :: st)) : Z K n k cs lv pc (st) := by
  subst hq
  exact fun H locs ls hP hD hS hl => lv_iconst C.x C.b hd hv (kk H locs ls hP hD hS hl)
theorem z_bipush (C : Cx K R0 own cc Ts) {z : Int} {v : Int32} (hv : (Int8.ofInt z).toInt32 = v) (hd : decode cc pc = .ok (.bipush z, 2)) (q : Nat) (hq : pc + 2 = q) (kk : Z K n k cs lv q (.int v :: st)) : Z K n k cs lv pc (st) := by
  subst hq
  exact fun H locs ls hP hD hS hl => lv_bipush C.x C.b hd hv (kk H locs ls hP hD hS hl)
theorem z_sipush (C : Cx K R0 own cc Ts) {z : Int} {v : Int32} (hv : (Int16.ofInt z).toInt32 = v) (hd : decode cc pc = .ok (.sipush z, 3)) (q : Nat) (hq : pc + 3 = q) (kk : Z K n k cs lv q (.int v :: st)) : Z K n k cs lv pc (st) := by
  subst hq
  exact fun H locs ls hP hD hS hl => lv_sipush C.x C.b hd hv (kk H locs ls hP hD hS hl)
theorem z_lconst (C : Cx K R0 own cc Ts) {z : Fin 2} {v : Int64} (hv : Int64.ofNat (z : Nat) = v) (hd : decode cc pc = .ok (.lconst z, 1)) (q : Nat) (hq : pc + 1 = q) (kk : Z K n k cs lv q (.long v :: st)) : Z K n k cs lv pc (st) := by
  subst hq
  exact fun H locs ls hP hD hS hl => lv_lconst C.x C.b hd hv (kk H locs ls hP hD hS hl)
theorem z_ldc (C : Cx K R0 own cc Ts) {index : Nat} {v : Int32} (hw : Cond.constant own index v ∈ Ts) (hd : decode cc pc = .ok (.ldc index, 2)) (q : Nat) (hq : pc + 2 = q) (kk : Z K n k cs lv q (.int v :: st)) : Z K n k cs lv pc (st) := by
  subst hq
  exact fun H locs ls hP hD hS hl => lv_ldc C.x C.b C.ow (C.ts _ hw) hd (kk H locs ls hP hD hS hl)
theorem z_ldc2 (C : Cx K R0 own cc Ts) {index : Nat} {v : Int64} (hw : Cond.constantLong own index v ∈ Ts) (hd : decode cc pc = .ok (.ldc2_w index, 3)) (q : Nat) (hq : pc + 3 = q) (kk : Z K n k cs lv q (.long v :: st)) : Z K n k cs lv pc (st) := by
  subst hq
  exact fun H locs ls hP hD hS hl => lv_ldc2 C.x C.b C.ow (C.ts _ hw) hd (kk H locs ls hP hD hS hl)
theorem z_iload_n (C : Cx K R0 own cc Ts) {z : Fin 4} {i : Nat} {x : Int32} (j : Nat) (hl0 : lv[j]? = some (i, .int x)) (hi : (z : Nat) = i) (hd : decode cc pc = .ok (.iload_n z, 1)) (q : Nat) (hq : pc + 1 = q) (kk : Z K n k cs lv q (.int x :: st)) : Z K n k cs lv pc (st) := by
  subst hq
  exact fun H locs ls hP hD hS hl => lv_iload_n C.x C.b hd hi (lv_at hl j hl0) (kk H locs ls hP hD hS hl)
theorem z_iload (C : Cx K R0 own cc Ts) {i : Nat} {x : Int32} (j : Nat) (hl0 : lv[j]? = some (i, .int x)) (hd : decode cc pc = .ok (.iload i, 2)) (q : Nat) (hq : pc + 2 = q) (kk : Z K n k cs lv q (.int x :: st)) : Z K n k cs lv pc (st) := by
  subst hq
  exact fun H locs ls hP hD hS hl => lv_iload C.x C.b hd (lv_at hl j hl0) (kk H locs ls hP hD hS hl)
theorem z_aload_n (C : Cx K R0 own cc Ts) {z : Fin 4} {i : Nat} {x : Nat} (j : Nat) (hl0 : lv[j]? = some (i, .ref x)) (hi : (z : Nat) = i) (hd : decode cc pc = .ok (.aload_n z, 1)) (q : Nat) (hq : pc + 1 = q) (kk : Z K n k cs lv q (.ref x :: st)) : Z K n k cs lv pc (st) := by
  subst hq
  exact fun H locs ls hP hD hS hl => lv_aload_n C.x C.b hd hi (lv_at hl j hl0) (kk H locs ls hP hD hS hl)
theorem z_aload (C : Cx K R0 own cc Ts) {i : Nat} {x : Nat} (j : Nat) (hl0 : lv[j]? = some (i, .ref x)) (hd : decode cc pc = .ok (.aload i, 2)) (q : Nat) (hq : pc + 2 = q) (kk : Z K n k cs lv q (.ref x :: st)) : Z K n k cs lv pc (st) := by
  subst hq
  exact fun H locs ls hP hD hS hl => lv_aload C.x C.b hd (lv_at hl j hl0) (kk H locs ls hP hD hS hl)
theorem z_lload_n (C : Cx K R0 own cc Ts) {z : Fin 4} {i : Nat} {x : Int64} (j : Nat) (hl0 : lv[j]? = some (i, .long x)) (hi : (z : Nat) = i) (hd : decode cc pc = .ok (.lload_n z, 1)) (q : Nat) (hq : pc + 1 = q) (kk : Z K n k cs lv q (.long x :: st)) : Z K n k cs lv pc (st) := by
  subst hq
  exact fun H locs ls hP hD hS hl => lv_lload_n C.x C.b hd hi (lv_at hl j hl0) (kk H locs ls hP hD hS hl)
theorem z_lload (C : Cx K R0 own cc Ts) {i : Nat} {x : Int64} (j : Nat) (hl0 : lv[j]? = some (i, .long x)) (hd : decode cc pc = .ok (.lload i, 2)) (q : Nat) (hq : pc + 2 = q) (kk : Z K n k cs lv q (.long x :: st)) : Z K n k cs lv pc (st) := by
  subst hq
  exact fun H locs ls hP hD hS hl => lv_lload C.x C.b hd (lv_at hl j hl0) (kk H locs ls hP hD hS hl)
theorem z_istore_n (C : Cx K R0 own cc Ts) {z : Fin 4} {i N : Nat} {x : Int32} (hN : K.nL = N) (ks : List Nat) (lv2 : List (Nat × Value)) (hl2 : lv_pick ((i, Value.int x) :: lv.filter (fun q => !(q.1 == i) && !(q.1 + 1 == i && q.2.category == 2))) ks = lv2) (hi : (z : Nat) = i) (hn : i < N) (hd : decode cc pc = .ok (.istore_n z, 1)) (q : Nat) (hq : pc + 1 = q) (kk : Z K n k cs lv2 q st) : Z K n k cs lv pc (.int x :: st) := by
  subst hq
  subst hN
  exact fun H locs ls hP hD hS hl => lv_istore_n C.x C.b hd hi hl hn rfl (fun ls2 hl3 => kk H locs ls2 hP hD hS (lv_sub hl3 ks hl2))
theorem z_istore (C : Cx K R0 own cc Ts) {i N : Nat} {x : Int32} (hN : K.nL = N) (ks : List Nat) (lv2 : List (Nat × Value)) (hl2 : lv_pick ((i, Value.int x) :: lv.filter (fun q => !(q.1 == i) && !(q.1 + 1 == i && q.2.category == 2))) ks = lv2) (hn : i < N) (hd : decode cc pc = .ok (.istore i, 2)) (q : Nat) (hq : pc + 2 = q) (kk : Z K n k cs lv2 q st) : Z K n k cs lv pc (.int x :: st) := by
  subst hq
  subst hN
  exact fun H locs ls hP hD hS hl => lv_istore C.x C.b hd hl hn rfl (fun ls2 hl3 => kk H locs ls2 hP hD hS (lv_sub hl3 ks hl2))
theorem z_astore_n (C : Cx K R0 own cc Ts) {z : Fin 4} {i N : Nat} {x : Nat} (hN : K.nL = N) (ks : List Nat) (lv2 : List (Nat × Value)) (hl2 : lv_pick ((i, Value.ref x) :: lv.filter (fun q => !(q.1 == i) && !(q.1 + 1 == i && q.2.category == 2))) ks = lv2) (hi : (z : Nat) = i) (hn : i < N) (hd : decode cc pc = .ok (.astore_n z, 1)) (q : Nat) (hq : pc + 1 = q) (kk : Z K n k cs lv2 q st) : Z K n k cs lv pc (.ref x :: st) := by
  subst hq
  subst hN
  exact fun H locs ls hP hD hS hl => lv_astore_n C.x C.b hd hi hl hn rfl (fun ls2 hl3 => kk H locs ls2 hP hD hS (lv_sub hl3 ks hl2))
theorem z_astore (C : Cx K R0 own cc Ts) {i N : Nat} {x : Nat} (hN : K.nL = N) (ks : List Nat) (lv2 : List (Nat × Value)) (hl2 : lv_pick ((i, Value.ref x) :: lv.filter (fun q => !(q.1 == i) && !(q.1 + 1 == i && q.2.category == 2))) ks = lv2) (hn : i < N) (hd : decode cc pc = .ok (.astore i, 2)) (q : Nat) (hq : pc + 2 = q) (kk : Z K n k cs lv2 q st) : Z K n k cs lv pc (.ref x :: st) := by
  subst hq
  subst hN
  exact fun H locs ls hP hD hS hl => lv_astore C.x C.b hd hl hn rfl (fun ls2 hl3 => kk H locs ls2 hP hD hS (lv_sub hl3 ks hl2))
theorem z_lstore_n (C : Cx K R0 own cc Ts) {z : Fin 4} {i N : Nat} {x : Int64} (hN : K.nL = N) (ks : List Nat) (lv2 : List (Nat × Value)) (hl2 : lv_pick ((i, Value.long x) :: lv.filter (fun q => !(q.1 == i) && (!(q.1 == i + 1) && !(q.1 + 1 == i && q.2.category == 2)))) ks = lv2) (hi : (z : Nat) = i) (hn : i + 1 < N) (hd : decode cc pc = .ok (.lstore_n z, 1)) (q : Nat) (hq : pc + 1 = q) (kk : Z K n k cs lv2 q st) : Z K n k cs lv pc (.long x :: st) := by
  subst hq
  subst hN
  exact fun H locs ls hP hD hS hl => lv_lstore_n C.x C.b hd hi hl hn rfl (fun ls2 hl3 => kk H locs ls2 hP hD hS (lv_sub hl3 ks hl2))
theorem z_lstore (C : Cx K R0 own cc Ts) {i N : Nat} {x : Int64} (hN : K.nL = N) (ks : List Nat) (lv2 : List (Nat × Value)) (hl2 : lv_pick ((i, Value.long x) :: lv.filter (fun q => !(q.1 == i) && (!(q.1 == i + 1) && !(q.1 + 1 == i && q.2.category == 2)))) ks = lv2) (hn : i + 1 < N) (hd : decode cc pc = .ok (.lstore i, 2)) (q : Nat) (hq : pc + 2 = q) (kk : Z K n k cs lv2 q st) : Z K n k cs lv pc (.long x :: st) := by
  subst hq
  subst hN
  exact fun H locs ls hP hD hS hl => lv_lstore C.x C.b hd hl hn rfl (fun ls2 hl3 => kk H locs ls2 hP hD hS (lv_sub hl3 ks hl2))
theorem z_iinc (C : Cx K R0 own cc Ts) {i N : Nat} {d : Int} {x v : Int32} (hN : K.nL = N) (j : Nat) (hj : lv[j]? = some (i, .int x)) (hv : x + Int32.ofInt d = v) (ks : List Nat) (lv2 : List (Nat × Value)) (hl2 : lv_pick ((i, Value.int v) :: lv.filter (fun q => !(q.1 == i) && !(q.1 + 1 == i && q.2.category == 2))) ks = lv2) (hn : i < N) (hd : decode cc pc = .ok (.iinc i d, 3)) (q : Nat) (hq : pc + 3 = q) (kk : Z K n k cs lv2 q st) : Z K n k cs lv pc st := by
  subst hq
  subst hN
  exact fun H locs ls hP hD hS hl => lv_iinc C.x C.b hd hl hj hv hn rfl (fun ls2 hl3 => kk H locs ls2 hP hD hS (lv_sub hl3 ks hl2))
/-- fewer locals, or in another order -/
theorem z_lv (ks : List Nat) (lv2 : List (Nat × Value)) (h : lv_pick lv ks = lv2) (kk : Z K n k cs lv2 pc st) : Z K n k cs lv pc st := fun H locs ls hP hD hS hl => kk H locs ls hP hD hS (lv_sub hl ks h)
theorem z_eq {cs2 : List va_W} {lv2 : List (Nat × Value)} {st2 : List Value} (kk : Z K n k cs2 lv2 pc st2) (h1 : cs = cs2) (h2 : lv = lv2) (h3 : st = st2) : Z K n k cs lv pc st := by subst h1; subst h2; subst h3; exact kk
theorem z_iadd (C : Cx K R0 own cc Ts) {a b : Nat} (hd : decode cc pc = .ok (.iadd, 1)) (q : Nat) (hq : pc + 1 = q) (kk : Z K n k cs lv q (.int (nI (a + b)) :: st)) : Z K n k cs lv pc (.int (nI b) :: .int (nI a) :: st) := by
  subst hq
  exact fun H locs ls hP hD hS hl => lv_iadd C.x C.b hd (by rw [nI_add]; exact kk H locs ls hP hD hS hl)
theorem z_imul (C : Cx K R0 own cc Ts) {a b : Nat} (hd : decode cc pc = .ok (.imul, 1)) (q : Nat) (hq : pc + 1 = q) (kk : Z K n k cs lv q (.int (nI (a * b)) :: st)) : Z K n k cs lv pc (.int (nI b) :: .int (nI a) :: st) := by
  subst hq
  exact fun H locs ls hP hD hS hl => lv_imul C.x C.b hd (by rw [pk_mul]; exact kk H locs ls hP hD hS hl)
theorem z_isub (C : Cx K R0 own cc Ts) {a b : Nat} (hab : b ≤ a) (hd : decode cc pc = .ok (.isub, 1)) (q : Nat) (hq : pc + 1 = q) (kk : Z K n k cs lv q (.int (nI (a - b)) :: st)) : Z K n k cs lv pc (.int (nI b) :: .int (nI a) :: st) := by
  subst hq
  exact fun H locs ls hP hD hS hl => lv_isub C.x C.b hd (by rw [pk_sub hab]; exact kk H locs ls hP hD hS hl)
theorem z_idiv (C : Cx K R0 own cc Ts) {a b : Nat} (ha : a < 2 ^ 31) (h0 : 0 < b) (hb : b < 2 ^ 31) (hd : decode cc pc = .ok (.idiv, 1)) (q : Nat) (hq : pc + 1 = q) (kk : Z K n k cs lv q (.int (nI (a / b)) :: st)) : Z K n k cs lv pc (.int (nI b) :: .int (nI a) :: st) := by
  subst hq
  exact fun H locs ls hP hD hS hl => lv_idiv C.x C.b hd (nI_ne0 h0 hb) (by rw [pk_div ha h0 hb]; exact kk H locs ls hP hD hS hl)
theorem z_iaddI (C : Cx K R0 own cc Ts) {x y : Int32} (hd : decode cc pc = .ok (.iadd, 1)) (q : Nat) (hq : pc + 1 = q) (kk : Z K n k cs lv q (.int (x + y) :: st)) : Z K n k cs lv pc (.int y :: .int x :: st) := by
  subst hq
  exact fun H locs ls hP hD hS hl => lv_iadd C.x C.b hd (kk H locs ls hP hD hS hl)
theorem z_isubI (C : Cx K R0 own cc Ts) {x y : Int32} (hd : decode cc pc = .ok (.isub, 1)) (q : Nat) (hq : pc + 1 = q) (kk : Z K n k cs lv q (.int (x - y) :: st)) : Z K n k cs lv pc (.int y :: .int x :: st) := by
  subst hq
  exact fun H locs ls hP hD hS hl => lv_isub C.x C.b hd (kk H locs ls hP hD hS hl)
theorem z_imulI (C : Cx K R0 own cc Ts) {x y : Int32} (hd : decode cc pc = .ok (.imul, 1)) (q : Nat) (hq : pc + 1 = q) (kk : Z K n k cs lv q (.int (x * y) :: st)) : Z K n k cs lv pc (.int y :: .int x :: st) := by
  subst hq
  exact fun H locs ls hP hD hS hl => lv_imul C.x C.b hd (kk H locs ls hP hD hS hl)
theorem z_iandI (C : Cx K R0 own cc Ts) {x y : Int32} (hd : decode cc pc = .ok (.iand, 1)) (q : Nat) (hq : pc + 1 = q) (kk : Z K n k cs lv q (.int (x &&& y) :: st)) : Z K n k cs lv pc (.int y :: .int x :: st) := by
  subst hq
  exact fun H locs ls hP hD hS hl => lv_iand C.x C.b hd (kk H locs ls hP hD hS hl)
theorem z_lsub (C : Cx K R0 own cc Ts) {x y : Int64} (hd : decode cc pc = .ok (.lsub, 1)) (q : Nat) (hq : pc + 1 = q) (kk : Z K n k cs lv q (.long (x - y) :: st)) : Z K n k cs lv pc (.long y :: .long x :: st) := by
  subst hq
  exact fun H locs ls hP hD hS hl => lv_lsub C.x C.b hd (kk H locs ls hP hD hS hl)
theorem z_land (C : Cx K R0 own cc Ts) {x y : Int64} (hd : decode cc pc = .ok (.land, 1)) (q : Nat) (hq : pc + 1 = q) (kk : Z K n k cs lv q (.long (x &&& y) :: st)) : Z K n k cs lv pc (.long y :: .long x :: st) := by
  subst hq
  exact fun H locs ls hP hD hS hl => lv_land C.x C.b hd (kk H locs ls hP hD hS hl)
theorem z_lor (C : Cx K R0 own cc Ts) {x y : Int64} (hd : decode cc pc = .ok (.lor, 1)) (q : Nat) (hq : pc + 1 = q) (kk : Z K n k cs lv q (.long (x ||| y) :: st)) : Z K n k cs lv pc (.long y :: .long x :: st) := by
  subst hq
  exact fun H locs ls hP hD hS hl => lv_lor C.x C.b hd (kk H locs ls hP hD hS hl)
theorem z_i2l (C : Cx K R0 own cc Ts) {x : Int32} (hd : decode cc pc = .ok (.i2l, 1)) (q : Nat) (hq : pc + 1 = q) (kk : Z K n k cs lv q (.long x.toInt64 :: st)) : Z K n k cs lv pc (.int x :: st) := by
  subst hq
  exact fun H locs ls hP hD hS hl => lv_i2l C.x C.b hd rfl (kk H locs ls hP hD hS hl)
theorem z_l2i (C : Cx K R0 own cc Ts) {x : Int64} (hd : decode cc pc = .ok (.l2i, 1)) (q : Nat) (hq : pc + 1 = q) (kk : Z K n k cs lv q (.int x.toInt32 :: st)) : Z K n k cs lv pc (.long x :: st) := by
  subst hq
  exact fun H locs ls hP hD hS hl => lv_l2i C.x C.b hd rfl (kk H locs ls hP hD hS hl)
theorem z_lushr (C : Cx K R0 own cc Ts) {x : Int64} {y : Int32} (hd : decode cc pc = .ok (.lushr, 1)) (q : Nat) (hq : pc + 1 = q) (kk : Z K n k cs lv q (.long (x.toUInt64 >>> (y.toInt64.toUInt64 &&& Int64.toUInt64 63)).toInt64 :: st)) : Z K n k cs lv pc (.int y :: .long x :: st) := by
  subst hq
  exact fun H locs ls hP hD hS hl => lv_lushr C.x C.b hd rfl (kk H locs ls hP hD hS hl)
theorem z_lshl (C : Cx K R0 own cc Ts) {x : Int64} {y : Int32} (hd : decode cc pc = .ok (.lshl, 1)) (q : Nat) (hq : pc + 1 = q) (kk : Z K n k cs lv q (.long (x <<< (y.toInt64 &&& 63)) :: st)) : Z K n k cs lv pc (.int y :: .long x :: st) := by
  subst hq
  exact fun H locs ls hP hD hS hl => lv_lshl C.x C.b hd rfl (kk H locs ls hP hD hS hl)
theorem z_lcmp (C : Cx K R0 own cc Ts) {x y : Int64} (hd : decode cc pc = .ok (.lcmp, 1)) (q : Nat) (hq : pc + 1 = q) (kk : Z K n k cs lv q (.int (lg_cmp x y) :: st)) : Z K n k cs lv pc (.long y :: .long x :: st) := by
  subst hq
  exact fun H locs ls hP hD hS hl => W.lcmp C.x C.b hd (kk H locs ls hP hD hS hl)
theorem z_dup (C : Cx K R0 own cc Ts) {v : Value} (hv : v.category = 1) (hd : decode cc pc = .ok (.dup, 1)) (q : Nat) (hq : pc + 1 = q) (kk : Z K n k cs lv q (v :: v :: st)) : Z K n k cs lv pc (v :: st) := by
  subst hq
  exact fun H locs ls hP hD hS hl => lv_dup C.x C.b hd hv (kk H locs ls hP hD hS hl)
theorem z_dup2 (C : Cx K R0 own cc Ts) {v u : Value} (hv : v.category = 1) (hu : u.category = 1) (hd : decode cc pc = .ok (.dup2, 1)) (q : Nat) (hq : pc + 1 = q) (kk : Z K n k cs lv q (v :: u :: v :: u :: st)) : Z K n k cs lv pc (v :: u :: st) := by
  subst hq
  exact fun H locs ls hP hD hS hl => lv_dup2_11 C.x C.b hd hv hu (kk H locs ls hP hD hS hl)
theorem z_pop (C : Cx K R0 own cc Ts) {v : Value} (hv : v.category = 1) (hd : decode cc pc = .ok (.pop, 1)) (q : Nat) (hq : pc + 1 = q) (kk : Z K n k cs lv q (st)) : Z K n k cs lv pc (v :: st) := by
  subst hq
  exact fun H locs ls hP hD hS hl => lv_pop C.x C.b hd hv (kk H locs ls hP hD hS hl)
theorem z_goto (C : Cx K R0 own cc Ts) {off : Int} (t : Nat) (hd : decode cc pc = .ok (.goto off, 3)) (ht : (pc : Int) + off = (t : Int)) (kk : Z K n k cs lv t st) : Z K n k cs lv pc st := fun H locs ls hP hD hS hl => lv_goto C.x C.b hd ht (kk H locs ls hP hD hS hl)
theorem z_icmpI_eq (C : Cx K R0 own cc Ts) {x y : Int32} {off : Int} (t : Nat) (hd : decode cc pc = .ok (.if_icmp .eq off, 3)) (ht : (pc : Int) + off = (t : Int)) (q : Nat) (hq : pc + 3 = q) (kt : x = y → Z K n k cs lv t st) (kf : ¬ x = y → Z K n k cs lv q st) : Z K n k cs lv pc (.int y :: .int x :: st) := by
  subst hq
  exact fun H locs ls hP hD hS hl => lv_icmp_eq C.x C.b hd ht (fun h => kt h H locs ls hP hD hS hl) (fun h => kf h H locs ls hP hD hS hl)
theorem z_ifI_eq (C : Cx K R0 own cc Ts) {x : Int32} {off : Int} (t : Nat) (hd : decode cc pc = .ok (.ifCond .eq off, 3)) (ht : (pc : Int) + off = (t : Int)) (q : Nat) (hq : pc + 3 = q) (kt : x = 0 → Z K n k cs lv t st) (kf : ¬ x = 0 → Z K n k cs lv q st) : Z K n k cs lv pc (.int x :: st) := by
  subst hq
  exact fun H locs ls hP hD hS hl => lv_if_eq C.x C.b hd ht (fun h => kt h H locs ls hP hD hS hl) (fun h => kf h H locs ls hP hD hS hl)
theorem z_icmpI_ne (C : Cx K R0 own cc Ts) {x y : Int32} {off : Int} (t : Nat) (hd : decode cc pc = .ok (.if_icmp .ne off, 3)) (ht : (pc : Int) + off = (t : Int)) (q : Nat) (hq : pc + 3 = q) (kt : ¬ x = y → Z K n k cs lv t st) (kf : x = y → Z K n k cs lv q st) : Z K n k cs lv pc (.int y :: .int x :: st) := by
  subst hq
  exact fun H locs ls hP hD hS hl => lv_icmp_ne C.x C.b hd ht (fun h => kt h H locs ls hP hD hS hl) (fun h => kf h H locs ls hP hD hS hl)
theorem z_ifI_ne (C : Cx K R0 own cc Ts) {x : Int32} {off : Int} (t : Nat) (hd : decode cc pc = .ok (.ifCond .ne off, 3)) (ht : (pc : Int) + off = (t : Int)) (q : Nat) (hq : pc + 3 = q) (kt : ¬ x = 0 → Z K n k cs lv t st) (kf : x = 0 → Z K n k cs lv q st) : Z K n k cs lv pc (.int x :: st) := by
  subst hq
  exact fun H locs ls hP hD hS hl => lv_if_ne C.x C.b hd ht (fun h => kt h H locs ls hP hD hS hl) (fun h => kf h H locs ls hP hD hS hl)
theorem z_icmpI_lt (C : Cx K R0 own cc Ts) {x y : Int32} {off : Int} (t : Nat) (hd : decode cc pc = .ok (.if_icmp .lt off, 3)) (ht : (pc : Int) + off = (t : Int)) (q : Nat) (hq : pc + 3 = q) (kt : x < y → Z K n k cs lv t st) (kf : ¬ x < y → Z K n k cs lv q st) : Z K n k cs lv pc (.int y :: .int x :: st) := by
  subst hq
  exact fun H locs ls hP hD hS hl => lv_icmp_lt C.x C.b hd ht (fun h => kt h H locs ls hP hD hS hl) (fun h => kf h H locs ls hP hD hS hl)
theorem z_ifI_lt (C : Cx K R0 own cc Ts) {x : Int32} {off : Int} (t : Nat) (hd : decode cc pc = .ok (.ifCond .lt off, 3)) (ht : (pc : Int) + off = (t : Int)) (q : Nat) (hq : pc + 3 = q) (kt : x < 0 → Z K n k cs lv t st) (kf : ¬ x < 0 → Z K n k cs lv q st) : Z K n k cs lv pc (.int x :: st) := by
  subst hq
  exact fun H locs ls hP hD hS hl => lv_if_lt C.x C.b hd ht (fun h => kt h H locs ls hP hD hS hl) (fun h => kf h H locs ls hP hD hS hl)
theorem z_icmpI_ge (C : Cx K R0 own cc Ts) {x y : Int32} {off : Int} (t : Nat) (hd : decode cc pc = .ok (.if_icmp .ge off, 3)) (ht : (pc : Int) + off = (t : Int)) (q : Nat) (hq : pc + 3 = q) (kt : y ≤ x → Z K n k cs lv t st) (kf : ¬ y ≤ x → Z K n k cs lv q st) : Z K n k cs lv pc (.int y :: .int x :: st) := by
  subst hq
  exact fun H locs ls hP hD hS hl => lv_icmp_ge C.x C.b hd ht (fun h => kt h H locs ls hP hD hS hl) (fun h => kf h H locs ls hP hD hS hl)
theorem z_ifI_ge (C : Cx K R0 own cc Ts) {x : Int32} {off : Int} (t : Nat) (hd : decode cc pc = .ok (.ifCond .ge off, 3)) (ht : (pc : Int) + off = (t : Int)) (q : Nat) (hq : pc + 3 = q) (kt : 0 ≤ x → Z K n k cs lv t st) (kf : ¬ 0 ≤ x → Z K n k cs lv q st) : Z K n k cs lv pc (.int x :: st) := by
  subst hq
  exact fun H locs ls hP hD hS hl => lv_if_ge C.x C.b hd ht (fun h => kt h H locs ls hP hD hS hl) (fun h => kf h H locs ls hP hD hS hl)
theorem z_icmpI_gt (C : Cx K R0 own cc Ts) {x y : Int32} {off : Int} (t : Nat) (hd : decode cc pc = .ok (.if_icmp .gt off, 3)) (ht : (pc : Int) + off = (t : Int)) (q : Nat) (hq : pc + 3 = q) (kt : y < x → Z K n k cs lv t st) (kf : ¬ y < x → Z K n k cs lv q st) : Z K n k cs lv pc (.int y :: .int x :: st) := by
  subst hq
  exact fun H locs ls hP hD hS hl => lv_icmp_gt C.x C.b hd ht (fun h => kt h H locs ls hP hD hS hl) (fun h => kf h H locs ls hP hD hS hl)
theorem z_ifI_gt (C : Cx K R0 own cc Ts) {x : Int32} {off : Int} (t : Nat) (hd : decode cc pc = .ok (.ifCond .gt off, 3)) (ht : (pc : Int) + off = (t : Int)) (q : Nat) (hq : pc + 3 = q) (kt : 0 < x → Z K n k cs lv t st) (kf : ¬ 0 < x → Z K n k cs lv q st) : Z K n k cs lv pc (.int x :: st) := by
  subst hq
  exact fun H locs ls hP hD hS hl => lv_if_gt C.x C.b hd ht (fun h => kt h H locs ls hP hD hS hl) (fun h => kf h H locs ls hP hD hS hl)
theorem z_icmpI_le (C : Cx K R0 own cc Ts) {x y : Int32} {off : Int} (t : Nat) (hd : decode cc pc = .ok (.if_icmp .le off, 3)) (ht : (pc : Int) + off = (t : Int)) (q : Nat) (hq : pc + 3 = q) (kt : x ≤ y → Z K n k cs lv t st) (kf : ¬ x ≤ y → Z K n k cs lv q st) : Z K n k cs lv pc (.int y :: .int x :: st) := by
  subst hq
  exact fun H locs ls hP hD hS hl => lv_icmp_le C.x C.b hd ht (fun h => kt h H locs ls hP hD hS hl) (fun h => kf h H locs ls hP hD hS hl)
theorem z_ifI_le (C : Cx K R0 own cc Ts) {x : Int32} {off : Int} (t : Nat) (hd : decode cc pc = .ok (.ifCond .le off, 3)) (ht : (pc : Int) + off = (t : Int)) (q : Nat) (hq : pc + 3 = q) (kt : x ≤ 0 → Z K n k cs lv t st) (kf : ¬ x ≤ 0 → Z K n k cs lv q st) : Z K n k cs lv pc (.int x :: st) := by
  subst hq
  exact fun H locs ls hP hD hS hl => lv_if_le C.x C.b hd ht (fun h => kt h H locs ls hP hD hS hl) (fun h => kf h H locs ls hP hD hS hl)
theorem z_icmp_eq (C : Cx K R0 own cc Ts) {a b : Nat} {off : Int} (ha : a < 2 ^ 31) (hb : b < 2 ^ 31) (t : Nat) (hd : decode cc pc = .ok (.if_icmp .eq off, 3)) (ht : (pc : Int) + off = (t : Int)) (q : Nat) (hq : pc + 3 = q) (kt : a = b → Z K n k cs lv t st) (kf : a ≠ b → Z K n k cs lv q st) : Z K n k cs lv pc (.int (nI b) :: .int (nI a) :: st) :=
  z_icmpI_eq C t hd ht q hq (fun h => kt ((nI_eq ha hb).mp h)) (fun h => kf (fun e => h ((nI_eq ha hb).mpr e)))
theorem z_if_eq (C : Cx K R0 own cc Ts) {a : Nat} {off : Int} (ha : a < 2 ^ 31) (t : Nat) (hd : decode cc pc = .ok (.ifCond .eq off, 3)) (ht : (pc : Int) + off = (t : Int)) (q : Nat) (hq : pc + 3 = q) (kt : a = 0 → Z K n k cs lv t st) (kf : a ≠ 0 → Z K n k cs lv q st) : Z K n k cs lv pc (.int (nI a) :: st) := by
  have hb : 0 < 2 ^ 31 := by decide
  have hz : (0 : Int32) = nI 0 := nI_0.symm
  refine z_ifI_eq C t hd ht q hq (fun h => kt ?_) (fun h => kf ?_)
  · rw [hz] at h; exact (nI_eq ha hb).mp h
  · rw [hz] at h; exact fun e => h ((nI_eq ha hb).mpr e)
theorem z_icmp_ne (C : Cx K R0 own cc Ts) {a b : Nat} {off : Int} (ha : a < 2 ^ 31) (hb : b < 2 ^ 31) (t : Nat) (hd : decode cc pc = .ok (.if_icmp .ne off, 3)) (ht : (pc : Int) + off = (t : Int)) (q : Nat) (hq : pc + 3 = q) (kt : a ≠ b → Z K n k cs lv t st) (kf : a = b → Z K n k cs lv q st) : Z K n k cs lv pc (.int (nI b) :: .int (nI a) :: st) :=
  z_icmpI_ne C t hd ht q hq (fun h => kt (fun e => h (by rw [e]))) (fun h => kf ((nI_eq ha hb).mp h))
theorem z_if_ne (C : Cx K R0 own cc Ts) {a : Nat} {off : Int} (ha : a < 2 ^ 31) (t : Nat) (hd : decode cc pc = .ok (.ifCond .ne off, 3)) (ht : (pc : Int) + off = (t : Int)) (q : Nat) (hq : pc + 3 = q) (kt : a ≠ 0 → Z K n k cs lv t st) (kf : a = 0 → Z K n k cs lv q st) : Z K n k cs lv pc (.int (nI a) :: st) := by
  have hb : 0 < 2 ^ 31 := by decide
  have hz : (0 : Int32) = nI 0 := nI_0.symm
  refine z_ifI_ne C t hd ht q hq (fun h => kt ?_) (fun h => kf ?_)
  · rw [hz] at h; exact fun e => h (by rw [e])
  · rw [hz] at h; exact (nI_eq ha hb).mp h
theorem z_icmp_lt (C : Cx K R0 own cc Ts) {a b : Nat} {off : Int} (ha : a < 2 ^ 31) (hb : b < 2 ^ 31) (t : Nat) (hd : decode cc pc = .ok (.if_icmp .lt off, 3)) (ht : (pc : Int) + off = (t : Int)) (q : Nat) (hq : pc + 3 = q) (kt : a < b → Z K n k cs lv t st) (kf : b ≤ a → Z K n k cs lv q st) : Z K n k cs lv pc (.int (nI b) :: .int (nI a) :: st) :=
  z_icmpI_lt C t hd ht q hq (fun h => kt ((nI_ltI ha hb).mp h)) (fun h => kf (Nat.le_of_not_lt (fun e => h ((nI_ltI ha hb).mpr e))))
theorem z_if_lt (C : Cx K R0 own cc Ts) {a : Nat} {off : Int} (ha : a < 2 ^ 31) (t : Nat) (hd : decode cc pc = .ok (.ifCond .lt off, 3)) (ht : (pc : Int) + off = (t : Int)) (q : Nat) (hq : pc + 3 = q) (kt : a < 0 → Z K n k cs lv t st) (kf : 0 ≤ a → Z K n k cs lv q st) : Z K n k cs lv pc (.int (nI a) :: st) := by
  have hb : 0 < 2 ^ 31 := by decide
  have hz : (0 : Int32) = nI 0 := nI_0.symm
  refine z_ifI_lt C t hd ht q hq (fun h => kt ?_) (fun h => kf ?_)
  · rw [hz] at h; exact (nI_ltI ha hb).mp h
  · rw [hz] at h; exact Nat.le_of_not_lt (fun e => h ((nI_ltI ha hb).mpr e))
theorem z_icmp_ge (C : Cx K R0 own cc Ts) {a b : Nat} {off : Int} (ha : a < 2 ^ 31) (hb : b < 2 ^ 31) (t : Nat) (hd : decode cc pc = .ok (.if_icmp .ge off, 3)) (ht : (pc : Int) + off = (t : Int)) (q : Nat) (hq : pc + 3 = q) (kt : b ≤ a → Z K n k cs lv t st) (kf : a < b → Z K n k cs lv q st) : Z K n k cs lv pc (.int (nI b) :: .int (nI a) :: st) :=
  z_icmpI_ge C t hd ht q hq (fun h => kt ((nI_leI hb ha).mp h)) (fun h => kf (Nat.lt_of_not_le (fun e => h ((nI_leI hb ha).mpr e))))
theorem z_if_ge (C : Cx K R0 own cc Ts) {a : Nat} {off : Int} (ha : a < 2 ^ 31) (t : Nat) (hd : decode cc pc = .ok (.ifCond .ge off, 3)) (ht : (pc : Int) + off = (t : Int)) (q : Nat) (hq : pc + 3 = q) (kt : 0 ≤ a → Z K n k cs lv t st) (kf : a < 0 → Z K n k cs lv q st) : Z K n k cs lv pc (.int (nI a) :: st) := by
  have hb : 0 < 2 ^ 31 := by decide
  have hz : (0 : Int32) = nI 0 := nI_0.symm
  refine z_ifI_ge C t hd ht q hq (fun h => kt ?_) (fun h => kf ?_)
  · rw [hz] at h; exact (nI_leI hb ha).mp h
  · rw [hz] at h; exact Nat.lt_of_not_le (fun e => h ((nI_leI hb ha).mpr e))
theorem z_icmp_gt (C : Cx K R0 own cc Ts) {a b : Nat} {off : Int} (ha : a < 2 ^ 31) (hb : b < 2 ^ 31) (t : Nat) (hd : decode cc pc = .ok (.if_icmp .gt off, 3)) (ht : (pc : Int) + off = (t : Int)) (q : Nat) (hq : pc + 3 = q) (kt : b < a → Z K n k cs lv t st) (kf : a ≤ b → Z K n k cs lv q st) : Z K n k cs lv pc (.int (nI b) :: .int (nI a) :: st) :=
  z_icmpI_gt C t hd ht q hq (fun h => kt ((nI_ltI hb ha).mp h)) (fun h => kf (Nat.le_of_not_lt (fun e => h ((nI_ltI hb ha).mpr e))))
theorem z_if_gt (C : Cx K R0 own cc Ts) {a : Nat} {off : Int} (ha : a < 2 ^ 31) (t : Nat) (hd : decode cc pc = .ok (.ifCond .gt off, 3)) (ht : (pc : Int) + off = (t : Int)) (q : Nat) (hq : pc + 3 = q) (kt : 0 < a → Z K n k cs lv t st) (kf : a ≤ 0 → Z K n k cs lv q st) : Z K n k cs lv pc (.int (nI a) :: st) := by
  have hb : 0 < 2 ^ 31 := by decide
  have hz : (0 : Int32) = nI 0 := nI_0.symm
  refine z_ifI_gt C t hd ht q hq (fun h => kt ?_) (fun h => kf ?_)
  · rw [hz] at h; exact (nI_ltI hb ha).mp h
  · rw [hz] at h; exact Nat.le_of_not_lt (fun e => h ((nI_ltI hb ha).mpr e))
theorem z_icmp_le (C : Cx K R0 own cc Ts) {a b : Nat} {off : Int} (ha : a < 2 ^ 31) (hb : b < 2 ^ 31) (t : Nat) (hd : decode cc pc = .ok (.if_icmp .le off, 3)) (ht : (pc : Int) + off = (t : Int)) (q : Nat) (hq : pc + 3 = q) (kt : a ≤ b → Z K n k cs lv t st) (kf : b < a → Z K n k cs lv q st) : Z K n k cs lv pc (.int (nI b) :: .int (nI a) :: st) :=
  z_icmpI_le C t hd ht q hq (fun h => kt ((nI_leI ha hb).mp h)) (fun h => kf (Nat.lt_of_not_le (fun e => h ((nI_leI ha hb).mpr e))))
theorem z_if_le (C : Cx K R0 own cc Ts) {a : Nat} {off : Int} (ha : a < 2 ^ 31) (t : Nat) (hd : decode cc pc = .ok (.ifCond .le off, 3)) (ht : (pc : Int) + off = (t : Int)) (q : Nat) (hq : pc + 3 = q) (kt : a ≤ 0 → Z K n k cs lv t st) (kf : 0 < a → Z K n k cs lv q st) : Z K n k cs lv pc (.int (nI a) :: st) := by
  have hb : 0 < 2 ^ 31 := by decide
  have hz : (0 : Int32) = nI 0 := nI_0.symm
  refine z_ifI_le C t hd ht q hq (fun h => kt ?_) (fun h => kf ?_)
  · rw [hz] at h; exact (nI_leI ha hb).mp h
  · rw [hz] at h; exact Nat.lt_of_not_le (fun e => h ((nI_leI ha hb).mpr e))
theorem z_dec {a : Nat} (h : 0 < a) : nI a + Int32.ofInt (-1) = nI (a - 1) := by
  obtain ⟨b, rfl⟩ : ∃ b, a = b + 1 := ⟨a - 1, by omega⟩
  exact (pk_m1 b).trans (by rw [Nat.add_sub_cancel])
theorem z_ind {P : Nat → Prop} (h : ∀ m, (∀ m', m' < m → P m') → P m) (m : Nat) : P m := Nat.strongRecOn m h
def bI (b : Bool) : Int32 := match b with
  | true => 1
  | false => 0
theorem z_ifb_eq (C : Cx K R0 own cc Ts) {b : Bool} {off : Int} (t : Nat) (hd : decode cc pc = .ok (.ifCond .eq off, 3)) (ht : (pc : Int) + off = (t : Int)) (q : Nat) (hq : pc + 3 = q) (kt : b = false → Z K n k cs lv t st) (kf : b = true → Z K n k cs lv q st) : Z K n k cs lv pc (.int (bI b) :: st) := by
  refine z_ifI_eq C t hd ht q hq (fun h => kt ?_) (fun h => kf ?_)
  · cases b
    · rfl
    · exact absurd h (by decide)
  · cases b
    · exact absurd rfl h
    · rfl
theorem z_ifb_ne (C : Cx K R0 own cc Ts) {b : Bool} {off : Int} (t : Nat) (hd : decode cc pc = .ok (.ifCond .ne off, 3)) (ht : (pc : Int) + off = (t : Int)) (q : Nat) (hq : pc + 3 = q) (kt : b = true → Z K n k cs lv t st) (kf : b = false → Z K n k cs lv q st) : Z K n k cs lv pc (.int (bI b) :: st) := by
  refine z_ifI_ne C t hd ht q hq (fun h => kt ?_) (fun h => kf ?_)
  · cases b
    · exact absurd rfl h
    · rfl
  · cases b
    · rfl
    · exact absurd h (by decide)
theorem z_nm {x : Nat} (kk : ∀ y : Nat, y = x → Z K n k cs lv pc (.int (nI y) :: st)) : Z K n k cs lv pc (.int (nI x) :: st) := kk x rfl
theorem z_nmI {x : Int32} (kk : ∀ y : Int32, y = x → Z K n k cs lv pc (.int y :: st)) : Z K n k cs lv pc (.int x :: st) := kk x rfl
theorem z_nmL {x : Int64} (kk : ∀ y : Int64, y = x → Z K n k cs lv pc (.long y :: st)) : Z K n k cs lv pc (.long x :: st) := kk x rfl
/-- the value on top, told otherwise -/
theorem z_top {x y : Int32} (h : x = y) (kk : Z K n k cs lv pc (.int y :: st)) : Z K n k cs lv pc (.int x :: st) := by rw [h]; exact kk
theorem z_tab (C : Cx K R0 own cc Ts) {dflt lo hi : Int} {offs : Array Int} {len : Nat} {a : Nat} {off : Int} (ha : a < 2 ^ 31) (t : Nat) (hd : decode cc pc = .ok (.tableswitch dflt lo hi offs, len)) (h1 : ¬ (a : Int) < lo) (h2 : ¬ hi < (a : Int)) (ho : offs[((a : Int) - lo).toNat]? = some off) (ht : (pc : Int) + off = (t : Int)) (kk : Z K n k cs lv t st) : Z K n k cs lv pc (.int (nI a) :: st) :=
  fun H locs ls hP hD hS hl => lv_tableIn C.x C.b hd (by rw [nI_toInt ha]; exact h1) (by rw [nI_toInt ha]; exact h2) (by rw [nI_toInt ha]; exact ho) ht (kk H locs ls hP hD hS hl)
theorem z_tabO (C : Cx K R0 own cc Ts) {dflt lo hi : Int} {offs : Array Int} {len : Nat} {x : Int32} (t : Nat) (hd : decode cc pc = .ok (.tableswitch dflt lo hi offs, len)) (h : x.toInt < lo ∨ hi < x.toInt) (ht : (pc : Int) + dflt = (t : Int)) (kk : Z K n k cs lv t st) : Z K n k cs lv pc (.int x :: st) :=
  fun H locs ls hP hD hS hl => lv_tableOut C.x C.b hd h ht (kk H locs ls hP hD hS hl)
theorem z_look (C : Cx K R0 own cc Ts) {dflt : Int} {ps : Array (Int × Int)} {len : Nat} {x : Int32} {off : Int} (t : Nat) (hd : decode cc pc = .ok (.lookupswitch dflt ps, len)) (hp : (ps.toList.zip (ps.toList.drop 1)).all (fun (a, next) => a.1 < next.1) = true) (ho : Op.lookupswitch.offset ps.toList dflt x.toInt = off) (ht : (pc : Int) + off = (t : Int)) (kk : Z K n k cs lv t st) : Z K n k cs lv pc (.int x :: st) :=
  fun H locs ls hP hD hS hl => lv_lookup C.x C.b hd hp ho ht (kk H locs ls hP hD hS hl)
def zCl (ci : Nat) (Cn : String) (T : u_T) (N : Nat) (ty : Nat → FieldType) : Prop := vwCl[ci]? = some (Cn, T, N) ∧ (∀ k, k < N → parseFieldDescriptor (T k).2.2.1 = some (ty k)) ∧ ∀ a, a < N → ∀ b, b < N → a ≠ b → (T a).2.1 ≠ (T b).2.1
theorem zc0 : zCl 0 RX0 TX0 3 tyX0 := ⟨rfl, tyX0_ok, nmX0⟩
theorem zc1 : zCl 1 RX1 TX1 3 tyX1 := ⟨rfl, tyX1_ok, nmX1⟩
theorem zc2 : zCl 2 RX2 TX2 8 tyX2 := ⟨rfl, tyX2_ok, nmX2⟩
theorem zc3 : zCl 3 RX3 TX3 18 tyX3 := ⟨rfl, tyX3_ok, nmX3⟩
theorem zc4 : zCl 4 RX4 TX4 7 tyX4 := ⟨rfl, tyX4_ok, nmX4⟩
theorem zc5 : zCl 5 RX5 TX5 14 tyX5 := ⟨rfl, tyX5_ok, nmX5⟩
theorem z_get (C : Cx K R0 own cc Ts) {Cn : String} {T : u_T} {N ci index : Nat} {ty : Nat → FieldType} (hc : zCl ci Cn T N ty) (hin : ∀ w ∈ u_ws Cn T N, w ∈ Ts) (i j : Nat) {c : va_W} {a : Nat} {fs : List Value} (hi : cs[i]? = some c) (he : c[j]? = some (a, .inr (ci, fs))) (f : Nat) (hf : f < N) (hw : Cond.fieldLink own index (T f).1 (T f).2.1 (T f).2.2.1 ∈ Ts) {v : Value} (hv : fs[f]? = some v) (hd : decode cc pc = .ok (.getfield index, 3)) (q : Nat) (hq : pc + 3 = q) (kk : Z K n k cs lv q (v :: st)) : Z K n k cs lv pc (.ref a :: st) := by
  subst hq
  exact fun H locs ls hP hD hS hl => va_get C.x C.b C.ts hin C.ow C.ka hP _ (zfl_get hi he) hc.1 f hf (C.ts _ hw) (fun _ h9 => h9) hv hd (kk H locs ls hP hD hS hl)
theorem z_put (C : Cx K R0 own cc Ts) {Cn : String} {T : u_T} {N ci index : Nat} {ty : Nat → FieldType} (hc : zCl ci Cn T N ty) (hin : ∀ w ∈ u_ws Cn T N, w ∈ Ts) (i j : Nat) {c : va_W} {a : Nat} {fs : List Value} (hi : cs[i]? = some c) (he : c[j]? = some (a, .inr (ci, fs))) (f : Nat) (hf : f < N) (hw : Cond.fieldLink own index (T f).1 (T f).2.1 (T f).2.2.1 ∈ Ts) (hfin : (T f).2.2.2 = false) {v : Value} (hn : narrow (ty f) v = v) (hfit : fits (ty f) v = true) (hl0 : f < fs.length) (c2 : va_W) (hc2 : c.set j (a, .inr (ci, fs.set f v)) = c2) (cs2 : List va_W) (hcs : cs.set i c2 = cs2) (hd : decode cc pc = .ok (.putfield index, 3)) (q : Nat) (hq : pc + 3 = q) (kk : Z K n k cs2 lv q st) : Z K n k cs lv pc (v :: .ref a :: st) := by
  subst hq
  subst hc2
  subst hcs
  exact fun H locs ls hP hD hS hl => va_put C.x C.b C.ts hin ty hc.2.1 hc.2.2 C.ow C.ka hP hD hS _ (zfl_get hi he) hc.1 f hf (C.ts _ hw) (fun _ h9 => h9) hfin (hc.2.1 f hf) hn hfit hl0 hd (fun H1 locs1 hP1 hD1 hS1 => kk H1 locs1 ls (by rw [zfl_set _ hi (zlen he)]; exact hP1) (by rw [zfl_set _ hi (zlen he)]; exact hD1) hS1 hl)
theorem z_iald (C : Cx K R0 own cc Ts) (i j : Nat) {c : va_W} {a N x : Nat} {f : Nat → Nat} (hi : cs[i]? = some c) (he : c[j]? = some (a, .inl (K.g.2 0, N, .inl (fun y => nI (f y))))) (hx : x < N) (hN : N < 2 ^ 31) (hd : decode cc pc = .ok (.iaload, 1)) (q : Nat) (hq : pc + 1 = q) (kk : Z K n k cs lv q (.int (nI (f x)) :: st)) : Z K n k cs lv pc (.int (nI x) :: .ref a :: st) := by
  subst hq
  intro H locs ls hP hD hS hl
  have h := kk H locs ls hP hD hS hl
  rw [show f x = f (nI x).toNatClampNeg by rw [nI_clamp (Nat.lt_trans hx hN)]] at h
  exact va_iald C.x C.b C.ka hP _ 0 (zfl_get hi he) rfl (vp_in_nI hx hN) hd h
theorem z_zald (C : Cx K R0 own cc Ts) (i j : Nat) {c : va_W} {a N x : Nat} {f : Nat → Bool} (hi : cs[i]? = some c) (he : c[j]? = some (a, .inl (K.g.2 3, N, .inl (fun y => bI (f y))))) (hx : x < N) (hN : N < 2 ^ 31) (hd : decode cc pc = .ok (.baload, 1)) (q : Nat) (hq : pc + 1 = q) (kk : Z K n k cs lv q (.int (bI (f x)) :: st)) : Z K n k cs lv pc (.int (nI x) :: .ref a :: st) := by
  subst hq
  intro H locs ls hP hD hS hl
  have h := kk H locs ls hP hD hS hl
  rw [show f x = f (nI x).toNatClampNeg by rw [nI_clamp (Nat.lt_trans hx hN)]] at h
  exact va_zald C.x C.b C.ka hP _ 3 (zfl_get hi he) rfl (vp_in_nI hx hN) hd h
/-- f, but v at k -/
def un {α : Type} (f : Nat → α) (k : Nat) (v : α) : Nat → α := fun j => if j = k then v else f j
theorem un_s {α : Type} {f : Nat → α} {k : Nat} {v : α} : un f k v k = v := if_pos rfl
theorem un_n {α : Type} {f : Nat → α} {k j : Nat} {v : α} (h : j ≠ k) : un f k v j = f j := if_neg h
theorem un_upd {f : Nat → Nat} {k v : Nat} : upd (fun y => nI (f y)) k (nI v) = fun y => nI (un f k v y) := by
  funext y
  show (if y = k then nI v else nI (f y)) = nI (if y = k then v else f y)
  by_cases h : y = k
  · rw [if_pos h, if_pos h]
  · rw [if_neg h, if_neg h]
theorem un_updb {f : Nat → Bool} {k : Nat} {v : Bool} : upd (fun y => bI (f y)) k (bI v) = fun y => bI (un f k v y) := by
  funext y
  show (if y = k then bI v else bI (f y)) = bI (if y = k then v else f y)
  by_cases h : y = k
  · rw [if_pos h, if_pos h]
  · rw [if_neg h, if_neg h]
theorem z_iast (C : Cx K R0 own cc Ts) (i j : Nat) {c : va_W} {a N x v : Nat} {f : Nat → Nat} (hi : cs[i]? = some c) (he : c[j]? = some (a, .inl (K.g.2 0, N, .inl (fun y => nI (f y))))) (hx : x < N) (hN : N < 2 ^ 31) (c2 : va_W) (hc2 : c.set j (a, .inl (K.g.2 0, N, .inl (fun y => nI (un f x v y)))) = c2) (cs2 : List va_W) (hcs : cs.set i c2 = cs2) (hd : decode cc pc = .ok (.iastore, 1)) (q : Nat) (hq : pc + 1 = q) (kk : Z K n k cs2 lv q st) : Z K n k cs lv pc (.int (nI v) :: .int (nI x) :: .ref a :: st) := by
  subst hq
  subst hc2
  subst hcs
  intro H locs ls hP hD hS hl
  refine va_iast C.x C.b C.ka hP hD hS _ 0 (zfl_get hi he) rfl (vp_in_nI hx hN) hd (fun H1 locs1 hP1 hD1 hS1 => kk H1 locs1 ls ?_ ?_ hS1 hl)
  · rw [zfl_set _ hi (zlen he)]
    rw [nI_clamp (Nat.lt_trans hx hN), un_upd] at hP1
    exact hP1
  · rw [zfl_set _ hi (zlen he)]
    rw [nI_clamp (Nat.lt_trans hx hN), un_upd] at hD1
    exact hD1
theorem z_zast (C : Cx K R0 own cc Ts) (i j : Nat) {c : va_W} {a N x : Nat} {v : Bool} {f : Nat → Bool} (hi : cs[i]? = some c) (he : c[j]? = some (a, .inl (K.g.2 3, N, .inl (fun y => bI (f y))))) (hx : x < N) (hN : N < 2 ^ 31) (c2 : va_W) (hc2 : c.set j (a, .inl (K.g.2 3, N, .inl (fun y => bI (un f x v y)))) = c2) (cs2 : List va_W) (hcs : cs.set i c2 = cs2) (hd : decode cc pc = .ok (.bastore, 1)) (q : Nat) (hq : pc + 1 = q) (kk : Z K n k cs2 lv q st) : Z K n k cs lv pc (.int (bI v) :: .int (nI x) :: .ref a :: st) := by
  subst hq
  subst hc2
  subst hcs
  intro H locs ls hP hD hS hl
  have hv : vp_nar .boolean (bI v) = bI v := by cases v <;> rfl
  refine va_zast C.x C.b C.ka hP hD hS _ 3 (zfl_get hi he) rfl (vp_in_nI hx hN) hd (fun H1 locs1 hP1 hD1 hS1 => kk H1 locs1 ls ?_ ?_ hS1 hl)
  · rw [zfl_set _ hi (zlen he)]
    rw [nI_clamp (Nat.lt_trans hx hN), hv, un_updb] at hP1
    exact hP1
  · rw [zfl_set _ hi (zlen he)]
    rw [nI_clamp (Nat.lt_trans hx hN), hv, un_updb] at hD1
    exact hD1
/-- an array's content, told otherwise -/
theorem z_arr (i j : Nat) {c : va_W} {a N : Nat} {cA : ClassId} {f g : Nat → Int32} (hi : cs[i]? = some c) (he : c[j]? = some (a, .inl (cA, N, .inl f))) (hfg : ∀ y, y < N → f y = g y) (c2 : va_W) (hc2 : c.set j (a, .inl (cA, N, .inl g)) = c2) (cs2 : List va_W) (hcs : cs.set i c2 = cs2) (kk : Z K n k cs2 lv pc st) : Z K n k cs lv pc st := by
  subst hc2
  subst hcs
  intro H locs ls hP hD hS hl
  have hcell : vp_cell cA (N, .inl f) = vp_cell cA (N, .inl g) := by
    show arrV cA N (fun j => .int (f j)) = arrV cA N (fun j => .int (g j))
    unfold arrV
    congr 1
    apply Array.ext
    · simp
    · intro y h1 h2
      simp at h1
      simp [hfg y h1]
  have hat : ∀ {H : Heap}, va_at K.g.1 vwCl (a, .inl (cA, N, .inl f)) H → va_at K.g.1 vwCl (a, .inl (cA, N, .inl g)) H := fun h => by
    show _ = some (vp_cell cA (N, .inl g))
    rw [← hcell]
    exact h
  refine kk H locs ls ?_ ?_ hS hl
  · rw [zfl_set _ hi (zlen he)]
    exact hP.set hD (zfl_get hi he) (hat (hP _ _ (zfl_get hi he))) (fun q _ => rfl)
  · rw [zfl_set _ hi (zlen he)]
    exact hD.set (zfl_get hi he)
theorem z_aald (C : Cx K R0 own cc Ts) (i j t0 : Nat) {c : va_W} {a N x y : Nat} {cA : ClassId} {ty : FieldType} {f : Nat → Option Nat} (hi : cs[i]? = some c) (he : c[j]? = some (a, .inl (cA, N, .inr (.inr (.inr (.inr f)))))) (ht : (zT K.g)[t0]? = some (cA, ty)) (hr : ty.isReference = true) (hx : x < N) (hN : N < 2 ^ 31) (hy : f x = some y) (hd : decode cc pc = .ok (.aaload, 1)) (q : Nat) (hq : pc + 1 = q) (kk : Z K n k cs lv q (.ref y :: st)) : Z K n k cs lv pc (.int (nI x) :: .ref a :: st) := by
  subst hq
  intro H locs ls hP hD hS hl
  have hlt : (nI x).toNatClampNeg < N := by rw [nI_clamp (Nat.lt_trans hx hN)]; exact hx
  refine W.aald (v := .ref y) (ty := ty) C.x C.b (hP _ _ (zfl_get hi he)) ((C.ka.2 t0 _ ht).1 N (fun j => va_rf (f j))) hr (fun q => by cases q) (by show ¬ (nI x < 0 ∨ (arrV _ _ _).slots.size ≤ _); rw [arrV_size]; exact vp_in_nI hx hN) (by show (arrV _ _ _).slots[_]? = _; rw [arrV_read _ _ hlt, nI_clamp (Nat.lt_trans hx hN), hy]; rfl) rfl rfl hd (kk H locs ls hP hD hS hl)
theorem z_alen (C : Cx K R0 own cc Ts) (i j t0 : Nat) {c : va_W} {a : Nat} {cA : ClassId} {x : vp_A} {ty : FieldType} (hi : cs[i]? = some c) (he : c[j]? = some (a, .inl (cA, x))) (ht : (zT K.g)[t0]? = some (cA, ty)) {v : Nat} (hv : x.1 = v) (hd : decode cc pc = .ok (.arraylength, 1)) (q : Nat) (hq : pc + 1 = q) (kk : Z K n k cs lv q (.int (nI v) :: st)) : Z K n k cs lv pc (.ref a :: st) := by
  subst hq
  subst hv
  exact fun H locs ls hP hD hS hl => va_alen C.x C.b C.ka hP _ t0 (zfl_get hi he) ht rfl hd (kk H locs ls hP hD hS hl)
theorem zmax {x y : Nat} (hx : x < 2 ^ 31) (hy : y < 2 ^ 31) : (if nI x < nI y then nI y else nI x) = nI (max x y) := by
  by_cases h : x < y
  · rw [if_pos ((nI_ltI hx hy).mpr h), Nat.max_eq_right (Nat.le_of_lt h)]
  · rw [if_neg (fun e => h ((nI_ltI hx hy).mp e)), Nat.max_eq_left (Nat.le_of_not_lt h)]
theorem zmin {x y : Nat} (hx : x < 2 ^ 31) (hy : y < 2 ^ 31) : (if nI y < nI x then nI y else nI x) = nI (min x y) := by
  by_cases h : y < x
  · rw [if_pos ((nI_ltI hy hx).mpr h), Nat.min_eq_right (Nat.le_of_lt h)]
  · rw [if_neg (fun e => h ((nI_ltI hy hx).mp e)), Nat.min_eq_left (Nat.le_of_not_lt h)]
end ZR
end
section
/-! ZC: a method's start and ends, calls, Math.max and min, arraycopy over Z. -/
def zPre (g : zG) (av : List Value) (cs : List va_W) : Array Value → State → Prop := va_Pc av (fun U => va_P g.1 vwCl cs.flatten U.heap ∧ zKp g U ∧ va_D (fun _ => True) cs.flatten)
def zQ {S : Type} (g : zG) (rv : S → Option Value) (post : S → Prop) (cs' : S → List va_W) (A : Nat → Prop) : Array Value → State → Outcome → State → Prop := fun _ st oc t =>
  (∃ u : S, oc = .returned (rv u) ∧ post u ∧ va_P g.1 vwCl (cs' u).flatten t.heap ∧ va_D A (cs' u).flatten) ∧ va_F A st t
def Rx {S : Type} (K : zK) (ret : Option FieldType) (rv : S → Option Value) (post : S → Prop) (cs' : S → List va_W) (A : Nat → Prop) : Prop :=
  K.Q = MQ K.below (zQ K.g rv post cs' A) K.args K.s 0 0 A ∧ K.A = A ∧ K.meth.sig.returnType = ret ∧ K.meth.locks = false
theorem zPre_blind (g : zG) (av : List Value) (cs : List va_W) : FrameBlind (zPre g av cs) := fun a U f mk q => by
  obtain ⟨q0, qP, qK, qD⟩ := q
  exact ⟨q0, qP, zKp.same (u := U) (U := U.calling f mk a) rfl qK, qD⟩
theorem z_entry {l : Launch} {g : zG} {y : MethodName} {ws ws' : List Cond} {cc : ByteArray} {maxL : Nat} {ret : Option FieldType} {S : Type} {rv : S → Option Value} {post : S → Prop} {cs' : S → List va_W} {cs0 : List va_W} {av : List Value} {rm : Room} {own : String}
    (hy : plainName y.cls = true) (hw : ws = Cond.code y cc maxL ret :: ws') (hown : y.cls = own) (hn : (lg_sl av).length ≤ maxL) (lv0 : List (Nat × Value)) (hlv : lv_args 0 av = lv0)
    (body : ∀ K : zK, K.l = l → K.g = g → K.nL = maxL → Cx K rm own cc ws → Rx K ret rv post cs' (zA cs0) → Z K 0 0 cs0 lv0 0 []) : Met l y ws rm (zPre g av cs0) (zQ g rv post cs' (zA cs0)) 0 0 (zA cs0) := by
  refine Met.ofW (cc := cc) (maxL := maxL) (ret := ret) hy hw ?_
  intro p e s m args below meth c s₁ B hml hv
  obtain ⟨rfl, hP, hK, hD0⟩ := hv
  have hx := B.exec
  have hb := B.bytes
  have hr := B.returns
  have hts := atoms_spec (ws := ws) B.pre
  have hown2 : s.vm.findClass own = some m.cls := by rw [← hown]; exact findClass_of_methodNamed B.named
  have hlocks := B.notSynchronized
  have hD : va_D (zA cs0) cs0.flatten := ⟨hD0.1, fun k q h => ⟨k, q.2, h⟩⟩
  have hl := lv_entry av (n := maxL) hn
  rw [lg_entry_eq]
  generalize (lg_sl av ++ List.replicate (maxL - (lg_sl av).length) Slot.unset).toArray = ls at hl ⊢
  rw [hlv] at hl
  exact body ⟨(p, l, e, (headSpec ws rm).room, s, m, av.toArray, below, meth, c), MQ below (zQ g rv post cs' (zA cs0)) av.toArray s 0 0 (zA cs0), g, zA cs0, maxL⟩ rfl rfl rfl ⟨⟨hx, hb, hml, hown2, hts⟩, hK, rfl⟩ ⟨rfl, rfl, hr, hlocks⟩ s.heap [] ls hP hD va_S.rf hl
section ZCs
variable {K : zK} {R0 : Room} {own : String} {cc : ByteArray} {Ts : List Cond} {n k : Nat} {cs : List va_W} {lv : List (Nat × Value)} {pc : Nat} {st : List Value}
theorem z_vret {S : Type} {rv : S → Option Value} {post : S → Prop} {cs' : S → List va_W} {A : Nat → Prop} (C : Cx K R0 own cc Ts) (R : Rx K none rv post cs' A) (hd : decode cc pc = .ok (.return_, 1)) (u : S) (hv : rv u = none) (hp : post u) (hc : cs = cs' u) : Z K 0 0 cs lv pc [] := by
  subst hc
  obtain ⟨hQ, hA, hr, hlk⟩ := R
  subst hA
  intro H locs ls hP hD hS hl
  rw [hQ]
  exact W.vret C.x C.b hr (fun t ht hW => ⟨⟨u, by rw [hv], hp, by rw [ht]; exact hP, hD⟩, hS.F ht⟩) hS.2.2 hd hlk
theorem z_iret {S : Type} {rv : S → Option Value} {post : S → Prop} {cs' : S → List va_W} {A : Nat → Prop} {v : Int32} (C : Cx K R0 own cc Ts) (R : Rx K (some .int) rv post cs' A) (hd : decode cc pc = .ok (.ireturn, 1)) (u : S) (hv : rv u = some (.int v)) (hp : post u) (hc : cs = cs' u) : Z K 0 0 cs lv pc [.int v] := by
  subst hc
  obtain ⟨hQ, hA, hr, hlk⟩ := R
  subst hA
  intro H locs ls hP hD hS hl
  rw [hQ]
  exact W.iret C.x C.b hr (fun t ht hW => ⟨⟨u, by rw [hv], hp, by rw [ht]; exact hP, hD⟩, hS.F ht⟩) hS.2.2 hd hlk
theorem z_bret {S : Type} {rv : S → Option Value} {post : S → Prop} {cs' : S → List va_W} {A : Nat → Prop} {v : Bool} (C : Cx K R0 own cc Ts) (R : Rx K (some .boolean) rv post cs' A) (hd : decode cc pc = .ok (.ireturn, 1)) (u : S) (hv : rv u = some (.int (bI v))) (hp : post u) (hc : cs = cs' u) : Z K 0 0 cs lv pc [.int (bI v)] := by
  subst hc
  obtain ⟨hQ, hA, hr, hlk⟩ := R
  subst hA
  intro H locs ls hP hD hS hl
  rw [hQ]
  exact W.zret C.x C.b hr (by cases v <;> rfl) (fun t ht hW => ⟨⟨u, by rw [hv], hp, by rw [ht]; exact hP, hD⟩, hS.F ht⟩) hS.2.2 hd hlk
theorem z_run {S : Type} {rv : S → Option Value} {post : S → Prop} {cs' : S → List va_W} {wc : List va_W} {stk rest : List Value} {a : Array Value}
    (hrun : ∀ (H : Heap) (locs : List Loc) (ls : Array Slot), va_P K.g.1 vwCl cs.flatten H → va_D K.A cs.flatten → lv_has ls K.nL lv → va_Run K.p K.l K.e K.R K.s K.m K.args K.below K.meth K.c H locs n k 0 0 (F0 K.m pc ls stk) rest (zQ K.g rv post cs' (zA wc) a) (zA wc))
    (isC : List Nat) (hC : isC.map (fun i => cs[i]?) = wc.map some) (hlc : ∀ x ∈ isC, x < cs.length) (src : List Nat) (hn : va_nd src = true) (hdis : ∀ x ∈ src, x ∉ isC) (cs2 : S → List va_W) (hs : ∀ u, src.map (fun i => (cs ++ cs' u)[i]?) = (cs2 u).map some) (q : Nat) (hq : pc + 3 = q)
    (kk : ∀ u, post u → Z K n k (cs2 u) lv q ((rv u).toList ++ rest)) : Z K n k cs lv pc stk := by
  subst hq
  intro H locs ls hP hD hS hl T hT X
  obtain ⟨v, st₀, t, T', L, h0, X', hL, e1, e2, ⟨⟨u, hv, hp, hP1, hD1⟩, hz, hk⟩, sts⟩ := hrun H locs ls hP hD hl T hT X
  cases hv
  rw [h0] at hz hk
  have hfree := zA_sub hD isC hC
  obtain ⟨hP2, hD2⟩ := zjoin (H1 := T'.heap) hP hD isC hC src (hs u) hn hdis hlc (fun q h1 h2 => by rw [e1]; exact hk q h1 h2) (by rw [e1]; exact hP1) hD1
  obtain ⟨t2, a1, b1⟩ := kk u hp T'.heap (locs ++ L) ls hP2 hD2 ⟨Nat.le_trans hS.1 (by rw [e1]; exact hz), fun q h1 h2 => by rw [e1, hk q (Nat.lt_of_lt_of_le h1 hS.1) (fun z => h2 (hfree q z))]; exact hS.2.1 q h1 h2, fun q hq => by
    rcases List.mem_append.mp hq with h | h
    · exact hS.2.2 q h
    · exact hfree _ (hL q h)⟩ hl T' rfl X'
  exact ⟨t2, sts t2 a1, b1⟩
theorem z_callV {S : Type} {rv : S → Option Value} {post : S → Prop} {cs' : S → List va_W} {wc : List va_W} {stk : List Value} {y : MethodName} {ws ws' : List Cond} {rm : Room} {Cn : String} {index maxL ci na N : Nat} {T : u_T} {bytes : ByteArray} {ret : Option FieldType} {b : Nat} {c : va_W} {fs : List Value}
    (C : Cx K R0 own cc Ts) (As rest : List Value) (hM : Met K.l y ws rm (zPre K.g (.ref b :: As) wc) (zQ K.g rv post cs' (zA wc)) 0 0 (zA wc)) (hG : GoodIn Ts (wsV own index Cn y ws)) (hw : ws = Cond.code y bytes maxL ret :: ws') (hrm1 : rm.cells = 0) (hrm2 : rm.slots = 0)
    (hd4 : y.cls = Cn ∧ y.cls ≠ "java/lang/invoke/MethodHandle" ∧ y.cls ≠ "java/lang/invoke/VarHandle" ∧ (parseMethodDescriptor y.desc).map (fun d => d.parameters.length) = some na) (hR4 : rm.frames + 1 ≤ R0.frames ∧ 8 + (maxL + 11) + rm.locals ≤ R0.locals) (hnk : n ≤ R0.cells ∧ k ≤ R0.slots)
    (i j : Nat) (hi : cs[i]? = some c) (he : c[j]? = some (b, .inr (ci, fs))) (hcl : vwCl[ci]? = some (Cn, T, N))
    (isC : List Nat) (hC : isC.map (fun i => cs[i]?) = wc.map some) (hnC : va_nd isC = true) (hlc : ∀ x ∈ isC, x < cs.length) (src : List Nat) (hn : va_nd src = true) (hdis : ∀ x ∈ src, x ∉ isC) (cs2 : S → List va_W) (hs : ∀ u, src.map (fun i => (cs ++ cs' u)[i]?) = (cs2 u).map some)
    (hnA : As.length = na) (hst : stk = As.reverse ++ .ref b :: rest) (hW8 : (rest.map fun v => v.category).sum ≤ 8) (hdg : decode cc pc = .ok (.invokevirtual index, 3)) (q : Nat) (hq : pc + 3 = q)
    (kk : ∀ u, post u → Z K n k (cs2 u) lv q ((rv u).toList ++ rest)) : Z K n k cs lv pc stk := by
  refine z_run (wc := wc) (a := (Value.ref b :: As).toArray) (fun H locs ls hP hD hl => ?_) isC hC hlc src hn hdis cs2 hs q hq kk
  exact va_runV (As := As) (rest := rest) C.1 hM (cwV na C.ts hG hw hrm1 hrm2 hd4 (by rw [C.r]; exact hR4)) ⟨zPre_blind _ _ _, va_recv C.ka hP hcl (zfl_get hi he), fun U hU hWm => ⟨rfl, by rw [hU]; exact zsubP hP isC hC, C.kp.warm hWm, (zsubD hD isC hnC hC).weaken (fun _ _ _ _ => trivial)⟩⟩ rfl hnA hl.1 hst (lv_room hW8) hdg (by rw [C.r]; exact hnk)
theorem z_callS {S : Type} {rv : S → Option Value} {post : S → Prop} {cs' : S → List va_W} {wc : List va_W} {stk : List Value} {y : MethodName} {ws ws' : List Cond} {rm : Room} {index maxL na : Nat} {bytes : ByteArray} {ret : Option FieldType}
    (C : Cx K R0 own cc Ts) (As rest : List Value) (hM : Met K.l y ws rm (zPre K.g As wc) (zQ K.g rv post cs' (zA wc)) 0 0 (zA wc)) (hG : GoodIn Ts (va_wsS own index y ws)) (hw : ws = Cond.code y bytes maxL ret :: ws') (hrm1 : rm.cells = 0) (hrm2 : rm.slots = 0)
    (hd4 : y.cls ≠ "java/lang/invoke/MethodHandle" ∧ y.cls ≠ "java/lang/invoke/VarHandle" ∧ (parseMethodDescriptor y.desc).map (fun d => d.parameters.length) = some na) (hR4 : rm.frames + 1 ≤ R0.frames ∧ 8 + (maxL + 11) + rm.locals ≤ R0.locals) (hnk : n ≤ R0.cells ∧ k ≤ R0.slots)
    (isC : List Nat) (hC : isC.map (fun i => cs[i]?) = wc.map some) (hnC : va_nd isC = true) (hlc : ∀ x ∈ isC, x < cs.length) (src : List Nat) (hn : va_nd src = true) (hdis : ∀ x ∈ src, x ∉ isC) (cs2 : S → List va_W) (hs : ∀ u, src.map (fun i => (cs ++ cs' u)[i]?) = (cs2 u).map some)
    (hnA : As.length = na) (hst : stk = As.reverse ++ rest) (hW8 : (rest.map fun v => v.category).sum ≤ 8) (hdg : decode cc pc = .ok (.invokestatic index, 3)) (q : Nat) (hq : pc + 3 = q)
    (kk : ∀ u, post u → Z K n k (cs2 u) lv q ((rv u).toList ++ rest)) : Z K n k cs lv pc stk := by
  refine z_run (wc := wc) (a := As.toArray) (fun H locs ls hP hD hl => ?_) isC hC hlc src hn hdis cs2 hs q hq kk
  exact va_runS (As := As) (rest := rest) C.1 hM (va_cwS na C.ts hG hw hrm1 hrm2 hd4 (by rw [C.r]; exact hR4)) ⟨zPre_blind _ _ _, fun U hU hWm => ⟨rfl, by rw [hU]; exact zsubP hP isC hC, C.kp.warm hWm, (zsubD hD isC hnC hC).weaken (fun _ _ _ _ => trivial)⟩⟩ rfl hnA hl.1 hst (lv_room hW8) hdg (by rw [C.r]; exact hnk)
theorem zrange_map {α : Type} : ∀ (l m : List α), (List.range l.length).map (fun i => (l ++ m)[i]?) = l.map some := by
  intro l m
  apply List.ext_getElem?
  intro i
  rw [List.getElem?_map, List.getElem?_map]
  by_cases h : i < l.length
  · rw [List.getElem?_range h]
    show some ((l ++ m)[i]?) = _
    rw [List.getElem?_append_left h, List.getElem?_eq_getElem h]
    rfl
  · rw [List.getElem?_eq_none (by rw [List.length_range]; omega), List.getElem?_eq_none (Nat.le_of_not_lt h)]
    rfl
theorem znd_range : ∀ (n a : Nat), va_nd (List.range' a n) = true
  | 0, _ => rfl
  | n + 1, a => by
    show (decide (a ∉ List.range' (a + 1) n) && va_nd (List.range' (a + 1) n)) = true
    rw [znd_range n (a + 1), Bool.and_true, decide_eq_true_eq]
    intro h
    have := List.mem_range'.mp h
    omega
/-- a call of a static method that sees no cell and changes none -/
theorem z_callP {S : Type} {rv : S → Option Value} {post : S → Prop} {stk : List Value} {y : MethodName} {ws ws' : List Cond} {rm : Room} {index maxL na : Nat} {bytes : ByteArray} {ret : Option FieldType}
    (C : Cx K R0 own cc Ts) (As rest : List Value) (hM : Met K.l y ws rm (zPre K.g As []) (zQ K.g rv post (fun _ => []) (zA [])) 0 0 (zA [])) (hG : GoodIn Ts (va_wsS own index y ws)) (hw : ws = Cond.code y bytes maxL ret :: ws') (hrm1 : rm.cells = 0) (hrm2 : rm.slots = 0)
    (hd4 : y.cls ≠ "java/lang/invoke/MethodHandle" ∧ y.cls ≠ "java/lang/invoke/VarHandle" ∧ (parseMethodDescriptor y.desc).map (fun d => d.parameters.length) = some na) (hR4 : rm.frames + 1 ≤ R0.frames ∧ 8 + (maxL + 11) + rm.locals ≤ R0.locals) (hnk : n ≤ R0.cells ∧ k ≤ R0.slots)
    (hnA : As.length = na) (hst : stk = As.reverse ++ rest) (hW8 : (rest.map fun v => v.category).sum ≤ 8) (hdg : decode cc pc = .ok (.invokestatic index, 3)) (q : Nat) (hq : pc + 3 = q)
    (kk : ∀ u, post u → Z K n k cs lv q ((rv u).toList ++ rest)) : Z K n k cs lv pc stk :=
  z_callS C As rest hM hG hw hrm1 hrm2 hd4 hR4 hnk [] rfl rfl (fun _ h => by cases h) (List.range cs.length) (by rw [List.range_eq_range']; exact znd_range _ _) (fun _ _ h => by cases h) (fun _ => cs) (fun _ => zrange_map cs []) hnA hst hW8 hdg q hq kk
/-- the same, of a nest mate's private method -/
theorem z_callN {S : Type} {rv : S → Option Value} {post : S → Prop} {stk : List Value} {y : MethodName} {ws ws' : List Cond} {rm : Room} {index maxL na : Nat} {bytes : ByteArray} {ret : Option FieldType} {host : String}
    (C : Cx K R0 own cc Ts) (As rest : List Value) (hM : Met K.l y ws rm (zPre K.g As []) (zQ K.g rv post (fun _ => []) (zA [])) 0 0 (zA [])) (hG : GoodIn Ts ws) (hw : ws = Cond.code y bytes maxL ret :: ws') (hrm1 : rm.cells = 0) (hrm2 : rm.slots = 0) (hnest : va_Nw (.methodLinkNest own index y host) K.s) (hini : Cond.initialized y.cls ∈ Ts) (hstat : Cond.static y ∈ Ts)
    (hd4 : y.cls ≠ "java/lang/invoke/MethodHandle" ∧ y.cls ≠ "java/lang/invoke/VarHandle" ∧ (parseMethodDescriptor y.desc).map (fun d => d.parameters.length) = some na) (hR4 : rm.frames + 1 ≤ R0.frames ∧ 8 + (maxL + 11) + rm.locals ≤ R0.locals) (hnk : n ≤ R0.cells ∧ k ≤ R0.slots)
    (hnA : As.length = na) (hst : stk = As.reverse ++ rest) (hW8 : (rest.map fun v => v.category).sum ≤ 8) (hdg : decode cc pc = .ok (.invokestatic index, 3)) (q : Nat) (hq : pc + 3 = q)
    (kk : ∀ u, post u → Z K n k cs lv q ((rv u).toList ++ rest)) : Z K n k cs lv pc stk := by
  refine z_run (wc := []) (a := As.toArray) (fun H locs ls hP hD hl => ?_) [] rfl (fun _ h => by cases h) (List.range cs.length) (by rw [List.range_eq_range']; exact znd_range _ _) (fun _ _ h => by cases h) (fun _ => cs) (fun _ => zrange_map cs []) q hq kk
  exact va_runSN (As := As) (rest := rest) C.1 hM ⟨va_cnB na C.ts hG hw hrm1 hrm2 hnest (C.ts _ hini) hd4 (by rw [C.r]; exact hR4), C.ts _ hstat, trivial⟩ ⟨zPre_blind _ _ _, fun U hU hWm => ⟨rfl, by rw [hU]; exact zsubP hP [] rfl, C.kp.warm hWm, (zsubD hD [] rfl rfl).weaken (fun _ _ _ _ => trivial)⟩⟩ rfl hnA hl.1 hst (lv_room hW8) hdg (by rw [C.r]; exact hnk)
theorem z_max (C : Cx K R0 own cc Ts) {index x y : Nat} (hw1 : Cond.methodLink own index Lib.Math.max.name ∈ Ts) (hw2 : Cond.static Lib.Math.max.name ∈ Ts) (hw3 : Cond.initialized "java/lang/Math" ∈ Ts) (hw4 : Cond.code Lib.Math.max.name Lib.Math.max.code 2 (some .int) ∈ Ts) (hf : 1 ≤ R0.frames ∧ (st.map fun v => v.category).sum + 13 ≤ R0.locals) (hnk : n ≤ R0.cells ∧ k ≤ R0.slots) (hx : x < 2 ^ 31) (hy : y < 2 ^ 31) (hd : decode cc pc = .ok (.invokestatic index, 3)) (q : Nat) (hq : pc + 3 = q) (kk : Z K n k cs lv q (.int (nI (max x y)) :: st)) : Z K n k cs lv pc (.int (nI y) :: .int (nI x) :: st) := by
  subst hq
  intro H locs ls hP hD hS hl
  refine va_mmax C.x C.b (by rw [C.ml]; exact hl.1.symm) C.ow (C.ts _ hw1) (C.ts _ hw2) (C.ts _ hw3) (C.ts _ hw4) (by rw [C.r]; exact hf.1) (by rw [C.r]; exact hf.2) (by rw [C.r]; exact hnk.1) (by rw [C.r]; exact hnk.2) hd ?_
  rw [zmax hx hy]
  exact kk H locs ls hP hD hS hl
theorem z_min (C : Cx K R0 own cc Ts) {index x y : Nat} (hw1 : Cond.methodLink own index Lib.Math.min.name ∈ Ts) (hw2 : Cond.static Lib.Math.min.name ∈ Ts) (hw3 : Cond.initialized "java/lang/Math" ∈ Ts) (hw4 : Cond.code Lib.Math.min.name Lib.Math.min.code 2 (some .int) ∈ Ts) (hf : 1 ≤ R0.frames ∧ (st.map fun v => v.category).sum + 13 ≤ R0.locals) (hnk : n ≤ R0.cells ∧ k ≤ R0.slots) (hx : x < 2 ^ 31) (hy : y < 2 ^ 31) (hd : decode cc pc = .ok (.invokestatic index, 3)) (q : Nat) (hq : pc + 3 = q) (kk : Z K n k cs lv q (.int (nI (min x y)) :: st)) : Z K n k cs lv pc (.int (nI y) :: .int (nI x) :: st) := by
  subst hq
  intro H locs ls hP hD hS hl
  refine va_mmin C.x C.b (by rw [C.ml]; exact hl.1.symm) C.ow (C.ts _ hw1) (C.ts _ hw2) (C.ts _ hw3) (C.ts _ hw4) (by rw [C.r]; exact hf.1) (by rw [C.r]; exact hf.2) (by rw [C.r]; exact hnk.1) (by rw [C.r]; exact hnk.2) hd ?_
  rw [zmin hx hy]
  exact kk H locs ls hP hD hS hl
/-- the whole of an int array of N copied onto another -/
theorem z_copy (C : Cx K R0 own cc Ts) {index : Nat} (hw1 : Cond.methodLink own index arraycopyName ∈ Ts) (hw2 : Cond.native arraycopyName ∈ Ts) (hw3 : Cond.static arraycopyName ∈ Ts) (hw4 : Cond.initialized "java/lang/System" ∈ Ts) (i0 j0 i1 j1 : Nat) {c0 c1 : va_W} {a0 a1 N : Nat} {f g : Nat → Int32} (h0 : cs[i0]? = some c0) (e0 : c0[j0]? = some (a0, .inl (K.g.2 0, N, .inl f))) (h1 : cs[i1]? = some c1) (e1 : c1[j1]? = some (a1, .inl (K.g.2 0, N, .inl g))) (hN : N < 2 ^ 31)
    (hf : 1 ≤ R0.frames ∧ (st.map fun v => v.category).sum + (nativeFrameWords "java/lang/System" "arraycopy" 5 + 11) ≤ R0.locals) (c2 : va_W) (hc2 : c1.set j1 (a1, .inl (K.g.2 0, N, .inl f)) = c2) (cs2 : List va_W) (hcs : cs.set i1 c2 = cs2) (hd : decode cc pc = .ok (.invokestatic index, 3)) (q : Nat) (hq : pc + 3 = q) (kk : Z K n k cs2 lv q st) : Z K n k cs lv pc (.int (nI N) :: .int (nI 0) :: .ref a1 :: .int (nI 0) :: .ref a0 :: st) := by
  subst hq
  subst hc2
  subst hcs
  have z0 : (nI 0).toNatClampNeg = 0 := nI_clamp (by decide)
  have zN : (nI N).toNatClampNeg = N := nI_clamp hN
  intro H locs ls hP hD hS hl
  refine va_copyi (ty := .int) C.x C.b (by rw [C.ml]; exact hl.1.symm) C.ow (C.ts _ hw1) (C.ts _ hw2) (C.ts _ hw3) (C.ts _ hw4) C.ka hP hD hS _ _ 0 0 (zfl_get h0 e0) (zfl_get h1 e1) rfl rfl rfl (nI_pos (by decide)) (nI_pos (by decide)) (nI_pos hN) (by rw [z0, zN]; omega) (by rw [z0, zN]; omega) (fun i _ => rfl) (by rw [C.r]; exact hf.1) (by rw [C.r]; exact hf.2) hd (fun H1 locs1 hP1 hD1 hS1 => ?_)
  rw [z0, zN] at hP1 hD1
  rw [← zfl_set _ h1 (zlen e1)] at hP1 hD1
  refine z_arr (f := va_cpy f g 0 0 N) (g := f) i1 j1 (c := c1.set j1 (a1, .inl (K.g.2 0, N, .inl (va_cpy f g 0 0 N)))) (by rw [List.getElem?_set_self (List.getElem?_eq_some_iff.mp h1).1]) (by rw [List.getElem?_set_self (zlen e1)]) (fun y hy => by rw [pk_cpy_in (Nat.zero_le _) (by omega)]; congr 1; omega) _ rfl _ rfl ?_ H1 locs1 ls hP1 hD1 hS1 hl
  rw [List.set_set, List.set_set]
  exact kk
end ZCs
end
section
/-! WS: the worlds: a Board, a Press, the Pad, the History, the object itself, the reference; and small functions on numbers. -/
def wB (g : zG) (b st : Nat → Nat) (r : Nat → Nat → Nat) (n : Nat) : va_W := [(b 0, .inr (0, [.ref (b 1), .ref (b 2), .int (nI n)])), (b 1, .inl (g.2 0, 7, .inl (fun y => nI (st y)))), (b 2, .inl (g.2 1, 4, .inr (.inr (.inr (.inr (fun i => some (b (3 + i)))))))), (b 3, .inl (g.2 0, 12, .inl (fun y => nI (r 0 y)))), (b 4, .inl (g.2 0, 12, .inl (fun y => nI (r 1 y)))), (b 5, .inl (g.2 0, 12, .inl (fun y => nI (r 2 y)))), (b 6, .inl (g.2 0, 12, .inl (fun y => nI (r 3 y))))]
def wP (g : zG) (q a0 a1 a2 a3 a4 a5 a6 a7 : Nat → Nat) (s0 s1 s2 s3 s4 s5 s6 s7 s8 s9 : Nat) : va_W := [(q 0, .inr (3, [.ref (q 1), .ref (q 2), .ref (q 3), .ref (q 4), .ref (q 5), .ref (q 6), .ref (q 7), .ref (q 8), .int (nI s0), .int (nI s1), .int (nI s2), .int (nI s3), .int (nI s4), .int (nI s5), .int (nI s6), .int (nI s7), .int (nI s8), .int (nI s9)])), (q 1, .inl (g.2 0, 12, .inl (fun y => nI (a0 y)))), (q 2, .inl (g.2 0, 12, .inl (fun y => nI (a1 y)))), (q 3, .inl (g.2 0, 12, .inl (fun y => nI (a2 y)))), (q 4, .inl (g.2 0, 12, .inl (fun y => nI (a3 y)))), (q 5, .inl (g.2 0, 12, .inl (fun y => nI (a4 y)))), (q 6, .inl (g.2 0, 12, .inl (fun y => nI (a5 y)))), (q 7, .inl (g.2 0, 12, .inl (fun y => nI (a6 y)))), (q 8, .inl (g.2 0, 12, .inl (fun y => nI (a7 y))))]
def wPd (g : zG) (p fb tx : Nat → Nat) (len ex : Nat) (pl sh hu du : Int32) : va_W := [(p 0, .inr (2, [.ref (fb 0), .int (nI len), .ref (p 1), .int (nI ex), .int pl, .int sh, .int hu, .int du])), (p 1, .inl (g.2 0, 60, .inl (fun y => nI (tx y))))]
def wH (g : zG) (h : Nat → Nat) (hb : Nat → Nat → Nat) (kp nx : Nat) : va_W := [(h 0, .inr (1, [.int (nI kp), .ref (h 1), .int (nI nx)])), (h 1, .inl (g.2 2, 6, .inr (.inr (.inr (.inr (fun i => some (hb i 0)))))))]
def wX (g : zG) (x bd tr q p h : Nat → Nat) (sb : Nat → Nat → Nat) (sv : Nat → Bool) : va_W := [(x 0, .inr (4, [.ref (bd 0), .ref (tr 0), .ref (q 0), .ref (p 0), .ref (h 0), .ref (x 1), .ref (x 2)])), (x 1, .inl (g.2 2, 2, .inr (.inr (.inr (.inr (fun i => some (sb i 0))))))), (x 2, .inl (g.2 3, 2, .inl (fun y => bI (sv y))))]
def wM (g : zG) (y all kept hist : Nat → Nat) (hl : Nat) (slo sav beg prt frm txt : Nat → Nat) (tl sp : Nat) (tol : Nat → Nat) (rd : Nat) : va_W := [(y 0, .inr (5, [.ref (y 1), .ref (y 2), .ref (y 3), .int (nI hl), .ref (y 4), .ref (y 5), .ref (y 6), .ref (y 7), .ref (y 8), .ref (y 9), .int (nI tl), .int (nI sp), .ref (y 10), .int (nI rd)])), (y 1, .inl (g.2 0, 56, .inl (fun y => nI (all y)))), (y 2, .inl (g.2 0, 56, .inl (fun y => nI (kept y)))), (y 3, .inl (g.2 0, 336, .inl (fun y => nI (hist y)))), (y 4, .inl (g.2 0, 112, .inl (fun y => nI (slo y)))), (y 5, .inl (g.2 0, 2, .inl (fun y => nI (sav y)))), (y 6, .inl (g.2 0, 12, .inl (fun y => nI (beg y)))), (y 7, .inl (g.2 0, 12, .inl (fun y => nI (prt y)))), (y 8, .inl (g.2 0, 12, .inl (fun y => nI (frm y)))), (y 9, .inl (g.2 0, 60, .inl (fun y => nI (txt y)))), (y 10, .inl (g.2 0, 60, .inl (fun y => nI (tol y))))]
theorem wB_row {g : zG} {b st : Nat → Nat} {r : Nat → Nat → Nat} {n i : Nat} (h : i < 4) : (wB g b st r n)[3 + i]? = some (b (3 + i), .inl (g.2 0, 12, .inl (fun y => nI (r i y)))) := by
  rcases (show i = 0 ∨ i = 1 ∨ i = 2 ∨ i = 3 by omega) with rfl | rfl | rfl | rfl <;> rfl
theorem wB_set {g : zG} {b st : Nat → Nat} {r : Nat → Nat → Nat} {n i : Nat} {f : Nat → Nat} (h : i < 4) : (wB g b st r n).set (3 + i) (b (3 + i), .inl (g.2 0, 12, .inl (fun y => nI (f y)))) = wB g b st (un r i f) n := by
  rcases (show i = 0 ∨ i = 1 ∨ i = 2 ∨ i = 3 by omega) with rfl | rfl | rfl | rfl <;> rfl
section WSs
variable {K : zK} {n k : Nat} {cs : List va_W} {lv : List (Nat × Value)} {pc : Nat} {st : List Value}
theorem zset_get {cs : List va_W} {i : Nat} {c d : va_W} (h : cs[i]? = some c) : (cs.set i d)[i]? = some d := List.getElem?_set_self (List.getElem?_eq_some_iff.mp h).1
/-- a board's content, told otherwise -/
theorem z_wB (i : Nat) {b s1 : Nat → Nat} {r1 : Nat → Nat → Nat} {m : Nat} (hi : cs[i]? = some (wB K.g b s1 r1 m)) (s2 : Nat → Nat) (r2 : Nat → Nat → Nat) (hst : ∀ y, y < 7 → s1 y = s2 y) (hr : ∀ j, j < 4 → ∀ y, y < 12 → r1 j y = r2 j y) (cs2 : List va_W) (hcs : cs.set i (wB K.g b s2 r2 m) = cs2) (kk : Z K n k cs2 lv pc st) : Z K n k cs lv pc st := by
  refine z_arr (g := fun y => nI (s2 y)) i 1 hi rfl (fun y hy => by rw [hst y hy]) (wB K.g b s2 r1 m) rfl _ rfl ?_
  refine z_arr (g := fun y => nI (r2 0 y)) i 3 (zset_get hi) rfl (fun y hy => by rw [hr 0 (by decide) y hy]) (wB K.g b s2 (un r1 0 (r2 0)) m) rfl _ rfl ?_
  refine z_arr (g := fun y => nI (r2 1 y)) i 4 (zset_get (zset_get hi)) rfl (fun y hy => by rw [← hr 1 (by decide) y hy]; rfl) (wB K.g b s2 (un (un r1 0 (r2 0)) 1 (r2 1)) m) rfl _ rfl ?_
  refine z_arr (g := fun y => nI (r2 2 y)) i 5 (zset_get (zset_get (zset_get hi))) rfl (fun y hy => by rw [← hr 2 (by decide) y hy]; rfl) (wB K.g b s2 (un (un (un r1 0 (r2 0)) 1 (r2 1)) 2 (r2 2)) m) rfl _ rfl ?_
  refine z_arr (g := fun y => nI (r2 3 y)) i 6 (zset_get (zset_get (zset_get (zset_get hi)))) rfl (fun y hy => by rw [← hr 3 (by decide) y hy]; rfl) (wB K.g b s2 r2 m) rfl _ rfl ?_
  rw [List.set_set, List.set_set, List.set_set, List.set_set, hcs]
  exact kk
end WSs
/-- in a range, as Booleans -/
def rg (x lo hi : Int) : Bool := decide (lo ≤ x ∧ x ≤ hi)
theorem rg_t {x lo hi : Int} (h : lo ≤ x) (h2 : x ≤ hi) : rg x lo hi = true := decide_eq_true ⟨h, h2⟩
theorem rg_f {x lo hi : Int} (h : ¬ (lo ≤ x ∧ x ≤ hi)) : rg x lo hi = false := decide_eq_false h
theorem rg_i {x lo hi : Int} (h : rg x lo hi = true) : lo ≤ x ∧ x ≤ hi := of_decide_eq_true h
theorem rg_n {x lo hi : Int} (h : rg x lo hi = false) : ¬ (lo ≤ x ∧ x ≤ hi) := of_decide_eq_false h
/-- an int that is in a range of numbers that are not negative -/
theorem rg_nI {x : Int32} {lo hi : Nat} (h : rg x.toInt lo hi = true) : ∃ j : Nat, lo ≤ j ∧ j ≤ hi ∧ x = nI j := by
  obtain ⟨h1, h2⟩ := rg_i h
  have hx : ¬ x < 0 := by
    rw [Int32.lt_iff_toInt_lt, Int32.toInt_zero]
    omega
  obtain ⟨j, hj, rfl⟩ := nI_of hx
  rw [nI_toInt hj] at h1 h2
  exact ⟨j, by omega, by omega, rfl⟩
/-- racks that so many hundreds need -/
def nd (d h : Nat) : Nat := (h + d - 1) / d
theorem nd_le {d h : Nat} (hd : 0 < d) : nd d h ≤ h := by
  unfold nd
  rcases Nat.eq_zero_or_pos h with rfl | hh
  · rw [Nat.zero_add, Nat.div_eq_of_lt (by omega)]
    exact Nat.le_refl 0
  · refine Nat.div_le_of_le_mul ?_
    have := Nat.mul_le_mul hd hh
    have h2 : d * h ≥ h + d - 1 := by
      obtain ⟨a, rfl⟩ : ∃ a, d = a + 1 := ⟨d - 1, by omega⟩
      obtain ⟨c, rfl⟩ : ∃ c, h = c + 1 := ⟨h - 1, by omega⟩
      have : (a + 1) * (c + 1) = a * c + a + c + 1 := by rw [Nat.add_mul, Nat.mul_add]; omega
      omega
    exact h2
/-- how many below n are so -/
def ct (p : Nat → Bool) : Nat → Nat
  | 0 => 0
  | n + 1 => ct p n + (if p n = true then 1 else 0)
theorem ct_s {p : Nat → Bool} {n : Nat} (h : p n = true) : ct p (n + 1) = ct p n + 1 := by
  show ct p n + (if p n = true then 1 else 0) = _
  rw [if_pos h]
theorem ct_f {p : Nat → Bool} {n : Nat} (h : p n = false) : ct p (n + 1) = ct p n := by
  show ct p n + (if p n = true then 1 else 0) = _
  rw [if_neg (by rw [h]; decide)]
  rfl
theorem ct_le (p : Nat → Bool) : ∀ n, ct p n ≤ n
  | 0 => Nat.le_refl 0
  | n + 1 => by
    have := ct_le p n
    show ct p n + (if p n = true then 1 else 0) ≤ n + 1
    split <;> omega
theorem ct_lt {p : Nat → Bool} {j : Nat} (h : p j = false) : ∀ n, j < n → ct p n < n
  | 0, hj => by omega
  | n + 1, hj => by
    by_cases e : j = n
    · subst e
      rw [ct_f h]
      have := ct_le p j
      omega
    · have := ct_lt h n (by omega)
      show ct p n + (if p n = true then 1 else 0) < n + 1
      split <;> omega
def sm (f : Nat → Nat) : Nat → Nat
  | 0 => 0
  | n + 1 => sm f n + f n
theorem sm_s (f : Nat → Nat) (n : Nat) : sm f (n + 1) = sm f n + f n := rfl
theorem sm_le {f : Nat → Nat} {B : Nat} : ∀ n, (∀ j, j < n → f j ≤ B) → sm f n ≤ n * B
  | 0, _ => by rw [Nat.zero_mul]; exact Nat.le_refl 0
  | n + 1, h => by
    have h1 := sm_le n (fun j hj => h j (by omega))
    have h2 := h n (by omega)
    rw [sm_s, Nat.add_mul]
    omega
theorem sm_cg {f g : Nat → Nat} : ∀ n, (∀ j, j < n → f j = g j) → sm f n = sm g n
  | 0, _ => rfl
  | n + 1, h => by rw [sm_s, sm_s, sm_cg n (fun j hj => h j (by omega)), h n (by omega)]
def mx (f : Nat → Nat) : Nat → Nat
  | 0 => 0
  | n + 1 => max (mx f n) (f n)
theorem mx_s (f : Nat → Nat) (n : Nat) : mx f (n + 1) = max (mx f n) (f n) := rfl
theorem mx_le {f : Nat → Nat} {B : Nat} : ∀ n, (∀ j, j < n → f j ≤ B) → mx f n ≤ B
  | 0, _ => Nat.zero_le B
  | n + 1, h => by
    have h1 := mx_le n (fun j hj => h j (by omega))
    have h2 := h n (by omega)
    rw [mx_s]
    omega
theorem mx_cg {f g : Nat → Nat} : ∀ n, (∀ j, j < n → f j = g j) → mx f n = mx g n
  | 0, _ => rfl
  | n + 1, h => by rw [mx_s, mx_s, mx_cg n (fun j hj => h j (by omega)), h n (by omega)]
end
