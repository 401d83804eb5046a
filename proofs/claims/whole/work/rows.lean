section
-- ===== PART A: goes FIRST, ahead of the names: the tables' words, and 'selects' of the private methods out of them =====
/-- a private method of a class that the tables say can be made, by its rows of tables_1 -/
def lw_okq (q : MethodName × Nat) : Prop := (q.1.cls ≠ "java/lang/invoke/MethodHandle" ∧ q.1.cls ≠ "java/lang/invoke/VarHandle") ∧ Cond.instantiable q.1.cls q.2 ∈ tables_1 ∧ Cond.privateMethod q.1 ∈ tables_1 ∧ Cond.instanceMethod q.1 ∈ tables_1
theorem lw_p0 : lw_okq (⟨"PrintRacks$Pad", "takes", "(I)Z"⟩, 8) := ⟨⟨by decide +kernel, by decide +kernel⟩, List.mem_of_getElem? (i := 125) (by decide +kernel), List.mem_of_getElem? (i := 252) (by decide +kernel), List.mem_of_getElem? (i := 253) (by decide +kernel)⟩
theorem lw_p1 : lw_okq (⟨"PrintRacks$Pad", "takesLetter", "(IC)Z"⟩, 8) := ⟨⟨by decide +kernel, by decide +kernel⟩, List.mem_of_getElem? (i := 125) (by decide +kernel), List.mem_of_getElem? (i := 257) (by decide +kernel), List.mem_of_getElem? (i := 258) (by decide +kernel)⟩
theorem lw_p2 : lw_okq (⟨"PrintRacks$Pad", "takesBehindHundreds", "(II)Z"⟩, 8) := ⟨⟨by decide +kernel, by decide +kernel⟩, List.mem_of_getElem? (i := 125) (by decide +kernel), List.mem_of_getElem? (i := 261) (by decide +kernel), List.mem_of_getElem? (i := 262) (by decide +kernel)⟩
theorem lw_p3 : lw_okq (⟨"PrintRacks$Pad", "takesEndOfJob", "(I)Z"⟩, 8) := ⟨⟨by decide +kernel, by decide +kernel⟩, List.mem_of_getElem? (i := 125) (by decide +kernel), List.mem_of_getElem? (i := 265) (by decide +kernel), List.mem_of_getElem? (i := 266) (by decide +kernel)⟩
theorem lw_p4 : lw_okq (⟨"PrintRacks$Pad", "endJob", "()V"⟩, 8) := ⟨⟨by decide +kernel, by decide +kernel⟩, List.mem_of_getElem? (i := 125) (by decide +kernel), List.mem_of_getElem? (i := 269) (by decide +kernel), List.mem_of_getElem? (i := 270) (by decide +kernel)⟩
theorem lw_p5 : lw_okq (⟨"PrintRacks$Pad", "takesBehindDue", "(II)Z"⟩, 8) := ⟨⟨by decide +kernel, by decide +kernel⟩, List.mem_of_getElem? (i := 125) (by decide +kernel), List.mem_of_getElem? (i := 274) (by decide +kernel), List.mem_of_getElem? (i := 275) (by decide +kernel)⟩
theorem lw_p6 : lw_okq (⟨"PrintRacks", "isJob", "(I)Z"⟩, 7) := ⟨⟨by decide +kernel, by decide +kernel⟩, List.mem_of_getElem? (i := 10) (by decide +kernel), List.mem_of_getElem? (i := 287) (by decide +kernel), List.mem_of_getElem? (i := 288) (by decide +kernel)⟩
theorem lw_p7 : lw_okq (⟨"PrintRacks", "lateSumOf", "(LPrintRacks$Board;)I"⟩, 7) := ⟨⟨by decide +kernel, by decide +kernel⟩, List.mem_of_getElem? (i := 10) (by decide +kernel), List.mem_of_getElem? (i := 304) (by decide +kernel), List.mem_of_getElem? (i := 305) (by decide +kernel)⟩
theorem lw_p8 : lw_okq (⟨"PrintRacks$Press", "clear", "()V"⟩, 18) := ⟨⟨by decide +kernel, by decide +kernel⟩, List.mem_of_getElem? (i := 49) (by decide +kernel), List.mem_of_getElem? (i := 312) (by decide +kernel), List.mem_of_getElem? (i := 313) (by decide +kernel)⟩
theorem lw_p9 : lw_okq (⟨"PrintRacks$Press", "makeReady", "(LPrintRacks$Board;I)V"⟩, 18) := ⟨⟨by decide +kernel, by decide +kernel⟩, List.mem_of_getElem? (i := 49) (by decide +kernel), List.mem_of_getElem? (i := 316) (by decide +kernel), List.mem_of_getElem? (i := 317) (by decide +kernel)⟩
theorem lw_p10 : lw_okq (⟨"PrintRacks$Press", "printJob", "(LPrintRacks$Board;II)V"⟩, 18) := ⟨⟨by decide +kernel, by decide +kernel⟩, List.mem_of_getElem? (i := 49) (by decide +kernel), List.mem_of_getElem? (i := 323) (by decide +kernel), List.mem_of_getElem? (i := 324) (by decide +kernel)⟩
theorem lw_p11 : lw_okq (⟨"PrintRacks$Press", "whenRacksAreFree", "(III)I"⟩, 18) := ⟨⟨by decide +kernel, by decide +kernel⟩, List.mem_of_getElem? (i := 49) (by decide +kernel), List.mem_of_getElem? (i := 328) (by decide +kernel), List.mem_of_getElem? (i := 329) (by decide +kernel)⟩
theorem lw_p12 : lw_okq (⟨"PrintRacks$Press", "dryJob", "(LPrintRacks$Board;I)V"⟩, 18) := ⟨⟨by decide +kernel, by decide +kernel⟩, List.mem_of_getElem? (i := 49) (by decide +kernel), List.mem_of_getElem? (i := 333) (by decide +kernel), List.mem_of_getElem? (i := 334) (by decide +kernel)⟩
theorem lw_p13 : lw_okq (⟨"PrintRacks", "lateSumIfExchanged", "(II)I"⟩, 7) := ⟨⟨by decide +kernel, by decide +kernel⟩, List.mem_of_getElem? (i := 10) (by decide +kernel), List.mem_of_getElem? (i := 398) (by decide +kernel), List.mem_of_getElem? (i := 399) (by decide +kernel)⟩
theorem lw_p14 : lw_okq (⟨"PrintRacks", "lateSumIfFirst", "(I)I"⟩, 7) := ⟨⟨by decide +kernel, by decide +kernel⟩, List.mem_of_getElem? (i := 10) (by decide +kernel), List.mem_of_getElem? (i := 410) (by decide +kernel), List.mem_of_getElem? (i := 411) (by decide +kernel)⟩
theorem lw_p15 : lw_okq (⟨"PrintRacksModel", "mostNeeded", "()I"⟩, 14) := ⟨⟨by decide +kernel, by decide +kernel⟩, List.mem_of_getElem? (i := 455) (by decide +kernel), List.mem_of_getElem? (i := 520) (by decide +kernel), List.mem_of_getElem? (i := 521) (by decide +kernel)⟩
def lw_privs_1 : List (MethodName × Nat) := [(⟨"PrintRacks$Pad", "takes", "(I)Z"⟩, 8), (⟨"PrintRacks$Pad", "takesLetter", "(IC)Z"⟩, 8), (⟨"PrintRacks$Pad", "takesBehindHundreds", "(II)Z"⟩, 8), (⟨"PrintRacks$Pad", "takesEndOfJob", "(I)Z"⟩, 8), (⟨"PrintRacks$Pad", "endJob", "()V"⟩, 8), (⟨"PrintRacks$Pad", "takesBehindDue", "(II)Z"⟩, 8), (⟨"PrintRacks", "isJob", "(I)Z"⟩, 7), (⟨"PrintRacks", "lateSumOf", "(LPrintRacks$Board;)I"⟩, 7), (⟨"PrintRacks$Press", "clear", "()V"⟩, 18), (⟨"PrintRacks$Press", "makeReady", "(LPrintRacks$Board;I)V"⟩, 18), (⟨"PrintRacks$Press", "printJob", "(LPrintRacks$Board;II)V"⟩, 18), (⟨"PrintRacks$Press", "whenRacksAreFree", "(III)I"⟩, 18), (⟨"PrintRacks$Press", "dryJob", "(LPrintRacks$Board;I)V"⟩, 18), (⟨"PrintRacks", "lateSumIfExchanged", "(II)I"⟩, 7), (⟨"PrintRacks", "lateSumIfFirst", "(I)I"⟩, 7), (⟨"PrintRacksModel", "mostNeeded", "()I"⟩, 14)]
theorem lw_r1 : ∀ q ∈ lw_privs_1, lw_okq q := List.forall_mem_cons.mpr ⟨lw_p0, List.forall_mem_cons.mpr ⟨lw_p1, List.forall_mem_cons.mpr ⟨lw_p2, List.forall_mem_cons.mpr ⟨lw_p3, List.forall_mem_cons.mpr ⟨lw_p4, List.forall_mem_cons.mpr ⟨lw_p5, List.forall_mem_cons.mpr ⟨lw_p6, List.forall_mem_cons.mpr ⟨lw_p7, List.forall_mem_cons.mpr ⟨lw_p8, List.forall_mem_cons.mpr ⟨lw_p9, List.forall_mem_cons.mpr ⟨lw_p10, List.forall_mem_cons.mpr ⟨lw_p11, List.forall_mem_cons.mpr ⟨lw_p12, List.forall_mem_cons.mpr ⟨lw_p13, List.forall_mem_cons.mpr ⟨lw_p14, List.forall_mem_cons.mpr ⟨lw_p15, fun _ h => absurd h List.not_mem_nil⟩⟩⟩⟩⟩⟩⟩⟩⟩⟩⟩⟩⟩⟩⟩⟩
theorem lw_p16 : lw_okq (⟨"PrintRacksModel", "racksOf", "(I)I"⟩, 14) := ⟨⟨by decide +kernel, by decide +kernel⟩, List.mem_of_getElem? (i := 455) (by decide +kernel), List.mem_of_getElem? (i := 524) (by decide +kernel), List.mem_of_getElem? (i := 525) (by decide +kernel)⟩
theorem lw_p17 : lw_okq (⟨"PrintRacksModel", "its", "(II)I"⟩, 14) := ⟨⟨by decide +kernel, by decide +kernel⟩, List.mem_of_getElem? (i := 455) (by decide +kernel), List.mem_of_getElem? (i := 528) (by decide +kernel), List.mem_of_getElem? (i := 529) (by decide +kernel)⟩
theorem lw_p18 : lw_okq (⟨"PrintRacksModel", "racksFor", "(I)I"⟩, 14) := ⟨⟨by decide +kernel, by decide +kernel⟩, List.mem_of_getElem? (i := 455) (by decide +kernel), List.mem_of_getElem? (i := 532) (by decide +kernel), List.mem_of_getElem? (i := 533) (by decide +kernel)⟩
theorem lw_p19 : lw_okq (⟨"PrintRacksModel", "changes", "()V"⟩, 14) := ⟨⟨by decide +kernel, by decide +kernel⟩, List.mem_of_getElem? (i := 455) (by decide +kernel), List.mem_of_getElem? (i := 536) (by decide +kernel), List.mem_of_getElem? (i := 537) (by decide +kernel)⟩
theorem lw_p20 : lw_okq (⟨"PrintRacksModel", "puts", "(IIII)V"⟩, 14) := ⟨⟨by decide +kernel, by decide +kernel⟩, List.mem_of_getElem? (i := 455) (by decide +kernel), List.mem_of_getElem? (i := 545) (by decide +kernel), List.mem_of_getElem? (i := 546) (by decide +kernel)⟩
theorem lw_p21 : lw_okq (⟨"PrintRacksModel", "isJob", "(I)Z"⟩, 14) := ⟨⟨by decide +kernel, by decide +kernel⟩, List.mem_of_getElem? (i := 455) (by decide +kernel), List.mem_of_getElem? (i := 553) (by decide +kernel), List.mem_of_getElem? (i := 554) (by decide +kernel)⟩
theorem lw_p22 : lw_okq (⟨"PrintRacksModel", "moves", "(II)V"⟩, 14) := ⟨⟨by decide +kernel, by decide +kernel⟩, List.mem_of_getElem? (i := 455) (by decide +kernel), List.mem_of_getElem? (i := 557) (by decide +kernel), List.mem_of_getElem? (i := 558) (by decide +kernel)⟩
theorem lw_p23 : lw_okq (⟨"PrintRacksModel", "exchanges", "(II)V"⟩, 14) := ⟨⟨by decide +kernel, by decide +kernel⟩, List.mem_of_getElem? (i := 455) (by decide +kernel), List.mem_of_getElem? (i := 561) (by decide +kernel), List.mem_of_getElem? (i := 562) (by decide +kernel)⟩
theorem lw_p24 : lw_okq (⟨"PrintRacksModel", "lateAll", "()I"⟩, 14) := ⟨⟨by decide +kernel, by decide +kernel⟩, List.mem_of_getElem? (i := 455) (by decide +kernel), List.mem_of_getElem? (i := 569) (by decide +kernel), List.mem_of_getElem? (i := 570) (by decide +kernel)⟩
theorem lw_p25 : lw_okq (⟨"PrintRacksModel", "prints", "()V"⟩, 14) := ⟨⟨by decide +kernel, by decide +kernel⟩, List.mem_of_getElem? (i := 455) (by decide +kernel), List.mem_of_getElem? (i := 573) (by decide +kernel), List.mem_of_getElem? (i := 574) (by decide +kernel)⟩
theorem lw_p26 : lw_okq (⟨"PrintRacksModel", "readyFor", "(I)I"⟩, 14) := ⟨⟨by decide +kernel, by decide +kernel⟩, List.mem_of_getElem? (i := 455) (by decide +kernel), List.mem_of_getElem? (i := 577) (by decide +kernel), List.mem_of_getElem? (i := 578) (by decide +kernel)⟩
theorem lw_p27 : lw_okq (⟨"PrintRacksModel", "plateFor", "(I)I"⟩, 14) := ⟨⟨by decide +kernel, by decide +kernel⟩, List.mem_of_getElem? (i := 455) (by decide +kernel), List.mem_of_getElem? (i := 581) (by decide +kernel), List.mem_of_getElem? (i := 582) (by decide +kernel)⟩
theorem lw_p28 : lw_okq (⟨"PrintRacksModel", "washFor", "(I)I"⟩, 14) := ⟨⟨by decide +kernel, by decide +kernel⟩, List.mem_of_getElem? (i := 455) (by decide +kernel), List.mem_of_getElem? (i := 585) (by decide +kernel), List.mem_of_getElem? (i := 586) (by decide +kernel)⟩
theorem lw_p29 : lw_okq (⟨"PrintRacksModel", "taken", "(II)I"⟩, 14) := ⟨⟨by decide +kernel, by decide +kernel⟩, List.mem_of_getElem? (i := 455) (by decide +kernel), List.mem_of_getElem? (i := 589) (by decide +kernel), List.mem_of_getElem? (i := 590) (by decide +kernel)⟩
theorem lw_p30 : lw_okq (⟨"PrintRacksModel", "dry", "(I)I"⟩, 14) := ⟨⟨by decide +kernel, by decide +kernel⟩, List.mem_of_getElem? (i := 455) (by decide +kernel), List.mem_of_getElem? (i := 593) (by decide +kernel), List.mem_of_getElem? (i := 594) (by decide +kernel)⟩
theorem lw_p31 : lw_okq (⟨"PrintRacksModel", "sumOf", "(I)I"⟩, 14) := ⟨⟨by decide +kernel, by decide +kernel⟩, List.mem_of_getElem? (i := 455) (by decide +kernel), List.mem_of_getElem? (i := 597) (by decide +kernel), List.mem_of_getElem? (i := 598) (by decide +kernel)⟩
def lw_privs_2 : List (MethodName × Nat) := [(⟨"PrintRacksModel", "racksOf", "(I)I"⟩, 14), (⟨"PrintRacksModel", "its", "(II)I"⟩, 14), (⟨"PrintRacksModel", "racksFor", "(I)I"⟩, 14), (⟨"PrintRacksModel", "changes", "()V"⟩, 14), (⟨"PrintRacksModel", "puts", "(IIII)V"⟩, 14), (⟨"PrintRacksModel", "isJob", "(I)Z"⟩, 14), (⟨"PrintRacksModel", "moves", "(II)V"⟩, 14), (⟨"PrintRacksModel", "exchanges", "(II)V"⟩, 14), (⟨"PrintRacksModel", "lateAll", "()I"⟩, 14), (⟨"PrintRacksModel", "prints", "()V"⟩, 14), (⟨"PrintRacksModel", "readyFor", "(I)I"⟩, 14), (⟨"PrintRacksModel", "plateFor", "(I)I"⟩, 14), (⟨"PrintRacksModel", "washFor", "(I)I"⟩, 14), (⟨"PrintRacksModel", "taken", "(II)I"⟩, 14), (⟨"PrintRacksModel", "dry", "(I)I"⟩, 14), (⟨"PrintRacksModel", "sumOf", "(I)I"⟩, 14)]
theorem lw_r2 : ∀ q ∈ lw_privs_2, lw_okq q := List.forall_mem_cons.mpr ⟨lw_p16, List.forall_mem_cons.mpr ⟨lw_p17, List.forall_mem_cons.mpr ⟨lw_p18, List.forall_mem_cons.mpr ⟨lw_p19, List.forall_mem_cons.mpr ⟨lw_p20, List.forall_mem_cons.mpr ⟨lw_p21, List.forall_mem_cons.mpr ⟨lw_p22, List.forall_mem_cons.mpr ⟨lw_p23, List.forall_mem_cons.mpr ⟨lw_p24, List.forall_mem_cons.mpr ⟨lw_p25, List.forall_mem_cons.mpr ⟨lw_p26, List.forall_mem_cons.mpr ⟨lw_p27, List.forall_mem_cons.mpr ⟨lw_p28, List.forall_mem_cons.mpr ⟨lw_p29, List.forall_mem_cons.mpr ⟨lw_p30, List.forall_mem_cons.mpr ⟨lw_p31, fun _ h => absurd h List.not_mem_nil⟩⟩⟩⟩⟩⟩⟩⟩⟩⟩⟩⟩⟩⟩⟩⟩
theorem lw_p32 : lw_okq (⟨"PrintRacksModel", "late", "(I)I"⟩, 14) := ⟨⟨by decide +kernel, by decide +kernel⟩, List.mem_of_getElem? (i := 455) (by decide +kernel), List.mem_of_getElem? (i := 601) (by decide +kernel), List.mem_of_getElem? (i := 602) (by decide +kernel)⟩
theorem lw_p33 : lw_okq (⟨"PrintRacksModel", "isOther", "(I)I"⟩, 14) := ⟨⟨by decide +kernel, by decide +kernel⟩, List.mem_of_getElem? (i := 455) (by decide +kernel), List.mem_of_getElem? (i := 605) (by decide +kernel), List.mem_of_getElem? (i := 606) (by decide +kernel)⟩
theorem lw_p34 : lw_okq (⟨"PrintRacksModel", "waits", "(I)I"⟩, 14) := ⟨⟨by decide +kernel, by decide +kernel⟩, List.mem_of_getElem? (i := 455) (by decide +kernel), List.mem_of_getElem? (i := 609) (by decide +kernel), List.mem_of_getElem? (i := 610) (by decide +kernel)⟩
theorem lw_p35 : lw_okq (⟨"PrintRacksModel", "orders", "(I)V"⟩, 14) := ⟨⟨by decide +kernel, by decide +kernel⟩, List.mem_of_getElem? (i := 455) (by decide +kernel), List.mem_of_getElem? (i := 622) (by decide +kernel), List.mem_of_getElem? (i := 623) (by decide +kernel)⟩
theorem lw_p36 : lw_okq (⟨"PrintRacksModel", "greatestOf", "(I)I"⟩, 14) := ⟨⟨by decide +kernel, by decide +kernel⟩, List.mem_of_getElem? (i := 455) (by decide +kernel), List.mem_of_getElem? (i := 637) (by decide +kernel), List.mem_of_getElem? (i := 638) (by decide +kernel)⟩
theorem lw_p37 : lw_okq (⟨"PrintRacksModel", "keeps", "()V"⟩, 14) := ⟨⟨by decide +kernel, by decide +kernel⟩, List.mem_of_getElem? (i := 455) (by decide +kernel), List.mem_of_getElem? (i := 651) (by decide +kernel), List.mem_of_getElem? (i := 652) (by decide +kernel)⟩
theorem lw_p38 : lw_okq (⟨"PrintRacksModel", "comesBack", "()V"⟩, 14) := ⟨⟨by decide +kernel, by decide +kernel⟩, List.mem_of_getElem? (i := 455) (by decide +kernel), List.mem_of_getElem? (i := 655) (by decide +kernel), List.mem_of_getElem? (i := 656) (by decide +kernel)⟩
theorem lw_p39 : lw_okq (⟨"PrintRacksModel", "readsJob", "()Z"⟩, 14) := ⟨⟨by decide +kernel, by decide +kernel⟩, List.mem_of_getElem? (i := 455) (by decide +kernel), List.mem_of_getElem? (i := 690) (by decide +kernel), List.mem_of_getElem? (i := 691) (by decide +kernel)⟩
theorem lw_p40 : lw_okq (⟨"PrintRacksModel", "readsNumber", "(IIII)Z"⟩, 14) := ⟨⟨by decide +kernel, by decide +kernel⟩, List.mem_of_getElem? (i := 455) (by decide +kernel), List.mem_of_getElem? (i := 694) (by decide +kernel), List.mem_of_getElem? (i := 695) (by decide +kernel)⟩
theorem lw_p41 : lw_okq (⟨"PrintRacksModel", "takesOne", "(I)Z"⟩, 14) := ⟨⟨by decide +kernel, by decide +kernel⟩, List.mem_of_getElem? (i := 455) (by decide +kernel), List.mem_of_getElem? (i := 698) (by decide +kernel), List.mem_of_getElem? (i := 699) (by decide +kernel)⟩
theorem lw_p42 : lw_okq (⟨"PrintRacksModel", "isHere", "(II)Z"⟩, 14) := ⟨⟨by decide +kernel, by decide +kernel⟩, List.mem_of_getElem? (i := 455) (by decide +kernel), List.mem_of_getElem? (i := 702) (by decide +kernel), List.mem_of_getElem? (i := 703) (by decide +kernel)⟩
def lw_privs_3 : List (MethodName × Nat) := [(⟨"PrintRacksModel", "late", "(I)I"⟩, 14), (⟨"PrintRacksModel", "isOther", "(I)I"⟩, 14), (⟨"PrintRacksModel", "waits", "(I)I"⟩, 14), (⟨"PrintRacksModel", "orders", "(I)V"⟩, 14), (⟨"PrintRacksModel", "greatestOf", "(I)I"⟩, 14), (⟨"PrintRacksModel", "keeps", "()V"⟩, 14), (⟨"PrintRacksModel", "comesBack", "()V"⟩, 14), (⟨"PrintRacksModel", "readsJob", "()Z"⟩, 14), (⟨"PrintRacksModel", "readsNumber", "(IIII)Z"⟩, 14), (⟨"PrintRacksModel", "takesOne", "(I)Z"⟩, 14), (⟨"PrintRacksModel", "isHere", "(II)Z"⟩, 14)]
theorem lw_r3 : ∀ q ∈ lw_privs_3, lw_okq q := List.forall_mem_cons.mpr ⟨lw_p32, List.forall_mem_cons.mpr ⟨lw_p33, List.forall_mem_cons.mpr ⟨lw_p34, List.forall_mem_cons.mpr ⟨lw_p35, List.forall_mem_cons.mpr ⟨lw_p36, List.forall_mem_cons.mpr ⟨lw_p37, List.forall_mem_cons.mpr ⟨lw_p38, List.forall_mem_cons.mpr ⟨lw_p39, List.forall_mem_cons.mpr ⟨lw_p40, List.forall_mem_cons.mpr ⟨lw_p41, List.forall_mem_cons.mpr ⟨lw_p42, fun _ h => absurd h List.not_mem_nil⟩⟩⟩⟩⟩⟩⟩⟩⟩⟩⟩
def lw_privs : List (MethodName × Nat) := lw_privs_1 ++ (lw_privs_2 ++ (lw_privs_3))
def lw_tbl : List Cond := k2_sels lw_privs ++ tables_1
theorem lw_privs_ok : ∀ q ∈ lw_privs, lw_okq q := by
  show ∀ q ∈ lw_privs_1 ++ (lw_privs_2 ++ (lw_privs_3)), lw_okq q
  exact List.forall_mem_append.mpr ⟨lw_r1, List.forall_mem_append.mpr ⟨lw_r2, lw_r3⟩⟩
-- ===== end of PART A; then your names; then what follows =====
/-! ===== BEGIN words of one list among another's, by their places ===== -/
theorem goodIn_r {big : List Cond} (ws : List Cond) (ps : List Nat) (hp : ws = ps.filterMap (fun i => big[i]?)) (h : ws.all goodWord = true) : GoodIn big ws := by
  intro w hw
  have h1 := List.all_eq_true.mp h w hw
  rw [hp] at hw
  obtain ⟨i, -, hi⟩ := List.mem_filterMap.mp hw
  have hm : w ∈ big := by first | exact List.mem_of_getElem? hi | exact List.getElem?_mem hi
  exact ⟨hm, good_of_word h1⟩
theorem goodIn_app {big a b : List Cond} (ha : GoodIn big a) (hb : GoodIn big b) : GoodIn big (a ++ b) := fun w h => (List.mem_append.mp h).elim (ha w) (hb w)
theorem goodIn_ca {big a b : List Cond} {c : Cond} (ha : GoodIn big (c :: a)) (hb : GoodIn big b) : GoodIn big (c :: (a ++ b)) := fun w h => (List.mem_cons.mp h).elim (fun e => ha w (List.mem_cons.mpr (Or.inl e))) (fun h => (List.mem_append.mp h).elim (fun h => ha w (List.mem_cons.mpr (Or.inr h))) (hb w))
theorem goodIn_sub {big ws : List Cond} (hm : ∀ w ∈ ws, w ∈ big) (h : ws.all goodWord = true) : GoodIn big ws := fun w hw => ⟨hm w hw, good_of_word (List.all_eq_true.mp h w hw)⟩
/-! ===== END ===== -/

/-! ===== BEGIN new T[n][m]: the outer array a place, the inner ones among the pooled ===== -/
/-- f, but v at every address of l -/
def vr_up {α : Type} (f : Nat → α) (l : List Nat) (v : α) : Nat → α := fun a => if a ∈ l then v else f a
theorem vr_up_in {α : Type} {f : Nat → α} {l : List Nat} {v : α} {a : Nat} (h : a ∈ l) : vr_up f l v a = v := if_pos h
theorem vr_up_ne {α : Type} {f : Nat → α} {l : List Nat} {v : α} {a : Nat} (h : a ∉ l) : vr_up f l v a = f a := if_neg h
theorem vr_rows {L l : List Nat} {f : Nat → va_E} {e : va_E} (h : ∀ a, a ∈ l → a ∉ L) : va_pl L f ++ l.map (fun a => (a, e)) = va_pl (L ++ l) (vr_up f l e) := by
  unfold va_pl
  rw [List.map_append]
  congr 1
  · apply List.map_congr_left
    intro a ha
    rw [vr_up_ne (fun q => h a q ha)]
  · apply List.map_congr_left
    intro a ha
    rw [vr_up_in ha]
theorem vr_lay {X rows : va_W} {x : Nat × va_E} {pl : va_W} {D : va_G} {cl : List vw_C} {H : Heap} (hP : va_P D cl (((X ++ pl) ++ [x]) ++ rows) H) : va_P D cl ((X ++ [x]) ++ (pl ++ rows)) H := by
  rw [List.append_assoc (X ++ pl)] at hP
  have h := va_P.swap hP
  rw [← List.append_assoc X] at h
  have h2 := va_P.swap h
  rw [List.append_assoc (X ++ [x])] at h2
  exact h2
theorem vr_layD {X rows : va_W} {x : Nat × va_E} {pl : va_W} {A : Nat → Prop} (hD : va_D A (((X ++ pl) ++ [x]) ++ rows)) : va_D A ((X ++ [x]) ++ (pl ++ rows)) := by
  rw [List.append_assoc (X ++ pl)] at hD
  have h := va_D.swap hD
  rw [← List.append_assoc X] at h
  have h2 := va_D.swap h
  rw [List.append_assoc (X ++ [x])] at h2
  exact h2
theorem vr_outer (c : ClassId) (N h0 : Nat) : ∀ i : Nat, Jvm.Free.Multi.outerC c N h0 i = arrV c N (fun j => va_rf (if j < i then some (h0 + 1 + j) else none))
  | 0 => by
    show ({ cls := c, slots := Array.replicate N .null, vm := .none } : Cell) = _
    rw [arrV_new]
    refine congrArg (arrV c N) (funext fun j => ?_)
    simp [va_rf]
  | i + 1 => by
    show (Jvm.Free.Multi.outerC c N h0 i).setSlot i (.ref (h0 + 1 + i)) = _
    rw [vr_outer c N h0 i, arrV_store]
    refine congrArg (arrV c N) (funext fun j => ?_)
    by_cases e : j = i
    · subst e
      simp [updV, va_rf]
    · by_cases h : j < i
      · simp [updV, e, h, Nat.lt_succ_of_lt h]
      · simp [updV, e, h, show ¬ j < i + 1 by omega]
/-! ===== END ===== -/

/-! ===== BEGIN printed: names, fields, word lists, decode rows ===== -/
def RX0 : String := "PrintRacks$Board"
def TX0 : u_T := fun k => match k with
  | 0 => ("PrintRacks$Board", "settings", "[I", true)
  | 1 => ("PrintRacks$Board", "fields", "[[I", true)
  | _ => ("PrintRacks$Board", "jobs", "I", false)
def tyX0 : Nat → FieldType := fun k => match k with
  | 0 => .array .int
  | 1 => .array (.array .int)
  | _ => .int
abbrev wsX00 : List Cond := u_ws RX0 TX0 3
theorem nmX0 : ∀ a, a < 3 → ∀ b, b < 3 → a ≠ b → (TX0 a).2.1 ≠ (TX0 b).2.1 := by decide +kernel
theorem tyX0_ok : ∀ k, k < 3 → parseFieldDescriptor (TX0 k).2.2.1 = some (tyX0 k) := by decide +kernel
abbrev cX0_init : ByteArray := prog_2_method_1_code
def yX0_init : MethodName := ⟨RX0, "<init>", "()V"⟩
abbrev cX0_copyFrom : ByteArray := prog_2_method_2_code
def yX0_copyFrom : MethodName := ⟨RX0, "copyFrom", "(LPrintRacks$Board;)V"⟩
abbrev cX0_append : ByteArray := prog_2_method_3_code
def yX0_append : MethodName := ⟨RX0, "append", "(IIII)V"⟩
abbrev cX0_appendAll : ByteArray := prog_2_method_4_code
def yX0_appendAll : MethodName := ⟨RX0, "appendAll", "(LPrintRacks$Board;)V"⟩
abbrev cX0_remove : ByteArray := prog_2_method_5_code
def yX0_remove : MethodName := ⟨RX0, "remove", "(I)V"⟩
abbrev cX0_shift : ByteArray := prog_2_method_6_code
def yX0_shift : MethodName := ⟨RX0, "shift", "(II)V"⟩
abbrev cX0_exchange : ByteArray := prog_2_method_7_code
def yX0_exchange : MethodName := ⟨RX0, "exchange", "(II)V"⟩
abbrev cX0_arrange : ByteArray := prog_2_method_8_code
def yX0_arrange : MethodName := ⟨RX0, "arrange", "(LPrintRacks$Board;I)I"⟩
abbrev cX0_placeBy : ByteArray := prog_2_method_9_code
def yX0_placeBy : MethodName := ⟨RX0, "placeBy", "(II)I"⟩
abbrev cX0_mostRacksNeeded : ByteArray := prog_2_method_10_code
def yX0_mostRacksNeeded : MethodName := ⟨RX0, "mostRacksNeeded", "(I)I"⟩
abbrev cX0_hundredsOfAll : ByteArray := prog_2_method_11_code
def yX0_hundredsOfAll : MethodName := ⟨RX0, "hundredsOfAll", "()I"⟩
def RX1 : String := "PrintRacks$History"
def TX1 : u_T := fun k => match k with
  | 0 => ("PrintRacks$History", "kept", "I", false)
  | 1 => ("PrintRacks$History", "states", "[LPrintRacks$Board;", true)
  | _ => ("PrintRacks$History", "next", "I", false)
def tyX1 : Nat → FieldType := fun k => match k with
  | 0 => .int
  | 1 => .array (.object "PrintRacks$Board")
  | _ => .int
abbrev wsX10 : List Cond := u_ws RX1 TX1 3
theorem nmX1 : ∀ a, a < 3 → ∀ b, b < 3 → a ≠ b → (TX1 a).2.1 ≠ (TX1 b).2.1 := by decide +kernel
theorem tyX1_ok : ∀ k, k < 3 → parseFieldDescriptor (TX1 k).2.2.1 = some (tyX1 k) := by decide +kernel
abbrev cX1_init : ByteArray := prog_3_method_1_code
def yX1_init : MethodName := ⟨RX1, "<init>", "()V"⟩
abbrev cX1_remember : ByteArray := prog_3_method_2_code
def yX1_remember : MethodName := ⟨RX1, "remember", "(LPrintRacks$Board;)V"⟩
abbrev cX1_takeBack : ByteArray := prog_3_method_3_code
def yX1_takeBack : MethodName := ⟨RX1, "takeBack", "(LPrintRacks$Board;)V"⟩
def RX2 : String := "PrintRacks$Pad"
def TX2 : u_T := fun k => match k with
  | 0 => ("PrintRacks$Pad", "found", "LPrintRacks$Board;", true)
  | 1 => ("PrintRacks$Pad", "length", "I", false)
  | 2 => ("PrintRacks$Pad", "codes", "[I", true)
  | 3 => ("PrintRacks$Pad", "expected", "I", false)
  | 4 => ("PrintRacks$Pad", "plate", "I", false)
  | 5 => ("PrintRacks$Pad", "shade", "I", false)
  | 6 => ("PrintRacks$Pad", "hundreds", "I", false)
  | _ => ("PrintRacks$Pad", "dueTime", "I", false)
def tyX2 : Nat → FieldType := fun k => match k with
  | 0 => .object "PrintRacks$Board"
  | 1 => .int
  | 2 => .array .int
  | 3 => .int
  | 4 => .int
  | 5 => .int
  | 6 => .int
  | _ => .int
abbrev wsX20 : List Cond := u_ws RX2 TX2 8
theorem nmX2 : ∀ a, a < 8 → ∀ b, b < 8 → a ≠ b → (TX2 a).2.1 ≠ (TX2 b).2.1 := by decide +kernel
theorem tyX2_ok : ∀ k, k < 8 → parseFieldDescriptor (TX2 k).2.2.1 = some (tyX2 k) := by decide +kernel
abbrev cX2_init : ByteArray := prog_4_method_1_code
def yX2_init : MethodName := ⟨RX2, "<init>", "()V"⟩
abbrev cX2_append : ByteArray := prog_4_method_2_code
def yX2_append : MethodName := ⟨RX2, "append", "(I)V"⟩
abbrev cX2_parse : ByteArray := prog_4_method_3_code
def yX2_parse : MethodName := ⟨RX2, "parse", "()I"⟩
abbrev cX2_takes : ByteArray := prog_4_method_4_code
def yX2_takes : MethodName := ⟨RX2, "takes", "(I)Z"⟩
abbrev cX2_takesLetter : ByteArray := prog_4_method_5_code
def yX2_takesLetter : MethodName := ⟨RX2, "takesLetter", "(IC)Z"⟩
abbrev cX2_takesBehindHundreds : ByteArray := prog_4_method_6_code
def yX2_takesBehindHundreds : MethodName := ⟨RX2, "takesBehindHundreds", "(II)Z"⟩
abbrev cX2_takesBehindDue : ByteArray := prog_4_method_7_code
def yX2_takesBehindDue : MethodName := ⟨RX2, "takesBehindDue", "(II)Z"⟩
abbrev cX2_takesEndOfJob : ByteArray := prog_4_method_8_code
def yX2_takesEndOfJob : MethodName := ⟨RX2, "takesEndOfJob", "(I)Z"⟩
abbrev cX2_endJob : ByteArray := prog_4_method_9_code
def yX2_endJob : MethodName := ⟨RX2, "endJob", "()V"⟩
def RX3 : String := "PrintRacks$Press"
def TX3 : u_T := fun k => match k with
  | 0 => ("PrintRacks$Press", "racks", "[I", true)
  | 1 => ("PrintRacks$Press", "wash", "[I", true)
  | 2 => ("PrintRacks$Press", "ready", "[I", true)
  | 3 => ("PrintRacks$Press", "waits", "[I", true)
  | 4 => ("PrintRacks$Press", "begins", "[I", true)
  | 5 => ("PrintRacks$Press", "printed", "[I", true)
  | 6 => ("PrintRacks$Press", "dry", "[I", true)
  | 7 => ("PrintRacks$Press", "late", "[I", true)
  | 8 => ("PrintRacks$Press", "jobs", "I", false)
  | 9 => ("PrintRacks$Press", "lateJobs", "I", false)
  | 10 => ("PrintRacks$Press", "lateSum", "I", false)
  | 11 => ("PrintRacks$Press", "mostLate", "I", false)
  | 12 => ("PrintRacks$Press", "washSum", "I", false)
  | 13 => ("PrintRacks$Press", "platesPutOn", "I", false)
  | 14 => ("PrintRacks$Press", "waitSum", "I", false)
  | 15 => ("PrintRacks$Press", "mostTaken", "I", false)
  | 16 => ("PrintRacks$Press", "taken", "I", false)
  | _ => ("PrintRacks$Press", "oldestDrying", "I", false)
def tyX3 : Nat → FieldType := fun k => match k with
  | 0 => .array .int
  | 1 => .array .int
  | 2 => .array .int
  | 3 => .array .int
  | 4 => .array .int
  | 5 => .array .int
  | 6 => .array .int
  | 7 => .array .int
  | 8 => .int
  | 9 => .int
  | 10 => .int
  | 11 => .int
  | 12 => .int
  | 13 => .int
  | 14 => .int
  | 15 => .int
  | 16 => .int
  | _ => .int
abbrev wsX30 : List Cond := u_ws RX3 TX3 18
theorem nmX3 : ∀ a, a < 18 → ∀ b, b < 18 → a ≠ b → (TX3 a).2.1 ≠ (TX3 b).2.1 := by decide +kernel
theorem tyX3_ok : ∀ k, k < 18 → parseFieldDescriptor (TX3 k).2.2.1 = some (tyX3 k) := by decide +kernel
abbrev cX3_init : ByteArray := prog_5_method_1_code
def yX3_init : MethodName := ⟨RX3, "<init>", "()V"⟩
abbrev cX3_print : ByteArray := prog_5_method_2_code
def yX3_print : MethodName := ⟨RX3, "print", "(LPrintRacks$Board;I)V"⟩
abbrev cX3_clear : ByteArray := prog_5_method_3_code
def yX3_clear : MethodName := ⟨RX3, "clear", "()V"⟩
abbrev cX3_makeReady : ByteArray := prog_5_method_4_code
def yX3_makeReady : MethodName := ⟨RX3, "makeReady", "(LPrintRacks$Board;I)V"⟩
abbrev cX3_washAhead : ByteArray := prog_5_method_5_code
def yX3_washAhead : MethodName := ⟨RX3, "washAhead", "(LPrintRacks$Board;I)I"⟩
abbrev cX3_printJob : ByteArray := prog_5_method_6_code
def yX3_printJob : MethodName := ⟨RX3, "printJob", "(LPrintRacks$Board;II)V"⟩
abbrev cX3_whenRacksAreFree : ByteArray := prog_5_method_7_code
def yX3_whenRacksAreFree : MethodName := ⟨RX3, "whenRacksAreFree", "(III)I"⟩
abbrev cX3_dryJob : ByteArray := prog_5_method_8_code
def yX3_dryJob : MethodName := ⟨RX3, "dryJob", "(LPrintRacks$Board;I)V"⟩
abbrev cX3_lastOf : ByteArray := prog_5_method_9_code
def yX3_lastOf : MethodName := ⟨RX3, "lastOf", "([I)I"⟩
abbrev cX3_jobOnPress : ByteArray := prog_5_method_10_code
def yX3_jobOnPress : MethodName := ⟨RX3, "jobOnPress", "(I)I"⟩
abbrev cX3_racksTaken : ByteArray := prog_5_method_11_code
def yX3_racksTaken : MethodName := ⟨RX3, "racksTaken", "(I)I"⟩
abbrev cX3_reached : ByteArray := prog_5_method_12_code
def yX3_reached : MethodName := ⟨RX3, "reached", "([II)I"⟩
def RX4 : String := "PrintRacks"
def TX4 : u_T := fun k => match k with
  | 0 => ("PrintRacks", "board", "LPrintRacks$Board;", true)
  | 1 => ("PrintRacks", "trial", "LPrintRacks$Board;", true)
  | 2 => ("PrintRacks", "press", "LPrintRacks$Press;", true)
  | 3 => ("PrintRacks", "pad", "LPrintRacks$Pad;", true)
  | 4 => ("PrintRacks", "history", "LPrintRacks$History;", true)
  | 5 => ("PrintRacks", "slots", "[LPrintRacks$Board;", true)
  | _ => ("PrintRacks", "saved", "[Z", true)
def tyX4 : Nat → FieldType := fun k => match k with
  | 0 => .object "PrintRacks$Board"
  | 1 => .object "PrintRacks$Board"
  | 2 => .object "PrintRacks$Press"
  | 3 => .object "PrintRacks$Pad"
  | 4 => .object "PrintRacks$History"
  | 5 => .array (.object "PrintRacks$Board")
  | _ => .array .boolean
abbrev wsX40 : List Cond := u_ws RX4 TX4 7
theorem nmX4 : ∀ a, a < 7 → ∀ b, b < 7 → a ≠ b → (TX4 a).2.1 ≠ (TX4 b).2.1 := by decide +kernel
theorem tyX4_ok : ∀ k, k < 7 → parseFieldDescriptor (TX4 k).2.2.1 = some (tyX4 k) := by decide +kernel
abbrev cX4_init : ByteArray := prog_1_method_1_code
def yX4_init : MethodName := ⟨RX4, "<init>", "()V"⟩
abbrev cX4_set : ByteArray := prog_1_method_2_code
def yX4_set : MethodName := ⟨RX4, "set", "(II)I"⟩
abbrev cX4_job : ByteArray := prog_1_method_3_code
def yX4_job : MethodName := ⟨RX4, "job", "(IIII)I"⟩
abbrev cX4_read : ByteArray := prog_1_method_4_code
def yX4_read : MethodName := ⟨RX4, "read", "()I"⟩
abbrev cX4_drop : ByteArray := prog_1_method_5_code
def yX4_drop : MethodName := ⟨RX4, "drop", "(I)I"⟩
abbrev cX4_move : ByteArray := prog_1_method_6_code
def yX4_move : MethodName := ⟨RX4, "move", "(II)I"⟩
abbrev cX4_due : ByteArray := prog_1_method_7_code
def yX4_due : MethodName := ⟨RX4, "due", "(II)I"⟩
abbrev cX4_order : ByteArray := prog_1_method_8_code
def yX4_order : MethodName := ⟨RX4, "order", "(I)I"⟩
abbrev cX4_jobOf : ByteArray := prog_1_method_9_code
def yX4_jobOf : MethodName := ⟨RX4, "jobOf", "(II)I"⟩
abbrev cX4_count : ByteArray := prog_1_method_10_code
def yX4_count : MethodName := ⟨RX4, "count", "(I)I"⟩
abbrev cX4_at : ByteArray := prog_1_method_11_code
def yX4_at : MethodName := ⟨RX4, "at", "(II)I"⟩
abbrev cX4_ifOrdered : ByteArray := prog_1_method_12_code
def yX4_ifOrdered : MethodName := ⟨RX4, "ifOrdered", "(II)I"⟩
abbrev cX4_bestExchange : ByteArray := prog_1_method_13_code
def yX4_bestExchange : MethodName := ⟨RX4, "bestExchange", "(I)I"⟩
abbrev cX4_bestFirst : ByteArray := prog_1_method_14_code
def yX4_bestFirst : MethodName := ⟨RX4, "bestFirst", "()I"⟩
abbrev cX4_leastRacks : ByteArray := prog_1_method_15_code
def yX4_leastRacks : MethodName := ⟨RX4, "leastRacks", "()I"⟩
abbrev cX4_put : ByteArray := prog_1_method_16_code
def yX4_put : MethodName := ⟨RX4, "put", "(J)I"⟩
abbrev cX4_wipe : ByteArray := prog_1_method_17_code
def yX4_wipe : MethodName := ⟨RX4, "wipe", "()I"⟩
abbrev cX4_fault : ByteArray := prog_1_method_18_code
def yX4_fault : MethodName := ⟨RX4, "fault", "()I"⟩
abbrev cX4_undo : ByteArray := prog_1_method_19_code
def yX4_undo : MethodName := ⟨RX4, "undo", "()I"⟩
abbrev cX4_save : ByteArray := prog_1_method_20_code
def yX4_save : MethodName := ⟨RX4, "save", "(I)I"⟩
abbrev cX4_restore : ByteArray := prog_1_method_21_code
def yX4_restore : MethodName := ⟨RX4, "restore", "(I)I"⟩
abbrev cX4_within : ByteArray := prog_1_method_22_code
def yX4_within : MethodName := ⟨RX4, "within", "(III)Z"⟩
abbrev cX4_isJob : ByteArray := prog_1_method_23_code
def yX4_isJob : MethodName := ⟨RX4, "isJob", "(I)Z"⟩
abbrev cX4_racksFor : ByteArray := prog_1_method_24_code
def yX4_racksFor : MethodName := ⟨RX4, "racksFor", "(II)I"⟩
abbrev cX4_lateSumOf : ByteArray := prog_1_method_25_code
def yX4_lateSumOf : MethodName := ⟨RX4, "lateSumOf", "(LPrintRacks$Board;)I"⟩
abbrev cX4_lateSumIfExchanged : ByteArray := prog_1_method_26_code
def yX4_lateSumIfExchanged : MethodName := ⟨RX4, "lateSumIfExchanged", "(II)I"⟩
abbrev cX4_lateSumIfFirst : ByteArray := prog_1_method_27_code
def yX4_lateSumIfFirst : MethodName := ⟨RX4, "lateSumIfFirst", "(I)I"⟩
abbrev cX4_charactersIn : ByteArray := prog_1_method_28_code
def yX4_charactersIn : MethodName := ⟨RX4, "charactersIn", "(J)I"⟩
def RX5 : String := "PrintRacksModel"
def TX5 : u_T := fun k => match k with
  | 0 => ("PrintRacksModel", "all", "[I", true)
  | 1 => ("PrintRacksModel", "kept", "[I", true)
  | 2 => ("PrintRacksModel", "history", "[I", true)
  | 3 => ("PrintRacksModel", "historyLong", "I", false)
  | 4 => ("PrintRacksModel", "slots", "[I", true)
  | 5 => ("PrintRacksModel", "isSaved", "[I", true)
  | 6 => ("PrintRacksModel", "begins", "[I", true)
  | 7 => ("PrintRacksModel", "printed", "[I", true)
  | 8 => ("PrintRacksModel", "from", "[I", true)
  | 9 => ("PrintRacksModel", "text", "[I", true)
  | 10 => ("PrintRacksModel", "textLong", "I", false)
  | 11 => ("PrintRacksModel", "spot", "I", false)
  | 12 => ("PrintRacksModel", "told", "[I", true)
  | _ => ("PrintRacksModel", "read", "I", false)
def tyX5 : Nat → FieldType := fun k => match k with
  | 0 => .array .int
  | 1 => .array .int
  | 2 => .array .int
  | 3 => .int
  | 4 => .array .int
  | 5 => .array .int
  | 6 => .array .int
  | 7 => .array .int
  | 8 => .array .int
  | 9 => .array .int
  | 10 => .int
  | 11 => .int
  | 12 => .array .int
  | _ => .int
abbrev wsX50 : List Cond := u_ws RX5 TX5 14
theorem nmX5 : ∀ a, a < 14 → ∀ b, b < 14 → a ≠ b → (TX5 a).2.1 ≠ (TX5 b).2.1 := by decide +kernel
theorem tyX5_ok : ∀ k, k < 14 → parseFieldDescriptor (TX5 k).2.2.1 = some (tyX5 k) := by decide +kernel
abbrev cX5_init : ByteArray := prog_7_method_1_code
def yX5_init : MethodName := ⟨RX5, "<init>", "()V"⟩
abbrev cX5_in : ByteArray := prog_7_method_3_code
def yX5_in : MethodName := ⟨RX5, "in", "(JJJ)Z"⟩
abbrev cX5_changes : ByteArray := prog_7_method_4_code
def yX5_changes : MethodName := ⟨RX5, "changes", "()V"⟩
abbrev cX5_keeps : ByteArray := prog_7_method_5_code
def yX5_keeps : MethodName := ⟨RX5, "keeps", "()V"⟩
abbrev cX5_comesBack : ByteArray := prog_7_method_6_code
def yX5_comesBack : MethodName := ⟨RX5, "comesBack", "()V"⟩
abbrev cX5_isJob : ByteArray := prog_7_method_7_code
def yX5_isJob : MethodName := ⟨RX5, "isJob", "(I)Z"⟩
abbrev cX5_its : ByteArray := prog_7_method_8_code
def yX5_its : MethodName := ⟨RX5, "its", "(II)I"⟩
abbrev cX5_racksFor : ByteArray := prog_7_method_9_code
def yX5_racksFor : MethodName := ⟨RX5, "racksFor", "(I)I"⟩
abbrev cX5_racksOf : ByteArray := prog_7_method_10_code
def yX5_racksOf : MethodName := ⟨RX5, "racksOf", "(I)I"⟩
abbrev cX5_exchanges : ByteArray := prog_7_method_11_code
def yX5_exchanges : MethodName := ⟨RX5, "exchanges", "(II)V"⟩
abbrev cX5_moves : ByteArray := prog_7_method_12_code
def yX5_moves : MethodName := ⟨RX5, "moves", "(II)V"⟩
abbrev cX5_washFor : ByteArray := prog_7_method_13_code
def yX5_washFor : MethodName := ⟨RX5, "washFor", "(I)I"⟩
abbrev cX5_plateFor : ByteArray := prog_7_method_14_code
def yX5_plateFor : MethodName := ⟨RX5, "plateFor", "(I)I"⟩
abbrev cX5_readyFor : ByteArray := prog_7_method_15_code
def yX5_readyFor : MethodName := ⟨RX5, "readyFor", "(I)I"⟩
abbrev cX5_dry : ByteArray := prog_7_method_16_code
def yX5_dry : MethodName := ⟨RX5, "dry", "(I)I"⟩
abbrev cX5_taken : ByteArray := prog_7_method_17_code
def yX5_taken : MethodName := ⟨RX5, "taken", "(II)I"⟩
abbrev cX5_prints : ByteArray := prog_7_method_18_code
def yX5_prints : MethodName := ⟨RX5, "prints", "()V"⟩
abbrev cX5_late : ByteArray := prog_7_method_19_code
def yX5_late : MethodName := ⟨RX5, "late", "(I)I"⟩
abbrev cX5_waits : ByteArray := prog_7_method_20_code
def yX5_waits : MethodName := ⟨RX5, "waits", "(I)I"⟩
abbrev cX5_sumOf : ByteArray := prog_7_method_21_code
def yX5_sumOf : MethodName := ⟨RX5, "sumOf", "(I)I"⟩
abbrev cX5_isOther : ByteArray := prog_7_method_22_code
def yX5_isOther : MethodName := ⟨RX5, "isOther", "(I)I"⟩
abbrev cX5_greatestOf : ByteArray := prog_7_method_23_code
def yX5_greatestOf : MethodName := ⟨RX5, "greatestOf", "(I)I"⟩
abbrev cX5_lateAll : ByteArray := prog_7_method_24_code
def yX5_lateAll : MethodName := ⟨RX5, "lateAll", "()I"⟩
abbrev cX5_isSetting : ByteArray := prog_7_method_25_code
def yX5_isSetting : MethodName := ⟨RX5, "isSetting", "(II)Z"⟩
abbrev cX5_mostNeeded : ByteArray := prog_7_method_26_code
def yX5_mostNeeded : MethodName := ⟨RX5, "mostNeeded", "()I"⟩
abbrev cX5_set : ByteArray := prog_7_method_27_code
def yX5_set : MethodName := ⟨RX5, "set", "(II)I"⟩
abbrev cX5_puts : ByteArray := prog_7_method_28_code
def yX5_puts : MethodName := ⟨RX5, "puts", "(IIII)V"⟩
abbrev cX5_job : ByteArray := prog_7_method_29_code
def yX5_job : MethodName := ⟨RX5, "job", "(IIII)I"⟩
abbrev cX5_drop : ByteArray := prog_7_method_30_code
def yX5_drop : MethodName := ⟨RX5, "drop", "(I)I"⟩
abbrev cX5_move : ByteArray := prog_7_method_31_code
def yX5_move : MethodName := ⟨RX5, "move", "(II)I"⟩
abbrev cX5_due : ByteArray := prog_7_method_32_code
def yX5_due : MethodName := ⟨RX5, "due", "(II)I"⟩
abbrev cX5_keyOf : ByteArray := prog_7_method_33_code
def yX5_keyOf : MethodName := ⟨RX5, "keyOf", "(I)I"⟩
abbrev cX5_orders : ByteArray := prog_7_method_34_code
def yX5_orders : MethodName := ⟨RX5, "orders", "(I)V"⟩
abbrev cX5_order : ByteArray := prog_7_method_35_code
def yX5_order : MethodName := ⟨RX5, "order", "(I)I"⟩
abbrev cX5_jobOf : ByteArray := prog_7_method_36_code
def yX5_jobOf : MethodName := ⟨RX5, "jobOf", "(II)I"⟩
abbrev cX5_count : ByteArray := prog_7_method_37_code
def yX5_count : MethodName := ⟨RX5, "count", "(I)I"⟩
abbrev cX5_at : ByteArray := prog_7_method_38_code
def yX5_at : MethodName := ⟨RX5, "at", "(II)I"⟩
abbrev cX5_ifOrdered : ByteArray := prog_7_method_39_code
def yX5_ifOrdered : MethodName := ⟨RX5, "ifOrdered", "(II)I"⟩
abbrev cX5_bestExchange : ByteArray := prog_7_method_40_code
def yX5_bestExchange : MethodName := ⟨RX5, "bestExchange", "(I)I"⟩
abbrev cX5_bestFirst : ByteArray := prog_7_method_41_code
def yX5_bestFirst : MethodName := ⟨RX5, "bestFirst", "()I"⟩
abbrev cX5_leastRacks : ByteArray := prog_7_method_42_code
def yX5_leastRacks : MethodName := ⟨RX5, "leastRacks", "()I"⟩
abbrev cX5_charactersOf : ByteArray := prog_7_method_43_code
def yX5_charactersOf : MethodName := ⟨RX5, "charactersOf", "(J)I"⟩
abbrev cX5_put : ByteArray := prog_7_method_44_code
def yX5_put : MethodName := ⟨RX5, "put", "(J)I"⟩
abbrev cX5_wipe : ByteArray := prog_7_method_45_code
def yX5_wipe : MethodName := ⟨RX5, "wipe", "()I"⟩
abbrev cX5_isHere : ByteArray := prog_7_method_46_code
def yX5_isHere : MethodName := ⟨RX5, "isHere", "(II)Z"⟩
abbrev cX5_takesOne : ByteArray := prog_7_method_47_code
def yX5_takesOne : MethodName := ⟨RX5, "takesOne", "(I)Z"⟩
abbrev cX5_readsNumber : ByteArray := prog_7_method_48_code
def yX5_readsNumber : MethodName := ⟨RX5, "readsNumber", "(IIII)Z"⟩
abbrev cX5_readsJob : ByteArray := prog_7_method_49_code
def yX5_readsJob : MethodName := ⟨RX5, "readsJob", "()Z"⟩
abbrev cX5_fault : ByteArray := prog_7_method_50_code
def yX5_fault : MethodName := ⟨RX5, "fault", "()I"⟩
abbrev cX5_read : ByteArray := prog_7_method_51_code
def yX5_read : MethodName := ⟨RX5, "read", "()I"⟩
abbrev cX5_undo : ByteArray := prog_7_method_52_code
def yX5_undo : MethodName := ⟨RX5, "undo", "()I"⟩
abbrev cX5_isSlot : ByteArray := prog_7_method_53_code
def yX5_isSlot : MethodName := ⟨RX5, "isSlot", "(I)Z"⟩
abbrev cX5_save : ByteArray := prog_7_method_54_code
def yX5_save : MethodName := ⟨RX5, "save", "(I)I"⟩
abbrev cX5_restore : ByteArray := prog_7_method_55_code
def yX5_restore : MethodName := ⟨RX5, "restore", "(I)I"⟩
def RJ9 : String := "java/lang/Math"
def TJ9 : u_T := fun k => match k with
  | _ => ("", "", "", false)
def tyJ9 : Nat → FieldType := fun k => match k with
  | _ => .int
abbrev wsJ90 : List Cond := u_ws RJ9 TJ9 0
theorem nmJ9 : ∀ a, a < 0 → ∀ b, b < 0 → a ≠ b → (TJ9 a).2.1 ≠ (TJ9 b).2.1 := by decide +kernel
theorem tyJ9_ok : ∀ k, k < 0 → parseFieldDescriptor (TJ9 k).2.2.1 = some (tyJ9 k) := by decide +kernel
abbrev cJ9_max_7cf53 : ByteArray := prog_8_method_65_code
def yJ9_max_7cf53 : MethodName := ⟨RJ9, "max", "(II)I"⟩
abbrev cJ9_min_7cf53 : ByteArray := prog_8_method_69_code
def yJ9_min_7cf53 : MethodName := ⟨RJ9, "min", "(II)I"⟩
def RJ10 : String := "java/lang/System"
def TJ10 : u_T := fun k => match k with
  | _ => ("", "", "", false)
def tyJ10 : Nat → FieldType := fun k => match k with
  | _ => .int
abbrev wsJ100 : List Cond := u_ws RJ10 TJ10 0
theorem nmJ10 : ∀ a, a < 0 → ∀ b, b < 0 → a ≠ b → (TJ10 a).2.1 ≠ (TJ10 b).2.1 := by decide +kernel
theorem tyJ10_ok : ∀ k, k < 0 → parseFieldDescriptor (TJ10 k).2.2.1 = some (tyJ10 k) := by decide +kernel
def RL : String := "PrintRacksLaw"
abbrev cL_law : ByteArray := code
def yL_law : MethodName := ⟨RL, "law", "([I)Z"⟩
def wsX0_init : List Cond := .code yX0_init cX0_init 1 none :: ([.methodLink RX0 3 objectInit, .instanceMethod objectInit, .code objectInit ⟨#[0xb1]⟩ 1 none, .arrayClass .int, .fieldLink RX0 9 "PrintRacks$Board" "settings" "[I", .methodLink RX0 18 arraycopyName, .native arraycopyName, .static arraycopyName, .initialized "java/lang/System", .classLink RX0 24 "[[I", .fieldLink RX0 26 "PrintRacks$Board" "fields" "[[I"] ++ wsX00)
def wsX0_copyFrom : List Cond := .code yX0_copyFrom cX0_copyFrom 3 none :: ([.fieldLink RX0 9 "PrintRacks$Board" "settings" "[I", .methodLink RX0 18 arraycopyName, .native arraycopyName, .static arraycopyName, .initialized "java/lang/System", .fieldLink RX0 26 "PrintRacks$Board" "fields" "[[I", .fieldLink RX0 29 "PrintRacks$Board" "jobs" "I"] ++ wsX00)
def wsX0_append : List Cond := .code yX0_append cX0_append 5 none :: ([.fieldLink RX0 29 "PrintRacks$Board" "jobs" "I", .fieldLink RX0 26 "PrintRacks$Board" "fields" "[[I"] ++ wsX00)
def wsX0_appendAll : List Cond := .code yX0_appendAll cX0_appendAll 3 none :: ([.fieldLink RX0 29 "PrintRacks$Board" "jobs" "I", .fieldLink RX0 26 "PrintRacks$Board" "fields" "[[I", .methodLink RX0 33 yX0_append, .instanceMethod yX0_append, .selects RX0 yX0_append yX0_append, .initialized RX0, .code yX0_append cX0_append 5 none] ++ wsX00)
def wsX0_shift : List Cond := .code yX0_shift cX0_shift 9 none :: ([.fieldLink RX0 26 "PrintRacks$Board" "fields" "[[I"] ++ wsX00)
def wsX0_remove : List Cond := .code yX0_remove cX0_remove 2 none :: ([.fieldLink RX0 29 "PrintRacks$Board" "jobs" "I", .methodLink RX0 37 yX0_shift, .instanceMethod yX0_shift, .selects RX0 yX0_shift yX0_shift, .initialized RX0, .code yX0_shift cX0_shift 9 none, .fieldLink RX0 26 "PrintRacks$Board" "fields" "[[I"] ++ wsX00)
def wsX0_exchange : List Cond := .code yX0_exchange cX0_exchange 8 none :: ([.fieldLink RX0 26 "PrintRacks$Board" "fields" "[[I"] ++ wsX00)
def wsX0_placeBy : List Cond := .code yX0_placeBy cX0_placeBy 6 (some .int) :: ([.fieldLink RX0 26 "PrintRacks$Board" "fields" "[[I", .fieldLink RX0 29 "PrintRacks$Board" "jobs" "I"] ++ wsX00)
def wsX0_arrange : List Cond := .code yX0_arrange cX0_arrange 7 (some .int) :: ([.fieldLink RX0 29 "PrintRacks$Board" "jobs" "I", .fieldLink RX0 26 "PrintRacks$Board" "fields" "[[I", .methodLink RX0 41 yX0_copyFrom, .instanceMethod yX0_copyFrom, .selects RX0 yX0_copyFrom yX0_copyFrom, .initialized RX0, .code yX0_copyFrom cX0_copyFrom 3 none, .fieldLink RX0 9 "PrintRacks$Board" "settings" "[I", .methodLink RX0 18 arraycopyName, .native arraycopyName, .static arraycopyName, .initialized "java/lang/System", .methodLink RX0 45 yX0_placeBy, .instanceMethod yX0_placeBy, .selects RX0 yX0_placeBy yX0_placeBy, .code yX0_placeBy cX0_placeBy 6 (some .int)] ++ wsX00)
def wsX4_racksFor : List Cond := .code yX4_racksFor cX4_racksFor 2 (some .int) :: ([])
def wsX0_mostRacksNeeded : List Cond := .code yX0_mostRacksNeeded cX0_mostRacksNeeded 4 (some .int) :: ([.fieldLink RX0 29 "PrintRacks$Board" "jobs" "I", .fieldLink RX0 26 "PrintRacks$Board" "fields" "[[I", .methodLink RX0 52 Lib.Math.max.name, .static Lib.Math.max.name, .initialized "java/lang/Math", .code Lib.Math.max.name Lib.Math.max.code 2 (some .int), .static yX4_racksFor, .initialized RX4, .code yX4_racksFor cX4_racksFor 2 (some .int)] ++ wsX00)
def wsX0_hundredsOfAll : List Cond := .code yX0_hundredsOfAll cX0_hundredsOfAll 3 (some .int) :: ([.fieldLink RX0 29 "PrintRacks$Board" "jobs" "I", .fieldLink RX0 26 "PrintRacks$Board" "fields" "[[I"] ++ wsX00)
def wsX1_init : List Cond := .code yX1_init cX1_init 2 none :: ([.methodLink RX1 3 objectInit, .instanceMethod objectInit, .code objectInit ⟨#[0xb1]⟩ 1 none, .classLink RX1 9 RX0, .fieldLink RX1 11 "PrintRacks$History" "states" "[LPrintRacks$Board;", .instantiable RX0 3, .initialized RX0, .methodLink RX1 17 yX0_init, .instanceMethod yX0_init, .code yX0_init cX0_init 1 none, .methodLink RX0 3 objectInit, .arrayClass .int, .fieldLink RX0 9 "PrintRacks$Board" "settings" "[I", .methodLink RX0 18 arraycopyName, .native arraycopyName, .static arraycopyName, .initialized "java/lang/System", .classLink RX0 24 "[[I", .fieldLink RX0 26 "PrintRacks$Board" "fields" "[[I"] ++ wsX10 ++ wsX00)
def wsX1_remember : List Cond := .code yX1_remember cX1_remember 2 none :: ([.fieldLink RX1 11 "PrintRacks$History" "states" "[LPrintRacks$Board;", .fieldLink RX1 18 "PrintRacks$History" "next" "I", .fieldLink RX1 26 "PrintRacks$History" "kept" "I", .methodLink RX1 29 Lib.Math.min.name, .static Lib.Math.min.name, .initialized "java/lang/Math", .code Lib.Math.min.name Lib.Math.min.code 2 (some .int), .methodLink RX1 22 yX0_copyFrom, .instanceMethod yX0_copyFrom, .selects RX0 yX0_copyFrom yX0_copyFrom, .initialized RX0, .code yX0_copyFrom cX0_copyFrom 3 none, .fieldLink RX0 9 "PrintRacks$Board" "settings" "[I", .methodLink RX0 18 arraycopyName, .native arraycopyName, .static arraycopyName, .initialized "java/lang/System", .fieldLink RX0 26 "PrintRacks$Board" "fields" "[[I", .fieldLink RX0 29 "PrintRacks$Board" "jobs" "I"] ++ wsX10 ++ wsX00)
def wsX1_takeBack : List Cond := .code yX1_takeBack cX1_takeBack 2 none :: ([.fieldLink RX1 18 "PrintRacks$History" "next" "I", .fieldLink RX1 26 "PrintRacks$History" "kept" "I", .fieldLink RX1 11 "PrintRacks$History" "states" "[LPrintRacks$Board;", .methodLink RX1 22 yX0_copyFrom, .instanceMethod yX0_copyFrom, .selects RX0 yX0_copyFrom yX0_copyFrom, .initialized RX0, .code yX0_copyFrom cX0_copyFrom 3 none, .fieldLink RX0 9 "PrintRacks$Board" "settings" "[I", .methodLink RX0 18 arraycopyName, .native arraycopyName, .static arraycopyName, .initialized "java/lang/System", .fieldLink RX0 26 "PrintRacks$Board" "fields" "[[I", .fieldLink RX0 29 "PrintRacks$Board" "jobs" "I"] ++ wsX10 ++ wsX00)
def wsX2_init : List Cond := .code yX2_init cX2_init 1 none :: ([.methodLink RX2 3 objectInit, .instanceMethod objectInit, .code objectInit ⟨#[0xb1]⟩ 1 none, .classLink RX2 9 RX0, .instantiable RX0 3, .initialized RX0, .fieldLink RX2 12 "PrintRacks$Pad" "found" "LPrintRacks$Board;", .arrayClass .int, .fieldLink RX2 18 "PrintRacks$Pad" "codes" "[I", .methodLink RX2 11 yX0_init, .instanceMethod yX0_init, .code yX0_init cX0_init 1 none, .methodLink RX0 3 objectInit, .fieldLink RX0 9 "PrintRacks$Board" "settings" "[I", .methodLink RX0 18 arraycopyName, .native arraycopyName, .static arraycopyName, .initialized "java/lang/System", .classLink RX0 24 "[[I", .fieldLink RX0 26 "PrintRacks$Board" "fields" "[[I"] ++ wsX00 ++ wsX20)
def wsX2_append : List Cond := .code yX2_append cX2_append 2 none :: ([.fieldLink RX2 22 "PrintRacks$Pad" "length" "I", .fieldLink RX2 18 "PrintRacks$Pad" "codes" "[I"] ++ wsX20)
def wsX4_within : List Cond := .code yX4_within cX4_within 3 (some .boolean) :: ([])
def wsX2_takesLetter : List Cond := .code yX2_takesLetter cX2_takesLetter 3 (some .boolean) :: ([.fieldLink RX2 29 "PrintRacks$Pad" "expected" "I"] ++ wsX20)
def wsX2_endJob : List Cond := .code yX2_endJob cX2_endJob 1 none :: ([.fieldLink RX2 12 "PrintRacks$Pad" "found" "LPrintRacks$Board;", .fieldLink RX2 47 "PrintRacks$Pad" "plate" "I", .fieldLink RX2 50 "PrintRacks$Pad" "shade" "I", .fieldLink RX2 53 "PrintRacks$Pad" "hundreds" "I", .fieldLink RX2 56 "PrintRacks$Pad" "dueTime" "I", .methodLink RX2 69 yX0_append, .instanceMethod yX0_append, .selects RX0 yX0_append yX0_append, .initialized RX0, .code yX0_append cX0_append 5 none, .fieldLink RX0 29 "PrintRacks$Board" "jobs" "I", .fieldLink RX0 26 "PrintRacks$Board" "fields" "[[I"] ++ wsX20 ++ wsX00)
def wsX2_takesEndOfJob : List Cond := .code yX2_takesEndOfJob cX2_takesEndOfJob 2 (some .boolean) :: ([.fieldLink RX2 29 "PrintRacks$Pad" "expected" "I", .methodLink RX2 36 yX2_endJob, .instanceMethod yX2_endJob, .selects RX2 yX2_endJob yX2_endJob, .initialized RX2, .code yX2_endJob cX2_endJob 1 none, .fieldLink RX2 12 "PrintRacks$Pad" "found" "LPrintRacks$Board;", .fieldLink RX2 47 "PrintRacks$Pad" "plate" "I", .fieldLink RX2 50 "PrintRacks$Pad" "shade" "I", .fieldLink RX2 53 "PrintRacks$Pad" "hundreds" "I", .fieldLink RX2 56 "PrintRacks$Pad" "dueTime" "I", .methodLink RX2 69 yX0_append, .instanceMethod yX0_append, .selects RX0 yX0_append yX0_append, .initialized RX0, .code yX0_append cX0_append 5 none, .fieldLink RX0 29 "PrintRacks$Board" "jobs" "I", .fieldLink RX0 26 "PrintRacks$Board" "fields" "[[I"] ++ wsX20 ++ wsX00)
def wsX2_takesBehindHundreds : List Cond := .code yX2_takesBehindHundreds cX2_takesBehindHundreds 3 (some .boolean) :: ([.fieldLink RX2 53 "PrintRacks$Pad" "hundreds" "I", .fieldLink RX2 29 "PrintRacks$Pad" "expected" "I", .methodLink RX2 66 yX2_takesEndOfJob, .instanceMethod yX2_takesEndOfJob, .selects RX2 yX2_takesEndOfJob yX2_takesEndOfJob, .initialized RX2, .code yX2_takesEndOfJob cX2_takesEndOfJob 2 (some .boolean), .methodLink RX2 36 yX2_endJob, .instanceMethod yX2_endJob, .selects RX2 yX2_endJob yX2_endJob, .code yX2_endJob cX2_endJob 1 none, .fieldLink RX2 12 "PrintRacks$Pad" "found" "LPrintRacks$Board;", .fieldLink RX2 47 "PrintRacks$Pad" "plate" "I", .fieldLink RX2 50 "PrintRacks$Pad" "shade" "I", .fieldLink RX2 56 "PrintRacks$Pad" "dueTime" "I", .methodLink RX2 69 yX0_append, .instanceMethod yX0_append, .selects RX0 yX0_append yX0_append, .initialized RX0, .code yX0_append cX0_append 5 none, .fieldLink RX0 29 "PrintRacks$Board" "jobs" "I", .fieldLink RX0 26 "PrintRacks$Board" "fields" "[[I"] ++ wsX20 ++ wsX00)
def wsX2_takesBehindDue : List Cond := .code yX2_takesBehindDue cX2_takesBehindDue 4 (some .boolean) :: ([.fieldLink RX2 56 "PrintRacks$Pad" "dueTime" "I", .methodLink RX2 66 yX2_takesEndOfJob, .instanceMethod yX2_takesEndOfJob, .selects RX2 yX2_takesEndOfJob yX2_takesEndOfJob, .initialized RX2, .code yX2_takesEndOfJob cX2_takesEndOfJob 2 (some .boolean), .fieldLink RX2 29 "PrintRacks$Pad" "expected" "I", .methodLink RX2 36 yX2_endJob, .instanceMethod yX2_endJob, .selects RX2 yX2_endJob yX2_endJob, .code yX2_endJob cX2_endJob 1 none, .fieldLink RX2 12 "PrintRacks$Pad" "found" "LPrintRacks$Board;", .fieldLink RX2 47 "PrintRacks$Pad" "plate" "I", .fieldLink RX2 50 "PrintRacks$Pad" "shade" "I", .fieldLink RX2 53 "PrintRacks$Pad" "hundreds" "I", .methodLink RX2 69 yX0_append, .instanceMethod yX0_append, .selects RX0 yX0_append yX0_append, .initialized RX0, .code yX0_append cX0_append 5 none, .fieldLink RX0 29 "PrintRacks$Board" "jobs" "I", .fieldLink RX0 26 "PrintRacks$Board" "fields" "[[I"] ++ wsX20 ++ wsX00)
def wsX2_takes_r1 : List Cond := [Cond.fieldLink RX2 29 "PrintRacks$Pad" "expected" "I", Cond.fieldLink RX2 47 "PrintRacks$Pad" "plate" "I", Cond.fieldLink RX2 50 "PrintRacks$Pad" "shade" "I", Cond.fieldLink RX2 53 "PrintRacks$Pad" "hundreds" "I", Cond.fieldLink RX2 56 "PrintRacks$Pad" "dueTime" "I", Cond.static yX4_within, Cond.initialized RX4, Cond.code yX4_within cX4_within 3 (some .boolean), Cond.methodLink RX2 43 yX2_takesLetter, Cond.instanceMethod yX2_takesLetter, Cond.selects RX2 yX2_takesLetter yX2_takesLetter, Cond.initialized RX2, Cond.code yX2_takesLetter cX2_takesLetter 3 (some .boolean), Cond.methodLink RX2 59 yX2_takesBehindHundreds, Cond.instanceMethod yX2_takesBehindHundreds, Cond.selects RX2 yX2_takesBehindHundreds yX2_takesBehindHundreds, Cond.code yX2_takesBehindHundreds cX2_takesBehindHundreds 3 (some .boolean), Cond.methodLink RX2 66 yX2_takesEndOfJob, Cond.instanceMethod yX2_takesEndOfJob, Cond.selects RX2 yX2_takesEndOfJob yX2_takesEndOfJob, Cond.code yX2_takesEndOfJob cX2_takesEndOfJob 2 (some .boolean), Cond.methodLink RX2 36 yX2_endJob, Cond.instanceMethod yX2_endJob, Cond.selects RX2 yX2_endJob yX2_endJob]
def wsX2_takes_r2 : List Cond := [Cond.code yX2_endJob cX2_endJob 1 none, Cond.fieldLink RX2 12 "PrintRacks$Pad" "found" "LPrintRacks$Board;", Cond.methodLink RX2 69 yX0_append, Cond.instanceMethod yX0_append, Cond.selects RX0 yX0_append yX0_append, Cond.initialized RX0, Cond.code yX0_append cX0_append 5 none, Cond.fieldLink RX0 29 "PrintRacks$Board" "jobs" "I", Cond.fieldLink RX0 26 "PrintRacks$Board" "fields" "[[I", Cond.methodLink RX2 63 yX2_takesBehindDue, Cond.instanceMethod yX2_takesBehindDue, Cond.selects RX2 yX2_takesBehindDue yX2_takesBehindDue, Cond.code yX2_takesBehindDue cX2_takesBehindDue 4 (some .boolean)]
def wsX2_takes : List Cond := .code yX2_takes cX2_takes 3 (some .boolean) :: ((wsX2_takes_r1 ++ wsX2_takes_r2) ++ wsX20 ++ wsX00)
def wsX2_parse_r1 : List Cond := [Cond.fieldLink RX2 12 "PrintRacks$Pad" "found" "LPrintRacks$Board;", Cond.fieldLink RX2 26 "PrintRacks$Board" "jobs" "I", Cond.fieldLink RX2 29 "PrintRacks$Pad" "expected" "I", Cond.fieldLink RX2 22 "PrintRacks$Pad" "length" "I", Cond.fieldLink RX2 18 "PrintRacks$Pad" "codes" "[I", Cond.methodLink RX2 32 yX2_takes, Cond.instanceMethod yX2_takes, Cond.selects RX2 yX2_takes yX2_takes, Cond.initialized RX2, Cond.code yX2_takes cX2_takes 3 (some .boolean), Cond.fieldLink RX2 47 "PrintRacks$Pad" "plate" "I", Cond.fieldLink RX2 50 "PrintRacks$Pad" "shade" "I", Cond.fieldLink RX2 53 "PrintRacks$Pad" "hundreds" "I", Cond.fieldLink RX2 56 "PrintRacks$Pad" "dueTime" "I", Cond.static yX4_within, Cond.initialized RX4, Cond.code yX4_within cX4_within 3 (some .boolean), Cond.methodLink RX2 43 yX2_takesLetter, Cond.instanceMethod yX2_takesLetter, Cond.selects RX2 yX2_takesLetter yX2_takesLetter, Cond.code yX2_takesLetter cX2_takesLetter 3 (some .boolean), Cond.methodLink RX2 59 yX2_takesBehindHundreds, Cond.instanceMethod yX2_takesBehindHundreds, Cond.selects RX2 yX2_takesBehindHundreds yX2_takesBehindHundreds]
def wsX2_parse_r2 : List Cond := [Cond.code yX2_takesBehindHundreds cX2_takesBehindHundreds 3 (some .boolean), Cond.methodLink RX2 66 yX2_takesEndOfJob, Cond.instanceMethod yX2_takesEndOfJob, Cond.selects RX2 yX2_takesEndOfJob yX2_takesEndOfJob, Cond.code yX2_takesEndOfJob cX2_takesEndOfJob 2 (some .boolean), Cond.methodLink RX2 36 yX2_endJob, Cond.instanceMethod yX2_endJob, Cond.selects RX2 yX2_endJob yX2_endJob, Cond.code yX2_endJob cX2_endJob 1 none, Cond.methodLink RX2 69 yX0_append, Cond.instanceMethod yX0_append, Cond.selects RX0 yX0_append yX0_append, Cond.initialized RX0, Cond.code yX0_append cX0_append 5 none, Cond.fieldLink RX0 29 "PrintRacks$Board" "jobs" "I", Cond.fieldLink RX0 26 "PrintRacks$Board" "fields" "[[I", Cond.methodLink RX2 63 yX2_takesBehindDue, Cond.instanceMethod yX2_takesBehindDue, Cond.selects RX2 yX2_takesBehindDue yX2_takesBehindDue, Cond.code yX2_takesBehindDue cX2_takesBehindDue 4 (some .boolean)]
def wsX2_parse : List Cond := .code yX2_parse cX2_parse 2 (some .int) :: ((wsX2_parse_r1 ++ wsX2_parse_r2) ++ wsX20 ++ wsX00)
def wsX3_init : List Cond := .code yX3_init cX3_init 1 none :: ([.methodLink RX3 3 objectInit, .instanceMethod objectInit, .code objectInit ⟨#[0xb1]⟩ 1 none, .arrayClass .int, .fieldLink RX3 9 "PrintRacks$Press" "racks" "[I", .fieldLink RX3 15 "PrintRacks$Press" "wash" "[I", .fieldLink RX3 18 "PrintRacks$Press" "ready" "[I", .fieldLink RX3 21 "PrintRacks$Press" "waits" "[I", .fieldLink RX3 24 "PrintRacks$Press" "begins" "[I", .fieldLink RX3 27 "PrintRacks$Press" "printed" "[I", .fieldLink RX3 30 "PrintRacks$Press" "dry" "[I", .fieldLink RX3 33 "PrintRacks$Press" "late" "[I"] ++ wsX30)
def wsX3_clear : List Cond := .code yX3_clear cX3_clear 1 none :: ([.fieldLink RX3 57 "PrintRacks$Press" "lateJobs" "I", .fieldLink RX3 60 "PrintRacks$Press" "lateSum" "I", .fieldLink RX3 63 "PrintRacks$Press" "mostLate" "I", .fieldLink RX3 66 "PrintRacks$Press" "washSum" "I", .fieldLink RX3 69 "PrintRacks$Press" "platesPutOn" "I", .fieldLink RX3 72 "PrintRacks$Press" "waitSum" "I", .fieldLink RX3 75 "PrintRacks$Press" "mostTaken" "I", .fieldLink RX3 78 "PrintRacks$Press" "taken" "I", .fieldLink RX3 81 "PrintRacks$Press" "oldestDrying" "I"] ++ wsX30)
def wsX3_washAhead : List Cond := .code yX3_washAhead cX3_washAhead 3 (some .int) :: ([.fieldLink RX3 84 "PrintRacks$Board" "fields" "[[I", .fieldLink RX3 92 "PrintRacks$Board" "settings" "[I"] ++ wsX00)
def wsX3_makeReady : List Cond := .code yX3_makeReady cX3_makeReady 4 none :: ([.fieldLink RX3 84 "PrintRacks$Board" "fields" "[[I", .fieldLink RX3 15 "PrintRacks$Press" "wash" "[I", .fieldLink RX3 66 "PrintRacks$Press" "washSum" "I", .fieldLink RX3 18 "PrintRacks$Press" "ready" "[I", .fieldLink RX3 92 "PrintRacks$Board" "settings" "[I", .fieldLink RX3 69 "PrintRacks$Press" "platesPutOn" "I", .methodLink RX3 88 yX3_washAhead, .static yX3_washAhead, .initialized RX3, .code yX3_washAhead cX3_washAhead 3 (some .int)] ++ wsX00 ++ wsX30)
def wsX3_whenRacksAreFree : List Cond := .code yX3_whenRacksAreFree cX3_whenRacksAreFree 5 (some .int) :: ([.fieldLink RX3 81 "PrintRacks$Press" "oldestDrying" "I", .fieldLink RX3 30 "PrintRacks$Press" "dry" "[I", .fieldLink RX3 78 "PrintRacks$Press" "taken" "I", .methodLink RX3 103 Lib.Math.max.name, .static Lib.Math.max.name, .initialized "java/lang/Math", .code Lib.Math.max.name Lib.Math.max.code 2 (some .int), .fieldLink RX3 9 "PrintRacks$Press" "racks" "[I"] ++ wsX30)
def wsX3_printJob : List Cond := .code yX3_printJob cX3_printJob 7 none :: ([.fieldLink RX3 27 "PrintRacks$Press" "printed" "[I", .fieldLink RX3 84 "PrintRacks$Board" "fields" "[[I", .fieldLink RX3 18 "PrintRacks$Press" "ready" "[I", .fieldLink RX3 92 "PrintRacks$Board" "settings" "[I", .fieldLink RX3 9 "PrintRacks$Press" "racks" "[I", .fieldLink RX3 21 "PrintRacks$Press" "waits" "[I", .fieldLink RX3 24 "PrintRacks$Press" "begins" "[I", .fieldLink RX3 72 "PrintRacks$Press" "waitSum" "I", .static yX4_racksFor, .initialized RX4, .code yX4_racksFor cX4_racksFor 2 (some .int), .methodLink RX3 99 yX3_whenRacksAreFree, .instanceMethod yX3_whenRacksAreFree, .selects RX3 yX3_whenRacksAreFree yX3_whenRacksAreFree, .initialized RX3, .code yX3_whenRacksAreFree cX3_whenRacksAreFree 5 (some .int), .fieldLink RX3 81 "PrintRacks$Press" "oldestDrying" "I", .fieldLink RX3 30 "PrintRacks$Press" "dry" "[I", .fieldLink RX3 78 "PrintRacks$Press" "taken" "I", .methodLink RX3 103 Lib.Math.max.name, .static Lib.Math.max.name, .initialized "java/lang/Math", .code Lib.Math.max.name Lib.Math.max.code 2 (some .int)] ++ wsX30 ++ wsX00)
def wsX3_dryJob : List Cond := .code yX3_dryJob cX3_dryJob 3 none :: ([.fieldLink RX3 30 "PrintRacks$Press" "dry" "[I", .fieldLink RX3 27 "PrintRacks$Press" "printed" "[I", .fieldLink RX3 92 "PrintRacks$Board" "settings" "[I", .fieldLink RX3 78 "PrintRacks$Press" "taken" "I", .fieldLink RX3 9 "PrintRacks$Press" "racks" "[I", .fieldLink RX3 75 "PrintRacks$Press" "mostTaken" "I", .methodLink RX3 103 Lib.Math.max.name, .static Lib.Math.max.name, .initialized "java/lang/Math", .code Lib.Math.max.name Lib.Math.max.code 2 (some .int), .fieldLink RX3 33 "PrintRacks$Press" "late" "[I", .fieldLink RX3 84 "PrintRacks$Board" "fields" "[[I", .fieldLink RX3 60 "PrintRacks$Press" "lateSum" "I", .fieldLink RX3 63 "PrintRacks$Press" "mostLate" "I", .fieldLink RX3 57 "PrintRacks$Press" "lateJobs" "I"] ++ wsX30 ++ wsX00)
def wsX3_print_r1 : List Cond := [Cond.fieldLink RX3 39 "PrintRacks$Board" "jobs" "I", Cond.fieldLink RX3 45 "PrintRacks$Press" "jobs" "I", Cond.methodLink RX3 36 yX3_clear, Cond.instanceMethod yX3_clear, Cond.selects RX3 yX3_clear yX3_clear, Cond.initialized RX3, Cond.code yX3_clear cX3_clear 1 none, Cond.fieldLink RX3 57 "PrintRacks$Press" "lateJobs" "I", Cond.fieldLink RX3 60 "PrintRacks$Press" "lateSum" "I", Cond.fieldLink RX3 63 "PrintRacks$Press" "mostLate" "I", Cond.fieldLink RX3 66 "PrintRacks$Press" "washSum" "I", Cond.fieldLink RX3 69 "PrintRacks$Press" "platesPutOn" "I", Cond.fieldLink RX3 72 "PrintRacks$Press" "waitSum" "I", Cond.fieldLink RX3 75 "PrintRacks$Press" "mostTaken" "I", Cond.fieldLink RX3 78 "PrintRacks$Press" "taken" "I", Cond.fieldLink RX3 81 "PrintRacks$Press" "oldestDrying" "I", Cond.methodLink RX3 46 yX3_makeReady, Cond.instanceMethod yX3_makeReady, Cond.selects RX3 yX3_makeReady yX3_makeReady, Cond.code yX3_makeReady cX3_makeReady 4 none, Cond.fieldLink RX3 84 "PrintRacks$Board" "fields" "[[I", Cond.fieldLink RX3 15 "PrintRacks$Press" "wash" "[I", Cond.fieldLink RX3 18 "PrintRacks$Press" "ready" "[I", Cond.fieldLink RX3 92 "PrintRacks$Board" "settings" "[I"]
def wsX3_print_r2 : List Cond := [Cond.methodLink RX3 88 yX3_washAhead, Cond.static yX3_washAhead, Cond.code yX3_washAhead cX3_washAhead 3 (some .int), Cond.methodLink RX3 50 yX3_printJob, Cond.instanceMethod yX3_printJob, Cond.selects RX3 yX3_printJob yX3_printJob, Cond.code yX3_printJob cX3_printJob 7 none, Cond.fieldLink RX3 27 "PrintRacks$Press" "printed" "[I", Cond.fieldLink RX3 9 "PrintRacks$Press" "racks" "[I", Cond.fieldLink RX3 21 "PrintRacks$Press" "waits" "[I", Cond.fieldLink RX3 24 "PrintRacks$Press" "begins" "[I", Cond.static yX4_racksFor, Cond.initialized RX4, Cond.code yX4_racksFor cX4_racksFor 2 (some .int), Cond.methodLink RX3 99 yX3_whenRacksAreFree, Cond.instanceMethod yX3_whenRacksAreFree, Cond.selects RX3 yX3_whenRacksAreFree yX3_whenRacksAreFree, Cond.code yX3_whenRacksAreFree cX3_whenRacksAreFree 5 (some .int), Cond.fieldLink RX3 30 "PrintRacks$Press" "dry" "[I", Cond.methodLink RX3 103 Lib.Math.max.name, Cond.static Lib.Math.max.name, Cond.initialized "java/lang/Math", Cond.code Lib.Math.max.name Lib.Math.max.code 2 (some .int), Cond.methodLink RX3 54 yX3_dryJob]
def wsX3_print_r3 : List Cond := [Cond.instanceMethod yX3_dryJob, Cond.selects RX3 yX3_dryJob yX3_dryJob, Cond.code yX3_dryJob cX3_dryJob 3 none, Cond.fieldLink RX3 33 "PrintRacks$Press" "late" "[I"]
def wsX3_print : List Cond := .code yX3_print cX3_print 4 none :: ((wsX3_print_r1 ++ (wsX3_print_r2 ++ wsX3_print_r3)) ++ wsX00 ++ wsX30)
def wsX3_lastOf : List Cond := .code yX3_lastOf cX3_lastOf 2 (some .int) :: ([.fieldLink RX3 45 "PrintRacks$Press" "jobs" "I"] ++ wsX30)
def wsX3_jobOnPress : List Cond := .code yX3_jobOnPress cX3_jobOnPress 3 (some .int) :: ([.fieldLink RX3 45 "PrintRacks$Press" "jobs" "I", .fieldLink RX3 24 "PrintRacks$Press" "begins" "[I", .fieldLink RX3 27 "PrintRacks$Press" "printed" "[I"] ++ wsX30)
def wsX3_racksTaken : List Cond := .code yX3_racksTaken cX3_racksTaken 4 (some .int) :: ([.fieldLink RX3 45 "PrintRacks$Press" "jobs" "I", .fieldLink RX3 27 "PrintRacks$Press" "printed" "[I", .fieldLink RX3 30 "PrintRacks$Press" "dry" "[I", .fieldLink RX3 9 "PrintRacks$Press" "racks" "[I"] ++ wsX30)
def wsX3_reached : List Cond := .code yX3_reached cX3_reached 5 (some .int) :: ([.fieldLink RX3 45 "PrintRacks$Press" "jobs" "I"] ++ wsX30)
def wsX4_init_r1 : List Cond := [Cond.methodLink RX4 1 objectInit, Cond.instanceMethod objectInit, Cond.code objectInit ⟨#[0xb1]⟩ 1 none, Cond.classLink RX4 7 RX0, Cond.instantiable RX0 3, Cond.initialized RX0, Cond.fieldLink RX4 10 "PrintRacks" "board" "LPrintRacks$Board;", Cond.fieldLink RX4 16 "PrintRacks" "trial" "LPrintRacks$Board;", Cond.classLink RX4 19 RX3, Cond.instantiable RX3 18, Cond.initialized RX3, Cond.fieldLink RX4 22 "PrintRacks" "press" "LPrintRacks$Press;", Cond.classLink RX4 26 RX2, Cond.instantiable RX2 8, Cond.initialized RX2, Cond.fieldLink RX4 29 "PrintRacks" "pad" "LPrintRacks$Pad;", Cond.classLink RX4 33 RX1, Cond.instantiable RX1 3, Cond.initialized RX1, Cond.fieldLink RX4 36 "PrintRacks" "history" "LPrintRacks$History;", Cond.fieldLink RX4 40 "PrintRacks" "slots" "[LPrintRacks$Board;", Cond.arrayClass .boolean, Cond.fieldLink RX4 44 "PrintRacks" "saved" "[Z", Cond.methodLink RX4 9 yX0_init]
def wsX4_init_r2 : List Cond := [Cond.instanceMethod yX0_init, Cond.code yX0_init cX0_init 1 none, Cond.methodLink RX0 3 objectInit, Cond.arrayClass .int, Cond.fieldLink RX0 9 "PrintRacks$Board" "settings" "[I", Cond.methodLink RX0 18 arraycopyName, Cond.native arraycopyName, Cond.static arraycopyName, Cond.initialized "java/lang/System", Cond.classLink RX0 24 "[[I", Cond.fieldLink RX0 26 "PrintRacks$Board" "fields" "[[I", Cond.instanceMethod yX3_init, Cond.code yX3_init cX3_init 1 none, Cond.methodLink RX3 3 objectInit, Cond.fieldLink RX3 9 "PrintRacks$Press" "racks" "[I", Cond.fieldLink RX3 15 "PrintRacks$Press" "wash" "[I", Cond.fieldLink RX3 18 "PrintRacks$Press" "ready" "[I", Cond.fieldLink RX3 21 "PrintRacks$Press" "waits" "[I", Cond.fieldLink RX3 24 "PrintRacks$Press" "begins" "[I", Cond.fieldLink RX3 27 "PrintRacks$Press" "printed" "[I", Cond.fieldLink RX3 30 "PrintRacks$Press" "dry" "[I", Cond.fieldLink RX3 33 "PrintRacks$Press" "late" "[I", Cond.instanceMethod yX2_init, Cond.code yX2_init cX2_init 1 none]
def wsX4_init_r3 : List Cond := [Cond.methodLink RX2 3 objectInit, Cond.classLink RX2 9 RX0, Cond.fieldLink RX2 12 "PrintRacks$Pad" "found" "LPrintRacks$Board;", Cond.fieldLink RX2 18 "PrintRacks$Pad" "codes" "[I", Cond.methodLink RX2 11 yX0_init, Cond.methodLink RX4 35 yX1_init, Cond.instanceMethod yX1_init, Cond.code yX1_init cX1_init 2 none, Cond.methodLink RX1 3 objectInit, Cond.classLink RX1 9 RX0, Cond.fieldLink RX1 11 "PrintRacks$History" "states" "[LPrintRacks$Board;", Cond.methodLink RX1 17 yX0_init]
def wsX4_init : List Cond := .code yX4_init cX4_init 2 none :: ((wsX4_init_r1 ++ (wsX4_init_r2 ++ wsX4_init_r3)) ++ wsX00 ++ wsX40 ++ wsX30 ++ wsX20 ++ wsX10)
def wsX4_set_r1 : List Cond := [Cond.fieldLink RX4 52 "PrintRacks" "LEAST_SETTING" "[I", Cond.fieldLink RX4 56 "PrintRacks" "MOST_SETTING" "[I", Cond.fieldLink RX4 10 "PrintRacks" "board" "LPrintRacks$Board;", Cond.fieldLink RX4 59 "PrintRacks$Board" "settings" "[I", Cond.fieldLink RX4 36 "PrintRacks" "history" "LPrintRacks$History;", Cond.methodLink RX4 48 yX4_within, Cond.static yX4_within, Cond.initialized RX4, Cond.code yX4_within cX4_within 3 (some .boolean), Cond.methodLink RX4 62 yX0_mostRacksNeeded, Cond.instanceMethod yX0_mostRacksNeeded, Cond.selects RX0 yX0_mostRacksNeeded yX0_mostRacksNeeded, Cond.initialized RX0, Cond.code yX0_mostRacksNeeded cX0_mostRacksNeeded 4 (some .int), Cond.fieldLink RX0 29 "PrintRacks$Board" "jobs" "I", Cond.fieldLink RX0 26 "PrintRacks$Board" "fields" "[[I", Cond.methodLink RX0 52 Lib.Math.max.name, Cond.static Lib.Math.max.name, Cond.initialized "java/lang/Math", Cond.code Lib.Math.max.name Lib.Math.max.code 2 (some .int), Cond.static yX4_racksFor, Cond.code yX4_racksFor cX4_racksFor 2 (some .int), Cond.methodLink RX4 66 yX1_remember, Cond.instanceMethod yX1_remember]
def wsX4_set_r2 : List Cond := [Cond.selects RX1 yX1_remember yX1_remember, Cond.initialized RX1, Cond.code yX1_remember cX1_remember 2 none, Cond.fieldLink RX1 11 "PrintRacks$History" "states" "[LPrintRacks$Board;", Cond.fieldLink RX1 18 "PrintRacks$History" "next" "I", Cond.fieldLink RX1 26 "PrintRacks$History" "kept" "I", Cond.methodLink RX1 29 Lib.Math.min.name, Cond.static Lib.Math.min.name, Cond.code Lib.Math.min.name Lib.Math.min.code 2 (some .int), Cond.methodLink RX1 22 yX0_copyFrom, Cond.instanceMethod yX0_copyFrom, Cond.selects RX0 yX0_copyFrom yX0_copyFrom, Cond.code yX0_copyFrom cX0_copyFrom 3 none, Cond.fieldLink RX0 9 "PrintRacks$Board" "settings" "[I", Cond.methodLink RX0 18 arraycopyName, Cond.native arraycopyName, Cond.static arraycopyName, Cond.initialized "java/lang/System"]
def wsX4_set : List Cond := .code yX4_set cX4_set 6 (some .int) :: ((wsX4_set_r1 ++ wsX4_set_r2) ++ wsX40 ++ wsX00 ++ wsX10)
def wsX4_job_r1 : List Cond := [Cond.fieldLink RX4 10 "PrintRacks" "board" "LPrintRacks$Board;", Cond.fieldLink RX4 59 "PrintRacks$Board" "settings" "[I", Cond.fieldLink RX4 74 "PrintRacks$Board" "jobs" "I", Cond.fieldLink RX4 36 "PrintRacks" "history" "LPrintRacks$History;", Cond.methodLink RX4 48 yX4_within, Cond.static yX4_within, Cond.initialized RX4, Cond.code yX4_within cX4_within 3 (some .boolean), Cond.methodLink RX4 70 yX4_racksFor, Cond.static yX4_racksFor, Cond.code yX4_racksFor cX4_racksFor 2 (some .int), Cond.methodLink RX4 66 yX1_remember, Cond.instanceMethod yX1_remember, Cond.selects RX1 yX1_remember yX1_remember, Cond.initialized RX1, Cond.code yX1_remember cX1_remember 2 none, Cond.fieldLink RX1 11 "PrintRacks$History" "states" "[LPrintRacks$Board;", Cond.fieldLink RX1 18 "PrintRacks$History" "next" "I", Cond.fieldLink RX1 26 "PrintRacks$History" "kept" "I", Cond.methodLink RX1 29 Lib.Math.min.name, Cond.static Lib.Math.min.name, Cond.initialized "java/lang/Math", Cond.code Lib.Math.min.name Lib.Math.min.code 2 (some .int), Cond.methodLink RX1 22 yX0_copyFrom]
def wsX4_job_r2 : List Cond := [Cond.instanceMethod yX0_copyFrom, Cond.selects RX0 yX0_copyFrom yX0_copyFrom, Cond.initialized RX0, Cond.code yX0_copyFrom cX0_copyFrom 3 none, Cond.fieldLink RX0 9 "PrintRacks$Board" "settings" "[I", Cond.methodLink RX0 18 arraycopyName, Cond.native arraycopyName, Cond.static arraycopyName, Cond.initialized "java/lang/System", Cond.fieldLink RX0 26 "PrintRacks$Board" "fields" "[[I", Cond.fieldLink RX0 29 "PrintRacks$Board" "jobs" "I", Cond.methodLink RX4 78 yX0_append, Cond.instanceMethod yX0_append, Cond.selects RX0 yX0_append yX0_append, Cond.code yX0_append cX0_append 5 none]
def wsX4_job : List Cond := .code yX4_job cX4_job 5 (some .int) :: ((wsX4_job_r1 ++ wsX4_job_r2) ++ wsX40 ++ wsX00 ++ wsX10)
def wsX4_read_r1 : List Cond := [Cond.fieldLink RX4 29 "PrintRacks" "pad" "LPrintRacks$Pad;", Cond.fieldLink RX4 86 "PrintRacks$Pad" "found" "LPrintRacks$Board;", Cond.fieldLink RX4 10 "PrintRacks" "board" "LPrintRacks$Board;", Cond.fieldLink RX4 59 "PrintRacks$Board" "settings" "[I", Cond.fieldLink RX4 74 "PrintRacks$Board" "jobs" "I", Cond.fieldLink RX4 36 "PrintRacks" "history" "LPrintRacks$History;", Cond.fieldLink RX4 92 "PrintRacks$Pad" "length" "I", Cond.methodLink RX4 82 yX2_parse, Cond.instanceMethod yX2_parse, Cond.selects RX2 yX2_parse yX2_parse, Cond.initialized RX2, Cond.code yX2_parse cX2_parse 2 (some .int), Cond.fieldLink RX2 12 "PrintRacks$Pad" "found" "LPrintRacks$Board;", Cond.fieldLink RX2 26 "PrintRacks$Board" "jobs" "I", Cond.fieldLink RX2 29 "PrintRacks$Pad" "expected" "I", Cond.fieldLink RX2 22 "PrintRacks$Pad" "length" "I", Cond.fieldLink RX2 18 "PrintRacks$Pad" "codes" "[I", Cond.methodLink RX2 32 yX2_takes, Cond.instanceMethod yX2_takes, Cond.selects RX2 yX2_takes yX2_takes, Cond.code yX2_takes cX2_takes 3 (some .boolean), Cond.fieldLink RX2 47 "PrintRacks$Pad" "plate" "I", Cond.fieldLink RX2 50 "PrintRacks$Pad" "shade" "I", Cond.fieldLink RX2 53 "PrintRacks$Pad" "hundreds" "I"]
def wsX4_read_r2 : List Cond := [Cond.fieldLink RX2 56 "PrintRacks$Pad" "dueTime" "I", Cond.static yX4_within, Cond.initialized RX4, Cond.code yX4_within cX4_within 3 (some .boolean), Cond.methodLink RX2 43 yX2_takesLetter, Cond.instanceMethod yX2_takesLetter, Cond.selects RX2 yX2_takesLetter yX2_takesLetter, Cond.code yX2_takesLetter cX2_takesLetter 3 (some .boolean), Cond.methodLink RX2 59 yX2_takesBehindHundreds, Cond.instanceMethod yX2_takesBehindHundreds, Cond.selects RX2 yX2_takesBehindHundreds yX2_takesBehindHundreds, Cond.code yX2_takesBehindHundreds cX2_takesBehindHundreds 3 (some .boolean), Cond.methodLink RX2 66 yX2_takesEndOfJob, Cond.instanceMethod yX2_takesEndOfJob, Cond.selects RX2 yX2_takesEndOfJob yX2_takesEndOfJob, Cond.code yX2_takesEndOfJob cX2_takesEndOfJob 2 (some .boolean), Cond.methodLink RX2 36 yX2_endJob, Cond.instanceMethod yX2_endJob, Cond.selects RX2 yX2_endJob yX2_endJob, Cond.code yX2_endJob cX2_endJob 1 none, Cond.methodLink RX2 69 yX0_append, Cond.instanceMethod yX0_append, Cond.selects RX0 yX0_append yX0_append, Cond.initialized RX0]
def wsX4_read_r3 : List Cond := [Cond.code yX0_append cX0_append 5 none, Cond.fieldLink RX0 29 "PrintRacks$Board" "jobs" "I", Cond.fieldLink RX0 26 "PrintRacks$Board" "fields" "[[I", Cond.methodLink RX2 63 yX2_takesBehindDue, Cond.instanceMethod yX2_takesBehindDue, Cond.selects RX2 yX2_takesBehindDue yX2_takesBehindDue, Cond.code yX2_takesBehindDue cX2_takesBehindDue 4 (some .boolean), Cond.methodLink RX4 62 yX0_mostRacksNeeded, Cond.instanceMethod yX0_mostRacksNeeded, Cond.selects RX0 yX0_mostRacksNeeded yX0_mostRacksNeeded, Cond.code yX0_mostRacksNeeded cX0_mostRacksNeeded 4 (some .int), Cond.methodLink RX0 52 Lib.Math.max.name, Cond.static Lib.Math.max.name, Cond.initialized "java/lang/Math", Cond.code Lib.Math.max.name Lib.Math.max.code 2 (some .int), Cond.static yX4_racksFor, Cond.code yX4_racksFor cX4_racksFor 2 (some .int), Cond.methodLink RX4 66 yX1_remember, Cond.instanceMethod yX1_remember, Cond.selects RX1 yX1_remember yX1_remember, Cond.initialized RX1, Cond.code yX1_remember cX1_remember 2 none, Cond.fieldLink RX1 11 "PrintRacks$History" "states" "[LPrintRacks$Board;", Cond.fieldLink RX1 18 "PrintRacks$History" "next" "I"]
def wsX4_read_r4 : List Cond := [Cond.fieldLink RX1 26 "PrintRacks$History" "kept" "I", Cond.methodLink RX1 29 Lib.Math.min.name, Cond.static Lib.Math.min.name, Cond.code Lib.Math.min.name Lib.Math.min.code 2 (some .int), Cond.methodLink RX1 22 yX0_copyFrom, Cond.instanceMethod yX0_copyFrom, Cond.selects RX0 yX0_copyFrom yX0_copyFrom, Cond.code yX0_copyFrom cX0_copyFrom 3 none, Cond.fieldLink RX0 9 "PrintRacks$Board" "settings" "[I", Cond.methodLink RX0 18 arraycopyName, Cond.native arraycopyName, Cond.static arraycopyName, Cond.initialized "java/lang/System", Cond.methodLink RX4 89 yX0_appendAll, Cond.instanceMethod yX0_appendAll, Cond.selects RX0 yX0_appendAll yX0_appendAll, Cond.code yX0_appendAll cX0_appendAll 3 none, Cond.methodLink RX0 33 yX0_append]
def wsX4_read : List Cond := .code yX4_read cX4_read 1 (some .int) :: ((wsX4_read_r1 ++ (wsX4_read_r2 ++ (wsX4_read_r3 ++ wsX4_read_r4))) ++ wsX40 ++ wsX20 ++ wsX00 ++ wsX10)
def wsX4_isJob : List Cond := .code yX4_isJob cX4_isJob 2 (some .boolean) :: ([.fieldLink RX4 10 "PrintRacks" "board" "LPrintRacks$Board;", .fieldLink RX4 74 "PrintRacks$Board" "jobs" "I", .methodLink RX4 48 yX4_within, .static yX4_within, .initialized RX4, .code yX4_within cX4_within 3 (some .boolean)] ++ wsX40 ++ wsX00)
def wsX4_drop_r1 : List Cond := [Cond.fieldLink RX4 36 "PrintRacks" "history" "LPrintRacks$History;", Cond.fieldLink RX4 10 "PrintRacks" "board" "LPrintRacks$Board;", Cond.fieldLink RX4 74 "PrintRacks$Board" "jobs" "I", Cond.methodLink RX4 95 yX4_isJob, Cond.instanceMethod yX4_isJob, Cond.selects RX4 yX4_isJob yX4_isJob, Cond.initialized RX4, Cond.code yX4_isJob cX4_isJob 2 (some .boolean), Cond.methodLink RX4 48 yX4_within, Cond.static yX4_within, Cond.code yX4_within cX4_within 3 (some .boolean), Cond.methodLink RX4 66 yX1_remember, Cond.instanceMethod yX1_remember, Cond.selects RX1 yX1_remember yX1_remember, Cond.initialized RX1, Cond.code yX1_remember cX1_remember 2 none, Cond.fieldLink RX1 11 "PrintRacks$History" "states" "[LPrintRacks$Board;", Cond.fieldLink RX1 18 "PrintRacks$History" "next" "I", Cond.fieldLink RX1 26 "PrintRacks$History" "kept" "I", Cond.methodLink RX1 29 Lib.Math.min.name, Cond.static Lib.Math.min.name, Cond.initialized "java/lang/Math", Cond.code Lib.Math.min.name Lib.Math.min.code 2 (some .int), Cond.methodLink RX1 22 yX0_copyFrom]
def wsX4_drop_r2 : List Cond := [Cond.instanceMethod yX0_copyFrom, Cond.selects RX0 yX0_copyFrom yX0_copyFrom, Cond.initialized RX0, Cond.code yX0_copyFrom cX0_copyFrom 3 none, Cond.fieldLink RX0 9 "PrintRacks$Board" "settings" "[I", Cond.methodLink RX0 18 arraycopyName, Cond.native arraycopyName, Cond.static arraycopyName, Cond.initialized "java/lang/System", Cond.fieldLink RX0 26 "PrintRacks$Board" "fields" "[[I", Cond.fieldLink RX0 29 "PrintRacks$Board" "jobs" "I", Cond.methodLink RX4 99 yX0_remove, Cond.instanceMethod yX0_remove, Cond.selects RX0 yX0_remove yX0_remove, Cond.code yX0_remove cX0_remove 2 none, Cond.methodLink RX0 37 yX0_shift, Cond.instanceMethod yX0_shift, Cond.selects RX0 yX0_shift yX0_shift, Cond.code yX0_shift cX0_shift 9 none]
def wsX4_drop : List Cond := .code yX4_drop cX4_drop 2 (some .int) :: ((wsX4_drop_r1 ++ wsX4_drop_r2) ++ wsX40 ++ wsX00 ++ wsX10)
def wsX4_lateSumOf_r1 : List Cond := [Cond.fieldLink RX4 22 "PrintRacks" "press" "LPrintRacks$Press;", Cond.fieldLink RX4 59 "PrintRacks$Board" "settings" "[I", Cond.fieldLink RX4 163 "PrintRacks$Press" "lateSum" "I", Cond.methodLink RX4 115 yX3_print, Cond.instanceMethod yX3_print, Cond.selects RX3 yX3_print yX3_print, Cond.initialized RX3, Cond.code yX3_print cX3_print 4 none, Cond.fieldLink RX3 39 "PrintRacks$Board" "jobs" "I", Cond.fieldLink RX3 45 "PrintRacks$Press" "jobs" "I", Cond.methodLink RX3 36 yX3_clear, Cond.instanceMethod yX3_clear, Cond.selects RX3 yX3_clear yX3_clear, Cond.code yX3_clear cX3_clear 1 none, Cond.fieldLink RX3 57 "PrintRacks$Press" "lateJobs" "I", Cond.fieldLink RX3 60 "PrintRacks$Press" "lateSum" "I", Cond.fieldLink RX3 63 "PrintRacks$Press" "mostLate" "I", Cond.fieldLink RX3 66 "PrintRacks$Press" "washSum" "I", Cond.fieldLink RX3 69 "PrintRacks$Press" "platesPutOn" "I", Cond.fieldLink RX3 72 "PrintRacks$Press" "waitSum" "I", Cond.fieldLink RX3 75 "PrintRacks$Press" "mostTaken" "I", Cond.fieldLink RX3 78 "PrintRacks$Press" "taken" "I", Cond.fieldLink RX3 81 "PrintRacks$Press" "oldestDrying" "I", Cond.methodLink RX3 46 yX3_makeReady]
def wsX4_lateSumOf_r2 : List Cond := [Cond.instanceMethod yX3_makeReady, Cond.selects RX3 yX3_makeReady yX3_makeReady, Cond.code yX3_makeReady cX3_makeReady 4 none, Cond.fieldLink RX3 84 "PrintRacks$Board" "fields" "[[I", Cond.fieldLink RX3 15 "PrintRacks$Press" "wash" "[I", Cond.fieldLink RX3 18 "PrintRacks$Press" "ready" "[I", Cond.fieldLink RX3 92 "PrintRacks$Board" "settings" "[I", Cond.methodLink RX3 88 yX3_washAhead, Cond.static yX3_washAhead, Cond.code yX3_washAhead cX3_washAhead 3 (some .int), Cond.methodLink RX3 50 yX3_printJob, Cond.instanceMethod yX3_printJob, Cond.selects RX3 yX3_printJob yX3_printJob, Cond.code yX3_printJob cX3_printJob 7 none, Cond.fieldLink RX3 27 "PrintRacks$Press" "printed" "[I", Cond.fieldLink RX3 9 "PrintRacks$Press" "racks" "[I", Cond.fieldLink RX3 21 "PrintRacks$Press" "waits" "[I", Cond.fieldLink RX3 24 "PrintRacks$Press" "begins" "[I", Cond.static yX4_racksFor, Cond.initialized RX4, Cond.code yX4_racksFor cX4_racksFor 2 (some .int), Cond.methodLink RX3 99 yX3_whenRacksAreFree, Cond.instanceMethod yX3_whenRacksAreFree, Cond.selects RX3 yX3_whenRacksAreFree yX3_whenRacksAreFree]
def wsX4_lateSumOf_r3 : List Cond := [Cond.code yX3_whenRacksAreFree cX3_whenRacksAreFree 5 (some .int), Cond.fieldLink RX3 30 "PrintRacks$Press" "dry" "[I", Cond.methodLink RX3 103 Lib.Math.max.name, Cond.static Lib.Math.max.name, Cond.initialized "java/lang/Math", Cond.code Lib.Math.max.name Lib.Math.max.code 2 (some .int), Cond.methodLink RX3 54 yX3_dryJob, Cond.instanceMethod yX3_dryJob, Cond.selects RX3 yX3_dryJob yX3_dryJob, Cond.code yX3_dryJob cX3_dryJob 3 none, Cond.fieldLink RX3 33 "PrintRacks$Press" "late" "[I"]
def wsX4_lateSumOf : List Cond := .code yX4_lateSumOf cX4_lateSumOf 2 (some .int) :: ((wsX4_lateSumOf_r1 ++ (wsX4_lateSumOf_r2 ++ wsX4_lateSumOf_r3)) ++ wsX40 ++ wsX00 ++ wsX30)
def wsX4_move_r1 : List Cond := [Cond.fieldLink RX4 36 "PrintRacks" "history" "LPrintRacks$History;", Cond.fieldLink RX4 10 "PrintRacks" "board" "LPrintRacks$Board;", Cond.methodLink RX4 95 yX4_isJob, Cond.instanceMethod yX4_isJob, Cond.selects RX4 yX4_isJob yX4_isJob, Cond.initialized RX4, Cond.code yX4_isJob cX4_isJob 2 (some .boolean), Cond.fieldLink RX4 74 "PrintRacks$Board" "jobs" "I", Cond.methodLink RX4 48 yX4_within, Cond.static yX4_within, Cond.code yX4_within cX4_within 3 (some .boolean), Cond.methodLink RX4 66 yX1_remember, Cond.instanceMethod yX1_remember, Cond.selects RX1 yX1_remember yX1_remember, Cond.initialized RX1, Cond.code yX1_remember cX1_remember 2 none, Cond.fieldLink RX1 11 "PrintRacks$History" "states" "[LPrintRacks$Board;", Cond.fieldLink RX1 18 "PrintRacks$History" "next" "I", Cond.fieldLink RX1 26 "PrintRacks$History" "kept" "I", Cond.methodLink RX1 29 Lib.Math.min.name, Cond.static Lib.Math.min.name, Cond.initialized "java/lang/Math", Cond.code Lib.Math.min.name Lib.Math.min.code 2 (some .int), Cond.methodLink RX1 22 yX0_copyFrom]
def wsX4_move_r2 : List Cond := [Cond.instanceMethod yX0_copyFrom, Cond.selects RX0 yX0_copyFrom yX0_copyFrom, Cond.initialized RX0, Cond.code yX0_copyFrom cX0_copyFrom 3 none, Cond.fieldLink RX0 9 "PrintRacks$Board" "settings" "[I", Cond.methodLink RX0 18 arraycopyName, Cond.native arraycopyName, Cond.static arraycopyName, Cond.initialized "java/lang/System", Cond.fieldLink RX0 26 "PrintRacks$Board" "fields" "[[I", Cond.fieldLink RX0 29 "PrintRacks$Board" "jobs" "I", Cond.methodLink RX4 103 yX0_shift, Cond.instanceMethod yX0_shift, Cond.selects RX0 yX0_shift yX0_shift, Cond.code yX0_shift cX0_shift 9 none, Cond.methodLink RX4 107 yX4_lateSumOf, Cond.instanceMethod yX4_lateSumOf, Cond.selects RX4 yX4_lateSumOf yX4_lateSumOf, Cond.code yX4_lateSumOf cX4_lateSumOf 2 (some .int), Cond.fieldLink RX4 22 "PrintRacks" "press" "LPrintRacks$Press;", Cond.fieldLink RX4 59 "PrintRacks$Board" "settings" "[I", Cond.fieldLink RX4 163 "PrintRacks$Press" "lateSum" "I", Cond.methodLink RX4 115 yX3_print, Cond.instanceMethod yX3_print]
def wsX4_move_r3 : List Cond := [Cond.selects RX3 yX3_print yX3_print, Cond.initialized RX3, Cond.code yX3_print cX3_print 4 none, Cond.fieldLink RX3 39 "PrintRacks$Board" "jobs" "I", Cond.fieldLink RX3 45 "PrintRacks$Press" "jobs" "I", Cond.methodLink RX3 36 yX3_clear, Cond.instanceMethod yX3_clear, Cond.selects RX3 yX3_clear yX3_clear, Cond.code yX3_clear cX3_clear 1 none, Cond.fieldLink RX3 57 "PrintRacks$Press" "lateJobs" "I", Cond.fieldLink RX3 60 "PrintRacks$Press" "lateSum" "I", Cond.fieldLink RX3 63 "PrintRacks$Press" "mostLate" "I", Cond.fieldLink RX3 66 "PrintRacks$Press" "washSum" "I", Cond.fieldLink RX3 69 "PrintRacks$Press" "platesPutOn" "I", Cond.fieldLink RX3 72 "PrintRacks$Press" "waitSum" "I", Cond.fieldLink RX3 75 "PrintRacks$Press" "mostTaken" "I", Cond.fieldLink RX3 78 "PrintRacks$Press" "taken" "I", Cond.fieldLink RX3 81 "PrintRacks$Press" "oldestDrying" "I", Cond.methodLink RX3 46 yX3_makeReady, Cond.instanceMethod yX3_makeReady, Cond.selects RX3 yX3_makeReady yX3_makeReady, Cond.code yX3_makeReady cX3_makeReady 4 none, Cond.fieldLink RX3 84 "PrintRacks$Board" "fields" "[[I", Cond.fieldLink RX3 15 "PrintRacks$Press" "wash" "[I"]
def wsX4_move_r4 : List Cond := [Cond.fieldLink RX3 18 "PrintRacks$Press" "ready" "[I", Cond.fieldLink RX3 92 "PrintRacks$Board" "settings" "[I", Cond.methodLink RX3 88 yX3_washAhead, Cond.static yX3_washAhead, Cond.code yX3_washAhead cX3_washAhead 3 (some .int), Cond.methodLink RX3 50 yX3_printJob, Cond.instanceMethod yX3_printJob, Cond.selects RX3 yX3_printJob yX3_printJob, Cond.code yX3_printJob cX3_printJob 7 none, Cond.fieldLink RX3 27 "PrintRacks$Press" "printed" "[I", Cond.fieldLink RX3 9 "PrintRacks$Press" "racks" "[I", Cond.fieldLink RX3 21 "PrintRacks$Press" "waits" "[I", Cond.fieldLink RX3 24 "PrintRacks$Press" "begins" "[I", Cond.static yX4_racksFor, Cond.code yX4_racksFor cX4_racksFor 2 (some .int), Cond.methodLink RX3 99 yX3_whenRacksAreFree, Cond.instanceMethod yX3_whenRacksAreFree, Cond.selects RX3 yX3_whenRacksAreFree yX3_whenRacksAreFree, Cond.code yX3_whenRacksAreFree cX3_whenRacksAreFree 5 (some .int), Cond.fieldLink RX3 30 "PrintRacks$Press" "dry" "[I", Cond.methodLink RX3 103 Lib.Math.max.name, Cond.static Lib.Math.max.name, Cond.code Lib.Math.max.name Lib.Math.max.code 2 (some .int), Cond.methodLink RX3 54 yX3_dryJob]
def wsX4_move_r5 : List Cond := [Cond.instanceMethod yX3_dryJob, Cond.selects RX3 yX3_dryJob yX3_dryJob, Cond.code yX3_dryJob cX3_dryJob 3 none, Cond.fieldLink RX3 33 "PrintRacks$Press" "late" "[I"]
def wsX4_move : List Cond := .code yX4_move cX4_move 3 (some .int) :: ((wsX4_move_r1 ++ (wsX4_move_r2 ++ (wsX4_move_r3 ++ (wsX4_move_r4 ++ wsX4_move_r5)))) ++ wsX40 ++ wsX00 ++ wsX10 ++ wsX30)
def wsX4_due_r1 : List Cond := [Cond.fieldLink RX4 36 "PrintRacks" "history" "LPrintRacks$History;", Cond.fieldLink RX4 10 "PrintRacks" "board" "LPrintRacks$Board;", Cond.fieldLink RX4 111 "PrintRacks$Board" "fields" "[[I", Cond.fieldLink RX4 22 "PrintRacks" "press" "LPrintRacks$Press;", Cond.fieldLink RX4 59 "PrintRacks$Board" "settings" "[I", Cond.fieldLink RX4 119 "PrintRacks$Press" "late" "[I", Cond.methodLink RX4 95 yX4_isJob, Cond.instanceMethod yX4_isJob, Cond.selects RX4 yX4_isJob yX4_isJob, Cond.initialized RX4, Cond.code yX4_isJob cX4_isJob 2 (some .boolean), Cond.fieldLink RX4 74 "PrintRacks$Board" "jobs" "I", Cond.methodLink RX4 48 yX4_within, Cond.static yX4_within, Cond.code yX4_within cX4_within 3 (some .boolean), Cond.methodLink RX4 66 yX1_remember, Cond.instanceMethod yX1_remember, Cond.selects RX1 yX1_remember yX1_remember, Cond.initialized RX1, Cond.code yX1_remember cX1_remember 2 none, Cond.fieldLink RX1 11 "PrintRacks$History" "states" "[LPrintRacks$Board;", Cond.fieldLink RX1 18 "PrintRacks$History" "next" "I", Cond.fieldLink RX1 26 "PrintRacks$History" "kept" "I", Cond.methodLink RX1 29 Lib.Math.min.name]
def wsX4_due_r2 : List Cond := [Cond.static Lib.Math.min.name, Cond.initialized "java/lang/Math", Cond.code Lib.Math.min.name Lib.Math.min.code 2 (some .int), Cond.methodLink RX1 22 yX0_copyFrom, Cond.instanceMethod yX0_copyFrom, Cond.selects RX0 yX0_copyFrom yX0_copyFrom, Cond.initialized RX0, Cond.code yX0_copyFrom cX0_copyFrom 3 none, Cond.fieldLink RX0 9 "PrintRacks$Board" "settings" "[I", Cond.methodLink RX0 18 arraycopyName, Cond.native arraycopyName, Cond.static arraycopyName, Cond.initialized "java/lang/System", Cond.fieldLink RX0 26 "PrintRacks$Board" "fields" "[[I", Cond.fieldLink RX0 29 "PrintRacks$Board" "jobs" "I", Cond.methodLink RX4 115 yX3_print, Cond.instanceMethod yX3_print, Cond.selects RX3 yX3_print yX3_print, Cond.initialized RX3, Cond.code yX3_print cX3_print 4 none, Cond.fieldLink RX3 39 "PrintRacks$Board" "jobs" "I", Cond.fieldLink RX3 45 "PrintRacks$Press" "jobs" "I", Cond.methodLink RX3 36 yX3_clear, Cond.instanceMethod yX3_clear]
def wsX4_due_r3 : List Cond := [Cond.selects RX3 yX3_clear yX3_clear, Cond.code yX3_clear cX3_clear 1 none, Cond.fieldLink RX3 57 "PrintRacks$Press" "lateJobs" "I", Cond.fieldLink RX3 60 "PrintRacks$Press" "lateSum" "I", Cond.fieldLink RX3 63 "PrintRacks$Press" "mostLate" "I", Cond.fieldLink RX3 66 "PrintRacks$Press" "washSum" "I", Cond.fieldLink RX3 69 "PrintRacks$Press" "platesPutOn" "I", Cond.fieldLink RX3 72 "PrintRacks$Press" "waitSum" "I", Cond.fieldLink RX3 75 "PrintRacks$Press" "mostTaken" "I", Cond.fieldLink RX3 78 "PrintRacks$Press" "taken" "I", Cond.fieldLink RX3 81 "PrintRacks$Press" "oldestDrying" "I", Cond.methodLink RX3 46 yX3_makeReady, Cond.instanceMethod yX3_makeReady, Cond.selects RX3 yX3_makeReady yX3_makeReady, Cond.code yX3_makeReady cX3_makeReady 4 none, Cond.fieldLink RX3 84 "PrintRacks$Board" "fields" "[[I", Cond.fieldLink RX3 15 "PrintRacks$Press" "wash" "[I", Cond.fieldLink RX3 18 "PrintRacks$Press" "ready" "[I", Cond.fieldLink RX3 92 "PrintRacks$Board" "settings" "[I", Cond.methodLink RX3 88 yX3_washAhead, Cond.static yX3_washAhead, Cond.code yX3_washAhead cX3_washAhead 3 (some .int), Cond.methodLink RX3 50 yX3_printJob, Cond.instanceMethod yX3_printJob]
def wsX4_due_r4 : List Cond := [Cond.selects RX3 yX3_printJob yX3_printJob, Cond.code yX3_printJob cX3_printJob 7 none, Cond.fieldLink RX3 27 "PrintRacks$Press" "printed" "[I", Cond.fieldLink RX3 9 "PrintRacks$Press" "racks" "[I", Cond.fieldLink RX3 21 "PrintRacks$Press" "waits" "[I", Cond.fieldLink RX3 24 "PrintRacks$Press" "begins" "[I", Cond.static yX4_racksFor, Cond.code yX4_racksFor cX4_racksFor 2 (some .int), Cond.methodLink RX3 99 yX3_whenRacksAreFree, Cond.instanceMethod yX3_whenRacksAreFree, Cond.selects RX3 yX3_whenRacksAreFree yX3_whenRacksAreFree, Cond.code yX3_whenRacksAreFree cX3_whenRacksAreFree 5 (some .int), Cond.fieldLink RX3 30 "PrintRacks$Press" "dry" "[I", Cond.methodLink RX3 103 Lib.Math.max.name, Cond.static Lib.Math.max.name, Cond.code Lib.Math.max.name Lib.Math.max.code 2 (some .int), Cond.methodLink RX3 54 yX3_dryJob, Cond.instanceMethod yX3_dryJob, Cond.selects RX3 yX3_dryJob yX3_dryJob, Cond.code yX3_dryJob cX3_dryJob 3 none, Cond.fieldLink RX3 33 "PrintRacks$Press" "late" "[I"]
def wsX4_due : List Cond := .code yX4_due cX4_due 3 (some .int) :: ((wsX4_due_r1 ++ (wsX4_due_r2 ++ (wsX4_due_r3 ++ wsX4_due_r4))) ++ wsX40 ++ wsX00 ++ wsX30 ++ wsX10)
def wsX4_order_r1 : List Cond := [Cond.fieldLink RX4 36 "PrintRacks" "history" "LPrintRacks$History;", Cond.fieldLink RX4 10 "PrintRacks" "board" "LPrintRacks$Board;", Cond.fieldLink RX4 16 "PrintRacks" "trial" "LPrintRacks$Board;", Cond.fieldLink RX4 122 "PrintRacks" "FIELD_OF_RULE" "[I", Cond.methodLink RX4 48 yX4_within, Cond.static yX4_within, Cond.initialized RX4, Cond.code yX4_within cX4_within 3 (some .boolean), Cond.methodLink RX4 66 yX1_remember, Cond.instanceMethod yX1_remember, Cond.selects RX1 yX1_remember yX1_remember, Cond.initialized RX1, Cond.code yX1_remember cX1_remember 2 none, Cond.fieldLink RX1 11 "PrintRacks$History" "states" "[LPrintRacks$Board;", Cond.fieldLink RX1 18 "PrintRacks$History" "next" "I", Cond.fieldLink RX1 26 "PrintRacks$History" "kept" "I", Cond.methodLink RX1 29 Lib.Math.min.name, Cond.static Lib.Math.min.name, Cond.initialized "java/lang/Math", Cond.code Lib.Math.min.name Lib.Math.min.code 2 (some .int), Cond.methodLink RX1 22 yX0_copyFrom, Cond.instanceMethod yX0_copyFrom, Cond.selects RX0 yX0_copyFrom yX0_copyFrom, Cond.initialized RX0]
def wsX4_order_r2 : List Cond := [Cond.code yX0_copyFrom cX0_copyFrom 3 none, Cond.fieldLink RX0 9 "PrintRacks$Board" "settings" "[I", Cond.methodLink RX0 18 arraycopyName, Cond.native arraycopyName, Cond.static arraycopyName, Cond.initialized "java/lang/System", Cond.fieldLink RX0 26 "PrintRacks$Board" "fields" "[[I", Cond.fieldLink RX0 29 "PrintRacks$Board" "jobs" "I", Cond.methodLink RX4 125 yX0_arrange, Cond.instanceMethod yX0_arrange, Cond.selects RX0 yX0_arrange yX0_arrange, Cond.code yX0_arrange cX0_arrange 7 (some .int), Cond.methodLink RX0 41 yX0_copyFrom, Cond.methodLink RX0 45 yX0_placeBy, Cond.instanceMethod yX0_placeBy, Cond.selects RX0 yX0_placeBy yX0_placeBy, Cond.code yX0_placeBy cX0_placeBy 6 (some .int), Cond.methodLink RX4 129 yX0_copyFrom]
def wsX4_order : List Cond := .code yX4_order cX4_order 3 (some .int) :: ((wsX4_order_r1 ++ wsX4_order_r2) ++ wsX40 ++ wsX10 ++ wsX00)
def wsX4_jobOf_r1 : List Cond := [Cond.fieldLink RX4 10 "PrintRacks" "board" "LPrintRacks$Board;", Cond.fieldLink RX4 111 "PrintRacks$Board" "fields" "[[I", Cond.fieldLink RX4 22 "PrintRacks" "press" "LPrintRacks$Press;", Cond.fieldLink RX4 59 "PrintRacks$Board" "settings" "[I", Cond.fieldLink RX4 132 "PrintRacks$Press" "racks" "[I", Cond.fieldLink RX4 135 "PrintRacks$Press" "begins" "[I", Cond.fieldLink RX4 138 "PrintRacks$Press" "printed" "[I", Cond.fieldLink RX4 141 "PrintRacks$Press" "dry" "[I", Cond.fieldLink RX4 119 "PrintRacks$Press" "late" "[I", Cond.fieldLink RX4 144 "PrintRacks$Press" "waits" "[I", Cond.fieldLink RX4 147 "PrintRacks$Press" "ready" "[I", Cond.fieldLink RX4 150 "PrintRacks$Press" "wash" "[I", Cond.methodLink RX4 95 yX4_isJob, Cond.instanceMethod yX4_isJob, Cond.selects RX4 yX4_isJob yX4_isJob, Cond.initialized RX4, Cond.code yX4_isJob cX4_isJob 2 (some .boolean), Cond.fieldLink RX4 74 "PrintRacks$Board" "jobs" "I", Cond.methodLink RX4 48 yX4_within, Cond.static yX4_within, Cond.code yX4_within cX4_within 3 (some .boolean), Cond.methodLink RX4 115 yX3_print, Cond.instanceMethod yX3_print, Cond.selects RX3 yX3_print yX3_print]
def wsX4_jobOf_r2 : List Cond := [Cond.initialized RX3, Cond.code yX3_print cX3_print 4 none, Cond.fieldLink RX3 39 "PrintRacks$Board" "jobs" "I", Cond.fieldLink RX3 45 "PrintRacks$Press" "jobs" "I", Cond.methodLink RX3 36 yX3_clear, Cond.instanceMethod yX3_clear, Cond.selects RX3 yX3_clear yX3_clear, Cond.code yX3_clear cX3_clear 1 none, Cond.fieldLink RX3 57 "PrintRacks$Press" "lateJobs" "I", Cond.fieldLink RX3 60 "PrintRacks$Press" "lateSum" "I", Cond.fieldLink RX3 63 "PrintRacks$Press" "mostLate" "I", Cond.fieldLink RX3 66 "PrintRacks$Press" "washSum" "I", Cond.fieldLink RX3 69 "PrintRacks$Press" "platesPutOn" "I", Cond.fieldLink RX3 72 "PrintRacks$Press" "waitSum" "I", Cond.fieldLink RX3 75 "PrintRacks$Press" "mostTaken" "I", Cond.fieldLink RX3 78 "PrintRacks$Press" "taken" "I", Cond.fieldLink RX3 81 "PrintRacks$Press" "oldestDrying" "I", Cond.methodLink RX3 46 yX3_makeReady, Cond.instanceMethod yX3_makeReady, Cond.selects RX3 yX3_makeReady yX3_makeReady, Cond.code yX3_makeReady cX3_makeReady 4 none, Cond.fieldLink RX3 84 "PrintRacks$Board" "fields" "[[I", Cond.fieldLink RX3 15 "PrintRacks$Press" "wash" "[I", Cond.fieldLink RX3 18 "PrintRacks$Press" "ready" "[I"]
def wsX4_jobOf_r3 : List Cond := [Cond.fieldLink RX3 92 "PrintRacks$Board" "settings" "[I", Cond.methodLink RX3 88 yX3_washAhead, Cond.static yX3_washAhead, Cond.code yX3_washAhead cX3_washAhead 3 (some .int), Cond.methodLink RX3 50 yX3_printJob, Cond.instanceMethod yX3_printJob, Cond.selects RX3 yX3_printJob yX3_printJob, Cond.code yX3_printJob cX3_printJob 7 none, Cond.fieldLink RX3 27 "PrintRacks$Press" "printed" "[I", Cond.fieldLink RX3 9 "PrintRacks$Press" "racks" "[I", Cond.fieldLink RX3 21 "PrintRacks$Press" "waits" "[I", Cond.fieldLink RX3 24 "PrintRacks$Press" "begins" "[I", Cond.static yX4_racksFor, Cond.code yX4_racksFor cX4_racksFor 2 (some .int), Cond.methodLink RX3 99 yX3_whenRacksAreFree, Cond.instanceMethod yX3_whenRacksAreFree, Cond.selects RX3 yX3_whenRacksAreFree yX3_whenRacksAreFree, Cond.code yX3_whenRacksAreFree cX3_whenRacksAreFree 5 (some .int), Cond.fieldLink RX3 30 "PrintRacks$Press" "dry" "[I", Cond.methodLink RX3 103 Lib.Math.max.name, Cond.static Lib.Math.max.name, Cond.initialized "java/lang/Math", Cond.code Lib.Math.max.name Lib.Math.max.code 2 (some .int), Cond.methodLink RX3 54 yX3_dryJob]
def wsX4_jobOf_r4 : List Cond := [Cond.instanceMethod yX3_dryJob, Cond.selects RX3 yX3_dryJob yX3_dryJob, Cond.code yX3_dryJob cX3_dryJob 3 none, Cond.fieldLink RX3 33 "PrintRacks$Press" "late" "[I"]
def wsX4_jobOf : List Cond := .code yX4_jobOf cX4_jobOf 3 (some .int) :: ((wsX4_jobOf_r1 ++ (wsX4_jobOf_r2 ++ (wsX4_jobOf_r3 ++ wsX4_jobOf_r4))) ++ wsX40 ++ wsX00 ++ wsX30)
def wsX4_count_r1 : List Cond := [Cond.fieldLink RX4 10 "PrintRacks" "board" "LPrintRacks$Board;", Cond.fieldLink RX4 59 "PrintRacks$Board" "settings" "[I", Cond.fieldLink RX4 22 "PrintRacks" "press" "LPrintRacks$Press;", Cond.fieldLink RX4 74 "PrintRacks$Board" "jobs" "I", Cond.fieldLink RX4 138 "PrintRacks$Press" "printed" "[I", Cond.fieldLink RX4 141 "PrintRacks$Press" "dry" "[I", Cond.fieldLink RX4 160 "PrintRacks$Press" "lateJobs" "I", Cond.fieldLink RX4 163 "PrintRacks$Press" "lateSum" "I", Cond.fieldLink RX4 166 "PrintRacks$Press" "mostLate" "I", Cond.fieldLink RX4 169 "PrintRacks$Press" "washSum" "I", Cond.fieldLink RX4 172 "PrintRacks$Press" "platesPutOn" "I", Cond.fieldLink RX4 175 "PrintRacks$Press" "waitSum" "I", Cond.fieldLink RX4 178 "PrintRacks$Press" "mostTaken" "I", Cond.fieldLink RX4 29 "PrintRacks" "pad" "LPrintRacks$Pad;", Cond.fieldLink RX4 92 "PrintRacks$Pad" "length" "I", Cond.fieldLink RX4 36 "PrintRacks" "history" "LPrintRacks$History;", Cond.fieldLink RX4 181 "PrintRacks$History" "kept" "I", Cond.methodLink RX4 48 yX4_within, Cond.static yX4_within, Cond.initialized RX4, Cond.code yX4_within cX4_within 3 (some .boolean), Cond.methodLink RX4 115 yX3_print, Cond.instanceMethod yX3_print, Cond.selects RX3 yX3_print yX3_print]
def wsX4_count_r2 : List Cond := [Cond.initialized RX3, Cond.code yX3_print cX3_print 4 none, Cond.fieldLink RX3 39 "PrintRacks$Board" "jobs" "I", Cond.fieldLink RX3 45 "PrintRacks$Press" "jobs" "I", Cond.methodLink RX3 36 yX3_clear, Cond.instanceMethod yX3_clear, Cond.selects RX3 yX3_clear yX3_clear, Cond.code yX3_clear cX3_clear 1 none, Cond.fieldLink RX3 57 "PrintRacks$Press" "lateJobs" "I", Cond.fieldLink RX3 60 "PrintRacks$Press" "lateSum" "I", Cond.fieldLink RX3 63 "PrintRacks$Press" "mostLate" "I", Cond.fieldLink RX3 66 "PrintRacks$Press" "washSum" "I", Cond.fieldLink RX3 69 "PrintRacks$Press" "platesPutOn" "I", Cond.fieldLink RX3 72 "PrintRacks$Press" "waitSum" "I", Cond.fieldLink RX3 75 "PrintRacks$Press" "mostTaken" "I", Cond.fieldLink RX3 78 "PrintRacks$Press" "taken" "I", Cond.fieldLink RX3 81 "PrintRacks$Press" "oldestDrying" "I", Cond.methodLink RX3 46 yX3_makeReady, Cond.instanceMethod yX3_makeReady, Cond.selects RX3 yX3_makeReady yX3_makeReady, Cond.code yX3_makeReady cX3_makeReady 4 none, Cond.fieldLink RX3 84 "PrintRacks$Board" "fields" "[[I", Cond.fieldLink RX3 15 "PrintRacks$Press" "wash" "[I", Cond.fieldLink RX3 18 "PrintRacks$Press" "ready" "[I"]
def wsX4_count_r3 : List Cond := [Cond.fieldLink RX3 92 "PrintRacks$Board" "settings" "[I", Cond.methodLink RX3 88 yX3_washAhead, Cond.static yX3_washAhead, Cond.code yX3_washAhead cX3_washAhead 3 (some .int), Cond.methodLink RX3 50 yX3_printJob, Cond.instanceMethod yX3_printJob, Cond.selects RX3 yX3_printJob yX3_printJob, Cond.code yX3_printJob cX3_printJob 7 none, Cond.fieldLink RX3 27 "PrintRacks$Press" "printed" "[I", Cond.fieldLink RX3 9 "PrintRacks$Press" "racks" "[I", Cond.fieldLink RX3 21 "PrintRacks$Press" "waits" "[I", Cond.fieldLink RX3 24 "PrintRacks$Press" "begins" "[I", Cond.static yX4_racksFor, Cond.code yX4_racksFor cX4_racksFor 2 (some .int), Cond.methodLink RX3 99 yX3_whenRacksAreFree, Cond.instanceMethod yX3_whenRacksAreFree, Cond.selects RX3 yX3_whenRacksAreFree yX3_whenRacksAreFree, Cond.code yX3_whenRacksAreFree cX3_whenRacksAreFree 5 (some .int), Cond.fieldLink RX3 30 "PrintRacks$Press" "dry" "[I", Cond.methodLink RX3 103 Lib.Math.max.name, Cond.static Lib.Math.max.name, Cond.initialized "java/lang/Math", Cond.code Lib.Math.max.name Lib.Math.max.code 2 (some .int), Cond.methodLink RX3 54 yX3_dryJob]
def wsX4_count_r4 : List Cond := [Cond.instanceMethod yX3_dryJob, Cond.selects RX3 yX3_dryJob yX3_dryJob, Cond.code yX3_dryJob cX3_dryJob 3 none, Cond.fieldLink RX3 33 "PrintRacks$Press" "late" "[I", Cond.methodLink RX4 153 yX0_hundredsOfAll, Cond.instanceMethod yX0_hundredsOfAll, Cond.selects RX0 yX0_hundredsOfAll yX0_hundredsOfAll, Cond.initialized RX0, Cond.code yX0_hundredsOfAll cX0_hundredsOfAll 3 (some .int), Cond.fieldLink RX0 29 "PrintRacks$Board" "jobs" "I", Cond.fieldLink RX0 26 "PrintRacks$Board" "fields" "[[I", Cond.methodLink RX4 156 yX3_lastOf, Cond.instanceMethod yX3_lastOf, Cond.selects RX3 yX3_lastOf yX3_lastOf, Cond.code yX3_lastOf cX3_lastOf 2 (some .int)]
def wsX4_count : List Cond := .code yX4_count cX4_count 2 (some .int) :: ((wsX4_count_r1 ++ (wsX4_count_r2 ++ (wsX4_count_r3 ++ wsX4_count_r4))) ++ wsX40 ++ wsX00 ++ wsX30 ++ wsX20 ++ wsX10)
def wsX4_at_r1 : List Cond := [Cond.constant RX4 184 (99999), Cond.fieldLink RX4 22 "PrintRacks" "press" "LPrintRacks$Press;", Cond.fieldLink RX4 10 "PrintRacks" "board" "LPrintRacks$Board;", Cond.fieldLink RX4 59 "PrintRacks$Board" "settings" "[I", Cond.fieldLink RX4 138 "PrintRacks$Press" "printed" "[I", Cond.fieldLink RX4 141 "PrintRacks$Press" "dry" "[I", Cond.methodLink RX4 48 yX4_within, Cond.static yX4_within, Cond.initialized RX4, Cond.code yX4_within cX4_within 3 (some .boolean), Cond.methodLink RX4 115 yX3_print, Cond.instanceMethod yX3_print, Cond.selects RX3 yX3_print yX3_print, Cond.initialized RX3, Cond.code yX3_print cX3_print 4 none, Cond.fieldLink RX3 39 "PrintRacks$Board" "jobs" "I", Cond.fieldLink RX3 45 "PrintRacks$Press" "jobs" "I", Cond.methodLink RX3 36 yX3_clear, Cond.instanceMethod yX3_clear, Cond.selects RX3 yX3_clear yX3_clear, Cond.code yX3_clear cX3_clear 1 none, Cond.fieldLink RX3 57 "PrintRacks$Press" "lateJobs" "I", Cond.fieldLink RX3 60 "PrintRacks$Press" "lateSum" "I", Cond.fieldLink RX3 63 "PrintRacks$Press" "mostLate" "I"]
def wsX4_at_r2 : List Cond := [Cond.fieldLink RX3 66 "PrintRacks$Press" "washSum" "I", Cond.fieldLink RX3 69 "PrintRacks$Press" "platesPutOn" "I", Cond.fieldLink RX3 72 "PrintRacks$Press" "waitSum" "I", Cond.fieldLink RX3 75 "PrintRacks$Press" "mostTaken" "I", Cond.fieldLink RX3 78 "PrintRacks$Press" "taken" "I", Cond.fieldLink RX3 81 "PrintRacks$Press" "oldestDrying" "I", Cond.methodLink RX3 46 yX3_makeReady, Cond.instanceMethod yX3_makeReady, Cond.selects RX3 yX3_makeReady yX3_makeReady, Cond.code yX3_makeReady cX3_makeReady 4 none, Cond.fieldLink RX3 84 "PrintRacks$Board" "fields" "[[I", Cond.fieldLink RX3 15 "PrintRacks$Press" "wash" "[I", Cond.fieldLink RX3 18 "PrintRacks$Press" "ready" "[I", Cond.fieldLink RX3 92 "PrintRacks$Board" "settings" "[I", Cond.methodLink RX3 88 yX3_washAhead, Cond.static yX3_washAhead, Cond.code yX3_washAhead cX3_washAhead 3 (some .int), Cond.methodLink RX3 50 yX3_printJob, Cond.instanceMethod yX3_printJob, Cond.selects RX3 yX3_printJob yX3_printJob, Cond.code yX3_printJob cX3_printJob 7 none, Cond.fieldLink RX3 27 "PrintRacks$Press" "printed" "[I", Cond.fieldLink RX3 9 "PrintRacks$Press" "racks" "[I", Cond.fieldLink RX3 21 "PrintRacks$Press" "waits" "[I"]
def wsX4_at_r3 : List Cond := [Cond.fieldLink RX3 24 "PrintRacks$Press" "begins" "[I", Cond.static yX4_racksFor, Cond.code yX4_racksFor cX4_racksFor 2 (some .int), Cond.methodLink RX3 99 yX3_whenRacksAreFree, Cond.instanceMethod yX3_whenRacksAreFree, Cond.selects RX3 yX3_whenRacksAreFree yX3_whenRacksAreFree, Cond.code yX3_whenRacksAreFree cX3_whenRacksAreFree 5 (some .int), Cond.fieldLink RX3 30 "PrintRacks$Press" "dry" "[I", Cond.methodLink RX3 103 Lib.Math.max.name, Cond.static Lib.Math.max.name, Cond.initialized "java/lang/Math", Cond.code Lib.Math.max.name Lib.Math.max.code 2 (some .int), Cond.methodLink RX3 54 yX3_dryJob, Cond.instanceMethod yX3_dryJob, Cond.selects RX3 yX3_dryJob yX3_dryJob, Cond.code yX3_dryJob cX3_dryJob 3 none, Cond.fieldLink RX3 33 "PrintRacks$Press" "late" "[I", Cond.methodLink RX4 185 yX3_jobOnPress, Cond.instanceMethod yX3_jobOnPress, Cond.selects RX3 yX3_jobOnPress yX3_jobOnPress, Cond.code yX3_jobOnPress cX3_jobOnPress 3 (some .int), Cond.methodLink RX4 188 yX3_racksTaken, Cond.instanceMethod yX3_racksTaken, Cond.selects RX3 yX3_racksTaken yX3_racksTaken]
def wsX4_at_r4 : List Cond := [Cond.code yX3_racksTaken cX3_racksTaken 4 (some .int), Cond.methodLink RX4 191 yX3_reached, Cond.instanceMethod yX3_reached, Cond.selects RX3 yX3_reached yX3_reached, Cond.code yX3_reached cX3_reached 5 (some .int)]
def wsX4_at : List Cond := .code yX4_at cX4_at 3 (some .int) :: ((wsX4_at_r1 ++ (wsX4_at_r2 ++ (wsX4_at_r3 ++ wsX4_at_r4))) ++ wsX40 ++ wsX00 ++ wsX30)
def wsX4_ifOrdered_r1 : List Cond := [Cond.fieldLink RX4 16 "PrintRacks" "trial" "LPrintRacks$Board;", Cond.fieldLink RX4 10 "PrintRacks" "board" "LPrintRacks$Board;", Cond.fieldLink RX4 122 "PrintRacks" "FIELD_OF_RULE" "[I", Cond.fieldLink RX4 22 "PrintRacks" "press" "LPrintRacks$Press;", Cond.fieldLink RX4 59 "PrintRacks$Board" "settings" "[I", Cond.fieldLink RX4 141 "PrintRacks$Press" "dry" "[I", Cond.fieldLink RX4 163 "PrintRacks$Press" "lateSum" "I", Cond.fieldLink RX4 169 "PrintRacks$Press" "washSum" "I", Cond.fieldLink RX4 172 "PrintRacks$Press" "platesPutOn" "I", Cond.methodLink RX4 48 yX4_within, Cond.static yX4_within, Cond.initialized RX4, Cond.code yX4_within cX4_within 3 (some .boolean), Cond.methodLink RX4 125 yX0_arrange, Cond.instanceMethod yX0_arrange, Cond.selects RX0 yX0_arrange yX0_arrange, Cond.initialized RX0, Cond.code yX0_arrange cX0_arrange 7 (some .int), Cond.fieldLink RX0 29 "PrintRacks$Board" "jobs" "I", Cond.fieldLink RX0 26 "PrintRacks$Board" "fields" "[[I", Cond.methodLink RX0 41 yX0_copyFrom, Cond.instanceMethod yX0_copyFrom, Cond.selects RX0 yX0_copyFrom yX0_copyFrom, Cond.code yX0_copyFrom cX0_copyFrom 3 none]
def wsX4_ifOrdered_r2 : List Cond := [Cond.fieldLink RX0 9 "PrintRacks$Board" "settings" "[I", Cond.methodLink RX0 18 arraycopyName, Cond.native arraycopyName, Cond.static arraycopyName, Cond.initialized "java/lang/System", Cond.methodLink RX0 45 yX0_placeBy, Cond.instanceMethod yX0_placeBy, Cond.selects RX0 yX0_placeBy yX0_placeBy, Cond.code yX0_placeBy cX0_placeBy 6 (some .int), Cond.methodLink RX4 115 yX3_print, Cond.instanceMethod yX3_print, Cond.selects RX3 yX3_print yX3_print, Cond.initialized RX3, Cond.code yX3_print cX3_print 4 none, Cond.fieldLink RX3 39 "PrintRacks$Board" "jobs" "I", Cond.fieldLink RX3 45 "PrintRacks$Press" "jobs" "I", Cond.methodLink RX3 36 yX3_clear, Cond.instanceMethod yX3_clear, Cond.selects RX3 yX3_clear yX3_clear, Cond.code yX3_clear cX3_clear 1 none, Cond.fieldLink RX3 57 "PrintRacks$Press" "lateJobs" "I", Cond.fieldLink RX3 60 "PrintRacks$Press" "lateSum" "I", Cond.fieldLink RX3 63 "PrintRacks$Press" "mostLate" "I", Cond.fieldLink RX3 66 "PrintRacks$Press" "washSum" "I"]
def wsX4_ifOrdered_r3 : List Cond := [Cond.fieldLink RX3 69 "PrintRacks$Press" "platesPutOn" "I", Cond.fieldLink RX3 72 "PrintRacks$Press" "waitSum" "I", Cond.fieldLink RX3 75 "PrintRacks$Press" "mostTaken" "I", Cond.fieldLink RX3 78 "PrintRacks$Press" "taken" "I", Cond.fieldLink RX3 81 "PrintRacks$Press" "oldestDrying" "I", Cond.methodLink RX3 46 yX3_makeReady, Cond.instanceMethod yX3_makeReady, Cond.selects RX3 yX3_makeReady yX3_makeReady, Cond.code yX3_makeReady cX3_makeReady 4 none, Cond.fieldLink RX3 84 "PrintRacks$Board" "fields" "[[I", Cond.fieldLink RX3 15 "PrintRacks$Press" "wash" "[I", Cond.fieldLink RX3 18 "PrintRacks$Press" "ready" "[I", Cond.fieldLink RX3 92 "PrintRacks$Board" "settings" "[I", Cond.methodLink RX3 88 yX3_washAhead, Cond.static yX3_washAhead, Cond.code yX3_washAhead cX3_washAhead 3 (some .int), Cond.methodLink RX3 50 yX3_printJob, Cond.instanceMethod yX3_printJob, Cond.selects RX3 yX3_printJob yX3_printJob, Cond.code yX3_printJob cX3_printJob 7 none, Cond.fieldLink RX3 27 "PrintRacks$Press" "printed" "[I", Cond.fieldLink RX3 9 "PrintRacks$Press" "racks" "[I", Cond.fieldLink RX3 21 "PrintRacks$Press" "waits" "[I", Cond.fieldLink RX3 24 "PrintRacks$Press" "begins" "[I"]
def wsX4_ifOrdered_r4 : List Cond := [Cond.static yX4_racksFor, Cond.code yX4_racksFor cX4_racksFor 2 (some .int), Cond.methodLink RX3 99 yX3_whenRacksAreFree, Cond.instanceMethod yX3_whenRacksAreFree, Cond.selects RX3 yX3_whenRacksAreFree yX3_whenRacksAreFree, Cond.code yX3_whenRacksAreFree cX3_whenRacksAreFree 5 (some .int), Cond.fieldLink RX3 30 "PrintRacks$Press" "dry" "[I", Cond.methodLink RX3 103 Lib.Math.max.name, Cond.static Lib.Math.max.name, Cond.initialized "java/lang/Math", Cond.code Lib.Math.max.name Lib.Math.max.code 2 (some .int), Cond.methodLink RX3 54 yX3_dryJob, Cond.instanceMethod yX3_dryJob, Cond.selects RX3 yX3_dryJob yX3_dryJob, Cond.code yX3_dryJob cX3_dryJob 3 none, Cond.fieldLink RX3 33 "PrintRacks$Press" "late" "[I", Cond.methodLink RX4 156 yX3_lastOf, Cond.instanceMethod yX3_lastOf, Cond.selects RX3 yX3_lastOf yX3_lastOf, Cond.code yX3_lastOf cX3_lastOf 2 (some .int)]
def wsX4_ifOrdered : List Cond := .code yX4_ifOrdered cX4_ifOrdered 3 (some .int) :: ((wsX4_ifOrdered_r1 ++ (wsX4_ifOrdered_r2 ++ (wsX4_ifOrdered_r3 ++ wsX4_ifOrdered_r4))) ++ wsX40 ++ wsX00 ++ wsX30)
def wsX4_lateSumIfExchanged_r1 : List Cond := [Cond.fieldLink RX4 16 "PrintRacks" "trial" "LPrintRacks$Board;", Cond.methodLink RX4 215 yX0_exchange, Cond.instanceMethod yX0_exchange, Cond.selects RX0 yX0_exchange yX0_exchange, Cond.initialized RX0, Cond.code yX0_exchange cX0_exchange 8 none, Cond.fieldLink RX0 26 "PrintRacks$Board" "fields" "[[I", Cond.methodLink RX4 107 yX4_lateSumOf, Cond.instanceMethod yX4_lateSumOf, Cond.selects RX4 yX4_lateSumOf yX4_lateSumOf, Cond.initialized RX4, Cond.code yX4_lateSumOf cX4_lateSumOf 2 (some .int), Cond.fieldLink RX4 22 "PrintRacks" "press" "LPrintRacks$Press;", Cond.fieldLink RX4 59 "PrintRacks$Board" "settings" "[I", Cond.fieldLink RX4 163 "PrintRacks$Press" "lateSum" "I", Cond.methodLink RX4 115 yX3_print, Cond.instanceMethod yX3_print, Cond.selects RX3 yX3_print yX3_print, Cond.initialized RX3, Cond.code yX3_print cX3_print 4 none, Cond.fieldLink RX3 39 "PrintRacks$Board" "jobs" "I", Cond.fieldLink RX3 45 "PrintRacks$Press" "jobs" "I", Cond.methodLink RX3 36 yX3_clear, Cond.instanceMethod yX3_clear]
def wsX4_lateSumIfExchanged_r2 : List Cond := [Cond.selects RX3 yX3_clear yX3_clear, Cond.code yX3_clear cX3_clear 1 none, Cond.fieldLink RX3 57 "PrintRacks$Press" "lateJobs" "I", Cond.fieldLink RX3 60 "PrintRacks$Press" "lateSum" "I", Cond.fieldLink RX3 63 "PrintRacks$Press" "mostLate" "I", Cond.fieldLink RX3 66 "PrintRacks$Press" "washSum" "I", Cond.fieldLink RX3 69 "PrintRacks$Press" "platesPutOn" "I", Cond.fieldLink RX3 72 "PrintRacks$Press" "waitSum" "I", Cond.fieldLink RX3 75 "PrintRacks$Press" "mostTaken" "I", Cond.fieldLink RX3 78 "PrintRacks$Press" "taken" "I", Cond.fieldLink RX3 81 "PrintRacks$Press" "oldestDrying" "I", Cond.methodLink RX3 46 yX3_makeReady, Cond.instanceMethod yX3_makeReady, Cond.selects RX3 yX3_makeReady yX3_makeReady, Cond.code yX3_makeReady cX3_makeReady 4 none, Cond.fieldLink RX3 84 "PrintRacks$Board" "fields" "[[I", Cond.fieldLink RX3 15 "PrintRacks$Press" "wash" "[I", Cond.fieldLink RX3 18 "PrintRacks$Press" "ready" "[I", Cond.fieldLink RX3 92 "PrintRacks$Board" "settings" "[I", Cond.methodLink RX3 88 yX3_washAhead, Cond.static yX3_washAhead, Cond.code yX3_washAhead cX3_washAhead 3 (some .int), Cond.methodLink RX3 50 yX3_printJob, Cond.instanceMethod yX3_printJob]
def wsX4_lateSumIfExchanged_r3 : List Cond := [Cond.selects RX3 yX3_printJob yX3_printJob, Cond.code yX3_printJob cX3_printJob 7 none, Cond.fieldLink RX3 27 "PrintRacks$Press" "printed" "[I", Cond.fieldLink RX3 9 "PrintRacks$Press" "racks" "[I", Cond.fieldLink RX3 21 "PrintRacks$Press" "waits" "[I", Cond.fieldLink RX3 24 "PrintRacks$Press" "begins" "[I", Cond.static yX4_racksFor, Cond.code yX4_racksFor cX4_racksFor 2 (some .int), Cond.methodLink RX3 99 yX3_whenRacksAreFree, Cond.instanceMethod yX3_whenRacksAreFree, Cond.selects RX3 yX3_whenRacksAreFree yX3_whenRacksAreFree, Cond.code yX3_whenRacksAreFree cX3_whenRacksAreFree 5 (some .int), Cond.fieldLink RX3 30 "PrintRacks$Press" "dry" "[I", Cond.methodLink RX3 103 Lib.Math.max.name, Cond.static Lib.Math.max.name, Cond.initialized "java/lang/Math", Cond.code Lib.Math.max.name Lib.Math.max.code 2 (some .int), Cond.methodLink RX3 54 yX3_dryJob, Cond.instanceMethod yX3_dryJob, Cond.selects RX3 yX3_dryJob yX3_dryJob, Cond.code yX3_dryJob cX3_dryJob 3 none, Cond.fieldLink RX3 33 "PrintRacks$Press" "late" "[I"]
def wsX4_lateSumIfExchanged : List Cond := .code yX4_lateSumIfExchanged cX4_lateSumIfExchanged 4 (some .int) :: ((wsX4_lateSumIfExchanged_r1 ++ (wsX4_lateSumIfExchanged_r2 ++ wsX4_lateSumIfExchanged_r3)) ++ wsX40 ++ wsX00 ++ wsX30)
def wsX4_bestExchange_r1 : List Cond := [Cond.fieldLink RX4 16 "PrintRacks" "trial" "LPrintRacks$Board;", Cond.fieldLink RX4 10 "PrintRacks" "board" "LPrintRacks$Board;", Cond.fieldLink RX4 74 "PrintRacks$Board" "jobs" "I", Cond.methodLink RX4 48 yX4_within, Cond.static yX4_within, Cond.initialized RX4, Cond.code yX4_within cX4_within 3 (some .boolean), Cond.methodLink RX4 129 yX0_copyFrom, Cond.instanceMethod yX0_copyFrom, Cond.selects RX0 yX0_copyFrom yX0_copyFrom, Cond.initialized RX0, Cond.code yX0_copyFrom cX0_copyFrom 3 none, Cond.fieldLink RX0 9 "PrintRacks$Board" "settings" "[I", Cond.methodLink RX0 18 arraycopyName, Cond.native arraycopyName, Cond.static arraycopyName, Cond.initialized "java/lang/System", Cond.fieldLink RX0 26 "PrintRacks$Board" "fields" "[[I", Cond.fieldLink RX0 29 "PrintRacks$Board" "jobs" "I", Cond.methodLink RX4 107 yX4_lateSumOf, Cond.instanceMethod yX4_lateSumOf, Cond.selects RX4 yX4_lateSumOf yX4_lateSumOf, Cond.code yX4_lateSumOf cX4_lateSumOf 2 (some .int), Cond.fieldLink RX4 22 "PrintRacks" "press" "LPrintRacks$Press;"]
def wsX4_bestExchange_r2 : List Cond := [Cond.fieldLink RX4 59 "PrintRacks$Board" "settings" "[I", Cond.fieldLink RX4 163 "PrintRacks$Press" "lateSum" "I", Cond.methodLink RX4 115 yX3_print, Cond.instanceMethod yX3_print, Cond.selects RX3 yX3_print yX3_print, Cond.initialized RX3, Cond.code yX3_print cX3_print 4 none, Cond.fieldLink RX3 39 "PrintRacks$Board" "jobs" "I", Cond.fieldLink RX3 45 "PrintRacks$Press" "jobs" "I", Cond.methodLink RX3 36 yX3_clear, Cond.instanceMethod yX3_clear, Cond.selects RX3 yX3_clear yX3_clear, Cond.code yX3_clear cX3_clear 1 none, Cond.fieldLink RX3 57 "PrintRacks$Press" "lateJobs" "I", Cond.fieldLink RX3 60 "PrintRacks$Press" "lateSum" "I", Cond.fieldLink RX3 63 "PrintRacks$Press" "mostLate" "I", Cond.fieldLink RX3 66 "PrintRacks$Press" "washSum" "I", Cond.fieldLink RX3 69 "PrintRacks$Press" "platesPutOn" "I", Cond.fieldLink RX3 72 "PrintRacks$Press" "waitSum" "I", Cond.fieldLink RX3 75 "PrintRacks$Press" "mostTaken" "I", Cond.fieldLink RX3 78 "PrintRacks$Press" "taken" "I", Cond.fieldLink RX3 81 "PrintRacks$Press" "oldestDrying" "I", Cond.methodLink RX3 46 yX3_makeReady, Cond.instanceMethod yX3_makeReady]
def wsX4_bestExchange_r3 : List Cond := [Cond.selects RX3 yX3_makeReady yX3_makeReady, Cond.code yX3_makeReady cX3_makeReady 4 none, Cond.fieldLink RX3 84 "PrintRacks$Board" "fields" "[[I", Cond.fieldLink RX3 15 "PrintRacks$Press" "wash" "[I", Cond.fieldLink RX3 18 "PrintRacks$Press" "ready" "[I", Cond.fieldLink RX3 92 "PrintRacks$Board" "settings" "[I", Cond.methodLink RX3 88 yX3_washAhead, Cond.static yX3_washAhead, Cond.code yX3_washAhead cX3_washAhead 3 (some .int), Cond.methodLink RX3 50 yX3_printJob, Cond.instanceMethod yX3_printJob, Cond.selects RX3 yX3_printJob yX3_printJob, Cond.code yX3_printJob cX3_printJob 7 none, Cond.fieldLink RX3 27 "PrintRacks$Press" "printed" "[I", Cond.fieldLink RX3 9 "PrintRacks$Press" "racks" "[I", Cond.fieldLink RX3 21 "PrintRacks$Press" "waits" "[I", Cond.fieldLink RX3 24 "PrintRacks$Press" "begins" "[I", Cond.static yX4_racksFor, Cond.code yX4_racksFor cX4_racksFor 2 (some .int), Cond.methodLink RX3 99 yX3_whenRacksAreFree, Cond.instanceMethod yX3_whenRacksAreFree, Cond.selects RX3 yX3_whenRacksAreFree yX3_whenRacksAreFree, Cond.code yX3_whenRacksAreFree cX3_whenRacksAreFree 5 (some .int), Cond.fieldLink RX3 30 "PrintRacks$Press" "dry" "[I"]
def wsX4_bestExchange_r4 : List Cond := [Cond.methodLink RX3 103 Lib.Math.max.name, Cond.static Lib.Math.max.name, Cond.initialized "java/lang/Math", Cond.code Lib.Math.max.name Lib.Math.max.code 2 (some .int), Cond.methodLink RX3 54 yX3_dryJob, Cond.instanceMethod yX3_dryJob, Cond.selects RX3 yX3_dryJob yX3_dryJob, Cond.code yX3_dryJob cX3_dryJob 3 none, Cond.fieldLink RX3 33 "PrintRacks$Press" "late" "[I", Cond.methodLink RX4 195 yX4_lateSumIfExchanged, Cond.instanceMethod yX4_lateSumIfExchanged, Cond.selects RX4 yX4_lateSumIfExchanged yX4_lateSumIfExchanged, Cond.code yX4_lateSumIfExchanged cX4_lateSumIfExchanged 4 (some .int), Cond.methodLink RX4 215 yX0_exchange, Cond.instanceMethod yX0_exchange, Cond.selects RX0 yX0_exchange yX0_exchange, Cond.code yX0_exchange cX0_exchange 8 none]
def wsX4_bestExchange : List Cond := .code yX4_bestExchange cX4_bestExchange 8 (some .int) :: ((wsX4_bestExchange_r1 ++ (wsX4_bestExchange_r2 ++ (wsX4_bestExchange_r3 ++ wsX4_bestExchange_r4))) ++ wsX40 ++ wsX00 ++ wsX30)
def wsX4_lateSumIfFirst_r1 : List Cond := [Cond.fieldLink RX4 16 "PrintRacks" "trial" "LPrintRacks$Board;", Cond.methodLink RX4 103 yX0_shift, Cond.instanceMethod yX0_shift, Cond.selects RX0 yX0_shift yX0_shift, Cond.initialized RX0, Cond.code yX0_shift cX0_shift 9 none, Cond.fieldLink RX0 26 "PrintRacks$Board" "fields" "[[I", Cond.methodLink RX4 107 yX4_lateSumOf, Cond.instanceMethod yX4_lateSumOf, Cond.selects RX4 yX4_lateSumOf yX4_lateSumOf, Cond.initialized RX4, Cond.code yX4_lateSumOf cX4_lateSumOf 2 (some .int), Cond.fieldLink RX4 22 "PrintRacks" "press" "LPrintRacks$Press;", Cond.fieldLink RX4 59 "PrintRacks$Board" "settings" "[I", Cond.fieldLink RX4 163 "PrintRacks$Press" "lateSum" "I", Cond.methodLink RX4 115 yX3_print, Cond.instanceMethod yX3_print, Cond.selects RX3 yX3_print yX3_print, Cond.initialized RX3, Cond.code yX3_print cX3_print 4 none, Cond.fieldLink RX3 39 "PrintRacks$Board" "jobs" "I", Cond.fieldLink RX3 45 "PrintRacks$Press" "jobs" "I", Cond.methodLink RX3 36 yX3_clear, Cond.instanceMethod yX3_clear]
def wsX4_lateSumIfFirst_r2 : List Cond := [Cond.selects RX3 yX3_clear yX3_clear, Cond.code yX3_clear cX3_clear 1 none, Cond.fieldLink RX3 57 "PrintRacks$Press" "lateJobs" "I", Cond.fieldLink RX3 60 "PrintRacks$Press" "lateSum" "I", Cond.fieldLink RX3 63 "PrintRacks$Press" "mostLate" "I", Cond.fieldLink RX3 66 "PrintRacks$Press" "washSum" "I", Cond.fieldLink RX3 69 "PrintRacks$Press" "platesPutOn" "I", Cond.fieldLink RX3 72 "PrintRacks$Press" "waitSum" "I", Cond.fieldLink RX3 75 "PrintRacks$Press" "mostTaken" "I", Cond.fieldLink RX3 78 "PrintRacks$Press" "taken" "I", Cond.fieldLink RX3 81 "PrintRacks$Press" "oldestDrying" "I", Cond.methodLink RX3 46 yX3_makeReady, Cond.instanceMethod yX3_makeReady, Cond.selects RX3 yX3_makeReady yX3_makeReady, Cond.code yX3_makeReady cX3_makeReady 4 none, Cond.fieldLink RX3 84 "PrintRacks$Board" "fields" "[[I", Cond.fieldLink RX3 15 "PrintRacks$Press" "wash" "[I", Cond.fieldLink RX3 18 "PrintRacks$Press" "ready" "[I", Cond.fieldLink RX3 92 "PrintRacks$Board" "settings" "[I", Cond.methodLink RX3 88 yX3_washAhead, Cond.static yX3_washAhead, Cond.code yX3_washAhead cX3_washAhead 3 (some .int), Cond.methodLink RX3 50 yX3_printJob, Cond.instanceMethod yX3_printJob]
def wsX4_lateSumIfFirst_r3 : List Cond := [Cond.selects RX3 yX3_printJob yX3_printJob, Cond.code yX3_printJob cX3_printJob 7 none, Cond.fieldLink RX3 27 "PrintRacks$Press" "printed" "[I", Cond.fieldLink RX3 9 "PrintRacks$Press" "racks" "[I", Cond.fieldLink RX3 21 "PrintRacks$Press" "waits" "[I", Cond.fieldLink RX3 24 "PrintRacks$Press" "begins" "[I", Cond.static yX4_racksFor, Cond.code yX4_racksFor cX4_racksFor 2 (some .int), Cond.methodLink RX3 99 yX3_whenRacksAreFree, Cond.instanceMethod yX3_whenRacksAreFree, Cond.selects RX3 yX3_whenRacksAreFree yX3_whenRacksAreFree, Cond.code yX3_whenRacksAreFree cX3_whenRacksAreFree 5 (some .int), Cond.fieldLink RX3 30 "PrintRacks$Press" "dry" "[I", Cond.methodLink RX3 103 Lib.Math.max.name, Cond.static Lib.Math.max.name, Cond.initialized "java/lang/Math", Cond.code Lib.Math.max.name Lib.Math.max.code 2 (some .int), Cond.methodLink RX3 54 yX3_dryJob, Cond.instanceMethod yX3_dryJob, Cond.selects RX3 yX3_dryJob yX3_dryJob, Cond.code yX3_dryJob cX3_dryJob 3 none, Cond.fieldLink RX3 33 "PrintRacks$Press" "late" "[I"]
def wsX4_lateSumIfFirst : List Cond := .code yX4_lateSumIfFirst cX4_lateSumIfFirst 3 (some .int) :: ((wsX4_lateSumIfFirst_r1 ++ (wsX4_lateSumIfFirst_r2 ++ wsX4_lateSumIfFirst_r3)) ++ wsX40 ++ wsX00 ++ wsX30)
def wsX4_bestFirst_r1 : List Cond := [Cond.fieldLink RX4 16 "PrintRacks" "trial" "LPrintRacks$Board;", Cond.fieldLink RX4 10 "PrintRacks" "board" "LPrintRacks$Board;", Cond.fieldLink RX4 74 "PrintRacks$Board" "jobs" "I", Cond.methodLink RX4 129 yX0_copyFrom, Cond.instanceMethod yX0_copyFrom, Cond.selects RX0 yX0_copyFrom yX0_copyFrom, Cond.initialized RX0, Cond.code yX0_copyFrom cX0_copyFrom 3 none, Cond.fieldLink RX0 9 "PrintRacks$Board" "settings" "[I", Cond.methodLink RX0 18 arraycopyName, Cond.native arraycopyName, Cond.static arraycopyName, Cond.initialized "java/lang/System", Cond.fieldLink RX0 26 "PrintRacks$Board" "fields" "[[I", Cond.fieldLink RX0 29 "PrintRacks$Board" "jobs" "I", Cond.methodLink RX4 198 yX4_lateSumIfFirst, Cond.instanceMethod yX4_lateSumIfFirst, Cond.selects RX4 yX4_lateSumIfFirst yX4_lateSumIfFirst, Cond.initialized RX4, Cond.code yX4_lateSumIfFirst cX4_lateSumIfFirst 3 (some .int), Cond.methodLink RX4 103 yX0_shift, Cond.instanceMethod yX0_shift, Cond.selects RX0 yX0_shift yX0_shift, Cond.code yX0_shift cX0_shift 9 none]
def wsX4_bestFirst_r2 : List Cond := [Cond.methodLink RX4 107 yX4_lateSumOf, Cond.instanceMethod yX4_lateSumOf, Cond.selects RX4 yX4_lateSumOf yX4_lateSumOf, Cond.code yX4_lateSumOf cX4_lateSumOf 2 (some .int), Cond.fieldLink RX4 22 "PrintRacks" "press" "LPrintRacks$Press;", Cond.fieldLink RX4 59 "PrintRacks$Board" "settings" "[I", Cond.fieldLink RX4 163 "PrintRacks$Press" "lateSum" "I", Cond.methodLink RX4 115 yX3_print, Cond.instanceMethod yX3_print, Cond.selects RX3 yX3_print yX3_print, Cond.initialized RX3, Cond.code yX3_print cX3_print 4 none, Cond.fieldLink RX3 39 "PrintRacks$Board" "jobs" "I", Cond.fieldLink RX3 45 "PrintRacks$Press" "jobs" "I", Cond.methodLink RX3 36 yX3_clear, Cond.instanceMethod yX3_clear, Cond.selects RX3 yX3_clear yX3_clear, Cond.code yX3_clear cX3_clear 1 none, Cond.fieldLink RX3 57 "PrintRacks$Press" "lateJobs" "I", Cond.fieldLink RX3 60 "PrintRacks$Press" "lateSum" "I", Cond.fieldLink RX3 63 "PrintRacks$Press" "mostLate" "I", Cond.fieldLink RX3 66 "PrintRacks$Press" "washSum" "I", Cond.fieldLink RX3 69 "PrintRacks$Press" "platesPutOn" "I", Cond.fieldLink RX3 72 "PrintRacks$Press" "waitSum" "I"]
def wsX4_bestFirst_r3 : List Cond := [Cond.fieldLink RX3 75 "PrintRacks$Press" "mostTaken" "I", Cond.fieldLink RX3 78 "PrintRacks$Press" "taken" "I", Cond.fieldLink RX3 81 "PrintRacks$Press" "oldestDrying" "I", Cond.methodLink RX3 46 yX3_makeReady, Cond.instanceMethod yX3_makeReady, Cond.selects RX3 yX3_makeReady yX3_makeReady, Cond.code yX3_makeReady cX3_makeReady 4 none, Cond.fieldLink RX3 84 "PrintRacks$Board" "fields" "[[I", Cond.fieldLink RX3 15 "PrintRacks$Press" "wash" "[I", Cond.fieldLink RX3 18 "PrintRacks$Press" "ready" "[I", Cond.fieldLink RX3 92 "PrintRacks$Board" "settings" "[I", Cond.methodLink RX3 88 yX3_washAhead, Cond.static yX3_washAhead, Cond.code yX3_washAhead cX3_washAhead 3 (some .int), Cond.methodLink RX3 50 yX3_printJob, Cond.instanceMethod yX3_printJob, Cond.selects RX3 yX3_printJob yX3_printJob, Cond.code yX3_printJob cX3_printJob 7 none, Cond.fieldLink RX3 27 "PrintRacks$Press" "printed" "[I", Cond.fieldLink RX3 9 "PrintRacks$Press" "racks" "[I", Cond.fieldLink RX3 21 "PrintRacks$Press" "waits" "[I", Cond.fieldLink RX3 24 "PrintRacks$Press" "begins" "[I", Cond.static yX4_racksFor, Cond.code yX4_racksFor cX4_racksFor 2 (some .int)]
def wsX4_bestFirst_r4 : List Cond := [Cond.methodLink RX3 99 yX3_whenRacksAreFree, Cond.instanceMethod yX3_whenRacksAreFree, Cond.selects RX3 yX3_whenRacksAreFree yX3_whenRacksAreFree, Cond.code yX3_whenRacksAreFree cX3_whenRacksAreFree 5 (some .int), Cond.fieldLink RX3 30 "PrintRacks$Press" "dry" "[I", Cond.methodLink RX3 103 Lib.Math.max.name, Cond.static Lib.Math.max.name, Cond.initialized "java/lang/Math", Cond.code Lib.Math.max.name Lib.Math.max.code 2 (some .int), Cond.methodLink RX3 54 yX3_dryJob, Cond.instanceMethod yX3_dryJob, Cond.selects RX3 yX3_dryJob yX3_dryJob, Cond.code yX3_dryJob cX3_dryJob 3 none, Cond.fieldLink RX3 33 "PrintRacks$Press" "late" "[I"]
def wsX4_bestFirst : List Cond := .code yX4_bestFirst cX4_bestFirst 5 (some .int) :: ((wsX4_bestFirst_r1 ++ (wsX4_bestFirst_r2 ++ (wsX4_bestFirst_r3 ++ wsX4_bestFirst_r4))) ++ wsX40 ++ wsX00 ++ wsX30)
def wsX4_leastRacks_r1 : List Cond := [Cond.fieldLink RX4 10 "PrintRacks" "board" "LPrintRacks$Board;", Cond.fieldLink RX4 59 "PrintRacks$Board" "settings" "[I", Cond.fieldLink RX4 52 "PrintRacks" "LEAST_SETTING" "[I", Cond.methodLink RX4 201 Lib.Math.max.name, Cond.static Lib.Math.max.name, Cond.initialized "java/lang/Math", Cond.code Lib.Math.max.name Lib.Math.max.code 2 (some .int), Cond.fieldLink RX4 56 "PrintRacks" "MOST_SETTING" "[I", Cond.fieldLink RX4 22 "PrintRacks" "press" "LPrintRacks$Press;", Cond.fieldLink RX4 175 "PrintRacks$Press" "waitSum" "I", Cond.methodLink RX4 62 yX0_mostRacksNeeded, Cond.instanceMethod yX0_mostRacksNeeded, Cond.selects RX0 yX0_mostRacksNeeded yX0_mostRacksNeeded, Cond.initialized RX0, Cond.code yX0_mostRacksNeeded cX0_mostRacksNeeded 4 (some .int), Cond.fieldLink RX0 29 "PrintRacks$Board" "jobs" "I", Cond.fieldLink RX0 26 "PrintRacks$Board" "fields" "[[I", Cond.methodLink RX0 52 Lib.Math.max.name, Cond.static yX4_racksFor, Cond.initialized RX4, Cond.code yX4_racksFor cX4_racksFor 2 (some .int), Cond.methodLink RX4 115 yX3_print, Cond.instanceMethod yX3_print, Cond.selects RX3 yX3_print yX3_print]
def wsX4_leastRacks_r2 : List Cond := [Cond.initialized RX3, Cond.code yX3_print cX3_print 4 none, Cond.fieldLink RX3 39 "PrintRacks$Board" "jobs" "I", Cond.fieldLink RX3 45 "PrintRacks$Press" "jobs" "I", Cond.methodLink RX3 36 yX3_clear, Cond.instanceMethod yX3_clear, Cond.selects RX3 yX3_clear yX3_clear, Cond.code yX3_clear cX3_clear 1 none, Cond.fieldLink RX3 57 "PrintRacks$Press" "lateJobs" "I", Cond.fieldLink RX3 60 "PrintRacks$Press" "lateSum" "I", Cond.fieldLink RX3 63 "PrintRacks$Press" "mostLate" "I", Cond.fieldLink RX3 66 "PrintRacks$Press" "washSum" "I", Cond.fieldLink RX3 69 "PrintRacks$Press" "platesPutOn" "I", Cond.fieldLink RX3 72 "PrintRacks$Press" "waitSum" "I", Cond.fieldLink RX3 75 "PrintRacks$Press" "mostTaken" "I", Cond.fieldLink RX3 78 "PrintRacks$Press" "taken" "I", Cond.fieldLink RX3 81 "PrintRacks$Press" "oldestDrying" "I", Cond.methodLink RX3 46 yX3_makeReady, Cond.instanceMethod yX3_makeReady, Cond.selects RX3 yX3_makeReady yX3_makeReady, Cond.code yX3_makeReady cX3_makeReady 4 none, Cond.fieldLink RX3 84 "PrintRacks$Board" "fields" "[[I", Cond.fieldLink RX3 15 "PrintRacks$Press" "wash" "[I", Cond.fieldLink RX3 18 "PrintRacks$Press" "ready" "[I"]
def wsX4_leastRacks_r3 : List Cond := [Cond.fieldLink RX3 92 "PrintRacks$Board" "settings" "[I", Cond.methodLink RX3 88 yX3_washAhead, Cond.static yX3_washAhead, Cond.code yX3_washAhead cX3_washAhead 3 (some .int), Cond.methodLink RX3 50 yX3_printJob, Cond.instanceMethod yX3_printJob, Cond.selects RX3 yX3_printJob yX3_printJob, Cond.code yX3_printJob cX3_printJob 7 none, Cond.fieldLink RX3 27 "PrintRacks$Press" "printed" "[I", Cond.fieldLink RX3 9 "PrintRacks$Press" "racks" "[I", Cond.fieldLink RX3 21 "PrintRacks$Press" "waits" "[I", Cond.fieldLink RX3 24 "PrintRacks$Press" "begins" "[I", Cond.methodLink RX3 99 yX3_whenRacksAreFree, Cond.instanceMethod yX3_whenRacksAreFree, Cond.selects RX3 yX3_whenRacksAreFree yX3_whenRacksAreFree, Cond.code yX3_whenRacksAreFree cX3_whenRacksAreFree 5 (some .int), Cond.fieldLink RX3 30 "PrintRacks$Press" "dry" "[I", Cond.methodLink RX3 103 Lib.Math.max.name, Cond.methodLink RX3 54 yX3_dryJob, Cond.instanceMethod yX3_dryJob, Cond.selects RX3 yX3_dryJob yX3_dryJob, Cond.code yX3_dryJob cX3_dryJob 3 none, Cond.fieldLink RX3 33 "PrintRacks$Press" "late" "[I"]
def wsX4_leastRacks : List Cond := .code yX4_leastRacks cX4_leastRacks 4 (some .int) :: ((wsX4_leastRacks_r1 ++ (wsX4_leastRacks_r2 ++ wsX4_leastRacks_r3)) ++ wsX40 ++ wsX00 ++ wsX30)
def wsX4_charactersIn : List Cond := .code yX4_charactersIn cX4_charactersIn 5 (some .int) :: ([.constantLong RX4 218 (255), .methodLink RX4 48 yX4_within, .static yX4_within, .initialized RX4, .code yX4_within cX4_within 3 (some .boolean)])
def wsX4_put : List Cond := .code yX4_put cX4_put 5 (some .int) :: ([.fieldLink RX4 29 "PrintRacks" "pad" "LPrintRacks$Pad;", .fieldLink RX4 92 "PrintRacks$Pad" "length" "I", .methodLink RX4 206 yX4_charactersIn, .static yX4_charactersIn, .initialized RX4, .code yX4_charactersIn cX4_charactersIn 5 (some .int), .constantLong RX4 218 (255), .methodLink RX4 48 yX4_within, .static yX4_within, .code yX4_within cX4_within 3 (some .boolean), .methodLink RX4 210 yX2_append, .instanceMethod yX2_append, .selects RX2 yX2_append yX2_append, .initialized RX2, .code yX2_append cX2_append 2 none, .fieldLink RX2 22 "PrintRacks$Pad" "length" "I", .fieldLink RX2 18 "PrintRacks$Pad" "codes" "[I"] ++ wsX40 ++ wsX20)
def wsX4_wipe : List Cond := .code yX4_wipe cX4_wipe 2 (some .int) :: ([.fieldLink RX4 29 "PrintRacks" "pad" "LPrintRacks$Pad;", .fieldLink RX4 92 "PrintRacks$Pad" "length" "I"] ++ wsX40 ++ wsX20)
def wsX4_fault_r1 : List Cond := [Cond.fieldLink RX4 29 "PrintRacks" "pad" "LPrintRacks$Pad;", Cond.methodLink RX4 82 yX2_parse, Cond.instanceMethod yX2_parse, Cond.selects RX2 yX2_parse yX2_parse, Cond.initialized RX2, Cond.code yX2_parse cX2_parse 2 (some .int), Cond.fieldLink RX2 12 "PrintRacks$Pad" "found" "LPrintRacks$Board;", Cond.fieldLink RX2 26 "PrintRacks$Board" "jobs" "I", Cond.fieldLink RX2 29 "PrintRacks$Pad" "expected" "I", Cond.fieldLink RX2 22 "PrintRacks$Pad" "length" "I", Cond.fieldLink RX2 18 "PrintRacks$Pad" "codes" "[I", Cond.methodLink RX2 32 yX2_takes, Cond.instanceMethod yX2_takes, Cond.selects RX2 yX2_takes yX2_takes, Cond.code yX2_takes cX2_takes 3 (some .boolean), Cond.fieldLink RX2 47 "PrintRacks$Pad" "plate" "I", Cond.fieldLink RX2 50 "PrintRacks$Pad" "shade" "I", Cond.fieldLink RX2 53 "PrintRacks$Pad" "hundreds" "I", Cond.fieldLink RX2 56 "PrintRacks$Pad" "dueTime" "I", Cond.static yX4_within, Cond.initialized RX4, Cond.code yX4_within cX4_within 3 (some .boolean), Cond.methodLink RX2 43 yX2_takesLetter, Cond.instanceMethod yX2_takesLetter]
def wsX4_fault_r2 : List Cond := [Cond.selects RX2 yX2_takesLetter yX2_takesLetter, Cond.code yX2_takesLetter cX2_takesLetter 3 (some .boolean), Cond.methodLink RX2 59 yX2_takesBehindHundreds, Cond.instanceMethod yX2_takesBehindHundreds, Cond.selects RX2 yX2_takesBehindHundreds yX2_takesBehindHundreds, Cond.code yX2_takesBehindHundreds cX2_takesBehindHundreds 3 (some .boolean), Cond.methodLink RX2 66 yX2_takesEndOfJob, Cond.instanceMethod yX2_takesEndOfJob, Cond.selects RX2 yX2_takesEndOfJob yX2_takesEndOfJob, Cond.code yX2_takesEndOfJob cX2_takesEndOfJob 2 (some .boolean), Cond.methodLink RX2 36 yX2_endJob, Cond.instanceMethod yX2_endJob, Cond.selects RX2 yX2_endJob yX2_endJob, Cond.code yX2_endJob cX2_endJob 1 none, Cond.methodLink RX2 69 yX0_append, Cond.instanceMethod yX0_append, Cond.selects RX0 yX0_append yX0_append, Cond.initialized RX0, Cond.code yX0_append cX0_append 5 none, Cond.fieldLink RX0 29 "PrintRacks$Board" "jobs" "I", Cond.fieldLink RX0 26 "PrintRacks$Board" "fields" "[[I", Cond.methodLink RX2 63 yX2_takesBehindDue, Cond.instanceMethod yX2_takesBehindDue, Cond.selects RX2 yX2_takesBehindDue yX2_takesBehindDue]
def wsX4_fault_r3 : List Cond := [Cond.code yX2_takesBehindDue cX2_takesBehindDue 4 (some .boolean)]
def wsX4_fault : List Cond := .code yX4_fault cX4_fault 1 (some .int) :: ((wsX4_fault_r1 ++ (wsX4_fault_r2 ++ wsX4_fault_r3)) ++ wsX40 ++ wsX20 ++ wsX00)
def wsX4_undo : List Cond := .code yX4_undo cX4_undo 1 (some .int) :: ([.fieldLink RX4 36 "PrintRacks" "history" "LPrintRacks$History;", .fieldLink RX4 181 "PrintRacks$History" "kept" "I", .fieldLink RX4 10 "PrintRacks" "board" "LPrintRacks$Board;", .methodLink RX4 212 yX1_takeBack, .instanceMethod yX1_takeBack, .selects RX1 yX1_takeBack yX1_takeBack, .initialized RX1, .code yX1_takeBack cX1_takeBack 2 none, .fieldLink RX1 18 "PrintRacks$History" "next" "I", .fieldLink RX1 26 "PrintRacks$History" "kept" "I", .fieldLink RX1 11 "PrintRacks$History" "states" "[LPrintRacks$Board;", .methodLink RX1 22 yX0_copyFrom, .instanceMethod yX0_copyFrom, .selects RX0 yX0_copyFrom yX0_copyFrom, .initialized RX0, .code yX0_copyFrom cX0_copyFrom 3 none, .fieldLink RX0 9 "PrintRacks$Board" "settings" "[I", .methodLink RX0 18 arraycopyName, .native arraycopyName, .static arraycopyName, .initialized "java/lang/System", .fieldLink RX0 26 "PrintRacks$Board" "fields" "[[I", .fieldLink RX0 29 "PrintRacks$Board" "jobs" "I"] ++ wsX40 ++ wsX10 ++ wsX00)
def wsX4_save : List Cond := .code yX4_save cX4_save 2 (some .int) :: ([.fieldLink RX4 40 "PrintRacks" "slots" "[LPrintRacks$Board;", .fieldLink RX4 10 "PrintRacks" "board" "LPrintRacks$Board;", .fieldLink RX4 44 "PrintRacks" "saved" "[Z", .fieldLink RX4 74 "PrintRacks$Board" "jobs" "I", .methodLink RX4 48 yX4_within, .static yX4_within, .initialized RX4, .code yX4_within cX4_within 3 (some .boolean), .methodLink RX4 129 yX0_copyFrom, .instanceMethod yX0_copyFrom, .selects RX0 yX0_copyFrom yX0_copyFrom, .initialized RX0, .code yX0_copyFrom cX0_copyFrom 3 none, .fieldLink RX0 9 "PrintRacks$Board" "settings" "[I", .methodLink RX0 18 arraycopyName, .native arraycopyName, .static arraycopyName, .initialized "java/lang/System", .fieldLink RX0 26 "PrintRacks$Board" "fields" "[[I", .fieldLink RX0 29 "PrintRacks$Board" "jobs" "I"] ++ wsX40 ++ wsX00)
def wsX4_restore_r1 : List Cond := [Cond.fieldLink RX4 44 "PrintRacks" "saved" "[Z", Cond.fieldLink RX4 36 "PrintRacks" "history" "LPrintRacks$History;", Cond.fieldLink RX4 10 "PrintRacks" "board" "LPrintRacks$Board;", Cond.fieldLink RX4 40 "PrintRacks" "slots" "[LPrintRacks$Board;", Cond.fieldLink RX4 74 "PrintRacks$Board" "jobs" "I", Cond.methodLink RX4 48 yX4_within, Cond.static yX4_within, Cond.initialized RX4, Cond.code yX4_within cX4_within 3 (some .boolean), Cond.methodLink RX4 66 yX1_remember, Cond.instanceMethod yX1_remember, Cond.selects RX1 yX1_remember yX1_remember, Cond.initialized RX1, Cond.code yX1_remember cX1_remember 2 none, Cond.fieldLink RX1 11 "PrintRacks$History" "states" "[LPrintRacks$Board;", Cond.fieldLink RX1 18 "PrintRacks$History" "next" "I", Cond.fieldLink RX1 26 "PrintRacks$History" "kept" "I", Cond.methodLink RX1 29 Lib.Math.min.name, Cond.static Lib.Math.min.name, Cond.initialized "java/lang/Math", Cond.code Lib.Math.min.name Lib.Math.min.code 2 (some .int), Cond.methodLink RX1 22 yX0_copyFrom, Cond.instanceMethod yX0_copyFrom, Cond.selects RX0 yX0_copyFrom yX0_copyFrom]
def wsX4_restore_r2 : List Cond := [Cond.initialized RX0, Cond.code yX0_copyFrom cX0_copyFrom 3 none, Cond.fieldLink RX0 9 "PrintRacks$Board" "settings" "[I", Cond.methodLink RX0 18 arraycopyName, Cond.native arraycopyName, Cond.static arraycopyName, Cond.initialized "java/lang/System", Cond.fieldLink RX0 26 "PrintRacks$Board" "fields" "[[I", Cond.fieldLink RX0 29 "PrintRacks$Board" "jobs" "I", Cond.methodLink RX4 129 yX0_copyFrom]
def wsX4_restore : List Cond := .code yX4_restore cX4_restore 2 (some .int) :: ((wsX4_restore_r1 ++ wsX4_restore_r2) ++ wsX40 ++ wsX00 ++ wsX10)
def wsX5_init : List Cond := .code yX5_init cX5_init 1 none :: ([.methodLink RX5 1 objectInit, .instanceMethod objectInit, .code objectInit ⟨#[0xb1]⟩ 1 none, .arrayClass .int, .fieldLink RX5 7 "PrintRacksModel" "all" "[I", .fieldLink RX5 13 "PrintRacksModel" "kept" "[I", .fieldLink RX5 16 "PrintRacksModel" "history" "[I", .fieldLink RX5 19 "PrintRacksModel" "slots" "[I", .fieldLink RX5 22 "PrintRacksModel" "isSaved" "[I", .fieldLink RX5 25 "PrintRacksModel" "begins" "[I", .fieldLink RX5 28 "PrintRacksModel" "printed" "[I", .fieldLink RX5 31 "PrintRacksModel" "from" "[I", .fieldLink RX5 34 "PrintRacksModel" "text" "[I", .fieldLink RX5 37 "PrintRacksModel" "told" "[I"] ++ wsX50)
def wsX5_in : List Cond := .code yX5_in cX5_in 6 (some .boolean) :: ([])
def wsX5_changes : List Cond := .code yX5_changes cX5_changes 2 none :: ([.fieldLink RX5 40 "PrintRacksModel" "historyLong" "I", .fieldLink RX5 16 "PrintRacksModel" "history" "[I", .fieldLink RX5 7 "PrintRacksModel" "all" "[I"] ++ wsX50)
def wsX5_keeps : List Cond := .code yX5_keeps cX5_keeps 2 none :: ([.fieldLink RX5 13 "PrintRacksModel" "kept" "[I", .fieldLink RX5 7 "PrintRacksModel" "all" "[I"] ++ wsX50)
def wsX5_comesBack : List Cond := .code yX5_comesBack cX5_comesBack 2 none :: ([.fieldLink RX5 7 "PrintRacksModel" "all" "[I", .fieldLink RX5 13 "PrintRacksModel" "kept" "[I"] ++ wsX50)
def wsX5_isJob : List Cond := .code yX5_isJob cX5_isJob 2 (some .boolean) :: ([.fieldLink RX5 7 "PrintRacksModel" "all" "[I", .methodLink RX5 44 yX5_in, .static yX5_in, .initialized RX5, .code yX5_in cX5_in 6 (some .boolean)] ++ wsX50)
def wsX5_its : List Cond := .code yX5_its cX5_its 3 (some .int) :: ([.fieldLink RX5 7 "PrintRacksModel" "all" "[I"] ++ wsX50)
def wsX5_racksFor : List Cond := .code yX5_racksFor cX5_racksFor 2 (some .int) :: ([.fieldLink RX5 7 "PrintRacksModel" "all" "[I"] ++ wsX50)
def wsX5_racksOf : List Cond := .code yX5_racksOf cX5_racksOf 2 (some .int) :: ([.methodLink RX5 48 yX5_its, .instanceMethod yX5_its, .selects RX5 yX5_its yX5_its, .initialized RX5, .code yX5_its cX5_its 3 (some .int), .fieldLink RX5 7 "PrintRacksModel" "all" "[I", .methodLink RX5 52 yX5_racksFor, .instanceMethod yX5_racksFor, .selects RX5 yX5_racksFor yX5_racksFor, .code yX5_racksFor cX5_racksFor 2 (some .int)] ++ wsX50)
def wsX5_exchanges : List Cond := .code yX5_exchanges cX5_exchanges 5 none :: ([.fieldLink RX5 7 "PrintRacksModel" "all" "[I", .methodLink RX5 48 yX5_its, .instanceMethod yX5_its, .selects RX5 yX5_its yX5_its, .initialized RX5, .code yX5_its cX5_its 3 (some .int)] ++ wsX50)
def wsX5_moves : List Cond := .code yX5_moves cX5_moves 5 none :: ([.methodLink RX5 56 yX5_exchanges, .instanceMethod yX5_exchanges, .selects RX5 yX5_exchanges yX5_exchanges, .initialized RX5, .code yX5_exchanges cX5_exchanges 5 none, .fieldLink RX5 7 "PrintRacksModel" "all" "[I", .methodLink RX5 48 yX5_its, .instanceMethod yX5_its, .selects RX5 yX5_its yX5_its, .code yX5_its cX5_its 3 (some .int)] ++ wsX50)
def wsX5_washFor : List Cond := .code yX5_washFor cX5_washFor 3 (some .int) :: ([.fieldLink RX5 7 "PrintRacksModel" "all" "[I", .methodLink RX5 48 yX5_its, .instanceMethod yX5_its, .selects RX5 yX5_its yX5_its, .initialized RX5, .code yX5_its cX5_its 3 (some .int)] ++ wsX50)
def wsX5_plateFor : List Cond := .code yX5_plateFor cX5_plateFor 2 (some .int) :: ([.fieldLink RX5 7 "PrintRacksModel" "all" "[I", .methodLink RX5 48 yX5_its, .instanceMethod yX5_its, .selects RX5 yX5_its yX5_its, .initialized RX5, .code yX5_its cX5_its 3 (some .int)] ++ wsX50)
def wsX5_readyFor : List Cond := .code yX5_readyFor cX5_readyFor 2 (some .int) :: ([.methodLink RX5 60 yX5_plateFor, .instanceMethod yX5_plateFor, .selects RX5 yX5_plateFor yX5_plateFor, .initialized RX5, .code yX5_plateFor cX5_plateFor 2 (some .int), .fieldLink RX5 7 "PrintRacksModel" "all" "[I", .methodLink RX5 48 yX5_its, .instanceMethod yX5_its, .selects RX5 yX5_its yX5_its, .code yX5_its cX5_its 3 (some .int), .methodLink RX5 63 yX5_washFor, .instanceMethod yX5_washFor, .selects RX5 yX5_washFor yX5_washFor, .code yX5_washFor cX5_washFor 3 (some .int)] ++ wsX50)
def wsX5_dry : List Cond := .code yX5_dry cX5_dry 2 (some .int) :: ([.fieldLink RX5 28 "PrintRacksModel" "printed" "[I", .fieldLink RX5 7 "PrintRacksModel" "all" "[I"] ++ wsX50)
def wsX5_taken : List Cond := .code yX5_taken cX5_taken 5 (some .int) :: ([.fieldLink RX5 28 "PrintRacksModel" "printed" "[I", .methodLink RX5 66 yX5_dry, .instanceMethod yX5_dry, .selects RX5 yX5_dry yX5_dry, .initialized RX5, .code yX5_dry cX5_dry 2 (some .int), .fieldLink RX5 7 "PrintRacksModel" "all" "[I", .methodLink RX5 69 yX5_racksOf, .instanceMethod yX5_racksOf, .selects RX5 yX5_racksOf yX5_racksOf, .code yX5_racksOf cX5_racksOf 2 (some .int), .methodLink RX5 48 yX5_its, .instanceMethod yX5_its, .selects RX5 yX5_its yX5_its, .code yX5_its cX5_its 3 (some .int), .methodLink RX5 52 yX5_racksFor, .instanceMethod yX5_racksFor, .selects RX5 yX5_racksFor yX5_racksFor, .code yX5_racksFor cX5_racksFor 2 (some .int)] ++ wsX50)
def wsX5_prints_r1 : List Cond := [Cond.fieldLink RX5 7 "PrintRacksModel" "all" "[I", Cond.fieldLink RX5 25 "PrintRacksModel" "begins" "[I", Cond.fieldLink RX5 28 "PrintRacksModel" "printed" "[I", Cond.methodLink RX5 72 yX5_readyFor, Cond.instanceMethod yX5_readyFor, Cond.selects RX5 yX5_readyFor yX5_readyFor, Cond.initialized RX5, Cond.code yX5_readyFor cX5_readyFor 2 (some .int), Cond.methodLink RX5 60 yX5_plateFor, Cond.instanceMethod yX5_plateFor, Cond.selects RX5 yX5_plateFor yX5_plateFor, Cond.code yX5_plateFor cX5_plateFor 2 (some .int), Cond.methodLink RX5 48 yX5_its, Cond.instanceMethod yX5_its, Cond.selects RX5 yX5_its yX5_its, Cond.code yX5_its cX5_its 3 (some .int), Cond.methodLink RX5 63 yX5_washFor, Cond.instanceMethod yX5_washFor, Cond.selects RX5 yX5_washFor yX5_washFor, Cond.code yX5_washFor cX5_washFor 3 (some .int), Cond.methodLink RX5 75 yX5_taken, Cond.instanceMethod yX5_taken, Cond.selects RX5 yX5_taken yX5_taken, Cond.code yX5_taken cX5_taken 5 (some .int)]
def wsX5_prints_r2 : List Cond := [Cond.methodLink RX5 66 yX5_dry, Cond.instanceMethod yX5_dry, Cond.selects RX5 yX5_dry yX5_dry, Cond.code yX5_dry cX5_dry 2 (some .int), Cond.methodLink RX5 69 yX5_racksOf, Cond.instanceMethod yX5_racksOf, Cond.selects RX5 yX5_racksOf yX5_racksOf, Cond.code yX5_racksOf cX5_racksOf 2 (some .int), Cond.methodLink RX5 52 yX5_racksFor, Cond.instanceMethod yX5_racksFor, Cond.selects RX5 yX5_racksFor yX5_racksFor, Cond.code yX5_racksFor cX5_racksFor 2 (some .int)]
def wsX5_prints : List Cond := .code yX5_prints cX5_prints 5 none :: ((wsX5_prints_r1 ++ wsX5_prints_r2) ++ wsX50)
def wsX5_late : List Cond := .code yX5_late cX5_late 3 (some .int) :: ([.methodLink RX5 66 yX5_dry, .instanceMethod yX5_dry, .selects RX5 yX5_dry yX5_dry, .initialized RX5, .code yX5_dry cX5_dry 2 (some .int), .fieldLink RX5 28 "PrintRacksModel" "printed" "[I", .fieldLink RX5 7 "PrintRacksModel" "all" "[I", .methodLink RX5 48 yX5_its, .instanceMethod yX5_its, .selects RX5 yX5_its yX5_its, .code yX5_its cX5_its 3 (some .int)] ++ wsX50)
def wsX5_waits : List Cond := .code yX5_waits cX5_waits 2 (some .int) :: ([.fieldLink RX5 25 "PrintRacksModel" "begins" "[I", .fieldLink RX5 28 "PrintRacksModel" "printed" "[I"] ++ wsX50)
def wsX5_isOther : List Cond := .code yX5_isOther cX5_isOther 2 (some .int) :: ([.methodLink RX5 48 yX5_its, .instanceMethod yX5_its, .selects RX5 yX5_its yX5_its, .initialized RX5, .code yX5_its cX5_its 3 (some .int), .fieldLink RX5 7 "PrintRacksModel" "all" "[I"] ++ wsX50)
def wsX5_sumOf_r1 : List Cond := [Cond.fieldLink RX5 7 "PrintRacksModel" "all" "[I", Cond.methodLink RX5 48 yX5_its, Cond.instanceMethod yX5_its, Cond.selects RX5 yX5_its yX5_its, Cond.initialized RX5, Cond.code yX5_its cX5_its 3 (some .int), Cond.methodLink RX5 78 yX5_late, Cond.instanceMethod yX5_late, Cond.selects RX5 yX5_late yX5_late, Cond.code yX5_late cX5_late 3 (some .int), Cond.methodLink RX5 66 yX5_dry, Cond.instanceMethod yX5_dry, Cond.selects RX5 yX5_dry yX5_dry, Cond.code yX5_dry cX5_dry 2 (some .int), Cond.fieldLink RX5 28 "PrintRacksModel" "printed" "[I", Cond.methodLink RX5 63 yX5_washFor, Cond.instanceMethod yX5_washFor, Cond.selects RX5 yX5_washFor yX5_washFor, Cond.code yX5_washFor cX5_washFor 3 (some .int), Cond.methodLink RX5 81 yX5_isOther, Cond.instanceMethod yX5_isOther, Cond.selects RX5 yX5_isOther yX5_isOther, Cond.code yX5_isOther cX5_isOther 2 (some .int), Cond.methodLink RX5 84 yX5_waits]
def wsX5_sumOf_r2 : List Cond := [Cond.instanceMethod yX5_waits, Cond.selects RX5 yX5_waits yX5_waits, Cond.code yX5_waits cX5_waits 2 (some .int), Cond.fieldLink RX5 25 "PrintRacksModel" "begins" "[I"]
def wsX5_sumOf : List Cond := .code yX5_sumOf cX5_sumOf 4 (some .int) :: ((wsX5_sumOf_r1 ++ wsX5_sumOf_r2) ++ wsX50)
def wsX5_greatestOf_r1 : List Cond := [Cond.fieldLink RX5 7 "PrintRacksModel" "all" "[I", Cond.fieldLink RX5 28 "PrintRacksModel" "printed" "[I", Cond.methodLink RX5 66 yX5_dry, Cond.instanceMethod yX5_dry, Cond.selects RX5 yX5_dry yX5_dry, Cond.initialized RX5, Cond.code yX5_dry cX5_dry 2 (some .int), Cond.methodLink RX5 78 yX5_late, Cond.instanceMethod yX5_late, Cond.selects RX5 yX5_late yX5_late, Cond.code yX5_late cX5_late 3 (some .int), Cond.methodLink RX5 48 yX5_its, Cond.instanceMethod yX5_its, Cond.selects RX5 yX5_its yX5_its, Cond.code yX5_its cX5_its 3 (some .int), Cond.methodLink RX5 75 yX5_taken, Cond.instanceMethod yX5_taken, Cond.selects RX5 yX5_taken yX5_taken, Cond.code yX5_taken cX5_taken 5 (some .int), Cond.methodLink RX5 69 yX5_racksOf, Cond.instanceMethod yX5_racksOf, Cond.selects RX5 yX5_racksOf yX5_racksOf, Cond.code yX5_racksOf cX5_racksOf 2 (some .int), Cond.methodLink RX5 52 yX5_racksFor]
def wsX5_greatestOf_r2 : List Cond := [Cond.instanceMethod yX5_racksFor, Cond.selects RX5 yX5_racksFor yX5_racksFor, Cond.code yX5_racksFor cX5_racksFor 2 (some .int)]
def wsX5_greatestOf : List Cond := .code yX5_greatestOf cX5_greatestOf 5 (some .int) :: ((wsX5_greatestOf_r1 ++ wsX5_greatestOf_r2) ++ wsX50)
def wsX5_lateAll_r1 : List Cond := [Cond.methodLink RX5 87 yX5_prints, Cond.instanceMethod yX5_prints, Cond.selects RX5 yX5_prints yX5_prints, Cond.initialized RX5, Cond.code yX5_prints cX5_prints 5 none, Cond.fieldLink RX5 7 "PrintRacksModel" "all" "[I", Cond.fieldLink RX5 25 "PrintRacksModel" "begins" "[I", Cond.fieldLink RX5 28 "PrintRacksModel" "printed" "[I", Cond.methodLink RX5 72 yX5_readyFor, Cond.instanceMethod yX5_readyFor, Cond.selects RX5 yX5_readyFor yX5_readyFor, Cond.code yX5_readyFor cX5_readyFor 2 (some .int), Cond.methodLink RX5 60 yX5_plateFor, Cond.instanceMethod yX5_plateFor, Cond.selects RX5 yX5_plateFor yX5_plateFor, Cond.code yX5_plateFor cX5_plateFor 2 (some .int), Cond.methodLink RX5 48 yX5_its, Cond.instanceMethod yX5_its, Cond.selects RX5 yX5_its yX5_its, Cond.code yX5_its cX5_its 3 (some .int), Cond.methodLink RX5 63 yX5_washFor, Cond.instanceMethod yX5_washFor, Cond.selects RX5 yX5_washFor yX5_washFor, Cond.code yX5_washFor cX5_washFor 3 (some .int)]
def wsX5_lateAll_r2 : List Cond := [Cond.methodLink RX5 75 yX5_taken, Cond.instanceMethod yX5_taken, Cond.selects RX5 yX5_taken yX5_taken, Cond.code yX5_taken cX5_taken 5 (some .int), Cond.methodLink RX5 66 yX5_dry, Cond.instanceMethod yX5_dry, Cond.selects RX5 yX5_dry yX5_dry, Cond.code yX5_dry cX5_dry 2 (some .int), Cond.methodLink RX5 69 yX5_racksOf, Cond.instanceMethod yX5_racksOf, Cond.selects RX5 yX5_racksOf yX5_racksOf, Cond.code yX5_racksOf cX5_racksOf 2 (some .int), Cond.methodLink RX5 52 yX5_racksFor, Cond.instanceMethod yX5_racksFor, Cond.selects RX5 yX5_racksFor yX5_racksFor, Cond.code yX5_racksFor cX5_racksFor 2 (some .int), Cond.methodLink RX5 90 yX5_sumOf, Cond.instanceMethod yX5_sumOf, Cond.selects RX5 yX5_sumOf yX5_sumOf, Cond.code yX5_sumOf cX5_sumOf 4 (some .int), Cond.methodLink RX5 78 yX5_late, Cond.instanceMethod yX5_late, Cond.selects RX5 yX5_late yX5_late, Cond.code yX5_late cX5_late 3 (some .int)]
def wsX5_lateAll_r3 : List Cond := [Cond.methodLink RX5 81 yX5_isOther, Cond.instanceMethod yX5_isOther, Cond.selects RX5 yX5_isOther yX5_isOther, Cond.code yX5_isOther cX5_isOther 2 (some .int), Cond.methodLink RX5 84 yX5_waits, Cond.instanceMethod yX5_waits, Cond.selects RX5 yX5_waits yX5_waits, Cond.code yX5_waits cX5_waits 2 (some .int)]
def wsX5_lateAll : List Cond := .code yX5_lateAll cX5_lateAll 1 (some .int) :: ((wsX5_lateAll_r1 ++ (wsX5_lateAll_r2 ++ wsX5_lateAll_r3)) ++ wsX50)
def wsX5_isSetting : List Cond := .code yX5_isSetting cX5_isSetting 2 (some .boolean) :: ([.constantLong RX5 93 (60), .constantLong RX5 95 (9), .constantLong RX5 97 (20), .constantLong RX5 99 (500), .constantLong RX5 101 (4), .constantLong RX5 103 (10), .methodLink RX5 44 yX5_in, .static yX5_in, .initialized RX5, .code yX5_in cX5_in 6 (some .boolean)])
def wsX5_mostNeeded : List Cond := .code yX5_mostNeeded cX5_mostNeeded 3 (some .int) :: ([.fieldLink RX5 7 "PrintRacksModel" "all" "[I", .methodLink RX5 69 yX5_racksOf, .instanceMethod yX5_racksOf, .selects RX5 yX5_racksOf yX5_racksOf, .initialized RX5, .code yX5_racksOf cX5_racksOf 2 (some .int), .methodLink RX5 48 yX5_its, .instanceMethod yX5_its, .selects RX5 yX5_its yX5_its, .code yX5_its cX5_its 3 (some .int), .methodLink RX5 52 yX5_racksFor, .instanceMethod yX5_racksFor, .selects RX5 yX5_racksFor yX5_racksFor, .code yX5_racksFor cX5_racksFor 2 (some .int)] ++ wsX50)
def wsX5_set_r1 : List Cond := [Cond.fieldLink RX5 7 "PrintRacksModel" "all" "[I", Cond.methodLink RX5 105 yX5_isSetting, Cond.static yX5_isSetting, Cond.initialized RX5, Cond.code yX5_isSetting cX5_isSetting 2 (some .boolean), Cond.constantLong RX5 93 (60), Cond.constantLong RX5 95 (9), Cond.constantLong RX5 97 (20), Cond.constantLong RX5 99 (500), Cond.constantLong RX5 101 (4), Cond.constantLong RX5 103 (10), Cond.methodLink RX5 44 yX5_in, Cond.static yX5_in, Cond.code yX5_in cX5_in 6 (some .boolean), Cond.methodLink RX5 109 yX5_mostNeeded, Cond.instanceMethod yX5_mostNeeded, Cond.selects RX5 yX5_mostNeeded yX5_mostNeeded, Cond.code yX5_mostNeeded cX5_mostNeeded 3 (some .int), Cond.methodLink RX5 69 yX5_racksOf, Cond.instanceMethod yX5_racksOf, Cond.selects RX5 yX5_racksOf yX5_racksOf, Cond.code yX5_racksOf cX5_racksOf 2 (some .int), Cond.methodLink RX5 48 yX5_its, Cond.instanceMethod yX5_its]
def wsX5_set_r2 : List Cond := [Cond.selects RX5 yX5_its yX5_its, Cond.code yX5_its cX5_its 3 (some .int), Cond.methodLink RX5 52 yX5_racksFor, Cond.instanceMethod yX5_racksFor, Cond.selects RX5 yX5_racksFor yX5_racksFor, Cond.code yX5_racksFor cX5_racksFor 2 (some .int), Cond.methodLink RX5 113 yX5_changes, Cond.instanceMethod yX5_changes, Cond.selects RX5 yX5_changes yX5_changes, Cond.code yX5_changes cX5_changes 2 none, Cond.fieldLink RX5 40 "PrintRacksModel" "historyLong" "I", Cond.fieldLink RX5 16 "PrintRacksModel" "history" "[I"]
def wsX5_set : List Cond := .code yX5_set cX5_set 5 (some .int) :: ((wsX5_set_r1 ++ wsX5_set_r2) ++ wsX50)
def wsX5_puts : List Cond := .code yX5_puts cX5_puts 6 none :: ([.fieldLink RX5 7 "PrintRacksModel" "all" "[I"] ++ wsX50)
def wsX5_job : List Cond := .code yX5_job cX5_job 5 (some .int) :: ([.constantLong RX5 95 (9), .constantLong RX5 97 (20), .constantLong RX5 116 (3000), .fieldLink RX5 7 "PrintRacksModel" "all" "[I", .methodLink RX5 44 yX5_in, .static yX5_in, .initialized RX5, .code yX5_in cX5_in 6 (some .boolean), .methodLink RX5 52 yX5_racksFor, .instanceMethod yX5_racksFor, .selects RX5 yX5_racksFor yX5_racksFor, .code yX5_racksFor cX5_racksFor 2 (some .int), .methodLink RX5 113 yX5_changes, .instanceMethod yX5_changes, .selects RX5 yX5_changes yX5_changes, .code yX5_changes cX5_changes 2 none, .fieldLink RX5 40 "PrintRacksModel" "historyLong" "I", .fieldLink RX5 16 "PrintRacksModel" "history" "[I", .methodLink RX5 118 yX5_puts, .instanceMethod yX5_puts, .selects RX5 yX5_puts yX5_puts, .code yX5_puts cX5_puts 6 none] ++ wsX50)
def wsX5_drop_r1 : List Cond := [Cond.fieldLink RX5 7 "PrintRacksModel" "all" "[I", Cond.methodLink RX5 122 yX5_isJob, Cond.instanceMethod yX5_isJob, Cond.selects RX5 yX5_isJob yX5_isJob, Cond.initialized RX5, Cond.code yX5_isJob cX5_isJob 2 (some .boolean), Cond.methodLink RX5 44 yX5_in, Cond.static yX5_in, Cond.code yX5_in cX5_in 6 (some .boolean), Cond.methodLink RX5 113 yX5_changes, Cond.instanceMethod yX5_changes, Cond.selects RX5 yX5_changes yX5_changes, Cond.code yX5_changes cX5_changes 2 none, Cond.fieldLink RX5 40 "PrintRacksModel" "historyLong" "I", Cond.fieldLink RX5 16 "PrintRacksModel" "history" "[I", Cond.methodLink RX5 126 yX5_moves, Cond.instanceMethod yX5_moves, Cond.selects RX5 yX5_moves yX5_moves, Cond.code yX5_moves cX5_moves 5 none, Cond.methodLink RX5 56 yX5_exchanges, Cond.instanceMethod yX5_exchanges, Cond.selects RX5 yX5_exchanges yX5_exchanges, Cond.code yX5_exchanges cX5_exchanges 5 none, Cond.methodLink RX5 48 yX5_its]
def wsX5_drop_r2 : List Cond := [Cond.instanceMethod yX5_its, Cond.selects RX5 yX5_its yX5_its, Cond.code yX5_its cX5_its 3 (some .int)]
def wsX5_drop : List Cond := .code yX5_drop cX5_drop 3 (some .int) :: ((wsX5_drop_r1 ++ wsX5_drop_r2) ++ wsX50)
def wsX5_move_r1 : List Cond := [Cond.methodLink RX5 122 yX5_isJob, Cond.instanceMethod yX5_isJob, Cond.selects RX5 yX5_isJob yX5_isJob, Cond.initialized RX5, Cond.code yX5_isJob cX5_isJob 2 (some .boolean), Cond.fieldLink RX5 7 "PrintRacksModel" "all" "[I", Cond.methodLink RX5 44 yX5_in, Cond.static yX5_in, Cond.code yX5_in cX5_in 6 (some .boolean), Cond.methodLink RX5 113 yX5_changes, Cond.instanceMethod yX5_changes, Cond.selects RX5 yX5_changes yX5_changes, Cond.code yX5_changes cX5_changes 2 none, Cond.fieldLink RX5 40 "PrintRacksModel" "historyLong" "I", Cond.fieldLink RX5 16 "PrintRacksModel" "history" "[I", Cond.methodLink RX5 126 yX5_moves, Cond.instanceMethod yX5_moves, Cond.selects RX5 yX5_moves yX5_moves, Cond.code yX5_moves cX5_moves 5 none, Cond.methodLink RX5 56 yX5_exchanges, Cond.instanceMethod yX5_exchanges, Cond.selects RX5 yX5_exchanges yX5_exchanges, Cond.code yX5_exchanges cX5_exchanges 5 none, Cond.methodLink RX5 48 yX5_its]
def wsX5_move_r2 : List Cond := [Cond.instanceMethod yX5_its, Cond.selects RX5 yX5_its yX5_its, Cond.code yX5_its cX5_its 3 (some .int), Cond.methodLink RX5 129 yX5_lateAll, Cond.instanceMethod yX5_lateAll, Cond.selects RX5 yX5_lateAll yX5_lateAll, Cond.code yX5_lateAll cX5_lateAll 1 (some .int), Cond.methodLink RX5 87 yX5_prints, Cond.instanceMethod yX5_prints, Cond.selects RX5 yX5_prints yX5_prints, Cond.code yX5_prints cX5_prints 5 none, Cond.fieldLink RX5 25 "PrintRacksModel" "begins" "[I", Cond.fieldLink RX5 28 "PrintRacksModel" "printed" "[I", Cond.methodLink RX5 72 yX5_readyFor, Cond.instanceMethod yX5_readyFor, Cond.selects RX5 yX5_readyFor yX5_readyFor, Cond.code yX5_readyFor cX5_readyFor 2 (some .int), Cond.methodLink RX5 60 yX5_plateFor, Cond.instanceMethod yX5_plateFor, Cond.selects RX5 yX5_plateFor yX5_plateFor, Cond.code yX5_plateFor cX5_plateFor 2 (some .int), Cond.methodLink RX5 63 yX5_washFor, Cond.instanceMethod yX5_washFor, Cond.selects RX5 yX5_washFor yX5_washFor]
def wsX5_move_r3 : List Cond := [Cond.code yX5_washFor cX5_washFor 3 (some .int), Cond.methodLink RX5 75 yX5_taken, Cond.instanceMethod yX5_taken, Cond.selects RX5 yX5_taken yX5_taken, Cond.code yX5_taken cX5_taken 5 (some .int), Cond.methodLink RX5 66 yX5_dry, Cond.instanceMethod yX5_dry, Cond.selects RX5 yX5_dry yX5_dry, Cond.code yX5_dry cX5_dry 2 (some .int), Cond.methodLink RX5 69 yX5_racksOf, Cond.instanceMethod yX5_racksOf, Cond.selects RX5 yX5_racksOf yX5_racksOf, Cond.code yX5_racksOf cX5_racksOf 2 (some .int), Cond.methodLink RX5 52 yX5_racksFor, Cond.instanceMethod yX5_racksFor, Cond.selects RX5 yX5_racksFor yX5_racksFor, Cond.code yX5_racksFor cX5_racksFor 2 (some .int), Cond.methodLink RX5 90 yX5_sumOf, Cond.instanceMethod yX5_sumOf, Cond.selects RX5 yX5_sumOf yX5_sumOf, Cond.code yX5_sumOf cX5_sumOf 4 (some .int), Cond.methodLink RX5 78 yX5_late, Cond.instanceMethod yX5_late, Cond.selects RX5 yX5_late yX5_late]
def wsX5_move_r4 : List Cond := [Cond.code yX5_late cX5_late 3 (some .int), Cond.methodLink RX5 81 yX5_isOther, Cond.instanceMethod yX5_isOther, Cond.selects RX5 yX5_isOther yX5_isOther, Cond.code yX5_isOther cX5_isOther 2 (some .int), Cond.methodLink RX5 84 yX5_waits, Cond.instanceMethod yX5_waits, Cond.selects RX5 yX5_waits yX5_waits, Cond.code yX5_waits cX5_waits 2 (some .int)]
def wsX5_move : List Cond := .code yX5_move cX5_move 3 (some .int) :: ((wsX5_move_r1 ++ (wsX5_move_r2 ++ (wsX5_move_r3 ++ wsX5_move_r4))) ++ wsX50)
def wsX5_due_r1 : List Cond := [Cond.constantLong RX5 116 (3000), Cond.fieldLink RX5 7 "PrintRacksModel" "all" "[I", Cond.methodLink RX5 122 yX5_isJob, Cond.instanceMethod yX5_isJob, Cond.selects RX5 yX5_isJob yX5_isJob, Cond.initialized RX5, Cond.code yX5_isJob cX5_isJob 2 (some .boolean), Cond.methodLink RX5 44 yX5_in, Cond.static yX5_in, Cond.code yX5_in cX5_in 6 (some .boolean), Cond.methodLink RX5 113 yX5_changes, Cond.instanceMethod yX5_changes, Cond.selects RX5 yX5_changes yX5_changes, Cond.code yX5_changes cX5_changes 2 none, Cond.fieldLink RX5 40 "PrintRacksModel" "historyLong" "I", Cond.fieldLink RX5 16 "PrintRacksModel" "history" "[I", Cond.methodLink RX5 87 yX5_prints, Cond.instanceMethod yX5_prints, Cond.selects RX5 yX5_prints yX5_prints, Cond.code yX5_prints cX5_prints 5 none, Cond.fieldLink RX5 25 "PrintRacksModel" "begins" "[I", Cond.fieldLink RX5 28 "PrintRacksModel" "printed" "[I", Cond.methodLink RX5 72 yX5_readyFor, Cond.instanceMethod yX5_readyFor]
def wsX5_due_r2 : List Cond := [Cond.selects RX5 yX5_readyFor yX5_readyFor, Cond.code yX5_readyFor cX5_readyFor 2 (some .int), Cond.methodLink RX5 60 yX5_plateFor, Cond.instanceMethod yX5_plateFor, Cond.selects RX5 yX5_plateFor yX5_plateFor, Cond.code yX5_plateFor cX5_plateFor 2 (some .int), Cond.methodLink RX5 48 yX5_its, Cond.instanceMethod yX5_its, Cond.selects RX5 yX5_its yX5_its, Cond.code yX5_its cX5_its 3 (some .int), Cond.methodLink RX5 63 yX5_washFor, Cond.instanceMethod yX5_washFor, Cond.selects RX5 yX5_washFor yX5_washFor, Cond.code yX5_washFor cX5_washFor 3 (some .int), Cond.methodLink RX5 75 yX5_taken, Cond.instanceMethod yX5_taken, Cond.selects RX5 yX5_taken yX5_taken, Cond.code yX5_taken cX5_taken 5 (some .int), Cond.methodLink RX5 66 yX5_dry, Cond.instanceMethod yX5_dry, Cond.selects RX5 yX5_dry yX5_dry, Cond.code yX5_dry cX5_dry 2 (some .int), Cond.methodLink RX5 69 yX5_racksOf, Cond.instanceMethod yX5_racksOf]
def wsX5_due_r3 : List Cond := [Cond.selects RX5 yX5_racksOf yX5_racksOf, Cond.code yX5_racksOf cX5_racksOf 2 (some .int), Cond.methodLink RX5 52 yX5_racksFor, Cond.instanceMethod yX5_racksFor, Cond.selects RX5 yX5_racksFor yX5_racksFor, Cond.code yX5_racksFor cX5_racksFor 2 (some .int), Cond.methodLink RX5 78 yX5_late, Cond.instanceMethod yX5_late, Cond.selects RX5 yX5_late yX5_late, Cond.code yX5_late cX5_late 3 (some .int)]
def wsX5_due : List Cond := .code yX5_due cX5_due 3 (some .int) :: ((wsX5_due_r1 ++ (wsX5_due_r2 ++ wsX5_due_r3)) ++ wsX50)
def wsX5_keyOf : List Cond := .code yX5_keyOf cX5_keyOf 1 (some .int) :: ([])
def wsX5_orders : List Cond := .code yX5_orders cX5_orders 5 none :: ([.fieldLink RX5 7 "PrintRacksModel" "all" "[I", .fieldLink RX5 31 "PrintRacksModel" "from" "[I", .methodLink RX5 132 yX5_keyOf, .static yX5_keyOf, .initialized RX5, .code yX5_keyOf cX5_keyOf 1 (some .int), .methodLink RX5 48 yX5_its, .instanceMethod yX5_its, .selects RX5 yX5_its yX5_its, .code yX5_its cX5_its 3 (some .int), .methodLink RX5 56 yX5_exchanges, .instanceMethod yX5_exchanges, .selects RX5 yX5_exchanges yX5_exchanges, .code yX5_exchanges cX5_exchanges 5 none] ++ wsX50)
def wsX5_order_r1 : List Cond := [Cond.constantLong RX5 135 (3), Cond.fieldLink RX5 7 "PrintRacksModel" "all" "[I", Cond.fieldLink RX5 31 "PrintRacksModel" "from" "[I", Cond.methodLink RX5 44 yX5_in, Cond.static yX5_in, Cond.initialized RX5, Cond.code yX5_in cX5_in 6 (some .boolean), Cond.methodLink RX5 113 yX5_changes, Cond.instanceMethod yX5_changes, Cond.selects RX5 yX5_changes yX5_changes, Cond.code yX5_changes cX5_changes 2 none, Cond.fieldLink RX5 40 "PrintRacksModel" "historyLong" "I", Cond.fieldLink RX5 16 "PrintRacksModel" "history" "[I", Cond.methodLink RX5 137 yX5_orders, Cond.instanceMethod yX5_orders, Cond.selects RX5 yX5_orders yX5_orders, Cond.code yX5_orders cX5_orders 5 none, Cond.methodLink RX5 132 yX5_keyOf, Cond.static yX5_keyOf, Cond.code yX5_keyOf cX5_keyOf 1 (some .int), Cond.methodLink RX5 48 yX5_its, Cond.instanceMethod yX5_its, Cond.selects RX5 yX5_its yX5_its, Cond.code yX5_its cX5_its 3 (some .int)]
def wsX5_order_r2 : List Cond := [Cond.methodLink RX5 56 yX5_exchanges, Cond.instanceMethod yX5_exchanges, Cond.selects RX5 yX5_exchanges yX5_exchanges, Cond.code yX5_exchanges cX5_exchanges 5 none]
def wsX5_order : List Cond := .code yX5_order cX5_order 4 (some .int) :: ((wsX5_order_r1 ++ wsX5_order_r2) ++ wsX50)
def wsX5_jobOf_r1 : List Cond := [Cond.fieldLink RX5 25 "PrintRacksModel" "begins" "[I", Cond.fieldLink RX5 28 "PrintRacksModel" "printed" "[I", Cond.methodLink RX5 122 yX5_isJob, Cond.instanceMethod yX5_isJob, Cond.selects RX5 yX5_isJob yX5_isJob, Cond.initialized RX5, Cond.code yX5_isJob cX5_isJob 2 (some .boolean), Cond.fieldLink RX5 7 "PrintRacksModel" "all" "[I", Cond.methodLink RX5 44 yX5_in, Cond.static yX5_in, Cond.code yX5_in cX5_in 6 (some .boolean), Cond.methodLink RX5 87 yX5_prints, Cond.instanceMethod yX5_prints, Cond.selects RX5 yX5_prints yX5_prints, Cond.code yX5_prints cX5_prints 5 none, Cond.methodLink RX5 72 yX5_readyFor, Cond.instanceMethod yX5_readyFor, Cond.selects RX5 yX5_readyFor yX5_readyFor, Cond.code yX5_readyFor cX5_readyFor 2 (some .int), Cond.methodLink RX5 60 yX5_plateFor, Cond.instanceMethod yX5_plateFor, Cond.selects RX5 yX5_plateFor yX5_plateFor, Cond.code yX5_plateFor cX5_plateFor 2 (some .int), Cond.methodLink RX5 48 yX5_its]
def wsX5_jobOf_r2 : List Cond := [Cond.instanceMethod yX5_its, Cond.selects RX5 yX5_its yX5_its, Cond.code yX5_its cX5_its 3 (some .int), Cond.methodLink RX5 63 yX5_washFor, Cond.instanceMethod yX5_washFor, Cond.selects RX5 yX5_washFor yX5_washFor, Cond.code yX5_washFor cX5_washFor 3 (some .int), Cond.methodLink RX5 75 yX5_taken, Cond.instanceMethod yX5_taken, Cond.selects RX5 yX5_taken yX5_taken, Cond.code yX5_taken cX5_taken 5 (some .int), Cond.methodLink RX5 66 yX5_dry, Cond.instanceMethod yX5_dry, Cond.selects RX5 yX5_dry yX5_dry, Cond.code yX5_dry cX5_dry 2 (some .int), Cond.methodLink RX5 69 yX5_racksOf, Cond.instanceMethod yX5_racksOf, Cond.selects RX5 yX5_racksOf yX5_racksOf, Cond.code yX5_racksOf cX5_racksOf 2 (some .int), Cond.methodLink RX5 52 yX5_racksFor, Cond.instanceMethod yX5_racksFor, Cond.selects RX5 yX5_racksFor yX5_racksFor, Cond.code yX5_racksFor cX5_racksFor 2 (some .int), Cond.methodLink RX5 78 yX5_late]
def wsX5_jobOf_r3 : List Cond := [Cond.instanceMethod yX5_late, Cond.selects RX5 yX5_late yX5_late, Cond.code yX5_late cX5_late 3 (some .int), Cond.methodLink RX5 84 yX5_waits, Cond.instanceMethod yX5_waits, Cond.selects RX5 yX5_waits yX5_waits, Cond.code yX5_waits cX5_waits 2 (some .int)]
def wsX5_jobOf : List Cond := .code yX5_jobOf cX5_jobOf 3 (some .int) :: ((wsX5_jobOf_r1 ++ (wsX5_jobOf_r2 ++ wsX5_jobOf_r3)) ++ wsX50)
def wsX5_count_r1 : List Cond := [Cond.fieldLink RX5 7 "PrintRacksModel" "all" "[I", Cond.fieldLink RX5 144 "PrintRacksModel" "textLong" "I", Cond.fieldLink RX5 40 "PrintRacksModel" "historyLong" "I", Cond.constantLong RX5 147 (6), Cond.methodLink RX5 87 yX5_prints, Cond.instanceMethod yX5_prints, Cond.selects RX5 yX5_prints yX5_prints, Cond.initialized RX5, Cond.code yX5_prints cX5_prints 5 none, Cond.fieldLink RX5 25 "PrintRacksModel" "begins" "[I", Cond.fieldLink RX5 28 "PrintRacksModel" "printed" "[I", Cond.methodLink RX5 72 yX5_readyFor, Cond.instanceMethod yX5_readyFor, Cond.selects RX5 yX5_readyFor yX5_readyFor, Cond.code yX5_readyFor cX5_readyFor 2 (some .int), Cond.methodLink RX5 60 yX5_plateFor, Cond.instanceMethod yX5_plateFor, Cond.selects RX5 yX5_plateFor yX5_plateFor, Cond.code yX5_plateFor cX5_plateFor 2 (some .int), Cond.methodLink RX5 48 yX5_its, Cond.instanceMethod yX5_its, Cond.selects RX5 yX5_its yX5_its, Cond.code yX5_its cX5_its 3 (some .int), Cond.methodLink RX5 63 yX5_washFor]
def wsX5_count_r2 : List Cond := [Cond.instanceMethod yX5_washFor, Cond.selects RX5 yX5_washFor yX5_washFor, Cond.code yX5_washFor cX5_washFor 3 (some .int), Cond.methodLink RX5 75 yX5_taken, Cond.instanceMethod yX5_taken, Cond.selects RX5 yX5_taken yX5_taken, Cond.code yX5_taken cX5_taken 5 (some .int), Cond.methodLink RX5 66 yX5_dry, Cond.instanceMethod yX5_dry, Cond.selects RX5 yX5_dry yX5_dry, Cond.code yX5_dry cX5_dry 2 (some .int), Cond.methodLink RX5 69 yX5_racksOf, Cond.instanceMethod yX5_racksOf, Cond.selects RX5 yX5_racksOf yX5_racksOf, Cond.code yX5_racksOf cX5_racksOf 2 (some .int), Cond.methodLink RX5 52 yX5_racksFor, Cond.instanceMethod yX5_racksFor, Cond.selects RX5 yX5_racksFor yX5_racksFor, Cond.code yX5_racksFor cX5_racksFor 2 (some .int), Cond.methodLink RX5 90 yX5_sumOf, Cond.instanceMethod yX5_sumOf, Cond.selects RX5 yX5_sumOf yX5_sumOf, Cond.code yX5_sumOf cX5_sumOf 4 (some .int), Cond.methodLink RX5 78 yX5_late]
def wsX5_count_r3 : List Cond := [Cond.instanceMethod yX5_late, Cond.selects RX5 yX5_late yX5_late, Cond.code yX5_late cX5_late 3 (some .int), Cond.methodLink RX5 81 yX5_isOther, Cond.instanceMethod yX5_isOther, Cond.selects RX5 yX5_isOther yX5_isOther, Cond.code yX5_isOther cX5_isOther 2 (some .int), Cond.methodLink RX5 84 yX5_waits, Cond.instanceMethod yX5_waits, Cond.selects RX5 yX5_waits yX5_waits, Cond.code yX5_waits cX5_waits 2 (some .int), Cond.methodLink RX5 141 yX5_greatestOf, Cond.instanceMethod yX5_greatestOf, Cond.selects RX5 yX5_greatestOf yX5_greatestOf, Cond.code yX5_greatestOf cX5_greatestOf 5 (some .int), Cond.methodLink RX5 44 yX5_in, Cond.static yX5_in, Cond.code yX5_in cX5_in 6 (some .boolean)]
def wsX5_count : List Cond := .code yX5_count cX5_count 2 (some .int) :: ((wsX5_count_r1 ++ (wsX5_count_r2 ++ wsX5_count_r3)) ++ wsX50)
def wsX5_at_r1 : List Cond := [Cond.constantLong RX5 149 (99999), Cond.constantLong RX5 135 (3), Cond.fieldLink RX5 7 "PrintRacksModel" "all" "[I", Cond.fieldLink RX5 25 "PrintRacksModel" "begins" "[I", Cond.fieldLink RX5 28 "PrintRacksModel" "printed" "[I", Cond.methodLink RX5 44 yX5_in, Cond.static yX5_in, Cond.initialized RX5, Cond.code yX5_in cX5_in 6 (some .boolean), Cond.methodLink RX5 87 yX5_prints, Cond.instanceMethod yX5_prints, Cond.selects RX5 yX5_prints yX5_prints, Cond.code yX5_prints cX5_prints 5 none, Cond.methodLink RX5 72 yX5_readyFor, Cond.instanceMethod yX5_readyFor, Cond.selects RX5 yX5_readyFor yX5_readyFor, Cond.code yX5_readyFor cX5_readyFor 2 (some .int), Cond.methodLink RX5 60 yX5_plateFor, Cond.instanceMethod yX5_plateFor, Cond.selects RX5 yX5_plateFor yX5_plateFor, Cond.code yX5_plateFor cX5_plateFor 2 (some .int), Cond.methodLink RX5 48 yX5_its, Cond.instanceMethod yX5_its, Cond.selects RX5 yX5_its yX5_its]
def wsX5_at_r2 : List Cond := [Cond.code yX5_its cX5_its 3 (some .int), Cond.methodLink RX5 63 yX5_washFor, Cond.instanceMethod yX5_washFor, Cond.selects RX5 yX5_washFor yX5_washFor, Cond.code yX5_washFor cX5_washFor 3 (some .int), Cond.methodLink RX5 75 yX5_taken, Cond.instanceMethod yX5_taken, Cond.selects RX5 yX5_taken yX5_taken, Cond.code yX5_taken cX5_taken 5 (some .int), Cond.methodLink RX5 66 yX5_dry, Cond.instanceMethod yX5_dry, Cond.selects RX5 yX5_dry yX5_dry, Cond.code yX5_dry cX5_dry 2 (some .int), Cond.methodLink RX5 69 yX5_racksOf, Cond.instanceMethod yX5_racksOf, Cond.selects RX5 yX5_racksOf yX5_racksOf, Cond.code yX5_racksOf cX5_racksOf 2 (some .int), Cond.methodLink RX5 52 yX5_racksFor, Cond.instanceMethod yX5_racksFor, Cond.selects RX5 yX5_racksFor yX5_racksFor, Cond.code yX5_racksFor cX5_racksFor 2 (some .int)]
def wsX5_at : List Cond := .code yX5_at cX5_at 5 (some .int) :: ((wsX5_at_r1 ++ wsX5_at_r2) ++ wsX50)
def wsX5_ifOrdered_r1 : List Cond := [Cond.constantLong RX5 135 (3), Cond.methodLink RX5 44 yX5_in, Cond.static yX5_in, Cond.initialized RX5, Cond.code yX5_in cX5_in 6 (some .boolean), Cond.methodLink RX5 151 yX5_keeps, Cond.instanceMethod yX5_keeps, Cond.selects RX5 yX5_keeps yX5_keeps, Cond.code yX5_keeps cX5_keeps 2 none, Cond.fieldLink RX5 13 "PrintRacksModel" "kept" "[I", Cond.fieldLink RX5 7 "PrintRacksModel" "all" "[I", Cond.methodLink RX5 137 yX5_orders, Cond.instanceMethod yX5_orders, Cond.selects RX5 yX5_orders yX5_orders, Cond.code yX5_orders cX5_orders 5 none, Cond.fieldLink RX5 31 "PrintRacksModel" "from" "[I", Cond.methodLink RX5 132 yX5_keyOf, Cond.static yX5_keyOf, Cond.code yX5_keyOf cX5_keyOf 1 (some .int), Cond.methodLink RX5 48 yX5_its, Cond.instanceMethod yX5_its, Cond.selects RX5 yX5_its yX5_its, Cond.code yX5_its cX5_its 3 (some .int), Cond.methodLink RX5 56 yX5_exchanges]
def wsX5_ifOrdered_r2 : List Cond := [Cond.instanceMethod yX5_exchanges, Cond.selects RX5 yX5_exchanges yX5_exchanges, Cond.code yX5_exchanges cX5_exchanges 5 none, Cond.methodLink RX5 87 yX5_prints, Cond.instanceMethod yX5_prints, Cond.selects RX5 yX5_prints yX5_prints, Cond.code yX5_prints cX5_prints 5 none, Cond.fieldLink RX5 25 "PrintRacksModel" "begins" "[I", Cond.fieldLink RX5 28 "PrintRacksModel" "printed" "[I", Cond.methodLink RX5 72 yX5_readyFor, Cond.instanceMethod yX5_readyFor, Cond.selects RX5 yX5_readyFor yX5_readyFor, Cond.code yX5_readyFor cX5_readyFor 2 (some .int), Cond.methodLink RX5 60 yX5_plateFor, Cond.instanceMethod yX5_plateFor, Cond.selects RX5 yX5_plateFor yX5_plateFor, Cond.code yX5_plateFor cX5_plateFor 2 (some .int), Cond.methodLink RX5 63 yX5_washFor, Cond.instanceMethod yX5_washFor, Cond.selects RX5 yX5_washFor yX5_washFor, Cond.code yX5_washFor cX5_washFor 3 (some .int), Cond.methodLink RX5 75 yX5_taken, Cond.instanceMethod yX5_taken, Cond.selects RX5 yX5_taken yX5_taken]
def wsX5_ifOrdered_r3 : List Cond := [Cond.code yX5_taken cX5_taken 5 (some .int), Cond.methodLink RX5 66 yX5_dry, Cond.instanceMethod yX5_dry, Cond.selects RX5 yX5_dry yX5_dry, Cond.code yX5_dry cX5_dry 2 (some .int), Cond.methodLink RX5 69 yX5_racksOf, Cond.instanceMethod yX5_racksOf, Cond.selects RX5 yX5_racksOf yX5_racksOf, Cond.code yX5_racksOf cX5_racksOf 2 (some .int), Cond.methodLink RX5 52 yX5_racksFor, Cond.instanceMethod yX5_racksFor, Cond.selects RX5 yX5_racksFor yX5_racksFor, Cond.code yX5_racksFor cX5_racksFor 2 (some .int), Cond.methodLink RX5 141 yX5_greatestOf, Cond.instanceMethod yX5_greatestOf, Cond.selects RX5 yX5_greatestOf yX5_greatestOf, Cond.code yX5_greatestOf cX5_greatestOf 5 (some .int), Cond.methodLink RX5 78 yX5_late, Cond.instanceMethod yX5_late, Cond.selects RX5 yX5_late yX5_late, Cond.code yX5_late cX5_late 3 (some .int), Cond.methodLink RX5 90 yX5_sumOf, Cond.instanceMethod yX5_sumOf, Cond.selects RX5 yX5_sumOf yX5_sumOf]
def wsX5_ifOrdered_r4 : List Cond := [Cond.code yX5_sumOf cX5_sumOf 4 (some .int), Cond.methodLink RX5 81 yX5_isOther, Cond.instanceMethod yX5_isOther, Cond.selects RX5 yX5_isOther yX5_isOther, Cond.code yX5_isOther cX5_isOther 2 (some .int), Cond.methodLink RX5 84 yX5_waits, Cond.instanceMethod yX5_waits, Cond.selects RX5 yX5_waits yX5_waits, Cond.code yX5_waits cX5_waits 2 (some .int), Cond.methodLink RX5 154 yX5_comesBack, Cond.instanceMethod yX5_comesBack, Cond.selects RX5 yX5_comesBack yX5_comesBack, Cond.code yX5_comesBack cX5_comesBack 2 none]
def wsX5_ifOrdered : List Cond := .code yX5_ifOrdered cX5_ifOrdered 4 (some .int) :: ((wsX5_ifOrdered_r1 ++ (wsX5_ifOrdered_r2 ++ (wsX5_ifOrdered_r3 ++ wsX5_ifOrdered_r4))) ++ wsX50)
def wsX5_bestExchange_r1 : List Cond := [Cond.constantLong RX5 157 (2), Cond.fieldLink RX5 7 "PrintRacksModel" "all" "[I", Cond.methodLink RX5 44 yX5_in, Cond.static yX5_in, Cond.initialized RX5, Cond.code yX5_in cX5_in 6 (some .boolean), Cond.methodLink RX5 129 yX5_lateAll, Cond.instanceMethod yX5_lateAll, Cond.selects RX5 yX5_lateAll yX5_lateAll, Cond.code yX5_lateAll cX5_lateAll 1 (some .int), Cond.methodLink RX5 87 yX5_prints, Cond.instanceMethod yX5_prints, Cond.selects RX5 yX5_prints yX5_prints, Cond.code yX5_prints cX5_prints 5 none, Cond.fieldLink RX5 25 "PrintRacksModel" "begins" "[I", Cond.fieldLink RX5 28 "PrintRacksModel" "printed" "[I", Cond.methodLink RX5 72 yX5_readyFor, Cond.instanceMethod yX5_readyFor, Cond.selects RX5 yX5_readyFor yX5_readyFor, Cond.code yX5_readyFor cX5_readyFor 2 (some .int), Cond.methodLink RX5 60 yX5_plateFor, Cond.instanceMethod yX5_plateFor, Cond.selects RX5 yX5_plateFor yX5_plateFor, Cond.code yX5_plateFor cX5_plateFor 2 (some .int)]
def wsX5_bestExchange_r2 : List Cond := [Cond.methodLink RX5 48 yX5_its, Cond.instanceMethod yX5_its, Cond.selects RX5 yX5_its yX5_its, Cond.code yX5_its cX5_its 3 (some .int), Cond.methodLink RX5 63 yX5_washFor, Cond.instanceMethod yX5_washFor, Cond.selects RX5 yX5_washFor yX5_washFor, Cond.code yX5_washFor cX5_washFor 3 (some .int), Cond.methodLink RX5 75 yX5_taken, Cond.instanceMethod yX5_taken, Cond.selects RX5 yX5_taken yX5_taken, Cond.code yX5_taken cX5_taken 5 (some .int), Cond.methodLink RX5 66 yX5_dry, Cond.instanceMethod yX5_dry, Cond.selects RX5 yX5_dry yX5_dry, Cond.code yX5_dry cX5_dry 2 (some .int), Cond.methodLink RX5 69 yX5_racksOf, Cond.instanceMethod yX5_racksOf, Cond.selects RX5 yX5_racksOf yX5_racksOf, Cond.code yX5_racksOf cX5_racksOf 2 (some .int), Cond.methodLink RX5 52 yX5_racksFor, Cond.instanceMethod yX5_racksFor, Cond.selects RX5 yX5_racksFor yX5_racksFor, Cond.code yX5_racksFor cX5_racksFor 2 (some .int)]
def wsX5_bestExchange_r3 : List Cond := [Cond.methodLink RX5 90 yX5_sumOf, Cond.instanceMethod yX5_sumOf, Cond.selects RX5 yX5_sumOf yX5_sumOf, Cond.code yX5_sumOf cX5_sumOf 4 (some .int), Cond.methodLink RX5 78 yX5_late, Cond.instanceMethod yX5_late, Cond.selects RX5 yX5_late yX5_late, Cond.code yX5_late cX5_late 3 (some .int), Cond.methodLink RX5 81 yX5_isOther, Cond.instanceMethod yX5_isOther, Cond.selects RX5 yX5_isOther yX5_isOther, Cond.code yX5_isOther cX5_isOther 2 (some .int), Cond.methodLink RX5 84 yX5_waits, Cond.instanceMethod yX5_waits, Cond.selects RX5 yX5_waits yX5_waits, Cond.code yX5_waits cX5_waits 2 (some .int), Cond.methodLink RX5 56 yX5_exchanges, Cond.instanceMethod yX5_exchanges, Cond.selects RX5 yX5_exchanges yX5_exchanges, Cond.code yX5_exchanges cX5_exchanges 5 none]
def wsX5_bestExchange : List Cond := .code yX5_bestExchange cX5_bestExchange 9 (some .int) :: ((wsX5_bestExchange_r1 ++ (wsX5_bestExchange_r2 ++ wsX5_bestExchange_r3)) ++ wsX50)
def wsX5_bestFirst_r1 : List Cond := [Cond.fieldLink RX5 7 "PrintRacksModel" "all" "[I", Cond.methodLink RX5 126 yX5_moves, Cond.instanceMethod yX5_moves, Cond.selects RX5 yX5_moves yX5_moves, Cond.initialized RX5, Cond.code yX5_moves cX5_moves 5 none, Cond.methodLink RX5 56 yX5_exchanges, Cond.instanceMethod yX5_exchanges, Cond.selects RX5 yX5_exchanges yX5_exchanges, Cond.code yX5_exchanges cX5_exchanges 5 none, Cond.methodLink RX5 48 yX5_its, Cond.instanceMethod yX5_its, Cond.selects RX5 yX5_its yX5_its, Cond.code yX5_its cX5_its 3 (some .int), Cond.methodLink RX5 129 yX5_lateAll, Cond.instanceMethod yX5_lateAll, Cond.selects RX5 yX5_lateAll yX5_lateAll, Cond.code yX5_lateAll cX5_lateAll 1 (some .int), Cond.methodLink RX5 87 yX5_prints, Cond.instanceMethod yX5_prints, Cond.selects RX5 yX5_prints yX5_prints, Cond.code yX5_prints cX5_prints 5 none, Cond.fieldLink RX5 25 "PrintRacksModel" "begins" "[I", Cond.fieldLink RX5 28 "PrintRacksModel" "printed" "[I"]
def wsX5_bestFirst_r2 : List Cond := [Cond.methodLink RX5 72 yX5_readyFor, Cond.instanceMethod yX5_readyFor, Cond.selects RX5 yX5_readyFor yX5_readyFor, Cond.code yX5_readyFor cX5_readyFor 2 (some .int), Cond.methodLink RX5 60 yX5_plateFor, Cond.instanceMethod yX5_plateFor, Cond.selects RX5 yX5_plateFor yX5_plateFor, Cond.code yX5_plateFor cX5_plateFor 2 (some .int), Cond.methodLink RX5 63 yX5_washFor, Cond.instanceMethod yX5_washFor, Cond.selects RX5 yX5_washFor yX5_washFor, Cond.code yX5_washFor cX5_washFor 3 (some .int), Cond.methodLink RX5 75 yX5_taken, Cond.instanceMethod yX5_taken, Cond.selects RX5 yX5_taken yX5_taken, Cond.code yX5_taken cX5_taken 5 (some .int), Cond.methodLink RX5 66 yX5_dry, Cond.instanceMethod yX5_dry, Cond.selects RX5 yX5_dry yX5_dry, Cond.code yX5_dry cX5_dry 2 (some .int), Cond.methodLink RX5 69 yX5_racksOf, Cond.instanceMethod yX5_racksOf, Cond.selects RX5 yX5_racksOf yX5_racksOf, Cond.code yX5_racksOf cX5_racksOf 2 (some .int)]
def wsX5_bestFirst_r3 : List Cond := [Cond.methodLink RX5 52 yX5_racksFor, Cond.instanceMethod yX5_racksFor, Cond.selects RX5 yX5_racksFor yX5_racksFor, Cond.code yX5_racksFor cX5_racksFor 2 (some .int), Cond.methodLink RX5 90 yX5_sumOf, Cond.instanceMethod yX5_sumOf, Cond.selects RX5 yX5_sumOf yX5_sumOf, Cond.code yX5_sumOf cX5_sumOf 4 (some .int), Cond.methodLink RX5 78 yX5_late, Cond.instanceMethod yX5_late, Cond.selects RX5 yX5_late yX5_late, Cond.code yX5_late cX5_late 3 (some .int), Cond.methodLink RX5 81 yX5_isOther, Cond.instanceMethod yX5_isOther, Cond.selects RX5 yX5_isOther yX5_isOther, Cond.code yX5_isOther cX5_isOther 2 (some .int), Cond.methodLink RX5 84 yX5_waits, Cond.instanceMethod yX5_waits, Cond.selects RX5 yX5_waits yX5_waits, Cond.code yX5_waits cX5_waits 2 (some .int)]
def wsX5_bestFirst : List Cond := .code yX5_bestFirst cX5_bestFirst 6 (some .int) :: ((wsX5_bestFirst_r1 ++ (wsX5_bestFirst_r2 ++ wsX5_bestFirst_r3)) ++ wsX50)
def wsX5_leastRacks_r1 : List Cond := [Cond.fieldLink RX5 7 "PrintRacksModel" "all" "[I", Cond.methodLink RX5 109 yX5_mostNeeded, Cond.instanceMethod yX5_mostNeeded, Cond.selects RX5 yX5_mostNeeded yX5_mostNeeded, Cond.initialized RX5, Cond.code yX5_mostNeeded cX5_mostNeeded 3 (some .int), Cond.methodLink RX5 69 yX5_racksOf, Cond.instanceMethod yX5_racksOf, Cond.selects RX5 yX5_racksOf yX5_racksOf, Cond.code yX5_racksOf cX5_racksOf 2 (some .int), Cond.methodLink RX5 48 yX5_its, Cond.instanceMethod yX5_its, Cond.selects RX5 yX5_its yX5_its, Cond.code yX5_its cX5_its 3 (some .int), Cond.methodLink RX5 52 yX5_racksFor, Cond.instanceMethod yX5_racksFor, Cond.selects RX5 yX5_racksFor yX5_racksFor, Cond.code yX5_racksFor cX5_racksFor 2 (some .int), Cond.methodLink RX5 87 yX5_prints, Cond.instanceMethod yX5_prints, Cond.selects RX5 yX5_prints yX5_prints, Cond.code yX5_prints cX5_prints 5 none, Cond.fieldLink RX5 25 "PrintRacksModel" "begins" "[I", Cond.fieldLink RX5 28 "PrintRacksModel" "printed" "[I"]
def wsX5_leastRacks_r2 : List Cond := [Cond.methodLink RX5 72 yX5_readyFor, Cond.instanceMethod yX5_readyFor, Cond.selects RX5 yX5_readyFor yX5_readyFor, Cond.code yX5_readyFor cX5_readyFor 2 (some .int), Cond.methodLink RX5 60 yX5_plateFor, Cond.instanceMethod yX5_plateFor, Cond.selects RX5 yX5_plateFor yX5_plateFor, Cond.code yX5_plateFor cX5_plateFor 2 (some .int), Cond.methodLink RX5 63 yX5_washFor, Cond.instanceMethod yX5_washFor, Cond.selects RX5 yX5_washFor yX5_washFor, Cond.code yX5_washFor cX5_washFor 3 (some .int), Cond.methodLink RX5 75 yX5_taken, Cond.instanceMethod yX5_taken, Cond.selects RX5 yX5_taken yX5_taken, Cond.code yX5_taken cX5_taken 5 (some .int), Cond.methodLink RX5 66 yX5_dry, Cond.instanceMethod yX5_dry, Cond.selects RX5 yX5_dry yX5_dry, Cond.code yX5_dry cX5_dry 2 (some .int), Cond.methodLink RX5 90 yX5_sumOf, Cond.instanceMethod yX5_sumOf, Cond.selects RX5 yX5_sumOf yX5_sumOf, Cond.code yX5_sumOf cX5_sumOf 4 (some .int)]
def wsX5_leastRacks_r3 : List Cond := [Cond.methodLink RX5 78 yX5_late, Cond.instanceMethod yX5_late, Cond.selects RX5 yX5_late yX5_late, Cond.code yX5_late cX5_late 3 (some .int), Cond.methodLink RX5 81 yX5_isOther, Cond.instanceMethod yX5_isOther, Cond.selects RX5 yX5_isOther yX5_isOther, Cond.code yX5_isOther cX5_isOther 2 (some .int), Cond.methodLink RX5 84 yX5_waits, Cond.instanceMethod yX5_waits, Cond.selects RX5 yX5_waits yX5_waits, Cond.code yX5_waits cX5_waits 2 (some .int)]
def wsX5_leastRacks : List Cond := .code yX5_leastRacks cX5_leastRacks 4 (some .int) :: ((wsX5_leastRacks_r1 ++ (wsX5_leastRacks_r2 ++ wsX5_leastRacks_r3)) ++ wsX50)
def wsX5_charactersOf : List Cond := .code yX5_charactersOf cX5_charactersOf 5 (some .int) :: ([.constantLong RX5 159 (255), .constantLong RX5 161 (33), .constantLong RX5 163 (126), .methodLink RX5 44 yX5_in, .static yX5_in, .initialized RX5, .code yX5_in cX5_in 6 (some .boolean)])
def wsX5_put : List Cond := .code yX5_put cX5_put 5 (some .int) :: ([.fieldLink RX5 144 "PrintRacksModel" "textLong" "I", .fieldLink RX5 34 "PrintRacksModel" "text" "[I", .constantLong RX5 159 (255), .methodLink RX5 165 yX5_charactersOf, .static yX5_charactersOf, .initialized RX5, .code yX5_charactersOf cX5_charactersOf 5 (some .int), .constantLong RX5 161 (33), .constantLong RX5 163 (126), .methodLink RX5 44 yX5_in, .static yX5_in, .code yX5_in cX5_in 6 (some .boolean)] ++ wsX50)
def wsX5_wipe : List Cond := .code yX5_wipe cX5_wipe 2 (some .int) :: ([.fieldLink RX5 144 "PrintRacksModel" "textLong" "I"] ++ wsX50)
def wsX5_isHere : List Cond := .code yX5_isHere cX5_isHere 3 (some .boolean) :: ([.fieldLink RX5 169 "PrintRacksModel" "spot" "I", .fieldLink RX5 144 "PrintRacksModel" "textLong" "I", .fieldLink RX5 34 "PrintRacksModel" "text" "[I", .methodLink RX5 44 yX5_in, .static yX5_in, .initialized RX5, .code yX5_in cX5_in 6 (some .boolean)] ++ wsX50)
def wsX5_takesOne : List Cond := .code yX5_takesOne cX5_takesOne 3 (some .boolean) :: ([.fieldLink RX5 169 "PrintRacksModel" "spot" "I", .methodLink RX5 172 yX5_isHere, .instanceMethod yX5_isHere, .selects RX5 yX5_isHere yX5_isHere, .initialized RX5, .code yX5_isHere cX5_isHere 3 (some .boolean), .fieldLink RX5 144 "PrintRacksModel" "textLong" "I", .fieldLink RX5 34 "PrintRacksModel" "text" "[I", .methodLink RX5 44 yX5_in, .static yX5_in, .code yX5_in cX5_in 6 (some .boolean)] ++ wsX50)
def wsX5_readsNumber : List Cond := .code yX5_readsNumber cX5_readsNumber 6 (some .boolean) :: ([.fieldLink RX5 34 "PrintRacksModel" "text" "[I", .fieldLink RX5 169 "PrintRacksModel" "spot" "I", .fieldLink RX5 37 "PrintRacksModel" "told" "[I", .fieldLink RX5 178 "PrintRacksModel" "read" "I", .methodLink RX5 175 yX5_takesOne, .instanceMethod yX5_takesOne, .selects RX5 yX5_takesOne yX5_takesOne, .initialized RX5, .code yX5_takesOne cX5_takesOne 3 (some .boolean), .methodLink RX5 172 yX5_isHere, .instanceMethod yX5_isHere, .selects RX5 yX5_isHere yX5_isHere, .code yX5_isHere cX5_isHere 3 (some .boolean), .fieldLink RX5 144 "PrintRacksModel" "textLong" "I", .methodLink RX5 44 yX5_in, .static yX5_in, .code yX5_in cX5_in 6 (some .boolean)] ++ wsX50)
def wsX5_readsJob : List Cond := .code yX5_readsJob cX5_readsJob 2 (some .boolean) :: ([.fieldLink RX5 37 "PrintRacksModel" "told" "[I", .fieldLink RX5 178 "PrintRacksModel" "read" "I", .methodLink RX5 181 yX5_readsNumber, .instanceMethod yX5_readsNumber, .selects RX5 yX5_readsNumber yX5_readsNumber, .initialized RX5, .code yX5_readsNumber cX5_readsNumber 6 (some .boolean), .fieldLink RX5 34 "PrintRacksModel" "text" "[I", .fieldLink RX5 169 "PrintRacksModel" "spot" "I", .methodLink RX5 175 yX5_takesOne, .instanceMethod yX5_takesOne, .selects RX5 yX5_takesOne yX5_takesOne, .code yX5_takesOne cX5_takesOne 3 (some .boolean), .methodLink RX5 172 yX5_isHere, .instanceMethod yX5_isHere, .selects RX5 yX5_isHere yX5_isHere, .code yX5_isHere cX5_isHere 3 (some .boolean), .fieldLink RX5 144 "PrintRacksModel" "textLong" "I", .methodLink RX5 44 yX5_in, .static yX5_in, .code yX5_in cX5_in 6 (some .boolean)] ++ wsX50)
def wsX5_fault_r1 : List Cond := [Cond.fieldLink RX5 169 "PrintRacksModel" "spot" "I", Cond.fieldLink RX5 178 "PrintRacksModel" "read" "I", Cond.fieldLink RX5 144 "PrintRacksModel" "textLong" "I", Cond.methodLink RX5 185 yX5_readsJob, Cond.instanceMethod yX5_readsJob, Cond.selects RX5 yX5_readsJob yX5_readsJob, Cond.initialized RX5, Cond.code yX5_readsJob cX5_readsJob 2 (some .boolean), Cond.fieldLink RX5 37 "PrintRacksModel" "told" "[I", Cond.methodLink RX5 181 yX5_readsNumber, Cond.instanceMethod yX5_readsNumber, Cond.selects RX5 yX5_readsNumber yX5_readsNumber, Cond.code yX5_readsNumber cX5_readsNumber 6 (some .boolean), Cond.fieldLink RX5 34 "PrintRacksModel" "text" "[I", Cond.methodLink RX5 175 yX5_takesOne, Cond.instanceMethod yX5_takesOne, Cond.selects RX5 yX5_takesOne yX5_takesOne, Cond.code yX5_takesOne cX5_takesOne 3 (some .boolean), Cond.methodLink RX5 172 yX5_isHere, Cond.instanceMethod yX5_isHere, Cond.selects RX5 yX5_isHere yX5_isHere, Cond.code yX5_isHere cX5_isHere 3 (some .boolean), Cond.methodLink RX5 44 yX5_in, Cond.static yX5_in]
def wsX5_fault_r2 : List Cond := [Cond.code yX5_in cX5_in 6 (some .boolean)]
def wsX5_fault : List Cond := .code yX5_fault cX5_fault 2 (some .int) :: ((wsX5_fault_r1 ++ wsX5_fault_r2) ++ wsX50)
def wsX5_read_r1 : List Cond := [Cond.fieldLink RX5 178 "PrintRacksModel" "read" "I", Cond.fieldLink RX5 37 "PrintRacksModel" "told" "[I", Cond.fieldLink RX5 7 "PrintRacksModel" "all" "[I", Cond.fieldLink RX5 144 "PrintRacksModel" "textLong" "I", Cond.methodLink RX5 189 yX5_fault, Cond.instanceMethod yX5_fault, Cond.selects RX5 yX5_fault yX5_fault, Cond.initialized RX5, Cond.code yX5_fault cX5_fault 2 (some .int), Cond.fieldLink RX5 169 "PrintRacksModel" "spot" "I", Cond.methodLink RX5 185 yX5_readsJob, Cond.instanceMethod yX5_readsJob, Cond.selects RX5 yX5_readsJob yX5_readsJob, Cond.code yX5_readsJob cX5_readsJob 2 (some .boolean), Cond.methodLink RX5 181 yX5_readsNumber, Cond.instanceMethod yX5_readsNumber, Cond.selects RX5 yX5_readsNumber yX5_readsNumber, Cond.code yX5_readsNumber cX5_readsNumber 6 (some .boolean), Cond.fieldLink RX5 34 "PrintRacksModel" "text" "[I", Cond.methodLink RX5 175 yX5_takesOne, Cond.instanceMethod yX5_takesOne, Cond.selects RX5 yX5_takesOne yX5_takesOne, Cond.code yX5_takesOne cX5_takesOne 3 (some .boolean), Cond.methodLink RX5 172 yX5_isHere]
def wsX5_read_r2 : List Cond := [Cond.instanceMethod yX5_isHere, Cond.selects RX5 yX5_isHere yX5_isHere, Cond.code yX5_isHere cX5_isHere 3 (some .boolean), Cond.methodLink RX5 44 yX5_in, Cond.static yX5_in, Cond.code yX5_in cX5_in 6 (some .boolean), Cond.methodLink RX5 52 yX5_racksFor, Cond.instanceMethod yX5_racksFor, Cond.selects RX5 yX5_racksFor yX5_racksFor, Cond.code yX5_racksFor cX5_racksFor 2 (some .int), Cond.methodLink RX5 113 yX5_changes, Cond.instanceMethod yX5_changes, Cond.selects RX5 yX5_changes yX5_changes, Cond.code yX5_changes cX5_changes 2 none, Cond.fieldLink RX5 40 "PrintRacksModel" "historyLong" "I", Cond.fieldLink RX5 16 "PrintRacksModel" "history" "[I", Cond.methodLink RX5 118 yX5_puts, Cond.instanceMethod yX5_puts, Cond.selects RX5 yX5_puts yX5_puts, Cond.code yX5_puts cX5_puts 6 none]
def wsX5_read : List Cond := .code yX5_read cX5_read 2 (some .int) :: ((wsX5_read_r1 ++ wsX5_read_r2) ++ wsX50)
def wsX5_undo : List Cond := .code yX5_undo cX5_undo 2 (some .int) :: ([.fieldLink RX5 40 "PrintRacksModel" "historyLong" "I", .fieldLink RX5 7 "PrintRacksModel" "all" "[I", .fieldLink RX5 16 "PrintRacksModel" "history" "[I"] ++ wsX50)
def wsX5_isSlot : List Cond := .code yX5_isSlot cX5_isSlot 1 (some .boolean) :: ([])
def wsX5_save : List Cond := .code yX5_save cX5_save 3 (some .int) :: ([.fieldLink RX5 19 "PrintRacksModel" "slots" "[I", .fieldLink RX5 7 "PrintRacksModel" "all" "[I", .fieldLink RX5 22 "PrintRacksModel" "isSaved" "[I", .methodLink RX5 192 yX5_isSlot, .static yX5_isSlot, .initialized RX5, .code yX5_isSlot cX5_isSlot 1 (some .boolean)] ++ wsX50)
def wsX5_restore : List Cond := .code yX5_restore cX5_restore 3 (some .int) :: ([.fieldLink RX5 22 "PrintRacksModel" "isSaved" "[I", .fieldLink RX5 7 "PrintRacksModel" "all" "[I", .fieldLink RX5 19 "PrintRacksModel" "slots" "[I", .methodLink RX5 192 yX5_isSlot, .static yX5_isSlot, .initialized RX5, .code yX5_isSlot cX5_isSlot 1 (some .boolean), .methodLink RX5 113 yX5_changes, .instanceMethod yX5_changes, .selects RX5 yX5_changes yX5_changes, .code yX5_changes cX5_changes 2 none, .fieldLink RX5 40 "PrintRacksModel" "historyLong" "I", .fieldLink RX5 16 "PrintRacksModel" "history" "[I"] ++ wsX50)
def wsJ9_max_7cf53 : List Cond := .code yJ9_max_7cf53 cJ9_max_7cf53 2 (some .int) :: ([])
def wsJ9_min_7cf53 : List Cond := .code yJ9_min_7cf53 cJ9_min_7cf53 2 (some .int) :: ([])
def wsL_law_r1 : List Cond := [Cond.classLink RL 7 RX4, Cond.instantiable RX4 7, Cond.initialized RX4, Cond.classLink RL 10 RX5, Cond.instantiable RX5 14, Cond.initialized RX5, Cond.constantLong RL 73 (4294967295), Cond.methodLink RL 9 yX4_init, Cond.instanceMethod yX4_init, Cond.code yX4_init cX4_init 2 none, Cond.methodLink RX4 1 objectInit, Cond.instanceMethod objectInit, Cond.code objectInit ⟨#[0xb1]⟩ 1 none, Cond.classLink RX4 7 RX0, Cond.instantiable RX0 3, Cond.initialized RX0, Cond.fieldLink RX4 10 "PrintRacks" "board" "LPrintRacks$Board;", Cond.fieldLink RX4 16 "PrintRacks" "trial" "LPrintRacks$Board;", Cond.classLink RX4 19 RX3, Cond.instantiable RX3 18, Cond.initialized RX3, Cond.fieldLink RX4 22 "PrintRacks" "press" "LPrintRacks$Press;", Cond.classLink RX4 26 RX2, Cond.instantiable RX2 8]
def wsL_law_r2 : List Cond := [Cond.initialized RX2, Cond.fieldLink RX4 29 "PrintRacks" "pad" "LPrintRacks$Pad;", Cond.classLink RX4 33 RX1, Cond.instantiable RX1 3, Cond.initialized RX1, Cond.fieldLink RX4 36 "PrintRacks" "history" "LPrintRacks$History;", Cond.fieldLink RX4 40 "PrintRacks" "slots" "[LPrintRacks$Board;", Cond.arrayClass .boolean, Cond.fieldLink RX4 44 "PrintRacks" "saved" "[Z", Cond.methodLink RX4 9 yX0_init, Cond.instanceMethod yX0_init, Cond.code yX0_init cX0_init 1 none, Cond.methodLink RX0 3 objectInit, Cond.arrayClass .int, Cond.fieldLink RX0 9 "PrintRacks$Board" "settings" "[I", Cond.methodLink RX0 18 arraycopyName, Cond.native arraycopyName, Cond.static arraycopyName, Cond.initialized "java/lang/System", Cond.classLink RX0 24 "[[I", Cond.fieldLink RX0 26 "PrintRacks$Board" "fields" "[[I", Cond.instanceMethod yX3_init, Cond.code yX3_init cX3_init 1 none, Cond.methodLink RX3 3 objectInit]
def wsL_law_r3 : List Cond := [Cond.fieldLink RX3 9 "PrintRacks$Press" "racks" "[I", Cond.fieldLink RX3 15 "PrintRacks$Press" "wash" "[I", Cond.fieldLink RX3 18 "PrintRacks$Press" "ready" "[I", Cond.fieldLink RX3 21 "PrintRacks$Press" "waits" "[I", Cond.fieldLink RX3 24 "PrintRacks$Press" "begins" "[I", Cond.fieldLink RX3 27 "PrintRacks$Press" "printed" "[I", Cond.fieldLink RX3 30 "PrintRacks$Press" "dry" "[I", Cond.fieldLink RX3 33 "PrintRacks$Press" "late" "[I", Cond.instanceMethod yX2_init, Cond.code yX2_init cX2_init 1 none, Cond.methodLink RX2 3 objectInit, Cond.classLink RX2 9 RX0, Cond.fieldLink RX2 12 "PrintRacks$Pad" "found" "LPrintRacks$Board;", Cond.fieldLink RX2 18 "PrintRacks$Pad" "codes" "[I", Cond.methodLink RX2 11 yX0_init, Cond.methodLink RX4 35 yX1_init, Cond.instanceMethod yX1_init, Cond.code yX1_init cX1_init 2 none, Cond.methodLink RX1 3 objectInit, Cond.classLink RX1 9 RX0, Cond.fieldLink RX1 11 "PrintRacks$History" "states" "[LPrintRacks$Board;", Cond.methodLink RX1 17 yX0_init, Cond.methodLink RL 12 yX5_init, Cond.instanceMethod yX5_init]
def wsL_law_r4 : List Cond := [Cond.code yX5_init cX5_init 1 none, Cond.methodLink RX5 1 objectInit, Cond.fieldLink RX5 7 "PrintRacksModel" "all" "[I", Cond.fieldLink RX5 13 "PrintRacksModel" "kept" "[I", Cond.fieldLink RX5 16 "PrintRacksModel" "history" "[I", Cond.fieldLink RX5 19 "PrintRacksModel" "slots" "[I", Cond.fieldLink RX5 22 "PrintRacksModel" "isSaved" "[I", Cond.fieldLink RX5 25 "PrintRacksModel" "begins" "[I", Cond.fieldLink RX5 28 "PrintRacksModel" "printed" "[I", Cond.fieldLink RX5 31 "PrintRacksModel" "from" "[I", Cond.fieldLink RX5 34 "PrintRacksModel" "text" "[I", Cond.fieldLink RX5 37 "PrintRacksModel" "told" "[I", Cond.methodLink RL 13 yX4_set, Cond.instanceMethod yX4_set, Cond.selects RX4 yX4_set yX4_set, Cond.code yX4_set cX4_set 6 (some .int), Cond.fieldLink RX4 52 "PrintRacks" "LEAST_SETTING" "[I", Cond.fieldLink RX4 56 "PrintRacks" "MOST_SETTING" "[I", Cond.fieldLink RX4 59 "PrintRacks$Board" "settings" "[I", Cond.methodLink RX4 48 yX4_within, Cond.static yX4_within, Cond.code yX4_within cX4_within 3 (some .boolean), Cond.methodLink RX4 62 yX0_mostRacksNeeded, Cond.instanceMethod yX0_mostRacksNeeded]
def wsL_law_r5 : List Cond := [Cond.selects RX0 yX0_mostRacksNeeded yX0_mostRacksNeeded, Cond.code yX0_mostRacksNeeded cX0_mostRacksNeeded 4 (some .int), Cond.fieldLink RX0 29 "PrintRacks$Board" "jobs" "I", Cond.methodLink RX0 52 Lib.Math.max.name, Cond.static Lib.Math.max.name, Cond.initialized "java/lang/Math", Cond.code Lib.Math.max.name Lib.Math.max.code 2 (some .int), Cond.static yX4_racksFor, Cond.code yX4_racksFor cX4_racksFor 2 (some .int), Cond.methodLink RX4 66 yX1_remember, Cond.instanceMethod yX1_remember, Cond.selects RX1 yX1_remember yX1_remember, Cond.code yX1_remember cX1_remember 2 none, Cond.fieldLink RX1 18 "PrintRacks$History" "next" "I", Cond.fieldLink RX1 26 "PrintRacks$History" "kept" "I", Cond.methodLink RX1 29 Lib.Math.min.name, Cond.static Lib.Math.min.name, Cond.code Lib.Math.min.name Lib.Math.min.code 2 (some .int), Cond.methodLink RX1 22 yX0_copyFrom, Cond.instanceMethod yX0_copyFrom, Cond.selects RX0 yX0_copyFrom yX0_copyFrom, Cond.code yX0_copyFrom cX0_copyFrom 3 none, Cond.methodLink RL 17 yX5_set, Cond.instanceMethod yX5_set]
def wsL_law_r6 : List Cond := [Cond.selects RX5 yX5_set yX5_set, Cond.code yX5_set cX5_set 5 (some .int), Cond.methodLink RX5 105 yX5_isSetting, Cond.static yX5_isSetting, Cond.code yX5_isSetting cX5_isSetting 2 (some .boolean), Cond.constantLong RX5 93 (60), Cond.constantLong RX5 95 (9), Cond.constantLong RX5 97 (20), Cond.constantLong RX5 99 (500), Cond.constantLong RX5 101 (4), Cond.constantLong RX5 103 (10), Cond.methodLink RX5 44 yX5_in, Cond.static yX5_in, Cond.code yX5_in cX5_in 6 (some .boolean), Cond.methodLink RX5 109 yX5_mostNeeded, Cond.instanceMethod yX5_mostNeeded, Cond.selects RX5 yX5_mostNeeded yX5_mostNeeded, Cond.code yX5_mostNeeded cX5_mostNeeded 3 (some .int), Cond.methodLink RX5 69 yX5_racksOf, Cond.instanceMethod yX5_racksOf, Cond.selects RX5 yX5_racksOf yX5_racksOf, Cond.code yX5_racksOf cX5_racksOf 2 (some .int), Cond.methodLink RX5 48 yX5_its, Cond.instanceMethod yX5_its]
def wsL_law_r7 : List Cond := [Cond.selects RX5 yX5_its yX5_its, Cond.code yX5_its cX5_its 3 (some .int), Cond.methodLink RX5 52 yX5_racksFor, Cond.instanceMethod yX5_racksFor, Cond.selects RX5 yX5_racksFor yX5_racksFor, Cond.code yX5_racksFor cX5_racksFor 2 (some .int), Cond.methodLink RX5 113 yX5_changes, Cond.instanceMethod yX5_changes, Cond.selects RX5 yX5_changes yX5_changes, Cond.code yX5_changes cX5_changes 2 none, Cond.fieldLink RX5 40 "PrintRacksModel" "historyLong" "I", Cond.methodLink RL 18 yX4_job, Cond.instanceMethod yX4_job, Cond.selects RX4 yX4_job yX4_job, Cond.code yX4_job cX4_job 5 (some .int), Cond.fieldLink RX4 74 "PrintRacks$Board" "jobs" "I", Cond.methodLink RX4 70 yX4_racksFor, Cond.methodLink RX4 78 yX0_append, Cond.instanceMethod yX0_append, Cond.selects RX0 yX0_append yX0_append, Cond.code yX0_append cX0_append 5 none, Cond.methodLink RL 22 yX5_job, Cond.instanceMethod yX5_job, Cond.selects RX5 yX5_job yX5_job]
def wsL_law_r8 : List Cond := [Cond.code yX5_job cX5_job 5 (some .int), Cond.constantLong RX5 116 (3000), Cond.methodLink RX5 118 yX5_puts, Cond.instanceMethod yX5_puts, Cond.selects RX5 yX5_puts yX5_puts, Cond.code yX5_puts cX5_puts 6 none, Cond.methodLink RL 23 yX4_read, Cond.instanceMethod yX4_read, Cond.selects RX4 yX4_read yX4_read, Cond.code yX4_read cX4_read 1 (some .int), Cond.fieldLink RX4 86 "PrintRacks$Pad" "found" "LPrintRacks$Board;", Cond.fieldLink RX4 92 "PrintRacks$Pad" "length" "I", Cond.methodLink RX4 82 yX2_parse, Cond.instanceMethod yX2_parse, Cond.selects RX2 yX2_parse yX2_parse, Cond.code yX2_parse cX2_parse 2 (some .int), Cond.fieldLink RX2 26 "PrintRacks$Board" "jobs" "I", Cond.fieldLink RX2 29 "PrintRacks$Pad" "expected" "I", Cond.fieldLink RX2 22 "PrintRacks$Pad" "length" "I", Cond.methodLink RX2 32 yX2_takes, Cond.instanceMethod yX2_takes, Cond.selects RX2 yX2_takes yX2_takes, Cond.code yX2_takes cX2_takes 3 (some .boolean), Cond.fieldLink RX2 47 "PrintRacks$Pad" "plate" "I"]
def wsL_law_r9 : List Cond := [Cond.fieldLink RX2 50 "PrintRacks$Pad" "shade" "I", Cond.fieldLink RX2 53 "PrintRacks$Pad" "hundreds" "I", Cond.fieldLink RX2 56 "PrintRacks$Pad" "dueTime" "I", Cond.methodLink RX2 43 yX2_takesLetter, Cond.instanceMethod yX2_takesLetter, Cond.selects RX2 yX2_takesLetter yX2_takesLetter, Cond.code yX2_takesLetter cX2_takesLetter 3 (some .boolean), Cond.methodLink RX2 59 yX2_takesBehindHundreds, Cond.instanceMethod yX2_takesBehindHundreds, Cond.selects RX2 yX2_takesBehindHundreds yX2_takesBehindHundreds, Cond.code yX2_takesBehindHundreds cX2_takesBehindHundreds 3 (some .boolean), Cond.methodLink RX2 66 yX2_takesEndOfJob, Cond.instanceMethod yX2_takesEndOfJob, Cond.selects RX2 yX2_takesEndOfJob yX2_takesEndOfJob, Cond.code yX2_takesEndOfJob cX2_takesEndOfJob 2 (some .boolean), Cond.methodLink RX2 36 yX2_endJob, Cond.instanceMethod yX2_endJob, Cond.selects RX2 yX2_endJob yX2_endJob, Cond.code yX2_endJob cX2_endJob 1 none, Cond.methodLink RX2 69 yX0_append, Cond.methodLink RX2 63 yX2_takesBehindDue, Cond.instanceMethod yX2_takesBehindDue, Cond.selects RX2 yX2_takesBehindDue yX2_takesBehindDue, Cond.code yX2_takesBehindDue cX2_takesBehindDue 4 (some .boolean)]
def wsL_law_r10 : List Cond := [Cond.methodLink RX4 89 yX0_appendAll, Cond.instanceMethod yX0_appendAll, Cond.selects RX0 yX0_appendAll yX0_appendAll, Cond.code yX0_appendAll cX0_appendAll 3 none, Cond.methodLink RX0 33 yX0_append, Cond.methodLink RL 27 yX5_read, Cond.instanceMethod yX5_read, Cond.selects RX5 yX5_read yX5_read, Cond.code yX5_read cX5_read 2 (some .int), Cond.fieldLink RX5 178 "PrintRacksModel" "read" "I", Cond.fieldLink RX5 144 "PrintRacksModel" "textLong" "I", Cond.methodLink RX5 189 yX5_fault, Cond.instanceMethod yX5_fault, Cond.selects RX5 yX5_fault yX5_fault, Cond.code yX5_fault cX5_fault 2 (some .int), Cond.fieldLink RX5 169 "PrintRacksModel" "spot" "I", Cond.methodLink RX5 185 yX5_readsJob, Cond.instanceMethod yX5_readsJob, Cond.selects RX5 yX5_readsJob yX5_readsJob, Cond.code yX5_readsJob cX5_readsJob 2 (some .boolean), Cond.methodLink RX5 181 yX5_readsNumber, Cond.instanceMethod yX5_readsNumber, Cond.selects RX5 yX5_readsNumber yX5_readsNumber, Cond.code yX5_readsNumber cX5_readsNumber 6 (some .boolean)]
def wsL_law_r11 : List Cond := [Cond.methodLink RX5 175 yX5_takesOne, Cond.instanceMethod yX5_takesOne, Cond.selects RX5 yX5_takesOne yX5_takesOne, Cond.code yX5_takesOne cX5_takesOne 3 (some .boolean), Cond.methodLink RX5 172 yX5_isHere, Cond.instanceMethod yX5_isHere, Cond.selects RX5 yX5_isHere yX5_isHere, Cond.code yX5_isHere cX5_isHere 3 (some .boolean), Cond.methodLink RL 28 yX4_drop, Cond.instanceMethod yX4_drop, Cond.selects RX4 yX4_drop yX4_drop, Cond.code yX4_drop cX4_drop 2 (some .int), Cond.methodLink RX4 95 yX4_isJob, Cond.instanceMethod yX4_isJob, Cond.selects RX4 yX4_isJob yX4_isJob, Cond.code yX4_isJob cX4_isJob 2 (some .boolean), Cond.methodLink RX4 99 yX0_remove, Cond.instanceMethod yX0_remove, Cond.selects RX0 yX0_remove yX0_remove, Cond.code yX0_remove cX0_remove 2 none, Cond.methodLink RX0 37 yX0_shift, Cond.instanceMethod yX0_shift, Cond.selects RX0 yX0_shift yX0_shift, Cond.code yX0_shift cX0_shift 9 none]
def wsL_law_r12 : List Cond := [Cond.methodLink RL 32 yX5_drop, Cond.instanceMethod yX5_drop, Cond.selects RX5 yX5_drop yX5_drop, Cond.code yX5_drop cX5_drop 3 (some .int), Cond.methodLink RX5 122 yX5_isJob, Cond.instanceMethod yX5_isJob, Cond.selects RX5 yX5_isJob yX5_isJob, Cond.code yX5_isJob cX5_isJob 2 (some .boolean), Cond.methodLink RX5 126 yX5_moves, Cond.instanceMethod yX5_moves, Cond.selects RX5 yX5_moves yX5_moves, Cond.code yX5_moves cX5_moves 5 none, Cond.methodLink RX5 56 yX5_exchanges, Cond.instanceMethod yX5_exchanges, Cond.selects RX5 yX5_exchanges yX5_exchanges, Cond.code yX5_exchanges cX5_exchanges 5 none, Cond.methodLink RL 33 yX4_move, Cond.instanceMethod yX4_move, Cond.selects RX4 yX4_move yX4_move, Cond.code yX4_move cX4_move 3 (some .int), Cond.methodLink RX4 103 yX0_shift, Cond.methodLink RX4 107 yX4_lateSumOf, Cond.instanceMethod yX4_lateSumOf, Cond.selects RX4 yX4_lateSumOf yX4_lateSumOf]
def wsL_law_r13 : List Cond := [Cond.code yX4_lateSumOf cX4_lateSumOf 2 (some .int), Cond.fieldLink RX4 163 "PrintRacks$Press" "lateSum" "I", Cond.methodLink RX4 115 yX3_print, Cond.instanceMethod yX3_print, Cond.selects RX3 yX3_print yX3_print, Cond.code yX3_print cX3_print 4 none, Cond.fieldLink RX3 39 "PrintRacks$Board" "jobs" "I", Cond.fieldLink RX3 45 "PrintRacks$Press" "jobs" "I", Cond.methodLink RX3 36 yX3_clear, Cond.instanceMethod yX3_clear, Cond.selects RX3 yX3_clear yX3_clear, Cond.code yX3_clear cX3_clear 1 none, Cond.fieldLink RX3 57 "PrintRacks$Press" "lateJobs" "I", Cond.fieldLink RX3 60 "PrintRacks$Press" "lateSum" "I", Cond.fieldLink RX3 63 "PrintRacks$Press" "mostLate" "I", Cond.fieldLink RX3 66 "PrintRacks$Press" "washSum" "I", Cond.fieldLink RX3 69 "PrintRacks$Press" "platesPutOn" "I", Cond.fieldLink RX3 72 "PrintRacks$Press" "waitSum" "I", Cond.fieldLink RX3 75 "PrintRacks$Press" "mostTaken" "I", Cond.fieldLink RX3 78 "PrintRacks$Press" "taken" "I", Cond.fieldLink RX3 81 "PrintRacks$Press" "oldestDrying" "I", Cond.methodLink RX3 46 yX3_makeReady, Cond.instanceMethod yX3_makeReady, Cond.selects RX3 yX3_makeReady yX3_makeReady]
def wsL_law_r14 : List Cond := [Cond.code yX3_makeReady cX3_makeReady 4 none, Cond.fieldLink RX3 84 "PrintRacks$Board" "fields" "[[I", Cond.fieldLink RX3 92 "PrintRacks$Board" "settings" "[I", Cond.methodLink RX3 88 yX3_washAhead, Cond.static yX3_washAhead, Cond.code yX3_washAhead cX3_washAhead 3 (some .int), Cond.methodLink RX3 50 yX3_printJob, Cond.instanceMethod yX3_printJob, Cond.selects RX3 yX3_printJob yX3_printJob, Cond.code yX3_printJob cX3_printJob 7 none, Cond.methodLink RX3 99 yX3_whenRacksAreFree, Cond.instanceMethod yX3_whenRacksAreFree, Cond.selects RX3 yX3_whenRacksAreFree yX3_whenRacksAreFree, Cond.code yX3_whenRacksAreFree cX3_whenRacksAreFree 5 (some .int), Cond.methodLink RX3 103 Lib.Math.max.name, Cond.methodLink RX3 54 yX3_dryJob, Cond.instanceMethod yX3_dryJob, Cond.selects RX3 yX3_dryJob yX3_dryJob, Cond.code yX3_dryJob cX3_dryJob 3 none, Cond.methodLink RL 36 yX5_move, Cond.instanceMethod yX5_move, Cond.selects RX5 yX5_move yX5_move, Cond.code yX5_move cX5_move 3 (some .int), Cond.methodLink RX5 129 yX5_lateAll]
def wsL_law_r15 : List Cond := [Cond.instanceMethod yX5_lateAll, Cond.selects RX5 yX5_lateAll yX5_lateAll, Cond.code yX5_lateAll cX5_lateAll 1 (some .int), Cond.methodLink RX5 87 yX5_prints, Cond.instanceMethod yX5_prints, Cond.selects RX5 yX5_prints yX5_prints, Cond.code yX5_prints cX5_prints 5 none, Cond.methodLink RX5 72 yX5_readyFor, Cond.instanceMethod yX5_readyFor, Cond.selects RX5 yX5_readyFor yX5_readyFor, Cond.code yX5_readyFor cX5_readyFor 2 (some .int), Cond.methodLink RX5 60 yX5_plateFor, Cond.instanceMethod yX5_plateFor, Cond.selects RX5 yX5_plateFor yX5_plateFor, Cond.code yX5_plateFor cX5_plateFor 2 (some .int), Cond.methodLink RX5 63 yX5_washFor, Cond.instanceMethod yX5_washFor, Cond.selects RX5 yX5_washFor yX5_washFor, Cond.code yX5_washFor cX5_washFor 3 (some .int), Cond.methodLink RX5 75 yX5_taken, Cond.instanceMethod yX5_taken, Cond.selects RX5 yX5_taken yX5_taken, Cond.code yX5_taken cX5_taken 5 (some .int), Cond.methodLink RX5 66 yX5_dry]
def wsL_law_r16 : List Cond := [Cond.instanceMethod yX5_dry, Cond.selects RX5 yX5_dry yX5_dry, Cond.code yX5_dry cX5_dry 2 (some .int), Cond.methodLink RX5 90 yX5_sumOf, Cond.instanceMethod yX5_sumOf, Cond.selects RX5 yX5_sumOf yX5_sumOf, Cond.code yX5_sumOf cX5_sumOf 4 (some .int), Cond.methodLink RX5 78 yX5_late, Cond.instanceMethod yX5_late, Cond.selects RX5 yX5_late yX5_late, Cond.code yX5_late cX5_late 3 (some .int), Cond.methodLink RX5 81 yX5_isOther, Cond.instanceMethod yX5_isOther, Cond.selects RX5 yX5_isOther yX5_isOther, Cond.code yX5_isOther cX5_isOther 2 (some .int), Cond.methodLink RX5 84 yX5_waits, Cond.instanceMethod yX5_waits, Cond.selects RX5 yX5_waits yX5_waits, Cond.code yX5_waits cX5_waits 2 (some .int), Cond.methodLink RL 37 yX4_due, Cond.instanceMethod yX4_due, Cond.selects RX4 yX4_due yX4_due, Cond.code yX4_due cX4_due 3 (some .int), Cond.fieldLink RX4 111 "PrintRacks$Board" "fields" "[[I"]
def wsL_law_r17 : List Cond := [Cond.fieldLink RX4 119 "PrintRacks$Press" "late" "[I", Cond.methodLink RL 40 yX5_due, Cond.instanceMethod yX5_due, Cond.selects RX5 yX5_due yX5_due, Cond.code yX5_due cX5_due 3 (some .int), Cond.methodLink RL 41 yX4_order, Cond.instanceMethod yX4_order, Cond.selects RX4 yX4_order yX4_order, Cond.code yX4_order cX4_order 3 (some .int), Cond.fieldLink RX4 122 "PrintRacks" "FIELD_OF_RULE" "[I", Cond.methodLink RX4 125 yX0_arrange, Cond.instanceMethod yX0_arrange, Cond.selects RX0 yX0_arrange yX0_arrange, Cond.code yX0_arrange cX0_arrange 7 (some .int), Cond.methodLink RX0 41 yX0_copyFrom, Cond.methodLink RX0 45 yX0_placeBy, Cond.instanceMethod yX0_placeBy, Cond.selects RX0 yX0_placeBy yX0_placeBy, Cond.code yX0_placeBy cX0_placeBy 6 (some .int), Cond.methodLink RX4 129 yX0_copyFrom, Cond.methodLink RL 44 yX5_order, Cond.instanceMethod yX5_order, Cond.selects RX5 yX5_order yX5_order, Cond.code yX5_order cX5_order 4 (some .int)]
def wsL_law_r18 : List Cond := [Cond.constantLong RX5 135 (3), Cond.methodLink RX5 137 yX5_orders, Cond.instanceMethod yX5_orders, Cond.selects RX5 yX5_orders yX5_orders, Cond.code yX5_orders cX5_orders 5 none, Cond.methodLink RX5 132 yX5_keyOf, Cond.static yX5_keyOf, Cond.code yX5_keyOf cX5_keyOf 1 (some .int), Cond.methodLink RL 45 yX4_jobOf, Cond.instanceMethod yX4_jobOf, Cond.selects RX4 yX4_jobOf yX4_jobOf, Cond.code yX4_jobOf cX4_jobOf 3 (some .int), Cond.fieldLink RX4 132 "PrintRacks$Press" "racks" "[I", Cond.fieldLink RX4 135 "PrintRacks$Press" "begins" "[I", Cond.fieldLink RX4 138 "PrintRacks$Press" "printed" "[I", Cond.fieldLink RX4 141 "PrintRacks$Press" "dry" "[I", Cond.fieldLink RX4 144 "PrintRacks$Press" "waits" "[I", Cond.fieldLink RX4 147 "PrintRacks$Press" "ready" "[I", Cond.fieldLink RX4 150 "PrintRacks$Press" "wash" "[I", Cond.methodLink RL 48 yX5_jobOf, Cond.instanceMethod yX5_jobOf, Cond.selects RX5 yX5_jobOf yX5_jobOf, Cond.code yX5_jobOf cX5_jobOf 3 (some .int), Cond.methodLink RL 49 yX4_count]
def wsL_law_r19 : List Cond := [Cond.instanceMethod yX4_count, Cond.selects RX4 yX4_count yX4_count, Cond.code yX4_count cX4_count 2 (some .int), Cond.fieldLink RX4 160 "PrintRacks$Press" "lateJobs" "I", Cond.fieldLink RX4 166 "PrintRacks$Press" "mostLate" "I", Cond.fieldLink RX4 169 "PrintRacks$Press" "washSum" "I", Cond.fieldLink RX4 172 "PrintRacks$Press" "platesPutOn" "I", Cond.fieldLink RX4 175 "PrintRacks$Press" "waitSum" "I", Cond.fieldLink RX4 178 "PrintRacks$Press" "mostTaken" "I", Cond.fieldLink RX4 181 "PrintRacks$History" "kept" "I", Cond.methodLink RX4 153 yX0_hundredsOfAll, Cond.instanceMethod yX0_hundredsOfAll, Cond.selects RX0 yX0_hundredsOfAll yX0_hundredsOfAll, Cond.code yX0_hundredsOfAll cX0_hundredsOfAll 3 (some .int), Cond.methodLink RX4 156 yX3_lastOf, Cond.instanceMethod yX3_lastOf, Cond.selects RX3 yX3_lastOf yX3_lastOf, Cond.code yX3_lastOf cX3_lastOf 2 (some .int), Cond.methodLink RL 52 yX5_count, Cond.instanceMethod yX5_count, Cond.selects RX5 yX5_count yX5_count, Cond.code yX5_count cX5_count 2 (some .int), Cond.constantLong RX5 147 (6), Cond.methodLink RX5 141 yX5_greatestOf]
def wsL_law_r20 : List Cond := [Cond.instanceMethod yX5_greatestOf, Cond.selects RX5 yX5_greatestOf yX5_greatestOf, Cond.code yX5_greatestOf cX5_greatestOf 5 (some .int), Cond.methodLink RL 53 yX4_at, Cond.instanceMethod yX4_at, Cond.selects RX4 yX4_at yX4_at, Cond.code yX4_at cX4_at 3 (some .int), Cond.constant RX4 184 (99999), Cond.methodLink RX4 185 yX3_jobOnPress, Cond.instanceMethod yX3_jobOnPress, Cond.selects RX3 yX3_jobOnPress yX3_jobOnPress, Cond.code yX3_jobOnPress cX3_jobOnPress 3 (some .int), Cond.methodLink RX4 188 yX3_racksTaken, Cond.instanceMethod yX3_racksTaken, Cond.selects RX3 yX3_racksTaken yX3_racksTaken, Cond.code yX3_racksTaken cX3_racksTaken 4 (some .int), Cond.methodLink RX4 191 yX3_reached, Cond.instanceMethod yX3_reached, Cond.selects RX3 yX3_reached yX3_reached, Cond.code yX3_reached cX3_reached 5 (some .int), Cond.methodLink RL 56 yX5_at, Cond.instanceMethod yX5_at, Cond.selects RX5 yX5_at yX5_at, Cond.code yX5_at cX5_at 5 (some .int)]
def wsL_law_r21 : List Cond := [Cond.constantLong RX5 149 (99999), Cond.methodLink RL 57 yX4_ifOrdered, Cond.instanceMethod yX4_ifOrdered, Cond.selects RX4 yX4_ifOrdered yX4_ifOrdered, Cond.code yX4_ifOrdered cX4_ifOrdered 3 (some .int), Cond.methodLink RL 60 yX5_ifOrdered, Cond.instanceMethod yX5_ifOrdered, Cond.selects RX5 yX5_ifOrdered yX5_ifOrdered, Cond.code yX5_ifOrdered cX5_ifOrdered 4 (some .int), Cond.methodLink RX5 151 yX5_keeps, Cond.instanceMethod yX5_keeps, Cond.selects RX5 yX5_keeps yX5_keeps, Cond.code yX5_keeps cX5_keeps 2 none, Cond.methodLink RX5 154 yX5_comesBack, Cond.instanceMethod yX5_comesBack, Cond.selects RX5 yX5_comesBack yX5_comesBack, Cond.code yX5_comesBack cX5_comesBack 2 none, Cond.methodLink RL 61 yX4_bestExchange, Cond.instanceMethod yX4_bestExchange, Cond.selects RX4 yX4_bestExchange yX4_bestExchange, Cond.code yX4_bestExchange cX4_bestExchange 8 (some .int), Cond.methodLink RX4 195 yX4_lateSumIfExchanged, Cond.instanceMethod yX4_lateSumIfExchanged, Cond.selects RX4 yX4_lateSumIfExchanged yX4_lateSumIfExchanged]
def wsL_law_r22 : List Cond := [Cond.code yX4_lateSumIfExchanged cX4_lateSumIfExchanged 4 (some .int), Cond.methodLink RX4 215 yX0_exchange, Cond.instanceMethod yX0_exchange, Cond.selects RX0 yX0_exchange yX0_exchange, Cond.code yX0_exchange cX0_exchange 8 none, Cond.methodLink RL 64 yX5_bestExchange, Cond.instanceMethod yX5_bestExchange, Cond.selects RX5 yX5_bestExchange yX5_bestExchange, Cond.code yX5_bestExchange cX5_bestExchange 9 (some .int), Cond.constantLong RX5 157 (2), Cond.methodLink RL 65 yX4_bestFirst, Cond.instanceMethod yX4_bestFirst, Cond.selects RX4 yX4_bestFirst yX4_bestFirst, Cond.code yX4_bestFirst cX4_bestFirst 5 (some .int), Cond.methodLink RX4 198 yX4_lateSumIfFirst, Cond.instanceMethod yX4_lateSumIfFirst, Cond.selects RX4 yX4_lateSumIfFirst yX4_lateSumIfFirst, Cond.code yX4_lateSumIfFirst cX4_lateSumIfFirst 3 (some .int), Cond.methodLink RL 68 yX5_bestFirst, Cond.instanceMethod yX5_bestFirst, Cond.selects RX5 yX5_bestFirst yX5_bestFirst, Cond.code yX5_bestFirst cX5_bestFirst 6 (some .int), Cond.methodLink RL 69 yX4_leastRacks, Cond.instanceMethod yX4_leastRacks]
def wsL_law_r23 : List Cond := [Cond.selects RX4 yX4_leastRacks yX4_leastRacks, Cond.code yX4_leastRacks cX4_leastRacks 4 (some .int), Cond.methodLink RX4 201 Lib.Math.max.name, Cond.methodLink RL 72 yX5_leastRacks, Cond.instanceMethod yX5_leastRacks, Cond.selects RX5 yX5_leastRacks yX5_leastRacks, Cond.code yX5_leastRacks cX5_leastRacks 4 (some .int), Cond.methodLink RL 75 yX4_put, Cond.instanceMethod yX4_put, Cond.selects RX4 yX4_put yX4_put, Cond.code yX4_put cX4_put 5 (some .int), Cond.methodLink RX4 206 yX4_charactersIn, Cond.static yX4_charactersIn, Cond.code yX4_charactersIn cX4_charactersIn 5 (some .int), Cond.constantLong RX4 218 (255), Cond.methodLink RX4 210 yX2_append, Cond.instanceMethod yX2_append, Cond.selects RX2 yX2_append yX2_append, Cond.code yX2_append cX2_append 2 none, Cond.methodLink RL 79 yX5_put, Cond.instanceMethod yX5_put, Cond.selects RX5 yX5_put yX5_put, Cond.code yX5_put cX5_put 5 (some .int), Cond.constantLong RX5 159 (255)]
def wsL_law_r24 : List Cond := [Cond.methodLink RX5 165 yX5_charactersOf, Cond.static yX5_charactersOf, Cond.code yX5_charactersOf cX5_charactersOf 5 (some .int), Cond.constantLong RX5 161 (33), Cond.constantLong RX5 163 (126), Cond.methodLink RL 80 yX4_wipe, Cond.instanceMethod yX4_wipe, Cond.selects RX4 yX4_wipe yX4_wipe, Cond.code yX4_wipe cX4_wipe 2 (some .int), Cond.methodLink RL 83 yX5_wipe, Cond.instanceMethod yX5_wipe, Cond.selects RX5 yX5_wipe yX5_wipe, Cond.code yX5_wipe cX5_wipe 2 (some .int), Cond.methodLink RL 84 yX4_fault, Cond.instanceMethod yX4_fault, Cond.selects RX4 yX4_fault yX4_fault, Cond.code yX4_fault cX4_fault 1 (some .int), Cond.methodLink RL 87 yX5_fault, Cond.methodLink RL 88 yX4_undo, Cond.instanceMethod yX4_undo, Cond.selects RX4 yX4_undo yX4_undo, Cond.code yX4_undo cX4_undo 1 (some .int), Cond.methodLink RX4 212 yX1_takeBack, Cond.instanceMethod yX1_takeBack]
def wsL_law_r25 : List Cond := [Cond.selects RX1 yX1_takeBack yX1_takeBack, Cond.code yX1_takeBack cX1_takeBack 2 none, Cond.methodLink RL 91 yX5_undo, Cond.instanceMethod yX5_undo, Cond.selects RX5 yX5_undo yX5_undo, Cond.code yX5_undo cX5_undo 2 (some .int), Cond.methodLink RL 92 yX4_save, Cond.instanceMethod yX4_save, Cond.selects RX4 yX4_save yX4_save, Cond.code yX4_save cX4_save 2 (some .int), Cond.methodLink RL 95 yX5_save, Cond.instanceMethod yX5_save, Cond.selects RX5 yX5_save yX5_save, Cond.code yX5_save cX5_save 3 (some .int), Cond.methodLink RX5 192 yX5_isSlot, Cond.static yX5_isSlot, Cond.code yX5_isSlot cX5_isSlot 1 (some .boolean), Cond.methodLink RL 96 yX4_restore, Cond.instanceMethod yX4_restore, Cond.selects RX4 yX4_restore yX4_restore, Cond.code yX4_restore cX4_restore 2 (some .int), Cond.methodLink RL 99 yX5_restore, Cond.instanceMethod yX5_restore, Cond.selects RX5 yX5_restore yX5_restore]
def wsL_law_r26 : List Cond := [Cond.code yX5_restore cX5_restore 3 (some .int)]
def wsL_law : List Cond := (wsL_law_r1 ++ (wsL_law_r2 ++ (wsL_law_r3 ++ (wsL_law_r4 ++ (wsL_law_r5 ++ (wsL_law_r6 ++ (wsL_law_r7 ++ (wsL_law_r8 ++ (wsL_law_r9 ++ (wsL_law_r10 ++ (wsL_law_r11 ++ (wsL_law_r12 ++ (wsL_law_r13 ++ (wsL_law_r14 ++ (wsL_law_r15 ++ (wsL_law_r16 ++ (wsL_law_r17 ++ (wsL_law_r18 ++ (wsL_law_r19 ++ (wsL_law_r20 ++ (wsL_law_r21 ++ (wsL_law_r22 ++ (wsL_law_r23 ++ (wsL_law_r24 ++ (wsL_law_r25 ++ wsL_law_r26))))))))))))))))))))))))) ++ wsX40 ++ wsX50 ++ wsX00 ++ wsX30 ++ wsX20 ++ wsX10 ++ ([] : List Cond)
set_option maxRecDepth 20000 in
abbrev vwCl : List vw_C := [(RX0, TX0, 3), (RX1, TX1, 3), (RX2, TX2, 8), (RX3, TX3, 18), (RX4, TX4, 7), (RX5, TX5, 14)]
end
section
theorem dX0_init_0 : decode cX0_init 0 = .ok (.aload_n 0, 1) := by decide +kernel
theorem dX0_init_1 : decode cX0_init 1 = .ok (.invokespecial 3, 3) := by decide +kernel
theorem dX0_init_4 : decode cX0_init 4 = .ok (.aload_n 0, 1) := by decide +kernel
theorem dX0_init_5 : decode cX0_init 5 = .ok (.bipush 7, 2) := by decide +kernel
theorem dX0_init_7 : decode cX0_init 7 = .ok (.newarray .int, 2) := by decide +kernel
theorem dX0_init_9 : decode cX0_init 9 = .ok (.putfield 9, 3) := by decide +kernel
theorem dX0_init_12 : decode cX0_init 12 = .ok (.getstatic 15, 3) := by decide +kernel
theorem dX0_init_15 : decode cX0_init 15 = .ok (.iconst 0, 1) := by decide +kernel
theorem dX0_init_16 : decode cX0_init 16 = .ok (.aload_n 0, 1) := by decide +kernel
theorem dX0_init_17 : decode cX0_init 17 = .ok (.getfield 9, 3) := by decide +kernel
theorem dX0_init_20 : decode cX0_init 20 = .ok (.iconst 0, 1) := by decide +kernel
theorem dX0_init_21 : decode cX0_init 21 = .ok (.bipush 7, 2) := by decide +kernel
theorem dX0_init_23 : decode cX0_init 23 = .ok (.invokestatic 18, 3) := by decide +kernel
theorem dX0_init_26 : decode cX0_init 26 = .ok (.aload_n 0, 1) := by decide +kernel
theorem dX0_init_27 : decode cX0_init 27 = .ok (.iconst 4, 1) := by decide +kernel
theorem dX0_init_28 : decode cX0_init 28 = .ok (.bipush 12, 2) := by decide +kernel
theorem dX0_init_30 : decode cX0_init 30 = .ok (.multianewarray 24 2, 4) := by decide +kernel
theorem dX0_init_34 : decode cX0_init 34 = .ok (.putfield 26, 3) := by decide +kernel
theorem dX0_init_37 : decode cX0_init 37 = .ok (.return_, 1) := by decide +kernel
theorem dX0_copyFrom_0 : decode cX0_copyFrom 0 = .ok (.aload_n 1, 1) := by decide +kernel
theorem dX0_copyFrom_1 : decode cX0_copyFrom 1 = .ok (.getfield 9, 3) := by decide +kernel
theorem dX0_copyFrom_4 : decode cX0_copyFrom 4 = .ok (.iconst 0, 1) := by decide +kernel
theorem dX0_copyFrom_5 : decode cX0_copyFrom 5 = .ok (.aload_n 0, 1) := by decide +kernel
theorem dX0_copyFrom_6 : decode cX0_copyFrom 6 = .ok (.getfield 9, 3) := by decide +kernel
theorem dX0_copyFrom_9 : decode cX0_copyFrom 9 = .ok (.iconst 0, 1) := by decide +kernel
theorem dX0_copyFrom_10 : decode cX0_copyFrom 10 = .ok (.bipush 7, 2) := by decide +kernel
theorem dX0_copyFrom_12 : decode cX0_copyFrom 12 = .ok (.invokestatic 18, 3) := by decide +kernel
theorem dX0_copyFrom_15 : decode cX0_copyFrom 15 = .ok (.iconst 0, 1) := by decide +kernel
theorem dX0_copyFrom_16 : decode cX0_copyFrom 16 = .ok (.istore_n 2, 1) := by decide +kernel
theorem dX0_copyFrom_17 : decode cX0_copyFrom 17 = .ok (.iload_n 2, 1) := by decide +kernel
theorem dX0_copyFrom_18 : decode cX0_copyFrom 18 = .ok (.iconst 4, 1) := by decide +kernel
theorem dX0_copyFrom_19 : decode cX0_copyFrom 19 = .ok (.if_icmp .ge 28, 3) := by decide +kernel
theorem dX0_copyFrom_22 : decode cX0_copyFrom 22 = .ok (.aload_n 1, 1) := by decide +kernel
theorem dX0_copyFrom_23 : decode cX0_copyFrom 23 = .ok (.getfield 26, 3) := by decide +kernel
theorem dX0_copyFrom_26 : decode cX0_copyFrom 26 = .ok (.iload_n 2, 1) := by decide +kernel
theorem dX0_copyFrom_27 : decode cX0_copyFrom 27 = .ok (.aaload, 1) := by decide +kernel
theorem dX0_copyFrom_28 : decode cX0_copyFrom 28 = .ok (.iconst 0, 1) := by decide +kernel
theorem dX0_copyFrom_29 : decode cX0_copyFrom 29 = .ok (.aload_n 0, 1) := by decide +kernel
theorem dX0_copyFrom_30 : decode cX0_copyFrom 30 = .ok (.getfield 26, 3) := by decide +kernel
theorem dX0_copyFrom_33 : decode cX0_copyFrom 33 = .ok (.iload_n 2, 1) := by decide +kernel
theorem dX0_copyFrom_34 : decode cX0_copyFrom 34 = .ok (.aaload, 1) := by decide +kernel
theorem dX0_copyFrom_35 : decode cX0_copyFrom 35 = .ok (.iconst 0, 1) := by decide +kernel
theorem dX0_copyFrom_36 : decode cX0_copyFrom 36 = .ok (.bipush 12, 2) := by decide +kernel
theorem dX0_copyFrom_38 : decode cX0_copyFrom 38 = .ok (.invokestatic 18, 3) := by decide +kernel
theorem dX0_copyFrom_41 : decode cX0_copyFrom 41 = .ok (.iinc 2 1, 3) := by decide +kernel
theorem dX0_copyFrom_44 : decode cX0_copyFrom 44 = .ok (.goto (-27), 3) := by decide +kernel
theorem dX0_copyFrom_47 : decode cX0_copyFrom 47 = .ok (.aload_n 0, 1) := by decide +kernel
theorem dX0_copyFrom_48 : decode cX0_copyFrom 48 = .ok (.aload_n 1, 1) := by decide +kernel
theorem dX0_copyFrom_49 : decode cX0_copyFrom 49 = .ok (.getfield 29, 3) := by decide +kernel
theorem dX0_copyFrom_52 : decode cX0_copyFrom 52 = .ok (.putfield 29, 3) := by decide +kernel
theorem dX0_copyFrom_55 : decode cX0_copyFrom 55 = .ok (.return_, 1) := by decide +kernel
theorem dX0_append_0 : decode cX0_append 0 = .ok (.aload_n 0, 1) := by decide +kernel
theorem dX0_append_1 : decode cX0_append 1 = .ok (.getfield 29, 3) := by decide +kernel
theorem dX0_append_4 : decode cX0_append 4 = .ok (.bipush 12, 2) := by decide +kernel
theorem dX0_append_6 : decode cX0_append 6 = .ok (.if_icmp .lt 4, 3) := by decide +kernel
theorem dX0_append_9 : decode cX0_append 9 = .ok (.return_, 1) := by decide +kernel
theorem dX0_append_10 : decode cX0_append 10 = .ok (.aload_n 0, 1) := by decide +kernel
theorem dX0_append_11 : decode cX0_append 11 = .ok (.getfield 26, 3) := by decide +kernel
theorem dX0_append_14 : decode cX0_append 14 = .ok (.iconst 0, 1) := by decide +kernel
theorem dX0_append_15 : decode cX0_append 15 = .ok (.aaload, 1) := by decide +kernel
theorem dX0_append_16 : decode cX0_append 16 = .ok (.aload_n 0, 1) := by decide +kernel
theorem dX0_append_17 : decode cX0_append 17 = .ok (.getfield 29, 3) := by decide +kernel
theorem dX0_append_20 : decode cX0_append 20 = .ok (.iload_n 1, 1) := by decide +kernel
theorem dX0_append_21 : decode cX0_append 21 = .ok (.iastore, 1) := by decide +kernel
theorem dX0_append_22 : decode cX0_append 22 = .ok (.aload_n 0, 1) := by decide +kernel
theorem dX0_append_23 : decode cX0_append 23 = .ok (.getfield 26, 3) := by decide +kernel
theorem dX0_append_26 : decode cX0_append 26 = .ok (.iconst 1, 1) := by decide +kernel
theorem dX0_append_27 : decode cX0_append 27 = .ok (.aaload, 1) := by decide +kernel
theorem dX0_append_28 : decode cX0_append 28 = .ok (.aload_n 0, 1) := by decide +kernel
theorem dX0_append_29 : decode cX0_append 29 = .ok (.getfield 29, 3) := by decide +kernel
theorem dX0_append_32 : decode cX0_append 32 = .ok (.iload_n 2, 1) := by decide +kernel
theorem dX0_append_33 : decode cX0_append 33 = .ok (.iastore, 1) := by decide +kernel
theorem dX0_append_34 : decode cX0_append 34 = .ok (.aload_n 0, 1) := by decide +kernel
theorem dX0_append_35 : decode cX0_append 35 = .ok (.getfield 26, 3) := by decide +kernel
theorem dX0_append_38 : decode cX0_append 38 = .ok (.iconst 2, 1) := by decide +kernel
theorem dX0_append_39 : decode cX0_append 39 = .ok (.aaload, 1) := by decide +kernel
theorem dX0_append_40 : decode cX0_append 40 = .ok (.aload_n 0, 1) := by decide +kernel
theorem dX0_append_41 : decode cX0_append 41 = .ok (.getfield 29, 3) := by decide +kernel
theorem dX0_append_44 : decode cX0_append 44 = .ok (.iload_n 3, 1) := by decide +kernel
theorem dX0_append_45 : decode cX0_append 45 = .ok (.iastore, 1) := by decide +kernel
theorem dX0_append_46 : decode cX0_append 46 = .ok (.aload_n 0, 1) := by decide +kernel
theorem dX0_append_47 : decode cX0_append 47 = .ok (.getfield 26, 3) := by decide +kernel
theorem dX0_append_50 : decode cX0_append 50 = .ok (.iconst 3, 1) := by decide +kernel
theorem dX0_append_51 : decode cX0_append 51 = .ok (.aaload, 1) := by decide +kernel
theorem dX0_append_52 : decode cX0_append 52 = .ok (.aload_n 0, 1) := by decide +kernel
theorem dX0_append_53 : decode cX0_append 53 = .ok (.getfield 29, 3) := by decide +kernel
theorem dX0_append_56 : decode cX0_append 56 = .ok (.iload 4, 2) := by decide +kernel
theorem dX0_append_58 : decode cX0_append 58 = .ok (.iastore, 1) := by decide +kernel
theorem dX0_append_59 : decode cX0_append 59 = .ok (.aload_n 0, 1) := by decide +kernel
theorem dX0_append_60 : decode cX0_append 60 = .ok (.dup, 1) := by decide +kernel
theorem dX0_append_61 : decode cX0_append 61 = .ok (.getfield 29, 3) := by decide +kernel
theorem dX0_append_64 : decode cX0_append 64 = .ok (.iconst 1, 1) := by decide +kernel
theorem dX0_append_65 : decode cX0_append 65 = .ok (.iadd, 1) := by decide +kernel
theorem dX0_append_66 : decode cX0_append 66 = .ok (.putfield 29, 3) := by decide +kernel
theorem dX0_append_69 : decode cX0_append 69 = .ok (.return_, 1) := by decide +kernel
set_option maxRecDepth 20000 in
theorem ggX0_appendAll_X0_append : GoodIn wsX0_appendAll wsX0_append := goodIn_r _ [7, 1, 2, 8, 9, 10] (by decide +kernel) (by decide +kernel)
set_option maxRecDepth 20000 in
theorem gX0_appendAll_X0_append : GoodIn wsX0_appendAll (wsV RX0 33 RX0 yX0_append wsX0_append) := goodIn_app (goodIn_of _ (by decide +kernel)) ggX0_appendAll_X0_append
theorem dX0_appendAll_0 : decode cX0_appendAll 0 = .ok (.iconst 0, 1) := by decide +kernel
theorem dX0_appendAll_1 : decode cX0_appendAll 1 = .ok (.istore_n 2, 1) := by decide +kernel
theorem dX0_appendAll_2 : decode cX0_appendAll 2 = .ok (.iload_n 2, 1) := by decide +kernel
theorem dX0_appendAll_3 : decode cX0_appendAll 3 = .ok (.aload_n 1, 1) := by decide +kernel
theorem dX0_appendAll_4 : decode cX0_appendAll 4 = .ok (.getfield 29, 3) := by decide +kernel
theorem dX0_appendAll_7 : decode cX0_appendAll 7 = .ok (.if_icmp .ge 45, 3) := by decide +kernel
theorem dX0_appendAll_10 : decode cX0_appendAll 10 = .ok (.aload_n 0, 1) := by decide +kernel
theorem dX0_appendAll_11 : decode cX0_appendAll 11 = .ok (.aload_n 1, 1) := by decide +kernel
theorem dX0_appendAll_12 : decode cX0_appendAll 12 = .ok (.getfield 26, 3) := by decide +kernel
theorem dX0_appendAll_15 : decode cX0_appendAll 15 = .ok (.iconst 0, 1) := by decide +kernel
theorem dX0_appendAll_16 : decode cX0_appendAll 16 = .ok (.aaload, 1) := by decide +kernel
theorem dX0_appendAll_17 : decode cX0_appendAll 17 = .ok (.iload_n 2, 1) := by decide +kernel
theorem dX0_appendAll_18 : decode cX0_appendAll 18 = .ok (.iaload, 1) := by decide +kernel
theorem dX0_appendAll_19 : decode cX0_appendAll 19 = .ok (.aload_n 1, 1) := by decide +kernel
theorem dX0_appendAll_20 : decode cX0_appendAll 20 = .ok (.getfield 26, 3) := by decide +kernel
theorem dX0_appendAll_23 : decode cX0_appendAll 23 = .ok (.iconst 1, 1) := by decide +kernel
theorem dX0_appendAll_24 : decode cX0_appendAll 24 = .ok (.aaload, 1) := by decide +kernel
theorem dX0_appendAll_25 : decode cX0_appendAll 25 = .ok (.iload_n 2, 1) := by decide +kernel
theorem dX0_appendAll_26 : decode cX0_appendAll 26 = .ok (.iaload, 1) := by decide +kernel
theorem dX0_appendAll_27 : decode cX0_appendAll 27 = .ok (.aload_n 1, 1) := by decide +kernel
theorem dX0_appendAll_28 : decode cX0_appendAll 28 = .ok (.getfield 26, 3) := by decide +kernel
theorem dX0_appendAll_31 : decode cX0_appendAll 31 = .ok (.iconst 2, 1) := by decide +kernel
theorem dX0_appendAll_32 : decode cX0_appendAll 32 = .ok (.aaload, 1) := by decide +kernel
theorem dX0_appendAll_33 : decode cX0_appendAll 33 = .ok (.iload_n 2, 1) := by decide +kernel
theorem dX0_appendAll_34 : decode cX0_appendAll 34 = .ok (.iaload, 1) := by decide +kernel
theorem dX0_appendAll_35 : decode cX0_appendAll 35 = .ok (.aload_n 1, 1) := by decide +kernel
theorem dX0_appendAll_36 : decode cX0_appendAll 36 = .ok (.getfield 26, 3) := by decide +kernel
theorem dX0_appendAll_39 : decode cX0_appendAll 39 = .ok (.iconst 3, 1) := by decide +kernel
theorem dX0_appendAll_40 : decode cX0_appendAll 40 = .ok (.aaload, 1) := by decide +kernel
theorem dX0_appendAll_41 : decode cX0_appendAll 41 = .ok (.iload_n 2, 1) := by decide +kernel
theorem dX0_appendAll_42 : decode cX0_appendAll 42 = .ok (.iaload, 1) := by decide +kernel
theorem dX0_appendAll_43 : decode cX0_appendAll 43 = .ok (.invokevirtual 33, 3) := by decide +kernel
theorem dX0_appendAll_46 : decode cX0_appendAll 46 = .ok (.iinc 2 1, 3) := by decide +kernel
theorem dX0_appendAll_49 : decode cX0_appendAll 49 = .ok (.goto (-47), 3) := by decide +kernel
theorem dX0_appendAll_52 : decode cX0_appendAll 52 = .ok (.return_, 1) := by decide +kernel
set_option maxRecDepth 20000 in
theorem ggX0_remove_X0_shift : GoodIn wsX0_remove wsX0_shift := goodIn_r _ [6, 7, 8, 9, 10] (by decide +kernel) (by decide +kernel)
set_option maxRecDepth 20000 in
theorem gX0_remove_X0_shift : GoodIn wsX0_remove (wsV RX0 37 RX0 yX0_shift wsX0_shift) := goodIn_app (goodIn_of _ (by decide +kernel)) ggX0_remove_X0_shift
theorem dX0_remove_0 : decode cX0_remove 0 = .ok (.aload_n 0, 1) := by decide +kernel
theorem dX0_remove_1 : decode cX0_remove 1 = .ok (.iload_n 1, 1) := by decide +kernel
theorem dX0_remove_2 : decode cX0_remove 2 = .ok (.aload_n 0, 1) := by decide +kernel
theorem dX0_remove_3 : decode cX0_remove 3 = .ok (.getfield 29, 3) := by decide +kernel
theorem dX0_remove_6 : decode cX0_remove 6 = .ok (.iconst 1, 1) := by decide +kernel
theorem dX0_remove_7 : decode cX0_remove 7 = .ok (.isub, 1) := by decide +kernel
theorem dX0_remove_8 : decode cX0_remove 8 = .ok (.invokevirtual 37, 3) := by decide +kernel
theorem dX0_remove_11 : decode cX0_remove 11 = .ok (.aload_n 0, 1) := by decide +kernel
theorem dX0_remove_12 : decode cX0_remove 12 = .ok (.dup, 1) := by decide +kernel
theorem dX0_remove_13 : decode cX0_remove 13 = .ok (.getfield 29, 3) := by decide +kernel
theorem dX0_remove_16 : decode cX0_remove 16 = .ok (.iconst 1, 1) := by decide +kernel
theorem dX0_remove_17 : decode cX0_remove 17 = .ok (.isub, 1) := by decide +kernel
theorem dX0_remove_18 : decode cX0_remove 18 = .ok (.putfield 29, 3) := by decide +kernel
theorem dX0_remove_21 : decode cX0_remove 21 = .ok (.return_, 1) := by decide +kernel
theorem dX0_shift_0 : decode cX0_shift 0 = .ok (.aload_n 0, 1) := by decide +kernel
theorem dX0_shift_1 : decode cX0_shift 1 = .ok (.getfield 26, 3) := by decide +kernel
theorem dX0_shift_4 : decode cX0_shift 4 = .ok (.astore_n 3, 1) := by decide +kernel
theorem dX0_shift_5 : decode cX0_shift 5 = .ok (.aload_n 3, 1) := by decide +kernel
theorem dX0_shift_6 : decode cX0_shift 6 = .ok (.arraylength, 1) := by decide +kernel
theorem dX0_shift_7 : decode cX0_shift 7 = .ok (.istore 4, 2) := by decide +kernel
theorem dX0_shift_9 : decode cX0_shift 9 = .ok (.iconst 0, 1) := by decide +kernel
theorem dX0_shift_10 : decode cX0_shift 10 = .ok (.istore 5, 2) := by decide +kernel
theorem dX0_shift_12 : decode cX0_shift 12 = .ok (.iload 5, 2) := by decide +kernel
theorem dX0_shift_14 : decode cX0_shift 14 = .ok (.iload 4, 2) := by decide +kernel
theorem dX0_shift_16 : decode cX0_shift 16 = .ok (.if_icmp .ge 81, 3) := by decide +kernel
theorem dX0_shift_19 : decode cX0_shift 19 = .ok (.aload_n 3, 1) := by decide +kernel
theorem dX0_shift_20 : decode cX0_shift 20 = .ok (.iload 5, 2) := by decide +kernel
theorem dX0_shift_22 : decode cX0_shift 22 = .ok (.aaload, 1) := by decide +kernel
theorem dX0_shift_23 : decode cX0_shift 23 = .ok (.astore 6, 2) := by decide +kernel
theorem dX0_shift_25 : decode cX0_shift 25 = .ok (.aload 6, 2) := by decide +kernel
theorem dX0_shift_27 : decode cX0_shift 27 = .ok (.iload_n 1, 1) := by decide +kernel
theorem dX0_shift_28 : decode cX0_shift 28 = .ok (.iaload, 1) := by decide +kernel
theorem dX0_shift_29 : decode cX0_shift 29 = .ok (.istore 7, 2) := by decide +kernel
theorem dX0_shift_31 : decode cX0_shift 31 = .ok (.iload_n 1, 1) := by decide +kernel
theorem dX0_shift_32 : decode cX0_shift 32 = .ok (.istore 8, 2) := by decide +kernel
theorem dX0_shift_34 : decode cX0_shift 34 = .ok (.iload 8, 2) := by decide +kernel
theorem dX0_shift_36 : decode cX0_shift 36 = .ok (.iload_n 2, 1) := by decide +kernel
theorem dX0_shift_37 : decode cX0_shift 37 = .ok (.if_icmp .ge 21, 3) := by decide +kernel
theorem dX0_shift_40 : decode cX0_shift 40 = .ok (.aload 6, 2) := by decide +kernel
theorem dX0_shift_42 : decode cX0_shift 42 = .ok (.iload 8, 2) := by decide +kernel
theorem dX0_shift_44 : decode cX0_shift 44 = .ok (.aload 6, 2) := by decide +kernel
theorem dX0_shift_46 : decode cX0_shift 46 = .ok (.iload 8, 2) := by decide +kernel
theorem dX0_shift_48 : decode cX0_shift 48 = .ok (.iconst 1, 1) := by decide +kernel
theorem dX0_shift_49 : decode cX0_shift 49 = .ok (.iadd, 1) := by decide +kernel
theorem dX0_shift_50 : decode cX0_shift 50 = .ok (.iaload, 1) := by decide +kernel
theorem dX0_shift_51 : decode cX0_shift 51 = .ok (.iastore, 1) := by decide +kernel
theorem dX0_shift_52 : decode cX0_shift 52 = .ok (.iinc 8 1, 3) := by decide +kernel
theorem dX0_shift_55 : decode cX0_shift 55 = .ok (.goto (-21), 3) := by decide +kernel
theorem dX0_shift_58 : decode cX0_shift 58 = .ok (.iload_n 1, 1) := by decide +kernel
theorem dX0_shift_59 : decode cX0_shift 59 = .ok (.istore 8, 2) := by decide +kernel
theorem dX0_shift_61 : decode cX0_shift 61 = .ok (.iload 8, 2) := by decide +kernel
theorem dX0_shift_63 : decode cX0_shift 63 = .ok (.iload_n 2, 1) := by decide +kernel
theorem dX0_shift_64 : decode cX0_shift 64 = .ok (.if_icmp .le 21, 3) := by decide +kernel
theorem dX0_shift_67 : decode cX0_shift 67 = .ok (.aload 6, 2) := by decide +kernel
theorem dX0_shift_69 : decode cX0_shift 69 = .ok (.iload 8, 2) := by decide +kernel
theorem dX0_shift_71 : decode cX0_shift 71 = .ok (.aload 6, 2) := by decide +kernel
theorem dX0_shift_73 : decode cX0_shift 73 = .ok (.iload 8, 2) := by decide +kernel
theorem dX0_shift_75 : decode cX0_shift 75 = .ok (.iconst 1, 1) := by decide +kernel
theorem dX0_shift_76 : decode cX0_shift 76 = .ok (.isub, 1) := by decide +kernel
theorem dX0_shift_77 : decode cX0_shift 77 = .ok (.iaload, 1) := by decide +kernel
theorem dX0_shift_78 : decode cX0_shift 78 = .ok (.iastore, 1) := by decide +kernel
theorem dX0_shift_79 : decode cX0_shift 79 = .ok (.iinc 8 (-1), 3) := by decide +kernel
theorem dX0_shift_82 : decode cX0_shift 82 = .ok (.goto (-21), 3) := by decide +kernel
theorem dX0_shift_85 : decode cX0_shift 85 = .ok (.aload 6, 2) := by decide +kernel
theorem dX0_shift_87 : decode cX0_shift 87 = .ok (.iload_n 2, 1) := by decide +kernel
theorem dX0_shift_88 : decode cX0_shift 88 = .ok (.iload 7, 2) := by decide +kernel
theorem dX0_shift_90 : decode cX0_shift 90 = .ok (.iastore, 1) := by decide +kernel
theorem dX0_shift_91 : decode cX0_shift 91 = .ok (.iinc 5 1, 3) := by decide +kernel
theorem dX0_shift_94 : decode cX0_shift 94 = .ok (.goto (-82), 3) := by decide +kernel
theorem dX0_shift_97 : decode cX0_shift 97 = .ok (.return_, 1) := by decide +kernel
theorem dX0_exchange_0 : decode cX0_exchange 0 = .ok (.aload_n 0, 1) := by decide +kernel
theorem dX0_exchange_1 : decode cX0_exchange 1 = .ok (.getfield 26, 3) := by decide +kernel
theorem dX0_exchange_4 : decode cX0_exchange 4 = .ok (.astore_n 3, 1) := by decide +kernel
theorem dX0_exchange_5 : decode cX0_exchange 5 = .ok (.aload_n 3, 1) := by decide +kernel
theorem dX0_exchange_6 : decode cX0_exchange 6 = .ok (.arraylength, 1) := by decide +kernel
theorem dX0_exchange_7 : decode cX0_exchange 7 = .ok (.istore 4, 2) := by decide +kernel
theorem dX0_exchange_9 : decode cX0_exchange 9 = .ok (.iconst 0, 1) := by decide +kernel
theorem dX0_exchange_10 : decode cX0_exchange 10 = .ok (.istore 5, 2) := by decide +kernel
theorem dX0_exchange_12 : decode cX0_exchange 12 = .ok (.iload 5, 2) := by decide +kernel
theorem dX0_exchange_14 : decode cX0_exchange 14 = .ok (.iload 4, 2) := by decide +kernel
theorem dX0_exchange_16 : decode cX0_exchange 16 = .ok (.if_icmp .ge 35, 3) := by decide +kernel
theorem dX0_exchange_19 : decode cX0_exchange 19 = .ok (.aload_n 3, 1) := by decide +kernel
theorem dX0_exchange_20 : decode cX0_exchange 20 = .ok (.iload 5, 2) := by decide +kernel
theorem dX0_exchange_22 : decode cX0_exchange 22 = .ok (.aaload, 1) := by decide +kernel
theorem dX0_exchange_23 : decode cX0_exchange 23 = .ok (.astore 6, 2) := by decide +kernel
theorem dX0_exchange_25 : decode cX0_exchange 25 = .ok (.aload 6, 2) := by decide +kernel
theorem dX0_exchange_27 : decode cX0_exchange 27 = .ok (.iload_n 1, 1) := by decide +kernel
theorem dX0_exchange_28 : decode cX0_exchange 28 = .ok (.iaload, 1) := by decide +kernel
theorem dX0_exchange_29 : decode cX0_exchange 29 = .ok (.istore 7, 2) := by decide +kernel
theorem dX0_exchange_31 : decode cX0_exchange 31 = .ok (.aload 6, 2) := by decide +kernel
theorem dX0_exchange_33 : decode cX0_exchange 33 = .ok (.iload_n 1, 1) := by decide +kernel
theorem dX0_exchange_34 : decode cX0_exchange 34 = .ok (.aload 6, 2) := by decide +kernel
theorem dX0_exchange_36 : decode cX0_exchange 36 = .ok (.iload_n 2, 1) := by decide +kernel
theorem dX0_exchange_37 : decode cX0_exchange 37 = .ok (.iaload, 1) := by decide +kernel
theorem dX0_exchange_38 : decode cX0_exchange 38 = .ok (.iastore, 1) := by decide +kernel
theorem dX0_exchange_39 : decode cX0_exchange 39 = .ok (.aload 6, 2) := by decide +kernel
theorem dX0_exchange_41 : decode cX0_exchange 41 = .ok (.iload_n 2, 1) := by decide +kernel
theorem dX0_exchange_42 : decode cX0_exchange 42 = .ok (.iload 7, 2) := by decide +kernel
theorem dX0_exchange_44 : decode cX0_exchange 44 = .ok (.iastore, 1) := by decide +kernel
theorem dX0_exchange_45 : decode cX0_exchange 45 = .ok (.iinc 5 1, 3) := by decide +kernel
theorem dX0_exchange_48 : decode cX0_exchange 48 = .ok (.goto (-36), 3) := by decide +kernel
theorem dX0_exchange_51 : decode cX0_exchange 51 = .ok (.return_, 1) := by decide +kernel
set_option maxRecDepth 20000 in
theorem ggX0_arrange_X0_copyFrom : GoodIn wsX0_arrange wsX0_copyFrom := goodIn_r _ [7, 8, 9, 10, 11, 12, 2, 1, 17, 18, 19] (by decide +kernel) (by decide +kernel)
set_option maxRecDepth 20000 in
theorem gX0_arrange_X0_copyFrom : GoodIn wsX0_arrange (wsV RX0 41 RX0 yX0_copyFrom wsX0_copyFrom) := goodIn_app (goodIn_of _ (by decide +kernel)) ggX0_arrange_X0_copyFrom
set_option maxRecDepth 20000 in
theorem ggX0_arrange_X0_placeBy : GoodIn wsX0_arrange wsX0_placeBy := goodIn_r _ [16, 2, 1, 17, 18, 19] (by decide +kernel) (by decide +kernel)
set_option maxRecDepth 20000 in
theorem gX0_arrange_X0_placeBy : GoodIn wsX0_arrange (wsV RX0 45 RX0 yX0_placeBy wsX0_placeBy) := goodIn_app (goodIn_of _ (by decide +kernel)) ggX0_arrange_X0_placeBy
theorem dX0_arrange_0 : decode cX0_arrange 0 = .ok (.aload_n 0, 1) := by decide +kernel
theorem dX0_arrange_1 : decode cX0_arrange 1 = .ok (.aload_n 1, 1) := by decide +kernel
theorem dX0_arrange_2 : decode cX0_arrange 2 = .ok (.invokevirtual 41, 3) := by decide +kernel
theorem dX0_arrange_5 : decode cX0_arrange 5 = .ok (.iconst 0, 1) := by decide +kernel
theorem dX0_arrange_6 : decode cX0_arrange 6 = .ok (.istore_n 3, 1) := by decide +kernel
theorem dX0_arrange_7 : decode cX0_arrange 7 = .ok (.iconst 0, 1) := by decide +kernel
theorem dX0_arrange_8 : decode cX0_arrange 8 = .ok (.istore 4, 2) := by decide +kernel
theorem dX0_arrange_10 : decode cX0_arrange 10 = .ok (.iload 4, 2) := by decide +kernel
theorem dX0_arrange_12 : decode cX0_arrange 12 = .ok (.aload_n 1, 1) := by decide +kernel
theorem dX0_arrange_13 : decode cX0_arrange 13 = .ok (.getfield 29, 3) := by decide +kernel
theorem dX0_arrange_16 : decode cX0_arrange 16 = .ok (.if_icmp .ge 63, 3) := by decide +kernel
theorem dX0_arrange_19 : decode cX0_arrange 19 = .ok (.aload_n 1, 1) := by decide +kernel
theorem dX0_arrange_20 : decode cX0_arrange 20 = .ok (.iload_n 2, 1) := by decide +kernel
theorem dX0_arrange_21 : decode cX0_arrange 21 = .ok (.iload 4, 2) := by decide +kernel
theorem dX0_arrange_23 : decode cX0_arrange 23 = .ok (.invokevirtual 45, 3) := by decide +kernel
theorem dX0_arrange_26 : decode cX0_arrange 26 = .ok (.istore 5, 2) := by decide +kernel
theorem dX0_arrange_28 : decode cX0_arrange 28 = .ok (.iconst 0, 1) := by decide +kernel
theorem dX0_arrange_29 : decode cX0_arrange 29 = .ok (.istore 6, 2) := by decide +kernel
theorem dX0_arrange_31 : decode cX0_arrange 31 = .ok (.iload 6, 2) := by decide +kernel
theorem dX0_arrange_33 : decode cX0_arrange 33 = .ok (.iconst 4, 1) := by decide +kernel
theorem dX0_arrange_34 : decode cX0_arrange 34 = .ok (.if_icmp .ge 29, 3) := by decide +kernel
theorem dX0_arrange_37 : decode cX0_arrange 37 = .ok (.aload_n 0, 1) := by decide +kernel
theorem dX0_arrange_38 : decode cX0_arrange 38 = .ok (.getfield 26, 3) := by decide +kernel
theorem dX0_arrange_41 : decode cX0_arrange 41 = .ok (.iload 6, 2) := by decide +kernel
theorem dX0_arrange_43 : decode cX0_arrange 43 = .ok (.aaload, 1) := by decide +kernel
theorem dX0_arrange_44 : decode cX0_arrange 44 = .ok (.iload 5, 2) := by decide +kernel
theorem dX0_arrange_46 : decode cX0_arrange 46 = .ok (.aload_n 1, 1) := by decide +kernel
theorem dX0_arrange_47 : decode cX0_arrange 47 = .ok (.getfield 26, 3) := by decide +kernel
theorem dX0_arrange_50 : decode cX0_arrange 50 = .ok (.iload 6, 2) := by decide +kernel
theorem dX0_arrange_52 : decode cX0_arrange 52 = .ok (.aaload, 1) := by decide +kernel
theorem dX0_arrange_53 : decode cX0_arrange 53 = .ok (.iload 4, 2) := by decide +kernel
theorem dX0_arrange_55 : decode cX0_arrange 55 = .ok (.iaload, 1) := by decide +kernel
theorem dX0_arrange_56 : decode cX0_arrange 56 = .ok (.iastore, 1) := by decide +kernel
theorem dX0_arrange_57 : decode cX0_arrange 57 = .ok (.iinc 6 1, 3) := by decide +kernel
theorem dX0_arrange_60 : decode cX0_arrange 60 = .ok (.goto (-29), 3) := by decide +kernel
theorem dX0_arrange_63 : decode cX0_arrange 63 = .ok (.iload 5, 2) := by decide +kernel
theorem dX0_arrange_65 : decode cX0_arrange 65 = .ok (.iload 4, 2) := by decide +kernel
theorem dX0_arrange_67 : decode cX0_arrange 67 = .ok (.if_icmp .eq 6, 3) := by decide +kernel
theorem dX0_arrange_70 : decode cX0_arrange 70 = .ok (.iinc 3 1, 3) := by decide +kernel
theorem dX0_arrange_73 : decode cX0_arrange 73 = .ok (.iinc 4 1, 3) := by decide +kernel
theorem dX0_arrange_76 : decode cX0_arrange 76 = .ok (.goto (-66), 3) := by decide +kernel
theorem dX0_arrange_79 : decode cX0_arrange 79 = .ok (.iload_n 3, 1) := by decide +kernel
theorem dX0_arrange_80 : decode cX0_arrange 80 = .ok (.ireturn, 1) := by decide +kernel
theorem dX0_placeBy_0 : decode cX0_placeBy 0 = .ok (.aload_n 0, 1) := by decide +kernel
theorem dX0_placeBy_1 : decode cX0_placeBy 1 = .ok (.getfield 26, 3) := by decide +kernel
theorem dX0_placeBy_4 : decode cX0_placeBy 4 = .ok (.iload_n 1, 1) := by decide +kernel
theorem dX0_placeBy_5 : decode cX0_placeBy 5 = .ok (.aaload, 1) := by decide +kernel
theorem dX0_placeBy_6 : decode cX0_placeBy 6 = .ok (.astore_n 3, 1) := by decide +kernel
theorem dX0_placeBy_7 : decode cX0_placeBy 7 = .ok (.iconst 0, 1) := by decide +kernel
theorem dX0_placeBy_8 : decode cX0_placeBy 8 = .ok (.istore 4, 2) := by decide +kernel
theorem dX0_placeBy_10 : decode cX0_placeBy 10 = .ok (.iconst 0, 1) := by decide +kernel
theorem dX0_placeBy_11 : decode cX0_placeBy 11 = .ok (.istore 5, 2) := by decide +kernel
theorem dX0_placeBy_13 : decode cX0_placeBy 13 = .ok (.iload 5, 2) := by decide +kernel
theorem dX0_placeBy_15 : decode cX0_placeBy 15 = .ok (.aload_n 0, 1) := by decide +kernel
theorem dX0_placeBy_16 : decode cX0_placeBy 16 = .ok (.getfield 29, 3) := by decide +kernel
theorem dX0_placeBy_19 : decode cX0_placeBy 19 = .ok (.if_icmp .ge 38, 3) := by decide +kernel
theorem dX0_placeBy_22 : decode cX0_placeBy 22 = .ok (.aload_n 3, 1) := by decide +kernel
theorem dX0_placeBy_23 : decode cX0_placeBy 23 = .ok (.iload 5, 2) := by decide +kernel
theorem dX0_placeBy_25 : decode cX0_placeBy 25 = .ok (.iaload, 1) := by decide +kernel
theorem dX0_placeBy_26 : decode cX0_placeBy 26 = .ok (.aload_n 3, 1) := by decide +kernel
theorem dX0_placeBy_27 : decode cX0_placeBy 27 = .ok (.iload_n 2, 1) := by decide +kernel
theorem dX0_placeBy_28 : decode cX0_placeBy 28 = .ok (.iaload, 1) := by decide +kernel
theorem dX0_placeBy_29 : decode cX0_placeBy 29 = .ok (.if_icmp .lt 19, 3) := by decide +kernel
theorem dX0_placeBy_32 : decode cX0_placeBy 32 = .ok (.aload_n 3, 1) := by decide +kernel
theorem dX0_placeBy_33 : decode cX0_placeBy 33 = .ok (.iload 5, 2) := by decide +kernel
theorem dX0_placeBy_35 : decode cX0_placeBy 35 = .ok (.iaload, 1) := by decide +kernel
theorem dX0_placeBy_36 : decode cX0_placeBy 36 = .ok (.aload_n 3, 1) := by decide +kernel
theorem dX0_placeBy_37 : decode cX0_placeBy 37 = .ok (.iload_n 2, 1) := by decide +kernel
theorem dX0_placeBy_38 : decode cX0_placeBy 38 = .ok (.iaload, 1) := by decide +kernel
theorem dX0_placeBy_39 : decode cX0_placeBy 39 = .ok (.if_icmp .ne 12, 3) := by decide +kernel
theorem dX0_placeBy_42 : decode cX0_placeBy 42 = .ok (.iload 5, 2) := by decide +kernel
theorem dX0_placeBy_44 : decode cX0_placeBy 44 = .ok (.iload_n 2, 1) := by decide +kernel
theorem dX0_placeBy_45 : decode cX0_placeBy 45 = .ok (.if_icmp .ge 6, 3) := by decide +kernel
theorem dX0_placeBy_48 : decode cX0_placeBy 48 = .ok (.iinc 4 1, 3) := by decide +kernel
theorem dX0_placeBy_51 : decode cX0_placeBy 51 = .ok (.iinc 5 1, 3) := by decide +kernel
theorem dX0_placeBy_54 : decode cX0_placeBy 54 = .ok (.goto (-41), 3) := by decide +kernel
theorem dX0_placeBy_57 : decode cX0_placeBy 57 = .ok (.iload 4, 2) := by decide +kernel
theorem dX0_placeBy_59 : decode cX0_placeBy 59 = .ok (.ireturn, 1) := by decide +kernel
set_option maxRecDepth 20000 in
theorem ggX0_mostRacksNeeded_X4_racksFor : GoodIn wsX0_mostRacksNeeded wsX4_racksFor := goodIn_r _ [9] (by decide +kernel) (by decide +kernel)
set_option maxRecDepth 20000 in
theorem gX0_mostRacksNeeded_X4_racksFor_n49 : GoodIn wsX0_mostRacksNeeded (wsX4_racksFor) := ggX0_mostRacksNeeded_X4_racksFor
theorem dX0_mostRacksNeeded_0 : decode cX0_mostRacksNeeded 0 = .ok (.iconst 0, 1) := by decide +kernel
theorem dX0_mostRacksNeeded_1 : decode cX0_mostRacksNeeded 1 = .ok (.istore_n 2, 1) := by decide +kernel
theorem dX0_mostRacksNeeded_2 : decode cX0_mostRacksNeeded 2 = .ok (.iconst 0, 1) := by decide +kernel
theorem dX0_mostRacksNeeded_3 : decode cX0_mostRacksNeeded 3 = .ok (.istore_n 3, 1) := by decide +kernel
theorem dX0_mostRacksNeeded_4 : decode cX0_mostRacksNeeded 4 = .ok (.iload_n 3, 1) := by decide +kernel
theorem dX0_mostRacksNeeded_5 : decode cX0_mostRacksNeeded 5 = .ok (.aload_n 0, 1) := by decide +kernel
theorem dX0_mostRacksNeeded_6 : decode cX0_mostRacksNeeded 6 = .ok (.getfield 29, 3) := by decide +kernel
theorem dX0_mostRacksNeeded_9 : decode cX0_mostRacksNeeded 9 = .ok (.if_icmp .ge 26, 3) := by decide +kernel
theorem dX0_mostRacksNeeded_12 : decode cX0_mostRacksNeeded 12 = .ok (.iload_n 2, 1) := by decide +kernel
theorem dX0_mostRacksNeeded_13 : decode cX0_mostRacksNeeded 13 = .ok (.aload_n 0, 1) := by decide +kernel
theorem dX0_mostRacksNeeded_14 : decode cX0_mostRacksNeeded 14 = .ok (.getfield 26, 3) := by decide +kernel
theorem dX0_mostRacksNeeded_17 : decode cX0_mostRacksNeeded 17 = .ok (.iconst 2, 1) := by decide +kernel
theorem dX0_mostRacksNeeded_18 : decode cX0_mostRacksNeeded 18 = .ok (.aaload, 1) := by decide +kernel
theorem dX0_mostRacksNeeded_19 : decode cX0_mostRacksNeeded 19 = .ok (.iload_n 3, 1) := by decide +kernel
theorem dX0_mostRacksNeeded_20 : decode cX0_mostRacksNeeded 20 = .ok (.iaload, 1) := by decide +kernel
theorem dX0_mostRacksNeeded_21 : decode cX0_mostRacksNeeded 21 = .ok (.iload_n 1, 1) := by decide +kernel
theorem dX0_mostRacksNeeded_22 : decode cX0_mostRacksNeeded 22 = .ok (.invokestatic 49, 3) := by decide +kernel
theorem dX0_mostRacksNeeded_25 : decode cX0_mostRacksNeeded 25 = .ok (.invokestatic 52, 3) := by decide +kernel
theorem dX0_mostRacksNeeded_28 : decode cX0_mostRacksNeeded 28 = .ok (.istore_n 2, 1) := by decide +kernel
theorem dX0_mostRacksNeeded_29 : decode cX0_mostRacksNeeded 29 = .ok (.iinc 3 1, 3) := by decide +kernel
theorem dX0_mostRacksNeeded_32 : decode cX0_mostRacksNeeded 32 = .ok (.goto (-28), 3) := by decide +kernel
theorem dX0_mostRacksNeeded_35 : decode cX0_mostRacksNeeded 35 = .ok (.iload_n 2, 1) := by decide +kernel
theorem dX0_mostRacksNeeded_36 : decode cX0_mostRacksNeeded 36 = .ok (.ireturn, 1) := by decide +kernel
theorem dX0_hundredsOfAll_0 : decode cX0_hundredsOfAll 0 = .ok (.iconst 0, 1) := by decide +kernel
theorem dX0_hundredsOfAll_1 : decode cX0_hundredsOfAll 1 = .ok (.istore_n 1, 1) := by decide +kernel
theorem dX0_hundredsOfAll_2 : decode cX0_hundredsOfAll 2 = .ok (.iconst 0, 1) := by decide +kernel
theorem dX0_hundredsOfAll_3 : decode cX0_hundredsOfAll 3 = .ok (.istore_n 2, 1) := by decide +kernel
theorem dX0_hundredsOfAll_4 : decode cX0_hundredsOfAll 4 = .ok (.iload_n 2, 1) := by decide +kernel
theorem dX0_hundredsOfAll_5 : decode cX0_hundredsOfAll 5 = .ok (.aload_n 0, 1) := by decide +kernel
theorem dX0_hundredsOfAll_6 : decode cX0_hundredsOfAll 6 = .ok (.getfield 29, 3) := by decide +kernel
theorem dX0_hundredsOfAll_9 : decode cX0_hundredsOfAll 9 = .ok (.if_icmp .ge 20, 3) := by decide +kernel
theorem dX0_hundredsOfAll_12 : decode cX0_hundredsOfAll 12 = .ok (.iload_n 1, 1) := by decide +kernel
theorem dX0_hundredsOfAll_13 : decode cX0_hundredsOfAll 13 = .ok (.aload_n 0, 1) := by decide +kernel
theorem dX0_hundredsOfAll_14 : decode cX0_hundredsOfAll 14 = .ok (.getfield 26, 3) := by decide +kernel
theorem dX0_hundredsOfAll_17 : decode cX0_hundredsOfAll 17 = .ok (.iconst 2, 1) := by decide +kernel
theorem dX0_hundredsOfAll_18 : decode cX0_hundredsOfAll 18 = .ok (.aaload, 1) := by decide +kernel
theorem dX0_hundredsOfAll_19 : decode cX0_hundredsOfAll 19 = .ok (.iload_n 2, 1) := by decide +kernel
theorem dX0_hundredsOfAll_20 : decode cX0_hundredsOfAll 20 = .ok (.iaload, 1) := by decide +kernel
theorem dX0_hundredsOfAll_21 : decode cX0_hundredsOfAll 21 = .ok (.iadd, 1) := by decide +kernel
theorem dX0_hundredsOfAll_22 : decode cX0_hundredsOfAll 22 = .ok (.istore_n 1, 1) := by decide +kernel
theorem dX0_hundredsOfAll_23 : decode cX0_hundredsOfAll 23 = .ok (.iinc 2 1, 3) := by decide +kernel
theorem dX0_hundredsOfAll_26 : decode cX0_hundredsOfAll 26 = .ok (.goto (-22), 3) := by decide +kernel
theorem dX0_hundredsOfAll_29 : decode cX0_hundredsOfAll 29 = .ok (.iload_n 1, 1) := by decide +kernel
theorem dX0_hundredsOfAll_30 : decode cX0_hundredsOfAll 30 = .ok (.ireturn, 1) := by decide +kernel
set_option maxRecDepth 20000 in
theorem ggX1_init_X0_init : GoodIn wsX1_init wsX0_init := goodIn_r _ [10, 11, 2, 3, 12, 13, 14, 15, 16, 17, 18, 19, 23, 24, 25] (by decide +kernel) (by decide +kernel)
set_option maxRecDepth 20000 in
theorem gX1_init_X0_init : GoodIn wsX1_init (wsX0_init) := ggX1_init_X0_init
theorem dX1_init_0 : decode cX1_init 0 = .ok (.aload_n 0, 1) := by decide +kernel
theorem dX1_init_1 : decode cX1_init 1 = .ok (.invokespecial 3, 3) := by decide +kernel
theorem dX1_init_4 : decode cX1_init 4 = .ok (.aload_n 0, 1) := by decide +kernel
theorem dX1_init_5 : decode cX1_init 5 = .ok (.bipush 6, 2) := by decide +kernel
theorem dX1_init_7 : decode cX1_init 7 = .ok (.anewarray 9, 3) := by decide +kernel
theorem dX1_init_10 : decode cX1_init 10 = .ok (.putfield 11, 3) := by decide +kernel
theorem dX1_init_13 : decode cX1_init 13 = .ok (.iconst 0, 1) := by decide +kernel
theorem dX1_init_14 : decode cX1_init 14 = .ok (.istore_n 1, 1) := by decide +kernel
theorem dX1_init_15 : decode cX1_init 15 = .ok (.iload_n 1, 1) := by decide +kernel
theorem dX1_init_16 : decode cX1_init 16 = .ok (.bipush 6, 2) := by decide +kernel
theorem dX1_init_18 : decode cX1_init 18 = .ok (.if_icmp .ge 22, 3) := by decide +kernel
theorem dX1_init_21 : decode cX1_init 21 = .ok (.aload_n 0, 1) := by decide +kernel
theorem dX1_init_22 : decode cX1_init 22 = .ok (.getfield 11, 3) := by decide +kernel
theorem dX1_init_25 : decode cX1_init 25 = .ok (.iload_n 1, 1) := by decide +kernel
theorem dX1_init_26 : decode cX1_init 26 = .ok (.new 9, 3) := by decide +kernel
theorem dX1_init_29 : decode cX1_init 29 = .ok (.dup, 1) := by decide +kernel
theorem dX1_init_30 : decode cX1_init 30 = .ok (.invokespecial 17, 3) := by decide +kernel
theorem dX1_init_33 : decode cX1_init 33 = .ok (.aastore, 1) := by decide +kernel
theorem dX1_init_34 : decode cX1_init 34 = .ok (.iinc 1 1, 3) := by decide +kernel
theorem dX1_init_37 : decode cX1_init 37 = .ok (.goto (-22), 3) := by decide +kernel
theorem dX1_init_40 : decode cX1_init 40 = .ok (.return_, 1) := by decide +kernel
set_option maxRecDepth 20000 in
theorem ggX1_remember_X0_copyFrom : GoodIn wsX1_remember wsX0_copyFrom := goodIn_r _ [12, 13, 14, 15, 16, 17, 18, 19, 23, 24, 25] (by decide +kernel) (by decide +kernel)
set_option maxRecDepth 20000 in
theorem gX1_remember_X0_copyFrom : GoodIn wsX1_remember (wsV RX1 22 RX0 yX0_copyFrom wsX0_copyFrom) := goodIn_app (goodIn_of _ (by decide +kernel)) ggX1_remember_X0_copyFrom
theorem dX1_remember_0 : decode cX1_remember 0 = .ok (.aload_n 0, 1) := by decide +kernel
theorem dX1_remember_1 : decode cX1_remember 1 = .ok (.getfield 11, 3) := by decide +kernel
theorem dX1_remember_4 : decode cX1_remember 4 = .ok (.aload_n 0, 1) := by decide +kernel
theorem dX1_remember_5 : decode cX1_remember 5 = .ok (.getfield 18, 3) := by decide +kernel
theorem dX1_remember_8 : decode cX1_remember 8 = .ok (.aaload, 1) := by decide +kernel
theorem dX1_remember_9 : decode cX1_remember 9 = .ok (.aload_n 1, 1) := by decide +kernel
theorem dX1_remember_10 : decode cX1_remember 10 = .ok (.invokevirtual 22, 3) := by decide +kernel
theorem dX1_remember_13 : decode cX1_remember 13 = .ok (.aload_n 0, 1) := by decide +kernel
theorem dX1_remember_14 : decode cX1_remember 14 = .ok (.aload_n 0, 1) := by decide +kernel
theorem dX1_remember_15 : decode cX1_remember 15 = .ok (.getfield 18, 3) := by decide +kernel
theorem dX1_remember_18 : decode cX1_remember 18 = .ok (.iconst 5, 1) := by decide +kernel
theorem dX1_remember_19 : decode cX1_remember 19 = .ok (.if_icmp .ne 7, 3) := by decide +kernel
theorem dX1_remember_22 : decode cX1_remember 22 = .ok (.iconst 0, 1) := by decide +kernel
theorem dX1_remember_23 : decode cX1_remember 23 = .ok (.goto 9, 3) := by decide +kernel
theorem dX1_remember_26 : decode cX1_remember 26 = .ok (.aload_n 0, 1) := by decide +kernel
theorem dX1_remember_27 : decode cX1_remember 27 = .ok (.getfield 18, 3) := by decide +kernel
theorem dX1_remember_30 : decode cX1_remember 30 = .ok (.iconst 1, 1) := by decide +kernel
theorem dX1_remember_31 : decode cX1_remember 31 = .ok (.iadd, 1) := by decide +kernel
theorem dX1_remember_32 : decode cX1_remember 32 = .ok (.putfield 18, 3) := by decide +kernel
theorem dX1_remember_35 : decode cX1_remember 35 = .ok (.aload_n 0, 1) := by decide +kernel
theorem dX1_remember_36 : decode cX1_remember 36 = .ok (.aload_n 0, 1) := by decide +kernel
theorem dX1_remember_37 : decode cX1_remember 37 = .ok (.getfield 26, 3) := by decide +kernel
theorem dX1_remember_40 : decode cX1_remember 40 = .ok (.iconst 1, 1) := by decide +kernel
theorem dX1_remember_41 : decode cX1_remember 41 = .ok (.iadd, 1) := by decide +kernel
theorem dX1_remember_42 : decode cX1_remember 42 = .ok (.bipush 6, 2) := by decide +kernel
theorem dX1_remember_44 : decode cX1_remember 44 = .ok (.invokestatic 29, 3) := by decide +kernel
theorem dX1_remember_47 : decode cX1_remember 47 = .ok (.putfield 26, 3) := by decide +kernel
theorem dX1_remember_50 : decode cX1_remember 50 = .ok (.return_, 1) := by decide +kernel
set_option maxRecDepth 20000 in
theorem ggX1_takeBack_X0_copyFrom : GoodIn wsX1_takeBack wsX0_copyFrom := goodIn_r _ [8, 9, 10, 11, 12, 13, 14, 15, 19, 20, 21] (by decide +kernel) (by decide +kernel)
set_option maxRecDepth 20000 in
theorem gX1_takeBack_X0_copyFrom : GoodIn wsX1_takeBack (wsV RX1 22 RX0 yX0_copyFrom wsX0_copyFrom) := goodIn_app (goodIn_of _ (by decide +kernel)) ggX1_takeBack_X0_copyFrom
theorem dX1_takeBack_0 : decode cX1_takeBack 0 = .ok (.aload_n 0, 1) := by decide +kernel
theorem dX1_takeBack_1 : decode cX1_takeBack 1 = .ok (.aload_n 0, 1) := by decide +kernel
theorem dX1_takeBack_2 : decode cX1_takeBack 2 = .ok (.getfield 18, 3) := by decide +kernel
theorem dX1_takeBack_5 : decode cX1_takeBack 5 = .ok (.ifCond .ne 7, 3) := by decide +kernel
theorem dX1_takeBack_8 : decode cX1_takeBack 8 = .ok (.iconst 5, 1) := by decide +kernel
theorem dX1_takeBack_9 : decode cX1_takeBack 9 = .ok (.goto 9, 3) := by decide +kernel
theorem dX1_takeBack_12 : decode cX1_takeBack 12 = .ok (.aload_n 0, 1) := by decide +kernel
theorem dX1_takeBack_13 : decode cX1_takeBack 13 = .ok (.getfield 18, 3) := by decide +kernel
theorem dX1_takeBack_16 : decode cX1_takeBack 16 = .ok (.iconst 1, 1) := by decide +kernel
theorem dX1_takeBack_17 : decode cX1_takeBack 17 = .ok (.isub, 1) := by decide +kernel
theorem dX1_takeBack_18 : decode cX1_takeBack 18 = .ok (.putfield 18, 3) := by decide +kernel
theorem dX1_takeBack_21 : decode cX1_takeBack 21 = .ok (.aload_n 0, 1) := by decide +kernel
theorem dX1_takeBack_22 : decode cX1_takeBack 22 = .ok (.dup, 1) := by decide +kernel
theorem dX1_takeBack_23 : decode cX1_takeBack 23 = .ok (.getfield 26, 3) := by decide +kernel
theorem dX1_takeBack_26 : decode cX1_takeBack 26 = .ok (.iconst 1, 1) := by decide +kernel
theorem dX1_takeBack_27 : decode cX1_takeBack 27 = .ok (.isub, 1) := by decide +kernel
theorem dX1_takeBack_28 : decode cX1_takeBack 28 = .ok (.putfield 26, 3) := by decide +kernel
theorem dX1_takeBack_31 : decode cX1_takeBack 31 = .ok (.aload_n 1, 1) := by decide +kernel
theorem dX1_takeBack_32 : decode cX1_takeBack 32 = .ok (.aload_n 0, 1) := by decide +kernel
theorem dX1_takeBack_33 : decode cX1_takeBack 33 = .ok (.getfield 11, 3) := by decide +kernel
theorem dX1_takeBack_36 : decode cX1_takeBack 36 = .ok (.aload_n 0, 1) := by decide +kernel
theorem dX1_takeBack_37 : decode cX1_takeBack 37 = .ok (.getfield 18, 3) := by decide +kernel
theorem dX1_takeBack_40 : decode cX1_takeBack 40 = .ok (.aaload, 1) := by decide +kernel
theorem dX1_takeBack_41 : decode cX1_takeBack 41 = .ok (.invokevirtual 22, 3) := by decide +kernel
theorem dX1_takeBack_44 : decode cX1_takeBack 44 = .ok (.return_, 1) := by decide +kernel
set_option maxRecDepth 20000 in
theorem ggX2_init_X0_init : GoodIn wsX2_init wsX0_init := goodIn_r _ [12, 13, 2, 3, 8, 14, 15, 16, 17, 18, 19, 20, 21, 22, 23] (by decide +kernel) (by decide +kernel)
set_option maxRecDepth 20000 in
theorem gX2_init_X0_init : GoodIn wsX2_init (wsX0_init) := ggX2_init_X0_init
theorem dX2_init_0 : decode cX2_init 0 = .ok (.aload_n 0, 1) := by decide +kernel
theorem dX2_init_1 : decode cX2_init 1 = .ok (.invokespecial 3, 3) := by decide +kernel
theorem dX2_init_4 : decode cX2_init 4 = .ok (.aload_n 0, 1) := by decide +kernel
theorem dX2_init_5 : decode cX2_init 5 = .ok (.new 9, 3) := by decide +kernel
theorem dX2_init_8 : decode cX2_init 8 = .ok (.dup, 1) := by decide +kernel
theorem dX2_init_9 : decode cX2_init 9 = .ok (.invokespecial 11, 3) := by decide +kernel
theorem dX2_init_12 : decode cX2_init 12 = .ok (.putfield 12, 3) := by decide +kernel
theorem dX2_init_15 : decode cX2_init 15 = .ok (.aload_n 0, 1) := by decide +kernel
theorem dX2_init_16 : decode cX2_init 16 = .ok (.bipush 60, 2) := by decide +kernel
theorem dX2_init_18 : decode cX2_init 18 = .ok (.newarray .int, 2) := by decide +kernel
theorem dX2_init_20 : decode cX2_init 20 = .ok (.putfield 18, 3) := by decide +kernel
theorem dX2_init_23 : decode cX2_init 23 = .ok (.return_, 1) := by decide +kernel
theorem dX2_append_0 : decode cX2_append 0 = .ok (.aload_n 0, 1) := by decide +kernel
theorem dX2_append_1 : decode cX2_append 1 = .ok (.getfield 22, 3) := by decide +kernel
theorem dX2_append_4 : decode cX2_append 4 = .ok (.bipush 60, 2) := by decide +kernel
theorem dX2_append_6 : decode cX2_append 6 = .ok (.if_icmp .ge 23, 3) := by decide +kernel
theorem dX2_append_9 : decode cX2_append 9 = .ok (.aload_n 0, 1) := by decide +kernel
theorem dX2_append_10 : decode cX2_append 10 = .ok (.getfield 18, 3) := by decide +kernel
theorem dX2_append_13 : decode cX2_append 13 = .ok (.aload_n 0, 1) := by decide +kernel
theorem dX2_append_14 : decode cX2_append 14 = .ok (.getfield 22, 3) := by decide +kernel
theorem dX2_append_17 : decode cX2_append 17 = .ok (.iload_n 1, 1) := by decide +kernel
theorem dX2_append_18 : decode cX2_append 18 = .ok (.iastore, 1) := by decide +kernel
theorem dX2_append_19 : decode cX2_append 19 = .ok (.aload_n 0, 1) := by decide +kernel
theorem dX2_append_20 : decode cX2_append 20 = .ok (.dup, 1) := by decide +kernel
theorem dX2_append_21 : decode cX2_append 21 = .ok (.getfield 22, 3) := by decide +kernel
theorem dX2_append_24 : decode cX2_append 24 = .ok (.iconst 1, 1) := by decide +kernel
theorem dX2_append_25 : decode cX2_append 25 = .ok (.iadd, 1) := by decide +kernel
theorem dX2_append_26 : decode cX2_append 26 = .ok (.putfield 22, 3) := by decide +kernel
theorem dX2_append_29 : decode cX2_append 29 = .ok (.return_, 1) := by decide +kernel
set_option maxRecDepth 20000 in
theorem ggX2_parse_X2_takes : GoodIn wsX2_parse wsX2_takes := goodIn_r _ [10, 3, 11, 12, 13, 14, 15, 16, 17, 18, 19, 20, 9, 21, 22, 23, 24, 25, 26, 27, 28, 29, 30, 31, 32, 33, 1, 34, 35, 36, 37, 38, 39, 40, 41, 42, 43, 44, 45, 46, 47, 48, 49, 50, 51, 52, 53, 54, 55] (by decide +kernel) (by decide +kernel)
set_option maxRecDepth 20000 in
theorem gX2_parse_X2_takes : GoodIn wsX2_parse (wsV RX2 32 RX2 yX2_takes wsX2_takes) := goodIn_app (goodIn_of _ (by decide +kernel)) ggX2_parse_X2_takes
set_option maxRecDepth 20000 in
theorem ggX2_parse_X2_endJob : GoodIn wsX2_parse wsX2_endJob := goodIn_r _ [33, 1, 11, 12, 13, 14, 34, 35, 36, 37, 38, 39, 40, 45, 46, 47, 48, 49, 50, 51, 52, 53, 54, 55] (by decide +kernel) (by decide +kernel)
set_option maxRecDepth 20000 in
theorem gX2_parse_X2_endJob : GoodIn wsX2_parse (wsV RX2 36 RX2 yX2_endJob wsX2_endJob) := goodIn_app (goodIn_of _ (by decide +kernel)) ggX2_parse_X2_endJob
theorem dX2_parse_0 : decode cX2_parse 0 = .ok (.aload_n 0, 1) := by decide +kernel
theorem dX2_parse_1 : decode cX2_parse 1 = .ok (.getfield 12, 3) := by decide +kernel
theorem dX2_parse_4 : decode cX2_parse 4 = .ok (.iconst 0, 1) := by decide +kernel
theorem dX2_parse_5 : decode cX2_parse 5 = .ok (.putfield 26, 3) := by decide +kernel
theorem dX2_parse_8 : decode cX2_parse 8 = .ok (.aload_n 0, 1) := by decide +kernel
theorem dX2_parse_9 : decode cX2_parse 9 = .ok (.iconst 0, 1) := by decide +kernel
theorem dX2_parse_10 : decode cX2_parse 10 = .ok (.putfield 29, 3) := by decide +kernel
theorem dX2_parse_13 : decode cX2_parse 13 = .ok (.iconst 0, 1) := by decide +kernel
theorem dX2_parse_14 : decode cX2_parse 14 = .ok (.istore_n 1, 1) := by decide +kernel
theorem dX2_parse_15 : decode cX2_parse 15 = .ok (.iload_n 1, 1) := by decide +kernel
theorem dX2_parse_16 : decode cX2_parse 16 = .ok (.aload_n 0, 1) := by decide +kernel
theorem dX2_parse_17 : decode cX2_parse 17 = .ok (.getfield 22, 3) := by decide +kernel
theorem dX2_parse_20 : decode cX2_parse 20 = .ok (.if_icmp .ge 24, 3) := by decide +kernel
theorem dX2_parse_23 : decode cX2_parse 23 = .ok (.aload_n 0, 1) := by decide +kernel
theorem dX2_parse_24 : decode cX2_parse 24 = .ok (.aload_n 0, 1) := by decide +kernel
theorem dX2_parse_25 : decode cX2_parse 25 = .ok (.getfield 18, 3) := by decide +kernel
theorem dX2_parse_28 : decode cX2_parse 28 = .ok (.iload_n 1, 1) := by decide +kernel
theorem dX2_parse_29 : decode cX2_parse 29 = .ok (.iaload, 1) := by decide +kernel
theorem dX2_parse_30 : decode cX2_parse 30 = .ok (.invokevirtual 32, 3) := by decide +kernel
theorem dX2_parse_33 : decode cX2_parse 33 = .ok (.ifCond .ne 5, 3) := by decide +kernel
theorem dX2_parse_36 : decode cX2_parse 36 = .ok (.iload_n 1, 1) := by decide +kernel
theorem dX2_parse_37 : decode cX2_parse 37 = .ok (.ireturn, 1) := by decide +kernel
theorem dX2_parse_38 : decode cX2_parse 38 = .ok (.iinc 1 1, 3) := by decide +kernel
theorem dX2_parse_41 : decode cX2_parse 41 = .ok (.goto (-26), 3) := by decide +kernel
theorem dX2_parse_44 : decode cX2_parse 44 = .ok (.aload_n 0, 1) := by decide +kernel
theorem dX2_parse_45 : decode cX2_parse 45 = .ok (.getfield 29, 3) := by decide +kernel
theorem dX2_parse_48 : decode cX2_parse 48 = .ok (.bipush 6, 2) := by decide +kernel
theorem dX2_parse_50 : decode cX2_parse 50 = .ok (.if_icmp .eq 17, 3) := by decide +kernel
theorem dX2_parse_53 : decode cX2_parse 53 = .ok (.aload_n 0, 1) := by decide +kernel
theorem dX2_parse_54 : decode cX2_parse 54 = .ok (.getfield 29, 3) := by decide +kernel
theorem dX2_parse_57 : decode cX2_parse 57 = .ok (.bipush 8, 2) := by decide +kernel
theorem dX2_parse_59 : decode cX2_parse 59 = .ok (.if_icmp .eq 8, 3) := by decide +kernel
theorem dX2_parse_62 : decode cX2_parse 62 = .ok (.aload_n 0, 1) := by decide +kernel
theorem dX2_parse_63 : decode cX2_parse 63 = .ok (.getfield 22, 3) := by decide +kernel
theorem dX2_parse_66 : decode cX2_parse 66 = .ok (.ireturn, 1) := by decide +kernel
theorem dX2_parse_67 : decode cX2_parse 67 = .ok (.aload_n 0, 1) := by decide +kernel
theorem dX2_parse_68 : decode cX2_parse 68 = .ok (.invokevirtual 36, 3) := by decide +kernel
theorem dX2_parse_71 : decode cX2_parse 71 = .ok (.bipush (-6), 2) := by decide +kernel
theorem dX2_parse_73 : decode cX2_parse 73 = .ok (.ireturn, 1) := by decide +kernel
set_option maxRecDepth 20000 in
theorem ggX2_takes_X4_within : GoodIn wsX2_takes wsX4_within := goodIn_r _ [8] (by decide +kernel) (by decide +kernel)
set_option maxRecDepth 20000 in
theorem gX2_takes_X4_within_n39 : GoodIn wsX2_takes (wsX4_within) := ggX2_takes_X4_within
set_option maxRecDepth 20000 in
theorem ggX2_takes_X2_takesLetter : GoodIn wsX2_takes wsX2_takesLetter := goodIn_r _ [13, 1, 38, 39, 40, 41, 42, 43, 44, 45] (by decide +kernel) (by decide +kernel)
set_option maxRecDepth 20000 in
theorem gX2_takes_X2_takesLetter : GoodIn wsX2_takes (wsV RX2 43 RX2 yX2_takesLetter wsX2_takesLetter) := goodIn_app (goodIn_of _ (by decide +kernel)) ggX2_takes_X2_takesLetter
set_option maxRecDepth 20000 in
theorem ggX2_takes_X2_takesBehindHundreds : GoodIn wsX2_takes wsX2_takesBehindHundreds := goodIn_r _ [17, 4, 1, 18, 19, 20, 12, 21, 22, 23, 24, 25, 26, 2, 3, 5, 27, 28, 29, 30, 31, 32, 33, 38, 39, 40, 41, 42, 43, 44, 45, 46, 47, 48] (by decide +kernel) (by decide +kernel)
set_option maxRecDepth 20000 in
theorem gX2_takes_X2_takesBehindHundreds : GoodIn wsX2_takes (wsV RX2 59 RX2 yX2_takesBehindHundreds wsX2_takesBehindHundreds) := goodIn_app (goodIn_of _ (by decide +kernel)) ggX2_takes_X2_takesBehindHundreds
set_option maxRecDepth 20000 in
theorem ggX2_takes_X2_takesBehindDue : GoodIn wsX2_takes wsX2_takesBehindDue := goodIn_r _ [37, 5, 18, 19, 20, 12, 21, 1, 22, 23, 24, 25, 26, 2, 3, 4, 27, 28, 29, 30, 31, 32, 33, 38, 39, 40, 41, 42, 43, 44, 45, 46, 47, 48] (by decide +kernel) (by decide +kernel)
set_option maxRecDepth 20000 in
theorem gX2_takes_X2_takesBehindDue : GoodIn wsX2_takes (wsV RX2 63 RX2 yX2_takesBehindDue wsX2_takesBehindDue) := goodIn_app (goodIn_of _ (by decide +kernel)) ggX2_takes_X2_takesBehindDue
theorem dX2_takes_0 : decode cX2_takes 0 = .ok (.iload_n 1, 1) := by decide +kernel
theorem dX2_takes_1 : decode cX2_takes 1 = .ok (.bipush 48, 2) := by decide +kernel
theorem dX2_takes_3 : decode cX2_takes 3 = .ok (.bipush 57, 2) := by decide +kernel
theorem dX2_takes_5 : decode cX2_takes 5 = .ok (.invokestatic 39, 3) := by decide +kernel
theorem dX2_takes_8 : decode cX2_takes 8 = .ok (.ifCond .eq 10, 3) := by decide +kernel
theorem dX2_takes_11 : decode cX2_takes 11 = .ok (.iload_n 1, 1) := by decide +kernel
theorem dX2_takes_12 : decode cX2_takes 12 = .ok (.bipush 48, 2) := by decide +kernel
theorem dX2_takes_14 : decode cX2_takes 14 = .ok (.isub, 1) := by decide +kernel
theorem dX2_takes_15 : decode cX2_takes 15 = .ok (.goto 5, 3) := by decide +kernel
theorem dX2_takes_18 : decode cX2_takes 18 = .ok (.bipush (-6), 2) := by decide +kernel
theorem dX2_takes_20 : decode cX2_takes 20 = .ok (.istore_n 2, 1) := by decide +kernel
theorem dX2_takes_21 : decode cX2_takes 21 = .ok (.aload_n 0, 1) := by decide +kernel
theorem dX2_takes_22 : decode cX2_takes 22 = .ok (.getfield 29, 3) := by decide +kernel
theorem dX2_takes_25 : decode cX2_takes 25 = .ok (.tableswitch 179 0 7 #[47, 55, 77, 85, 107, 115, 149, 156], 47) := by decide +kernel
theorem dX2_takes_72 : decode cX2_takes 72 = .ok (.aload_n 0, 1) := by decide +kernel
theorem dX2_takes_73 : decode cX2_takes 73 = .ok (.iload_n 1, 1) := by decide +kernel
theorem dX2_takes_74 : decode cX2_takes 74 = .ok (.bipush 112, 2) := by decide +kernel
theorem dX2_takes_76 : decode cX2_takes 76 = .ok (.invokevirtual 43, 3) := by decide +kernel
theorem dX2_takes_79 : decode cX2_takes 79 = .ok (.ireturn, 1) := by decide +kernel
theorem dX2_takes_80 : decode cX2_takes 80 = .ok (.aload_n 0, 1) := by decide +kernel
theorem dX2_takes_81 : decode cX2_takes 81 = .ok (.iload_n 2, 1) := by decide +kernel
theorem dX2_takes_82 : decode cX2_takes 82 = .ok (.putfield 47, 3) := by decide +kernel
theorem dX2_takes_85 : decode cX2_takes 85 = .ok (.aload_n 0, 1) := by decide +kernel
theorem dX2_takes_86 : decode cX2_takes 86 = .ok (.iconst 2, 1) := by decide +kernel
theorem dX2_takes_87 : decode cX2_takes 87 = .ok (.putfield 29, 3) := by decide +kernel
theorem dX2_takes_90 : decode cX2_takes 90 = .ok (.iload_n 2, 1) := by decide +kernel
theorem dX2_takes_91 : decode cX2_takes 91 = .ok (.bipush (-6), 2) := by decide +kernel
theorem dX2_takes_93 : decode cX2_takes 93 = .ok (.if_icmp .eq 7, 3) := by decide +kernel
theorem dX2_takes_96 : decode cX2_takes 96 = .ok (.iconst 1, 1) := by decide +kernel
theorem dX2_takes_97 : decode cX2_takes 97 = .ok (.goto 4, 3) := by decide +kernel
theorem dX2_takes_100 : decode cX2_takes 100 = .ok (.iconst 0, 1) := by decide +kernel
theorem dX2_takes_101 : decode cX2_takes 101 = .ok (.ireturn, 1) := by decide +kernel
theorem dX2_takes_102 : decode cX2_takes 102 = .ok (.aload_n 0, 1) := by decide +kernel
theorem dX2_takes_103 : decode cX2_takes 103 = .ok (.iload_n 1, 1) := by decide +kernel
theorem dX2_takes_104 : decode cX2_takes 104 = .ok (.bipush 115, 2) := by decide +kernel
theorem dX2_takes_106 : decode cX2_takes 106 = .ok (.invokevirtual 43, 3) := by decide +kernel
theorem dX2_takes_109 : decode cX2_takes 109 = .ok (.ireturn, 1) := by decide +kernel
theorem dX2_takes_110 : decode cX2_takes 110 = .ok (.aload_n 0, 1) := by decide +kernel
theorem dX2_takes_111 : decode cX2_takes 111 = .ok (.iload_n 2, 1) := by decide +kernel
theorem dX2_takes_112 : decode cX2_takes 112 = .ok (.putfield 50, 3) := by decide +kernel
theorem dX2_takes_115 : decode cX2_takes 115 = .ok (.aload_n 0, 1) := by decide +kernel
theorem dX2_takes_116 : decode cX2_takes 116 = .ok (.iconst 4, 1) := by decide +kernel
theorem dX2_takes_117 : decode cX2_takes 117 = .ok (.putfield 29, 3) := by decide +kernel
theorem dX2_takes_120 : decode cX2_takes 120 = .ok (.iload_n 2, 1) := by decide +kernel
theorem dX2_takes_121 : decode cX2_takes 121 = .ok (.bipush (-6), 2) := by decide +kernel
theorem dX2_takes_123 : decode cX2_takes 123 = .ok (.if_icmp .eq 7, 3) := by decide +kernel
theorem dX2_takes_126 : decode cX2_takes 126 = .ok (.iconst 1, 1) := by decide +kernel
theorem dX2_takes_127 : decode cX2_takes 127 = .ok (.goto 4, 3) := by decide +kernel
theorem dX2_takes_130 : decode cX2_takes 130 = .ok (.iconst 0, 1) := by decide +kernel
theorem dX2_takes_131 : decode cX2_takes 131 = .ok (.ireturn, 1) := by decide +kernel
theorem dX2_takes_132 : decode cX2_takes 132 = .ok (.aload_n 0, 1) := by decide +kernel
theorem dX2_takes_133 : decode cX2_takes 133 = .ok (.iload_n 1, 1) := by decide +kernel
theorem dX2_takes_134 : decode cX2_takes 134 = .ok (.bipush 110, 2) := by decide +kernel
theorem dX2_takes_136 : decode cX2_takes 136 = .ok (.invokevirtual 43, 3) := by decide +kernel
theorem dX2_takes_139 : decode cX2_takes 139 = .ok (.ireturn, 1) := by decide +kernel
theorem dX2_takes_140 : decode cX2_takes 140 = .ok (.aload_n 0, 1) := by decide +kernel
theorem dX2_takes_141 : decode cX2_takes 141 = .ok (.iload_n 2, 1) := by decide +kernel
theorem dX2_takes_142 : decode cX2_takes 142 = .ok (.putfield 53, 3) := by decide +kernel
theorem dX2_takes_145 : decode cX2_takes 145 = .ok (.aload_n 0, 1) := by decide +kernel
theorem dX2_takes_146 : decode cX2_takes 146 = .ok (.sipush 3000, 3) := by decide +kernel
theorem dX2_takes_149 : decode cX2_takes 149 = .ok (.putfield 56, 3) := by decide +kernel
theorem dX2_takes_152 : decode cX2_takes 152 = .ok (.aload_n 0, 1) := by decide +kernel
theorem dX2_takes_153 : decode cX2_takes 153 = .ok (.bipush 6, 2) := by decide +kernel
theorem dX2_takes_155 : decode cX2_takes 155 = .ok (.putfield 29, 3) := by decide +kernel
theorem dX2_takes_158 : decode cX2_takes 158 = .ok (.iload_n 2, 1) := by decide +kernel
theorem dX2_takes_159 : decode cX2_takes 159 = .ok (.bipush (-6), 2) := by decide +kernel
theorem dX2_takes_161 : decode cX2_takes 161 = .ok (.if_icmp .eq 11, 3) := by decide +kernel
theorem dX2_takes_164 : decode cX2_takes 164 = .ok (.iload_n 2, 1) := by decide +kernel
theorem dX2_takes_165 : decode cX2_takes 165 = .ok (.ifCond .eq 7, 3) := by decide +kernel
theorem dX2_takes_168 : decode cX2_takes 168 = .ok (.iconst 1, 1) := by decide +kernel
theorem dX2_takes_169 : decode cX2_takes 169 = .ok (.goto 4, 3) := by decide +kernel
theorem dX2_takes_172 : decode cX2_takes 172 = .ok (.iconst 0, 1) := by decide +kernel
theorem dX2_takes_173 : decode cX2_takes 173 = .ok (.ireturn, 1) := by decide +kernel
theorem dX2_takes_174 : decode cX2_takes 174 = .ok (.aload_n 0, 1) := by decide +kernel
theorem dX2_takes_175 : decode cX2_takes 175 = .ok (.iload_n 1, 1) := by decide +kernel
theorem dX2_takes_176 : decode cX2_takes 176 = .ok (.iload_n 2, 1) := by decide +kernel
theorem dX2_takes_177 : decode cX2_takes 177 = .ok (.invokevirtual 59, 3) := by decide +kernel
theorem dX2_takes_180 : decode cX2_takes 180 = .ok (.ireturn, 1) := by decide +kernel
theorem dX2_takes_181 : decode cX2_takes 181 = .ok (.aload_n 0, 1) := by decide +kernel
theorem dX2_takes_182 : decode cX2_takes 182 = .ok (.iload_n 2, 1) := by decide +kernel
theorem dX2_takes_183 : decode cX2_takes 183 = .ok (.putfield 56, 3) := by decide +kernel
theorem dX2_takes_186 : decode cX2_takes 186 = .ok (.aload_n 0, 1) := by decide +kernel
theorem dX2_takes_187 : decode cX2_takes 187 = .ok (.bipush 8, 2) := by decide +kernel
theorem dX2_takes_189 : decode cX2_takes 189 = .ok (.putfield 29, 3) := by decide +kernel
theorem dX2_takes_192 : decode cX2_takes 192 = .ok (.iload_n 2, 1) := by decide +kernel
theorem dX2_takes_193 : decode cX2_takes 193 = .ok (.bipush (-6), 2) := by decide +kernel
theorem dX2_takes_195 : decode cX2_takes 195 = .ok (.if_icmp .eq 7, 3) := by decide +kernel
theorem dX2_takes_198 : decode cX2_takes 198 = .ok (.iconst 1, 1) := by decide +kernel
theorem dX2_takes_199 : decode cX2_takes 199 = .ok (.goto 4, 3) := by decide +kernel
theorem dX2_takes_202 : decode cX2_takes 202 = .ok (.iconst 0, 1) := by decide +kernel
theorem dX2_takes_203 : decode cX2_takes 203 = .ok (.ireturn, 1) := by decide +kernel
theorem dX2_takes_204 : decode cX2_takes 204 = .ok (.aload_n 0, 1) := by decide +kernel
theorem dX2_takes_205 : decode cX2_takes 205 = .ok (.iload_n 1, 1) := by decide +kernel
theorem dX2_takes_206 : decode cX2_takes 206 = .ok (.iload_n 2, 1) := by decide +kernel
theorem dX2_takes_207 : decode cX2_takes 207 = .ok (.invokevirtual 63, 3) := by decide +kernel
theorem dX2_takes_210 : decode cX2_takes 210 = .ok (.ireturn, 1) := by decide +kernel
theorem dX2_takesLetter_0 : decode cX2_takesLetter 0 = .ok (.aload_n 0, 1) := by decide +kernel
theorem dX2_takesLetter_1 : decode cX2_takesLetter 1 = .ok (.dup, 1) := by decide +kernel
theorem dX2_takesLetter_2 : decode cX2_takesLetter 2 = .ok (.getfield 29, 3) := by decide +kernel
theorem dX2_takesLetter_5 : decode cX2_takesLetter 5 = .ok (.iconst 1, 1) := by decide +kernel
theorem dX2_takesLetter_6 : decode cX2_takesLetter 6 = .ok (.iadd, 1) := by decide +kernel
theorem dX2_takesLetter_7 : decode cX2_takesLetter 7 = .ok (.putfield 29, 3) := by decide +kernel
theorem dX2_takesLetter_10 : decode cX2_takesLetter 10 = .ok (.iload_n 1, 1) := by decide +kernel
theorem dX2_takesLetter_11 : decode cX2_takesLetter 11 = .ok (.iload_n 2, 1) := by decide +kernel
theorem dX2_takesLetter_12 : decode cX2_takesLetter 12 = .ok (.if_icmp .ne 7, 3) := by decide +kernel
theorem dX2_takesLetter_15 : decode cX2_takesLetter 15 = .ok (.iconst 1, 1) := by decide +kernel
theorem dX2_takesLetter_16 : decode cX2_takesLetter 16 = .ok (.goto 4, 3) := by decide +kernel
theorem dX2_takesLetter_19 : decode cX2_takesLetter 19 = .ok (.iconst 0, 1) := by decide +kernel
theorem dX2_takesLetter_20 : decode cX2_takesLetter 20 = .ok (.ireturn, 1) := by decide +kernel
set_option maxRecDepth 20000 in
theorem ggX2_takesBehindHundreds_X2_takesEndOfJob : GoodIn wsX2_takesBehindHundreds wsX2_takesEndOfJob := goodIn_r _ [7, 2, 8, 9, 10, 6, 11, 12, 13, 14, 1, 15, 16, 17, 18, 19, 20, 21, 22, 23, 24, 25, 26, 27, 28, 29, 30, 31, 32, 33] (by decide +kernel) (by decide +kernel)
set_option maxRecDepth 20000 in
theorem gX2_takesBehindHundreds_X2_takesEndOfJob : GoodIn wsX2_takesBehindHundreds (wsV RX2 66 RX2 yX2_takesEndOfJob wsX2_takesEndOfJob) := goodIn_app (goodIn_of _ (by decide +kernel)) ggX2_takesBehindHundreds_X2_takesEndOfJob
theorem dX2_takesBehindHundreds_0 : decode cX2_takesBehindHundreds 0 = .ok (.iload_n 2, 1) := by decide +kernel
theorem dX2_takesBehindHundreds_1 : decode cX2_takesBehindHundreds 1 = .ok (.bipush (-6), 2) := by decide +kernel
theorem dX2_takesBehindHundreds_3 : decode cX2_takesBehindHundreds 3 = .ok (.if_icmp .eq 31, 3) := by decide +kernel
theorem dX2_takesBehindHundreds_6 : decode cX2_takesBehindHundreds 6 = .ok (.aload_n 0, 1) := by decide +kernel
theorem dX2_takesBehindHundreds_7 : decode cX2_takesBehindHundreds 7 = .ok (.bipush 10, 2) := by decide +kernel
theorem dX2_takesBehindHundreds_9 : decode cX2_takesBehindHundreds 9 = .ok (.aload_n 0, 1) := by decide +kernel
theorem dX2_takesBehindHundreds_10 : decode cX2_takesBehindHundreds 10 = .ok (.getfield 53, 3) := by decide +kernel
theorem dX2_takesBehindHundreds_13 : decode cX2_takesBehindHundreds 13 = .ok (.imul, 1) := by decide +kernel
theorem dX2_takesBehindHundreds_14 : decode cX2_takesBehindHundreds 14 = .ok (.iload_n 2, 1) := by decide +kernel
theorem dX2_takesBehindHundreds_15 : decode cX2_takesBehindHundreds 15 = .ok (.iadd, 1) := by decide +kernel
theorem dX2_takesBehindHundreds_16 : decode cX2_takesBehindHundreds 16 = .ok (.putfield 53, 3) := by decide +kernel
theorem dX2_takesBehindHundreds_19 : decode cX2_takesBehindHundreds 19 = .ok (.aload_n 0, 1) := by decide +kernel
theorem dX2_takesBehindHundreds_20 : decode cX2_takesBehindHundreds 20 = .ok (.getfield 53, 3) := by decide +kernel
theorem dX2_takesBehindHundreds_23 : decode cX2_takesBehindHundreds 23 = .ok (.bipush 20, 2) := by decide +kernel
theorem dX2_takesBehindHundreds_25 : decode cX2_takesBehindHundreds 25 = .ok (.if_icmp .gt 7, 3) := by decide +kernel
theorem dX2_takesBehindHundreds_28 : decode cX2_takesBehindHundreds 28 = .ok (.iconst 1, 1) := by decide +kernel
theorem dX2_takesBehindHundreds_29 : decode cX2_takesBehindHundreds 29 = .ok (.goto 4, 3) := by decide +kernel
theorem dX2_takesBehindHundreds_32 : decode cX2_takesBehindHundreds 32 = .ok (.iconst 0, 1) := by decide +kernel
theorem dX2_takesBehindHundreds_33 : decode cX2_takesBehindHundreds 33 = .ok (.ireturn, 1) := by decide +kernel
theorem dX2_takesBehindHundreds_34 : decode cX2_takesBehindHundreds 34 = .ok (.iload_n 1, 1) := by decide +kernel
theorem dX2_takesBehindHundreds_35 : decode cX2_takesBehindHundreds 35 = .ok (.bipush 100, 2) := by decide +kernel
theorem dX2_takesBehindHundreds_37 : decode cX2_takesBehindHundreds 37 = .ok (.if_icmp .ne 11, 3) := by decide +kernel
theorem dX2_takesBehindHundreds_40 : decode cX2_takesBehindHundreds 40 = .ok (.aload_n 0, 1) := by decide +kernel
theorem dX2_takesBehindHundreds_41 : decode cX2_takesBehindHundreds 41 = .ok (.bipush 7, 2) := by decide +kernel
theorem dX2_takesBehindHundreds_43 : decode cX2_takesBehindHundreds 43 = .ok (.putfield 29, 3) := by decide +kernel
theorem dX2_takesBehindHundreds_46 : decode cX2_takesBehindHundreds 46 = .ok (.iconst 1, 1) := by decide +kernel
theorem dX2_takesBehindHundreds_47 : decode cX2_takesBehindHundreds 47 = .ok (.ireturn, 1) := by decide +kernel
theorem dX2_takesBehindHundreds_48 : decode cX2_takesBehindHundreds 48 = .ok (.aload_n 0, 1) := by decide +kernel
theorem dX2_takesBehindHundreds_49 : decode cX2_takesBehindHundreds 49 = .ok (.iload_n 1, 1) := by decide +kernel
theorem dX2_takesBehindHundreds_50 : decode cX2_takesBehindHundreds 50 = .ok (.invokevirtual 66, 3) := by decide +kernel
theorem dX2_takesBehindHundreds_53 : decode cX2_takesBehindHundreds 53 = .ok (.ireturn, 1) := by decide +kernel
set_option maxRecDepth 20000 in
theorem ggX2_takesBehindDue_X2_takesEndOfJob : GoodIn wsX2_takesBehindDue wsX2_takesEndOfJob := goodIn_r _ [6, 7, 8, 9, 10, 5, 11, 12, 13, 14, 15, 1, 16, 17, 18, 19, 20, 21, 22, 23, 24, 25, 26, 27, 28, 29, 30, 31, 32, 33] (by decide +kernel) (by decide +kernel)
set_option maxRecDepth 20000 in
theorem gX2_takesBehindDue_X2_takesEndOfJob : GoodIn wsX2_takesBehindDue (wsV RX2 66 RX2 yX2_takesEndOfJob wsX2_takesEndOfJob) := goodIn_app (goodIn_of _ (by decide +kernel)) ggX2_takesBehindDue_X2_takesEndOfJob
theorem dX2_takesBehindDue_0 : decode cX2_takesBehindDue 0 = .ok (.iload_n 2, 1) := by decide +kernel
theorem dX2_takesBehindDue_1 : decode cX2_takesBehindDue 1 = .ok (.bipush (-6), 2) := by decide +kernel
theorem dX2_takesBehindDue_3 : decode cX2_takesBehindDue 3 = .ok (.if_icmp .eq 49, 3) := by decide +kernel
theorem dX2_takesBehindDue_6 : decode cX2_takesBehindDue 6 = .ok (.aload_n 0, 1) := by decide +kernel
theorem dX2_takesBehindDue_7 : decode cX2_takesBehindDue 7 = .ok (.getfield 56, 3) := by decide +kernel
theorem dX2_takesBehindDue_10 : decode cX2_takesBehindDue 10 = .ok (.ifCond .ne 7, 3) := by decide +kernel
theorem dX2_takesBehindDue_13 : decode cX2_takesBehindDue 13 = .ok (.iconst 1, 1) := by decide +kernel
theorem dX2_takesBehindDue_14 : decode cX2_takesBehindDue 14 = .ok (.goto 4, 3) := by decide +kernel
theorem dX2_takesBehindDue_17 : decode cX2_takesBehindDue 17 = .ok (.iconst 0, 1) := by decide +kernel
theorem dX2_takesBehindDue_18 : decode cX2_takesBehindDue 18 = .ok (.istore_n 3, 1) := by decide +kernel
theorem dX2_takesBehindDue_19 : decode cX2_takesBehindDue 19 = .ok (.aload_n 0, 1) := by decide +kernel
theorem dX2_takesBehindDue_20 : decode cX2_takesBehindDue 20 = .ok (.bipush 10, 2) := by decide +kernel
theorem dX2_takesBehindDue_22 : decode cX2_takesBehindDue 22 = .ok (.aload_n 0, 1) := by decide +kernel
theorem dX2_takesBehindDue_23 : decode cX2_takesBehindDue 23 = .ok (.getfield 56, 3) := by decide +kernel
theorem dX2_takesBehindDue_26 : decode cX2_takesBehindDue 26 = .ok (.imul, 1) := by decide +kernel
theorem dX2_takesBehindDue_27 : decode cX2_takesBehindDue 27 = .ok (.iload_n 2, 1) := by decide +kernel
theorem dX2_takesBehindDue_28 : decode cX2_takesBehindDue 28 = .ok (.iadd, 1) := by decide +kernel
theorem dX2_takesBehindDue_29 : decode cX2_takesBehindDue 29 = .ok (.putfield 56, 3) := by decide +kernel
theorem dX2_takesBehindDue_32 : decode cX2_takesBehindDue 32 = .ok (.iload_n 3, 1) := by decide +kernel
theorem dX2_takesBehindDue_33 : decode cX2_takesBehindDue 33 = .ok (.ifCond .ne 17, 3) := by decide +kernel
theorem dX2_takesBehindDue_36 : decode cX2_takesBehindDue 36 = .ok (.aload_n 0, 1) := by decide +kernel
theorem dX2_takesBehindDue_37 : decode cX2_takesBehindDue 37 = .ok (.getfield 56, 3) := by decide +kernel
theorem dX2_takesBehindDue_40 : decode cX2_takesBehindDue 40 = .ok (.sipush 3000, 3) := by decide +kernel
theorem dX2_takesBehindDue_43 : decode cX2_takesBehindDue 43 = .ok (.if_icmp .gt 7, 3) := by decide +kernel
theorem dX2_takesBehindDue_46 : decode cX2_takesBehindDue 46 = .ok (.iconst 1, 1) := by decide +kernel
theorem dX2_takesBehindDue_47 : decode cX2_takesBehindDue 47 = .ok (.goto 4, 3) := by decide +kernel
theorem dX2_takesBehindDue_50 : decode cX2_takesBehindDue 50 = .ok (.iconst 0, 1) := by decide +kernel
theorem dX2_takesBehindDue_51 : decode cX2_takesBehindDue 51 = .ok (.ireturn, 1) := by decide +kernel
theorem dX2_takesBehindDue_52 : decode cX2_takesBehindDue 52 = .ok (.aload_n 0, 1) := by decide +kernel
theorem dX2_takesBehindDue_53 : decode cX2_takesBehindDue 53 = .ok (.iload_n 1, 1) := by decide +kernel
theorem dX2_takesBehindDue_54 : decode cX2_takesBehindDue 54 = .ok (.invokevirtual 66, 3) := by decide +kernel
theorem dX2_takesBehindDue_57 : decode cX2_takesBehindDue 57 = .ok (.ireturn, 1) := by decide +kernel
set_option maxRecDepth 20000 in
theorem ggX2_takesEndOfJob_X2_endJob : GoodIn wsX2_takesEndOfJob wsX2_endJob := goodIn_r _ [6, 7, 8, 9, 10, 11, 12, 13, 14, 15, 16, 17, 18, 19, 20, 21, 22, 23, 24, 25, 26, 27, 28, 29] (by decide +kernel) (by decide +kernel)
set_option maxRecDepth 20000 in
theorem gX2_takesEndOfJob_X2_endJob : GoodIn wsX2_takesEndOfJob (wsV RX2 36 RX2 yX2_endJob wsX2_endJob) := goodIn_app (goodIn_of _ (by decide +kernel)) ggX2_takesEndOfJob_X2_endJob
theorem dX2_takesEndOfJob_0 : decode cX2_takesEndOfJob 0 = .ok (.iload_n 1, 1) := by decide +kernel
theorem dX2_takesEndOfJob_1 : decode cX2_takesEndOfJob 1 = .ok (.bipush 59, 2) := by decide +kernel
theorem dX2_takesEndOfJob_3 : decode cX2_takesEndOfJob 3 = .ok (.if_icmp .eq 5, 3) := by decide +kernel
theorem dX2_takesEndOfJob_6 : decode cX2_takesEndOfJob 6 = .ok (.iconst 0, 1) := by decide +kernel
theorem dX2_takesEndOfJob_7 : decode cX2_takesEndOfJob 7 = .ok (.ireturn, 1) := by decide +kernel
theorem dX2_takesEndOfJob_8 : decode cX2_takesEndOfJob 8 = .ok (.aload_n 0, 1) := by decide +kernel
theorem dX2_takesEndOfJob_9 : decode cX2_takesEndOfJob 9 = .ok (.invokevirtual 36, 3) := by decide +kernel
theorem dX2_takesEndOfJob_12 : decode cX2_takesEndOfJob 12 = .ok (.aload_n 0, 1) := by decide +kernel
theorem dX2_takesEndOfJob_13 : decode cX2_takesEndOfJob 13 = .ok (.iconst 0, 1) := by decide +kernel
theorem dX2_takesEndOfJob_14 : decode cX2_takesEndOfJob 14 = .ok (.putfield 29, 3) := by decide +kernel
theorem dX2_takesEndOfJob_17 : decode cX2_takesEndOfJob 17 = .ok (.iconst 1, 1) := by decide +kernel
theorem dX2_takesEndOfJob_18 : decode cX2_takesEndOfJob 18 = .ok (.ireturn, 1) := by decide +kernel
set_option maxRecDepth 20000 in
theorem ggX2_endJob_X0_append : GoodIn wsX2_endJob wsX0_append := goodIn_r _ [10, 11, 12, 21, 22, 23] (by decide +kernel) (by decide +kernel)
set_option maxRecDepth 20000 in
theorem gX2_endJob_X0_append : GoodIn wsX2_endJob (wsV RX2 69 RX0 yX0_append wsX0_append) := goodIn_app (goodIn_of _ (by decide +kernel)) ggX2_endJob_X0_append
theorem dX2_endJob_0 : decode cX2_endJob 0 = .ok (.aload_n 0, 1) := by decide +kernel
theorem dX2_endJob_1 : decode cX2_endJob 1 = .ok (.getfield 12, 3) := by decide +kernel
theorem dX2_endJob_4 : decode cX2_endJob 4 = .ok (.aload_n 0, 1) := by decide +kernel
theorem dX2_endJob_5 : decode cX2_endJob 5 = .ok (.getfield 47, 3) := by decide +kernel
theorem dX2_endJob_8 : decode cX2_endJob 8 = .ok (.aload_n 0, 1) := by decide +kernel
theorem dX2_endJob_9 : decode cX2_endJob 9 = .ok (.getfield 50, 3) := by decide +kernel
theorem dX2_endJob_12 : decode cX2_endJob 12 = .ok (.aload_n 0, 1) := by decide +kernel
theorem dX2_endJob_13 : decode cX2_endJob 13 = .ok (.getfield 53, 3) := by decide +kernel
theorem dX2_endJob_16 : decode cX2_endJob 16 = .ok (.aload_n 0, 1) := by decide +kernel
theorem dX2_endJob_17 : decode cX2_endJob 17 = .ok (.getfield 56, 3) := by decide +kernel
theorem dX2_endJob_20 : decode cX2_endJob 20 = .ok (.invokevirtual 69, 3) := by decide +kernel
theorem dX2_endJob_23 : decode cX2_endJob 23 = .ok (.return_, 1) := by decide +kernel
end
section
theorem dX3_init_0 : decode cX3_init 0 = .ok (.aload_n 0, 1) := by decide +kernel
theorem dX3_init_1 : decode cX3_init 1 = .ok (.invokespecial 3, 3) := by decide +kernel
theorem dX3_init_4 : decode cX3_init 4 = .ok (.aload_n 0, 1) := by decide +kernel
theorem dX3_init_5 : decode cX3_init 5 = .ok (.bipush 12, 2) := by decide +kernel
theorem dX3_init_7 : decode cX3_init 7 = .ok (.newarray .int, 2) := by decide +kernel
theorem dX3_init_9 : decode cX3_init 9 = .ok (.putfield 9, 3) := by decide +kernel
theorem dX3_init_12 : decode cX3_init 12 = .ok (.aload_n 0, 1) := by decide +kernel
theorem dX3_init_13 : decode cX3_init 13 = .ok (.bipush 12, 2) := by decide +kernel
theorem dX3_init_15 : decode cX3_init 15 = .ok (.newarray .int, 2) := by decide +kernel
theorem dX3_init_17 : decode cX3_init 17 = .ok (.putfield 15, 3) := by decide +kernel
theorem dX3_init_20 : decode cX3_init 20 = .ok (.aload_n 0, 1) := by decide +kernel
theorem dX3_init_21 : decode cX3_init 21 = .ok (.bipush 12, 2) := by decide +kernel
theorem dX3_init_23 : decode cX3_init 23 = .ok (.newarray .int, 2) := by decide +kernel
theorem dX3_init_25 : decode cX3_init 25 = .ok (.putfield 18, 3) := by decide +kernel
theorem dX3_init_28 : decode cX3_init 28 = .ok (.aload_n 0, 1) := by decide +kernel
theorem dX3_init_29 : decode cX3_init 29 = .ok (.bipush 12, 2) := by decide +kernel
theorem dX3_init_31 : decode cX3_init 31 = .ok (.newarray .int, 2) := by decide +kernel
theorem dX3_init_33 : decode cX3_init 33 = .ok (.putfield 21, 3) := by decide +kernel
theorem dX3_init_36 : decode cX3_init 36 = .ok (.aload_n 0, 1) := by decide +kernel
theorem dX3_init_37 : decode cX3_init 37 = .ok (.bipush 12, 2) := by decide +kernel
theorem dX3_init_39 : decode cX3_init 39 = .ok (.newarray .int, 2) := by decide +kernel
theorem dX3_init_41 : decode cX3_init 41 = .ok (.putfield 24, 3) := by decide +kernel
theorem dX3_init_44 : decode cX3_init 44 = .ok (.aload_n 0, 1) := by decide +kernel
theorem dX3_init_45 : decode cX3_init 45 = .ok (.bipush 12, 2) := by decide +kernel
theorem dX3_init_47 : decode cX3_init 47 = .ok (.newarray .int, 2) := by decide +kernel
theorem dX3_init_49 : decode cX3_init 49 = .ok (.putfield 27, 3) := by decide +kernel
theorem dX3_init_52 : decode cX3_init 52 = .ok (.aload_n 0, 1) := by decide +kernel
theorem dX3_init_53 : decode cX3_init 53 = .ok (.bipush 12, 2) := by decide +kernel
theorem dX3_init_55 : decode cX3_init 55 = .ok (.newarray .int, 2) := by decide +kernel
theorem dX3_init_57 : decode cX3_init 57 = .ok (.putfield 30, 3) := by decide +kernel
theorem dX3_init_60 : decode cX3_init 60 = .ok (.aload_n 0, 1) := by decide +kernel
theorem dX3_init_61 : decode cX3_init 61 = .ok (.bipush 12, 2) := by decide +kernel
theorem dX3_init_63 : decode cX3_init 63 = .ok (.newarray .int, 2) := by decide +kernel
theorem dX3_init_65 : decode cX3_init 65 = .ok (.putfield 33, 3) := by decide +kernel
theorem dX3_init_68 : decode cX3_init 68 = .ok (.return_, 1) := by decide +kernel
set_option maxRecDepth 20000 in
theorem ggX3_print_X3_clear : GoodIn wsX3_print wsX3_clear := goodIn_r _ [7, 8, 9, 10, 11, 12, 13, 14, 15, 16, 56, 57, 58, 59, 60, 61, 62, 63, 64, 65, 66, 67, 68, 69, 70, 71, 72, 73] (by decide +kernel) (by decide +kernel)
set_option maxRecDepth 20000 in
theorem gX3_print_X3_clear : GoodIn wsX3_print (wsV RX3 36 RX3 yX3_clear wsX3_clear) := goodIn_app (goodIn_of _ (by decide +kernel)) ggX3_print_X3_clear
set_option maxRecDepth 20000 in
theorem ggX3_print_X3_makeReady : GoodIn wsX3_print wsX3_makeReady := goodIn_r _ [20, 21, 22, 11, 23, 24, 12, 25, 26, 6, 27, 53, 54, 55, 56, 57, 58, 59, 60, 61, 62, 63, 64, 65, 66, 67, 68, 69, 70, 71, 72, 73] (by decide +kernel) (by decide +kernel)
set_option maxRecDepth 20000 in
theorem gX3_print_X3_makeReady : GoodIn wsX3_print (wsV RX3 46 RX3 yX3_makeReady wsX3_makeReady) := goodIn_app (goodIn_of _ (by decide +kernel)) ggX3_print_X3_makeReady
set_option maxRecDepth 20000 in
theorem ggX3_print_X3_printJob : GoodIn wsX3_print wsX3_printJob := goodIn_r _ [31, 32, 21, 23, 24, 33, 34, 35, 13, 36, 37, 38, 39, 40, 41, 6, 42, 16, 43, 15, 44, 45, 46, 47, 56, 57, 58, 59, 60, 61, 62, 63, 64, 65, 66, 67, 68, 69, 70, 71, 72, 73, 53, 54, 55] (by decide +kernel) (by decide +kernel)
set_option maxRecDepth 20000 in
theorem gX3_print_X3_printJob : GoodIn wsX3_print (wsV RX3 50 RX3 yX3_printJob wsX3_printJob) := goodIn_app (goodIn_of _ (by decide +kernel)) ggX3_print_X3_printJob
set_option maxRecDepth 20000 in
theorem ggX3_print_X3_dryJob : GoodIn wsX3_print wsX3_dryJob := goodIn_r _ [51, 43, 32, 24, 15, 33, 14, 44, 45, 46, 47, 52, 21, 9, 10, 8, 56, 57, 58, 59, 60, 61, 62, 63, 64, 65, 66, 67, 68, 69, 70, 71, 72, 73, 53, 54, 55] (by decide +kernel) (by decide +kernel)
set_option maxRecDepth 20000 in
theorem gX3_print_X3_dryJob : GoodIn wsX3_print (wsV RX3 54 RX3 yX3_dryJob wsX3_dryJob) := goodIn_app (goodIn_of _ (by decide +kernel)) ggX3_print_X3_dryJob
theorem dX3_print_0 : decode cX3_print 0 = .ok (.aload_n 0, 1) := by decide +kernel
theorem dX3_print_1 : decode cX3_print 1 = .ok (.invokevirtual 36, 3) := by decide +kernel
theorem dX3_print_4 : decode cX3_print 4 = .ok (.aload_n 0, 1) := by decide +kernel
theorem dX3_print_5 : decode cX3_print 5 = .ok (.aload_n 1, 1) := by decide +kernel
theorem dX3_print_6 : decode cX3_print 6 = .ok (.getfield 39, 3) := by decide +kernel
theorem dX3_print_9 : decode cX3_print 9 = .ok (.putfield 45, 3) := by decide +kernel
theorem dX3_print_12 : decode cX3_print 12 = .ok (.iconst 0, 1) := by decide +kernel
theorem dX3_print_13 : decode cX3_print 13 = .ok (.istore_n 3, 1) := by decide +kernel
theorem dX3_print_14 : decode cX3_print 14 = .ok (.iload_n 3, 1) := by decide +kernel
theorem dX3_print_15 : decode cX3_print 15 = .ok (.aload_n 0, 1) := by decide +kernel
theorem dX3_print_16 : decode cX3_print 16 = .ok (.getfield 45, 3) := by decide +kernel
theorem dX3_print_19 : decode cX3_print 19 = .ok (.if_icmp .ge 28, 3) := by decide +kernel
theorem dX3_print_22 : decode cX3_print 22 = .ok (.aload_n 0, 1) := by decide +kernel
theorem dX3_print_23 : decode cX3_print 23 = .ok (.aload_n 1, 1) := by decide +kernel
theorem dX3_print_24 : decode cX3_print 24 = .ok (.iload_n 3, 1) := by decide +kernel
theorem dX3_print_25 : decode cX3_print 25 = .ok (.invokevirtual 46, 3) := by decide +kernel
theorem dX3_print_28 : decode cX3_print 28 = .ok (.aload_n 0, 1) := by decide +kernel
theorem dX3_print_29 : decode cX3_print 29 = .ok (.aload_n 1, 1) := by decide +kernel
theorem dX3_print_30 : decode cX3_print 30 = .ok (.iload_n 3, 1) := by decide +kernel
theorem dX3_print_31 : decode cX3_print 31 = .ok (.iload_n 2, 1) := by decide +kernel
theorem dX3_print_32 : decode cX3_print 32 = .ok (.invokevirtual 50, 3) := by decide +kernel
theorem dX3_print_35 : decode cX3_print 35 = .ok (.aload_n 0, 1) := by decide +kernel
theorem dX3_print_36 : decode cX3_print 36 = .ok (.aload_n 1, 1) := by decide +kernel
theorem dX3_print_37 : decode cX3_print 37 = .ok (.iload_n 3, 1) := by decide +kernel
theorem dX3_print_38 : decode cX3_print 38 = .ok (.invokevirtual 54, 3) := by decide +kernel
theorem dX3_print_41 : decode cX3_print 41 = .ok (.iinc 3 1, 3) := by decide +kernel
theorem dX3_print_44 : decode cX3_print 44 = .ok (.goto (-30), 3) := by decide +kernel
theorem dX3_print_47 : decode cX3_print 47 = .ok (.return_, 1) := by decide +kernel
theorem dX3_clear_0 : decode cX3_clear 0 = .ok (.aload_n 0, 1) := by decide +kernel
theorem dX3_clear_1 : decode cX3_clear 1 = .ok (.iconst 0, 1) := by decide +kernel
theorem dX3_clear_2 : decode cX3_clear 2 = .ok (.putfield 57, 3) := by decide +kernel
theorem dX3_clear_5 : decode cX3_clear 5 = .ok (.aload_n 0, 1) := by decide +kernel
theorem dX3_clear_6 : decode cX3_clear 6 = .ok (.iconst 0, 1) := by decide +kernel
theorem dX3_clear_7 : decode cX3_clear 7 = .ok (.putfield 60, 3) := by decide +kernel
theorem dX3_clear_10 : decode cX3_clear 10 = .ok (.aload_n 0, 1) := by decide +kernel
theorem dX3_clear_11 : decode cX3_clear 11 = .ok (.iconst 0, 1) := by decide +kernel
theorem dX3_clear_12 : decode cX3_clear 12 = .ok (.putfield 63, 3) := by decide +kernel
theorem dX3_clear_15 : decode cX3_clear 15 = .ok (.aload_n 0, 1) := by decide +kernel
theorem dX3_clear_16 : decode cX3_clear 16 = .ok (.iconst 0, 1) := by decide +kernel
theorem dX3_clear_17 : decode cX3_clear 17 = .ok (.putfield 66, 3) := by decide +kernel
theorem dX3_clear_20 : decode cX3_clear 20 = .ok (.aload_n 0, 1) := by decide +kernel
theorem dX3_clear_21 : decode cX3_clear 21 = .ok (.iconst 0, 1) := by decide +kernel
theorem dX3_clear_22 : decode cX3_clear 22 = .ok (.putfield 69, 3) := by decide +kernel
theorem dX3_clear_25 : decode cX3_clear 25 = .ok (.aload_n 0, 1) := by decide +kernel
theorem dX3_clear_26 : decode cX3_clear 26 = .ok (.iconst 0, 1) := by decide +kernel
theorem dX3_clear_27 : decode cX3_clear 27 = .ok (.putfield 72, 3) := by decide +kernel
theorem dX3_clear_30 : decode cX3_clear 30 = .ok (.aload_n 0, 1) := by decide +kernel
theorem dX3_clear_31 : decode cX3_clear 31 = .ok (.iconst 0, 1) := by decide +kernel
theorem dX3_clear_32 : decode cX3_clear 32 = .ok (.putfield 75, 3) := by decide +kernel
theorem dX3_clear_35 : decode cX3_clear 35 = .ok (.aload_n 0, 1) := by decide +kernel
theorem dX3_clear_36 : decode cX3_clear 36 = .ok (.iconst 0, 1) := by decide +kernel
theorem dX3_clear_37 : decode cX3_clear 37 = .ok (.putfield 78, 3) := by decide +kernel
theorem dX3_clear_40 : decode cX3_clear 40 = .ok (.aload_n 0, 1) := by decide +kernel
theorem dX3_clear_41 : decode cX3_clear 41 = .ok (.iconst 0, 1) := by decide +kernel
theorem dX3_clear_42 : decode cX3_clear 42 = .ok (.putfield 81, 3) := by decide +kernel
theorem dX3_clear_45 : decode cX3_clear 45 = .ok (.return_, 1) := by decide +kernel
set_option maxRecDepth 20000 in
theorem ggX3_makeReady_X3_washAhead : GoodIn wsX3_makeReady wsX3_washAhead := goodIn_r _ [10, 1, 5, 11, 12, 13] (by decide +kernel) (by decide +kernel)
set_option maxRecDepth 20000 in
theorem gX3_makeReady_X3_washAhead : GoodIn wsX3_makeReady (va_wsS RX3 88 yX3_washAhead wsX3_washAhead) := goodIn_app (goodIn_of _ (by decide +kernel)) ggX3_makeReady_X3_washAhead
theorem dX3_makeReady_0 : decode cX3_makeReady 0 = .ok (.aload_n 1, 1) := by decide +kernel
theorem dX3_makeReady_1 : decode cX3_makeReady 1 = .ok (.getfield 84, 3) := by decide +kernel
theorem dX3_makeReady_4 : decode cX3_makeReady 4 = .ok (.iconst 0, 1) := by decide +kernel
theorem dX3_makeReady_5 : decode cX3_makeReady 5 = .ok (.aaload, 1) := by decide +kernel
theorem dX3_makeReady_6 : decode cX3_makeReady 6 = .ok (.astore_n 3, 1) := by decide +kernel
theorem dX3_makeReady_7 : decode cX3_makeReady 7 = .ok (.aload_n 0, 1) := by decide +kernel
theorem dX3_makeReady_8 : decode cX3_makeReady 8 = .ok (.getfield 15, 3) := by decide +kernel
theorem dX3_makeReady_11 : decode cX3_makeReady 11 = .ok (.iload_n 2, 1) := by decide +kernel
theorem dX3_makeReady_12 : decode cX3_makeReady 12 = .ok (.aload_n 1, 1) := by decide +kernel
theorem dX3_makeReady_13 : decode cX3_makeReady 13 = .ok (.iload_n 2, 1) := by decide +kernel
theorem dX3_makeReady_14 : decode cX3_makeReady 14 = .ok (.invokestatic 88, 3) := by decide +kernel
theorem dX3_makeReady_17 : decode cX3_makeReady 17 = .ok (.iastore, 1) := by decide +kernel
theorem dX3_makeReady_18 : decode cX3_makeReady 18 = .ok (.aload_n 0, 1) := by decide +kernel
theorem dX3_makeReady_19 : decode cX3_makeReady 19 = .ok (.dup, 1) := by decide +kernel
theorem dX3_makeReady_20 : decode cX3_makeReady 20 = .ok (.getfield 66, 3) := by decide +kernel
theorem dX3_makeReady_23 : decode cX3_makeReady 23 = .ok (.aload_n 0, 1) := by decide +kernel
theorem dX3_makeReady_24 : decode cX3_makeReady 24 = .ok (.getfield 15, 3) := by decide +kernel
theorem dX3_makeReady_27 : decode cX3_makeReady 27 = .ok (.iload_n 2, 1) := by decide +kernel
theorem dX3_makeReady_28 : decode cX3_makeReady 28 = .ok (.iaload, 1) := by decide +kernel
theorem dX3_makeReady_29 : decode cX3_makeReady 29 = .ok (.iadd, 1) := by decide +kernel
theorem dX3_makeReady_30 : decode cX3_makeReady 30 = .ok (.putfield 66, 3) := by decide +kernel
theorem dX3_makeReady_33 : decode cX3_makeReady 33 = .ok (.aload_n 0, 1) := by decide +kernel
theorem dX3_makeReady_34 : decode cX3_makeReady 34 = .ok (.getfield 18, 3) := by decide +kernel
theorem dX3_makeReady_37 : decode cX3_makeReady 37 = .ok (.iload_n 2, 1) := by decide +kernel
theorem dX3_makeReady_38 : decode cX3_makeReady 38 = .ok (.aload_n 0, 1) := by decide +kernel
theorem dX3_makeReady_39 : decode cX3_makeReady 39 = .ok (.getfield 15, 3) := by decide +kernel
theorem dX3_makeReady_42 : decode cX3_makeReady 42 = .ok (.iload_n 2, 1) := by decide +kernel
theorem dX3_makeReady_43 : decode cX3_makeReady 43 = .ok (.iaload, 1) := by decide +kernel
theorem dX3_makeReady_44 : decode cX3_makeReady 44 = .ok (.iastore, 1) := by decide +kernel
theorem dX3_makeReady_45 : decode cX3_makeReady 45 = .ok (.iload_n 2, 1) := by decide +kernel
theorem dX3_makeReady_46 : decode cX3_makeReady 46 = .ok (.ifCond .eq 14, 3) := by decide +kernel
theorem dX3_makeReady_49 : decode cX3_makeReady 49 = .ok (.aload_n 3, 1) := by decide +kernel
theorem dX3_makeReady_50 : decode cX3_makeReady 50 = .ok (.iload_n 2, 1) := by decide +kernel
theorem dX3_makeReady_51 : decode cX3_makeReady 51 = .ok (.iaload, 1) := by decide +kernel
theorem dX3_makeReady_52 : decode cX3_makeReady 52 = .ok (.aload_n 3, 1) := by decide +kernel
theorem dX3_makeReady_53 : decode cX3_makeReady 53 = .ok (.iload_n 2, 1) := by decide +kernel
theorem dX3_makeReady_54 : decode cX3_makeReady 54 = .ok (.iconst 1, 1) := by decide +kernel
theorem dX3_makeReady_55 : decode cX3_makeReady 55 = .ok (.isub, 1) := by decide +kernel
theorem dX3_makeReady_56 : decode cX3_makeReady 56 = .ok (.iaload, 1) := by decide +kernel
theorem dX3_makeReady_57 : decode cX3_makeReady 57 = .ok (.if_icmp .eq 28, 3) := by decide +kernel
theorem dX3_makeReady_60 : decode cX3_makeReady 60 = .ok (.aload_n 0, 1) := by decide +kernel
theorem dX3_makeReady_61 : decode cX3_makeReady 61 = .ok (.getfield 18, 3) := by decide +kernel
theorem dX3_makeReady_64 : decode cX3_makeReady 64 = .ok (.iload_n 2, 1) := by decide +kernel
theorem dX3_makeReady_65 : decode cX3_makeReady 65 = .ok (.dup2, 1) := by decide +kernel
theorem dX3_makeReady_66 : decode cX3_makeReady 66 = .ok (.iaload, 1) := by decide +kernel
theorem dX3_makeReady_67 : decode cX3_makeReady 67 = .ok (.aload_n 1, 1) := by decide +kernel
theorem dX3_makeReady_68 : decode cX3_makeReady 68 = .ok (.getfield 92, 3) := by decide +kernel
theorem dX3_makeReady_71 : decode cX3_makeReady 71 = .ok (.iconst 0, 1) := by decide +kernel
theorem dX3_makeReady_72 : decode cX3_makeReady 72 = .ok (.iaload, 1) := by decide +kernel
theorem dX3_makeReady_73 : decode cX3_makeReady 73 = .ok (.iadd, 1) := by decide +kernel
theorem dX3_makeReady_74 : decode cX3_makeReady 74 = .ok (.iastore, 1) := by decide +kernel
theorem dX3_makeReady_75 : decode cX3_makeReady 75 = .ok (.aload_n 0, 1) := by decide +kernel
theorem dX3_makeReady_76 : decode cX3_makeReady 76 = .ok (.dup, 1) := by decide +kernel
theorem dX3_makeReady_77 : decode cX3_makeReady 77 = .ok (.getfield 69, 3) := by decide +kernel
theorem dX3_makeReady_80 : decode cX3_makeReady 80 = .ok (.iconst 1, 1) := by decide +kernel
theorem dX3_makeReady_81 : decode cX3_makeReady 81 = .ok (.iadd, 1) := by decide +kernel
theorem dX3_makeReady_82 : decode cX3_makeReady 82 = .ok (.putfield 69, 3) := by decide +kernel
theorem dX3_makeReady_85 : decode cX3_makeReady 85 = .ok (.return_, 1) := by decide +kernel
theorem dX3_washAhead_0 : decode cX3_washAhead 0 = .ok (.iload_n 1, 1) := by decide +kernel
theorem dX3_washAhead_1 : decode cX3_washAhead 1 = .ok (.ifCond .ne 5, 3) := by decide +kernel
theorem dX3_washAhead_4 : decode cX3_washAhead 4 = .ok (.iconst 0, 1) := by decide +kernel
theorem dX3_washAhead_5 : decode cX3_washAhead 5 = .ok (.ireturn, 1) := by decide +kernel
theorem dX3_washAhead_6 : decode cX3_washAhead 6 = .ok (.aload_n 0, 1) := by decide +kernel
theorem dX3_washAhead_7 : decode cX3_washAhead 7 = .ok (.getfield 84, 3) := by decide +kernel
theorem dX3_washAhead_10 : decode cX3_washAhead 10 = .ok (.iconst 1, 1) := by decide +kernel
theorem dX3_washAhead_11 : decode cX3_washAhead 11 = .ok (.aaload, 1) := by decide +kernel
theorem dX3_washAhead_12 : decode cX3_washAhead 12 = .ok (.iload_n 1, 1) := by decide +kernel
theorem dX3_washAhead_13 : decode cX3_washAhead 13 = .ok (.iconst 1, 1) := by decide +kernel
theorem dX3_washAhead_14 : decode cX3_washAhead 14 = .ok (.isub, 1) := by decide +kernel
theorem dX3_washAhead_15 : decode cX3_washAhead 15 = .ok (.iaload, 1) := by decide +kernel
theorem dX3_washAhead_16 : decode cX3_washAhead 16 = .ok (.aload_n 0, 1) := by decide +kernel
theorem dX3_washAhead_17 : decode cX3_washAhead 17 = .ok (.getfield 84, 3) := by decide +kernel
theorem dX3_washAhead_20 : decode cX3_washAhead 20 = .ok (.iconst 1, 1) := by decide +kernel
theorem dX3_washAhead_21 : decode cX3_washAhead 21 = .ok (.aaload, 1) := by decide +kernel
theorem dX3_washAhead_22 : decode cX3_washAhead 22 = .ok (.iload_n 1, 1) := by decide +kernel
theorem dX3_washAhead_23 : decode cX3_washAhead 23 = .ok (.iaload, 1) := by decide +kernel
theorem dX3_washAhead_24 : decode cX3_washAhead 24 = .ok (.isub, 1) := by decide +kernel
theorem dX3_washAhead_25 : decode cX3_washAhead 25 = .ok (.istore_n 2, 1) := by decide +kernel
theorem dX3_washAhead_26 : decode cX3_washAhead 26 = .ok (.iload_n 2, 1) := by decide +kernel
theorem dX3_washAhead_27 : decode cX3_washAhead 27 = .ok (.ifCond .le 19, 3) := by decide +kernel
theorem dX3_washAhead_30 : decode cX3_washAhead 30 = .ok (.aload_n 0, 1) := by decide +kernel
theorem dX3_washAhead_31 : decode cX3_washAhead 31 = .ok (.getfield 92, 3) := by decide +kernel
theorem dX3_washAhead_34 : decode cX3_washAhead 34 = .ok (.iconst 1, 1) := by decide +kernel
theorem dX3_washAhead_35 : decode cX3_washAhead 35 = .ok (.iaload, 1) := by decide +kernel
theorem dX3_washAhead_36 : decode cX3_washAhead 36 = .ok (.iload_n 2, 1) := by decide +kernel
theorem dX3_washAhead_37 : decode cX3_washAhead 37 = .ok (.aload_n 0, 1) := by decide +kernel
theorem dX3_washAhead_38 : decode cX3_washAhead 38 = .ok (.getfield 92, 3) := by decide +kernel
theorem dX3_washAhead_41 : decode cX3_washAhead 41 = .ok (.iconst 2, 1) := by decide +kernel
theorem dX3_washAhead_42 : decode cX3_washAhead 42 = .ok (.iaload, 1) := by decide +kernel
theorem dX3_washAhead_43 : decode cX3_washAhead 43 = .ok (.imul, 1) := by decide +kernel
theorem dX3_washAhead_44 : decode cX3_washAhead 44 = .ok (.iadd, 1) := by decide +kernel
theorem dX3_washAhead_45 : decode cX3_washAhead 45 = .ok (.ireturn, 1) := by decide +kernel
theorem dX3_washAhead_46 : decode cX3_washAhead 46 = .ok (.iload_n 2, 1) := by decide +kernel
theorem dX3_washAhead_47 : decode cX3_washAhead 47 = .ok (.ifCond .ge 12, 3) := by decide +kernel
theorem dX3_washAhead_50 : decode cX3_washAhead 50 = .ok (.aload_n 0, 1) := by decide +kernel
theorem dX3_washAhead_51 : decode cX3_washAhead 51 = .ok (.getfield 92, 3) := by decide +kernel
theorem dX3_washAhead_54 : decode cX3_washAhead 54 = .ok (.iconst 2, 1) := by decide +kernel
theorem dX3_washAhead_55 : decode cX3_washAhead 55 = .ok (.iaload, 1) := by decide +kernel
theorem dX3_washAhead_56 : decode cX3_washAhead 56 = .ok (.goto 4, 3) := by decide +kernel
theorem dX3_washAhead_59 : decode cX3_washAhead 59 = .ok (.iconst 0, 1) := by decide +kernel
theorem dX3_washAhead_60 : decode cX3_washAhead 60 = .ok (.ireturn, 1) := by decide +kernel
set_option maxRecDepth 20000 in
theorem ggX3_printJob_X4_racksFor : GoodIn wsX3_printJob wsX4_racksFor := goodIn_r _ [11] (by decide +kernel) (by decide +kernel)
set_option maxRecDepth 20000 in
theorem gX3_printJob_X4_racksFor_n95 : GoodIn wsX3_printJob (wsX4_racksFor) := ggX3_printJob_X4_racksFor
set_option maxRecDepth 20000 in
theorem ggX3_printJob_X3_whenRacksAreFree : GoodIn wsX3_printJob wsX3_whenRacksAreFree := goodIn_r _ [16, 17, 18, 19, 20, 21, 22, 23, 5, 24, 25, 26, 27, 28, 29, 30, 31, 32, 33, 34, 35, 36, 37, 38, 39, 40, 41] (by decide +kernel) (by decide +kernel)
set_option maxRecDepth 20000 in
theorem gX3_printJob_X3_whenRacksAreFree : GoodIn wsX3_printJob (wsV RX3 99 RX3 yX3_whenRacksAreFree wsX3_whenRacksAreFree) := goodIn_app (goodIn_of _ (by decide +kernel)) ggX3_printJob_X3_whenRacksAreFree
theorem dX3_printJob_0 : decode cX3_printJob 0 = .ok (.iload_n 2, 1) := by decide +kernel
theorem dX3_printJob_1 : decode cX3_printJob 1 = .ok (.ifCond .ne 7, 3) := by decide +kernel
theorem dX3_printJob_4 : decode cX3_printJob 4 = .ok (.iconst 0, 1) := by decide +kernel
theorem dX3_printJob_5 : decode cX3_printJob 5 = .ok (.goto 11, 3) := by decide +kernel
theorem dX3_printJob_8 : decode cX3_printJob 8 = .ok (.aload_n 0, 1) := by decide +kernel
theorem dX3_printJob_9 : decode cX3_printJob 9 = .ok (.getfield 27, 3) := by decide +kernel
theorem dX3_printJob_12 : decode cX3_printJob 12 = .ok (.iload_n 2, 1) := by decide +kernel
theorem dX3_printJob_13 : decode cX3_printJob 13 = .ok (.iconst 1, 1) := by decide +kernel
theorem dX3_printJob_14 : decode cX3_printJob 14 = .ok (.isub, 1) := by decide +kernel
theorem dX3_printJob_15 : decode cX3_printJob 15 = .ok (.iaload, 1) := by decide +kernel
theorem dX3_printJob_16 : decode cX3_printJob 16 = .ok (.istore 4, 2) := by decide +kernel
theorem dX3_printJob_18 : decode cX3_printJob 18 = .ok (.aload_n 1, 1) := by decide +kernel
theorem dX3_printJob_19 : decode cX3_printJob 19 = .ok (.getfield 84, 3) := by decide +kernel
theorem dX3_printJob_22 : decode cX3_printJob 22 = .ok (.iconst 2, 1) := by decide +kernel
theorem dX3_printJob_23 : decode cX3_printJob 23 = .ok (.aaload, 1) := by decide +kernel
theorem dX3_printJob_24 : decode cX3_printJob 24 = .ok (.iload_n 2, 1) := by decide +kernel
theorem dX3_printJob_25 : decode cX3_printJob 25 = .ok (.iaload, 1) := by decide +kernel
theorem dX3_printJob_26 : decode cX3_printJob 26 = .ok (.istore 5, 2) := by decide +kernel
theorem dX3_printJob_28 : decode cX3_printJob 28 = .ok (.iload 4, 2) := by decide +kernel
theorem dX3_printJob_30 : decode cX3_printJob 30 = .ok (.aload_n 0, 1) := by decide +kernel
theorem dX3_printJob_31 : decode cX3_printJob 31 = .ok (.getfield 18, 3) := by decide +kernel
theorem dX3_printJob_34 : decode cX3_printJob 34 = .ok (.iload_n 2, 1) := by decide +kernel
theorem dX3_printJob_35 : decode cX3_printJob 35 = .ok (.iaload, 1) := by decide +kernel
theorem dX3_printJob_36 : decode cX3_printJob 36 = .ok (.iadd, 1) := by decide +kernel
theorem dX3_printJob_37 : decode cX3_printJob 37 = .ok (.iload 5, 2) := by decide +kernel
theorem dX3_printJob_39 : decode cX3_printJob 39 = .ok (.aload_n 1, 1) := by decide +kernel
theorem dX3_printJob_40 : decode cX3_printJob 40 = .ok (.getfield 92, 3) := by decide +kernel
theorem dX3_printJob_43 : decode cX3_printJob 43 = .ok (.iconst 3, 1) := by decide +kernel
theorem dX3_printJob_44 : decode cX3_printJob 44 = .ok (.iaload, 1) := by decide +kernel
theorem dX3_printJob_45 : decode cX3_printJob 45 = .ok (.imul, 1) := by decide +kernel
theorem dX3_printJob_46 : decode cX3_printJob 46 = .ok (.iadd, 1) := by decide +kernel
theorem dX3_printJob_47 : decode cX3_printJob 47 = .ok (.istore 6, 2) := by decide +kernel
theorem dX3_printJob_49 : decode cX3_printJob 49 = .ok (.aload_n 0, 1) := by decide +kernel
theorem dX3_printJob_50 : decode cX3_printJob 50 = .ok (.getfield 9, 3) := by decide +kernel
theorem dX3_printJob_53 : decode cX3_printJob 53 = .ok (.iload_n 2, 1) := by decide +kernel
theorem dX3_printJob_54 : decode cX3_printJob 54 = .ok (.iload 5, 2) := by decide +kernel
theorem dX3_printJob_56 : decode cX3_printJob 56 = .ok (.aload_n 1, 1) := by decide +kernel
theorem dX3_printJob_57 : decode cX3_printJob 57 = .ok (.getfield 92, 3) := by decide +kernel
theorem dX3_printJob_60 : decode cX3_printJob 60 = .ok (.bipush 6, 2) := by decide +kernel
theorem dX3_printJob_62 : decode cX3_printJob 62 = .ok (.iaload, 1) := by decide +kernel
theorem dX3_printJob_63 : decode cX3_printJob 63 = .ok (.invokestatic 95, 3) := by decide +kernel
theorem dX3_printJob_66 : decode cX3_printJob 66 = .ok (.iastore, 1) := by decide +kernel
theorem dX3_printJob_67 : decode cX3_printJob 67 = .ok (.aload_n 0, 1) := by decide +kernel
theorem dX3_printJob_68 : decode cX3_printJob 68 = .ok (.getfield 27, 3) := by decide +kernel
theorem dX3_printJob_71 : decode cX3_printJob 71 = .ok (.iload_n 2, 1) := by decide +kernel
theorem dX3_printJob_72 : decode cX3_printJob 72 = .ok (.aload_n 0, 1) := by decide +kernel
theorem dX3_printJob_73 : decode cX3_printJob 73 = .ok (.iload_n 2, 1) := by decide +kernel
theorem dX3_printJob_74 : decode cX3_printJob 74 = .ok (.iload 6, 2) := by decide +kernel
theorem dX3_printJob_76 : decode cX3_printJob 76 = .ok (.iload_n 3, 1) := by decide +kernel
theorem dX3_printJob_77 : decode cX3_printJob 77 = .ok (.aload_n 0, 1) := by decide +kernel
theorem dX3_printJob_78 : decode cX3_printJob 78 = .ok (.getfield 9, 3) := by decide +kernel
theorem dX3_printJob_81 : decode cX3_printJob 81 = .ok (.iload_n 2, 1) := by decide +kernel
theorem dX3_printJob_82 : decode cX3_printJob 82 = .ok (.iaload, 1) := by decide +kernel
theorem dX3_printJob_83 : decode cX3_printJob 83 = .ok (.isub, 1) := by decide +kernel
theorem dX3_printJob_84 : decode cX3_printJob 84 = .ok (.invokevirtual 99, 3) := by decide +kernel
theorem dX3_printJob_87 : decode cX3_printJob 87 = .ok (.iastore, 1) := by decide +kernel
theorem dX3_printJob_88 : decode cX3_printJob 88 = .ok (.aload_n 0, 1) := by decide +kernel
theorem dX3_printJob_89 : decode cX3_printJob 89 = .ok (.getfield 21, 3) := by decide +kernel
theorem dX3_printJob_92 : decode cX3_printJob 92 = .ok (.iload_n 2, 1) := by decide +kernel
theorem dX3_printJob_93 : decode cX3_printJob 93 = .ok (.aload_n 0, 1) := by decide +kernel
theorem dX3_printJob_94 : decode cX3_printJob 94 = .ok (.getfield 27, 3) := by decide +kernel
theorem dX3_printJob_97 : decode cX3_printJob 97 = .ok (.iload_n 2, 1) := by decide +kernel
theorem dX3_printJob_98 : decode cX3_printJob 98 = .ok (.iaload, 1) := by decide +kernel
theorem dX3_printJob_99 : decode cX3_printJob 99 = .ok (.iload 6, 2) := by decide +kernel
theorem dX3_printJob_101 : decode cX3_printJob 101 = .ok (.isub, 1) := by decide +kernel
theorem dX3_printJob_102 : decode cX3_printJob 102 = .ok (.iastore, 1) := by decide +kernel
theorem dX3_printJob_103 : decode cX3_printJob 103 = .ok (.aload_n 0, 1) := by decide +kernel
theorem dX3_printJob_104 : decode cX3_printJob 104 = .ok (.getfield 24, 3) := by decide +kernel
theorem dX3_printJob_107 : decode cX3_printJob 107 = .ok (.iload_n 2, 1) := by decide +kernel
theorem dX3_printJob_108 : decode cX3_printJob 108 = .ok (.iload 4, 2) := by decide +kernel
theorem dX3_printJob_110 : decode cX3_printJob 110 = .ok (.aload_n 0, 1) := by decide +kernel
theorem dX3_printJob_111 : decode cX3_printJob 111 = .ok (.getfield 21, 3) := by decide +kernel
theorem dX3_printJob_114 : decode cX3_printJob 114 = .ok (.iload_n 2, 1) := by decide +kernel
theorem dX3_printJob_115 : decode cX3_printJob 115 = .ok (.iaload, 1) := by decide +kernel
theorem dX3_printJob_116 : decode cX3_printJob 116 = .ok (.iadd, 1) := by decide +kernel
theorem dX3_printJob_117 : decode cX3_printJob 117 = .ok (.iastore, 1) := by decide +kernel
theorem dX3_printJob_118 : decode cX3_printJob 118 = .ok (.aload_n 0, 1) := by decide +kernel
theorem dX3_printJob_119 : decode cX3_printJob 119 = .ok (.dup, 1) := by decide +kernel
theorem dX3_printJob_120 : decode cX3_printJob 120 = .ok (.getfield 72, 3) := by decide +kernel
theorem dX3_printJob_123 : decode cX3_printJob 123 = .ok (.aload_n 0, 1) := by decide +kernel
theorem dX3_printJob_124 : decode cX3_printJob 124 = .ok (.getfield 21, 3) := by decide +kernel
theorem dX3_printJob_127 : decode cX3_printJob 127 = .ok (.iload_n 2, 1) := by decide +kernel
theorem dX3_printJob_128 : decode cX3_printJob 128 = .ok (.iaload, 1) := by decide +kernel
theorem dX3_printJob_129 : decode cX3_printJob 129 = .ok (.iadd, 1) := by decide +kernel
theorem dX3_printJob_130 : decode cX3_printJob 130 = .ok (.putfield 72, 3) := by decide +kernel
theorem dX3_printJob_133 : decode cX3_printJob 133 = .ok (.return_, 1) := by decide +kernel
theorem dX3_whenRacksAreFree_0 : decode cX3_whenRacksAreFree 0 = .ok (.iload_n 2, 1) := by decide +kernel
theorem dX3_whenRacksAreFree_1 : decode cX3_whenRacksAreFree 1 = .ok (.istore 4, 2) := by decide +kernel
theorem dX3_whenRacksAreFree_3 : decode cX3_whenRacksAreFree 3 = .ok (.aload_n 0, 1) := by decide +kernel
theorem dX3_whenRacksAreFree_4 : decode cX3_whenRacksAreFree 4 = .ok (.getfield 81, 3) := by decide +kernel
theorem dX3_whenRacksAreFree_7 : decode cX3_whenRacksAreFree 7 = .ok (.iload_n 1, 1) := by decide +kernel
theorem dX3_whenRacksAreFree_8 : decode cX3_whenRacksAreFree 8 = .ok (.if_icmp .ge 72, 3) := by decide +kernel
theorem dX3_whenRacksAreFree_11 : decode cX3_whenRacksAreFree 11 = .ok (.aload_n 0, 1) := by decide +kernel
theorem dX3_whenRacksAreFree_12 : decode cX3_whenRacksAreFree 12 = .ok (.getfield 30, 3) := by decide +kernel
theorem dX3_whenRacksAreFree_15 : decode cX3_whenRacksAreFree 15 = .ok (.aload_n 0, 1) := by decide +kernel
theorem dX3_whenRacksAreFree_16 : decode cX3_whenRacksAreFree 16 = .ok (.getfield 81, 3) := by decide +kernel
theorem dX3_whenRacksAreFree_19 : decode cX3_whenRacksAreFree 19 = .ok (.iaload, 1) := by decide +kernel
theorem dX3_whenRacksAreFree_20 : decode cX3_whenRacksAreFree 20 = .ok (.iload 4, 2) := by decide +kernel
theorem dX3_whenRacksAreFree_22 : decode cX3_whenRacksAreFree 22 = .ok (.if_icmp .le 11, 3) := by decide +kernel
theorem dX3_whenRacksAreFree_25 : decode cX3_whenRacksAreFree 25 = .ok (.aload_n 0, 1) := by decide +kernel
theorem dX3_whenRacksAreFree_26 : decode cX3_whenRacksAreFree 26 = .ok (.getfield 78, 3) := by decide +kernel
theorem dX3_whenRacksAreFree_29 : decode cX3_whenRacksAreFree 29 = .ok (.iload_n 3, 1) := by decide +kernel
theorem dX3_whenRacksAreFree_30 : decode cX3_whenRacksAreFree 30 = .ok (.if_icmp .le 50, 3) := by decide +kernel
theorem dX3_whenRacksAreFree_33 : decode cX3_whenRacksAreFree 33 = .ok (.iload 4, 2) := by decide +kernel
theorem dX3_whenRacksAreFree_35 : decode cX3_whenRacksAreFree 35 = .ok (.aload_n 0, 1) := by decide +kernel
theorem dX3_whenRacksAreFree_36 : decode cX3_whenRacksAreFree 36 = .ok (.getfield 30, 3) := by decide +kernel
theorem dX3_whenRacksAreFree_39 : decode cX3_whenRacksAreFree 39 = .ok (.aload_n 0, 1) := by decide +kernel
theorem dX3_whenRacksAreFree_40 : decode cX3_whenRacksAreFree 40 = .ok (.getfield 81, 3) := by decide +kernel
theorem dX3_whenRacksAreFree_43 : decode cX3_whenRacksAreFree 43 = .ok (.iaload, 1) := by decide +kernel
theorem dX3_whenRacksAreFree_44 : decode cX3_whenRacksAreFree 44 = .ok (.invokestatic 103, 3) := by decide +kernel
theorem dX3_whenRacksAreFree_47 : decode cX3_whenRacksAreFree 47 = .ok (.istore 4, 2) := by decide +kernel
theorem dX3_whenRacksAreFree_49 : decode cX3_whenRacksAreFree 49 = .ok (.aload_n 0, 1) := by decide +kernel
theorem dX3_whenRacksAreFree_50 : decode cX3_whenRacksAreFree 50 = .ok (.dup, 1) := by decide +kernel
theorem dX3_whenRacksAreFree_51 : decode cX3_whenRacksAreFree 51 = .ok (.getfield 78, 3) := by decide +kernel
theorem dX3_whenRacksAreFree_54 : decode cX3_whenRacksAreFree 54 = .ok (.aload_n 0, 1) := by decide +kernel
theorem dX3_whenRacksAreFree_55 : decode cX3_whenRacksAreFree 55 = .ok (.getfield 9, 3) := by decide +kernel
theorem dX3_whenRacksAreFree_58 : decode cX3_whenRacksAreFree 58 = .ok (.aload_n 0, 1) := by decide +kernel
theorem dX3_whenRacksAreFree_59 : decode cX3_whenRacksAreFree 59 = .ok (.getfield 81, 3) := by decide +kernel
theorem dX3_whenRacksAreFree_62 : decode cX3_whenRacksAreFree 62 = .ok (.iaload, 1) := by decide +kernel
theorem dX3_whenRacksAreFree_63 : decode cX3_whenRacksAreFree 63 = .ok (.isub, 1) := by decide +kernel
theorem dX3_whenRacksAreFree_64 : decode cX3_whenRacksAreFree 64 = .ok (.putfield 78, 3) := by decide +kernel
theorem dX3_whenRacksAreFree_67 : decode cX3_whenRacksAreFree 67 = .ok (.aload_n 0, 1) := by decide +kernel
theorem dX3_whenRacksAreFree_68 : decode cX3_whenRacksAreFree 68 = .ok (.dup, 1) := by decide +kernel
theorem dX3_whenRacksAreFree_69 : decode cX3_whenRacksAreFree 69 = .ok (.getfield 81, 3) := by decide +kernel
theorem dX3_whenRacksAreFree_72 : decode cX3_whenRacksAreFree 72 = .ok (.iconst 1, 1) := by decide +kernel
theorem dX3_whenRacksAreFree_73 : decode cX3_whenRacksAreFree 73 = .ok (.iadd, 1) := by decide +kernel
theorem dX3_whenRacksAreFree_74 : decode cX3_whenRacksAreFree 74 = .ok (.putfield 81, 3) := by decide +kernel
theorem dX3_whenRacksAreFree_77 : decode cX3_whenRacksAreFree 77 = .ok (.goto (-74), 3) := by decide +kernel
theorem dX3_whenRacksAreFree_80 : decode cX3_whenRacksAreFree 80 = .ok (.iload 4, 2) := by decide +kernel
theorem dX3_whenRacksAreFree_82 : decode cX3_whenRacksAreFree 82 = .ok (.ireturn, 1) := by decide +kernel
theorem dX3_dryJob_0 : decode cX3_dryJob 0 = .ok (.aload_n 0, 1) := by decide +kernel
theorem dX3_dryJob_1 : decode cX3_dryJob 1 = .ok (.getfield 30, 3) := by decide +kernel
theorem dX3_dryJob_4 : decode cX3_dryJob 4 = .ok (.iload_n 2, 1) := by decide +kernel
theorem dX3_dryJob_5 : decode cX3_dryJob 5 = .ok (.aload_n 0, 1) := by decide +kernel
theorem dX3_dryJob_6 : decode cX3_dryJob 6 = .ok (.getfield 27, 3) := by decide +kernel
theorem dX3_dryJob_9 : decode cX3_dryJob 9 = .ok (.iload_n 2, 1) := by decide +kernel
theorem dX3_dryJob_10 : decode cX3_dryJob 10 = .ok (.iaload, 1) := by decide +kernel
theorem dX3_dryJob_11 : decode cX3_dryJob 11 = .ok (.aload_n 1, 1) := by decide +kernel
theorem dX3_dryJob_12 : decode cX3_dryJob 12 = .ok (.getfield 92, 3) := by decide +kernel
theorem dX3_dryJob_15 : decode cX3_dryJob 15 = .ok (.iconst 4, 1) := by decide +kernel
theorem dX3_dryJob_16 : decode cX3_dryJob 16 = .ok (.iaload, 1) := by decide +kernel
theorem dX3_dryJob_17 : decode cX3_dryJob 17 = .ok (.iadd, 1) := by decide +kernel
theorem dX3_dryJob_18 : decode cX3_dryJob 18 = .ok (.iastore, 1) := by decide +kernel
theorem dX3_dryJob_19 : decode cX3_dryJob 19 = .ok (.aload_n 0, 1) := by decide +kernel
theorem dX3_dryJob_20 : decode cX3_dryJob 20 = .ok (.dup, 1) := by decide +kernel
theorem dX3_dryJob_21 : decode cX3_dryJob 21 = .ok (.getfield 78, 3) := by decide +kernel
theorem dX3_dryJob_24 : decode cX3_dryJob 24 = .ok (.aload_n 0, 1) := by decide +kernel
theorem dX3_dryJob_25 : decode cX3_dryJob 25 = .ok (.getfield 9, 3) := by decide +kernel
theorem dX3_dryJob_28 : decode cX3_dryJob 28 = .ok (.iload_n 2, 1) := by decide +kernel
theorem dX3_dryJob_29 : decode cX3_dryJob 29 = .ok (.iaload, 1) := by decide +kernel
theorem dX3_dryJob_30 : decode cX3_dryJob 30 = .ok (.iadd, 1) := by decide +kernel
theorem dX3_dryJob_31 : decode cX3_dryJob 31 = .ok (.putfield 78, 3) := by decide +kernel
theorem dX3_dryJob_34 : decode cX3_dryJob 34 = .ok (.aload_n 1, 1) := by decide +kernel
theorem dX3_dryJob_35 : decode cX3_dryJob 35 = .ok (.getfield 92, 3) := by decide +kernel
theorem dX3_dryJob_38 : decode cX3_dryJob 38 = .ok (.iconst 4, 1) := by decide +kernel
theorem dX3_dryJob_39 : decode cX3_dryJob 39 = .ok (.iaload, 1) := by decide +kernel
theorem dX3_dryJob_40 : decode cX3_dryJob 40 = .ok (.ifCond .le 18, 3) := by decide +kernel
theorem dX3_dryJob_43 : decode cX3_dryJob 43 = .ok (.aload_n 0, 1) := by decide +kernel
theorem dX3_dryJob_44 : decode cX3_dryJob 44 = .ok (.aload_n 0, 1) := by decide +kernel
theorem dX3_dryJob_45 : decode cX3_dryJob 45 = .ok (.getfield 75, 3) := by decide +kernel
theorem dX3_dryJob_48 : decode cX3_dryJob 48 = .ok (.aload_n 0, 1) := by decide +kernel
theorem dX3_dryJob_49 : decode cX3_dryJob 49 = .ok (.getfield 78, 3) := by decide +kernel
theorem dX3_dryJob_52 : decode cX3_dryJob 52 = .ok (.invokestatic 103, 3) := by decide +kernel
theorem dX3_dryJob_55 : decode cX3_dryJob 55 = .ok (.putfield 75, 3) := by decide +kernel
theorem dX3_dryJob_58 : decode cX3_dryJob 58 = .ok (.aload_n 0, 1) := by decide +kernel
theorem dX3_dryJob_59 : decode cX3_dryJob 59 = .ok (.getfield 33, 3) := by decide +kernel
theorem dX3_dryJob_62 : decode cX3_dryJob 62 = .ok (.iload_n 2, 1) := by decide +kernel
theorem dX3_dryJob_63 : decode cX3_dryJob 63 = .ok (.iconst 0, 1) := by decide +kernel
theorem dX3_dryJob_64 : decode cX3_dryJob 64 = .ok (.aload_n 0, 1) := by decide +kernel
theorem dX3_dryJob_65 : decode cX3_dryJob 65 = .ok (.getfield 30, 3) := by decide +kernel
theorem dX3_dryJob_68 : decode cX3_dryJob 68 = .ok (.iload_n 2, 1) := by decide +kernel
theorem dX3_dryJob_69 : decode cX3_dryJob 69 = .ok (.iaload, 1) := by decide +kernel
theorem dX3_dryJob_70 : decode cX3_dryJob 70 = .ok (.aload_n 1, 1) := by decide +kernel
theorem dX3_dryJob_71 : decode cX3_dryJob 71 = .ok (.getfield 84, 3) := by decide +kernel
theorem dX3_dryJob_74 : decode cX3_dryJob 74 = .ok (.iconst 3, 1) := by decide +kernel
theorem dX3_dryJob_75 : decode cX3_dryJob 75 = .ok (.aaload, 1) := by decide +kernel
theorem dX3_dryJob_76 : decode cX3_dryJob 76 = .ok (.iload_n 2, 1) := by decide +kernel
theorem dX3_dryJob_77 : decode cX3_dryJob 77 = .ok (.iaload, 1) := by decide +kernel
theorem dX3_dryJob_78 : decode cX3_dryJob 78 = .ok (.isub, 1) := by decide +kernel
theorem dX3_dryJob_79 : decode cX3_dryJob 79 = .ok (.invokestatic 103, 3) := by decide +kernel
theorem dX3_dryJob_82 : decode cX3_dryJob 82 = .ok (.iastore, 1) := by decide +kernel
theorem dX3_dryJob_83 : decode cX3_dryJob 83 = .ok (.aload_n 0, 1) := by decide +kernel
theorem dX3_dryJob_84 : decode cX3_dryJob 84 = .ok (.dup, 1) := by decide +kernel
theorem dX3_dryJob_85 : decode cX3_dryJob 85 = .ok (.getfield 60, 3) := by decide +kernel
theorem dX3_dryJob_88 : decode cX3_dryJob 88 = .ok (.aload_n 0, 1) := by decide +kernel
theorem dX3_dryJob_89 : decode cX3_dryJob 89 = .ok (.getfield 33, 3) := by decide +kernel
theorem dX3_dryJob_92 : decode cX3_dryJob 92 = .ok (.iload_n 2, 1) := by decide +kernel
theorem dX3_dryJob_93 : decode cX3_dryJob 93 = .ok (.iaload, 1) := by decide +kernel
theorem dX3_dryJob_94 : decode cX3_dryJob 94 = .ok (.iadd, 1) := by decide +kernel
theorem dX3_dryJob_95 : decode cX3_dryJob 95 = .ok (.putfield 60, 3) := by decide +kernel
theorem dX3_dryJob_98 : decode cX3_dryJob 98 = .ok (.aload_n 0, 1) := by decide +kernel
theorem dX3_dryJob_99 : decode cX3_dryJob 99 = .ok (.aload_n 0, 1) := by decide +kernel
theorem dX3_dryJob_100 : decode cX3_dryJob 100 = .ok (.getfield 63, 3) := by decide +kernel
theorem dX3_dryJob_103 : decode cX3_dryJob 103 = .ok (.aload_n 0, 1) := by decide +kernel
theorem dX3_dryJob_104 : decode cX3_dryJob 104 = .ok (.getfield 33, 3) := by decide +kernel
theorem dX3_dryJob_107 : decode cX3_dryJob 107 = .ok (.iload_n 2, 1) := by decide +kernel
theorem dX3_dryJob_108 : decode cX3_dryJob 108 = .ok (.iaload, 1) := by decide +kernel
theorem dX3_dryJob_109 : decode cX3_dryJob 109 = .ok (.invokestatic 103, 3) := by decide +kernel
theorem dX3_dryJob_112 : decode cX3_dryJob 112 = .ok (.putfield 63, 3) := by decide +kernel
theorem dX3_dryJob_115 : decode cX3_dryJob 115 = .ok (.aload_n 0, 1) := by decide +kernel
theorem dX3_dryJob_116 : decode cX3_dryJob 116 = .ok (.getfield 33, 3) := by decide +kernel
theorem dX3_dryJob_119 : decode cX3_dryJob 119 = .ok (.iload_n 2, 1) := by decide +kernel
theorem dX3_dryJob_120 : decode cX3_dryJob 120 = .ok (.iaload, 1) := by decide +kernel
theorem dX3_dryJob_121 : decode cX3_dryJob 121 = .ok (.ifCond .le 13, 3) := by decide +kernel
theorem dX3_dryJob_124 : decode cX3_dryJob 124 = .ok (.aload_n 0, 1) := by decide +kernel
theorem dX3_dryJob_125 : decode cX3_dryJob 125 = .ok (.dup, 1) := by decide +kernel
theorem dX3_dryJob_126 : decode cX3_dryJob 126 = .ok (.getfield 57, 3) := by decide +kernel
theorem dX3_dryJob_129 : decode cX3_dryJob 129 = .ok (.iconst 1, 1) := by decide +kernel
theorem dX3_dryJob_130 : decode cX3_dryJob 130 = .ok (.iadd, 1) := by decide +kernel
theorem dX3_dryJob_131 : decode cX3_dryJob 131 = .ok (.putfield 57, 3) := by decide +kernel
theorem dX3_dryJob_134 : decode cX3_dryJob 134 = .ok (.return_, 1) := by decide +kernel
theorem dX3_lastOf_0 : decode cX3_lastOf 0 = .ok (.aload_n 0, 1) := by decide +kernel
theorem dX3_lastOf_1 : decode cX3_lastOf 1 = .ok (.getfield 45, 3) := by decide +kernel
theorem dX3_lastOf_4 : decode cX3_lastOf 4 = .ok (.ifCond .ne 7, 3) := by decide +kernel
theorem dX3_lastOf_7 : decode cX3_lastOf 7 = .ok (.iconst 0, 1) := by decide +kernel
theorem dX3_lastOf_8 : decode cX3_lastOf 8 = .ok (.goto 11, 3) := by decide +kernel
theorem dX3_lastOf_11 : decode cX3_lastOf 11 = .ok (.aload_n 1, 1) := by decide +kernel
theorem dX3_lastOf_12 : decode cX3_lastOf 12 = .ok (.aload_n 0, 1) := by decide +kernel
theorem dX3_lastOf_13 : decode cX3_lastOf 13 = .ok (.getfield 45, 3) := by decide +kernel
theorem dX3_lastOf_16 : decode cX3_lastOf 16 = .ok (.iconst 1, 1) := by decide +kernel
theorem dX3_lastOf_17 : decode cX3_lastOf 17 = .ok (.isub, 1) := by decide +kernel
theorem dX3_lastOf_18 : decode cX3_lastOf 18 = .ok (.iaload, 1) := by decide +kernel
theorem dX3_lastOf_19 : decode cX3_lastOf 19 = .ok (.ireturn, 1) := by decide +kernel
theorem dX3_jobOnPress_0 : decode cX3_jobOnPress 0 = .ok (.iconst 0, 1) := by decide +kernel
theorem dX3_jobOnPress_1 : decode cX3_jobOnPress 1 = .ok (.istore_n 2, 1) := by decide +kernel
theorem dX3_jobOnPress_2 : decode cX3_jobOnPress 2 = .ok (.iload_n 2, 1) := by decide +kernel
theorem dX3_jobOnPress_3 : decode cX3_jobOnPress 3 = .ok (.aload_n 0, 1) := by decide +kernel
theorem dX3_jobOnPress_4 : decode cX3_jobOnPress 4 = .ok (.getfield 45, 3) := by decide +kernel
theorem dX3_jobOnPress_7 : decode cX3_jobOnPress 7 = .ok (.if_icmp .ge 31, 3) := by decide +kernel
theorem dX3_jobOnPress_10 : decode cX3_jobOnPress 10 = .ok (.aload_n 0, 1) := by decide +kernel
theorem dX3_jobOnPress_11 : decode cX3_jobOnPress 11 = .ok (.getfield 24, 3) := by decide +kernel
theorem dX3_jobOnPress_14 : decode cX3_jobOnPress 14 = .ok (.iload_n 2, 1) := by decide +kernel
theorem dX3_jobOnPress_15 : decode cX3_jobOnPress 15 = .ok (.iaload, 1) := by decide +kernel
theorem dX3_jobOnPress_16 : decode cX3_jobOnPress 16 = .ok (.iload_n 1, 1) := by decide +kernel
theorem dX3_jobOnPress_17 : decode cX3_jobOnPress 17 = .ok (.if_icmp .gt 15, 3) := by decide +kernel
theorem dX3_jobOnPress_20 : decode cX3_jobOnPress 20 = .ok (.iload_n 1, 1) := by decide +kernel
theorem dX3_jobOnPress_21 : decode cX3_jobOnPress 21 = .ok (.aload_n 0, 1) := by decide +kernel
theorem dX3_jobOnPress_22 : decode cX3_jobOnPress 22 = .ok (.getfield 27, 3) := by decide +kernel
theorem dX3_jobOnPress_25 : decode cX3_jobOnPress 25 = .ok (.iload_n 2, 1) := by decide +kernel
theorem dX3_jobOnPress_26 : decode cX3_jobOnPress 26 = .ok (.iaload, 1) := by decide +kernel
theorem dX3_jobOnPress_27 : decode cX3_jobOnPress 27 = .ok (.if_icmp .ge 5, 3) := by decide +kernel
theorem dX3_jobOnPress_30 : decode cX3_jobOnPress 30 = .ok (.iload_n 2, 1) := by decide +kernel
theorem dX3_jobOnPress_31 : decode cX3_jobOnPress 31 = .ok (.ireturn, 1) := by decide +kernel
theorem dX3_jobOnPress_32 : decode cX3_jobOnPress 32 = .ok (.iinc 2 1, 3) := by decide +kernel
theorem dX3_jobOnPress_35 : decode cX3_jobOnPress 35 = .ok (.goto (-33), 3) := by decide +kernel
theorem dX3_jobOnPress_38 : decode cX3_jobOnPress 38 = .ok (.bipush (-6), 2) := by decide +kernel
theorem dX3_jobOnPress_40 : decode cX3_jobOnPress 40 = .ok (.ireturn, 1) := by decide +kernel
theorem dX3_racksTaken_0 : decode cX3_racksTaken 0 = .ok (.iconst 0, 1) := by decide +kernel
theorem dX3_racksTaken_1 : decode cX3_racksTaken 1 = .ok (.istore_n 2, 1) := by decide +kernel
theorem dX3_racksTaken_2 : decode cX3_racksTaken 2 = .ok (.iconst 0, 1) := by decide +kernel
theorem dX3_racksTaken_3 : decode cX3_racksTaken 3 = .ok (.istore_n 3, 1) := by decide +kernel
theorem dX3_racksTaken_4 : decode cX3_racksTaken 4 = .ok (.iload_n 3, 1) := by decide +kernel
theorem dX3_racksTaken_5 : decode cX3_racksTaken 5 = .ok (.aload_n 0, 1) := by decide +kernel
theorem dX3_racksTaken_6 : decode cX3_racksTaken 6 = .ok (.getfield 45, 3) := by decide +kernel
theorem dX3_racksTaken_9 : decode cX3_racksTaken 9 = .ok (.if_icmp .ge 38, 3) := by decide +kernel
theorem dX3_racksTaken_12 : decode cX3_racksTaken 12 = .ok (.aload_n 0, 1) := by decide +kernel
theorem dX3_racksTaken_13 : decode cX3_racksTaken 13 = .ok (.getfield 27, 3) := by decide +kernel
theorem dX3_racksTaken_16 : decode cX3_racksTaken 16 = .ok (.iload_n 3, 1) := by decide +kernel
theorem dX3_racksTaken_17 : decode cX3_racksTaken 17 = .ok (.iaload, 1) := by decide +kernel
theorem dX3_racksTaken_18 : decode cX3_racksTaken 18 = .ok (.iload_n 1, 1) := by decide +kernel
theorem dX3_racksTaken_19 : decode cX3_racksTaken 19 = .ok (.if_icmp .gt 22, 3) := by decide +kernel
theorem dX3_racksTaken_22 : decode cX3_racksTaken 22 = .ok (.iload_n 1, 1) := by decide +kernel
theorem dX3_racksTaken_23 : decode cX3_racksTaken 23 = .ok (.aload_n 0, 1) := by decide +kernel
theorem dX3_racksTaken_24 : decode cX3_racksTaken 24 = .ok (.getfield 30, 3) := by decide +kernel
theorem dX3_racksTaken_27 : decode cX3_racksTaken 27 = .ok (.iload_n 3, 1) := by decide +kernel
theorem dX3_racksTaken_28 : decode cX3_racksTaken 28 = .ok (.iaload, 1) := by decide +kernel
theorem dX3_racksTaken_29 : decode cX3_racksTaken 29 = .ok (.if_icmp .ge 12, 3) := by decide +kernel
theorem dX3_racksTaken_32 : decode cX3_racksTaken 32 = .ok (.iload_n 2, 1) := by decide +kernel
theorem dX3_racksTaken_33 : decode cX3_racksTaken 33 = .ok (.aload_n 0, 1) := by decide +kernel
theorem dX3_racksTaken_34 : decode cX3_racksTaken 34 = .ok (.getfield 9, 3) := by decide +kernel
theorem dX3_racksTaken_37 : decode cX3_racksTaken 37 = .ok (.iload_n 3, 1) := by decide +kernel
theorem dX3_racksTaken_38 : decode cX3_racksTaken 38 = .ok (.iaload, 1) := by decide +kernel
theorem dX3_racksTaken_39 : decode cX3_racksTaken 39 = .ok (.iadd, 1) := by decide +kernel
theorem dX3_racksTaken_40 : decode cX3_racksTaken 40 = .ok (.istore_n 2, 1) := by decide +kernel
theorem dX3_racksTaken_41 : decode cX3_racksTaken 41 = .ok (.iinc 3 1, 3) := by decide +kernel
theorem dX3_racksTaken_44 : decode cX3_racksTaken 44 = .ok (.goto (-40), 3) := by decide +kernel
theorem dX3_racksTaken_47 : decode cX3_racksTaken 47 = .ok (.iload_n 2, 1) := by decide +kernel
theorem dX3_racksTaken_48 : decode cX3_racksTaken 48 = .ok (.ireturn, 1) := by decide +kernel
theorem dX3_reached_0 : decode cX3_reached 0 = .ok (.iconst 0, 1) := by decide +kernel
theorem dX3_reached_1 : decode cX3_reached 1 = .ok (.istore_n 3, 1) := by decide +kernel
theorem dX3_reached_2 : decode cX3_reached 2 = .ok (.iconst 0, 1) := by decide +kernel
theorem dX3_reached_3 : decode cX3_reached 3 = .ok (.istore 4, 2) := by decide +kernel
theorem dX3_reached_5 : decode cX3_reached 5 = .ok (.iload 4, 2) := by decide +kernel
theorem dX3_reached_7 : decode cX3_reached 7 = .ok (.aload_n 0, 1) := by decide +kernel
theorem dX3_reached_8 : decode cX3_reached 8 = .ok (.getfield 45, 3) := by decide +kernel
theorem dX3_reached_11 : decode cX3_reached 11 = .ok (.if_icmp .ge 20, 3) := by decide +kernel
theorem dX3_reached_14 : decode cX3_reached 14 = .ok (.aload_n 1, 1) := by decide +kernel
theorem dX3_reached_15 : decode cX3_reached 15 = .ok (.iload 4, 2) := by decide +kernel
theorem dX3_reached_17 : decode cX3_reached 17 = .ok (.iaload, 1) := by decide +kernel
theorem dX3_reached_18 : decode cX3_reached 18 = .ok (.iload_n 2, 1) := by decide +kernel
theorem dX3_reached_19 : decode cX3_reached 19 = .ok (.if_icmp .gt 6, 3) := by decide +kernel
theorem dX3_reached_22 : decode cX3_reached 22 = .ok (.iinc 3 1, 3) := by decide +kernel
theorem dX3_reached_25 : decode cX3_reached 25 = .ok (.iinc 4 1, 3) := by decide +kernel
theorem dX3_reached_28 : decode cX3_reached 28 = .ok (.goto (-23), 3) := by decide +kernel
theorem dX3_reached_31 : decode cX3_reached 31 = .ok (.iload_n 3, 1) := by decide +kernel
theorem dX3_reached_32 : decode cX3_reached 32 = .ok (.ireturn, 1) := by decide +kernel
end
section
set_option maxRecDepth 20000 in
theorem ggX4_init_X0_init : GoodIn wsX4_init wsX0_init := goodIn_r _ [26, 27, 2, 3, 28, 29, 30, 31, 32, 33, 34, 35, 61, 62, 63] (by decide +kernel) (by decide +kernel)
set_option maxRecDepth 20000 in
theorem gX4_init_X0_init : GoodIn wsX4_init (wsX0_init) := ggX4_init_X0_init
set_option maxRecDepth 20000 in
theorem ggX4_init_X3_init : GoodIn wsX4_init wsX3_init := goodIn_r _ [37, 38, 2, 3, 28, 39, 40, 41, 42, 43, 44, 45, 46, 71, 72, 73, 74, 75, 76, 77, 78, 79, 80, 81, 82, 83, 84, 85, 86, 87, 88] (by decide +kernel) (by decide +kernel)
set_option maxRecDepth 20000 in
theorem gX4_init_X3_init_n21 : GoodIn wsX4_init (wsX3_init) := ggX4_init_X3_init
set_option maxRecDepth 20000 in
theorem ggX4_init_X2_init : GoodIn wsX4_init wsX2_init := goodIn_r _ [48, 49, 2, 3, 50, 5, 6, 51, 28, 52, 53, 25, 26, 27, 29, 30, 31, 32, 33, 34, 35, 61, 62, 63, 89, 90, 91, 92, 93, 94, 95, 96] (by decide +kernel) (by decide +kernel)
set_option maxRecDepth 20000 in
theorem gX4_init_X2_init_n28 : GoodIn wsX4_init (wsX2_init) := ggX4_init_X2_init
set_option maxRecDepth 20000 in
theorem ggX4_init_X1_init : GoodIn wsX4_init wsX1_init := goodIn_r _ [56, 57, 2, 3, 58, 59, 5, 6, 60, 25, 26, 27, 28, 29, 30, 31, 32, 33, 34, 35, 97, 98, 99, 61, 62, 63] (by decide +kernel) (by decide +kernel)
set_option maxRecDepth 20000 in
theorem gX4_init_X1_init : GoodIn wsX4_init (wsX1_init) := ggX4_init_X1_init
theorem dX4_init_0 : decode cX4_init 0 = .ok (.aload_n 0, 1) := by decide +kernel
theorem dX4_init_1 : decode cX4_init 1 = .ok (.invokespecial 1, 3) := by decide +kernel
theorem dX4_init_4 : decode cX4_init 4 = .ok (.aload_n 0, 1) := by decide +kernel
theorem dX4_init_5 : decode cX4_init 5 = .ok (.new 7, 3) := by decide +kernel
theorem dX4_init_8 : decode cX4_init 8 = .ok (.dup, 1) := by decide +kernel
theorem dX4_init_9 : decode cX4_init 9 = .ok (.invokespecial 9, 3) := by decide +kernel
theorem dX4_init_12 : decode cX4_init 12 = .ok (.putfield 10, 3) := by decide +kernel
theorem dX4_init_15 : decode cX4_init 15 = .ok (.aload_n 0, 1) := by decide +kernel
theorem dX4_init_16 : decode cX4_init 16 = .ok (.new 7, 3) := by decide +kernel
theorem dX4_init_19 : decode cX4_init 19 = .ok (.dup, 1) := by decide +kernel
theorem dX4_init_20 : decode cX4_init 20 = .ok (.invokespecial 9, 3) := by decide +kernel
theorem dX4_init_23 : decode cX4_init 23 = .ok (.putfield 16, 3) := by decide +kernel
theorem dX4_init_26 : decode cX4_init 26 = .ok (.aload_n 0, 1) := by decide +kernel
theorem dX4_init_27 : decode cX4_init 27 = .ok (.new 19, 3) := by decide +kernel
theorem dX4_init_30 : decode cX4_init 30 = .ok (.dup, 1) := by decide +kernel
theorem dX4_init_31 : decode cX4_init 31 = .ok (.invokespecial 21, 3) := by decide +kernel
theorem dX4_init_34 : decode cX4_init 34 = .ok (.putfield 22, 3) := by decide +kernel
theorem dX4_init_37 : decode cX4_init 37 = .ok (.aload_n 0, 1) := by decide +kernel
theorem dX4_init_38 : decode cX4_init 38 = .ok (.new 26, 3) := by decide +kernel
theorem dX4_init_41 : decode cX4_init 41 = .ok (.dup, 1) := by decide +kernel
theorem dX4_init_42 : decode cX4_init 42 = .ok (.invokespecial 28, 3) := by decide +kernel
theorem dX4_init_45 : decode cX4_init 45 = .ok (.putfield 29, 3) := by decide +kernel
theorem dX4_init_48 : decode cX4_init 48 = .ok (.aload_n 0, 1) := by decide +kernel
theorem dX4_init_49 : decode cX4_init 49 = .ok (.new 33, 3) := by decide +kernel
theorem dX4_init_52 : decode cX4_init 52 = .ok (.dup, 1) := by decide +kernel
theorem dX4_init_53 : decode cX4_init 53 = .ok (.invokespecial 35, 3) := by decide +kernel
theorem dX4_init_56 : decode cX4_init 56 = .ok (.putfield 36, 3) := by decide +kernel
theorem dX4_init_59 : decode cX4_init 59 = .ok (.aload_n 0, 1) := by decide +kernel
theorem dX4_init_60 : decode cX4_init 60 = .ok (.iconst 2, 1) := by decide +kernel
theorem dX4_init_61 : decode cX4_init 61 = .ok (.anewarray 7, 3) := by decide +kernel
theorem dX4_init_64 : decode cX4_init 64 = .ok (.putfield 40, 3) := by decide +kernel
theorem dX4_init_67 : decode cX4_init 67 = .ok (.iconst 0, 1) := by decide +kernel
theorem dX4_init_68 : decode cX4_init 68 = .ok (.istore_n 1, 1) := by decide +kernel
theorem dX4_init_69 : decode cX4_init 69 = .ok (.iload_n 1, 1) := by decide +kernel
theorem dX4_init_70 : decode cX4_init 70 = .ok (.iconst 2, 1) := by decide +kernel
theorem dX4_init_71 : decode cX4_init 71 = .ok (.if_icmp .ge 22, 3) := by decide +kernel
theorem dX4_init_74 : decode cX4_init 74 = .ok (.aload_n 0, 1) := by decide +kernel
theorem dX4_init_75 : decode cX4_init 75 = .ok (.getfield 40, 3) := by decide +kernel
theorem dX4_init_78 : decode cX4_init 78 = .ok (.iload_n 1, 1) := by decide +kernel
theorem dX4_init_79 : decode cX4_init 79 = .ok (.new 7, 3) := by decide +kernel
theorem dX4_init_82 : decode cX4_init 82 = .ok (.dup, 1) := by decide +kernel
theorem dX4_init_83 : decode cX4_init 83 = .ok (.invokespecial 9, 3) := by decide +kernel
theorem dX4_init_86 : decode cX4_init 86 = .ok (.aastore, 1) := by decide +kernel
theorem dX4_init_87 : decode cX4_init 87 = .ok (.iinc 1 1, 3) := by decide +kernel
theorem dX4_init_90 : decode cX4_init 90 = .ok (.goto (-21), 3) := by decide +kernel
theorem dX4_init_93 : decode cX4_init 93 = .ok (.aload_n 0, 1) := by decide +kernel
theorem dX4_init_94 : decode cX4_init 94 = .ok (.iconst 2, 1) := by decide +kernel
theorem dX4_init_95 : decode cX4_init 95 = .ok (.newarray .boolean, 2) := by decide +kernel
theorem dX4_init_97 : decode cX4_init 97 = .ok (.putfield 44, 3) := by decide +kernel
theorem dX4_init_100 : decode cX4_init 100 = .ok (.return_, 1) := by decide +kernel
set_option maxRecDepth 20000 in
theorem ggX4_set_X4_within : GoodIn wsX4_set wsX4_within := goodIn_r _ [9] (by decide +kernel) (by decide +kernel)
set_option maxRecDepth 20000 in
theorem gX4_set_X4_within : GoodIn wsX4_set (va_wsS RX4 48 yX4_within wsX4_within) := goodIn_app (goodIn_of _ (by decide +kernel)) ggX4_set_X4_within
set_option maxRecDepth 20000 in
theorem ggX4_set_X0_mostRacksNeeded : GoodIn wsX4_set wsX0_mostRacksNeeded := goodIn_r _ [14, 15, 16, 17, 18, 19, 20, 21, 8, 22, 50, 51, 52] (by decide +kernel) (by decide +kernel)
set_option maxRecDepth 20000 in
theorem gX4_set_X0_mostRacksNeeded : GoodIn wsX4_set (wsV RX4 62 RX0 yX0_mostRacksNeeded wsX0_mostRacksNeeded) := goodIn_app (goodIn_of _ (by decide +kernel)) ggX4_set_X0_mostRacksNeeded
set_option maxRecDepth 20000 in
theorem ggX4_set_X1_remember : GoodIn wsX4_set wsX1_remember := goodIn_r _ [27, 28, 29, 30, 31, 32, 19, 33, 34, 35, 36, 13, 37, 38, 39, 40, 41, 42, 16, 15, 53, 54, 55, 50, 51, 52] (by decide +kernel) (by decide +kernel)
set_option maxRecDepth 20000 in
theorem gX4_set_X1_remember : GoodIn wsX4_set (wsV RX4 66 RX1 yX1_remember wsX1_remember) := goodIn_app (goodIn_of _ (by decide +kernel)) ggX4_set_X1_remember
theorem dX4_set_0 : decode cX4_set 0 = .ok (.iload_n 1, 1) := by decide +kernel
theorem dX4_set_1 : decode cX4_set 1 = .ok (.iconst 0, 1) := by decide +kernel
theorem dX4_set_2 : decode cX4_set 2 = .ok (.bipush 6, 2) := by decide +kernel
theorem dX4_set_4 : decode cX4_set 4 = .ok (.invokestatic 48, 3) := by decide +kernel
theorem dX4_set_7 : decode cX4_set 7 = .ok (.ifCond .eq 20, 3) := by decide +kernel
theorem dX4_set_10 : decode cX4_set 10 = .ok (.iload_n 2, 1) := by decide +kernel
theorem dX4_set_11 : decode cX4_set 11 = .ok (.getstatic 52, 3) := by decide +kernel
theorem dX4_set_14 : decode cX4_set 14 = .ok (.iload_n 1, 1) := by decide +kernel
theorem dX4_set_15 : decode cX4_set 15 = .ok (.iaload, 1) := by decide +kernel
theorem dX4_set_16 : decode cX4_set 16 = .ok (.getstatic 56, 3) := by decide +kernel
theorem dX4_set_19 : decode cX4_set 19 = .ok (.iload_n 1, 1) := by decide +kernel
theorem dX4_set_20 : decode cX4_set 20 = .ok (.iaload, 1) := by decide +kernel
theorem dX4_set_21 : decode cX4_set 21 = .ok (.invokestatic 48, 3) := by decide +kernel
theorem dX4_set_24 : decode cX4_set 24 = .ok (.ifCond .ne 6, 3) := by decide +kernel
theorem dX4_set_27 : decode cX4_set 27 = .ok (.bipush (-2), 2) := by decide +kernel
theorem dX4_set_29 : decode cX4_set 29 = .ok (.ireturn, 1) := by decide +kernel
theorem dX4_set_30 : decode cX4_set 30 = .ok (.iload_n 1, 1) := by decide +kernel
theorem dX4_set_31 : decode cX4_set 31 = .ok (.iconst 5, 1) := by decide +kernel
theorem dX4_set_32 : decode cX4_set 32 = .ok (.if_icmp .ne 7, 3) := by decide +kernel
theorem dX4_set_35 : decode cX4_set 35 = .ok (.iload_n 2, 1) := by decide +kernel
theorem dX4_set_36 : decode cX4_set 36 = .ok (.goto 12, 3) := by decide +kernel
theorem dX4_set_39 : decode cX4_set 39 = .ok (.aload_n 0, 1) := by decide +kernel
theorem dX4_set_40 : decode cX4_set 40 = .ok (.getfield 10, 3) := by decide +kernel
theorem dX4_set_43 : decode cX4_set 43 = .ok (.getfield 59, 3) := by decide +kernel
theorem dX4_set_46 : decode cX4_set 46 = .ok (.iconst 5, 1) := by decide +kernel
theorem dX4_set_47 : decode cX4_set 47 = .ok (.iaload, 1) := by decide +kernel
theorem dX4_set_48 : decode cX4_set 48 = .ok (.istore_n 3, 1) := by decide +kernel
theorem dX4_set_49 : decode cX4_set 49 = .ok (.iload_n 1, 1) := by decide +kernel
theorem dX4_set_50 : decode cX4_set 50 = .ok (.bipush 6, 2) := by decide +kernel
theorem dX4_set_52 : decode cX4_set 52 = .ok (.if_icmp .ne 7, 3) := by decide +kernel
theorem dX4_set_55 : decode cX4_set 55 = .ok (.iload_n 2, 1) := by decide +kernel
theorem dX4_set_56 : decode cX4_set 56 = .ok (.goto 13, 3) := by decide +kernel
theorem dX4_set_59 : decode cX4_set 59 = .ok (.aload_n 0, 1) := by decide +kernel
theorem dX4_set_60 : decode cX4_set 60 = .ok (.getfield 10, 3) := by decide +kernel
theorem dX4_set_63 : decode cX4_set 63 = .ok (.getfield 59, 3) := by decide +kernel
theorem dX4_set_66 : decode cX4_set 66 = .ok (.bipush 6, 2) := by decide +kernel
theorem dX4_set_68 : decode cX4_set 68 = .ok (.iaload, 1) := by decide +kernel
theorem dX4_set_69 : decode cX4_set 69 = .ok (.istore 4, 2) := by decide +kernel
theorem dX4_set_71 : decode cX4_set 71 = .ok (.aload_n 0, 1) := by decide +kernel
theorem dX4_set_72 : decode cX4_set 72 = .ok (.getfield 10, 3) := by decide +kernel
theorem dX4_set_75 : decode cX4_set 75 = .ok (.iload 4, 2) := by decide +kernel
theorem dX4_set_77 : decode cX4_set 77 = .ok (.invokevirtual 62, 3) := by decide +kernel
theorem dX4_set_80 : decode cX4_set 80 = .ok (.iload_n 3, 1) := by decide +kernel
theorem dX4_set_81 : decode cX4_set 81 = .ok (.if_icmp .le 6, 3) := by decide +kernel
theorem dX4_set_84 : decode cX4_set 84 = .ok (.bipush (-5), 2) := by decide +kernel
theorem dX4_set_86 : decode cX4_set 86 = .ok (.ireturn, 1) := by decide +kernel
theorem dX4_set_87 : decode cX4_set 87 = .ok (.aload_n 0, 1) := by decide +kernel
theorem dX4_set_88 : decode cX4_set 88 = .ok (.getfield 10, 3) := by decide +kernel
theorem dX4_set_91 : decode cX4_set 91 = .ok (.getfield 59, 3) := by decide +kernel
theorem dX4_set_94 : decode cX4_set 94 = .ok (.iload_n 1, 1) := by decide +kernel
theorem dX4_set_95 : decode cX4_set 95 = .ok (.iaload, 1) := by decide +kernel
theorem dX4_set_96 : decode cX4_set 96 = .ok (.istore 5, 2) := by decide +kernel
theorem dX4_set_98 : decode cX4_set 98 = .ok (.aload_n 0, 1) := by decide +kernel
theorem dX4_set_99 : decode cX4_set 99 = .ok (.getfield 36, 3) := by decide +kernel
theorem dX4_set_102 : decode cX4_set 102 = .ok (.aload_n 0, 1) := by decide +kernel
theorem dX4_set_103 : decode cX4_set 103 = .ok (.getfield 10, 3) := by decide +kernel
theorem dX4_set_106 : decode cX4_set 106 = .ok (.invokevirtual 66, 3) := by decide +kernel
theorem dX4_set_109 : decode cX4_set 109 = .ok (.aload_n 0, 1) := by decide +kernel
theorem dX4_set_110 : decode cX4_set 110 = .ok (.getfield 10, 3) := by decide +kernel
theorem dX4_set_113 : decode cX4_set 113 = .ok (.getfield 59, 3) := by decide +kernel
theorem dX4_set_116 : decode cX4_set 116 = .ok (.iload_n 1, 1) := by decide +kernel
theorem dX4_set_117 : decode cX4_set 117 = .ok (.iload_n 2, 1) := by decide +kernel
theorem dX4_set_118 : decode cX4_set 118 = .ok (.iastore, 1) := by decide +kernel
theorem dX4_set_119 : decode cX4_set 119 = .ok (.iload 5, 2) := by decide +kernel
theorem dX4_set_121 : decode cX4_set 121 = .ok (.ireturn, 1) := by decide +kernel
set_option maxRecDepth 20000 in
theorem ggX4_job_X4_within : GoodIn wsX4_job wsX4_within := goodIn_r _ [8] (by decide +kernel) (by decide +kernel)
set_option maxRecDepth 20000 in
theorem gX4_job_X4_within : GoodIn wsX4_job (va_wsS RX4 48 yX4_within wsX4_within) := goodIn_app (goodIn_of _ (by decide +kernel)) ggX4_job_X4_within
set_option maxRecDepth 20000 in
theorem ggX4_job_X4_racksFor : GoodIn wsX4_job wsX4_racksFor := goodIn_r _ [11] (by decide +kernel) (by decide +kernel)
set_option maxRecDepth 20000 in
theorem gX4_job_X4_racksFor : GoodIn wsX4_job (va_wsS RX4 70 yX4_racksFor wsX4_racksFor) := goodIn_app (goodIn_of _ (by decide +kernel)) ggX4_job_X4_racksFor
set_option maxRecDepth 20000 in
theorem ggX4_job_X1_remember : GoodIn wsX4_job wsX1_remember := goodIn_r _ [16, 17, 18, 19, 20, 21, 22, 23, 24, 25, 26, 27, 28, 29, 30, 31, 32, 33, 34, 35, 50, 51, 52, 47, 48, 49] (by decide +kernel) (by decide +kernel)
set_option maxRecDepth 20000 in
theorem gX4_job_X1_remember : GoodIn wsX4_job (wsV RX4 66 RX1 yX1_remember wsX1_remember) := goodIn_app (goodIn_of _ (by decide +kernel)) ggX4_job_X1_remember
set_option maxRecDepth 20000 in
theorem ggX4_job_X0_append : GoodIn wsX4_job wsX0_append := goodIn_r _ [39, 35, 34, 47, 48, 49] (by decide +kernel) (by decide +kernel)
set_option maxRecDepth 20000 in
theorem gX4_job_X0_append : GoodIn wsX4_job (wsV RX4 78 RX0 yX0_append wsX0_append) := goodIn_app (goodIn_of _ (by decide +kernel)) ggX4_job_X0_append
theorem dX4_job_0 : decode cX4_job 0 = .ok (.iload_n 1, 1) := by decide +kernel
theorem dX4_job_1 : decode cX4_job 1 = .ok (.iconst 0, 1) := by decide +kernel
theorem dX4_job_2 : decode cX4_job 2 = .ok (.bipush 9, 2) := by decide +kernel
theorem dX4_job_4 : decode cX4_job 4 = .ok (.invokestatic 48, 3) := by decide +kernel
theorem dX4_job_7 : decode cX4_job 7 = .ok (.ifCond .eq 35, 3) := by decide +kernel
theorem dX4_job_10 : decode cX4_job 10 = .ok (.iload_n 2, 1) := by decide +kernel
theorem dX4_job_11 : decode cX4_job 11 = .ok (.iconst 0, 1) := by decide +kernel
theorem dX4_job_12 : decode cX4_job 12 = .ok (.bipush 9, 2) := by decide +kernel
theorem dX4_job_14 : decode cX4_job 14 = .ok (.invokestatic 48, 3) := by decide +kernel
theorem dX4_job_17 : decode cX4_job 17 = .ok (.ifCond .eq 25, 3) := by decide +kernel
theorem dX4_job_20 : decode cX4_job 20 = .ok (.iload_n 3, 1) := by decide +kernel
theorem dX4_job_21 : decode cX4_job 21 = .ok (.iconst 1, 1) := by decide +kernel
theorem dX4_job_22 : decode cX4_job 22 = .ok (.bipush 20, 2) := by decide +kernel
theorem dX4_job_24 : decode cX4_job 24 = .ok (.invokestatic 48, 3) := by decide +kernel
theorem dX4_job_27 : decode cX4_job 27 = .ok (.ifCond .eq 15, 3) := by decide +kernel
theorem dX4_job_30 : decode cX4_job 30 = .ok (.iload 4, 2) := by decide +kernel
theorem dX4_job_32 : decode cX4_job 32 = .ok (.iconst 0, 1) := by decide +kernel
theorem dX4_job_33 : decode cX4_job 33 = .ok (.sipush 3000, 3) := by decide +kernel
theorem dX4_job_36 : decode cX4_job 36 = .ok (.invokestatic 48, 3) := by decide +kernel
theorem dX4_job_39 : decode cX4_job 39 = .ok (.ifCond .ne 6, 3) := by decide +kernel
theorem dX4_job_42 : decode cX4_job 42 = .ok (.bipush (-2), 2) := by decide +kernel
theorem dX4_job_44 : decode cX4_job 44 = .ok (.ireturn, 1) := by decide +kernel
theorem dX4_job_45 : decode cX4_job 45 = .ok (.iload_n 3, 1) := by decide +kernel
theorem dX4_job_46 : decode cX4_job 46 = .ok (.aload_n 0, 1) := by decide +kernel
theorem dX4_job_47 : decode cX4_job 47 = .ok (.getfield 10, 3) := by decide +kernel
theorem dX4_job_50 : decode cX4_job 50 = .ok (.getfield 59, 3) := by decide +kernel
theorem dX4_job_53 : decode cX4_job 53 = .ok (.bipush 6, 2) := by decide +kernel
theorem dX4_job_55 : decode cX4_job 55 = .ok (.iaload, 1) := by decide +kernel
theorem dX4_job_56 : decode cX4_job 56 = .ok (.invokestatic 70, 3) := by decide +kernel
theorem dX4_job_59 : decode cX4_job 59 = .ok (.aload_n 0, 1) := by decide +kernel
theorem dX4_job_60 : decode cX4_job 60 = .ok (.getfield 10, 3) := by decide +kernel
theorem dX4_job_63 : decode cX4_job 63 = .ok (.getfield 59, 3) := by decide +kernel
theorem dX4_job_66 : decode cX4_job 66 = .ok (.iconst 5, 1) := by decide +kernel
theorem dX4_job_67 : decode cX4_job 67 = .ok (.iaload, 1) := by decide +kernel
theorem dX4_job_68 : decode cX4_job 68 = .ok (.if_icmp .le 6, 3) := by decide +kernel
theorem dX4_job_71 : decode cX4_job 71 = .ok (.bipush (-5), 2) := by decide +kernel
theorem dX4_job_73 : decode cX4_job 73 = .ok (.ireturn, 1) := by decide +kernel
theorem dX4_job_74 : decode cX4_job 74 = .ok (.aload_n 0, 1) := by decide +kernel
theorem dX4_job_75 : decode cX4_job 75 = .ok (.getfield 10, 3) := by decide +kernel
theorem dX4_job_78 : decode cX4_job 78 = .ok (.getfield 74, 3) := by decide +kernel
theorem dX4_job_81 : decode cX4_job 81 = .ok (.bipush 12, 2) := by decide +kernel
theorem dX4_job_83 : decode cX4_job 83 = .ok (.if_icmp .lt 6, 3) := by decide +kernel
theorem dX4_job_86 : decode cX4_job 86 = .ok (.bipush (-4), 2) := by decide +kernel
theorem dX4_job_88 : decode cX4_job 88 = .ok (.ireturn, 1) := by decide +kernel
theorem dX4_job_89 : decode cX4_job 89 = .ok (.aload_n 0, 1) := by decide +kernel
theorem dX4_job_90 : decode cX4_job 90 = .ok (.getfield 36, 3) := by decide +kernel
theorem dX4_job_93 : decode cX4_job 93 = .ok (.aload_n 0, 1) := by decide +kernel
theorem dX4_job_94 : decode cX4_job 94 = .ok (.getfield 10, 3) := by decide +kernel
theorem dX4_job_97 : decode cX4_job 97 = .ok (.invokevirtual 66, 3) := by decide +kernel
theorem dX4_job_100 : decode cX4_job 100 = .ok (.aload_n 0, 1) := by decide +kernel
theorem dX4_job_101 : decode cX4_job 101 = .ok (.getfield 10, 3) := by decide +kernel
theorem dX4_job_104 : decode cX4_job 104 = .ok (.iload_n 1, 1) := by decide +kernel
theorem dX4_job_105 : decode cX4_job 105 = .ok (.iload_n 2, 1) := by decide +kernel
theorem dX4_job_106 : decode cX4_job 106 = .ok (.iload_n 3, 1) := by decide +kernel
theorem dX4_job_107 : decode cX4_job 107 = .ok (.iload 4, 2) := by decide +kernel
theorem dX4_job_109 : decode cX4_job 109 = .ok (.invokevirtual 78, 3) := by decide +kernel
theorem dX4_job_112 : decode cX4_job 112 = .ok (.aload_n 0, 1) := by decide +kernel
theorem dX4_job_113 : decode cX4_job 113 = .ok (.getfield 10, 3) := by decide +kernel
theorem dX4_job_116 : decode cX4_job 116 = .ok (.getfield 74, 3) := by decide +kernel
theorem dX4_job_119 : decode cX4_job 119 = .ok (.iconst 1, 1) := by decide +kernel
theorem dX4_job_120 : decode cX4_job 120 = .ok (.isub, 1) := by decide +kernel
theorem dX4_job_121 : decode cX4_job 121 = .ok (.ireturn, 1) := by decide +kernel
set_option maxRecDepth 20000 in
theorem ggX4_read_X2_parse : GoodIn wsX4_read wsX2_parse := goodIn_r _ [12, 13, 14, 15, 16, 17, 18, 19, 20, 11, 21, 22, 23, 24, 25, 26, 27, 28, 29, 30, 31, 32, 33, 34, 35, 36, 37, 38, 39, 40, 41, 42, 43, 44, 45, 46, 47, 48, 49, 50, 51, 52, 53, 54, 55, 98, 99, 100, 101, 102, 103, 104, 105, 106, 107, 108] (by decide +kernel) (by decide +kernel)
set_option maxRecDepth 20000 in
theorem gX4_read_X2_parse : GoodIn wsX4_read (wsV RX4 82 RX2 yX2_parse wsX2_parse) := goodIn_app (goodIn_of _ (by decide +kernel)) ggX4_read_X2_parse
set_option maxRecDepth 20000 in
theorem ggX4_read_X0_mostRacksNeeded : GoodIn wsX4_read wsX0_mostRacksNeeded := goodIn_r _ [59, 50, 51, 60, 61, 62, 63, 64, 27, 65, 106, 107, 108] (by decide +kernel) (by decide +kernel)
set_option maxRecDepth 20000 in
theorem gX4_read_X0_mostRacksNeeded : GoodIn wsX4_read (wsV RX4 62 RX0 yX0_mostRacksNeeded wsX0_mostRacksNeeded) := goodIn_app (goodIn_of _ (by decide +kernel)) ggX4_read_X0_mostRacksNeeded
set_option maxRecDepth 20000 in
theorem ggX4_read_X1_remember : GoodIn wsX4_read wsX1_remember := goodIn_r _ [70, 71, 72, 73, 74, 75, 62, 76, 77, 78, 79, 48, 80, 81, 82, 83, 84, 85, 51, 50, 109, 110, 111, 106, 107, 108] (by decide +kernel) (by decide +kernel)
set_option maxRecDepth 20000 in
theorem gX4_read_X1_remember : GoodIn wsX4_read (wsV RX4 66 RX1 yX1_remember wsX1_remember) := goodIn_app (goodIn_of _ (by decide +kernel)) ggX4_read_X1_remember
set_option maxRecDepth 20000 in
theorem ggX4_read_X0_appendAll : GoodIn wsX4_read wsX0_appendAll := goodIn_r _ [89, 50, 51, 90, 46, 47, 48, 49, 106, 107, 108] (by decide +kernel) (by decide +kernel)
set_option maxRecDepth 20000 in
theorem gX4_read_X0_appendAll : GoodIn wsX4_read (wsV RX4 89 RX0 yX0_appendAll wsX0_appendAll) := goodIn_app (goodIn_of _ (by decide +kernel)) ggX4_read_X0_appendAll
theorem dX4_read_0 : decode cX4_read 0 = .ok (.aload_n 0, 1) := by decide +kernel
theorem dX4_read_1 : decode cX4_read 1 = .ok (.getfield 29, 3) := by decide +kernel
theorem dX4_read_4 : decode cX4_read 4 = .ok (.invokevirtual 82, 3) := by decide +kernel
theorem dX4_read_7 : decode cX4_read 7 = .ok (.bipush (-6), 2) := by decide +kernel
theorem dX4_read_9 : decode cX4_read 9 = .ok (.if_icmp .eq 6, 3) := by decide +kernel
theorem dX4_read_12 : decode cX4_read 12 = .ok (.bipush (-3), 2) := by decide +kernel
theorem dX4_read_14 : decode cX4_read 14 = .ok (.ireturn, 1) := by decide +kernel
theorem dX4_read_15 : decode cX4_read 15 = .ok (.aload_n 0, 1) := by decide +kernel
theorem dX4_read_16 : decode cX4_read 16 = .ok (.getfield 29, 3) := by decide +kernel
theorem dX4_read_19 : decode cX4_read 19 = .ok (.getfield 86, 3) := by decide +kernel
theorem dX4_read_22 : decode cX4_read 22 = .ok (.aload_n 0, 1) := by decide +kernel
theorem dX4_read_23 : decode cX4_read 23 = .ok (.getfield 10, 3) := by decide +kernel
theorem dX4_read_26 : decode cX4_read 26 = .ok (.getfield 59, 3) := by decide +kernel
theorem dX4_read_29 : decode cX4_read 29 = .ok (.bipush 6, 2) := by decide +kernel
theorem dX4_read_31 : decode cX4_read 31 = .ok (.iaload, 1) := by decide +kernel
theorem dX4_read_32 : decode cX4_read 32 = .ok (.invokevirtual 62, 3) := by decide +kernel
theorem dX4_read_35 : decode cX4_read 35 = .ok (.aload_n 0, 1) := by decide +kernel
theorem dX4_read_36 : decode cX4_read 36 = .ok (.getfield 10, 3) := by decide +kernel
theorem dX4_read_39 : decode cX4_read 39 = .ok (.getfield 59, 3) := by decide +kernel
theorem dX4_read_42 : decode cX4_read 42 = .ok (.iconst 5, 1) := by decide +kernel
theorem dX4_read_43 : decode cX4_read 43 = .ok (.iaload, 1) := by decide +kernel
theorem dX4_read_44 : decode cX4_read 44 = .ok (.if_icmp .le 6, 3) := by decide +kernel
theorem dX4_read_47 : decode cX4_read 47 = .ok (.bipush (-5), 2) := by decide +kernel
theorem dX4_read_49 : decode cX4_read 49 = .ok (.ireturn, 1) := by decide +kernel
theorem dX4_read_50 : decode cX4_read 50 = .ok (.aload_n 0, 1) := by decide +kernel
theorem dX4_read_51 : decode cX4_read 51 = .ok (.getfield 10, 3) := by decide +kernel
theorem dX4_read_54 : decode cX4_read 54 = .ok (.getfield 74, 3) := by decide +kernel
theorem dX4_read_57 : decode cX4_read 57 = .ok (.aload_n 0, 1) := by decide +kernel
theorem dX4_read_58 : decode cX4_read 58 = .ok (.getfield 29, 3) := by decide +kernel
theorem dX4_read_61 : decode cX4_read 61 = .ok (.getfield 86, 3) := by decide +kernel
theorem dX4_read_64 : decode cX4_read 64 = .ok (.getfield 74, 3) := by decide +kernel
theorem dX4_read_67 : decode cX4_read 67 = .ok (.iadd, 1) := by decide +kernel
theorem dX4_read_68 : decode cX4_read 68 = .ok (.bipush 12, 2) := by decide +kernel
theorem dX4_read_70 : decode cX4_read 70 = .ok (.if_icmp .le 6, 3) := by decide +kernel
theorem dX4_read_73 : decode cX4_read 73 = .ok (.bipush (-4), 2) := by decide +kernel
theorem dX4_read_75 : decode cX4_read 75 = .ok (.ireturn, 1) := by decide +kernel
theorem dX4_read_76 : decode cX4_read 76 = .ok (.aload_n 0, 1) := by decide +kernel
theorem dX4_read_77 : decode cX4_read 77 = .ok (.getfield 36, 3) := by decide +kernel
theorem dX4_read_80 : decode cX4_read 80 = .ok (.aload_n 0, 1) := by decide +kernel
theorem dX4_read_81 : decode cX4_read 81 = .ok (.getfield 10, 3) := by decide +kernel
theorem dX4_read_84 : decode cX4_read 84 = .ok (.invokevirtual 66, 3) := by decide +kernel
theorem dX4_read_87 : decode cX4_read 87 = .ok (.aload_n 0, 1) := by decide +kernel
theorem dX4_read_88 : decode cX4_read 88 = .ok (.getfield 10, 3) := by decide +kernel
theorem dX4_read_91 : decode cX4_read 91 = .ok (.aload_n 0, 1) := by decide +kernel
theorem dX4_read_92 : decode cX4_read 92 = .ok (.getfield 29, 3) := by decide +kernel
theorem dX4_read_95 : decode cX4_read 95 = .ok (.getfield 86, 3) := by decide +kernel
theorem dX4_read_98 : decode cX4_read 98 = .ok (.invokevirtual 89, 3) := by decide +kernel
theorem dX4_read_101 : decode cX4_read 101 = .ok (.aload_n 0, 1) := by decide +kernel
theorem dX4_read_102 : decode cX4_read 102 = .ok (.getfield 29, 3) := by decide +kernel
theorem dX4_read_105 : decode cX4_read 105 = .ok (.iconst 0, 1) := by decide +kernel
theorem dX4_read_106 : decode cX4_read 106 = .ok (.putfield 92, 3) := by decide +kernel
theorem dX4_read_109 : decode cX4_read 109 = .ok (.aload_n 0, 1) := by decide +kernel
theorem dX4_read_110 : decode cX4_read 110 = .ok (.getfield 10, 3) := by decide +kernel
theorem dX4_read_113 : decode cX4_read 113 = .ok (.getfield 74, 3) := by decide +kernel
theorem dX4_read_116 : decode cX4_read 116 = .ok (.ireturn, 1) := by decide +kernel
set_option maxRecDepth 20000 in
theorem ggX4_drop_X4_isJob : GoodIn wsX4_drop wsX4_isJob := goodIn_r _ [8, 2, 3, 9, 10, 7, 11, 44, 45, 46, 47, 48, 49, 50, 51, 52, 53] (by decide +kernel) (by decide +kernel)
set_option maxRecDepth 20000 in
theorem gX4_drop_X4_isJob : GoodIn wsX4_drop (wsV RX4 95 RX4 yX4_isJob wsX4_isJob) := goodIn_app (goodIn_of _ (by decide +kernel)) ggX4_drop_X4_isJob
set_option maxRecDepth 20000 in
theorem ggX4_drop_X1_remember : GoodIn wsX4_drop wsX1_remember := goodIn_r _ [16, 17, 18, 19, 20, 21, 22, 23, 24, 25, 26, 27, 28, 29, 30, 31, 32, 33, 34, 35, 54, 55, 56, 51, 52, 53] (by decide +kernel) (by decide +kernel)
set_option maxRecDepth 20000 in
theorem gX4_drop_X1_remember : GoodIn wsX4_drop (wsV RX4 66 RX1 yX1_remember wsX1_remember) := goodIn_app (goodIn_of _ (by decide +kernel)) ggX4_drop_X1_remember
set_option maxRecDepth 20000 in
theorem ggX4_drop_X0_remove : GoodIn wsX4_drop wsX0_remove := goodIn_r _ [39, 35, 40, 41, 42, 27, 43, 34, 51, 52, 53] (by decide +kernel) (by decide +kernel)
set_option maxRecDepth 20000 in
theorem gX4_drop_X0_remove : GoodIn wsX4_drop (wsV RX4 99 RX0 yX0_remove wsX0_remove) := goodIn_app (goodIn_of _ (by decide +kernel)) ggX4_drop_X0_remove
theorem dX4_drop_0 : decode cX4_drop 0 = .ok (.aload_n 0, 1) := by decide +kernel
theorem dX4_drop_1 : decode cX4_drop 1 = .ok (.iload_n 1, 1) := by decide +kernel
theorem dX4_drop_2 : decode cX4_drop 2 = .ok (.invokevirtual 95, 3) := by decide +kernel
theorem dX4_drop_5 : decode cX4_drop 5 = .ok (.ifCond .ne 5, 3) := by decide +kernel
theorem dX4_drop_8 : decode cX4_drop 8 = .ok (.iconst (-1), 1) := by decide +kernel
theorem dX4_drop_9 : decode cX4_drop 9 = .ok (.ireturn, 1) := by decide +kernel
theorem dX4_drop_10 : decode cX4_drop 10 = .ok (.aload_n 0, 1) := by decide +kernel
theorem dX4_drop_11 : decode cX4_drop 11 = .ok (.getfield 36, 3) := by decide +kernel
theorem dX4_drop_14 : decode cX4_drop 14 = .ok (.aload_n 0, 1) := by decide +kernel
theorem dX4_drop_15 : decode cX4_drop 15 = .ok (.getfield 10, 3) := by decide +kernel
theorem dX4_drop_18 : decode cX4_drop 18 = .ok (.invokevirtual 66, 3) := by decide +kernel
theorem dX4_drop_21 : decode cX4_drop 21 = .ok (.aload_n 0, 1) := by decide +kernel
theorem dX4_drop_22 : decode cX4_drop 22 = .ok (.getfield 10, 3) := by decide +kernel
theorem dX4_drop_25 : decode cX4_drop 25 = .ok (.iload_n 1, 1) := by decide +kernel
theorem dX4_drop_26 : decode cX4_drop 26 = .ok (.invokevirtual 99, 3) := by decide +kernel
theorem dX4_drop_29 : decode cX4_drop 29 = .ok (.aload_n 0, 1) := by decide +kernel
theorem dX4_drop_30 : decode cX4_drop 30 = .ok (.getfield 10, 3) := by decide +kernel
theorem dX4_drop_33 : decode cX4_drop 33 = .ok (.getfield 74, 3) := by decide +kernel
theorem dX4_drop_36 : decode cX4_drop 36 = .ok (.ireturn, 1) := by decide +kernel
set_option maxRecDepth 20000 in
theorem ggX4_move_X4_isJob : GoodIn wsX4_move wsX4_isJob := goodIn_r _ [7, 2, 8, 9, 10, 6, 11, 101, 102, 103, 104, 105, 106, 107, 108, 109, 110] (by decide +kernel) (by decide +kernel)
set_option maxRecDepth 20000 in
theorem gX4_move_X4_isJob : GoodIn wsX4_move (wsV RX4 95 RX4 yX4_isJob wsX4_isJob) := goodIn_app (goodIn_of _ (by decide +kernel)) ggX4_move_X4_isJob
set_option maxRecDepth 20000 in
theorem ggX4_move_X1_remember : GoodIn wsX4_move wsX1_remember := goodIn_r _ [16, 17, 18, 19, 20, 21, 22, 23, 24, 25, 26, 27, 28, 29, 30, 31, 32, 33, 34, 35, 111, 112, 113, 108, 109, 110] (by decide +kernel) (by decide +kernel)
set_option maxRecDepth 20000 in
theorem gX4_move_X1_remember : GoodIn wsX4_move (wsV RX4 66 RX1 yX1_remember wsX1_remember) := goodIn_app (goodIn_of _ (by decide +kernel)) ggX4_move_X1_remember
set_option maxRecDepth 20000 in
theorem ggX4_move_X0_shift : GoodIn wsX4_move wsX0_shift := goodIn_r _ [39, 34, 108, 109, 110] (by decide +kernel) (by decide +kernel)
set_option maxRecDepth 20000 in
theorem gX4_move_X0_shift : GoodIn wsX4_move (wsV RX4 103 RX0 yX0_shift wsX0_shift) := goodIn_app (goodIn_of _ (by decide +kernel)) ggX4_move_X0_shift
set_option maxRecDepth 20000 in
theorem ggX4_move_X4_lateSumOf : GoodIn wsX4_move wsX4_lateSumOf := goodIn_r _ [43, 44, 45, 46, 47, 48, 49, 50, 51, 52, 53, 54, 55, 56, 57, 58, 59, 60, 61, 62, 63, 64, 65, 66, 67, 68, 69, 70, 71, 72, 73, 74, 75, 76, 77, 78, 79, 80, 81, 82, 83, 84, 85, 86, 6, 87, 88, 89, 90, 91, 92, 93, 94, 22, 95, 96, 97, 98, 99, 100, 101, 102, 103, 104, 105, 106, 107, 108, 109, 110, 114, 115, 116, 117, 118, 119, 120, 121, 122, 123, 124, 125, 126, 127, 128, 129, 130, 131] (by decide +kernel) (by decide +kernel)
set_option maxRecDepth 20000 in
theorem gX4_move_X4_lateSumOf : GoodIn wsX4_move (wsV RX4 107 RX4 yX4_lateSumOf wsX4_lateSumOf) := goodIn_app (goodIn_of _ (by decide +kernel)) ggX4_move_X4_lateSumOf
theorem dX4_move_0 : decode cX4_move 0 = .ok (.aload_n 0, 1) := by decide +kernel
theorem dX4_move_1 : decode cX4_move 1 = .ok (.iload_n 1, 1) := by decide +kernel
theorem dX4_move_2 : decode cX4_move 2 = .ok (.invokevirtual 95, 3) := by decide +kernel
theorem dX4_move_5 : decode cX4_move 5 = .ok (.ifCond .eq 11, 3) := by decide +kernel
theorem dX4_move_8 : decode cX4_move 8 = .ok (.aload_n 0, 1) := by decide +kernel
theorem dX4_move_9 : decode cX4_move 9 = .ok (.iload_n 2, 1) := by decide +kernel
theorem dX4_move_10 : decode cX4_move 10 = .ok (.invokevirtual 95, 3) := by decide +kernel
theorem dX4_move_13 : decode cX4_move 13 = .ok (.ifCond .ne 5, 3) := by decide +kernel
theorem dX4_move_16 : decode cX4_move 16 = .ok (.iconst (-1), 1) := by decide +kernel
theorem dX4_move_17 : decode cX4_move 17 = .ok (.ireturn, 1) := by decide +kernel
theorem dX4_move_18 : decode cX4_move 18 = .ok (.aload_n 0, 1) := by decide +kernel
theorem dX4_move_19 : decode cX4_move 19 = .ok (.getfield 36, 3) := by decide +kernel
theorem dX4_move_22 : decode cX4_move 22 = .ok (.aload_n 0, 1) := by decide +kernel
theorem dX4_move_23 : decode cX4_move 23 = .ok (.getfield 10, 3) := by decide +kernel
theorem dX4_move_26 : decode cX4_move 26 = .ok (.invokevirtual 66, 3) := by decide +kernel
theorem dX4_move_29 : decode cX4_move 29 = .ok (.aload_n 0, 1) := by decide +kernel
theorem dX4_move_30 : decode cX4_move 30 = .ok (.getfield 10, 3) := by decide +kernel
theorem dX4_move_33 : decode cX4_move 33 = .ok (.iload_n 1, 1) := by decide +kernel
theorem dX4_move_34 : decode cX4_move 34 = .ok (.iload_n 2, 1) := by decide +kernel
theorem dX4_move_35 : decode cX4_move 35 = .ok (.invokevirtual 103, 3) := by decide +kernel
theorem dX4_move_38 : decode cX4_move 38 = .ok (.aload_n 0, 1) := by decide +kernel
theorem dX4_move_39 : decode cX4_move 39 = .ok (.aload_n 0, 1) := by decide +kernel
theorem dX4_move_40 : decode cX4_move 40 = .ok (.getfield 10, 3) := by decide +kernel
theorem dX4_move_43 : decode cX4_move 43 = .ok (.invokevirtual 107, 3) := by decide +kernel
theorem dX4_move_46 : decode cX4_move 46 = .ok (.ireturn, 1) := by decide +kernel
set_option maxRecDepth 20000 in
theorem ggX4_due_X4_isJob : GoodIn wsX4_due wsX4_isJob := goodIn_r _ [11, 2, 12, 13, 14, 10, 15, 94, 95, 96, 97, 98, 99, 100, 101, 102, 103] (by decide +kernel) (by decide +kernel)
set_option maxRecDepth 20000 in
theorem gX4_due_X4_isJob : GoodIn wsX4_due (wsV RX4 95 RX4 yX4_isJob wsX4_isJob) := goodIn_app (goodIn_of _ (by decide +kernel)) ggX4_due_X4_isJob
set_option maxRecDepth 20000 in
theorem ggX4_due_X4_within : GoodIn wsX4_due wsX4_within := goodIn_r _ [15] (by decide +kernel) (by decide +kernel)
set_option maxRecDepth 20000 in
theorem gX4_due_X4_within : GoodIn wsX4_due (va_wsS RX4 48 yX4_within wsX4_within) := goodIn_app (goodIn_of _ (by decide +kernel)) ggX4_due_X4_within
set_option maxRecDepth 20000 in
theorem ggX4_due_X1_remember : GoodIn wsX4_due wsX1_remember := goodIn_r _ [20, 21, 22, 23, 24, 25, 26, 27, 28, 29, 30, 31, 32, 33, 34, 35, 36, 37, 38, 39, 122, 123, 124, 101, 102, 103] (by decide +kernel) (by decide +kernel)
set_option maxRecDepth 20000 in
theorem gX4_due_X1_remember : GoodIn wsX4_due (wsV RX4 66 RX1 yX1_remember wsX1_remember) := goodIn_app (goodIn_of _ (by decide +kernel)) ggX4_due_X1_remember
set_option maxRecDepth 20000 in
theorem ggX4_due_X3_print : GoodIn wsX4_due wsX3_print := goodIn_r _ [44, 45, 46, 47, 48, 49, 43, 50, 51, 52, 53, 54, 55, 56, 57, 58, 59, 60, 61, 62, 63, 64, 65, 66, 67, 68, 69, 70, 71, 72, 73, 74, 75, 76, 77, 78, 79, 10, 80, 81, 82, 83, 84, 85, 86, 87, 26, 88, 89, 90, 91, 92, 93, 101, 102, 103, 104, 105, 106, 107, 108, 109, 110, 111, 112, 113, 114, 115, 116, 117, 118, 119, 120, 121] (by decide +kernel) (by decide +kernel)
set_option maxRecDepth 20000 in
theorem gX4_due_X3_print : GoodIn wsX4_due (wsV RX4 115 RX3 yX3_print wsX3_print) := goodIn_app (goodIn_of _ (by decide +kernel)) ggX4_due_X3_print
theorem dX4_due_0 : decode cX4_due 0 = .ok (.aload_n 0, 1) := by decide +kernel
theorem dX4_due_1 : decode cX4_due 1 = .ok (.iload_n 1, 1) := by decide +kernel
theorem dX4_due_2 : decode cX4_due 2 = .ok (.invokevirtual 95, 3) := by decide +kernel
theorem dX4_due_5 : decode cX4_due 5 = .ok (.ifCond .ne 5, 3) := by decide +kernel
theorem dX4_due_8 : decode cX4_due 8 = .ok (.iconst (-1), 1) := by decide +kernel
theorem dX4_due_9 : decode cX4_due 9 = .ok (.ireturn, 1) := by decide +kernel
theorem dX4_due_10 : decode cX4_due 10 = .ok (.iload_n 2, 1) := by decide +kernel
theorem dX4_due_11 : decode cX4_due 11 = .ok (.iconst 0, 1) := by decide +kernel
theorem dX4_due_12 : decode cX4_due 12 = .ok (.sipush 3000, 3) := by decide +kernel
theorem dX4_due_15 : decode cX4_due 15 = .ok (.invokestatic 48, 3) := by decide +kernel
theorem dX4_due_18 : decode cX4_due 18 = .ok (.ifCond .ne 6, 3) := by decide +kernel
theorem dX4_due_21 : decode cX4_due 21 = .ok (.bipush (-2), 2) := by decide +kernel
theorem dX4_due_23 : decode cX4_due 23 = .ok (.ireturn, 1) := by decide +kernel
theorem dX4_due_24 : decode cX4_due 24 = .ok (.aload_n 0, 1) := by decide +kernel
theorem dX4_due_25 : decode cX4_due 25 = .ok (.getfield 36, 3) := by decide +kernel
theorem dX4_due_28 : decode cX4_due 28 = .ok (.aload_n 0, 1) := by decide +kernel
theorem dX4_due_29 : decode cX4_due 29 = .ok (.getfield 10, 3) := by decide +kernel
theorem dX4_due_32 : decode cX4_due 32 = .ok (.invokevirtual 66, 3) := by decide +kernel
theorem dX4_due_35 : decode cX4_due 35 = .ok (.aload_n 0, 1) := by decide +kernel
theorem dX4_due_36 : decode cX4_due 36 = .ok (.getfield 10, 3) := by decide +kernel
theorem dX4_due_39 : decode cX4_due 39 = .ok (.getfield 111, 3) := by decide +kernel
theorem dX4_due_42 : decode cX4_due 42 = .ok (.iconst 3, 1) := by decide +kernel
theorem dX4_due_43 : decode cX4_due 43 = .ok (.aaload, 1) := by decide +kernel
theorem dX4_due_44 : decode cX4_due 44 = .ok (.iload_n 1, 1) := by decide +kernel
theorem dX4_due_45 : decode cX4_due 45 = .ok (.iload_n 2, 1) := by decide +kernel
theorem dX4_due_46 : decode cX4_due 46 = .ok (.iastore, 1) := by decide +kernel
theorem dX4_due_47 : decode cX4_due 47 = .ok (.aload_n 0, 1) := by decide +kernel
theorem dX4_due_48 : decode cX4_due 48 = .ok (.getfield 22, 3) := by decide +kernel
theorem dX4_due_51 : decode cX4_due 51 = .ok (.aload_n 0, 1) := by decide +kernel
theorem dX4_due_52 : decode cX4_due 52 = .ok (.getfield 10, 3) := by decide +kernel
theorem dX4_due_55 : decode cX4_due 55 = .ok (.aload_n 0, 1) := by decide +kernel
theorem dX4_due_56 : decode cX4_due 56 = .ok (.getfield 10, 3) := by decide +kernel
theorem dX4_due_59 : decode cX4_due 59 = .ok (.getfield 59, 3) := by decide +kernel
theorem dX4_due_62 : decode cX4_due 62 = .ok (.iconst 5, 1) := by decide +kernel
theorem dX4_due_63 : decode cX4_due 63 = .ok (.iaload, 1) := by decide +kernel
theorem dX4_due_64 : decode cX4_due 64 = .ok (.invokevirtual 115, 3) := by decide +kernel
theorem dX4_due_67 : decode cX4_due 67 = .ok (.aload_n 0, 1) := by decide +kernel
theorem dX4_due_68 : decode cX4_due 68 = .ok (.getfield 22, 3) := by decide +kernel
theorem dX4_due_71 : decode cX4_due 71 = .ok (.getfield 119, 3) := by decide +kernel
theorem dX4_due_74 : decode cX4_due 74 = .ok (.iload_n 1, 1) := by decide +kernel
theorem dX4_due_75 : decode cX4_due 75 = .ok (.iaload, 1) := by decide +kernel
theorem dX4_due_76 : decode cX4_due 76 = .ok (.ireturn, 1) := by decide +kernel
set_option maxRecDepth 20000 in
theorem ggX4_order_X4_within : GoodIn wsX4_order wsX4_within := goodIn_r _ [8] (by decide +kernel) (by decide +kernel)
set_option maxRecDepth 20000 in
theorem gX4_order_X4_within : GoodIn wsX4_order (va_wsS RX4 48 yX4_within wsX4_within) := goodIn_app (goodIn_of _ (by decide +kernel)) ggX4_order_X4_within
set_option maxRecDepth 20000 in
theorem ggX4_order_X1_remember : GoodIn wsX4_order wsX1_remember := goodIn_r _ [13, 14, 15, 16, 17, 18, 19, 20, 21, 22, 23, 24, 25, 26, 27, 28, 29, 30, 31, 32, 50, 51, 52, 53, 54, 55] (by decide +kernel) (by decide +kernel)
set_option maxRecDepth 20000 in
theorem gX4_order_X1_remember : GoodIn wsX4_order (wsV RX4 66 RX1 yX1_remember wsX1_remember) := goodIn_app (goodIn_of _ (by decide +kernel)) ggX4_order_X1_remember
set_option maxRecDepth 20000 in
theorem ggX4_order_X0_arrange : GoodIn wsX4_order wsX0_arrange := goodIn_r _ [36, 32, 31, 37, 22, 23, 24, 25, 26, 27, 28, 29, 30, 38, 39, 40, 41, 53, 54, 55] (by decide +kernel) (by decide +kernel)
set_option maxRecDepth 20000 in
theorem gX4_order_X0_arrange : GoodIn wsX4_order (wsV RX4 125 RX0 yX0_arrange wsX0_arrange) := goodIn_app (goodIn_of _ (by decide +kernel)) ggX4_order_X0_arrange
set_option maxRecDepth 20000 in
theorem ggX4_order_X0_copyFrom : GoodIn wsX4_order wsX0_copyFrom := goodIn_r _ [25, 26, 27, 28, 29, 30, 31, 32, 53, 54, 55] (by decide +kernel) (by decide +kernel)
set_option maxRecDepth 20000 in
theorem gX4_order_X0_copyFrom : GoodIn wsX4_order (wsV RX4 129 RX0 yX0_copyFrom wsX0_copyFrom) := goodIn_app (goodIn_of _ (by decide +kernel)) ggX4_order_X0_copyFrom
theorem dX4_order_0 : decode cX4_order 0 = .ok (.iload_n 1, 1) := by decide +kernel
theorem dX4_order_1 : decode cX4_order 1 = .ok (.iconst 0, 1) := by decide +kernel
theorem dX4_order_2 : decode cX4_order 2 = .ok (.iconst 3, 1) := by decide +kernel
theorem dX4_order_3 : decode cX4_order 3 = .ok (.invokestatic 48, 3) := by decide +kernel
theorem dX4_order_6 : decode cX4_order 6 = .ok (.ifCond .ne 6, 3) := by decide +kernel
theorem dX4_order_9 : decode cX4_order 9 = .ok (.bipush (-2), 2) := by decide +kernel
theorem dX4_order_11 : decode cX4_order 11 = .ok (.ireturn, 1) := by decide +kernel
theorem dX4_order_12 : decode cX4_order 12 = .ok (.aload_n 0, 1) := by decide +kernel
theorem dX4_order_13 : decode cX4_order 13 = .ok (.getfield 36, 3) := by decide +kernel
theorem dX4_order_16 : decode cX4_order 16 = .ok (.aload_n 0, 1) := by decide +kernel
theorem dX4_order_17 : decode cX4_order 17 = .ok (.getfield 10, 3) := by decide +kernel
theorem dX4_order_20 : decode cX4_order 20 = .ok (.invokevirtual 66, 3) := by decide +kernel
theorem dX4_order_23 : decode cX4_order 23 = .ok (.aload_n 0, 1) := by decide +kernel
theorem dX4_order_24 : decode cX4_order 24 = .ok (.getfield 16, 3) := by decide +kernel
theorem dX4_order_27 : decode cX4_order 27 = .ok (.aload_n 0, 1) := by decide +kernel
theorem dX4_order_28 : decode cX4_order 28 = .ok (.getfield 10, 3) := by decide +kernel
theorem dX4_order_31 : decode cX4_order 31 = .ok (.getstatic 122, 3) := by decide +kernel
theorem dX4_order_34 : decode cX4_order 34 = .ok (.iload_n 1, 1) := by decide +kernel
theorem dX4_order_35 : decode cX4_order 35 = .ok (.iaload, 1) := by decide +kernel
theorem dX4_order_36 : decode cX4_order 36 = .ok (.invokevirtual 125, 3) := by decide +kernel
theorem dX4_order_39 : decode cX4_order 39 = .ok (.istore_n 2, 1) := by decide +kernel
theorem dX4_order_40 : decode cX4_order 40 = .ok (.aload_n 0, 1) := by decide +kernel
theorem dX4_order_41 : decode cX4_order 41 = .ok (.getfield 10, 3) := by decide +kernel
theorem dX4_order_44 : decode cX4_order 44 = .ok (.aload_n 0, 1) := by decide +kernel
theorem dX4_order_45 : decode cX4_order 45 = .ok (.getfield 16, 3) := by decide +kernel
theorem dX4_order_48 : decode cX4_order 48 = .ok (.invokevirtual 129, 3) := by decide +kernel
theorem dX4_order_51 : decode cX4_order 51 = .ok (.iload_n 2, 1) := by decide +kernel
theorem dX4_order_52 : decode cX4_order 52 = .ok (.ireturn, 1) := by decide +kernel
set_option maxRecDepth 20000 in
theorem ggX4_jobOf_X4_isJob : GoodIn wsX4_jobOf wsX4_isJob := goodIn_r _ [17, 1, 18, 19, 20, 16, 21, 77, 78, 79, 80, 81, 82, 83, 84, 85, 86] (by decide +kernel) (by decide +kernel)
set_option maxRecDepth 20000 in
theorem gX4_jobOf_X4_isJob : GoodIn wsX4_jobOf (wsV RX4 95 RX4 yX4_isJob wsX4_isJob) := goodIn_app (goodIn_of _ (by decide +kernel)) ggX4_jobOf_X4_isJob
set_option maxRecDepth 20000 in
theorem ggX4_jobOf_X4_within : GoodIn wsX4_jobOf wsX4_within := goodIn_r _ [21] (by decide +kernel) (by decide +kernel)
set_option maxRecDepth 20000 in
theorem gX4_jobOf_X4_within : GoodIn wsX4_jobOf (va_wsS RX4 48 yX4_within wsX4_within) := goodIn_app (goodIn_of _ (by decide +kernel)) ggX4_jobOf_X4_within
set_option maxRecDepth 20000 in
theorem ggX4_jobOf_X3_print : GoodIn wsX4_jobOf wsX3_print := goodIn_r _ [26, 27, 28, 29, 30, 31, 25, 32, 33, 34, 35, 36, 37, 38, 39, 40, 41, 42, 43, 44, 45, 46, 47, 48, 49, 50, 51, 52, 53, 54, 55, 56, 57, 58, 59, 60, 61, 16, 62, 63, 64, 65, 66, 67, 68, 69, 70, 71, 72, 73, 74, 75, 76, 84, 85, 86, 87, 88, 89, 90, 91, 92, 93, 94, 95, 96, 97, 98, 99, 100, 101, 102, 103, 104] (by decide +kernel) (by decide +kernel)
set_option maxRecDepth 20000 in
theorem gX4_jobOf_X3_print : GoodIn wsX4_jobOf (wsV RX4 115 RX3 yX3_print wsX3_print) := goodIn_app (goodIn_of _ (by decide +kernel)) ggX4_jobOf_X3_print
theorem dX4_jobOf_0 : decode cX4_jobOf 0 = .ok (.aload_n 0, 1) := by decide +kernel
theorem dX4_jobOf_1 : decode cX4_jobOf 1 = .ok (.iload_n 1, 1) := by decide +kernel
theorem dX4_jobOf_2 : decode cX4_jobOf 2 = .ok (.invokevirtual 95, 3) := by decide +kernel
theorem dX4_jobOf_5 : decode cX4_jobOf 5 = .ok (.ifCond .ne 5, 3) := by decide +kernel
theorem dX4_jobOf_8 : decode cX4_jobOf 8 = .ok (.iconst (-1), 1) := by decide +kernel
theorem dX4_jobOf_9 : decode cX4_jobOf 9 = .ok (.ireturn, 1) := by decide +kernel
theorem dX4_jobOf_10 : decode cX4_jobOf 10 = .ok (.iload_n 2, 1) := by decide +kernel
theorem dX4_jobOf_11 : decode cX4_jobOf 11 = .ok (.iconst 0, 1) := by decide +kernel
theorem dX4_jobOf_12 : decode cX4_jobOf 12 = .ok (.bipush 11, 2) := by decide +kernel
theorem dX4_jobOf_14 : decode cX4_jobOf 14 = .ok (.invokestatic 48, 3) := by decide +kernel
theorem dX4_jobOf_17 : decode cX4_jobOf 17 = .ok (.ifCond .ne 6, 3) := by decide +kernel
theorem dX4_jobOf_20 : decode cX4_jobOf 20 = .ok (.bipush (-2), 2) := by decide +kernel
theorem dX4_jobOf_22 : decode cX4_jobOf 22 = .ok (.ireturn, 1) := by decide +kernel
theorem dX4_jobOf_23 : decode cX4_jobOf 23 = .ok (.iload_n 2, 1) := by decide +kernel
theorem dX4_jobOf_24 : decode cX4_jobOf 24 = .ok (.iconst 4, 1) := by decide +kernel
theorem dX4_jobOf_25 : decode cX4_jobOf 25 = .ok (.if_icmp .ge 15, 3) := by decide +kernel
theorem dX4_jobOf_28 : decode cX4_jobOf 28 = .ok (.aload_n 0, 1) := by decide +kernel
theorem dX4_jobOf_29 : decode cX4_jobOf 29 = .ok (.getfield 10, 3) := by decide +kernel
theorem dX4_jobOf_32 : decode cX4_jobOf 32 = .ok (.getfield 111, 3) := by decide +kernel
theorem dX4_jobOf_35 : decode cX4_jobOf 35 = .ok (.iload_n 2, 1) := by decide +kernel
theorem dX4_jobOf_36 : decode cX4_jobOf 36 = .ok (.aaload, 1) := by decide +kernel
theorem dX4_jobOf_37 : decode cX4_jobOf 37 = .ok (.iload_n 1, 1) := by decide +kernel
theorem dX4_jobOf_38 : decode cX4_jobOf 38 = .ok (.iaload, 1) := by decide +kernel
theorem dX4_jobOf_39 : decode cX4_jobOf 39 = .ok (.ireturn, 1) := by decide +kernel
theorem dX4_jobOf_40 : decode cX4_jobOf 40 = .ok (.aload_n 0, 1) := by decide +kernel
theorem dX4_jobOf_41 : decode cX4_jobOf 41 = .ok (.getfield 22, 3) := by decide +kernel
theorem dX4_jobOf_44 : decode cX4_jobOf 44 = .ok (.aload_n 0, 1) := by decide +kernel
theorem dX4_jobOf_45 : decode cX4_jobOf 45 = .ok (.getfield 10, 3) := by decide +kernel
theorem dX4_jobOf_48 : decode cX4_jobOf 48 = .ok (.aload_n 0, 1) := by decide +kernel
theorem dX4_jobOf_49 : decode cX4_jobOf 49 = .ok (.getfield 10, 3) := by decide +kernel
theorem dX4_jobOf_52 : decode cX4_jobOf 52 = .ok (.getfield 59, 3) := by decide +kernel
theorem dX4_jobOf_55 : decode cX4_jobOf 55 = .ok (.iconst 5, 1) := by decide +kernel
theorem dX4_jobOf_56 : decode cX4_jobOf 56 = .ok (.iaload, 1) := by decide +kernel
theorem dX4_jobOf_57 : decode cX4_jobOf 57 = .ok (.invokevirtual 115, 3) := by decide +kernel
theorem dX4_jobOf_60 : decode cX4_jobOf 60 = .ok (.iload_n 2, 1) := by decide +kernel
theorem dX4_jobOf_61 : decode cX4_jobOf 61 = .ok (.tableswitch 113 4 10 #[43, 53, 63, 73, 83, 93, 103], 43) := by decide +kernel
theorem dX4_jobOf_104 : decode cX4_jobOf 104 = .ok (.aload_n 0, 1) := by decide +kernel
theorem dX4_jobOf_105 : decode cX4_jobOf 105 = .ok (.getfield 22, 3) := by decide +kernel
theorem dX4_jobOf_108 : decode cX4_jobOf 108 = .ok (.getfield 132, 3) := by decide +kernel
theorem dX4_jobOf_111 : decode cX4_jobOf 111 = .ok (.iload_n 1, 1) := by decide +kernel
theorem dX4_jobOf_112 : decode cX4_jobOf 112 = .ok (.iaload, 1) := by decide +kernel
theorem dX4_jobOf_113 : decode cX4_jobOf 113 = .ok (.ireturn, 1) := by decide +kernel
theorem dX4_jobOf_114 : decode cX4_jobOf 114 = .ok (.aload_n 0, 1) := by decide +kernel
theorem dX4_jobOf_115 : decode cX4_jobOf 115 = .ok (.getfield 22, 3) := by decide +kernel
theorem dX4_jobOf_118 : decode cX4_jobOf 118 = .ok (.getfield 135, 3) := by decide +kernel
theorem dX4_jobOf_121 : decode cX4_jobOf 121 = .ok (.iload_n 1, 1) := by decide +kernel
theorem dX4_jobOf_122 : decode cX4_jobOf 122 = .ok (.iaload, 1) := by decide +kernel
theorem dX4_jobOf_123 : decode cX4_jobOf 123 = .ok (.ireturn, 1) := by decide +kernel
theorem dX4_jobOf_124 : decode cX4_jobOf 124 = .ok (.aload_n 0, 1) := by decide +kernel
theorem dX4_jobOf_125 : decode cX4_jobOf 125 = .ok (.getfield 22, 3) := by decide +kernel
theorem dX4_jobOf_128 : decode cX4_jobOf 128 = .ok (.getfield 138, 3) := by decide +kernel
theorem dX4_jobOf_131 : decode cX4_jobOf 131 = .ok (.iload_n 1, 1) := by decide +kernel
theorem dX4_jobOf_132 : decode cX4_jobOf 132 = .ok (.iaload, 1) := by decide +kernel
theorem dX4_jobOf_133 : decode cX4_jobOf 133 = .ok (.ireturn, 1) := by decide +kernel
theorem dX4_jobOf_134 : decode cX4_jobOf 134 = .ok (.aload_n 0, 1) := by decide +kernel
theorem dX4_jobOf_135 : decode cX4_jobOf 135 = .ok (.getfield 22, 3) := by decide +kernel
theorem dX4_jobOf_138 : decode cX4_jobOf 138 = .ok (.getfield 141, 3) := by decide +kernel
theorem dX4_jobOf_141 : decode cX4_jobOf 141 = .ok (.iload_n 1, 1) := by decide +kernel
theorem dX4_jobOf_142 : decode cX4_jobOf 142 = .ok (.iaload, 1) := by decide +kernel
theorem dX4_jobOf_143 : decode cX4_jobOf 143 = .ok (.ireturn, 1) := by decide +kernel
theorem dX4_jobOf_144 : decode cX4_jobOf 144 = .ok (.aload_n 0, 1) := by decide +kernel
theorem dX4_jobOf_145 : decode cX4_jobOf 145 = .ok (.getfield 22, 3) := by decide +kernel
theorem dX4_jobOf_148 : decode cX4_jobOf 148 = .ok (.getfield 119, 3) := by decide +kernel
theorem dX4_jobOf_151 : decode cX4_jobOf 151 = .ok (.iload_n 1, 1) := by decide +kernel
theorem dX4_jobOf_152 : decode cX4_jobOf 152 = .ok (.iaload, 1) := by decide +kernel
theorem dX4_jobOf_153 : decode cX4_jobOf 153 = .ok (.ireturn, 1) := by decide +kernel
theorem dX4_jobOf_154 : decode cX4_jobOf 154 = .ok (.aload_n 0, 1) := by decide +kernel
theorem dX4_jobOf_155 : decode cX4_jobOf 155 = .ok (.getfield 22, 3) := by decide +kernel
theorem dX4_jobOf_158 : decode cX4_jobOf 158 = .ok (.getfield 144, 3) := by decide +kernel
theorem dX4_jobOf_161 : decode cX4_jobOf 161 = .ok (.iload_n 1, 1) := by decide +kernel
theorem dX4_jobOf_162 : decode cX4_jobOf 162 = .ok (.iaload, 1) := by decide +kernel
theorem dX4_jobOf_163 : decode cX4_jobOf 163 = .ok (.ireturn, 1) := by decide +kernel
theorem dX4_jobOf_164 : decode cX4_jobOf 164 = .ok (.aload_n 0, 1) := by decide +kernel
theorem dX4_jobOf_165 : decode cX4_jobOf 165 = .ok (.getfield 22, 3) := by decide +kernel
theorem dX4_jobOf_168 : decode cX4_jobOf 168 = .ok (.getfield 147, 3) := by decide +kernel
theorem dX4_jobOf_171 : decode cX4_jobOf 171 = .ok (.iload_n 1, 1) := by decide +kernel
theorem dX4_jobOf_172 : decode cX4_jobOf 172 = .ok (.iaload, 1) := by decide +kernel
theorem dX4_jobOf_173 : decode cX4_jobOf 173 = .ok (.ireturn, 1) := by decide +kernel
theorem dX4_jobOf_174 : decode cX4_jobOf 174 = .ok (.aload_n 0, 1) := by decide +kernel
theorem dX4_jobOf_175 : decode cX4_jobOf 175 = .ok (.getfield 22, 3) := by decide +kernel
theorem dX4_jobOf_178 : decode cX4_jobOf 178 = .ok (.getfield 150, 3) := by decide +kernel
theorem dX4_jobOf_181 : decode cX4_jobOf 181 = .ok (.iload_n 1, 1) := by decide +kernel
theorem dX4_jobOf_182 : decode cX4_jobOf 182 = .ok (.iaload, 1) := by decide +kernel
theorem dX4_jobOf_183 : decode cX4_jobOf 183 = .ok (.ireturn, 1) := by decide +kernel
set_option maxRecDepth 20000 in
theorem ggX4_count_X4_within : GoodIn wsX4_count wsX4_within := goodIn_r _ [21] (by decide +kernel) (by decide +kernel)
set_option maxRecDepth 20000 in
theorem gX4_count_X4_within : GoodIn wsX4_count (va_wsS RX4 48 yX4_within wsX4_within) := goodIn_app (goodIn_of _ (by decide +kernel)) ggX4_count_X4_within
set_option maxRecDepth 20000 in
theorem ggX4_count_X3_print : GoodIn wsX4_count wsX3_print := goodIn_r _ [26, 27, 28, 29, 30, 31, 25, 32, 33, 34, 35, 36, 37, 38, 39, 40, 41, 42, 43, 44, 45, 46, 47, 48, 49, 50, 51, 52, 53, 54, 55, 56, 57, 58, 59, 60, 61, 20, 62, 63, 64, 65, 66, 67, 68, 69, 70, 71, 72, 73, 74, 75, 76, 95, 96, 97, 98, 99, 100, 101, 102, 103, 104, 105, 106, 107, 108, 109, 110, 111, 112, 113, 114, 115] (by decide +kernel) (by decide +kernel)
set_option maxRecDepth 20000 in
theorem gX4_count_X3_print : GoodIn wsX4_count (wsV RX4 115 RX3 yX3_print wsX3_print) := goodIn_app (goodIn_of _ (by decide +kernel)) ggX4_count_X3_print
set_option maxRecDepth 20000 in
theorem ggX4_count_X0_hundredsOfAll : GoodIn wsX4_count wsX0_hundredsOfAll := goodIn_r _ [81, 82, 83, 95, 96, 97] (by decide +kernel) (by decide +kernel)
set_option maxRecDepth 20000 in
theorem gX4_count_X0_hundredsOfAll : GoodIn wsX4_count (wsV RX4 153 RX0 yX0_hundredsOfAll wsX0_hundredsOfAll) := goodIn_app (goodIn_of _ (by decide +kernel)) ggX4_count_X0_hundredsOfAll
set_option maxRecDepth 20000 in
theorem ggX4_count_X3_lastOf : GoodIn wsX4_count wsX3_lastOf := goodIn_r _ [87, 28, 98, 99, 100, 101, 102, 103, 104, 105, 106, 107, 108, 109, 110, 111, 112, 113, 114, 115] (by decide +kernel) (by decide +kernel)
set_option maxRecDepth 20000 in
theorem gX4_count_X3_lastOf : GoodIn wsX4_count (wsV RX4 156 RX3 yX3_lastOf wsX3_lastOf) := goodIn_app (goodIn_of _ (by decide +kernel)) ggX4_count_X3_lastOf
theorem dX4_count_0 : decode cX4_count 0 = .ok (.iload_n 1, 1) := by decide +kernel
theorem dX4_count_1 : decode cX4_count 1 = .ok (.iconst 0, 1) := by decide +kernel
theorem dX4_count_2 : decode cX4_count 2 = .ok (.bipush 19, 2) := by decide +kernel
theorem dX4_count_4 : decode cX4_count 4 = .ok (.invokestatic 48, 3) := by decide +kernel
theorem dX4_count_7 : decode cX4_count 7 = .ok (.ifCond .ne 6, 3) := by decide +kernel
theorem dX4_count_10 : decode cX4_count 10 = .ok (.bipush (-2), 2) := by decide +kernel
theorem dX4_count_12 : decode cX4_count 12 = .ok (.ireturn, 1) := by decide +kernel
theorem dX4_count_13 : decode cX4_count 13 = .ok (.iload_n 1, 1) := by decide +kernel
theorem dX4_count_14 : decode cX4_count 14 = .ok (.bipush 7, 2) := by decide +kernel
theorem dX4_count_16 : decode cX4_count 16 = .ok (.if_icmp .ge 13, 3) := by decide +kernel
theorem dX4_count_19 : decode cX4_count 19 = .ok (.aload_n 0, 1) := by decide +kernel
theorem dX4_count_20 : decode cX4_count 20 = .ok (.getfield 10, 3) := by decide +kernel
theorem dX4_count_23 : decode cX4_count 23 = .ok (.getfield 59, 3) := by decide +kernel
theorem dX4_count_26 : decode cX4_count 26 = .ok (.iload_n 1, 1) := by decide +kernel
theorem dX4_count_27 : decode cX4_count 27 = .ok (.iaload, 1) := by decide +kernel
theorem dX4_count_28 : decode cX4_count 28 = .ok (.ireturn, 1) := by decide +kernel
theorem dX4_count_29 : decode cX4_count 29 = .ok (.aload_n 0, 1) := by decide +kernel
theorem dX4_count_30 : decode cX4_count 30 = .ok (.getfield 22, 3) := by decide +kernel
theorem dX4_count_33 : decode cX4_count 33 = .ok (.aload_n 0, 1) := by decide +kernel
theorem dX4_count_34 : decode cX4_count 34 = .ok (.getfield 10, 3) := by decide +kernel
theorem dX4_count_37 : decode cX4_count 37 = .ok (.aload_n 0, 1) := by decide +kernel
theorem dX4_count_38 : decode cX4_count 38 = .ok (.getfield 10, 3) := by decide +kernel
theorem dX4_count_41 : decode cX4_count 41 = .ok (.getfield 59, 3) := by decide +kernel
theorem dX4_count_44 : decode cX4_count 44 = .ok (.iconst 5, 1) := by decide +kernel
theorem dX4_count_45 : decode cX4_count 45 = .ok (.iaload, 1) := by decide +kernel
theorem dX4_count_46 : decode cX4_count 46 = .ok (.invokevirtual 115, 3) := by decide +kernel
theorem dX4_count_49 : decode cX4_count 49 = .ok (.iload_n 1, 1) := by decide +kernel
theorem dX4_count_50 : decode cX4_count 50 = .ok (.tableswitch 172 7 18 #[62, 70, 78, 93, 108, 116, 124, 132, 140, 148, 156, 164], 62) := by decide +kernel
theorem dX4_count_112 : decode cX4_count 112 = .ok (.aload_n 0, 1) := by decide +kernel
theorem dX4_count_113 : decode cX4_count 113 = .ok (.getfield 10, 3) := by decide +kernel
theorem dX4_count_116 : decode cX4_count 116 = .ok (.getfield 74, 3) := by decide +kernel
theorem dX4_count_119 : decode cX4_count 119 = .ok (.ireturn, 1) := by decide +kernel
theorem dX4_count_120 : decode cX4_count 120 = .ok (.aload_n 0, 1) := by decide +kernel
theorem dX4_count_121 : decode cX4_count 121 = .ok (.getfield 10, 3) := by decide +kernel
theorem dX4_count_124 : decode cX4_count 124 = .ok (.invokevirtual 153, 3) := by decide +kernel
theorem dX4_count_127 : decode cX4_count 127 = .ok (.ireturn, 1) := by decide +kernel
theorem dX4_count_128 : decode cX4_count 128 = .ok (.aload_n 0, 1) := by decide +kernel
theorem dX4_count_129 : decode cX4_count 129 = .ok (.getfield 22, 3) := by decide +kernel
theorem dX4_count_132 : decode cX4_count 132 = .ok (.aload_n 0, 1) := by decide +kernel
theorem dX4_count_133 : decode cX4_count 133 = .ok (.getfield 22, 3) := by decide +kernel
theorem dX4_count_136 : decode cX4_count 136 = .ok (.getfield 138, 3) := by decide +kernel
theorem dX4_count_139 : decode cX4_count 139 = .ok (.invokevirtual 156, 3) := by decide +kernel
theorem dX4_count_142 : decode cX4_count 142 = .ok (.ireturn, 1) := by decide +kernel
theorem dX4_count_143 : decode cX4_count 143 = .ok (.aload_n 0, 1) := by decide +kernel
theorem dX4_count_144 : decode cX4_count 144 = .ok (.getfield 22, 3) := by decide +kernel
theorem dX4_count_147 : decode cX4_count 147 = .ok (.aload_n 0, 1) := by decide +kernel
theorem dX4_count_148 : decode cX4_count 148 = .ok (.getfield 22, 3) := by decide +kernel
theorem dX4_count_151 : decode cX4_count 151 = .ok (.getfield 141, 3) := by decide +kernel
theorem dX4_count_154 : decode cX4_count 154 = .ok (.invokevirtual 156, 3) := by decide +kernel
theorem dX4_count_157 : decode cX4_count 157 = .ok (.ireturn, 1) := by decide +kernel
theorem dX4_count_158 : decode cX4_count 158 = .ok (.aload_n 0, 1) := by decide +kernel
theorem dX4_count_159 : decode cX4_count 159 = .ok (.getfield 22, 3) := by decide +kernel
theorem dX4_count_162 : decode cX4_count 162 = .ok (.getfield 160, 3) := by decide +kernel
theorem dX4_count_165 : decode cX4_count 165 = .ok (.ireturn, 1) := by decide +kernel
theorem dX4_count_166 : decode cX4_count 166 = .ok (.aload_n 0, 1) := by decide +kernel
theorem dX4_count_167 : decode cX4_count 167 = .ok (.getfield 22, 3) := by decide +kernel
theorem dX4_count_170 : decode cX4_count 170 = .ok (.getfield 163, 3) := by decide +kernel
theorem dX4_count_173 : decode cX4_count 173 = .ok (.ireturn, 1) := by decide +kernel
theorem dX4_count_174 : decode cX4_count 174 = .ok (.aload_n 0, 1) := by decide +kernel
theorem dX4_count_175 : decode cX4_count 175 = .ok (.getfield 22, 3) := by decide +kernel
theorem dX4_count_178 : decode cX4_count 178 = .ok (.getfield 166, 3) := by decide +kernel
theorem dX4_count_181 : decode cX4_count 181 = .ok (.ireturn, 1) := by decide +kernel
theorem dX4_count_182 : decode cX4_count 182 = .ok (.aload_n 0, 1) := by decide +kernel
theorem dX4_count_183 : decode cX4_count 183 = .ok (.getfield 22, 3) := by decide +kernel
theorem dX4_count_186 : decode cX4_count 186 = .ok (.getfield 169, 3) := by decide +kernel
theorem dX4_count_189 : decode cX4_count 189 = .ok (.ireturn, 1) := by decide +kernel
theorem dX4_count_190 : decode cX4_count 190 = .ok (.aload_n 0, 1) := by decide +kernel
theorem dX4_count_191 : decode cX4_count 191 = .ok (.getfield 22, 3) := by decide +kernel
theorem dX4_count_194 : decode cX4_count 194 = .ok (.getfield 172, 3) := by decide +kernel
theorem dX4_count_197 : decode cX4_count 197 = .ok (.ireturn, 1) := by decide +kernel
theorem dX4_count_198 : decode cX4_count 198 = .ok (.aload_n 0, 1) := by decide +kernel
theorem dX4_count_199 : decode cX4_count 199 = .ok (.getfield 22, 3) := by decide +kernel
theorem dX4_count_202 : decode cX4_count 202 = .ok (.getfield 175, 3) := by decide +kernel
theorem dX4_count_205 : decode cX4_count 205 = .ok (.ireturn, 1) := by decide +kernel
theorem dX4_count_206 : decode cX4_count 206 = .ok (.aload_n 0, 1) := by decide +kernel
theorem dX4_count_207 : decode cX4_count 207 = .ok (.getfield 22, 3) := by decide +kernel
theorem dX4_count_210 : decode cX4_count 210 = .ok (.getfield 178, 3) := by decide +kernel
theorem dX4_count_213 : decode cX4_count 213 = .ok (.ireturn, 1) := by decide +kernel
theorem dX4_count_214 : decode cX4_count 214 = .ok (.aload_n 0, 1) := by decide +kernel
theorem dX4_count_215 : decode cX4_count 215 = .ok (.getfield 29, 3) := by decide +kernel
theorem dX4_count_218 : decode cX4_count 218 = .ok (.getfield 92, 3) := by decide +kernel
theorem dX4_count_221 : decode cX4_count 221 = .ok (.ireturn, 1) := by decide +kernel
theorem dX4_count_222 : decode cX4_count 222 = .ok (.aload_n 0, 1) := by decide +kernel
theorem dX4_count_223 : decode cX4_count 223 = .ok (.getfield 36, 3) := by decide +kernel
theorem dX4_count_226 : decode cX4_count 226 = .ok (.getfield 181, 3) := by decide +kernel
theorem dX4_count_229 : decode cX4_count 229 = .ok (.ireturn, 1) := by decide +kernel
set_option maxRecDepth 20000 in
theorem ggX4_at_X4_within : GoodIn wsX4_at wsX4_within := goodIn_r _ [10] (by decide +kernel) (by decide +kernel)
set_option maxRecDepth 20000 in
theorem gX4_at_X4_within : GoodIn wsX4_at (va_wsS RX4 48 yX4_within wsX4_within) := goodIn_app (goodIn_of _ (by decide +kernel)) ggX4_at_X4_within
set_option maxRecDepth 20000 in
theorem ggX4_at_X3_print : GoodIn wsX4_at wsX3_print := goodIn_r _ [15, 16, 17, 18, 19, 20, 14, 21, 22, 23, 24, 25, 26, 27, 28, 29, 30, 31, 32, 33, 34, 35, 36, 37, 38, 39, 40, 41, 42, 43, 44, 45, 46, 47, 48, 49, 50, 9, 51, 52, 53, 54, 55, 56, 57, 58, 59, 60, 61, 62, 63, 64, 65, 85, 86, 87, 88, 89, 90, 91, 92, 93, 94, 95, 96, 97, 98, 99, 100, 101, 102, 103, 104, 105] (by decide +kernel) (by decide +kernel)
set_option maxRecDepth 20000 in
theorem gX4_at_X3_print : GoodIn wsX4_at (wsV RX4 115 RX3 yX3_print wsX3_print) := goodIn_app (goodIn_of _ (by decide +kernel)) ggX4_at_X3_print
set_option maxRecDepth 20000 in
theorem ggX4_at_X3_jobOnPress : GoodIn wsX4_at wsX3_jobOnPress := goodIn_r _ [69, 17, 49, 46, 88, 89, 90, 91, 92, 93, 94, 95, 96, 97, 98, 99, 100, 101, 102, 103, 104, 105] (by decide +kernel) (by decide +kernel)
set_option maxRecDepth 20000 in
theorem gX4_at_X3_jobOnPress : GoodIn wsX4_at (wsV RX4 185 RX3 yX3_jobOnPress wsX3_jobOnPress) := goodIn_app (goodIn_of _ (by decide +kernel)) ggX4_at_X3_jobOnPress
set_option maxRecDepth 20000 in
theorem ggX4_at_X3_racksTaken : GoodIn wsX4_at wsX3_racksTaken := goodIn_r _ [73, 17, 46, 56, 47, 88, 89, 90, 91, 92, 93, 94, 95, 96, 97, 98, 99, 100, 101, 102, 103, 104, 105] (by decide +kernel) (by decide +kernel)
set_option maxRecDepth 20000 in
theorem gX4_at_X3_racksTaken : GoodIn wsX4_at (wsV RX4 188 RX3 yX3_racksTaken wsX3_racksTaken) := goodIn_app (goodIn_of _ (by decide +kernel)) ggX4_at_X3_racksTaken
set_option maxRecDepth 20000 in
theorem ggX4_at_X3_reached : GoodIn wsX4_at wsX3_reached := goodIn_r _ [77, 17, 88, 89, 90, 91, 92, 93, 94, 95, 96, 97, 98, 99, 100, 101, 102, 103, 104, 105] (by decide +kernel) (by decide +kernel)
set_option maxRecDepth 20000 in
theorem gX4_at_X3_reached : GoodIn wsX4_at (wsV RX4 191 RX3 yX3_reached wsX3_reached) := goodIn_app (goodIn_of _ (by decide +kernel)) ggX4_at_X3_reached
theorem dX4_at_0 : decode cX4_at 0 = .ok (.iload_n 1, 1) := by decide +kernel
theorem dX4_at_1 : decode cX4_at 1 = .ok (.iconst 0, 1) := by decide +kernel
theorem dX4_at_2 : decode cX4_at 2 = .ok (.ldc 184, 2) := by decide +kernel
theorem dX4_at_4 : decode cX4_at 4 = .ok (.invokestatic 48, 3) := by decide +kernel
theorem dX4_at_7 : decode cX4_at 7 = .ok (.ifCond .eq 12, 3) := by decide +kernel
theorem dX4_at_10 : decode cX4_at 10 = .ok (.iload_n 2, 1) := by decide +kernel
theorem dX4_at_11 : decode cX4_at 11 = .ok (.iconst 0, 1) := by decide +kernel
theorem dX4_at_12 : decode cX4_at 12 = .ok (.iconst 3, 1) := by decide +kernel
theorem dX4_at_13 : decode cX4_at 13 = .ok (.invokestatic 48, 3) := by decide +kernel
theorem dX4_at_16 : decode cX4_at 16 = .ok (.ifCond .ne 6, 3) := by decide +kernel
theorem dX4_at_19 : decode cX4_at 19 = .ok (.bipush (-2), 2) := by decide +kernel
theorem dX4_at_21 : decode cX4_at 21 = .ok (.ireturn, 1) := by decide +kernel
theorem dX4_at_22 : decode cX4_at 22 = .ok (.aload_n 0, 1) := by decide +kernel
theorem dX4_at_23 : decode cX4_at 23 = .ok (.getfield 22, 3) := by decide +kernel
theorem dX4_at_26 : decode cX4_at 26 = .ok (.aload_n 0, 1) := by decide +kernel
theorem dX4_at_27 : decode cX4_at 27 = .ok (.getfield 10, 3) := by decide +kernel
theorem dX4_at_30 : decode cX4_at 30 = .ok (.aload_n 0, 1) := by decide +kernel
theorem dX4_at_31 : decode cX4_at 31 = .ok (.getfield 10, 3) := by decide +kernel
theorem dX4_at_34 : decode cX4_at 34 = .ok (.getfield 59, 3) := by decide +kernel
theorem dX4_at_37 : decode cX4_at 37 = .ok (.iconst 5, 1) := by decide +kernel
theorem dX4_at_38 : decode cX4_at 38 = .ok (.iaload, 1) := by decide +kernel
theorem dX4_at_39 : decode cX4_at 39 = .ok (.invokevirtual 115, 3) := by decide +kernel
theorem dX4_at_42 : decode cX4_at 42 = .ok (.iload_n 2, 1) := by decide +kernel
theorem dX4_at_43 : decode cX4_at 43 = .ok (.tableswitch 59 0 2 #[25, 34, 43], 25) := by decide +kernel
theorem dX4_at_68 : decode cX4_at 68 = .ok (.aload_n 0, 1) := by decide +kernel
theorem dX4_at_69 : decode cX4_at 69 = .ok (.getfield 22, 3) := by decide +kernel
theorem dX4_at_72 : decode cX4_at 72 = .ok (.iload_n 1, 1) := by decide +kernel
theorem dX4_at_73 : decode cX4_at 73 = .ok (.invokevirtual 185, 3) := by decide +kernel
theorem dX4_at_76 : decode cX4_at 76 = .ok (.ireturn, 1) := by decide +kernel
theorem dX4_at_77 : decode cX4_at 77 = .ok (.aload_n 0, 1) := by decide +kernel
theorem dX4_at_78 : decode cX4_at 78 = .ok (.getfield 22, 3) := by decide +kernel
theorem dX4_at_81 : decode cX4_at 81 = .ok (.iload_n 1, 1) := by decide +kernel
theorem dX4_at_82 : decode cX4_at 82 = .ok (.invokevirtual 188, 3) := by decide +kernel
theorem dX4_at_85 : decode cX4_at 85 = .ok (.ireturn, 1) := by decide +kernel
theorem dX4_at_86 : decode cX4_at 86 = .ok (.aload_n 0, 1) := by decide +kernel
theorem dX4_at_87 : decode cX4_at 87 = .ok (.getfield 22, 3) := by decide +kernel
theorem dX4_at_90 : decode cX4_at 90 = .ok (.aload_n 0, 1) := by decide +kernel
theorem dX4_at_91 : decode cX4_at 91 = .ok (.getfield 22, 3) := by decide +kernel
theorem dX4_at_94 : decode cX4_at 94 = .ok (.getfield 138, 3) := by decide +kernel
theorem dX4_at_97 : decode cX4_at 97 = .ok (.iload_n 1, 1) := by decide +kernel
theorem dX4_at_98 : decode cX4_at 98 = .ok (.invokevirtual 191, 3) := by decide +kernel
theorem dX4_at_101 : decode cX4_at 101 = .ok (.ireturn, 1) := by decide +kernel
theorem dX4_at_102 : decode cX4_at 102 = .ok (.aload_n 0, 1) := by decide +kernel
theorem dX4_at_103 : decode cX4_at 103 = .ok (.getfield 22, 3) := by decide +kernel
theorem dX4_at_106 : decode cX4_at 106 = .ok (.aload_n 0, 1) := by decide +kernel
theorem dX4_at_107 : decode cX4_at 107 = .ok (.getfield 22, 3) := by decide +kernel
theorem dX4_at_110 : decode cX4_at 110 = .ok (.getfield 141, 3) := by decide +kernel
theorem dX4_at_113 : decode cX4_at 113 = .ok (.iload_n 1, 1) := by decide +kernel
theorem dX4_at_114 : decode cX4_at 114 = .ok (.invokevirtual 191, 3) := by decide +kernel
theorem dX4_at_117 : decode cX4_at 117 = .ok (.ireturn, 1) := by decide +kernel
set_option maxRecDepth 20000 in
theorem ggX4_ifOrdered_X4_within : GoodIn wsX4_ifOrdered wsX4_within := goodIn_r _ [13] (by decide +kernel) (by decide +kernel)
set_option maxRecDepth 20000 in
theorem gX4_ifOrdered_X4_within : GoodIn wsX4_ifOrdered (va_wsS RX4 48 yX4_within wsX4_within) := goodIn_app (goodIn_of _ (by decide +kernel)) ggX4_ifOrdered_X4_within
set_option maxRecDepth 20000 in
theorem ggX4_ifOrdered_X0_arrange : GoodIn wsX4_ifOrdered wsX0_arrange := goodIn_r _ [18, 19, 20, 21, 22, 23, 17, 24, 25, 26, 27, 28, 29, 30, 31, 32, 33, 100, 101, 102] (by decide +kernel) (by decide +kernel)
set_option maxRecDepth 20000 in
theorem gX4_ifOrdered_X0_arrange : GoodIn wsX4_ifOrdered (wsV RX4 125 RX0 yX0_arrange wsX0_arrange) := goodIn_app (goodIn_of _ (by decide +kernel)) ggX4_ifOrdered_X0_arrange
set_option maxRecDepth 20000 in
theorem ggX4_ifOrdered_X3_print : GoodIn wsX4_ifOrdered wsX3_print := goodIn_r _ [38, 39, 40, 41, 42, 43, 37, 44, 45, 46, 47, 48, 49, 50, 51, 52, 53, 54, 55, 56, 57, 58, 59, 60, 61, 62, 63, 64, 65, 66, 67, 68, 69, 70, 71, 72, 73, 12, 74, 75, 76, 77, 78, 79, 80, 81, 82, 83, 84, 85, 86, 87, 88, 100, 101, 102, 103, 104, 105, 106, 107, 108, 109, 110, 111, 112, 113, 114, 115, 116, 117, 118, 119, 120] (by decide +kernel) (by decide +kernel)
set_option maxRecDepth 20000 in
theorem gX4_ifOrdered_X3_print : GoodIn wsX4_ifOrdered (wsV RX4 115 RX3 yX3_print wsX3_print) := goodIn_app (goodIn_of _ (by decide +kernel)) ggX4_ifOrdered_X3_print
set_option maxRecDepth 20000 in
theorem ggX4_ifOrdered_X3_lastOf : GoodIn wsX4_ifOrdered wsX3_lastOf := goodIn_r _ [92, 40, 103, 104, 105, 106, 107, 108, 109, 110, 111, 112, 113, 114, 115, 116, 117, 118, 119, 120] (by decide +kernel) (by decide +kernel)
set_option maxRecDepth 20000 in
theorem gX4_ifOrdered_X3_lastOf : GoodIn wsX4_ifOrdered (wsV RX4 156 RX3 yX3_lastOf wsX3_lastOf) := goodIn_app (goodIn_of _ (by decide +kernel)) ggX4_ifOrdered_X3_lastOf
theorem dX4_ifOrdered_0 : decode cX4_ifOrdered 0 = .ok (.iload_n 1, 1) := by decide +kernel
theorem dX4_ifOrdered_1 : decode cX4_ifOrdered 1 = .ok (.iconst 0, 1) := by decide +kernel
theorem dX4_ifOrdered_2 : decode cX4_ifOrdered 2 = .ok (.iconst 3, 1) := by decide +kernel
theorem dX4_ifOrdered_3 : decode cX4_ifOrdered 3 = .ok (.invokestatic 48, 3) := by decide +kernel
theorem dX4_ifOrdered_6 : decode cX4_ifOrdered 6 = .ok (.ifCond .eq 12, 3) := by decide +kernel
theorem dX4_ifOrdered_9 : decode cX4_ifOrdered 9 = .ok (.iload_n 2, 1) := by decide +kernel
theorem dX4_ifOrdered_10 : decode cX4_ifOrdered 10 = .ok (.iconst 0, 1) := by decide +kernel
theorem dX4_ifOrdered_11 : decode cX4_ifOrdered 11 = .ok (.iconst 3, 1) := by decide +kernel
theorem dX4_ifOrdered_12 : decode cX4_ifOrdered 12 = .ok (.invokestatic 48, 3) := by decide +kernel
theorem dX4_ifOrdered_15 : decode cX4_ifOrdered 15 = .ok (.ifCond .ne 6, 3) := by decide +kernel
theorem dX4_ifOrdered_18 : decode cX4_ifOrdered 18 = .ok (.bipush (-2), 2) := by decide +kernel
theorem dX4_ifOrdered_20 : decode cX4_ifOrdered 20 = .ok (.ireturn, 1) := by decide +kernel
theorem dX4_ifOrdered_21 : decode cX4_ifOrdered 21 = .ok (.aload_n 0, 1) := by decide +kernel
theorem dX4_ifOrdered_22 : decode cX4_ifOrdered 22 = .ok (.getfield 16, 3) := by decide +kernel
theorem dX4_ifOrdered_25 : decode cX4_ifOrdered 25 = .ok (.aload_n 0, 1) := by decide +kernel
theorem dX4_ifOrdered_26 : decode cX4_ifOrdered 26 = .ok (.getfield 10, 3) := by decide +kernel
theorem dX4_ifOrdered_29 : decode cX4_ifOrdered 29 = .ok (.getstatic 122, 3) := by decide +kernel
theorem dX4_ifOrdered_32 : decode cX4_ifOrdered 32 = .ok (.iload_n 1, 1) := by decide +kernel
theorem dX4_ifOrdered_33 : decode cX4_ifOrdered 33 = .ok (.iaload, 1) := by decide +kernel
theorem dX4_ifOrdered_34 : decode cX4_ifOrdered 34 = .ok (.invokevirtual 125, 3) := by decide +kernel
theorem dX4_ifOrdered_37 : decode cX4_ifOrdered 37 = .ok (.pop, 1) := by decide +kernel
theorem dX4_ifOrdered_38 : decode cX4_ifOrdered 38 = .ok (.aload_n 0, 1) := by decide +kernel
theorem dX4_ifOrdered_39 : decode cX4_ifOrdered 39 = .ok (.getfield 22, 3) := by decide +kernel
theorem dX4_ifOrdered_42 : decode cX4_ifOrdered 42 = .ok (.aload_n 0, 1) := by decide +kernel
theorem dX4_ifOrdered_43 : decode cX4_ifOrdered 43 = .ok (.getfield 16, 3) := by decide +kernel
theorem dX4_ifOrdered_46 : decode cX4_ifOrdered 46 = .ok (.aload_n 0, 1) := by decide +kernel
theorem dX4_ifOrdered_47 : decode cX4_ifOrdered 47 = .ok (.getfield 16, 3) := by decide +kernel
theorem dX4_ifOrdered_50 : decode cX4_ifOrdered 50 = .ok (.getfield 59, 3) := by decide +kernel
theorem dX4_ifOrdered_53 : decode cX4_ifOrdered 53 = .ok (.iconst 5, 1) := by decide +kernel
theorem dX4_ifOrdered_54 : decode cX4_ifOrdered 54 = .ok (.iaload, 1) := by decide +kernel
theorem dX4_ifOrdered_55 : decode cX4_ifOrdered 55 = .ok (.invokevirtual 115, 3) := by decide +kernel
theorem dX4_ifOrdered_58 : decode cX4_ifOrdered 58 = .ok (.iload_n 2, 1) := by decide +kernel
theorem dX4_ifOrdered_59 : decode cX4_ifOrdered 59 = .ok (.tableswitch 56 0 2 #[25, 40, 48], 25) := by decide +kernel
theorem dX4_ifOrdered_84 : decode cX4_ifOrdered 84 = .ok (.aload_n 0, 1) := by decide +kernel
theorem dX4_ifOrdered_85 : decode cX4_ifOrdered 85 = .ok (.getfield 22, 3) := by decide +kernel
theorem dX4_ifOrdered_88 : decode cX4_ifOrdered 88 = .ok (.aload_n 0, 1) := by decide +kernel
theorem dX4_ifOrdered_89 : decode cX4_ifOrdered 89 = .ok (.getfield 22, 3) := by decide +kernel
theorem dX4_ifOrdered_92 : decode cX4_ifOrdered 92 = .ok (.getfield 141, 3) := by decide +kernel
theorem dX4_ifOrdered_95 : decode cX4_ifOrdered 95 = .ok (.invokevirtual 156, 3) := by decide +kernel
theorem dX4_ifOrdered_98 : decode cX4_ifOrdered 98 = .ok (.ireturn, 1) := by decide +kernel
theorem dX4_ifOrdered_99 : decode cX4_ifOrdered 99 = .ok (.aload_n 0, 1) := by decide +kernel
theorem dX4_ifOrdered_100 : decode cX4_ifOrdered 100 = .ok (.getfield 22, 3) := by decide +kernel
theorem dX4_ifOrdered_103 : decode cX4_ifOrdered 103 = .ok (.getfield 163, 3) := by decide +kernel
theorem dX4_ifOrdered_106 : decode cX4_ifOrdered 106 = .ok (.ireturn, 1) := by decide +kernel
theorem dX4_ifOrdered_107 : decode cX4_ifOrdered 107 = .ok (.aload_n 0, 1) := by decide +kernel
theorem dX4_ifOrdered_108 : decode cX4_ifOrdered 108 = .ok (.getfield 22, 3) := by decide +kernel
theorem dX4_ifOrdered_111 : decode cX4_ifOrdered 111 = .ok (.getfield 169, 3) := by decide +kernel
theorem dX4_ifOrdered_114 : decode cX4_ifOrdered 114 = .ok (.ireturn, 1) := by decide +kernel
theorem dX4_ifOrdered_115 : decode cX4_ifOrdered 115 = .ok (.aload_n 0, 1) := by decide +kernel
theorem dX4_ifOrdered_116 : decode cX4_ifOrdered 116 = .ok (.getfield 22, 3) := by decide +kernel
theorem dX4_ifOrdered_119 : decode cX4_ifOrdered 119 = .ok (.getfield 172, 3) := by decide +kernel
theorem dX4_ifOrdered_122 : decode cX4_ifOrdered 122 = .ok (.ireturn, 1) := by decide +kernel
set_option maxRecDepth 20000 in
theorem ggX4_bestExchange_X4_within : GoodIn wsX4_bestExchange wsX4_within := goodIn_r _ [7] (by decide +kernel) (by decide +kernel)
set_option maxRecDepth 20000 in
theorem gX4_bestExchange_X4_within : GoodIn wsX4_bestExchange (va_wsS RX4 48 yX4_within wsX4_within) := goodIn_app (goodIn_of _ (by decide +kernel)) ggX4_bestExchange_X4_within
set_option maxRecDepth 20000 in
theorem ggX4_bestExchange_X0_copyFrom : GoodIn wsX4_bestExchange wsX0_copyFrom := goodIn_r _ [12, 13, 14, 15, 16, 17, 18, 19, 97, 98, 99] (by decide +kernel) (by decide +kernel)
set_option maxRecDepth 20000 in
theorem gX4_bestExchange_X0_copyFrom : GoodIn wsX4_bestExchange (wsV RX4 129 RX0 yX0_copyFrom wsX0_copyFrom) := goodIn_app (goodIn_of _ (by decide +kernel)) ggX4_bestExchange_X0_copyFrom
set_option maxRecDepth 20000 in
theorem ggX4_bestExchange_X4_lateSumOf : GoodIn wsX4_bestExchange wsX4_lateSumOf := goodIn_r _ [23, 24, 25, 26, 27, 28, 29, 30, 31, 32, 33, 34, 35, 36, 37, 38, 39, 40, 41, 42, 43, 44, 45, 46, 47, 48, 49, 50, 51, 52, 53, 54, 55, 56, 57, 58, 59, 60, 61, 62, 63, 64, 65, 66, 6, 67, 68, 69, 70, 71, 72, 73, 74, 75, 76, 77, 78, 79, 80, 81, 90, 91, 92, 93, 94, 95, 96, 97, 98, 99, 100, 101, 102, 103, 104, 105, 106, 107, 108, 109, 110, 111, 112, 113, 114, 115, 116, 117] (by decide +kernel) (by decide +kernel)
set_option maxRecDepth 20000 in
theorem gX4_bestExchange_X4_lateSumOf : GoodIn wsX4_bestExchange (wsV RX4 107 RX4 yX4_lateSumOf wsX4_lateSumOf) := goodIn_app (goodIn_of _ (by decide +kernel)) ggX4_bestExchange_X4_lateSumOf
set_option maxRecDepth 20000 in
theorem ggX4_bestExchange_X4_lateSumIfExchanged : GoodIn wsX4_bestExchange wsX4_lateSumIfExchanged := goodIn_r _ [85, 1, 86, 87, 88, 11, 89, 18, 20, 21, 22, 6, 23, 24, 25, 26, 27, 28, 29, 30, 31, 32, 33, 34, 35, 36, 37, 38, 39, 40, 41, 42, 43, 44, 45, 46, 47, 48, 49, 50, 51, 52, 53, 54, 55, 56, 57, 58, 59, 60, 61, 62, 63, 64, 65, 66, 67, 68, 69, 70, 71, 72, 73, 74, 75, 76, 77, 78, 79, 80, 81, 90, 91, 92, 93, 94, 95, 96, 97, 98, 99, 100, 101, 102, 103, 104, 105, 106, 107, 108, 109, 110, 111, 112, 113, 114, 115, 116, 117] (by decide +kernel) (by decide +kernel)
set_option maxRecDepth 20000 in
theorem gX4_bestExchange_X4_lateSumIfExchanged : GoodIn wsX4_bestExchange (wsV RX4 195 RX4 yX4_lateSumIfExchanged wsX4_lateSumIfExchanged) := goodIn_app (goodIn_of _ (by decide +kernel)) ggX4_bestExchange_X4_lateSumIfExchanged
theorem dX4_bestExchange_0 : decode cX4_bestExchange 0 = .ok (.iload_n 1, 1) := by decide +kernel
theorem dX4_bestExchange_1 : decode cX4_bestExchange 1 = .ok (.iconst 0, 1) := by decide +kernel
theorem dX4_bestExchange_2 : decode cX4_bestExchange 2 = .ok (.iconst 2, 1) := by decide +kernel
theorem dX4_bestExchange_3 : decode cX4_bestExchange 3 = .ok (.invokestatic 48, 3) := by decide +kernel
theorem dX4_bestExchange_6 : decode cX4_bestExchange 6 = .ok (.ifCond .ne 6, 3) := by decide +kernel
theorem dX4_bestExchange_9 : decode cX4_bestExchange 9 = .ok (.bipush (-2), 2) := by decide +kernel
theorem dX4_bestExchange_11 : decode cX4_bestExchange 11 = .ok (.ireturn, 1) := by decide +kernel
theorem dX4_bestExchange_12 : decode cX4_bestExchange 12 = .ok (.aload_n 0, 1) := by decide +kernel
theorem dX4_bestExchange_13 : decode cX4_bestExchange 13 = .ok (.getfield 16, 3) := by decide +kernel
theorem dX4_bestExchange_16 : decode cX4_bestExchange 16 = .ok (.aload_n 0, 1) := by decide +kernel
theorem dX4_bestExchange_17 : decode cX4_bestExchange 17 = .ok (.getfield 10, 3) := by decide +kernel
theorem dX4_bestExchange_20 : decode cX4_bestExchange 20 = .ok (.invokevirtual 129, 3) := by decide +kernel
theorem dX4_bestExchange_23 : decode cX4_bestExchange 23 = .ok (.aload_n 0, 1) := by decide +kernel
theorem dX4_bestExchange_24 : decode cX4_bestExchange 24 = .ok (.aload_n 0, 1) := by decide +kernel
theorem dX4_bestExchange_25 : decode cX4_bestExchange 25 = .ok (.getfield 16, 3) := by decide +kernel
theorem dX4_bestExchange_28 : decode cX4_bestExchange 28 = .ok (.invokevirtual 107, 3) := by decide +kernel
theorem dX4_bestExchange_31 : decode cX4_bestExchange 31 = .ok (.istore_n 2, 1) := by decide +kernel
theorem dX4_bestExchange_32 : decode cX4_bestExchange 32 = .ok (.bipush (-6), 2) := by decide +kernel
theorem dX4_bestExchange_34 : decode cX4_bestExchange 34 = .ok (.istore_n 3, 1) := by decide +kernel
theorem dX4_bestExchange_35 : decode cX4_bestExchange 35 = .ok (.bipush (-6), 2) := by decide +kernel
theorem dX4_bestExchange_37 : decode cX4_bestExchange 37 = .ok (.istore 4, 2) := by decide +kernel
theorem dX4_bestExchange_39 : decode cX4_bestExchange 39 = .ok (.iconst 0, 1) := by decide +kernel
theorem dX4_bestExchange_40 : decode cX4_bestExchange 40 = .ok (.istore 5, 2) := by decide +kernel
theorem dX4_bestExchange_42 : decode cX4_bestExchange 42 = .ok (.iload 5, 2) := by decide +kernel
theorem dX4_bestExchange_44 : decode cX4_bestExchange 44 = .ok (.aload_n 0, 1) := by decide +kernel
theorem dX4_bestExchange_45 : decode cX4_bestExchange 45 = .ok (.getfield 10, 3) := by decide +kernel
theorem dX4_bestExchange_48 : decode cX4_bestExchange 48 = .ok (.getfield 74, 3) := by decide +kernel
theorem dX4_bestExchange_51 : decode cX4_bestExchange 51 = .ok (.if_icmp .ge 59, 3) := by decide +kernel
theorem dX4_bestExchange_54 : decode cX4_bestExchange 54 = .ok (.iload 5, 2) := by decide +kernel
theorem dX4_bestExchange_56 : decode cX4_bestExchange 56 = .ok (.iconst 1, 1) := by decide +kernel
theorem dX4_bestExchange_57 : decode cX4_bestExchange 57 = .ok (.iadd, 1) := by decide +kernel
theorem dX4_bestExchange_58 : decode cX4_bestExchange 58 = .ok (.istore 6, 2) := by decide +kernel
theorem dX4_bestExchange_60 : decode cX4_bestExchange 60 = .ok (.iload 6, 2) := by decide +kernel
theorem dX4_bestExchange_62 : decode cX4_bestExchange 62 = .ok (.aload_n 0, 1) := by decide +kernel
theorem dX4_bestExchange_63 : decode cX4_bestExchange 63 = .ok (.getfield 10, 3) := by decide +kernel
theorem dX4_bestExchange_66 : decode cX4_bestExchange 66 = .ok (.getfield 74, 3) := by decide +kernel
theorem dX4_bestExchange_69 : decode cX4_bestExchange 69 = .ok (.if_icmp .ge 35, 3) := by decide +kernel
theorem dX4_bestExchange_72 : decode cX4_bestExchange 72 = .ok (.aload_n 0, 1) := by decide +kernel
theorem dX4_bestExchange_73 : decode cX4_bestExchange 73 = .ok (.iload 5, 2) := by decide +kernel
theorem dX4_bestExchange_75 : decode cX4_bestExchange 75 = .ok (.iload 6, 2) := by decide +kernel
theorem dX4_bestExchange_77 : decode cX4_bestExchange 77 = .ok (.invokevirtual 195, 3) := by decide +kernel
theorem dX4_bestExchange_80 : decode cX4_bestExchange 80 = .ok (.istore 7, 2) := by decide +kernel
theorem dX4_bestExchange_82 : decode cX4_bestExchange 82 = .ok (.iload 7, 2) := by decide +kernel
theorem dX4_bestExchange_84 : decode cX4_bestExchange 84 = .ok (.iload_n 2, 1) := by decide +kernel
theorem dX4_bestExchange_85 : decode cX4_bestExchange 85 = .ok (.if_icmp .ge 13, 3) := by decide +kernel
theorem dX4_bestExchange_88 : decode cX4_bestExchange 88 = .ok (.iload 7, 2) := by decide +kernel
theorem dX4_bestExchange_90 : decode cX4_bestExchange 90 = .ok (.istore_n 2, 1) := by decide +kernel
theorem dX4_bestExchange_91 : decode cX4_bestExchange 91 = .ok (.iload 5, 2) := by decide +kernel
theorem dX4_bestExchange_93 : decode cX4_bestExchange 93 = .ok (.istore_n 3, 1) := by decide +kernel
theorem dX4_bestExchange_94 : decode cX4_bestExchange 94 = .ok (.iload 6, 2) := by decide +kernel
theorem dX4_bestExchange_96 : decode cX4_bestExchange 96 = .ok (.istore 4, 2) := by decide +kernel
theorem dX4_bestExchange_98 : decode cX4_bestExchange 98 = .ok (.iinc 6 1, 3) := by decide +kernel
theorem dX4_bestExchange_101 : decode cX4_bestExchange 101 = .ok (.goto (-41), 3) := by decide +kernel
theorem dX4_bestExchange_104 : decode cX4_bestExchange 104 = .ok (.iinc 5 1, 3) := by decide +kernel
theorem dX4_bestExchange_107 : decode cX4_bestExchange 107 = .ok (.goto (-65), 3) := by decide +kernel
theorem dX4_bestExchange_110 : decode cX4_bestExchange 110 = .ok (.iload_n 3, 1) := by decide +kernel
theorem dX4_bestExchange_111 : decode cX4_bestExchange 111 = .ok (.bipush (-6), 2) := by decide +kernel
theorem dX4_bestExchange_113 : decode cX4_bestExchange 113 = .ok (.if_icmp .ne 6, 3) := by decide +kernel
theorem dX4_bestExchange_116 : decode cX4_bestExchange 116 = .ok (.bipush (-6), 2) := by decide +kernel
theorem dX4_bestExchange_118 : decode cX4_bestExchange 118 = .ok (.ireturn, 1) := by decide +kernel
theorem dX4_bestExchange_119 : decode cX4_bestExchange 119 = .ok (.iload_n 1, 1) := by decide +kernel
theorem dX4_bestExchange_120 : decode cX4_bestExchange 120 = .ok (.lookupswitch 33 #[(0, 28), (1, 30)], 28) := by decide +kernel
theorem dX4_bestExchange_148 : decode cX4_bestExchange 148 = .ok (.iload_n 3, 1) := by decide +kernel
theorem dX4_bestExchange_149 : decode cX4_bestExchange 149 = .ok (.ireturn, 1) := by decide +kernel
theorem dX4_bestExchange_150 : decode cX4_bestExchange 150 = .ok (.iload 4, 2) := by decide +kernel
theorem dX4_bestExchange_152 : decode cX4_bestExchange 152 = .ok (.ireturn, 1) := by decide +kernel
theorem dX4_bestExchange_153 : decode cX4_bestExchange 153 = .ok (.iload_n 2, 1) := by decide +kernel
theorem dX4_bestExchange_154 : decode cX4_bestExchange 154 = .ok (.ireturn, 1) := by decide +kernel
set_option maxRecDepth 20000 in
theorem ggX4_bestFirst_X0_copyFrom : GoodIn wsX4_bestFirst wsX0_copyFrom := goodIn_r _ [8, 9, 10, 11, 12, 13, 14, 15, 94, 95, 96] (by decide +kernel) (by decide +kernel)
set_option maxRecDepth 20000 in
theorem gX4_bestFirst_X0_copyFrom : GoodIn wsX4_bestFirst (wsV RX4 129 RX0 yX0_copyFrom wsX0_copyFrom) := goodIn_app (goodIn_of _ (by decide +kernel)) ggX4_bestFirst_X0_copyFrom
set_option maxRecDepth 20000 in
theorem ggX4_bestFirst_X4_lateSumIfFirst : GoodIn wsX4_bestFirst wsX4_lateSumIfFirst := goodIn_r _ [20, 1, 21, 22, 23, 7, 24, 14, 25, 26, 27, 19, 28, 29, 30, 31, 32, 33, 34, 35, 36, 37, 38, 39, 40, 41, 42, 43, 44, 45, 46, 47, 48, 49, 50, 51, 52, 53, 54, 55, 56, 57, 58, 59, 60, 61, 62, 63, 64, 65, 66, 67, 68, 69, 70, 71, 72, 73, 74, 75, 76, 77, 78, 79, 80, 81, 82, 83, 84, 85, 86, 87, 88, 89, 90, 91, 92, 93, 94, 95, 96, 97, 98, 99, 100, 101, 102, 103, 104, 105, 106, 107, 108, 109, 110, 111, 112, 113, 114] (by decide +kernel) (by decide +kernel)
set_option maxRecDepth 20000 in
theorem gX4_bestFirst_X4_lateSumIfFirst : GoodIn wsX4_bestFirst (wsV RX4 198 RX4 yX4_lateSumIfFirst wsX4_lateSumIfFirst) := goodIn_app (goodIn_of _ (by decide +kernel)) ggX4_bestFirst_X4_lateSumIfFirst
theorem dX4_bestFirst_0 : decode cX4_bestFirst 0 = .ok (.aload_n 0, 1) := by decide +kernel
theorem dX4_bestFirst_1 : decode cX4_bestFirst 1 = .ok (.getfield 16, 3) := by decide +kernel
theorem dX4_bestFirst_4 : decode cX4_bestFirst 4 = .ok (.aload_n 0, 1) := by decide +kernel
theorem dX4_bestFirst_5 : decode cX4_bestFirst 5 = .ok (.getfield 10, 3) := by decide +kernel
theorem dX4_bestFirst_8 : decode cX4_bestFirst 8 = .ok (.invokevirtual 129, 3) := by decide +kernel
theorem dX4_bestFirst_11 : decode cX4_bestFirst 11 = .ok (.bipush (-6), 2) := by decide +kernel
theorem dX4_bestFirst_13 : decode cX4_bestFirst 13 = .ok (.istore_n 1, 1) := by decide +kernel
theorem dX4_bestFirst_14 : decode cX4_bestFirst 14 = .ok (.iconst 0, 1) := by decide +kernel
theorem dX4_bestFirst_15 : decode cX4_bestFirst 15 = .ok (.istore_n 2, 1) := by decide +kernel
theorem dX4_bestFirst_16 : decode cX4_bestFirst 16 = .ok (.iconst 0, 1) := by decide +kernel
theorem dX4_bestFirst_17 : decode cX4_bestFirst 17 = .ok (.istore_n 3, 1) := by decide +kernel
theorem dX4_bestFirst_18 : decode cX4_bestFirst 18 = .ok (.iload_n 3, 1) := by decide +kernel
theorem dX4_bestFirst_19 : decode cX4_bestFirst 19 = .ok (.aload_n 0, 1) := by decide +kernel
theorem dX4_bestFirst_20 : decode cX4_bestFirst 20 = .ok (.getfield 10, 3) := by decide +kernel
theorem dX4_bestFirst_23 : decode cX4_bestFirst 23 = .ok (.getfield 74, 3) := by decide +kernel
theorem dX4_bestFirst_26 : decode cX4_bestFirst 26 = .ok (.if_icmp .ge 33, 3) := by decide +kernel
theorem dX4_bestFirst_29 : decode cX4_bestFirst 29 = .ok (.aload_n 0, 1) := by decide +kernel
theorem dX4_bestFirst_30 : decode cX4_bestFirst 30 = .ok (.iload_n 3, 1) := by decide +kernel
theorem dX4_bestFirst_31 : decode cX4_bestFirst 31 = .ok (.invokevirtual 198, 3) := by decide +kernel
theorem dX4_bestFirst_34 : decode cX4_bestFirst 34 = .ok (.istore 4, 2) := by decide +kernel
theorem dX4_bestFirst_36 : decode cX4_bestFirst 36 = .ok (.iload_n 1, 1) := by decide +kernel
theorem dX4_bestFirst_37 : decode cX4_bestFirst 37 = .ok (.bipush (-6), 2) := by decide +kernel
theorem dX4_bestFirst_39 : decode cX4_bestFirst 39 = .ok (.if_icmp .eq 9, 3) := by decide +kernel
theorem dX4_bestFirst_42 : decode cX4_bestFirst 42 = .ok (.iload 4, 2) := by decide +kernel
theorem dX4_bestFirst_44 : decode cX4_bestFirst 44 = .ok (.iload_n 2, 1) := by decide +kernel
theorem dX4_bestFirst_45 : decode cX4_bestFirst 45 = .ok (.if_icmp .ge 8, 3) := by decide +kernel
theorem dX4_bestFirst_48 : decode cX4_bestFirst 48 = .ok (.iload_n 3, 1) := by decide +kernel
theorem dX4_bestFirst_49 : decode cX4_bestFirst 49 = .ok (.istore_n 1, 1) := by decide +kernel
theorem dX4_bestFirst_50 : decode cX4_bestFirst 50 = .ok (.iload 4, 2) := by decide +kernel
theorem dX4_bestFirst_52 : decode cX4_bestFirst 52 = .ok (.istore_n 2, 1) := by decide +kernel
theorem dX4_bestFirst_53 : decode cX4_bestFirst 53 = .ok (.iinc 3 1, 3) := by decide +kernel
theorem dX4_bestFirst_56 : decode cX4_bestFirst 56 = .ok (.goto (-38), 3) := by decide +kernel
theorem dX4_bestFirst_59 : decode cX4_bestFirst 59 = .ok (.iload_n 1, 1) := by decide +kernel
theorem dX4_bestFirst_60 : decode cX4_bestFirst 60 = .ok (.ireturn, 1) := by decide +kernel
set_option maxRecDepth 20000 in
theorem ggX4_leastRacks_X0_mostRacksNeeded : GoodIn wsX4_leastRacks wsX0_mostRacksNeeded := goodIn_r _ [15, 16, 17, 18, 5, 6, 7, 19, 20, 21, 79, 80, 81] (by decide +kernel) (by decide +kernel)
set_option maxRecDepth 20000 in
theorem gX4_leastRacks_X0_mostRacksNeeded : GoodIn wsX4_leastRacks (wsV RX4 62 RX0 yX0_mostRacksNeeded wsX0_mostRacksNeeded) := goodIn_app (goodIn_of _ (by decide +kernel)) ggX4_leastRacks_X0_mostRacksNeeded
set_option maxRecDepth 20000 in
theorem ggX4_leastRacks_X3_print : GoodIn wsX4_leastRacks wsX3_print := goodIn_r _ [26, 27, 28, 29, 30, 31, 25, 32, 33, 34, 35, 36, 37, 38, 39, 40, 41, 42, 43, 44, 45, 46, 47, 48, 49, 50, 51, 52, 53, 54, 55, 56, 57, 58, 59, 60, 19, 20, 21, 61, 62, 63, 64, 65, 66, 5, 6, 7, 67, 68, 69, 70, 71, 79, 80, 81, 82, 83, 84, 85, 86, 87, 88, 89, 90, 91, 92, 93, 94, 95, 96, 97, 98, 99] (by decide +kernel) (by decide +kernel)
set_option maxRecDepth 20000 in
theorem gX4_leastRacks_X3_print : GoodIn wsX4_leastRacks (wsV RX4 115 RX3 yX3_print wsX3_print) := goodIn_app (goodIn_of _ (by decide +kernel)) ggX4_leastRacks_X3_print
theorem dX4_leastRacks_0 : decode cX4_leastRacks 0 = .ok (.aload_n 0, 1) := by decide +kernel
theorem dX4_leastRacks_1 : decode cX4_leastRacks 1 = .ok (.getfield 10, 3) := by decide +kernel
theorem dX4_leastRacks_4 : decode cX4_leastRacks 4 = .ok (.aload_n 0, 1) := by decide +kernel
theorem dX4_leastRacks_5 : decode cX4_leastRacks 5 = .ok (.getfield 10, 3) := by decide +kernel
theorem dX4_leastRacks_8 : decode cX4_leastRacks 8 = .ok (.getfield 59, 3) := by decide +kernel
theorem dX4_leastRacks_11 : decode cX4_leastRacks 11 = .ok (.bipush 6, 2) := by decide +kernel
theorem dX4_leastRacks_13 : decode cX4_leastRacks 13 = .ok (.iaload, 1) := by decide +kernel
theorem dX4_leastRacks_14 : decode cX4_leastRacks 14 = .ok (.invokevirtual 62, 3) := by decide +kernel
theorem dX4_leastRacks_17 : decode cX4_leastRacks 17 = .ok (.istore_n 1, 1) := by decide +kernel
theorem dX4_leastRacks_18 : decode cX4_leastRacks 18 = .ok (.iload_n 1, 1) := by decide +kernel
theorem dX4_leastRacks_19 : decode cX4_leastRacks 19 = .ok (.getstatic 52, 3) := by decide +kernel
theorem dX4_leastRacks_22 : decode cX4_leastRacks 22 = .ok (.iconst 5, 1) := by decide +kernel
theorem dX4_leastRacks_23 : decode cX4_leastRacks 23 = .ok (.iaload, 1) := by decide +kernel
theorem dX4_leastRacks_24 : decode cX4_leastRacks 24 = .ok (.invokestatic 201, 3) := by decide +kernel
theorem dX4_leastRacks_27 : decode cX4_leastRacks 27 = .ok (.istore_n 2, 1) := by decide +kernel
theorem dX4_leastRacks_28 : decode cX4_leastRacks 28 = .ok (.iload_n 2, 1) := by decide +kernel
theorem dX4_leastRacks_29 : decode cX4_leastRacks 29 = .ok (.istore_n 3, 1) := by decide +kernel
theorem dX4_leastRacks_30 : decode cX4_leastRacks 30 = .ok (.iload_n 3, 1) := by decide +kernel
theorem dX4_leastRacks_31 : decode cX4_leastRacks 31 = .ok (.getstatic 56, 3) := by decide +kernel
theorem dX4_leastRacks_34 : decode cX4_leastRacks 34 = .ok (.iconst 5, 1) := by decide +kernel
theorem dX4_leastRacks_35 : decode cX4_leastRacks 35 = .ok (.iaload, 1) := by decide +kernel
theorem dX4_leastRacks_36 : decode cX4_leastRacks 36 = .ok (.if_icmp .gt 33, 3) := by decide +kernel
theorem dX4_leastRacks_39 : decode cX4_leastRacks 39 = .ok (.aload_n 0, 1) := by decide +kernel
theorem dX4_leastRacks_40 : decode cX4_leastRacks 40 = .ok (.getfield 22, 3) := by decide +kernel
theorem dX4_leastRacks_43 : decode cX4_leastRacks 43 = .ok (.aload_n 0, 1) := by decide +kernel
theorem dX4_leastRacks_44 : decode cX4_leastRacks 44 = .ok (.getfield 10, 3) := by decide +kernel
theorem dX4_leastRacks_47 : decode cX4_leastRacks 47 = .ok (.iload_n 3, 1) := by decide +kernel
theorem dX4_leastRacks_48 : decode cX4_leastRacks 48 = .ok (.invokevirtual 115, 3) := by decide +kernel
theorem dX4_leastRacks_51 : decode cX4_leastRacks 51 = .ok (.aload_n 0, 1) := by decide +kernel
theorem dX4_leastRacks_52 : decode cX4_leastRacks 52 = .ok (.getfield 22, 3) := by decide +kernel
theorem dX4_leastRacks_55 : decode cX4_leastRacks 55 = .ok (.getfield 175, 3) := by decide +kernel
theorem dX4_leastRacks_58 : decode cX4_leastRacks 58 = .ok (.ifCond .ne 5, 3) := by decide +kernel
theorem dX4_leastRacks_61 : decode cX4_leastRacks 61 = .ok (.iload_n 3, 1) := by decide +kernel
theorem dX4_leastRacks_62 : decode cX4_leastRacks 62 = .ok (.ireturn, 1) := by decide +kernel
theorem dX4_leastRacks_63 : decode cX4_leastRacks 63 = .ok (.iinc 3 1, 3) := by decide +kernel
theorem dX4_leastRacks_66 : decode cX4_leastRacks 66 = .ok (.goto (-36), 3) := by decide +kernel
theorem dX4_leastRacks_69 : decode cX4_leastRacks 69 = .ok (.bipush (-6), 2) := by decide +kernel
theorem dX4_leastRacks_71 : decode cX4_leastRacks 71 = .ok (.ireturn, 1) := by decide +kernel
set_option maxRecDepth 20000 in
theorem ggX4_put_X4_charactersIn : GoodIn wsX4_put wsX4_charactersIn := goodIn_r _ [6, 7, 8, 9, 5, 10] (by decide +kernel) (by decide +kernel)
set_option maxRecDepth 20000 in
theorem gX4_put_X4_charactersIn : GoodIn wsX4_put (va_wsS RX4 206 yX4_charactersIn wsX4_charactersIn) := goodIn_app (goodIn_of _ (by decide +kernel)) ggX4_put_X4_charactersIn
set_option maxRecDepth 20000 in
theorem ggX4_put_X2_append : GoodIn wsX4_put wsX2_append := goodIn_r _ [15, 16, 17, 25, 26, 27, 28, 29, 30, 31, 32] (by decide +kernel) (by decide +kernel)
set_option maxRecDepth 20000 in
theorem gX4_put_X2_append : GoodIn wsX4_put (wsV RX4 210 RX2 yX2_append wsX2_append) := goodIn_app (goodIn_of _ (by decide +kernel)) ggX4_put_X2_append
theorem dX4_put_0 : decode cX4_put 0 = .ok (.lload_n 1, 1) := by decide +kernel
theorem dX4_put_1 : decode cX4_put 1 = .ok (.invokestatic 206, 3) := by decide +kernel
theorem dX4_put_4 : decode cX4_put 4 = .ok (.istore_n 3, 1) := by decide +kernel
theorem dX4_put_5 : decode cX4_put 5 = .ok (.iload_n 3, 1) := by decide +kernel
theorem dX4_put_6 : decode cX4_put 6 = .ok (.bipush (-2), 2) := by decide +kernel
theorem dX4_put_8 : decode cX4_put 8 = .ok (.if_icmp .ne 6, 3) := by decide +kernel
theorem dX4_put_11 : decode cX4_put 11 = .ok (.bipush (-2), 2) := by decide +kernel
theorem dX4_put_13 : decode cX4_put 13 = .ok (.ireturn, 1) := by decide +kernel
theorem dX4_put_14 : decode cX4_put 14 = .ok (.aload_n 0, 1) := by decide +kernel
theorem dX4_put_15 : decode cX4_put 15 = .ok (.getfield 29, 3) := by decide +kernel
theorem dX4_put_18 : decode cX4_put 18 = .ok (.getfield 92, 3) := by decide +kernel
theorem dX4_put_21 : decode cX4_put 21 = .ok (.iload_n 3, 1) := by decide +kernel
theorem dX4_put_22 : decode cX4_put 22 = .ok (.iadd, 1) := by decide +kernel
theorem dX4_put_23 : decode cX4_put 23 = .ok (.bipush 60, 2) := by decide +kernel
theorem dX4_put_25 : decode cX4_put 25 = .ok (.if_icmp .le 6, 3) := by decide +kernel
theorem dX4_put_28 : decode cX4_put 28 = .ok (.bipush (-4), 2) := by decide +kernel
theorem dX4_put_30 : decode cX4_put 30 = .ok (.ireturn, 1) := by decide +kernel
theorem dX4_put_31 : decode cX4_put 31 = .ok (.iload_n 3, 1) := by decide +kernel
theorem dX4_put_32 : decode cX4_put 32 = .ok (.iconst 1, 1) := by decide +kernel
theorem dX4_put_33 : decode cX4_put 33 = .ok (.isub, 1) := by decide +kernel
theorem dX4_put_34 : decode cX4_put 34 = .ok (.istore 4, 2) := by decide +kernel
theorem dX4_put_36 : decode cX4_put 36 = .ok (.iload 4, 2) := by decide +kernel
theorem dX4_put_38 : decode cX4_put 38 = .ok (.ifCond .lt 28, 3) := by decide +kernel
theorem dX4_put_41 : decode cX4_put 41 = .ok (.aload_n 0, 1) := by decide +kernel
theorem dX4_put_42 : decode cX4_put 42 = .ok (.getfield 29, 3) := by decide +kernel
theorem dX4_put_45 : decode cX4_put 45 = .ok (.lload_n 1, 1) := by decide +kernel
theorem dX4_put_46 : decode cX4_put 46 = .ok (.bipush 8, 2) := by decide +kernel
theorem dX4_put_48 : decode cX4_put 48 = .ok (.iload 4, 2) := by decide +kernel
theorem dX4_put_50 : decode cX4_put 50 = .ok (.imul, 1) := by decide +kernel
theorem dX4_put_51 : decode cX4_put 51 = .ok (.lushr, 1) := by decide +kernel
theorem dX4_put_52 : decode cX4_put 52 = .ok (.l2i, 1) := by decide +kernel
theorem dX4_put_53 : decode cX4_put 53 = .ok (.sipush 255, 3) := by decide +kernel
theorem dX4_put_56 : decode cX4_put 56 = .ok (.iand, 1) := by decide +kernel
theorem dX4_put_57 : decode cX4_put 57 = .ok (.invokevirtual 210, 3) := by decide +kernel
theorem dX4_put_60 : decode cX4_put 60 = .ok (.iinc 4 (-1), 3) := by decide +kernel
theorem dX4_put_63 : decode cX4_put 63 = .ok (.goto (-27), 3) := by decide +kernel
theorem dX4_put_66 : decode cX4_put 66 = .ok (.aload_n 0, 1) := by decide +kernel
theorem dX4_put_67 : decode cX4_put 67 = .ok (.getfield 29, 3) := by decide +kernel
theorem dX4_put_70 : decode cX4_put 70 = .ok (.getfield 92, 3) := by decide +kernel
theorem dX4_put_73 : decode cX4_put 73 = .ok (.ireturn, 1) := by decide +kernel
theorem dX4_wipe_0 : decode cX4_wipe 0 = .ok (.aload_n 0, 1) := by decide +kernel
theorem dX4_wipe_1 : decode cX4_wipe 1 = .ok (.getfield 29, 3) := by decide +kernel
theorem dX4_wipe_4 : decode cX4_wipe 4 = .ok (.getfield 92, 3) := by decide +kernel
theorem dX4_wipe_7 : decode cX4_wipe 7 = .ok (.istore_n 1, 1) := by decide +kernel
theorem dX4_wipe_8 : decode cX4_wipe 8 = .ok (.aload_n 0, 1) := by decide +kernel
theorem dX4_wipe_9 : decode cX4_wipe 9 = .ok (.getfield 29, 3) := by decide +kernel
theorem dX4_wipe_12 : decode cX4_wipe 12 = .ok (.iconst 0, 1) := by decide +kernel
theorem dX4_wipe_13 : decode cX4_wipe 13 = .ok (.putfield 92, 3) := by decide +kernel
theorem dX4_wipe_16 : decode cX4_wipe 16 = .ok (.iload_n 1, 1) := by decide +kernel
theorem dX4_wipe_17 : decode cX4_wipe 17 = .ok (.ireturn, 1) := by decide +kernel
set_option maxRecDepth 20000 in
theorem ggX4_fault_X2_parse : GoodIn wsX4_fault wsX2_parse := goodIn_r _ [6, 7, 8, 9, 10, 11, 12, 13, 14, 5, 15, 16, 17, 18, 19, 20, 21, 22, 23, 24, 25, 26, 27, 28, 29, 30, 31, 32, 33, 34, 35, 36, 37, 38, 39, 40, 41, 42, 43, 44, 45, 46, 47, 48, 49, 57, 58, 59, 60, 61, 62, 63, 64, 65, 66, 67] (by decide +kernel) (by decide +kernel)
set_option maxRecDepth 20000 in
theorem gX4_fault_X2_parse : GoodIn wsX4_fault (wsV RX4 82 RX2 yX2_parse wsX2_parse) := goodIn_app (goodIn_of _ (by decide +kernel)) ggX4_fault_X2_parse
theorem dX4_fault_0 : decode cX4_fault 0 = .ok (.aload_n 0, 1) := by decide +kernel
theorem dX4_fault_1 : decode cX4_fault 1 = .ok (.getfield 29, 3) := by decide +kernel
theorem dX4_fault_4 : decode cX4_fault 4 = .ok (.invokevirtual 82, 3) := by decide +kernel
theorem dX4_fault_7 : decode cX4_fault 7 = .ok (.ireturn, 1) := by decide +kernel
set_option maxRecDepth 20000 in
theorem ggX4_undo_X1_takeBack : GoodIn wsX4_undo wsX1_takeBack := goodIn_r _ [8, 9, 10, 11, 12, 13, 14, 15, 16, 17, 18, 19, 20, 21, 22, 23, 31, 32, 33, 34, 35, 36] (by decide +kernel) (by decide +kernel)
set_option maxRecDepth 20000 in
theorem gX4_undo_X1_takeBack : GoodIn wsX4_undo (wsV RX4 212 RX1 yX1_takeBack wsX1_takeBack) := goodIn_app (goodIn_of _ (by decide +kernel)) ggX4_undo_X1_takeBack
theorem dX4_undo_0 : decode cX4_undo 0 = .ok (.aload_n 0, 1) := by decide +kernel
theorem dX4_undo_1 : decode cX4_undo 1 = .ok (.getfield 36, 3) := by decide +kernel
theorem dX4_undo_4 : decode cX4_undo 4 = .ok (.getfield 181, 3) := by decide +kernel
theorem dX4_undo_7 : decode cX4_undo 7 = .ok (.ifCond .ne 6, 3) := by decide +kernel
theorem dX4_undo_10 : decode cX4_undo 10 = .ok (.bipush (-5), 2) := by decide +kernel
theorem dX4_undo_12 : decode cX4_undo 12 = .ok (.ireturn, 1) := by decide +kernel
theorem dX4_undo_13 : decode cX4_undo 13 = .ok (.aload_n 0, 1) := by decide +kernel
theorem dX4_undo_14 : decode cX4_undo 14 = .ok (.getfield 36, 3) := by decide +kernel
theorem dX4_undo_17 : decode cX4_undo 17 = .ok (.aload_n 0, 1) := by decide +kernel
theorem dX4_undo_18 : decode cX4_undo 18 = .ok (.getfield 10, 3) := by decide +kernel
theorem dX4_undo_21 : decode cX4_undo 21 = .ok (.invokevirtual 212, 3) := by decide +kernel
theorem dX4_undo_24 : decode cX4_undo 24 = .ok (.aload_n 0, 1) := by decide +kernel
theorem dX4_undo_25 : decode cX4_undo 25 = .ok (.getfield 36, 3) := by decide +kernel
theorem dX4_undo_28 : decode cX4_undo 28 = .ok (.getfield 181, 3) := by decide +kernel
theorem dX4_undo_31 : decode cX4_undo 31 = .ok (.ireturn, 1) := by decide +kernel
set_option maxRecDepth 20000 in
theorem ggX4_save_X4_within : GoodIn wsX4_save wsX4_within := goodIn_r _ [8] (by decide +kernel) (by decide +kernel)
set_option maxRecDepth 20000 in
theorem gX4_save_X4_within : GoodIn wsX4_save (va_wsS RX4 48 yX4_within wsX4_within) := goodIn_app (goodIn_of _ (by decide +kernel)) ggX4_save_X4_within
set_option maxRecDepth 20000 in
theorem ggX4_save_X0_copyFrom : GoodIn wsX4_save wsX0_copyFrom := goodIn_r _ [13, 14, 15, 16, 17, 18, 19, 20, 28, 29, 30] (by decide +kernel) (by decide +kernel)
set_option maxRecDepth 20000 in
theorem gX4_save_X0_copyFrom : GoodIn wsX4_save (wsV RX4 129 RX0 yX0_copyFrom wsX0_copyFrom) := goodIn_app (goodIn_of _ (by decide +kernel)) ggX4_save_X0_copyFrom
theorem dX4_save_0 : decode cX4_save 0 = .ok (.iload_n 1, 1) := by decide +kernel
theorem dX4_save_1 : decode cX4_save 1 = .ok (.iconst 0, 1) := by decide +kernel
theorem dX4_save_2 : decode cX4_save 2 = .ok (.iconst 1, 1) := by decide +kernel
theorem dX4_save_3 : decode cX4_save 3 = .ok (.invokestatic 48, 3) := by decide +kernel
theorem dX4_save_6 : decode cX4_save 6 = .ok (.ifCond .ne 6, 3) := by decide +kernel
theorem dX4_save_9 : decode cX4_save 9 = .ok (.bipush (-2), 2) := by decide +kernel
theorem dX4_save_11 : decode cX4_save 11 = .ok (.ireturn, 1) := by decide +kernel
theorem dX4_save_12 : decode cX4_save 12 = .ok (.aload_n 0, 1) := by decide +kernel
theorem dX4_save_13 : decode cX4_save 13 = .ok (.getfield 40, 3) := by decide +kernel
theorem dX4_save_16 : decode cX4_save 16 = .ok (.iload_n 1, 1) := by decide +kernel
theorem dX4_save_17 : decode cX4_save 17 = .ok (.aaload, 1) := by decide +kernel
theorem dX4_save_18 : decode cX4_save 18 = .ok (.aload_n 0, 1) := by decide +kernel
theorem dX4_save_19 : decode cX4_save 19 = .ok (.getfield 10, 3) := by decide +kernel
theorem dX4_save_22 : decode cX4_save 22 = .ok (.invokevirtual 129, 3) := by decide +kernel
theorem dX4_save_25 : decode cX4_save 25 = .ok (.aload_n 0, 1) := by decide +kernel
theorem dX4_save_26 : decode cX4_save 26 = .ok (.getfield 44, 3) := by decide +kernel
theorem dX4_save_29 : decode cX4_save 29 = .ok (.iload_n 1, 1) := by decide +kernel
theorem dX4_save_30 : decode cX4_save 30 = .ok (.iconst 1, 1) := by decide +kernel
theorem dX4_save_31 : decode cX4_save 31 = .ok (.bastore, 1) := by decide +kernel
theorem dX4_save_32 : decode cX4_save 32 = .ok (.aload_n 0, 1) := by decide +kernel
theorem dX4_save_33 : decode cX4_save 33 = .ok (.getfield 10, 3) := by decide +kernel
theorem dX4_save_36 : decode cX4_save 36 = .ok (.getfield 74, 3) := by decide +kernel
theorem dX4_save_39 : decode cX4_save 39 = .ok (.ireturn, 1) := by decide +kernel
set_option maxRecDepth 20000 in
theorem ggX4_restore_X4_within : GoodIn wsX4_restore wsX4_within := goodIn_r _ [9] (by decide +kernel) (by decide +kernel)
set_option maxRecDepth 20000 in
theorem gX4_restore_X4_within : GoodIn wsX4_restore (va_wsS RX4 48 yX4_within wsX4_within) := goodIn_app (goodIn_of _ (by decide +kernel)) ggX4_restore_X4_within
set_option maxRecDepth 20000 in
theorem ggX4_restore_X1_remember : GoodIn wsX4_restore wsX1_remember := goodIn_r _ [14, 15, 16, 17, 18, 19, 20, 21, 22, 23, 24, 25, 26, 27, 28, 29, 30, 31, 32, 33, 45, 46, 47, 42, 43, 44] (by decide +kernel) (by decide +kernel)
set_option maxRecDepth 20000 in
theorem gX4_restore_X1_remember : GoodIn wsX4_restore (wsV RX4 66 RX1 yX1_remember wsX1_remember) := goodIn_app (goodIn_of _ (by decide +kernel)) ggX4_restore_X1_remember
set_option maxRecDepth 20000 in
theorem ggX4_restore_X0_copyFrom : GoodIn wsX4_restore wsX0_copyFrom := goodIn_r _ [26, 27, 28, 29, 30, 31, 32, 33, 42, 43, 44] (by decide +kernel) (by decide +kernel)
set_option maxRecDepth 20000 in
theorem gX4_restore_X0_copyFrom : GoodIn wsX4_restore (wsV RX4 129 RX0 yX0_copyFrom wsX0_copyFrom) := goodIn_app (goodIn_of _ (by decide +kernel)) ggX4_restore_X0_copyFrom
theorem dX4_restore_0 : decode cX4_restore 0 = .ok (.iload_n 1, 1) := by decide +kernel
theorem dX4_restore_1 : decode cX4_restore 1 = .ok (.iconst 0, 1) := by decide +kernel
theorem dX4_restore_2 : decode cX4_restore 2 = .ok (.iconst 1, 1) := by decide +kernel
theorem dX4_restore_3 : decode cX4_restore 3 = .ok (.invokestatic 48, 3) := by decide +kernel
theorem dX4_restore_6 : decode cX4_restore 6 = .ok (.ifCond .ne 6, 3) := by decide +kernel
theorem dX4_restore_9 : decode cX4_restore 9 = .ok (.bipush (-2), 2) := by decide +kernel
theorem dX4_restore_11 : decode cX4_restore 11 = .ok (.ireturn, 1) := by decide +kernel
theorem dX4_restore_12 : decode cX4_restore 12 = .ok (.aload_n 0, 1) := by decide +kernel
theorem dX4_restore_13 : decode cX4_restore 13 = .ok (.getfield 44, 3) := by decide +kernel
theorem dX4_restore_16 : decode cX4_restore 16 = .ok (.iload_n 1, 1) := by decide +kernel
theorem dX4_restore_17 : decode cX4_restore 17 = .ok (.baload, 1) := by decide +kernel
theorem dX4_restore_18 : decode cX4_restore 18 = .ok (.ifCond .ne 6, 3) := by decide +kernel
theorem dX4_restore_21 : decode cX4_restore 21 = .ok (.bipush (-5), 2) := by decide +kernel
theorem dX4_restore_23 : decode cX4_restore 23 = .ok (.ireturn, 1) := by decide +kernel
theorem dX4_restore_24 : decode cX4_restore 24 = .ok (.aload_n 0, 1) := by decide +kernel
theorem dX4_restore_25 : decode cX4_restore 25 = .ok (.getfield 36, 3) := by decide +kernel
theorem dX4_restore_28 : decode cX4_restore 28 = .ok (.aload_n 0, 1) := by decide +kernel
theorem dX4_restore_29 : decode cX4_restore 29 = .ok (.getfield 10, 3) := by decide +kernel
theorem dX4_restore_32 : decode cX4_restore 32 = .ok (.invokevirtual 66, 3) := by decide +kernel
theorem dX4_restore_35 : decode cX4_restore 35 = .ok (.aload_n 0, 1) := by decide +kernel
theorem dX4_restore_36 : decode cX4_restore 36 = .ok (.getfield 10, 3) := by decide +kernel
theorem dX4_restore_39 : decode cX4_restore 39 = .ok (.aload_n 0, 1) := by decide +kernel
theorem dX4_restore_40 : decode cX4_restore 40 = .ok (.getfield 40, 3) := by decide +kernel
theorem dX4_restore_43 : decode cX4_restore 43 = .ok (.iload_n 1, 1) := by decide +kernel
theorem dX4_restore_44 : decode cX4_restore 44 = .ok (.aaload, 1) := by decide +kernel
theorem dX4_restore_45 : decode cX4_restore 45 = .ok (.invokevirtual 129, 3) := by decide +kernel
theorem dX4_restore_48 : decode cX4_restore 48 = .ok (.aload_n 0, 1) := by decide +kernel
theorem dX4_restore_49 : decode cX4_restore 49 = .ok (.getfield 10, 3) := by decide +kernel
theorem dX4_restore_52 : decode cX4_restore 52 = .ok (.getfield 74, 3) := by decide +kernel
theorem dX4_restore_55 : decode cX4_restore 55 = .ok (.ireturn, 1) := by decide +kernel
theorem dX4_within_0 : decode cX4_within 0 = .ok (.iload_n 0, 1) := by decide +kernel
theorem dX4_within_1 : decode cX4_within 1 = .ok (.iload_n 1, 1) := by decide +kernel
theorem dX4_within_2 : decode cX4_within 2 = .ok (.if_icmp .lt 12, 3) := by decide +kernel
theorem dX4_within_5 : decode cX4_within 5 = .ok (.iload_n 0, 1) := by decide +kernel
theorem dX4_within_6 : decode cX4_within 6 = .ok (.iload_n 2, 1) := by decide +kernel
theorem dX4_within_7 : decode cX4_within 7 = .ok (.if_icmp .gt 7, 3) := by decide +kernel
theorem dX4_within_10 : decode cX4_within 10 = .ok (.iconst 1, 1) := by decide +kernel
theorem dX4_within_11 : decode cX4_within 11 = .ok (.goto 4, 3) := by decide +kernel
theorem dX4_within_14 : decode cX4_within 14 = .ok (.iconst 0, 1) := by decide +kernel
theorem dX4_within_15 : decode cX4_within 15 = .ok (.ireturn, 1) := by decide +kernel
set_option maxRecDepth 20000 in
theorem ggX4_isJob_X4_within : GoodIn wsX4_isJob wsX4_within := goodIn_r _ [6] (by decide +kernel) (by decide +kernel)
set_option maxRecDepth 20000 in
theorem gX4_isJob_X4_within : GoodIn wsX4_isJob (va_wsS RX4 48 yX4_within wsX4_within) := goodIn_app (goodIn_of _ (by decide +kernel)) ggX4_isJob_X4_within
theorem dX4_isJob_0 : decode cX4_isJob 0 = .ok (.iload_n 1, 1) := by decide +kernel
theorem dX4_isJob_1 : decode cX4_isJob 1 = .ok (.iconst 0, 1) := by decide +kernel
theorem dX4_isJob_2 : decode cX4_isJob 2 = .ok (.aload_n 0, 1) := by decide +kernel
theorem dX4_isJob_3 : decode cX4_isJob 3 = .ok (.getfield 10, 3) := by decide +kernel
theorem dX4_isJob_6 : decode cX4_isJob 6 = .ok (.getfield 74, 3) := by decide +kernel
theorem dX4_isJob_9 : decode cX4_isJob 9 = .ok (.iconst 1, 1) := by decide +kernel
theorem dX4_isJob_10 : decode cX4_isJob 10 = .ok (.isub, 1) := by decide +kernel
theorem dX4_isJob_11 : decode cX4_isJob 11 = .ok (.invokestatic 48, 3) := by decide +kernel
theorem dX4_isJob_14 : decode cX4_isJob 14 = .ok (.ireturn, 1) := by decide +kernel
theorem dX4_racksFor_0 : decode cX4_racksFor 0 = .ok (.iload_n 1, 1) := by decide +kernel
theorem dX4_racksFor_1 : decode cX4_racksFor 1 = .ok (.iconst 1, 1) := by decide +kernel
theorem dX4_racksFor_2 : decode cX4_racksFor 2 = .ok (.if_icmp .ge 7, 3) := by decide +kernel
theorem dX4_racksFor_5 : decode cX4_racksFor 5 = .ok (.iload_n 0, 1) := by decide +kernel
theorem dX4_racksFor_6 : decode cX4_racksFor 6 = .ok (.goto 10, 3) := by decide +kernel
theorem dX4_racksFor_9 : decode cX4_racksFor 9 = .ok (.iload_n 0, 1) := by decide +kernel
theorem dX4_racksFor_10 : decode cX4_racksFor 10 = .ok (.iload_n 1, 1) := by decide +kernel
theorem dX4_racksFor_11 : decode cX4_racksFor 11 = .ok (.iadd, 1) := by decide +kernel
theorem dX4_racksFor_12 : decode cX4_racksFor 12 = .ok (.iconst 1, 1) := by decide +kernel
theorem dX4_racksFor_13 : decode cX4_racksFor 13 = .ok (.isub, 1) := by decide +kernel
theorem dX4_racksFor_14 : decode cX4_racksFor 14 = .ok (.iload_n 1, 1) := by decide +kernel
theorem dX4_racksFor_15 : decode cX4_racksFor 15 = .ok (.idiv, 1) := by decide +kernel
theorem dX4_racksFor_16 : decode cX4_racksFor 16 = .ok (.ireturn, 1) := by decide +kernel
set_option maxRecDepth 20000 in
theorem ggX4_lateSumOf_X3_print : GoodIn wsX4_lateSumOf wsX3_print := goodIn_r _ [8, 9, 10, 11, 12, 13, 7, 14, 15, 16, 17, 18, 19, 20, 21, 22, 23, 24, 25, 26, 27, 28, 29, 30, 31, 32, 33, 34, 35, 36, 37, 38, 39, 40, 41, 42, 43, 44, 45, 46, 47, 48, 49, 50, 51, 52, 53, 54, 55, 56, 57, 58, 59, 67, 68, 69, 70, 71, 72, 73, 74, 75, 76, 77, 78, 79, 80, 81, 82, 83, 84, 85, 86, 87] (by decide +kernel) (by decide +kernel)
set_option maxRecDepth 20000 in
theorem gX4_lateSumOf_X3_print : GoodIn wsX4_lateSumOf (wsV RX4 115 RX3 yX3_print wsX3_print) := goodIn_app (goodIn_of _ (by decide +kernel)) ggX4_lateSumOf_X3_print
theorem dX4_lateSumOf_0 : decode cX4_lateSumOf 0 = .ok (.aload_n 0, 1) := by decide +kernel
theorem dX4_lateSumOf_1 : decode cX4_lateSumOf 1 = .ok (.getfield 22, 3) := by decide +kernel
theorem dX4_lateSumOf_4 : decode cX4_lateSumOf 4 = .ok (.aload_n 1, 1) := by decide +kernel
theorem dX4_lateSumOf_5 : decode cX4_lateSumOf 5 = .ok (.aload_n 1, 1) := by decide +kernel
theorem dX4_lateSumOf_6 : decode cX4_lateSumOf 6 = .ok (.getfield 59, 3) := by decide +kernel
theorem dX4_lateSumOf_9 : decode cX4_lateSumOf 9 = .ok (.iconst 5, 1) := by decide +kernel
theorem dX4_lateSumOf_10 : decode cX4_lateSumOf 10 = .ok (.iaload, 1) := by decide +kernel
theorem dX4_lateSumOf_11 : decode cX4_lateSumOf 11 = .ok (.invokevirtual 115, 3) := by decide +kernel
theorem dX4_lateSumOf_14 : decode cX4_lateSumOf 14 = .ok (.aload_n 0, 1) := by decide +kernel
theorem dX4_lateSumOf_15 : decode cX4_lateSumOf 15 = .ok (.getfield 22, 3) := by decide +kernel
theorem dX4_lateSumOf_18 : decode cX4_lateSumOf 18 = .ok (.getfield 163, 3) := by decide +kernel
theorem dX4_lateSumOf_21 : decode cX4_lateSumOf 21 = .ok (.ireturn, 1) := by decide +kernel
set_option maxRecDepth 20000 in
theorem ggX4_lateSumIfExchanged_X0_exchange : GoodIn wsX4_lateSumIfExchanged wsX0_exchange := goodIn_r _ [6, 7, 78, 79, 80] (by decide +kernel) (by decide +kernel)
set_option maxRecDepth 20000 in
theorem gX4_lateSumIfExchanged_X0_exchange : GoodIn wsX4_lateSumIfExchanged (wsV RX4 215 RX0 yX0_exchange wsX0_exchange) := goodIn_app (goodIn_of _ (by decide +kernel)) ggX4_lateSumIfExchanged_X0_exchange
set_option maxRecDepth 20000 in
theorem ggX4_lateSumIfExchanged_X4_lateSumOf : GoodIn wsX4_lateSumIfExchanged wsX4_lateSumOf := goodIn_r _ [12, 13, 14, 15, 16, 17, 18, 19, 20, 21, 22, 23, 24, 25, 26, 27, 28, 29, 30, 31, 32, 33, 34, 35, 36, 37, 38, 39, 40, 41, 42, 43, 44, 45, 46, 47, 48, 49, 50, 51, 52, 53, 54, 55, 11, 56, 57, 58, 59, 60, 61, 62, 63, 64, 65, 66, 67, 68, 69, 70, 71, 72, 73, 74, 75, 76, 77, 78, 79, 80, 81, 82, 83, 84, 85, 86, 87, 88, 89, 90, 91, 92, 93, 94, 95, 96, 97, 98] (by decide +kernel) (by decide +kernel)
set_option maxRecDepth 20000 in
theorem gX4_lateSumIfExchanged_X4_lateSumOf : GoodIn wsX4_lateSumIfExchanged (wsV RX4 107 RX4 yX4_lateSumOf wsX4_lateSumOf) := goodIn_app (goodIn_of _ (by decide +kernel)) ggX4_lateSumIfExchanged_X4_lateSumOf
theorem dX4_lateSumIfExchanged_0 : decode cX4_lateSumIfExchanged 0 = .ok (.aload_n 0, 1) := by decide +kernel
theorem dX4_lateSumIfExchanged_1 : decode cX4_lateSumIfExchanged 1 = .ok (.getfield 16, 3) := by decide +kernel
theorem dX4_lateSumIfExchanged_4 : decode cX4_lateSumIfExchanged 4 = .ok (.iload_n 1, 1) := by decide +kernel
theorem dX4_lateSumIfExchanged_5 : decode cX4_lateSumIfExchanged 5 = .ok (.iload_n 2, 1) := by decide +kernel
theorem dX4_lateSumIfExchanged_6 : decode cX4_lateSumIfExchanged 6 = .ok (.invokevirtual 215, 3) := by decide +kernel
theorem dX4_lateSumIfExchanged_9 : decode cX4_lateSumIfExchanged 9 = .ok (.aload_n 0, 1) := by decide +kernel
theorem dX4_lateSumIfExchanged_10 : decode cX4_lateSumIfExchanged 10 = .ok (.aload_n 0, 1) := by decide +kernel
theorem dX4_lateSumIfExchanged_11 : decode cX4_lateSumIfExchanged 11 = .ok (.getfield 16, 3) := by decide +kernel
theorem dX4_lateSumIfExchanged_14 : decode cX4_lateSumIfExchanged 14 = .ok (.invokevirtual 107, 3) := by decide +kernel
theorem dX4_lateSumIfExchanged_17 : decode cX4_lateSumIfExchanged 17 = .ok (.istore_n 3, 1) := by decide +kernel
theorem dX4_lateSumIfExchanged_18 : decode cX4_lateSumIfExchanged 18 = .ok (.aload_n 0, 1) := by decide +kernel
theorem dX4_lateSumIfExchanged_19 : decode cX4_lateSumIfExchanged 19 = .ok (.getfield 16, 3) := by decide +kernel
theorem dX4_lateSumIfExchanged_22 : decode cX4_lateSumIfExchanged 22 = .ok (.iload_n 1, 1) := by decide +kernel
theorem dX4_lateSumIfExchanged_23 : decode cX4_lateSumIfExchanged 23 = .ok (.iload_n 2, 1) := by decide +kernel
theorem dX4_lateSumIfExchanged_24 : decode cX4_lateSumIfExchanged 24 = .ok (.invokevirtual 215, 3) := by decide +kernel
theorem dX4_lateSumIfExchanged_27 : decode cX4_lateSumIfExchanged 27 = .ok (.iload_n 3, 1) := by decide +kernel
theorem dX4_lateSumIfExchanged_28 : decode cX4_lateSumIfExchanged 28 = .ok (.ireturn, 1) := by decide +kernel
set_option maxRecDepth 20000 in
theorem ggX4_lateSumIfFirst_X0_shift : GoodIn wsX4_lateSumIfFirst wsX0_shift := goodIn_r _ [6, 7, 78, 79, 80] (by decide +kernel) (by decide +kernel)
set_option maxRecDepth 20000 in
theorem gX4_lateSumIfFirst_X0_shift : GoodIn wsX4_lateSumIfFirst (wsV RX4 103 RX0 yX0_shift wsX0_shift) := goodIn_app (goodIn_of _ (by decide +kernel)) ggX4_lateSumIfFirst_X0_shift
set_option maxRecDepth 20000 in
theorem ggX4_lateSumIfFirst_X4_lateSumOf : GoodIn wsX4_lateSumIfFirst wsX4_lateSumOf := goodIn_r _ [12, 13, 14, 15, 16, 17, 18, 19, 20, 21, 22, 23, 24, 25, 26, 27, 28, 29, 30, 31, 32, 33, 34, 35, 36, 37, 38, 39, 40, 41, 42, 43, 44, 45, 46, 47, 48, 49, 50, 51, 52, 53, 54, 55, 11, 56, 57, 58, 59, 60, 61, 62, 63, 64, 65, 66, 67, 68, 69, 70, 71, 72, 73, 74, 75, 76, 77, 78, 79, 80, 81, 82, 83, 84, 85, 86, 87, 88, 89, 90, 91, 92, 93, 94, 95, 96, 97, 98] (by decide +kernel) (by decide +kernel)
set_option maxRecDepth 20000 in
theorem gX4_lateSumIfFirst_X4_lateSumOf : GoodIn wsX4_lateSumIfFirst (wsV RX4 107 RX4 yX4_lateSumOf wsX4_lateSumOf) := goodIn_app (goodIn_of _ (by decide +kernel)) ggX4_lateSumIfFirst_X4_lateSumOf
theorem dX4_lateSumIfFirst_0 : decode cX4_lateSumIfFirst 0 = .ok (.aload_n 0, 1) := by decide +kernel
theorem dX4_lateSumIfFirst_1 : decode cX4_lateSumIfFirst 1 = .ok (.getfield 16, 3) := by decide +kernel
theorem dX4_lateSumIfFirst_4 : decode cX4_lateSumIfFirst 4 = .ok (.iload_n 1, 1) := by decide +kernel
theorem dX4_lateSumIfFirst_5 : decode cX4_lateSumIfFirst 5 = .ok (.iconst 0, 1) := by decide +kernel
theorem dX4_lateSumIfFirst_6 : decode cX4_lateSumIfFirst 6 = .ok (.invokevirtual 103, 3) := by decide +kernel
theorem dX4_lateSumIfFirst_9 : decode cX4_lateSumIfFirst 9 = .ok (.aload_n 0, 1) := by decide +kernel
theorem dX4_lateSumIfFirst_10 : decode cX4_lateSumIfFirst 10 = .ok (.aload_n 0, 1) := by decide +kernel
theorem dX4_lateSumIfFirst_11 : decode cX4_lateSumIfFirst 11 = .ok (.getfield 16, 3) := by decide +kernel
theorem dX4_lateSumIfFirst_14 : decode cX4_lateSumIfFirst 14 = .ok (.invokevirtual 107, 3) := by decide +kernel
theorem dX4_lateSumIfFirst_17 : decode cX4_lateSumIfFirst 17 = .ok (.istore_n 2, 1) := by decide +kernel
theorem dX4_lateSumIfFirst_18 : decode cX4_lateSumIfFirst 18 = .ok (.aload_n 0, 1) := by decide +kernel
theorem dX4_lateSumIfFirst_19 : decode cX4_lateSumIfFirst 19 = .ok (.getfield 16, 3) := by decide +kernel
theorem dX4_lateSumIfFirst_22 : decode cX4_lateSumIfFirst 22 = .ok (.iconst 0, 1) := by decide +kernel
theorem dX4_lateSumIfFirst_23 : decode cX4_lateSumIfFirst 23 = .ok (.iload_n 1, 1) := by decide +kernel
theorem dX4_lateSumIfFirst_24 : decode cX4_lateSumIfFirst 24 = .ok (.invokevirtual 103, 3) := by decide +kernel
theorem dX4_lateSumIfFirst_27 : decode cX4_lateSumIfFirst 27 = .ok (.iload_n 2, 1) := by decide +kernel
theorem dX4_lateSumIfFirst_28 : decode cX4_lateSumIfFirst 28 = .ok (.ireturn, 1) := by decide +kernel
set_option maxRecDepth 20000 in
theorem ggX4_charactersIn_X4_within : GoodIn wsX4_charactersIn wsX4_within := goodIn_r _ [5] (by decide +kernel) (by decide +kernel)
set_option maxRecDepth 20000 in
theorem gX4_charactersIn_X4_within : GoodIn wsX4_charactersIn (va_wsS RX4 48 yX4_within wsX4_within) := goodIn_app (goodIn_of _ (by decide +kernel)) ggX4_charactersIn_X4_within
theorem dX4_charactersIn_0 : decode cX4_charactersIn 0 = .ok (.lload_n 0, 1) := by decide +kernel
theorem dX4_charactersIn_1 : decode cX4_charactersIn 1 = .ok (.lstore_n 2, 1) := by decide +kernel
theorem dX4_charactersIn_2 : decode cX4_charactersIn 2 = .ok (.iconst 0, 1) := by decide +kernel
theorem dX4_charactersIn_3 : decode cX4_charactersIn 3 = .ok (.istore 4, 2) := by decide +kernel
theorem dX4_charactersIn_5 : decode cX4_charactersIn 5 = .ok (.iload 4, 2) := by decide +kernel
theorem dX4_charactersIn_7 : decode cX4_charactersIn 7 = .ok (.bipush 8, 2) := by decide +kernel
theorem dX4_charactersIn_9 : decode cX4_charactersIn 9 = .ok (.if_icmp .ge 39, 3) := by decide +kernel
theorem dX4_charactersIn_12 : decode cX4_charactersIn 12 = .ok (.lload_n 2, 1) := by decide +kernel
theorem dX4_charactersIn_13 : decode cX4_charactersIn 13 = .ok (.lconst 0, 1) := by decide +kernel
theorem dX4_charactersIn_14 : decode cX4_charactersIn 14 = .ok (.lcmp, 1) := by decide +kernel
theorem dX4_charactersIn_15 : decode cX4_charactersIn 15 = .ok (.ifCond .eq 33, 3) := by decide +kernel
theorem dX4_charactersIn_18 : decode cX4_charactersIn 18 = .ok (.lload_n 2, 1) := by decide +kernel
theorem dX4_charactersIn_19 : decode cX4_charactersIn 19 = .ok (.ldc2_w 218, 3) := by decide +kernel
theorem dX4_charactersIn_22 : decode cX4_charactersIn 22 = .ok (.land, 1) := by decide +kernel
theorem dX4_charactersIn_23 : decode cX4_charactersIn 23 = .ok (.l2i, 1) := by decide +kernel
theorem dX4_charactersIn_24 : decode cX4_charactersIn 24 = .ok (.bipush 33, 2) := by decide +kernel
theorem dX4_charactersIn_26 : decode cX4_charactersIn 26 = .ok (.bipush 126, 2) := by decide +kernel
theorem dX4_charactersIn_28 : decode cX4_charactersIn 28 = .ok (.invokestatic 48, 3) := by decide +kernel
theorem dX4_charactersIn_31 : decode cX4_charactersIn 31 = .ok (.ifCond .ne 6, 3) := by decide +kernel
theorem dX4_charactersIn_34 : decode cX4_charactersIn 34 = .ok (.bipush (-2), 2) := by decide +kernel
theorem dX4_charactersIn_36 : decode cX4_charactersIn 36 = .ok (.ireturn, 1) := by decide +kernel
theorem dX4_charactersIn_37 : decode cX4_charactersIn 37 = .ok (.lload_n 2, 1) := by decide +kernel
theorem dX4_charactersIn_38 : decode cX4_charactersIn 38 = .ok (.bipush 8, 2) := by decide +kernel
theorem dX4_charactersIn_40 : decode cX4_charactersIn 40 = .ok (.lushr, 1) := by decide +kernel
theorem dX4_charactersIn_41 : decode cX4_charactersIn 41 = .ok (.lstore_n 2, 1) := by decide +kernel
theorem dX4_charactersIn_42 : decode cX4_charactersIn 42 = .ok (.iinc 4 1, 3) := by decide +kernel
theorem dX4_charactersIn_45 : decode cX4_charactersIn 45 = .ok (.goto (-40), 3) := by decide +kernel
theorem dX4_charactersIn_48 : decode cX4_charactersIn 48 = .ok (.iload 4, 2) := by decide +kernel
theorem dX4_charactersIn_50 : decode cX4_charactersIn 50 = .ok (.ifCond .ne 8, 3) := by decide +kernel
theorem dX4_charactersIn_53 : decode cX4_charactersIn 53 = .ok (.bipush (-2), 2) := by decide +kernel
theorem dX4_charactersIn_55 : decode cX4_charactersIn 55 = .ok (.goto 5, 3) := by decide +kernel
theorem dX4_charactersIn_58 : decode cX4_charactersIn 58 = .ok (.iload 4, 2) := by decide +kernel
theorem dX4_charactersIn_60 : decode cX4_charactersIn 60 = .ok (.ireturn, 1) := by decide +kernel
end
section
theorem dX5_init_0 : decode cX5_init 0 = .ok (.aload_n 0, 1) := by decide +kernel
theorem dX5_init_1 : decode cX5_init 1 = .ok (.invokespecial 1, 3) := by decide +kernel
theorem dX5_init_4 : decode cX5_init 4 = .ok (.aload_n 0, 1) := by decide +kernel
theorem dX5_init_5 : decode cX5_init 5 = .ok (.bipush 56, 2) := by decide +kernel
theorem dX5_init_7 : decode cX5_init 7 = .ok (.newarray .int, 2) := by decide +kernel
theorem dX5_init_9 : decode cX5_init 9 = .ok (.putfield 7, 3) := by decide +kernel
theorem dX5_init_12 : decode cX5_init 12 = .ok (.aload_n 0, 1) := by decide +kernel
theorem dX5_init_13 : decode cX5_init 13 = .ok (.bipush 56, 2) := by decide +kernel
theorem dX5_init_15 : decode cX5_init 15 = .ok (.newarray .int, 2) := by decide +kernel
theorem dX5_init_17 : decode cX5_init 17 = .ok (.putfield 13, 3) := by decide +kernel
theorem dX5_init_20 : decode cX5_init 20 = .ok (.aload_n 0, 1) := by decide +kernel
theorem dX5_init_21 : decode cX5_init 21 = .ok (.sipush 336, 3) := by decide +kernel
theorem dX5_init_24 : decode cX5_init 24 = .ok (.newarray .int, 2) := by decide +kernel
theorem dX5_init_26 : decode cX5_init 26 = .ok (.putfield 16, 3) := by decide +kernel
theorem dX5_init_29 : decode cX5_init 29 = .ok (.aload_n 0, 1) := by decide +kernel
theorem dX5_init_30 : decode cX5_init 30 = .ok (.bipush 112, 2) := by decide +kernel
theorem dX5_init_32 : decode cX5_init 32 = .ok (.newarray .int, 2) := by decide +kernel
theorem dX5_init_34 : decode cX5_init 34 = .ok (.putfield 19, 3) := by decide +kernel
theorem dX5_init_37 : decode cX5_init 37 = .ok (.aload_n 0, 1) := by decide +kernel
theorem dX5_init_38 : decode cX5_init 38 = .ok (.iconst 2, 1) := by decide +kernel
theorem dX5_init_39 : decode cX5_init 39 = .ok (.newarray .int, 2) := by decide +kernel
theorem dX5_init_41 : decode cX5_init 41 = .ok (.putfield 22, 3) := by decide +kernel
theorem dX5_init_44 : decode cX5_init 44 = .ok (.aload_n 0, 1) := by decide +kernel
theorem dX5_init_45 : decode cX5_init 45 = .ok (.bipush 12, 2) := by decide +kernel
theorem dX5_init_47 : decode cX5_init 47 = .ok (.newarray .int, 2) := by decide +kernel
theorem dX5_init_49 : decode cX5_init 49 = .ok (.putfield 25, 3) := by decide +kernel
theorem dX5_init_52 : decode cX5_init 52 = .ok (.aload_n 0, 1) := by decide +kernel
theorem dX5_init_53 : decode cX5_init 53 = .ok (.bipush 12, 2) := by decide +kernel
theorem dX5_init_55 : decode cX5_init 55 = .ok (.newarray .int, 2) := by decide +kernel
theorem dX5_init_57 : decode cX5_init 57 = .ok (.putfield 28, 3) := by decide +kernel
theorem dX5_init_60 : decode cX5_init 60 = .ok (.aload_n 0, 1) := by decide +kernel
theorem dX5_init_61 : decode cX5_init 61 = .ok (.bipush 12, 2) := by decide +kernel
theorem dX5_init_63 : decode cX5_init 63 = .ok (.newarray .int, 2) := by decide +kernel
theorem dX5_init_65 : decode cX5_init 65 = .ok (.putfield 31, 3) := by decide +kernel
theorem dX5_init_68 : decode cX5_init 68 = .ok (.aload_n 0, 1) := by decide +kernel
theorem dX5_init_69 : decode cX5_init 69 = .ok (.bipush 60, 2) := by decide +kernel
theorem dX5_init_71 : decode cX5_init 71 = .ok (.newarray .int, 2) := by decide +kernel
theorem dX5_init_73 : decode cX5_init 73 = .ok (.putfield 34, 3) := by decide +kernel
theorem dX5_init_76 : decode cX5_init 76 = .ok (.aload_n 0, 1) := by decide +kernel
theorem dX5_init_77 : decode cX5_init 77 = .ok (.bipush 60, 2) := by decide +kernel
theorem dX5_init_79 : decode cX5_init 79 = .ok (.newarray .int, 2) := by decide +kernel
theorem dX5_init_81 : decode cX5_init 81 = .ok (.putfield 37, 3) := by decide +kernel
theorem dX5_init_84 : decode cX5_init 84 = .ok (.aload_n 0, 1) := by decide +kernel
theorem dX5_init_85 : decode cX5_init 85 = .ok (.getfield 7, 3) := by decide +kernel
theorem dX5_init_88 : decode cX5_init 88 = .ok (.iconst 0, 1) := by decide +kernel
theorem dX5_init_89 : decode cX5_init 89 = .ok (.bipush 10, 2) := by decide +kernel
theorem dX5_init_91 : decode cX5_init 91 = .ok (.iastore, 1) := by decide +kernel
theorem dX5_init_92 : decode cX5_init 92 = .ok (.aload_n 0, 1) := by decide +kernel
theorem dX5_init_93 : decode cX5_init 93 = .ok (.getfield 7, 3) := by decide +kernel
theorem dX5_init_96 : decode cX5_init 96 = .ok (.iconst 1, 1) := by decide +kernel
theorem dX5_init_97 : decode cX5_init 97 = .ok (.bipush 15, 2) := by decide +kernel
theorem dX5_init_99 : decode cX5_init 99 = .ok (.iastore, 1) := by decide +kernel
theorem dX5_init_100 : decode cX5_init 100 = .ok (.aload_n 0, 1) := by decide +kernel
theorem dX5_init_101 : decode cX5_init 101 = .ok (.getfield 7, 3) := by decide +kernel
theorem dX5_init_104 : decode cX5_init 104 = .ok (.iconst 2, 1) := by decide +kernel
theorem dX5_init_105 : decode cX5_init 105 = .ok (.iconst 2, 1) := by decide +kernel
theorem dX5_init_106 : decode cX5_init 106 = .ok (.iastore, 1) := by decide +kernel
theorem dX5_init_107 : decode cX5_init 107 = .ok (.aload_n 0, 1) := by decide +kernel
theorem dX5_init_108 : decode cX5_init 108 = .ok (.getfield 7, 3) := by decide +kernel
theorem dX5_init_111 : decode cX5_init 111 = .ok (.iconst 3, 1) := by decide +kernel
theorem dX5_init_112 : decode cX5_init 112 = .ok (.iconst 4, 1) := by decide +kernel
theorem dX5_init_113 : decode cX5_init 113 = .ok (.iastore, 1) := by decide +kernel
theorem dX5_init_114 : decode cX5_init 114 = .ok (.aload_n 0, 1) := by decide +kernel
theorem dX5_init_115 : decode cX5_init 115 = .ok (.getfield 7, 3) := by decide +kernel
theorem dX5_init_118 : decode cX5_init 118 = .ok (.iconst 4, 1) := by decide +kernel
theorem dX5_init_119 : decode cX5_init 119 = .ok (.bipush 60, 2) := by decide +kernel
theorem dX5_init_121 : decode cX5_init 121 = .ok (.iastore, 1) := by decide +kernel
theorem dX5_init_122 : decode cX5_init 122 = .ok (.aload_n 0, 1) := by decide +kernel
theorem dX5_init_123 : decode cX5_init 123 = .ok (.getfield 7, 3) := by decide +kernel
theorem dX5_init_126 : decode cX5_init 126 = .ok (.iconst 5, 1) := by decide +kernel
theorem dX5_init_127 : decode cX5_init 127 = .ok (.bipush 8, 2) := by decide +kernel
theorem dX5_init_129 : decode cX5_init 129 = .ok (.iastore, 1) := by decide +kernel
theorem dX5_init_130 : decode cX5_init 130 = .ok (.aload_n 0, 1) := by decide +kernel
theorem dX5_init_131 : decode cX5_init 131 = .ok (.getfield 7, 3) := by decide +kernel
theorem dX5_init_134 : decode cX5_init 134 = .ok (.bipush 6, 2) := by decide +kernel
theorem dX5_init_136 : decode cX5_init 136 = .ok (.iconst 5, 1) := by decide +kernel
theorem dX5_init_137 : decode cX5_init 137 = .ok (.iastore, 1) := by decide +kernel
theorem dX5_init_138 : decode cX5_init 138 = .ok (.return_, 1) := by decide +kernel
theorem dX5_in_0 : decode cX5_in 0 = .ok (.lload_n 0, 1) := by decide +kernel
theorem dX5_in_1 : decode cX5_in 1 = .ok (.lload_n 2, 1) := by decide +kernel
theorem dX5_in_2 : decode cX5_in 2 = .ok (.lcmp, 1) := by decide +kernel
theorem dX5_in_3 : decode cX5_in 3 = .ok (.ifCond .lt 14, 3) := by decide +kernel
theorem dX5_in_6 : decode cX5_in 6 = .ok (.lload_n 0, 1) := by decide +kernel
theorem dX5_in_7 : decode cX5_in 7 = .ok (.lload 4, 2) := by decide +kernel
theorem dX5_in_9 : decode cX5_in 9 = .ok (.lcmp, 1) := by decide +kernel
theorem dX5_in_10 : decode cX5_in 10 = .ok (.ifCond .gt 7, 3) := by decide +kernel
theorem dX5_in_13 : decode cX5_in 13 = .ok (.iconst 1, 1) := by decide +kernel
theorem dX5_in_14 : decode cX5_in 14 = .ok (.goto 4, 3) := by decide +kernel
theorem dX5_in_17 : decode cX5_in 17 = .ok (.iconst 0, 1) := by decide +kernel
theorem dX5_in_18 : decode cX5_in 18 = .ok (.ireturn, 1) := by decide +kernel
theorem dX5_changes_0 : decode cX5_changes 0 = .ok (.aload_n 0, 1) := by decide +kernel
theorem dX5_changes_1 : decode cX5_changes 1 = .ok (.getfield 40, 3) := by decide +kernel
theorem dX5_changes_4 : decode cX5_changes 4 = .ok (.bipush 6, 2) := by decide +kernel
theorem dX5_changes_6 : decode cX5_changes 6 = .ok (.if_icmp .ne 43, 3) := by decide +kernel
theorem dX5_changes_9 : decode cX5_changes 9 = .ok (.iconst 0, 1) := by decide +kernel
theorem dX5_changes_10 : decode cX5_changes 10 = .ok (.istore_n 1, 1) := by decide +kernel
theorem dX5_changes_11 : decode cX5_changes 11 = .ok (.iload_n 1, 1) := by decide +kernel
theorem dX5_changes_12 : decode cX5_changes 12 = .ok (.sipush 280, 3) := by decide +kernel
theorem dX5_changes_15 : decode cX5_changes 15 = .ok (.if_icmp .ge 24, 3) := by decide +kernel
theorem dX5_changes_18 : decode cX5_changes 18 = .ok (.aload_n 0, 1) := by decide +kernel
theorem dX5_changes_19 : decode cX5_changes 19 = .ok (.getfield 16, 3) := by decide +kernel
theorem dX5_changes_22 : decode cX5_changes 22 = .ok (.iload_n 1, 1) := by decide +kernel
theorem dX5_changes_23 : decode cX5_changes 23 = .ok (.aload_n 0, 1) := by decide +kernel
theorem dX5_changes_24 : decode cX5_changes 24 = .ok (.getfield 16, 3) := by decide +kernel
theorem dX5_changes_27 : decode cX5_changes 27 = .ok (.iload_n 1, 1) := by decide +kernel
theorem dX5_changes_28 : decode cX5_changes 28 = .ok (.bipush 56, 2) := by decide +kernel
theorem dX5_changes_30 : decode cX5_changes 30 = .ok (.iadd, 1) := by decide +kernel
theorem dX5_changes_31 : decode cX5_changes 31 = .ok (.iaload, 1) := by decide +kernel
theorem dX5_changes_32 : decode cX5_changes 32 = .ok (.iastore, 1) := by decide +kernel
theorem dX5_changes_33 : decode cX5_changes 33 = .ok (.iinc 1 1, 3) := by decide +kernel
theorem dX5_changes_36 : decode cX5_changes 36 = .ok (.goto (-25), 3) := by decide +kernel
theorem dX5_changes_39 : decode cX5_changes 39 = .ok (.aload_n 0, 1) := by decide +kernel
theorem dX5_changes_40 : decode cX5_changes 40 = .ok (.dup, 1) := by decide +kernel
theorem dX5_changes_41 : decode cX5_changes 41 = .ok (.getfield 40, 3) := by decide +kernel
theorem dX5_changes_44 : decode cX5_changes 44 = .ok (.iconst 1, 1) := by decide +kernel
theorem dX5_changes_45 : decode cX5_changes 45 = .ok (.isub, 1) := by decide +kernel
theorem dX5_changes_46 : decode cX5_changes 46 = .ok (.putfield 40, 3) := by decide +kernel
theorem dX5_changes_49 : decode cX5_changes 49 = .ok (.iconst 0, 1) := by decide +kernel
theorem dX5_changes_50 : decode cX5_changes 50 = .ok (.istore_n 1, 1) := by decide +kernel
theorem dX5_changes_51 : decode cX5_changes 51 = .ok (.iload_n 1, 1) := by decide +kernel
theorem dX5_changes_52 : decode cX5_changes 52 = .ok (.bipush 56, 2) := by decide +kernel
theorem dX5_changes_54 : decode cX5_changes 54 = .ok (.if_icmp .ge 29, 3) := by decide +kernel
theorem dX5_changes_57 : decode cX5_changes 57 = .ok (.aload_n 0, 1) := by decide +kernel
theorem dX5_changes_58 : decode cX5_changes 58 = .ok (.getfield 16, 3) := by decide +kernel
theorem dX5_changes_61 : decode cX5_changes 61 = .ok (.bipush 56, 2) := by decide +kernel
theorem dX5_changes_63 : decode cX5_changes 63 = .ok (.aload_n 0, 1) := by decide +kernel
theorem dX5_changes_64 : decode cX5_changes 64 = .ok (.getfield 40, 3) := by decide +kernel
theorem dX5_changes_67 : decode cX5_changes 67 = .ok (.imul, 1) := by decide +kernel
theorem dX5_changes_68 : decode cX5_changes 68 = .ok (.iload_n 1, 1) := by decide +kernel
theorem dX5_changes_69 : decode cX5_changes 69 = .ok (.iadd, 1) := by decide +kernel
theorem dX5_changes_70 : decode cX5_changes 70 = .ok (.aload_n 0, 1) := by decide +kernel
theorem dX5_changes_71 : decode cX5_changes 71 = .ok (.getfield 7, 3) := by decide +kernel
theorem dX5_changes_74 : decode cX5_changes 74 = .ok (.iload_n 1, 1) := by decide +kernel
theorem dX5_changes_75 : decode cX5_changes 75 = .ok (.iaload, 1) := by decide +kernel
theorem dX5_changes_76 : decode cX5_changes 76 = .ok (.iastore, 1) := by decide +kernel
theorem dX5_changes_77 : decode cX5_changes 77 = .ok (.iinc 1 1, 3) := by decide +kernel
theorem dX5_changes_80 : decode cX5_changes 80 = .ok (.goto (-29), 3) := by decide +kernel
theorem dX5_changes_83 : decode cX5_changes 83 = .ok (.aload_n 0, 1) := by decide +kernel
theorem dX5_changes_84 : decode cX5_changes 84 = .ok (.dup, 1) := by decide +kernel
theorem dX5_changes_85 : decode cX5_changes 85 = .ok (.getfield 40, 3) := by decide +kernel
theorem dX5_changes_88 : decode cX5_changes 88 = .ok (.iconst 1, 1) := by decide +kernel
theorem dX5_changes_89 : decode cX5_changes 89 = .ok (.iadd, 1) := by decide +kernel
theorem dX5_changes_90 : decode cX5_changes 90 = .ok (.putfield 40, 3) := by decide +kernel
theorem dX5_changes_93 : decode cX5_changes 93 = .ok (.return_, 1) := by decide +kernel
theorem dX5_keeps_0 : decode cX5_keeps 0 = .ok (.iconst 0, 1) := by decide +kernel
theorem dX5_keeps_1 : decode cX5_keeps 1 = .ok (.istore_n 1, 1) := by decide +kernel
theorem dX5_keeps_2 : decode cX5_keeps 2 = .ok (.iload_n 1, 1) := by decide +kernel
theorem dX5_keeps_3 : decode cX5_keeps 3 = .ok (.bipush 56, 2) := by decide +kernel
theorem dX5_keeps_5 : decode cX5_keeps 5 = .ok (.if_icmp .ge 21, 3) := by decide +kernel
theorem dX5_keeps_8 : decode cX5_keeps 8 = .ok (.aload_n 0, 1) := by decide +kernel
theorem dX5_keeps_9 : decode cX5_keeps 9 = .ok (.getfield 13, 3) := by decide +kernel
theorem dX5_keeps_12 : decode cX5_keeps 12 = .ok (.iload_n 1, 1) := by decide +kernel
theorem dX5_keeps_13 : decode cX5_keeps 13 = .ok (.aload_n 0, 1) := by decide +kernel
theorem dX5_keeps_14 : decode cX5_keeps 14 = .ok (.getfield 7, 3) := by decide +kernel
theorem dX5_keeps_17 : decode cX5_keeps 17 = .ok (.iload_n 1, 1) := by decide +kernel
theorem dX5_keeps_18 : decode cX5_keeps 18 = .ok (.iaload, 1) := by decide +kernel
theorem dX5_keeps_19 : decode cX5_keeps 19 = .ok (.iastore, 1) := by decide +kernel
theorem dX5_keeps_20 : decode cX5_keeps 20 = .ok (.iinc 1 1, 3) := by decide +kernel
theorem dX5_keeps_23 : decode cX5_keeps 23 = .ok (.goto (-21), 3) := by decide +kernel
theorem dX5_keeps_26 : decode cX5_keeps 26 = .ok (.return_, 1) := by decide +kernel
theorem dX5_comesBack_0 : decode cX5_comesBack 0 = .ok (.iconst 0, 1) := by decide +kernel
theorem dX5_comesBack_1 : decode cX5_comesBack 1 = .ok (.istore_n 1, 1) := by decide +kernel
theorem dX5_comesBack_2 : decode cX5_comesBack 2 = .ok (.iload_n 1, 1) := by decide +kernel
theorem dX5_comesBack_3 : decode cX5_comesBack 3 = .ok (.bipush 56, 2) := by decide +kernel
theorem dX5_comesBack_5 : decode cX5_comesBack 5 = .ok (.if_icmp .ge 21, 3) := by decide +kernel
theorem dX5_comesBack_8 : decode cX5_comesBack 8 = .ok (.aload_n 0, 1) := by decide +kernel
theorem dX5_comesBack_9 : decode cX5_comesBack 9 = .ok (.getfield 7, 3) := by decide +kernel
theorem dX5_comesBack_12 : decode cX5_comesBack 12 = .ok (.iload_n 1, 1) := by decide +kernel
theorem dX5_comesBack_13 : decode cX5_comesBack 13 = .ok (.aload_n 0, 1) := by decide +kernel
theorem dX5_comesBack_14 : decode cX5_comesBack 14 = .ok (.getfield 13, 3) := by decide +kernel
theorem dX5_comesBack_17 : decode cX5_comesBack 17 = .ok (.iload_n 1, 1) := by decide +kernel
theorem dX5_comesBack_18 : decode cX5_comesBack 18 = .ok (.iaload, 1) := by decide +kernel
theorem dX5_comesBack_19 : decode cX5_comesBack 19 = .ok (.iastore, 1) := by decide +kernel
theorem dX5_comesBack_20 : decode cX5_comesBack 20 = .ok (.iinc 1 1, 3) := by decide +kernel
theorem dX5_comesBack_23 : decode cX5_comesBack 23 = .ok (.goto (-21), 3) := by decide +kernel
theorem dX5_comesBack_26 : decode cX5_comesBack 26 = .ok (.return_, 1) := by decide +kernel
set_option maxRecDepth 20000 in
theorem ggX5_isJob_X5_in : GoodIn wsX5_isJob wsX5_in := goodIn_r _ [5] (by decide +kernel) (by decide +kernel)
set_option maxRecDepth 20000 in
theorem gX5_isJob_X5_in : GoodIn wsX5_isJob (va_wsS RX5 44 yX5_in wsX5_in) := goodIn_app (goodIn_of _ (by decide +kernel)) ggX5_isJob_X5_in
theorem dX5_isJob_0 : decode cX5_isJob 0 = .ok (.iload_n 1, 1) := by decide +kernel
theorem dX5_isJob_1 : decode cX5_isJob 1 = .ok (.i2l, 1) := by decide +kernel
theorem dX5_isJob_2 : decode cX5_isJob 2 = .ok (.lconst 0, 1) := by decide +kernel
theorem dX5_isJob_3 : decode cX5_isJob 3 = .ok (.aload_n 0, 1) := by decide +kernel
theorem dX5_isJob_4 : decode cX5_isJob 4 = .ok (.getfield 7, 3) := by decide +kernel
theorem dX5_isJob_7 : decode cX5_isJob 7 = .ok (.bipush 7, 2) := by decide +kernel
theorem dX5_isJob_9 : decode cX5_isJob 9 = .ok (.iaload, 1) := by decide +kernel
theorem dX5_isJob_10 : decode cX5_isJob 10 = .ok (.i2l, 1) := by decide +kernel
theorem dX5_isJob_11 : decode cX5_isJob 11 = .ok (.lconst 1, 1) := by decide +kernel
theorem dX5_isJob_12 : decode cX5_isJob 12 = .ok (.lsub, 1) := by decide +kernel
theorem dX5_isJob_13 : decode cX5_isJob 13 = .ok (.invokestatic 44, 3) := by decide +kernel
theorem dX5_isJob_16 : decode cX5_isJob 16 = .ok (.ireturn, 1) := by decide +kernel
theorem dX5_its_0 : decode cX5_its 0 = .ok (.aload_n 0, 1) := by decide +kernel
theorem dX5_its_1 : decode cX5_its 1 = .ok (.getfield 7, 3) := by decide +kernel
theorem dX5_its_4 : decode cX5_its 4 = .ok (.bipush 8, 2) := by decide +kernel
theorem dX5_its_6 : decode cX5_its 6 = .ok (.iconst 4, 1) := by decide +kernel
theorem dX5_its_7 : decode cX5_its 7 = .ok (.iload_n 1, 1) := by decide +kernel
theorem dX5_its_8 : decode cX5_its 8 = .ok (.imul, 1) := by decide +kernel
theorem dX5_its_9 : decode cX5_its 9 = .ok (.iadd, 1) := by decide +kernel
theorem dX5_its_10 : decode cX5_its 10 = .ok (.iload_n 2, 1) := by decide +kernel
theorem dX5_its_11 : decode cX5_its 11 = .ok (.iadd, 1) := by decide +kernel
theorem dX5_its_12 : decode cX5_its 12 = .ok (.iaload, 1) := by decide +kernel
theorem dX5_its_13 : decode cX5_its 13 = .ok (.ireturn, 1) := by decide +kernel
theorem dX5_racksFor_0 : decode cX5_racksFor 0 = .ok (.iload_n 1, 1) := by decide +kernel
theorem dX5_racksFor_1 : decode cX5_racksFor 1 = .ok (.aload_n 0, 1) := by decide +kernel
theorem dX5_racksFor_2 : decode cX5_racksFor 2 = .ok (.getfield 7, 3) := by decide +kernel
theorem dX5_racksFor_5 : decode cX5_racksFor 5 = .ok (.bipush 6, 2) := by decide +kernel
theorem dX5_racksFor_7 : decode cX5_racksFor 7 = .ok (.iaload, 1) := by decide +kernel
theorem dX5_racksFor_8 : decode cX5_racksFor 8 = .ok (.iadd, 1) := by decide +kernel
theorem dX5_racksFor_9 : decode cX5_racksFor 9 = .ok (.iconst 1, 1) := by decide +kernel
theorem dX5_racksFor_10 : decode cX5_racksFor 10 = .ok (.isub, 1) := by decide +kernel
theorem dX5_racksFor_11 : decode cX5_racksFor 11 = .ok (.aload_n 0, 1) := by decide +kernel
theorem dX5_racksFor_12 : decode cX5_racksFor 12 = .ok (.getfield 7, 3) := by decide +kernel
theorem dX5_racksFor_15 : decode cX5_racksFor 15 = .ok (.bipush 6, 2) := by decide +kernel
theorem dX5_racksFor_17 : decode cX5_racksFor 17 = .ok (.iaload, 1) := by decide +kernel
theorem dX5_racksFor_18 : decode cX5_racksFor 18 = .ok (.idiv, 1) := by decide +kernel
theorem dX5_racksFor_19 : decode cX5_racksFor 19 = .ok (.ireturn, 1) := by decide +kernel
set_option maxRecDepth 20000 in
theorem ggX5_racksOf_X5_its : GoodIn wsX5_racksOf wsX5_its := goodIn_r _ [5, 6, 11, 12, 13, 14, 15, 16, 17, 18, 19, 20, 21, 22, 23, 24] (by decide +kernel) (by decide +kernel)
set_option maxRecDepth 20000 in
theorem gX5_racksOf_X5_its : GoodIn wsX5_racksOf (wsV RX5 48 RX5 yX5_its wsX5_its) := goodIn_app (goodIn_of _ (by decide +kernel)) ggX5_racksOf_X5_its
set_option maxRecDepth 20000 in
theorem ggX5_racksOf_X5_racksFor : GoodIn wsX5_racksOf wsX5_racksFor := goodIn_r _ [10, 6, 11, 12, 13, 14, 15, 16, 17, 18, 19, 20, 21, 22, 23, 24] (by decide +kernel) (by decide +kernel)
set_option maxRecDepth 20000 in
theorem gX5_racksOf_X5_racksFor : GoodIn wsX5_racksOf (wsV RX5 52 RX5 yX5_racksFor wsX5_racksFor) := goodIn_app (goodIn_of _ (by decide +kernel)) ggX5_racksOf_X5_racksFor
theorem dX5_racksOf_0 : decode cX5_racksOf 0 = .ok (.aload_n 0, 1) := by decide +kernel
theorem dX5_racksOf_1 : decode cX5_racksOf 1 = .ok (.aload_n 0, 1) := by decide +kernel
theorem dX5_racksOf_2 : decode cX5_racksOf 2 = .ok (.iload_n 1, 1) := by decide +kernel
theorem dX5_racksOf_3 : decode cX5_racksOf 3 = .ok (.iconst 2, 1) := by decide +kernel
theorem dX5_racksOf_4 : decode cX5_racksOf 4 = .ok (.invokevirtual 48, 3) := by decide +kernel
theorem dX5_racksOf_7 : decode cX5_racksOf 7 = .ok (.invokevirtual 52, 3) := by decide +kernel
theorem dX5_racksOf_10 : decode cX5_racksOf 10 = .ok (.ireturn, 1) := by decide +kernel
set_option maxRecDepth 20000 in
theorem ggX5_exchanges_X5_its : GoodIn wsX5_exchanges wsX5_its := goodIn_r _ [6, 1, 7, 8, 9, 10, 11, 12, 13, 14, 15, 16, 17, 18, 19, 20] (by decide +kernel) (by decide +kernel)
set_option maxRecDepth 20000 in
theorem gX5_exchanges_X5_its : GoodIn wsX5_exchanges (wsV RX5 48 RX5 yX5_its wsX5_its) := goodIn_app (goodIn_of _ (by decide +kernel)) ggX5_exchanges_X5_its
theorem dX5_exchanges_0 : decode cX5_exchanges 0 = .ok (.iconst 0, 1) := by decide +kernel
theorem dX5_exchanges_1 : decode cX5_exchanges 1 = .ok (.istore_n 3, 1) := by decide +kernel
theorem dX5_exchanges_2 : decode cX5_exchanges 2 = .ok (.iload_n 3, 1) := by decide +kernel
theorem dX5_exchanges_3 : decode cX5_exchanges 3 = .ok (.iconst 4, 1) := by decide +kernel
theorem dX5_exchanges_4 : decode cX5_exchanges 4 = .ok (.if_icmp .ge 51, 3) := by decide +kernel
theorem dX5_exchanges_7 : decode cX5_exchanges 7 = .ok (.aload_n 0, 1) := by decide +kernel
theorem dX5_exchanges_8 : decode cX5_exchanges 8 = .ok (.iload_n 1, 1) := by decide +kernel
theorem dX5_exchanges_9 : decode cX5_exchanges 9 = .ok (.iload_n 3, 1) := by decide +kernel
theorem dX5_exchanges_10 : decode cX5_exchanges 10 = .ok (.invokevirtual 48, 3) := by decide +kernel
theorem dX5_exchanges_13 : decode cX5_exchanges 13 = .ok (.istore 4, 2) := by decide +kernel
theorem dX5_exchanges_15 : decode cX5_exchanges 15 = .ok (.aload_n 0, 1) := by decide +kernel
theorem dX5_exchanges_16 : decode cX5_exchanges 16 = .ok (.getfield 7, 3) := by decide +kernel
theorem dX5_exchanges_19 : decode cX5_exchanges 19 = .ok (.bipush 8, 2) := by decide +kernel
theorem dX5_exchanges_21 : decode cX5_exchanges 21 = .ok (.iconst 4, 1) := by decide +kernel
theorem dX5_exchanges_22 : decode cX5_exchanges 22 = .ok (.iload_n 1, 1) := by decide +kernel
theorem dX5_exchanges_23 : decode cX5_exchanges 23 = .ok (.imul, 1) := by decide +kernel
theorem dX5_exchanges_24 : decode cX5_exchanges 24 = .ok (.iadd, 1) := by decide +kernel
theorem dX5_exchanges_25 : decode cX5_exchanges 25 = .ok (.iload_n 3, 1) := by decide +kernel
theorem dX5_exchanges_26 : decode cX5_exchanges 26 = .ok (.iadd, 1) := by decide +kernel
theorem dX5_exchanges_27 : decode cX5_exchanges 27 = .ok (.aload_n 0, 1) := by decide +kernel
theorem dX5_exchanges_28 : decode cX5_exchanges 28 = .ok (.iload_n 2, 1) := by decide +kernel
theorem dX5_exchanges_29 : decode cX5_exchanges 29 = .ok (.iload_n 3, 1) := by decide +kernel
theorem dX5_exchanges_30 : decode cX5_exchanges 30 = .ok (.invokevirtual 48, 3) := by decide +kernel
theorem dX5_exchanges_33 : decode cX5_exchanges 33 = .ok (.iastore, 1) := by decide +kernel
theorem dX5_exchanges_34 : decode cX5_exchanges 34 = .ok (.aload_n 0, 1) := by decide +kernel
theorem dX5_exchanges_35 : decode cX5_exchanges 35 = .ok (.getfield 7, 3) := by decide +kernel
theorem dX5_exchanges_38 : decode cX5_exchanges 38 = .ok (.bipush 8, 2) := by decide +kernel
theorem dX5_exchanges_40 : decode cX5_exchanges 40 = .ok (.iconst 4, 1) := by decide +kernel
theorem dX5_exchanges_41 : decode cX5_exchanges 41 = .ok (.iload_n 2, 1) := by decide +kernel
theorem dX5_exchanges_42 : decode cX5_exchanges 42 = .ok (.imul, 1) := by decide +kernel
theorem dX5_exchanges_43 : decode cX5_exchanges 43 = .ok (.iadd, 1) := by decide +kernel
theorem dX5_exchanges_44 : decode cX5_exchanges 44 = .ok (.iload_n 3, 1) := by decide +kernel
theorem dX5_exchanges_45 : decode cX5_exchanges 45 = .ok (.iadd, 1) := by decide +kernel
theorem dX5_exchanges_46 : decode cX5_exchanges 46 = .ok (.iload 4, 2) := by decide +kernel
theorem dX5_exchanges_48 : decode cX5_exchanges 48 = .ok (.iastore, 1) := by decide +kernel
theorem dX5_exchanges_49 : decode cX5_exchanges 49 = .ok (.iinc 3 1, 3) := by decide +kernel
theorem dX5_exchanges_52 : decode cX5_exchanges 52 = .ok (.goto (-50), 3) := by decide +kernel
theorem dX5_exchanges_55 : decode cX5_exchanges 55 = .ok (.return_, 1) := by decide +kernel
set_option maxRecDepth 20000 in
theorem ggX5_moves_X5_exchanges : GoodIn wsX5_moves wsX5_exchanges := goodIn_r _ [5, 6, 7, 8, 9, 4, 10, 11, 12, 13, 14, 15, 16, 17, 18, 19, 20, 21, 22, 23, 24] (by decide +kernel) (by decide +kernel)
set_option maxRecDepth 20000 in
theorem gX5_moves_X5_exchanges : GoodIn wsX5_moves (wsV RX5 56 RX5 yX5_exchanges wsX5_exchanges) := goodIn_app (goodIn_of _ (by decide +kernel)) ggX5_moves_X5_exchanges
theorem dX5_moves_0 : decode cX5_moves 0 = .ok (.iload_n 1, 1) := by decide +kernel
theorem dX5_moves_1 : decode cX5_moves 1 = .ok (.istore_n 3, 1) := by decide +kernel
theorem dX5_moves_2 : decode cX5_moves 2 = .ok (.iload_n 3, 1) := by decide +kernel
theorem dX5_moves_3 : decode cX5_moves 3 = .ok (.iload_n 2, 1) := by decide +kernel
theorem dX5_moves_4 : decode cX5_moves 4 = .ok (.if_icmp .eq 32, 3) := by decide +kernel
theorem dX5_moves_7 : decode cX5_moves 7 = .ok (.iload_n 3, 1) := by decide +kernel
theorem dX5_moves_8 : decode cX5_moves 8 = .ok (.iload_n 2, 1) := by decide +kernel
theorem dX5_moves_9 : decode cX5_moves 9 = .ok (.if_icmp .ge 9, 3) := by decide +kernel
theorem dX5_moves_12 : decode cX5_moves 12 = .ok (.iload_n 3, 1) := by decide +kernel
theorem dX5_moves_13 : decode cX5_moves 13 = .ok (.iconst 1, 1) := by decide +kernel
theorem dX5_moves_14 : decode cX5_moves 14 = .ok (.iadd, 1) := by decide +kernel
theorem dX5_moves_15 : decode cX5_moves 15 = .ok (.goto 6, 3) := by decide +kernel
theorem dX5_moves_18 : decode cX5_moves 18 = .ok (.iload_n 3, 1) := by decide +kernel
theorem dX5_moves_19 : decode cX5_moves 19 = .ok (.iconst 1, 1) := by decide +kernel
theorem dX5_moves_20 : decode cX5_moves 20 = .ok (.isub, 1) := by decide +kernel
theorem dX5_moves_21 : decode cX5_moves 21 = .ok (.istore 4, 2) := by decide +kernel
theorem dX5_moves_23 : decode cX5_moves 23 = .ok (.aload_n 0, 1) := by decide +kernel
theorem dX5_moves_24 : decode cX5_moves 24 = .ok (.iload_n 3, 1) := by decide +kernel
theorem dX5_moves_25 : decode cX5_moves 25 = .ok (.iload 4, 2) := by decide +kernel
theorem dX5_moves_27 : decode cX5_moves 27 = .ok (.invokevirtual 56, 3) := by decide +kernel
theorem dX5_moves_30 : decode cX5_moves 30 = .ok (.iload 4, 2) := by decide +kernel
theorem dX5_moves_32 : decode cX5_moves 32 = .ok (.istore_n 3, 1) := by decide +kernel
theorem dX5_moves_33 : decode cX5_moves 33 = .ok (.goto (-31), 3) := by decide +kernel
theorem dX5_moves_36 : decode cX5_moves 36 = .ok (.return_, 1) := by decide +kernel
set_option maxRecDepth 20000 in
theorem ggX5_washFor_X5_its : GoodIn wsX5_washFor wsX5_its := goodIn_r _ [6, 1, 7, 8, 9, 10, 11, 12, 13, 14, 15, 16, 17, 18, 19, 20] (by decide +kernel) (by decide +kernel)
set_option maxRecDepth 20000 in
theorem gX5_washFor_X5_its : GoodIn wsX5_washFor (wsV RX5 48 RX5 yX5_its wsX5_its) := goodIn_app (goodIn_of _ (by decide +kernel)) ggX5_washFor_X5_its
theorem dX5_washFor_0 : decode cX5_washFor 0 = .ok (.iload_n 1, 1) := by decide +kernel
theorem dX5_washFor_1 : decode cX5_washFor 1 = .ok (.ifCond .ne 5, 3) := by decide +kernel
theorem dX5_washFor_4 : decode cX5_washFor 4 = .ok (.iconst 0, 1) := by decide +kernel
theorem dX5_washFor_5 : decode cX5_washFor 5 = .ok (.ireturn, 1) := by decide +kernel
theorem dX5_washFor_6 : decode cX5_washFor 6 = .ok (.aload_n 0, 1) := by decide +kernel
theorem dX5_washFor_7 : decode cX5_washFor 7 = .ok (.iload_n 1, 1) := by decide +kernel
theorem dX5_washFor_8 : decode cX5_washFor 8 = .ok (.iconst 1, 1) := by decide +kernel
theorem dX5_washFor_9 : decode cX5_washFor 9 = .ok (.isub, 1) := by decide +kernel
theorem dX5_washFor_10 : decode cX5_washFor 10 = .ok (.iconst 1, 1) := by decide +kernel
theorem dX5_washFor_11 : decode cX5_washFor 11 = .ok (.invokevirtual 48, 3) := by decide +kernel
theorem dX5_washFor_14 : decode cX5_washFor 14 = .ok (.aload_n 0, 1) := by decide +kernel
theorem dX5_washFor_15 : decode cX5_washFor 15 = .ok (.iload_n 1, 1) := by decide +kernel
theorem dX5_washFor_16 : decode cX5_washFor 16 = .ok (.iconst 1, 1) := by decide +kernel
theorem dX5_washFor_17 : decode cX5_washFor 17 = .ok (.invokevirtual 48, 3) := by decide +kernel
theorem dX5_washFor_20 : decode cX5_washFor 20 = .ok (.isub, 1) := by decide +kernel
theorem dX5_washFor_21 : decode cX5_washFor 21 = .ok (.istore_n 2, 1) := by decide +kernel
theorem dX5_washFor_22 : decode cX5_washFor 22 = .ok (.iload_n 2, 1) := by decide +kernel
theorem dX5_washFor_23 : decode cX5_washFor 23 = .ok (.ifCond .ne 7, 3) := by decide +kernel
theorem dX5_washFor_26 : decode cX5_washFor 26 = .ok (.iconst 0, 1) := by decide +kernel
theorem dX5_washFor_27 : decode cX5_washFor 27 = .ok (.goto 31, 3) := by decide +kernel
theorem dX5_washFor_30 : decode cX5_washFor 30 = .ok (.iload_n 2, 1) := by decide +kernel
theorem dX5_washFor_31 : decode cX5_washFor 31 = .ok (.ifCond .ge 12, 3) := by decide +kernel
theorem dX5_washFor_34 : decode cX5_washFor 34 = .ok (.aload_n 0, 1) := by decide +kernel
theorem dX5_washFor_35 : decode cX5_washFor 35 = .ok (.getfield 7, 3) := by decide +kernel
theorem dX5_washFor_38 : decode cX5_washFor 38 = .ok (.iconst 2, 1) := by decide +kernel
theorem dX5_washFor_39 : decode cX5_washFor 39 = .ok (.iaload, 1) := by decide +kernel
theorem dX5_washFor_40 : decode cX5_washFor 40 = .ok (.goto 18, 3) := by decide +kernel
theorem dX5_washFor_43 : decode cX5_washFor 43 = .ok (.aload_n 0, 1) := by decide +kernel
theorem dX5_washFor_44 : decode cX5_washFor 44 = .ok (.getfield 7, 3) := by decide +kernel
theorem dX5_washFor_47 : decode cX5_washFor 47 = .ok (.iconst 1, 1) := by decide +kernel
theorem dX5_washFor_48 : decode cX5_washFor 48 = .ok (.iaload, 1) := by decide +kernel
theorem dX5_washFor_49 : decode cX5_washFor 49 = .ok (.aload_n 0, 1) := by decide +kernel
theorem dX5_washFor_50 : decode cX5_washFor 50 = .ok (.getfield 7, 3) := by decide +kernel
theorem dX5_washFor_53 : decode cX5_washFor 53 = .ok (.iconst 2, 1) := by decide +kernel
theorem dX5_washFor_54 : decode cX5_washFor 54 = .ok (.iaload, 1) := by decide +kernel
theorem dX5_washFor_55 : decode cX5_washFor 55 = .ok (.iload_n 2, 1) := by decide +kernel
theorem dX5_washFor_56 : decode cX5_washFor 56 = .ok (.imul, 1) := by decide +kernel
theorem dX5_washFor_57 : decode cX5_washFor 57 = .ok (.iadd, 1) := by decide +kernel
theorem dX5_washFor_58 : decode cX5_washFor 58 = .ok (.ireturn, 1) := by decide +kernel
set_option maxRecDepth 20000 in
theorem ggX5_plateFor_X5_its : GoodIn wsX5_plateFor wsX5_its := goodIn_r _ [6, 1, 7, 8, 9, 10, 11, 12, 13, 14, 15, 16, 17, 18, 19, 20] (by decide +kernel) (by decide +kernel)
set_option maxRecDepth 20000 in
theorem gX5_plateFor_X5_its : GoodIn wsX5_plateFor (wsV RX5 48 RX5 yX5_its wsX5_its) := goodIn_app (goodIn_of _ (by decide +kernel)) ggX5_plateFor_X5_its
theorem dX5_plateFor_0 : decode cX5_plateFor 0 = .ok (.iload_n 1, 1) := by decide +kernel
theorem dX5_plateFor_1 : decode cX5_plateFor 1 = .ok (.ifCond .le 24, 3) := by decide +kernel
theorem dX5_plateFor_4 : decode cX5_plateFor 4 = .ok (.aload_n 0, 1) := by decide +kernel
theorem dX5_plateFor_5 : decode cX5_plateFor 5 = .ok (.iload_n 1, 1) := by decide +kernel
theorem dX5_plateFor_6 : decode cX5_plateFor 6 = .ok (.iconst 1, 1) := by decide +kernel
theorem dX5_plateFor_7 : decode cX5_plateFor 7 = .ok (.isub, 1) := by decide +kernel
theorem dX5_plateFor_8 : decode cX5_plateFor 8 = .ok (.iconst 0, 1) := by decide +kernel
theorem dX5_plateFor_9 : decode cX5_plateFor 9 = .ok (.invokevirtual 48, 3) := by decide +kernel
theorem dX5_plateFor_12 : decode cX5_plateFor 12 = .ok (.aload_n 0, 1) := by decide +kernel
theorem dX5_plateFor_13 : decode cX5_plateFor 13 = .ok (.iload_n 1, 1) := by decide +kernel
theorem dX5_plateFor_14 : decode cX5_plateFor 14 = .ok (.iconst 0, 1) := by decide +kernel
theorem dX5_plateFor_15 : decode cX5_plateFor 15 = .ok (.invokevirtual 48, 3) := by decide +kernel
theorem dX5_plateFor_18 : decode cX5_plateFor 18 = .ok (.if_icmp .ne 7, 3) := by decide +kernel
theorem dX5_plateFor_21 : decode cX5_plateFor 21 = .ok (.iconst 0, 1) := by decide +kernel
theorem dX5_plateFor_22 : decode cX5_plateFor 22 = .ok (.goto 9, 3) := by decide +kernel
theorem dX5_plateFor_25 : decode cX5_plateFor 25 = .ok (.aload_n 0, 1) := by decide +kernel
theorem dX5_plateFor_26 : decode cX5_plateFor 26 = .ok (.getfield 7, 3) := by decide +kernel
theorem dX5_plateFor_29 : decode cX5_plateFor 29 = .ok (.iconst 0, 1) := by decide +kernel
theorem dX5_plateFor_30 : decode cX5_plateFor 30 = .ok (.iaload, 1) := by decide +kernel
theorem dX5_plateFor_31 : decode cX5_plateFor 31 = .ok (.ireturn, 1) := by decide +kernel
set_option maxRecDepth 20000 in
theorem ggX5_readyFor_X5_plateFor : GoodIn wsX5_readyFor wsX5_plateFor := goodIn_r _ [5, 6, 7, 8, 9, 4, 10, 15, 16, 17, 18, 19, 20, 21, 22, 23, 24, 25, 26, 27, 28] (by decide +kernel) (by decide +kernel)
set_option maxRecDepth 20000 in
theorem gX5_readyFor_X5_plateFor : GoodIn wsX5_readyFor (wsV RX5 60 RX5 yX5_plateFor wsX5_plateFor) := goodIn_app (goodIn_of _ (by decide +kernel)) ggX5_readyFor_X5_plateFor
set_option maxRecDepth 20000 in
theorem ggX5_readyFor_X5_washFor : GoodIn wsX5_readyFor wsX5_washFor := goodIn_r _ [14, 6, 7, 8, 9, 4, 10, 15, 16, 17, 18, 19, 20, 21, 22, 23, 24, 25, 26, 27, 28] (by decide +kernel) (by decide +kernel)
set_option maxRecDepth 20000 in
theorem gX5_readyFor_X5_washFor : GoodIn wsX5_readyFor (wsV RX5 63 RX5 yX5_washFor wsX5_washFor) := goodIn_app (goodIn_of _ (by decide +kernel)) ggX5_readyFor_X5_washFor
theorem dX5_readyFor_0 : decode cX5_readyFor 0 = .ok (.aload_n 0, 1) := by decide +kernel
theorem dX5_readyFor_1 : decode cX5_readyFor 1 = .ok (.iload_n 1, 1) := by decide +kernel
theorem dX5_readyFor_2 : decode cX5_readyFor 2 = .ok (.invokevirtual 60, 3) := by decide +kernel
theorem dX5_readyFor_5 : decode cX5_readyFor 5 = .ok (.aload_n 0, 1) := by decide +kernel
theorem dX5_readyFor_6 : decode cX5_readyFor 6 = .ok (.iload_n 1, 1) := by decide +kernel
theorem dX5_readyFor_7 : decode cX5_readyFor 7 = .ok (.invokevirtual 63, 3) := by decide +kernel
theorem dX5_readyFor_10 : decode cX5_readyFor 10 = .ok (.iadd, 1) := by decide +kernel
theorem dX5_readyFor_11 : decode cX5_readyFor 11 = .ok (.ireturn, 1) := by decide +kernel
theorem dX5_dry_0 : decode cX5_dry 0 = .ok (.aload_n 0, 1) := by decide +kernel
theorem dX5_dry_1 : decode cX5_dry 1 = .ok (.getfield 28, 3) := by decide +kernel
theorem dX5_dry_4 : decode cX5_dry 4 = .ok (.iload_n 1, 1) := by decide +kernel
theorem dX5_dry_5 : decode cX5_dry 5 = .ok (.iaload, 1) := by decide +kernel
theorem dX5_dry_6 : decode cX5_dry 6 = .ok (.aload_n 0, 1) := by decide +kernel
theorem dX5_dry_7 : decode cX5_dry 7 = .ok (.getfield 7, 3) := by decide +kernel
theorem dX5_dry_10 : decode cX5_dry 10 = .ok (.iconst 4, 1) := by decide +kernel
theorem dX5_dry_11 : decode cX5_dry 11 = .ok (.iaload, 1) := by decide +kernel
theorem dX5_dry_12 : decode cX5_dry 12 = .ok (.iadd, 1) := by decide +kernel
theorem dX5_dry_13 : decode cX5_dry 13 = .ok (.ireturn, 1) := by decide +kernel
set_option maxRecDepth 20000 in
theorem ggX5_taken_X5_dry : GoodIn wsX5_taken wsX5_dry := goodIn_r _ [6, 1, 7, 20, 21, 22, 23, 24, 25, 26, 27, 28, 29, 30, 31, 32, 33] (by decide +kernel) (by decide +kernel)
set_option maxRecDepth 20000 in
theorem gX5_taken_X5_dry : GoodIn wsX5_taken (wsV RX5 66 RX5 yX5_dry wsX5_dry) := goodIn_app (goodIn_of _ (by decide +kernel)) ggX5_taken_X5_dry
set_option maxRecDepth 20000 in
theorem ggX5_taken_X5_racksOf : GoodIn wsX5_taken wsX5_racksOf := goodIn_r _ [11, 12, 13, 14, 5, 15, 7, 16, 17, 18, 19, 20, 21, 22, 23, 24, 25, 26, 27, 28, 29, 30, 31, 32, 33] (by decide +kernel) (by decide +kernel)
set_option maxRecDepth 20000 in
theorem gX5_taken_X5_racksOf : GoodIn wsX5_taken (wsV RX5 69 RX5 yX5_racksOf wsX5_racksOf) := goodIn_app (goodIn_of _ (by decide +kernel)) ggX5_taken_X5_racksOf
theorem dX5_taken_0 : decode cX5_taken 0 = .ok (.iconst 0, 1) := by decide +kernel
theorem dX5_taken_1 : decode cX5_taken 1 = .ok (.istore_n 3, 1) := by decide +kernel
theorem dX5_taken_2 : decode cX5_taken 2 = .ok (.iconst 0, 1) := by decide +kernel
theorem dX5_taken_3 : decode cX5_taken 3 = .ok (.istore 4, 2) := by decide +kernel
theorem dX5_taken_5 : decode cX5_taken 5 = .ok (.iload 4, 2) := by decide +kernel
theorem dX5_taken_7 : decode cX5_taken 7 = .ok (.iload_n 1, 1) := by decide +kernel
theorem dX5_taken_8 : decode cX5_taken 8 = .ok (.if_icmp .ge 43, 3) := by decide +kernel
theorem dX5_taken_11 : decode cX5_taken 11 = .ok (.iload_n 3, 1) := by decide +kernel
theorem dX5_taken_12 : decode cX5_taken 12 = .ok (.aload_n 0, 1) := by decide +kernel
theorem dX5_taken_13 : decode cX5_taken 13 = .ok (.getfield 28, 3) := by decide +kernel
theorem dX5_taken_16 : decode cX5_taken 16 = .ok (.iload 4, 2) := by decide +kernel
theorem dX5_taken_18 : decode cX5_taken 18 = .ok (.iaload, 1) := by decide +kernel
theorem dX5_taken_19 : decode cX5_taken 19 = .ok (.iload_n 2, 1) := by decide +kernel
theorem dX5_taken_20 : decode cX5_taken 20 = .ok (.if_icmp .gt 22, 3) := by decide +kernel
theorem dX5_taken_23 : decode cX5_taken 23 = .ok (.iload_n 2, 1) := by decide +kernel
theorem dX5_taken_24 : decode cX5_taken 24 = .ok (.aload_n 0, 1) := by decide +kernel
theorem dX5_taken_25 : decode cX5_taken 25 = .ok (.iload 4, 2) := by decide +kernel
theorem dX5_taken_27 : decode cX5_taken 27 = .ok (.invokevirtual 66, 3) := by decide +kernel
theorem dX5_taken_30 : decode cX5_taken 30 = .ok (.if_icmp .ge 12, 3) := by decide +kernel
theorem dX5_taken_33 : decode cX5_taken 33 = .ok (.aload_n 0, 1) := by decide +kernel
theorem dX5_taken_34 : decode cX5_taken 34 = .ok (.iload 4, 2) := by decide +kernel
theorem dX5_taken_36 : decode cX5_taken 36 = .ok (.invokevirtual 69, 3) := by decide +kernel
theorem dX5_taken_39 : decode cX5_taken 39 = .ok (.goto 4, 3) := by decide +kernel
theorem dX5_taken_42 : decode cX5_taken 42 = .ok (.iconst 0, 1) := by decide +kernel
theorem dX5_taken_43 : decode cX5_taken 43 = .ok (.iadd, 1) := by decide +kernel
theorem dX5_taken_44 : decode cX5_taken 44 = .ok (.istore_n 3, 1) := by decide +kernel
theorem dX5_taken_45 : decode cX5_taken 45 = .ok (.iinc 4 1, 3) := by decide +kernel
theorem dX5_taken_48 : decode cX5_taken 48 = .ok (.goto (-43), 3) := by decide +kernel
theorem dX5_taken_51 : decode cX5_taken 51 = .ok (.iload_n 3, 1) := by decide +kernel
theorem dX5_taken_52 : decode cX5_taken 52 = .ok (.ireturn, 1) := by decide +kernel
set_option maxRecDepth 20000 in
theorem ggX5_prints_X5_readyFor : GoodIn wsX5_prints wsX5_readyFor := goodIn_r _ [8, 9, 10, 11, 7, 12, 1, 13, 14, 15, 16, 17, 18, 19, 20, 37, 38, 39, 40, 41, 42, 43, 44, 45, 46, 47, 48, 49, 50] (by decide +kernel) (by decide +kernel)
set_option maxRecDepth 20000 in
theorem gX5_prints_X5_readyFor : GoodIn wsX5_prints (wsV RX5 72 RX5 yX5_readyFor wsX5_readyFor) := goodIn_app (goodIn_of _ (by decide +kernel)) ggX5_prints_X5_readyFor
set_option maxRecDepth 20000 in
theorem ggX5_prints_X5_its : GoodIn wsX5_prints wsX5_its := goodIn_r _ [16, 1, 37, 38, 39, 40, 41, 42, 43, 44, 45, 46, 47, 48, 49, 50] (by decide +kernel) (by decide +kernel)
set_option maxRecDepth 20000 in
theorem gX5_prints_X5_its : GoodIn wsX5_prints (wsV RX5 48 RX5 yX5_its wsX5_its) := goodIn_app (goodIn_of _ (by decide +kernel)) ggX5_prints_X5_its
set_option maxRecDepth 20000 in
theorem ggX5_prints_X5_taken : GoodIn wsX5_prints wsX5_taken := goodIn_r _ [24, 3, 25, 26, 27, 7, 28, 1, 29, 30, 31, 32, 13, 14, 15, 16, 33, 34, 35, 36, 37, 38, 39, 40, 41, 42, 43, 44, 45, 46, 47, 48, 49, 50] (by decide +kernel) (by decide +kernel)
set_option maxRecDepth 20000 in
theorem gX5_prints_X5_taken : GoodIn wsX5_prints (wsV RX5 75 RX5 yX5_taken wsX5_taken) := goodIn_app (goodIn_of _ (by decide +kernel)) ggX5_prints_X5_taken
set_option maxRecDepth 20000 in
theorem ggX5_prints_X5_racksOf : GoodIn wsX5_prints wsX5_racksOf := goodIn_r _ [32, 13, 14, 15, 7, 16, 1, 33, 34, 35, 36, 37, 38, 39, 40, 41, 42, 43, 44, 45, 46, 47, 48, 49, 50] (by decide +kernel) (by decide +kernel)
set_option maxRecDepth 20000 in
theorem gX5_prints_X5_racksOf : GoodIn wsX5_prints (wsV RX5 69 RX5 yX5_racksOf wsX5_racksOf) := goodIn_app (goodIn_of _ (by decide +kernel)) ggX5_prints_X5_racksOf
theorem dX5_prints_0 : decode cX5_prints 0 = .ok (.iconst 0, 1) := by decide +kernel
theorem dX5_prints_1 : decode cX5_prints 1 = .ok (.istore_n 1, 1) := by decide +kernel
theorem dX5_prints_2 : decode cX5_prints 2 = .ok (.iconst 0, 1) := by decide +kernel
theorem dX5_prints_3 : decode cX5_prints 3 = .ok (.istore_n 2, 1) := by decide +kernel
theorem dX5_prints_4 : decode cX5_prints 4 = .ok (.iload_n 2, 1) := by decide +kernel
theorem dX5_prints_5 : decode cX5_prints 5 = .ok (.aload_n 0, 1) := by decide +kernel
theorem dX5_prints_6 : decode cX5_prints 6 = .ok (.getfield 7, 3) := by decide +kernel
theorem dX5_prints_9 : decode cX5_prints 9 = .ok (.bipush 7, 2) := by decide +kernel
theorem dX5_prints_11 : decode cX5_prints 11 = .ok (.iaload, 1) := by decide +kernel
theorem dX5_prints_12 : decode cX5_prints 12 = .ok (.if_icmp .ge 87, 3) := by decide +kernel
theorem dX5_prints_15 : decode cX5_prints 15 = .ok (.aload_n 0, 1) := by decide +kernel
theorem dX5_prints_16 : decode cX5_prints 16 = .ok (.iload_n 2, 1) := by decide +kernel
theorem dX5_prints_17 : decode cX5_prints 17 = .ok (.invokevirtual 72, 3) := by decide +kernel
theorem dX5_prints_20 : decode cX5_prints 20 = .ok (.aload_n 0, 1) := by decide +kernel
theorem dX5_prints_21 : decode cX5_prints 21 = .ok (.getfield 7, 3) := by decide +kernel
theorem dX5_prints_24 : decode cX5_prints 24 = .ok (.iconst 3, 1) := by decide +kernel
theorem dX5_prints_25 : decode cX5_prints 25 = .ok (.iaload, 1) := by decide +kernel
theorem dX5_prints_26 : decode cX5_prints 26 = .ok (.aload_n 0, 1) := by decide +kernel
theorem dX5_prints_27 : decode cX5_prints 27 = .ok (.iload_n 2, 1) := by decide +kernel
theorem dX5_prints_28 : decode cX5_prints 28 = .ok (.iconst 2, 1) := by decide +kernel
theorem dX5_prints_29 : decode cX5_prints 29 = .ok (.invokevirtual 48, 3) := by decide +kernel
theorem dX5_prints_32 : decode cX5_prints 32 = .ok (.imul, 1) := by decide +kernel
theorem dX5_prints_33 : decode cX5_prints 33 = .ok (.iadd, 1) := by decide +kernel
theorem dX5_prints_34 : decode cX5_prints 34 = .ok (.istore_n 3, 1) := by decide +kernel
theorem dX5_prints_35 : decode cX5_prints 35 = .ok (.iload_n 1, 1) := by decide +kernel
theorem dX5_prints_36 : decode cX5_prints 36 = .ok (.istore 4, 2) := by decide +kernel
theorem dX5_prints_38 : decode cX5_prints 38 = .ok (.aload_n 0, 1) := by decide +kernel
theorem dX5_prints_39 : decode cX5_prints 39 = .ok (.getfield 7, 3) := by decide +kernel
theorem dX5_prints_42 : decode cX5_prints 42 = .ok (.iconst 5, 1) := by decide +kernel
theorem dX5_prints_43 : decode cX5_prints 43 = .ok (.iaload, 1) := by decide +kernel
theorem dX5_prints_44 : decode cX5_prints 44 = .ok (.aload_n 0, 1) := by decide +kernel
theorem dX5_prints_45 : decode cX5_prints 45 = .ok (.iload_n 2, 1) := by decide +kernel
theorem dX5_prints_46 : decode cX5_prints 46 = .ok (.iload 4, 2) := by decide +kernel
theorem dX5_prints_48 : decode cX5_prints 48 = .ok (.iload_n 3, 1) := by decide +kernel
theorem dX5_prints_49 : decode cX5_prints 49 = .ok (.iadd, 1) := by decide +kernel
theorem dX5_prints_50 : decode cX5_prints 50 = .ok (.invokevirtual 75, 3) := by decide +kernel
theorem dX5_prints_53 : decode cX5_prints 53 = .ok (.isub, 1) := by decide +kernel
theorem dX5_prints_54 : decode cX5_prints 54 = .ok (.aload_n 0, 1) := by decide +kernel
theorem dX5_prints_55 : decode cX5_prints 55 = .ok (.iload_n 2, 1) := by decide +kernel
theorem dX5_prints_56 : decode cX5_prints 56 = .ok (.invokevirtual 69, 3) := by decide +kernel
theorem dX5_prints_59 : decode cX5_prints 59 = .ok (.if_icmp .ge 9, 3) := by decide +kernel
theorem dX5_prints_62 : decode cX5_prints 62 = .ok (.iinc 4 1, 3) := by decide +kernel
theorem dX5_prints_65 : decode cX5_prints 65 = .ok (.goto (-27), 3) := by decide +kernel
theorem dX5_prints_68 : decode cX5_prints 68 = .ok (.aload_n 0, 1) := by decide +kernel
theorem dX5_prints_69 : decode cX5_prints 69 = .ok (.getfield 25, 3) := by decide +kernel
theorem dX5_prints_72 : decode cX5_prints 72 = .ok (.iload_n 2, 1) := by decide +kernel
theorem dX5_prints_73 : decode cX5_prints 73 = .ok (.iload 4, 2) := by decide +kernel
theorem dX5_prints_75 : decode cX5_prints 75 = .ok (.iastore, 1) := by decide +kernel
theorem dX5_prints_76 : decode cX5_prints 76 = .ok (.aload_n 0, 1) := by decide +kernel
theorem dX5_prints_77 : decode cX5_prints 77 = .ok (.getfield 28, 3) := by decide +kernel
theorem dX5_prints_80 : decode cX5_prints 80 = .ok (.iload_n 2, 1) := by decide +kernel
theorem dX5_prints_81 : decode cX5_prints 81 = .ok (.iload 4, 2) := by decide +kernel
theorem dX5_prints_83 : decode cX5_prints 83 = .ok (.iload_n 3, 1) := by decide +kernel
theorem dX5_prints_84 : decode cX5_prints 84 = .ok (.iadd, 1) := by decide +kernel
theorem dX5_prints_85 : decode cX5_prints 85 = .ok (.iastore, 1) := by decide +kernel
theorem dX5_prints_86 : decode cX5_prints 86 = .ok (.aload_n 0, 1) := by decide +kernel
theorem dX5_prints_87 : decode cX5_prints 87 = .ok (.getfield 28, 3) := by decide +kernel
theorem dX5_prints_90 : decode cX5_prints 90 = .ok (.iload_n 2, 1) := by decide +kernel
theorem dX5_prints_91 : decode cX5_prints 91 = .ok (.iaload, 1) := by decide +kernel
theorem dX5_prints_92 : decode cX5_prints 92 = .ok (.istore_n 1, 1) := by decide +kernel
theorem dX5_prints_93 : decode cX5_prints 93 = .ok (.iinc 2 1, 3) := by decide +kernel
theorem dX5_prints_96 : decode cX5_prints 96 = .ok (.goto (-92), 3) := by decide +kernel
theorem dX5_prints_99 : decode cX5_prints 99 = .ok (.return_, 1) := by decide +kernel
set_option maxRecDepth 20000 in
theorem ggX5_late_X5_dry : GoodIn wsX5_late wsX5_dry := goodIn_r _ [5, 6, 7, 12, 13, 14, 15, 16, 17, 18, 19, 20, 21, 22, 23, 24, 25] (by decide +kernel) (by decide +kernel)
set_option maxRecDepth 20000 in
theorem gX5_late_X5_dry : GoodIn wsX5_late (wsV RX5 66 RX5 yX5_dry wsX5_dry) := goodIn_app (goodIn_of _ (by decide +kernel)) ggX5_late_X5_dry
set_option maxRecDepth 20000 in
theorem ggX5_late_X5_its : GoodIn wsX5_late wsX5_its := goodIn_r _ [11, 7, 12, 13, 14, 15, 16, 17, 18, 19, 20, 21, 22, 23, 24, 25] (by decide +kernel) (by decide +kernel)
set_option maxRecDepth 20000 in
theorem gX5_late_X5_its : GoodIn wsX5_late (wsV RX5 48 RX5 yX5_its wsX5_its) := goodIn_app (goodIn_of _ (by decide +kernel)) ggX5_late_X5_its
theorem dX5_late_0 : decode cX5_late 0 = .ok (.aload_n 0, 1) := by decide +kernel
theorem dX5_late_1 : decode cX5_late 1 = .ok (.iload_n 1, 1) := by decide +kernel
theorem dX5_late_2 : decode cX5_late 2 = .ok (.invokevirtual 66, 3) := by decide +kernel
theorem dX5_late_5 : decode cX5_late 5 = .ok (.aload_n 0, 1) := by decide +kernel
theorem dX5_late_6 : decode cX5_late 6 = .ok (.iload_n 1, 1) := by decide +kernel
theorem dX5_late_7 : decode cX5_late 7 = .ok (.iconst 3, 1) := by decide +kernel
theorem dX5_late_8 : decode cX5_late 8 = .ok (.invokevirtual 48, 3) := by decide +kernel
theorem dX5_late_11 : decode cX5_late 11 = .ok (.isub, 1) := by decide +kernel
theorem dX5_late_12 : decode cX5_late 12 = .ok (.istore_n 2, 1) := by decide +kernel
theorem dX5_late_13 : decode cX5_late 13 = .ok (.iload_n 2, 1) := by decide +kernel
theorem dX5_late_14 : decode cX5_late 14 = .ok (.ifCond .ge 7, 3) := by decide +kernel
theorem dX5_late_17 : decode cX5_late 17 = .ok (.iconst 0, 1) := by decide +kernel
theorem dX5_late_18 : decode cX5_late 18 = .ok (.goto 4, 3) := by decide +kernel
theorem dX5_late_21 : decode cX5_late 21 = .ok (.iload_n 2, 1) := by decide +kernel
theorem dX5_late_22 : decode cX5_late 22 = .ok (.ireturn, 1) := by decide +kernel
theorem dX5_waits_0 : decode cX5_waits 0 = .ok (.aload_n 0, 1) := by decide +kernel
theorem dX5_waits_1 : decode cX5_waits 1 = .ok (.getfield 25, 3) := by decide +kernel
theorem dX5_waits_4 : decode cX5_waits 4 = .ok (.iload_n 1, 1) := by decide +kernel
theorem dX5_waits_5 : decode cX5_waits 5 = .ok (.iaload, 1) := by decide +kernel
theorem dX5_waits_6 : decode cX5_waits 6 = .ok (.iload_n 1, 1) := by decide +kernel
theorem dX5_waits_7 : decode cX5_waits 7 = .ok (.ifCond .ne 7, 3) := by decide +kernel
theorem dX5_waits_10 : decode cX5_waits 10 = .ok (.iconst 0, 1) := by decide +kernel
theorem dX5_waits_11 : decode cX5_waits 11 = .ok (.goto 11, 3) := by decide +kernel
theorem dX5_waits_14 : decode cX5_waits 14 = .ok (.aload_n 0, 1) := by decide +kernel
theorem dX5_waits_15 : decode cX5_waits 15 = .ok (.getfield 28, 3) := by decide +kernel
theorem dX5_waits_18 : decode cX5_waits 18 = .ok (.iload_n 1, 1) := by decide +kernel
theorem dX5_waits_19 : decode cX5_waits 19 = .ok (.iconst 1, 1) := by decide +kernel
theorem dX5_waits_20 : decode cX5_waits 20 = .ok (.isub, 1) := by decide +kernel
theorem dX5_waits_21 : decode cX5_waits 21 = .ok (.iaload, 1) := by decide +kernel
theorem dX5_waits_22 : decode cX5_waits 22 = .ok (.isub, 1) := by decide +kernel
theorem dX5_waits_23 : decode cX5_waits 23 = .ok (.ireturn, 1) := by decide +kernel
set_option maxRecDepth 20000 in
theorem ggX5_sumOf_X5_its : GoodIn wsX5_sumOf wsX5_its := goodIn_r _ [6, 1, 29, 30, 31, 32, 33, 34, 35, 36, 37, 38, 39, 40, 41, 42] (by decide +kernel) (by decide +kernel)
set_option maxRecDepth 20000 in
theorem gX5_sumOf_X5_its : GoodIn wsX5_sumOf (wsV RX5 48 RX5 yX5_its wsX5_its) := goodIn_app (goodIn_of _ (by decide +kernel)) ggX5_sumOf_X5_its
set_option maxRecDepth 20000 in
theorem ggX5_sumOf_X5_late : GoodIn wsX5_sumOf wsX5_late := goodIn_r _ [10, 11, 12, 13, 5, 14, 15, 1, 2, 3, 4, 6, 29, 30, 31, 32, 33, 34, 35, 36, 37, 38, 39, 40, 41, 42] (by decide +kernel) (by decide +kernel)
set_option maxRecDepth 20000 in
theorem gX5_sumOf_X5_late : GoodIn wsX5_sumOf (wsV RX5 78 RX5 yX5_late wsX5_late) := goodIn_app (goodIn_of _ (by decide +kernel)) ggX5_sumOf_X5_late
set_option maxRecDepth 20000 in
theorem ggX5_sumOf_X5_washFor : GoodIn wsX5_sumOf wsX5_washFor := goodIn_r _ [19, 1, 2, 3, 4, 5, 6, 29, 30, 31, 32, 33, 34, 35, 36, 37, 38, 39, 40, 41, 42] (by decide +kernel) (by decide +kernel)
set_option maxRecDepth 20000 in
theorem gX5_sumOf_X5_washFor : GoodIn wsX5_sumOf (wsV RX5 63 RX5 yX5_washFor wsX5_washFor) := goodIn_app (goodIn_of _ (by decide +kernel)) ggX5_sumOf_X5_washFor
set_option maxRecDepth 20000 in
theorem ggX5_sumOf_X5_isOther : GoodIn wsX5_sumOf wsX5_isOther := goodIn_r _ [23, 2, 3, 4, 5, 6, 1, 29, 30, 31, 32, 33, 34, 35, 36, 37, 38, 39, 40, 41, 42] (by decide +kernel) (by decide +kernel)
set_option maxRecDepth 20000 in
theorem gX5_sumOf_X5_isOther : GoodIn wsX5_sumOf (wsV RX5 81 RX5 yX5_isOther wsX5_isOther) := goodIn_app (goodIn_of _ (by decide +kernel)) ggX5_sumOf_X5_isOther
set_option maxRecDepth 20000 in
theorem ggX5_sumOf_X5_waits : GoodIn wsX5_sumOf wsX5_waits := goodIn_r _ [27, 28, 15, 29, 30, 31, 32, 33, 34, 35, 36, 37, 38, 39, 40, 41, 42] (by decide +kernel) (by decide +kernel)
set_option maxRecDepth 20000 in
theorem gX5_sumOf_X5_waits : GoodIn wsX5_sumOf (wsV RX5 84 RX5 yX5_waits wsX5_waits) := goodIn_app (goodIn_of _ (by decide +kernel)) ggX5_sumOf_X5_waits
theorem dX5_sumOf_0 : decode cX5_sumOf 0 = .ok (.iconst 0, 1) := by decide +kernel
theorem dX5_sumOf_1 : decode cX5_sumOf 1 = .ok (.istore_n 2, 1) := by decide +kernel
theorem dX5_sumOf_2 : decode cX5_sumOf 2 = .ok (.iconst 0, 1) := by decide +kernel
theorem dX5_sumOf_3 : decode cX5_sumOf 3 = .ok (.istore_n 3, 1) := by decide +kernel
theorem dX5_sumOf_4 : decode cX5_sumOf 4 = .ok (.iload_n 3, 1) := by decide +kernel
theorem dX5_sumOf_5 : decode cX5_sumOf 5 = .ok (.aload_n 0, 1) := by decide +kernel
theorem dX5_sumOf_6 : decode cX5_sumOf 6 = .ok (.getfield 7, 3) := by decide +kernel
theorem dX5_sumOf_9 : decode cX5_sumOf 9 = .ok (.bipush 7, 2) := by decide +kernel
theorem dX5_sumOf_11 : decode cX5_sumOf 11 = .ok (.iaload, 1) := by decide +kernel
theorem dX5_sumOf_12 : decode cX5_sumOf 12 = .ok (.if_icmp .ge 96, 3) := by decide +kernel
theorem dX5_sumOf_15 : decode cX5_sumOf 15 = .ok (.iload_n 2, 1) := by decide +kernel
theorem dX5_sumOf_16 : decode cX5_sumOf 16 = .ok (.iload_n 1, 1) := by decide +kernel
theorem dX5_sumOf_17 : decode cX5_sumOf 17 = .ok (.bipush 8, 2) := by decide +kernel
theorem dX5_sumOf_19 : decode cX5_sumOf 19 = .ok (.if_icmp .ne 12, 3) := by decide +kernel
theorem dX5_sumOf_22 : decode cX5_sumOf 22 = .ok (.aload_n 0, 1) := by decide +kernel
theorem dX5_sumOf_23 : decode cX5_sumOf 23 = .ok (.iload_n 3, 1) := by decide +kernel
theorem dX5_sumOf_24 : decode cX5_sumOf 24 = .ok (.iconst 2, 1) := by decide +kernel
theorem dX5_sumOf_25 : decode cX5_sumOf 25 = .ok (.invokevirtual 48, 3) := by decide +kernel
theorem dX5_sumOf_28 : decode cX5_sumOf 28 = .ok (.goto 72, 3) := by decide +kernel
theorem dX5_sumOf_31 : decode cX5_sumOf 31 = .ok (.iload_n 1, 1) := by decide +kernel
theorem dX5_sumOf_32 : decode cX5_sumOf 32 = .ok (.bipush 11, 2) := by decide +kernel
theorem dX5_sumOf_34 : decode cX5_sumOf 34 = .ok (.if_icmp .ne 19, 3) := by decide +kernel
theorem dX5_sumOf_37 : decode cX5_sumOf 37 = .ok (.aload_n 0, 1) := by decide +kernel
theorem dX5_sumOf_38 : decode cX5_sumOf 38 = .ok (.iload_n 3, 1) := by decide +kernel
theorem dX5_sumOf_39 : decode cX5_sumOf 39 = .ok (.invokevirtual 78, 3) := by decide +kernel
theorem dX5_sumOf_42 : decode cX5_sumOf 42 = .ok (.ifCond .le 7, 3) := by decide +kernel
theorem dX5_sumOf_45 : decode cX5_sumOf 45 = .ok (.iconst 1, 1) := by decide +kernel
theorem dX5_sumOf_46 : decode cX5_sumOf 46 = .ok (.goto 54, 3) := by decide +kernel
theorem dX5_sumOf_49 : decode cX5_sumOf 49 = .ok (.iconst 0, 1) := by decide +kernel
theorem dX5_sumOf_50 : decode cX5_sumOf 50 = .ok (.goto 50, 3) := by decide +kernel
theorem dX5_sumOf_53 : decode cX5_sumOf 53 = .ok (.iload_n 1, 1) := by decide +kernel
theorem dX5_sumOf_54 : decode cX5_sumOf 54 = .ok (.bipush 12, 2) := by decide +kernel
theorem dX5_sumOf_56 : decode cX5_sumOf 56 = .ok (.if_icmp .ne 11, 3) := by decide +kernel
theorem dX5_sumOf_59 : decode cX5_sumOf 59 = .ok (.aload_n 0, 1) := by decide +kernel
theorem dX5_sumOf_60 : decode cX5_sumOf 60 = .ok (.iload_n 3, 1) := by decide +kernel
theorem dX5_sumOf_61 : decode cX5_sumOf 61 = .ok (.invokevirtual 78, 3) := by decide +kernel
theorem dX5_sumOf_64 : decode cX5_sumOf 64 = .ok (.goto 36, 3) := by decide +kernel
theorem dX5_sumOf_67 : decode cX5_sumOf 67 = .ok (.iload_n 1, 1) := by decide +kernel
theorem dX5_sumOf_68 : decode cX5_sumOf 68 = .ok (.bipush 14, 2) := by decide +kernel
theorem dX5_sumOf_70 : decode cX5_sumOf 70 = .ok (.if_icmp .ne 11, 3) := by decide +kernel
theorem dX5_sumOf_73 : decode cX5_sumOf 73 = .ok (.aload_n 0, 1) := by decide +kernel
theorem dX5_sumOf_74 : decode cX5_sumOf 74 = .ok (.iload_n 3, 1) := by decide +kernel
theorem dX5_sumOf_75 : decode cX5_sumOf 75 = .ok (.invokevirtual 63, 3) := by decide +kernel
theorem dX5_sumOf_78 : decode cX5_sumOf 78 = .ok (.goto 22, 3) := by decide +kernel
theorem dX5_sumOf_81 : decode cX5_sumOf 81 = .ok (.iload_n 1, 1) := by decide +kernel
theorem dX5_sumOf_82 : decode cX5_sumOf 82 = .ok (.bipush 15, 2) := by decide +kernel
theorem dX5_sumOf_84 : decode cX5_sumOf 84 = .ok (.if_icmp .ne 11, 3) := by decide +kernel
theorem dX5_sumOf_87 : decode cX5_sumOf 87 = .ok (.aload_n 0, 1) := by decide +kernel
theorem dX5_sumOf_88 : decode cX5_sumOf 88 = .ok (.iload_n 3, 1) := by decide +kernel
theorem dX5_sumOf_89 : decode cX5_sumOf 89 = .ok (.invokevirtual 81, 3) := by decide +kernel
theorem dX5_sumOf_92 : decode cX5_sumOf 92 = .ok (.goto 8, 3) := by decide +kernel
theorem dX5_sumOf_95 : decode cX5_sumOf 95 = .ok (.aload_n 0, 1) := by decide +kernel
theorem dX5_sumOf_96 : decode cX5_sumOf 96 = .ok (.iload_n 3, 1) := by decide +kernel
theorem dX5_sumOf_97 : decode cX5_sumOf 97 = .ok (.invokevirtual 84, 3) := by decide +kernel
theorem dX5_sumOf_100 : decode cX5_sumOf 100 = .ok (.iadd, 1) := by decide +kernel
theorem dX5_sumOf_101 : decode cX5_sumOf 101 = .ok (.istore_n 2, 1) := by decide +kernel
theorem dX5_sumOf_102 : decode cX5_sumOf 102 = .ok (.iinc 3 1, 3) := by decide +kernel
theorem dX5_sumOf_105 : decode cX5_sumOf 105 = .ok (.goto (-101), 3) := by decide +kernel
theorem dX5_sumOf_108 : decode cX5_sumOf 108 = .ok (.iload_n 2, 1) := by decide +kernel
theorem dX5_sumOf_109 : decode cX5_sumOf 109 = .ok (.ireturn, 1) := by decide +kernel
set_option maxRecDepth 20000 in
theorem ggX5_isOther_X5_its : GoodIn wsX5_isOther wsX5_its := goodIn_r _ [5, 6, 7, 8, 9, 10, 11, 12, 13, 14, 15, 16, 17, 18, 19, 20] (by decide +kernel) (by decide +kernel)
set_option maxRecDepth 20000 in
theorem gX5_isOther_X5_its : GoodIn wsX5_isOther (wsV RX5 48 RX5 yX5_its wsX5_its) := goodIn_app (goodIn_of _ (by decide +kernel)) ggX5_isOther_X5_its
theorem dX5_isOther_0 : decode cX5_isOther 0 = .ok (.iload_n 1, 1) := by decide +kernel
theorem dX5_isOther_1 : decode cX5_isOther 1 = .ok (.ifCond .le 24, 3) := by decide +kernel
theorem dX5_isOther_4 : decode cX5_isOther 4 = .ok (.aload_n 0, 1) := by decide +kernel
theorem dX5_isOther_5 : decode cX5_isOther 5 = .ok (.iload_n 1, 1) := by decide +kernel
theorem dX5_isOther_6 : decode cX5_isOther 6 = .ok (.iconst 1, 1) := by decide +kernel
theorem dX5_isOther_7 : decode cX5_isOther 7 = .ok (.isub, 1) := by decide +kernel
theorem dX5_isOther_8 : decode cX5_isOther 8 = .ok (.iconst 0, 1) := by decide +kernel
theorem dX5_isOther_9 : decode cX5_isOther 9 = .ok (.invokevirtual 48, 3) := by decide +kernel
theorem dX5_isOther_12 : decode cX5_isOther 12 = .ok (.aload_n 0, 1) := by decide +kernel
theorem dX5_isOther_13 : decode cX5_isOther 13 = .ok (.iload_n 1, 1) := by decide +kernel
theorem dX5_isOther_14 : decode cX5_isOther 14 = .ok (.iconst 0, 1) := by decide +kernel
theorem dX5_isOther_15 : decode cX5_isOther 15 = .ok (.invokevirtual 48, 3) := by decide +kernel
theorem dX5_isOther_18 : decode cX5_isOther 18 = .ok (.if_icmp .ne 7, 3) := by decide +kernel
theorem dX5_isOther_21 : decode cX5_isOther 21 = .ok (.iconst 0, 1) := by decide +kernel
theorem dX5_isOther_22 : decode cX5_isOther 22 = .ok (.goto 4, 3) := by decide +kernel
theorem dX5_isOther_25 : decode cX5_isOther 25 = .ok (.iconst 1, 1) := by decide +kernel
theorem dX5_isOther_26 : decode cX5_isOther 26 = .ok (.ireturn, 1) := by decide +kernel
set_option maxRecDepth 20000 in
theorem ggX5_greatestOf_X5_dry : GoodIn wsX5_greatestOf wsX5_dry := goodIn_r _ [7, 2, 1, 28, 29, 30, 31, 32, 33, 34, 35, 36, 37, 38, 39, 40, 41] (by decide +kernel) (by decide +kernel)
set_option maxRecDepth 20000 in
theorem gX5_greatestOf_X5_dry : GoodIn wsX5_greatestOf (wsV RX5 66 RX5 yX5_dry wsX5_dry) := goodIn_app (goodIn_of _ (by decide +kernel)) ggX5_greatestOf_X5_dry
set_option maxRecDepth 20000 in
theorem ggX5_greatestOf_X5_late : GoodIn wsX5_greatestOf wsX5_late := goodIn_r _ [11, 3, 4, 5, 6, 7, 2, 1, 12, 13, 14, 15, 28, 29, 30, 31, 32, 33, 34, 35, 36, 37, 38, 39, 40, 41] (by decide +kernel) (by decide +kernel)
set_option maxRecDepth 20000 in
theorem gX5_greatestOf_X5_late : GoodIn wsX5_greatestOf (wsV RX5 78 RX5 yX5_late wsX5_late) := goodIn_app (goodIn_of _ (by decide +kernel)) ggX5_greatestOf_X5_late
set_option maxRecDepth 20000 in
theorem ggX5_greatestOf_X5_taken : GoodIn wsX5_greatestOf wsX5_taken := goodIn_r _ [19, 2, 3, 4, 5, 6, 7, 1, 20, 21, 22, 23, 12, 13, 14, 15, 24, 25, 26, 27, 28, 29, 30, 31, 32, 33, 34, 35, 36, 37, 38, 39, 40, 41] (by decide +kernel) (by decide +kernel)
set_option maxRecDepth 20000 in
theorem gX5_greatestOf_X5_taken : GoodIn wsX5_greatestOf (wsV RX5 75 RX5 yX5_taken wsX5_taken) := goodIn_app (goodIn_of _ (by decide +kernel)) ggX5_greatestOf_X5_taken
theorem dX5_greatestOf_0 : decode cX5_greatestOf 0 = .ok (.iconst 0, 1) := by decide +kernel
theorem dX5_greatestOf_1 : decode cX5_greatestOf 1 = .ok (.istore_n 2, 1) := by decide +kernel
theorem dX5_greatestOf_2 : decode cX5_greatestOf 2 = .ok (.iconst 0, 1) := by decide +kernel
theorem dX5_greatestOf_3 : decode cX5_greatestOf 3 = .ok (.istore_n 3, 1) := by decide +kernel
theorem dX5_greatestOf_4 : decode cX5_greatestOf 4 = .ok (.iload_n 3, 1) := by decide +kernel
theorem dX5_greatestOf_5 : decode cX5_greatestOf 5 = .ok (.aload_n 0, 1) := by decide +kernel
theorem dX5_greatestOf_6 : decode cX5_greatestOf 6 = .ok (.getfield 7, 3) := by decide +kernel
theorem dX5_greatestOf_9 : decode cX5_greatestOf 9 = .ok (.bipush 7, 2) := by decide +kernel
theorem dX5_greatestOf_11 : decode cX5_greatestOf 11 = .ok (.iaload, 1) := by decide +kernel
theorem dX5_greatestOf_12 : decode cX5_greatestOf 12 = .ok (.if_icmp .ge 84, 3) := by decide +kernel
theorem dX5_greatestOf_15 : decode cX5_greatestOf 15 = .ok (.iload_n 1, 1) := by decide +kernel
theorem dX5_greatestOf_16 : decode cX5_greatestOf 16 = .ok (.bipush 9, 2) := by decide +kernel
theorem dX5_greatestOf_18 : decode cX5_greatestOf 18 = .ok (.if_icmp .ne 12, 3) := by decide +kernel
theorem dX5_greatestOf_21 : decode cX5_greatestOf 21 = .ok (.aload_n 0, 1) := by decide +kernel
theorem dX5_greatestOf_22 : decode cX5_greatestOf 22 = .ok (.getfield 28, 3) := by decide +kernel
theorem dX5_greatestOf_25 : decode cX5_greatestOf 25 = .ok (.iload_n 3, 1) := by decide +kernel
theorem dX5_greatestOf_26 : decode cX5_greatestOf 26 = .ok (.iaload, 1) := by decide +kernel
theorem dX5_greatestOf_27 : decode cX5_greatestOf 27 = .ok (.goto 48, 3) := by decide +kernel
theorem dX5_greatestOf_30 : decode cX5_greatestOf 30 = .ok (.iload_n 1, 1) := by decide +kernel
theorem dX5_greatestOf_31 : decode cX5_greatestOf 31 = .ok (.bipush 10, 2) := by decide +kernel
theorem dX5_greatestOf_33 : decode cX5_greatestOf 33 = .ok (.if_icmp .ne 11, 3) := by decide +kernel
theorem dX5_greatestOf_36 : decode cX5_greatestOf 36 = .ok (.aload_n 0, 1) := by decide +kernel
theorem dX5_greatestOf_37 : decode cX5_greatestOf 37 = .ok (.iload_n 3, 1) := by decide +kernel
theorem dX5_greatestOf_38 : decode cX5_greatestOf 38 = .ok (.invokevirtual 66, 3) := by decide +kernel
theorem dX5_greatestOf_41 : decode cX5_greatestOf 41 = .ok (.goto 34, 3) := by decide +kernel
theorem dX5_greatestOf_44 : decode cX5_greatestOf 44 = .ok (.iload_n 1, 1) := by decide +kernel
theorem dX5_greatestOf_45 : decode cX5_greatestOf 45 = .ok (.bipush 13, 2) := by decide +kernel
theorem dX5_greatestOf_47 : decode cX5_greatestOf 47 = .ok (.if_icmp .ne 11, 3) := by decide +kernel
theorem dX5_greatestOf_50 : decode cX5_greatestOf 50 = .ok (.aload_n 0, 1) := by decide +kernel
theorem dX5_greatestOf_51 : decode cX5_greatestOf 51 = .ok (.iload_n 3, 1) := by decide +kernel
theorem dX5_greatestOf_52 : decode cX5_greatestOf 52 = .ok (.invokevirtual 78, 3) := by decide +kernel
theorem dX5_greatestOf_55 : decode cX5_greatestOf 55 = .ok (.goto 20, 3) := by decide +kernel
theorem dX5_greatestOf_58 : decode cX5_greatestOf 58 = .ok (.aload_n 0, 1) := by decide +kernel
theorem dX5_greatestOf_59 : decode cX5_greatestOf 59 = .ok (.aload_n 0, 1) := by decide +kernel
theorem dX5_greatestOf_60 : decode cX5_greatestOf 60 = .ok (.getfield 7, 3) := by decide +kernel
theorem dX5_greatestOf_63 : decode cX5_greatestOf 63 = .ok (.bipush 7, 2) := by decide +kernel
theorem dX5_greatestOf_65 : decode cX5_greatestOf 65 = .ok (.iaload, 1) := by decide +kernel
theorem dX5_greatestOf_66 : decode cX5_greatestOf 66 = .ok (.aload_n 0, 1) := by decide +kernel
theorem dX5_greatestOf_67 : decode cX5_greatestOf 67 = .ok (.getfield 28, 3) := by decide +kernel
theorem dX5_greatestOf_70 : decode cX5_greatestOf 70 = .ok (.iload_n 3, 1) := by decide +kernel
theorem dX5_greatestOf_71 : decode cX5_greatestOf 71 = .ok (.iaload, 1) := by decide +kernel
theorem dX5_greatestOf_72 : decode cX5_greatestOf 72 = .ok (.invokevirtual 75, 3) := by decide +kernel
theorem dX5_greatestOf_75 : decode cX5_greatestOf 75 = .ok (.istore 4, 2) := by decide +kernel
theorem dX5_greatestOf_77 : decode cX5_greatestOf 77 = .ok (.iload 4, 2) := by decide +kernel
theorem dX5_greatestOf_79 : decode cX5_greatestOf 79 = .ok (.iload_n 2, 1) := by decide +kernel
theorem dX5_greatestOf_80 : decode cX5_greatestOf 80 = .ok (.if_icmp .le 8, 3) := by decide +kernel
theorem dX5_greatestOf_83 : decode cX5_greatestOf 83 = .ok (.iload 4, 2) := by decide +kernel
theorem dX5_greatestOf_85 : decode cX5_greatestOf 85 = .ok (.goto 4, 3) := by decide +kernel
theorem dX5_greatestOf_88 : decode cX5_greatestOf 88 = .ok (.iload_n 2, 1) := by decide +kernel
theorem dX5_greatestOf_89 : decode cX5_greatestOf 89 = .ok (.istore_n 2, 1) := by decide +kernel
theorem dX5_greatestOf_90 : decode cX5_greatestOf 90 = .ok (.iinc 3 1, 3) := by decide +kernel
theorem dX5_greatestOf_93 : decode cX5_greatestOf 93 = .ok (.goto (-89), 3) := by decide +kernel
theorem dX5_greatestOf_96 : decode cX5_greatestOf 96 = .ok (.iload_n 2, 1) := by decide +kernel
theorem dX5_greatestOf_97 : decode cX5_greatestOf 97 = .ok (.ireturn, 1) := by decide +kernel
set_option maxRecDepth 20000 in
theorem ggX5_lateAll_X5_prints : GoodIn wsX5_lateAll wsX5_prints := goodIn_r _ [5, 6, 7, 8, 9, 10, 11, 4, 12, 13, 14, 15, 16, 17, 18, 19, 20, 21, 22, 23, 24, 25, 26, 27, 28, 29, 30, 31, 32, 33, 34, 35, 36, 37, 38, 39, 40, 57, 58, 59, 60, 61, 62, 63, 64, 65, 66, 67, 68, 69, 70] (by decide +kernel) (by decide +kernel)
set_option maxRecDepth 20000 in
theorem gX5_lateAll_X5_prints : GoodIn wsX5_lateAll (wsV RX5 87 RX5 yX5_prints wsX5_prints) := goodIn_app (goodIn_of _ (by decide +kernel)) ggX5_lateAll_X5_prints
set_option maxRecDepth 20000 in
theorem ggX5_lateAll_X5_sumOf : GoodIn wsX5_lateAll wsX5_sumOf := goodIn_r _ [44, 6, 17, 18, 19, 4, 20, 45, 46, 47, 48, 29, 30, 31, 32, 8, 21, 22, 23, 24, 49, 50, 51, 52, 53, 54, 55, 56, 7, 57, 58, 59, 60, 61, 62, 63, 64, 65, 66, 67, 68, 69, 70] (by decide +kernel) (by decide +kernel)
set_option maxRecDepth 20000 in
theorem gX5_lateAll_X5_sumOf : GoodIn wsX5_lateAll (wsV RX5 90 RX5 yX5_sumOf wsX5_sumOf) := goodIn_app (goodIn_of _ (by decide +kernel)) ggX5_lateAll_X5_sumOf
theorem dX5_lateAll_0 : decode cX5_lateAll 0 = .ok (.aload_n 0, 1) := by decide +kernel
theorem dX5_lateAll_1 : decode cX5_lateAll 1 = .ok (.invokevirtual 87, 3) := by decide +kernel
theorem dX5_lateAll_4 : decode cX5_lateAll 4 = .ok (.aload_n 0, 1) := by decide +kernel
theorem dX5_lateAll_5 : decode cX5_lateAll 5 = .ok (.bipush 12, 2) := by decide +kernel
theorem dX5_lateAll_7 : decode cX5_lateAll 7 = .ok (.invokevirtual 90, 3) := by decide +kernel
theorem dX5_lateAll_10 : decode cX5_lateAll 10 = .ok (.ireturn, 1) := by decide +kernel
set_option maxRecDepth 20000 in
theorem ggX5_isSetting_X5_in : GoodIn wsX5_isSetting wsX5_in := goodIn_r _ [10] (by decide +kernel) (by decide +kernel)
set_option maxRecDepth 20000 in
theorem gX5_isSetting_X5_in : GoodIn wsX5_isSetting (va_wsS RX5 44 yX5_in wsX5_in) := goodIn_app (goodIn_of _ (by decide +kernel)) ggX5_isSetting_X5_in
theorem dX5_isSetting_0 : decode cX5_isSetting 0 = .ok (.iload_n 0, 1) := by decide +kernel
theorem dX5_isSetting_1 : decode cX5_isSetting 1 = .ok (.tableswitch 105 0 6 #[43, 43, 53, 63, 73, 83, 95], 43) := by decide +kernel
theorem dX5_isSetting_44 : decode cX5_isSetting 44 = .ok (.iload_n 1, 1) := by decide +kernel
theorem dX5_isSetting_45 : decode cX5_isSetting 45 = .ok (.i2l, 1) := by decide +kernel
theorem dX5_isSetting_46 : decode cX5_isSetting 46 = .ok (.lconst 0, 1) := by decide +kernel
theorem dX5_isSetting_47 : decode cX5_isSetting 47 = .ok (.ldc2_w 93, 3) := by decide +kernel
theorem dX5_isSetting_50 : decode cX5_isSetting 50 = .ok (.invokestatic 44, 3) := by decide +kernel
theorem dX5_isSetting_53 : decode cX5_isSetting 53 = .ok (.ireturn, 1) := by decide +kernel
theorem dX5_isSetting_54 : decode cX5_isSetting 54 = .ok (.iload_n 1, 1) := by decide +kernel
theorem dX5_isSetting_55 : decode cX5_isSetting 55 = .ok (.i2l, 1) := by decide +kernel
theorem dX5_isSetting_56 : decode cX5_isSetting 56 = .ok (.lconst 0, 1) := by decide +kernel
theorem dX5_isSetting_57 : decode cX5_isSetting 57 = .ok (.ldc2_w 95, 3) := by decide +kernel
theorem dX5_isSetting_60 : decode cX5_isSetting 60 = .ok (.invokestatic 44, 3) := by decide +kernel
theorem dX5_isSetting_63 : decode cX5_isSetting 63 = .ok (.ireturn, 1) := by decide +kernel
theorem dX5_isSetting_64 : decode cX5_isSetting 64 = .ok (.iload_n 1, 1) := by decide +kernel
theorem dX5_isSetting_65 : decode cX5_isSetting 65 = .ok (.i2l, 1) := by decide +kernel
theorem dX5_isSetting_66 : decode cX5_isSetting 66 = .ok (.lconst 1, 1) := by decide +kernel
theorem dX5_isSetting_67 : decode cX5_isSetting 67 = .ok (.ldc2_w 97, 3) := by decide +kernel
theorem dX5_isSetting_70 : decode cX5_isSetting 70 = .ok (.invokestatic 44, 3) := by decide +kernel
theorem dX5_isSetting_73 : decode cX5_isSetting 73 = .ok (.ireturn, 1) := by decide +kernel
theorem dX5_isSetting_74 : decode cX5_isSetting 74 = .ok (.iload_n 1, 1) := by decide +kernel
theorem dX5_isSetting_75 : decode cX5_isSetting 75 = .ok (.i2l, 1) := by decide +kernel
theorem dX5_isSetting_76 : decode cX5_isSetting 76 = .ok (.lconst 0, 1) := by decide +kernel
theorem dX5_isSetting_77 : decode cX5_isSetting 77 = .ok (.ldc2_w 99, 3) := by decide +kernel
theorem dX5_isSetting_80 : decode cX5_isSetting 80 = .ok (.invokestatic 44, 3) := by decide +kernel
theorem dX5_isSetting_83 : decode cX5_isSetting 83 = .ok (.ireturn, 1) := by decide +kernel
theorem dX5_isSetting_84 : decode cX5_isSetting 84 = .ok (.iload_n 1, 1) := by decide +kernel
theorem dX5_isSetting_85 : decode cX5_isSetting 85 = .ok (.i2l, 1) := by decide +kernel
theorem dX5_isSetting_86 : decode cX5_isSetting 86 = .ok (.ldc2_w 101, 3) := by decide +kernel
theorem dX5_isSetting_89 : decode cX5_isSetting 89 = .ok (.ldc2_w 97, 3) := by decide +kernel
theorem dX5_isSetting_92 : decode cX5_isSetting 92 = .ok (.invokestatic 44, 3) := by decide +kernel
theorem dX5_isSetting_95 : decode cX5_isSetting 95 = .ok (.ireturn, 1) := by decide +kernel
theorem dX5_isSetting_96 : decode cX5_isSetting 96 = .ok (.iload_n 1, 1) := by decide +kernel
theorem dX5_isSetting_97 : decode cX5_isSetting 97 = .ok (.i2l, 1) := by decide +kernel
theorem dX5_isSetting_98 : decode cX5_isSetting 98 = .ok (.lconst 1, 1) := by decide +kernel
theorem dX5_isSetting_99 : decode cX5_isSetting 99 = .ok (.ldc2_w 103, 3) := by decide +kernel
theorem dX5_isSetting_102 : decode cX5_isSetting 102 = .ok (.invokestatic 44, 3) := by decide +kernel
theorem dX5_isSetting_105 : decode cX5_isSetting 105 = .ok (.ireturn, 1) := by decide +kernel
theorem dX5_isSetting_106 : decode cX5_isSetting 106 = .ok (.iconst 0, 1) := by decide +kernel
theorem dX5_isSetting_107 : decode cX5_isSetting 107 = .ok (.ireturn, 1) := by decide +kernel
set_option maxRecDepth 20000 in
theorem ggX5_mostNeeded_X5_racksOf : GoodIn wsX5_mostNeeded wsX5_racksOf := goodIn_r _ [6, 7, 8, 9, 5, 10, 1, 11, 12, 13, 14, 15, 16, 17, 18, 19, 20, 21, 22, 23, 24, 25, 26, 27, 28] (by decide +kernel) (by decide +kernel)
set_option maxRecDepth 20000 in
theorem gX5_mostNeeded_X5_racksOf : GoodIn wsX5_mostNeeded (wsV RX5 69 RX5 yX5_racksOf wsX5_racksOf) := goodIn_app (goodIn_of _ (by decide +kernel)) ggX5_mostNeeded_X5_racksOf
theorem dX5_mostNeeded_0 : decode cX5_mostNeeded 0 = .ok (.iconst 0, 1) := by decide +kernel
theorem dX5_mostNeeded_1 : decode cX5_mostNeeded 1 = .ok (.istore_n 1, 1) := by decide +kernel
theorem dX5_mostNeeded_2 : decode cX5_mostNeeded 2 = .ok (.iconst 0, 1) := by decide +kernel
theorem dX5_mostNeeded_3 : decode cX5_mostNeeded 3 = .ok (.istore_n 2, 1) := by decide +kernel
theorem dX5_mostNeeded_4 : decode cX5_mostNeeded 4 = .ok (.iload_n 2, 1) := by decide +kernel
theorem dX5_mostNeeded_5 : decode cX5_mostNeeded 5 = .ok (.aload_n 0, 1) := by decide +kernel
theorem dX5_mostNeeded_6 : decode cX5_mostNeeded 6 = .ok (.getfield 7, 3) := by decide +kernel
theorem dX5_mostNeeded_9 : decode cX5_mostNeeded 9 = .ok (.bipush 7, 2) := by decide +kernel
theorem dX5_mostNeeded_11 : decode cX5_mostNeeded 11 = .ok (.iaload, 1) := by decide +kernel
theorem dX5_mostNeeded_12 : decode cX5_mostNeeded 12 = .ok (.if_icmp .ge 28, 3) := by decide +kernel
theorem dX5_mostNeeded_15 : decode cX5_mostNeeded 15 = .ok (.aload_n 0, 1) := by decide +kernel
theorem dX5_mostNeeded_16 : decode cX5_mostNeeded 16 = .ok (.iload_n 2, 1) := by decide +kernel
theorem dX5_mostNeeded_17 : decode cX5_mostNeeded 17 = .ok (.invokevirtual 69, 3) := by decide +kernel
theorem dX5_mostNeeded_20 : decode cX5_mostNeeded 20 = .ok (.iload_n 1, 1) := by decide +kernel
theorem dX5_mostNeeded_21 : decode cX5_mostNeeded 21 = .ok (.if_icmp .le 11, 3) := by decide +kernel
theorem dX5_mostNeeded_24 : decode cX5_mostNeeded 24 = .ok (.aload_n 0, 1) := by decide +kernel
theorem dX5_mostNeeded_25 : decode cX5_mostNeeded 25 = .ok (.iload_n 2, 1) := by decide +kernel
theorem dX5_mostNeeded_26 : decode cX5_mostNeeded 26 = .ok (.invokevirtual 69, 3) := by decide +kernel
theorem dX5_mostNeeded_29 : decode cX5_mostNeeded 29 = .ok (.goto 4, 3) := by decide +kernel
theorem dX5_mostNeeded_32 : decode cX5_mostNeeded 32 = .ok (.iload_n 1, 1) := by decide +kernel
theorem dX5_mostNeeded_33 : decode cX5_mostNeeded 33 = .ok (.istore_n 1, 1) := by decide +kernel
theorem dX5_mostNeeded_34 : decode cX5_mostNeeded 34 = .ok (.iinc 2 1, 3) := by decide +kernel
theorem dX5_mostNeeded_37 : decode cX5_mostNeeded 37 = .ok (.goto (-33), 3) := by decide +kernel
theorem dX5_mostNeeded_40 : decode cX5_mostNeeded 40 = .ok (.iload_n 1, 1) := by decide +kernel
theorem dX5_mostNeeded_41 : decode cX5_mostNeeded 41 = .ok (.ireturn, 1) := by decide +kernel
set_option maxRecDepth 20000 in
theorem ggX5_set_X5_isSetting : GoodIn wsX5_set wsX5_isSetting := goodIn_r _ [5, 6, 7, 8, 9, 10, 11, 12, 13, 4, 14] (by decide +kernel) (by decide +kernel)
set_option maxRecDepth 20000 in
theorem gX5_set_X5_isSetting : GoodIn wsX5_set (va_wsS RX5 105 yX5_isSetting wsX5_isSetting) := goodIn_app (goodIn_of _ (by decide +kernel)) ggX5_set_X5_isSetting
set_option maxRecDepth 20000 in
theorem ggX5_set_X5_mostNeeded : GoodIn wsX5_set wsX5_mostNeeded := goodIn_r _ [18, 1, 19, 20, 21, 4, 22, 23, 24, 25, 26, 27, 28, 29, 30, 37, 38, 39, 40, 41, 42, 43, 44, 45, 46, 47, 48, 49, 50] (by decide +kernel) (by decide +kernel)
set_option maxRecDepth 20000 in
theorem gX5_set_X5_mostNeeded : GoodIn wsX5_set (wsV RX5 109 RX5 yX5_mostNeeded wsX5_mostNeeded) := goodIn_app (goodIn_of _ (by decide +kernel)) ggX5_set_X5_mostNeeded
set_option maxRecDepth 20000 in
theorem ggX5_set_X5_changes : GoodIn wsX5_set wsX5_changes := goodIn_r _ [34, 35, 36, 1, 37, 38, 39, 40, 41, 42, 43, 44, 45, 46, 47, 48, 49, 50] (by decide +kernel) (by decide +kernel)
set_option maxRecDepth 20000 in
theorem gX5_set_X5_changes : GoodIn wsX5_set (wsV RX5 113 RX5 yX5_changes wsX5_changes) := goodIn_app (goodIn_of _ (by decide +kernel)) ggX5_set_X5_changes
theorem dX5_set_0 : decode cX5_set 0 = .ok (.iload_n 1, 1) := by decide +kernel
theorem dX5_set_1 : decode cX5_set 1 = .ok (.iload_n 2, 1) := by decide +kernel
theorem dX5_set_2 : decode cX5_set 2 = .ok (.invokestatic 105, 3) := by decide +kernel
theorem dX5_set_5 : decode cX5_set 5 = .ok (.ifCond .ne 6, 3) := by decide +kernel
theorem dX5_set_8 : decode cX5_set 8 = .ok (.bipush (-2), 2) := by decide +kernel
theorem dX5_set_10 : decode cX5_set 10 = .ok (.ireturn, 1) := by decide +kernel
theorem dX5_set_11 : decode cX5_set 11 = .ok (.aload_n 0, 1) := by decide +kernel
theorem dX5_set_12 : decode cX5_set 12 = .ok (.getfield 7, 3) := by decide +kernel
theorem dX5_set_15 : decode cX5_set 15 = .ok (.iload_n 1, 1) := by decide +kernel
theorem dX5_set_16 : decode cX5_set 16 = .ok (.iaload, 1) := by decide +kernel
theorem dX5_set_17 : decode cX5_set 17 = .ok (.istore_n 3, 1) := by decide +kernel
theorem dX5_set_18 : decode cX5_set 18 = .ok (.aload_n 0, 1) := by decide +kernel
theorem dX5_set_19 : decode cX5_set 19 = .ok (.getfield 7, 3) := by decide +kernel
theorem dX5_set_22 : decode cX5_set 22 = .ok (.iload_n 1, 1) := by decide +kernel
theorem dX5_set_23 : decode cX5_set 23 = .ok (.iload_n 2, 1) := by decide +kernel
theorem dX5_set_24 : decode cX5_set 24 = .ok (.iastore, 1) := by decide +kernel
theorem dX5_set_25 : decode cX5_set 25 = .ok (.aload_n 0, 1) := by decide +kernel
theorem dX5_set_26 : decode cX5_set 26 = .ok (.invokevirtual 109, 3) := by decide +kernel
theorem dX5_set_29 : decode cX5_set 29 = .ok (.aload_n 0, 1) := by decide +kernel
theorem dX5_set_30 : decode cX5_set 30 = .ok (.getfield 7, 3) := by decide +kernel
theorem dX5_set_33 : decode cX5_set 33 = .ok (.iconst 5, 1) := by decide +kernel
theorem dX5_set_34 : decode cX5_set 34 = .ok (.iaload, 1) := by decide +kernel
theorem dX5_set_35 : decode cX5_set 35 = .ok (.if_icmp .gt 7, 3) := by decide +kernel
theorem dX5_set_38 : decode cX5_set 38 = .ok (.iconst 1, 1) := by decide +kernel
theorem dX5_set_39 : decode cX5_set 39 = .ok (.goto 4, 3) := by decide +kernel
theorem dX5_set_42 : decode cX5_set 42 = .ok (.iconst 0, 1) := by decide +kernel
theorem dX5_set_43 : decode cX5_set 43 = .ok (.istore 4, 2) := by decide +kernel
theorem dX5_set_45 : decode cX5_set 45 = .ok (.aload_n 0, 1) := by decide +kernel
theorem dX5_set_46 : decode cX5_set 46 = .ok (.getfield 7, 3) := by decide +kernel
theorem dX5_set_49 : decode cX5_set 49 = .ok (.iload_n 1, 1) := by decide +kernel
theorem dX5_set_50 : decode cX5_set 50 = .ok (.iload_n 3, 1) := by decide +kernel
theorem dX5_set_51 : decode cX5_set 51 = .ok (.iastore, 1) := by decide +kernel
theorem dX5_set_52 : decode cX5_set 52 = .ok (.iload 4, 2) := by decide +kernel
theorem dX5_set_54 : decode cX5_set 54 = .ok (.ifCond .ne 6, 3) := by decide +kernel
theorem dX5_set_57 : decode cX5_set 57 = .ok (.bipush (-5), 2) := by decide +kernel
theorem dX5_set_59 : decode cX5_set 59 = .ok (.ireturn, 1) := by decide +kernel
theorem dX5_set_60 : decode cX5_set 60 = .ok (.aload_n 0, 1) := by decide +kernel
theorem dX5_set_61 : decode cX5_set 61 = .ok (.invokevirtual 113, 3) := by decide +kernel
theorem dX5_set_64 : decode cX5_set 64 = .ok (.aload_n 0, 1) := by decide +kernel
theorem dX5_set_65 : decode cX5_set 65 = .ok (.getfield 7, 3) := by decide +kernel
theorem dX5_set_68 : decode cX5_set 68 = .ok (.iload_n 1, 1) := by decide +kernel
theorem dX5_set_69 : decode cX5_set 69 = .ok (.iload_n 2, 1) := by decide +kernel
theorem dX5_set_70 : decode cX5_set 70 = .ok (.iastore, 1) := by decide +kernel
theorem dX5_set_71 : decode cX5_set 71 = .ok (.iload_n 3, 1) := by decide +kernel
theorem dX5_set_72 : decode cX5_set 72 = .ok (.ireturn, 1) := by decide +kernel
theorem dX5_puts_0 : decode cX5_puts 0 = .ok (.bipush 8, 2) := by decide +kernel
theorem dX5_puts_2 : decode cX5_puts 2 = .ok (.iconst 4, 1) := by decide +kernel
theorem dX5_puts_3 : decode cX5_puts 3 = .ok (.aload_n 0, 1) := by decide +kernel
theorem dX5_puts_4 : decode cX5_puts 4 = .ok (.getfield 7, 3) := by decide +kernel
theorem dX5_puts_7 : decode cX5_puts 7 = .ok (.bipush 7, 2) := by decide +kernel
theorem dX5_puts_9 : decode cX5_puts 9 = .ok (.iaload, 1) := by decide +kernel
theorem dX5_puts_10 : decode cX5_puts 10 = .ok (.imul, 1) := by decide +kernel
theorem dX5_puts_11 : decode cX5_puts 11 = .ok (.iadd, 1) := by decide +kernel
theorem dX5_puts_12 : decode cX5_puts 12 = .ok (.istore 5, 2) := by decide +kernel
theorem dX5_puts_14 : decode cX5_puts 14 = .ok (.aload_n 0, 1) := by decide +kernel
theorem dX5_puts_15 : decode cX5_puts 15 = .ok (.getfield 7, 3) := by decide +kernel
theorem dX5_puts_18 : decode cX5_puts 18 = .ok (.iload 5, 2) := by decide +kernel
theorem dX5_puts_20 : decode cX5_puts 20 = .ok (.iconst 0, 1) := by decide +kernel
theorem dX5_puts_21 : decode cX5_puts 21 = .ok (.iadd, 1) := by decide +kernel
theorem dX5_puts_22 : decode cX5_puts 22 = .ok (.iload_n 1, 1) := by decide +kernel
theorem dX5_puts_23 : decode cX5_puts 23 = .ok (.iastore, 1) := by decide +kernel
theorem dX5_puts_24 : decode cX5_puts 24 = .ok (.aload_n 0, 1) := by decide +kernel
theorem dX5_puts_25 : decode cX5_puts 25 = .ok (.getfield 7, 3) := by decide +kernel
theorem dX5_puts_28 : decode cX5_puts 28 = .ok (.iload 5, 2) := by decide +kernel
theorem dX5_puts_30 : decode cX5_puts 30 = .ok (.iconst 1, 1) := by decide +kernel
theorem dX5_puts_31 : decode cX5_puts 31 = .ok (.iadd, 1) := by decide +kernel
theorem dX5_puts_32 : decode cX5_puts 32 = .ok (.iload_n 2, 1) := by decide +kernel
theorem dX5_puts_33 : decode cX5_puts 33 = .ok (.iastore, 1) := by decide +kernel
theorem dX5_puts_34 : decode cX5_puts 34 = .ok (.aload_n 0, 1) := by decide +kernel
theorem dX5_puts_35 : decode cX5_puts 35 = .ok (.getfield 7, 3) := by decide +kernel
theorem dX5_puts_38 : decode cX5_puts 38 = .ok (.iload 5, 2) := by decide +kernel
theorem dX5_puts_40 : decode cX5_puts 40 = .ok (.iconst 2, 1) := by decide +kernel
theorem dX5_puts_41 : decode cX5_puts 41 = .ok (.iadd, 1) := by decide +kernel
theorem dX5_puts_42 : decode cX5_puts 42 = .ok (.iload_n 3, 1) := by decide +kernel
theorem dX5_puts_43 : decode cX5_puts 43 = .ok (.iastore, 1) := by decide +kernel
theorem dX5_puts_44 : decode cX5_puts 44 = .ok (.aload_n 0, 1) := by decide +kernel
theorem dX5_puts_45 : decode cX5_puts 45 = .ok (.getfield 7, 3) := by decide +kernel
theorem dX5_puts_48 : decode cX5_puts 48 = .ok (.iload 5, 2) := by decide +kernel
theorem dX5_puts_50 : decode cX5_puts 50 = .ok (.iconst 3, 1) := by decide +kernel
theorem dX5_puts_51 : decode cX5_puts 51 = .ok (.iadd, 1) := by decide +kernel
theorem dX5_puts_52 : decode cX5_puts 52 = .ok (.iload 4, 2) := by decide +kernel
theorem dX5_puts_54 : decode cX5_puts 54 = .ok (.iastore, 1) := by decide +kernel
theorem dX5_puts_55 : decode cX5_puts 55 = .ok (.aload_n 0, 1) := by decide +kernel
theorem dX5_puts_56 : decode cX5_puts 56 = .ok (.getfield 7, 3) := by decide +kernel
theorem dX5_puts_59 : decode cX5_puts 59 = .ok (.bipush 7, 2) := by decide +kernel
theorem dX5_puts_61 : decode cX5_puts 61 = .ok (.dup2, 1) := by decide +kernel
theorem dX5_puts_62 : decode cX5_puts 62 = .ok (.iaload, 1) := by decide +kernel
theorem dX5_puts_63 : decode cX5_puts 63 = .ok (.iconst 1, 1) := by decide +kernel
theorem dX5_puts_64 : decode cX5_puts 64 = .ok (.iadd, 1) := by decide +kernel
theorem dX5_puts_65 : decode cX5_puts 65 = .ok (.iastore, 1) := by decide +kernel
theorem dX5_puts_66 : decode cX5_puts 66 = .ok (.return_, 1) := by decide +kernel
set_option maxRecDepth 20000 in
theorem ggX5_job_X5_in : GoodIn wsX5_job wsX5_in := goodIn_r _ [8] (by decide +kernel) (by decide +kernel)
set_option maxRecDepth 20000 in
theorem gX5_job_X5_in : GoodIn wsX5_job (va_wsS RX5 44 yX5_in wsX5_in) := goodIn_app (goodIn_of _ (by decide +kernel)) ggX5_job_X5_in
set_option maxRecDepth 20000 in
theorem ggX5_job_X5_racksFor : GoodIn wsX5_job wsX5_racksFor := goodIn_r _ [12, 4, 23, 24, 25, 26, 27, 28, 29, 30, 31, 32, 33, 34, 35, 36] (by decide +kernel) (by decide +kernel)
set_option maxRecDepth 20000 in
theorem gX5_job_X5_racksFor : GoodIn wsX5_job (wsV RX5 52 RX5 yX5_racksFor wsX5_racksFor) := goodIn_app (goodIn_of _ (by decide +kernel)) ggX5_job_X5_racksFor
set_option maxRecDepth 20000 in
theorem ggX5_job_X5_changes : GoodIn wsX5_job wsX5_changes := goodIn_r _ [16, 17, 18, 4, 23, 24, 25, 26, 27, 28, 29, 30, 31, 32, 33, 34, 35, 36] (by decide +kernel) (by decide +kernel)
set_option maxRecDepth 20000 in
theorem gX5_job_X5_changes : GoodIn wsX5_job (wsV RX5 113 RX5 yX5_changes wsX5_changes) := goodIn_app (goodIn_of _ (by decide +kernel)) ggX5_job_X5_changes
set_option maxRecDepth 20000 in
theorem ggX5_job_X5_puts : GoodIn wsX5_job wsX5_puts := goodIn_r _ [22, 4, 23, 24, 25, 26, 27, 28, 29, 30, 31, 32, 33, 34, 35, 36] (by decide +kernel) (by decide +kernel)
set_option maxRecDepth 20000 in
theorem gX5_job_X5_puts : GoodIn wsX5_job (wsV RX5 118 RX5 yX5_puts wsX5_puts) := goodIn_app (goodIn_of _ (by decide +kernel)) ggX5_job_X5_puts
theorem dX5_job_0 : decode cX5_job 0 = .ok (.iload_n 1, 1) := by decide +kernel
theorem dX5_job_1 : decode cX5_job 1 = .ok (.i2l, 1) := by decide +kernel
theorem dX5_job_2 : decode cX5_job 2 = .ok (.lconst 0, 1) := by decide +kernel
theorem dX5_job_3 : decode cX5_job 3 = .ok (.ldc2_w 95, 3) := by decide +kernel
theorem dX5_job_6 : decode cX5_job 6 = .ok (.invokestatic 44, 3) := by decide +kernel
theorem dX5_job_9 : decode cX5_job 9 = .ok (.ifCond .eq 40, 3) := by decide +kernel
theorem dX5_job_12 : decode cX5_job 12 = .ok (.iload_n 2, 1) := by decide +kernel
theorem dX5_job_13 : decode cX5_job 13 = .ok (.i2l, 1) := by decide +kernel
theorem dX5_job_14 : decode cX5_job 14 = .ok (.lconst 0, 1) := by decide +kernel
theorem dX5_job_15 : decode cX5_job 15 = .ok (.ldc2_w 95, 3) := by decide +kernel
theorem dX5_job_18 : decode cX5_job 18 = .ok (.invokestatic 44, 3) := by decide +kernel
theorem dX5_job_21 : decode cX5_job 21 = .ok (.ifCond .eq 28, 3) := by decide +kernel
theorem dX5_job_24 : decode cX5_job 24 = .ok (.iload_n 3, 1) := by decide +kernel
theorem dX5_job_25 : decode cX5_job 25 = .ok (.i2l, 1) := by decide +kernel
theorem dX5_job_26 : decode cX5_job 26 = .ok (.lconst 1, 1) := by decide +kernel
theorem dX5_job_27 : decode cX5_job 27 = .ok (.ldc2_w 97, 3) := by decide +kernel
theorem dX5_job_30 : decode cX5_job 30 = .ok (.invokestatic 44, 3) := by decide +kernel
theorem dX5_job_33 : decode cX5_job 33 = .ok (.ifCond .eq 16, 3) := by decide +kernel
theorem dX5_job_36 : decode cX5_job 36 = .ok (.iload 4, 2) := by decide +kernel
theorem dX5_job_38 : decode cX5_job 38 = .ok (.i2l, 1) := by decide +kernel
theorem dX5_job_39 : decode cX5_job 39 = .ok (.lconst 0, 1) := by decide +kernel
theorem dX5_job_40 : decode cX5_job 40 = .ok (.ldc2_w 116, 3) := by decide +kernel
theorem dX5_job_43 : decode cX5_job 43 = .ok (.invokestatic 44, 3) := by decide +kernel
theorem dX5_job_46 : decode cX5_job 46 = .ok (.ifCond .ne 6, 3) := by decide +kernel
theorem dX5_job_49 : decode cX5_job 49 = .ok (.bipush (-2), 2) := by decide +kernel
theorem dX5_job_51 : decode cX5_job 51 = .ok (.ireturn, 1) := by decide +kernel
theorem dX5_job_52 : decode cX5_job 52 = .ok (.aload_n 0, 1) := by decide +kernel
theorem dX5_job_53 : decode cX5_job 53 = .ok (.iload_n 3, 1) := by decide +kernel
theorem dX5_job_54 : decode cX5_job 54 = .ok (.invokevirtual 52, 3) := by decide +kernel
theorem dX5_job_57 : decode cX5_job 57 = .ok (.aload_n 0, 1) := by decide +kernel
theorem dX5_job_58 : decode cX5_job 58 = .ok (.getfield 7, 3) := by decide +kernel
theorem dX5_job_61 : decode cX5_job 61 = .ok (.iconst 5, 1) := by decide +kernel
theorem dX5_job_62 : decode cX5_job 62 = .ok (.iaload, 1) := by decide +kernel
theorem dX5_job_63 : decode cX5_job 63 = .ok (.if_icmp .le 6, 3) := by decide +kernel
theorem dX5_job_66 : decode cX5_job 66 = .ok (.bipush (-5), 2) := by decide +kernel
theorem dX5_job_68 : decode cX5_job 68 = .ok (.ireturn, 1) := by decide +kernel
theorem dX5_job_69 : decode cX5_job 69 = .ok (.aload_n 0, 1) := by decide +kernel
theorem dX5_job_70 : decode cX5_job 70 = .ok (.getfield 7, 3) := by decide +kernel
theorem dX5_job_73 : decode cX5_job 73 = .ok (.bipush 7, 2) := by decide +kernel
theorem dX5_job_75 : decode cX5_job 75 = .ok (.iaload, 1) := by decide +kernel
theorem dX5_job_76 : decode cX5_job 76 = .ok (.bipush 12, 2) := by decide +kernel
theorem dX5_job_78 : decode cX5_job 78 = .ok (.if_icmp .ne 6, 3) := by decide +kernel
theorem dX5_job_81 : decode cX5_job 81 = .ok (.bipush (-4), 2) := by decide +kernel
theorem dX5_job_83 : decode cX5_job 83 = .ok (.ireturn, 1) := by decide +kernel
theorem dX5_job_84 : decode cX5_job 84 = .ok (.aload_n 0, 1) := by decide +kernel
theorem dX5_job_85 : decode cX5_job 85 = .ok (.invokevirtual 113, 3) := by decide +kernel
theorem dX5_job_88 : decode cX5_job 88 = .ok (.aload_n 0, 1) := by decide +kernel
theorem dX5_job_89 : decode cX5_job 89 = .ok (.iload_n 1, 1) := by decide +kernel
theorem dX5_job_90 : decode cX5_job 90 = .ok (.iload_n 2, 1) := by decide +kernel
theorem dX5_job_91 : decode cX5_job 91 = .ok (.iload_n 3, 1) := by decide +kernel
theorem dX5_job_92 : decode cX5_job 92 = .ok (.iload 4, 2) := by decide +kernel
theorem dX5_job_94 : decode cX5_job 94 = .ok (.invokevirtual 118, 3) := by decide +kernel
theorem dX5_job_97 : decode cX5_job 97 = .ok (.aload_n 0, 1) := by decide +kernel
theorem dX5_job_98 : decode cX5_job 98 = .ok (.getfield 7, 3) := by decide +kernel
theorem dX5_job_101 : decode cX5_job 101 = .ok (.bipush 7, 2) := by decide +kernel
theorem dX5_job_103 : decode cX5_job 103 = .ok (.iaload, 1) := by decide +kernel
theorem dX5_job_104 : decode cX5_job 104 = .ok (.iconst 1, 1) := by decide +kernel
theorem dX5_job_105 : decode cX5_job 105 = .ok (.isub, 1) := by decide +kernel
theorem dX5_job_106 : decode cX5_job 106 = .ok (.ireturn, 1) := by decide +kernel
set_option maxRecDepth 20000 in
theorem ggX5_drop_X5_isJob : GoodIn wsX5_drop wsX5_isJob := goodIn_r _ [6, 1, 7, 8, 5, 9, 28, 29, 30, 31, 32, 33, 34, 35, 36, 37, 38, 39, 40, 41] (by decide +kernel) (by decide +kernel)
set_option maxRecDepth 20000 in
theorem gX5_drop_X5_isJob : GoodIn wsX5_drop (wsV RX5 122 RX5 yX5_isJob wsX5_isJob) := goodIn_app (goodIn_of _ (by decide +kernel)) ggX5_drop_X5_isJob
set_option maxRecDepth 20000 in
theorem ggX5_drop_X5_changes : GoodIn wsX5_drop wsX5_changes := goodIn_r _ [13, 14, 15, 1, 28, 29, 30, 31, 32, 33, 34, 35, 36, 37, 38, 39, 40, 41] (by decide +kernel) (by decide +kernel)
set_option maxRecDepth 20000 in
theorem gX5_drop_X5_changes : GoodIn wsX5_drop (wsV RX5 113 RX5 yX5_changes wsX5_changes) := goodIn_app (goodIn_of _ (by decide +kernel)) ggX5_drop_X5_changes
set_option maxRecDepth 20000 in
theorem ggX5_drop_X5_moves : GoodIn wsX5_drop wsX5_moves := goodIn_r _ [19, 20, 21, 22, 5, 23, 1, 24, 25, 26, 27, 28, 29, 30, 31, 32, 33, 34, 35, 36, 37, 38, 39, 40, 41] (by decide +kernel) (by decide +kernel)
set_option maxRecDepth 20000 in
theorem gX5_drop_X5_moves : GoodIn wsX5_drop (wsV RX5 126 RX5 yX5_moves wsX5_moves) := goodIn_app (goodIn_of _ (by decide +kernel)) ggX5_drop_X5_moves
theorem dX5_drop_0 : decode cX5_drop 0 = .ok (.aload_n 0, 1) := by decide +kernel
theorem dX5_drop_1 : decode cX5_drop 1 = .ok (.iload_n 1, 1) := by decide +kernel
theorem dX5_drop_2 : decode cX5_drop 2 = .ok (.invokevirtual 122, 3) := by decide +kernel
theorem dX5_drop_5 : decode cX5_drop 5 = .ok (.ifCond .ne 5, 3) := by decide +kernel
theorem dX5_drop_8 : decode cX5_drop 8 = .ok (.iconst (-1), 1) := by decide +kernel
theorem dX5_drop_9 : decode cX5_drop 9 = .ok (.ireturn, 1) := by decide +kernel
theorem dX5_drop_10 : decode cX5_drop 10 = .ok (.aload_n 0, 1) := by decide +kernel
theorem dX5_drop_11 : decode cX5_drop 11 = .ok (.invokevirtual 113, 3) := by decide +kernel
theorem dX5_drop_14 : decode cX5_drop 14 = .ok (.aload_n 0, 1) := by decide +kernel
theorem dX5_drop_15 : decode cX5_drop 15 = .ok (.iload_n 1, 1) := by decide +kernel
theorem dX5_drop_16 : decode cX5_drop 16 = .ok (.aload_n 0, 1) := by decide +kernel
theorem dX5_drop_17 : decode cX5_drop 17 = .ok (.getfield 7, 3) := by decide +kernel
theorem dX5_drop_20 : decode cX5_drop 20 = .ok (.bipush 7, 2) := by decide +kernel
theorem dX5_drop_22 : decode cX5_drop 22 = .ok (.iaload, 1) := by decide +kernel
theorem dX5_drop_23 : decode cX5_drop 23 = .ok (.iconst 1, 1) := by decide +kernel
theorem dX5_drop_24 : decode cX5_drop 24 = .ok (.isub, 1) := by decide +kernel
theorem dX5_drop_25 : decode cX5_drop 25 = .ok (.invokevirtual 126, 3) := by decide +kernel
theorem dX5_drop_28 : decode cX5_drop 28 = .ok (.aload_n 0, 1) := by decide +kernel
theorem dX5_drop_29 : decode cX5_drop 29 = .ok (.getfield 7, 3) := by decide +kernel
theorem dX5_drop_32 : decode cX5_drop 32 = .ok (.bipush 7, 2) := by decide +kernel
theorem dX5_drop_34 : decode cX5_drop 34 = .ok (.dup2, 1) := by decide +kernel
theorem dX5_drop_35 : decode cX5_drop 35 = .ok (.iaload, 1) := by decide +kernel
theorem dX5_drop_36 : decode cX5_drop 36 = .ok (.iconst 1, 1) := by decide +kernel
theorem dX5_drop_37 : decode cX5_drop 37 = .ok (.isub, 1) := by decide +kernel
theorem dX5_drop_38 : decode cX5_drop 38 = .ok (.iastore, 1) := by decide +kernel
theorem dX5_drop_39 : decode cX5_drop 39 = .ok (.iconst 0, 1) := by decide +kernel
theorem dX5_drop_40 : decode cX5_drop 40 = .ok (.istore_n 2, 1) := by decide +kernel
theorem dX5_drop_41 : decode cX5_drop 41 = .ok (.iload_n 2, 1) := by decide +kernel
theorem dX5_drop_42 : decode cX5_drop 42 = .ok (.iconst 4, 1) := by decide +kernel
theorem dX5_drop_43 : decode cX5_drop 43 = .ok (.if_icmp .ge 29, 3) := by decide +kernel
theorem dX5_drop_46 : decode cX5_drop 46 = .ok (.aload_n 0, 1) := by decide +kernel
theorem dX5_drop_47 : decode cX5_drop 47 = .ok (.getfield 7, 3) := by decide +kernel
theorem dX5_drop_50 : decode cX5_drop 50 = .ok (.bipush 8, 2) := by decide +kernel
theorem dX5_drop_52 : decode cX5_drop 52 = .ok (.iconst 4, 1) := by decide +kernel
theorem dX5_drop_53 : decode cX5_drop 53 = .ok (.aload_n 0, 1) := by decide +kernel
theorem dX5_drop_54 : decode cX5_drop 54 = .ok (.getfield 7, 3) := by decide +kernel
theorem dX5_drop_57 : decode cX5_drop 57 = .ok (.bipush 7, 2) := by decide +kernel
theorem dX5_drop_59 : decode cX5_drop 59 = .ok (.iaload, 1) := by decide +kernel
theorem dX5_drop_60 : decode cX5_drop 60 = .ok (.imul, 1) := by decide +kernel
theorem dX5_drop_61 : decode cX5_drop 61 = .ok (.iadd, 1) := by decide +kernel
theorem dX5_drop_62 : decode cX5_drop 62 = .ok (.iload_n 2, 1) := by decide +kernel
theorem dX5_drop_63 : decode cX5_drop 63 = .ok (.iadd, 1) := by decide +kernel
theorem dX5_drop_64 : decode cX5_drop 64 = .ok (.iconst 0, 1) := by decide +kernel
theorem dX5_drop_65 : decode cX5_drop 65 = .ok (.iastore, 1) := by decide +kernel
theorem dX5_drop_66 : decode cX5_drop 66 = .ok (.iinc 2 1, 3) := by decide +kernel
theorem dX5_drop_69 : decode cX5_drop 69 = .ok (.goto (-28), 3) := by decide +kernel
theorem dX5_drop_72 : decode cX5_drop 72 = .ok (.aload_n 0, 1) := by decide +kernel
theorem dX5_drop_73 : decode cX5_drop 73 = .ok (.getfield 7, 3) := by decide +kernel
theorem dX5_drop_76 : decode cX5_drop 76 = .ok (.bipush 7, 2) := by decide +kernel
theorem dX5_drop_78 : decode cX5_drop 78 = .ok (.iaload, 1) := by decide +kernel
theorem dX5_drop_79 : decode cX5_drop 79 = .ok (.ireturn, 1) := by decide +kernel
set_option maxRecDepth 20000 in
theorem ggX5_move_X5_isJob : GoodIn wsX5_move wsX5_isJob := goodIn_r _ [5, 6, 7, 8, 4, 9, 82, 83, 84, 85, 86, 87, 88, 89, 90, 91, 92, 93, 94, 95] (by decide +kernel) (by decide +kernel)
set_option maxRecDepth 20000 in
theorem gX5_move_X5_isJob : GoodIn wsX5_move (wsV RX5 122 RX5 yX5_isJob wsX5_isJob) := goodIn_app (goodIn_of _ (by decide +kernel)) ggX5_move_X5_isJob
set_option maxRecDepth 20000 in
theorem ggX5_move_X5_changes : GoodIn wsX5_move wsX5_changes := goodIn_r _ [13, 14, 15, 6, 82, 83, 84, 85, 86, 87, 88, 89, 90, 91, 92, 93, 94, 95] (by decide +kernel) (by decide +kernel)
set_option maxRecDepth 20000 in
theorem gX5_move_X5_changes : GoodIn wsX5_move (wsV RX5 113 RX5 yX5_changes wsX5_changes) := goodIn_app (goodIn_of _ (by decide +kernel)) ggX5_move_X5_changes
set_option maxRecDepth 20000 in
theorem ggX5_move_X5_moves : GoodIn wsX5_move wsX5_moves := goodIn_r _ [19, 20, 21, 22, 4, 23, 6, 24, 25, 26, 27, 82, 83, 84, 85, 86, 87, 88, 89, 90, 91, 92, 93, 94, 95] (by decide +kernel) (by decide +kernel)
set_option maxRecDepth 20000 in
theorem gX5_move_X5_moves : GoodIn wsX5_move (wsV RX5 126 RX5 yX5_moves wsX5_moves) := goodIn_app (goodIn_of _ (by decide +kernel)) ggX5_move_X5_moves
set_option maxRecDepth 20000 in
theorem ggX5_move_X5_lateAll : GoodIn wsX5_move wsX5_lateAll := goodIn_r _ [31, 32, 33, 34, 4, 35, 6, 36, 37, 38, 39, 40, 41, 42, 43, 44, 45, 24, 25, 26, 27, 46, 47, 48, 49, 50, 51, 52, 53, 54, 55, 56, 57, 58, 59, 60, 61, 62, 63, 64, 65, 66, 67, 68, 69, 70, 71, 72, 73, 74, 75, 76, 77, 78, 79, 80, 81, 82, 83, 84, 85, 86, 87, 88, 89, 90, 91, 92, 93, 94, 95] (by decide +kernel) (by decide +kernel)
set_option maxRecDepth 20000 in
theorem gX5_move_X5_lateAll : GoodIn wsX5_move (wsV RX5 129 RX5 yX5_lateAll wsX5_lateAll) := goodIn_app (goodIn_of _ (by decide +kernel)) ggX5_move_X5_lateAll
theorem dX5_move_0 : decode cX5_move 0 = .ok (.aload_n 0, 1) := by decide +kernel
theorem dX5_move_1 : decode cX5_move 1 = .ok (.iload_n 1, 1) := by decide +kernel
theorem dX5_move_2 : decode cX5_move 2 = .ok (.invokevirtual 122, 3) := by decide +kernel
theorem dX5_move_5 : decode cX5_move 5 = .ok (.ifCond .eq 11, 3) := by decide +kernel
theorem dX5_move_8 : decode cX5_move 8 = .ok (.aload_n 0, 1) := by decide +kernel
theorem dX5_move_9 : decode cX5_move 9 = .ok (.iload_n 2, 1) := by decide +kernel
theorem dX5_move_10 : decode cX5_move 10 = .ok (.invokevirtual 122, 3) := by decide +kernel
theorem dX5_move_13 : decode cX5_move 13 = .ok (.ifCond .ne 5, 3) := by decide +kernel
theorem dX5_move_16 : decode cX5_move 16 = .ok (.iconst (-1), 1) := by decide +kernel
theorem dX5_move_17 : decode cX5_move 17 = .ok (.ireturn, 1) := by decide +kernel
theorem dX5_move_18 : decode cX5_move 18 = .ok (.aload_n 0, 1) := by decide +kernel
theorem dX5_move_19 : decode cX5_move 19 = .ok (.invokevirtual 113, 3) := by decide +kernel
theorem dX5_move_22 : decode cX5_move 22 = .ok (.aload_n 0, 1) := by decide +kernel
theorem dX5_move_23 : decode cX5_move 23 = .ok (.iload_n 1, 1) := by decide +kernel
theorem dX5_move_24 : decode cX5_move 24 = .ok (.iload_n 2, 1) := by decide +kernel
theorem dX5_move_25 : decode cX5_move 25 = .ok (.invokevirtual 126, 3) := by decide +kernel
theorem dX5_move_28 : decode cX5_move 28 = .ok (.aload_n 0, 1) := by decide +kernel
theorem dX5_move_29 : decode cX5_move 29 = .ok (.invokevirtual 129, 3) := by decide +kernel
theorem dX5_move_32 : decode cX5_move 32 = .ok (.ireturn, 1) := by decide +kernel
set_option maxRecDepth 20000 in
theorem ggX5_due_X5_isJob : GoodIn wsX5_due wsX5_isJob := goodIn_r _ [7, 2, 8, 9, 6, 10, 59, 60, 61, 62, 63, 64, 65, 66, 67, 68, 69, 70, 71, 72] (by decide +kernel) (by decide +kernel)
set_option maxRecDepth 20000 in
theorem gX5_due_X5_isJob : GoodIn wsX5_due (wsV RX5 122 RX5 yX5_isJob wsX5_isJob) := goodIn_app (goodIn_of _ (by decide +kernel)) ggX5_due_X5_isJob
set_option maxRecDepth 20000 in
theorem ggX5_due_X5_in : GoodIn wsX5_due wsX5_in := goodIn_r _ [10] (by decide +kernel) (by decide +kernel)
set_option maxRecDepth 20000 in
theorem gX5_due_X5_in : GoodIn wsX5_due (va_wsS RX5 44 yX5_in wsX5_in) := goodIn_app (goodIn_of _ (by decide +kernel)) ggX5_due_X5_in
set_option maxRecDepth 20000 in
theorem ggX5_due_X5_changes : GoodIn wsX5_due wsX5_changes := goodIn_r _ [14, 15, 16, 2, 59, 60, 61, 62, 63, 64, 65, 66, 67, 68, 69, 70, 71, 72] (by decide +kernel) (by decide +kernel)
set_option maxRecDepth 20000 in
theorem gX5_due_X5_changes : GoodIn wsX5_due (wsV RX5 113 RX5 yX5_changes wsX5_changes) := goodIn_app (goodIn_of _ (by decide +kernel)) ggX5_due_X5_changes
set_option maxRecDepth 20000 in
theorem ggX5_due_X5_prints : GoodIn wsX5_due wsX5_prints := goodIn_r _ [20, 2, 21, 22, 23, 24, 25, 6, 26, 27, 28, 29, 30, 31, 32, 33, 34, 35, 36, 37, 38, 39, 40, 41, 42, 43, 44, 45, 46, 47, 48, 49, 50, 51, 52, 53, 54, 59, 60, 61, 62, 63, 64, 65, 66, 67, 68, 69, 70, 71, 72] (by decide +kernel) (by decide +kernel)
set_option maxRecDepth 20000 in
theorem gX5_due_X5_prints : GoodIn wsX5_due (wsV RX5 87 RX5 yX5_prints wsX5_prints) := goodIn_app (goodIn_of _ (by decide +kernel)) ggX5_due_X5_prints
set_option maxRecDepth 20000 in
theorem ggX5_due_X5_late : GoodIn wsX5_due wsX5_late := goodIn_r _ [58, 43, 44, 45, 6, 46, 22, 2, 31, 32, 33, 34, 59, 60, 61, 62, 63, 64, 65, 66, 67, 68, 69, 70, 71, 72] (by decide +kernel) (by decide +kernel)
set_option maxRecDepth 20000 in
theorem gX5_due_X5_late : GoodIn wsX5_due (wsV RX5 78 RX5 yX5_late wsX5_late) := goodIn_app (goodIn_of _ (by decide +kernel)) ggX5_due_X5_late
theorem dX5_due_0 : decode cX5_due 0 = .ok (.aload_n 0, 1) := by decide +kernel
theorem dX5_due_1 : decode cX5_due 1 = .ok (.iload_n 1, 1) := by decide +kernel
theorem dX5_due_2 : decode cX5_due 2 = .ok (.invokevirtual 122, 3) := by decide +kernel
theorem dX5_due_5 : decode cX5_due 5 = .ok (.ifCond .ne 5, 3) := by decide +kernel
theorem dX5_due_8 : decode cX5_due 8 = .ok (.iconst (-1), 1) := by decide +kernel
theorem dX5_due_9 : decode cX5_due 9 = .ok (.ireturn, 1) := by decide +kernel
theorem dX5_due_10 : decode cX5_due 10 = .ok (.iload_n 2, 1) := by decide +kernel
theorem dX5_due_11 : decode cX5_due 11 = .ok (.i2l, 1) := by decide +kernel
theorem dX5_due_12 : decode cX5_due 12 = .ok (.lconst 0, 1) := by decide +kernel
theorem dX5_due_13 : decode cX5_due 13 = .ok (.ldc2_w 116, 3) := by decide +kernel
theorem dX5_due_16 : decode cX5_due 16 = .ok (.invokestatic 44, 3) := by decide +kernel
theorem dX5_due_19 : decode cX5_due 19 = .ok (.ifCond .ne 6, 3) := by decide +kernel
theorem dX5_due_22 : decode cX5_due 22 = .ok (.bipush (-2), 2) := by decide +kernel
theorem dX5_due_24 : decode cX5_due 24 = .ok (.ireturn, 1) := by decide +kernel
theorem dX5_due_25 : decode cX5_due 25 = .ok (.aload_n 0, 1) := by decide +kernel
theorem dX5_due_26 : decode cX5_due 26 = .ok (.invokevirtual 113, 3) := by decide +kernel
theorem dX5_due_29 : decode cX5_due 29 = .ok (.aload_n 0, 1) := by decide +kernel
theorem dX5_due_30 : decode cX5_due 30 = .ok (.getfield 7, 3) := by decide +kernel
theorem dX5_due_33 : decode cX5_due 33 = .ok (.bipush 8, 2) := by decide +kernel
theorem dX5_due_35 : decode cX5_due 35 = .ok (.iconst 4, 1) := by decide +kernel
theorem dX5_due_36 : decode cX5_due 36 = .ok (.iload_n 1, 1) := by decide +kernel
theorem dX5_due_37 : decode cX5_due 37 = .ok (.imul, 1) := by decide +kernel
theorem dX5_due_38 : decode cX5_due 38 = .ok (.iadd, 1) := by decide +kernel
theorem dX5_due_39 : decode cX5_due 39 = .ok (.iconst 3, 1) := by decide +kernel
theorem dX5_due_40 : decode cX5_due 40 = .ok (.iadd, 1) := by decide +kernel
theorem dX5_due_41 : decode cX5_due 41 = .ok (.iload_n 2, 1) := by decide +kernel
theorem dX5_due_42 : decode cX5_due 42 = .ok (.iastore, 1) := by decide +kernel
theorem dX5_due_43 : decode cX5_due 43 = .ok (.aload_n 0, 1) := by decide +kernel
theorem dX5_due_44 : decode cX5_due 44 = .ok (.invokevirtual 87, 3) := by decide +kernel
theorem dX5_due_47 : decode cX5_due 47 = .ok (.aload_n 0, 1) := by decide +kernel
theorem dX5_due_48 : decode cX5_due 48 = .ok (.iload_n 1, 1) := by decide +kernel
theorem dX5_due_49 : decode cX5_due 49 = .ok (.invokevirtual 78, 3) := by decide +kernel
theorem dX5_due_52 : decode cX5_due 52 = .ok (.ireturn, 1) := by decide +kernel
theorem dX5_keyOf_0 : decode cX5_keyOf 0 = .ok (.iload_n 0, 1) := by decide +kernel
theorem dX5_keyOf_1 : decode cX5_keyOf 1 = .ok (.ifCond .ne 7, 3) := by decide +kernel
theorem dX5_keyOf_4 : decode cX5_keyOf 4 = .ok (.iconst 3, 1) := by decide +kernel
theorem dX5_keyOf_5 : decode cX5_keyOf 5 = .ok (.goto 22, 3) := by decide +kernel
theorem dX5_keyOf_8 : decode cX5_keyOf 8 = .ok (.iload_n 0, 1) := by decide +kernel
theorem dX5_keyOf_9 : decode cX5_keyOf 9 = .ok (.iconst 1, 1) := by decide +kernel
theorem dX5_keyOf_10 : decode cX5_keyOf 10 = .ok (.if_icmp .ne 7, 3) := by decide +kernel
theorem dX5_keyOf_13 : decode cX5_keyOf 13 = .ok (.iconst 1, 1) := by decide +kernel
theorem dX5_keyOf_14 : decode cX5_keyOf 14 = .ok (.goto 13, 3) := by decide +kernel
theorem dX5_keyOf_17 : decode cX5_keyOf 17 = .ok (.iload_n 0, 1) := by decide +kernel
theorem dX5_keyOf_18 : decode cX5_keyOf 18 = .ok (.iconst 2, 1) := by decide +kernel
theorem dX5_keyOf_19 : decode cX5_keyOf 19 = .ok (.if_icmp .ne 7, 3) := by decide +kernel
theorem dX5_keyOf_22 : decode cX5_keyOf 22 = .ok (.iconst 0, 1) := by decide +kernel
theorem dX5_keyOf_23 : decode cX5_keyOf 23 = .ok (.goto 4, 3) := by decide +kernel
theorem dX5_keyOf_26 : decode cX5_keyOf 26 = .ok (.iconst 2, 1) := by decide +kernel
theorem dX5_keyOf_27 : decode cX5_keyOf 27 = .ok (.ireturn, 1) := by decide +kernel
set_option maxRecDepth 20000 in
theorem ggX5_orders_X5_keyOf : GoodIn wsX5_orders wsX5_keyOf := goodIn_r _ [6] (by decide +kernel) (by decide +kernel)
set_option maxRecDepth 20000 in
theorem gX5_orders_X5_keyOf : GoodIn wsX5_orders (va_wsS RX5 132 yX5_keyOf wsX5_keyOf) := goodIn_app (goodIn_of _ (by decide +kernel)) ggX5_orders_X5_keyOf
set_option maxRecDepth 20000 in
theorem ggX5_orders_X5_its : GoodIn wsX5_orders wsX5_its := goodIn_r _ [10, 1, 15, 16, 17, 18, 19, 20, 21, 22, 23, 24, 25, 26, 27, 28] (by decide +kernel) (by decide +kernel)
set_option maxRecDepth 20000 in
theorem gX5_orders_X5_its : GoodIn wsX5_orders (wsV RX5 48 RX5 yX5_its wsX5_its) := goodIn_app (goodIn_of _ (by decide +kernel)) ggX5_orders_X5_its
set_option maxRecDepth 20000 in
theorem ggX5_orders_X5_exchanges : GoodIn wsX5_orders wsX5_exchanges := goodIn_r _ [14, 1, 7, 8, 9, 5, 10, 15, 16, 17, 18, 19, 20, 21, 22, 23, 24, 25, 26, 27, 28] (by decide +kernel) (by decide +kernel)
set_option maxRecDepth 20000 in
theorem gX5_orders_X5_exchanges : GoodIn wsX5_orders (wsV RX5 56 RX5 yX5_exchanges wsX5_exchanges) := goodIn_app (goodIn_of _ (by decide +kernel)) ggX5_orders_X5_exchanges
theorem dX5_orders_0 : decode cX5_orders 0 = .ok (.iconst 0, 1) := by decide +kernel
theorem dX5_orders_1 : decode cX5_orders 1 = .ok (.istore_n 2, 1) := by decide +kernel
theorem dX5_orders_2 : decode cX5_orders 2 = .ok (.iload_n 2, 1) := by decide +kernel
theorem dX5_orders_3 : decode cX5_orders 3 = .ok (.aload_n 0, 1) := by decide +kernel
theorem dX5_orders_4 : decode cX5_orders 4 = .ok (.getfield 7, 3) := by decide +kernel
theorem dX5_orders_7 : decode cX5_orders 7 = .ok (.bipush 7, 2) := by decide +kernel
theorem dX5_orders_9 : decode cX5_orders 9 = .ok (.iaload, 1) := by decide +kernel
theorem dX5_orders_10 : decode cX5_orders 10 = .ok (.if_icmp .ge 91, 3) := by decide +kernel
theorem dX5_orders_13 : decode cX5_orders 13 = .ok (.aload_n 0, 1) := by decide +kernel
theorem dX5_orders_14 : decode cX5_orders 14 = .ok (.getfield 31, 3) := by decide +kernel
theorem dX5_orders_17 : decode cX5_orders 17 = .ok (.iload_n 2, 1) := by decide +kernel
theorem dX5_orders_18 : decode cX5_orders 18 = .ok (.iload_n 2, 1) := by decide +kernel
theorem dX5_orders_19 : decode cX5_orders 19 = .ok (.iastore, 1) := by decide +kernel
theorem dX5_orders_20 : decode cX5_orders 20 = .ok (.iload_n 2, 1) := by decide +kernel
theorem dX5_orders_21 : decode cX5_orders 21 = .ok (.istore_n 3, 1) := by decide +kernel
theorem dX5_orders_22 : decode cX5_orders 22 = .ok (.iload_n 3, 1) := by decide +kernel
theorem dX5_orders_23 : decode cX5_orders 23 = .ok (.ifCond .le 72, 3) := by decide +kernel
theorem dX5_orders_26 : decode cX5_orders 26 = .ok (.aload_n 0, 1) := by decide +kernel
theorem dX5_orders_27 : decode cX5_orders 27 = .ok (.iload_n 3, 1) := by decide +kernel
theorem dX5_orders_28 : decode cX5_orders 28 = .ok (.iconst 1, 1) := by decide +kernel
theorem dX5_orders_29 : decode cX5_orders 29 = .ok (.isub, 1) := by decide +kernel
theorem dX5_orders_30 : decode cX5_orders 30 = .ok (.iload_n 1, 1) := by decide +kernel
theorem dX5_orders_31 : decode cX5_orders 31 = .ok (.invokestatic 132, 3) := by decide +kernel
theorem dX5_orders_34 : decode cX5_orders 34 = .ok (.invokevirtual 48, 3) := by decide +kernel
theorem dX5_orders_37 : decode cX5_orders 37 = .ok (.aload_n 0, 1) := by decide +kernel
theorem dX5_orders_38 : decode cX5_orders 38 = .ok (.iload_n 3, 1) := by decide +kernel
theorem dX5_orders_39 : decode cX5_orders 39 = .ok (.iload_n 1, 1) := by decide +kernel
end
section
theorem dX5_orders_40 : decode cX5_orders 40 = .ok (.invokestatic 132, 3) := by decide +kernel
theorem dX5_orders_43 : decode cX5_orders 43 = .ok (.invokevirtual 48, 3) := by decide +kernel
theorem dX5_orders_46 : decode cX5_orders 46 = .ok (.if_icmp .le 49, 3) := by decide +kernel
theorem dX5_orders_49 : decode cX5_orders 49 = .ok (.aload_n 0, 1) := by decide +kernel
theorem dX5_orders_50 : decode cX5_orders 50 = .ok (.iload_n 3, 1) := by decide +kernel
theorem dX5_orders_51 : decode cX5_orders 51 = .ok (.iload_n 3, 1) := by decide +kernel
theorem dX5_orders_52 : decode cX5_orders 52 = .ok (.iconst 1, 1) := by decide +kernel
theorem dX5_orders_53 : decode cX5_orders 53 = .ok (.isub, 1) := by decide +kernel
theorem dX5_orders_54 : decode cX5_orders 54 = .ok (.invokevirtual 56, 3) := by decide +kernel
theorem dX5_orders_57 : decode cX5_orders 57 = .ok (.aload_n 0, 1) := by decide +kernel
theorem dX5_orders_58 : decode cX5_orders 58 = .ok (.getfield 31, 3) := by decide +kernel
theorem dX5_orders_61 : decode cX5_orders 61 = .ok (.iload_n 3, 1) := by decide +kernel
theorem dX5_orders_62 : decode cX5_orders 62 = .ok (.iaload, 1) := by decide +kernel
theorem dX5_orders_63 : decode cX5_orders 63 = .ok (.istore 4, 2) := by decide +kernel
theorem dX5_orders_65 : decode cX5_orders 65 = .ok (.aload_n 0, 1) := by decide +kernel
theorem dX5_orders_66 : decode cX5_orders 66 = .ok (.getfield 31, 3) := by decide +kernel
theorem dX5_orders_69 : decode cX5_orders 69 = .ok (.iload_n 3, 1) := by decide +kernel
theorem dX5_orders_70 : decode cX5_orders 70 = .ok (.aload_n 0, 1) := by decide +kernel
theorem dX5_orders_71 : decode cX5_orders 71 = .ok (.getfield 31, 3) := by decide +kernel
theorem dX5_orders_74 : decode cX5_orders 74 = .ok (.iload_n 3, 1) := by decide +kernel
theorem dX5_orders_75 : decode cX5_orders 75 = .ok (.iconst 1, 1) := by decide +kernel
theorem dX5_orders_76 : decode cX5_orders 76 = .ok (.isub, 1) := by decide +kernel
theorem dX5_orders_77 : decode cX5_orders 77 = .ok (.iaload, 1) := by decide +kernel
theorem dX5_orders_78 : decode cX5_orders 78 = .ok (.iastore, 1) := by decide +kernel
theorem dX5_orders_79 : decode cX5_orders 79 = .ok (.aload_n 0, 1) := by decide +kernel
theorem dX5_orders_80 : decode cX5_orders 80 = .ok (.getfield 31, 3) := by decide +kernel
theorem dX5_orders_83 : decode cX5_orders 83 = .ok (.iload_n 3, 1) := by decide +kernel
theorem dX5_orders_84 : decode cX5_orders 84 = .ok (.iconst 1, 1) := by decide +kernel
theorem dX5_orders_85 : decode cX5_orders 85 = .ok (.isub, 1) := by decide +kernel
theorem dX5_orders_86 : decode cX5_orders 86 = .ok (.iload 4, 2) := by decide +kernel
theorem dX5_orders_88 : decode cX5_orders 88 = .ok (.iastore, 1) := by decide +kernel
theorem dX5_orders_89 : decode cX5_orders 89 = .ok (.iinc 3 (-1), 3) := by decide +kernel
theorem dX5_orders_92 : decode cX5_orders 92 = .ok (.goto (-70), 3) := by decide +kernel
theorem dX5_orders_95 : decode cX5_orders 95 = .ok (.iinc 2 1, 3) := by decide +kernel
theorem dX5_orders_98 : decode cX5_orders 98 = .ok (.goto (-96), 3) := by decide +kernel
theorem dX5_orders_101 : decode cX5_orders 101 = .ok (.return_, 1) := by decide +kernel
set_option maxRecDepth 20000 in
theorem ggX5_order_X5_in : GoodIn wsX5_order wsX5_in := goodIn_r _ [7] (by decide +kernel) (by decide +kernel)
set_option maxRecDepth 20000 in
theorem gX5_order_X5_in : GoodIn wsX5_order (va_wsS RX5 44 yX5_in wsX5_in) := goodIn_app (goodIn_of _ (by decide +kernel)) ggX5_order_X5_in
set_option maxRecDepth 20000 in
theorem ggX5_order_X5_changes : GoodIn wsX5_order wsX5_changes := goodIn_r _ [11, 12, 13, 2, 29, 30, 31, 32, 33, 34, 35, 36, 37, 38, 39, 40, 41, 42] (by decide +kernel) (by decide +kernel)
set_option maxRecDepth 20000 in
theorem gX5_order_X5_changes : GoodIn wsX5_order (wsV RX5 113 RX5 yX5_changes wsX5_changes) := goodIn_app (goodIn_of _ (by decide +kernel)) ggX5_order_X5_changes
set_option maxRecDepth 20000 in
theorem ggX5_order_X5_orders : GoodIn wsX5_order wsX5_orders := goodIn_r _ [17, 2, 3, 18, 19, 6, 20, 21, 22, 23, 24, 25, 26, 27, 28, 29, 30, 31, 32, 33, 34, 35, 36, 37, 38, 39, 40, 41, 42] (by decide +kernel) (by decide +kernel)
set_option maxRecDepth 20000 in
theorem gX5_order_X5_orders : GoodIn wsX5_order (wsV RX5 137 RX5 yX5_orders wsX5_orders) := goodIn_app (goodIn_of _ (by decide +kernel)) ggX5_order_X5_orders
theorem dX5_order_0 : decode cX5_order 0 = .ok (.iload_n 1, 1) := by decide +kernel
theorem dX5_order_1 : decode cX5_order 1 = .ok (.i2l, 1) := by decide +kernel
theorem dX5_order_2 : decode cX5_order 2 = .ok (.lconst 0, 1) := by decide +kernel
theorem dX5_order_3 : decode cX5_order 3 = .ok (.ldc2_w 135, 3) := by decide +kernel
theorem dX5_order_6 : decode cX5_order 6 = .ok (.invokestatic 44, 3) := by decide +kernel
theorem dX5_order_9 : decode cX5_order 9 = .ok (.ifCond .ne 6, 3) := by decide +kernel
theorem dX5_order_12 : decode cX5_order 12 = .ok (.bipush (-2), 2) := by decide +kernel
theorem dX5_order_14 : decode cX5_order 14 = .ok (.ireturn, 1) := by decide +kernel
theorem dX5_order_15 : decode cX5_order 15 = .ok (.aload_n 0, 1) := by decide +kernel
theorem dX5_order_16 : decode cX5_order 16 = .ok (.invokevirtual 113, 3) := by decide +kernel
theorem dX5_order_19 : decode cX5_order 19 = .ok (.aload_n 0, 1) := by decide +kernel
theorem dX5_order_20 : decode cX5_order 20 = .ok (.iload_n 1, 1) := by decide +kernel
theorem dX5_order_21 : decode cX5_order 21 = .ok (.invokevirtual 137, 3) := by decide +kernel
theorem dX5_order_24 : decode cX5_order 24 = .ok (.iconst 0, 1) := by decide +kernel
theorem dX5_order_25 : decode cX5_order 25 = .ok (.istore_n 2, 1) := by decide +kernel
theorem dX5_order_26 : decode cX5_order 26 = .ok (.iconst 0, 1) := by decide +kernel
theorem dX5_order_27 : decode cX5_order 27 = .ok (.istore_n 3, 1) := by decide +kernel
theorem dX5_order_28 : decode cX5_order 28 = .ok (.iload_n 3, 1) := by decide +kernel
theorem dX5_order_29 : decode cX5_order 29 = .ok (.aload_n 0, 1) := by decide +kernel
theorem dX5_order_30 : decode cX5_order 30 = .ok (.getfield 7, 3) := by decide +kernel
theorem dX5_order_33 : decode cX5_order 33 = .ok (.bipush 7, 2) := by decide +kernel
theorem dX5_order_35 : decode cX5_order 35 = .ok (.iaload, 1) := by decide +kernel
theorem dX5_order_36 : decode cX5_order 36 = .ok (.if_icmp .ge 27, 3) := by decide +kernel
theorem dX5_order_39 : decode cX5_order 39 = .ok (.iload_n 2, 1) := by decide +kernel
theorem dX5_order_40 : decode cX5_order 40 = .ok (.aload_n 0, 1) := by decide +kernel
theorem dX5_order_41 : decode cX5_order 41 = .ok (.getfield 31, 3) := by decide +kernel
theorem dX5_order_44 : decode cX5_order 44 = .ok (.iload_n 3, 1) := by decide +kernel
theorem dX5_order_45 : decode cX5_order 45 = .ok (.iaload, 1) := by decide +kernel
theorem dX5_order_46 : decode cX5_order 46 = .ok (.iload_n 3, 1) := by decide +kernel
theorem dX5_order_47 : decode cX5_order 47 = .ok (.if_icmp .ne 7, 3) := by decide +kernel
theorem dX5_order_50 : decode cX5_order 50 = .ok (.iconst 0, 1) := by decide +kernel
theorem dX5_order_51 : decode cX5_order 51 = .ok (.goto 4, 3) := by decide +kernel
theorem dX5_order_54 : decode cX5_order 54 = .ok (.iconst 1, 1) := by decide +kernel
theorem dX5_order_55 : decode cX5_order 55 = .ok (.iadd, 1) := by decide +kernel
theorem dX5_order_56 : decode cX5_order 56 = .ok (.istore_n 2, 1) := by decide +kernel
theorem dX5_order_57 : decode cX5_order 57 = .ok (.iinc 3 1, 3) := by decide +kernel
theorem dX5_order_60 : decode cX5_order 60 = .ok (.goto (-32), 3) := by decide +kernel
theorem dX5_order_63 : decode cX5_order 63 = .ok (.iload_n 2, 1) := by decide +kernel
theorem dX5_order_64 : decode cX5_order 64 = .ok (.ireturn, 1) := by decide +kernel
set_option maxRecDepth 20000 in
theorem ggX5_jobOf_X5_isJob : GoodIn wsX5_jobOf wsX5_isJob := goodIn_r _ [7, 8, 9, 10, 6, 11, 56, 57, 58, 59, 60, 61, 62, 63, 64, 65, 66, 67, 68, 69] (by decide +kernel) (by decide +kernel)
set_option maxRecDepth 20000 in
theorem gX5_jobOf_X5_isJob : GoodIn wsX5_jobOf (wsV RX5 122 RX5 yX5_isJob wsX5_isJob) := goodIn_app (goodIn_of _ (by decide +kernel)) ggX5_jobOf_X5_isJob
set_option maxRecDepth 20000 in
theorem ggX5_jobOf_X5_prints : GoodIn wsX5_jobOf wsX5_prints := goodIn_r _ [15, 8, 1, 2, 16, 17, 18, 6, 19, 20, 21, 22, 23, 24, 25, 26, 27, 28, 29, 30, 31, 32, 33, 34, 35, 36, 37, 38, 39, 40, 41, 42, 43, 44, 45, 46, 47, 56, 57, 58, 59, 60, 61, 62, 63, 64, 65, 66, 67, 68, 69] (by decide +kernel) (by decide +kernel)
set_option maxRecDepth 20000 in
theorem gX5_jobOf_X5_prints : GoodIn wsX5_jobOf (wsV RX5 87 RX5 yX5_prints wsX5_prints) := goodIn_app (goodIn_of _ (by decide +kernel)) ggX5_jobOf_X5_prints
set_option maxRecDepth 20000 in
theorem ggX5_jobOf_X5_its : GoodIn wsX5_jobOf wsX5_its := goodIn_r _ [27, 8, 56, 57, 58, 59, 60, 61, 62, 63, 64, 65, 66, 67, 68, 69] (by decide +kernel) (by decide +kernel)
set_option maxRecDepth 20000 in
theorem gX5_jobOf_X5_its : GoodIn wsX5_jobOf (wsV RX5 48 RX5 yX5_its wsX5_its) := goodIn_app (goodIn_of _ (by decide +kernel)) ggX5_jobOf_X5_its
set_option maxRecDepth 20000 in
theorem ggX5_jobOf_X5_racksOf : GoodIn wsX5_jobOf wsX5_racksOf := goodIn_r _ [43, 24, 25, 26, 6, 27, 8, 44, 45, 46, 47, 56, 57, 58, 59, 60, 61, 62, 63, 64, 65, 66, 67, 68, 69] (by decide +kernel) (by decide +kernel)
set_option maxRecDepth 20000 in
theorem gX5_jobOf_X5_racksOf : GoodIn wsX5_jobOf (wsV RX5 69 RX5 yX5_racksOf wsX5_racksOf) := goodIn_app (goodIn_of _ (by decide +kernel)) ggX5_jobOf_X5_racksOf
set_option maxRecDepth 20000 in
theorem ggX5_jobOf_X5_dry : GoodIn wsX5_jobOf wsX5_dry := goodIn_r _ [39, 2, 8, 56, 57, 58, 59, 60, 61, 62, 63, 64, 65, 66, 67, 68, 69] (by decide +kernel) (by decide +kernel)
set_option maxRecDepth 20000 in
theorem gX5_jobOf_X5_dry : GoodIn wsX5_jobOf (wsV RX5 66 RX5 yX5_dry wsX5_dry) := goodIn_app (goodIn_of _ (by decide +kernel)) ggX5_jobOf_X5_dry
set_option maxRecDepth 20000 in
theorem ggX5_jobOf_X5_late : GoodIn wsX5_jobOf wsX5_late := goodIn_r _ [51, 36, 37, 38, 6, 39, 2, 8, 24, 25, 26, 27, 56, 57, 58, 59, 60, 61, 62, 63, 64, 65, 66, 67, 68, 69] (by decide +kernel) (by decide +kernel)
set_option maxRecDepth 20000 in
theorem gX5_jobOf_X5_late : GoodIn wsX5_jobOf (wsV RX5 78 RX5 yX5_late wsX5_late) := goodIn_app (goodIn_of _ (by decide +kernel)) ggX5_jobOf_X5_late
set_option maxRecDepth 20000 in
theorem ggX5_jobOf_X5_waits : GoodIn wsX5_jobOf wsX5_waits := goodIn_r _ [55, 1, 2, 56, 57, 58, 59, 60, 61, 62, 63, 64, 65, 66, 67, 68, 69] (by decide +kernel) (by decide +kernel)
set_option maxRecDepth 20000 in
theorem gX5_jobOf_X5_waits : GoodIn wsX5_jobOf (wsV RX5 84 RX5 yX5_waits wsX5_waits) := goodIn_app (goodIn_of _ (by decide +kernel)) ggX5_jobOf_X5_waits
set_option maxRecDepth 20000 in
theorem ggX5_jobOf_X5_readyFor : GoodIn wsX5_jobOf wsX5_readyFor := goodIn_r _ [19, 20, 21, 22, 6, 23, 8, 24, 25, 26, 27, 28, 29, 30, 31, 56, 57, 58, 59, 60, 61, 62, 63, 64, 65, 66, 67, 68, 69] (by decide +kernel) (by decide +kernel)
set_option maxRecDepth 20000 in
theorem gX5_jobOf_X5_readyFor : GoodIn wsX5_jobOf (wsV RX5 72 RX5 yX5_readyFor wsX5_readyFor) := goodIn_app (goodIn_of _ (by decide +kernel)) ggX5_jobOf_X5_readyFor
set_option maxRecDepth 20000 in
theorem ggX5_jobOf_X5_washFor : GoodIn wsX5_jobOf wsX5_washFor := goodIn_r _ [31, 8, 24, 25, 26, 6, 27, 56, 57, 58, 59, 60, 61, 62, 63, 64, 65, 66, 67, 68, 69] (by decide +kernel) (by decide +kernel)
set_option maxRecDepth 20000 in
theorem gX5_jobOf_X5_washFor : GoodIn wsX5_jobOf (wsV RX5 63 RX5 yX5_washFor wsX5_washFor) := goodIn_app (goodIn_of _ (by decide +kernel)) ggX5_jobOf_X5_washFor
theorem dX5_jobOf_0 : decode cX5_jobOf 0 = .ok (.aload_n 0, 1) := by decide +kernel
theorem dX5_jobOf_1 : decode cX5_jobOf 1 = .ok (.iload_n 1, 1) := by decide +kernel
theorem dX5_jobOf_2 : decode cX5_jobOf 2 = .ok (.invokevirtual 122, 3) := by decide +kernel
theorem dX5_jobOf_5 : decode cX5_jobOf 5 = .ok (.ifCond .ne 5, 3) := by decide +kernel
theorem dX5_jobOf_8 : decode cX5_jobOf 8 = .ok (.iconst (-1), 1) := by decide +kernel
theorem dX5_jobOf_9 : decode cX5_jobOf 9 = .ok (.ireturn, 1) := by decide +kernel
theorem dX5_jobOf_10 : decode cX5_jobOf 10 = .ok (.aload_n 0, 1) := by decide +kernel
theorem dX5_jobOf_11 : decode cX5_jobOf 11 = .ok (.invokevirtual 87, 3) := by decide +kernel
theorem dX5_jobOf_14 : decode cX5_jobOf 14 = .ok (.iload_n 2, 1) := by decide +kernel
theorem dX5_jobOf_15 : decode cX5_jobOf 15 = .ok (.tableswitch 118 0 11 #[61, 61, 61, 61, 68, 74, 81, 88, 94, 100, 106, 112], 61) := by decide +kernel
theorem dX5_jobOf_76 : decode cX5_jobOf 76 = .ok (.aload_n 0, 1) := by decide +kernel
theorem dX5_jobOf_77 : decode cX5_jobOf 77 = .ok (.iload_n 1, 1) := by decide +kernel
theorem dX5_jobOf_78 : decode cX5_jobOf 78 = .ok (.iload_n 2, 1) := by decide +kernel
theorem dX5_jobOf_79 : decode cX5_jobOf 79 = .ok (.invokevirtual 48, 3) := by decide +kernel
theorem dX5_jobOf_82 : decode cX5_jobOf 82 = .ok (.ireturn, 1) := by decide +kernel
theorem dX5_jobOf_83 : decode cX5_jobOf 83 = .ok (.aload_n 0, 1) := by decide +kernel
theorem dX5_jobOf_84 : decode cX5_jobOf 84 = .ok (.iload_n 1, 1) := by decide +kernel
theorem dX5_jobOf_85 : decode cX5_jobOf 85 = .ok (.invokevirtual 69, 3) := by decide +kernel
theorem dX5_jobOf_88 : decode cX5_jobOf 88 = .ok (.ireturn, 1) := by decide +kernel
theorem dX5_jobOf_89 : decode cX5_jobOf 89 = .ok (.aload_n 0, 1) := by decide +kernel
theorem dX5_jobOf_90 : decode cX5_jobOf 90 = .ok (.getfield 25, 3) := by decide +kernel
theorem dX5_jobOf_93 : decode cX5_jobOf 93 = .ok (.iload_n 1, 1) := by decide +kernel
theorem dX5_jobOf_94 : decode cX5_jobOf 94 = .ok (.iaload, 1) := by decide +kernel
theorem dX5_jobOf_95 : decode cX5_jobOf 95 = .ok (.ireturn, 1) := by decide +kernel
theorem dX5_jobOf_96 : decode cX5_jobOf 96 = .ok (.aload_n 0, 1) := by decide +kernel
theorem dX5_jobOf_97 : decode cX5_jobOf 97 = .ok (.getfield 28, 3) := by decide +kernel
theorem dX5_jobOf_100 : decode cX5_jobOf 100 = .ok (.iload_n 1, 1) := by decide +kernel
theorem dX5_jobOf_101 : decode cX5_jobOf 101 = .ok (.iaload, 1) := by decide +kernel
theorem dX5_jobOf_102 : decode cX5_jobOf 102 = .ok (.ireturn, 1) := by decide +kernel
theorem dX5_jobOf_103 : decode cX5_jobOf 103 = .ok (.aload_n 0, 1) := by decide +kernel
theorem dX5_jobOf_104 : decode cX5_jobOf 104 = .ok (.iload_n 1, 1) := by decide +kernel
theorem dX5_jobOf_105 : decode cX5_jobOf 105 = .ok (.invokevirtual 66, 3) := by decide +kernel
theorem dX5_jobOf_108 : decode cX5_jobOf 108 = .ok (.ireturn, 1) := by decide +kernel
theorem dX5_jobOf_109 : decode cX5_jobOf 109 = .ok (.aload_n 0, 1) := by decide +kernel
theorem dX5_jobOf_110 : decode cX5_jobOf 110 = .ok (.iload_n 1, 1) := by decide +kernel
theorem dX5_jobOf_111 : decode cX5_jobOf 111 = .ok (.invokevirtual 78, 3) := by decide +kernel
theorem dX5_jobOf_114 : decode cX5_jobOf 114 = .ok (.ireturn, 1) := by decide +kernel
theorem dX5_jobOf_115 : decode cX5_jobOf 115 = .ok (.aload_n 0, 1) := by decide +kernel
theorem dX5_jobOf_116 : decode cX5_jobOf 116 = .ok (.iload_n 1, 1) := by decide +kernel
theorem dX5_jobOf_117 : decode cX5_jobOf 117 = .ok (.invokevirtual 84, 3) := by decide +kernel
theorem dX5_jobOf_120 : decode cX5_jobOf 120 = .ok (.ireturn, 1) := by decide +kernel
theorem dX5_jobOf_121 : decode cX5_jobOf 121 = .ok (.aload_n 0, 1) := by decide +kernel
theorem dX5_jobOf_122 : decode cX5_jobOf 122 = .ok (.iload_n 1, 1) := by decide +kernel
theorem dX5_jobOf_123 : decode cX5_jobOf 123 = .ok (.invokevirtual 72, 3) := by decide +kernel
theorem dX5_jobOf_126 : decode cX5_jobOf 126 = .ok (.ireturn, 1) := by decide +kernel
theorem dX5_jobOf_127 : decode cX5_jobOf 127 = .ok (.aload_n 0, 1) := by decide +kernel
theorem dX5_jobOf_128 : decode cX5_jobOf 128 = .ok (.iload_n 1, 1) := by decide +kernel
theorem dX5_jobOf_129 : decode cX5_jobOf 129 = .ok (.invokevirtual 63, 3) := by decide +kernel
theorem dX5_jobOf_132 : decode cX5_jobOf 132 = .ok (.ireturn, 1) := by decide +kernel
theorem dX5_jobOf_133 : decode cX5_jobOf 133 = .ok (.bipush (-2), 2) := by decide +kernel
theorem dX5_jobOf_135 : decode cX5_jobOf 135 = .ok (.ireturn, 1) := by decide +kernel
set_option maxRecDepth 20000 in
theorem ggX5_count_X5_prints : GoodIn wsX5_count wsX5_prints := goodIn_r _ [9, 1, 10, 11, 12, 13, 14, 8, 15, 16, 17, 18, 19, 20, 21, 22, 23, 24, 25, 26, 27, 28, 29, 30, 31, 32, 33, 34, 35, 36, 37, 38, 39, 40, 41, 42, 43, 67, 68, 69, 70, 71, 72, 73, 74, 75, 76, 77, 78, 79, 80] (by decide +kernel) (by decide +kernel)
set_option maxRecDepth 20000 in
theorem gX5_count_X5_prints : GoodIn wsX5_count (wsV RX5 87 RX5 yX5_prints wsX5_prints) := goodIn_app (goodIn_of _ (by decide +kernel)) ggX5_count_X5_prints
set_option maxRecDepth 20000 in
theorem ggX5_count_X5_sumOf : GoodIn wsX5_count wsX5_sumOf := goodIn_r _ [47, 1, 20, 21, 22, 8, 23, 48, 49, 50, 51, 32, 33, 34, 35, 11, 24, 25, 26, 27, 52, 53, 54, 55, 56, 57, 58, 59, 10, 67, 68, 69, 70, 71, 72, 73, 74, 75, 76, 77, 78, 79, 80] (by decide +kernel) (by decide +kernel)
set_option maxRecDepth 20000 in
theorem gX5_count_X5_sumOf : GoodIn wsX5_count (wsV RX5 90 RX5 yX5_sumOf wsX5_sumOf) := goodIn_app (goodIn_of _ (by decide +kernel)) ggX5_count_X5_sumOf
set_option maxRecDepth 20000 in
theorem ggX5_count_X5_greatestOf : GoodIn wsX5_count wsX5_greatestOf := goodIn_r _ [63, 1, 11, 32, 33, 34, 8, 35, 48, 49, 50, 51, 20, 21, 22, 23, 28, 29, 30, 31, 36, 37, 38, 39, 40, 41, 42, 43, 67, 68, 69, 70, 71, 72, 73, 74, 75, 76, 77, 78, 79, 80] (by decide +kernel) (by decide +kernel)
set_option maxRecDepth 20000 in
theorem gX5_count_X5_greatestOf : GoodIn wsX5_count (wsV RX5 141 RX5 yX5_greatestOf wsX5_greatestOf) := goodIn_app (goodIn_of _ (by decide +kernel)) ggX5_count_X5_greatestOf
set_option maxRecDepth 20000 in
theorem ggX5_count_X5_in : GoodIn wsX5_count wsX5_in := goodIn_r _ [66] (by decide +kernel) (by decide +kernel)
set_option maxRecDepth 20000 in
theorem gX5_count_X5_in : GoodIn wsX5_count (va_wsS RX5 44 yX5_in wsX5_in) := goodIn_app (goodIn_of _ (by decide +kernel)) ggX5_count_X5_in
theorem dX5_count_0 : decode cX5_count 0 = .ok (.aload_n 0, 1) := by decide +kernel
theorem dX5_count_1 : decode cX5_count 1 = .ok (.invokevirtual 87, 3) := by decide +kernel
theorem dX5_count_4 : decode cX5_count 4 = .ok (.iload_n 1, 1) := by decide +kernel
theorem dX5_count_5 : decode cX5_count 5 = .ok (.tableswitch 97 7 19 #[67, 75, 81, 81, 75, 75, 81, 75, 75, 75, 81, 87, 92], 67) := by decide +kernel
theorem dX5_count_72 : decode cX5_count 72 = .ok (.aload_n 0, 1) := by decide +kernel
theorem dX5_count_73 : decode cX5_count 73 = .ok (.getfield 7, 3) := by decide +kernel
theorem dX5_count_76 : decode cX5_count 76 = .ok (.bipush 7, 2) := by decide +kernel
theorem dX5_count_78 : decode cX5_count 78 = .ok (.iaload, 1) := by decide +kernel
theorem dX5_count_79 : decode cX5_count 79 = .ok (.ireturn, 1) := by decide +kernel
theorem dX5_count_80 : decode cX5_count 80 = .ok (.aload_n 0, 1) := by decide +kernel
theorem dX5_count_81 : decode cX5_count 81 = .ok (.iload_n 1, 1) := by decide +kernel
theorem dX5_count_82 : decode cX5_count 82 = .ok (.invokevirtual 90, 3) := by decide +kernel
theorem dX5_count_85 : decode cX5_count 85 = .ok (.ireturn, 1) := by decide +kernel
theorem dX5_count_86 : decode cX5_count 86 = .ok (.aload_n 0, 1) := by decide +kernel
theorem dX5_count_87 : decode cX5_count 87 = .ok (.iload_n 1, 1) := by decide +kernel
theorem dX5_count_88 : decode cX5_count 88 = .ok (.invokevirtual 141, 3) := by decide +kernel
theorem dX5_count_91 : decode cX5_count 91 = .ok (.ireturn, 1) := by decide +kernel
theorem dX5_count_92 : decode cX5_count 92 = .ok (.aload_n 0, 1) := by decide +kernel
theorem dX5_count_93 : decode cX5_count 93 = .ok (.getfield 144, 3) := by decide +kernel
theorem dX5_count_96 : decode cX5_count 96 = .ok (.ireturn, 1) := by decide +kernel
theorem dX5_count_97 : decode cX5_count 97 = .ok (.aload_n 0, 1) := by decide +kernel
theorem dX5_count_98 : decode cX5_count 98 = .ok (.getfield 40, 3) := by decide +kernel
theorem dX5_count_101 : decode cX5_count 101 = .ok (.ireturn, 1) := by decide +kernel
theorem dX5_count_102 : decode cX5_count 102 = .ok (.iload_n 1, 1) := by decide +kernel
theorem dX5_count_103 : decode cX5_count 103 = .ok (.i2l, 1) := by decide +kernel
theorem dX5_count_104 : decode cX5_count 104 = .ok (.lconst 0, 1) := by decide +kernel
theorem dX5_count_105 : decode cX5_count 105 = .ok (.ldc2_w 147, 3) := by decide +kernel
theorem dX5_count_108 : decode cX5_count 108 = .ok (.invokestatic 44, 3) := by decide +kernel
theorem dX5_count_111 : decode cX5_count 111 = .ok (.ifCond .eq 12, 3) := by decide +kernel
theorem dX5_count_114 : decode cX5_count 114 = .ok (.aload_n 0, 1) := by decide +kernel
theorem dX5_count_115 : decode cX5_count 115 = .ok (.getfield 7, 3) := by decide +kernel
theorem dX5_count_118 : decode cX5_count 118 = .ok (.iload_n 1, 1) := by decide +kernel
theorem dX5_count_119 : decode cX5_count 119 = .ok (.iaload, 1) := by decide +kernel
theorem dX5_count_120 : decode cX5_count 120 = .ok (.goto 5, 3) := by decide +kernel
theorem dX5_count_123 : decode cX5_count 123 = .ok (.bipush (-2), 2) := by decide +kernel
theorem dX5_count_125 : decode cX5_count 125 = .ok (.ireturn, 1) := by decide +kernel
set_option maxRecDepth 20000 in
theorem ggX5_at_X5_in : GoodIn wsX5_at wsX5_in := goodIn_r _ [9] (by decide +kernel) (by decide +kernel)
set_option maxRecDepth 20000 in
theorem gX5_at_X5_in : GoodIn wsX5_at (va_wsS RX5 44 yX5_in wsX5_in) := goodIn_app (goodIn_of _ (by decide +kernel)) ggX5_at_X5_in
set_option maxRecDepth 20000 in
theorem ggX5_at_X5_prints : GoodIn wsX5_at wsX5_prints := goodIn_r _ [13, 3, 4, 5, 14, 15, 16, 8, 17, 18, 19, 20, 21, 22, 23, 24, 25, 26, 27, 28, 29, 30, 31, 32, 33, 34, 35, 36, 37, 38, 39, 40, 41, 42, 43, 44, 45, 46, 47, 48, 49, 50, 51, 52, 53, 54, 55, 56, 57, 58, 59] (by decide +kernel) (by decide +kernel)
set_option maxRecDepth 20000 in
theorem gX5_at_X5_prints : GoodIn wsX5_at (wsV RX5 87 RX5 yX5_prints wsX5_prints) := goodIn_app (goodIn_of _ (by decide +kernel)) ggX5_at_X5_prints
set_option maxRecDepth 20000 in
theorem ggX5_at_X5_dry : GoodIn wsX5_at wsX5_dry := goodIn_r _ [37, 5, 3, 46, 47, 48, 49, 50, 51, 52, 53, 54, 55, 56, 57, 58, 59] (by decide +kernel) (by decide +kernel)
set_option maxRecDepth 20000 in
theorem gX5_at_X5_dry : GoodIn wsX5_at (wsV RX5 66 RX5 yX5_dry wsX5_dry) := goodIn_app (goodIn_of _ (by decide +kernel)) ggX5_at_X5_dry
set_option maxRecDepth 20000 in
theorem ggX5_at_X5_taken : GoodIn wsX5_at wsX5_taken := goodIn_r _ [33, 5, 34, 35, 36, 8, 37, 3, 38, 39, 40, 41, 22, 23, 24, 25, 42, 43, 44, 45, 46, 47, 48, 49, 50, 51, 52, 53, 54, 55, 56, 57, 58, 59] (by decide +kernel) (by decide +kernel)
set_option maxRecDepth 20000 in
theorem gX5_at_X5_taken : GoodIn wsX5_at (wsV RX5 75 RX5 yX5_taken wsX5_taken) := goodIn_app (goodIn_of _ (by decide +kernel)) ggX5_at_X5_taken
theorem dX5_at_0 : decode cX5_at 0 = .ok (.iload_n 1, 1) := by decide +kernel
theorem dX5_at_1 : decode cX5_at 1 = .ok (.i2l, 1) := by decide +kernel
theorem dX5_at_2 : decode cX5_at 2 = .ok (.lconst 0, 1) := by decide +kernel
theorem dX5_at_3 : decode cX5_at 3 = .ok (.ldc2_w 149, 3) := by decide +kernel
theorem dX5_at_6 : decode cX5_at 6 = .ok (.invokestatic 44, 3) := by decide +kernel
theorem dX5_at_9 : decode cX5_at 9 = .ok (.ifCond .eq 15, 3) := by decide +kernel
theorem dX5_at_12 : decode cX5_at 12 = .ok (.iload_n 2, 1) := by decide +kernel
theorem dX5_at_13 : decode cX5_at 13 = .ok (.i2l, 1) := by decide +kernel
theorem dX5_at_14 : decode cX5_at 14 = .ok (.lconst 0, 1) := by decide +kernel
theorem dX5_at_15 : decode cX5_at 15 = .ok (.ldc2_w 135, 3) := by decide +kernel
theorem dX5_at_18 : decode cX5_at 18 = .ok (.invokestatic 44, 3) := by decide +kernel
theorem dX5_at_21 : decode cX5_at 21 = .ok (.ifCond .ne 6, 3) := by decide +kernel
theorem dX5_at_24 : decode cX5_at 24 = .ok (.bipush (-2), 2) := by decide +kernel
theorem dX5_at_26 : decode cX5_at 26 = .ok (.ireturn, 1) := by decide +kernel
theorem dX5_at_27 : decode cX5_at 27 = .ok (.aload_n 0, 1) := by decide +kernel
theorem dX5_at_28 : decode cX5_at 28 = .ok (.invokevirtual 87, 3) := by decide +kernel
theorem dX5_at_31 : decode cX5_at 31 = .ok (.iload_n 2, 1) := by decide +kernel
theorem dX5_at_32 : decode cX5_at 32 = .ok (.ifCond .ne 8, 3) := by decide +kernel
theorem dX5_at_35 : decode cX5_at 35 = .ok (.bipush (-6), 2) := by decide +kernel
theorem dX5_at_37 : decode cX5_at 37 = .ok (.goto 4, 3) := by decide +kernel
theorem dX5_at_40 : decode cX5_at 40 = .ok (.iconst 0, 1) := by decide +kernel
theorem dX5_at_41 : decode cX5_at 41 = .ok (.istore_n 3, 1) := by decide +kernel
theorem dX5_at_42 : decode cX5_at 42 = .ok (.iconst 0, 1) := by decide +kernel
theorem dX5_at_43 : decode cX5_at 43 = .ok (.istore 4, 2) := by decide +kernel
theorem dX5_at_45 : decode cX5_at 45 = .ok (.iload 4, 2) := by decide +kernel
theorem dX5_at_47 : decode cX5_at 47 = .ok (.aload_n 0, 1) := by decide +kernel
theorem dX5_at_48 : decode cX5_at 48 = .ok (.getfield 7, 3) := by decide +kernel
theorem dX5_at_51 : decode cX5_at 51 = .ok (.bipush 7, 2) := by decide +kernel
theorem dX5_at_53 : decode cX5_at 53 = .ok (.iaload, 1) := by decide +kernel
theorem dX5_at_54 : decode cX5_at 54 = .ok (.if_icmp .ge 96, 3) := by decide +kernel
theorem dX5_at_57 : decode cX5_at 57 = .ok (.iload_n 2, 1) := by decide +kernel
theorem dX5_at_58 : decode cX5_at 58 = .ok (.ifCond .ne 35, 3) := by decide +kernel
theorem dX5_at_61 : decode cX5_at 61 = .ok (.aload_n 0, 1) := by decide +kernel
theorem dX5_at_62 : decode cX5_at 62 = .ok (.getfield 25, 3) := by decide +kernel
theorem dX5_at_65 : decode cX5_at 65 = .ok (.iload 4, 2) := by decide +kernel
theorem dX5_at_67 : decode cX5_at 67 = .ok (.iaload, 1) := by decide +kernel
theorem dX5_at_68 : decode cX5_at 68 = .ok (.iload_n 1, 1) := by decide +kernel
theorem dX5_at_69 : decode cX5_at 69 = .ok (.if_icmp .gt 19, 3) := by decide +kernel
theorem dX5_at_72 : decode cX5_at 72 = .ok (.iload_n 1, 1) := by decide +kernel
theorem dX5_at_73 : decode cX5_at 73 = .ok (.aload_n 0, 1) := by decide +kernel
theorem dX5_at_74 : decode cX5_at 74 = .ok (.getfield 28, 3) := by decide +kernel
theorem dX5_at_77 : decode cX5_at 77 = .ok (.iload 4, 2) := by decide +kernel
theorem dX5_at_79 : decode cX5_at 79 = .ok (.iaload, 1) := by decide +kernel
theorem dX5_at_80 : decode cX5_at 80 = .ok (.if_icmp .ge 8, 3) := by decide +kernel
theorem dX5_at_83 : decode cX5_at 83 = .ok (.iload 4, 2) := by decide +kernel
theorem dX5_at_85 : decode cX5_at 85 = .ok (.goto 4, 3) := by decide +kernel
theorem dX5_at_88 : decode cX5_at 88 = .ok (.iload_n 3, 1) := by decide +kernel
theorem dX5_at_89 : decode cX5_at 89 = .ok (.istore_n 3, 1) := by decide +kernel
theorem dX5_at_90 : decode cX5_at 90 = .ok (.goto 54, 3) := by decide +kernel
theorem dX5_at_93 : decode cX5_at 93 = .ok (.iload_n 3, 1) := by decide +kernel
theorem dX5_at_94 : decode cX5_at 94 = .ok (.iload_n 2, 1) := by decide +kernel
theorem dX5_at_95 : decode cX5_at 95 = .ok (.iconst 2, 1) := by decide +kernel
theorem dX5_at_96 : decode cX5_at 96 = .ok (.if_icmp .ne 22, 3) := by decide +kernel
theorem dX5_at_99 : decode cX5_at 99 = .ok (.aload_n 0, 1) := by decide +kernel
theorem dX5_at_100 : decode cX5_at 100 = .ok (.getfield 28, 3) := by decide +kernel
theorem dX5_at_103 : decode cX5_at 103 = .ok (.iload 4, 2) := by decide +kernel
theorem dX5_at_105 : decode cX5_at 105 = .ok (.iaload, 1) := by decide +kernel
theorem dX5_at_106 : decode cX5_at 106 = .ok (.iload_n 1, 1) := by decide +kernel
theorem dX5_at_107 : decode cX5_at 107 = .ok (.if_icmp .gt 7, 3) := by decide +kernel
theorem dX5_at_110 : decode cX5_at 110 = .ok (.iconst 1, 1) := by decide +kernel
theorem dX5_at_111 : decode cX5_at 111 = .ok (.goto 31, 3) := by decide +kernel
theorem dX5_at_114 : decode cX5_at 114 = .ok (.iconst 0, 1) := by decide +kernel
theorem dX5_at_115 : decode cX5_at 115 = .ok (.goto 27, 3) := by decide +kernel
theorem dX5_at_118 : decode cX5_at 118 = .ok (.iload_n 2, 1) := by decide +kernel
theorem dX5_at_119 : decode cX5_at 119 = .ok (.iconst 3, 1) := by decide +kernel
theorem dX5_at_120 : decode cX5_at 120 = .ok (.if_icmp .ne 21, 3) := by decide +kernel
theorem dX5_at_123 : decode cX5_at 123 = .ok (.aload_n 0, 1) := by decide +kernel
theorem dX5_at_124 : decode cX5_at 124 = .ok (.iload 4, 2) := by decide +kernel
theorem dX5_at_126 : decode cX5_at 126 = .ok (.invokevirtual 66, 3) := by decide +kernel
theorem dX5_at_129 : decode cX5_at 129 = .ok (.iload_n 1, 1) := by decide +kernel
theorem dX5_at_130 : decode cX5_at 130 = .ok (.if_icmp .gt 7, 3) := by decide +kernel
theorem dX5_at_133 : decode cX5_at 133 = .ok (.iconst 1, 1) := by decide +kernel
theorem dX5_at_134 : decode cX5_at 134 = .ok (.goto 8, 3) := by decide +kernel
theorem dX5_at_137 : decode cX5_at 137 = .ok (.iconst 0, 1) := by decide +kernel
theorem dX5_at_138 : decode cX5_at 138 = .ok (.goto 4, 3) := by decide +kernel
theorem dX5_at_141 : decode cX5_at 141 = .ok (.iconst 0, 1) := by decide +kernel
theorem dX5_at_142 : decode cX5_at 142 = .ok (.iadd, 1) := by decide +kernel
theorem dX5_at_143 : decode cX5_at 143 = .ok (.istore_n 3, 1) := by decide +kernel
theorem dX5_at_144 : decode cX5_at 144 = .ok (.iinc 4 1, 3) := by decide +kernel
theorem dX5_at_147 : decode cX5_at 147 = .ok (.goto (-102), 3) := by decide +kernel
theorem dX5_at_150 : decode cX5_at 150 = .ok (.iload_n 2, 1) := by decide +kernel
theorem dX5_at_151 : decode cX5_at 151 = .ok (.iconst 1, 1) := by decide +kernel
theorem dX5_at_152 : decode cX5_at 152 = .ok (.if_icmp .ne 18, 3) := by decide +kernel
theorem dX5_at_155 : decode cX5_at 155 = .ok (.aload_n 0, 1) := by decide +kernel
theorem dX5_at_156 : decode cX5_at 156 = .ok (.aload_n 0, 1) := by decide +kernel
theorem dX5_at_157 : decode cX5_at 157 = .ok (.getfield 7, 3) := by decide +kernel
theorem dX5_at_160 : decode cX5_at 160 = .ok (.bipush 7, 2) := by decide +kernel
theorem dX5_at_162 : decode cX5_at 162 = .ok (.iaload, 1) := by decide +kernel
theorem dX5_at_163 : decode cX5_at 163 = .ok (.iload_n 1, 1) := by decide +kernel
theorem dX5_at_164 : decode cX5_at 164 = .ok (.invokevirtual 75, 3) := by decide +kernel
theorem dX5_at_167 : decode cX5_at 167 = .ok (.goto 4, 3) := by decide +kernel
theorem dX5_at_170 : decode cX5_at 170 = .ok (.iload_n 3, 1) := by decide +kernel
theorem dX5_at_171 : decode cX5_at 171 = .ok (.ireturn, 1) := by decide +kernel
set_option maxRecDepth 20000 in
theorem ggX5_ifOrdered_X5_in : GoodIn wsX5_ifOrdered wsX5_in := goodIn_r _ [5] (by decide +kernel) (by decide +kernel)
set_option maxRecDepth 20000 in
theorem gX5_ifOrdered_X5_in : GoodIn wsX5_ifOrdered (va_wsS RX5 44 yX5_in wsX5_in) := goodIn_app (goodIn_of _ (by decide +kernel)) ggX5_ifOrdered_X5_in
set_option maxRecDepth 20000 in
theorem ggX5_ifOrdered_X5_keeps : GoodIn wsX5_ifOrdered wsX5_keeps := goodIn_r _ [9, 10, 11, 86, 87, 88, 89, 90, 91, 92, 93, 94, 95, 96, 97, 98, 99] (by decide +kernel) (by decide +kernel)
set_option maxRecDepth 20000 in
theorem gX5_ifOrdered_X5_keeps : GoodIn wsX5_ifOrdered (wsV RX5 151 RX5 yX5_keeps wsX5_keeps) := goodIn_app (goodIn_of _ (by decide +kernel)) ggX5_ifOrdered_X5_keeps
set_option maxRecDepth 20000 in
theorem ggX5_ifOrdered_X5_orders : GoodIn wsX5_ifOrdered wsX5_orders := goodIn_r _ [15, 11, 16, 17, 18, 4, 19, 20, 21, 22, 23, 24, 25, 26, 27, 86, 87, 88, 89, 90, 91, 92, 93, 94, 95, 96, 97, 98, 99] (by decide +kernel) (by decide +kernel)
set_option maxRecDepth 20000 in
theorem gX5_ifOrdered_X5_orders : GoodIn wsX5_ifOrdered (wsV RX5 137 RX5 yX5_orders wsX5_orders) := goodIn_app (goodIn_of _ (by decide +kernel)) ggX5_ifOrdered_X5_orders
set_option maxRecDepth 20000 in
theorem ggX5_ifOrdered_X5_prints : GoodIn wsX5_ifOrdered wsX5_prints := goodIn_r _ [31, 11, 32, 33, 34, 35, 36, 4, 37, 38, 39, 40, 41, 20, 21, 22, 23, 42, 43, 44, 45, 46, 47, 48, 49, 50, 51, 52, 53, 54, 55, 56, 57, 58, 59, 60, 61, 86, 87, 88, 89, 90, 91, 92, 93, 94, 95, 96, 97, 98, 99] (by decide +kernel) (by decide +kernel)
set_option maxRecDepth 20000 in
theorem gX5_ifOrdered_X5_prints : GoodIn wsX5_ifOrdered (wsV RX5 87 RX5 yX5_prints wsX5_prints) := goodIn_app (goodIn_of _ (by decide +kernel)) ggX5_ifOrdered_X5_prints
set_option maxRecDepth 20000 in
theorem ggX5_ifOrdered_X5_greatestOf : GoodIn wsX5_ifOrdered wsX5_greatestOf := goodIn_r _ [65, 11, 33, 50, 51, 52, 4, 53, 66, 67, 68, 69, 20, 21, 22, 23, 46, 47, 48, 49, 54, 55, 56, 57, 58, 59, 60, 61, 86, 87, 88, 89, 90, 91, 92, 93, 94, 95, 96, 97, 98, 99] (by decide +kernel) (by decide +kernel)
set_option maxRecDepth 20000 in
theorem gX5_ifOrdered_X5_greatestOf : GoodIn wsX5_ifOrdered (wsV RX5 141 RX5 yX5_greatestOf wsX5_greatestOf) := goodIn_app (goodIn_of _ (by decide +kernel)) ggX5_ifOrdered_X5_greatestOf
set_option maxRecDepth 20000 in
theorem ggX5_ifOrdered_X5_sumOf : GoodIn wsX5_ifOrdered wsX5_sumOf := goodIn_r _ [73, 11, 20, 21, 22, 4, 23, 66, 67, 68, 69, 50, 51, 52, 53, 33, 42, 43, 44, 45, 74, 75, 76, 77, 78, 79, 80, 81, 32, 86, 87, 88, 89, 90, 91, 92, 93, 94, 95, 96, 97, 98, 99] (by decide +kernel) (by decide +kernel)
set_option maxRecDepth 20000 in
theorem gX5_ifOrdered_X5_sumOf : GoodIn wsX5_ifOrdered (wsV RX5 90 RX5 yX5_sumOf wsX5_sumOf) := goodIn_app (goodIn_of _ (by decide +kernel)) ggX5_ifOrdered_X5_sumOf
set_option maxRecDepth 20000 in
theorem ggX5_ifOrdered_X5_comesBack : GoodIn wsX5_ifOrdered wsX5_comesBack := goodIn_r _ [85, 11, 10, 86, 87, 88, 89, 90, 91, 92, 93, 94, 95, 96, 97, 98, 99] (by decide +kernel) (by decide +kernel)
set_option maxRecDepth 20000 in
theorem gX5_ifOrdered_X5_comesBack : GoodIn wsX5_ifOrdered (wsV RX5 154 RX5 yX5_comesBack wsX5_comesBack) := goodIn_app (goodIn_of _ (by decide +kernel)) ggX5_ifOrdered_X5_comesBack
theorem dX5_ifOrdered_0 : decode cX5_ifOrdered 0 = .ok (.iload_n 1, 1) := by decide +kernel
theorem dX5_ifOrdered_1 : decode cX5_ifOrdered 1 = .ok (.i2l, 1) := by decide +kernel
theorem dX5_ifOrdered_2 : decode cX5_ifOrdered 2 = .ok (.lconst 0, 1) := by decide +kernel
theorem dX5_ifOrdered_3 : decode cX5_ifOrdered 3 = .ok (.ldc2_w 135, 3) := by decide +kernel
theorem dX5_ifOrdered_6 : decode cX5_ifOrdered 6 = .ok (.invokestatic 44, 3) := by decide +kernel
theorem dX5_ifOrdered_9 : decode cX5_ifOrdered 9 = .ok (.ifCond .eq 15, 3) := by decide +kernel
theorem dX5_ifOrdered_12 : decode cX5_ifOrdered 12 = .ok (.iload_n 2, 1) := by decide +kernel
theorem dX5_ifOrdered_13 : decode cX5_ifOrdered 13 = .ok (.i2l, 1) := by decide +kernel
theorem dX5_ifOrdered_14 : decode cX5_ifOrdered 14 = .ok (.lconst 0, 1) := by decide +kernel
theorem dX5_ifOrdered_15 : decode cX5_ifOrdered 15 = .ok (.ldc2_w 135, 3) := by decide +kernel
theorem dX5_ifOrdered_18 : decode cX5_ifOrdered 18 = .ok (.invokestatic 44, 3) := by decide +kernel
theorem dX5_ifOrdered_21 : decode cX5_ifOrdered 21 = .ok (.ifCond .ne 6, 3) := by decide +kernel
theorem dX5_ifOrdered_24 : decode cX5_ifOrdered 24 = .ok (.bipush (-2), 2) := by decide +kernel
theorem dX5_ifOrdered_26 : decode cX5_ifOrdered 26 = .ok (.ireturn, 1) := by decide +kernel
theorem dX5_ifOrdered_27 : decode cX5_ifOrdered 27 = .ok (.aload_n 0, 1) := by decide +kernel
theorem dX5_ifOrdered_28 : decode cX5_ifOrdered 28 = .ok (.invokevirtual 151, 3) := by decide +kernel
theorem dX5_ifOrdered_31 : decode cX5_ifOrdered 31 = .ok (.aload_n 0, 1) := by decide +kernel
theorem dX5_ifOrdered_32 : decode cX5_ifOrdered 32 = .ok (.iload_n 1, 1) := by decide +kernel
theorem dX5_ifOrdered_33 : decode cX5_ifOrdered 33 = .ok (.invokevirtual 137, 3) := by decide +kernel
theorem dX5_ifOrdered_36 : decode cX5_ifOrdered 36 = .ok (.aload_n 0, 1) := by decide +kernel
theorem dX5_ifOrdered_37 : decode cX5_ifOrdered 37 = .ok (.invokevirtual 87, 3) := by decide +kernel
theorem dX5_ifOrdered_40 : decode cX5_ifOrdered 40 = .ok (.iload_n 2, 1) := by decide +kernel
theorem dX5_ifOrdered_41 : decode cX5_ifOrdered 41 = .ok (.ifCond .ne 12, 3) := by decide +kernel
theorem dX5_ifOrdered_44 : decode cX5_ifOrdered 44 = .ok (.aload_n 0, 1) := by decide +kernel
theorem dX5_ifOrdered_45 : decode cX5_ifOrdered 45 = .ok (.bipush 10, 2) := by decide +kernel
theorem dX5_ifOrdered_47 : decode cX5_ifOrdered 47 = .ok (.invokevirtual 141, 3) := by decide +kernel
theorem dX5_ifOrdered_50 : decode cX5_ifOrdered 50 = .ok (.goto 29, 3) := by decide +kernel
theorem dX5_ifOrdered_53 : decode cX5_ifOrdered 53 = .ok (.aload_n 0, 1) := by decide +kernel
theorem dX5_ifOrdered_54 : decode cX5_ifOrdered 54 = .ok (.iload_n 2, 1) := by decide +kernel
theorem dX5_ifOrdered_55 : decode cX5_ifOrdered 55 = .ok (.iconst 1, 1) := by decide +kernel
theorem dX5_ifOrdered_56 : decode cX5_ifOrdered 56 = .ok (.if_icmp .ne 8, 3) := by decide +kernel
theorem dX5_ifOrdered_59 : decode cX5_ifOrdered 59 = .ok (.bipush 12, 2) := by decide +kernel
theorem dX5_ifOrdered_61 : decode cX5_ifOrdered 61 = .ok (.goto 15, 3) := by decide +kernel
theorem dX5_ifOrdered_64 : decode cX5_ifOrdered 64 = .ok (.iload_n 2, 1) := by decide +kernel
theorem dX5_ifOrdered_65 : decode cX5_ifOrdered 65 = .ok (.iconst 2, 1) := by decide +kernel
theorem dX5_ifOrdered_66 : decode cX5_ifOrdered 66 = .ok (.if_icmp .ne 8, 3) := by decide +kernel
theorem dX5_ifOrdered_69 : decode cX5_ifOrdered 69 = .ok (.bipush 14, 2) := by decide +kernel
theorem dX5_ifOrdered_71 : decode cX5_ifOrdered 71 = .ok (.goto 5, 3) := by decide +kernel
theorem dX5_ifOrdered_74 : decode cX5_ifOrdered 74 = .ok (.bipush 15, 2) := by decide +kernel
theorem dX5_ifOrdered_76 : decode cX5_ifOrdered 76 = .ok (.invokevirtual 90, 3) := by decide +kernel
theorem dX5_ifOrdered_79 : decode cX5_ifOrdered 79 = .ok (.istore_n 3, 1) := by decide +kernel
theorem dX5_ifOrdered_80 : decode cX5_ifOrdered 80 = .ok (.aload_n 0, 1) := by decide +kernel
theorem dX5_ifOrdered_81 : decode cX5_ifOrdered 81 = .ok (.invokevirtual 154, 3) := by decide +kernel
theorem dX5_ifOrdered_84 : decode cX5_ifOrdered 84 = .ok (.iload_n 3, 1) := by decide +kernel
theorem dX5_ifOrdered_85 : decode cX5_ifOrdered 85 = .ok (.ireturn, 1) := by decide +kernel
set_option maxRecDepth 20000 in
theorem ggX5_bestExchange_X5_in : GoodIn wsX5_bestExchange wsX5_in := goodIn_r _ [6] (by decide +kernel) (by decide +kernel)
set_option maxRecDepth 20000 in
theorem gX5_bestExchange_X5_in : GoodIn wsX5_bestExchange (va_wsS RX5 44 yX5_in wsX5_in) := goodIn_app (goodIn_of _ (by decide +kernel)) ggX5_bestExchange_X5_in
set_option maxRecDepth 20000 in
theorem ggX5_bestExchange_X5_lateAll : GoodIn wsX5_bestExchange wsX5_lateAll := goodIn_r _ [10, 11, 12, 13, 5, 14, 2, 15, 16, 17, 18, 19, 20, 21, 22, 23, 24, 25, 26, 27, 28, 29, 30, 31, 32, 33, 34, 35, 36, 37, 38, 39, 40, 41, 42, 43, 44, 45, 46, 47, 48, 49, 50, 51, 52, 53, 54, 55, 56, 57, 58, 59, 60, 61, 62, 63, 64, 69, 70, 71, 72, 73, 74, 75, 76, 77, 78, 79, 80, 81, 82] (by decide +kernel) (by decide +kernel)
set_option maxRecDepth 20000 in
theorem gX5_bestExchange_X5_lateAll : GoodIn wsX5_bestExchange (wsV RX5 129 RX5 yX5_lateAll wsX5_lateAll) := goodIn_app (goodIn_of _ (by decide +kernel)) ggX5_bestExchange_X5_lateAll
set_option maxRecDepth 20000 in
theorem ggX5_bestExchange_X5_exchanges : GoodIn wsX5_bestExchange wsX5_exchanges := goodIn_r _ [68, 2, 25, 26, 27, 5, 28, 69, 70, 71, 72, 73, 74, 75, 76, 77, 78, 79, 80, 81, 82] (by decide +kernel) (by decide +kernel)
set_option maxRecDepth 20000 in
theorem gX5_bestExchange_X5_exchanges : GoodIn wsX5_bestExchange (wsV RX5 56 RX5 yX5_exchanges wsX5_exchanges) := goodIn_app (goodIn_of _ (by decide +kernel)) ggX5_bestExchange_X5_exchanges
theorem dX5_bestExchange_0 : decode cX5_bestExchange 0 = .ok (.iload_n 1, 1) := by decide +kernel
theorem dX5_bestExchange_1 : decode cX5_bestExchange 1 = .ok (.i2l, 1) := by decide +kernel
theorem dX5_bestExchange_2 : decode cX5_bestExchange 2 = .ok (.lconst 0, 1) := by decide +kernel
theorem dX5_bestExchange_3 : decode cX5_bestExchange 3 = .ok (.ldc2_w 157, 3) := by decide +kernel
theorem dX5_bestExchange_6 : decode cX5_bestExchange 6 = .ok (.invokestatic 44, 3) := by decide +kernel
theorem dX5_bestExchange_9 : decode cX5_bestExchange 9 = .ok (.ifCond .ne 6, 3) := by decide +kernel
theorem dX5_bestExchange_12 : decode cX5_bestExchange 12 = .ok (.bipush (-2), 2) := by decide +kernel
theorem dX5_bestExchange_14 : decode cX5_bestExchange 14 = .ok (.ireturn, 1) := by decide +kernel
theorem dX5_bestExchange_15 : decode cX5_bestExchange 15 = .ok (.aload_n 0, 1) := by decide +kernel
theorem dX5_bestExchange_16 : decode cX5_bestExchange 16 = .ok (.invokevirtual 129, 3) := by decide +kernel
theorem dX5_bestExchange_19 : decode cX5_bestExchange 19 = .ok (.istore_n 2, 1) := by decide +kernel
theorem dX5_bestExchange_20 : decode cX5_bestExchange 20 = .ok (.bipush (-6), 2) := by decide +kernel
theorem dX5_bestExchange_22 : decode cX5_bestExchange 22 = .ok (.istore_n 3, 1) := by decide +kernel
theorem dX5_bestExchange_23 : decode cX5_bestExchange 23 = .ok (.bipush (-6), 2) := by decide +kernel
theorem dX5_bestExchange_25 : decode cX5_bestExchange 25 = .ok (.istore 4, 2) := by decide +kernel
theorem dX5_bestExchange_27 : decode cX5_bestExchange 27 = .ok (.iconst 0, 1) := by decide +kernel
theorem dX5_bestExchange_28 : decode cX5_bestExchange 28 = .ok (.istore 5, 2) := by decide +kernel
theorem dX5_bestExchange_30 : decode cX5_bestExchange 30 = .ok (.iload 5, 2) := by decide +kernel
theorem dX5_bestExchange_32 : decode cX5_bestExchange 32 = .ok (.aload_n 0, 1) := by decide +kernel
theorem dX5_bestExchange_33 : decode cX5_bestExchange 33 = .ok (.getfield 7, 3) := by decide +kernel
theorem dX5_bestExchange_36 : decode cX5_bestExchange 36 = .ok (.bipush 7, 2) := by decide +kernel
theorem dX5_bestExchange_38 : decode cX5_bestExchange 38 = .ok (.iaload, 1) := by decide +kernel
theorem dX5_bestExchange_39 : decode cX5_bestExchange 39 = .ok (.if_icmp .ge 106, 3) := by decide +kernel
theorem dX5_bestExchange_42 : decode cX5_bestExchange 42 = .ok (.iload 5, 2) := by decide +kernel
theorem dX5_bestExchange_44 : decode cX5_bestExchange 44 = .ok (.iconst 1, 1) := by decide +kernel
theorem dX5_bestExchange_45 : decode cX5_bestExchange 45 = .ok (.iadd, 1) := by decide +kernel
theorem dX5_bestExchange_46 : decode cX5_bestExchange 46 = .ok (.istore 6, 2) := by decide +kernel
theorem dX5_bestExchange_48 : decode cX5_bestExchange 48 = .ok (.iload 6, 2) := by decide +kernel
theorem dX5_bestExchange_50 : decode cX5_bestExchange 50 = .ok (.aload_n 0, 1) := by decide +kernel
theorem dX5_bestExchange_51 : decode cX5_bestExchange 51 = .ok (.getfield 7, 3) := by decide +kernel
theorem dX5_bestExchange_54 : decode cX5_bestExchange 54 = .ok (.bipush 7, 2) := by decide +kernel
theorem dX5_bestExchange_56 : decode cX5_bestExchange 56 = .ok (.iaload, 1) := by decide +kernel
theorem dX5_bestExchange_57 : decode cX5_bestExchange 57 = .ok (.if_icmp .ge 82, 3) := by decide +kernel
theorem dX5_bestExchange_60 : decode cX5_bestExchange 60 = .ok (.aload_n 0, 1) := by decide +kernel
theorem dX5_bestExchange_61 : decode cX5_bestExchange 61 = .ok (.iload 5, 2) := by decide +kernel
theorem dX5_bestExchange_63 : decode cX5_bestExchange 63 = .ok (.iload 6, 2) := by decide +kernel
theorem dX5_bestExchange_65 : decode cX5_bestExchange 65 = .ok (.invokevirtual 56, 3) := by decide +kernel
theorem dX5_bestExchange_68 : decode cX5_bestExchange 68 = .ok (.aload_n 0, 1) := by decide +kernel
theorem dX5_bestExchange_69 : decode cX5_bestExchange 69 = .ok (.invokevirtual 129, 3) := by decide +kernel
theorem dX5_bestExchange_72 : decode cX5_bestExchange 72 = .ok (.istore 7, 2) := by decide +kernel
theorem dX5_bestExchange_74 : decode cX5_bestExchange 74 = .ok (.aload_n 0, 1) := by decide +kernel
theorem dX5_bestExchange_75 : decode cX5_bestExchange 75 = .ok (.iload 5, 2) := by decide +kernel
theorem dX5_bestExchange_77 : decode cX5_bestExchange 77 = .ok (.iload 6, 2) := by decide +kernel
theorem dX5_bestExchange_79 : decode cX5_bestExchange 79 = .ok (.invokevirtual 56, 3) := by decide +kernel
theorem dX5_bestExchange_82 : decode cX5_bestExchange 82 = .ok (.iload 7, 2) := by decide +kernel
theorem dX5_bestExchange_84 : decode cX5_bestExchange 84 = .ok (.iload_n 2, 1) := by decide +kernel
theorem dX5_bestExchange_85 : decode cX5_bestExchange 85 = .ok (.if_icmp .ge 7, 3) := by decide +kernel
theorem dX5_bestExchange_88 : decode cX5_bestExchange 88 = .ok (.iconst 1, 1) := by decide +kernel
theorem dX5_bestExchange_89 : decode cX5_bestExchange 89 = .ok (.goto 4, 3) := by decide +kernel
theorem dX5_bestExchange_92 : decode cX5_bestExchange 92 = .ok (.iconst 0, 1) := by decide +kernel
theorem dX5_bestExchange_93 : decode cX5_bestExchange 93 = .ok (.istore 8, 2) := by decide +kernel
theorem dX5_bestExchange_95 : decode cX5_bestExchange 95 = .ok (.iload 8, 2) := by decide +kernel
theorem dX5_bestExchange_97 : decode cX5_bestExchange 97 = .ok (.ifCond .eq 8, 3) := by decide +kernel
theorem dX5_bestExchange_100 : decode cX5_bestExchange 100 = .ok (.iload 5, 2) := by decide +kernel
theorem dX5_bestExchange_102 : decode cX5_bestExchange 102 = .ok (.goto 4, 3) := by decide +kernel
theorem dX5_bestExchange_105 : decode cX5_bestExchange 105 = .ok (.iload_n 3, 1) := by decide +kernel
theorem dX5_bestExchange_106 : decode cX5_bestExchange 106 = .ok (.istore_n 3, 1) := by decide +kernel
theorem dX5_bestExchange_107 : decode cX5_bestExchange 107 = .ok (.iload 8, 2) := by decide +kernel
theorem dX5_bestExchange_109 : decode cX5_bestExchange 109 = .ok (.ifCond .eq 8, 3) := by decide +kernel
theorem dX5_bestExchange_112 : decode cX5_bestExchange 112 = .ok (.iload 6, 2) := by decide +kernel
theorem dX5_bestExchange_114 : decode cX5_bestExchange 114 = .ok (.goto 5, 3) := by decide +kernel
theorem dX5_bestExchange_117 : decode cX5_bestExchange 117 = .ok (.iload 4, 2) := by decide +kernel
theorem dX5_bestExchange_119 : decode cX5_bestExchange 119 = .ok (.istore 4, 2) := by decide +kernel
theorem dX5_bestExchange_121 : decode cX5_bestExchange 121 = .ok (.iload 8, 2) := by decide +kernel
theorem dX5_bestExchange_123 : decode cX5_bestExchange 123 = .ok (.ifCond .eq 8, 3) := by decide +kernel
theorem dX5_bestExchange_126 : decode cX5_bestExchange 126 = .ok (.iload 7, 2) := by decide +kernel
theorem dX5_bestExchange_128 : decode cX5_bestExchange 128 = .ok (.goto 4, 3) := by decide +kernel
theorem dX5_bestExchange_131 : decode cX5_bestExchange 131 = .ok (.iload_n 2, 1) := by decide +kernel
theorem dX5_bestExchange_132 : decode cX5_bestExchange 132 = .ok (.istore_n 2, 1) := by decide +kernel
theorem dX5_bestExchange_133 : decode cX5_bestExchange 133 = .ok (.iinc 6 1, 3) := by decide +kernel
theorem dX5_bestExchange_136 : decode cX5_bestExchange 136 = .ok (.goto (-88), 3) := by decide +kernel
theorem dX5_bestExchange_139 : decode cX5_bestExchange 139 = .ok (.iinc 5 1, 3) := by decide +kernel
theorem dX5_bestExchange_142 : decode cX5_bestExchange 142 = .ok (.goto (-112), 3) := by decide +kernel
theorem dX5_bestExchange_145 : decode cX5_bestExchange 145 = .ok (.iload_n 3, 1) := by decide +kernel
theorem dX5_bestExchange_146 : decode cX5_bestExchange 146 = .ok (.bipush (-6), 2) := by decide +kernel
theorem dX5_bestExchange_148 : decode cX5_bestExchange 148 = .ok (.if_icmp .eq 7, 3) := by decide +kernel
theorem dX5_bestExchange_151 : decode cX5_bestExchange 151 = .ok (.iload_n 1, 1) := by decide +kernel
theorem dX5_bestExchange_152 : decode cX5_bestExchange 152 = .ok (.ifCond .ne 7, 3) := by decide +kernel
theorem dX5_bestExchange_155 : decode cX5_bestExchange 155 = .ok (.iload_n 3, 1) := by decide +kernel
theorem dX5_bestExchange_156 : decode cX5_bestExchange 156 = .ok (.goto 14, 3) := by decide +kernel
theorem dX5_bestExchange_159 : decode cX5_bestExchange 159 = .ok (.iload_n 1, 1) := by decide +kernel
theorem dX5_bestExchange_160 : decode cX5_bestExchange 160 = .ok (.iconst 1, 1) := by decide +kernel
theorem dX5_bestExchange_161 : decode cX5_bestExchange 161 = .ok (.if_icmp .ne 8, 3) := by decide +kernel
theorem dX5_bestExchange_164 : decode cX5_bestExchange 164 = .ok (.iload 4, 2) := by decide +kernel
theorem dX5_bestExchange_166 : decode cX5_bestExchange 166 = .ok (.goto 4, 3) := by decide +kernel
theorem dX5_bestExchange_169 : decode cX5_bestExchange 169 = .ok (.iload_n 2, 1) := by decide +kernel
theorem dX5_bestExchange_170 : decode cX5_bestExchange 170 = .ok (.ireturn, 1) := by decide +kernel
set_option maxRecDepth 20000 in
theorem ggX5_bestFirst_X5_moves : GoodIn wsX5_bestFirst wsX5_moves := goodIn_r _ [6, 7, 8, 9, 5, 10, 1, 11, 12, 13, 14, 69, 70, 71, 72, 73, 74, 75, 76, 77, 78, 79, 80, 81, 82] (by decide +kernel) (by decide +kernel)
set_option maxRecDepth 20000 in
theorem gX5_bestFirst_X5_moves : GoodIn wsX5_bestFirst (wsV RX5 126 RX5 yX5_moves wsX5_moves) := goodIn_app (goodIn_of _ (by decide +kernel)) ggX5_bestFirst_X5_moves
set_option maxRecDepth 20000 in
theorem ggX5_bestFirst_X5_lateAll : GoodIn wsX5_bestFirst wsX5_lateAll := goodIn_r _ [18, 19, 20, 21, 5, 22, 1, 23, 24, 25, 26, 27, 28, 29, 30, 31, 32, 11, 12, 13, 14, 33, 34, 35, 36, 37, 38, 39, 40, 41, 42, 43, 44, 45, 46, 47, 48, 49, 50, 51, 52, 53, 54, 55, 56, 57, 58, 59, 60, 61, 62, 63, 64, 65, 66, 67, 68, 69, 70, 71, 72, 73, 74, 75, 76, 77, 78, 79, 80, 81, 82] (by decide +kernel) (by decide +kernel)
set_option maxRecDepth 20000 in
theorem gX5_bestFirst_X5_lateAll : GoodIn wsX5_bestFirst (wsV RX5 129 RX5 yX5_lateAll wsX5_lateAll) := goodIn_app (goodIn_of _ (by decide +kernel)) ggX5_bestFirst_X5_lateAll
theorem dX5_bestFirst_0 : decode cX5_bestFirst 0 = .ok (.bipush (-6), 2) := by decide +kernel
theorem dX5_bestFirst_2 : decode cX5_bestFirst 2 = .ok (.istore_n 1, 1) := by decide +kernel
theorem dX5_bestFirst_3 : decode cX5_bestFirst 3 = .ok (.iconst 0, 1) := by decide +kernel
theorem dX5_bestFirst_4 : decode cX5_bestFirst 4 = .ok (.istore_n 2, 1) := by decide +kernel
theorem dX5_bestFirst_5 : decode cX5_bestFirst 5 = .ok (.iconst 0, 1) := by decide +kernel
theorem dX5_bestFirst_6 : decode cX5_bestFirst 6 = .ok (.istore_n 3, 1) := by decide +kernel
theorem dX5_bestFirst_7 : decode cX5_bestFirst 7 = .ok (.iload_n 3, 1) := by decide +kernel
theorem dX5_bestFirst_8 : decode cX5_bestFirst 8 = .ok (.aload_n 0, 1) := by decide +kernel
theorem dX5_bestFirst_9 : decode cX5_bestFirst 9 = .ok (.getfield 7, 3) := by decide +kernel
theorem dX5_bestFirst_12 : decode cX5_bestFirst 12 = .ok (.bipush 7, 2) := by decide +kernel
theorem dX5_bestFirst_14 : decode cX5_bestFirst 14 = .ok (.iaload, 1) := by decide +kernel
theorem dX5_bestFirst_15 : decode cX5_bestFirst 15 = .ok (.if_icmp .ge 69, 3) := by decide +kernel
theorem dX5_bestFirst_18 : decode cX5_bestFirst 18 = .ok (.aload_n 0, 1) := by decide +kernel
theorem dX5_bestFirst_19 : decode cX5_bestFirst 19 = .ok (.iload_n 3, 1) := by decide +kernel
theorem dX5_bestFirst_20 : decode cX5_bestFirst 20 = .ok (.iconst 0, 1) := by decide +kernel
theorem dX5_bestFirst_21 : decode cX5_bestFirst 21 = .ok (.invokevirtual 126, 3) := by decide +kernel
theorem dX5_bestFirst_24 : decode cX5_bestFirst 24 = .ok (.aload_n 0, 1) := by decide +kernel
theorem dX5_bestFirst_25 : decode cX5_bestFirst 25 = .ok (.invokevirtual 129, 3) := by decide +kernel
theorem dX5_bestFirst_28 : decode cX5_bestFirst 28 = .ok (.istore 4, 2) := by decide +kernel
theorem dX5_bestFirst_30 : decode cX5_bestFirst 30 = .ok (.aload_n 0, 1) := by decide +kernel
theorem dX5_bestFirst_31 : decode cX5_bestFirst 31 = .ok (.iconst 0, 1) := by decide +kernel
theorem dX5_bestFirst_32 : decode cX5_bestFirst 32 = .ok (.iload_n 3, 1) := by decide +kernel
theorem dX5_bestFirst_33 : decode cX5_bestFirst 33 = .ok (.invokevirtual 126, 3) := by decide +kernel
theorem dX5_bestFirst_36 : decode cX5_bestFirst 36 = .ok (.iload_n 1, 1) := by decide +kernel
theorem dX5_bestFirst_37 : decode cX5_bestFirst 37 = .ok (.bipush (-6), 2) := by decide +kernel
theorem dX5_bestFirst_39 : decode cX5_bestFirst 39 = .ok (.if_icmp .eq 9, 3) := by decide +kernel
theorem dX5_bestFirst_42 : decode cX5_bestFirst 42 = .ok (.iload 4, 2) := by decide +kernel
theorem dX5_bestFirst_44 : decode cX5_bestFirst 44 = .ok (.iload_n 2, 1) := by decide +kernel
theorem dX5_bestFirst_45 : decode cX5_bestFirst 45 = .ok (.if_icmp .ge 7, 3) := by decide +kernel
theorem dX5_bestFirst_48 : decode cX5_bestFirst 48 = .ok (.iconst 1, 1) := by decide +kernel
theorem dX5_bestFirst_49 : decode cX5_bestFirst 49 = .ok (.goto 4, 3) := by decide +kernel
theorem dX5_bestFirst_52 : decode cX5_bestFirst 52 = .ok (.iconst 0, 1) := by decide +kernel
theorem dX5_bestFirst_53 : decode cX5_bestFirst 53 = .ok (.istore 5, 2) := by decide +kernel
theorem dX5_bestFirst_55 : decode cX5_bestFirst 55 = .ok (.iload 5, 2) := by decide +kernel
theorem dX5_bestFirst_57 : decode cX5_bestFirst 57 = .ok (.ifCond .eq 7, 3) := by decide +kernel
theorem dX5_bestFirst_60 : decode cX5_bestFirst 60 = .ok (.iload_n 3, 1) := by decide +kernel
theorem dX5_bestFirst_61 : decode cX5_bestFirst 61 = .ok (.goto 4, 3) := by decide +kernel
theorem dX5_bestFirst_64 : decode cX5_bestFirst 64 = .ok (.iload_n 1, 1) := by decide +kernel
theorem dX5_bestFirst_65 : decode cX5_bestFirst 65 = .ok (.istore_n 1, 1) := by decide +kernel
theorem dX5_bestFirst_66 : decode cX5_bestFirst 66 = .ok (.iload 5, 2) := by decide +kernel
theorem dX5_bestFirst_68 : decode cX5_bestFirst 68 = .ok (.ifCond .eq 8, 3) := by decide +kernel
theorem dX5_bestFirst_71 : decode cX5_bestFirst 71 = .ok (.iload 4, 2) := by decide +kernel
theorem dX5_bestFirst_73 : decode cX5_bestFirst 73 = .ok (.goto 4, 3) := by decide +kernel
theorem dX5_bestFirst_76 : decode cX5_bestFirst 76 = .ok (.iload_n 2, 1) := by decide +kernel
theorem dX5_bestFirst_77 : decode cX5_bestFirst 77 = .ok (.istore_n 2, 1) := by decide +kernel
theorem dX5_bestFirst_78 : decode cX5_bestFirst 78 = .ok (.iinc 3 1, 3) := by decide +kernel
theorem dX5_bestFirst_81 : decode cX5_bestFirst 81 = .ok (.goto (-74), 3) := by decide +kernel
theorem dX5_bestFirst_84 : decode cX5_bestFirst 84 = .ok (.iload_n 1, 1) := by decide +kernel
theorem dX5_bestFirst_85 : decode cX5_bestFirst 85 = .ok (.ireturn, 1) := by decide +kernel
set_option maxRecDepth 20000 in
theorem ggX5_leastRacks_X5_mostNeeded : GoodIn wsX5_leastRacks wsX5_mostNeeded := goodIn_r _ [6, 1, 7, 8, 9, 5, 10, 11, 12, 13, 14, 15, 16, 17, 18, 61, 62, 63, 64, 65, 66, 67, 68, 69, 70, 71, 72, 73, 74] (by decide +kernel) (by decide +kernel)
set_option maxRecDepth 20000 in
theorem gX5_leastRacks_X5_mostNeeded : GoodIn wsX5_leastRacks (wsV RX5 109 RX5 yX5_mostNeeded wsX5_mostNeeded) := goodIn_app (goodIn_of _ (by decide +kernel)) ggX5_leastRacks_X5_mostNeeded
set_option maxRecDepth 20000 in
theorem ggX5_leastRacks_X5_prints : GoodIn wsX5_leastRacks wsX5_prints := goodIn_r _ [22, 1, 23, 24, 25, 26, 27, 5, 28, 29, 30, 31, 32, 11, 12, 13, 14, 33, 34, 35, 36, 37, 38, 39, 40, 41, 42, 43, 44, 7, 8, 9, 10, 15, 16, 17, 18, 61, 62, 63, 64, 65, 66, 67, 68, 69, 70, 71, 72, 73, 74] (by decide +kernel) (by decide +kernel)
set_option maxRecDepth 20000 in
theorem gX5_leastRacks_X5_prints : GoodIn wsX5_leastRacks (wsV RX5 87 RX5 yX5_prints wsX5_prints) := goodIn_app (goodIn_of _ (by decide +kernel)) ggX5_leastRacks_X5_prints
set_option maxRecDepth 20000 in
theorem ggX5_leastRacks_X5_sumOf : GoodIn wsX5_leastRacks wsX5_sumOf := goodIn_r _ [48, 1, 11, 12, 13, 5, 14, 49, 50, 51, 52, 41, 42, 43, 44, 24, 33, 34, 35, 36, 53, 54, 55, 56, 57, 58, 59, 60, 23, 61, 62, 63, 64, 65, 66, 67, 68, 69, 70, 71, 72, 73, 74] (by decide +kernel) (by decide +kernel)
set_option maxRecDepth 20000 in
theorem gX5_leastRacks_X5_sumOf : GoodIn wsX5_leastRacks (wsV RX5 90 RX5 yX5_sumOf wsX5_sumOf) := goodIn_app (goodIn_of _ (by decide +kernel)) ggX5_leastRacks_X5_sumOf
theorem dX5_leastRacks_0 : decode cX5_leastRacks 0 = .ok (.aload_n 0, 1) := by decide +kernel
theorem dX5_leastRacks_1 : decode cX5_leastRacks 1 = .ok (.getfield 7, 3) := by decide +kernel
theorem dX5_leastRacks_4 : decode cX5_leastRacks 4 = .ok (.iconst 5, 1) := by decide +kernel
theorem dX5_leastRacks_5 : decode cX5_leastRacks 5 = .ok (.iaload, 1) := by decide +kernel
theorem dX5_leastRacks_6 : decode cX5_leastRacks 6 = .ok (.istore_n 1, 1) := by decide +kernel
theorem dX5_leastRacks_7 : decode cX5_leastRacks 7 = .ok (.iconst 3, 1) := by decide +kernel
theorem dX5_leastRacks_8 : decode cX5_leastRacks 8 = .ok (.istore_n 2, 1) := by decide +kernel
theorem dX5_leastRacks_9 : decode cX5_leastRacks 9 = .ok (.iconst 0, 1) := by decide +kernel
theorem dX5_leastRacks_10 : decode cX5_leastRacks 10 = .ok (.istore_n 3, 1) := by decide +kernel
theorem dX5_leastRacks_11 : decode cX5_leastRacks 11 = .ok (.iload_n 2, 1) := by decide +kernel
theorem dX5_leastRacks_12 : decode cX5_leastRacks 12 = .ok (.bipush 20, 2) := by decide +kernel
theorem dX5_leastRacks_14 : decode cX5_leastRacks 14 = .ok (.if_icmp .ge 47, 3) := by decide +kernel
theorem dX5_leastRacks_17 : decode cX5_leastRacks 17 = .ok (.iload_n 3, 1) := by decide +kernel
theorem dX5_leastRacks_18 : decode cX5_leastRacks 18 = .ok (.ifCond .ne 43, 3) := by decide +kernel
theorem dX5_leastRacks_21 : decode cX5_leastRacks 21 = .ok (.iinc 2 1, 3) := by decide +kernel
theorem dX5_leastRacks_24 : decode cX5_leastRacks 24 = .ok (.aload_n 0, 1) := by decide +kernel
theorem dX5_leastRacks_25 : decode cX5_leastRacks 25 = .ok (.getfield 7, 3) := by decide +kernel
theorem dX5_leastRacks_28 : decode cX5_leastRacks 28 = .ok (.iconst 5, 1) := by decide +kernel
theorem dX5_leastRacks_29 : decode cX5_leastRacks 29 = .ok (.iload_n 2, 1) := by decide +kernel
theorem dX5_leastRacks_30 : decode cX5_leastRacks 30 = .ok (.iastore, 1) := by decide +kernel
theorem dX5_leastRacks_31 : decode cX5_leastRacks 31 = .ok (.aload_n 0, 1) := by decide +kernel
theorem dX5_leastRacks_32 : decode cX5_leastRacks 32 = .ok (.invokevirtual 109, 3) := by decide +kernel
theorem dX5_leastRacks_35 : decode cX5_leastRacks 35 = .ok (.iload_n 2, 1) := by decide +kernel
theorem dX5_leastRacks_36 : decode cX5_leastRacks 36 = .ok (.if_icmp .gt (-25), 3) := by decide +kernel
theorem dX5_leastRacks_39 : decode cX5_leastRacks 39 = .ok (.aload_n 0, 1) := by decide +kernel
theorem dX5_leastRacks_40 : decode cX5_leastRacks 40 = .ok (.invokevirtual 87, 3) := by decide +kernel
theorem dX5_leastRacks_43 : decode cX5_leastRacks 43 = .ok (.aload_n 0, 1) := by decide +kernel
theorem dX5_leastRacks_44 : decode cX5_leastRacks 44 = .ok (.bipush 16, 2) := by decide +kernel
theorem dX5_leastRacks_46 : decode cX5_leastRacks 46 = .ok (.invokevirtual 90, 3) := by decide +kernel
theorem dX5_leastRacks_49 : decode cX5_leastRacks 49 = .ok (.ifCond .ne 7, 3) := by decide +kernel
theorem dX5_leastRacks_52 : decode cX5_leastRacks 52 = .ok (.iconst 1, 1) := by decide +kernel
theorem dX5_leastRacks_53 : decode cX5_leastRacks 53 = .ok (.goto 4, 3) := by decide +kernel
theorem dX5_leastRacks_56 : decode cX5_leastRacks 56 = .ok (.iconst 0, 1) := by decide +kernel
theorem dX5_leastRacks_57 : decode cX5_leastRacks 57 = .ok (.istore_n 3, 1) := by decide +kernel
theorem dX5_leastRacks_58 : decode cX5_leastRacks 58 = .ok (.goto (-47), 3) := by decide +kernel
theorem dX5_leastRacks_61 : decode cX5_leastRacks 61 = .ok (.aload_n 0, 1) := by decide +kernel
theorem dX5_leastRacks_62 : decode cX5_leastRacks 62 = .ok (.getfield 7, 3) := by decide +kernel
theorem dX5_leastRacks_65 : decode cX5_leastRacks 65 = .ok (.iconst 5, 1) := by decide +kernel
theorem dX5_leastRacks_66 : decode cX5_leastRacks 66 = .ok (.iload_n 1, 1) := by decide +kernel
theorem dX5_leastRacks_67 : decode cX5_leastRacks 67 = .ok (.iastore, 1) := by decide +kernel
theorem dX5_leastRacks_68 : decode cX5_leastRacks 68 = .ok (.iload_n 3, 1) := by decide +kernel
theorem dX5_leastRacks_69 : decode cX5_leastRacks 69 = .ok (.ifCond .eq 7, 3) := by decide +kernel
theorem dX5_leastRacks_72 : decode cX5_leastRacks 72 = .ok (.iload_n 2, 1) := by decide +kernel
theorem dX5_leastRacks_73 : decode cX5_leastRacks 73 = .ok (.goto 5, 3) := by decide +kernel
theorem dX5_leastRacks_76 : decode cX5_leastRacks 76 = .ok (.bipush (-6), 2) := by decide +kernel
theorem dX5_leastRacks_78 : decode cX5_leastRacks 78 = .ok (.ireturn, 1) := by decide +kernel
set_option maxRecDepth 20000 in
theorem ggX5_charactersOf_X5_in : GoodIn wsX5_charactersOf wsX5_in := goodIn_r _ [7] (by decide +kernel) (by decide +kernel)
set_option maxRecDepth 20000 in
theorem gX5_charactersOf_X5_in : GoodIn wsX5_charactersOf (va_wsS RX5 44 yX5_in wsX5_in) := goodIn_app (goodIn_of _ (by decide +kernel)) ggX5_charactersOf_X5_in
theorem dX5_charactersOf_0 : decode cX5_charactersOf 0 = .ok (.lload_n 0, 1) := by decide +kernel
theorem dX5_charactersOf_1 : decode cX5_charactersOf 1 = .ok (.lstore_n 2, 1) := by decide +kernel
theorem dX5_charactersOf_2 : decode cX5_charactersOf 2 = .ok (.iconst 0, 1) := by decide +kernel
theorem dX5_charactersOf_3 : decode cX5_charactersOf 3 = .ok (.istore 4, 2) := by decide +kernel
theorem dX5_charactersOf_5 : decode cX5_charactersOf 5 = .ok (.iload 4, 2) := by decide +kernel
theorem dX5_charactersOf_7 : decode cX5_charactersOf 7 = .ok (.bipush 8, 2) := by decide +kernel
theorem dX5_charactersOf_9 : decode cX5_charactersOf 9 = .ok (.if_icmp .ge 31, 3) := by decide +kernel
theorem dX5_charactersOf_12 : decode cX5_charactersOf 12 = .ok (.lload_n 2, 1) := by decide +kernel
theorem dX5_charactersOf_13 : decode cX5_charactersOf 13 = .ok (.ldc2_w 159, 3) := by decide +kernel
theorem dX5_charactersOf_16 : decode cX5_charactersOf 16 = .ok (.land, 1) := by decide +kernel
theorem dX5_charactersOf_17 : decode cX5_charactersOf 17 = .ok (.ldc2_w 161, 3) := by decide +kernel
theorem dX5_charactersOf_20 : decode cX5_charactersOf 20 = .ok (.ldc2_w 163, 3) := by decide +kernel
theorem dX5_charactersOf_23 : decode cX5_charactersOf 23 = .ok (.invokestatic 44, 3) := by decide +kernel
theorem dX5_charactersOf_26 : decode cX5_charactersOf 26 = .ok (.ifCond .eq 14, 3) := by decide +kernel
theorem dX5_charactersOf_29 : decode cX5_charactersOf 29 = .ok (.lload_n 2, 1) := by decide +kernel
theorem dX5_charactersOf_30 : decode cX5_charactersOf 30 = .ok (.bipush 8, 2) := by decide +kernel
theorem dX5_charactersOf_32 : decode cX5_charactersOf 32 = .ok (.lushr, 1) := by decide +kernel
theorem dX5_charactersOf_33 : decode cX5_charactersOf 33 = .ok (.lstore_n 2, 1) := by decide +kernel
theorem dX5_charactersOf_34 : decode cX5_charactersOf 34 = .ok (.iinc 4 1, 3) := by decide +kernel
theorem dX5_charactersOf_37 : decode cX5_charactersOf 37 = .ok (.goto (-32), 3) := by decide +kernel
theorem dX5_charactersOf_40 : decode cX5_charactersOf 40 = .ok (.lload_n 2, 1) := by decide +kernel
theorem dX5_charactersOf_41 : decode cX5_charactersOf 41 = .ok (.lconst 0, 1) := by decide +kernel
theorem dX5_charactersOf_42 : decode cX5_charactersOf 42 = .ok (.lcmp, 1) := by decide +kernel
theorem dX5_charactersOf_43 : decode cX5_charactersOf 43 = .ok (.ifCond .ne 8, 3) := by decide +kernel
theorem dX5_charactersOf_46 : decode cX5_charactersOf 46 = .ok (.iload 4, 2) := by decide +kernel
theorem dX5_charactersOf_48 : decode cX5_charactersOf 48 = .ok (.goto 4, 3) := by decide +kernel
theorem dX5_charactersOf_51 : decode cX5_charactersOf 51 = .ok (.iconst 0, 1) := by decide +kernel
theorem dX5_charactersOf_52 : decode cX5_charactersOf 52 = .ok (.ireturn, 1) := by decide +kernel
set_option maxRecDepth 20000 in
theorem ggX5_put_X5_charactersOf : GoodIn wsX5_put wsX5_charactersOf := goodIn_r _ [7, 3, 8, 9, 10, 11, 6, 12] (by decide +kernel) (by decide +kernel)
set_option maxRecDepth 20000 in
theorem gX5_put_X5_charactersOf : GoodIn wsX5_put (va_wsS RX5 165 yX5_charactersOf wsX5_charactersOf) := goodIn_app (goodIn_of _ (by decide +kernel)) ggX5_put_X5_charactersOf
theorem dX5_put_0 : decode cX5_put 0 = .ok (.lload_n 1, 1) := by decide +kernel
theorem dX5_put_1 : decode cX5_put 1 = .ok (.invokestatic 165, 3) := by decide +kernel
theorem dX5_put_4 : decode cX5_put 4 = .ok (.istore_n 3, 1) := by decide +kernel
theorem dX5_put_5 : decode cX5_put 5 = .ok (.iload_n 3, 1) := by decide +kernel
theorem dX5_put_6 : decode cX5_put 6 = .ok (.ifCond .ne 6, 3) := by decide +kernel
theorem dX5_put_9 : decode cX5_put 9 = .ok (.bipush (-2), 2) := by decide +kernel
theorem dX5_put_11 : decode cX5_put 11 = .ok (.ireturn, 1) := by decide +kernel
theorem dX5_put_12 : decode cX5_put 12 = .ok (.aload_n 0, 1) := by decide +kernel
theorem dX5_put_13 : decode cX5_put 13 = .ok (.getfield 144, 3) := by decide +kernel
theorem dX5_put_16 : decode cX5_put 16 = .ok (.iload_n 3, 1) := by decide +kernel
theorem dX5_put_17 : decode cX5_put 17 = .ok (.iadd, 1) := by decide +kernel
theorem dX5_put_18 : decode cX5_put 18 = .ok (.bipush 60, 2) := by decide +kernel
theorem dX5_put_20 : decode cX5_put 20 = .ok (.if_icmp .le 6, 3) := by decide +kernel
theorem dX5_put_23 : decode cX5_put 23 = .ok (.bipush (-4), 2) := by decide +kernel
theorem dX5_put_25 : decode cX5_put 25 = .ok (.ireturn, 1) := by decide +kernel
theorem dX5_put_26 : decode cX5_put 26 = .ok (.iconst 0, 1) := by decide +kernel
theorem dX5_put_27 : decode cX5_put 27 = .ok (.istore 4, 2) := by decide +kernel
theorem dX5_put_29 : decode cX5_put 29 = .ok (.iload 4, 2) := by decide +kernel
theorem dX5_put_31 : decode cX5_put 31 = .ok (.iload_n 3, 1) := by decide +kernel
theorem dX5_put_32 : decode cX5_put 32 = .ok (.if_icmp .ge 37, 3) := by decide +kernel
theorem dX5_put_35 : decode cX5_put 35 = .ok (.aload_n 0, 1) := by decide +kernel
theorem dX5_put_36 : decode cX5_put 36 = .ok (.getfield 34, 3) := by decide +kernel
theorem dX5_put_39 : decode cX5_put 39 = .ok (.aload_n 0, 1) := by decide +kernel
theorem dX5_put_40 : decode cX5_put 40 = .ok (.getfield 144, 3) := by decide +kernel
theorem dX5_put_43 : decode cX5_put 43 = .ok (.iload 4, 2) := by decide +kernel
theorem dX5_put_45 : decode cX5_put 45 = .ok (.iadd, 1) := by decide +kernel
theorem dX5_put_46 : decode cX5_put 46 = .ok (.lload_n 1, 1) := by decide +kernel
theorem dX5_put_47 : decode cX5_put 47 = .ok (.bipush 8, 2) := by decide +kernel
theorem dX5_put_49 : decode cX5_put 49 = .ok (.iload_n 3, 1) := by decide +kernel
theorem dX5_put_50 : decode cX5_put 50 = .ok (.iconst 1, 1) := by decide +kernel
theorem dX5_put_51 : decode cX5_put 51 = .ok (.isub, 1) := by decide +kernel
theorem dX5_put_52 : decode cX5_put 52 = .ok (.iload 4, 2) := by decide +kernel
theorem dX5_put_54 : decode cX5_put 54 = .ok (.isub, 1) := by decide +kernel
theorem dX5_put_55 : decode cX5_put 55 = .ok (.imul, 1) := by decide +kernel
theorem dX5_put_56 : decode cX5_put 56 = .ok (.lushr, 1) := by decide +kernel
theorem dX5_put_57 : decode cX5_put 57 = .ok (.ldc2_w 159, 3) := by decide +kernel
theorem dX5_put_60 : decode cX5_put 60 = .ok (.land, 1) := by decide +kernel
theorem dX5_put_61 : decode cX5_put 61 = .ok (.l2i, 1) := by decide +kernel
theorem dX5_put_62 : decode cX5_put 62 = .ok (.iastore, 1) := by decide +kernel
theorem dX5_put_63 : decode cX5_put 63 = .ok (.iinc 4 1, 3) := by decide +kernel
theorem dX5_put_66 : decode cX5_put 66 = .ok (.goto (-37), 3) := by decide +kernel
theorem dX5_put_69 : decode cX5_put 69 = .ok (.aload_n 0, 1) := by decide +kernel
theorem dX5_put_70 : decode cX5_put 70 = .ok (.dup, 1) := by decide +kernel
theorem dX5_put_71 : decode cX5_put 71 = .ok (.getfield 144, 3) := by decide +kernel
theorem dX5_put_74 : decode cX5_put 74 = .ok (.iload_n 3, 1) := by decide +kernel
theorem dX5_put_75 : decode cX5_put 75 = .ok (.iadd, 1) := by decide +kernel
theorem dX5_put_76 : decode cX5_put 76 = .ok (.putfield 144, 3) := by decide +kernel
theorem dX5_put_79 : decode cX5_put 79 = .ok (.aload_n 0, 1) := by decide +kernel
theorem dX5_put_80 : decode cX5_put 80 = .ok (.getfield 144, 3) := by decide +kernel
theorem dX5_put_83 : decode cX5_put 83 = .ok (.ireturn, 1) := by decide +kernel
theorem dX5_wipe_0 : decode cX5_wipe 0 = .ok (.aload_n 0, 1) := by decide +kernel
theorem dX5_wipe_1 : decode cX5_wipe 1 = .ok (.getfield 144, 3) := by decide +kernel
theorem dX5_wipe_4 : decode cX5_wipe 4 = .ok (.istore_n 1, 1) := by decide +kernel
theorem dX5_wipe_5 : decode cX5_wipe 5 = .ok (.aload_n 0, 1) := by decide +kernel
theorem dX5_wipe_6 : decode cX5_wipe 6 = .ok (.iconst 0, 1) := by decide +kernel
theorem dX5_wipe_7 : decode cX5_wipe 7 = .ok (.putfield 144, 3) := by decide +kernel
theorem dX5_wipe_10 : decode cX5_wipe 10 = .ok (.iload_n 1, 1) := by decide +kernel
theorem dX5_wipe_11 : decode cX5_wipe 11 = .ok (.ireturn, 1) := by decide +kernel
set_option maxRecDepth 20000 in
theorem ggX5_isHere_X5_in : GoodIn wsX5_isHere wsX5_in := goodIn_r _ [7] (by decide +kernel) (by decide +kernel)
set_option maxRecDepth 20000 in
theorem gX5_isHere_X5_in : GoodIn wsX5_isHere (va_wsS RX5 44 yX5_in wsX5_in) := goodIn_app (goodIn_of _ (by decide +kernel)) ggX5_isHere_X5_in
theorem dX5_isHere_0 : decode cX5_isHere 0 = .ok (.aload_n 0, 1) := by decide +kernel
theorem dX5_isHere_1 : decode cX5_isHere 1 = .ok (.getfield 169, 3) := by decide +kernel
theorem dX5_isHere_4 : decode cX5_isHere 4 = .ok (.aload_n 0, 1) := by decide +kernel
theorem dX5_isHere_5 : decode cX5_isHere 5 = .ok (.getfield 144, 3) := by decide +kernel
theorem dX5_isHere_8 : decode cX5_isHere 8 = .ok (.if_icmp .ge 27, 3) := by decide +kernel
theorem dX5_isHere_11 : decode cX5_isHere 11 = .ok (.aload_n 0, 1) := by decide +kernel
theorem dX5_isHere_12 : decode cX5_isHere 12 = .ok (.getfield 34, 3) := by decide +kernel
theorem dX5_isHere_15 : decode cX5_isHere 15 = .ok (.aload_n 0, 1) := by decide +kernel
theorem dX5_isHere_16 : decode cX5_isHere 16 = .ok (.getfield 169, 3) := by decide +kernel
theorem dX5_isHere_19 : decode cX5_isHere 19 = .ok (.iaload, 1) := by decide +kernel
theorem dX5_isHere_20 : decode cX5_isHere 20 = .ok (.i2l, 1) := by decide +kernel
theorem dX5_isHere_21 : decode cX5_isHere 21 = .ok (.iload_n 1, 1) := by decide +kernel
theorem dX5_isHere_22 : decode cX5_isHere 22 = .ok (.i2l, 1) := by decide +kernel
theorem dX5_isHere_23 : decode cX5_isHere 23 = .ok (.iload_n 2, 1) := by decide +kernel
theorem dX5_isHere_24 : decode cX5_isHere 24 = .ok (.i2l, 1) := by decide +kernel
theorem dX5_isHere_25 : decode cX5_isHere 25 = .ok (.invokestatic 44, 3) := by decide +kernel
theorem dX5_isHere_28 : decode cX5_isHere 28 = .ok (.ifCond .eq 7, 3) := by decide +kernel
theorem dX5_isHere_31 : decode cX5_isHere 31 = .ok (.iconst 1, 1) := by decide +kernel
theorem dX5_isHere_32 : decode cX5_isHere 32 = .ok (.goto 4, 3) := by decide +kernel
theorem dX5_isHere_35 : decode cX5_isHere 35 = .ok (.iconst 0, 1) := by decide +kernel
theorem dX5_isHere_36 : decode cX5_isHere 36 = .ok (.ireturn, 1) := by decide +kernel
set_option maxRecDepth 20000 in
theorem ggX5_takesOne_X5_isHere : GoodIn wsX5_takesOne wsX5_isHere := goodIn_r _ [6, 1, 7, 8, 9, 10, 5, 11, 12, 13, 14, 15, 16, 17, 18, 19, 20, 21, 22, 23, 24, 25] (by decide +kernel) (by decide +kernel)
set_option maxRecDepth 20000 in
theorem gX5_takesOne_X5_isHere : GoodIn wsX5_takesOne (wsV RX5 172 RX5 yX5_isHere wsX5_isHere) := goodIn_app (goodIn_of _ (by decide +kernel)) ggX5_takesOne_X5_isHere
theorem dX5_takesOne_0 : decode cX5_takesOne 0 = .ok (.aload_n 0, 1) := by decide +kernel
theorem dX5_takesOne_1 : decode cX5_takesOne 1 = .ok (.iload_n 1, 1) := by decide +kernel
theorem dX5_takesOne_2 : decode cX5_takesOne 2 = .ok (.iload_n 1, 1) := by decide +kernel
theorem dX5_takesOne_3 : decode cX5_takesOne 3 = .ok (.invokevirtual 172, 3) := by decide +kernel
theorem dX5_takesOne_6 : decode cX5_takesOne 6 = .ok (.istore_n 2, 1) := by decide +kernel
theorem dX5_takesOne_7 : decode cX5_takesOne 7 = .ok (.aload_n 0, 1) := by decide +kernel
theorem dX5_takesOne_8 : decode cX5_takesOne 8 = .ok (.dup, 1) := by decide +kernel
theorem dX5_takesOne_9 : decode cX5_takesOne 9 = .ok (.getfield 169, 3) := by decide +kernel
theorem dX5_takesOne_12 : decode cX5_takesOne 12 = .ok (.iload_n 2, 1) := by decide +kernel
theorem dX5_takesOne_13 : decode cX5_takesOne 13 = .ok (.ifCond .eq 7, 3) := by decide +kernel
theorem dX5_takesOne_16 : decode cX5_takesOne 16 = .ok (.iconst 1, 1) := by decide +kernel
theorem dX5_takesOne_17 : decode cX5_takesOne 17 = .ok (.goto 4, 3) := by decide +kernel
theorem dX5_takesOne_20 : decode cX5_takesOne 20 = .ok (.iconst 0, 1) := by decide +kernel
theorem dX5_takesOne_21 : decode cX5_takesOne 21 = .ok (.iadd, 1) := by decide +kernel
theorem dX5_takesOne_22 : decode cX5_takesOne 22 = .ok (.putfield 169, 3) := by decide +kernel
theorem dX5_takesOne_25 : decode cX5_takesOne 25 = .ok (.iload_n 2, 1) := by decide +kernel
theorem dX5_takesOne_26 : decode cX5_takesOne 26 = .ok (.ireturn, 1) := by decide +kernel
set_option maxRecDepth 20000 in
theorem ggX5_readsNumber_X5_takesOne : GoodIn wsX5_readsNumber wsX5_takesOne := goodIn_r _ [9, 2, 10, 11, 12, 8, 13, 14, 1, 15, 16, 17, 18, 19, 20, 21, 22, 23, 24, 25, 26, 27, 28, 29, 30, 31] (by decide +kernel) (by decide +kernel)
set_option maxRecDepth 20000 in
theorem gX5_readsNumber_X5_takesOne : GoodIn wsX5_readsNumber (wsV RX5 175 RX5 yX5_takesOne wsX5_takesOne) := goodIn_app (goodIn_of _ (by decide +kernel)) ggX5_readsNumber_X5_takesOne
set_option maxRecDepth 20000 in
theorem ggX5_readsNumber_X5_isHere : GoodIn wsX5_readsNumber wsX5_isHere := goodIn_r _ [13, 2, 14, 1, 15, 16, 8, 17, 18, 19, 20, 21, 22, 23, 24, 25, 26, 27, 28, 29, 30, 31] (by decide +kernel) (by decide +kernel)
set_option maxRecDepth 20000 in
theorem gX5_readsNumber_X5_isHere : GoodIn wsX5_readsNumber (wsV RX5 172 RX5 yX5_isHere wsX5_isHere) := goodIn_app (goodIn_of _ (by decide +kernel)) ggX5_readsNumber_X5_isHere
theorem dX5_readsNumber_0 : decode cX5_readsNumber 0 = .ok (.aload_n 0, 1) := by decide +kernel
theorem dX5_readsNumber_1 : decode cX5_readsNumber 1 = .ok (.iload_n 1, 1) := by decide +kernel
theorem dX5_readsNumber_2 : decode cX5_readsNumber 2 = .ok (.invokevirtual 175, 3) := by decide +kernel
theorem dX5_readsNumber_5 : decode cX5_readsNumber 5 = .ok (.ifCond .eq 16, 3) := by decide +kernel
theorem dX5_readsNumber_8 : decode cX5_readsNumber 8 = .ok (.aload_n 0, 1) := by decide +kernel
theorem dX5_readsNumber_9 : decode cX5_readsNumber 9 = .ok (.bipush 48, 2) := by decide +kernel
theorem dX5_readsNumber_11 : decode cX5_readsNumber 11 = .ok (.iload_n 3, 1) := by decide +kernel
theorem dX5_readsNumber_12 : decode cX5_readsNumber 12 = .ok (.iadd, 1) := by decide +kernel
theorem dX5_readsNumber_13 : decode cX5_readsNumber 13 = .ok (.bipush 57, 2) := by decide +kernel
theorem dX5_readsNumber_15 : decode cX5_readsNumber 15 = .ok (.invokevirtual 172, 3) := by decide +kernel
theorem dX5_readsNumber_18 : decode cX5_readsNumber 18 = .ok (.ifCond .ne 5, 3) := by decide +kernel
theorem dX5_readsNumber_21 : decode cX5_readsNumber 21 = .ok (.iconst 0, 1) := by decide +kernel
theorem dX5_readsNumber_22 : decode cX5_readsNumber 22 = .ok (.ireturn, 1) := by decide +kernel
theorem dX5_readsNumber_23 : decode cX5_readsNumber 23 = .ok (.aload_n 0, 1) := by decide +kernel
theorem dX5_readsNumber_24 : decode cX5_readsNumber 24 = .ok (.getfield 34, 3) := by decide +kernel
theorem dX5_readsNumber_27 : decode cX5_readsNumber 27 = .ok (.aload_n 0, 1) := by decide +kernel
theorem dX5_readsNumber_28 : decode cX5_readsNumber 28 = .ok (.getfield 169, 3) := by decide +kernel
theorem dX5_readsNumber_31 : decode cX5_readsNumber 31 = .ok (.iaload, 1) := by decide +kernel
theorem dX5_readsNumber_32 : decode cX5_readsNumber 32 = .ok (.bipush 48, 2) := by decide +kernel
theorem dX5_readsNumber_34 : decode cX5_readsNumber 34 = .ok (.isub, 1) := by decide +kernel
theorem dX5_readsNumber_35 : decode cX5_readsNumber 35 = .ok (.istore 5, 2) := by decide +kernel
theorem dX5_readsNumber_37 : decode cX5_readsNumber 37 = .ok (.aload_n 0, 1) := by decide +kernel
theorem dX5_readsNumber_38 : decode cX5_readsNumber 38 = .ok (.dup, 1) := by decide +kernel
theorem dX5_readsNumber_39 : decode cX5_readsNumber 39 = .ok (.getfield 169, 3) := by decide +kernel
theorem dX5_readsNumber_42 : decode cX5_readsNumber 42 = .ok (.iconst 1, 1) := by decide +kernel
theorem dX5_readsNumber_43 : decode cX5_readsNumber 43 = .ok (.iadd, 1) := by decide +kernel
theorem dX5_readsNumber_44 : decode cX5_readsNumber 44 = .ok (.putfield 169, 3) := by decide +kernel
theorem dX5_readsNumber_47 : decode cX5_readsNumber 47 = .ok (.iload 5, 2) := by decide +kernel
theorem dX5_readsNumber_49 : decode cX5_readsNumber 49 = .ok (.ifCond .le 70, 3) := by decide +kernel
theorem dX5_readsNumber_52 : decode cX5_readsNumber 52 = .ok (.aload_n 0, 1) := by decide +kernel
theorem dX5_readsNumber_53 : decode cX5_readsNumber 53 = .ok (.bipush 48, 2) := by decide +kernel
theorem dX5_readsNumber_55 : decode cX5_readsNumber 55 = .ok (.bipush 57, 2) := by decide +kernel
theorem dX5_readsNumber_57 : decode cX5_readsNumber 57 = .ok (.invokevirtual 172, 3) := by decide +kernel
theorem dX5_readsNumber_60 : decode cX5_readsNumber 60 = .ok (.ifCond .eq 59, 3) := by decide +kernel
theorem dX5_readsNumber_63 : decode cX5_readsNumber 63 = .ok (.bipush 10, 2) := by decide +kernel
theorem dX5_readsNumber_65 : decode cX5_readsNumber 65 = .ok (.iload 5, 2) := by decide +kernel
theorem dX5_readsNumber_67 : decode cX5_readsNumber 67 = .ok (.imul, 1) := by decide +kernel
theorem dX5_readsNumber_68 : decode cX5_readsNumber 68 = .ok (.aload_n 0, 1) := by decide +kernel
theorem dX5_readsNumber_69 : decode cX5_readsNumber 69 = .ok (.getfield 34, 3) := by decide +kernel
theorem dX5_readsNumber_72 : decode cX5_readsNumber 72 = .ok (.aload_n 0, 1) := by decide +kernel
theorem dX5_readsNumber_73 : decode cX5_readsNumber 73 = .ok (.getfield 169, 3) := by decide +kernel
theorem dX5_readsNumber_76 : decode cX5_readsNumber 76 = .ok (.iaload, 1) := by decide +kernel
theorem dX5_readsNumber_77 : decode cX5_readsNumber 77 = .ok (.iadd, 1) := by decide +kernel
theorem dX5_readsNumber_78 : decode cX5_readsNumber 78 = .ok (.bipush 48, 2) := by decide +kernel
theorem dX5_readsNumber_80 : decode cX5_readsNumber 80 = .ok (.isub, 1) := by decide +kernel
theorem dX5_readsNumber_81 : decode cX5_readsNumber 81 = .ok (.iload 4, 2) := by decide +kernel
theorem dX5_readsNumber_83 : decode cX5_readsNumber 83 = .ok (.if_icmp .gt 36, 3) := by decide +kernel
theorem dX5_readsNumber_86 : decode cX5_readsNumber 86 = .ok (.bipush 10, 2) := by decide +kernel
theorem dX5_readsNumber_88 : decode cX5_readsNumber 88 = .ok (.iload 5, 2) := by decide +kernel
theorem dX5_readsNumber_90 : decode cX5_readsNumber 90 = .ok (.imul, 1) := by decide +kernel
theorem dX5_readsNumber_91 : decode cX5_readsNumber 91 = .ok (.aload_n 0, 1) := by decide +kernel
theorem dX5_readsNumber_92 : decode cX5_readsNumber 92 = .ok (.getfield 34, 3) := by decide +kernel
theorem dX5_readsNumber_95 : decode cX5_readsNumber 95 = .ok (.aload_n 0, 1) := by decide +kernel
theorem dX5_readsNumber_96 : decode cX5_readsNumber 96 = .ok (.getfield 169, 3) := by decide +kernel
theorem dX5_readsNumber_99 : decode cX5_readsNumber 99 = .ok (.iaload, 1) := by decide +kernel
theorem dX5_readsNumber_100 : decode cX5_readsNumber 100 = .ok (.iadd, 1) := by decide +kernel
theorem dX5_readsNumber_101 : decode cX5_readsNumber 101 = .ok (.bipush 48, 2) := by decide +kernel
theorem dX5_readsNumber_103 : decode cX5_readsNumber 103 = .ok (.isub, 1) := by decide +kernel
theorem dX5_readsNumber_104 : decode cX5_readsNumber 104 = .ok (.istore 5, 2) := by decide +kernel
theorem dX5_readsNumber_106 : decode cX5_readsNumber 106 = .ok (.aload_n 0, 1) := by decide +kernel
theorem dX5_readsNumber_107 : decode cX5_readsNumber 107 = .ok (.dup, 1) := by decide +kernel
theorem dX5_readsNumber_108 : decode cX5_readsNumber 108 = .ok (.getfield 169, 3) := by decide +kernel
theorem dX5_readsNumber_111 : decode cX5_readsNumber 111 = .ok (.iconst 1, 1) := by decide +kernel
theorem dX5_readsNumber_112 : decode cX5_readsNumber 112 = .ok (.iadd, 1) := by decide +kernel
theorem dX5_readsNumber_113 : decode cX5_readsNumber 113 = .ok (.putfield 169, 3) := by decide +kernel
theorem dX5_readsNumber_116 : decode cX5_readsNumber 116 = .ok (.goto (-69), 3) := by decide +kernel
theorem dX5_readsNumber_119 : decode cX5_readsNumber 119 = .ok (.aload_n 0, 1) := by decide +kernel
theorem dX5_readsNumber_120 : decode cX5_readsNumber 120 = .ok (.getfield 37, 3) := by decide +kernel
theorem dX5_readsNumber_123 : decode cX5_readsNumber 123 = .ok (.iconst 4, 1) := by decide +kernel
theorem dX5_readsNumber_124 : decode cX5_readsNumber 124 = .ok (.aload_n 0, 1) := by decide +kernel
theorem dX5_readsNumber_125 : decode cX5_readsNumber 125 = .ok (.getfield 178, 3) := by decide +kernel
theorem dX5_readsNumber_128 : decode cX5_readsNumber 128 = .ok (.imul, 1) := by decide +kernel
theorem dX5_readsNumber_129 : decode cX5_readsNumber 129 = .ok (.iload_n 2, 1) := by decide +kernel
theorem dX5_readsNumber_130 : decode cX5_readsNumber 130 = .ok (.iadd, 1) := by decide +kernel
theorem dX5_readsNumber_131 : decode cX5_readsNumber 131 = .ok (.iload 5, 2) := by decide +kernel
theorem dX5_readsNumber_133 : decode cX5_readsNumber 133 = .ok (.iastore, 1) := by decide +kernel
theorem dX5_readsNumber_134 : decode cX5_readsNumber 134 = .ok (.iconst 1, 1) := by decide +kernel
theorem dX5_readsNumber_135 : decode cX5_readsNumber 135 = .ok (.ireturn, 1) := by decide +kernel
set_option maxRecDepth 20000 in
theorem ggX5_readsJob_X5_readsNumber : GoodIn wsX5_readsJob wsX5_readsNumber := goodIn_r _ [7, 8, 9, 1, 2, 10, 11, 12, 6, 13, 14, 15, 16, 17, 18, 19, 20, 21, 22, 23, 24, 25, 26, 27, 28, 29, 30, 31, 32, 33, 34, 35] (by decide +kernel) (by decide +kernel)
set_option maxRecDepth 20000 in
theorem gX5_readsJob_X5_readsNumber : GoodIn wsX5_readsJob (wsV RX5 181 RX5 yX5_readsNumber wsX5_readsNumber) := goodIn_app (goodIn_of _ (by decide +kernel)) ggX5_readsJob_X5_readsNumber
set_option maxRecDepth 20000 in
theorem ggX5_readsJob_X5_isHere : GoodIn wsX5_readsJob wsX5_isHere := goodIn_r _ [17, 9, 18, 8, 19, 20, 6, 21, 22, 23, 24, 25, 26, 27, 28, 29, 30, 31, 32, 33, 34, 35] (by decide +kernel) (by decide +kernel)
set_option maxRecDepth 20000 in
theorem gX5_readsJob_X5_isHere : GoodIn wsX5_readsJob (wsV RX5 172 RX5 yX5_isHere wsX5_isHere) := goodIn_app (goodIn_of _ (by decide +kernel)) ggX5_readsJob_X5_isHere
theorem dX5_readsJob_0 : decode cX5_readsJob 0 = .ok (.aload_n 0, 1) := by decide +kernel
theorem dX5_readsJob_1 : decode cX5_readsJob 1 = .ok (.getfield 37, 3) := by decide +kernel
theorem dX5_readsJob_4 : decode cX5_readsJob 4 = .ok (.iconst 4, 1) := by decide +kernel
theorem dX5_readsJob_5 : decode cX5_readsJob 5 = .ok (.aload_n 0, 1) := by decide +kernel
theorem dX5_readsJob_6 : decode cX5_readsJob 6 = .ok (.getfield 178, 3) := by decide +kernel
theorem dX5_readsJob_9 : decode cX5_readsJob 9 = .ok (.imul, 1) := by decide +kernel
theorem dX5_readsJob_10 : decode cX5_readsJob 10 = .ok (.iconst 3, 1) := by decide +kernel
theorem dX5_readsJob_11 : decode cX5_readsJob 11 = .ok (.iadd, 1) := by decide +kernel
theorem dX5_readsJob_12 : decode cX5_readsJob 12 = .ok (.sipush 3000, 3) := by decide +kernel
theorem dX5_readsJob_15 : decode cX5_readsJob 15 = .ok (.iastore, 1) := by decide +kernel
theorem dX5_readsJob_16 : decode cX5_readsJob 16 = .ok (.aload_n 0, 1) := by decide +kernel
theorem dX5_readsJob_17 : decode cX5_readsJob 17 = .ok (.bipush 112, 2) := by decide +kernel
theorem dX5_readsJob_19 : decode cX5_readsJob 19 = .ok (.iconst 0, 1) := by decide +kernel
theorem dX5_readsJob_20 : decode cX5_readsJob 20 = .ok (.iconst 0, 1) := by decide +kernel
theorem dX5_readsJob_21 : decode cX5_readsJob 21 = .ok (.bipush 9, 2) := by decide +kernel
theorem dX5_readsJob_23 : decode cX5_readsJob 23 = .ok (.invokevirtual 181, 3) := by decide +kernel
theorem dX5_readsJob_26 : decode cX5_readsJob 26 = .ok (.ifCond .eq 58, 3) := by decide +kernel
theorem dX5_readsJob_29 : decode cX5_readsJob 29 = .ok (.aload_n 0, 1) := by decide +kernel
theorem dX5_readsJob_30 : decode cX5_readsJob 30 = .ok (.bipush 115, 2) := by decide +kernel
theorem dX5_readsJob_32 : decode cX5_readsJob 32 = .ok (.iconst 1, 1) := by decide +kernel
theorem dX5_readsJob_33 : decode cX5_readsJob 33 = .ok (.iconst 0, 1) := by decide +kernel
theorem dX5_readsJob_34 : decode cX5_readsJob 34 = .ok (.bipush 9, 2) := by decide +kernel
theorem dX5_readsJob_36 : decode cX5_readsJob 36 = .ok (.invokevirtual 181, 3) := by decide +kernel
theorem dX5_readsJob_39 : decode cX5_readsJob 39 = .ok (.ifCond .eq 45, 3) := by decide +kernel
theorem dX5_readsJob_42 : decode cX5_readsJob 42 = .ok (.aload_n 0, 1) := by decide +kernel
theorem dX5_readsJob_43 : decode cX5_readsJob 43 = .ok (.bipush 110, 2) := by decide +kernel
theorem dX5_readsJob_45 : decode cX5_readsJob 45 = .ok (.iconst 2, 1) := by decide +kernel
theorem dX5_readsJob_46 : decode cX5_readsJob 46 = .ok (.iconst 1, 1) := by decide +kernel
theorem dX5_readsJob_47 : decode cX5_readsJob 47 = .ok (.bipush 20, 2) := by decide +kernel
theorem dX5_readsJob_49 : decode cX5_readsJob 49 = .ok (.invokevirtual 181, 3) := by decide +kernel
theorem dX5_readsJob_52 : decode cX5_readsJob 52 = .ok (.ifCond .eq 32, 3) := by decide +kernel
theorem dX5_readsJob_55 : decode cX5_readsJob 55 = .ok (.aload_n 0, 1) := by decide +kernel
theorem dX5_readsJob_56 : decode cX5_readsJob 56 = .ok (.bipush 100, 2) := by decide +kernel
theorem dX5_readsJob_58 : decode cX5_readsJob 58 = .ok (.bipush 100, 2) := by decide +kernel
theorem dX5_readsJob_60 : decode cX5_readsJob 60 = .ok (.invokevirtual 172, 3) := by decide +kernel
theorem dX5_readsJob_63 : decode cX5_readsJob 63 = .ok (.ifCond .eq 17, 3) := by decide +kernel
theorem dX5_readsJob_66 : decode cX5_readsJob 66 = .ok (.aload_n 0, 1) := by decide +kernel
theorem dX5_readsJob_67 : decode cX5_readsJob 67 = .ok (.bipush 100, 2) := by decide +kernel
theorem dX5_readsJob_69 : decode cX5_readsJob 69 = .ok (.iconst 3, 1) := by decide +kernel
theorem dX5_readsJob_70 : decode cX5_readsJob 70 = .ok (.iconst 0, 1) := by decide +kernel
theorem dX5_readsJob_71 : decode cX5_readsJob 71 = .ok (.sipush 3000, 3) := by decide +kernel
theorem dX5_readsJob_74 : decode cX5_readsJob 74 = .ok (.invokevirtual 181, 3) := by decide +kernel
theorem dX5_readsJob_77 : decode cX5_readsJob 77 = .ok (.ifCond .eq 7, 3) := by decide +kernel
theorem dX5_readsJob_80 : decode cX5_readsJob 80 = .ok (.iconst 1, 1) := by decide +kernel
theorem dX5_readsJob_81 : decode cX5_readsJob 81 = .ok (.goto 4, 3) := by decide +kernel
theorem dX5_readsJob_84 : decode cX5_readsJob 84 = .ok (.iconst 0, 1) := by decide +kernel
theorem dX5_readsJob_85 : decode cX5_readsJob 85 = .ok (.istore_n 1, 1) := by decide +kernel
theorem dX5_readsJob_86 : decode cX5_readsJob 86 = .ok (.aload_n 0, 1) := by decide +kernel
theorem dX5_readsJob_87 : decode cX5_readsJob 87 = .ok (.dup, 1) := by decide +kernel
theorem dX5_readsJob_88 : decode cX5_readsJob 88 = .ok (.getfield 178, 3) := by decide +kernel
theorem dX5_readsJob_91 : decode cX5_readsJob 91 = .ok (.iload_n 1, 1) := by decide +kernel
theorem dX5_readsJob_92 : decode cX5_readsJob 92 = .ok (.ifCond .eq 7, 3) := by decide +kernel
theorem dX5_readsJob_95 : decode cX5_readsJob 95 = .ok (.iconst 1, 1) := by decide +kernel
theorem dX5_readsJob_96 : decode cX5_readsJob 96 = .ok (.goto 4, 3) := by decide +kernel
theorem dX5_readsJob_99 : decode cX5_readsJob 99 = .ok (.iconst 0, 1) := by decide +kernel
theorem dX5_readsJob_100 : decode cX5_readsJob 100 = .ok (.iadd, 1) := by decide +kernel
theorem dX5_readsJob_101 : decode cX5_readsJob 101 = .ok (.putfield 178, 3) := by decide +kernel
theorem dX5_readsJob_104 : decode cX5_readsJob 104 = .ok (.iload_n 1, 1) := by decide +kernel
theorem dX5_readsJob_105 : decode cX5_readsJob 105 = .ok (.ireturn, 1) := by decide +kernel
set_option maxRecDepth 20000 in
theorem ggX5_fault_X5_readsJob : GoodIn wsX5_fault wsX5_readsJob := goodIn_r _ [8, 9, 2, 10, 11, 12, 7, 13, 14, 1, 15, 16, 17, 18, 19, 20, 21, 22, 3, 23, 24, 25, 26, 27, 28, 29, 30, 31, 32, 33, 34, 35, 36, 37, 38, 39] (by decide +kernel) (by decide +kernel)
set_option maxRecDepth 20000 in
theorem gX5_fault_X5_readsJob : GoodIn wsX5_fault (wsV RX5 185 RX5 yX5_readsJob wsX5_readsJob) := goodIn_app (goodIn_of _ (by decide +kernel)) ggX5_fault_X5_readsJob
set_option maxRecDepth 20000 in
theorem ggX5_fault_X5_takesOne : GoodIn wsX5_fault wsX5_takesOne := goodIn_r _ [18, 1, 19, 20, 21, 7, 22, 3, 14, 23, 24, 25, 26, 27, 28, 29, 30, 31, 32, 33, 34, 35, 36, 37, 38, 39] (by decide +kernel) (by decide +kernel)
set_option maxRecDepth 20000 in
theorem gX5_fault_X5_takesOne : GoodIn wsX5_fault (wsV RX5 175 RX5 yX5_takesOne wsX5_takesOne) := goodIn_app (goodIn_of _ (by decide +kernel)) ggX5_fault_X5_takesOne
theorem dX5_fault_0 : decode cX5_fault 0 = .ok (.aload_n 0, 1) := by decide +kernel
theorem dX5_fault_1 : decode cX5_fault 1 = .ok (.iconst 0, 1) := by decide +kernel
theorem dX5_fault_2 : decode cX5_fault 2 = .ok (.putfield 169, 3) := by decide +kernel
theorem dX5_fault_5 : decode cX5_fault 5 = .ok (.aload_n 0, 1) := by decide +kernel
theorem dX5_fault_6 : decode cX5_fault 6 = .ok (.iconst 0, 1) := by decide +kernel
theorem dX5_fault_7 : decode cX5_fault 7 = .ok (.putfield 178, 3) := by decide +kernel
theorem dX5_fault_10 : decode cX5_fault 10 = .ok (.iconst 1, 1) := by decide +kernel
theorem dX5_fault_11 : decode cX5_fault 11 = .ok (.istore_n 1, 1) := by decide +kernel
theorem dX5_fault_12 : decode cX5_fault 12 = .ok (.iload_n 1, 1) := by decide +kernel
theorem dX5_fault_13 : decode cX5_fault 13 = .ok (.ifCond .eq 25, 3) := by decide +kernel
theorem dX5_fault_16 : decode cX5_fault 16 = .ok (.aload_n 0, 1) := by decide +kernel
theorem dX5_fault_17 : decode cX5_fault 17 = .ok (.invokevirtual 185, 3) := by decide +kernel
theorem dX5_fault_20 : decode cX5_fault 20 = .ok (.ifCond .ne 8, 3) := by decide +kernel
theorem dX5_fault_23 : decode cX5_fault 23 = .ok (.aload_n 0, 1) := by decide +kernel
theorem dX5_fault_24 : decode cX5_fault 24 = .ok (.getfield 169, 3) := by decide +kernel
theorem dX5_fault_27 : decode cX5_fault 27 = .ok (.ireturn, 1) := by decide +kernel
theorem dX5_fault_28 : decode cX5_fault 28 = .ok (.aload_n 0, 1) := by decide +kernel
theorem dX5_fault_29 : decode cX5_fault 29 = .ok (.bipush 59, 2) := by decide +kernel
theorem dX5_fault_31 : decode cX5_fault 31 = .ok (.invokevirtual 175, 3) := by decide +kernel
theorem dX5_fault_34 : decode cX5_fault 34 = .ok (.istore_n 1, 1) := by decide +kernel
theorem dX5_fault_35 : decode cX5_fault 35 = .ok (.goto (-23), 3) := by decide +kernel
theorem dX5_fault_38 : decode cX5_fault 38 = .ok (.aload_n 0, 1) := by decide +kernel
theorem dX5_fault_39 : decode cX5_fault 39 = .ok (.getfield 169, 3) := by decide +kernel
theorem dX5_fault_42 : decode cX5_fault 42 = .ok (.aload_n 0, 1) := by decide +kernel
theorem dX5_fault_43 : decode cX5_fault 43 = .ok (.getfield 144, 3) := by decide +kernel
theorem dX5_fault_46 : decode cX5_fault 46 = .ok (.if_icmp .ne 8, 3) := by decide +kernel
theorem dX5_fault_49 : decode cX5_fault 49 = .ok (.bipush (-6), 2) := by decide +kernel
theorem dX5_fault_51 : decode cX5_fault 51 = .ok (.goto 7, 3) := by decide +kernel
theorem dX5_fault_54 : decode cX5_fault 54 = .ok (.aload_n 0, 1) := by decide +kernel
theorem dX5_fault_55 : decode cX5_fault 55 = .ok (.getfield 169, 3) := by decide +kernel
theorem dX5_fault_58 : decode cX5_fault 58 = .ok (.ireturn, 1) := by decide +kernel
set_option maxRecDepth 20000 in
theorem ggX5_read_X5_fault : GoodIn wsX5_read wsX5_fault := goodIn_r _ [9, 10, 1, 4, 11, 12, 13, 8, 14, 2, 15, 16, 17, 18, 19, 20, 21, 22, 23, 24, 25, 26, 27, 28, 29, 30, 45, 46, 47, 48, 49, 50, 51, 52, 53, 54, 55, 56, 57, 58] (by decide +kernel) (by decide +kernel)
set_option maxRecDepth 20000 in
theorem gX5_read_X5_fault : GoodIn wsX5_read (wsV RX5 189 RX5 yX5_fault wsX5_fault) := goodIn_app (goodIn_of _ (by decide +kernel)) ggX5_read_X5_fault
set_option maxRecDepth 20000 in
theorem ggX5_read_X5_racksFor : GoodIn wsX5_read wsX5_racksFor := goodIn_r _ [34, 3, 45, 46, 47, 48, 49, 50, 51, 52, 53, 54, 55, 56, 57, 58] (by decide +kernel) (by decide +kernel)
set_option maxRecDepth 20000 in
theorem gX5_read_X5_racksFor : GoodIn wsX5_read (wsV RX5 52 RX5 yX5_racksFor wsX5_racksFor) := goodIn_app (goodIn_of _ (by decide +kernel)) ggX5_read_X5_racksFor
set_option maxRecDepth 20000 in
theorem ggX5_read_X5_changes : GoodIn wsX5_read wsX5_changes := goodIn_r _ [38, 39, 40, 3, 45, 46, 47, 48, 49, 50, 51, 52, 53, 54, 55, 56, 57, 58] (by decide +kernel) (by decide +kernel)
set_option maxRecDepth 20000 in
theorem gX5_read_X5_changes : GoodIn wsX5_read (wsV RX5 113 RX5 yX5_changes wsX5_changes) := goodIn_app (goodIn_of _ (by decide +kernel)) ggX5_read_X5_changes
set_option maxRecDepth 20000 in
theorem ggX5_read_X5_puts : GoodIn wsX5_read wsX5_puts := goodIn_r _ [44, 3, 45, 46, 47, 48, 49, 50, 51, 52, 53, 54, 55, 56, 57, 58] (by decide +kernel) (by decide +kernel)
set_option maxRecDepth 20000 in
theorem gX5_read_X5_puts : GoodIn wsX5_read (wsV RX5 118 RX5 yX5_puts wsX5_puts) := goodIn_app (goodIn_of _ (by decide +kernel)) ggX5_read_X5_puts
theorem dX5_read_0 : decode cX5_read 0 = .ok (.aload_n 0, 1) := by decide +kernel
theorem dX5_read_1 : decode cX5_read 1 = .ok (.invokevirtual 189, 3) := by decide +kernel
theorem dX5_read_4 : decode cX5_read 4 = .ok (.bipush (-6), 2) := by decide +kernel
theorem dX5_read_6 : decode cX5_read 6 = .ok (.if_icmp .eq 6, 3) := by decide +kernel
theorem dX5_read_9 : decode cX5_read 9 = .ok (.bipush (-3), 2) := by decide +kernel
theorem dX5_read_11 : decode cX5_read 11 = .ok (.ireturn, 1) := by decide +kernel
theorem dX5_read_12 : decode cX5_read 12 = .ok (.iconst 0, 1) := by decide +kernel
theorem dX5_read_13 : decode cX5_read 13 = .ok (.istore_n 1, 1) := by decide +kernel
theorem dX5_read_14 : decode cX5_read 14 = .ok (.iload_n 1, 1) := by decide +kernel
theorem dX5_read_15 : decode cX5_read 15 = .ok (.aload_n 0, 1) := by decide +kernel
theorem dX5_read_16 : decode cX5_read 16 = .ok (.getfield 178, 3) := by decide +kernel
theorem dX5_read_19 : decode cX5_read 19 = .ok (.if_icmp .ge 35, 3) := by decide +kernel
theorem dX5_read_22 : decode cX5_read 22 = .ok (.aload_n 0, 1) := by decide +kernel
theorem dX5_read_23 : decode cX5_read 23 = .ok (.aload_n 0, 1) := by decide +kernel
theorem dX5_read_24 : decode cX5_read 24 = .ok (.getfield 37, 3) := by decide +kernel
theorem dX5_read_27 : decode cX5_read 27 = .ok (.iconst 4, 1) := by decide +kernel
theorem dX5_read_28 : decode cX5_read 28 = .ok (.iload_n 1, 1) := by decide +kernel
theorem dX5_read_29 : decode cX5_read 29 = .ok (.imul, 1) := by decide +kernel
theorem dX5_read_30 : decode cX5_read 30 = .ok (.iconst 2, 1) := by decide +kernel
theorem dX5_read_31 : decode cX5_read 31 = .ok (.iadd, 1) := by decide +kernel
theorem dX5_read_32 : decode cX5_read 32 = .ok (.iaload, 1) := by decide +kernel
theorem dX5_read_33 : decode cX5_read 33 = .ok (.invokevirtual 52, 3) := by decide +kernel
theorem dX5_read_36 : decode cX5_read 36 = .ok (.aload_n 0, 1) := by decide +kernel
theorem dX5_read_37 : decode cX5_read 37 = .ok (.getfield 7, 3) := by decide +kernel
theorem dX5_read_40 : decode cX5_read 40 = .ok (.iconst 5, 1) := by decide +kernel
theorem dX5_read_41 : decode cX5_read 41 = .ok (.iaload, 1) := by decide +kernel
theorem dX5_read_42 : decode cX5_read 42 = .ok (.if_icmp .le 6, 3) := by decide +kernel
theorem dX5_read_45 : decode cX5_read 45 = .ok (.bipush (-5), 2) := by decide +kernel
theorem dX5_read_47 : decode cX5_read 47 = .ok (.ireturn, 1) := by decide +kernel
theorem dX5_read_48 : decode cX5_read 48 = .ok (.iinc 1 1, 3) := by decide +kernel
theorem dX5_read_51 : decode cX5_read 51 = .ok (.goto (-37), 3) := by decide +kernel
theorem dX5_read_54 : decode cX5_read 54 = .ok (.aload_n 0, 1) := by decide +kernel
theorem dX5_read_55 : decode cX5_read 55 = .ok (.getfield 7, 3) := by decide +kernel
theorem dX5_read_58 : decode cX5_read 58 = .ok (.bipush 7, 2) := by decide +kernel
theorem dX5_read_60 : decode cX5_read 60 = .ok (.iaload, 1) := by decide +kernel
theorem dX5_read_61 : decode cX5_read 61 = .ok (.aload_n 0, 1) := by decide +kernel
theorem dX5_read_62 : decode cX5_read 62 = .ok (.getfield 178, 3) := by decide +kernel
theorem dX5_read_65 : decode cX5_read 65 = .ok (.iadd, 1) := by decide +kernel
theorem dX5_read_66 : decode cX5_read 66 = .ok (.bipush 12, 2) := by decide +kernel
theorem dX5_read_68 : decode cX5_read 68 = .ok (.if_icmp .le 6, 3) := by decide +kernel
theorem dX5_read_71 : decode cX5_read 71 = .ok (.bipush (-4), 2) := by decide +kernel
theorem dX5_read_73 : decode cX5_read 73 = .ok (.ireturn, 1) := by decide +kernel
theorem dX5_read_74 : decode cX5_read 74 = .ok (.aload_n 0, 1) := by decide +kernel
theorem dX5_read_75 : decode cX5_read 75 = .ok (.invokevirtual 113, 3) := by decide +kernel
theorem dX5_read_78 : decode cX5_read 78 = .ok (.iconst 0, 1) := by decide +kernel
theorem dX5_read_79 : decode cX5_read 79 = .ok (.istore_n 1, 1) := by decide +kernel
theorem dX5_read_80 : decode cX5_read 80 = .ok (.iload_n 1, 1) := by decide +kernel
theorem dX5_read_81 : decode cX5_read 81 = .ok (.aload_n 0, 1) := by decide +kernel
theorem dX5_read_82 : decode cX5_read 82 = .ok (.getfield 178, 3) := by decide +kernel
theorem dX5_read_85 : decode cX5_read 85 = .ok (.if_icmp .ge 51, 3) := by decide +kernel
theorem dX5_read_88 : decode cX5_read 88 = .ok (.aload_n 0, 1) := by decide +kernel
theorem dX5_read_89 : decode cX5_read 89 = .ok (.aload_n 0, 1) := by decide +kernel
theorem dX5_read_90 : decode cX5_read 90 = .ok (.getfield 37, 3) := by decide +kernel
theorem dX5_read_93 : decode cX5_read 93 = .ok (.iconst 4, 1) := by decide +kernel
theorem dX5_read_94 : decode cX5_read 94 = .ok (.iload_n 1, 1) := by decide +kernel
theorem dX5_read_95 : decode cX5_read 95 = .ok (.imul, 1) := by decide +kernel
theorem dX5_read_96 : decode cX5_read 96 = .ok (.iaload, 1) := by decide +kernel
theorem dX5_read_97 : decode cX5_read 97 = .ok (.aload_n 0, 1) := by decide +kernel
theorem dX5_read_98 : decode cX5_read 98 = .ok (.getfield 37, 3) := by decide +kernel
theorem dX5_read_101 : decode cX5_read 101 = .ok (.iconst 4, 1) := by decide +kernel
theorem dX5_read_102 : decode cX5_read 102 = .ok (.iload_n 1, 1) := by decide +kernel
theorem dX5_read_103 : decode cX5_read 103 = .ok (.imul, 1) := by decide +kernel
theorem dX5_read_104 : decode cX5_read 104 = .ok (.iconst 1, 1) := by decide +kernel
theorem dX5_read_105 : decode cX5_read 105 = .ok (.iadd, 1) := by decide +kernel
theorem dX5_read_106 : decode cX5_read 106 = .ok (.iaload, 1) := by decide +kernel
theorem dX5_read_107 : decode cX5_read 107 = .ok (.aload_n 0, 1) := by decide +kernel
theorem dX5_read_108 : decode cX5_read 108 = .ok (.getfield 37, 3) := by decide +kernel
theorem dX5_read_111 : decode cX5_read 111 = .ok (.iconst 4, 1) := by decide +kernel
theorem dX5_read_112 : decode cX5_read 112 = .ok (.iload_n 1, 1) := by decide +kernel
theorem dX5_read_113 : decode cX5_read 113 = .ok (.imul, 1) := by decide +kernel
theorem dX5_read_114 : decode cX5_read 114 = .ok (.iconst 2, 1) := by decide +kernel
theorem dX5_read_115 : decode cX5_read 115 = .ok (.iadd, 1) := by decide +kernel
theorem dX5_read_116 : decode cX5_read 116 = .ok (.iaload, 1) := by decide +kernel
theorem dX5_read_117 : decode cX5_read 117 = .ok (.aload_n 0, 1) := by decide +kernel
theorem dX5_read_118 : decode cX5_read 118 = .ok (.getfield 37, 3) := by decide +kernel
theorem dX5_read_121 : decode cX5_read 121 = .ok (.iconst 4, 1) := by decide +kernel
theorem dX5_read_122 : decode cX5_read 122 = .ok (.iload_n 1, 1) := by decide +kernel
theorem dX5_read_123 : decode cX5_read 123 = .ok (.imul, 1) := by decide +kernel
theorem dX5_read_124 : decode cX5_read 124 = .ok (.iconst 3, 1) := by decide +kernel
theorem dX5_read_125 : decode cX5_read 125 = .ok (.iadd, 1) := by decide +kernel
theorem dX5_read_126 : decode cX5_read 126 = .ok (.iaload, 1) := by decide +kernel
theorem dX5_read_127 : decode cX5_read 127 = .ok (.invokevirtual 118, 3) := by decide +kernel
theorem dX5_read_130 : decode cX5_read 130 = .ok (.iinc 1 1, 3) := by decide +kernel
theorem dX5_read_133 : decode cX5_read 133 = .ok (.goto (-53), 3) := by decide +kernel
theorem dX5_read_136 : decode cX5_read 136 = .ok (.aload_n 0, 1) := by decide +kernel
theorem dX5_read_137 : decode cX5_read 137 = .ok (.iconst 0, 1) := by decide +kernel
theorem dX5_read_138 : decode cX5_read 138 = .ok (.putfield 144, 3) := by decide +kernel
theorem dX5_read_141 : decode cX5_read 141 = .ok (.aload_n 0, 1) := by decide +kernel
theorem dX5_read_142 : decode cX5_read 142 = .ok (.getfield 7, 3) := by decide +kernel
theorem dX5_read_145 : decode cX5_read 145 = .ok (.bipush 7, 2) := by decide +kernel
theorem dX5_read_147 : decode cX5_read 147 = .ok (.iaload, 1) := by decide +kernel
theorem dX5_read_148 : decode cX5_read 148 = .ok (.ireturn, 1) := by decide +kernel
theorem dX5_undo_0 : decode cX5_undo 0 = .ok (.aload_n 0, 1) := by decide +kernel
theorem dX5_undo_1 : decode cX5_undo 1 = .ok (.getfield 40, 3) := by decide +kernel
theorem dX5_undo_4 : decode cX5_undo 4 = .ok (.ifCond .ne 6, 3) := by decide +kernel
theorem dX5_undo_7 : decode cX5_undo 7 = .ok (.bipush (-5), 2) := by decide +kernel
theorem dX5_undo_9 : decode cX5_undo 9 = .ok (.ireturn, 1) := by decide +kernel
theorem dX5_undo_10 : decode cX5_undo 10 = .ok (.aload_n 0, 1) := by decide +kernel
theorem dX5_undo_11 : decode cX5_undo 11 = .ok (.dup, 1) := by decide +kernel
theorem dX5_undo_12 : decode cX5_undo 12 = .ok (.getfield 40, 3) := by decide +kernel
theorem dX5_undo_15 : decode cX5_undo 15 = .ok (.iconst 1, 1) := by decide +kernel
theorem dX5_undo_16 : decode cX5_undo 16 = .ok (.isub, 1) := by decide +kernel
theorem dX5_undo_17 : decode cX5_undo 17 = .ok (.putfield 40, 3) := by decide +kernel
theorem dX5_undo_20 : decode cX5_undo 20 = .ok (.iconst 0, 1) := by decide +kernel
theorem dX5_undo_21 : decode cX5_undo 21 = .ok (.istore_n 1, 1) := by decide +kernel
theorem dX5_undo_22 : decode cX5_undo 22 = .ok (.iload_n 1, 1) := by decide +kernel
theorem dX5_undo_23 : decode cX5_undo 23 = .ok (.bipush 56, 2) := by decide +kernel
theorem dX5_undo_25 : decode cX5_undo 25 = .ok (.if_icmp .ge 29, 3) := by decide +kernel
theorem dX5_undo_28 : decode cX5_undo 28 = .ok (.aload_n 0, 1) := by decide +kernel
theorem dX5_undo_29 : decode cX5_undo 29 = .ok (.getfield 7, 3) := by decide +kernel
theorem dX5_undo_32 : decode cX5_undo 32 = .ok (.iload_n 1, 1) := by decide +kernel
theorem dX5_undo_33 : decode cX5_undo 33 = .ok (.aload_n 0, 1) := by decide +kernel
theorem dX5_undo_34 : decode cX5_undo 34 = .ok (.getfield 16, 3) := by decide +kernel
theorem dX5_undo_37 : decode cX5_undo 37 = .ok (.bipush 56, 2) := by decide +kernel
theorem dX5_undo_39 : decode cX5_undo 39 = .ok (.aload_n 0, 1) := by decide +kernel
theorem dX5_undo_40 : decode cX5_undo 40 = .ok (.getfield 40, 3) := by decide +kernel
theorem dX5_undo_43 : decode cX5_undo 43 = .ok (.imul, 1) := by decide +kernel
theorem dX5_undo_44 : decode cX5_undo 44 = .ok (.iload_n 1, 1) := by decide +kernel
theorem dX5_undo_45 : decode cX5_undo 45 = .ok (.iadd, 1) := by decide +kernel
theorem dX5_undo_46 : decode cX5_undo 46 = .ok (.iaload, 1) := by decide +kernel
theorem dX5_undo_47 : decode cX5_undo 47 = .ok (.iastore, 1) := by decide +kernel
theorem dX5_undo_48 : decode cX5_undo 48 = .ok (.iinc 1 1, 3) := by decide +kernel
theorem dX5_undo_51 : decode cX5_undo 51 = .ok (.goto (-29), 3) := by decide +kernel
theorem dX5_undo_54 : decode cX5_undo 54 = .ok (.aload_n 0, 1) := by decide +kernel
theorem dX5_undo_55 : decode cX5_undo 55 = .ok (.getfield 40, 3) := by decide +kernel
theorem dX5_undo_58 : decode cX5_undo 58 = .ok (.ireturn, 1) := by decide +kernel
theorem dX5_isSlot_0 : decode cX5_isSlot 0 = .ok (.iload_n 0, 1) := by decide +kernel
theorem dX5_isSlot_1 : decode cX5_isSlot 1 = .ok (.ifCond .eq 8, 3) := by decide +kernel
theorem dX5_isSlot_4 : decode cX5_isSlot 4 = .ok (.iload_n 0, 1) := by decide +kernel
theorem dX5_isSlot_5 : decode cX5_isSlot 5 = .ok (.iconst 1, 1) := by decide +kernel
theorem dX5_isSlot_6 : decode cX5_isSlot 6 = .ok (.if_icmp .ne 7, 3) := by decide +kernel
theorem dX5_isSlot_9 : decode cX5_isSlot 9 = .ok (.iconst 1, 1) := by decide +kernel
theorem dX5_isSlot_10 : decode cX5_isSlot 10 = .ok (.goto 4, 3) := by decide +kernel
theorem dX5_isSlot_13 : decode cX5_isSlot 13 = .ok (.iconst 0, 1) := by decide +kernel
theorem dX5_isSlot_14 : decode cX5_isSlot 14 = .ok (.ireturn, 1) := by decide +kernel
set_option maxRecDepth 20000 in
theorem ggX5_save_X5_isSlot : GoodIn wsX5_save wsX5_isSlot := goodIn_r _ [7] (by decide +kernel) (by decide +kernel)
set_option maxRecDepth 20000 in
theorem gX5_save_X5_isSlot : GoodIn wsX5_save (va_wsS RX5 192 yX5_isSlot wsX5_isSlot) := goodIn_app (goodIn_of _ (by decide +kernel)) ggX5_save_X5_isSlot
theorem dX5_save_0 : decode cX5_save 0 = .ok (.iload_n 1, 1) := by decide +kernel
theorem dX5_save_1 : decode cX5_save 1 = .ok (.invokestatic 192, 3) := by decide +kernel
theorem dX5_save_4 : decode cX5_save 4 = .ok (.ifCond .ne 6, 3) := by decide +kernel
theorem dX5_save_7 : decode cX5_save 7 = .ok (.bipush (-2), 2) := by decide +kernel
theorem dX5_save_9 : decode cX5_save 9 = .ok (.ireturn, 1) := by decide +kernel
theorem dX5_save_10 : decode cX5_save 10 = .ok (.iconst 0, 1) := by decide +kernel
theorem dX5_save_11 : decode cX5_save 11 = .ok (.istore_n 2, 1) := by decide +kernel
theorem dX5_save_12 : decode cX5_save 12 = .ok (.iload_n 2, 1) := by decide +kernel
theorem dX5_save_13 : decode cX5_save 13 = .ok (.bipush 56, 2) := by decide +kernel
theorem dX5_save_15 : decode cX5_save 15 = .ok (.if_icmp .ge 26, 3) := by decide +kernel
theorem dX5_save_18 : decode cX5_save 18 = .ok (.aload_n 0, 1) := by decide +kernel
theorem dX5_save_19 : decode cX5_save 19 = .ok (.getfield 19, 3) := by decide +kernel
theorem dX5_save_22 : decode cX5_save 22 = .ok (.bipush 56, 2) := by decide +kernel
theorem dX5_save_24 : decode cX5_save 24 = .ok (.iload_n 1, 1) := by decide +kernel
theorem dX5_save_25 : decode cX5_save 25 = .ok (.imul, 1) := by decide +kernel
theorem dX5_save_26 : decode cX5_save 26 = .ok (.iload_n 2, 1) := by decide +kernel
theorem dX5_save_27 : decode cX5_save 27 = .ok (.iadd, 1) := by decide +kernel
theorem dX5_save_28 : decode cX5_save 28 = .ok (.aload_n 0, 1) := by decide +kernel
theorem dX5_save_29 : decode cX5_save 29 = .ok (.getfield 7, 3) := by decide +kernel
theorem dX5_save_32 : decode cX5_save 32 = .ok (.iload_n 2, 1) := by decide +kernel
theorem dX5_save_33 : decode cX5_save 33 = .ok (.iaload, 1) := by decide +kernel
theorem dX5_save_34 : decode cX5_save 34 = .ok (.iastore, 1) := by decide +kernel
theorem dX5_save_35 : decode cX5_save 35 = .ok (.iinc 2 1, 3) := by decide +kernel
theorem dX5_save_38 : decode cX5_save 38 = .ok (.goto (-26), 3) := by decide +kernel
theorem dX5_save_41 : decode cX5_save 41 = .ok (.aload_n 0, 1) := by decide +kernel
theorem dX5_save_42 : decode cX5_save 42 = .ok (.getfield 22, 3) := by decide +kernel
theorem dX5_save_45 : decode cX5_save 45 = .ok (.iload_n 1, 1) := by decide +kernel
theorem dX5_save_46 : decode cX5_save 46 = .ok (.iconst 1, 1) := by decide +kernel
theorem dX5_save_47 : decode cX5_save 47 = .ok (.iastore, 1) := by decide +kernel
theorem dX5_save_48 : decode cX5_save 48 = .ok (.aload_n 0, 1) := by decide +kernel
theorem dX5_save_49 : decode cX5_save 49 = .ok (.getfield 7, 3) := by decide +kernel
theorem dX5_save_52 : decode cX5_save 52 = .ok (.bipush 7, 2) := by decide +kernel
theorem dX5_save_54 : decode cX5_save 54 = .ok (.iaload, 1) := by decide +kernel
theorem dX5_save_55 : decode cX5_save 55 = .ok (.ireturn, 1) := by decide +kernel
set_option maxRecDepth 20000 in
theorem ggX5_restore_X5_isSlot : GoodIn wsX5_restore wsX5_isSlot := goodIn_r _ [7] (by decide +kernel) (by decide +kernel)
set_option maxRecDepth 20000 in
theorem gX5_restore_X5_isSlot : GoodIn wsX5_restore (va_wsS RX5 192 yX5_isSlot wsX5_isSlot) := goodIn_app (goodIn_of _ (by decide +kernel)) ggX5_restore_X5_isSlot
set_option maxRecDepth 20000 in
theorem ggX5_restore_X5_changes : GoodIn wsX5_restore wsX5_changes := goodIn_r _ [11, 12, 13, 2, 14, 15, 16, 17, 18, 19, 20, 21, 22, 23, 24, 25, 26, 27] (by decide +kernel) (by decide +kernel)
set_option maxRecDepth 20000 in
theorem gX5_restore_X5_changes : GoodIn wsX5_restore (wsV RX5 113 RX5 yX5_changes wsX5_changes) := goodIn_app (goodIn_of _ (by decide +kernel)) ggX5_restore_X5_changes
theorem dX5_restore_0 : decode cX5_restore 0 = .ok (.iload_n 1, 1) := by decide +kernel
theorem dX5_restore_1 : decode cX5_restore 1 = .ok (.invokestatic 192, 3) := by decide +kernel
theorem dX5_restore_4 : decode cX5_restore 4 = .ok (.ifCond .ne 6, 3) := by decide +kernel
theorem dX5_restore_7 : decode cX5_restore 7 = .ok (.bipush (-2), 2) := by decide +kernel
theorem dX5_restore_9 : decode cX5_restore 9 = .ok (.ireturn, 1) := by decide +kernel
theorem dX5_restore_10 : decode cX5_restore 10 = .ok (.aload_n 0, 1) := by decide +kernel
theorem dX5_restore_11 : decode cX5_restore 11 = .ok (.getfield 22, 3) := by decide +kernel
theorem dX5_restore_14 : decode cX5_restore 14 = .ok (.iload_n 1, 1) := by decide +kernel
theorem dX5_restore_15 : decode cX5_restore 15 = .ok (.iaload, 1) := by decide +kernel
theorem dX5_restore_16 : decode cX5_restore 16 = .ok (.ifCond .ne 6, 3) := by decide +kernel
theorem dX5_restore_19 : decode cX5_restore 19 = .ok (.bipush (-5), 2) := by decide +kernel
theorem dX5_restore_21 : decode cX5_restore 21 = .ok (.ireturn, 1) := by decide +kernel
theorem dX5_restore_22 : decode cX5_restore 22 = .ok (.aload_n 0, 1) := by decide +kernel
theorem dX5_restore_23 : decode cX5_restore 23 = .ok (.invokevirtual 113, 3) := by decide +kernel
theorem dX5_restore_26 : decode cX5_restore 26 = .ok (.iconst 0, 1) := by decide +kernel
theorem dX5_restore_27 : decode cX5_restore 27 = .ok (.istore_n 2, 1) := by decide +kernel
theorem dX5_restore_28 : decode cX5_restore 28 = .ok (.iload_n 2, 1) := by decide +kernel
theorem dX5_restore_29 : decode cX5_restore 29 = .ok (.bipush 56, 2) := by decide +kernel
theorem dX5_restore_31 : decode cX5_restore 31 = .ok (.if_icmp .ge 26, 3) := by decide +kernel
theorem dX5_restore_34 : decode cX5_restore 34 = .ok (.aload_n 0, 1) := by decide +kernel
theorem dX5_restore_35 : decode cX5_restore 35 = .ok (.getfield 7, 3) := by decide +kernel
theorem dX5_restore_38 : decode cX5_restore 38 = .ok (.iload_n 2, 1) := by decide +kernel
theorem dX5_restore_39 : decode cX5_restore 39 = .ok (.aload_n 0, 1) := by decide +kernel
theorem dX5_restore_40 : decode cX5_restore 40 = .ok (.getfield 19, 3) := by decide +kernel
theorem dX5_restore_43 : decode cX5_restore 43 = .ok (.bipush 56, 2) := by decide +kernel
theorem dX5_restore_45 : decode cX5_restore 45 = .ok (.iload_n 1, 1) := by decide +kernel
theorem dX5_restore_46 : decode cX5_restore 46 = .ok (.imul, 1) := by decide +kernel
theorem dX5_restore_47 : decode cX5_restore 47 = .ok (.iload_n 2, 1) := by decide +kernel
theorem dX5_restore_48 : decode cX5_restore 48 = .ok (.iadd, 1) := by decide +kernel
theorem dX5_restore_49 : decode cX5_restore 49 = .ok (.iaload, 1) := by decide +kernel
theorem dX5_restore_50 : decode cX5_restore 50 = .ok (.iastore, 1) := by decide +kernel
theorem dX5_restore_51 : decode cX5_restore 51 = .ok (.iinc 2 1, 3) := by decide +kernel
theorem dX5_restore_54 : decode cX5_restore 54 = .ok (.goto (-26), 3) := by decide +kernel
theorem dX5_restore_57 : decode cX5_restore 57 = .ok (.aload_n 0, 1) := by decide +kernel
theorem dX5_restore_58 : decode cX5_restore 58 = .ok (.getfield 7, 3) := by decide +kernel
theorem dX5_restore_61 : decode cX5_restore 61 = .ok (.bipush 7, 2) := by decide +kernel
theorem dX5_restore_63 : decode cX5_restore 63 = .ok (.iaload, 1) := by decide +kernel
theorem dX5_restore_64 : decode cX5_restore 64 = .ok (.ireturn, 1) := by decide +kernel
end
section
set_option maxRecDepth 20000 in
theorem ggL_law_X4_init : GoodIn wsL_law wsX4_init := goodIn_r _ [9, 10, 11, 12, 13, 14, 15, 16, 17, 18, 19, 20, 21, 22, 23, 24, 25, 26, 27, 28, 29, 30, 31, 32, 33, 34, 35, 36, 37, 38, 39, 40, 41, 42, 43, 44, 45, 46, 47, 48, 49, 50, 51, 52, 53, 54, 55, 56, 57, 58, 59, 60, 61, 62, 63, 64, 65, 66, 67, 68, 69, 622, 623, 624, 601, 602, 603, 604, 605, 606, 607, 625, 626, 627, 628, 629, 630, 631, 632, 633, 634, 635, 636, 637, 638, 639, 640, 641, 642, 643, 644, 645, 646, 647, 648, 649, 650, 651, 652, 653] (by decide +kernel) (by decide +kernel)
set_option maxRecDepth 20000 in
theorem gL_law_X4_init : GoodIn wsL_law (wsX4_init) := ggL_law_X4_init
set_option maxRecDepth 20000 in
theorem ggL_law_X5_init : GoodIn wsL_law wsX5_init := goodIn_r _ [72, 73, 11, 12, 37, 74, 75, 76, 77, 78, 79, 80, 81, 82, 83, 608, 609, 610, 611, 612, 613, 614, 615, 616, 617, 618, 619, 620, 621] (by decide +kernel) (by decide +kernel)
set_option maxRecDepth 20000 in
theorem gL_law_X5_init : GoodIn wsL_law (wsX5_init) := ggL_law_X5_init
set_option maxRecDepth 20000 in
theorem ggL_law_X4_set : GoodIn wsL_law wsX4_set := goodIn_r _ [87, 88, 89, 16, 90, 29, 91, 92, 2, 93, 94, 95, 96, 15, 97, 98, 44, 99, 100, 101, 102, 103, 104, 105, 106, 107, 28, 108, 68, 109, 110, 111, 112, 113, 114, 115, 116, 117, 38, 39, 40, 41, 42, 601, 602, 603, 604, 605, 606, 607, 622, 623, 624, 651, 652, 653] (by decide +kernel) (by decide +kernel)
set_option maxRecDepth 20000 in
theorem gL_law_X4_set : GoodIn wsL_law (wsV RL 13 RX4 yX4_set wsX4_set) := goodIn_app (goodIn_of _ (by decide +kernel)) ggL_law_X4_set
set_option maxRecDepth 20000 in
theorem ggL_law_X5_set : GoodIn wsL_law wsX5_set := goodIn_r _ [121, 74, 122, 123, 5, 124, 125, 126, 127, 128, 129, 130, 131, 132, 133, 134, 135, 136, 137, 138, 139, 140, 141, 142, 143, 144, 145, 146, 147, 148, 149, 150, 151, 152, 153, 154, 76, 608, 609, 610, 611, 612, 613, 614, 615, 616, 617, 618, 619, 620, 621] (by decide +kernel) (by decide +kernel)
set_option maxRecDepth 20000 in
theorem gL_law_X5_set : GoodIn wsL_law (wsV RL 17 RX5 yX5_set wsX5_set) := goodIn_app (goodIn_of _ (by decide +kernel)) ggL_law_X5_set
set_option maxRecDepth 20000 in
theorem ggL_law_X4_job : GoodIn wsL_law wsX4_job := goodIn_r _ [158, 16, 90, 159, 29, 91, 92, 2, 93, 160, 103, 104, 105, 106, 107, 28, 108, 68, 109, 110, 111, 112, 101, 113, 114, 115, 116, 15, 117, 38, 39, 40, 41, 42, 44, 98, 161, 162, 163, 164, 601, 602, 603, 604, 605, 606, 607, 622, 623, 624, 651, 652, 653] (by decide +kernel) (by decide +kernel)
set_option maxRecDepth 20000 in
theorem gL_law_X4_job : GoodIn wsL_law (wsV RL 18 RX4 yX4_job wsX4_job) := goodIn_app (goodIn_of _ (by decide +kernel)) ggL_law_X4_job
set_option maxRecDepth 20000 in
theorem ggL_law_X5_job : GoodIn wsL_law wsX5_job := goodIn_r _ [168, 126, 127, 169, 74, 131, 132, 5, 133, 146, 147, 148, 149, 150, 151, 152, 153, 154, 76, 170, 171, 172, 173, 608, 609, 610, 611, 612, 613, 614, 615, 616, 617, 618, 619, 620, 621] (by decide +kernel) (by decide +kernel)
set_option maxRecDepth 20000 in
theorem gL_law_X5_job : GoodIn wsL_law (wsV RL 22 RX5 yX5_job wsX5_job) := goodIn_app (goodIn_of _ (by decide +kernel)) ggL_law_X5_job
set_option maxRecDepth 20000 in
theorem ggL_law_X4_read : GoodIn wsL_law wsX4_read := goodIn_r _ [177, 25, 178, 16, 90, 159, 29, 179, 180, 181, 182, 24, 183, 60, 184, 185, 186, 61, 187, 188, 189, 190, 191, 192, 193, 194, 92, 2, 93, 195, 196, 197, 198, 199, 200, 201, 202, 203, 204, 205, 206, 207, 208, 209, 210, 211, 162, 163, 15, 164, 98, 44, 212, 213, 214, 215, 94, 95, 96, 97, 99, 100, 101, 102, 103, 104, 105, 106, 107, 28, 108, 68, 109, 110, 111, 112, 113, 114, 115, 116, 117, 38, 39, 40, 41, 42, 216, 217, 218, 219, 220, 601, 602, 603, 604, 605, 606, 607, 643, 644, 645, 646, 647, 648, 649, 650, 622, 623, 624, 651, 652, 653] (by decide +kernel) (by decide +kernel)
set_option maxRecDepth 20000 in
theorem gL_law_X4_read : GoodIn wsL_law (wsV RL 23 RX4 yX4_read wsX4_read) := goodIn_app (goodIn_of _ (by decide +kernel)) ggL_law_X4_read
set_option maxRecDepth 20000 in
theorem ggL_law_X5_read : GoodIn wsL_law wsX5_read := goodIn_r _ [224, 225, 83, 74, 226, 227, 228, 229, 5, 230, 231, 232, 233, 234, 235, 236, 237, 238, 239, 82, 240, 241, 242, 243, 244, 245, 246, 247, 131, 132, 133, 146, 147, 148, 149, 150, 151, 152, 153, 154, 76, 170, 171, 172, 173, 608, 609, 610, 611, 612, 613, 614, 615, 616, 617, 618, 619, 620, 621] (by decide +kernel) (by decide +kernel)
set_option maxRecDepth 20000 in
theorem gL_law_X5_read : GoodIn wsL_law (wsV RL 27 RX5 yX5_read wsX5_read) := goodIn_app (goodIn_of _ (by decide +kernel)) ggL_law_X5_read
set_option maxRecDepth 20000 in
theorem ggL_law_X4_drop : GoodIn wsL_law wsX4_drop := goodIn_r _ [251, 29, 16, 159, 252, 253, 254, 2, 255, 91, 92, 93, 105, 106, 107, 28, 108, 68, 109, 110, 111, 112, 101, 113, 114, 115, 116, 15, 117, 38, 39, 40, 41, 42, 44, 98, 256, 257, 258, 259, 260, 261, 262, 263, 601, 602, 603, 604, 605, 606, 607, 622, 623, 624, 651, 652, 653] (by decide +kernel) (by decide +kernel)
set_option maxRecDepth 20000 in
theorem gL_law_X4_drop : GoodIn wsL_law (wsV RL 28 RX4 yX4_drop wsX4_drop) := goodIn_app (goodIn_of _ (by decide +kernel)) ggL_law_X4_drop
set_option maxRecDepth 20000 in
theorem ggL_law_X5_drop : GoodIn wsL_law wsX5_drop := goodIn_r _ [267, 74, 268, 269, 270, 5, 271, 131, 132, 133, 150, 151, 152, 153, 154, 76, 272, 273, 274, 275, 276, 277, 278, 279, 142, 143, 144, 145, 608, 609, 610, 611, 612, 613, 614, 615, 616, 617, 618, 619, 620, 621] (by decide +kernel) (by decide +kernel)
set_option maxRecDepth 20000 in
theorem gL_law_X5_drop : GoodIn wsL_law (wsV RL 32 RX5 yX5_drop wsX5_drop) := goodIn_app (goodIn_of _ (by decide +kernel)) ggL_law_X5_drop
set_option maxRecDepth 20000 in
theorem ggL_law_X4_move : GoodIn wsL_law wsX4_move := goodIn_r _ [283, 29, 16, 252, 253, 254, 2, 255, 159, 91, 92, 93, 105, 106, 107, 28, 108, 68, 109, 110, 111, 112, 101, 113, 114, 115, 116, 15, 117, 38, 39, 40, 41, 42, 44, 98, 284, 261, 262, 263, 285, 286, 287, 288, 21, 90, 289, 290, 291, 292, 20, 293, 294, 295, 296, 297, 298, 299, 300, 301, 302, 303, 304, 305, 306, 307, 308, 309, 310, 311, 312, 313, 49, 50, 314, 315, 316, 317, 318, 319, 320, 321, 53, 48, 51, 52, 103, 104, 322, 323, 324, 325, 54, 326, 100, 102, 327, 328, 329, 330, 55, 601, 602, 603, 604, 605, 606, 607, 622, 623, 624, 651, 652, 653, 625, 626, 627, 628, 629, 630, 631, 632, 633, 634, 635, 636, 637, 638, 639, 640, 641, 642] (by decide +kernel) (by decide +kernel)
set_option maxRecDepth 20000 in
theorem gL_law_X4_move : GoodIn wsL_law (wsV RL 33 RX4 yX4_move wsX4_move) := goodIn_app (goodIn_of _ (by decide +kernel)) ggL_law_X4_move
set_option maxRecDepth 20000 in
theorem ggL_law_X5_move : GoodIn wsL_law wsX5_move := goodIn_r _ [334, 268, 269, 270, 5, 271, 74, 131, 132, 133, 150, 151, 152, 153, 154, 76, 272, 273, 274, 275, 276, 277, 278, 279, 142, 143, 144, 145, 335, 336, 337, 338, 339, 340, 341, 342, 79, 80, 343, 344, 345, 346, 347, 348, 349, 350, 351, 352, 353, 354, 355, 356, 357, 358, 359, 360, 361, 362, 138, 139, 140, 141, 146, 147, 148, 149, 363, 364, 365, 366, 367, 368, 369, 370, 371, 372, 373, 374, 375, 376, 377, 378, 608, 609, 610, 611, 612, 613, 614, 615, 616, 617, 618, 619, 620, 621] (by decide +kernel) (by decide +kernel)
set_option maxRecDepth 20000 in
theorem gL_law_X5_move : GoodIn wsL_law (wsV RL 36 RX5 yX5_move wsX5_move) := goodIn_app (goodIn_of _ (by decide +kernel)) ggL_law_X5_move
set_option maxRecDepth 20000 in
theorem ggL_law_X4_due : GoodIn wsL_law wsX4_due := goodIn_r _ [382, 29, 16, 383, 21, 90, 384, 252, 253, 254, 2, 255, 159, 91, 92, 93, 105, 106, 107, 28, 108, 68, 109, 110, 111, 112, 101, 113, 114, 115, 116, 15, 117, 38, 39, 40, 41, 42, 44, 98, 290, 291, 292, 20, 293, 294, 295, 296, 297, 298, 299, 300, 301, 302, 303, 304, 305, 306, 307, 308, 309, 310, 311, 312, 313, 49, 50, 314, 315, 316, 317, 318, 319, 320, 321, 53, 48, 51, 52, 103, 104, 322, 323, 324, 325, 54, 326, 100, 102, 327, 328, 329, 330, 55, 601, 602, 603, 604, 605, 606, 607, 622, 623, 624, 625, 626, 627, 628, 629, 630, 631, 632, 633, 634, 635, 636, 637, 638, 639, 640, 641, 642, 651, 652, 653] (by decide +kernel) (by decide +kernel)
set_option maxRecDepth 20000 in
theorem gL_law_X4_due : GoodIn wsL_law (wsV RL 37 RX4 yX4_due wsX4_due) := goodIn_app (goodIn_of _ (by decide +kernel)) ggL_law_X4_due
set_option maxRecDepth 20000 in
theorem ggL_law_X5_due : GoodIn wsL_law wsX5_due := goodIn_r _ [388, 169, 74, 268, 269, 270, 5, 271, 131, 132, 133, 150, 151, 152, 153, 154, 76, 339, 340, 341, 342, 79, 80, 343, 344, 345, 346, 347, 348, 349, 350, 142, 143, 144, 145, 351, 352, 353, 354, 355, 356, 357, 358, 359, 360, 361, 362, 138, 139, 140, 141, 146, 147, 148, 149, 367, 368, 369, 370, 608, 609, 610, 611, 612, 613, 614, 615, 616, 617, 618, 619, 620, 621] (by decide +kernel) (by decide +kernel)
set_option maxRecDepth 20000 in
theorem gL_law_X5_due : GoodIn wsL_law (wsV RL 40 RX5 yX5_due wsX5_due) := goodIn_app (goodIn_of _ (by decide +kernel)) ggL_law_X5_due
set_option maxRecDepth 20000 in
theorem ggL_law_X4_order : GoodIn wsL_law wsX4_order := goodIn_r _ [392, 29, 16, 17, 393, 91, 92, 2, 93, 105, 106, 107, 28, 108, 68, 109, 110, 111, 112, 101, 113, 114, 115, 116, 15, 117, 38, 39, 40, 41, 42, 44, 98, 394, 395, 396, 397, 398, 399, 400, 401, 402, 403, 601, 602, 603, 604, 605, 606, 607, 651, 652, 653, 622, 623, 624] (by decide +kernel) (by decide +kernel)
set_option maxRecDepth 20000 in
theorem gL_law_X4_order : GoodIn wsL_law (wsV RL 41 RX4 yX4_order wsX4_order) := goodIn_app (goodIn_of _ (by decide +kernel)) ggL_law_X4_order
set_option maxRecDepth 20000 in
theorem ggL_law_X5_order : GoodIn wsL_law wsX5_order := goodIn_r _ [407, 408, 74, 81, 131, 132, 5, 133, 150, 151, 152, 153, 154, 76, 409, 410, 411, 412, 413, 414, 415, 142, 143, 144, 145, 276, 277, 278, 279, 608, 609, 610, 611, 612, 613, 614, 615, 616, 617, 618, 619, 620, 621] (by decide +kernel) (by decide +kernel)
set_option maxRecDepth 20000 in
theorem gL_law_X5_order : GoodIn wsL_law (wsV RL 44 RX5 yX5_order wsX5_order) := goodIn_app (goodIn_of _ (by decide +kernel)) ggL_law_X5_order
set_option maxRecDepth 20000 in
theorem ggL_law_X4_jobOf : GoodIn wsL_law wsX4_jobOf := goodIn_r _ [419, 16, 383, 21, 90, 420, 421, 422, 423, 384, 424, 425, 426, 252, 253, 254, 2, 255, 159, 91, 92, 93, 290, 291, 292, 20, 293, 294, 295, 296, 297, 298, 299, 300, 301, 302, 303, 304, 305, 306, 307, 308, 309, 310, 311, 312, 313, 49, 50, 314, 315, 316, 317, 318, 319, 320, 321, 53, 48, 51, 52, 103, 104, 322, 323, 324, 325, 54, 326, 100, 101, 102, 327, 328, 329, 330, 55, 601, 602, 603, 604, 605, 606, 607, 622, 623, 624, 625, 626, 627, 628, 629, 630, 631, 632, 633, 634, 635, 636, 637, 638, 639, 640, 641, 642] (by decide +kernel) (by decide +kernel)
set_option maxRecDepth 20000 in
theorem gL_law_X4_jobOf : GoodIn wsL_law (wsV RL 45 RX4 yX4_jobOf wsX4_jobOf) := goodIn_app (goodIn_of _ (by decide +kernel)) ggL_law_X4_jobOf
set_option maxRecDepth 20000 in
theorem ggL_law_X5_jobOf : GoodIn wsL_law wsX5_jobOf := goodIn_r _ [430, 79, 80, 268, 269, 270, 5, 271, 74, 131, 132, 133, 339, 340, 341, 342, 343, 344, 345, 346, 347, 348, 349, 350, 142, 143, 144, 145, 351, 352, 353, 354, 355, 356, 357, 358, 359, 360, 361, 362, 138, 139, 140, 141, 146, 147, 148, 149, 367, 368, 369, 370, 375, 376, 377, 378, 608, 609, 610, 611, 612, 613, 614, 615, 616, 617, 618, 619, 620, 621] (by decide +kernel) (by decide +kernel)
set_option maxRecDepth 20000 in
theorem gL_law_X5_jobOf : GoodIn wsL_law (wsV RL 48 RX5 yX5_jobOf wsX5_jobOf) := goodIn_app (goodIn_of _ (by decide +kernel)) ggL_law_X5_jobOf
set_option maxRecDepth 20000 in
theorem ggL_law_X4_count : GoodIn wsL_law wsX4_count := goodIn_r _ [434, 16, 90, 21, 159, 422, 423, 435, 289, 436, 437, 438, 439, 440, 25, 179, 29, 441, 91, 92, 2, 93, 290, 291, 292, 20, 293, 294, 295, 296, 297, 298, 299, 300, 301, 302, 303, 304, 305, 306, 307, 308, 309, 310, 311, 312, 313, 49, 50, 314, 315, 316, 317, 318, 319, 320, 321, 53, 48, 51, 52, 103, 104, 322, 323, 324, 325, 54, 326, 100, 101, 102, 327, 328, 329, 330, 55, 442, 443, 444, 15, 445, 98, 44, 446, 447, 448, 449, 601, 602, 603, 604, 605, 606, 607, 622, 623, 624, 625, 626, 627, 628, 629, 630, 631, 632, 633, 634, 635, 636, 637, 638, 639, 640, 641, 642, 643, 644, 645, 646, 647, 648, 649, 650, 651, 652, 653] (by decide +kernel) (by decide +kernel)
set_option maxRecDepth 20000 in
theorem gL_law_X4_count : GoodIn wsL_law (wsV RL 49 RX4 yX4_count wsX4_count) := goodIn_app (goodIn_of _ (by decide +kernel)) ggL_law_X4_count
set_option maxRecDepth 20000 in
theorem ggL_law_X5_count : GoodIn wsL_law wsX5_count := goodIn_r _ [453, 74, 226, 154, 454, 339, 340, 341, 5, 342, 79, 80, 343, 344, 345, 346, 347, 348, 349, 350, 142, 143, 144, 145, 351, 352, 353, 354, 355, 356, 357, 358, 359, 360, 361, 362, 138, 139, 140, 141, 146, 147, 148, 149, 363, 364, 365, 366, 367, 368, 369, 370, 371, 372, 373, 374, 375, 376, 377, 378, 455, 456, 457, 458, 131, 132, 133, 608, 609, 610, 611, 612, 613, 614, 615, 616, 617, 618, 619, 620, 621] (by decide +kernel) (by decide +kernel)
set_option maxRecDepth 20000 in
theorem gL_law_X5_count : GoodIn wsL_law (wsV RL 52 RX5 yX5_count wsX5_count) := goodIn_app (goodIn_of _ (by decide +kernel)) ggL_law_X5_count
set_option maxRecDepth 20000 in
theorem ggL_law_X4_at : GoodIn wsL_law wsX4_at := goodIn_r _ [462, 463, 21, 16, 90, 422, 423, 91, 92, 2, 93, 290, 291, 292, 20, 293, 294, 295, 296, 297, 298, 299, 300, 301, 302, 303, 304, 305, 306, 307, 308, 309, 310, 311, 312, 313, 49, 50, 314, 315, 316, 317, 318, 319, 320, 321, 53, 48, 51, 52, 103, 104, 322, 323, 324, 325, 54, 326, 100, 101, 102, 327, 328, 329, 330, 55, 464, 465, 466, 467, 468, 469, 470, 471, 472, 473, 474, 475, 601, 602, 603, 604, 605, 606, 607, 622, 623, 624, 625, 626, 627, 628, 629, 630, 631, 632, 633, 634, 635, 636, 637, 638, 639, 640, 641, 642] (by decide +kernel) (by decide +kernel)
set_option maxRecDepth 20000 in
theorem gL_law_X4_at : GoodIn wsL_law (wsV RL 53 RX4 yX4_at wsX4_at) := goodIn_app (goodIn_of _ (by decide +kernel)) ggL_law_X4_at
set_option maxRecDepth 20000 in
theorem ggL_law_X5_at : GoodIn wsL_law wsX5_at := goodIn_r _ [479, 480, 408, 74, 79, 80, 131, 132, 5, 133, 339, 340, 341, 342, 343, 344, 345, 346, 347, 348, 349, 350, 142, 143, 144, 145, 351, 352, 353, 354, 355, 356, 357, 358, 359, 360, 361, 362, 138, 139, 140, 141, 146, 147, 148, 149, 608, 609, 610, 611, 612, 613, 614, 615, 616, 617, 618, 619, 620, 621] (by decide +kernel) (by decide +kernel)
set_option maxRecDepth 20000 in
theorem gL_law_X5_at : GoodIn wsL_law (wsV RL 56 RX5 yX5_at wsX5_at) := goodIn_app (goodIn_of _ (by decide +kernel)) ggL_law_X5_at
set_option maxRecDepth 20000 in
theorem ggL_law_X4_ifOrdered : GoodIn wsL_law wsX4_ifOrdered := goodIn_r _ [484, 17, 16, 393, 21, 90, 423, 289, 437, 438, 91, 92, 2, 93, 394, 395, 396, 15, 397, 98, 44, 398, 115, 116, 117, 38, 39, 40, 41, 42, 399, 400, 401, 402, 290, 291, 292, 20, 293, 294, 295, 296, 297, 298, 299, 300, 301, 302, 303, 304, 305, 306, 307, 308, 309, 310, 311, 312, 313, 49, 50, 314, 315, 316, 317, 318, 319, 320, 321, 53, 48, 51, 52, 103, 104, 322, 323, 324, 325, 54, 326, 100, 101, 102, 327, 328, 329, 330, 55, 446, 447, 448, 449, 601, 602, 603, 604, 605, 606, 607, 622, 623, 624, 625, 626, 627, 628, 629, 630, 631, 632, 633, 634, 635, 636, 637, 638, 639, 640, 641, 642] (by decide +kernel) (by decide +kernel)
set_option maxRecDepth 20000 in
theorem gL_law_X4_ifOrdered : GoodIn wsL_law (wsV RL 57 RX4 yX4_ifOrdered wsX4_ifOrdered) := goodIn_app (goodIn_of _ (by decide +kernel)) ggL_law_X4_ifOrdered
set_option maxRecDepth 20000 in
theorem ggL_law_X5_ifOrdered : GoodIn wsL_law wsX5_ifOrdered := goodIn_r _ [488, 408, 131, 132, 5, 133, 489, 490, 491, 492, 75, 74, 409, 410, 411, 412, 81, 413, 414, 415, 142, 143, 144, 145, 276, 277, 278, 279, 339, 340, 341, 342, 79, 80, 343, 344, 345, 346, 347, 348, 349, 350, 351, 352, 353, 354, 355, 356, 357, 358, 359, 360, 361, 362, 138, 139, 140, 141, 146, 147, 148, 149, 455, 456, 457, 458, 367, 368, 369, 370, 363, 364, 365, 366, 371, 372, 373, 374, 375, 376, 377, 378, 493, 494, 495, 496, 608, 609, 610, 611, 612, 613, 614, 615, 616, 617, 618, 619, 620, 621] (by decide +kernel) (by decide +kernel)
set_option maxRecDepth 20000 in
theorem gL_law_X5_ifOrdered : GoodIn wsL_law (wsV RL 60 RX5 yX5_ifOrdered wsX5_ifOrdered) := goodIn_app (goodIn_of _ (by decide +kernel)) ggL_law_X5_ifOrdered
set_option maxRecDepth 20000 in
theorem ggL_law_X4_bestExchange : GoodIn wsL_law wsX4_bestExchange := goodIn_r _ [500, 17, 16, 159, 91, 92, 2, 93, 403, 115, 116, 15, 117, 38, 39, 40, 41, 42, 44, 98, 285, 286, 287, 288, 21, 90, 289, 290, 291, 292, 20, 293, 294, 295, 296, 297, 298, 299, 300, 301, 302, 303, 304, 305, 306, 307, 308, 309, 310, 311, 312, 313, 49, 50, 314, 315, 316, 317, 318, 319, 320, 321, 53, 48, 51, 52, 103, 104, 322, 323, 324, 325, 54, 326, 100, 101, 102, 327, 328, 329, 330, 55, 501, 502, 503, 504, 505, 506, 507, 508, 601, 602, 603, 604, 605, 606, 607, 622, 623, 624, 625, 626, 627, 628, 629, 630, 631, 632, 633, 634, 635, 636, 637, 638, 639, 640, 641, 642] (by decide +kernel) (by decide +kernel)
set_option maxRecDepth 20000 in
theorem gL_law_X4_bestExchange : GoodIn wsL_law (wsV RL 61 RX4 yX4_bestExchange wsX4_bestExchange) := goodIn_app (goodIn_of _ (by decide +kernel)) ggL_law_X4_bestExchange
set_option maxRecDepth 20000 in
theorem ggL_law_X5_bestExchange : GoodIn wsL_law wsX5_bestExchange := goodIn_r _ [512, 513, 74, 131, 132, 5, 133, 335, 336, 337, 338, 339, 340, 341, 342, 79, 80, 343, 344, 345, 346, 347, 348, 349, 350, 142, 143, 144, 145, 351, 352, 353, 354, 355, 356, 357, 358, 359, 360, 361, 362, 138, 139, 140, 141, 146, 147, 148, 149, 363, 364, 365, 366, 367, 368, 369, 370, 371, 372, 373, 374, 375, 376, 377, 378, 276, 277, 278, 279, 608, 609, 610, 611, 612, 613, 614, 615, 616, 617, 618, 619, 620, 621] (by decide +kernel) (by decide +kernel)
set_option maxRecDepth 20000 in
theorem gL_law_X5_bestExchange : GoodIn wsL_law (wsV RL 64 RX5 yX5_bestExchange wsX5_bestExchange) := goodIn_app (goodIn_of _ (by decide +kernel)) ggL_law_X5_bestExchange
set_option maxRecDepth 20000 in
theorem ggL_law_X4_bestFirst : GoodIn wsL_law wsX4_bestFirst := goodIn_r _ [517, 17, 16, 159, 403, 115, 116, 15, 117, 38, 39, 40, 41, 42, 44, 98, 518, 519, 520, 2, 521, 284, 261, 262, 263, 285, 286, 287, 288, 21, 90, 289, 290, 291, 292, 20, 293, 294, 295, 296, 297, 298, 299, 300, 301, 302, 303, 304, 305, 306, 307, 308, 309, 310, 311, 312, 313, 49, 50, 314, 315, 316, 317, 318, 319, 320, 321, 53, 48, 51, 52, 103, 104, 322, 323, 324, 325, 54, 326, 100, 101, 102, 327, 328, 329, 330, 55, 601, 602, 603, 604, 605, 606, 607, 622, 623, 624, 625, 626, 627, 628, 629, 630, 631, 632, 633, 634, 635, 636, 637, 638, 639, 640, 641, 642] (by decide +kernel) (by decide +kernel)
set_option maxRecDepth 20000 in
theorem gL_law_X4_bestFirst : GoodIn wsL_law (wsV RL 65 RX4 yX4_bestFirst wsX4_bestFirst) := goodIn_app (goodIn_of _ (by decide +kernel)) ggL_law_X4_bestFirst
set_option maxRecDepth 20000 in
theorem ggL_law_X5_bestFirst : GoodIn wsL_law wsX5_bestFirst := goodIn_r _ [525, 74, 272, 273, 274, 5, 275, 276, 277, 278, 279, 142, 143, 144, 145, 335, 336, 337, 338, 339, 340, 341, 342, 79, 80, 343, 344, 345, 346, 347, 348, 349, 350, 351, 352, 353, 354, 355, 356, 357, 358, 359, 360, 361, 362, 138, 139, 140, 141, 146, 147, 148, 149, 363, 364, 365, 366, 367, 368, 369, 370, 371, 372, 373, 374, 375, 376, 377, 378, 608, 609, 610, 611, 612, 613, 614, 615, 616, 617, 618, 619, 620, 621] (by decide +kernel) (by decide +kernel)
set_option maxRecDepth 20000 in
theorem gL_law_X5_bestFirst : GoodIn wsL_law (wsV RL 68 RX5 yX5_bestFirst wsX5_bestFirst) := goodIn_app (goodIn_of _ (by decide +kernel)) ggL_law_X5_bestFirst
set_option maxRecDepth 20000 in
theorem ggL_law_X4_leastRacks : GoodIn wsL_law wsX4_leastRacks := goodIn_r _ [529, 16, 90, 88, 530, 100, 101, 102, 89, 21, 439, 94, 95, 96, 15, 97, 98, 44, 99, 103, 2, 104, 290, 291, 292, 20, 293, 294, 295, 296, 297, 298, 299, 300, 301, 302, 303, 304, 305, 306, 307, 308, 309, 310, 311, 312, 313, 49, 50, 314, 315, 316, 317, 318, 319, 320, 321, 53, 48, 51, 52, 322, 323, 324, 325, 54, 326, 327, 328, 329, 330, 55, 601, 602, 603, 604, 605, 606, 607, 622, 623, 624, 625, 626, 627, 628, 629, 630, 631, 632, 633, 634, 635, 636, 637, 638, 639, 640, 641, 642] (by decide +kernel) (by decide +kernel)
set_option maxRecDepth 20000 in
theorem gL_law_X4_leastRacks : GoodIn wsL_law (wsV RL 69 RX4 yX4_leastRacks wsX4_leastRacks) := goodIn_app (goodIn_of _ (by decide +kernel)) ggL_law_X4_leastRacks
set_option maxRecDepth 20000 in
theorem ggL_law_X5_leastRacks : GoodIn wsL_law wsX5_leastRacks := goodIn_r _ [534, 74, 134, 135, 136, 5, 137, 138, 139, 140, 141, 142, 143, 144, 145, 146, 147, 148, 149, 339, 340, 341, 342, 79, 80, 343, 344, 345, 346, 347, 348, 349, 350, 351, 352, 353, 354, 355, 356, 357, 358, 359, 360, 361, 362, 363, 364, 365, 366, 367, 368, 369, 370, 371, 372, 373, 374, 375, 376, 377, 378, 608, 609, 610, 611, 612, 613, 614, 615, 616, 617, 618, 619, 620, 621] (by decide +kernel) (by decide +kernel)
set_option maxRecDepth 20000 in
theorem gL_law_X5_leastRacks : GoodIn wsL_law (wsV RL 72 RX5 yX5_leastRacks wsX5_leastRacks) := goodIn_app (goodIn_of _ (by decide +kernel)) ggL_law_X5_leastRacks
set_option maxRecDepth 20000 in
theorem ggL_law_X4_put : GoodIn wsL_law wsX4_put := goodIn_r _ [538, 25, 179, 539, 540, 2, 541, 542, 91, 92, 93, 543, 544, 545, 24, 546, 186, 61, 601, 602, 603, 604, 605, 606, 607, 643, 644, 645, 646, 647, 648, 649, 650] (by decide +kernel) (by decide +kernel)
set_option maxRecDepth 20000 in
theorem gL_law_X4_put : GoodIn wsL_law (wsV RL 75 RX4 yX4_put wsX4_put) := goodIn_app (goodIn_of _ (by decide +kernel)) ggL_law_X4_put
set_option maxRecDepth 20000 in
theorem ggL_law_X5_put : GoodIn wsL_law wsX5_put := goodIn_r _ [550, 226, 82, 551, 552, 553, 5, 554, 555, 556, 131, 132, 133, 608, 609, 610, 611, 612, 613, 614, 615, 616, 617, 618, 619, 620, 621] (by decide +kernel) (by decide +kernel)
set_option maxRecDepth 20000 in
theorem gL_law_X5_put : GoodIn wsL_law (wsV RL 79 RX5 yX5_put wsX5_put) := goodIn_app (goodIn_of _ (by decide +kernel)) ggL_law_X5_put
set_option maxRecDepth 20000 in
theorem ggL_law_X4_wipe : GoodIn wsL_law wsX4_wipe := goodIn_r _ [560, 25, 179, 601, 602, 603, 604, 605, 606, 607, 643, 644, 645, 646, 647, 648, 649, 650] (by decide +kernel) (by decide +kernel)
set_option maxRecDepth 20000 in
theorem gL_law_X4_wipe : GoodIn wsL_law (wsV RL 80 RX4 yX4_wipe wsX4_wipe) := goodIn_app (goodIn_of _ (by decide +kernel)) ggL_law_X4_wipe
set_option maxRecDepth 20000 in
theorem ggL_law_X5_wipe : GoodIn wsL_law wsX5_wipe := goodIn_r _ [564, 226, 608, 609, 610, 611, 612, 613, 614, 615, 616, 617, 618, 619, 620, 621] (by decide +kernel) (by decide +kernel)
set_option maxRecDepth 20000 in
theorem gL_law_X5_wipe : GoodIn wsL_law (wsV RL 83 RX5 yX5_wipe wsX5_wipe) := goodIn_app (goodIn_of _ (by decide +kernel)) ggL_law_X5_wipe
set_option maxRecDepth 20000 in
theorem ggL_law_X4_fault : GoodIn wsL_law wsX4_fault := goodIn_r _ [568, 25, 180, 181, 182, 24, 183, 60, 184, 185, 186, 61, 187, 188, 189, 190, 191, 192, 193, 194, 92, 2, 93, 195, 196, 197, 198, 199, 200, 201, 202, 203, 204, 205, 206, 207, 208, 209, 210, 211, 162, 163, 15, 164, 98, 44, 212, 213, 214, 215, 601, 602, 603, 604, 605, 606, 607, 643, 644, 645, 646, 647, 648, 649, 650, 622, 623, 624] (by decide +kernel) (by decide +kernel)
set_option maxRecDepth 20000 in
theorem gL_law_X4_fault : GoodIn wsL_law (wsV RL 84 RX4 yX4_fault wsX4_fault) := goodIn_app (goodIn_of _ (by decide +kernel)) ggL_law_X4_fault
set_option maxRecDepth 20000 in
theorem ggL_law_X5_fault : GoodIn wsL_law wsX5_fault := goodIn_r _ [230, 231, 225, 226, 232, 233, 234, 5, 235, 83, 236, 237, 238, 239, 82, 240, 241, 242, 243, 244, 245, 246, 247, 131, 132, 133, 608, 609, 610, 611, 612, 613, 614, 615, 616, 617, 618, 619, 620, 621] (by decide +kernel) (by decide +kernel)
set_option maxRecDepth 20000 in
theorem gL_law_X5_fault : GoodIn wsL_law (wsV RL 87 RX5 yX5_fault wsX5_fault) := goodIn_app (goodIn_of _ (by decide +kernel)) ggL_law_X5_fault
set_option maxRecDepth 20000 in
theorem ggL_law_X4_undo : GoodIn wsL_law wsX4_undo := goodIn_r _ [573, 29, 441, 16, 574, 575, 576, 28, 577, 109, 110, 68, 114, 115, 116, 15, 117, 38, 39, 40, 41, 42, 44, 98, 601, 602, 603, 604, 605, 606, 607, 651, 652, 653, 622, 623, 624] (by decide +kernel) (by decide +kernel)
set_option maxRecDepth 20000 in
theorem gL_law_X4_undo : GoodIn wsL_law (wsV RL 88 RX4 yX4_undo wsX4_undo) := goodIn_app (goodIn_of _ (by decide +kernel)) ggL_law_X4_undo
set_option maxRecDepth 20000 in
theorem ggL_law_X5_undo : GoodIn wsL_law wsX5_undo := goodIn_r _ [581, 154, 74, 76, 608, 609, 610, 611, 612, 613, 614, 615, 616, 617, 618, 619, 620, 621] (by decide +kernel) (by decide +kernel)
set_option maxRecDepth 20000 in
theorem gL_law_X5_undo : GoodIn wsL_law (wsV RL 91 RX5 yX5_undo wsX5_undo) := goodIn_app (goodIn_of _ (by decide +kernel)) ggL_law_X5_undo
set_option maxRecDepth 20000 in
theorem ggL_law_X4_save : GoodIn wsL_law wsX4_save := goodIn_r _ [585, 30, 16, 32, 159, 91, 92, 2, 93, 403, 115, 116, 15, 117, 38, 39, 40, 41, 42, 44, 98, 601, 602, 603, 604, 605, 606, 607, 622, 623, 624] (by decide +kernel) (by decide +kernel)
set_option maxRecDepth 20000 in
theorem gL_law_X4_save : GoodIn wsL_law (wsV RL 92 RX4 yX4_save wsX4_save) := goodIn_app (goodIn_of _ (by decide +kernel)) ggL_law_X4_save
set_option maxRecDepth 20000 in
theorem ggL_law_X5_save : GoodIn wsL_law wsX5_save := goodIn_r _ [589, 77, 74, 78, 590, 591, 5, 592, 608, 609, 610, 611, 612, 613, 614, 615, 616, 617, 618, 619, 620, 621] (by decide +kernel) (by decide +kernel)
set_option maxRecDepth 20000 in
theorem gL_law_X5_save : GoodIn wsL_law (wsV RL 95 RX5 yX5_save wsX5_save) := goodIn_app (goodIn_of _ (by decide +kernel)) ggL_law_X5_save
set_option maxRecDepth 20000 in
theorem ggL_law_X4_restore : GoodIn wsL_law wsX4_restore := goodIn_r _ [596, 32, 29, 16, 30, 159, 91, 92, 2, 93, 105, 106, 107, 28, 108, 68, 109, 110, 111, 112, 101, 113, 114, 115, 116, 15, 117, 38, 39, 40, 41, 42, 44, 98, 403, 601, 602, 603, 604, 605, 606, 607, 622, 623, 624, 651, 652, 653] (by decide +kernel) (by decide +kernel)
set_option maxRecDepth 20000 in
theorem gL_law_X4_restore : GoodIn wsL_law (wsV RL 96 RX4 yX4_restore wsX4_restore) := goodIn_app (goodIn_of _ (by decide +kernel)) ggL_law_X4_restore
set_option maxRecDepth 20000 in
theorem ggL_law_X5_restore : GoodIn wsL_law wsX5_restore := goodIn_r _ [600, 78, 74, 77, 590, 591, 5, 592, 150, 151, 152, 153, 154, 76, 608, 609, 610, 611, 612, 613, 614, 615, 616, 617, 618, 619, 620, 621] (by decide +kernel) (by decide +kernel)
set_option maxRecDepth 20000 in
theorem gL_law_X5_restore : GoodIn wsL_law (wsV RL 99 RX5 yX5_restore wsX5_restore) := goodIn_app (goodIn_of _ (by decide +kernel)) ggL_law_X5_restore
theorem dL_law_0 : decode cL_law 0 = .ok (.new 7, 3) := by decide +kernel
theorem dL_law_3 : decode cL_law 3 = .ok (.dup, 1) := by decide +kernel
theorem dL_law_4 : decode cL_law 4 = .ok (.invokespecial 9, 3) := by decide +kernel
theorem dL_law_7 : decode cL_law 7 = .ok (.astore_n 1, 1) := by decide +kernel
theorem dL_law_8 : decode cL_law 8 = .ok (.new 10, 3) := by decide +kernel
theorem dL_law_11 : decode cL_law 11 = .ok (.dup, 1) := by decide +kernel
theorem dL_law_12 : decode cL_law 12 = .ok (.invokespecial 12, 3) := by decide +kernel
theorem dL_law_15 : decode cL_law 15 = .ok (.astore_n 2, 1) := by decide +kernel
theorem dL_law_16 : decode cL_law 16 = .ok (.iconst 0, 1) := by decide +kernel
theorem dL_law_17 : decode cL_law 17 = .ok (.istore_n 3, 1) := by decide +kernel
theorem dL_law_18 : decode cL_law 18 = .ok (.iload_n 3, 1) := by decide +kernel
theorem dL_law_19 : decode cL_law 19 = .ok (.aload_n 0, 1) := by decide +kernel
theorem dL_law_20 : decode cL_law 20 = .ok (.arraylength, 1) := by decide +kernel
theorem dL_law_21 : decode cL_law 21 = .ok (.iconst 5, 1) := by decide +kernel
theorem dL_law_22 : decode cL_law 22 = .ok (.isub, 1) := by decide +kernel
theorem dL_law_23 : decode cL_law 23 = .ok (.if_icmp .gt 631, 3) := by decide +kernel
theorem dL_law_26 : decode cL_law 26 = .ok (.aload_n 0, 1) := by decide +kernel
theorem dL_law_27 : decode cL_law 27 = .ok (.iload_n 3, 1) := by decide +kernel
theorem dL_law_28 : decode cL_law 28 = .ok (.iaload, 1) := by decide +kernel
theorem dL_law_29 : decode cL_law 29 = .ok (.bipush 31, 2) := by decide +kernel
theorem dL_law_31 : decode cL_law 31 = .ok (.iand, 1) := by decide +kernel
theorem dL_law_32 : decode cL_law 32 = .ok (.tableswitch 616 0 19 #[96, 129, 182, 195, 218, 251, 284, 307, 340, 363, 396, 429, 452, 465, 478, 531, 544, 557, 570, 593], 96) := by decide +kernel
theorem dL_law_128 : decode cL_law 128 = .ok (.aload_n 1, 1) := by decide +kernel
theorem dL_law_129 : decode cL_law 129 = .ok (.aload_n 0, 1) := by decide +kernel
theorem dL_law_130 : decode cL_law 130 = .ok (.iload_n 3, 1) := by decide +kernel
theorem dL_law_131 : decode cL_law 131 = .ok (.iconst 1, 1) := by decide +kernel
theorem dL_law_132 : decode cL_law 132 = .ok (.iadd, 1) := by decide +kernel
theorem dL_law_133 : decode cL_law 133 = .ok (.iaload, 1) := by decide +kernel
theorem dL_law_134 : decode cL_law 134 = .ok (.aload_n 0, 1) := by decide +kernel
theorem dL_law_135 : decode cL_law 135 = .ok (.iload_n 3, 1) := by decide +kernel
theorem dL_law_136 : decode cL_law 136 = .ok (.iconst 2, 1) := by decide +kernel
theorem dL_law_137 : decode cL_law 137 = .ok (.iadd, 1) := by decide +kernel
theorem dL_law_138 : decode cL_law 138 = .ok (.iaload, 1) := by decide +kernel
theorem dL_law_139 : decode cL_law 139 = .ok (.invokevirtual 13, 3) := by decide +kernel
theorem dL_law_142 : decode cL_law 142 = .ok (.aload_n 2, 1) := by decide +kernel
theorem dL_law_143 : decode cL_law 143 = .ok (.aload_n 0, 1) := by decide +kernel
theorem dL_law_144 : decode cL_law 144 = .ok (.iload_n 3, 1) := by decide +kernel
theorem dL_law_145 : decode cL_law 145 = .ok (.iconst 1, 1) := by decide +kernel
theorem dL_law_146 : decode cL_law 146 = .ok (.iadd, 1) := by decide +kernel
theorem dL_law_147 : decode cL_law 147 = .ok (.iaload, 1) := by decide +kernel
theorem dL_law_148 : decode cL_law 148 = .ok (.aload_n 0, 1) := by decide +kernel
theorem dL_law_149 : decode cL_law 149 = .ok (.iload_n 3, 1) := by decide +kernel
theorem dL_law_150 : decode cL_law 150 = .ok (.iconst 2, 1) := by decide +kernel
theorem dL_law_151 : decode cL_law 151 = .ok (.iadd, 1) := by decide +kernel
theorem dL_law_152 : decode cL_law 152 = .ok (.iaload, 1) := by decide +kernel
theorem dL_law_153 : decode cL_law 153 = .ok (.invokevirtual 17, 3) := by decide +kernel
theorem dL_law_156 : decode cL_law 156 = .ok (.if_icmp .eq 492, 3) := by decide +kernel
theorem dL_law_159 : decode cL_law 159 = .ok (.iconst 0, 1) := by decide +kernel
theorem dL_law_160 : decode cL_law 160 = .ok (.ireturn, 1) := by decide +kernel
theorem dL_law_161 : decode cL_law 161 = .ok (.aload_n 1, 1) := by decide +kernel
theorem dL_law_162 : decode cL_law 162 = .ok (.aload_n 0, 1) := by decide +kernel
theorem dL_law_163 : decode cL_law 163 = .ok (.iload_n 3, 1) := by decide +kernel
theorem dL_law_164 : decode cL_law 164 = .ok (.iconst 1, 1) := by decide +kernel
theorem dL_law_165 : decode cL_law 165 = .ok (.iadd, 1) := by decide +kernel
theorem dL_law_166 : decode cL_law 166 = .ok (.iaload, 1) := by decide +kernel
theorem dL_law_167 : decode cL_law 167 = .ok (.aload_n 0, 1) := by decide +kernel
theorem dL_law_168 : decode cL_law 168 = .ok (.iload_n 3, 1) := by decide +kernel
theorem dL_law_169 : decode cL_law 169 = .ok (.iconst 2, 1) := by decide +kernel
theorem dL_law_170 : decode cL_law 170 = .ok (.iadd, 1) := by decide +kernel
theorem dL_law_171 : decode cL_law 171 = .ok (.iaload, 1) := by decide +kernel
theorem dL_law_172 : decode cL_law 172 = .ok (.aload_n 0, 1) := by decide +kernel
theorem dL_law_173 : decode cL_law 173 = .ok (.iload_n 3, 1) := by decide +kernel
theorem dL_law_174 : decode cL_law 174 = .ok (.iconst 3, 1) := by decide +kernel
theorem dL_law_175 : decode cL_law 175 = .ok (.iadd, 1) := by decide +kernel
theorem dL_law_176 : decode cL_law 176 = .ok (.iaload, 1) := by decide +kernel
theorem dL_law_177 : decode cL_law 177 = .ok (.aload_n 0, 1) := by decide +kernel
theorem dL_law_178 : decode cL_law 178 = .ok (.iload_n 3, 1) := by decide +kernel
theorem dL_law_179 : decode cL_law 179 = .ok (.iconst 4, 1) := by decide +kernel
theorem dL_law_180 : decode cL_law 180 = .ok (.iadd, 1) := by decide +kernel
theorem dL_law_181 : decode cL_law 181 = .ok (.iaload, 1) := by decide +kernel
theorem dL_law_182 : decode cL_law 182 = .ok (.invokevirtual 18, 3) := by decide +kernel
theorem dL_law_185 : decode cL_law 185 = .ok (.aload_n 2, 1) := by decide +kernel
theorem dL_law_186 : decode cL_law 186 = .ok (.aload_n 0, 1) := by decide +kernel
theorem dL_law_187 : decode cL_law 187 = .ok (.iload_n 3, 1) := by decide +kernel
theorem dL_law_188 : decode cL_law 188 = .ok (.iconst 1, 1) := by decide +kernel
theorem dL_law_189 : decode cL_law 189 = .ok (.iadd, 1) := by decide +kernel
theorem dL_law_190 : decode cL_law 190 = .ok (.iaload, 1) := by decide +kernel
theorem dL_law_191 : decode cL_law 191 = .ok (.aload_n 0, 1) := by decide +kernel
theorem dL_law_192 : decode cL_law 192 = .ok (.iload_n 3, 1) := by decide +kernel
theorem dL_law_193 : decode cL_law 193 = .ok (.iconst 2, 1) := by decide +kernel
theorem dL_law_194 : decode cL_law 194 = .ok (.iadd, 1) := by decide +kernel
theorem dL_law_195 : decode cL_law 195 = .ok (.iaload, 1) := by decide +kernel
theorem dL_law_196 : decode cL_law 196 = .ok (.aload_n 0, 1) := by decide +kernel
theorem dL_law_197 : decode cL_law 197 = .ok (.iload_n 3, 1) := by decide +kernel
theorem dL_law_198 : decode cL_law 198 = .ok (.iconst 3, 1) := by decide +kernel
theorem dL_law_199 : decode cL_law 199 = .ok (.iadd, 1) := by decide +kernel
theorem dL_law_200 : decode cL_law 200 = .ok (.iaload, 1) := by decide +kernel
theorem dL_law_201 : decode cL_law 201 = .ok (.aload_n 0, 1) := by decide +kernel
theorem dL_law_202 : decode cL_law 202 = .ok (.iload_n 3, 1) := by decide +kernel
theorem dL_law_203 : decode cL_law 203 = .ok (.iconst 4, 1) := by decide +kernel
theorem dL_law_204 : decode cL_law 204 = .ok (.iadd, 1) := by decide +kernel
theorem dL_law_205 : decode cL_law 205 = .ok (.iaload, 1) := by decide +kernel
theorem dL_law_206 : decode cL_law 206 = .ok (.invokevirtual 22, 3) := by decide +kernel
theorem dL_law_209 : decode cL_law 209 = .ok (.if_icmp .eq 439, 3) := by decide +kernel
theorem dL_law_212 : decode cL_law 212 = .ok (.iconst 0, 1) := by decide +kernel
theorem dL_law_213 : decode cL_law 213 = .ok (.ireturn, 1) := by decide +kernel
theorem dL_law_214 : decode cL_law 214 = .ok (.aload_n 1, 1) := by decide +kernel
theorem dL_law_215 : decode cL_law 215 = .ok (.invokevirtual 23, 3) := by decide +kernel
theorem dL_law_218 : decode cL_law 218 = .ok (.aload_n 2, 1) := by decide +kernel
theorem dL_law_219 : decode cL_law 219 = .ok (.invokevirtual 27, 3) := by decide +kernel
theorem dL_law_222 : decode cL_law 222 = .ok (.if_icmp .eq 426, 3) := by decide +kernel
theorem dL_law_225 : decode cL_law 225 = .ok (.iconst 0, 1) := by decide +kernel
theorem dL_law_226 : decode cL_law 226 = .ok (.ireturn, 1) := by decide +kernel
theorem dL_law_227 : decode cL_law 227 = .ok (.aload_n 1, 1) := by decide +kernel
theorem dL_law_228 : decode cL_law 228 = .ok (.aload_n 0, 1) := by decide +kernel
theorem dL_law_229 : decode cL_law 229 = .ok (.iload_n 3, 1) := by decide +kernel
theorem dL_law_230 : decode cL_law 230 = .ok (.iconst 1, 1) := by decide +kernel
theorem dL_law_231 : decode cL_law 231 = .ok (.iadd, 1) := by decide +kernel
theorem dL_law_232 : decode cL_law 232 = .ok (.iaload, 1) := by decide +kernel
theorem dL_law_233 : decode cL_law 233 = .ok (.invokevirtual 28, 3) := by decide +kernel
theorem dL_law_236 : decode cL_law 236 = .ok (.aload_n 2, 1) := by decide +kernel
theorem dL_law_237 : decode cL_law 237 = .ok (.aload_n 0, 1) := by decide +kernel
theorem dL_law_238 : decode cL_law 238 = .ok (.iload_n 3, 1) := by decide +kernel
theorem dL_law_239 : decode cL_law 239 = .ok (.iconst 1, 1) := by decide +kernel
theorem dL_law_240 : decode cL_law 240 = .ok (.iadd, 1) := by decide +kernel
theorem dL_law_241 : decode cL_law 241 = .ok (.iaload, 1) := by decide +kernel
theorem dL_law_242 : decode cL_law 242 = .ok (.invokevirtual 32, 3) := by decide +kernel
theorem dL_law_245 : decode cL_law 245 = .ok (.if_icmp .eq 403, 3) := by decide +kernel
theorem dL_law_248 : decode cL_law 248 = .ok (.iconst 0, 1) := by decide +kernel
theorem dL_law_249 : decode cL_law 249 = .ok (.ireturn, 1) := by decide +kernel
theorem dL_law_250 : decode cL_law 250 = .ok (.aload_n 1, 1) := by decide +kernel
theorem dL_law_251 : decode cL_law 251 = .ok (.aload_n 0, 1) := by decide +kernel
theorem dL_law_252 : decode cL_law 252 = .ok (.iload_n 3, 1) := by decide +kernel
theorem dL_law_253 : decode cL_law 253 = .ok (.iconst 1, 1) := by decide +kernel
theorem dL_law_254 : decode cL_law 254 = .ok (.iadd, 1) := by decide +kernel
theorem dL_law_255 : decode cL_law 255 = .ok (.iaload, 1) := by decide +kernel
theorem dL_law_256 : decode cL_law 256 = .ok (.aload_n 0, 1) := by decide +kernel
theorem dL_law_257 : decode cL_law 257 = .ok (.iload_n 3, 1) := by decide +kernel
theorem dL_law_258 : decode cL_law 258 = .ok (.iconst 2, 1) := by decide +kernel
theorem dL_law_259 : decode cL_law 259 = .ok (.iadd, 1) := by decide +kernel
theorem dL_law_260 : decode cL_law 260 = .ok (.iaload, 1) := by decide +kernel
theorem dL_law_261 : decode cL_law 261 = .ok (.invokevirtual 33, 3) := by decide +kernel
theorem dL_law_264 : decode cL_law 264 = .ok (.aload_n 2, 1) := by decide +kernel
theorem dL_law_265 : decode cL_law 265 = .ok (.aload_n 0, 1) := by decide +kernel
theorem dL_law_266 : decode cL_law 266 = .ok (.iload_n 3, 1) := by decide +kernel
theorem dL_law_267 : decode cL_law 267 = .ok (.iconst 1, 1) := by decide +kernel
theorem dL_law_268 : decode cL_law 268 = .ok (.iadd, 1) := by decide +kernel
theorem dL_law_269 : decode cL_law 269 = .ok (.iaload, 1) := by decide +kernel
theorem dL_law_270 : decode cL_law 270 = .ok (.aload_n 0, 1) := by decide +kernel
theorem dL_law_271 : decode cL_law 271 = .ok (.iload_n 3, 1) := by decide +kernel
theorem dL_law_272 : decode cL_law 272 = .ok (.iconst 2, 1) := by decide +kernel
theorem dL_law_273 : decode cL_law 273 = .ok (.iadd, 1) := by decide +kernel
theorem dL_law_274 : decode cL_law 274 = .ok (.iaload, 1) := by decide +kernel
theorem dL_law_275 : decode cL_law 275 = .ok (.invokevirtual 36, 3) := by decide +kernel
theorem dL_law_278 : decode cL_law 278 = .ok (.if_icmp .eq 370, 3) := by decide +kernel
theorem dL_law_281 : decode cL_law 281 = .ok (.iconst 0, 1) := by decide +kernel
theorem dL_law_282 : decode cL_law 282 = .ok (.ireturn, 1) := by decide +kernel
theorem dL_law_283 : decode cL_law 283 = .ok (.aload_n 1, 1) := by decide +kernel
theorem dL_law_284 : decode cL_law 284 = .ok (.aload_n 0, 1) := by decide +kernel
theorem dL_law_285 : decode cL_law 285 = .ok (.iload_n 3, 1) := by decide +kernel
theorem dL_law_286 : decode cL_law 286 = .ok (.iconst 1, 1) := by decide +kernel
theorem dL_law_287 : decode cL_law 287 = .ok (.iadd, 1) := by decide +kernel
theorem dL_law_288 : decode cL_law 288 = .ok (.iaload, 1) := by decide +kernel
theorem dL_law_289 : decode cL_law 289 = .ok (.aload_n 0, 1) := by decide +kernel
theorem dL_law_290 : decode cL_law 290 = .ok (.iload_n 3, 1) := by decide +kernel
theorem dL_law_291 : decode cL_law 291 = .ok (.iconst 2, 1) := by decide +kernel
theorem dL_law_292 : decode cL_law 292 = .ok (.iadd, 1) := by decide +kernel
theorem dL_law_293 : decode cL_law 293 = .ok (.iaload, 1) := by decide +kernel
theorem dL_law_294 : decode cL_law 294 = .ok (.invokevirtual 37, 3) := by decide +kernel
theorem dL_law_297 : decode cL_law 297 = .ok (.aload_n 2, 1) := by decide +kernel
theorem dL_law_298 : decode cL_law 298 = .ok (.aload_n 0, 1) := by decide +kernel
theorem dL_law_299 : decode cL_law 299 = .ok (.iload_n 3, 1) := by decide +kernel
theorem dL_law_300 : decode cL_law 300 = .ok (.iconst 1, 1) := by decide +kernel
theorem dL_law_301 : decode cL_law 301 = .ok (.iadd, 1) := by decide +kernel
theorem dL_law_302 : decode cL_law 302 = .ok (.iaload, 1) := by decide +kernel
theorem dL_law_303 : decode cL_law 303 = .ok (.aload_n 0, 1) := by decide +kernel
theorem dL_law_304 : decode cL_law 304 = .ok (.iload_n 3, 1) := by decide +kernel
theorem dL_law_305 : decode cL_law 305 = .ok (.iconst 2, 1) := by decide +kernel
theorem dL_law_306 : decode cL_law 306 = .ok (.iadd, 1) := by decide +kernel
theorem dL_law_307 : decode cL_law 307 = .ok (.iaload, 1) := by decide +kernel
theorem dL_law_308 : decode cL_law 308 = .ok (.invokevirtual 40, 3) := by decide +kernel
theorem dL_law_311 : decode cL_law 311 = .ok (.if_icmp .eq 337, 3) := by decide +kernel
theorem dL_law_314 : decode cL_law 314 = .ok (.iconst 0, 1) := by decide +kernel
theorem dL_law_315 : decode cL_law 315 = .ok (.ireturn, 1) := by decide +kernel
theorem dL_law_316 : decode cL_law 316 = .ok (.aload_n 1, 1) := by decide +kernel
theorem dL_law_317 : decode cL_law 317 = .ok (.aload_n 0, 1) := by decide +kernel
theorem dL_law_318 : decode cL_law 318 = .ok (.iload_n 3, 1) := by decide +kernel
theorem dL_law_319 : decode cL_law 319 = .ok (.iconst 1, 1) := by decide +kernel
theorem dL_law_320 : decode cL_law 320 = .ok (.iadd, 1) := by decide +kernel
theorem dL_law_321 : decode cL_law 321 = .ok (.iaload, 1) := by decide +kernel
theorem dL_law_322 : decode cL_law 322 = .ok (.invokevirtual 41, 3) := by decide +kernel
theorem dL_law_325 : decode cL_law 325 = .ok (.aload_n 2, 1) := by decide +kernel
theorem dL_law_326 : decode cL_law 326 = .ok (.aload_n 0, 1) := by decide +kernel
theorem dL_law_327 : decode cL_law 327 = .ok (.iload_n 3, 1) := by decide +kernel
theorem dL_law_328 : decode cL_law 328 = .ok (.iconst 1, 1) := by decide +kernel
theorem dL_law_329 : decode cL_law 329 = .ok (.iadd, 1) := by decide +kernel
theorem dL_law_330 : decode cL_law 330 = .ok (.iaload, 1) := by decide +kernel
theorem dL_law_331 : decode cL_law 331 = .ok (.invokevirtual 44, 3) := by decide +kernel
theorem dL_law_334 : decode cL_law 334 = .ok (.if_icmp .eq 314, 3) := by decide +kernel
theorem dL_law_337 : decode cL_law 337 = .ok (.iconst 0, 1) := by decide +kernel
theorem dL_law_338 : decode cL_law 338 = .ok (.ireturn, 1) := by decide +kernel
theorem dL_law_339 : decode cL_law 339 = .ok (.aload_n 1, 1) := by decide +kernel
theorem dL_law_340 : decode cL_law 340 = .ok (.aload_n 0, 1) := by decide +kernel
theorem dL_law_341 : decode cL_law 341 = .ok (.iload_n 3, 1) := by decide +kernel
theorem dL_law_342 : decode cL_law 342 = .ok (.iconst 1, 1) := by decide +kernel
theorem dL_law_343 : decode cL_law 343 = .ok (.iadd, 1) := by decide +kernel
theorem dL_law_344 : decode cL_law 344 = .ok (.iaload, 1) := by decide +kernel
theorem dL_law_345 : decode cL_law 345 = .ok (.aload_n 0, 1) := by decide +kernel
theorem dL_law_346 : decode cL_law 346 = .ok (.iload_n 3, 1) := by decide +kernel
theorem dL_law_347 : decode cL_law 347 = .ok (.iconst 2, 1) := by decide +kernel
theorem dL_law_348 : decode cL_law 348 = .ok (.iadd, 1) := by decide +kernel
theorem dL_law_349 : decode cL_law 349 = .ok (.iaload, 1) := by decide +kernel
theorem dL_law_350 : decode cL_law 350 = .ok (.invokevirtual 45, 3) := by decide +kernel
theorem dL_law_353 : decode cL_law 353 = .ok (.aload_n 2, 1) := by decide +kernel
theorem dL_law_354 : decode cL_law 354 = .ok (.aload_n 0, 1) := by decide +kernel
theorem dL_law_355 : decode cL_law 355 = .ok (.iload_n 3, 1) := by decide +kernel
theorem dL_law_356 : decode cL_law 356 = .ok (.iconst 1, 1) := by decide +kernel
theorem dL_law_357 : decode cL_law 357 = .ok (.iadd, 1) := by decide +kernel
theorem dL_law_358 : decode cL_law 358 = .ok (.iaload, 1) := by decide +kernel
theorem dL_law_359 : decode cL_law 359 = .ok (.aload_n 0, 1) := by decide +kernel
theorem dL_law_360 : decode cL_law 360 = .ok (.iload_n 3, 1) := by decide +kernel
theorem dL_law_361 : decode cL_law 361 = .ok (.iconst 2, 1) := by decide +kernel
theorem dL_law_362 : decode cL_law 362 = .ok (.iadd, 1) := by decide +kernel
theorem dL_law_363 : decode cL_law 363 = .ok (.iaload, 1) := by decide +kernel
theorem dL_law_364 : decode cL_law 364 = .ok (.invokevirtual 48, 3) := by decide +kernel
theorem dL_law_367 : decode cL_law 367 = .ok (.if_icmp .eq 281, 3) := by decide +kernel
theorem dL_law_370 : decode cL_law 370 = .ok (.iconst 0, 1) := by decide +kernel
theorem dL_law_371 : decode cL_law 371 = .ok (.ireturn, 1) := by decide +kernel
theorem dL_law_372 : decode cL_law 372 = .ok (.aload_n 1, 1) := by decide +kernel
theorem dL_law_373 : decode cL_law 373 = .ok (.aload_n 0, 1) := by decide +kernel
theorem dL_law_374 : decode cL_law 374 = .ok (.iload_n 3, 1) := by decide +kernel
theorem dL_law_375 : decode cL_law 375 = .ok (.iconst 1, 1) := by decide +kernel
theorem dL_law_376 : decode cL_law 376 = .ok (.iadd, 1) := by decide +kernel
theorem dL_law_377 : decode cL_law 377 = .ok (.iaload, 1) := by decide +kernel
theorem dL_law_378 : decode cL_law 378 = .ok (.invokevirtual 49, 3) := by decide +kernel
theorem dL_law_381 : decode cL_law 381 = .ok (.aload_n 2, 1) := by decide +kernel
theorem dL_law_382 : decode cL_law 382 = .ok (.aload_n 0, 1) := by decide +kernel
theorem dL_law_383 : decode cL_law 383 = .ok (.iload_n 3, 1) := by decide +kernel
theorem dL_law_384 : decode cL_law 384 = .ok (.iconst 1, 1) := by decide +kernel
theorem dL_law_385 : decode cL_law 385 = .ok (.iadd, 1) := by decide +kernel
theorem dL_law_386 : decode cL_law 386 = .ok (.iaload, 1) := by decide +kernel
theorem dL_law_387 : decode cL_law 387 = .ok (.invokevirtual 52, 3) := by decide +kernel
theorem dL_law_390 : decode cL_law 390 = .ok (.if_icmp .eq 258, 3) := by decide +kernel
theorem dL_law_393 : decode cL_law 393 = .ok (.iconst 0, 1) := by decide +kernel
theorem dL_law_394 : decode cL_law 394 = .ok (.ireturn, 1) := by decide +kernel
theorem dL_law_395 : decode cL_law 395 = .ok (.aload_n 1, 1) := by decide +kernel
theorem dL_law_396 : decode cL_law 396 = .ok (.aload_n 0, 1) := by decide +kernel
theorem dL_law_397 : decode cL_law 397 = .ok (.iload_n 3, 1) := by decide +kernel
theorem dL_law_398 : decode cL_law 398 = .ok (.iconst 1, 1) := by decide +kernel
theorem dL_law_399 : decode cL_law 399 = .ok (.iadd, 1) := by decide +kernel
theorem dL_law_400 : decode cL_law 400 = .ok (.iaload, 1) := by decide +kernel
theorem dL_law_401 : decode cL_law 401 = .ok (.aload_n 0, 1) := by decide +kernel
theorem dL_law_402 : decode cL_law 402 = .ok (.iload_n 3, 1) := by decide +kernel
theorem dL_law_403 : decode cL_law 403 = .ok (.iconst 2, 1) := by decide +kernel
theorem dL_law_404 : decode cL_law 404 = .ok (.iadd, 1) := by decide +kernel
theorem dL_law_405 : decode cL_law 405 = .ok (.iaload, 1) := by decide +kernel
theorem dL_law_406 : decode cL_law 406 = .ok (.invokevirtual 53, 3) := by decide +kernel
theorem dL_law_409 : decode cL_law 409 = .ok (.aload_n 2, 1) := by decide +kernel
theorem dL_law_410 : decode cL_law 410 = .ok (.aload_n 0, 1) := by decide +kernel
theorem dL_law_411 : decode cL_law 411 = .ok (.iload_n 3, 1) := by decide +kernel
theorem dL_law_412 : decode cL_law 412 = .ok (.iconst 1, 1) := by decide +kernel
theorem dL_law_413 : decode cL_law 413 = .ok (.iadd, 1) := by decide +kernel
theorem dL_law_414 : decode cL_law 414 = .ok (.iaload, 1) := by decide +kernel
theorem dL_law_415 : decode cL_law 415 = .ok (.aload_n 0, 1) := by decide +kernel
theorem dL_law_416 : decode cL_law 416 = .ok (.iload_n 3, 1) := by decide +kernel
theorem dL_law_417 : decode cL_law 417 = .ok (.iconst 2, 1) := by decide +kernel
theorem dL_law_418 : decode cL_law 418 = .ok (.iadd, 1) := by decide +kernel
theorem dL_law_419 : decode cL_law 419 = .ok (.iaload, 1) := by decide +kernel
theorem dL_law_420 : decode cL_law 420 = .ok (.invokevirtual 56, 3) := by decide +kernel
theorem dL_law_423 : decode cL_law 423 = .ok (.if_icmp .eq 225, 3) := by decide +kernel
theorem dL_law_426 : decode cL_law 426 = .ok (.iconst 0, 1) := by decide +kernel
theorem dL_law_427 : decode cL_law 427 = .ok (.ireturn, 1) := by decide +kernel
theorem dL_law_428 : decode cL_law 428 = .ok (.aload_n 1, 1) := by decide +kernel
theorem dL_law_429 : decode cL_law 429 = .ok (.aload_n 0, 1) := by decide +kernel
theorem dL_law_430 : decode cL_law 430 = .ok (.iload_n 3, 1) := by decide +kernel
theorem dL_law_431 : decode cL_law 431 = .ok (.iconst 1, 1) := by decide +kernel
theorem dL_law_432 : decode cL_law 432 = .ok (.iadd, 1) := by decide +kernel
theorem dL_law_433 : decode cL_law 433 = .ok (.iaload, 1) := by decide +kernel
theorem dL_law_434 : decode cL_law 434 = .ok (.aload_n 0, 1) := by decide +kernel
theorem dL_law_435 : decode cL_law 435 = .ok (.iload_n 3, 1) := by decide +kernel
theorem dL_law_436 : decode cL_law 436 = .ok (.iconst 2, 1) := by decide +kernel
theorem dL_law_437 : decode cL_law 437 = .ok (.iadd, 1) := by decide +kernel
theorem dL_law_438 : decode cL_law 438 = .ok (.iaload, 1) := by decide +kernel
theorem dL_law_439 : decode cL_law 439 = .ok (.invokevirtual 57, 3) := by decide +kernel
theorem dL_law_442 : decode cL_law 442 = .ok (.aload_n 2, 1) := by decide +kernel
theorem dL_law_443 : decode cL_law 443 = .ok (.aload_n 0, 1) := by decide +kernel
theorem dL_law_444 : decode cL_law 444 = .ok (.iload_n 3, 1) := by decide +kernel
theorem dL_law_445 : decode cL_law 445 = .ok (.iconst 1, 1) := by decide +kernel
theorem dL_law_446 : decode cL_law 446 = .ok (.iadd, 1) := by decide +kernel
theorem dL_law_447 : decode cL_law 447 = .ok (.iaload, 1) := by decide +kernel
theorem dL_law_448 : decode cL_law 448 = .ok (.aload_n 0, 1) := by decide +kernel
theorem dL_law_449 : decode cL_law 449 = .ok (.iload_n 3, 1) := by decide +kernel
theorem dL_law_450 : decode cL_law 450 = .ok (.iconst 2, 1) := by decide +kernel
theorem dL_law_451 : decode cL_law 451 = .ok (.iadd, 1) := by decide +kernel
theorem dL_law_452 : decode cL_law 452 = .ok (.iaload, 1) := by decide +kernel
theorem dL_law_453 : decode cL_law 453 = .ok (.invokevirtual 60, 3) := by decide +kernel
theorem dL_law_456 : decode cL_law 456 = .ok (.if_icmp .eq 192, 3) := by decide +kernel
theorem dL_law_459 : decode cL_law 459 = .ok (.iconst 0, 1) := by decide +kernel
theorem dL_law_460 : decode cL_law 460 = .ok (.ireturn, 1) := by decide +kernel
theorem dL_law_461 : decode cL_law 461 = .ok (.aload_n 1, 1) := by decide +kernel
theorem dL_law_462 : decode cL_law 462 = .ok (.aload_n 0, 1) := by decide +kernel
theorem dL_law_463 : decode cL_law 463 = .ok (.iload_n 3, 1) := by decide +kernel
theorem dL_law_464 : decode cL_law 464 = .ok (.iconst 1, 1) := by decide +kernel
theorem dL_law_465 : decode cL_law 465 = .ok (.iadd, 1) := by decide +kernel
theorem dL_law_466 : decode cL_law 466 = .ok (.iaload, 1) := by decide +kernel
theorem dL_law_467 : decode cL_law 467 = .ok (.invokevirtual 61, 3) := by decide +kernel
theorem dL_law_470 : decode cL_law 470 = .ok (.aload_n 2, 1) := by decide +kernel
theorem dL_law_471 : decode cL_law 471 = .ok (.aload_n 0, 1) := by decide +kernel
theorem dL_law_472 : decode cL_law 472 = .ok (.iload_n 3, 1) := by decide +kernel
theorem dL_law_473 : decode cL_law 473 = .ok (.iconst 1, 1) := by decide +kernel
theorem dL_law_474 : decode cL_law 474 = .ok (.iadd, 1) := by decide +kernel
theorem dL_law_475 : decode cL_law 475 = .ok (.iaload, 1) := by decide +kernel
theorem dL_law_476 : decode cL_law 476 = .ok (.invokevirtual 64, 3) := by decide +kernel
theorem dL_law_479 : decode cL_law 479 = .ok (.if_icmp .eq 169, 3) := by decide +kernel
theorem dL_law_482 : decode cL_law 482 = .ok (.iconst 0, 1) := by decide +kernel
theorem dL_law_483 : decode cL_law 483 = .ok (.ireturn, 1) := by decide +kernel
theorem dL_law_484 : decode cL_law 484 = .ok (.aload_n 1, 1) := by decide +kernel
theorem dL_law_485 : decode cL_law 485 = .ok (.invokevirtual 65, 3) := by decide +kernel
theorem dL_law_488 : decode cL_law 488 = .ok (.aload_n 2, 1) := by decide +kernel
theorem dL_law_489 : decode cL_law 489 = .ok (.invokevirtual 68, 3) := by decide +kernel
theorem dL_law_492 : decode cL_law 492 = .ok (.if_icmp .eq 156, 3) := by decide +kernel
theorem dL_law_495 : decode cL_law 495 = .ok (.iconst 0, 1) := by decide +kernel
theorem dL_law_496 : decode cL_law 496 = .ok (.ireturn, 1) := by decide +kernel
theorem dL_law_497 : decode cL_law 497 = .ok (.aload_n 1, 1) := by decide +kernel
theorem dL_law_498 : decode cL_law 498 = .ok (.invokevirtual 69, 3) := by decide +kernel
theorem dL_law_501 : decode cL_law 501 = .ok (.aload_n 2, 1) := by decide +kernel
theorem dL_law_502 : decode cL_law 502 = .ok (.invokevirtual 72, 3) := by decide +kernel
theorem dL_law_505 : decode cL_law 505 = .ok (.if_icmp .eq 143, 3) := by decide +kernel
theorem dL_law_508 : decode cL_law 508 = .ok (.iconst 0, 1) := by decide +kernel
theorem dL_law_509 : decode cL_law 509 = .ok (.ireturn, 1) := by decide +kernel
theorem dL_law_510 : decode cL_law 510 = .ok (.aload_n 1, 1) := by decide +kernel
theorem dL_law_511 : decode cL_law 511 = .ok (.aload_n 0, 1) := by decide +kernel
theorem dL_law_512 : decode cL_law 512 = .ok (.iload_n 3, 1) := by decide +kernel
theorem dL_law_513 : decode cL_law 513 = .ok (.iconst 1, 1) := by decide +kernel
theorem dL_law_514 : decode cL_law 514 = .ok (.iadd, 1) := by decide +kernel
theorem dL_law_515 : decode cL_law 515 = .ok (.iaload, 1) := by decide +kernel
theorem dL_law_516 : decode cL_law 516 = .ok (.i2l, 1) := by decide +kernel
theorem dL_law_517 : decode cL_law 517 = .ok (.bipush 32, 2) := by decide +kernel
theorem dL_law_519 : decode cL_law 519 = .ok (.lshl, 1) := by decide +kernel
theorem dL_law_520 : decode cL_law 520 = .ok (.aload_n 0, 1) := by decide +kernel
theorem dL_law_521 : decode cL_law 521 = .ok (.iload_n 3, 1) := by decide +kernel
theorem dL_law_522 : decode cL_law 522 = .ok (.iconst 2, 1) := by decide +kernel
theorem dL_law_523 : decode cL_law 523 = .ok (.iadd, 1) := by decide +kernel
theorem dL_law_524 : decode cL_law 524 = .ok (.iaload, 1) := by decide +kernel
theorem dL_law_525 : decode cL_law 525 = .ok (.i2l, 1) := by decide +kernel
theorem dL_law_526 : decode cL_law 526 = .ok (.ldc2_w 73, 3) := by decide +kernel
theorem dL_law_529 : decode cL_law 529 = .ok (.land, 1) := by decide +kernel
theorem dL_law_530 : decode cL_law 530 = .ok (.lor, 1) := by decide +kernel
theorem dL_law_531 : decode cL_law 531 = .ok (.invokevirtual 75, 3) := by decide +kernel
theorem dL_law_534 : decode cL_law 534 = .ok (.aload_n 2, 1) := by decide +kernel
theorem dL_law_535 : decode cL_law 535 = .ok (.aload_n 0, 1) := by decide +kernel
theorem dL_law_536 : decode cL_law 536 = .ok (.iload_n 3, 1) := by decide +kernel
theorem dL_law_537 : decode cL_law 537 = .ok (.iconst 1, 1) := by decide +kernel
theorem dL_law_538 : decode cL_law 538 = .ok (.iadd, 1) := by decide +kernel
theorem dL_law_539 : decode cL_law 539 = .ok (.iaload, 1) := by decide +kernel
theorem dL_law_540 : decode cL_law 540 = .ok (.i2l, 1) := by decide +kernel
theorem dL_law_541 : decode cL_law 541 = .ok (.bipush 32, 2) := by decide +kernel
theorem dL_law_543 : decode cL_law 543 = .ok (.lshl, 1) := by decide +kernel
theorem dL_law_544 : decode cL_law 544 = .ok (.aload_n 0, 1) := by decide +kernel
theorem dL_law_545 : decode cL_law 545 = .ok (.iload_n 3, 1) := by decide +kernel
theorem dL_law_546 : decode cL_law 546 = .ok (.iconst 2, 1) := by decide +kernel
theorem dL_law_547 : decode cL_law 547 = .ok (.iadd, 1) := by decide +kernel
theorem dL_law_548 : decode cL_law 548 = .ok (.iaload, 1) := by decide +kernel
theorem dL_law_549 : decode cL_law 549 = .ok (.i2l, 1) := by decide +kernel
theorem dL_law_550 : decode cL_law 550 = .ok (.ldc2_w 73, 3) := by decide +kernel
theorem dL_law_553 : decode cL_law 553 = .ok (.land, 1) := by decide +kernel
theorem dL_law_554 : decode cL_law 554 = .ok (.lor, 1) := by decide +kernel
theorem dL_law_555 : decode cL_law 555 = .ok (.invokevirtual 79, 3) := by decide +kernel
theorem dL_law_558 : decode cL_law 558 = .ok (.if_icmp .eq 90, 3) := by decide +kernel
theorem dL_law_561 : decode cL_law 561 = .ok (.iconst 0, 1) := by decide +kernel
theorem dL_law_562 : decode cL_law 562 = .ok (.ireturn, 1) := by decide +kernel
theorem dL_law_563 : decode cL_law 563 = .ok (.aload_n 1, 1) := by decide +kernel
theorem dL_law_564 : decode cL_law 564 = .ok (.invokevirtual 80, 3) := by decide +kernel
theorem dL_law_567 : decode cL_law 567 = .ok (.aload_n 2, 1) := by decide +kernel
theorem dL_law_568 : decode cL_law 568 = .ok (.invokevirtual 83, 3) := by decide +kernel
theorem dL_law_571 : decode cL_law 571 = .ok (.if_icmp .eq 77, 3) := by decide +kernel
theorem dL_law_574 : decode cL_law 574 = .ok (.iconst 0, 1) := by decide +kernel
theorem dL_law_575 : decode cL_law 575 = .ok (.ireturn, 1) := by decide +kernel
theorem dL_law_576 : decode cL_law 576 = .ok (.aload_n 1, 1) := by decide +kernel
theorem dL_law_577 : decode cL_law 577 = .ok (.invokevirtual 84, 3) := by decide +kernel
theorem dL_law_580 : decode cL_law 580 = .ok (.aload_n 2, 1) := by decide +kernel
theorem dL_law_581 : decode cL_law 581 = .ok (.invokevirtual 87, 3) := by decide +kernel
theorem dL_law_584 : decode cL_law 584 = .ok (.if_icmp .eq 64, 3) := by decide +kernel
theorem dL_law_587 : decode cL_law 587 = .ok (.iconst 0, 1) := by decide +kernel
theorem dL_law_588 : decode cL_law 588 = .ok (.ireturn, 1) := by decide +kernel
theorem dL_law_589 : decode cL_law 589 = .ok (.aload_n 1, 1) := by decide +kernel
theorem dL_law_590 : decode cL_law 590 = .ok (.invokevirtual 88, 3) := by decide +kernel
theorem dL_law_593 : decode cL_law 593 = .ok (.aload_n 2, 1) := by decide +kernel
theorem dL_law_594 : decode cL_law 594 = .ok (.invokevirtual 91, 3) := by decide +kernel
theorem dL_law_597 : decode cL_law 597 = .ok (.if_icmp .eq 51, 3) := by decide +kernel
theorem dL_law_600 : decode cL_law 600 = .ok (.iconst 0, 1) := by decide +kernel
theorem dL_law_601 : decode cL_law 601 = .ok (.ireturn, 1) := by decide +kernel
theorem dL_law_602 : decode cL_law 602 = .ok (.aload_n 1, 1) := by decide +kernel
theorem dL_law_603 : decode cL_law 603 = .ok (.aload_n 0, 1) := by decide +kernel
theorem dL_law_604 : decode cL_law 604 = .ok (.iload_n 3, 1) := by decide +kernel
theorem dL_law_605 : decode cL_law 605 = .ok (.iconst 1, 1) := by decide +kernel
theorem dL_law_606 : decode cL_law 606 = .ok (.iadd, 1) := by decide +kernel
theorem dL_law_607 : decode cL_law 607 = .ok (.iaload, 1) := by decide +kernel
theorem dL_law_608 : decode cL_law 608 = .ok (.invokevirtual 92, 3) := by decide +kernel
theorem dL_law_611 : decode cL_law 611 = .ok (.aload_n 2, 1) := by decide +kernel
theorem dL_law_612 : decode cL_law 612 = .ok (.aload_n 0, 1) := by decide +kernel
theorem dL_law_613 : decode cL_law 613 = .ok (.iload_n 3, 1) := by decide +kernel
theorem dL_law_614 : decode cL_law 614 = .ok (.iconst 1, 1) := by decide +kernel
theorem dL_law_615 : decode cL_law 615 = .ok (.iadd, 1) := by decide +kernel
theorem dL_law_616 : decode cL_law 616 = .ok (.iaload, 1) := by decide +kernel
theorem dL_law_617 : decode cL_law 617 = .ok (.invokevirtual 95, 3) := by decide +kernel
theorem dL_law_620 : decode cL_law 620 = .ok (.if_icmp .eq 28, 3) := by decide +kernel
theorem dL_law_623 : decode cL_law 623 = .ok (.iconst 0, 1) := by decide +kernel
theorem dL_law_624 : decode cL_law 624 = .ok (.ireturn, 1) := by decide +kernel
theorem dL_law_625 : decode cL_law 625 = .ok (.aload_n 1, 1) := by decide +kernel
theorem dL_law_626 : decode cL_law 626 = .ok (.aload_n 0, 1) := by decide +kernel
theorem dL_law_627 : decode cL_law 627 = .ok (.iload_n 3, 1) := by decide +kernel
theorem dL_law_628 : decode cL_law 628 = .ok (.iconst 1, 1) := by decide +kernel
theorem dL_law_629 : decode cL_law 629 = .ok (.iadd, 1) := by decide +kernel
theorem dL_law_630 : decode cL_law 630 = .ok (.iaload, 1) := by decide +kernel
theorem dL_law_631 : decode cL_law 631 = .ok (.invokevirtual 96, 3) := by decide +kernel
theorem dL_law_634 : decode cL_law 634 = .ok (.aload_n 2, 1) := by decide +kernel
theorem dL_law_635 : decode cL_law 635 = .ok (.aload_n 0, 1) := by decide +kernel
theorem dL_law_636 : decode cL_law 636 = .ok (.iload_n 3, 1) := by decide +kernel
theorem dL_law_637 : decode cL_law 637 = .ok (.iconst 1, 1) := by decide +kernel
theorem dL_law_638 : decode cL_law 638 = .ok (.iadd, 1) := by decide +kernel
theorem dL_law_639 : decode cL_law 639 = .ok (.iaload, 1) := by decide +kernel
theorem dL_law_640 : decode cL_law 640 = .ok (.invokevirtual 99, 3) := by decide +kernel
theorem dL_law_643 : decode cL_law 643 = .ok (.if_icmp .eq 5, 3) := by decide +kernel
theorem dL_law_646 : decode cL_law 646 = .ok (.iconst 0, 1) := by decide +kernel
theorem dL_law_647 : decode cL_law 647 = .ok (.ireturn, 1) := by decide +kernel
theorem dL_law_648 : decode cL_law 648 = .ok (.iinc 3 5, 3) := by decide +kernel
theorem dL_law_651 : decode cL_law 651 = .ok (.goto (-633), 3) := by decide +kernel
theorem dL_law_654 : decode cL_law 654 = .ok (.iconst 1, 1) := by decide +kernel
theorem dL_law_655 : decode cL_law 655 = .ok (.ireturn, 1) := by decide +kernel
end
section
/-! ZL: worlds in chunks. A world is a list of chunks (lists of cells); Z K n k cs lv pc st: from the frame at pc, with locals lv, operand stack st and the world cs, the machine comes to K's end. -/
abbrev zG : Type := va_G × (Nat → ClassId)
abbrev zK : Type := (Program × Launch × Env × Room × State × MethodId × Array Value × List Frame × Method × Code) × (State → Prop) × zG × (Nat → Prop) × Nat
abbrev zK.p (K : zK) : Program := K.1.1
abbrev zK.l (K : zK) : Launch := K.1.2.1
abbrev zK.e (K : zK) : Env := K.1.2.2.1
abbrev zK.R (K : zK) : Room := K.1.2.2.2.1
abbrev zK.s (K : zK) : State := K.1.2.2.2.2.1
abbrev zK.m (K : zK) : MethodId := K.1.2.2.2.2.2.1
abbrev zK.args (K : zK) : Array Value := K.1.2.2.2.2.2.2.1
abbrev zK.below (K : zK) : List Frame := K.1.2.2.2.2.2.2.2.1
abbrev zK.meth (K : zK) : Method := K.1.2.2.2.2.2.2.2.2.1
abbrev zK.c (K : zK) : Code := K.1.2.2.2.2.2.2.2.2.2
abbrev zK.Q (K : zK) : State → Prop := K.2.1
abbrev zK.g (K : zK) : zG := K.2.2.1
abbrev zK.A (K : zK) : Nat → Prop := K.2.2.2.1
abbrev zK.nL (K : zK) : Nat := K.2.2.2.2
abbrev zT (g : zG) : List (ClassId × FieldType) := [(g.2 0, .int), (g.2 1, .array .int), (g.2 2, .object "PrintRacks$Board"), (g.2 3, .boolean)]
def Z (K : zK) (n k : Nat) (cs : List va_W) (lv : List (Nat × Value)) (pc : Nat) (st : List Value) : Prop :=
  ∀ (H : Heap) (locs : List Loc) (ls : Array Slot), va_P K.g.1 vwCl cs.flatten H → va_D K.A cs.flatten → va_S K.A K.s.heap H locs → lv_has ls K.nL lv →
    W K.p K.l K.e K.R K.s K.m K.args K.below K.meth K.c H locs n k K.Q (F0 K.m pc ls st)
/-- the words on nest mates, which no method's own list bears -/
def zN (U : State) : Prop := va_Nw (.methodLinkNest RX0 49 yX4_racksFor RX4) U ∧ va_Nw (.methodLinkNest RX2 39 yX4_within RX4) U ∧ va_Nw (.methodLinkNest RX3 95 yX4_racksFor RX4) U ∧ va_Nw (.methodLinkNest RX4 21 yX3_init RX4) U ∧ va_Nw (.methodLinkNest RX4 28 yX2_init RX4) U ∧ va_Nw (.fieldLinkNest RX0 15 RX4 "FIRST_SETTING" "[I" RX4) U
theorem zN.warm {s U : State} (hW : s.WarmedH U.vm) (h : zN s) : zN U := ⟨h.1.warmM hW, h.2.1.warmM hW, h.2.2.1.warmM hW, h.2.2.2.1.warmM hW, h.2.2.2.2.1.warmM hW, h.2.2.2.2.2.warmF hW⟩
theorem zN.same {u U : State} (e : u.vm = U.vm) (h : zN u) : zN U := ⟨h.1.same rfl e, h.2.1.same rfl e, h.2.2.1.same rfl e, h.2.2.2.1.same rfl e, h.2.2.2.2.1.same rfl e, h.2.2.2.2.2.same rfl e⟩
def zKp (g : zG) (U : State) : Prop := va_K g.1 vwCl (zT g) U ∧ zN U
theorem zKp.warm {g : zG} {s U : State} (hW : s.WarmedH U.vm) (h : zKp g s) : zKp g U := ⟨va_K.moved hW.alike h.1, h.2.warm hW⟩
theorem zKp.same {g : zG} {u U : State} (e : u.vm = U.vm) (h : zKp g u) : zKp g U := ⟨va_K.moved (by rw [e]; exact Vm.Alike.refl U.vm) h.1, h.2.same e⟩
def Cx (K : zK) (R0 : Room) (own : String) (cc : ByteArray) (Ts : List Cond) : Prop :=
  CallFix K.p K.m K.c cc K.nL K.s K.args Ts own ∧ zKp K.g K.s ∧ K.R = R0
/-- the flat place of a chunk's first cell -/
def zo : List va_W → Nat → Nat
  | [], _ => 0
  | _ :: _, 0 => 0
  | c :: cs, i + 1 => c.length + zo cs i
theorem zfl_get : ∀ {cs : List va_W} {i k : Nat} {c : va_W} {x : Nat × va_E}, cs[i]? = some c → c[k]? = some x → cs.flatten[zo cs i + k]? = some x
  | [], _, _, _, _, h, _ => by simp at h
  | d :: cs, 0, k, c, x, h, hk => by
    rw [List.getElem?_cons_zero] at h
    cases h
    show (d ++ cs.flatten)[0 + k]? = _
    rw [Nat.zero_add, List.getElem?_append_left (List.getElem?_eq_some_iff.mp hk).1]
    exact hk
  | d :: cs, i + 1, k, c, x, h, hk => by
    rw [List.getElem?_cons_succ] at h
    show (d ++ cs.flatten)[d.length + zo cs i + k]? = _
    rw [Nat.add_assoc, List.getElem?_append_right (Nat.le_add_right _ _), Nat.add_sub_cancel_left]
    exact zfl_get h hk
theorem zfl_inv : ∀ {cs : List va_W} {q : Nat} {x : Nat × va_E}, cs.flatten[q]? = some x → ∃ (i k : Nat) (c : va_W), cs[i]? = some c ∧ c[k]? = some x ∧ q = zo cs i + k
  | [], _, _, h => by simp at h
  | d :: cs, q, x, h => by
    have h : (d ++ cs.flatten)[q]? = some x := h
    by_cases hl : q < d.length
    · rw [List.getElem?_append_left hl] at h
      exact ⟨0, q, d, rfl, h, (Nat.zero_add q).symm⟩
    · rw [List.getElem?_append_right (by omega)] at h
      obtain ⟨i, k, c, h1, h2, h3⟩ := zfl_inv h
      exact ⟨i + 1, k, c, by rw [List.getElem?_cons_succ]; exact h1, h2, by show q = d.length + zo cs i + k; omega⟩
theorem zfl_un : ∀ {cs : List va_W} {i j k l : Nat} {c d : va_W}, cs[i]? = some c → cs[j]? = some d → k < c.length → l < d.length → zo cs i + k = zo cs j + l → i = j ∧ k = l
  | [], _, _, _, _, _, _, h, _, _, _, _ => by simp at h
  | e :: cs, 0, 0, k, l, c, d, _, _, _, _, he => by
    have he : 0 + k = 0 + l := he
    exact ⟨rfl, by omega⟩
  | e :: cs, 0, j + 1, k, l, c, d, h, _, hk, _, he => by
    rw [List.getElem?_cons_zero] at h
    cases h
    have he : 0 + k = e.length + zo cs j + l := he
    omega
  | e :: cs, i + 1, 0, k, l, c, d, _, h, _, hl, he => by
    rw [List.getElem?_cons_zero] at h
    cases h
    have he : e.length + zo cs i + k = 0 + l := he
    omega
  | e :: cs, i + 1, j + 1, k, l, c, d, h1, h2, hk, hl, he => by
    rw [List.getElem?_cons_succ] at h1 h2
    have he : e.length + zo cs i + k = e.length + zo cs j + l := he
    obtain ⟨a, b⟩ := zfl_un h1 h2 hk hl (by omega)
    exact ⟨by rw [a], b⟩
theorem zfl_set : ∀ {cs : List va_W} {i k : Nat} {c : va_W} (x : Nat × va_E), cs[i]? = some c → k < c.length → (cs.set i (c.set k x)).flatten = cs.flatten.set (zo cs i + k) x
  | [], _, _, _, _, h, _ => by simp at h
  | d :: cs, 0, k, c, x, h, hk => by
    rw [List.getElem?_cons_zero] at h
    cases h
    show (d.set k x ++ cs.flatten) = (d ++ cs.flatten).set (0 + k) x
    rw [Nat.zero_add, List.set_append, if_pos hk]
  | d :: cs, i + 1, k, c, x, h, hk => by
    rw [List.getElem?_cons_succ] at h
    show (d ++ (cs.set i (c.set k x)).flatten) = (d ++ cs.flatten).set (d.length + zo cs i + k) x
    rw [List.set_append, if_neg (by omega), zfl_set x h hk]
    congr 2
    omega
theorem zat {α : Type} {cs cs' : List α} {is : List Nat} (hs : is.map (fun i => cs[i]?) = cs'.map some) {k : Nat} {c : α} (h : cs'[k]? = some c) : ∃ i : Nat, is[k]? = some i ∧ cs[i]? = some c := by
  have h1 : (is.map (fun i => cs[i]?))[k]? = some (some c) := by rw [hs, List.getElem?_map, h]; rfl
  rw [List.getElem?_map] at h1
  cases hi : is[k]? with
  | none => rw [hi] at h1; cases h1
  | some i => rw [hi] at h1; exact ⟨i, rfl, Option.some.inj h1⟩
theorem zlen {c : va_W} {k : Nat} {x : Nat × va_E} (h : c[k]? = some x) : k < c.length := (List.getElem?_eq_some_iff.mp h).1
theorem zsubP {D : va_G} {cl : List vw_C} {H : Heap} {cs cs' : List va_W} (h : va_P D cl cs.flatten H) (is : List Nat) (hs : is.map (fun i => cs[i]?) = cs'.map some) : va_P D cl cs'.flatten H := by
  intro q x hq
  obtain ⟨i, k, c, h1, h2, -⟩ := zfl_inv hq
  obtain ⟨i0, -, h3⟩ := zat hs h1
  exact h _ x (zfl_get h3 h2)
theorem zsubD {A : Nat → Prop} {cs cs' : List va_W} (h : va_D A cs.flatten) (is : List Nat) (hn : va_nd is = true) (hs : is.map (fun i => cs[i]?) = cs'.map some) : va_D A cs'.flatten := by
  refine ⟨fun a b x y ha hb hxy => ?_, fun q x hq => ?_⟩
  · obtain ⟨i, k, c, h1, h2, h3⟩ := zfl_inv ha
    obtain ⟨j, l, d, g1, g2, g3⟩ := zfl_inv hb
    obtain ⟨i0, e1, e2⟩ := zat hs h1
    obtain ⟨j0, f1, f2⟩ := zat hs g1
    obtain ⟨u1, u2⟩ := zfl_un e2 f2 (zlen h2) (zlen g2) (h.1 _ _ x y (zfl_get e2 h2) (zfl_get f2 g2) hxy)
    subst u1
    have hij := va_nd_inj is hn i j i0 e1 f1
    subst hij
    rw [h3, g3, u2]
  · obtain ⟨i, k, c, h1, h2, -⟩ := zfl_inv hq
    obtain ⟨i0, -, h3⟩ := zat hs h1
    exact h.2 _ x (zfl_get h3 h2)
/-- the addresses of a world -/
def zA (cs : List va_W) : Nat → Prop := fun q => ∃ (k : Nat) (e : va_E), cs.flatten[k]? = some (q, e)
theorem zA_in {cs : List va_W} {k : Nat} {x : Nat × va_E} (h : cs.flatten[k]? = some x) : zA cs x.1 := ⟨k, x.2, h⟩
theorem zA_sub {A0 : Nat → Prop} {cs wc : List va_W} (hD : va_D A0 cs.flatten) (isC : List Nat) (hC : isC.map (fun i => cs[i]?) = wc.map some) : ∀ q, zA wc q → A0 q := by
  intro q ⟨k, e, h⟩
  obtain ⟨i, j, c, h1, h2, -⟩ := zfl_inv h
  obtain ⟨i0, -, h3⟩ := zat hC h1
  exact hD.2 _ (q, e) (zfl_get h3 h2)
theorem zjoin {A0 : Nat → Prop} {D : va_G} {cl : List vw_C} {cs wc nw cs2 : List va_W} {H H1 : Heap} (hP : va_P D cl cs.flatten H) (hD : va_D A0 cs.flatten) (isC : List Nat) (hC : isC.map (fun i => cs[i]?) = wc.map some)
    (src : List Nat) (hs : src.map (fun i => (cs ++ nw)[i]?) = cs2.map some) (hn : va_nd src = true) (hdis : ∀ x ∈ src, x ∉ isC) (hlc : ∀ x ∈ isC, x < cs.length)
    (hk : ∀ q : Nat, q < H.size → ¬ zA wc q → H1[q]? = H[q]?) (hP1 : va_P D cl nw.flatten H1) (hD1 : va_D (zA wc) nw.flatten) : va_P D cl cs2.flatten H1 ∧ va_D A0 cs2.flatten := by
  have split : ∀ {i k : Nat} {c : va_W} {x : Nat × va_E}, cs2[i]? = some c → c[k]? = some x → (∃ j : Nat, src[i]? = some j ∧ cs[j]? = some c ∧ j ∉ isC) ∨ (∃ j : Nat, src[i]? = some (cs.length + j) ∧ nw[j]? = some c) := by
    intro i k c x h1 _
    obtain ⟨j, e1, e2⟩ := zat hs h1
    by_cases hl : j < cs.length
    · rw [List.getElem?_append_left hl] at e2
      exact Or.inl ⟨j, e1, e2, hdis j (List.mem_of_getElem? e1)⟩
    · rw [List.getElem?_append_right (by omega)] at e2
      exact Or.inr ⟨j - cs.length, by rw [e1]; congr 1; omega, e2⟩
  have apart : ∀ {j k : Nat} {c : va_W} {x : Nat × va_E}, cs[j]? = some c → j ∉ isC → c[k]? = some x → ¬ zA wc x.1 := by
    intro j k c x h1 hj h2 ⟨l, e, h3⟩
    obtain ⟨t, u, d, g1, g2, -⟩ := zfl_inv h3
    obtain ⟨i0, f1, f2⟩ := zat hC g1
    obtain ⟨u1, -⟩ := zfl_un h1 f2 (zlen h2) (zlen g2) (hD.1 _ _ x (x.1, e) (zfl_get h1 h2) (zfl_get f2 g2) rfl)
    subst u1
    exact hj (List.mem_of_getElem? f1)
  refine ⟨fun q x hq => ?_, fun a b x y ha hb hxy => ?_, fun q x hq => ?_⟩
  · obtain ⟨i, k, c, h1, h2, -⟩ := zfl_inv hq
    rcases split h1 h2 with ⟨j, -, e2, e3⟩ | ⟨j, -, e2⟩
    · have h5 := hP _ x (zfl_get e2 h2)
      exact h5.kept (hk _ h5.lt (apart e2 e3 h2))
    · exact hP1 _ x (zfl_get e2 h2)
  · obtain ⟨i, k, c, h1, h2, h3⟩ := zfl_inv ha
    obtain ⟨j, l, d, g1, g2, g3⟩ := zfl_inv hb
    rcases split h1 h2 with ⟨i0, e1, e2, e3⟩ | ⟨i0, e1, e2⟩ <;> rcases split g1 g2 with ⟨j0, f1, f2, f3⟩ | ⟨j0, f1, f2⟩
    · obtain ⟨u1, u2⟩ := zfl_un e2 f2 (zlen h2) (zlen g2) (hD.1 _ _ x y (zfl_get e2 h2) (zfl_get f2 g2) hxy)
      subst u1
      have hij := va_nd_inj src hn i j i0 e1 f1
      subst hij
      rw [h3, g3, u2]
    · exact absurd (by rw [hxy]; exact hD1.2 _ y (zfl_get f2 g2)) (apart e2 e3 h2)
    · exact absurd (by rw [← hxy]; exact hD1.2 _ x (zfl_get e2 h2)) (apart f2 f3 g2)
    · obtain ⟨u1, u2⟩ := zfl_un e2 f2 (zlen h2) (zlen g2) (hD1.1 _ _ x y (zfl_get e2 h2) (zfl_get f2 g2) hxy)
      subst u1
      have hij := va_nd_inj src hn i j _ e1 f1
      subst hij
      rw [h3, g3, u2]
  · obtain ⟨i, k, c, h1, h2, -⟩ := zfl_inv hq
    rcases split h1 h2 with ⟨j, -, e2, -⟩ | ⟨j, -, e2⟩
    · exact hD.2 _ x (zfl_get e2 h2)
    · exact zA_sub hD isC hC _ (hD1.2 _ x (zfl_get e2 h2))
end
section
/-! ZR: rows over Z, an instruction a row; numbers that are never negative as nI of a Nat. -/
section ZR
variable {K : zK} {R0 : Room} {own : String} {cc : ByteArray} {Ts : List Cond} {n k : Nat} {cs : List va_W} {lv : List (Nat × Value)} {pc : Nat} {st : List Value}
theorem Cx.x (C : Cx K R0 own cc Ts) : K.p.tables.exec = Jvm.exec := C.1.1
theorem Cx.b (C : Cx K R0 own cc Ts) : K.c.code = cc := C.1.2.1
theorem Cx.ml (C : Cx K R0 own cc Ts) : K.c.maxLocals = K.nL := C.1.2.2.1
theorem Cx.ow (C : Cx K R0 own cc Ts) : K.s.vm.findClass own = some K.m.cls := C.1.2.2.2.1
theorem Cx.ts (C : Cx K R0 own cc Ts) : ∀ w ∈ Ts, w.before K.args K.s = true := C.1.2.2.2.2
theorem Cx.kp (C : Cx K R0 own cc Ts) : zKp K.g K.s := C.2.1
theorem Cx.ka (C : Cx K R0 own cc Ts) : va_K K.g.1 vwCl (zT K.g) K.s := C.2.1.1
theorem Cx.r (C : Cx K R0 own cc Ts) : K.R = R0 := C.2.2
theorem z_iconst (C : Cx K R0 own cc Ts) {z : Int} {v : Int32} (hv : Int32.ofInt z = v) (hd : decode cc pc = .ok (.iconst z, 1)) (q : Nat) (hq : pc + 1 = q) (kk : Z K n k cs lv q (.int v :: st)) : Z K n k cs lv pc (st) := by
  subst hq
  exact fun H locs ls hP hD hS hl => lv_iconst C.x C.b hd hv (kk H locs ls hP hD hS hl)
theorem z_bipush (C : Cx K R0 own cc Ts) {z : Int} {v : Int32} (hv : (Int8.ofInt z).toInt32 = v) (hd : decode cc pc = .ok (.bipush z, 2)) (q : Nat) (hq : pc + 2 = q) (kk : Z K n k cs lv q (.int v :: st)) : Z K n k cs lv pc (st) := by
  subst hq
  exact fun H locs ls hP hD hS hl => lv_bipush C.x C.b hd hv (kk H locs ls hP hD hS hl)
theorem z_sipush (C : Cx K R0 own cc Ts) {z : Int} {v : Int32} (hv : (Int16.ofInt z).toInt32 = v) (hd : decode cc pc = .ok (.sipush z, 3)) (q : Nat) (hq : pc + 3 = q) (kk : Z K n k cs lv q (.int v :: st)) : Z K n k cs lv pc (st) := by
  subst hq
  exact fun H locs ls hP hD hS hl => lv_sipush C.x C.b hd hv (kk H locs ls hP hD hS hl)
theorem z_lconst (C : Cx K R0 own cc Ts) {z : Fin 2} {v : Int64} (hv : Int64.ofNat (z : Nat) = v) (hd : decode cc pc = .ok (.lconst z, 1)) (q : Nat) (hq : pc + 1 = q) (kk : Z K n k cs lv q (.long v :: st)) : Z K n k cs lv pc (st) := by
  subst hq
  exact fun H locs ls hP hD hS hl => lv_lconst C.x C.b hd hv (kk H locs ls hP hD hS hl)
theorem z_ldc (C : Cx K R0 own cc Ts) {index : Nat} {v : Int32} (hw : Cond.constant own index v ∈ Ts) (hd : decode cc pc = .ok (.ldc index, 2)) (q : Nat) (hq : pc + 2 = q) (kk : Z K n k cs lv q (.int v :: st)) : Z K n k cs lv pc (st) := by
  subst hq
  exact fun H locs ls hP hD hS hl => lv_ldc C.x C.b C.ow (C.ts _ hw) hd (kk H locs ls hP hD hS hl)
theorem z_ldc2 (C : Cx K R0 own cc Ts) {index : Nat} {v : Int64} (hw : Cond.constantLong own index v ∈ Ts) (hd : decode cc pc = .ok (.ldc2_w index, 3)) (q : Nat) (hq : pc + 3 = q) (kk : Z K n k cs lv q (.long v :: st)) : Z K n k cs lv pc (st) := by
  subst hq
  exact fun H locs ls hP hD hS hl => lv_ldc2 C.x C.b C.ow (C.ts _ hw) hd (kk H locs ls hP hD hS hl)
theorem z_iload_n (C : Cx K R0 own cc Ts) {z : Fin 4} {i : Nat} {x : Int32} (j : Nat) (hl0 : lv[j]? = some (i, .int x)) (hi : (z : Nat) = i) (hd : decode cc pc = .ok (.iload_n z, 1)) (q : Nat) (hq : pc + 1 = q) (kk : Z K n k cs lv q (.int x :: st)) : Z K n k cs lv pc (st) := by
  subst hq
  exact fun H locs ls hP hD hS hl => lv_iload_n C.x C.b hd hi (lv_at hl j hl0) (kk H locs ls hP hD hS hl)
theorem z_iload (C : Cx K R0 own cc Ts) {i : Nat} {x : Int32} (j : Nat) (hl0 : lv[j]? = some (i, .int x)) (hd : decode cc pc = .ok (.iload i, 2)) (q : Nat) (hq : pc + 2 = q) (kk : Z K n k cs lv q (.int x :: st)) : Z K n k cs lv pc (st) := by
  subst hq
  exact fun H locs ls hP hD hS hl => lv_iload C.x C.b hd (lv_at hl j hl0) (kk H locs ls hP hD hS hl)
theorem z_aload_n (C : Cx K R0 own cc Ts) {z : Fin 4} {i : Nat} {x : Nat} (j : Nat) (hl0 : lv[j]? = some (i, .ref x)) (hi : (z : Nat) = i) (hd : decode cc pc = .ok (.aload_n z, 1)) (q : Nat) (hq : pc + 1 = q) (kk : Z K n k cs lv q (.ref x :: st)) : Z K n k cs lv pc (st) := by
  subst hq
  exact fun H locs ls hP hD hS hl => lv_aload_n C.x C.b hd hi (lv_at hl j hl0) (kk H locs ls hP hD hS hl)
theorem z_aload (C : Cx K R0 own cc Ts) {i : Nat} {x : Nat} (j : Nat) (hl0 : lv[j]? = some (i, .ref x)) (hd : decode cc pc = .ok (.aload i, 2)) (q : Nat) (hq : pc + 2 = q) (kk : Z K n k cs lv q (.ref x :: st)) : Z K n k cs lv pc (st) := by
  subst hq
  exact fun H locs ls hP hD hS hl => lv_aload C.x C.b hd (lv_at hl j hl0) (kk H locs ls hP hD hS hl)
theorem z_lload_n (C : Cx K R0 own cc Ts) {z : Fin 4} {i : Nat} {x : Int64} (j : Nat) (hl0 : lv[j]? = some (i, .long x)) (hi : (z : Nat) = i) (hd : decode cc pc = .ok (.lload_n z, 1)) (q : Nat) (hq : pc + 1 = q) (kk : Z K n k cs lv q (.long x :: st)) : Z K n k cs lv pc (st) := by
  subst hq
  exact fun H locs ls hP hD hS hl => lv_lload_n C.x C.b hd hi (lv_at hl j hl0) (kk H locs ls hP hD hS hl)
theorem z_lload (C : Cx K R0 own cc Ts) {i : Nat} {x : Int64} (j : Nat) (hl0 : lv[j]? = some (i, .long x)) (hd : decode cc pc = .ok (.lload i, 2)) (q : Nat) (hq : pc + 2 = q) (kk : Z K n k cs lv q (.long x :: st)) : Z K n k cs lv pc (st) := by
  subst hq
  exact fun H locs ls hP hD hS hl => lv_lload C.x C.b hd (lv_at hl j hl0) (kk H locs ls hP hD hS hl)
theorem z_istore_n (C : Cx K R0 own cc Ts) {z : Fin 4} {i N : Nat} {x : Int32} (hN : K.nL = N) (ks : List Nat) (lv2 : List (Nat × Value)) (hl2 : lv_pick ((i, Value.int x) :: lv.filter (fun q => !(q.1 == i) && !(q.1 + 1 == i && q.2.category == 2))) ks = lv2) (hi : (z : Nat) = i) (hn : i < N) (hd : decode cc pc = .ok (.istore_n z, 1)) (q : Nat) (hq : pc + 1 = q) (kk : Z K n k cs lv2 q st) : Z K n k cs lv pc (.int x :: st) := by
  subst hq
  subst hN
  exact fun H locs ls hP hD hS hl => lv_istore_n C.x C.b hd hi hl hn rfl (fun ls2 hl3 => kk H locs ls2 hP hD hS (lv_sub hl3 ks hl2))
theorem z_istore (C : Cx K R0 own cc Ts) {i N : Nat} {x : Int32} (hN : K.nL = N) (ks : List Nat) (lv2 : List (Nat × Value)) (hl2 : lv_pick ((i, Value.int x) :: lv.filter (fun q => !(q.1 == i) && !(q.1 + 1 == i && q.2.category == 2))) ks = lv2) (hn : i < N) (hd : decode cc pc = .ok (.istore i, 2)) (q : Nat) (hq : pc + 2 = q) (kk : Z K n k cs lv2 q st) : Z K n k cs lv pc (.int x :: st) := by
  subst hq
  subst hN
  exact fun H locs ls hP hD hS hl => lv_istore C.x C.b hd hl hn rfl (fun ls2 hl3 => kk H locs ls2 hP hD hS (lv_sub hl3 ks hl2))
theorem z_astore_n (C : Cx K R0 own cc Ts) {z : Fin 4} {i N : Nat} {x : Nat} (hN : K.nL = N) (ks : List Nat) (lv2 : List (Nat × Value)) (hl2 : lv_pick ((i, Value.ref x) :: lv.filter (fun q => !(q.1 == i) && !(q.1 + 1 == i && q.2.category == 2))) ks = lv2) (hi : (z : Nat) = i) (hn : i < N) (hd : decode cc pc = .ok (.astore_n z, 1)) (q : Nat) (hq : pc + 1 = q) (kk : Z K n k cs lv2 q st) : Z K n k cs lv pc (.ref x :: st) := by
  subst hq
  subst hN
  exact fun H locs ls hP hD hS hl => lv_astore_n C.x C.b hd hi hl hn rfl (fun ls2 hl3 => kk H locs ls2 hP hD hS (lv_sub hl3 ks hl2))
theorem z_astore (C : Cx K R0 own cc Ts) {i N : Nat} {x : Nat} (hN : K.nL = N) (ks : List Nat) (lv2 : List (Nat × Value)) (hl2 : lv_pick ((i, Value.ref x) :: lv.filter (fun q => !(q.1 == i) && !(q.1 + 1 == i && q.2.category == 2))) ks = lv2) (hn : i < N) (hd : decode cc pc = .ok (.astore i, 2)) (q : Nat) (hq : pc + 2 = q) (kk : Z K n k cs lv2 q st) : Z K n k cs lv pc (.ref x :: st) := by
  subst hq
  subst hN
  exact fun H locs ls hP hD hS hl => lv_astore C.x C.b hd hl hn rfl (fun ls2 hl3 => kk H locs ls2 hP hD hS (lv_sub hl3 ks hl2))
theorem z_lstore_n (C : Cx K R0 own cc Ts) {z : Fin 4} {i N : Nat} {x : Int64} (hN : K.nL = N) (ks : List Nat) (lv2 : List (Nat × Value)) (hl2 : lv_pick ((i, Value.long x) :: lv.filter (fun q => !(q.1 == i) && (!(q.1 == i + 1) && !(q.1 + 1 == i && q.2.category == 2)))) ks = lv2) (hi : (z : Nat) = i) (hn : i + 1 < N) (hd : decode cc pc = .ok (.lstore_n z, 1)) (q : Nat) (hq : pc + 1 = q) (kk : Z K n k cs lv2 q st) : Z K n k cs lv pc (.long x :: st) := by
  subst hq
  subst hN
  exact fun H locs ls hP hD hS hl => lv_lstore_n C.x C.b hd hi hl hn rfl (fun ls2 hl3 => kk H locs ls2 hP hD hS (lv_sub hl3 ks hl2))
theorem z_lstore (C : Cx K R0 own cc Ts) {i N : Nat} {x : Int64} (hN : K.nL = N) (ks : List Nat) (lv2 : List (Nat × Value)) (hl2 : lv_pick ((i, Value.long x) :: lv.filter (fun q => !(q.1 == i) && (!(q.1 == i + 1) && !(q.1 + 1 == i && q.2.category == 2)))) ks = lv2) (hn : i + 1 < N) (hd : decode cc pc = .ok (.lstore i, 2)) (q : Nat) (hq : pc + 2 = q) (kk : Z K n k cs lv2 q st) : Z K n k cs lv pc (.long x :: st) := by
  subst hq
  subst hN
  exact fun H locs ls hP hD hS hl => lv_lstore C.x C.b hd hl hn rfl (fun ls2 hl3 => kk H locs ls2 hP hD hS (lv_sub hl3 ks hl2))
theorem z_iinc (C : Cx K R0 own cc Ts) {i N : Nat} {d : Int} {x v : Int32} (hN : K.nL = N) (j : Nat) (hj : lv[j]? = some (i, .int x)) (hv : x + Int32.ofInt d = v) (ks : List Nat) (lv2 : List (Nat × Value)) (hl2 : lv_pick ((i, Value.int v) :: lv.filter (fun q => !(q.1 == i) && !(q.1 + 1 == i && q.2.category == 2))) ks = lv2) (hn : i < N) (hd : decode cc pc = .ok (.iinc i d, 3)) (q : Nat) (hq : pc + 3 = q) (kk : Z K n k cs lv2 q st) : Z K n k cs lv pc st := by
  subst hq
  subst hN
  exact fun H locs ls hP hD hS hl => lv_iinc C.x C.b hd hl hj hv hn rfl (fun ls2 hl3 => kk H locs ls2 hP hD hS (lv_sub hl3 ks hl2))
/-- fewer locals, or in another order -/
theorem z_lv (ks : List Nat) (lv2 : List (Nat × Value)) (h : lv_pick lv ks = lv2) (kk : Z K n k cs lv2 pc st) : Z K n k cs lv pc st := fun H locs ls hP hD hS hl => kk H locs ls hP hD hS (lv_sub hl ks h)
theorem z_eq {cs2 : List va_W} {lv2 : List (Nat × Value)} {st2 : List Value} (kk : Z K n k cs2 lv2 pc st2) (h1 : cs = cs2) (h2 : lv = lv2) (h3 : st = st2) : Z K n k cs lv pc st := by subst h1; subst h2; subst h3; exact kk
theorem z_iadd (C : Cx K R0 own cc Ts) {a b : Nat} (hd : decode cc pc = .ok (.iadd, 1)) (q : Nat) (hq : pc + 1 = q) (kk : Z K n k cs lv q (.int (nI (a + b)) :: st)) : Z K n k cs lv pc (.int (nI b) :: .int (nI a) :: st) := by
  subst hq
  exact fun H locs ls hP hD hS hl => lv_iadd C.x C.b hd (by rw [nI_add]; exact kk H locs ls hP hD hS hl)
theorem z_imul (C : Cx K R0 own cc Ts) {a b : Nat} (hd : decode cc pc = .ok (.imul, 1)) (q : Nat) (hq : pc + 1 = q) (kk : Z K n k cs lv q (.int (nI (a * b)) :: st)) : Z K n k cs lv pc (.int (nI b) :: .int (nI a) :: st) := by
  subst hq
  exact fun H locs ls hP hD hS hl => lv_imul C.x C.b hd (by rw [pk_mul]; exact kk H locs ls hP hD hS hl)
theorem z_isub (C : Cx K R0 own cc Ts) {a b : Nat} (hab : b ≤ a) (hd : decode cc pc = .ok (.isub, 1)) (q : Nat) (hq : pc + 1 = q) (kk : Z K n k cs lv q (.int (nI (a - b)) :: st)) : Z K n k cs lv pc (.int (nI b) :: .int (nI a) :: st) := by
  subst hq
  exact fun H locs ls hP hD hS hl => lv_isub C.x C.b hd (by rw [pk_sub hab]; exact kk H locs ls hP hD hS hl)
theorem z_idiv (C : Cx K R0 own cc Ts) {a b : Nat} (ha : a < 2 ^ 31) (h0 : 0 < b) (hb : b < 2 ^ 31) (hd : decode cc pc = .ok (.idiv, 1)) (q : Nat) (hq : pc + 1 = q) (kk : Z K n k cs lv q (.int (nI (a / b)) :: st)) : Z K n k cs lv pc (.int (nI b) :: .int (nI a) :: st) := by
  subst hq
  exact fun H locs ls hP hD hS hl => lv_idiv C.x C.b hd (nI_ne0 h0 hb) (by rw [pk_div ha h0 hb]; exact kk H locs ls hP hD hS hl)
theorem z_iaddI (C : Cx K R0 own cc Ts) {x y : Int32} (hd : decode cc pc = .ok (.iadd, 1)) (q : Nat) (hq : pc + 1 = q) (kk : Z K n k cs lv q (.int (x + y) :: st)) : Z K n k cs lv pc (.int y :: .int x :: st) := by
  subst hq
  exact fun H locs ls hP hD hS hl => lv_iadd C.x C.b hd (kk H locs ls hP hD hS hl)
theorem z_isubI (C : Cx K R0 own cc Ts) {x y : Int32} (hd : decode cc pc = .ok (.isub, 1)) (q : Nat) (hq : pc + 1 = q) (kk : Z K n k cs lv q (.int (x - y) :: st)) : Z K n k cs lv pc (.int y :: .int x :: st) := by
  subst hq
  exact fun H locs ls hP hD hS hl => lv_isub C.x C.b hd (kk H locs ls hP hD hS hl)
theorem z_imulI (C : Cx K R0 own cc Ts) {x y : Int32} (hd : decode cc pc = .ok (.imul, 1)) (q : Nat) (hq : pc + 1 = q) (kk : Z K n k cs lv q (.int (x * y) :: st)) : Z K n k cs lv pc (.int y :: .int x :: st) := by
  subst hq
  exact fun H locs ls hP hD hS hl => lv_imul C.x C.b hd (kk H locs ls hP hD hS hl)
theorem z_iandI (C : Cx K R0 own cc Ts) {x y : Int32} (hd : decode cc pc = .ok (.iand, 1)) (q : Nat) (hq : pc + 1 = q) (kk : Z K n k cs lv q (.int (x &&& y) :: st)) : Z K n k cs lv pc (.int y :: .int x :: st) := by
  subst hq
  exact fun H locs ls hP hD hS hl => lv_iand C.x C.b hd (kk H locs ls hP hD hS hl)
theorem z_lsub (C : Cx K R0 own cc Ts) {x y : Int64} (hd : decode cc pc = .ok (.lsub, 1)) (q : Nat) (hq : pc + 1 = q) (kk : Z K n k cs lv q (.long (x - y) :: st)) : Z K n k cs lv pc (.long y :: .long x :: st) := by
  subst hq
  exact fun H locs ls hP hD hS hl => lv_lsub C.x C.b hd (kk H locs ls hP hD hS hl)
theorem z_land (C : Cx K R0 own cc Ts) {x y : Int64} (hd : decode cc pc = .ok (.land, 1)) (q : Nat) (hq : pc + 1 = q) (kk : Z K n k cs lv q (.long (x &&& y) :: st)) : Z K n k cs lv pc (.long y :: .long x :: st) := by
  subst hq
  exact fun H locs ls hP hD hS hl => lv_land C.x C.b hd (kk H locs ls hP hD hS hl)
theorem z_lor (C : Cx K R0 own cc Ts) {x y : Int64} (hd : decode cc pc = .ok (.lor, 1)) (q : Nat) (hq : pc + 1 = q) (kk : Z K n k cs lv q (.long (x ||| y) :: st)) : Z K n k cs lv pc (.long y :: .long x :: st) := by
  subst hq
  exact fun H locs ls hP hD hS hl => lv_lor C.x C.b hd (kk H locs ls hP hD hS hl)
theorem z_i2l (C : Cx K R0 own cc Ts) {x : Int32} (hd : decode cc pc = .ok (.i2l, 1)) (q : Nat) (hq : pc + 1 = q) (kk : Z K n k cs lv q (.long x.toInt64 :: st)) : Z K n k cs lv pc (.int x :: st) := by
  subst hq
  exact fun H locs ls hP hD hS hl => lv_i2l C.x C.b hd rfl (kk H locs ls hP hD hS hl)
theorem z_l2i (C : Cx K R0 own cc Ts) {x : Int64} (hd : decode cc pc = .ok (.l2i, 1)) (q : Nat) (hq : pc + 1 = q) (kk : Z K n k cs lv q (.int x.toInt32 :: st)) : Z K n k cs lv pc (.long x :: st) := by
  subst hq
  exact fun H locs ls hP hD hS hl => lv_l2i C.x C.b hd rfl (kk H locs ls hP hD hS hl)
theorem z_lushr (C : Cx K R0 own cc Ts) {x : Int64} {y : Int32} (hd : decode cc pc = .ok (.lushr, 1)) (q : Nat) (hq : pc + 1 = q) (kk : Z K n k cs lv q (.long (x.toUInt64 >>> (y.toInt64.toUInt64 &&& Int64.toUInt64 63)).toInt64 :: st)) : Z K n k cs lv pc (.int y :: .long x :: st) := by
  subst hq
  exact fun H locs ls hP hD hS hl => lv_lushr C.x C.b hd rfl (kk H locs ls hP hD hS hl)
theorem z_lshl (C : Cx K R0 own cc Ts) {x : Int64} {y : Int32} (hd : decode cc pc = .ok (.lshl, 1)) (q : Nat) (hq : pc + 1 = q) (kk : Z K n k cs lv q (.long (x <<< (y.toInt64 &&& 63)) :: st)) : Z K n k cs lv pc (.int y :: .long x :: st) := by
  subst hq
  exact fun H locs ls hP hD hS hl => lv_lshl C.x C.b hd rfl (kk H locs ls hP hD hS hl)
theorem z_lcmp (C : Cx K R0 own cc Ts) {x y : Int64} (hd : decode cc pc = .ok (.lcmp, 1)) (q : Nat) (hq : pc + 1 = q) (kk : Z K n k cs lv q (.int (lg_cmp x y) :: st)) : Z K n k cs lv pc (.long y :: .long x :: st) := by
  subst hq
  exact fun H locs ls hP hD hS hl => W.lcmp C.x C.b hd (kk H locs ls hP hD hS hl)
theorem z_dup (C : Cx K R0 own cc Ts) {v : Value} (hv : v.category = 1) (hd : decode cc pc = .ok (.dup, 1)) (q : Nat) (hq : pc + 1 = q) (kk : Z K n k cs lv q (v :: v :: st)) : Z K n k cs lv pc (v :: st) := by
  subst hq
  exact fun H locs ls hP hD hS hl => lv_dup C.x C.b hd hv (kk H locs ls hP hD hS hl)
theorem z_dup2 (C : Cx K R0 own cc Ts) {v u : Value} (hv : v.category = 1) (hu : u.category = 1) (hd : decode cc pc = .ok (.dup2, 1)) (q : Nat) (hq : pc + 1 = q) (kk : Z K n k cs lv q (v :: u :: v :: u :: st)) : Z K n k cs lv pc (v :: u :: st) := by
  subst hq
  exact fun H locs ls hP hD hS hl => lv_dup2_11 C.x C.b hd hv hu (kk H locs ls hP hD hS hl)
theorem z_pop (C : Cx K R0 own cc Ts) {v : Value} (hv : v.category = 1) (hd : decode cc pc = .ok (.pop, 1)) (q : Nat) (hq : pc + 1 = q) (kk : Z K n k cs lv q (st)) : Z K n k cs lv pc (v :: st) := by
  subst hq
  exact fun H locs ls hP hD hS hl => lv_pop C.x C.b hd hv (kk H locs ls hP hD hS hl)
theorem z_goto (C : Cx K R0 own cc Ts) {off : Int} (t : Nat) (hd : decode cc pc = .ok (.goto off, 3)) (ht : (pc : Int) + off = (t : Int)) (kk : Z K n k cs lv t st) : Z K n k cs lv pc st := fun H locs ls hP hD hS hl => lv_goto C.x C.b hd ht (kk H locs ls hP hD hS hl)
theorem z_icmpI_eq (C : Cx K R0 own cc Ts) {x y : Int32} {off : Int} (t : Nat) (hd : decode cc pc = .ok (.if_icmp .eq off, 3)) (ht : (pc : Int) + off = (t : Int)) (q : Nat) (hq : pc + 3 = q) (kt : x = y → Z K n k cs lv t st) (kf : ¬ x = y → Z K n k cs lv q st) : Z K n k cs lv pc (.int y :: .int x :: st) := by
  subst hq
  exact fun H locs ls hP hD hS hl => lv_icmp_eq C.x C.b hd ht (fun h => kt h H locs ls hP hD hS hl) (fun h => kf h H locs ls hP hD hS hl)
theorem z_ifI_eq (C : Cx K R0 own cc Ts) {x : Int32} {off : Int} (t : Nat) (hd : decode cc pc = .ok (.ifCond .eq off, 3)) (ht : (pc : Int) + off = (t : Int)) (q : Nat) (hq : pc + 3 = q) (kt : x = 0 → Z K n k cs lv t st) (kf : ¬ x = 0 → Z K n k cs lv q st) : Z K n k cs lv pc (.int x :: st) := by
  subst hq
  exact fun H locs ls hP hD hS hl => lv_if_eq C.x C.b hd ht (fun h => kt h H locs ls hP hD hS hl) (fun h => kf h H locs ls hP hD hS hl)
theorem z_icmpI_ne (C : Cx K R0 own cc Ts) {x y : Int32} {off : Int} (t : Nat) (hd : decode cc pc = .ok (.if_icmp .ne off, 3)) (ht : (pc : Int) + off = (t : Int)) (q : Nat) (hq : pc + 3 = q) (kt : ¬ x = y → Z K n k cs lv t st) (kf : x = y → Z K n k cs lv q st) : Z K n k cs lv pc (.int y :: .int x :: st) := by
  subst hq
  exact fun H locs ls hP hD hS hl => lv_icmp_ne C.x C.b hd ht (fun h => kt h H locs ls hP hD hS hl) (fun h => kf h H locs ls hP hD hS hl)
theorem z_ifI_ne (C : Cx K R0 own cc Ts) {x : Int32} {off : Int} (t : Nat) (hd : decode cc pc = .ok (.ifCond .ne off, 3)) (ht : (pc : Int) + off = (t : Int)) (q : Nat) (hq : pc + 3 = q) (kt : ¬ x = 0 → Z K n k cs lv t st) (kf : x = 0 → Z K n k cs lv q st) : Z K n k cs lv pc (.int x :: st) := by
  subst hq
  exact fun H locs ls hP hD hS hl => lv_if_ne C.x C.b hd ht (fun h => kt h H locs ls hP hD hS hl) (fun h => kf h H locs ls hP hD hS hl)
theorem z_icmpI_lt (C : Cx K R0 own cc Ts) {x y : Int32} {off : Int} (t : Nat) (hd : decode cc pc = .ok (.if_icmp .lt off, 3)) (ht : (pc : Int) + off = (t : Int)) (q : Nat) (hq : pc + 3 = q) (kt : x < y → Z K n k cs lv t st) (kf : ¬ x < y → Z K n k cs lv q st) : Z K n k cs lv pc (.int y :: .int x :: st) := by
  subst hq
  exact fun H locs ls hP hD hS hl => lv_icmp_lt C.x C.b hd ht (fun h => kt h H locs ls hP hD hS hl) (fun h => kf h H locs ls hP hD hS hl)
theorem z_ifI_lt (C : Cx K R0 own cc Ts) {x : Int32} {off : Int} (t : Nat) (hd : decode cc pc = .ok (.ifCond .lt off, 3)) (ht : (pc : Int) + off = (t : Int)) (q : Nat) (hq : pc + 3 = q) (kt : x < 0 → Z K n k cs lv t st) (kf : ¬ x < 0 → Z K n k cs lv q st) : Z K n k cs lv pc (.int x :: st) := by
  subst hq
  exact fun H locs ls hP hD hS hl => lv_if_lt C.x C.b hd ht (fun h => kt h H locs ls hP hD hS hl) (fun h => kf h H locs ls hP hD hS hl)
theorem z_icmpI_ge (C : Cx K R0 own cc Ts) {x y : Int32} {off : Int} (t : Nat) (hd : decode cc pc = .ok (.if_icmp .ge off, 3)) (ht : (pc : Int) + off = (t : Int)) (q : Nat) (hq : pc + 3 = q) (kt : y ≤ x → Z K n k cs lv t st) (kf : ¬ y ≤ x → Z K n k cs lv q st) : Z K n k cs lv pc (.int y :: .int x :: st) := by
  subst hq
  exact fun H locs ls hP hD hS hl => lv_icmp_ge C.x C.b hd ht (fun h => kt h H locs ls hP hD hS hl) (fun h => kf h H locs ls hP hD hS hl)
theorem z_ifI_ge (C : Cx K R0 own cc Ts) {x : Int32} {off : Int} (t : Nat) (hd : decode cc pc = .ok (.ifCond .ge off, 3)) (ht : (pc : Int) + off = (t : Int)) (q : Nat) (hq : pc + 3 = q) (kt : 0 ≤ x → Z K n k cs lv t st) (kf : ¬ 0 ≤ x → Z K n k cs lv q st) : Z K n k cs lv pc (.int x :: st) := by
  subst hq
  exact fun H locs ls hP hD hS hl => lv_if_ge C.x C.b hd ht (fun h => kt h H locs ls hP hD hS hl) (fun h => kf h H locs ls hP hD hS hl)
theorem z_icmpI_gt (C : Cx K R0 own cc Ts) {x y : Int32} {off : Int} (t : Nat) (hd : decode cc pc = .ok (.if_icmp .gt off, 3)) (ht : (pc : Int) + off = (t : Int)) (q : Nat) (hq : pc + 3 = q) (kt : y < x → Z K n k cs lv t st) (kf : ¬ y < x → Z K n k cs lv q st) : Z K n k cs lv pc (.int y :: .int x :: st) := by
  subst hq
  exact fun H locs ls hP hD hS hl => lv_icmp_gt C.x C.b hd ht (fun h => kt h H locs ls hP hD hS hl) (fun h => kf h H locs ls hP hD hS hl)
theorem z_ifI_gt (C : Cx K R0 own cc Ts) {x : Int32} {off : Int} (t : Nat) (hd : decode cc pc = .ok (.ifCond .gt off, 3)) (ht : (pc : Int) + off = (t : Int)) (q : Nat) (hq : pc + 3 = q) (kt : 0 < x → Z K n k cs lv t st) (kf : ¬ 0 < x → Z K n k cs lv q st) : Z K n k cs lv pc (.int x :: st) := by
  subst hq
  exact fun H locs ls hP hD hS hl => lv_if_gt C.x C.b hd ht (fun h => kt h H locs ls hP hD hS hl) (fun h => kf h H locs ls hP hD hS hl)
theorem z_icmpI_le (C : Cx K R0 own cc Ts) {x y : Int32} {off : Int} (t : Nat) (hd : decode cc pc = .ok (.if_icmp .le off, 3)) (ht : (pc : Int) + off = (t : Int)) (q : Nat) (hq : pc + 3 = q) (kt : x ≤ y → Z K n k cs lv t st) (kf : ¬ x ≤ y → Z K n k cs lv q st) : Z K n k cs lv pc (.int y :: .int x :: st) := by
  subst hq
  exact fun H locs ls hP hD hS hl => lv_icmp_le C.x C.b hd ht (fun h => kt h H locs ls hP hD hS hl) (fun h => kf h H locs ls hP hD hS hl)
theorem z_ifI_le (C : Cx K R0 own cc Ts) {x : Int32} {off : Int} (t : Nat) (hd : decode cc pc = .ok (.ifCond .le off, 3)) (ht : (pc : Int) + off = (t : Int)) (q : Nat) (hq : pc + 3 = q) (kt : x ≤ 0 → Z K n k cs lv t st) (kf : ¬ x ≤ 0 → Z K n k cs lv q st) : Z K n k cs lv pc (.int x :: st) := by
  subst hq
  exact fun H locs ls hP hD hS hl => lv_if_le C.x C.b hd ht (fun h => kt h H locs ls hP hD hS hl) (fun h => kf h H locs ls hP hD hS hl)
theorem z_icmp_eq (C : Cx K R0 own cc Ts) {a b : Nat} {off : Int} (ha : a < 2 ^ 31) (hb : b < 2 ^ 31) (t : Nat) (hd : decode cc pc = .ok (.if_icmp .eq off, 3)) (ht : (pc : Int) + off = (t : Int)) (q : Nat) (hq : pc + 3 = q) (kt : a = b → Z K n k cs lv t st) (kf : a ≠ b → Z K n k cs lv q st) : Z K n k cs lv pc (.int (nI b) :: .int (nI a) :: st) :=
  z_icmpI_eq C t hd ht q hq (fun h => kt ((nI_eq ha hb).mp h)) (fun h => kf (fun e => h ((nI_eq ha hb).mpr e)))
theorem z_if_eq (C : Cx K R0 own cc Ts) {a : Nat} {off : Int} (ha : a < 2 ^ 31) (t : Nat) (hd : decode cc pc = .ok (.ifCond .eq off, 3)) (ht : (pc : Int) + off = (t : Int)) (q : Nat) (hq : pc + 3 = q) (kt : a = 0 → Z K n k cs lv t st) (kf : a ≠ 0 → Z K n k cs lv q st) : Z K n k cs lv pc (.int (nI a) :: st) := by
  have hb : 0 < 2 ^ 31 := by decide
  have hz : (0 : Int32) = nI 0 := nI_0.symm
  refine z_ifI_eq C t hd ht q hq (fun h => kt ?_) (fun h => kf ?_)
  · rw [hz] at h; exact (nI_eq ha hb).mp h
  · rw [hz] at h; exact fun e => h ((nI_eq ha hb).mpr e)
theorem z_icmp_ne (C : Cx K R0 own cc Ts) {a b : Nat} {off : Int} (ha : a < 2 ^ 31) (hb : b < 2 ^ 31) (t : Nat) (hd : decode cc pc = .ok (.if_icmp .ne off, 3)) (ht : (pc : Int) + off = (t : Int)) (q : Nat) (hq : pc + 3 = q) (kt : a ≠ b → Z K n k cs lv t st) (kf : a = b → Z K n k cs lv q st) : Z K n k cs lv pc (.int (nI b) :: .int (nI a) :: st) :=
  z_icmpI_ne C t hd ht q hq (fun h => kt (fun e => h (by rw [e]))) (fun h => kf ((nI_eq ha hb).mp h))
theorem z_if_ne (C : Cx K R0 own cc Ts) {a : Nat} {off : Int} (ha : a < 2 ^ 31) (t : Nat) (hd : decode cc pc = .ok (.ifCond .ne off, 3)) (ht : (pc : Int) + off = (t : Int)) (q : Nat) (hq : pc + 3 = q) (kt : a ≠ 0 → Z K n k cs lv t st) (kf : a = 0 → Z K n k cs lv q st) : Z K n k cs lv pc (.int (nI a) :: st) := by
  have hb : 0 < 2 ^ 31 := by decide
  have hz : (0 : Int32) = nI 0 := nI_0.symm
  refine z_ifI_ne C t hd ht q hq (fun h => kt ?_) (fun h => kf ?_)
  · rw [hz] at h; exact fun e => h (by rw [e])
  · rw [hz] at h; exact (nI_eq ha hb).mp h
theorem z_icmp_lt (C : Cx K R0 own cc Ts) {a b : Nat} {off : Int} (ha : a < 2 ^ 31) (hb : b < 2 ^ 31) (t : Nat) (hd : decode cc pc = .ok (.if_icmp .lt off, 3)) (ht : (pc : Int) + off = (t : Int)) (q : Nat) (hq : pc + 3 = q) (kt : a < b → Z K n k cs lv t st) (kf : b ≤ a → Z K n k cs lv q st) : Z K n k cs lv pc (.int (nI b) :: .int (nI a) :: st) :=
  z_icmpI_lt C t hd ht q hq (fun h => kt ((nI_ltI ha hb).mp h)) (fun h => kf (Nat.le_of_not_lt (fun e => h ((nI_ltI ha hb).mpr e))))
theorem z_if_lt (C : Cx K R0 own cc Ts) {a : Nat} {off : Int} (ha : a < 2 ^ 31) (t : Nat) (hd : decode cc pc = .ok (.ifCond .lt off, 3)) (ht : (pc : Int) + off = (t : Int)) (q : Nat) (hq : pc + 3 = q) (kt : a < 0 → Z K n k cs lv t st) (kf : 0 ≤ a → Z K n k cs lv q st) : Z K n k cs lv pc (.int (nI a) :: st) := by
  have hb : 0 < 2 ^ 31 := by decide
  have hz : (0 : Int32) = nI 0 := nI_0.symm
  refine z_ifI_lt C t hd ht q hq (fun h => kt ?_) (fun h => kf ?_)
  · rw [hz] at h; exact (nI_ltI ha hb).mp h
  · rw [hz] at h; exact Nat.le_of_not_lt (fun e => h ((nI_ltI ha hb).mpr e))
theorem z_icmp_ge (C : Cx K R0 own cc Ts) {a b : Nat} {off : Int} (ha : a < 2 ^ 31) (hb : b < 2 ^ 31) (t : Nat) (hd : decode cc pc = .ok (.if_icmp .ge off, 3)) (ht : (pc : Int) + off = (t : Int)) (q : Nat) (hq : pc + 3 = q) (kt : b ≤ a → Z K n k cs lv t st) (kf : a < b → Z K n k cs lv q st) : Z K n k cs lv pc (.int (nI b) :: .int (nI a) :: st) :=
  z_icmpI_ge C t hd ht q hq (fun h => kt ((nI_leI hb ha).mp h)) (fun h => kf (Nat.lt_of_not_le (fun e => h ((nI_leI hb ha).mpr e))))
theorem z_if_ge (C : Cx K R0 own cc Ts) {a : Nat} {off : Int} (ha : a < 2 ^ 31) (t : Nat) (hd : decode cc pc = .ok (.ifCond .ge off, 3)) (ht : (pc : Int) + off = (t : Int)) (q : Nat) (hq : pc + 3 = q) (kt : 0 ≤ a → Z K n k cs lv t st) (kf : a < 0 → Z K n k cs lv q st) : Z K n k cs lv pc (.int (nI a) :: st) := by
  have hb : 0 < 2 ^ 31 := by decide
  have hz : (0 : Int32) = nI 0 := nI_0.symm
  refine z_ifI_ge C t hd ht q hq (fun h => kt ?_) (fun h => kf ?_)
  · rw [hz] at h; exact (nI_leI hb ha).mp h
  · rw [hz] at h; exact Nat.lt_of_not_le (fun e => h ((nI_leI hb ha).mpr e))
theorem z_icmp_gt (C : Cx K R0 own cc Ts) {a b : Nat} {off : Int} (ha : a < 2 ^ 31) (hb : b < 2 ^ 31) (t : Nat) (hd : decode cc pc = .ok (.if_icmp .gt off, 3)) (ht : (pc : Int) + off = (t : Int)) (q : Nat) (hq : pc + 3 = q) (kt : b < a → Z K n k cs lv t st) (kf : a ≤ b → Z K n k cs lv q st) : Z K n k cs lv pc (.int (nI b) :: .int (nI a) :: st) :=
  z_icmpI_gt C t hd ht q hq (fun h => kt ((nI_ltI hb ha).mp h)) (fun h => kf (Nat.le_of_not_lt (fun e => h ((nI_ltI hb ha).mpr e))))
theorem z_if_gt (C : Cx K R0 own cc Ts) {a : Nat} {off : Int} (ha : a < 2 ^ 31) (t : Nat) (hd : decode cc pc = .ok (.ifCond .gt off, 3)) (ht : (pc : Int) + off = (t : Int)) (q : Nat) (hq : pc + 3 = q) (kt : 0 < a → Z K n k cs lv t st) (kf : a ≤ 0 → Z K n k cs lv q st) : Z K n k cs lv pc (.int (nI a) :: st) := by
  have hb : 0 < 2 ^ 31 := by decide
  have hz : (0 : Int32) = nI 0 := nI_0.symm
  refine z_ifI_gt C t hd ht q hq (fun h => kt ?_) (fun h => kf ?_)
  · rw [hz] at h; exact (nI_ltI hb ha).mp h
  · rw [hz] at h; exact Nat.le_of_not_lt (fun e => h ((nI_ltI hb ha).mpr e))
theorem z_icmp_le (C : Cx K R0 own cc Ts) {a b : Nat} {off : Int} (ha : a < 2 ^ 31) (hb : b < 2 ^ 31) (t : Nat) (hd : decode cc pc = .ok (.if_icmp .le off, 3)) (ht : (pc : Int) + off = (t : Int)) (q : Nat) (hq : pc + 3 = q) (kt : a ≤ b → Z K n k cs lv t st) (kf : b < a → Z K n k cs lv q st) : Z K n k cs lv pc (.int (nI b) :: .int (nI a) :: st) :=
  z_icmpI_le C t hd ht q hq (fun h => kt ((nI_leI ha hb).mp h)) (fun h => kf (Nat.lt_of_not_le (fun e => h ((nI_leI ha hb).mpr e))))
theorem z_if_le (C : Cx K R0 own cc Ts) {a : Nat} {off : Int} (ha : a < 2 ^ 31) (t : Nat) (hd : decode cc pc = .ok (.ifCond .le off, 3)) (ht : (pc : Int) + off = (t : Int)) (q : Nat) (hq : pc + 3 = q) (kt : a ≤ 0 → Z K n k cs lv t st) (kf : 0 < a → Z K n k cs lv q st) : Z K n k cs lv pc (.int (nI a) :: st) := by
  have hb : 0 < 2 ^ 31 := by decide
  have hz : (0 : Int32) = nI 0 := nI_0.symm
  refine z_ifI_le C t hd ht q hq (fun h => kt ?_) (fun h => kf ?_)
  · rw [hz] at h; exact (nI_leI ha hb).mp h
  · rw [hz] at h; exact Nat.lt_of_not_le (fun e => h ((nI_leI ha hb).mpr e))
theorem z_dec {a : Nat} (h : 0 < a) : nI a + Int32.ofInt (-1) = nI (a - 1) := by
  obtain ⟨b, rfl⟩ : ∃ b, a = b + 1 := ⟨a - 1, by omega⟩
  exact (pk_m1 b).trans (by rw [Nat.add_sub_cancel])
theorem z_ind {P : Nat → Prop} (h : ∀ m, (∀ m', m' < m → P m') → P m) (m : Nat) : P m := Nat.strongRecOn m h
def bI (b : Bool) : Int32 := match b with
  | true => 1
  | false => 0
theorem z_ifb_eq (C : Cx K R0 own cc Ts) {b : Bool} {off : Int} (t : Nat) (hd : decode cc pc = .ok (.ifCond .eq off, 3)) (ht : (pc : Int) + off = (t : Int)) (q : Nat) (hq : pc + 3 = q) (kt : b = false → Z K n k cs lv t st) (kf : b = true → Z K n k cs lv q st) : Z K n k cs lv pc (.int (bI b) :: st) := by
  refine z_ifI_eq C t hd ht q hq (fun h => kt ?_) (fun h => kf ?_)
  · cases b
    · rfl
    · exact absurd h (by decide)
  · cases b
    · exact absurd rfl h
    · rfl
theorem z_ifb_ne (C : Cx K R0 own cc Ts) {b : Bool} {off : Int} (t : Nat) (hd : decode cc pc = .ok (.ifCond .ne off, 3)) (ht : (pc : Int) + off = (t : Int)) (q : Nat) (hq : pc + 3 = q) (kt : b = true → Z K n k cs lv t st) (kf : b = false → Z K n k cs lv q st) : Z K n k cs lv pc (.int (bI b) :: st) := by
  refine z_ifI_ne C t hd ht q hq (fun h => kt ?_) (fun h => kf ?_)
  · cases b
    · exact absurd rfl h
    · rfl
  · cases b
    · rfl
    · exact absurd h (by decide)
theorem z_nm {x : Nat} (kk : ∀ y : Nat, y = x → Z K n k cs lv pc (.int (nI y) :: st)) : Z K n k cs lv pc (.int (nI x) :: st) := kk x rfl
theorem z_nmI {x : Int32} (kk : ∀ y : Int32, y = x → Z K n k cs lv pc (.int y :: st)) : Z K n k cs lv pc (.int x :: st) := kk x rfl
theorem z_nmL {x : Int64} (kk : ∀ y : Int64, y = x → Z K n k cs lv pc (.long y :: st)) : Z K n k cs lv pc (.long x :: st) := kk x rfl
/-- the value on top, told otherwise -/
theorem z_top {x y : Int32} (h : x = y) (kk : Z K n k cs lv pc (.int y :: st)) : Z K n k cs lv pc (.int x :: st) := by rw [h]; exact kk
theorem z_tab (C : Cx K R0 own cc Ts) {dflt lo hi : Int} {offs : Array Int} {len : Nat} {a : Nat} {off : Int} (ha : a < 2 ^ 31) (t : Nat) (hd : decode cc pc = .ok (.tableswitch dflt lo hi offs, len)) (h1 : ¬ (a : Int) < lo) (h2 : ¬ hi < (a : Int)) (ho : offs[((a : Int) - lo).toNat]? = some off) (ht : (pc : Int) + off = (t : Int)) (kk : Z K n k cs lv t st) : Z K n k cs lv pc (.int (nI a) :: st) :=
  fun H locs ls hP hD hS hl => lv_tableIn C.x C.b hd (by rw [nI_toInt ha]; exact h1) (by rw [nI_toInt ha]; exact h2) (by rw [nI_toInt ha]; exact ho) ht (kk H locs ls hP hD hS hl)
theorem z_tabO (C : Cx K R0 own cc Ts) {dflt lo hi : Int} {offs : Array Int} {len : Nat} {x : Int32} (t : Nat) (hd : decode cc pc = .ok (.tableswitch dflt lo hi offs, len)) (h : x.toInt < lo ∨ hi < x.toInt) (ht : (pc : Int) + dflt = (t : Int)) (kk : Z K n k cs lv t st) : Z K n k cs lv pc (.int x :: st) :=
  fun H locs ls hP hD hS hl => lv_tableOut C.x C.b hd h ht (kk H locs ls hP hD hS hl)
theorem z_look (C : Cx K R0 own cc Ts) {dflt : Int} {ps : Array (Int × Int)} {len : Nat} {x : Int32} {off : Int} (t : Nat) (hd : decode cc pc = .ok (.lookupswitch dflt ps, len)) (hp : (ps.toList.zip (ps.toList.drop 1)).all (fun (a, next) => a.1 < next.1) = true) (ho : Op.lookupswitch.offset ps.toList dflt x.toInt = off) (ht : (pc : Int) + off = (t : Int)) (kk : Z K n k cs lv t st) : Z K n k cs lv pc (.int x :: st) :=
  fun H locs ls hP hD hS hl => lv_lookup C.x C.b hd hp ho ht (kk H locs ls hP hD hS hl)
def zCl (ci : Nat) (Cn : String) (T : u_T) (N : Nat) (ty : Nat → FieldType) : Prop := vwCl[ci]? = some (Cn, T, N) ∧ (∀ k, k < N → parseFieldDescriptor (T k).2.2.1 = some (ty k)) ∧ ∀ a, a < N → ∀ b, b < N → a ≠ b → (T a).2.1 ≠ (T b).2.1
theorem zc0 : zCl 0 RX0 TX0 3 tyX0 := ⟨rfl, tyX0_ok, nmX0⟩
theorem zc1 : zCl 1 RX1 TX1 3 tyX1 := ⟨rfl, tyX1_ok, nmX1⟩
theorem zc2 : zCl 2 RX2 TX2 8 tyX2 := ⟨rfl, tyX2_ok, nmX2⟩
theorem zc3 : zCl 3 RX3 TX3 18 tyX3 := ⟨rfl, tyX3_ok, nmX3⟩
theorem zc4 : zCl 4 RX4 TX4 7 tyX4 := ⟨rfl, tyX4_ok, nmX4⟩
theorem zc5 : zCl 5 RX5 TX5 14 tyX5 := ⟨rfl, tyX5_ok, nmX5⟩
theorem z_get (C : Cx K R0 own cc Ts) {Cn : String} {T : u_T} {N ci index : Nat} {ty : Nat → FieldType} (hc : zCl ci Cn T N ty) (hin : ∀ w ∈ u_ws Cn T N, w ∈ Ts) (i j : Nat) {c : va_W} {a : Nat} {fs : List Value} (hi : cs[i]? = some c) (he : c[j]? = some (a, .inr (ci, fs))) (f : Nat) (hf : f < N) (hw : Cond.fieldLink own index (T f).1 (T f).2.1 (T f).2.2.1 ∈ Ts) {v : Value} (hv : fs[f]? = some v) (hd : decode cc pc = .ok (.getfield index, 3)) (q : Nat) (hq : pc + 3 = q) (kk : Z K n k cs lv q (v :: st)) : Z K n k cs lv pc (.ref a :: st) := by
  subst hq
  exact fun H locs ls hP hD hS hl => va_get C.x C.b C.ts hin C.ow C.ka hP _ (zfl_get hi he) hc.1 f hf (C.ts _ hw) (fun _ h9 => h9) hv hd (kk H locs ls hP hD hS hl)
theorem z_put (C : Cx K R0 own cc Ts) {Cn : String} {T : u_T} {N ci index : Nat} {ty : Nat → FieldType} (hc : zCl ci Cn T N ty) (hin : ∀ w ∈ u_ws Cn T N, w ∈ Ts) (i j : Nat) {c : va_W} {a : Nat} {fs : List Value} (hi : cs[i]? = some c) (he : c[j]? = some (a, .inr (ci, fs))) (f : Nat) (hf : f < N) (hw : Cond.fieldLink own index (T f).1 (T f).2.1 (T f).2.2.1 ∈ Ts) (hfin : (T f).2.2.2 = false) {v : Value} (hn : narrow (ty f) v = v) (hfit : fits (ty f) v = true) (hl0 : f < fs.length) (c2 : va_W) (hc2 : c.set j (a, .inr (ci, fs.set f v)) = c2) (cs2 : List va_W) (hcs : cs.set i c2 = cs2) (hd : decode cc pc = .ok (.putfield index, 3)) (q : Nat) (hq : pc + 3 = q) (kk : Z K n k cs2 lv q st) : Z K n k cs lv pc (v :: .ref a :: st) := by
  subst hq
  subst hc2
  subst hcs
  exact fun H locs ls hP hD hS hl => va_put C.x C.b C.ts hin ty hc.2.1 hc.2.2 C.ow C.ka hP hD hS _ (zfl_get hi he) hc.1 f hf (C.ts _ hw) (fun _ h9 => h9) hfin (hc.2.1 f hf) hn hfit hl0 hd (fun H1 locs1 hP1 hD1 hS1 => kk H1 locs1 ls (by rw [zfl_set _ hi (zlen he)]; exact hP1) (by rw [zfl_set _ hi (zlen he)]; exact hD1) hS1 hl)
theorem z_iald (C : Cx K R0 own cc Ts) (i j : Nat) {c : va_W} {a N x : Nat} {f : Nat → Nat} (hi : cs[i]? = some c) (he : c[j]? = some (a, .inl (K.g.2 0, N, .inl (fun y => nI (f y))))) (hx : x < N) (hN : N < 2 ^ 31) (hd : decode cc pc = .ok (.iaload, 1)) (q : Nat) (hq : pc + 1 = q) (kk : Z K n k cs lv q (.int (nI (f x)) :: st)) : Z K n k cs lv pc (.int (nI x) :: .ref a :: st) := by
  subst hq
  intro H locs ls hP hD hS hl
  have h := kk H locs ls hP hD hS hl
  rw [show f x = f (nI x).toNatClampNeg by rw [nI_clamp (Nat.lt_trans hx hN)]] at h
  exact va_iald C.x C.b C.ka hP _ 0 (zfl_get hi he) rfl (vp_in_nI hx hN) hd h
theorem z_zald (C : Cx K R0 own cc Ts) (i j : Nat) {c : va_W} {a N x : Nat} {f : Nat → Bool} (hi : cs[i]? = some c) (he : c[j]? = some (a, .inl (K.g.2 3, N, .inl (fun y => bI (f y))))) (hx : x < N) (hN : N < 2 ^ 31) (hd : decode cc pc = .ok (.baload, 1)) (q : Nat) (hq : pc + 1 = q) (kk : Z K n k cs lv q (.int (bI (f x)) :: st)) : Z K n k cs lv pc (.int (nI x) :: .ref a :: st) := by
  subst hq
  intro H locs ls hP hD hS hl
  have h := kk H locs ls hP hD hS hl
  rw [show f x = f (nI x).toNatClampNeg by rw [nI_clamp (Nat.lt_trans hx hN)]] at h
  exact va_zald C.x C.b C.ka hP _ 3 (zfl_get hi he) rfl (vp_in_nI hx hN) hd h
/-- f, but v at k -/
def un {α : Type} (f : Nat → α) (k : Nat) (v : α) : Nat → α := fun j => if j = k then v else f j
theorem un_s {α : Type} {f : Nat → α} {k : Nat} {v : α} : un f k v k = v := if_pos rfl
theorem un_n {α : Type} {f : Nat → α} {k j : Nat} {v : α} (h : j ≠ k) : un f k v j = f j := if_neg h
theorem un_upd {f : Nat → Nat} {k v : Nat} : upd (fun y => nI (f y)) k (nI v) = fun y => nI (un f k v y) := by
  funext y
  show (if y = k then nI v else nI (f y)) = nI (if y = k then v else f y)
  by_cases h : y = k
  · rw [if_pos h, if_pos h]
  · rw [if_neg h, if_neg h]
theorem un_updb {f : Nat → Bool} {k : Nat} {v : Bool} : upd (fun y => bI (f y)) k (bI v) = fun y => bI (un f k v y) := by
  funext y
  show (if y = k then bI v else bI (f y)) = bI (if y = k then v else f y)
  by_cases h : y = k
  · rw [if_pos h, if_pos h]
  · rw [if_neg h, if_neg h]
theorem z_iast (C : Cx K R0 own cc Ts) (i j : Nat) {c : va_W} {a N x v : Nat} {f : Nat → Nat} (hi : cs[i]? = some c) (he : c[j]? = some (a, .inl (K.g.2 0, N, .inl (fun y => nI (f y))))) (hx : x < N) (hN : N < 2 ^ 31) (c2 : va_W) (hc2 : c.set j (a, .inl (K.g.2 0, N, .inl (fun y => nI (un f x v y)))) = c2) (cs2 : List va_W) (hcs : cs.set i c2 = cs2) (hd : decode cc pc = .ok (.iastore, 1)) (q : Nat) (hq : pc + 1 = q) (kk : Z K n k cs2 lv q st) : Z K n k cs lv pc (.int (nI v) :: .int (nI x) :: .ref a :: st) := by
  subst hq
  subst hc2
  subst hcs
  intro H locs ls hP hD hS hl
  refine va_iast C.x C.b C.ka hP hD hS _ 0 (zfl_get hi he) rfl (vp_in_nI hx hN) hd (fun H1 locs1 hP1 hD1 hS1 => kk H1 locs1 ls ?_ ?_ hS1 hl)
  · rw [zfl_set _ hi (zlen he)]
    rw [nI_clamp (Nat.lt_trans hx hN), un_upd] at hP1
    exact hP1
  · rw [zfl_set _ hi (zlen he)]
    rw [nI_clamp (Nat.lt_trans hx hN), un_upd] at hD1
    exact hD1
theorem z_zast (C : Cx K R0 own cc Ts) (i j : Nat) {c : va_W} {a N x : Nat} {v : Bool} {f : Nat → Bool} (hi : cs[i]? = some c) (he : c[j]? = some (a, .inl (K.g.2 3, N, .inl (fun y => bI (f y))))) (hx : x < N) (hN : N < 2 ^ 31) (c2 : va_W) (hc2 : c.set j (a, .inl (K.g.2 3, N, .inl (fun y => bI (un f x v y)))) = c2) (cs2 : List va_W) (hcs : cs.set i c2 = cs2) (hd : decode cc pc = .ok (.bastore, 1)) (q : Nat) (hq : pc + 1 = q) (kk : Z K n k cs2 lv q st) : Z K n k cs lv pc (.int (bI v) :: .int (nI x) :: .ref a :: st) := by
  subst hq
  subst hc2
  subst hcs
  intro H locs ls hP hD hS hl
  have hv : vp_nar .boolean (bI v) = bI v := by cases v <;> rfl
  refine va_zast C.x C.b C.ka hP hD hS _ 3 (zfl_get hi he) rfl (vp_in_nI hx hN) hd (fun H1 locs1 hP1 hD1 hS1 => kk H1 locs1 ls ?_ ?_ hS1 hl)
  · rw [zfl_set _ hi (zlen he)]
    rw [nI_clamp (Nat.lt_trans hx hN), hv, un_updb] at hP1
    exact hP1
  · rw [zfl_set _ hi (zlen he)]
    rw [nI_clamp (Nat.lt_trans hx hN), hv, un_updb] at hD1
    exact hD1
/-- an array's content, told otherwise -/
theorem z_arr (i j : Nat) {c : va_W} {a N : Nat} {cA : ClassId} {f g : Nat → Int32} (hi : cs[i]? = some c) (he : c[j]? = some (a, .inl (cA, N, .inl f))) (hfg : ∀ y, y < N → f y = g y) (c2 : va_W) (hc2 : c.set j (a, .inl (cA, N, .inl g)) = c2) (cs2 : List va_W) (hcs : cs.set i c2 = cs2) (kk : Z K n k cs2 lv pc st) : Z K n k cs lv pc st := by
  subst hc2
  subst hcs
  intro H locs ls hP hD hS hl
  have hcell : vp_cell cA (N, .inl f) = vp_cell cA (N, .inl g) := by
    show arrV cA N (fun j => .int (f j)) = arrV cA N (fun j => .int (g j))
    unfold arrV
    congr 1
    apply Array.ext
    · simp
    · intro y h1 h2
      simp at h1
      simp [hfg y h1]
  have hat : ∀ {H : Heap}, va_at K.g.1 vwCl (a, .inl (cA, N, .inl f)) H → va_at K.g.1 vwCl (a, .inl (cA, N, .inl g)) H := fun h => by
    show _ = some (vp_cell cA (N, .inl g))
    rw [← hcell]
    exact h
  refine kk H locs ls ?_ ?_ hS hl
  · rw [zfl_set _ hi (zlen he)]
    exact hP.set hD (zfl_get hi he) (hat (hP _ _ (zfl_get hi he))) (fun q _ => rfl)
  · rw [zfl_set _ hi (zlen he)]
    exact hD.set (zfl_get hi he)
theorem z_aald (C : Cx K R0 own cc Ts) (i j t0 : Nat) {c : va_W} {a N x y : Nat} {cA : ClassId} {ty : FieldType} {f : Nat → Option Nat} (hi : cs[i]? = some c) (he : c[j]? = some (a, .inl (cA, N, .inr (.inr (.inr (.inr f)))))) (ht : (zT K.g)[t0]? = some (cA, ty)) (hr : ty.isReference = true) (hx : x < N) (hN : N < 2 ^ 31) (hy : f x = some y) (hd : decode cc pc = .ok (.aaload, 1)) (q : Nat) (hq : pc + 1 = q) (kk : Z K n k cs lv q (.ref y :: st)) : Z K n k cs lv pc (.int (nI x) :: .ref a :: st) := by
  subst hq
  intro H locs ls hP hD hS hl
  have hlt : (nI x).toNatClampNeg < N := by rw [nI_clamp (Nat.lt_trans hx hN)]; exact hx
  refine W.aald (v := .ref y) (ty := ty) C.x C.b (hP _ _ (zfl_get hi he)) ((C.ka.2 t0 _ ht).1 N (fun j => va_rf (f j))) hr (fun q => by cases q) (by show ¬ (nI x < 0 ∨ (arrV _ _ _).slots.size ≤ _); rw [arrV_size]; exact vp_in_nI hx hN) (by show (arrV _ _ _).slots[_]? = _; rw [arrV_read _ _ hlt, nI_clamp (Nat.lt_trans hx hN), hy]; rfl) rfl rfl hd (kk H locs ls hP hD hS hl)
theorem z_alen (C : Cx K R0 own cc Ts) (i j t0 : Nat) {c : va_W} {a : Nat} {cA : ClassId} {x : vp_A} {ty : FieldType} (hi : cs[i]? = some c) (he : c[j]? = some (a, .inl (cA, x))) (ht : (zT K.g)[t0]? = some (cA, ty)) {v : Nat} (hv : x.1 = v) (hd : decode cc pc = .ok (.arraylength, 1)) (q : Nat) (hq : pc + 1 = q) (kk : Z K n k cs lv q (.int (nI v) :: st)) : Z K n k cs lv pc (.ref a :: st) := by
  subst hq
  subst hv
  exact fun H locs ls hP hD hS hl => va_alen C.x C.b C.ka hP _ t0 (zfl_get hi he) ht rfl hd (kk H locs ls hP hD hS hl)
theorem zmax {x y : Nat} (hx : x < 2 ^ 31) (hy : y < 2 ^ 31) : (if nI x < nI y then nI y else nI x) = nI (max x y) := by
  by_cases h : x < y
  · rw [if_pos ((nI_ltI hx hy).mpr h), Nat.max_eq_right (Nat.le_of_lt h)]
  · rw [if_neg (fun e => h ((nI_ltI hx hy).mp e)), Nat.max_eq_left (Nat.le_of_not_lt h)]
theorem zmin {x y : Nat} (hx : x < 2 ^ 31) (hy : y < 2 ^ 31) : (if nI y < nI x then nI y else nI x) = nI (min x y) := by
  by_cases h : y < x
  · rw [if_pos ((nI_ltI hy hx).mpr h), Nat.min_eq_right (Nat.le_of_lt h)]
  · rw [if_neg (fun e => h ((nI_ltI hy hx).mp e)), Nat.min_eq_left (Nat.le_of_not_lt h)]
end ZR
end
section
/-! ZC: a method's start and ends, calls, Math.max and min, arraycopy over Z. -/
def zPre (g : zG) (av : List Value) (cs : List va_W) : Array Value → State → Prop := va_Pc av (fun U => va_P g.1 vwCl cs.flatten U.heap ∧ zKp g U ∧ va_D (fun _ => True) cs.flatten)
def zQ {S : Type} (g : zG) (rv : S → Option Value) (post : S → Prop) (cs' : S → List va_W) (A : Nat → Prop) : Array Value → State → Outcome → State → Prop := fun _ st oc t =>
  (∃ u : S, oc = .returned (rv u) ∧ post u ∧ va_P g.1 vwCl (cs' u).flatten t.heap ∧ va_D A (cs' u).flatten) ∧ va_F A st t
def Rx {S : Type} (K : zK) (ret : Option FieldType) (rv : S → Option Value) (post : S → Prop) (cs' : S → List va_W) (A : Nat → Prop) : Prop :=
  K.Q = MQ K.below (zQ K.g rv post cs' A) K.args K.s 0 0 A ∧ K.A = A ∧ K.meth.sig.returnType = ret ∧ K.meth.locks = false
theorem zPre_blind (g : zG) (av : List Value) (cs : List va_W) : FrameBlind (zPre g av cs) := fun a U f mk q => by
  obtain ⟨q0, qP, qK, qD⟩ := q
  exact ⟨q0, qP, zKp.same (u := U) (U := U.calling f mk a) rfl qK, qD⟩
theorem z_entry {l : Launch} {g : zG} {y : MethodName} {ws ws' : List Cond} {cc : ByteArray} {maxL : Nat} {ret : Option FieldType} {S : Type} {rv : S → Option Value} {post : S → Prop} {cs' : S → List va_W} {cs0 : List va_W} {av : List Value} {rm : Room} {own : String}
    (hy : plainName y.cls = true) (hw : ws = Cond.code y cc maxL ret :: ws') (hown : y.cls = own) (hn : (lg_sl av).length ≤ maxL) (lv0 : List (Nat × Value)) (hlv : lv_args 0 av = lv0)
    (body : ∀ K : zK, K.l = l → K.g = g → K.nL = maxL → Cx K rm own cc ws → Rx K ret rv post cs' (zA cs0) → Z K 0 0 cs0 lv0 0 []) : Met l y ws rm (zPre g av cs0) (zQ g rv post cs' (zA cs0)) 0 0 (zA cs0) := by
  refine Met.ofW (cc := cc) (maxL := maxL) (ret := ret) hy hw ?_
  intro p e s m args below meth c s₁ B hml hv
  obtain ⟨rfl, hP, hK, hD0⟩ := hv
  have hx := B.exec
  have hb := B.bytes
  have hr := B.returns
  have hts := atoms_spec (ws := ws) B.pre
  have hown2 : s.vm.findClass own = some m.cls := by rw [← hown]; exact findClass_of_methodNamed B.named
  have hlocks := B.notSynchronized
  have hD : va_D (zA cs0) cs0.flatten := ⟨hD0.1, fun k q h => ⟨k, q.2, h⟩⟩
  have hl := lv_entry av (n := maxL) hn
  rw [lg_entry_eq]
  generalize (lg_sl av ++ List.replicate (maxL - (lg_sl av).length) Slot.unset).toArray = ls at hl ⊢
  rw [hlv] at hl
  exact body ⟨(p, l, e, (headSpec ws rm).room, s, m, av.toArray, below, meth, c), MQ below (zQ g rv post cs' (zA cs0)) av.toArray s 0 0 (zA cs0), g, zA cs0, maxL⟩ rfl rfl rfl ⟨⟨hx, hb, hml, hown2, hts⟩, hK, rfl⟩ ⟨rfl, rfl, hr, hlocks⟩ s.heap [] ls hP hD va_S.rf hl
section ZCs
variable {K : zK} {R0 : Room} {own : String} {cc : ByteArray} {Ts : List Cond} {n k : Nat} {cs : List va_W} {lv : List (Nat × Value)} {pc : Nat} {st : List Value}
theorem z_vret {S : Type} {rv : S → Option Value} {post : S → Prop} {cs' : S → List va_W} {A : Nat → Prop} (C : Cx K R0 own cc Ts) (R : Rx K none rv post cs' A) (hd : decode cc pc = .ok (.return_, 1)) (u : S) (hv : rv u = none) (hp : post u) (hc : cs = cs' u) : Z K 0 0 cs lv pc [] := by
  subst hc
  obtain ⟨hQ, hA, hr, hlk⟩ := R
  subst hA
  intro H locs ls hP hD hS hl
  rw [hQ]
  exact W.vret C.x C.b hr (fun t ht hW => ⟨⟨u, by rw [hv], hp, by rw [ht]; exact hP, hD⟩, hS.F ht⟩) hS.2.2 hd hlk
theorem z_iret {S : Type} {rv : S → Option Value} {post : S → Prop} {cs' : S → List va_W} {A : Nat → Prop} {v : Int32} (C : Cx K R0 own cc Ts) (R : Rx K (some .int) rv post cs' A) (hd : decode cc pc = .ok (.ireturn, 1)) (u : S) (hv : rv u = some (.int v)) (hp : post u) (hc : cs = cs' u) : Z K 0 0 cs lv pc [.int v] := by
  subst hc
  obtain ⟨hQ, hA, hr, hlk⟩ := R
  subst hA
  intro H locs ls hP hD hS hl
  rw [hQ]
  exact W.iret C.x C.b hr (fun t ht hW => ⟨⟨u, by rw [hv], hp, by rw [ht]; exact hP, hD⟩, hS.F ht⟩) hS.2.2 hd hlk
theorem z_bret {S : Type} {rv : S → Option Value} {post : S → Prop} {cs' : S → List va_W} {A : Nat → Prop} {v : Bool} (C : Cx K R0 own cc Ts) (R : Rx K (some .boolean) rv post cs' A) (hd : decode cc pc = .ok (.ireturn, 1)) (u : S) (hv : rv u = some (.int (bI v))) (hp : post u) (hc : cs = cs' u) : Z K 0 0 cs lv pc [.int (bI v)] := by
  subst hc
  obtain ⟨hQ, hA, hr, hlk⟩ := R
  subst hA
  intro H locs ls hP hD hS hl
  rw [hQ]
  exact W.zret C.x C.b hr (by cases v <;> rfl) (fun t ht hW => ⟨⟨u, by rw [hv], hp, by rw [ht]; exact hP, hD⟩, hS.F ht⟩) hS.2.2 hd hlk
theorem z_run {S : Type} {rv : S → Option Value} {post : S → Prop} {cs' : S → List va_W} {wc : List va_W} {stk rest : List Value} {a : Array Value}
    (hrun : ∀ (H : Heap) (locs : List Loc) (ls : Array Slot), va_P K.g.1 vwCl cs.flatten H → va_D K.A cs.flatten → lv_has ls K.nL lv → va_Run K.p K.l K.e K.R K.s K.m K.args K.below K.meth K.c H locs n k 0 0 (F0 K.m pc ls stk) rest (zQ K.g rv post cs' (zA wc) a) (zA wc))
    (isC : List Nat) (hC : isC.map (fun i => cs[i]?) = wc.map some) (hlc : ∀ x ∈ isC, x < cs.length) (src : List Nat) (hn : va_nd src = true) (hdis : ∀ x ∈ src, x ∉ isC) (cs2 : S → List va_W) (hs : ∀ u, src.map (fun i => (cs ++ cs' u)[i]?) = (cs2 u).map some) (q : Nat) (hq : pc + 3 = q)
    (kk : ∀ u, post u → Z K n k (cs2 u) lv q ((rv u).toList ++ rest)) : Z K n k cs lv pc stk := by
  subst hq
  intro H locs ls hP hD hS hl T hT X
  obtain ⟨v, st₀, t, T', L, h0, X', hL, e1, e2, ⟨⟨u, hv, hp, hP1, hD1⟩, hz, hk⟩, sts⟩ := hrun H locs ls hP hD hl T hT X
  cases hv
  rw [h0] at hz hk
  have hfree := zA_sub hD isC hC
  obtain ⟨hP2, hD2⟩ := zjoin (H1 := T'.heap) hP hD isC hC src (hs u) hn hdis hlc (fun q h1 h2 => by rw [e1]; exact hk q h1 h2) (by rw [e1]; exact hP1) hD1
  obtain ⟨t2, a1, b1⟩ := kk u hp T'.heap (locs ++ L) ls hP2 hD2 ⟨Nat.le_trans hS.1 (by rw [e1]; exact hz), fun q h1 h2 => by rw [e1, hk q (Nat.lt_of_lt_of_le h1 hS.1) (fun z => h2 (hfree q z))]; exact hS.2.1 q h1 h2, fun q hq => by
    rcases List.mem_append.mp hq with h | h
    · exact hS.2.2 q h
    · exact hfree _ (hL q h)⟩ hl T' rfl X'
  exact ⟨t2, sts t2 a1, b1⟩
theorem z_callV {S : Type} {rv : S → Option Value} {post : S → Prop} {cs' : S → List va_W} {wc : List va_W} {stk : List Value} {y : MethodName} {ws ws' : List Cond} {rm : Room} {Cn : String} {index maxL ci na N : Nat} {T : u_T} {bytes : ByteArray} {ret : Option FieldType} {b : Nat} {c : va_W} {fs : List Value}
    (C : Cx K R0 own cc Ts) (As rest : List Value) (hM : Met K.l y ws rm (zPre K.g (.ref b :: As) wc) (zQ K.g rv post cs' (zA wc)) 0 0 (zA wc)) (hG : GoodIn Ts (wsV own index Cn y ws)) (hw : ws = Cond.code y bytes maxL ret :: ws') (hrm1 : rm.cells = 0) (hrm2 : rm.slots = 0)
    (hd4 : y.cls = Cn ∧ y.cls ≠ "java/lang/invoke/MethodHandle" ∧ y.cls ≠ "java/lang/invoke/VarHandle" ∧ (parseMethodDescriptor y.desc).map (fun d => d.parameters.length) = some na) (hR4 : rm.frames + 1 ≤ R0.frames ∧ 8 + (maxL + 11) + rm.locals ≤ R0.locals) (hnk : n ≤ R0.cells ∧ k ≤ R0.slots)
    (i j : Nat) (hi : cs[i]? = some c) (he : c[j]? = some (b, .inr (ci, fs))) (hcl : vwCl[ci]? = some (Cn, T, N))
    (isC : List Nat) (hC : isC.map (fun i => cs[i]?) = wc.map some) (hnC : va_nd isC = true) (hlc : ∀ x ∈ isC, x < cs.length) (src : List Nat) (hn : va_nd src = true) (hdis : ∀ x ∈ src, x ∉ isC) (cs2 : S → List va_W) (hs : ∀ u, src.map (fun i => (cs ++ cs' u)[i]?) = (cs2 u).map some)
    (hnA : As.length = na) (hst : stk = As.reverse ++ .ref b :: rest) (hW8 : (rest.map fun v => v.category).sum ≤ 8) (hdg : decode cc pc = .ok (.invokevirtual index, 3)) (q : Nat) (hq : pc + 3 = q)
    (kk : ∀ u, post u → Z K n k (cs2 u) lv q ((rv u).toList ++ rest)) : Z K n k cs lv pc stk := by
  refine z_run (wc := wc) (a := (Value.ref b :: As).toArray) (fun H locs ls hP hD hl => ?_) isC hC hlc src hn hdis cs2 hs q hq kk
  exact va_runV (As := As) (rest := rest) C.1 hM (cwV na C.ts hG hw hrm1 hrm2 hd4 (by rw [C.r]; exact hR4)) ⟨zPre_blind _ _ _, va_recv C.ka hP hcl (zfl_get hi he), fun U hU hWm => ⟨rfl, by rw [hU]; exact zsubP hP isC hC, C.kp.warm hWm, (zsubD hD isC hnC hC).weaken (fun _ _ _ _ => trivial)⟩⟩ rfl hnA hl.1 hst (lv_room hW8) hdg (by rw [C.r]; exact hnk)
theorem z_callS {S : Type} {rv : S → Option Value} {post : S → Prop} {cs' : S → List va_W} {wc : List va_W} {stk : List Value} {y : MethodName} {ws ws' : List Cond} {rm : Room} {index maxL na : Nat} {bytes : ByteArray} {ret : Option FieldType}
    (C : Cx K R0 own cc Ts) (As rest : List Value) (hM : Met K.l y ws rm (zPre K.g As wc) (zQ K.g rv post cs' (zA wc)) 0 0 (zA wc)) (hG : GoodIn Ts (va_wsS own index y ws)) (hw : ws = Cond.code y bytes maxL ret :: ws') (hrm1 : rm.cells = 0) (hrm2 : rm.slots = 0)
    (hd4 : y.cls ≠ "java/lang/invoke/MethodHandle" ∧ y.cls ≠ "java/lang/invoke/VarHandle" ∧ (parseMethodDescriptor y.desc).map (fun d => d.parameters.length) = some na) (hR4 : rm.frames + 1 ≤ R0.frames ∧ 8 + (maxL + 11) + rm.locals ≤ R0.locals) (hnk : n ≤ R0.cells ∧ k ≤ R0.slots)
    (isC : List Nat) (hC : isC.map (fun i => cs[i]?) = wc.map some) (hnC : va_nd isC = true) (hlc : ∀ x ∈ isC, x < cs.length) (src : List Nat) (hn : va_nd src = true) (hdis : ∀ x ∈ src, x ∉ isC) (cs2 : S → List va_W) (hs : ∀ u, src.map (fun i => (cs ++ cs' u)[i]?) = (cs2 u).map some)
    (hnA : As.length = na) (hst : stk = As.reverse ++ rest) (hW8 : (rest.map fun v => v.category).sum ≤ 8) (hdg : decode cc pc = .ok (.invokestatic index, 3)) (q : Nat) (hq : pc + 3 = q)
    (kk : ∀ u, post u → Z K n k (cs2 u) lv q ((rv u).toList ++ rest)) : Z K n k cs lv pc stk := by
  refine z_run (wc := wc) (a := As.toArray) (fun H locs ls hP hD hl => ?_) isC hC hlc src hn hdis cs2 hs q hq kk
  exact va_runS (As := As) (rest := rest) C.1 hM (va_cwS na C.ts hG hw hrm1 hrm2 hd4 (by rw [C.r]; exact hR4)) ⟨zPre_blind _ _ _, fun U hU hWm => ⟨rfl, by rw [hU]; exact zsubP hP isC hC, C.kp.warm hWm, (zsubD hD isC hnC hC).weaken (fun _ _ _ _ => trivial)⟩⟩ rfl hnA hl.1 hst (lv_room hW8) hdg (by rw [C.r]; exact hnk)
theorem zrange_map {α : Type} : ∀ (l m : List α), (List.range l.length).map (fun i => (l ++ m)[i]?) = l.map some := by
  intro l m
  apply List.ext_getElem?
  intro i
  rw [List.getElem?_map, List.getElem?_map]
  by_cases h : i < l.length
  · rw [List.getElem?_range h]
    show some ((l ++ m)[i]?) = _
    rw [List.getElem?_append_left h, List.getElem?_eq_getElem h]
    rfl
  · rw [List.getElem?_eq_none (by rw [List.length_range]; omega), List.getElem?_eq_none (Nat.le_of_not_lt h)]
    rfl
theorem znd_range : ∀ (n a : Nat), va_nd (List.range' a n) = true
  | 0, _ => rfl
  | n + 1, a => by
    show (decide (a ∉ List.range' (a + 1) n) && va_nd (List.range' (a + 1) n)) = true
    rw [znd_range n (a + 1), Bool.and_true, decide_eq_true_eq]
    intro h
    have := List.mem_range'.mp h
    omega
/-- a call of a static method that sees no cell and changes none -/
theorem z_callP {S : Type} {rv : S → Option Value} {post : S → Prop} {stk : List Value} {y : MethodName} {ws ws' : List Cond} {rm : Room} {index maxL na : Nat} {bytes : ByteArray} {ret : Option FieldType}
    (C : Cx K R0 own cc Ts) (As rest : List Value) (hM : Met K.l y ws rm (zPre K.g As []) (zQ K.g rv post (fun _ => []) (zA [])) 0 0 (zA [])) (hG : GoodIn Ts (va_wsS own index y ws)) (hw : ws = Cond.code y bytes maxL ret :: ws') (hrm1 : rm.cells = 0) (hrm2 : rm.slots = 0)
    (hd4 : y.cls ≠ "java/lang/invoke/MethodHandle" ∧ y.cls ≠ "java/lang/invoke/VarHandle" ∧ (parseMethodDescriptor y.desc).map (fun d => d.parameters.length) = some na) (hR4 : rm.frames + 1 ≤ R0.frames ∧ 8 + (maxL + 11) + rm.locals ≤ R0.locals) (hnk : n ≤ R0.cells ∧ k ≤ R0.slots)
    (hnA : As.length = na) (hst : stk = As.reverse ++ rest) (hW8 : (rest.map fun v => v.category).sum ≤ 8) (hdg : decode cc pc = .ok (.invokestatic index, 3)) (q : Nat) (hq : pc + 3 = q)
    (kk : ∀ u, post u → Z K n k cs lv q ((rv u).toList ++ rest)) : Z K n k cs lv pc stk :=
  z_callS C As rest hM hG hw hrm1 hrm2 hd4 hR4 hnk [] rfl rfl (fun _ h => by cases h) (List.range cs.length) (by rw [List.range_eq_range']; exact znd_range _ _) (fun _ _ h => by cases h) (fun _ => cs) (fun _ => zrange_map cs []) hnA hst hW8 hdg q hq kk
/-- the same, of a nest mate's private method -/
theorem z_callN {S : Type} {rv : S → Option Value} {post : S → Prop} {stk : List Value} {y : MethodName} {ws ws' : List Cond} {rm : Room} {index maxL na : Nat} {bytes : ByteArray} {ret : Option FieldType} {host : String}
    (C : Cx K R0 own cc Ts) (As rest : List Value) (hM : Met K.l y ws rm (zPre K.g As []) (zQ K.g rv post (fun _ => []) (zA [])) 0 0 (zA [])) (hG : GoodIn Ts ws) (hw : ws = Cond.code y bytes maxL ret :: ws') (hrm1 : rm.cells = 0) (hrm2 : rm.slots = 0) (hnest : va_Nw (.methodLinkNest own index y host) K.s) (hini : Cond.initialized y.cls ∈ Ts) (hstat : Cond.static y ∈ Ts)
    (hd4 : y.cls ≠ "java/lang/invoke/MethodHandle" ∧ y.cls ≠ "java/lang/invoke/VarHandle" ∧ (parseMethodDescriptor y.desc).map (fun d => d.parameters.length) = some na) (hR4 : rm.frames + 1 ≤ R0.frames ∧ 8 + (maxL + 11) + rm.locals ≤ R0.locals) (hnk : n ≤ R0.cells ∧ k ≤ R0.slots)
    (hnA : As.length = na) (hst : stk = As.reverse ++ rest) (hW8 : (rest.map fun v => v.category).sum ≤ 8) (hdg : decode cc pc = .ok (.invokestatic index, 3)) (q : Nat) (hq : pc + 3 = q)
    (kk : ∀ u, post u → Z K n k cs lv q ((rv u).toList ++ rest)) : Z K n k cs lv pc stk := by
  refine z_run (wc := []) (a := As.toArray) (fun H locs ls hP hD hl => ?_) [] rfl (fun _ h => by cases h) (List.range cs.length) (by rw [List.range_eq_range']; exact znd_range _ _) (fun _ _ h => by cases h) (fun _ => cs) (fun _ => zrange_map cs []) q hq kk
  exact va_runSN (As := As) (rest := rest) C.1 hM ⟨va_cnB na C.ts hG hw hrm1 hrm2 hnest (C.ts _ hini) hd4 (by rw [C.r]; exact hR4), C.ts _ hstat, trivial⟩ ⟨zPre_blind _ _ _, fun U hU hWm => ⟨rfl, by rw [hU]; exact zsubP hP [] rfl, C.kp.warm hWm, (zsubD hD [] rfl rfl).weaken (fun _ _ _ _ => trivial)⟩⟩ rfl hnA hl.1 hst (lv_room hW8) hdg (by rw [C.r]; exact hnk)
theorem z_max (C : Cx K R0 own cc Ts) {index x y : Nat} (hw1 : Cond.methodLink own index Lib.Math.max.name ∈ Ts) (hw2 : Cond.static Lib.Math.max.name ∈ Ts) (hw3 : Cond.initialized "java/lang/Math" ∈ Ts) (hw4 : Cond.code Lib.Math.max.name Lib.Math.max.code 2 (some .int) ∈ Ts) (hf : 1 ≤ R0.frames ∧ (st.map fun v => v.category).sum + 13 ≤ R0.locals) (hnk : n ≤ R0.cells ∧ k ≤ R0.slots) (hx : x < 2 ^ 31) (hy : y < 2 ^ 31) (hd : decode cc pc = .ok (.invokestatic index, 3)) (q : Nat) (hq : pc + 3 = q) (kk : Z K n k cs lv q (.int (nI (max x y)) :: st)) : Z K n k cs lv pc (.int (nI y) :: .int (nI x) :: st) := by
  subst hq
  intro H locs ls hP hD hS hl
  refine va_mmax C.x C.b (by rw [C.ml]; exact hl.1.symm) C.ow (C.ts _ hw1) (C.ts _ hw2) (C.ts _ hw3) (C.ts _ hw4) (by rw [C.r]; exact hf.1) (by rw [C.r]; exact hf.2) (by rw [C.r]; exact hnk.1) (by rw [C.r]; exact hnk.2) hd ?_
  rw [zmax hx hy]
  exact kk H locs ls hP hD hS hl
theorem z_min (C : Cx K R0 own cc Ts) {index x y : Nat} (hw1 : Cond.methodLink own index Lib.Math.min.name ∈ Ts) (hw2 : Cond.static Lib.Math.min.name ∈ Ts) (hw3 : Cond.initialized "java/lang/Math" ∈ Ts) (hw4 : Cond.code Lib.Math.min.name Lib.Math.min.code 2 (some .int) ∈ Ts) (hf : 1 ≤ R0.frames ∧ (st.map fun v => v.category).sum + 13 ≤ R0.locals) (hnk : n ≤ R0.cells ∧ k ≤ R0.slots) (hx : x < 2 ^ 31) (hy : y < 2 ^ 31) (hd : decode cc pc = .ok (.invokestatic index, 3)) (q : Nat) (hq : pc + 3 = q) (kk : Z K n k cs lv q (.int (nI (min x y)) :: st)) : Z K n k cs lv pc (.int (nI y) :: .int (nI x) :: st) := by
  subst hq
  intro H locs ls hP hD hS hl
  refine va_mmin C.x C.b (by rw [C.ml]; exact hl.1.symm) C.ow (C.ts _ hw1) (C.ts _ hw2) (C.ts _ hw3) (C.ts _ hw4) (by rw [C.r]; exact hf.1) (by rw [C.r]; exact hf.2) (by rw [C.r]; exact hnk.1) (by rw [C.r]; exact hnk.2) hd ?_
  rw [zmin hx hy]
  exact kk H locs ls hP hD hS hl
/-- the whole of an int array of N copied onto another -/
theorem z_copy (C : Cx K R0 own cc Ts) {index : Nat} (hw1 : Cond.methodLink own index arraycopyName ∈ Ts) (hw2 : Cond.native arraycopyName ∈ Ts) (hw3 : Cond.static arraycopyName ∈ Ts) (hw4 : Cond.initialized "java/lang/System" ∈ Ts) (i0 j0 i1 j1 : Nat) {c0 c1 : va_W} {a0 a1 N : Nat} {f g : Nat → Int32} (h0 : cs[i0]? = some c0) (e0 : c0[j0]? = some (a0, .inl (K.g.2 0, N, .inl f))) (h1 : cs[i1]? = some c1) (e1 : c1[j1]? = some (a1, .inl (K.g.2 0, N, .inl g))) (hN : N < 2 ^ 31)
    (hf : 1 ≤ R0.frames ∧ (st.map fun v => v.category).sum + (nativeFrameWords "java/lang/System" "arraycopy" 5 + 11) ≤ R0.locals) (c2 : va_W) (hc2 : c1.set j1 (a1, .inl (K.g.2 0, N, .inl f)) = c2) (cs2 : List va_W) (hcs : cs.set i1 c2 = cs2) (hd : decode cc pc = .ok (.invokestatic index, 3)) (q : Nat) (hq : pc + 3 = q) (kk : Z K n k cs2 lv q st) : Z K n k cs lv pc (.int (nI N) :: .int (nI 0) :: .ref a1 :: .int (nI 0) :: .ref a0 :: st) := by
  subst hq
  subst hc2
  subst hcs
  have z0 : (nI 0).toNatClampNeg = 0 := nI_clamp (by decide)
  have zN : (nI N).toNatClampNeg = N := nI_clamp hN
  intro H locs ls hP hD hS hl
  refine va_copyi (ty := .int) C.x C.b (by rw [C.ml]; exact hl.1.symm) C.ow (C.ts _ hw1) (C.ts _ hw2) (C.ts _ hw3) (C.ts _ hw4) C.ka hP hD hS _ _ 0 0 (zfl_get h0 e0) (zfl_get h1 e1) rfl rfl rfl (nI_pos (by decide)) (nI_pos (by decide)) (nI_pos hN) (by rw [z0, zN]; omega) (by rw [z0, zN]; omega) (fun i _ => rfl) (by rw [C.r]; exact hf.1) (by rw [C.r]; exact hf.2) hd (fun H1 locs1 hP1 hD1 hS1 => ?_)
  rw [z0, zN] at hP1 hD1
  rw [← zfl_set _ h1 (zlen e1)] at hP1 hD1
  refine z_arr (f := va_cpy f g 0 0 N) (g := f) i1 j1 (c := c1.set j1 (a1, .inl (K.g.2 0, N, .inl (va_cpy f g 0 0 N)))) (by rw [List.getElem?_set_self (List.getElem?_eq_some_iff.mp h1).1]) (by rw [List.getElem?_set_self (zlen e1)]) (fun y hy => by rw [pk_cpy_in (Nat.zero_le _) (by omega)]; congr 1; omega) _ rfl _ rfl ?_ H1 locs1 ls hP1 hD1 hS1 hl
  rw [List.set_set, List.set_set]
  exact kk
end ZCs
end
section
/-! WS: the worlds: a Board, a Press, the Pad, the History, the object itself, the reference; and small functions on numbers. -/
def wB (g : zG) (b st : Nat → Nat) (r : Nat → Nat → Nat) (n : Nat) : va_W := [(b 0, .inr (0, [.ref (b 1), .ref (b 2), .int (nI n)])), (b 1, .inl (g.2 0, 7, .inl (fun y => nI (st y)))), (b 2, .inl (g.2 1, 4, .inr (.inr (.inr (.inr (fun i => some (b (3 + i)))))))), (b 3, .inl (g.2 0, 12, .inl (fun y => nI (r 0 y)))), (b 4, .inl (g.2 0, 12, .inl (fun y => nI (r 1 y)))), (b 5, .inl (g.2 0, 12, .inl (fun y => nI (r 2 y)))), (b 6, .inl (g.2 0, 12, .inl (fun y => nI (r 3 y))))]
def wP (g : zG) (q a0 a1 a2 a3 a4 a5 a6 a7 : Nat → Nat) (s0 s1 s2 s3 s4 s5 s6 s7 s8 s9 : Nat) : va_W := [(q 0, .inr (3, [.ref (q 1), .ref (q 2), .ref (q 3), .ref (q 4), .ref (q 5), .ref (q 6), .ref (q 7), .ref (q 8), .int (nI s0), .int (nI s1), .int (nI s2), .int (nI s3), .int (nI s4), .int (nI s5), .int (nI s6), .int (nI s7), .int (nI s8), .int (nI s9)])), (q 1, .inl (g.2 0, 12, .inl (fun y => nI (a0 y)))), (q 2, .inl (g.2 0, 12, .inl (fun y => nI (a1 y)))), (q 3, .inl (g.2 0, 12, .inl (fun y => nI (a2 y)))), (q 4, .inl (g.2 0, 12, .inl (fun y => nI (a3 y)))), (q 5, .inl (g.2 0, 12, .inl (fun y => nI (a4 y)))), (q 6, .inl (g.2 0, 12, .inl (fun y => nI (a5 y)))), (q 7, .inl (g.2 0, 12, .inl (fun y => nI (a6 y)))), (q 8, .inl (g.2 0, 12, .inl (fun y => nI (a7 y))))]
def wPd (g : zG) (p fb tx : Nat → Nat) (len ex : Nat) (pl sh hu du : Int32) : va_W := [(p 0, .inr (2, [.ref (fb 0), .int (nI len), .ref (p 1), .int (nI ex), .int pl, .int sh, .int hu, .int du])), (p 1, .inl (g.2 0, 60, .inl (fun y => nI (tx y))))]
def wH (g : zG) (h : Nat → Nat) (hb : Nat → Nat → Nat) (kp nx : Nat) : va_W := [(h 0, .inr (1, [.int (nI kp), .ref (h 1), .int (nI nx)])), (h 1, .inl (g.2 2, 6, .inr (.inr (.inr (.inr (fun i => some (hb i 0)))))))]
def wX (g : zG) (x bd tr q p h : Nat → Nat) (sb : Nat → Nat → Nat) (sv : Nat → Bool) : va_W := [(x 0, .inr (4, [.ref (bd 0), .ref (tr 0), .ref (q 0), .ref (p 0), .ref (h 0), .ref (x 1), .ref (x 2)])), (x 1, .inl (g.2 2, 2, .inr (.inr (.inr (.inr (fun i => some (sb i 0))))))), (x 2, .inl (g.2 3, 2, .inl (fun y => bI (sv y))))]
def wM (g : zG) (y all kept hist : Nat → Nat) (hl : Nat) (slo sav beg prt frm txt : Nat → Nat) (tl sp : Nat) (tol : Nat → Nat) (rd : Nat) : va_W := [(y 0, .inr (5, [.ref (y 1), .ref (y 2), .ref (y 3), .int (nI hl), .ref (y 4), .ref (y 5), .ref (y 6), .ref (y 7), .ref (y 8), .ref (y 9), .int (nI tl), .int (nI sp), .ref (y 10), .int (nI rd)])), (y 1, .inl (g.2 0, 56, .inl (fun y => nI (all y)))), (y 2, .inl (g.2 0, 56, .inl (fun y => nI (kept y)))), (y 3, .inl (g.2 0, 336, .inl (fun y => nI (hist y)))), (y 4, .inl (g.2 0, 112, .inl (fun y => nI (slo y)))), (y 5, .inl (g.2 0, 2, .inl (fun y => nI (sav y)))), (y 6, .inl (g.2 0, 12, .inl (fun y => nI (beg y)))), (y 7, .inl (g.2 0, 12, .inl (fun y => nI (prt y)))), (y 8, .inl (g.2 0, 12, .inl (fun y => nI (frm y)))), (y 9, .inl (g.2 0, 60, .inl (fun y => nI (txt y)))), (y 10, .inl (g.2 0, 60, .inl (fun y => nI (tol y))))]
theorem wB_row {g : zG} {b st : Nat → Nat} {r : Nat → Nat → Nat} {n i : Nat} (h : i < 4) : (wB g b st r n)[3 + i]? = some (b (3 + i), .inl (g.2 0, 12, .inl (fun y => nI (r i y)))) := by
  rcases (show i = 0 ∨ i = 1 ∨ i = 2 ∨ i = 3 by omega) with rfl | rfl | rfl | rfl <;> rfl
theorem wB_set {g : zG} {b st : Nat → Nat} {r : Nat → Nat → Nat} {n i : Nat} {f : Nat → Nat} (h : i < 4) : (wB g b st r n).set (3 + i) (b (3 + i), .inl (g.2 0, 12, .inl (fun y => nI (f y)))) = wB g b st (un r i f) n := by
  rcases (show i = 0 ∨ i = 1 ∨ i = 2 ∨ i = 3 by omega) with rfl | rfl | rfl | rfl <;> rfl
section WSs
variable {K : zK} {n k : Nat} {cs : List va_W} {lv : List (Nat × Value)} {pc : Nat} {st : List Value}
theorem zset_get {cs : List va_W} {i : Nat} {c d : va_W} (h : cs[i]? = some c) : (cs.set i d)[i]? = some d := List.getElem?_set_self (List.getElem?_eq_some_iff.mp h).1
/-- a board's content, told otherwise -/
theorem z_wB (i : Nat) {b s1 : Nat → Nat} {r1 : Nat → Nat → Nat} {m : Nat} (hi : cs[i]? = some (wB K.g b s1 r1 m)) (s2 : Nat → Nat) (r2 : Nat → Nat → Nat) (hst : ∀ y, y < 7 → s1 y = s2 y) (hr : ∀ j, j < 4 → ∀ y, y < 12 → r1 j y = r2 j y) (cs2 : List va_W) (hcs : cs.set i (wB K.g b s2 r2 m) = cs2) (kk : Z K n k cs2 lv pc st) : Z K n k cs lv pc st := by
  refine z_arr (g := fun y => nI (s2 y)) i 1 hi rfl (fun y hy => by rw [hst y hy]) (wB K.g b s2 r1 m) rfl _ rfl ?_
  refine z_arr (g := fun y => nI (r2 0 y)) i 3 (zset_get hi) rfl (fun y hy => by rw [hr 0 (by decide) y hy]) (wB K.g b s2 (un r1 0 (r2 0)) m) rfl _ rfl ?_
  refine z_arr (g := fun y => nI (r2 1 y)) i 4 (zset_get (zset_get hi)) rfl (fun y hy => by rw [← hr 1 (by decide) y hy]; rfl) (wB K.g b s2 (un (un r1 0 (r2 0)) 1 (r2 1)) m) rfl _ rfl ?_
  refine z_arr (g := fun y => nI (r2 2 y)) i 5 (zset_get (zset_get (zset_get hi))) rfl (fun y hy => by rw [← hr 2 (by decide) y hy]; rfl) (wB K.g b s2 (un (un (un r1 0 (r2 0)) 1 (r2 1)) 2 (r2 2)) m) rfl _ rfl ?_
  refine z_arr (g := fun y => nI (r2 3 y)) i 6 (zset_get (zset_get (zset_get (zset_get hi)))) rfl (fun y hy => by rw [← hr 3 (by decide) y hy]; rfl) (wB K.g b s2 r2 m) rfl _ rfl ?_
  rw [List.set_set, List.set_set, List.set_set, List.set_set, hcs]
  exact kk
end WSs
/-- in a range, as Booleans -/
def rg (x lo hi : Int) : Bool := decide (lo ≤ x ∧ x ≤ hi)
theorem rg_t {x lo hi : Int} (h : lo ≤ x) (h2 : x ≤ hi) : rg x lo hi = true := decide_eq_true ⟨h, h2⟩
theorem rg_f {x lo hi : Int} (h : ¬ (lo ≤ x ∧ x ≤ hi)) : rg x lo hi = false := decide_eq_false h
theorem rg_i {x lo hi : Int} (h : rg x lo hi = true) : lo ≤ x ∧ x ≤ hi := of_decide_eq_true h
theorem rg_n {x lo hi : Int} (h : rg x lo hi = false) : ¬ (lo ≤ x ∧ x ≤ hi) := of_decide_eq_false h
/-- an int that is in a range of numbers that are not negative -/
theorem rg_nI {x : Int32} {lo hi : Nat} (h : rg x.toInt lo hi = true) : ∃ j : Nat, lo ≤ j ∧ j ≤ hi ∧ x = nI j := by
  obtain ⟨h1, h2⟩ := rg_i h
  have hx : ¬ x < 0 := by
    rw [Int32.lt_iff_toInt_lt, Int32.toInt_zero]
    omega
  obtain ⟨j, hj, rfl⟩ := nI_of hx
  rw [nI_toInt hj] at h1 h2
  exact ⟨j, by omega, by omega, rfl⟩
/-- racks that so many hundreds need -/
def nd (d h : Nat) : Nat := (h + d - 1) / d
theorem nd_le {d h : Nat} (hd : 0 < d) : nd d h ≤ h := by
  unfold nd
  rcases Nat.eq_zero_or_pos h with rfl | hh
  · rw [Nat.zero_add, Nat.div_eq_of_lt (by omega)]
    exact Nat.le_refl 0
  · refine Nat.div_le_of_le_mul ?_
    have := Nat.mul_le_mul hd hh
    have h2 : d * h ≥ h + d - 1 := by
      obtain ⟨a, rfl⟩ : ∃ a, d = a + 1 := ⟨d - 1, by omega⟩
      obtain ⟨c, rfl⟩ : ∃ c, h = c + 1 := ⟨h - 1, by omega⟩
      have : (a + 1) * (c + 1) = a * c + a + c + 1 := by rw [Nat.add_mul, Nat.mul_add]; omega
      omega
    exact h2
/-- how many below n are so -/
def ct (p : Nat → Bool) : Nat → Nat
  | 0 => 0
  | n + 1 => ct p n + (if p n = true then 1 else 0)
theorem ct_s {p : Nat → Bool} {n : Nat} (h : p n = true) : ct p (n + 1) = ct p n + 1 := by
  show ct p n + (if p n = true then 1 else 0) = _
  rw [if_pos h]
theorem ct_f {p : Nat → Bool} {n : Nat} (h : p n = false) : ct p (n + 1) = ct p n := by
  show ct p n + (if p n = true then 1 else 0) = _
  rw [if_neg (by rw [h]; decide)]
  rfl
theorem ct_le (p : Nat → Bool) : ∀ n, ct p n ≤ n
  | 0 => Nat.le_refl 0
  | n + 1 => by
    have := ct_le p n
    show ct p n + (if p n = true then 1 else 0) ≤ n + 1
    split <;> omega
theorem ct_lt {p : Nat → Bool} {j : Nat} (h : p j = false) : ∀ n, j < n → ct p n < n
  | 0, hj => by omega
  | n + 1, hj => by
    by_cases e : j = n
    · subst e
      rw [ct_f h]
      have := ct_le p j
      omega
    · have := ct_lt h n (by omega)
      show ct p n + (if p n = true then 1 else 0) < n + 1
      split <;> omega
def sm (f : Nat → Nat) : Nat → Nat
  | 0 => 0
  | n + 1 => sm f n + f n
theorem sm_s (f : Nat → Nat) (n : Nat) : sm f (n + 1) = sm f n + f n := rfl
theorem sm_le {f : Nat → Nat} {B : Nat} : ∀ n, (∀ j, j < n → f j ≤ B) → sm f n ≤ n * B
  | 0, _ => by rw [Nat.zero_mul]; exact Nat.le_refl 0
  | n + 1, h => by
    have h1 := sm_le n (fun j hj => h j (by omega))
    have h2 := h n (by omega)
    rw [sm_s, Nat.add_mul]
    omega
theorem sm_cg {f g : Nat → Nat} : ∀ n, (∀ j, j < n → f j = g j) → sm f n = sm g n
  | 0, _ => rfl
  | n + 1, h => by rw [sm_s, sm_s, sm_cg n (fun j hj => h j (by omega)), h n (by omega)]
def mx (f : Nat → Nat) : Nat → Nat
  | 0 => 0
  | n + 1 => max (mx f n) (f n)
theorem mx_s (f : Nat → Nat) (n : Nat) : mx f (n + 1) = max (mx f n) (f n) := rfl
theorem mx_le {f : Nat → Nat} {B : Nat} : ∀ n, (∀ j, j < n → f j ≤ B) → mx f n ≤ B
  | 0, _ => Nat.zero_le B
  | n + 1, h => by
    have h1 := mx_le n (fun j hj => h j (by omega))
    have h2 := h n (by omega)
    rw [mx_s]
    omega
theorem mx_cg {f g : Nat → Nat} : ∀ n, (∀ j, j < n → f j = g j) → mx f n = mx g n
  | 0, _ => rfl
  | n + 1, h => by rw [mx_s, mx_s, mx_cg n (fun j hj => h j (by omega)), h n (by omega)]
theorem zia {α β : Type} {c : Prop} [Decidable c] (f g : α → β) (x : α) : (if c then f else g) x = if c then f x else g x := by split <;> rfl
theorem zlc {α : Type} {cs : List α} {isC : List Nat} {N : Nat} (h : isC.all (fun x => decide (x < N)) = true) (hN : cs.length = N) : ∀ x ∈ isC, x < cs.length := fun x hx => by
  rw [hN]
  exact of_decide_eq_true (List.all_eq_true.mp h x hx)
end
section
/-! BD: the static helpers and Board's methods. -/
/-- a job behind the others -/
def apR (r : Nat → Nat → Nat) (n p s h d : Nat) : Nat → Nat → Nat := fun k => un (r k) n (match k with
  | 0 => p
  | 1 => s
  | 2 => h
  | _ => d)
/-- the first i jobs of ro behind n of r -/
def apA (r : Nat → Nat → Nat) (n : Nat) (ro : Nat → Nat → Nat) : Nat → Nat → Nat → Nat
  | 0 => r
  | i + 1 => apR (apA r n ro i) (n + i) (ro 0 i) (ro 1 i) (ro 2 i) (ro 3 i)
def shf (h : Nat → Nat) (f t : Nat) : Nat → Nat := fun y => if y = t then h f else if f ≤ y ∧ y < t then h (y + 1) else if t < y ∧ y ≤ f then h (y - 1) else h y
def upS (h : Nat → Nat) (f p : Nat) : Nat → Nat := fun y => if f ≤ y ∧ y < p then h (y + 1) else h y
def swp (h : Nat → Nat) (f t : Nat) : Nat → Nat := un (un h f (h t)) t (h f)
/-- the place of a job in the order by a key -/
def plc (h : Nat → Nat) (n j : Nat) : Nat := ct (fun o => decide (h o < h j ∨ (h o = h j ∧ o < j))) n
theorem plc_lt {h : Nat → Nat} {n j : Nat} (hj : j < n) : plc h n j < n := ct_lt (j := j) (decide_eq_false (by omega)) n hj
/-- the first i jobs laid at their places -/
def arR (ro : Nat → Nat → Nat) (pl : Nat → Nat) : Nat → Nat → Nat → Nat
  | 0 => ro
  | i + 1 => fun k => un (arR ro pl i k) (pl i) (ro k i)
def dnS (h : Nat → Nat) (f t p : Nat) : Nat → Nat := fun y => if f ≤ y ∧ y < t then h (y + 1) else if p < y ∧ y ≤ f then h (y - 1) else h y
theorem hdX0_append : yX0_append.cls = RX0 ∧ yX0_append.cls ≠ "java/lang/invoke/MethodHandle" ∧ yX0_append.cls ≠ "java/lang/invoke/VarHandle" ∧ (parseMethodDescriptor yX0_append.desc).map (fun d => d.parameters.length) = some 4 := by decide +kernel
theorem hdX0_copyFrom : yX0_copyFrom.cls = RX0 ∧ yX0_copyFrom.cls ≠ "java/lang/invoke/MethodHandle" ∧ yX0_copyFrom.cls ≠ "java/lang/invoke/VarHandle" ∧ (parseMethodDescriptor yX0_copyFrom.desc).map (fun d => d.parameters.length) = some 1 := by decide +kernel
theorem hdX0_placeBy : yX0_placeBy.cls = RX0 ∧ yX0_placeBy.cls ≠ "java/lang/invoke/MethodHandle" ∧ yX0_placeBy.cls ≠ "java/lang/invoke/VarHandle" ∧ (parseMethodDescriptor yX0_placeBy.desc).map (fun d => d.parameters.length) = some 2 := by decide +kernel
theorem hdX0_shift : yX0_shift.cls = RX0 ∧ yX0_shift.cls ≠ "java/lang/invoke/MethodHandle" ∧ yX0_shift.cls ≠ "java/lang/invoke/VarHandle" ∧ (parseMethodDescriptor yX0_shift.desc).map (fun d => d.parameters.length) = some 2 := by decide +kernel
theorem hdX4_racksFor : yX4_racksFor.cls ≠ "java/lang/invoke/MethodHandle" ∧ yX4_racksFor.cls ≠ "java/lang/invoke/VarHandle" ∧ (parseMethodDescriptor yX4_racksFor.desc).map (fun d => d.parameters.length) = some 2 := by decide +kernel
set_option maxHeartbeats 4000000 in
set_option maxRecDepth 100000 in
theorem tX4_within (l : Launch) (g : zG) (x lo hi : Int32) : Met l yX4_within wsX4_within ({ frames := 0, cells := 0, slots := 0, locals := 0 } : Room) (zPre g [.int x, .int lo, .int hi] []) (zQ g (fun _ : Unit => some (.int (bI (rg x.toInt lo.toInt hi.toInt))) ) (fun _ : Unit => True) (fun _ : Unit => []) (zA [])) 0 0 (zA []) := by
  refine z_entry (cc := cX4_within) (maxL := 3) (ret := (some .boolean)) (own := RX4) (by decide) rfl rfl (Nat.le_of_ble_eq_true rfl) [(0, .int x), (1, .int lo), (2, .int hi)] rfl ?_
  intro K hKl hKg hnL C R
  subst hKl
  subst hKg
  refine z_iload_n C 0 rfl rfl dX4_within_0 1 rfl ?_
  refine z_iload_n C 1 rfl rfl dX4_within_1 2 rfl ?_
  refine z_icmpI_lt C 14 dX4_within_2 (by decide) 5 rfl (fun c_1 => ?_) (fun c_1 => ?_)
  · skip
    refine z_iconst C (v := nI 0) rfl dX4_within_14 15 rfl ?_
    refine z_eq (st2 := [.int (bI false)]) ?_ rfl rfl rfl
    exact z_bret C R dX4_within_15 () (by rw [rg_f (by simp only [Int32.le_iff_toInt_le, Int32.lt_iff_toInt_lt] at *; omega)]) trivial rfl
  · skip
    refine z_iload_n C 0 rfl rfl dX4_within_5 6 rfl ?_
    refine z_iload_n C 2 rfl rfl dX4_within_6 7 rfl ?_
    refine z_icmpI_gt C 14 dX4_within_7 (by decide) 10 rfl (fun c_2 => ?_) (fun c_2 => ?_)
    · skip
      refine z_iconst C (v := nI 0) rfl dX4_within_14 15 rfl ?_
      refine z_eq (st2 := [.int (bI false)]) ?_ rfl rfl rfl
      exact z_bret C R dX4_within_15 () (by rw [rg_f (by simp only [Int32.le_iff_toInt_le, Int32.lt_iff_toInt_lt] at *; omega)]) trivial rfl
    · skip
      refine z_iconst C (v := nI 1) rfl dX4_within_10 11 rfl ?_
      refine z_goto C 15 dX4_within_11 (by decide) ?_
      refine z_eq (st2 := [.int (bI true)]) ?_ rfl rfl rfl
      exact z_bret C R dX4_within_15 () (by rw [rg_t (by first | omega | (simp only [Int32.le_iff_toInt_le, Int32.lt_iff_toInt_lt, Int32.not_lt] at *; omega)) (by first | omega | (simp only [Int32.le_iff_toInt_le, Int32.lt_iff_toInt_lt, Int32.not_lt] at *; omega))]) trivial rfl

set_option maxHeartbeats 4000000 in
set_option maxRecDepth 100000 in
theorem tX4_racksFor (l : Launch) (g : zG) (h d : Nat) (h1 : 0 < d) (h2 : d ≤ 1000) (h3 : h ≤ 1000) : Met l yX4_racksFor wsX4_racksFor ({ frames := 0, cells := 0, slots := 0, locals := 0 } : Room) (zPre g [.int (nI h), .int (nI d)] []) (zQ g (fun _ : Unit => some (.int (nI (nd d h))) ) (fun _ : Unit => True) (fun _ : Unit => []) (zA [])) 0 0 (zA []) := by
  refine z_entry (cc := cX4_racksFor) (maxL := 2) (ret := (some .int)) (own := RX4) (by decide) rfl rfl (Nat.le_of_ble_eq_true rfl) [(0, .int (nI h)), (1, .int (nI d))] rfl ?_
  intro K hKl hKg hnL C R
  subst hKl
  subst hKg
  refine z_iload_n C 1 rfl rfl dX4_racksFor_0 1 rfl ?_
  refine z_iconst C (v := nI 1) rfl dX4_racksFor_1 2 rfl ?_
  refine z_icmp_ge C (by omega) (by omega) 9 dX4_racksFor_2 (by decide) 5 rfl (fun c_1 => ?_) (fun c_1 => ?_)
  rotate_left
  · exfalso; omega
  refine z_iload_n C 0 rfl rfl dX4_racksFor_9 10 rfl ?_
  refine z_iload_n C 1 rfl rfl dX4_racksFor_10 11 rfl ?_
  refine z_iadd C dX4_racksFor_11 12 rfl ?_
  refine z_iconst C (v := nI 1) rfl dX4_racksFor_12 13 rfl ?_
  refine z_isub C (by omega) dX4_racksFor_13 14 rfl ?_
  refine z_iload_n C 1 rfl rfl dX4_racksFor_14 15 rfl ?_
  refine z_idiv C (by omega) (by omega) (by omega) dX4_racksFor_15 16 rfl ?_
  exact z_iret C R dX4_racksFor_16 () rfl trivial rfl

theorem iX0_copyFrom_X0 : ∀ w ∈ u_ws RX0 TX0 3, w ∈ wsX0_copyFrom := fun w h => (List.mem_cons_of_mem _ (List.mem_append_right _ h))
set_option maxHeartbeats 4000000 in
set_option maxRecDepth 100000 in
theorem tX0_copyFrom (l : Launch) (g : zG) (b st : Nat → Nat) (r : Nat → Nat → Nat) (n : Nat) (o so : Nat → Nat) (ro : Nat → Nat → Nat) (no : Nat) : Met l yX0_copyFrom wsX0_copyFrom ({ frames := 1, cells := 0, slots := 0, locals := 60 } : Room) (zPre g [.ref (b 0), .ref (o 0)] [wB g b st r n, wB g o so ro no]) (zQ g (fun _ : Unit => none ) (fun _ : Unit => True) (fun _ : Unit => [wB g b so ro no, wB g o so ro no]) (zA [wB g b st r n, wB g o so ro no])) 0 0 (zA [wB g b st r n, wB g o so ro no]) := by
  refine z_entry (cc := cX0_copyFrom) (maxL := 3) (ret := none) (own := RX0) (by decide) rfl rfl (Nat.le_of_ble_eq_true rfl) [(0, .ref (b 0)), (1, .ref (o 0))] rfl ?_
  intro K hKl hKg hnL C R
  subst hKl
  subst hKg
  refine z_aload_n C 1 rfl rfl dX0_copyFrom_0 1 rfl ?_
  refine z_get C zc0 iX0_copyFrom_X0 1 0 rfl rfl 0 (Nat.le_of_ble_eq_true rfl) (List.mem_of_getElem? (i := 1) rfl) (v := .ref (o 1)) rfl dX0_copyFrom_1 4 rfl ?_
  refine z_iconst C (v := nI 0) rfl dX0_copyFrom_4 5 rfl ?_
  refine z_aload_n C 0 rfl rfl dX0_copyFrom_5 6 rfl ?_
  refine z_get C zc0 iX0_copyFrom_X0 0 0 rfl rfl 0 (Nat.le_of_ble_eq_true rfl) (List.mem_of_getElem? (i := 1) rfl) (v := .ref (b 1)) rfl dX0_copyFrom_6 9 rfl ?_
  refine z_iconst C (v := nI 0) rfl dX0_copyFrom_9 10 rfl ?_
  refine z_bipush C (v := nI 7) rfl dX0_copyFrom_10 12 rfl ?_
  refine z_copy C (List.mem_of_getElem? (i := 2) rfl) (List.mem_of_getElem? (i := 3) rfl) (List.mem_of_getElem? (i := 4) rfl) (List.mem_of_getElem? (i := 5) rfl) 1 1 0 1 rfl rfl rfl rfl (by decide) ⟨Nat.le_of_ble_eq_true rfl, Nat.le_of_ble_eq_true rfl⟩ (wB K.g b so r n) rfl [wB K.g b so r n, wB K.g o so ro no] rfl dX0_copyFrom_12 15 rfl ?_
  refine z_iconst C (v := nI 0) rfl dX0_copyFrom_15 16 rfl ?_
  refine z_istore_n C hnL [1, 2, 0] [(0, .ref (b 0)), (1, .ref (o 0)), (2, .int (nI 0))] rfl rfl (Nat.le_of_ble_eq_true rfl) dX0_copyFrom_16 17 rfl ?_
  have loop17 : ∀ (mu : Nat) (i : Nat), mu = 4 - i → i ≤ 4 → Z K 0 0 [wB K.g b so (fun k => if k < i then ro k else r k) n, wB K.g o so ro no] [(0, .ref (b 0)), (1, .ref (o 0)), (2, .int (nI i))] 17 [] := by
    refine z_ind (fun mu ih17 => ?_)
    intro i hmu17 hi
    refine z_iload_n C 2 rfl rfl dX0_copyFrom_17 18 rfl ?_
    refine z_iconst C (v := nI 4) rfl dX0_copyFrom_18 19 rfl ?_
    refine z_icmp_ge C (by omega) (by omega) 47 dX0_copyFrom_19 (by decide) 22 rfl (fun c_1 => ?_) (fun c_1 => ?_)
    · skip
      refine z_wB 0 rfl so ro (fun _ _ => rfl) (by intro k hk y hy; rw [if_pos (by omega)]) [wB K.g b so ro n, wB K.g o so ro no] rfl ?_
      refine z_aload_n C 0 rfl rfl dX0_copyFrom_47 48 rfl ?_
      refine z_aload_n C 1 rfl rfl dX0_copyFrom_48 49 rfl ?_
      refine z_get C zc0 iX0_copyFrom_X0 1 0 rfl rfl 2 (Nat.le_of_ble_eq_true rfl) (List.mem_of_getElem? (i := 7) rfl) (v := .int (nI no)) rfl dX0_copyFrom_49 52 rfl ?_
      refine z_put C zc0 iX0_copyFrom_X0 0 0 rfl rfl 2 (Nat.le_of_ble_eq_true rfl) (List.mem_of_getElem? (i := 7) rfl) rfl rfl rfl (Nat.le_of_ble_eq_true rfl) (wB K.g b so ro no) rfl [wB K.g b so ro no, wB K.g o so ro no] rfl dX0_copyFrom_52 55 rfl ?_
      exact z_vret C R dX0_copyFrom_55 () rfl trivial rfl
    · skip
      refine z_aload_n C 1 rfl rfl dX0_copyFrom_22 23 rfl ?_
      refine z_get C zc0 iX0_copyFrom_X0 1 0 rfl rfl 1 (Nat.le_of_ble_eq_true rfl) (List.mem_of_getElem? (i := 6) rfl) (v := .ref (o 2)) rfl dX0_copyFrom_23 26 rfl ?_
      refine z_iload_n C 2 rfl rfl dX0_copyFrom_26 27 rfl ?_
      refine z_aald C (y := (o (3 + i))) 1 2 1 rfl rfl rfl rfl (by omega) (by decide) rfl dX0_copyFrom_27 28 rfl ?_
      refine z_iconst C (v := nI 0) rfl dX0_copyFrom_28 29 rfl ?_
      refine z_aload_n C 0 rfl rfl dX0_copyFrom_29 30 rfl ?_
      refine z_get C zc0 iX0_copyFrom_X0 0 0 rfl rfl 1 (Nat.le_of_ble_eq_true rfl) (List.mem_of_getElem? (i := 6) rfl) (v := .ref (b 2)) rfl dX0_copyFrom_30 33 rfl ?_
      refine z_iload_n C 2 rfl rfl dX0_copyFrom_33 34 rfl ?_
      refine z_aald C (y := (b (3 + i))) 0 2 1 rfl rfl rfl rfl (by omega) (by decide) rfl dX0_copyFrom_34 35 rfl ?_
      refine z_iconst C (v := nI 0) rfl dX0_copyFrom_35 36 rfl ?_
      refine z_bipush C (v := nI 12) rfl dX0_copyFrom_36 38 rfl ?_
      refine z_copy C (List.mem_of_getElem? (i := 2) rfl) (List.mem_of_getElem? (i := 3) rfl) (List.mem_of_getElem? (i := 4) rfl) (List.mem_of_getElem? (i := 5) rfl) 1 (3 + i) 0 (3 + i) rfl (wB_row (by omega)) rfl (wB_row (by omega)) (by decide) ⟨Nat.le_of_ble_eq_true rfl, Nat.le_of_ble_eq_true rfl⟩ (wB K.g b so (un (fun k => if k < i then ro k else r k) i (ro i)) n) (wB_set (by omega)) [wB K.g b so (un (fun k => if k < i then ro k else r k) i (ro i)) n, wB K.g o so ro no] rfl dX0_copyFrom_38 41 rfl ?_
      refine z_iinc C hnL 2 rfl (v := (nI (i + 1))) (nI_1 _) [1, 2, 0] [(0, .ref (b 0)), (1, .ref (o 0)), (2, .int (nI (i + 1)))] rfl (Nat.le_of_ble_eq_true rfl) dX0_copyFrom_41 44 rfl ?_
      refine z_goto C 17 dX0_copyFrom_44 (by decide) ?_
      refine z_wB 0 rfl so (fun k => if k < i + 1 then ro k else r k) (fun _ _ => rfl) (by intro k hk y hy; (try simp only [reduceIte, Nat.lt_irrefl, un, zia]); (repeat' split); all_goals first | rfl | omega | (congr 1 <;> omega) | (congr 2 <;> omega) | (exfalso; omega) | (subst_vars; first | rfl | (exfalso; omega) | (congr 1 <;> omega))) [wB K.g b so (fun k => if k < i + 1 then ro k else r k) n, wB K.g o so ro no] rfl ?_
      exact ih17 _ (by omega) (i + 1) rfl (by omega)
  refine z_wB 0 rfl so (fun k => if k < 0 then ro k else r k) (fun _ _ => rfl) (by intro k hk y hy; rw [if_neg (by omega)]) [wB K.g b so (fun k => if k < 0 then ro k else r k) n, wB K.g o so ro no] rfl ?_
  exact loop17 _ 0 rfl (by omega)

theorem iX0_append_X0 : ∀ w ∈ u_ws RX0 TX0 3, w ∈ wsX0_append := fun w h => (List.mem_cons_of_mem _ (List.mem_append_right _ h))
set_option maxHeartbeats 4000000 in
set_option maxRecDepth 100000 in
theorem tX0_append (l : Launch) (g : zG) (b st : Nat → Nat) (r : Nat → Nat → Nat) (n : Nat) (p s h d : Nat) (hn : n < 12) : Met l yX0_append wsX0_append ({ frames := 0, cells := 0, slots := 0, locals := 0 } : Room) (zPre g [.ref (b 0), .int (nI p), .int (nI s), .int (nI h), .int (nI d)] [wB g b st r n]) (zQ g (fun _ : Unit => none ) (fun _ : Unit => True) (fun _ : Unit => [wB g b st (apR r n p s h d) (n + 1)]) (zA [wB g b st r n])) 0 0 (zA [wB g b st r n]) := by
  refine z_entry (cc := cX0_append) (maxL := 5) (ret := none) (own := RX0) (by decide) rfl rfl (Nat.le_of_ble_eq_true rfl) [(0, .ref (b 0)), (1, .int (nI p)), (2, .int (nI s)), (3, .int (nI h)), (4, .int (nI d))] rfl ?_
  intro K hKl hKg hnL C R
  subst hKl
  subst hKg
  refine z_aload_n C 0 rfl rfl dX0_append_0 1 rfl ?_
  refine z_get C zc0 iX0_append_X0 0 0 rfl rfl 2 (Nat.le_of_ble_eq_true rfl) (List.mem_of_getElem? (i := 1) rfl) (v := .int (nI n)) rfl dX0_append_1 4 rfl ?_
  refine z_bipush C (v := nI 12) rfl dX0_append_4 6 rfl ?_
  refine z_icmp_lt C (by omega) (by omega) 10 dX0_append_6 (by decide) 9 rfl (fun c_1 => ?_) (fun c_1 => ?_)
  rotate_left
  · exfalso; omega
  refine z_aload_n C 0 rfl rfl dX0_append_10 11 rfl ?_
  refine z_get C zc0 iX0_append_X0 0 0 rfl rfl 1 (Nat.le_of_ble_eq_true rfl) (List.mem_of_getElem? (i := 2) rfl) (v := .ref (b 2)) rfl dX0_append_11 14 rfl ?_
  refine z_iconst C (v := nI 0) rfl dX0_append_14 15 rfl ?_
  refine z_aald C (y := (b 3)) 0 2 1 rfl rfl rfl rfl (by omega) (by decide) rfl dX0_append_15 16 rfl ?_
  refine z_aload_n C 0 rfl rfl dX0_append_16 17 rfl ?_
  refine z_get C zc0 iX0_append_X0 0 0 rfl rfl 2 (Nat.le_of_ble_eq_true rfl) (List.mem_of_getElem? (i := 1) rfl) (v := .int (nI n)) rfl dX0_append_17 20 rfl ?_
  refine z_iload_n C 1 rfl rfl dX0_append_20 21 rfl ?_
  refine z_iast C (f := (r 0)) 0 3 rfl rfl (by omega) (by decide) (wB K.g b st (un r 0 (un (r 0) n p)) n) rfl [wB K.g b st (un r 0 (un (r 0) n p)) n] rfl dX0_append_21 22 rfl ?_
  refine z_aload_n C 0 rfl rfl dX0_append_22 23 rfl ?_
  refine z_get C zc0 iX0_append_X0 0 0 rfl rfl 1 (Nat.le_of_ble_eq_true rfl) (List.mem_of_getElem? (i := 2) rfl) (v := .ref (b 2)) rfl dX0_append_23 26 rfl ?_
  refine z_iconst C (v := nI 1) rfl dX0_append_26 27 rfl ?_
  refine z_aald C (y := (b 4)) 0 2 1 rfl rfl rfl rfl (by omega) (by decide) rfl dX0_append_27 28 rfl ?_
  refine z_aload_n C 0 rfl rfl dX0_append_28 29 rfl ?_
  refine z_get C zc0 iX0_append_X0 0 0 rfl rfl 2 (Nat.le_of_ble_eq_true rfl) (List.mem_of_getElem? (i := 1) rfl) (v := .int (nI n)) rfl dX0_append_29 32 rfl ?_
  refine z_iload_n C 2 rfl rfl dX0_append_32 33 rfl ?_
  refine z_iast C (f := ((un r 0 (un (r 0) n p)) 1)) 0 4 rfl rfl (by omega) (by decide) (wB K.g b st (un (un r 0 (un (r 0) n p)) 1 (un ((un r 0 (un (r 0) n p)) 1) n s)) n) rfl [wB K.g b st (un (un r 0 (un (r 0) n p)) 1 (un ((un r 0 (un (r 0) n p)) 1) n s)) n] rfl dX0_append_33 34 rfl ?_
  refine z_aload_n C 0 rfl rfl dX0_append_34 35 rfl ?_
  refine z_get C zc0 iX0_append_X0 0 0 rfl rfl 1 (Nat.le_of_ble_eq_true rfl) (List.mem_of_getElem? (i := 2) rfl) (v := .ref (b 2)) rfl dX0_append_35 38 rfl ?_
  refine z_iconst C (v := nI 2) rfl dX0_append_38 39 rfl ?_
  refine z_aald C (y := (b 5)) 0 2 1 rfl rfl rfl rfl (by omega) (by decide) rfl dX0_append_39 40 rfl ?_
  refine z_aload_n C 0 rfl rfl dX0_append_40 41 rfl ?_
  refine z_get C zc0 iX0_append_X0 0 0 rfl rfl 2 (Nat.le_of_ble_eq_true rfl) (List.mem_of_getElem? (i := 1) rfl) (v := .int (nI n)) rfl dX0_append_41 44 rfl ?_
  refine z_iload_n C 3 rfl rfl dX0_append_44 45 rfl ?_
  refine z_iast C (f := ((un (un r 0 (un (r 0) n p)) 1 (un ((un r 0 (un (r 0) n p)) 1) n s)) 2)) 0 5 rfl rfl (by omega) (by decide) (wB K.g b st (un (un (un r 0 (un (r 0) n p)) 1 (un ((un r 0 (un (r 0) n p)) 1) n s)) 2 (un ((un (un r 0 (un (r 0) n p)) 1 (un ((un r 0 (un (r 0) n p)) 1) n s)) 2) n h)) n) rfl [wB K.g b st (un (un (un r 0 (un (r 0) n p)) 1 (un ((un r 0 (un (r 0) n p)) 1) n s)) 2 (un ((un (un r 0 (un (r 0) n p)) 1 (un ((un r 0 (un (r 0) n p)) 1) n s)) 2) n h)) n] rfl dX0_append_45 46 rfl ?_
  refine z_aload_n C 0 rfl rfl dX0_append_46 47 rfl ?_
  refine z_get C zc0 iX0_append_X0 0 0 rfl rfl 1 (Nat.le_of_ble_eq_true rfl) (List.mem_of_getElem? (i := 2) rfl) (v := .ref (b 2)) rfl dX0_append_47 50 rfl ?_
  refine z_iconst C (v := nI 3) rfl dX0_append_50 51 rfl ?_
  refine z_aald C (y := (b 6)) 0 2 1 rfl rfl rfl rfl (by omega) (by decide) rfl dX0_append_51 52 rfl ?_
  refine z_aload_n C 0 rfl rfl dX0_append_52 53 rfl ?_
  refine z_get C zc0 iX0_append_X0 0 0 rfl rfl 2 (Nat.le_of_ble_eq_true rfl) (List.mem_of_getElem? (i := 1) rfl) (v := .int (nI n)) rfl dX0_append_53 56 rfl ?_
  refine z_iload C 4 rfl dX0_append_56 58 rfl ?_
  refine z_iast C (f := ((un (un (un r 0 (un (r 0) n p)) 1 (un ((un r 0 (un (r 0) n p)) 1) n s)) 2 (un ((un (un r 0 (un (r 0) n p)) 1 (un ((un r 0 (un (r 0) n p)) 1) n s)) 2) n h)) 3)) 0 6 rfl rfl (by omega) (by decide) (wB K.g b st (un (un (un (un r 0 (un (r 0) n p)) 1 (un ((un r 0 (un (r 0) n p)) 1) n s)) 2 (un ((un (un r 0 (un (r 0) n p)) 1 (un ((un r 0 (un (r 0) n p)) 1) n s)) 2) n h)) 3 (un ((un (un (un r 0 (un (r 0) n p)) 1 (un ((un r 0 (un (r 0) n p)) 1) n s)) 2 (un ((un (un r 0 (un (r 0) n p)) 1 (un ((un r 0 (un (r 0) n p)) 1) n s)) 2) n h)) 3) n d)) n) rfl [wB K.g b st (un (un (un (un r 0 (un (r 0) n p)) 1 (un ((un r 0 (un (r 0) n p)) 1) n s)) 2 (un ((un (un r 0 (un (r 0) n p)) 1 (un ((un r 0 (un (r 0) n p)) 1) n s)) 2) n h)) 3 (un ((un (un (un r 0 (un (r 0) n p)) 1 (un ((un r 0 (un (r 0) n p)) 1) n s)) 2 (un ((un (un r 0 (un (r 0) n p)) 1 (un ((un r 0 (un (r 0) n p)) 1) n s)) 2) n h)) 3) n d)) n] rfl dX0_append_58 59 rfl ?_
  refine z_aload_n C 0 rfl rfl dX0_append_59 60 rfl ?_
  refine z_dup C rfl dX0_append_60 61 rfl ?_
  refine z_get C zc0 iX0_append_X0 0 0 rfl rfl 2 (Nat.le_of_ble_eq_true rfl) (List.mem_of_getElem? (i := 1) rfl) (v := .int (nI n)) rfl dX0_append_61 64 rfl ?_
  refine z_iconst C (v := nI 1) rfl dX0_append_64 65 rfl ?_
  refine z_iadd C dX0_append_65 66 rfl ?_
  refine z_put C zc0 iX0_append_X0 0 0 rfl rfl 2 (Nat.le_of_ble_eq_true rfl) (List.mem_of_getElem? (i := 1) rfl) rfl rfl rfl (Nat.le_of_ble_eq_true rfl) (wB K.g b st (un (un (un (un r 0 (un (r 0) n p)) 1 (un ((un r 0 (un (r 0) n p)) 1) n s)) 2 (un ((un (un r 0 (un (r 0) n p)) 1 (un ((un r 0 (un (r 0) n p)) 1) n s)) 2) n h)) 3 (un ((un (un (un r 0 (un (r 0) n p)) 1 (un ((un r 0 (un (r 0) n p)) 1) n s)) 2 (un ((un (un r 0 (un (r 0) n p)) 1 (un ((un r 0 (un (r 0) n p)) 1) n s)) 2) n h)) 3) n d)) (n + 1)) rfl [wB K.g b st (un (un (un (un r 0 (un (r 0) n p)) 1 (un ((un r 0 (un (r 0) n p)) 1) n s)) 2 (un ((un (un r 0 (un (r 0) n p)) 1 (un ((un r 0 (un (r 0) n p)) 1) n s)) 2) n h)) 3 (un ((un (un (un r 0 (un (r 0) n p)) 1 (un ((un r 0 (un (r 0) n p)) 1) n s)) 2 (un ((un (un r 0 (un (r 0) n p)) 1 (un ((un r 0 (un (r 0) n p)) 1) n s)) 2) n h)) 3) n d)) (n + 1)] rfl dX0_append_66 69 rfl ?_
  refine z_wB 0 rfl st (apR r n p s h d) (fun _ _ => rfl) (by intro k hk y hy; rcases (show k = 0 ∨ k = 1 ∨ k = 2 ∨ k = 3 by omega) with rfl | rfl | rfl | rfl <;> rfl) [wB K.g b st (apR r n p s h d) (n + 1)] rfl ?_
  exact z_vret C R dX0_append_69 () rfl trivial rfl

theorem iX0_appendAll_X0 : ∀ w ∈ u_ws RX0 TX0 3, w ∈ wsX0_appendAll := fun w h => (List.mem_cons_of_mem _ (List.mem_append_right _ h))
set_option maxHeartbeats 4000000 in
set_option maxRecDepth 100000 in
theorem tX0_appendAll (l : Launch) (g : zG) (b st : Nat → Nat) (r : Nat → Nat → Nat) (n : Nat) (o so : Nat → Nat) (ro : Nat → Nat → Nat) (no : Nat) (hn : n + no ≤ 12) : Met l yX0_appendAll wsX0_appendAll ({ frames := 1, cells := 0, slots := 0, locals := 24 } : Room) (zPre g [.ref (b 0), .ref (o 0)] [wB g b st r n, wB g o so ro no]) (zQ g (fun _ : Unit => none ) (fun _ : Unit => True) (fun _ : Unit => [wB g b st (apA r n ro no) (n + no), wB g o so ro no]) (zA [wB g b st r n, wB g o so ro no])) 0 0 (zA [wB g b st r n, wB g o so ro no]) := by
  refine z_entry (cc := cX0_appendAll) (maxL := 3) (ret := none) (own := RX0) (by decide) rfl rfl (Nat.le_of_ble_eq_true rfl) [(0, .ref (b 0)), (1, .ref (o 0))] rfl ?_
  intro K hKl hKg hnL C R
  subst hKl
  subst hKg
  refine z_iconst C (v := nI 0) rfl dX0_appendAll_0 1 rfl ?_
  refine z_istore_n C hnL [1, 2, 0] [(0, .ref (b 0)), (1, .ref (o 0)), (2, .int (nI 0))] rfl rfl (Nat.le_of_ble_eq_true rfl) dX0_appendAll_1 2 rfl ?_
  have loop2 : ∀ (mu : Nat) (i : Nat), mu = no - i → i ≤ no → Z K 0 0 [wB K.g b st (apA r n ro i) (n + i), wB K.g o so ro no] [(0, .ref (b 0)), (1, .ref (o 0)), (2, .int (nI i))] 2 [] := by
    refine z_ind (fun mu ih2 => ?_)
    intro i hmu2 hi
    refine z_iload_n C 2 rfl rfl dX0_appendAll_2 3 rfl ?_
    refine z_aload_n C 1 rfl rfl dX0_appendAll_3 4 rfl ?_
    refine z_get C zc0 iX0_appendAll_X0 1 0 rfl rfl 2 (Nat.le_of_ble_eq_true rfl) (List.mem_of_getElem? (i := 1) rfl) (v := .int (nI no)) rfl dX0_appendAll_4 7 rfl ?_
    refine z_icmp_ge C (by omega) (by omega) 52 dX0_appendAll_7 (by decide) 10 rfl (fun c_1 => ?_) (fun c_1 => ?_)
    · skip
      obtain rfl : i = no := by omega
      exact z_vret C R dX0_appendAll_52 () rfl trivial rfl
    · skip
      refine z_aload_n C 0 rfl rfl dX0_appendAll_10 11 rfl ?_
      refine z_aload_n C 1 rfl rfl dX0_appendAll_11 12 rfl ?_
      refine z_get C zc0 iX0_appendAll_X0 1 0 rfl rfl 1 (Nat.le_of_ble_eq_true rfl) (List.mem_of_getElem? (i := 2) rfl) (v := .ref (o 2)) rfl dX0_appendAll_12 15 rfl ?_
      refine z_iconst C (v := nI 0) rfl dX0_appendAll_15 16 rfl ?_
      refine z_aald C (y := (o 3)) 1 2 1 rfl rfl rfl rfl (by omega) (by decide) rfl dX0_appendAll_16 17 rfl ?_
      refine z_iload_n C 2 rfl rfl dX0_appendAll_17 18 rfl ?_
      refine z_iald C (f := (ro 0)) 1 3 rfl rfl (by omega) (by decide) dX0_appendAll_18 19 rfl ?_
      refine z_aload_n C 1 rfl rfl dX0_appendAll_19 20 rfl ?_
      refine z_get C zc0 iX0_appendAll_X0 1 0 rfl rfl 1 (Nat.le_of_ble_eq_true rfl) (List.mem_of_getElem? (i := 2) rfl) (v := .ref (o 2)) rfl dX0_appendAll_20 23 rfl ?_
      refine z_iconst C (v := nI 1) rfl dX0_appendAll_23 24 rfl ?_
      refine z_aald C (y := (o 4)) 1 2 1 rfl rfl rfl rfl (by omega) (by decide) rfl dX0_appendAll_24 25 rfl ?_
      refine z_iload_n C 2 rfl rfl dX0_appendAll_25 26 rfl ?_
      refine z_iald C (f := (ro 1)) 1 4 rfl rfl (by omega) (by decide) dX0_appendAll_26 27 rfl ?_
      refine z_aload_n C 1 rfl rfl dX0_appendAll_27 28 rfl ?_
      refine z_get C zc0 iX0_appendAll_X0 1 0 rfl rfl 1 (Nat.le_of_ble_eq_true rfl) (List.mem_of_getElem? (i := 2) rfl) (v := .ref (o 2)) rfl dX0_appendAll_28 31 rfl ?_
      refine z_iconst C (v := nI 2) rfl dX0_appendAll_31 32 rfl ?_
      refine z_aald C (y := (o 5)) 1 2 1 rfl rfl rfl rfl (by omega) (by decide) rfl dX0_appendAll_32 33 rfl ?_
      refine z_iload_n C 2 rfl rfl dX0_appendAll_33 34 rfl ?_
      refine z_iald C (f := (ro 2)) 1 5 rfl rfl (by omega) (by decide) dX0_appendAll_34 35 rfl ?_
      refine z_aload_n C 1 rfl rfl dX0_appendAll_35 36 rfl ?_
      refine z_get C zc0 iX0_appendAll_X0 1 0 rfl rfl 1 (Nat.le_of_ble_eq_true rfl) (List.mem_of_getElem? (i := 2) rfl) (v := .ref (o 2)) rfl dX0_appendAll_36 39 rfl ?_
      refine z_iconst C (v := nI 3) rfl dX0_appendAll_39 40 rfl ?_
      refine z_aald C (y := (o 6)) 1 2 1 rfl rfl rfl rfl (by omega) (by decide) rfl dX0_appendAll_40 41 rfl ?_
      refine z_iload_n C 2 rfl rfl dX0_appendAll_41 42 rfl ?_
      refine z_iald C (f := (ro 3)) 1 6 rfl rfl (by omega) (by decide) dX0_appendAll_42 43 rfl ?_
      refine z_callV C [.int (nI (ro 0 i)), .int (nI (ro 1 i)), .int (nI (ro 2 i)), .int (nI (ro 3 i))] [] (tX0_append K.l K.g b st (apA r n ro i) (n + i) (ro 0 i) (ro 1 i) (ro 2 i) (ro 3 i) (by first | omega | assumption)) gX0_appendAll_X0_append rfl rfl rfl hdX0_append ⟨Nat.le_of_ble_eq_true rfl, Nat.le_of_ble_eq_true rfl⟩ ⟨Nat.zero_le _, Nat.zero_le _⟩ 0 0 rfl rfl rfl [0] rfl rfl (zlc (N := 2) rfl rfl) [2, 1] rfl (by decide) (fun _ : Unit => [wB K.g b st (apR (apA r n ro i) (n + i) (ro 0 i) (ro 1 i) (ro 2 i) (ro 3 i)) ((n + i) + 1), wB K.g o so ro no]) (fun _ => rfl) rfl rfl (Nat.le_of_ble_eq_true rfl) dX0_appendAll_43 46 rfl (fun u hu => ?_)
      show Z K 0 0 [wB K.g b st (apR (apA r n ro i) (n + i) (ro 0 i) (ro 1 i) (ro 2 i) (ro 3 i)) ((n + i) + 1), wB K.g o so ro no] [(0, .ref (b 0)), (1, .ref (o 0)), (2, .int (nI i))] 46 []
      refine z_iinc C hnL 2 rfl (v := (nI (i + 1))) (nI_1 _) [1, 2, 0] [(0, .ref (b 0)), (1, .ref (o 0)), (2, .int (nI (i + 1)))] rfl (Nat.le_of_ble_eq_true rfl) dX0_appendAll_46 49 rfl ?_
      refine z_goto C 2 dX0_appendAll_49 (by decide) ?_
      exact ih2 _ (by omega) (i + 1) rfl (by omega)
  exact loop2 _ 0 rfl (by omega)

theorem iX0_shift_X0 : ∀ w ∈ u_ws RX0 TX0 3, w ∈ wsX0_shift := fun w h => (List.mem_cons_of_mem _ (List.mem_append_right _ h))
set_option maxHeartbeats 4000000 in
set_option maxRecDepth 100000 in
theorem tX0_shift (l : Launch) (g : zG) (b st : Nat → Nat) (r : Nat → Nat → Nat) (n : Nat) (f t : Nat) (hf : f < 12) (ht : t < 12) : Met l yX0_shift wsX0_shift ({ frames := 0, cells := 0, slots := 0, locals := 0 } : Room) (zPre g [.ref (b 0), .int (nI f), .int (nI t)] [wB g b st r n]) (zQ g (fun _ : Unit => none ) (fun _ : Unit => True) (fun _ : Unit => [wB g b st (fun k => shf (r k) f t) n]) (zA [wB g b st r n])) 0 0 (zA [wB g b st r n]) := by
  refine z_entry (cc := cX0_shift) (maxL := 9) (ret := none) (own := RX0) (by decide) rfl rfl (Nat.le_of_ble_eq_true rfl) [(0, .ref (b 0)), (1, .int (nI f)), (2, .int (nI t))] rfl ?_
  intro K hKl hKg hnL C R
  subst hKl
  subst hKg
  refine z_aload_n C 0 rfl rfl dX0_shift_0 1 rfl ?_
  refine z_get C zc0 iX0_shift_X0 0 0 rfl rfl 1 (Nat.le_of_ble_eq_true rfl) (List.mem_of_getElem? (i := 1) rfl) (v := .ref (b 2)) rfl dX0_shift_1 4 rfl ?_
  refine z_astore_n C hnL [1, 2, 3, 0] [(0, .ref (b 0)), (1, .int (nI f)), (2, .int (nI t)), (3, .ref (b 2))] rfl rfl (Nat.le_of_ble_eq_true rfl) dX0_shift_4 5 rfl ?_
  refine z_aload_n C 3 rfl rfl dX0_shift_5 6 rfl ?_
  refine z_alen C 0 2 1 rfl rfl rfl (v := 4) rfl dX0_shift_6 7 rfl ?_
  refine z_istore C hnL [1, 2, 3, 4, 0] [(0, .ref (b 0)), (1, .int (nI f)), (2, .int (nI t)), (3, .ref (b 2)), (4, .int (nI 4))] rfl (Nat.le_of_ble_eq_true rfl) dX0_shift_7 9 rfl ?_
  refine z_iconst C (v := nI 0) rfl dX0_shift_9 10 rfl ?_
  refine z_istore C hnL [1, 2, 3, 4, 5, 0] [(0, .ref (b 0)), (1, .int (nI f)), (2, .int (nI t)), (3, .ref (b 2)), (4, .int (nI 4)), (5, .int (nI 0))] rfl (Nat.le_of_ble_eq_true rfl) dX0_shift_10 12 rfl ?_
  have loop12 : ∀ (mu : Nat) (i : Nat), mu = 4 - i → i ≤ 4 → Z K 0 0 [wB K.g b st (fun k => if k < i then shf (r k) f t else r k) n] [(0, .ref (b 0)), (1, .int (nI f)), (2, .int (nI t)), (3, .ref (b 2)), (4, .int (nI 4)), (5, .int (nI i))] 12 [] := by
    refine z_ind (fun mu ih12 => ?_)
    intro i hmu12 hi
    refine z_iload C 5 rfl dX0_shift_12 14 rfl ?_
    refine z_iload C 4 rfl dX0_shift_14 16 rfl ?_
    refine z_icmp_ge C (by omega) (by omega) 97 dX0_shift_16 (by decide) 19 rfl (fun c_1 => ?_) (fun c_1 => ?_)
    · skip
      refine z_wB 0 rfl st (fun k => shf (r k) f t) (fun _ _ => rfl) (by intro k hk y hy; rw [if_pos (by omega)]) [wB K.g b st (fun k => shf (r k) f t) n] rfl ?_
      exact z_vret C R dX0_shift_97 () rfl trivial rfl
    · skip
      refine z_aload_n C 3 rfl rfl dX0_shift_19 20 rfl ?_
      refine z_iload C 5 rfl dX0_shift_20 22 rfl ?_
      refine z_aald C (y := (b (3 + i))) 0 2 1 rfl rfl rfl rfl (by omega) (by decide) rfl dX0_shift_22 23 rfl ?_
      refine z_astore C hnL [1, 2, 3, 4, 5, 6, 0] [(0, .ref (b 0)), (1, .int (nI f)), (2, .int (nI t)), (3, .ref (b 2)), (4, .int (nI 4)), (5, .int (nI i)), (6, .ref (b (3 + i)))] rfl (Nat.le_of_ble_eq_true rfl) dX0_shift_23 25 rfl ?_
      refine z_aload C 6 rfl dX0_shift_25 27 rfl ?_
      refine z_iload_n C 1 rfl rfl dX0_shift_27 28 rfl ?_
      refine z_iald C (f := ((fun k => if k < i then shf (r k) f t else r k) i)) 0 (3 + i) rfl (wB_row (by omega)) (by omega) (by decide) dX0_shift_28 29 rfl ?_
      refine z_top (y := nI (r i f)) (by show nI ((if i < i then shf (r i) f t else r i) f) = _; rw [if_neg (Nat.lt_irrefl i)]) ?_
      refine z_istore C hnL [1, 2, 3, 4, 5, 6, 7, 0] [(0, .ref (b 0)), (1, .int (nI f)), (2, .int (nI t)), (3, .ref (b 2)), (4, .int (nI 4)), (5, .int (nI i)), (6, .ref (b (3 + i))), (7, .int (nI (r i f)))] rfl (Nat.le_of_ble_eq_true rfl) dX0_shift_29 31 rfl ?_
      refine z_iload_n C 1 rfl rfl dX0_shift_31 32 rfl ?_
      refine z_istore C hnL [1, 2, 3, 4, 5, 6, 7, 8, 0] [(0, .ref (b 0)), (1, .int (nI f)), (2, .int (nI t)), (3, .ref (b 2)), (4, .int (nI 4)), (5, .int (nI i)), (6, .ref (b (3 + i))), (7, .int (nI (r i f))), (8, .int (nI f))] rfl (Nat.le_of_ble_eq_true rfl) dX0_shift_32 34 rfl ?_
      have loop34 : ∀ (mu : Nat) (p : Nat), mu = t - p → f ≤ p → p ≤ t ∨ p = f → Z K 0 0 [wB K.g b st (fun k => if k < i then shf (r k) f t else if k = i then upS (r k) f p else r k) n] [(0, .ref (b 0)), (1, .int (nI f)), (2, .int (nI t)), (3, .ref (b 2)), (4, .int (nI 4)), (5, .int (nI i)), (6, .ref (b (3 + i))), (7, .int (nI (r i f))), (8, .int (nI p))] 34 [] := by
        refine z_ind (fun mu ih34 => ?_)
        intro p hmu34 hp hp2
        refine z_iload C 8 rfl dX0_shift_34 36 rfl ?_
        refine z_iload_n C 2 rfl rfl dX0_shift_36 37 rfl ?_
        refine z_icmp_ge C (by omega) (by omega) 58 dX0_shift_37 (by decide) 40 rfl (fun c_2 => ?_) (fun c_2 => ?_)
        · skip
          refine z_iload_n C 1 rfl rfl dX0_shift_58 59 rfl ?_
          refine z_istore C hnL [1, 2, 3, 4, 5, 6, 7, 8, 0] [(0, .ref (b 0)), (1, .int (nI f)), (2, .int (nI t)), (3, .ref (b 2)), (4, .int (nI 4)), (5, .int (nI i)), (6, .ref (b (3 + i))), (7, .int (nI (r i f))), (8, .int (nI f))] rfl (Nat.le_of_ble_eq_true rfl) dX0_shift_59 61 rfl ?_
          have loop61 : ∀ (mu : Nat) (p : Nat), mu = p - t → p ≤ f → t ≤ p ∨ p = f → Z K 0 0 [wB K.g b st (fun k => if k < i then shf (r k) f t else if k = i then dnS (r k) f t p else r k) n] [(0, .ref (b 0)), (1, .int (nI f)), (2, .int (nI t)), (3, .ref (b 2)), (4, .int (nI 4)), (5, .int (nI i)), (6, .ref (b (3 + i))), (7, .int (nI (r i f))), (8, .int (nI p))] 61 [] := by
            refine z_ind (fun mu ih61 => ?_)
            intro p hmu61 hp hp2
            refine z_iload C 8 rfl dX0_shift_61 63 rfl ?_
            refine z_iload_n C 2 rfl rfl dX0_shift_63 64 rfl ?_
            refine z_icmp_le C (by omega) (by omega) 85 dX0_shift_64 (by decide) 67 rfl (fun c_3 => ?_) (fun c_3 => ?_)
            · skip
              refine z_aload C 6 rfl dX0_shift_85 87 rfl ?_
              refine z_iload_n C 2 rfl rfl dX0_shift_87 88 rfl ?_
              refine z_iload C 7 rfl dX0_shift_88 90 rfl ?_
              refine z_iast C (f := ((fun k => if k < i then shf (r k) f t else if k = i then dnS (r k) f t p else r k) i)) 0 (3 + i) rfl (wB_row (by omega)) (by omega) (by decide) (wB K.g b st (un (fun k => if k < i then shf (r k) f t else if k = i then dnS (r k) f t p else r k) i (un ((fun k => if k < i then shf (r k) f t else if k = i then dnS (r k) f t p else r k) i) t (r i f))) n) (wB_set (by omega)) [wB K.g b st (un (fun k => if k < i then shf (r k) f t else if k = i then dnS (r k) f t p else r k) i (un ((fun k => if k < i then shf (r k) f t else if k = i then dnS (r k) f t p else r k) i) t (r i f))) n] rfl dX0_shift_90 91 rfl ?_
              refine z_iinc C hnL 5 rfl (v := (nI (i + 1))) (nI_1 _) [1, 2, 3, 4, 5, 0, 6, 7, 8] [(0, .ref (b 0)), (1, .int (nI f)), (2, .int (nI t)), (3, .ref (b 2)), (4, .int (nI 4)), (5, .int (nI (i + 1))), (6, .ref (b (3 + i))), (7, .int (nI (r i f))), (8, .int (nI p))] rfl (Nat.le_of_ble_eq_true rfl) dX0_shift_91 94 rfl ?_
              refine z_goto C 12 dX0_shift_94 (by decide) ?_
              refine z_lv [0, 1, 2, 3, 4, 5] [(0, .ref (b 0)), (1, .int (nI f)), (2, .int (nI t)), (3, .ref (b 2)), (4, .int (nI 4)), (5, .int (nI (i + 1)))] rfl ?_
              refine z_wB 0 rfl st (fun k => if k < i + 1 then shf (r k) f t else r k) (fun _ _ => rfl) (by intro k hk y hy; (try simp only [reduceIte, Nat.lt_irrefl, un, zia, shf, upS, dnS]); (repeat' split); all_goals first | rfl | omega | (congr 1 <;> omega) | (congr 2 <;> omega) | (exfalso; omega) | (subst_vars; first | rfl | (exfalso; omega) | (congr 1 <;> omega))) [wB K.g b st (fun k => if k < i + 1 then shf (r k) f t else r k) n] rfl ?_
              exact ih12 _ (by omega) (i + 1) rfl (by omega)
            · skip
              refine z_aload C 6 rfl dX0_shift_67 69 rfl ?_
              refine z_iload C 8 rfl dX0_shift_69 71 rfl ?_
              refine z_aload C 6 rfl dX0_shift_71 73 rfl ?_
              refine z_iload C 8 rfl dX0_shift_73 75 rfl ?_
              refine z_iconst C (v := nI 1) rfl dX0_shift_75 76 rfl ?_
              refine z_isub C (by omega) dX0_shift_76 77 rfl ?_
              refine z_iald C (f := ((fun k => if k < i then shf (r k) f t else if k = i then dnS (r k) f t p else r k) i)) 0 (3 + i) rfl (wB_row (by omega)) (by omega) (by decide) dX0_shift_77 78 rfl ?_
              refine z_iast C (f := ((fun k => if k < i then shf (r k) f t else if k = i then dnS (r k) f t p else r k) i)) 0 (3 + i) rfl (wB_row (by omega)) (by omega) (by decide) (wB K.g b st (un (fun k => if k < i then shf (r k) f t else if k = i then dnS (r k) f t p else r k) i (un ((fun k => if k < i then shf (r k) f t else if k = i then dnS (r k) f t p else r k) i) p ((fun k => if k < i then shf (r k) f t else if k = i then dnS (r k) f t p else r k) i (p - 1)))) n) (wB_set (by omega)) [wB K.g b st (un (fun k => if k < i then shf (r k) f t else if k = i then dnS (r k) f t p else r k) i (un ((fun k => if k < i then shf (r k) f t else if k = i then dnS (r k) f t p else r k) i) p ((fun k => if k < i then shf (r k) f t else if k = i then dnS (r k) f t p else r k) i (p - 1)))) n] rfl dX0_shift_78 79 rfl ?_
              refine z_iinc C hnL 8 rfl (v := (nI (p - 1))) (z_dec (by omega)) [1, 2, 3, 4, 5, 6, 7, 8, 0] [(0, .ref (b 0)), (1, .int (nI f)), (2, .int (nI t)), (3, .ref (b 2)), (4, .int (nI 4)), (5, .int (nI i)), (6, .ref (b (3 + i))), (7, .int (nI (r i f))), (8, .int (nI (p - 1)))] rfl (Nat.le_of_ble_eq_true rfl) dX0_shift_79 82 rfl ?_
              refine z_goto C 61 dX0_shift_82 (by decide) ?_
              refine z_wB 0 rfl st (fun k => if k < i then shf (r k) f t else if k = i then dnS (r k) f t (p - 1) else r k) (fun _ _ => rfl) (by intro k hk y hy; (try simp only [reduceIte, Nat.lt_irrefl, un, zia, shf, upS, dnS]); (repeat' split); all_goals first | rfl | omega | (congr 1 <;> omega) | (congr 2 <;> omega) | (exfalso; omega) | (subst_vars; first | rfl | (exfalso; omega) | (congr 1 <;> omega))) [wB K.g b st (fun k => if k < i then shf (r k) f t else if k = i then dnS (r k) f t (p - 1) else r k) n] rfl ?_
              exact ih61 _ (by omega) (p - 1) rfl (by omega) (by omega)
          refine z_wB 0 rfl st (fun k => if k < i then shf (r k) f t else if k = i then dnS (r k) f t f else r k) (fun _ _ => rfl) (by intro k hk y hy; (try simp only [reduceIte, Nat.lt_irrefl, un, zia, shf, upS, dnS]); (repeat' split); all_goals first | rfl | omega | (congr 1 <;> omega) | (congr 2 <;> omega) | (exfalso; omega) | (subst_vars; first | rfl | (exfalso; omega) | (congr 1 <;> omega))) [wB K.g b st (fun k => if k < i then shf (r k) f t else if k = i then dnS (r k) f t f else r k) n] rfl ?_
          exact loop61 _ f rfl (Nat.le_refl _) (Or.inr rfl)
        · skip
          refine z_aload C 6 rfl dX0_shift_40 42 rfl ?_
          refine z_iload C 8 rfl dX0_shift_42 44 rfl ?_
          refine z_aload C 6 rfl dX0_shift_44 46 rfl ?_
          refine z_iload C 8 rfl dX0_shift_46 48 rfl ?_
          refine z_iconst C (v := nI 1) rfl dX0_shift_48 49 rfl ?_
          refine z_iadd C dX0_shift_49 50 rfl ?_
          refine z_iald C (f := ((fun k => if k < i then shf (r k) f t else if k = i then upS (r k) f p else r k) i)) 0 (3 + i) rfl (wB_row (by omega)) (by omega) (by decide) dX0_shift_50 51 rfl ?_
          refine z_iast C (f := ((fun k => if k < i then shf (r k) f t else if k = i then upS (r k) f p else r k) i)) 0 (3 + i) rfl (wB_row (by omega)) (by omega) (by decide) (wB K.g b st (un (fun k => if k < i then shf (r k) f t else if k = i then upS (r k) f p else r k) i (un ((fun k => if k < i then shf (r k) f t else if k = i then upS (r k) f p else r k) i) p ((fun k => if k < i then shf (r k) f t else if k = i then upS (r k) f p else r k) i (p + 1)))) n) (wB_set (by omega)) [wB K.g b st (un (fun k => if k < i then shf (r k) f t else if k = i then upS (r k) f p else r k) i (un ((fun k => if k < i then shf (r k) f t else if k = i then upS (r k) f p else r k) i) p ((fun k => if k < i then shf (r k) f t else if k = i then upS (r k) f p else r k) i (p + 1)))) n] rfl dX0_shift_51 52 rfl ?_
          refine z_iinc C hnL 8 rfl (v := (nI (p + 1))) (nI_1 _) [1, 2, 3, 4, 5, 6, 7, 8, 0] [(0, .ref (b 0)), (1, .int (nI f)), (2, .int (nI t)), (3, .ref (b 2)), (4, .int (nI 4)), (5, .int (nI i)), (6, .ref (b (3 + i))), (7, .int (nI (r i f))), (8, .int (nI (p + 1)))] rfl (Nat.le_of_ble_eq_true rfl) dX0_shift_52 55 rfl ?_
          refine z_goto C 34 dX0_shift_55 (by decide) ?_
          refine z_wB 0 rfl st (fun k => if k < i then shf (r k) f t else if k = i then upS (r k) f (p + 1) else r k) (fun _ _ => rfl) (by intro k hk y hy; (try simp only [reduceIte, Nat.lt_irrefl, un, zia, shf, upS, dnS]); (repeat' split); all_goals first | rfl | omega | (congr 1 <;> omega) | (congr 2 <;> omega) | (exfalso; omega) | (subst_vars; first | rfl | (exfalso; omega) | (congr 1 <;> omega))) [wB K.g b st (fun k => if k < i then shf (r k) f t else if k = i then upS (r k) f (p + 1) else r k) n] rfl ?_
          exact ih34 _ (by omega) (p + 1) rfl (by omega) (by omega)
      refine z_wB 0 rfl st (fun k => if k < i then shf (r k) f t else if k = i then upS (r k) f f else r k) (fun _ _ => rfl) (by intro k hk y hy; (try simp only [reduceIte, Nat.lt_irrefl, un, zia, shf, upS, dnS]); (repeat' split); all_goals first | rfl | omega | (congr 1 <;> omega) | (congr 2 <;> omega) | (exfalso; omega) | (subst_vars; first | rfl | (exfalso; omega) | (congr 1 <;> omega))) [wB K.g b st (fun k => if k < i then shf (r k) f t else if k = i then upS (r k) f f else r k) n] rfl ?_
      exact loop34 _ f rfl (Nat.le_refl _) (Or.inr rfl)
  refine z_wB 0 rfl st (fun k => if k < 0 then shf (r k) f t else r k) (fun _ _ => rfl) (by intro k hk y hy; rw [if_neg (by omega)]) [wB K.g b st (fun k => if k < 0 then shf (r k) f t else r k) n] rfl ?_
  exact loop12 _ 0 rfl (by omega)

theorem iX0_exchange_X0 : ∀ w ∈ u_ws RX0 TX0 3, w ∈ wsX0_exchange := fun w h => (List.mem_cons_of_mem _ (List.mem_append_right _ h))
set_option maxHeartbeats 4000000 in
set_option maxRecDepth 100000 in
theorem tX0_exchange (l : Launch) (g : zG) (b st : Nat → Nat) (r : Nat → Nat → Nat) (n : Nat) (f t : Nat) (hf : f < 12) (ht : t < 12) : Met l yX0_exchange wsX0_exchange ({ frames := 0, cells := 0, slots := 0, locals := 0 } : Room) (zPre g [.ref (b 0), .int (nI f), .int (nI t)] [wB g b st r n]) (zQ g (fun _ : Unit => none ) (fun _ : Unit => True) (fun _ : Unit => [wB g b st (fun k => swp (r k) f t) n]) (zA [wB g b st r n])) 0 0 (zA [wB g b st r n]) := by
  refine z_entry (cc := cX0_exchange) (maxL := 8) (ret := none) (own := RX0) (by decide) rfl rfl (Nat.le_of_ble_eq_true rfl) [(0, .ref (b 0)), (1, .int (nI f)), (2, .int (nI t))] rfl ?_
  intro K hKl hKg hnL C R
  subst hKl
  subst hKg
  refine z_aload_n C 0 rfl rfl dX0_exchange_0 1 rfl ?_
  refine z_get C zc0 iX0_exchange_X0 0 0 rfl rfl 1 (Nat.le_of_ble_eq_true rfl) (List.mem_of_getElem? (i := 1) rfl) (v := .ref (b 2)) rfl dX0_exchange_1 4 rfl ?_
  refine z_astore_n C hnL [1, 2, 3, 0] [(0, .ref (b 0)), (1, .int (nI f)), (2, .int (nI t)), (3, .ref (b 2))] rfl rfl (Nat.le_of_ble_eq_true rfl) dX0_exchange_4 5 rfl ?_
  refine z_aload_n C 3 rfl rfl dX0_exchange_5 6 rfl ?_
  refine z_alen C 0 2 1 rfl rfl rfl (v := 4) rfl dX0_exchange_6 7 rfl ?_
  refine z_istore C hnL [1, 2, 3, 4, 0] [(0, .ref (b 0)), (1, .int (nI f)), (2, .int (nI t)), (3, .ref (b 2)), (4, .int (nI 4))] rfl (Nat.le_of_ble_eq_true rfl) dX0_exchange_7 9 rfl ?_
  refine z_iconst C (v := nI 0) rfl dX0_exchange_9 10 rfl ?_
  refine z_istore C hnL [1, 2, 3, 4, 5, 0] [(0, .ref (b 0)), (1, .int (nI f)), (2, .int (nI t)), (3, .ref (b 2)), (4, .int (nI 4)), (5, .int (nI 0))] rfl (Nat.le_of_ble_eq_true rfl) dX0_exchange_10 12 rfl ?_
  have loop12 : ∀ (mu : Nat) (i : Nat), mu = 4 - i → i ≤ 4 → Z K 0 0 [wB K.g b st (fun k => if k < i then swp (r k) f t else r k) n] [(0, .ref (b 0)), (1, .int (nI f)), (2, .int (nI t)), (3, .ref (b 2)), (4, .int (nI 4)), (5, .int (nI i))] 12 [] := by
    refine z_ind (fun mu ih12 => ?_)
    intro i hmu12 hi
    refine z_iload C 5 rfl dX0_exchange_12 14 rfl ?_
    refine z_iload C 4 rfl dX0_exchange_14 16 rfl ?_
    refine z_icmp_ge C (by omega) (by omega) 51 dX0_exchange_16 (by decide) 19 rfl (fun c_1 => ?_) (fun c_1 => ?_)
    · skip
      refine z_wB 0 rfl st (fun k => swp (r k) f t) (fun _ _ => rfl) (by intro k hk y hy; rw [if_pos (by omega)]) [wB K.g b st (fun k => swp (r k) f t) n] rfl ?_
      exact z_vret C R dX0_exchange_51 () rfl trivial rfl
    · skip
      refine z_aload_n C 3 rfl rfl dX0_exchange_19 20 rfl ?_
      refine z_iload C 5 rfl dX0_exchange_20 22 rfl ?_
      refine z_aald C (y := (b (3 + i))) 0 2 1 rfl rfl rfl rfl (by omega) (by decide) rfl dX0_exchange_22 23 rfl ?_
      refine z_astore C hnL [1, 2, 3, 4, 5, 6, 0] [(0, .ref (b 0)), (1, .int (nI f)), (2, .int (nI t)), (3, .ref (b 2)), (4, .int (nI 4)), (5, .int (nI i)), (6, .ref (b (3 + i)))] rfl (Nat.le_of_ble_eq_true rfl) dX0_exchange_23 25 rfl ?_
      refine z_aload C 6 rfl dX0_exchange_25 27 rfl ?_
      refine z_iload_n C 1 rfl rfl dX0_exchange_27 28 rfl ?_
      refine z_iald C (f := ((fun k => if k < i then swp (r k) f t else r k) i)) 0 (3 + i) rfl (wB_row (by omega)) (by omega) (by decide) dX0_exchange_28 29 rfl ?_
      refine z_istore C hnL [1, 2, 3, 4, 5, 6, 7, 0] [(0, .ref (b 0)), (1, .int (nI f)), (2, .int (nI t)), (3, .ref (b 2)), (4, .int (nI 4)), (5, .int (nI i)), (6, .ref (b (3 + i))), (7, .int (nI ((fun k => if k < i then swp (r k) f t else r k) i f)))] rfl (Nat.le_of_ble_eq_true rfl) dX0_exchange_29 31 rfl ?_
      refine z_aload C 6 rfl dX0_exchange_31 33 rfl ?_
      refine z_iload_n C 1 rfl rfl dX0_exchange_33 34 rfl ?_
      refine z_aload C 6 rfl dX0_exchange_34 36 rfl ?_
      refine z_iload_n C 2 rfl rfl dX0_exchange_36 37 rfl ?_
      refine z_iald C (f := ((fun k => if k < i then swp (r k) f t else r k) i)) 0 (3 + i) rfl (wB_row (by omega)) (by omega) (by decide) dX0_exchange_37 38 rfl ?_
      refine z_iast C (f := ((fun k => if k < i then swp (r k) f t else r k) i)) 0 (3 + i) rfl (wB_row (by omega)) (by omega) (by decide) (wB K.g b st (un (fun k => if k < i then swp (r k) f t else r k) i (un ((fun k => if k < i then swp (r k) f t else r k) i) f ((fun k => if k < i then swp (r k) f t else r k) i t))) n) (wB_set (by omega)) [wB K.g b st (un (fun k => if k < i then swp (r k) f t else r k) i (un ((fun k => if k < i then swp (r k) f t else r k) i) f ((fun k => if k < i then swp (r k) f t else r k) i t))) n] rfl dX0_exchange_38 39 rfl ?_
      refine z_aload C 6 rfl dX0_exchange_39 41 rfl ?_
      refine z_iload_n C 2 rfl rfl dX0_exchange_41 42 rfl ?_
      refine z_iload C 7 rfl dX0_exchange_42 44 rfl ?_
      refine z_iast C (f := ((un (fun k => if k < i then swp (r k) f t else r k) i (un ((fun k => if k < i then swp (r k) f t else r k) i) f ((fun k => if k < i then swp (r k) f t else r k) i t))) i)) 0 (3 + i) rfl (wB_row (by omega)) (by omega) (by decide) (wB K.g b st (un (un (fun k => if k < i then swp (r k) f t else r k) i (un ((fun k => if k < i then swp (r k) f t else r k) i) f ((fun k => if k < i then swp (r k) f t else r k) i t))) i (un ((un (fun k => if k < i then swp (r k) f t else r k) i (un ((fun k => if k < i then swp (r k) f t else r k) i) f ((fun k => if k < i then swp (r k) f t else r k) i t))) i) t ((fun k => if k < i then swp (r k) f t else r k) i f))) n) (wB_set (by omega)) [wB K.g b st (un (un (fun k => if k < i then swp (r k) f t else r k) i (un ((fun k => if k < i then swp (r k) f t else r k) i) f ((fun k => if k < i then swp (r k) f t else r k) i t))) i (un ((un (fun k => if k < i then swp (r k) f t else r k) i (un ((fun k => if k < i then swp (r k) f t else r k) i) f ((fun k => if k < i then swp (r k) f t else r k) i t))) i) t ((fun k => if k < i then swp (r k) f t else r k) i f))) n] rfl dX0_exchange_44 45 rfl ?_
      refine z_iinc C hnL 5 rfl (v := (nI (i + 1))) (nI_1 _) [1, 2, 3, 4, 5, 0, 6, 7] [(0, .ref (b 0)), (1, .int (nI f)), (2, .int (nI t)), (3, .ref (b 2)), (4, .int (nI 4)), (5, .int (nI (i + 1))), (6, .ref (b (3 + i))), (7, .int (nI ((fun k => if k < i then swp (r k) f t else r k) i f)))] rfl (Nat.le_of_ble_eq_true rfl) dX0_exchange_45 48 rfl ?_
      refine z_goto C 12 dX0_exchange_48 (by decide) ?_
      refine z_lv [0, 1, 2, 3, 4, 5] [(0, .ref (b 0)), (1, .int (nI f)), (2, .int (nI t)), (3, .ref (b 2)), (4, .int (nI 4)), (5, .int (nI (i + 1)))] rfl ?_
      refine z_wB 0 rfl st (fun k => if k < i + 1 then swp (r k) f t else r k) (fun _ _ => rfl) (by intro k hk y hy; (try simp only [reduceIte, Nat.lt_irrefl, un, zia, swp]); (repeat' split); all_goals first | rfl | omega | (congr 1 <;> omega) | (congr 2 <;> omega) | (exfalso; omega) | (subst_vars; first | rfl | (exfalso; omega) | (congr 1 <;> omega))) [wB K.g b st (fun k => if k < i + 1 then swp (r k) f t else r k) n] rfl ?_
      exact ih12 _ (by omega) (i + 1) rfl (by omega)
  refine z_wB 0 rfl st (fun k => if k < 0 then swp (r k) f t else r k) (fun _ _ => rfl) (by intro k hk y hy; rw [if_neg (by omega)]) [wB K.g b st (fun k => if k < 0 then swp (r k) f t else r k) n] rfl ?_
  exact loop12 _ 0 rfl (by omega)

theorem iX0_remove_X0 : ∀ w ∈ u_ws RX0 TX0 3, w ∈ wsX0_remove := fun w h => (List.mem_cons_of_mem _ (List.mem_append_right _ h))
set_option maxHeartbeats 4000000 in
set_option maxRecDepth 100000 in
theorem tX0_remove (l : Launch) (g : zG) (b st : Nat → Nat) (r : Nat → Nat → Nat) (n : Nat) (f : Nat) (hf : f < n) (hn : n ≤ 12) : Met l yX0_remove wsX0_remove ({ frames := 1, cells := 0, slots := 0, locals := 28 } : Room) (zPre g [.ref (b 0), .int (nI f)] [wB g b st r n]) (zQ g (fun _ : Unit => none ) (fun _ : Unit => True) (fun _ : Unit => [wB g b st (fun k => shf (r k) f (n - 1)) (n - 1)]) (zA [wB g b st r n])) 0 0 (zA [wB g b st r n]) := by
  refine z_entry (cc := cX0_remove) (maxL := 2) (ret := none) (own := RX0) (by decide) rfl rfl (Nat.le_of_ble_eq_true rfl) [(0, .ref (b 0)), (1, .int (nI f))] rfl ?_
  intro K hKl hKg hnL C R
  subst hKl
  subst hKg
  refine z_aload_n C 0 rfl rfl dX0_remove_0 1 rfl ?_
  refine z_iload_n C 1 rfl rfl dX0_remove_1 2 rfl ?_
  refine z_aload_n C 0 rfl rfl dX0_remove_2 3 rfl ?_
  refine z_get C zc0 iX0_remove_X0 0 0 rfl rfl 2 (Nat.le_of_ble_eq_true rfl) (List.mem_of_getElem? (i := 1) rfl) (v := .int (nI n)) rfl dX0_remove_3 6 rfl ?_
  refine z_iconst C (v := nI 1) rfl dX0_remove_6 7 rfl ?_
  refine z_isub C (by omega) dX0_remove_7 8 rfl ?_
  refine z_callV C [.int (nI f), .int (nI (n - 1))] [] (tX0_shift K.l K.g b st r n f (n - 1) (by first | omega | assumption) (by first | omega | assumption)) gX0_remove_X0_shift rfl rfl rfl hdX0_shift ⟨Nat.le_of_ble_eq_true rfl, Nat.le_of_ble_eq_true rfl⟩ ⟨Nat.zero_le _, Nat.zero_le _⟩ 0 0 rfl rfl rfl [0] rfl rfl (zlc (N := 1) rfl rfl) [1] rfl (by decide) (fun _ : Unit => [wB K.g b st (fun k => shf (r k) f (n - 1)) n]) (fun _ => rfl) rfl rfl (Nat.le_of_ble_eq_true rfl) dX0_remove_8 11 rfl (fun u hu => ?_)
  show Z K 0 0 [wB K.g b st (fun k => shf (r k) f (n - 1)) n] [(0, .ref (b 0)), (1, .int (nI f))] 11 []
  refine z_aload_n C 0 rfl rfl dX0_remove_11 12 rfl ?_
  refine z_dup C rfl dX0_remove_12 13 rfl ?_
  refine z_get C zc0 iX0_remove_X0 0 0 rfl rfl 2 (Nat.le_of_ble_eq_true rfl) (List.mem_of_getElem? (i := 1) rfl) (v := .int (nI n)) rfl dX0_remove_13 16 rfl ?_
  refine z_iconst C (v := nI 1) rfl dX0_remove_16 17 rfl ?_
  refine z_isub C (by omega) dX0_remove_17 18 rfl ?_
  refine z_put C zc0 iX0_remove_X0 0 0 rfl rfl 2 (Nat.le_of_ble_eq_true rfl) (List.mem_of_getElem? (i := 1) rfl) rfl rfl rfl (Nat.le_of_ble_eq_true rfl) (wB K.g b st (fun k => shf (r k) f (n - 1)) (n - 1)) rfl [wB K.g b st (fun k => shf (r k) f (n - 1)) (n - 1)] rfl dX0_remove_18 21 rfl ?_
  exact z_vret C R dX0_remove_21 () rfl trivial rfl

theorem iX0_placeBy_X0 : ∀ w ∈ u_ws RX0 TX0 3, w ∈ wsX0_placeBy := fun w h => (List.mem_cons_of_mem _ (List.mem_append_right _ h))
set_option maxHeartbeats 4000000 in
set_option maxRecDepth 100000 in
theorem tX0_placeBy (l : Launch) (g : zG) (b st : Nat → Nat) (r : Nat → Nat → Nat) (n : Nat) (f j : Nat) (hf : f < 4) (hj : j < n) (hn : n ≤ 12) (hb : ∀ y, y < n → r f y ≤ 3000) : Met l yX0_placeBy wsX0_placeBy ({ frames := 0, cells := 0, slots := 0, locals := 0 } : Room) (zPre g [.ref (b 0), .int (nI f), .int (nI j)] [wB g b st r n]) (zQ g (fun _ : Unit => some (.int (nI (plc (r f) n j))) ) (fun _ : Unit => True) (fun _ : Unit => [wB g b st r n]) (zA [wB g b st r n])) 0 0 (zA [wB g b st r n]) := by
  refine z_entry (cc := cX0_placeBy) (maxL := 6) (ret := (some .int)) (own := RX0) (by decide) rfl rfl (Nat.le_of_ble_eq_true rfl) [(0, .ref (b 0)), (1, .int (nI f)), (2, .int (nI j))] rfl ?_
  intro K hKl hKg hnL C R
  subst hKl
  subst hKg
  have hbj := hb j hj
  refine z_aload_n C 0 rfl rfl dX0_placeBy_0 1 rfl ?_
  refine z_get C zc0 iX0_placeBy_X0 0 0 rfl rfl 1 (Nat.le_of_ble_eq_true rfl) (List.mem_of_getElem? (i := 1) rfl) (v := .ref (b 2)) rfl dX0_placeBy_1 4 rfl ?_
  refine z_iload_n C 1 rfl rfl dX0_placeBy_4 5 rfl ?_
  refine z_aald C (y := (b (3 + f))) 0 2 1 rfl rfl rfl rfl (by omega) (by decide) rfl dX0_placeBy_5 6 rfl ?_
  refine z_astore_n C hnL [1, 2, 3, 0] [(0, .ref (b 0)), (1, .int (nI f)), (2, .int (nI j)), (3, .ref (b (3 + f)))] rfl rfl (Nat.le_of_ble_eq_true rfl) dX0_placeBy_6 7 rfl ?_
  refine z_iconst C (v := nI 0) rfl dX0_placeBy_7 8 rfl ?_
  refine z_istore C hnL [1, 2, 3, 4, 0] [(0, .ref (b 0)), (1, .int (nI f)), (2, .int (nI j)), (3, .ref (b (3 + f))), (4, .int (nI 0))] rfl (Nat.le_of_ble_eq_true rfl) dX0_placeBy_8 10 rfl ?_
  refine z_iconst C (v := nI 0) rfl dX0_placeBy_10 11 rfl ?_
  refine z_istore C hnL [1, 2, 3, 4, 5, 0] [(0, .ref (b 0)), (1, .int (nI f)), (2, .int (nI j)), (3, .ref (b (3 + f))), (4, .int (nI 0)), (5, .int (nI 0))] rfl (Nat.le_of_ble_eq_true rfl) dX0_placeBy_11 13 rfl ?_
  have loop13 : ∀ (mu : Nat) (i : Nat) (x : Nat), mu = n - i → i ≤ n → x = ct (fun o => decide (r f o < r f j ∨ (r f o = r f j ∧ o < j))) i → Z K 0 0 [wB K.g b st r n] [(0, .ref (b 0)), (1, .int (nI f)), (2, .int (nI j)), (3, .ref (b (3 + f))), (4, .int (nI x)), (5, .int (nI i))] 13 [] := by
    refine z_ind (fun mu ih13 => ?_)
    intro i x hmu13 hi hx
    refine z_iload C 5 rfl dX0_placeBy_13 15 rfl ?_
    refine z_aload_n C 0 rfl rfl dX0_placeBy_15 16 rfl ?_
    refine z_get C zc0 iX0_placeBy_X0 0 0 rfl rfl 2 (Nat.le_of_ble_eq_true rfl) (List.mem_of_getElem? (i := 2) rfl) (v := .int (nI n)) rfl dX0_placeBy_16 19 rfl ?_
    refine z_icmp_ge C (by omega) (by omega) 57 dX0_placeBy_19 (by decide) 22 rfl (fun c_1 => ?_) (fun c_1 => ?_)
    · skip
      refine z_iload C 4 rfl dX0_placeBy_57 59 rfl ?_
      obtain rfl : i = n := by omega
      exact z_iret C R dX0_placeBy_59 () (by rw [hx]; rfl) trivial rfl
    · skip
      refine z_aload_n C 3 rfl rfl dX0_placeBy_22 23 rfl ?_
      refine z_iload C 5 rfl dX0_placeBy_23 25 rfl ?_
      refine z_iald C (f := (r f)) 0 (3 + f) rfl (wB_row (by omega)) (by omega) (by decide) dX0_placeBy_25 26 rfl ?_
      have hbi := hb i (by omega)
      refine z_aload_n C 3 rfl rfl dX0_placeBy_26 27 rfl ?_
      refine z_iload_n C 2 rfl rfl dX0_placeBy_27 28 rfl ?_
      refine z_iald C (f := (r f)) 0 (3 + f) rfl (wB_row (by omega)) (by omega) (by decide) dX0_placeBy_28 29 rfl ?_
      refine z_icmp_lt C (by omega) (by omega) 48 dX0_placeBy_29 (by decide) 32 rfl (fun c_2 => ?_) (fun c_2 => ?_)
      · skip
        refine z_iinc C hnL 4 rfl (v := (nI (x + 1))) (nI_1 _) [1, 2, 3, 4, 0, 5] [(0, .ref (b 0)), (1, .int (nI f)), (2, .int (nI j)), (3, .ref (b (3 + f))), (4, .int (nI (x + 1))), (5, .int (nI i))] rfl (Nat.le_of_ble_eq_true rfl) dX0_placeBy_48 51 rfl ?_
        refine z_iinc C hnL 5 rfl (v := (nI (i + 1))) (nI_1 _) [1, 2, 3, 4, 5, 0] [(0, .ref (b 0)), (1, .int (nI f)), (2, .int (nI j)), (3, .ref (b (3 + f))), (4, .int (nI (x + 1))), (5, .int (nI (i + 1)))] rfl (Nat.le_of_ble_eq_true rfl) dX0_placeBy_51 54 rfl ?_
        refine z_goto C 13 dX0_placeBy_54 (by decide) ?_
        exact ih13 _ (by omega) (i + 1) (x + 1) rfl (by omega) (by rw [hx]; exact (ct_s (decide_eq_true (by omega))).symm)
      · skip
        refine z_aload_n C 3 rfl rfl dX0_placeBy_32 33 rfl ?_
        refine z_iload C 5 rfl dX0_placeBy_33 35 rfl ?_
        refine z_iald C (f := (r f)) 0 (3 + f) rfl (wB_row (by omega)) (by omega) (by decide) dX0_placeBy_35 36 rfl ?_
        refine z_aload_n C 3 rfl rfl dX0_placeBy_36 37 rfl ?_
        refine z_iload_n C 2 rfl rfl dX0_placeBy_37 38 rfl ?_
        refine z_iald C (f := (r f)) 0 (3 + f) rfl (wB_row (by omega)) (by omega) (by decide) dX0_placeBy_38 39 rfl ?_
        refine z_icmp_ne C (by omega) (by omega) 51 dX0_placeBy_39 (by decide) 42 rfl (fun c_3 => ?_) (fun c_3 => ?_)
        · skip
          refine z_iinc C hnL 5 rfl (v := (nI (i + 1))) (nI_1 _) [1, 2, 3, 4, 5, 0] [(0, .ref (b 0)), (1, .int (nI f)), (2, .int (nI j)), (3, .ref (b (3 + f))), (4, .int (nI x)), (5, .int (nI (i + 1)))] rfl (Nat.le_of_ble_eq_true rfl) dX0_placeBy_51 54 rfl ?_
          refine z_goto C 13 dX0_placeBy_54 (by decide) ?_
          exact ih13 _ (by omega) (i + 1) x rfl (by omega) (by rw [hx]; exact (ct_f (decide_eq_false (by omega))).symm)
        · skip
          refine z_iload C 5 rfl dX0_placeBy_42 44 rfl ?_
          refine z_iload_n C 2 rfl rfl dX0_placeBy_44 45 rfl ?_
          refine z_icmp_ge C (by omega) (by omega) 51 dX0_placeBy_45 (by decide) 48 rfl (fun c_4 => ?_) (fun c_4 => ?_)
          · skip
            refine z_iinc C hnL 5 rfl (v := (nI (i + 1))) (nI_1 _) [1, 2, 3, 4, 5, 0] [(0, .ref (b 0)), (1, .int (nI f)), (2, .int (nI j)), (3, .ref (b (3 + f))), (4, .int (nI x)), (5, .int (nI (i + 1)))] rfl (Nat.le_of_ble_eq_true rfl) dX0_placeBy_51 54 rfl ?_
            refine z_goto C 13 dX0_placeBy_54 (by decide) ?_
            exact ih13 _ (by omega) (i + 1) x rfl (by omega) (by rw [hx]; exact (ct_f (decide_eq_false (by omega))).symm)
          · skip
            refine z_iinc C hnL 4 rfl (v := (nI (x + 1))) (nI_1 _) [1, 2, 3, 4, 0, 5] [(0, .ref (b 0)), (1, .int (nI f)), (2, .int (nI j)), (3, .ref (b (3 + f))), (4, .int (nI (x + 1))), (5, .int (nI i))] rfl (Nat.le_of_ble_eq_true rfl) dX0_placeBy_48 51 rfl ?_
            refine z_iinc C hnL 5 rfl (v := (nI (i + 1))) (nI_1 _) [1, 2, 3, 4, 5, 0] [(0, .ref (b 0)), (1, .int (nI f)), (2, .int (nI j)), (3, .ref (b (3 + f))), (4, .int (nI (x + 1))), (5, .int (nI (i + 1)))] rfl (Nat.le_of_ble_eq_true rfl) dX0_placeBy_51 54 rfl ?_
            refine z_goto C 13 dX0_placeBy_54 (by decide) ?_
            exact ih13 _ (by omega) (i + 1) (x + 1) rfl (by omega) (by rw [hx]; exact (ct_s (decide_eq_true (by omega))).symm)
  exact loop13 _ 0 0 rfl (by omega) rfl

theorem iX0_mostRacksNeeded_X0 : ∀ w ∈ u_ws RX0 TX0 3, w ∈ wsX0_mostRacksNeeded := fun w h => (List.mem_cons_of_mem _ (List.mem_append_right _ h))
set_option maxHeartbeats 4000000 in
set_option maxRecDepth 100000 in
theorem tX0_mostRacksNeeded (l : Launch) (g : zG) (b st : Nat → Nat) (r : Nat → Nat → Nat) (n : Nat) (d : Nat) (hd : 0 < d) (hd2 : d ≤ 10) (hn : n ≤ 12) (hb : ∀ y, y < n → r 2 y ≤ 20) : Met l yX0_mostRacksNeeded wsX0_mostRacksNeeded ({ frames := 1, cells := 0, slots := 0, locals := 21 } : Room) (zPre g [.ref (b 0), .int (nI d)] [wB g b st r n]) (zQ g (fun _ : Unit => some (.int (nI (mx (fun y => nd d (r 2 y)) n))) ) (fun _ : Unit => True) (fun _ : Unit => [wB g b st r n]) (zA [wB g b st r n])) 0 0 (zA [wB g b st r n]) := by
  refine z_entry (cc := cX0_mostRacksNeeded) (maxL := 4) (ret := (some .int)) (own := RX0) (by decide) rfl rfl (Nat.le_of_ble_eq_true rfl) [(0, .ref (b 0)), (1, .int (nI d))] rfl ?_
  intro K hKl hKg hnL C R
  subst hKl
  subst hKg
  refine z_iconst C (v := nI 0) rfl dX0_mostRacksNeeded_0 1 rfl ?_
  refine z_istore_n C hnL [1, 2, 0] [(0, .ref (b 0)), (1, .int (nI d)), (2, .int (nI 0))] rfl rfl (Nat.le_of_ble_eq_true rfl) dX0_mostRacksNeeded_1 2 rfl ?_
  refine z_iconst C (v := nI 0) rfl dX0_mostRacksNeeded_2 3 rfl ?_
  refine z_istore_n C hnL [1, 2, 3, 0] [(0, .ref (b 0)), (1, .int (nI d)), (2, .int (nI 0)), (3, .int (nI 0))] rfl rfl (Nat.le_of_ble_eq_true rfl) dX0_mostRacksNeeded_3 4 rfl ?_
  have loop4 : ∀ (mu : Nat) (i : Nat) (x : Nat), mu = n - i → i ≤ n → x = mx (fun y => nd d (r 2 y)) i → Z K 0 0 [wB K.g b st r n] [(0, .ref (b 0)), (1, .int (nI d)), (2, .int (nI x)), (3, .int (nI i))] 4 [] := by
    refine z_ind (fun mu ih4 => ?_)
    intro i x hmu4 hi hx
    refine z_iload_n C 3 rfl rfl dX0_mostRacksNeeded_4 5 rfl ?_
    refine z_aload_n C 0 rfl rfl dX0_mostRacksNeeded_5 6 rfl ?_
    refine z_get C zc0 iX0_mostRacksNeeded_X0 0 0 rfl rfl 2 (Nat.le_of_ble_eq_true rfl) (List.mem_of_getElem? (i := 1) rfl) (v := .int (nI n)) rfl dX0_mostRacksNeeded_6 9 rfl ?_
    refine z_icmp_ge C (by omega) (by omega) 35 dX0_mostRacksNeeded_9 (by decide) 12 rfl (fun c_1 => ?_) (fun c_1 => ?_)
    · skip
      refine z_iload_n C 2 rfl rfl dX0_mostRacksNeeded_35 36 rfl ?_
      obtain rfl : i = n := by omega
      exact z_iret C R dX0_mostRacksNeeded_36 () (by rw [hx]) trivial rfl
    · skip
      refine z_iload_n C 2 rfl rfl dX0_mostRacksNeeded_12 13 rfl ?_
      refine z_aload_n C 0 rfl rfl dX0_mostRacksNeeded_13 14 rfl ?_
      refine z_get C zc0 iX0_mostRacksNeeded_X0 0 0 rfl rfl 1 (Nat.le_of_ble_eq_true rfl) (List.mem_of_getElem? (i := 2) rfl) (v := .ref (b 2)) rfl dX0_mostRacksNeeded_14 17 rfl ?_
      refine z_iconst C (v := nI 2) rfl dX0_mostRacksNeeded_17 18 rfl ?_
      refine z_aald C (y := (b 5)) 0 2 1 rfl rfl rfl rfl (by omega) (by decide) rfl dX0_mostRacksNeeded_18 19 rfl ?_
      refine z_iload_n C 3 rfl rfl dX0_mostRacksNeeded_19 20 rfl ?_
      refine z_iald C (f := (r 2)) 0 5 rfl rfl (by omega) (by decide) dX0_mostRacksNeeded_20 21 rfl ?_
      have hbi := hb i (by omega)
      have hq := Nat.le_trans (nd_le (h := r 2 i) hd) hbi
      have hxb : x ≤ 20 := by rw [hx]; exact mx_le i (fun y hy => Nat.le_trans (nd_le hd) (hb y (by omega)))
      refine z_iload_n C 1 rfl rfl dX0_mostRacksNeeded_21 22 rfl ?_
      refine z_callN C [.int (nI (r 2 i)), .int (nI d)] [.int (nI x)] (tX4_racksFor K.l K.g (r 2 i) d (by first | omega | assumption) (by first | omega | assumption) (by first | omega | assumption)) gX0_mostRacksNeeded_X4_racksFor_n49 rfl rfl rfl C.kp.2.1 (List.mem_of_getElem? (i := 8) rfl) (List.mem_of_getElem? (i := 7) rfl) hdX4_racksFor ⟨Nat.le_of_ble_eq_true rfl, Nat.le_of_ble_eq_true rfl⟩ ⟨Nat.zero_le _, Nat.zero_le _⟩ rfl rfl (Nat.le_of_ble_eq_true rfl) dX0_mostRacksNeeded_22 25 rfl (fun u hu => ?_)
      show Z K 0 0 [wB K.g b st r n] [(0, .ref (b 0)), (1, .int (nI d)), (2, .int (nI x)), (3, .int (nI i))] 25 [.int (nI (nd d (r 2 i))), .int (nI x)]
      refine z_max C (List.mem_of_getElem? (i := 3) rfl) (List.mem_of_getElem? (i := 4) rfl) (List.mem_of_getElem? (i := 5) rfl) (List.mem_of_getElem? (i := 6) rfl) ⟨Nat.le_of_ble_eq_true rfl, Nat.le_of_ble_eq_true rfl⟩ ⟨Nat.zero_le _, Nat.zero_le _⟩ (by omega) (by omega) dX0_mostRacksNeeded_25 28 rfl ?_
      refine z_nm (fun x_2 ex_2 => ?_)
      refine z_istore_n C hnL [1, 2, 0, 3] [(0, .ref (b 0)), (1, .int (nI d)), (2, .int (nI x_2)), (3, .int (nI i))] rfl rfl (Nat.le_of_ble_eq_true rfl) dX0_mostRacksNeeded_28 29 rfl ?_
      refine z_iinc C hnL 3 rfl (v := (nI (i + 1))) (nI_1 _) [1, 2, 3, 0] [(0, .ref (b 0)), (1, .int (nI d)), (2, .int (nI x_2)), (3, .int (nI (i + 1)))] rfl (Nat.le_of_ble_eq_true rfl) dX0_mostRacksNeeded_29 32 rfl ?_
      refine z_goto C 4 dX0_mostRacksNeeded_32 (by decide) ?_
      exact ih4 _ (by omega) (i + 1) x_2 rfl (by omega) (by rw [mx_s, ← hx]; omega)
  exact loop4 _ 0 0 rfl (by omega) rfl

theorem iX0_hundredsOfAll_X0 : ∀ w ∈ u_ws RX0 TX0 3, w ∈ wsX0_hundredsOfAll := fun w h => (List.mem_cons_of_mem _ (List.mem_append_right _ h))
set_option maxHeartbeats 4000000 in
set_option maxRecDepth 100000 in
theorem tX0_hundredsOfAll (l : Launch) (g : zG) (b st : Nat → Nat) (r : Nat → Nat → Nat) (n : Nat) (hn : n ≤ 12) : Met l yX0_hundredsOfAll wsX0_hundredsOfAll ({ frames := 0, cells := 0, slots := 0, locals := 0 } : Room) (zPre g [.ref (b 0)] [wB g b st r n]) (zQ g (fun _ : Unit => some (.int (nI (sm (r 2) n))) ) (fun _ : Unit => True) (fun _ : Unit => [wB g b st r n]) (zA [wB g b st r n])) 0 0 (zA [wB g b st r n]) := by
  refine z_entry (cc := cX0_hundredsOfAll) (maxL := 3) (ret := (some .int)) (own := RX0) (by decide) rfl rfl (Nat.le_of_ble_eq_true rfl) [(0, .ref (b 0))] rfl ?_
  intro K hKl hKg hnL C R
  subst hKl
  subst hKg
  refine z_iconst C (v := nI 0) rfl dX0_hundredsOfAll_0 1 rfl ?_
  refine z_istore_n C hnL [1, 0] [(0, .ref (b 0)), (1, .int (nI 0))] rfl rfl (Nat.le_of_ble_eq_true rfl) dX0_hundredsOfAll_1 2 rfl ?_
  refine z_iconst C (v := nI 0) rfl dX0_hundredsOfAll_2 3 rfl ?_
  refine z_istore_n C hnL [1, 2, 0] [(0, .ref (b 0)), (1, .int (nI 0)), (2, .int (nI 0))] rfl rfl (Nat.le_of_ble_eq_true rfl) dX0_hundredsOfAll_3 4 rfl ?_
  have loop4 : ∀ (mu : Nat) (i : Nat) (x : Nat), mu = n - i → i ≤ n → x = sm (r 2) i → Z K 0 0 [wB K.g b st r n] [(0, .ref (b 0)), (1, .int (nI x)), (2, .int (nI i))] 4 [] := by
    refine z_ind (fun mu ih4 => ?_)
    intro i x hmu4 hi hx
    refine z_iload_n C 2 rfl rfl dX0_hundredsOfAll_4 5 rfl ?_
    refine z_aload_n C 0 rfl rfl dX0_hundredsOfAll_5 6 rfl ?_
    refine z_get C zc0 iX0_hundredsOfAll_X0 0 0 rfl rfl 2 (Nat.le_of_ble_eq_true rfl) (List.mem_of_getElem? (i := 1) rfl) (v := .int (nI n)) rfl dX0_hundredsOfAll_6 9 rfl ?_
    refine z_icmp_ge C (by omega) (by omega) 29 dX0_hundredsOfAll_9 (by decide) 12 rfl (fun c_1 => ?_) (fun c_1 => ?_)
    · skip
      refine z_iload_n C 1 rfl rfl dX0_hundredsOfAll_29 30 rfl ?_
      obtain rfl : i = n := by omega
      exact z_iret C R dX0_hundredsOfAll_30 () (by rw [hx]) trivial rfl
    · skip
      refine z_iload_n C 1 rfl rfl dX0_hundredsOfAll_12 13 rfl ?_
      refine z_aload_n C 0 rfl rfl dX0_hundredsOfAll_13 14 rfl ?_
      refine z_get C zc0 iX0_hundredsOfAll_X0 0 0 rfl rfl 1 (Nat.le_of_ble_eq_true rfl) (List.mem_of_getElem? (i := 2) rfl) (v := .ref (b 2)) rfl dX0_hundredsOfAll_14 17 rfl ?_
      refine z_iconst C (v := nI 2) rfl dX0_hundredsOfAll_17 18 rfl ?_
      refine z_aald C (y := (b 5)) 0 2 1 rfl rfl rfl rfl (by omega) (by decide) rfl dX0_hundredsOfAll_18 19 rfl ?_
      refine z_iload_n C 2 rfl rfl dX0_hundredsOfAll_19 20 rfl ?_
      refine z_iald C (f := (r 2)) 0 5 rfl rfl (by omega) (by decide) dX0_hundredsOfAll_20 21 rfl ?_
      refine z_iadd C dX0_hundredsOfAll_21 22 rfl ?_
      refine z_nm (fun x_2 ex_2 => ?_)
      refine z_istore_n C hnL [1, 0, 2] [(0, .ref (b 0)), (1, .int (nI x_2)), (2, .int (nI i))] rfl rfl (Nat.le_of_ble_eq_true rfl) dX0_hundredsOfAll_22 23 rfl ?_
      refine z_iinc C hnL 2 rfl (v := (nI (i + 1))) (nI_1 _) [1, 2, 0] [(0, .ref (b 0)), (1, .int (nI x_2)), (2, .int (nI (i + 1)))] rfl (Nat.le_of_ble_eq_true rfl) dX0_hundredsOfAll_23 26 rfl ?_
      refine z_goto C 4 dX0_hundredsOfAll_26 (by decide) ?_
      exact ih4 _ (by omega) (i + 1) x_2 rfl (by omega) (by rw [sm_s, ← hx]; omega)
  exact loop4 _ 0 0 rfl (by omega) rfl

theorem iX0_arrange_X0 : ∀ w ∈ u_ws RX0 TX0 3, w ∈ wsX0_arrange := fun w h => (List.mem_cons_of_mem _ (List.mem_append_right _ h))
set_option maxHeartbeats 4000000 in
set_option maxRecDepth 100000 in
theorem tX0_arrange (l : Launch) (g : zG) (b st : Nat → Nat) (r : Nat → Nat → Nat) (n : Nat) (o so : Nat → Nat) (ro : Nat → Nat → Nat) (no f : Nat) (hf : f < 4) (hn : no ≤ 12) (hb : ∀ y, y < no → ro f y ≤ 3000) : Met l yX0_arrange wsX0_arrange ({ frames := 2, cells := 0, slots := 0, locals := 82 } : Room) (zPre g [.ref (b 0), .ref (o 0), .int (nI f)] [wB g b st r n, wB g o so ro no]) (zQ g (fun _ : Unit => some (.int (nI (ct (fun y => decide (plc (ro f) no y ≠ y)) no))) ) (fun _ : Unit => True) (fun _ : Unit => [wB g b so (arR ro (plc (ro f) no) no) no, wB g o so ro no]) (zA [wB g b st r n, wB g o so ro no])) 0 0 (zA [wB g b st r n, wB g o so ro no]) := by
  refine z_entry (cc := cX0_arrange) (maxL := 7) (ret := (some .int)) (own := RX0) (by decide) rfl rfl (Nat.le_of_ble_eq_true rfl) [(0, .ref (b 0)), (1, .ref (o 0)), (2, .int (nI f))] rfl ?_
  intro K hKl hKg hnL C R
  subst hKl
  subst hKg
  refine z_aload_n C 0 rfl rfl dX0_arrange_0 1 rfl ?_
  refine z_aload_n C 1 rfl rfl dX0_arrange_1 2 rfl ?_
  refine z_callV C [.ref (o 0)] [] (tX0_copyFrom K.l K.g b st r n o so ro no ) gX0_arrange_X0_copyFrom rfl rfl rfl hdX0_copyFrom ⟨Nat.le_of_ble_eq_true rfl, Nat.le_of_ble_eq_true rfl⟩ ⟨Nat.zero_le _, Nat.zero_le _⟩ 0 0 rfl rfl rfl [0, 1] rfl rfl (zlc (N := 2) rfl rfl) [2, 3] rfl (by decide) (fun _ : Unit => [wB K.g b so ro no, wB K.g o so ro no]) (fun _ => rfl) rfl rfl (Nat.le_of_ble_eq_true rfl) dX0_arrange_2 5 rfl (fun u hu => ?_)
  show Z K 0 0 [wB K.g b so ro no, wB K.g o so ro no] [(0, .ref (b 0)), (1, .ref (o 0)), (2, .int (nI f))] 5 []
  refine z_iconst C (v := nI 0) rfl dX0_arrange_5 6 rfl ?_
  refine z_istore_n C hnL [1, 2, 3, 0] [(0, .ref (b 0)), (1, .ref (o 0)), (2, .int (nI f)), (3, .int (nI 0))] rfl rfl (Nat.le_of_ble_eq_true rfl) dX0_arrange_6 7 rfl ?_
  refine z_iconst C (v := nI 0) rfl dX0_arrange_7 8 rfl ?_
  refine z_istore C hnL [1, 2, 3, 4, 0] [(0, .ref (b 0)), (1, .ref (o 0)), (2, .int (nI f)), (3, .int (nI 0)), (4, .int (nI 0))] rfl (Nat.le_of_ble_eq_true rfl) dX0_arrange_8 10 rfl ?_
  have loop10 : ∀ (mu : Nat) (i : Nat) (x : Nat), mu = no - i → i ≤ no → x = ct (fun y => decide (plc (ro f) no y ≠ y)) i → Z K 0 0 [wB K.g b so (arR ro (plc (ro f) no) i) no, wB K.g o so ro no] [(0, .ref (b 0)), (1, .ref (o 0)), (2, .int (nI f)), (3, .int (nI x)), (4, .int (nI i))] 10 [] := by
    refine z_ind (fun mu ih10 => ?_)
    intro i x hmu10 hi hx
    refine z_iload C 4 rfl dX0_arrange_10 12 rfl ?_
    refine z_aload_n C 1 rfl rfl dX0_arrange_12 13 rfl ?_
    refine z_get C zc0 iX0_arrange_X0 1 0 rfl rfl 2 (Nat.le_of_ble_eq_true rfl) (List.mem_of_getElem? (i := 1) rfl) (v := .int (nI no)) rfl dX0_arrange_13 16 rfl ?_
    refine z_icmp_ge C (by omega) (by omega) 79 dX0_arrange_16 (by decide) 19 rfl (fun c_1 => ?_) (fun c_1 => ?_)
    · skip
      refine z_iload_n C 3 rfl rfl dX0_arrange_79 80 rfl ?_
      obtain rfl : i = no := by omega
      exact z_iret C R dX0_arrange_80 () (by rw [hx]) trivial rfl
    · skip
      refine z_aload_n C 1 rfl rfl dX0_arrange_19 20 rfl ?_
      refine z_iload_n C 2 rfl rfl dX0_arrange_20 21 rfl ?_
      refine z_iload C 4 rfl dX0_arrange_21 23 rfl ?_
      refine z_callV C [.int (nI f), .int (nI i)] [] (tX0_placeBy K.l K.g o so ro no f i (by first | omega | assumption) (by first | omega | assumption) (by first | omega | assumption) (by first | omega | assumption)) gX0_arrange_X0_placeBy rfl rfl rfl hdX0_placeBy ⟨Nat.le_of_ble_eq_true rfl, Nat.le_of_ble_eq_true rfl⟩ ⟨Nat.zero_le _, Nat.zero_le _⟩ 1 0 rfl rfl rfl [1] rfl rfl (zlc (N := 2) rfl rfl) [0, 2] rfl (by decide) (fun _ : Unit => [wB K.g b so (arR ro (plc (ro f) no) i) no, wB K.g o so ro no]) (fun _ => rfl) rfl rfl (Nat.le_of_ble_eq_true rfl) dX0_arrange_23 26 rfl (fun u hu => ?_)
      show Z K 0 0 [wB K.g b so (arR ro (plc (ro f) no) i) no, wB K.g o so ro no] [(0, .ref (b 0)), (1, .ref (o 0)), (2, .int (nI f)), (3, .int (nI x)), (4, .int (nI i))] 26 [.int (nI (plc (ro f) no i))]
      have hpl : plc (ro f) no i < no := plc_lt (by omega)
      refine z_istore C hnL [1, 2, 3, 4, 5, 0] [(0, .ref (b 0)), (1, .ref (o 0)), (2, .int (nI f)), (3, .int (nI x)), (4, .int (nI i)), (5, .int (nI (plc (ro f) no i)))] rfl (Nat.le_of_ble_eq_true rfl) dX0_arrange_26 28 rfl ?_
      refine z_iconst C (v := nI 0) rfl dX0_arrange_28 29 rfl ?_
      refine z_istore C hnL [1, 2, 3, 4, 5, 6, 0] [(0, .ref (b 0)), (1, .ref (o 0)), (2, .int (nI f)), (3, .int (nI x)), (4, .int (nI i)), (5, .int (nI (plc (ro f) no i))), (6, .int (nI 0))] rfl (Nat.le_of_ble_eq_true rfl) dX0_arrange_29 31 rfl ?_
      have loop31 : ∀ (mu : Nat) (e : Nat), mu = 4 - e → e ≤ 4 → Z K 0 0 [wB K.g b so (fun k => if k < e then arR ro (plc (ro f) no) (i + 1) k else arR ro (plc (ro f) no) i k) no, wB K.g o so ro no] [(0, .ref (b 0)), (1, .ref (o 0)), (2, .int (nI f)), (3, .int (nI x)), (4, .int (nI i)), (5, .int (nI (plc (ro f) no i))), (6, .int (nI e))] 31 [] := by
        refine z_ind (fun mu ih31 => ?_)
        intro e hmu31 he
        refine z_iload C 6 rfl dX0_arrange_31 33 rfl ?_
        refine z_iconst C (v := nI 4) rfl dX0_arrange_33 34 rfl ?_
        refine z_icmp_ge C (by omega) (by omega) 63 dX0_arrange_34 (by decide) 37 rfl (fun c_2 => ?_) (fun c_2 => ?_)
        · skip
          refine z_wB 0 rfl so (arR ro (plc (ro f) no) (i + 1)) (fun _ _ => rfl) (by intro k hk y hy; rw [if_pos (by omega)]) [wB K.g b so (arR ro (plc (ro f) no) (i + 1)) no, wB K.g o so ro no] rfl ?_
          refine z_iload C 5 rfl dX0_arrange_63 65 rfl ?_
          refine z_iload C 4 rfl dX0_arrange_65 67 rfl ?_
          refine z_icmp_eq C (by omega) (by omega) 73 dX0_arrange_67 (by decide) 70 rfl (fun c_3 => ?_) (fun c_3 => ?_)
          · skip
            refine z_iinc C hnL 4 rfl (v := (nI (i + 1))) (nI_1 _) [1, 2, 3, 4, 0, 5, 6] [(0, .ref (b 0)), (1, .ref (o 0)), (2, .int (nI f)), (3, .int (nI x)), (4, .int (nI (i + 1))), (5, .int (nI (plc (ro f) no i))), (6, .int (nI e))] rfl (Nat.le_of_ble_eq_true rfl) dX0_arrange_73 76 rfl ?_
            refine z_goto C 10 dX0_arrange_76 (by decide) ?_
            refine z_lv [0, 1, 2, 3, 4] [(0, .ref (b 0)), (1, .ref (o 0)), (2, .int (nI f)), (3, .int (nI x)), (4, .int (nI (i + 1)))] rfl ?_
            exact ih10 _ (by omega) (i + 1) x rfl (by omega) (by rw [hx]; exact (ct_f (decide_eq_false (by omega))).symm)
          · skip
            refine z_iinc C hnL 3 rfl (v := (nI (x + 1))) (nI_1 _) [1, 2, 3, 0, 4, 5, 6] [(0, .ref (b 0)), (1, .ref (o 0)), (2, .int (nI f)), (3, .int (nI (x + 1))), (4, .int (nI i)), (5, .int (nI (plc (ro f) no i))), (6, .int (nI e))] rfl (Nat.le_of_ble_eq_true rfl) dX0_arrange_70 73 rfl ?_
            refine z_iinc C hnL 4 rfl (v := (nI (i + 1))) (nI_1 _) [1, 2, 3, 4, 0, 5, 6] [(0, .ref (b 0)), (1, .ref (o 0)), (2, .int (nI f)), (3, .int (nI (x + 1))), (4, .int (nI (i + 1))), (5, .int (nI (plc (ro f) no i))), (6, .int (nI e))] rfl (Nat.le_of_ble_eq_true rfl) dX0_arrange_73 76 rfl ?_
            refine z_goto C 10 dX0_arrange_76 (by decide) ?_
            refine z_lv [0, 1, 2, 3, 4] [(0, .ref (b 0)), (1, .ref (o 0)), (2, .int (nI f)), (3, .int (nI (x + 1))), (4, .int (nI (i + 1)))] rfl ?_
            exact ih10 _ (by omega) (i + 1) (x + 1) rfl (by omega) (by rw [hx]; exact (ct_s (decide_eq_true (by omega))).symm)
        · skip
          refine z_aload_n C 0 rfl rfl dX0_arrange_37 38 rfl ?_
          refine z_get C zc0 iX0_arrange_X0 0 0 rfl rfl 1 (Nat.le_of_ble_eq_true rfl) (List.mem_of_getElem? (i := 2) rfl) (v := .ref (b 2)) rfl dX0_arrange_38 41 rfl ?_
          refine z_iload C 6 rfl dX0_arrange_41 43 rfl ?_
          refine z_aald C (y := (b (3 + e))) 0 2 1 rfl rfl rfl rfl (by omega) (by decide) rfl dX0_arrange_43 44 rfl ?_
          refine z_iload C 5 rfl dX0_arrange_44 46 rfl ?_
          refine z_aload_n C 1 rfl rfl dX0_arrange_46 47 rfl ?_
          refine z_get C zc0 iX0_arrange_X0 1 0 rfl rfl 1 (Nat.le_of_ble_eq_true rfl) (List.mem_of_getElem? (i := 2) rfl) (v := .ref (o 2)) rfl dX0_arrange_47 50 rfl ?_
          refine z_iload C 6 rfl dX0_arrange_50 52 rfl ?_
          refine z_aald C (y := (o (3 + e))) 1 2 1 rfl rfl rfl rfl (by omega) (by decide) rfl dX0_arrange_52 53 rfl ?_
          refine z_iload C 4 rfl dX0_arrange_53 55 rfl ?_
          refine z_iald C (f := (ro e)) 1 (3 + e) rfl (wB_row (by omega)) (by omega) (by decide) dX0_arrange_55 56 rfl ?_
          refine z_nm (fun x_4 ex_4 => ?_)
          refine z_iast C (f := ((fun k => if k < e then arR ro (plc (ro f) no) (i + 1) k else arR ro (plc (ro f) no) i k) e)) 0 (3 + e) rfl (wB_row (by omega)) (by omega) (by decide) (wB K.g b so (un (fun k => if k < e then arR ro (plc (ro f) no) (i + 1) k else arR ro (plc (ro f) no) i k) e (un ((fun k => if k < e then arR ro (plc (ro f) no) (i + 1) k else arR ro (plc (ro f) no) i k) e) (plc (ro f) no i) x_4)) no) (wB_set (by omega)) [wB K.g b so (un (fun k => if k < e then arR ro (plc (ro f) no) (i + 1) k else arR ro (plc (ro f) no) i k) e (un ((fun k => if k < e then arR ro (plc (ro f) no) (i + 1) k else arR ro (plc (ro f) no) i k) e) (plc (ro f) no i) x_4)) no, wB K.g o so ro no] rfl dX0_arrange_56 57 rfl ?_
          refine z_iinc C hnL 6 rfl (v := (nI (e + 1))) (nI_1 _) [1, 2, 3, 4, 5, 6, 0] [(0, .ref (b 0)), (1, .ref (o 0)), (2, .int (nI f)), (3, .int (nI x)), (4, .int (nI i)), (5, .int (nI (plc (ro f) no i))), (6, .int (nI (e + 1)))] rfl (Nat.le_of_ble_eq_true rfl) dX0_arrange_57 60 rfl ?_
          refine z_goto C 31 dX0_arrange_60 (by decide) ?_
          refine z_wB 0 rfl so (fun k => if k < e + 1 then arR ro (plc (ro f) no) (i + 1) k else arR ro (plc (ro f) no) i k) (fun _ _ => rfl) (by intro k hk y hy; (try simp only [reduceIte, Nat.lt_irrefl, un, zia, arR]); (repeat' split); all_goals first | rfl | omega | (congr 1 <;> omega) | (congr 2 <;> omega) | (exfalso; omega) | (subst_vars; first | rfl | (exfalso; omega) | (congr 1 <;> omega))) [wB K.g b so (fun k => if k < e + 1 then arR ro (plc (ro f) no) (i + 1) k else arR ro (plc (ro f) no) i k) no, wB K.g o so ro no] rfl ?_
          exact ih31 _ (by omega) (e + 1) rfl (by omega)
      refine z_wB 0 rfl so (fun k => if k < 0 then arR ro (plc (ro f) no) (i + 1) k else arR ro (plc (ro f) no) i k) (fun _ _ => rfl) (by intro k hk y hy; rw [if_neg (by omega)]) [wB K.g b so (fun k => if k < 0 then arR ro (plc (ro f) no) (i + 1) k else arR ro (plc (ro f) no) i k) no, wB K.g o so ro no] rfl ?_
      exact loop31 _ 0 rfl (by omega)
  exact loop10 _ 0 0 rfl (by omega) rfl
end
section
/-! HI: the history. -/
/-- the place before, in the ring -/
def bkx (nx : Nat) : Nat := if nx = 0 then 5 else nx - 1

theorem iX1_remember_X1 : ∀ w ∈ u_ws RX1 TX1 3, w ∈ wsX1_remember := fun w h => (List.mem_cons_of_mem _ (List.mem_append_left _ (List.mem_append_right _ h)))
set_option maxHeartbeats 4000000 in
set_option maxRecDepth 100000 in
theorem tX1_remember (l : Launch) (g : zG) (h : Nat → Nat) (hb hs : Nat → Nat → Nat) (hr : Nat → Nat → Nat → Nat) (hn : Nat → Nat) (kp nx : Nat) (b st : Nat → Nat) (r : Nat → Nat → Nat) (n : Nat) (hk : kp ≤ 6) (hx : nx < 6) : Met l yX1_remember wsX1_remember ({ frames := 2, cells := 0, slots := 0, locals := 82 } : Room) (zPre g [.ref (h 0), .ref (b 0)] [wH g h hb kp nx, wB g (hb 0) (hs 0) (hr 0) (hn 0), wB g (hb 1) (hs 1) (hr 1) (hn 1), wB g (hb 2) (hs 2) (hr 2) (hn 2), wB g (hb 3) (hs 3) (hr 3) (hn 3), wB g (hb 4) (hs 4) (hr 4) (hn 4), wB g (hb 5) (hs 5) (hr 5) (hn 5), wB g b st r n]) (zQ g (fun _ : Unit => none ) (fun _ : Unit => True) (fun _ : Unit => [wH g h hb (min (kp + 1) 6) (if nx = 5 then 0 else nx + 1), wB g (hb 0) ((un hs nx st) 0) ((un hr nx r) 0) ((un hn nx n) 0), wB g (hb 1) ((un hs nx st) 1) ((un hr nx r) 1) ((un hn nx n) 1), wB g (hb 2) ((un hs nx st) 2) ((un hr nx r) 2) ((un hn nx n) 2), wB g (hb 3) ((un hs nx st) 3) ((un hr nx r) 3) ((un hn nx n) 3), wB g (hb 4) ((un hs nx st) 4) ((un hr nx r) 4) ((un hn nx n) 4), wB g (hb 5) ((un hs nx st) 5) ((un hr nx r) 5) ((un hn nx n) 5), wB g b st r n]) (zA [wH g h hb kp nx, wB g (hb 0) (hs 0) (hr 0) (hn 0), wB g (hb 1) (hs 1) (hr 1) (hn 1), wB g (hb 2) (hs 2) (hr 2) (hn 2), wB g (hb 3) (hs 3) (hr 3) (hn 3), wB g (hb 4) (hs 4) (hr 4) (hn 4), wB g (hb 5) (hs 5) (hr 5) (hn 5), wB g b st r n])) 0 0 (zA [wH g h hb kp nx, wB g (hb 0) (hs 0) (hr 0) (hn 0), wB g (hb 1) (hs 1) (hr 1) (hn 1), wB g (hb 2) (hs 2) (hr 2) (hn 2), wB g (hb 3) (hs 3) (hr 3) (hn 3), wB g (hb 4) (hs 4) (hr 4) (hn 4), wB g (hb 5) (hs 5) (hr 5) (hn 5), wB g b st r n]) := by
  refine z_entry (cc := cX1_remember) (maxL := 2) (ret := none) (own := RX1) (by decide) rfl rfl (Nat.le_of_ble_eq_true rfl) [(0, .ref (h 0)), (1, .ref (b 0))] rfl ?_
  intro K hKl hKg hnL C R
  subst hKl
  subst hKg
  rcases (show nx = 0 ∨ nx = 1 ∨ nx = 2 ∨ nx = 3 ∨ nx = 4 ∨ nx = 5 by omega) with rfl | rfl | rfl | rfl | rfl | rfl
  · skip
    refine z_aload_n C 0 rfl rfl dX1_remember_0 1 rfl ?_
    refine z_get C zc1 iX1_remember_X1 0 0 rfl rfl 1 (Nat.le_of_ble_eq_true rfl) (List.mem_of_getElem? (i := 1) rfl) (v := .ref (h 1)) rfl dX1_remember_1 4 rfl ?_
    refine z_aload_n C 0 rfl rfl dX1_remember_4 5 rfl ?_
    refine z_get C zc1 iX1_remember_X1 0 0 rfl rfl 2 (Nat.le_of_ble_eq_true rfl) (List.mem_of_getElem? (i := 2) rfl) (v := .int (nI 0)) rfl dX1_remember_5 8 rfl ?_
    refine z_aald C (y := ((hb 0) 0)) 0 1 2 rfl rfl rfl rfl (by omega) (by decide) rfl dX1_remember_8 9 rfl ?_
    refine z_aload_n C 1 rfl rfl dX1_remember_9 10 rfl ?_
    refine z_callV C [.ref (b 0)] [] (tX0_copyFrom K.l K.g (hb 0) (hs 0) (hr 0) (hn 0) b st r n ) gX1_remember_X0_copyFrom rfl rfl rfl hdX0_copyFrom ⟨Nat.le_of_ble_eq_true rfl, Nat.le_of_ble_eq_true rfl⟩ ⟨Nat.zero_le _, Nat.zero_le _⟩ 1 0 rfl rfl rfl [1, 7] rfl rfl (zlc (N := 8) rfl rfl) [0, 8, 2, 3, 4, 5, 6, 9] rfl (by decide) (fun _ : Unit => [wH K.g h hb kp 0, wB K.g (hb 0) st r n, wB K.g (hb 1) (hs 1) (hr 1) (hn 1), wB K.g (hb 2) (hs 2) (hr 2) (hn 2), wB K.g (hb 3) (hs 3) (hr 3) (hn 3), wB K.g (hb 4) (hs 4) (hr 4) (hn 4), wB K.g (hb 5) (hs 5) (hr 5) (hn 5), wB K.g b st r n]) (fun _ => rfl) rfl rfl (Nat.le_of_ble_eq_true rfl) dX1_remember_10 13 rfl (fun u hu => ?_)
    show Z K 0 0 [wH K.g h hb kp 0, wB K.g (hb 0) st r n, wB K.g (hb 1) (hs 1) (hr 1) (hn 1), wB K.g (hb 2) (hs 2) (hr 2) (hn 2), wB K.g (hb 3) (hs 3) (hr 3) (hn 3), wB K.g (hb 4) (hs 4) (hr 4) (hn 4), wB K.g (hb 5) (hs 5) (hr 5) (hn 5), wB K.g b st r n] [(0, .ref (h 0)), (1, .ref (b 0))] 13 []
    refine z_aload_n C 0 rfl rfl dX1_remember_13 14 rfl ?_
    refine z_aload_n C 0 rfl rfl dX1_remember_14 15 rfl ?_
    refine z_get C zc1 iX1_remember_X1 0 0 rfl rfl 2 (Nat.le_of_ble_eq_true rfl) (List.mem_of_getElem? (i := 2) rfl) (v := .int (nI 0)) rfl dX1_remember_15 18 rfl ?_
    refine z_iconst C (v := nI 5) rfl dX1_remember_18 19 rfl ?_
    refine z_icmp_ne C (by omega) (by omega) 26 dX1_remember_19 (by decide) 22 rfl (fun c_1 => ?_) (fun c_1 => ?_)
    rotate_left
    · exfalso; omega
    refine z_aload_n C 0 rfl rfl dX1_remember_26 27 rfl ?_
    refine z_get C zc1 iX1_remember_X1 0 0 rfl rfl 2 (Nat.le_of_ble_eq_true rfl) (List.mem_of_getElem? (i := 2) rfl) (v := .int (nI 0)) rfl dX1_remember_27 30 rfl ?_
    refine z_iconst C (v := nI 1) rfl dX1_remember_30 31 rfl ?_
    refine z_iadd C dX1_remember_31 32 rfl ?_
    refine z_put C zc1 iX1_remember_X1 0 0 rfl rfl 2 (Nat.le_of_ble_eq_true rfl) (List.mem_of_getElem? (i := 2) rfl) rfl rfl rfl (Nat.le_of_ble_eq_true rfl) (wH K.g h hb kp 1) rfl [wH K.g h hb kp 1, wB K.g (hb 0) st r n, wB K.g (hb 1) (hs 1) (hr 1) (hn 1), wB K.g (hb 2) (hs 2) (hr 2) (hn 2), wB K.g (hb 3) (hs 3) (hr 3) (hn 3), wB K.g (hb 4) (hs 4) (hr 4) (hn 4), wB K.g (hb 5) (hs 5) (hr 5) (hn 5), wB K.g b st r n] rfl dX1_remember_32 35 rfl ?_
    refine z_aload_n C 0 rfl rfl dX1_remember_35 36 rfl ?_
    refine z_aload_n C 0 rfl rfl dX1_remember_36 37 rfl ?_
    refine z_get C zc1 iX1_remember_X1 0 0 rfl rfl 0 (Nat.le_of_ble_eq_true rfl) (List.mem_of_getElem? (i := 3) rfl) (v := .int (nI kp)) rfl dX1_remember_37 40 rfl ?_
    refine z_iconst C (v := nI 1) rfl dX1_remember_40 41 rfl ?_
    refine z_iadd C dX1_remember_41 42 rfl ?_
    refine z_bipush C (v := nI 6) rfl dX1_remember_42 44 rfl ?_
    refine z_min C (List.mem_of_getElem? (i := 4) rfl) (List.mem_of_getElem? (i := 5) rfl) (List.mem_of_getElem? (i := 6) rfl) (List.mem_of_getElem? (i := 7) rfl) ⟨Nat.le_of_ble_eq_true rfl, Nat.le_of_ble_eq_true rfl⟩ ⟨Nat.zero_le _, Nat.zero_le _⟩ (by omega) (by omega) dX1_remember_44 47 rfl ?_
    refine z_put C zc1 iX1_remember_X1 0 0 rfl rfl 0 (Nat.le_of_ble_eq_true rfl) (List.mem_of_getElem? (i := 3) rfl) rfl rfl rfl (Nat.le_of_ble_eq_true rfl) (wH K.g h hb (min (kp + 1) 6) 1) rfl [wH K.g h hb (min (kp + 1) 6) 1, wB K.g (hb 0) st r n, wB K.g (hb 1) (hs 1) (hr 1) (hn 1), wB K.g (hb 2) (hs 2) (hr 2) (hn 2), wB K.g (hb 3) (hs 3) (hr 3) (hn 3), wB K.g (hb 4) (hs 4) (hr 4) (hn 4), wB K.g (hb 5) (hs 5) (hr 5) (hn 5), wB K.g b st r n] rfl dX1_remember_47 50 rfl ?_
    exact z_vret C R dX1_remember_50 () rfl trivial rfl
  · skip
    refine z_aload_n C 0 rfl rfl dX1_remember_0 1 rfl ?_
    refine z_get C zc1 iX1_remember_X1 0 0 rfl rfl 1 (Nat.le_of_ble_eq_true rfl) (List.mem_of_getElem? (i := 1) rfl) (v := .ref (h 1)) rfl dX1_remember_1 4 rfl ?_
    refine z_aload_n C 0 rfl rfl dX1_remember_4 5 rfl ?_
    refine z_get C zc1 iX1_remember_X1 0 0 rfl rfl 2 (Nat.le_of_ble_eq_true rfl) (List.mem_of_getElem? (i := 2) rfl) (v := .int (nI 1)) rfl dX1_remember_5 8 rfl ?_
    refine z_aald C (y := ((hb 1) 0)) 0 1 2 rfl rfl rfl rfl (by omega) (by decide) rfl dX1_remember_8 9 rfl ?_
    refine z_aload_n C 1 rfl rfl dX1_remember_9 10 rfl ?_
    refine z_callV C [.ref (b 0)] [] (tX0_copyFrom K.l K.g (hb 1) (hs 1) (hr 1) (hn 1) b st r n ) gX1_remember_X0_copyFrom rfl rfl rfl hdX0_copyFrom ⟨Nat.le_of_ble_eq_true rfl, Nat.le_of_ble_eq_true rfl⟩ ⟨Nat.zero_le _, Nat.zero_le _⟩ 2 0 rfl rfl rfl [2, 7] rfl rfl (zlc (N := 8) rfl rfl) [0, 1, 8, 3, 4, 5, 6, 9] rfl (by decide) (fun _ : Unit => [wH K.g h hb kp 1, wB K.g (hb 0) (hs 0) (hr 0) (hn 0), wB K.g (hb 1) st r n, wB K.g (hb 2) (hs 2) (hr 2) (hn 2), wB K.g (hb 3) (hs 3) (hr 3) (hn 3), wB K.g (hb 4) (hs 4) (hr 4) (hn 4), wB K.g (hb 5) (hs 5) (hr 5) (hn 5), wB K.g b st r n]) (fun _ => rfl) rfl rfl (Nat.le_of_ble_eq_true rfl) dX1_remember_10 13 rfl (fun u hu => ?_)
    show Z K 0 0 [wH K.g h hb kp 1, wB K.g (hb 0) (hs 0) (hr 0) (hn 0), wB K.g (hb 1) st r n, wB K.g (hb 2) (hs 2) (hr 2) (hn 2), wB K.g (hb 3) (hs 3) (hr 3) (hn 3), wB K.g (hb 4) (hs 4) (hr 4) (hn 4), wB K.g (hb 5) (hs 5) (hr 5) (hn 5), wB K.g b st r n] [(0, .ref (h 0)), (1, .ref (b 0))] 13 []
    refine z_aload_n C 0 rfl rfl dX1_remember_13 14 rfl ?_
    refine z_aload_n C 0 rfl rfl dX1_remember_14 15 rfl ?_
    refine z_get C zc1 iX1_remember_X1 0 0 rfl rfl 2 (Nat.le_of_ble_eq_true rfl) (List.mem_of_getElem? (i := 2) rfl) (v := .int (nI 1)) rfl dX1_remember_15 18 rfl ?_
    refine z_iconst C (v := nI 5) rfl dX1_remember_18 19 rfl ?_
    refine z_icmp_ne C (by omega) (by omega) 26 dX1_remember_19 (by decide) 22 rfl (fun c_2 => ?_) (fun c_2 => ?_)
    rotate_left
    · exfalso; omega
    refine z_aload_n C 0 rfl rfl dX1_remember_26 27 rfl ?_
    refine z_get C zc1 iX1_remember_X1 0 0 rfl rfl 2 (Nat.le_of_ble_eq_true rfl) (List.mem_of_getElem? (i := 2) rfl) (v := .int (nI 1)) rfl dX1_remember_27 30 rfl ?_
    refine z_iconst C (v := nI 1) rfl dX1_remember_30 31 rfl ?_
    refine z_iadd C dX1_remember_31 32 rfl ?_
    refine z_put C zc1 iX1_remember_X1 0 0 rfl rfl 2 (Nat.le_of_ble_eq_true rfl) (List.mem_of_getElem? (i := 2) rfl) rfl rfl rfl (Nat.le_of_ble_eq_true rfl) (wH K.g h hb kp 2) rfl [wH K.g h hb kp 2, wB K.g (hb 0) (hs 0) (hr 0) (hn 0), wB K.g (hb 1) st r n, wB K.g (hb 2) (hs 2) (hr 2) (hn 2), wB K.g (hb 3) (hs 3) (hr 3) (hn 3), wB K.g (hb 4) (hs 4) (hr 4) (hn 4), wB K.g (hb 5) (hs 5) (hr 5) (hn 5), wB K.g b st r n] rfl dX1_remember_32 35 rfl ?_
    refine z_aload_n C 0 rfl rfl dX1_remember_35 36 rfl ?_
    refine z_aload_n C 0 rfl rfl dX1_remember_36 37 rfl ?_
    refine z_get C zc1 iX1_remember_X1 0 0 rfl rfl 0 (Nat.le_of_ble_eq_true rfl) (List.mem_of_getElem? (i := 3) rfl) (v := .int (nI kp)) rfl dX1_remember_37 40 rfl ?_
    refine z_iconst C (v := nI 1) rfl dX1_remember_40 41 rfl ?_
    refine z_iadd C dX1_remember_41 42 rfl ?_
    refine z_bipush C (v := nI 6) rfl dX1_remember_42 44 rfl ?_
    refine z_min C (List.mem_of_getElem? (i := 4) rfl) (List.mem_of_getElem? (i := 5) rfl) (List.mem_of_getElem? (i := 6) rfl) (List.mem_of_getElem? (i := 7) rfl) ⟨Nat.le_of_ble_eq_true rfl, Nat.le_of_ble_eq_true rfl⟩ ⟨Nat.zero_le _, Nat.zero_le _⟩ (by omega) (by omega) dX1_remember_44 47 rfl ?_
    refine z_put C zc1 iX1_remember_X1 0 0 rfl rfl 0 (Nat.le_of_ble_eq_true rfl) (List.mem_of_getElem? (i := 3) rfl) rfl rfl rfl (Nat.le_of_ble_eq_true rfl) (wH K.g h hb (min (kp + 1) 6) 2) rfl [wH K.g h hb (min (kp + 1) 6) 2, wB K.g (hb 0) (hs 0) (hr 0) (hn 0), wB K.g (hb 1) st r n, wB K.g (hb 2) (hs 2) (hr 2) (hn 2), wB K.g (hb 3) (hs 3) (hr 3) (hn 3), wB K.g (hb 4) (hs 4) (hr 4) (hn 4), wB K.g (hb 5) (hs 5) (hr 5) (hn 5), wB K.g b st r n] rfl dX1_remember_47 50 rfl ?_
    exact z_vret C R dX1_remember_50 () rfl trivial rfl
  · skip
    refine z_aload_n C 0 rfl rfl dX1_remember_0 1 rfl ?_
    refine z_get C zc1 iX1_remember_X1 0 0 rfl rfl 1 (Nat.le_of_ble_eq_true rfl) (List.mem_of_getElem? (i := 1) rfl) (v := .ref (h 1)) rfl dX1_remember_1 4 rfl ?_
    refine z_aload_n C 0 rfl rfl dX1_remember_4 5 rfl ?_
    refine z_get C zc1 iX1_remember_X1 0 0 rfl rfl 2 (Nat.le_of_ble_eq_true rfl) (List.mem_of_getElem? (i := 2) rfl) (v := .int (nI 2)) rfl dX1_remember_5 8 rfl ?_
    refine z_aald C (y := ((hb 2) 0)) 0 1 2 rfl rfl rfl rfl (by omega) (by decide) rfl dX1_remember_8 9 rfl ?_
    refine z_aload_n C 1 rfl rfl dX1_remember_9 10 rfl ?_
    refine z_callV C [.ref (b 0)] [] (tX0_copyFrom K.l K.g (hb 2) (hs 2) (hr 2) (hn 2) b st r n ) gX1_remember_X0_copyFrom rfl rfl rfl hdX0_copyFrom ⟨Nat.le_of_ble_eq_true rfl, Nat.le_of_ble_eq_true rfl⟩ ⟨Nat.zero_le _, Nat.zero_le _⟩ 3 0 rfl rfl rfl [3, 7] rfl rfl (zlc (N := 8) rfl rfl) [0, 1, 2, 8, 4, 5, 6, 9] rfl (by decide) (fun _ : Unit => [wH K.g h hb kp 2, wB K.g (hb 0) (hs 0) (hr 0) (hn 0), wB K.g (hb 1) (hs 1) (hr 1) (hn 1), wB K.g (hb 2) st r n, wB K.g (hb 3) (hs 3) (hr 3) (hn 3), wB K.g (hb 4) (hs 4) (hr 4) (hn 4), wB K.g (hb 5) (hs 5) (hr 5) (hn 5), wB K.g b st r n]) (fun _ => rfl) rfl rfl (Nat.le_of_ble_eq_true rfl) dX1_remember_10 13 rfl (fun u hu => ?_)
    show Z K 0 0 [wH K.g h hb kp 2, wB K.g (hb 0) (hs 0) (hr 0) (hn 0), wB K.g (hb 1) (hs 1) (hr 1) (hn 1), wB K.g (hb 2) st r n, wB K.g (hb 3) (hs 3) (hr 3) (hn 3), wB K.g (hb 4) (hs 4) (hr 4) (hn 4), wB K.g (hb 5) (hs 5) (hr 5) (hn 5), wB K.g b st r n] [(0, .ref (h 0)), (1, .ref (b 0))] 13 []
    refine z_aload_n C 0 rfl rfl dX1_remember_13 14 rfl ?_
    refine z_aload_n C 0 rfl rfl dX1_remember_14 15 rfl ?_
    refine z_get C zc1 iX1_remember_X1 0 0 rfl rfl 2 (Nat.le_of_ble_eq_true rfl) (List.mem_of_getElem? (i := 2) rfl) (v := .int (nI 2)) rfl dX1_remember_15 18 rfl ?_
    refine z_iconst C (v := nI 5) rfl dX1_remember_18 19 rfl ?_
    refine z_icmp_ne C (by omega) (by omega) 26 dX1_remember_19 (by decide) 22 rfl (fun c_3 => ?_) (fun c_3 => ?_)
    rotate_left
    · exfalso; omega
    refine z_aload_n C 0 rfl rfl dX1_remember_26 27 rfl ?_
    refine z_get C zc1 iX1_remember_X1 0 0 rfl rfl 2 (Nat.le_of_ble_eq_true rfl) (List.mem_of_getElem? (i := 2) rfl) (v := .int (nI 2)) rfl dX1_remember_27 30 rfl ?_
    refine z_iconst C (v := nI 1) rfl dX1_remember_30 31 rfl ?_
    refine z_iadd C dX1_remember_31 32 rfl ?_
    refine z_put C zc1 iX1_remember_X1 0 0 rfl rfl 2 (Nat.le_of_ble_eq_true rfl) (List.mem_of_getElem? (i := 2) rfl) rfl rfl rfl (Nat.le_of_ble_eq_true rfl) (wH K.g h hb kp 3) rfl [wH K.g h hb kp 3, wB K.g (hb 0) (hs 0) (hr 0) (hn 0), wB K.g (hb 1) (hs 1) (hr 1) (hn 1), wB K.g (hb 2) st r n, wB K.g (hb 3) (hs 3) (hr 3) (hn 3), wB K.g (hb 4) (hs 4) (hr 4) (hn 4), wB K.g (hb 5) (hs 5) (hr 5) (hn 5), wB K.g b st r n] rfl dX1_remember_32 35 rfl ?_
    refine z_aload_n C 0 rfl rfl dX1_remember_35 36 rfl ?_
    refine z_aload_n C 0 rfl rfl dX1_remember_36 37 rfl ?_
    refine z_get C zc1 iX1_remember_X1 0 0 rfl rfl 0 (Nat.le_of_ble_eq_true rfl) (List.mem_of_getElem? (i := 3) rfl) (v := .int (nI kp)) rfl dX1_remember_37 40 rfl ?_
    refine z_iconst C (v := nI 1) rfl dX1_remember_40 41 rfl ?_
    refine z_iadd C dX1_remember_41 42 rfl ?_
    refine z_bipush C (v := nI 6) rfl dX1_remember_42 44 rfl ?_
    refine z_min C (List.mem_of_getElem? (i := 4) rfl) (List.mem_of_getElem? (i := 5) rfl) (List.mem_of_getElem? (i := 6) rfl) (List.mem_of_getElem? (i := 7) rfl) ⟨Nat.le_of_ble_eq_true rfl, Nat.le_of_ble_eq_true rfl⟩ ⟨Nat.zero_le _, Nat.zero_le _⟩ (by omega) (by omega) dX1_remember_44 47 rfl ?_
    refine z_put C zc1 iX1_remember_X1 0 0 rfl rfl 0 (Nat.le_of_ble_eq_true rfl) (List.mem_of_getElem? (i := 3) rfl) rfl rfl rfl (Nat.le_of_ble_eq_true rfl) (wH K.g h hb (min (kp + 1) 6) 3) rfl [wH K.g h hb (min (kp + 1) 6) 3, wB K.g (hb 0) (hs 0) (hr 0) (hn 0), wB K.g (hb 1) (hs 1) (hr 1) (hn 1), wB K.g (hb 2) st r n, wB K.g (hb 3) (hs 3) (hr 3) (hn 3), wB K.g (hb 4) (hs 4) (hr 4) (hn 4), wB K.g (hb 5) (hs 5) (hr 5) (hn 5), wB K.g b st r n] rfl dX1_remember_47 50 rfl ?_
    exact z_vret C R dX1_remember_50 () rfl trivial rfl
  · skip
    refine z_aload_n C 0 rfl rfl dX1_remember_0 1 rfl ?_
    refine z_get C zc1 iX1_remember_X1 0 0 rfl rfl 1 (Nat.le_of_ble_eq_true rfl) (List.mem_of_getElem? (i := 1) rfl) (v := .ref (h 1)) rfl dX1_remember_1 4 rfl ?_
    refine z_aload_n C 0 rfl rfl dX1_remember_4 5 rfl ?_
    refine z_get C zc1 iX1_remember_X1 0 0 rfl rfl 2 (Nat.le_of_ble_eq_true rfl) (List.mem_of_getElem? (i := 2) rfl) (v := .int (nI 3)) rfl dX1_remember_5 8 rfl ?_
    refine z_aald C (y := ((hb 3) 0)) 0 1 2 rfl rfl rfl rfl (by omega) (by decide) rfl dX1_remember_8 9 rfl ?_
    refine z_aload_n C 1 rfl rfl dX1_remember_9 10 rfl ?_
    refine z_callV C [.ref (b 0)] [] (tX0_copyFrom K.l K.g (hb 3) (hs 3) (hr 3) (hn 3) b st r n ) gX1_remember_X0_copyFrom rfl rfl rfl hdX0_copyFrom ⟨Nat.le_of_ble_eq_true rfl, Nat.le_of_ble_eq_true rfl⟩ ⟨Nat.zero_le _, Nat.zero_le _⟩ 4 0 rfl rfl rfl [4, 7] rfl rfl (zlc (N := 8) rfl rfl) [0, 1, 2, 3, 8, 5, 6, 9] rfl (by decide) (fun _ : Unit => [wH K.g h hb kp 3, wB K.g (hb 0) (hs 0) (hr 0) (hn 0), wB K.g (hb 1) (hs 1) (hr 1) (hn 1), wB K.g (hb 2) (hs 2) (hr 2) (hn 2), wB K.g (hb 3) st r n, wB K.g (hb 4) (hs 4) (hr 4) (hn 4), wB K.g (hb 5) (hs 5) (hr 5) (hn 5), wB K.g b st r n]) (fun _ => rfl) rfl rfl (Nat.le_of_ble_eq_true rfl) dX1_remember_10 13 rfl (fun u hu => ?_)
    show Z K 0 0 [wH K.g h hb kp 3, wB K.g (hb 0) (hs 0) (hr 0) (hn 0), wB K.g (hb 1) (hs 1) (hr 1) (hn 1), wB K.g (hb 2) (hs 2) (hr 2) (hn 2), wB K.g (hb 3) st r n, wB K.g (hb 4) (hs 4) (hr 4) (hn 4), wB K.g (hb 5) (hs 5) (hr 5) (hn 5), wB K.g b st r n] [(0, .ref (h 0)), (1, .ref (b 0))] 13 []
    refine z_aload_n C 0 rfl rfl dX1_remember_13 14 rfl ?_
    refine z_aload_n C 0 rfl rfl dX1_remember_14 15 rfl ?_
    refine z_get C zc1 iX1_remember_X1 0 0 rfl rfl 2 (Nat.le_of_ble_eq_true rfl) (List.mem_of_getElem? (i := 2) rfl) (v := .int (nI 3)) rfl dX1_remember_15 18 rfl ?_
    refine z_iconst C (v := nI 5) rfl dX1_remember_18 19 rfl ?_
    refine z_icmp_ne C (by omega) (by omega) 26 dX1_remember_19 (by decide) 22 rfl (fun c_4 => ?_) (fun c_4 => ?_)
    rotate_left
    · exfalso; omega
    refine z_aload_n C 0 rfl rfl dX1_remember_26 27 rfl ?_
    refine z_get C zc1 iX1_remember_X1 0 0 rfl rfl 2 (Nat.le_of_ble_eq_true rfl) (List.mem_of_getElem? (i := 2) rfl) (v := .int (nI 3)) rfl dX1_remember_27 30 rfl ?_
    refine z_iconst C (v := nI 1) rfl dX1_remember_30 31 rfl ?_
    refine z_iadd C dX1_remember_31 32 rfl ?_
    refine z_put C zc1 iX1_remember_X1 0 0 rfl rfl 2 (Nat.le_of_ble_eq_true rfl) (List.mem_of_getElem? (i := 2) rfl) rfl rfl rfl (Nat.le_of_ble_eq_true rfl) (wH K.g h hb kp 4) rfl [wH K.g h hb kp 4, wB K.g (hb 0) (hs 0) (hr 0) (hn 0), wB K.g (hb 1) (hs 1) (hr 1) (hn 1), wB K.g (hb 2) (hs 2) (hr 2) (hn 2), wB K.g (hb 3) st r n, wB K.g (hb 4) (hs 4) (hr 4) (hn 4), wB K.g (hb 5) (hs 5) (hr 5) (hn 5), wB K.g b st r n] rfl dX1_remember_32 35 rfl ?_
    refine z_aload_n C 0 rfl rfl dX1_remember_35 36 rfl ?_
    refine z_aload_n C 0 rfl rfl dX1_remember_36 37 rfl ?_
    refine z_get C zc1 iX1_remember_X1 0 0 rfl rfl 0 (Nat.le_of_ble_eq_true rfl) (List.mem_of_getElem? (i := 3) rfl) (v := .int (nI kp)) rfl dX1_remember_37 40 rfl ?_
    refine z_iconst C (v := nI 1) rfl dX1_remember_40 41 rfl ?_
    refine z_iadd C dX1_remember_41 42 rfl ?_
    refine z_bipush C (v := nI 6) rfl dX1_remember_42 44 rfl ?_
    refine z_min C (List.mem_of_getElem? (i := 4) rfl) (List.mem_of_getElem? (i := 5) rfl) (List.mem_of_getElem? (i := 6) rfl) (List.mem_of_getElem? (i := 7) rfl) ⟨Nat.le_of_ble_eq_true rfl, Nat.le_of_ble_eq_true rfl⟩ ⟨Nat.zero_le _, Nat.zero_le _⟩ (by omega) (by omega) dX1_remember_44 47 rfl ?_
    refine z_put C zc1 iX1_remember_X1 0 0 rfl rfl 0 (Nat.le_of_ble_eq_true rfl) (List.mem_of_getElem? (i := 3) rfl) rfl rfl rfl (Nat.le_of_ble_eq_true rfl) (wH K.g h hb (min (kp + 1) 6) 4) rfl [wH K.g h hb (min (kp + 1) 6) 4, wB K.g (hb 0) (hs 0) (hr 0) (hn 0), wB K.g (hb 1) (hs 1) (hr 1) (hn 1), wB K.g (hb 2) (hs 2) (hr 2) (hn 2), wB K.g (hb 3) st r n, wB K.g (hb 4) (hs 4) (hr 4) (hn 4), wB K.g (hb 5) (hs 5) (hr 5) (hn 5), wB K.g b st r n] rfl dX1_remember_47 50 rfl ?_
    exact z_vret C R dX1_remember_50 () rfl trivial rfl
  · skip
    refine z_aload_n C 0 rfl rfl dX1_remember_0 1 rfl ?_
    refine z_get C zc1 iX1_remember_X1 0 0 rfl rfl 1 (Nat.le_of_ble_eq_true rfl) (List.mem_of_getElem? (i := 1) rfl) (v := .ref (h 1)) rfl dX1_remember_1 4 rfl ?_
    refine z_aload_n C 0 rfl rfl dX1_remember_4 5 rfl ?_
    refine z_get C zc1 iX1_remember_X1 0 0 rfl rfl 2 (Nat.le_of_ble_eq_true rfl) (List.mem_of_getElem? (i := 2) rfl) (v := .int (nI 4)) rfl dX1_remember_5 8 rfl ?_
    refine z_aald C (y := ((hb 4) 0)) 0 1 2 rfl rfl rfl rfl (by omega) (by decide) rfl dX1_remember_8 9 rfl ?_
    refine z_aload_n C 1 rfl rfl dX1_remember_9 10 rfl ?_
    refine z_callV C [.ref (b 0)] [] (tX0_copyFrom K.l K.g (hb 4) (hs 4) (hr 4) (hn 4) b st r n ) gX1_remember_X0_copyFrom rfl rfl rfl hdX0_copyFrom ⟨Nat.le_of_ble_eq_true rfl, Nat.le_of_ble_eq_true rfl⟩ ⟨Nat.zero_le _, Nat.zero_le _⟩ 5 0 rfl rfl rfl [5, 7] rfl rfl (zlc (N := 8) rfl rfl) [0, 1, 2, 3, 4, 8, 6, 9] rfl (by decide) (fun _ : Unit => [wH K.g h hb kp 4, wB K.g (hb 0) (hs 0) (hr 0) (hn 0), wB K.g (hb 1) (hs 1) (hr 1) (hn 1), wB K.g (hb 2) (hs 2) (hr 2) (hn 2), wB K.g (hb 3) (hs 3) (hr 3) (hn 3), wB K.g (hb 4) st r n, wB K.g (hb 5) (hs 5) (hr 5) (hn 5), wB K.g b st r n]) (fun _ => rfl) rfl rfl (Nat.le_of_ble_eq_true rfl) dX1_remember_10 13 rfl (fun u hu => ?_)
    show Z K 0 0 [wH K.g h hb kp 4, wB K.g (hb 0) (hs 0) (hr 0) (hn 0), wB K.g (hb 1) (hs 1) (hr 1) (hn 1), wB K.g (hb 2) (hs 2) (hr 2) (hn 2), wB K.g (hb 3) (hs 3) (hr 3) (hn 3), wB K.g (hb 4) st r n, wB K.g (hb 5) (hs 5) (hr 5) (hn 5), wB K.g b st r n] [(0, .ref (h 0)), (1, .ref (b 0))] 13 []
    refine z_aload_n C 0 rfl rfl dX1_remember_13 14 rfl ?_
    refine z_aload_n C 0 rfl rfl dX1_remember_14 15 rfl ?_
    refine z_get C zc1 iX1_remember_X1 0 0 rfl rfl 2 (Nat.le_of_ble_eq_true rfl) (List.mem_of_getElem? (i := 2) rfl) (v := .int (nI 4)) rfl dX1_remember_15 18 rfl ?_
    refine z_iconst C (v := nI 5) rfl dX1_remember_18 19 rfl ?_
    refine z_icmp_ne C (by omega) (by omega) 26 dX1_remember_19 (by decide) 22 rfl (fun c_5 => ?_) (fun c_5 => ?_)
    rotate_left
    · exfalso; omega
    refine z_aload_n C 0 rfl rfl dX1_remember_26 27 rfl ?_
    refine z_get C zc1 iX1_remember_X1 0 0 rfl rfl 2 (Nat.le_of_ble_eq_true rfl) (List.mem_of_getElem? (i := 2) rfl) (v := .int (nI 4)) rfl dX1_remember_27 30 rfl ?_
    refine z_iconst C (v := nI 1) rfl dX1_remember_30 31 rfl ?_
    refine z_iadd C dX1_remember_31 32 rfl ?_
    refine z_put C zc1 iX1_remember_X1 0 0 rfl rfl 2 (Nat.le_of_ble_eq_true rfl) (List.mem_of_getElem? (i := 2) rfl) rfl rfl rfl (Nat.le_of_ble_eq_true rfl) (wH K.g h hb kp 5) rfl [wH K.g h hb kp 5, wB K.g (hb 0) (hs 0) (hr 0) (hn 0), wB K.g (hb 1) (hs 1) (hr 1) (hn 1), wB K.g (hb 2) (hs 2) (hr 2) (hn 2), wB K.g (hb 3) (hs 3) (hr 3) (hn 3), wB K.g (hb 4) st r n, wB K.g (hb 5) (hs 5) (hr 5) (hn 5), wB K.g b st r n] rfl dX1_remember_32 35 rfl ?_
    refine z_aload_n C 0 rfl rfl dX1_remember_35 36 rfl ?_
    refine z_aload_n C 0 rfl rfl dX1_remember_36 37 rfl ?_
    refine z_get C zc1 iX1_remember_X1 0 0 rfl rfl 0 (Nat.le_of_ble_eq_true rfl) (List.mem_of_getElem? (i := 3) rfl) (v := .int (nI kp)) rfl dX1_remember_37 40 rfl ?_
    refine z_iconst C (v := nI 1) rfl dX1_remember_40 41 rfl ?_
    refine z_iadd C dX1_remember_41 42 rfl ?_
    refine z_bipush C (v := nI 6) rfl dX1_remember_42 44 rfl ?_
    refine z_min C (List.mem_of_getElem? (i := 4) rfl) (List.mem_of_getElem? (i := 5) rfl) (List.mem_of_getElem? (i := 6) rfl) (List.mem_of_getElem? (i := 7) rfl) ⟨Nat.le_of_ble_eq_true rfl, Nat.le_of_ble_eq_true rfl⟩ ⟨Nat.zero_le _, Nat.zero_le _⟩ (by omega) (by omega) dX1_remember_44 47 rfl ?_
    refine z_put C zc1 iX1_remember_X1 0 0 rfl rfl 0 (Nat.le_of_ble_eq_true rfl) (List.mem_of_getElem? (i := 3) rfl) rfl rfl rfl (Nat.le_of_ble_eq_true rfl) (wH K.g h hb (min (kp + 1) 6) 5) rfl [wH K.g h hb (min (kp + 1) 6) 5, wB K.g (hb 0) (hs 0) (hr 0) (hn 0), wB K.g (hb 1) (hs 1) (hr 1) (hn 1), wB K.g (hb 2) (hs 2) (hr 2) (hn 2), wB K.g (hb 3) (hs 3) (hr 3) (hn 3), wB K.g (hb 4) st r n, wB K.g (hb 5) (hs 5) (hr 5) (hn 5), wB K.g b st r n] rfl dX1_remember_47 50 rfl ?_
    exact z_vret C R dX1_remember_50 () rfl trivial rfl
  · skip
    refine z_aload_n C 0 rfl rfl dX1_remember_0 1 rfl ?_
    refine z_get C zc1 iX1_remember_X1 0 0 rfl rfl 1 (Nat.le_of_ble_eq_true rfl) (List.mem_of_getElem? (i := 1) rfl) (v := .ref (h 1)) rfl dX1_remember_1 4 rfl ?_
    refine z_aload_n C 0 rfl rfl dX1_remember_4 5 rfl ?_
    refine z_get C zc1 iX1_remember_X1 0 0 rfl rfl 2 (Nat.le_of_ble_eq_true rfl) (List.mem_of_getElem? (i := 2) rfl) (v := .int (nI 5)) rfl dX1_remember_5 8 rfl ?_
    refine z_aald C (y := ((hb 5) 0)) 0 1 2 rfl rfl rfl rfl (by omega) (by decide) rfl dX1_remember_8 9 rfl ?_
    refine z_aload_n C 1 rfl rfl dX1_remember_9 10 rfl ?_
    refine z_callV C [.ref (b 0)] [] (tX0_copyFrom K.l K.g (hb 5) (hs 5) (hr 5) (hn 5) b st r n ) gX1_remember_X0_copyFrom rfl rfl rfl hdX0_copyFrom ⟨Nat.le_of_ble_eq_true rfl, Nat.le_of_ble_eq_true rfl⟩ ⟨Nat.zero_le _, Nat.zero_le _⟩ 6 0 rfl rfl rfl [6, 7] rfl rfl (zlc (N := 8) rfl rfl) [0, 1, 2, 3, 4, 5, 8, 9] rfl (by decide) (fun _ : Unit => [wH K.g h hb kp 5, wB K.g (hb 0) (hs 0) (hr 0) (hn 0), wB K.g (hb 1) (hs 1) (hr 1) (hn 1), wB K.g (hb 2) (hs 2) (hr 2) (hn 2), wB K.g (hb 3) (hs 3) (hr 3) (hn 3), wB K.g (hb 4) (hs 4) (hr 4) (hn 4), wB K.g (hb 5) st r n, wB K.g b st r n]) (fun _ => rfl) rfl rfl (Nat.le_of_ble_eq_true rfl) dX1_remember_10 13 rfl (fun u hu => ?_)
    show Z K 0 0 [wH K.g h hb kp 5, wB K.g (hb 0) (hs 0) (hr 0) (hn 0), wB K.g (hb 1) (hs 1) (hr 1) (hn 1), wB K.g (hb 2) (hs 2) (hr 2) (hn 2), wB K.g (hb 3) (hs 3) (hr 3) (hn 3), wB K.g (hb 4) (hs 4) (hr 4) (hn 4), wB K.g (hb 5) st r n, wB K.g b st r n] [(0, .ref (h 0)), (1, .ref (b 0))] 13 []
    refine z_aload_n C 0 rfl rfl dX1_remember_13 14 rfl ?_
    refine z_aload_n C 0 rfl rfl dX1_remember_14 15 rfl ?_
    refine z_get C zc1 iX1_remember_X1 0 0 rfl rfl 2 (Nat.le_of_ble_eq_true rfl) (List.mem_of_getElem? (i := 2) rfl) (v := .int (nI 5)) rfl dX1_remember_15 18 rfl ?_
    refine z_iconst C (v := nI 5) rfl dX1_remember_18 19 rfl ?_
    refine z_icmp_ne C (by omega) (by omega) 26 dX1_remember_19 (by decide) 22 rfl (fun c_6 => ?_) (fun c_6 => ?_)
    · exfalso; omega
    refine z_iconst C (v := nI 0) rfl dX1_remember_22 23 rfl ?_
    refine z_goto C 32 dX1_remember_23 (by decide) ?_
    refine z_put C zc1 iX1_remember_X1 0 0 rfl rfl 2 (Nat.le_of_ble_eq_true rfl) (List.mem_of_getElem? (i := 2) rfl) rfl rfl rfl (Nat.le_of_ble_eq_true rfl) (wH K.g h hb kp 0) rfl [wH K.g h hb kp 0, wB K.g (hb 0) (hs 0) (hr 0) (hn 0), wB K.g (hb 1) (hs 1) (hr 1) (hn 1), wB K.g (hb 2) (hs 2) (hr 2) (hn 2), wB K.g (hb 3) (hs 3) (hr 3) (hn 3), wB K.g (hb 4) (hs 4) (hr 4) (hn 4), wB K.g (hb 5) st r n, wB K.g b st r n] rfl dX1_remember_32 35 rfl ?_
    refine z_aload_n C 0 rfl rfl dX1_remember_35 36 rfl ?_
    refine z_aload_n C 0 rfl rfl dX1_remember_36 37 rfl ?_
    refine z_get C zc1 iX1_remember_X1 0 0 rfl rfl 0 (Nat.le_of_ble_eq_true rfl) (List.mem_of_getElem? (i := 3) rfl) (v := .int (nI kp)) rfl dX1_remember_37 40 rfl ?_
    refine z_iconst C (v := nI 1) rfl dX1_remember_40 41 rfl ?_
    refine z_iadd C dX1_remember_41 42 rfl ?_
    refine z_bipush C (v := nI 6) rfl dX1_remember_42 44 rfl ?_
    refine z_min C (List.mem_of_getElem? (i := 4) rfl) (List.mem_of_getElem? (i := 5) rfl) (List.mem_of_getElem? (i := 6) rfl) (List.mem_of_getElem? (i := 7) rfl) ⟨Nat.le_of_ble_eq_true rfl, Nat.le_of_ble_eq_true rfl⟩ ⟨Nat.zero_le _, Nat.zero_le _⟩ (by omega) (by omega) dX1_remember_44 47 rfl ?_
    refine z_put C zc1 iX1_remember_X1 0 0 rfl rfl 0 (Nat.le_of_ble_eq_true rfl) (List.mem_of_getElem? (i := 3) rfl) rfl rfl rfl (Nat.le_of_ble_eq_true rfl) (wH K.g h hb (min (kp + 1) 6) 0) rfl [wH K.g h hb (min (kp + 1) 6) 0, wB K.g (hb 0) (hs 0) (hr 0) (hn 0), wB K.g (hb 1) (hs 1) (hr 1) (hn 1), wB K.g (hb 2) (hs 2) (hr 2) (hn 2), wB K.g (hb 3) (hs 3) (hr 3) (hn 3), wB K.g (hb 4) (hs 4) (hr 4) (hn 4), wB K.g (hb 5) st r n, wB K.g b st r n] rfl dX1_remember_47 50 rfl ?_
    exact z_vret C R dX1_remember_50 () rfl trivial rfl

theorem iX1_takeBack_X1 : ∀ w ∈ u_ws RX1 TX1 3, w ∈ wsX1_takeBack := fun w h => (List.mem_cons_of_mem _ (List.mem_append_left _ (List.mem_append_right _ h)))
set_option maxHeartbeats 4000000 in
set_option maxRecDepth 100000 in
theorem tX1_takeBack (l : Launch) (g : zG) (h : Nat → Nat) (hb hs : Nat → Nat → Nat) (hr : Nat → Nat → Nat → Nat) (hn : Nat → Nat) (kp nx : Nat) (b st : Nat → Nat) (r : Nat → Nat → Nat) (n : Nat) (hk : kp ≤ 6) (hx : nx < 6) (hk0 : 0 < kp) : Met l yX1_takeBack wsX1_takeBack ({ frames := 2, cells := 0, slots := 0, locals := 82 } : Room) (zPre g [.ref (h 0), .ref (b 0)] [wH g h hb kp nx, wB g (hb 0) (hs 0) (hr 0) (hn 0), wB g (hb 1) (hs 1) (hr 1) (hn 1), wB g (hb 2) (hs 2) (hr 2) (hn 2), wB g (hb 3) (hs 3) (hr 3) (hn 3), wB g (hb 4) (hs 4) (hr 4) (hn 4), wB g (hb 5) (hs 5) (hr 5) (hn 5), wB g b st r n]) (zQ g (fun _ : Unit => none ) (fun _ : Unit => True) (fun _ : Unit => [wH g h hb (kp - 1) (bkx nx), wB g (hb 0) (hs 0) (hr 0) (hn 0), wB g (hb 1) (hs 1) (hr 1) (hn 1), wB g (hb 2) (hs 2) (hr 2) (hn 2), wB g (hb 3) (hs 3) (hr 3) (hn 3), wB g (hb 4) (hs 4) (hr 4) (hn 4), wB g (hb 5) (hs 5) (hr 5) (hn 5), wB g b (hs (bkx nx)) (hr (bkx nx)) (hn (bkx nx))]) (zA [wH g h hb kp nx, wB g (hb 0) (hs 0) (hr 0) (hn 0), wB g (hb 1) (hs 1) (hr 1) (hn 1), wB g (hb 2) (hs 2) (hr 2) (hn 2), wB g (hb 3) (hs 3) (hr 3) (hn 3), wB g (hb 4) (hs 4) (hr 4) (hn 4), wB g (hb 5) (hs 5) (hr 5) (hn 5), wB g b st r n])) 0 0 (zA [wH g h hb kp nx, wB g (hb 0) (hs 0) (hr 0) (hn 0), wB g (hb 1) (hs 1) (hr 1) (hn 1), wB g (hb 2) (hs 2) (hr 2) (hn 2), wB g (hb 3) (hs 3) (hr 3) (hn 3), wB g (hb 4) (hs 4) (hr 4) (hn 4), wB g (hb 5) (hs 5) (hr 5) (hn 5), wB g b st r n]) := by
  refine z_entry (cc := cX1_takeBack) (maxL := 2) (ret := none) (own := RX1) (by decide) rfl rfl (Nat.le_of_ble_eq_true rfl) [(0, .ref (h 0)), (1, .ref (b 0))] rfl ?_
  intro K hKl hKg hnL C R
  subst hKl
  subst hKg
  rcases (show nx = 0 ∨ nx = 1 ∨ nx = 2 ∨ nx = 3 ∨ nx = 4 ∨ nx = 5 by omega) with rfl | rfl | rfl | rfl | rfl | rfl
  · skip
    refine z_aload_n C 0 rfl rfl dX1_takeBack_0 1 rfl ?_
    refine z_aload_n C 0 rfl rfl dX1_takeBack_1 2 rfl ?_
    refine z_get C zc1 iX1_takeBack_X1 0 0 rfl rfl 2 (Nat.le_of_ble_eq_true rfl) (List.mem_of_getElem? (i := 1) rfl) (v := .int (nI 0)) rfl dX1_takeBack_2 5 rfl ?_
    refine z_if_ne C (by omega) 12 dX1_takeBack_5 (by decide) 8 rfl (fun c_1 => ?_) (fun c_1 => ?_)
    · exfalso; omega
    refine z_iconst C (v := nI 5) rfl dX1_takeBack_8 9 rfl ?_
    refine z_goto C 18 dX1_takeBack_9 (by decide) ?_
    refine z_put C zc1 iX1_takeBack_X1 0 0 rfl rfl 2 (Nat.le_of_ble_eq_true rfl) (List.mem_of_getElem? (i := 1) rfl) rfl rfl rfl (Nat.le_of_ble_eq_true rfl) (wH K.g h hb kp 5) rfl [wH K.g h hb kp 5, wB K.g (hb 0) (hs 0) (hr 0) (hn 0), wB K.g (hb 1) (hs 1) (hr 1) (hn 1), wB K.g (hb 2) (hs 2) (hr 2) (hn 2), wB K.g (hb 3) (hs 3) (hr 3) (hn 3), wB K.g (hb 4) (hs 4) (hr 4) (hn 4), wB K.g (hb 5) (hs 5) (hr 5) (hn 5), wB K.g b st r n] rfl dX1_takeBack_18 21 rfl ?_
    refine z_aload_n C 0 rfl rfl dX1_takeBack_21 22 rfl ?_
    refine z_dup C rfl dX1_takeBack_22 23 rfl ?_
    refine z_get C zc1 iX1_takeBack_X1 0 0 rfl rfl 0 (Nat.le_of_ble_eq_true rfl) (List.mem_of_getElem? (i := 2) rfl) (v := .int (nI kp)) rfl dX1_takeBack_23 26 rfl ?_
    refine z_iconst C (v := nI 1) rfl dX1_takeBack_26 27 rfl ?_
    refine z_isub C (by omega) dX1_takeBack_27 28 rfl ?_
    refine z_put C zc1 iX1_takeBack_X1 0 0 rfl rfl 0 (Nat.le_of_ble_eq_true rfl) (List.mem_of_getElem? (i := 2) rfl) rfl rfl rfl (Nat.le_of_ble_eq_true rfl) (wH K.g h hb (kp - 1) 5) rfl [wH K.g h hb (kp - 1) 5, wB K.g (hb 0) (hs 0) (hr 0) (hn 0), wB K.g (hb 1) (hs 1) (hr 1) (hn 1), wB K.g (hb 2) (hs 2) (hr 2) (hn 2), wB K.g (hb 3) (hs 3) (hr 3) (hn 3), wB K.g (hb 4) (hs 4) (hr 4) (hn 4), wB K.g (hb 5) (hs 5) (hr 5) (hn 5), wB K.g b st r n] rfl dX1_takeBack_28 31 rfl ?_
    refine z_aload_n C 1 rfl rfl dX1_takeBack_31 32 rfl ?_
    refine z_aload_n C 0 rfl rfl dX1_takeBack_32 33 rfl ?_
    refine z_get C zc1 iX1_takeBack_X1 0 0 rfl rfl 1 (Nat.le_of_ble_eq_true rfl) (List.mem_of_getElem? (i := 3) rfl) (v := .ref (h 1)) rfl dX1_takeBack_33 36 rfl ?_
    refine z_aload_n C 0 rfl rfl dX1_takeBack_36 37 rfl ?_
    refine z_get C zc1 iX1_takeBack_X1 0 0 rfl rfl 2 (Nat.le_of_ble_eq_true rfl) (List.mem_of_getElem? (i := 1) rfl) (v := .int (nI 5)) rfl dX1_takeBack_37 40 rfl ?_
    refine z_aald C (y := ((hb 5) 0)) 0 1 2 rfl rfl rfl rfl (by omega) (by decide) rfl dX1_takeBack_40 41 rfl ?_
    refine z_callV C [.ref ((hb 5) 0)] [] (tX0_copyFrom K.l K.g b st r n (hb 5) (hs 5) (hr 5) (hn 5) ) gX1_takeBack_X0_copyFrom rfl rfl rfl hdX0_copyFrom ⟨Nat.le_of_ble_eq_true rfl, Nat.le_of_ble_eq_true rfl⟩ ⟨Nat.zero_le _, Nat.zero_le _⟩ 7 0 rfl rfl rfl [7, 6] rfl rfl (zlc (N := 8) rfl rfl) [0, 1, 2, 3, 4, 5, 9, 8] rfl (by decide) (fun _ : Unit => [wH K.g h hb (kp - 1) 5, wB K.g (hb 0) (hs 0) (hr 0) (hn 0), wB K.g (hb 1) (hs 1) (hr 1) (hn 1), wB K.g (hb 2) (hs 2) (hr 2) (hn 2), wB K.g (hb 3) (hs 3) (hr 3) (hn 3), wB K.g (hb 4) (hs 4) (hr 4) (hn 4), wB K.g (hb 5) (hs 5) (hr 5) (hn 5), wB K.g b (hs 5) (hr 5) (hn 5)]) (fun _ => rfl) rfl rfl (Nat.le_of_ble_eq_true rfl) dX1_takeBack_41 44 rfl (fun u hu => ?_)
    show Z K 0 0 [wH K.g h hb (kp - 1) 5, wB K.g (hb 0) (hs 0) (hr 0) (hn 0), wB K.g (hb 1) (hs 1) (hr 1) (hn 1), wB K.g (hb 2) (hs 2) (hr 2) (hn 2), wB K.g (hb 3) (hs 3) (hr 3) (hn 3), wB K.g (hb 4) (hs 4) (hr 4) (hn 4), wB K.g (hb 5) (hs 5) (hr 5) (hn 5), wB K.g b (hs 5) (hr 5) (hn 5)] [(0, .ref (h 0)), (1, .ref (b 0))] 44 []
    exact z_vret C R dX1_takeBack_44 () rfl trivial rfl
  · skip
    refine z_aload_n C 0 rfl rfl dX1_takeBack_0 1 rfl ?_
    refine z_aload_n C 0 rfl rfl dX1_takeBack_1 2 rfl ?_
    refine z_get C zc1 iX1_takeBack_X1 0 0 rfl rfl 2 (Nat.le_of_ble_eq_true rfl) (List.mem_of_getElem? (i := 1) rfl) (v := .int (nI 1)) rfl dX1_takeBack_2 5 rfl ?_
    refine z_if_ne C (by omega) 12 dX1_takeBack_5 (by decide) 8 rfl (fun c_2 => ?_) (fun c_2 => ?_)
    rotate_left
    · exfalso; omega
    refine z_aload_n C 0 rfl rfl dX1_takeBack_12 13 rfl ?_
    refine z_get C zc1 iX1_takeBack_X1 0 0 rfl rfl 2 (Nat.le_of_ble_eq_true rfl) (List.mem_of_getElem? (i := 1) rfl) (v := .int (nI 1)) rfl dX1_takeBack_13 16 rfl ?_
    refine z_iconst C (v := nI 1) rfl dX1_takeBack_16 17 rfl ?_
    refine z_isub C (by omega) dX1_takeBack_17 18 rfl ?_
    refine z_put C zc1 iX1_takeBack_X1 0 0 rfl rfl 2 (Nat.le_of_ble_eq_true rfl) (List.mem_of_getElem? (i := 1) rfl) rfl rfl rfl (Nat.le_of_ble_eq_true rfl) (wH K.g h hb kp 0) rfl [wH K.g h hb kp 0, wB K.g (hb 0) (hs 0) (hr 0) (hn 0), wB K.g (hb 1) (hs 1) (hr 1) (hn 1), wB K.g (hb 2) (hs 2) (hr 2) (hn 2), wB K.g (hb 3) (hs 3) (hr 3) (hn 3), wB K.g (hb 4) (hs 4) (hr 4) (hn 4), wB K.g (hb 5) (hs 5) (hr 5) (hn 5), wB K.g b st r n] rfl dX1_takeBack_18 21 rfl ?_
    refine z_aload_n C 0 rfl rfl dX1_takeBack_21 22 rfl ?_
    refine z_dup C rfl dX1_takeBack_22 23 rfl ?_
    refine z_get C zc1 iX1_takeBack_X1 0 0 rfl rfl 0 (Nat.le_of_ble_eq_true rfl) (List.mem_of_getElem? (i := 2) rfl) (v := .int (nI kp)) rfl dX1_takeBack_23 26 rfl ?_
    refine z_iconst C (v := nI 1) rfl dX1_takeBack_26 27 rfl ?_
    refine z_isub C (by omega) dX1_takeBack_27 28 rfl ?_
    refine z_put C zc1 iX1_takeBack_X1 0 0 rfl rfl 0 (Nat.le_of_ble_eq_true rfl) (List.mem_of_getElem? (i := 2) rfl) rfl rfl rfl (Nat.le_of_ble_eq_true rfl) (wH K.g h hb (kp - 1) 0) rfl [wH K.g h hb (kp - 1) 0, wB K.g (hb 0) (hs 0) (hr 0) (hn 0), wB K.g (hb 1) (hs 1) (hr 1) (hn 1), wB K.g (hb 2) (hs 2) (hr 2) (hn 2), wB K.g (hb 3) (hs 3) (hr 3) (hn 3), wB K.g (hb 4) (hs 4) (hr 4) (hn 4), wB K.g (hb 5) (hs 5) (hr 5) (hn 5), wB K.g b st r n] rfl dX1_takeBack_28 31 rfl ?_
    refine z_aload_n C 1 rfl rfl dX1_takeBack_31 32 rfl ?_
    refine z_aload_n C 0 rfl rfl dX1_takeBack_32 33 rfl ?_
    refine z_get C zc1 iX1_takeBack_X1 0 0 rfl rfl 1 (Nat.le_of_ble_eq_true rfl) (List.mem_of_getElem? (i := 3) rfl) (v := .ref (h 1)) rfl dX1_takeBack_33 36 rfl ?_
    refine z_aload_n C 0 rfl rfl dX1_takeBack_36 37 rfl ?_
    refine z_get C zc1 iX1_takeBack_X1 0 0 rfl rfl 2 (Nat.le_of_ble_eq_true rfl) (List.mem_of_getElem? (i := 1) rfl) (v := .int (nI 0)) rfl dX1_takeBack_37 40 rfl ?_
    refine z_aald C (y := ((hb 0) 0)) 0 1 2 rfl rfl rfl rfl (by omega) (by decide) rfl dX1_takeBack_40 41 rfl ?_
    refine z_callV C [.ref ((hb 0) 0)] [] (tX0_copyFrom K.l K.g b st r n (hb 0) (hs 0) (hr 0) (hn 0) ) gX1_takeBack_X0_copyFrom rfl rfl rfl hdX0_copyFrom ⟨Nat.le_of_ble_eq_true rfl, Nat.le_of_ble_eq_true rfl⟩ ⟨Nat.zero_le _, Nat.zero_le _⟩ 7 0 rfl rfl rfl [7, 1] rfl rfl (zlc (N := 8) rfl rfl) [0, 9, 2, 3, 4, 5, 6, 8] rfl (by decide) (fun _ : Unit => [wH K.g h hb (kp - 1) 0, wB K.g (hb 0) (hs 0) (hr 0) (hn 0), wB K.g (hb 1) (hs 1) (hr 1) (hn 1), wB K.g (hb 2) (hs 2) (hr 2) (hn 2), wB K.g (hb 3) (hs 3) (hr 3) (hn 3), wB K.g (hb 4) (hs 4) (hr 4) (hn 4), wB K.g (hb 5) (hs 5) (hr 5) (hn 5), wB K.g b (hs 0) (hr 0) (hn 0)]) (fun _ => rfl) rfl rfl (Nat.le_of_ble_eq_true rfl) dX1_takeBack_41 44 rfl (fun u hu => ?_)
    show Z K 0 0 [wH K.g h hb (kp - 1) 0, wB K.g (hb 0) (hs 0) (hr 0) (hn 0), wB K.g (hb 1) (hs 1) (hr 1) (hn 1), wB K.g (hb 2) (hs 2) (hr 2) (hn 2), wB K.g (hb 3) (hs 3) (hr 3) (hn 3), wB K.g (hb 4) (hs 4) (hr 4) (hn 4), wB K.g (hb 5) (hs 5) (hr 5) (hn 5), wB K.g b (hs 0) (hr 0) (hn 0)] [(0, .ref (h 0)), (1, .ref (b 0))] 44 []
    exact z_vret C R dX1_takeBack_44 () rfl trivial rfl
  · skip
    refine z_aload_n C 0 rfl rfl dX1_takeBack_0 1 rfl ?_
    refine z_aload_n C 0 rfl rfl dX1_takeBack_1 2 rfl ?_
    refine z_get C zc1 iX1_takeBack_X1 0 0 rfl rfl 2 (Nat.le_of_ble_eq_true rfl) (List.mem_of_getElem? (i := 1) rfl) (v := .int (nI 2)) rfl dX1_takeBack_2 5 rfl ?_
    refine z_if_ne C (by omega) 12 dX1_takeBack_5 (by decide) 8 rfl (fun c_3 => ?_) (fun c_3 => ?_)
    rotate_left
    · exfalso; omega
    refine z_aload_n C 0 rfl rfl dX1_takeBack_12 13 rfl ?_
    refine z_get C zc1 iX1_takeBack_X1 0 0 rfl rfl 2 (Nat.le_of_ble_eq_true rfl) (List.mem_of_getElem? (i := 1) rfl) (v := .int (nI 2)) rfl dX1_takeBack_13 16 rfl ?_
    refine z_iconst C (v := nI 1) rfl dX1_takeBack_16 17 rfl ?_
    refine z_isub C (by omega) dX1_takeBack_17 18 rfl ?_
    refine z_put C zc1 iX1_takeBack_X1 0 0 rfl rfl 2 (Nat.le_of_ble_eq_true rfl) (List.mem_of_getElem? (i := 1) rfl) rfl rfl rfl (Nat.le_of_ble_eq_true rfl) (wH K.g h hb kp 1) rfl [wH K.g h hb kp 1, wB K.g (hb 0) (hs 0) (hr 0) (hn 0), wB K.g (hb 1) (hs 1) (hr 1) (hn 1), wB K.g (hb 2) (hs 2) (hr 2) (hn 2), wB K.g (hb 3) (hs 3) (hr 3) (hn 3), wB K.g (hb 4) (hs 4) (hr 4) (hn 4), wB K.g (hb 5) (hs 5) (hr 5) (hn 5), wB K.g b st r n] rfl dX1_takeBack_18 21 rfl ?_
    refine z_aload_n C 0 rfl rfl dX1_takeBack_21 22 rfl ?_
    refine z_dup C rfl dX1_takeBack_22 23 rfl ?_
    refine z_get C zc1 iX1_takeBack_X1 0 0 rfl rfl 0 (Nat.le_of_ble_eq_true rfl) (List.mem_of_getElem? (i := 2) rfl) (v := .int (nI kp)) rfl dX1_takeBack_23 26 rfl ?_
    refine z_iconst C (v := nI 1) rfl dX1_takeBack_26 27 rfl ?_
    refine z_isub C (by omega) dX1_takeBack_27 28 rfl ?_
    refine z_put C zc1 iX1_takeBack_X1 0 0 rfl rfl 0 (Nat.le_of_ble_eq_true rfl) (List.mem_of_getElem? (i := 2) rfl) rfl rfl rfl (Nat.le_of_ble_eq_true rfl) (wH K.g h hb (kp - 1) 1) rfl [wH K.g h hb (kp - 1) 1, wB K.g (hb 0) (hs 0) (hr 0) (hn 0), wB K.g (hb 1) (hs 1) (hr 1) (hn 1), wB K.g (hb 2) (hs 2) (hr 2) (hn 2), wB K.g (hb 3) (hs 3) (hr 3) (hn 3), wB K.g (hb 4) (hs 4) (hr 4) (hn 4), wB K.g (hb 5) (hs 5) (hr 5) (hn 5), wB K.g b st r n] rfl dX1_takeBack_28 31 rfl ?_
    refine z_aload_n C 1 rfl rfl dX1_takeBack_31 32 rfl ?_
    refine z_aload_n C 0 rfl rfl dX1_takeBack_32 33 rfl ?_
    refine z_get C zc1 iX1_takeBack_X1 0 0 rfl rfl 1 (Nat.le_of_ble_eq_true rfl) (List.mem_of_getElem? (i := 3) rfl) (v := .ref (h 1)) rfl dX1_takeBack_33 36 rfl ?_
    refine z_aload_n C 0 rfl rfl dX1_takeBack_36 37 rfl ?_
    refine z_get C zc1 iX1_takeBack_X1 0 0 rfl rfl 2 (Nat.le_of_ble_eq_true rfl) (List.mem_of_getElem? (i := 1) rfl) (v := .int (nI 1)) rfl dX1_takeBack_37 40 rfl ?_
    refine z_aald C (y := ((hb 1) 0)) 0 1 2 rfl rfl rfl rfl (by omega) (by decide) rfl dX1_takeBack_40 41 rfl ?_
    refine z_callV C [.ref ((hb 1) 0)] [] (tX0_copyFrom K.l K.g b st r n (hb 1) (hs 1) (hr 1) (hn 1) ) gX1_takeBack_X0_copyFrom rfl rfl rfl hdX0_copyFrom ⟨Nat.le_of_ble_eq_true rfl, Nat.le_of_ble_eq_true rfl⟩ ⟨Nat.zero_le _, Nat.zero_le _⟩ 7 0 rfl rfl rfl [7, 2] rfl rfl (zlc (N := 8) rfl rfl) [0, 1, 9, 3, 4, 5, 6, 8] rfl (by decide) (fun _ : Unit => [wH K.g h hb (kp - 1) 1, wB K.g (hb 0) (hs 0) (hr 0) (hn 0), wB K.g (hb 1) (hs 1) (hr 1) (hn 1), wB K.g (hb 2) (hs 2) (hr 2) (hn 2), wB K.g (hb 3) (hs 3) (hr 3) (hn 3), wB K.g (hb 4) (hs 4) (hr 4) (hn 4), wB K.g (hb 5) (hs 5) (hr 5) (hn 5), wB K.g b (hs 1) (hr 1) (hn 1)]) (fun _ => rfl) rfl rfl (Nat.le_of_ble_eq_true rfl) dX1_takeBack_41 44 rfl (fun u hu => ?_)
    show Z K 0 0 [wH K.g h hb (kp - 1) 1, wB K.g (hb 0) (hs 0) (hr 0) (hn 0), wB K.g (hb 1) (hs 1) (hr 1) (hn 1), wB K.g (hb 2) (hs 2) (hr 2) (hn 2), wB K.g (hb 3) (hs 3) (hr 3) (hn 3), wB K.g (hb 4) (hs 4) (hr 4) (hn 4), wB K.g (hb 5) (hs 5) (hr 5) (hn 5), wB K.g b (hs 1) (hr 1) (hn 1)] [(0, .ref (h 0)), (1, .ref (b 0))] 44 []
    exact z_vret C R dX1_takeBack_44 () rfl trivial rfl
  · skip
    refine z_aload_n C 0 rfl rfl dX1_takeBack_0 1 rfl ?_
    refine z_aload_n C 0 rfl rfl dX1_takeBack_1 2 rfl ?_
    refine z_get C zc1 iX1_takeBack_X1 0 0 rfl rfl 2 (Nat.le_of_ble_eq_true rfl) (List.mem_of_getElem? (i := 1) rfl) (v := .int (nI 3)) rfl dX1_takeBack_2 5 rfl ?_
    refine z_if_ne C (by omega) 12 dX1_takeBack_5 (by decide) 8 rfl (fun c_4 => ?_) (fun c_4 => ?_)
    rotate_left
    · exfalso; omega
    refine z_aload_n C 0 rfl rfl dX1_takeBack_12 13 rfl ?_
    refine z_get C zc1 iX1_takeBack_X1 0 0 rfl rfl 2 (Nat.le_of_ble_eq_true rfl) (List.mem_of_getElem? (i := 1) rfl) (v := .int (nI 3)) rfl dX1_takeBack_13 16 rfl ?_
    refine z_iconst C (v := nI 1) rfl dX1_takeBack_16 17 rfl ?_
    refine z_isub C (by omega) dX1_takeBack_17 18 rfl ?_
    refine z_put C zc1 iX1_takeBack_X1 0 0 rfl rfl 2 (Nat.le_of_ble_eq_true rfl) (List.mem_of_getElem? (i := 1) rfl) rfl rfl rfl (Nat.le_of_ble_eq_true rfl) (wH K.g h hb kp 2) rfl [wH K.g h hb kp 2, wB K.g (hb 0) (hs 0) (hr 0) (hn 0), wB K.g (hb 1) (hs 1) (hr 1) (hn 1), wB K.g (hb 2) (hs 2) (hr 2) (hn 2), wB K.g (hb 3) (hs 3) (hr 3) (hn 3), wB K.g (hb 4) (hs 4) (hr 4) (hn 4), wB K.g (hb 5) (hs 5) (hr 5) (hn 5), wB K.g b st r n] rfl dX1_takeBack_18 21 rfl ?_
    refine z_aload_n C 0 rfl rfl dX1_takeBack_21 22 rfl ?_
    refine z_dup C rfl dX1_takeBack_22 23 rfl ?_
    refine z_get C zc1 iX1_takeBack_X1 0 0 rfl rfl 0 (Nat.le_of_ble_eq_true rfl) (List.mem_of_getElem? (i := 2) rfl) (v := .int (nI kp)) rfl dX1_takeBack_23 26 rfl ?_
    refine z_iconst C (v := nI 1) rfl dX1_takeBack_26 27 rfl ?_
    refine z_isub C (by omega) dX1_takeBack_27 28 rfl ?_
    refine z_put C zc1 iX1_takeBack_X1 0 0 rfl rfl 0 (Nat.le_of_ble_eq_true rfl) (List.mem_of_getElem? (i := 2) rfl) rfl rfl rfl (Nat.le_of_ble_eq_true rfl) (wH K.g h hb (kp - 1) 2) rfl [wH K.g h hb (kp - 1) 2, wB K.g (hb 0) (hs 0) (hr 0) (hn 0), wB K.g (hb 1) (hs 1) (hr 1) (hn 1), wB K.g (hb 2) (hs 2) (hr 2) (hn 2), wB K.g (hb 3) (hs 3) (hr 3) (hn 3), wB K.g (hb 4) (hs 4) (hr 4) (hn 4), wB K.g (hb 5) (hs 5) (hr 5) (hn 5), wB K.g b st r n] rfl dX1_takeBack_28 31 rfl ?_
    refine z_aload_n C 1 rfl rfl dX1_takeBack_31 32 rfl ?_
    refine z_aload_n C 0 rfl rfl dX1_takeBack_32 33 rfl ?_
    refine z_get C zc1 iX1_takeBack_X1 0 0 rfl rfl 1 (Nat.le_of_ble_eq_true rfl) (List.mem_of_getElem? (i := 3) rfl) (v := .ref (h 1)) rfl dX1_takeBack_33 36 rfl ?_
    refine z_aload_n C 0 rfl rfl dX1_takeBack_36 37 rfl ?_
    refine z_get C zc1 iX1_takeBack_X1 0 0 rfl rfl 2 (Nat.le_of_ble_eq_true rfl) (List.mem_of_getElem? (i := 1) rfl) (v := .int (nI 2)) rfl dX1_takeBack_37 40 rfl ?_
    refine z_aald C (y := ((hb 2) 0)) 0 1 2 rfl rfl rfl rfl (by omega) (by decide) rfl dX1_takeBack_40 41 rfl ?_
    refine z_callV C [.ref ((hb 2) 0)] [] (tX0_copyFrom K.l K.g b st r n (hb 2) (hs 2) (hr 2) (hn 2) ) gX1_takeBack_X0_copyFrom rfl rfl rfl hdX0_copyFrom ⟨Nat.le_of_ble_eq_true rfl, Nat.le_of_ble_eq_true rfl⟩ ⟨Nat.zero_le _, Nat.zero_le _⟩ 7 0 rfl rfl rfl [7, 3] rfl rfl (zlc (N := 8) rfl rfl) [0, 1, 2, 9, 4, 5, 6, 8] rfl (by decide) (fun _ : Unit => [wH K.g h hb (kp - 1) 2, wB K.g (hb 0) (hs 0) (hr 0) (hn 0), wB K.g (hb 1) (hs 1) (hr 1) (hn 1), wB K.g (hb 2) (hs 2) (hr 2) (hn 2), wB K.g (hb 3) (hs 3) (hr 3) (hn 3), wB K.g (hb 4) (hs 4) (hr 4) (hn 4), wB K.g (hb 5) (hs 5) (hr 5) (hn 5), wB K.g b (hs 2) (hr 2) (hn 2)]) (fun _ => rfl) rfl rfl (Nat.le_of_ble_eq_true rfl) dX1_takeBack_41 44 rfl (fun u hu => ?_)
    show Z K 0 0 [wH K.g h hb (kp - 1) 2, wB K.g (hb 0) (hs 0) (hr 0) (hn 0), wB K.g (hb 1) (hs 1) (hr 1) (hn 1), wB K.g (hb 2) (hs 2) (hr 2) (hn 2), wB K.g (hb 3) (hs 3) (hr 3) (hn 3), wB K.g (hb 4) (hs 4) (hr 4) (hn 4), wB K.g (hb 5) (hs 5) (hr 5) (hn 5), wB K.g b (hs 2) (hr 2) (hn 2)] [(0, .ref (h 0)), (1, .ref (b 0))] 44 []
    exact z_vret C R dX1_takeBack_44 () rfl trivial rfl
  · skip
    refine z_aload_n C 0 rfl rfl dX1_takeBack_0 1 rfl ?_
    refine z_aload_n C 0 rfl rfl dX1_takeBack_1 2 rfl ?_
    refine z_get C zc1 iX1_takeBack_X1 0 0 rfl rfl 2 (Nat.le_of_ble_eq_true rfl) (List.mem_of_getElem? (i := 1) rfl) (v := .int (nI 4)) rfl dX1_takeBack_2 5 rfl ?_
    refine z_if_ne C (by omega) 12 dX1_takeBack_5 (by decide) 8 rfl (fun c_5 => ?_) (fun c_5 => ?_)
    rotate_left
    · exfalso; omega
    refine z_aload_n C 0 rfl rfl dX1_takeBack_12 13 rfl ?_
    refine z_get C zc1 iX1_takeBack_X1 0 0 rfl rfl 2 (Nat.le_of_ble_eq_true rfl) (List.mem_of_getElem? (i := 1) rfl) (v := .int (nI 4)) rfl dX1_takeBack_13 16 rfl ?_
    refine z_iconst C (v := nI 1) rfl dX1_takeBack_16 17 rfl ?_
    refine z_isub C (by omega) dX1_takeBack_17 18 rfl ?_
    refine z_put C zc1 iX1_takeBack_X1 0 0 rfl rfl 2 (Nat.le_of_ble_eq_true rfl) (List.mem_of_getElem? (i := 1) rfl) rfl rfl rfl (Nat.le_of_ble_eq_true rfl) (wH K.g h hb kp 3) rfl [wH K.g h hb kp 3, wB K.g (hb 0) (hs 0) (hr 0) (hn 0), wB K.g (hb 1) (hs 1) (hr 1) (hn 1), wB K.g (hb 2) (hs 2) (hr 2) (hn 2), wB K.g (hb 3) (hs 3) (hr 3) (hn 3), wB K.g (hb 4) (hs 4) (hr 4) (hn 4), wB K.g (hb 5) (hs 5) (hr 5) (hn 5), wB K.g b st r n] rfl dX1_takeBack_18 21 rfl ?_
    refine z_aload_n C 0 rfl rfl dX1_takeBack_21 22 rfl ?_
    refine z_dup C rfl dX1_takeBack_22 23 rfl ?_
    refine z_get C zc1 iX1_takeBack_X1 0 0 rfl rfl 0 (Nat.le_of_ble_eq_true rfl) (List.mem_of_getElem? (i := 2) rfl) (v := .int (nI kp)) rfl dX1_takeBack_23 26 rfl ?_
    refine z_iconst C (v := nI 1) rfl dX1_takeBack_26 27 rfl ?_
    refine z_isub C (by omega) dX1_takeBack_27 28 rfl ?_
    refine z_put C zc1 iX1_takeBack_X1 0 0 rfl rfl 0 (Nat.le_of_ble_eq_true rfl) (List.mem_of_getElem? (i := 2) rfl) rfl rfl rfl (Nat.le_of_ble_eq_true rfl) (wH K.g h hb (kp - 1) 3) rfl [wH K.g h hb (kp - 1) 3, wB K.g (hb 0) (hs 0) (hr 0) (hn 0), wB K.g (hb 1) (hs 1) (hr 1) (hn 1), wB K.g (hb 2) (hs 2) (hr 2) (hn 2), wB K.g (hb 3) (hs 3) (hr 3) (hn 3), wB K.g (hb 4) (hs 4) (hr 4) (hn 4), wB K.g (hb 5) (hs 5) (hr 5) (hn 5), wB K.g b st r n] rfl dX1_takeBack_28 31 rfl ?_
    refine z_aload_n C 1 rfl rfl dX1_takeBack_31 32 rfl ?_
    refine z_aload_n C 0 rfl rfl dX1_takeBack_32 33 rfl ?_
    refine z_get C zc1 iX1_takeBack_X1 0 0 rfl rfl 1 (Nat.le_of_ble_eq_true rfl) (List.mem_of_getElem? (i := 3) rfl) (v := .ref (h 1)) rfl dX1_takeBack_33 36 rfl ?_
    refine z_aload_n C 0 rfl rfl dX1_takeBack_36 37 rfl ?_
    refine z_get C zc1 iX1_takeBack_X1 0 0 rfl rfl 2 (Nat.le_of_ble_eq_true rfl) (List.mem_of_getElem? (i := 1) rfl) (v := .int (nI 3)) rfl dX1_takeBack_37 40 rfl ?_
    refine z_aald C (y := ((hb 3) 0)) 0 1 2 rfl rfl rfl rfl (by omega) (by decide) rfl dX1_takeBack_40 41 rfl ?_
    refine z_callV C [.ref ((hb 3) 0)] [] (tX0_copyFrom K.l K.g b st r n (hb 3) (hs 3) (hr 3) (hn 3) ) gX1_takeBack_X0_copyFrom rfl rfl rfl hdX0_copyFrom ⟨Nat.le_of_ble_eq_true rfl, Nat.le_of_ble_eq_true rfl⟩ ⟨Nat.zero_le _, Nat.zero_le _⟩ 7 0 rfl rfl rfl [7, 4] rfl rfl (zlc (N := 8) rfl rfl) [0, 1, 2, 3, 9, 5, 6, 8] rfl (by decide) (fun _ : Unit => [wH K.g h hb (kp - 1) 3, wB K.g (hb 0) (hs 0) (hr 0) (hn 0), wB K.g (hb 1) (hs 1) (hr 1) (hn 1), wB K.g (hb 2) (hs 2) (hr 2) (hn 2), wB K.g (hb 3) (hs 3) (hr 3) (hn 3), wB K.g (hb 4) (hs 4) (hr 4) (hn 4), wB K.g (hb 5) (hs 5) (hr 5) (hn 5), wB K.g b (hs 3) (hr 3) (hn 3)]) (fun _ => rfl) rfl rfl (Nat.le_of_ble_eq_true rfl) dX1_takeBack_41 44 rfl (fun u hu => ?_)
    show Z K 0 0 [wH K.g h hb (kp - 1) 3, wB K.g (hb 0) (hs 0) (hr 0) (hn 0), wB K.g (hb 1) (hs 1) (hr 1) (hn 1), wB K.g (hb 2) (hs 2) (hr 2) (hn 2), wB K.g (hb 3) (hs 3) (hr 3) (hn 3), wB K.g (hb 4) (hs 4) (hr 4) (hn 4), wB K.g (hb 5) (hs 5) (hr 5) (hn 5), wB K.g b (hs 3) (hr 3) (hn 3)] [(0, .ref (h 0)), (1, .ref (b 0))] 44 []
    exact z_vret C R dX1_takeBack_44 () rfl trivial rfl
  · skip
    refine z_aload_n C 0 rfl rfl dX1_takeBack_0 1 rfl ?_
    refine z_aload_n C 0 rfl rfl dX1_takeBack_1 2 rfl ?_
    refine z_get C zc1 iX1_takeBack_X1 0 0 rfl rfl 2 (Nat.le_of_ble_eq_true rfl) (List.mem_of_getElem? (i := 1) rfl) (v := .int (nI 5)) rfl dX1_takeBack_2 5 rfl ?_
    refine z_if_ne C (by omega) 12 dX1_takeBack_5 (by decide) 8 rfl (fun c_6 => ?_) (fun c_6 => ?_)
    rotate_left
    · exfalso; omega
    refine z_aload_n C 0 rfl rfl dX1_takeBack_12 13 rfl ?_
    refine z_get C zc1 iX1_takeBack_X1 0 0 rfl rfl 2 (Nat.le_of_ble_eq_true rfl) (List.mem_of_getElem? (i := 1) rfl) (v := .int (nI 5)) rfl dX1_takeBack_13 16 rfl ?_
    refine z_iconst C (v := nI 1) rfl dX1_takeBack_16 17 rfl ?_
    refine z_isub C (by omega) dX1_takeBack_17 18 rfl ?_
    refine z_put C zc1 iX1_takeBack_X1 0 0 rfl rfl 2 (Nat.le_of_ble_eq_true rfl) (List.mem_of_getElem? (i := 1) rfl) rfl rfl rfl (Nat.le_of_ble_eq_true rfl) (wH K.g h hb kp 4) rfl [wH K.g h hb kp 4, wB K.g (hb 0) (hs 0) (hr 0) (hn 0), wB K.g (hb 1) (hs 1) (hr 1) (hn 1), wB K.g (hb 2) (hs 2) (hr 2) (hn 2), wB K.g (hb 3) (hs 3) (hr 3) (hn 3), wB K.g (hb 4) (hs 4) (hr 4) (hn 4), wB K.g (hb 5) (hs 5) (hr 5) (hn 5), wB K.g b st r n] rfl dX1_takeBack_18 21 rfl ?_
    refine z_aload_n C 0 rfl rfl dX1_takeBack_21 22 rfl ?_
    refine z_dup C rfl dX1_takeBack_22 23 rfl ?_
    refine z_get C zc1 iX1_takeBack_X1 0 0 rfl rfl 0 (Nat.le_of_ble_eq_true rfl) (List.mem_of_getElem? (i := 2) rfl) (v := .int (nI kp)) rfl dX1_takeBack_23 26 rfl ?_
    refine z_iconst C (v := nI 1) rfl dX1_takeBack_26 27 rfl ?_
    refine z_isub C (by omega) dX1_takeBack_27 28 rfl ?_
    refine z_put C zc1 iX1_takeBack_X1 0 0 rfl rfl 0 (Nat.le_of_ble_eq_true rfl) (List.mem_of_getElem? (i := 2) rfl) rfl rfl rfl (Nat.le_of_ble_eq_true rfl) (wH K.g h hb (kp - 1) 4) rfl [wH K.g h hb (kp - 1) 4, wB K.g (hb 0) (hs 0) (hr 0) (hn 0), wB K.g (hb 1) (hs 1) (hr 1) (hn 1), wB K.g (hb 2) (hs 2) (hr 2) (hn 2), wB K.g (hb 3) (hs 3) (hr 3) (hn 3), wB K.g (hb 4) (hs 4) (hr 4) (hn 4), wB K.g (hb 5) (hs 5) (hr 5) (hn 5), wB K.g b st r n] rfl dX1_takeBack_28 31 rfl ?_
    refine z_aload_n C 1 rfl rfl dX1_takeBack_31 32 rfl ?_
    refine z_aload_n C 0 rfl rfl dX1_takeBack_32 33 rfl ?_
    refine z_get C zc1 iX1_takeBack_X1 0 0 rfl rfl 1 (Nat.le_of_ble_eq_true rfl) (List.mem_of_getElem? (i := 3) rfl) (v := .ref (h 1)) rfl dX1_takeBack_33 36 rfl ?_
    refine z_aload_n C 0 rfl rfl dX1_takeBack_36 37 rfl ?_
    refine z_get C zc1 iX1_takeBack_X1 0 0 rfl rfl 2 (Nat.le_of_ble_eq_true rfl) (List.mem_of_getElem? (i := 1) rfl) (v := .int (nI 4)) rfl dX1_takeBack_37 40 rfl ?_
    refine z_aald C (y := ((hb 4) 0)) 0 1 2 rfl rfl rfl rfl (by omega) (by decide) rfl dX1_takeBack_40 41 rfl ?_
    refine z_callV C [.ref ((hb 4) 0)] [] (tX0_copyFrom K.l K.g b st r n (hb 4) (hs 4) (hr 4) (hn 4) ) gX1_takeBack_X0_copyFrom rfl rfl rfl hdX0_copyFrom ⟨Nat.le_of_ble_eq_true rfl, Nat.le_of_ble_eq_true rfl⟩ ⟨Nat.zero_le _, Nat.zero_le _⟩ 7 0 rfl rfl rfl [7, 5] rfl rfl (zlc (N := 8) rfl rfl) [0, 1, 2, 3, 4, 9, 6, 8] rfl (by decide) (fun _ : Unit => [wH K.g h hb (kp - 1) 4, wB K.g (hb 0) (hs 0) (hr 0) (hn 0), wB K.g (hb 1) (hs 1) (hr 1) (hn 1), wB K.g (hb 2) (hs 2) (hr 2) (hn 2), wB K.g (hb 3) (hs 3) (hr 3) (hn 3), wB K.g (hb 4) (hs 4) (hr 4) (hn 4), wB K.g (hb 5) (hs 5) (hr 5) (hn 5), wB K.g b (hs 4) (hr 4) (hn 4)]) (fun _ => rfl) rfl rfl (Nat.le_of_ble_eq_true rfl) dX1_takeBack_41 44 rfl (fun u hu => ?_)
    show Z K 0 0 [wH K.g h hb (kp - 1) 4, wB K.g (hb 0) (hs 0) (hr 0) (hn 0), wB K.g (hb 1) (hs 1) (hr 1) (hn 1), wB K.g (hb 2) (hs 2) (hr 2) (hn 2), wB K.g (hb 3) (hs 3) (hr 3) (hn 3), wB K.g (hb 4) (hs 4) (hr 4) (hn 4), wB K.g (hb 5) (hs 5) (hr 5) (hn 5), wB K.g b (hs 4) (hr 4) (hn 4)] [(0, .ref (h 0)), (1, .ref (b 0))] 44 []
    exact z_vret C R dX1_takeBack_44 () rfl trivial rfl
end
section
/-! PM: what printing comes to, in numbers. -/
def wsh (st : Nat → Nat) (r : Nat → Nat → Nat) (j : Nat) : Nat := if j = 0 then 0 else if r 1 j < r 1 (j - 1) then st 1 + (r 1 (j - 1) - r 1 j) * st 2 else if r 1 (j - 1) < r 1 j then st 2 else 0
def plt (r : Nat → Nat → Nat) (j : Nat) : Nat := if 0 < j ∧ r 0 (j - 1) = r 0 j then 0 else 1
def rdy (st : Nat → Nat) (r : Nat → Nat → Nat) (j : Nat) : Nat := wsh st r j + (if 0 < j ∧ r 0 (j - 1) = r 0 j then 0 else st 0)
def ndj (st : Nat → Nat) (r : Nat → Nat → Nat) (j : Nat) : Nat := nd (st 6) (r 2 j)
def fre (p : Nat → Nat) (j : Nat) : Nat := if j = 0 then 0 else p (j - 1)
def erl (st : Nat → Nat) (r : Nat → Nat → Nat) (p : Nat → Nat) (j : Nat) : Nat := fre p j + rdy st r j + r 2 j * st 3
def tkn (st : Nat → Nat) (r : Nat → Nat → Nat) (p : Nat → Nat) (J m : Nat) : Nat := sm (fun i => if p i ≤ m ∧ m < p i + st 4 then ndj st r i else 0) J
def isP (st : Nat → Nat) (r : Nat → Nat → Nat) (R : Nat) (p : Nat → Nat) (n : Nat) : Prop := ∀ j, j < n → erl st r p j ≤ p j ∧ tkn st r p j (p j) + ndj st r j ≤ R ∧ ∀ m, erl st r p j ≤ m → m < p j → R < tkn st r p j m + ndj st r j
def okS (st : Nat → Nat) : Prop := st 0 ≤ 60 ∧ st 1 ≤ 60 ∧ st 2 ≤ 9 ∧ 1 ≤ st 3 ∧ st 3 ≤ 20 ∧ st 4 ≤ 500 ∧ 4 ≤ st 5 ∧ st 5 ≤ 20 ∧ 1 ≤ st 6 ∧ st 6 ≤ 10
def okJ (r : Nat → Nat → Nat) (n : Nat) : Prop := ∀ j, j < n → r 0 j ≤ 9 ∧ r 1 j ≤ 9 ∧ 1 ≤ r 2 j ∧ r 2 j ≤ 20 ∧ r 3 j ≤ 3000
def okR (st : Nat → Nat) (r : Nat → Nat → Nat) (n R : Nat) : Prop := ∀ j, j < n → ndj st r j ≤ R
theorem wsh_le {st : Nat → Nat} {r : Nat → Nat → Nat} {n j : Nat} (hS : okS st) (hJ : okJ r n) (hj : j < n) : wsh st r j ≤ 141 := by
  obtain ⟨h0, h1, h2, -⟩ := hS
  unfold wsh
  by_cases e : j = 0
  · rw [if_pos e]; omega
  · rw [if_neg e]
    have a := (hJ j hj).2.1
    have b := (hJ (j - 1) (by omega)).2.1
    have m := Nat.mul_le_mul (show r 1 (j - 1) - r 1 j ≤ 9 by omega) h2
    split
    · omega
    · split <;> omega
theorem rdy_le {st : Nat → Nat} {r : Nat → Nat → Nat} {n j : Nat} (hS : okS st) (hJ : okJ r n) (hj : j < n) : rdy st r j ≤ 201 := by
  have h := wsh_le hS hJ hj
  have h0 := hS.1
  unfold rdy
  split <;> omega
theorem run_le {st : Nat → Nat} {r : Nat → Nat → Nat} {n j : Nat} (hS : okS st) (hJ : okJ r n) (hj : j < n) : 1 ≤ r 2 j * st 3 ∧ r 2 j * st 3 ≤ 400 := by
  obtain ⟨-, -, -, h3, h3b, -⟩ := hS
  obtain ⟨-, -, h2, h2b, -⟩ := hJ j hj
  have a := Nat.mul_le_mul h2 h3
  have b := Nat.mul_le_mul h2b h3b
  omega
theorem ndj_le {st : Nat → Nat} {r : Nat → Nat → Nat} {n j : Nat} (hS : okS st) (hJ : okJ r n) (hj : j < n) : ndj st r j ≤ 20 := by
  obtain ⟨-, -, -, -, -, -, -, -, h6, -⟩ := hS
  obtain ⟨-, -, -, h2b, -⟩ := hJ j hj
  exact Nat.le_trans (nd_le h6) h2b
theorem sm_un {f : Nat → Nat} {k v : Nat} : ∀ n, n ≤ k → sm (un f k v) n = sm f n := fun n hn => sm_cg n (fun j hj => un_n (by omega))
theorem sm_mono {f : Nat → Nat} {o j : Nat} (h : o < j) : sm f o + f o ≤ sm f j := by
  obtain ⟨d, rfl⟩ : ∃ d, j = o + 1 + d := ⟨j - (o + 1), by omega⟩
  clear h
  induction d with
  | zero => exact Nat.le_refl _
  | succ d ih =>
    rw [← Nat.add_assoc, sm_s]
    omega
theorem sm_ge {f g : Nat → Nat} {o : Nat} : ∀ j, o ≤ j → (∀ i, o ≤ i → i < j → g i = f i) → sm f j ≤ sm f o + sm g j
  | 0, ho, _ => by
    have : o = 0 := by omega
    subst this
    exact Nat.zero_le _
  | j + 1, ho, h => by
    by_cases e : o = j + 1
    · subst e
      omega
    · have h1 := sm_ge j (by omega) (fun i a b => h i a (by omega))
      have h2 := h j (by omega) (by omega)
      rw [sm_s, sm_s]
      omega
theorem sm_two {f g : Nat → Nat} {o : Nat} : ∀ j, o ≤ j → (∀ i, i < o → g i = 0) → (∀ i, o ≤ i → i < j → g i = f i) → sm g j + sm f o = sm f j
  | 0, ho, _, _ => by
    have : o = 0 := by omega
    subst this
    rfl
  | j + 1, ho, h0, h => by
    by_cases e : o = j + 1
    · subst e
      have : ∀ m, m ≤ j + 1 → sm g m = 0 := by
        intro m
        induction m with
        | zero => intro _; rfl
        | succ m ih => intro hm; rw [sm_s, ih (by omega), h0 m (by omega)]
      rw [this (j + 1) (Nat.le_refl _), Nat.zero_add]
    · have h1 := sm_two j (by omega) h0 (fun i a b => h i a (by omega))
      have h2 := h j (by omega) (by omega)
      rw [sm_s, sm_s]
      omega
theorem isP_fre {st : Nat → Nat} {r : Nat → Nat → Nat} {R : Nat} {p : Nat → Nat} {n : Nat} (h : isP st r R p n) {i j : Nat} (hij : i < j) (hj : j ≤ n) : p i ≤ fre p j := by
  obtain ⟨d, rfl⟩ : ∃ d, j = i + 1 + d := ⟨j - (i + 1), by omega⟩
  clear hij
  induction d with
  | zero =>
    show p i ≤ fre p (i + 1)
    unfold fre
    rw [if_neg (by omega)]
    exact Nat.le_refl _
  | succ d ih =>
    have h1 := ih (by omega)
    have h2 := (h (i + 1 + d) (by omega)).1
    have h3 : fre p (i + 1 + (d + 1)) = p (i + 1 + d) := by
      unfold fre
      rw [if_neg (by omega)]
      rfl
    rw [h3]
    unfold erl at h2
    omega
theorem isP_mono {st : Nat → Nat} {r : Nat → Nat → Nat} {R : Nat} {p : Nat → Nat} {n : Nat} (h : isP st r R p n) {i j : Nat} (hij : i ≤ j) (hj : j < n) : p i ≤ p j := by
  by_cases e : i = j
  · subst e; exact Nat.le_refl _
  · have h1 := isP_fre h (show i < j by omega) (by omega)
    have h2 := (h j hj).1
    unfold erl at h2
    omega
theorem fre_cg {p p' : Nat → Nat} {j : Nat} (h : ∀ i, i < j → p i = p' i) : fre p j = fre p' j := by
  unfold fre
  by_cases e : j = 0
  · rw [if_pos e, if_pos e]
  · rw [if_neg e, if_neg e, h _ (by omega)]
theorem erl_cg {st : Nat → Nat} {r : Nat → Nat → Nat} {p p' : Nat → Nat} {j : Nat} (h : ∀ i, i < j → p i = p' i) : erl st r p j = erl st r p' j := by
  unfold erl
  rw [fre_cg h]
theorem tkn_cg {st : Nat → Nat} {r : Nat → Nat → Nat} {p p' : Nat → Nat} {j m : Nat} (h : ∀ i, i < j → p i = p' i) : tkn st r p j m = tkn st r p' j m := by
  unfold tkn
  exact sm_cg j (fun i hi => by rw [h i hi])
/-- there is one way to print -/
theorem isP_un {st : Nat → Nat} {r : Nat → Nat → Nat} {R : Nat} {p p' : Nat → Nat} {n : Nat} (h : isP st r R p n) (h' : isP st r R p' n) : ∀ j, j < n → p j = p' j := by
  intro j
  induction j using Nat.strongRecOn with
  | _ j ih =>
    intro hj
    have hc : ∀ i, i < j → p i = p' i := fun i hi => ih i hi (by omega)
    obtain ⟨a1, a2, a3⟩ := h j hj
    obtain ⟨b1, b2, b3⟩ := h' j hj
    rcases Nat.lt_trichotomy (p j) (p' j) with q | q | q
    · have := b3 (p j) (by rw [← erl_cg hc]; exact a1) q
      rw [← tkn_cg hc] at this
      omega
    · exact q
    · have := a3 (p' j) (by rw [erl_cg hc]; exact b1) q
      rw [tkn_cg hc] at this
      omega
theorem isP_cg {st : Nat → Nat} {r : Nat → Nat → Nat} {R : Nat} {p p' : Nat → Nat} {n : Nat} (h : isP st r R p n) (hc : ∀ i, i < n → p i = p' i) : isP st r R p' n := by
  intro j hj
  have hcj : ∀ i, i < j → p i = p' i := fun i hi => hc i (by omega)
  obtain ⟨a1, a2, a3⟩ := h j hj
  rw [erl_cg hcj, hc j hj] at a1
  rw [tkn_cg hcj, hc j hj] at a2
  refine ⟨a1, a2, fun m h1 h2 => ?_⟩
  rw [← tkn_cg hcj]
  exact a3 m (by rw [erl_cg hcj]; exact h1) (by rw [hc j hj]; exact h2)
/-- what the press finds when it waits for racks: m the minute, s8 s9 the ring -/
def WR (a6 a0 : Nat → Nat) (j e most s9 m t8 t9 : Nat) : Prop := e ≤ m ∧ s9 ≤ t9 ∧ t9 ≤ j ∧ t8 + sm a0 t9 = sm a0 j ∧ (∀ i, s9 ≤ i → i < t9 → a6 i ≤ m) ∧ (m = e ∨ ∃ o, o < j ∧ m = a6 o) ∧ (∀ x, e ≤ x → x < m → ∃ o, s9 ≤ o ∧ o < j ∧ x < a6 o ∧ most + sm a0 o < sm a0 j)
/-- j jobs are printed -/
def PI (st : Nat → Nat) (r : Nat → Nat → Nat) (R j : Nat) (a0 a1 a2 a3 a4 a5 a6 a7 : Nat → Nat) (s1 s2 s3 s4 s5 s6 s7 s8 s9 : Nat) : Prop :=
  isP st r R a5 j ∧ (∀ i, i < j → a0 i = ndj st r i ∧ a1 i = wsh st r i ∧ a2 i = rdy st r i ∧ a3 i = a5 i - erl st r a5 i ∧ a4 i = fre a5 i + a3 i ∧ a6 i = a5 i + st 4 ∧ a7 i = a6 i - r 3 i) ∧
  s1 = ct (fun i => decide (0 < a7 i)) j ∧ s2 = sm a7 j ∧ s3 = mx a7 j ∧ s4 = sm (wsh st r) j ∧ s5 = sm (plt r) j ∧ s6 = sm a3 j ∧ s7 = mx (fun i => tkn st r a5 (i + 1) (a5 i)) j ∧
  s9 ≤ j ∧ s8 + sm a0 s9 = sm a0 j ∧ (∀ i, i < s9 → a6 i ≤ fre a5 j) ∧ (∀ i, i < j → a5 i ≤ 1200 * (i + 1))
theorem ct_cg {p q : Nat → Bool} : ∀ n, (∀ j, j < n → p j = q j) → ct p n = ct q n
  | 0, _ => rfl
  | n + 1, h => by
    show ct p n + (if p n = true then 1 else 0) = ct q n + (if q n = true then 1 else 0)
    rw [ct_cg n (fun j hj => h j (by omega)), h n (by omega)]
theorem PI_0 (st : Nat → Nat) (r : Nat → Nat → Nat) (R : Nat) (a0 a1 a2 a3 a4 a5 a6 a7 : Nat → Nat) : PI st r R 0 a0 a1 a2 a3 a4 a5 a6 a7 0 0 0 0 0 0 0 0 0 :=
  ⟨fun j h => by omega, fun i h => by omega, rfl, rfl, rfl, rfl, rfl, rfl, rfl, Nat.le_refl 0, rfl, fun i h => by omega, fun i h => by omega⟩
theorem PI_step {st : Nat → Nat} {r : Nat → Nat → Nat} {R n j : Nat} {a0 a1 a2 a3 a4 a5 a6 a7 : Nat → Nat} {s1 s2 s3 s4 s5 s6 s7 s8 s9 m t8 t9 : Nat} (hS : okS st) (hJ : okJ r n) (hR : okR st r n R) (hj : j < n)
    (h : PI st r R j a0 a1 a2 a3 a4 a5 a6 a7 s1 s2 s3 s4 s5 s6 s7 s8 s9) (hw : WR a6 (un a0 j (ndj st r j)) j (erl st r a5 j) (R - ndj st r j) s9 m t8 t9) (he : t9 < j → m < a6 t9 ∧ t8 ≤ R - ndj st r j) :
    PI st r R (j + 1) (un a0 j (ndj st r j)) (un a1 j (wsh st r j)) (un a2 j (rdy st r j)) (un a3 j (m - erl st r a5 j)) (un a4 j (fre a5 j + (m - erl st r a5 j))) (un a5 j m) (un a6 j (m + st 4)) (un a7 j (m + st 4 - r 3 j))
      (s1 + if 0 < m + st 4 - r 3 j then 1 else 0) (s2 + (m + st 4 - r 3 j)) (max s3 (m + st 4 - r 3 j)) (s4 + wsh st r j) (s5 + plt r j) (s6 + (m - erl st r a5 j)) (if 0 < st 4 then max s7 (t8 + ndj st r j) else s7) (t8 + ndj st r j) t9 := by
  obtain ⟨hP, hA, e1, e2, e3, e4, e5, e6, e7, e9, e8, hod, hbd⟩ := h
  obtain ⟨w1, w2, w3, w4, w5, w6, w7⟩ := hw
  have hRj := hR j hj
  have cg : ∀ i, i < j → a5 i = un a5 j m i := fun i hi => (un_n (by omega)).symm
  have cgl : ∀ i, i ≤ j → ∀ x, x < i → a5 x = un a5 j m x := fun i hi x hx => cg x (by omega)
  have hfre : ∀ i, i < j → a5 i ≤ fre a5 j := fun i hi => isP_fre hP hi (Nat.le_refl j)
  have herl : fre a5 j ≤ erl st r a5 j := by unfold erl; omega
  have hs0 : ∀ o, o ≤ j → sm (un a0 j (ndj st r j)) o = sm a0 o := fun o ho => sm_un o ho
  rw [hs0 t9 w3, hs0 j (Nat.le_refl j)] at w4
  have hg : ∀ x, erl st r a5 j ≤ x → ∀ i, i < j → (if a5 i ≤ x ∧ x < a5 i + st 4 then ndj st r i else 0) = if x < a6 i then a0 i else 0 := by
    intro x hx i hi
    have h1 := hfre i hi
    obtain ⟨b0, -, -, -, -, b6, -⟩ := hA i hi
    rw [b0, b6]
    by_cases q : x < a5 i + st 4
    · rw [if_pos ⟨by omega, q⟩, if_pos q]
    · rw [if_neg (fun z => q z.2), if_neg q]
  have ht : ∀ x, erl st r a5 j ≤ x → tkn st r a5 j x = sm (fun i => if x < a6 i then a0 i else 0) j := fun x hx => sm_cg j (hg x hx)
  have hmono : ∀ o i, o ≤ i → i < j → a6 o ≤ a6 i := by
    intro o i h1 h2
    rw [(hA o (by omega)).2.2.2.2.2.1, (hA i h2).2.2.2.2.2.1]
    have := isP_mono hP h1 h2
    omega
  have htm : tkn st r a5 j m = t8 := by
    rw [ht m w1]
    have := sm_two (f := a0) (g := fun i => if m < a6 i then a0 i else 0) (o := t9) j w3 (fun i hi => by
      show (if m < a6 i then a0 i else 0) = 0
      have : a6 i ≤ m := by
        by_cases q : i < s9
        · have := hod i q; omega
        · exact w5 i (by omega) hi
      rw [if_neg (by omega)]) (fun i h1 h2 => by
      show (if m < a6 i then a0 i else 0) = a0 i
      have h3 := (he (by omega)).1
      have h4 := hmono t9 i h1 h2
      rw [if_pos (by omega)])
    omega
  have hfit : t8 + ndj st r j ≤ R := by
    by_cases q : t9 < j
    · have := (he q).2; omega
    · have : t9 = j := by omega
      subst this
      omega
  have hPj : isP st r R (un a5 j m) (j + 1) := by
    intro i hi
    by_cases q : i = j
    · subst q
      rw [← erl_cg (cgl i (Nat.le_refl i)), un_s, ← tkn_cg (cgl i (Nat.le_refl i)), htm]
      refine ⟨w1, hfit, fun x h1 h2 => ?_⟩
      rw [← tkn_cg (cgl i (Nat.le_refl i)), ht x h1]
      obtain ⟨o, -, o2, o3, o4⟩ := w7 x h1 h2
      rw [hs0 o (by omega), hs0 i (Nat.le_refl i)] at o4
      have := sm_ge (f := a0) (g := fun y => if x < a6 y then a0 y else 0) (o := o) i (by omega) (fun y h3 h4 => by
        show (if x < a6 y then a0 y else 0) = a0 y
        have := hmono o y h3 h4
        rw [if_pos (by omega)])
      omega
    · obtain ⟨c1, c2, c3⟩ := hP i (by omega)
      rw [← erl_cg (cgl i (by omega)), ← cg i (by omega), ← tkn_cg (cgl i (by omega))]
      refine ⟨c1, c2, fun x h1 h2 => ?_⟩
      rw [← tkn_cg (cgl i (by omega))]
      exact c3 x h1 h2
  have hmb : m ≤ 1200 * j + 1101 := by
    have q1 := rdy_le hS hJ hj
    have q2 := (run_le hS hJ hj).2
    have q3 : fre a5 j ≤ 1200 * j := by
      unfold fre
      by_cases q : j = 0
      · rw [if_pos q]; omega
      · rw [if_neg q]
        have := hbd (j - 1) (by omega)
        omega
    rcases w6 with w6 | ⟨o, o1, o2⟩
    · rw [w6]; unfold erl; omega
    · rw [o2, (hA o o1).2.2.2.2.2.1]
      have := hbd o o1
      have := hS.2.2.2.2.2.1
      omega
  refine ⟨hPj, fun i hi => ?_, ?_, ?_, ?_, ?_, ?_, ?_, ?_, by omega, ?_, fun i hi => ?_, fun i hi => ?_⟩
  · by_cases q : i = j
    · subst q
      rw [un_s, un_s, un_s, un_s, un_s, un_s, un_s, un_s, ← erl_cg (cgl i (Nat.le_refl i)), ← fre_cg (cgl i (Nat.le_refl i))]
      exact ⟨rfl, rfl, rfl, rfl, rfl, rfl, rfl⟩
    · rw [un_n q, un_n q, un_n q, un_n q, un_n q, un_n q, un_n q, un_n q, ← erl_cg (cgl i (by omega)), ← fre_cg (cgl i (by omega))]
      exact hA i (by omega)
  · show _ = ct (fun i => decide (0 < un a7 j (m + st 4 - r 3 j) i)) j + (if decide (0 < un a7 j (m + st 4 - r 3 j) j) = true then 1 else 0)
    rw [un_s, e1, ct_cg (q := fun i => decide (0 < un a7 j (m + st 4 - r 3 j) i)) j (fun i hi => by rw [un_n (by omega)])]
    congr 1
    by_cases q : 0 < m + st 4 - r 3 j
    · rw [if_pos q, if_pos (decide_eq_true q)]
    · rw [if_neg q, if_neg (by simpa using q)]
  · rw [sm_s, un_s, sm_un j (Nat.le_refl j), e2]
  · rw [mx_s, un_s, mx_cg (g := a7) j (fun i hi => un_n (by omega)), e3]
  · rw [sm_s, e4]
  · rw [sm_s, e5]
  · rw [sm_s, un_s, sm_un j (Nat.le_refl j), e6]
  · rw [mx_s, mx_cg (g := fun i => tkn st r a5 (i + 1) (a5 i)) j (fun i hi => by rw [un_n (show i ≠ j by omega), ← tkn_cg (cgl (i + 1) (by omega))]), ← e7, un_s]
    have : tkn st r (un a5 j m) (j + 1) m = t8 + (if 0 < st 4 then ndj st r j else 0) := by
      show tkn st r (un a5 j m) j m + (if un a5 j m j ≤ m ∧ m < un a5 j m j + st 4 then ndj st r j else 0) = _
      rw [← tkn_cg (cgl j (Nat.le_refl j)), htm, un_s]
      congr 1
      by_cases q : 0 < st 4
      · rw [if_pos ⟨Nat.le_refl m, by omega⟩, if_pos q]
      · rw [if_neg (fun z => q (by omega)), if_neg q]
    rw [this]
    by_cases q : 0 < st 4
    · rw [if_pos q, if_pos q]
    · rw [if_neg q, if_neg q]
      have h0 : tkn st r a5 j m = 0 := by
        unfold tkn
        have : ∀ k, sm (fun i => if a5 i ≤ m ∧ m < a5 i + st 4 then ndj st r i else 0) k = 0 := by
          intro k
          induction k with
          | zero => rfl
          | succ k ih => rw [sm_s, ih, if_neg (by omega)]
        exact this j
      omega
  · rw [sm_s, un_s, hs0 t9 w3, hs0 j (Nat.le_refl j)]
    omega
  · show un a6 j (m + st 4) i ≤ fre (un a5 j m) (j + 1)
    unfold fre
    rw [if_neg (by omega), Nat.add_sub_cancel, un_s, un_n (by omega)]
    by_cases q : i < s9
    · have := hod i q; omega
    · exact w5 i (by omega) hi
  · by_cases q : i = j
    · subst q
      rw [un_s]; omega
    · rw [un_n q]; exact hbd i (by omega)
end
