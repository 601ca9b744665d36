section
-- ===== PART A: goes FIRST, ahead of the names: the tables' words, and 'selects' of the private methods out of them =====
/-- a private method of a class that the tables say can be made, by its rows of tables_1 -/
def lw_okq (q : MethodName × Nat) : Prop := (q.1.cls ≠ "java/lang/invoke/MethodHandle" ∧ q.1.cls ≠ "java/lang/invoke/VarHandle") ∧ Cond.instantiable q.1.cls q.2 ∈ tables_1 ∧ Cond.privateMethod q.1 ∈ tables_1 ∧ Cond.instanceMethod q.1 ∈ tables_1
theorem lw_p0 : lw_okq (⟨"TwoBanks", "makeEmpty", "(II)V"⟩, 9) := ⟨⟨by decide +kernel, by decide +kernel⟩, List.mem_of_getElem? (i := 12) (by decide +kernel), List.mem_of_getElem? (i := 148) (by decide +kernel), List.mem_of_getElem? (i := 149) (by decide +kernel)⟩
theorem lw_p1 : lw_okq (⟨"TwoBanks", "put", "(II)V"⟩, 9) := ⟨⟨by decide +kernel, by decide +kernel⟩, List.mem_of_getElem? (i := 12) (by decide +kernel), List.mem_of_getElem? (i := 209) (by decide +kernel), List.mem_of_getElem? (i := 210) (by decide +kernel)⟩
theorem lw_p2 : lw_okq (⟨"TwoBanks", "stoneAt", "(I)I"⟩, 9) := ⟨⟨by decide +kernel, by decide +kernel⟩, List.mem_of_getElem? (i := 12) (by decide +kernel), List.mem_of_getElem? (i := 219) (by decide +kernel), List.mem_of_getElem? (i := 220) (by decide +kernel)⟩
theorem lw_p3 : lw_okq (⟨"TwoBanks", "whoJoined", "()I"⟩, 9) := ⟨⟨by decide +kernel, by decide +kernel⟩, List.mem_of_getElem? (i := 12) (by decide +kernel), List.mem_of_getElem? (i := 223) (by decide +kernel), List.mem_of_getElem? (i := 224) (by decide +kernel)⟩
theorem lw_p4 : lw_okq (⟨"TwoBanks", "layStone", "(I)V"⟩, 9) := ⟨⟨by decide +kernel, by decide +kernel⟩, List.mem_of_getElem? (i := 12) (by decide +kernel), List.mem_of_getElem? (i := 260) (by decide +kernel), List.mem_of_getElem? (i := 261) (by decide +kernel)⟩
theorem lw_p5 : lw_okq (⟨"TwoBanks", "takeOver", "()V"⟩, 9) := ⟨⟨by decide +kernel, by decide +kernel⟩, List.mem_of_getElem? (i := 12) (by decide +kernel), List.mem_of_getElem? (i := 283) (by decide +kernel), List.mem_of_getElem? (i := 284) (by decide +kernel)⟩
theorem lw_p6 : lw_okq (⟨"TwoBanks", "giveBack", "()V"⟩, 9) := ⟨⟨by decide +kernel, by decide +kernel⟩, List.mem_of_getElem? (i := 12) (by decide +kernel), List.mem_of_getElem? (i := 299) (by decide +kernel), List.mem_of_getElem? (i := 300) (by decide +kernel)⟩
theorem lw_p7 : lw_okq (⟨"TwoBanks", "groupAt", "(I)J"⟩, 9) := ⟨⟨by decide +kernel, by decide +kernel⟩, List.mem_of_getElem? (i := 12) (by decide +kernel), List.mem_of_getElem? (i := 323) (by decide +kernel), List.mem_of_getElem? (i := 324) (by decide +kernel)⟩
theorem lw_p8 : lw_okq (⟨"TwoBanks", "stonesOf", "(I)J"⟩, 9) := ⟨⟨by decide +kernel, by decide +kernel⟩, List.mem_of_getElem? (i := 12) (by decide +kernel), List.mem_of_getElem? (i := 327) (by decide +kernel), List.mem_of_getElem? (i := 328) (by decide +kernel)⟩
theorem lw_p9 : lw_okq (⟨"TwoBanks", "empties", "()J"⟩, 9) := ⟨⟨by decide +kernel, by decide +kernel⟩, List.mem_of_getElem? (i := 12) (by decide +kernel), List.mem_of_getElem? (i := 350) (by decide +kernel), List.mem_of_getElem? (i := 351) (by decide +kernel)⟩
theorem lw_p10 : lw_okq (⟨"TwoBanks", "findPath", "()V"⟩, 9) := ⟨⟨by decide +kernel, by decide +kernel⟩, List.mem_of_getElem? (i := 12) (by decide +kernel), List.mem_of_getElem? (i := 366) (by decide +kernel), List.mem_of_getElem? (i := 367) (by decide +kernel)⟩
theorem lw_p11 : lw_okq (⟨"TwoBanks$Path", "trace", "(LTwoBanks$Grid;JI)V"⟩, 3) := ⟨⟨by decide +kernel, by decide +kernel⟩, List.mem_of_getElem? (i := 65) (by decide +kernel), List.mem_of_getElem? (i := 378) (by decide +kernel), List.mem_of_getElem? (i := 379) (by decide +kernel)⟩
theorem lw_p12 : lw_okq (⟨"TwoBanks", "tooManyEmpty", "()Z"⟩, 9) := ⟨⟨by decide +kernel, by decide +kernel⟩, List.mem_of_getElem? (i := 12) (by decide +kernel), List.mem_of_getElem? (i := 395) (by decide +kernel), List.mem_of_getElem? (i := 396) (by decide +kernel)⟩
theorem lw_p13 : lw_okq (⟨"TwoBanks", "askBanks", "()V"⟩, 9) := ⟨⟨by decide +kernel, by decide +kernel⟩, List.mem_of_getElem? (i := 12) (by decide +kernel), List.mem_of_getElem? (i := 399) (by decide +kernel), List.mem_of_getElem? (i := 400) (by decide +kernel)⟩
theorem lw_p14 : lw_okq (⟨"TwoBanks$Fight", "prepare", "(LTwoBanks$Grid;)V"⟩, 15) := ⟨⟨by decide +kernel, by decide +kernel⟩, List.mem_of_getElem? (i := 82) (by decide +kernel), List.mem_of_getElem? (i := 409) (by decide +kernel), List.mem_of_getElem? (i := 410) (by decide +kernel)⟩
theorem lw_p15 : lw_okq (⟨"TwoBanks$Fight", "winsAt", "(ZII)Z"⟩, 15) := ⟨⟨by decide +kernel, by decide +kernel⟩, List.mem_of_getElem? (i := 82) (by decide +kernel), List.mem_of_getElem? (i := 452) (by decide +kernel), List.mem_of_getElem? (i := 453) (by decide +kernel)⟩
def lw_privs_1 : List (MethodName × Nat) := [(⟨"TwoBanks", "makeEmpty", "(II)V"⟩, 9), (⟨"TwoBanks", "put", "(II)V"⟩, 9), (⟨"TwoBanks", "stoneAt", "(I)I"⟩, 9), (⟨"TwoBanks", "whoJoined", "()I"⟩, 9), (⟨"TwoBanks", "layStone", "(I)V"⟩, 9), (⟨"TwoBanks", "takeOver", "()V"⟩, 9), (⟨"TwoBanks", "giveBack", "()V"⟩, 9), (⟨"TwoBanks", "groupAt", "(I)J"⟩, 9), (⟨"TwoBanks", "stonesOf", "(I)J"⟩, 9), (⟨"TwoBanks", "empties", "()J"⟩, 9), (⟨"TwoBanks", "findPath", "()V"⟩, 9), (⟨"TwoBanks$Path", "trace", "(LTwoBanks$Grid;JI)V"⟩, 3), (⟨"TwoBanks", "tooManyEmpty", "()Z"⟩, 9), (⟨"TwoBanks", "askBanks", "()V"⟩, 9), (⟨"TwoBanks$Fight", "prepare", "(LTwoBanks$Grid;)V"⟩, 15), (⟨"TwoBanks$Fight", "winsAt", "(ZII)Z"⟩, 15)]
theorem lw_r1 : ∀ q ∈ lw_privs_1, lw_okq q := List.forall_mem_cons.mpr ⟨lw_p0, List.forall_mem_cons.mpr ⟨lw_p1, List.forall_mem_cons.mpr ⟨lw_p2, List.forall_mem_cons.mpr ⟨lw_p3, List.forall_mem_cons.mpr ⟨lw_p4, List.forall_mem_cons.mpr ⟨lw_p5, List.forall_mem_cons.mpr ⟨lw_p6, List.forall_mem_cons.mpr ⟨lw_p7, List.forall_mem_cons.mpr ⟨lw_p8, List.forall_mem_cons.mpr ⟨lw_p9, List.forall_mem_cons.mpr ⟨lw_p10, List.forall_mem_cons.mpr ⟨lw_p11, List.forall_mem_cons.mpr ⟨lw_p12, List.forall_mem_cons.mpr ⟨lw_p13, List.forall_mem_cons.mpr ⟨lw_p14, List.forall_mem_cons.mpr ⟨lw_p15, fun _ h => absurd h List.not_mem_nil⟩⟩⟩⟩⟩⟩⟩⟩⟩⟩⟩⟩⟩⟩⟩⟩
theorem lw_p16 : lw_okq (⟨"TwoBanks$Fight", "findDead", "()V"⟩, 15) := ⟨⟨by decide +kernel, by decide +kernel⟩, List.mem_of_getElem? (i := 82) (by decide +kernel), List.mem_of_getElem? (i := 472) (by decide +kernel), List.mem_of_getElem? (i := 473) (by decide +kernel)⟩
theorem lw_p17 : lw_okq (⟨"TwoBanks$Fight", "neverMatters", "(I)Z"⟩, 15) := ⟨⟨by decide +kernel, by decide +kernel⟩, List.mem_of_getElem? (i := 82) (by decide +kernel), List.mem_of_getElem? (i := 476) (by decide +kernel), List.mem_of_getElem? (i := 477) (by decide +kernel)⟩
theorem lw_p18 : lw_okq (⟨"TwoBanks", "canLink", "(III)Z"⟩, 9) := ⟨⟨by decide +kernel, by decide +kernel⟩, List.mem_of_getElem? (i := 12) (by decide +kernel), List.mem_of_getElem? (i := 484) (by decide +kernel), List.mem_of_getElem? (i := 485) (by decide +kernel)⟩
theorem lw_p19 : lw_okq (⟨"TwoBanks", "askLink", "(III)V"⟩, 9) := ⟨⟨by decide +kernel, by decide +kernel⟩, List.mem_of_getElem? (i := 12) (by decide +kernel), List.mem_of_getElem? (i := 488) (by decide +kernel), List.mem_of_getElem? (i := 489) (by decide +kernel)⟩
theorem lw_p20 : lw_okq (⟨"TwoBanks", "howManyDead", "()I"⟩, 9) := ⟨⟨by decide +kernel, by decide +kernel⟩, List.mem_of_getElem? (i := 12) (by decide +kernel), List.mem_of_getElem? (i := 513) (by decide +kernel), List.mem_of_getElem? (i := 514) (by decide +kernel)⟩
theorem lw_p21 : lw_okq (⟨"TwoBanksModel", "forgets", "()V"⟩, 17) := ⟨⟨by decide +kernel, by decide +kernel⟩, List.mem_of_getElem? (i := 521) (by decide +kernel), List.mem_of_getElem? (i := 588) (by decide +kernel), List.mem_of_getElem? (i := 589) (by decide +kernel)⟩
theorem lw_p22 : lw_okq (⟨"TwoBanksModel", "isField", "(I)Z"⟩, 17) := ⟨⟨by decide +kernel, by decide +kernel⟩, List.mem_of_getElem? (i := 521) (by decide +kernel), List.mem_of_getElem? (i := 596) (by decide +kernel), List.mem_of_getElem? (i := 597) (by decide +kernel)⟩
theorem lw_p23 : lw_okq (⟨"TwoBanksModel", "fields", "()I"⟩, 17) := ⟨⟨by decide +kernel, by decide +kernel⟩, List.mem_of_getElem? (i := 521) (by decide +kernel), List.mem_of_getElem? (i := 600) (by decide +kernel), List.mem_of_getElem? (i := 601) (by decide +kernel)⟩
theorem lw_p24 : lw_okq (⟨"TwoBanksModel", "joins", "(I)Z"⟩, 17) := ⟨⟨by decide +kernel, by decide +kernel⟩, List.mem_of_getElem? (i := 521) (by decide +kernel), List.mem_of_getElem? (i := 608) (by decide +kernel), List.mem_of_getElem? (i := 609) (by decide +kernel)⟩
theorem lw_p25 : lw_okq (⟨"TwoBanksModel", "banks", "(I)I"⟩, 17) := ⟨⟨by decide +kernel, by decide +kernel⟩, List.mem_of_getElem? (i := 521) (by decide +kernel), List.mem_of_getElem? (i := 612) (by decide +kernel), List.mem_of_getElem? (i := 613) (by decide +kernel)⟩
theorem lw_p26 : lw_okq (⟨"TwoBanksModel", "reaches", "(I)V"⟩, 17) := ⟨⟨by decide +kernel, by decide +kernel⟩, List.mem_of_getElem? (i := 521) (by decide +kernel), List.mem_of_getElem? (i := 619) (by decide +kernel), List.mem_of_getElem? (i := 620) (by decide +kernel)⟩
theorem lw_p27 : lw_okq (⟨"TwoBanksModel", "beside", "(II)I"⟩, 17) := ⟨⟨by decide +kernel, by decide +kernel⟩, List.mem_of_getElem? (i := 521) (by decide +kernel), List.mem_of_getElem? (i := 623) (by decide +kernel), List.mem_of_getElem? (i := 624) (by decide +kernel)⟩
theorem lw_p28 : lw_okq (⟨"TwoBanksModel", "acts", "(I)V"⟩, 17) := ⟨⟨by decide +kernel, by decide +kernel⟩, List.mem_of_getElem? (i := 521) (by decide +kernel), List.mem_of_getElem? (i := 635) (by decide +kernel), List.mem_of_getElem? (i := 636) (by decide +kernel)⟩
theorem lw_p29 : lw_okq (⟨"TwoBanksModel", "does", "(I)V"⟩, 17) := ⟨⟨by decide +kernel, by decide +kernel⟩, List.mem_of_getElem? (i := 521) (by decide +kernel), List.mem_of_getElem? (i := 639) (by decide +kernel), List.mem_of_getElem? (i := 640) (by decide +kernel)⟩
theorem lw_p30 : lw_okq (⟨"TwoBanksModel", "undoes", "(I)V"⟩, 17) := ⟨⟨by decide +kernel, by decide +kernel⟩, List.mem_of_getElem? (i := 521) (by decide +kernel), List.mem_of_getElem? (i := 651) (by decide +kernel), List.mem_of_getElem? (i := 652) (by decide +kernel)⟩
theorem lw_p31 : lw_okq (⟨"TwoBanksModel", "isStone", "(I)Z"⟩, 17) := ⟨⟨by decide +kernel, by decide +kernel⟩, List.mem_of_getElem? (i := 521) (by decide +kernel), List.mem_of_getElem? (i := 671) (by decide +kernel), List.mem_of_getElem? (i := 672) (by decide +kernel)⟩
def lw_privs_2 : List (MethodName × Nat) := [(⟨"TwoBanks$Fight", "findDead", "()V"⟩, 15), (⟨"TwoBanks$Fight", "neverMatters", "(I)Z"⟩, 15), (⟨"TwoBanks", "canLink", "(III)Z"⟩, 9), (⟨"TwoBanks", "askLink", "(III)V"⟩, 9), (⟨"TwoBanks", "howManyDead", "()I"⟩, 9), (⟨"TwoBanksModel", "forgets", "()V"⟩, 17), (⟨"TwoBanksModel", "isField", "(I)Z"⟩, 17), (⟨"TwoBanksModel", "fields", "()I"⟩, 17), (⟨"TwoBanksModel", "joins", "(I)Z"⟩, 17), (⟨"TwoBanksModel", "banks", "(I)I"⟩, 17), (⟨"TwoBanksModel", "reaches", "(I)V"⟩, 17), (⟨"TwoBanksModel", "beside", "(II)I"⟩, 17), (⟨"TwoBanksModel", "acts", "(I)V"⟩, 17), (⟨"TwoBanksModel", "does", "(I)V"⟩, 17), (⟨"TwoBanksModel", "undoes", "(I)V"⟩, 17), (⟨"TwoBanksModel", "isStone", "(I)Z"⟩, 17)]
theorem lw_r2 : ∀ q ∈ lw_privs_2, lw_okq q := List.forall_mem_cons.mpr ⟨lw_p16, List.forall_mem_cons.mpr ⟨lw_p17, List.forall_mem_cons.mpr ⟨lw_p18, List.forall_mem_cons.mpr ⟨lw_p19, List.forall_mem_cons.mpr ⟨lw_p20, List.forall_mem_cons.mpr ⟨lw_p21, List.forall_mem_cons.mpr ⟨lw_p22, List.forall_mem_cons.mpr ⟨lw_p23, List.forall_mem_cons.mpr ⟨lw_p24, List.forall_mem_cons.mpr ⟨lw_p25, List.forall_mem_cons.mpr ⟨lw_p26, List.forall_mem_cons.mpr ⟨lw_p27, List.forall_mem_cons.mpr ⟨lw_p28, List.forall_mem_cons.mpr ⟨lw_p29, List.forall_mem_cons.mpr ⟨lw_p30, List.forall_mem_cons.mpr ⟨lw_p31, fun _ h => absurd h List.not_mem_nil⟩⟩⟩⟩⟩⟩⟩⟩⟩⟩⟩⟩⟩⟩⟩⟩
theorem lw_p32 : lw_okq (⟨"TwoBanksModel", "groupOf", "(I)V"⟩, 17) := ⟨⟨by decide +kernel, by decide +kernel⟩, List.mem_of_getElem? (i := 521) (by decide +kernel), List.mem_of_getElem? (i := 675) (by decide +kernel), List.mem_of_getElem? (i := 676) (by decide +kernel)⟩
theorem lw_p33 : lw_okq (⟨"TwoBanksModel", "reachesNone", "()V"⟩, 17) := ⟨⟨by decide +kernel, by decide +kernel⟩, List.mem_of_getElem? (i := 521) (by decide +kernel), List.mem_of_getElem? (i := 679) (by decide +kernel), List.mem_of_getElem? (i := 680) (by decide +kernel)⟩
theorem lw_p34 : lw_okq (⟨"TwoBanksModel", "isBeside", "(I)Z"⟩, 17) := ⟨⟨by decide +kernel, by decide +kernel⟩, List.mem_of_getElem? (i := 521) (by decide +kernel), List.mem_of_getElem? (i := 687) (by decide +kernel), List.mem_of_getElem? (i := 688) (by decide +kernel)⟩
theorem lw_p35 : lw_okq (⟨"TwoBanksModel", "wayLong", "()I"⟩, 17) := ⟨⟨by decide +kernel, by decide +kernel⟩, List.mem_of_getElem? (i := 521) (by decide +kernel), List.mem_of_getElem? (i := 695) (by decide +kernel), List.mem_of_getElem? (i := 696) (by decide +kernel)⟩
theorem lw_p36 : lw_okq (⟨"TwoBanksModel", "measures", "(I)V"⟩, 17) := ⟨⟨by decide +kernel, by decide +kernel⟩, List.mem_of_getElem? (i := 521) (by decide +kernel), List.mem_of_getElem? (i := 699) (by decide +kernel), List.mem_of_getElem? (i := 700) (by decide +kernel)⟩
theorem lw_p37 : lw_okq (⟨"TwoBanksModel", "opens", "()Z"⟩, 17) := ⟨⟨by decide +kernel, by decide +kernel⟩, List.mem_of_getElem? (i := 521) (by decide +kernel), List.mem_of_getElem? (i := 707) (by decide +kernel), List.mem_of_getElem? (i := 708) (by decide +kernel)⟩
theorem lw_p38 : lw_okq (⟨"TwoBanksModel", "works", "(III)V"⟩, 17) := ⟨⟨by decide +kernel, by decide +kernel⟩, List.mem_of_getElem? (i := 521) (by decide +kernel), List.mem_of_getElem? (i := 711) (by decide +kernel), List.mem_of_getElem? (i := 712) (by decide +kernel)⟩
theorem lw_p39 : lw_okq (⟨"TwoBanksModel", "fills", "(I)V"⟩, 17) := ⟨⟨by decide +kernel, by decide +kernel⟩, List.mem_of_getElem? (i := 521) (by decide +kernel), List.mem_of_getElem? (i := 715) (by decide +kernel), List.mem_of_getElem? (i := 716) (by decide +kernel)⟩
theorem lw_p40 : lw_okq (⟨"TwoBanksModel", "hang", "(III)Z"⟩, 17) := ⟨⟨by decide +kernel, by decide +kernel⟩, List.mem_of_getElem? (i := 521) (by decide +kernel), List.mem_of_getElem? (i := 719) (by decide +kernel), List.mem_of_getElem? (i := 720) (by decide +kernel)⟩
theorem lw_p41 : lw_okq (⟨"TwoBanksModel", "gets", "(II)Z"⟩, 17) := ⟨⟨by decide +kernel, by decide +kernel⟩, List.mem_of_getElem? (i := 521) (by decide +kernel), List.mem_of_getElem? (i := 723) (by decide +kernel), List.mem_of_getElem? (i := 724) (by decide +kernel)⟩
theorem lw_p42 : lw_okq (⟨"TwoBanksModel", "fillings0", "()V"⟩, 17) := ⟨⟨by decide +kernel, by decide +kernel⟩, List.mem_of_getElem? (i := 521) (by decide +kernel), List.mem_of_getElem? (i := 735) (by decide +kernel), List.mem_of_getElem? (i := 736) (by decide +kernel)⟩
theorem lw_p43 : lw_okq (⟨"TwoBanksModel", "codeOf", "(I)I"⟩, 17) := ⟨⟨by decide +kernel, by decide +kernel⟩, List.mem_of_getElem? (i := 521) (by decide +kernel), List.mem_of_getElem? (i := 739) (by decide +kernel), List.mem_of_getElem? (i := 740) (by decide +kernel)⟩
theorem lw_p44 : lw_okq (⟨"TwoBanksModel", "isDead", "(I)Z"⟩, 17) := ⟨⟨by decide +kernel, by decide +kernel⟩, List.mem_of_getElem? (i := 521) (by decide +kernel), List.mem_of_getElem? (i := 747) (by decide +kernel), List.mem_of_getElem? (i := 748) (by decide +kernel)⟩
theorem lw_p45 : lw_okq (⟨"TwoBanksModel", "mayLink", "(III)Z"⟩, 17) := ⟨⟨by decide +kernel, by decide +kernel⟩, List.mem_of_getElem? (i := 521) (by decide +kernel), List.mem_of_getElem? (i := 755) (by decide +kernel), List.mem_of_getElem? (i := 756) (by decide +kernel)⟩
theorem lw_p46 : lw_okq (⟨"TwoBanksModel", "groups", "(I)I"⟩, 17) := ⟨⟨by decide +kernel, by decide +kernel⟩, List.mem_of_getElem? (i := 521) (by decide +kernel), List.mem_of_getElem? (i := 768) (by decide +kernel), List.mem_of_getElem? (i := 769) (by decide +kernel)⟩
def lw_privs_3 : List (MethodName × Nat) := [(⟨"TwoBanksModel", "groupOf", "(I)V"⟩, 17), (⟨"TwoBanksModel", "reachesNone", "()V"⟩, 17), (⟨"TwoBanksModel", "isBeside", "(I)Z"⟩, 17), (⟨"TwoBanksModel", "wayLong", "()I"⟩, 17), (⟨"TwoBanksModel", "measures", "(I)V"⟩, 17), (⟨"TwoBanksModel", "opens", "()Z"⟩, 17), (⟨"TwoBanksModel", "works", "(III)V"⟩, 17), (⟨"TwoBanksModel", "fills", "(I)V"⟩, 17), (⟨"TwoBanksModel", "hang", "(III)Z"⟩, 17), (⟨"TwoBanksModel", "gets", "(II)Z"⟩, 17), (⟨"TwoBanksModel", "fillings0", "()V"⟩, 17), (⟨"TwoBanksModel", "codeOf", "(I)I"⟩, 17), (⟨"TwoBanksModel", "isDead", "(I)Z"⟩, 17), (⟨"TwoBanksModel", "mayLink", "(III)Z"⟩, 17), (⟨"TwoBanksModel", "groups", "(I)I"⟩, 17)]
theorem lw_r3 : ∀ q ∈ lw_privs_3, lw_okq q := List.forall_mem_cons.mpr ⟨lw_p32, List.forall_mem_cons.mpr ⟨lw_p33, List.forall_mem_cons.mpr ⟨lw_p34, List.forall_mem_cons.mpr ⟨lw_p35, List.forall_mem_cons.mpr ⟨lw_p36, List.forall_mem_cons.mpr ⟨lw_p37, List.forall_mem_cons.mpr ⟨lw_p38, List.forall_mem_cons.mpr ⟨lw_p39, List.forall_mem_cons.mpr ⟨lw_p40, List.forall_mem_cons.mpr ⟨lw_p41, List.forall_mem_cons.mpr ⟨lw_p42, List.forall_mem_cons.mpr ⟨lw_p43, List.forall_mem_cons.mpr ⟨lw_p44, List.forall_mem_cons.mpr ⟨lw_p45, List.forall_mem_cons.mpr ⟨lw_p46, fun _ h => absurd h List.not_mem_nil⟩⟩⟩⟩⟩⟩⟩⟩⟩⟩⟩⟩⟩⟩⟩
def lw_privs : List (MethodName × Nat) := lw_privs_1 ++ (lw_privs_2 ++ (lw_privs_3))
def lw_tbl : List Cond := k2_sels lw_privs ++ tables_1
theorem lw_privs_ok : ∀ q ∈ lw_privs, lw_okq q := by
  show ∀ q ∈ lw_privs_1 ++ (lw_privs_2 ++ (lw_privs_3)), lw_okq q
  exact List.forall_mem_append.mpr ⟨lw_r1, List.forall_mem_append.mpr ⟨lw_r2, lw_r3⟩⟩
-- ===== end of PART A; then your names; then what follows =====
/-! ===== BEGIN words of one list among another's, by their places ===== -/
theorem goodIn_r {big : List Cond} (ws : List Cond) (ps : List Nat) (hp : ws = ps.filterMap (fun i => big[i]?)) (h : ws.all goodWord = true) : GoodIn big ws := by
  intro w hw
  have h1 := List.all_eq_true.mp h w hw
  rw [hp] at hw
  obtain ⟨i, -, hi⟩ := List.mem_filterMap.mp hw
  have hm : w ∈ big := by first | exact List.mem_of_getElem? hi | exact List.getElem?_mem hi
  exact ⟨hm, good_of_word h1⟩
theorem goodIn_app {big a b : List Cond} (ha : GoodIn big a) (hb : GoodIn big b) : GoodIn big (a ++ b) := fun w h => (List.mem_append.mp h).elim (ha w) (hb w)
theorem goodIn_ca {big a b : List Cond} {c : Cond} (ha : GoodIn big (c :: a)) (hb : GoodIn big b) : GoodIn big (c :: (a ++ b)) := fun w h => (List.mem_cons.mp h).elim (fun e => ha w (List.mem_cons.mpr (Or.inl e))) (fun h => (List.mem_append.mp h).elim (fun h => ha w (List.mem_cons.mpr (Or.inr h))) (hb w))
theorem goodIn_sub {big ws : List Cond} (hm : ∀ w ∈ ws, w ∈ big) (h : ws.all goodWord = true) : GoodIn big ws := fun w hw => ⟨hm w hw, good_of_word (List.all_eq_true.mp h w hw)⟩
/-! ===== END ===== -/

/-! ===== BEGIN printed: names, fields, word lists, decode rows ===== -/
def RX0 : String := "TwoBanks$Deeds"
def TX0 : u_T := fun k => match k with
  | 0 => ("TwoBanks$Deeds", "row", "[I", true)
  | 1 => ("TwoBanks$Deeds", "done", "I", false)
  | _ => ("TwoBanks$Deeds", "known", "I", false)
def tyX0 : Nat → FieldType := fun k => match k with
  | 0 => .array .int
  | 1 => .int
  | _ => .int
abbrev wsX00 : List Cond := u_ws RX0 TX0 3
theorem nmX0 : ∀ a, a < 3 → ∀ b, b < 3 → a ≠ b → (TX0 a).2.1 ≠ (TX0 b).2.1 := by decide +kernel
theorem tyX0_ok : ∀ k, k < 3 → parseFieldDescriptor (TX0 k).2.2.1 = some (tyX0 k) := by decide +kernel
abbrev cX0_init : ByteArray := prog_2_method_1_code
def yX0_init : MethodName := ⟨RX0, "<init>", "()V"⟩
abbrev cX0_forget : ByteArray := prog_2_method_2_code
def yX0_forget : MethodName := ⟨RX0, "forget", "()V"⟩
abbrev cX0_done : ByteArray := prog_2_method_3_code
def yX0_done : MethodName := ⟨RX0, "done", "()I"⟩
abbrev cX0_undone : ByteArray := prog_2_method_4_code
def yX0_undone : MethodName := ⟨RX0, "undone", "()I"⟩
abbrev cX0_add : ByteArray := prog_2_method_5_code
def yX0_add : MethodName := ⟨RX0, "add", "(I)Z"⟩
abbrev cX0_back : ByteArray := prog_2_method_6_code
def yX0_back : MethodName := ⟨RX0, "back", "()I"⟩
abbrev cX0_forth : ByteArray := prog_2_method_7_code
def yX0_forth : MethodName := ⟨RX0, "forth", "()I"⟩
def RX1 : String := "TwoBanks$Fight"
def TX1 : u_T := fun k => match k with
  | 0 => ("TwoBanks$Fight", "reached", "LTwoBanks$Marks;", true)
  | 1 => ("TwoBanks$Fight", "won", "LTwoBanks$Marks;", true)
  | 2 => ("TwoBanks$Fight", "lost", "LTwoBanks$Marks;", true)
  | 3 => ("TwoBanks$Fight", "rows", "I", false)
  | 4 => ("TwoBanks$Fight", "columns", "I", false)
  | 5 => ("TwoBanks$Fight", "own", "J", false)
  | 6 => ("TwoBanks$Fight", "others", "J", false)
  | 7 => ("TwoBanks$Fight", "from", "J", false)
  | 8 => ("TwoBanks$Fight", "to", "J", false)
  | 9 => ("TwoBanks$Fight", "spots", "J", false)
  | 10 => ("TwoBanks$Fight", "spotCount", "I", false)
  | 11 => ("TwoBanks$Fight", "full", "I", false)
  | 12 => ("TwoBanks$Fight", "reachedCount", "I", false)
  | 13 => ("TwoBanks$Fight", "deadKnown", "Z", false)
  | _ => ("TwoBanks$Fight", "deadSpots", "J", false)
def tyX1 : Nat → FieldType := fun k => match k with
  | 0 => .object "TwoBanks$Marks"
  | 1 => .object "TwoBanks$Marks"
  | 2 => .object "TwoBanks$Marks"
  | 3 => .int
  | 4 => .int
  | 5 => .long
  | 6 => .long
  | 7 => .long
  | 8 => .long
  | 9 => .long
  | 10 => .int
  | 11 => .int
  | 12 => .int
  | 13 => .boolean
  | _ => .long
abbrev wsX10 : List Cond := u_ws RX1 TX1 15
theorem nmX1 : ∀ a, a < 15 → ∀ b, b < 15 → a ≠ b → (TX1 a).2.1 ≠ (TX1 b).2.1 := by decide +kernel
theorem tyX1_ok : ∀ k, k < 15 → parseFieldDescriptor (TX1 k).2.2.1 = some (tyX1 k) := by decide +kernel
abbrev cX1_init : ByteArray := prog_3_method_1_code
def yX1_init : MethodName := ⟨RX1, "<init>", "()V"⟩
abbrev cX1_ask : ByteArray := prog_3_method_2_code
def yX1_ask : MethodName := ⟨RX1, "ask", "(LTwoBanks$Grid;JJJJ)V"⟩
abbrev cX1_prepare : ByteArray := prog_3_method_3_code
def yX1_prepare : MethodName := ⟨RX1, "prepare", "(LTwoBanks$Grid;)V"⟩
abbrev cX1_reachedFillings : ByteArray := prog_3_method_4_code
def yX1_reachedFillings : MethodName := ⟨RX1, "reachedFillings", "()I"⟩
abbrev cX1_makerWins : ByteArray := prog_3_method_5_code
def yX1_makerWins : MethodName := ⟨RX1, "makerWins", "(Z)Z"⟩
abbrev cX1_strength : ByteArray := prog_3_method_6_code
def yX1_strength : MethodName := ⟨RX1, "strength", "()I"⟩
abbrev cX1_winningField : ByteArray := prog_3_method_7_code
def yX1_winningField : MethodName := ⟨RX1, "winningField", "(ZI)I"⟩
abbrev cX1_winsAt : ByteArray := prog_3_method_8_code
def yX1_winsAt : MethodName := ⟨RX1, "winsAt", "(ZII)Z"⟩
abbrev cX1_holds : ByteArray := prog_3_method_9_code
def yX1_holds : MethodName := ⟨RX1, "holds", "(LTwoBanks$Fight;IIIZI)Z"⟩
abbrev cX1_deadFields : ByteArray := prog_3_method_10_code
def yX1_deadFields : MethodName := ⟨RX1, "deadFields", "()J"⟩
abbrev cX1_findDead : ByteArray := prog_3_method_11_code
def yX1_findDead : MethodName := ⟨RX1, "findDead", "()V"⟩
abbrev cX1_neverMatters : ByteArray := prog_3_method_12_code
def yX1_neverMatters : MethodName := ⟨RX1, "neverMatters", "(I)Z"⟩
def RX2 : String := "TwoBanks$Grid"
def TX2 : u_T := fun k => match k with
  | 0 => ("TwoBanks$Grid", "rows", "I", false)
  | 1 => ("TwoBanks$Grid", "columns", "I", false)
  | 2 => ("TwoBanks$Grid", "all", "J", false)
  | 3 => ("TwoBanks$Grid", "northBank", "J", false)
  | 4 => ("TwoBanks$Grid", "southBank", "J", false)
  | 5 => ("TwoBanks$Grid", "westBank", "J", false)
  | _ => ("TwoBanks$Grid", "eastBank", "J", false)
def tyX2 : Nat → FieldType := fun k => match k with
  | 0 => .int
  | 1 => .int
  | 2 => .long
  | 3 => .long
  | 4 => .long
  | 5 => .long
  | _ => .long
abbrev wsX20 : List Cond := u_ws RX2 TX2 7
theorem nmX2 : ∀ a, a < 7 → ∀ b, b < 7 → a ≠ b → (TX2 a).2.1 ≠ (TX2 b).2.1 := by decide +kernel
theorem tyX2_ok : ∀ k, k < 7 → parseFieldDescriptor (TX2 k).2.2.1 = some (tyX2 k) := by decide +kernel
abbrev cX2_init : ByteArray := prog_4_method_1_code
def yX2_init : MethodName := ⟨RX2, "<init>", "()V"⟩
abbrev cX2_shape : ByteArray := prog_4_method_2_code
def yX2_shape : MethodName := ⟨RX2, "shape", "(II)V"⟩
abbrev cX2_rows : ByteArray := prog_4_method_3_code
def yX2_rows : MethodName := ⟨RX2, "rows", "()I"⟩
abbrev cX2_columns : ByteArray := prog_4_method_4_code
def yX2_columns : MethodName := ⟨RX2, "columns", "()I"⟩
abbrev cX2_all : ByteArray := prog_4_method_5_code
def yX2_all : MethodName := ⟨RX2, "all", "()J"⟩
abbrev cX2_northBank : ByteArray := prog_4_method_6_code
def yX2_northBank : MethodName := ⟨RX2, "northBank", "()J"⟩
abbrev cX2_southBank : ByteArray := prog_4_method_7_code
def yX2_southBank : MethodName := ⟨RX2, "southBank", "()J"⟩
abbrev cX2_westBank : ByteArray := prog_4_method_8_code
def yX2_westBank : MethodName := ⟨RX2, "westBank", "()J"⟩
abbrev cX2_eastBank : ByteArray := prog_4_method_9_code
def yX2_eastBank : MethodName := ⟨RX2, "eastBank", "()J"⟩
abbrev cX2_has : ByteArray := prog_4_method_10_code
def yX2_has : MethodName := ⟨RX2, "has", "(I)Z"⟩
abbrev cX2_beside : ByteArray := prog_4_method_11_code
def yX2_beside : MethodName := ⟨RX2, "beside", "(J)J"⟩
abbrev cX2_spread : ByteArray := prog_4_method_12_code
def yX2_spread : MethodName := ⟨RX2, "spread", "(JJ)J"⟩
abbrev cX2_joins : ByteArray := prog_4_method_13_code
def yX2_joins : MethodName := ⟨RX2, "joins", "(JJJ)Z"⟩
abbrev cX2_groupsOf : ByteArray := prog_4_method_14_code
def yX2_groupsOf : MethodName := ⟨RX2, "groupsOf", "(J)I"⟩
abbrev cX2_banksOf : ByteArray := prog_4_method_15_code
def yX2_banksOf : MethodName := ⟨RX2, "banksOf", "(J)I"⟩
abbrev cX2_turned : ByteArray := prog_4_method_16_code
def yX2_turned : MethodName := ⟨RX2, "turned", "(J)J"⟩
def RX3 : String := "TwoBanks$Marks"
def TX3 : u_T := fun k => match k with
  | _ => ("TwoBanks$Marks", "words", "[J", true)
def tyX3 : Nat → FieldType := fun k => match k with
  | _ => .array .long
abbrev wsX30 : List Cond := u_ws RX3 TX3 1
theorem nmX3 : ∀ a, a < 1 → ∀ b, b < 1 → a ≠ b → (TX3 a).2.1 ≠ (TX3 b).2.1 := by decide +kernel
theorem tyX3_ok : ∀ k, k < 1 → parseFieldDescriptor (TX3 k).2.2.1 = some (tyX3 k) := by decide +kernel
abbrev cX3_init : ByteArray := prog_5_method_1_code
def yX3_init : MethodName := ⟨RX3, "<init>", "(I)V"⟩
abbrev cX3_forget : ByteArray := prog_5_method_2_code
def yX3_forget : MethodName := ⟨RX3, "forget", "()V"⟩
abbrev cX3_has : ByteArray := prog_5_method_3_code
def yX3_has : MethodName := ⟨RX3, "has", "(I)Z"⟩
abbrev cX3_mark : ByteArray := prog_5_method_4_code
def yX3_mark : MethodName := ⟨RX3, "mark", "(I)V"⟩
def RX4 : String := "TwoBanks$Path"
def TX4 : u_T := fun k => match k with
  | 0 => ("TwoBanks$Path", "layers", "[J", true)
  | 1 => ("TwoBanks$Path", "fields", "[I", true)
  | _ => ("TwoBanks$Path", "length", "I", false)
def tyX4 : Nat → FieldType := fun k => match k with
  | 0 => .array .long
  | 1 => .array .int
  | _ => .int
abbrev wsX40 : List Cond := u_ws RX4 TX4 3
theorem nmX4 : ∀ a, a < 3 → ∀ b, b < 3 → a ≠ b → (TX4 a).2.1 ≠ (TX4 b).2.1 := by decide +kernel
theorem tyX4_ok : ∀ k, k < 3 → parseFieldDescriptor (TX4 k).2.2.1 = some (tyX4 k) := by decide +kernel
abbrev cX4_init : ByteArray := prog_6_method_1_code
def yX4_init : MethodName := ⟨RX4, "<init>", "()V"⟩
abbrev cX4_forget : ByteArray := prog_6_method_2_code
def yX4_forget : MethodName := ⟨RX4, "forget", "()V"⟩
abbrev cX4_length : ByteArray := prog_6_method_3_code
def yX4_length : MethodName := ⟨RX4, "length", "()I"⟩
abbrev cX4_field : ByteArray := prog_6_method_4_code
def yX4_field : MethodName := ⟨RX4, "field", "(I)I"⟩
abbrev cX4_find : ByteArray := prog_6_method_5_code
def yX4_find : MethodName := ⟨RX4, "find", "(LTwoBanks$Grid;JJJ)V"⟩
abbrev cX4_trace : ByteArray := prog_6_method_6_code
def yX4_trace : MethodName := ⟨RX4, "trace", "(LTwoBanks$Grid;JI)V"⟩
def RX5 : String := "TwoBanks"
def TX5 : u_T := fun k => match k with
  | 0 => ("TwoBanks", "grid", "LTwoBanks$Grid;", true)
  | 1 => ("TwoBanks", "deeds", "LTwoBanks$Deeds;", true)
  | 2 => ("TwoBanks", "path", "LTwoBanks$Path;", true)
  | 3 => ("TwoBanks", "bankFight", "LTwoBanks$Fight;", true)
  | 4 => ("TwoBanks", "linkFight", "LTwoBanks$Fight;", true)
  | 5 => ("TwoBanks", "north", "J", false)
  | 6 => ("TwoBanks", "west", "J", false)
  | 7 => ("TwoBanks", "toLay", "I", false)
  | _ => ("TwoBanks", "untouched", "Z", false)
def tyX5 : Nat → FieldType := fun k => match k with
  | 0 => .object "TwoBanks$Grid"
  | 1 => .object "TwoBanks$Deeds"
  | 2 => .object "TwoBanks$Path"
  | 3 => .object "TwoBanks$Fight"
  | 4 => .object "TwoBanks$Fight"
  | 5 => .long
  | 6 => .long
  | 7 => .int
  | _ => .boolean
abbrev wsX50 : List Cond := u_ws RX5 TX5 9
theorem nmX5 : ∀ a, a < 9 → ∀ b, b < 9 → a ≠ b → (TX5 a).2.1 ≠ (TX5 b).2.1 := by decide +kernel
theorem tyX5_ok : ∀ k, k < 9 → parseFieldDescriptor (TX5 k).2.2.1 = some (tyX5 k) := by decide +kernel
abbrev cX5_init : ByteArray := prog_1_method_1_code
def yX5_init : MethodName := ⟨RX5, "<init>", "()V"⟩
abbrev cX5_board : ByteArray := prog_1_method_2_code
def yX5_board : MethodName := ⟨RX5, "board", "(II)Z"⟩
abbrev cX5_set : ByteArray := prog_1_method_3_code
def yX5_set : MethodName := ⟨RX5, "set", "(III)Z"⟩
abbrev cX5_lay : ByteArray := prog_1_method_4_code
def yX5_lay : MethodName := ⟨RX5, "lay", "(I)I"⟩
abbrev cX5_swap : ByteArray := prog_1_method_5_code
def yX5_swap : MethodName := ⟨RX5, "swap", "()Z"⟩
abbrev cX5_undo : ByteArray := prog_1_method_6_code
def yX5_undo : MethodName := ⟨RX5, "undo", "()Z"⟩
abbrev cX5_redo : ByteArray := prog_1_method_7_code
def yX5_redo : MethodName := ⟨RX5, "redo", "()Z"⟩
abbrev cX5_change : ByteArray := prog_1_method_8_code
def yX5_change : MethodName := ⟨RX5, "change", "()V"⟩
abbrev cX5_at : ByteArray := prog_1_method_9_code
def yX5_at : MethodName := ⟨RX5, "at", "(I)I"⟩
abbrev cX5_group : ByteArray := prog_1_method_10_code
def yX5_group : MethodName := ⟨RX5, "group", "(I)I"⟩
abbrev cX5_look : ByteArray := prog_1_method_11_code
def yX5_look : MethodName := ⟨RX5, "look", "(II)I"⟩
abbrev cX5_joined : ByteArray := prog_1_method_12_code
def yX5_joined : MethodName := ⟨RX5, "joined", "()I"⟩
abbrev cX5_way : ByteArray := prog_1_method_13_code
def yX5_way : MethodName := ⟨RX5, "way", "(I)I"⟩
abbrev cX5_winner : ByteArray := prog_1_method_14_code
def yX5_winner : MethodName := ⟨RX5, "winner", "(I)I"⟩
abbrev cX5_first : ByteArray := prog_1_method_15_code
def yX5_first : MethodName := ⟨RX5, "first", "(II)I"⟩
abbrev cX5_fillings : ByteArray := prog_1_method_16_code
def yX5_fillings : MethodName := ⟨RX5, "fillings", "()I"⟩
abbrev cX5_dead : ByteArray := prog_1_method_17_code
def yX5_dead : MethodName := ⟨RX5, "dead", "(I)I"⟩
abbrev cX5_link : ByteArray := prog_1_method_18_code
def yX5_link : MethodName := ⟨RX5, "link", "(III)I"⟩
abbrev cX5_half : ByteArray := prog_1_method_19_code
def yX5_half : MethodName := ⟨RX5, "half", "(IIII)I"⟩
abbrev cX5_count : ByteArray := prog_1_method_20_code
def yX5_count : MethodName := ⟨RX5, "count", "(I)I"⟩
abbrev cX5_isSide : ByteArray := prog_1_method_21_code
def yX5_isSide : MethodName := ⟨RX5, "isSide", "(I)Z"⟩
abbrev cX5_isColour : ByteArray := prog_1_method_22_code
def yX5_isColour : MethodName := ⟨RX5, "isColour", "(I)Z"⟩
abbrev cX5_other : ByteArray := prog_1_method_23_code
def yX5_other : MethodName := ⟨RX5, "other", "(I)I"⟩
abbrev cX5_bit : ByteArray := prog_1_method_24_code
def yX5_bit : MethodName := ⟨RX5, "bit", "(I)J"⟩
abbrev cX5_lowest : ByteArray := prog_1_method_25_code
def yX5_lowest : MethodName := ⟨RX5, "lowest", "(J)I"⟩
abbrev cX5_makeEmpty : ByteArray := prog_1_method_26_code
def yX5_makeEmpty : MethodName := ⟨RX5, "makeEmpty", "(II)V"⟩
abbrev cX5_stoneAt : ByteArray := prog_1_method_27_code
def yX5_stoneAt : MethodName := ⟨RX5, "stoneAt", "(I)I"⟩
abbrev cX5_put : ByteArray := prog_1_method_28_code
def yX5_put : MethodName := ⟨RX5, "put", "(II)V"⟩
abbrev cX5_stonesOf : ByteArray := prog_1_method_29_code
def yX5_stonesOf : MethodName := ⟨RX5, "stonesOf", "(I)J"⟩
abbrev cX5_empties : ByteArray := prog_1_method_30_code
def yX5_empties : MethodName := ⟨RX5, "empties", "()J"⟩
abbrev cX5_tooManyEmpty : ByteArray := prog_1_method_31_code
def yX5_tooManyEmpty : MethodName := ⟨RX5, "tooManyEmpty", "()Z"⟩
abbrev cX5_layStone : ByteArray := prog_1_method_32_code
def yX5_layStone : MethodName := ⟨RX5, "layStone", "(I)V"⟩
abbrev cX5_takeOver : ByteArray := prog_1_method_33_code
def yX5_takeOver : MethodName := ⟨RX5, "takeOver", "()V"⟩
abbrev cX5_giveBack : ByteArray := prog_1_method_34_code
def yX5_giveBack : MethodName := ⟨RX5, "giveBack", "()V"⟩
abbrev cX5_groupAt : ByteArray := prog_1_method_35_code
def yX5_groupAt : MethodName := ⟨RX5, "groupAt", "(I)J"⟩
abbrev cX5_whoJoined : ByteArray := prog_1_method_36_code
def yX5_whoJoined : MethodName := ⟨RX5, "whoJoined", "()I"⟩
abbrev cX5_findPath : ByteArray := prog_1_method_37_code
def yX5_findPath : MethodName := ⟨RX5, "findPath", "()V"⟩
abbrev cX5_askBanks : ByteArray := prog_1_method_38_code
def yX5_askBanks : MethodName := ⟨RX5, "askBanks", "()V"⟩
abbrev cX5_canLink : ByteArray := prog_1_method_39_code
def yX5_canLink : MethodName := ⟨RX5, "canLink", "(III)Z"⟩
abbrev cX5_askLink : ByteArray := prog_1_method_40_code
def yX5_askLink : MethodName := ⟨RX5, "askLink", "(III)V"⟩
abbrev cX5_howManyDead : ByteArray := prog_1_method_41_code
def yX5_howManyDead : MethodName := ⟨RX5, "howManyDead", "()I"⟩
def RX6 : String := "TwoBanksModel"
def TX6 : u_T := fun k => match k with
  | 0 => ("TwoBanksModel", "rows", "I", false)
  | 1 => ("TwoBanksModel", "columns", "I", false)
  | 2 => ("TwoBanksModel", "turn", "I", false)
  | 3 => ("TwoBanksModel", "at", "[I", true)
  | 4 => ("TwoBanksModel", "done", "I", false)
  | 5 => ("TwoBanksModel", "again", "I", false)
  | 6 => ("TwoBanksModel", "acts", "[I", true)
  | 7 => ("TwoBanksModel", "isMade", "Z", false)
  | 8 => ("TwoBanksModel", "isReached", "[Z", true)
  | 9 => ("TwoBanksModel", "turned", "[I", true)
  | 10 => ("TwoBanksModel", "far", "[I", true)
  | 11 => ("TwoBanksModel", "empties", "I", false)
  | 12 => ("TwoBanksModel", "empty", "[I", true)
  | 13 => ("TwoBanksModel", "power", "[I", true)
  | 14 => ("TwoBanksModel", "byOne", "[Z", true)
  | 15 => ("TwoBanksModel", "byTwo", "[Z", true)
  | _ => ("TwoBanksModel", "isNorth", "[Z", true)
def tyX6 : Nat → FieldType := fun k => match k with
  | 0 => .int
  | 1 => .int
  | 2 => .int
  | 3 => .array .int
  | 4 => .int
  | 5 => .int
  | 6 => .array .int
  | 7 => .boolean
  | 8 => .array .boolean
  | 9 => .array .int
  | 10 => .array .int
  | 11 => .int
  | 12 => .array .int
  | 13 => .array .int
  | 14 => .array .boolean
  | 15 => .array .boolean
  | _ => .array .boolean
abbrev wsX60 : List Cond := u_ws RX6 TX6 17
theorem nmX6 : ∀ a, a < 17 → ∀ b, b < 17 → a ≠ b → (TX6 a).2.1 ≠ (TX6 b).2.1 := by decide +kernel
theorem tyX6_ok : ∀ k, k < 17 → parseFieldDescriptor (TX6 k).2.2.1 = some (tyX6 k) := by decide +kernel
abbrev cX6_init : ByteArray := prog_8_method_1_code
def yX6_init : MethodName := ⟨RX6, "<init>", "()V"⟩
abbrev cX6_lies : ByteArray := prog_8_method_2_code
def yX6_lies : MethodName := ⟨RX6, "lies", "(III)Z"⟩
abbrev cX6_fields : ByteArray := prog_8_method_3_code
def yX6_fields : MethodName := ⟨RX6, "fields", "()I"⟩
abbrev cX6_isField : ByteArray := prog_8_method_4_code
def yX6_isField : MethodName := ⟨RX6, "isField", "(I)Z"⟩
abbrev cX6_forgets : ByteArray := prog_8_method_5_code
def yX6_forgets : MethodName := ⟨RX6, "forgets", "()V"⟩
abbrev cX6_board : ByteArray := prog_8_method_6_code
def yX6_board : MethodName := ⟨RX6, "board", "(II)Z"⟩
abbrev cX6_set : ByteArray := prog_8_method_7_code
def yX6_set : MethodName := ⟨RX6, "set", "(III)Z"⟩
abbrev cX6_beside : ByteArray := prog_8_method_8_code
def yX6_beside : MethodName := ⟨RX6, "beside", "(II)I"⟩
abbrev cX6_banks : ByteArray := prog_8_method_9_code
def yX6_banks : MethodName := ⟨RX6, "banks", "(I)I"⟩
abbrev cX6_reaches : ByteArray := prog_8_method_10_code
def yX6_reaches : MethodName := ⟨RX6, "reaches", "(I)V"⟩
abbrev cX6_reachesNone : ByteArray := prog_8_method_11_code
def yX6_reachesNone : MethodName := ⟨RX6, "reachesNone", "()V"⟩
abbrev cX6_first : ByteArray := prog_8_method_12_code
def yX6_first : MethodName := ⟨RX6, "first", "(I)I"⟩
abbrev cX6_last : ByteArray := prog_8_method_13_code
def yX6_last : MethodName := ⟨RX6, "last", "(I)I"⟩
abbrev cX6_joins : ByteArray := prog_8_method_14_code
def yX6_joins : MethodName := ⟨RX6, "joins", "(I)Z"⟩
abbrev cX6_joined : ByteArray := prog_8_method_15_code
def yX6_joined : MethodName := ⟨RX6, "joined", "()I"⟩
abbrev cX6_does : ByteArray := prog_8_method_16_code
def yX6_does : MethodName := ⟨RX6, "does", "(I)V"⟩
abbrev cX6_undoes : ByteArray := prog_8_method_17_code
def yX6_undoes : MethodName := ⟨RX6, "undoes", "(I)V"⟩
abbrev cX6_acts : ByteArray := prog_8_method_18_code
def yX6_acts : MethodName := ⟨RX6, "acts", "(I)V"⟩
abbrev cX6_lay : ByteArray := prog_8_method_19_code
def yX6_lay : MethodName := ⟨RX6, "lay", "(I)I"⟩
abbrev cX6_swap : ByteArray := prog_8_method_20_code
def yX6_swap : MethodName := ⟨RX6, "swap", "()Z"⟩
abbrev cX6_undo : ByteArray := prog_8_method_21_code
def yX6_undo : MethodName := ⟨RX6, "undo", "()Z"⟩
abbrev cX6_redo : ByteArray := prog_8_method_22_code
def yX6_redo : MethodName := ⟨RX6, "redo", "()Z"⟩
abbrev cX6_change : ByteArray := prog_8_method_23_code
def yX6_change : MethodName := ⟨RX6, "change", "()V"⟩
abbrev cX6_at : ByteArray := prog_8_method_24_code
def yX6_at : MethodName := ⟨RX6, "at", "(I)I"⟩
abbrev cX6_isStone : ByteArray := prog_8_method_25_code
def yX6_isStone : MethodName := ⟨RX6, "isStone", "(I)Z"⟩
abbrev cX6_groupOf : ByteArray := prog_8_method_26_code
def yX6_groupOf : MethodName := ⟨RX6, "groupOf", "(I)V"⟩
abbrev cX6_group : ByteArray := prog_8_method_27_code
def yX6_group : MethodName := ⟨RX6, "group", "(I)I"⟩
abbrev cX6_look : ByteArray := prog_8_method_28_code
def yX6_look : MethodName := ⟨RX6, "look", "(II)I"⟩
abbrev cX6_isBeside : ByteArray := prog_8_method_29_code
def yX6_isBeside : MethodName := ⟨RX6, "isBeside", "(I)Z"⟩
abbrev cX6_groups : ByteArray := prog_8_method_30_code
def yX6_groups : MethodName := ⟨RX6, "groups", "(I)I"⟩
abbrev cX6_measures : ByteArray := prog_8_method_31_code
def yX6_measures : MethodName := ⟨RX6, "measures", "(I)V"⟩
abbrev cX6_wayLong : ByteArray := prog_8_method_32_code
def yX6_wayLong : MethodName := ⟨RX6, "wayLong", "()I"⟩
abbrev cX6_way : ByteArray := prog_8_method_33_code
def yX6_way : MethodName := ⟨RX6, "way", "(I)I"⟩
abbrev cX6_opens : ByteArray := prog_8_method_34_code
def yX6_opens : MethodName := ⟨RX6, "opens", "()Z"⟩
abbrev cX6_fills : ByteArray := prog_8_method_35_code
def yX6_fills : MethodName := ⟨RX6, "fills", "(I)V"⟩
abbrev cX6_hang : ByteArray := prog_8_method_36_code
def yX6_hang : MethodName := ⟨RX6, "hang", "(III)Z"⟩
abbrev cX6_works : ByteArray := prog_8_method_37_code
def yX6_works : MethodName := ⟨RX6, "works", "(III)V"⟩
abbrev cX6_gets : ByteArray := prog_8_method_38_code
def yX6_gets : MethodName := ⟨RX6, "gets", "(II)Z"⟩
abbrev cX6_winner : ByteArray := prog_8_method_39_code
def yX6_winner : MethodName := ⟨RX6, "winner", "(I)I"⟩
abbrev cX6_first_ : ByteArray := prog_8_method_40_code
def yX6_first_ : MethodName := ⟨RX6, "first", "(II)I"⟩
abbrev cX6_codeOf : ByteArray := prog_8_method_41_code
def yX6_codeOf : MethodName := ⟨RX6, "codeOf", "(I)I"⟩
abbrev cX6_fillings0 : ByteArray := prog_8_method_42_code
def yX6_fillings0 : MethodName := ⟨RX6, "fillings0", "()V"⟩
abbrev cX6_fillings : ByteArray := prog_8_method_43_code
def yX6_fillings : MethodName := ⟨RX6, "fillings", "()I"⟩
abbrev cX6_isDead : ByteArray := prog_8_method_44_code
def yX6_isDead : MethodName := ⟨RX6, "isDead", "(I)Z"⟩
abbrev cX6_dead : ByteArray := prog_8_method_45_code
def yX6_dead : MethodName := ⟨RX6, "dead", "(I)I"⟩
abbrev cX6_mayLink : ByteArray := prog_8_method_46_code
def yX6_mayLink : MethodName := ⟨RX6, "mayLink", "(III)Z"⟩
abbrev cX6_link : ByteArray := prog_8_method_47_code
def yX6_link : MethodName := ⟨RX6, "link", "(III)I"⟩
abbrev cX6_half : ByteArray := prog_8_method_48_code
def yX6_half : MethodName := ⟨RX6, "half", "(IIII)I"⟩
abbrev cX6_count : ByteArray := prog_8_method_49_code
def yX6_count : MethodName := ⟨RX6, "count", "(I)I"⟩
def RJ13 : String := "java/lang/Long"
def TJ13 : u_T := fun k => match k with
  | _ => ("", "", "", false)
def tyJ13 : Nat → FieldType := fun k => match k with
  | _ => .int
abbrev wsJ130 : List Cond := u_ws RJ13 TJ13 0
theorem nmJ13 : ∀ a, a < 0 → ∀ b, b < 0 → a ≠ b → (TJ13 a).2.1 ≠ (TJ13 b).2.1 := by decide +kernel
theorem tyJ13_ok : ∀ k, k < 0 → parseFieldDescriptor (TJ13 k).2.2.1 = some (tyJ13 k) := by decide +kernel
abbrev cJ13_bitCount_95d88 : ByteArray := prog_9_method_50_code
def yJ13_bitCount_95d88 : MethodName := ⟨RJ13, "bitCount", "(J)I"⟩
def RJ9 : String := "java/lang/Math"
def TJ9 : u_T := fun k => match k with
  | _ => ("", "", "", false)
def tyJ9 : Nat → FieldType := fun k => match k with
  | _ => .int
abbrev wsJ90 : List Cond := u_ws RJ9 TJ9 0
theorem nmJ9 : ∀ a, a < 0 → ∀ b, b < 0 → a ≠ b → (TJ9 a).2.1 ≠ (TJ9 b).2.1 := by decide +kernel
theorem tyJ9_ok : ∀ k, k < 0 → parseFieldDescriptor (TJ9 k).2.2.1 = some (tyJ9 k) := by decide +kernel
abbrev cJ9_max_7cf53 : ByteArray := prog_10_method_65_code
def yJ9_max_7cf53 : MethodName := ⟨RJ9, "max", "(II)I"⟩
abbrev cJ9_min_7cf53 : ByteArray := prog_10_method_69_code
def yJ9_min_7cf53 : MethodName := ⟨RJ9, "min", "(II)I"⟩
def RJ7 : String := "java/util/Arrays"
def TJ7 : u_T := fun k => match k with
  | _ => ("", "", "", false)
def tyJ7 : Nat → FieldType := fun k => match k with
  | _ => .int
abbrev wsJ70 : List Cond := u_ws RJ7 TJ7 0
theorem nmJ7 : ∀ a, a < 0 → ∀ b, b < 0 → a ≠ b → (TJ7 a).2.1 ≠ (TJ7 b).2.1 := by decide +kernel
theorem tyJ7_ok : ∀ k, k < 0 → parseFieldDescriptor (TJ7 k).2.2.1 = some (tyJ7 k) := by decide +kernel
abbrev cJ7_fill_d0a16 : ByteArray := prog_11_method_101_code
def yJ7_fill_d0a16 : MethodName := ⟨RJ7, "fill", "([JJ)V"⟩
def RL : String := "TwoBanksLaw"
abbrev cL_law : ByteArray := code
def yL_law : MethodName := ⟨RL, "law", "([I)Z"⟩
def wsX0_init : List Cond := .code yX0_init cX0_init 1 none :: ([.methodLink RX0 3 objectInit, .instanceMethod objectInit, .code objectInit ⟨#[0xb1]⟩ 1 none, .arrayClass .int, .fieldLink RX0 9 "TwoBanks$Deeds" "row" "[I"] ++ wsX00)
def wsX0_forget : List Cond := .code yX0_forget cX0_forget 1 none :: ([.fieldLink RX0 15 "TwoBanks$Deeds" "done" "I", .fieldLink RX0 19 "TwoBanks$Deeds" "known" "I"] ++ wsX00)
def wsX0_done : List Cond := .code yX0_done cX0_done 1 (some .int) :: ([.fieldLink RX0 15 "TwoBanks$Deeds" "done" "I"] ++ wsX00)
def wsX0_undone : List Cond := .code yX0_undone cX0_undone 1 (some .int) :: ([.fieldLink RX0 19 "TwoBanks$Deeds" "known" "I", .fieldLink RX0 15 "TwoBanks$Deeds" "done" "I"] ++ wsX00)
def wsX0_add : List Cond := .code yX0_add cX0_add 2 (some .boolean) :: ([.fieldLink RX0 15 "TwoBanks$Deeds" "done" "I", .fieldLink RX0 9 "TwoBanks$Deeds" "row" "[I", .fieldLink RX0 19 "TwoBanks$Deeds" "known" "I"] ++ wsX00)
def wsX0_back : List Cond := .code yX0_back cX0_back 2 (some .int) :: ([.fieldLink RX0 15 "TwoBanks$Deeds" "done" "I", .fieldLink RX0 9 "TwoBanks$Deeds" "row" "[I"] ++ wsX00)
def wsX0_forth : List Cond := .code yX0_forth cX0_forth 2 (some .int) :: ([.fieldLink RX0 15 "TwoBanks$Deeds" "done" "I", .fieldLink RX0 19 "TwoBanks$Deeds" "known" "I", .fieldLink RX0 9 "TwoBanks$Deeds" "row" "[I"] ++ wsX00)
def wsX3_init : List Cond := .code yX3_init cX3_init 2 none :: ([.methodLink RX3 1 objectInit, .instanceMethod objectInit, .code objectInit ⟨#[0xb1]⟩ 1 none, .methodLink RX3 7 Lib.Math.max.name, .static Lib.Math.max.name, .initialized "java/lang/Math", .code Lib.Math.max.name Lib.Math.max.code 2 (some .int), .arrayClass .long, .fieldLink RX3 13 "TwoBanks$Marks" "words" "[J"] ++ wsX30)
def wsX1_init : List Cond := .code yX1_init cX1_init 1 none :: ([.methodLink RX1 3 objectInit, .instanceMethod objectInit, .code objectInit ⟨#[0xb1]⟩ 1 none, .classLink RX1 9 RX3, .instantiable RX3 1, .initialized RX3, .fieldLink RX1 14 "TwoBanks$Fight" "reached" "LTwoBanks$Marks;", .constant RX1 20 (118098), .fieldLink RX1 21 "TwoBanks$Fight" "won" "LTwoBanks$Marks;", .fieldLink RX1 24 "TwoBanks$Fight" "lost" "LTwoBanks$Marks;", .methodLink RX1 11 yX3_init, .instanceMethod yX3_init, .code yX3_init cX3_init 2 none, .methodLink RX3 1 objectInit, .methodLink RX3 7 Lib.Math.max.name, .static Lib.Math.max.name, .initialized "java/lang/Math", .code Lib.Math.max.name Lib.Math.max.code 2 (some .int), .arrayClass .long, .fieldLink RX3 13 "TwoBanks$Marks" "words" "[J"] ++ wsX30 ++ wsX10)
def wsX2_rows : List Cond := .code yX2_rows cX2_rows 1 (some .int) :: ([.fieldLink RX2 9 "TwoBanks$Grid" "rows" "I"] ++ wsX20)
def wsX2_columns : List Cond := .code yX2_columns cX2_columns 1 (some .int) :: ([.fieldLink RX2 15 "TwoBanks$Grid" "columns" "I"] ++ wsX20)
def wsX2_all : List Cond := .code yX2_all cX2_all 1 (some .long) :: ([.fieldLink RX2 22 "TwoBanks$Grid" "all" "J"] ++ wsX20)
def wsJ13_bitCount_95d88 : List Cond := .code yJ13_bitCount_95d88 cJ13_bitCount_95d88 2 (some .int) :: ([.constantLong RJ13 314 (6148914691236517205), .constantLong RJ13 316 (3689348814741910323), .constantLong RJ13 318 (1085102592571150095)])
def wsJ7_fill_d0a16 : List Cond := .code yJ7_fill_d0a16 cJ7_fill_d0a16 5 none :: ([])
def wsX3_forget : List Cond := .code yX3_forget cX3_forget 1 none :: ([.fieldLink RX3 13 "TwoBanks$Marks" "words" "[J", .methodLink RX3 19 yJ7_fill_d0a16, .static yJ7_fill_d0a16, .initialized RJ7, .code yJ7_fill_d0a16 cJ7_fill_d0a16 5 none] ++ wsX30)
def wsX2_beside : List Cond := .code yX2_beside cX2_beside 13 (some .long) :: ([.fieldLink RX2 35 "TwoBanks$Grid" "eastBank" "J", .constantLong RX2 38 (-1), .fieldLink RX2 32 "TwoBanks$Grid" "westBank" "J", .fieldLink RX2 15 "TwoBanks$Grid" "columns" "I", .fieldLink RX2 22 "TwoBanks$Grid" "all" "J"] ++ wsX20)
def wsX2_spread : List Cond := .code yX2_spread cX2_spread 10 (some .long) :: ([.methodLink RX2 40 yX2_beside, .instanceMethod yX2_beside, .selects RX2 yX2_beside yX2_beside, .initialized RX2, .code yX2_beside cX2_beside 13 (some .long), .fieldLink RX2 35 "TwoBanks$Grid" "eastBank" "J", .constantLong RX2 38 (-1), .fieldLink RX2 32 "TwoBanks$Grid" "westBank" "J", .fieldLink RX2 15 "TwoBanks$Grid" "columns" "I", .fieldLink RX2 22 "TwoBanks$Grid" "all" "J"] ++ wsX20)
def wsX5_bit : List Cond := .code yX5_bit cX5_bit 1 (some .long) :: ([])
def wsX3_mark : List Cond := .code yX3_mark cX3_mark 3 none :: ([.fieldLink RX3 13 "TwoBanks$Marks" "words" "[J", .static yX5_bit, .initialized RX5, .code yX5_bit cX5_bit 1 (some .long)] ++ wsX30)
def wsX1_prepare_r1 : List Cond := [Cond.fieldLink RX1 41 "TwoBanks$Fight" "own" "J", Cond.fieldLink RX1 45 "TwoBanks$Fight" "others" "J", Cond.constantLong RX1 62 (-1), Cond.fieldLink RX1 64 "TwoBanks$Fight" "spots" "J", Cond.methodLink RX1 73 Lib.Math.min.name, Cond.static Lib.Math.min.name, Cond.initialized "java/lang/Math", Cond.code Lib.Math.min.name Lib.Math.min.code 2 (some .int), Cond.fieldLink RX1 79 "TwoBanks$Fight" "spotCount" "I", Cond.fieldLink RX1 82 "TwoBanks$Fight" "full" "I", Cond.fieldLink RX1 85 "TwoBanks$Fight" "reachedCount" "I", Cond.fieldLink RX1 88 "TwoBanks$Fight" "deadKnown" "Z", Cond.fieldLink RX1 14 "TwoBanks$Fight" "reached" "LTwoBanks$Marks;", Cond.fieldLink RX1 21 "TwoBanks$Fight" "won" "LTwoBanks$Marks;", Cond.fieldLink RX1 24 "TwoBanks$Fight" "lost" "LTwoBanks$Marks;", Cond.fieldLink RX1 48 "TwoBanks$Fight" "from" "J", Cond.fieldLink RX1 51 "TwoBanks$Fight" "to" "J", Cond.methodLink RX1 58 yX2_all, Cond.instanceMethod yX2_all, Cond.selects RX2 yX2_all yX2_all, Cond.initialized RX2, Cond.code yX2_all cX2_all 1 (some .long), Cond.fieldLink RX2 22 "TwoBanks$Grid" "all" "J", Cond.methodLink RX1 67 yJ13_bitCount_95d88]
def wsX1_prepare_r2 : List Cond := [Cond.static yJ13_bitCount_95d88, Cond.initialized RJ13, Cond.code yJ13_bitCount_95d88 cJ13_bitCount_95d88 2 (some .int), Cond.constantLong RJ13 314 (6148914691236517205), Cond.constantLong RJ13 316 (3689348814741910323), Cond.constantLong RJ13 318 (1085102592571150095), Cond.methodLink RX1 92 yX3_forget, Cond.instanceMethod yX3_forget, Cond.selects RX3 yX3_forget yX3_forget, Cond.initialized RX3, Cond.code yX3_forget cX3_forget 1 none, Cond.fieldLink RX3 13 "TwoBanks$Marks" "words" "[J", Cond.methodLink RX3 19 yJ7_fill_d0a16, Cond.static yJ7_fill_d0a16, Cond.initialized RJ7, Cond.code yJ7_fill_d0a16 cJ7_fill_d0a16 5 none, Cond.methodLink RX1 95 yX2_spread, Cond.instanceMethod yX2_spread, Cond.selects RX2 yX2_spread yX2_spread, Cond.code yX2_spread cX2_spread 10 (some .long), Cond.methodLink RX2 40 yX2_beside, Cond.instanceMethod yX2_beside, Cond.selects RX2 yX2_beside yX2_beside, Cond.code yX2_beside cX2_beside 13 (some .long)]
def wsX1_prepare_r3 : List Cond := [Cond.fieldLink RX2 35 "TwoBanks$Grid" "eastBank" "J", Cond.constantLong RX2 38 (-1), Cond.fieldLink RX2 32 "TwoBanks$Grid" "westBank" "J", Cond.fieldLink RX2 15 "TwoBanks$Grid" "columns" "I", Cond.methodLink RX1 99 yX3_mark, Cond.instanceMethod yX3_mark, Cond.selects RX3 yX3_mark yX3_mark, Cond.code yX3_mark cX3_mark 3 none, Cond.static yX5_bit, Cond.initialized RX5, Cond.code yX5_bit cX5_bit 1 (some .long)]
def wsX1_prepare : List Cond := .code yX1_prepare cX1_prepare 5 none :: ((wsX1_prepare_r1 ++ (wsX1_prepare_r2 ++ wsX1_prepare_r3)) ++ wsX10 ++ wsX20 ++ wsX30)
def wsX1_ask_r1 : List Cond := [Cond.fieldLink RX1 27 "TwoBanks$Fight" "rows" "I", Cond.fieldLink RX1 36 "TwoBanks$Fight" "columns" "I", Cond.fieldLink RX1 41 "TwoBanks$Fight" "own" "J", Cond.fieldLink RX1 45 "TwoBanks$Fight" "others" "J", Cond.fieldLink RX1 48 "TwoBanks$Fight" "from" "J", Cond.fieldLink RX1 51 "TwoBanks$Fight" "to" "J", Cond.methodLink RX1 31 yX2_rows, Cond.instanceMethod yX2_rows, Cond.selects RX2 yX2_rows yX2_rows, Cond.initialized RX2, Cond.code yX2_rows cX2_rows 1 (some .int), Cond.fieldLink RX2 9 "TwoBanks$Grid" "rows" "I", Cond.methodLink RX1 39 yX2_columns, Cond.instanceMethod yX2_columns, Cond.selects RX2 yX2_columns yX2_columns, Cond.code yX2_columns cX2_columns 1 (some .int), Cond.fieldLink RX2 15 "TwoBanks$Grid" "columns" "I", Cond.methodLink RX1 54 yX1_prepare, Cond.instanceMethod yX1_prepare, Cond.selects RX1 yX1_prepare yX1_prepare, Cond.initialized RX1, Cond.code yX1_prepare cX1_prepare 5 none, Cond.constantLong RX1 62 (-1), Cond.fieldLink RX1 64 "TwoBanks$Fight" "spots" "J"]
def wsX1_ask_r2 : List Cond := [Cond.methodLink RX1 73 Lib.Math.min.name, Cond.static Lib.Math.min.name, Cond.initialized "java/lang/Math", Cond.code Lib.Math.min.name Lib.Math.min.code 2 (some .int), Cond.fieldLink RX1 79 "TwoBanks$Fight" "spotCount" "I", Cond.fieldLink RX1 82 "TwoBanks$Fight" "full" "I", Cond.fieldLink RX1 85 "TwoBanks$Fight" "reachedCount" "I", Cond.fieldLink RX1 88 "TwoBanks$Fight" "deadKnown" "Z", Cond.fieldLink RX1 14 "TwoBanks$Fight" "reached" "LTwoBanks$Marks;", Cond.fieldLink RX1 21 "TwoBanks$Fight" "won" "LTwoBanks$Marks;", Cond.fieldLink RX1 24 "TwoBanks$Fight" "lost" "LTwoBanks$Marks;", Cond.methodLink RX1 58 yX2_all, Cond.instanceMethod yX2_all, Cond.selects RX2 yX2_all yX2_all, Cond.code yX2_all cX2_all 1 (some .long), Cond.fieldLink RX2 22 "TwoBanks$Grid" "all" "J", Cond.methodLink RX1 67 yJ13_bitCount_95d88, Cond.static yJ13_bitCount_95d88, Cond.initialized RJ13, Cond.code yJ13_bitCount_95d88 cJ13_bitCount_95d88 2 (some .int), Cond.constantLong RJ13 314 (6148914691236517205), Cond.constantLong RJ13 316 (3689348814741910323), Cond.constantLong RJ13 318 (1085102592571150095), Cond.methodLink RX1 92 yX3_forget]
def wsX1_ask_r3 : List Cond := [Cond.instanceMethod yX3_forget, Cond.selects RX3 yX3_forget yX3_forget, Cond.initialized RX3, Cond.code yX3_forget cX3_forget 1 none, Cond.fieldLink RX3 13 "TwoBanks$Marks" "words" "[J", Cond.methodLink RX3 19 yJ7_fill_d0a16, Cond.static yJ7_fill_d0a16, Cond.initialized RJ7, Cond.code yJ7_fill_d0a16 cJ7_fill_d0a16 5 none, Cond.methodLink RX1 95 yX2_spread, Cond.instanceMethod yX2_spread, Cond.selects RX2 yX2_spread yX2_spread, Cond.code yX2_spread cX2_spread 10 (some .long), Cond.methodLink RX2 40 yX2_beside, Cond.instanceMethod yX2_beside, Cond.selects RX2 yX2_beside yX2_beside, Cond.code yX2_beside cX2_beside 13 (some .long), Cond.fieldLink RX2 35 "TwoBanks$Grid" "eastBank" "J", Cond.constantLong RX2 38 (-1), Cond.fieldLink RX2 32 "TwoBanks$Grid" "westBank" "J", Cond.methodLink RX1 99 yX3_mark, Cond.instanceMethod yX3_mark, Cond.selects RX3 yX3_mark yX3_mark, Cond.code yX3_mark cX3_mark 3 none]
def wsX1_ask_r4 : List Cond := [Cond.static yX5_bit, Cond.initialized RX5, Cond.code yX5_bit cX5_bit 1 (some .long)]
def wsX1_ask : List Cond := .code yX1_ask cX1_ask 12 none :: ((wsX1_ask_r1 ++ (wsX1_ask_r2 ++ (wsX1_ask_r3 ++ wsX1_ask_r4))) ++ wsX10 ++ wsX20 ++ wsX30)
def wsX1_reachedFillings : List Cond := .code yX1_reachedFillings cX1_reachedFillings 1 (some .int) :: ([.fieldLink RX1 85 "TwoBanks$Fight" "reachedCount" "I"] ++ wsX10)
def wsX3_has : List Cond := .code yX3_has cX3_has 3 (some .boolean) :: ([.fieldLink RX3 13 "TwoBanks$Marks" "words" "[J", .static yX5_bit, .initialized RX5, .code yX5_bit cX5_bit 1 (some .long)] ++ wsX30)
def wsX1_holds : List Cond := .code yX1_holds cX1_holds 11 (some .boolean) :: ([.fieldLink RX1 14 "TwoBanks$Fight" "reached" "LTwoBanks$Marks;", .fieldLink RX1 82 "TwoBanks$Fight" "full" "I", .fieldLink RX1 21 "TwoBanks$Fight" "won" "LTwoBanks$Marks;", .fieldLink RX1 24 "TwoBanks$Fight" "lost" "LTwoBanks$Marks;", .fieldLink RX1 79 "TwoBanks$Fight" "spotCount" "I", .methodLink RX1 118 yX3_has, .instanceMethod yX3_has, .selects RX3 yX3_has yX3_has, .initialized RX3, .code yX3_has cX3_has 3 (some .boolean), .fieldLink RX3 13 "TwoBanks$Marks" "words" "[J", .static yX5_bit, .initialized RX5, .code yX5_bit cX5_bit 1 (some .long), .methodLink RX1 102 yX1_holds, .static yX1_holds, .initialized RX1, .methodLink RX1 99 yX3_mark, .instanceMethod yX3_mark, .selects RX3 yX3_mark yX3_mark, .code yX3_mark cX3_mark 3 none] ++ wsX10 ++ wsX30)
def wsX1_makerWins : List Cond := .code yX1_makerWins cX1_makerWins 2 (some .boolean) :: ([.fieldLink RX1 79 "TwoBanks$Fight" "spotCount" "I", .methodLink RX1 102 yX1_holds, .static yX1_holds, .initialized RX1, .code yX1_holds cX1_holds 11 (some .boolean), .fieldLink RX1 14 "TwoBanks$Fight" "reached" "LTwoBanks$Marks;", .fieldLink RX1 82 "TwoBanks$Fight" "full" "I", .fieldLink RX1 21 "TwoBanks$Fight" "won" "LTwoBanks$Marks;", .fieldLink RX1 24 "TwoBanks$Fight" "lost" "LTwoBanks$Marks;", .methodLink RX1 118 yX3_has, .instanceMethod yX3_has, .selects RX3 yX3_has yX3_has, .initialized RX3, .code yX3_has cX3_has 3 (some .boolean), .fieldLink RX3 13 "TwoBanks$Marks" "words" "[J", .static yX5_bit, .initialized RX5, .code yX5_bit cX5_bit 1 (some .long), .methodLink RX1 99 yX3_mark, .instanceMethod yX3_mark, .selects RX3 yX3_mark yX3_mark, .code yX3_mark cX3_mark 3 none] ++ wsX10 ++ wsX30)
def wsX1_strength_r1 : List Cond := [Cond.methodLink RX1 106 yX1_makerWins, Cond.instanceMethod yX1_makerWins, Cond.selects RX1 yX1_makerWins yX1_makerWins, Cond.initialized RX1, Cond.code yX1_makerWins cX1_makerWins 2 (some .boolean), Cond.fieldLink RX1 79 "TwoBanks$Fight" "spotCount" "I", Cond.methodLink RX1 102 yX1_holds, Cond.static yX1_holds, Cond.code yX1_holds cX1_holds 11 (some .boolean), Cond.fieldLink RX1 14 "TwoBanks$Fight" "reached" "LTwoBanks$Marks;", Cond.fieldLink RX1 82 "TwoBanks$Fight" "full" "I", Cond.fieldLink RX1 21 "TwoBanks$Fight" "won" "LTwoBanks$Marks;", Cond.fieldLink RX1 24 "TwoBanks$Fight" "lost" "LTwoBanks$Marks;", Cond.methodLink RX1 118 yX3_has, Cond.instanceMethod yX3_has, Cond.selects RX3 yX3_has yX3_has, Cond.initialized RX3, Cond.code yX3_has cX3_has 3 (some .boolean), Cond.fieldLink RX3 13 "TwoBanks$Marks" "words" "[J", Cond.static yX5_bit, Cond.initialized RX5, Cond.code yX5_bit cX5_bit 1 (some .long), Cond.methodLink RX1 99 yX3_mark, Cond.instanceMethod yX3_mark]
def wsX1_strength_r2 : List Cond := [Cond.selects RX3 yX3_mark yX3_mark, Cond.code yX3_mark cX3_mark 3 none]
def wsX1_strength : List Cond := .code yX1_strength cX1_strength 1 (some .int) :: ((wsX1_strength_r1 ++ wsX1_strength_r2) ++ wsX10 ++ wsX30)
def wsX1_winsAt : List Cond := .code yX1_winsAt cX1_winsAt 4 (some .boolean) :: ([.fieldLink RX1 79 "TwoBanks$Fight" "spotCount" "I", .methodLink RX1 102 yX1_holds, .static yX1_holds, .initialized RX1, .code yX1_holds cX1_holds 11 (some .boolean), .fieldLink RX1 14 "TwoBanks$Fight" "reached" "LTwoBanks$Marks;", .fieldLink RX1 82 "TwoBanks$Fight" "full" "I", .fieldLink RX1 21 "TwoBanks$Fight" "won" "LTwoBanks$Marks;", .fieldLink RX1 24 "TwoBanks$Fight" "lost" "LTwoBanks$Marks;", .methodLink RX1 118 yX3_has, .instanceMethod yX3_has, .selects RX3 yX3_has yX3_has, .initialized RX3, .code yX3_has cX3_has 3 (some .boolean), .fieldLink RX3 13 "TwoBanks$Marks" "words" "[J", .static yX5_bit, .initialized RX5, .code yX5_bit cX5_bit 1 (some .long), .methodLink RX1 99 yX3_mark, .instanceMethod yX3_mark, .selects RX3 yX3_mark yX3_mark, .code yX3_mark cX3_mark 3 none] ++ wsX10 ++ wsX30)
def wsX1_winningField_r1 : List Cond := [Cond.fieldLink RX1 79 "TwoBanks$Fight" "spotCount" "I", Cond.fieldLink RX1 64 "TwoBanks$Fight" "spots" "J", Cond.static yX5_bit, Cond.initialized RX5, Cond.code yX5_bit cX5_bit 1 (some .long), Cond.methodLink RX1 114 yX1_winsAt, Cond.instanceMethod yX1_winsAt, Cond.selects RX1 yX1_winsAt yX1_winsAt, Cond.initialized RX1, Cond.code yX1_winsAt cX1_winsAt 4 (some .boolean), Cond.methodLink RX1 102 yX1_holds, Cond.static yX1_holds, Cond.code yX1_holds cX1_holds 11 (some .boolean), Cond.fieldLink RX1 14 "TwoBanks$Fight" "reached" "LTwoBanks$Marks;", Cond.fieldLink RX1 82 "TwoBanks$Fight" "full" "I", Cond.fieldLink RX1 21 "TwoBanks$Fight" "won" "LTwoBanks$Marks;", Cond.fieldLink RX1 24 "TwoBanks$Fight" "lost" "LTwoBanks$Marks;", Cond.methodLink RX1 118 yX3_has, Cond.instanceMethod yX3_has, Cond.selects RX3 yX3_has yX3_has, Cond.initialized RX3, Cond.code yX3_has cX3_has 3 (some .boolean), Cond.fieldLink RX3 13 "TwoBanks$Marks" "words" "[J", Cond.methodLink RX1 99 yX3_mark]
def wsX1_winningField_r2 : List Cond := [Cond.instanceMethod yX3_mark, Cond.selects RX3 yX3_mark yX3_mark, Cond.code yX3_mark cX3_mark 3 none]
def wsX1_winningField : List Cond := .code yX1_winningField cX1_winningField 7 (some .int) :: ((wsX1_winningField_r1 ++ wsX1_winningField_r2) ++ wsX10 ++ wsX30)
def wsX1_neverMatters : List Cond := .code yX1_neverMatters cX1_neverMatters 3 (some .boolean) :: ([.fieldLink RX1 82 "TwoBanks$Fight" "full" "I", .fieldLink RX1 14 "TwoBanks$Fight" "reached" "LTwoBanks$Marks;", .methodLink RX1 118 yX3_has, .instanceMethod yX3_has, .selects RX3 yX3_has yX3_has, .initialized RX3, .code yX3_has cX3_has 3 (some .boolean), .fieldLink RX3 13 "TwoBanks$Marks" "words" "[J", .static yX5_bit, .initialized RX5, .code yX5_bit cX5_bit 1 (some .long)] ++ wsX10 ++ wsX30)
def wsX1_findDead : List Cond := .code yX1_findDead cX1_findDead 3 none :: ([.fieldLink RX1 125 "TwoBanks$Fight" "deadSpots" "J", .fieldLink RX1 88 "TwoBanks$Fight" "deadKnown" "Z", .fieldLink RX1 79 "TwoBanks$Fight" "spotCount" "I", .fieldLink RX1 64 "TwoBanks$Fight" "spots" "J", .static yX5_bit, .initialized RX5, .code yX5_bit cX5_bit 1 (some .long), .methodLink RX1 128 yX1_neverMatters, .instanceMethod yX1_neverMatters, .selects RX1 yX1_neverMatters yX1_neverMatters, .initialized RX1, .code yX1_neverMatters cX1_neverMatters 3 (some .boolean), .fieldLink RX1 82 "TwoBanks$Fight" "full" "I", .fieldLink RX1 14 "TwoBanks$Fight" "reached" "LTwoBanks$Marks;", .methodLink RX1 118 yX3_has, .instanceMethod yX3_has, .selects RX3 yX3_has yX3_has, .initialized RX3, .code yX3_has cX3_has 3 (some .boolean), .fieldLink RX3 13 "TwoBanks$Marks" "words" "[J"] ++ wsX10 ++ wsX30)
def wsX1_deadFields : List Cond := .code yX1_deadFields cX1_deadFields 1 (some .long) :: ([.fieldLink RX1 88 "TwoBanks$Fight" "deadKnown" "Z", .fieldLink RX1 125 "TwoBanks$Fight" "deadSpots" "J", .methodLink RX1 122 yX1_findDead, .instanceMethod yX1_findDead, .selects RX1 yX1_findDead yX1_findDead, .initialized RX1, .code yX1_findDead cX1_findDead 3 none, .fieldLink RX1 79 "TwoBanks$Fight" "spotCount" "I", .fieldLink RX1 64 "TwoBanks$Fight" "spots" "J", .static yX5_bit, .initialized RX5, .code yX5_bit cX5_bit 1 (some .long), .methodLink RX1 128 yX1_neverMatters, .instanceMethod yX1_neverMatters, .selects RX1 yX1_neverMatters yX1_neverMatters, .code yX1_neverMatters cX1_neverMatters 3 (some .boolean), .fieldLink RX1 82 "TwoBanks$Fight" "full" "I", .fieldLink RX1 14 "TwoBanks$Fight" "reached" "LTwoBanks$Marks;", .methodLink RX1 118 yX3_has, .instanceMethod yX3_has, .selects RX3 yX3_has yX3_has, .initialized RX3, .code yX3_has cX3_has 3 (some .boolean), .fieldLink RX3 13 "TwoBanks$Marks" "words" "[J"] ++ wsX10 ++ wsX30)
def wsX2_init : List Cond := .code yX2_init cX2_init 1 none :: ([.methodLink RX2 3 objectInit, .instanceMethod objectInit, .code objectInit ⟨#[0xb1]⟩ 1 none])
def wsX2_shape : List Cond := .code yX2_shape cX2_shape 4 none :: ([.fieldLink RX2 9 "TwoBanks$Grid" "rows" "I", .fieldLink RX2 15 "TwoBanks$Grid" "columns" "I", .fieldLink RX2 22 "TwoBanks$Grid" "all" "J", .fieldLink RX2 26 "TwoBanks$Grid" "northBank" "J", .fieldLink RX2 29 "TwoBanks$Grid" "southBank" "J", .fieldLink RX2 32 "TwoBanks$Grid" "westBank" "J", .fieldLink RX2 35 "TwoBanks$Grid" "eastBank" "J", .static yX5_bit, .initialized RX5, .code yX5_bit cX5_bit 1 (some .long)] ++ wsX20)
def wsX2_northBank : List Cond := .code yX2_northBank cX2_northBank 1 (some .long) :: ([.fieldLink RX2 26 "TwoBanks$Grid" "northBank" "J"] ++ wsX20)
def wsX2_southBank : List Cond := .code yX2_southBank cX2_southBank 1 (some .long) :: ([.fieldLink RX2 29 "TwoBanks$Grid" "southBank" "J"] ++ wsX20)
def wsX2_westBank : List Cond := .code yX2_westBank cX2_westBank 1 (some .long) :: ([.fieldLink RX2 32 "TwoBanks$Grid" "westBank" "J"] ++ wsX20)
def wsX2_eastBank : List Cond := .code yX2_eastBank cX2_eastBank 1 (some .long) :: ([.fieldLink RX2 35 "TwoBanks$Grid" "eastBank" "J"] ++ wsX20)
def wsX2_has : List Cond := .code yX2_has cX2_has 2 (some .boolean) :: ([.fieldLink RX2 9 "TwoBanks$Grid" "rows" "I", .fieldLink RX2 15 "TwoBanks$Grid" "columns" "I"] ++ wsX20)
def wsX2_joins : List Cond := .code yX2_joins cX2_joins 7 (some .boolean) :: ([.methodLink RX2 44 yX2_spread, .instanceMethod yX2_spread, .selects RX2 yX2_spread yX2_spread, .initialized RX2, .code yX2_spread cX2_spread 10 (some .long), .methodLink RX2 40 yX2_beside, .instanceMethod yX2_beside, .selects RX2 yX2_beside yX2_beside, .code yX2_beside cX2_beside 13 (some .long), .fieldLink RX2 35 "TwoBanks$Grid" "eastBank" "J", .constantLong RX2 38 (-1), .fieldLink RX2 32 "TwoBanks$Grid" "westBank" "J", .fieldLink RX2 15 "TwoBanks$Grid" "columns" "I", .fieldLink RX2 22 "TwoBanks$Grid" "all" "J"] ++ wsX20)
def wsX2_groupsOf : List Cond := .code yX2_groupsOf cX2_groupsOf 7 (some .int) :: ([.constantLong RX2 38 (-1), .methodLink RX2 44 yX2_spread, .instanceMethod yX2_spread, .selects RX2 yX2_spread yX2_spread, .initialized RX2, .code yX2_spread cX2_spread 10 (some .long), .methodLink RX2 40 yX2_beside, .instanceMethod yX2_beside, .selects RX2 yX2_beside yX2_beside, .code yX2_beside cX2_beside 13 (some .long), .fieldLink RX2 35 "TwoBanks$Grid" "eastBank" "J", .fieldLink RX2 32 "TwoBanks$Grid" "westBank" "J", .fieldLink RX2 15 "TwoBanks$Grid" "columns" "I", .fieldLink RX2 22 "TwoBanks$Grid" "all" "J"] ++ wsX20)
def wsX2_banksOf : List Cond := .code yX2_banksOf cX2_banksOf 4 (some .int) :: ([.fieldLink RX2 26 "TwoBanks$Grid" "northBank" "J", .fieldLink RX2 29 "TwoBanks$Grid" "southBank" "J", .fieldLink RX2 32 "TwoBanks$Grid" "westBank" "J", .fieldLink RX2 35 "TwoBanks$Grid" "eastBank" "J"] ++ wsX20)
def wsX2_turned : List Cond := .code yX2_turned cX2_turned 7 (some .long) :: ([.fieldLink RX2 9 "TwoBanks$Grid" "rows" "I", .fieldLink RX2 15 "TwoBanks$Grid" "columns" "I", .static yX5_bit, .initialized RX5, .code yX5_bit cX5_bit 1 (some .long)] ++ wsX20)
def wsX4_init : List Cond := .code yX4_init cX4_init 1 none :: ([.methodLink RX4 3 objectInit, .instanceMethod objectInit, .code objectInit ⟨#[0xb1]⟩ 1 none, .arrayClass .long, .fieldLink RX4 9 "TwoBanks$Path" "layers" "[J", .arrayClass .int, .fieldLink RX4 15 "TwoBanks$Path" "fields" "[I"] ++ wsX40)
def wsX4_forget : List Cond := .code yX4_forget cX4_forget 1 none :: ([.fieldLink RX4 19 "TwoBanks$Path" "length" "I"] ++ wsX40)
def wsX4_length : List Cond := .code yX4_length cX4_length 1 (some .int) :: ([.fieldLink RX4 19 "TwoBanks$Path" "length" "I"] ++ wsX40)
def wsX4_field : List Cond := .code yX4_field cX4_field 2 (some .int) :: ([.fieldLink RX4 19 "TwoBanks$Path" "length" "I", .fieldLink RX4 15 "TwoBanks$Path" "fields" "[I"] ++ wsX40)
def wsX5_lowest : List Cond := .code yX5_lowest cX5_lowest 2 (some .int) :: ([.methodLink RX5 129 yJ13_bitCount_95d88, .static yJ13_bitCount_95d88, .initialized RJ13, .code yJ13_bitCount_95d88 cJ13_bitCount_95d88 2 (some .int), .constantLong RJ13 314 (6148914691236517205), .constantLong RJ13 316 (3689348814741910323), .constantLong RJ13 318 (1085102592571150095)])
def wsX4_trace_r1 : List Cond := [Cond.fieldLink RX4 9 "TwoBanks$Path" "layers" "[J", Cond.fieldLink RX4 19 "TwoBanks$Path" "length" "I", Cond.fieldLink RX4 15 "TwoBanks$Path" "fields" "[I", Cond.static yX5_lowest, Cond.initialized RX5, Cond.code yX5_lowest cX5_lowest 2 (some .int), Cond.methodLink RX5 129 yJ13_bitCount_95d88, Cond.static yJ13_bitCount_95d88, Cond.initialized RJ13, Cond.code yJ13_bitCount_95d88 cJ13_bitCount_95d88 2 (some .int), Cond.constantLong RJ13 314 (6148914691236517205), Cond.constantLong RJ13 316 (3689348814741910323), Cond.constantLong RJ13 318 (1085102592571150095), Cond.static yX5_bit, Cond.code yX5_bit cX5_bit 1 (some .long), Cond.methodLink RX4 30 yX2_beside, Cond.instanceMethod yX2_beside, Cond.selects RX2 yX2_beside yX2_beside, Cond.initialized RX2, Cond.code yX2_beside cX2_beside 13 (some .long), Cond.fieldLink RX2 35 "TwoBanks$Grid" "eastBank" "J", Cond.constantLong RX2 38 (-1), Cond.fieldLink RX2 32 "TwoBanks$Grid" "westBank" "J", Cond.fieldLink RX2 15 "TwoBanks$Grid" "columns" "I"]
def wsX4_trace_r2 : List Cond := [Cond.fieldLink RX2 22 "TwoBanks$Grid" "all" "J"]
def wsX4_trace : List Cond := .code yX4_trace cX4_trace 9 none :: ((wsX4_trace_r1 ++ wsX4_trace_r2) ++ wsX40 ++ wsX20)
def wsX4_find_r1 : List Cond := [Cond.fieldLink RX4 9 "TwoBanks$Path" "layers" "[J", Cond.constantLong RX4 36 (-1), Cond.methodLink RX4 23 yX4_forget, Cond.instanceMethod yX4_forget, Cond.selects RX4 yX4_forget yX4_forget, Cond.initialized RX4, Cond.code yX4_forget cX4_forget 1 none, Cond.fieldLink RX4 19 "TwoBanks$Path" "length" "I", Cond.methodLink RX4 26 yX4_trace, Cond.instanceMethod yX4_trace, Cond.selects RX4 yX4_trace yX4_trace, Cond.code yX4_trace cX4_trace 9 none, Cond.fieldLink RX4 15 "TwoBanks$Path" "fields" "[I", Cond.static yX5_lowest, Cond.initialized RX5, Cond.code yX5_lowest cX5_lowest 2 (some .int), Cond.methodLink RX5 129 yJ13_bitCount_95d88, Cond.static yJ13_bitCount_95d88, Cond.initialized RJ13, Cond.code yJ13_bitCount_95d88 cJ13_bitCount_95d88 2 (some .int), Cond.constantLong RJ13 314 (6148914691236517205), Cond.constantLong RJ13 316 (3689348814741910323), Cond.constantLong RJ13 318 (1085102592571150095), Cond.static yX5_bit]
def wsX4_find_r2 : List Cond := [Cond.code yX5_bit cX5_bit 1 (some .long), Cond.methodLink RX4 30 yX2_beside, Cond.instanceMethod yX2_beside, Cond.selects RX2 yX2_beside yX2_beside, Cond.initialized RX2, Cond.code yX2_beside cX2_beside 13 (some .long), Cond.fieldLink RX2 35 "TwoBanks$Grid" "eastBank" "J", Cond.constantLong RX2 38 (-1), Cond.fieldLink RX2 32 "TwoBanks$Grid" "westBank" "J", Cond.fieldLink RX2 15 "TwoBanks$Grid" "columns" "I", Cond.fieldLink RX2 22 "TwoBanks$Grid" "all" "J"]
def wsX4_find : List Cond := .code yX4_find cX4_find 13 none :: ((wsX4_find_r1 ++ wsX4_find_r2) ++ wsX40 ++ wsX20)
def wsX5_makeEmpty_r1 : List Cond := [Cond.fieldLink RX5 12 "TwoBanks" "grid" "LTwoBanks$Grid;", Cond.fieldLink RX5 115 "TwoBanks" "north" "J", Cond.fieldLink RX5 107 "TwoBanks" "west" "J", Cond.fieldLink RX5 57 "TwoBanks" "toLay" "I", Cond.fieldLink RX5 61 "TwoBanks" "untouched" "Z", Cond.fieldLink RX5 19 "TwoBanks" "deeds" "LTwoBanks$Deeds;", Cond.methodLink RX5 118 yX2_shape, Cond.instanceMethod yX2_shape, Cond.selects RX2 yX2_shape yX2_shape, Cond.initialized RX2, Cond.code yX2_shape cX2_shape 4 none, Cond.fieldLink RX2 9 "TwoBanks$Grid" "rows" "I", Cond.fieldLink RX2 15 "TwoBanks$Grid" "columns" "I", Cond.fieldLink RX2 22 "TwoBanks$Grid" "all" "J", Cond.fieldLink RX2 26 "TwoBanks$Grid" "northBank" "J", Cond.fieldLink RX2 29 "TwoBanks$Grid" "southBank" "J", Cond.fieldLink RX2 32 "TwoBanks$Grid" "westBank" "J", Cond.fieldLink RX2 35 "TwoBanks$Grid" "eastBank" "J", Cond.static yX5_bit, Cond.initialized RX5, Cond.code yX5_bit cX5_bit 1 (some .long), Cond.methodLink RX5 65 yX0_forget, Cond.instanceMethod yX0_forget, Cond.selects RX0 yX0_forget yX0_forget]
def wsX5_makeEmpty_r2 : List Cond := [Cond.initialized RX0, Cond.code yX0_forget cX0_forget 1 none, Cond.fieldLink RX0 15 "TwoBanks$Deeds" "done" "I", Cond.fieldLink RX0 19 "TwoBanks$Deeds" "known" "I"]
def wsX5_makeEmpty : List Cond := .code yX5_makeEmpty cX5_makeEmpty 3 none :: ((wsX5_makeEmpty_r1 ++ wsX5_makeEmpty_r2) ++ wsX50 ++ wsX20 ++ wsX00)
def wsX5_init_r1 : List Cond := [Cond.methodLink RX5 3 objectInit, Cond.instanceMethod objectInit, Cond.code objectInit ⟨#[0xb1]⟩ 1 none, Cond.classLink RX5 9 RX2, Cond.instantiable RX2 7, Cond.initialized RX2, Cond.fieldLink RX5 12 "TwoBanks" "grid" "LTwoBanks$Grid;", Cond.classLink RX5 16 RX0, Cond.instantiable RX0 3, Cond.initialized RX0, Cond.fieldLink RX5 19 "TwoBanks" "deeds" "LTwoBanks$Deeds;", Cond.classLink RX5 23 RX4, Cond.instantiable RX4 3, Cond.initialized RX4, Cond.fieldLink RX5 26 "TwoBanks" "path" "LTwoBanks$Path;", Cond.classLink RX5 30 RX1, Cond.instantiable RX1 15, Cond.initialized RX1, Cond.fieldLink RX5 33 "TwoBanks" "bankFight" "LTwoBanks$Fight;", Cond.fieldLink RX5 37 "TwoBanks" "linkFight" "LTwoBanks$Fight;", Cond.instanceMethod yX2_init, Cond.code yX2_init cX2_init 1 none, Cond.methodLink RX2 3 objectInit, Cond.instanceMethod yX0_init]
def wsX5_init_r2 : List Cond := [Cond.code yX0_init cX0_init 1 none, Cond.methodLink RX0 3 objectInit, Cond.arrayClass .int, Cond.fieldLink RX0 9 "TwoBanks$Deeds" "row" "[I", Cond.instanceMethod yX4_init, Cond.code yX4_init cX4_init 1 none, Cond.methodLink RX4 3 objectInit, Cond.arrayClass .long, Cond.fieldLink RX4 9 "TwoBanks$Path" "layers" "[J", Cond.fieldLink RX4 15 "TwoBanks$Path" "fields" "[I", Cond.instanceMethod yX1_init, Cond.code yX1_init cX1_init 1 none, Cond.methodLink RX1 3 objectInit, Cond.classLink RX1 9 RX3, Cond.instantiable RX3 1, Cond.initialized RX3, Cond.fieldLink RX1 14 "TwoBanks$Fight" "reached" "LTwoBanks$Marks;", Cond.constant RX1 20 (118098), Cond.fieldLink RX1 21 "TwoBanks$Fight" "won" "LTwoBanks$Marks;", Cond.fieldLink RX1 24 "TwoBanks$Fight" "lost" "LTwoBanks$Marks;", Cond.methodLink RX1 11 yX3_init, Cond.instanceMethod yX3_init, Cond.code yX3_init cX3_init 2 none, Cond.methodLink RX3 1 objectInit]
def wsX5_init_r3 : List Cond := [Cond.methodLink RX3 7 Lib.Math.max.name, Cond.static Lib.Math.max.name, Cond.initialized "java/lang/Math", Cond.code Lib.Math.max.name Lib.Math.max.code 2 (some .int), Cond.fieldLink RX3 13 "TwoBanks$Marks" "words" "[J", Cond.methodLink RX5 40 yX5_makeEmpty, Cond.instanceMethod yX5_makeEmpty, Cond.selects RX5 yX5_makeEmpty yX5_makeEmpty, Cond.initialized RX5, Cond.code yX5_makeEmpty cX5_makeEmpty 3 none, Cond.fieldLink RX5 115 "TwoBanks" "north" "J", Cond.fieldLink RX5 107 "TwoBanks" "west" "J", Cond.fieldLink RX5 57 "TwoBanks" "toLay" "I", Cond.fieldLink RX5 61 "TwoBanks" "untouched" "Z", Cond.methodLink RX5 118 yX2_shape, Cond.instanceMethod yX2_shape, Cond.selects RX2 yX2_shape yX2_shape, Cond.code yX2_shape cX2_shape 4 none, Cond.fieldLink RX2 9 "TwoBanks$Grid" "rows" "I", Cond.fieldLink RX2 15 "TwoBanks$Grid" "columns" "I", Cond.fieldLink RX2 22 "TwoBanks$Grid" "all" "J", Cond.fieldLink RX2 26 "TwoBanks$Grid" "northBank" "J", Cond.fieldLink RX2 29 "TwoBanks$Grid" "southBank" "J", Cond.fieldLink RX2 32 "TwoBanks$Grid" "westBank" "J"]
def wsX5_init_r4 : List Cond := [Cond.fieldLink RX2 35 "TwoBanks$Grid" "eastBank" "J", Cond.static yX5_bit, Cond.code yX5_bit cX5_bit 1 (some .long), Cond.methodLink RX5 65 yX0_forget, Cond.instanceMethod yX0_forget, Cond.selects RX0 yX0_forget yX0_forget, Cond.code yX0_forget cX0_forget 1 none, Cond.fieldLink RX0 15 "TwoBanks$Deeds" "done" "I", Cond.fieldLink RX0 19 "TwoBanks$Deeds" "known" "I"]
def wsX5_init : List Cond := .code yX5_init cX5_init 1 none :: ((wsX5_init_r1 ++ (wsX5_init_r2 ++ (wsX5_init_r3 ++ wsX5_init_r4))) ++ wsX20 ++ wsX50 ++ wsX00 ++ wsX40 ++ wsX10 ++ wsX30)
def wsX5_isSide : List Cond := .code yX5_isSide cX5_isSide 1 (some .boolean) :: ([])
def wsX5_board_r1 : List Cond := [Cond.methodLink RX5 44 yX5_isSide, Cond.static yX5_isSide, Cond.initialized RX5, Cond.code yX5_isSide cX5_isSide 1 (some .boolean), Cond.methodLink RX5 40 yX5_makeEmpty, Cond.instanceMethod yX5_makeEmpty, Cond.selects RX5 yX5_makeEmpty yX5_makeEmpty, Cond.code yX5_makeEmpty cX5_makeEmpty 3 none, Cond.fieldLink RX5 12 "TwoBanks" "grid" "LTwoBanks$Grid;", Cond.fieldLink RX5 115 "TwoBanks" "north" "J", Cond.fieldLink RX5 107 "TwoBanks" "west" "J", Cond.fieldLink RX5 57 "TwoBanks" "toLay" "I", Cond.fieldLink RX5 61 "TwoBanks" "untouched" "Z", Cond.fieldLink RX5 19 "TwoBanks" "deeds" "LTwoBanks$Deeds;", Cond.methodLink RX5 118 yX2_shape, Cond.instanceMethod yX2_shape, Cond.selects RX2 yX2_shape yX2_shape, Cond.initialized RX2, Cond.code yX2_shape cX2_shape 4 none, Cond.fieldLink RX2 9 "TwoBanks$Grid" "rows" "I", Cond.fieldLink RX2 15 "TwoBanks$Grid" "columns" "I", Cond.fieldLink RX2 22 "TwoBanks$Grid" "all" "J", Cond.fieldLink RX2 26 "TwoBanks$Grid" "northBank" "J", Cond.fieldLink RX2 29 "TwoBanks$Grid" "southBank" "J"]
def wsX5_board_r2 : List Cond := [Cond.fieldLink RX2 32 "TwoBanks$Grid" "westBank" "J", Cond.fieldLink RX2 35 "TwoBanks$Grid" "eastBank" "J", Cond.static yX5_bit, Cond.code yX5_bit cX5_bit 1 (some .long), Cond.methodLink RX5 65 yX0_forget, Cond.instanceMethod yX0_forget, Cond.selects RX0 yX0_forget yX0_forget, Cond.initialized RX0, Cond.code yX0_forget cX0_forget 1 none, Cond.fieldLink RX0 15 "TwoBanks$Deeds" "done" "I", Cond.fieldLink RX0 19 "TwoBanks$Deeds" "known" "I"]
def wsX5_board : List Cond := .code yX5_board cX5_board 3 (some .boolean) :: ((wsX5_board_r1 ++ wsX5_board_r2) ++ wsX50 ++ wsX20 ++ wsX00)
def wsX5_isColour : List Cond := .code yX5_isColour cX5_isColour 1 (some .boolean) :: ([])
def wsX5_put : List Cond := .code yX5_put cX5_put 3 none :: ([.fieldLink RX5 115 "TwoBanks" "north" "J", .constantLong RX5 197 (-1), .fieldLink RX5 107 "TwoBanks" "west" "J", .methodLink RX5 171 yX5_bit, .static yX5_bit, .initialized RX5, .code yX5_bit cX5_bit 1 (some .long)] ++ wsX50)
def wsX5_set_r1 : List Cond := [Cond.fieldLink RX5 12 "TwoBanks" "grid" "LTwoBanks$Grid;", Cond.fieldLink RX5 57 "TwoBanks" "toLay" "I", Cond.fieldLink RX5 61 "TwoBanks" "untouched" "Z", Cond.fieldLink RX5 19 "TwoBanks" "deeds" "LTwoBanks$Deeds;", Cond.methodLink RX5 48 yX5_isColour, Cond.static yX5_isColour, Cond.initialized RX5, Cond.code yX5_isColour cX5_isColour 1 (some .boolean), Cond.methodLink RX5 51 yX2_has, Cond.instanceMethod yX2_has, Cond.selects RX2 yX2_has yX2_has, Cond.initialized RX2, Cond.code yX2_has cX2_has 2 (some .boolean), Cond.fieldLink RX2 9 "TwoBanks$Grid" "rows" "I", Cond.fieldLink RX2 15 "TwoBanks$Grid" "columns" "I", Cond.methodLink RX5 54 yX5_put, Cond.instanceMethod yX5_put, Cond.selects RX5 yX5_put yX5_put, Cond.code yX5_put cX5_put 3 none, Cond.fieldLink RX5 115 "TwoBanks" "north" "J", Cond.constantLong RX5 197 (-1), Cond.fieldLink RX5 107 "TwoBanks" "west" "J", Cond.methodLink RX5 171 yX5_bit, Cond.static yX5_bit]
def wsX5_set_r2 : List Cond := [Cond.code yX5_bit cX5_bit 1 (some .long), Cond.methodLink RX5 65 yX0_forget, Cond.instanceMethod yX0_forget, Cond.selects RX0 yX0_forget yX0_forget, Cond.initialized RX0, Cond.code yX0_forget cX0_forget 1 none, Cond.fieldLink RX0 15 "TwoBanks$Deeds" "done" "I", Cond.fieldLink RX0 19 "TwoBanks$Deeds" "known" "I"]
def wsX5_set : List Cond := .code yX5_set cX5_set 5 (some .boolean) :: ((wsX5_set_r1 ++ wsX5_set_r2) ++ wsX50 ++ wsX20 ++ wsX00)
def wsX5_stoneAt : List Cond := .code yX5_stoneAt cX5_stoneAt 2 (some .int) :: ([.fieldLink RX5 115 "TwoBanks" "north" "J", .fieldLink RX5 107 "TwoBanks" "west" "J", .methodLink RX5 171 yX5_bit, .static yX5_bit, .initialized RX5, .code yX5_bit cX5_bit 1 (some .long)] ++ wsX50)
def wsX5_whoJoined_r1 : List Cond := [Cond.fieldLink RX5 12 "TwoBanks" "grid" "LTwoBanks$Grid;", Cond.fieldLink RX5 115 "TwoBanks" "north" "J", Cond.fieldLink RX5 107 "TwoBanks" "west" "J", Cond.methodLink RX5 209 yX2_northBank, Cond.instanceMethod yX2_northBank, Cond.selects RX2 yX2_northBank yX2_northBank, Cond.initialized RX2, Cond.code yX2_northBank cX2_northBank 1 (some .long), Cond.fieldLink RX2 26 "TwoBanks$Grid" "northBank" "J", Cond.methodLink RX5 212 yX2_southBank, Cond.instanceMethod yX2_southBank, Cond.selects RX2 yX2_southBank yX2_southBank, Cond.code yX2_southBank cX2_southBank 1 (some .long), Cond.fieldLink RX2 29 "TwoBanks$Grid" "southBank" "J", Cond.methodLink RX5 215 yX2_joins, Cond.instanceMethod yX2_joins, Cond.selects RX2 yX2_joins yX2_joins, Cond.code yX2_joins cX2_joins 7 (some .boolean), Cond.methodLink RX2 44 yX2_spread, Cond.instanceMethod yX2_spread, Cond.selects RX2 yX2_spread yX2_spread, Cond.code yX2_spread cX2_spread 10 (some .long), Cond.methodLink RX2 40 yX2_beside, Cond.instanceMethod yX2_beside]
def wsX5_whoJoined_r2 : List Cond := [Cond.selects RX2 yX2_beside yX2_beside, Cond.code yX2_beside cX2_beside 13 (some .long), Cond.fieldLink RX2 35 "TwoBanks$Grid" "eastBank" "J", Cond.constantLong RX2 38 (-1), Cond.fieldLink RX2 32 "TwoBanks$Grid" "westBank" "J", Cond.fieldLink RX2 15 "TwoBanks$Grid" "columns" "I", Cond.fieldLink RX2 22 "TwoBanks$Grid" "all" "J", Cond.methodLink RX5 219 yX2_westBank, Cond.instanceMethod yX2_westBank, Cond.selects RX2 yX2_westBank yX2_westBank, Cond.code yX2_westBank cX2_westBank 1 (some .long), Cond.methodLink RX5 222 yX2_eastBank, Cond.instanceMethod yX2_eastBank, Cond.selects RX2 yX2_eastBank yX2_eastBank, Cond.code yX2_eastBank cX2_eastBank 1 (some .long)]
def wsX5_whoJoined : List Cond := .code yX5_whoJoined cX5_whoJoined 1 (some .int) :: ((wsX5_whoJoined_r1 ++ wsX5_whoJoined_r2) ++ wsX50 ++ wsX20)
def wsX5_other : List Cond := .code yX5_other cX5_other 1 (some .int) :: ([])
def wsX5_layStone : List Cond := .code yX5_layStone cX5_layStone 2 none :: ([.fieldLink RX5 57 "TwoBanks" "toLay" "I", .methodLink RX5 54 yX5_put, .instanceMethod yX5_put, .selects RX5 yX5_put yX5_put, .initialized RX5, .code yX5_put cX5_put 3 none, .fieldLink RX5 115 "TwoBanks" "north" "J", .constantLong RX5 197 (-1), .fieldLink RX5 107 "TwoBanks" "west" "J", .methodLink RX5 171 yX5_bit, .static yX5_bit, .code yX5_bit cX5_bit 1 (some .long), .methodLink RX5 101 yX5_other, .static yX5_other, .code yX5_other cX5_other 1 (some .int)] ++ wsX50)
def wsX5_lay_r1 : List Cond := [Cond.fieldLink RX5 12 "TwoBanks" "grid" "LTwoBanks$Grid;", Cond.fieldLink RX5 19 "TwoBanks" "deeds" "LTwoBanks$Deeds;", Cond.methodLink RX5 51 yX2_has, Cond.instanceMethod yX2_has, Cond.selects RX2 yX2_has yX2_has, Cond.initialized RX2, Cond.code yX2_has cX2_has 2 (some .boolean), Cond.fieldLink RX2 9 "TwoBanks$Grid" "rows" "I", Cond.fieldLink RX2 15 "TwoBanks$Grid" "columns" "I", Cond.methodLink RX5 68 yX5_stoneAt, Cond.instanceMethod yX5_stoneAt, Cond.selects RX5 yX5_stoneAt yX5_stoneAt, Cond.initialized RX5, Cond.code yX5_stoneAt cX5_stoneAt 2 (some .int), Cond.fieldLink RX5 115 "TwoBanks" "north" "J", Cond.fieldLink RX5 107 "TwoBanks" "west" "J", Cond.methodLink RX5 171 yX5_bit, Cond.static yX5_bit, Cond.code yX5_bit cX5_bit 1 (some .long), Cond.methodLink RX5 72 yX5_whoJoined, Cond.instanceMethod yX5_whoJoined, Cond.selects RX5 yX5_whoJoined yX5_whoJoined, Cond.code yX5_whoJoined cX5_whoJoined 1 (some .int), Cond.methodLink RX5 209 yX2_northBank]
def wsX5_lay_r2 : List Cond := [Cond.instanceMethod yX2_northBank, Cond.selects RX2 yX2_northBank yX2_northBank, Cond.code yX2_northBank cX2_northBank 1 (some .long), Cond.fieldLink RX2 26 "TwoBanks$Grid" "northBank" "J", Cond.methodLink RX5 212 yX2_southBank, Cond.instanceMethod yX2_southBank, Cond.selects RX2 yX2_southBank yX2_southBank, Cond.code yX2_southBank cX2_southBank 1 (some .long), Cond.fieldLink RX2 29 "TwoBanks$Grid" "southBank" "J", Cond.methodLink RX5 215 yX2_joins, Cond.instanceMethod yX2_joins, Cond.selects RX2 yX2_joins yX2_joins, Cond.code yX2_joins cX2_joins 7 (some .boolean), Cond.methodLink RX2 44 yX2_spread, Cond.instanceMethod yX2_spread, Cond.selects RX2 yX2_spread yX2_spread, Cond.code yX2_spread cX2_spread 10 (some .long), Cond.methodLink RX2 40 yX2_beside, Cond.instanceMethod yX2_beside, Cond.selects RX2 yX2_beside yX2_beside, Cond.code yX2_beside cX2_beside 13 (some .long), Cond.fieldLink RX2 35 "TwoBanks$Grid" "eastBank" "J", Cond.constantLong RX2 38 (-1), Cond.fieldLink RX2 32 "TwoBanks$Grid" "westBank" "J"]
def wsX5_lay_r3 : List Cond := [Cond.fieldLink RX2 22 "TwoBanks$Grid" "all" "J", Cond.methodLink RX5 219 yX2_westBank, Cond.instanceMethod yX2_westBank, Cond.selects RX2 yX2_westBank yX2_westBank, Cond.code yX2_westBank cX2_westBank 1 (some .long), Cond.methodLink RX5 222 yX2_eastBank, Cond.instanceMethod yX2_eastBank, Cond.selects RX2 yX2_eastBank yX2_eastBank, Cond.code yX2_eastBank cX2_eastBank 1 (some .long), Cond.methodLink RX5 76 yX0_add, Cond.instanceMethod yX0_add, Cond.selects RX0 yX0_add yX0_add, Cond.initialized RX0, Cond.code yX0_add cX0_add 2 (some .boolean), Cond.fieldLink RX0 15 "TwoBanks$Deeds" "done" "I", Cond.fieldLink RX0 9 "TwoBanks$Deeds" "row" "[I", Cond.fieldLink RX0 19 "TwoBanks$Deeds" "known" "I", Cond.methodLink RX5 79 yX5_layStone, Cond.instanceMethod yX5_layStone, Cond.selects RX5 yX5_layStone yX5_layStone, Cond.code yX5_layStone cX5_layStone 2 none, Cond.fieldLink RX5 57 "TwoBanks" "toLay" "I", Cond.methodLink RX5 54 yX5_put, Cond.instanceMethod yX5_put]
def wsX5_lay_r4 : List Cond := [Cond.selects RX5 yX5_put yX5_put, Cond.code yX5_put cX5_put 3 none, Cond.constantLong RX5 197 (-1), Cond.methodLink RX5 101 yX5_other, Cond.static yX5_other, Cond.code yX5_other cX5_other 1 (some .int)]
def wsX5_lay : List Cond := .code yX5_lay cX5_lay 2 (some .int) :: ((wsX5_lay_r1 ++ (wsX5_lay_r2 ++ (wsX5_lay_r3 ++ wsX5_lay_r4))) ++ wsX50 ++ wsX20 ++ wsX00)
def wsX5_takeOver : List Cond := .code yX5_takeOver cX5_takeOver 1 none :: ([.fieldLink RX5 12 "TwoBanks" "grid" "LTwoBanks$Grid;", .fieldLink RX5 115 "TwoBanks" "north" "J", .fieldLink RX5 107 "TwoBanks" "west" "J", .fieldLink RX5 57 "TwoBanks" "toLay" "I", .methodLink RX5 111 yX2_turned, .instanceMethod yX2_turned, .selects RX2 yX2_turned yX2_turned, .initialized RX2, .code yX2_turned cX2_turned 7 (some .long), .fieldLink RX2 9 "TwoBanks$Grid" "rows" "I", .fieldLink RX2 15 "TwoBanks$Grid" "columns" "I", .static yX5_bit, .initialized RX5, .code yX5_bit cX5_bit 1 (some .long)] ++ wsX50 ++ wsX20)
def wsX5_swap_r1 : List Cond := [Cond.fieldLink RX5 61 "TwoBanks" "untouched" "Z", Cond.fieldLink RX5 12 "TwoBanks" "grid" "LTwoBanks$Grid;", Cond.fieldLink RX5 19 "TwoBanks" "deeds" "LTwoBanks$Deeds;", Cond.methodLink RX5 83 yX2_rows, Cond.instanceMethod yX2_rows, Cond.selects RX2 yX2_rows yX2_rows, Cond.initialized RX2, Cond.code yX2_rows cX2_rows 1 (some .int), Cond.fieldLink RX2 9 "TwoBanks$Grid" "rows" "I", Cond.methodLink RX5 86 yX2_columns, Cond.instanceMethod yX2_columns, Cond.selects RX2 yX2_columns yX2_columns, Cond.code yX2_columns cX2_columns 1 (some .int), Cond.fieldLink RX2 15 "TwoBanks$Grid" "columns" "I", Cond.methodLink RX5 89 yX0_done, Cond.instanceMethod yX0_done, Cond.selects RX0 yX0_done yX0_done, Cond.initialized RX0, Cond.code yX0_done cX0_done 1 (some .int), Cond.fieldLink RX0 15 "TwoBanks$Deeds" "done" "I", Cond.methodLink RX5 72 yX5_whoJoined, Cond.instanceMethod yX5_whoJoined, Cond.selects RX5 yX5_whoJoined yX5_whoJoined, Cond.initialized RX5]
def wsX5_swap_r2 : List Cond := [Cond.code yX5_whoJoined cX5_whoJoined 1 (some .int), Cond.fieldLink RX5 115 "TwoBanks" "north" "J", Cond.fieldLink RX5 107 "TwoBanks" "west" "J", Cond.methodLink RX5 209 yX2_northBank, Cond.instanceMethod yX2_northBank, Cond.selects RX2 yX2_northBank yX2_northBank, Cond.code yX2_northBank cX2_northBank 1 (some .long), Cond.fieldLink RX2 26 "TwoBanks$Grid" "northBank" "J", Cond.methodLink RX5 212 yX2_southBank, Cond.instanceMethod yX2_southBank, Cond.selects RX2 yX2_southBank yX2_southBank, Cond.code yX2_southBank cX2_southBank 1 (some .long), Cond.fieldLink RX2 29 "TwoBanks$Grid" "southBank" "J", Cond.methodLink RX5 215 yX2_joins, Cond.instanceMethod yX2_joins, Cond.selects RX2 yX2_joins yX2_joins, Cond.code yX2_joins cX2_joins 7 (some .boolean), Cond.methodLink RX2 44 yX2_spread, Cond.instanceMethod yX2_spread, Cond.selects RX2 yX2_spread yX2_spread, Cond.code yX2_spread cX2_spread 10 (some .long), Cond.methodLink RX2 40 yX2_beside, Cond.instanceMethod yX2_beside, Cond.selects RX2 yX2_beside yX2_beside]
def wsX5_swap_r3 : List Cond := [Cond.code yX2_beside cX2_beside 13 (some .long), Cond.fieldLink RX2 35 "TwoBanks$Grid" "eastBank" "J", Cond.constantLong RX2 38 (-1), Cond.fieldLink RX2 32 "TwoBanks$Grid" "westBank" "J", Cond.fieldLink RX2 22 "TwoBanks$Grid" "all" "J", Cond.methodLink RX5 219 yX2_westBank, Cond.instanceMethod yX2_westBank, Cond.selects RX2 yX2_westBank yX2_westBank, Cond.code yX2_westBank cX2_westBank 1 (some .long), Cond.methodLink RX5 222 yX2_eastBank, Cond.instanceMethod yX2_eastBank, Cond.selects RX2 yX2_eastBank yX2_eastBank, Cond.code yX2_eastBank cX2_eastBank 1 (some .long), Cond.methodLink RX5 76 yX0_add, Cond.instanceMethod yX0_add, Cond.selects RX0 yX0_add yX0_add, Cond.code yX0_add cX0_add 2 (some .boolean), Cond.fieldLink RX0 9 "TwoBanks$Deeds" "row" "[I", Cond.fieldLink RX0 19 "TwoBanks$Deeds" "known" "I", Cond.methodLink RX5 92 yX5_takeOver, Cond.instanceMethod yX5_takeOver, Cond.selects RX5 yX5_takeOver yX5_takeOver, Cond.code yX5_takeOver cX5_takeOver 1 none, Cond.fieldLink RX5 57 "TwoBanks" "toLay" "I"]
def wsX5_swap_r4 : List Cond := [Cond.methodLink RX5 111 yX2_turned, Cond.instanceMethod yX2_turned, Cond.selects RX2 yX2_turned yX2_turned, Cond.code yX2_turned cX2_turned 7 (some .long), Cond.static yX5_bit, Cond.code yX5_bit cX5_bit 1 (some .long)]
def wsX5_swap : List Cond := .code yX5_swap cX5_swap 2 (some .boolean) :: ((wsX5_swap_r1 ++ (wsX5_swap_r2 ++ (wsX5_swap_r3 ++ wsX5_swap_r4))) ++ wsX50 ++ wsX20 ++ wsX00)
def wsX5_giveBack : List Cond := .code yX5_giveBack cX5_giveBack 1 none :: ([.fieldLink RX5 12 "TwoBanks" "grid" "LTwoBanks$Grid;", .fieldLink RX5 107 "TwoBanks" "west" "J", .fieldLink RX5 115 "TwoBanks" "north" "J", .fieldLink RX5 57 "TwoBanks" "toLay" "I", .methodLink RX5 111 yX2_turned, .instanceMethod yX2_turned, .selects RX2 yX2_turned yX2_turned, .initialized RX2, .code yX2_turned cX2_turned 7 (some .long), .fieldLink RX2 9 "TwoBanks$Grid" "rows" "I", .fieldLink RX2 15 "TwoBanks$Grid" "columns" "I", .static yX5_bit, .initialized RX5, .code yX5_bit cX5_bit 1 (some .long)] ++ wsX50 ++ wsX20)
def wsX5_undo_r1 : List Cond := [Cond.fieldLink RX5 19 "TwoBanks" "deeds" "LTwoBanks$Deeds;", Cond.fieldLink RX5 57 "TwoBanks" "toLay" "I", Cond.methodLink RX5 95 yX0_back, Cond.instanceMethod yX0_back, Cond.selects RX0 yX0_back yX0_back, Cond.initialized RX0, Cond.code yX0_back cX0_back 2 (some .int), Cond.fieldLink RX0 15 "TwoBanks$Deeds" "done" "I", Cond.fieldLink RX0 9 "TwoBanks$Deeds" "row" "[I", Cond.methodLink RX5 98 yX5_giveBack, Cond.instanceMethod yX5_giveBack, Cond.selects RX5 yX5_giveBack yX5_giveBack, Cond.initialized RX5, Cond.code yX5_giveBack cX5_giveBack 1 none, Cond.fieldLink RX5 12 "TwoBanks" "grid" "LTwoBanks$Grid;", Cond.fieldLink RX5 107 "TwoBanks" "west" "J", Cond.fieldLink RX5 115 "TwoBanks" "north" "J", Cond.methodLink RX5 111 yX2_turned, Cond.instanceMethod yX2_turned, Cond.selects RX2 yX2_turned yX2_turned, Cond.initialized RX2, Cond.code yX2_turned cX2_turned 7 (some .long), Cond.fieldLink RX2 9 "TwoBanks$Grid" "rows" "I", Cond.fieldLink RX2 15 "TwoBanks$Grid" "columns" "I"]
def wsX5_undo_r2 : List Cond := [Cond.static yX5_bit, Cond.code yX5_bit cX5_bit 1 (some .long), Cond.methodLink RX5 54 yX5_put, Cond.instanceMethod yX5_put, Cond.selects RX5 yX5_put yX5_put, Cond.code yX5_put cX5_put 3 none, Cond.constantLong RX5 197 (-1), Cond.methodLink RX5 171 yX5_bit, Cond.methodLink RX5 101 yX5_other, Cond.static yX5_other, Cond.code yX5_other cX5_other 1 (some .int)]
def wsX5_undo : List Cond := .code yX5_undo cX5_undo 2 (some .boolean) :: ((wsX5_undo_r1 ++ wsX5_undo_r2) ++ wsX50 ++ wsX00 ++ wsX20)
def wsX5_redo_r1 : List Cond := [Cond.fieldLink RX5 19 "TwoBanks" "deeds" "LTwoBanks$Deeds;", Cond.methodLink RX5 104 yX0_forth, Cond.instanceMethod yX0_forth, Cond.selects RX0 yX0_forth yX0_forth, Cond.initialized RX0, Cond.code yX0_forth cX0_forth 2 (some .int), Cond.fieldLink RX0 15 "TwoBanks$Deeds" "done" "I", Cond.fieldLink RX0 19 "TwoBanks$Deeds" "known" "I", Cond.fieldLink RX0 9 "TwoBanks$Deeds" "row" "[I", Cond.methodLink RX5 92 yX5_takeOver, Cond.instanceMethod yX5_takeOver, Cond.selects RX5 yX5_takeOver yX5_takeOver, Cond.initialized RX5, Cond.code yX5_takeOver cX5_takeOver 1 none, Cond.fieldLink RX5 12 "TwoBanks" "grid" "LTwoBanks$Grid;", Cond.fieldLink RX5 115 "TwoBanks" "north" "J", Cond.fieldLink RX5 107 "TwoBanks" "west" "J", Cond.fieldLink RX5 57 "TwoBanks" "toLay" "I", Cond.methodLink RX5 111 yX2_turned, Cond.instanceMethod yX2_turned, Cond.selects RX2 yX2_turned yX2_turned, Cond.initialized RX2, Cond.code yX2_turned cX2_turned 7 (some .long), Cond.fieldLink RX2 9 "TwoBanks$Grid" "rows" "I"]
def wsX5_redo_r2 : List Cond := [Cond.fieldLink RX2 15 "TwoBanks$Grid" "columns" "I", Cond.static yX5_bit, Cond.code yX5_bit cX5_bit 1 (some .long), Cond.methodLink RX5 79 yX5_layStone, Cond.instanceMethod yX5_layStone, Cond.selects RX5 yX5_layStone yX5_layStone, Cond.code yX5_layStone cX5_layStone 2 none, Cond.methodLink RX5 54 yX5_put, Cond.instanceMethod yX5_put, Cond.selects RX5 yX5_put yX5_put, Cond.code yX5_put cX5_put 3 none, Cond.constantLong RX5 197 (-1), Cond.methodLink RX5 171 yX5_bit, Cond.methodLink RX5 101 yX5_other, Cond.static yX5_other, Cond.code yX5_other cX5_other 1 (some .int)]
def wsX5_redo : List Cond := .code yX5_redo cX5_redo 2 (some .boolean) :: ((wsX5_redo_r1 ++ wsX5_redo_r2) ++ wsX50 ++ wsX00 ++ wsX20)
def wsX5_change_r1 : List Cond := [Cond.fieldLink RX5 12 "TwoBanks" "grid" "LTwoBanks$Grid;", Cond.fieldLink RX5 107 "TwoBanks" "west" "J", Cond.fieldLink RX5 115 "TwoBanks" "north" "J", Cond.fieldLink RX5 57 "TwoBanks" "toLay" "I", Cond.fieldLink RX5 61 "TwoBanks" "untouched" "Z", Cond.fieldLink RX5 19 "TwoBanks" "deeds" "LTwoBanks$Deeds;", Cond.methodLink RX5 111 yX2_turned, Cond.instanceMethod yX2_turned, Cond.selects RX2 yX2_turned yX2_turned, Cond.initialized RX2, Cond.code yX2_turned cX2_turned 7 (some .long), Cond.fieldLink RX2 9 "TwoBanks$Grid" "rows" "I", Cond.fieldLink RX2 15 "TwoBanks$Grid" "columns" "I", Cond.static yX5_bit, Cond.initialized RX5, Cond.code yX5_bit cX5_bit 1 (some .long), Cond.methodLink RX5 86 yX2_columns, Cond.instanceMethod yX2_columns, Cond.selects RX2 yX2_columns yX2_columns, Cond.code yX2_columns cX2_columns 1 (some .int), Cond.methodLink RX5 83 yX2_rows, Cond.instanceMethod yX2_rows, Cond.selects RX2 yX2_rows yX2_rows, Cond.code yX2_rows cX2_rows 1 (some .int)]
def wsX5_change_r2 : List Cond := [Cond.methodLink RX5 118 yX2_shape, Cond.instanceMethod yX2_shape, Cond.selects RX2 yX2_shape yX2_shape, Cond.code yX2_shape cX2_shape 4 none, Cond.fieldLink RX2 22 "TwoBanks$Grid" "all" "J", Cond.fieldLink RX2 26 "TwoBanks$Grid" "northBank" "J", Cond.fieldLink RX2 29 "TwoBanks$Grid" "southBank" "J", Cond.fieldLink RX2 32 "TwoBanks$Grid" "westBank" "J", Cond.fieldLink RX2 35 "TwoBanks$Grid" "eastBank" "J", Cond.methodLink RX5 101 yX5_other, Cond.static yX5_other, Cond.code yX5_other cX5_other 1 (some .int), Cond.methodLink RX5 65 yX0_forget, Cond.instanceMethod yX0_forget, Cond.selects RX0 yX0_forget yX0_forget, Cond.initialized RX0, Cond.code yX0_forget cX0_forget 1 none, Cond.fieldLink RX0 15 "TwoBanks$Deeds" "done" "I", Cond.fieldLink RX0 19 "TwoBanks$Deeds" "known" "I"]
def wsX5_change : List Cond := .code yX5_change cX5_change 5 none :: ((wsX5_change_r1 ++ wsX5_change_r2) ++ wsX50 ++ wsX20 ++ wsX00)
def wsX5_at : List Cond := .code yX5_at cX5_at 2 (some .int) :: ([.fieldLink RX5 12 "TwoBanks" "grid" "LTwoBanks$Grid;", .methodLink RX5 51 yX2_has, .instanceMethod yX2_has, .selects RX2 yX2_has yX2_has, .initialized RX2, .code yX2_has cX2_has 2 (some .boolean), .fieldLink RX2 9 "TwoBanks$Grid" "rows" "I", .fieldLink RX2 15 "TwoBanks$Grid" "columns" "I", .methodLink RX5 68 yX5_stoneAt, .instanceMethod yX5_stoneAt, .selects RX5 yX5_stoneAt yX5_stoneAt, .initialized RX5, .code yX5_stoneAt cX5_stoneAt 2 (some .int), .fieldLink RX5 115 "TwoBanks" "north" "J", .fieldLink RX5 107 "TwoBanks" "west" "J", .methodLink RX5 171 yX5_bit, .static yX5_bit, .code yX5_bit cX5_bit 1 (some .long)] ++ wsX50 ++ wsX20)
def wsX5_stonesOf : List Cond := .code yX5_stonesOf cX5_stonesOf 2 (some .long) :: ([.fieldLink RX5 115 "TwoBanks" "north" "J", .fieldLink RX5 107 "TwoBanks" "west" "J"] ++ wsX50)
def wsX5_groupAt_r1 : List Cond := [Cond.fieldLink RX5 12 "TwoBanks" "grid" "LTwoBanks$Grid;", Cond.methodLink RX5 51 yX2_has, Cond.instanceMethod yX2_has, Cond.selects RX2 yX2_has yX2_has, Cond.initialized RX2, Cond.code yX2_has cX2_has 2 (some .boolean), Cond.fieldLink RX2 9 "TwoBanks$Grid" "rows" "I", Cond.fieldLink RX2 15 "TwoBanks$Grid" "columns" "I", Cond.methodLink RX5 68 yX5_stoneAt, Cond.instanceMethod yX5_stoneAt, Cond.selects RX5 yX5_stoneAt yX5_stoneAt, Cond.initialized RX5, Cond.code yX5_stoneAt cX5_stoneAt 2 (some .int), Cond.fieldLink RX5 115 "TwoBanks" "north" "J", Cond.fieldLink RX5 107 "TwoBanks" "west" "J", Cond.methodLink RX5 171 yX5_bit, Cond.static yX5_bit, Cond.code yX5_bit cX5_bit 1 (some .long), Cond.methodLink RX5 202 yX5_stonesOf, Cond.instanceMethod yX5_stonesOf, Cond.selects RX5 yX5_stonesOf yX5_stonesOf, Cond.code yX5_stonesOf cX5_stonesOf 2 (some .long), Cond.methodLink RX5 205 yX2_spread, Cond.instanceMethod yX2_spread]
def wsX5_groupAt_r2 : List Cond := [Cond.selects RX2 yX2_spread yX2_spread, Cond.code yX2_spread cX2_spread 10 (some .long), Cond.methodLink RX2 40 yX2_beside, Cond.instanceMethod yX2_beside, Cond.selects RX2 yX2_beside yX2_beside, Cond.code yX2_beside cX2_beside 13 (some .long), Cond.fieldLink RX2 35 "TwoBanks$Grid" "eastBank" "J", Cond.constantLong RX2 38 (-1), Cond.fieldLink RX2 32 "TwoBanks$Grid" "westBank" "J", Cond.fieldLink RX2 22 "TwoBanks$Grid" "all" "J"]
def wsX5_groupAt : List Cond := .code yX5_groupAt cX5_groupAt 3 (some .long) :: ((wsX5_groupAt_r1 ++ wsX5_groupAt_r2) ++ wsX50 ++ wsX20)
def wsX5_group_r1 : List Cond := [Cond.methodLink RX5 121 yX5_groupAt, Cond.instanceMethod yX5_groupAt, Cond.selects RX5 yX5_groupAt yX5_groupAt, Cond.initialized RX5, Cond.code yX5_groupAt cX5_groupAt 3 (some .long), Cond.fieldLink RX5 12 "TwoBanks" "grid" "LTwoBanks$Grid;", Cond.methodLink RX5 51 yX2_has, Cond.instanceMethod yX2_has, Cond.selects RX2 yX2_has yX2_has, Cond.initialized RX2, Cond.code yX2_has cX2_has 2 (some .boolean), Cond.fieldLink RX2 9 "TwoBanks$Grid" "rows" "I", Cond.fieldLink RX2 15 "TwoBanks$Grid" "columns" "I", Cond.methodLink RX5 68 yX5_stoneAt, Cond.instanceMethod yX5_stoneAt, Cond.selects RX5 yX5_stoneAt yX5_stoneAt, Cond.code yX5_stoneAt cX5_stoneAt 2 (some .int), Cond.fieldLink RX5 115 "TwoBanks" "north" "J", Cond.fieldLink RX5 107 "TwoBanks" "west" "J", Cond.methodLink RX5 171 yX5_bit, Cond.static yX5_bit, Cond.code yX5_bit cX5_bit 1 (some .long), Cond.methodLink RX5 202 yX5_stonesOf, Cond.instanceMethod yX5_stonesOf]
def wsX5_group_r2 : List Cond := [Cond.selects RX5 yX5_stonesOf yX5_stonesOf, Cond.code yX5_stonesOf cX5_stonesOf 2 (some .long), Cond.methodLink RX5 205 yX2_spread, Cond.instanceMethod yX2_spread, Cond.selects RX2 yX2_spread yX2_spread, Cond.code yX2_spread cX2_spread 10 (some .long), Cond.methodLink RX2 40 yX2_beside, Cond.instanceMethod yX2_beside, Cond.selects RX2 yX2_beside yX2_beside, Cond.code yX2_beside cX2_beside 13 (some .long), Cond.fieldLink RX2 35 "TwoBanks$Grid" "eastBank" "J", Cond.constantLong RX2 38 (-1), Cond.fieldLink RX2 32 "TwoBanks$Grid" "westBank" "J", Cond.fieldLink RX2 22 "TwoBanks$Grid" "all" "J", Cond.methodLink RX5 125 yX5_lowest, Cond.static yX5_lowest, Cond.code yX5_lowest cX5_lowest 2 (some .int), Cond.methodLink RX5 129 yJ13_bitCount_95d88, Cond.static yJ13_bitCount_95d88, Cond.initialized RJ13, Cond.code yJ13_bitCount_95d88 cJ13_bitCount_95d88 2 (some .int), Cond.constantLong RJ13 314 (6148914691236517205), Cond.constantLong RJ13 316 (3689348814741910323), Cond.constantLong RJ13 318 (1085102592571150095)]
def wsX5_group : List Cond := .code yX5_group cX5_group 4 (some .int) :: ((wsX5_group_r1 ++ wsX5_group_r2) ++ wsX50 ++ wsX20)
def wsX5_empties : List Cond := .code yX5_empties cX5_empties 1 (some .long) :: ([.fieldLink RX5 12 "TwoBanks" "grid" "LTwoBanks$Grid;", .fieldLink RX5 115 "TwoBanks" "north" "J", .fieldLink RX5 107 "TwoBanks" "west" "J", .constantLong RX5 197 (-1), .methodLink RX5 199 yX2_all, .instanceMethod yX2_all, .selects RX2 yX2_all yX2_all, .initialized RX2, .code yX2_all cX2_all 1 (some .long), .fieldLink RX2 22 "TwoBanks$Grid" "all" "J"] ++ wsX50 ++ wsX20)
def wsX5_look_r1 : List Cond := [Cond.fieldLink RX5 12 "TwoBanks" "grid" "LTwoBanks$Grid;", Cond.methodLink RX5 121 yX5_groupAt, Cond.instanceMethod yX5_groupAt, Cond.selects RX5 yX5_groupAt yX5_groupAt, Cond.initialized RX5, Cond.code yX5_groupAt cX5_groupAt 3 (some .long), Cond.methodLink RX5 51 yX2_has, Cond.instanceMethod yX2_has, Cond.selects RX2 yX2_has yX2_has, Cond.initialized RX2, Cond.code yX2_has cX2_has 2 (some .boolean), Cond.fieldLink RX2 9 "TwoBanks$Grid" "rows" "I", Cond.fieldLink RX2 15 "TwoBanks$Grid" "columns" "I", Cond.methodLink RX5 68 yX5_stoneAt, Cond.instanceMethod yX5_stoneAt, Cond.selects RX5 yX5_stoneAt yX5_stoneAt, Cond.code yX5_stoneAt cX5_stoneAt 2 (some .int), Cond.fieldLink RX5 115 "TwoBanks" "north" "J", Cond.fieldLink RX5 107 "TwoBanks" "west" "J", Cond.methodLink RX5 171 yX5_bit, Cond.static yX5_bit, Cond.code yX5_bit cX5_bit 1 (some .long), Cond.methodLink RX5 202 yX5_stonesOf, Cond.instanceMethod yX5_stonesOf]
def wsX5_look_r2 : List Cond := [Cond.selects RX5 yX5_stonesOf yX5_stonesOf, Cond.code yX5_stonesOf cX5_stonesOf 2 (some .long), Cond.methodLink RX5 205 yX2_spread, Cond.instanceMethod yX2_spread, Cond.selects RX2 yX2_spread yX2_spread, Cond.code yX2_spread cX2_spread 10 (some .long), Cond.methodLink RX2 40 yX2_beside, Cond.instanceMethod yX2_beside, Cond.selects RX2 yX2_beside yX2_beside, Cond.code yX2_beside cX2_beside 13 (some .long), Cond.fieldLink RX2 35 "TwoBanks$Grid" "eastBank" "J", Cond.constantLong RX2 38 (-1), Cond.fieldLink RX2 32 "TwoBanks$Grid" "westBank" "J", Cond.fieldLink RX2 22 "TwoBanks$Grid" "all" "J", Cond.methodLink RX5 129 yJ13_bitCount_95d88, Cond.static yJ13_bitCount_95d88, Cond.initialized RJ13, Cond.code yJ13_bitCount_95d88 cJ13_bitCount_95d88 2 (some .int), Cond.constantLong RJ13 314 (6148914691236517205), Cond.constantLong RJ13 316 (3689348814741910323), Cond.constantLong RJ13 318 (1085102592571150095), Cond.methodLink RX5 134 yX2_banksOf, Cond.instanceMethod yX2_banksOf, Cond.selects RX2 yX2_banksOf yX2_banksOf]
def wsX5_look_r3 : List Cond := [Cond.code yX2_banksOf cX2_banksOf 4 (some .int), Cond.fieldLink RX2 26 "TwoBanks$Grid" "northBank" "J", Cond.fieldLink RX2 29 "TwoBanks$Grid" "southBank" "J", Cond.methodLink RX5 137 yX2_beside, Cond.methodLink RX5 140 yX5_empties, Cond.instanceMethod yX5_empties, Cond.selects RX5 yX5_empties yX5_empties, Cond.code yX5_empties cX5_empties 1 (some .long), Cond.constantLong RX5 197 (-1), Cond.methodLink RX5 199 yX2_all, Cond.instanceMethod yX2_all, Cond.selects RX2 yX2_all yX2_all, Cond.code yX2_all cX2_all 1 (some .long)]
def wsX5_look : List Cond := .code yX5_look cX5_look 5 (some .int) :: ((wsX5_look_r1 ++ (wsX5_look_r2 ++ wsX5_look_r3)) ++ wsX50 ++ wsX20)
def wsX5_joined_r1 : List Cond := [Cond.methodLink RX5 72 yX5_whoJoined, Cond.instanceMethod yX5_whoJoined, Cond.selects RX5 yX5_whoJoined yX5_whoJoined, Cond.initialized RX5, Cond.code yX5_whoJoined cX5_whoJoined 1 (some .int), Cond.fieldLink RX5 12 "TwoBanks" "grid" "LTwoBanks$Grid;", Cond.fieldLink RX5 115 "TwoBanks" "north" "J", Cond.fieldLink RX5 107 "TwoBanks" "west" "J", Cond.methodLink RX5 209 yX2_northBank, Cond.instanceMethod yX2_northBank, Cond.selects RX2 yX2_northBank yX2_northBank, Cond.initialized RX2, Cond.code yX2_northBank cX2_northBank 1 (some .long), Cond.fieldLink RX2 26 "TwoBanks$Grid" "northBank" "J", Cond.methodLink RX5 212 yX2_southBank, Cond.instanceMethod yX2_southBank, Cond.selects RX2 yX2_southBank yX2_southBank, Cond.code yX2_southBank cX2_southBank 1 (some .long), Cond.fieldLink RX2 29 "TwoBanks$Grid" "southBank" "J", Cond.methodLink RX5 215 yX2_joins, Cond.instanceMethod yX2_joins, Cond.selects RX2 yX2_joins yX2_joins, Cond.code yX2_joins cX2_joins 7 (some .boolean), Cond.methodLink RX2 44 yX2_spread]
def wsX5_joined_r2 : List Cond := [Cond.instanceMethod yX2_spread, Cond.selects RX2 yX2_spread yX2_spread, Cond.code yX2_spread cX2_spread 10 (some .long), Cond.methodLink RX2 40 yX2_beside, Cond.instanceMethod yX2_beside, Cond.selects RX2 yX2_beside yX2_beside, Cond.code yX2_beside cX2_beside 13 (some .long), Cond.fieldLink RX2 35 "TwoBanks$Grid" "eastBank" "J", Cond.constantLong RX2 38 (-1), Cond.fieldLink RX2 32 "TwoBanks$Grid" "westBank" "J", Cond.fieldLink RX2 15 "TwoBanks$Grid" "columns" "I", Cond.fieldLink RX2 22 "TwoBanks$Grid" "all" "J", Cond.methodLink RX5 219 yX2_westBank, Cond.instanceMethod yX2_westBank, Cond.selects RX2 yX2_westBank yX2_westBank, Cond.code yX2_westBank cX2_westBank 1 (some .long), Cond.methodLink RX5 222 yX2_eastBank, Cond.instanceMethod yX2_eastBank, Cond.selects RX2 yX2_eastBank yX2_eastBank, Cond.code yX2_eastBank cX2_eastBank 1 (some .long)]
def wsX5_joined : List Cond := .code yX5_joined cX5_joined 1 (some .int) :: ((wsX5_joined_r1 ++ wsX5_joined_r2) ++ wsX50 ++ wsX20)
def wsX5_findPath_r1 : List Cond := [Cond.fieldLink RX5 26 "TwoBanks" "path" "LTwoBanks$Path;", Cond.fieldLink RX5 12 "TwoBanks" "grid" "LTwoBanks$Grid;", Cond.fieldLink RX5 115 "TwoBanks" "north" "J", Cond.fieldLink RX5 107 "TwoBanks" "west" "J", Cond.methodLink RX5 72 yX5_whoJoined, Cond.instanceMethod yX5_whoJoined, Cond.selects RX5 yX5_whoJoined yX5_whoJoined, Cond.initialized RX5, Cond.code yX5_whoJoined cX5_whoJoined 1 (some .int), Cond.methodLink RX5 209 yX2_northBank, Cond.instanceMethod yX2_northBank, Cond.selects RX2 yX2_northBank yX2_northBank, Cond.initialized RX2, Cond.code yX2_northBank cX2_northBank 1 (some .long), Cond.fieldLink RX2 26 "TwoBanks$Grid" "northBank" "J", Cond.methodLink RX5 212 yX2_southBank, Cond.instanceMethod yX2_southBank, Cond.selects RX2 yX2_southBank yX2_southBank, Cond.code yX2_southBank cX2_southBank 1 (some .long), Cond.fieldLink RX2 29 "TwoBanks$Grid" "southBank" "J", Cond.methodLink RX5 215 yX2_joins, Cond.instanceMethod yX2_joins, Cond.selects RX2 yX2_joins yX2_joins, Cond.code yX2_joins cX2_joins 7 (some .boolean)]
def wsX5_findPath_r2 : List Cond := [Cond.methodLink RX2 44 yX2_spread, Cond.instanceMethod yX2_spread, Cond.selects RX2 yX2_spread yX2_spread, Cond.code yX2_spread cX2_spread 10 (some .long), Cond.methodLink RX2 40 yX2_beside, Cond.instanceMethod yX2_beside, Cond.selects RX2 yX2_beside yX2_beside, Cond.code yX2_beside cX2_beside 13 (some .long), Cond.fieldLink RX2 35 "TwoBanks$Grid" "eastBank" "J", Cond.constantLong RX2 38 (-1), Cond.fieldLink RX2 32 "TwoBanks$Grid" "westBank" "J", Cond.fieldLink RX2 15 "TwoBanks$Grid" "columns" "I", Cond.fieldLink RX2 22 "TwoBanks$Grid" "all" "J", Cond.methodLink RX5 219 yX2_westBank, Cond.instanceMethod yX2_westBank, Cond.selects RX2 yX2_westBank yX2_westBank, Cond.code yX2_westBank cX2_westBank 1 (some .long), Cond.methodLink RX5 222 yX2_eastBank, Cond.instanceMethod yX2_eastBank, Cond.selects RX2 yX2_eastBank yX2_eastBank, Cond.code yX2_eastBank cX2_eastBank 1 (some .long), Cond.methodLink RX5 225 yX4_find, Cond.instanceMethod yX4_find, Cond.selects RX4 yX4_find yX4_find]
def wsX5_findPath_r3 : List Cond := [Cond.initialized RX4, Cond.code yX4_find cX4_find 13 none, Cond.fieldLink RX4 9 "TwoBanks$Path" "layers" "[J", Cond.constantLong RX4 36 (-1), Cond.methodLink RX4 23 yX4_forget, Cond.instanceMethod yX4_forget, Cond.selects RX4 yX4_forget yX4_forget, Cond.code yX4_forget cX4_forget 1 none, Cond.fieldLink RX4 19 "TwoBanks$Path" "length" "I", Cond.methodLink RX4 26 yX4_trace, Cond.instanceMethod yX4_trace, Cond.selects RX4 yX4_trace yX4_trace, Cond.code yX4_trace cX4_trace 9 none, Cond.fieldLink RX4 15 "TwoBanks$Path" "fields" "[I", Cond.static yX5_lowest, Cond.code yX5_lowest cX5_lowest 2 (some .int), Cond.methodLink RX5 129 yJ13_bitCount_95d88, Cond.static yJ13_bitCount_95d88, Cond.initialized RJ13, Cond.code yJ13_bitCount_95d88 cJ13_bitCount_95d88 2 (some .int), Cond.constantLong RJ13 314 (6148914691236517205), Cond.constantLong RJ13 316 (3689348814741910323), Cond.constantLong RJ13 318 (1085102592571150095), Cond.static yX5_bit]
def wsX5_findPath_r4 : List Cond := [Cond.code yX5_bit cX5_bit 1 (some .long), Cond.methodLink RX4 30 yX2_beside, Cond.methodLink RX5 229 yX4_forget]
def wsX5_findPath : List Cond := .code yX5_findPath cX5_findPath 2 none :: ((wsX5_findPath_r1 ++ (wsX5_findPath_r2 ++ (wsX5_findPath_r3 ++ wsX5_findPath_r4))) ++ wsX50 ++ wsX20 ++ wsX40)
def wsX5_way_r1 : List Cond := [Cond.fieldLink RX5 26 "TwoBanks" "path" "LTwoBanks$Path;", Cond.methodLink RX5 144 yX5_findPath, Cond.instanceMethod yX5_findPath, Cond.selects RX5 yX5_findPath yX5_findPath, Cond.initialized RX5, Cond.code yX5_findPath cX5_findPath 2 none, Cond.fieldLink RX5 12 "TwoBanks" "grid" "LTwoBanks$Grid;", Cond.fieldLink RX5 115 "TwoBanks" "north" "J", Cond.fieldLink RX5 107 "TwoBanks" "west" "J", Cond.methodLink RX5 72 yX5_whoJoined, Cond.instanceMethod yX5_whoJoined, Cond.selects RX5 yX5_whoJoined yX5_whoJoined, Cond.code yX5_whoJoined cX5_whoJoined 1 (some .int), Cond.methodLink RX5 209 yX2_northBank, Cond.instanceMethod yX2_northBank, Cond.selects RX2 yX2_northBank yX2_northBank, Cond.initialized RX2, Cond.code yX2_northBank cX2_northBank 1 (some .long), Cond.fieldLink RX2 26 "TwoBanks$Grid" "northBank" "J", Cond.methodLink RX5 212 yX2_southBank, Cond.instanceMethod yX2_southBank, Cond.selects RX2 yX2_southBank yX2_southBank, Cond.code yX2_southBank cX2_southBank 1 (some .long), Cond.fieldLink RX2 29 "TwoBanks$Grid" "southBank" "J"]
def wsX5_way_r2 : List Cond := [Cond.methodLink RX5 215 yX2_joins, Cond.instanceMethod yX2_joins, Cond.selects RX2 yX2_joins yX2_joins, Cond.code yX2_joins cX2_joins 7 (some .boolean), Cond.methodLink RX2 44 yX2_spread, Cond.instanceMethod yX2_spread, Cond.selects RX2 yX2_spread yX2_spread, Cond.code yX2_spread cX2_spread 10 (some .long), Cond.methodLink RX2 40 yX2_beside, Cond.instanceMethod yX2_beside, Cond.selects RX2 yX2_beside yX2_beside, Cond.code yX2_beside cX2_beside 13 (some .long), Cond.fieldLink RX2 35 "TwoBanks$Grid" "eastBank" "J", Cond.constantLong RX2 38 (-1), Cond.fieldLink RX2 32 "TwoBanks$Grid" "westBank" "J", Cond.fieldLink RX2 15 "TwoBanks$Grid" "columns" "I", Cond.fieldLink RX2 22 "TwoBanks$Grid" "all" "J", Cond.methodLink RX5 219 yX2_westBank, Cond.instanceMethod yX2_westBank, Cond.selects RX2 yX2_westBank yX2_westBank, Cond.code yX2_westBank cX2_westBank 1 (some .long), Cond.methodLink RX5 222 yX2_eastBank, Cond.instanceMethod yX2_eastBank, Cond.selects RX2 yX2_eastBank yX2_eastBank]
def wsX5_way_r3 : List Cond := [Cond.code yX2_eastBank cX2_eastBank 1 (some .long), Cond.methodLink RX5 225 yX4_find, Cond.instanceMethod yX4_find, Cond.selects RX4 yX4_find yX4_find, Cond.initialized RX4, Cond.code yX4_find cX4_find 13 none, Cond.fieldLink RX4 9 "TwoBanks$Path" "layers" "[J", Cond.constantLong RX4 36 (-1), Cond.methodLink RX4 23 yX4_forget, Cond.instanceMethod yX4_forget, Cond.selects RX4 yX4_forget yX4_forget, Cond.code yX4_forget cX4_forget 1 none, Cond.fieldLink RX4 19 "TwoBanks$Path" "length" "I", Cond.methodLink RX4 26 yX4_trace, Cond.instanceMethod yX4_trace, Cond.selects RX4 yX4_trace yX4_trace, Cond.code yX4_trace cX4_trace 9 none, Cond.fieldLink RX4 15 "TwoBanks$Path" "fields" "[I", Cond.static yX5_lowest, Cond.code yX5_lowest cX5_lowest 2 (some .int), Cond.methodLink RX5 129 yJ13_bitCount_95d88, Cond.static yJ13_bitCount_95d88, Cond.initialized RJ13, Cond.code yJ13_bitCount_95d88 cJ13_bitCount_95d88 2 (some .int)]
def wsX5_way_r4 : List Cond := [Cond.constantLong RJ13 314 (6148914691236517205), Cond.constantLong RJ13 316 (3689348814741910323), Cond.constantLong RJ13 318 (1085102592571150095), Cond.static yX5_bit, Cond.code yX5_bit cX5_bit 1 (some .long), Cond.methodLink RX4 30 yX2_beside, Cond.methodLink RX5 229 yX4_forget, Cond.methodLink RX5 147 yX4_field, Cond.instanceMethod yX4_field, Cond.selects RX4 yX4_field yX4_field, Cond.code yX4_field cX4_field 2 (some .int)]
def wsX5_way : List Cond := .code yX5_way cX5_way 2 (some .int) :: ((wsX5_way_r1 ++ (wsX5_way_r2 ++ (wsX5_way_r3 ++ wsX5_way_r4))) ++ wsX50 ++ wsX20 ++ wsX40)
def wsX5_tooManyEmpty : List Cond := .code yX5_tooManyEmpty cX5_tooManyEmpty 1 (some .boolean) :: ([.methodLink RX5 140 yX5_empties, .instanceMethod yX5_empties, .selects RX5 yX5_empties yX5_empties, .initialized RX5, .code yX5_empties cX5_empties 1 (some .long), .fieldLink RX5 12 "TwoBanks" "grid" "LTwoBanks$Grid;", .fieldLink RX5 115 "TwoBanks" "north" "J", .fieldLink RX5 107 "TwoBanks" "west" "J", .constantLong RX5 197 (-1), .methodLink RX5 199 yX2_all, .instanceMethod yX2_all, .selects RX2 yX2_all yX2_all, .initialized RX2, .code yX2_all cX2_all 1 (some .long), .fieldLink RX2 22 "TwoBanks$Grid" "all" "J", .methodLink RX5 129 yJ13_bitCount_95d88, .static yJ13_bitCount_95d88, .initialized RJ13, .code yJ13_bitCount_95d88 cJ13_bitCount_95d88 2 (some .int), .constantLong RJ13 314 (6148914691236517205), .constantLong RJ13 316 (3689348814741910323), .constantLong RJ13 318 (1085102592571150095)] ++ wsX50 ++ wsX20)
def wsX5_askBanks_r1 : List Cond := [Cond.fieldLink RX5 33 "TwoBanks" "bankFight" "LTwoBanks$Fight;", Cond.fieldLink RX5 12 "TwoBanks" "grid" "LTwoBanks$Grid;", Cond.fieldLink RX5 115 "TwoBanks" "north" "J", Cond.fieldLink RX5 107 "TwoBanks" "west" "J", Cond.methodLink RX5 209 yX2_northBank, Cond.instanceMethod yX2_northBank, Cond.selects RX2 yX2_northBank yX2_northBank, Cond.initialized RX2, Cond.code yX2_northBank cX2_northBank 1 (some .long), Cond.fieldLink RX2 26 "TwoBanks$Grid" "northBank" "J", Cond.methodLink RX5 212 yX2_southBank, Cond.instanceMethod yX2_southBank, Cond.selects RX2 yX2_southBank yX2_southBank, Cond.code yX2_southBank cX2_southBank 1 (some .long), Cond.fieldLink RX2 29 "TwoBanks$Grid" "southBank" "J", Cond.methodLink RX5 230 yX1_ask, Cond.instanceMethod yX1_ask, Cond.selects RX1 yX1_ask yX1_ask, Cond.initialized RX1, Cond.code yX1_ask cX1_ask 12 none, Cond.fieldLink RX1 27 "TwoBanks$Fight" "rows" "I", Cond.fieldLink RX1 36 "TwoBanks$Fight" "columns" "I", Cond.fieldLink RX1 41 "TwoBanks$Fight" "own" "J", Cond.fieldLink RX1 45 "TwoBanks$Fight" "others" "J"]
def wsX5_askBanks_r2 : List Cond := [Cond.fieldLink RX1 48 "TwoBanks$Fight" "from" "J", Cond.fieldLink RX1 51 "TwoBanks$Fight" "to" "J", Cond.methodLink RX1 31 yX2_rows, Cond.instanceMethod yX2_rows, Cond.selects RX2 yX2_rows yX2_rows, Cond.code yX2_rows cX2_rows 1 (some .int), Cond.fieldLink RX2 9 "TwoBanks$Grid" "rows" "I", Cond.methodLink RX1 39 yX2_columns, Cond.instanceMethod yX2_columns, Cond.selects RX2 yX2_columns yX2_columns, Cond.code yX2_columns cX2_columns 1 (some .int), Cond.fieldLink RX2 15 "TwoBanks$Grid" "columns" "I", Cond.methodLink RX1 54 yX1_prepare, Cond.instanceMethod yX1_prepare, Cond.selects RX1 yX1_prepare yX1_prepare, Cond.code yX1_prepare cX1_prepare 5 none, Cond.constantLong RX1 62 (-1), Cond.fieldLink RX1 64 "TwoBanks$Fight" "spots" "J", Cond.methodLink RX1 73 Lib.Math.min.name, Cond.static Lib.Math.min.name, Cond.initialized "java/lang/Math", Cond.code Lib.Math.min.name Lib.Math.min.code 2 (some .int), Cond.fieldLink RX1 79 "TwoBanks$Fight" "spotCount" "I", Cond.fieldLink RX1 82 "TwoBanks$Fight" "full" "I"]
def wsX5_askBanks_r3 : List Cond := [Cond.fieldLink RX1 85 "TwoBanks$Fight" "reachedCount" "I", Cond.fieldLink RX1 88 "TwoBanks$Fight" "deadKnown" "Z", Cond.fieldLink RX1 14 "TwoBanks$Fight" "reached" "LTwoBanks$Marks;", Cond.fieldLink RX1 21 "TwoBanks$Fight" "won" "LTwoBanks$Marks;", Cond.fieldLink RX1 24 "TwoBanks$Fight" "lost" "LTwoBanks$Marks;", Cond.methodLink RX1 58 yX2_all, Cond.instanceMethod yX2_all, Cond.selects RX2 yX2_all yX2_all, Cond.code yX2_all cX2_all 1 (some .long), Cond.fieldLink RX2 22 "TwoBanks$Grid" "all" "J", Cond.methodLink RX1 67 yJ13_bitCount_95d88, Cond.static yJ13_bitCount_95d88, Cond.initialized RJ13, Cond.code yJ13_bitCount_95d88 cJ13_bitCount_95d88 2 (some .int), Cond.constantLong RJ13 314 (6148914691236517205), Cond.constantLong RJ13 316 (3689348814741910323), Cond.constantLong RJ13 318 (1085102592571150095), Cond.methodLink RX1 92 yX3_forget, Cond.instanceMethod yX3_forget, Cond.selects RX3 yX3_forget yX3_forget, Cond.initialized RX3, Cond.code yX3_forget cX3_forget 1 none, Cond.fieldLink RX3 13 "TwoBanks$Marks" "words" "[J", Cond.methodLink RX3 19 yJ7_fill_d0a16]
def wsX5_askBanks_r4 : List Cond := [Cond.static yJ7_fill_d0a16, Cond.initialized RJ7, Cond.code yJ7_fill_d0a16 cJ7_fill_d0a16 5 none, Cond.methodLink RX1 95 yX2_spread, Cond.instanceMethod yX2_spread, Cond.selects RX2 yX2_spread yX2_spread, Cond.code yX2_spread cX2_spread 10 (some .long), Cond.methodLink RX2 40 yX2_beside, Cond.instanceMethod yX2_beside, Cond.selects RX2 yX2_beside yX2_beside, Cond.code yX2_beside cX2_beside 13 (some .long), Cond.fieldLink RX2 35 "TwoBanks$Grid" "eastBank" "J", Cond.constantLong RX2 38 (-1), Cond.fieldLink RX2 32 "TwoBanks$Grid" "westBank" "J", Cond.methodLink RX1 99 yX3_mark, Cond.instanceMethod yX3_mark, Cond.selects RX3 yX3_mark yX3_mark, Cond.code yX3_mark cX3_mark 3 none, Cond.static yX5_bit, Cond.initialized RX5, Cond.code yX5_bit cX5_bit 1 (some .long)]
def wsX5_askBanks : List Cond := .code yX5_askBanks cX5_askBanks 1 none :: ((wsX5_askBanks_r1 ++ (wsX5_askBanks_r2 ++ (wsX5_askBanks_r3 ++ wsX5_askBanks_r4))) ++ wsX50 ++ wsX20 ++ wsX10 ++ wsX30)
def wsX5_winner_r1 : List Cond := [Cond.fieldLink RX5 33 "TwoBanks" "bankFight" "LTwoBanks$Fight;", Cond.methodLink RX5 48 yX5_isColour, Cond.static yX5_isColour, Cond.initialized RX5, Cond.code yX5_isColour cX5_isColour 1 (some .boolean), Cond.methodLink RX5 150 yX5_tooManyEmpty, Cond.instanceMethod yX5_tooManyEmpty, Cond.selects RX5 yX5_tooManyEmpty yX5_tooManyEmpty, Cond.code yX5_tooManyEmpty cX5_tooManyEmpty 1 (some .boolean), Cond.methodLink RX5 140 yX5_empties, Cond.instanceMethod yX5_empties, Cond.selects RX5 yX5_empties yX5_empties, Cond.code yX5_empties cX5_empties 1 (some .long), Cond.fieldLink RX5 12 "TwoBanks" "grid" "LTwoBanks$Grid;", Cond.fieldLink RX5 115 "TwoBanks" "north" "J", Cond.fieldLink RX5 107 "TwoBanks" "west" "J", Cond.constantLong RX5 197 (-1), Cond.methodLink RX5 199 yX2_all, Cond.instanceMethod yX2_all, Cond.selects RX2 yX2_all yX2_all, Cond.initialized RX2, Cond.code yX2_all cX2_all 1 (some .long), Cond.fieldLink RX2 22 "TwoBanks$Grid" "all" "J", Cond.methodLink RX5 129 yJ13_bitCount_95d88]
def wsX5_winner_r2 : List Cond := [Cond.static yJ13_bitCount_95d88, Cond.initialized RJ13, Cond.code yJ13_bitCount_95d88 cJ13_bitCount_95d88 2 (some .int), Cond.constantLong RJ13 314 (6148914691236517205), Cond.constantLong RJ13 316 (3689348814741910323), Cond.constantLong RJ13 318 (1085102592571150095), Cond.methodLink RX5 154 yX5_askBanks, Cond.instanceMethod yX5_askBanks, Cond.selects RX5 yX5_askBanks yX5_askBanks, Cond.code yX5_askBanks cX5_askBanks 1 none, Cond.methodLink RX5 209 yX2_northBank, Cond.instanceMethod yX2_northBank, Cond.selects RX2 yX2_northBank yX2_northBank, Cond.code yX2_northBank cX2_northBank 1 (some .long), Cond.fieldLink RX2 26 "TwoBanks$Grid" "northBank" "J", Cond.methodLink RX5 212 yX2_southBank, Cond.instanceMethod yX2_southBank, Cond.selects RX2 yX2_southBank yX2_southBank, Cond.code yX2_southBank cX2_southBank 1 (some .long), Cond.fieldLink RX2 29 "TwoBanks$Grid" "southBank" "J", Cond.methodLink RX5 230 yX1_ask, Cond.instanceMethod yX1_ask, Cond.selects RX1 yX1_ask yX1_ask, Cond.initialized RX1]
def wsX5_winner_r3 : List Cond := [Cond.code yX1_ask cX1_ask 12 none, Cond.fieldLink RX1 27 "TwoBanks$Fight" "rows" "I", Cond.fieldLink RX1 36 "TwoBanks$Fight" "columns" "I", Cond.fieldLink RX1 41 "TwoBanks$Fight" "own" "J", Cond.fieldLink RX1 45 "TwoBanks$Fight" "others" "J", Cond.fieldLink RX1 48 "TwoBanks$Fight" "from" "J", Cond.fieldLink RX1 51 "TwoBanks$Fight" "to" "J", Cond.methodLink RX1 31 yX2_rows, Cond.instanceMethod yX2_rows, Cond.selects RX2 yX2_rows yX2_rows, Cond.code yX2_rows cX2_rows 1 (some .int), Cond.fieldLink RX2 9 "TwoBanks$Grid" "rows" "I", Cond.methodLink RX1 39 yX2_columns, Cond.instanceMethod yX2_columns, Cond.selects RX2 yX2_columns yX2_columns, Cond.code yX2_columns cX2_columns 1 (some .int), Cond.fieldLink RX2 15 "TwoBanks$Grid" "columns" "I", Cond.methodLink RX1 54 yX1_prepare, Cond.instanceMethod yX1_prepare, Cond.selects RX1 yX1_prepare yX1_prepare, Cond.code yX1_prepare cX1_prepare 5 none, Cond.constantLong RX1 62 (-1), Cond.fieldLink RX1 64 "TwoBanks$Fight" "spots" "J", Cond.methodLink RX1 73 Lib.Math.min.name]
def wsX5_winner_r4 : List Cond := [Cond.static Lib.Math.min.name, Cond.initialized "java/lang/Math", Cond.code Lib.Math.min.name Lib.Math.min.code 2 (some .int), Cond.fieldLink RX1 79 "TwoBanks$Fight" "spotCount" "I", Cond.fieldLink RX1 82 "TwoBanks$Fight" "full" "I", Cond.fieldLink RX1 85 "TwoBanks$Fight" "reachedCount" "I", Cond.fieldLink RX1 88 "TwoBanks$Fight" "deadKnown" "Z", Cond.fieldLink RX1 14 "TwoBanks$Fight" "reached" "LTwoBanks$Marks;", Cond.fieldLink RX1 21 "TwoBanks$Fight" "won" "LTwoBanks$Marks;", Cond.fieldLink RX1 24 "TwoBanks$Fight" "lost" "LTwoBanks$Marks;", Cond.methodLink RX1 58 yX2_all, Cond.methodLink RX1 67 yJ13_bitCount_95d88, Cond.methodLink RX1 92 yX3_forget, Cond.instanceMethod yX3_forget, Cond.selects RX3 yX3_forget yX3_forget, Cond.initialized RX3, Cond.code yX3_forget cX3_forget 1 none, Cond.fieldLink RX3 13 "TwoBanks$Marks" "words" "[J", Cond.methodLink RX3 19 yJ7_fill_d0a16, Cond.static yJ7_fill_d0a16, Cond.initialized RJ7, Cond.code yJ7_fill_d0a16 cJ7_fill_d0a16 5 none, Cond.methodLink RX1 95 yX2_spread, Cond.instanceMethod yX2_spread]
def wsX5_winner_r5 : List Cond := [Cond.selects RX2 yX2_spread yX2_spread, Cond.code yX2_spread cX2_spread 10 (some .long), Cond.methodLink RX2 40 yX2_beside, Cond.instanceMethod yX2_beside, Cond.selects RX2 yX2_beside yX2_beside, Cond.code yX2_beside cX2_beside 13 (some .long), Cond.fieldLink RX2 35 "TwoBanks$Grid" "eastBank" "J", Cond.constantLong RX2 38 (-1), Cond.fieldLink RX2 32 "TwoBanks$Grid" "westBank" "J", Cond.methodLink RX1 99 yX3_mark, Cond.instanceMethod yX3_mark, Cond.selects RX3 yX3_mark yX3_mark, Cond.code yX3_mark cX3_mark 3 none, Cond.static yX5_bit, Cond.code yX5_bit cX5_bit 1 (some .long), Cond.methodLink RX5 157 yX1_makerWins, Cond.instanceMethod yX1_makerWins, Cond.selects RX1 yX1_makerWins yX1_makerWins, Cond.code yX1_makerWins cX1_makerWins 2 (some .boolean), Cond.methodLink RX1 102 yX1_holds, Cond.static yX1_holds, Cond.code yX1_holds cX1_holds 11 (some .boolean), Cond.methodLink RX1 118 yX3_has, Cond.instanceMethod yX3_has]
def wsX5_winner_r6 : List Cond := [Cond.selects RX3 yX3_has yX3_has, Cond.code yX3_has cX3_has 3 (some .boolean)]
def wsX5_winner : List Cond := .code yX5_winner cX5_winner 2 (some .int) :: ((wsX5_winner_r1 ++ (wsX5_winner_r2 ++ (wsX5_winner_r3 ++ (wsX5_winner_r4 ++ (wsX5_winner_r5 ++ wsX5_winner_r6))))) ++ wsX50 ++ wsX20 ++ wsX10 ++ wsX30)
def wsX5_first_r1 : List Cond := [Cond.fieldLink RX5 33 "TwoBanks" "bankFight" "LTwoBanks$Fight;", Cond.methodLink RX5 48 yX5_isColour, Cond.static yX5_isColour, Cond.initialized RX5, Cond.code yX5_isColour cX5_isColour 1 (some .boolean), Cond.methodLink RX5 150 yX5_tooManyEmpty, Cond.instanceMethod yX5_tooManyEmpty, Cond.selects RX5 yX5_tooManyEmpty yX5_tooManyEmpty, Cond.code yX5_tooManyEmpty cX5_tooManyEmpty 1 (some .boolean), Cond.methodLink RX5 140 yX5_empties, Cond.instanceMethod yX5_empties, Cond.selects RX5 yX5_empties yX5_empties, Cond.code yX5_empties cX5_empties 1 (some .long), Cond.fieldLink RX5 12 "TwoBanks" "grid" "LTwoBanks$Grid;", Cond.fieldLink RX5 115 "TwoBanks" "north" "J", Cond.fieldLink RX5 107 "TwoBanks" "west" "J", Cond.constantLong RX5 197 (-1), Cond.methodLink RX5 199 yX2_all, Cond.instanceMethod yX2_all, Cond.selects RX2 yX2_all yX2_all, Cond.initialized RX2, Cond.code yX2_all cX2_all 1 (some .long), Cond.fieldLink RX2 22 "TwoBanks$Grid" "all" "J", Cond.methodLink RX5 129 yJ13_bitCount_95d88]
def wsX5_first_r2 : List Cond := [Cond.static yJ13_bitCount_95d88, Cond.initialized RJ13, Cond.code yJ13_bitCount_95d88 cJ13_bitCount_95d88 2 (some .int), Cond.constantLong RJ13 314 (6148914691236517205), Cond.constantLong RJ13 316 (3689348814741910323), Cond.constantLong RJ13 318 (1085102592571150095), Cond.methodLink RX5 154 yX5_askBanks, Cond.instanceMethod yX5_askBanks, Cond.selects RX5 yX5_askBanks yX5_askBanks, Cond.code yX5_askBanks cX5_askBanks 1 none, Cond.methodLink RX5 209 yX2_northBank, Cond.instanceMethod yX2_northBank, Cond.selects RX2 yX2_northBank yX2_northBank, Cond.code yX2_northBank cX2_northBank 1 (some .long), Cond.fieldLink RX2 26 "TwoBanks$Grid" "northBank" "J", Cond.methodLink RX5 212 yX2_southBank, Cond.instanceMethod yX2_southBank, Cond.selects RX2 yX2_southBank yX2_southBank, Cond.code yX2_southBank cX2_southBank 1 (some .long), Cond.fieldLink RX2 29 "TwoBanks$Grid" "southBank" "J", Cond.methodLink RX5 230 yX1_ask, Cond.instanceMethod yX1_ask, Cond.selects RX1 yX1_ask yX1_ask, Cond.initialized RX1]
def wsX5_first_r3 : List Cond := [Cond.code yX1_ask cX1_ask 12 none, Cond.fieldLink RX1 27 "TwoBanks$Fight" "rows" "I", Cond.fieldLink RX1 36 "TwoBanks$Fight" "columns" "I", Cond.fieldLink RX1 41 "TwoBanks$Fight" "own" "J", Cond.fieldLink RX1 45 "TwoBanks$Fight" "others" "J", Cond.fieldLink RX1 48 "TwoBanks$Fight" "from" "J", Cond.fieldLink RX1 51 "TwoBanks$Fight" "to" "J", Cond.methodLink RX1 31 yX2_rows, Cond.instanceMethod yX2_rows, Cond.selects RX2 yX2_rows yX2_rows, Cond.code yX2_rows cX2_rows 1 (some .int), Cond.fieldLink RX2 9 "TwoBanks$Grid" "rows" "I", Cond.methodLink RX1 39 yX2_columns, Cond.instanceMethod yX2_columns, Cond.selects RX2 yX2_columns yX2_columns, Cond.code yX2_columns cX2_columns 1 (some .int), Cond.fieldLink RX2 15 "TwoBanks$Grid" "columns" "I", Cond.methodLink RX1 54 yX1_prepare, Cond.instanceMethod yX1_prepare, Cond.selects RX1 yX1_prepare yX1_prepare, Cond.code yX1_prepare cX1_prepare 5 none, Cond.constantLong RX1 62 (-1), Cond.fieldLink RX1 64 "TwoBanks$Fight" "spots" "J", Cond.methodLink RX1 73 Lib.Math.min.name]
def wsX5_first_r4 : List Cond := [Cond.static Lib.Math.min.name, Cond.initialized "java/lang/Math", Cond.code Lib.Math.min.name Lib.Math.min.code 2 (some .int), Cond.fieldLink RX1 79 "TwoBanks$Fight" "spotCount" "I", Cond.fieldLink RX1 82 "TwoBanks$Fight" "full" "I", Cond.fieldLink RX1 85 "TwoBanks$Fight" "reachedCount" "I", Cond.fieldLink RX1 88 "TwoBanks$Fight" "deadKnown" "Z", Cond.fieldLink RX1 14 "TwoBanks$Fight" "reached" "LTwoBanks$Marks;", Cond.fieldLink RX1 21 "TwoBanks$Fight" "won" "LTwoBanks$Marks;", Cond.fieldLink RX1 24 "TwoBanks$Fight" "lost" "LTwoBanks$Marks;", Cond.methodLink RX1 58 yX2_all, Cond.methodLink RX1 67 yJ13_bitCount_95d88, Cond.methodLink RX1 92 yX3_forget, Cond.instanceMethod yX3_forget, Cond.selects RX3 yX3_forget yX3_forget, Cond.initialized RX3, Cond.code yX3_forget cX3_forget 1 none, Cond.fieldLink RX3 13 "TwoBanks$Marks" "words" "[J", Cond.methodLink RX3 19 yJ7_fill_d0a16, Cond.static yJ7_fill_d0a16, Cond.initialized RJ7, Cond.code yJ7_fill_d0a16 cJ7_fill_d0a16 5 none, Cond.methodLink RX1 95 yX2_spread, Cond.instanceMethod yX2_spread]
def wsX5_first_r5 : List Cond := [Cond.selects RX2 yX2_spread yX2_spread, Cond.code yX2_spread cX2_spread 10 (some .long), Cond.methodLink RX2 40 yX2_beside, Cond.instanceMethod yX2_beside, Cond.selects RX2 yX2_beside yX2_beside, Cond.code yX2_beside cX2_beside 13 (some .long), Cond.fieldLink RX2 35 "TwoBanks$Grid" "eastBank" "J", Cond.constantLong RX2 38 (-1), Cond.fieldLink RX2 32 "TwoBanks$Grid" "westBank" "J", Cond.methodLink RX1 99 yX3_mark, Cond.instanceMethod yX3_mark, Cond.selects RX3 yX3_mark yX3_mark, Cond.code yX3_mark cX3_mark 3 none, Cond.static yX5_bit, Cond.code yX5_bit cX5_bit 1 (some .long), Cond.methodLink RX5 161 yX1_winningField, Cond.instanceMethod yX1_winningField, Cond.selects RX1 yX1_winningField yX1_winningField, Cond.code yX1_winningField cX1_winningField 7 (some .int), Cond.methodLink RX1 114 yX1_winsAt, Cond.instanceMethod yX1_winsAt, Cond.selects RX1 yX1_winsAt yX1_winsAt, Cond.code yX1_winsAt cX1_winsAt 4 (some .boolean), Cond.methodLink RX1 102 yX1_holds]
def wsX5_first_r6 : List Cond := [Cond.static yX1_holds, Cond.code yX1_holds cX1_holds 11 (some .boolean), Cond.methodLink RX1 118 yX3_has, Cond.instanceMethod yX3_has, Cond.selects RX3 yX3_has yX3_has, Cond.code yX3_has cX3_has 3 (some .boolean)]
def wsX5_first : List Cond := .code yX5_first cX5_first 3 (some .int) :: ((wsX5_first_r1 ++ (wsX5_first_r2 ++ (wsX5_first_r3 ++ (wsX5_first_r4 ++ (wsX5_first_r5 ++ wsX5_first_r6))))) ++ wsX50 ++ wsX20 ++ wsX10 ++ wsX30)
def wsX5_fillings_r1 : List Cond := [Cond.fieldLink RX5 33 "TwoBanks" "bankFight" "LTwoBanks$Fight;", Cond.methodLink RX5 150 yX5_tooManyEmpty, Cond.instanceMethod yX5_tooManyEmpty, Cond.selects RX5 yX5_tooManyEmpty yX5_tooManyEmpty, Cond.initialized RX5, Cond.code yX5_tooManyEmpty cX5_tooManyEmpty 1 (some .boolean), Cond.methodLink RX5 140 yX5_empties, Cond.instanceMethod yX5_empties, Cond.selects RX5 yX5_empties yX5_empties, Cond.code yX5_empties cX5_empties 1 (some .long), Cond.fieldLink RX5 12 "TwoBanks" "grid" "LTwoBanks$Grid;", Cond.fieldLink RX5 115 "TwoBanks" "north" "J", Cond.fieldLink RX5 107 "TwoBanks" "west" "J", Cond.constantLong RX5 197 (-1), Cond.methodLink RX5 199 yX2_all, Cond.instanceMethod yX2_all, Cond.selects RX2 yX2_all yX2_all, Cond.initialized RX2, Cond.code yX2_all cX2_all 1 (some .long), Cond.fieldLink RX2 22 "TwoBanks$Grid" "all" "J", Cond.methodLink RX5 129 yJ13_bitCount_95d88, Cond.static yJ13_bitCount_95d88, Cond.initialized RJ13, Cond.code yJ13_bitCount_95d88 cJ13_bitCount_95d88 2 (some .int)]
def wsX5_fillings_r2 : List Cond := [Cond.constantLong RJ13 314 (6148914691236517205), Cond.constantLong RJ13 316 (3689348814741910323), Cond.constantLong RJ13 318 (1085102592571150095), Cond.methodLink RX5 154 yX5_askBanks, Cond.instanceMethod yX5_askBanks, Cond.selects RX5 yX5_askBanks yX5_askBanks, Cond.code yX5_askBanks cX5_askBanks 1 none, Cond.methodLink RX5 209 yX2_northBank, Cond.instanceMethod yX2_northBank, Cond.selects RX2 yX2_northBank yX2_northBank, Cond.code yX2_northBank cX2_northBank 1 (some .long), Cond.fieldLink RX2 26 "TwoBanks$Grid" "northBank" "J", Cond.methodLink RX5 212 yX2_southBank, Cond.instanceMethod yX2_southBank, Cond.selects RX2 yX2_southBank yX2_southBank, Cond.code yX2_southBank cX2_southBank 1 (some .long), Cond.fieldLink RX2 29 "TwoBanks$Grid" "southBank" "J", Cond.methodLink RX5 230 yX1_ask, Cond.instanceMethod yX1_ask, Cond.selects RX1 yX1_ask yX1_ask, Cond.initialized RX1, Cond.code yX1_ask cX1_ask 12 none, Cond.fieldLink RX1 27 "TwoBanks$Fight" "rows" "I", Cond.fieldLink RX1 36 "TwoBanks$Fight" "columns" "I"]
def wsX5_fillings_r3 : List Cond := [Cond.fieldLink RX1 41 "TwoBanks$Fight" "own" "J", Cond.fieldLink RX1 45 "TwoBanks$Fight" "others" "J", Cond.fieldLink RX1 48 "TwoBanks$Fight" "from" "J", Cond.fieldLink RX1 51 "TwoBanks$Fight" "to" "J", Cond.methodLink RX1 31 yX2_rows, Cond.instanceMethod yX2_rows, Cond.selects RX2 yX2_rows yX2_rows, Cond.code yX2_rows cX2_rows 1 (some .int), Cond.fieldLink RX2 9 "TwoBanks$Grid" "rows" "I", Cond.methodLink RX1 39 yX2_columns, Cond.instanceMethod yX2_columns, Cond.selects RX2 yX2_columns yX2_columns, Cond.code yX2_columns cX2_columns 1 (some .int), Cond.fieldLink RX2 15 "TwoBanks$Grid" "columns" "I", Cond.methodLink RX1 54 yX1_prepare, Cond.instanceMethod yX1_prepare, Cond.selects RX1 yX1_prepare yX1_prepare, Cond.code yX1_prepare cX1_prepare 5 none, Cond.constantLong RX1 62 (-1), Cond.fieldLink RX1 64 "TwoBanks$Fight" "spots" "J", Cond.methodLink RX1 73 Lib.Math.min.name, Cond.static Lib.Math.min.name, Cond.initialized "java/lang/Math", Cond.code Lib.Math.min.name Lib.Math.min.code 2 (some .int)]
def wsX5_fillings_r4 : List Cond := [Cond.fieldLink RX1 79 "TwoBanks$Fight" "spotCount" "I", Cond.fieldLink RX1 82 "TwoBanks$Fight" "full" "I", Cond.fieldLink RX1 85 "TwoBanks$Fight" "reachedCount" "I", Cond.fieldLink RX1 88 "TwoBanks$Fight" "deadKnown" "Z", Cond.fieldLink RX1 14 "TwoBanks$Fight" "reached" "LTwoBanks$Marks;", Cond.fieldLink RX1 21 "TwoBanks$Fight" "won" "LTwoBanks$Marks;", Cond.fieldLink RX1 24 "TwoBanks$Fight" "lost" "LTwoBanks$Marks;", Cond.methodLink RX1 58 yX2_all, Cond.methodLink RX1 67 yJ13_bitCount_95d88, Cond.methodLink RX1 92 yX3_forget, Cond.instanceMethod yX3_forget, Cond.selects RX3 yX3_forget yX3_forget, Cond.initialized RX3, Cond.code yX3_forget cX3_forget 1 none, Cond.fieldLink RX3 13 "TwoBanks$Marks" "words" "[J", Cond.methodLink RX3 19 yJ7_fill_d0a16, Cond.static yJ7_fill_d0a16, Cond.initialized RJ7, Cond.code yJ7_fill_d0a16 cJ7_fill_d0a16 5 none, Cond.methodLink RX1 95 yX2_spread, Cond.instanceMethod yX2_spread, Cond.selects RX2 yX2_spread yX2_spread, Cond.code yX2_spread cX2_spread 10 (some .long), Cond.methodLink RX2 40 yX2_beside]
def wsX5_fillings_r5 : List Cond := [Cond.instanceMethod yX2_beside, Cond.selects RX2 yX2_beside yX2_beside, Cond.code yX2_beside cX2_beside 13 (some .long), Cond.fieldLink RX2 35 "TwoBanks$Grid" "eastBank" "J", Cond.constantLong RX2 38 (-1), Cond.fieldLink RX2 32 "TwoBanks$Grid" "westBank" "J", Cond.methodLink RX1 99 yX3_mark, Cond.instanceMethod yX3_mark, Cond.selects RX3 yX3_mark yX3_mark, Cond.code yX3_mark cX3_mark 3 none, Cond.static yX5_bit, Cond.code yX5_bit cX5_bit 1 (some .long), Cond.methodLink RX5 165 yX1_reachedFillings, Cond.instanceMethod yX1_reachedFillings, Cond.selects RX1 yX1_reachedFillings yX1_reachedFillings, Cond.code yX1_reachedFillings cX1_reachedFillings 1 (some .int)]
def wsX5_fillings : List Cond := .code yX5_fillings cX5_fillings 1 (some .int) :: ((wsX5_fillings_r1 ++ (wsX5_fillings_r2 ++ (wsX5_fillings_r3 ++ (wsX5_fillings_r4 ++ wsX5_fillings_r5)))) ++ wsX50 ++ wsX20 ++ wsX10 ++ wsX30)
def wsX5_dead_r1 : List Cond := [Cond.fieldLink RX5 12 "TwoBanks" "grid" "LTwoBanks$Grid;", Cond.fieldLink RX5 33 "TwoBanks" "bankFight" "LTwoBanks$Fight;", Cond.methodLink RX5 51 yX2_has, Cond.instanceMethod yX2_has, Cond.selects RX2 yX2_has yX2_has, Cond.initialized RX2, Cond.code yX2_has cX2_has 2 (some .boolean), Cond.fieldLink RX2 9 "TwoBanks$Grid" "rows" "I", Cond.fieldLink RX2 15 "TwoBanks$Grid" "columns" "I", Cond.methodLink RX5 68 yX5_stoneAt, Cond.instanceMethod yX5_stoneAt, Cond.selects RX5 yX5_stoneAt yX5_stoneAt, Cond.initialized RX5, Cond.code yX5_stoneAt cX5_stoneAt 2 (some .int), Cond.fieldLink RX5 115 "TwoBanks" "north" "J", Cond.fieldLink RX5 107 "TwoBanks" "west" "J", Cond.methodLink RX5 171 yX5_bit, Cond.static yX5_bit, Cond.code yX5_bit cX5_bit 1 (some .long), Cond.methodLink RX5 150 yX5_tooManyEmpty, Cond.instanceMethod yX5_tooManyEmpty, Cond.selects RX5 yX5_tooManyEmpty yX5_tooManyEmpty, Cond.code yX5_tooManyEmpty cX5_tooManyEmpty 1 (some .boolean), Cond.methodLink RX5 140 yX5_empties]
def wsX5_dead_r2 : List Cond := [Cond.instanceMethod yX5_empties, Cond.selects RX5 yX5_empties yX5_empties, Cond.code yX5_empties cX5_empties 1 (some .long), Cond.constantLong RX5 197 (-1), Cond.methodLink RX5 199 yX2_all, Cond.instanceMethod yX2_all, Cond.selects RX2 yX2_all yX2_all, Cond.code yX2_all cX2_all 1 (some .long), Cond.fieldLink RX2 22 "TwoBanks$Grid" "all" "J", Cond.methodLink RX5 129 yJ13_bitCount_95d88, Cond.static yJ13_bitCount_95d88, Cond.initialized RJ13, Cond.code yJ13_bitCount_95d88 cJ13_bitCount_95d88 2 (some .int), Cond.constantLong RJ13 314 (6148914691236517205), Cond.constantLong RJ13 316 (3689348814741910323), Cond.constantLong RJ13 318 (1085102592571150095), Cond.methodLink RX5 154 yX5_askBanks, Cond.instanceMethod yX5_askBanks, Cond.selects RX5 yX5_askBanks yX5_askBanks, Cond.code yX5_askBanks cX5_askBanks 1 none, Cond.methodLink RX5 209 yX2_northBank, Cond.instanceMethod yX2_northBank, Cond.selects RX2 yX2_northBank yX2_northBank, Cond.code yX2_northBank cX2_northBank 1 (some .long)]
def wsX5_dead_r3 : List Cond := [Cond.fieldLink RX2 26 "TwoBanks$Grid" "northBank" "J", Cond.methodLink RX5 212 yX2_southBank, Cond.instanceMethod yX2_southBank, Cond.selects RX2 yX2_southBank yX2_southBank, Cond.code yX2_southBank cX2_southBank 1 (some .long), Cond.fieldLink RX2 29 "TwoBanks$Grid" "southBank" "J", Cond.methodLink RX5 230 yX1_ask, Cond.instanceMethod yX1_ask, Cond.selects RX1 yX1_ask yX1_ask, Cond.initialized RX1, Cond.code yX1_ask cX1_ask 12 none, Cond.fieldLink RX1 27 "TwoBanks$Fight" "rows" "I", Cond.fieldLink RX1 36 "TwoBanks$Fight" "columns" "I", Cond.fieldLink RX1 41 "TwoBanks$Fight" "own" "J", Cond.fieldLink RX1 45 "TwoBanks$Fight" "others" "J", Cond.fieldLink RX1 48 "TwoBanks$Fight" "from" "J", Cond.fieldLink RX1 51 "TwoBanks$Fight" "to" "J", Cond.methodLink RX1 31 yX2_rows, Cond.instanceMethod yX2_rows, Cond.selects RX2 yX2_rows yX2_rows, Cond.code yX2_rows cX2_rows 1 (some .int), Cond.methodLink RX1 39 yX2_columns, Cond.instanceMethod yX2_columns, Cond.selects RX2 yX2_columns yX2_columns]
def wsX5_dead_r4 : List Cond := [Cond.code yX2_columns cX2_columns 1 (some .int), Cond.methodLink RX1 54 yX1_prepare, Cond.instanceMethod yX1_prepare, Cond.selects RX1 yX1_prepare yX1_prepare, Cond.code yX1_prepare cX1_prepare 5 none, Cond.constantLong RX1 62 (-1), Cond.fieldLink RX1 64 "TwoBanks$Fight" "spots" "J", Cond.methodLink RX1 73 Lib.Math.min.name, Cond.static Lib.Math.min.name, Cond.initialized "java/lang/Math", Cond.code Lib.Math.min.name Lib.Math.min.code 2 (some .int), Cond.fieldLink RX1 79 "TwoBanks$Fight" "spotCount" "I", Cond.fieldLink RX1 82 "TwoBanks$Fight" "full" "I", Cond.fieldLink RX1 85 "TwoBanks$Fight" "reachedCount" "I", Cond.fieldLink RX1 88 "TwoBanks$Fight" "deadKnown" "Z", Cond.fieldLink RX1 14 "TwoBanks$Fight" "reached" "LTwoBanks$Marks;", Cond.fieldLink RX1 21 "TwoBanks$Fight" "won" "LTwoBanks$Marks;", Cond.fieldLink RX1 24 "TwoBanks$Fight" "lost" "LTwoBanks$Marks;", Cond.methodLink RX1 58 yX2_all, Cond.methodLink RX1 67 yJ13_bitCount_95d88, Cond.methodLink RX1 92 yX3_forget, Cond.instanceMethod yX3_forget, Cond.selects RX3 yX3_forget yX3_forget, Cond.initialized RX3]
def wsX5_dead_r5 : List Cond := [Cond.code yX3_forget cX3_forget 1 none, Cond.fieldLink RX3 13 "TwoBanks$Marks" "words" "[J", Cond.methodLink RX3 19 yJ7_fill_d0a16, Cond.static yJ7_fill_d0a16, Cond.initialized RJ7, Cond.code yJ7_fill_d0a16 cJ7_fill_d0a16 5 none, Cond.methodLink RX1 95 yX2_spread, Cond.instanceMethod yX2_spread, Cond.selects RX2 yX2_spread yX2_spread, Cond.code yX2_spread cX2_spread 10 (some .long), Cond.methodLink RX2 40 yX2_beside, Cond.instanceMethod yX2_beside, Cond.selects RX2 yX2_beside yX2_beside, Cond.code yX2_beside cX2_beside 13 (some .long), Cond.fieldLink RX2 35 "TwoBanks$Grid" "eastBank" "J", Cond.constantLong RX2 38 (-1), Cond.fieldLink RX2 32 "TwoBanks$Grid" "westBank" "J", Cond.methodLink RX1 99 yX3_mark, Cond.instanceMethod yX3_mark, Cond.selects RX3 yX3_mark yX3_mark, Cond.code yX3_mark cX3_mark 3 none, Cond.methodLink RX5 168 yX1_deadFields, Cond.instanceMethod yX1_deadFields, Cond.selects RX1 yX1_deadFields yX1_deadFields]
def wsX5_dead_r6 : List Cond := [Cond.code yX1_deadFields cX1_deadFields 1 (some .long), Cond.fieldLink RX1 125 "TwoBanks$Fight" "deadSpots" "J", Cond.methodLink RX1 122 yX1_findDead, Cond.instanceMethod yX1_findDead, Cond.selects RX1 yX1_findDead yX1_findDead, Cond.code yX1_findDead cX1_findDead 3 none, Cond.methodLink RX1 128 yX1_neverMatters, Cond.instanceMethod yX1_neverMatters, Cond.selects RX1 yX1_neverMatters yX1_neverMatters, Cond.code yX1_neverMatters cX1_neverMatters 3 (some .boolean), Cond.methodLink RX1 118 yX3_has, Cond.instanceMethod yX3_has, Cond.selects RX3 yX3_has yX3_has, Cond.code yX3_has cX3_has 3 (some .boolean)]
def wsX5_dead : List Cond := .code yX5_dead cX5_dead 2 (some .int) :: ((wsX5_dead_r1 ++ (wsX5_dead_r2 ++ (wsX5_dead_r3 ++ (wsX5_dead_r4 ++ (wsX5_dead_r5 ++ wsX5_dead_r6))))) ++ wsX50 ++ wsX20 ++ wsX10 ++ wsX30)
def wsX5_canLink_r1 : List Cond := [Cond.fieldLink RX5 12 "TwoBanks" "grid" "LTwoBanks$Grid;", Cond.methodLink RX5 48 yX5_isColour, Cond.static yX5_isColour, Cond.initialized RX5, Cond.code yX5_isColour cX5_isColour 1 (some .boolean), Cond.methodLink RX5 51 yX2_has, Cond.instanceMethod yX2_has, Cond.selects RX2 yX2_has yX2_has, Cond.initialized RX2, Cond.code yX2_has cX2_has 2 (some .boolean), Cond.fieldLink RX2 9 "TwoBanks$Grid" "rows" "I", Cond.fieldLink RX2 15 "TwoBanks$Grid" "columns" "I", Cond.methodLink RX5 101 yX5_other, Cond.static yX5_other, Cond.code yX5_other cX5_other 1 (some .int), Cond.methodLink RX5 202 yX5_stonesOf, Cond.instanceMethod yX5_stonesOf, Cond.selects RX5 yX5_stonesOf yX5_stonesOf, Cond.code yX5_stonesOf cX5_stonesOf 2 (some .long), Cond.fieldLink RX5 115 "TwoBanks" "north" "J", Cond.fieldLink RX5 107 "TwoBanks" "west" "J", Cond.methodLink RX5 171 yX5_bit, Cond.static yX5_bit, Cond.code yX5_bit cX5_bit 1 (some .long)]
def wsX5_canLink_r2 : List Cond := [Cond.methodLink RX5 150 yX5_tooManyEmpty, Cond.instanceMethod yX5_tooManyEmpty, Cond.selects RX5 yX5_tooManyEmpty yX5_tooManyEmpty, Cond.code yX5_tooManyEmpty cX5_tooManyEmpty 1 (some .boolean), Cond.methodLink RX5 140 yX5_empties, Cond.instanceMethod yX5_empties, Cond.selects RX5 yX5_empties yX5_empties, Cond.code yX5_empties cX5_empties 1 (some .long), Cond.constantLong RX5 197 (-1), Cond.methodLink RX5 199 yX2_all, Cond.instanceMethod yX2_all, Cond.selects RX2 yX2_all yX2_all, Cond.code yX2_all cX2_all 1 (some .long), Cond.fieldLink RX2 22 "TwoBanks$Grid" "all" "J", Cond.methodLink RX5 129 yJ13_bitCount_95d88, Cond.static yJ13_bitCount_95d88, Cond.initialized RJ13, Cond.code yJ13_bitCount_95d88 cJ13_bitCount_95d88 2 (some .int), Cond.constantLong RJ13 314 (6148914691236517205), Cond.constantLong RJ13 316 (3689348814741910323), Cond.constantLong RJ13 318 (1085102592571150095)]
def wsX5_canLink : List Cond := .code yX5_canLink cX5_canLink 6 (some .boolean) :: ((wsX5_canLink_r1 ++ wsX5_canLink_r2) ++ wsX50 ++ wsX20)
def wsX5_askLink_r1 : List Cond := [Cond.fieldLink RX5 37 "TwoBanks" "linkFight" "LTwoBanks$Fight;", Cond.fieldLink RX5 12 "TwoBanks" "grid" "LTwoBanks$Grid;", Cond.methodLink RX5 202 yX5_stonesOf, Cond.instanceMethod yX5_stonesOf, Cond.selects RX5 yX5_stonesOf yX5_stonesOf, Cond.initialized RX5, Cond.code yX5_stonesOf cX5_stonesOf 2 (some .long), Cond.fieldLink RX5 115 "TwoBanks" "north" "J", Cond.fieldLink RX5 107 "TwoBanks" "west" "J", Cond.methodLink RX5 101 yX5_other, Cond.static yX5_other, Cond.code yX5_other cX5_other 1 (some .int), Cond.methodLink RX5 171 yX5_bit, Cond.static yX5_bit, Cond.code yX5_bit cX5_bit 1 (some .long), Cond.methodLink RX5 230 yX1_ask, Cond.instanceMethod yX1_ask, Cond.selects RX1 yX1_ask yX1_ask, Cond.initialized RX1, Cond.code yX1_ask cX1_ask 12 none, Cond.fieldLink RX1 27 "TwoBanks$Fight" "rows" "I", Cond.fieldLink RX1 36 "TwoBanks$Fight" "columns" "I", Cond.fieldLink RX1 41 "TwoBanks$Fight" "own" "J", Cond.fieldLink RX1 45 "TwoBanks$Fight" "others" "J"]
def wsX5_askLink_r2 : List Cond := [Cond.fieldLink RX1 48 "TwoBanks$Fight" "from" "J", Cond.fieldLink RX1 51 "TwoBanks$Fight" "to" "J", Cond.methodLink RX1 31 yX2_rows, Cond.instanceMethod yX2_rows, Cond.selects RX2 yX2_rows yX2_rows, Cond.initialized RX2, Cond.code yX2_rows cX2_rows 1 (some .int), Cond.fieldLink RX2 9 "TwoBanks$Grid" "rows" "I", Cond.methodLink RX1 39 yX2_columns, Cond.instanceMethod yX2_columns, Cond.selects RX2 yX2_columns yX2_columns, Cond.code yX2_columns cX2_columns 1 (some .int), Cond.fieldLink RX2 15 "TwoBanks$Grid" "columns" "I", Cond.methodLink RX1 54 yX1_prepare, Cond.instanceMethod yX1_prepare, Cond.selects RX1 yX1_prepare yX1_prepare, Cond.code yX1_prepare cX1_prepare 5 none, Cond.constantLong RX1 62 (-1), Cond.fieldLink RX1 64 "TwoBanks$Fight" "spots" "J", Cond.methodLink RX1 73 Lib.Math.min.name, Cond.static Lib.Math.min.name, Cond.initialized "java/lang/Math", Cond.code Lib.Math.min.name Lib.Math.min.code 2 (some .int), Cond.fieldLink RX1 79 "TwoBanks$Fight" "spotCount" "I"]
def wsX5_askLink_r3 : List Cond := [Cond.fieldLink RX1 82 "TwoBanks$Fight" "full" "I", Cond.fieldLink RX1 85 "TwoBanks$Fight" "reachedCount" "I", Cond.fieldLink RX1 88 "TwoBanks$Fight" "deadKnown" "Z", Cond.fieldLink RX1 14 "TwoBanks$Fight" "reached" "LTwoBanks$Marks;", Cond.fieldLink RX1 21 "TwoBanks$Fight" "won" "LTwoBanks$Marks;", Cond.fieldLink RX1 24 "TwoBanks$Fight" "lost" "LTwoBanks$Marks;", Cond.methodLink RX1 58 yX2_all, Cond.instanceMethod yX2_all, Cond.selects RX2 yX2_all yX2_all, Cond.code yX2_all cX2_all 1 (some .long), Cond.fieldLink RX2 22 "TwoBanks$Grid" "all" "J", Cond.methodLink RX1 67 yJ13_bitCount_95d88, Cond.static yJ13_bitCount_95d88, Cond.initialized RJ13, Cond.code yJ13_bitCount_95d88 cJ13_bitCount_95d88 2 (some .int), Cond.constantLong RJ13 314 (6148914691236517205), Cond.constantLong RJ13 316 (3689348814741910323), Cond.constantLong RJ13 318 (1085102592571150095), Cond.methodLink RX1 92 yX3_forget, Cond.instanceMethod yX3_forget, Cond.selects RX3 yX3_forget yX3_forget, Cond.initialized RX3, Cond.code yX3_forget cX3_forget 1 none, Cond.fieldLink RX3 13 "TwoBanks$Marks" "words" "[J"]
def wsX5_askLink_r4 : List Cond := [Cond.methodLink RX3 19 yJ7_fill_d0a16, Cond.static yJ7_fill_d0a16, Cond.initialized RJ7, Cond.code yJ7_fill_d0a16 cJ7_fill_d0a16 5 none, Cond.methodLink RX1 95 yX2_spread, Cond.instanceMethod yX2_spread, Cond.selects RX2 yX2_spread yX2_spread, Cond.code yX2_spread cX2_spread 10 (some .long), Cond.methodLink RX2 40 yX2_beside, Cond.instanceMethod yX2_beside, Cond.selects RX2 yX2_beside yX2_beside, Cond.code yX2_beside cX2_beside 13 (some .long), Cond.fieldLink RX2 35 "TwoBanks$Grid" "eastBank" "J", Cond.constantLong RX2 38 (-1), Cond.fieldLink RX2 32 "TwoBanks$Grid" "westBank" "J", Cond.methodLink RX1 99 yX3_mark, Cond.instanceMethod yX3_mark, Cond.selects RX3 yX3_mark yX3_mark, Cond.code yX3_mark cX3_mark 3 none]
def wsX5_askLink : List Cond := .code yX5_askLink cX5_askLink 4 none :: ((wsX5_askLink_r1 ++ (wsX5_askLink_r2 ++ (wsX5_askLink_r3 ++ wsX5_askLink_r4))) ++ wsX50 ++ wsX10 ++ wsX20 ++ wsX30)
def wsX5_link_r1 : List Cond := [Cond.fieldLink RX5 37 "TwoBanks" "linkFight" "LTwoBanks$Fight;", Cond.methodLink RX5 174 yX5_canLink, Cond.instanceMethod yX5_canLink, Cond.selects RX5 yX5_canLink yX5_canLink, Cond.initialized RX5, Cond.code yX5_canLink cX5_canLink 6 (some .boolean), Cond.fieldLink RX5 12 "TwoBanks" "grid" "LTwoBanks$Grid;", Cond.methodLink RX5 48 yX5_isColour, Cond.static yX5_isColour, Cond.code yX5_isColour cX5_isColour 1 (some .boolean), Cond.methodLink RX5 51 yX2_has, Cond.instanceMethod yX2_has, Cond.selects RX2 yX2_has yX2_has, Cond.initialized RX2, Cond.code yX2_has cX2_has 2 (some .boolean), Cond.fieldLink RX2 9 "TwoBanks$Grid" "rows" "I", Cond.fieldLink RX2 15 "TwoBanks$Grid" "columns" "I", Cond.methodLink RX5 101 yX5_other, Cond.static yX5_other, Cond.code yX5_other cX5_other 1 (some .int), Cond.methodLink RX5 202 yX5_stonesOf, Cond.instanceMethod yX5_stonesOf, Cond.selects RX5 yX5_stonesOf yX5_stonesOf, Cond.code yX5_stonesOf cX5_stonesOf 2 (some .long)]
def wsX5_link_r2 : List Cond := [Cond.fieldLink RX5 115 "TwoBanks" "north" "J", Cond.fieldLink RX5 107 "TwoBanks" "west" "J", Cond.methodLink RX5 171 yX5_bit, Cond.static yX5_bit, Cond.code yX5_bit cX5_bit 1 (some .long), Cond.methodLink RX5 150 yX5_tooManyEmpty, Cond.instanceMethod yX5_tooManyEmpty, Cond.selects RX5 yX5_tooManyEmpty yX5_tooManyEmpty, Cond.code yX5_tooManyEmpty cX5_tooManyEmpty 1 (some .boolean), Cond.methodLink RX5 140 yX5_empties, Cond.instanceMethod yX5_empties, Cond.selects RX5 yX5_empties yX5_empties, Cond.code yX5_empties cX5_empties 1 (some .long), Cond.constantLong RX5 197 (-1), Cond.methodLink RX5 199 yX2_all, Cond.instanceMethod yX2_all, Cond.selects RX2 yX2_all yX2_all, Cond.code yX2_all cX2_all 1 (some .long), Cond.fieldLink RX2 22 "TwoBanks$Grid" "all" "J", Cond.methodLink RX5 129 yJ13_bitCount_95d88, Cond.static yJ13_bitCount_95d88, Cond.initialized RJ13, Cond.code yJ13_bitCount_95d88 cJ13_bitCount_95d88 2 (some .int), Cond.constantLong RJ13 314 (6148914691236517205)]
def wsX5_link_r3 : List Cond := [Cond.constantLong RJ13 316 (3689348814741910323), Cond.constantLong RJ13 318 (1085102592571150095), Cond.methodLink RX5 178 yX5_askLink, Cond.instanceMethod yX5_askLink, Cond.selects RX5 yX5_askLink yX5_askLink, Cond.code yX5_askLink cX5_askLink 4 none, Cond.methodLink RX5 230 yX1_ask, Cond.instanceMethod yX1_ask, Cond.selects RX1 yX1_ask yX1_ask, Cond.initialized RX1, Cond.code yX1_ask cX1_ask 12 none, Cond.fieldLink RX1 27 "TwoBanks$Fight" "rows" "I", Cond.fieldLink RX1 36 "TwoBanks$Fight" "columns" "I", Cond.fieldLink RX1 41 "TwoBanks$Fight" "own" "J", Cond.fieldLink RX1 45 "TwoBanks$Fight" "others" "J", Cond.fieldLink RX1 48 "TwoBanks$Fight" "from" "J", Cond.fieldLink RX1 51 "TwoBanks$Fight" "to" "J", Cond.methodLink RX1 31 yX2_rows, Cond.instanceMethod yX2_rows, Cond.selects RX2 yX2_rows yX2_rows, Cond.code yX2_rows cX2_rows 1 (some .int), Cond.methodLink RX1 39 yX2_columns, Cond.instanceMethod yX2_columns, Cond.selects RX2 yX2_columns yX2_columns]
def wsX5_link_r4 : List Cond := [Cond.code yX2_columns cX2_columns 1 (some .int), Cond.methodLink RX1 54 yX1_prepare, Cond.instanceMethod yX1_prepare, Cond.selects RX1 yX1_prepare yX1_prepare, Cond.code yX1_prepare cX1_prepare 5 none, Cond.constantLong RX1 62 (-1), Cond.fieldLink RX1 64 "TwoBanks$Fight" "spots" "J", Cond.methodLink RX1 73 Lib.Math.min.name, Cond.static Lib.Math.min.name, Cond.initialized "java/lang/Math", Cond.code Lib.Math.min.name Lib.Math.min.code 2 (some .int), Cond.fieldLink RX1 79 "TwoBanks$Fight" "spotCount" "I", Cond.fieldLink RX1 82 "TwoBanks$Fight" "full" "I", Cond.fieldLink RX1 85 "TwoBanks$Fight" "reachedCount" "I", Cond.fieldLink RX1 88 "TwoBanks$Fight" "deadKnown" "Z", Cond.fieldLink RX1 14 "TwoBanks$Fight" "reached" "LTwoBanks$Marks;", Cond.fieldLink RX1 21 "TwoBanks$Fight" "won" "LTwoBanks$Marks;", Cond.fieldLink RX1 24 "TwoBanks$Fight" "lost" "LTwoBanks$Marks;", Cond.methodLink RX1 58 yX2_all, Cond.methodLink RX1 67 yJ13_bitCount_95d88, Cond.methodLink RX1 92 yX3_forget, Cond.instanceMethod yX3_forget, Cond.selects RX3 yX3_forget yX3_forget, Cond.initialized RX3]
def wsX5_link_r5 : List Cond := [Cond.code yX3_forget cX3_forget 1 none, Cond.fieldLink RX3 13 "TwoBanks$Marks" "words" "[J", Cond.methodLink RX3 19 yJ7_fill_d0a16, Cond.static yJ7_fill_d0a16, Cond.initialized RJ7, Cond.code yJ7_fill_d0a16 cJ7_fill_d0a16 5 none, Cond.methodLink RX1 95 yX2_spread, Cond.instanceMethod yX2_spread, Cond.selects RX2 yX2_spread yX2_spread, Cond.code yX2_spread cX2_spread 10 (some .long), Cond.methodLink RX2 40 yX2_beside, Cond.instanceMethod yX2_beside, Cond.selects RX2 yX2_beside yX2_beside, Cond.code yX2_beside cX2_beside 13 (some .long), Cond.fieldLink RX2 35 "TwoBanks$Grid" "eastBank" "J", Cond.constantLong RX2 38 (-1), Cond.fieldLink RX2 32 "TwoBanks$Grid" "westBank" "J", Cond.methodLink RX1 99 yX3_mark, Cond.instanceMethod yX3_mark, Cond.selects RX3 yX3_mark yX3_mark, Cond.code yX3_mark cX3_mark 3 none, Cond.methodLink RX5 182 yX1_strength, Cond.instanceMethod yX1_strength, Cond.selects RX1 yX1_strength yX1_strength]
def wsX5_link_r6 : List Cond := [Cond.code yX1_strength cX1_strength 1 (some .int), Cond.methodLink RX1 106 yX1_makerWins, Cond.instanceMethod yX1_makerWins, Cond.selects RX1 yX1_makerWins yX1_makerWins, Cond.code yX1_makerWins cX1_makerWins 2 (some .boolean), Cond.methodLink RX1 102 yX1_holds, Cond.static yX1_holds, Cond.code yX1_holds cX1_holds 11 (some .boolean), Cond.methodLink RX1 118 yX3_has, Cond.instanceMethod yX3_has, Cond.selects RX3 yX3_has yX3_has, Cond.code yX3_has cX3_has 3 (some .boolean)]
def wsX5_link : List Cond := .code yX5_link cX5_link 4 (some .int) :: ((wsX5_link_r1 ++ (wsX5_link_r2 ++ (wsX5_link_r3 ++ (wsX5_link_r4 ++ (wsX5_link_r5 ++ wsX5_link_r6))))) ++ wsX50 ++ wsX20 ++ wsX10 ++ wsX30)
def wsX5_half_r1 : List Cond := [Cond.fieldLink RX5 37 "TwoBanks" "linkFight" "LTwoBanks$Fight;", Cond.methodLink RX5 174 yX5_canLink, Cond.instanceMethod yX5_canLink, Cond.selects RX5 yX5_canLink yX5_canLink, Cond.initialized RX5, Cond.code yX5_canLink cX5_canLink 6 (some .boolean), Cond.fieldLink RX5 12 "TwoBanks" "grid" "LTwoBanks$Grid;", Cond.methodLink RX5 48 yX5_isColour, Cond.static yX5_isColour, Cond.code yX5_isColour cX5_isColour 1 (some .boolean), Cond.methodLink RX5 51 yX2_has, Cond.instanceMethod yX2_has, Cond.selects RX2 yX2_has yX2_has, Cond.initialized RX2, Cond.code yX2_has cX2_has 2 (some .boolean), Cond.fieldLink RX2 9 "TwoBanks$Grid" "rows" "I", Cond.fieldLink RX2 15 "TwoBanks$Grid" "columns" "I", Cond.methodLink RX5 101 yX5_other, Cond.static yX5_other, Cond.code yX5_other cX5_other 1 (some .int), Cond.methodLink RX5 202 yX5_stonesOf, Cond.instanceMethod yX5_stonesOf, Cond.selects RX5 yX5_stonesOf yX5_stonesOf, Cond.code yX5_stonesOf cX5_stonesOf 2 (some .long)]
def wsX5_half_r2 : List Cond := [Cond.fieldLink RX5 115 "TwoBanks" "north" "J", Cond.fieldLink RX5 107 "TwoBanks" "west" "J", Cond.methodLink RX5 171 yX5_bit, Cond.static yX5_bit, Cond.code yX5_bit cX5_bit 1 (some .long), Cond.methodLink RX5 150 yX5_tooManyEmpty, Cond.instanceMethod yX5_tooManyEmpty, Cond.selects RX5 yX5_tooManyEmpty yX5_tooManyEmpty, Cond.code yX5_tooManyEmpty cX5_tooManyEmpty 1 (some .boolean), Cond.methodLink RX5 140 yX5_empties, Cond.instanceMethod yX5_empties, Cond.selects RX5 yX5_empties yX5_empties, Cond.code yX5_empties cX5_empties 1 (some .long), Cond.constantLong RX5 197 (-1), Cond.methodLink RX5 199 yX2_all, Cond.instanceMethod yX2_all, Cond.selects RX2 yX2_all yX2_all, Cond.code yX2_all cX2_all 1 (some .long), Cond.fieldLink RX2 22 "TwoBanks$Grid" "all" "J", Cond.methodLink RX5 129 yJ13_bitCount_95d88, Cond.static yJ13_bitCount_95d88, Cond.initialized RJ13, Cond.code yJ13_bitCount_95d88 cJ13_bitCount_95d88 2 (some .int), Cond.constantLong RJ13 314 (6148914691236517205)]
def wsX5_half_r3 : List Cond := [Cond.constantLong RJ13 316 (3689348814741910323), Cond.constantLong RJ13 318 (1085102592571150095), Cond.methodLink RX5 178 yX5_askLink, Cond.instanceMethod yX5_askLink, Cond.selects RX5 yX5_askLink yX5_askLink, Cond.code yX5_askLink cX5_askLink 4 none, Cond.methodLink RX5 230 yX1_ask, Cond.instanceMethod yX1_ask, Cond.selects RX1 yX1_ask yX1_ask, Cond.initialized RX1, Cond.code yX1_ask cX1_ask 12 none, Cond.fieldLink RX1 27 "TwoBanks$Fight" "rows" "I", Cond.fieldLink RX1 36 "TwoBanks$Fight" "columns" "I", Cond.fieldLink RX1 41 "TwoBanks$Fight" "own" "J", Cond.fieldLink RX1 45 "TwoBanks$Fight" "others" "J", Cond.fieldLink RX1 48 "TwoBanks$Fight" "from" "J", Cond.fieldLink RX1 51 "TwoBanks$Fight" "to" "J", Cond.methodLink RX1 31 yX2_rows, Cond.instanceMethod yX2_rows, Cond.selects RX2 yX2_rows yX2_rows, Cond.code yX2_rows cX2_rows 1 (some .int), Cond.methodLink RX1 39 yX2_columns, Cond.instanceMethod yX2_columns, Cond.selects RX2 yX2_columns yX2_columns]
def wsX5_half_r4 : List Cond := [Cond.code yX2_columns cX2_columns 1 (some .int), Cond.methodLink RX1 54 yX1_prepare, Cond.instanceMethod yX1_prepare, Cond.selects RX1 yX1_prepare yX1_prepare, Cond.code yX1_prepare cX1_prepare 5 none, Cond.constantLong RX1 62 (-1), Cond.fieldLink RX1 64 "TwoBanks$Fight" "spots" "J", Cond.methodLink RX1 73 Lib.Math.min.name, Cond.static Lib.Math.min.name, Cond.initialized "java/lang/Math", Cond.code Lib.Math.min.name Lib.Math.min.code 2 (some .int), Cond.fieldLink RX1 79 "TwoBanks$Fight" "spotCount" "I", Cond.fieldLink RX1 82 "TwoBanks$Fight" "full" "I", Cond.fieldLink RX1 85 "TwoBanks$Fight" "reachedCount" "I", Cond.fieldLink RX1 88 "TwoBanks$Fight" "deadKnown" "Z", Cond.fieldLink RX1 14 "TwoBanks$Fight" "reached" "LTwoBanks$Marks;", Cond.fieldLink RX1 21 "TwoBanks$Fight" "won" "LTwoBanks$Marks;", Cond.fieldLink RX1 24 "TwoBanks$Fight" "lost" "LTwoBanks$Marks;", Cond.methodLink RX1 58 yX2_all, Cond.methodLink RX1 67 yJ13_bitCount_95d88, Cond.methodLink RX1 92 yX3_forget, Cond.instanceMethod yX3_forget, Cond.selects RX3 yX3_forget yX3_forget, Cond.initialized RX3]
def wsX5_half_r5 : List Cond := [Cond.code yX3_forget cX3_forget 1 none, Cond.fieldLink RX3 13 "TwoBanks$Marks" "words" "[J", Cond.methodLink RX3 19 yJ7_fill_d0a16, Cond.static yJ7_fill_d0a16, Cond.initialized RJ7, Cond.code yJ7_fill_d0a16 cJ7_fill_d0a16 5 none, Cond.methodLink RX1 95 yX2_spread, Cond.instanceMethod yX2_spread, Cond.selects RX2 yX2_spread yX2_spread, Cond.code yX2_spread cX2_spread 10 (some .long), Cond.methodLink RX2 40 yX2_beside, Cond.instanceMethod yX2_beside, Cond.selects RX2 yX2_beside yX2_beside, Cond.code yX2_beside cX2_beside 13 (some .long), Cond.fieldLink RX2 35 "TwoBanks$Grid" "eastBank" "J", Cond.constantLong RX2 38 (-1), Cond.fieldLink RX2 32 "TwoBanks$Grid" "westBank" "J", Cond.methodLink RX1 99 yX3_mark, Cond.instanceMethod yX3_mark, Cond.selects RX3 yX3_mark yX3_mark, Cond.code yX3_mark cX3_mark 3 none, Cond.methodLink RX5 182 yX1_strength, Cond.instanceMethod yX1_strength, Cond.selects RX1 yX1_strength yX1_strength]
def wsX5_half_r6 : List Cond := [Cond.code yX1_strength cX1_strength 1 (some .int), Cond.methodLink RX1 106 yX1_makerWins, Cond.instanceMethod yX1_makerWins, Cond.selects RX1 yX1_makerWins yX1_makerWins, Cond.code yX1_makerWins cX1_makerWins 2 (some .boolean), Cond.methodLink RX1 102 yX1_holds, Cond.static yX1_holds, Cond.code yX1_holds cX1_holds 11 (some .boolean), Cond.methodLink RX1 118 yX3_has, Cond.instanceMethod yX3_has, Cond.selects RX3 yX3_has yX3_has, Cond.code yX3_has cX3_has 3 (some .boolean), Cond.methodLink RX5 161 yX1_winningField, Cond.instanceMethod yX1_winningField, Cond.selects RX1 yX1_winningField yX1_winningField, Cond.code yX1_winningField cX1_winningField 7 (some .int), Cond.methodLink RX1 114 yX1_winsAt, Cond.instanceMethod yX1_winsAt, Cond.selects RX1 yX1_winsAt yX1_winsAt, Cond.code yX1_winsAt cX1_winsAt 4 (some .boolean)]
def wsX5_half : List Cond := .code yX5_half cX5_half 5 (some .int) :: ((wsX5_half_r1 ++ (wsX5_half_r2 ++ (wsX5_half_r3 ++ (wsX5_half_r4 ++ (wsX5_half_r5 ++ wsX5_half_r6))))) ++ wsX50 ++ wsX20 ++ wsX10 ++ wsX30)
def wsX5_howManyDead_r1 : List Cond := [Cond.fieldLink RX5 33 "TwoBanks" "bankFight" "LTwoBanks$Fight;", Cond.methodLink RX5 150 yX5_tooManyEmpty, Cond.instanceMethod yX5_tooManyEmpty, Cond.selects RX5 yX5_tooManyEmpty yX5_tooManyEmpty, Cond.initialized RX5, Cond.code yX5_tooManyEmpty cX5_tooManyEmpty 1 (some .boolean), Cond.methodLink RX5 140 yX5_empties, Cond.instanceMethod yX5_empties, Cond.selects RX5 yX5_empties yX5_empties, Cond.code yX5_empties cX5_empties 1 (some .long), Cond.fieldLink RX5 12 "TwoBanks" "grid" "LTwoBanks$Grid;", Cond.fieldLink RX5 115 "TwoBanks" "north" "J", Cond.fieldLink RX5 107 "TwoBanks" "west" "J", Cond.constantLong RX5 197 (-1), Cond.methodLink RX5 199 yX2_all, Cond.instanceMethod yX2_all, Cond.selects RX2 yX2_all yX2_all, Cond.initialized RX2, Cond.code yX2_all cX2_all 1 (some .long), Cond.fieldLink RX2 22 "TwoBanks$Grid" "all" "J", Cond.methodLink RX5 129 yJ13_bitCount_95d88, Cond.static yJ13_bitCount_95d88, Cond.initialized RJ13, Cond.code yJ13_bitCount_95d88 cJ13_bitCount_95d88 2 (some .int)]
def wsX5_howManyDead_r2 : List Cond := [Cond.constantLong RJ13 314 (6148914691236517205), Cond.constantLong RJ13 316 (3689348814741910323), Cond.constantLong RJ13 318 (1085102592571150095), Cond.methodLink RX5 154 yX5_askBanks, Cond.instanceMethod yX5_askBanks, Cond.selects RX5 yX5_askBanks yX5_askBanks, Cond.code yX5_askBanks cX5_askBanks 1 none, Cond.methodLink RX5 209 yX2_northBank, Cond.instanceMethod yX2_northBank, Cond.selects RX2 yX2_northBank yX2_northBank, Cond.code yX2_northBank cX2_northBank 1 (some .long), Cond.fieldLink RX2 26 "TwoBanks$Grid" "northBank" "J", Cond.methodLink RX5 212 yX2_southBank, Cond.instanceMethod yX2_southBank, Cond.selects RX2 yX2_southBank yX2_southBank, Cond.code yX2_southBank cX2_southBank 1 (some .long), Cond.fieldLink RX2 29 "TwoBanks$Grid" "southBank" "J", Cond.methodLink RX5 230 yX1_ask, Cond.instanceMethod yX1_ask, Cond.selects RX1 yX1_ask yX1_ask, Cond.initialized RX1, Cond.code yX1_ask cX1_ask 12 none, Cond.fieldLink RX1 27 "TwoBanks$Fight" "rows" "I", Cond.fieldLink RX1 36 "TwoBanks$Fight" "columns" "I"]
def wsX5_howManyDead_r3 : List Cond := [Cond.fieldLink RX1 41 "TwoBanks$Fight" "own" "J", Cond.fieldLink RX1 45 "TwoBanks$Fight" "others" "J", Cond.fieldLink RX1 48 "TwoBanks$Fight" "from" "J", Cond.fieldLink RX1 51 "TwoBanks$Fight" "to" "J", Cond.methodLink RX1 31 yX2_rows, Cond.instanceMethod yX2_rows, Cond.selects RX2 yX2_rows yX2_rows, Cond.code yX2_rows cX2_rows 1 (some .int), Cond.fieldLink RX2 9 "TwoBanks$Grid" "rows" "I", Cond.methodLink RX1 39 yX2_columns, Cond.instanceMethod yX2_columns, Cond.selects RX2 yX2_columns yX2_columns, Cond.code yX2_columns cX2_columns 1 (some .int), Cond.fieldLink RX2 15 "TwoBanks$Grid" "columns" "I", Cond.methodLink RX1 54 yX1_prepare, Cond.instanceMethod yX1_prepare, Cond.selects RX1 yX1_prepare yX1_prepare, Cond.code yX1_prepare cX1_prepare 5 none, Cond.constantLong RX1 62 (-1), Cond.fieldLink RX1 64 "TwoBanks$Fight" "spots" "J", Cond.methodLink RX1 73 Lib.Math.min.name, Cond.static Lib.Math.min.name, Cond.initialized "java/lang/Math", Cond.code Lib.Math.min.name Lib.Math.min.code 2 (some .int)]
def wsX5_howManyDead_r4 : List Cond := [Cond.fieldLink RX1 79 "TwoBanks$Fight" "spotCount" "I", Cond.fieldLink RX1 82 "TwoBanks$Fight" "full" "I", Cond.fieldLink RX1 85 "TwoBanks$Fight" "reachedCount" "I", Cond.fieldLink RX1 88 "TwoBanks$Fight" "deadKnown" "Z", Cond.fieldLink RX1 14 "TwoBanks$Fight" "reached" "LTwoBanks$Marks;", Cond.fieldLink RX1 21 "TwoBanks$Fight" "won" "LTwoBanks$Marks;", Cond.fieldLink RX1 24 "TwoBanks$Fight" "lost" "LTwoBanks$Marks;", Cond.methodLink RX1 58 yX2_all, Cond.methodLink RX1 67 yJ13_bitCount_95d88, Cond.methodLink RX1 92 yX3_forget, Cond.instanceMethod yX3_forget, Cond.selects RX3 yX3_forget yX3_forget, Cond.initialized RX3, Cond.code yX3_forget cX3_forget 1 none, Cond.fieldLink RX3 13 "TwoBanks$Marks" "words" "[J", Cond.methodLink RX3 19 yJ7_fill_d0a16, Cond.static yJ7_fill_d0a16, Cond.initialized RJ7, Cond.code yJ7_fill_d0a16 cJ7_fill_d0a16 5 none, Cond.methodLink RX1 95 yX2_spread, Cond.instanceMethod yX2_spread, Cond.selects RX2 yX2_spread yX2_spread, Cond.code yX2_spread cX2_spread 10 (some .long), Cond.methodLink RX2 40 yX2_beside]
def wsX5_howManyDead_r5 : List Cond := [Cond.instanceMethod yX2_beside, Cond.selects RX2 yX2_beside yX2_beside, Cond.code yX2_beside cX2_beside 13 (some .long), Cond.fieldLink RX2 35 "TwoBanks$Grid" "eastBank" "J", Cond.constantLong RX2 38 (-1), Cond.fieldLink RX2 32 "TwoBanks$Grid" "westBank" "J", Cond.methodLink RX1 99 yX3_mark, Cond.instanceMethod yX3_mark, Cond.selects RX3 yX3_mark yX3_mark, Cond.code yX3_mark cX3_mark 3 none, Cond.static yX5_bit, Cond.code yX5_bit cX5_bit 1 (some .long), Cond.methodLink RX5 168 yX1_deadFields, Cond.instanceMethod yX1_deadFields, Cond.selects RX1 yX1_deadFields yX1_deadFields, Cond.code yX1_deadFields cX1_deadFields 1 (some .long), Cond.fieldLink RX1 125 "TwoBanks$Fight" "deadSpots" "J", Cond.methodLink RX1 122 yX1_findDead, Cond.instanceMethod yX1_findDead, Cond.selects RX1 yX1_findDead yX1_findDead, Cond.code yX1_findDead cX1_findDead 3 none, Cond.methodLink RX1 128 yX1_neverMatters, Cond.instanceMethod yX1_neverMatters, Cond.selects RX1 yX1_neverMatters yX1_neverMatters]
def wsX5_howManyDead_r6 : List Cond := [Cond.code yX1_neverMatters cX1_neverMatters 3 (some .boolean), Cond.methodLink RX1 118 yX3_has, Cond.instanceMethod yX3_has, Cond.selects RX3 yX3_has yX3_has, Cond.code yX3_has cX3_has 3 (some .boolean)]
def wsX5_howManyDead : List Cond := .code yX5_howManyDead cX5_howManyDead 1 (some .int) :: ((wsX5_howManyDead_r1 ++ (wsX5_howManyDead_r2 ++ (wsX5_howManyDead_r3 ++ (wsX5_howManyDead_r4 ++ (wsX5_howManyDead_r5 ++ wsX5_howManyDead_r6))))) ++ wsX50 ++ wsX20 ++ wsX10 ++ wsX30)
def wsX5_count_r1 : List Cond := [Cond.fieldLink RX5 12 "TwoBanks" "grid" "LTwoBanks$Grid;", Cond.fieldLink RX5 57 "TwoBanks" "toLay" "I", Cond.fieldLink RX5 19 "TwoBanks" "deeds" "LTwoBanks$Deeds;", Cond.fieldLink RX5 115 "TwoBanks" "north" "J", Cond.fieldLink RX5 107 "TwoBanks" "west" "J", Cond.fieldLink RX5 26 "TwoBanks" "path" "LTwoBanks$Path;", Cond.methodLink RX5 83 yX2_rows, Cond.instanceMethod yX2_rows, Cond.selects RX2 yX2_rows yX2_rows, Cond.initialized RX2, Cond.code yX2_rows cX2_rows 1 (some .int), Cond.fieldLink RX2 9 "TwoBanks$Grid" "rows" "I", Cond.methodLink RX5 86 yX2_columns, Cond.instanceMethod yX2_columns, Cond.selects RX2 yX2_columns yX2_columns, Cond.code yX2_columns cX2_columns 1 (some .int), Cond.fieldLink RX2 15 "TwoBanks$Grid" "columns" "I", Cond.methodLink RX5 140 yX5_empties, Cond.instanceMethod yX5_empties, Cond.selects RX5 yX5_empties yX5_empties, Cond.initialized RX5, Cond.code yX5_empties cX5_empties 1 (some .long), Cond.constantLong RX5 197 (-1), Cond.methodLink RX5 199 yX2_all]
def wsX5_count_r2 : List Cond := [Cond.instanceMethod yX2_all, Cond.selects RX2 yX2_all yX2_all, Cond.code yX2_all cX2_all 1 (some .long), Cond.fieldLink RX2 22 "TwoBanks$Grid" "all" "J", Cond.methodLink RX5 129 yJ13_bitCount_95d88, Cond.static yJ13_bitCount_95d88, Cond.initialized RJ13, Cond.code yJ13_bitCount_95d88 cJ13_bitCount_95d88 2 (some .int), Cond.constantLong RJ13 314 (6148914691236517205), Cond.constantLong RJ13 316 (3689348814741910323), Cond.constantLong RJ13 318 (1085102592571150095), Cond.methodLink RX5 89 yX0_done, Cond.instanceMethod yX0_done, Cond.selects RX0 yX0_done yX0_done, Cond.initialized RX0, Cond.code yX0_done cX0_done 1 (some .int), Cond.fieldLink RX0 15 "TwoBanks$Deeds" "done" "I", Cond.methodLink RX5 185 yX0_undone, Cond.instanceMethod yX0_undone, Cond.selects RX0 yX0_undone yX0_undone, Cond.code yX0_undone cX0_undone 1 (some .int), Cond.fieldLink RX0 19 "TwoBanks$Deeds" "known" "I", Cond.methodLink RX5 188 yX2_groupsOf, Cond.instanceMethod yX2_groupsOf]
def wsX5_count_r3 : List Cond := [Cond.selects RX2 yX2_groupsOf yX2_groupsOf, Cond.code yX2_groupsOf cX2_groupsOf 7 (some .int), Cond.constantLong RX2 38 (-1), Cond.methodLink RX2 44 yX2_spread, Cond.instanceMethod yX2_spread, Cond.selects RX2 yX2_spread yX2_spread, Cond.code yX2_spread cX2_spread 10 (some .long), Cond.methodLink RX2 40 yX2_beside, Cond.instanceMethod yX2_beside, Cond.selects RX2 yX2_beside yX2_beside, Cond.code yX2_beside cX2_beside 13 (some .long), Cond.fieldLink RX2 35 "TwoBanks$Grid" "eastBank" "J", Cond.fieldLink RX2 32 "TwoBanks$Grid" "westBank" "J", Cond.methodLink RX5 191 yX5_howManyDead, Cond.instanceMethod yX5_howManyDead, Cond.selects RX5 yX5_howManyDead yX5_howManyDead, Cond.code yX5_howManyDead cX5_howManyDead 1 (some .int), Cond.fieldLink RX5 33 "TwoBanks" "bankFight" "LTwoBanks$Fight;", Cond.methodLink RX5 150 yX5_tooManyEmpty, Cond.instanceMethod yX5_tooManyEmpty, Cond.selects RX5 yX5_tooManyEmpty yX5_tooManyEmpty, Cond.code yX5_tooManyEmpty cX5_tooManyEmpty 1 (some .boolean), Cond.methodLink RX5 154 yX5_askBanks, Cond.instanceMethod yX5_askBanks]
def wsX5_count_r4 : List Cond := [Cond.selects RX5 yX5_askBanks yX5_askBanks, Cond.code yX5_askBanks cX5_askBanks 1 none, Cond.methodLink RX5 209 yX2_northBank, Cond.instanceMethod yX2_northBank, Cond.selects RX2 yX2_northBank yX2_northBank, Cond.code yX2_northBank cX2_northBank 1 (some .long), Cond.fieldLink RX2 26 "TwoBanks$Grid" "northBank" "J", Cond.methodLink RX5 212 yX2_southBank, Cond.instanceMethod yX2_southBank, Cond.selects RX2 yX2_southBank yX2_southBank, Cond.code yX2_southBank cX2_southBank 1 (some .long), Cond.fieldLink RX2 29 "TwoBanks$Grid" "southBank" "J", Cond.methodLink RX5 230 yX1_ask, Cond.instanceMethod yX1_ask, Cond.selects RX1 yX1_ask yX1_ask, Cond.initialized RX1, Cond.code yX1_ask cX1_ask 12 none, Cond.fieldLink RX1 27 "TwoBanks$Fight" "rows" "I", Cond.fieldLink RX1 36 "TwoBanks$Fight" "columns" "I", Cond.fieldLink RX1 41 "TwoBanks$Fight" "own" "J", Cond.fieldLink RX1 45 "TwoBanks$Fight" "others" "J", Cond.fieldLink RX1 48 "TwoBanks$Fight" "from" "J", Cond.fieldLink RX1 51 "TwoBanks$Fight" "to" "J", Cond.methodLink RX1 31 yX2_rows]
def wsX5_count_r5 : List Cond := [Cond.methodLink RX1 39 yX2_columns, Cond.methodLink RX1 54 yX1_prepare, Cond.instanceMethod yX1_prepare, Cond.selects RX1 yX1_prepare yX1_prepare, Cond.code yX1_prepare cX1_prepare 5 none, Cond.constantLong RX1 62 (-1), Cond.fieldLink RX1 64 "TwoBanks$Fight" "spots" "J", Cond.methodLink RX1 73 Lib.Math.min.name, Cond.static Lib.Math.min.name, Cond.initialized "java/lang/Math", Cond.code Lib.Math.min.name Lib.Math.min.code 2 (some .int), Cond.fieldLink RX1 79 "TwoBanks$Fight" "spotCount" "I", Cond.fieldLink RX1 82 "TwoBanks$Fight" "full" "I", Cond.fieldLink RX1 85 "TwoBanks$Fight" "reachedCount" "I", Cond.fieldLink RX1 88 "TwoBanks$Fight" "deadKnown" "Z", Cond.fieldLink RX1 14 "TwoBanks$Fight" "reached" "LTwoBanks$Marks;", Cond.fieldLink RX1 21 "TwoBanks$Fight" "won" "LTwoBanks$Marks;", Cond.fieldLink RX1 24 "TwoBanks$Fight" "lost" "LTwoBanks$Marks;", Cond.methodLink RX1 58 yX2_all, Cond.methodLink RX1 67 yJ13_bitCount_95d88, Cond.methodLink RX1 92 yX3_forget, Cond.instanceMethod yX3_forget, Cond.selects RX3 yX3_forget yX3_forget, Cond.initialized RX3]
def wsX5_count_r6 : List Cond := [Cond.code yX3_forget cX3_forget 1 none, Cond.fieldLink RX3 13 "TwoBanks$Marks" "words" "[J", Cond.methodLink RX3 19 yJ7_fill_d0a16, Cond.static yJ7_fill_d0a16, Cond.initialized RJ7, Cond.code yJ7_fill_d0a16 cJ7_fill_d0a16 5 none, Cond.methodLink RX1 95 yX2_spread, Cond.methodLink RX1 99 yX3_mark, Cond.instanceMethod yX3_mark, Cond.selects RX3 yX3_mark yX3_mark, Cond.code yX3_mark cX3_mark 3 none, Cond.static yX5_bit, Cond.code yX5_bit cX5_bit 1 (some .long), Cond.methodLink RX5 168 yX1_deadFields, Cond.instanceMethod yX1_deadFields, Cond.selects RX1 yX1_deadFields yX1_deadFields, Cond.code yX1_deadFields cX1_deadFields 1 (some .long), Cond.fieldLink RX1 125 "TwoBanks$Fight" "deadSpots" "J", Cond.methodLink RX1 122 yX1_findDead, Cond.instanceMethod yX1_findDead, Cond.selects RX1 yX1_findDead yX1_findDead, Cond.code yX1_findDead cX1_findDead 3 none, Cond.methodLink RX1 128 yX1_neverMatters, Cond.instanceMethod yX1_neverMatters]
def wsX5_count_r7 : List Cond := [Cond.selects RX1 yX1_neverMatters yX1_neverMatters, Cond.code yX1_neverMatters cX1_neverMatters 3 (some .boolean), Cond.methodLink RX1 118 yX3_has, Cond.instanceMethod yX3_has, Cond.selects RX3 yX3_has yX3_has, Cond.code yX3_has cX3_has 3 (some .boolean), Cond.methodLink RX5 144 yX5_findPath, Cond.instanceMethod yX5_findPath, Cond.selects RX5 yX5_findPath yX5_findPath, Cond.code yX5_findPath cX5_findPath 2 none, Cond.methodLink RX5 72 yX5_whoJoined, Cond.instanceMethod yX5_whoJoined, Cond.selects RX5 yX5_whoJoined yX5_whoJoined, Cond.code yX5_whoJoined cX5_whoJoined 1 (some .int), Cond.methodLink RX5 215 yX2_joins, Cond.instanceMethod yX2_joins, Cond.selects RX2 yX2_joins yX2_joins, Cond.code yX2_joins cX2_joins 7 (some .boolean), Cond.methodLink RX5 219 yX2_westBank, Cond.instanceMethod yX2_westBank, Cond.selects RX2 yX2_westBank yX2_westBank, Cond.code yX2_westBank cX2_westBank 1 (some .long), Cond.methodLink RX5 222 yX2_eastBank, Cond.instanceMethod yX2_eastBank]
def wsX5_count_r8 : List Cond := [Cond.selects RX2 yX2_eastBank yX2_eastBank, Cond.code yX2_eastBank cX2_eastBank 1 (some .long), Cond.methodLink RX5 225 yX4_find, Cond.instanceMethod yX4_find, Cond.selects RX4 yX4_find yX4_find, Cond.initialized RX4, Cond.code yX4_find cX4_find 13 none, Cond.fieldLink RX4 9 "TwoBanks$Path" "layers" "[J", Cond.constantLong RX4 36 (-1), Cond.methodLink RX4 23 yX4_forget, Cond.instanceMethod yX4_forget, Cond.selects RX4 yX4_forget yX4_forget, Cond.code yX4_forget cX4_forget 1 none, Cond.fieldLink RX4 19 "TwoBanks$Path" "length" "I", Cond.methodLink RX4 26 yX4_trace, Cond.instanceMethod yX4_trace, Cond.selects RX4 yX4_trace yX4_trace, Cond.code yX4_trace cX4_trace 9 none, Cond.fieldLink RX4 15 "TwoBanks$Path" "fields" "[I", Cond.static yX5_lowest, Cond.code yX5_lowest cX5_lowest 2 (some .int), Cond.methodLink RX4 30 yX2_beside, Cond.methodLink RX5 229 yX4_forget, Cond.methodLink RX5 194 yX4_length]
def wsX5_count_r9 : List Cond := [Cond.instanceMethod yX4_length, Cond.selects RX4 yX4_length yX4_length, Cond.code yX4_length cX4_length 1 (some .int)]
def wsX5_count : List Cond := .code yX5_count cX5_count 2 (some .int) :: ((wsX5_count_r1 ++ (wsX5_count_r2 ++ (wsX5_count_r3 ++ (wsX5_count_r4 ++ (wsX5_count_r5 ++ (wsX5_count_r6 ++ (wsX5_count_r7 ++ (wsX5_count_r8 ++ wsX5_count_r9)))))))) ++ wsX50 ++ wsX20 ++ wsX00 ++ wsX10 ++ wsX30 ++ wsX40)
def wsX6_init : List Cond := .code yX6_init cX6_init 1 none :: ([.methodLink RX6 1 objectInit, .instanceMethod objectInit, .code objectInit ⟨#[0xb1]⟩ 1 none, .fieldLink RX6 7 "TwoBanksModel" "rows" "I", .fieldLink RX6 13 "TwoBanksModel" "columns" "I", .fieldLink RX6 16 "TwoBanksModel" "turn" "I", .arrayClass .int, .fieldLink RX6 19 "TwoBanksModel" "at" "[I", .fieldLink RX6 23 "TwoBanksModel" "acts" "[I", .fieldLink RX6 26 "TwoBanksModel" "isMade" "Z", .arrayClass .boolean, .fieldLink RX6 30 "TwoBanksModel" "isReached" "[Z", .fieldLink RX6 34 "TwoBanksModel" "turned" "[I", .fieldLink RX6 37 "TwoBanksModel" "far" "[I", .fieldLink RX6 40 "TwoBanksModel" "empty" "[I", .fieldLink RX6 43 "TwoBanksModel" "power" "[I", .constant RX6 46 (59049), .fieldLink RX6 47 "TwoBanksModel" "byOne" "[Z", .fieldLink RX6 50 "TwoBanksModel" "byTwo" "[Z", .fieldLink RX6 53 "TwoBanksModel" "isNorth" "[Z"] ++ wsX60)
def wsX6_lies : List Cond := .code yX6_lies cX6_lies 3 (some .boolean) :: ([])
def wsX6_fields : List Cond := .code yX6_fields cX6_fields 1 (some .int) :: ([.fieldLink RX6 7 "TwoBanksModel" "rows" "I", .fieldLink RX6 13 "TwoBanksModel" "columns" "I"] ++ wsX60)
def wsX6_isField : List Cond := .code yX6_isField cX6_isField 2 (some .boolean) :: ([.methodLink RX6 56 yX6_fields, .instanceMethod yX6_fields, .selects RX6 yX6_fields yX6_fields, .initialized RX6, .code yX6_fields cX6_fields 1 (some .int), .fieldLink RX6 7 "TwoBanksModel" "rows" "I", .fieldLink RX6 13 "TwoBanksModel" "columns" "I", .methodLink RX6 60 yX6_lies, .static yX6_lies, .code yX6_lies cX6_lies 3 (some .boolean)] ++ wsX60)
def wsX6_forgets : List Cond := .code yX6_forgets cX6_forgets 1 none :: ([.fieldLink RX6 64 "TwoBanksModel" "done" "I", .fieldLink RX6 67 "TwoBanksModel" "again" "I"] ++ wsX60)
def wsX6_board : List Cond := .code yX6_board cX6_board 4 (some .boolean) :: ([.fieldLink RX6 7 "TwoBanksModel" "rows" "I", .fieldLink RX6 13 "TwoBanksModel" "columns" "I", .fieldLink RX6 19 "TwoBanksModel" "at" "[I", .fieldLink RX6 16 "TwoBanksModel" "turn" "I", .fieldLink RX6 26 "TwoBanksModel" "isMade" "Z", .methodLink RX6 60 yX6_lies, .static yX6_lies, .initialized RX6, .code yX6_lies cX6_lies 3 (some .boolean), .methodLink RX6 70 yX6_forgets, .instanceMethod yX6_forgets, .selects RX6 yX6_forgets yX6_forgets, .code yX6_forgets cX6_forgets 1 none, .fieldLink RX6 64 "TwoBanksModel" "done" "I", .fieldLink RX6 67 "TwoBanksModel" "again" "I"] ++ wsX60)
def wsX6_set : List Cond := .code yX6_set cX6_set 4 (some .boolean) :: ([.fieldLink RX6 19 "TwoBanksModel" "at" "[I", .fieldLink RX6 16 "TwoBanksModel" "turn" "I", .fieldLink RX6 26 "TwoBanksModel" "isMade" "Z", .methodLink RX6 73 yX6_isField, .instanceMethod yX6_isField, .selects RX6 yX6_isField yX6_isField, .initialized RX6, .code yX6_isField cX6_isField 2 (some .boolean), .methodLink RX6 56 yX6_fields, .instanceMethod yX6_fields, .selects RX6 yX6_fields yX6_fields, .code yX6_fields cX6_fields 1 (some .int), .fieldLink RX6 7 "TwoBanksModel" "rows" "I", .fieldLink RX6 13 "TwoBanksModel" "columns" "I", .methodLink RX6 60 yX6_lies, .static yX6_lies, .code yX6_lies cX6_lies 3 (some .boolean), .methodLink RX6 70 yX6_forgets, .instanceMethod yX6_forgets, .selects RX6 yX6_forgets yX6_forgets, .code yX6_forgets cX6_forgets 1 none, .fieldLink RX6 64 "TwoBanksModel" "done" "I", .fieldLink RX6 67 "TwoBanksModel" "again" "I"] ++ wsX60)
def wsX6_beside : List Cond := .code yX6_beside cX6_beside 5 (some .int) :: ([.fieldLink RX6 13 "TwoBanksModel" "columns" "I", .fieldLink RX6 7 "TwoBanksModel" "rows" "I", .methodLink RX6 60 yX6_lies, .static yX6_lies, .initialized RX6, .code yX6_lies cX6_lies 3 (some .boolean)] ++ wsX60)
def wsX6_banks : List Cond := .code yX6_banks cX6_banks 3 (some .int) :: ([.fieldLink RX6 13 "TwoBanksModel" "columns" "I", .fieldLink RX6 7 "TwoBanksModel" "rows" "I"] ++ wsX60)
def wsX6_reaches : List Cond := .code yX6_reaches cX6_reaches 6 none :: ([.fieldLink RX6 30 "TwoBanksModel" "isReached" "[Z", .fieldLink RX6 19 "TwoBanksModel" "at" "[I", .methodLink RX6 56 yX6_fields, .instanceMethod yX6_fields, .selects RX6 yX6_fields yX6_fields, .initialized RX6, .code yX6_fields cX6_fields 1 (some .int), .fieldLink RX6 7 "TwoBanksModel" "rows" "I", .fieldLink RX6 13 "TwoBanksModel" "columns" "I", .methodLink RX6 77 yX6_beside, .instanceMethod yX6_beside, .selects RX6 yX6_beside yX6_beside, .code yX6_beside cX6_beside 5 (some .int), .methodLink RX6 60 yX6_lies, .static yX6_lies, .code yX6_lies cX6_lies 3 (some .boolean)] ++ wsX60)
def wsX6_reachesNone : List Cond := .code yX6_reachesNone cX6_reachesNone 2 none :: ([.fieldLink RX6 30 "TwoBanksModel" "isReached" "[Z"] ++ wsX60)
def wsX6_first : List Cond := .code yX6_first cX6_first 1 (some .int) :: ([])
def wsX6_last : List Cond := .code yX6_last cX6_last 1 (some .int) :: ([])
def wsX6_joins_r1 : List Cond := [Cond.fieldLink RX6 30 "TwoBanksModel" "isReached" "[Z", Cond.fieldLink RX6 19 "TwoBanksModel" "at" "[I", Cond.methodLink RX6 56 yX6_fields, Cond.instanceMethod yX6_fields, Cond.selects RX6 yX6_fields yX6_fields, Cond.initialized RX6, Cond.code yX6_fields cX6_fields 1 (some .int), Cond.fieldLink RX6 7 "TwoBanksModel" "rows" "I", Cond.fieldLink RX6 13 "TwoBanksModel" "columns" "I", Cond.methodLink RX6 81 yX6_banks, Cond.instanceMethod yX6_banks, Cond.selects RX6 yX6_banks yX6_banks, Cond.code yX6_banks cX6_banks 3 (some .int), Cond.methodLink RX6 85 yX6_first, Cond.static yX6_first, Cond.code yX6_first cX6_first 1 (some .int), Cond.methodLink RX6 88 yX6_reaches, Cond.instanceMethod yX6_reaches, Cond.selects RX6 yX6_reaches yX6_reaches, Cond.code yX6_reaches cX6_reaches 6 none, Cond.methodLink RX6 77 yX6_beside, Cond.instanceMethod yX6_beside, Cond.selects RX6 yX6_beside yX6_beside, Cond.code yX6_beside cX6_beside 5 (some .int)]
def wsX6_joins_r2 : List Cond := [Cond.methodLink RX6 60 yX6_lies, Cond.static yX6_lies, Cond.code yX6_lies cX6_lies 3 (some .boolean), Cond.methodLink RX6 92 yX6_last, Cond.static yX6_last, Cond.code yX6_last cX6_last 1 (some .int)]
def wsX6_joins : List Cond := .code yX6_joins cX6_joins 3 (some .boolean) :: ((wsX6_joins_r1 ++ wsX6_joins_r2) ++ wsX60)
def wsX6_joined_r1 : List Cond := [Cond.methodLink RX6 95 yX6_joins, Cond.instanceMethod yX6_joins, Cond.selects RX6 yX6_joins yX6_joins, Cond.initialized RX6, Cond.code yX6_joins cX6_joins 3 (some .boolean), Cond.fieldLink RX6 30 "TwoBanksModel" "isReached" "[Z", Cond.fieldLink RX6 19 "TwoBanksModel" "at" "[I", Cond.methodLink RX6 56 yX6_fields, Cond.instanceMethod yX6_fields, Cond.selects RX6 yX6_fields yX6_fields, Cond.code yX6_fields cX6_fields 1 (some .int), Cond.fieldLink RX6 7 "TwoBanksModel" "rows" "I", Cond.fieldLink RX6 13 "TwoBanksModel" "columns" "I", Cond.methodLink RX6 81 yX6_banks, Cond.instanceMethod yX6_banks, Cond.selects RX6 yX6_banks yX6_banks, Cond.code yX6_banks cX6_banks 3 (some .int), Cond.methodLink RX6 85 yX6_first, Cond.static yX6_first, Cond.code yX6_first cX6_first 1 (some .int), Cond.methodLink RX6 88 yX6_reaches, Cond.instanceMethod yX6_reaches, Cond.selects RX6 yX6_reaches yX6_reaches, Cond.code yX6_reaches cX6_reaches 6 none]
def wsX6_joined_r2 : List Cond := [Cond.methodLink RX6 77 yX6_beside, Cond.instanceMethod yX6_beside, Cond.selects RX6 yX6_beside yX6_beside, Cond.code yX6_beside cX6_beside 5 (some .int), Cond.methodLink RX6 60 yX6_lies, Cond.static yX6_lies, Cond.code yX6_lies cX6_lies 3 (some .boolean), Cond.methodLink RX6 92 yX6_last, Cond.static yX6_last, Cond.code yX6_last cX6_last 1 (some .int)]
def wsX6_joined : List Cond := .code yX6_joined cX6_joined 1 (some .int) :: ((wsX6_joined_r1 ++ wsX6_joined_r2) ++ wsX60)
def wsX6_does : List Cond := .code yX6_does cX6_does 3 none :: ([.fieldLink RX6 19 "TwoBanksModel" "at" "[I", .fieldLink RX6 16 "TwoBanksModel" "turn" "I", .fieldLink RX6 13 "TwoBanksModel" "columns" "I"] ++ wsX60)
def wsX6_undoes : List Cond := .code yX6_undoes cX6_undoes 3 none :: ([.fieldLink RX6 19 "TwoBanksModel" "at" "[I", .fieldLink RX6 16 "TwoBanksModel" "turn" "I", .fieldLink RX6 13 "TwoBanksModel" "columns" "I"] ++ wsX60)
def wsX6_acts : List Cond := .code yX6_acts cX6_acts 2 none :: ([.fieldLink RX6 23 "TwoBanksModel" "acts" "[I", .fieldLink RX6 64 "TwoBanksModel" "done" "I", .fieldLink RX6 67 "TwoBanksModel" "again" "I", .methodLink RX6 98 yX6_does, .instanceMethod yX6_does, .selects RX6 yX6_does yX6_does, .initialized RX6, .code yX6_does cX6_does 3 none, .fieldLink RX6 19 "TwoBanksModel" "at" "[I", .fieldLink RX6 16 "TwoBanksModel" "turn" "I", .fieldLink RX6 13 "TwoBanksModel" "columns" "I"] ++ wsX60)
def wsX6_lay_r1 : List Cond := [Cond.fieldLink RX6 19 "TwoBanksModel" "at" "[I", Cond.methodLink RX6 73 yX6_isField, Cond.instanceMethod yX6_isField, Cond.selects RX6 yX6_isField yX6_isField, Cond.initialized RX6, Cond.code yX6_isField cX6_isField 2 (some .boolean), Cond.methodLink RX6 56 yX6_fields, Cond.instanceMethod yX6_fields, Cond.selects RX6 yX6_fields yX6_fields, Cond.code yX6_fields cX6_fields 1 (some .int), Cond.fieldLink RX6 7 "TwoBanksModel" "rows" "I", Cond.fieldLink RX6 13 "TwoBanksModel" "columns" "I", Cond.methodLink RX6 60 yX6_lies, Cond.static yX6_lies, Cond.code yX6_lies cX6_lies 3 (some .boolean), Cond.methodLink RX6 101 yX6_joined, Cond.instanceMethod yX6_joined, Cond.selects RX6 yX6_joined yX6_joined, Cond.code yX6_joined cX6_joined 1 (some .int), Cond.methodLink RX6 95 yX6_joins, Cond.instanceMethod yX6_joins, Cond.selects RX6 yX6_joins yX6_joins, Cond.code yX6_joins cX6_joins 3 (some .boolean), Cond.fieldLink RX6 30 "TwoBanksModel" "isReached" "[Z"]
def wsX6_lay_r2 : List Cond := [Cond.methodLink RX6 81 yX6_banks, Cond.instanceMethod yX6_banks, Cond.selects RX6 yX6_banks yX6_banks, Cond.code yX6_banks cX6_banks 3 (some .int), Cond.methodLink RX6 85 yX6_first, Cond.static yX6_first, Cond.code yX6_first cX6_first 1 (some .int), Cond.methodLink RX6 88 yX6_reaches, Cond.instanceMethod yX6_reaches, Cond.selects RX6 yX6_reaches yX6_reaches, Cond.code yX6_reaches cX6_reaches 6 none, Cond.methodLink RX6 77 yX6_beside, Cond.instanceMethod yX6_beside, Cond.selects RX6 yX6_beside yX6_beside, Cond.code yX6_beside cX6_beside 5 (some .int), Cond.methodLink RX6 92 yX6_last, Cond.static yX6_last, Cond.code yX6_last cX6_last 1 (some .int), Cond.methodLink RX6 104 yX6_acts, Cond.instanceMethod yX6_acts, Cond.selects RX6 yX6_acts yX6_acts, Cond.code yX6_acts cX6_acts 2 none, Cond.fieldLink RX6 23 "TwoBanksModel" "acts" "[I", Cond.fieldLink RX6 64 "TwoBanksModel" "done" "I"]
def wsX6_lay_r3 : List Cond := [Cond.fieldLink RX6 67 "TwoBanksModel" "again" "I", Cond.methodLink RX6 98 yX6_does, Cond.instanceMethod yX6_does, Cond.selects RX6 yX6_does yX6_does, Cond.code yX6_does cX6_does 3 none, Cond.fieldLink RX6 16 "TwoBanksModel" "turn" "I"]
def wsX6_lay : List Cond := .code yX6_lay cX6_lay 2 (some .int) :: ((wsX6_lay_r1 ++ (wsX6_lay_r2 ++ wsX6_lay_r3)) ++ wsX60)
def wsX6_swap_r1 : List Cond := [Cond.fieldLink RX6 7 "TwoBanksModel" "rows" "I", Cond.fieldLink RX6 13 "TwoBanksModel" "columns" "I", Cond.fieldLink RX6 26 "TwoBanksModel" "isMade" "Z", Cond.fieldLink RX6 64 "TwoBanksModel" "done" "I", Cond.fieldLink RX6 23 "TwoBanksModel" "acts" "[I", Cond.methodLink RX6 101 yX6_joined, Cond.instanceMethod yX6_joined, Cond.selects RX6 yX6_joined yX6_joined, Cond.initialized RX6, Cond.code yX6_joined cX6_joined 1 (some .int), Cond.methodLink RX6 95 yX6_joins, Cond.instanceMethod yX6_joins, Cond.selects RX6 yX6_joins yX6_joins, Cond.code yX6_joins cX6_joins 3 (some .boolean), Cond.fieldLink RX6 30 "TwoBanksModel" "isReached" "[Z", Cond.fieldLink RX6 19 "TwoBanksModel" "at" "[I", Cond.methodLink RX6 56 yX6_fields, Cond.instanceMethod yX6_fields, Cond.selects RX6 yX6_fields yX6_fields, Cond.code yX6_fields cX6_fields 1 (some .int), Cond.methodLink RX6 81 yX6_banks, Cond.instanceMethod yX6_banks, Cond.selects RX6 yX6_banks yX6_banks, Cond.code yX6_banks cX6_banks 3 (some .int)]
def wsX6_swap_r2 : List Cond := [Cond.methodLink RX6 85 yX6_first, Cond.static yX6_first, Cond.code yX6_first cX6_first 1 (some .int), Cond.methodLink RX6 88 yX6_reaches, Cond.instanceMethod yX6_reaches, Cond.selects RX6 yX6_reaches yX6_reaches, Cond.code yX6_reaches cX6_reaches 6 none, Cond.methodLink RX6 77 yX6_beside, Cond.instanceMethod yX6_beside, Cond.selects RX6 yX6_beside yX6_beside, Cond.code yX6_beside cX6_beside 5 (some .int), Cond.methodLink RX6 60 yX6_lies, Cond.static yX6_lies, Cond.code yX6_lies cX6_lies 3 (some .boolean), Cond.methodLink RX6 92 yX6_last, Cond.static yX6_last, Cond.code yX6_last cX6_last 1 (some .int), Cond.methodLink RX6 104 yX6_acts, Cond.instanceMethod yX6_acts, Cond.selects RX6 yX6_acts yX6_acts, Cond.code yX6_acts cX6_acts 2 none, Cond.fieldLink RX6 67 "TwoBanksModel" "again" "I", Cond.methodLink RX6 98 yX6_does, Cond.instanceMethod yX6_does]
def wsX6_swap_r3 : List Cond := [Cond.selects RX6 yX6_does yX6_does, Cond.code yX6_does cX6_does 3 none, Cond.fieldLink RX6 16 "TwoBanksModel" "turn" "I"]
def wsX6_swap : List Cond := .code yX6_swap cX6_swap 1 (some .boolean) :: ((wsX6_swap_r1 ++ (wsX6_swap_r2 ++ wsX6_swap_r3)) ++ wsX60)
def wsX6_undo : List Cond := .code yX6_undo cX6_undo 1 (some .boolean) :: ([.fieldLink RX6 64 "TwoBanksModel" "done" "I", .fieldLink RX6 67 "TwoBanksModel" "again" "I", .fieldLink RX6 23 "TwoBanksModel" "acts" "[I", .methodLink RX6 106 yX6_undoes, .instanceMethod yX6_undoes, .selects RX6 yX6_undoes yX6_undoes, .initialized RX6, .code yX6_undoes cX6_undoes 3 none, .fieldLink RX6 19 "TwoBanksModel" "at" "[I", .fieldLink RX6 16 "TwoBanksModel" "turn" "I", .fieldLink RX6 13 "TwoBanksModel" "columns" "I"] ++ wsX60)
def wsX6_redo : List Cond := .code yX6_redo cX6_redo 1 (some .boolean) :: ([.fieldLink RX6 67 "TwoBanksModel" "again" "I", .fieldLink RX6 23 "TwoBanksModel" "acts" "[I", .fieldLink RX6 64 "TwoBanksModel" "done" "I", .methodLink RX6 98 yX6_does, .instanceMethod yX6_does, .selects RX6 yX6_does yX6_does, .initialized RX6, .code yX6_does cX6_does 3 none, .fieldLink RX6 19 "TwoBanksModel" "at" "[I", .fieldLink RX6 16 "TwoBanksModel" "turn" "I", .fieldLink RX6 13 "TwoBanksModel" "columns" "I"] ++ wsX60)
def wsX6_change : List Cond := .code yX6_change cX6_change 2 none :: ([.fieldLink RX6 34 "TwoBanksModel" "turned" "[I", .fieldLink RX6 7 "TwoBanksModel" "rows" "I", .fieldLink RX6 13 "TwoBanksModel" "columns" "I", .fieldLink RX6 19 "TwoBanksModel" "at" "[I", .fieldLink RX6 16 "TwoBanksModel" "turn" "I", .fieldLink RX6 26 "TwoBanksModel" "isMade" "Z", .methodLink RX6 56 yX6_fields, .instanceMethod yX6_fields, .selects RX6 yX6_fields yX6_fields, .initialized RX6, .code yX6_fields cX6_fields 1 (some .int), .methodLink RX6 70 yX6_forgets, .instanceMethod yX6_forgets, .selects RX6 yX6_forgets yX6_forgets, .code yX6_forgets cX6_forgets 1 none, .fieldLink RX6 64 "TwoBanksModel" "done" "I", .fieldLink RX6 67 "TwoBanksModel" "again" "I"] ++ wsX60)
def wsX6_at : List Cond := .code yX6_at cX6_at 2 (some .int) :: ([.fieldLink RX6 19 "TwoBanksModel" "at" "[I", .methodLink RX6 73 yX6_isField, .instanceMethod yX6_isField, .selects RX6 yX6_isField yX6_isField, .initialized RX6, .code yX6_isField cX6_isField 2 (some .boolean), .methodLink RX6 56 yX6_fields, .instanceMethod yX6_fields, .selects RX6 yX6_fields yX6_fields, .code yX6_fields cX6_fields 1 (some .int), .fieldLink RX6 7 "TwoBanksModel" "rows" "I", .fieldLink RX6 13 "TwoBanksModel" "columns" "I", .methodLink RX6 60 yX6_lies, .static yX6_lies, .code yX6_lies cX6_lies 3 (some .boolean)] ++ wsX60)
def wsX6_isStone : List Cond := .code yX6_isStone cX6_isStone 2 (some .boolean) :: ([.fieldLink RX6 19 "TwoBanksModel" "at" "[I", .methodLink RX6 73 yX6_isField, .instanceMethod yX6_isField, .selects RX6 yX6_isField yX6_isField, .initialized RX6, .code yX6_isField cX6_isField 2 (some .boolean), .methodLink RX6 56 yX6_fields, .instanceMethod yX6_fields, .selects RX6 yX6_fields yX6_fields, .code yX6_fields cX6_fields 1 (some .int), .fieldLink RX6 7 "TwoBanksModel" "rows" "I", .fieldLink RX6 13 "TwoBanksModel" "columns" "I", .methodLink RX6 60 yX6_lies, .static yX6_lies, .code yX6_lies cX6_lies 3 (some .boolean)] ++ wsX60)
def wsX6_groupOf : List Cond := .code yX6_groupOf cX6_groupOf 2 none :: ([.fieldLink RX6 30 "TwoBanksModel" "isReached" "[Z", .fieldLink RX6 19 "TwoBanksModel" "at" "[I", .methodLink RX6 109 yX6_reachesNone, .instanceMethod yX6_reachesNone, .selects RX6 yX6_reachesNone yX6_reachesNone, .initialized RX6, .code yX6_reachesNone cX6_reachesNone 2 none, .methodLink RX6 88 yX6_reaches, .instanceMethod yX6_reaches, .selects RX6 yX6_reaches yX6_reaches, .code yX6_reaches cX6_reaches 6 none, .methodLink RX6 56 yX6_fields, .instanceMethod yX6_fields, .selects RX6 yX6_fields yX6_fields, .code yX6_fields cX6_fields 1 (some .int), .fieldLink RX6 7 "TwoBanksModel" "rows" "I", .fieldLink RX6 13 "TwoBanksModel" "columns" "I", .methodLink RX6 77 yX6_beside, .instanceMethod yX6_beside, .selects RX6 yX6_beside yX6_beside, .code yX6_beside cX6_beside 5 (some .int), .methodLink RX6 60 yX6_lies, .static yX6_lies, .code yX6_lies cX6_lies 3 (some .boolean)] ++ wsX60)
def wsX6_group_r1 : List Cond := [Cond.fieldLink RX6 30 "TwoBanksModel" "isReached" "[Z", Cond.methodLink RX6 112 yX6_isStone, Cond.instanceMethod yX6_isStone, Cond.selects RX6 yX6_isStone yX6_isStone, Cond.initialized RX6, Cond.code yX6_isStone cX6_isStone 2 (some .boolean), Cond.fieldLink RX6 19 "TwoBanksModel" "at" "[I", Cond.methodLink RX6 73 yX6_isField, Cond.instanceMethod yX6_isField, Cond.selects RX6 yX6_isField yX6_isField, Cond.code yX6_isField cX6_isField 2 (some .boolean), Cond.methodLink RX6 56 yX6_fields, Cond.instanceMethod yX6_fields, Cond.selects RX6 yX6_fields yX6_fields, Cond.code yX6_fields cX6_fields 1 (some .int), Cond.fieldLink RX6 7 "TwoBanksModel" "rows" "I", Cond.fieldLink RX6 13 "TwoBanksModel" "columns" "I", Cond.methodLink RX6 60 yX6_lies, Cond.static yX6_lies, Cond.code yX6_lies cX6_lies 3 (some .boolean), Cond.methodLink RX6 115 yX6_groupOf, Cond.instanceMethod yX6_groupOf, Cond.selects RX6 yX6_groupOf yX6_groupOf, Cond.code yX6_groupOf cX6_groupOf 2 none]
def wsX6_group_r2 : List Cond := [Cond.methodLink RX6 109 yX6_reachesNone, Cond.instanceMethod yX6_reachesNone, Cond.selects RX6 yX6_reachesNone yX6_reachesNone, Cond.code yX6_reachesNone cX6_reachesNone 2 none, Cond.methodLink RX6 88 yX6_reaches, Cond.instanceMethod yX6_reaches, Cond.selects RX6 yX6_reaches yX6_reaches, Cond.code yX6_reaches cX6_reaches 6 none, Cond.methodLink RX6 77 yX6_beside, Cond.instanceMethod yX6_beside, Cond.selects RX6 yX6_beside yX6_beside, Cond.code yX6_beside cX6_beside 5 (some .int)]
def wsX6_group : List Cond := .code yX6_group cX6_group 3 (some .int) :: ((wsX6_group_r1 ++ wsX6_group_r2) ++ wsX60)
def wsX6_isBeside : List Cond := .code yX6_isBeside cX6_isBeside 3 (some .boolean) :: ([.fieldLink RX6 30 "TwoBanksModel" "isReached" "[Z", .methodLink RX6 77 yX6_beside, .instanceMethod yX6_beside, .selects RX6 yX6_beside yX6_beside, .initialized RX6, .code yX6_beside cX6_beside 5 (some .int), .fieldLink RX6 13 "TwoBanksModel" "columns" "I", .fieldLink RX6 7 "TwoBanksModel" "rows" "I", .methodLink RX6 60 yX6_lies, .static yX6_lies, .code yX6_lies cX6_lies 3 (some .boolean)] ++ wsX60)
def wsX6_look_r1 : List Cond := [Cond.fieldLink RX6 30 "TwoBanksModel" "isReached" "[Z", Cond.fieldLink RX6 19 "TwoBanksModel" "at" "[I", Cond.methodLink RX6 112 yX6_isStone, Cond.instanceMethod yX6_isStone, Cond.selects RX6 yX6_isStone yX6_isStone, Cond.initialized RX6, Cond.code yX6_isStone cX6_isStone 2 (some .boolean), Cond.methodLink RX6 73 yX6_isField, Cond.instanceMethod yX6_isField, Cond.selects RX6 yX6_isField yX6_isField, Cond.code yX6_isField cX6_isField 2 (some .boolean), Cond.methodLink RX6 56 yX6_fields, Cond.instanceMethod yX6_fields, Cond.selects RX6 yX6_fields yX6_fields, Cond.code yX6_fields cX6_fields 1 (some .int), Cond.fieldLink RX6 7 "TwoBanksModel" "rows" "I", Cond.fieldLink RX6 13 "TwoBanksModel" "columns" "I", Cond.methodLink RX6 60 yX6_lies, Cond.static yX6_lies, Cond.code yX6_lies cX6_lies 3 (some .boolean), Cond.methodLink RX6 115 yX6_groupOf, Cond.instanceMethod yX6_groupOf, Cond.selects RX6 yX6_groupOf yX6_groupOf, Cond.code yX6_groupOf cX6_groupOf 2 none]
def wsX6_look_r2 : List Cond := [Cond.methodLink RX6 109 yX6_reachesNone, Cond.instanceMethod yX6_reachesNone, Cond.selects RX6 yX6_reachesNone yX6_reachesNone, Cond.code yX6_reachesNone cX6_reachesNone 2 none, Cond.methodLink RX6 88 yX6_reaches, Cond.instanceMethod yX6_reaches, Cond.selects RX6 yX6_reaches yX6_reaches, Cond.code yX6_reaches cX6_reaches 6 none, Cond.methodLink RX6 77 yX6_beside, Cond.instanceMethod yX6_beside, Cond.selects RX6 yX6_beside yX6_beside, Cond.code yX6_beside cX6_beside 5 (some .int), Cond.methodLink RX6 81 yX6_banks, Cond.instanceMethod yX6_banks, Cond.selects RX6 yX6_banks yX6_banks, Cond.code yX6_banks cX6_banks 3 (some .int), Cond.methodLink RX6 118 yX6_isBeside, Cond.instanceMethod yX6_isBeside, Cond.selects RX6 yX6_isBeside yX6_isBeside, Cond.code yX6_isBeside cX6_isBeside 3 (some .boolean)]
def wsX6_look : List Cond := .code yX6_look cX6_look 5 (some .int) :: ((wsX6_look_r1 ++ wsX6_look_r2) ++ wsX60)
def wsX6_groups_r1 : List Cond := [Cond.fieldLink RX6 19 "TwoBanksModel" "at" "[I", Cond.methodLink RX6 56 yX6_fields, Cond.instanceMethod yX6_fields, Cond.selects RX6 yX6_fields yX6_fields, Cond.initialized RX6, Cond.code yX6_fields cX6_fields 1 (some .int), Cond.fieldLink RX6 7 "TwoBanksModel" "rows" "I", Cond.fieldLink RX6 13 "TwoBanksModel" "columns" "I", Cond.methodLink RX6 121 yX6_group, Cond.instanceMethod yX6_group, Cond.selects RX6 yX6_group yX6_group, Cond.code yX6_group cX6_group 3 (some .int), Cond.fieldLink RX6 30 "TwoBanksModel" "isReached" "[Z", Cond.methodLink RX6 112 yX6_isStone, Cond.instanceMethod yX6_isStone, Cond.selects RX6 yX6_isStone yX6_isStone, Cond.code yX6_isStone cX6_isStone 2 (some .boolean), Cond.methodLink RX6 73 yX6_isField, Cond.instanceMethod yX6_isField, Cond.selects RX6 yX6_isField yX6_isField, Cond.code yX6_isField cX6_isField 2 (some .boolean), Cond.methodLink RX6 60 yX6_lies, Cond.static yX6_lies, Cond.code yX6_lies cX6_lies 3 (some .boolean)]
def wsX6_groups_r2 : List Cond := [Cond.methodLink RX6 115 yX6_groupOf, Cond.instanceMethod yX6_groupOf, Cond.selects RX6 yX6_groupOf yX6_groupOf, Cond.code yX6_groupOf cX6_groupOf 2 none, Cond.methodLink RX6 109 yX6_reachesNone, Cond.instanceMethod yX6_reachesNone, Cond.selects RX6 yX6_reachesNone yX6_reachesNone, Cond.code yX6_reachesNone cX6_reachesNone 2 none, Cond.methodLink RX6 88 yX6_reaches, Cond.instanceMethod yX6_reaches, Cond.selects RX6 yX6_reaches yX6_reaches, Cond.code yX6_reaches cX6_reaches 6 none, Cond.methodLink RX6 77 yX6_beside, Cond.instanceMethod yX6_beside, Cond.selects RX6 yX6_beside yX6_beside, Cond.code yX6_beside cX6_beside 5 (some .int)]
def wsX6_groups : List Cond := .code yX6_groups cX6_groups 4 (some .int) :: ((wsX6_groups_r1 ++ wsX6_groups_r2) ++ wsX60)
def wsX6_measures : List Cond := .code yX6_measures cX6_measures 5 none :: ([.fieldLink RX6 37 "TwoBanksModel" "far" "[I", .fieldLink RX6 19 "TwoBanksModel" "at" "[I", .methodLink RX6 56 yX6_fields, .instanceMethod yX6_fields, .selects RX6 yX6_fields yX6_fields, .initialized RX6, .code yX6_fields cX6_fields 1 (some .int), .fieldLink RX6 7 "TwoBanksModel" "rows" "I", .fieldLink RX6 13 "TwoBanksModel" "columns" "I", .methodLink RX6 81 yX6_banks, .instanceMethod yX6_banks, .selects RX6 yX6_banks yX6_banks, .code yX6_banks cX6_banks 3 (some .int), .methodLink RX6 92 yX6_last, .static yX6_last, .code yX6_last cX6_last 1 (some .int), .methodLink RX6 77 yX6_beside, .instanceMethod yX6_beside, .selects RX6 yX6_beside yX6_beside, .code yX6_beside cX6_beside 5 (some .int), .methodLink RX6 60 yX6_lies, .static yX6_lies, .code yX6_lies cX6_lies 3 (some .boolean)] ++ wsX60)
def wsX6_wayLong_r1 : List Cond := [Cond.fieldLink RX6 37 "TwoBanksModel" "far" "[I", Cond.methodLink RX6 101 yX6_joined, Cond.instanceMethod yX6_joined, Cond.selects RX6 yX6_joined yX6_joined, Cond.initialized RX6, Cond.code yX6_joined cX6_joined 1 (some .int), Cond.methodLink RX6 95 yX6_joins, Cond.instanceMethod yX6_joins, Cond.selects RX6 yX6_joins yX6_joins, Cond.code yX6_joins cX6_joins 3 (some .boolean), Cond.fieldLink RX6 30 "TwoBanksModel" "isReached" "[Z", Cond.fieldLink RX6 19 "TwoBanksModel" "at" "[I", Cond.methodLink RX6 56 yX6_fields, Cond.instanceMethod yX6_fields, Cond.selects RX6 yX6_fields yX6_fields, Cond.code yX6_fields cX6_fields 1 (some .int), Cond.fieldLink RX6 7 "TwoBanksModel" "rows" "I", Cond.fieldLink RX6 13 "TwoBanksModel" "columns" "I", Cond.methodLink RX6 81 yX6_banks, Cond.instanceMethod yX6_banks, Cond.selects RX6 yX6_banks yX6_banks, Cond.code yX6_banks cX6_banks 3 (some .int), Cond.methodLink RX6 85 yX6_first, Cond.static yX6_first]
def wsX6_wayLong_r2 : List Cond := [Cond.code yX6_first cX6_first 1 (some .int), Cond.methodLink RX6 88 yX6_reaches, Cond.instanceMethod yX6_reaches, Cond.selects RX6 yX6_reaches yX6_reaches, Cond.code yX6_reaches cX6_reaches 6 none, Cond.methodLink RX6 77 yX6_beside, Cond.instanceMethod yX6_beside, Cond.selects RX6 yX6_beside yX6_beside, Cond.code yX6_beside cX6_beside 5 (some .int), Cond.methodLink RX6 60 yX6_lies, Cond.static yX6_lies, Cond.code yX6_lies cX6_lies 3 (some .boolean), Cond.methodLink RX6 92 yX6_last, Cond.static yX6_last, Cond.code yX6_last cX6_last 1 (some .int), Cond.methodLink RX6 124 yX6_measures, Cond.instanceMethod yX6_measures, Cond.selects RX6 yX6_measures yX6_measures, Cond.code yX6_measures cX6_measures 5 none]
def wsX6_wayLong : List Cond := .code yX6_wayLong cX6_wayLong 4 (some .int) :: ((wsX6_wayLong_r1 ++ wsX6_wayLong_r2) ++ wsX60)
def wsX6_way_r1 : List Cond := [Cond.fieldLink RX6 37 "TwoBanksModel" "far" "[I", Cond.methodLink RX6 127 yX6_wayLong, Cond.instanceMethod yX6_wayLong, Cond.selects RX6 yX6_wayLong yX6_wayLong, Cond.initialized RX6, Cond.code yX6_wayLong cX6_wayLong 4 (some .int), Cond.methodLink RX6 101 yX6_joined, Cond.instanceMethod yX6_joined, Cond.selects RX6 yX6_joined yX6_joined, Cond.code yX6_joined cX6_joined 1 (some .int), Cond.methodLink RX6 95 yX6_joins, Cond.instanceMethod yX6_joins, Cond.selects RX6 yX6_joins yX6_joins, Cond.code yX6_joins cX6_joins 3 (some .boolean), Cond.fieldLink RX6 30 "TwoBanksModel" "isReached" "[Z", Cond.fieldLink RX6 19 "TwoBanksModel" "at" "[I", Cond.methodLink RX6 56 yX6_fields, Cond.instanceMethod yX6_fields, Cond.selects RX6 yX6_fields yX6_fields, Cond.code yX6_fields cX6_fields 1 (some .int), Cond.fieldLink RX6 7 "TwoBanksModel" "rows" "I", Cond.fieldLink RX6 13 "TwoBanksModel" "columns" "I", Cond.methodLink RX6 81 yX6_banks, Cond.instanceMethod yX6_banks]
def wsX6_way_r2 : List Cond := [Cond.selects RX6 yX6_banks yX6_banks, Cond.code yX6_banks cX6_banks 3 (some .int), Cond.methodLink RX6 85 yX6_first, Cond.static yX6_first, Cond.code yX6_first cX6_first 1 (some .int), Cond.methodLink RX6 88 yX6_reaches, Cond.instanceMethod yX6_reaches, Cond.selects RX6 yX6_reaches yX6_reaches, Cond.code yX6_reaches cX6_reaches 6 none, Cond.methodLink RX6 77 yX6_beside, Cond.instanceMethod yX6_beside, Cond.selects RX6 yX6_beside yX6_beside, Cond.code yX6_beside cX6_beside 5 (some .int), Cond.methodLink RX6 60 yX6_lies, Cond.static yX6_lies, Cond.code yX6_lies cX6_lies 3 (some .boolean), Cond.methodLink RX6 92 yX6_last, Cond.static yX6_last, Cond.code yX6_last cX6_last 1 (some .int), Cond.methodLink RX6 124 yX6_measures, Cond.instanceMethod yX6_measures, Cond.selects RX6 yX6_measures yX6_measures, Cond.code yX6_measures cX6_measures 5 none]
def wsX6_way : List Cond := .code yX6_way cX6_way 9 (some .int) :: ((wsX6_way_r1 ++ wsX6_way_r2) ++ wsX60)
def wsX6_opens : List Cond := .code yX6_opens cX6_opens 3 (some .boolean) :: ([.fieldLink RX6 130 "TwoBanksModel" "empties" "I", .fieldLink RX6 19 "TwoBanksModel" "at" "[I", .fieldLink RX6 40 "TwoBanksModel" "empty" "[I", .fieldLink RX6 43 "TwoBanksModel" "power" "[I", .methodLink RX6 56 yX6_fields, .instanceMethod yX6_fields, .selects RX6 yX6_fields yX6_fields, .initialized RX6, .code yX6_fields cX6_fields 1 (some .int), .fieldLink RX6 7 "TwoBanksModel" "rows" "I", .fieldLink RX6 13 "TwoBanksModel" "columns" "I"] ++ wsX60)
def wsX6_fills : List Cond := .code yX6_fills cX6_fills 3 none :: ([.fieldLink RX6 130 "TwoBanksModel" "empties" "I", .fieldLink RX6 19 "TwoBanksModel" "at" "[I", .fieldLink RX6 40 "TwoBanksModel" "empty" "[I", .fieldLink RX6 43 "TwoBanksModel" "power" "[I"] ++ wsX60)
def wsX6_hang_r1 : List Cond := [Cond.fieldLink RX6 19 "TwoBanksModel" "at" "[I", Cond.fieldLink RX6 30 "TwoBanksModel" "isReached" "[Z", Cond.methodLink RX6 115 yX6_groupOf, Cond.instanceMethod yX6_groupOf, Cond.selects RX6 yX6_groupOf yX6_groupOf, Cond.initialized RX6, Cond.code yX6_groupOf cX6_groupOf 2 none, Cond.methodLink RX6 109 yX6_reachesNone, Cond.instanceMethod yX6_reachesNone, Cond.selects RX6 yX6_reachesNone yX6_reachesNone, Cond.code yX6_reachesNone cX6_reachesNone 2 none, Cond.methodLink RX6 88 yX6_reaches, Cond.instanceMethod yX6_reaches, Cond.selects RX6 yX6_reaches yX6_reaches, Cond.code yX6_reaches cX6_reaches 6 none, Cond.methodLink RX6 56 yX6_fields, Cond.instanceMethod yX6_fields, Cond.selects RX6 yX6_fields yX6_fields, Cond.code yX6_fields cX6_fields 1 (some .int), Cond.fieldLink RX6 7 "TwoBanksModel" "rows" "I", Cond.fieldLink RX6 13 "TwoBanksModel" "columns" "I", Cond.methodLink RX6 77 yX6_beside, Cond.instanceMethod yX6_beside, Cond.selects RX6 yX6_beside yX6_beside]
def wsX6_hang_r2 : List Cond := [Cond.code yX6_beside cX6_beside 5 (some .int), Cond.methodLink RX6 60 yX6_lies, Cond.static yX6_lies, Cond.code yX6_lies cX6_lies 3 (some .boolean)]
def wsX6_hang : List Cond := .code yX6_hang cX6_hang 4 (some .boolean) :: ((wsX6_hang_r1 ++ wsX6_hang_r2) ++ wsX60)
def wsX6_works_r1 : List Cond := [Cond.fieldLink RX6 43 "TwoBanksModel" "power" "[I", Cond.fieldLink RX6 130 "TwoBanksModel" "empties" "I", Cond.fieldLink RX6 47 "TwoBanksModel" "byOne" "[Z", Cond.fieldLink RX6 50 "TwoBanksModel" "byTwo" "[Z", Cond.methodLink RX6 133 yX6_fills, Cond.instanceMethod yX6_fills, Cond.selects RX6 yX6_fills yX6_fills, Cond.initialized RX6, Cond.code yX6_fills cX6_fills 3 none, Cond.fieldLink RX6 19 "TwoBanksModel" "at" "[I", Cond.fieldLink RX6 40 "TwoBanksModel" "empty" "[I", Cond.methodLink RX6 95 yX6_joins, Cond.instanceMethod yX6_joins, Cond.selects RX6 yX6_joins yX6_joins, Cond.code yX6_joins cX6_joins 3 (some .boolean), Cond.fieldLink RX6 30 "TwoBanksModel" "isReached" "[Z", Cond.methodLink RX6 56 yX6_fields, Cond.instanceMethod yX6_fields, Cond.selects RX6 yX6_fields yX6_fields, Cond.code yX6_fields cX6_fields 1 (some .int), Cond.fieldLink RX6 7 "TwoBanksModel" "rows" "I", Cond.fieldLink RX6 13 "TwoBanksModel" "columns" "I", Cond.methodLink RX6 81 yX6_banks, Cond.instanceMethod yX6_banks]
def wsX6_works_r2 : List Cond := [Cond.selects RX6 yX6_banks yX6_banks, Cond.code yX6_banks cX6_banks 3 (some .int), Cond.methodLink RX6 85 yX6_first, Cond.static yX6_first, Cond.code yX6_first cX6_first 1 (some .int), Cond.methodLink RX6 88 yX6_reaches, Cond.instanceMethod yX6_reaches, Cond.selects RX6 yX6_reaches yX6_reaches, Cond.code yX6_reaches cX6_reaches 6 none, Cond.methodLink RX6 77 yX6_beside, Cond.instanceMethod yX6_beside, Cond.selects RX6 yX6_beside yX6_beside, Cond.code yX6_beside cX6_beside 5 (some .int), Cond.methodLink RX6 60 yX6_lies, Cond.static yX6_lies, Cond.code yX6_lies cX6_lies 3 (some .boolean), Cond.methodLink RX6 92 yX6_last, Cond.static yX6_last, Cond.code yX6_last cX6_last 1 (some .int), Cond.methodLink RX6 136 yX6_hang, Cond.instanceMethod yX6_hang, Cond.selects RX6 yX6_hang yX6_hang, Cond.code yX6_hang cX6_hang 4 (some .boolean), Cond.methodLink RX6 115 yX6_groupOf]
def wsX6_works_r3 : List Cond := [Cond.instanceMethod yX6_groupOf, Cond.selects RX6 yX6_groupOf yX6_groupOf, Cond.code yX6_groupOf cX6_groupOf 2 none, Cond.methodLink RX6 109 yX6_reachesNone, Cond.instanceMethod yX6_reachesNone, Cond.selects RX6 yX6_reachesNone yX6_reachesNone, Cond.code yX6_reachesNone cX6_reachesNone 2 none]
def wsX6_works : List Cond := .code yX6_works cX6_works 11 none :: ((wsX6_works_r1 ++ (wsX6_works_r2 ++ wsX6_works_r3)) ++ wsX60)
def wsX6_gets : List Cond := .code yX6_gets cX6_gets 3 (some .boolean) :: ([.fieldLink RX6 47 "TwoBanksModel" "byOne" "[Z", .fieldLink RX6 50 "TwoBanksModel" "byTwo" "[Z"] ++ wsX60)
def wsX6_winner_r1 : List Cond := [Cond.methodLink RX6 60 yX6_lies, Cond.static yX6_lies, Cond.initialized RX6, Cond.code yX6_lies cX6_lies 3 (some .boolean), Cond.methodLink RX6 139 yX6_opens, Cond.instanceMethod yX6_opens, Cond.selects RX6 yX6_opens yX6_opens, Cond.code yX6_opens cX6_opens 3 (some .boolean), Cond.fieldLink RX6 130 "TwoBanksModel" "empties" "I", Cond.fieldLink RX6 19 "TwoBanksModel" "at" "[I", Cond.fieldLink RX6 40 "TwoBanksModel" "empty" "[I", Cond.fieldLink RX6 43 "TwoBanksModel" "power" "[I", Cond.methodLink RX6 56 yX6_fields, Cond.instanceMethod yX6_fields, Cond.selects RX6 yX6_fields yX6_fields, Cond.code yX6_fields cX6_fields 1 (some .int), Cond.fieldLink RX6 7 "TwoBanksModel" "rows" "I", Cond.fieldLink RX6 13 "TwoBanksModel" "columns" "I", Cond.methodLink RX6 143 yX6_works, Cond.instanceMethod yX6_works, Cond.selects RX6 yX6_works yX6_works, Cond.code yX6_works cX6_works 11 none, Cond.fieldLink RX6 47 "TwoBanksModel" "byOne" "[Z", Cond.fieldLink RX6 50 "TwoBanksModel" "byTwo" "[Z"]
def wsX6_winner_r2 : List Cond := [Cond.methodLink RX6 133 yX6_fills, Cond.instanceMethod yX6_fills, Cond.selects RX6 yX6_fills yX6_fills, Cond.code yX6_fills cX6_fills 3 none, Cond.methodLink RX6 95 yX6_joins, Cond.instanceMethod yX6_joins, Cond.selects RX6 yX6_joins yX6_joins, Cond.code yX6_joins cX6_joins 3 (some .boolean), Cond.fieldLink RX6 30 "TwoBanksModel" "isReached" "[Z", Cond.methodLink RX6 81 yX6_banks, Cond.instanceMethod yX6_banks, Cond.selects RX6 yX6_banks yX6_banks, Cond.code yX6_banks cX6_banks 3 (some .int), Cond.methodLink RX6 85 yX6_first, Cond.static yX6_first, Cond.code yX6_first cX6_first 1 (some .int), Cond.methodLink RX6 88 yX6_reaches, Cond.instanceMethod yX6_reaches, Cond.selects RX6 yX6_reaches yX6_reaches, Cond.code yX6_reaches cX6_reaches 6 none, Cond.methodLink RX6 77 yX6_beside, Cond.instanceMethod yX6_beside, Cond.selects RX6 yX6_beside yX6_beside, Cond.code yX6_beside cX6_beside 5 (some .int)]
def wsX6_winner_r3 : List Cond := [Cond.methodLink RX6 92 yX6_last, Cond.static yX6_last, Cond.code yX6_last cX6_last 1 (some .int), Cond.methodLink RX6 136 yX6_hang, Cond.instanceMethod yX6_hang, Cond.selects RX6 yX6_hang yX6_hang, Cond.code yX6_hang cX6_hang 4 (some .boolean), Cond.methodLink RX6 115 yX6_groupOf, Cond.instanceMethod yX6_groupOf, Cond.selects RX6 yX6_groupOf yX6_groupOf, Cond.code yX6_groupOf cX6_groupOf 2 none, Cond.methodLink RX6 109 yX6_reachesNone, Cond.instanceMethod yX6_reachesNone, Cond.selects RX6 yX6_reachesNone yX6_reachesNone, Cond.code yX6_reachesNone cX6_reachesNone 2 none, Cond.methodLink RX6 147 yX6_gets, Cond.instanceMethod yX6_gets, Cond.selects RX6 yX6_gets yX6_gets, Cond.code yX6_gets cX6_gets 3 (some .boolean)]
def wsX6_winner : List Cond := .code yX6_winner cX6_winner 2 (some .int) :: ((wsX6_winner_r1 ++ (wsX6_winner_r2 ++ wsX6_winner_r3)) ++ wsX60)
def wsX6_first__r1 : List Cond := [Cond.fieldLink RX6 130 "TwoBanksModel" "empties" "I", Cond.fieldLink RX6 43 "TwoBanksModel" "power" "[I", Cond.fieldLink RX6 40 "TwoBanksModel" "empty" "[I", Cond.methodLink RX6 60 yX6_lies, Cond.static yX6_lies, Cond.initialized RX6, Cond.code yX6_lies cX6_lies 3 (some .boolean), Cond.methodLink RX6 139 yX6_opens, Cond.instanceMethod yX6_opens, Cond.selects RX6 yX6_opens yX6_opens, Cond.code yX6_opens cX6_opens 3 (some .boolean), Cond.fieldLink RX6 19 "TwoBanksModel" "at" "[I", Cond.methodLink RX6 56 yX6_fields, Cond.instanceMethod yX6_fields, Cond.selects RX6 yX6_fields yX6_fields, Cond.code yX6_fields cX6_fields 1 (some .int), Cond.fieldLink RX6 7 "TwoBanksModel" "rows" "I", Cond.fieldLink RX6 13 "TwoBanksModel" "columns" "I", Cond.methodLink RX6 143 yX6_works, Cond.instanceMethod yX6_works, Cond.selects RX6 yX6_works yX6_works, Cond.code yX6_works cX6_works 11 none, Cond.fieldLink RX6 47 "TwoBanksModel" "byOne" "[Z", Cond.fieldLink RX6 50 "TwoBanksModel" "byTwo" "[Z"]
def wsX6_first__r2 : List Cond := [Cond.methodLink RX6 133 yX6_fills, Cond.instanceMethod yX6_fills, Cond.selects RX6 yX6_fills yX6_fills, Cond.code yX6_fills cX6_fills 3 none, Cond.methodLink RX6 95 yX6_joins, Cond.instanceMethod yX6_joins, Cond.selects RX6 yX6_joins yX6_joins, Cond.code yX6_joins cX6_joins 3 (some .boolean), Cond.fieldLink RX6 30 "TwoBanksModel" "isReached" "[Z", Cond.methodLink RX6 81 yX6_banks, Cond.instanceMethod yX6_banks, Cond.selects RX6 yX6_banks yX6_banks, Cond.code yX6_banks cX6_banks 3 (some .int), Cond.methodLink RX6 85 yX6_first, Cond.static yX6_first, Cond.code yX6_first cX6_first 1 (some .int), Cond.methodLink RX6 88 yX6_reaches, Cond.instanceMethod yX6_reaches, Cond.selects RX6 yX6_reaches yX6_reaches, Cond.code yX6_reaches cX6_reaches 6 none, Cond.methodLink RX6 77 yX6_beside, Cond.instanceMethod yX6_beside, Cond.selects RX6 yX6_beside yX6_beside, Cond.code yX6_beside cX6_beside 5 (some .int)]
def wsX6_first__r3 : List Cond := [Cond.methodLink RX6 92 yX6_last, Cond.static yX6_last, Cond.code yX6_last cX6_last 1 (some .int), Cond.methodLink RX6 136 yX6_hang, Cond.instanceMethod yX6_hang, Cond.selects RX6 yX6_hang yX6_hang, Cond.code yX6_hang cX6_hang 4 (some .boolean), Cond.methodLink RX6 115 yX6_groupOf, Cond.instanceMethod yX6_groupOf, Cond.selects RX6 yX6_groupOf yX6_groupOf, Cond.code yX6_groupOf cX6_groupOf 2 none, Cond.methodLink RX6 109 yX6_reachesNone, Cond.instanceMethod yX6_reachesNone, Cond.selects RX6 yX6_reachesNone yX6_reachesNone, Cond.code yX6_reachesNone cX6_reachesNone 2 none, Cond.methodLink RX6 147 yX6_gets, Cond.instanceMethod yX6_gets, Cond.selects RX6 yX6_gets yX6_gets, Cond.code yX6_gets cX6_gets 3 (some .boolean)]
def wsX6_first_ : List Cond := .code yX6_first_ cX6_first_ 5 (some .int) :: ((wsX6_first__r1 ++ (wsX6_first__r2 ++ wsX6_first__r3)) ++ wsX60)
def wsX6_codeOf : List Cond := .code yX6_codeOf cX6_codeOf 4 (some .int) :: ([.fieldLink RX6 130 "TwoBanksModel" "empties" "I", .fieldLink RX6 43 "TwoBanksModel" "power" "[I"] ++ wsX60)
def wsX6_fillings0_r1 : List Cond := [Cond.fieldLink RX6 130 "TwoBanksModel" "empties" "I", Cond.fieldLink RX6 53 "TwoBanksModel" "isNorth" "[Z", Cond.methodLink RX6 151 yX6_codeOf, Cond.instanceMethod yX6_codeOf, Cond.selects RX6 yX6_codeOf yX6_codeOf, Cond.initialized RX6, Cond.code yX6_codeOf cX6_codeOf 4 (some .int), Cond.fieldLink RX6 43 "TwoBanksModel" "power" "[I", Cond.methodLink RX6 133 yX6_fills, Cond.instanceMethod yX6_fills, Cond.selects RX6 yX6_fills yX6_fills, Cond.code yX6_fills cX6_fills 3 none, Cond.fieldLink RX6 19 "TwoBanksModel" "at" "[I", Cond.fieldLink RX6 40 "TwoBanksModel" "empty" "[I", Cond.methodLink RX6 95 yX6_joins, Cond.instanceMethod yX6_joins, Cond.selects RX6 yX6_joins yX6_joins, Cond.code yX6_joins cX6_joins 3 (some .boolean), Cond.fieldLink RX6 30 "TwoBanksModel" "isReached" "[Z", Cond.methodLink RX6 56 yX6_fields, Cond.instanceMethod yX6_fields, Cond.selects RX6 yX6_fields yX6_fields, Cond.code yX6_fields cX6_fields 1 (some .int), Cond.fieldLink RX6 7 "TwoBanksModel" "rows" "I"]
def wsX6_fillings0_r2 : List Cond := [Cond.fieldLink RX6 13 "TwoBanksModel" "columns" "I", Cond.methodLink RX6 81 yX6_banks, Cond.instanceMethod yX6_banks, Cond.selects RX6 yX6_banks yX6_banks, Cond.code yX6_banks cX6_banks 3 (some .int), Cond.methodLink RX6 85 yX6_first, Cond.static yX6_first, Cond.code yX6_first cX6_first 1 (some .int), Cond.methodLink RX6 88 yX6_reaches, Cond.instanceMethod yX6_reaches, Cond.selects RX6 yX6_reaches yX6_reaches, Cond.code yX6_reaches cX6_reaches 6 none, Cond.methodLink RX6 77 yX6_beside, Cond.instanceMethod yX6_beside, Cond.selects RX6 yX6_beside yX6_beside, Cond.code yX6_beside cX6_beside 5 (some .int), Cond.methodLink RX6 60 yX6_lies, Cond.static yX6_lies, Cond.code yX6_lies cX6_lies 3 (some .boolean), Cond.methodLink RX6 92 yX6_last, Cond.static yX6_last, Cond.code yX6_last cX6_last 1 (some .int)]
def wsX6_fillings0 : List Cond := .code yX6_fillings0 cX6_fillings0 2 none :: ((wsX6_fillings0_r1 ++ wsX6_fillings0_r2) ++ wsX60)
def wsX6_fillings_r1 : List Cond := [Cond.fieldLink RX6 130 "TwoBanksModel" "empties" "I", Cond.fieldLink RX6 53 "TwoBanksModel" "isNorth" "[Z", Cond.methodLink RX6 139 yX6_opens, Cond.instanceMethod yX6_opens, Cond.selects RX6 yX6_opens yX6_opens, Cond.initialized RX6, Cond.code yX6_opens cX6_opens 3 (some .boolean), Cond.fieldLink RX6 19 "TwoBanksModel" "at" "[I", Cond.fieldLink RX6 40 "TwoBanksModel" "empty" "[I", Cond.fieldLink RX6 43 "TwoBanksModel" "power" "[I", Cond.methodLink RX6 56 yX6_fields, Cond.instanceMethod yX6_fields, Cond.selects RX6 yX6_fields yX6_fields, Cond.code yX6_fields cX6_fields 1 (some .int), Cond.fieldLink RX6 7 "TwoBanksModel" "rows" "I", Cond.fieldLink RX6 13 "TwoBanksModel" "columns" "I", Cond.methodLink RX6 154 yX6_fillings0, Cond.instanceMethod yX6_fillings0, Cond.selects RX6 yX6_fillings0 yX6_fillings0, Cond.code yX6_fillings0 cX6_fillings0 2 none, Cond.methodLink RX6 151 yX6_codeOf, Cond.instanceMethod yX6_codeOf, Cond.selects RX6 yX6_codeOf yX6_codeOf, Cond.code yX6_codeOf cX6_codeOf 4 (some .int)]
def wsX6_fillings_r2 : List Cond := [Cond.methodLink RX6 133 yX6_fills, Cond.instanceMethod yX6_fills, Cond.selects RX6 yX6_fills yX6_fills, Cond.code yX6_fills cX6_fills 3 none, Cond.methodLink RX6 95 yX6_joins, Cond.instanceMethod yX6_joins, Cond.selects RX6 yX6_joins yX6_joins, Cond.code yX6_joins cX6_joins 3 (some .boolean), Cond.fieldLink RX6 30 "TwoBanksModel" "isReached" "[Z", Cond.methodLink RX6 81 yX6_banks, Cond.instanceMethod yX6_banks, Cond.selects RX6 yX6_banks yX6_banks, Cond.code yX6_banks cX6_banks 3 (some .int), Cond.methodLink RX6 85 yX6_first, Cond.static yX6_first, Cond.code yX6_first cX6_first 1 (some .int), Cond.methodLink RX6 88 yX6_reaches, Cond.instanceMethod yX6_reaches, Cond.selects RX6 yX6_reaches yX6_reaches, Cond.code yX6_reaches cX6_reaches 6 none, Cond.methodLink RX6 77 yX6_beside, Cond.instanceMethod yX6_beside, Cond.selects RX6 yX6_beside yX6_beside, Cond.code yX6_beside cX6_beside 5 (some .int)]
def wsX6_fillings_r3 : List Cond := [Cond.methodLink RX6 60 yX6_lies, Cond.static yX6_lies, Cond.code yX6_lies cX6_lies 3 (some .boolean), Cond.methodLink RX6 92 yX6_last, Cond.static yX6_last, Cond.code yX6_last cX6_last 1 (some .int)]
def wsX6_fillings : List Cond := .code yX6_fillings cX6_fillings 3 (some .int) :: ((wsX6_fillings_r1 ++ (wsX6_fillings_r2 ++ wsX6_fillings_r3)) ++ wsX60)
def wsX6_isDead : List Cond := .code yX6_isDead cX6_isDead 3 (some .boolean) :: ([.fieldLink RX6 130 "TwoBanksModel" "empties" "I", .fieldLink RX6 53 "TwoBanksModel" "isNorth" "[Z"] ++ wsX60)
def wsX6_dead_r1 : List Cond := [Cond.fieldLink RX6 19 "TwoBanksModel" "at" "[I", Cond.fieldLink RX6 40 "TwoBanksModel" "empty" "[I", Cond.methodLink RX6 73 yX6_isField, Cond.instanceMethod yX6_isField, Cond.selects RX6 yX6_isField yX6_isField, Cond.initialized RX6, Cond.code yX6_isField cX6_isField 2 (some .boolean), Cond.methodLink RX6 56 yX6_fields, Cond.instanceMethod yX6_fields, Cond.selects RX6 yX6_fields yX6_fields, Cond.code yX6_fields cX6_fields 1 (some .int), Cond.fieldLink RX6 7 "TwoBanksModel" "rows" "I", Cond.fieldLink RX6 13 "TwoBanksModel" "columns" "I", Cond.methodLink RX6 60 yX6_lies, Cond.static yX6_lies, Cond.code yX6_lies cX6_lies 3 (some .boolean), Cond.methodLink RX6 139 yX6_opens, Cond.instanceMethod yX6_opens, Cond.selects RX6 yX6_opens yX6_opens, Cond.code yX6_opens cX6_opens 3 (some .boolean), Cond.fieldLink RX6 130 "TwoBanksModel" "empties" "I", Cond.fieldLink RX6 43 "TwoBanksModel" "power" "[I", Cond.methodLink RX6 154 yX6_fillings0, Cond.instanceMethod yX6_fillings0]
def wsX6_dead_r2 : List Cond := [Cond.selects RX6 yX6_fillings0 yX6_fillings0, Cond.code yX6_fillings0 cX6_fillings0 2 none, Cond.fieldLink RX6 53 "TwoBanksModel" "isNorth" "[Z", Cond.methodLink RX6 151 yX6_codeOf, Cond.instanceMethod yX6_codeOf, Cond.selects RX6 yX6_codeOf yX6_codeOf, Cond.code yX6_codeOf cX6_codeOf 4 (some .int), Cond.methodLink RX6 133 yX6_fills, Cond.instanceMethod yX6_fills, Cond.selects RX6 yX6_fills yX6_fills, Cond.code yX6_fills cX6_fills 3 none, Cond.methodLink RX6 95 yX6_joins, Cond.instanceMethod yX6_joins, Cond.selects RX6 yX6_joins yX6_joins, Cond.code yX6_joins cX6_joins 3 (some .boolean), Cond.fieldLink RX6 30 "TwoBanksModel" "isReached" "[Z", Cond.methodLink RX6 81 yX6_banks, Cond.instanceMethod yX6_banks, Cond.selects RX6 yX6_banks yX6_banks, Cond.code yX6_banks cX6_banks 3 (some .int), Cond.methodLink RX6 85 yX6_first, Cond.static yX6_first, Cond.code yX6_first cX6_first 1 (some .int), Cond.methodLink RX6 88 yX6_reaches]
def wsX6_dead_r3 : List Cond := [Cond.instanceMethod yX6_reaches, Cond.selects RX6 yX6_reaches yX6_reaches, Cond.code yX6_reaches cX6_reaches 6 none, Cond.methodLink RX6 77 yX6_beside, Cond.instanceMethod yX6_beside, Cond.selects RX6 yX6_beside yX6_beside, Cond.code yX6_beside cX6_beside 5 (some .int), Cond.methodLink RX6 92 yX6_last, Cond.static yX6_last, Cond.code yX6_last cX6_last 1 (some .int), Cond.methodLink RX6 157 yX6_isDead, Cond.instanceMethod yX6_isDead, Cond.selects RX6 yX6_isDead yX6_isDead, Cond.code yX6_isDead cX6_isDead 3 (some .boolean)]
def wsX6_dead : List Cond := .code yX6_dead cX6_dead 3 (some .int) :: ((wsX6_dead_r1 ++ (wsX6_dead_r2 ++ wsX6_dead_r3)) ++ wsX60)
def wsX6_mayLink : List Cond := .code yX6_mayLink cX6_mayLink 4 (some .boolean) :: ([.fieldLink RX6 19 "TwoBanksModel" "at" "[I", .methodLink RX6 60 yX6_lies, .static yX6_lies, .initialized RX6, .code yX6_lies cX6_lies 3 (some .boolean), .methodLink RX6 73 yX6_isField, .instanceMethod yX6_isField, .selects RX6 yX6_isField yX6_isField, .code yX6_isField cX6_isField 2 (some .boolean), .methodLink RX6 56 yX6_fields, .instanceMethod yX6_fields, .selects RX6 yX6_fields yX6_fields, .code yX6_fields cX6_fields 1 (some .int), .fieldLink RX6 7 "TwoBanksModel" "rows" "I", .fieldLink RX6 13 "TwoBanksModel" "columns" "I", .methodLink RX6 139 yX6_opens, .instanceMethod yX6_opens, .selects RX6 yX6_opens yX6_opens, .code yX6_opens cX6_opens 3 (some .boolean), .fieldLink RX6 130 "TwoBanksModel" "empties" "I", .fieldLink RX6 40 "TwoBanksModel" "empty" "[I", .fieldLink RX6 43 "TwoBanksModel" "power" "[I"] ++ wsX60)
def wsX6_link_r1 : List Cond := [Cond.methodLink RX6 160 yX6_mayLink, Cond.instanceMethod yX6_mayLink, Cond.selects RX6 yX6_mayLink yX6_mayLink, Cond.initialized RX6, Cond.code yX6_mayLink cX6_mayLink 4 (some .boolean), Cond.fieldLink RX6 19 "TwoBanksModel" "at" "[I", Cond.methodLink RX6 60 yX6_lies, Cond.static yX6_lies, Cond.code yX6_lies cX6_lies 3 (some .boolean), Cond.methodLink RX6 73 yX6_isField, Cond.instanceMethod yX6_isField, Cond.selects RX6 yX6_isField yX6_isField, Cond.code yX6_isField cX6_isField 2 (some .boolean), Cond.methodLink RX6 56 yX6_fields, Cond.instanceMethod yX6_fields, Cond.selects RX6 yX6_fields yX6_fields, Cond.code yX6_fields cX6_fields 1 (some .int), Cond.fieldLink RX6 7 "TwoBanksModel" "rows" "I", Cond.fieldLink RX6 13 "TwoBanksModel" "columns" "I", Cond.methodLink RX6 139 yX6_opens, Cond.instanceMethod yX6_opens, Cond.selects RX6 yX6_opens yX6_opens, Cond.code yX6_opens cX6_opens 3 (some .boolean), Cond.fieldLink RX6 130 "TwoBanksModel" "empties" "I"]
def wsX6_link_r2 : List Cond := [Cond.fieldLink RX6 40 "TwoBanksModel" "empty" "[I", Cond.fieldLink RX6 43 "TwoBanksModel" "power" "[I", Cond.methodLink RX6 143 yX6_works, Cond.instanceMethod yX6_works, Cond.selects RX6 yX6_works yX6_works, Cond.code yX6_works cX6_works 11 none, Cond.fieldLink RX6 47 "TwoBanksModel" "byOne" "[Z", Cond.fieldLink RX6 50 "TwoBanksModel" "byTwo" "[Z", Cond.methodLink RX6 133 yX6_fills, Cond.instanceMethod yX6_fills, Cond.selects RX6 yX6_fills yX6_fills, Cond.code yX6_fills cX6_fills 3 none, Cond.methodLink RX6 95 yX6_joins, Cond.instanceMethod yX6_joins, Cond.selects RX6 yX6_joins yX6_joins, Cond.code yX6_joins cX6_joins 3 (some .boolean), Cond.fieldLink RX6 30 "TwoBanksModel" "isReached" "[Z", Cond.methodLink RX6 81 yX6_banks, Cond.instanceMethod yX6_banks, Cond.selects RX6 yX6_banks yX6_banks, Cond.code yX6_banks cX6_banks 3 (some .int), Cond.methodLink RX6 85 yX6_first, Cond.static yX6_first, Cond.code yX6_first cX6_first 1 (some .int)]
def wsX6_link_r3 : List Cond := [Cond.methodLink RX6 88 yX6_reaches, Cond.instanceMethod yX6_reaches, Cond.selects RX6 yX6_reaches yX6_reaches, Cond.code yX6_reaches cX6_reaches 6 none, Cond.methodLink RX6 77 yX6_beside, Cond.instanceMethod yX6_beside, Cond.selects RX6 yX6_beside yX6_beside, Cond.code yX6_beside cX6_beside 5 (some .int), Cond.methodLink RX6 92 yX6_last, Cond.static yX6_last, Cond.code yX6_last cX6_last 1 (some .int), Cond.methodLink RX6 136 yX6_hang, Cond.instanceMethod yX6_hang, Cond.selects RX6 yX6_hang yX6_hang, Cond.code yX6_hang cX6_hang 4 (some .boolean), Cond.methodLink RX6 115 yX6_groupOf, Cond.instanceMethod yX6_groupOf, Cond.selects RX6 yX6_groupOf yX6_groupOf, Cond.code yX6_groupOf cX6_groupOf 2 none, Cond.methodLink RX6 109 yX6_reachesNone, Cond.instanceMethod yX6_reachesNone, Cond.selects RX6 yX6_reachesNone yX6_reachesNone, Cond.code yX6_reachesNone cX6_reachesNone 2 none, Cond.methodLink RX6 147 yX6_gets]
def wsX6_link_r4 : List Cond := [Cond.instanceMethod yX6_gets, Cond.selects RX6 yX6_gets yX6_gets, Cond.code yX6_gets cX6_gets 3 (some .boolean)]
def wsX6_link : List Cond := .code yX6_link cX6_link 4 (some .int) :: ((wsX6_link_r1 ++ (wsX6_link_r2 ++ (wsX6_link_r3 ++ wsX6_link_r4))) ++ wsX60)
def wsX6_half_r1 : List Cond := [Cond.fieldLink RX6 130 "TwoBanksModel" "empties" "I", Cond.fieldLink RX6 43 "TwoBanksModel" "power" "[I", Cond.fieldLink RX6 40 "TwoBanksModel" "empty" "[I", Cond.methodLink RX6 163 yX6_link, Cond.instanceMethod yX6_link, Cond.selects RX6 yX6_link yX6_link, Cond.initialized RX6, Cond.code yX6_link cX6_link 4 (some .int), Cond.methodLink RX6 160 yX6_mayLink, Cond.instanceMethod yX6_mayLink, Cond.selects RX6 yX6_mayLink yX6_mayLink, Cond.code yX6_mayLink cX6_mayLink 4 (some .boolean), Cond.fieldLink RX6 19 "TwoBanksModel" "at" "[I", Cond.methodLink RX6 60 yX6_lies, Cond.static yX6_lies, Cond.code yX6_lies cX6_lies 3 (some .boolean), Cond.methodLink RX6 73 yX6_isField, Cond.instanceMethod yX6_isField, Cond.selects RX6 yX6_isField yX6_isField, Cond.code yX6_isField cX6_isField 2 (some .boolean), Cond.methodLink RX6 56 yX6_fields, Cond.instanceMethod yX6_fields, Cond.selects RX6 yX6_fields yX6_fields, Cond.code yX6_fields cX6_fields 1 (some .int)]
def wsX6_half_r2 : List Cond := [Cond.fieldLink RX6 7 "TwoBanksModel" "rows" "I", Cond.fieldLink RX6 13 "TwoBanksModel" "columns" "I", Cond.methodLink RX6 139 yX6_opens, Cond.instanceMethod yX6_opens, Cond.selects RX6 yX6_opens yX6_opens, Cond.code yX6_opens cX6_opens 3 (some .boolean), Cond.methodLink RX6 143 yX6_works, Cond.instanceMethod yX6_works, Cond.selects RX6 yX6_works yX6_works, Cond.code yX6_works cX6_works 11 none, Cond.fieldLink RX6 47 "TwoBanksModel" "byOne" "[Z", Cond.fieldLink RX6 50 "TwoBanksModel" "byTwo" "[Z", Cond.methodLink RX6 133 yX6_fills, Cond.instanceMethod yX6_fills, Cond.selects RX6 yX6_fills yX6_fills, Cond.code yX6_fills cX6_fills 3 none, Cond.methodLink RX6 95 yX6_joins, Cond.instanceMethod yX6_joins, Cond.selects RX6 yX6_joins yX6_joins, Cond.code yX6_joins cX6_joins 3 (some .boolean), Cond.fieldLink RX6 30 "TwoBanksModel" "isReached" "[Z", Cond.methodLink RX6 81 yX6_banks, Cond.instanceMethod yX6_banks, Cond.selects RX6 yX6_banks yX6_banks]
def wsX6_half_r3 : List Cond := [Cond.code yX6_banks cX6_banks 3 (some .int), Cond.methodLink RX6 85 yX6_first, Cond.static yX6_first, Cond.code yX6_first cX6_first 1 (some .int), Cond.methodLink RX6 88 yX6_reaches, Cond.instanceMethod yX6_reaches, Cond.selects RX6 yX6_reaches yX6_reaches, Cond.code yX6_reaches cX6_reaches 6 none, Cond.methodLink RX6 77 yX6_beside, Cond.instanceMethod yX6_beside, Cond.selects RX6 yX6_beside yX6_beside, Cond.code yX6_beside cX6_beside 5 (some .int), Cond.methodLink RX6 92 yX6_last, Cond.static yX6_last, Cond.code yX6_last cX6_last 1 (some .int), Cond.methodLink RX6 136 yX6_hang, Cond.instanceMethod yX6_hang, Cond.selects RX6 yX6_hang yX6_hang, Cond.code yX6_hang cX6_hang 4 (some .boolean), Cond.methodLink RX6 115 yX6_groupOf, Cond.instanceMethod yX6_groupOf, Cond.selects RX6 yX6_groupOf yX6_groupOf, Cond.code yX6_groupOf cX6_groupOf 2 none, Cond.methodLink RX6 109 yX6_reachesNone]
def wsX6_half_r4 : List Cond := [Cond.instanceMethod yX6_reachesNone, Cond.selects RX6 yX6_reachesNone yX6_reachesNone, Cond.code yX6_reachesNone cX6_reachesNone 2 none, Cond.methodLink RX6 147 yX6_gets, Cond.instanceMethod yX6_gets, Cond.selects RX6 yX6_gets yX6_gets, Cond.code yX6_gets cX6_gets 3 (some .boolean)]
def wsX6_half : List Cond := .code yX6_half cX6_half 7 (some .int) :: ((wsX6_half_r1 ++ (wsX6_half_r2 ++ (wsX6_half_r3 ++ wsX6_half_r4))) ++ wsX60)
def wsX6_count_r1 : List Cond := [Cond.fieldLink RX6 7 "TwoBanksModel" "rows" "I", Cond.fieldLink RX6 13 "TwoBanksModel" "columns" "I", Cond.fieldLink RX6 19 "TwoBanksModel" "at" "[I", Cond.fieldLink RX6 16 "TwoBanksModel" "turn" "I", Cond.fieldLink RX6 64 "TwoBanksModel" "done" "I", Cond.fieldLink RX6 67 "TwoBanksModel" "again" "I", Cond.fieldLink RX6 130 "TwoBanksModel" "empties" "I", Cond.methodLink RX6 56 yX6_fields, Cond.instanceMethod yX6_fields, Cond.selects RX6 yX6_fields yX6_fields, Cond.initialized RX6, Cond.code yX6_fields cX6_fields 1 (some .int), Cond.methodLink RX6 167 yX6_groups, Cond.instanceMethod yX6_groups, Cond.selects RX6 yX6_groups yX6_groups, Cond.code yX6_groups cX6_groups 4 (some .int), Cond.methodLink RX6 121 yX6_group, Cond.instanceMethod yX6_group, Cond.selects RX6 yX6_group yX6_group, Cond.code yX6_group cX6_group 3 (some .int), Cond.fieldLink RX6 30 "TwoBanksModel" "isReached" "[Z", Cond.methodLink RX6 112 yX6_isStone, Cond.instanceMethod yX6_isStone, Cond.selects RX6 yX6_isStone yX6_isStone]
def wsX6_count_r2 : List Cond := [Cond.code yX6_isStone cX6_isStone 2 (some .boolean), Cond.methodLink RX6 73 yX6_isField, Cond.instanceMethod yX6_isField, Cond.selects RX6 yX6_isField yX6_isField, Cond.code yX6_isField cX6_isField 2 (some .boolean), Cond.methodLink RX6 60 yX6_lies, Cond.static yX6_lies, Cond.code yX6_lies cX6_lies 3 (some .boolean), Cond.methodLink RX6 115 yX6_groupOf, Cond.instanceMethod yX6_groupOf, Cond.selects RX6 yX6_groupOf yX6_groupOf, Cond.code yX6_groupOf cX6_groupOf 2 none, Cond.methodLink RX6 109 yX6_reachesNone, Cond.instanceMethod yX6_reachesNone, Cond.selects RX6 yX6_reachesNone yX6_reachesNone, Cond.code yX6_reachesNone cX6_reachesNone 2 none, Cond.methodLink RX6 88 yX6_reaches, Cond.instanceMethod yX6_reaches, Cond.selects RX6 yX6_reaches yX6_reaches, Cond.code yX6_reaches cX6_reaches 6 none, Cond.methodLink RX6 77 yX6_beside, Cond.instanceMethod yX6_beside, Cond.selects RX6 yX6_beside yX6_beside, Cond.code yX6_beside cX6_beside 5 (some .int)]
def wsX6_count_r3 : List Cond := [Cond.methodLink RX6 139 yX6_opens, Cond.instanceMethod yX6_opens, Cond.selects RX6 yX6_opens yX6_opens, Cond.code yX6_opens cX6_opens 3 (some .boolean), Cond.fieldLink RX6 40 "TwoBanksModel" "empty" "[I", Cond.fieldLink RX6 43 "TwoBanksModel" "power" "[I", Cond.methodLink RX6 154 yX6_fillings0, Cond.instanceMethod yX6_fillings0, Cond.selects RX6 yX6_fillings0 yX6_fillings0, Cond.code yX6_fillings0 cX6_fillings0 2 none, Cond.fieldLink RX6 53 "TwoBanksModel" "isNorth" "[Z", Cond.methodLink RX6 151 yX6_codeOf, Cond.instanceMethod yX6_codeOf, Cond.selects RX6 yX6_codeOf yX6_codeOf, Cond.code yX6_codeOf cX6_codeOf 4 (some .int), Cond.methodLink RX6 133 yX6_fills, Cond.instanceMethod yX6_fills, Cond.selects RX6 yX6_fills yX6_fills, Cond.code yX6_fills cX6_fills 3 none, Cond.methodLink RX6 95 yX6_joins, Cond.instanceMethod yX6_joins, Cond.selects RX6 yX6_joins yX6_joins, Cond.code yX6_joins cX6_joins 3 (some .boolean), Cond.methodLink RX6 81 yX6_banks]
def wsX6_count_r4 : List Cond := [Cond.instanceMethod yX6_banks, Cond.selects RX6 yX6_banks yX6_banks, Cond.code yX6_banks cX6_banks 3 (some .int), Cond.methodLink RX6 85 yX6_first, Cond.static yX6_first, Cond.code yX6_first cX6_first 1 (some .int), Cond.methodLink RX6 92 yX6_last, Cond.static yX6_last, Cond.code yX6_last cX6_last 1 (some .int), Cond.methodLink RX6 157 yX6_isDead, Cond.instanceMethod yX6_isDead, Cond.selects RX6 yX6_isDead yX6_isDead, Cond.code yX6_isDead cX6_isDead 3 (some .boolean), Cond.methodLink RX6 127 yX6_wayLong, Cond.instanceMethod yX6_wayLong, Cond.selects RX6 yX6_wayLong yX6_wayLong, Cond.code yX6_wayLong cX6_wayLong 4 (some .int), Cond.fieldLink RX6 37 "TwoBanksModel" "far" "[I", Cond.methodLink RX6 101 yX6_joined, Cond.instanceMethod yX6_joined, Cond.selects RX6 yX6_joined yX6_joined, Cond.code yX6_joined cX6_joined 1 (some .int), Cond.methodLink RX6 124 yX6_measures, Cond.instanceMethod yX6_measures]
def wsX6_count_r5 : List Cond := [Cond.selects RX6 yX6_measures yX6_measures, Cond.code yX6_measures cX6_measures 5 none]
def wsX6_count : List Cond := .code yX6_count cX6_count 4 (some .int) :: ((wsX6_count_r1 ++ (wsX6_count_r2 ++ (wsX6_count_r3 ++ (wsX6_count_r4 ++ wsX6_count_r5)))) ++ wsX60)
def wsJ9_max_7cf53 : List Cond := .code yJ9_max_7cf53 cJ9_max_7cf53 2 (some .int) :: ([])
def wsJ9_min_7cf53 : List Cond := .code yJ9_min_7cf53 cJ9_min_7cf53 2 (some .int) :: ([])
def wsL_law_r1 : List Cond := [Cond.classLink RL 7 RX5, Cond.instantiable RX5 9, Cond.initialized RX5, Cond.classLink RL 10 RX6, Cond.instantiable RX6 17, Cond.initialized RX6, Cond.methodLink RL 9 yX5_init, Cond.instanceMethod yX5_init, Cond.code yX5_init cX5_init 1 none, Cond.methodLink RX5 3 objectInit, Cond.instanceMethod objectInit, Cond.code objectInit ⟨#[0xb1]⟩ 1 none, Cond.classLink RX5 9 RX2, Cond.instantiable RX2 7, Cond.initialized RX2, Cond.fieldLink RX5 12 "TwoBanks" "grid" "LTwoBanks$Grid;", Cond.classLink RX5 16 RX0, Cond.instantiable RX0 3, Cond.initialized RX0, Cond.fieldLink RX5 19 "TwoBanks" "deeds" "LTwoBanks$Deeds;", Cond.classLink RX5 23 RX4, Cond.instantiable RX4 3, Cond.initialized RX4, Cond.fieldLink RX5 26 "TwoBanks" "path" "LTwoBanks$Path;"]
def wsL_law_r2 : List Cond := [Cond.classLink RX5 30 RX1, Cond.instantiable RX1 15, Cond.initialized RX1, Cond.fieldLink RX5 33 "TwoBanks" "bankFight" "LTwoBanks$Fight;", Cond.fieldLink RX5 37 "TwoBanks" "linkFight" "LTwoBanks$Fight;", Cond.instanceMethod yX2_init, Cond.code yX2_init cX2_init 1 none, Cond.methodLink RX2 3 objectInit, Cond.instanceMethod yX0_init, Cond.code yX0_init cX0_init 1 none, Cond.methodLink RX0 3 objectInit, Cond.arrayClass .int, Cond.fieldLink RX0 9 "TwoBanks$Deeds" "row" "[I", Cond.instanceMethod yX4_init, Cond.code yX4_init cX4_init 1 none, Cond.methodLink RX4 3 objectInit, Cond.arrayClass .long, Cond.fieldLink RX4 9 "TwoBanks$Path" "layers" "[J", Cond.fieldLink RX4 15 "TwoBanks$Path" "fields" "[I", Cond.instanceMethod yX1_init, Cond.code yX1_init cX1_init 1 none, Cond.methodLink RX1 3 objectInit, Cond.classLink RX1 9 RX3, Cond.instantiable RX3 1]
def wsL_law_r3 : List Cond := [Cond.initialized RX3, Cond.fieldLink RX1 14 "TwoBanks$Fight" "reached" "LTwoBanks$Marks;", Cond.constant RX1 20 (118098), Cond.fieldLink RX1 21 "TwoBanks$Fight" "won" "LTwoBanks$Marks;", Cond.fieldLink RX1 24 "TwoBanks$Fight" "lost" "LTwoBanks$Marks;", Cond.methodLink RX1 11 yX3_init, Cond.instanceMethod yX3_init, Cond.code yX3_init cX3_init 2 none, Cond.methodLink RX3 1 objectInit, Cond.methodLink RX3 7 Lib.Math.max.name, Cond.static Lib.Math.max.name, Cond.initialized "java/lang/Math", Cond.code Lib.Math.max.name Lib.Math.max.code 2 (some .int), Cond.fieldLink RX3 13 "TwoBanks$Marks" "words" "[J", Cond.methodLink RX5 40 yX5_makeEmpty, Cond.instanceMethod yX5_makeEmpty, Cond.selects RX5 yX5_makeEmpty yX5_makeEmpty, Cond.code yX5_makeEmpty cX5_makeEmpty 3 none, Cond.fieldLink RX5 115 "TwoBanks" "north" "J", Cond.fieldLink RX5 107 "TwoBanks" "west" "J", Cond.fieldLink RX5 57 "TwoBanks" "toLay" "I", Cond.fieldLink RX5 61 "TwoBanks" "untouched" "Z", Cond.methodLink RX5 118 yX2_shape, Cond.instanceMethod yX2_shape]
def wsL_law_r4 : List Cond := [Cond.selects RX2 yX2_shape yX2_shape, Cond.code yX2_shape cX2_shape 4 none, Cond.fieldLink RX2 9 "TwoBanks$Grid" "rows" "I", Cond.fieldLink RX2 15 "TwoBanks$Grid" "columns" "I", Cond.fieldLink RX2 22 "TwoBanks$Grid" "all" "J", Cond.fieldLink RX2 26 "TwoBanks$Grid" "northBank" "J", Cond.fieldLink RX2 29 "TwoBanks$Grid" "southBank" "J", Cond.fieldLink RX2 32 "TwoBanks$Grid" "westBank" "J", Cond.fieldLink RX2 35 "TwoBanks$Grid" "eastBank" "J", Cond.static yX5_bit, Cond.code yX5_bit cX5_bit 1 (some .long), Cond.methodLink RX5 65 yX0_forget, Cond.instanceMethod yX0_forget, Cond.selects RX0 yX0_forget yX0_forget, Cond.code yX0_forget cX0_forget 1 none, Cond.fieldLink RX0 15 "TwoBanks$Deeds" "done" "I", Cond.fieldLink RX0 19 "TwoBanks$Deeds" "known" "I", Cond.methodLink RL 12 yX6_init, Cond.instanceMethod yX6_init, Cond.code yX6_init cX6_init 1 none, Cond.methodLink RX6 1 objectInit, Cond.fieldLink RX6 7 "TwoBanksModel" "rows" "I", Cond.fieldLink RX6 13 "TwoBanksModel" "columns" "I", Cond.fieldLink RX6 16 "TwoBanksModel" "turn" "I"]
def wsL_law_r5 : List Cond := [Cond.fieldLink RX6 19 "TwoBanksModel" "at" "[I", Cond.fieldLink RX6 23 "TwoBanksModel" "acts" "[I", Cond.fieldLink RX6 26 "TwoBanksModel" "isMade" "Z", Cond.arrayClass .boolean, Cond.fieldLink RX6 30 "TwoBanksModel" "isReached" "[Z", Cond.fieldLink RX6 34 "TwoBanksModel" "turned" "[I", Cond.fieldLink RX6 37 "TwoBanksModel" "far" "[I", Cond.fieldLink RX6 40 "TwoBanksModel" "empty" "[I", Cond.fieldLink RX6 43 "TwoBanksModel" "power" "[I", Cond.constant RX6 46 (59049), Cond.fieldLink RX6 47 "TwoBanksModel" "byOne" "[Z", Cond.fieldLink RX6 50 "TwoBanksModel" "byTwo" "[Z", Cond.fieldLink RX6 53 "TwoBanksModel" "isNorth" "[Z", Cond.methodLink RL 13 yX5_board, Cond.instanceMethod yX5_board, Cond.selects RX5 yX5_board yX5_board, Cond.code yX5_board cX5_board 3 (some .boolean), Cond.methodLink RX5 44 yX5_isSide, Cond.static yX5_isSide, Cond.code yX5_isSide cX5_isSide 1 (some .boolean), Cond.methodLink RL 17 yX6_board, Cond.instanceMethod yX6_board, Cond.selects RX6 yX6_board yX6_board, Cond.code yX6_board cX6_board 4 (some .boolean)]
def wsL_law_r6 : List Cond := [Cond.methodLink RX6 60 yX6_lies, Cond.static yX6_lies, Cond.code yX6_lies cX6_lies 3 (some .boolean), Cond.methodLink RX6 70 yX6_forgets, Cond.instanceMethod yX6_forgets, Cond.selects RX6 yX6_forgets yX6_forgets, Cond.code yX6_forgets cX6_forgets 1 none, Cond.fieldLink RX6 64 "TwoBanksModel" "done" "I", Cond.fieldLink RX6 67 "TwoBanksModel" "again" "I", Cond.methodLink RL 18 yX5_set, Cond.instanceMethod yX5_set, Cond.selects RX5 yX5_set yX5_set, Cond.code yX5_set cX5_set 5 (some .boolean), Cond.methodLink RX5 48 yX5_isColour, Cond.static yX5_isColour, Cond.code yX5_isColour cX5_isColour 1 (some .boolean), Cond.methodLink RX5 51 yX2_has, Cond.instanceMethod yX2_has, Cond.selects RX2 yX2_has yX2_has, Cond.code yX2_has cX2_has 2 (some .boolean), Cond.methodLink RX5 54 yX5_put, Cond.instanceMethod yX5_put, Cond.selects RX5 yX5_put yX5_put, Cond.code yX5_put cX5_put 3 none]
def wsL_law_r7 : List Cond := [Cond.constantLong RX5 197 (-1), Cond.methodLink RX5 171 yX5_bit, Cond.methodLink RL 22 yX6_set, Cond.instanceMethod yX6_set, Cond.selects RX6 yX6_set yX6_set, Cond.code yX6_set cX6_set 4 (some .boolean), Cond.methodLink RX6 73 yX6_isField, Cond.instanceMethod yX6_isField, Cond.selects RX6 yX6_isField yX6_isField, Cond.code yX6_isField cX6_isField 2 (some .boolean), Cond.methodLink RX6 56 yX6_fields, Cond.instanceMethod yX6_fields, Cond.selects RX6 yX6_fields yX6_fields, Cond.code yX6_fields cX6_fields 1 (some .int), Cond.methodLink RL 23 yX5_lay, Cond.instanceMethod yX5_lay, Cond.selects RX5 yX5_lay yX5_lay, Cond.code yX5_lay cX5_lay 2 (some .int), Cond.methodLink RX5 68 yX5_stoneAt, Cond.instanceMethod yX5_stoneAt, Cond.selects RX5 yX5_stoneAt yX5_stoneAt, Cond.code yX5_stoneAt cX5_stoneAt 2 (some .int), Cond.methodLink RX5 72 yX5_whoJoined, Cond.instanceMethod yX5_whoJoined]
def wsL_law_r8 : List Cond := [Cond.selects RX5 yX5_whoJoined yX5_whoJoined, Cond.code yX5_whoJoined cX5_whoJoined 1 (some .int), Cond.methodLink RX5 209 yX2_northBank, Cond.instanceMethod yX2_northBank, Cond.selects RX2 yX2_northBank yX2_northBank, Cond.code yX2_northBank cX2_northBank 1 (some .long), Cond.methodLink RX5 212 yX2_southBank, Cond.instanceMethod yX2_southBank, Cond.selects RX2 yX2_southBank yX2_southBank, Cond.code yX2_southBank cX2_southBank 1 (some .long), Cond.methodLink RX5 215 yX2_joins, Cond.instanceMethod yX2_joins, Cond.selects RX2 yX2_joins yX2_joins, Cond.code yX2_joins cX2_joins 7 (some .boolean), Cond.methodLink RX2 44 yX2_spread, Cond.instanceMethod yX2_spread, Cond.selects RX2 yX2_spread yX2_spread, Cond.code yX2_spread cX2_spread 10 (some .long), Cond.methodLink RX2 40 yX2_beside, Cond.instanceMethod yX2_beside, Cond.selects RX2 yX2_beside yX2_beside, Cond.code yX2_beside cX2_beside 13 (some .long), Cond.constantLong RX2 38 (-1), Cond.methodLink RX5 219 yX2_westBank]
def wsL_law_r9 : List Cond := [Cond.instanceMethod yX2_westBank, Cond.selects RX2 yX2_westBank yX2_westBank, Cond.code yX2_westBank cX2_westBank 1 (some .long), Cond.methodLink RX5 222 yX2_eastBank, Cond.instanceMethod yX2_eastBank, Cond.selects RX2 yX2_eastBank yX2_eastBank, Cond.code yX2_eastBank cX2_eastBank 1 (some .long), Cond.methodLink RX5 76 yX0_add, Cond.instanceMethod yX0_add, Cond.selects RX0 yX0_add yX0_add, Cond.code yX0_add cX0_add 2 (some .boolean), Cond.methodLink RX5 79 yX5_layStone, Cond.instanceMethod yX5_layStone, Cond.selects RX5 yX5_layStone yX5_layStone, Cond.code yX5_layStone cX5_layStone 2 none, Cond.methodLink RX5 101 yX5_other, Cond.static yX5_other, Cond.code yX5_other cX5_other 1 (some .int), Cond.methodLink RL 27 yX6_lay, Cond.instanceMethod yX6_lay, Cond.selects RX6 yX6_lay yX6_lay, Cond.code yX6_lay cX6_lay 2 (some .int), Cond.methodLink RX6 101 yX6_joined, Cond.instanceMethod yX6_joined]
def wsL_law_r10 : List Cond := [Cond.selects RX6 yX6_joined yX6_joined, Cond.code yX6_joined cX6_joined 1 (some .int), Cond.methodLink RX6 95 yX6_joins, Cond.instanceMethod yX6_joins, Cond.selects RX6 yX6_joins yX6_joins, Cond.code yX6_joins cX6_joins 3 (some .boolean), Cond.methodLink RX6 81 yX6_banks, Cond.instanceMethod yX6_banks, Cond.selects RX6 yX6_banks yX6_banks, Cond.code yX6_banks cX6_banks 3 (some .int), Cond.methodLink RX6 85 yX6_first, Cond.static yX6_first, Cond.code yX6_first cX6_first 1 (some .int), Cond.methodLink RX6 88 yX6_reaches, Cond.instanceMethod yX6_reaches, Cond.selects RX6 yX6_reaches yX6_reaches, Cond.code yX6_reaches cX6_reaches 6 none, Cond.methodLink RX6 77 yX6_beside, Cond.instanceMethod yX6_beside, Cond.selects RX6 yX6_beside yX6_beside, Cond.code yX6_beside cX6_beside 5 (some .int), Cond.methodLink RX6 92 yX6_last, Cond.static yX6_last, Cond.code yX6_last cX6_last 1 (some .int)]
def wsL_law_r11 : List Cond := [Cond.methodLink RX6 104 yX6_acts, Cond.instanceMethod yX6_acts, Cond.selects RX6 yX6_acts yX6_acts, Cond.code yX6_acts cX6_acts 2 none, Cond.methodLink RX6 98 yX6_does, Cond.instanceMethod yX6_does, Cond.selects RX6 yX6_does yX6_does, Cond.code yX6_does cX6_does 3 none, Cond.methodLink RL 28 yX5_swap, Cond.instanceMethod yX5_swap, Cond.selects RX5 yX5_swap yX5_swap, Cond.code yX5_swap cX5_swap 2 (some .boolean), Cond.methodLink RX5 83 yX2_rows, Cond.instanceMethod yX2_rows, Cond.selects RX2 yX2_rows yX2_rows, Cond.code yX2_rows cX2_rows 1 (some .int), Cond.methodLink RX5 86 yX2_columns, Cond.instanceMethod yX2_columns, Cond.selects RX2 yX2_columns yX2_columns, Cond.code yX2_columns cX2_columns 1 (some .int), Cond.methodLink RX5 89 yX0_done, Cond.instanceMethod yX0_done, Cond.selects RX0 yX0_done yX0_done, Cond.code yX0_done cX0_done 1 (some .int)]
def wsL_law_r12 : List Cond := [Cond.methodLink RX5 92 yX5_takeOver, Cond.instanceMethod yX5_takeOver, Cond.selects RX5 yX5_takeOver yX5_takeOver, Cond.code yX5_takeOver cX5_takeOver 1 none, Cond.methodLink RX5 111 yX2_turned, Cond.instanceMethod yX2_turned, Cond.selects RX2 yX2_turned yX2_turned, Cond.code yX2_turned cX2_turned 7 (some .long), Cond.methodLink RL 32 yX6_swap, Cond.instanceMethod yX6_swap, Cond.selects RX6 yX6_swap yX6_swap, Cond.code yX6_swap cX6_swap 1 (some .boolean), Cond.methodLink RL 33 yX5_undo, Cond.instanceMethod yX5_undo, Cond.selects RX5 yX5_undo yX5_undo, Cond.code yX5_undo cX5_undo 2 (some .boolean), Cond.methodLink RX5 95 yX0_back, Cond.instanceMethod yX0_back, Cond.selects RX0 yX0_back yX0_back, Cond.code yX0_back cX0_back 2 (some .int), Cond.methodLink RX5 98 yX5_giveBack, Cond.instanceMethod yX5_giveBack, Cond.selects RX5 yX5_giveBack yX5_giveBack, Cond.code yX5_giveBack cX5_giveBack 1 none]
def wsL_law_r13 : List Cond := [Cond.methodLink RL 36 yX6_undo, Cond.instanceMethod yX6_undo, Cond.selects RX6 yX6_undo yX6_undo, Cond.code yX6_undo cX6_undo 1 (some .boolean), Cond.methodLink RX6 106 yX6_undoes, Cond.instanceMethod yX6_undoes, Cond.selects RX6 yX6_undoes yX6_undoes, Cond.code yX6_undoes cX6_undoes 3 none, Cond.methodLink RL 37 yX5_redo, Cond.instanceMethod yX5_redo, Cond.selects RX5 yX5_redo yX5_redo, Cond.code yX5_redo cX5_redo 2 (some .boolean), Cond.methodLink RX5 104 yX0_forth, Cond.instanceMethod yX0_forth, Cond.selects RX0 yX0_forth yX0_forth, Cond.code yX0_forth cX0_forth 2 (some .int), Cond.methodLink RL 40 yX6_redo, Cond.instanceMethod yX6_redo, Cond.selects RX6 yX6_redo yX6_redo, Cond.code yX6_redo cX6_redo 1 (some .boolean), Cond.methodLink RL 41 yX5_change, Cond.instanceMethod yX5_change, Cond.selects RX5 yX5_change yX5_change, Cond.code yX5_change cX5_change 5 none]
def wsL_law_r14 : List Cond := [Cond.methodLink RL 44 yX6_change, Cond.instanceMethod yX6_change, Cond.selects RX6 yX6_change yX6_change, Cond.code yX6_change cX6_change 2 none, Cond.methodLink RL 45 yX5_at, Cond.instanceMethod yX5_at, Cond.selects RX5 yX5_at yX5_at, Cond.code yX5_at cX5_at 2 (some .int), Cond.methodLink RL 48 yX6_at, Cond.instanceMethod yX6_at, Cond.selects RX6 yX6_at yX6_at, Cond.code yX6_at cX6_at 2 (some .int), Cond.methodLink RL 49 yX5_group, Cond.instanceMethod yX5_group, Cond.selects RX5 yX5_group yX5_group, Cond.code yX5_group cX5_group 4 (some .int), Cond.methodLink RX5 121 yX5_groupAt, Cond.instanceMethod yX5_groupAt, Cond.selects RX5 yX5_groupAt yX5_groupAt, Cond.code yX5_groupAt cX5_groupAt 3 (some .long), Cond.methodLink RX5 202 yX5_stonesOf, Cond.instanceMethod yX5_stonesOf, Cond.selects RX5 yX5_stonesOf yX5_stonesOf, Cond.code yX5_stonesOf cX5_stonesOf 2 (some .long)]
def wsL_law_r15 : List Cond := [Cond.methodLink RX5 205 yX2_spread, Cond.methodLink RX5 125 yX5_lowest, Cond.static yX5_lowest, Cond.code yX5_lowest cX5_lowest 2 (some .int), Cond.methodLink RX5 129 yJ13_bitCount_95d88, Cond.static yJ13_bitCount_95d88, Cond.initialized RJ13, Cond.code yJ13_bitCount_95d88 cJ13_bitCount_95d88 2 (some .int), Cond.constantLong RJ13 314 (6148914691236517205), Cond.constantLong RJ13 316 (3689348814741910323), Cond.constantLong RJ13 318 (1085102592571150095), Cond.methodLink RL 52 yX6_group, Cond.instanceMethod yX6_group, Cond.selects RX6 yX6_group yX6_group, Cond.code yX6_group cX6_group 3 (some .int), Cond.methodLink RX6 112 yX6_isStone, Cond.instanceMethod yX6_isStone, Cond.selects RX6 yX6_isStone yX6_isStone, Cond.code yX6_isStone cX6_isStone 2 (some .boolean), Cond.methodLink RX6 115 yX6_groupOf, Cond.instanceMethod yX6_groupOf, Cond.selects RX6 yX6_groupOf yX6_groupOf, Cond.code yX6_groupOf cX6_groupOf 2 none, Cond.methodLink RX6 109 yX6_reachesNone]
def wsL_law_r16 : List Cond := [Cond.instanceMethod yX6_reachesNone, Cond.selects RX6 yX6_reachesNone yX6_reachesNone, Cond.code yX6_reachesNone cX6_reachesNone 2 none, Cond.methodLink RL 53 yX5_look, Cond.instanceMethod yX5_look, Cond.selects RX5 yX5_look yX5_look, Cond.code yX5_look cX5_look 5 (some .int), Cond.methodLink RX5 134 yX2_banksOf, Cond.instanceMethod yX2_banksOf, Cond.selects RX2 yX2_banksOf yX2_banksOf, Cond.code yX2_banksOf cX2_banksOf 4 (some .int), Cond.methodLink RX5 137 yX2_beside, Cond.methodLink RX5 140 yX5_empties, Cond.instanceMethod yX5_empties, Cond.selects RX5 yX5_empties yX5_empties, Cond.code yX5_empties cX5_empties 1 (some .long), Cond.methodLink RX5 199 yX2_all, Cond.instanceMethod yX2_all, Cond.selects RX2 yX2_all yX2_all, Cond.code yX2_all cX2_all 1 (some .long), Cond.methodLink RL 57 yX6_look, Cond.instanceMethod yX6_look, Cond.selects RX6 yX6_look yX6_look, Cond.code yX6_look cX6_look 5 (some .int)]
def wsL_law_r17 : List Cond := [Cond.methodLink RX6 118 yX6_isBeside, Cond.instanceMethod yX6_isBeside, Cond.selects RX6 yX6_isBeside yX6_isBeside, Cond.code yX6_isBeside cX6_isBeside 3 (some .boolean), Cond.methodLink RL 58 yX5_joined, Cond.instanceMethod yX5_joined, Cond.selects RX5 yX5_joined yX5_joined, Cond.code yX5_joined cX5_joined 1 (some .int), Cond.methodLink RL 62 yX6_joined, Cond.methodLink RL 63 yX5_way, Cond.instanceMethod yX5_way, Cond.selects RX5 yX5_way yX5_way, Cond.code yX5_way cX5_way 2 (some .int), Cond.methodLink RX5 144 yX5_findPath, Cond.instanceMethod yX5_findPath, Cond.selects RX5 yX5_findPath yX5_findPath, Cond.code yX5_findPath cX5_findPath 2 none, Cond.methodLink RX5 225 yX4_find, Cond.instanceMethod yX4_find, Cond.selects RX4 yX4_find yX4_find, Cond.code yX4_find cX4_find 13 none, Cond.constantLong RX4 36 (-1), Cond.methodLink RX4 23 yX4_forget, Cond.instanceMethod yX4_forget]
def wsL_law_r18 : List Cond := [Cond.selects RX4 yX4_forget yX4_forget, Cond.code yX4_forget cX4_forget 1 none, Cond.fieldLink RX4 19 "TwoBanks$Path" "length" "I", Cond.methodLink RX4 26 yX4_trace, Cond.instanceMethod yX4_trace, Cond.selects RX4 yX4_trace yX4_trace, Cond.code yX4_trace cX4_trace 9 none, Cond.methodLink RX4 30 yX2_beside, Cond.methodLink RX5 229 yX4_forget, Cond.methodLink RX5 147 yX4_field, Cond.instanceMethod yX4_field, Cond.selects RX4 yX4_field yX4_field, Cond.code yX4_field cX4_field 2 (some .int), Cond.methodLink RL 66 yX6_way, Cond.instanceMethod yX6_way, Cond.selects RX6 yX6_way yX6_way, Cond.code yX6_way cX6_way 9 (some .int), Cond.methodLink RX6 127 yX6_wayLong, Cond.instanceMethod yX6_wayLong, Cond.selects RX6 yX6_wayLong yX6_wayLong, Cond.code yX6_wayLong cX6_wayLong 4 (some .int), Cond.methodLink RX6 124 yX6_measures, Cond.instanceMethod yX6_measures, Cond.selects RX6 yX6_measures yX6_measures]
def wsL_law_r19 : List Cond := [Cond.code yX6_measures cX6_measures 5 none, Cond.methodLink RL 67 yX5_winner, Cond.instanceMethod yX5_winner, Cond.selects RX5 yX5_winner yX5_winner, Cond.code yX5_winner cX5_winner 2 (some .int), Cond.methodLink RX5 150 yX5_tooManyEmpty, Cond.instanceMethod yX5_tooManyEmpty, Cond.selects RX5 yX5_tooManyEmpty yX5_tooManyEmpty, Cond.code yX5_tooManyEmpty cX5_tooManyEmpty 1 (some .boolean), Cond.methodLink RX5 154 yX5_askBanks, Cond.instanceMethod yX5_askBanks, Cond.selects RX5 yX5_askBanks yX5_askBanks, Cond.code yX5_askBanks cX5_askBanks 1 none, Cond.methodLink RX5 230 yX1_ask, Cond.instanceMethod yX1_ask, Cond.selects RX1 yX1_ask yX1_ask, Cond.code yX1_ask cX1_ask 12 none, Cond.fieldLink RX1 27 "TwoBanks$Fight" "rows" "I", Cond.fieldLink RX1 36 "TwoBanks$Fight" "columns" "I", Cond.fieldLink RX1 41 "TwoBanks$Fight" "own" "J", Cond.fieldLink RX1 45 "TwoBanks$Fight" "others" "J", Cond.fieldLink RX1 48 "TwoBanks$Fight" "from" "J", Cond.fieldLink RX1 51 "TwoBanks$Fight" "to" "J", Cond.methodLink RX1 31 yX2_rows]
def wsL_law_r20 : List Cond := [Cond.methodLink RX1 39 yX2_columns, Cond.methodLink RX1 54 yX1_prepare, Cond.instanceMethod yX1_prepare, Cond.selects RX1 yX1_prepare yX1_prepare, Cond.code yX1_prepare cX1_prepare 5 none, Cond.constantLong RX1 62 (-1), Cond.fieldLink RX1 64 "TwoBanks$Fight" "spots" "J", Cond.methodLink RX1 73 Lib.Math.min.name, Cond.static Lib.Math.min.name, Cond.code Lib.Math.min.name Lib.Math.min.code 2 (some .int), Cond.fieldLink RX1 79 "TwoBanks$Fight" "spotCount" "I", Cond.fieldLink RX1 82 "TwoBanks$Fight" "full" "I", Cond.fieldLink RX1 85 "TwoBanks$Fight" "reachedCount" "I", Cond.fieldLink RX1 88 "TwoBanks$Fight" "deadKnown" "Z", Cond.methodLink RX1 58 yX2_all, Cond.methodLink RX1 67 yJ13_bitCount_95d88, Cond.methodLink RX1 92 yX3_forget, Cond.instanceMethod yX3_forget, Cond.selects RX3 yX3_forget yX3_forget, Cond.code yX3_forget cX3_forget 1 none, Cond.methodLink RX3 19 yJ7_fill_d0a16, Cond.static yJ7_fill_d0a16, Cond.initialized RJ7, Cond.code yJ7_fill_d0a16 cJ7_fill_d0a16 5 none]
def wsL_law_r21 : List Cond := [Cond.methodLink RX1 95 yX2_spread, Cond.methodLink RX1 99 yX3_mark, Cond.instanceMethod yX3_mark, Cond.selects RX3 yX3_mark yX3_mark, Cond.code yX3_mark cX3_mark 3 none, Cond.methodLink RX5 157 yX1_makerWins, Cond.instanceMethod yX1_makerWins, Cond.selects RX1 yX1_makerWins yX1_makerWins, Cond.code yX1_makerWins cX1_makerWins 2 (some .boolean), Cond.methodLink RX1 102 yX1_holds, Cond.static yX1_holds, Cond.code yX1_holds cX1_holds 11 (some .boolean), Cond.methodLink RX1 118 yX3_has, Cond.instanceMethod yX3_has, Cond.selects RX3 yX3_has yX3_has, Cond.code yX3_has cX3_has 3 (some .boolean), Cond.methodLink RL 70 yX6_winner, Cond.instanceMethod yX6_winner, Cond.selects RX6 yX6_winner yX6_winner, Cond.code yX6_winner cX6_winner 2 (some .int), Cond.methodLink RX6 139 yX6_opens, Cond.instanceMethod yX6_opens, Cond.selects RX6 yX6_opens yX6_opens, Cond.code yX6_opens cX6_opens 3 (some .boolean)]
def wsL_law_r22 : List Cond := [Cond.fieldLink RX6 130 "TwoBanksModel" "empties" "I", Cond.methodLink RX6 143 yX6_works, Cond.instanceMethod yX6_works, Cond.selects RX6 yX6_works yX6_works, Cond.code yX6_works cX6_works 11 none, Cond.methodLink RX6 133 yX6_fills, Cond.instanceMethod yX6_fills, Cond.selects RX6 yX6_fills yX6_fills, Cond.code yX6_fills cX6_fills 3 none, Cond.methodLink RX6 136 yX6_hang, Cond.instanceMethod yX6_hang, Cond.selects RX6 yX6_hang yX6_hang, Cond.code yX6_hang cX6_hang 4 (some .boolean), Cond.methodLink RX6 147 yX6_gets, Cond.instanceMethod yX6_gets, Cond.selects RX6 yX6_gets yX6_gets, Cond.code yX6_gets cX6_gets 3 (some .boolean), Cond.methodLink RL 71 yX5_first, Cond.instanceMethod yX5_first, Cond.selects RX5 yX5_first yX5_first, Cond.code yX5_first cX5_first 3 (some .int), Cond.methodLink RX5 161 yX1_winningField, Cond.instanceMethod yX1_winningField, Cond.selects RX1 yX1_winningField yX1_winningField]
def wsL_law_r23 : List Cond := [Cond.code yX1_winningField cX1_winningField 7 (some .int), Cond.methodLink RX1 114 yX1_winsAt, Cond.instanceMethod yX1_winsAt, Cond.selects RX1 yX1_winsAt yX1_winsAt, Cond.code yX1_winsAt cX1_winsAt 4 (some .boolean), Cond.methodLink RL 74 yX6_first_, Cond.instanceMethod yX6_first_, Cond.selects RX6 yX6_first_ yX6_first_, Cond.code yX6_first_ cX6_first_ 5 (some .int), Cond.methodLink RL 75 yX5_fillings, Cond.instanceMethod yX5_fillings, Cond.selects RX5 yX5_fillings yX5_fillings, Cond.code yX5_fillings cX5_fillings 1 (some .int), Cond.methodLink RX5 165 yX1_reachedFillings, Cond.instanceMethod yX1_reachedFillings, Cond.selects RX1 yX1_reachedFillings yX1_reachedFillings, Cond.code yX1_reachedFillings cX1_reachedFillings 1 (some .int), Cond.methodLink RL 78 yX6_fillings, Cond.instanceMethod yX6_fillings, Cond.selects RX6 yX6_fillings yX6_fillings, Cond.code yX6_fillings cX6_fillings 3 (some .int), Cond.methodLink RX6 154 yX6_fillings0, Cond.instanceMethod yX6_fillings0, Cond.selects RX6 yX6_fillings0 yX6_fillings0]
def wsL_law_r24 : List Cond := [Cond.code yX6_fillings0 cX6_fillings0 2 none, Cond.methodLink RX6 151 yX6_codeOf, Cond.instanceMethod yX6_codeOf, Cond.selects RX6 yX6_codeOf yX6_codeOf, Cond.code yX6_codeOf cX6_codeOf 4 (some .int), Cond.methodLink RL 79 yX5_dead, Cond.instanceMethod yX5_dead, Cond.selects RX5 yX5_dead yX5_dead, Cond.code yX5_dead cX5_dead 2 (some .int), Cond.methodLink RX5 168 yX1_deadFields, Cond.instanceMethod yX1_deadFields, Cond.selects RX1 yX1_deadFields yX1_deadFields, Cond.code yX1_deadFields cX1_deadFields 1 (some .long), Cond.fieldLink RX1 125 "TwoBanks$Fight" "deadSpots" "J", Cond.methodLink RX1 122 yX1_findDead, Cond.instanceMethod yX1_findDead, Cond.selects RX1 yX1_findDead yX1_findDead, Cond.code yX1_findDead cX1_findDead 3 none, Cond.methodLink RX1 128 yX1_neverMatters, Cond.instanceMethod yX1_neverMatters, Cond.selects RX1 yX1_neverMatters yX1_neverMatters, Cond.code yX1_neverMatters cX1_neverMatters 3 (some .boolean), Cond.methodLink RL 82 yX6_dead, Cond.instanceMethod yX6_dead]
def wsL_law_r25 : List Cond := [Cond.selects RX6 yX6_dead yX6_dead, Cond.code yX6_dead cX6_dead 3 (some .int), Cond.methodLink RX6 157 yX6_isDead, Cond.instanceMethod yX6_isDead, Cond.selects RX6 yX6_isDead yX6_isDead, Cond.code yX6_isDead cX6_isDead 3 (some .boolean), Cond.methodLink RL 83 yX5_link, Cond.instanceMethod yX5_link, Cond.selects RX5 yX5_link yX5_link, Cond.code yX5_link cX5_link 4 (some .int), Cond.methodLink RX5 174 yX5_canLink, Cond.instanceMethod yX5_canLink, Cond.selects RX5 yX5_canLink yX5_canLink, Cond.code yX5_canLink cX5_canLink 6 (some .boolean), Cond.methodLink RX5 178 yX5_askLink, Cond.instanceMethod yX5_askLink, Cond.selects RX5 yX5_askLink yX5_askLink, Cond.code yX5_askLink cX5_askLink 4 none, Cond.methodLink RX5 182 yX1_strength, Cond.instanceMethod yX1_strength, Cond.selects RX1 yX1_strength yX1_strength, Cond.code yX1_strength cX1_strength 1 (some .int), Cond.methodLink RX1 106 yX1_makerWins, Cond.methodLink RL 87 yX6_link]
def wsL_law_r26 : List Cond := [Cond.instanceMethod yX6_link, Cond.selects RX6 yX6_link yX6_link, Cond.code yX6_link cX6_link 4 (some .int), Cond.methodLink RX6 160 yX6_mayLink, Cond.instanceMethod yX6_mayLink, Cond.selects RX6 yX6_mayLink yX6_mayLink, Cond.code yX6_mayLink cX6_mayLink 4 (some .boolean), Cond.methodLink RL 88 yX5_half, Cond.instanceMethod yX5_half, Cond.selects RX5 yX5_half yX5_half, Cond.code yX5_half cX5_half 5 (some .int), Cond.methodLink RL 92 yX6_half, Cond.instanceMethod yX6_half, Cond.selects RX6 yX6_half yX6_half, Cond.code yX6_half cX6_half 7 (some .int), Cond.methodLink RX6 163 yX6_link, Cond.methodLink RL 93 yX5_count, Cond.instanceMethod yX5_count, Cond.selects RX5 yX5_count yX5_count, Cond.code yX5_count cX5_count 2 (some .int), Cond.methodLink RX5 185 yX0_undone, Cond.instanceMethod yX0_undone, Cond.selects RX0 yX0_undone yX0_undone, Cond.code yX0_undone cX0_undone 1 (some .int)]
def wsL_law_r27 : List Cond := [Cond.methodLink RX5 188 yX2_groupsOf, Cond.instanceMethod yX2_groupsOf, Cond.selects RX2 yX2_groupsOf yX2_groupsOf, Cond.code yX2_groupsOf cX2_groupsOf 7 (some .int), Cond.methodLink RX5 191 yX5_howManyDead, Cond.instanceMethod yX5_howManyDead, Cond.selects RX5 yX5_howManyDead yX5_howManyDead, Cond.code yX5_howManyDead cX5_howManyDead 1 (some .int), Cond.methodLink RX5 194 yX4_length, Cond.instanceMethod yX4_length, Cond.selects RX4 yX4_length yX4_length, Cond.code yX4_length cX4_length 1 (some .int), Cond.methodLink RL 96 yX6_count, Cond.instanceMethod yX6_count, Cond.selects RX6 yX6_count yX6_count, Cond.code yX6_count cX6_count 4 (some .int), Cond.methodLink RX6 167 yX6_groups, Cond.instanceMethod yX6_groups, Cond.selects RX6 yX6_groups yX6_groups, Cond.code yX6_groups cX6_groups 4 (some .int), Cond.methodLink RX6 121 yX6_group]
def wsL_law : List Cond := (wsL_law_r1 ++ (wsL_law_r2 ++ (wsL_law_r3 ++ (wsL_law_r4 ++ (wsL_law_r5 ++ (wsL_law_r6 ++ (wsL_law_r7 ++ (wsL_law_r8 ++ (wsL_law_r9 ++ (wsL_law_r10 ++ (wsL_law_r11 ++ (wsL_law_r12 ++ (wsL_law_r13 ++ (wsL_law_r14 ++ (wsL_law_r15 ++ (wsL_law_r16 ++ (wsL_law_r17 ++ (wsL_law_r18 ++ (wsL_law_r19 ++ (wsL_law_r20 ++ (wsL_law_r21 ++ (wsL_law_r22 ++ (wsL_law_r23 ++ (wsL_law_r24 ++ (wsL_law_r25 ++ (wsL_law_r26 ++ wsL_law_r27)))))))))))))))))))))))))) ++ wsX50 ++ wsX60 ++ wsX20 ++ wsX00 ++ wsX40 ++ wsX10 ++ wsX30 ++ ([] : List Cond)
end
section
set_option maxRecDepth 20000 in
theorem wl_r1 : ∀ w ∈ wsL_law_r1, w ∈ lw_tbl := fun w h => (goodIn_p wsL_law_r1 [62, 65] (by decide +kernel) (by decide +kernel) w h).1
set_option maxRecDepth 20000 in
theorem wl_r2 : ∀ w ∈ wsL_law_r2, w ∈ lw_tbl := fun w h => (goodIn_p wsL_law_r2 [70, 98, 115, 132] (by decide +kernel) (by decide +kernel) w h).1
set_option maxRecDepth 20000 in
theorem wl_r3 : ∀ w ∈ wsL_law_r3, w ∈ lw_tbl := fun w h => (goodIn_p wsL_law_r3 [138, 142, 197] (by decide +kernel) (by decide +kernel) w h).1
set_option maxRecDepth 20000 in
theorem wl_r4 : ∀ w ∈ wsL_law_r4, w ∈ lw_tbl := fun w h => (goodIn_p wsL_law_r4 [201, 204, 208, 571] (by decide +kernel) (by decide +kernel) w h).1
set_option maxRecDepth 20000 in
theorem wl_r5 : ∀ w ∈ wsL_law_r5, w ∈ lw_tbl := fun w h => (goodIn_p wsL_law_r5 [240, 243, 630] (by decide +kernel) (by decide +kernel) w h).1
set_option maxRecDepth 20000 in
theorem wl_r6 : ∀ w ∈ wsL_law_r6, w ∈ lw_tbl := fun w h => (goodIn_p wsL_law_r6 [633, 637, 247, 250, 254, 258] (by decide +kernel) (by decide +kernel) w h).1
set_option maxRecDepth 20000 in
theorem wl_r7 : ∀ w ∈ wsL_law_r7, w ∈ lw_tbl := fun w h => (goodIn_p wsL_law_r7 [641, 645, 649, 264, 268] (by decide +kernel) (by decide +kernel) w h).1
set_option maxRecDepth 20000 in
theorem wl_r8 : ∀ w ∈ wsL_law_r8, w ∈ lw_tbl := fun w h => (goodIn_p wsL_law_r8 [272, 276, 280, 284, 288, 292] (by decide +kernel) (by decide +kernel) w h).1
set_option maxRecDepth 20000 in
theorem wl_r9 : ∀ w ∈ wsL_law_r9, w ∈ lw_tbl := fun w h => (goodIn_p wsL_law_r9 [297, 301, 305, 309, 312, 679] (by decide +kernel) (by decide +kernel) w h).1
end
section
set_option maxRecDepth 20000 in
theorem wl_r10 : ∀ w ∈ wsL_law_r10, w ∈ lw_tbl := fun w h => (goodIn_p wsL_law_r10 [653, 657, 661, 664, 668, 672, 675] (by decide +kernel) (by decide +kernel) w h).1
set_option maxRecDepth 20000 in
theorem wl_r11 : ∀ w ∈ wsL_law_r11, w ∈ lw_tbl := fun w h => (goodIn_p wsL_law_r11 [684, 688, 316, 320, 324, 328] (by decide +kernel) (by decide +kernel) w h).1
set_option maxRecDepth 20000 in
theorem wl_r12 : ∀ w ∈ wsL_law_r12, w ∈ lw_tbl := fun w h => (goodIn_p wsL_law_r12 [332, 336, 692, 340, 344, 348] (by decide +kernel) (by decide +kernel) w h).1
set_option maxRecDepth 20000 in
theorem wl_r13 : ∀ w ∈ wsL_law_r13, w ∈ lw_tbl := fun w h => (goodIn_p wsL_law_r13 [696, 700, 352, 356, 704, 360] (by decide +kernel) (by decide +kernel) w h).1
set_option maxRecDepth 20000 in
theorem wl_r14 : ∀ w ∈ wsL_law_r14, w ∈ lw_tbl := fun w h => (goodIn_p wsL_law_r14 [708, 364, 712, 368, 372, 376] (by decide +kernel) (by decide +kernel) w h).1
set_option maxRecDepth 20000 in
theorem wl_r15 : ∀ w ∈ wsL_law_r15, w ∈ lw_tbl := fun w h => (goodIn_p wsL_law_r15 [380, 383, 716, 720, 724] (by decide +kernel) (by decide +kernel) w h).1
set_option maxRecDepth 20000 in
theorem wl_r16 : ∀ w ∈ wsL_law_r16, w ∈ lw_tbl := fun w h => (goodIn_p wsL_law_r16 [728, 390, 394, 399, 403, 732] (by decide +kernel) (by decide +kernel) w h).1
set_option maxRecDepth 20000 in
theorem wl_r17 : ∀ w ∈ wsL_law_r17, w ∈ lw_tbl := fun w h => (goodIn_p wsL_law_r17 [736, 407, 411, 415, 419] (by decide +kernel) (by decide +kernel) w h).1
set_option maxRecDepth 20000 in
theorem wl_r18 : ∀ w ∈ wsL_law_r18, w ∈ lw_tbl := fun w h => (goodIn_p wsL_law_r18 [423, 427, 436, 740, 744] (by decide +kernel) (by decide +kernel) w h).1
end
section
set_option maxRecDepth 20000 in
theorem wl_r19 : ∀ w ∈ wsL_law_r19, w ∈ lw_tbl := fun w h => (goodIn_p wsL_law_r19 [748, 440, 444, 448, 452] (by decide +kernel) (by decide +kernel) w h).1
set_option maxRecDepth 20000 in
theorem wl_r20 : ∀ w ∈ wsL_law_r20, w ∈ lw_tbl := fun w h => (goodIn_p wsL_law_r20 [458, 464, 468, 471] (by decide +kernel) (by decide +kernel) w h).1
set_option maxRecDepth 20000 in
theorem wl_r21 : ∀ w ∈ wsL_law_r21, w ∈ lw_tbl := fun w h => (goodIn_p wsL_law_r21 [476, 481, 484, 488, 752, 756] (by decide +kernel) (by decide +kernel) w h).1
set_option maxRecDepth 20000 in
theorem wl_r22 : ∀ w ∈ wsL_law_r22, w ∈ lw_tbl := fun w h => (goodIn_p wsL_law_r22 [760, 764, 768, 772, 492] (by decide +kernel) (by decide +kernel) w h).1
set_option maxRecDepth 20000 in
theorem wl_r23 : ∀ w ∈ wsL_law_r23, w ∈ lw_tbl := fun w h => (goodIn_p wsL_law_r23 [496, 501, 776, 505, 509, 780] (by decide +kernel) (by decide +kernel) w h).1
set_option maxRecDepth 20000 in
theorem wl_r24 : ∀ w ∈ wsL_law_r24, w ∈ lw_tbl := fun w h => (goodIn_p wsL_law_r24 [784, 788, 513, 517, 521, 525] (by decide +kernel) (by decide +kernel) w h).1
set_option maxRecDepth 20000 in
theorem wl_r25 : ∀ w ∈ wsL_law_r25, w ∈ lw_tbl := fun w h => (goodIn_p wsL_law_r25 [792, 796, 529, 533, 537, 541] (by decide +kernel) (by decide +kernel) w h).1
set_option maxRecDepth 20000 in
theorem wl_r26 : ∀ w ∈ wsL_law_r26, w ∈ lw_tbl := fun w h => (goodIn_p wsL_law_r26 [800, 804, 546, 808, 550, 554] (by decide +kernel) (by decide +kernel) w h).1
set_option maxRecDepth 20000 in
theorem wl_r27 : ∀ w ∈ wsL_law_r27, w ∈ lw_tbl := fun w h => (goodIn_p wsL_law_r27 [558, 562, 566, 813, 817] (by decide +kernel) (by decide +kernel) w h).1
set_option maxRecDepth 20000 in
theorem inX5 : ∀ w ∈ wsX50, w ∈ lw_tbl := by decide +kernel
set_option maxRecDepth 20000 in
theorem inX6 : ∀ w ∈ wsX60, w ∈ lw_tbl := by decide +kernel
set_option maxRecDepth 20000 in
theorem inX2 : ∀ w ∈ wsX20, w ∈ lw_tbl := by decide +kernel
set_option maxRecDepth 20000 in
theorem inX0 : ∀ w ∈ wsX00, w ∈ lw_tbl := by decide +kernel
set_option maxRecDepth 20000 in
theorem inX4 : ∀ w ∈ wsX40, w ∈ lw_tbl := by decide +kernel
set_option maxRecDepth 20000 in
theorem inX1 : ∀ w ∈ wsX10, w ∈ lw_tbl := by decide +kernel
set_option maxRecDepth 20000 in
theorem inX3 : ∀ w ∈ wsX30, w ∈ lw_tbl := by decide +kernel
theorem wsL_law_in : ∀ w ∈ wsL_law, w ∈ lw_tbl := fun w h => (List.mem_append.mp h).elim (fun h => (List.mem_append.mp h).elim (fun h => (List.mem_append.mp h).elim (fun h => (List.mem_append.mp h).elim (fun h => (List.mem_append.mp h).elim (fun h => (List.mem_append.mp h).elim (fun h => (List.mem_append.mp h).elim (fun h => (List.mem_append.mp h).elim (fun h => (List.mem_append.mp h).elim (wl_r1 w) (fun h => (List.mem_append.mp h).elim (wl_r2 w) (fun h => (List.mem_append.mp h).elim (wl_r3 w) (fun h => (List.mem_append.mp h).elim (wl_r4 w) (fun h => (List.mem_append.mp h).elim (wl_r5 w) (fun h => (List.mem_append.mp h).elim (wl_r6 w) (fun h => (List.mem_append.mp h).elim (wl_r7 w) (fun h => (List.mem_append.mp h).elim (wl_r8 w) (fun h => (List.mem_append.mp h).elim (wl_r9 w) (fun h => (List.mem_append.mp h).elim (wl_r10 w) (fun h => (List.mem_append.mp h).elim (wl_r11 w) (fun h => (List.mem_append.mp h).elim (wl_r12 w) (fun h => (List.mem_append.mp h).elim (wl_r13 w) (fun h => (List.mem_append.mp h).elim (wl_r14 w) (fun h => (List.mem_append.mp h).elim (wl_r15 w) (fun h => (List.mem_append.mp h).elim (wl_r16 w) (fun h => (List.mem_append.mp h).elim (wl_r17 w) (fun h => (List.mem_append.mp h).elim (wl_r18 w) (fun h => (List.mem_append.mp h).elim (wl_r19 w) (fun h => (List.mem_append.mp h).elim (wl_r20 w) (fun h => (List.mem_append.mp h).elim (wl_r21 w) (fun h => (List.mem_append.mp h).elim (wl_r22 w) (fun h => (List.mem_append.mp h).elim (wl_r23 w) (fun h => (List.mem_append.mp h).elim (wl_r24 w) (fun h => (List.mem_append.mp h).elim (wl_r25 w) (fun h => (List.mem_append.mp h).elim (wl_r26 w) (fun h => wl_r27 w h))))))))))))))))))))))))))) (inX5 w)) (inX6 w)) (inX2 w)) (inX0 w)) (inX4 w)) (inX1 w)) (inX3 w)) (fun h => absurd h List.not_mem_nil)
theorem inlX0 : ∀ w ∈ wsX00, w ∈ wsL_law := fun _ h => List.mem_append_left _ (List.mem_append_left _ (List.mem_append_left _ (List.mem_append_left _ (List.mem_append_right _ h))))
theorem inlX1 : ∀ w ∈ wsX10, w ∈ wsL_law := fun _ h => List.mem_append_left _ (List.mem_append_left _ (List.mem_append_right _ h))
theorem inlX2 : ∀ w ∈ wsX20, w ∈ wsL_law := fun _ h => List.mem_append_left _ (List.mem_append_left _ (List.mem_append_left _ (List.mem_append_left _ (List.mem_append_left _ (List.mem_append_right _ h)))))
theorem inlX3 : ∀ w ∈ wsX30, w ∈ wsL_law := fun _ h => List.mem_append_left _ (List.mem_append_right _ h)
theorem inlX4 : ∀ w ∈ wsX40, w ∈ wsL_law := fun _ h => List.mem_append_left _ (List.mem_append_left _ (List.mem_append_left _ (List.mem_append_right _ h)))
theorem inlX5 : ∀ w ∈ wsX50, w ∈ wsL_law := fun _ h => List.mem_append_left _ (List.mem_append_left _ (List.mem_append_left _ (List.mem_append_left _ (List.mem_append_left _ (List.mem_append_left _ (List.mem_append_left _ (List.mem_append_right _ h)))))))
theorem inlX6 : ∀ w ∈ wsX60, w ∈ wsL_law := fun _ h => List.mem_append_left _ (List.mem_append_left _ (List.mem_append_left _ (List.mem_append_left _ (List.mem_append_left _ (List.mem_append_left _ (List.mem_append_right _ h))))))
theorem inJ13 : ∀ w ∈ wsJ130, w ∈ lw_tbl := by decide +kernel
theorem inJ9 : ∀ w ∈ wsJ90, w ∈ lw_tbl := by decide +kernel
theorem inJ7 : ∀ w ∈ wsJ70, w ∈ lw_tbl := by decide +kernel
end
section
theorem dX0_init_0 : decode cX0_init 0 = .ok (.aload_n 0, 1) := by decide +kernel
theorem dX0_init_1 : decode cX0_init 1 = .ok (.invokespecial 3, 3) := by decide +kernel
theorem dX0_init_4 : decode cX0_init 4 = .ok (.aload_n 0, 1) := by decide +kernel
theorem dX0_init_5 : decode cX0_init 5 = .ok (.bipush 37, 2) := by decide +kernel
theorem dX0_init_7 : decode cX0_init 7 = .ok (.newarray .int, 2) := by decide +kernel
theorem dX0_init_9 : decode cX0_init 9 = .ok (.putfield 9, 3) := by decide +kernel
theorem dX0_init_12 : decode cX0_init 12 = .ok (.return_, 1) := by decide +kernel
theorem dX0_forget_0 : decode cX0_forget 0 = .ok (.aload_n 0, 1) := by decide +kernel
theorem dX0_forget_1 : decode cX0_forget 1 = .ok (.iconst 0, 1) := by decide +kernel
theorem dX0_forget_2 : decode cX0_forget 2 = .ok (.putfield 15, 3) := by decide +kernel
theorem dX0_forget_5 : decode cX0_forget 5 = .ok (.aload_n 0, 1) := by decide +kernel
theorem dX0_forget_6 : decode cX0_forget 6 = .ok (.iconst 0, 1) := by decide +kernel
theorem dX0_forget_7 : decode cX0_forget 7 = .ok (.putfield 19, 3) := by decide +kernel
theorem dX0_forget_10 : decode cX0_forget 10 = .ok (.return_, 1) := by decide +kernel
theorem dX0_done_0 : decode cX0_done 0 = .ok (.aload_n 0, 1) := by decide +kernel
theorem dX0_done_1 : decode cX0_done 1 = .ok (.getfield 15, 3) := by decide +kernel
theorem dX0_done_4 : decode cX0_done 4 = .ok (.ireturn, 1) := by decide +kernel
theorem dX0_undone_0 : decode cX0_undone 0 = .ok (.aload_n 0, 1) := by decide +kernel
theorem dX0_undone_1 : decode cX0_undone 1 = .ok (.getfield 19, 3) := by decide +kernel
theorem dX0_undone_4 : decode cX0_undone 4 = .ok (.aload_n 0, 1) := by decide +kernel
theorem dX0_undone_5 : decode cX0_undone 5 = .ok (.getfield 15, 3) := by decide +kernel
theorem dX0_undone_8 : decode cX0_undone 8 = .ok (.isub, 1) := by decide +kernel
theorem dX0_undone_9 : decode cX0_undone 9 = .ok (.ireturn, 1) := by decide +kernel
theorem dX0_add_0 : decode cX0_add 0 = .ok (.aload_n 0, 1) := by decide +kernel
theorem dX0_add_1 : decode cX0_add 1 = .ok (.getfield 15, 3) := by decide +kernel
theorem dX0_add_4 : decode cX0_add 4 = .ok (.ifCond .lt 15, 3) := by decide +kernel
theorem dX0_add_7 : decode cX0_add 7 = .ok (.aload_n 0, 1) := by decide +kernel
theorem dX0_add_8 : decode cX0_add 8 = .ok (.getfield 15, 3) := by decide +kernel
theorem dX0_add_11 : decode cX0_add 11 = .ok (.aload_n 0, 1) := by decide +kernel
theorem dX0_add_12 : decode cX0_add 12 = .ok (.getfield 9, 3) := by decide +kernel
theorem dX0_add_15 : decode cX0_add 15 = .ok (.arraylength, 1) := by decide +kernel
theorem dX0_add_16 : decode cX0_add 16 = .ok (.if_icmp .lt 5, 3) := by decide +kernel
theorem dX0_add_19 : decode cX0_add 19 = .ok (.iconst 0, 1) := by decide +kernel
theorem dX0_add_20 : decode cX0_add 20 = .ok (.ireturn, 1) := by decide +kernel
theorem dX0_add_21 : decode cX0_add 21 = .ok (.aload_n 0, 1) := by decide +kernel
theorem dX0_add_22 : decode cX0_add 22 = .ok (.getfield 9, 3) := by decide +kernel
theorem dX0_add_25 : decode cX0_add 25 = .ok (.aload_n 0, 1) := by decide +kernel
theorem dX0_add_26 : decode cX0_add 26 = .ok (.getfield 15, 3) := by decide +kernel
theorem dX0_add_29 : decode cX0_add 29 = .ok (.iload_n 1, 1) := by decide +kernel
theorem dX0_add_30 : decode cX0_add 30 = .ok (.iastore, 1) := by decide +kernel
theorem dX0_add_31 : decode cX0_add 31 = .ok (.aload_n 0, 1) := by decide +kernel
theorem dX0_add_32 : decode cX0_add 32 = .ok (.dup, 1) := by decide +kernel
theorem dX0_add_33 : decode cX0_add 33 = .ok (.getfield 15, 3) := by decide +kernel
theorem dX0_add_36 : decode cX0_add 36 = .ok (.iconst 1, 1) := by decide +kernel
theorem dX0_add_37 : decode cX0_add 37 = .ok (.iadd, 1) := by decide +kernel
theorem dX0_add_38 : decode cX0_add 38 = .ok (.putfield 15, 3) := by decide +kernel
theorem dX0_add_41 : decode cX0_add 41 = .ok (.aload_n 0, 1) := by decide +kernel
theorem dX0_add_42 : decode cX0_add 42 = .ok (.aload_n 0, 1) := by decide +kernel
theorem dX0_add_43 : decode cX0_add 43 = .ok (.getfield 15, 3) := by decide +kernel
theorem dX0_add_46 : decode cX0_add 46 = .ok (.putfield 19, 3) := by decide +kernel
theorem dX0_add_49 : decode cX0_add 49 = .ok (.iconst 1, 1) := by decide +kernel
theorem dX0_add_50 : decode cX0_add 50 = .ok (.ireturn, 1) := by decide +kernel
theorem dX0_back_0 : decode cX0_back 0 = .ok (.aload_n 0, 1) := by decide +kernel
theorem dX0_back_1 : decode cX0_back 1 = .ok (.getfield 15, 3) := by decide +kernel
theorem dX0_back_4 : decode cX0_back 4 = .ok (.iconst 1, 1) := by decide +kernel
theorem dX0_back_5 : decode cX0_back 5 = .ok (.isub, 1) := by decide +kernel
theorem dX0_back_6 : decode cX0_back 6 = .ok (.istore_n 1, 1) := by decide +kernel
theorem dX0_back_7 : decode cX0_back 7 = .ok (.iload_n 1, 1) := by decide +kernel
theorem dX0_back_8 : decode cX0_back 8 = .ok (.ifCond .lt 12, 3) := by decide +kernel
theorem dX0_back_11 : decode cX0_back 11 = .ok (.iload_n 1, 1) := by decide +kernel
theorem dX0_back_12 : decode cX0_back 12 = .ok (.aload_n 0, 1) := by decide +kernel
theorem dX0_back_13 : decode cX0_back 13 = .ok (.getfield 9, 3) := by decide +kernel
theorem dX0_back_16 : decode cX0_back 16 = .ok (.arraylength, 1) := by decide +kernel
theorem dX0_back_17 : decode cX0_back 17 = .ok (.if_icmp .lt 5, 3) := by decide +kernel
theorem dX0_back_20 : decode cX0_back 20 = .ok (.iconst (-1), 1) := by decide +kernel
theorem dX0_back_21 : decode cX0_back 21 = .ok (.ireturn, 1) := by decide +kernel
theorem dX0_back_22 : decode cX0_back 22 = .ok (.aload_n 0, 1) := by decide +kernel
theorem dX0_back_23 : decode cX0_back 23 = .ok (.iload_n 1, 1) := by decide +kernel
theorem dX0_back_24 : decode cX0_back 24 = .ok (.putfield 15, 3) := by decide +kernel
theorem dX0_back_27 : decode cX0_back 27 = .ok (.aload_n 0, 1) := by decide +kernel
theorem dX0_back_28 : decode cX0_back 28 = .ok (.getfield 9, 3) := by decide +kernel
theorem dX0_back_31 : decode cX0_back 31 = .ok (.iload_n 1, 1) := by decide +kernel
theorem dX0_back_32 : decode cX0_back 32 = .ok (.iaload, 1) := by decide +kernel
theorem dX0_back_33 : decode cX0_back 33 = .ok (.ireturn, 1) := by decide +kernel
theorem dX0_forth_0 : decode cX0_forth 0 = .ok (.aload_n 0, 1) := by decide +kernel
theorem dX0_forth_1 : decode cX0_forth 1 = .ok (.getfield 15, 3) := by decide +kernel
theorem dX0_forth_4 : decode cX0_forth 4 = .ok (.istore_n 1, 1) := by decide +kernel
theorem dX0_forth_5 : decode cX0_forth 5 = .ok (.iload_n 1, 1) := by decide +kernel
theorem dX0_forth_6 : decode cX0_forth 6 = .ok (.ifCond .lt 20, 3) := by decide +kernel
theorem dX0_forth_9 : decode cX0_forth 9 = .ok (.iload_n 1, 1) := by decide +kernel
theorem dX0_forth_10 : decode cX0_forth 10 = .ok (.aload_n 0, 1) := by decide +kernel
theorem dX0_forth_11 : decode cX0_forth 11 = .ok (.getfield 19, 3) := by decide +kernel
theorem dX0_forth_14 : decode cX0_forth 14 = .ok (.if_icmp .ge 12, 3) := by decide +kernel
theorem dX0_forth_17 : decode cX0_forth 17 = .ok (.iload_n 1, 1) := by decide +kernel
theorem dX0_forth_18 : decode cX0_forth 18 = .ok (.aload_n 0, 1) := by decide +kernel
theorem dX0_forth_19 : decode cX0_forth 19 = .ok (.getfield 9, 3) := by decide +kernel
theorem dX0_forth_22 : decode cX0_forth 22 = .ok (.arraylength, 1) := by decide +kernel
theorem dX0_forth_23 : decode cX0_forth 23 = .ok (.if_icmp .lt 5, 3) := by decide +kernel
theorem dX0_forth_26 : decode cX0_forth 26 = .ok (.iconst (-1), 1) := by decide +kernel
theorem dX0_forth_27 : decode cX0_forth 27 = .ok (.ireturn, 1) := by decide +kernel
theorem dX0_forth_28 : decode cX0_forth 28 = .ok (.aload_n 0, 1) := by decide +kernel
theorem dX0_forth_29 : decode cX0_forth 29 = .ok (.iload_n 1, 1) := by decide +kernel
theorem dX0_forth_30 : decode cX0_forth 30 = .ok (.iconst 1, 1) := by decide +kernel
theorem dX0_forth_31 : decode cX0_forth 31 = .ok (.iadd, 1) := by decide +kernel
theorem dX0_forth_32 : decode cX0_forth 32 = .ok (.putfield 15, 3) := by decide +kernel
theorem dX0_forth_35 : decode cX0_forth 35 = .ok (.aload_n 0, 1) := by decide +kernel
theorem dX0_forth_36 : decode cX0_forth 36 = .ok (.getfield 9, 3) := by decide +kernel
theorem dX0_forth_39 : decode cX0_forth 39 = .ok (.iload_n 1, 1) := by decide +kernel
theorem dX0_forth_40 : decode cX0_forth 40 = .ok (.iaload, 1) := by decide +kernel
theorem dX0_forth_41 : decode cX0_forth 41 = .ok (.ireturn, 1) := by decide +kernel
set_option maxRecDepth 20000 in
theorem ggX1_init_X3_init : GoodIn wsX1_init wsX3_init := goodIn_r _ [13, 14, 2, 3, 15, 16, 17, 18, 19, 20, 21] (by decide +kernel) (by decide +kernel)
set_option maxRecDepth 20000 in
theorem gX1_init_X3_init : GoodIn wsX1_init (wsX3_init) := ggX1_init_X3_init
theorem dX1_init_0 : decode cX1_init 0 = .ok (.aload_n 0, 1) := by decide +kernel
theorem dX1_init_1 : decode cX1_init 1 = .ok (.invokespecial 3, 3) := by decide +kernel
theorem dX1_init_4 : decode cX1_init 4 = .ok (.aload_n 0, 1) := by decide +kernel
theorem dX1_init_5 : decode cX1_init 5 = .ok (.new 9, 3) := by decide +kernel
theorem dX1_init_8 : decode cX1_init 8 = .ok (.dup, 1) := by decide +kernel
theorem dX1_init_9 : decode cX1_init 9 = .ok (.sipush 1024, 3) := by decide +kernel
theorem dX1_init_12 : decode cX1_init 12 = .ok (.invokespecial 11, 3) := by decide +kernel
theorem dX1_init_15 : decode cX1_init 15 = .ok (.putfield 14, 3) := by decide +kernel
theorem dX1_init_18 : decode cX1_init 18 = .ok (.aload_n 0, 1) := by decide +kernel
theorem dX1_init_19 : decode cX1_init 19 = .ok (.new 9, 3) := by decide +kernel
theorem dX1_init_22 : decode cX1_init 22 = .ok (.dup, 1) := by decide +kernel
theorem dX1_init_23 : decode cX1_init 23 = .ok (.ldc 20, 2) := by decide +kernel
theorem dX1_init_25 : decode cX1_init 25 = .ok (.invokespecial 11, 3) := by decide +kernel
theorem dX1_init_28 : decode cX1_init 28 = .ok (.putfield 21, 3) := by decide +kernel
theorem dX1_init_31 : decode cX1_init 31 = .ok (.aload_n 0, 1) := by decide +kernel
theorem dX1_init_32 : decode cX1_init 32 = .ok (.new 9, 3) := by decide +kernel
theorem dX1_init_35 : decode cX1_init 35 = .ok (.dup, 1) := by decide +kernel
theorem dX1_init_36 : decode cX1_init 36 = .ok (.ldc 20, 2) := by decide +kernel
theorem dX1_init_38 : decode cX1_init 38 = .ok (.invokespecial 11, 3) := by decide +kernel
theorem dX1_init_41 : decode cX1_init 41 = .ok (.putfield 24, 3) := by decide +kernel
theorem dX1_init_44 : decode cX1_init 44 = .ok (.return_, 1) := by decide +kernel
set_option maxRecDepth 20000 in
theorem ggX1_ask_X2_rows : GoodIn wsX1_ask wsX2_rows := goodIn_r _ [11, 12, 91, 92, 93, 94, 95, 96, 97] (by decide +kernel) (by decide +kernel)
set_option maxRecDepth 20000 in
theorem gX1_ask_X2_rows : GoodIn wsX1_ask (wsV RX1 31 RX2 yX2_rows wsX2_rows) := goodIn_app (goodIn_of _ (by decide +kernel)) ggX1_ask_X2_rows
set_option maxRecDepth 20000 in
theorem ggX1_ask_X2_columns : GoodIn wsX1_ask wsX2_columns := goodIn_r _ [16, 17, 91, 92, 93, 94, 95, 96, 97] (by decide +kernel) (by decide +kernel)
set_option maxRecDepth 20000 in
theorem gX1_ask_X2_columns : GoodIn wsX1_ask (wsV RX1 39 RX2 yX2_columns wsX2_columns) := goodIn_app (goodIn_of _ (by decide +kernel)) ggX1_ask_X2_columns
set_option maxRecDepth 20000 in
theorem ggX1_ask_X1_prepare : GoodIn wsX1_ask wsX1_prepare := goodIn_r _ [22, 3, 4, 23, 24, 25, 26, 27, 28, 29, 30, 31, 32, 33, 34, 35, 5, 6, 36, 37, 38, 10, 39, 40, 41, 42, 43, 44, 45, 46, 47, 48, 49, 50, 51, 52, 53, 54, 55, 56, 57, 58, 59, 60, 61, 62, 63, 64, 65, 66, 67, 68, 17, 69, 70, 71, 72, 73, 74, 75, 76, 77, 78, 79, 80, 81, 82, 83, 84, 85, 86, 87, 88, 89, 90, 91, 92, 93, 94, 95, 96, 97, 98] (by decide +kernel) (by decide +kernel)
set_option maxRecDepth 20000 in
theorem gX1_ask_X1_prepare : GoodIn wsX1_ask (wsV RX1 54 RX1 yX1_prepare wsX1_prepare) := goodIn_app (goodIn_of _ (by decide +kernel)) ggX1_ask_X1_prepare
theorem dX1_ask_0 : decode cX1_ask 0 = .ok (.aload_n 0, 1) := by decide +kernel
theorem dX1_ask_1 : decode cX1_ask 1 = .ok (.getfield 27, 3) := by decide +kernel
theorem dX1_ask_4 : decode cX1_ask 4 = .ok (.aload_n 1, 1) := by decide +kernel
theorem dX1_ask_5 : decode cX1_ask 5 = .ok (.invokevirtual 31, 3) := by decide +kernel
theorem dX1_ask_8 : decode cX1_ask 8 = .ok (.if_icmp .ne 18, 3) := by decide +kernel
theorem dX1_ask_11 : decode cX1_ask 11 = .ok (.aload_n 0, 1) := by decide +kernel
theorem dX1_ask_12 : decode cX1_ask 12 = .ok (.getfield 36, 3) := by decide +kernel
theorem dX1_ask_15 : decode cX1_ask 15 = .ok (.aload_n 1, 1) := by decide +kernel
theorem dX1_ask_16 : decode cX1_ask 16 = .ok (.invokevirtual 39, 3) := by decide +kernel
theorem dX1_ask_19 : decode cX1_ask 19 = .ok (.if_icmp .ne 7, 3) := by decide +kernel
theorem dX1_ask_22 : decode cX1_ask 22 = .ok (.iconst 1, 1) := by decide +kernel
theorem dX1_ask_23 : decode cX1_ask 23 = .ok (.goto 4, 3) := by decide +kernel
theorem dX1_ask_26 : decode cX1_ask 26 = .ok (.iconst 0, 1) := by decide +kernel
theorem dX1_ask_27 : decode cX1_ask 27 = .ok (.istore 10, 2) := by decide +kernel
theorem dX1_ask_29 : decode cX1_ask 29 = .ok (.aload_n 0, 1) := by decide +kernel
theorem dX1_ask_30 : decode cX1_ask 30 = .ok (.getfield 41, 3) := by decide +kernel
theorem dX1_ask_33 : decode cX1_ask 33 = .ok (.lload_n 2, 1) := by decide +kernel
theorem dX1_ask_34 : decode cX1_ask 34 = .ok (.lcmp, 1) := by decide +kernel
theorem dX1_ask_35 : decode cX1_ask 35 = .ok (.ifCond .ne 17, 3) := by decide +kernel
theorem dX1_ask_38 : decode cX1_ask 38 = .ok (.aload_n 0, 1) := by decide +kernel
theorem dX1_ask_39 : decode cX1_ask 39 = .ok (.getfield 45, 3) := by decide +kernel
theorem dX1_ask_42 : decode cX1_ask 42 = .ok (.lload 4, 2) := by decide +kernel
theorem dX1_ask_44 : decode cX1_ask 44 = .ok (.lcmp, 1) := by decide +kernel
theorem dX1_ask_45 : decode cX1_ask 45 = .ok (.ifCond .ne 7, 3) := by decide +kernel
theorem dX1_ask_48 : decode cX1_ask 48 = .ok (.iconst 1, 1) := by decide +kernel
theorem dX1_ask_49 : decode cX1_ask 49 = .ok (.goto 4, 3) := by decide +kernel
theorem dX1_ask_52 : decode cX1_ask 52 = .ok (.iconst 0, 1) := by decide +kernel
theorem dX1_ask_53 : decode cX1_ask 53 = .ok (.istore 11, 2) := by decide +kernel
theorem dX1_ask_55 : decode cX1_ask 55 = .ok (.iload 10, 2) := by decide +kernel
theorem dX1_ask_57 : decode cX1_ask 57 = .ok (.ifCond .eq 29, 3) := by decide +kernel
theorem dX1_ask_60 : decode cX1_ask 60 = .ok (.iload 11, 2) := by decide +kernel
theorem dX1_ask_62 : decode cX1_ask 62 = .ok (.ifCond .eq 24, 3) := by decide +kernel
theorem dX1_ask_65 : decode cX1_ask 65 = .ok (.aload_n 0, 1) := by decide +kernel
theorem dX1_ask_66 : decode cX1_ask 66 = .ok (.getfield 48, 3) := by decide +kernel
theorem dX1_ask_69 : decode cX1_ask 69 = .ok (.lload 6, 2) := by decide +kernel
theorem dX1_ask_71 : decode cX1_ask 71 = .ok (.lcmp, 1) := by decide +kernel
theorem dX1_ask_72 : decode cX1_ask 72 = .ok (.ifCond .ne 14, 3) := by decide +kernel
theorem dX1_ask_75 : decode cX1_ask 75 = .ok (.aload_n 0, 1) := by decide +kernel
theorem dX1_ask_76 : decode cX1_ask 76 = .ok (.getfield 51, 3) := by decide +kernel
theorem dX1_ask_79 : decode cX1_ask 79 = .ok (.lload 8, 2) := by decide +kernel
theorem dX1_ask_81 : decode cX1_ask 81 = .ok (.lcmp, 1) := by decide +kernel
theorem dX1_ask_82 : decode cX1_ask 82 = .ok (.ifCond .ne 4, 3) := by decide +kernel
theorem dX1_ask_85 : decode cX1_ask 85 = .ok (.return_, 1) := by decide +kernel
theorem dX1_ask_86 : decode cX1_ask 86 = .ok (.aload_n 0, 1) := by decide +kernel
theorem dX1_ask_87 : decode cX1_ask 87 = .ok (.aload_n 1, 1) := by decide +kernel
theorem dX1_ask_88 : decode cX1_ask 88 = .ok (.invokevirtual 31, 3) := by decide +kernel
theorem dX1_ask_91 : decode cX1_ask 91 = .ok (.putfield 27, 3) := by decide +kernel
theorem dX1_ask_94 : decode cX1_ask 94 = .ok (.aload_n 0, 1) := by decide +kernel
theorem dX1_ask_95 : decode cX1_ask 95 = .ok (.aload_n 1, 1) := by decide +kernel
theorem dX1_ask_96 : decode cX1_ask 96 = .ok (.invokevirtual 39, 3) := by decide +kernel
theorem dX1_ask_99 : decode cX1_ask 99 = .ok (.putfield 36, 3) := by decide +kernel
theorem dX1_ask_102 : decode cX1_ask 102 = .ok (.aload_n 0, 1) := by decide +kernel
theorem dX1_ask_103 : decode cX1_ask 103 = .ok (.lload_n 2, 1) := by decide +kernel
theorem dX1_ask_104 : decode cX1_ask 104 = .ok (.putfield 41, 3) := by decide +kernel
theorem dX1_ask_107 : decode cX1_ask 107 = .ok (.aload_n 0, 1) := by decide +kernel
theorem dX1_ask_108 : decode cX1_ask 108 = .ok (.lload 4, 2) := by decide +kernel
theorem dX1_ask_110 : decode cX1_ask 110 = .ok (.putfield 45, 3) := by decide +kernel
theorem dX1_ask_113 : decode cX1_ask 113 = .ok (.aload_n 0, 1) := by decide +kernel
theorem dX1_ask_114 : decode cX1_ask 114 = .ok (.lload 6, 2) := by decide +kernel
theorem dX1_ask_116 : decode cX1_ask 116 = .ok (.putfield 48, 3) := by decide +kernel
theorem dX1_ask_119 : decode cX1_ask 119 = .ok (.aload_n 0, 1) := by decide +kernel
theorem dX1_ask_120 : decode cX1_ask 120 = .ok (.lload 8, 2) := by decide +kernel
theorem dX1_ask_122 : decode cX1_ask 122 = .ok (.putfield 51, 3) := by decide +kernel
theorem dX1_ask_125 : decode cX1_ask 125 = .ok (.aload_n 0, 1) := by decide +kernel
theorem dX1_ask_126 : decode cX1_ask 126 = .ok (.aload_n 1, 1) := by decide +kernel
theorem dX1_ask_127 : decode cX1_ask 127 = .ok (.invokevirtual 54, 3) := by decide +kernel
theorem dX1_ask_130 : decode cX1_ask 130 = .ok (.return_, 1) := by decide +kernel
set_option maxRecDepth 20000 in
theorem ggX1_prepare_X2_all : GoodIn wsX1_prepare wsX2_all := goodIn_r _ [22, 23, 75, 76, 77, 78, 79, 80, 81] (by decide +kernel) (by decide +kernel)
set_option maxRecDepth 20000 in
theorem gX1_prepare_X2_all : GoodIn wsX1_prepare (wsV RX1 58 RX2 yX2_all wsX2_all) := goodIn_app (goodIn_of _ (by decide +kernel)) ggX1_prepare_X2_all
set_option maxRecDepth 20000 in
theorem ggX1_prepare_J13_bitCount_95d88 : GoodIn wsX1_prepare wsJ13_bitCount_95d88 := goodIn_r _ [27, 28, 29, 30] (by decide +kernel) (by decide +kernel)
set_option maxRecDepth 20000 in
theorem gX1_prepare_J13_bitCount_95d88 : GoodIn wsX1_prepare (va_wsS RX1 67 yJ13_bitCount_95d88 wsJ13_bitCount_95d88) := goodIn_app (goodIn_of _ (by decide +kernel)) ggX1_prepare_J13_bitCount_95d88
set_option maxRecDepth 20000 in
theorem ggX1_prepare_X3_forget : GoodIn wsX1_prepare wsX3_forget := goodIn_r _ [35, 36, 37, 38, 39, 40, 82] (by decide +kernel) (by decide +kernel)
set_option maxRecDepth 20000 in
theorem gX1_prepare_X3_forget : GoodIn wsX1_prepare (wsV RX1 92 RX3 yX3_forget wsX3_forget) := goodIn_app (goodIn_of _ (by decide +kernel)) ggX1_prepare_X3_forget
set_option maxRecDepth 20000 in
theorem ggX1_prepare_X2_spread : GoodIn wsX1_prepare wsX2_spread := goodIn_r _ [44, 45, 46, 47, 21, 48, 49, 50, 51, 52, 23, 75, 76, 77, 78, 79, 80, 81] (by decide +kernel) (by decide +kernel)
set_option maxRecDepth 20000 in
theorem gX1_prepare_X2_spread : GoodIn wsX1_prepare (wsV RX1 95 RX2 yX2_spread wsX2_spread) := goodIn_app (goodIn_of _ (by decide +kernel)) ggX1_prepare_X2_spread
set_option maxRecDepth 20000 in
theorem ggX1_prepare_X3_mark : GoodIn wsX1_prepare wsX3_mark := goodIn_r _ [56, 36, 57, 58, 59, 82] (by decide +kernel) (by decide +kernel)
set_option maxRecDepth 20000 in
theorem gX1_prepare_X3_mark : GoodIn wsX1_prepare (wsV RX1 99 RX3 yX3_mark wsX3_mark) := goodIn_app (goodIn_of _ (by decide +kernel)) ggX1_prepare_X3_mark
theorem dX1_prepare_0 : decode cX1_prepare 0 = .ok (.aload_n 0, 1) := by decide +kernel
theorem dX1_prepare_1 : decode cX1_prepare 1 = .ok (.aload_n 1, 1) := by decide +kernel
theorem dX1_prepare_2 : decode cX1_prepare 2 = .ok (.invokevirtual 58, 3) := by decide +kernel
theorem dX1_prepare_5 : decode cX1_prepare 5 = .ok (.aload_n 0, 1) := by decide +kernel
theorem dX1_prepare_6 : decode cX1_prepare 6 = .ok (.getfield 41, 3) := by decide +kernel
theorem dX1_prepare_9 : decode cX1_prepare 9 = .ok (.aload_n 0, 1) := by decide +kernel
theorem dX1_prepare_10 : decode cX1_prepare 10 = .ok (.getfield 45, 3) := by decide +kernel
theorem dX1_prepare_13 : decode cX1_prepare 13 = .ok (.lor, 1) := by decide +kernel
theorem dX1_prepare_14 : decode cX1_prepare 14 = .ok (.ldc2_w 62, 3) := by decide +kernel
theorem dX1_prepare_17 : decode cX1_prepare 17 = .ok (.lxor, 1) := by decide +kernel
theorem dX1_prepare_18 : decode cX1_prepare 18 = .ok (.land, 1) := by decide +kernel
theorem dX1_prepare_19 : decode cX1_prepare 19 = .ok (.putfield 64, 3) := by decide +kernel
theorem dX1_prepare_22 : decode cX1_prepare 22 = .ok (.aload_n 0, 1) := by decide +kernel
theorem dX1_prepare_23 : decode cX1_prepare 23 = .ok (.bipush 10, 2) := by decide +kernel
theorem dX1_prepare_25 : decode cX1_prepare 25 = .ok (.aload_n 0, 1) := by decide +kernel
theorem dX1_prepare_26 : decode cX1_prepare 26 = .ok (.getfield 64, 3) := by decide +kernel
theorem dX1_prepare_29 : decode cX1_prepare 29 = .ok (.invokestatic 67, 3) := by decide +kernel
theorem dX1_prepare_32 : decode cX1_prepare 32 = .ok (.invokestatic 73, 3) := by decide +kernel
theorem dX1_prepare_35 : decode cX1_prepare 35 = .ok (.putfield 79, 3) := by decide +kernel
theorem dX1_prepare_38 : decode cX1_prepare 38 = .ok (.aload_n 0, 1) := by decide +kernel
theorem dX1_prepare_39 : decode cX1_prepare 39 = .ok (.iconst 1, 1) := by decide +kernel
theorem dX1_prepare_40 : decode cX1_prepare 40 = .ok (.aload_n 0, 1) := by decide +kernel
theorem dX1_prepare_41 : decode cX1_prepare 41 = .ok (.getfield 79, 3) := by decide +kernel
theorem dX1_prepare_44 : decode cX1_prepare 44 = .ok (.ishl, 1) := by decide +kernel
theorem dX1_prepare_45 : decode cX1_prepare 45 = .ok (.iconst 1, 1) := by decide +kernel
theorem dX1_prepare_46 : decode cX1_prepare 46 = .ok (.isub, 1) := by decide +kernel
theorem dX1_prepare_47 : decode cX1_prepare 47 = .ok (.putfield 82, 3) := by decide +kernel
theorem dX1_prepare_50 : decode cX1_prepare 50 = .ok (.aload_n 0, 1) := by decide +kernel
theorem dX1_prepare_51 : decode cX1_prepare 51 = .ok (.iconst 0, 1) := by decide +kernel
theorem dX1_prepare_52 : decode cX1_prepare 52 = .ok (.putfield 85, 3) := by decide +kernel
theorem dX1_prepare_55 : decode cX1_prepare 55 = .ok (.aload_n 0, 1) := by decide +kernel
theorem dX1_prepare_56 : decode cX1_prepare 56 = .ok (.iconst 0, 1) := by decide +kernel
theorem dX1_prepare_57 : decode cX1_prepare 57 = .ok (.putfield 88, 3) := by decide +kernel
theorem dX1_prepare_60 : decode cX1_prepare 60 = .ok (.aload_n 0, 1) := by decide +kernel
theorem dX1_prepare_61 : decode cX1_prepare 61 = .ok (.getfield 14, 3) := by decide +kernel
theorem dX1_prepare_64 : decode cX1_prepare 64 = .ok (.invokevirtual 92, 3) := by decide +kernel
theorem dX1_prepare_67 : decode cX1_prepare 67 = .ok (.aload_n 0, 1) := by decide +kernel
theorem dX1_prepare_68 : decode cX1_prepare 68 = .ok (.getfield 21, 3) := by decide +kernel
theorem dX1_prepare_71 : decode cX1_prepare 71 = .ok (.invokevirtual 92, 3) := by decide +kernel
theorem dX1_prepare_74 : decode cX1_prepare 74 = .ok (.aload_n 0, 1) := by decide +kernel
theorem dX1_prepare_75 : decode cX1_prepare 75 = .ok (.getfield 24, 3) := by decide +kernel
theorem dX1_prepare_78 : decode cX1_prepare 78 = .ok (.invokevirtual 92, 3) := by decide +kernel
theorem dX1_prepare_81 : decode cX1_prepare 81 = .ok (.lconst 0, 1) := by decide +kernel
theorem dX1_prepare_82 : decode cX1_prepare 82 = .ok (.lstore_n 2, 1) := by decide +kernel
theorem dX1_prepare_83 : decode cX1_prepare 83 = .ok (.iconst 0, 1) := by decide +kernel
theorem dX1_prepare_84 : decode cX1_prepare 84 = .ok (.istore 4, 2) := by decide +kernel
theorem dX1_prepare_86 : decode cX1_prepare 86 = .ok (.iload 4, 2) := by decide +kernel
theorem dX1_prepare_88 : decode cX1_prepare 88 = .ok (.aload_n 0, 1) := by decide +kernel
theorem dX1_prepare_89 : decode cX1_prepare 89 = .ok (.getfield 82, 3) := by decide +kernel
theorem dX1_prepare_92 : decode cX1_prepare 92 = .ok (.if_icmp .gt 64, 3) := by decide +kernel
theorem dX1_prepare_95 : decode cX1_prepare 95 = .ok (.aload_n 1, 1) := by decide +kernel
theorem dX1_prepare_96 : decode cX1_prepare 96 = .ok (.aload_n 0, 1) := by decide +kernel
theorem dX1_prepare_97 : decode cX1_prepare 97 = .ok (.getfield 48, 3) := by decide +kernel
theorem dX1_prepare_100 : decode cX1_prepare 100 = .ok (.aload_n 0, 1) := by decide +kernel
theorem dX1_prepare_101 : decode cX1_prepare 101 = .ok (.getfield 41, 3) := by decide +kernel
theorem dX1_prepare_104 : decode cX1_prepare 104 = .ok (.lload_n 2, 1) := by decide +kernel
theorem dX1_prepare_105 : decode cX1_prepare 105 = .ok (.lor, 1) := by decide +kernel
theorem dX1_prepare_106 : decode cX1_prepare 106 = .ok (.invokevirtual 95, 3) := by decide +kernel
theorem dX1_prepare_109 : decode cX1_prepare 109 = .ok (.aload_n 0, 1) := by decide +kernel
theorem dX1_prepare_110 : decode cX1_prepare 110 = .ok (.getfield 51, 3) := by decide +kernel
theorem dX1_prepare_113 : decode cX1_prepare 113 = .ok (.land, 1) := by decide +kernel
theorem dX1_prepare_114 : decode cX1_prepare 114 = .ok (.lconst 0, 1) := by decide +kernel
theorem dX1_prepare_115 : decode cX1_prepare 115 = .ok (.lcmp, 1) := by decide +kernel
theorem dX1_prepare_116 : decode cX1_prepare 116 = .ok (.ifCond .eq 22, 3) := by decide +kernel
theorem dX1_prepare_119 : decode cX1_prepare 119 = .ok (.aload_n 0, 1) := by decide +kernel
theorem dX1_prepare_120 : decode cX1_prepare 120 = .ok (.getfield 14, 3) := by decide +kernel
theorem dX1_prepare_123 : decode cX1_prepare 123 = .ok (.iload 4, 2) := by decide +kernel
theorem dX1_prepare_125 : decode cX1_prepare 125 = .ok (.invokevirtual 99, 3) := by decide +kernel
theorem dX1_prepare_128 : decode cX1_prepare 128 = .ok (.aload_n 0, 1) := by decide +kernel
theorem dX1_prepare_129 : decode cX1_prepare 129 = .ok (.dup, 1) := by decide +kernel
theorem dX1_prepare_130 : decode cX1_prepare 130 = .ok (.getfield 85, 3) := by decide +kernel
theorem dX1_prepare_133 : decode cX1_prepare 133 = .ok (.iconst 1, 1) := by decide +kernel
theorem dX1_prepare_134 : decode cX1_prepare 134 = .ok (.iadd, 1) := by decide +kernel
theorem dX1_prepare_135 : decode cX1_prepare 135 = .ok (.putfield 85, 3) := by decide +kernel
theorem dX1_prepare_138 : decode cX1_prepare 138 = .ok (.lload_n 2, 1) := by decide +kernel
theorem dX1_prepare_139 : decode cX1_prepare 139 = .ok (.aload_n 0, 1) := by decide +kernel
theorem dX1_prepare_140 : decode cX1_prepare 140 = .ok (.getfield 64, 3) := by decide +kernel
theorem dX1_prepare_143 : decode cX1_prepare 143 = .ok (.lsub, 1) := by decide +kernel
theorem dX1_prepare_144 : decode cX1_prepare 144 = .ok (.aload_n 0, 1) := by decide +kernel
theorem dX1_prepare_145 : decode cX1_prepare 145 = .ok (.getfield 64, 3) := by decide +kernel
theorem dX1_prepare_148 : decode cX1_prepare 148 = .ok (.land, 1) := by decide +kernel
theorem dX1_prepare_149 : decode cX1_prepare 149 = .ok (.lstore_n 2, 1) := by decide +kernel
theorem dX1_prepare_150 : decode cX1_prepare 150 = .ok (.iinc 4 1, 3) := by decide +kernel
theorem dX1_prepare_153 : decode cX1_prepare 153 = .ok (.goto (-67), 3) := by decide +kernel
theorem dX1_prepare_156 : decode cX1_prepare 156 = .ok (.return_, 1) := by decide +kernel
theorem dX1_reachedFillings_0 : decode cX1_reachedFillings 0 = .ok (.aload_n 0, 1) := by decide +kernel
theorem dX1_reachedFillings_1 : decode cX1_reachedFillings 1 = .ok (.getfield 85, 3) := by decide +kernel
theorem dX1_reachedFillings_4 : decode cX1_reachedFillings 4 = .ok (.ireturn, 1) := by decide +kernel
set_option maxRecDepth 20000 in
theorem ggX1_makerWins_X1_holds : GoodIn wsX1_makerWins wsX1_holds := goodIn_r _ [5, 6, 7, 8, 9, 1, 10, 11, 12, 13, 14, 15, 16, 17, 18, 2, 3, 4, 19, 20, 21, 22, 23, 24, 25, 26, 27, 28, 29, 30, 31, 32, 33, 34, 35, 36, 37, 38] (by decide +kernel) (by decide +kernel)
set_option maxRecDepth 20000 in
theorem gX1_makerWins_X1_holds : GoodIn wsX1_makerWins (va_wsS RX1 102 yX1_holds wsX1_holds) := goodIn_app (goodIn_of _ (by decide +kernel)) ggX1_makerWins_X1_holds
theorem dX1_makerWins_0 : decode cX1_makerWins 0 = .ok (.aload_n 0, 1) := by decide +kernel
theorem dX1_makerWins_1 : decode cX1_makerWins 1 = .ok (.iconst 0, 1) := by decide +kernel
theorem dX1_makerWins_2 : decode cX1_makerWins 2 = .ok (.iconst 0, 1) := by decide +kernel
theorem dX1_makerWins_3 : decode cX1_makerWins 3 = .ok (.iconst 0, 1) := by decide +kernel
theorem dX1_makerWins_4 : decode cX1_makerWins 4 = .ok (.iload_n 1, 1) := by decide +kernel
theorem dX1_makerWins_5 : decode cX1_makerWins 5 = .ok (.aload_n 0, 1) := by decide +kernel
theorem dX1_makerWins_6 : decode cX1_makerWins 6 = .ok (.getfield 79, 3) := by decide +kernel
theorem dX1_makerWins_9 : decode cX1_makerWins 9 = .ok (.invokestatic 102, 3) := by decide +kernel
theorem dX1_makerWins_12 : decode cX1_makerWins 12 = .ok (.ireturn, 1) := by decide +kernel
set_option maxRecDepth 20000 in
theorem ggX1_strength_X1_makerWins : GoodIn wsX1_strength wsX1_makerWins := goodIn_r _ [5, 6, 7, 8, 4, 9, 10, 11, 12, 13, 14, 15, 16, 17, 18, 19, 20, 21, 22, 23, 24, 25, 26, 27, 28, 29, 30, 31, 32, 33, 34, 35, 36, 37, 38, 39, 40, 41, 42] (by decide +kernel) (by decide +kernel)
set_option maxRecDepth 20000 in
theorem gX1_strength_X1_makerWins : GoodIn wsX1_strength (wsV RX1 106 RX1 yX1_makerWins wsX1_makerWins) := goodIn_app (goodIn_of _ (by decide +kernel)) ggX1_strength_X1_makerWins
theorem dX1_strength_0 : decode cX1_strength 0 = .ok (.aload_n 0, 1) := by decide +kernel
theorem dX1_strength_1 : decode cX1_strength 1 = .ok (.iconst 0, 1) := by decide +kernel
theorem dX1_strength_2 : decode cX1_strength 2 = .ok (.invokevirtual 106, 3) := by decide +kernel
theorem dX1_strength_5 : decode cX1_strength 5 = .ok (.ifCond .eq 5, 3) := by decide +kernel
theorem dX1_strength_8 : decode cX1_strength 8 = .ok (.iconst 2, 1) := by decide +kernel
theorem dX1_strength_9 : decode cX1_strength 9 = .ok (.ireturn, 1) := by decide +kernel
theorem dX1_strength_10 : decode cX1_strength 10 = .ok (.aload_n 0, 1) := by decide +kernel
theorem dX1_strength_11 : decode cX1_strength 11 = .ok (.iconst 1, 1) := by decide +kernel
theorem dX1_strength_12 : decode cX1_strength 12 = .ok (.invokevirtual 106, 3) := by decide +kernel
theorem dX1_strength_15 : decode cX1_strength 15 = .ok (.ifCond .eq 7, 3) := by decide +kernel
theorem dX1_strength_18 : decode cX1_strength 18 = .ok (.iconst 1, 1) := by decide +kernel
theorem dX1_strength_19 : decode cX1_strength 19 = .ok (.goto 4, 3) := by decide +kernel
theorem dX1_strength_22 : decode cX1_strength 22 = .ok (.iconst 0, 1) := by decide +kernel
theorem dX1_strength_23 : decode cX1_strength 23 = .ok (.ireturn, 1) := by decide +kernel
set_option maxRecDepth 20000 in
theorem ggX1_winningField_X5_bit : GoodIn wsX1_winningField wsX5_bit := goodIn_r _ [5] (by decide +kernel) (by decide +kernel)
set_option maxRecDepth 20000 in
theorem gX1_winningField_X5_bit_n110 : GoodIn wsX1_winningField (wsX5_bit) := ggX1_winningField_X5_bit
set_option maxRecDepth 20000 in
theorem ggX1_winningField_X1_winsAt : GoodIn wsX1_winningField wsX1_winsAt := goodIn_r _ [10, 1, 11, 12, 9, 13, 14, 15, 16, 17, 18, 19, 20, 21, 22, 23, 3, 4, 5, 24, 25, 26, 27, 28, 29, 30, 31, 32, 33, 34, 35, 36, 37, 38, 39, 40, 41, 42, 43] (by decide +kernel) (by decide +kernel)
set_option maxRecDepth 20000 in
theorem gX1_winningField_X1_winsAt : GoodIn wsX1_winningField (wsV RX1 114 RX1 yX1_winsAt wsX1_winsAt) := goodIn_app (goodIn_of _ (by decide +kernel)) ggX1_winningField_X1_winsAt
theorem dX1_winningField_0 : decode cX1_winningField 0 = .ok (.iload_n 2, 1) := by decide +kernel
theorem dX1_winningField_1 : decode cX1_winningField 1 = .ok (.istore_n 3, 1) := by decide +kernel
theorem dX1_winningField_2 : decode cX1_winningField 2 = .ok (.iconst 0, 1) := by decide +kernel
theorem dX1_winningField_3 : decode cX1_winningField 3 = .ok (.istore 4, 2) := by decide +kernel
theorem dX1_winningField_5 : decode cX1_winningField 5 = .ok (.iconst 1, 1) := by decide +kernel
theorem dX1_winningField_6 : decode cX1_winningField 6 = .ok (.istore 5, 2) := by decide +kernel
theorem dX1_winningField_8 : decode cX1_winningField 8 = .ok (.iconst 0, 1) := by decide +kernel
theorem dX1_winningField_9 : decode cX1_winningField 9 = .ok (.istore 6, 2) := by decide +kernel
theorem dX1_winningField_11 : decode cX1_winningField 11 = .ok (.iload 6, 2) := by decide +kernel
theorem dX1_winningField_13 : decode cX1_winningField 13 = .ok (.bipush 36, 2) := by decide +kernel
theorem dX1_winningField_15 : decode cX1_winningField 15 = .ok (.if_icmp .ge 70, 3) := by decide +kernel
theorem dX1_winningField_18 : decode cX1_winningField 18 = .ok (.iload_n 3, 1) := by decide +kernel
theorem dX1_winningField_19 : decode cX1_winningField 19 = .ok (.ifCond .lt 66, 3) := by decide +kernel
theorem dX1_winningField_22 : decode cX1_winningField 22 = .ok (.iload 4, 2) := by decide +kernel
theorem dX1_winningField_24 : decode cX1_winningField 24 = .ok (.aload_n 0, 1) := by decide +kernel
theorem dX1_winningField_25 : decode cX1_winningField 25 = .ok (.getfield 79, 3) := by decide +kernel
theorem dX1_winningField_28 : decode cX1_winningField 28 = .ok (.if_icmp .ge 57, 3) := by decide +kernel
theorem dX1_winningField_31 : decode cX1_winningField 31 = .ok (.aload_n 0, 1) := by decide +kernel
theorem dX1_winningField_32 : decode cX1_winningField 32 = .ok (.getfield 64, 3) := by decide +kernel
theorem dX1_winningField_35 : decode cX1_winningField 35 = .ok (.iload 6, 2) := by decide +kernel
theorem dX1_winningField_37 : decode cX1_winningField 37 = .ok (.invokestatic 110, 3) := by decide +kernel
theorem dX1_winningField_40 : decode cX1_winningField 40 = .ok (.land, 1) := by decide +kernel
theorem dX1_winningField_41 : decode cX1_winningField 41 = .ok (.lconst 0, 1) := by decide +kernel
theorem dX1_winningField_42 : decode cX1_winningField 42 = .ok (.lcmp, 1) := by decide +kernel
theorem dX1_winningField_43 : decode cX1_winningField 43 = .ok (.ifCond .eq 36, 3) := by decide +kernel
theorem dX1_winningField_46 : decode cX1_winningField 46 = .ok (.aload_n 0, 1) := by decide +kernel
theorem dX1_winningField_47 : decode cX1_winningField 47 = .ok (.iload_n 1, 1) := by decide +kernel
theorem dX1_winningField_48 : decode cX1_winningField 48 = .ok (.iconst 1, 1) := by decide +kernel
theorem dX1_winningField_49 : decode cX1_winningField 49 = .ok (.iload 4, 2) := by decide +kernel
theorem dX1_winningField_51 : decode cX1_winningField 51 = .ok (.ishl, 1) := by decide +kernel
theorem dX1_winningField_52 : decode cX1_winningField 52 = .ok (.iload 5, 2) := by decide +kernel
theorem dX1_winningField_54 : decode cX1_winningField 54 = .ok (.invokevirtual 114, 3) := by decide +kernel
theorem dX1_winningField_57 : decode cX1_winningField 57 = .ok (.ifCond .eq 13, 3) := by decide +kernel
theorem dX1_winningField_60 : decode cX1_winningField 60 = .ok (.iload_n 3, 1) := by decide +kernel
theorem dX1_winningField_61 : decode cX1_winningField 61 = .ok (.ifCond .ne 6, 3) := by decide +kernel
theorem dX1_winningField_64 : decode cX1_winningField 64 = .ok (.iload 6, 2) := by decide +kernel
theorem dX1_winningField_66 : decode cX1_winningField 66 = .ok (.ireturn, 1) := by decide +kernel
theorem dX1_winningField_67 : decode cX1_winningField 67 = .ok (.iinc 3 (-1), 3) := by decide +kernel
theorem dX1_winningField_70 : decode cX1_winningField 70 = .ok (.iinc 4 1, 3) := by decide +kernel
theorem dX1_winningField_73 : decode cX1_winningField 73 = .ok (.iload 5, 2) := by decide +kernel
theorem dX1_winningField_75 : decode cX1_winningField 75 = .ok (.iconst 3, 1) := by decide +kernel
theorem dX1_winningField_76 : decode cX1_winningField 76 = .ok (.imul, 1) := by decide +kernel
theorem dX1_winningField_77 : decode cX1_winningField 77 = .ok (.istore 5, 2) := by decide +kernel
theorem dX1_winningField_79 : decode cX1_winningField 79 = .ok (.iinc 6 1, 3) := by decide +kernel
theorem dX1_winningField_82 : decode cX1_winningField 82 = .ok (.goto (-71), 3) := by decide +kernel
theorem dX1_winningField_85 : decode cX1_winningField 85 = .ok (.iconst (-1), 1) := by decide +kernel
theorem dX1_winningField_86 : decode cX1_winningField 86 = .ok (.ireturn, 1) := by decide +kernel
set_option maxRecDepth 20000 in
theorem ggX1_winsAt_X1_holds : GoodIn wsX1_winsAt wsX1_holds := goodIn_r _ [5, 6, 7, 8, 9, 1, 10, 11, 12, 13, 14, 15, 16, 17, 18, 2, 3, 4, 19, 20, 21, 22, 23, 24, 25, 26, 27, 28, 29, 30, 31, 32, 33, 34, 35, 36, 37, 38] (by decide +kernel) (by decide +kernel)
set_option maxRecDepth 20000 in
theorem gX1_winsAt_X1_holds : GoodIn wsX1_winsAt (va_wsS RX1 102 yX1_holds wsX1_holds) := goodIn_app (goodIn_of _ (by decide +kernel)) ggX1_winsAt_X1_holds
theorem dX1_winsAt_0 : decode cX1_winsAt 0 = .ok (.iload_n 1, 1) := by decide +kernel
theorem dX1_winsAt_1 : decode cX1_winsAt 1 = .ok (.ifCond .eq 18, 3) := by decide +kernel
theorem dX1_winsAt_4 : decode cX1_winsAt 4 = .ok (.aload_n 0, 1) := by decide +kernel
theorem dX1_winsAt_5 : decode cX1_winsAt 5 = .ok (.iload_n 2, 1) := by decide +kernel
theorem dX1_winsAt_6 : decode cX1_winsAt 6 = .ok (.iconst 0, 1) := by decide +kernel
theorem dX1_winsAt_7 : decode cX1_winsAt 7 = .ok (.iload_n 3, 1) := by decide +kernel
theorem dX1_winsAt_8 : decode cX1_winsAt 8 = .ok (.iconst 0, 1) := by decide +kernel
theorem dX1_winsAt_9 : decode cX1_winsAt 9 = .ok (.aload_n 0, 1) := by decide +kernel
theorem dX1_winsAt_10 : decode cX1_winsAt 10 = .ok (.getfield 79, 3) := by decide +kernel
theorem dX1_winsAt_13 : decode cX1_winsAt 13 = .ok (.iconst 1, 1) := by decide +kernel
theorem dX1_winsAt_14 : decode cX1_winsAt 14 = .ok (.isub, 1) := by decide +kernel
theorem dX1_winsAt_15 : decode cX1_winsAt 15 = .ok (.invokestatic 102, 3) := by decide +kernel
theorem dX1_winsAt_18 : decode cX1_winsAt 18 = .ok (.ireturn, 1) := by decide +kernel
theorem dX1_winsAt_19 : decode cX1_winsAt 19 = .ok (.aload_n 0, 1) := by decide +kernel
theorem dX1_winsAt_20 : decode cX1_winsAt 20 = .ok (.iconst 0, 1) := by decide +kernel
theorem dX1_winsAt_21 : decode cX1_winsAt 21 = .ok (.iload_n 2, 1) := by decide +kernel
theorem dX1_winsAt_22 : decode cX1_winsAt 22 = .ok (.iconst 2, 1) := by decide +kernel
theorem dX1_winsAt_23 : decode cX1_winsAt 23 = .ok (.iload_n 3, 1) := by decide +kernel
theorem dX1_winsAt_24 : decode cX1_winsAt 24 = .ok (.imul, 1) := by decide +kernel
theorem dX1_winsAt_25 : decode cX1_winsAt 25 = .ok (.iconst 1, 1) := by decide +kernel
theorem dX1_winsAt_26 : decode cX1_winsAt 26 = .ok (.aload_n 0, 1) := by decide +kernel
theorem dX1_winsAt_27 : decode cX1_winsAt 27 = .ok (.getfield 79, 3) := by decide +kernel
theorem dX1_winsAt_30 : decode cX1_winsAt 30 = .ok (.iconst 1, 1) := by decide +kernel
theorem dX1_winsAt_31 : decode cX1_winsAt 31 = .ok (.isub, 1) := by decide +kernel
theorem dX1_winsAt_32 : decode cX1_winsAt 32 = .ok (.invokestatic 102, 3) := by decide +kernel
theorem dX1_winsAt_35 : decode cX1_winsAt 35 = .ok (.ifCond .ne 7, 3) := by decide +kernel
theorem dX1_winsAt_38 : decode cX1_winsAt 38 = .ok (.iconst 1, 1) := by decide +kernel
theorem dX1_winsAt_39 : decode cX1_winsAt 39 = .ok (.goto 4, 3) := by decide +kernel
theorem dX1_winsAt_42 : decode cX1_winsAt 42 = .ok (.iconst 0, 1) := by decide +kernel
theorem dX1_winsAt_43 : decode cX1_winsAt 43 = .ok (.ireturn, 1) := by decide +kernel
set_option maxRecDepth 20000 in
theorem ggX1_holds_X3_has : GoodIn wsX1_holds wsX3_has := goodIn_r _ [10, 11, 12, 13, 14, 37] (by decide +kernel) (by decide +kernel)
set_option maxRecDepth 20000 in
theorem gX1_holds_X3_has : GoodIn wsX1_holds (wsV RX1 118 RX3 yX3_has wsX3_has) := goodIn_app (goodIn_of _ (by decide +kernel)) ggX1_holds_X3_has
set_option maxRecDepth 20000 in
theorem ggX1_holds_X1_holds : GoodIn wsX1_holds wsX1_holds := goodIn_r _ [0, 1, 2, 3, 4, 5, 6, 7, 8, 9, 10, 11, 12, 13, 14, 15, 16, 17, 18, 19, 20, 21, 22, 23, 24, 25, 26, 27, 28, 29, 30, 31, 32, 33, 34, 35, 36, 37] (by decide +kernel) (by decide +kernel)
set_option maxRecDepth 20000 in
theorem gX1_holds_X1_holds : GoodIn wsX1_holds (va_wsS RX1 102 yX1_holds wsX1_holds) := goodIn_app (goodIn_of _ (by decide +kernel)) ggX1_holds_X1_holds
set_option maxRecDepth 20000 in
theorem ggX1_holds_X3_mark : GoodIn wsX1_holds wsX3_mark := goodIn_r _ [21, 11, 12, 13, 14, 37] (by decide +kernel) (by decide +kernel)
set_option maxRecDepth 20000 in
theorem gX1_holds_X3_mark : GoodIn wsX1_holds (wsV RX1 99 RX3 yX3_mark wsX3_mark) := goodIn_app (goodIn_of _ (by decide +kernel)) ggX1_holds_X3_mark
theorem dX1_holds_0 : decode cX1_holds 0 = .ok (.aload_n 0, 1) := by decide +kernel
theorem dX1_holds_1 : decode cX1_holds 1 = .ok (.getfield 14, 3) := by decide +kernel
theorem dX1_holds_4 : decode cX1_holds 4 = .ok (.iload_n 1, 1) := by decide +kernel
theorem dX1_holds_5 : decode cX1_holds 5 = .ok (.invokevirtual 118, 3) := by decide +kernel
theorem dX1_holds_8 : decode cX1_holds 8 = .ok (.ifCond .eq 5, 3) := by decide +kernel
theorem dX1_holds_11 : decode cX1_holds 11 = .ok (.iconst 1, 1) := by decide +kernel
theorem dX1_holds_12 : decode cX1_holds 12 = .ok (.ireturn, 1) := by decide +kernel
theorem dX1_holds_13 : decode cX1_holds 13 = .ok (.iload 5, 2) := by decide +kernel
theorem dX1_holds_15 : decode cX1_holds 15 = .ok (.ifCond .le 21, 3) := by decide +kernel
theorem dX1_holds_18 : decode cX1_holds 18 = .ok (.aload_n 0, 1) := by decide +kernel
theorem dX1_holds_19 : decode cX1_holds 19 = .ok (.getfield 14, 3) := by decide +kernel
theorem dX1_holds_22 : decode cX1_holds 22 = .ok (.aload_n 0, 1) := by decide +kernel
theorem dX1_holds_23 : decode cX1_holds 23 = .ok (.getfield 82, 3) := by decide +kernel
theorem dX1_holds_26 : decode cX1_holds 26 = .ok (.iload_n 2, 1) := by decide +kernel
theorem dX1_holds_27 : decode cX1_holds 27 = .ok (.iconst (-1), 1) := by decide +kernel
theorem dX1_holds_28 : decode cX1_holds 28 = .ok (.ixor, 1) := by decide +kernel
theorem dX1_holds_29 : decode cX1_holds 29 = .ok (.iand, 1) := by decide +kernel
theorem dX1_holds_30 : decode cX1_holds 30 = .ok (.invokevirtual 118, 3) := by decide +kernel
theorem dX1_holds_33 : decode cX1_holds 33 = .ok (.ifCond .ne 5, 3) := by decide +kernel
theorem dX1_holds_36 : decode cX1_holds 36 = .ok (.iconst 0, 1) := by decide +kernel
theorem dX1_holds_37 : decode cX1_holds 37 = .ok (.ireturn, 1) := by decide +kernel
theorem dX1_holds_38 : decode cX1_holds 38 = .ok (.iconst 2, 1) := by decide +kernel
theorem dX1_holds_39 : decode cX1_holds 39 = .ok (.iload_n 3, 1) := by decide +kernel
theorem dX1_holds_40 : decode cX1_holds 40 = .ok (.imul, 1) := by decide +kernel
theorem dX1_holds_41 : decode cX1_holds 41 = .ok (.iload 4, 2) := by decide +kernel
theorem dX1_holds_43 : decode cX1_holds 43 = .ok (.ifCond .eq 7, 3) := by decide +kernel
theorem dX1_holds_46 : decode cX1_holds 46 = .ok (.iconst 1, 1) := by decide +kernel
theorem dX1_holds_47 : decode cX1_holds 47 = .ok (.goto 4, 3) := by decide +kernel
theorem dX1_holds_50 : decode cX1_holds 50 = .ok (.iconst 0, 1) := by decide +kernel
theorem dX1_holds_51 : decode cX1_holds 51 = .ok (.iadd, 1) := by decide +kernel
theorem dX1_holds_52 : decode cX1_holds 52 = .ok (.istore 6, 2) := by decide +kernel
theorem dX1_holds_54 : decode cX1_holds 54 = .ok (.aload_n 0, 1) := by decide +kernel
theorem dX1_holds_55 : decode cX1_holds 55 = .ok (.getfield 21, 3) := by decide +kernel
theorem dX1_holds_58 : decode cX1_holds 58 = .ok (.iload 6, 2) := by decide +kernel
theorem dX1_holds_60 : decode cX1_holds 60 = .ok (.invokevirtual 118, 3) := by decide +kernel
theorem dX1_holds_63 : decode cX1_holds 63 = .ok (.ifCond .ne 15, 3) := by decide +kernel
theorem dX1_holds_66 : decode cX1_holds 66 = .ok (.aload_n 0, 1) := by decide +kernel
theorem dX1_holds_67 : decode cX1_holds 67 = .ok (.getfield 24, 3) := by decide +kernel
theorem dX1_holds_70 : decode cX1_holds 70 = .ok (.iload 6, 2) := by decide +kernel
theorem dX1_holds_72 : decode cX1_holds 72 = .ok (.invokevirtual 118, 3) := by decide +kernel
theorem dX1_holds_75 : decode cX1_holds 75 = .ok (.ifCond .eq 13, 3) := by decide +kernel
theorem dX1_holds_78 : decode cX1_holds 78 = .ok (.aload_n 0, 1) := by decide +kernel
theorem dX1_holds_79 : decode cX1_holds 79 = .ok (.getfield 21, 3) := by decide +kernel
theorem dX1_holds_82 : decode cX1_holds 82 = .ok (.iload 6, 2) := by decide +kernel
theorem dX1_holds_84 : decode cX1_holds 84 = .ok (.invokevirtual 118, 3) := by decide +kernel
theorem dX1_holds_87 : decode cX1_holds 87 = .ok (.ireturn, 1) := by decide +kernel
theorem dX1_holds_88 : decode cX1_holds 88 = .ok (.iload 4, 2) := by decide +kernel
theorem dX1_holds_90 : decode cX1_holds 90 = .ok (.ifCond .ne 7, 3) := by decide +kernel
theorem dX1_holds_93 : decode cX1_holds 93 = .ok (.iconst 1, 1) := by decide +kernel
theorem dX1_holds_94 : decode cX1_holds 94 = .ok (.goto 4, 3) := by decide +kernel
theorem dX1_holds_97 : decode cX1_holds 97 = .ok (.iconst 0, 1) := by decide +kernel
theorem dX1_holds_98 : decode cX1_holds 98 = .ok (.istore 7, 2) := by decide +kernel
theorem dX1_holds_100 : decode cX1_holds 100 = .ok (.iconst 1, 1) := by decide +kernel
theorem dX1_holds_101 : decode cX1_holds 101 = .ok (.istore 8, 2) := by decide +kernel
theorem dX1_holds_103 : decode cX1_holds 103 = .ok (.iconst 0, 1) := by decide +kernel
theorem dX1_holds_104 : decode cX1_holds 104 = .ok (.istore 9, 2) := by decide +kernel
theorem dX1_holds_106 : decode cX1_holds 106 = .ok (.iload 9, 2) := by decide +kernel
theorem dX1_holds_108 : decode cX1_holds 108 = .ok (.aload_n 0, 1) := by decide +kernel
theorem dX1_holds_109 : decode cX1_holds 109 = .ok (.getfield 79, 3) := by decide +kernel
theorem dX1_holds_112 : decode cX1_holds 112 = .ok (.if_icmp .ge 85, 3) := by decide +kernel
theorem dX1_holds_115 : decode cX1_holds 115 = .ok (.iload 7, 2) := by decide +kernel
theorem dX1_holds_117 : decode cX1_holds 117 = .ok (.iload 4, 2) := by decide +kernel
theorem dX1_holds_119 : decode cX1_holds 119 = .ok (.if_icmp .eq 78, 3) := by decide +kernel
theorem dX1_holds_122 : decode cX1_holds 122 = .ok (.iconst 1, 1) := by decide +kernel
theorem dX1_holds_123 : decode cX1_holds 123 = .ok (.iload 9, 2) := by decide +kernel
theorem dX1_holds_125 : decode cX1_holds 125 = .ok (.ishl, 1) := by decide +kernel
theorem dX1_holds_126 : decode cX1_holds 126 = .ok (.istore 10, 2) := by decide +kernel
theorem dX1_holds_128 : decode cX1_holds 128 = .ok (.iload_n 1, 1) := by decide +kernel
theorem dX1_holds_129 : decode cX1_holds 129 = .ok (.iload_n 2, 1) := by decide +kernel
theorem dX1_holds_130 : decode cX1_holds 130 = .ok (.ior, 1) := by decide +kernel
theorem dX1_holds_131 : decode cX1_holds 131 = .ok (.iload 10, 2) := by decide +kernel
theorem dX1_holds_133 : decode cX1_holds 133 = .ok (.iand, 1) := by decide +kernel
theorem dX1_holds_134 : decode cX1_holds 134 = .ok (.ifCond .ne 51, 3) := by decide +kernel
theorem dX1_holds_137 : decode cX1_holds 137 = .ok (.iload 4, 2) := by decide +kernel
theorem dX1_holds_139 : decode cX1_holds 139 = .ok (.ifCond .eq 24, 3) := by decide +kernel
theorem dX1_holds_142 : decode cX1_holds 142 = .ok (.aload_n 0, 1) := by decide +kernel
theorem dX1_holds_143 : decode cX1_holds 143 = .ok (.iload_n 1, 1) := by decide +kernel
theorem dX1_holds_144 : decode cX1_holds 144 = .ok (.iload 10, 2) := by decide +kernel
theorem dX1_holds_146 : decode cX1_holds 146 = .ok (.ior, 1) := by decide +kernel
theorem dX1_holds_147 : decode cX1_holds 147 = .ok (.iload_n 2, 1) := by decide +kernel
theorem dX1_holds_148 : decode cX1_holds 148 = .ok (.iload_n 3, 1) := by decide +kernel
theorem dX1_holds_149 : decode cX1_holds 149 = .ok (.iload 8, 2) := by decide +kernel
theorem dX1_holds_151 : decode cX1_holds 151 = .ok (.iadd, 1) := by decide +kernel
theorem dX1_holds_152 : decode cX1_holds 152 = .ok (.iconst 0, 1) := by decide +kernel
theorem dX1_holds_153 : decode cX1_holds 153 = .ok (.iload 5, 2) := by decide +kernel
theorem dX1_holds_155 : decode cX1_holds 155 = .ok (.iconst 1, 1) := by decide +kernel
theorem dX1_holds_156 : decode cX1_holds 156 = .ok (.isub, 1) := by decide +kernel
theorem dX1_holds_157 : decode cX1_holds 157 = .ok (.invokestatic 102, 3) := by decide +kernel
theorem dX1_holds_160 : decode cX1_holds 160 = .ok (.goto 23, 3) := by decide +kernel
theorem dX1_holds_163 : decode cX1_holds 163 = .ok (.aload_n 0, 1) := by decide +kernel
theorem dX1_holds_164 : decode cX1_holds 164 = .ok (.iload_n 1, 1) := by decide +kernel
theorem dX1_holds_165 : decode cX1_holds 165 = .ok (.iload_n 2, 1) := by decide +kernel
theorem dX1_holds_166 : decode cX1_holds 166 = .ok (.iload 10, 2) := by decide +kernel
theorem dX1_holds_168 : decode cX1_holds 168 = .ok (.ior, 1) := by decide +kernel
theorem dX1_holds_169 : decode cX1_holds 169 = .ok (.iload_n 3, 1) := by decide +kernel
theorem dX1_holds_170 : decode cX1_holds 170 = .ok (.iconst 2, 1) := by decide +kernel
theorem dX1_holds_171 : decode cX1_holds 171 = .ok (.iload 8, 2) := by decide +kernel
theorem dX1_holds_173 : decode cX1_holds 173 = .ok (.imul, 1) := by decide +kernel
theorem dX1_holds_174 : decode cX1_holds 174 = .ok (.iadd, 1) := by decide +kernel
theorem dX1_holds_175 : decode cX1_holds 175 = .ok (.iconst 1, 1) := by decide +kernel
theorem dX1_holds_176 : decode cX1_holds 176 = .ok (.iload 5, 2) := by decide +kernel
theorem dX1_holds_178 : decode cX1_holds 178 = .ok (.iconst 1, 1) := by decide +kernel
theorem dX1_holds_179 : decode cX1_holds 179 = .ok (.isub, 1) := by decide +kernel
theorem dX1_holds_180 : decode cX1_holds 180 = .ok (.invokestatic 102, 3) := by decide +kernel
theorem dX1_holds_183 : decode cX1_holds 183 = .ok (.istore 7, 2) := by decide +kernel
theorem dX1_holds_185 : decode cX1_holds 185 = .ok (.iload 8, 2) := by decide +kernel
theorem dX1_holds_187 : decode cX1_holds 187 = .ok (.iconst 3, 1) := by decide +kernel
theorem dX1_holds_188 : decode cX1_holds 188 = .ok (.imul, 1) := by decide +kernel
theorem dX1_holds_189 : decode cX1_holds 189 = .ok (.istore 8, 2) := by decide +kernel
theorem dX1_holds_191 : decode cX1_holds 191 = .ok (.iinc 9 1, 3) := by decide +kernel
theorem dX1_holds_194 : decode cX1_holds 194 = .ok (.goto (-88), 3) := by decide +kernel
theorem dX1_holds_197 : decode cX1_holds 197 = .ok (.iload 7, 2) := by decide +kernel
theorem dX1_holds_199 : decode cX1_holds 199 = .ok (.ifCond .eq 15, 3) := by decide +kernel
theorem dX1_holds_202 : decode cX1_holds 202 = .ok (.aload_n 0, 1) := by decide +kernel
theorem dX1_holds_203 : decode cX1_holds 203 = .ok (.getfield 21, 3) := by decide +kernel
theorem dX1_holds_206 : decode cX1_holds 206 = .ok (.iload 6, 2) := by decide +kernel
theorem dX1_holds_208 : decode cX1_holds 208 = .ok (.invokevirtual 99, 3) := by decide +kernel
theorem dX1_holds_211 : decode cX1_holds 211 = .ok (.goto 12, 3) := by decide +kernel
theorem dX1_holds_214 : decode cX1_holds 214 = .ok (.aload_n 0, 1) := by decide +kernel
theorem dX1_holds_215 : decode cX1_holds 215 = .ok (.getfield 24, 3) := by decide +kernel
theorem dX1_holds_218 : decode cX1_holds 218 = .ok (.iload 6, 2) := by decide +kernel
theorem dX1_holds_220 : decode cX1_holds 220 = .ok (.invokevirtual 99, 3) := by decide +kernel
theorem dX1_holds_223 : decode cX1_holds 223 = .ok (.iload 7, 2) := by decide +kernel
theorem dX1_holds_225 : decode cX1_holds 225 = .ok (.ireturn, 1) := by decide +kernel
set_option maxRecDepth 20000 in
theorem ggX1_deadFields_X1_findDead : GoodIn wsX1_deadFields wsX1_findDead := goodIn_r _ [7, 2, 1, 8, 9, 10, 11, 12, 13, 14, 15, 6, 16, 17, 18, 19, 20, 21, 22, 23, 24, 25, 26, 27, 28, 29, 30, 31, 32, 33, 34, 35, 36, 37, 38, 39, 40] (by decide +kernel) (by decide +kernel)
set_option maxRecDepth 20000 in
theorem gX1_deadFields_X1_findDead : GoodIn wsX1_deadFields (wsV RX1 122 RX1 yX1_findDead wsX1_findDead) := goodIn_app (goodIn_of _ (by decide +kernel)) ggX1_deadFields_X1_findDead
theorem dX1_deadFields_0 : decode cX1_deadFields 0 = .ok (.aload_n 0, 1) := by decide +kernel
theorem dX1_deadFields_1 : decode cX1_deadFields 1 = .ok (.getfield 88, 3) := by decide +kernel
theorem dX1_deadFields_4 : decode cX1_deadFields 4 = .ok (.ifCond .ne 7, 3) := by decide +kernel
theorem dX1_deadFields_7 : decode cX1_deadFields 7 = .ok (.aload_n 0, 1) := by decide +kernel
theorem dX1_deadFields_8 : decode cX1_deadFields 8 = .ok (.invokevirtual 122, 3) := by decide +kernel
theorem dX1_deadFields_11 : decode cX1_deadFields 11 = .ok (.aload_n 0, 1) := by decide +kernel
theorem dX1_deadFields_12 : decode cX1_deadFields 12 = .ok (.getfield 125, 3) := by decide +kernel
theorem dX1_deadFields_15 : decode cX1_deadFields 15 = .ok (.lreturn, 1) := by decide +kernel
set_option maxRecDepth 20000 in
theorem ggX1_findDead_X5_bit : GoodIn wsX1_findDead wsX5_bit := goodIn_r _ [7] (by decide +kernel) (by decide +kernel)
set_option maxRecDepth 20000 in
theorem gX1_findDead_X5_bit_n110 : GoodIn wsX1_findDead (wsX5_bit) := ggX1_findDead_X5_bit
set_option maxRecDepth 20000 in
theorem ggX1_findDead_X1_neverMatters : GoodIn wsX1_findDead wsX1_neverMatters := goodIn_r _ [12, 13, 14, 15, 16, 17, 18, 19, 20, 5, 6, 7, 21, 22, 23, 24, 25, 26, 27, 28, 29, 30, 31, 32, 33, 34, 35, 36] (by decide +kernel) (by decide +kernel)
set_option maxRecDepth 20000 in
theorem gX1_findDead_X1_neverMatters : GoodIn wsX1_findDead (wsV RX1 128 RX1 yX1_neverMatters wsX1_neverMatters) := goodIn_app (goodIn_of _ (by decide +kernel)) ggX1_findDead_X1_neverMatters
theorem dX1_findDead_0 : decode cX1_findDead 0 = .ok (.aload_n 0, 1) := by decide +kernel
theorem dX1_findDead_1 : decode cX1_findDead 1 = .ok (.lconst 0, 1) := by decide +kernel
theorem dX1_findDead_2 : decode cX1_findDead 2 = .ok (.putfield 125, 3) := by decide +kernel
theorem dX1_findDead_5 : decode cX1_findDead 5 = .ok (.aload_n 0, 1) := by decide +kernel
theorem dX1_findDead_6 : decode cX1_findDead 6 = .ok (.iconst 1, 1) := by decide +kernel
theorem dX1_findDead_7 : decode cX1_findDead 7 = .ok (.putfield 88, 3) := by decide +kernel
theorem dX1_findDead_10 : decode cX1_findDead 10 = .ok (.iconst 0, 1) := by decide +kernel
theorem dX1_findDead_11 : decode cX1_findDead 11 = .ok (.istore_n 1, 1) := by decide +kernel
theorem dX1_findDead_12 : decode cX1_findDead 12 = .ok (.iconst 0, 1) := by decide +kernel
theorem dX1_findDead_13 : decode cX1_findDead 13 = .ok (.istore_n 2, 1) := by decide +kernel
theorem dX1_findDead_14 : decode cX1_findDead 14 = .ok (.iload_n 2, 1) := by decide +kernel
theorem dX1_findDead_15 : decode cX1_findDead 15 = .ok (.bipush 36, 2) := by decide +kernel
theorem dX1_findDead_17 : decode cX1_findDead 17 = .ok (.if_icmp .ge 57, 3) := by decide +kernel
theorem dX1_findDead_20 : decode cX1_findDead 20 = .ok (.iload_n 1, 1) := by decide +kernel
theorem dX1_findDead_21 : decode cX1_findDead 21 = .ok (.aload_n 0, 1) := by decide +kernel
theorem dX1_findDead_22 : decode cX1_findDead 22 = .ok (.getfield 79, 3) := by decide +kernel
theorem dX1_findDead_25 : decode cX1_findDead 25 = .ok (.if_icmp .ge 49, 3) := by decide +kernel
theorem dX1_findDead_28 : decode cX1_findDead 28 = .ok (.aload_n 0, 1) := by decide +kernel
theorem dX1_findDead_29 : decode cX1_findDead 29 = .ok (.getfield 64, 3) := by decide +kernel
theorem dX1_findDead_32 : decode cX1_findDead 32 = .ok (.iload_n 2, 1) := by decide +kernel
theorem dX1_findDead_33 : decode cX1_findDead 33 = .ok (.invokestatic 110, 3) := by decide +kernel
theorem dX1_findDead_36 : decode cX1_findDead 36 = .ok (.land, 1) := by decide +kernel
theorem dX1_findDead_37 : decode cX1_findDead 37 = .ok (.lconst 0, 1) := by decide +kernel
theorem dX1_findDead_38 : decode cX1_findDead 38 = .ok (.lcmp, 1) := by decide +kernel
theorem dX1_findDead_39 : decode cX1_findDead 39 = .ok (.ifCond .eq 29, 3) := by decide +kernel
theorem dX1_findDead_42 : decode cX1_findDead 42 = .ok (.aload_n 0, 1) := by decide +kernel
theorem dX1_findDead_43 : decode cX1_findDead 43 = .ok (.iconst 1, 1) := by decide +kernel
theorem dX1_findDead_44 : decode cX1_findDead 44 = .ok (.iload_n 1, 1) := by decide +kernel
theorem dX1_findDead_45 : decode cX1_findDead 45 = .ok (.ishl, 1) := by decide +kernel
theorem dX1_findDead_46 : decode cX1_findDead 46 = .ok (.invokevirtual 128, 3) := by decide +kernel
theorem dX1_findDead_49 : decode cX1_findDead 49 = .ok (.ifCond .eq 16, 3) := by decide +kernel
theorem dX1_findDead_52 : decode cX1_findDead 52 = .ok (.aload_n 0, 1) := by decide +kernel
theorem dX1_findDead_53 : decode cX1_findDead 53 = .ok (.dup, 1) := by decide +kernel
theorem dX1_findDead_54 : decode cX1_findDead 54 = .ok (.getfield 125, 3) := by decide +kernel
theorem dX1_findDead_57 : decode cX1_findDead 57 = .ok (.iload_n 2, 1) := by decide +kernel
theorem dX1_findDead_58 : decode cX1_findDead 58 = .ok (.invokestatic 110, 3) := by decide +kernel
theorem dX1_findDead_61 : decode cX1_findDead 61 = .ok (.lor, 1) := by decide +kernel
theorem dX1_findDead_62 : decode cX1_findDead 62 = .ok (.putfield 125, 3) := by decide +kernel
theorem dX1_findDead_65 : decode cX1_findDead 65 = .ok (.iinc 1 1, 3) := by decide +kernel
theorem dX1_findDead_68 : decode cX1_findDead 68 = .ok (.iinc 2 1, 3) := by decide +kernel
theorem dX1_findDead_71 : decode cX1_findDead 71 = .ok (.goto (-57), 3) := by decide +kernel
theorem dX1_findDead_74 : decode cX1_findDead 74 = .ok (.return_, 1) := by decide +kernel
set_option maxRecDepth 20000 in
theorem ggX1_neverMatters_X3_has : GoodIn wsX1_neverMatters wsX3_has := goodIn_r _ [7, 8, 9, 10, 11, 27] (by decide +kernel) (by decide +kernel)
set_option maxRecDepth 20000 in
theorem gX1_neverMatters_X3_has : GoodIn wsX1_neverMatters (wsV RX1 118 RX3 yX3_has wsX3_has) := goodIn_app (goodIn_of _ (by decide +kernel)) ggX1_neverMatters_X3_has
theorem dX1_neverMatters_0 : decode cX1_neverMatters 0 = .ok (.iconst 0, 1) := by decide +kernel
theorem dX1_neverMatters_1 : decode cX1_neverMatters 1 = .ok (.istore_n 2, 1) := by decide +kernel
theorem dX1_neverMatters_2 : decode cX1_neverMatters 2 = .ok (.iload_n 2, 1) := by decide +kernel
theorem dX1_neverMatters_3 : decode cX1_neverMatters 3 = .ok (.aload_n 0, 1) := by decide +kernel
theorem dX1_neverMatters_4 : decode cX1_neverMatters 4 = .ok (.getfield 82, 3) := by decide +kernel
theorem dX1_neverMatters_7 : decode cX1_neverMatters 7 = .ok (.if_icmp .gt 38, 3) := by decide +kernel
theorem dX1_neverMatters_10 : decode cX1_neverMatters 10 = .ok (.iload_n 2, 1) := by decide +kernel
theorem dX1_neverMatters_11 : decode cX1_neverMatters 11 = .ok (.iload_n 1, 1) := by decide +kernel
theorem dX1_neverMatters_12 : decode cX1_neverMatters 12 = .ok (.iand, 1) := by decide +kernel
theorem dX1_neverMatters_13 : decode cX1_neverMatters 13 = .ok (.ifCond .ne 26, 3) := by decide +kernel
theorem dX1_neverMatters_16 : decode cX1_neverMatters 16 = .ok (.aload_n 0, 1) := by decide +kernel
theorem dX1_neverMatters_17 : decode cX1_neverMatters 17 = .ok (.getfield 14, 3) := by decide +kernel
theorem dX1_neverMatters_20 : decode cX1_neverMatters 20 = .ok (.iload_n 2, 1) := by decide +kernel
theorem dX1_neverMatters_21 : decode cX1_neverMatters 21 = .ok (.invokevirtual 118, 3) := by decide +kernel
theorem dX1_neverMatters_24 : decode cX1_neverMatters 24 = .ok (.aload_n 0, 1) := by decide +kernel
theorem dX1_neverMatters_25 : decode cX1_neverMatters 25 = .ok (.getfield 14, 3) := by decide +kernel
theorem dX1_neverMatters_28 : decode cX1_neverMatters 28 = .ok (.iload_n 2, 1) := by decide +kernel
theorem dX1_neverMatters_29 : decode cX1_neverMatters 29 = .ok (.iload_n 1, 1) := by decide +kernel
theorem dX1_neverMatters_30 : decode cX1_neverMatters 30 = .ok (.ior, 1) := by decide +kernel
theorem dX1_neverMatters_31 : decode cX1_neverMatters 31 = .ok (.invokevirtual 118, 3) := by decide +kernel
theorem dX1_neverMatters_34 : decode cX1_neverMatters 34 = .ok (.if_icmp .eq 5, 3) := by decide +kernel
theorem dX1_neverMatters_37 : decode cX1_neverMatters 37 = .ok (.iconst 0, 1) := by decide +kernel
theorem dX1_neverMatters_38 : decode cX1_neverMatters 38 = .ok (.ireturn, 1) := by decide +kernel
theorem dX1_neverMatters_39 : decode cX1_neverMatters 39 = .ok (.iinc 2 1, 3) := by decide +kernel
theorem dX1_neverMatters_42 : decode cX1_neverMatters 42 = .ok (.goto (-40), 3) := by decide +kernel
theorem dX1_neverMatters_45 : decode cX1_neverMatters 45 = .ok (.iconst 1, 1) := by decide +kernel
theorem dX1_neverMatters_46 : decode cX1_neverMatters 46 = .ok (.ireturn, 1) := by decide +kernel
theorem dX2_init_0 : decode cX2_init 0 = .ok (.aload_n 0, 1) := by decide +kernel
theorem dX2_init_1 : decode cX2_init 1 = .ok (.invokespecial 3, 3) := by decide +kernel
theorem dX2_init_4 : decode cX2_init 4 = .ok (.return_, 1) := by decide +kernel
set_option maxRecDepth 20000 in
theorem ggX2_shape_X5_bit : GoodIn wsX2_shape wsX5_bit := goodIn_r _ [10] (by decide +kernel) (by decide +kernel)
set_option maxRecDepth 20000 in
theorem gX2_shape_X5_bit_n18 : GoodIn wsX2_shape (wsX5_bit) := ggX2_shape_X5_bit
theorem dX2_shape_0 : decode cX2_shape 0 = .ok (.aload_n 0, 1) := by decide +kernel
theorem dX2_shape_1 : decode cX2_shape 1 = .ok (.iload_n 1, 1) := by decide +kernel
theorem dX2_shape_2 : decode cX2_shape 2 = .ok (.putfield 9, 3) := by decide +kernel
theorem dX2_shape_5 : decode cX2_shape 5 = .ok (.aload_n 0, 1) := by decide +kernel
theorem dX2_shape_6 : decode cX2_shape 6 = .ok (.iload_n 2, 1) := by decide +kernel
theorem dX2_shape_7 : decode cX2_shape 7 = .ok (.putfield 15, 3) := by decide +kernel
theorem dX2_shape_10 : decode cX2_shape 10 = .ok (.aload_n 0, 1) := by decide +kernel
theorem dX2_shape_11 : decode cX2_shape 11 = .ok (.aload_n 0, 1) := by decide +kernel
theorem dX2_shape_12 : decode cX2_shape 12 = .ok (.getfield 9, 3) := by decide +kernel
theorem dX2_shape_15 : decode cX2_shape 15 = .ok (.aload_n 0, 1) := by decide +kernel
theorem dX2_shape_16 : decode cX2_shape 16 = .ok (.getfield 15, 3) := by decide +kernel
theorem dX2_shape_19 : decode cX2_shape 19 = .ok (.imul, 1) := by decide +kernel
theorem dX2_shape_20 : decode cX2_shape 20 = .ok (.invokestatic 18, 3) := by decide +kernel
theorem dX2_shape_23 : decode cX2_shape 23 = .ok (.lconst 1, 1) := by decide +kernel
theorem dX2_shape_24 : decode cX2_shape 24 = .ok (.lsub, 1) := by decide +kernel
theorem dX2_shape_25 : decode cX2_shape 25 = .ok (.putfield 22, 3) := by decide +kernel
theorem dX2_shape_28 : decode cX2_shape 28 = .ok (.aload_n 0, 1) := by decide +kernel
theorem dX2_shape_29 : decode cX2_shape 29 = .ok (.aload_n 0, 1) := by decide +kernel
theorem dX2_shape_30 : decode cX2_shape 30 = .ok (.getfield 15, 3) := by decide +kernel
theorem dX2_shape_33 : decode cX2_shape 33 = .ok (.invokestatic 18, 3) := by decide +kernel
theorem dX2_shape_36 : decode cX2_shape 36 = .ok (.lconst 1, 1) := by decide +kernel
theorem dX2_shape_37 : decode cX2_shape 37 = .ok (.lsub, 1) := by decide +kernel
theorem dX2_shape_38 : decode cX2_shape 38 = .ok (.putfield 26, 3) := by decide +kernel
theorem dX2_shape_41 : decode cX2_shape 41 = .ok (.aload_n 0, 1) := by decide +kernel
theorem dX2_shape_42 : decode cX2_shape 42 = .ok (.aload_n 0, 1) := by decide +kernel
theorem dX2_shape_43 : decode cX2_shape 43 = .ok (.getfield 26, 3) := by decide +kernel
theorem dX2_shape_46 : decode cX2_shape 46 = .ok (.aload_n 0, 1) := by decide +kernel
theorem dX2_shape_47 : decode cX2_shape 47 = .ok (.getfield 15, 3) := by decide +kernel
theorem dX2_shape_50 : decode cX2_shape 50 = .ok (.aload_n 0, 1) := by decide +kernel
theorem dX2_shape_51 : decode cX2_shape 51 = .ok (.getfield 9, 3) := by decide +kernel
theorem dX2_shape_54 : decode cX2_shape 54 = .ok (.iconst 1, 1) := by decide +kernel
theorem dX2_shape_55 : decode cX2_shape 55 = .ok (.isub, 1) := by decide +kernel
theorem dX2_shape_56 : decode cX2_shape 56 = .ok (.imul, 1) := by decide +kernel
theorem dX2_shape_57 : decode cX2_shape 57 = .ok (.lshl, 1) := by decide +kernel
theorem dX2_shape_58 : decode cX2_shape 58 = .ok (.putfield 29, 3) := by decide +kernel
theorem dX2_shape_61 : decode cX2_shape 61 = .ok (.aload_n 0, 1) := by decide +kernel
theorem dX2_shape_62 : decode cX2_shape 62 = .ok (.lconst 0, 1) := by decide +kernel
theorem dX2_shape_63 : decode cX2_shape 63 = .ok (.putfield 32, 3) := by decide +kernel
theorem dX2_shape_66 : decode cX2_shape 66 = .ok (.iconst 0, 1) := by decide +kernel
theorem dX2_shape_67 : decode cX2_shape 67 = .ok (.istore_n 3, 1) := by decide +kernel
theorem dX2_shape_68 : decode cX2_shape 68 = .ok (.iload_n 3, 1) := by decide +kernel
theorem dX2_shape_69 : decode cX2_shape 69 = .ok (.aload_n 0, 1) := by decide +kernel
theorem dX2_shape_70 : decode cX2_shape 70 = .ok (.getfield 9, 3) := by decide +kernel
theorem dX2_shape_73 : decode cX2_shape 73 = .ok (.if_icmp .ge 27, 3) := by decide +kernel
theorem dX2_shape_76 : decode cX2_shape 76 = .ok (.aload_n 0, 1) := by decide +kernel
theorem dX2_shape_77 : decode cX2_shape 77 = .ok (.dup, 1) := by decide +kernel
theorem dX2_shape_78 : decode cX2_shape 78 = .ok (.getfield 32, 3) := by decide +kernel
theorem dX2_shape_81 : decode cX2_shape 81 = .ok (.aload_n 0, 1) := by decide +kernel
theorem dX2_shape_82 : decode cX2_shape 82 = .ok (.getfield 15, 3) := by decide +kernel
theorem dX2_shape_85 : decode cX2_shape 85 = .ok (.iload_n 3, 1) := by decide +kernel
theorem dX2_shape_86 : decode cX2_shape 86 = .ok (.imul, 1) := by decide +kernel
theorem dX2_shape_87 : decode cX2_shape 87 = .ok (.invokestatic 18, 3) := by decide +kernel
theorem dX2_shape_90 : decode cX2_shape 90 = .ok (.lor, 1) := by decide +kernel
theorem dX2_shape_91 : decode cX2_shape 91 = .ok (.putfield 32, 3) := by decide +kernel
theorem dX2_shape_94 : decode cX2_shape 94 = .ok (.iinc 3 1, 3) := by decide +kernel
theorem dX2_shape_97 : decode cX2_shape 97 = .ok (.goto (-29), 3) := by decide +kernel
theorem dX2_shape_100 : decode cX2_shape 100 = .ok (.aload_n 0, 1) := by decide +kernel
theorem dX2_shape_101 : decode cX2_shape 101 = .ok (.aload_n 0, 1) := by decide +kernel
theorem dX2_shape_102 : decode cX2_shape 102 = .ok (.getfield 32, 3) := by decide +kernel
theorem dX2_shape_105 : decode cX2_shape 105 = .ok (.aload_n 0, 1) := by decide +kernel
theorem dX2_shape_106 : decode cX2_shape 106 = .ok (.getfield 15, 3) := by decide +kernel
theorem dX2_shape_109 : decode cX2_shape 109 = .ok (.iconst 1, 1) := by decide +kernel
theorem dX2_shape_110 : decode cX2_shape 110 = .ok (.isub, 1) := by decide +kernel
theorem dX2_shape_111 : decode cX2_shape 111 = .ok (.lshl, 1) := by decide +kernel
theorem dX2_shape_112 : decode cX2_shape 112 = .ok (.putfield 35, 3) := by decide +kernel
theorem dX2_shape_115 : decode cX2_shape 115 = .ok (.return_, 1) := by decide +kernel
theorem dX2_rows_0 : decode cX2_rows 0 = .ok (.aload_n 0, 1) := by decide +kernel
theorem dX2_rows_1 : decode cX2_rows 1 = .ok (.getfield 9, 3) := by decide +kernel
theorem dX2_rows_4 : decode cX2_rows 4 = .ok (.ireturn, 1) := by decide +kernel
theorem dX2_columns_0 : decode cX2_columns 0 = .ok (.aload_n 0, 1) := by decide +kernel
theorem dX2_columns_1 : decode cX2_columns 1 = .ok (.getfield 15, 3) := by decide +kernel
theorem dX2_columns_4 : decode cX2_columns 4 = .ok (.ireturn, 1) := by decide +kernel
theorem dX2_all_0 : decode cX2_all 0 = .ok (.aload_n 0, 1) := by decide +kernel
theorem dX2_all_1 : decode cX2_all 1 = .ok (.getfield 22, 3) := by decide +kernel
theorem dX2_all_4 : decode cX2_all 4 = .ok (.lreturn, 1) := by decide +kernel
theorem dX2_northBank_0 : decode cX2_northBank 0 = .ok (.aload_n 0, 1) := by decide +kernel
theorem dX2_northBank_1 : decode cX2_northBank 1 = .ok (.getfield 26, 3) := by decide +kernel
theorem dX2_northBank_4 : decode cX2_northBank 4 = .ok (.lreturn, 1) := by decide +kernel
theorem dX2_southBank_0 : decode cX2_southBank 0 = .ok (.aload_n 0, 1) := by decide +kernel
theorem dX2_southBank_1 : decode cX2_southBank 1 = .ok (.getfield 29, 3) := by decide +kernel
theorem dX2_southBank_4 : decode cX2_southBank 4 = .ok (.lreturn, 1) := by decide +kernel
theorem dX2_westBank_0 : decode cX2_westBank 0 = .ok (.aload_n 0, 1) := by decide +kernel
end
section
theorem dX2_westBank_1 : decode cX2_westBank 1 = .ok (.getfield 32, 3) := by decide +kernel
theorem dX2_westBank_4 : decode cX2_westBank 4 = .ok (.lreturn, 1) := by decide +kernel
theorem dX2_eastBank_0 : decode cX2_eastBank 0 = .ok (.aload_n 0, 1) := by decide +kernel
theorem dX2_eastBank_1 : decode cX2_eastBank 1 = .ok (.getfield 35, 3) := by decide +kernel
theorem dX2_eastBank_4 : decode cX2_eastBank 4 = .ok (.lreturn, 1) := by decide +kernel
theorem dX2_has_0 : decode cX2_has 0 = .ok (.iload_n 1, 1) := by decide +kernel
theorem dX2_has_1 : decode cX2_has 1 = .ok (.ifCond .lt 20, 3) := by decide +kernel
theorem dX2_has_4 : decode cX2_has 4 = .ok (.iload_n 1, 1) := by decide +kernel
theorem dX2_has_5 : decode cX2_has 5 = .ok (.aload_n 0, 1) := by decide +kernel
theorem dX2_has_6 : decode cX2_has 6 = .ok (.getfield 9, 3) := by decide +kernel
theorem dX2_has_9 : decode cX2_has 9 = .ok (.aload_n 0, 1) := by decide +kernel
theorem dX2_has_10 : decode cX2_has 10 = .ok (.getfield 15, 3) := by decide +kernel
theorem dX2_has_13 : decode cX2_has 13 = .ok (.imul, 1) := by decide +kernel
theorem dX2_has_14 : decode cX2_has 14 = .ok (.if_icmp .ge 7, 3) := by decide +kernel
theorem dX2_has_17 : decode cX2_has 17 = .ok (.iconst 1, 1) := by decide +kernel
theorem dX2_has_18 : decode cX2_has 18 = .ok (.goto 4, 3) := by decide +kernel
theorem dX2_has_21 : decode cX2_has 21 = .ok (.iconst 0, 1) := by decide +kernel
theorem dX2_has_22 : decode cX2_has 22 = .ok (.ireturn, 1) := by decide +kernel
theorem dX2_beside_0 : decode cX2_beside 0 = .ok (.lload_n 1, 1) := by decide +kernel
theorem dX2_beside_1 : decode cX2_beside 1 = .ok (.aload_n 0, 1) := by decide +kernel
theorem dX2_beside_2 : decode cX2_beside 2 = .ok (.getfield 35, 3) := by decide +kernel
theorem dX2_beside_5 : decode cX2_beside 5 = .ok (.ldc2_w 38, 3) := by decide +kernel
theorem dX2_beside_8 : decode cX2_beside 8 = .ok (.lxor, 1) := by decide +kernel
theorem dX2_beside_9 : decode cX2_beside 9 = .ok (.land, 1) := by decide +kernel
theorem dX2_beside_10 : decode cX2_beside 10 = .ok (.lstore_n 3, 1) := by decide +kernel
theorem dX2_beside_11 : decode cX2_beside 11 = .ok (.lload_n 1, 1) := by decide +kernel
theorem dX2_beside_12 : decode cX2_beside 12 = .ok (.aload_n 0, 1) := by decide +kernel
theorem dX2_beside_13 : decode cX2_beside 13 = .ok (.getfield 32, 3) := by decide +kernel
theorem dX2_beside_16 : decode cX2_beside 16 = .ok (.ldc2_w 38, 3) := by decide +kernel
theorem dX2_beside_19 : decode cX2_beside 19 = .ok (.lxor, 1) := by decide +kernel
theorem dX2_beside_20 : decode cX2_beside 20 = .ok (.land, 1) := by decide +kernel
theorem dX2_beside_21 : decode cX2_beside 21 = .ok (.lstore 5, 2) := by decide +kernel
theorem dX2_beside_23 : decode cX2_beside 23 = .ok (.lload_n 3, 1) := by decide +kernel
theorem dX2_beside_24 : decode cX2_beside 24 = .ok (.iconst 1, 1) := by decide +kernel
theorem dX2_beside_25 : decode cX2_beside 25 = .ok (.lshl, 1) := by decide +kernel
theorem dX2_beside_26 : decode cX2_beside 26 = .ok (.lload 5, 2) := by decide +kernel
theorem dX2_beside_28 : decode cX2_beside 28 = .ok (.iconst 1, 1) := by decide +kernel
theorem dX2_beside_29 : decode cX2_beside 29 = .ok (.lushr, 1) := by decide +kernel
theorem dX2_beside_30 : decode cX2_beside 30 = .ok (.lor, 1) := by decide +kernel
theorem dX2_beside_31 : decode cX2_beside 31 = .ok (.lstore 7, 2) := by decide +kernel
theorem dX2_beside_33 : decode cX2_beside 33 = .ok (.lload_n 1, 1) := by decide +kernel
theorem dX2_beside_34 : decode cX2_beside 34 = .ok (.aload_n 0, 1) := by decide +kernel
theorem dX2_beside_35 : decode cX2_beside 35 = .ok (.getfield 15, 3) := by decide +kernel
theorem dX2_beside_38 : decode cX2_beside 38 = .ok (.lshl, 1) := by decide +kernel
theorem dX2_beside_39 : decode cX2_beside 39 = .ok (.lload_n 1, 1) := by decide +kernel
theorem dX2_beside_40 : decode cX2_beside 40 = .ok (.aload_n 0, 1) := by decide +kernel
theorem dX2_beside_41 : decode cX2_beside 41 = .ok (.getfield 15, 3) := by decide +kernel
theorem dX2_beside_44 : decode cX2_beside 44 = .ok (.lushr, 1) := by decide +kernel
theorem dX2_beside_45 : decode cX2_beside 45 = .ok (.lor, 1) := by decide +kernel
theorem dX2_beside_46 : decode cX2_beside 46 = .ok (.lstore 9, 2) := by decide +kernel
theorem dX2_beside_48 : decode cX2_beside 48 = .ok (.lload_n 3, 1) := by decide +kernel
theorem dX2_beside_49 : decode cX2_beside 49 = .ok (.aload_n 0, 1) := by decide +kernel
theorem dX2_beside_50 : decode cX2_beside 50 = .ok (.getfield 15, 3) := by decide +kernel
theorem dX2_beside_53 : decode cX2_beside 53 = .ok (.iconst 1, 1) := by decide +kernel
theorem dX2_beside_54 : decode cX2_beside 54 = .ok (.isub, 1) := by decide +kernel
theorem dX2_beside_55 : decode cX2_beside 55 = .ok (.lushr, 1) := by decide +kernel
theorem dX2_beside_56 : decode cX2_beside 56 = .ok (.lload 5, 2) := by decide +kernel
theorem dX2_beside_58 : decode cX2_beside 58 = .ok (.aload_n 0, 1) := by decide +kernel
theorem dX2_beside_59 : decode cX2_beside 59 = .ok (.getfield 15, 3) := by decide +kernel
theorem dX2_beside_62 : decode cX2_beside 62 = .ok (.iconst 1, 1) := by decide +kernel
theorem dX2_beside_63 : decode cX2_beside 63 = .ok (.isub, 1) := by decide +kernel
theorem dX2_beside_64 : decode cX2_beside 64 = .ok (.lshl, 1) := by decide +kernel
theorem dX2_beside_65 : decode cX2_beside 65 = .ok (.lor, 1) := by decide +kernel
theorem dX2_beside_66 : decode cX2_beside 66 = .ok (.lstore 11, 2) := by decide +kernel
theorem dX2_beside_68 : decode cX2_beside 68 = .ok (.lload 7, 2) := by decide +kernel
theorem dX2_beside_70 : decode cX2_beside 70 = .ok (.lload 9, 2) := by decide +kernel
theorem dX2_beside_72 : decode cX2_beside 72 = .ok (.lor, 1) := by decide +kernel
theorem dX2_beside_73 : decode cX2_beside 73 = .ok (.lload 11, 2) := by decide +kernel
theorem dX2_beside_75 : decode cX2_beside 75 = .ok (.lor, 1) := by decide +kernel
theorem dX2_beside_76 : decode cX2_beside 76 = .ok (.aload_n 0, 1) := by decide +kernel
theorem dX2_beside_77 : decode cX2_beside 77 = .ok (.getfield 22, 3) := by decide +kernel
theorem dX2_beside_80 : decode cX2_beside 80 = .ok (.land, 1) := by decide +kernel
theorem dX2_beside_81 : decode cX2_beside 81 = .ok (.lreturn, 1) := by decide +kernel
set_option maxRecDepth 20000 in
theorem ggX2_spread_X2_beside : GoodIn wsX2_spread wsX2_beside := goodIn_r _ [5, 6, 7, 8, 9, 10, 11, 12, 13, 14, 15, 16, 17] (by decide +kernel) (by decide +kernel)
set_option maxRecDepth 20000 in
theorem gX2_spread_X2_beside : GoodIn wsX2_spread (wsV RX2 40 RX2 yX2_beside wsX2_beside) := goodIn_app (goodIn_of _ (by decide +kernel)) ggX2_spread_X2_beside
theorem dX2_spread_0 : decode cX2_spread 0 = .ok (.lload_n 1, 1) := by decide +kernel
theorem dX2_spread_1 : decode cX2_spread 1 = .ok (.lload_n 3, 1) := by decide +kernel
theorem dX2_spread_2 : decode cX2_spread 2 = .ok (.land, 1) := by decide +kernel
theorem dX2_spread_3 : decode cX2_spread 3 = .ok (.lstore 5, 2) := by decide +kernel
theorem dX2_spread_5 : decode cX2_spread 5 = .ok (.iconst 0, 1) := by decide +kernel
theorem dX2_spread_6 : decode cX2_spread 6 = .ok (.istore 7, 2) := by decide +kernel
theorem dX2_spread_8 : decode cX2_spread 8 = .ok (.iload 7, 2) := by decide +kernel
theorem dX2_spread_10 : decode cX2_spread 10 = .ok (.bipush 36, 2) := by decide +kernel
theorem dX2_spread_12 : decode cX2_spread 12 = .ok (.if_icmp .ge 37, 3) := by decide +kernel
theorem dX2_spread_15 : decode cX2_spread 15 = .ok (.lload 5, 2) := by decide +kernel
theorem dX2_spread_17 : decode cX2_spread 17 = .ok (.aload_n 0, 1) := by decide +kernel
theorem dX2_spread_18 : decode cX2_spread 18 = .ok (.lload 5, 2) := by decide +kernel
theorem dX2_spread_20 : decode cX2_spread 20 = .ok (.invokevirtual 40, 3) := by decide +kernel
theorem dX2_spread_23 : decode cX2_spread 23 = .ok (.lor, 1) := by decide +kernel
theorem dX2_spread_24 : decode cX2_spread 24 = .ok (.lload_n 3, 1) := by decide +kernel
theorem dX2_spread_25 : decode cX2_spread 25 = .ok (.land, 1) := by decide +kernel
theorem dX2_spread_26 : decode cX2_spread 26 = .ok (.lstore 8, 2) := by decide +kernel
theorem dX2_spread_28 : decode cX2_spread 28 = .ok (.lload 8, 2) := by decide +kernel
theorem dX2_spread_30 : decode cX2_spread 30 = .ok (.lload 5, 2) := by decide +kernel
theorem dX2_spread_32 : decode cX2_spread 32 = .ok (.lcmp, 1) := by decide +kernel
theorem dX2_spread_33 : decode cX2_spread 33 = .ok (.ifCond .ne 6, 3) := by decide +kernel
theorem dX2_spread_36 : decode cX2_spread 36 = .ok (.lload 5, 2) := by decide +kernel
theorem dX2_spread_38 : decode cX2_spread 38 = .ok (.lreturn, 1) := by decide +kernel
theorem dX2_spread_39 : decode cX2_spread 39 = .ok (.lload 8, 2) := by decide +kernel
theorem dX2_spread_41 : decode cX2_spread 41 = .ok (.lstore 5, 2) := by decide +kernel
theorem dX2_spread_43 : decode cX2_spread 43 = .ok (.iinc 7 1, 3) := by decide +kernel
theorem dX2_spread_46 : decode cX2_spread 46 = .ok (.goto (-38), 3) := by decide +kernel
theorem dX2_spread_49 : decode cX2_spread 49 = .ok (.lload 5, 2) := by decide +kernel
theorem dX2_spread_51 : decode cX2_spread 51 = .ok (.lreturn, 1) := by decide +kernel
set_option maxRecDepth 20000 in
theorem ggX2_joins_X2_spread : GoodIn wsX2_joins wsX2_spread := goodIn_r _ [5, 6, 7, 8, 4, 9, 10, 11, 12, 13, 14, 15, 16, 17, 18, 19, 20, 21] (by decide +kernel) (by decide +kernel)
set_option maxRecDepth 20000 in
theorem gX2_joins_X2_spread : GoodIn wsX2_joins (wsV RX2 44 RX2 yX2_spread wsX2_spread) := goodIn_app (goodIn_of _ (by decide +kernel)) ggX2_joins_X2_spread
theorem dX2_joins_0 : decode cX2_joins 0 = .ok (.aload_n 0, 1) := by decide +kernel
theorem dX2_joins_1 : decode cX2_joins 1 = .ok (.lload_n 3, 1) := by decide +kernel
theorem dX2_joins_2 : decode cX2_joins 2 = .ok (.lload_n 1, 1) := by decide +kernel
theorem dX2_joins_3 : decode cX2_joins 3 = .ok (.invokevirtual 44, 3) := by decide +kernel
theorem dX2_joins_6 : decode cX2_joins 6 = .ok (.lload 5, 2) := by decide +kernel
theorem dX2_joins_8 : decode cX2_joins 8 = .ok (.land, 1) := by decide +kernel
theorem dX2_joins_9 : decode cX2_joins 9 = .ok (.lconst 0, 1) := by decide +kernel
theorem dX2_joins_10 : decode cX2_joins 10 = .ok (.lcmp, 1) := by decide +kernel
theorem dX2_joins_11 : decode cX2_joins 11 = .ok (.ifCond .eq 7, 3) := by decide +kernel
theorem dX2_joins_14 : decode cX2_joins 14 = .ok (.iconst 1, 1) := by decide +kernel
theorem dX2_joins_15 : decode cX2_joins 15 = .ok (.goto 4, 3) := by decide +kernel
theorem dX2_joins_18 : decode cX2_joins 18 = .ok (.iconst 0, 1) := by decide +kernel
theorem dX2_joins_19 : decode cX2_joins 19 = .ok (.ireturn, 1) := by decide +kernel
set_option maxRecDepth 20000 in
theorem ggX2_groupsOf_X2_spread : GoodIn wsX2_groupsOf wsX2_spread := goodIn_r _ [6, 7, 8, 9, 5, 10, 11, 1, 12, 13, 14, 15, 16, 17, 18, 19, 20, 21] (by decide +kernel) (by decide +kernel)
set_option maxRecDepth 20000 in
theorem gX2_groupsOf_X2_spread : GoodIn wsX2_groupsOf (wsV RX2 44 RX2 yX2_spread wsX2_spread) := goodIn_app (goodIn_of _ (by decide +kernel)) ggX2_groupsOf_X2_spread
theorem dX2_groupsOf_0 : decode cX2_groupsOf 0 = .ok (.iconst 0, 1) := by decide +kernel
theorem dX2_groupsOf_1 : decode cX2_groupsOf 1 = .ok (.istore_n 3, 1) := by decide +kernel
theorem dX2_groupsOf_2 : decode cX2_groupsOf 2 = .ok (.lload_n 1, 1) := by decide +kernel
theorem dX2_groupsOf_3 : decode cX2_groupsOf 3 = .ok (.lstore 4, 2) := by decide +kernel
theorem dX2_groupsOf_5 : decode cX2_groupsOf 5 = .ok (.iconst 0, 1) := by decide +kernel
theorem dX2_groupsOf_6 : decode cX2_groupsOf 6 = .ok (.istore 6, 2) := by decide +kernel
theorem dX2_groupsOf_8 : decode cX2_groupsOf 8 = .ok (.iload 6, 2) := by decide +kernel
theorem dX2_groupsOf_10 : decode cX2_groupsOf 10 = .ok (.bipush 36, 2) := by decide +kernel
theorem dX2_groupsOf_12 : decode cX2_groupsOf 12 = .ok (.if_icmp .ge 39, 3) := by decide +kernel
theorem dX2_groupsOf_15 : decode cX2_groupsOf 15 = .ok (.lload 4, 2) := by decide +kernel
theorem dX2_groupsOf_17 : decode cX2_groupsOf 17 = .ok (.lconst 0, 1) := by decide +kernel
theorem dX2_groupsOf_18 : decode cX2_groupsOf 18 = .ok (.lcmp, 1) := by decide +kernel
theorem dX2_groupsOf_19 : decode cX2_groupsOf 19 = .ok (.ifCond .eq 32, 3) := by decide +kernel
theorem dX2_groupsOf_22 : decode cX2_groupsOf 22 = .ok (.lload 4, 2) := by decide +kernel
theorem dX2_groupsOf_24 : decode cX2_groupsOf 24 = .ok (.aload_n 0, 1) := by decide +kernel
theorem dX2_groupsOf_25 : decode cX2_groupsOf 25 = .ok (.lload 4, 2) := by decide +kernel
theorem dX2_groupsOf_27 : decode cX2_groupsOf 27 = .ok (.lload 4, 2) := by decide +kernel
theorem dX2_groupsOf_29 : decode cX2_groupsOf 29 = .ok (.lneg, 1) := by decide +kernel
theorem dX2_groupsOf_30 : decode cX2_groupsOf 30 = .ok (.land, 1) := by decide +kernel
theorem dX2_groupsOf_31 : decode cX2_groupsOf 31 = .ok (.lload_n 1, 1) := by decide +kernel
theorem dX2_groupsOf_32 : decode cX2_groupsOf 32 = .ok (.invokevirtual 44, 3) := by decide +kernel
theorem dX2_groupsOf_35 : decode cX2_groupsOf 35 = .ok (.ldc2_w 38, 3) := by decide +kernel
theorem dX2_groupsOf_38 : decode cX2_groupsOf 38 = .ok (.lxor, 1) := by decide +kernel
theorem dX2_groupsOf_39 : decode cX2_groupsOf 39 = .ok (.land, 1) := by decide +kernel
theorem dX2_groupsOf_40 : decode cX2_groupsOf 40 = .ok (.lstore 4, 2) := by decide +kernel
theorem dX2_groupsOf_42 : decode cX2_groupsOf 42 = .ok (.iinc 3 1, 3) := by decide +kernel
theorem dX2_groupsOf_45 : decode cX2_groupsOf 45 = .ok (.iinc 6 1, 3) := by decide +kernel
theorem dX2_groupsOf_48 : decode cX2_groupsOf 48 = .ok (.goto (-40), 3) := by decide +kernel
theorem dX2_groupsOf_51 : decode cX2_groupsOf 51 = .ok (.iload_n 3, 1) := by decide +kernel
theorem dX2_groupsOf_52 : decode cX2_groupsOf 52 = .ok (.ireturn, 1) := by decide +kernel
theorem dX2_banksOf_0 : decode cX2_banksOf 0 = .ok (.lload_n 1, 1) := by decide +kernel
theorem dX2_banksOf_1 : decode cX2_banksOf 1 = .ok (.aload_n 0, 1) := by decide +kernel
theorem dX2_banksOf_2 : decode cX2_banksOf 2 = .ok (.getfield 26, 3) := by decide +kernel
theorem dX2_banksOf_5 : decode cX2_banksOf 5 = .ok (.land, 1) := by decide +kernel
theorem dX2_banksOf_6 : decode cX2_banksOf 6 = .ok (.lconst 0, 1) := by decide +kernel
theorem dX2_banksOf_7 : decode cX2_banksOf 7 = .ok (.lcmp, 1) := by decide +kernel
theorem dX2_banksOf_8 : decode cX2_banksOf 8 = .ok (.ifCond .eq 7, 3) := by decide +kernel
theorem dX2_banksOf_11 : decode cX2_banksOf 11 = .ok (.iconst 1, 1) := by decide +kernel
theorem dX2_banksOf_12 : decode cX2_banksOf 12 = .ok (.goto 4, 3) := by decide +kernel
theorem dX2_banksOf_15 : decode cX2_banksOf 15 = .ok (.iconst 0, 1) := by decide +kernel
theorem dX2_banksOf_16 : decode cX2_banksOf 16 = .ok (.istore_n 3, 1) := by decide +kernel
theorem dX2_banksOf_17 : decode cX2_banksOf 17 = .ok (.iload_n 3, 1) := by decide +kernel
theorem dX2_banksOf_18 : decode cX2_banksOf 18 = .ok (.lload_n 1, 1) := by decide +kernel
theorem dX2_banksOf_19 : decode cX2_banksOf 19 = .ok (.aload_n 0, 1) := by decide +kernel
theorem dX2_banksOf_20 : decode cX2_banksOf 20 = .ok (.getfield 29, 3) := by decide +kernel
theorem dX2_banksOf_23 : decode cX2_banksOf 23 = .ok (.land, 1) := by decide +kernel
theorem dX2_banksOf_24 : decode cX2_banksOf 24 = .ok (.lconst 0, 1) := by decide +kernel
theorem dX2_banksOf_25 : decode cX2_banksOf 25 = .ok (.lcmp, 1) := by decide +kernel
theorem dX2_banksOf_26 : decode cX2_banksOf 26 = .ok (.ifCond .eq 7, 3) := by decide +kernel
theorem dX2_banksOf_29 : decode cX2_banksOf 29 = .ok (.iconst 2, 1) := by decide +kernel
theorem dX2_banksOf_30 : decode cX2_banksOf 30 = .ok (.goto 4, 3) := by decide +kernel
theorem dX2_banksOf_33 : decode cX2_banksOf 33 = .ok (.iconst 0, 1) := by decide +kernel
theorem dX2_banksOf_34 : decode cX2_banksOf 34 = .ok (.ior, 1) := by decide +kernel
theorem dX2_banksOf_35 : decode cX2_banksOf 35 = .ok (.istore_n 3, 1) := by decide +kernel
theorem dX2_banksOf_36 : decode cX2_banksOf 36 = .ok (.iload_n 3, 1) := by decide +kernel
theorem dX2_banksOf_37 : decode cX2_banksOf 37 = .ok (.lload_n 1, 1) := by decide +kernel
theorem dX2_banksOf_38 : decode cX2_banksOf 38 = .ok (.aload_n 0, 1) := by decide +kernel
theorem dX2_banksOf_39 : decode cX2_banksOf 39 = .ok (.getfield 32, 3) := by decide +kernel
theorem dX2_banksOf_42 : decode cX2_banksOf 42 = .ok (.land, 1) := by decide +kernel
theorem dX2_banksOf_43 : decode cX2_banksOf 43 = .ok (.lconst 0, 1) := by decide +kernel
theorem dX2_banksOf_44 : decode cX2_banksOf 44 = .ok (.lcmp, 1) := by decide +kernel
theorem dX2_banksOf_45 : decode cX2_banksOf 45 = .ok (.ifCond .eq 7, 3) := by decide +kernel
theorem dX2_banksOf_48 : decode cX2_banksOf 48 = .ok (.iconst 4, 1) := by decide +kernel
theorem dX2_banksOf_49 : decode cX2_banksOf 49 = .ok (.goto 4, 3) := by decide +kernel
theorem dX2_banksOf_52 : decode cX2_banksOf 52 = .ok (.iconst 0, 1) := by decide +kernel
theorem dX2_banksOf_53 : decode cX2_banksOf 53 = .ok (.ior, 1) := by decide +kernel
theorem dX2_banksOf_54 : decode cX2_banksOf 54 = .ok (.istore_n 3, 1) := by decide +kernel
theorem dX2_banksOf_55 : decode cX2_banksOf 55 = .ok (.iload_n 3, 1) := by decide +kernel
theorem dX2_banksOf_56 : decode cX2_banksOf 56 = .ok (.lload_n 1, 1) := by decide +kernel
theorem dX2_banksOf_57 : decode cX2_banksOf 57 = .ok (.aload_n 0, 1) := by decide +kernel
theorem dX2_banksOf_58 : decode cX2_banksOf 58 = .ok (.getfield 35, 3) := by decide +kernel
theorem dX2_banksOf_61 : decode cX2_banksOf 61 = .ok (.land, 1) := by decide +kernel
theorem dX2_banksOf_62 : decode cX2_banksOf 62 = .ok (.lconst 0, 1) := by decide +kernel
theorem dX2_banksOf_63 : decode cX2_banksOf 63 = .ok (.lcmp, 1) := by decide +kernel
theorem dX2_banksOf_64 : decode cX2_banksOf 64 = .ok (.ifCond .eq 8, 3) := by decide +kernel
theorem dX2_banksOf_67 : decode cX2_banksOf 67 = .ok (.bipush 8, 2) := by decide +kernel
theorem dX2_banksOf_69 : decode cX2_banksOf 69 = .ok (.goto 4, 3) := by decide +kernel
theorem dX2_banksOf_72 : decode cX2_banksOf 72 = .ok (.iconst 0, 1) := by decide +kernel
theorem dX2_banksOf_73 : decode cX2_banksOf 73 = .ok (.ior, 1) := by decide +kernel
theorem dX2_banksOf_74 : decode cX2_banksOf 74 = .ok (.istore_n 3, 1) := by decide +kernel
theorem dX2_banksOf_75 : decode cX2_banksOf 75 = .ok (.iload_n 3, 1) := by decide +kernel
theorem dX2_banksOf_76 : decode cX2_banksOf 76 = .ok (.ireturn, 1) := by decide +kernel
set_option maxRecDepth 20000 in
theorem ggX2_turned_X5_bit : GoodIn wsX2_turned wsX5_bit := goodIn_r _ [5] (by decide +kernel) (by decide +kernel)
set_option maxRecDepth 20000 in
theorem gX2_turned_X5_bit_n18 : GoodIn wsX2_turned (wsX5_bit) := ggX2_turned_X5_bit
theorem dX2_turned_0 : decode cX2_turned 0 = .ok (.lconst 0, 1) := by decide +kernel
theorem dX2_turned_1 : decode cX2_turned 1 = .ok (.lstore_n 3, 1) := by decide +kernel
theorem dX2_turned_2 : decode cX2_turned 2 = .ok (.iconst 0, 1) := by decide +kernel
theorem dX2_turned_3 : decode cX2_turned 3 = .ok (.istore 5, 2) := by decide +kernel
theorem dX2_turned_5 : decode cX2_turned 5 = .ok (.iload 5, 2) := by decide +kernel
theorem dX2_turned_7 : decode cX2_turned 7 = .ok (.aload_n 0, 1) := by decide +kernel
theorem dX2_turned_8 : decode cX2_turned 8 = .ok (.getfield 9, 3) := by decide +kernel
theorem dX2_turned_11 : decode cX2_turned 11 = .ok (.if_icmp .ge 63, 3) := by decide +kernel
theorem dX2_turned_14 : decode cX2_turned 14 = .ok (.iconst 0, 1) := by decide +kernel
theorem dX2_turned_15 : decode cX2_turned 15 = .ok (.istore 6, 2) := by decide +kernel
theorem dX2_turned_17 : decode cX2_turned 17 = .ok (.iload 6, 2) := by decide +kernel
theorem dX2_turned_19 : decode cX2_turned 19 = .ok (.aload_n 0, 1) := by decide +kernel
theorem dX2_turned_20 : decode cX2_turned 20 = .ok (.getfield 15, 3) := by decide +kernel
theorem dX2_turned_23 : decode cX2_turned 23 = .ok (.if_icmp .ge 45, 3) := by decide +kernel
theorem dX2_turned_26 : decode cX2_turned 26 = .ok (.lload_n 1, 1) := by decide +kernel
theorem dX2_turned_27 : decode cX2_turned 27 = .ok (.aload_n 0, 1) := by decide +kernel
theorem dX2_turned_28 : decode cX2_turned 28 = .ok (.getfield 15, 3) := by decide +kernel
theorem dX2_turned_31 : decode cX2_turned 31 = .ok (.iload 5, 2) := by decide +kernel
theorem dX2_turned_33 : decode cX2_turned 33 = .ok (.imul, 1) := by decide +kernel
theorem dX2_turned_34 : decode cX2_turned 34 = .ok (.iload 6, 2) := by decide +kernel
theorem dX2_turned_36 : decode cX2_turned 36 = .ok (.iadd, 1) := by decide +kernel
theorem dX2_turned_37 : decode cX2_turned 37 = .ok (.invokestatic 18, 3) := by decide +kernel
theorem dX2_turned_40 : decode cX2_turned 40 = .ok (.land, 1) := by decide +kernel
theorem dX2_turned_41 : decode cX2_turned 41 = .ok (.lconst 0, 1) := by decide +kernel
theorem dX2_turned_42 : decode cX2_turned 42 = .ok (.lcmp, 1) := by decide +kernel
theorem dX2_turned_43 : decode cX2_turned 43 = .ok (.ifCond .eq 19, 3) := by decide +kernel
theorem dX2_turned_46 : decode cX2_turned 46 = .ok (.lload_n 3, 1) := by decide +kernel
theorem dX2_turned_47 : decode cX2_turned 47 = .ok (.aload_n 0, 1) := by decide +kernel
theorem dX2_turned_48 : decode cX2_turned 48 = .ok (.getfield 9, 3) := by decide +kernel
theorem dX2_turned_51 : decode cX2_turned 51 = .ok (.iload 6, 2) := by decide +kernel
theorem dX2_turned_53 : decode cX2_turned 53 = .ok (.imul, 1) := by decide +kernel
theorem dX2_turned_54 : decode cX2_turned 54 = .ok (.iload 5, 2) := by decide +kernel
theorem dX2_turned_56 : decode cX2_turned 56 = .ok (.iadd, 1) := by decide +kernel
theorem dX2_turned_57 : decode cX2_turned 57 = .ok (.invokestatic 18, 3) := by decide +kernel
theorem dX2_turned_60 : decode cX2_turned 60 = .ok (.lor, 1) := by decide +kernel
theorem dX2_turned_61 : decode cX2_turned 61 = .ok (.lstore_n 3, 1) := by decide +kernel
theorem dX2_turned_62 : decode cX2_turned 62 = .ok (.iinc 6 1, 3) := by decide +kernel
theorem dX2_turned_65 : decode cX2_turned 65 = .ok (.goto (-48), 3) := by decide +kernel
theorem dX2_turned_68 : decode cX2_turned 68 = .ok (.iinc 5 1, 3) := by decide +kernel
theorem dX2_turned_71 : decode cX2_turned 71 = .ok (.goto (-66), 3) := by decide +kernel
theorem dX2_turned_74 : decode cX2_turned 74 = .ok (.lload_n 3, 1) := by decide +kernel
theorem dX2_turned_75 : decode cX2_turned 75 = .ok (.lreturn, 1) := by decide +kernel
theorem dX3_init_0 : decode cX3_init 0 = .ok (.aload_n 0, 1) := by decide +kernel
theorem dX3_init_1 : decode cX3_init 1 = .ok (.invokespecial 1, 3) := by decide +kernel
theorem dX3_init_4 : decode cX3_init 4 = .ok (.aload_n 0, 1) := by decide +kernel
theorem dX3_init_5 : decode cX3_init 5 = .ok (.iconst 0, 1) := by decide +kernel
theorem dX3_init_6 : decode cX3_init 6 = .ok (.iload_n 1, 1) := by decide +kernel
theorem dX3_init_7 : decode cX3_init 7 = .ok (.bipush 63, 2) := by decide +kernel
theorem dX3_init_9 : decode cX3_init 9 = .ok (.iadd, 1) := by decide +kernel
theorem dX3_init_10 : decode cX3_init 10 = .ok (.bipush 6, 2) := by decide +kernel
theorem dX3_init_12 : decode cX3_init 12 = .ok (.ishr, 1) := by decide +kernel
theorem dX3_init_13 : decode cX3_init 13 = .ok (.invokestatic 7, 3) := by decide +kernel
theorem dX3_init_16 : decode cX3_init 16 = .ok (.newarray .long, 2) := by decide +kernel
theorem dX3_init_18 : decode cX3_init 18 = .ok (.putfield 13, 3) := by decide +kernel
theorem dX3_init_21 : decode cX3_init 21 = .ok (.return_, 1) := by decide +kernel
set_option maxRecDepth 20000 in
theorem ggX3_forget_J7_fill_d0a16 : GoodIn wsX3_forget wsJ7_fill_d0a16 := goodIn_r _ [5] (by decide +kernel) (by decide +kernel)
set_option maxRecDepth 20000 in
theorem gX3_forget_J7_fill_d0a16 : GoodIn wsX3_forget (va_wsS RX3 19 yJ7_fill_d0a16 wsJ7_fill_d0a16) := goodIn_app (goodIn_of _ (by decide +kernel)) ggX3_forget_J7_fill_d0a16
theorem dX3_forget_0 : decode cX3_forget 0 = .ok (.aload_n 0, 1) := by decide +kernel
theorem dX3_forget_1 : decode cX3_forget 1 = .ok (.getfield 13, 3) := by decide +kernel
theorem dX3_forget_4 : decode cX3_forget 4 = .ok (.lconst 0, 1) := by decide +kernel
theorem dX3_forget_5 : decode cX3_forget 5 = .ok (.invokestatic 19, 3) := by decide +kernel
theorem dX3_forget_8 : decode cX3_forget 8 = .ok (.return_, 1) := by decide +kernel
set_option maxRecDepth 20000 in
theorem ggX3_has_X5_bit : GoodIn wsX3_has wsX5_bit := goodIn_r _ [4] (by decide +kernel) (by decide +kernel)
set_option maxRecDepth 20000 in
theorem gX3_has_X5_bit_n25 : GoodIn wsX3_has (wsX5_bit) := ggX3_has_X5_bit
theorem dX3_has_0 : decode cX3_has 0 = .ok (.iload_n 1, 1) := by decide +kernel
theorem dX3_has_1 : decode cX3_has 1 = .ok (.bipush 6, 2) := by decide +kernel
theorem dX3_has_3 : decode cX3_has 3 = .ok (.ishr, 1) := by decide +kernel
theorem dX3_has_4 : decode cX3_has 4 = .ok (.istore_n 2, 1) := by decide +kernel
theorem dX3_has_5 : decode cX3_has 5 = .ok (.iload_n 2, 1) := by decide +kernel
theorem dX3_has_6 : decode cX3_has 6 = .ok (.ifCond .lt 35, 3) := by decide +kernel
theorem dX3_has_9 : decode cX3_has 9 = .ok (.iload_n 2, 1) := by decide +kernel
theorem dX3_has_10 : decode cX3_has 10 = .ok (.aload_n 0, 1) := by decide +kernel
theorem dX3_has_11 : decode cX3_has 11 = .ok (.getfield 13, 3) := by decide +kernel
theorem dX3_has_14 : decode cX3_has 14 = .ok (.arraylength, 1) := by decide +kernel
theorem dX3_has_15 : decode cX3_has 15 = .ok (.if_icmp .ge 26, 3) := by decide +kernel
theorem dX3_has_18 : decode cX3_has 18 = .ok (.aload_n 0, 1) := by decide +kernel
theorem dX3_has_19 : decode cX3_has 19 = .ok (.getfield 13, 3) := by decide +kernel
theorem dX3_has_22 : decode cX3_has 22 = .ok (.iload_n 2, 1) := by decide +kernel
theorem dX3_has_23 : decode cX3_has 23 = .ok (.laload, 1) := by decide +kernel
theorem dX3_has_24 : decode cX3_has 24 = .ok (.iload_n 1, 1) := by decide +kernel
theorem dX3_has_25 : decode cX3_has 25 = .ok (.bipush 63, 2) := by decide +kernel
theorem dX3_has_27 : decode cX3_has 27 = .ok (.iand, 1) := by decide +kernel
theorem dX3_has_28 : decode cX3_has 28 = .ok (.invokestatic 25, 3) := by decide +kernel
theorem dX3_has_31 : decode cX3_has 31 = .ok (.land, 1) := by decide +kernel
theorem dX3_has_32 : decode cX3_has 32 = .ok (.lconst 0, 1) := by decide +kernel
theorem dX3_has_33 : decode cX3_has 33 = .ok (.lcmp, 1) := by decide +kernel
theorem dX3_has_34 : decode cX3_has 34 = .ok (.ifCond .eq 7, 3) := by decide +kernel
theorem dX3_has_37 : decode cX3_has 37 = .ok (.iconst 1, 1) := by decide +kernel
theorem dX3_has_38 : decode cX3_has 38 = .ok (.goto 4, 3) := by decide +kernel
theorem dX3_has_41 : decode cX3_has 41 = .ok (.iconst 0, 1) := by decide +kernel
theorem dX3_has_42 : decode cX3_has 42 = .ok (.ireturn, 1) := by decide +kernel
set_option maxRecDepth 20000 in
theorem ggX3_mark_X5_bit : GoodIn wsX3_mark wsX5_bit := goodIn_r _ [4] (by decide +kernel) (by decide +kernel)
set_option maxRecDepth 20000 in
theorem gX3_mark_X5_bit_n25 : GoodIn wsX3_mark (wsX5_bit) := ggX3_mark_X5_bit
theorem dX3_mark_0 : decode cX3_mark 0 = .ok (.iload_n 1, 1) := by decide +kernel
theorem dX3_mark_1 : decode cX3_mark 1 = .ok (.bipush 6, 2) := by decide +kernel
theorem dX3_mark_3 : decode cX3_mark 3 = .ok (.ishr, 1) := by decide +kernel
theorem dX3_mark_4 : decode cX3_mark 4 = .ok (.istore_n 2, 1) := by decide +kernel
theorem dX3_mark_5 : decode cX3_mark 5 = .ok (.iload_n 2, 1) := by decide +kernel
theorem dX3_mark_6 : decode cX3_mark 6 = .ok (.ifCond .lt 28, 3) := by decide +kernel
theorem dX3_mark_9 : decode cX3_mark 9 = .ok (.iload_n 2, 1) := by decide +kernel
theorem dX3_mark_10 : decode cX3_mark 10 = .ok (.aload_n 0, 1) := by decide +kernel
theorem dX3_mark_11 : decode cX3_mark 11 = .ok (.getfield 13, 3) := by decide +kernel
theorem dX3_mark_14 : decode cX3_mark 14 = .ok (.arraylength, 1) := by decide +kernel
theorem dX3_mark_15 : decode cX3_mark 15 = .ok (.if_icmp .ge 19, 3) := by decide +kernel
theorem dX3_mark_18 : decode cX3_mark 18 = .ok (.aload_n 0, 1) := by decide +kernel
theorem dX3_mark_19 : decode cX3_mark 19 = .ok (.getfield 13, 3) := by decide +kernel
theorem dX3_mark_22 : decode cX3_mark 22 = .ok (.iload_n 2, 1) := by decide +kernel
theorem dX3_mark_23 : decode cX3_mark 23 = .ok (.dup2, 1) := by decide +kernel
theorem dX3_mark_24 : decode cX3_mark 24 = .ok (.laload, 1) := by decide +kernel
theorem dX3_mark_25 : decode cX3_mark 25 = .ok (.iload_n 1, 1) := by decide +kernel
theorem dX3_mark_26 : decode cX3_mark 26 = .ok (.bipush 63, 2) := by decide +kernel
theorem dX3_mark_28 : decode cX3_mark 28 = .ok (.iand, 1) := by decide +kernel
theorem dX3_mark_29 : decode cX3_mark 29 = .ok (.invokestatic 25, 3) := by decide +kernel
theorem dX3_mark_32 : decode cX3_mark 32 = .ok (.lor, 1) := by decide +kernel
theorem dX3_mark_33 : decode cX3_mark 33 = .ok (.lastore, 1) := by decide +kernel
theorem dX3_mark_34 : decode cX3_mark 34 = .ok (.return_, 1) := by decide +kernel
theorem dX4_init_0 : decode cX4_init 0 = .ok (.aload_n 0, 1) := by decide +kernel
theorem dX4_init_1 : decode cX4_init 1 = .ok (.invokespecial 3, 3) := by decide +kernel
theorem dX4_init_4 : decode cX4_init 4 = .ok (.aload_n 0, 1) := by decide +kernel
theorem dX4_init_5 : decode cX4_init 5 = .ok (.bipush 36, 2) := by decide +kernel
theorem dX4_init_7 : decode cX4_init 7 = .ok (.newarray .long, 2) := by decide +kernel
theorem dX4_init_9 : decode cX4_init 9 = .ok (.putfield 9, 3) := by decide +kernel
theorem dX4_init_12 : decode cX4_init 12 = .ok (.aload_n 0, 1) := by decide +kernel
theorem dX4_init_13 : decode cX4_init 13 = .ok (.bipush 36, 2) := by decide +kernel
theorem dX4_init_15 : decode cX4_init 15 = .ok (.newarray .int, 2) := by decide +kernel
theorem dX4_init_17 : decode cX4_init 17 = .ok (.putfield 15, 3) := by decide +kernel
theorem dX4_init_20 : decode cX4_init 20 = .ok (.return_, 1) := by decide +kernel
theorem dX4_forget_0 : decode cX4_forget 0 = .ok (.aload_n 0, 1) := by decide +kernel
theorem dX4_forget_1 : decode cX4_forget 1 = .ok (.iconst 0, 1) := by decide +kernel
theorem dX4_forget_2 : decode cX4_forget 2 = .ok (.putfield 19, 3) := by decide +kernel
theorem dX4_forget_5 : decode cX4_forget 5 = .ok (.return_, 1) := by decide +kernel
theorem dX4_length_0 : decode cX4_length 0 = .ok (.aload_n 0, 1) := by decide +kernel
theorem dX4_length_1 : decode cX4_length 1 = .ok (.getfield 19, 3) := by decide +kernel
theorem dX4_length_4 : decode cX4_length 4 = .ok (.ireturn, 1) := by decide +kernel
theorem dX4_field_0 : decode cX4_field 0 = .ok (.iload_n 1, 1) := by decide +kernel
theorem dX4_field_1 : decode cX4_field 1 = .ok (.ifCond .lt 29, 3) := by decide +kernel
theorem dX4_field_4 : decode cX4_field 4 = .ok (.iload_n 1, 1) := by decide +kernel
theorem dX4_field_5 : decode cX4_field 5 = .ok (.aload_n 0, 1) := by decide +kernel
theorem dX4_field_6 : decode cX4_field 6 = .ok (.getfield 19, 3) := by decide +kernel
theorem dX4_field_9 : decode cX4_field 9 = .ok (.if_icmp .ge 21, 3) := by decide +kernel
theorem dX4_field_12 : decode cX4_field 12 = .ok (.iload_n 1, 1) := by decide +kernel
theorem dX4_field_13 : decode cX4_field 13 = .ok (.aload_n 0, 1) := by decide +kernel
theorem dX4_field_14 : decode cX4_field 14 = .ok (.getfield 15, 3) := by decide +kernel
theorem dX4_field_17 : decode cX4_field 17 = .ok (.arraylength, 1) := by decide +kernel
theorem dX4_field_18 : decode cX4_field 18 = .ok (.if_icmp .ge 12, 3) := by decide +kernel
theorem dX4_field_21 : decode cX4_field 21 = .ok (.aload_n 0, 1) := by decide +kernel
theorem dX4_field_22 : decode cX4_field 22 = .ok (.getfield 15, 3) := by decide +kernel
theorem dX4_field_25 : decode cX4_field 25 = .ok (.iload_n 1, 1) := by decide +kernel
theorem dX4_field_26 : decode cX4_field 26 = .ok (.iaload, 1) := by decide +kernel
theorem dX4_field_27 : decode cX4_field 27 = .ok (.goto 4, 3) := by decide +kernel
theorem dX4_field_30 : decode cX4_field 30 = .ok (.iconst (-1), 1) := by decide +kernel
theorem dX4_field_31 : decode cX4_field 31 = .ok (.ireturn, 1) := by decide +kernel
set_option maxRecDepth 20000 in
theorem ggX4_find_X4_forget : GoodIn wsX4_find wsX4_forget := goodIn_r _ [7, 8, 36, 37, 38] (by decide +kernel) (by decide +kernel)
set_option maxRecDepth 20000 in
theorem gX4_find_X4_forget : GoodIn wsX4_find (wsV RX4 23 RX4 yX4_forget wsX4_forget) := goodIn_app (goodIn_of _ (by decide +kernel)) ggX4_find_X4_forget
set_option maxRecDepth 20000 in
theorem ggX4_find_X4_trace : GoodIn wsX4_find wsX4_trace := goodIn_r _ [12, 1, 8, 13, 14, 15, 16, 17, 18, 19, 20, 21, 22, 23, 24, 25, 26, 27, 28, 29, 30, 31, 32, 33, 34, 35, 36, 37, 38, 39, 40, 41, 42, 43, 44, 45] (by decide +kernel) (by decide +kernel)
set_option maxRecDepth 20000 in
theorem gX4_find_X4_trace : GoodIn wsX4_find (wsV RX4 26 RX4 yX4_trace wsX4_trace) := goodIn_app (goodIn_of _ (by decide +kernel)) ggX4_find_X4_trace
set_option maxRecDepth 20000 in
theorem ggX4_find_X2_beside : GoodIn wsX4_find wsX2_beside := goodIn_r _ [30, 31, 32, 33, 34, 35, 39, 40, 41, 42, 43, 44, 45] (by decide +kernel) (by decide +kernel)
set_option maxRecDepth 20000 in
theorem gX4_find_X2_beside : GoodIn wsX4_find (wsV RX4 30 RX2 yX2_beside wsX2_beside) := goodIn_app (goodIn_of _ (by decide +kernel)) ggX4_find_X2_beside
theorem dX4_find_0 : decode cX4_find 0 = .ok (.aload_n 0, 1) := by decide +kernel
theorem dX4_find_1 : decode cX4_find 1 = .ok (.invokevirtual 23, 3) := by decide +kernel
theorem dX4_find_4 : decode cX4_find 4 = .ok (.lload_n 2, 1) := by decide +kernel
theorem dX4_find_5 : decode cX4_find 5 = .ok (.lload 6, 2) := by decide +kernel
theorem dX4_find_7 : decode cX4_find 7 = .ok (.land, 1) := by decide +kernel
theorem dX4_find_8 : decode cX4_find 8 = .ok (.lstore 8, 2) := by decide +kernel
theorem dX4_find_10 : decode cX4_find 10 = .ok (.lload 8, 2) := by decide +kernel
theorem dX4_find_12 : decode cX4_find 12 = .ok (.lstore 10, 2) := by decide +kernel
theorem dX4_find_14 : decode cX4_find 14 = .ok (.iconst 0, 1) := by decide +kernel
theorem dX4_find_15 : decode cX4_find 15 = .ok (.istore 12, 2) := by decide +kernel
theorem dX4_find_17 : decode cX4_find 17 = .ok (.iload 12, 2) := by decide +kernel
theorem dX4_find_19 : decode cX4_find 19 = .ok (.aload_n 0, 1) := by decide +kernel
theorem dX4_find_20 : decode cX4_find 20 = .ok (.getfield 9, 3) := by decide +kernel
theorem dX4_find_23 : decode cX4_find 23 = .ok (.arraylength, 1) := by decide +kernel
theorem dX4_find_24 : decode cX4_find 24 = .ok (.if_icmp .ge 69, 3) := by decide +kernel
theorem dX4_find_27 : decode cX4_find 27 = .ok (.lload 8, 2) := by decide +kernel
theorem dX4_find_29 : decode cX4_find 29 = .ok (.lconst 0, 1) := by decide +kernel
theorem dX4_find_30 : decode cX4_find 30 = .ok (.lcmp, 1) := by decide +kernel
theorem dX4_find_31 : decode cX4_find 31 = .ok (.ifCond .eq 62, 3) := by decide +kernel
theorem dX4_find_34 : decode cX4_find 34 = .ok (.aload_n 0, 1) := by decide +kernel
theorem dX4_find_35 : decode cX4_find 35 = .ok (.getfield 9, 3) := by decide +kernel
theorem dX4_find_38 : decode cX4_find 38 = .ok (.iload 12, 2) := by decide +kernel
theorem dX4_find_40 : decode cX4_find 40 = .ok (.lload 8, 2) := by decide +kernel
theorem dX4_find_42 : decode cX4_find 42 = .ok (.lastore, 1) := by decide +kernel
theorem dX4_find_43 : decode cX4_find 43 = .ok (.lload 8, 2) := by decide +kernel
theorem dX4_find_45 : decode cX4_find 45 = .ok (.lload 4, 2) := by decide +kernel
theorem dX4_find_47 : decode cX4_find 47 = .ok (.land, 1) := by decide +kernel
theorem dX4_find_48 : decode cX4_find 48 = .ok (.lconst 0, 1) := by decide +kernel
theorem dX4_find_49 : decode cX4_find 49 = .ok (.lcmp, 1) := by decide +kernel
theorem dX4_find_50 : decode cX4_find 50 = .ok (.ifCond .eq 13, 3) := by decide +kernel
theorem dX4_find_53 : decode cX4_find 53 = .ok (.aload_n 0, 1) := by decide +kernel
theorem dX4_find_54 : decode cX4_find 54 = .ok (.aload_n 1, 1) := by decide +kernel
theorem dX4_find_55 : decode cX4_find 55 = .ok (.lload 4, 2) := by decide +kernel
theorem dX4_find_57 : decode cX4_find 57 = .ok (.iload 12, 2) := by decide +kernel
theorem dX4_find_59 : decode cX4_find 59 = .ok (.invokevirtual 26, 3) := by decide +kernel
theorem dX4_find_62 : decode cX4_find 62 = .ok (.return_, 1) := by decide +kernel
theorem dX4_find_63 : decode cX4_find 63 = .ok (.aload_n 1, 1) := by decide +kernel
theorem dX4_find_64 : decode cX4_find 64 = .ok (.lload 8, 2) := by decide +kernel
theorem dX4_find_66 : decode cX4_find 66 = .ok (.invokevirtual 30, 3) := by decide +kernel
theorem dX4_find_69 : decode cX4_find 69 = .ok (.lload_n 2, 1) := by decide +kernel
theorem dX4_find_70 : decode cX4_find 70 = .ok (.land, 1) := by decide +kernel
theorem dX4_find_71 : decode cX4_find 71 = .ok (.lload 10, 2) := by decide +kernel
theorem dX4_find_73 : decode cX4_find 73 = .ok (.ldc2_w 36, 3) := by decide +kernel
theorem dX4_find_76 : decode cX4_find 76 = .ok (.lxor, 1) := by decide +kernel
theorem dX4_find_77 : decode cX4_find 77 = .ok (.land, 1) := by decide +kernel
theorem dX4_find_78 : decode cX4_find 78 = .ok (.lstore 8, 2) := by decide +kernel
theorem dX4_find_80 : decode cX4_find 80 = .ok (.lload 10, 2) := by decide +kernel
theorem dX4_find_82 : decode cX4_find 82 = .ok (.lload 8, 2) := by decide +kernel
theorem dX4_find_84 : decode cX4_find 84 = .ok (.lor, 1) := by decide +kernel
theorem dX4_find_85 : decode cX4_find 85 = .ok (.lstore 10, 2) := by decide +kernel
theorem dX4_find_87 : decode cX4_find 87 = .ok (.iinc 12 1, 3) := by decide +kernel
theorem dX4_find_90 : decode cX4_find 90 = .ok (.goto (-73), 3) := by decide +kernel
theorem dX4_find_93 : decode cX4_find 93 = .ok (.return_, 1) := by decide +kernel
set_option maxRecDepth 20000 in
theorem ggX4_trace_X5_lowest : GoodIn wsX4_trace wsX5_lowest := goodIn_r _ [6, 7, 8, 9, 10, 11, 12, 13] (by decide +kernel) (by decide +kernel)
set_option maxRecDepth 20000 in
theorem gX4_trace_X5_lowest_n38 : GoodIn wsX4_trace (wsX5_lowest) := ggX4_trace_X5_lowest
set_option maxRecDepth 20000 in
theorem ggX4_trace_X5_bit : GoodIn wsX4_trace wsX5_bit := goodIn_r _ [15] (by decide +kernel) (by decide +kernel)
set_option maxRecDepth 20000 in
theorem gX4_trace_X5_bit_n42 : GoodIn wsX4_trace (wsX5_bit) := ggX4_trace_X5_bit
set_option maxRecDepth 20000 in
theorem ggX4_trace_X2_beside : GoodIn wsX4_trace wsX2_beside := goodIn_r _ [20, 21, 22, 23, 24, 25, 29, 30, 31, 32, 33, 34, 35] (by decide +kernel) (by decide +kernel)
set_option maxRecDepth 20000 in
theorem gX4_trace_X2_beside : GoodIn wsX4_trace (wsV RX4 30 RX2 yX2_beside wsX2_beside) := goodIn_app (goodIn_of _ (by decide +kernel)) ggX4_trace_X2_beside
theorem dX4_trace_0 : decode cX4_trace 0 = .ok (.lload_n 2, 1) := by decide +kernel
theorem dX4_trace_1 : decode cX4_trace 1 = .ok (.lstore 5, 2) := by decide +kernel
theorem dX4_trace_3 : decode cX4_trace 3 = .ok (.iload 4, 2) := by decide +kernel
theorem dX4_trace_5 : decode cX4_trace 5 = .ok (.istore 7, 2) := by decide +kernel
theorem dX4_trace_7 : decode cX4_trace 7 = .ok (.iload 7, 2) := by decide +kernel
theorem dX4_trace_9 : decode cX4_trace 9 = .ok (.ifCond .lt 85, 3) := by decide +kernel
theorem dX4_trace_12 : decode cX4_trace 12 = .ok (.iload 7, 2) := by decide +kernel
theorem dX4_trace_14 : decode cX4_trace 14 = .ok (.aload_n 0, 1) := by decide +kernel
theorem dX4_trace_15 : decode cX4_trace 15 = .ok (.getfield 9, 3) := by decide +kernel
theorem dX4_trace_18 : decode cX4_trace 18 = .ok (.arraylength, 1) := by decide +kernel
theorem dX4_trace_19 : decode cX4_trace 19 = .ok (.if_icmp .ge 75, 3) := by decide +kernel
theorem dX4_trace_22 : decode cX4_trace 22 = .ok (.aload_n 0, 1) := by decide +kernel
theorem dX4_trace_23 : decode cX4_trace 23 = .ok (.getfield 9, 3) := by decide +kernel
theorem dX4_trace_26 : decode cX4_trace 26 = .ok (.iload 7, 2) := by decide +kernel
theorem dX4_trace_28 : decode cX4_trace 28 = .ok (.laload, 1) := by decide +kernel
theorem dX4_trace_29 : decode cX4_trace 29 = .ok (.lload 5, 2) := by decide +kernel
theorem dX4_trace_31 : decode cX4_trace 31 = .ok (.land, 1) := by decide +kernel
theorem dX4_trace_32 : decode cX4_trace 32 = .ok (.invokestatic 38, 3) := by decide +kernel
theorem dX4_trace_35 : decode cX4_trace 35 = .ok (.istore 8, 2) := by decide +kernel
theorem dX4_trace_37 : decode cX4_trace 37 = .ok (.aload_n 0, 1) := by decide +kernel
theorem dX4_trace_38 : decode cX4_trace 38 = .ok (.getfield 19, 3) := by decide +kernel
theorem dX4_trace_41 : decode cX4_trace 41 = .ok (.ifCond .lt 36, 3) := by decide +kernel
theorem dX4_trace_44 : decode cX4_trace 44 = .ok (.aload_n 0, 1) := by decide +kernel
theorem dX4_trace_45 : decode cX4_trace 45 = .ok (.getfield 19, 3) := by decide +kernel
theorem dX4_trace_48 : decode cX4_trace 48 = .ok (.aload_n 0, 1) := by decide +kernel
theorem dX4_trace_49 : decode cX4_trace 49 = .ok (.getfield 15, 3) := by decide +kernel
theorem dX4_trace_52 : decode cX4_trace 52 = .ok (.arraylength, 1) := by decide +kernel
theorem dX4_trace_53 : decode cX4_trace 53 = .ok (.if_icmp .ge 24, 3) := by decide +kernel
theorem dX4_trace_56 : decode cX4_trace 56 = .ok (.aload_n 0, 1) := by decide +kernel
theorem dX4_trace_57 : decode cX4_trace 57 = .ok (.getfield 15, 3) := by decide +kernel
theorem dX4_trace_60 : decode cX4_trace 60 = .ok (.aload_n 0, 1) := by decide +kernel
theorem dX4_trace_61 : decode cX4_trace 61 = .ok (.getfield 19, 3) := by decide +kernel
theorem dX4_trace_64 : decode cX4_trace 64 = .ok (.iload 8, 2) := by decide +kernel
theorem dX4_trace_66 : decode cX4_trace 66 = .ok (.iastore, 1) := by decide +kernel
theorem dX4_trace_67 : decode cX4_trace 67 = .ok (.aload_n 0, 1) := by decide +kernel
theorem dX4_trace_68 : decode cX4_trace 68 = .ok (.dup, 1) := by decide +kernel
theorem dX4_trace_69 : decode cX4_trace 69 = .ok (.getfield 19, 3) := by decide +kernel
theorem dX4_trace_72 : decode cX4_trace 72 = .ok (.iconst 1, 1) := by decide +kernel
theorem dX4_trace_73 : decode cX4_trace 73 = .ok (.iadd, 1) := by decide +kernel
theorem dX4_trace_74 : decode cX4_trace 74 = .ok (.putfield 19, 3) := by decide +kernel
theorem dX4_trace_77 : decode cX4_trace 77 = .ok (.aload_n 1, 1) := by decide +kernel
theorem dX4_trace_78 : decode cX4_trace 78 = .ok (.iload 8, 2) := by decide +kernel
theorem dX4_trace_80 : decode cX4_trace 80 = .ok (.invokestatic 42, 3) := by decide +kernel
theorem dX4_trace_83 : decode cX4_trace 83 = .ok (.invokevirtual 30, 3) := by decide +kernel
theorem dX4_trace_86 : decode cX4_trace 86 = .ok (.lstore 5, 2) := by decide +kernel
theorem dX4_trace_88 : decode cX4_trace 88 = .ok (.iinc 7 (-1), 3) := by decide +kernel
theorem dX4_trace_91 : decode cX4_trace 91 = .ok (.goto (-84), 3) := by decide +kernel
theorem dX4_trace_94 : decode cX4_trace 94 = .ok (.return_, 1) := by decide +kernel
set_option maxRecDepth 20000 in
theorem ggX5_init_X2_init : GoodIn wsX5_init wsX2_init := goodIn_r _ [22, 23, 2, 3] (by decide +kernel) (by decide +kernel)
set_option maxRecDepth 20000 in
theorem gX5_init_X2_init_n11 : GoodIn wsX5_init (wsX2_init) := ggX5_init_X2_init
set_option maxRecDepth 20000 in
theorem ggX5_init_X0_init : GoodIn wsX5_init wsX0_init := goodIn_r _ [25, 26, 2, 3, 27, 28, 98, 99, 100] (by decide +kernel) (by decide +kernel)
set_option maxRecDepth 20000 in
theorem gX5_init_X0_init_n18 : GoodIn wsX5_init (wsX0_init) := ggX5_init_X0_init
set_option maxRecDepth 20000 in
theorem ggX5_init_X4_init : GoodIn wsX5_init wsX4_init := goodIn_r _ [30, 31, 2, 3, 32, 33, 27, 34, 101, 102, 103] (by decide +kernel) (by decide +kernel)
set_option maxRecDepth 20000 in
theorem gX5_init_X4_init_n25 : GoodIn wsX5_init (wsX4_init) := ggX5_init_X4_init
set_option maxRecDepth 20000 in
theorem ggX5_init_X1_init : GoodIn wsX5_init wsX1_init := goodIn_r _ [36, 37, 2, 3, 38, 39, 40, 41, 42, 43, 44, 45, 46, 47, 48, 49, 50, 51, 52, 32, 53, 119, 104, 105, 106, 107, 108, 109, 110, 111, 112, 113, 114, 115, 116, 117, 118] (by decide +kernel) (by decide +kernel)
set_option maxRecDepth 20000 in
theorem gX5_init_X1_init_n32 : GoodIn wsX5_init (wsX1_init) := ggX5_init_X1_init
set_option maxRecDepth 20000 in
theorem ggX5_init_X5_makeEmpty : GoodIn wsX5_init wsX5_makeEmpty := goodIn_r _ [58, 7, 59, 60, 61, 62, 11, 63, 64, 65, 6, 66, 67, 68, 69, 70, 71, 72, 73, 74, 57, 75, 76, 77, 78, 10, 79, 80, 81, 89, 90, 91, 92, 93, 94, 95, 96, 97, 82, 83, 84, 85, 86, 87, 88, 98, 99, 100] (by decide +kernel) (by decide +kernel)
set_option maxRecDepth 20000 in
theorem gX5_init_X5_makeEmpty : GoodIn wsX5_init (wsV RX5 40 RX5 yX5_makeEmpty wsX5_makeEmpty) := goodIn_app (goodIn_of _ (by decide +kernel)) ggX5_init_X5_makeEmpty
theorem dX5_init_0 : decode cX5_init 0 = .ok (.aload_n 0, 1) := by decide +kernel
theorem dX5_init_1 : decode cX5_init 1 = .ok (.invokespecial 3, 3) := by decide +kernel
theorem dX5_init_4 : decode cX5_init 4 = .ok (.aload_n 0, 1) := by decide +kernel
theorem dX5_init_5 : decode cX5_init 5 = .ok (.new 9, 3) := by decide +kernel
theorem dX5_init_8 : decode cX5_init 8 = .ok (.dup, 1) := by decide +kernel
theorem dX5_init_9 : decode cX5_init 9 = .ok (.invokespecial 11, 3) := by decide +kernel
theorem dX5_init_12 : decode cX5_init 12 = .ok (.putfield 12, 3) := by decide +kernel
theorem dX5_init_15 : decode cX5_init 15 = .ok (.aload_n 0, 1) := by decide +kernel
theorem dX5_init_16 : decode cX5_init 16 = .ok (.new 16, 3) := by decide +kernel
theorem dX5_init_19 : decode cX5_init 19 = .ok (.dup, 1) := by decide +kernel
theorem dX5_init_20 : decode cX5_init 20 = .ok (.invokespecial 18, 3) := by decide +kernel
theorem dX5_init_23 : decode cX5_init 23 = .ok (.putfield 19, 3) := by decide +kernel
theorem dX5_init_26 : decode cX5_init 26 = .ok (.aload_n 0, 1) := by decide +kernel
theorem dX5_init_27 : decode cX5_init 27 = .ok (.new 23, 3) := by decide +kernel
theorem dX5_init_30 : decode cX5_init 30 = .ok (.dup, 1) := by decide +kernel
theorem dX5_init_31 : decode cX5_init 31 = .ok (.invokespecial 25, 3) := by decide +kernel
theorem dX5_init_34 : decode cX5_init 34 = .ok (.putfield 26, 3) := by decide +kernel
theorem dX5_init_37 : decode cX5_init 37 = .ok (.aload_n 0, 1) := by decide +kernel
theorem dX5_init_38 : decode cX5_init 38 = .ok (.new 30, 3) := by decide +kernel
theorem dX5_init_41 : decode cX5_init 41 = .ok (.dup, 1) := by decide +kernel
theorem dX5_init_42 : decode cX5_init 42 = .ok (.invokespecial 32, 3) := by decide +kernel
theorem dX5_init_45 : decode cX5_init 45 = .ok (.putfield 33, 3) := by decide +kernel
theorem dX5_init_48 : decode cX5_init 48 = .ok (.aload_n 0, 1) := by decide +kernel
theorem dX5_init_49 : decode cX5_init 49 = .ok (.new 30, 3) := by decide +kernel
theorem dX5_init_52 : decode cX5_init 52 = .ok (.dup, 1) := by decide +kernel
theorem dX5_init_53 : decode cX5_init 53 = .ok (.invokespecial 32, 3) := by decide +kernel
theorem dX5_init_56 : decode cX5_init 56 = .ok (.putfield 37, 3) := by decide +kernel
theorem dX5_init_59 : decode cX5_init 59 = .ok (.aload_n 0, 1) := by decide +kernel
theorem dX5_init_60 : decode cX5_init 60 = .ok (.iconst 3, 1) := by decide +kernel
theorem dX5_init_61 : decode cX5_init 61 = .ok (.iconst 3, 1) := by decide +kernel
theorem dX5_init_62 : decode cX5_init 62 = .ok (.invokevirtual 40, 3) := by decide +kernel
theorem dX5_init_65 : decode cX5_init 65 = .ok (.return_, 1) := by decide +kernel
set_option maxRecDepth 20000 in
theorem ggX5_board_X5_isSide : GoodIn wsX5_board wsX5_isSide := goodIn_r _ [4] (by decide +kernel) (by decide +kernel)
set_option maxRecDepth 20000 in
theorem gX5_board_X5_isSide : GoodIn wsX5_board (va_wsS RX5 44 yX5_isSide wsX5_isSide) := goodIn_app (goodIn_of _ (by decide +kernel)) ggX5_board_X5_isSide
set_option maxRecDepth 20000 in
theorem ggX5_board_X5_makeEmpty : GoodIn wsX5_board wsX5_makeEmpty := goodIn_r _ [8, 9, 10, 11, 12, 13, 14, 15, 16, 17, 18, 19, 20, 21, 22, 23, 24, 25, 26, 27, 3, 28, 29, 30, 31, 32, 33, 34, 35, 36, 37, 38, 39, 40, 41, 42, 43, 44, 45, 46, 47, 48, 49, 50, 51, 52, 53, 54] (by decide +kernel) (by decide +kernel)
set_option maxRecDepth 20000 in
theorem gX5_board_X5_makeEmpty : GoodIn wsX5_board (wsV RX5 40 RX5 yX5_makeEmpty wsX5_makeEmpty) := goodIn_app (goodIn_of _ (by decide +kernel)) ggX5_board_X5_makeEmpty
theorem dX5_board_0 : decode cX5_board 0 = .ok (.iload_n 1, 1) := by decide +kernel
theorem dX5_board_1 : decode cX5_board 1 = .ok (.invokestatic 44, 3) := by decide +kernel
theorem dX5_board_4 : decode cX5_board 4 = .ok (.ifCond .eq 10, 3) := by decide +kernel
theorem dX5_board_7 : decode cX5_board 7 = .ok (.iload_n 2, 1) := by decide +kernel
theorem dX5_board_8 : decode cX5_board 8 = .ok (.invokestatic 44, 3) := by decide +kernel
theorem dX5_board_11 : decode cX5_board 11 = .ok (.ifCond .ne 5, 3) := by decide +kernel
theorem dX5_board_14 : decode cX5_board 14 = .ok (.iconst 0, 1) := by decide +kernel
theorem dX5_board_15 : decode cX5_board 15 = .ok (.ireturn, 1) := by decide +kernel
theorem dX5_board_16 : decode cX5_board 16 = .ok (.aload_n 0, 1) := by decide +kernel
theorem dX5_board_17 : decode cX5_board 17 = .ok (.iload_n 1, 1) := by decide +kernel
theorem dX5_board_18 : decode cX5_board 18 = .ok (.iload_n 2, 1) := by decide +kernel
theorem dX5_board_19 : decode cX5_board 19 = .ok (.invokevirtual 40, 3) := by decide +kernel
theorem dX5_board_22 : decode cX5_board 22 = .ok (.iconst 1, 1) := by decide +kernel
theorem dX5_board_23 : decode cX5_board 23 = .ok (.ireturn, 1) := by decide +kernel
set_option maxRecDepth 20000 in
theorem ggX5_set_X5_isColour : GoodIn wsX5_set wsX5_isColour := goodIn_r _ [8] (by decide +kernel) (by decide +kernel)
set_option maxRecDepth 20000 in
theorem gX5_set_X5_isColour : GoodIn wsX5_set (va_wsS RX5 48 yX5_isColour wsX5_isColour) := goodIn_app (goodIn_of _ (by decide +kernel)) ggX5_set_X5_isColour
set_option maxRecDepth 20000 in
theorem ggX5_set_X2_has : GoodIn wsX5_set wsX2_has := goodIn_r _ [13, 14, 15, 42, 43, 44, 45, 46, 47, 48] (by decide +kernel) (by decide +kernel)
set_option maxRecDepth 20000 in
theorem gX5_set_X2_has : GoodIn wsX5_set (wsV RX5 51 RX2 yX2_has wsX2_has) := goodIn_app (goodIn_of _ (by decide +kernel)) ggX5_set_X2_has
set_option maxRecDepth 20000 in
theorem ggX5_set_X5_put : GoodIn wsX5_set wsX5_put := goodIn_r _ [19, 20, 21, 22, 23, 24, 7, 25, 33, 34, 35, 36, 37, 38, 39, 40, 41] (by decide +kernel) (by decide +kernel)
set_option maxRecDepth 20000 in
theorem gX5_set_X5_put : GoodIn wsX5_set (wsV RX5 54 RX5 yX5_put wsX5_put) := goodIn_app (goodIn_of _ (by decide +kernel)) ggX5_set_X5_put
set_option maxRecDepth 20000 in
theorem ggX5_set_X0_forget : GoodIn wsX5_set wsX0_forget := goodIn_r _ [30, 31, 32, 49, 50, 51] (by decide +kernel) (by decide +kernel)
set_option maxRecDepth 20000 in
theorem gX5_set_X0_forget : GoodIn wsX5_set (wsV RX5 65 RX0 yX0_forget wsX0_forget) := goodIn_app (goodIn_of _ (by decide +kernel)) ggX5_set_X0_forget
theorem dX5_set_0 : decode cX5_set 0 = .ok (.iload_n 2, 1) := by decide +kernel
theorem dX5_set_1 : decode cX5_set 1 = .ok (.ifCond .eq 10, 3) := by decide +kernel
theorem dX5_set_4 : decode cX5_set 4 = .ok (.iload_n 2, 1) := by decide +kernel
theorem dX5_set_5 : decode cX5_set 5 = .ok (.invokestatic 48, 3) := by decide +kernel
theorem dX5_set_8 : decode cX5_set 8 = .ok (.ifCond .eq 7, 3) := by decide +kernel
theorem dX5_set_11 : decode cX5_set 11 = .ok (.iconst 1, 1) := by decide +kernel
theorem dX5_set_12 : decode cX5_set 12 = .ok (.goto 4, 3) := by decide +kernel
theorem dX5_set_15 : decode cX5_set 15 = .ok (.iconst 0, 1) := by decide +kernel
theorem dX5_set_16 : decode cX5_set 16 = .ok (.istore 4, 2) := by decide +kernel
theorem dX5_set_18 : decode cX5_set 18 = .ok (.aload_n 0, 1) := by decide +kernel
theorem dX5_set_19 : decode cX5_set 19 = .ok (.getfield 12, 3) := by decide +kernel
theorem dX5_set_22 : decode cX5_set 22 = .ok (.iload_n 1, 1) := by decide +kernel
theorem dX5_set_23 : decode cX5_set 23 = .ok (.invokevirtual 51, 3) := by decide +kernel
theorem dX5_set_26 : decode cX5_set 26 = .ok (.ifCond .eq 15, 3) := by decide +kernel
theorem dX5_set_29 : decode cX5_set 29 = .ok (.iload 4, 2) := by decide +kernel
theorem dX5_set_31 : decode cX5_set 31 = .ok (.ifCond .eq 10, 3) := by decide +kernel
theorem dX5_set_34 : decode cX5_set 34 = .ok (.iload_n 3, 1) := by decide +kernel
theorem dX5_set_35 : decode cX5_set 35 = .ok (.invokestatic 48, 3) := by decide +kernel
theorem dX5_set_38 : decode cX5_set 38 = .ok (.ifCond .ne 5, 3) := by decide +kernel
theorem dX5_set_41 : decode cX5_set 41 = .ok (.iconst 0, 1) := by decide +kernel
theorem dX5_set_42 : decode cX5_set 42 = .ok (.ireturn, 1) := by decide +kernel
theorem dX5_set_43 : decode cX5_set 43 = .ok (.aload_n 0, 1) := by decide +kernel
theorem dX5_set_44 : decode cX5_set 44 = .ok (.iload_n 1, 1) := by decide +kernel
theorem dX5_set_45 : decode cX5_set 45 = .ok (.iload_n 2, 1) := by decide +kernel
theorem dX5_set_46 : decode cX5_set 46 = .ok (.invokevirtual 54, 3) := by decide +kernel
theorem dX5_set_49 : decode cX5_set 49 = .ok (.aload_n 0, 1) := by decide +kernel
theorem dX5_set_50 : decode cX5_set 50 = .ok (.iload_n 3, 1) := by decide +kernel
theorem dX5_set_51 : decode cX5_set 51 = .ok (.putfield 57, 3) := by decide +kernel
theorem dX5_set_54 : decode cX5_set 54 = .ok (.aload_n 0, 1) := by decide +kernel
theorem dX5_set_55 : decode cX5_set 55 = .ok (.iconst 0, 1) := by decide +kernel
theorem dX5_set_56 : decode cX5_set 56 = .ok (.putfield 61, 3) := by decide +kernel
theorem dX5_set_59 : decode cX5_set 59 = .ok (.aload_n 0, 1) := by decide +kernel
theorem dX5_set_60 : decode cX5_set 60 = .ok (.getfield 19, 3) := by decide +kernel
theorem dX5_set_63 : decode cX5_set 63 = .ok (.invokevirtual 65, 3) := by decide +kernel
theorem dX5_set_66 : decode cX5_set 66 = .ok (.iconst 1, 1) := by decide +kernel
theorem dX5_set_67 : decode cX5_set 67 = .ok (.ireturn, 1) := by decide +kernel
set_option maxRecDepth 20000 in
theorem ggX5_lay_X2_has : GoodIn wsX5_lay wsX2_has := goodIn_r _ [7, 8, 9, 88, 89, 90, 91, 92, 93, 94] (by decide +kernel) (by decide +kernel)
set_option maxRecDepth 20000 in
theorem gX5_lay_X2_has : GoodIn wsX5_lay (wsV RX5 51 RX2 yX2_has wsX2_has) := goodIn_app (goodIn_of _ (by decide +kernel)) ggX5_lay_X2_has
set_option maxRecDepth 20000 in
theorem ggX5_lay_X5_stoneAt : GoodIn wsX5_lay wsX5_stoneAt := goodIn_r _ [14, 15, 16, 17, 18, 13, 19, 79, 80, 81, 82, 83, 84, 85, 86, 87] (by decide +kernel) (by decide +kernel)
set_option maxRecDepth 20000 in
theorem gX5_lay_X5_stoneAt : GoodIn wsX5_lay (wsV RX5 68 RX5 yX5_stoneAt wsX5_stoneAt) := goodIn_app (goodIn_of _ (by decide +kernel)) ggX5_lay_X5_stoneAt
set_option maxRecDepth 20000 in
theorem ggX5_lay_X5_whoJoined : GoodIn wsX5_lay wsX5_whoJoined := goodIn_r _ [23, 1, 15, 16, 24, 25, 26, 6, 27, 28, 29, 30, 31, 32, 33, 34, 35, 36, 37, 38, 39, 40, 41, 42, 43, 44, 45, 46, 47, 48, 9, 49, 50, 51, 52, 53, 54, 55, 56, 57, 79, 80, 81, 82, 83, 84, 85, 86, 87, 88, 89, 90, 91, 92, 93, 94] (by decide +kernel) (by decide +kernel)
set_option maxRecDepth 20000 in
theorem gX5_lay_X5_whoJoined : GoodIn wsX5_lay (wsV RX5 72 RX5 yX5_whoJoined wsX5_whoJoined) := goodIn_app (goodIn_of _ (by decide +kernel)) ggX5_lay_X5_whoJoined
set_option maxRecDepth 20000 in
theorem ggX5_lay_X0_add : GoodIn wsX5_lay wsX0_add := goodIn_r _ [62, 63, 64, 65, 95, 96, 97] (by decide +kernel) (by decide +kernel)
set_option maxRecDepth 20000 in
theorem gX5_lay_X0_add : GoodIn wsX5_lay (wsV RX5 76 RX0 yX0_add wsX0_add) := goodIn_app (goodIn_of _ (by decide +kernel)) ggX5_lay_X0_add
set_option maxRecDepth 20000 in
theorem ggX5_lay_X5_layStone : GoodIn wsX5_lay wsX5_layStone := goodIn_r _ [69, 70, 71, 72, 73, 13, 74, 15, 75, 16, 17, 18, 19, 76, 77, 78, 79, 80, 81, 82, 83, 84, 85, 86, 87] (by decide +kernel) (by decide +kernel)
set_option maxRecDepth 20000 in
theorem gX5_lay_X5_layStone : GoodIn wsX5_lay (wsV RX5 79 RX5 yX5_layStone wsX5_layStone) := goodIn_app (goodIn_of _ (by decide +kernel)) ggX5_lay_X5_layStone
theorem dX5_lay_0 : decode cX5_lay 0 = .ok (.aload_n 0, 1) := by decide +kernel
theorem dX5_lay_1 : decode cX5_lay 1 = .ok (.getfield 12, 3) := by decide +kernel
theorem dX5_lay_4 : decode cX5_lay 4 = .ok (.iload_n 1, 1) := by decide +kernel
theorem dX5_lay_5 : decode cX5_lay 5 = .ok (.invokevirtual 51, 3) := by decide +kernel
theorem dX5_lay_8 : decode cX5_lay 8 = .ok (.ifCond .eq 29, 3) := by decide +kernel
theorem dX5_lay_11 : decode cX5_lay 11 = .ok (.aload_n 0, 1) := by decide +kernel
theorem dX5_lay_12 : decode cX5_lay 12 = .ok (.iload_n 1, 1) := by decide +kernel
theorem dX5_lay_13 : decode cX5_lay 13 = .ok (.invokevirtual 68, 3) := by decide +kernel
theorem dX5_lay_16 : decode cX5_lay 16 = .ok (.ifCond .ne 21, 3) := by decide +kernel
theorem dX5_lay_19 : decode cX5_lay 19 = .ok (.aload_n 0, 1) := by decide +kernel
theorem dX5_lay_20 : decode cX5_lay 20 = .ok (.invokevirtual 72, 3) := by decide +kernel
theorem dX5_lay_23 : decode cX5_lay 23 = .ok (.ifCond .ne 14, 3) := by decide +kernel
theorem dX5_lay_26 : decode cX5_lay 26 = .ok (.aload_n 0, 1) := by decide +kernel
theorem dX5_lay_27 : decode cX5_lay 27 = .ok (.getfield 19, 3) := by decide +kernel
theorem dX5_lay_30 : decode cX5_lay 30 = .ok (.iload_n 1, 1) := by decide +kernel
theorem dX5_lay_31 : decode cX5_lay 31 = .ok (.invokevirtual 76, 3) := by decide +kernel
theorem dX5_lay_34 : decode cX5_lay 34 = .ok (.ifCond .ne 5, 3) := by decide +kernel
theorem dX5_lay_37 : decode cX5_lay 37 = .ok (.iconst (-1), 1) := by decide +kernel
theorem dX5_lay_38 : decode cX5_lay 38 = .ok (.ireturn, 1) := by decide +kernel
theorem dX5_lay_39 : decode cX5_lay 39 = .ok (.aload_n 0, 1) := by decide +kernel
theorem dX5_lay_40 : decode cX5_lay 40 = .ok (.iload_n 1, 1) := by decide +kernel
theorem dX5_lay_41 : decode cX5_lay 41 = .ok (.invokevirtual 79, 3) := by decide +kernel
theorem dX5_lay_44 : decode cX5_lay 44 = .ok (.aload_n 0, 1) := by decide +kernel
theorem dX5_lay_45 : decode cX5_lay 45 = .ok (.invokevirtual 72, 3) := by decide +kernel
theorem dX5_lay_48 : decode cX5_lay 48 = .ok (.ifCond .ne 7, 3) := by decide +kernel
theorem dX5_lay_51 : decode cX5_lay 51 = .ok (.iconst 1, 1) := by decide +kernel
theorem dX5_lay_52 : decode cX5_lay 52 = .ok (.goto 4, 3) := by decide +kernel
theorem dX5_lay_55 : decode cX5_lay 55 = .ok (.iconst 2, 1) := by decide +kernel
theorem dX5_lay_56 : decode cX5_lay 56 = .ok (.ireturn, 1) := by decide +kernel
set_option maxRecDepth 20000 in
theorem ggX5_swap_X2_rows : GoodIn wsX5_swap wsX2_rows := goodIn_r _ [8, 9, 88, 89, 90, 91, 92, 93, 94] (by decide +kernel) (by decide +kernel)
set_option maxRecDepth 20000 in
theorem gX5_swap_X2_rows : GoodIn wsX5_swap (wsV RX5 83 RX2 yX2_rows wsX2_rows) := goodIn_app (goodIn_of _ (by decide +kernel)) ggX5_swap_X2_rows
set_option maxRecDepth 20000 in
theorem ggX5_swap_X2_columns : GoodIn wsX5_swap wsX2_columns := goodIn_r _ [13, 14, 88, 89, 90, 91, 92, 93, 94] (by decide +kernel) (by decide +kernel)
set_option maxRecDepth 20000 in
theorem gX5_swap_X2_columns : GoodIn wsX5_swap (wsV RX5 86 RX2 yX2_columns wsX2_columns) := goodIn_app (goodIn_of _ (by decide +kernel)) ggX5_swap_X2_columns
set_option maxRecDepth 20000 in
theorem ggX5_swap_X0_done : GoodIn wsX5_swap wsX0_done := goodIn_r _ [19, 20, 95, 96, 97] (by decide +kernel) (by decide +kernel)
set_option maxRecDepth 20000 in
theorem gX5_swap_X0_done : GoodIn wsX5_swap (wsV RX5 89 RX0 yX0_done wsX0_done) := goodIn_app (goodIn_of _ (by decide +kernel)) ggX5_swap_X0_done
set_option maxRecDepth 20000 in
theorem ggX5_swap_X5_whoJoined : GoodIn wsX5_swap wsX5_whoJoined := goodIn_r _ [25, 2, 26, 27, 28, 29, 30, 7, 31, 32, 33, 34, 35, 36, 37, 38, 39, 40, 41, 42, 43, 44, 45, 46, 47, 48, 49, 50, 51, 52, 14, 53, 54, 55, 56, 57, 58, 59, 60, 61, 79, 80, 81, 82, 83, 84, 85, 86, 87, 88, 89, 90, 91, 92, 93, 94] (by decide +kernel) (by decide +kernel)
set_option maxRecDepth 20000 in
theorem gX5_swap_X5_whoJoined : GoodIn wsX5_swap (wsV RX5 72 RX5 yX5_whoJoined wsX5_whoJoined) := goodIn_app (goodIn_of _ (by decide +kernel)) ggX5_swap_X5_whoJoined
set_option maxRecDepth 20000 in
theorem ggX5_swap_X0_add : GoodIn wsX5_swap wsX0_add := goodIn_r _ [65, 20, 66, 67, 95, 96, 97] (by decide +kernel) (by decide +kernel)
set_option maxRecDepth 20000 in
theorem gX5_swap_X0_add : GoodIn wsX5_swap (wsV RX5 76 RX0 yX0_add wsX0_add) := goodIn_app (goodIn_of _ (by decide +kernel)) ggX5_swap_X0_add
set_option maxRecDepth 20000 in
theorem ggX5_swap_X5_takeOver : GoodIn wsX5_swap wsX5_takeOver := goodIn_r _ [71, 2, 26, 27, 72, 73, 74, 75, 7, 76, 9, 14, 77, 24, 78, 79, 80, 81, 82, 83, 84, 85, 86, 87, 88, 89, 90, 91, 92, 93, 94] (by decide +kernel) (by decide +kernel)
set_option maxRecDepth 20000 in
theorem gX5_swap_X5_takeOver : GoodIn wsX5_swap (wsV RX5 92 RX5 yX5_takeOver wsX5_takeOver) := goodIn_app (goodIn_of _ (by decide +kernel)) ggX5_swap_X5_takeOver
theorem dX5_swap_0 : decode cX5_swap 0 = .ok (.aload_n 0, 1) := by decide +kernel
theorem dX5_swap_1 : decode cX5_swap 1 = .ok (.getfield 61, 3) := by decide +kernel
theorem dX5_swap_4 : decode cX5_swap 4 = .ok (.ifCond .eq 24, 3) := by decide +kernel
theorem dX5_swap_7 : decode cX5_swap 7 = .ok (.aload_n 0, 1) := by decide +kernel
theorem dX5_swap_8 : decode cX5_swap 8 = .ok (.getfield 12, 3) := by decide +kernel
theorem dX5_swap_11 : decode cX5_swap 11 = .ok (.invokevirtual 83, 3) := by decide +kernel
theorem dX5_swap_14 : decode cX5_swap 14 = .ok (.aload_n 0, 1) := by decide +kernel
theorem dX5_swap_15 : decode cX5_swap 15 = .ok (.getfield 12, 3) := by decide +kernel
theorem dX5_swap_18 : decode cX5_swap 18 = .ok (.invokevirtual 86, 3) := by decide +kernel
theorem dX5_swap_21 : decode cX5_swap 21 = .ok (.if_icmp .ne 7, 3) := by decide +kernel
theorem dX5_swap_24 : decode cX5_swap 24 = .ok (.iconst 1, 1) := by decide +kernel
theorem dX5_swap_25 : decode cX5_swap 25 = .ok (.goto 4, 3) := by decide +kernel
theorem dX5_swap_28 : decode cX5_swap 28 = .ok (.iconst 0, 1) := by decide +kernel
theorem dX5_swap_29 : decode cX5_swap 29 = .ok (.istore_n 1, 1) := by decide +kernel
theorem dX5_swap_30 : decode cX5_swap 30 = .ok (.iload_n 1, 1) := by decide +kernel
theorem dX5_swap_31 : decode cX5_swap 31 = .ok (.ifCond .eq 33, 3) := by decide +kernel
theorem dX5_swap_34 : decode cX5_swap 34 = .ok (.aload_n 0, 1) := by decide +kernel
theorem dX5_swap_35 : decode cX5_swap 35 = .ok (.getfield 19, 3) := by decide +kernel
theorem dX5_swap_38 : decode cX5_swap 38 = .ok (.invokevirtual 89, 3) := by decide +kernel
theorem dX5_swap_41 : decode cX5_swap 41 = .ok (.iconst 1, 1) := by decide +kernel
theorem dX5_swap_42 : decode cX5_swap 42 = .ok (.if_icmp .ne 22, 3) := by decide +kernel
theorem dX5_swap_45 : decode cX5_swap 45 = .ok (.aload_n 0, 1) := by decide +kernel
theorem dX5_swap_46 : decode cX5_swap 46 = .ok (.invokevirtual 72, 3) := by decide +kernel
theorem dX5_swap_49 : decode cX5_swap 49 = .ok (.ifCond .ne 15, 3) := by decide +kernel
theorem dX5_swap_52 : decode cX5_swap 52 = .ok (.aload_n 0, 1) := by decide +kernel
theorem dX5_swap_53 : decode cX5_swap 53 = .ok (.getfield 19, 3) := by decide +kernel
theorem dX5_swap_56 : decode cX5_swap 56 = .ok (.bipush (-2), 2) := by decide +kernel
theorem dX5_swap_58 : decode cX5_swap 58 = .ok (.invokevirtual 76, 3) := by decide +kernel
theorem dX5_swap_61 : decode cX5_swap 61 = .ok (.ifCond .ne 5, 3) := by decide +kernel
theorem dX5_swap_64 : decode cX5_swap 64 = .ok (.iconst 0, 1) := by decide +kernel
theorem dX5_swap_65 : decode cX5_swap 65 = .ok (.ireturn, 1) := by decide +kernel
theorem dX5_swap_66 : decode cX5_swap 66 = .ok (.aload_n 0, 1) := by decide +kernel
theorem dX5_swap_67 : decode cX5_swap 67 = .ok (.invokevirtual 92, 3) := by decide +kernel
theorem dX5_swap_70 : decode cX5_swap 70 = .ok (.iconst 1, 1) := by decide +kernel
theorem dX5_swap_71 : decode cX5_swap 71 = .ok (.ireturn, 1) := by decide +kernel
set_option maxRecDepth 20000 in
theorem ggX5_undo_X0_back : GoodIn wsX5_undo wsX0_back := goodIn_r _ [7, 8, 9, 45, 46, 47] (by decide +kernel) (by decide +kernel)
set_option maxRecDepth 20000 in
theorem gX5_undo_X0_back : GoodIn wsX5_undo (wsV RX5 95 RX0 yX0_back wsX0_back) := goodIn_app (goodIn_of _ (by decide +kernel)) ggX5_undo_X0_back
set_option maxRecDepth 20000 in
theorem ggX5_undo_X5_giveBack : GoodIn wsX5_undo wsX5_giveBack := goodIn_r _ [14, 15, 16, 17, 2, 18, 19, 20, 21, 22, 23, 24, 25, 13, 26, 36, 37, 38, 39, 40, 41, 42, 43, 44, 48, 49, 50, 51, 52, 53, 54] (by decide +kernel) (by decide +kernel)
set_option maxRecDepth 20000 in
theorem gX5_undo_X5_giveBack : GoodIn wsX5_undo (wsV RX5 98 RX5 yX5_giveBack wsX5_giveBack) := goodIn_app (goodIn_of _ (by decide +kernel)) ggX5_undo_X5_giveBack
set_option maxRecDepth 20000 in
theorem ggX5_undo_X5_put : GoodIn wsX5_undo wsX5_put := goodIn_r _ [30, 17, 31, 16, 32, 25, 13, 26, 36, 37, 38, 39, 40, 41, 42, 43, 44] (by decide +kernel) (by decide +kernel)
set_option maxRecDepth 20000 in
theorem gX5_undo_X5_put : GoodIn wsX5_undo (wsV RX5 54 RX5 yX5_put wsX5_put) := goodIn_app (goodIn_of _ (by decide +kernel)) ggX5_undo_X5_put
set_option maxRecDepth 20000 in
theorem ggX5_undo_X5_other : GoodIn wsX5_undo wsX5_other := goodIn_r _ [35] (by decide +kernel) (by decide +kernel)
set_option maxRecDepth 20000 in
theorem gX5_undo_X5_other : GoodIn wsX5_undo (va_wsS RX5 101 yX5_other wsX5_other) := goodIn_app (goodIn_of _ (by decide +kernel)) ggX5_undo_X5_other
theorem dX5_undo_0 : decode cX5_undo 0 = .ok (.aload_n 0, 1) := by decide +kernel
theorem dX5_undo_1 : decode cX5_undo 1 = .ok (.getfield 19, 3) := by decide +kernel
theorem dX5_undo_4 : decode cX5_undo 4 = .ok (.invokevirtual 95, 3) := by decide +kernel
theorem dX5_undo_7 : decode cX5_undo 7 = .ok (.istore_n 1, 1) := by decide +kernel
end
section
theorem dX5_undo_8 : decode cX5_undo 8 = .ok (.iload_n 1, 1) := by decide +kernel
theorem dX5_undo_9 : decode cX5_undo 9 = .ok (.iconst (-1), 1) := by decide +kernel
theorem dX5_undo_10 : decode cX5_undo 10 = .ok (.if_icmp .ne 5, 3) := by decide +kernel
theorem dX5_undo_13 : decode cX5_undo 13 = .ok (.iconst 0, 1) := by decide +kernel
theorem dX5_undo_14 : decode cX5_undo 14 = .ok (.ireturn, 1) := by decide +kernel
theorem dX5_undo_15 : decode cX5_undo 15 = .ok (.iload_n 1, 1) := by decide +kernel
theorem dX5_undo_16 : decode cX5_undo 16 = .ok (.bipush (-2), 2) := by decide +kernel
theorem dX5_undo_18 : decode cX5_undo 18 = .ok (.if_icmp .ne 10, 3) := by decide +kernel
theorem dX5_undo_21 : decode cX5_undo 21 = .ok (.aload_n 0, 1) := by decide +kernel
theorem dX5_undo_22 : decode cX5_undo 22 = .ok (.invokevirtual 98, 3) := by decide +kernel
theorem dX5_undo_25 : decode cX5_undo 25 = .ok (.goto 20, 3) := by decide +kernel
theorem dX5_undo_28 : decode cX5_undo 28 = .ok (.aload_n 0, 1) := by decide +kernel
theorem dX5_undo_29 : decode cX5_undo 29 = .ok (.iload_n 1, 1) := by decide +kernel
theorem dX5_undo_30 : decode cX5_undo 30 = .ok (.iconst 0, 1) := by decide +kernel
theorem dX5_undo_31 : decode cX5_undo 31 = .ok (.invokevirtual 54, 3) := by decide +kernel
theorem dX5_undo_34 : decode cX5_undo 34 = .ok (.aload_n 0, 1) := by decide +kernel
theorem dX5_undo_35 : decode cX5_undo 35 = .ok (.aload_n 0, 1) := by decide +kernel
theorem dX5_undo_36 : decode cX5_undo 36 = .ok (.getfield 57, 3) := by decide +kernel
theorem dX5_undo_39 : decode cX5_undo 39 = .ok (.invokestatic 101, 3) := by decide +kernel
theorem dX5_undo_42 : decode cX5_undo 42 = .ok (.putfield 57, 3) := by decide +kernel
theorem dX5_undo_45 : decode cX5_undo 45 = .ok (.iconst 1, 1) := by decide +kernel
theorem dX5_undo_46 : decode cX5_undo 46 = .ok (.ireturn, 1) := by decide +kernel
set_option maxRecDepth 20000 in
theorem ggX5_redo_X0_forth : GoodIn wsX5_redo wsX0_forth := goodIn_r _ [6, 7, 8, 9, 50, 51, 52] (by decide +kernel) (by decide +kernel)
set_option maxRecDepth 20000 in
theorem gX5_redo_X0_forth : GoodIn wsX5_redo (wsV RX5 104 RX0 yX0_forth wsX0_forth) := goodIn_app (goodIn_of _ (by decide +kernel)) ggX5_redo_X0_forth
set_option maxRecDepth 20000 in
theorem ggX5_redo_X5_takeOver : GoodIn wsX5_redo wsX5_takeOver := goodIn_r _ [14, 15, 16, 17, 18, 19, 20, 21, 22, 23, 24, 25, 26, 13, 27, 41, 42, 43, 44, 45, 46, 47, 48, 49, 53, 54, 55, 56, 57, 58, 59] (by decide +kernel) (by decide +kernel)
set_option maxRecDepth 20000 in
theorem gX5_redo_X5_takeOver : GoodIn wsX5_redo (wsV RX5 92 RX5 yX5_takeOver wsX5_takeOver) := goodIn_app (goodIn_of _ (by decide +kernel)) ggX5_redo_X5_takeOver
set_option maxRecDepth 20000 in
theorem ggX5_redo_X5_layStone : GoodIn wsX5_redo wsX5_layStone := goodIn_r _ [31, 18, 32, 33, 34, 13, 35, 16, 36, 17, 37, 26, 27, 38, 39, 40, 41, 42, 43, 44, 45, 46, 47, 48, 49] (by decide +kernel) (by decide +kernel)
set_option maxRecDepth 20000 in
theorem gX5_redo_X5_layStone : GoodIn wsX5_redo (wsV RX5 79 RX5 yX5_layStone wsX5_layStone) := goodIn_app (goodIn_of _ (by decide +kernel)) ggX5_redo_X5_layStone
theorem dX5_redo_0 : decode cX5_redo 0 = .ok (.aload_n 0, 1) := by decide +kernel
theorem dX5_redo_1 : decode cX5_redo 1 = .ok (.getfield 19, 3) := by decide +kernel
theorem dX5_redo_4 : decode cX5_redo 4 = .ok (.invokevirtual 104, 3) := by decide +kernel
theorem dX5_redo_7 : decode cX5_redo 7 = .ok (.istore_n 1, 1) := by decide +kernel
theorem dX5_redo_8 : decode cX5_redo 8 = .ok (.iload_n 1, 1) := by decide +kernel
theorem dX5_redo_9 : decode cX5_redo 9 = .ok (.iconst (-1), 1) := by decide +kernel
theorem dX5_redo_10 : decode cX5_redo 10 = .ok (.if_icmp .ne 5, 3) := by decide +kernel
theorem dX5_redo_13 : decode cX5_redo 13 = .ok (.iconst 0, 1) := by decide +kernel
theorem dX5_redo_14 : decode cX5_redo 14 = .ok (.ireturn, 1) := by decide +kernel
theorem dX5_redo_15 : decode cX5_redo 15 = .ok (.iload_n 1, 1) := by decide +kernel
theorem dX5_redo_16 : decode cX5_redo 16 = .ok (.bipush (-2), 2) := by decide +kernel
theorem dX5_redo_18 : decode cX5_redo 18 = .ok (.if_icmp .ne 10, 3) := by decide +kernel
theorem dX5_redo_21 : decode cX5_redo 21 = .ok (.aload_n 0, 1) := by decide +kernel
theorem dX5_redo_22 : decode cX5_redo 22 = .ok (.invokevirtual 92, 3) := by decide +kernel
theorem dX5_redo_25 : decode cX5_redo 25 = .ok (.goto 8, 3) := by decide +kernel
theorem dX5_redo_28 : decode cX5_redo 28 = .ok (.aload_n 0, 1) := by decide +kernel
theorem dX5_redo_29 : decode cX5_redo 29 = .ok (.iload_n 1, 1) := by decide +kernel
theorem dX5_redo_30 : decode cX5_redo 30 = .ok (.invokevirtual 79, 3) := by decide +kernel
theorem dX5_redo_33 : decode cX5_redo 33 = .ok (.iconst 1, 1) := by decide +kernel
theorem dX5_redo_34 : decode cX5_redo 34 = .ok (.ireturn, 1) := by decide +kernel
set_option maxRecDepth 20000 in
theorem ggX5_change_X2_turned : GoodIn wsX5_change wsX2_turned := goodIn_r _ [11, 12, 13, 14, 15, 16, 53, 54, 55, 56, 57, 58, 59] (by decide +kernel) (by decide +kernel)
set_option maxRecDepth 20000 in
theorem gX5_change_X2_turned : GoodIn wsX5_change (wsV RX5 111 RX2 yX2_turned wsX2_turned) := goodIn_app (goodIn_of _ (by decide +kernel)) ggX5_change_X2_turned
set_option maxRecDepth 20000 in
theorem ggX5_change_X2_columns : GoodIn wsX5_change wsX2_columns := goodIn_r _ [20, 13, 53, 54, 55, 56, 57, 58, 59] (by decide +kernel) (by decide +kernel)
set_option maxRecDepth 20000 in
theorem gX5_change_X2_columns : GoodIn wsX5_change (wsV RX5 86 RX2 yX2_columns wsX2_columns) := goodIn_app (goodIn_of _ (by decide +kernel)) ggX5_change_X2_columns
set_option maxRecDepth 20000 in
theorem ggX5_change_X2_rows : GoodIn wsX5_change wsX2_rows := goodIn_r _ [24, 12, 53, 54, 55, 56, 57, 58, 59] (by decide +kernel) (by decide +kernel)
set_option maxRecDepth 20000 in
theorem gX5_change_X2_rows : GoodIn wsX5_change (wsV RX5 83 RX2 yX2_rows wsX2_rows) := goodIn_app (goodIn_of _ (by decide +kernel)) ggX5_change_X2_rows
set_option maxRecDepth 20000 in
theorem ggX5_change_X2_shape : GoodIn wsX5_change wsX2_shape := goodIn_r _ [28, 12, 13, 29, 30, 31, 32, 33, 14, 15, 16, 53, 54, 55, 56, 57, 58, 59] (by decide +kernel) (by decide +kernel)
set_option maxRecDepth 20000 in
theorem gX5_change_X2_shape : GoodIn wsX5_change (wsV RX5 118 RX2 yX2_shape wsX2_shape) := goodIn_app (goodIn_of _ (by decide +kernel)) ggX5_change_X2_shape
set_option maxRecDepth 20000 in
theorem ggX5_change_X5_other : GoodIn wsX5_change wsX5_other := goodIn_r _ [36] (by decide +kernel) (by decide +kernel)
set_option maxRecDepth 20000 in
theorem gX5_change_X5_other : GoodIn wsX5_change (va_wsS RX5 101 yX5_other wsX5_other) := goodIn_app (goodIn_of _ (by decide +kernel)) ggX5_change_X5_other
set_option maxRecDepth 20000 in
theorem ggX5_change_X0_forget : GoodIn wsX5_change wsX0_forget := goodIn_r _ [41, 42, 43, 60, 61, 62] (by decide +kernel) (by decide +kernel)
set_option maxRecDepth 20000 in
theorem gX5_change_X0_forget : GoodIn wsX5_change (wsV RX5 65 RX0 yX0_forget wsX0_forget) := goodIn_app (goodIn_of _ (by decide +kernel)) ggX5_change_X0_forget
theorem dX5_change_0 : decode cX5_change 0 = .ok (.aload_n 0, 1) := by decide +kernel
theorem dX5_change_1 : decode cX5_change 1 = .ok (.getfield 12, 3) := by decide +kernel
theorem dX5_change_4 : decode cX5_change 4 = .ok (.aload_n 0, 1) := by decide +kernel
theorem dX5_change_5 : decode cX5_change 5 = .ok (.getfield 107, 3) := by decide +kernel
theorem dX5_change_8 : decode cX5_change 8 = .ok (.invokevirtual 111, 3) := by decide +kernel
theorem dX5_change_11 : decode cX5_change 11 = .ok (.lstore_n 1, 1) := by decide +kernel
theorem dX5_change_12 : decode cX5_change 12 = .ok (.aload_n 0, 1) := by decide +kernel
theorem dX5_change_13 : decode cX5_change 13 = .ok (.getfield 12, 3) := by decide +kernel
theorem dX5_change_16 : decode cX5_change 16 = .ok (.aload_n 0, 1) := by decide +kernel
theorem dX5_change_17 : decode cX5_change 17 = .ok (.getfield 115, 3) := by decide +kernel
theorem dX5_change_20 : decode cX5_change 20 = .ok (.invokevirtual 111, 3) := by decide +kernel
theorem dX5_change_23 : decode cX5_change 23 = .ok (.lstore_n 3, 1) := by decide +kernel
theorem dX5_change_24 : decode cX5_change 24 = .ok (.aload_n 0, 1) := by decide +kernel
theorem dX5_change_25 : decode cX5_change 25 = .ok (.getfield 12, 3) := by decide +kernel
theorem dX5_change_28 : decode cX5_change 28 = .ok (.aload_n 0, 1) := by decide +kernel
theorem dX5_change_29 : decode cX5_change 29 = .ok (.getfield 12, 3) := by decide +kernel
theorem dX5_change_32 : decode cX5_change 32 = .ok (.invokevirtual 86, 3) := by decide +kernel
theorem dX5_change_35 : decode cX5_change 35 = .ok (.aload_n 0, 1) := by decide +kernel
theorem dX5_change_36 : decode cX5_change 36 = .ok (.getfield 12, 3) := by decide +kernel
theorem dX5_change_39 : decode cX5_change 39 = .ok (.invokevirtual 83, 3) := by decide +kernel
theorem dX5_change_42 : decode cX5_change 42 = .ok (.invokevirtual 118, 3) := by decide +kernel
theorem dX5_change_45 : decode cX5_change 45 = .ok (.aload_n 0, 1) := by decide +kernel
theorem dX5_change_46 : decode cX5_change 46 = .ok (.lload_n 1, 1) := by decide +kernel
theorem dX5_change_47 : decode cX5_change 47 = .ok (.putfield 115, 3) := by decide +kernel
theorem dX5_change_50 : decode cX5_change 50 = .ok (.aload_n 0, 1) := by decide +kernel
theorem dX5_change_51 : decode cX5_change 51 = .ok (.lload_n 3, 1) := by decide +kernel
theorem dX5_change_52 : decode cX5_change 52 = .ok (.putfield 107, 3) := by decide +kernel
theorem dX5_change_55 : decode cX5_change 55 = .ok (.aload_n 0, 1) := by decide +kernel
theorem dX5_change_56 : decode cX5_change 56 = .ok (.aload_n 0, 1) := by decide +kernel
theorem dX5_change_57 : decode cX5_change 57 = .ok (.getfield 57, 3) := by decide +kernel
theorem dX5_change_60 : decode cX5_change 60 = .ok (.invokestatic 101, 3) := by decide +kernel
theorem dX5_change_63 : decode cX5_change 63 = .ok (.putfield 57, 3) := by decide +kernel
theorem dX5_change_66 : decode cX5_change 66 = .ok (.aload_n 0, 1) := by decide +kernel
theorem dX5_change_67 : decode cX5_change 67 = .ok (.iconst 0, 1) := by decide +kernel
theorem dX5_change_68 : decode cX5_change 68 = .ok (.putfield 61, 3) := by decide +kernel
theorem dX5_change_71 : decode cX5_change 71 = .ok (.aload_n 0, 1) := by decide +kernel
theorem dX5_change_72 : decode cX5_change 72 = .ok (.getfield 19, 3) := by decide +kernel
theorem dX5_change_75 : decode cX5_change 75 = .ok (.invokevirtual 65, 3) := by decide +kernel
theorem dX5_change_78 : decode cX5_change 78 = .ok (.return_, 1) := by decide +kernel
set_option maxRecDepth 20000 in
theorem ggX5_at_X2_has : GoodIn wsX5_at wsX2_has := goodIn_r _ [6, 7, 8, 28, 29, 30, 31, 32, 33, 34] (by decide +kernel) (by decide +kernel)
set_option maxRecDepth 20000 in
theorem gX5_at_X2_has : GoodIn wsX5_at (wsV RX5 51 RX2 yX2_has wsX2_has) := goodIn_app (goodIn_of _ (by decide +kernel)) ggX5_at_X2_has
set_option maxRecDepth 20000 in
theorem ggX5_at_X5_stoneAt : GoodIn wsX5_at wsX5_stoneAt := goodIn_r _ [13, 14, 15, 16, 17, 12, 18, 19, 20, 21, 22, 23, 24, 25, 26, 27] (by decide +kernel) (by decide +kernel)
set_option maxRecDepth 20000 in
theorem gX5_at_X5_stoneAt : GoodIn wsX5_at (wsV RX5 68 RX5 yX5_stoneAt wsX5_stoneAt) := goodIn_app (goodIn_of _ (by decide +kernel)) ggX5_at_X5_stoneAt
theorem dX5_at_0 : decode cX5_at 0 = .ok (.aload_n 0, 1) := by decide +kernel
theorem dX5_at_1 : decode cX5_at 1 = .ok (.getfield 12, 3) := by decide +kernel
theorem dX5_at_4 : decode cX5_at 4 = .ok (.iload_n 1, 1) := by decide +kernel
theorem dX5_at_5 : decode cX5_at 5 = .ok (.invokevirtual 51, 3) := by decide +kernel
theorem dX5_at_8 : decode cX5_at 8 = .ok (.ifCond .eq 11, 3) := by decide +kernel
theorem dX5_at_11 : decode cX5_at 11 = .ok (.aload_n 0, 1) := by decide +kernel
theorem dX5_at_12 : decode cX5_at 12 = .ok (.iload_n 1, 1) := by decide +kernel
theorem dX5_at_13 : decode cX5_at 13 = .ok (.invokevirtual 68, 3) := by decide +kernel
theorem dX5_at_16 : decode cX5_at 16 = .ok (.goto 4, 3) := by decide +kernel
theorem dX5_at_19 : decode cX5_at 19 = .ok (.iconst (-1), 1) := by decide +kernel
theorem dX5_at_20 : decode cX5_at 20 = .ok (.ireturn, 1) := by decide +kernel
set_option maxRecDepth 20000 in
theorem ggX5_group_X5_groupAt : GoodIn wsX5_group wsX5_groupAt := goodIn_r _ [5, 6, 7, 8, 9, 10, 11, 12, 13, 14, 15, 16, 4, 17, 18, 19, 20, 21, 22, 23, 24, 25, 26, 27, 28, 29, 30, 31, 32, 33, 34, 35, 36, 37, 38, 49, 50, 51, 52, 53, 54, 55, 56, 57, 58, 59, 60, 61, 62, 63, 64] (by decide +kernel) (by decide +kernel)
set_option maxRecDepth 20000 in
theorem gX5_group_X5_groupAt : GoodIn wsX5_group (wsV RX5 121 RX5 yX5_groupAt wsX5_groupAt) := goodIn_app (goodIn_of _ (by decide +kernel)) ggX5_group_X5_groupAt
set_option maxRecDepth 20000 in
theorem ggX5_group_X5_lowest : GoodIn wsX5_group wsX5_lowest := goodIn_r _ [41, 42, 43, 44, 45, 46, 47, 48] (by decide +kernel) (by decide +kernel)
set_option maxRecDepth 20000 in
theorem gX5_group_X5_lowest : GoodIn wsX5_group (va_wsS RX5 125 yX5_lowest wsX5_lowest) := goodIn_app (goodIn_of _ (by decide +kernel)) ggX5_group_X5_lowest
theorem dX5_group_0 : decode cX5_group 0 = .ok (.aload_n 0, 1) := by decide +kernel
theorem dX5_group_1 : decode cX5_group 1 = .ok (.iload_n 1, 1) := by decide +kernel
theorem dX5_group_2 : decode cX5_group 2 = .ok (.invokevirtual 121, 3) := by decide +kernel
theorem dX5_group_5 : decode cX5_group 5 = .ok (.lstore_n 2, 1) := by decide +kernel
theorem dX5_group_6 : decode cX5_group 6 = .ok (.lload_n 2, 1) := by decide +kernel
theorem dX5_group_7 : decode cX5_group 7 = .ok (.lconst 0, 1) := by decide +kernel
theorem dX5_group_8 : decode cX5_group 8 = .ok (.lcmp, 1) := by decide +kernel
theorem dX5_group_9 : decode cX5_group 9 = .ok (.ifCond .ne 7, 3) := by decide +kernel
theorem dX5_group_12 : decode cX5_group 12 = .ok (.iconst (-1), 1) := by decide +kernel
theorem dX5_group_13 : decode cX5_group 13 = .ok (.goto 7, 3) := by decide +kernel
theorem dX5_group_16 : decode cX5_group 16 = .ok (.lload_n 2, 1) := by decide +kernel
theorem dX5_group_17 : decode cX5_group 17 = .ok (.invokestatic 125, 3) := by decide +kernel
theorem dX5_group_20 : decode cX5_group 20 = .ok (.ireturn, 1) := by decide +kernel
set_option maxRecDepth 20000 in
theorem ggX5_look_X5_groupAt : GoodIn wsX5_look wsX5_groupAt := goodIn_r _ [6, 1, 7, 8, 9, 10, 11, 12, 13, 14, 15, 16, 5, 17, 18, 19, 20, 21, 22, 23, 24, 25, 26, 27, 28, 29, 30, 31, 32, 33, 34, 35, 36, 37, 38, 62, 63, 64, 65, 66, 67, 68, 69, 70, 71, 72, 73, 74, 75, 76, 77] (by decide +kernel) (by decide +kernel)
set_option maxRecDepth 20000 in
theorem gX5_look_X5_groupAt : GoodIn wsX5_look (wsV RX5 121 RX5 yX5_groupAt wsX5_groupAt) := goodIn_app (goodIn_of _ (by decide +kernel)) ggX5_look_X5_groupAt
set_option maxRecDepth 20000 in
theorem ggX5_look_J13_bitCount_95d88 : GoodIn wsX5_look wsJ13_bitCount_95d88 := goodIn_r _ [42, 43, 44, 45] (by decide +kernel) (by decide +kernel)
set_option maxRecDepth 20000 in
theorem gX5_look_J13_bitCount_95d88 : GoodIn wsX5_look (va_wsS RX5 129 yJ13_bitCount_95d88 wsJ13_bitCount_95d88) := goodIn_app (goodIn_of _ (by decide +kernel)) ggX5_look_J13_bitCount_95d88
set_option maxRecDepth 20000 in
theorem ggX5_look_X2_banksOf : GoodIn wsX5_look wsX2_banksOf := goodIn_r _ [49, 50, 51, 37, 35, 71, 72, 73, 74, 75, 76, 77] (by decide +kernel) (by decide +kernel)
set_option maxRecDepth 20000 in
theorem gX5_look_X2_banksOf : GoodIn wsX5_look (wsV RX5 134 RX2 yX2_banksOf wsX2_banksOf) := goodIn_app (goodIn_of _ (by decide +kernel)) ggX5_look_X2_banksOf
set_option maxRecDepth 20000 in
theorem ggX5_look_X2_beside : GoodIn wsX5_look wsX2_beside := goodIn_r _ [34, 35, 36, 37, 13, 38, 71, 72, 73, 74, 75, 76, 77] (by decide +kernel) (by decide +kernel)
set_option maxRecDepth 20000 in
theorem gX5_look_X2_beside : GoodIn wsX5_look (wsV RX5 137 RX2 yX2_beside wsX2_beside) := goodIn_app (goodIn_of _ (by decide +kernel)) ggX5_look_X2_beside
set_option maxRecDepth 20000 in
theorem ggX5_look_X5_empties : GoodIn wsX5_look wsX5_empties := goodIn_r _ [56, 1, 18, 19, 57, 58, 59, 60, 10, 61, 38, 62, 63, 64, 65, 66, 67, 68, 69, 70, 71, 72, 73, 74, 75, 76, 77] (by decide +kernel) (by decide +kernel)
set_option maxRecDepth 20000 in
theorem gX5_look_X5_empties : GoodIn wsX5_look (wsV RX5 140 RX5 yX5_empties wsX5_empties) := goodIn_app (goodIn_of _ (by decide +kernel)) ggX5_look_X5_empties
theorem dX5_look_0 : decode cX5_look 0 = .ok (.aload_n 0, 1) := by decide +kernel
theorem dX5_look_1 : decode cX5_look 1 = .ok (.iload_n 1, 1) := by decide +kernel
theorem dX5_look_2 : decode cX5_look 2 = .ok (.invokevirtual 121, 3) := by decide +kernel
theorem dX5_look_5 : decode cX5_look 5 = .ok (.lstore_n 3, 1) := by decide +kernel
theorem dX5_look_6 : decode cX5_look 6 = .ok (.lload_n 3, 1) := by decide +kernel
theorem dX5_look_7 : decode cX5_look 7 = .ok (.lconst 0, 1) := by decide +kernel
theorem dX5_look_8 : decode cX5_look 8 = .ok (.lcmp, 1) := by decide +kernel
theorem dX5_look_9 : decode cX5_look 9 = .ok (.ifCond .ne 5, 3) := by decide +kernel
theorem dX5_look_12 : decode cX5_look 12 = .ok (.iconst (-1), 1) := by decide +kernel
theorem dX5_look_13 : decode cX5_look 13 = .ok (.ireturn, 1) := by decide +kernel
theorem dX5_look_14 : decode cX5_look 14 = .ok (.iload_n 2, 1) := by decide +kernel
theorem dX5_look_15 : decode cX5_look 15 = .ok (.tableswitch 56 0 2 #[25, 30, 39], 25) := by decide +kernel
theorem dX5_look_40 : decode cX5_look 40 = .ok (.lload_n 3, 1) := by decide +kernel
theorem dX5_look_41 : decode cX5_look 41 = .ok (.invokestatic 129, 3) := by decide +kernel
theorem dX5_look_44 : decode cX5_look 44 = .ok (.ireturn, 1) := by decide +kernel
theorem dX5_look_45 : decode cX5_look 45 = .ok (.aload_n 0, 1) := by decide +kernel
theorem dX5_look_46 : decode cX5_look 46 = .ok (.getfield 12, 3) := by decide +kernel
theorem dX5_look_49 : decode cX5_look 49 = .ok (.lload_n 3, 1) := by decide +kernel
theorem dX5_look_50 : decode cX5_look 50 = .ok (.invokevirtual 134, 3) := by decide +kernel
theorem dX5_look_53 : decode cX5_look 53 = .ok (.ireturn, 1) := by decide +kernel
theorem dX5_look_54 : decode cX5_look 54 = .ok (.aload_n 0, 1) := by decide +kernel
theorem dX5_look_55 : decode cX5_look 55 = .ok (.getfield 12, 3) := by decide +kernel
theorem dX5_look_58 : decode cX5_look 58 = .ok (.lload_n 3, 1) := by decide +kernel
theorem dX5_look_59 : decode cX5_look 59 = .ok (.invokevirtual 137, 3) := by decide +kernel
theorem dX5_look_62 : decode cX5_look 62 = .ok (.aload_n 0, 1) := by decide +kernel
theorem dX5_look_63 : decode cX5_look 63 = .ok (.invokevirtual 140, 3) := by decide +kernel
theorem dX5_look_66 : decode cX5_look 66 = .ok (.land, 1) := by decide +kernel
theorem dX5_look_67 : decode cX5_look 67 = .ok (.invokestatic 129, 3) := by decide +kernel
theorem dX5_look_70 : decode cX5_look 70 = .ok (.ireturn, 1) := by decide +kernel
theorem dX5_look_71 : decode cX5_look 71 = .ok (.iconst (-1), 1) := by decide +kernel
theorem dX5_look_72 : decode cX5_look 72 = .ok (.ireturn, 1) := by decide +kernel
set_option maxRecDepth 20000 in
theorem ggX5_joined_X5_whoJoined : GoodIn wsX5_joined wsX5_whoJoined := goodIn_r _ [5, 6, 7, 8, 9, 10, 11, 12, 13, 14, 15, 16, 17, 18, 19, 20, 21, 22, 23, 24, 25, 26, 27, 28, 29, 30, 31, 32, 33, 34, 35, 36, 37, 38, 39, 40, 41, 42, 43, 44, 45, 46, 47, 48, 49, 50, 51, 52, 53, 54, 55, 56, 57, 58, 59, 60] (by decide +kernel) (by decide +kernel)
set_option maxRecDepth 20000 in
theorem gX5_joined_X5_whoJoined : GoodIn wsX5_joined (wsV RX5 72 RX5 yX5_whoJoined wsX5_whoJoined) := goodIn_app (goodIn_of _ (by decide +kernel)) ggX5_joined_X5_whoJoined
theorem dX5_joined_0 : decode cX5_joined 0 = .ok (.aload_n 0, 1) := by decide +kernel
theorem dX5_joined_1 : decode cX5_joined 1 = .ok (.invokevirtual 72, 3) := by decide +kernel
theorem dX5_joined_4 : decode cX5_joined 4 = .ok (.ireturn, 1) := by decide +kernel
set_option maxRecDepth 20000 in
theorem ggX5_way_X5_findPath : GoodIn wsX5_way wsX5_findPath := goodIn_r _ [6, 1, 7, 8, 9, 10, 11, 12, 5, 13, 14, 15, 16, 17, 18, 19, 20, 21, 22, 23, 24, 25, 26, 27, 28, 29, 30, 31, 32, 33, 34, 35, 36, 37, 38, 39, 40, 41, 42, 43, 44, 45, 46, 47, 48, 49, 50, 51, 52, 53, 54, 55, 56, 57, 58, 59, 60, 61, 62, 63, 64, 65, 66, 67, 68, 69, 70, 71, 72, 73, 74, 75, 76, 77, 78, 79, 84, 85, 86, 87, 88, 89, 90, 91, 92, 93, 94, 95, 96, 97, 98, 99, 100, 101, 102] (by decide +kernel) (by decide +kernel)
set_option maxRecDepth 20000 in
theorem gX5_way_X5_findPath : GoodIn wsX5_way (wsV RX5 144 RX5 yX5_findPath wsX5_findPath) := goodIn_app (goodIn_of _ (by decide +kernel)) ggX5_way_X5_findPath
set_option maxRecDepth 20000 in
theorem ggX5_way_X4_field : GoodIn wsX5_way wsX4_field := goodIn_r _ [83, 61, 66, 100, 101, 102] (by decide +kernel) (by decide +kernel)
set_option maxRecDepth 20000 in
theorem gX5_way_X4_field : GoodIn wsX5_way (wsV RX5 147 RX4 yX4_field wsX4_field) := goodIn_app (goodIn_of _ (by decide +kernel)) ggX5_way_X4_field
theorem dX5_way_0 : decode cX5_way 0 = .ok (.aload_n 0, 1) := by decide +kernel
theorem dX5_way_1 : decode cX5_way 1 = .ok (.invokevirtual 144, 3) := by decide +kernel
theorem dX5_way_4 : decode cX5_way 4 = .ok (.aload_n 0, 1) := by decide +kernel
theorem dX5_way_5 : decode cX5_way 5 = .ok (.getfield 26, 3) := by decide +kernel
theorem dX5_way_8 : decode cX5_way 8 = .ok (.iload_n 1, 1) := by decide +kernel
theorem dX5_way_9 : decode cX5_way 9 = .ok (.invokevirtual 147, 3) := by decide +kernel
theorem dX5_way_12 : decode cX5_way 12 = .ok (.ireturn, 1) := by decide +kernel
set_option maxRecDepth 20000 in
theorem ggX5_winner_X5_isColour : GoodIn wsX5_winner wsX5_isColour := goodIn_r _ [5] (by decide +kernel) (by decide +kernel)
set_option maxRecDepth 20000 in
theorem gX5_winner_X5_isColour : GoodIn wsX5_winner (va_wsS RX5 48 yX5_isColour wsX5_isColour) := goodIn_app (goodIn_of _ (by decide +kernel)) ggX5_winner_X5_isColour
set_option maxRecDepth 20000 in
theorem ggX5_winner_X5_tooManyEmpty : GoodIn wsX5_winner wsX5_tooManyEmpty := goodIn_r _ [9, 10, 11, 12, 4, 13, 14, 15, 16, 17, 18, 19, 20, 21, 22, 23, 24, 25, 26, 27, 28, 29, 30, 123, 124, 125, 126, 127, 128, 129, 130, 131, 132, 133, 134, 135, 136, 137, 138] (by decide +kernel) (by decide +kernel)
set_option maxRecDepth 20000 in
theorem gX5_winner_X5_tooManyEmpty : GoodIn wsX5_winner (wsV RX5 150 RX5 yX5_tooManyEmpty wsX5_tooManyEmpty) := goodIn_app (goodIn_of _ (by decide +kernel)) ggX5_winner_X5_tooManyEmpty
set_option maxRecDepth 20000 in
theorem ggX5_winner_X5_askBanks : GoodIn wsX5_winner wsX5_askBanks := goodIn_r _ [34, 1, 14, 15, 16, 35, 36, 37, 21, 38, 39, 40, 41, 42, 43, 44, 45, 46, 47, 48, 49, 50, 51, 52, 53, 54, 55, 56, 57, 58, 59, 60, 61, 62, 63, 64, 65, 66, 67, 68, 69, 70, 71, 72, 73, 74, 75, 76, 77, 78, 79, 80, 81, 82, 83, 19, 20, 22, 23, 84, 25, 26, 27, 28, 29, 30, 85, 86, 87, 88, 89, 90, 91, 92, 93, 94, 95, 96, 97, 98, 99, 100, 101, 102, 103, 104, 105, 106, 107, 108, 109, 110, 4, 111, 123, 124, 125, 126, 127, 128, 129, 130, 131, 132, 133, 134, 135, 136, 137, 138, 139, 140, 141, 142, 143, 144, 145, 146, 147, 148, 149, 150, 151, 152, 153, 154] (by decide +kernel) (by decide +kernel)
set_option maxRecDepth 20000 in
theorem gX5_winner_X5_askBanks : GoodIn wsX5_winner (wsV RX5 154 RX5 yX5_askBanks wsX5_askBanks) := goodIn_app (goodIn_of _ (by decide +kernel)) ggX5_winner_X5_askBanks
set_option maxRecDepth 20000 in
theorem ggX5_winner_X1_makerWins : GoodIn wsX5_winner wsX1_makerWins := goodIn_r _ [115, 76, 116, 117, 48, 118, 80, 77, 81, 82, 119, 120, 121, 88, 122, 90, 110, 4, 111, 106, 107, 108, 109, 139, 140, 141, 142, 143, 144, 145, 146, 147, 148, 149, 150, 151, 152, 153, 154] (by decide +kernel) (by decide +kernel)
set_option maxRecDepth 20000 in
theorem gX5_winner_X1_makerWins : GoodIn wsX5_winner (wsV RX5 157 RX1 yX1_makerWins wsX1_makerWins) := goodIn_app (goodIn_of _ (by decide +kernel)) ggX5_winner_X1_makerWins
theorem dX5_winner_0 : decode cX5_winner 0 = .ok (.iload_n 1, 1) := by decide +kernel
theorem dX5_winner_1 : decode cX5_winner 1 = .ok (.invokestatic 48, 3) := by decide +kernel
theorem dX5_winner_4 : decode cX5_winner 4 = .ok (.ifCond .eq 10, 3) := by decide +kernel
theorem dX5_winner_7 : decode cX5_winner 7 = .ok (.aload_n 0, 1) := by decide +kernel
theorem dX5_winner_8 : decode cX5_winner 8 = .ok (.invokevirtual 150, 3) := by decide +kernel
theorem dX5_winner_11 : decode cX5_winner 11 = .ok (.ifCond .eq 5, 3) := by decide +kernel
theorem dX5_winner_14 : decode cX5_winner 14 = .ok (.iconst (-1), 1) := by decide +kernel
theorem dX5_winner_15 : decode cX5_winner 15 = .ok (.ireturn, 1) := by decide +kernel
theorem dX5_winner_16 : decode cX5_winner 16 = .ok (.aload_n 0, 1) := by decide +kernel
theorem dX5_winner_17 : decode cX5_winner 17 = .ok (.invokevirtual 154, 3) := by decide +kernel
theorem dX5_winner_20 : decode cX5_winner 20 = .ok (.aload_n 0, 1) := by decide +kernel
theorem dX5_winner_21 : decode cX5_winner 21 = .ok (.getfield 33, 3) := by decide +kernel
theorem dX5_winner_24 : decode cX5_winner 24 = .ok (.iload_n 1, 1) := by decide +kernel
theorem dX5_winner_25 : decode cX5_winner 25 = .ok (.iconst 1, 1) := by decide +kernel
theorem dX5_winner_26 : decode cX5_winner 26 = .ok (.if_icmp .ne 7, 3) := by decide +kernel
theorem dX5_winner_29 : decode cX5_winner 29 = .ok (.iconst 1, 1) := by decide +kernel
theorem dX5_winner_30 : decode cX5_winner 30 = .ok (.goto 4, 3) := by decide +kernel
theorem dX5_winner_33 : decode cX5_winner 33 = .ok (.iconst 0, 1) := by decide +kernel
theorem dX5_winner_34 : decode cX5_winner 34 = .ok (.invokevirtual 157, 3) := by decide +kernel
theorem dX5_winner_37 : decode cX5_winner 37 = .ok (.ifCond .eq 7, 3) := by decide +kernel
theorem dX5_winner_40 : decode cX5_winner 40 = .ok (.iconst 1, 1) := by decide +kernel
theorem dX5_winner_41 : decode cX5_winner 41 = .ok (.goto 4, 3) := by decide +kernel
theorem dX5_winner_44 : decode cX5_winner 44 = .ok (.iconst 2, 1) := by decide +kernel
theorem dX5_winner_45 : decode cX5_winner 45 = .ok (.ireturn, 1) := by decide +kernel
set_option maxRecDepth 20000 in
theorem ggX5_first_X5_isColour : GoodIn wsX5_first wsX5_isColour := goodIn_r _ [5] (by decide +kernel) (by decide +kernel)
set_option maxRecDepth 20000 in
theorem gX5_first_X5_isColour : GoodIn wsX5_first (va_wsS RX5 48 yX5_isColour wsX5_isColour) := goodIn_app (goodIn_of _ (by decide +kernel)) ggX5_first_X5_isColour
set_option maxRecDepth 20000 in
theorem ggX5_first_X5_tooManyEmpty : GoodIn wsX5_first wsX5_tooManyEmpty := goodIn_r _ [9, 10, 11, 12, 4, 13, 14, 15, 16, 17, 18, 19, 20, 21, 22, 23, 24, 25, 26, 27, 28, 29, 30, 127, 128, 129, 130, 131, 132, 133, 134, 135, 136, 137, 138, 139, 140, 141, 142] (by decide +kernel) (by decide +kernel)
set_option maxRecDepth 20000 in
theorem gX5_first_X5_tooManyEmpty : GoodIn wsX5_first (wsV RX5 150 RX5 yX5_tooManyEmpty wsX5_tooManyEmpty) := goodIn_app (goodIn_of _ (by decide +kernel)) ggX5_first_X5_tooManyEmpty
set_option maxRecDepth 20000 in
theorem ggX5_first_X5_askBanks : GoodIn wsX5_first wsX5_askBanks := goodIn_r _ [34, 1, 14, 15, 16, 35, 36, 37, 21, 38, 39, 40, 41, 42, 43, 44, 45, 46, 47, 48, 49, 50, 51, 52, 53, 54, 55, 56, 57, 58, 59, 60, 61, 62, 63, 64, 65, 66, 67, 68, 69, 70, 71, 72, 73, 74, 75, 76, 77, 78, 79, 80, 81, 82, 83, 19, 20, 22, 23, 84, 25, 26, 27, 28, 29, 30, 85, 86, 87, 88, 89, 90, 91, 92, 93, 94, 95, 96, 97, 98, 99, 100, 101, 102, 103, 104, 105, 106, 107, 108, 109, 110, 4, 111, 127, 128, 129, 130, 131, 132, 133, 134, 135, 136, 137, 138, 139, 140, 141, 142, 143, 144, 145, 146, 147, 148, 149, 150, 151, 152, 153, 154, 155, 156, 157, 158] (by decide +kernel) (by decide +kernel)
set_option maxRecDepth 20000 in
theorem gX5_first_X5_askBanks : GoodIn wsX5_first (wsV RX5 154 RX5 yX5_askBanks wsX5_askBanks) := goodIn_app (goodIn_of _ (by decide +kernel)) ggX5_first_X5_askBanks
set_option maxRecDepth 20000 in
theorem ggX5_first_X1_winningField : GoodIn wsX5_first wsX1_winningField := goodIn_r _ [115, 76, 71, 110, 4, 111, 116, 117, 118, 48, 119, 120, 121, 122, 80, 77, 81, 82, 123, 124, 125, 88, 126, 90, 106, 107, 108, 109, 143, 144, 145, 146, 147, 148, 149, 150, 151, 152, 153, 154, 155, 156, 157, 158] (by decide +kernel) (by decide +kernel)
set_option maxRecDepth 20000 in
theorem gX5_first_X1_winningField : GoodIn wsX5_first (wsV RX5 161 RX1 yX1_winningField wsX1_winningField) := goodIn_app (goodIn_of _ (by decide +kernel)) ggX5_first_X1_winningField
theorem dX5_first_0 : decode cX5_first 0 = .ok (.iload_n 1, 1) := by decide +kernel
theorem dX5_first_1 : decode cX5_first 1 = .ok (.invokestatic 48, 3) := by decide +kernel
theorem dX5_first_4 : decode cX5_first 4 = .ok (.ifCond .eq 10, 3) := by decide +kernel
theorem dX5_first_7 : decode cX5_first 7 = .ok (.aload_n 0, 1) := by decide +kernel
theorem dX5_first_8 : decode cX5_first 8 = .ok (.invokevirtual 150, 3) := by decide +kernel
theorem dX5_first_11 : decode cX5_first 11 = .ok (.ifCond .eq 5, 3) := by decide +kernel
theorem dX5_first_14 : decode cX5_first 14 = .ok (.iconst (-1), 1) := by decide +kernel
theorem dX5_first_15 : decode cX5_first 15 = .ok (.ireturn, 1) := by decide +kernel
theorem dX5_first_16 : decode cX5_first 16 = .ok (.aload_n 0, 1) := by decide +kernel
theorem dX5_first_17 : decode cX5_first 17 = .ok (.invokevirtual 154, 3) := by decide +kernel
theorem dX5_first_20 : decode cX5_first 20 = .ok (.aload_n 0, 1) := by decide +kernel
theorem dX5_first_21 : decode cX5_first 21 = .ok (.getfield 33, 3) := by decide +kernel
theorem dX5_first_24 : decode cX5_first 24 = .ok (.iload_n 1, 1) := by decide +kernel
theorem dX5_first_25 : decode cX5_first 25 = .ok (.iconst 1, 1) := by decide +kernel
theorem dX5_first_26 : decode cX5_first 26 = .ok (.if_icmp .ne 7, 3) := by decide +kernel
theorem dX5_first_29 : decode cX5_first 29 = .ok (.iconst 1, 1) := by decide +kernel
theorem dX5_first_30 : decode cX5_first 30 = .ok (.goto 4, 3) := by decide +kernel
theorem dX5_first_33 : decode cX5_first 33 = .ok (.iconst 0, 1) := by decide +kernel
theorem dX5_first_34 : decode cX5_first 34 = .ok (.iload_n 2, 1) := by decide +kernel
theorem dX5_first_35 : decode cX5_first 35 = .ok (.invokevirtual 161, 3) := by decide +kernel
theorem dX5_first_38 : decode cX5_first 38 = .ok (.ireturn, 1) := by decide +kernel
set_option maxRecDepth 20000 in
theorem ggX5_fillings_X5_tooManyEmpty : GoodIn wsX5_fillings wsX5_tooManyEmpty := goodIn_r _ [6, 7, 8, 9, 5, 10, 11, 12, 13, 14, 15, 16, 17, 18, 19, 20, 21, 22, 23, 24, 25, 26, 27, 113, 114, 115, 116, 117, 118, 119, 120, 121, 122, 123, 124, 125, 126, 127, 128] (by decide +kernel) (by decide +kernel)
set_option maxRecDepth 20000 in
theorem gX5_fillings_X5_tooManyEmpty : GoodIn wsX5_fillings (wsV RX5 150 RX5 yX5_tooManyEmpty wsX5_tooManyEmpty) := goodIn_app (goodIn_of _ (by decide +kernel)) ggX5_fillings_X5_tooManyEmpty
set_option maxRecDepth 20000 in
theorem ggX5_fillings_X5_askBanks : GoodIn wsX5_fillings wsX5_askBanks := goodIn_r _ [31, 1, 11, 12, 13, 32, 33, 34, 18, 35, 36, 37, 38, 39, 40, 41, 42, 43, 44, 45, 46, 47, 48, 49, 50, 51, 52, 53, 54, 55, 56, 57, 58, 59, 60, 61, 62, 63, 64, 65, 66, 67, 68, 69, 70, 71, 72, 73, 74, 75, 76, 77, 78, 79, 80, 16, 17, 19, 20, 81, 22, 23, 24, 25, 26, 27, 82, 83, 84, 85, 86, 87, 88, 89, 90, 91, 92, 93, 94, 95, 96, 97, 98, 99, 100, 101, 102, 103, 104, 105, 106, 107, 5, 108, 113, 114, 115, 116, 117, 118, 119, 120, 121, 122, 123, 124, 125, 126, 127, 128, 129, 130, 131, 132, 133, 134, 135, 136, 137, 138, 139, 140, 141, 142, 143, 144] (by decide +kernel) (by decide +kernel)
set_option maxRecDepth 20000 in
theorem gX5_fillings_X5_askBanks : GoodIn wsX5_fillings (wsV RX5 154 RX5 yX5_askBanks wsX5_askBanks) := goodIn_app (goodIn_of _ (by decide +kernel)) ggX5_fillings_X5_askBanks
set_option maxRecDepth 20000 in
theorem ggX5_fillings_X1_reachedFillings : GoodIn wsX5_fillings wsX1_reachedFillings := goodIn_r _ [112, 75, 129, 130, 131, 132, 133, 134, 135, 136, 137, 138, 139, 140, 141, 142, 143] (by decide +kernel) (by decide +kernel)
set_option maxRecDepth 20000 in
theorem gX5_fillings_X1_reachedFillings : GoodIn wsX5_fillings (wsV RX5 165 RX1 yX1_reachedFillings wsX1_reachedFillings) := goodIn_app (goodIn_of _ (by decide +kernel)) ggX5_fillings_X1_reachedFillings
theorem dX5_fillings_0 : decode cX5_fillings 0 = .ok (.aload_n 0, 1) := by decide +kernel
theorem dX5_fillings_1 : decode cX5_fillings 1 = .ok (.invokevirtual 150, 3) := by decide +kernel
theorem dX5_fillings_4 : decode cX5_fillings 4 = .ok (.ifCond .eq 5, 3) := by decide +kernel
theorem dX5_fillings_7 : decode cX5_fillings 7 = .ok (.iconst (-1), 1) := by decide +kernel
theorem dX5_fillings_8 : decode cX5_fillings 8 = .ok (.ireturn, 1) := by decide +kernel
theorem dX5_fillings_9 : decode cX5_fillings 9 = .ok (.aload_n 0, 1) := by decide +kernel
theorem dX5_fillings_10 : decode cX5_fillings 10 = .ok (.invokevirtual 154, 3) := by decide +kernel
theorem dX5_fillings_13 : decode cX5_fillings 13 = .ok (.aload_n 0, 1) := by decide +kernel
theorem dX5_fillings_14 : decode cX5_fillings 14 = .ok (.getfield 33, 3) := by decide +kernel
theorem dX5_fillings_17 : decode cX5_fillings 17 = .ok (.invokevirtual 165, 3) := by decide +kernel
theorem dX5_fillings_20 : decode cX5_fillings 20 = .ok (.ireturn, 1) := by decide +kernel
set_option maxRecDepth 20000 in
theorem ggX5_dead_X2_has : GoodIn wsX5_dead wsX2_has := goodIn_r _ [7, 8, 9, 144, 145, 146, 147, 148, 149, 150] (by decide +kernel) (by decide +kernel)
set_option maxRecDepth 20000 in
theorem gX5_dead_X2_has : GoodIn wsX5_dead (wsV RX5 51 RX2 yX2_has wsX2_has) := goodIn_app (goodIn_of _ (by decide +kernel)) ggX5_dead_X2_has
set_option maxRecDepth 20000 in
theorem ggX5_dead_X5_stoneAt : GoodIn wsX5_dead wsX5_stoneAt := goodIn_r _ [14, 15, 16, 17, 18, 13, 19, 135, 136, 137, 138, 139, 140, 141, 142, 143] (by decide +kernel) (by decide +kernel)
set_option maxRecDepth 20000 in
theorem gX5_dead_X5_stoneAt : GoodIn wsX5_dead (wsV RX5 68 RX5 yX5_stoneAt wsX5_stoneAt) := goodIn_app (goodIn_of _ (by decide +kernel)) ggX5_dead_X5_stoneAt
set_option maxRecDepth 20000 in
theorem ggX5_dead_X5_tooManyEmpty : GoodIn wsX5_dead wsX5_tooManyEmpty := goodIn_r _ [23, 24, 25, 26, 13, 27, 1, 15, 16, 28, 29, 30, 31, 6, 32, 33, 34, 35, 36, 37, 38, 39, 40, 135, 136, 137, 138, 139, 140, 141, 142, 143, 144, 145, 146, 147, 148, 149, 150] (by decide +kernel) (by decide +kernel)
set_option maxRecDepth 20000 in
theorem gX5_dead_X5_tooManyEmpty : GoodIn wsX5_dead (wsV RX5 150 RX5 yX5_tooManyEmpty wsX5_tooManyEmpty) := goodIn_app (goodIn_of _ (by decide +kernel)) ggX5_dead_X5_tooManyEmpty
set_option maxRecDepth 20000 in
theorem ggX5_dead_X5_askBanks : GoodIn wsX5_dead wsX5_askBanks := goodIn_r _ [44, 2, 1, 15, 16, 45, 46, 47, 6, 48, 49, 50, 51, 52, 53, 54, 55, 56, 57, 58, 59, 60, 61, 62, 63, 64, 65, 66, 67, 68, 69, 8, 70, 71, 72, 73, 9, 74, 75, 76, 77, 78, 79, 80, 81, 82, 83, 84, 85, 86, 87, 88, 89, 90, 91, 30, 31, 32, 33, 92, 35, 36, 37, 38, 39, 40, 93, 94, 95, 96, 97, 98, 99, 100, 101, 102, 103, 104, 105, 106, 107, 108, 109, 110, 111, 112, 113, 114, 115, 116, 117, 18, 13, 19, 135, 136, 137, 138, 139, 140, 141, 142, 143, 144, 145, 146, 147, 148, 149, 150, 151, 152, 153, 154, 155, 156, 157, 158, 159, 160, 161, 162, 163, 164, 165, 166] (by decide +kernel) (by decide +kernel)
set_option maxRecDepth 20000 in
theorem gX5_dead_X5_askBanks : GoodIn wsX5_dead (wsV RX5 154 RX5 yX5_askBanks wsX5_askBanks) := goodIn_app (goodIn_of _ (by decide +kernel)) ggX5_dead_X5_askBanks
set_option maxRecDepth 20000 in
theorem ggX5_dead_X1_deadFields : GoodIn wsX5_dead wsX1_deadFields := goodIn_r _ [121, 87, 122, 123, 124, 125, 58, 126, 84, 79, 18, 13, 19, 127, 128, 129, 130, 85, 88, 131, 132, 133, 96, 134, 98, 151, 152, 153, 154, 155, 156, 157, 158, 159, 160, 161, 162, 163, 164, 165, 166] (by decide +kernel) (by decide +kernel)
set_option maxRecDepth 20000 in
theorem gX5_dead_X1_deadFields : GoodIn wsX5_dead (wsV RX5 168 RX1 yX1_deadFields wsX1_deadFields) := goodIn_app (goodIn_of _ (by decide +kernel)) ggX5_dead_X1_deadFields
set_option maxRecDepth 20000 in
theorem ggX5_dead_X5_bit : GoodIn wsX5_dead wsX5_bit := goodIn_r _ [19] (by decide +kernel) (by decide +kernel)
set_option maxRecDepth 20000 in
theorem gX5_dead_X5_bit : GoodIn wsX5_dead (va_wsS RX5 171 yX5_bit wsX5_bit) := goodIn_app (goodIn_of _ (by decide +kernel)) ggX5_dead_X5_bit
theorem dX5_dead_0 : decode cX5_dead 0 = .ok (.aload_n 0, 1) := by decide +kernel
theorem dX5_dead_1 : decode cX5_dead 1 = .ok (.getfield 12, 3) := by decide +kernel
theorem dX5_dead_4 : decode cX5_dead 4 = .ok (.iload_n 1, 1) := by decide +kernel
theorem dX5_dead_5 : decode cX5_dead 5 = .ok (.invokevirtual 51, 3) := by decide +kernel
theorem dX5_dead_8 : decode cX5_dead 8 = .ok (.ifCond .eq 18, 3) := by decide +kernel
theorem dX5_dead_11 : decode cX5_dead 11 = .ok (.aload_n 0, 1) := by decide +kernel
theorem dX5_dead_12 : decode cX5_dead 12 = .ok (.iload_n 1, 1) := by decide +kernel
theorem dX5_dead_13 : decode cX5_dead 13 = .ok (.invokevirtual 68, 3) := by decide +kernel
theorem dX5_dead_16 : decode cX5_dead 16 = .ok (.ifCond .ne 10, 3) := by decide +kernel
theorem dX5_dead_19 : decode cX5_dead 19 = .ok (.aload_n 0, 1) := by decide +kernel
theorem dX5_dead_20 : decode cX5_dead 20 = .ok (.invokevirtual 150, 3) := by decide +kernel
theorem dX5_dead_23 : decode cX5_dead 23 = .ok (.ifCond .eq 5, 3) := by decide +kernel
theorem dX5_dead_26 : decode cX5_dead 26 = .ok (.iconst (-1), 1) := by decide +kernel
theorem dX5_dead_27 : decode cX5_dead 27 = .ok (.ireturn, 1) := by decide +kernel
theorem dX5_dead_28 : decode cX5_dead 28 = .ok (.aload_n 0, 1) := by decide +kernel
theorem dX5_dead_29 : decode cX5_dead 29 = .ok (.invokevirtual 154, 3) := by decide +kernel
theorem dX5_dead_32 : decode cX5_dead 32 = .ok (.aload_n 0, 1) := by decide +kernel
theorem dX5_dead_33 : decode cX5_dead 33 = .ok (.getfield 33, 3) := by decide +kernel
theorem dX5_dead_36 : decode cX5_dead 36 = .ok (.invokevirtual 168, 3) := by decide +kernel
theorem dX5_dead_39 : decode cX5_dead 39 = .ok (.iload_n 1, 1) := by decide +kernel
theorem dX5_dead_40 : decode cX5_dead 40 = .ok (.invokestatic 171, 3) := by decide +kernel
theorem dX5_dead_43 : decode cX5_dead 43 = .ok (.land, 1) := by decide +kernel
theorem dX5_dead_44 : decode cX5_dead 44 = .ok (.lconst 0, 1) := by decide +kernel
theorem dX5_dead_45 : decode cX5_dead 45 = .ok (.lcmp, 1) := by decide +kernel
theorem dX5_dead_46 : decode cX5_dead 46 = .ok (.ifCond .eq 7, 3) := by decide +kernel
theorem dX5_dead_49 : decode cX5_dead 49 = .ok (.iconst 1, 1) := by decide +kernel
theorem dX5_dead_50 : decode cX5_dead 50 = .ok (.goto 4, 3) := by decide +kernel
theorem dX5_dead_53 : decode cX5_dead 53 = .ok (.iconst 0, 1) := by decide +kernel
theorem dX5_dead_54 : decode cX5_dead 54 = .ok (.ireturn, 1) := by decide +kernel
set_option maxRecDepth 20000 in
theorem ggX5_link_X5_canLink : GoodIn wsX5_link wsX5_canLink := goodIn_r _ [6, 7, 8, 9, 5, 10, 11, 12, 13, 14, 15, 16, 17, 18, 19, 20, 21, 22, 23, 24, 25, 26, 27, 28, 29, 30, 31, 32, 33, 34, 35, 36, 37, 38, 39, 40, 41, 42, 43, 44, 45, 46, 47, 48, 49, 50, 133, 134, 135, 136, 137, 138, 139, 140, 141, 142, 143, 144, 145, 146, 147, 148] (by decide +kernel) (by decide +kernel)
set_option maxRecDepth 20000 in
theorem gX5_link_X5_canLink : GoodIn wsX5_link (wsV RX5 174 RX5 yX5_canLink wsX5_canLink) := goodIn_app (goodIn_of _ (by decide +kernel)) ggX5_link_X5_canLink
set_option maxRecDepth 20000 in
theorem ggX5_link_X5_askLink : GoodIn wsX5_link wsX5_askLink := goodIn_r _ [54, 1, 7, 21, 22, 23, 5, 24, 25, 26, 18, 19, 20, 27, 28, 29, 55, 56, 57, 58, 59, 60, 61, 62, 63, 64, 65, 66, 67, 68, 14, 69, 16, 70, 71, 72, 73, 17, 74, 75, 76, 77, 78, 79, 80, 81, 82, 83, 84, 85, 86, 87, 88, 89, 90, 91, 40, 41, 42, 43, 92, 45, 46, 47, 48, 49, 50, 93, 94, 95, 96, 97, 98, 99, 100, 101, 102, 103, 104, 105, 106, 107, 108, 109, 110, 111, 112, 113, 114, 115, 116, 117, 133, 134, 135, 136, 137, 138, 139, 140, 141, 149, 150, 151, 152, 153, 154, 155, 156, 157, 158, 159, 160, 161, 162, 163, 142, 143, 144, 145, 146, 147, 148, 164] (by decide +kernel) (by decide +kernel)
set_option maxRecDepth 20000 in
theorem gX5_link_X5_askLink : GoodIn wsX5_link (wsV RX5 178 RX5 yX5_askLink wsX5_askLink) := goodIn_app (goodIn_of _ (by decide +kernel)) ggX5_link_X5_askLink
set_option maxRecDepth 20000 in
theorem ggX5_link_X1_strength : GoodIn wsX5_link wsX1_strength := goodIn_r _ [121, 122, 123, 124, 58, 125, 84, 126, 127, 128, 88, 85, 89, 90, 129, 130, 131, 96, 132, 98, 28, 5, 29, 114, 115, 116, 117, 149, 150, 151, 152, 153, 154, 155, 156, 157, 158, 159, 160, 161, 162, 163, 164] (by decide +kernel) (by decide +kernel)
set_option maxRecDepth 20000 in
theorem gX5_link_X1_strength : GoodIn wsX5_link (wsV RX5 182 RX1 yX1_strength wsX1_strength) := goodIn_app (goodIn_of _ (by decide +kernel)) ggX5_link_X1_strength
theorem dX5_link_0 : decode cX5_link 0 = .ok (.aload_n 0, 1) := by decide +kernel
theorem dX5_link_1 : decode cX5_link 1 = .ok (.iload_n 1, 1) := by decide +kernel
theorem dX5_link_2 : decode cX5_link 2 = .ok (.iload_n 2, 1) := by decide +kernel
theorem dX5_link_3 : decode cX5_link 3 = .ok (.iload_n 3, 1) := by decide +kernel
theorem dX5_link_4 : decode cX5_link 4 = .ok (.invokevirtual 174, 3) := by decide +kernel
theorem dX5_link_7 : decode cX5_link 7 = .ok (.ifCond .ne 5, 3) := by decide +kernel
theorem dX5_link_10 : decode cX5_link 10 = .ok (.iconst (-1), 1) := by decide +kernel
theorem dX5_link_11 : decode cX5_link 11 = .ok (.ireturn, 1) := by decide +kernel
theorem dX5_link_12 : decode cX5_link 12 = .ok (.aload_n 0, 1) := by decide +kernel
theorem dX5_link_13 : decode cX5_link 13 = .ok (.iload_n 1, 1) := by decide +kernel
theorem dX5_link_14 : decode cX5_link 14 = .ok (.iload_n 2, 1) := by decide +kernel
theorem dX5_link_15 : decode cX5_link 15 = .ok (.iload_n 3, 1) := by decide +kernel
theorem dX5_link_16 : decode cX5_link 16 = .ok (.invokevirtual 178, 3) := by decide +kernel
theorem dX5_link_19 : decode cX5_link 19 = .ok (.aload_n 0, 1) := by decide +kernel
theorem dX5_link_20 : decode cX5_link 20 = .ok (.getfield 37, 3) := by decide +kernel
theorem dX5_link_23 : decode cX5_link 23 = .ok (.invokevirtual 182, 3) := by decide +kernel
theorem dX5_link_26 : decode cX5_link 26 = .ok (.ireturn, 1) := by decide +kernel
set_option maxRecDepth 20000 in
theorem ggX5_half_X5_canLink : GoodIn wsX5_half wsX5_canLink := goodIn_r _ [6, 7, 8, 9, 5, 10, 11, 12, 13, 14, 15, 16, 17, 18, 19, 20, 21, 22, 23, 24, 25, 26, 27, 28, 29, 30, 31, 32, 33, 34, 35, 36, 37, 38, 39, 40, 41, 42, 43, 44, 45, 46, 47, 48, 49, 50, 141, 142, 143, 144, 145, 146, 147, 148, 149, 150, 151, 152, 153, 154, 155, 156] (by decide +kernel) (by decide +kernel)
set_option maxRecDepth 20000 in
theorem gX5_half_X5_canLink : GoodIn wsX5_half (wsV RX5 174 RX5 yX5_canLink wsX5_canLink) := goodIn_app (goodIn_of _ (by decide +kernel)) ggX5_half_X5_canLink
set_option maxRecDepth 20000 in
theorem ggX5_half_X5_askLink : GoodIn wsX5_half wsX5_askLink := goodIn_r _ [54, 1, 7, 21, 22, 23, 5, 24, 25, 26, 18, 19, 20, 27, 28, 29, 55, 56, 57, 58, 59, 60, 61, 62, 63, 64, 65, 66, 67, 68, 14, 69, 16, 70, 71, 72, 73, 17, 74, 75, 76, 77, 78, 79, 80, 81, 82, 83, 84, 85, 86, 87, 88, 89, 90, 91, 40, 41, 42, 43, 92, 45, 46, 47, 48, 49, 50, 93, 94, 95, 96, 97, 98, 99, 100, 101, 102, 103, 104, 105, 106, 107, 108, 109, 110, 111, 112, 113, 114, 115, 116, 117, 141, 142, 143, 144, 145, 146, 147, 148, 149, 157, 158, 159, 160, 161, 162, 163, 164, 165, 166, 167, 168, 169, 170, 171, 150, 151, 152, 153, 154, 155, 156, 172] (by decide +kernel) (by decide +kernel)
set_option maxRecDepth 20000 in
theorem gX5_half_X5_askLink : GoodIn wsX5_half (wsV RX5 178 RX5 yX5_askLink wsX5_askLink) := goodIn_app (goodIn_of _ (by decide +kernel)) ggX5_half_X5_askLink
set_option maxRecDepth 20000 in
theorem ggX5_half_X1_strength : GoodIn wsX5_half wsX1_strength := goodIn_r _ [121, 122, 123, 124, 58, 125, 84, 126, 127, 128, 88, 85, 89, 90, 129, 130, 131, 96, 132, 98, 28, 5, 29, 114, 115, 116, 117, 157, 158, 159, 160, 161, 162, 163, 164, 165, 166, 167, 168, 169, 170, 171, 172] (by decide +kernel) (by decide +kernel)
set_option maxRecDepth 20000 in
theorem gX5_half_X1_strength : GoodIn wsX5_half (wsV RX5 182 RX1 yX1_strength wsX1_strength) := goodIn_app (goodIn_of _ (by decide +kernel)) ggX5_half_X1_strength
set_option maxRecDepth 20000 in
theorem ggX5_half_X1_winningField : GoodIn wsX5_half wsX1_winningField := goodIn_r _ [136, 84, 79, 28, 5, 29, 137, 138, 139, 58, 140, 126, 127, 128, 88, 85, 89, 90, 129, 130, 131, 96, 132, 98, 114, 115, 116, 117, 157, 158, 159, 160, 161, 162, 163, 164, 165, 166, 167, 168, 169, 170, 171, 172] (by decide +kernel) (by decide +kernel)
set_option maxRecDepth 20000 in
theorem gX5_half_X1_winningField : GoodIn wsX5_half (wsV RX5 161 RX1 yX1_winningField wsX1_winningField) := goodIn_app (goodIn_of _ (by decide +kernel)) ggX5_half_X1_winningField
theorem dX5_half_0 : decode cX5_half 0 = .ok (.aload_n 0, 1) := by decide +kernel
theorem dX5_half_1 : decode cX5_half 1 = .ok (.iload_n 1, 1) := by decide +kernel
theorem dX5_half_2 : decode cX5_half 2 = .ok (.iload_n 2, 1) := by decide +kernel
theorem dX5_half_3 : decode cX5_half 3 = .ok (.iload_n 3, 1) := by decide +kernel
theorem dX5_half_4 : decode cX5_half 4 = .ok (.invokevirtual 174, 3) := by decide +kernel
theorem dX5_half_7 : decode cX5_half 7 = .ok (.ifCond .ne 5, 3) := by decide +kernel
theorem dX5_half_10 : decode cX5_half 10 = .ok (.iconst (-1), 1) := by decide +kernel
theorem dX5_half_11 : decode cX5_half 11 = .ok (.ireturn, 1) := by decide +kernel
theorem dX5_half_12 : decode cX5_half 12 = .ok (.aload_n 0, 1) := by decide +kernel
theorem dX5_half_13 : decode cX5_half 13 = .ok (.iload_n 1, 1) := by decide +kernel
theorem dX5_half_14 : decode cX5_half 14 = .ok (.iload_n 2, 1) := by decide +kernel
theorem dX5_half_15 : decode cX5_half 15 = .ok (.iload_n 3, 1) := by decide +kernel
theorem dX5_half_16 : decode cX5_half 16 = .ok (.invokevirtual 178, 3) := by decide +kernel
theorem dX5_half_19 : decode cX5_half 19 = .ok (.aload_n 0, 1) := by decide +kernel
theorem dX5_half_20 : decode cX5_half 20 = .ok (.getfield 37, 3) := by decide +kernel
theorem dX5_half_23 : decode cX5_half 23 = .ok (.invokevirtual 182, 3) := by decide +kernel
theorem dX5_half_26 : decode cX5_half 26 = .ok (.iconst 1, 1) := by decide +kernel
theorem dX5_half_27 : decode cX5_half 27 = .ok (.if_icmp .ne 16, 3) := by decide +kernel
theorem dX5_half_30 : decode cX5_half 30 = .ok (.aload_n 0, 1) := by decide +kernel
theorem dX5_half_31 : decode cX5_half 31 = .ok (.getfield 37, 3) := by decide +kernel
theorem dX5_half_34 : decode cX5_half 34 = .ok (.iconst 1, 1) := by decide +kernel
theorem dX5_half_35 : decode cX5_half 35 = .ok (.iload 4, 2) := by decide +kernel
theorem dX5_half_37 : decode cX5_half 37 = .ok (.invokevirtual 161, 3) := by decide +kernel
theorem dX5_half_40 : decode cX5_half 40 = .ok (.goto 4, 3) := by decide +kernel
theorem dX5_half_43 : decode cX5_half 43 = .ok (.iconst (-1), 1) := by decide +kernel
theorem dX5_half_44 : decode cX5_half 44 = .ok (.ireturn, 1) := by decide +kernel
set_option maxRecDepth 20000 in
theorem ggX5_count_X2_rows : GoodIn wsX5_count wsX2_rows := goodIn_r _ [11, 12, 205, 206, 207, 208, 209, 210, 211] (by decide +kernel) (by decide +kernel)
set_option maxRecDepth 20000 in
theorem gX5_count_X2_rows : GoodIn wsX5_count (wsV RX5 83 RX2 yX2_rows wsX2_rows) := goodIn_app (goodIn_of _ (by decide +kernel)) ggX5_count_X2_rows
set_option maxRecDepth 20000 in
theorem ggX5_count_X2_columns : GoodIn wsX5_count wsX2_columns := goodIn_r _ [16, 17, 205, 206, 207, 208, 209, 210, 211] (by decide +kernel) (by decide +kernel)
set_option maxRecDepth 20000 in
theorem gX5_count_X2_columns : GoodIn wsX5_count (wsV RX5 86 RX2 yX2_columns wsX2_columns) := goodIn_app (goodIn_of _ (by decide +kernel)) ggX5_count_X2_columns
set_option maxRecDepth 20000 in
theorem ggX5_count_X5_empties : GoodIn wsX5_count wsX5_empties := goodIn_r _ [22, 1, 4, 5, 23, 24, 25, 26, 10, 27, 28, 196, 197, 198, 199, 200, 201, 202, 203, 204, 205, 206, 207, 208, 209, 210, 211] (by decide +kernel) (by decide +kernel)
set_option maxRecDepth 20000 in
theorem gX5_count_X5_empties : GoodIn wsX5_count (wsV RX5 140 RX5 yX5_empties wsX5_empties) := goodIn_app (goodIn_of _ (by decide +kernel)) ggX5_count_X5_empties
set_option maxRecDepth 20000 in
theorem ggX5_count_J13_bitCount_95d88 : GoodIn wsX5_count wsJ13_bitCount_95d88 := goodIn_r _ [32, 33, 34, 35] (by decide +kernel) (by decide +kernel)
set_option maxRecDepth 20000 in
theorem gX5_count_J13_bitCount_95d88 : GoodIn wsX5_count (va_wsS RX5 129 yJ13_bitCount_95d88 wsJ13_bitCount_95d88) := goodIn_app (goodIn_of _ (by decide +kernel)) ggX5_count_J13_bitCount_95d88
set_option maxRecDepth 20000 in
theorem ggX5_count_X0_done : GoodIn wsX5_count wsX0_done := goodIn_r _ [40, 41, 212, 213, 214] (by decide +kernel) (by decide +kernel)
set_option maxRecDepth 20000 in
theorem gX5_count_X0_done : GoodIn wsX5_count (wsV RX5 89 RX0 yX0_done wsX0_done) := goodIn_app (goodIn_of _ (by decide +kernel)) ggX5_count_X0_done
set_option maxRecDepth 20000 in
theorem ggX5_count_X0_undone : GoodIn wsX5_count wsX0_undone := goodIn_r _ [45, 46, 41, 212, 213, 214] (by decide +kernel) (by decide +kernel)
set_option maxRecDepth 20000 in
theorem gX5_count_X0_undone : GoodIn wsX5_count (wsV RX5 185 RX0 yX0_undone wsX0_undone) := goodIn_app (goodIn_of _ (by decide +kernel)) ggX5_count_X0_undone
set_option maxRecDepth 20000 in
theorem ggX5_count_X2_groupsOf : GoodIn wsX5_count wsX2_groupsOf := goodIn_r _ [50, 51, 52, 53, 54, 10, 55, 56, 57, 58, 59, 60, 61, 17, 28, 205, 206, 207, 208, 209, 210, 211] (by decide +kernel) (by decide +kernel)
set_option maxRecDepth 20000 in
theorem gX5_count_X2_groupsOf : GoodIn wsX5_count (wsV RX5 188 RX2 yX2_groupsOf wsX2_groupsOf) := goodIn_app (goodIn_of _ (by decide +kernel)) ggX5_count_X2_groupsOf
set_option maxRecDepth 20000 in
theorem ggX5_count_X5_howManyDead : GoodIn wsX5_count wsX5_howManyDead := goodIn_r _ [65, 66, 67, 68, 69, 21, 70, 18, 19, 20, 22, 1, 4, 5, 23, 24, 25, 26, 10, 27, 28, 29, 30, 31, 32, 33, 34, 35, 71, 72, 73, 74, 75, 76, 77, 78, 79, 80, 81, 82, 83, 84, 85, 86, 87, 88, 89, 90, 91, 92, 93, 94, 95, 96, 8, 9, 11, 12, 97, 14, 15, 16, 17, 98, 99, 100, 101, 102, 103, 104, 105, 106, 107, 108, 109, 110, 111, 112, 113, 114, 115, 116, 117, 118, 119, 120, 121, 122, 123, 124, 125, 126, 127, 53, 54, 55, 56, 57, 58, 59, 60, 51, 61, 128, 129, 130, 131, 132, 133, 134, 135, 136, 137, 138, 139, 140, 141, 142, 143, 144, 145, 146, 147, 148, 149, 150, 196, 197, 198, 199, 200, 201, 202, 203, 204, 205, 206, 207, 208, 209, 210, 211, 215, 216, 217, 218, 219, 220, 221, 222, 223, 224, 225, 226, 227, 228, 229, 230] (by decide +kernel) (by decide +kernel)
set_option maxRecDepth 20000 in
theorem gX5_count_X5_howManyDead : GoodIn wsX5_count (wsV RX5 191 RX5 yX5_howManyDead wsX5_howManyDead) := goodIn_app (goodIn_of _ (by decide +kernel)) ggX5_count_X5_howManyDead
set_option maxRecDepth 20000 in
theorem ggX5_count_X5_findPath : GoodIn wsX5_count wsX5_findPath := goodIn_r _ [154, 6, 1, 4, 5, 155, 156, 157, 21, 158, 75, 76, 77, 10, 78, 79, 80, 81, 82, 83, 84, 159, 160, 161, 162, 52, 53, 54, 55, 56, 57, 58, 59, 60, 51, 61, 17, 28, 163, 164, 165, 166, 167, 168, 169, 170, 171, 172, 173, 174, 175, 176, 177, 178, 179, 180, 181, 182, 183, 184, 185, 186, 187, 188, 189, 29, 30, 31, 32, 33, 34, 35, 132, 133, 190, 191, 196, 197, 198, 199, 200, 201, 202, 203, 204, 205, 206, 207, 208, 209, 210, 211, 231, 232, 233] (by decide +kernel) (by decide +kernel)
set_option maxRecDepth 20000 in
theorem gX5_count_X5_findPath : GoodIn wsX5_count (wsV RX5 144 RX5 yX5_findPath wsX5_findPath) := goodIn_app (goodIn_of _ (by decide +kernel)) ggX5_count_X5_findPath
set_option maxRecDepth 20000 in
theorem ggX5_count_X4_length : GoodIn wsX5_count wsX4_length := goodIn_r _ [195, 182, 231, 232, 233] (by decide +kernel) (by decide +kernel)
set_option maxRecDepth 20000 in
theorem gX5_count_X4_length : GoodIn wsX5_count (wsV RX5 194 RX4 yX4_length wsX4_length) := goodIn_app (goodIn_of _ (by decide +kernel)) ggX5_count_X4_length
theorem dX5_count_0 : decode cX5_count 0 = .ok (.iload_n 1, 1) := by decide +kernel
theorem dX5_count_1 : decode cX5_count 1 = .ok (.tableswitch 141 0 9 #[55, 63, 71, 79, 84, 92, 100, 112, 124, 129], 55) := by decide +kernel
theorem dX5_count_56 : decode cX5_count 56 = .ok (.aload_n 0, 1) := by decide +kernel
theorem dX5_count_57 : decode cX5_count 57 = .ok (.getfield 12, 3) := by decide +kernel
theorem dX5_count_60 : decode cX5_count 60 = .ok (.invokevirtual 83, 3) := by decide +kernel
theorem dX5_count_63 : decode cX5_count 63 = .ok (.ireturn, 1) := by decide +kernel
theorem dX5_count_64 : decode cX5_count 64 = .ok (.aload_n 0, 1) := by decide +kernel
theorem dX5_count_65 : decode cX5_count 65 = .ok (.getfield 12, 3) := by decide +kernel
theorem dX5_count_68 : decode cX5_count 68 = .ok (.invokevirtual 86, 3) := by decide +kernel
theorem dX5_count_71 : decode cX5_count 71 = .ok (.ireturn, 1) := by decide +kernel
theorem dX5_count_72 : decode cX5_count 72 = .ok (.aload_n 0, 1) := by decide +kernel
theorem dX5_count_73 : decode cX5_count 73 = .ok (.invokevirtual 140, 3) := by decide +kernel
theorem dX5_count_76 : decode cX5_count 76 = .ok (.invokestatic 129, 3) := by decide +kernel
theorem dX5_count_79 : decode cX5_count 79 = .ok (.ireturn, 1) := by decide +kernel
theorem dX5_count_80 : decode cX5_count 80 = .ok (.aload_n 0, 1) := by decide +kernel
theorem dX5_count_81 : decode cX5_count 81 = .ok (.getfield 57, 3) := by decide +kernel
theorem dX5_count_84 : decode cX5_count 84 = .ok (.ireturn, 1) := by decide +kernel
theorem dX5_count_85 : decode cX5_count 85 = .ok (.aload_n 0, 1) := by decide +kernel
theorem dX5_count_86 : decode cX5_count 86 = .ok (.getfield 19, 3) := by decide +kernel
theorem dX5_count_89 : decode cX5_count 89 = .ok (.invokevirtual 89, 3) := by decide +kernel
theorem dX5_count_92 : decode cX5_count 92 = .ok (.ireturn, 1) := by decide +kernel
theorem dX5_count_93 : decode cX5_count 93 = .ok (.aload_n 0, 1) := by decide +kernel
theorem dX5_count_94 : decode cX5_count 94 = .ok (.getfield 19, 3) := by decide +kernel
theorem dX5_count_97 : decode cX5_count 97 = .ok (.invokevirtual 185, 3) := by decide +kernel
theorem dX5_count_100 : decode cX5_count 100 = .ok (.ireturn, 1) := by decide +kernel
theorem dX5_count_101 : decode cX5_count 101 = .ok (.aload_n 0, 1) := by decide +kernel
theorem dX5_count_102 : decode cX5_count 102 = .ok (.getfield 12, 3) := by decide +kernel
theorem dX5_count_105 : decode cX5_count 105 = .ok (.aload_n 0, 1) := by decide +kernel
theorem dX5_count_106 : decode cX5_count 106 = .ok (.getfield 115, 3) := by decide +kernel
theorem dX5_count_109 : decode cX5_count 109 = .ok (.invokevirtual 188, 3) := by decide +kernel
theorem dX5_count_112 : decode cX5_count 112 = .ok (.ireturn, 1) := by decide +kernel
theorem dX5_count_113 : decode cX5_count 113 = .ok (.aload_n 0, 1) := by decide +kernel
theorem dX5_count_114 : decode cX5_count 114 = .ok (.getfield 12, 3) := by decide +kernel
theorem dX5_count_117 : decode cX5_count 117 = .ok (.aload_n 0, 1) := by decide +kernel
theorem dX5_count_118 : decode cX5_count 118 = .ok (.getfield 107, 3) := by decide +kernel
theorem dX5_count_121 : decode cX5_count 121 = .ok (.invokevirtual 188, 3) := by decide +kernel
theorem dX5_count_124 : decode cX5_count 124 = .ok (.ireturn, 1) := by decide +kernel
theorem dX5_count_125 : decode cX5_count 125 = .ok (.aload_n 0, 1) := by decide +kernel
theorem dX5_count_126 : decode cX5_count 126 = .ok (.invokevirtual 191, 3) := by decide +kernel
theorem dX5_count_129 : decode cX5_count 129 = .ok (.ireturn, 1) := by decide +kernel
theorem dX5_count_130 : decode cX5_count 130 = .ok (.aload_n 0, 1) := by decide +kernel
theorem dX5_count_131 : decode cX5_count 131 = .ok (.invokevirtual 144, 3) := by decide +kernel
theorem dX5_count_134 : decode cX5_count 134 = .ok (.aload_n 0, 1) := by decide +kernel
theorem dX5_count_135 : decode cX5_count 135 = .ok (.getfield 26, 3) := by decide +kernel
theorem dX5_count_138 : decode cX5_count 138 = .ok (.invokevirtual 194, 3) := by decide +kernel
theorem dX5_count_141 : decode cX5_count 141 = .ok (.ireturn, 1) := by decide +kernel
theorem dX5_count_142 : decode cX5_count 142 = .ok (.iconst (-1), 1) := by decide +kernel
theorem dX5_count_143 : decode cX5_count 143 = .ok (.ireturn, 1) := by decide +kernel
theorem dX5_isSide_0 : decode cX5_isSide 0 = .ok (.iload_n 0, 1) := by decide +kernel
theorem dX5_isSide_1 : decode cX5_isSide 1 = .ok (.iconst 1, 1) := by decide +kernel
theorem dX5_isSide_2 : decode cX5_isSide 2 = .ok (.if_icmp .lt 13, 3) := by decide +kernel
theorem dX5_isSide_5 : decode cX5_isSide 5 = .ok (.iload_n 0, 1) := by decide +kernel
theorem dX5_isSide_6 : decode cX5_isSide 6 = .ok (.bipush 6, 2) := by decide +kernel
theorem dX5_isSide_8 : decode cX5_isSide 8 = .ok (.if_icmp .gt 7, 3) := by decide +kernel
theorem dX5_isSide_11 : decode cX5_isSide 11 = .ok (.iconst 1, 1) := by decide +kernel
theorem dX5_isSide_12 : decode cX5_isSide 12 = .ok (.goto 4, 3) := by decide +kernel
theorem dX5_isSide_15 : decode cX5_isSide 15 = .ok (.iconst 0, 1) := by decide +kernel
theorem dX5_isSide_16 : decode cX5_isSide 16 = .ok (.ireturn, 1) := by decide +kernel
theorem dX5_isColour_0 : decode cX5_isColour 0 = .ok (.iload_n 0, 1) := by decide +kernel
theorem dX5_isColour_1 : decode cX5_isColour 1 = .ok (.iconst 1, 1) := by decide +kernel
theorem dX5_isColour_2 : decode cX5_isColour 2 = .ok (.if_icmp .eq 8, 3) := by decide +kernel
theorem dX5_isColour_5 : decode cX5_isColour 5 = .ok (.iload_n 0, 1) := by decide +kernel
theorem dX5_isColour_6 : decode cX5_isColour 6 = .ok (.iconst 2, 1) := by decide +kernel
theorem dX5_isColour_7 : decode cX5_isColour 7 = .ok (.if_icmp .ne 7, 3) := by decide +kernel
theorem dX5_isColour_10 : decode cX5_isColour 10 = .ok (.iconst 1, 1) := by decide +kernel
theorem dX5_isColour_11 : decode cX5_isColour 11 = .ok (.goto 4, 3) := by decide +kernel
theorem dX5_isColour_14 : decode cX5_isColour 14 = .ok (.iconst 0, 1) := by decide +kernel
theorem dX5_isColour_15 : decode cX5_isColour 15 = .ok (.ireturn, 1) := by decide +kernel
theorem dX5_other_0 : decode cX5_other 0 = .ok (.iload_n 0, 1) := by decide +kernel
theorem dX5_other_1 : decode cX5_other 1 = .ok (.iconst 1, 1) := by decide +kernel
theorem dX5_other_2 : decode cX5_other 2 = .ok (.if_icmp .ne 7, 3) := by decide +kernel
theorem dX5_other_5 : decode cX5_other 5 = .ok (.iconst 2, 1) := by decide +kernel
theorem dX5_other_6 : decode cX5_other 6 = .ok (.goto 4, 3) := by decide +kernel
theorem dX5_other_9 : decode cX5_other 9 = .ok (.iconst 1, 1) := by decide +kernel
theorem dX5_other_10 : decode cX5_other 10 = .ok (.ireturn, 1) := by decide +kernel
theorem dX5_bit_0 : decode cX5_bit 0 = .ok (.lconst 1, 1) := by decide +kernel
theorem dX5_bit_1 : decode cX5_bit 1 = .ok (.iload_n 0, 1) := by decide +kernel
theorem dX5_bit_2 : decode cX5_bit 2 = .ok (.lshl, 1) := by decide +kernel
theorem dX5_bit_3 : decode cX5_bit 3 = .ok (.lreturn, 1) := by decide +kernel
set_option maxRecDepth 20000 in
theorem ggX5_lowest_J13_bitCount_95d88 : GoodIn wsX5_lowest wsJ13_bitCount_95d88 := goodIn_r _ [4, 5, 6, 7] (by decide +kernel) (by decide +kernel)
set_option maxRecDepth 20000 in
theorem gX5_lowest_J13_bitCount_95d88 : GoodIn wsX5_lowest (va_wsS RX5 129 yJ13_bitCount_95d88 wsJ13_bitCount_95d88) := goodIn_app (goodIn_of _ (by decide +kernel)) ggX5_lowest_J13_bitCount_95d88
theorem dX5_lowest_0 : decode cX5_lowest 0 = .ok (.lload_n 0, 1) := by decide +kernel
theorem dX5_lowest_1 : decode cX5_lowest 1 = .ok (.lload_n 0, 1) := by decide +kernel
theorem dX5_lowest_2 : decode cX5_lowest 2 = .ok (.lneg, 1) := by decide +kernel
theorem dX5_lowest_3 : decode cX5_lowest 3 = .ok (.land, 1) := by decide +kernel
theorem dX5_lowest_4 : decode cX5_lowest 4 = .ok (.lconst 1, 1) := by decide +kernel
theorem dX5_lowest_5 : decode cX5_lowest 5 = .ok (.lsub, 1) := by decide +kernel
theorem dX5_lowest_6 : decode cX5_lowest 6 = .ok (.invokestatic 129, 3) := by decide +kernel
theorem dX5_lowest_9 : decode cX5_lowest 9 = .ok (.ireturn, 1) := by decide +kernel
set_option maxRecDepth 20000 in
theorem ggX5_makeEmpty_X2_shape : GoodIn wsX5_makeEmpty wsX2_shape := goodIn_r _ [11, 12, 13, 14, 15, 16, 17, 18, 19, 20, 21, 38, 39, 40, 41, 42, 43, 44] (by decide +kernel) (by decide +kernel)
set_option maxRecDepth 20000 in
theorem gX5_makeEmpty_X2_shape : GoodIn wsX5_makeEmpty (wsV RX5 118 RX2 yX2_shape wsX2_shape) := goodIn_app (goodIn_of _ (by decide +kernel)) ggX5_makeEmpty_X2_shape
set_option maxRecDepth 20000 in
theorem ggX5_makeEmpty_X0_forget : GoodIn wsX5_makeEmpty wsX0_forget := goodIn_r _ [26, 27, 28, 45, 46, 47] (by decide +kernel) (by decide +kernel)
set_option maxRecDepth 20000 in
theorem gX5_makeEmpty_X0_forget : GoodIn wsX5_makeEmpty (wsV RX5 65 RX0 yX0_forget wsX0_forget) := goodIn_app (goodIn_of _ (by decide +kernel)) ggX5_makeEmpty_X0_forget
theorem dX5_makeEmpty_0 : decode cX5_makeEmpty 0 = .ok (.aload_n 0, 1) := by decide +kernel
theorem dX5_makeEmpty_1 : decode cX5_makeEmpty 1 = .ok (.getfield 12, 3) := by decide +kernel
theorem dX5_makeEmpty_4 : decode cX5_makeEmpty 4 = .ok (.iload_n 1, 1) := by decide +kernel
theorem dX5_makeEmpty_5 : decode cX5_makeEmpty 5 = .ok (.iload_n 2, 1) := by decide +kernel
theorem dX5_makeEmpty_6 : decode cX5_makeEmpty 6 = .ok (.invokevirtual 118, 3) := by decide +kernel
theorem dX5_makeEmpty_9 : decode cX5_makeEmpty 9 = .ok (.aload_n 0, 1) := by decide +kernel
theorem dX5_makeEmpty_10 : decode cX5_makeEmpty 10 = .ok (.lconst 0, 1) := by decide +kernel
theorem dX5_makeEmpty_11 : decode cX5_makeEmpty 11 = .ok (.putfield 115, 3) := by decide +kernel
theorem dX5_makeEmpty_14 : decode cX5_makeEmpty 14 = .ok (.aload_n 0, 1) := by decide +kernel
theorem dX5_makeEmpty_15 : decode cX5_makeEmpty 15 = .ok (.lconst 0, 1) := by decide +kernel
theorem dX5_makeEmpty_16 : decode cX5_makeEmpty 16 = .ok (.putfield 107, 3) := by decide +kernel
theorem dX5_makeEmpty_19 : decode cX5_makeEmpty 19 = .ok (.aload_n 0, 1) := by decide +kernel
theorem dX5_makeEmpty_20 : decode cX5_makeEmpty 20 = .ok (.iconst 1, 1) := by decide +kernel
theorem dX5_makeEmpty_21 : decode cX5_makeEmpty 21 = .ok (.putfield 57, 3) := by decide +kernel
theorem dX5_makeEmpty_24 : decode cX5_makeEmpty 24 = .ok (.aload_n 0, 1) := by decide +kernel
theorem dX5_makeEmpty_25 : decode cX5_makeEmpty 25 = .ok (.iconst 1, 1) := by decide +kernel
theorem dX5_makeEmpty_26 : decode cX5_makeEmpty 26 = .ok (.putfield 61, 3) := by decide +kernel
theorem dX5_makeEmpty_29 : decode cX5_makeEmpty 29 = .ok (.aload_n 0, 1) := by decide +kernel
theorem dX5_makeEmpty_30 : decode cX5_makeEmpty 30 = .ok (.getfield 19, 3) := by decide +kernel
theorem dX5_makeEmpty_33 : decode cX5_makeEmpty 33 = .ok (.invokevirtual 65, 3) := by decide +kernel
theorem dX5_makeEmpty_36 : decode cX5_makeEmpty 36 = .ok (.return_, 1) := by decide +kernel
set_option maxRecDepth 20000 in
theorem ggX5_stoneAt_X5_bit : GoodIn wsX5_stoneAt wsX5_bit := goodIn_r _ [6] (by decide +kernel) (by decide +kernel)
set_option maxRecDepth 20000 in
theorem gX5_stoneAt_X5_bit : GoodIn wsX5_stoneAt (va_wsS RX5 171 yX5_bit wsX5_bit) := goodIn_app (goodIn_of _ (by decide +kernel)) ggX5_stoneAt_X5_bit
theorem dX5_stoneAt_0 : decode cX5_stoneAt 0 = .ok (.aload_n 0, 1) := by decide +kernel
theorem dX5_stoneAt_1 : decode cX5_stoneAt 1 = .ok (.getfield 115, 3) := by decide +kernel
theorem dX5_stoneAt_4 : decode cX5_stoneAt 4 = .ok (.iload_n 1, 1) := by decide +kernel
theorem dX5_stoneAt_5 : decode cX5_stoneAt 5 = .ok (.invokestatic 171, 3) := by decide +kernel
theorem dX5_stoneAt_8 : decode cX5_stoneAt 8 = .ok (.land, 1) := by decide +kernel
theorem dX5_stoneAt_9 : decode cX5_stoneAt 9 = .ok (.lconst 0, 1) := by decide +kernel
theorem dX5_stoneAt_10 : decode cX5_stoneAt 10 = .ok (.lcmp, 1) := by decide +kernel
theorem dX5_stoneAt_11 : decode cX5_stoneAt 11 = .ok (.ifCond .eq 5, 3) := by decide +kernel
theorem dX5_stoneAt_14 : decode cX5_stoneAt 14 = .ok (.iconst 1, 1) := by decide +kernel
theorem dX5_stoneAt_15 : decode cX5_stoneAt 15 = .ok (.ireturn, 1) := by decide +kernel
theorem dX5_stoneAt_16 : decode cX5_stoneAt 16 = .ok (.aload_n 0, 1) := by decide +kernel
theorem dX5_stoneAt_17 : decode cX5_stoneAt 17 = .ok (.getfield 107, 3) := by decide +kernel
theorem dX5_stoneAt_20 : decode cX5_stoneAt 20 = .ok (.iload_n 1, 1) := by decide +kernel
theorem dX5_stoneAt_21 : decode cX5_stoneAt 21 = .ok (.invokestatic 171, 3) := by decide +kernel
theorem dX5_stoneAt_24 : decode cX5_stoneAt 24 = .ok (.land, 1) := by decide +kernel
theorem dX5_stoneAt_25 : decode cX5_stoneAt 25 = .ok (.lconst 0, 1) := by decide +kernel
theorem dX5_stoneAt_26 : decode cX5_stoneAt 26 = .ok (.lcmp, 1) := by decide +kernel
theorem dX5_stoneAt_27 : decode cX5_stoneAt 27 = .ok (.ifCond .eq 7, 3) := by decide +kernel
theorem dX5_stoneAt_30 : decode cX5_stoneAt 30 = .ok (.iconst 2, 1) := by decide +kernel
theorem dX5_stoneAt_31 : decode cX5_stoneAt 31 = .ok (.goto 4, 3) := by decide +kernel
theorem dX5_stoneAt_34 : decode cX5_stoneAt 34 = .ok (.iconst 0, 1) := by decide +kernel
theorem dX5_stoneAt_35 : decode cX5_stoneAt 35 = .ok (.ireturn, 1) := by decide +kernel
set_option maxRecDepth 20000 in
theorem ggX5_put_X5_bit : GoodIn wsX5_put wsX5_bit := goodIn_r _ [7] (by decide +kernel) (by decide +kernel)
set_option maxRecDepth 20000 in
theorem gX5_put_X5_bit : GoodIn wsX5_put (va_wsS RX5 171 yX5_bit wsX5_bit) := goodIn_app (goodIn_of _ (by decide +kernel)) ggX5_put_X5_bit
theorem dX5_put_0 : decode cX5_put 0 = .ok (.aload_n 0, 1) := by decide +kernel
theorem dX5_put_1 : decode cX5_put 1 = .ok (.dup, 1) := by decide +kernel
theorem dX5_put_2 : decode cX5_put 2 = .ok (.getfield 115, 3) := by decide +kernel
theorem dX5_put_5 : decode cX5_put 5 = .ok (.iload_n 1, 1) := by decide +kernel
theorem dX5_put_6 : decode cX5_put 6 = .ok (.invokestatic 171, 3) := by decide +kernel
theorem dX5_put_9 : decode cX5_put 9 = .ok (.ldc2_w 197, 3) := by decide +kernel
theorem dX5_put_12 : decode cX5_put 12 = .ok (.lxor, 1) := by decide +kernel
theorem dX5_put_13 : decode cX5_put 13 = .ok (.land, 1) := by decide +kernel
theorem dX5_put_14 : decode cX5_put 14 = .ok (.putfield 115, 3) := by decide +kernel
theorem dX5_put_17 : decode cX5_put 17 = .ok (.aload_n 0, 1) := by decide +kernel
theorem dX5_put_18 : decode cX5_put 18 = .ok (.dup, 1) := by decide +kernel
theorem dX5_put_19 : decode cX5_put 19 = .ok (.getfield 107, 3) := by decide +kernel
theorem dX5_put_22 : decode cX5_put 22 = .ok (.iload_n 1, 1) := by decide +kernel
theorem dX5_put_23 : decode cX5_put 23 = .ok (.invokestatic 171, 3) := by decide +kernel
theorem dX5_put_26 : decode cX5_put 26 = .ok (.ldc2_w 197, 3) := by decide +kernel
theorem dX5_put_29 : decode cX5_put 29 = .ok (.lxor, 1) := by decide +kernel
theorem dX5_put_30 : decode cX5_put 30 = .ok (.land, 1) := by decide +kernel
theorem dX5_put_31 : decode cX5_put 31 = .ok (.putfield 107, 3) := by decide +kernel
theorem dX5_put_34 : decode cX5_put 34 = .ok (.iload_n 2, 1) := by decide +kernel
theorem dX5_put_35 : decode cX5_put 35 = .ok (.iconst 1, 1) := by decide +kernel
theorem dX5_put_36 : decode cX5_put 36 = .ok (.if_icmp .ne 19, 3) := by decide +kernel
theorem dX5_put_39 : decode cX5_put 39 = .ok (.aload_n 0, 1) := by decide +kernel
theorem dX5_put_40 : decode cX5_put 40 = .ok (.dup, 1) := by decide +kernel
theorem dX5_put_41 : decode cX5_put 41 = .ok (.getfield 115, 3) := by decide +kernel
theorem dX5_put_44 : decode cX5_put 44 = .ok (.iload_n 1, 1) := by decide +kernel
theorem dX5_put_45 : decode cX5_put 45 = .ok (.invokestatic 171, 3) := by decide +kernel
theorem dX5_put_48 : decode cX5_put 48 = .ok (.lor, 1) := by decide +kernel
theorem dX5_put_49 : decode cX5_put 49 = .ok (.putfield 115, 3) := by decide +kernel
theorem dX5_put_52 : decode cX5_put 52 = .ok (.goto 21, 3) := by decide +kernel
theorem dX5_put_55 : decode cX5_put 55 = .ok (.iload_n 2, 1) := by decide +kernel
theorem dX5_put_56 : decode cX5_put 56 = .ok (.iconst 2, 1) := by decide +kernel
theorem dX5_put_57 : decode cX5_put 57 = .ok (.if_icmp .ne 16, 3) := by decide +kernel
theorem dX5_put_60 : decode cX5_put 60 = .ok (.aload_n 0, 1) := by decide +kernel
theorem dX5_put_61 : decode cX5_put 61 = .ok (.dup, 1) := by decide +kernel
theorem dX5_put_62 : decode cX5_put 62 = .ok (.getfield 107, 3) := by decide +kernel
theorem dX5_put_65 : decode cX5_put 65 = .ok (.iload_n 1, 1) := by decide +kernel
theorem dX5_put_66 : decode cX5_put 66 = .ok (.invokestatic 171, 3) := by decide +kernel
theorem dX5_put_69 : decode cX5_put 69 = .ok (.lor, 1) := by decide +kernel
theorem dX5_put_70 : decode cX5_put 70 = .ok (.putfield 107, 3) := by decide +kernel
theorem dX5_put_73 : decode cX5_put 73 = .ok (.return_, 1) := by decide +kernel
theorem dX5_stonesOf_0 : decode cX5_stonesOf 0 = .ok (.iload_n 1, 1) := by decide +kernel
theorem dX5_stonesOf_1 : decode cX5_stonesOf 1 = .ok (.iconst 1, 1) := by decide +kernel
theorem dX5_stonesOf_2 : decode cX5_stonesOf 2 = .ok (.if_icmp .ne 10, 3) := by decide +kernel
theorem dX5_stonesOf_5 : decode cX5_stonesOf 5 = .ok (.aload_n 0, 1) := by decide +kernel
theorem dX5_stonesOf_6 : decode cX5_stonesOf 6 = .ok (.getfield 115, 3) := by decide +kernel
theorem dX5_stonesOf_9 : decode cX5_stonesOf 9 = .ok (.goto 7, 3) := by decide +kernel
theorem dX5_stonesOf_12 : decode cX5_stonesOf 12 = .ok (.aload_n 0, 1) := by decide +kernel
theorem dX5_stonesOf_13 : decode cX5_stonesOf 13 = .ok (.getfield 107, 3) := by decide +kernel
theorem dX5_stonesOf_16 : decode cX5_stonesOf 16 = .ok (.lreturn, 1) := by decide +kernel
set_option maxRecDepth 20000 in
theorem ggX5_empties_X2_all : GoodIn wsX5_empties wsX2_all := goodIn_r _ [9, 10, 20, 21, 22, 23, 24, 25, 26] (by decide +kernel) (by decide +kernel)
set_option maxRecDepth 20000 in
theorem gX5_empties_X2_all : GoodIn wsX5_empties (wsV RX5 199 RX2 yX2_all wsX2_all) := goodIn_app (goodIn_of _ (by decide +kernel)) ggX5_empties_X2_all
theorem dX5_empties_0 : decode cX5_empties 0 = .ok (.aload_n 0, 1) := by decide +kernel
theorem dX5_empties_1 : decode cX5_empties 1 = .ok (.getfield 12, 3) := by decide +kernel
theorem dX5_empties_4 : decode cX5_empties 4 = .ok (.invokevirtual 199, 3) := by decide +kernel
theorem dX5_empties_7 : decode cX5_empties 7 = .ok (.aload_n 0, 1) := by decide +kernel
theorem dX5_empties_8 : decode cX5_empties 8 = .ok (.getfield 115, 3) := by decide +kernel
theorem dX5_empties_11 : decode cX5_empties 11 = .ok (.aload_n 0, 1) := by decide +kernel
theorem dX5_empties_12 : decode cX5_empties 12 = .ok (.getfield 107, 3) := by decide +kernel
theorem dX5_empties_15 : decode cX5_empties 15 = .ok (.lor, 1) := by decide +kernel
theorem dX5_empties_16 : decode cX5_empties 16 = .ok (.ldc2_w 197, 3) := by decide +kernel
theorem dX5_empties_19 : decode cX5_empties 19 = .ok (.lxor, 1) := by decide +kernel
theorem dX5_empties_20 : decode cX5_empties 20 = .ok (.land, 1) := by decide +kernel
theorem dX5_empties_21 : decode cX5_empties 21 = .ok (.lreturn, 1) := by decide +kernel
set_option maxRecDepth 20000 in
theorem ggX5_tooManyEmpty_X5_empties : GoodIn wsX5_tooManyEmpty wsX5_empties := goodIn_r _ [5, 6, 7, 8, 9, 10, 11, 12, 13, 14, 15, 23, 24, 25, 26, 27, 28, 29, 30, 31, 32, 33, 34, 35, 36, 37, 38] (by decide +kernel) (by decide +kernel)
set_option maxRecDepth 20000 in
theorem gX5_tooManyEmpty_X5_empties : GoodIn wsX5_tooManyEmpty (wsV RX5 140 RX5 yX5_empties wsX5_empties) := goodIn_app (goodIn_of _ (by decide +kernel)) ggX5_tooManyEmpty_X5_empties
set_option maxRecDepth 20000 in
theorem ggX5_tooManyEmpty_J13_bitCount_95d88 : GoodIn wsX5_tooManyEmpty wsJ13_bitCount_95d88 := goodIn_r _ [19, 20, 21, 22] (by decide +kernel) (by decide +kernel)
set_option maxRecDepth 20000 in
theorem gX5_tooManyEmpty_J13_bitCount_95d88 : GoodIn wsX5_tooManyEmpty (va_wsS RX5 129 yJ13_bitCount_95d88 wsJ13_bitCount_95d88) := goodIn_app (goodIn_of _ (by decide +kernel)) ggX5_tooManyEmpty_J13_bitCount_95d88
theorem dX5_tooManyEmpty_0 : decode cX5_tooManyEmpty 0 = .ok (.aload_n 0, 1) := by decide +kernel
theorem dX5_tooManyEmpty_1 : decode cX5_tooManyEmpty 1 = .ok (.invokevirtual 140, 3) := by decide +kernel
theorem dX5_tooManyEmpty_4 : decode cX5_tooManyEmpty 4 = .ok (.invokestatic 129, 3) := by decide +kernel
theorem dX5_tooManyEmpty_7 : decode cX5_tooManyEmpty 7 = .ok (.bipush 10, 2) := by decide +kernel
theorem dX5_tooManyEmpty_9 : decode cX5_tooManyEmpty 9 = .ok (.if_icmp .le 7, 3) := by decide +kernel
theorem dX5_tooManyEmpty_12 : decode cX5_tooManyEmpty 12 = .ok (.iconst 1, 1) := by decide +kernel
theorem dX5_tooManyEmpty_13 : decode cX5_tooManyEmpty 13 = .ok (.goto 4, 3) := by decide +kernel
theorem dX5_tooManyEmpty_16 : decode cX5_tooManyEmpty 16 = .ok (.iconst 0, 1) := by decide +kernel
theorem dX5_tooManyEmpty_17 : decode cX5_tooManyEmpty 17 = .ok (.ireturn, 1) := by decide +kernel
set_option maxRecDepth 20000 in
theorem ggX5_layStone_X5_put : GoodIn wsX5_layStone wsX5_put := goodIn_r _ [6, 7, 8, 9, 10, 11, 5, 12, 16, 17, 18, 19, 20, 21, 22, 23, 24] (by decide +kernel) (by decide +kernel)
set_option maxRecDepth 20000 in
theorem gX5_layStone_X5_put : GoodIn wsX5_layStone (wsV RX5 54 RX5 yX5_put wsX5_put) := goodIn_app (goodIn_of _ (by decide +kernel)) ggX5_layStone_X5_put
set_option maxRecDepth 20000 in
theorem ggX5_layStone_X5_other : GoodIn wsX5_layStone wsX5_other := goodIn_r _ [15] (by decide +kernel) (by decide +kernel)
set_option maxRecDepth 20000 in
theorem gX5_layStone_X5_other : GoodIn wsX5_layStone (va_wsS RX5 101 yX5_other wsX5_other) := goodIn_app (goodIn_of _ (by decide +kernel)) ggX5_layStone_X5_other
theorem dX5_layStone_0 : decode cX5_layStone 0 = .ok (.aload_n 0, 1) := by decide +kernel
theorem dX5_layStone_1 : decode cX5_layStone 1 = .ok (.iload_n 1, 1) := by decide +kernel
theorem dX5_layStone_2 : decode cX5_layStone 2 = .ok (.aload_n 0, 1) := by decide +kernel
theorem dX5_layStone_3 : decode cX5_layStone 3 = .ok (.getfield 57, 3) := by decide +kernel
theorem dX5_layStone_6 : decode cX5_layStone 6 = .ok (.invokevirtual 54, 3) := by decide +kernel
theorem dX5_layStone_9 : decode cX5_layStone 9 = .ok (.aload_n 0, 1) := by decide +kernel
theorem dX5_layStone_10 : decode cX5_layStone 10 = .ok (.aload_n 0, 1) := by decide +kernel
theorem dX5_layStone_11 : decode cX5_layStone 11 = .ok (.getfield 57, 3) := by decide +kernel
theorem dX5_layStone_14 : decode cX5_layStone 14 = .ok (.invokestatic 101, 3) := by decide +kernel
theorem dX5_layStone_17 : decode cX5_layStone 17 = .ok (.putfield 57, 3) := by decide +kernel
theorem dX5_layStone_20 : decode cX5_layStone 20 = .ok (.return_, 1) := by decide +kernel
set_option maxRecDepth 20000 in
theorem ggX5_takeOver_X2_turned : GoodIn wsX5_takeOver wsX2_turned := goodIn_r _ [9, 10, 11, 12, 13, 14, 24, 25, 26, 27, 28, 29, 30] (by decide +kernel) (by decide +kernel)
set_option maxRecDepth 20000 in
theorem gX5_takeOver_X2_turned : GoodIn wsX5_takeOver (wsV RX5 111 RX2 yX2_turned wsX2_turned) := goodIn_app (goodIn_of _ (by decide +kernel)) ggX5_takeOver_X2_turned
theorem dX5_takeOver_0 : decode cX5_takeOver 0 = .ok (.aload_n 0, 1) := by decide +kernel
end
section
theorem dX5_takeOver_1 : decode cX5_takeOver 1 = .ok (.aload_n 0, 1) := by decide +kernel
theorem dX5_takeOver_2 : decode cX5_takeOver 2 = .ok (.getfield 12, 3) := by decide +kernel
theorem dX5_takeOver_5 : decode cX5_takeOver 5 = .ok (.aload_n 0, 1) := by decide +kernel
theorem dX5_takeOver_6 : decode cX5_takeOver 6 = .ok (.getfield 115, 3) := by decide +kernel
theorem dX5_takeOver_9 : decode cX5_takeOver 9 = .ok (.invokevirtual 111, 3) := by decide +kernel
theorem dX5_takeOver_12 : decode cX5_takeOver 12 = .ok (.putfield 107, 3) := by decide +kernel
theorem dX5_takeOver_15 : decode cX5_takeOver 15 = .ok (.aload_n 0, 1) := by decide +kernel
theorem dX5_takeOver_16 : decode cX5_takeOver 16 = .ok (.lconst 0, 1) := by decide +kernel
theorem dX5_takeOver_17 : decode cX5_takeOver 17 = .ok (.putfield 115, 3) := by decide +kernel
theorem dX5_takeOver_20 : decode cX5_takeOver 20 = .ok (.aload_n 0, 1) := by decide +kernel
theorem dX5_takeOver_21 : decode cX5_takeOver 21 = .ok (.iconst 1, 1) := by decide +kernel
theorem dX5_takeOver_22 : decode cX5_takeOver 22 = .ok (.putfield 57, 3) := by decide +kernel
theorem dX5_takeOver_25 : decode cX5_takeOver 25 = .ok (.return_, 1) := by decide +kernel
set_option maxRecDepth 20000 in
theorem ggX5_giveBack_X2_turned : GoodIn wsX5_giveBack wsX2_turned := goodIn_r _ [9, 10, 11, 12, 13, 14, 24, 25, 26, 27, 28, 29, 30] (by decide +kernel) (by decide +kernel)
set_option maxRecDepth 20000 in
theorem gX5_giveBack_X2_turned : GoodIn wsX5_giveBack (wsV RX5 111 RX2 yX2_turned wsX2_turned) := goodIn_app (goodIn_of _ (by decide +kernel)) ggX5_giveBack_X2_turned
theorem dX5_giveBack_0 : decode cX5_giveBack 0 = .ok (.aload_n 0, 1) := by decide +kernel
theorem dX5_giveBack_1 : decode cX5_giveBack 1 = .ok (.aload_n 0, 1) := by decide +kernel
theorem dX5_giveBack_2 : decode cX5_giveBack 2 = .ok (.getfield 12, 3) := by decide +kernel
theorem dX5_giveBack_5 : decode cX5_giveBack 5 = .ok (.aload_n 0, 1) := by decide +kernel
theorem dX5_giveBack_6 : decode cX5_giveBack 6 = .ok (.getfield 107, 3) := by decide +kernel
theorem dX5_giveBack_9 : decode cX5_giveBack 9 = .ok (.invokevirtual 111, 3) := by decide +kernel
theorem dX5_giveBack_12 : decode cX5_giveBack 12 = .ok (.putfield 115, 3) := by decide +kernel
theorem dX5_giveBack_15 : decode cX5_giveBack 15 = .ok (.aload_n 0, 1) := by decide +kernel
theorem dX5_giveBack_16 : decode cX5_giveBack 16 = .ok (.lconst 0, 1) := by decide +kernel
theorem dX5_giveBack_17 : decode cX5_giveBack 17 = .ok (.putfield 107, 3) := by decide +kernel
theorem dX5_giveBack_20 : decode cX5_giveBack 20 = .ok (.aload_n 0, 1) := by decide +kernel
theorem dX5_giveBack_21 : decode cX5_giveBack 21 = .ok (.iconst 2, 1) := by decide +kernel
theorem dX5_giveBack_22 : decode cX5_giveBack 22 = .ok (.putfield 57, 3) := by decide +kernel
theorem dX5_giveBack_25 : decode cX5_giveBack 25 = .ok (.return_, 1) := by decide +kernel
set_option maxRecDepth 20000 in
theorem ggX5_groupAt_X2_has : GoodIn wsX5_groupAt wsX2_has := goodIn_r _ [6, 7, 8, 44, 45, 46, 47, 48, 49, 50] (by decide +kernel) (by decide +kernel)
set_option maxRecDepth 20000 in
theorem gX5_groupAt_X2_has : GoodIn wsX5_groupAt (wsV RX5 51 RX2 yX2_has wsX2_has) := goodIn_app (goodIn_of _ (by decide +kernel)) ggX5_groupAt_X2_has
set_option maxRecDepth 20000 in
theorem ggX5_groupAt_X5_stoneAt : GoodIn wsX5_groupAt wsX5_stoneAt := goodIn_r _ [13, 14, 15, 16, 17, 12, 18, 35, 36, 37, 38, 39, 40, 41, 42, 43] (by decide +kernel) (by decide +kernel)
set_option maxRecDepth 20000 in
theorem gX5_groupAt_X5_stoneAt : GoodIn wsX5_groupAt (wsV RX5 68 RX5 yX5_stoneAt wsX5_stoneAt) := goodIn_app (goodIn_of _ (by decide +kernel)) ggX5_groupAt_X5_stoneAt
set_option maxRecDepth 20000 in
theorem ggX5_groupAt_X5_bit : GoodIn wsX5_groupAt wsX5_bit := goodIn_r _ [18] (by decide +kernel) (by decide +kernel)
set_option maxRecDepth 20000 in
theorem gX5_groupAt_X5_bit : GoodIn wsX5_groupAt (va_wsS RX5 171 yX5_bit wsX5_bit) := goodIn_app (goodIn_of _ (by decide +kernel)) ggX5_groupAt_X5_bit
set_option maxRecDepth 20000 in
theorem ggX5_groupAt_X5_stonesOf : GoodIn wsX5_groupAt wsX5_stonesOf := goodIn_r _ [22, 14, 15, 35, 36, 37, 38, 39, 40, 41, 42, 43] (by decide +kernel) (by decide +kernel)
set_option maxRecDepth 20000 in
theorem gX5_groupAt_X5_stonesOf : GoodIn wsX5_groupAt (wsV RX5 202 RX5 yX5_stonesOf wsX5_stonesOf) := goodIn_app (goodIn_of _ (by decide +kernel)) ggX5_groupAt_X5_stonesOf
set_option maxRecDepth 20000 in
theorem ggX5_groupAt_X2_spread : GoodIn wsX5_groupAt wsX2_spread := goodIn_r _ [26, 27, 28, 29, 5, 30, 31, 32, 33, 8, 34, 44, 45, 46, 47, 48, 49, 50] (by decide +kernel) (by decide +kernel)
set_option maxRecDepth 20000 in
theorem gX5_groupAt_X2_spread : GoodIn wsX5_groupAt (wsV RX5 205 RX2 yX2_spread wsX2_spread) := goodIn_app (goodIn_of _ (by decide +kernel)) ggX5_groupAt_X2_spread
theorem dX5_groupAt_0 : decode cX5_groupAt 0 = .ok (.aload_n 0, 1) := by decide +kernel
theorem dX5_groupAt_1 : decode cX5_groupAt 1 = .ok (.getfield 12, 3) := by decide +kernel
theorem dX5_groupAt_4 : decode cX5_groupAt 4 = .ok (.iload_n 1, 1) := by decide +kernel
theorem dX5_groupAt_5 : decode cX5_groupAt 5 = .ok (.invokevirtual 51, 3) := by decide +kernel
theorem dX5_groupAt_8 : decode cX5_groupAt 8 = .ok (.ifCond .ne 5, 3) := by decide +kernel
theorem dX5_groupAt_11 : decode cX5_groupAt 11 = .ok (.lconst 0, 1) := by decide +kernel
theorem dX5_groupAt_12 : decode cX5_groupAt 12 = .ok (.lreturn, 1) := by decide +kernel
theorem dX5_groupAt_13 : decode cX5_groupAt 13 = .ok (.aload_n 0, 1) := by decide +kernel
theorem dX5_groupAt_14 : decode cX5_groupAt 14 = .ok (.iload_n 1, 1) := by decide +kernel
theorem dX5_groupAt_15 : decode cX5_groupAt 15 = .ok (.invokevirtual 68, 3) := by decide +kernel
theorem dX5_groupAt_18 : decode cX5_groupAt 18 = .ok (.istore_n 2, 1) := by decide +kernel
theorem dX5_groupAt_19 : decode cX5_groupAt 19 = .ok (.iload_n 2, 1) := by decide +kernel
theorem dX5_groupAt_20 : decode cX5_groupAt 20 = .ok (.ifCond .ne 7, 3) := by decide +kernel
theorem dX5_groupAt_23 : decode cX5_groupAt 23 = .ok (.lconst 0, 1) := by decide +kernel
theorem dX5_groupAt_24 : decode cX5_groupAt 24 = .ok (.goto 19, 3) := by decide +kernel
theorem dX5_groupAt_27 : decode cX5_groupAt 27 = .ok (.aload_n 0, 1) := by decide +kernel
theorem dX5_groupAt_28 : decode cX5_groupAt 28 = .ok (.getfield 12, 3) := by decide +kernel
theorem dX5_groupAt_31 : decode cX5_groupAt 31 = .ok (.iload_n 1, 1) := by decide +kernel
theorem dX5_groupAt_32 : decode cX5_groupAt 32 = .ok (.invokestatic 171, 3) := by decide +kernel
theorem dX5_groupAt_35 : decode cX5_groupAt 35 = .ok (.aload_n 0, 1) := by decide +kernel
theorem dX5_groupAt_36 : decode cX5_groupAt 36 = .ok (.iload_n 2, 1) := by decide +kernel
theorem dX5_groupAt_37 : decode cX5_groupAt 37 = .ok (.invokevirtual 202, 3) := by decide +kernel
theorem dX5_groupAt_40 : decode cX5_groupAt 40 = .ok (.invokevirtual 205, 3) := by decide +kernel
theorem dX5_groupAt_43 : decode cX5_groupAt 43 = .ok (.lreturn, 1) := by decide +kernel
set_option maxRecDepth 20000 in
theorem ggX5_whoJoined_X2_northBank : GoodIn wsX5_whoJoined wsX2_northBank := goodIn_r _ [8, 9, 49, 50, 51, 52, 53, 54, 55] (by decide +kernel) (by decide +kernel)
set_option maxRecDepth 20000 in
theorem gX5_whoJoined_X2_northBank : GoodIn wsX5_whoJoined (wsV RX5 209 RX2 yX2_northBank wsX2_northBank) := goodIn_app (goodIn_of _ (by decide +kernel)) ggX5_whoJoined_X2_northBank
set_option maxRecDepth 20000 in
theorem ggX5_whoJoined_X2_southBank : GoodIn wsX5_whoJoined wsX2_southBank := goodIn_r _ [13, 14, 49, 50, 51, 52, 53, 54, 55] (by decide +kernel) (by decide +kernel)
set_option maxRecDepth 20000 in
theorem gX5_whoJoined_X2_southBank : GoodIn wsX5_whoJoined (wsV RX5 212 RX2 yX2_southBank wsX2_southBank) := goodIn_app (goodIn_of _ (by decide +kernel)) ggX5_whoJoined_X2_southBank
set_option maxRecDepth 20000 in
theorem ggX5_whoJoined_X2_joins : GoodIn wsX5_whoJoined wsX2_joins := goodIn_r _ [18, 19, 20, 21, 7, 22, 23, 24, 25, 26, 27, 28, 29, 30, 31, 49, 50, 51, 52, 53, 54, 55] (by decide +kernel) (by decide +kernel)
set_option maxRecDepth 20000 in
theorem gX5_whoJoined_X2_joins : GoodIn wsX5_whoJoined (wsV RX5 215 RX2 yX2_joins wsX2_joins) := goodIn_app (goodIn_of _ (by decide +kernel)) ggX5_whoJoined_X2_joins
set_option maxRecDepth 20000 in
theorem ggX5_whoJoined_X2_westBank : GoodIn wsX5_whoJoined wsX2_westBank := goodIn_r _ [35, 29, 49, 50, 51, 52, 53, 54, 55] (by decide +kernel) (by decide +kernel)
set_option maxRecDepth 20000 in
theorem gX5_whoJoined_X2_westBank : GoodIn wsX5_whoJoined (wsV RX5 219 RX2 yX2_westBank wsX2_westBank) := goodIn_app (goodIn_of _ (by decide +kernel)) ggX5_whoJoined_X2_westBank
set_option maxRecDepth 20000 in
theorem ggX5_whoJoined_X2_eastBank : GoodIn wsX5_whoJoined wsX2_eastBank := goodIn_r _ [39, 27, 49, 50, 51, 52, 53, 54, 55] (by decide +kernel) (by decide +kernel)
set_option maxRecDepth 20000 in
theorem gX5_whoJoined_X2_eastBank : GoodIn wsX5_whoJoined (wsV RX5 222 RX2 yX2_eastBank wsX2_eastBank) := goodIn_app (goodIn_of _ (by decide +kernel)) ggX5_whoJoined_X2_eastBank
theorem dX5_whoJoined_0 : decode cX5_whoJoined 0 = .ok (.aload_n 0, 1) := by decide +kernel
theorem dX5_whoJoined_1 : decode cX5_whoJoined 1 = .ok (.getfield 12, 3) := by decide +kernel
theorem dX5_whoJoined_4 : decode cX5_whoJoined 4 = .ok (.aload_n 0, 1) := by decide +kernel
theorem dX5_whoJoined_5 : decode cX5_whoJoined 5 = .ok (.getfield 115, 3) := by decide +kernel
theorem dX5_whoJoined_8 : decode cX5_whoJoined 8 = .ok (.aload_n 0, 1) := by decide +kernel
theorem dX5_whoJoined_9 : decode cX5_whoJoined 9 = .ok (.getfield 12, 3) := by decide +kernel
theorem dX5_whoJoined_12 : decode cX5_whoJoined 12 = .ok (.invokevirtual 209, 3) := by decide +kernel
theorem dX5_whoJoined_15 : decode cX5_whoJoined 15 = .ok (.aload_n 0, 1) := by decide +kernel
theorem dX5_whoJoined_16 : decode cX5_whoJoined 16 = .ok (.getfield 12, 3) := by decide +kernel
theorem dX5_whoJoined_19 : decode cX5_whoJoined 19 = .ok (.invokevirtual 212, 3) := by decide +kernel
theorem dX5_whoJoined_22 : decode cX5_whoJoined 22 = .ok (.invokevirtual 215, 3) := by decide +kernel
theorem dX5_whoJoined_25 : decode cX5_whoJoined 25 = .ok (.ifCond .eq 5, 3) := by decide +kernel
theorem dX5_whoJoined_28 : decode cX5_whoJoined 28 = .ok (.iconst 1, 1) := by decide +kernel
theorem dX5_whoJoined_29 : decode cX5_whoJoined 29 = .ok (.ireturn, 1) := by decide +kernel
theorem dX5_whoJoined_30 : decode cX5_whoJoined 30 = .ok (.aload_n 0, 1) := by decide +kernel
theorem dX5_whoJoined_31 : decode cX5_whoJoined 31 = .ok (.getfield 12, 3) := by decide +kernel
theorem dX5_whoJoined_34 : decode cX5_whoJoined 34 = .ok (.aload_n 0, 1) := by decide +kernel
theorem dX5_whoJoined_35 : decode cX5_whoJoined 35 = .ok (.getfield 107, 3) := by decide +kernel
theorem dX5_whoJoined_38 : decode cX5_whoJoined 38 = .ok (.aload_n 0, 1) := by decide +kernel
theorem dX5_whoJoined_39 : decode cX5_whoJoined 39 = .ok (.getfield 12, 3) := by decide +kernel
theorem dX5_whoJoined_42 : decode cX5_whoJoined 42 = .ok (.invokevirtual 219, 3) := by decide +kernel
theorem dX5_whoJoined_45 : decode cX5_whoJoined 45 = .ok (.aload_n 0, 1) := by decide +kernel
theorem dX5_whoJoined_46 : decode cX5_whoJoined 46 = .ok (.getfield 12, 3) := by decide +kernel
theorem dX5_whoJoined_49 : decode cX5_whoJoined 49 = .ok (.invokevirtual 222, 3) := by decide +kernel
theorem dX5_whoJoined_52 : decode cX5_whoJoined 52 = .ok (.invokevirtual 215, 3) := by decide +kernel
theorem dX5_whoJoined_55 : decode cX5_whoJoined 55 = .ok (.ifCond .eq 7, 3) := by decide +kernel
theorem dX5_whoJoined_58 : decode cX5_whoJoined 58 = .ok (.iconst 2, 1) := by decide +kernel
theorem dX5_whoJoined_59 : decode cX5_whoJoined 59 = .ok (.goto 4, 3) := by decide +kernel
theorem dX5_whoJoined_62 : decode cX5_whoJoined 62 = .ok (.iconst 0, 1) := by decide +kernel
theorem dX5_whoJoined_63 : decode cX5_whoJoined 63 = .ok (.ireturn, 1) := by decide +kernel
set_option maxRecDepth 20000 in
theorem ggX5_findPath_X5_whoJoined : GoodIn wsX5_findPath wsX5_whoJoined := goodIn_r _ [9, 2, 3, 4, 10, 11, 12, 13, 14, 15, 16, 17, 18, 19, 20, 21, 22, 23, 24, 25, 26, 27, 28, 29, 30, 31, 32, 33, 34, 35, 36, 37, 38, 39, 40, 41, 42, 43, 44, 45, 76, 77, 78, 79, 80, 81, 82, 83, 84, 85, 86, 87, 88, 89, 90, 91] (by decide +kernel) (by decide +kernel)
set_option maxRecDepth 20000 in
theorem gX5_findPath_X5_whoJoined : GoodIn wsX5_findPath (wsV RX5 72 RX5 yX5_whoJoined wsX5_whoJoined) := goodIn_app (goodIn_of _ (by decide +kernel)) ggX5_findPath_X5_whoJoined
set_option maxRecDepth 20000 in
theorem ggX5_findPath_X2_northBank : GoodIn wsX5_findPath wsX2_northBank := goodIn_r _ [14, 15, 85, 86, 87, 88, 89, 90, 91] (by decide +kernel) (by decide +kernel)
set_option maxRecDepth 20000 in
theorem gX5_findPath_X2_northBank : GoodIn wsX5_findPath (wsV RX5 209 RX2 yX2_northBank wsX2_northBank) := goodIn_app (goodIn_of _ (by decide +kernel)) ggX5_findPath_X2_northBank
set_option maxRecDepth 20000 in
theorem ggX5_findPath_X2_southBank : GoodIn wsX5_findPath wsX2_southBank := goodIn_r _ [19, 20, 85, 86, 87, 88, 89, 90, 91] (by decide +kernel) (by decide +kernel)
set_option maxRecDepth 20000 in
theorem gX5_findPath_X2_southBank : GoodIn wsX5_findPath (wsV RX5 212 RX2 yX2_southBank wsX2_southBank) := goodIn_app (goodIn_of _ (by decide +kernel)) ggX5_findPath_X2_southBank
set_option maxRecDepth 20000 in
theorem ggX5_findPath_X4_find : GoodIn wsX5_findPath wsX4_find := goodIn_r _ [50, 51, 52, 53, 54, 55, 49, 56, 57, 58, 59, 60, 61, 62, 63, 8, 64, 65, 66, 67, 68, 69, 70, 71, 72, 73, 74, 30, 31, 13, 32, 33, 34, 35, 36, 37, 92, 93, 94, 85, 86, 87, 88, 89, 90, 91] (by decide +kernel) (by decide +kernel)
set_option maxRecDepth 20000 in
theorem gX5_findPath_X4_find : GoodIn wsX5_findPath (wsV RX5 225 RX4 yX4_find wsX4_find) := goodIn_app (goodIn_of _ (by decide +kernel)) ggX5_findPath_X4_find
set_option maxRecDepth 20000 in
theorem ggX5_findPath_X2_westBank : GoodIn wsX5_findPath wsX2_westBank := goodIn_r _ [41, 35, 85, 86, 87, 88, 89, 90, 91] (by decide +kernel) (by decide +kernel)
set_option maxRecDepth 20000 in
theorem gX5_findPath_X2_westBank : GoodIn wsX5_findPath (wsV RX5 219 RX2 yX2_westBank wsX2_westBank) := goodIn_app (goodIn_of _ (by decide +kernel)) ggX5_findPath_X2_westBank
set_option maxRecDepth 20000 in
theorem ggX5_findPath_X2_eastBank : GoodIn wsX5_findPath wsX2_eastBank := goodIn_r _ [45, 33, 85, 86, 87, 88, 89, 90, 91] (by decide +kernel) (by decide +kernel)
set_option maxRecDepth 20000 in
theorem gX5_findPath_X2_eastBank : GoodIn wsX5_findPath (wsV RX5 222 RX2 yX2_eastBank wsX2_eastBank) := goodIn_app (goodIn_of _ (by decide +kernel)) ggX5_findPath_X2_eastBank
set_option maxRecDepth 20000 in
theorem ggX5_findPath_X4_forget : GoodIn wsX5_findPath wsX4_forget := goodIn_r _ [56, 57, 92, 93, 94] (by decide +kernel) (by decide +kernel)
set_option maxRecDepth 20000 in
theorem gX5_findPath_X4_forget : GoodIn wsX5_findPath (wsV RX5 229 RX4 yX4_forget wsX4_forget) := goodIn_app (goodIn_of _ (by decide +kernel)) ggX5_findPath_X4_forget
theorem dX5_findPath_0 : decode cX5_findPath 0 = .ok (.aload_n 0, 1) := by decide +kernel
theorem dX5_findPath_1 : decode cX5_findPath 1 = .ok (.invokevirtual 72, 3) := by decide +kernel
theorem dX5_findPath_4 : decode cX5_findPath 4 = .ok (.istore_n 1, 1) := by decide +kernel
theorem dX5_findPath_5 : decode cX5_findPath 5 = .ok (.iload_n 1, 1) := by decide +kernel
theorem dX5_findPath_6 : decode cX5_findPath 6 = .ok (.iconst 1, 1) := by decide +kernel
theorem dX5_findPath_7 : decode cX5_findPath 7 = .ok (.if_icmp .ne 35, 3) := by decide +kernel
theorem dX5_findPath_10 : decode cX5_findPath 10 = .ok (.aload_n 0, 1) := by decide +kernel
theorem dX5_findPath_11 : decode cX5_findPath 11 = .ok (.getfield 26, 3) := by decide +kernel
theorem dX5_findPath_14 : decode cX5_findPath 14 = .ok (.aload_n 0, 1) := by decide +kernel
theorem dX5_findPath_15 : decode cX5_findPath 15 = .ok (.getfield 12, 3) := by decide +kernel
theorem dX5_findPath_18 : decode cX5_findPath 18 = .ok (.aload_n 0, 1) := by decide +kernel
theorem dX5_findPath_19 : decode cX5_findPath 19 = .ok (.getfield 115, 3) := by decide +kernel
theorem dX5_findPath_22 : decode cX5_findPath 22 = .ok (.aload_n 0, 1) := by decide +kernel
theorem dX5_findPath_23 : decode cX5_findPath 23 = .ok (.getfield 12, 3) := by decide +kernel
theorem dX5_findPath_26 : decode cX5_findPath 26 = .ok (.invokevirtual 209, 3) := by decide +kernel
theorem dX5_findPath_29 : decode cX5_findPath 29 = .ok (.aload_n 0, 1) := by decide +kernel
theorem dX5_findPath_30 : decode cX5_findPath 30 = .ok (.getfield 12, 3) := by decide +kernel
theorem dX5_findPath_33 : decode cX5_findPath 33 = .ok (.invokevirtual 212, 3) := by decide +kernel
theorem dX5_findPath_36 : decode cX5_findPath 36 = .ok (.invokevirtual 225, 3) := by decide +kernel
theorem dX5_findPath_39 : decode cX5_findPath 39 = .ok (.goto 47, 3) := by decide +kernel
theorem dX5_findPath_42 : decode cX5_findPath 42 = .ok (.iload_n 1, 1) := by decide +kernel
theorem dX5_findPath_43 : decode cX5_findPath 43 = .ok (.iconst 2, 1) := by decide +kernel
theorem dX5_findPath_44 : decode cX5_findPath 44 = .ok (.if_icmp .ne 35, 3) := by decide +kernel
theorem dX5_findPath_47 : decode cX5_findPath 47 = .ok (.aload_n 0, 1) := by decide +kernel
theorem dX5_findPath_48 : decode cX5_findPath 48 = .ok (.getfield 26, 3) := by decide +kernel
theorem dX5_findPath_51 : decode cX5_findPath 51 = .ok (.aload_n 0, 1) := by decide +kernel
theorem dX5_findPath_52 : decode cX5_findPath 52 = .ok (.getfield 12, 3) := by decide +kernel
theorem dX5_findPath_55 : decode cX5_findPath 55 = .ok (.aload_n 0, 1) := by decide +kernel
theorem dX5_findPath_56 : decode cX5_findPath 56 = .ok (.getfield 107, 3) := by decide +kernel
theorem dX5_findPath_59 : decode cX5_findPath 59 = .ok (.aload_n 0, 1) := by decide +kernel
theorem dX5_findPath_60 : decode cX5_findPath 60 = .ok (.getfield 12, 3) := by decide +kernel
theorem dX5_findPath_63 : decode cX5_findPath 63 = .ok (.invokevirtual 219, 3) := by decide +kernel
theorem dX5_findPath_66 : decode cX5_findPath 66 = .ok (.aload_n 0, 1) := by decide +kernel
theorem dX5_findPath_67 : decode cX5_findPath 67 = .ok (.getfield 12, 3) := by decide +kernel
theorem dX5_findPath_70 : decode cX5_findPath 70 = .ok (.invokevirtual 222, 3) := by decide +kernel
theorem dX5_findPath_73 : decode cX5_findPath 73 = .ok (.invokevirtual 225, 3) := by decide +kernel
theorem dX5_findPath_76 : decode cX5_findPath 76 = .ok (.goto 10, 3) := by decide +kernel
theorem dX5_findPath_79 : decode cX5_findPath 79 = .ok (.aload_n 0, 1) := by decide +kernel
theorem dX5_findPath_80 : decode cX5_findPath 80 = .ok (.getfield 26, 3) := by decide +kernel
theorem dX5_findPath_83 : decode cX5_findPath 83 = .ok (.invokevirtual 229, 3) := by decide +kernel
theorem dX5_findPath_86 : decode cX5_findPath 86 = .ok (.return_, 1) := by decide +kernel
set_option maxRecDepth 20000 in
theorem ggX5_askBanks_X2_northBank : GoodIn wsX5_askBanks wsX2_northBank := goodIn_r _ [9, 10, 103, 104, 105, 106, 107, 108, 109] (by decide +kernel) (by decide +kernel)
set_option maxRecDepth 20000 in
theorem gX5_askBanks_X2_northBank : GoodIn wsX5_askBanks (wsV RX5 209 RX2 yX2_northBank wsX2_northBank) := goodIn_app (goodIn_of _ (by decide +kernel)) ggX5_askBanks_X2_northBank
set_option maxRecDepth 20000 in
theorem ggX5_askBanks_X2_southBank : GoodIn wsX5_askBanks wsX2_southBank := goodIn_r _ [14, 15, 103, 104, 105, 106, 107, 108, 109] (by decide +kernel) (by decide +kernel)
set_option maxRecDepth 20000 in
theorem gX5_askBanks_X2_southBank : GoodIn wsX5_askBanks (wsV RX5 212 RX2 yX2_southBank wsX2_southBank) := goodIn_app (goodIn_of _ (by decide +kernel)) ggX5_askBanks_X2_southBank
set_option maxRecDepth 20000 in
theorem ggX5_askBanks_X1_ask : GoodIn wsX5_askBanks wsX1_ask := goodIn_r _ [20, 21, 22, 23, 24, 25, 26, 27, 28, 29, 8, 30, 31, 32, 33, 34, 35, 36, 37, 38, 39, 19, 40, 41, 42, 43, 44, 45, 46, 47, 48, 49, 50, 51, 52, 53, 54, 55, 56, 57, 58, 59, 60, 61, 62, 63, 64, 65, 66, 67, 68, 69, 70, 71, 72, 73, 74, 75, 76, 77, 78, 79, 80, 81, 82, 83, 84, 85, 86, 87, 88, 89, 90, 91, 92, 93, 110, 111, 112, 113, 114, 115, 116, 117, 118, 119, 120, 121, 122, 123, 124, 103, 104, 105, 106, 107, 108, 109, 125] (by decide +kernel) (by decide +kernel)
set_option maxRecDepth 20000 in
theorem gX5_askBanks_X1_ask : GoodIn wsX5_askBanks (wsV RX5 230 RX1 yX1_ask wsX1_ask) := goodIn_app (goodIn_of _ (by decide +kernel)) ggX5_askBanks_X1_ask
theorem dX5_askBanks_0 : decode cX5_askBanks 0 = .ok (.aload_n 0, 1) := by decide +kernel
theorem dX5_askBanks_1 : decode cX5_askBanks 1 = .ok (.getfield 33, 3) := by decide +kernel
theorem dX5_askBanks_4 : decode cX5_askBanks 4 = .ok (.aload_n 0, 1) := by decide +kernel
theorem dX5_askBanks_5 : decode cX5_askBanks 5 = .ok (.getfield 12, 3) := by decide +kernel
theorem dX5_askBanks_8 : decode cX5_askBanks 8 = .ok (.aload_n 0, 1) := by decide +kernel
theorem dX5_askBanks_9 : decode cX5_askBanks 9 = .ok (.getfield 115, 3) := by decide +kernel
theorem dX5_askBanks_12 : decode cX5_askBanks 12 = .ok (.aload_n 0, 1) := by decide +kernel
theorem dX5_askBanks_13 : decode cX5_askBanks 13 = .ok (.getfield 107, 3) := by decide +kernel
theorem dX5_askBanks_16 : decode cX5_askBanks 16 = .ok (.aload_n 0, 1) := by decide +kernel
theorem dX5_askBanks_17 : decode cX5_askBanks 17 = .ok (.getfield 12, 3) := by decide +kernel
theorem dX5_askBanks_20 : decode cX5_askBanks 20 = .ok (.invokevirtual 209, 3) := by decide +kernel
theorem dX5_askBanks_23 : decode cX5_askBanks 23 = .ok (.aload_n 0, 1) := by decide +kernel
theorem dX5_askBanks_24 : decode cX5_askBanks 24 = .ok (.getfield 12, 3) := by decide +kernel
theorem dX5_askBanks_27 : decode cX5_askBanks 27 = .ok (.invokevirtual 212, 3) := by decide +kernel
theorem dX5_askBanks_30 : decode cX5_askBanks 30 = .ok (.invokevirtual 230, 3) := by decide +kernel
theorem dX5_askBanks_33 : decode cX5_askBanks 33 = .ok (.return_, 1) := by decide +kernel
set_option maxRecDepth 20000 in
theorem ggX5_canLink_X5_isColour : GoodIn wsX5_canLink wsX5_isColour := goodIn_r _ [5] (by decide +kernel) (by decide +kernel)
set_option maxRecDepth 20000 in
theorem gX5_canLink_X5_isColour : GoodIn wsX5_canLink (va_wsS RX5 48 yX5_isColour wsX5_isColour) := goodIn_app (goodIn_of _ (by decide +kernel)) ggX5_canLink_X5_isColour
set_option maxRecDepth 20000 in
theorem ggX5_canLink_X2_has : GoodIn wsX5_canLink wsX2_has := goodIn_r _ [10, 11, 12, 55, 56, 57, 58, 59, 60, 61] (by decide +kernel) (by decide +kernel)
set_option maxRecDepth 20000 in
theorem gX5_canLink_X2_has : GoodIn wsX5_canLink (wsV RX5 51 RX2 yX2_has wsX2_has) := goodIn_app (goodIn_of _ (by decide +kernel)) ggX5_canLink_X2_has
set_option maxRecDepth 20000 in
theorem ggX5_canLink_X5_other : GoodIn wsX5_canLink wsX5_other := goodIn_r _ [15] (by decide +kernel) (by decide +kernel)
set_option maxRecDepth 20000 in
theorem gX5_canLink_X5_other : GoodIn wsX5_canLink (va_wsS RX5 101 yX5_other wsX5_other) := goodIn_app (goodIn_of _ (by decide +kernel)) ggX5_canLink_X5_other
set_option maxRecDepth 20000 in
theorem ggX5_canLink_X5_stonesOf : GoodIn wsX5_canLink wsX5_stonesOf := goodIn_r _ [19, 20, 21, 46, 47, 48, 49, 50, 51, 52, 53, 54] (by decide +kernel) (by decide +kernel)
set_option maxRecDepth 20000 in
theorem gX5_canLink_X5_stonesOf : GoodIn wsX5_canLink (wsV RX5 202 RX5 yX5_stonesOf wsX5_stonesOf) := goodIn_app (goodIn_of _ (by decide +kernel)) ggX5_canLink_X5_stonesOf
set_option maxRecDepth 20000 in
theorem ggX5_canLink_X5_bit : GoodIn wsX5_canLink wsX5_bit := goodIn_r _ [24] (by decide +kernel) (by decide +kernel)
set_option maxRecDepth 20000 in
theorem gX5_canLink_X5_bit : GoodIn wsX5_canLink (va_wsS RX5 171 yX5_bit wsX5_bit) := goodIn_app (goodIn_of _ (by decide +kernel)) ggX5_canLink_X5_bit
set_option maxRecDepth 20000 in
theorem ggX5_canLink_X5_tooManyEmpty : GoodIn wsX5_canLink wsX5_tooManyEmpty := goodIn_r _ [28, 29, 30, 31, 4, 32, 1, 20, 21, 33, 34, 35, 36, 9, 37, 38, 39, 40, 41, 42, 43, 44, 45, 46, 47, 48, 49, 50, 51, 52, 53, 54, 55, 56, 57, 58, 59, 60, 61] (by decide +kernel) (by decide +kernel)
set_option maxRecDepth 20000 in
theorem gX5_canLink_X5_tooManyEmpty : GoodIn wsX5_canLink (wsV RX5 150 RX5 yX5_tooManyEmpty wsX5_tooManyEmpty) := goodIn_app (goodIn_of _ (by decide +kernel)) ggX5_canLink_X5_tooManyEmpty
theorem dX5_canLink_0 : decode cX5_canLink 0 = .ok (.iload_n 1, 1) := by decide +kernel
theorem dX5_canLink_1 : decode cX5_canLink 1 = .ok (.invokestatic 48, 3) := by decide +kernel
theorem dX5_canLink_4 : decode cX5_canLink 4 = .ok (.ifCond .eq 30, 3) := by decide +kernel
theorem dX5_canLink_7 : decode cX5_canLink 7 = .ok (.aload_n 0, 1) := by decide +kernel
theorem dX5_canLink_8 : decode cX5_canLink 8 = .ok (.getfield 12, 3) := by decide +kernel
theorem dX5_canLink_11 : decode cX5_canLink 11 = .ok (.iload_n 2, 1) := by decide +kernel
theorem dX5_canLink_12 : decode cX5_canLink 12 = .ok (.invokevirtual 51, 3) := by decide +kernel
theorem dX5_canLink_15 : decode cX5_canLink 15 = .ok (.ifCond .eq 19, 3) := by decide +kernel
theorem dX5_canLink_18 : decode cX5_canLink 18 = .ok (.aload_n 0, 1) := by decide +kernel
theorem dX5_canLink_19 : decode cX5_canLink 19 = .ok (.getfield 12, 3) := by decide +kernel
theorem dX5_canLink_22 : decode cX5_canLink 22 = .ok (.iload_n 3, 1) := by decide +kernel
theorem dX5_canLink_23 : decode cX5_canLink 23 = .ok (.invokevirtual 51, 3) := by decide +kernel
theorem dX5_canLink_26 : decode cX5_canLink 26 = .ok (.ifCond .eq 8, 3) := by decide +kernel
theorem dX5_canLink_29 : decode cX5_canLink 29 = .ok (.iload_n 2, 1) := by decide +kernel
theorem dX5_canLink_30 : decode cX5_canLink 30 = .ok (.iload_n 3, 1) := by decide +kernel
theorem dX5_canLink_31 : decode cX5_canLink 31 = .ok (.if_icmp .ne 5, 3) := by decide +kernel
theorem dX5_canLink_34 : decode cX5_canLink 34 = .ok (.iconst 0, 1) := by decide +kernel
theorem dX5_canLink_35 : decode cX5_canLink 35 = .ok (.ireturn, 1) := by decide +kernel
theorem dX5_canLink_36 : decode cX5_canLink 36 = .ok (.aload_n 0, 1) := by decide +kernel
theorem dX5_canLink_37 : decode cX5_canLink 37 = .ok (.iload_n 1, 1) := by decide +kernel
theorem dX5_canLink_38 : decode cX5_canLink 38 = .ok (.invokestatic 101, 3) := by decide +kernel
theorem dX5_canLink_41 : decode cX5_canLink 41 = .ok (.invokevirtual 202, 3) := by decide +kernel
theorem dX5_canLink_44 : decode cX5_canLink 44 = .ok (.lstore 4, 2) := by decide +kernel
theorem dX5_canLink_46 : decode cX5_canLink 46 = .ok (.lload 4, 2) := by decide +kernel
theorem dX5_canLink_48 : decode cX5_canLink 48 = .ok (.iload_n 2, 1) := by decide +kernel
theorem dX5_canLink_49 : decode cX5_canLink 49 = .ok (.invokestatic 171, 3) := by decide +kernel
theorem dX5_canLink_52 : decode cX5_canLink 52 = .ok (.iload_n 3, 1) := by decide +kernel
theorem dX5_canLink_53 : decode cX5_canLink 53 = .ok (.invokestatic 171, 3) := by decide +kernel
theorem dX5_canLink_56 : decode cX5_canLink 56 = .ok (.lor, 1) := by decide +kernel
theorem dX5_canLink_57 : decode cX5_canLink 57 = .ok (.land, 1) := by decide +kernel
theorem dX5_canLink_58 : decode cX5_canLink 58 = .ok (.lconst 0, 1) := by decide +kernel
theorem dX5_canLink_59 : decode cX5_canLink 59 = .ok (.lcmp, 1) := by decide +kernel
theorem dX5_canLink_60 : decode cX5_canLink 60 = .ok (.ifCond .ne 14, 3) := by decide +kernel
theorem dX5_canLink_63 : decode cX5_canLink 63 = .ok (.aload_n 0, 1) := by decide +kernel
theorem dX5_canLink_64 : decode cX5_canLink 64 = .ok (.invokevirtual 150, 3) := by decide +kernel
theorem dX5_canLink_67 : decode cX5_canLink 67 = .ok (.ifCond .ne 7, 3) := by decide +kernel
theorem dX5_canLink_70 : decode cX5_canLink 70 = .ok (.iconst 1, 1) := by decide +kernel
theorem dX5_canLink_71 : decode cX5_canLink 71 = .ok (.goto 4, 3) := by decide +kernel
theorem dX5_canLink_74 : decode cX5_canLink 74 = .ok (.iconst 0, 1) := by decide +kernel
theorem dX5_canLink_75 : decode cX5_canLink 75 = .ok (.ireturn, 1) := by decide +kernel
set_option maxRecDepth 20000 in
theorem ggX5_askLink_X5_stonesOf : GoodIn wsX5_askLink wsX5_stonesOf := goodIn_r _ [7, 8, 9, 92, 93, 94, 95, 96, 97, 98, 99, 100] (by decide +kernel) (by decide +kernel)
set_option maxRecDepth 20000 in
theorem gX5_askLink_X5_stonesOf : GoodIn wsX5_askLink (wsV RX5 202 RX5 yX5_stonesOf wsX5_stonesOf) := goodIn_app (goodIn_of _ (by decide +kernel)) ggX5_askLink_X5_stonesOf
set_option maxRecDepth 20000 in
theorem ggX5_askLink_X5_other : GoodIn wsX5_askLink wsX5_other := goodIn_r _ [12] (by decide +kernel) (by decide +kernel)
set_option maxRecDepth 20000 in
theorem gX5_askLink_X5_other : GoodIn wsX5_askLink (va_wsS RX5 101 yX5_other wsX5_other) := goodIn_app (goodIn_of _ (by decide +kernel)) ggX5_askLink_X5_other
set_option maxRecDepth 20000 in
theorem ggX5_askLink_X5_bit : GoodIn wsX5_askLink wsX5_bit := goodIn_r _ [15] (by decide +kernel) (by decide +kernel)
set_option maxRecDepth 20000 in
theorem gX5_askLink_X5_bit : GoodIn wsX5_askLink (va_wsS RX5 171 yX5_bit wsX5_bit) := goodIn_app (goodIn_of _ (by decide +kernel)) ggX5_askLink_X5_bit
set_option maxRecDepth 20000 in
theorem ggX5_askLink_X1_ask : GoodIn wsX5_askLink wsX1_ask := goodIn_r _ [20, 21, 22, 23, 24, 25, 26, 27, 28, 29, 30, 31, 32, 33, 34, 35, 36, 37, 38, 39, 40, 19, 41, 42, 43, 44, 45, 46, 47, 48, 49, 50, 51, 52, 53, 54, 55, 56, 57, 58, 59, 60, 61, 62, 63, 64, 65, 66, 67, 68, 69, 70, 71, 72, 73, 74, 75, 76, 77, 78, 79, 80, 81, 82, 83, 84, 85, 86, 87, 88, 89, 90, 91, 14, 6, 15, 101, 102, 103, 104, 105, 106, 107, 108, 109, 110, 111, 112, 113, 114, 115, 116, 117, 118, 119, 120, 121, 122, 123] (by decide +kernel) (by decide +kernel)
set_option maxRecDepth 20000 in
theorem gX5_askLink_X1_ask : GoodIn wsX5_askLink (wsV RX5 230 RX1 yX1_ask wsX1_ask) := goodIn_app (goodIn_of _ (by decide +kernel)) ggX5_askLink_X1_ask
theorem dX5_askLink_0 : decode cX5_askLink 0 = .ok (.aload_n 0, 1) := by decide +kernel
theorem dX5_askLink_1 : decode cX5_askLink 1 = .ok (.getfield 37, 3) := by decide +kernel
theorem dX5_askLink_4 : decode cX5_askLink 4 = .ok (.aload_n 0, 1) := by decide +kernel
theorem dX5_askLink_5 : decode cX5_askLink 5 = .ok (.getfield 12, 3) := by decide +kernel
theorem dX5_askLink_8 : decode cX5_askLink 8 = .ok (.aload_n 0, 1) := by decide +kernel
theorem dX5_askLink_9 : decode cX5_askLink 9 = .ok (.iload_n 1, 1) := by decide +kernel
theorem dX5_askLink_10 : decode cX5_askLink 10 = .ok (.invokevirtual 202, 3) := by decide +kernel
theorem dX5_askLink_13 : decode cX5_askLink 13 = .ok (.aload_n 0, 1) := by decide +kernel
theorem dX5_askLink_14 : decode cX5_askLink 14 = .ok (.iload_n 1, 1) := by decide +kernel
theorem dX5_askLink_15 : decode cX5_askLink 15 = .ok (.invokestatic 101, 3) := by decide +kernel
theorem dX5_askLink_18 : decode cX5_askLink 18 = .ok (.invokevirtual 202, 3) := by decide +kernel
theorem dX5_askLink_21 : decode cX5_askLink 21 = .ok (.iload_n 2, 1) := by decide +kernel
theorem dX5_askLink_22 : decode cX5_askLink 22 = .ok (.invokestatic 171, 3) := by decide +kernel
theorem dX5_askLink_25 : decode cX5_askLink 25 = .ok (.iload_n 3, 1) := by decide +kernel
theorem dX5_askLink_26 : decode cX5_askLink 26 = .ok (.invokestatic 171, 3) := by decide +kernel
theorem dX5_askLink_29 : decode cX5_askLink 29 = .ok (.invokevirtual 230, 3) := by decide +kernel
theorem dX5_askLink_32 : decode cX5_askLink 32 = .ok (.return_, 1) := by decide +kernel
set_option maxRecDepth 20000 in
theorem ggX5_howManyDead_X5_tooManyEmpty : GoodIn wsX5_howManyDead wsX5_tooManyEmpty := goodIn_r _ [6, 7, 8, 9, 5, 10, 11, 12, 13, 14, 15, 16, 17, 18, 19, 20, 21, 22, 23, 24, 25, 26, 27, 126, 127, 128, 129, 130, 131, 132, 133, 134, 135, 136, 137, 138, 139, 140, 141] (by decide +kernel) (by decide +kernel)
set_option maxRecDepth 20000 in
theorem gX5_howManyDead_X5_tooManyEmpty : GoodIn wsX5_howManyDead (wsV RX5 150 RX5 yX5_tooManyEmpty wsX5_tooManyEmpty) := goodIn_app (goodIn_of _ (by decide +kernel)) ggX5_howManyDead_X5_tooManyEmpty
set_option maxRecDepth 20000 in
theorem ggX5_howManyDead_X5_askBanks : GoodIn wsX5_howManyDead wsX5_askBanks := goodIn_r _ [31, 1, 11, 12, 13, 32, 33, 34, 18, 35, 36, 37, 38, 39, 40, 41, 42, 43, 44, 45, 46, 47, 48, 49, 50, 51, 52, 53, 54, 55, 56, 57, 58, 59, 60, 61, 62, 63, 64, 65, 66, 67, 68, 69, 70, 71, 72, 73, 74, 75, 76, 77, 78, 79, 80, 16, 17, 19, 20, 81, 22, 23, 24, 25, 26, 27, 82, 83, 84, 85, 86, 87, 88, 89, 90, 91, 92, 93, 94, 95, 96, 97, 98, 99, 100, 101, 102, 103, 104, 105, 106, 107, 5, 108, 126, 127, 128, 129, 130, 131, 132, 133, 134, 135, 136, 137, 138, 139, 140, 141, 142, 143, 144, 145, 146, 147, 148, 149, 150, 151, 152, 153, 154, 155, 156, 157] (by decide +kernel) (by decide +kernel)
set_option maxRecDepth 20000 in
theorem gX5_howManyDead_X5_askBanks : GoodIn wsX5_howManyDead (wsV RX5 154 RX5 yX5_askBanks wsX5_askBanks) := goodIn_app (goodIn_of _ (by decide +kernel)) ggX5_howManyDead_X5_askBanks
set_option maxRecDepth 20000 in
theorem ggX5_howManyDead_X1_deadFields : GoodIn wsX5_howManyDead wsX1_deadFields := goodIn_r _ [112, 76, 113, 114, 115, 116, 45, 117, 73, 68, 107, 5, 108, 118, 119, 120, 121, 74, 77, 122, 123, 124, 85, 125, 87, 142, 143, 144, 145, 146, 147, 148, 149, 150, 151, 152, 153, 154, 155, 156, 157] (by decide +kernel) (by decide +kernel)
set_option maxRecDepth 20000 in
theorem gX5_howManyDead_X1_deadFields : GoodIn wsX5_howManyDead (wsV RX5 168 RX1 yX1_deadFields wsX1_deadFields) := goodIn_app (goodIn_of _ (by decide +kernel)) ggX5_howManyDead_X1_deadFields
set_option maxRecDepth 20000 in
theorem ggX5_howManyDead_J13_bitCount_95d88 : GoodIn wsX5_howManyDead wsJ13_bitCount_95d88 := goodIn_r _ [24, 25, 26, 27] (by decide +kernel) (by decide +kernel)
set_option maxRecDepth 20000 in
theorem gX5_howManyDead_J13_bitCount_95d88 : GoodIn wsX5_howManyDead (va_wsS RX5 129 yJ13_bitCount_95d88 wsJ13_bitCount_95d88) := goodIn_app (goodIn_of _ (by decide +kernel)) ggX5_howManyDead_J13_bitCount_95d88
theorem dX5_howManyDead_0 : decode cX5_howManyDead 0 = .ok (.aload_n 0, 1) := by decide +kernel
theorem dX5_howManyDead_1 : decode cX5_howManyDead 1 = .ok (.invokevirtual 150, 3) := by decide +kernel
theorem dX5_howManyDead_4 : decode cX5_howManyDead 4 = .ok (.ifCond .eq 5, 3) := by decide +kernel
theorem dX5_howManyDead_7 : decode cX5_howManyDead 7 = .ok (.iconst (-1), 1) := by decide +kernel
theorem dX5_howManyDead_8 : decode cX5_howManyDead 8 = .ok (.ireturn, 1) := by decide +kernel
theorem dX5_howManyDead_9 : decode cX5_howManyDead 9 = .ok (.aload_n 0, 1) := by decide +kernel
theorem dX5_howManyDead_10 : decode cX5_howManyDead 10 = .ok (.invokevirtual 154, 3) := by decide +kernel
theorem dX5_howManyDead_13 : decode cX5_howManyDead 13 = .ok (.aload_n 0, 1) := by decide +kernel
theorem dX5_howManyDead_14 : decode cX5_howManyDead 14 = .ok (.getfield 33, 3) := by decide +kernel
theorem dX5_howManyDead_17 : decode cX5_howManyDead 17 = .ok (.invokevirtual 168, 3) := by decide +kernel
theorem dX5_howManyDead_20 : decode cX5_howManyDead 20 = .ok (.invokestatic 129, 3) := by decide +kernel
theorem dX5_howManyDead_23 : decode cX5_howManyDead 23 = .ok (.ireturn, 1) := by decide +kernel
theorem dX6_init_0 : decode cX6_init 0 = .ok (.aload_n 0, 1) := by decide +kernel
theorem dX6_init_1 : decode cX6_init 1 = .ok (.invokespecial 1, 3) := by decide +kernel
theorem dX6_init_4 : decode cX6_init 4 = .ok (.aload_n 0, 1) := by decide +kernel
theorem dX6_init_5 : decode cX6_init 5 = .ok (.iconst 3, 1) := by decide +kernel
theorem dX6_init_6 : decode cX6_init 6 = .ok (.putfield 7, 3) := by decide +kernel
theorem dX6_init_9 : decode cX6_init 9 = .ok (.aload_n 0, 1) := by decide +kernel
theorem dX6_init_10 : decode cX6_init 10 = .ok (.iconst 3, 1) := by decide +kernel
theorem dX6_init_11 : decode cX6_init 11 = .ok (.putfield 13, 3) := by decide +kernel
theorem dX6_init_14 : decode cX6_init 14 = .ok (.aload_n 0, 1) := by decide +kernel
theorem dX6_init_15 : decode cX6_init 15 = .ok (.iconst 1, 1) := by decide +kernel
theorem dX6_init_16 : decode cX6_init 16 = .ok (.putfield 16, 3) := by decide +kernel
theorem dX6_init_19 : decode cX6_init 19 = .ok (.aload_n 0, 1) := by decide +kernel
theorem dX6_init_20 : decode cX6_init 20 = .ok (.bipush 36, 2) := by decide +kernel
theorem dX6_init_22 : decode cX6_init 22 = .ok (.newarray .int, 2) := by decide +kernel
theorem dX6_init_24 : decode cX6_init 24 = .ok (.putfield 19, 3) := by decide +kernel
theorem dX6_init_27 : decode cX6_init 27 = .ok (.aload_n 0, 1) := by decide +kernel
theorem dX6_init_28 : decode cX6_init 28 = .ok (.bipush 80, 2) := by decide +kernel
theorem dX6_init_30 : decode cX6_init 30 = .ok (.newarray .int, 2) := by decide +kernel
theorem dX6_init_32 : decode cX6_init 32 = .ok (.putfield 23, 3) := by decide +kernel
theorem dX6_init_35 : decode cX6_init 35 = .ok (.aload_n 0, 1) := by decide +kernel
theorem dX6_init_36 : decode cX6_init 36 = .ok (.iconst 1, 1) := by decide +kernel
theorem dX6_init_37 : decode cX6_init 37 = .ok (.putfield 26, 3) := by decide +kernel
theorem dX6_init_40 : decode cX6_init 40 = .ok (.aload_n 0, 1) := by decide +kernel
theorem dX6_init_41 : decode cX6_init 41 = .ok (.bipush 36, 2) := by decide +kernel
theorem dX6_init_43 : decode cX6_init 43 = .ok (.newarray .boolean, 2) := by decide +kernel
theorem dX6_init_45 : decode cX6_init 45 = .ok (.putfield 30, 3) := by decide +kernel
theorem dX6_init_48 : decode cX6_init 48 = .ok (.aload_n 0, 1) := by decide +kernel
theorem dX6_init_49 : decode cX6_init 49 = .ok (.bipush 36, 2) := by decide +kernel
theorem dX6_init_51 : decode cX6_init 51 = .ok (.newarray .int, 2) := by decide +kernel
theorem dX6_init_53 : decode cX6_init 53 = .ok (.putfield 34, 3) := by decide +kernel
theorem dX6_init_56 : decode cX6_init 56 = .ok (.aload_n 0, 1) := by decide +kernel
theorem dX6_init_57 : decode cX6_init 57 = .ok (.bipush 36, 2) := by decide +kernel
theorem dX6_init_59 : decode cX6_init 59 = .ok (.newarray .int, 2) := by decide +kernel
theorem dX6_init_61 : decode cX6_init 61 = .ok (.putfield 37, 3) := by decide +kernel
theorem dX6_init_64 : decode cX6_init 64 = .ok (.aload_n 0, 1) := by decide +kernel
theorem dX6_init_65 : decode cX6_init 65 = .ok (.bipush 10, 2) := by decide +kernel
theorem dX6_init_67 : decode cX6_init 67 = .ok (.newarray .int, 2) := by decide +kernel
theorem dX6_init_69 : decode cX6_init 69 = .ok (.putfield 40, 3) := by decide +kernel
theorem dX6_init_72 : decode cX6_init 72 = .ok (.aload_n 0, 1) := by decide +kernel
theorem dX6_init_73 : decode cX6_init 73 = .ok (.bipush 11, 2) := by decide +kernel
theorem dX6_init_75 : decode cX6_init 75 = .ok (.newarray .int, 2) := by decide +kernel
theorem dX6_init_77 : decode cX6_init 77 = .ok (.putfield 43, 3) := by decide +kernel
theorem dX6_init_80 : decode cX6_init 80 = .ok (.aload_n 0, 1) := by decide +kernel
theorem dX6_init_81 : decode cX6_init 81 = .ok (.ldc 46, 2) := by decide +kernel
theorem dX6_init_83 : decode cX6_init 83 = .ok (.newarray .boolean, 2) := by decide +kernel
theorem dX6_init_85 : decode cX6_init 85 = .ok (.putfield 47, 3) := by decide +kernel
theorem dX6_init_88 : decode cX6_init 88 = .ok (.aload_n 0, 1) := by decide +kernel
theorem dX6_init_89 : decode cX6_init 89 = .ok (.ldc 46, 2) := by decide +kernel
theorem dX6_init_91 : decode cX6_init 91 = .ok (.newarray .boolean, 2) := by decide +kernel
theorem dX6_init_93 : decode cX6_init 93 = .ok (.putfield 50, 3) := by decide +kernel
theorem dX6_init_96 : decode cX6_init 96 = .ok (.aload_n 0, 1) := by decide +kernel
theorem dX6_init_97 : decode cX6_init 97 = .ok (.sipush 1024, 3) := by decide +kernel
theorem dX6_init_100 : decode cX6_init 100 = .ok (.newarray .boolean, 2) := by decide +kernel
theorem dX6_init_102 : decode cX6_init 102 = .ok (.putfield 53, 3) := by decide +kernel
theorem dX6_init_105 : decode cX6_init 105 = .ok (.return_, 1) := by decide +kernel
theorem dX6_lies_0 : decode cX6_lies 0 = .ok (.iload_n 0, 1) := by decide +kernel
theorem dX6_lies_1 : decode cX6_lies 1 = .ok (.iload_n 1, 1) := by decide +kernel
theorem dX6_lies_2 : decode cX6_lies 2 = .ok (.if_icmp .lt 12, 3) := by decide +kernel
theorem dX6_lies_5 : decode cX6_lies 5 = .ok (.iload_n 0, 1) := by decide +kernel
theorem dX6_lies_6 : decode cX6_lies 6 = .ok (.iload_n 2, 1) := by decide +kernel
theorem dX6_lies_7 : decode cX6_lies 7 = .ok (.if_icmp .gt 7, 3) := by decide +kernel
theorem dX6_lies_10 : decode cX6_lies 10 = .ok (.iconst 1, 1) := by decide +kernel
theorem dX6_lies_11 : decode cX6_lies 11 = .ok (.goto 4, 3) := by decide +kernel
theorem dX6_lies_14 : decode cX6_lies 14 = .ok (.iconst 0, 1) := by decide +kernel
theorem dX6_lies_15 : decode cX6_lies 15 = .ok (.ireturn, 1) := by decide +kernel
theorem dX6_fields_0 : decode cX6_fields 0 = .ok (.aload_n 0, 1) := by decide +kernel
theorem dX6_fields_1 : decode cX6_fields 1 = .ok (.getfield 7, 3) := by decide +kernel
theorem dX6_fields_4 : decode cX6_fields 4 = .ok (.aload_n 0, 1) := by decide +kernel
theorem dX6_fields_5 : decode cX6_fields 5 = .ok (.getfield 13, 3) := by decide +kernel
theorem dX6_fields_8 : decode cX6_fields 8 = .ok (.imul, 1) := by decide +kernel
theorem dX6_fields_9 : decode cX6_fields 9 = .ok (.ireturn, 1) := by decide +kernel
set_option maxRecDepth 20000 in
theorem ggX6_isField_X6_fields : GoodIn wsX6_isField wsX6_fields := goodIn_r _ [5, 6, 7, 11, 12, 13, 14, 15, 16, 17, 18, 19, 20, 21, 22, 23, 24, 25, 26, 27] (by decide +kernel) (by decide +kernel)
set_option maxRecDepth 20000 in
theorem gX6_isField_X6_fields : GoodIn wsX6_isField (wsV RX6 56 RX6 yX6_fields wsX6_fields) := goodIn_app (goodIn_of _ (by decide +kernel)) ggX6_isField_X6_fields
set_option maxRecDepth 20000 in
theorem ggX6_isField_X6_lies : GoodIn wsX6_isField wsX6_lies := goodIn_r _ [10] (by decide +kernel) (by decide +kernel)
set_option maxRecDepth 20000 in
theorem gX6_isField_X6_lies : GoodIn wsX6_isField (va_wsS RX6 60 yX6_lies wsX6_lies) := goodIn_app (goodIn_of _ (by decide +kernel)) ggX6_isField_X6_lies
theorem dX6_isField_0 : decode cX6_isField 0 = .ok (.iload_n 1, 1) := by decide +kernel
theorem dX6_isField_1 : decode cX6_isField 1 = .ok (.iconst 0, 1) := by decide +kernel
theorem dX6_isField_2 : decode cX6_isField 2 = .ok (.aload_n 0, 1) := by decide +kernel
theorem dX6_isField_3 : decode cX6_isField 3 = .ok (.invokevirtual 56, 3) := by decide +kernel
theorem dX6_isField_6 : decode cX6_isField 6 = .ok (.iconst 1, 1) := by decide +kernel
theorem dX6_isField_7 : decode cX6_isField 7 = .ok (.isub, 1) := by decide +kernel
theorem dX6_isField_8 : decode cX6_isField 8 = .ok (.invokestatic 60, 3) := by decide +kernel
theorem dX6_isField_11 : decode cX6_isField 11 = .ok (.ireturn, 1) := by decide +kernel
theorem dX6_forgets_0 : decode cX6_forgets 0 = .ok (.aload_n 0, 1) := by decide +kernel
theorem dX6_forgets_1 : decode cX6_forgets 1 = .ok (.iconst 0, 1) := by decide +kernel
theorem dX6_forgets_2 : decode cX6_forgets 2 = .ok (.putfield 64, 3) := by decide +kernel
theorem dX6_forgets_5 : decode cX6_forgets 5 = .ok (.aload_n 0, 1) := by decide +kernel
theorem dX6_forgets_6 : decode cX6_forgets 6 = .ok (.iconst 0, 1) := by decide +kernel
theorem dX6_forgets_7 : decode cX6_forgets 7 = .ok (.putfield 67, 3) := by decide +kernel
theorem dX6_forgets_10 : decode cX6_forgets 10 = .ok (.return_, 1) := by decide +kernel
set_option maxRecDepth 20000 in
theorem ggX6_board_X6_lies : GoodIn wsX6_board wsX6_lies := goodIn_r _ [9] (by decide +kernel) (by decide +kernel)
set_option maxRecDepth 20000 in
theorem gX6_board_X6_lies : GoodIn wsX6_board (va_wsS RX6 60 yX6_lies wsX6_lies) := goodIn_app (goodIn_of _ (by decide +kernel)) ggX6_board_X6_lies
set_option maxRecDepth 20000 in
theorem ggX6_board_X6_forgets : GoodIn wsX6_board wsX6_forgets := goodIn_r _ [13, 14, 15, 16, 17, 18, 19, 20, 21, 22, 23, 24, 25, 26, 27, 28, 29, 30, 31, 32] (by decide +kernel) (by decide +kernel)
set_option maxRecDepth 20000 in
theorem gX6_board_X6_forgets : GoodIn wsX6_board (wsV RX6 70 RX6 yX6_forgets wsX6_forgets) := goodIn_app (goodIn_of _ (by decide +kernel)) ggX6_board_X6_forgets
theorem dX6_board_0 : decode cX6_board 0 = .ok (.iload_n 1, 1) := by decide +kernel
theorem dX6_board_1 : decode cX6_board 1 = .ok (.iconst 1, 1) := by decide +kernel
theorem dX6_board_2 : decode cX6_board 2 = .ok (.bipush 6, 2) := by decide +kernel
theorem dX6_board_4 : decode cX6_board 4 = .ok (.invokestatic 60, 3) := by decide +kernel
theorem dX6_board_7 : decode cX6_board 7 = .ok (.ifCond .eq 13, 3) := by decide +kernel
theorem dX6_board_10 : decode cX6_board 10 = .ok (.iload_n 2, 1) := by decide +kernel
theorem dX6_board_11 : decode cX6_board 11 = .ok (.iconst 1, 1) := by decide +kernel
theorem dX6_board_12 : decode cX6_board 12 = .ok (.bipush 6, 2) := by decide +kernel
theorem dX6_board_14 : decode cX6_board 14 = .ok (.invokestatic 60, 3) := by decide +kernel
theorem dX6_board_17 : decode cX6_board 17 = .ok (.ifCond .ne 5, 3) := by decide +kernel
theorem dX6_board_20 : decode cX6_board 20 = .ok (.iconst 0, 1) := by decide +kernel
theorem dX6_board_21 : decode cX6_board 21 = .ok (.ireturn, 1) := by decide +kernel
theorem dX6_board_22 : decode cX6_board 22 = .ok (.aload_n 0, 1) := by decide +kernel
theorem dX6_board_23 : decode cX6_board 23 = .ok (.iload_n 1, 1) := by decide +kernel
theorem dX6_board_24 : decode cX6_board 24 = .ok (.putfield 7, 3) := by decide +kernel
theorem dX6_board_27 : decode cX6_board 27 = .ok (.aload_n 0, 1) := by decide +kernel
theorem dX6_board_28 : decode cX6_board 28 = .ok (.iload_n 2, 1) := by decide +kernel
theorem dX6_board_29 : decode cX6_board 29 = .ok (.putfield 13, 3) := by decide +kernel
theorem dX6_board_32 : decode cX6_board 32 = .ok (.iconst 0, 1) := by decide +kernel
theorem dX6_board_33 : decode cX6_board 33 = .ok (.istore_n 3, 1) := by decide +kernel
theorem dX6_board_34 : decode cX6_board 34 = .ok (.iload_n 3, 1) := by decide +kernel
theorem dX6_board_35 : decode cX6_board 35 = .ok (.bipush 36, 2) := by decide +kernel
theorem dX6_board_37 : decode cX6_board 37 = .ok (.if_icmp .ge 16, 3) := by decide +kernel
theorem dX6_board_40 : decode cX6_board 40 = .ok (.aload_n 0, 1) := by decide +kernel
theorem dX6_board_41 : decode cX6_board 41 = .ok (.getfield 19, 3) := by decide +kernel
theorem dX6_board_44 : decode cX6_board 44 = .ok (.iload_n 3, 1) := by decide +kernel
theorem dX6_board_45 : decode cX6_board 45 = .ok (.iconst 0, 1) := by decide +kernel
theorem dX6_board_46 : decode cX6_board 46 = .ok (.iastore, 1) := by decide +kernel
theorem dX6_board_47 : decode cX6_board 47 = .ok (.iinc 3 1, 3) := by decide +kernel
theorem dX6_board_50 : decode cX6_board 50 = .ok (.goto (-16), 3) := by decide +kernel
theorem dX6_board_53 : decode cX6_board 53 = .ok (.aload_n 0, 1) := by decide +kernel
theorem dX6_board_54 : decode cX6_board 54 = .ok (.iconst 1, 1) := by decide +kernel
theorem dX6_board_55 : decode cX6_board 55 = .ok (.putfield 16, 3) := by decide +kernel
theorem dX6_board_58 : decode cX6_board 58 = .ok (.aload_n 0, 1) := by decide +kernel
theorem dX6_board_59 : decode cX6_board 59 = .ok (.iconst 1, 1) := by decide +kernel
theorem dX6_board_60 : decode cX6_board 60 = .ok (.putfield 26, 3) := by decide +kernel
theorem dX6_board_63 : decode cX6_board 63 = .ok (.aload_n 0, 1) := by decide +kernel
theorem dX6_board_64 : decode cX6_board 64 = .ok (.invokevirtual 70, 3) := by decide +kernel
theorem dX6_board_67 : decode cX6_board 67 = .ok (.iconst 1, 1) := by decide +kernel
theorem dX6_board_68 : decode cX6_board 68 = .ok (.ireturn, 1) := by decide +kernel
set_option maxRecDepth 20000 in
theorem ggX6_set_X6_isField : GoodIn wsX6_set wsX6_isField := goodIn_r _ [8, 9, 10, 11, 7, 12, 13, 14, 15, 16, 17, 24, 25, 26, 27, 28, 29, 30, 31, 32, 33, 34, 35, 36, 37, 38, 39, 40] (by decide +kernel) (by decide +kernel)
set_option maxRecDepth 20000 in
theorem gX6_set_X6_isField : GoodIn wsX6_set (wsV RX6 73 RX6 yX6_isField wsX6_isField) := goodIn_app (goodIn_of _ (by decide +kernel)) ggX6_set_X6_isField
set_option maxRecDepth 20000 in
theorem ggX6_set_X6_lies : GoodIn wsX6_set wsX6_lies := goodIn_r _ [17] (by decide +kernel) (by decide +kernel)
set_option maxRecDepth 20000 in
theorem gX6_set_X6_lies : GoodIn wsX6_set (va_wsS RX6 60 yX6_lies wsX6_lies) := goodIn_app (goodIn_of _ (by decide +kernel)) ggX6_set_X6_lies
set_option maxRecDepth 20000 in
theorem ggX6_set_X6_forgets : GoodIn wsX6_set wsX6_forgets := goodIn_r _ [21, 22, 23, 24, 25, 26, 27, 28, 29, 30, 31, 32, 33, 34, 35, 36, 37, 38, 39, 40] (by decide +kernel) (by decide +kernel)
set_option maxRecDepth 20000 in
theorem gX6_set_X6_forgets : GoodIn wsX6_set (wsV RX6 70 RX6 yX6_forgets wsX6_forgets) := goodIn_app (goodIn_of _ (by decide +kernel)) ggX6_set_X6_forgets
theorem dX6_set_0 : decode cX6_set 0 = .ok (.aload_n 0, 1) := by decide +kernel
theorem dX6_set_1 : decode cX6_set 1 = .ok (.iload_n 1, 1) := by decide +kernel
theorem dX6_set_2 : decode cX6_set 2 = .ok (.invokevirtual 73, 3) := by decide +kernel
theorem dX6_set_5 : decode cX6_set 5 = .ok (.ifCond .eq 21, 3) := by decide +kernel
theorem dX6_set_8 : decode cX6_set 8 = .ok (.iload_n 2, 1) := by decide +kernel
theorem dX6_set_9 : decode cX6_set 9 = .ok (.iconst 0, 1) := by decide +kernel
theorem dX6_set_10 : decode cX6_set 10 = .ok (.iconst 2, 1) := by decide +kernel
theorem dX6_set_11 : decode cX6_set 11 = .ok (.invokestatic 60, 3) := by decide +kernel
theorem dX6_set_14 : decode cX6_set 14 = .ok (.ifCond .eq 12, 3) := by decide +kernel
theorem dX6_set_17 : decode cX6_set 17 = .ok (.iload_n 3, 1) := by decide +kernel
theorem dX6_set_18 : decode cX6_set 18 = .ok (.iconst 1, 1) := by decide +kernel
theorem dX6_set_19 : decode cX6_set 19 = .ok (.iconst 2, 1) := by decide +kernel
theorem dX6_set_20 : decode cX6_set 20 = .ok (.invokestatic 60, 3) := by decide +kernel
theorem dX6_set_23 : decode cX6_set 23 = .ok (.ifCond .ne 5, 3) := by decide +kernel
theorem dX6_set_26 : decode cX6_set 26 = .ok (.iconst 0, 1) := by decide +kernel
theorem dX6_set_27 : decode cX6_set 27 = .ok (.ireturn, 1) := by decide +kernel
theorem dX6_set_28 : decode cX6_set 28 = .ok (.aload_n 0, 1) := by decide +kernel
theorem dX6_set_29 : decode cX6_set 29 = .ok (.getfield 19, 3) := by decide +kernel
theorem dX6_set_32 : decode cX6_set 32 = .ok (.iload_n 1, 1) := by decide +kernel
theorem dX6_set_33 : decode cX6_set 33 = .ok (.iload_n 2, 1) := by decide +kernel
theorem dX6_set_34 : decode cX6_set 34 = .ok (.iastore, 1) := by decide +kernel
theorem dX6_set_35 : decode cX6_set 35 = .ok (.aload_n 0, 1) := by decide +kernel
theorem dX6_set_36 : decode cX6_set 36 = .ok (.iload_n 3, 1) := by decide +kernel
theorem dX6_set_37 : decode cX6_set 37 = .ok (.putfield 16, 3) := by decide +kernel
theorem dX6_set_40 : decode cX6_set 40 = .ok (.aload_n 0, 1) := by decide +kernel
theorem dX6_set_41 : decode cX6_set 41 = .ok (.iconst 0, 1) := by decide +kernel
theorem dX6_set_42 : decode cX6_set 42 = .ok (.putfield 26, 3) := by decide +kernel
theorem dX6_set_45 : decode cX6_set 45 = .ok (.aload_n 0, 1) := by decide +kernel
theorem dX6_set_46 : decode cX6_set 46 = .ok (.invokevirtual 70, 3) := by decide +kernel
theorem dX6_set_49 : decode cX6_set 49 = .ok (.iconst 1, 1) := by decide +kernel
theorem dX6_set_50 : decode cX6_set 50 = .ok (.ireturn, 1) := by decide +kernel
set_option maxRecDepth 20000 in
theorem ggX6_beside_X6_lies : GoodIn wsX6_beside wsX6_lies := goodIn_r _ [6] (by decide +kernel) (by decide +kernel)
set_option maxRecDepth 20000 in
theorem gX6_beside_X6_lies : GoodIn wsX6_beside (va_wsS RX6 60 yX6_lies wsX6_lies) := goodIn_app (goodIn_of _ (by decide +kernel)) ggX6_beside_X6_lies
theorem dX6_beside_0 : decode cX6_beside 0 = .ok (.iload_n 1, 1) := by decide +kernel
theorem dX6_beside_1 : decode cX6_beside 1 = .ok (.aload_n 0, 1) := by decide +kernel
theorem dX6_beside_2 : decode cX6_beside 2 = .ok (.getfield 13, 3) := by decide +kernel
theorem dX6_beside_5 : decode cX6_beside 5 = .ok (.idiv, 1) := by decide +kernel
theorem dX6_beside_6 : decode cX6_beside 6 = .ok (.istore_n 3, 1) := by decide +kernel
theorem dX6_beside_7 : decode cX6_beside 7 = .ok (.iload_n 1, 1) := by decide +kernel
theorem dX6_beside_8 : decode cX6_beside 8 = .ok (.aload_n 0, 1) := by decide +kernel
theorem dX6_beside_9 : decode cX6_beside 9 = .ok (.getfield 13, 3) := by decide +kernel
theorem dX6_beside_12 : decode cX6_beside 12 = .ok (.irem, 1) := by decide +kernel
theorem dX6_beside_13 : decode cX6_beside 13 = .ok (.istore 4, 2) := by decide +kernel
theorem dX6_beside_15 : decode cX6_beside 15 = .ok (.iload_n 2, 1) := by decide +kernel
theorem dX6_beside_16 : decode cX6_beside 16 = .ok (.tableswitch 69 0 4 #[36, 42, 48, 54, 60], 36) := by decide +kernel
theorem dX6_beside_52 : decode cX6_beside 52 = .ok (.iinc 4 (-1), 3) := by decide +kernel
theorem dX6_beside_55 : decode cX6_beside 55 = .ok (.goto 36, 3) := by decide +kernel
theorem dX6_beside_58 : decode cX6_beside 58 = .ok (.iinc 4 1, 3) := by decide +kernel
theorem dX6_beside_61 : decode cX6_beside 61 = .ok (.goto 30, 3) := by decide +kernel
theorem dX6_beside_64 : decode cX6_beside 64 = .ok (.iinc 3 (-1), 3) := by decide +kernel
theorem dX6_beside_67 : decode cX6_beside 67 = .ok (.goto 24, 3) := by decide +kernel
theorem dX6_beside_70 : decode cX6_beside 70 = .ok (.iinc 3 1, 3) := by decide +kernel
theorem dX6_beside_73 : decode cX6_beside 73 = .ok (.goto 18, 3) := by decide +kernel
theorem dX6_beside_76 : decode cX6_beside 76 = .ok (.iinc 3 (-1), 3) := by decide +kernel
theorem dX6_beside_79 : decode cX6_beside 79 = .ok (.iinc 4 1, 3) := by decide +kernel
theorem dX6_beside_82 : decode cX6_beside 82 = .ok (.goto 9, 3) := by decide +kernel
theorem dX6_beside_85 : decode cX6_beside 85 = .ok (.iinc 3 1, 3) := by decide +kernel
theorem dX6_beside_88 : decode cX6_beside 88 = .ok (.iinc 4 (-1), 3) := by decide +kernel
theorem dX6_beside_91 : decode cX6_beside 91 = .ok (.iload_n 3, 1) := by decide +kernel
theorem dX6_beside_92 : decode cX6_beside 92 = .ok (.iconst 0, 1) := by decide +kernel
theorem dX6_beside_93 : decode cX6_beside 93 = .ok (.aload_n 0, 1) := by decide +kernel
theorem dX6_beside_94 : decode cX6_beside 94 = .ok (.getfield 7, 3) := by decide +kernel
theorem dX6_beside_97 : decode cX6_beside 97 = .ok (.iconst 1, 1) := by decide +kernel
theorem dX6_beside_98 : decode cX6_beside 98 = .ok (.isub, 1) := by decide +kernel
theorem dX6_beside_99 : decode cX6_beside 99 = .ok (.invokestatic 60, 3) := by decide +kernel
theorem dX6_beside_102 : decode cX6_beside 102 = .ok (.ifCond .eq 30, 3) := by decide +kernel
theorem dX6_beside_105 : decode cX6_beside 105 = .ok (.iload 4, 2) := by decide +kernel
theorem dX6_beside_107 : decode cX6_beside 107 = .ok (.iconst 0, 1) := by decide +kernel
theorem dX6_beside_108 : decode cX6_beside 108 = .ok (.aload_n 0, 1) := by decide +kernel
theorem dX6_beside_109 : decode cX6_beside 109 = .ok (.getfield 13, 3) := by decide +kernel
theorem dX6_beside_112 : decode cX6_beside 112 = .ok (.iconst 1, 1) := by decide +kernel
theorem dX6_beside_113 : decode cX6_beside 113 = .ok (.isub, 1) := by decide +kernel
theorem dX6_beside_114 : decode cX6_beside 114 = .ok (.invokestatic 60, 3) := by decide +kernel
theorem dX6_beside_117 : decode cX6_beside 117 = .ok (.ifCond .eq 15, 3) := by decide +kernel
theorem dX6_beside_120 : decode cX6_beside 120 = .ok (.aload_n 0, 1) := by decide +kernel
theorem dX6_beside_121 : decode cX6_beside 121 = .ok (.getfield 13, 3) := by decide +kernel
theorem dX6_beside_124 : decode cX6_beside 124 = .ok (.iload_n 3, 1) := by decide +kernel
theorem dX6_beside_125 : decode cX6_beside 125 = .ok (.imul, 1) := by decide +kernel
theorem dX6_beside_126 : decode cX6_beside 126 = .ok (.iload 4, 2) := by decide +kernel
theorem dX6_beside_128 : decode cX6_beside 128 = .ok (.iadd, 1) := by decide +kernel
theorem dX6_beside_129 : decode cX6_beside 129 = .ok (.goto 4, 3) := by decide +kernel
theorem dX6_beside_132 : decode cX6_beside 132 = .ok (.iconst (-1), 1) := by decide +kernel
theorem dX6_beside_133 : decode cX6_beside 133 = .ok (.ireturn, 1) := by decide +kernel
theorem dX6_banks_0 : decode cX6_banks 0 = .ok (.iload_n 1, 1) := by decide +kernel
theorem dX6_banks_1 : decode cX6_banks 1 = .ok (.aload_n 0, 1) := by decide +kernel
theorem dX6_banks_2 : decode cX6_banks 2 = .ok (.getfield 13, 3) := by decide +kernel
theorem dX6_banks_5 : decode cX6_banks 5 = .ok (.idiv, 1) := by decide +kernel
theorem dX6_banks_6 : decode cX6_banks 6 = .ok (.ifCond .ne 7, 3) := by decide +kernel
theorem dX6_banks_9 : decode cX6_banks 9 = .ok (.iconst 1, 1) := by decide +kernel
theorem dX6_banks_10 : decode cX6_banks 10 = .ok (.goto 4, 3) := by decide +kernel
theorem dX6_banks_13 : decode cX6_banks 13 = .ok (.iconst 0, 1) := by decide +kernel
theorem dX6_banks_14 : decode cX6_banks 14 = .ok (.istore_n 2, 1) := by decide +kernel
theorem dX6_banks_15 : decode cX6_banks 15 = .ok (.iload_n 2, 1) := by decide +kernel
theorem dX6_banks_16 : decode cX6_banks 16 = .ok (.iload_n 1, 1) := by decide +kernel
theorem dX6_banks_17 : decode cX6_banks 17 = .ok (.aload_n 0, 1) := by decide +kernel
theorem dX6_banks_18 : decode cX6_banks 18 = .ok (.getfield 13, 3) := by decide +kernel
theorem dX6_banks_21 : decode cX6_banks 21 = .ok (.idiv, 1) := by decide +kernel
theorem dX6_banks_22 : decode cX6_banks 22 = .ok (.aload_n 0, 1) := by decide +kernel
theorem dX6_banks_23 : decode cX6_banks 23 = .ok (.getfield 7, 3) := by decide +kernel
theorem dX6_banks_26 : decode cX6_banks 26 = .ok (.iconst 1, 1) := by decide +kernel
theorem dX6_banks_27 : decode cX6_banks 27 = .ok (.isub, 1) := by decide +kernel
theorem dX6_banks_28 : decode cX6_banks 28 = .ok (.if_icmp .ne 7, 3) := by decide +kernel
theorem dX6_banks_31 : decode cX6_banks 31 = .ok (.iconst 2, 1) := by decide +kernel
theorem dX6_banks_32 : decode cX6_banks 32 = .ok (.goto 4, 3) := by decide +kernel
theorem dX6_banks_35 : decode cX6_banks 35 = .ok (.iconst 0, 1) := by decide +kernel
theorem dX6_banks_36 : decode cX6_banks 36 = .ok (.ior, 1) := by decide +kernel
theorem dX6_banks_37 : decode cX6_banks 37 = .ok (.istore_n 2, 1) := by decide +kernel
theorem dX6_banks_38 : decode cX6_banks 38 = .ok (.iload_n 2, 1) := by decide +kernel
theorem dX6_banks_39 : decode cX6_banks 39 = .ok (.iload_n 1, 1) := by decide +kernel
theorem dX6_banks_40 : decode cX6_banks 40 = .ok (.aload_n 0, 1) := by decide +kernel
theorem dX6_banks_41 : decode cX6_banks 41 = .ok (.getfield 13, 3) := by decide +kernel
theorem dX6_banks_44 : decode cX6_banks 44 = .ok (.irem, 1) := by decide +kernel
theorem dX6_banks_45 : decode cX6_banks 45 = .ok (.ifCond .ne 7, 3) := by decide +kernel
theorem dX6_banks_48 : decode cX6_banks 48 = .ok (.iconst 4, 1) := by decide +kernel
theorem dX6_banks_49 : decode cX6_banks 49 = .ok (.goto 4, 3) := by decide +kernel
theorem dX6_banks_52 : decode cX6_banks 52 = .ok (.iconst 0, 1) := by decide +kernel
theorem dX6_banks_53 : decode cX6_banks 53 = .ok (.ior, 1) := by decide +kernel
theorem dX6_banks_54 : decode cX6_banks 54 = .ok (.istore_n 2, 1) := by decide +kernel
theorem dX6_banks_55 : decode cX6_banks 55 = .ok (.iload_n 2, 1) := by decide +kernel
theorem dX6_banks_56 : decode cX6_banks 56 = .ok (.iload_n 1, 1) := by decide +kernel
theorem dX6_banks_57 : decode cX6_banks 57 = .ok (.aload_n 0, 1) := by decide +kernel
theorem dX6_banks_58 : decode cX6_banks 58 = .ok (.getfield 13, 3) := by decide +kernel
theorem dX6_banks_61 : decode cX6_banks 61 = .ok (.irem, 1) := by decide +kernel
theorem dX6_banks_62 : decode cX6_banks 62 = .ok (.aload_n 0, 1) := by decide +kernel
theorem dX6_banks_63 : decode cX6_banks 63 = .ok (.getfield 13, 3) := by decide +kernel
theorem dX6_banks_66 : decode cX6_banks 66 = .ok (.iconst 1, 1) := by decide +kernel
theorem dX6_banks_67 : decode cX6_banks 67 = .ok (.isub, 1) := by decide +kernel
theorem dX6_banks_68 : decode cX6_banks 68 = .ok (.if_icmp .ne 8, 3) := by decide +kernel
theorem dX6_banks_71 : decode cX6_banks 71 = .ok (.bipush 8, 2) := by decide +kernel
theorem dX6_banks_73 : decode cX6_banks 73 = .ok (.goto 4, 3) := by decide +kernel
theorem dX6_banks_76 : decode cX6_banks 76 = .ok (.iconst 0, 1) := by decide +kernel
theorem dX6_banks_77 : decode cX6_banks 77 = .ok (.ior, 1) := by decide +kernel
theorem dX6_banks_78 : decode cX6_banks 78 = .ok (.ireturn, 1) := by decide +kernel
set_option maxRecDepth 20000 in
theorem ggX6_reaches_X6_fields : GoodIn wsX6_reaches wsX6_fields := goodIn_r _ [7, 8, 9, 17, 18, 19, 20, 21, 22, 23, 24, 25, 26, 27, 28, 29, 30, 31, 32, 33] (by decide +kernel) (by decide +kernel)
set_option maxRecDepth 20000 in
theorem gX6_reaches_X6_fields : GoodIn wsX6_reaches (wsV RX6 56 RX6 yX6_fields wsX6_fields) := goodIn_app (goodIn_of _ (by decide +kernel)) ggX6_reaches_X6_fields
set_option maxRecDepth 20000 in
theorem ggX6_reaches_X6_beside : GoodIn wsX6_reaches wsX6_beside := goodIn_r _ [13, 9, 8, 14, 15, 6, 16, 17, 18, 19, 20, 21, 22, 23, 24, 25, 26, 27, 28, 29, 30, 31, 32, 33] (by decide +kernel) (by decide +kernel)
set_option maxRecDepth 20000 in
theorem gX6_reaches_X6_beside : GoodIn wsX6_reaches (wsV RX6 77 RX6 yX6_beside wsX6_beside) := goodIn_app (goodIn_of _ (by decide +kernel)) ggX6_reaches_X6_beside
theorem dX6_reaches_0 : decode cX6_reaches 0 = .ok (.iconst 1, 1) := by decide +kernel
theorem dX6_reaches_1 : decode cX6_reaches 1 = .ok (.istore_n 2, 1) := by decide +kernel
theorem dX6_reaches_2 : decode cX6_reaches 2 = .ok (.iload_n 2, 1) := by decide +kernel
theorem dX6_reaches_3 : decode cX6_reaches 3 = .ok (.ifCond .eq 99, 3) := by decide +kernel
theorem dX6_reaches_6 : decode cX6_reaches 6 = .ok (.iconst 0, 1) := by decide +kernel
theorem dX6_reaches_7 : decode cX6_reaches 7 = .ok (.istore_n 2, 1) := by decide +kernel
theorem dX6_reaches_8 : decode cX6_reaches 8 = .ok (.iconst 0, 1) := by decide +kernel
theorem dX6_reaches_9 : decode cX6_reaches 9 = .ok (.istore_n 3, 1) := by decide +kernel
theorem dX6_reaches_10 : decode cX6_reaches 10 = .ok (.iload_n 3, 1) := by decide +kernel
theorem dX6_reaches_11 : decode cX6_reaches 11 = .ok (.aload_n 0, 1) := by decide +kernel
theorem dX6_reaches_12 : decode cX6_reaches 12 = .ok (.invokevirtual 56, 3) := by decide +kernel
theorem dX6_reaches_15 : decode cX6_reaches 15 = .ok (.if_icmp .ge 84, 3) := by decide +kernel
theorem dX6_reaches_18 : decode cX6_reaches 18 = .ok (.aload_n 0, 1) := by decide +kernel
theorem dX6_reaches_19 : decode cX6_reaches 19 = .ok (.getfield 30, 3) := by decide +kernel
theorem dX6_reaches_22 : decode cX6_reaches 22 = .ok (.iload_n 3, 1) := by decide +kernel
theorem dX6_reaches_23 : decode cX6_reaches 23 = .ok (.baload, 1) := by decide +kernel
theorem dX6_reaches_24 : decode cX6_reaches 24 = .ok (.ifCond .ne 69, 3) := by decide +kernel
theorem dX6_reaches_27 : decode cX6_reaches 27 = .ok (.aload_n 0, 1) := by decide +kernel
theorem dX6_reaches_28 : decode cX6_reaches 28 = .ok (.getfield 19, 3) := by decide +kernel
theorem dX6_reaches_31 : decode cX6_reaches 31 = .ok (.iload_n 3, 1) := by decide +kernel
theorem dX6_reaches_32 : decode cX6_reaches 32 = .ok (.iaload, 1) := by decide +kernel
theorem dX6_reaches_33 : decode cX6_reaches 33 = .ok (.iload_n 1, 1) := by decide +kernel
theorem dX6_reaches_34 : decode cX6_reaches 34 = .ok (.if_icmp .eq 6, 3) := by decide +kernel
theorem dX6_reaches_37 : decode cX6_reaches 37 = .ok (.goto 56, 3) := by decide +kernel
theorem dX6_reaches_40 : decode cX6_reaches 40 = .ok (.iconst 0, 1) := by decide +kernel
theorem dX6_reaches_41 : decode cX6_reaches 41 = .ok (.istore 4, 2) := by decide +kernel
theorem dX6_reaches_43 : decode cX6_reaches 43 = .ok (.iload 4, 2) := by decide +kernel
theorem dX6_reaches_45 : decode cX6_reaches 45 = .ok (.bipush 6, 2) := by decide +kernel
theorem dX6_reaches_47 : decode cX6_reaches 47 = .ok (.if_icmp .ge 46, 3) := by decide +kernel
theorem dX6_reaches_50 : decode cX6_reaches 50 = .ok (.aload_n 0, 1) := by decide +kernel
theorem dX6_reaches_51 : decode cX6_reaches 51 = .ok (.iload_n 3, 1) := by decide +kernel
theorem dX6_reaches_52 : decode cX6_reaches 52 = .ok (.iload 4, 2) := by decide +kernel
theorem dX6_reaches_54 : decode cX6_reaches 54 = .ok (.invokevirtual 77, 3) := by decide +kernel
theorem dX6_reaches_57 : decode cX6_reaches 57 = .ok (.istore 5, 2) := by decide +kernel
theorem dX6_reaches_59 : decode cX6_reaches 59 = .ok (.iload 5, 2) := by decide +kernel
theorem dX6_reaches_61 : decode cX6_reaches 61 = .ok (.iconst (-1), 1) := by decide +kernel
theorem dX6_reaches_62 : decode cX6_reaches 62 = .ok (.if_icmp .eq 25, 3) := by decide +kernel
theorem dX6_reaches_65 : decode cX6_reaches 65 = .ok (.aload_n 0, 1) := by decide +kernel
theorem dX6_reaches_66 : decode cX6_reaches 66 = .ok (.getfield 30, 3) := by decide +kernel
theorem dX6_reaches_69 : decode cX6_reaches 69 = .ok (.iload 5, 2) := by decide +kernel
theorem dX6_reaches_71 : decode cX6_reaches 71 = .ok (.baload, 1) := by decide +kernel
theorem dX6_reaches_72 : decode cX6_reaches 72 = .ok (.ifCond .ne 6, 3) := by decide +kernel
theorem dX6_reaches_75 : decode cX6_reaches 75 = .ok (.goto 12, 3) := by decide +kernel
theorem dX6_reaches_78 : decode cX6_reaches 78 = .ok (.aload_n 0, 1) := by decide +kernel
theorem dX6_reaches_79 : decode cX6_reaches 79 = .ok (.getfield 30, 3) := by decide +kernel
theorem dX6_reaches_82 : decode cX6_reaches 82 = .ok (.iload_n 3, 1) := by decide +kernel
theorem dX6_reaches_83 : decode cX6_reaches 83 = .ok (.iconst 1, 1) := by decide +kernel
theorem dX6_reaches_84 : decode cX6_reaches 84 = .ok (.bastore, 1) := by decide +kernel
theorem dX6_reaches_85 : decode cX6_reaches 85 = .ok (.iconst 1, 1) := by decide +kernel
theorem dX6_reaches_86 : decode cX6_reaches 86 = .ok (.istore_n 2, 1) := by decide +kernel
theorem dX6_reaches_87 : decode cX6_reaches 87 = .ok (.iinc 4 1, 3) := by decide +kernel
theorem dX6_reaches_90 : decode cX6_reaches 90 = .ok (.goto (-47), 3) := by decide +kernel
theorem dX6_reaches_93 : decode cX6_reaches 93 = .ok (.iinc 3 1, 3) := by decide +kernel
theorem dX6_reaches_96 : decode cX6_reaches 96 = .ok (.goto (-86), 3) := by decide +kernel
theorem dX6_reaches_99 : decode cX6_reaches 99 = .ok (.goto (-97), 3) := by decide +kernel
theorem dX6_reaches_102 : decode cX6_reaches 102 = .ok (.return_, 1) := by decide +kernel
theorem dX6_reachesNone_0 : decode cX6_reachesNone 0 = .ok (.iconst 0, 1) := by decide +kernel
theorem dX6_reachesNone_1 : decode cX6_reachesNone 1 = .ok (.istore_n 1, 1) := by decide +kernel
theorem dX6_reachesNone_2 : decode cX6_reachesNone 2 = .ok (.iload_n 1, 1) := by decide +kernel
theorem dX6_reachesNone_3 : decode cX6_reachesNone 3 = .ok (.bipush 36, 2) := by decide +kernel
theorem dX6_reachesNone_5 : decode cX6_reachesNone 5 = .ok (.if_icmp .ge 16, 3) := by decide +kernel
theorem dX6_reachesNone_8 : decode cX6_reachesNone 8 = .ok (.aload_n 0, 1) := by decide +kernel
theorem dX6_reachesNone_9 : decode cX6_reachesNone 9 = .ok (.getfield 30, 3) := by decide +kernel
theorem dX6_reachesNone_12 : decode cX6_reachesNone 12 = .ok (.iload_n 1, 1) := by decide +kernel
theorem dX6_reachesNone_13 : decode cX6_reachesNone 13 = .ok (.iconst 0, 1) := by decide +kernel
theorem dX6_reachesNone_14 : decode cX6_reachesNone 14 = .ok (.bastore, 1) := by decide +kernel
theorem dX6_reachesNone_15 : decode cX6_reachesNone 15 = .ok (.iinc 1 1, 3) := by decide +kernel
theorem dX6_reachesNone_18 : decode cX6_reachesNone 18 = .ok (.goto (-16), 3) := by decide +kernel
theorem dX6_reachesNone_21 : decode cX6_reachesNone 21 = .ok (.return_, 1) := by decide +kernel
theorem dX6_first_0 : decode cX6_first 0 = .ok (.iload_n 0, 1) := by decide +kernel
theorem dX6_first_1 : decode cX6_first 1 = .ok (.iconst 1, 1) := by decide +kernel
theorem dX6_first_2 : decode cX6_first 2 = .ok (.if_icmp .ne 7, 3) := by decide +kernel
theorem dX6_first_5 : decode cX6_first 5 = .ok (.iconst 1, 1) := by decide +kernel
theorem dX6_first_6 : decode cX6_first 6 = .ok (.goto 4, 3) := by decide +kernel
theorem dX6_first_9 : decode cX6_first 9 = .ok (.iconst 4, 1) := by decide +kernel
theorem dX6_first_10 : decode cX6_first 10 = .ok (.ireturn, 1) := by decide +kernel
theorem dX6_last_0 : decode cX6_last 0 = .ok (.iload_n 0, 1) := by decide +kernel
theorem dX6_last_1 : decode cX6_last 1 = .ok (.iconst 1, 1) := by decide +kernel
theorem dX6_last_2 : decode cX6_last 2 = .ok (.if_icmp .ne 7, 3) := by decide +kernel
theorem dX6_last_5 : decode cX6_last 5 = .ok (.iconst 2, 1) := by decide +kernel
theorem dX6_last_6 : decode cX6_last 6 = .ok (.goto 5, 3) := by decide +kernel
theorem dX6_last_9 : decode cX6_last 9 = .ok (.bipush 8, 2) := by decide +kernel
theorem dX6_last_11 : decode cX6_last 11 = .ok (.ireturn, 1) := by decide +kernel
set_option maxRecDepth 20000 in
theorem ggX6_joins_X6_fields : GoodIn wsX6_joins wsX6_fields := goodIn_r _ [7, 8, 9, 31, 32, 33, 34, 35, 36, 37, 38, 39, 40, 41, 42, 43, 44, 45, 46, 47] (by decide +kernel) (by decide +kernel)
set_option maxRecDepth 20000 in
theorem gX6_joins_X6_fields : GoodIn wsX6_joins (wsV RX6 56 RX6 yX6_fields wsX6_fields) := goodIn_app (goodIn_of _ (by decide +kernel)) ggX6_joins_X6_fields
set_option maxRecDepth 20000 in
theorem ggX6_joins_X6_banks : GoodIn wsX6_joins wsX6_banks := goodIn_r _ [13, 9, 8, 31, 32, 33, 34, 35, 36, 37, 38, 39, 40, 41, 42, 43, 44, 45, 46, 47] (by decide +kernel) (by decide +kernel)
set_option maxRecDepth 20000 in
theorem gX6_joins_X6_banks : GoodIn wsX6_joins (wsV RX6 81 RX6 yX6_banks wsX6_banks) := goodIn_app (goodIn_of _ (by decide +kernel)) ggX6_joins_X6_banks
set_option maxRecDepth 20000 in
theorem ggX6_joins_X6_first : GoodIn wsX6_joins wsX6_first := goodIn_r _ [16] (by decide +kernel) (by decide +kernel)
set_option maxRecDepth 20000 in
theorem gX6_joins_X6_first : GoodIn wsX6_joins (va_wsS RX6 85 yX6_first wsX6_first) := goodIn_app (goodIn_of _ (by decide +kernel)) ggX6_joins_X6_first
set_option maxRecDepth 20000 in
theorem ggX6_joins_X6_reaches : GoodIn wsX6_joins wsX6_reaches := goodIn_r _ [20, 1, 2, 3, 4, 5, 6, 7, 8, 9, 21, 22, 23, 24, 25, 26, 27, 31, 32, 33, 34, 35, 36, 37, 38, 39, 40, 41, 42, 43, 44, 45, 46, 47] (by decide +kernel) (by decide +kernel)
set_option maxRecDepth 20000 in
theorem gX6_joins_X6_reaches : GoodIn wsX6_joins (wsV RX6 88 RX6 yX6_reaches wsX6_reaches) := goodIn_app (goodIn_of _ (by decide +kernel)) ggX6_joins_X6_reaches
set_option maxRecDepth 20000 in
theorem ggX6_joins_X6_last : GoodIn wsX6_joins wsX6_last := goodIn_r _ [30] (by decide +kernel) (by decide +kernel)
set_option maxRecDepth 20000 in
theorem gX6_joins_X6_last : GoodIn wsX6_joins (va_wsS RX6 92 yX6_last wsX6_last) := goodIn_app (goodIn_of _ (by decide +kernel)) ggX6_joins_X6_last
theorem dX6_joins_0 : decode cX6_joins 0 = .ok (.iconst 0, 1) := by decide +kernel
theorem dX6_joins_1 : decode cX6_joins 1 = .ok (.istore_n 2, 1) := by decide +kernel
theorem dX6_joins_2 : decode cX6_joins 2 = .ok (.iload_n 2, 1) := by decide +kernel
end
section
theorem dX6_joins_3 : decode cX6_joins 3 = .ok (.aload_n 0, 1) := by decide +kernel
theorem dX6_joins_4 : decode cX6_joins 4 = .ok (.invokevirtual 56, 3) := by decide +kernel
theorem dX6_joins_7 : decode cX6_joins 7 = .ok (.if_icmp .ge 43, 3) := by decide +kernel
theorem dX6_joins_10 : decode cX6_joins 10 = .ok (.aload_n 0, 1) := by decide +kernel
theorem dX6_joins_11 : decode cX6_joins 11 = .ok (.getfield 30, 3) := by decide +kernel
theorem dX6_joins_14 : decode cX6_joins 14 = .ok (.iload_n 2, 1) := by decide +kernel
theorem dX6_joins_15 : decode cX6_joins 15 = .ok (.aload_n 0, 1) := by decide +kernel
theorem dX6_joins_16 : decode cX6_joins 16 = .ok (.getfield 19, 3) := by decide +kernel
theorem dX6_joins_19 : decode cX6_joins 19 = .ok (.iload_n 2, 1) := by decide +kernel
theorem dX6_joins_20 : decode cX6_joins 20 = .ok (.iaload, 1) := by decide +kernel
theorem dX6_joins_21 : decode cX6_joins 21 = .ok (.iload_n 1, 1) := by decide +kernel
theorem dX6_joins_22 : decode cX6_joins 22 = .ok (.if_icmp .ne 20, 3) := by decide +kernel
theorem dX6_joins_25 : decode cX6_joins 25 = .ok (.aload_n 0, 1) := by decide +kernel
theorem dX6_joins_26 : decode cX6_joins 26 = .ok (.iload_n 2, 1) := by decide +kernel
theorem dX6_joins_27 : decode cX6_joins 27 = .ok (.invokevirtual 81, 3) := by decide +kernel
theorem dX6_joins_30 : decode cX6_joins 30 = .ok (.iload_n 1, 1) := by decide +kernel
theorem dX6_joins_31 : decode cX6_joins 31 = .ok (.invokestatic 85, 3) := by decide +kernel
theorem dX6_joins_34 : decode cX6_joins 34 = .ok (.iand, 1) := by decide +kernel
theorem dX6_joins_35 : decode cX6_joins 35 = .ok (.ifCond .eq 7, 3) := by decide +kernel
theorem dX6_joins_38 : decode cX6_joins 38 = .ok (.iconst 1, 1) := by decide +kernel
theorem dX6_joins_39 : decode cX6_joins 39 = .ok (.goto 4, 3) := by decide +kernel
theorem dX6_joins_42 : decode cX6_joins 42 = .ok (.iconst 0, 1) := by decide +kernel
theorem dX6_joins_43 : decode cX6_joins 43 = .ok (.bastore, 1) := by decide +kernel
theorem dX6_joins_44 : decode cX6_joins 44 = .ok (.iinc 2 1, 3) := by decide +kernel
theorem dX6_joins_47 : decode cX6_joins 47 = .ok (.goto (-45), 3) := by decide +kernel
theorem dX6_joins_50 : decode cX6_joins 50 = .ok (.aload_n 0, 1) := by decide +kernel
theorem dX6_joins_51 : decode cX6_joins 51 = .ok (.iload_n 1, 1) := by decide +kernel
theorem dX6_joins_52 : decode cX6_joins 52 = .ok (.invokevirtual 88, 3) := by decide +kernel
theorem dX6_joins_55 : decode cX6_joins 55 = .ok (.iconst 0, 1) := by decide +kernel
theorem dX6_joins_56 : decode cX6_joins 56 = .ok (.istore_n 2, 1) := by decide +kernel
theorem dX6_joins_57 : decode cX6_joins 57 = .ok (.iload_n 2, 1) := by decide +kernel
theorem dX6_joins_58 : decode cX6_joins 58 = .ok (.aload_n 0, 1) := by decide +kernel
theorem dX6_joins_59 : decode cX6_joins 59 = .ok (.invokevirtual 56, 3) := by decide +kernel
theorem dX6_joins_62 : decode cX6_joins 62 = .ok (.if_icmp .ge 33, 3) := by decide +kernel
theorem dX6_joins_65 : decode cX6_joins 65 = .ok (.aload_n 0, 1) := by decide +kernel
theorem dX6_joins_66 : decode cX6_joins 66 = .ok (.getfield 30, 3) := by decide +kernel
theorem dX6_joins_69 : decode cX6_joins 69 = .ok (.iload_n 2, 1) := by decide +kernel
theorem dX6_joins_70 : decode cX6_joins 70 = .ok (.baload, 1) := by decide +kernel
theorem dX6_joins_71 : decode cX6_joins 71 = .ok (.ifCond .eq 18, 3) := by decide +kernel
theorem dX6_joins_74 : decode cX6_joins 74 = .ok (.aload_n 0, 1) := by decide +kernel
theorem dX6_joins_75 : decode cX6_joins 75 = .ok (.iload_n 2, 1) := by decide +kernel
theorem dX6_joins_76 : decode cX6_joins 76 = .ok (.invokevirtual 81, 3) := by decide +kernel
theorem dX6_joins_79 : decode cX6_joins 79 = .ok (.iload_n 1, 1) := by decide +kernel
theorem dX6_joins_80 : decode cX6_joins 80 = .ok (.invokestatic 92, 3) := by decide +kernel
theorem dX6_joins_83 : decode cX6_joins 83 = .ok (.iand, 1) := by decide +kernel
theorem dX6_joins_84 : decode cX6_joins 84 = .ok (.ifCond .eq 5, 3) := by decide +kernel
theorem dX6_joins_87 : decode cX6_joins 87 = .ok (.iconst 1, 1) := by decide +kernel
theorem dX6_joins_88 : decode cX6_joins 88 = .ok (.ireturn, 1) := by decide +kernel
theorem dX6_joins_89 : decode cX6_joins 89 = .ok (.iinc 2 1, 3) := by decide +kernel
theorem dX6_joins_92 : decode cX6_joins 92 = .ok (.goto (-35), 3) := by decide +kernel
theorem dX6_joins_95 : decode cX6_joins 95 = .ok (.iconst 0, 1) := by decide +kernel
theorem dX6_joins_96 : decode cX6_joins 96 = .ok (.ireturn, 1) := by decide +kernel
set_option maxRecDepth 20000 in
theorem ggX6_joined_X6_joins : GoodIn wsX6_joined wsX6_joins := goodIn_r _ [5, 6, 7, 8, 9, 10, 4, 11, 12, 13, 14, 15, 16, 17, 18, 19, 20, 21, 22, 23, 24, 25, 26, 27, 28, 29, 30, 31, 32, 33, 34, 35, 36, 37, 38, 39, 40, 41, 42, 43, 44, 45, 46, 47, 48, 49, 50, 51] (by decide +kernel) (by decide +kernel)
set_option maxRecDepth 20000 in
theorem gX6_joined_X6_joins : GoodIn wsX6_joined (wsV RX6 95 RX6 yX6_joins wsX6_joins) := goodIn_app (goodIn_of _ (by decide +kernel)) ggX6_joined_X6_joins
theorem dX6_joined_0 : decode cX6_joined 0 = .ok (.aload_n 0, 1) := by decide +kernel
theorem dX6_joined_1 : decode cX6_joined 1 = .ok (.iconst 1, 1) := by decide +kernel
theorem dX6_joined_2 : decode cX6_joined 2 = .ok (.invokevirtual 95, 3) := by decide +kernel
theorem dX6_joined_5 : decode cX6_joined 5 = .ok (.ifCond .eq 7, 3) := by decide +kernel
theorem dX6_joined_8 : decode cX6_joined 8 = .ok (.iconst 1, 1) := by decide +kernel
theorem dX6_joined_9 : decode cX6_joined 9 = .ok (.goto 16, 3) := by decide +kernel
theorem dX6_joined_12 : decode cX6_joined 12 = .ok (.aload_n 0, 1) := by decide +kernel
theorem dX6_joined_13 : decode cX6_joined 13 = .ok (.iconst 2, 1) := by decide +kernel
theorem dX6_joined_14 : decode cX6_joined 14 = .ok (.invokevirtual 95, 3) := by decide +kernel
theorem dX6_joined_17 : decode cX6_joined 17 = .ok (.ifCond .eq 7, 3) := by decide +kernel
theorem dX6_joined_20 : decode cX6_joined 20 = .ok (.iconst 2, 1) := by decide +kernel
theorem dX6_joined_21 : decode cX6_joined 21 = .ok (.goto 4, 3) := by decide +kernel
theorem dX6_joined_24 : decode cX6_joined 24 = .ok (.iconst 0, 1) := by decide +kernel
theorem dX6_joined_25 : decode cX6_joined 25 = .ok (.ireturn, 1) := by decide +kernel
theorem dX6_does_0 : decode cX6_does 0 = .ok (.iload_n 1, 1) := by decide +kernel
theorem dX6_does_1 : decode cX6_does 1 = .ok (.bipush 100, 2) := by decide +kernel
theorem dX6_does_3 : decode cX6_does 3 = .ok (.irem, 1) := by decide +kernel
theorem dX6_does_4 : decode cX6_does 4 = .ok (.istore_n 2, 1) := by decide +kernel
theorem dX6_does_5 : decode cX6_does 5 = .ok (.iload_n 1, 1) := by decide +kernel
theorem dX6_does_6 : decode cX6_does 6 = .ok (.bipush 100, 2) := by decide +kernel
theorem dX6_does_8 : decode cX6_does 8 = .ok (.if_icmp .ge 24, 3) := by decide +kernel
theorem dX6_does_11 : decode cX6_does 11 = .ok (.aload_n 0, 1) := by decide +kernel
theorem dX6_does_12 : decode cX6_does 12 = .ok (.getfield 19, 3) := by decide +kernel
theorem dX6_does_15 : decode cX6_does 15 = .ok (.iload_n 2, 1) := by decide +kernel
theorem dX6_does_16 : decode cX6_does 16 = .ok (.aload_n 0, 1) := by decide +kernel
theorem dX6_does_17 : decode cX6_does 17 = .ok (.getfield 16, 3) := by decide +kernel
theorem dX6_does_20 : decode cX6_does 20 = .ok (.iastore, 1) := by decide +kernel
theorem dX6_does_21 : decode cX6_does 21 = .ok (.aload_n 0, 1) := by decide +kernel
theorem dX6_does_22 : decode cX6_does 22 = .ok (.iconst 3, 1) := by decide +kernel
theorem dX6_does_23 : decode cX6_does 23 = .ok (.aload_n 0, 1) := by decide +kernel
theorem dX6_does_24 : decode cX6_does 24 = .ok (.getfield 16, 3) := by decide +kernel
theorem dX6_does_27 : decode cX6_does 27 = .ok (.isub, 1) := by decide +kernel
theorem dX6_does_28 : decode cX6_does 28 = .ok (.putfield 16, 3) := by decide +kernel
theorem dX6_does_31 : decode cX6_does 31 = .ok (.return_, 1) := by decide +kernel
theorem dX6_does_32 : decode cX6_does 32 = .ok (.aload_n 0, 1) := by decide +kernel
theorem dX6_does_33 : decode cX6_does 33 = .ok (.getfield 19, 3) := by decide +kernel
theorem dX6_does_36 : decode cX6_does 36 = .ok (.iload_n 2, 1) := by decide +kernel
theorem dX6_does_37 : decode cX6_does 37 = .ok (.iconst 0, 1) := by decide +kernel
theorem dX6_does_38 : decode cX6_does 38 = .ok (.iastore, 1) := by decide +kernel
theorem dX6_does_39 : decode cX6_does 39 = .ok (.aload_n 0, 1) := by decide +kernel
theorem dX6_does_40 : decode cX6_does 40 = .ok (.getfield 19, 3) := by decide +kernel
theorem dX6_does_43 : decode cX6_does 43 = .ok (.aload_n 0, 1) := by decide +kernel
theorem dX6_does_44 : decode cX6_does 44 = .ok (.getfield 13, 3) := by decide +kernel
theorem dX6_does_47 : decode cX6_does 47 = .ok (.iload_n 2, 1) := by decide +kernel
theorem dX6_does_48 : decode cX6_does 48 = .ok (.aload_n 0, 1) := by decide +kernel
theorem dX6_does_49 : decode cX6_does 49 = .ok (.getfield 13, 3) := by decide +kernel
theorem dX6_does_52 : decode cX6_does 52 = .ok (.irem, 1) := by decide +kernel
theorem dX6_does_53 : decode cX6_does 53 = .ok (.imul, 1) := by decide +kernel
theorem dX6_does_54 : decode cX6_does 54 = .ok (.iload_n 2, 1) := by decide +kernel
theorem dX6_does_55 : decode cX6_does 55 = .ok (.aload_n 0, 1) := by decide +kernel
theorem dX6_does_56 : decode cX6_does 56 = .ok (.getfield 13, 3) := by decide +kernel
theorem dX6_does_59 : decode cX6_does 59 = .ok (.idiv, 1) := by decide +kernel
theorem dX6_does_60 : decode cX6_does 60 = .ok (.iadd, 1) := by decide +kernel
theorem dX6_does_61 : decode cX6_does 61 = .ok (.iconst 2, 1) := by decide +kernel
theorem dX6_does_62 : decode cX6_does 62 = .ok (.iastore, 1) := by decide +kernel
theorem dX6_does_63 : decode cX6_does 63 = .ok (.aload_n 0, 1) := by decide +kernel
theorem dX6_does_64 : decode cX6_does 64 = .ok (.iconst 1, 1) := by decide +kernel
theorem dX6_does_65 : decode cX6_does 65 = .ok (.putfield 16, 3) := by decide +kernel
theorem dX6_does_68 : decode cX6_does 68 = .ok (.return_, 1) := by decide +kernel
theorem dX6_undoes_0 : decode cX6_undoes 0 = .ok (.iload_n 1, 1) := by decide +kernel
theorem dX6_undoes_1 : decode cX6_undoes 1 = .ok (.bipush 100, 2) := by decide +kernel
theorem dX6_undoes_3 : decode cX6_undoes 3 = .ok (.irem, 1) := by decide +kernel
theorem dX6_undoes_4 : decode cX6_undoes 4 = .ok (.istore_n 2, 1) := by decide +kernel
theorem dX6_undoes_5 : decode cX6_undoes 5 = .ok (.iload_n 1, 1) := by decide +kernel
theorem dX6_undoes_6 : decode cX6_undoes 6 = .ok (.bipush 100, 2) := by decide +kernel
theorem dX6_undoes_8 : decode cX6_undoes 8 = .ok (.if_icmp .ge 21, 3) := by decide +kernel
theorem dX6_undoes_11 : decode cX6_undoes 11 = .ok (.aload_n 0, 1) := by decide +kernel
theorem dX6_undoes_12 : decode cX6_undoes 12 = .ok (.getfield 19, 3) := by decide +kernel
theorem dX6_undoes_15 : decode cX6_undoes 15 = .ok (.iload_n 2, 1) := by decide +kernel
theorem dX6_undoes_16 : decode cX6_undoes 16 = .ok (.iconst 0, 1) := by decide +kernel
theorem dX6_undoes_17 : decode cX6_undoes 17 = .ok (.iastore, 1) := by decide +kernel
theorem dX6_undoes_18 : decode cX6_undoes 18 = .ok (.aload_n 0, 1) := by decide +kernel
theorem dX6_undoes_19 : decode cX6_undoes 19 = .ok (.iconst 3, 1) := by decide +kernel
theorem dX6_undoes_20 : decode cX6_undoes 20 = .ok (.aload_n 0, 1) := by decide +kernel
theorem dX6_undoes_21 : decode cX6_undoes 21 = .ok (.getfield 16, 3) := by decide +kernel
theorem dX6_undoes_24 : decode cX6_undoes 24 = .ok (.isub, 1) := by decide +kernel
theorem dX6_undoes_25 : decode cX6_undoes 25 = .ok (.putfield 16, 3) := by decide +kernel
theorem dX6_undoes_28 : decode cX6_undoes 28 = .ok (.return_, 1) := by decide +kernel
theorem dX6_undoes_29 : decode cX6_undoes 29 = .ok (.aload_n 0, 1) := by decide +kernel
theorem dX6_undoes_30 : decode cX6_undoes 30 = .ok (.getfield 19, 3) := by decide +kernel
theorem dX6_undoes_33 : decode cX6_undoes 33 = .ok (.aload_n 0, 1) := by decide +kernel
theorem dX6_undoes_34 : decode cX6_undoes 34 = .ok (.getfield 13, 3) := by decide +kernel
theorem dX6_undoes_37 : decode cX6_undoes 37 = .ok (.iload_n 2, 1) := by decide +kernel
theorem dX6_undoes_38 : decode cX6_undoes 38 = .ok (.aload_n 0, 1) := by decide +kernel
theorem dX6_undoes_39 : decode cX6_undoes 39 = .ok (.getfield 13, 3) := by decide +kernel
theorem dX6_undoes_42 : decode cX6_undoes 42 = .ok (.irem, 1) := by decide +kernel
theorem dX6_undoes_43 : decode cX6_undoes 43 = .ok (.imul, 1) := by decide +kernel
theorem dX6_undoes_44 : decode cX6_undoes 44 = .ok (.iload_n 2, 1) := by decide +kernel
theorem dX6_undoes_45 : decode cX6_undoes 45 = .ok (.aload_n 0, 1) := by decide +kernel
theorem dX6_undoes_46 : decode cX6_undoes 46 = .ok (.getfield 13, 3) := by decide +kernel
theorem dX6_undoes_49 : decode cX6_undoes 49 = .ok (.idiv, 1) := by decide +kernel
theorem dX6_undoes_50 : decode cX6_undoes 50 = .ok (.iadd, 1) := by decide +kernel
theorem dX6_undoes_51 : decode cX6_undoes 51 = .ok (.iconst 0, 1) := by decide +kernel
theorem dX6_undoes_52 : decode cX6_undoes 52 = .ok (.iastore, 1) := by decide +kernel
theorem dX6_undoes_53 : decode cX6_undoes 53 = .ok (.aload_n 0, 1) := by decide +kernel
theorem dX6_undoes_54 : decode cX6_undoes 54 = .ok (.getfield 19, 3) := by decide +kernel
theorem dX6_undoes_57 : decode cX6_undoes 57 = .ok (.iload_n 2, 1) := by decide +kernel
theorem dX6_undoes_58 : decode cX6_undoes 58 = .ok (.iconst 1, 1) := by decide +kernel
theorem dX6_undoes_59 : decode cX6_undoes 59 = .ok (.iastore, 1) := by decide +kernel
theorem dX6_undoes_60 : decode cX6_undoes 60 = .ok (.aload_n 0, 1) := by decide +kernel
theorem dX6_undoes_61 : decode cX6_undoes 61 = .ok (.iconst 2, 1) := by decide +kernel
theorem dX6_undoes_62 : decode cX6_undoes 62 = .ok (.putfield 16, 3) := by decide +kernel
theorem dX6_undoes_65 : decode cX6_undoes 65 = .ok (.return_, 1) := by decide +kernel
set_option maxRecDepth 20000 in
theorem ggX6_acts_X6_does : GoodIn wsX6_acts wsX6_does := goodIn_r _ [8, 9, 10, 11, 12, 13, 14, 15, 16, 17, 18, 19, 20, 21, 22, 23, 24, 25, 26, 27, 28] (by decide +kernel) (by decide +kernel)
set_option maxRecDepth 20000 in
theorem gX6_acts_X6_does : GoodIn wsX6_acts (wsV RX6 98 RX6 yX6_does wsX6_does) := goodIn_app (goodIn_of _ (by decide +kernel)) ggX6_acts_X6_does
theorem dX6_acts_0 : decode cX6_acts 0 = .ok (.aload_n 0, 1) := by decide +kernel
theorem dX6_acts_1 : decode cX6_acts 1 = .ok (.getfield 23, 3) := by decide +kernel
theorem dX6_acts_4 : decode cX6_acts 4 = .ok (.aload_n 0, 1) := by decide +kernel
theorem dX6_acts_5 : decode cX6_acts 5 = .ok (.getfield 64, 3) := by decide +kernel
theorem dX6_acts_8 : decode cX6_acts 8 = .ok (.iload_n 1, 1) := by decide +kernel
theorem dX6_acts_9 : decode cX6_acts 9 = .ok (.iastore, 1) := by decide +kernel
theorem dX6_acts_10 : decode cX6_acts 10 = .ok (.aload_n 0, 1) := by decide +kernel
theorem dX6_acts_11 : decode cX6_acts 11 = .ok (.dup, 1) := by decide +kernel
theorem dX6_acts_12 : decode cX6_acts 12 = .ok (.getfield 64, 3) := by decide +kernel
theorem dX6_acts_15 : decode cX6_acts 15 = .ok (.iconst 1, 1) := by decide +kernel
theorem dX6_acts_16 : decode cX6_acts 16 = .ok (.iadd, 1) := by decide +kernel
theorem dX6_acts_17 : decode cX6_acts 17 = .ok (.putfield 64, 3) := by decide +kernel
theorem dX6_acts_20 : decode cX6_acts 20 = .ok (.aload_n 0, 1) := by decide +kernel
theorem dX6_acts_21 : decode cX6_acts 21 = .ok (.iconst 0, 1) := by decide +kernel
theorem dX6_acts_22 : decode cX6_acts 22 = .ok (.putfield 67, 3) := by decide +kernel
theorem dX6_acts_25 : decode cX6_acts 25 = .ok (.aload_n 0, 1) := by decide +kernel
theorem dX6_acts_26 : decode cX6_acts 26 = .ok (.iload_n 1, 1) := by decide +kernel
theorem dX6_acts_27 : decode cX6_acts 27 = .ok (.invokevirtual 98, 3) := by decide +kernel
theorem dX6_acts_30 : decode cX6_acts 30 = .ok (.return_, 1) := by decide +kernel
set_option maxRecDepth 20000 in
theorem ggX6_lay_X6_isField : GoodIn wsX6_lay wsX6_isField := goodIn_r _ [6, 7, 8, 9, 5, 10, 11, 12, 13, 14, 15, 55, 56, 57, 58, 59, 60, 61, 62, 63, 64, 65, 66, 67, 68, 69, 70, 71] (by decide +kernel) (by decide +kernel)
set_option maxRecDepth 20000 in
theorem gX6_lay_X6_isField : GoodIn wsX6_lay (wsV RX6 73 RX6 yX6_isField wsX6_isField) := goodIn_app (goodIn_of _ (by decide +kernel)) ggX6_lay_X6_isField
set_option maxRecDepth 20000 in
theorem ggX6_lay_X6_joined : GoodIn wsX6_lay wsX6_joined := goodIn_r _ [19, 20, 21, 22, 5, 23, 24, 1, 7, 8, 9, 10, 11, 12, 25, 26, 27, 28, 29, 30, 31, 32, 33, 34, 35, 36, 37, 38, 39, 13, 14, 15, 40, 41, 42, 55, 56, 57, 58, 59, 60, 61, 62, 63, 64, 65, 66, 67, 68, 69, 70, 71] (by decide +kernel) (by decide +kernel)
set_option maxRecDepth 20000 in
theorem gX6_lay_X6_joined : GoodIn wsX6_lay (wsV RX6 101 RX6 yX6_joined wsX6_joined) := goodIn_app (goodIn_of _ (by decide +kernel)) ggX6_lay_X6_joined
set_option maxRecDepth 20000 in
theorem ggX6_lay_X6_acts : GoodIn wsX6_lay wsX6_acts := goodIn_r _ [46, 47, 48, 49, 50, 51, 52, 5, 53, 1, 54, 12, 55, 56, 57, 58, 59, 60, 61, 62, 63, 64, 65, 66, 67, 68, 69, 70, 71] (by decide +kernel) (by decide +kernel)
set_option maxRecDepth 20000 in
theorem gX6_lay_X6_acts : GoodIn wsX6_lay (wsV RX6 104 RX6 yX6_acts wsX6_acts) := goodIn_app (goodIn_of _ (by decide +kernel)) ggX6_lay_X6_acts
theorem dX6_lay_0 : decode cX6_lay 0 = .ok (.aload_n 0, 1) := by decide +kernel
theorem dX6_lay_1 : decode cX6_lay 1 = .ok (.iload_n 1, 1) := by decide +kernel
theorem dX6_lay_2 : decode cX6_lay 2 = .ok (.invokevirtual 73, 3) := by decide +kernel
theorem dX6_lay_5 : decode cX6_lay 5 = .ok (.ifCond .eq 19, 3) := by decide +kernel
theorem dX6_lay_8 : decode cX6_lay 8 = .ok (.aload_n 0, 1) := by decide +kernel
theorem dX6_lay_9 : decode cX6_lay 9 = .ok (.getfield 19, 3) := by decide +kernel
theorem dX6_lay_12 : decode cX6_lay 12 = .ok (.iload_n 1, 1) := by decide +kernel
theorem dX6_lay_13 : decode cX6_lay 13 = .ok (.iaload, 1) := by decide +kernel
theorem dX6_lay_14 : decode cX6_lay 14 = .ok (.ifCond .ne 10, 3) := by decide +kernel
theorem dX6_lay_17 : decode cX6_lay 17 = .ok (.aload_n 0, 1) := by decide +kernel
theorem dX6_lay_18 : decode cX6_lay 18 = .ok (.invokevirtual 101, 3) := by decide +kernel
theorem dX6_lay_21 : decode cX6_lay 21 = .ok (.ifCond .eq 5, 3) := by decide +kernel
theorem dX6_lay_24 : decode cX6_lay 24 = .ok (.iconst (-1), 1) := by decide +kernel
theorem dX6_lay_25 : decode cX6_lay 25 = .ok (.ireturn, 1) := by decide +kernel
theorem dX6_lay_26 : decode cX6_lay 26 = .ok (.aload_n 0, 1) := by decide +kernel
theorem dX6_lay_27 : decode cX6_lay 27 = .ok (.iload_n 1, 1) := by decide +kernel
theorem dX6_lay_28 : decode cX6_lay 28 = .ok (.invokevirtual 104, 3) := by decide +kernel
theorem dX6_lay_31 : decode cX6_lay 31 = .ok (.aload_n 0, 1) := by decide +kernel
theorem dX6_lay_32 : decode cX6_lay 32 = .ok (.invokevirtual 101, 3) := by decide +kernel
theorem dX6_lay_35 : decode cX6_lay 35 = .ok (.ifCond .ne 7, 3) := by decide +kernel
theorem dX6_lay_38 : decode cX6_lay 38 = .ok (.iconst 1, 1) := by decide +kernel
theorem dX6_lay_39 : decode cX6_lay 39 = .ok (.goto 4, 3) := by decide +kernel
theorem dX6_lay_42 : decode cX6_lay 42 = .ok (.iconst 2, 1) := by decide +kernel
theorem dX6_lay_43 : decode cX6_lay 43 = .ok (.ireturn, 1) := by decide +kernel
set_option maxRecDepth 20000 in
theorem ggX6_swap_X6_joined : GoodIn wsX6_swap wsX6_joined := goodIn_r _ [10, 11, 12, 13, 9, 14, 15, 16, 17, 18, 19, 20, 1, 2, 21, 22, 23, 24, 25, 26, 27, 28, 29, 30, 31, 32, 33, 34, 35, 36, 37, 38, 39, 40, 41, 52, 53, 54, 55, 56, 57, 58, 59, 60, 61, 62, 63, 64, 65, 66, 67, 68] (by decide +kernel) (by decide +kernel)
set_option maxRecDepth 20000 in
theorem gX6_swap_X6_joined : GoodIn wsX6_swap (wsV RX6 101 RX6 yX6_joined wsX6_joined) := goodIn_app (goodIn_of _ (by decide +kernel)) ggX6_swap_X6_joined
set_option maxRecDepth 20000 in
theorem ggX6_swap_X6_acts : GoodIn wsX6_swap wsX6_acts := goodIn_r _ [45, 5, 4, 46, 47, 48, 49, 9, 50, 16, 51, 2, 52, 53, 54, 55, 56, 57, 58, 59, 60, 61, 62, 63, 64, 65, 66, 67, 68] (by decide +kernel) (by decide +kernel)
set_option maxRecDepth 20000 in
theorem gX6_swap_X6_acts : GoodIn wsX6_swap (wsV RX6 104 RX6 yX6_acts wsX6_acts) := goodIn_app (goodIn_of _ (by decide +kernel)) ggX6_swap_X6_acts
theorem dX6_swap_0 : decode cX6_swap 0 = .ok (.aload_n 0, 1) := by decide +kernel
theorem dX6_swap_1 : decode cX6_swap 1 = .ok (.getfield 7, 3) := by decide +kernel
theorem dX6_swap_4 : decode cX6_swap 4 = .ok (.aload_n 0, 1) := by decide +kernel
theorem dX6_swap_5 : decode cX6_swap 5 = .ok (.getfield 13, 3) := by decide +kernel
theorem dX6_swap_8 : decode cX6_swap 8 = .ok (.if_icmp .ne 36, 3) := by decide +kernel
theorem dX6_swap_11 : decode cX6_swap 11 = .ok (.aload_n 0, 1) := by decide +kernel
theorem dX6_swap_12 : decode cX6_swap 12 = .ok (.getfield 26, 3) := by decide +kernel
theorem dX6_swap_15 : decode cX6_swap 15 = .ok (.ifCond .eq 29, 3) := by decide +kernel
theorem dX6_swap_18 : decode cX6_swap 18 = .ok (.aload_n 0, 1) := by decide +kernel
theorem dX6_swap_19 : decode cX6_swap 19 = .ok (.getfield 64, 3) := by decide +kernel
theorem dX6_swap_22 : decode cX6_swap 22 = .ok (.iconst 1, 1) := by decide +kernel
theorem dX6_swap_23 : decode cX6_swap 23 = .ok (.if_icmp .ne 21, 3) := by decide +kernel
theorem dX6_swap_26 : decode cX6_swap 26 = .ok (.aload_n 0, 1) := by decide +kernel
theorem dX6_swap_27 : decode cX6_swap 27 = .ok (.getfield 23, 3) := by decide +kernel
theorem dX6_swap_30 : decode cX6_swap 30 = .ok (.iconst 0, 1) := by decide +kernel
theorem dX6_swap_31 : decode cX6_swap 31 = .ok (.iaload, 1) := by decide +kernel
theorem dX6_swap_32 : decode cX6_swap 32 = .ok (.bipush 100, 2) := by decide +kernel
theorem dX6_swap_34 : decode cX6_swap 34 = .ok (.if_icmp .ge 10, 3) := by decide +kernel
theorem dX6_swap_37 : decode cX6_swap 37 = .ok (.aload_n 0, 1) := by decide +kernel
theorem dX6_swap_38 : decode cX6_swap 38 = .ok (.invokevirtual 101, 3) := by decide +kernel
theorem dX6_swap_41 : decode cX6_swap 41 = .ok (.ifCond .eq 5, 3) := by decide +kernel
theorem dX6_swap_44 : decode cX6_swap 44 = .ok (.iconst 0, 1) := by decide +kernel
theorem dX6_swap_45 : decode cX6_swap 45 = .ok (.ireturn, 1) := by decide +kernel
theorem dX6_swap_46 : decode cX6_swap 46 = .ok (.aload_n 0, 1) := by decide +kernel
theorem dX6_swap_47 : decode cX6_swap 47 = .ok (.bipush 100, 2) := by decide +kernel
theorem dX6_swap_49 : decode cX6_swap 49 = .ok (.aload_n 0, 1) := by decide +kernel
theorem dX6_swap_50 : decode cX6_swap 50 = .ok (.getfield 23, 3) := by decide +kernel
theorem dX6_swap_53 : decode cX6_swap 53 = .ok (.iconst 0, 1) := by decide +kernel
theorem dX6_swap_54 : decode cX6_swap 54 = .ok (.iaload, 1) := by decide +kernel
theorem dX6_swap_55 : decode cX6_swap 55 = .ok (.iadd, 1) := by decide +kernel
theorem dX6_swap_56 : decode cX6_swap 56 = .ok (.invokevirtual 104, 3) := by decide +kernel
theorem dX6_swap_59 : decode cX6_swap 59 = .ok (.iconst 1, 1) := by decide +kernel
theorem dX6_swap_60 : decode cX6_swap 60 = .ok (.ireturn, 1) := by decide +kernel
set_option maxRecDepth 20000 in
theorem ggX6_undo_X6_undoes : GoodIn wsX6_undo wsX6_undoes := goodIn_r _ [8, 9, 10, 11, 12, 13, 14, 15, 16, 17, 18, 19, 20, 21, 22, 23, 24, 25, 26, 27, 28] (by decide +kernel) (by decide +kernel)
set_option maxRecDepth 20000 in
theorem gX6_undo_X6_undoes : GoodIn wsX6_undo (wsV RX6 106 RX6 yX6_undoes wsX6_undoes) := goodIn_app (goodIn_of _ (by decide +kernel)) ggX6_undo_X6_undoes
theorem dX6_undo_0 : decode cX6_undo 0 = .ok (.aload_n 0, 1) := by decide +kernel
theorem dX6_undo_1 : decode cX6_undo 1 = .ok (.getfield 64, 3) := by decide +kernel
theorem dX6_undo_4 : decode cX6_undo 4 = .ok (.ifCond .ne 5, 3) := by decide +kernel
theorem dX6_undo_7 : decode cX6_undo 7 = .ok (.iconst 0, 1) := by decide +kernel
theorem dX6_undo_8 : decode cX6_undo 8 = .ok (.ireturn, 1) := by decide +kernel
theorem dX6_undo_9 : decode cX6_undo 9 = .ok (.aload_n 0, 1) := by decide +kernel
theorem dX6_undo_10 : decode cX6_undo 10 = .ok (.dup, 1) := by decide +kernel
theorem dX6_undo_11 : decode cX6_undo 11 = .ok (.getfield 64, 3) := by decide +kernel
theorem dX6_undo_14 : decode cX6_undo 14 = .ok (.iconst 1, 1) := by decide +kernel
theorem dX6_undo_15 : decode cX6_undo 15 = .ok (.isub, 1) := by decide +kernel
theorem dX6_undo_16 : decode cX6_undo 16 = .ok (.putfield 64, 3) := by decide +kernel
theorem dX6_undo_19 : decode cX6_undo 19 = .ok (.aload_n 0, 1) := by decide +kernel
theorem dX6_undo_20 : decode cX6_undo 20 = .ok (.dup, 1) := by decide +kernel
theorem dX6_undo_21 : decode cX6_undo 21 = .ok (.getfield 67, 3) := by decide +kernel
theorem dX6_undo_24 : decode cX6_undo 24 = .ok (.iconst 1, 1) := by decide +kernel
theorem dX6_undo_25 : decode cX6_undo 25 = .ok (.iadd, 1) := by decide +kernel
theorem dX6_undo_26 : decode cX6_undo 26 = .ok (.putfield 67, 3) := by decide +kernel
theorem dX6_undo_29 : decode cX6_undo 29 = .ok (.aload_n 0, 1) := by decide +kernel
theorem dX6_undo_30 : decode cX6_undo 30 = .ok (.aload_n 0, 1) := by decide +kernel
theorem dX6_undo_31 : decode cX6_undo 31 = .ok (.getfield 23, 3) := by decide +kernel
theorem dX6_undo_34 : decode cX6_undo 34 = .ok (.aload_n 0, 1) := by decide +kernel
theorem dX6_undo_35 : decode cX6_undo 35 = .ok (.getfield 64, 3) := by decide +kernel
theorem dX6_undo_38 : decode cX6_undo 38 = .ok (.iaload, 1) := by decide +kernel
theorem dX6_undo_39 : decode cX6_undo 39 = .ok (.invokevirtual 106, 3) := by decide +kernel
theorem dX6_undo_42 : decode cX6_undo 42 = .ok (.iconst 1, 1) := by decide +kernel
theorem dX6_undo_43 : decode cX6_undo 43 = .ok (.ireturn, 1) := by decide +kernel
set_option maxRecDepth 20000 in
theorem ggX6_redo_X6_does : GoodIn wsX6_redo wsX6_does := goodIn_r _ [8, 9, 10, 11, 12, 13, 14, 15, 16, 17, 18, 19, 20, 21, 22, 23, 24, 25, 26, 27, 28] (by decide +kernel) (by decide +kernel)
set_option maxRecDepth 20000 in
theorem gX6_redo_X6_does : GoodIn wsX6_redo (wsV RX6 98 RX6 yX6_does wsX6_does) := goodIn_app (goodIn_of _ (by decide +kernel)) ggX6_redo_X6_does
theorem dX6_redo_0 : decode cX6_redo 0 = .ok (.aload_n 0, 1) := by decide +kernel
theorem dX6_redo_1 : decode cX6_redo 1 = .ok (.getfield 67, 3) := by decide +kernel
theorem dX6_redo_4 : decode cX6_redo 4 = .ok (.ifCond .ne 5, 3) := by decide +kernel
theorem dX6_redo_7 : decode cX6_redo 7 = .ok (.iconst 0, 1) := by decide +kernel
theorem dX6_redo_8 : decode cX6_redo 8 = .ok (.ireturn, 1) := by decide +kernel
theorem dX6_redo_9 : decode cX6_redo 9 = .ok (.aload_n 0, 1) := by decide +kernel
theorem dX6_redo_10 : decode cX6_redo 10 = .ok (.dup, 1) := by decide +kernel
theorem dX6_redo_11 : decode cX6_redo 11 = .ok (.getfield 67, 3) := by decide +kernel
theorem dX6_redo_14 : decode cX6_redo 14 = .ok (.iconst 1, 1) := by decide +kernel
theorem dX6_redo_15 : decode cX6_redo 15 = .ok (.isub, 1) := by decide +kernel
theorem dX6_redo_16 : decode cX6_redo 16 = .ok (.putfield 67, 3) := by decide +kernel
theorem dX6_redo_19 : decode cX6_redo 19 = .ok (.aload_n 0, 1) := by decide +kernel
theorem dX6_redo_20 : decode cX6_redo 20 = .ok (.aload_n 0, 1) := by decide +kernel
theorem dX6_redo_21 : decode cX6_redo 21 = .ok (.getfield 23, 3) := by decide +kernel
theorem dX6_redo_24 : decode cX6_redo 24 = .ok (.aload_n 0, 1) := by decide +kernel
theorem dX6_redo_25 : decode cX6_redo 25 = .ok (.getfield 64, 3) := by decide +kernel
theorem dX6_redo_28 : decode cX6_redo 28 = .ok (.iaload, 1) := by decide +kernel
theorem dX6_redo_29 : decode cX6_redo 29 = .ok (.invokevirtual 98, 3) := by decide +kernel
theorem dX6_redo_32 : decode cX6_redo 32 = .ok (.aload_n 0, 1) := by decide +kernel
theorem dX6_redo_33 : decode cX6_redo 33 = .ok (.dup, 1) := by decide +kernel
theorem dX6_redo_34 : decode cX6_redo 34 = .ok (.getfield 64, 3) := by decide +kernel
theorem dX6_redo_37 : decode cX6_redo 37 = .ok (.iconst 1, 1) := by decide +kernel
theorem dX6_redo_38 : decode cX6_redo 38 = .ok (.iadd, 1) := by decide +kernel
theorem dX6_redo_39 : decode cX6_redo 39 = .ok (.putfield 64, 3) := by decide +kernel
theorem dX6_redo_42 : decode cX6_redo 42 = .ok (.iconst 1, 1) := by decide +kernel
theorem dX6_redo_43 : decode cX6_redo 43 = .ok (.ireturn, 1) := by decide +kernel
set_option maxRecDepth 20000 in
theorem ggX6_change_X6_fields : GoodIn wsX6_change wsX6_fields := goodIn_r _ [11, 2, 3, 18, 19, 20, 21, 22, 23, 24, 25, 26, 27, 28, 29, 30, 31, 32, 33, 34] (by decide +kernel) (by decide +kernel)
set_option maxRecDepth 20000 in
theorem gX6_change_X6_fields : GoodIn wsX6_change (wsV RX6 56 RX6 yX6_fields wsX6_fields) := goodIn_app (goodIn_of _ (by decide +kernel)) ggX6_change_X6_fields
set_option maxRecDepth 20000 in
theorem ggX6_change_X6_forgets : GoodIn wsX6_change wsX6_forgets := goodIn_r _ [15, 16, 17, 18, 19, 20, 21, 22, 23, 24, 25, 26, 27, 28, 29, 30, 31, 32, 33, 34] (by decide +kernel) (by decide +kernel)
set_option maxRecDepth 20000 in
theorem gX6_change_X6_forgets : GoodIn wsX6_change (wsV RX6 70 RX6 yX6_forgets wsX6_forgets) := goodIn_app (goodIn_of _ (by decide +kernel)) ggX6_change_X6_forgets
theorem dX6_change_0 : decode cX6_change 0 = .ok (.iconst 0, 1) := by decide +kernel
theorem dX6_change_1 : decode cX6_change 1 = .ok (.istore_n 1, 1) := by decide +kernel
theorem dX6_change_2 : decode cX6_change 2 = .ok (.iload_n 1, 1) := by decide +kernel
theorem dX6_change_3 : decode cX6_change 3 = .ok (.aload_n 0, 1) := by decide +kernel
theorem dX6_change_4 : decode cX6_change 4 = .ok (.invokevirtual 56, 3) := by decide +kernel
theorem dX6_change_7 : decode cX6_change 7 = .ok (.if_icmp .ge 53, 3) := by decide +kernel
theorem dX6_change_10 : decode cX6_change 10 = .ok (.aload_n 0, 1) := by decide +kernel
theorem dX6_change_11 : decode cX6_change 11 = .ok (.getfield 34, 3) := by decide +kernel
theorem dX6_change_14 : decode cX6_change 14 = .ok (.aload_n 0, 1) := by decide +kernel
theorem dX6_change_15 : decode cX6_change 15 = .ok (.getfield 7, 3) := by decide +kernel
theorem dX6_change_18 : decode cX6_change 18 = .ok (.iload_n 1, 1) := by decide +kernel
theorem dX6_change_19 : decode cX6_change 19 = .ok (.aload_n 0, 1) := by decide +kernel
theorem dX6_change_20 : decode cX6_change 20 = .ok (.getfield 13, 3) := by decide +kernel
theorem dX6_change_23 : decode cX6_change 23 = .ok (.irem, 1) := by decide +kernel
theorem dX6_change_24 : decode cX6_change 24 = .ok (.imul, 1) := by decide +kernel
theorem dX6_change_25 : decode cX6_change 25 = .ok (.iload_n 1, 1) := by decide +kernel
theorem dX6_change_26 : decode cX6_change 26 = .ok (.aload_n 0, 1) := by decide +kernel
theorem dX6_change_27 : decode cX6_change 27 = .ok (.getfield 13, 3) := by decide +kernel
theorem dX6_change_30 : decode cX6_change 30 = .ok (.idiv, 1) := by decide +kernel
theorem dX6_change_31 : decode cX6_change 31 = .ok (.iadd, 1) := by decide +kernel
theorem dX6_change_32 : decode cX6_change 32 = .ok (.aload_n 0, 1) := by decide +kernel
theorem dX6_change_33 : decode cX6_change 33 = .ok (.getfield 19, 3) := by decide +kernel
theorem dX6_change_36 : decode cX6_change 36 = .ok (.iload_n 1, 1) := by decide +kernel
theorem dX6_change_37 : decode cX6_change 37 = .ok (.iaload, 1) := by decide +kernel
theorem dX6_change_38 : decode cX6_change 38 = .ok (.ifCond .ne 7, 3) := by decide +kernel
theorem dX6_change_41 : decode cX6_change 41 = .ok (.iconst 0, 1) := by decide +kernel
theorem dX6_change_42 : decode cX6_change 42 = .ok (.goto 11, 3) := by decide +kernel
theorem dX6_change_45 : decode cX6_change 45 = .ok (.iconst 3, 1) := by decide +kernel
theorem dX6_change_46 : decode cX6_change 46 = .ok (.aload_n 0, 1) := by decide +kernel
theorem dX6_change_47 : decode cX6_change 47 = .ok (.getfield 19, 3) := by decide +kernel
theorem dX6_change_50 : decode cX6_change 50 = .ok (.iload_n 1, 1) := by decide +kernel
theorem dX6_change_51 : decode cX6_change 51 = .ok (.iaload, 1) := by decide +kernel
theorem dX6_change_52 : decode cX6_change 52 = .ok (.isub, 1) := by decide +kernel
theorem dX6_change_53 : decode cX6_change 53 = .ok (.iastore, 1) := by decide +kernel
theorem dX6_change_54 : decode cX6_change 54 = .ok (.iinc 1 1, 3) := by decide +kernel
theorem dX6_change_57 : decode cX6_change 57 = .ok (.goto (-55), 3) := by decide +kernel
theorem dX6_change_60 : decode cX6_change 60 = .ok (.iconst 0, 1) := by decide +kernel
theorem dX6_change_61 : decode cX6_change 61 = .ok (.istore_n 1, 1) := by decide +kernel
theorem dX6_change_62 : decode cX6_change 62 = .ok (.iload_n 1, 1) := by decide +kernel
theorem dX6_change_63 : decode cX6_change 63 = .ok (.aload_n 0, 1) := by decide +kernel
theorem dX6_change_64 : decode cX6_change 64 = .ok (.invokevirtual 56, 3) := by decide +kernel
theorem dX6_change_67 : decode cX6_change 67 = .ok (.if_icmp .ge 21, 3) := by decide +kernel
theorem dX6_change_70 : decode cX6_change 70 = .ok (.aload_n 0, 1) := by decide +kernel
theorem dX6_change_71 : decode cX6_change 71 = .ok (.getfield 19, 3) := by decide +kernel
theorem dX6_change_74 : decode cX6_change 74 = .ok (.iload_n 1, 1) := by decide +kernel
theorem dX6_change_75 : decode cX6_change 75 = .ok (.aload_n 0, 1) := by decide +kernel
theorem dX6_change_76 : decode cX6_change 76 = .ok (.getfield 34, 3) := by decide +kernel
theorem dX6_change_79 : decode cX6_change 79 = .ok (.iload_n 1, 1) := by decide +kernel
theorem dX6_change_80 : decode cX6_change 80 = .ok (.iaload, 1) := by decide +kernel
theorem dX6_change_81 : decode cX6_change 81 = .ok (.iastore, 1) := by decide +kernel
theorem dX6_change_82 : decode cX6_change 82 = .ok (.iinc 1 1, 3) := by decide +kernel
theorem dX6_change_85 : decode cX6_change 85 = .ok (.goto (-23), 3) := by decide +kernel
theorem dX6_change_88 : decode cX6_change 88 = .ok (.aload_n 0, 1) := by decide +kernel
theorem dX6_change_89 : decode cX6_change 89 = .ok (.getfield 7, 3) := by decide +kernel
theorem dX6_change_92 : decode cX6_change 92 = .ok (.istore_n 1, 1) := by decide +kernel
theorem dX6_change_93 : decode cX6_change 93 = .ok (.aload_n 0, 1) := by decide +kernel
theorem dX6_change_94 : decode cX6_change 94 = .ok (.aload_n 0, 1) := by decide +kernel
theorem dX6_change_95 : decode cX6_change 95 = .ok (.getfield 13, 3) := by decide +kernel
theorem dX6_change_98 : decode cX6_change 98 = .ok (.putfield 7, 3) := by decide +kernel
theorem dX6_change_101 : decode cX6_change 101 = .ok (.aload_n 0, 1) := by decide +kernel
theorem dX6_change_102 : decode cX6_change 102 = .ok (.iload_n 1, 1) := by decide +kernel
theorem dX6_change_103 : decode cX6_change 103 = .ok (.putfield 13, 3) := by decide +kernel
theorem dX6_change_106 : decode cX6_change 106 = .ok (.aload_n 0, 1) := by decide +kernel
theorem dX6_change_107 : decode cX6_change 107 = .ok (.iconst 3, 1) := by decide +kernel
theorem dX6_change_108 : decode cX6_change 108 = .ok (.aload_n 0, 1) := by decide +kernel
theorem dX6_change_109 : decode cX6_change 109 = .ok (.getfield 16, 3) := by decide +kernel
theorem dX6_change_112 : decode cX6_change 112 = .ok (.isub, 1) := by decide +kernel
theorem dX6_change_113 : decode cX6_change 113 = .ok (.putfield 16, 3) := by decide +kernel
theorem dX6_change_116 : decode cX6_change 116 = .ok (.aload_n 0, 1) := by decide +kernel
theorem dX6_change_117 : decode cX6_change 117 = .ok (.iconst 0, 1) := by decide +kernel
theorem dX6_change_118 : decode cX6_change 118 = .ok (.putfield 26, 3) := by decide +kernel
theorem dX6_change_121 : decode cX6_change 121 = .ok (.aload_n 0, 1) := by decide +kernel
theorem dX6_change_122 : decode cX6_change 122 = .ok (.invokevirtual 70, 3) := by decide +kernel
theorem dX6_change_125 : decode cX6_change 125 = .ok (.return_, 1) := by decide +kernel
set_option maxRecDepth 20000 in
theorem ggX6_at_X6_isField : GoodIn wsX6_at wsX6_isField := goodIn_r _ [6, 7, 8, 9, 5, 10, 11, 12, 13, 14, 15, 16, 17, 18, 19, 20, 21, 22, 23, 24, 25, 26, 27, 28, 29, 30, 31, 32] (by decide +kernel) (by decide +kernel)
set_option maxRecDepth 20000 in
theorem gX6_at_X6_isField : GoodIn wsX6_at (wsV RX6 73 RX6 yX6_isField wsX6_isField) := goodIn_app (goodIn_of _ (by decide +kernel)) ggX6_at_X6_isField
theorem dX6_at_0 : decode cX6_at 0 = .ok (.aload_n 0, 1) := by decide +kernel
theorem dX6_at_1 : decode cX6_at 1 = .ok (.iload_n 1, 1) := by decide +kernel
theorem dX6_at_2 : decode cX6_at 2 = .ok (.invokevirtual 73, 3) := by decide +kernel
theorem dX6_at_5 : decode cX6_at 5 = .ok (.ifCond .eq 12, 3) := by decide +kernel
theorem dX6_at_8 : decode cX6_at 8 = .ok (.aload_n 0, 1) := by decide +kernel
theorem dX6_at_9 : decode cX6_at 9 = .ok (.getfield 19, 3) := by decide +kernel
theorem dX6_at_12 : decode cX6_at 12 = .ok (.iload_n 1, 1) := by decide +kernel
theorem dX6_at_13 : decode cX6_at 13 = .ok (.iaload, 1) := by decide +kernel
theorem dX6_at_14 : decode cX6_at 14 = .ok (.goto 4, 3) := by decide +kernel
theorem dX6_at_17 : decode cX6_at 17 = .ok (.iconst (-1), 1) := by decide +kernel
theorem dX6_at_18 : decode cX6_at 18 = .ok (.ireturn, 1) := by decide +kernel
set_option maxRecDepth 20000 in
theorem ggX6_isStone_X6_isField : GoodIn wsX6_isStone wsX6_isField := goodIn_r _ [6, 7, 8, 9, 5, 10, 11, 12, 13, 14, 15, 16, 17, 18, 19, 20, 21, 22, 23, 24, 25, 26, 27, 28, 29, 30, 31, 32] (by decide +kernel) (by decide +kernel)
set_option maxRecDepth 20000 in
theorem gX6_isStone_X6_isField : GoodIn wsX6_isStone (wsV RX6 73 RX6 yX6_isField wsX6_isField) := goodIn_app (goodIn_of _ (by decide +kernel)) ggX6_isStone_X6_isField
theorem dX6_isStone_0 : decode cX6_isStone 0 = .ok (.aload_n 0, 1) := by decide +kernel
theorem dX6_isStone_1 : decode cX6_isStone 1 = .ok (.iload_n 1, 1) := by decide +kernel
theorem dX6_isStone_2 : decode cX6_isStone 2 = .ok (.invokevirtual 73, 3) := by decide +kernel
theorem dX6_isStone_5 : decode cX6_isStone 5 = .ok (.ifCond .eq 16, 3) := by decide +kernel
theorem dX6_isStone_8 : decode cX6_isStone 8 = .ok (.aload_n 0, 1) := by decide +kernel
theorem dX6_isStone_9 : decode cX6_isStone 9 = .ok (.getfield 19, 3) := by decide +kernel
theorem dX6_isStone_12 : decode cX6_isStone 12 = .ok (.iload_n 1, 1) := by decide +kernel
theorem dX6_isStone_13 : decode cX6_isStone 13 = .ok (.iaload, 1) := by decide +kernel
theorem dX6_isStone_14 : decode cX6_isStone 14 = .ok (.ifCond .eq 7, 3) := by decide +kernel
theorem dX6_isStone_17 : decode cX6_isStone 17 = .ok (.iconst 1, 1) := by decide +kernel
theorem dX6_isStone_18 : decode cX6_isStone 18 = .ok (.goto 4, 3) := by decide +kernel
theorem dX6_isStone_21 : decode cX6_isStone 21 = .ok (.iconst 0, 1) := by decide +kernel
theorem dX6_isStone_22 : decode cX6_isStone 22 = .ok (.ireturn, 1) := by decide +kernel
set_option maxRecDepth 20000 in
theorem ggX6_groupOf_X6_reachesNone : GoodIn wsX6_groupOf wsX6_reachesNone := goodIn_r _ [7, 1, 25, 26, 27, 28, 29, 30, 31, 32, 33, 34, 35, 36, 37, 38, 39, 40, 41] (by decide +kernel) (by decide +kernel)
set_option maxRecDepth 20000 in
theorem gX6_groupOf_X6_reachesNone : GoodIn wsX6_groupOf (wsV RX6 109 RX6 yX6_reachesNone wsX6_reachesNone) := goodIn_app (goodIn_of _ (by decide +kernel)) ggX6_groupOf_X6_reachesNone
set_option maxRecDepth 20000 in
theorem ggX6_groupOf_X6_reaches : GoodIn wsX6_groupOf wsX6_reaches := goodIn_r _ [11, 1, 2, 12, 13, 14, 6, 15, 16, 17, 18, 19, 20, 21, 22, 23, 24, 25, 26, 27, 28, 29, 30, 31, 32, 33, 34, 35, 36, 37, 38, 39, 40, 41] (by decide +kernel) (by decide +kernel)
set_option maxRecDepth 20000 in
theorem gX6_groupOf_X6_reaches : GoodIn wsX6_groupOf (wsV RX6 88 RX6 yX6_reaches wsX6_reaches) := goodIn_app (goodIn_of _ (by decide +kernel)) ggX6_groupOf_X6_reaches
theorem dX6_groupOf_0 : decode cX6_groupOf 0 = .ok (.aload_n 0, 1) := by decide +kernel
theorem dX6_groupOf_1 : decode cX6_groupOf 1 = .ok (.invokevirtual 109, 3) := by decide +kernel
theorem dX6_groupOf_4 : decode cX6_groupOf 4 = .ok (.aload_n 0, 1) := by decide +kernel
theorem dX6_groupOf_5 : decode cX6_groupOf 5 = .ok (.getfield 30, 3) := by decide +kernel
theorem dX6_groupOf_8 : decode cX6_groupOf 8 = .ok (.iload_n 1, 1) := by decide +kernel
theorem dX6_groupOf_9 : decode cX6_groupOf 9 = .ok (.iconst 1, 1) := by decide +kernel
theorem dX6_groupOf_10 : decode cX6_groupOf 10 = .ok (.bastore, 1) := by decide +kernel
theorem dX6_groupOf_11 : decode cX6_groupOf 11 = .ok (.aload_n 0, 1) := by decide +kernel
theorem dX6_groupOf_12 : decode cX6_groupOf 12 = .ok (.aload_n 0, 1) := by decide +kernel
theorem dX6_groupOf_13 : decode cX6_groupOf 13 = .ok (.getfield 19, 3) := by decide +kernel
theorem dX6_groupOf_16 : decode cX6_groupOf 16 = .ok (.iload_n 1, 1) := by decide +kernel
theorem dX6_groupOf_17 : decode cX6_groupOf 17 = .ok (.iaload, 1) := by decide +kernel
theorem dX6_groupOf_18 : decode cX6_groupOf 18 = .ok (.invokevirtual 88, 3) := by decide +kernel
theorem dX6_groupOf_21 : decode cX6_groupOf 21 = .ok (.return_, 1) := by decide +kernel
set_option maxRecDepth 20000 in
theorem ggX6_group_X6_isStone : GoodIn wsX6_group wsX6_isStone := goodIn_r _ [6, 7, 8, 9, 10, 5, 11, 12, 13, 14, 15, 16, 17, 18, 19, 20, 37, 38, 39, 40, 41, 42, 43, 44, 45, 46, 47, 48, 49, 50, 51, 52, 53] (by decide +kernel) (by decide +kernel)
set_option maxRecDepth 20000 in
theorem gX6_group_X6_isStone : GoodIn wsX6_group (wsV RX6 112 RX6 yX6_isStone wsX6_isStone) := goodIn_app (goodIn_of _ (by decide +kernel)) ggX6_group_X6_isStone
set_option maxRecDepth 20000 in
theorem ggX6_group_X6_groupOf : GoodIn wsX6_group wsX6_groupOf := goodIn_r _ [24, 1, 7, 25, 26, 27, 5, 28, 29, 30, 31, 32, 12, 13, 14, 15, 16, 17, 33, 34, 35, 36, 18, 19, 20, 37, 38, 39, 40, 41, 42, 43, 44, 45, 46, 47, 48, 49, 50, 51, 52, 53] (by decide +kernel) (by decide +kernel)
set_option maxRecDepth 20000 in
theorem gX6_group_X6_groupOf : GoodIn wsX6_group (wsV RX6 115 RX6 yX6_groupOf wsX6_groupOf) := goodIn_app (goodIn_of _ (by decide +kernel)) ggX6_group_X6_groupOf
theorem dX6_group_0 : decode cX6_group 0 = .ok (.aload_n 0, 1) := by decide +kernel
theorem dX6_group_1 : decode cX6_group 1 = .ok (.iload_n 1, 1) := by decide +kernel
theorem dX6_group_2 : decode cX6_group 2 = .ok (.invokevirtual 112, 3) := by decide +kernel
theorem dX6_group_5 : decode cX6_group 5 = .ok (.ifCond .ne 5, 3) := by decide +kernel
theorem dX6_group_8 : decode cX6_group 8 = .ok (.iconst (-1), 1) := by decide +kernel
theorem dX6_group_9 : decode cX6_group 9 = .ok (.ireturn, 1) := by decide +kernel
theorem dX6_group_10 : decode cX6_group 10 = .ok (.aload_n 0, 1) := by decide +kernel
theorem dX6_group_11 : decode cX6_group 11 = .ok (.iload_n 1, 1) := by decide +kernel
theorem dX6_group_12 : decode cX6_group 12 = .ok (.invokevirtual 115, 3) := by decide +kernel
theorem dX6_group_15 : decode cX6_group 15 = .ok (.iconst 0, 1) := by decide +kernel
theorem dX6_group_16 : decode cX6_group 16 = .ok (.istore_n 2, 1) := by decide +kernel
theorem dX6_group_17 : decode cX6_group 17 = .ok (.aload_n 0, 1) := by decide +kernel
theorem dX6_group_18 : decode cX6_group 18 = .ok (.getfield 30, 3) := by decide +kernel
theorem dX6_group_21 : decode cX6_group 21 = .ok (.iload_n 2, 1) := by decide +kernel
theorem dX6_group_22 : decode cX6_group 22 = .ok (.baload, 1) := by decide +kernel
theorem dX6_group_23 : decode cX6_group 23 = .ok (.ifCond .ne 9, 3) := by decide +kernel
theorem dX6_group_26 : decode cX6_group 26 = .ok (.iinc 2 1, 3) := by decide +kernel
theorem dX6_group_29 : decode cX6_group 29 = .ok (.goto (-12), 3) := by decide +kernel
theorem dX6_group_32 : decode cX6_group 32 = .ok (.iload_n 2, 1) := by decide +kernel
theorem dX6_group_33 : decode cX6_group 33 = .ok (.ireturn, 1) := by decide +kernel
set_option maxRecDepth 20000 in
theorem ggX6_look_X6_isStone : GoodIn wsX6_look wsX6_isStone := goodIn_r _ [7, 2, 8, 9, 10, 6, 11, 12, 13, 14, 15, 16, 17, 18, 19, 20, 45, 46, 47, 48, 49, 50, 51, 52, 53, 54, 55, 56, 57, 58, 59, 60, 61] (by decide +kernel) (by decide +kernel)
set_option maxRecDepth 20000 in
theorem gX6_look_X6_isStone : GoodIn wsX6_look (wsV RX6 112 RX6 yX6_isStone wsX6_isStone) := goodIn_app (goodIn_of _ (by decide +kernel)) ggX6_look_X6_isStone
set_option maxRecDepth 20000 in
theorem ggX6_look_X6_lies : GoodIn wsX6_look wsX6_lies := goodIn_r _ [20] (by decide +kernel) (by decide +kernel)
set_option maxRecDepth 20000 in
theorem gX6_look_X6_lies : GoodIn wsX6_look (va_wsS RX6 60 yX6_lies wsX6_lies) := goodIn_app (goodIn_of _ (by decide +kernel)) ggX6_look_X6_lies
set_option maxRecDepth 20000 in
theorem ggX6_look_X6_groupOf : GoodIn wsX6_look wsX6_groupOf := goodIn_r _ [24, 1, 2, 25, 26, 27, 6, 28, 29, 30, 31, 32, 12, 13, 14, 15, 16, 17, 33, 34, 35, 36, 18, 19, 20, 45, 46, 47, 48, 49, 50, 51, 52, 53, 54, 55, 56, 57, 58, 59, 60, 61] (by decide +kernel) (by decide +kernel)
set_option maxRecDepth 20000 in
theorem gX6_look_X6_groupOf : GoodIn wsX6_look (wsV RX6 115 RX6 yX6_groupOf wsX6_groupOf) := goodIn_app (goodIn_of _ (by decide +kernel)) ggX6_look_X6_groupOf
set_option maxRecDepth 20000 in
theorem ggX6_look_X6_fields : GoodIn wsX6_look wsX6_fields := goodIn_r _ [15, 16, 17, 45, 46, 47, 48, 49, 50, 51, 52, 53, 54, 55, 56, 57, 58, 59, 60, 61] (by decide +kernel) (by decide +kernel)
set_option maxRecDepth 20000 in
theorem gX6_look_X6_fields : GoodIn wsX6_look (wsV RX6 56 RX6 yX6_fields wsX6_fields) := goodIn_app (goodIn_of _ (by decide +kernel)) ggX6_look_X6_fields
set_option maxRecDepth 20000 in
theorem ggX6_look_X6_banks : GoodIn wsX6_look wsX6_banks := goodIn_r _ [40, 17, 16, 45, 46, 47, 48, 49, 50, 51, 52, 53, 54, 55, 56, 57, 58, 59, 60, 61] (by decide +kernel) (by decide +kernel)
set_option maxRecDepth 20000 in
theorem gX6_look_X6_banks : GoodIn wsX6_look (wsV RX6 81 RX6 yX6_banks wsX6_banks) := goodIn_app (goodIn_of _ (by decide +kernel)) ggX6_look_X6_banks
set_option maxRecDepth 20000 in
theorem ggX6_look_X6_isBeside : GoodIn wsX6_look wsX6_isBeside := goodIn_r _ [44, 1, 33, 34, 35, 6, 36, 17, 16, 18, 19, 20, 45, 46, 47, 48, 49, 50, 51, 52, 53, 54, 55, 56, 57, 58, 59, 60, 61] (by decide +kernel) (by decide +kernel)
set_option maxRecDepth 20000 in
theorem gX6_look_X6_isBeside : GoodIn wsX6_look (wsV RX6 118 RX6 yX6_isBeside wsX6_isBeside) := goodIn_app (goodIn_of _ (by decide +kernel)) ggX6_look_X6_isBeside
theorem dX6_look_0 : decode cX6_look 0 = .ok (.aload_n 0, 1) := by decide +kernel
theorem dX6_look_1 : decode cX6_look 1 = .ok (.iload_n 1, 1) := by decide +kernel
theorem dX6_look_2 : decode cX6_look 2 = .ok (.invokevirtual 112, 3) := by decide +kernel
theorem dX6_look_5 : decode cX6_look 5 = .ok (.ifCond .eq 12, 3) := by decide +kernel
theorem dX6_look_8 : decode cX6_look 8 = .ok (.iload_n 2, 1) := by decide +kernel
theorem dX6_look_9 : decode cX6_look 9 = .ok (.iconst 0, 1) := by decide +kernel
theorem dX6_look_10 : decode cX6_look 10 = .ok (.iconst 2, 1) := by decide +kernel
theorem dX6_look_11 : decode cX6_look 11 = .ok (.invokestatic 60, 3) := by decide +kernel
theorem dX6_look_14 : decode cX6_look 14 = .ok (.ifCond .ne 5, 3) := by decide +kernel
theorem dX6_look_17 : decode cX6_look 17 = .ok (.iconst (-1), 1) := by decide +kernel
theorem dX6_look_18 : decode cX6_look 18 = .ok (.ireturn, 1) := by decide +kernel
theorem dX6_look_19 : decode cX6_look 19 = .ok (.aload_n 0, 1) := by decide +kernel
theorem dX6_look_20 : decode cX6_look 20 = .ok (.iload_n 1, 1) := by decide +kernel
theorem dX6_look_21 : decode cX6_look 21 = .ok (.invokevirtual 115, 3) := by decide +kernel
theorem dX6_look_24 : decode cX6_look 24 = .ok (.iconst 0, 1) := by decide +kernel
theorem dX6_look_25 : decode cX6_look 25 = .ok (.istore_n 3, 1) := by decide +kernel
theorem dX6_look_26 : decode cX6_look 26 = .ok (.iconst 0, 1) := by decide +kernel
theorem dX6_look_27 : decode cX6_look 27 = .ok (.istore 4, 2) := by decide +kernel
theorem dX6_look_29 : decode cX6_look 29 = .ok (.iload 4, 2) := by decide +kernel
theorem dX6_look_31 : decode cX6_look 31 = .ok (.aload_n 0, 1) := by decide +kernel
theorem dX6_look_32 : decode cX6_look 32 = .ok (.invokevirtual 56, 3) := by decide +kernel
theorem dX6_look_35 : decode cX6_look 35 = .ok (.if_icmp .ge 91, 3) := by decide +kernel
theorem dX6_look_38 : decode cX6_look 38 = .ok (.iload_n 2, 1) := by decide +kernel
theorem dX6_look_39 : decode cX6_look 39 = .ok (.ifCond .ne 21, 3) := by decide +kernel
theorem dX6_look_42 : decode cX6_look 42 = .ok (.iload_n 3, 1) := by decide +kernel
theorem dX6_look_43 : decode cX6_look 43 = .ok (.aload_n 0, 1) := by decide +kernel
theorem dX6_look_44 : decode cX6_look 44 = .ok (.getfield 30, 3) := by decide +kernel
theorem dX6_look_47 : decode cX6_look 47 = .ok (.iload 4, 2) := by decide +kernel
theorem dX6_look_49 : decode cX6_look 49 = .ok (.baload, 1) := by decide +kernel
theorem dX6_look_50 : decode cX6_look 50 = .ok (.ifCond .eq 7, 3) := by decide +kernel
theorem dX6_look_53 : decode cX6_look 53 = .ok (.iconst 1, 1) := by decide +kernel
theorem dX6_look_54 : decode cX6_look 54 = .ok (.goto 4, 3) := by decide +kernel
theorem dX6_look_57 : decode cX6_look 57 = .ok (.iconst 0, 1) := by decide +kernel
theorem dX6_look_58 : decode cX6_look 58 = .ok (.iadd, 1) := by decide +kernel
theorem dX6_look_59 : decode cX6_look 59 = .ok (.istore_n 3, 1) := by decide +kernel
theorem dX6_look_60 : decode cX6_look 60 = .ok (.iload_n 2, 1) := by decide +kernel
theorem dX6_look_61 : decode cX6_look 61 = .ok (.iconst 1, 1) := by decide +kernel
theorem dX6_look_62 : decode cX6_look 62 = .ok (.if_icmp .ne 26, 3) := by decide +kernel
theorem dX6_look_65 : decode cX6_look 65 = .ok (.iload_n 3, 1) := by decide +kernel
theorem dX6_look_66 : decode cX6_look 66 = .ok (.aload_n 0, 1) := by decide +kernel
theorem dX6_look_67 : decode cX6_look 67 = .ok (.getfield 30, 3) := by decide +kernel
theorem dX6_look_70 : decode cX6_look 70 = .ok (.iload 4, 2) := by decide +kernel
theorem dX6_look_72 : decode cX6_look 72 = .ok (.baload, 1) := by decide +kernel
theorem dX6_look_73 : decode cX6_look 73 = .ok (.ifCond .eq 12, 3) := by decide +kernel
theorem dX6_look_76 : decode cX6_look 76 = .ok (.aload_n 0, 1) := by decide +kernel
theorem dX6_look_77 : decode cX6_look 77 = .ok (.iload 4, 2) := by decide +kernel
theorem dX6_look_79 : decode cX6_look 79 = .ok (.invokevirtual 81, 3) := by decide +kernel
theorem dX6_look_82 : decode cX6_look 82 = .ok (.goto 4, 3) := by decide +kernel
theorem dX6_look_85 : decode cX6_look 85 = .ok (.iconst 0, 1) := by decide +kernel
theorem dX6_look_86 : decode cX6_look 86 = .ok (.ior, 1) := by decide +kernel
theorem dX6_look_87 : decode cX6_look 87 = .ok (.istore_n 3, 1) := by decide +kernel
theorem dX6_look_88 : decode cX6_look 88 = .ok (.iload_n 2, 1) := by decide +kernel
theorem dX6_look_89 : decode cX6_look 89 = .ok (.iconst 2, 1) := by decide +kernel
theorem dX6_look_90 : decode cX6_look 90 = .ok (.if_icmp .ne 30, 3) := by decide +kernel
theorem dX6_look_93 : decode cX6_look 93 = .ok (.iload_n 3, 1) := by decide +kernel
theorem dX6_look_94 : decode cX6_look 94 = .ok (.aload_n 0, 1) := by decide +kernel
theorem dX6_look_95 : decode cX6_look 95 = .ok (.getfield 19, 3) := by decide +kernel
theorem dX6_look_98 : decode cX6_look 98 = .ok (.iload 4, 2) := by decide +kernel
theorem dX6_look_100 : decode cX6_look 100 = .ok (.iaload, 1) := by decide +kernel
theorem dX6_look_101 : decode cX6_look 101 = .ok (.ifCond .ne 16, 3) := by decide +kernel
theorem dX6_look_104 : decode cX6_look 104 = .ok (.aload_n 0, 1) := by decide +kernel
theorem dX6_look_105 : decode cX6_look 105 = .ok (.iload 4, 2) := by decide +kernel
theorem dX6_look_107 : decode cX6_look 107 = .ok (.invokevirtual 118, 3) := by decide +kernel
theorem dX6_look_110 : decode cX6_look 110 = .ok (.ifCond .eq 7, 3) := by decide +kernel
theorem dX6_look_113 : decode cX6_look 113 = .ok (.iconst 1, 1) := by decide +kernel
theorem dX6_look_114 : decode cX6_look 114 = .ok (.goto 4, 3) := by decide +kernel
theorem dX6_look_117 : decode cX6_look 117 = .ok (.iconst 0, 1) := by decide +kernel
theorem dX6_look_118 : decode cX6_look 118 = .ok (.iadd, 1) := by decide +kernel
theorem dX6_look_119 : decode cX6_look 119 = .ok (.istore_n 3, 1) := by decide +kernel
theorem dX6_look_120 : decode cX6_look 120 = .ok (.iinc 4 1, 3) := by decide +kernel
theorem dX6_look_123 : decode cX6_look 123 = .ok (.goto (-94), 3) := by decide +kernel
theorem dX6_look_126 : decode cX6_look 126 = .ok (.iload_n 3, 1) := by decide +kernel
theorem dX6_look_127 : decode cX6_look 127 = .ok (.ireturn, 1) := by decide +kernel
set_option maxRecDepth 20000 in
theorem ggX6_isBeside_X6_beside : GoodIn wsX6_isBeside wsX6_beside := goodIn_r _ [6, 7, 8, 9, 10, 5, 11, 12, 13, 14, 15, 16, 17, 18, 19, 20, 21, 22, 23, 24, 25, 26, 27, 28] (by decide +kernel) (by decide +kernel)
set_option maxRecDepth 20000 in
theorem gX6_isBeside_X6_beside : GoodIn wsX6_isBeside (wsV RX6 77 RX6 yX6_beside wsX6_beside) := goodIn_app (goodIn_of _ (by decide +kernel)) ggX6_isBeside_X6_beside
theorem dX6_isBeside_0 : decode cX6_isBeside 0 = .ok (.iconst 0, 1) := by decide +kernel
theorem dX6_isBeside_1 : decode cX6_isBeside 1 = .ok (.istore_n 2, 1) := by decide +kernel
theorem dX6_isBeside_2 : decode cX6_isBeside 2 = .ok (.iload_n 2, 1) := by decide +kernel
theorem dX6_isBeside_3 : decode cX6_isBeside 3 = .ok (.bipush 6, 2) := by decide +kernel
theorem dX6_isBeside_5 : decode cX6_isBeside 5 = .ok (.if_icmp .ge 35, 3) := by decide +kernel
theorem dX6_isBeside_8 : decode cX6_isBeside 8 = .ok (.aload_n 0, 1) := by decide +kernel
theorem dX6_isBeside_9 : decode cX6_isBeside 9 = .ok (.iload_n 1, 1) := by decide +kernel
theorem dX6_isBeside_10 : decode cX6_isBeside 10 = .ok (.iload_n 2, 1) := by decide +kernel
theorem dX6_isBeside_11 : decode cX6_isBeside 11 = .ok (.invokevirtual 77, 3) := by decide +kernel
theorem dX6_isBeside_14 : decode cX6_isBeside 14 = .ok (.iconst (-1), 1) := by decide +kernel
theorem dX6_isBeside_15 : decode cX6_isBeside 15 = .ok (.if_icmp .eq 19, 3) := by decide +kernel
theorem dX6_isBeside_18 : decode cX6_isBeside 18 = .ok (.aload_n 0, 1) := by decide +kernel
theorem dX6_isBeside_19 : decode cX6_isBeside 19 = .ok (.getfield 30, 3) := by decide +kernel
theorem dX6_isBeside_22 : decode cX6_isBeside 22 = .ok (.aload_n 0, 1) := by decide +kernel
theorem dX6_isBeside_23 : decode cX6_isBeside 23 = .ok (.iload_n 1, 1) := by decide +kernel
theorem dX6_isBeside_24 : decode cX6_isBeside 24 = .ok (.iload_n 2, 1) := by decide +kernel
theorem dX6_isBeside_25 : decode cX6_isBeside 25 = .ok (.invokevirtual 77, 3) := by decide +kernel
theorem dX6_isBeside_28 : decode cX6_isBeside 28 = .ok (.baload, 1) := by decide +kernel
theorem dX6_isBeside_29 : decode cX6_isBeside 29 = .ok (.ifCond .eq 5, 3) := by decide +kernel
theorem dX6_isBeside_32 : decode cX6_isBeside 32 = .ok (.iconst 1, 1) := by decide +kernel
theorem dX6_isBeside_33 : decode cX6_isBeside 33 = .ok (.ireturn, 1) := by decide +kernel
theorem dX6_isBeside_34 : decode cX6_isBeside 34 = .ok (.iinc 2 1, 3) := by decide +kernel
theorem dX6_isBeside_37 : decode cX6_isBeside 37 = .ok (.goto (-35), 3) := by decide +kernel
theorem dX6_isBeside_40 : decode cX6_isBeside 40 = .ok (.iconst 0, 1) := by decide +kernel
theorem dX6_isBeside_41 : decode cX6_isBeside 41 = .ok (.ireturn, 1) := by decide +kernel
set_option maxRecDepth 20000 in
theorem ggX6_groups_X6_fields : GoodIn wsX6_groups wsX6_fields := goodIn_r _ [6, 7, 8, 41, 42, 43, 44, 45, 46, 47, 48, 49, 50, 51, 52, 53, 54, 55, 56, 57] (by decide +kernel) (by decide +kernel)
set_option maxRecDepth 20000 in
theorem gX6_groups_X6_fields : GoodIn wsX6_groups (wsV RX6 56 RX6 yX6_fields wsX6_fields) := goodIn_app (goodIn_of _ (by decide +kernel)) ggX6_groups_X6_fields
set_option maxRecDepth 20000 in
theorem ggX6_groups_X6_group : GoodIn wsX6_groups wsX6_group := goodIn_r _ [12, 13, 14, 15, 16, 5, 17, 1, 18, 19, 20, 21, 2, 3, 4, 6, 7, 8, 22, 23, 24, 25, 26, 27, 28, 29, 30, 31, 32, 33, 34, 35, 36, 37, 38, 39, 40, 41, 42, 43, 44, 45, 46, 47, 48, 49, 50, 51, 52, 53, 54, 55, 56, 57] (by decide +kernel) (by decide +kernel)
set_option maxRecDepth 20000 in
theorem gX6_groups_X6_group : GoodIn wsX6_groups (wsV RX6 121 RX6 yX6_group wsX6_group) := goodIn_app (goodIn_of _ (by decide +kernel)) ggX6_groups_X6_group
theorem dX6_groups_0 : decode cX6_groups 0 = .ok (.iconst 0, 1) := by decide +kernel
theorem dX6_groups_1 : decode cX6_groups 1 = .ok (.istore_n 2, 1) := by decide +kernel
theorem dX6_groups_2 : decode cX6_groups 2 = .ok (.iconst 0, 1) := by decide +kernel
theorem dX6_groups_3 : decode cX6_groups 3 = .ok (.istore_n 3, 1) := by decide +kernel
theorem dX6_groups_4 : decode cX6_groups 4 = .ok (.iload_n 3, 1) := by decide +kernel
theorem dX6_groups_5 : decode cX6_groups 5 = .ok (.aload_n 0, 1) := by decide +kernel
theorem dX6_groups_6 : decode cX6_groups 6 = .ok (.invokevirtual 56, 3) := by decide +kernel
theorem dX6_groups_9 : decode cX6_groups 9 = .ok (.if_icmp .ge 36, 3) := by decide +kernel
theorem dX6_groups_12 : decode cX6_groups 12 = .ok (.iload_n 2, 1) := by decide +kernel
theorem dX6_groups_13 : decode cX6_groups 13 = .ok (.aload_n 0, 1) := by decide +kernel
theorem dX6_groups_14 : decode cX6_groups 14 = .ok (.getfield 19, 3) := by decide +kernel
theorem dX6_groups_17 : decode cX6_groups 17 = .ok (.iload_n 3, 1) := by decide +kernel
theorem dX6_groups_18 : decode cX6_groups 18 = .ok (.iaload, 1) := by decide +kernel
theorem dX6_groups_19 : decode cX6_groups 19 = .ok (.iload_n 1, 1) := by decide +kernel
theorem dX6_groups_20 : decode cX6_groups 20 = .ok (.if_icmp .ne 16, 3) := by decide +kernel
theorem dX6_groups_23 : decode cX6_groups 23 = .ok (.aload_n 0, 1) := by decide +kernel
theorem dX6_groups_24 : decode cX6_groups 24 = .ok (.iload_n 3, 1) := by decide +kernel
theorem dX6_groups_25 : decode cX6_groups 25 = .ok (.invokevirtual 121, 3) := by decide +kernel
theorem dX6_groups_28 : decode cX6_groups 28 = .ok (.iload_n 3, 1) := by decide +kernel
theorem dX6_groups_29 : decode cX6_groups 29 = .ok (.if_icmp .ne 7, 3) := by decide +kernel
theorem dX6_groups_32 : decode cX6_groups 32 = .ok (.iconst 1, 1) := by decide +kernel
theorem dX6_groups_33 : decode cX6_groups 33 = .ok (.goto 4, 3) := by decide +kernel
theorem dX6_groups_36 : decode cX6_groups 36 = .ok (.iconst 0, 1) := by decide +kernel
theorem dX6_groups_37 : decode cX6_groups 37 = .ok (.iadd, 1) := by decide +kernel
theorem dX6_groups_38 : decode cX6_groups 38 = .ok (.istore_n 2, 1) := by decide +kernel
theorem dX6_groups_39 : decode cX6_groups 39 = .ok (.iinc 3 1, 3) := by decide +kernel
theorem dX6_groups_42 : decode cX6_groups 42 = .ok (.goto (-38), 3) := by decide +kernel
theorem dX6_groups_45 : decode cX6_groups 45 = .ok (.iload_n 2, 1) := by decide +kernel
theorem dX6_groups_46 : decode cX6_groups 46 = .ok (.ireturn, 1) := by decide +kernel
set_option maxRecDepth 20000 in
theorem ggX6_measures_X6_fields : GoodIn wsX6_measures wsX6_fields := goodIn_r _ [7, 8, 9, 24, 25, 26, 27, 28, 29, 30, 31, 32, 33, 34, 35, 36, 37, 38, 39, 40] (by decide +kernel) (by decide +kernel)
set_option maxRecDepth 20000 in
theorem gX6_measures_X6_fields : GoodIn wsX6_measures (wsV RX6 56 RX6 yX6_fields wsX6_fields) := goodIn_app (goodIn_of _ (by decide +kernel)) ggX6_measures_X6_fields
set_option maxRecDepth 20000 in
theorem ggX6_measures_X6_banks : GoodIn wsX6_measures wsX6_banks := goodIn_r _ [13, 9, 8, 24, 25, 26, 27, 28, 29, 30, 31, 32, 33, 34, 35, 36, 37, 38, 39, 40] (by decide +kernel) (by decide +kernel)
set_option maxRecDepth 20000 in
theorem gX6_measures_X6_banks : GoodIn wsX6_measures (wsV RX6 81 RX6 yX6_banks wsX6_banks) := goodIn_app (goodIn_of _ (by decide +kernel)) ggX6_measures_X6_banks
set_option maxRecDepth 20000 in
theorem ggX6_measures_X6_last : GoodIn wsX6_measures wsX6_last := goodIn_r _ [16] (by decide +kernel) (by decide +kernel)
set_option maxRecDepth 20000 in
theorem gX6_measures_X6_last : GoodIn wsX6_measures (va_wsS RX6 92 yX6_last wsX6_last) := goodIn_app (goodIn_of _ (by decide +kernel)) ggX6_measures_X6_last
set_option maxRecDepth 20000 in
theorem ggX6_measures_X6_beside : GoodIn wsX6_measures wsX6_beside := goodIn_r _ [20, 9, 8, 21, 22, 6, 23, 24, 25, 26, 27, 28, 29, 30, 31, 32, 33, 34, 35, 36, 37, 38, 39, 40] (by decide +kernel) (by decide +kernel)
set_option maxRecDepth 20000 in
theorem gX6_measures_X6_beside : GoodIn wsX6_measures (wsV RX6 77 RX6 yX6_beside wsX6_beside) := goodIn_app (goodIn_of _ (by decide +kernel)) ggX6_measures_X6_beside
theorem dX6_measures_0 : decode cX6_measures 0 = .ok (.iconst 0, 1) := by decide +kernel
theorem dX6_measures_1 : decode cX6_measures 1 = .ok (.istore_n 2, 1) := by decide +kernel
theorem dX6_measures_2 : decode cX6_measures 2 = .ok (.iload_n 2, 1) := by decide +kernel
theorem dX6_measures_3 : decode cX6_measures 3 = .ok (.aload_n 0, 1) := by decide +kernel
theorem dX6_measures_4 : decode cX6_measures 4 = .ok (.invokevirtual 56, 3) := by decide +kernel
theorem dX6_measures_7 : decode cX6_measures 7 = .ok (.if_icmp .ge 44, 3) := by decide +kernel
theorem dX6_measures_10 : decode cX6_measures 10 = .ok (.aload_n 0, 1) := by decide +kernel
theorem dX6_measures_11 : decode cX6_measures 11 = .ok (.getfield 37, 3) := by decide +kernel
theorem dX6_measures_14 : decode cX6_measures 14 = .ok (.iload_n 2, 1) := by decide +kernel
theorem dX6_measures_15 : decode cX6_measures 15 = .ok (.aload_n 0, 1) := by decide +kernel
theorem dX6_measures_16 : decode cX6_measures 16 = .ok (.getfield 19, 3) := by decide +kernel
theorem dX6_measures_19 : decode cX6_measures 19 = .ok (.iload_n 2, 1) := by decide +kernel
theorem dX6_measures_20 : decode cX6_measures 20 = .ok (.iaload, 1) := by decide +kernel
theorem dX6_measures_21 : decode cX6_measures 21 = .ok (.iload_n 1, 1) := by decide +kernel
theorem dX6_measures_22 : decode cX6_measures 22 = .ok (.if_icmp .ne 20, 3) := by decide +kernel
theorem dX6_measures_25 : decode cX6_measures 25 = .ok (.aload_n 0, 1) := by decide +kernel
theorem dX6_measures_26 : decode cX6_measures 26 = .ok (.iload_n 2, 1) := by decide +kernel
theorem dX6_measures_27 : decode cX6_measures 27 = .ok (.invokevirtual 81, 3) := by decide +kernel
theorem dX6_measures_30 : decode cX6_measures 30 = .ok (.iload_n 1, 1) := by decide +kernel
theorem dX6_measures_31 : decode cX6_measures 31 = .ok (.invokestatic 92, 3) := by decide +kernel
theorem dX6_measures_34 : decode cX6_measures 34 = .ok (.iand, 1) := by decide +kernel
theorem dX6_measures_35 : decode cX6_measures 35 = .ok (.ifCond .eq 7, 3) := by decide +kernel
theorem dX6_measures_38 : decode cX6_measures 38 = .ok (.iconst 1, 1) := by decide +kernel
theorem dX6_measures_39 : decode cX6_measures 39 = .ok (.goto 5, 3) := by decide +kernel
theorem dX6_measures_42 : decode cX6_measures 42 = .ok (.bipush 100, 2) := by decide +kernel
theorem dX6_measures_44 : decode cX6_measures 44 = .ok (.iastore, 1) := by decide +kernel
theorem dX6_measures_45 : decode cX6_measures 45 = .ok (.iinc 2 1, 3) := by decide +kernel
theorem dX6_measures_48 : decode cX6_measures 48 = .ok (.goto (-46), 3) := by decide +kernel
theorem dX6_measures_51 : decode cX6_measures 51 = .ok (.iconst 2, 1) := by decide +kernel
theorem dX6_measures_52 : decode cX6_measures 52 = .ok (.istore_n 2, 1) := by decide +kernel
theorem dX6_measures_53 : decode cX6_measures 53 = .ok (.iload_n 2, 1) := by decide +kernel
theorem dX6_measures_54 : decode cX6_measures 54 = .ok (.bipush 36, 2) := by decide +kernel
theorem dX6_measures_56 : decode cX6_measures 56 = .ok (.if_icmp .gt 101, 3) := by decide +kernel
theorem dX6_measures_59 : decode cX6_measures 59 = .ok (.iconst 0, 1) := by decide +kernel
theorem dX6_measures_60 : decode cX6_measures 60 = .ok (.istore_n 3, 1) := by decide +kernel
theorem dX6_measures_61 : decode cX6_measures 61 = .ok (.iload_n 3, 1) := by decide +kernel
theorem dX6_measures_62 : decode cX6_measures 62 = .ok (.aload_n 0, 1) := by decide +kernel
theorem dX6_measures_63 : decode cX6_measures 63 = .ok (.invokevirtual 56, 3) := by decide +kernel
theorem dX6_measures_66 : decode cX6_measures 66 = .ok (.if_icmp .ge 85, 3) := by decide +kernel
theorem dX6_measures_69 : decode cX6_measures 69 = .ok (.aload_n 0, 1) := by decide +kernel
theorem dX6_measures_70 : decode cX6_measures 70 = .ok (.getfield 19, 3) := by decide +kernel
theorem dX6_measures_73 : decode cX6_measures 73 = .ok (.iload_n 3, 1) := by decide +kernel
theorem dX6_measures_74 : decode cX6_measures 74 = .ok (.iaload, 1) := by decide +kernel
theorem dX6_measures_75 : decode cX6_measures 75 = .ok (.iload_n 1, 1) := by decide +kernel
theorem dX6_measures_76 : decode cX6_measures 76 = .ok (.if_icmp .ne 69, 3) := by decide +kernel
theorem dX6_measures_79 : decode cX6_measures 79 = .ok (.aload_n 0, 1) := by decide +kernel
theorem dX6_measures_80 : decode cX6_measures 80 = .ok (.getfield 37, 3) := by decide +kernel
theorem dX6_measures_83 : decode cX6_measures 83 = .ok (.iload_n 3, 1) := by decide +kernel
theorem dX6_measures_84 : decode cX6_measures 84 = .ok (.iaload, 1) := by decide +kernel
theorem dX6_measures_85 : decode cX6_measures 85 = .ok (.bipush 100, 2) := by decide +kernel
theorem dX6_measures_87 : decode cX6_measures 87 = .ok (.if_icmp .ge 6, 3) := by decide +kernel
theorem dX6_measures_90 : decode cX6_measures 90 = .ok (.goto 55, 3) := by decide +kernel
theorem dX6_measures_93 : decode cX6_measures 93 = .ok (.iconst 0, 1) := by decide +kernel
theorem dX6_measures_94 : decode cX6_measures 94 = .ok (.istore 4, 2) := by decide +kernel
theorem dX6_measures_96 : decode cX6_measures 96 = .ok (.iload 4, 2) := by decide +kernel
theorem dX6_measures_98 : decode cX6_measures 98 = .ok (.bipush 6, 2) := by decide +kernel
theorem dX6_measures_100 : decode cX6_measures 100 = .ok (.if_icmp .ge 45, 3) := by decide +kernel
theorem dX6_measures_103 : decode cX6_measures 103 = .ok (.aload_n 0, 1) := by decide +kernel
theorem dX6_measures_104 : decode cX6_measures 104 = .ok (.iload_n 3, 1) := by decide +kernel
theorem dX6_measures_105 : decode cX6_measures 105 = .ok (.iload 4, 2) := by decide +kernel
theorem dX6_measures_107 : decode cX6_measures 107 = .ok (.invokevirtual 77, 3) := by decide +kernel
theorem dX6_measures_110 : decode cX6_measures 110 = .ok (.iconst (-1), 1) := by decide +kernel
theorem dX6_measures_111 : decode cX6_measures 111 = .ok (.if_icmp .eq 28, 3) := by decide +kernel
theorem dX6_measures_114 : decode cX6_measures 114 = .ok (.aload_n 0, 1) := by decide +kernel
theorem dX6_measures_115 : decode cX6_measures 115 = .ok (.getfield 37, 3) := by decide +kernel
theorem dX6_measures_118 : decode cX6_measures 118 = .ok (.aload_n 0, 1) := by decide +kernel
theorem dX6_measures_119 : decode cX6_measures 119 = .ok (.iload_n 3, 1) := by decide +kernel
theorem dX6_measures_120 : decode cX6_measures 120 = .ok (.iload 4, 2) := by decide +kernel
theorem dX6_measures_122 : decode cX6_measures 122 = .ok (.invokevirtual 77, 3) := by decide +kernel
theorem dX6_measures_125 : decode cX6_measures 125 = .ok (.iaload, 1) := by decide +kernel
theorem dX6_measures_126 : decode cX6_measures 126 = .ok (.iload_n 2, 1) := by decide +kernel
theorem dX6_measures_127 : decode cX6_measures 127 = .ok (.iconst 1, 1) := by decide +kernel
theorem dX6_measures_128 : decode cX6_measures 128 = .ok (.isub, 1) := by decide +kernel
theorem dX6_measures_129 : decode cX6_measures 129 = .ok (.if_icmp .ne 10, 3) := by decide +kernel
theorem dX6_measures_132 : decode cX6_measures 132 = .ok (.aload_n 0, 1) := by decide +kernel
theorem dX6_measures_133 : decode cX6_measures 133 = .ok (.getfield 37, 3) := by decide +kernel
theorem dX6_measures_136 : decode cX6_measures 136 = .ok (.iload_n 3, 1) := by decide +kernel
theorem dX6_measures_137 : decode cX6_measures 137 = .ok (.iload_n 2, 1) := by decide +kernel
theorem dX6_measures_138 : decode cX6_measures 138 = .ok (.iastore, 1) := by decide +kernel
theorem dX6_measures_139 : decode cX6_measures 139 = .ok (.iinc 4 1, 3) := by decide +kernel
theorem dX6_measures_142 : decode cX6_measures 142 = .ok (.goto (-46), 3) := by decide +kernel
theorem dX6_measures_145 : decode cX6_measures 145 = .ok (.iinc 3 1, 3) := by decide +kernel
theorem dX6_measures_148 : decode cX6_measures 148 = .ok (.goto (-87), 3) := by decide +kernel
theorem dX6_measures_151 : decode cX6_measures 151 = .ok (.iinc 2 1, 3) := by decide +kernel
theorem dX6_measures_154 : decode cX6_measures 154 = .ok (.goto (-101), 3) := by decide +kernel
theorem dX6_measures_157 : decode cX6_measures 157 = .ok (.return_, 1) := by decide +kernel
set_option maxRecDepth 20000 in
theorem ggX6_wayLong_X6_joined : GoodIn wsX6_wayLong wsX6_joined := goodIn_r _ [6, 7, 8, 9, 5, 10, 11, 12, 13, 14, 15, 16, 17, 18, 19, 20, 21, 22, 23, 24, 25, 26, 27, 28, 29, 30, 31, 32, 33, 34, 35, 36, 37, 38, 39, 44, 45, 46, 47, 48, 49, 50, 51, 52, 53, 54, 55, 56, 57, 58, 59, 60] (by decide +kernel) (by decide +kernel)
end
section
set_option maxRecDepth 20000 in
theorem gX6_wayLong_X6_joined : GoodIn wsX6_wayLong (wsV RX6 101 RX6 yX6_joined wsX6_joined) := goodIn_app (goodIn_of _ (by decide +kernel)) ggX6_wayLong_X6_joined
set_option maxRecDepth 20000 in
theorem ggX6_wayLong_X6_measures : GoodIn wsX6_wayLong wsX6_measures := goodIn_r _ [43, 1, 12, 13, 14, 15, 5, 16, 17, 18, 19, 20, 21, 22, 37, 38, 39, 30, 31, 32, 33, 34, 35, 36, 44, 45, 46, 47, 48, 49, 50, 51, 52, 53, 54, 55, 56, 57, 58, 59, 60] (by decide +kernel) (by decide +kernel)
set_option maxRecDepth 20000 in
theorem gX6_wayLong_X6_measures : GoodIn wsX6_wayLong (wsV RX6 124 RX6 yX6_measures wsX6_measures) := goodIn_app (goodIn_of _ (by decide +kernel)) ggX6_wayLong_X6_measures
set_option maxRecDepth 20000 in
theorem ggX6_wayLong_X6_fields : GoodIn wsX6_wayLong wsX6_fields := goodIn_r _ [16, 17, 18, 44, 45, 46, 47, 48, 49, 50, 51, 52, 53, 54, 55, 56, 57, 58, 59, 60] (by decide +kernel) (by decide +kernel)
set_option maxRecDepth 20000 in
theorem gX6_wayLong_X6_fields : GoodIn wsX6_wayLong (wsV RX6 56 RX6 yX6_fields wsX6_fields) := goodIn_app (goodIn_of _ (by decide +kernel)) ggX6_wayLong_X6_fields
set_option maxRecDepth 20000 in
theorem ggX6_wayLong_X6_banks : GoodIn wsX6_wayLong wsX6_banks := goodIn_r _ [22, 18, 17, 44, 45, 46, 47, 48, 49, 50, 51, 52, 53, 54, 55, 56, 57, 58, 59, 60] (by decide +kernel) (by decide +kernel)
set_option maxRecDepth 20000 in
theorem gX6_wayLong_X6_banks : GoodIn wsX6_wayLong (wsV RX6 81 RX6 yX6_banks wsX6_banks) := goodIn_app (goodIn_of _ (by decide +kernel)) ggX6_wayLong_X6_banks
set_option maxRecDepth 20000 in
theorem ggX6_wayLong_X6_first : GoodIn wsX6_wayLong wsX6_first := goodIn_r _ [25] (by decide +kernel) (by decide +kernel)
set_option maxRecDepth 20000 in
theorem gX6_wayLong_X6_first : GoodIn wsX6_wayLong (va_wsS RX6 85 yX6_first wsX6_first) := goodIn_app (goodIn_of _ (by decide +kernel)) ggX6_wayLong_X6_first
theorem dX6_wayLong_0 : decode cX6_wayLong 0 = .ok (.aload_n 0, 1) := by decide +kernel
theorem dX6_wayLong_1 : decode cX6_wayLong 1 = .ok (.invokevirtual 101, 3) := by decide +kernel
theorem dX6_wayLong_4 : decode cX6_wayLong 4 = .ok (.istore_n 1, 1) := by decide +kernel
theorem dX6_wayLong_5 : decode cX6_wayLong 5 = .ok (.iload_n 1, 1) := by decide +kernel
theorem dX6_wayLong_6 : decode cX6_wayLong 6 = .ok (.ifCond .ne 5, 3) := by decide +kernel
theorem dX6_wayLong_9 : decode cX6_wayLong 9 = .ok (.iconst 0, 1) := by decide +kernel
theorem dX6_wayLong_10 : decode cX6_wayLong 10 = .ok (.ireturn, 1) := by decide +kernel
theorem dX6_wayLong_11 : decode cX6_wayLong 11 = .ok (.aload_n 0, 1) := by decide +kernel
theorem dX6_wayLong_12 : decode cX6_wayLong 12 = .ok (.iload_n 1, 1) := by decide +kernel
theorem dX6_wayLong_13 : decode cX6_wayLong 13 = .ok (.invokevirtual 124, 3) := by decide +kernel
theorem dX6_wayLong_16 : decode cX6_wayLong 16 = .ok (.bipush 100, 2) := by decide +kernel
theorem dX6_wayLong_18 : decode cX6_wayLong 18 = .ok (.istore_n 2, 1) := by decide +kernel
theorem dX6_wayLong_19 : decode cX6_wayLong 19 = .ok (.iconst 0, 1) := by decide +kernel
theorem dX6_wayLong_20 : decode cX6_wayLong 20 = .ok (.istore_n 3, 1) := by decide +kernel
theorem dX6_wayLong_21 : decode cX6_wayLong 21 = .ok (.iload_n 3, 1) := by decide +kernel
theorem dX6_wayLong_22 : decode cX6_wayLong 22 = .ok (.aload_n 0, 1) := by decide +kernel
theorem dX6_wayLong_23 : decode cX6_wayLong 23 = .ok (.invokevirtual 56, 3) := by decide +kernel
theorem dX6_wayLong_26 : decode cX6_wayLong 26 = .ok (.if_icmp .ge 39, 3) := by decide +kernel
theorem dX6_wayLong_29 : decode cX6_wayLong 29 = .ok (.aload_n 0, 1) := by decide +kernel
theorem dX6_wayLong_30 : decode cX6_wayLong 30 = .ok (.iload_n 3, 1) := by decide +kernel
theorem dX6_wayLong_31 : decode cX6_wayLong 31 = .ok (.invokevirtual 81, 3) := by decide +kernel
theorem dX6_wayLong_34 : decode cX6_wayLong 34 = .ok (.iload_n 1, 1) := by decide +kernel
theorem dX6_wayLong_35 : decode cX6_wayLong 35 = .ok (.invokestatic 85, 3) := by decide +kernel
theorem dX6_wayLong_38 : decode cX6_wayLong 38 = .ok (.iand, 1) := by decide +kernel
theorem dX6_wayLong_39 : decode cX6_wayLong 39 = .ok (.ifCond .eq 20, 3) := by decide +kernel
theorem dX6_wayLong_42 : decode cX6_wayLong 42 = .ok (.aload_n 0, 1) := by decide +kernel
theorem dX6_wayLong_43 : decode cX6_wayLong 43 = .ok (.getfield 37, 3) := by decide +kernel
theorem dX6_wayLong_46 : decode cX6_wayLong 46 = .ok (.iload_n 3, 1) := by decide +kernel
theorem dX6_wayLong_47 : decode cX6_wayLong 47 = .ok (.iaload, 1) := by decide +kernel
theorem dX6_wayLong_48 : decode cX6_wayLong 48 = .ok (.iload_n 2, 1) := by decide +kernel
theorem dX6_wayLong_49 : decode cX6_wayLong 49 = .ok (.if_icmp .ge 10, 3) := by decide +kernel
theorem dX6_wayLong_52 : decode cX6_wayLong 52 = .ok (.aload_n 0, 1) := by decide +kernel
theorem dX6_wayLong_53 : decode cX6_wayLong 53 = .ok (.getfield 37, 3) := by decide +kernel
theorem dX6_wayLong_56 : decode cX6_wayLong 56 = .ok (.iload_n 3, 1) := by decide +kernel
theorem dX6_wayLong_57 : decode cX6_wayLong 57 = .ok (.iaload, 1) := by decide +kernel
theorem dX6_wayLong_58 : decode cX6_wayLong 58 = .ok (.istore_n 2, 1) := by decide +kernel
theorem dX6_wayLong_59 : decode cX6_wayLong 59 = .ok (.iinc 3 1, 3) := by decide +kernel
theorem dX6_wayLong_62 : decode cX6_wayLong 62 = .ok (.goto (-41), 3) := by decide +kernel
theorem dX6_wayLong_65 : decode cX6_wayLong 65 = .ok (.iload_n 2, 1) := by decide +kernel
theorem dX6_wayLong_66 : decode cX6_wayLong 66 = .ok (.ireturn, 1) := by decide +kernel
set_option maxRecDepth 20000 in
theorem ggX6_way_X6_wayLong : GoodIn wsX6_way wsX6_wayLong := goodIn_r _ [6, 1, 7, 8, 9, 5, 10, 11, 12, 13, 14, 15, 16, 17, 18, 19, 20, 21, 22, 23, 24, 25, 26, 27, 28, 29, 30, 31, 32, 33, 34, 35, 36, 37, 38, 39, 40, 41, 42, 43, 44, 45, 46, 47, 48, 49, 50, 51, 52, 53, 54, 55, 56, 57, 58, 59, 60, 61, 62, 63, 64] (by decide +kernel) (by decide +kernel)
set_option maxRecDepth 20000 in
theorem gX6_way_X6_wayLong : GoodIn wsX6_way (wsV RX6 127 RX6 yX6_wayLong wsX6_wayLong) := goodIn_app (goodIn_of _ (by decide +kernel)) ggX6_way_X6_wayLong
set_option maxRecDepth 20000 in
theorem ggX6_way_X6_lies : GoodIn wsX6_way wsX6_lies := goodIn_r _ [40] (by decide +kernel) (by decide +kernel)
set_option maxRecDepth 20000 in
theorem gX6_way_X6_lies : GoodIn wsX6_way (va_wsS RX6 60 yX6_lies wsX6_lies) := goodIn_app (goodIn_of _ (by decide +kernel)) ggX6_way_X6_lies
set_option maxRecDepth 20000 in
theorem ggX6_way_X6_joined : GoodIn wsX6_way wsX6_joined := goodIn_r _ [10, 11, 12, 13, 5, 14, 15, 16, 17, 18, 19, 20, 21, 22, 23, 24, 25, 26, 27, 28, 29, 30, 31, 32, 33, 34, 35, 36, 37, 38, 39, 40, 41, 42, 43, 48, 49, 50, 51, 52, 53, 54, 55, 56, 57, 58, 59, 60, 61, 62, 63, 64] (by decide +kernel) (by decide +kernel)
set_option maxRecDepth 20000 in
theorem gX6_way_X6_joined : GoodIn wsX6_way (wsV RX6 101 RX6 yX6_joined wsX6_joined) := goodIn_app (goodIn_of _ (by decide +kernel)) ggX6_way_X6_joined
set_option maxRecDepth 20000 in
theorem ggX6_way_X6_measures : GoodIn wsX6_way wsX6_measures := goodIn_r _ [47, 1, 16, 17, 18, 19, 5, 20, 21, 22, 23, 24, 25, 26, 41, 42, 43, 34, 35, 36, 37, 38, 39, 40, 48, 49, 50, 51, 52, 53, 54, 55, 56, 57, 58, 59, 60, 61, 62, 63, 64] (by decide +kernel) (by decide +kernel)
set_option maxRecDepth 20000 in
theorem gX6_way_X6_measures : GoodIn wsX6_way (wsV RX6 124 RX6 yX6_measures wsX6_measures) := goodIn_app (goodIn_of _ (by decide +kernel)) ggX6_way_X6_measures
set_option maxRecDepth 20000 in
theorem ggX6_way_X6_banks : GoodIn wsX6_way wsX6_banks := goodIn_r _ [26, 22, 21, 48, 49, 50, 51, 52, 53, 54, 55, 56, 57, 58, 59, 60, 61, 62, 63, 64] (by decide +kernel) (by decide +kernel)
set_option maxRecDepth 20000 in
theorem gX6_way_X6_banks : GoodIn wsX6_way (wsV RX6 81 RX6 yX6_banks wsX6_banks) := goodIn_app (goodIn_of _ (by decide +kernel)) ggX6_way_X6_banks
set_option maxRecDepth 20000 in
theorem ggX6_way_X6_first : GoodIn wsX6_way wsX6_first := goodIn_r _ [29] (by decide +kernel) (by decide +kernel)
set_option maxRecDepth 20000 in
theorem gX6_way_X6_first : GoodIn wsX6_way (va_wsS RX6 85 yX6_first wsX6_first) := goodIn_app (goodIn_of _ (by decide +kernel)) ggX6_way_X6_first
set_option maxRecDepth 20000 in
theorem ggX6_way_X6_beside : GoodIn wsX6_way wsX6_beside := goodIn_r _ [37, 22, 21, 38, 39, 5, 40, 48, 49, 50, 51, 52, 53, 54, 55, 56, 57, 58, 59, 60, 61, 62, 63, 64] (by decide +kernel) (by decide +kernel)
set_option maxRecDepth 20000 in
theorem gX6_way_X6_beside : GoodIn wsX6_way (wsV RX6 77 RX6 yX6_beside wsX6_beside) := goodIn_app (goodIn_of _ (by decide +kernel)) ggX6_way_X6_beside
theorem dX6_way_0 : decode cX6_way 0 = .ok (.aload_n 0, 1) := by decide +kernel
theorem dX6_way_1 : decode cX6_way 1 = .ok (.invokevirtual 127, 3) := by decide +kernel
theorem dX6_way_4 : decode cX6_way 4 = .ok (.istore_n 2, 1) := by decide +kernel
theorem dX6_way_5 : decode cX6_way 5 = .ok (.iload_n 1, 1) := by decide +kernel
theorem dX6_way_6 : decode cX6_way 6 = .ok (.iconst 0, 1) := by decide +kernel
theorem dX6_way_7 : decode cX6_way 7 = .ok (.iload_n 2, 1) := by decide +kernel
theorem dX6_way_8 : decode cX6_way 8 = .ok (.iconst 1, 1) := by decide +kernel
theorem dX6_way_9 : decode cX6_way 9 = .ok (.isub, 1) := by decide +kernel
theorem dX6_way_10 : decode cX6_way 10 = .ok (.invokestatic 60, 3) := by decide +kernel
theorem dX6_way_13 : decode cX6_way 13 = .ok (.ifCond .ne 5, 3) := by decide +kernel
theorem dX6_way_16 : decode cX6_way 16 = .ok (.iconst (-1), 1) := by decide +kernel
theorem dX6_way_17 : decode cX6_way 17 = .ok (.ireturn, 1) := by decide +kernel
theorem dX6_way_18 : decode cX6_way 18 = .ok (.aload_n 0, 1) := by decide +kernel
theorem dX6_way_19 : decode cX6_way 19 = .ok (.invokevirtual 101, 3) := by decide +kernel
theorem dX6_way_22 : decode cX6_way 22 = .ok (.istore_n 3, 1) := by decide +kernel
theorem dX6_way_23 : decode cX6_way 23 = .ok (.aload_n 0, 1) := by decide +kernel
theorem dX6_way_24 : decode cX6_way 24 = .ok (.iload_n 3, 1) := by decide +kernel
theorem dX6_way_25 : decode cX6_way 25 = .ok (.invokevirtual 124, 3) := by decide +kernel
theorem dX6_way_28 : decode cX6_way 28 = .ok (.iconst 0, 1) := by decide +kernel
theorem dX6_way_29 : decode cX6_way 29 = .ok (.istore 4, 2) := by decide +kernel
theorem dX6_way_31 : decode cX6_way 31 = .ok (.aload_n 0, 1) := by decide +kernel
theorem dX6_way_32 : decode cX6_way 32 = .ok (.iload 4, 2) := by decide +kernel
theorem dX6_way_34 : decode cX6_way 34 = .ok (.invokevirtual 81, 3) := by decide +kernel
theorem dX6_way_37 : decode cX6_way 37 = .ok (.iload_n 3, 1) := by decide +kernel
theorem dX6_way_38 : decode cX6_way 38 = .ok (.invokestatic 85, 3) := by decide +kernel
theorem dX6_way_41 : decode cX6_way 41 = .ok (.iand, 1) := by decide +kernel
theorem dX6_way_42 : decode cX6_way 42 = .ok (.ifCond .eq 14, 3) := by decide +kernel
theorem dX6_way_45 : decode cX6_way 45 = .ok (.aload_n 0, 1) := by decide +kernel
theorem dX6_way_46 : decode cX6_way 46 = .ok (.getfield 37, 3) := by decide +kernel
theorem dX6_way_49 : decode cX6_way 49 = .ok (.iload 4, 2) := by decide +kernel
theorem dX6_way_51 : decode cX6_way 51 = .ok (.iaload, 1) := by decide +kernel
theorem dX6_way_52 : decode cX6_way 52 = .ok (.iload_n 2, 1) := by decide +kernel
theorem dX6_way_53 : decode cX6_way 53 = .ok (.if_icmp .eq 9, 3) := by decide +kernel
theorem dX6_way_56 : decode cX6_way 56 = .ok (.iinc 4 1, 3) := by decide +kernel
theorem dX6_way_59 : decode cX6_way 59 = .ok (.goto (-28), 3) := by decide +kernel
theorem dX6_way_62 : decode cX6_way 62 = .ok (.iconst 1, 1) := by decide +kernel
theorem dX6_way_63 : decode cX6_way 63 = .ok (.istore 5, 2) := by decide +kernel
theorem dX6_way_65 : decode cX6_way 65 = .ok (.iload 5, 2) := by decide +kernel
theorem dX6_way_67 : decode cX6_way 67 = .ok (.iload_n 1, 1) := by decide +kernel
theorem dX6_way_68 : decode cX6_way 68 = .ok (.if_icmp .gt 74, 3) := by decide +kernel
theorem dX6_way_71 : decode cX6_way 71 = .ok (.bipush 36, 2) := by decide +kernel
theorem dX6_way_73 : decode cX6_way 73 = .ok (.istore 6, 2) := by decide +kernel
theorem dX6_way_75 : decode cX6_way 75 = .ok (.iconst 0, 1) := by decide +kernel
theorem dX6_way_76 : decode cX6_way 76 = .ok (.istore 7, 2) := by decide +kernel
theorem dX6_way_78 : decode cX6_way 78 = .ok (.iload 7, 2) := by decide +kernel
theorem dX6_way_80 : decode cX6_way 80 = .ok (.bipush 6, 2) := by decide +kernel
theorem dX6_way_82 : decode cX6_way 82 = .ok (.if_icmp .ge 50, 3) := by decide +kernel
theorem dX6_way_85 : decode cX6_way 85 = .ok (.aload_n 0, 1) := by decide +kernel
theorem dX6_way_86 : decode cX6_way 86 = .ok (.iload 4, 2) := by decide +kernel
theorem dX6_way_88 : decode cX6_way 88 = .ok (.iload 7, 2) := by decide +kernel
theorem dX6_way_90 : decode cX6_way 90 = .ok (.invokevirtual 77, 3) := by decide +kernel
theorem dX6_way_93 : decode cX6_way 93 = .ok (.istore 8, 2) := by decide +kernel
theorem dX6_way_95 : decode cX6_way 95 = .ok (.iload 8, 2) := by decide +kernel
theorem dX6_way_97 : decode cX6_way 97 = .ok (.iconst (-1), 1) := by decide +kernel
theorem dX6_way_98 : decode cX6_way 98 = .ok (.if_icmp .eq 28, 3) := by decide +kernel
theorem dX6_way_101 : decode cX6_way 101 = .ok (.aload_n 0, 1) := by decide +kernel
theorem dX6_way_102 : decode cX6_way 102 = .ok (.getfield 37, 3) := by decide +kernel
theorem dX6_way_105 : decode cX6_way 105 = .ok (.iload 8, 2) := by decide +kernel
theorem dX6_way_107 : decode cX6_way 107 = .ok (.iaload, 1) := by decide +kernel
theorem dX6_way_108 : decode cX6_way 108 = .ok (.iload_n 2, 1) := by decide +kernel
theorem dX6_way_109 : decode cX6_way 109 = .ok (.iload 5, 2) := by decide +kernel
theorem dX6_way_111 : decode cX6_way 111 = .ok (.isub, 1) := by decide +kernel
theorem dX6_way_112 : decode cX6_way 112 = .ok (.if_icmp .ne 14, 3) := by decide +kernel
theorem dX6_way_115 : decode cX6_way 115 = .ok (.iload 8, 2) := by decide +kernel
theorem dX6_way_117 : decode cX6_way 117 = .ok (.iload 6, 2) := by decide +kernel
theorem dX6_way_119 : decode cX6_way 119 = .ok (.if_icmp .ge 7, 3) := by decide +kernel
theorem dX6_way_122 : decode cX6_way 122 = .ok (.iload 8, 2) := by decide +kernel
theorem dX6_way_124 : decode cX6_way 124 = .ok (.istore 6, 2) := by decide +kernel
theorem dX6_way_126 : decode cX6_way 126 = .ok (.iinc 7 1, 3) := by decide +kernel
theorem dX6_way_129 : decode cX6_way 129 = .ok (.goto (-51), 3) := by decide +kernel
theorem dX6_way_132 : decode cX6_way 132 = .ok (.iload 6, 2) := by decide +kernel
theorem dX6_way_134 : decode cX6_way 134 = .ok (.istore 4, 2) := by decide +kernel
theorem dX6_way_136 : decode cX6_way 136 = .ok (.iinc 5 1, 3) := by decide +kernel
theorem dX6_way_139 : decode cX6_way 139 = .ok (.goto (-74), 3) := by decide +kernel
theorem dX6_way_142 : decode cX6_way 142 = .ok (.iload 4, 2) := by decide +kernel
theorem dX6_way_144 : decode cX6_way 144 = .ok (.ireturn, 1) := by decide +kernel
set_option maxRecDepth 20000 in
theorem ggX6_opens_X6_fields : GoodIn wsX6_opens wsX6_fields := goodIn_r _ [9, 10, 11, 12, 13, 14, 15, 16, 17, 18, 19, 20, 21, 22, 23, 24, 25, 26, 27, 28] (by decide +kernel) (by decide +kernel)
set_option maxRecDepth 20000 in
theorem gX6_opens_X6_fields : GoodIn wsX6_opens (wsV RX6 56 RX6 yX6_fields wsX6_fields) := goodIn_app (goodIn_of _ (by decide +kernel)) ggX6_opens_X6_fields
theorem dX6_opens_0 : decode cX6_opens 0 = .ok (.aload_n 0, 1) := by decide +kernel
theorem dX6_opens_1 : decode cX6_opens 1 = .ok (.iconst 0, 1) := by decide +kernel
theorem dX6_opens_2 : decode cX6_opens 2 = .ok (.putfield 130, 3) := by decide +kernel
theorem dX6_opens_5 : decode cX6_opens 5 = .ok (.iconst 0, 1) := by decide +kernel
theorem dX6_opens_6 : decode cX6_opens 6 = .ok (.istore_n 1, 1) := by decide +kernel
theorem dX6_opens_7 : decode cX6_opens 7 = .ok (.iconst 0, 1) := by decide +kernel
theorem dX6_opens_8 : decode cX6_opens 8 = .ok (.istore_n 2, 1) := by decide +kernel
theorem dX6_opens_9 : decode cX6_opens 9 = .ok (.iload_n 2, 1) := by decide +kernel
theorem dX6_opens_10 : decode cX6_opens 10 = .ok (.aload_n 0, 1) := by decide +kernel
theorem dX6_opens_11 : decode cX6_opens 11 = .ok (.invokevirtual 56, 3) := by decide +kernel
theorem dX6_opens_14 : decode cX6_opens 14 = .ok (.if_icmp .ge 37, 3) := by decide +kernel
theorem dX6_opens_17 : decode cX6_opens 17 = .ok (.aload_n 0, 1) := by decide +kernel
theorem dX6_opens_18 : decode cX6_opens 18 = .ok (.getfield 19, 3) := by decide +kernel
theorem dX6_opens_21 : decode cX6_opens 21 = .ok (.iload_n 2, 1) := by decide +kernel
theorem dX6_opens_22 : decode cX6_opens 22 = .ok (.iaload, 1) := by decide +kernel
theorem dX6_opens_23 : decode cX6_opens 23 = .ok (.ifCond .eq 6, 3) := by decide +kernel
theorem dX6_opens_26 : decode cX6_opens 26 = .ok (.goto 19, 3) := by decide +kernel
theorem dX6_opens_29 : decode cX6_opens 29 = .ok (.iload_n 1, 1) := by decide +kernel
theorem dX6_opens_30 : decode cX6_opens 30 = .ok (.bipush 10, 2) := by decide +kernel
theorem dX6_opens_32 : decode cX6_opens 32 = .ok (.if_icmp .ge 10, 3) := by decide +kernel
theorem dX6_opens_35 : decode cX6_opens 35 = .ok (.aload_n 0, 1) := by decide +kernel
theorem dX6_opens_36 : decode cX6_opens 36 = .ok (.getfield 40, 3) := by decide +kernel
theorem dX6_opens_39 : decode cX6_opens 39 = .ok (.iload_n 1, 1) := by decide +kernel
theorem dX6_opens_40 : decode cX6_opens 40 = .ok (.iload_n 2, 1) := by decide +kernel
theorem dX6_opens_41 : decode cX6_opens 41 = .ok (.iastore, 1) := by decide +kernel
theorem dX6_opens_42 : decode cX6_opens 42 = .ok (.iinc 1 1, 3) := by decide +kernel
theorem dX6_opens_45 : decode cX6_opens 45 = .ok (.iinc 2 1, 3) := by decide +kernel
theorem dX6_opens_48 : decode cX6_opens 48 = .ok (.goto (-39), 3) := by decide +kernel
theorem dX6_opens_51 : decode cX6_opens 51 = .ok (.aload_n 0, 1) := by decide +kernel
theorem dX6_opens_52 : decode cX6_opens 52 = .ok (.iload_n 1, 1) := by decide +kernel
theorem dX6_opens_53 : decode cX6_opens 53 = .ok (.putfield 130, 3) := by decide +kernel
theorem dX6_opens_56 : decode cX6_opens 56 = .ok (.aload_n 0, 1) := by decide +kernel
theorem dX6_opens_57 : decode cX6_opens 57 = .ok (.getfield 43, 3) := by decide +kernel
theorem dX6_opens_60 : decode cX6_opens 60 = .ok (.iconst 0, 1) := by decide +kernel
theorem dX6_opens_61 : decode cX6_opens 61 = .ok (.iconst 1, 1) := by decide +kernel
theorem dX6_opens_62 : decode cX6_opens 62 = .ok (.iastore, 1) := by decide +kernel
theorem dX6_opens_63 : decode cX6_opens 63 = .ok (.iconst 1, 1) := by decide +kernel
theorem dX6_opens_64 : decode cX6_opens 64 = .ok (.istore_n 2, 1) := by decide +kernel
theorem dX6_opens_65 : decode cX6_opens 65 = .ok (.iload_n 2, 1) := by decide +kernel
theorem dX6_opens_66 : decode cX6_opens 66 = .ok (.bipush 10, 2) := by decide +kernel
theorem dX6_opens_68 : decode cX6_opens 68 = .ok (.if_icmp .gt 25, 3) := by decide +kernel
theorem dX6_opens_71 : decode cX6_opens 71 = .ok (.aload_n 0, 1) := by decide +kernel
theorem dX6_opens_72 : decode cX6_opens 72 = .ok (.getfield 43, 3) := by decide +kernel
theorem dX6_opens_75 : decode cX6_opens 75 = .ok (.iload_n 2, 1) := by decide +kernel
theorem dX6_opens_76 : decode cX6_opens 76 = .ok (.iconst 3, 1) := by decide +kernel
theorem dX6_opens_77 : decode cX6_opens 77 = .ok (.aload_n 0, 1) := by decide +kernel
theorem dX6_opens_78 : decode cX6_opens 78 = .ok (.getfield 43, 3) := by decide +kernel
theorem dX6_opens_81 : decode cX6_opens 81 = .ok (.iload_n 2, 1) := by decide +kernel
theorem dX6_opens_82 : decode cX6_opens 82 = .ok (.iconst 1, 1) := by decide +kernel
theorem dX6_opens_83 : decode cX6_opens 83 = .ok (.isub, 1) := by decide +kernel
theorem dX6_opens_84 : decode cX6_opens 84 = .ok (.iaload, 1) := by decide +kernel
theorem dX6_opens_85 : decode cX6_opens 85 = .ok (.imul, 1) := by decide +kernel
theorem dX6_opens_86 : decode cX6_opens 86 = .ok (.iastore, 1) := by decide +kernel
theorem dX6_opens_87 : decode cX6_opens 87 = .ok (.iinc 2 1, 3) := by decide +kernel
theorem dX6_opens_90 : decode cX6_opens 90 = .ok (.goto (-25), 3) := by decide +kernel
theorem dX6_opens_93 : decode cX6_opens 93 = .ok (.iload_n 1, 1) := by decide +kernel
theorem dX6_opens_94 : decode cX6_opens 94 = .ok (.bipush 10, 2) := by decide +kernel
theorem dX6_opens_96 : decode cX6_opens 96 = .ok (.if_icmp .gt 7, 3) := by decide +kernel
theorem dX6_opens_99 : decode cX6_opens 99 = .ok (.iconst 1, 1) := by decide +kernel
theorem dX6_opens_100 : decode cX6_opens 100 = .ok (.goto 4, 3) := by decide +kernel
theorem dX6_opens_103 : decode cX6_opens 103 = .ok (.iconst 0, 1) := by decide +kernel
theorem dX6_opens_104 : decode cX6_opens 104 = .ok (.ireturn, 1) := by decide +kernel
theorem dX6_fills_0 : decode cX6_fills 0 = .ok (.iconst 0, 1) := by decide +kernel
theorem dX6_fills_1 : decode cX6_fills 1 = .ok (.istore_n 2, 1) := by decide +kernel
theorem dX6_fills_2 : decode cX6_fills 2 = .ok (.iload_n 2, 1) := by decide +kernel
theorem dX6_fills_3 : decode cX6_fills 3 = .ok (.aload_n 0, 1) := by decide +kernel
theorem dX6_fills_4 : decode cX6_fills 4 = .ok (.getfield 130, 3) := by decide +kernel
theorem dX6_fills_7 : decode cX6_fills 7 = .ok (.if_icmp .ge 30, 3) := by decide +kernel
theorem dX6_fills_10 : decode cX6_fills 10 = .ok (.aload_n 0, 1) := by decide +kernel
theorem dX6_fills_11 : decode cX6_fills 11 = .ok (.getfield 19, 3) := by decide +kernel
theorem dX6_fills_14 : decode cX6_fills 14 = .ok (.aload_n 0, 1) := by decide +kernel
theorem dX6_fills_15 : decode cX6_fills 15 = .ok (.getfield 40, 3) := by decide +kernel
theorem dX6_fills_18 : decode cX6_fills 18 = .ok (.iload_n 2, 1) := by decide +kernel
theorem dX6_fills_19 : decode cX6_fills 19 = .ok (.iaload, 1) := by decide +kernel
theorem dX6_fills_20 : decode cX6_fills 20 = .ok (.iload_n 1, 1) := by decide +kernel
theorem dX6_fills_21 : decode cX6_fills 21 = .ok (.aload_n 0, 1) := by decide +kernel
theorem dX6_fills_22 : decode cX6_fills 22 = .ok (.getfield 43, 3) := by decide +kernel
theorem dX6_fills_25 : decode cX6_fills 25 = .ok (.iload_n 2, 1) := by decide +kernel
theorem dX6_fills_26 : decode cX6_fills 26 = .ok (.iaload, 1) := by decide +kernel
theorem dX6_fills_27 : decode cX6_fills 27 = .ok (.idiv, 1) := by decide +kernel
theorem dX6_fills_28 : decode cX6_fills 28 = .ok (.iconst 3, 1) := by decide +kernel
theorem dX6_fills_29 : decode cX6_fills 29 = .ok (.irem, 1) := by decide +kernel
theorem dX6_fills_30 : decode cX6_fills 30 = .ok (.iastore, 1) := by decide +kernel
theorem dX6_fills_31 : decode cX6_fills 31 = .ok (.iinc 2 1, 3) := by decide +kernel
theorem dX6_fills_34 : decode cX6_fills 34 = .ok (.goto (-32), 3) := by decide +kernel
theorem dX6_fills_37 : decode cX6_fills 37 = .ok (.return_, 1) := by decide +kernel
set_option maxRecDepth 20000 in
theorem ggX6_hang_X6_groupOf : GoodIn wsX6_hang wsX6_groupOf := goodIn_r _ [7, 2, 1, 8, 9, 10, 6, 11, 12, 13, 14, 15, 16, 17, 18, 19, 20, 21, 22, 23, 24, 25, 26, 27, 28, 29, 30, 31, 32, 33, 34, 35, 36, 37, 38, 39, 40, 41, 42, 43, 44, 45] (by decide +kernel) (by decide +kernel)
set_option maxRecDepth 20000 in
theorem gX6_hang_X6_groupOf : GoodIn wsX6_hang (wsV RX6 115 RX6 yX6_groupOf wsX6_groupOf) := goodIn_app (goodIn_of _ (by decide +kernel)) ggX6_hang_X6_groupOf
theorem dX6_hang_0 : decode cX6_hang 0 = .ok (.aload_n 0, 1) := by decide +kernel
theorem dX6_hang_1 : decode cX6_hang 1 = .ok (.getfield 19, 3) := by decide +kernel
theorem dX6_hang_4 : decode cX6_hang 4 = .ok (.iload_n 2, 1) := by decide +kernel
theorem dX6_hang_5 : decode cX6_hang 5 = .ok (.iaload, 1) := by decide +kernel
theorem dX6_hang_6 : decode cX6_hang 6 = .ok (.iload_n 1, 1) := by decide +kernel
theorem dX6_hang_7 : decode cX6_hang 7 = .ok (.if_icmp .ne 13, 3) := by decide +kernel
theorem dX6_hang_10 : decode cX6_hang 10 = .ok (.aload_n 0, 1) := by decide +kernel
theorem dX6_hang_11 : decode cX6_hang 11 = .ok (.getfield 19, 3) := by decide +kernel
theorem dX6_hang_14 : decode cX6_hang 14 = .ok (.iload_n 3, 1) := by decide +kernel
theorem dX6_hang_15 : decode cX6_hang 15 = .ok (.iaload, 1) := by decide +kernel
theorem dX6_hang_16 : decode cX6_hang 16 = .ok (.iload_n 1, 1) := by decide +kernel
theorem dX6_hang_17 : decode cX6_hang 17 = .ok (.if_icmp .eq 5, 3) := by decide +kernel
theorem dX6_hang_20 : decode cX6_hang 20 = .ok (.iconst 0, 1) := by decide +kernel
theorem dX6_hang_21 : decode cX6_hang 21 = .ok (.ireturn, 1) := by decide +kernel
theorem dX6_hang_22 : decode cX6_hang 22 = .ok (.aload_n 0, 1) := by decide +kernel
theorem dX6_hang_23 : decode cX6_hang 23 = .ok (.iload_n 2, 1) := by decide +kernel
theorem dX6_hang_24 : decode cX6_hang 24 = .ok (.invokevirtual 115, 3) := by decide +kernel
theorem dX6_hang_27 : decode cX6_hang 27 = .ok (.aload_n 0, 1) := by decide +kernel
theorem dX6_hang_28 : decode cX6_hang 28 = .ok (.getfield 30, 3) := by decide +kernel
theorem dX6_hang_31 : decode cX6_hang 31 = .ok (.iload_n 3, 1) := by decide +kernel
theorem dX6_hang_32 : decode cX6_hang 32 = .ok (.baload, 1) := by decide +kernel
theorem dX6_hang_33 : decode cX6_hang 33 = .ok (.ireturn, 1) := by decide +kernel
set_option maxRecDepth 20000 in
theorem ggX6_works_X6_fills : GoodIn wsX6_works wsX6_fills := goodIn_r _ [9, 2, 10, 11, 1, 56, 57, 58, 59, 60, 61, 62, 63, 64, 65, 66, 67, 68, 69, 70, 71, 72] (by decide +kernel) (by decide +kernel)
set_option maxRecDepth 20000 in
theorem gX6_works_X6_fills : GoodIn wsX6_works (wsV RX6 133 RX6 yX6_fills wsX6_fills) := goodIn_app (goodIn_of _ (by decide +kernel)) ggX6_works_X6_fills
set_option maxRecDepth 20000 in
theorem ggX6_works_X6_joins : GoodIn wsX6_works wsX6_joins := goodIn_r _ [15, 16, 10, 17, 18, 19, 8, 20, 21, 22, 23, 24, 25, 26, 27, 28, 29, 30, 31, 32, 33, 34, 35, 36, 37, 38, 39, 40, 41, 42, 43, 56, 57, 58, 59, 60, 61, 62, 63, 64, 65, 66, 67, 68, 69, 70, 71, 72] (by decide +kernel) (by decide +kernel)
set_option maxRecDepth 20000 in
theorem gX6_works_X6_joins : GoodIn wsX6_works (wsV RX6 95 RX6 yX6_joins wsX6_joins) := goodIn_app (goodIn_of _ (by decide +kernel)) ggX6_works_X6_joins
set_option maxRecDepth 20000 in
theorem ggX6_works_X6_hang : GoodIn wsX6_works wsX6_hang := goodIn_r _ [47, 10, 16, 48, 49, 50, 8, 51, 52, 53, 54, 55, 30, 31, 32, 33, 17, 18, 19, 20, 21, 22, 34, 35, 36, 37, 38, 39, 40, 56, 57, 58, 59, 60, 61, 62, 63, 64, 65, 66, 67, 68, 69, 70, 71, 72] (by decide +kernel) (by decide +kernel)
set_option maxRecDepth 20000 in
theorem gX6_works_X6_hang : GoodIn wsX6_works (wsV RX6 136 RX6 yX6_hang wsX6_hang) := goodIn_app (goodIn_of _ (by decide +kernel)) ggX6_works_X6_hang
theorem dX6_works_0 : decode cX6_works 0 = .ok (.aload_n 0, 1) := by decide +kernel
theorem dX6_works_1 : decode cX6_works 1 = .ok (.getfield 43, 3) := by decide +kernel
theorem dX6_works_4 : decode cX6_works 4 = .ok (.aload_n 0, 1) := by decide +kernel
theorem dX6_works_5 : decode cX6_works 5 = .ok (.getfield 130, 3) := by decide +kernel
theorem dX6_works_8 : decode cX6_works 8 = .ok (.iaload, 1) := by decide +kernel
theorem dX6_works_9 : decode cX6_works 9 = .ok (.iconst 1, 1) := by decide +kernel
theorem dX6_works_10 : decode cX6_works 10 = .ok (.isub, 1) := by decide +kernel
theorem dX6_works_11 : decode cX6_works 11 = .ok (.istore 4, 2) := by decide +kernel
theorem dX6_works_13 : decode cX6_works 13 = .ok (.iload 4, 2) := by decide +kernel
theorem dX6_works_15 : decode cX6_works 15 = .ok (.ifCond .lt 301, 3) := by decide +kernel
theorem dX6_works_18 : decode cX6_works 18 = .ok (.iconst 1, 1) := by decide +kernel
theorem dX6_works_19 : decode cX6_works 19 = .ok (.istore 5, 2) := by decide +kernel
theorem dX6_works_21 : decode cX6_works 21 = .ok (.iconst 0, 1) := by decide +kernel
theorem dX6_works_22 : decode cX6_works 22 = .ok (.istore 6, 2) := by decide +kernel
theorem dX6_works_24 : decode cX6_works 24 = .ok (.iload 6, 2) := by decide +kernel
theorem dX6_works_26 : decode cX6_works 26 = .ok (.aload_n 0, 1) := by decide +kernel
theorem dX6_works_27 : decode cX6_works 27 = .ok (.getfield 130, 3) := by decide +kernel
theorem dX6_works_30 : decode cX6_works 30 = .ok (.if_icmp .ge 36, 3) := by decide +kernel
theorem dX6_works_33 : decode cX6_works 33 = .ok (.iload 5, 2) := by decide +kernel
theorem dX6_works_35 : decode cX6_works 35 = .ok (.ifCond .eq 22, 3) := by decide +kernel
theorem dX6_works_38 : decode cX6_works 38 = .ok (.iload 4, 2) := by decide +kernel
theorem dX6_works_40 : decode cX6_works 40 = .ok (.aload_n 0, 1) := by decide +kernel
theorem dX6_works_41 : decode cX6_works 41 = .ok (.getfield 43, 3) := by decide +kernel
theorem dX6_works_44 : decode cX6_works 44 = .ok (.iload 6, 2) := by decide +kernel
theorem dX6_works_46 : decode cX6_works 46 = .ok (.iaload, 1) := by decide +kernel
theorem dX6_works_47 : decode cX6_works 47 = .ok (.idiv, 1) := by decide +kernel
theorem dX6_works_48 : decode cX6_works 48 = .ok (.iconst 3, 1) := by decide +kernel
theorem dX6_works_49 : decode cX6_works 49 = .ok (.irem, 1) := by decide +kernel
theorem dX6_works_50 : decode cX6_works 50 = .ok (.ifCond .eq 7, 3) := by decide +kernel
theorem dX6_works_53 : decode cX6_works 53 = .ok (.iconst 1, 1) := by decide +kernel
theorem dX6_works_54 : decode cX6_works 54 = .ok (.goto 4, 3) := by decide +kernel
theorem dX6_works_57 : decode cX6_works 57 = .ok (.iconst 0, 1) := by decide +kernel
theorem dX6_works_58 : decode cX6_works 58 = .ok (.istore 5, 2) := by decide +kernel
theorem dX6_works_60 : decode cX6_works 60 = .ok (.iinc 6 1, 3) := by decide +kernel
theorem dX6_works_63 : decode cX6_works 63 = .ok (.goto (-39), 3) := by decide +kernel
theorem dX6_works_66 : decode cX6_works 66 = .ok (.iload 5, 2) := by decide +kernel
theorem dX6_works_68 : decode cX6_works 68 = .ok (.ifCond .eq 52, 3) := by decide +kernel
theorem dX6_works_71 : decode cX6_works 71 = .ok (.aload_n 0, 1) := by decide +kernel
theorem dX6_works_72 : decode cX6_works 72 = .ok (.iload 4, 2) := by decide +kernel
theorem dX6_works_74 : decode cX6_works 74 = .ok (.invokevirtual 133, 3) := by decide +kernel
theorem dX6_works_77 : decode cX6_works 77 = .ok (.iload_n 2, 1) := by decide +kernel
theorem dX6_works_78 : decode cX6_works 78 = .ok (.iconst (-1), 1) := by decide +kernel
theorem dX6_works_79 : decode cX6_works 79 = .ok (.if_icmp .ne 11, 3) := by decide +kernel
theorem dX6_works_82 : decode cX6_works 82 = .ok (.aload_n 0, 1) := by decide +kernel
theorem dX6_works_83 : decode cX6_works 83 = .ok (.iload_n 1, 1) := by decide +kernel
theorem dX6_works_84 : decode cX6_works 84 = .ok (.invokevirtual 95, 3) := by decide +kernel
theorem dX6_works_87 : decode cX6_works 87 = .ok (.goto 10, 3) := by decide +kernel
theorem dX6_works_90 : decode cX6_works 90 = .ok (.aload_n 0, 1) := by decide +kernel
theorem dX6_works_91 : decode cX6_works 91 = .ok (.iload_n 1, 1) := by decide +kernel
theorem dX6_works_92 : decode cX6_works 92 = .ok (.iload_n 2, 1) := by decide +kernel
theorem dX6_works_93 : decode cX6_works 93 = .ok (.iload_n 3, 1) := by decide +kernel
theorem dX6_works_94 : decode cX6_works 94 = .ok (.invokevirtual 136, 3) := by decide +kernel
theorem dX6_works_97 : decode cX6_works 97 = .ok (.istore 6, 2) := by decide +kernel
theorem dX6_works_99 : decode cX6_works 99 = .ok (.aload_n 0, 1) := by decide +kernel
theorem dX6_works_100 : decode cX6_works 100 = .ok (.getfield 47, 3) := by decide +kernel
theorem dX6_works_103 : decode cX6_works 103 = .ok (.iload 4, 2) := by decide +kernel
theorem dX6_works_105 : decode cX6_works 105 = .ok (.iload 6, 2) := by decide +kernel
theorem dX6_works_107 : decode cX6_works 107 = .ok (.bastore, 1) := by decide +kernel
theorem dX6_works_108 : decode cX6_works 108 = .ok (.aload_n 0, 1) := by decide +kernel
theorem dX6_works_109 : decode cX6_works 109 = .ok (.getfield 50, 3) := by decide +kernel
theorem dX6_works_112 : decode cX6_works 112 = .ok (.iload 4, 2) := by decide +kernel
theorem dX6_works_114 : decode cX6_works 114 = .ok (.iload 6, 2) := by decide +kernel
theorem dX6_works_116 : decode cX6_works 116 = .ok (.bastore, 1) := by decide +kernel
theorem dX6_works_117 : decode cX6_works 117 = .ok (.goto 193, 3) := by decide +kernel
theorem dX6_works_120 : decode cX6_works 120 = .ok (.iconst 0, 1) := by decide +kernel
theorem dX6_works_121 : decode cX6_works 121 = .ok (.istore 6, 2) := by decide +kernel
theorem dX6_works_123 : decode cX6_works 123 = .ok (.iconst 1, 1) := by decide +kernel
theorem dX6_works_124 : decode cX6_works 124 = .ok (.istore 7, 2) := by decide +kernel
theorem dX6_works_126 : decode cX6_works 126 = .ok (.iconst 0, 1) := by decide +kernel
theorem dX6_works_127 : decode cX6_works 127 = .ok (.istore 8, 2) := by decide +kernel
theorem dX6_works_129 : decode cX6_works 129 = .ok (.iload 8, 2) := by decide +kernel
theorem dX6_works_131 : decode cX6_works 131 = .ok (.aload_n 0, 1) := by decide +kernel
theorem dX6_works_132 : decode cX6_works 132 = .ok (.getfield 130, 3) := by decide +kernel
theorem dX6_works_135 : decode cX6_works 135 = .ok (.if_icmp .ge 137, 3) := by decide +kernel
theorem dX6_works_138 : decode cX6_works 138 = .ok (.iload 4, 2) := by decide +kernel
theorem dX6_works_140 : decode cX6_works 140 = .ok (.aload_n 0, 1) := by decide +kernel
theorem dX6_works_141 : decode cX6_works 141 = .ok (.getfield 43, 3) := by decide +kernel
theorem dX6_works_144 : decode cX6_works 144 = .ok (.iload 8, 2) := by decide +kernel
theorem dX6_works_146 : decode cX6_works 146 = .ok (.iaload, 1) := by decide +kernel
theorem dX6_works_147 : decode cX6_works 147 = .ok (.idiv, 1) := by decide +kernel
theorem dX6_works_148 : decode cX6_works 148 = .ok (.iconst 3, 1) := by decide +kernel
theorem dX6_works_149 : decode cX6_works 149 = .ok (.irem, 1) := by decide +kernel
theorem dX6_works_150 : decode cX6_works 150 = .ok (.ifCond .eq 6, 3) := by decide +kernel
theorem dX6_works_153 : decode cX6_works 153 = .ok (.goto 113, 3) := by decide +kernel
theorem dX6_works_156 : decode cX6_works 156 = .ok (.iload 4, 2) := by decide +kernel
theorem dX6_works_158 : decode cX6_works 158 = .ok (.iload_n 1, 1) := by decide +kernel
theorem dX6_works_159 : decode cX6_works 159 = .ok (.aload_n 0, 1) := by decide +kernel
theorem dX6_works_160 : decode cX6_works 160 = .ok (.getfield 43, 3) := by decide +kernel
theorem dX6_works_163 : decode cX6_works 163 = .ok (.iload 8, 2) := by decide +kernel
theorem dX6_works_165 : decode cX6_works 165 = .ok (.iaload, 1) := by decide +kernel
theorem dX6_works_166 : decode cX6_works 166 = .ok (.imul, 1) := by decide +kernel
theorem dX6_works_167 : decode cX6_works 167 = .ok (.iadd, 1) := by decide +kernel
theorem dX6_works_168 : decode cX6_works 168 = .ok (.istore 9, 2) := by decide +kernel
theorem dX6_works_170 : decode cX6_works 170 = .ok (.iload 4, 2) := by decide +kernel
theorem dX6_works_172 : decode cX6_works 172 = .ok (.iconst 3, 1) := by decide +kernel
theorem dX6_works_173 : decode cX6_works 173 = .ok (.iload_n 1, 1) := by decide +kernel
theorem dX6_works_174 : decode cX6_works 174 = .ok (.isub, 1) := by decide +kernel
theorem dX6_works_175 : decode cX6_works 175 = .ok (.aload_n 0, 1) := by decide +kernel
theorem dX6_works_176 : decode cX6_works 176 = .ok (.getfield 43, 3) := by decide +kernel
theorem dX6_works_179 : decode cX6_works 179 = .ok (.iload 8, 2) := by decide +kernel
theorem dX6_works_181 : decode cX6_works 181 = .ok (.iaload, 1) := by decide +kernel
theorem dX6_works_182 : decode cX6_works 182 = .ok (.imul, 1) := by decide +kernel
theorem dX6_works_183 : decode cX6_works 183 = .ok (.iadd, 1) := by decide +kernel
theorem dX6_works_184 : decode cX6_works 184 = .ok (.istore 10, 2) := by decide +kernel
theorem dX6_works_186 : decode cX6_works 186 = .ok (.iload 6, 2) := by decide +kernel
theorem dX6_works_188 : decode cX6_works 188 = .ok (.ifCond .ne 31, 3) := by decide +kernel
theorem dX6_works_191 : decode cX6_works 191 = .ok (.iload_n 1, 1) := by decide +kernel
theorem dX6_works_192 : decode cX6_works 192 = .ok (.iconst 1, 1) := by decide +kernel
theorem dX6_works_193 : decode cX6_works 193 = .ok (.if_icmp .ne 16, 3) := by decide +kernel
theorem dX6_works_196 : decode cX6_works 196 = .ok (.aload_n 0, 1) := by decide +kernel
theorem dX6_works_197 : decode cX6_works 197 = .ok (.getfield 50, 3) := by decide +kernel
theorem dX6_works_200 : decode cX6_works 200 = .ok (.iload 9, 2) := by decide +kernel
theorem dX6_works_202 : decode cX6_works 202 = .ok (.baload, 1) := by decide +kernel
theorem dX6_works_203 : decode cX6_works 203 = .ok (.ifCond .eq 20, 3) := by decide +kernel
theorem dX6_works_206 : decode cX6_works 206 = .ok (.goto 13, 3) := by decide +kernel
theorem dX6_works_209 : decode cX6_works 209 = .ok (.aload_n 0, 1) := by decide +kernel
theorem dX6_works_210 : decode cX6_works 210 = .ok (.getfield 47, 3) := by decide +kernel
theorem dX6_works_213 : decode cX6_works 213 = .ok (.iload 9, 2) := by decide +kernel
theorem dX6_works_215 : decode cX6_works 215 = .ok (.baload, 1) := by decide +kernel
theorem dX6_works_216 : decode cX6_works 216 = .ok (.ifCond .eq 7, 3) := by decide +kernel
theorem dX6_works_219 : decode cX6_works 219 = .ok (.iconst 1, 1) := by decide +kernel
theorem dX6_works_220 : decode cX6_works 220 = .ok (.goto 4, 3) := by decide +kernel
theorem dX6_works_223 : decode cX6_works 223 = .ok (.iconst 0, 1) := by decide +kernel
theorem dX6_works_224 : decode cX6_works 224 = .ok (.istore 6, 2) := by decide +kernel
theorem dX6_works_226 : decode cX6_works 226 = .ok (.iload 7, 2) := by decide +kernel
theorem dX6_works_228 : decode cX6_works 228 = .ok (.ifCond .eq 35, 3) := by decide +kernel
theorem dX6_works_231 : decode cX6_works 231 = .ok (.iload_n 1, 1) := by decide +kernel
theorem dX6_works_232 : decode cX6_works 232 = .ok (.iconst 1, 1) := by decide +kernel
theorem dX6_works_233 : decode cX6_works 233 = .ok (.if_icmp .ne 16, 3) := by decide +kernel
theorem dX6_works_236 : decode cX6_works 236 = .ok (.aload_n 0, 1) := by decide +kernel
theorem dX6_works_237 : decode cX6_works 237 = .ok (.getfield 47, 3) := by decide +kernel
theorem dX6_works_240 : decode cX6_works 240 = .ok (.iload 10, 2) := by decide +kernel
theorem dX6_works_242 : decode cX6_works 242 = .ok (.baload, 1) := by decide +kernel
theorem dX6_works_243 : decode cX6_works 243 = .ok (.ifCond .eq 20, 3) := by decide +kernel
theorem dX6_works_246 : decode cX6_works 246 = .ok (.goto 13, 3) := by decide +kernel
theorem dX6_works_249 : decode cX6_works 249 = .ok (.aload_n 0, 1) := by decide +kernel
theorem dX6_works_250 : decode cX6_works 250 = .ok (.getfield 50, 3) := by decide +kernel
theorem dX6_works_253 : decode cX6_works 253 = .ok (.iload 10, 2) := by decide +kernel
theorem dX6_works_255 : decode cX6_works 255 = .ok (.baload, 1) := by decide +kernel
theorem dX6_works_256 : decode cX6_works 256 = .ok (.ifCond .eq 7, 3) := by decide +kernel
theorem dX6_works_259 : decode cX6_works 259 = .ok (.iconst 1, 1) := by decide +kernel
theorem dX6_works_260 : decode cX6_works 260 = .ok (.goto 4, 3) := by decide +kernel
theorem dX6_works_263 : decode cX6_works 263 = .ok (.iconst 0, 1) := by decide +kernel
theorem dX6_works_264 : decode cX6_works 264 = .ok (.istore 7, 2) := by decide +kernel
theorem dX6_works_266 : decode cX6_works 266 = .ok (.iinc 8 1, 3) := by decide +kernel
theorem dX6_works_269 : decode cX6_works 269 = .ok (.goto (-140), 3) := by decide +kernel
theorem dX6_works_272 : decode cX6_works 272 = .ok (.aload_n 0, 1) := by decide +kernel
theorem dX6_works_273 : decode cX6_works 273 = .ok (.getfield 47, 3) := by decide +kernel
theorem dX6_works_276 : decode cX6_works 276 = .ok (.iload 4, 2) := by decide +kernel
theorem dX6_works_278 : decode cX6_works 278 = .ok (.iload_n 1, 1) := by decide +kernel
theorem dX6_works_279 : decode cX6_works 279 = .ok (.iconst 1, 1) := by decide +kernel
theorem dX6_works_280 : decode cX6_works 280 = .ok (.if_icmp .ne 8, 3) := by decide +kernel
theorem dX6_works_283 : decode cX6_works 283 = .ok (.iload 6, 2) := by decide +kernel
theorem dX6_works_285 : decode cX6_works 285 = .ok (.goto 5, 3) := by decide +kernel
theorem dX6_works_288 : decode cX6_works 288 = .ok (.iload 7, 2) := by decide +kernel
theorem dX6_works_290 : decode cX6_works 290 = .ok (.bastore, 1) := by decide +kernel
theorem dX6_works_291 : decode cX6_works 291 = .ok (.aload_n 0, 1) := by decide +kernel
theorem dX6_works_292 : decode cX6_works 292 = .ok (.getfield 50, 3) := by decide +kernel
theorem dX6_works_295 : decode cX6_works 295 = .ok (.iload 4, 2) := by decide +kernel
theorem dX6_works_297 : decode cX6_works 297 = .ok (.iload_n 1, 1) := by decide +kernel
theorem dX6_works_298 : decode cX6_works 298 = .ok (.iconst 1, 1) := by decide +kernel
theorem dX6_works_299 : decode cX6_works 299 = .ok (.if_icmp .ne 8, 3) := by decide +kernel
theorem dX6_works_302 : decode cX6_works 302 = .ok (.iload 7, 2) := by decide +kernel
theorem dX6_works_304 : decode cX6_works 304 = .ok (.goto 5, 3) := by decide +kernel
theorem dX6_works_307 : decode cX6_works 307 = .ok (.iload 6, 2) := by decide +kernel
theorem dX6_works_309 : decode cX6_works 309 = .ok (.bastore, 1) := by decide +kernel
theorem dX6_works_310 : decode cX6_works 310 = .ok (.iinc 4 (-1), 3) := by decide +kernel
theorem dX6_works_313 : decode cX6_works 313 = .ok (.goto (-300), 3) := by decide +kernel
theorem dX6_works_316 : decode cX6_works 316 = .ok (.aload_n 0, 1) := by decide +kernel
theorem dX6_works_317 : decode cX6_works 317 = .ok (.iconst 0, 1) := by decide +kernel
theorem dX6_works_318 : decode cX6_works 318 = .ok (.invokevirtual 133, 3) := by decide +kernel
theorem dX6_works_321 : decode cX6_works 321 = .ok (.return_, 1) := by decide +kernel
theorem dX6_gets_0 : decode cX6_gets 0 = .ok (.iload_n 2, 1) := by decide +kernel
theorem dX6_gets_1 : decode cX6_gets 1 = .ok (.iconst 1, 1) := by decide +kernel
theorem dX6_gets_2 : decode cX6_gets 2 = .ok (.if_icmp .ne 12, 3) := by decide +kernel
theorem dX6_gets_5 : decode cX6_gets 5 = .ok (.aload_n 0, 1) := by decide +kernel
theorem dX6_gets_6 : decode cX6_gets 6 = .ok (.getfield 47, 3) := by decide +kernel
theorem dX6_gets_9 : decode cX6_gets 9 = .ok (.iload_n 1, 1) := by decide +kernel
theorem dX6_gets_10 : decode cX6_gets 10 = .ok (.baload, 1) := by decide +kernel
theorem dX6_gets_11 : decode cX6_gets 11 = .ok (.goto 9, 3) := by decide +kernel
theorem dX6_gets_14 : decode cX6_gets 14 = .ok (.aload_n 0, 1) := by decide +kernel
theorem dX6_gets_15 : decode cX6_gets 15 = .ok (.getfield 50, 3) := by decide +kernel
theorem dX6_gets_18 : decode cX6_gets 18 = .ok (.iload_n 1, 1) := by decide +kernel
theorem dX6_gets_19 : decode cX6_gets 19 = .ok (.baload, 1) := by decide +kernel
theorem dX6_gets_20 : decode cX6_gets 20 = .ok (.ireturn, 1) := by decide +kernel
set_option maxRecDepth 20000 in
theorem ggX6_winner_X6_lies : GoodIn wsX6_winner wsX6_lies := goodIn_r _ [4] (by decide +kernel) (by decide +kernel)
set_option maxRecDepth 20000 in
theorem gX6_winner_X6_lies : GoodIn wsX6_winner (va_wsS RX6 60 yX6_lies wsX6_lies) := goodIn_app (goodIn_of _ (by decide +kernel)) ggX6_winner_X6_lies
set_option maxRecDepth 20000 in
theorem ggX6_winner_X6_opens : GoodIn wsX6_winner wsX6_opens := goodIn_r _ [8, 9, 10, 11, 12, 13, 14, 15, 3, 16, 17, 18, 68, 69, 70, 71, 72, 73, 74, 75, 76, 77, 78, 79, 80, 81, 82, 83, 84] (by decide +kernel) (by decide +kernel)
set_option maxRecDepth 20000 in
theorem gX6_winner_X6_opens : GoodIn wsX6_winner (wsV RX6 139 RX6 yX6_opens wsX6_opens) := goodIn_app (goodIn_of _ (by decide +kernel)) ggX6_winner_X6_opens
set_option maxRecDepth 20000 in
theorem ggX6_winner_X6_works : GoodIn wsX6_winner wsX6_works := goodIn_r _ [22, 12, 9, 23, 24, 25, 26, 27, 3, 28, 10, 11, 29, 30, 31, 32, 33, 13, 14, 15, 16, 17, 18, 34, 35, 36, 37, 38, 39, 40, 41, 42, 43, 44, 45, 46, 47, 48, 1, 2, 4, 49, 50, 51, 52, 53, 54, 55, 56, 57, 58, 59, 60, 61, 62, 63, 68, 69, 70, 71, 72, 73, 74, 75, 76, 77, 78, 79, 80, 81, 82, 83, 84] (by decide +kernel) (by decide +kernel)
set_option maxRecDepth 20000 in
theorem gX6_winner_X6_works : GoodIn wsX6_winner (wsV RX6 143 RX6 yX6_works wsX6_works) := goodIn_app (goodIn_of _ (by decide +kernel)) ggX6_winner_X6_works
set_option maxRecDepth 20000 in
theorem ggX6_winner_X6_gets : GoodIn wsX6_winner wsX6_gets := goodIn_r _ [67, 23, 24, 68, 69, 70, 71, 72, 73, 74, 75, 76, 77, 78, 79, 80, 81, 82, 83, 84] (by decide +kernel) (by decide +kernel)
set_option maxRecDepth 20000 in
theorem gX6_winner_X6_gets : GoodIn wsX6_winner (wsV RX6 147 RX6 yX6_gets wsX6_gets) := goodIn_app (goodIn_of _ (by decide +kernel)) ggX6_winner_X6_gets
theorem dX6_winner_0 : decode cX6_winner 0 = .ok (.iload_n 1, 1) := by decide +kernel
theorem dX6_winner_1 : decode cX6_winner 1 = .ok (.iconst 1, 1) := by decide +kernel
theorem dX6_winner_2 : decode cX6_winner 2 = .ok (.iconst 2, 1) := by decide +kernel
theorem dX6_winner_3 : decode cX6_winner 3 = .ok (.invokestatic 60, 3) := by decide +kernel
theorem dX6_winner_6 : decode cX6_winner 6 = .ok (.ifCond .eq 10, 3) := by decide +kernel
theorem dX6_winner_9 : decode cX6_winner 9 = .ok (.aload_n 0, 1) := by decide +kernel
theorem dX6_winner_10 : decode cX6_winner 10 = .ok (.invokevirtual 139, 3) := by decide +kernel
theorem dX6_winner_13 : decode cX6_winner 13 = .ok (.ifCond .ne 5, 3) := by decide +kernel
theorem dX6_winner_16 : decode cX6_winner 16 = .ok (.iconst (-1), 1) := by decide +kernel
theorem dX6_winner_17 : decode cX6_winner 17 = .ok (.ireturn, 1) := by decide +kernel
theorem dX6_winner_18 : decode cX6_winner 18 = .ok (.aload_n 0, 1) := by decide +kernel
theorem dX6_winner_19 : decode cX6_winner 19 = .ok (.iconst 1, 1) := by decide +kernel
theorem dX6_winner_20 : decode cX6_winner 20 = .ok (.iconst (-1), 1) := by decide +kernel
theorem dX6_winner_21 : decode cX6_winner 21 = .ok (.iconst (-1), 1) := by decide +kernel
theorem dX6_winner_22 : decode cX6_winner 22 = .ok (.invokevirtual 143, 3) := by decide +kernel
theorem dX6_winner_25 : decode cX6_winner 25 = .ok (.aload_n 0, 1) := by decide +kernel
theorem dX6_winner_26 : decode cX6_winner 26 = .ok (.iconst 0, 1) := by decide +kernel
theorem dX6_winner_27 : decode cX6_winner 27 = .ok (.iload_n 1, 1) := by decide +kernel
theorem dX6_winner_28 : decode cX6_winner 28 = .ok (.invokevirtual 147, 3) := by decide +kernel
theorem dX6_winner_31 : decode cX6_winner 31 = .ok (.ifCond .eq 7, 3) := by decide +kernel
theorem dX6_winner_34 : decode cX6_winner 34 = .ok (.iconst 1, 1) := by decide +kernel
theorem dX6_winner_35 : decode cX6_winner 35 = .ok (.goto 4, 3) := by decide +kernel
theorem dX6_winner_38 : decode cX6_winner 38 = .ok (.iconst 2, 1) := by decide +kernel
theorem dX6_winner_39 : decode cX6_winner 39 = .ok (.ireturn, 1) := by decide +kernel
set_option maxRecDepth 20000 in
theorem ggX6_first__X6_lies : GoodIn wsX6_first_ wsX6_lies := goodIn_r _ [7] (by decide +kernel) (by decide +kernel)
set_option maxRecDepth 20000 in
theorem gX6_first__X6_lies : GoodIn wsX6_first_ (va_wsS RX6 60 yX6_lies wsX6_lies) := goodIn_app (goodIn_of _ (by decide +kernel)) ggX6_first__X6_lies
set_option maxRecDepth 20000 in
theorem ggX6_first__X6_opens : GoodIn wsX6_first_ wsX6_opens := goodIn_r _ [11, 1, 12, 3, 2, 13, 14, 15, 6, 16, 17, 18, 68, 69, 70, 71, 72, 73, 74, 75, 76, 77, 78, 79, 80, 81, 82, 83, 84] (by decide +kernel) (by decide +kernel)
set_option maxRecDepth 20000 in
theorem gX6_first__X6_opens : GoodIn wsX6_first_ (wsV RX6 139 RX6 yX6_opens wsX6_opens) := goodIn_app (goodIn_of _ (by decide +kernel)) ggX6_first__X6_opens
set_option maxRecDepth 20000 in
theorem ggX6_first__X6_works : GoodIn wsX6_first_ wsX6_works := goodIn_r _ [22, 2, 1, 23, 24, 25, 26, 27, 6, 28, 12, 3, 29, 30, 31, 32, 33, 13, 14, 15, 16, 17, 18, 34, 35, 36, 37, 38, 39, 40, 41, 42, 43, 44, 45, 46, 47, 48, 4, 5, 7, 49, 50, 51, 52, 53, 54, 55, 56, 57, 58, 59, 60, 61, 62, 63, 68, 69, 70, 71, 72, 73, 74, 75, 76, 77, 78, 79, 80, 81, 82, 83, 84] (by decide +kernel) (by decide +kernel)
set_option maxRecDepth 20000 in
theorem gX6_first__X6_works : GoodIn wsX6_first_ (wsV RX6 143 RX6 yX6_works wsX6_works) := goodIn_app (goodIn_of _ (by decide +kernel)) ggX6_first__X6_works
set_option maxRecDepth 20000 in
theorem ggX6_first__X6_gets : GoodIn wsX6_first_ wsX6_gets := goodIn_r _ [67, 23, 24, 68, 69, 70, 71, 72, 73, 74, 75, 76, 77, 78, 79, 80, 81, 82, 83, 84] (by decide +kernel) (by decide +kernel)
set_option maxRecDepth 20000 in
theorem gX6_first__X6_gets : GoodIn wsX6_first_ (wsV RX6 147 RX6 yX6_gets wsX6_gets) := goodIn_app (goodIn_of _ (by decide +kernel)) ggX6_first__X6_gets
theorem dX6_first__0 : decode cX6_first_ 0 = .ok (.iload_n 1, 1) := by decide +kernel
theorem dX6_first__1 : decode cX6_first_ 1 = .ok (.iconst 1, 1) := by decide +kernel
theorem dX6_first__2 : decode cX6_first_ 2 = .ok (.iconst 2, 1) := by decide +kernel
theorem dX6_first__3 : decode cX6_first_ 3 = .ok (.invokestatic 60, 3) := by decide +kernel
theorem dX6_first__6 : decode cX6_first_ 6 = .ok (.ifCond .eq 14, 3) := by decide +kernel
theorem dX6_first__9 : decode cX6_first_ 9 = .ok (.iload_n 2, 1) := by decide +kernel
theorem dX6_first__10 : decode cX6_first_ 10 = .ok (.ifCond .lt 10, 3) := by decide +kernel
theorem dX6_first__13 : decode cX6_first_ 13 = .ok (.aload_n 0, 1) := by decide +kernel
theorem dX6_first__14 : decode cX6_first_ 14 = .ok (.invokevirtual 139, 3) := by decide +kernel
theorem dX6_first__17 : decode cX6_first_ 17 = .ok (.ifCond .ne 5, 3) := by decide +kernel
theorem dX6_first__20 : decode cX6_first_ 20 = .ok (.iconst (-1), 1) := by decide +kernel
theorem dX6_first__21 : decode cX6_first_ 21 = .ok (.ireturn, 1) := by decide +kernel
theorem dX6_first__22 : decode cX6_first_ 22 = .ok (.aload_n 0, 1) := by decide +kernel
theorem dX6_first__23 : decode cX6_first_ 23 = .ok (.iload_n 1, 1) := by decide +kernel
theorem dX6_first__24 : decode cX6_first_ 24 = .ok (.iconst (-1), 1) := by decide +kernel
theorem dX6_first__25 : decode cX6_first_ 25 = .ok (.iconst (-1), 1) := by decide +kernel
theorem dX6_first__26 : decode cX6_first_ 26 = .ok (.invokevirtual 143, 3) := by decide +kernel
theorem dX6_first__29 : decode cX6_first_ 29 = .ok (.iconst 0, 1) := by decide +kernel
theorem dX6_first__30 : decode cX6_first_ 30 = .ok (.istore_n 3, 1) := by decide +kernel
theorem dX6_first__31 : decode cX6_first_ 31 = .ok (.iconst 0, 1) := by decide +kernel
theorem dX6_first__32 : decode cX6_first_ 32 = .ok (.istore 4, 2) := by decide +kernel
theorem dX6_first__34 : decode cX6_first_ 34 = .ok (.iload 4, 2) := by decide +kernel
theorem dX6_first__36 : decode cX6_first_ 36 = .ok (.aload_n 0, 1) := by decide +kernel
theorem dX6_first__37 : decode cX6_first_ 37 = .ok (.getfield 130, 3) := by decide +kernel
theorem dX6_first__40 : decode cX6_first_ 40 = .ok (.if_icmp .ge 47, 3) := by decide +kernel
theorem dX6_first__43 : decode cX6_first_ 43 = .ok (.aload_n 0, 1) := by decide +kernel
theorem dX6_first__44 : decode cX6_first_ 44 = .ok (.iload_n 1, 1) := by decide +kernel
theorem dX6_first__45 : decode cX6_first_ 45 = .ok (.aload_n 0, 1) := by decide +kernel
theorem dX6_first__46 : decode cX6_first_ 46 = .ok (.getfield 43, 3) := by decide +kernel
theorem dX6_first__49 : decode cX6_first_ 49 = .ok (.iload 4, 2) := by decide +kernel
theorem dX6_first__51 : decode cX6_first_ 51 = .ok (.iaload, 1) := by decide +kernel
theorem dX6_first__52 : decode cX6_first_ 52 = .ok (.imul, 1) := by decide +kernel
theorem dX6_first__53 : decode cX6_first_ 53 = .ok (.iconst 3, 1) := by decide +kernel
theorem dX6_first__54 : decode cX6_first_ 54 = .ok (.iload_n 1, 1) := by decide +kernel
theorem dX6_first__55 : decode cX6_first_ 55 = .ok (.isub, 1) := by decide +kernel
theorem dX6_first__56 : decode cX6_first_ 56 = .ok (.invokevirtual 147, 3) := by decide +kernel
theorem dX6_first__59 : decode cX6_first_ 59 = .ok (.ifCond .ne 6, 3) := by decide +kernel
theorem dX6_first__62 : decode cX6_first_ 62 = .ok (.goto 19, 3) := by decide +kernel
theorem dX6_first__65 : decode cX6_first_ 65 = .ok (.iload_n 3, 1) := by decide +kernel
theorem dX6_first__66 : decode cX6_first_ 66 = .ok (.iload_n 2, 1) := by decide +kernel
theorem dX6_first__67 : decode cX6_first_ 67 = .ok (.if_icmp .ne 11, 3) := by decide +kernel
theorem dX6_first__70 : decode cX6_first_ 70 = .ok (.aload_n 0, 1) := by decide +kernel
theorem dX6_first__71 : decode cX6_first_ 71 = .ok (.getfield 40, 3) := by decide +kernel
theorem dX6_first__74 : decode cX6_first_ 74 = .ok (.iload 4, 2) := by decide +kernel
theorem dX6_first__76 : decode cX6_first_ 76 = .ok (.iaload, 1) := by decide +kernel
theorem dX6_first__77 : decode cX6_first_ 77 = .ok (.ireturn, 1) := by decide +kernel
theorem dX6_first__78 : decode cX6_first_ 78 = .ok (.iinc 3 1, 3) := by decide +kernel
theorem dX6_first__81 : decode cX6_first_ 81 = .ok (.iinc 4 1, 3) := by decide +kernel
theorem dX6_first__84 : decode cX6_first_ 84 = .ok (.goto (-50), 3) := by decide +kernel
theorem dX6_first__87 : decode cX6_first_ 87 = .ok (.iconst (-1), 1) := by decide +kernel
theorem dX6_first__88 : decode cX6_first_ 88 = .ok (.ireturn, 1) := by decide +kernel
theorem dX6_codeOf_0 : decode cX6_codeOf 0 = .ok (.iconst 0, 1) := by decide +kernel
theorem dX6_codeOf_1 : decode cX6_codeOf 1 = .ok (.istore_n 2, 1) := by decide +kernel
theorem dX6_codeOf_2 : decode cX6_codeOf 2 = .ok (.iconst 0, 1) := by decide +kernel
theorem dX6_codeOf_3 : decode cX6_codeOf 3 = .ok (.istore_n 3, 1) := by decide +kernel
theorem dX6_codeOf_4 : decode cX6_codeOf 4 = .ok (.iload_n 3, 1) := by decide +kernel
theorem dX6_codeOf_5 : decode cX6_codeOf 5 = .ok (.aload_n 0, 1) := by decide +kernel
theorem dX6_codeOf_6 : decode cX6_codeOf 6 = .ok (.getfield 130, 3) := by decide +kernel
theorem dX6_codeOf_9 : decode cX6_codeOf 9 = .ok (.if_icmp .ge 26, 3) := by decide +kernel
theorem dX6_codeOf_12 : decode cX6_codeOf 12 = .ok (.iload_n 2, 1) := by decide +kernel
theorem dX6_codeOf_13 : decode cX6_codeOf 13 = .ok (.iconst 1, 1) := by decide +kernel
theorem dX6_codeOf_14 : decode cX6_codeOf 14 = .ok (.iload_n 1, 1) := by decide +kernel
theorem dX6_codeOf_15 : decode cX6_codeOf 15 = .ok (.iload_n 3, 1) := by decide +kernel
theorem dX6_codeOf_16 : decode cX6_codeOf 16 = .ok (.ishr, 1) := by decide +kernel
theorem dX6_codeOf_17 : decode cX6_codeOf 17 = .ok (.iconst 1, 1) := by decide +kernel
theorem dX6_codeOf_18 : decode cX6_codeOf 18 = .ok (.iand, 1) := by decide +kernel
theorem dX6_codeOf_19 : decode cX6_codeOf 19 = .ok (.iadd, 1) := by decide +kernel
theorem dX6_codeOf_20 : decode cX6_codeOf 20 = .ok (.aload_n 0, 1) := by decide +kernel
theorem dX6_codeOf_21 : decode cX6_codeOf 21 = .ok (.getfield 43, 3) := by decide +kernel
theorem dX6_codeOf_24 : decode cX6_codeOf 24 = .ok (.iload_n 3, 1) := by decide +kernel
theorem dX6_codeOf_25 : decode cX6_codeOf 25 = .ok (.iaload, 1) := by decide +kernel
theorem dX6_codeOf_26 : decode cX6_codeOf 26 = .ok (.imul, 1) := by decide +kernel
theorem dX6_codeOf_27 : decode cX6_codeOf 27 = .ok (.iadd, 1) := by decide +kernel
theorem dX6_codeOf_28 : decode cX6_codeOf 28 = .ok (.istore_n 2, 1) := by decide +kernel
theorem dX6_codeOf_29 : decode cX6_codeOf 29 = .ok (.iinc 3 1, 3) := by decide +kernel
theorem dX6_codeOf_32 : decode cX6_codeOf 32 = .ok (.goto (-28), 3) := by decide +kernel
theorem dX6_codeOf_35 : decode cX6_codeOf 35 = .ok (.iload_n 2, 1) := by decide +kernel
theorem dX6_codeOf_36 : decode cX6_codeOf 36 = .ok (.ireturn, 1) := by decide +kernel
set_option maxRecDepth 20000 in
theorem ggX6_fillings0_X6_codeOf : GoodIn wsX6_fillings0 wsX6_codeOf := goodIn_r _ [7, 1, 8, 47, 48, 49, 50, 51, 52, 53, 54, 55, 56, 57, 58, 59, 60, 61, 62, 63] (by decide +kernel) (by decide +kernel)
set_option maxRecDepth 20000 in
theorem gX6_fillings0_X6_codeOf : GoodIn wsX6_fillings0 (wsV RX6 151 RX6 yX6_codeOf wsX6_codeOf) := goodIn_app (goodIn_of _ (by decide +kernel)) ggX6_fillings0_X6_codeOf
set_option maxRecDepth 20000 in
theorem ggX6_fillings0_X6_fills : GoodIn wsX6_fillings0 wsX6_fills := goodIn_r _ [12, 1, 13, 14, 8, 47, 48, 49, 50, 51, 52, 53, 54, 55, 56, 57, 58, 59, 60, 61, 62, 63] (by decide +kernel) (by decide +kernel)
set_option maxRecDepth 20000 in
theorem gX6_fillings0_X6_fills : GoodIn wsX6_fillings0 (wsV RX6 133 RX6 yX6_fills wsX6_fills) := goodIn_app (goodIn_of _ (by decide +kernel)) ggX6_fillings0_X6_fills
set_option maxRecDepth 20000 in
theorem ggX6_fillings0_X6_joins : GoodIn wsX6_fillings0 wsX6_joins := goodIn_r _ [18, 19, 13, 20, 21, 22, 6, 23, 24, 25, 26, 27, 28, 29, 30, 31, 32, 33, 34, 35, 36, 37, 38, 39, 40, 41, 42, 43, 44, 45, 46, 47, 48, 49, 50, 51, 52, 53, 54, 55, 56, 57, 58, 59, 60, 61, 62, 63] (by decide +kernel) (by decide +kernel)
set_option maxRecDepth 20000 in
theorem gX6_fillings0_X6_joins : GoodIn wsX6_fillings0 (wsV RX6 95 RX6 yX6_joins wsX6_joins) := goodIn_app (goodIn_of _ (by decide +kernel)) ggX6_fillings0_X6_joins
theorem dX6_fillings0_0 : decode cX6_fillings0 0 = .ok (.iconst 0, 1) := by decide +kernel
theorem dX6_fillings0_1 : decode cX6_fillings0 1 = .ok (.istore_n 1, 1) := by decide +kernel
theorem dX6_fillings0_2 : decode cX6_fillings0 2 = .ok (.iload_n 1, 1) := by decide +kernel
theorem dX6_fillings0_3 : decode cX6_fillings0 3 = .ok (.iconst 1, 1) := by decide +kernel
theorem dX6_fillings0_4 : decode cX6_fillings0 4 = .ok (.aload_n 0, 1) := by decide +kernel
theorem dX6_fillings0_5 : decode cX6_fillings0 5 = .ok (.getfield 130, 3) := by decide +kernel
theorem dX6_fillings0_8 : decode cX6_fillings0 8 = .ok (.ishl, 1) := by decide +kernel
theorem dX6_fillings0_9 : decode cX6_fillings0 9 = .ok (.if_icmp .ge 29, 3) := by decide +kernel
theorem dX6_fillings0_12 : decode cX6_fillings0 12 = .ok (.aload_n 0, 1) := by decide +kernel
theorem dX6_fillings0_13 : decode cX6_fillings0 13 = .ok (.aload_n 0, 1) := by decide +kernel
theorem dX6_fillings0_14 : decode cX6_fillings0 14 = .ok (.iload_n 1, 1) := by decide +kernel
theorem dX6_fillings0_15 : decode cX6_fillings0 15 = .ok (.invokevirtual 151, 3) := by decide +kernel
theorem dX6_fillings0_18 : decode cX6_fillings0 18 = .ok (.invokevirtual 133, 3) := by decide +kernel
theorem dX6_fillings0_21 : decode cX6_fillings0 21 = .ok (.aload_n 0, 1) := by decide +kernel
theorem dX6_fillings0_22 : decode cX6_fillings0 22 = .ok (.getfield 53, 3) := by decide +kernel
theorem dX6_fillings0_25 : decode cX6_fillings0 25 = .ok (.iload_n 1, 1) := by decide +kernel
theorem dX6_fillings0_26 : decode cX6_fillings0 26 = .ok (.aload_n 0, 1) := by decide +kernel
theorem dX6_fillings0_27 : decode cX6_fillings0 27 = .ok (.iconst 1, 1) := by decide +kernel
theorem dX6_fillings0_28 : decode cX6_fillings0 28 = .ok (.invokevirtual 95, 3) := by decide +kernel
theorem dX6_fillings0_31 : decode cX6_fillings0 31 = .ok (.bastore, 1) := by decide +kernel
theorem dX6_fillings0_32 : decode cX6_fillings0 32 = .ok (.iinc 1 1, 3) := by decide +kernel
theorem dX6_fillings0_35 : decode cX6_fillings0 35 = .ok (.goto (-33), 3) := by decide +kernel
theorem dX6_fillings0_38 : decode cX6_fillings0 38 = .ok (.aload_n 0, 1) := by decide +kernel
theorem dX6_fillings0_39 : decode cX6_fillings0 39 = .ok (.iconst 0, 1) := by decide +kernel
theorem dX6_fillings0_40 : decode cX6_fillings0 40 = .ok (.invokevirtual 133, 3) := by decide +kernel
theorem dX6_fillings0_43 : decode cX6_fillings0 43 = .ok (.return_, 1) := by decide +kernel
set_option maxRecDepth 20000 in
theorem ggX6_fillings_X6_opens : GoodIn wsX6_fillings wsX6_opens := goodIn_r _ [7, 1, 8, 9, 10, 11, 12, 13, 6, 14, 15, 16, 55, 56, 57, 58, 59, 60, 61, 62, 63, 64, 65, 66, 67, 68, 69, 70, 71] (by decide +kernel) (by decide +kernel)
set_option maxRecDepth 20000 in
theorem gX6_fillings_X6_opens : GoodIn wsX6_fillings (wsV RX6 139 RX6 yX6_opens wsX6_opens) := goodIn_app (goodIn_of _ (by decide +kernel)) ggX6_fillings_X6_opens
set_option maxRecDepth 20000 in
theorem ggX6_fillings_X6_fillings0 : GoodIn wsX6_fillings wsX6_fillings0 := goodIn_r _ [20, 1, 2, 21, 22, 23, 6, 24, 10, 25, 26, 27, 28, 8, 9, 29, 30, 31, 32, 33, 11, 12, 13, 14, 15, 16, 34, 35, 36, 37, 38, 39, 40, 41, 42, 43, 44, 45, 46, 47, 48, 49, 50, 51, 52, 53, 54, 55, 56, 57, 58, 59, 60, 61, 62, 63, 64, 65, 66, 67, 68, 69, 70, 71] (by decide +kernel) (by decide +kernel)
set_option maxRecDepth 20000 in
theorem gX6_fillings_X6_fillings0 : GoodIn wsX6_fillings (wsV RX6 154 RX6 yX6_fillings0 wsX6_fillings0) := goodIn_app (goodIn_of _ (by decide +kernel)) ggX6_fillings_X6_fillings0
theorem dX6_fillings_0 : decode cX6_fillings 0 = .ok (.aload_n 0, 1) := by decide +kernel
theorem dX6_fillings_1 : decode cX6_fillings 1 = .ok (.invokevirtual 139, 3) := by decide +kernel
theorem dX6_fillings_4 : decode cX6_fillings 4 = .ok (.ifCond .ne 5, 3) := by decide +kernel
theorem dX6_fillings_7 : decode cX6_fillings 7 = .ok (.iconst (-1), 1) := by decide +kernel
theorem dX6_fillings_8 : decode cX6_fillings 8 = .ok (.ireturn, 1) := by decide +kernel
theorem dX6_fillings_9 : decode cX6_fillings 9 = .ok (.aload_n 0, 1) := by decide +kernel
theorem dX6_fillings_10 : decode cX6_fillings 10 = .ok (.invokevirtual 154, 3) := by decide +kernel
theorem dX6_fillings_13 : decode cX6_fillings 13 = .ok (.iconst 0, 1) := by decide +kernel
theorem dX6_fillings_14 : decode cX6_fillings 14 = .ok (.istore_n 1, 1) := by decide +kernel
theorem dX6_fillings_15 : decode cX6_fillings 15 = .ok (.iconst 0, 1) := by decide +kernel
theorem dX6_fillings_16 : decode cX6_fillings 16 = .ok (.istore_n 2, 1) := by decide +kernel
theorem dX6_fillings_17 : decode cX6_fillings 17 = .ok (.iload_n 2, 1) := by decide +kernel
theorem dX6_fillings_18 : decode cX6_fillings 18 = .ok (.iconst 1, 1) := by decide +kernel
theorem dX6_fillings_19 : decode cX6_fillings 19 = .ok (.aload_n 0, 1) := by decide +kernel
theorem dX6_fillings_20 : decode cX6_fillings 20 = .ok (.getfield 130, 3) := by decide +kernel
theorem dX6_fillings_23 : decode cX6_fillings 23 = .ok (.ishl, 1) := by decide +kernel
theorem dX6_fillings_24 : decode cX6_fillings 24 = .ok (.if_icmp .ge 26, 3) := by decide +kernel
theorem dX6_fillings_27 : decode cX6_fillings 27 = .ok (.iload_n 1, 1) := by decide +kernel
theorem dX6_fillings_28 : decode cX6_fillings 28 = .ok (.aload_n 0, 1) := by decide +kernel
theorem dX6_fillings_29 : decode cX6_fillings 29 = .ok (.getfield 53, 3) := by decide +kernel
theorem dX6_fillings_32 : decode cX6_fillings 32 = .ok (.iload_n 2, 1) := by decide +kernel
theorem dX6_fillings_33 : decode cX6_fillings 33 = .ok (.baload, 1) := by decide +kernel
theorem dX6_fillings_34 : decode cX6_fillings 34 = .ok (.ifCond .eq 7, 3) := by decide +kernel
theorem dX6_fillings_37 : decode cX6_fillings 37 = .ok (.iconst 1, 1) := by decide +kernel
theorem dX6_fillings_38 : decode cX6_fillings 38 = .ok (.goto 4, 3) := by decide +kernel
theorem dX6_fillings_41 : decode cX6_fillings 41 = .ok (.iconst 0, 1) := by decide +kernel
theorem dX6_fillings_42 : decode cX6_fillings 42 = .ok (.iadd, 1) := by decide +kernel
theorem dX6_fillings_43 : decode cX6_fillings 43 = .ok (.istore_n 1, 1) := by decide +kernel
theorem dX6_fillings_44 : decode cX6_fillings 44 = .ok (.iinc 2 1, 3) := by decide +kernel
theorem dX6_fillings_47 : decode cX6_fillings 47 = .ok (.goto (-30), 3) := by decide +kernel
theorem dX6_fillings_50 : decode cX6_fillings 50 = .ok (.iload_n 1, 1) := by decide +kernel
theorem dX6_fillings_51 : decode cX6_fillings 51 = .ok (.ireturn, 1) := by decide +kernel
theorem dX6_isDead_0 : decode cX6_isDead 0 = .ok (.iconst 0, 1) := by decide +kernel
theorem dX6_isDead_1 : decode cX6_isDead 1 = .ok (.istore_n 2, 1) := by decide +kernel
theorem dX6_isDead_2 : decode cX6_isDead 2 = .ok (.iload_n 2, 1) := by decide +kernel
theorem dX6_isDead_3 : decode cX6_isDead 3 = .ok (.iconst 1, 1) := by decide +kernel
theorem dX6_isDead_4 : decode cX6_isDead 4 = .ok (.aload_n 0, 1) := by decide +kernel
theorem dX6_isDead_5 : decode cX6_isDead 5 = .ok (.getfield 130, 3) := by decide +kernel
theorem dX6_isDead_8 : decode cX6_isDead 8 = .ok (.ishl, 1) := by decide +kernel
theorem dX6_isDead_9 : decode cX6_isDead 9 = .ok (.if_icmp .ge 30, 3) := by decide +kernel
theorem dX6_isDead_12 : decode cX6_isDead 12 = .ok (.aload_n 0, 1) := by decide +kernel
theorem dX6_isDead_13 : decode cX6_isDead 13 = .ok (.getfield 53, 3) := by decide +kernel
theorem dX6_isDead_16 : decode cX6_isDead 16 = .ok (.iload_n 2, 1) := by decide +kernel
theorem dX6_isDead_17 : decode cX6_isDead 17 = .ok (.baload, 1) := by decide +kernel
theorem dX6_isDead_18 : decode cX6_isDead 18 = .ok (.aload_n 0, 1) := by decide +kernel
theorem dX6_isDead_19 : decode cX6_isDead 19 = .ok (.getfield 53, 3) := by decide +kernel
theorem dX6_isDead_22 : decode cX6_isDead 22 = .ok (.iload_n 2, 1) := by decide +kernel
theorem dX6_isDead_23 : decode cX6_isDead 23 = .ok (.iconst 1, 1) := by decide +kernel
theorem dX6_isDead_24 : decode cX6_isDead 24 = .ok (.iload_n 1, 1) := by decide +kernel
theorem dX6_isDead_25 : decode cX6_isDead 25 = .ok (.ishl, 1) := by decide +kernel
theorem dX6_isDead_26 : decode cX6_isDead 26 = .ok (.ixor, 1) := by decide +kernel
theorem dX6_isDead_27 : decode cX6_isDead 27 = .ok (.baload, 1) := by decide +kernel
theorem dX6_isDead_28 : decode cX6_isDead 28 = .ok (.if_icmp .eq 5, 3) := by decide +kernel
theorem dX6_isDead_31 : decode cX6_isDead 31 = .ok (.iconst 0, 1) := by decide +kernel
theorem dX6_isDead_32 : decode cX6_isDead 32 = .ok (.ireturn, 1) := by decide +kernel
theorem dX6_isDead_33 : decode cX6_isDead 33 = .ok (.iinc 2 1, 3) := by decide +kernel
theorem dX6_isDead_36 : decode cX6_isDead 36 = .ok (.goto (-34), 3) := by decide +kernel
theorem dX6_isDead_39 : decode cX6_isDead 39 = .ok (.iconst 1, 1) := by decide +kernel
theorem dX6_isDead_40 : decode cX6_isDead 40 = .ok (.ireturn, 1) := by decide +kernel
set_option maxRecDepth 20000 in
theorem ggX6_dead_X6_isField : GoodIn wsX6_dead wsX6_isField := goodIn_r _ [7, 8, 9, 10, 6, 11, 12, 13, 14, 15, 16, 63, 64, 65, 66, 67, 68, 69, 70, 71, 72, 73, 74, 75, 76, 77, 78, 79] (by decide +kernel) (by decide +kernel)
set_option maxRecDepth 20000 in
theorem gX6_dead_X6_isField : GoodIn wsX6_dead (wsV RX6 73 RX6 yX6_isField wsX6_isField) := goodIn_app (goodIn_of _ (by decide +kernel)) ggX6_dead_X6_isField
set_option maxRecDepth 20000 in
theorem ggX6_dead_X6_opens : GoodIn wsX6_dead wsX6_opens := goodIn_r _ [20, 21, 1, 2, 22, 8, 9, 10, 6, 11, 12, 13, 63, 64, 65, 66, 67, 68, 69, 70, 71, 72, 73, 74, 75, 76, 77, 78, 79] (by decide +kernel) (by decide +kernel)
set_option maxRecDepth 20000 in
theorem gX6_dead_X6_opens : GoodIn wsX6_dead (wsV RX6 139 RX6 yX6_opens wsX6_opens) := goodIn_app (goodIn_of _ (by decide +kernel)) ggX6_dead_X6_opens
set_option maxRecDepth 20000 in
theorem ggX6_dead_X6_fillings0 : GoodIn wsX6_dead wsX6_fillings0 := goodIn_r _ [26, 21, 27, 28, 29, 30, 6, 31, 22, 32, 33, 34, 35, 1, 2, 36, 37, 38, 39, 40, 8, 9, 10, 11, 12, 13, 41, 42, 43, 44, 45, 46, 47, 48, 49, 50, 51, 52, 53, 54, 55, 14, 15, 16, 56, 57, 58, 63, 64, 65, 66, 67, 68, 69, 70, 71, 72, 73, 74, 75, 76, 77, 78, 79] (by decide +kernel) (by decide +kernel)
set_option maxRecDepth 20000 in
theorem gX6_dead_X6_fillings0 : GoodIn wsX6_dead (wsV RX6 154 RX6 yX6_fillings0 wsX6_fillings0) := goodIn_app (goodIn_of _ (by decide +kernel)) ggX6_dead_X6_fillings0
set_option maxRecDepth 20000 in
theorem ggX6_dead_X6_isDead : GoodIn wsX6_dead wsX6_isDead := goodIn_r _ [62, 21, 27, 63, 64, 65, 66, 67, 68, 69, 70, 71, 72, 73, 74, 75, 76, 77, 78, 79] (by decide +kernel) (by decide +kernel)
set_option maxRecDepth 20000 in
theorem gX6_dead_X6_isDead : GoodIn wsX6_dead (wsV RX6 157 RX6 yX6_isDead wsX6_isDead) := goodIn_app (goodIn_of _ (by decide +kernel)) ggX6_dead_X6_isDead
theorem dX6_dead_0 : decode cX6_dead 0 = .ok (.aload_n 0, 1) := by decide +kernel
theorem dX6_dead_1 : decode cX6_dead 1 = .ok (.iload_n 1, 1) := by decide +kernel
theorem dX6_dead_2 : decode cX6_dead 2 = .ok (.invokevirtual 73, 3) := by decide +kernel
theorem dX6_dead_5 : decode cX6_dead 5 = .ok (.ifCond .eq 19, 3) := by decide +kernel
theorem dX6_dead_8 : decode cX6_dead 8 = .ok (.aload_n 0, 1) := by decide +kernel
theorem dX6_dead_9 : decode cX6_dead 9 = .ok (.getfield 19, 3) := by decide +kernel
theorem dX6_dead_12 : decode cX6_dead 12 = .ok (.iload_n 1, 1) := by decide +kernel
theorem dX6_dead_13 : decode cX6_dead 13 = .ok (.iaload, 1) := by decide +kernel
theorem dX6_dead_14 : decode cX6_dead 14 = .ok (.ifCond .ne 10, 3) := by decide +kernel
theorem dX6_dead_17 : decode cX6_dead 17 = .ok (.aload_n 0, 1) := by decide +kernel
theorem dX6_dead_18 : decode cX6_dead 18 = .ok (.invokevirtual 139, 3) := by decide +kernel
theorem dX6_dead_21 : decode cX6_dead 21 = .ok (.ifCond .ne 5, 3) := by decide +kernel
theorem dX6_dead_24 : decode cX6_dead 24 = .ok (.iconst (-1), 1) := by decide +kernel
theorem dX6_dead_25 : decode cX6_dead 25 = .ok (.ireturn, 1) := by decide +kernel
theorem dX6_dead_26 : decode cX6_dead 26 = .ok (.aload_n 0, 1) := by decide +kernel
theorem dX6_dead_27 : decode cX6_dead 27 = .ok (.invokevirtual 154, 3) := by decide +kernel
theorem dX6_dead_30 : decode cX6_dead 30 = .ok (.iconst 0, 1) := by decide +kernel
theorem dX6_dead_31 : decode cX6_dead 31 = .ok (.istore_n 2, 1) := by decide +kernel
theorem dX6_dead_32 : decode cX6_dead 32 = .ok (.aload_n 0, 1) := by decide +kernel
theorem dX6_dead_33 : decode cX6_dead 33 = .ok (.getfield 40, 3) := by decide +kernel
end
section
theorem dX6_dead_36 : decode cX6_dead 36 = .ok (.iload_n 2, 1) := by decide +kernel
theorem dX6_dead_37 : decode cX6_dead 37 = .ok (.iaload, 1) := by decide +kernel
theorem dX6_dead_38 : decode cX6_dead 38 = .ok (.iload_n 1, 1) := by decide +kernel
theorem dX6_dead_39 : decode cX6_dead 39 = .ok (.if_icmp .eq 9, 3) := by decide +kernel
theorem dX6_dead_42 : decode cX6_dead 42 = .ok (.iinc 2 1, 3) := by decide +kernel
theorem dX6_dead_45 : decode cX6_dead 45 = .ok (.goto (-13), 3) := by decide +kernel
theorem dX6_dead_48 : decode cX6_dead 48 = .ok (.aload_n 0, 1) := by decide +kernel
theorem dX6_dead_49 : decode cX6_dead 49 = .ok (.iload_n 2, 1) := by decide +kernel
theorem dX6_dead_50 : decode cX6_dead 50 = .ok (.invokevirtual 157, 3) := by decide +kernel
theorem dX6_dead_53 : decode cX6_dead 53 = .ok (.ifCond .eq 7, 3) := by decide +kernel
theorem dX6_dead_56 : decode cX6_dead 56 = .ok (.iconst 1, 1) := by decide +kernel
theorem dX6_dead_57 : decode cX6_dead 57 = .ok (.goto 4, 3) := by decide +kernel
theorem dX6_dead_60 : decode cX6_dead 60 = .ok (.iconst 0, 1) := by decide +kernel
theorem dX6_dead_61 : decode cX6_dead 61 = .ok (.ireturn, 1) := by decide +kernel
set_option maxRecDepth 20000 in
theorem ggX6_mayLink_X6_lies : GoodIn wsX6_mayLink wsX6_lies := goodIn_r _ [5] (by decide +kernel) (by decide +kernel)
set_option maxRecDepth 20000 in
theorem gX6_mayLink_X6_lies : GoodIn wsX6_mayLink (va_wsS RX6 60 yX6_lies wsX6_lies) := goodIn_app (goodIn_of _ (by decide +kernel)) ggX6_mayLink_X6_lies
set_option maxRecDepth 20000 in
theorem ggX6_mayLink_X6_isField : GoodIn wsX6_mayLink wsX6_isField := goodIn_r _ [9, 10, 11, 12, 4, 13, 14, 15, 2, 3, 5, 23, 24, 25, 26, 27, 28, 29, 30, 31, 32, 33, 34, 35, 36, 37, 38, 39] (by decide +kernel) (by decide +kernel)
set_option maxRecDepth 20000 in
theorem gX6_mayLink_X6_isField : GoodIn wsX6_mayLink (wsV RX6 73 RX6 yX6_isField wsX6_isField) := goodIn_app (goodIn_of _ (by decide +kernel)) ggX6_mayLink_X6_isField
set_option maxRecDepth 20000 in
theorem ggX6_mayLink_X6_opens : GoodIn wsX6_mayLink wsX6_opens := goodIn_r _ [19, 20, 1, 21, 22, 10, 11, 12, 4, 13, 14, 15, 23, 24, 25, 26, 27, 28, 29, 30, 31, 32, 33, 34, 35, 36, 37, 38, 39] (by decide +kernel) (by decide +kernel)
set_option maxRecDepth 20000 in
theorem gX6_mayLink_X6_opens : GoodIn wsX6_mayLink (wsV RX6 139 RX6 yX6_opens wsX6_opens) := goodIn_app (goodIn_of _ (by decide +kernel)) ggX6_mayLink_X6_opens
theorem dX6_mayLink_0 : decode cX6_mayLink 0 = .ok (.iload_n 1, 1) := by decide +kernel
theorem dX6_mayLink_1 : decode cX6_mayLink 1 = .ok (.iconst 1, 1) := by decide +kernel
theorem dX6_mayLink_2 : decode cX6_mayLink 2 = .ok (.iconst 2, 1) := by decide +kernel
theorem dX6_mayLink_3 : decode cX6_mayLink 3 = .ok (.invokestatic 60, 3) := by decide +kernel
theorem dX6_mayLink_6 : decode cX6_mayLink 6 = .ok (.ifCond .eq 59, 3) := by decide +kernel
theorem dX6_mayLink_9 : decode cX6_mayLink 9 = .ok (.aload_n 0, 1) := by decide +kernel
theorem dX6_mayLink_10 : decode cX6_mayLink 10 = .ok (.iload_n 2, 1) := by decide +kernel
theorem dX6_mayLink_11 : decode cX6_mayLink 11 = .ok (.invokevirtual 73, 3) := by decide +kernel
theorem dX6_mayLink_14 : decode cX6_mayLink 14 = .ok (.ifCond .eq 51, 3) := by decide +kernel
theorem dX6_mayLink_17 : decode cX6_mayLink 17 = .ok (.aload_n 0, 1) := by decide +kernel
theorem dX6_mayLink_18 : decode cX6_mayLink 18 = .ok (.iload_n 3, 1) := by decide +kernel
theorem dX6_mayLink_19 : decode cX6_mayLink 19 = .ok (.invokevirtual 73, 3) := by decide +kernel
theorem dX6_mayLink_22 : decode cX6_mayLink 22 = .ok (.ifCond .eq 43, 3) := by decide +kernel
theorem dX6_mayLink_25 : decode cX6_mayLink 25 = .ok (.iload_n 2, 1) := by decide +kernel
theorem dX6_mayLink_26 : decode cX6_mayLink 26 = .ok (.iload_n 3, 1) := by decide +kernel
theorem dX6_mayLink_27 : decode cX6_mayLink 27 = .ok (.if_icmp .eq 38, 3) := by decide +kernel
theorem dX6_mayLink_30 : decode cX6_mayLink 30 = .ok (.aload_n 0, 1) := by decide +kernel
theorem dX6_mayLink_31 : decode cX6_mayLink 31 = .ok (.getfield 19, 3) := by decide +kernel
theorem dX6_mayLink_34 : decode cX6_mayLink 34 = .ok (.iload_n 2, 1) := by decide +kernel
theorem dX6_mayLink_35 : decode cX6_mayLink 35 = .ok (.iaload, 1) := by decide +kernel
theorem dX6_mayLink_36 : decode cX6_mayLink 36 = .ok (.iconst 3, 1) := by decide +kernel
theorem dX6_mayLink_37 : decode cX6_mayLink 37 = .ok (.iload_n 1, 1) := by decide +kernel
theorem dX6_mayLink_38 : decode cX6_mayLink 38 = .ok (.isub, 1) := by decide +kernel
theorem dX6_mayLink_39 : decode cX6_mayLink 39 = .ok (.if_icmp .eq 26, 3) := by decide +kernel
theorem dX6_mayLink_42 : decode cX6_mayLink 42 = .ok (.aload_n 0, 1) := by decide +kernel
theorem dX6_mayLink_43 : decode cX6_mayLink 43 = .ok (.getfield 19, 3) := by decide +kernel
theorem dX6_mayLink_46 : decode cX6_mayLink 46 = .ok (.iload_n 3, 1) := by decide +kernel
theorem dX6_mayLink_47 : decode cX6_mayLink 47 = .ok (.iaload, 1) := by decide +kernel
theorem dX6_mayLink_48 : decode cX6_mayLink 48 = .ok (.iconst 3, 1) := by decide +kernel
theorem dX6_mayLink_49 : decode cX6_mayLink 49 = .ok (.iload_n 1, 1) := by decide +kernel
theorem dX6_mayLink_50 : decode cX6_mayLink 50 = .ok (.isub, 1) := by decide +kernel
theorem dX6_mayLink_51 : decode cX6_mayLink 51 = .ok (.if_icmp .eq 14, 3) := by decide +kernel
theorem dX6_mayLink_54 : decode cX6_mayLink 54 = .ok (.aload_n 0, 1) := by decide +kernel
theorem dX6_mayLink_55 : decode cX6_mayLink 55 = .ok (.invokevirtual 139, 3) := by decide +kernel
theorem dX6_mayLink_58 : decode cX6_mayLink 58 = .ok (.ifCond .eq 7, 3) := by decide +kernel
theorem dX6_mayLink_61 : decode cX6_mayLink 61 = .ok (.iconst 1, 1) := by decide +kernel
theorem dX6_mayLink_62 : decode cX6_mayLink 62 = .ok (.goto 4, 3) := by decide +kernel
theorem dX6_mayLink_65 : decode cX6_mayLink 65 = .ok (.iconst 0, 1) := by decide +kernel
theorem dX6_mayLink_66 : decode cX6_mayLink 66 = .ok (.ireturn, 1) := by decide +kernel
set_option maxRecDepth 20000 in
theorem ggX6_link_X6_mayLink : GoodIn wsX6_link wsX6_mayLink := goodIn_r _ [5, 6, 7, 8, 4, 9, 10, 11, 12, 13, 14, 15, 16, 17, 18, 19, 20, 21, 22, 23, 24, 25, 26, 76, 77, 78, 79, 80, 81, 82, 83, 84, 85, 86, 87, 88, 89, 90, 91, 92] (by decide +kernel) (by decide +kernel)
set_option maxRecDepth 20000 in
theorem gX6_link_X6_mayLink : GoodIn wsX6_link (wsV RX6 160 RX6 yX6_mayLink wsX6_mayLink) := goodIn_app (goodIn_of _ (by decide +kernel)) ggX6_link_X6_mayLink
set_option maxRecDepth 20000 in
theorem ggX6_link_X6_works : GoodIn wsX6_link wsX6_works := goodIn_r _ [30, 26, 24, 31, 32, 33, 34, 35, 4, 36, 6, 25, 37, 38, 39, 40, 41, 14, 15, 16, 17, 18, 19, 42, 43, 44, 45, 46, 47, 48, 49, 50, 51, 52, 53, 54, 55, 56, 7, 8, 9, 57, 58, 59, 60, 61, 62, 63, 64, 65, 66, 67, 68, 69, 70, 71, 76, 77, 78, 79, 80, 81, 82, 83, 84, 85, 86, 87, 88, 89, 90, 91, 92] (by decide +kernel) (by decide +kernel)
set_option maxRecDepth 20000 in
theorem gX6_link_X6_works : GoodIn wsX6_link (wsV RX6 143 RX6 yX6_works wsX6_works) := goodIn_app (goodIn_of _ (by decide +kernel)) ggX6_link_X6_works
set_option maxRecDepth 20000 in
theorem ggX6_link_X6_gets : GoodIn wsX6_link wsX6_gets := goodIn_r _ [75, 31, 32, 76, 77, 78, 79, 80, 81, 82, 83, 84, 85, 86, 87, 88, 89, 90, 91, 92] (by decide +kernel) (by decide +kernel)
set_option maxRecDepth 20000 in
theorem gX6_link_X6_gets : GoodIn wsX6_link (wsV RX6 147 RX6 yX6_gets wsX6_gets) := goodIn_app (goodIn_of _ (by decide +kernel)) ggX6_link_X6_gets
theorem dX6_link_0 : decode cX6_link 0 = .ok (.aload_n 0, 1) := by decide +kernel
theorem dX6_link_1 : decode cX6_link 1 = .ok (.iload_n 1, 1) := by decide +kernel
theorem dX6_link_2 : decode cX6_link 2 = .ok (.iload_n 2, 1) := by decide +kernel
theorem dX6_link_3 : decode cX6_link 3 = .ok (.iload_n 3, 1) := by decide +kernel
theorem dX6_link_4 : decode cX6_link 4 = .ok (.invokevirtual 160, 3) := by decide +kernel
theorem dX6_link_7 : decode cX6_link 7 = .ok (.ifCond .ne 5, 3) := by decide +kernel
theorem dX6_link_10 : decode cX6_link 10 = .ok (.iconst (-1), 1) := by decide +kernel
theorem dX6_link_11 : decode cX6_link 11 = .ok (.ireturn, 1) := by decide +kernel
theorem dX6_link_12 : decode cX6_link 12 = .ok (.aload_n 0, 1) := by decide +kernel
theorem dX6_link_13 : decode cX6_link 13 = .ok (.iload_n 1, 1) := by decide +kernel
theorem dX6_link_14 : decode cX6_link 14 = .ok (.iload_n 2, 1) := by decide +kernel
theorem dX6_link_15 : decode cX6_link 15 = .ok (.iload_n 3, 1) := by decide +kernel
theorem dX6_link_16 : decode cX6_link 16 = .ok (.invokevirtual 143, 3) := by decide +kernel
theorem dX6_link_19 : decode cX6_link 19 = .ok (.aload_n 0, 1) := by decide +kernel
theorem dX6_link_20 : decode cX6_link 20 = .ok (.iconst 0, 1) := by decide +kernel
theorem dX6_link_21 : decode cX6_link 21 = .ok (.iconst 3, 1) := by decide +kernel
theorem dX6_link_22 : decode cX6_link 22 = .ok (.iload_n 1, 1) := by decide +kernel
theorem dX6_link_23 : decode cX6_link 23 = .ok (.isub, 1) := by decide +kernel
theorem dX6_link_24 : decode cX6_link 24 = .ok (.invokevirtual 147, 3) := by decide +kernel
theorem dX6_link_27 : decode cX6_link 27 = .ok (.ifCond .eq 7, 3) := by decide +kernel
theorem dX6_link_30 : decode cX6_link 30 = .ok (.iconst 2, 1) := by decide +kernel
theorem dX6_link_31 : decode cX6_link 31 = .ok (.goto 17, 3) := by decide +kernel
theorem dX6_link_34 : decode cX6_link 34 = .ok (.aload_n 0, 1) := by decide +kernel
theorem dX6_link_35 : decode cX6_link 35 = .ok (.iconst 0, 1) := by decide +kernel
theorem dX6_link_36 : decode cX6_link 36 = .ok (.iload_n 1, 1) := by decide +kernel
theorem dX6_link_37 : decode cX6_link 37 = .ok (.invokevirtual 147, 3) := by decide +kernel
theorem dX6_link_40 : decode cX6_link 40 = .ok (.ifCond .eq 7, 3) := by decide +kernel
theorem dX6_link_43 : decode cX6_link 43 = .ok (.iconst 1, 1) := by decide +kernel
theorem dX6_link_44 : decode cX6_link 44 = .ok (.goto 4, 3) := by decide +kernel
theorem dX6_link_47 : decode cX6_link 47 = .ok (.iconst 0, 1) := by decide +kernel
theorem dX6_link_48 : decode cX6_link 48 = .ok (.ireturn, 1) := by decide +kernel
set_option maxRecDepth 20000 in
theorem ggX6_half_X6_link : GoodIn wsX6_half wsX6_link := goodIn_r _ [8, 9, 10, 11, 7, 12, 13, 14, 15, 16, 17, 18, 19, 20, 21, 22, 23, 24, 25, 26, 27, 28, 29, 30, 1, 3, 2, 31, 32, 33, 34, 35, 36, 37, 38, 39, 40, 41, 42, 43, 44, 45, 46, 47, 48, 49, 50, 51, 52, 53, 54, 55, 56, 57, 58, 59, 60, 61, 62, 63, 64, 65, 66, 67, 68, 69, 70, 71, 72, 73, 74, 75, 76, 77, 78, 79, 80, 81, 82, 83, 84, 85, 86, 87, 88, 89, 90, 91, 92, 93, 94, 95, 96] (by decide +kernel) (by decide +kernel)
set_option maxRecDepth 20000 in
theorem gX6_half_X6_link : GoodIn wsX6_half (wsV RX6 163 RX6 yX6_link wsX6_link) := goodIn_app (goodIn_of _ (by decide +kernel)) ggX6_half_X6_link
set_option maxRecDepth 20000 in
theorem ggX6_half_X6_gets : GoodIn wsX6_half wsX6_gets := goodIn_r _ [79, 35, 36, 80, 81, 82, 83, 84, 85, 86, 87, 88, 89, 90, 91, 92, 93, 94, 95, 96] (by decide +kernel) (by decide +kernel)
set_option maxRecDepth 20000 in
theorem gX6_half_X6_gets : GoodIn wsX6_half (wsV RX6 147 RX6 yX6_gets wsX6_gets) := goodIn_app (goodIn_of _ (by decide +kernel)) ggX6_half_X6_gets
theorem dX6_half_0 : decode cX6_half 0 = .ok (.iload 4, 2) := by decide +kernel
theorem dX6_half_2 : decode cX6_half 2 = .ok (.ifCond .lt 14, 3) := by decide +kernel
theorem dX6_half_5 : decode cX6_half 5 = .ok (.aload_n 0, 1) := by decide +kernel
theorem dX6_half_6 : decode cX6_half 6 = .ok (.iload_n 1, 1) := by decide +kernel
theorem dX6_half_7 : decode cX6_half 7 = .ok (.iload_n 2, 1) := by decide +kernel
theorem dX6_half_8 : decode cX6_half 8 = .ok (.iload_n 3, 1) := by decide +kernel
theorem dX6_half_9 : decode cX6_half 9 = .ok (.invokevirtual 163, 3) := by decide +kernel
theorem dX6_half_12 : decode cX6_half 12 = .ok (.iconst 1, 1) := by decide +kernel
theorem dX6_half_13 : decode cX6_half 13 = .ok (.if_icmp .eq 5, 3) := by decide +kernel
theorem dX6_half_16 : decode cX6_half 16 = .ok (.iconst (-1), 1) := by decide +kernel
theorem dX6_half_17 : decode cX6_half 17 = .ok (.ireturn, 1) := by decide +kernel
theorem dX6_half_18 : decode cX6_half 18 = .ok (.iconst 0, 1) := by decide +kernel
theorem dX6_half_19 : decode cX6_half 19 = .ok (.istore 5, 2) := by decide +kernel
theorem dX6_half_21 : decode cX6_half 21 = .ok (.iconst 0, 1) := by decide +kernel
theorem dX6_half_22 : decode cX6_half 22 = .ok (.istore 6, 2) := by decide +kernel
theorem dX6_half_24 : decode cX6_half 24 = .ok (.iload 6, 2) := by decide +kernel
theorem dX6_half_26 : decode cX6_half 26 = .ok (.aload_n 0, 1) := by decide +kernel
theorem dX6_half_27 : decode cX6_half 27 = .ok (.getfield 130, 3) := by decide +kernel
theorem dX6_half_30 : decode cX6_half 30 = .ok (.if_icmp .ge 49, 3) := by decide +kernel
theorem dX6_half_33 : decode cX6_half 33 = .ok (.aload_n 0, 1) := by decide +kernel
theorem dX6_half_34 : decode cX6_half 34 = .ok (.iload_n 1, 1) := by decide +kernel
theorem dX6_half_35 : decode cX6_half 35 = .ok (.aload_n 0, 1) := by decide +kernel
theorem dX6_half_36 : decode cX6_half 36 = .ok (.getfield 43, 3) := by decide +kernel
theorem dX6_half_39 : decode cX6_half 39 = .ok (.iload 6, 2) := by decide +kernel
theorem dX6_half_41 : decode cX6_half 41 = .ok (.iaload, 1) := by decide +kernel
theorem dX6_half_42 : decode cX6_half 42 = .ok (.imul, 1) := by decide +kernel
theorem dX6_half_43 : decode cX6_half 43 = .ok (.iconst 3, 1) := by decide +kernel
theorem dX6_half_44 : decode cX6_half 44 = .ok (.iload_n 1, 1) := by decide +kernel
theorem dX6_half_45 : decode cX6_half 45 = .ok (.isub, 1) := by decide +kernel
theorem dX6_half_46 : decode cX6_half 46 = .ok (.invokevirtual 147, 3) := by decide +kernel
theorem dX6_half_49 : decode cX6_half 49 = .ok (.ifCond .ne 6, 3) := by decide +kernel
theorem dX6_half_52 : decode cX6_half 52 = .ok (.goto 21, 3) := by decide +kernel
theorem dX6_half_55 : decode cX6_half 55 = .ok (.iload 5, 2) := by decide +kernel
theorem dX6_half_57 : decode cX6_half 57 = .ok (.iload 4, 2) := by decide +kernel
theorem dX6_half_59 : decode cX6_half 59 = .ok (.if_icmp .ne 11, 3) := by decide +kernel
theorem dX6_half_62 : decode cX6_half 62 = .ok (.aload_n 0, 1) := by decide +kernel
theorem dX6_half_63 : decode cX6_half 63 = .ok (.getfield 40, 3) := by decide +kernel
theorem dX6_half_66 : decode cX6_half 66 = .ok (.iload 6, 2) := by decide +kernel
theorem dX6_half_68 : decode cX6_half 68 = .ok (.iaload, 1) := by decide +kernel
theorem dX6_half_69 : decode cX6_half 69 = .ok (.ireturn, 1) := by decide +kernel
theorem dX6_half_70 : decode cX6_half 70 = .ok (.iinc 5 1, 3) := by decide +kernel
theorem dX6_half_73 : decode cX6_half 73 = .ok (.iinc 6 1, 3) := by decide +kernel
theorem dX6_half_76 : decode cX6_half 76 = .ok (.goto (-52), 3) := by decide +kernel
theorem dX6_half_79 : decode cX6_half 79 = .ok (.iconst (-1), 1) := by decide +kernel
theorem dX6_half_80 : decode cX6_half 80 = .ok (.ireturn, 1) := by decide +kernel
set_option maxRecDepth 20000 in
theorem ggX6_count_X6_fields : GoodIn wsX6_count wsX6_fields := goodIn_r _ [12, 1, 2, 99, 100, 101, 102, 103, 104, 105, 106, 107, 108, 109, 110, 111, 112, 113, 114, 115] (by decide +kernel) (by decide +kernel)
set_option maxRecDepth 20000 in
theorem gX6_count_X6_fields : GoodIn wsX6_count (wsV RX6 56 RX6 yX6_fields wsX6_fields) := goodIn_app (goodIn_of _ (by decide +kernel)) ggX6_count_X6_fields
set_option maxRecDepth 20000 in
theorem ggX6_count_X6_groups : GoodIn wsX6_count wsX6_groups := goodIn_r _ [16, 3, 8, 9, 10, 11, 12, 1, 2, 17, 18, 19, 20, 21, 22, 23, 24, 25, 26, 27, 28, 29, 30, 31, 32, 33, 34, 35, 36, 37, 38, 39, 40, 41, 42, 43, 44, 45, 46, 47, 48, 99, 100, 101, 102, 103, 104, 105, 106, 107, 108, 109, 110, 111, 112, 113, 114, 115] (by decide +kernel) (by decide +kernel)
set_option maxRecDepth 20000 in
theorem gX6_count_X6_groups : GoodIn wsX6_count (wsV RX6 167 RX6 yX6_groups wsX6_groups) := goodIn_app (goodIn_of _ (by decide +kernel)) ggX6_count_X6_groups
set_option maxRecDepth 20000 in
theorem ggX6_count_X6_opens : GoodIn wsX6_count wsX6_opens := goodIn_r _ [52, 7, 3, 53, 54, 8, 9, 10, 11, 12, 1, 2, 99, 100, 101, 102, 103, 104, 105, 106, 107, 108, 109, 110, 111, 112, 113, 114, 115] (by decide +kernel) (by decide +kernel)
set_option maxRecDepth 20000 in
theorem gX6_count_X6_opens : GoodIn wsX6_count (wsV RX6 139 RX6 yX6_opens wsX6_opens) := goodIn_app (goodIn_of _ (by decide +kernel)) ggX6_count_X6_opens
set_option maxRecDepth 20000 in
theorem ggX6_count_X6_fillings0 : GoodIn wsX6_count wsX6_fillings0 := goodIn_r _ [58, 7, 59, 60, 61, 62, 11, 63, 54, 64, 65, 66, 67, 3, 53, 68, 69, 70, 71, 21, 8, 9, 10, 12, 1, 2, 72, 73, 74, 75, 76, 77, 78, 41, 42, 43, 44, 45, 46, 47, 48, 30, 31, 32, 79, 80, 81, 99, 100, 101, 102, 103, 104, 105, 106, 107, 108, 109, 110, 111, 112, 113, 114, 115] (by decide +kernel) (by decide +kernel)
set_option maxRecDepth 20000 in
theorem gX6_count_X6_fillings0 : GoodIn wsX6_count (wsV RX6 154 RX6 yX6_fillings0 wsX6_fillings0) := goodIn_app (goodIn_of _ (by decide +kernel)) ggX6_count_X6_fillings0
set_option maxRecDepth 20000 in
theorem ggX6_count_X6_isDead : GoodIn wsX6_count wsX6_isDead := goodIn_r _ [85, 7, 59, 99, 100, 101, 102, 103, 104, 105, 106, 107, 108, 109, 110, 111, 112, 113, 114, 115] (by decide +kernel) (by decide +kernel)
set_option maxRecDepth 20000 in
theorem gX6_count_X6_isDead : GoodIn wsX6_count (wsV RX6 157 RX6 yX6_isDead wsX6_isDead) := goodIn_app (goodIn_of _ (by decide +kernel)) ggX6_count_X6_isDead
set_option maxRecDepth 20000 in
theorem ggX6_count_X6_wayLong : GoodIn wsX6_count wsX6_wayLong := goodIn_r _ [89, 90, 91, 92, 93, 11, 94, 68, 69, 70, 71, 21, 3, 8, 9, 10, 12, 1, 2, 72, 73, 74, 75, 76, 77, 78, 41, 42, 43, 44, 45, 46, 47, 48, 30, 31, 32, 79, 80, 81, 95, 96, 97, 98, 99, 100, 101, 102, 103, 104, 105, 106, 107, 108, 109, 110, 111, 112, 113, 114, 115] (by decide +kernel) (by decide +kernel)
set_option maxRecDepth 20000 in
theorem gX6_count_X6_wayLong : GoodIn wsX6_count (wsV RX6 127 RX6 yX6_wayLong wsX6_wayLong) := goodIn_app (goodIn_of _ (by decide +kernel)) ggX6_count_X6_wayLong
theorem dX6_count_0 : decode cX6_count 0 = .ok (.iconst 0, 1) := by decide +kernel
theorem dX6_count_1 : decode cX6_count 1 = .ok (.istore_n 2, 1) := by decide +kernel
theorem dX6_count_2 : decode cX6_count 2 = .ok (.iload_n 1, 1) := by decide +kernel
theorem dX6_count_3 : decode cX6_count 3 = .ok (.tableswitch 177 0 9 #[53, 58, 63, 98, 103, 108, 113, 119, 125, 172], 53) := by decide +kernel
theorem dX6_count_56 : decode cX6_count 56 = .ok (.aload_n 0, 1) := by decide +kernel
theorem dX6_count_57 : decode cX6_count 57 = .ok (.getfield 7, 3) := by decide +kernel
theorem dX6_count_60 : decode cX6_count 60 = .ok (.ireturn, 1) := by decide +kernel
theorem dX6_count_61 : decode cX6_count 61 = .ok (.aload_n 0, 1) := by decide +kernel
theorem dX6_count_62 : decode cX6_count 62 = .ok (.getfield 13, 3) := by decide +kernel
theorem dX6_count_65 : decode cX6_count 65 = .ok (.ireturn, 1) := by decide +kernel
theorem dX6_count_66 : decode cX6_count 66 = .ok (.iconst 0, 1) := by decide +kernel
theorem dX6_count_67 : decode cX6_count 67 = .ok (.istore_n 3, 1) := by decide +kernel
theorem dX6_count_68 : decode cX6_count 68 = .ok (.iload_n 3, 1) := by decide +kernel
theorem dX6_count_69 : decode cX6_count 69 = .ok (.aload_n 0, 1) := by decide +kernel
theorem dX6_count_70 : decode cX6_count 70 = .ok (.invokevirtual 56, 3) := by decide +kernel
theorem dX6_count_73 : decode cX6_count 73 = .ok (.if_icmp .ge 26, 3) := by decide +kernel
theorem dX6_count_76 : decode cX6_count 76 = .ok (.iload_n 2, 1) := by decide +kernel
theorem dX6_count_77 : decode cX6_count 77 = .ok (.aload_n 0, 1) := by decide +kernel
theorem dX6_count_78 : decode cX6_count 78 = .ok (.getfield 19, 3) := by decide +kernel
theorem dX6_count_81 : decode cX6_count 81 = .ok (.iload_n 3, 1) := by decide +kernel
theorem dX6_count_82 : decode cX6_count 82 = .ok (.iaload, 1) := by decide +kernel
theorem dX6_count_83 : decode cX6_count 83 = .ok (.ifCond .ne 7, 3) := by decide +kernel
theorem dX6_count_86 : decode cX6_count 86 = .ok (.iconst 1, 1) := by decide +kernel
theorem dX6_count_87 : decode cX6_count 87 = .ok (.goto 4, 3) := by decide +kernel
theorem dX6_count_90 : decode cX6_count 90 = .ok (.iconst 0, 1) := by decide +kernel
theorem dX6_count_91 : decode cX6_count 91 = .ok (.iadd, 1) := by decide +kernel
theorem dX6_count_92 : decode cX6_count 92 = .ok (.istore_n 2, 1) := by decide +kernel
theorem dX6_count_93 : decode cX6_count 93 = .ok (.iinc 3 1, 3) := by decide +kernel
theorem dX6_count_96 : decode cX6_count 96 = .ok (.goto (-28), 3) := by decide +kernel
theorem dX6_count_99 : decode cX6_count 99 = .ok (.iload_n 2, 1) := by decide +kernel
theorem dX6_count_100 : decode cX6_count 100 = .ok (.ireturn, 1) := by decide +kernel
theorem dX6_count_101 : decode cX6_count 101 = .ok (.aload_n 0, 1) := by decide +kernel
theorem dX6_count_102 : decode cX6_count 102 = .ok (.getfield 16, 3) := by decide +kernel
theorem dX6_count_105 : decode cX6_count 105 = .ok (.ireturn, 1) := by decide +kernel
theorem dX6_count_106 : decode cX6_count 106 = .ok (.aload_n 0, 1) := by decide +kernel
theorem dX6_count_107 : decode cX6_count 107 = .ok (.getfield 64, 3) := by decide +kernel
theorem dX6_count_110 : decode cX6_count 110 = .ok (.ireturn, 1) := by decide +kernel
theorem dX6_count_111 : decode cX6_count 111 = .ok (.aload_n 0, 1) := by decide +kernel
theorem dX6_count_112 : decode cX6_count 112 = .ok (.getfield 67, 3) := by decide +kernel
theorem dX6_count_115 : decode cX6_count 115 = .ok (.ireturn, 1) := by decide +kernel
theorem dX6_count_116 : decode cX6_count 116 = .ok (.aload_n 0, 1) := by decide +kernel
theorem dX6_count_117 : decode cX6_count 117 = .ok (.iconst 1, 1) := by decide +kernel
theorem dX6_count_118 : decode cX6_count 118 = .ok (.invokevirtual 167, 3) := by decide +kernel
theorem dX6_count_121 : decode cX6_count 121 = .ok (.ireturn, 1) := by decide +kernel
theorem dX6_count_122 : decode cX6_count 122 = .ok (.aload_n 0, 1) := by decide +kernel
theorem dX6_count_123 : decode cX6_count 123 = .ok (.iconst 2, 1) := by decide +kernel
theorem dX6_count_124 : decode cX6_count 124 = .ok (.invokevirtual 167, 3) := by decide +kernel
theorem dX6_count_127 : decode cX6_count 127 = .ok (.ireturn, 1) := by decide +kernel
theorem dX6_count_128 : decode cX6_count 128 = .ok (.aload_n 0, 1) := by decide +kernel
theorem dX6_count_129 : decode cX6_count 129 = .ok (.invokevirtual 139, 3) := by decide +kernel
theorem dX6_count_132 : decode cX6_count 132 = .ok (.ifCond .ne 5, 3) := by decide +kernel
theorem dX6_count_135 : decode cX6_count 135 = .ok (.iconst (-1), 1) := by decide +kernel
theorem dX6_count_136 : decode cX6_count 136 = .ok (.ireturn, 1) := by decide +kernel
theorem dX6_count_137 : decode cX6_count 137 = .ok (.aload_n 0, 1) := by decide +kernel
theorem dX6_count_138 : decode cX6_count 138 = .ok (.invokevirtual 154, 3) := by decide +kernel
theorem dX6_count_141 : decode cX6_count 141 = .ok (.iconst 0, 1) := by decide +kernel
theorem dX6_count_142 : decode cX6_count 142 = .ok (.istore_n 3, 1) := by decide +kernel
theorem dX6_count_143 : decode cX6_count 143 = .ok (.iload_n 3, 1) := by decide +kernel
theorem dX6_count_144 : decode cX6_count 144 = .ok (.aload_n 0, 1) := by decide +kernel
theorem dX6_count_145 : decode cX6_count 145 = .ok (.getfield 130, 3) := by decide +kernel
theorem dX6_count_148 : decode cX6_count 148 = .ok (.if_icmp .ge 25, 3) := by decide +kernel
theorem dX6_count_151 : decode cX6_count 151 = .ok (.iload_n 2, 1) := by decide +kernel
theorem dX6_count_152 : decode cX6_count 152 = .ok (.aload_n 0, 1) := by decide +kernel
theorem dX6_count_153 : decode cX6_count 153 = .ok (.iload_n 3, 1) := by decide +kernel
theorem dX6_count_154 : decode cX6_count 154 = .ok (.invokevirtual 157, 3) := by decide +kernel
theorem dX6_count_157 : decode cX6_count 157 = .ok (.ifCond .eq 7, 3) := by decide +kernel
theorem dX6_count_160 : decode cX6_count 160 = .ok (.iconst 1, 1) := by decide +kernel
theorem dX6_count_161 : decode cX6_count 161 = .ok (.goto 4, 3) := by decide +kernel
theorem dX6_count_164 : decode cX6_count 164 = .ok (.iconst 0, 1) := by decide +kernel
theorem dX6_count_165 : decode cX6_count 165 = .ok (.iadd, 1) := by decide +kernel
theorem dX6_count_166 : decode cX6_count 166 = .ok (.istore_n 2, 1) := by decide +kernel
theorem dX6_count_167 : decode cX6_count 167 = .ok (.iinc 3 1, 3) := by decide +kernel
theorem dX6_count_170 : decode cX6_count 170 = .ok (.goto (-27), 3) := by decide +kernel
theorem dX6_count_173 : decode cX6_count 173 = .ok (.iload_n 2, 1) := by decide +kernel
theorem dX6_count_174 : decode cX6_count 174 = .ok (.ireturn, 1) := by decide +kernel
theorem dX6_count_175 : decode cX6_count 175 = .ok (.aload_n 0, 1) := by decide +kernel
theorem dX6_count_176 : decode cX6_count 176 = .ok (.invokevirtual 127, 3) := by decide +kernel
theorem dX6_count_179 : decode cX6_count 179 = .ok (.ireturn, 1) := by decide +kernel
theorem dX6_count_180 : decode cX6_count 180 = .ok (.iconst (-1), 1) := by decide +kernel
theorem dX6_count_181 : decode cX6_count 181 = .ok (.ireturn, 1) := by decide +kernel
theorem dJ13_bitCount_95d88_0 : decode cJ13_bitCount_95d88 0 = .ok (.lload_n 0, 1) := by decide +kernel
theorem dJ13_bitCount_95d88_1 : decode cJ13_bitCount_95d88 1 = .ok (.lload_n 0, 1) := by decide +kernel
theorem dJ13_bitCount_95d88_2 : decode cJ13_bitCount_95d88 2 = .ok (.iconst 1, 1) := by decide +kernel
theorem dJ13_bitCount_95d88_3 : decode cJ13_bitCount_95d88 3 = .ok (.lushr, 1) := by decide +kernel
theorem dJ13_bitCount_95d88_4 : decode cJ13_bitCount_95d88 4 = .ok (.ldc2_w 314, 3) := by decide +kernel
theorem dJ13_bitCount_95d88_7 : decode cJ13_bitCount_95d88 7 = .ok (.land, 1) := by decide +kernel
theorem dJ13_bitCount_95d88_8 : decode cJ13_bitCount_95d88 8 = .ok (.lsub, 1) := by decide +kernel
theorem dJ13_bitCount_95d88_9 : decode cJ13_bitCount_95d88 9 = .ok (.lstore_n 0, 1) := by decide +kernel
theorem dJ13_bitCount_95d88_10 : decode cJ13_bitCount_95d88 10 = .ok (.lload_n 0, 1) := by decide +kernel
theorem dJ13_bitCount_95d88_11 : decode cJ13_bitCount_95d88 11 = .ok (.ldc2_w 316, 3) := by decide +kernel
theorem dJ13_bitCount_95d88_14 : decode cJ13_bitCount_95d88 14 = .ok (.land, 1) := by decide +kernel
theorem dJ13_bitCount_95d88_15 : decode cJ13_bitCount_95d88 15 = .ok (.lload_n 0, 1) := by decide +kernel
theorem dJ13_bitCount_95d88_16 : decode cJ13_bitCount_95d88 16 = .ok (.iconst 2, 1) := by decide +kernel
theorem dJ13_bitCount_95d88_17 : decode cJ13_bitCount_95d88 17 = .ok (.lushr, 1) := by decide +kernel
theorem dJ13_bitCount_95d88_18 : decode cJ13_bitCount_95d88 18 = .ok (.ldc2_w 316, 3) := by decide +kernel
theorem dJ13_bitCount_95d88_21 : decode cJ13_bitCount_95d88 21 = .ok (.land, 1) := by decide +kernel
theorem dJ13_bitCount_95d88_22 : decode cJ13_bitCount_95d88 22 = .ok (.ladd, 1) := by decide +kernel
theorem dJ13_bitCount_95d88_23 : decode cJ13_bitCount_95d88 23 = .ok (.lstore_n 0, 1) := by decide +kernel
theorem dJ13_bitCount_95d88_24 : decode cJ13_bitCount_95d88 24 = .ok (.lload_n 0, 1) := by decide +kernel
theorem dJ13_bitCount_95d88_25 : decode cJ13_bitCount_95d88 25 = .ok (.lload_n 0, 1) := by decide +kernel
theorem dJ13_bitCount_95d88_26 : decode cJ13_bitCount_95d88 26 = .ok (.iconst 4, 1) := by decide +kernel
theorem dJ13_bitCount_95d88_27 : decode cJ13_bitCount_95d88 27 = .ok (.lushr, 1) := by decide +kernel
theorem dJ13_bitCount_95d88_28 : decode cJ13_bitCount_95d88 28 = .ok (.ladd, 1) := by decide +kernel
theorem dJ13_bitCount_95d88_29 : decode cJ13_bitCount_95d88 29 = .ok (.ldc2_w 318, 3) := by decide +kernel
theorem dJ13_bitCount_95d88_32 : decode cJ13_bitCount_95d88 32 = .ok (.land, 1) := by decide +kernel
theorem dJ13_bitCount_95d88_33 : decode cJ13_bitCount_95d88 33 = .ok (.lstore_n 0, 1) := by decide +kernel
theorem dJ13_bitCount_95d88_34 : decode cJ13_bitCount_95d88 34 = .ok (.lload_n 0, 1) := by decide +kernel
theorem dJ13_bitCount_95d88_35 : decode cJ13_bitCount_95d88 35 = .ok (.lload_n 0, 1) := by decide +kernel
theorem dJ13_bitCount_95d88_36 : decode cJ13_bitCount_95d88 36 = .ok (.bipush 8, 2) := by decide +kernel
theorem dJ13_bitCount_95d88_38 : decode cJ13_bitCount_95d88 38 = .ok (.lushr, 1) := by decide +kernel
theorem dJ13_bitCount_95d88_39 : decode cJ13_bitCount_95d88 39 = .ok (.ladd, 1) := by decide +kernel
theorem dJ13_bitCount_95d88_40 : decode cJ13_bitCount_95d88 40 = .ok (.lstore_n 0, 1) := by decide +kernel
theorem dJ13_bitCount_95d88_41 : decode cJ13_bitCount_95d88 41 = .ok (.lload_n 0, 1) := by decide +kernel
theorem dJ13_bitCount_95d88_42 : decode cJ13_bitCount_95d88 42 = .ok (.lload_n 0, 1) := by decide +kernel
theorem dJ13_bitCount_95d88_43 : decode cJ13_bitCount_95d88 43 = .ok (.bipush 16, 2) := by decide +kernel
theorem dJ13_bitCount_95d88_45 : decode cJ13_bitCount_95d88 45 = .ok (.lushr, 1) := by decide +kernel
theorem dJ13_bitCount_95d88_46 : decode cJ13_bitCount_95d88 46 = .ok (.ladd, 1) := by decide +kernel
theorem dJ13_bitCount_95d88_47 : decode cJ13_bitCount_95d88 47 = .ok (.lstore_n 0, 1) := by decide +kernel
theorem dJ13_bitCount_95d88_48 : decode cJ13_bitCount_95d88 48 = .ok (.lload_n 0, 1) := by decide +kernel
theorem dJ13_bitCount_95d88_49 : decode cJ13_bitCount_95d88 49 = .ok (.lload_n 0, 1) := by decide +kernel
theorem dJ13_bitCount_95d88_50 : decode cJ13_bitCount_95d88 50 = .ok (.bipush 32, 2) := by decide +kernel
theorem dJ13_bitCount_95d88_52 : decode cJ13_bitCount_95d88 52 = .ok (.lushr, 1) := by decide +kernel
theorem dJ13_bitCount_95d88_53 : decode cJ13_bitCount_95d88 53 = .ok (.ladd, 1) := by decide +kernel
theorem dJ13_bitCount_95d88_54 : decode cJ13_bitCount_95d88 54 = .ok (.lstore_n 0, 1) := by decide +kernel
theorem dJ13_bitCount_95d88_55 : decode cJ13_bitCount_95d88 55 = .ok (.lload_n 0, 1) := by decide +kernel
theorem dJ13_bitCount_95d88_56 : decode cJ13_bitCount_95d88 56 = .ok (.l2i, 1) := by decide +kernel
theorem dJ13_bitCount_95d88_57 : decode cJ13_bitCount_95d88 57 = .ok (.bipush 127, 2) := by decide +kernel
theorem dJ13_bitCount_95d88_59 : decode cJ13_bitCount_95d88 59 = .ok (.iand, 1) := by decide +kernel
theorem dJ13_bitCount_95d88_60 : decode cJ13_bitCount_95d88 60 = .ok (.ireturn, 1) := by decide +kernel
theorem dJ9_max_7cf53_0 : decode cJ9_max_7cf53 0 = .ok (.iload_n 0, 1) := by decide +kernel
theorem dJ9_max_7cf53_1 : decode cJ9_max_7cf53 1 = .ok (.iload_n 1, 1) := by decide +kernel
theorem dJ9_max_7cf53_2 : decode cJ9_max_7cf53 2 = .ok (.if_icmp .lt 7, 3) := by decide +kernel
theorem dJ9_max_7cf53_5 : decode cJ9_max_7cf53 5 = .ok (.iload_n 0, 1) := by decide +kernel
theorem dJ9_max_7cf53_6 : decode cJ9_max_7cf53 6 = .ok (.goto 4, 3) := by decide +kernel
theorem dJ9_max_7cf53_9 : decode cJ9_max_7cf53 9 = .ok (.iload_n 1, 1) := by decide +kernel
theorem dJ9_max_7cf53_10 : decode cJ9_max_7cf53 10 = .ok (.ireturn, 1) := by decide +kernel
theorem dJ9_min_7cf53_0 : decode cJ9_min_7cf53 0 = .ok (.iload_n 0, 1) := by decide +kernel
theorem dJ9_min_7cf53_1 : decode cJ9_min_7cf53 1 = .ok (.iload_n 1, 1) := by decide +kernel
theorem dJ9_min_7cf53_2 : decode cJ9_min_7cf53 2 = .ok (.if_icmp .gt 7, 3) := by decide +kernel
theorem dJ9_min_7cf53_5 : decode cJ9_min_7cf53 5 = .ok (.iload_n 0, 1) := by decide +kernel
theorem dJ9_min_7cf53_6 : decode cJ9_min_7cf53 6 = .ok (.goto 4, 3) := by decide +kernel
theorem dJ9_min_7cf53_9 : decode cJ9_min_7cf53 9 = .ok (.iload_n 1, 1) := by decide +kernel
theorem dJ9_min_7cf53_10 : decode cJ9_min_7cf53 10 = .ok (.ireturn, 1) := by decide +kernel
theorem dJ7_fill_d0a16_0 : decode cJ7_fill_d0a16 0 = .ok (.iconst 0, 1) := by decide +kernel
theorem dJ7_fill_d0a16_1 : decode cJ7_fill_d0a16 1 = .ok (.istore_n 3, 1) := by decide +kernel
theorem dJ7_fill_d0a16_2 : decode cJ7_fill_d0a16 2 = .ok (.aload_n 0, 1) := by decide +kernel
theorem dJ7_fill_d0a16_3 : decode cJ7_fill_d0a16 3 = .ok (.arraylength, 1) := by decide +kernel
theorem dJ7_fill_d0a16_4 : decode cJ7_fill_d0a16 4 = .ok (.istore 4, 2) := by decide +kernel
theorem dJ7_fill_d0a16_6 : decode cJ7_fill_d0a16 6 = .ok (.iload_n 3, 1) := by decide +kernel
theorem dJ7_fill_d0a16_7 : decode cJ7_fill_d0a16 7 = .ok (.iload 4, 2) := by decide +kernel
theorem dJ7_fill_d0a16_9 : decode cJ7_fill_d0a16 9 = .ok (.if_icmp .ge 13, 3) := by decide +kernel
theorem dJ7_fill_d0a16_12 : decode cJ7_fill_d0a16 12 = .ok (.aload_n 0, 1) := by decide +kernel
theorem dJ7_fill_d0a16_13 : decode cJ7_fill_d0a16 13 = .ok (.iload_n 3, 1) := by decide +kernel
theorem dJ7_fill_d0a16_14 : decode cJ7_fill_d0a16 14 = .ok (.lload_n 1, 1) := by decide +kernel
theorem dJ7_fill_d0a16_15 : decode cJ7_fill_d0a16 15 = .ok (.lastore, 1) := by decide +kernel
theorem dJ7_fill_d0a16_16 : decode cJ7_fill_d0a16 16 = .ok (.iinc 3 1, 3) := by decide +kernel
theorem dJ7_fill_d0a16_19 : decode cJ7_fill_d0a16 19 = .ok (.goto (-13), 3) := by decide +kernel
theorem dJ7_fill_d0a16_22 : decode cJ7_fill_d0a16 22 = .ok (.return_, 1) := by decide +kernel
end
section
abbrev vwCl : List vw_C := [(RX0, TX0, 3), (RX1, TX1, 15), (RX2, TX2, 7), (RX3, TX3, 1), (RX4, TX4, 3), (RX5, TX5, 9), (RX6, TX6, 17)]
/-! The rows of this claim's own: pictures, calls, branches over numbers -/
def kN (U : State) : Prop := va_Nw (.methodLinkNest RX2 18 yX5_bit RX5) U ∧ va_Nw (.methodLinkNest RX4 38 yX5_lowest RX5) U ∧ va_Nw (.methodLinkNest RX4 42 yX5_bit RX5) U ∧ va_Nw (.methodLinkNest RX3 25 yX5_bit RX5) U ∧ va_Nw (.methodLinkNest RX1 110 yX5_bit RX5) U ∧ va_Nw (.methodLinkNest RX5 11 yX2_init RX5) U ∧ va_Nw (.methodLinkNest RX5 18 yX0_init RX5) U ∧ va_Nw (.methodLinkNest RX5 25 yX4_init RX5) U ∧ va_Nw (.methodLinkNest RX5 32 yX1_init RX5) U
theorem kN_X2_18 {U : State} (h : kN U) : va_Nw (.methodLinkNest RX2 18 yX5_bit RX5) U := h.1
theorem kN_X4_38 {U : State} (h : kN U) : va_Nw (.methodLinkNest RX4 38 yX5_lowest RX5) U := h.2.1
theorem kN_X4_42 {U : State} (h : kN U) : va_Nw (.methodLinkNest RX4 42 yX5_bit RX5) U := h.2.2.1
theorem kN_X3_25 {U : State} (h : kN U) : va_Nw (.methodLinkNest RX3 25 yX5_bit RX5) U := h.2.2.2.1
theorem kN_X1_110 {U : State} (h : kN U) : va_Nw (.methodLinkNest RX1 110 yX5_bit RX5) U := h.2.2.2.2.1
theorem kN_X5_11 {U : State} (h : kN U) : va_Nw (.methodLinkNest RX5 11 yX2_init RX5) U := h.2.2.2.2.2.1
theorem kN_X5_18 {U : State} (h : kN U) : va_Nw (.methodLinkNest RX5 18 yX0_init RX5) U := h.2.2.2.2.2.2.1
theorem kN_X5_25 {U : State} (h : kN U) : va_Nw (.methodLinkNest RX5 25 yX4_init RX5) U := h.2.2.2.2.2.2.2.1
theorem kN_X5_32 {U : State} (h : kN U) : va_Nw (.methodLinkNest RX5 32 yX1_init RX5) U := h.2.2.2.2.2.2.2.2
theorem kN.warm {s U : State} (hW : s.WarmedH U.vm) (h : kN s) : kN U := ⟨va_Nw.warmM hW h.1, va_Nw.warmM hW h.2.1, va_Nw.warmM hW h.2.2.1, va_Nw.warmM hW h.2.2.2.1, va_Nw.warmM hW h.2.2.2.2.1, va_Nw.warmM hW h.2.2.2.2.2.1, va_Nw.warmM hW h.2.2.2.2.2.2.1, va_Nw.warmM hW h.2.2.2.2.2.2.2.1, va_Nw.warmM hW h.2.2.2.2.2.2.2.2⟩
theorem kN.same {s U : State} (e : s.vm = U.vm) (h : kN s) : kN U := ⟨va_Nw.same rfl e h.1, va_Nw.same rfl e h.2.1, va_Nw.same rfl e h.2.2.1, va_Nw.same rfl e h.2.2.2.1, va_Nw.same rfl e h.2.2.2.2.1, va_Nw.same rfl e h.2.2.2.2.2.1, va_Nw.same rfl e h.2.2.2.2.2.2.1, va_Nw.same rfl e h.2.2.2.2.2.2.2.1, va_Nw.same rfl e h.2.2.2.2.2.2.2.2⟩
abbrev kT (cI cJ cZ : ClassId) : List (ClassId × FieldType) := [(cI, .int), (cJ, .long), (cZ, .boolean)]
def kK (D : va_G) (cI cJ cZ : ClassId) (U : State) : Prop := va_K D vwCl (kT cI cJ cZ) U ∧ kN U
theorem kK.warm {D : va_G} {cI cJ cZ : ClassId} {s U : State} (hW : s.WarmedH U.vm) (h : kK D cI cJ cZ s) : kK D cI cJ cZ U := ⟨va_K.moved hW.alike h.1, h.2.warm hW⟩
/-- a method's start -/
def kP0 (D : va_G) (cI cJ cZ : ClassId) (ws : va_W) (sz : Nat) (U : State) : Prop := U.heap.size = sz ∧ va_P D vwCl ws U.heap ∧ kK D cI cJ cZ U ∧ va_D (fun _ => True) ws
theorem kP0_blind {av : List Value} {D : va_G} {cI cJ cZ : ClassId} {ws : va_W} {sz : Nat} : FrameBlind (va_Pc av (kP0 D cI cJ cZ ws sz)) := by
  intro a U g mk q
  obtain ⟨q0, q1, qP, ⟨qK, qN⟩, qD⟩ := q
  exact ⟨q0, q1, qP, ⟨va_K.moved (u := U) (U := U.calling g mk a) (Vm.Alike.refl U.vm) qK, qN.same rfl⟩, qD⟩
/-- a method's end: its world -/
def kB {S : Type} (D : va_G) (A : Nat → Prop) (f : S → va_W) (u : S) (t : State) : Prop := va_P D vwCl (f u) t.heap ∧ va_D A (f u)
abbrev kMI (l : Launch) (y : MethodName) (ws : List Cond) (fr lo : Nat) (D : va_G) (cI cJ cZ : ClassId) (av : List Value) (wc : va_W) (sz : Nat) {S : Type} (post : Int32 → S → Prop) (f : S → va_W) : Prop :=
  Met l y ws ({ frames := fr, cells := 0, slots := 0, locals := lo }) (va_Pc av (kP0 D cI cJ cZ wc sz)) (va_Qi post (kB D (va_A wc sz) f) (va_A wc sz)) 0 0 (va_A wc sz)
abbrev kMJ (l : Launch) (y : MethodName) (ws : List Cond) (fr lo : Nat) (D : va_G) (cI cJ cZ : ClassId) (av : List Value) (wc : va_W) (sz : Nat) {S : Type} (post : Int64 → S → Prop) (f : S → va_W) : Prop :=
  Met l y ws ({ frames := fr, cells := 0, slots := 0, locals := lo }) (va_Pc av (kP0 D cI cJ cZ wc sz)) (va_Ql post (kB D (va_A wc sz) f) (va_A wc sz)) 0 0 (va_A wc sz)
abbrev kMV (l : Launch) (y : MethodName) (ws : List Cond) (fr lo : Nat) (D : va_G) (cI cJ cZ : ClassId) (av : List Value) (wc : va_W) (sz : Nat) {S : Type} (post : S → Prop) (f : S → va_W) : Prop :=
  Met l y ws ({ frames := fr, cells := 0, slots := 0, locals := lo }) (va_Pc av (kP0 D cI cJ cZ wc sz)) (va_Qv post (kB D (va_A wc sz) f) (va_A wc sz)) 0 0 (va_A wc sz)
theorem k_pick {ws wc : va_W} {is : List Nat} (hC : is.map (fun i => ws[i]?) = wc.map some) : is.filterMap (fun i => ws[i]?) = wc := by
  have h2 : is.filterMap (fun i => ws[i]?) = (is.map (fun i => ws[i]?)).filterMap id := by rw [List.filterMap_map]; rfl
  rw [h2, hC, List.filterMap_map]
  exact List.filterMap_some
theorem kPS {D : va_G} {cI cJ cZ : ClassId} {A : Nat → Prop} {ws wc : va_W} {s : State} {H : Heap} {As : List Value} (hK : kK D cI cJ cZ s) (hP : va_P D vwCl ws H) (hD : va_D A ws) (is : List Nat) (hC : is.map (fun i => ws[i]?) = wc.map some) (hn : va_nd is = true) : PreS s H (va_Pc As (kP0 D cI cJ cZ wc H.size)) As := by
  have hPc : va_P D vwCl wc H := hP.sub is (k_pick hC)
  exact ⟨kP0_blind, fun U hU hW => ⟨rfl, by rw [hU], by rw [hU]; exact hPc, hK.warm hW, (hD.sub is hn hC).weaken (fun _ _ _ _ => trivial)⟩⟩
theorem kPV {D : va_G} {cI cJ cZ : ClassId} {A : Nat → Prop} {ws wc : va_W} {s : State} {H : Heap} {b : Nat} {As : List Value} {ci q0 : Nat} {q : vw_C} {fs : List Value} (hK : kK D cI cJ cZ s) (hP : va_P D vwCl ws H) (hD : va_D A ws) (is : List Nat) (hC : is.map (fun i => ws[i]?) = wc.map some) (hn : va_nd is = true) (hc : vwCl[ci]? = some q) (he : wc[q0]? = some (b, .inr (ci, fs))) : PreV s H q.1 b (va_Pc (.ref b :: As) (kP0 D cI cJ cZ wc H.size)) As := by
  have hS := kPS (As := .ref b :: As) hK hP hD is hC hn
  have hPc : va_P D vwCl wc H := hP.sub is (k_pick hC)
  exact ⟨hS.1, va_recv hK.1 hPc (ci := ci) (q0 := q0) hc he, hS.2⟩
section KW
variable {p : Program} {l : Launch} {e : Env} {R : Room} {s : State} {m : MethodId} {args : Array Value} {below : List Frame} {meth : Method} {c : Code} {H : Heap} {locs : List Loc} {cells slots : Nat} {Q : State → Prop} {pc : Nat} {ls : Array Slot} {rest st0 : List Value} {cc : ByteArray}
theorem k_toi {x y : Int32} (h : x = y) (k : W p l e R s m args below meth c H locs cells slots Q (F0 m pc ls (.int y :: rest))) : W p l e R s m args below meth c H locs cells slots Q (F0 m pc ls (.int x :: rest)) := h ▸ k
theorem k_tol {x y : Int64} (h : x = y) (k : W p l e R s m args below meth c H locs cells slots Q (F0 m pc ls (.long y :: rest))) : W p l e R s m args below meth c H locs cells slots Q (F0 m pc ls (.long x :: rest)) := h ▸ k
theorem k_inc (n k : Nat) : nI n + Int32.ofInt (k : Int) = nI (n + k) := by
  have h : Int32.ofInt (k : Int) = nI k := by
    apply Int32.toBitVec_inj.mp
    show BitVec.ofInt 32 (k : Int) = BitVec.ofNat 32 k
    exact BitVec.ofInt_natCast 32 k
  rw [h, nI_add]
/-- a loop: a measure falls -/
theorem kw_loop {σ : Type} (I : σ → Heap → List Loc → Array Slot → Prop) (μ : σ → Nat)
    (x : σ) (h0 : I x H locs ls)
    (step : ∀ (x : σ) (H : Heap) (locs : List Loc) (ls : Array Slot), I x H locs ls → (∀ (x' : σ) (H' : Heap) (locs' : List Loc) (ls' : Array Slot), μ x' < μ x → I x' H' locs' ls' → W p l e R s m args below meth c H' locs' cells slots Q (F0 m pc ls' [])) → W p l e R s m args below meth c H locs cells slots Q (F0 m pc ls [])) :
    W p l e R s m args below meth c H locs cells slots Q (F0 m pc ls []) := by
  suffices h : ∀ (n : Nat) (x : σ) (H : Heap) (locs : List Loc) (ls : Array Slot), μ x < n → I x H locs ls → W p l e R s m args below meth c H locs cells slots Q (F0 m pc ls []) from h (μ x + 1) x H locs ls (Nat.lt_succ_self _) h0
  intro n
  induction n with
  | zero => intro x H locs ls h; exact absurd h (Nat.not_lt_zero _)
  | succ n ih => intro x H locs ls h hI; exact step x H locs ls hI (fun x' H' locs' ls' hx' hI' => ih x' H' locs' ls' (by omega) hI')
/-- roads that meet -/
theorem kw_cut {σ : Type} (I : σ → Heap → List Loc → Array Slot → Prop) (pc' : Nat) (st : σ → List Value)
    (main : (∀ (x : σ) (H : Heap) (locs : List Loc) (ls : Array Slot), I x H locs ls → W p l e R s m args below meth c H locs cells slots Q (F0 m pc' ls (st x))) → W p l e R s m args below meth c H locs cells slots Q (F0 m pc ls st0))
    (cont : ∀ (x : σ) (H : Heap) (locs : List Loc) (ls : Array Slot), I x H locs ls → W p l e R s m args below meth c H locs cells slots Q (F0 m pc' ls (st x))) :
    W p l e R s m args below meth c H locs cells slots Q (F0 m pc ls st0) := main cont
theorem k_cmp0 {x y : Int64} : lg_cmp x y = 0 ↔ x = y := by
  unfold lg_cmp
  by_cases h1 : y < x
  · simp only [h1, if_true]
    refine ⟨fun h => absurd h (by decide), fun h => ?_⟩
    subst h
    exact absurd h1 (Int64.lt_irrefl)
  · by_cases h2 : x = y
    · simp [h1, h2]
    · simp only [h1, h2, if_false]
      exact ⟨fun h => absurd h (by decide), fun h => absurd h (by first | exact h2 | decide)⟩
theorem kw_cmp_eq (hexec : p.tables.exec = Jvm.exec) (hb : c.code = cc) {x y : Int64} {off : Int} {tgt : Nat} (hdg : decode cc pc = .ok (.ifCond .eq off, 3)) (ht : (pc : Int) + off = (tgt : Int))
    (kt : x = y → W p l e R s m args below meth c H locs cells slots Q (F0 m tgt ls rest)) (kf : ¬ x = y → W p l e R s m args below meth c H locs cells slots Q (F0 m (pc + 3) ls rest)) : W p l e R s m args below meth c H locs cells slots Q (F0 m pc ls (.int (lg_cmp x y) :: rest)) :=
  lv_if_eq hexec hb hdg ht (fun h => kt (k_cmp0.mp h)) (fun h => kf (fun h' => h (k_cmp0.mpr h')))
theorem kw_cmp_ne (hexec : p.tables.exec = Jvm.exec) (hb : c.code = cc) {x y : Int64} {off : Int} {tgt : Nat} (hdg : decode cc pc = .ok (.ifCond .ne off, 3)) (ht : (pc : Int) + off = (tgt : Int))
    (kt : ¬ x = y → W p l e R s m args below meth c H locs cells slots Q (F0 m tgt ls rest)) (kf : x = y → W p l e R s m args below meth c H locs cells slots Q (F0 m (pc + 3) ls rest)) : W p l e R s m args below meth c H locs cells slots Q (F0 m pc ls (.int (lg_cmp x y) :: rest)) :=
  lv_if_ne hexec hb hdg ht (fun h => kt (fun h' => h (k_cmp0.mpr h'))) (fun h => kf (k_cmp0.mp h))
theorem kw_if_eq (hexec : p.tables.exec = Jvm.exec) (hb : c.code = cc) {a : Nat} {off : Int} {tgt : Nat} (hdg : decode cc pc = .ok (.ifCond .eq off, 3)) (ht : (pc : Int) + off = (tgt : Int)) (ha : a < 2 ^ 31)
    (kt : a = 0 → W p l e R s m args below meth c H locs cells slots Q (F0 m tgt ls rest)) (kf : 0 < a → W p l e R s m args below meth c H locs cells slots Q (F0 m (pc + 3) ls rest)) : W p l e R s m args below meth c H locs cells slots Q (F0 m pc ls (.int (nI a) :: rest)) :=
  lv_if_eq hexec hb hdg ht (fun h => kt (Nat.eq_zero_or_pos a |>.elim id (fun h2 => absurd h (nI_ne0 h2 ha)))) (fun h => kf (Nat.pos_of_ne_zero (fun h2 => h (by rw [h2, nI_0]))))
theorem kw_if_ne (hexec : p.tables.exec = Jvm.exec) (hb : c.code = cc) {a : Nat} {off : Int} {tgt : Nat} (hdg : decode cc pc = .ok (.ifCond .ne off, 3)) (ht : (pc : Int) + off = (tgt : Int)) (ha : a < 2 ^ 31)
    (kt : 0 < a → W p l e R s m args below meth c H locs cells slots Q (F0 m tgt ls rest)) (kf : a = 0 → W p l e R s m args below meth c H locs cells slots Q (F0 m (pc + 3) ls rest)) : W p l e R s m args below meth c H locs cells slots Q (F0 m pc ls (.int (nI a) :: rest)) :=
  lv_if_ne hexec hb hdg ht (fun h => kt (Nat.pos_of_ne_zero (fun h2 => h (by rw [h2, nI_0])))) (fun h => kf (Nat.eq_zero_or_pos a |>.elim id (fun h2 => absurd h (nI_ne0 h2 ha))))
theorem kw_if_lt (hexec : p.tables.exec = Jvm.exec) (hb : c.code = cc) {a : Nat} {off : Int} {tgt : Nat} (hdg : decode cc pc = .ok (.ifCond .lt off, 3)) (ht : (pc : Int) + off = (tgt : Int)) (ha : a < 2 ^ 31)
    (_kt : False → W p l e R s m args below meth c H locs cells slots Q (F0 m tgt ls rest)) (kf : True → W p l e R s m args below meth c H locs cells slots Q (F0 m (pc + 3) ls rest)) : W p l e R s m args below meth c H locs cells slots Q (F0 m pc ls (.int (nI a) :: rest)) :=
  lv_if_lt hexec hb hdg ht (fun h => absurd h (nI_pos ha)) (fun _ => kf trivial)
theorem kw_if_le (hexec : p.tables.exec = Jvm.exec) (hb : c.code = cc) {a : Nat} {off : Int} {tgt : Nat} (hdg : decode cc pc = .ok (.ifCond .le off, 3)) (ht : (pc : Int) + off = (tgt : Int)) (ha : a < 2 ^ 31)
    (kt : a = 0 → W p l e R s m args below meth c H locs cells slots Q (F0 m tgt ls rest)) (kf : 0 < a → W p l e R s m args below meth c H locs cells slots Q (F0 m (pc + 3) ls rest)) : W p l e R s m args below meth c H locs cells slots Q (F0 m pc ls (.int (nI a) :: rest)) :=
  lv_if_le hexec hb hdg ht (fun h => kt (Nat.eq_zero_or_pos a |>.elim id (fun h2 => absurd h (nI_nle h2 ha)))) (fun h => kf (Nat.pos_of_ne_zero (fun h2 => h (by rw [h2]; decide))))
theorem kw_icmp_eq (hexec : p.tables.exec = Jvm.exec) (hb : c.code = cc) {a b : Nat} {off : Int} {tgt : Nat} (hdg : decode cc pc = .ok (.if_icmp .eq off, 3)) (ht : (pc : Int) + off = (tgt : Int)) (ha : a < 2 ^ 31) (hb2 : b < 2 ^ 31)
    (kt : a = b → W p l e R s m args below meth c H locs cells slots Q (F0 m tgt ls rest)) (kf : a ≠ b → W p l e R s m args below meth c H locs cells slots Q (F0 m (pc + 3) ls rest)) : W p l e R s m args below meth c H locs cells slots Q (F0 m pc ls (.int (nI b) :: .int (nI a) :: rest)) :=
  lv_icmp_eq hexec hb hdg ht (fun h => kt ((nI_eq ha hb2).mp h)) (fun h => kf (fun h2 => h ((nI_eq ha hb2).mpr h2)))
theorem kw_icmp_ne (hexec : p.tables.exec = Jvm.exec) (hb : c.code = cc) {a b : Nat} {off : Int} {tgt : Nat} (hdg : decode cc pc = .ok (.if_icmp .ne off, 3)) (ht : (pc : Int) + off = (tgt : Int)) (ha : a < 2 ^ 31) (hb2 : b < 2 ^ 31)
    (kt : a ≠ b → W p l e R s m args below meth c H locs cells slots Q (F0 m tgt ls rest)) (kf : a = b → W p l e R s m args below meth c H locs cells slots Q (F0 m (pc + 3) ls rest)) : W p l e R s m args below meth c H locs cells slots Q (F0 m pc ls (.int (nI b) :: .int (nI a) :: rest)) :=
  lv_icmp_ne hexec hb hdg ht (fun h => kt (fun h2 => h ((nI_eq ha hb2).mpr h2))) (fun h => kf ((nI_eq ha hb2).mp h))
theorem kw_icmp_lt (hexec : p.tables.exec = Jvm.exec) (hb : c.code = cc) {a b : Nat} {off : Int} {tgt : Nat} (hdg : decode cc pc = .ok (.if_icmp .lt off, 3)) (ht : (pc : Int) + off = (tgt : Int)) (ha : a < 2 ^ 31) (hb2 : b < 2 ^ 31)
    (kt : a < b → W p l e R s m args below meth c H locs cells slots Q (F0 m tgt ls rest)) (kf : b ≤ a → W p l e R s m args below meth c H locs cells slots Q (F0 m (pc + 3) ls rest)) : W p l e R s m args below meth c H locs cells slots Q (F0 m pc ls (.int (nI b) :: .int (nI a) :: rest)) :=
  lv_icmp_lt hexec hb hdg ht (fun h => kt ((nI_ltI ha hb2).mp h)) (fun h => kf (Nat.le_of_not_lt (fun h2 => h ((nI_ltI ha hb2).mpr h2))))
theorem kw_icmp_ge (hexec : p.tables.exec = Jvm.exec) (hb : c.code = cc) {a b : Nat} {off : Int} {tgt : Nat} (hdg : decode cc pc = .ok (.if_icmp .ge off, 3)) (ht : (pc : Int) + off = (tgt : Int)) (ha : a < 2 ^ 31) (hb2 : b < 2 ^ 31)
    (kt : b ≤ a → W p l e R s m args below meth c H locs cells slots Q (F0 m tgt ls rest)) (kf : a < b → W p l e R s m args below meth c H locs cells slots Q (F0 m (pc + 3) ls rest)) : W p l e R s m args below meth c H locs cells slots Q (F0 m pc ls (.int (nI b) :: .int (nI a) :: rest)) :=
  lv_icmp_ge hexec hb hdg ht (fun h => kt ((nI_leI hb2 ha).mp h)) (fun h => kf (Nat.lt_of_not_le (fun h2 => h ((nI_leI hb2 ha).mpr h2))))
theorem kw_icmp_gt (hexec : p.tables.exec = Jvm.exec) (hb : c.code = cc) {a b : Nat} {off : Int} {tgt : Nat} (hdg : decode cc pc = .ok (.if_icmp .gt off, 3)) (ht : (pc : Int) + off = (tgt : Int)) (ha : a < 2 ^ 31) (hb2 : b < 2 ^ 31)
    (kt : b < a → W p l e R s m args below meth c H locs cells slots Q (F0 m tgt ls rest)) (kf : a ≤ b → W p l e R s m args below meth c H locs cells slots Q (F0 m (pc + 3) ls rest)) : W p l e R s m args below meth c H locs cells slots Q (F0 m pc ls (.int (nI b) :: .int (nI a) :: rest)) :=
  lv_icmp_gt hexec hb hdg ht (fun h => kt ((nI_ltI hb2 ha).mp h)) (fun h => kf (Nat.le_of_not_lt (fun h2 => h ((nI_ltI hb2 ha).mpr h2))))
theorem kw_icmp_le (hexec : p.tables.exec = Jvm.exec) (hb : c.code = cc) {a b : Nat} {off : Int} {tgt : Nat} (hdg : decode cc pc = .ok (.if_icmp .le off, 3)) (ht : (pc : Int) + off = (tgt : Int)) (ha : a < 2 ^ 31) (hb2 : b < 2 ^ 31)
    (kt : a ≤ b → W p l e R s m args below meth c H locs cells slots Q (F0 m tgt ls rest)) (kf : b < a → W p l e R s m args below meth c H locs cells slots Q (F0 m (pc + 3) ls rest)) : W p l e R s m args below meth c H locs cells slots Q (F0 m pc ls (.int (nI b) :: .int (nI a) :: rest)) :=
  lv_icmp_le hexec hb hdg ht (fun h => kt ((nI_leI ha hb2).mp h)) (fun h => kf (Nat.lt_of_not_le (fun h2 => h ((nI_leI ha hb2).mpr h2))))
/-- behind a call, for the three kinds of answers: the caller's cells in their own order -/
theorem k_back {D : va_G} {A : Nat → Prop} {ws wc wr w1 w2 : va_W} {H H1 : Heap} (hP : va_P D vwCl ws H) (hD : va_D A ws) (hF : ∀ q, va_A wc H.size q → A q) (isC isR perm : List Nat) (hC : isC.map (fun i => ws[i]?) = wc.map some) (hR : isR.map (fun i => ws[i]?) = wr.map some) (hn : va_nd isR = true) (hdis : ∀ i ∈ isR, i ∉ isC)
    (hp1 : perm.map (fun i => (wr ++ w1)[i]?) = w2.map some) (hp2 : va_nd perm = true) (hk : ∀ q : Nat, q < H.size → ¬ va_A wc H.size q → H1[q]? = H[q]?) (hP1 : va_P D vwCl w1 H1) (hD1 : va_D (va_A wc H.size) w1) : va_P D vwCl w2 H1 ∧ va_D A w2 := by
  obtain ⟨h1, h2⟩ := va_join (wr := wr) (w1 := w1) hP hD isC isR hC hR hn hdis hk hF hP1 hD1
  exact ⟨h1.sub perm (k_pick hp1), h2.sub perm hp2 hp1⟩
theorem k_calli {D : va_G} {A : Nat → Prop} {S : Type} {post : Int32 → S → Prop} {f : S → va_W} {ws wc wr : va_W} {a : Array Value} {w2 : S → va_W}
    (hr : va_Run p l e R s m args below meth c H locs cells slots 0 0 (F0 m pc ls st0) rest (va_Qi post (kB D (va_A wc H.size) f) (va_A wc H.size) a) (va_A wc H.size))
    (hP : va_P D vwCl ws H) (hD : va_D A ws) (hS : va_S A s.heap H locs) (hA : ∀ q, s.heap.size ≤ q → A q) (isC isR perm : List Nat) (hC : isC.map (fun i => ws[i]?) = wc.map some) (hR : isR.map (fun i => ws[i]?) = wr.map some) (hn : va_nd isR = true) (hdis : ∀ i ∈ isR, i ∉ isC)
    (hp1 : ∀ u, perm.map (fun i => (wr ++ f u)[i]?) = (w2 u).map some) (hp2 : va_nd perm = true)
    (kk : ∀ (r : Int32) (u : S) (H1 : Heap) (locs1 : List Loc), post r u → va_P D vwCl (w2 u) H1 → va_D A (w2 u) → va_S A s.heap H1 locs1 → W p l e R s m args below meth c H1 locs1 cells slots Q (F0 m (pc + 3) ls (.int r :: rest))) :
    W p l e R s m args below meth c H locs cells slots Q (F0 m pc ls st0) := by
  have hF := va_free (wc := wc) hD hS hA isC hC
  refine va_calli hr hS (fun q _ h => hF q h) hF (fun r u t H1 locs1 ht hvm hw hB hz1 hk1 hS1 => ?_)
  obtain ⟨hP1, hD1⟩ := hB
  rw [ht] at hP1
  obtain ⟨h1, h2⟩ := k_back hP hD hF isC isR perm hC hR hn hdis (hp1 u) hp2 hk1 hP1 hD1
  exact kk r u H1 locs1 hw h1 h2 hS1
theorem k_calll {D : va_G} {A : Nat → Prop} {S : Type} {post : Int64 → S → Prop} {f : S → va_W} {ws wc wr : va_W} {a : Array Value} {w2 : S → va_W}
    (hr : va_Run p l e R s m args below meth c H locs cells slots 0 0 (F0 m pc ls st0) rest (va_Ql post (kB D (va_A wc H.size) f) (va_A wc H.size) a) (va_A wc H.size))
    (hP : va_P D vwCl ws H) (hD : va_D A ws) (hS : va_S A s.heap H locs) (hA : ∀ q, s.heap.size ≤ q → A q) (isC isR perm : List Nat) (hC : isC.map (fun i => ws[i]?) = wc.map some) (hR : isR.map (fun i => ws[i]?) = wr.map some) (hn : va_nd isR = true) (hdis : ∀ i ∈ isR, i ∉ isC)
    (hp1 : ∀ u, perm.map (fun i => (wr ++ f u)[i]?) = (w2 u).map some) (hp2 : va_nd perm = true)
    (kk : ∀ (r : Int64) (u : S) (H1 : Heap) (locs1 : List Loc), post r u → va_P D vwCl (w2 u) H1 → va_D A (w2 u) → va_S A s.heap H1 locs1 → W p l e R s m args below meth c H1 locs1 cells slots Q (F0 m (pc + 3) ls (.long r :: rest))) :
    W p l e R s m args below meth c H locs cells slots Q (F0 m pc ls st0) := by
  have hF := va_free (wc := wc) hD hS hA isC hC
  refine va_calll hr hS (fun q _ h => hF q h) hF (fun r u t H1 locs1 ht hvm hw hB hz1 hk1 hS1 => ?_)
  obtain ⟨hP1, hD1⟩ := hB
  rw [ht] at hP1
  obtain ⟨h1, h2⟩ := k_back hP hD hF isC isR perm hC hR hn hdis (hp1 u) hp2 hk1 hP1 hD1
  exact kk r u H1 locs1 hw h1 h2 hS1
theorem k_callv {D : va_G} {A : Nat → Prop} {S : Type} {post : S → Prop} {f : S → va_W} {ws wc wr : va_W} {a : Array Value} {w2 : S → va_W}
    (hr : va_Run p l e R s m args below meth c H locs cells slots 0 0 (F0 m pc ls st0) rest (va_Qv post (kB D (va_A wc H.size) f) (va_A wc H.size) a) (va_A wc H.size))
    (hP : va_P D vwCl ws H) (hD : va_D A ws) (hS : va_S A s.heap H locs) (hA : ∀ q, s.heap.size ≤ q → A q) (isC isR perm : List Nat) (hC : isC.map (fun i => ws[i]?) = wc.map some) (hR : isR.map (fun i => ws[i]?) = wr.map some) (hn : va_nd isR = true) (hdis : ∀ i ∈ isR, i ∉ isC)
    (hp1 : ∀ u, perm.map (fun i => (wr ++ f u)[i]?) = (w2 u).map some) (hp2 : va_nd perm = true)
    (kk : ∀ (u : S) (H1 : Heap) (locs1 : List Loc), post u → va_P D vwCl (w2 u) H1 → va_D A (w2 u) → va_S A s.heap H1 locs1 → W p l e R s m args below meth c H1 locs1 cells slots Q (F0 m (pc + 3) ls rest)) :
    W p l e R s m args below meth c H locs cells slots Q (F0 m pc ls st0) := by
  have hF := va_free (wc := wc) hD hS hA isC hC
  refine va_callv hr hS (fun q _ h => hF q h) hF (fun u t H1 locs1 ht hvm hw hB hz1 hk1 hS1 => ?_)
  obtain ⟨hP1, hD1⟩ := hB
  rw [ht] at hP1
  obtain ⟨h1, h2⟩ := k_back hP hD hF isC isR perm hC hR hn hdis (hp1 u) hp2 hk1 hP1 hD1
  exact kk u H1 locs1 hw h1 h2 hS1
end KW
/-- the shifts of longs as the machine does them -/
abbrev kShl (x : Int64) (y : Int32) : Int64 := x <<< (y.toInt64 &&& 63)
abbrev kShr (x : Int64) (y : Int32) : Int64 := (x.toUInt64 >>> (y.toInt64.toUInt64 &&& Int64.toUInt64 63)).toInt64
theorem kz_nar {x : Int32} (h : x = 0 ∨ x = 1) : vp_nar .boolean x = x := by
  rcases h with rfl | rfl <;> decide
theorem kz_narr {x : Int32} (h : x = 0 ∨ x = 1) : narrow .boolean (.int x) = .int x := by
  rcases h with rfl | rfl <;> decide
section KW2
variable {p : Program} {l : Launch} {e : Env} {R : Room} {s : State} {m : MethodId} {args : Array Value} {below : List Frame} {meth : Method} {c : Code} {H : Heap} {locs : List Loc} {cells slots : Nat} {Q : State → Prop} {pc : Nat} {ls : Array Slot} {rest st0 : List Value} {cc : ByteArray}
theorem kw_if_ge (hexec : p.tables.exec = Jvm.exec) (hb : c.code = cc) {a : Nat} {off : Int} {tgt : Nat} (hdg : decode cc pc = .ok (.ifCond .ge off, 3)) (ht : (pc : Int) + off = (tgt : Int)) (ha : a < 2 ^ 31)
    (kt : True → W p l e R s m args below meth c H locs cells slots Q (F0 m tgt ls rest)) (_kf : False → W p l e R s m args below meth c H locs cells slots Q (F0 m (pc + 3) ls rest)) : W p l e R s m args below meth c H locs cells slots Q (F0 m pc ls (.int (nI a) :: rest)) :=
  lv_if_ge hexec hb hdg ht (fun _ => kt trivial) (fun h => absurd (nI_pos' ha) h)
theorem kw_if_gt (hexec : p.tables.exec = Jvm.exec) (hb : c.code = cc) {a : Nat} {off : Int} {tgt : Nat} (hdg : decode cc pc = .ok (.ifCond .gt off, 3)) (ht : (pc : Int) + off = (tgt : Int)) (ha : a < 2 ^ 31)
    (kt : 0 < a → W p l e R s m args below meth c H locs cells slots Q (F0 m tgt ls rest)) (kf : a = 0 → W p l e R s m args below meth c H locs cells slots Q (F0 m (pc + 3) ls rest)) : W p l e R s m args below meth c H locs cells slots Q (F0 m pc ls (.int (nI a) :: rest)) :=
  lv_if_gt hexec hb hdg ht (fun h => kt (Nat.pos_of_ne_zero (fun h2 => absurd h (by rw [h2]; decide)))) (fun h => kf (Nat.eq_zero_or_pos a |>.elim id (fun h2 => absurd (show (0 : Int32) < nI a from nI_lt (a := 0) h2 ha) h)))
end KW2
/-- one less, as an int -/
def kPr : Nat → Int32 | 0 => -1 | n + 1 => nI n
theorem k_dec (n : Nat) : nI n + Int32.ofInt (-1) = kPr n := by
  cases n with
  | zero => decide
  | succ n => exact pk_m1 n
theorem k_sub1 (n : Nat) : nI n - nI 1 = kPr n := by
  cases n with
  | zero => decide
  | succ n => exact nI_pred n
end
section

def gBit (f : Int32) : Int64 := kShl 1 f
def gAll (R C : Nat) : Int64 := kShl 1 (nI (R * C)) - 1
def gNo (C : Nat) : Int64 := kShl 1 (nI C) - 1
def gSo (R C : Nat) : Int64 := kShl (gNo C) (nI (C * (R - 1)))
def gWeN (C : Nat) : Nat → Int64 | 0 => 0 | n + 1 => gWeN C n ||| kShl 1 (nI (C * n))
def gEa (R C : Nat) : Int64 := kShl (gWeN C R) (nI (C - 1))
abbrev wGr (R C : Nat) : va_E := .inr (2, [.int (nI R), .int (nI C), .long (gAll R C), .long (gNo C), .long (gSo R C), .long (gWeN C R), .long (gEa R C)])
/-- the fields of a board of n fields, as ints -/
def fIn (n : Nat) (f : Int32) : Prop := ∃ k, k < n ∧ f = nI k
def jBC (x0 : Int64) : Int32 :=
  let x1 := x0 - (kShr x0 (nI 1) &&& 6148914691236517205)
  let x2 := (x1 &&& 3689348814741910323) + (kShr x1 (nI 2) &&& 3689348814741910323)
  let x3 := (x2 + kShr x2 (nI 4)) &&& 1085102592571150095
  let x4 := x3 + kShr x3 (nI 8)
  let x5 := x4 + kShr x4 (nI 16)
  let x6 := x5 + kShr x5 (nI 32)
  x6.toInt32 &&& nI 127
def gLow (x : Int64) : Int32 := jBC ((x &&& (-x)) - 1)
def gBes (R C : Nat) (x : Int64) : Int64 :=
  let ne := x &&& (gEa R C ^^^ (-1))
  let nw := x &&& (gWeN C R ^^^ (-1))
  let al := kShl ne (nI 1) ||| kShr nw (nI 1)
  let ac := kShl x (nI C) ||| kShr x (nI C)
  let sl := kShr ne (nI (C - 1)) ||| kShl nw (nI (C - 1))
  ((al ||| ac) ||| sl) &&& gAll R C
def gStep (R C : Nat) (w a : Int64) : Int64 := (a ||| gBes R C a) &&& w
def gIt (R C : Nat) (w : Int64) : Nat → Int64 → Int64 | 0, a => a | n + 1, a => gIt R C w n (gStep R C w a)
theorem gIt_fix {R C : Nat} {w a : Int64} (h : gStep R C w a = a) : ∀ n, gIt R C w n a = a
  | 0 => rfl
  | n + 1 => by show gIt R C w n (gStep R C w a) = a; rw [h]; exact gIt_fix h n
def gSp (R C : Nat) (x w : Int64) : Int64 := gIt R C w 36 (x &&& w)
def gGrN (R C : Nat) (w : Int64) : Nat → Int64 → Nat | 0, _ => 0 | n + 1, r => if r = 0 then 0 else gGrN R C w n (r &&& (gSp R C (r &&& (-r)) w ^^^ (-1))) + 1
def gGr (R C : Nat) (w : Int64) : Nat := gGrN R C w 36 w
theorem gGrN_0 {R C : Nat} {w : Int64} {n : Nat} {r : Int64} (h : r = 0) : gGrN R C w n r = 0 := by
  cases n with
  | zero => rfl
  | succ n => exact if_pos h
theorem gGrN_s {R C : Nat} {w : Int64} {n : Nat} {r : Int64} (h : ¬ r = 0) : gGrN R C w (n + 1) r = gGrN R C w n (r &&& (gSp R C (r &&& (-r)) w ^^^ (-1))) + 1 := if_neg h
theorem gGrN_le (R C : Nat) (w : Int64) : ∀ n r, gGrN R C w n r ≤ n
  | 0, _ => Nat.le_refl _
  | n + 1, r => by
    unfold gGrN
    split
    · omega
    · have := gGrN_le R C w n (r &&& (gSp R C (r &&& (-r)) w ^^^ (-1)))
      omega
def gBk (R C : Nat) (x : Int64) : Int32 := ((((if x &&& gNo C = 0 then nI 0 else nI 1) ||| (if x &&& gSo R C = 0 then nI 0 else nI 2)) ||| (if x &&& gWeN C R = 0 then nI 0 else nI 4)) ||| (if x &&& gEa R C = 0 then nI 0 else nI 8))
def gTuI (R C : Nat) (x : Int64) (r : Nat) (a : Int64) : Nat → Int64 | 0 => a | c + 1 => if x &&& gBit (nI (C * r + c)) = 0 then gTuI R C x r a c else gTuI R C x r a c ||| gBit (nI (R * c + r))
theorem gTuI_s0 {R C : Nat} {x : Int64} {r : Nat} {a : Int64} {c : Nat} (h : x &&& gBit (nI (C * r + c)) = 0) : gTuI R C x r a (c + 1) = gTuI R C x r a c := if_pos h
theorem gTuI_s1 {R C : Nat} {x : Int64} {r : Nat} {a : Int64} {c : Nat} (h : ¬ x &&& gBit (nI (C * r + c)) = 0) : gTuI R C x r a (c + 1) = gTuI R C x r a c ||| gBit (nI (R * c + r)) := if_neg h
def gTuO (R C : Nat) (x : Int64) : Nat → Int64 | 0 => 0 | r + 1 => gTuI R C x r (gTuO R C x r) C
def gTu (R C : Nat) (x : Int64) : Int64 := gTuO R C x R
theorem kz_side1 {n : Int32} (h1 : ¬ n < nI 1) (h2 : ¬ nI 6 < n) : 1 ≤ n ∧ n ≤ 6 := ⟨Int32.not_lt.mp h1, Int32.not_lt.mp h2⟩
theorem kz_side0 {n : Int32} (h : n < nI 1 ∨ nI 6 < n) : ¬ (1 ≤ n ∧ n ≤ 6) := by
  rintro ⟨h1, h2⟩
  rcases h with h | h
  · exact Int32.not_lt.mpr h1 h
  · exact Int32.not_lt.mpr h2 h
theorem kz_has1 {n : Nat} {f : Int32} (hn : n ≤ 36) (h1 : ¬ f < 0) (h2 : ¬ nI n ≤ f) : fIn n f := by
  obtain ⟨j, hj, he, -⟩ := pk_mu h1 h2 (by omega)
  exact ⟨j, hj, he⟩
theorem kz_has0 {n : Nat} {f : Int32} (hn : n ≤ 36) (h : f < 0 ∨ nI n ≤ f) : ¬ fIn n f := by
  rintro ⟨k, hk, rfl⟩
  rcases h with h | h
  · exact nI_pos (by omega) h
  · have := (nI_leI (a := n) (b := k) (by omega) (by omega)).mp h
    omega
set_option maxHeartbeats 4000000 in
set_option maxRecDepth 100000 in
theorem c_bit (l : Launch) (D : va_G) (cI cJ cZ : ClassId) (f : Int32) (sz : Nat) : kMJ l yX5_bit wsX5_bit 0 0 D cI cJ cZ [.int f] [] sz (fun r (_ : Unit) => r = gBit f) (fun _ : Unit => []) := by
  refine Met.ofW (cc := cX5_bit) (maxL := 1) (ret := (some .long)) (by decide) rfl ?_
  intro p e s m args below meth c s₁ B hml hv
  obtain ⟨rfl, hsz, hP, ⟨hK, hN⟩, hD0⟩ := hv
  have hx := B.exec
  have hb := B.bytes
  have hr := B.returns
  have hts := atoms_spec (ws := wsX5_bit) B.pre
  have hown : s.vm.findClass RX5 = some m.cls := findClass_of_methodNamed B.named
  have hlocks := B.notSynchronized
  subst hsz
  have hD := hD0.self (sz := s.heap.size)
  generalize hAe : va_A [] s.heap.size = A at hD ⊢
  have hA : ∀ q : Nat, s.heap.size ≤ q → A q := fun q h => by rw [← hAe]; exact Or.inr h
  have hS : va_S A s.heap s.heap [] := va_S.rf
  have hl := lv_entry ([.int f]) (n := 1) (Nat.le_of_ble_eq_true rfl)
  rw [lg_entry_eq]
  generalize (lg_sl ([.int f]) ++ List.replicate (1 - (lg_sl ([.int f])).length) Slot.unset).toArray = ls at hl ⊢
  have hl : lv_has ls 1 [(0, .int f)] := hl
  have hK2 : kK D cI cJ cZ s := ⟨hK, hN⟩
  clear hD0
  refine lv_lconst (v := 1) hx hb dX5_bit_0 (by decide) ?_
  refine lv_iload_n hx hb dX5_bit_1 rfl (lv_at hl 0 rfl) ?_
  refine lv_lshl (v := (kShl 1 f)) hx hb dX5_bit_2 rfl ?_
  exact W.lret (v := (kShl 1 f)) hx hb hr (fun t ht hW => ⟨⟨(kShl 1 f), (), rfl, rfl, by rw [ht]; exact hP, hD⟩, hS.F ht⟩) hS.2.2 dX5_bit_3

set_option maxHeartbeats 4000000 in
set_option maxRecDepth 100000 in
theorem c_bitCount (l : Launch) (D : va_G) (cI cJ cZ : ClassId) (x : Int64) (sz : Nat) : kMI l yJ13_bitCount_95d88 wsJ13_bitCount_95d88 0 0 D cI cJ cZ [.long x] [] sz (fun r (_ : Unit) => r = jBC x) (fun _ : Unit => []) := by
  refine Met.ofW (cc := cJ13_bitCount_95d88) (maxL := 2) (ret := (some .int)) (by decide) rfl ?_
  intro p e s m args below meth c s₁ B hml hv
  obtain ⟨rfl, hsz, hP, ⟨hK, hN⟩, hD0⟩ := hv
  have hx := B.exec
  have hb := B.bytes
  have hr := B.returns
  have hts := atoms_spec (ws := wsJ13_bitCount_95d88) B.pre
  have hown : s.vm.findClass RJ13 = some m.cls := findClass_of_methodNamed B.named
  have hlocks := B.notSynchronized
  subst hsz
  have hD := hD0.self (sz := s.heap.size)
  generalize hAe : va_A [] s.heap.size = A at hD ⊢
  have hA : ∀ q : Nat, s.heap.size ≤ q → A q := fun q h => by rw [← hAe]; exact Or.inr h
  have hS : va_S A s.heap s.heap [] := va_S.rf
  have hl := lv_entry ([.long x]) (n := 2) (Nat.le_of_ble_eq_true rfl)
  rw [lg_entry_eq]
  generalize (lg_sl ([.long x]) ++ List.replicate (2 - (lg_sl ([.long x])).length) Slot.unset).toArray = ls at hl ⊢
  have hl : lv_has ls 2 [(0, .long x)] := hl
  have hK2 : kK D cI cJ cZ s := ⟨hK, hN⟩
  clear hD0
  refine lv_lload_n hx hb dJ13_bitCount_95d88_0 rfl (lv_at hl 0 rfl) ?_
  refine lv_lload_n hx hb dJ13_bitCount_95d88_1 rfl (lv_at hl 0 rfl) ?_
  refine lv_iconst (v := (nI 1)) hx hb dJ13_bitCount_95d88_2 (by decide) ?_
  refine lv_lushr (v := (kShr x (nI 1))) hx hb dJ13_bitCount_95d88_3 rfl ?_
  refine lv_ldc2 (v := (6148914691236517205)) hx hb hown (hts (.constantLong RJ13 314 (6148914691236517205)) (List.mem_of_getElem? (i := 1) rfl)) dJ13_bitCount_95d88_4 ?_
  refine lv_land hx hb dJ13_bitCount_95d88_7 ?_
  refine lv_lsub hx hb dJ13_bitCount_95d88_8 ?_
  refine lv_lstore_n (lv' := [(0, .long (x - ((kShr x (nI 1)) &&& 6148914691236517205)))]) hx hb dJ13_bitCount_95d88_9 rfl hl (by decide) rfl (fun ls hl => ?_)
  refine lv_lload_n hx hb dJ13_bitCount_95d88_10 rfl (lv_at hl 0 rfl) ?_
  refine lv_ldc2 (v := (3689348814741910323)) hx hb hown (hts (.constantLong RJ13 316 (3689348814741910323)) (List.mem_of_getElem? (i := 2) rfl)) dJ13_bitCount_95d88_11 ?_
  refine lv_land hx hb dJ13_bitCount_95d88_14 ?_
  refine lv_lload_n hx hb dJ13_bitCount_95d88_15 rfl (lv_at hl 0 rfl) ?_
  refine lv_iconst (v := (nI 2)) hx hb dJ13_bitCount_95d88_16 (by decide) ?_
  refine lv_lushr (v := (kShr (x - ((kShr x (nI 1)) &&& 6148914691236517205)) (nI 2))) hx hb dJ13_bitCount_95d88_17 rfl ?_
  refine lv_ldc2 (v := (3689348814741910323)) hx hb hown (hts (.constantLong RJ13 316 (3689348814741910323)) (List.mem_of_getElem? (i := 2) rfl)) dJ13_bitCount_95d88_18 ?_
  refine lv_land hx hb dJ13_bitCount_95d88_21 ?_
  refine lv_ladd hx hb dJ13_bitCount_95d88_22 ?_
  refine lv_topl (fun x_1 ex_1 => ?_)
  refine lv_lstore_n (lv' := [(0, .long x_1)]) hx hb dJ13_bitCount_95d88_23 rfl hl (by decide) rfl (fun ls hl => ?_)
  refine lv_lload_n hx hb dJ13_bitCount_95d88_24 rfl (lv_at hl 0 rfl) ?_
  refine lv_lload_n hx hb dJ13_bitCount_95d88_25 rfl (lv_at hl 0 rfl) ?_
  refine lv_iconst (v := (nI 4)) hx hb dJ13_bitCount_95d88_26 (by decide) ?_
  refine lv_lushr (v := (kShr x_1 (nI 4))) hx hb dJ13_bitCount_95d88_27 rfl ?_
  refine lv_ladd hx hb dJ13_bitCount_95d88_28 ?_
  refine lv_ldc2 (v := (1085102592571150095)) hx hb hown (hts (.constantLong RJ13 318 (1085102592571150095)) (List.mem_of_getElem? (i := 3) rfl)) dJ13_bitCount_95d88_29 ?_
  refine lv_land hx hb dJ13_bitCount_95d88_32 ?_
  refine lv_lstore_n (lv' := [(0, .long ((x_1 + (kShr x_1 (nI 4))) &&& 1085102592571150095))]) hx hb dJ13_bitCount_95d88_33 rfl hl (by decide) rfl (fun ls hl => ?_)
  refine lv_lload_n hx hb dJ13_bitCount_95d88_34 rfl (lv_at hl 0 rfl) ?_
  refine lv_lload_n hx hb dJ13_bitCount_95d88_35 rfl (lv_at hl 0 rfl) ?_
  refine lv_bipush (v := (nI 8)) hx hb dJ13_bitCount_95d88_36 (by decide) ?_
  refine lv_lushr (v := (kShr ((x_1 + (kShr x_1 (nI 4))) &&& 1085102592571150095) (nI 8))) hx hb dJ13_bitCount_95d88_38 rfl ?_
  refine lv_ladd hx hb dJ13_bitCount_95d88_39 ?_
  refine lv_topl (fun x_2 ex_2 => ?_)
  refine lv_lstore_n (lv' := [(0, .long x_2)]) hx hb dJ13_bitCount_95d88_40 rfl hl (by decide) rfl (fun ls hl => ?_)
  refine lv_lload_n hx hb dJ13_bitCount_95d88_41 rfl (lv_at hl 0 rfl) ?_
  refine lv_lload_n hx hb dJ13_bitCount_95d88_42 rfl (lv_at hl 0 rfl) ?_
  refine lv_bipush (v := (nI 16)) hx hb dJ13_bitCount_95d88_43 (by decide) ?_
  refine lv_lushr (v := (kShr x_2 (nI 16))) hx hb dJ13_bitCount_95d88_45 rfl ?_
  refine lv_ladd hx hb dJ13_bitCount_95d88_46 ?_
  refine lv_lstore_n (lv' := [(0, .long (x_2 + (kShr x_2 (nI 16))))]) hx hb dJ13_bitCount_95d88_47 rfl hl (by decide) rfl (fun ls hl => ?_)
  refine lv_lload_n hx hb dJ13_bitCount_95d88_48 rfl (lv_at hl 0 rfl) ?_
  refine lv_lload_n hx hb dJ13_bitCount_95d88_49 rfl (lv_at hl 0 rfl) ?_
  refine lv_bipush (v := (nI 32)) hx hb dJ13_bitCount_95d88_50 (by decide) ?_
  refine lv_lushr (v := (kShr (x_2 + (kShr x_2 (nI 16))) (nI 32))) hx hb dJ13_bitCount_95d88_52 rfl ?_
  refine lv_ladd hx hb dJ13_bitCount_95d88_53 ?_
  refine lv_topl (fun x_3 ex_3 => ?_)
  refine lv_lstore_n (lv' := [(0, .long x_3)]) hx hb dJ13_bitCount_95d88_54 rfl hl (by decide) rfl (fun ls hl => ?_)
  refine lv_lload_n hx hb dJ13_bitCount_95d88_55 rfl (lv_at hl 0 rfl) ?_
  refine lv_l2i (v := x_3.toInt32) hx hb dJ13_bitCount_95d88_56 rfl ?_
  refine lv_bipush (v := (nI 127)) hx hb dJ13_bitCount_95d88_57 (by decide) ?_
  refine lv_iand hx hb dJ13_bitCount_95d88_59 ?_
  exact W.iret (v := ((x_3.toInt32) &&& (nI 127))) hx hb hr (fun t ht hW => ⟨⟨((x_3.toInt32) &&& (nI 127)), (), rfl, (by subst_vars; rfl), by rw [ht]; exact hP, hD⟩, hS.F ht⟩) hS.2.2 dJ13_bitCount_95d88_60

set_option maxHeartbeats 4000000 in
set_option maxRecDepth 100000 in
theorem c_lowest (l : Launch) (D : va_G) (cI cJ cZ : ClassId) (x : Int64) (sz : Nat) : kMI l yX5_lowest wsX5_lowest 1 21 D cI cJ cZ [.long x] [] sz (fun r (_ : Unit) => r = gLow x) (fun _ : Unit => []) := by
  refine Met.ofW (cc := cX5_lowest) (maxL := 2) (ret := (some .int)) (by decide) rfl ?_
  intro p e s m args below meth c s₁ B hml hv
  obtain ⟨rfl, hsz, hP, ⟨hK, hN⟩, hD0⟩ := hv
  have hx := B.exec
  have hb := B.bytes
  have hr := B.returns
  have hts := atoms_spec (ws := wsX5_lowest) B.pre
  have hown : s.vm.findClass RX5 = some m.cls := findClass_of_methodNamed B.named
  have hlocks := B.notSynchronized
  subst hsz
  have hD := hD0.self (sz := s.heap.size)
  generalize hAe : va_A [] s.heap.size = A at hD ⊢
  have hA : ∀ q : Nat, s.heap.size ≤ q → A q := fun q h => by rw [← hAe]; exact Or.inr h
  have hS : va_S A s.heap s.heap [] := va_S.rf
  have hl := lv_entry ([.long x]) (n := 2) (Nat.le_of_ble_eq_true rfl)
  rw [lg_entry_eq]
  generalize (lg_sl ([.long x]) ++ List.replicate (2 - (lg_sl ([.long x])).length) Slot.unset).toArray = ls at hl ⊢
  have hl : lv_has ls 2 [(0, .long x)] := hl
  have hK2 : kK D cI cJ cZ s := ⟨hK, hN⟩
  clear hD0
  refine lv_lload_n hx hb dX5_lowest_0 rfl (lv_at hl 0 rfl) ?_
  refine lv_lload_n hx hb dX5_lowest_1 rfl (lv_at hl 0 rfl) ?_
  refine lv_lneg hx hb dX5_lowest_2 ?_
  refine lv_land hx hb dX5_lowest_3 ?_
  refine lv_lconst (v := 1) hx hb dX5_lowest_4 (by decide) ?_
  refine lv_lsub hx hb dX5_lowest_5 ?_
  refine k_calli (wr := []) (w2 := (fun _ : Unit => [])) (va_runS (As := [.long ((x &&& (-x)) - 1)]) (rest := []) ⟨hx, hb, hml, hown, hts⟩ (c_bitCount l D cI cJ cZ ((x &&& (-x)) - 1)  s.heap.size) (va_cwS 1 hts gX5_lowest_J13_bitCount_95d88 rfl rfl rfl (by decide +kernel) ⟨Nat.le_of_ble_eq_true rfl, Nat.le_of_ble_eq_true rfl⟩) (kPS (wc := []) hK2 hP hD [] rfl (by decide)) rfl rfl hl.1 rfl (lv_room (Nat.le_of_ble_eq_true rfl)) dX5_lowest_6 ⟨Nat.le_of_ble_eq_true rfl, Nat.le_of_ble_eq_true rfl⟩) hP hD hS hA [] [] [] rfl rfl (by decide) (by decide) (fun _ => rfl) (by decide) (fun r_1 u_1 H locs hw_1 hP hD hS => ?_)
  have hP : va_P D vwCl [] H := hP
  have hD : va_D A [] := hD
  subst hw_1
  exact W.iret (v := (jBC ((x &&& (-x)) - 1))) hx hb hr (fun t ht hW => ⟨⟨(jBC ((x &&& (-x)) - 1)), (), rfl, rfl, by rw [ht]; exact hP, hD⟩, hS.F ht⟩) hS.2.2 dX5_lowest_9

set_option maxHeartbeats 4000000 in
set_option maxRecDepth 100000 in
theorem c_isSide (l : Launch) (D : va_G) (cI cJ cZ : ClassId) (n : Int32) (sz : Nat) : kMI l yX5_isSide wsX5_isSide 0 0 D cI cJ cZ [.int n] [] sz (fun r (_ : Unit) => (r = nI 1 ∧ 1 ≤ n ∧ n ≤ 6) ∨ (r = nI 0 ∧ ¬ (1 ≤ n ∧ n ≤ 6))) (fun _ : Unit => []) := by
  refine Met.ofW (cc := cX5_isSide) (maxL := 1) (ret := (some .boolean)) (by decide) rfl ?_
  intro p e s m args below meth c s₁ B hml hv
  obtain ⟨rfl, hsz, hP, ⟨hK, hN⟩, hD0⟩ := hv
  have hx := B.exec
  have hb := B.bytes
  have hr := B.returns
  have hts := atoms_spec (ws := wsX5_isSide) B.pre
  have hown : s.vm.findClass RX5 = some m.cls := findClass_of_methodNamed B.named
  have hlocks := B.notSynchronized
  subst hsz
  have hD := hD0.self (sz := s.heap.size)
  generalize hAe : va_A [] s.heap.size = A at hD ⊢
  have hA : ∀ q : Nat, s.heap.size ≤ q → A q := fun q h => by rw [← hAe]; exact Or.inr h
  have hS : va_S A s.heap s.heap [] := va_S.rf
  have hl := lv_entry ([.int n]) (n := 1) (Nat.le_of_ble_eq_true rfl)
  rw [lg_entry_eq]
  generalize (lg_sl ([.int n]) ++ List.replicate (1 - (lg_sl ([.int n])).length) Slot.unset).toArray = ls at hl ⊢
  have hl : lv_has ls 1 [(0, .int n)] := hl
  have hK2 : kK D cI cJ cZ s := ⟨hK, hN⟩
  clear hD0
  refine lv_iload_n hx hb dX5_isSide_0 rfl (lv_at hl 0 rfl) ?_
  refine lv_iconst (v := (nI 1)) hx hb dX5_isSide_1 (by decide) ?_
  refine lv_icmp_lt (tgt := 15) hx hb dX5_isSide_2 (by decide) (fun c_2_1 => ?_) (fun c_2_1 => ?_)
  · refine lv_iconst (v := (nI 0)) hx hb dX5_isSide_15 (by decide) ?_
    exact W.zret (v := (nI 0)) hx hb hr (by first | decide +kernel | assumption | exact kz_narr (by first | assumption | omega)) (fun t ht hW => ⟨⟨(nI 0), (), rfl, Or.inr ⟨rfl, (kz_side0 (by first | assumption | exact Or.inl (by assumption) | exact Or.inr (by assumption)))⟩, by rw [ht]; exact hP, hD⟩, hS.F ht⟩) hS.2.2 dX5_isSide_16
  · refine lv_iload_n hx hb dX5_isSide_5 rfl (lv_at hl 0 rfl) ?_
    refine lv_bipush (v := (nI 6)) hx hb dX5_isSide_6 (by decide) ?_
    refine lv_icmp_gt (tgt := 15) hx hb dX5_isSide_8 (by decide) (fun c_8_2 => ?_) (fun c_8_2 => ?_)
    · refine lv_iconst (v := (nI 0)) hx hb dX5_isSide_15 (by decide) ?_
      exact W.zret (v := (nI 0)) hx hb hr (by first | decide +kernel | assumption | exact kz_narr (by first | assumption | omega)) (fun t ht hW => ⟨⟨(nI 0), (), rfl, Or.inr ⟨rfl, (kz_side0 (by first | assumption | exact Or.inl (by assumption) | exact Or.inr (by assumption)))⟩, by rw [ht]; exact hP, hD⟩, hS.F ht⟩) hS.2.2 dX5_isSide_16
    · refine lv_iconst (v := (nI 1)) hx hb dX5_isSide_11 (by decide) ?_
      refine lv_goto (tgt := 16) hx hb dX5_isSide_12 (by decide) ?_
      exact W.zret (v := (nI 1)) hx hb hr (by first | decide +kernel | assumption | exact kz_narr (by first | assumption | omega)) (fun t ht hW => ⟨⟨(nI 1), (), rfl, Or.inl ⟨rfl, (kz_side1 (by assumption) (by assumption))⟩, by rw [ht]; exact hP, hD⟩, hS.F ht⟩) hS.2.2 dX5_isSide_16

set_option maxHeartbeats 4000000 in
set_option maxRecDepth 100000 in
theorem c_isColour (l : Launch) (D : va_G) (cI cJ cZ : ClassId) (n : Int32) (sz : Nat) : kMI l yX5_isColour wsX5_isColour 0 0 D cI cJ cZ [.int n] [] sz (fun r (_ : Unit) => (r = nI 1 ∧ (n = nI 1 ∨ n = nI 2)) ∨ (r = nI 0 ∧ n ≠ nI 1 ∧ n ≠ nI 2)) (fun _ : Unit => []) := by
  refine Met.ofW (cc := cX5_isColour) (maxL := 1) (ret := (some .boolean)) (by decide) rfl ?_
  intro p e s m args below meth c s₁ B hml hv
  obtain ⟨rfl, hsz, hP, ⟨hK, hN⟩, hD0⟩ := hv
  have hx := B.exec
  have hb := B.bytes
  have hr := B.returns
  have hts := atoms_spec (ws := wsX5_isColour) B.pre
  have hown : s.vm.findClass RX5 = some m.cls := findClass_of_methodNamed B.named
  have hlocks := B.notSynchronized
  subst hsz
  have hD := hD0.self (sz := s.heap.size)
  generalize hAe : va_A [] s.heap.size = A at hD ⊢
  have hA : ∀ q : Nat, s.heap.size ≤ q → A q := fun q h => by rw [← hAe]; exact Or.inr h
  have hS : va_S A s.heap s.heap [] := va_S.rf
  have hl := lv_entry ([.int n]) (n := 1) (Nat.le_of_ble_eq_true rfl)
  rw [lg_entry_eq]
  generalize (lg_sl ([.int n]) ++ List.replicate (1 - (lg_sl ([.int n])).length) Slot.unset).toArray = ls at hl ⊢
  have hl : lv_has ls 1 [(0, .int n)] := hl
  have hK2 : kK D cI cJ cZ s := ⟨hK, hN⟩
  clear hD0
  refine lv_iload_n hx hb dX5_isColour_0 rfl (lv_at hl 0 rfl) ?_
  refine lv_iconst (v := (nI 1)) hx hb dX5_isColour_1 (by decide) ?_
  refine lv_icmp_eq (tgt := 10) hx hb dX5_isColour_2 (by decide) (fun c_2_1 => ?_) (fun c_2_1 => ?_)
  · refine lv_iconst (v := (nI 1)) hx hb dX5_isColour_10 (by decide) ?_
    refine lv_goto (tgt := 15) hx hb dX5_isColour_11 (by decide) ?_
    exact W.zret (v := (nI 1)) hx hb hr (by first | decide +kernel | assumption | exact kz_narr (by first | assumption | omega)) (fun t ht hW => ⟨⟨(nI 1), (), rfl, Or.inl ⟨rfl, (by first | exact Or.inl (by assumption) | exact Or.inr (by assumption))⟩, by rw [ht]; exact hP, hD⟩, hS.F ht⟩) hS.2.2 dX5_isColour_15
  · refine lv_iload_n hx hb dX5_isColour_5 rfl (lv_at hl 0 rfl) ?_
    refine lv_iconst (v := (nI 2)) hx hb dX5_isColour_6 (by decide) ?_
    refine lv_icmp_ne (tgt := 14) hx hb dX5_isColour_7 (by decide) (fun c_7_2 => ?_) (fun c_7_2 => ?_)
    · refine lv_iconst (v := (nI 0)) hx hb dX5_isColour_14 (by decide) ?_
      exact W.zret (v := (nI 0)) hx hb hr (by first | decide +kernel | assumption | exact kz_narr (by first | assumption | omega)) (fun t ht hW => ⟨⟨(nI 0), (), rfl, Or.inr ⟨rfl, ⟨by assumption, by assumption⟩⟩, by rw [ht]; exact hP, hD⟩, hS.F ht⟩) hS.2.2 dX5_isColour_15
    · refine lv_iconst (v := (nI 1)) hx hb dX5_isColour_10 (by decide) ?_
      refine lv_goto (tgt := 15) hx hb dX5_isColour_11 (by decide) ?_
      exact W.zret (v := (nI 1)) hx hb hr (by first | decide +kernel | assumption | exact kz_narr (by first | assumption | omega)) (fun t ht hW => ⟨⟨(nI 1), (), rfl, Or.inl ⟨rfl, (by first | exact Or.inl (by assumption) | exact Or.inr (by assumption))⟩, by rw [ht]; exact hP, hD⟩, hS.F ht⟩) hS.2.2 dX5_isColour_15

set_option maxHeartbeats 4000000 in
set_option maxRecDepth 100000 in
theorem c_other (l : Launch) (D : va_G) (cI cJ cZ : ClassId) (n : Int32) (sz : Nat) : kMI l yX5_other wsX5_other 0 0 D cI cJ cZ [.int n] [] sz (fun r (_ : Unit) => r = if n = nI 1 then nI 2 else nI 1) (fun _ : Unit => []) := by
  refine Met.ofW (cc := cX5_other) (maxL := 1) (ret := (some .int)) (by decide) rfl ?_
  intro p e s m args below meth c s₁ B hml hv
  obtain ⟨rfl, hsz, hP, ⟨hK, hN⟩, hD0⟩ := hv
  have hx := B.exec
  have hb := B.bytes
  have hr := B.returns
  have hts := atoms_spec (ws := wsX5_other) B.pre
  have hown : s.vm.findClass RX5 = some m.cls := findClass_of_methodNamed B.named
  have hlocks := B.notSynchronized
  subst hsz
  have hD := hD0.self (sz := s.heap.size)
  generalize hAe : va_A [] s.heap.size = A at hD ⊢
  have hA : ∀ q : Nat, s.heap.size ≤ q → A q := fun q h => by rw [← hAe]; exact Or.inr h
  have hS : va_S A s.heap s.heap [] := va_S.rf
  have hl := lv_entry ([.int n]) (n := 1) (Nat.le_of_ble_eq_true rfl)
  rw [lg_entry_eq]
  generalize (lg_sl ([.int n]) ++ List.replicate (1 - (lg_sl ([.int n])).length) Slot.unset).toArray = ls at hl ⊢
  have hl : lv_has ls 1 [(0, .int n)] := hl
  have hK2 : kK D cI cJ cZ s := ⟨hK, hN⟩
  clear hD0
  refine lv_iload_n hx hb dX5_other_0 rfl (lv_at hl 0 rfl) ?_
  refine lv_iconst (v := (nI 1)) hx hb dX5_other_1 (by decide) ?_
  refine lv_icmp_ne (tgt := 9) hx hb dX5_other_2 (by decide) (fun c_2_1 => ?_) (fun c_2_1 => ?_)
  · refine lv_iconst (v := (nI 1)) hx hb dX5_other_9 (by decide) ?_
    exact W.iret (v := (nI 1)) hx hb hr (fun t ht hW => ⟨⟨(nI 1), (), rfl, (by first | rw [if_pos (by assumption)] | rw [if_neg (by assumption)]), by rw [ht]; exact hP, hD⟩, hS.F ht⟩) hS.2.2 dX5_other_10
  · refine lv_iconst (v := (nI 2)) hx hb dX5_other_5 (by decide) ?_
    refine lv_goto (tgt := 10) hx hb dX5_other_6 (by decide) ?_
    exact W.iret (v := (nI 2)) hx hb hr (fun t ht hW => ⟨⟨(nI 2), (), rfl, (by first | rw [if_pos (by assumption)] | rw [if_neg (by assumption)]), by rw [ht]; exact hP, hD⟩, hS.F ht⟩) hS.2.2 dX5_other_10

theorem kiX2_rows_X2 : ∀ w ∈ u_ws RX2 TX2 7, w ∈ wsX2_rows := fun w h => List.mem_cons_of_mem _ (List.mem_append_right _ h)
set_option maxHeartbeats 4000000 in
set_option maxRecDepth 100000 in
theorem c_G_rows (l : Launch) (D : va_G) (cI cJ cZ : ClassId) (h0 : Nat) (R C : Nat) (sz : Nat) : kMI l yX2_rows wsX2_rows 0 0 D cI cJ cZ [.ref h0] [(h0, wGr R C)] sz (fun r (_ : Unit) => r = nI R) (fun _ : Unit => [(h0, wGr R C)]) := by
  refine Met.ofW (cc := cX2_rows) (maxL := 1) (ret := (some .int)) (by decide) rfl ?_
  intro p e s m args below meth c s₁ B hml hv
  obtain ⟨rfl, hsz, hP, ⟨hK, hN⟩, hD0⟩ := hv
  have hx := B.exec
  have hb := B.bytes
  have hr := B.returns
  have hts := atoms_spec (ws := wsX2_rows) B.pre
  have hown : s.vm.findClass RX2 = some m.cls := findClass_of_methodNamed B.named
  have hlocks := B.notSynchronized
  subst hsz
  have hD := hD0.self (sz := s.heap.size)
  generalize hAe : va_A [(h0, wGr R C)] s.heap.size = A at hD ⊢
  have hA : ∀ q : Nat, s.heap.size ≤ q → A q := fun q h => by rw [← hAe]; exact Or.inr h
  have hS : va_S A s.heap s.heap [] := va_S.rf
  have hl := lv_entry ([.ref h0]) (n := 1) (Nat.le_of_ble_eq_true rfl)
  rw [lg_entry_eq]
  generalize (lg_sl ([.ref h0]) ++ List.replicate (1 - (lg_sl ([.ref h0])).length) Slot.unset).toArray = ls at hl ⊢
  have hl : lv_has ls 1 [(0, .ref h0)] := hl
  have hK2 : kK D cI cJ cZ s := ⟨hK, hN⟩
  clear hD0
  refine lv_aload_n hx hb dX2_rows_0 rfl (lv_at hl 0 rfl) ?_
  refine va_get (D := D) (ci := 2) (v := .int (nI R)) (C := RX2) (T := TX2) (N := 7) hx hb hts kiX2_rows_X2 hown hK hP 0 rfl rfl 0 (by decide) (hts (.fieldLink RX2 9 "TwoBanks$Grid" "rows" "I") (List.mem_of_getElem? (i := 1) rfl)) (fun _ h9 => h9) rfl dX2_rows_1 ?_
  exact W.iret (v := (nI R)) hx hb hr (fun t ht hW => ⟨⟨(nI R), (), rfl, rfl, by rw [ht]; exact hP, hD⟩, hS.F ht⟩) hS.2.2 dX2_rows_4

theorem kiX2_columns_X2 : ∀ w ∈ u_ws RX2 TX2 7, w ∈ wsX2_columns := fun w h => List.mem_cons_of_mem _ (List.mem_append_right _ h)
set_option maxHeartbeats 4000000 in
set_option maxRecDepth 100000 in
theorem c_G_columns (l : Launch) (D : va_G) (cI cJ cZ : ClassId) (h0 : Nat) (R C : Nat) (sz : Nat) : kMI l yX2_columns wsX2_columns 0 0 D cI cJ cZ [.ref h0] [(h0, wGr R C)] sz (fun r (_ : Unit) => r = nI C) (fun _ : Unit => [(h0, wGr R C)]) := by
  refine Met.ofW (cc := cX2_columns) (maxL := 1) (ret := (some .int)) (by decide) rfl ?_
  intro p e s m args below meth c s₁ B hml hv
  obtain ⟨rfl, hsz, hP, ⟨hK, hN⟩, hD0⟩ := hv
  have hx := B.exec
  have hb := B.bytes
  have hr := B.returns
  have hts := atoms_spec (ws := wsX2_columns) B.pre
  have hown : s.vm.findClass RX2 = some m.cls := findClass_of_methodNamed B.named
  have hlocks := B.notSynchronized
  subst hsz
  have hD := hD0.self (sz := s.heap.size)
  generalize hAe : va_A [(h0, wGr R C)] s.heap.size = A at hD ⊢
  have hA : ∀ q : Nat, s.heap.size ≤ q → A q := fun q h => by rw [← hAe]; exact Or.inr h
  have hS : va_S A s.heap s.heap [] := va_S.rf
  have hl := lv_entry ([.ref h0]) (n := 1) (Nat.le_of_ble_eq_true rfl)
  rw [lg_entry_eq]
  generalize (lg_sl ([.ref h0]) ++ List.replicate (1 - (lg_sl ([.ref h0])).length) Slot.unset).toArray = ls at hl ⊢
  have hl : lv_has ls 1 [(0, .ref h0)] := hl
  have hK2 : kK D cI cJ cZ s := ⟨hK, hN⟩
  clear hD0
  refine lv_aload_n hx hb dX2_columns_0 rfl (lv_at hl 0 rfl) ?_
  refine va_get (D := D) (ci := 2) (v := .int (nI C)) (C := RX2) (T := TX2) (N := 7) hx hb hts kiX2_columns_X2 hown hK hP 0 rfl rfl 1 (by decide) (hts (.fieldLink RX2 15 "TwoBanks$Grid" "columns" "I") (List.mem_of_getElem? (i := 1) rfl)) (fun _ h9 => h9) rfl dX2_columns_1 ?_
  exact W.iret (v := (nI C)) hx hb hr (fun t ht hW => ⟨⟨(nI C), (), rfl, rfl, by rw [ht]; exact hP, hD⟩, hS.F ht⟩) hS.2.2 dX2_columns_4

theorem kiX2_all_X2 : ∀ w ∈ u_ws RX2 TX2 7, w ∈ wsX2_all := fun w h => List.mem_cons_of_mem _ (List.mem_append_right _ h)
set_option maxHeartbeats 4000000 in
set_option maxRecDepth 100000 in
theorem c_G_all (l : Launch) (D : va_G) (cI cJ cZ : ClassId) (h0 : Nat) (R C : Nat) (sz : Nat) : kMJ l yX2_all wsX2_all 0 0 D cI cJ cZ [.ref h0] [(h0, wGr R C)] sz (fun r (_ : Unit) => r = gAll R C) (fun _ : Unit => [(h0, wGr R C)]) := by
  refine Met.ofW (cc := cX2_all) (maxL := 1) (ret := (some .long)) (by decide) rfl ?_
  intro p e s m args below meth c s₁ B hml hv
  obtain ⟨rfl, hsz, hP, ⟨hK, hN⟩, hD0⟩ := hv
  have hx := B.exec
  have hb := B.bytes
  have hr := B.returns
  have hts := atoms_spec (ws := wsX2_all) B.pre
  have hown : s.vm.findClass RX2 = some m.cls := findClass_of_methodNamed B.named
  have hlocks := B.notSynchronized
  subst hsz
  have hD := hD0.self (sz := s.heap.size)
  generalize hAe : va_A [(h0, wGr R C)] s.heap.size = A at hD ⊢
  have hA : ∀ q : Nat, s.heap.size ≤ q → A q := fun q h => by rw [← hAe]; exact Or.inr h
  have hS : va_S A s.heap s.heap [] := va_S.rf
  have hl := lv_entry ([.ref h0]) (n := 1) (Nat.le_of_ble_eq_true rfl)
  rw [lg_entry_eq]
  generalize (lg_sl ([.ref h0]) ++ List.replicate (1 - (lg_sl ([.ref h0])).length) Slot.unset).toArray = ls at hl ⊢
  have hl : lv_has ls 1 [(0, .ref h0)] := hl
  have hK2 : kK D cI cJ cZ s := ⟨hK, hN⟩
  clear hD0
  refine lv_aload_n hx hb dX2_all_0 rfl (lv_at hl 0 rfl) ?_
  refine va_get (D := D) (ci := 2) (v := .long (gAll R C)) (C := RX2) (T := TX2) (N := 7) hx hb hts kiX2_all_X2 hown hK hP 0 rfl rfl 2 (by decide) (hts (.fieldLink RX2 22 "TwoBanks$Grid" "all" "J") (List.mem_of_getElem? (i := 1) rfl)) (fun _ h9 => h9) rfl dX2_all_1 ?_
  exact W.lret (v := (gAll R C)) hx hb hr (fun t ht hW => ⟨⟨(gAll R C), (), rfl, rfl, by rw [ht]; exact hP, hD⟩, hS.F ht⟩) hS.2.2 dX2_all_4

theorem kiX2_northBank_X2 : ∀ w ∈ u_ws RX2 TX2 7, w ∈ wsX2_northBank := fun w h => List.mem_cons_of_mem _ (List.mem_append_right _ h)
set_option maxHeartbeats 4000000 in
set_option maxRecDepth 100000 in
theorem c_G_northBank (l : Launch) (D : va_G) (cI cJ cZ : ClassId) (h0 : Nat) (R C : Nat) (sz : Nat) : kMJ l yX2_northBank wsX2_northBank 0 0 D cI cJ cZ [.ref h0] [(h0, wGr R C)] sz (fun r (_ : Unit) => r = gNo C) (fun _ : Unit => [(h0, wGr R C)]) := by
  refine Met.ofW (cc := cX2_northBank) (maxL := 1) (ret := (some .long)) (by decide) rfl ?_
  intro p e s m args below meth c s₁ B hml hv
  obtain ⟨rfl, hsz, hP, ⟨hK, hN⟩, hD0⟩ := hv
  have hx := B.exec
  have hb := B.bytes
  have hr := B.returns
  have hts := atoms_spec (ws := wsX2_northBank) B.pre
  have hown : s.vm.findClass RX2 = some m.cls := findClass_of_methodNamed B.named
  have hlocks := B.notSynchronized
  subst hsz
  have hD := hD0.self (sz := s.heap.size)
  generalize hAe : va_A [(h0, wGr R C)] s.heap.size = A at hD ⊢
  have hA : ∀ q : Nat, s.heap.size ≤ q → A q := fun q h => by rw [← hAe]; exact Or.inr h
  have hS : va_S A s.heap s.heap [] := va_S.rf
  have hl := lv_entry ([.ref h0]) (n := 1) (Nat.le_of_ble_eq_true rfl)
  rw [lg_entry_eq]
  generalize (lg_sl ([.ref h0]) ++ List.replicate (1 - (lg_sl ([.ref h0])).length) Slot.unset).toArray = ls at hl ⊢
  have hl : lv_has ls 1 [(0, .ref h0)] := hl
  have hK2 : kK D cI cJ cZ s := ⟨hK, hN⟩
  clear hD0
  refine lv_aload_n hx hb dX2_northBank_0 rfl (lv_at hl 0 rfl) ?_
  refine va_get (D := D) (ci := 2) (v := .long (gNo C)) (C := RX2) (T := TX2) (N := 7) hx hb hts kiX2_northBank_X2 hown hK hP 0 rfl rfl 3 (by decide) (hts (.fieldLink RX2 26 "TwoBanks$Grid" "northBank" "J") (List.mem_of_getElem? (i := 1) rfl)) (fun _ h9 => h9) rfl dX2_northBank_1 ?_
  exact W.lret (v := (gNo C)) hx hb hr (fun t ht hW => ⟨⟨(gNo C), (), rfl, rfl, by rw [ht]; exact hP, hD⟩, hS.F ht⟩) hS.2.2 dX2_northBank_4

theorem kiX2_southBank_X2 : ∀ w ∈ u_ws RX2 TX2 7, w ∈ wsX2_southBank := fun w h => List.mem_cons_of_mem _ (List.mem_append_right _ h)
set_option maxHeartbeats 4000000 in
set_option maxRecDepth 100000 in
theorem c_G_southBank (l : Launch) (D : va_G) (cI cJ cZ : ClassId) (h0 : Nat) (R C : Nat) (sz : Nat) : kMJ l yX2_southBank wsX2_southBank 0 0 D cI cJ cZ [.ref h0] [(h0, wGr R C)] sz (fun r (_ : Unit) => r = gSo R C) (fun _ : Unit => [(h0, wGr R C)]) := by
  refine Met.ofW (cc := cX2_southBank) (maxL := 1) (ret := (some .long)) (by decide) rfl ?_
  intro p e s m args below meth c s₁ B hml hv
  obtain ⟨rfl, hsz, hP, ⟨hK, hN⟩, hD0⟩ := hv
  have hx := B.exec
  have hb := B.bytes
  have hr := B.returns
  have hts := atoms_spec (ws := wsX2_southBank) B.pre
  have hown : s.vm.findClass RX2 = some m.cls := findClass_of_methodNamed B.named
  have hlocks := B.notSynchronized
  subst hsz
  have hD := hD0.self (sz := s.heap.size)
  generalize hAe : va_A [(h0, wGr R C)] s.heap.size = A at hD ⊢
  have hA : ∀ q : Nat, s.heap.size ≤ q → A q := fun q h => by rw [← hAe]; exact Or.inr h
  have hS : va_S A s.heap s.heap [] := va_S.rf
  have hl := lv_entry ([.ref h0]) (n := 1) (Nat.le_of_ble_eq_true rfl)
  rw [lg_entry_eq]
  generalize (lg_sl ([.ref h0]) ++ List.replicate (1 - (lg_sl ([.ref h0])).length) Slot.unset).toArray = ls at hl ⊢
  have hl : lv_has ls 1 [(0, .ref h0)] := hl
  have hK2 : kK D cI cJ cZ s := ⟨hK, hN⟩
  clear hD0
  refine lv_aload_n hx hb dX2_southBank_0 rfl (lv_at hl 0 rfl) ?_
  refine va_get (D := D) (ci := 2) (v := .long (gSo R C)) (C := RX2) (T := TX2) (N := 7) hx hb hts kiX2_southBank_X2 hown hK hP 0 rfl rfl 4 (by decide) (hts (.fieldLink RX2 29 "TwoBanks$Grid" "southBank" "J") (List.mem_of_getElem? (i := 1) rfl)) (fun _ h9 => h9) rfl dX2_southBank_1 ?_
  exact W.lret (v := (gSo R C)) hx hb hr (fun t ht hW => ⟨⟨(gSo R C), (), rfl, rfl, by rw [ht]; exact hP, hD⟩, hS.F ht⟩) hS.2.2 dX2_southBank_4

theorem kiX2_westBank_X2 : ∀ w ∈ u_ws RX2 TX2 7, w ∈ wsX2_westBank := fun w h => List.mem_cons_of_mem _ (List.mem_append_right _ h)
set_option maxHeartbeats 4000000 in
set_option maxRecDepth 100000 in
theorem c_G_westBank (l : Launch) (D : va_G) (cI cJ cZ : ClassId) (h0 : Nat) (R C : Nat) (sz : Nat) : kMJ l yX2_westBank wsX2_westBank 0 0 D cI cJ cZ [.ref h0] [(h0, wGr R C)] sz (fun r (_ : Unit) => r = gWeN C R) (fun _ : Unit => [(h0, wGr R C)]) := by
  refine Met.ofW (cc := cX2_westBank) (maxL := 1) (ret := (some .long)) (by decide) rfl ?_
  intro p e s m args below meth c s₁ B hml hv
  obtain ⟨rfl, hsz, hP, ⟨hK, hN⟩, hD0⟩ := hv
  have hx := B.exec
  have hb := B.bytes
  have hr := B.returns
  have hts := atoms_spec (ws := wsX2_westBank) B.pre
  have hown : s.vm.findClass RX2 = some m.cls := findClass_of_methodNamed B.named
  have hlocks := B.notSynchronized
  subst hsz
  have hD := hD0.self (sz := s.heap.size)
  generalize hAe : va_A [(h0, wGr R C)] s.heap.size = A at hD ⊢
  have hA : ∀ q : Nat, s.heap.size ≤ q → A q := fun q h => by rw [← hAe]; exact Or.inr h
  have hS : va_S A s.heap s.heap [] := va_S.rf
  have hl := lv_entry ([.ref h0]) (n := 1) (Nat.le_of_ble_eq_true rfl)
  rw [lg_entry_eq]
  generalize (lg_sl ([.ref h0]) ++ List.replicate (1 - (lg_sl ([.ref h0])).length) Slot.unset).toArray = ls at hl ⊢
  have hl : lv_has ls 1 [(0, .ref h0)] := hl
  have hK2 : kK D cI cJ cZ s := ⟨hK, hN⟩
  clear hD0
  refine lv_aload_n hx hb dX2_westBank_0 rfl (lv_at hl 0 rfl) ?_
  refine va_get (D := D) (ci := 2) (v := .long (gWeN C R)) (C := RX2) (T := TX2) (N := 7) hx hb hts kiX2_westBank_X2 hown hK hP 0 rfl rfl 5 (by decide) (hts (.fieldLink RX2 32 "TwoBanks$Grid" "westBank" "J") (List.mem_of_getElem? (i := 1) rfl)) (fun _ h9 => h9) rfl dX2_westBank_1 ?_
  exact W.lret (v := (gWeN C R)) hx hb hr (fun t ht hW => ⟨⟨(gWeN C R), (), rfl, rfl, by rw [ht]; exact hP, hD⟩, hS.F ht⟩) hS.2.2 dX2_westBank_4

theorem kiX2_eastBank_X2 : ∀ w ∈ u_ws RX2 TX2 7, w ∈ wsX2_eastBank := fun w h => List.mem_cons_of_mem _ (List.mem_append_right _ h)
set_option maxHeartbeats 4000000 in
set_option maxRecDepth 100000 in
theorem c_G_eastBank (l : Launch) (D : va_G) (cI cJ cZ : ClassId) (h0 : Nat) (R C : Nat) (sz : Nat) : kMJ l yX2_eastBank wsX2_eastBank 0 0 D cI cJ cZ [.ref h0] [(h0, wGr R C)] sz (fun r (_ : Unit) => r = gEa R C) (fun _ : Unit => [(h0, wGr R C)]) := by
  refine Met.ofW (cc := cX2_eastBank) (maxL := 1) (ret := (some .long)) (by decide) rfl ?_
  intro p e s m args below meth c s₁ B hml hv
  obtain ⟨rfl, hsz, hP, ⟨hK, hN⟩, hD0⟩ := hv
  have hx := B.exec
  have hb := B.bytes
  have hr := B.returns
  have hts := atoms_spec (ws := wsX2_eastBank) B.pre
  have hown : s.vm.findClass RX2 = some m.cls := findClass_of_methodNamed B.named
  have hlocks := B.notSynchronized
  subst hsz
  have hD := hD0.self (sz := s.heap.size)
  generalize hAe : va_A [(h0, wGr R C)] s.heap.size = A at hD ⊢
  have hA : ∀ q : Nat, s.heap.size ≤ q → A q := fun q h => by rw [← hAe]; exact Or.inr h
  have hS : va_S A s.heap s.heap [] := va_S.rf
  have hl := lv_entry ([.ref h0]) (n := 1) (Nat.le_of_ble_eq_true rfl)
  rw [lg_entry_eq]
  generalize (lg_sl ([.ref h0]) ++ List.replicate (1 - (lg_sl ([.ref h0])).length) Slot.unset).toArray = ls at hl ⊢
  have hl : lv_has ls 1 [(0, .ref h0)] := hl
  have hK2 : kK D cI cJ cZ s := ⟨hK, hN⟩
  clear hD0
  refine lv_aload_n hx hb dX2_eastBank_0 rfl (lv_at hl 0 rfl) ?_
  refine va_get (D := D) (ci := 2) (v := .long (gEa R C)) (C := RX2) (T := TX2) (N := 7) hx hb hts kiX2_eastBank_X2 hown hK hP 0 rfl rfl 6 (by decide) (hts (.fieldLink RX2 35 "TwoBanks$Grid" "eastBank" "J") (List.mem_of_getElem? (i := 1) rfl)) (fun _ h9 => h9) rfl dX2_eastBank_1 ?_
  exact W.lret (v := (gEa R C)) hx hb hr (fun t ht hW => ⟨⟨(gEa R C), (), rfl, rfl, by rw [ht]; exact hP, hD⟩, hS.F ht⟩) hS.2.2 dX2_eastBank_4

theorem kiX2_has_X2 : ∀ w ∈ u_ws RX2 TX2 7, w ∈ wsX2_has := fun w h => List.mem_cons_of_mem _ (List.mem_append_right _ h)
set_option maxHeartbeats 4000000 in
set_option maxRecDepth 100000 in
theorem c_G_has (l : Launch) (D : va_G) (cI cJ cZ : ClassId) (h0 : Nat) (R C : Nat) (f : Int32) (hRC : R * C ≤ 36) (sz : Nat) : kMI l yX2_has wsX2_has 0 0 D cI cJ cZ [.ref h0, .int f] [(h0, wGr R C)] sz (fun r (_ : Unit) => (r = nI 1 ∧ fIn (R * C) f) ∨ (r = nI 0 ∧ ¬ fIn (R * C) f)) (fun _ : Unit => [(h0, wGr R C)]) := by
  refine Met.ofW (cc := cX2_has) (maxL := 2) (ret := (some .boolean)) (by decide) rfl ?_
  intro p e s m args below meth c s₁ B hml hv
  obtain ⟨rfl, hsz, hP, ⟨hK, hN⟩, hD0⟩ := hv
  have hx := B.exec
  have hb := B.bytes
  have hr := B.returns
  have hts := atoms_spec (ws := wsX2_has) B.pre
  have hown : s.vm.findClass RX2 = some m.cls := findClass_of_methodNamed B.named
  have hlocks := B.notSynchronized
  subst hsz
  have hD := hD0.self (sz := s.heap.size)
  generalize hAe : va_A [(h0, wGr R C)] s.heap.size = A at hD ⊢
  have hA : ∀ q : Nat, s.heap.size ≤ q → A q := fun q h => by rw [← hAe]; exact Or.inr h
  have hS : va_S A s.heap s.heap [] := va_S.rf
  have hl := lv_entry ([.ref h0, .int f]) (n := 2) (Nat.le_of_ble_eq_true rfl)
  rw [lg_entry_eq]
  generalize (lg_sl ([.ref h0, .int f]) ++ List.replicate (2 - (lg_sl ([.ref h0, .int f])).length) Slot.unset).toArray = ls at hl ⊢
  have hl : lv_has ls 2 [(0, .ref h0), (1, .int f)] := hl
  have hK2 : kK D cI cJ cZ s := ⟨hK, hN⟩
  clear hD0
  refine lv_iload_n hx hb dX2_has_0 rfl (lv_at hl 1 rfl) ?_
  refine lv_if_lt (tgt := 21) hx hb dX2_has_1 (by decide) (fun c_1_1 => ?_) (fun c_1_1 => ?_)
  · refine lv_iconst (v := (nI 0)) hx hb dX2_has_21 (by decide) ?_
    exact W.zret (v := (nI 0)) hx hb hr (by first | decide +kernel | assumption | exact kz_narr (by first | assumption | omega)) (fun t ht hW => ⟨⟨(nI 0), (), rfl, Or.inr ⟨rfl, (kz_has0 hRC (by first | exact Or.inl (by assumption) | exact Or.inr (by assumption)))⟩, by rw [ht]; exact hP, hD⟩, hS.F ht⟩) hS.2.2 dX2_has_22
  · refine lv_iload_n hx hb dX2_has_4 rfl (lv_at hl 1 rfl) ?_
    refine lv_aload_n hx hb dX2_has_5 rfl (lv_at hl 0 rfl) ?_
    refine va_get (D := D) (ci := 2) (v := .int (nI R)) (C := RX2) (T := TX2) (N := 7) hx hb hts kiX2_has_X2 hown hK hP 0 rfl rfl 0 (by decide) (hts (.fieldLink RX2 9 "TwoBanks$Grid" "rows" "I") (List.mem_of_getElem? (i := 1) rfl)) (fun _ h9 => h9) rfl dX2_has_6 ?_
    refine lv_aload_n hx hb dX2_has_9 rfl (lv_at hl 0 rfl) ?_
    refine va_get (D := D) (ci := 2) (v := .int (nI C)) (C := RX2) (T := TX2) (N := 7) hx hb hts kiX2_has_X2 hown hK hP 0 rfl rfl 1 (by decide) (hts (.fieldLink RX2 15 "TwoBanks$Grid" "columns" "I") (List.mem_of_getElem? (i := 2) rfl)) (fun _ h9 => h9) rfl dX2_has_10 ?_
    refine lv_imul hx hb dX2_has_13 ?_
    refine k_toi (y := nI (R * C)) (pk_mul _ _) ?_
    refine lv_icmp_ge (tgt := 21) hx hb dX2_has_14 (by decide) (fun c_14_2 => ?_) (fun c_14_2 => ?_)
    · refine lv_iconst (v := (nI 0)) hx hb dX2_has_21 (by decide) ?_
      exact W.zret (v := (nI 0)) hx hb hr (by first | decide +kernel | assumption | exact kz_narr (by first | assumption | omega)) (fun t ht hW => ⟨⟨(nI 0), (), rfl, Or.inr ⟨rfl, (kz_has0 hRC (by first | exact Or.inl (by assumption) | exact Or.inr (by assumption)))⟩, by rw [ht]; exact hP, hD⟩, hS.F ht⟩) hS.2.2 dX2_has_22
    · refine lv_iconst (v := (nI 1)) hx hb dX2_has_17 (by decide) ?_
      refine lv_goto (tgt := 22) hx hb dX2_has_18 (by decide) ?_
      exact W.zret (v := (nI 1)) hx hb hr (by first | decide +kernel | assumption | exact kz_narr (by first | assumption | omega)) (fun t ht hW => ⟨⟨(nI 1), (), rfl, Or.inl ⟨rfl, (kz_has1 hRC (by assumption) (by assumption))⟩, by rw [ht]; exact hP, hD⟩, hS.F ht⟩) hS.2.2 dX2_has_22

theorem kiX2_beside_X2 : ∀ w ∈ u_ws RX2 TX2 7, w ∈ wsX2_beside := fun w h => List.mem_cons_of_mem _ (List.mem_append_right _ h)
set_option maxHeartbeats 4000000 in
set_option maxRecDepth 100000 in
theorem c_G_beside (l : Launch) (D : va_G) (cI cJ cZ : ClassId) (h0 : Nat) (R C : Nat) (x : Int64) (hR1 : 1 ≤ R) (hR2 : R ≤ 6) (hC1 : 1 ≤ C) (hC2 : C ≤ 6) (hRC : R * C ≤ 36) (sz : Nat) : kMJ l yX2_beside wsX2_beside 0 0 D cI cJ cZ [.ref h0, .long x] [(h0, wGr R C)] sz (fun r (_ : Unit) => r = gBes R C x) (fun _ : Unit => [(h0, wGr R C)]) := by
  refine Met.ofW (cc := cX2_beside) (maxL := 13) (ret := (some .long)) (by decide) rfl ?_
  intro p e s m args below meth c s₁ B hml hv
  obtain ⟨rfl, hsz, hP, ⟨hK, hN⟩, hD0⟩ := hv
  have hx := B.exec
  have hb := B.bytes
  have hr := B.returns
  have hts := atoms_spec (ws := wsX2_beside) B.pre
  have hown : s.vm.findClass RX2 = some m.cls := findClass_of_methodNamed B.named
  have hlocks := B.notSynchronized
  subst hsz
  have hD := hD0.self (sz := s.heap.size)
  generalize hAe : va_A [(h0, wGr R C)] s.heap.size = A at hD ⊢
  have hA : ∀ q : Nat, s.heap.size ≤ q → A q := fun q h => by rw [← hAe]; exact Or.inr h
  have hS : va_S A s.heap s.heap [] := va_S.rf
  have hl := lv_entry ([.ref h0, .long x]) (n := 13) (Nat.le_of_ble_eq_true rfl)
  rw [lg_entry_eq]
  generalize (lg_sl ([.ref h0, .long x]) ++ List.replicate (13 - (lg_sl ([.ref h0, .long x])).length) Slot.unset).toArray = ls at hl ⊢
  have hl : lv_has ls 13 [(0, .ref h0), (1, .long x)] := hl
  have hK2 : kK D cI cJ cZ s := ⟨hK, hN⟩
  clear hD0
  refine lv_lload_n hx hb dX2_beside_0 rfl (lv_at hl 1 rfl) ?_
  refine lv_aload_n hx hb dX2_beside_1 rfl (lv_at hl 0 rfl) ?_
  refine va_get (D := D) (ci := 2) (v := .long (gEa R C)) (C := RX2) (T := TX2) (N := 7) hx hb hts kiX2_beside_X2 hown hK hP 0 rfl rfl 6 (by decide) (hts (.fieldLink RX2 35 "TwoBanks$Grid" "eastBank" "J") (List.mem_of_getElem? (i := 1) rfl)) (fun _ h9 => h9) rfl dX2_beside_2 ?_
  refine lv_ldc2 (v := (-1)) hx hb hown (hts (.constantLong RX2 38 (-1)) (List.mem_of_getElem? (i := 2) rfl)) dX2_beside_5 ?_
  refine lv_lxor hx hb dX2_beside_8 ?_
  refine lv_land hx hb dX2_beside_9 ?_
  refine lv_lstore_n (lv' := [(3, .long (x &&& ((gEa R C) ^^^ (-1)))), (0, .ref h0), (1, .long x)]) hx hb dX2_beside_10 rfl hl (by decide) rfl (fun ls hl => ?_)
  refine lv_lload_n hx hb dX2_beside_11 rfl (lv_at hl 2 rfl) ?_
  refine lv_aload_n hx hb dX2_beside_12 rfl (lv_at hl 1 rfl) ?_
  refine va_get (D := D) (ci := 2) (v := .long (gWeN C R)) (C := RX2) (T := TX2) (N := 7) hx hb hts kiX2_beside_X2 hown hK hP 0 rfl rfl 5 (by decide) (hts (.fieldLink RX2 32 "TwoBanks$Grid" "westBank" "J") (List.mem_of_getElem? (i := 3) rfl)) (fun _ h9 => h9) rfl dX2_beside_13 ?_
  refine lv_ldc2 (v := (-1)) hx hb hown (hts (.constantLong RX2 38 (-1)) (List.mem_of_getElem? (i := 2) rfl)) dX2_beside_16 ?_
  refine lv_lxor hx hb dX2_beside_19 ?_
  refine lv_land hx hb dX2_beside_20 ?_
  refine lv_lstore (lv' := [(5, .long (x &&& ((gWeN C R) ^^^ (-1)))), (3, .long (x &&& ((gEa R C) ^^^ (-1)))), (0, .ref h0), (1, .long x)]) hx hb dX2_beside_21 hl (by decide) rfl (fun ls hl => ?_)
  refine lv_lload_n hx hb dX2_beside_23 rfl (lv_at hl 1 rfl) ?_
  refine lv_iconst (v := (nI 1)) hx hb dX2_beside_24 (by decide) ?_
  refine lv_lshl (v := (kShl (x &&& ((gEa R C) ^^^ (-1))) (nI 1))) hx hb dX2_beside_25 rfl ?_
  refine lv_lload hx hb dX2_beside_26 (lv_at hl 0 rfl) ?_
  refine lv_iconst (v := (nI 1)) hx hb dX2_beside_28 (by decide) ?_
  refine lv_lushr (v := (kShr (x &&& ((gWeN C R) ^^^ (-1))) (nI 1))) hx hb dX2_beside_29 rfl ?_
  refine lv_lor hx hb dX2_beside_30 ?_
  refine lv_topl (fun x_1 ex_1 => ?_)
  refine lv_lstore (lv' := [(7, .long x_1), (5, .long (x &&& ((gWeN C R) ^^^ (-1)))), (3, .long (x &&& ((gEa R C) ^^^ (-1)))), (0, .ref h0), (1, .long x)]) hx hb dX2_beside_31 hl (by decide) rfl (fun ls hl => ?_)
  refine lv_lload_n hx hb dX2_beside_33 rfl (lv_at hl 4 rfl) ?_
  refine lv_aload_n hx hb dX2_beside_34 rfl (lv_at hl 3 rfl) ?_
  refine va_get (D := D) (ci := 2) (v := .int (nI C)) (C := RX2) (T := TX2) (N := 7) hx hb hts kiX2_beside_X2 hown hK hP 0 rfl rfl 1 (by decide) (hts (.fieldLink RX2 15 "TwoBanks$Grid" "columns" "I") (List.mem_of_getElem? (i := 4) rfl)) (fun _ h9 => h9) rfl dX2_beside_35 ?_
  refine lv_lshl (v := (kShl x (nI C))) hx hb dX2_beside_38 rfl ?_
  refine lv_lload_n hx hb dX2_beside_39 rfl (lv_at hl 4 rfl) ?_
  refine lv_aload_n hx hb dX2_beside_40 rfl (lv_at hl 3 rfl) ?_
  refine va_get (D := D) (ci := 2) (v := .int (nI C)) (C := RX2) (T := TX2) (N := 7) hx hb hts kiX2_beside_X2 hown hK hP 0 rfl rfl 1 (by decide) (hts (.fieldLink RX2 15 "TwoBanks$Grid" "columns" "I") (List.mem_of_getElem? (i := 4) rfl)) (fun _ h9 => h9) rfl dX2_beside_41 ?_
  refine lv_lushr (v := (kShr x (nI C))) hx hb dX2_beside_44 rfl ?_
  refine lv_lor hx hb dX2_beside_45 ?_
  refine lv_lstore (lv' := [(9, .long ((kShl x (nI C)) ||| (kShr x (nI C)))), (7, .long x_1), (5, .long (x &&& ((gWeN C R) ^^^ (-1)))), (3, .long (x &&& ((gEa R C) ^^^ (-1)))), (0, .ref h0), (1, .long x)]) hx hb dX2_beside_46 hl (by decide) rfl (fun ls hl => ?_)
  refine lv_lload_n hx hb dX2_beside_48 rfl (lv_at hl 3 rfl) ?_
  refine lv_aload_n hx hb dX2_beside_49 rfl (lv_at hl 4 rfl) ?_
  refine va_get (D := D) (ci := 2) (v := .int (nI C)) (C := RX2) (T := TX2) (N := 7) hx hb hts kiX2_beside_X2 hown hK hP 0 rfl rfl 1 (by decide) (hts (.fieldLink RX2 15 "TwoBanks$Grid" "columns" "I") (List.mem_of_getElem? (i := 4) rfl)) (fun _ h9 => h9) rfl dX2_beside_50 ?_
  refine lv_iconst (v := (nI 1)) hx hb dX2_beside_53 (by decide) ?_
  refine lv_isub hx hb dX2_beside_54 ?_
  refine k_toi (y := nI (C - 1)) (pk_sub (by omega)) ?_
  refine lv_lushr (v := (kShr (x &&& ((gEa R C) ^^^ (-1))) (nI (C - 1)))) hx hb dX2_beside_55 rfl ?_
  refine lv_lload hx hb dX2_beside_56 (lv_at hl 2 rfl) ?_
  refine lv_aload_n hx hb dX2_beside_58 rfl (lv_at hl 4 rfl) ?_
  refine va_get (D := D) (ci := 2) (v := .int (nI C)) (C := RX2) (T := TX2) (N := 7) hx hb hts kiX2_beside_X2 hown hK hP 0 rfl rfl 1 (by decide) (hts (.fieldLink RX2 15 "TwoBanks$Grid" "columns" "I") (List.mem_of_getElem? (i := 4) rfl)) (fun _ h9 => h9) rfl dX2_beside_59 ?_
  refine lv_iconst (v := (nI 1)) hx hb dX2_beside_62 (by decide) ?_
  refine lv_isub hx hb dX2_beside_63 ?_
  refine k_toi (y := nI (C - 1)) (pk_sub (by omega)) ?_
  refine lv_lshl (v := (kShl (x &&& ((gWeN C R) ^^^ (-1))) (nI (C - 1)))) hx hb dX2_beside_64 rfl ?_
  refine lv_lor hx hb dX2_beside_65 ?_
  refine lv_topl (fun x_2 ex_2 => ?_)
  refine lv_lstore (lv' := [(11, .long x_2), (9, .long ((kShl x (nI C)) ||| (kShr x (nI C)))), (7, .long x_1), (5, .long (x &&& ((gWeN C R) ^^^ (-1)))), (3, .long (x &&& ((gEa R C) ^^^ (-1)))), (0, .ref h0), (1, .long x)]) hx hb dX2_beside_66 hl (by decide) rfl (fun ls hl => ?_)
  refine lv_lload hx hb dX2_beside_68 (lv_at hl 2 rfl) ?_
  refine lv_lload hx hb dX2_beside_70 (lv_at hl 1 rfl) ?_
  refine lv_lor hx hb dX2_beside_72 ?_
  refine lv_lload hx hb dX2_beside_73 (lv_at hl 0 rfl) ?_
  refine lv_lor hx hb dX2_beside_75 ?_
  refine lv_aload_n hx hb dX2_beside_76 rfl (lv_at hl 5 rfl) ?_
  refine va_get (D := D) (ci := 2) (v := .long (gAll R C)) (C := RX2) (T := TX2) (N := 7) hx hb hts kiX2_beside_X2 hown hK hP 0 rfl rfl 2 (by decide) (hts (.fieldLink RX2 22 "TwoBanks$Grid" "all" "J") (List.mem_of_getElem? (i := 5) rfl)) (fun _ h9 => h9) rfl dX2_beside_77 ?_
  refine lv_land hx hb dX2_beside_80 ?_
  exact W.lret (v := (((x_1 ||| ((kShl x (nI C)) ||| (kShr x (nI C)))) ||| x_2) &&& (gAll R C))) hx hb hr (fun t ht hW => ⟨⟨(((x_1 ||| ((kShl x (nI C)) ||| (kShr x (nI C)))) ||| x_2) &&& (gAll R C)), (), rfl, (by subst_vars; rfl), by rw [ht]; exact hP, hD⟩, hS.F ht⟩) hS.2.2 dX2_beside_81

set_option maxHeartbeats 4000000 in
set_option maxRecDepth 100000 in
theorem c_G_spread (l : Launch) (D : va_G) (cI cJ cZ : ClassId) (h0 : Nat) (R C : Nat) (x w : Int64) (hR1 : 1 ≤ R) (hR2 : R ≤ 6) (hC1 : 1 ≤ C) (hC2 : C ≤ 6) (hRC : R * C ≤ 36) (sz : Nat) : kMJ l yX2_spread wsX2_spread 1 32 D cI cJ cZ [.ref h0, .long x, .long w] [(h0, wGr R C)] sz (fun r (_ : Unit) => r = gSp R C x w) (fun _ : Unit => [(h0, wGr R C)]) := by
  refine Met.ofW (cc := cX2_spread) (maxL := 10) (ret := (some .long)) (by decide) rfl ?_
  intro p e s m args below meth c s₁ B hml hv
  obtain ⟨rfl, hsz, hP, ⟨hK, hN⟩, hD0⟩ := hv
  have hx := B.exec
  have hb := B.bytes
  have hr := B.returns
  have hts := atoms_spec (ws := wsX2_spread) B.pre
  have hown : s.vm.findClass RX2 = some m.cls := findClass_of_methodNamed B.named
  have hlocks := B.notSynchronized
  subst hsz
  have hD := hD0.self (sz := s.heap.size)
  generalize hAe : va_A [(h0, wGr R C)] s.heap.size = A at hD ⊢
  have hA : ∀ q : Nat, s.heap.size ≤ q → A q := fun q h => by rw [← hAe]; exact Or.inr h
  have hS : va_S A s.heap s.heap [] := va_S.rf
  have hl := lv_entry ([.ref h0, .long x, .long w]) (n := 10) (Nat.le_of_ble_eq_true rfl)
  rw [lg_entry_eq]
  generalize (lg_sl ([.ref h0, .long x, .long w]) ++ List.replicate (10 - (lg_sl ([.ref h0, .long x, .long w])).length) Slot.unset).toArray = ls at hl ⊢
  have hl : lv_has ls 10 [(0, .ref h0), (1, .long x), (3, .long w)] := hl
  have hK2 : kK D cI cJ cZ s := ⟨hK, hN⟩
  clear hD0
  refine lv_lload_n hx hb dX2_spread_0 rfl (lv_at hl 1 rfl) ?_
  refine lv_lload_n hx hb dX2_spread_1 rfl (lv_at hl 2 rfl) ?_
  refine lv_land hx hb dX2_spread_2 ?_
  refine k_tol (y := (x &&& w)) rfl ?_
  refine lv_lstore (lv' := [(5, .long (x &&& w)), (0, .ref h0), (1, .long x), (3, .long w)]) hx hb dX2_spread_3 hl (by decide) rfl (fun ls hl => ?_)
  refine lv_iconst (v := (nI 0)) hx hb dX2_spread_5 (by decide) ?_
  refine lv_istore (lv' := [(7, .int (nI 0)), (5, .long (x &&& w)), (0, .ref h0), (1, .long x), (3, .long w)]) hx hb dX2_spread_6 hl (by decide) rfl (fun ls hl => ?_)
  refine kw_loop (σ := Int64 × Nat) (fun zz H locs ls => match zz with | (a, k) => va_P D vwCl [(h0, wGr R C)] H ∧ va_D A [(h0, wGr R C)] ∧ va_S A s.heap H locs ∧ lv_has ls 10 [(0, .ref h0), (1, .long x), (3, .long w), (5, .long a), (7, .int (nI k))] ∧ (gIt R C w (36 - k) a = gSp R C x w) ∧ (k ≤ 36)) (fun zz => match zz with | (a, k) => 36 - k) ((x &&& w), 0) ⟨hP, hD, hS, lv_sub hl [2, 3, 4, 1, 0] rfl, rfl, by omega⟩ ?_
  clear hP hD hS hl
  rintro ⟨a, k⟩ H locs ls ⟨hP, hD, hS, hl, hg, hk⟩ ih_8
  have hP : va_P D vwCl [(h0, wGr R C)] H := hP
  have hD : va_D A [(h0, wGr R C)] := hD
  have hl : lv_has ls 10 [(0, .ref h0), (1, .long x), (3, .long w), (5, .long a), (7, .int (nI k))] := hl
  have hg : gIt R C w (36 - k) a = gSp R C x w := hg
  have hk : k ≤ 36 := hk
  refine lv_iload hx hb dX2_spread_8 (lv_at hl 4 rfl) ?_
  refine lv_bipush (v := (nI 36)) hx hb dX2_spread_10 (by decide) ?_
  refine kw_icmp_ge (tgt := 49) hx hb dX2_spread_12 (by decide) (by omega) (by omega) (fun c_12_1 => ?_) (fun c_12_1 => ?_)
  · refine lv_lload hx hb dX2_spread_49 (lv_at hl 3 rfl) ?_
    exact W.lret (v := a) hx hb hr (fun t ht hW => ⟨⟨a, (), rfl, (by first | (rw [← hg]; exact (gIt_fix (by assumption) _).symm) | (rw [← hg, show 36 - k = 0 by omega]; rfl)), by rw [ht]; exact hP, hD⟩, hS.F ht⟩) hS.2.2 dX2_spread_51
  · refine lv_lload hx hb dX2_spread_15 (lv_at hl 3 rfl) ?_
    refine lv_aload_n hx hb dX2_spread_17 rfl (lv_at hl 0 rfl) ?_
    refine lv_lload hx hb dX2_spread_18 (lv_at hl 3 rfl) ?_
    refine k_calll (wr := []) (w2 := (fun _ : Unit => [(h0, wGr R C)])) (va_runV (As := [.long a]) (rest := [.long a]) ⟨hx, hb, hml, hown, hts⟩ (c_G_beside l D cI cJ cZ h0 R C a hR1 hR2 hC1 hC2 hRC  H.size) (cwV 1 hts gX2_spread_X2_beside rfl rfl rfl (by decide +kernel) ⟨Nat.le_of_ble_eq_true rfl, Nat.le_of_ble_eq_true rfl⟩) (kPV (ci := 2) (q0 := 0) (wc := [(h0, wGr R C)]) hK2 hP hD [0] rfl (by decide) rfl rfl) rfl rfl hl.1 rfl (lv_room (Nat.le_of_ble_eq_true rfl)) dX2_spread_20 ⟨Nat.le_of_ble_eq_true rfl, Nat.le_of_ble_eq_true rfl⟩) hP hD hS hA [0] [] [0] rfl rfl (by decide) (by decide) (fun _ => rfl) (by decide) (fun r_2 u_2 H locs hw_2 hP hD hS => ?_)
    have hP : va_P D vwCl [(h0, wGr R C)] H := hP
    have hD : va_D A [(h0, wGr R C)] := hD
    subst hw_2
    refine lv_lor hx hb dX2_spread_23 ?_
    refine lv_lload_n hx hb dX2_spread_24 rfl (lv_at hl 2 rfl) ?_
    refine lv_land hx hb dX2_spread_25 ?_
    refine k_tol (y := (gStep R C w a)) rfl ?_
    refine lv_lstore (lv' := [(8, .long (gStep R C w a)), (0, .ref h0), (1, .long x), (3, .long w), (5, .long a), (7, .int (nI k))]) hx hb dX2_spread_26 hl (by decide) rfl (fun ls hl => ?_)
    refine lv_lload hx hb dX2_spread_28 (lv_at hl 0 rfl) ?_
    refine lv_lload hx hb dX2_spread_30 (lv_at hl 4 rfl) ?_
    refine W.lcmp hx hb dX2_spread_32 ?_
    refine kw_cmp_ne (tgt := 39) hx hb dX2_spread_33 (by decide) (fun c_33_3 => ?_) (fun c_33_3 => ?_)
    · refine lv_lload hx hb dX2_spread_39 (lv_at hl 0 rfl) ?_
      refine lv_lstore (lv' := [(5, .long (gStep R C w a)), (8, .long (gStep R C w a)), (0, .ref h0), (1, .long x), (3, .long w), (7, .int (nI k))]) hx hb dX2_spread_41 hl (by decide) rfl (fun ls hl => ?_)
      refine lv_iinc (v := (nI (k + 1))) (lv' := [(7, .int (nI (k + 1))), (5, .long (gStep R C w a)), (8, .long (gStep R C w a)), (0, .ref h0), (1, .long x), (3, .long w)]) hx hb dX2_spread_43 hl (k := 5) rfl (k_inc _ 1) (by decide) rfl (fun ls hl => ?_)
      refine lv_goto (tgt := 8) hx hb dX2_spread_46 (by decide) ?_
      exact ih_8 ((gStep R C w a), (k + 1)) _ _ _ (by show 36 - (k + 1) < 36 - k; omega) ⟨hP, hD, hS, lv_sub hl [3, 4, 5, 1, 0] rfl, by rw [← hg, show 36 - k = (36 - (k + 1)) + 1 by omega]; rfl, by omega⟩
    · refine lv_lload hx hb dX2_spread_36 (lv_at hl 4 rfl) ?_
      exact W.lret (v := a) hx hb hr (fun t ht hW => ⟨⟨a, (), rfl, (by first | (rw [← hg]; exact (gIt_fix (by assumption) _).symm) | (rw [← hg, show 36 - k = 0 by omega]; rfl)), by rw [ht]; exact hP, hD⟩, hS.F ht⟩) hS.2.2 dX2_spread_38

set_option maxHeartbeats 4000000 in
set_option maxRecDepth 100000 in
theorem c_G_joins (l : Launch) (D : va_G) (cI cJ cZ : ClassId) (h0 : Nat) (R C : Nat) (x b t : Int64) (hR1 : 1 ≤ R) (hR2 : R ≤ 6) (hC1 : 1 ≤ C) (hC2 : C ≤ 6) (hRC : R * C ≤ 36) (sz : Nat) : kMI l yX2_joins wsX2_joins 2 61 D cI cJ cZ [.ref h0, .long x, .long b, .long t] [(h0, wGr R C)] sz (fun r (_ : Unit) => (r = nI 1 ∧ gSp R C b x &&& t ≠ 0) ∨ (r = nI 0 ∧ gSp R C b x &&& t = 0)) (fun _ : Unit => [(h0, wGr R C)]) := by
  refine Met.ofW (cc := cX2_joins) (maxL := 7) (ret := (some .boolean)) (by decide) rfl ?_
  intro p e s m args below meth c s₁ B hml hv
  obtain ⟨rfl, hsz, hP, ⟨hK, hN⟩, hD0⟩ := hv
  have hx := B.exec
  have hb := B.bytes
  have hr := B.returns
  have hts := atoms_spec (ws := wsX2_joins) B.pre
  have hown : s.vm.findClass RX2 = some m.cls := findClass_of_methodNamed B.named
  have hlocks := B.notSynchronized
  subst hsz
  have hD := hD0.self (sz := s.heap.size)
  generalize hAe : va_A [(h0, wGr R C)] s.heap.size = A at hD ⊢
  have hA : ∀ q : Nat, s.heap.size ≤ q → A q := fun q h => by rw [← hAe]; exact Or.inr h
  have hS : va_S A s.heap s.heap [] := va_S.rf
  have hl := lv_entry ([.ref h0, .long x, .long b, .long t]) (n := 7) (Nat.le_of_ble_eq_true rfl)
  rw [lg_entry_eq]
  generalize (lg_sl ([.ref h0, .long x, .long b, .long t]) ++ List.replicate (7 - (lg_sl ([.ref h0, .long x, .long b, .long t])).length) Slot.unset).toArray = ls at hl ⊢
  have hl : lv_has ls 7 [(0, .ref h0), (1, .long x), (3, .long b), (5, .long t)] := hl
  have hK2 : kK D cI cJ cZ s := ⟨hK, hN⟩
  clear hD0
  refine lv_aload_n hx hb dX2_joins_0 rfl (lv_at hl 0 rfl) ?_
  refine lv_lload_n hx hb dX2_joins_1 rfl (lv_at hl 2 rfl) ?_
  refine lv_lload_n hx hb dX2_joins_2 rfl (lv_at hl 1 rfl) ?_
  refine k_calll (wr := []) (w2 := (fun _ : Unit => [(h0, wGr R C)])) (va_runV (As := [.long b, .long x]) (rest := []) ⟨hx, hb, hml, hown, hts⟩ (c_G_spread l D cI cJ cZ h0 R C b x hR1 hR2 hC1 hC2 hRC  s.heap.size) (cwV 2 hts gX2_joins_X2_spread rfl rfl rfl (by decide +kernel) ⟨Nat.le_of_ble_eq_true rfl, Nat.le_of_ble_eq_true rfl⟩) (kPV (ci := 2) (q0 := 0) (wc := [(h0, wGr R C)]) hK2 hP hD [0] rfl (by decide) rfl rfl) rfl rfl hl.1 rfl (lv_room (Nat.le_of_ble_eq_true rfl)) dX2_joins_3 ⟨Nat.le_of_ble_eq_true rfl, Nat.le_of_ble_eq_true rfl⟩) hP hD hS hA [0] [] [0] rfl rfl (by decide) (by decide) (fun _ => rfl) (by decide) (fun r_1 u_1 H locs hw_1 hP hD hS => ?_)
  have hP : va_P D vwCl [(h0, wGr R C)] H := hP
  have hD : va_D A [(h0, wGr R C)] := hD
  subst hw_1
  refine lv_lload hx hb dX2_joins_6 (lv_at hl 3 rfl) ?_
  refine lv_land hx hb dX2_joins_8 ?_
  refine lv_lconst (v := 0) hx hb dX2_joins_9 (by decide) ?_
  refine W.lcmp hx hb dX2_joins_10 ?_
  refine kw_cmp_eq (tgt := 18) hx hb dX2_joins_11 (by decide) (fun c_11_2 => ?_) (fun c_11_2 => ?_)
  · refine lv_iconst (v := (nI 0)) hx hb dX2_joins_18 (by decide) ?_
    exact W.zret (v := (nI 0)) hx hb hr (by first | decide +kernel | assumption | exact kz_narr (by first | assumption | omega)) (fun t ht hW => ⟨⟨(nI 0), (), rfl, Or.inr ⟨rfl, by assumption⟩, by rw [ht]; exact hP, hD⟩, hS.F ht⟩) hS.2.2 dX2_joins_19
  · refine lv_iconst (v := (nI 1)) hx hb dX2_joins_14 (by decide) ?_
    refine lv_goto (tgt := 19) hx hb dX2_joins_15 (by decide) ?_
    exact W.zret (v := (nI 1)) hx hb hr (by first | decide +kernel | assumption | exact kz_narr (by first | assumption | omega)) (fun t ht hW => ⟨⟨(nI 1), (), rfl, Or.inl ⟨rfl, by assumption⟩, by rw [ht]; exact hP, hD⟩, hS.F ht⟩) hS.2.2 dX2_joins_19

set_option maxHeartbeats 4000000 in
set_option maxRecDepth 100000 in
theorem c_G_groupsOf (l : Launch) (D : va_G) (cI cJ cZ : ClassId) (h0 : Nat) (R C : Nat) (w : Int64) (hR1 : 1 ≤ R) (hR2 : R ≤ 6) (hC1 : 1 ≤ C) (hC2 : C ≤ 6) (hRC : R * C ≤ 36) (sz : Nat) : kMI l yX2_groupsOf wsX2_groupsOf 2 61 D cI cJ cZ [.ref h0, .long w] [(h0, wGr R C)] sz (fun r (_ : Unit) => r = nI (gGr R C w)) (fun _ : Unit => [(h0, wGr R C)]) := by
  refine Met.ofW (cc := cX2_groupsOf) (maxL := 7) (ret := (some .int)) (by decide) rfl ?_
  intro p e s m args below meth c s₁ B hml hv
  obtain ⟨rfl, hsz, hP, ⟨hK, hN⟩, hD0⟩ := hv
  have hx := B.exec
  have hb := B.bytes
  have hr := B.returns
  have hts := atoms_spec (ws := wsX2_groupsOf) B.pre
  have hown : s.vm.findClass RX2 = some m.cls := findClass_of_methodNamed B.named
  have hlocks := B.notSynchronized
  subst hsz
  have hD := hD0.self (sz := s.heap.size)
  generalize hAe : va_A [(h0, wGr R C)] s.heap.size = A at hD ⊢
  have hA : ∀ q : Nat, s.heap.size ≤ q → A q := fun q h => by rw [← hAe]; exact Or.inr h
  have hS : va_S A s.heap s.heap [] := va_S.rf
  have hl := lv_entry ([.ref h0, .long w]) (n := 7) (Nat.le_of_ble_eq_true rfl)
  rw [lg_entry_eq]
  generalize (lg_sl ([.ref h0, .long w]) ++ List.replicate (7 - (lg_sl ([.ref h0, .long w])).length) Slot.unset).toArray = ls at hl ⊢
  have hl : lv_has ls 7 [(0, .ref h0), (1, .long w)] := hl
  have hK2 : kK D cI cJ cZ s := ⟨hK, hN⟩
  clear hD0
  refine lv_iconst (v := (nI 0)) hx hb dX2_groupsOf_0 (by decide) ?_
  refine lv_istore_n (lv' := [(3, .int (nI 0)), (0, .ref h0), (1, .long w)]) hx hb dX2_groupsOf_1 rfl hl (by decide) rfl (fun ls hl => ?_)
  refine lv_lload_n hx hb dX2_groupsOf_2 rfl (lv_at hl 2 rfl) ?_
  refine lv_lstore (lv' := [(4, .long w), (3, .int (nI 0)), (0, .ref h0), (1, .long w)]) hx hb dX2_groupsOf_3 hl (by decide) rfl (fun ls hl => ?_)
  refine lv_iconst (v := (nI 0)) hx hb dX2_groupsOf_5 (by decide) ?_
  refine lv_istore (lv' := [(6, .int (nI 0)), (4, .long w), (3, .int (nI 0)), (0, .ref h0), (1, .long w)]) hx hb dX2_groupsOf_6 hl (by decide) rfl (fun ls hl => ?_)
  refine kw_loop (σ := Nat × Int64 × Nat) (fun zz H locs ls => match zz with | (g, a, k) => va_P D vwCl [(h0, wGr R C)] H ∧ va_D A [(h0, wGr R C)] ∧ va_S A s.heap H locs ∧ lv_has ls 7 [(0, .ref h0), (1, .long w), (3, .int (nI g)), (4, .long a), (6, .int (nI k))] ∧ (g + gGrN R C w (36 - k) a = gGr R C w) ∧ (k ≤ 36)) (fun zz => match zz with | (g, a, k) => 36 - k) (0, w, 0) ⟨hP, hD, hS, lv_sub hl [3, 4, 2, 1, 0] rfl, Nat.zero_add _, by omega⟩ ?_
  clear hP hD hS hl
  rintro ⟨g, a, k⟩ H locs ls ⟨hP, hD, hS, hl, hg, hk⟩ ih_8
  have hP : va_P D vwCl [(h0, wGr R C)] H := hP
  have hD : va_D A [(h0, wGr R C)] := hD
  have hl : lv_has ls 7 [(0, .ref h0), (1, .long w), (3, .int (nI g)), (4, .long a), (6, .int (nI k))] := hl
  have hg : g + gGrN R C w (36 - k) a = gGr R C w := hg
  have hk : k ≤ 36 := hk
  refine lv_iload hx hb dX2_groupsOf_8 (lv_at hl 4 rfl) ?_
  refine lv_bipush (v := (nI 36)) hx hb dX2_groupsOf_10 (by decide) ?_
  refine kw_icmp_ge (tgt := 51) hx hb dX2_groupsOf_12 (by decide) (by omega) (by omega) (fun c_12_1 => ?_) (fun c_12_1 => ?_)
  · refine lv_iload_n hx hb dX2_groupsOf_51 rfl (lv_at hl 2 rfl) ?_
    exact W.iret (v := (nI g)) hx hb hr (fun t ht hW => ⟨⟨(nI g), (), rfl, (by rw [← hg]; first | (rw [show 36 - k = 0 by omega]; rfl) | (rw [gGrN_0 (by assumption)]; rfl)), by rw [ht]; exact hP, hD⟩, hS.F ht⟩) hS.2.2 dX2_groupsOf_52
  · refine lv_lload hx hb dX2_groupsOf_15 (lv_at hl 3 rfl) ?_
    refine lv_lconst (v := 0) hx hb dX2_groupsOf_17 (by decide) ?_
    refine W.lcmp hx hb dX2_groupsOf_18 ?_
    refine kw_cmp_eq (tgt := 51) hx hb dX2_groupsOf_19 (by decide) (fun c_19_2 => ?_) (fun c_19_2 => ?_)
    · refine lv_iload_n hx hb dX2_groupsOf_51 rfl (lv_at hl 2 rfl) ?_
      exact W.iret (v := (nI g)) hx hb hr (fun t ht hW => ⟨⟨(nI g), (), rfl, (by rw [← hg]; first | (rw [show 36 - k = 0 by omega]; rfl) | (rw [gGrN_0 (by assumption)]; rfl)), by rw [ht]; exact hP, hD⟩, hS.F ht⟩) hS.2.2 dX2_groupsOf_52
    · refine lv_lload hx hb dX2_groupsOf_22 (lv_at hl 3 rfl) ?_
      refine lv_aload_n hx hb dX2_groupsOf_24 rfl (lv_at hl 0 rfl) ?_
      refine lv_lload hx hb dX2_groupsOf_25 (lv_at hl 3 rfl) ?_
      refine lv_lload hx hb dX2_groupsOf_27 (lv_at hl 3 rfl) ?_
      refine lv_lneg hx hb dX2_groupsOf_29 ?_
      refine lv_land hx hb dX2_groupsOf_30 ?_
      refine lv_lload_n hx hb dX2_groupsOf_31 rfl (lv_at hl 1 rfl) ?_
      refine k_calll (wr := []) (w2 := (fun _ : Unit => [(h0, wGr R C)])) (va_runV (As := [.long (a &&& (-a)), .long w]) (rest := [.long a]) ⟨hx, hb, hml, hown, hts⟩ (c_G_spread l D cI cJ cZ h0 R C (a &&& (-a)) w hR1 hR2 hC1 hC2 hRC  H.size) (cwV 2 hts gX2_groupsOf_X2_spread rfl rfl rfl (by decide +kernel) ⟨Nat.le_of_ble_eq_true rfl, Nat.le_of_ble_eq_true rfl⟩) (kPV (ci := 2) (q0 := 0) (wc := [(h0, wGr R C)]) hK2 hP hD [0] rfl (by decide) rfl rfl) rfl rfl hl.1 rfl (lv_room (Nat.le_of_ble_eq_true rfl)) dX2_groupsOf_32 ⟨Nat.le_of_ble_eq_true rfl, Nat.le_of_ble_eq_true rfl⟩) hP hD hS hA [0] [] [0] rfl rfl (by decide) (by decide) (fun _ => rfl) (by decide) (fun r_3 u_3 H locs hw_3 hP hD hS => ?_)
      have hP : va_P D vwCl [(h0, wGr R C)] H := hP
      have hD : va_D A [(h0, wGr R C)] := hD
      subst hw_3
      refine lv_ldc2 (v := (-1)) hx hb hown (hts (.constantLong RX2 38 (-1)) (List.mem_of_getElem? (i := 1) rfl)) dX2_groupsOf_35 ?_
      refine lv_lxor hx hb dX2_groupsOf_38 ?_
      refine lv_land hx hb dX2_groupsOf_39 ?_
      refine k_tol (y := (a &&& (gSp R C (a &&& (-a)) w ^^^ (-1)))) rfl ?_
      refine lv_lstore (lv' := [(4, .long (a &&& (gSp R C (a &&& (-a)) w ^^^ (-1)))), (0, .ref h0), (1, .long w), (3, .int (nI g)), (6, .int (nI k))]) hx hb dX2_groupsOf_40 hl (by decide) rfl (fun ls hl => ?_)
      refine lv_iinc (v := (nI (g + 1))) (lv' := [(3, .int (nI (g + 1))), (4, .long (a &&& (gSp R C (a &&& (-a)) w ^^^ (-1)))), (0, .ref h0), (1, .long w), (6, .int (nI k))]) hx hb dX2_groupsOf_42 hl (k := 3) rfl (k_inc _ 1) (by decide) rfl (fun ls hl => ?_)
      refine lv_iinc (v := (nI (k + 1))) (lv' := [(6, .int (nI (k + 1))), (3, .int (nI (g + 1))), (4, .long (a &&& (gSp R C (a &&& (-a)) w ^^^ (-1)))), (0, .ref h0), (1, .long w)]) hx hb dX2_groupsOf_45 hl (k := 4) rfl (k_inc _ 1) (by decide) rfl (fun ls hl => ?_)
      refine lv_goto (tgt := 8) hx hb dX2_groupsOf_48 (by decide) ?_
      exact ih_8 ((g + 1), (a &&& (gSp R C (a &&& (-a)) w ^^^ (-1))), (k + 1)) _ _ _ (by show 36 - (k + 1) < 36 - k; omega) ⟨hP, hD, hS, lv_sub hl [3, 4, 1, 2, 0] rfl, by rw [← hg, show 36 - k = (36 - (k + 1)) + 1 by omega, gGrN_s (by assumption)]; omega, by omega⟩

theorem kiX2_banksOf_X2 : ∀ w ∈ u_ws RX2 TX2 7, w ∈ wsX2_banksOf := fun w h => List.mem_cons_of_mem _ (List.mem_append_right _ h)
set_option maxHeartbeats 4000000 in
set_option maxRecDepth 100000 in
theorem c_G_banksOf (l : Launch) (D : va_G) (cI cJ cZ : ClassId) (h0 : Nat) (R C : Nat) (x : Int64) (sz : Nat) : kMI l yX2_banksOf wsX2_banksOf 0 0 D cI cJ cZ [.ref h0, .long x] [(h0, wGr R C)] sz (fun r (_ : Unit) => r = gBk R C x) (fun _ : Unit => [(h0, wGr R C)]) := by
  refine Met.ofW (cc := cX2_banksOf) (maxL := 4) (ret := (some .int)) (by decide) rfl ?_
  intro p e s m args below meth c s₁ B hml hv
  obtain ⟨rfl, hsz, hP, ⟨hK, hN⟩, hD0⟩ := hv
  have hx := B.exec
  have hb := B.bytes
  have hr := B.returns
  have hts := atoms_spec (ws := wsX2_banksOf) B.pre
  have hown : s.vm.findClass RX2 = some m.cls := findClass_of_methodNamed B.named
  have hlocks := B.notSynchronized
  subst hsz
  have hD := hD0.self (sz := s.heap.size)
  generalize hAe : va_A [(h0, wGr R C)] s.heap.size = A at hD ⊢
  have hA : ∀ q : Nat, s.heap.size ≤ q → A q := fun q h => by rw [← hAe]; exact Or.inr h
  have hS : va_S A s.heap s.heap [] := va_S.rf
  have hl := lv_entry ([.ref h0, .long x]) (n := 4) (Nat.le_of_ble_eq_true rfl)
  rw [lg_entry_eq]
  generalize (lg_sl ([.ref h0, .long x]) ++ List.replicate (4 - (lg_sl ([.ref h0, .long x])).length) Slot.unset).toArray = ls at hl ⊢
  have hl : lv_has ls 4 [(0, .ref h0), (1, .long x)] := hl
  have hK2 : kK D cI cJ cZ s := ⟨hK, hN⟩
  clear hD0
  refine lv_lload_n hx hb dX2_banksOf_0 rfl (lv_at hl 1 rfl) ?_
  refine lv_aload_n hx hb dX2_banksOf_1 rfl (lv_at hl 0 rfl) ?_
  refine va_get (D := D) (ci := 2) (v := .long (gNo C)) (C := RX2) (T := TX2) (N := 7) hx hb hts kiX2_banksOf_X2 hown hK hP 0 rfl rfl 3 (by decide) (hts (.fieldLink RX2 26 "TwoBanks$Grid" "northBank" "J") (List.mem_of_getElem? (i := 1) rfl)) (fun _ h9 => h9) rfl dX2_banksOf_2 ?_
  refine lv_land hx hb dX2_banksOf_5 ?_
  refine lv_lconst (v := 0) hx hb dX2_banksOf_6 (by decide) ?_
  refine W.lcmp hx hb dX2_banksOf_7 ?_
  refine kw_cmp_eq (tgt := 15) hx hb dX2_banksOf_8 (by decide) (fun c_8_1 => ?_) (fun c_8_1 => ?_)
  · refine lv_iconst (v := (nI 0)) hx hb dX2_banksOf_15 (by decide) ?_
    refine lv_istore_n (lv' := [(3, .int (nI 0)), (0, .ref h0), (1, .long x)]) hx hb dX2_banksOf_16 rfl hl (by decide) rfl (fun ls hl => ?_)
    refine lv_iload_n hx hb dX2_banksOf_17 rfl (lv_at hl 0 rfl) ?_
    refine lv_lload_n hx hb dX2_banksOf_18 rfl (lv_at hl 2 rfl) ?_
    refine lv_aload_n hx hb dX2_banksOf_19 rfl (lv_at hl 1 rfl) ?_
    refine va_get (D := D) (ci := 2) (v := .long (gSo R C)) (C := RX2) (T := TX2) (N := 7) hx hb hts kiX2_banksOf_X2 hown hK hP 0 rfl rfl 4 (by decide) (hts (.fieldLink RX2 29 "TwoBanks$Grid" "southBank" "J") (List.mem_of_getElem? (i := 2) rfl)) (fun _ h9 => h9) rfl dX2_banksOf_20 ?_
    refine lv_land hx hb dX2_banksOf_23 ?_
    refine lv_lconst (v := 0) hx hb dX2_banksOf_24 (by decide) ?_
    refine W.lcmp hx hb dX2_banksOf_25 ?_
    refine kw_cmp_eq (tgt := 33) hx hb dX2_banksOf_26 (by decide) (fun c_26_2 => ?_) (fun c_26_2 => ?_)
    · refine lv_iconst (v := (nI 0)) hx hb dX2_banksOf_33 (by decide) ?_
      refine lv_ior hx hb dX2_banksOf_34 ?_
      refine lv_istore_n (lv' := [(3, .int ((nI 0) ||| (nI 0))), (0, .ref h0), (1, .long x)]) hx hb dX2_banksOf_35 rfl hl (by decide) rfl (fun ls hl => ?_)
      refine lv_iload_n hx hb dX2_banksOf_36 rfl (lv_at hl 0 rfl) ?_
      refine lv_lload_n hx hb dX2_banksOf_37 rfl (lv_at hl 2 rfl) ?_
      refine lv_aload_n hx hb dX2_banksOf_38 rfl (lv_at hl 1 rfl) ?_
      refine va_get (D := D) (ci := 2) (v := .long (gWeN C R)) (C := RX2) (T := TX2) (N := 7) hx hb hts kiX2_banksOf_X2 hown hK hP 0 rfl rfl 5 (by decide) (hts (.fieldLink RX2 32 "TwoBanks$Grid" "westBank" "J") (List.mem_of_getElem? (i := 3) rfl)) (fun _ h9 => h9) rfl dX2_banksOf_39 ?_
      refine lv_land hx hb dX2_banksOf_42 ?_
      refine lv_lconst (v := 0) hx hb dX2_banksOf_43 (by decide) ?_
      refine W.lcmp hx hb dX2_banksOf_44 ?_
      refine kw_cmp_eq (tgt := 52) hx hb dX2_banksOf_45 (by decide) (fun c_45_3 => ?_) (fun c_45_3 => ?_)
      · refine lv_iconst (v := (nI 0)) hx hb dX2_banksOf_52 (by decide) ?_
        refine lv_ior hx hb dX2_banksOf_53 ?_
        refine lv_istore_n (lv' := [(3, .int (((nI 0) ||| (nI 0)) ||| (nI 0))), (0, .ref h0), (1, .long x)]) hx hb dX2_banksOf_54 rfl hl (by decide) rfl (fun ls hl => ?_)
        refine lv_iload_n hx hb dX2_banksOf_55 rfl (lv_at hl 0 rfl) ?_
        refine lv_lload_n hx hb dX2_banksOf_56 rfl (lv_at hl 2 rfl) ?_
        refine lv_aload_n hx hb dX2_banksOf_57 rfl (lv_at hl 1 rfl) ?_
        refine va_get (D := D) (ci := 2) (v := .long (gEa R C)) (C := RX2) (T := TX2) (N := 7) hx hb hts kiX2_banksOf_X2 hown hK hP 0 rfl rfl 6 (by decide) (hts (.fieldLink RX2 35 "TwoBanks$Grid" "eastBank" "J") (List.mem_of_getElem? (i := 4) rfl)) (fun _ h9 => h9) rfl dX2_banksOf_58 ?_
        refine lv_land hx hb dX2_banksOf_61 ?_
        refine lv_lconst (v := 0) hx hb dX2_banksOf_62 (by decide) ?_
        refine W.lcmp hx hb dX2_banksOf_63 ?_
        refine kw_cmp_eq (tgt := 72) hx hb dX2_banksOf_64 (by decide) (fun c_64_4 => ?_) (fun c_64_4 => ?_)
        · refine lv_iconst (v := (nI 0)) hx hb dX2_banksOf_72 (by decide) ?_
          refine lv_ior hx hb dX2_banksOf_73 ?_
          refine lv_istore_n (lv' := [(3, .int ((((nI 0) ||| (nI 0)) ||| (nI 0)) ||| (nI 0))), (0, .ref h0), (1, .long x)]) hx hb dX2_banksOf_74 rfl hl (by decide) rfl (fun ls hl => ?_)
          refine lv_iload_n hx hb dX2_banksOf_75 rfl (lv_at hl 0 rfl) ?_
          exact W.iret (v := ((((nI 0) ||| (nI 0)) ||| (nI 0)) ||| (nI 0))) hx hb hr (fun t ht hW => ⟨⟨((((nI 0) ||| (nI 0)) ||| (nI 0)) ||| (nI 0)), (), rfl, (by subst_vars; simp only [gBk, *, if_true, if_false]), by rw [ht]; exact hP, hD⟩, hS.F ht⟩) hS.2.2 dX2_banksOf_76
        · refine lv_bipush (v := (nI 8)) hx hb dX2_banksOf_67 (by decide) ?_
          refine lv_goto (tgt := 73) hx hb dX2_banksOf_69 (by decide) ?_
          refine lv_ior hx hb dX2_banksOf_73 ?_
          refine lv_istore_n (lv' := [(3, .int ((((nI 0) ||| (nI 0)) ||| (nI 0)) ||| (nI 8))), (0, .ref h0), (1, .long x)]) hx hb dX2_banksOf_74 rfl hl (by decide) rfl (fun ls hl => ?_)
          refine lv_iload_n hx hb dX2_banksOf_75 rfl (lv_at hl 0 rfl) ?_
          exact W.iret (v := ((((nI 0) ||| (nI 0)) ||| (nI 0)) ||| (nI 8))) hx hb hr (fun t ht hW => ⟨⟨((((nI 0) ||| (nI 0)) ||| (nI 0)) ||| (nI 8)), (), rfl, (by subst_vars; simp only [gBk, *, if_true, if_false]), by rw [ht]; exact hP, hD⟩, hS.F ht⟩) hS.2.2 dX2_banksOf_76
      · refine lv_iconst (v := (nI 4)) hx hb dX2_banksOf_48 (by decide) ?_
        refine lv_goto (tgt := 53) hx hb dX2_banksOf_49 (by decide) ?_
        refine lv_ior hx hb dX2_banksOf_53 ?_
        refine lv_istore_n (lv' := [(3, .int (((nI 0) ||| (nI 0)) ||| (nI 4))), (0, .ref h0), (1, .long x)]) hx hb dX2_banksOf_54 rfl hl (by decide) rfl (fun ls hl => ?_)
        refine lv_iload_n hx hb dX2_banksOf_55 rfl (lv_at hl 0 rfl) ?_
        refine lv_lload_n hx hb dX2_banksOf_56 rfl (lv_at hl 2 rfl) ?_
        refine lv_aload_n hx hb dX2_banksOf_57 rfl (lv_at hl 1 rfl) ?_
        refine va_get (D := D) (ci := 2) (v := .long (gEa R C)) (C := RX2) (T := TX2) (N := 7) hx hb hts kiX2_banksOf_X2 hown hK hP 0 rfl rfl 6 (by decide) (hts (.fieldLink RX2 35 "TwoBanks$Grid" "eastBank" "J") (List.mem_of_getElem? (i := 4) rfl)) (fun _ h9 => h9) rfl dX2_banksOf_58 ?_
        refine lv_land hx hb dX2_banksOf_61 ?_
        refine lv_lconst (v := 0) hx hb dX2_banksOf_62 (by decide) ?_
        refine W.lcmp hx hb dX2_banksOf_63 ?_
        refine kw_cmp_eq (tgt := 72) hx hb dX2_banksOf_64 (by decide) (fun c_64_5 => ?_) (fun c_64_5 => ?_)
        · refine lv_iconst (v := (nI 0)) hx hb dX2_banksOf_72 (by decide) ?_
          refine lv_ior hx hb dX2_banksOf_73 ?_
          refine lv_istore_n (lv' := [(3, .int ((((nI 0) ||| (nI 0)) ||| (nI 4)) ||| (nI 0))), (0, .ref h0), (1, .long x)]) hx hb dX2_banksOf_74 rfl hl (by decide) rfl (fun ls hl => ?_)
          refine lv_iload_n hx hb dX2_banksOf_75 rfl (lv_at hl 0 rfl) ?_
          exact W.iret (v := ((((nI 0) ||| (nI 0)) ||| (nI 4)) ||| (nI 0))) hx hb hr (fun t ht hW => ⟨⟨((((nI 0) ||| (nI 0)) ||| (nI 4)) ||| (nI 0)), (), rfl, (by subst_vars; simp only [gBk, *, if_true, if_false]), by rw [ht]; exact hP, hD⟩, hS.F ht⟩) hS.2.2 dX2_banksOf_76
        · refine lv_bipush (v := (nI 8)) hx hb dX2_banksOf_67 (by decide) ?_
          refine lv_goto (tgt := 73) hx hb dX2_banksOf_69 (by decide) ?_
          refine lv_ior hx hb dX2_banksOf_73 ?_
          refine lv_istore_n (lv' := [(3, .int ((((nI 0) ||| (nI 0)) ||| (nI 4)) ||| (nI 8))), (0, .ref h0), (1, .long x)]) hx hb dX2_banksOf_74 rfl hl (by decide) rfl (fun ls hl => ?_)
          refine lv_iload_n hx hb dX2_banksOf_75 rfl (lv_at hl 0 rfl) ?_
          exact W.iret (v := ((((nI 0) ||| (nI 0)) ||| (nI 4)) ||| (nI 8))) hx hb hr (fun t ht hW => ⟨⟨((((nI 0) ||| (nI 0)) ||| (nI 4)) ||| (nI 8)), (), rfl, (by subst_vars; simp only [gBk, *, if_true, if_false]), by rw [ht]; exact hP, hD⟩, hS.F ht⟩) hS.2.2 dX2_banksOf_76
    · refine lv_iconst (v := (nI 2)) hx hb dX2_banksOf_29 (by decide) ?_
      refine lv_goto (tgt := 34) hx hb dX2_banksOf_30 (by decide) ?_
      refine lv_ior hx hb dX2_banksOf_34 ?_
      refine lv_istore_n (lv' := [(3, .int ((nI 0) ||| (nI 2))), (0, .ref h0), (1, .long x)]) hx hb dX2_banksOf_35 rfl hl (by decide) rfl (fun ls hl => ?_)
      refine lv_iload_n hx hb dX2_banksOf_36 rfl (lv_at hl 0 rfl) ?_
      refine lv_lload_n hx hb dX2_banksOf_37 rfl (lv_at hl 2 rfl) ?_
      refine lv_aload_n hx hb dX2_banksOf_38 rfl (lv_at hl 1 rfl) ?_
      refine va_get (D := D) (ci := 2) (v := .long (gWeN C R)) (C := RX2) (T := TX2) (N := 7) hx hb hts kiX2_banksOf_X2 hown hK hP 0 rfl rfl 5 (by decide) (hts (.fieldLink RX2 32 "TwoBanks$Grid" "westBank" "J") (List.mem_of_getElem? (i := 3) rfl)) (fun _ h9 => h9) rfl dX2_banksOf_39 ?_
      refine lv_land hx hb dX2_banksOf_42 ?_
      refine lv_lconst (v := 0) hx hb dX2_banksOf_43 (by decide) ?_
      refine W.lcmp hx hb dX2_banksOf_44 ?_
      refine kw_cmp_eq (tgt := 52) hx hb dX2_banksOf_45 (by decide) (fun c_45_6 => ?_) (fun c_45_6 => ?_)
      · refine lv_iconst (v := (nI 0)) hx hb dX2_banksOf_52 (by decide) ?_
        refine lv_ior hx hb dX2_banksOf_53 ?_
        refine lv_istore_n (lv' := [(3, .int (((nI 0) ||| (nI 2)) ||| (nI 0))), (0, .ref h0), (1, .long x)]) hx hb dX2_banksOf_54 rfl hl (by decide) rfl (fun ls hl => ?_)
        refine lv_iload_n hx hb dX2_banksOf_55 rfl (lv_at hl 0 rfl) ?_
        refine lv_lload_n hx hb dX2_banksOf_56 rfl (lv_at hl 2 rfl) ?_
        refine lv_aload_n hx hb dX2_banksOf_57 rfl (lv_at hl 1 rfl) ?_
        refine va_get (D := D) (ci := 2) (v := .long (gEa R C)) (C := RX2) (T := TX2) (N := 7) hx hb hts kiX2_banksOf_X2 hown hK hP 0 rfl rfl 6 (by decide) (hts (.fieldLink RX2 35 "TwoBanks$Grid" "eastBank" "J") (List.mem_of_getElem? (i := 4) rfl)) (fun _ h9 => h9) rfl dX2_banksOf_58 ?_
        refine lv_land hx hb dX2_banksOf_61 ?_
        refine lv_lconst (v := 0) hx hb dX2_banksOf_62 (by decide) ?_
        refine W.lcmp hx hb dX2_banksOf_63 ?_
        refine kw_cmp_eq (tgt := 72) hx hb dX2_banksOf_64 (by decide) (fun c_64_7 => ?_) (fun c_64_7 => ?_)
        · refine lv_iconst (v := (nI 0)) hx hb dX2_banksOf_72 (by decide) ?_
          refine lv_ior hx hb dX2_banksOf_73 ?_
          refine lv_istore_n (lv' := [(3, .int ((((nI 0) ||| (nI 2)) ||| (nI 0)) ||| (nI 0))), (0, .ref h0), (1, .long x)]) hx hb dX2_banksOf_74 rfl hl (by decide) rfl (fun ls hl => ?_)
          refine lv_iload_n hx hb dX2_banksOf_75 rfl (lv_at hl 0 rfl) ?_
          exact W.iret (v := ((((nI 0) ||| (nI 2)) ||| (nI 0)) ||| (nI 0))) hx hb hr (fun t ht hW => ⟨⟨((((nI 0) ||| (nI 2)) ||| (nI 0)) ||| (nI 0)), (), rfl, (by subst_vars; simp only [gBk, *, if_true, if_false]), by rw [ht]; exact hP, hD⟩, hS.F ht⟩) hS.2.2 dX2_banksOf_76
        · refine lv_bipush (v := (nI 8)) hx hb dX2_banksOf_67 (by decide) ?_
          refine lv_goto (tgt := 73) hx hb dX2_banksOf_69 (by decide) ?_
          refine lv_ior hx hb dX2_banksOf_73 ?_
          refine lv_istore_n (lv' := [(3, .int ((((nI 0) ||| (nI 2)) ||| (nI 0)) ||| (nI 8))), (0, .ref h0), (1, .long x)]) hx hb dX2_banksOf_74 rfl hl (by decide) rfl (fun ls hl => ?_)
          refine lv_iload_n hx hb dX2_banksOf_75 rfl (lv_at hl 0 rfl) ?_
          exact W.iret (v := ((((nI 0) ||| (nI 2)) ||| (nI 0)) ||| (nI 8))) hx hb hr (fun t ht hW => ⟨⟨((((nI 0) ||| (nI 2)) ||| (nI 0)) ||| (nI 8)), (), rfl, (by subst_vars; simp only [gBk, *, if_true, if_false]), by rw [ht]; exact hP, hD⟩, hS.F ht⟩) hS.2.2 dX2_banksOf_76
      · refine lv_iconst (v := (nI 4)) hx hb dX2_banksOf_48 (by decide) ?_
        refine lv_goto (tgt := 53) hx hb dX2_banksOf_49 (by decide) ?_
        refine lv_ior hx hb dX2_banksOf_53 ?_
        refine lv_istore_n (lv' := [(3, .int (((nI 0) ||| (nI 2)) ||| (nI 4))), (0, .ref h0), (1, .long x)]) hx hb dX2_banksOf_54 rfl hl (by decide) rfl (fun ls hl => ?_)
        refine lv_iload_n hx hb dX2_banksOf_55 rfl (lv_at hl 0 rfl) ?_
        refine lv_lload_n hx hb dX2_banksOf_56 rfl (lv_at hl 2 rfl) ?_
        refine lv_aload_n hx hb dX2_banksOf_57 rfl (lv_at hl 1 rfl) ?_
        refine va_get (D := D) (ci := 2) (v := .long (gEa R C)) (C := RX2) (T := TX2) (N := 7) hx hb hts kiX2_banksOf_X2 hown hK hP 0 rfl rfl 6 (by decide) (hts (.fieldLink RX2 35 "TwoBanks$Grid" "eastBank" "J") (List.mem_of_getElem? (i := 4) rfl)) (fun _ h9 => h9) rfl dX2_banksOf_58 ?_
        refine lv_land hx hb dX2_banksOf_61 ?_
        refine lv_lconst (v := 0) hx hb dX2_banksOf_62 (by decide) ?_
        refine W.lcmp hx hb dX2_banksOf_63 ?_
        refine kw_cmp_eq (tgt := 72) hx hb dX2_banksOf_64 (by decide) (fun c_64_8 => ?_) (fun c_64_8 => ?_)
        · refine lv_iconst (v := (nI 0)) hx hb dX2_banksOf_72 (by decide) ?_
          refine lv_ior hx hb dX2_banksOf_73 ?_
          refine lv_istore_n (lv' := [(3, .int ((((nI 0) ||| (nI 2)) ||| (nI 4)) ||| (nI 0))), (0, .ref h0), (1, .long x)]) hx hb dX2_banksOf_74 rfl hl (by decide) rfl (fun ls hl => ?_)
          refine lv_iload_n hx hb dX2_banksOf_75 rfl (lv_at hl 0 rfl) ?_
          exact W.iret (v := ((((nI 0) ||| (nI 2)) ||| (nI 4)) ||| (nI 0))) hx hb hr (fun t ht hW => ⟨⟨((((nI 0) ||| (nI 2)) ||| (nI 4)) ||| (nI 0)), (), rfl, (by subst_vars; simp only [gBk, *, if_true, if_false]), by rw [ht]; exact hP, hD⟩, hS.F ht⟩) hS.2.2 dX2_banksOf_76
        · refine lv_bipush (v := (nI 8)) hx hb dX2_banksOf_67 (by decide) ?_
          refine lv_goto (tgt := 73) hx hb dX2_banksOf_69 (by decide) ?_
          refine lv_ior hx hb dX2_banksOf_73 ?_
          refine lv_istore_n (lv' := [(3, .int ((((nI 0) ||| (nI 2)) ||| (nI 4)) ||| (nI 8))), (0, .ref h0), (1, .long x)]) hx hb dX2_banksOf_74 rfl hl (by decide) rfl (fun ls hl => ?_)
          refine lv_iload_n hx hb dX2_banksOf_75 rfl (lv_at hl 0 rfl) ?_
          exact W.iret (v := ((((nI 0) ||| (nI 2)) ||| (nI 4)) ||| (nI 8))) hx hb hr (fun t ht hW => ⟨⟨((((nI 0) ||| (nI 2)) ||| (nI 4)) ||| (nI 8)), (), rfl, (by subst_vars; simp only [gBk, *, if_true, if_false]), by rw [ht]; exact hP, hD⟩, hS.F ht⟩) hS.2.2 dX2_banksOf_76
  · refine lv_iconst (v := (nI 1)) hx hb dX2_banksOf_11 (by decide) ?_
    refine lv_goto (tgt := 16) hx hb dX2_banksOf_12 (by decide) ?_
    refine lv_istore_n (lv' := [(3, .int (nI 1)), (0, .ref h0), (1, .long x)]) hx hb dX2_banksOf_16 rfl hl (by decide) rfl (fun ls hl => ?_)
    refine lv_iload_n hx hb dX2_banksOf_17 rfl (lv_at hl 0 rfl) ?_
    refine lv_lload_n hx hb dX2_banksOf_18 rfl (lv_at hl 2 rfl) ?_
    refine lv_aload_n hx hb dX2_banksOf_19 rfl (lv_at hl 1 rfl) ?_
    refine va_get (D := D) (ci := 2) (v := .long (gSo R C)) (C := RX2) (T := TX2) (N := 7) hx hb hts kiX2_banksOf_X2 hown hK hP 0 rfl rfl 4 (by decide) (hts (.fieldLink RX2 29 "TwoBanks$Grid" "southBank" "J") (List.mem_of_getElem? (i := 2) rfl)) (fun _ h9 => h9) rfl dX2_banksOf_20 ?_
    refine lv_land hx hb dX2_banksOf_23 ?_
    refine lv_lconst (v := 0) hx hb dX2_banksOf_24 (by decide) ?_
    refine W.lcmp hx hb dX2_banksOf_25 ?_
    refine kw_cmp_eq (tgt := 33) hx hb dX2_banksOf_26 (by decide) (fun c_26_9 => ?_) (fun c_26_9 => ?_)
    · refine lv_iconst (v := (nI 0)) hx hb dX2_banksOf_33 (by decide) ?_
      refine lv_ior hx hb dX2_banksOf_34 ?_
      refine lv_istore_n (lv' := [(3, .int ((nI 1) ||| (nI 0))), (0, .ref h0), (1, .long x)]) hx hb dX2_banksOf_35 rfl hl (by decide) rfl (fun ls hl => ?_)
      refine lv_iload_n hx hb dX2_banksOf_36 rfl (lv_at hl 0 rfl) ?_
      refine lv_lload_n hx hb dX2_banksOf_37 rfl (lv_at hl 2 rfl) ?_
      refine lv_aload_n hx hb dX2_banksOf_38 rfl (lv_at hl 1 rfl) ?_
      refine va_get (D := D) (ci := 2) (v := .long (gWeN C R)) (C := RX2) (T := TX2) (N := 7) hx hb hts kiX2_banksOf_X2 hown hK hP 0 rfl rfl 5 (by decide) (hts (.fieldLink RX2 32 "TwoBanks$Grid" "westBank" "J") (List.mem_of_getElem? (i := 3) rfl)) (fun _ h9 => h9) rfl dX2_banksOf_39 ?_
      refine lv_land hx hb dX2_banksOf_42 ?_
      refine lv_lconst (v := 0) hx hb dX2_banksOf_43 (by decide) ?_
      refine W.lcmp hx hb dX2_banksOf_44 ?_
      refine kw_cmp_eq (tgt := 52) hx hb dX2_banksOf_45 (by decide) (fun c_45_10 => ?_) (fun c_45_10 => ?_)
      · refine lv_iconst (v := (nI 0)) hx hb dX2_banksOf_52 (by decide) ?_
        refine lv_ior hx hb dX2_banksOf_53 ?_
        refine lv_istore_n (lv' := [(3, .int (((nI 1) ||| (nI 0)) ||| (nI 0))), (0, .ref h0), (1, .long x)]) hx hb dX2_banksOf_54 rfl hl (by decide) rfl (fun ls hl => ?_)
        refine lv_iload_n hx hb dX2_banksOf_55 rfl (lv_at hl 0 rfl) ?_
        refine lv_lload_n hx hb dX2_banksOf_56 rfl (lv_at hl 2 rfl) ?_
        refine lv_aload_n hx hb dX2_banksOf_57 rfl (lv_at hl 1 rfl) ?_
        refine va_get (D := D) (ci := 2) (v := .long (gEa R C)) (C := RX2) (T := TX2) (N := 7) hx hb hts kiX2_banksOf_X2 hown hK hP 0 rfl rfl 6 (by decide) (hts (.fieldLink RX2 35 "TwoBanks$Grid" "eastBank" "J") (List.mem_of_getElem? (i := 4) rfl)) (fun _ h9 => h9) rfl dX2_banksOf_58 ?_
        refine lv_land hx hb dX2_banksOf_61 ?_
        refine lv_lconst (v := 0) hx hb dX2_banksOf_62 (by decide) ?_
        refine W.lcmp hx hb dX2_banksOf_63 ?_
        refine kw_cmp_eq (tgt := 72) hx hb dX2_banksOf_64 (by decide) (fun c_64_11 => ?_) (fun c_64_11 => ?_)
        · refine lv_iconst (v := (nI 0)) hx hb dX2_banksOf_72 (by decide) ?_
          refine lv_ior hx hb dX2_banksOf_73 ?_
          refine lv_istore_n (lv' := [(3, .int ((((nI 1) ||| (nI 0)) ||| (nI 0)) ||| (nI 0))), (0, .ref h0), (1, .long x)]) hx hb dX2_banksOf_74 rfl hl (by decide) rfl (fun ls hl => ?_)
          refine lv_iload_n hx hb dX2_banksOf_75 rfl (lv_at hl 0 rfl) ?_
          exact W.iret (v := ((((nI 1) ||| (nI 0)) ||| (nI 0)) ||| (nI 0))) hx hb hr (fun t ht hW => ⟨⟨((((nI 1) ||| (nI 0)) ||| (nI 0)) ||| (nI 0)), (), rfl, (by subst_vars; simp only [gBk, *, if_true, if_false]), by rw [ht]; exact hP, hD⟩, hS.F ht⟩) hS.2.2 dX2_banksOf_76
        · refine lv_bipush (v := (nI 8)) hx hb dX2_banksOf_67 (by decide) ?_
          refine lv_goto (tgt := 73) hx hb dX2_banksOf_69 (by decide) ?_
          refine lv_ior hx hb dX2_banksOf_73 ?_
          refine lv_istore_n (lv' := [(3, .int ((((nI 1) ||| (nI 0)) ||| (nI 0)) ||| (nI 8))), (0, .ref h0), (1, .long x)]) hx hb dX2_banksOf_74 rfl hl (by decide) rfl (fun ls hl => ?_)
          refine lv_iload_n hx hb dX2_banksOf_75 rfl (lv_at hl 0 rfl) ?_
          exact W.iret (v := ((((nI 1) ||| (nI 0)) ||| (nI 0)) ||| (nI 8))) hx hb hr (fun t ht hW => ⟨⟨((((nI 1) ||| (nI 0)) ||| (nI 0)) ||| (nI 8)), (), rfl, (by subst_vars; simp only [gBk, *, if_true, if_false]), by rw [ht]; exact hP, hD⟩, hS.F ht⟩) hS.2.2 dX2_banksOf_76
      · refine lv_iconst (v := (nI 4)) hx hb dX2_banksOf_48 (by decide) ?_
        refine lv_goto (tgt := 53) hx hb dX2_banksOf_49 (by decide) ?_
        refine lv_ior hx hb dX2_banksOf_53 ?_
        refine lv_istore_n (lv' := [(3, .int (((nI 1) ||| (nI 0)) ||| (nI 4))), (0, .ref h0), (1, .long x)]) hx hb dX2_banksOf_54 rfl hl (by decide) rfl (fun ls hl => ?_)
        refine lv_iload_n hx hb dX2_banksOf_55 rfl (lv_at hl 0 rfl) ?_
        refine lv_lload_n hx hb dX2_banksOf_56 rfl (lv_at hl 2 rfl) ?_
        refine lv_aload_n hx hb dX2_banksOf_57 rfl (lv_at hl 1 rfl) ?_
        refine va_get (D := D) (ci := 2) (v := .long (gEa R C)) (C := RX2) (T := TX2) (N := 7) hx hb hts kiX2_banksOf_X2 hown hK hP 0 rfl rfl 6 (by decide) (hts (.fieldLink RX2 35 "TwoBanks$Grid" "eastBank" "J") (List.mem_of_getElem? (i := 4) rfl)) (fun _ h9 => h9) rfl dX2_banksOf_58 ?_
        refine lv_land hx hb dX2_banksOf_61 ?_
        refine lv_lconst (v := 0) hx hb dX2_banksOf_62 (by decide) ?_
        refine W.lcmp hx hb dX2_banksOf_63 ?_
        refine kw_cmp_eq (tgt := 72) hx hb dX2_banksOf_64 (by decide) (fun c_64_12 => ?_) (fun c_64_12 => ?_)
        · refine lv_iconst (v := (nI 0)) hx hb dX2_banksOf_72 (by decide) ?_
          refine lv_ior hx hb dX2_banksOf_73 ?_
          refine lv_istore_n (lv' := [(3, .int ((((nI 1) ||| (nI 0)) ||| (nI 4)) ||| (nI 0))), (0, .ref h0), (1, .long x)]) hx hb dX2_banksOf_74 rfl hl (by decide) rfl (fun ls hl => ?_)
          refine lv_iload_n hx hb dX2_banksOf_75 rfl (lv_at hl 0 rfl) ?_
          exact W.iret (v := ((((nI 1) ||| (nI 0)) ||| (nI 4)) ||| (nI 0))) hx hb hr (fun t ht hW => ⟨⟨((((nI 1) ||| (nI 0)) ||| (nI 4)) ||| (nI 0)), (), rfl, (by subst_vars; simp only [gBk, *, if_true, if_false]), by rw [ht]; exact hP, hD⟩, hS.F ht⟩) hS.2.2 dX2_banksOf_76
        · refine lv_bipush (v := (nI 8)) hx hb dX2_banksOf_67 (by decide) ?_
          refine lv_goto (tgt := 73) hx hb dX2_banksOf_69 (by decide) ?_
          refine lv_ior hx hb dX2_banksOf_73 ?_
          refine lv_istore_n (lv' := [(3, .int ((((nI 1) ||| (nI 0)) ||| (nI 4)) ||| (nI 8))), (0, .ref h0), (1, .long x)]) hx hb dX2_banksOf_74 rfl hl (by decide) rfl (fun ls hl => ?_)
          refine lv_iload_n hx hb dX2_banksOf_75 rfl (lv_at hl 0 rfl) ?_
          exact W.iret (v := ((((nI 1) ||| (nI 0)) ||| (nI 4)) ||| (nI 8))) hx hb hr (fun t ht hW => ⟨⟨((((nI 1) ||| (nI 0)) ||| (nI 4)) ||| (nI 8)), (), rfl, (by subst_vars; simp only [gBk, *, if_true, if_false]), by rw [ht]; exact hP, hD⟩, hS.F ht⟩) hS.2.2 dX2_banksOf_76
    · refine lv_iconst (v := (nI 2)) hx hb dX2_banksOf_29 (by decide) ?_
      refine lv_goto (tgt := 34) hx hb dX2_banksOf_30 (by decide) ?_
      refine lv_ior hx hb dX2_banksOf_34 ?_
      refine lv_istore_n (lv' := [(3, .int ((nI 1) ||| (nI 2))), (0, .ref h0), (1, .long x)]) hx hb dX2_banksOf_35 rfl hl (by decide) rfl (fun ls hl => ?_)
      refine lv_iload_n hx hb dX2_banksOf_36 rfl (lv_at hl 0 rfl) ?_
      refine lv_lload_n hx hb dX2_banksOf_37 rfl (lv_at hl 2 rfl) ?_
      refine lv_aload_n hx hb dX2_banksOf_38 rfl (lv_at hl 1 rfl) ?_
      refine va_get (D := D) (ci := 2) (v := .long (gWeN C R)) (C := RX2) (T := TX2) (N := 7) hx hb hts kiX2_banksOf_X2 hown hK hP 0 rfl rfl 5 (by decide) (hts (.fieldLink RX2 32 "TwoBanks$Grid" "westBank" "J") (List.mem_of_getElem? (i := 3) rfl)) (fun _ h9 => h9) rfl dX2_banksOf_39 ?_
      refine lv_land hx hb dX2_banksOf_42 ?_
      refine lv_lconst (v := 0) hx hb dX2_banksOf_43 (by decide) ?_
      refine W.lcmp hx hb dX2_banksOf_44 ?_
      refine kw_cmp_eq (tgt := 52) hx hb dX2_banksOf_45 (by decide) (fun c_45_13 => ?_) (fun c_45_13 => ?_)
      · refine lv_iconst (v := (nI 0)) hx hb dX2_banksOf_52 (by decide) ?_
        refine lv_ior hx hb dX2_banksOf_53 ?_
        refine lv_istore_n (lv' := [(3, .int (((nI 1) ||| (nI 2)) ||| (nI 0))), (0, .ref h0), (1, .long x)]) hx hb dX2_banksOf_54 rfl hl (by decide) rfl (fun ls hl => ?_)
        refine lv_iload_n hx hb dX2_banksOf_55 rfl (lv_at hl 0 rfl) ?_
        refine lv_lload_n hx hb dX2_banksOf_56 rfl (lv_at hl 2 rfl) ?_
        refine lv_aload_n hx hb dX2_banksOf_57 rfl (lv_at hl 1 rfl) ?_
        refine va_get (D := D) (ci := 2) (v := .long (gEa R C)) (C := RX2) (T := TX2) (N := 7) hx hb hts kiX2_banksOf_X2 hown hK hP 0 rfl rfl 6 (by decide) (hts (.fieldLink RX2 35 "TwoBanks$Grid" "eastBank" "J") (List.mem_of_getElem? (i := 4) rfl)) (fun _ h9 => h9) rfl dX2_banksOf_58 ?_
        refine lv_land hx hb dX2_banksOf_61 ?_
        refine lv_lconst (v := 0) hx hb dX2_banksOf_62 (by decide) ?_
        refine W.lcmp hx hb dX2_banksOf_63 ?_
        refine kw_cmp_eq (tgt := 72) hx hb dX2_banksOf_64 (by decide) (fun c_64_14 => ?_) (fun c_64_14 => ?_)
        · refine lv_iconst (v := (nI 0)) hx hb dX2_banksOf_72 (by decide) ?_
          refine lv_ior hx hb dX2_banksOf_73 ?_
          refine lv_istore_n (lv' := [(3, .int ((((nI 1) ||| (nI 2)) ||| (nI 0)) ||| (nI 0))), (0, .ref h0), (1, .long x)]) hx hb dX2_banksOf_74 rfl hl (by decide) rfl (fun ls hl => ?_)
          refine lv_iload_n hx hb dX2_banksOf_75 rfl (lv_at hl 0 rfl) ?_
          exact W.iret (v := ((((nI 1) ||| (nI 2)) ||| (nI 0)) ||| (nI 0))) hx hb hr (fun t ht hW => ⟨⟨((((nI 1) ||| (nI 2)) ||| (nI 0)) ||| (nI 0)), (), rfl, (by subst_vars; simp only [gBk, *, if_true, if_false]), by rw [ht]; exact hP, hD⟩, hS.F ht⟩) hS.2.2 dX2_banksOf_76
        · refine lv_bipush (v := (nI 8)) hx hb dX2_banksOf_67 (by decide) ?_
          refine lv_goto (tgt := 73) hx hb dX2_banksOf_69 (by decide) ?_
          refine lv_ior hx hb dX2_banksOf_73 ?_
          refine lv_istore_n (lv' := [(3, .int ((((nI 1) ||| (nI 2)) ||| (nI 0)) ||| (nI 8))), (0, .ref h0), (1, .long x)]) hx hb dX2_banksOf_74 rfl hl (by decide) rfl (fun ls hl => ?_)
          refine lv_iload_n hx hb dX2_banksOf_75 rfl (lv_at hl 0 rfl) ?_
          exact W.iret (v := ((((nI 1) ||| (nI 2)) ||| (nI 0)) ||| (nI 8))) hx hb hr (fun t ht hW => ⟨⟨((((nI 1) ||| (nI 2)) ||| (nI 0)) ||| (nI 8)), (), rfl, (by subst_vars; simp only [gBk, *, if_true, if_false]), by rw [ht]; exact hP, hD⟩, hS.F ht⟩) hS.2.2 dX2_banksOf_76
      · refine lv_iconst (v := (nI 4)) hx hb dX2_banksOf_48 (by decide) ?_
        refine lv_goto (tgt := 53) hx hb dX2_banksOf_49 (by decide) ?_
        refine lv_ior hx hb dX2_banksOf_53 ?_
        refine lv_istore_n (lv' := [(3, .int (((nI 1) ||| (nI 2)) ||| (nI 4))), (0, .ref h0), (1, .long x)]) hx hb dX2_banksOf_54 rfl hl (by decide) rfl (fun ls hl => ?_)
        refine lv_iload_n hx hb dX2_banksOf_55 rfl (lv_at hl 0 rfl) ?_
        refine lv_lload_n hx hb dX2_banksOf_56 rfl (lv_at hl 2 rfl) ?_
        refine lv_aload_n hx hb dX2_banksOf_57 rfl (lv_at hl 1 rfl) ?_
        refine va_get (D := D) (ci := 2) (v := .long (gEa R C)) (C := RX2) (T := TX2) (N := 7) hx hb hts kiX2_banksOf_X2 hown hK hP 0 rfl rfl 6 (by decide) (hts (.fieldLink RX2 35 "TwoBanks$Grid" "eastBank" "J") (List.mem_of_getElem? (i := 4) rfl)) (fun _ h9 => h9) rfl dX2_banksOf_58 ?_
        refine lv_land hx hb dX2_banksOf_61 ?_
        refine lv_lconst (v := 0) hx hb dX2_banksOf_62 (by decide) ?_
        refine W.lcmp hx hb dX2_banksOf_63 ?_
        refine kw_cmp_eq (tgt := 72) hx hb dX2_banksOf_64 (by decide) (fun c_64_15 => ?_) (fun c_64_15 => ?_)
        · refine lv_iconst (v := (nI 0)) hx hb dX2_banksOf_72 (by decide) ?_
          refine lv_ior hx hb dX2_banksOf_73 ?_
          refine lv_istore_n (lv' := [(3, .int ((((nI 1) ||| (nI 2)) ||| (nI 4)) ||| (nI 0))), (0, .ref h0), (1, .long x)]) hx hb dX2_banksOf_74 rfl hl (by decide) rfl (fun ls hl => ?_)
          refine lv_iload_n hx hb dX2_banksOf_75 rfl (lv_at hl 0 rfl) ?_
          exact W.iret (v := ((((nI 1) ||| (nI 2)) ||| (nI 4)) ||| (nI 0))) hx hb hr (fun t ht hW => ⟨⟨((((nI 1) ||| (nI 2)) ||| (nI 4)) ||| (nI 0)), (), rfl, (by subst_vars; simp only [gBk, *, if_true, if_false]), by rw [ht]; exact hP, hD⟩, hS.F ht⟩) hS.2.2 dX2_banksOf_76
        · refine lv_bipush (v := (nI 8)) hx hb dX2_banksOf_67 (by decide) ?_
          refine lv_goto (tgt := 73) hx hb dX2_banksOf_69 (by decide) ?_
          refine lv_ior hx hb dX2_banksOf_73 ?_
          refine lv_istore_n (lv' := [(3, .int ((((nI 1) ||| (nI 2)) ||| (nI 4)) ||| (nI 8))), (0, .ref h0), (1, .long x)]) hx hb dX2_banksOf_74 rfl hl (by decide) rfl (fun ls hl => ?_)
          refine lv_iload_n hx hb dX2_banksOf_75 rfl (lv_at hl 0 rfl) ?_
          exact W.iret (v := ((((nI 1) ||| (nI 2)) ||| (nI 4)) ||| (nI 8))) hx hb hr (fun t ht hW => ⟨⟨((((nI 1) ||| (nI 2)) ||| (nI 4)) ||| (nI 8)), (), rfl, (by subst_vars; simp only [gBk, *, if_true, if_false]), by rw [ht]; exact hP, hD⟩, hS.F ht⟩) hS.2.2 dX2_banksOf_76

theorem kiX2_turned_X2 : ∀ w ∈ u_ws RX2 TX2 7, w ∈ wsX2_turned := fun w h => List.mem_cons_of_mem _ (List.mem_append_right _ h)
set_option maxHeartbeats 4000000 in
set_option maxRecDepth 100000 in
theorem c_G_turned (l : Launch) (D : va_G) (cI cJ cZ : ClassId) (h0 : Nat) (R C : Nat) (x : Int64) (hR1 : 1 ≤ R) (hR2 : R ≤ 6) (hC1 : 1 ≤ C) (hC2 : C ≤ 6) (hRC : R * C ≤ 36) (sz : Nat) : kMJ l yX2_turned wsX2_turned 1 20 D cI cJ cZ [.ref h0, .long x] [(h0, wGr R C)] sz (fun r (_ : Unit) => r = gTu R C x) (fun _ : Unit => [(h0, wGr R C)]) := by
  refine Met.ofW (cc := cX2_turned) (maxL := 7) (ret := (some .long)) (by decide) rfl ?_
  intro p e s m args below meth c s₁ B hml hv
  obtain ⟨rfl, hsz, hP, ⟨hK, hN⟩, hD0⟩ := hv
  have hx := B.exec
  have hb := B.bytes
  have hr := B.returns
  have hts := atoms_spec (ws := wsX2_turned) B.pre
  have hown : s.vm.findClass RX2 = some m.cls := findClass_of_methodNamed B.named
  have hlocks := B.notSynchronized
  subst hsz
  have hD := hD0.self (sz := s.heap.size)
  generalize hAe : va_A [(h0, wGr R C)] s.heap.size = A at hD ⊢
  have hA : ∀ q : Nat, s.heap.size ≤ q → A q := fun q h => by rw [← hAe]; exact Or.inr h
  have hS : va_S A s.heap s.heap [] := va_S.rf
  have hl := lv_entry ([.ref h0, .long x]) (n := 7) (Nat.le_of_ble_eq_true rfl)
  rw [lg_entry_eq]
  generalize (lg_sl ([.ref h0, .long x]) ++ List.replicate (7 - (lg_sl ([.ref h0, .long x])).length) Slot.unset).toArray = ls at hl ⊢
  have hl : lv_has ls 7 [(0, .ref h0), (1, .long x)] := hl
  have hK2 : kK D cI cJ cZ s := ⟨hK, hN⟩
  clear hD0
  refine lv_lconst (v := 0) hx hb dX2_turned_0 (by decide) ?_
  refine lv_lstore_n (lv' := [(3, .long 0), (0, .ref h0), (1, .long x)]) hx hb dX2_turned_1 rfl hl (by decide) rfl (fun ls hl => ?_)
  refine lv_iconst (v := (nI 0)) hx hb dX2_turned_2 (by decide) ?_
  refine lv_istore (lv' := [(5, .int (nI 0)), (3, .long 0), (0, .ref h0), (1, .long x)]) hx hb dX2_turned_3 hl (by decide) rfl (fun ls hl => ?_)
  refine kw_loop (σ := Nat) (fun (r : Nat) H locs ls => va_P D vwCl [(h0, wGr R C)] H ∧ va_D A [(h0, wGr R C)] ∧ va_S A s.heap H locs ∧ lv_has ls 7 [(0, .ref h0), (1, .long x), (3, .long (gTuO R C x r)), (5, .int (nI r))] ∧ (r ≤ R)) (fun (r : Nat) => R - r) 0 ⟨hP, hD, hS, lv_sub hl [2, 3, 1, 0] rfl, by omega⟩ ?_
  clear hP hD hS hl
  rintro r H locs ls ⟨hP, hD, hS, hl, hr2⟩ ih_5
  have hP : va_P D vwCl [(h0, wGr R C)] H := hP
  have hD : va_D A [(h0, wGr R C)] := hD
  have hl : lv_has ls 7 [(0, .ref h0), (1, .long x), (3, .long (gTuO R C x r)), (5, .int (nI r))] := hl
  have hr2 : r ≤ R := hr2
  refine lv_iload hx hb dX2_turned_5 (lv_at hl 3 rfl) ?_
  refine lv_aload_n hx hb dX2_turned_7 rfl (lv_at hl 0 rfl) ?_
  refine va_get (D := D) (ci := 2) (v := .int (nI R)) (C := RX2) (T := TX2) (N := 7) hx hb hts kiX2_turned_X2 hown hK hP 0 rfl rfl 0 (by decide) (hts (.fieldLink RX2 9 "TwoBanks$Grid" "rows" "I") (List.mem_of_getElem? (i := 1) rfl)) (fun _ h9 => h9) rfl dX2_turned_8 ?_
  refine kw_icmp_ge (tgt := 74) hx hb dX2_turned_11 (by decide) (by omega) (by omega) (fun c_11_1 => ?_) (fun c_11_1 => ?_)
  · refine lv_lload_n hx hb dX2_turned_74 rfl (lv_at hl 2 rfl) ?_
    exact W.lret (v := (gTuO R C x r)) hx hb hr (fun t ht hW => ⟨⟨(gTuO R C x r), (), rfl, (by rw [show r = R by omega]; rfl), by rw [ht]; exact hP, hD⟩, hS.F ht⟩) hS.2.2 dX2_turned_75
  · refine lv_iconst (v := (nI 0)) hx hb dX2_turned_14 (by decide) ?_
    refine lv_istore (lv' := [(6, .int (nI 0)), (0, .ref h0), (1, .long x), (3, .long (gTuO R C x r)), (5, .int (nI r))]) hx hb dX2_turned_15 hl (by decide) rfl (fun ls hl => ?_)
    refine kw_loop (σ := Nat) (fun (cc : Nat) H locs ls => va_P D vwCl [(h0, wGr R C)] H ∧ va_D A [(h0, wGr R C)] ∧ va_S A s.heap H locs ∧ lv_has ls 7 [(0, .ref h0), (1, .long x), (3, .long (gTuI R C x r (gTuO R C x r) cc)), (5, .int (nI r)), (6, .int (nI cc))] ∧ (cc ≤ C)) (fun (cc : Nat) => C - cc) 0 ⟨hP, hD, hS, lv_sub hl [1, 2, 3, 4, 0] rfl, by omega⟩ ?_
    clear hP hD hS hl
    rintro cc H locs ls ⟨hP, hD, hS, hl, hc2⟩ ih_17
    have hP : va_P D vwCl [(h0, wGr R C)] H := hP
    have hD : va_D A [(h0, wGr R C)] := hD
    have hl : lv_has ls 7 [(0, .ref h0), (1, .long x), (3, .long (gTuI R C x r (gTuO R C x r) cc)), (5, .int (nI r)), (6, .int (nI cc))] := hl
    have hc2 : cc ≤ C := hc2
    refine lv_iload hx hb dX2_turned_17 (lv_at hl 4 rfl) ?_
    refine lv_aload_n hx hb dX2_turned_19 rfl (lv_at hl 0 rfl) ?_
    refine va_get (D := D) (ci := 2) (v := .int (nI C)) (C := RX2) (T := TX2) (N := 7) hx hb hts kiX2_turned_X2 hown hK hP 0 rfl rfl 1 (by decide) (hts (.fieldLink RX2 15 "TwoBanks$Grid" "columns" "I") (List.mem_of_getElem? (i := 2) rfl)) (fun _ h9 => h9) rfl dX2_turned_20 ?_
    refine kw_icmp_ge (tgt := 68) hx hb dX2_turned_23 (by decide) (by omega) (by omega) (fun c_23_2 => ?_) (fun c_23_2 => ?_)
    · have hl : lv_has ls 7 [(0, .ref h0), (1, .long x), (3, .long (gTuO R C x (r + 1))), (5, .int (nI r)), (6, .int (nI cc))] := by have e9 : gTuI R C x r (gTuO R C x r) cc = gTuO R C x (r + 1) := (by rw [show cc = C by omega]; rfl); rw [e9] at hl; exact hl
      refine lv_iinc (v := (nI (r + 1))) (lv' := [(5, .int (nI (r + 1))), (0, .ref h0), (1, .long x), (3, .long (gTuO R C x (r + 1))), (6, .int (nI cc))]) hx hb dX2_turned_68 hl (k := 3) rfl (k_inc _ 1) (by decide) rfl (fun ls hl => ?_)
      refine lv_goto (tgt := 5) hx hb dX2_turned_71 (by decide) ?_
      exact ih_5 (r + 1) _ _ _ (by show R - (r + 1) < R - r; omega) ⟨hP, hD, hS, lv_sub hl [1, 2, 3, 0] rfl, by omega⟩
    · refine lv_lload_n hx hb dX2_turned_26 rfl (lv_at hl 1 rfl) ?_
      refine lv_aload_n hx hb dX2_turned_27 rfl (lv_at hl 0 rfl) ?_
      refine va_get (D := D) (ci := 2) (v := .int (nI C)) (C := RX2) (T := TX2) (N := 7) hx hb hts kiX2_turned_X2 hown hK hP 0 rfl rfl 1 (by decide) (hts (.fieldLink RX2 15 "TwoBanks$Grid" "columns" "I") (List.mem_of_getElem? (i := 2) rfl)) (fun _ h9 => h9) rfl dX2_turned_28 ?_
      refine lv_iload hx hb dX2_turned_31 (lv_at hl 3 rfl) ?_
      refine lv_imul hx hb dX2_turned_33 ?_
      refine k_toi (y := nI (C * r)) (pk_mul _ _) ?_
      refine lv_iload hx hb dX2_turned_34 (lv_at hl 4 rfl) ?_
      refine lv_iadd hx hb dX2_turned_36 ?_
      refine k_toi (y := nI ((C * r) + cc)) (nI_add _ _) ?_
      refine k_calll (wr := [(h0, wGr R C)]) (w2 := (fun _ : Unit => [(h0, wGr R C)])) (va_runSN (As := [.int (nI ((C * r) + cc))]) (rest := [.long x]) ⟨hx, hb, hml, hown, hts⟩ (c_bit l D cI cJ cZ (nI ((C * r) + cc))  H.size) ⟨va_cnB 1 hts gX2_turned_X5_bit_n18 rfl rfl rfl (kN_X2_18 hN) (hts (.initialized RX5) (List.mem_of_getElem? (i := 4) rfl)) (by decide +kernel) ⟨Nat.le_of_ble_eq_true rfl, Nat.le_of_ble_eq_true rfl⟩, (hts (.static yX5_bit) (List.mem_of_getElem? (i := 3) rfl)), trivial⟩ (kPS (wc := []) hK2 hP hD [] rfl (by decide)) rfl rfl hl.1 rfl (lv_room (Nat.le_of_ble_eq_true rfl)) dX2_turned_37 ⟨Nat.le_of_ble_eq_true rfl, Nat.le_of_ble_eq_true rfl⟩) hP hD hS hA [] [0] [0] rfl rfl (by decide) (by decide) (fun _ => rfl) (by decide) (fun r_3 u_3 H locs hw_3 hP hD hS => ?_)
      have hP : va_P D vwCl [(h0, wGr R C)] H := hP
      have hD : va_D A [(h0, wGr R C)] := hD
      subst hw_3
      refine lv_land hx hb dX2_turned_40 ?_
      refine lv_lconst (v := 0) hx hb dX2_turned_41 (by decide) ?_
      refine W.lcmp hx hb dX2_turned_42 ?_
      refine kw_cmp_eq (tgt := 62) hx hb dX2_turned_43 (by decide) (fun c_43_4 => ?_) (fun c_43_4 => ?_)
      · have hl : lv_has ls 7 [(0, .ref h0), (1, .long x), (3, .long (gTuI R C x r (gTuO R C x r) (cc + 1))), (5, .int (nI r)), (6, .int (nI cc))] := by first | (rw [gTuI_s0 (by assumption)]; exact hl) | (subst_vars; rw [gTuI_s1 (by assumption)]; exact hl)
        refine lv_iinc (v := (nI (cc + 1))) (lv' := [(6, .int (nI (cc + 1))), (0, .ref h0), (1, .long x), (3, .long (gTuI R C x r (gTuO R C x r) (cc + 1))), (5, .int (nI r))]) hx hb dX2_turned_62 hl (k := 4) rfl (k_inc _ 1) (by decide) rfl (fun ls hl => ?_)
        refine lv_goto (tgt := 17) hx hb dX2_turned_65 (by decide) ?_
        exact ih_17 (cc + 1) _ _ _ (by show C - (cc + 1) < C - cc; omega) ⟨hP, hD, hS, lv_sub hl [1, 2, 3, 4, 0] rfl, by omega⟩
      · refine lv_lload_n hx hb dX2_turned_46 rfl (lv_at hl 2 rfl) ?_
        refine lv_aload_n hx hb dX2_turned_47 rfl (lv_at hl 0 rfl) ?_
        refine va_get (D := D) (ci := 2) (v := .int (nI R)) (C := RX2) (T := TX2) (N := 7) hx hb hts kiX2_turned_X2 hown hK hP 0 rfl rfl 0 (by decide) (hts (.fieldLink RX2 9 "TwoBanks$Grid" "rows" "I") (List.mem_of_getElem? (i := 1) rfl)) (fun _ h9 => h9) rfl dX2_turned_48 ?_
        refine lv_iload hx hb dX2_turned_51 (lv_at hl 4 rfl) ?_
        refine lv_imul hx hb dX2_turned_53 ?_
        refine k_toi (y := nI (R * cc)) (pk_mul _ _) ?_
        refine lv_iload hx hb dX2_turned_54 (lv_at hl 3 rfl) ?_
        refine lv_iadd hx hb dX2_turned_56 ?_
        refine k_toi (y := nI ((R * cc) + r)) (nI_add _ _) ?_
        refine k_calll (wr := [(h0, wGr R C)]) (w2 := (fun _ : Unit => [(h0, wGr R C)])) (va_runSN (As := [.int (nI ((R * cc) + r))]) (rest := [.long (gTuI R C x r (gTuO R C x r) cc)]) ⟨hx, hb, hml, hown, hts⟩ (c_bit l D cI cJ cZ (nI ((R * cc) + r))  H.size) ⟨va_cnB 1 hts gX2_turned_X5_bit_n18 rfl rfl rfl (kN_X2_18 hN) (hts (.initialized RX5) (List.mem_of_getElem? (i := 4) rfl)) (by decide +kernel) ⟨Nat.le_of_ble_eq_true rfl, Nat.le_of_ble_eq_true rfl⟩, (hts (.static yX5_bit) (List.mem_of_getElem? (i := 3) rfl)), trivial⟩ (kPS (wc := []) hK2 hP hD [] rfl (by decide)) rfl rfl hl.1 rfl (lv_room (Nat.le_of_ble_eq_true rfl)) dX2_turned_57 ⟨Nat.le_of_ble_eq_true rfl, Nat.le_of_ble_eq_true rfl⟩) hP hD hS hA [] [0] [0] rfl rfl (by decide) (by decide) (fun _ => rfl) (by decide) (fun r_5 u_5 H locs hw_5 hP hD hS => ?_)
        have hP : va_P D vwCl [(h0, wGr R C)] H := hP
        have hD : va_D A [(h0, wGr R C)] := hD
        subst hw_5
        refine lv_lor hx hb dX2_turned_60 ?_
        refine k_tol (y := (gTuI R C x r (gTuO R C x r) cc ||| gBit (nI (R * cc + r)))) rfl ?_
        refine lv_lstore_n (lv' := [(3, .long (gTuI R C x r (gTuO R C x r) cc ||| gBit (nI (R * cc + r)))), (0, .ref h0), (1, .long x), (5, .int (nI r)), (6, .int (nI cc))]) hx hb dX2_turned_61 rfl hl (by decide) rfl (fun ls hl => ?_)
        have hl : lv_has ls 7 [(3, .long (gTuI R C x r (gTuO R C x r) (cc + 1))), (0, .ref h0), (1, .long x), (5, .int (nI r)), (6, .int (nI cc))] := by first | (rw [gTuI_s0 (by assumption)]; exact hl) | (subst_vars; rw [gTuI_s1 (by assumption)]; exact hl)
        refine lv_iinc (v := (nI (cc + 1))) (lv' := [(6, .int (nI (cc + 1))), (3, .long (gTuI R C x r (gTuO R C x r) (cc + 1))), (0, .ref h0), (1, .long x), (5, .int (nI r))]) hx hb dX2_turned_62 hl (k := 4) rfl (k_inc _ 1) (by decide) rfl (fun ls hl => ?_)
        refine lv_goto (tgt := 17) hx hb dX2_turned_65 (by decide) ?_
        exact ih_17 (cc + 1) _ _ _ (by show C - (cc + 1) < C - cc; omega) ⟨hP, hD, hS, lv_sub hl [2, 3, 1, 4, 0] rfl, by omega⟩

theorem kiX2_shape_X2 : ∀ w ∈ u_ws RX2 TX2 7, w ∈ wsX2_shape := fun w h => List.mem_cons_of_mem _ (List.mem_append_right _ h)
set_option maxHeartbeats 4000000 in
set_option maxRecDepth 100000 in
theorem c_G_shape (l : Launch) (D : va_G) (cI cJ cZ : ClassId) (h0 : Nat) (a b : Int32) (g1 g2 g3 g4 g5 : Int64) (R C : Nat) (hR1 : 1 ≤ R) (hR2 : R ≤ 6) (hC1 : 1 ≤ C) (hC2 : C ≤ 6) (hRC : R * C ≤ 36) (sz : Nat) : kMV l yX2_shape wsX2_shape 1 20 D cI cJ cZ [.ref h0, .int (nI R), .int (nI C)] [(h0, .inr (2, [.int a, .int b, .long g1, .long g2, .long g3, .long g4, .long g5]))] sz (fun (_ : Unit) => True) (fun _ : Unit => [(h0, wGr R C)]) := by
  refine Met.ofW (cc := cX2_shape) (maxL := 4) (ret := none) (by decide) rfl ?_
  intro p e s m args below meth c s₁ B hml hv
  obtain ⟨rfl, hsz, hP, ⟨hK, hN⟩, hD0⟩ := hv
  have hx := B.exec
  have hb := B.bytes
  have hr := B.returns
  have hts := atoms_spec (ws := wsX2_shape) B.pre
  have hown : s.vm.findClass RX2 = some m.cls := findClass_of_methodNamed B.named
  have hlocks := B.notSynchronized
  subst hsz
  have hD := hD0.self (sz := s.heap.size)
  generalize hAe : va_A [(h0, .inr (2, [.int a, .int b, .long g1, .long g2, .long g3, .long g4, .long g5]))] s.heap.size = A at hD ⊢
  have hA : ∀ q : Nat, s.heap.size ≤ q → A q := fun q h => by rw [← hAe]; exact Or.inr h
  have hS : va_S A s.heap s.heap [] := va_S.rf
  have hl := lv_entry ([.ref h0, .int (nI R), .int (nI C)]) (n := 4) (Nat.le_of_ble_eq_true rfl)
  rw [lg_entry_eq]
  generalize (lg_sl ([.ref h0, .int (nI R), .int (nI C)]) ++ List.replicate (4 - (lg_sl ([.ref h0, .int (nI R), .int (nI C)])).length) Slot.unset).toArray = ls at hl ⊢
  have hl : lv_has ls 4 [(0, .ref h0), (1, .int (nI R)), (2, .int (nI C))] := hl
  have hK2 : kK D cI cJ cZ s := ⟨hK, hN⟩
  clear hD0
  refine lv_aload_n hx hb dX2_shape_0 rfl (lv_at hl 0 rfl) ?_
  refine lv_iload_n hx hb dX2_shape_1 rfl (lv_at hl 1 rfl) ?_
  refine va_put (D := D) (ci := 2) (v := .int (nI R)) (ty := .int) (C := RX2) (T := TX2) (N := 7) hx hb hts kiX2_shape_X2 tyX2 tyX2_ok nmX2 hown hK hP hD hS 0 rfl rfl 0 (by decide) (hts (.fieldLink RX2 9 "TwoBanks$Grid" "rows" "I") (List.mem_of_getElem? (i := 1) rfl)) (fun _ h9 => h9) rfl  (by decide +kernel) rfl rfl (Nat.le_of_ble_eq_true rfl) dX2_shape_2 (fun H locs hP hD hS => ?_)
  have hP : va_P D vwCl [(h0, .inr (2, [.int (nI R), .int b, .long g1, .long g2, .long g3, .long g4, .long g5]))] H := hP
  have hD : va_D A [(h0, .inr (2, [.int (nI R), .int b, .long g1, .long g2, .long g3, .long g4, .long g5]))] := hD
  refine lv_aload_n hx hb dX2_shape_5 rfl (lv_at hl 0 rfl) ?_
  refine lv_iload_n hx hb dX2_shape_6 rfl (lv_at hl 2 rfl) ?_
  refine va_put (D := D) (ci := 2) (v := .int (nI C)) (ty := .int) (C := RX2) (T := TX2) (N := 7) hx hb hts kiX2_shape_X2 tyX2 tyX2_ok nmX2 hown hK hP hD hS 0 rfl rfl 1 (by decide) (hts (.fieldLink RX2 15 "TwoBanks$Grid" "columns" "I") (List.mem_of_getElem? (i := 2) rfl)) (fun _ h9 => h9) rfl  (by decide +kernel) rfl rfl (Nat.le_of_ble_eq_true rfl) dX2_shape_7 (fun H locs hP hD hS => ?_)
  have hP : va_P D vwCl [(h0, .inr (2, [.int (nI R), .int (nI C), .long g1, .long g2, .long g3, .long g4, .long g5]))] H := hP
  have hD : va_D A [(h0, .inr (2, [.int (nI R), .int (nI C), .long g1, .long g2, .long g3, .long g4, .long g5]))] := hD
  refine lv_aload_n hx hb dX2_shape_10 rfl (lv_at hl 0 rfl) ?_
  refine lv_aload_n hx hb dX2_shape_11 rfl (lv_at hl 0 rfl) ?_
  refine va_get (D := D) (ci := 2) (v := .int (nI R)) (C := RX2) (T := TX2) (N := 7) hx hb hts kiX2_shape_X2 hown hK hP 0 rfl rfl 0 (by decide) (hts (.fieldLink RX2 9 "TwoBanks$Grid" "rows" "I") (List.mem_of_getElem? (i := 1) rfl)) (fun _ h9 => h9) rfl dX2_shape_12 ?_
  refine lv_aload_n hx hb dX2_shape_15 rfl (lv_at hl 0 rfl) ?_
  refine va_get (D := D) (ci := 2) (v := .int (nI C)) (C := RX2) (T := TX2) (N := 7) hx hb hts kiX2_shape_X2 hown hK hP 0 rfl rfl 1 (by decide) (hts (.fieldLink RX2 15 "TwoBanks$Grid" "columns" "I") (List.mem_of_getElem? (i := 2) rfl)) (fun _ h9 => h9) rfl dX2_shape_16 ?_
  refine lv_imul hx hb dX2_shape_19 ?_
  refine k_toi (y := nI (R * C)) (pk_mul _ _) ?_
  refine k_calll (wr := [(h0, .inr (2, [.int (nI R), .int (nI C), .long g1, .long g2, .long g3, .long g4, .long g5]))]) (w2 := (fun _ : Unit => [(h0, .inr (2, [.int (nI R), .int (nI C), .long g1, .long g2, .long g3, .long g4, .long g5]))])) (va_runSN (As := [.int (nI (R * C))]) (rest := [.ref h0]) ⟨hx, hb, hml, hown, hts⟩ (c_bit l D cI cJ cZ (nI (R * C))  H.size) ⟨va_cnB 1 hts gX2_shape_X5_bit_n18 rfl rfl rfl (kN_X2_18 hN) (hts (.initialized RX5) (List.mem_of_getElem? (i := 9) rfl)) (by decide +kernel) ⟨Nat.le_of_ble_eq_true rfl, Nat.le_of_ble_eq_true rfl⟩, (hts (.static yX5_bit) (List.mem_of_getElem? (i := 8) rfl)), trivial⟩ (kPS (wc := []) hK2 hP hD [] rfl (by decide)) rfl rfl hl.1 rfl (lv_room (Nat.le_of_ble_eq_true rfl)) dX2_shape_20 ⟨Nat.le_of_ble_eq_true rfl, Nat.le_of_ble_eq_true rfl⟩) hP hD hS hA [] [0] [0] rfl rfl (by decide) (by decide) (fun _ => rfl) (by decide) (fun r_1 u_1 H locs hw_1 hP hD hS => ?_)
  have hP : va_P D vwCl [(h0, .inr (2, [.int (nI R), .int (nI C), .long g1, .long g2, .long g3, .long g4, .long g5]))] H := hP
  have hD : va_D A [(h0, .inr (2, [.int (nI R), .int (nI C), .long g1, .long g2, .long g3, .long g4, .long g5]))] := hD
  subst hw_1
  refine lv_lconst (v := 1) hx hb dX2_shape_23 (by decide) ?_
  refine lv_lsub hx hb dX2_shape_24 ?_
  refine k_tol (y := (gAll R C)) rfl ?_
  refine va_put (D := D) (ci := 2) (v := .long (gAll R C)) (ty := .long) (C := RX2) (T := TX2) (N := 7) hx hb hts kiX2_shape_X2 tyX2 tyX2_ok nmX2 hown hK hP hD hS 0 rfl rfl 2 (by decide) (hts (.fieldLink RX2 22 "TwoBanks$Grid" "all" "J") (List.mem_of_getElem? (i := 3) rfl)) (fun _ h9 => h9) rfl  (by decide +kernel) rfl rfl (Nat.le_of_ble_eq_true rfl) dX2_shape_25 (fun H locs hP hD hS => ?_)
  have hP : va_P D vwCl [(h0, .inr (2, [.int (nI R), .int (nI C), .long (gAll R C), .long g2, .long g3, .long g4, .long g5]))] H := hP
  have hD : va_D A [(h0, .inr (2, [.int (nI R), .int (nI C), .long (gAll R C), .long g2, .long g3, .long g4, .long g5]))] := hD
  refine lv_aload_n hx hb dX2_shape_28 rfl (lv_at hl 0 rfl) ?_
  refine lv_aload_n hx hb dX2_shape_29 rfl (lv_at hl 0 rfl) ?_
  refine va_get (D := D) (ci := 2) (v := .int (nI C)) (C := RX2) (T := TX2) (N := 7) hx hb hts kiX2_shape_X2 hown hK hP 0 rfl rfl 1 (by decide) (hts (.fieldLink RX2 15 "TwoBanks$Grid" "columns" "I") (List.mem_of_getElem? (i := 2) rfl)) (fun _ h9 => h9) rfl dX2_shape_30 ?_
  refine k_calll (wr := [(h0, .inr (2, [.int (nI R), .int (nI C), .long (gAll R C), .long g2, .long g3, .long g4, .long g5]))]) (w2 := (fun _ : Unit => [(h0, .inr (2, [.int (nI R), .int (nI C), .long (gAll R C), .long g2, .long g3, .long g4, .long g5]))])) (va_runSN (As := [.int (nI C)]) (rest := [.ref h0]) ⟨hx, hb, hml, hown, hts⟩ (c_bit l D cI cJ cZ (nI C)  H.size) ⟨va_cnB 1 hts gX2_shape_X5_bit_n18 rfl rfl rfl (kN_X2_18 hN) (hts (.initialized RX5) (List.mem_of_getElem? (i := 9) rfl)) (by decide +kernel) ⟨Nat.le_of_ble_eq_true rfl, Nat.le_of_ble_eq_true rfl⟩, (hts (.static yX5_bit) (List.mem_of_getElem? (i := 8) rfl)), trivial⟩ (kPS (wc := []) hK2 hP hD [] rfl (by decide)) rfl rfl hl.1 rfl (lv_room (Nat.le_of_ble_eq_true rfl)) dX2_shape_33 ⟨Nat.le_of_ble_eq_true rfl, Nat.le_of_ble_eq_true rfl⟩) hP hD hS hA [] [0] [0] rfl rfl (by decide) (by decide) (fun _ => rfl) (by decide) (fun r_2 u_2 H locs hw_2 hP hD hS => ?_)
  have hP : va_P D vwCl [(h0, .inr (2, [.int (nI R), .int (nI C), .long (gAll R C), .long g2, .long g3, .long g4, .long g5]))] H := hP
  have hD : va_D A [(h0, .inr (2, [.int (nI R), .int (nI C), .long (gAll R C), .long g2, .long g3, .long g4, .long g5]))] := hD
  subst hw_2
  refine lv_lconst (v := 1) hx hb dX2_shape_36 (by decide) ?_
  refine lv_lsub hx hb dX2_shape_37 ?_
  refine k_tol (y := (gNo C)) rfl ?_
  refine va_put (D := D) (ci := 2) (v := .long (gNo C)) (ty := .long) (C := RX2) (T := TX2) (N := 7) hx hb hts kiX2_shape_X2 tyX2 tyX2_ok nmX2 hown hK hP hD hS 0 rfl rfl 3 (by decide) (hts (.fieldLink RX2 26 "TwoBanks$Grid" "northBank" "J") (List.mem_of_getElem? (i := 4) rfl)) (fun _ h9 => h9) rfl  (by decide +kernel) rfl rfl (Nat.le_of_ble_eq_true rfl) dX2_shape_38 (fun H locs hP hD hS => ?_)
  have hP : va_P D vwCl [(h0, .inr (2, [.int (nI R), .int (nI C), .long (gAll R C), .long (gNo C), .long g3, .long g4, .long g5]))] H := hP
  have hD : va_D A [(h0, .inr (2, [.int (nI R), .int (nI C), .long (gAll R C), .long (gNo C), .long g3, .long g4, .long g5]))] := hD
  refine lv_aload_n hx hb dX2_shape_41 rfl (lv_at hl 0 rfl) ?_
  refine lv_aload_n hx hb dX2_shape_42 rfl (lv_at hl 0 rfl) ?_
  refine va_get (D := D) (ci := 2) (v := .long (gNo C)) (C := RX2) (T := TX2) (N := 7) hx hb hts kiX2_shape_X2 hown hK hP 0 rfl rfl 3 (by decide) (hts (.fieldLink RX2 26 "TwoBanks$Grid" "northBank" "J") (List.mem_of_getElem? (i := 4) rfl)) (fun _ h9 => h9) rfl dX2_shape_43 ?_
  refine lv_aload_n hx hb dX2_shape_46 rfl (lv_at hl 0 rfl) ?_
  refine va_get (D := D) (ci := 2) (v := .int (nI C)) (C := RX2) (T := TX2) (N := 7) hx hb hts kiX2_shape_X2 hown hK hP 0 rfl rfl 1 (by decide) (hts (.fieldLink RX2 15 "TwoBanks$Grid" "columns" "I") (List.mem_of_getElem? (i := 2) rfl)) (fun _ h9 => h9) rfl dX2_shape_47 ?_
  refine lv_aload_n hx hb dX2_shape_50 rfl (lv_at hl 0 rfl) ?_
  refine va_get (D := D) (ci := 2) (v := .int (nI R)) (C := RX2) (T := TX2) (N := 7) hx hb hts kiX2_shape_X2 hown hK hP 0 rfl rfl 0 (by decide) (hts (.fieldLink RX2 9 "TwoBanks$Grid" "rows" "I") (List.mem_of_getElem? (i := 1) rfl)) (fun _ h9 => h9) rfl dX2_shape_51 ?_
  refine lv_iconst (v := (nI 1)) hx hb dX2_shape_54 (by decide) ?_
  refine lv_isub hx hb dX2_shape_55 ?_
  refine k_toi (y := nI (R - 1)) (pk_sub (by omega)) ?_
  refine lv_imul hx hb dX2_shape_56 ?_
  refine k_toi (y := nI (C * (R - 1))) (pk_mul _ _) ?_
  refine lv_lshl (v := (kShl (gNo C) (nI (C * (R - 1))))) hx hb dX2_shape_57 rfl ?_
  refine k_tol (y := (gSo R C)) rfl ?_
  refine va_put (D := D) (ci := 2) (v := .long (gSo R C)) (ty := .long) (C := RX2) (T := TX2) (N := 7) hx hb hts kiX2_shape_X2 tyX2 tyX2_ok nmX2 hown hK hP hD hS 0 rfl rfl 4 (by decide) (hts (.fieldLink RX2 29 "TwoBanks$Grid" "southBank" "J") (List.mem_of_getElem? (i := 5) rfl)) (fun _ h9 => h9) rfl  (by decide +kernel) rfl rfl (Nat.le_of_ble_eq_true rfl) dX2_shape_58 (fun H locs hP hD hS => ?_)
  have hP : va_P D vwCl [(h0, .inr (2, [.int (nI R), .int (nI C), .long (gAll R C), .long (gNo C), .long (gSo R C), .long g4, .long g5]))] H := hP
  have hD : va_D A [(h0, .inr (2, [.int (nI R), .int (nI C), .long (gAll R C), .long (gNo C), .long (gSo R C), .long g4, .long g5]))] := hD
  refine lv_aload_n hx hb dX2_shape_61 rfl (lv_at hl 0 rfl) ?_
  refine lv_lconst (v := 0) hx hb dX2_shape_62 (by decide) ?_
  refine va_put (D := D) (ci := 2) (v := .long 0) (ty := .long) (C := RX2) (T := TX2) (N := 7) hx hb hts kiX2_shape_X2 tyX2 tyX2_ok nmX2 hown hK hP hD hS 0 rfl rfl 5 (by decide) (hts (.fieldLink RX2 32 "TwoBanks$Grid" "westBank" "J") (List.mem_of_getElem? (i := 6) rfl)) (fun _ h9 => h9) rfl  (by decide +kernel) rfl rfl (Nat.le_of_ble_eq_true rfl) dX2_shape_63 (fun H locs hP hD hS => ?_)
  have hP : va_P D vwCl [(h0, .inr (2, [.int (nI R), .int (nI C), .long (gAll R C), .long (gNo C), .long (gSo R C), .long 0, .long g5]))] H := hP
  have hD : va_D A [(h0, .inr (2, [.int (nI R), .int (nI C), .long (gAll R C), .long (gNo C), .long (gSo R C), .long 0, .long g5]))] := hD
  refine lv_iconst (v := (nI 0)) hx hb dX2_shape_66 (by decide) ?_
  refine lv_istore_n (lv' := [(3, .int (nI 0)), (0, .ref h0), (1, .int (nI R)), (2, .int (nI C))]) hx hb dX2_shape_67 rfl hl (by decide) rfl (fun ls hl => ?_)
  have hP := hP
  refine kw_loop (σ := Nat) (fun (r : Nat) H locs ls => va_P D vwCl [(h0, .inr (2, [.int (nI R), .int (nI C), .long (gAll R C), .long (gNo C), .long (gSo R C), .long (gWeN C r), .long g5]))] H ∧ va_D A [(h0, .inr (2, [.int (nI R), .int (nI C), .long (gAll R C), .long (gNo C), .long (gSo R C), .long (gWeN C r), .long g5]))] ∧ va_S A s.heap H locs ∧ lv_has ls 4 [(0, .ref h0), (1, .int (nI R)), (2, .int (nI C)), (3, .int (nI r))] ∧ (r ≤ R)) (fun (r : Nat) => R - r) 0 ⟨hP, hD, hS, lv_sub hl [1, 2, 3, 0] rfl, by omega⟩ ?_
  clear hP hD hS hl
  rintro r H locs ls ⟨hP, hD, hS, hl, hr2⟩ ih_68
  have hP : va_P D vwCl [(h0, .inr (2, [.int (nI R), .int (nI C), .long (gAll R C), .long (gNo C), .long (gSo R C), .long (gWeN C r), .long g5]))] H := hP
  have hD : va_D A [(h0, .inr (2, [.int (nI R), .int (nI C), .long (gAll R C), .long (gNo C), .long (gSo R C), .long (gWeN C r), .long g5]))] := hD
  have hl : lv_has ls 4 [(0, .ref h0), (1, .int (nI R)), (2, .int (nI C)), (3, .int (nI r))] := hl
  have hr2 : r ≤ R := hr2
  refine lv_iload_n hx hb dX2_shape_68 rfl (lv_at hl 3 rfl) ?_
  refine lv_aload_n hx hb dX2_shape_69 rfl (lv_at hl 0 rfl) ?_
  refine va_get (D := D) (ci := 2) (v := .int (nI R)) (C := RX2) (T := TX2) (N := 7) hx hb hts kiX2_shape_X2 hown hK hP 0 rfl rfl 0 (by decide) (hts (.fieldLink RX2 9 "TwoBanks$Grid" "rows" "I") (List.mem_of_getElem? (i := 1) rfl)) (fun _ h9 => h9) rfl dX2_shape_70 ?_
  refine kw_icmp_ge (tgt := 100) hx hb dX2_shape_73 (by decide) (by omega) (by omega) (fun c_73_3 => ?_) (fun c_73_3 => ?_)
  · have hP : va_P D vwCl [(h0, .inr (2, [.int (nI R), .int (nI C), .long (gAll R C), .long (gNo C), .long (gSo R C), .long (gWeN C R), .long g5]))] H := (by rw [show r = R by omega] at hP; exact hP)
    have hD : va_D A [(h0, .inr (2, [.int (nI R), .int (nI C), .long (gAll R C), .long (gNo C), .long (gSo R C), .long (gWeN C R), .long g5]))] := (by rw [show r = R by omega] at hD; exact hD)
    refine lv_aload_n hx hb dX2_shape_100 rfl (lv_at hl 0 rfl) ?_
    refine lv_aload_n hx hb dX2_shape_101 rfl (lv_at hl 0 rfl) ?_
    refine va_get (D := D) (ci := 2) (v := .long (gWeN C R)) (C := RX2) (T := TX2) (N := 7) hx hb hts kiX2_shape_X2 hown hK hP 0 rfl rfl 5 (by decide) (hts (.fieldLink RX2 32 "TwoBanks$Grid" "westBank" "J") (List.mem_of_getElem? (i := 6) rfl)) (fun _ h9 => h9) rfl dX2_shape_102 ?_
    refine lv_aload_n hx hb dX2_shape_105 rfl (lv_at hl 0 rfl) ?_
    refine va_get (D := D) (ci := 2) (v := .int (nI C)) (C := RX2) (T := TX2) (N := 7) hx hb hts kiX2_shape_X2 hown hK hP 0 rfl rfl 1 (by decide) (hts (.fieldLink RX2 15 "TwoBanks$Grid" "columns" "I") (List.mem_of_getElem? (i := 2) rfl)) (fun _ h9 => h9) rfl dX2_shape_106 ?_
    refine lv_iconst (v := (nI 1)) hx hb dX2_shape_109 (by decide) ?_
    refine lv_isub hx hb dX2_shape_110 ?_
    refine k_toi (y := nI (C - 1)) (pk_sub (by omega)) ?_
    refine lv_lshl (v := (kShl (gWeN C R) (nI (C - 1)))) hx hb dX2_shape_111 rfl ?_
    refine k_tol (y := (gEa R C)) rfl ?_
    refine va_put (D := D) (ci := 2) (v := .long (gEa R C)) (ty := .long) (C := RX2) (T := TX2) (N := 7) hx hb hts kiX2_shape_X2 tyX2 tyX2_ok nmX2 hown hK hP hD hS 0 rfl rfl 6 (by decide) (hts (.fieldLink RX2 35 "TwoBanks$Grid" "eastBank" "J") (List.mem_of_getElem? (i := 7) rfl)) (fun _ h9 => h9) rfl  (by decide +kernel) rfl rfl (Nat.le_of_ble_eq_true rfl) dX2_shape_112 (fun H locs hP hD hS => ?_)
    have hP : va_P D vwCl [(h0, .inr (2, [.int (nI R), .int (nI C), .long (gAll R C), .long (gNo C), .long (gSo R C), .long (gWeN C R), .long (gEa R C)]))] H := hP
    have hD : va_D A [(h0, .inr (2, [.int (nI R), .int (nI C), .long (gAll R C), .long (gNo C), .long (gSo R C), .long (gWeN C R), .long (gEa R C)]))] := hD
    exact W.vret hx hb hr (fun t ht hW => ⟨⟨(), rfl, trivial, by rw [ht]; exact hP, hD⟩, hS.F ht⟩) hS.2.2 dX2_shape_115
  · refine lv_aload_n hx hb dX2_shape_76 rfl (lv_at hl 0 rfl) ?_
    refine lv_dup hx hb dX2_shape_77 rfl ?_
    refine va_get (D := D) (ci := 2) (v := .long (gWeN C r)) (C := RX2) (T := TX2) (N := 7) hx hb hts kiX2_shape_X2 hown hK hP 0 rfl rfl 5 (by decide) (hts (.fieldLink RX2 32 "TwoBanks$Grid" "westBank" "J") (List.mem_of_getElem? (i := 6) rfl)) (fun _ h9 => h9) rfl dX2_shape_78 ?_
    refine lv_aload_n hx hb dX2_shape_81 rfl (lv_at hl 0 rfl) ?_
    refine va_get (D := D) (ci := 2) (v := .int (nI C)) (C := RX2) (T := TX2) (N := 7) hx hb hts kiX2_shape_X2 hown hK hP 0 rfl rfl 1 (by decide) (hts (.fieldLink RX2 15 "TwoBanks$Grid" "columns" "I") (List.mem_of_getElem? (i := 2) rfl)) (fun _ h9 => h9) rfl dX2_shape_82 ?_
    refine lv_iload_n hx hb dX2_shape_85 rfl (lv_at hl 3 rfl) ?_
    refine lv_imul hx hb dX2_shape_86 ?_
    refine k_toi (y := nI (C * r)) (pk_mul _ _) ?_
    refine k_calll (wr := [(h0, .inr (2, [.int (nI R), .int (nI C), .long (gAll R C), .long (gNo C), .long (gSo R C), .long (gWeN C r), .long g5]))]) (w2 := (fun _ : Unit => [(h0, .inr (2, [.int (nI R), .int (nI C), .long (gAll R C), .long (gNo C), .long (gSo R C), .long (gWeN C r), .long g5]))])) (va_runSN (As := [.int (nI (C * r))]) (rest := [.long (gWeN C r), .ref h0]) ⟨hx, hb, hml, hown, hts⟩ (c_bit l D cI cJ cZ (nI (C * r))  H.size) ⟨va_cnB 1 hts gX2_shape_X5_bit_n18 rfl rfl rfl (kN_X2_18 hN) (hts (.initialized RX5) (List.mem_of_getElem? (i := 9) rfl)) (by decide +kernel) ⟨Nat.le_of_ble_eq_true rfl, Nat.le_of_ble_eq_true rfl⟩, (hts (.static yX5_bit) (List.mem_of_getElem? (i := 8) rfl)), trivial⟩ (kPS (wc := []) hK2 hP hD [] rfl (by decide)) rfl rfl hl.1 rfl (lv_room (Nat.le_of_ble_eq_true rfl)) dX2_shape_87 ⟨Nat.le_of_ble_eq_true rfl, Nat.le_of_ble_eq_true rfl⟩) hP hD hS hA [] [0] [0] rfl rfl (by decide) (by decide) (fun _ => rfl) (by decide) (fun r_4 u_4 H locs hw_4 hP hD hS => ?_)
    have hP : va_P D vwCl [(h0, .inr (2, [.int (nI R), .int (nI C), .long (gAll R C), .long (gNo C), .long (gSo R C), .long (gWeN C r), .long g5]))] H := hP
    have hD : va_D A [(h0, .inr (2, [.int (nI R), .int (nI C), .long (gAll R C), .long (gNo C), .long (gSo R C), .long (gWeN C r), .long g5]))] := hD
    subst hw_4
    refine lv_lor hx hb dX2_shape_90 ?_
    refine k_tol (y := (gWeN C (r + 1))) rfl ?_
    refine va_put (D := D) (ci := 2) (v := .long (gWeN C (r + 1))) (ty := .long) (C := RX2) (T := TX2) (N := 7) hx hb hts kiX2_shape_X2 tyX2 tyX2_ok nmX2 hown hK hP hD hS 0 rfl rfl 5 (by decide) (hts (.fieldLink RX2 32 "TwoBanks$Grid" "westBank" "J") (List.mem_of_getElem? (i := 6) rfl)) (fun _ h9 => h9) rfl  (by decide +kernel) rfl rfl (Nat.le_of_ble_eq_true rfl) dX2_shape_91 (fun H locs hP hD hS => ?_)
    have hP : va_P D vwCl [(h0, .inr (2, [.int (nI R), .int (nI C), .long (gAll R C), .long (gNo C), .long (gSo R C), .long (gWeN C (r + 1)), .long g5]))] H := hP
    have hD : va_D A [(h0, .inr (2, [.int (nI R), .int (nI C), .long (gAll R C), .long (gNo C), .long (gSo R C), .long (gWeN C (r + 1)), .long g5]))] := hD
    refine lv_iinc (v := (nI (r + 1))) (lv' := [(3, .int (nI (r + 1))), (0, .ref h0), (1, .int (nI R)), (2, .int (nI C))]) hx hb dX2_shape_94 hl (k := 3) rfl (k_inc _ 1) (by decide) rfl (fun ls hl => ?_)
    refine lv_goto (tgt := 68) hx hb dX2_shape_97 (by decide) ?_
    exact ih_68 (r + 1) _ _ _ (by show R - (r + 1) < R - r; omega) ⟨hP, hD, hS, lv_sub hl [1, 2, 3, 0] rfl, by omega⟩
end
section

def mHas (n : Nat) (w : Nat → Int64) (i : Nat) : Prop := i / 64 < n ∧ w (i / 64) &&& gBit (nI (i % 64)) ≠ 0
def mSet (w : Nat → Int64) (i : Nat) : Nat → Int64 := vp_updL w (i / 64) (w (i / 64) ||| gBit (nI (i % 64)))
/-- the layers of a shortest way, from the far bank; with them, all that is seen -/
def pL (R C : Nat) (x t : Int64) : Nat → Int64 × Int64 | 0 => (x &&& t, x &&& t) | k + 1 => ((gBes R C (pL R C x t k).1 &&& x) &&& ((pL R C x t k).2 ^^^ (-1)), (pL R C x t k).2 ||| ((gBes R C (pL R C x t k).1 &&& x) &&& ((pL R C x t k).2 ^^^ (-1))))
def pO (R C : Nat) (x t st : Int64) (K : Nat) : Nat → Int64 | 0 => st | j + 1 => gBes R C (gBit (gLow ((pL R C x t (K - j)).1 &&& pO R C x t st K j)))
def pF (R C : Nat) (x t st : Int64) (K j : Nat) : Int32 := gLow ((pL R C x t (K - j)).1 &&& pO R C x t st K j)

theorem kb_sh {n : Nat} (h : n < 2 ^ 31) : nI n >>> (nI 6 &&& 31) = nI (n / 64) := by
  have := pk_shrN h (nI 6 &&& 31) 6 (by decide)
  exact this
theorem kb_an {n : Nat} (h : n < 2 ^ 31) : nI n &&& nI 63 = nI (n % 64) := pk_andN (by omega) 6 (by decide)

theorem kf_putI {k : Nat} {g F : Nat → Int32} {v : Int32} (h : ∀ i, i < k → g i = F i) (hv : v = F k) : ∀ i, i < k + 1 → upd g k v i = F i := by
  intro i hi
  by_cases e : i = k
  · rw [e, ← hv]; exact pk_us
  · rw [pk_un e]; exact h i (by omega)
theorem kf_putL {k : Nat} {g F : Nat → Int64} (h : ∀ i, i < k → g i = F i) : ∀ i, i ≤ k → vp_updL g k (F k) i = F i := by
  intro i hi
  by_cases e : i = k
  · rw [e]; exact pk_uLs
  · rw [pk_uLn e]; exact h i (by omega)
theorem kf_putL2 {k : Nat} {g F : Nat → Int64} (h : ∀ i, i < k → g i = F i) : ∀ i, i < k + 1 → vp_updL g k (F k) i = F i := fun i hi => kf_putL h i (by omega)
theorem kf_put {k : Nat} {g : Nat → Int64} {v : Int64} (h : ∀ i, i < k → g i = v) : ∀ i, i < k + 1 → vp_updL g k v i = v := by
  intro i hi
  by_cases e : i = k
  · rw [e]; exact pk_uLs
  · rw [pk_uLn e]; exact h i (by omega)
theorem kiX0_forget_X0 : ∀ w ∈ u_ws RX0 TX0 3, w ∈ wsX0_forget := fun w h => List.mem_cons_of_mem _ (List.mem_append_right _ h)
set_option maxHeartbeats 4000000 in
set_option maxRecDepth 100000 in
theorem c_D_forget (l : Launch) (D : va_G) (cI cJ cZ : ClassId) (h0 h1 : Nat) (row : Nat → Int32) (dn kn : Nat) (sz : Nat) : kMV l yX0_forget wsX0_forget 0 0 D cI cJ cZ [.ref h0] [(h0, .inr (0, [.ref h1, .int (nI dn), .int (nI kn)])), (h1, .inl (cI, 37, .inl row))] sz (fun (_ : Unit) => True) (fun _ : Unit => [(h0, .inr (0, [.ref h1, .int (nI 0), .int (nI 0)])), (h1, .inl (cI, 37, .inl row))]) := by
  refine Met.ofW (cc := cX0_forget) (maxL := 1) (ret := none) (by decide) rfl ?_
  intro p e s m args below meth c s₁ B hml hv
  obtain ⟨rfl, hsz, hP, ⟨hK, hN⟩, hD0⟩ := hv
  have hx := B.exec
  have hb := B.bytes
  have hr := B.returns
  have hts := atoms_spec (ws := wsX0_forget) B.pre
  have hown : s.vm.findClass RX0 = some m.cls := findClass_of_methodNamed B.named
  have hlocks := B.notSynchronized
  subst hsz
  have hD := hD0.self (sz := s.heap.size)
  generalize hAe : va_A [(h0, .inr (0, [.ref h1, .int (nI dn), .int (nI kn)])), (h1, .inl (cI, 37, .inl row))] s.heap.size = A at hD ⊢
  have hA : ∀ q : Nat, s.heap.size ≤ q → A q := fun q h => by rw [← hAe]; exact Or.inr h
  have hS : va_S A s.heap s.heap [] := va_S.rf
  have hl := lv_entry ([.ref h0]) (n := 1) (Nat.le_of_ble_eq_true rfl)
  rw [lg_entry_eq]
  generalize (lg_sl ([.ref h0]) ++ List.replicate (1 - (lg_sl ([.ref h0])).length) Slot.unset).toArray = ls at hl ⊢
  have hl : lv_has ls 1 [(0, .ref h0)] := hl
  have hK2 : kK D cI cJ cZ s := ⟨hK, hN⟩
  clear hD0
  refine lv_aload_n hx hb dX0_forget_0 rfl (lv_at hl 0 rfl) ?_
  refine lv_iconst (v := (nI 0)) hx hb dX0_forget_1 (by decide) ?_
  refine va_put (D := D) (ci := 0) (v := .int (nI 0)) (ty := .int) (C := RX0) (T := TX0) (N := 3) hx hb hts kiX0_forget_X0 tyX0 tyX0_ok nmX0 hown hK hP hD hS 0 rfl rfl 1 (by decide) (hts (.fieldLink RX0 15 "TwoBanks$Deeds" "done" "I") (List.mem_of_getElem? (i := 1) rfl)) (fun _ h9 => h9) rfl  (by decide +kernel) rfl rfl (Nat.le_of_ble_eq_true rfl) dX0_forget_2 (fun H locs hP hD hS => ?_)
  have hP : va_P D vwCl [(h0, .inr (0, [.ref h1, .int (nI 0), .int (nI kn)])), (h1, .inl (cI, 37, .inl row))] H := hP
  have hD : va_D A [(h0, .inr (0, [.ref h1, .int (nI 0), .int (nI kn)])), (h1, .inl (cI, 37, .inl row))] := hD
  refine lv_aload_n hx hb dX0_forget_5 rfl (lv_at hl 0 rfl) ?_
  refine lv_iconst (v := (nI 0)) hx hb dX0_forget_6 (by decide) ?_
  refine va_put (D := D) (ci := 0) (v := .int (nI 0)) (ty := .int) (C := RX0) (T := TX0) (N := 3) hx hb hts kiX0_forget_X0 tyX0 tyX0_ok nmX0 hown hK hP hD hS 0 rfl rfl 2 (by decide) (hts (.fieldLink RX0 19 "TwoBanks$Deeds" "known" "I") (List.mem_of_getElem? (i := 2) rfl)) (fun _ h9 => h9) rfl  (by decide +kernel) rfl rfl (Nat.le_of_ble_eq_true rfl) dX0_forget_7 (fun H locs hP hD hS => ?_)
  have hP : va_P D vwCl [(h0, .inr (0, [.ref h1, .int (nI 0), .int (nI 0)])), (h1, .inl (cI, 37, .inl row))] H := hP
  have hD : va_D A [(h0, .inr (0, [.ref h1, .int (nI 0), .int (nI 0)])), (h1, .inl (cI, 37, .inl row))] := hD
  exact W.vret hx hb hr (fun t ht hW => ⟨⟨(), rfl, trivial, by rw [ht]; exact hP, hD⟩, hS.F ht⟩) hS.2.2 dX0_forget_10

theorem kiX0_done_X0 : ∀ w ∈ u_ws RX0 TX0 3, w ∈ wsX0_done := fun w h => List.mem_cons_of_mem _ (List.mem_append_right _ h)
set_option maxHeartbeats 4000000 in
set_option maxRecDepth 100000 in
theorem c_D_done (l : Launch) (D : va_G) (cI cJ cZ : ClassId) (h0 h1 : Nat) (row : Nat → Int32) (dn kn : Nat) (sz : Nat) : kMI l yX0_done wsX0_done 0 0 D cI cJ cZ [.ref h0] [(h0, .inr (0, [.ref h1, .int (nI dn), .int (nI kn)])), (h1, .inl (cI, 37, .inl row))] sz (fun r (_ : Unit) => r = nI dn) (fun _ : Unit => [(h0, .inr (0, [.ref h1, .int (nI dn), .int (nI kn)])), (h1, .inl (cI, 37, .inl row))]) := by
  refine Met.ofW (cc := cX0_done) (maxL := 1) (ret := (some .int)) (by decide) rfl ?_
  intro p e s m args below meth c s₁ B hml hv
  obtain ⟨rfl, hsz, hP, ⟨hK, hN⟩, hD0⟩ := hv
  have hx := B.exec
  have hb := B.bytes
  have hr := B.returns
  have hts := atoms_spec (ws := wsX0_done) B.pre
  have hown : s.vm.findClass RX0 = some m.cls := findClass_of_methodNamed B.named
  have hlocks := B.notSynchronized
  subst hsz
  have hD := hD0.self (sz := s.heap.size)
  generalize hAe : va_A [(h0, .inr (0, [.ref h1, .int (nI dn), .int (nI kn)])), (h1, .inl (cI, 37, .inl row))] s.heap.size = A at hD ⊢
  have hA : ∀ q : Nat, s.heap.size ≤ q → A q := fun q h => by rw [← hAe]; exact Or.inr h
  have hS : va_S A s.heap s.heap [] := va_S.rf
  have hl := lv_entry ([.ref h0]) (n := 1) (Nat.le_of_ble_eq_true rfl)
  rw [lg_entry_eq]
  generalize (lg_sl ([.ref h0]) ++ List.replicate (1 - (lg_sl ([.ref h0])).length) Slot.unset).toArray = ls at hl ⊢
  have hl : lv_has ls 1 [(0, .ref h0)] := hl
  have hK2 : kK D cI cJ cZ s := ⟨hK, hN⟩
  clear hD0
  refine lv_aload_n hx hb dX0_done_0 rfl (lv_at hl 0 rfl) ?_
  refine va_get (D := D) (ci := 0) (v := .int (nI dn)) (C := RX0) (T := TX0) (N := 3) hx hb hts kiX0_done_X0 hown hK hP 0 rfl rfl 1 (by decide) (hts (.fieldLink RX0 15 "TwoBanks$Deeds" "done" "I") (List.mem_of_getElem? (i := 1) rfl)) (fun _ h9 => h9) rfl dX0_done_1 ?_
  exact W.iret (v := (nI dn)) hx hb hr (fun t ht hW => ⟨⟨(nI dn), (), rfl, rfl, by rw [ht]; exact hP, hD⟩, hS.F ht⟩) hS.2.2 dX0_done_4

theorem kiX0_undone_X0 : ∀ w ∈ u_ws RX0 TX0 3, w ∈ wsX0_undone := fun w h => List.mem_cons_of_mem _ (List.mem_append_right _ h)
set_option maxHeartbeats 4000000 in
set_option maxRecDepth 100000 in
theorem c_D_undone (l : Launch) (D : va_G) (cI cJ cZ : ClassId) (h0 h1 : Nat) (row : Nat → Int32) (dn kn : Nat) (qd1 : dn ≤ kn) (qd2 : kn ≤ 37) (sz : Nat) : kMI l yX0_undone wsX0_undone 0 0 D cI cJ cZ [.ref h0] [(h0, .inr (0, [.ref h1, .int (nI dn), .int (nI kn)])), (h1, .inl (cI, 37, .inl row))] sz (fun r (_ : Unit) => r = nI (kn - dn)) (fun _ : Unit => [(h0, .inr (0, [.ref h1, .int (nI dn), .int (nI kn)])), (h1, .inl (cI, 37, .inl row))]) := by
  refine Met.ofW (cc := cX0_undone) (maxL := 1) (ret := (some .int)) (by decide) rfl ?_
  intro p e s m args below meth c s₁ B hml hv
  obtain ⟨rfl, hsz, hP, ⟨hK, hN⟩, hD0⟩ := hv
  have hx := B.exec
  have hb := B.bytes
  have hr := B.returns
  have hts := atoms_spec (ws := wsX0_undone) B.pre
  have hown : s.vm.findClass RX0 = some m.cls := findClass_of_methodNamed B.named
  have hlocks := B.notSynchronized
  subst hsz
  have hD := hD0.self (sz := s.heap.size)
  generalize hAe : va_A [(h0, .inr (0, [.ref h1, .int (nI dn), .int (nI kn)])), (h1, .inl (cI, 37, .inl row))] s.heap.size = A at hD ⊢
  have hA : ∀ q : Nat, s.heap.size ≤ q → A q := fun q h => by rw [← hAe]; exact Or.inr h
  have hS : va_S A s.heap s.heap [] := va_S.rf
  have hl := lv_entry ([.ref h0]) (n := 1) (Nat.le_of_ble_eq_true rfl)
  rw [lg_entry_eq]
  generalize (lg_sl ([.ref h0]) ++ List.replicate (1 - (lg_sl ([.ref h0])).length) Slot.unset).toArray = ls at hl ⊢
  have hl : lv_has ls 1 [(0, .ref h0)] := hl
  have hK2 : kK D cI cJ cZ s := ⟨hK, hN⟩
  clear hD0
  refine lv_aload_n hx hb dX0_undone_0 rfl (lv_at hl 0 rfl) ?_
  refine va_get (D := D) (ci := 0) (v := .int (nI kn)) (C := RX0) (T := TX0) (N := 3) hx hb hts kiX0_undone_X0 hown hK hP 0 rfl rfl 2 (by decide) (hts (.fieldLink RX0 19 "TwoBanks$Deeds" "known" "I") (List.mem_of_getElem? (i := 1) rfl)) (fun _ h9 => h9) rfl dX0_undone_1 ?_
  refine lv_aload_n hx hb dX0_undone_4 rfl (lv_at hl 0 rfl) ?_
  refine va_get (D := D) (ci := 0) (v := .int (nI dn)) (C := RX0) (T := TX0) (N := 3) hx hb hts kiX0_undone_X0 hown hK hP 0 rfl rfl 1 (by decide) (hts (.fieldLink RX0 15 "TwoBanks$Deeds" "done" "I") (List.mem_of_getElem? (i := 2) rfl)) (fun _ h9 => h9) rfl dX0_undone_5 ?_
  refine lv_isub hx hb dX0_undone_8 ?_
  refine k_toi (y := nI (kn - dn)) (pk_sub (by omega)) ?_
  exact W.iret (v := (nI (kn - dn))) hx hb hr (fun t ht hW => ⟨⟨(nI (kn - dn)), (), rfl, rfl, by rw [ht]; exact hP, hD⟩, hS.F ht⟩) hS.2.2 dX0_undone_9

theorem kiX0_add_X0 : ∀ w ∈ u_ws RX0 TX0 3, w ∈ wsX0_add := fun w h => List.mem_cons_of_mem _ (List.mem_append_right _ h)
set_option maxHeartbeats 4000000 in
set_option maxRecDepth 100000 in
theorem c_D_add (l : Launch) (D : va_G) (cI cJ cZ : ClassId) (h0 h1 : Nat) (row : Nat → Int32) (dn kn : Nat) (d : Int32) (qd1 : dn ≤ kn) (qd2 : kn ≤ 37) (sz : Nat) : kMI l yX0_add wsX0_add 0 0 D cI cJ cZ [.ref h0, .int d] [(h0, .inr (0, [.ref h1, .int (nI dn), .int (nI kn)])), (h1, .inl (cI, 37, .inl row))] sz (fun r (u : (Nat → Int32) × Nat × Nat) => (r = nI 1 ∧ dn < 37 ∧ u = (upd row dn d, dn + 1, dn + 1)) ∨ (r = nI 0 ∧ 37 ≤ dn ∧ u = (row, dn, kn))) (fun u : (Nat → Int32) × Nat × Nat => match u with | (ra, da, ka) => [(h0, .inr (0, [.ref h1, .int (nI da), .int (nI ka)])), (h1, .inl (cI, 37, .inl ra))]) := by
  refine Met.ofW (cc := cX0_add) (maxL := 2) (ret := (some .boolean)) (by decide) rfl ?_
  intro p e s m args below meth c s₁ B hml hv
  obtain ⟨rfl, hsz, hP, ⟨hK, hN⟩, hD0⟩ := hv
  have hx := B.exec
  have hb := B.bytes
  have hr := B.returns
  have hts := atoms_spec (ws := wsX0_add) B.pre
  have hown : s.vm.findClass RX0 = some m.cls := findClass_of_methodNamed B.named
  have hlocks := B.notSynchronized
  subst hsz
  have hD := hD0.self (sz := s.heap.size)
  generalize hAe : va_A [(h0, .inr (0, [.ref h1, .int (nI dn), .int (nI kn)])), (h1, .inl (cI, 37, .inl row))] s.heap.size = A at hD ⊢
  have hA : ∀ q : Nat, s.heap.size ≤ q → A q := fun q h => by rw [← hAe]; exact Or.inr h
  have hS : va_S A s.heap s.heap [] := va_S.rf
  have hl := lv_entry ([.ref h0, .int d]) (n := 2) (Nat.le_of_ble_eq_true rfl)
  rw [lg_entry_eq]
  generalize (lg_sl ([.ref h0, .int d]) ++ List.replicate (2 - (lg_sl ([.ref h0, .int d])).length) Slot.unset).toArray = ls at hl ⊢
  have hl : lv_has ls 2 [(0, .ref h0), (1, .int d)] := hl
  have hK2 : kK D cI cJ cZ s := ⟨hK, hN⟩
  clear hD0
  refine lv_aload_n hx hb dX0_add_0 rfl (lv_at hl 0 rfl) ?_
  refine va_get (D := D) (ci := 0) (v := .int (nI dn)) (C := RX0) (T := TX0) (N := 3) hx hb hts kiX0_add_X0 hown hK hP 0 rfl rfl 1 (by decide) (hts (.fieldLink RX0 15 "TwoBanks$Deeds" "done" "I") (List.mem_of_getElem? (i := 1) rfl)) (fun _ h9 => h9) rfl dX0_add_1 ?_
  refine kw_if_lt (tgt := 19) hx hb dX0_add_4 (by decide) (by omega) (fun c_4_1 => False.elim c_4_1) (fun c_4_1 => ?_)
  refine lv_aload_n hx hb dX0_add_7 rfl (lv_at hl 0 rfl) ?_
  refine va_get (D := D) (ci := 0) (v := .int (nI dn)) (C := RX0) (T := TX0) (N := 3) hx hb hts kiX0_add_X0 hown hK hP 0 rfl rfl 1 (by decide) (hts (.fieldLink RX0 15 "TwoBanks$Deeds" "done" "I") (List.mem_of_getElem? (i := 1) rfl)) (fun _ h9 => h9) rfl dX0_add_8 ?_
  refine lv_aload_n hx hb dX0_add_11 rfl (lv_at hl 0 rfl) ?_
  refine va_get (D := D) (ci := 0) (v := .ref h1) (C := RX0) (T := TX0) (N := 3) hx hb hts kiX0_add_X0 hown hK hP 0 rfl rfl 0 (by decide) (hts (.fieldLink RX0 9 "TwoBanks$Deeds" "row" "[I") (List.mem_of_getElem? (i := 2) rfl)) (fun _ h9 => h9) rfl dX0_add_12 ?_
  refine va_alen hx hb hK hP 1 0 rfl rfl (v := nI 37) rfl dX0_add_15 ?_
  refine kw_icmp_lt (tgt := 21) hx hb dX0_add_16 (by decide) (by omega) (by omega) (fun c_16_2 => ?_) (fun c_16_2 => ?_)
  · refine lv_aload_n hx hb dX0_add_21 rfl (lv_at hl 0 rfl) ?_
    refine va_get (D := D) (ci := 0) (v := .ref h1) (C := RX0) (T := TX0) (N := 3) hx hb hts kiX0_add_X0 hown hK hP 0 rfl rfl 0 (by decide) (hts (.fieldLink RX0 9 "TwoBanks$Deeds" "row" "[I") (List.mem_of_getElem? (i := 2) rfl)) (fun _ h9 => h9) rfl dX0_add_22 ?_
    refine lv_aload_n hx hb dX0_add_25 rfl (lv_at hl 0 rfl) ?_
    refine va_get (D := D) (ci := 0) (v := .int (nI dn)) (C := RX0) (T := TX0) (N := 3) hx hb hts kiX0_add_X0 hown hK hP 0 rfl rfl 1 (by decide) (hts (.fieldLink RX0 15 "TwoBanks$Deeds" "done" "I") (List.mem_of_getElem? (i := 1) rfl)) (fun _ h9 => h9) rfl dX0_add_26 ?_
    refine lv_iload_n hx hb dX0_add_29 rfl (lv_at hl 1 rfl) ?_
    refine va_iast hx hb hK hP hD hS 1 0 rfl rfl (vp_in_nI (by omega) (by omega)) dX0_add_30 (fun H locs hP hD hS => ?_)
    rw [nI_clamp (by omega)] at hP hD
    have hP : va_P D vwCl [(h0, .inr (0, [.ref h1, .int (nI dn), .int (nI kn)])), (h1, .inl (cI, 37, .inl (upd row dn d)))] H := hP
    have hD : va_D A [(h0, .inr (0, [.ref h1, .int (nI dn), .int (nI kn)])), (h1, .inl (cI, 37, .inl (upd row dn d)))] := hD
    refine lv_aload_n hx hb dX0_add_31 rfl (lv_at hl 0 rfl) ?_
    refine lv_dup hx hb dX0_add_32 rfl ?_
    refine va_get (D := D) (ci := 0) (v := .int (nI dn)) (C := RX0) (T := TX0) (N := 3) hx hb hts kiX0_add_X0 hown hK hP 0 rfl rfl 1 (by decide) (hts (.fieldLink RX0 15 "TwoBanks$Deeds" "done" "I") (List.mem_of_getElem? (i := 1) rfl)) (fun _ h9 => h9) rfl dX0_add_33 ?_
    refine lv_iconst (v := (nI 1)) hx hb dX0_add_36 (by decide) ?_
    refine lv_iadd hx hb dX0_add_37 ?_
    refine k_toi (y := nI (dn + 1)) (nI_add _ _) ?_
    refine va_put (D := D) (ci := 0) (v := .int (nI (dn + 1))) (ty := .int) (C := RX0) (T := TX0) (N := 3) hx hb hts kiX0_add_X0 tyX0 tyX0_ok nmX0 hown hK hP hD hS 0 rfl rfl 1 (by decide) (hts (.fieldLink RX0 15 "TwoBanks$Deeds" "done" "I") (List.mem_of_getElem? (i := 1) rfl)) (fun _ h9 => h9) rfl  (by decide +kernel) rfl rfl (Nat.le_of_ble_eq_true rfl) dX0_add_38 (fun H locs hP hD hS => ?_)
    have hP : va_P D vwCl [(h0, .inr (0, [.ref h1, .int (nI (dn + 1)), .int (nI kn)])), (h1, .inl (cI, 37, .inl (upd row dn d)))] H := hP
    have hD : va_D A [(h0, .inr (0, [.ref h1, .int (nI (dn + 1)), .int (nI kn)])), (h1, .inl (cI, 37, .inl (upd row dn d)))] := hD
    refine lv_aload_n hx hb dX0_add_41 rfl (lv_at hl 0 rfl) ?_
    refine lv_aload_n hx hb dX0_add_42 rfl (lv_at hl 0 rfl) ?_
    refine va_get (D := D) (ci := 0) (v := .int (nI (dn + 1))) (C := RX0) (T := TX0) (N := 3) hx hb hts kiX0_add_X0 hown hK hP 0 rfl rfl 1 (by decide) (hts (.fieldLink RX0 15 "TwoBanks$Deeds" "done" "I") (List.mem_of_getElem? (i := 1) rfl)) (fun _ h9 => h9) rfl dX0_add_43 ?_
    refine va_put (D := D) (ci := 0) (v := .int (nI (dn + 1))) (ty := .int) (C := RX0) (T := TX0) (N := 3) hx hb hts kiX0_add_X0 tyX0 tyX0_ok nmX0 hown hK hP hD hS 0 rfl rfl 2 (by decide) (hts (.fieldLink RX0 19 "TwoBanks$Deeds" "known" "I") (List.mem_of_getElem? (i := 3) rfl)) (fun _ h9 => h9) rfl  (by decide +kernel) rfl rfl (Nat.le_of_ble_eq_true rfl) dX0_add_46 (fun H locs hP hD hS => ?_)
    have hP : va_P D vwCl [(h0, .inr (0, [.ref h1, .int (nI (dn + 1)), .int (nI (dn + 1))])), (h1, .inl (cI, 37, .inl (upd row dn d)))] H := hP
    have hD : va_D A [(h0, .inr (0, [.ref h1, .int (nI (dn + 1)), .int (nI (dn + 1))])), (h1, .inl (cI, 37, .inl (upd row dn d)))] := hD
    refine lv_iconst (v := (nI 1)) hx hb dX0_add_49 (by decide) ?_
    exact W.zret (v := (nI 1)) hx hb hr (by first | decide +kernel | assumption | exact kz_narr (by first | assumption | omega)) (fun t ht hW => ⟨⟨(nI 1), (upd row dn d, dn + 1, dn + 1), rfl, Or.inl ⟨rfl, by omega, rfl⟩, by rw [ht]; exact hP, hD⟩, hS.F ht⟩) hS.2.2 dX0_add_50
  · refine lv_iconst (v := (nI 0)) hx hb dX0_add_19 (by decide) ?_
    exact W.zret (v := (nI 0)) hx hb hr (by first | decide +kernel | assumption | exact kz_narr (by first | assumption | omega)) (fun t ht hW => ⟨⟨(nI 0), (row, dn, kn), rfl, Or.inr ⟨rfl, by omega, rfl⟩, by rw [ht]; exact hP, hD⟩, hS.F ht⟩) hS.2.2 dX0_add_20

theorem kiX0_back_X0 : ∀ w ∈ u_ws RX0 TX0 3, w ∈ wsX0_back := fun w h => List.mem_cons_of_mem _ (List.mem_append_right _ h)
set_option maxHeartbeats 4000000 in
set_option maxRecDepth 100000 in
theorem c_D_back (l : Launch) (D : va_G) (cI cJ cZ : ClassId) (h0 h1 : Nat) (row : Nat → Int32) (dn kn : Nat) (qd1 : dn ≤ kn) (qd2 : kn ≤ 37) (sz : Nat) : kMI l yX0_back wsX0_back 0 0 D cI cJ cZ [.ref h0] [(h0, .inr (0, [.ref h1, .int (nI dn), .int (nI kn)])), (h1, .inl (cI, 37, .inl row))] sz (fun r (u : Nat) => (dn = 0 ∧ r = -1 ∧ u = dn) ∨ (0 < dn ∧ r = row (dn - 1) ∧ u = dn - 1)) (fun da : Nat => [(h0, .inr (0, [.ref h1, .int (nI da), .int (nI kn)])), (h1, .inl (cI, 37, .inl row))]) := by
  refine Met.ofW (cc := cX0_back) (maxL := 2) (ret := (some .int)) (by decide) rfl ?_
  intro p e s m args below meth c s₁ B hml hv
  obtain ⟨rfl, hsz, hP, ⟨hK, hN⟩, hD0⟩ := hv
  have hx := B.exec
  have hb := B.bytes
  have hr := B.returns
  have hts := atoms_spec (ws := wsX0_back) B.pre
  have hown : s.vm.findClass RX0 = some m.cls := findClass_of_methodNamed B.named
  have hlocks := B.notSynchronized
  subst hsz
  have hD := hD0.self (sz := s.heap.size)
  generalize hAe : va_A [(h0, .inr (0, [.ref h1, .int (nI dn), .int (nI kn)])), (h1, .inl (cI, 37, .inl row))] s.heap.size = A at hD ⊢
  have hA : ∀ q : Nat, s.heap.size ≤ q → A q := fun q h => by rw [← hAe]; exact Or.inr h
  have hS : va_S A s.heap s.heap [] := va_S.rf
  have hl := lv_entry ([.ref h0]) (n := 2) (Nat.le_of_ble_eq_true rfl)
  rw [lg_entry_eq]
  generalize (lg_sl ([.ref h0]) ++ List.replicate (2 - (lg_sl ([.ref h0])).length) Slot.unset).toArray = ls at hl ⊢
  have hl : lv_has ls 2 [(0, .ref h0)] := hl
  have hK2 : kK D cI cJ cZ s := ⟨hK, hN⟩
  clear hD0
  rcases Nat.eq_zero_or_pos dn with hd0 | hd0
  · subst hd0
    skip
    refine lv_aload_n hx hb dX0_back_0 rfl (lv_at hl 0 rfl) ?_
    refine va_get (D := D) (ci := 0) (v := .int (nI 0)) (C := RX0) (T := TX0) (N := 3) hx hb hts kiX0_back_X0 hown hK hP 0 rfl rfl 1 (by decide) (hts (.fieldLink RX0 15 "TwoBanks$Deeds" "done" "I") (List.mem_of_getElem? (i := 1) rfl)) (fun _ h9 => h9) rfl dX0_back_1 ?_
    refine lv_iconst (v := (nI 1)) hx hb dX0_back_4 (by decide) ?_
    refine lv_isub hx hb dX0_back_5 ?_
    refine k_toi (y := (-1)) (by decide) ?_
    refine lv_istore_n (lv' := [(1, .int (-1)), (0, .ref h0)]) hx hb dX0_back_6 rfl hl (by decide) rfl (fun ls hl => ?_)
    refine lv_iload_n hx hb dX0_back_7 rfl (lv_at hl 0 rfl) ?_
    refine lv_if_lt (tgt := 20) hx hb dX0_back_8 (by decide) (fun c_8_1 => ?_) (fun c_8_1 => absurd c_8_1 (by decide))
    refine lv_iconst (v := (-1)) hx hb dX0_back_20 (by decide) ?_
    exact W.iret (v := (-1)) hx hb hr (fun t ht hW => ⟨⟨(-1), 0, rfl, Or.inl ⟨rfl, rfl, rfl⟩, by rw [ht]; exact hP, hD⟩, hS.F ht⟩) hS.2.2 dX0_back_21
  · skip
    refine lv_aload_n hx hb dX0_back_0 rfl (lv_at hl 0 rfl) ?_
    refine va_get (D := D) (ci := 0) (v := .int (nI dn)) (C := RX0) (T := TX0) (N := 3) hx hb hts kiX0_back_X0 hown hK hP 0 rfl rfl 1 (by decide) (hts (.fieldLink RX0 15 "TwoBanks$Deeds" "done" "I") (List.mem_of_getElem? (i := 1) rfl)) (fun _ h9 => h9) rfl dX0_back_1 ?_
    refine lv_iconst (v := (nI 1)) hx hb dX0_back_4 (by decide) ?_
    refine lv_isub hx hb dX0_back_5 ?_
    refine k_toi (y := nI (dn - 1)) (pk_sub (by omega)) ?_
    refine lv_istore_n (lv' := [(1, .int (nI (dn - 1))), (0, .ref h0)]) hx hb dX0_back_6 rfl hl (by decide) rfl (fun ls hl => ?_)
    refine lv_iload_n hx hb dX0_back_7 rfl (lv_at hl 0 rfl) ?_
    refine kw_if_lt (tgt := 20) hx hb dX0_back_8 (by decide) (by omega) (fun c_8_2 => False.elim c_8_2) (fun c_8_2 => ?_)
    refine lv_iload_n hx hb dX0_back_11 rfl (lv_at hl 0 rfl) ?_
    refine lv_aload_n hx hb dX0_back_12 rfl (lv_at hl 1 rfl) ?_
    refine va_get (D := D) (ci := 0) (v := .ref h1) (C := RX0) (T := TX0) (N := 3) hx hb hts kiX0_back_X0 hown hK hP 0 rfl rfl 0 (by decide) (hts (.fieldLink RX0 9 "TwoBanks$Deeds" "row" "[I") (List.mem_of_getElem? (i := 2) rfl)) (fun _ h9 => h9) rfl dX0_back_13 ?_
    refine va_alen hx hb hK hP 1 0 rfl rfl (v := nI 37) rfl dX0_back_16 ?_
    refine kw_icmp_lt (tgt := 22) hx hb dX0_back_17 (by decide) (by omega) (by omega) (fun c_17_3 => ?_) (fun c_17_3 => absurd c_17_3 (by omega))
    refine lv_aload_n hx hb dX0_back_22 rfl (lv_at hl 1 rfl) ?_
    refine lv_iload_n hx hb dX0_back_23 rfl (lv_at hl 0 rfl) ?_
    refine va_put (D := D) (ci := 0) (v := .int (nI (dn - 1))) (ty := .int) (C := RX0) (T := TX0) (N := 3) hx hb hts kiX0_back_X0 tyX0 tyX0_ok nmX0 hown hK hP hD hS 0 rfl rfl 1 (by decide) (hts (.fieldLink RX0 15 "TwoBanks$Deeds" "done" "I") (List.mem_of_getElem? (i := 1) rfl)) (fun _ h9 => h9) rfl  (by decide +kernel) rfl rfl (Nat.le_of_ble_eq_true rfl) dX0_back_24 (fun H locs hP hD hS => ?_)
    have hP : va_P D vwCl [(h0, .inr (0, [.ref h1, .int (nI (dn - 1)), .int (nI kn)])), (h1, .inl (cI, 37, .inl row))] H := hP
    have hD : va_D A [(h0, .inr (0, [.ref h1, .int (nI (dn - 1)), .int (nI kn)])), (h1, .inl (cI, 37, .inl row))] := hD
    refine lv_aload_n hx hb dX0_back_27 rfl (lv_at hl 1 rfl) ?_
    refine va_get (D := D) (ci := 0) (v := .ref h1) (C := RX0) (T := TX0) (N := 3) hx hb hts kiX0_back_X0 hown hK hP 0 rfl rfl 0 (by decide) (hts (.fieldLink RX0 9 "TwoBanks$Deeds" "row" "[I") (List.mem_of_getElem? (i := 2) rfl)) (fun _ h9 => h9) rfl dX0_back_28 ?_
    refine lv_iload_n hx hb dX0_back_31 rfl (lv_at hl 0 rfl) ?_
    refine va_iald hx hb hK hP 1 0 rfl rfl (vp_in_nI (by omega) (by omega)) dX0_back_32 ?_
    refine k_toi (y := row (dn - 1)) (congrArg row (nI_clamp (by omega))) ?_
    exact W.iret (v := (row (dn - 1))) hx hb hr (fun t ht hW => ⟨⟨(row (dn - 1)), (dn - 1), rfl, Or.inr ⟨hd0, rfl, rfl⟩, by rw [ht]; exact hP, hD⟩, hS.F ht⟩) hS.2.2 dX0_back_33

theorem kiX0_forth_X0 : ∀ w ∈ u_ws RX0 TX0 3, w ∈ wsX0_forth := fun w h => List.mem_cons_of_mem _ (List.mem_append_right _ h)
set_option maxHeartbeats 4000000 in
set_option maxRecDepth 100000 in
theorem c_D_forth (l : Launch) (D : va_G) (cI cJ cZ : ClassId) (h0 h1 : Nat) (row : Nat → Int32) (dn kn : Nat) (qd1 : dn ≤ kn) (qd2 : kn ≤ 37) (sz : Nat) : kMI l yX0_forth wsX0_forth 0 0 D cI cJ cZ [.ref h0] [(h0, .inr (0, [.ref h1, .int (nI dn), .int (nI kn)])), (h1, .inl (cI, 37, .inl row))] sz (fun r (u : Nat) => (dn = kn ∧ r = -1 ∧ u = dn) ∨ (dn < kn ∧ r = row dn ∧ u = dn + 1)) (fun da : Nat => [(h0, .inr (0, [.ref h1, .int (nI da), .int (nI kn)])), (h1, .inl (cI, 37, .inl row))]) := by
  refine Met.ofW (cc := cX0_forth) (maxL := 2) (ret := (some .int)) (by decide) rfl ?_
  intro p e s m args below meth c s₁ B hml hv
  obtain ⟨rfl, hsz, hP, ⟨hK, hN⟩, hD0⟩ := hv
  have hx := B.exec
  have hb := B.bytes
  have hr := B.returns
  have hts := atoms_spec (ws := wsX0_forth) B.pre
  have hown : s.vm.findClass RX0 = some m.cls := findClass_of_methodNamed B.named
  have hlocks := B.notSynchronized
  subst hsz
  have hD := hD0.self (sz := s.heap.size)
  generalize hAe : va_A [(h0, .inr (0, [.ref h1, .int (nI dn), .int (nI kn)])), (h1, .inl (cI, 37, .inl row))] s.heap.size = A at hD ⊢
  have hA : ∀ q : Nat, s.heap.size ≤ q → A q := fun q h => by rw [← hAe]; exact Or.inr h
  have hS : va_S A s.heap s.heap [] := va_S.rf
  have hl := lv_entry ([.ref h0]) (n := 2) (Nat.le_of_ble_eq_true rfl)
  rw [lg_entry_eq]
  generalize (lg_sl ([.ref h0]) ++ List.replicate (2 - (lg_sl ([.ref h0])).length) Slot.unset).toArray = ls at hl ⊢
  have hl : lv_has ls 2 [(0, .ref h0)] := hl
  have hK2 : kK D cI cJ cZ s := ⟨hK, hN⟩
  clear hD0
  refine lv_aload_n hx hb dX0_forth_0 rfl (lv_at hl 0 rfl) ?_
  refine va_get (D := D) (ci := 0) (v := .int (nI dn)) (C := RX0) (T := TX0) (N := 3) hx hb hts kiX0_forth_X0 hown hK hP 0 rfl rfl 1 (by decide) (hts (.fieldLink RX0 15 "TwoBanks$Deeds" "done" "I") (List.mem_of_getElem? (i := 1) rfl)) (fun _ h9 => h9) rfl dX0_forth_1 ?_
  refine lv_istore_n (lv' := [(1, .int (nI dn)), (0, .ref h0)]) hx hb dX0_forth_4 rfl hl (by decide) rfl (fun ls hl => ?_)
  refine lv_iload_n hx hb dX0_forth_5 rfl (lv_at hl 0 rfl) ?_
  refine kw_if_lt (tgt := 26) hx hb dX0_forth_6 (by decide) (by omega) (fun c_6_1 => False.elim c_6_1) (fun c_6_1 => ?_)
  refine lv_iload_n hx hb dX0_forth_9 rfl (lv_at hl 0 rfl) ?_
  refine lv_aload_n hx hb dX0_forth_10 rfl (lv_at hl 1 rfl) ?_
  refine va_get (D := D) (ci := 0) (v := .int (nI kn)) (C := RX0) (T := TX0) (N := 3) hx hb hts kiX0_forth_X0 hown hK hP 0 rfl rfl 2 (by decide) (hts (.fieldLink RX0 19 "TwoBanks$Deeds" "known" "I") (List.mem_of_getElem? (i := 2) rfl)) (fun _ h9 => h9) rfl dX0_forth_11 ?_
  refine kw_icmp_ge (tgt := 26) hx hb dX0_forth_14 (by decide) (by omega) (by omega) (fun c_14_2 => ?_) (fun c_14_2 => ?_)
  · refine lv_iconst (v := (-1)) hx hb dX0_forth_26 (by decide) ?_
    exact W.iret (v := (-1)) hx hb hr (fun t ht hW => ⟨⟨(-1), dn, rfl, Or.inl ⟨by omega, rfl, rfl⟩, by rw [ht]; exact hP, hD⟩, hS.F ht⟩) hS.2.2 dX0_forth_27
  · refine lv_iload_n hx hb dX0_forth_17 rfl (lv_at hl 0 rfl) ?_
    refine lv_aload_n hx hb dX0_forth_18 rfl (lv_at hl 1 rfl) ?_
    refine va_get (D := D) (ci := 0) (v := .ref h1) (C := RX0) (T := TX0) (N := 3) hx hb hts kiX0_forth_X0 hown hK hP 0 rfl rfl 0 (by decide) (hts (.fieldLink RX0 9 "TwoBanks$Deeds" "row" "[I") (List.mem_of_getElem? (i := 3) rfl)) (fun _ h9 => h9) rfl dX0_forth_19 ?_
    refine va_alen hx hb hK hP 1 0 rfl rfl (v := nI 37) rfl dX0_forth_22 ?_
    refine kw_icmp_lt (tgt := 28) hx hb dX0_forth_23 (by decide) (by omega) (by omega) (fun c_23_3 => ?_) (fun c_23_3 => absurd c_23_3 (by omega))
    refine lv_aload_n hx hb dX0_forth_28 rfl (lv_at hl 1 rfl) ?_
    refine lv_iload_n hx hb dX0_forth_29 rfl (lv_at hl 0 rfl) ?_
    refine lv_iconst (v := (nI 1)) hx hb dX0_forth_30 (by decide) ?_
    refine lv_iadd hx hb dX0_forth_31 ?_
    refine k_toi (y := nI (dn + 1)) (nI_add _ _) ?_
    refine va_put (D := D) (ci := 0) (v := .int (nI (dn + 1))) (ty := .int) (C := RX0) (T := TX0) (N := 3) hx hb hts kiX0_forth_X0 tyX0 tyX0_ok nmX0 hown hK hP hD hS 0 rfl rfl 1 (by decide) (hts (.fieldLink RX0 15 "TwoBanks$Deeds" "done" "I") (List.mem_of_getElem? (i := 1) rfl)) (fun _ h9 => h9) rfl  (by decide +kernel) rfl rfl (Nat.le_of_ble_eq_true rfl) dX0_forth_32 (fun H locs hP hD hS => ?_)
    have hP : va_P D vwCl [(h0, .inr (0, [.ref h1, .int (nI (dn + 1)), .int (nI kn)])), (h1, .inl (cI, 37, .inl row))] H := hP
    have hD : va_D A [(h0, .inr (0, [.ref h1, .int (nI (dn + 1)), .int (nI kn)])), (h1, .inl (cI, 37, .inl row))] := hD
    refine lv_aload_n hx hb dX0_forth_35 rfl (lv_at hl 1 rfl) ?_
    refine va_get (D := D) (ci := 0) (v := .ref h1) (C := RX0) (T := TX0) (N := 3) hx hb hts kiX0_forth_X0 hown hK hP 0 rfl rfl 0 (by decide) (hts (.fieldLink RX0 9 "TwoBanks$Deeds" "row" "[I") (List.mem_of_getElem? (i := 3) rfl)) (fun _ h9 => h9) rfl dX0_forth_36 ?_
    refine lv_iload_n hx hb dX0_forth_39 rfl (lv_at hl 0 rfl) ?_
    refine va_iald hx hb hK hP 1 0 rfl rfl (vp_in_nI (by omega) (by omega)) dX0_forth_40 ?_
    refine k_toi (y := row dn) (congrArg row (nI_clamp (by omega))) ?_
    exact W.iret (v := (row dn)) hx hb hr (fun t ht hW => ⟨⟨(row dn), (dn + 1), rfl, Or.inr ⟨by omega, rfl, rfl⟩, by rw [ht]; exact hP, hD⟩, hS.F ht⟩) hS.2.2 dX0_forth_41

set_option maxHeartbeats 4000000 in
set_option maxRecDepth 100000 in
theorem c_fill (l : Launch) (D : va_G) (cI cJ cZ : ClassId) (h1 : Nat) (n : Nat) (w : Nat → Int64) (v : Int64) (qn : n < 2 ^ 31) (sz : Nat) : kMV l yJ7_fill_d0a16 wsJ7_fill_d0a16 0 0 D cI cJ cZ [.ref h1, .long v] [(h1, .inl (cJ, n, .inr (.inl w)))] sz (fun (g : Nat → Int64) => ∀ i, i < n → g i = v) (fun g : Nat → Int64 => [(h1, .inl (cJ, n, .inr (.inl g)))]) := by
  refine Met.ofW (cc := cJ7_fill_d0a16) (maxL := 5) (ret := none) (by decide) rfl ?_
  intro p e s m args below meth c s₁ B hml hv
  obtain ⟨rfl, hsz, hP, ⟨hK, hN⟩, hD0⟩ := hv
  have hx := B.exec
  have hb := B.bytes
  have hr := B.returns
  have hts := atoms_spec (ws := wsJ7_fill_d0a16) B.pre
  have hown : s.vm.findClass RJ7 = some m.cls := findClass_of_methodNamed B.named
  have hlocks := B.notSynchronized
  subst hsz
  have hD := hD0.self (sz := s.heap.size)
  generalize hAe : va_A [(h1, .inl (cJ, n, .inr (.inl w)))] s.heap.size = A at hD ⊢
  have hA : ∀ q : Nat, s.heap.size ≤ q → A q := fun q h => by rw [← hAe]; exact Or.inr h
  have hS : va_S A s.heap s.heap [] := va_S.rf
  have hl := lv_entry ([.ref h1, .long v]) (n := 5) (Nat.le_of_ble_eq_true rfl)
  rw [lg_entry_eq]
  generalize (lg_sl ([.ref h1, .long v]) ++ List.replicate (5 - (lg_sl ([.ref h1, .long v])).length) Slot.unset).toArray = ls at hl ⊢
  have hl : lv_has ls 5 [(0, .ref h1), (1, .long v)] := hl
  have hK2 : kK D cI cJ cZ s := ⟨hK, hN⟩
  clear hD0
  refine lv_iconst (v := (nI 0)) hx hb dJ7_fill_d0a16_0 (by decide) ?_
  refine lv_istore_n (lv' := [(3, .int (nI 0)), (0, .ref h1), (1, .long v)]) hx hb dJ7_fill_d0a16_1 rfl hl (by decide) rfl (fun ls hl => ?_)
  refine lv_aload_n hx hb dJ7_fill_d0a16_2 rfl (lv_at hl 1 rfl) ?_
  refine va_alen hx hb hK hP 0 1 rfl rfl (v := nI n) rfl dJ7_fill_d0a16_3 ?_
  refine lv_istore (lv' := [(4, .int (nI n)), (3, .int (nI 0)), (0, .ref h1), (1, .long v)]) hx hb dJ7_fill_d0a16_4 hl (by decide) rfl (fun ls hl => ?_)
  refine kw_loop (σ := Nat × (Nat → Int64)) (fun zz H locs ls => match zz with | (k, g) => va_P D vwCl [(h1, .inl (cJ, n, .inr (.inl g)))] H ∧ va_D A [(h1, .inl (cJ, n, .inr (.inl g)))] ∧ va_S A s.heap H locs ∧ lv_has ls 5 [(0, .ref h1), (1, .long v), (3, .int (nI k)), (4, .int (nI n))] ∧ (k ≤ n) ∧ (∀ i, i < k → g i = v)) (fun zz => match zz with | (k, g) => n - k) (0, w) ⟨hP, hD, hS, lv_sub hl [2, 3, 1, 0] rfl, Nat.zero_le _, fun i hi => absurd hi (Nat.not_lt_zero i)⟩ ?_
  clear hP hD hS hl
  rintro ⟨k, g⟩ H locs ls ⟨hP, hD, hS, hl, hk, hg⟩ ih_6
  have hP : va_P D vwCl [(h1, .inl (cJ, n, .inr (.inl g)))] H := hP
  have hD : va_D A [(h1, .inl (cJ, n, .inr (.inl g)))] := hD
  have hl : lv_has ls 5 [(0, .ref h1), (1, .long v), (3, .int (nI k)), (4, .int (nI n))] := hl
  have hk : k ≤ n := hk
  have hg : ∀ i, i < k → g i = v := hg
  refine lv_iload_n hx hb dJ7_fill_d0a16_6 rfl (lv_at hl 2 rfl) ?_
  refine lv_iload hx hb dJ7_fill_d0a16_7 (lv_at hl 3 rfl) ?_
  refine kw_icmp_ge (tgt := 22) hx hb dJ7_fill_d0a16_9 (by decide) (by omega) (by omega) (fun c_9_1 => ?_) (fun c_9_1 => ?_)
  · exact W.vret hx hb hr (fun t ht hW => ⟨⟨g, rfl, fun i hi => hg i (by omega), by rw [ht]; exact hP, hD⟩, hS.F ht⟩) hS.2.2 dJ7_fill_d0a16_22
  · refine lv_aload_n hx hb dJ7_fill_d0a16_12 rfl (lv_at hl 0 rfl) ?_
    refine lv_iload_n hx hb dJ7_fill_d0a16_13 rfl (lv_at hl 2 rfl) ?_
    refine lv_lload_n hx hb dJ7_fill_d0a16_14 rfl (lv_at hl 1 rfl) ?_
    refine va_last hx hb hK hP hD hS 0 1 rfl rfl (vp_in_nI (by omega) (by omega)) dJ7_fill_d0a16_15 (fun H locs hP hD hS => ?_)
    rw [nI_clamp (by omega)] at hP hD
    have hP : va_P D vwCl [(h1, .inl (cJ, n, .inr (.inl (vp_updL g k v))))] H := hP
    have hD : va_D A [(h1, .inl (cJ, n, .inr (.inl (vp_updL g k v))))] := hD
    refine lv_iinc (v := (nI (k + 1))) (lv' := [(3, .int (nI (k + 1))), (0, .ref h1), (1, .long v), (4, .int (nI n))]) hx hb dJ7_fill_d0a16_16 hl (k := 2) rfl (k_inc _ 1) (by decide) rfl (fun ls hl => ?_)
    refine lv_goto (tgt := 6) hx hb dJ7_fill_d0a16_19 (by decide) ?_
    exact ih_6 ((k + 1), (vp_updL g k v)) _ _ _ (by show n - (k + 1) < n - k; omega) ⟨hP, hD, hS, lv_sub hl [1, 2, 0, 3] rfl, by omega, kf_put hg⟩

theorem kiX3_forget_X3 : ∀ w ∈ u_ws RX3 TX3 1, w ∈ wsX3_forget := fun w h => List.mem_cons_of_mem _ (List.mem_append_right _ h)
set_option maxHeartbeats 4000000 in
set_option maxRecDepth 100000 in
theorem c_M_forget (l : Launch) (D : va_G) (cI cJ cZ : ClassId) (h0 h1 n : Nat) (w : Nat → Int64) (qn : n < 2 ^ 31) (sz : Nat) : kMV l yX3_forget wsX3_forget 1 24 D cI cJ cZ [.ref h0] [(h0, .inr (3, [.ref h1])), (h1, .inl (cJ, n, .inr (.inl w)))] sz (fun (g : Nat → Int64) => ∀ i, i < n → g i = 0) (fun g : Nat → Int64 => [(h0, .inr (3, [.ref h1])), (h1, .inl (cJ, n, .inr (.inl g)))]) := by
  refine Met.ofW (cc := cX3_forget) (maxL := 1) (ret := none) (by decide) rfl ?_
  intro p e s m args below meth c s₁ B hml hv
  obtain ⟨rfl, hsz, hP, ⟨hK, hN⟩, hD0⟩ := hv
  have hx := B.exec
  have hb := B.bytes
  have hr := B.returns
  have hts := atoms_spec (ws := wsX3_forget) B.pre
  have hown : s.vm.findClass RX3 = some m.cls := findClass_of_methodNamed B.named
  have hlocks := B.notSynchronized
  subst hsz
  have hD := hD0.self (sz := s.heap.size)
  generalize hAe : va_A [(h0, .inr (3, [.ref h1])), (h1, .inl (cJ, n, .inr (.inl w)))] s.heap.size = A at hD ⊢
  have hA : ∀ q : Nat, s.heap.size ≤ q → A q := fun q h => by rw [← hAe]; exact Or.inr h
  have hS : va_S A s.heap s.heap [] := va_S.rf
  have hl := lv_entry ([.ref h0]) (n := 1) (Nat.le_of_ble_eq_true rfl)
  rw [lg_entry_eq]
  generalize (lg_sl ([.ref h0]) ++ List.replicate (1 - (lg_sl ([.ref h0])).length) Slot.unset).toArray = ls at hl ⊢
  have hl : lv_has ls 1 [(0, .ref h0)] := hl
  have hK2 : kK D cI cJ cZ s := ⟨hK, hN⟩
  clear hD0
  refine lv_aload_n hx hb dX3_forget_0 rfl (lv_at hl 0 rfl) ?_
  refine va_get (D := D) (ci := 3) (v := .ref h1) (C := RX3) (T := TX3) (N := 1) hx hb hts kiX3_forget_X3 hown hK hP 0 rfl rfl 0 (by decide) (hts (.fieldLink RX3 13 "TwoBanks$Marks" "words" "[J") (List.mem_of_getElem? (i := 1) rfl)) (fun _ h9 => h9) rfl dX3_forget_1 ?_
  refine lv_lconst (v := 0) hx hb dX3_forget_4 (by decide) ?_
  refine k_callv (wr := [(h0, .inr (3, [.ref h1]))]) (w2 := (fun g : Nat → Int64 => [(h0, .inr (3, [.ref h1])), (h1, .inl (cJ, n, .inr (.inl g)))])) (va_runS (As := [.ref h1, .long 0]) (rest := []) ⟨hx, hb, hml, hown, hts⟩ (c_fill l D cI cJ cZ h1 n w 0 qn  s.heap.size) (va_cwS 2 hts gX3_forget_J7_fill_d0a16 rfl rfl rfl (by decide +kernel) ⟨Nat.le_of_ble_eq_true rfl, Nat.le_of_ble_eq_true rfl⟩) (kPS (wc := [(h1, .inl (cJ, n, .inr (.inl w)))]) hK2 hP hD [1] rfl (by decide)) rfl rfl hl.1 rfl (lv_room (Nat.le_of_ble_eq_true rfl)) dX3_forget_5 ⟨Nat.le_of_ble_eq_true rfl, Nat.le_of_ble_eq_true rfl⟩) hP hD hS hA [1] [0] [0, 1] rfl rfl (by decide) (by decide) (fun _ => rfl) (by decide) (fun u_2 H locs hw_2 hP hD hS => ?_)
  obtain ⟨g_1, rfl⟩ : ∃ z, z = u_2 := ⟨_, rfl⟩
  have hP : va_P D vwCl [(h0, .inr (3, [.ref h1])), (h1, .inl (cJ, n, .inr (.inl g_1)))] H := hP
  have hD : va_D A [(h0, .inr (3, [.ref h1])), (h1, .inl (cJ, n, .inr (.inl g_1)))] := hD
  exact W.vret hx hb hr (fun t ht hW => ⟨⟨g_1, rfl, hw_2, by rw [ht]; exact hP, hD⟩, hS.F ht⟩) hS.2.2 dX3_forget_8

theorem kiX3_has_X3 : ∀ w ∈ u_ws RX3 TX3 1, w ∈ wsX3_has := fun w h => List.mem_cons_of_mem _ (List.mem_append_right _ h)
set_option maxHeartbeats 4000000 in
set_option maxRecDepth 100000 in
theorem c_M_has (l : Launch) (D : va_G) (cI cJ cZ : ClassId) (h0 h1 n : Nat) (w : Nat → Int64) (i : Nat) (qi : i < 2 ^ 31) (qn : n < 2 ^ 31) (sz : Nat) : kMI l yX3_has wsX3_has 1 20 D cI cJ cZ [.ref h0, .int (nI i)] [(h0, .inr (3, [.ref h1])), (h1, .inl (cJ, n, .inr (.inl w)))] sz (fun r (_ : Unit) => (r = nI 1 ∧ mHas n w i) ∨ (r = nI 0 ∧ ¬ mHas n w i)) (fun _ : Unit => [(h0, .inr (3, [.ref h1])), (h1, .inl (cJ, n, .inr (.inl w)))]) := by
  refine Met.ofW (cc := cX3_has) (maxL := 3) (ret := (some .boolean)) (by decide) rfl ?_
  intro p e s m args below meth c s₁ B hml hv
  obtain ⟨rfl, hsz, hP, ⟨hK, hN⟩, hD0⟩ := hv
  have hx := B.exec
  have hb := B.bytes
  have hr := B.returns
  have hts := atoms_spec (ws := wsX3_has) B.pre
  have hown : s.vm.findClass RX3 = some m.cls := findClass_of_methodNamed B.named
  have hlocks := B.notSynchronized
  subst hsz
  have hD := hD0.self (sz := s.heap.size)
  generalize hAe : va_A [(h0, .inr (3, [.ref h1])), (h1, .inl (cJ, n, .inr (.inl w)))] s.heap.size = A at hD ⊢
  have hA : ∀ q : Nat, s.heap.size ≤ q → A q := fun q h => by rw [← hAe]; exact Or.inr h
  have hS : va_S A s.heap s.heap [] := va_S.rf
  have hl := lv_entry ([.ref h0, .int (nI i)]) (n := 3) (Nat.le_of_ble_eq_true rfl)
  rw [lg_entry_eq]
  generalize (lg_sl ([.ref h0, .int (nI i)]) ++ List.replicate (3 - (lg_sl ([.ref h0, .int (nI i)])).length) Slot.unset).toArray = ls at hl ⊢
  have hl : lv_has ls 3 [(0, .ref h0), (1, .int (nI i))] := hl
  have hK2 : kK D cI cJ cZ s := ⟨hK, hN⟩
  clear hD0
  refine lv_iload_n hx hb dX3_has_0 rfl (lv_at hl 1 rfl) ?_
  refine lv_bipush (v := (nI 6)) hx hb dX3_has_1 (by decide) ?_
  refine lv_ishr hx hb dX3_has_3 ?_
  refine k_toi (kb_sh qi) ?_
  refine lv_istore_n (lv' := [(2, .int (nI (i / 64))), (0, .ref h0), (1, .int (nI i))]) hx hb dX3_has_4 rfl hl (by decide) rfl (fun ls hl => ?_)
  refine lv_iload_n hx hb dX3_has_5 rfl (lv_at hl 0 rfl) ?_
  refine kw_if_lt (tgt := 41) hx hb dX3_has_6 (by decide) (by omega) (fun c_6_1 => False.elim c_6_1) (fun c_6_1 => ?_)
  refine lv_iload_n hx hb dX3_has_9 rfl (lv_at hl 0 rfl) ?_
  refine lv_aload_n hx hb dX3_has_10 rfl (lv_at hl 1 rfl) ?_
  refine va_get (D := D) (ci := 3) (v := .ref h1) (C := RX3) (T := TX3) (N := 1) hx hb hts kiX3_has_X3 hown hK hP 0 rfl rfl 0 (by decide) (hts (.fieldLink RX3 13 "TwoBanks$Marks" "words" "[J") (List.mem_of_getElem? (i := 1) rfl)) (fun _ h9 => h9) rfl dX3_has_11 ?_
  refine va_alen hx hb hK hP 1 1 rfl rfl (v := nI n) rfl dX3_has_14 ?_
  refine kw_icmp_ge (tgt := 41) hx hb dX3_has_15 (by decide) (by omega) (by omega) (fun c_15_2 => ?_) (fun c_15_2 => ?_)
  · refine lv_iconst (v := (nI 0)) hx hb dX3_has_41 (by decide) ?_
    exact W.zret (v := (nI 0)) hx hb hr (by first | decide +kernel | assumption | exact kz_narr (by first | assumption | omega)) (fun t ht hW => ⟨⟨(nI 0), (), rfl, Or.inr ⟨rfl, (by first | exact fun h => absurd h.1 (by omega) | exact fun h => h.2 (by assumption))⟩, by rw [ht]; exact hP, hD⟩, hS.F ht⟩) hS.2.2 dX3_has_42
  · refine lv_aload_n hx hb dX3_has_18 rfl (lv_at hl 1 rfl) ?_
    refine va_get (D := D) (ci := 3) (v := .ref h1) (C := RX3) (T := TX3) (N := 1) hx hb hts kiX3_has_X3 hown hK hP 0 rfl rfl 0 (by decide) (hts (.fieldLink RX3 13 "TwoBanks$Marks" "words" "[J") (List.mem_of_getElem? (i := 1) rfl)) (fun _ h9 => h9) rfl dX3_has_19 ?_
    refine lv_iload_n hx hb dX3_has_22 rfl (lv_at hl 0 rfl) ?_
    refine va_lald hx hb hK hP 1 1 rfl rfl (vp_in_nI (by omega) (by omega)) dX3_has_23 ?_
    refine k_tol (y := w (i / 64)) (congrArg w (nI_clamp (by omega))) ?_
    refine lv_iload_n hx hb dX3_has_24 rfl (lv_at hl 2 rfl) ?_
    refine lv_bipush (v := (nI 63)) hx hb dX3_has_25 (by decide) ?_
    refine lv_iand hx hb dX3_has_27 ?_
    refine k_toi (kb_an qi) ?_
    refine k_calll (wr := [(h0, .inr (3, [.ref h1])), (h1, .inl (cJ, n, .inr (.inl w)))]) (w2 := (fun _ : Unit => [(h0, .inr (3, [.ref h1])), (h1, .inl (cJ, n, .inr (.inl w)))])) (va_runSN (As := [.int (nI (i % 64))]) (rest := [.long (w (i / 64))]) ⟨hx, hb, hml, hown, hts⟩ (c_bit l D cI cJ cZ (nI (i % 64))  s.heap.size) ⟨va_cnB 1 hts gX3_has_X5_bit_n25 rfl rfl rfl (kN_X3_25 hN) (hts (.initialized RX5) (List.mem_of_getElem? (i := 3) rfl)) (by decide +kernel) ⟨Nat.le_of_ble_eq_true rfl, Nat.le_of_ble_eq_true rfl⟩, (hts (.static yX5_bit) (List.mem_of_getElem? (i := 2) rfl)), trivial⟩ (kPS (wc := []) hK2 hP hD [] rfl (by decide)) rfl rfl hl.1 rfl (lv_room (Nat.le_of_ble_eq_true rfl)) dX3_has_28 ⟨Nat.le_of_ble_eq_true rfl, Nat.le_of_ble_eq_true rfl⟩) hP hD hS hA [] [0, 1] [0, 1] rfl rfl (by decide) (by decide) (fun _ => rfl) (by decide) (fun r_3 u_3 H locs hw_3 hP hD hS => ?_)
    have hP : va_P D vwCl [(h0, .inr (3, [.ref h1])), (h1, .inl (cJ, n, .inr (.inl w)))] H := hP
    have hD : va_D A [(h0, .inr (3, [.ref h1])), (h1, .inl (cJ, n, .inr (.inl w)))] := hD
    subst hw_3
    refine lv_land hx hb dX3_has_31 ?_
    refine lv_lconst (v := 0) hx hb dX3_has_32 (by decide) ?_
    refine W.lcmp hx hb dX3_has_33 ?_
    refine kw_cmp_eq (tgt := 41) hx hb dX3_has_34 (by decide) (fun c_34_4 => ?_) (fun c_34_4 => ?_)
    · refine lv_iconst (v := (nI 0)) hx hb dX3_has_41 (by decide) ?_
      exact W.zret (v := (nI 0)) hx hb hr (by first | decide +kernel | assumption | exact kz_narr (by first | assumption | omega)) (fun t ht hW => ⟨⟨(nI 0), (), rfl, Or.inr ⟨rfl, (by first | exact fun h => absurd h.1 (by omega) | exact fun h => h.2 (by assumption))⟩, by rw [ht]; exact hP, hD⟩, hS.F ht⟩) hS.2.2 dX3_has_42
    · refine lv_iconst (v := (nI 1)) hx hb dX3_has_37 (by decide) ?_
      refine lv_goto (tgt := 42) hx hb dX3_has_38 (by decide) ?_
      exact W.zret (v := (nI 1)) hx hb hr (by first | decide +kernel | assumption | exact kz_narr (by first | assumption | omega)) (fun t ht hW => ⟨⟨(nI 1), (), rfl, Or.inl ⟨rfl, ⟨by omega, by assumption⟩⟩, by rw [ht]; exact hP, hD⟩, hS.F ht⟩) hS.2.2 dX3_has_42

theorem kiX3_mark_X3 : ∀ w ∈ u_ws RX3 TX3 1, w ∈ wsX3_mark := fun w h => List.mem_cons_of_mem _ (List.mem_append_right _ h)
set_option maxHeartbeats 4000000 in
set_option maxRecDepth 100000 in
theorem c_M_mark (l : Launch) (D : va_G) (cI cJ cZ : ClassId) (h0 h1 n : Nat) (w : Nat → Int64) (i : Nat) (qi : i < 2 ^ 31) (qn : n < 2 ^ 31) (qin : i / 64 < n) (sz : Nat) : kMV l yX3_mark wsX3_mark 1 20 D cI cJ cZ [.ref h0, .int (nI i)] [(h0, .inr (3, [.ref h1])), (h1, .inl (cJ, n, .inr (.inl w)))] sz (fun (_ : Unit) => True) (fun _ : Unit => [(h0, .inr (3, [.ref h1])), (h1, .inl (cJ, n, .inr (.inl (mSet w i))))]) := by
  refine Met.ofW (cc := cX3_mark) (maxL := 3) (ret := none) (by decide) rfl ?_
  intro p e s m args below meth c s₁ B hml hv
  obtain ⟨rfl, hsz, hP, ⟨hK, hN⟩, hD0⟩ := hv
  have hx := B.exec
  have hb := B.bytes
  have hr := B.returns
  have hts := atoms_spec (ws := wsX3_mark) B.pre
  have hown : s.vm.findClass RX3 = some m.cls := findClass_of_methodNamed B.named
  have hlocks := B.notSynchronized
  subst hsz
  have hD := hD0.self (sz := s.heap.size)
  generalize hAe : va_A [(h0, .inr (3, [.ref h1])), (h1, .inl (cJ, n, .inr (.inl w)))] s.heap.size = A at hD ⊢
  have hA : ∀ q : Nat, s.heap.size ≤ q → A q := fun q h => by rw [← hAe]; exact Or.inr h
  have hS : va_S A s.heap s.heap [] := va_S.rf
  have hl := lv_entry ([.ref h0, .int (nI i)]) (n := 3) (Nat.le_of_ble_eq_true rfl)
  rw [lg_entry_eq]
  generalize (lg_sl ([.ref h0, .int (nI i)]) ++ List.replicate (3 - (lg_sl ([.ref h0, .int (nI i)])).length) Slot.unset).toArray = ls at hl ⊢
  have hl : lv_has ls 3 [(0, .ref h0), (1, .int (nI i))] := hl
  have hK2 : kK D cI cJ cZ s := ⟨hK, hN⟩
  clear hD0
  refine lv_iload_n hx hb dX3_mark_0 rfl (lv_at hl 1 rfl) ?_
  refine lv_bipush (v := (nI 6)) hx hb dX3_mark_1 (by decide) ?_
  refine lv_ishr hx hb dX3_mark_3 ?_
  refine k_toi (kb_sh qi) ?_
  refine lv_istore_n (lv' := [(2, .int (nI (i / 64))), (0, .ref h0), (1, .int (nI i))]) hx hb dX3_mark_4 rfl hl (by decide) rfl (fun ls hl => ?_)
  refine lv_iload_n hx hb dX3_mark_5 rfl (lv_at hl 0 rfl) ?_
  refine kw_if_lt (tgt := 34) hx hb dX3_mark_6 (by decide) (by omega) (fun c_6_1 => False.elim c_6_1) (fun c_6_1 => ?_)
  refine lv_iload_n hx hb dX3_mark_9 rfl (lv_at hl 0 rfl) ?_
  refine lv_aload_n hx hb dX3_mark_10 rfl (lv_at hl 1 rfl) ?_
  refine va_get (D := D) (ci := 3) (v := .ref h1) (C := RX3) (T := TX3) (N := 1) hx hb hts kiX3_mark_X3 hown hK hP 0 rfl rfl 0 (by decide) (hts (.fieldLink RX3 13 "TwoBanks$Marks" "words" "[J") (List.mem_of_getElem? (i := 1) rfl)) (fun _ h9 => h9) rfl dX3_mark_11 ?_
  refine va_alen hx hb hK hP 1 1 rfl rfl (v := nI n) rfl dX3_mark_14 ?_
  refine kw_icmp_ge (tgt := 34) hx hb dX3_mark_15 (by decide) (by omega) (by omega) (fun c_15_2 => absurd c_15_2 (by omega)) (fun c_15_2 => ?_)
  refine lv_aload_n hx hb dX3_mark_18 rfl (lv_at hl 1 rfl) ?_
  refine va_get (D := D) (ci := 3) (v := .ref h1) (C := RX3) (T := TX3) (N := 1) hx hb hts kiX3_mark_X3 hown hK hP 0 rfl rfl 0 (by decide) (hts (.fieldLink RX3 13 "TwoBanks$Marks" "words" "[J") (List.mem_of_getElem? (i := 1) rfl)) (fun _ h9 => h9) rfl dX3_mark_19 ?_
  refine lv_iload_n hx hb dX3_mark_22 rfl (lv_at hl 0 rfl) ?_
  refine lv_dup2_11 hx hb dX3_mark_23 rfl rfl ?_
  refine va_lald hx hb hK hP 1 1 rfl rfl (vp_in_nI (by omega) (by omega)) dX3_mark_24 ?_
  refine k_tol (y := w (i / 64)) (congrArg w (nI_clamp (by omega))) ?_
  refine lv_iload_n hx hb dX3_mark_25 rfl (lv_at hl 2 rfl) ?_
  refine lv_bipush (v := (nI 63)) hx hb dX3_mark_26 (by decide) ?_
  refine lv_iand hx hb dX3_mark_28 ?_
  refine k_toi (kb_an qi) ?_
  refine k_calll (wr := [(h0, .inr (3, [.ref h1])), (h1, .inl (cJ, n, .inr (.inl w)))]) (w2 := (fun _ : Unit => [(h0, .inr (3, [.ref h1])), (h1, .inl (cJ, n, .inr (.inl w)))])) (va_runSN (As := [.int (nI (i % 64))]) (rest := [.long (w (i / 64)), .int (nI (i / 64)), .ref h1]) ⟨hx, hb, hml, hown, hts⟩ (c_bit l D cI cJ cZ (nI (i % 64))  s.heap.size) ⟨va_cnB 1 hts gX3_mark_X5_bit_n25 rfl rfl rfl (kN_X3_25 hN) (hts (.initialized RX5) (List.mem_of_getElem? (i := 3) rfl)) (by decide +kernel) ⟨Nat.le_of_ble_eq_true rfl, Nat.le_of_ble_eq_true rfl⟩, (hts (.static yX5_bit) (List.mem_of_getElem? (i := 2) rfl)), trivial⟩ (kPS (wc := []) hK2 hP hD [] rfl (by decide)) rfl rfl hl.1 rfl (lv_room (Nat.le_of_ble_eq_true rfl)) dX3_mark_29 ⟨Nat.le_of_ble_eq_true rfl, Nat.le_of_ble_eq_true rfl⟩) hP hD hS hA [] [0, 1] [0, 1] rfl rfl (by decide) (by decide) (fun _ => rfl) (by decide) (fun r_3 u_3 H locs hw_3 hP hD hS => ?_)
  have hP : va_P D vwCl [(h0, .inr (3, [.ref h1])), (h1, .inl (cJ, n, .inr (.inl w)))] H := hP
  have hD : va_D A [(h0, .inr (3, [.ref h1])), (h1, .inl (cJ, n, .inr (.inl w)))] := hD
  subst hw_3
  refine lv_lor hx hb dX3_mark_32 ?_
  refine va_last hx hb hK hP hD hS 1 1 rfl rfl (vp_in_nI (by omega) (by omega)) dX3_mark_33 (fun H locs hP hD hS => ?_)
  rw [nI_clamp (by omega)] at hP hD
  have hP : va_P D vwCl [(h0, .inr (3, [.ref h1])), (h1, .inl (cJ, n, .inr (.inl (vp_updL w (i / 64) ((w (i / 64)) ||| (gBit (nI (i % 64))))))))] H := hP
  have hD : va_D A [(h0, .inr (3, [.ref h1])), (h1, .inl (cJ, n, .inr (.inl (vp_updL w (i / 64) ((w (i / 64)) ||| (gBit (nI (i % 64))))))))] := hD
  exact W.vret hx hb hr (fun t ht hW => ⟨⟨(), rfl, trivial, by rw [ht]; exact hP, hD⟩, hS.F ht⟩) hS.2.2 dX3_mark_34

theorem kiX4_forget_X4 : ∀ w ∈ u_ws RX4 TX4 3, w ∈ wsX4_forget := fun w h => List.mem_cons_of_mem _ (List.mem_append_right _ h)
set_option maxHeartbeats 4000000 in
set_option maxRecDepth 100000 in
theorem c_P_forget (l : Launch) (D : va_G) (cI cJ cZ : ClassId) (h0 h1 h2 : Nat) (ln : Nat) (lay : Nat → Int64) (fs : Nat → Int32) (sz : Nat) : kMV l yX4_forget wsX4_forget 0 0 D cI cJ cZ [.ref h0] [(h0, .inr (4, [.ref h1, .ref h2, .int (nI ln)])), (h1, .inl (cJ, 36, .inr (.inl lay))), (h2, .inl (cI, 36, .inl fs))] sz (fun (_ : Unit) => True) (fun _ : Unit => [(h0, .inr (4, [.ref h1, .ref h2, .int (nI 0)])), (h1, .inl (cJ, 36, .inr (.inl lay))), (h2, .inl (cI, 36, .inl fs))]) := by
  refine Met.ofW (cc := cX4_forget) (maxL := 1) (ret := none) (by decide) rfl ?_
  intro p e s m args below meth c s₁ B hml hv
  obtain ⟨rfl, hsz, hP, ⟨hK, hN⟩, hD0⟩ := hv
  have hx := B.exec
  have hb := B.bytes
  have hr := B.returns
  have hts := atoms_spec (ws := wsX4_forget) B.pre
  have hown : s.vm.findClass RX4 = some m.cls := findClass_of_methodNamed B.named
  have hlocks := B.notSynchronized
  subst hsz
  have hD := hD0.self (sz := s.heap.size)
  generalize hAe : va_A [(h0, .inr (4, [.ref h1, .ref h2, .int (nI ln)])), (h1, .inl (cJ, 36, .inr (.inl lay))), (h2, .inl (cI, 36, .inl fs))] s.heap.size = A at hD ⊢
  have hA : ∀ q : Nat, s.heap.size ≤ q → A q := fun q h => by rw [← hAe]; exact Or.inr h
  have hS : va_S A s.heap s.heap [] := va_S.rf
  have hl := lv_entry ([.ref h0]) (n := 1) (Nat.le_of_ble_eq_true rfl)
  rw [lg_entry_eq]
  generalize (lg_sl ([.ref h0]) ++ List.replicate (1 - (lg_sl ([.ref h0])).length) Slot.unset).toArray = ls at hl ⊢
  have hl : lv_has ls 1 [(0, .ref h0)] := hl
  have hK2 : kK D cI cJ cZ s := ⟨hK, hN⟩
  clear hD0
  refine lv_aload_n hx hb dX4_forget_0 rfl (lv_at hl 0 rfl) ?_
  refine lv_iconst (v := (nI 0)) hx hb dX4_forget_1 (by decide) ?_
  refine va_put (D := D) (ci := 4) (v := .int (nI 0)) (ty := .int) (C := RX4) (T := TX4) (N := 3) hx hb hts kiX4_forget_X4 tyX4 tyX4_ok nmX4 hown hK hP hD hS 0 rfl rfl 2 (by decide) (hts (.fieldLink RX4 19 "TwoBanks$Path" "length" "I") (List.mem_of_getElem? (i := 1) rfl)) (fun _ h9 => h9) rfl  (by decide +kernel) rfl rfl (Nat.le_of_ble_eq_true rfl) dX4_forget_2 (fun H locs hP hD hS => ?_)
  have hP : va_P D vwCl [(h0, .inr (4, [.ref h1, .ref h2, .int (nI 0)])), (h1, .inl (cJ, 36, .inr (.inl lay))), (h2, .inl (cI, 36, .inl fs))] H := hP
  have hD : va_D A [(h0, .inr (4, [.ref h1, .ref h2, .int (nI 0)])), (h1, .inl (cJ, 36, .inr (.inl lay))), (h2, .inl (cI, 36, .inl fs))] := hD
  exact W.vret hx hb hr (fun t ht hW => ⟨⟨(), rfl, trivial, by rw [ht]; exact hP, hD⟩, hS.F ht⟩) hS.2.2 dX4_forget_5

theorem kiX4_length_X4 : ∀ w ∈ u_ws RX4 TX4 3, w ∈ wsX4_length := fun w h => List.mem_cons_of_mem _ (List.mem_append_right _ h)
set_option maxHeartbeats 4000000 in
set_option maxRecDepth 100000 in
theorem c_P_length (l : Launch) (D : va_G) (cI cJ cZ : ClassId) (h0 h1 h2 : Nat) (ln : Nat) (lay : Nat → Int64) (fs : Nat → Int32) (sz : Nat) : kMI l yX4_length wsX4_length 0 0 D cI cJ cZ [.ref h0] [(h0, .inr (4, [.ref h1, .ref h2, .int (nI ln)])), (h1, .inl (cJ, 36, .inr (.inl lay))), (h2, .inl (cI, 36, .inl fs))] sz (fun r (_ : Unit) => r = nI ln) (fun _ : Unit => [(h0, .inr (4, [.ref h1, .ref h2, .int (nI ln)])), (h1, .inl (cJ, 36, .inr (.inl lay))), (h2, .inl (cI, 36, .inl fs))]) := by
  refine Met.ofW (cc := cX4_length) (maxL := 1) (ret := (some .int)) (by decide) rfl ?_
  intro p e s m args below meth c s₁ B hml hv
  obtain ⟨rfl, hsz, hP, ⟨hK, hN⟩, hD0⟩ := hv
  have hx := B.exec
  have hb := B.bytes
  have hr := B.returns
  have hts := atoms_spec (ws := wsX4_length) B.pre
  have hown : s.vm.findClass RX4 = some m.cls := findClass_of_methodNamed B.named
  have hlocks := B.notSynchronized
  subst hsz
  have hD := hD0.self (sz := s.heap.size)
  generalize hAe : va_A [(h0, .inr (4, [.ref h1, .ref h2, .int (nI ln)])), (h1, .inl (cJ, 36, .inr (.inl lay))), (h2, .inl (cI, 36, .inl fs))] s.heap.size = A at hD ⊢
  have hA : ∀ q : Nat, s.heap.size ≤ q → A q := fun q h => by rw [← hAe]; exact Or.inr h
  have hS : va_S A s.heap s.heap [] := va_S.rf
  have hl := lv_entry ([.ref h0]) (n := 1) (Nat.le_of_ble_eq_true rfl)
  rw [lg_entry_eq]
  generalize (lg_sl ([.ref h0]) ++ List.replicate (1 - (lg_sl ([.ref h0])).length) Slot.unset).toArray = ls at hl ⊢
  have hl : lv_has ls 1 [(0, .ref h0)] := hl
  have hK2 : kK D cI cJ cZ s := ⟨hK, hN⟩
  clear hD0
  refine lv_aload_n hx hb dX4_length_0 rfl (lv_at hl 0 rfl) ?_
  refine va_get (D := D) (ci := 4) (v := .int (nI ln)) (C := RX4) (T := TX4) (N := 3) hx hb hts kiX4_length_X4 hown hK hP 0 rfl rfl 2 (by decide) (hts (.fieldLink RX4 19 "TwoBanks$Path" "length" "I") (List.mem_of_getElem? (i := 1) rfl)) (fun _ h9 => h9) rfl dX4_length_1 ?_
  exact W.iret (v := (nI ln)) hx hb hr (fun t ht hW => ⟨⟨(nI ln), (), rfl, rfl, by rw [ht]; exact hP, hD⟩, hS.F ht⟩) hS.2.2 dX4_length_4

theorem kiX4_field_X4 : ∀ w ∈ u_ws RX4 TX4 3, w ∈ wsX4_field := fun w h => List.mem_cons_of_mem _ (List.mem_append_right _ h)
set_option maxHeartbeats 4000000 in
set_option maxRecDepth 100000 in
theorem c_P_field (l : Launch) (D : va_G) (cI cJ cZ : ClassId) (h0 h1 h2 : Nat) (ln : Nat) (lay : Nat → Int64) (fs : Nat → Int32) (i : Int32) (qln : ln ≤ 36) (sz : Nat) : kMI l yX4_field wsX4_field 0 0 D cI cJ cZ [.ref h0, .int i] [(h0, .inr (4, [.ref h1, .ref h2, .int (nI ln)])), (h1, .inl (cJ, 36, .inr (.inl lay))), (h2, .inl (cI, 36, .inl fs))] sz (fun r (_ : Unit) => (∃ k, k < ln ∧ i = nI k ∧ r = fs k) ∨ (¬ fIn ln i ∧ r = -1)) (fun _ : Unit => [(h0, .inr (4, [.ref h1, .ref h2, .int (nI ln)])), (h1, .inl (cJ, 36, .inr (.inl lay))), (h2, .inl (cI, 36, .inl fs))]) := by
  refine Met.ofW (cc := cX4_field) (maxL := 2) (ret := (some .int)) (by decide) rfl ?_
  intro p e s m args below meth c s₁ B hml hv
  obtain ⟨rfl, hsz, hP, ⟨hK, hN⟩, hD0⟩ := hv
  have hx := B.exec
  have hb := B.bytes
  have hr := B.returns
  have hts := atoms_spec (ws := wsX4_field) B.pre
  have hown : s.vm.findClass RX4 = some m.cls := findClass_of_methodNamed B.named
  have hlocks := B.notSynchronized
  subst hsz
  have hD := hD0.self (sz := s.heap.size)
  generalize hAe : va_A [(h0, .inr (4, [.ref h1, .ref h2, .int (nI ln)])), (h1, .inl (cJ, 36, .inr (.inl lay))), (h2, .inl (cI, 36, .inl fs))] s.heap.size = A at hD ⊢
  have hA : ∀ q : Nat, s.heap.size ≤ q → A q := fun q h => by rw [← hAe]; exact Or.inr h
  have hS : va_S A s.heap s.heap [] := va_S.rf
  have hl := lv_entry ([.ref h0, .int i]) (n := 2) (Nat.le_of_ble_eq_true rfl)
  rw [lg_entry_eq]
  generalize (lg_sl ([.ref h0, .int i]) ++ List.replicate (2 - (lg_sl ([.ref h0, .int i])).length) Slot.unset).toArray = ls at hl ⊢
  have hl : lv_has ls 2 [(0, .ref h0), (1, .int i)] := hl
  have hK2 : kK D cI cJ cZ s := ⟨hK, hN⟩
  clear hD0
  refine lv_iload_n hx hb dX4_field_0 rfl (lv_at hl 1 rfl) ?_
  refine lv_if_lt (tgt := 30) hx hb dX4_field_1 (by decide) (fun c_1_1 => ?_) (fun c_1_1 => ?_)
  · refine lv_iconst (v := (-1)) hx hb dX4_field_30 (by decide) ?_
    exact W.iret (v := (-1)) hx hb hr (fun t ht hW => ⟨⟨(-1), (), rfl, Or.inr ⟨kz_has0 qln (by first | exact Or.inl (by assumption) | exact Or.inr (by assumption)), rfl⟩, by rw [ht]; exact hP, hD⟩, hS.F ht⟩) hS.2.2 dX4_field_31
  · refine lv_iload_n hx hb dX4_field_4 rfl (lv_at hl 1 rfl) ?_
    refine lv_aload_n hx hb dX4_field_5 rfl (lv_at hl 0 rfl) ?_
    refine va_get (D := D) (ci := 4) (v := .int (nI ln)) (C := RX4) (T := TX4) (N := 3) hx hb hts kiX4_field_X4 hown hK hP 0 rfl rfl 2 (by decide) (hts (.fieldLink RX4 19 "TwoBanks$Path" "length" "I") (List.mem_of_getElem? (i := 1) rfl)) (fun _ h9 => h9) rfl dX4_field_6 ?_
    refine lv_icmp_ge (tgt := 30) hx hb dX4_field_9 (by decide) (fun c_9_2 => ?_) (fun c_9_2 => ?_)
    · refine lv_iconst (v := (-1)) hx hb dX4_field_30 (by decide) ?_
      exact W.iret (v := (-1)) hx hb hr (fun t ht hW => ⟨⟨(-1), (), rfl, Or.inr ⟨kz_has0 qln (by first | exact Or.inl (by assumption) | exact Or.inr (by assumption)), rfl⟩, by rw [ht]; exact hP, hD⟩, hS.F ht⟩) hS.2.2 dX4_field_31
    · obtain ⟨k, hk, rfl⟩ := kz_has1 qln (by assumption) (by assumption)
      refine lv_iload_n hx hb dX4_field_12 rfl (lv_at hl 1 rfl) ?_
      refine lv_aload_n hx hb dX4_field_13 rfl (lv_at hl 0 rfl) ?_
      refine va_get (D := D) (ci := 4) (v := .ref h2) (C := RX4) (T := TX4) (N := 3) hx hb hts kiX4_field_X4 hown hK hP 0 rfl rfl 1 (by decide) (hts (.fieldLink RX4 15 "TwoBanks$Path" "fields" "[I") (List.mem_of_getElem? (i := 2) rfl)) (fun _ h9 => h9) rfl dX4_field_14 ?_
      refine va_alen hx hb hK hP 2 0 rfl rfl (v := nI 36) rfl dX4_field_17 ?_
      refine kw_icmp_ge (tgt := 30) hx hb dX4_field_18 (by decide) (by omega) (by omega) (fun c_18_3 => absurd c_18_3 (by omega)) (fun c_18_3 => ?_)
      refine lv_aload_n hx hb dX4_field_21 rfl (lv_at hl 0 rfl) ?_
      refine va_get (D := D) (ci := 4) (v := .ref h2) (C := RX4) (T := TX4) (N := 3) hx hb hts kiX4_field_X4 hown hK hP 0 rfl rfl 1 (by decide) (hts (.fieldLink RX4 15 "TwoBanks$Path" "fields" "[I") (List.mem_of_getElem? (i := 2) rfl)) (fun _ h9 => h9) rfl dX4_field_22 ?_
      refine lv_iload_n hx hb dX4_field_25 rfl (lv_at hl 1 rfl) ?_
      refine va_iald hx hb hK hP 2 0 rfl rfl (vp_in_nI (by omega) (by omega)) dX4_field_26 ?_
      refine k_toi (y := fs k) (congrArg fs (nI_clamp (by omega))) ?_
      refine lv_goto (tgt := 31) hx hb dX4_field_27 (by decide) ?_
      exact W.iret (v := (fs k)) hx hb hr (fun t ht hW => ⟨⟨(fs k), (), rfl, Or.inl ⟨k, hk, rfl, rfl⟩, by rw [ht]; exact hP, hD⟩, hS.F ht⟩) hS.2.2 dX4_field_31

theorem kiX4_trace_X4 : ∀ w ∈ u_ws RX4 TX4 3, w ∈ wsX4_trace := fun w h => List.mem_cons_of_mem _ (List.mem_append_left _ (List.mem_append_right _ h))
set_option maxHeartbeats 4000000 in
set_option maxRecDepth 100000 in
theorem c_P_trace (l : Launch) (D : va_G) (cI cJ cZ : ClassId) (h0 h1 h2 hg : Nat) (lay : Nat → Int64) (fs : Nat → Int32) (R C : Nat) (x t st : Int64) (K : Nat) (hR1 : 1 ≤ R) (hR2 : R ≤ 6) (hC1 : 1 ≤ C) (hC2 : C ≤ 6) (hRC : R * C ≤ 36) (hKK : K < 36) (hlay : ∀ j, j ≤ K → lay j = (pL R C x t j).1) (sz : Nat) : kMV l yX4_trace wsX4_trace 2 42 D cI cJ cZ [.ref h0, .ref hg, .long st, .int (nI K)] [(h0, .inr (4, [.ref h1, .ref h2, .int (nI 0)])), (h1, .inl (cJ, 36, .inr (.inl lay))), (h2, .inl (cI, 36, .inl fs)), (hg, wGr R C)] sz (fun (g : Nat → Int32) => ∀ j, j ≤ K → g j = pF R C x t st K j) (fun g : Nat → Int32 => [(h0, .inr (4, [.ref h1, .ref h2, .int (nI (K + 1))])), (h1, .inl (cJ, 36, .inr (.inl lay))), (h2, .inl (cI, 36, .inl g)), (hg, wGr R C)]) := by
  refine Met.ofW (cc := cX4_trace) (maxL := 9) (ret := none) (by decide) rfl ?_
  intro p e s m args below meth c s₁ B hml hv
  obtain ⟨rfl, hsz, hP, ⟨hK, hN⟩, hD0⟩ := hv
  have hx := B.exec
  have hb := B.bytes
  have hr := B.returns
  have hts := atoms_spec (ws := wsX4_trace) B.pre
  have hown : s.vm.findClass RX4 = some m.cls := findClass_of_methodNamed B.named
  have hlocks := B.notSynchronized
  subst hsz
  have hD := hD0.self (sz := s.heap.size)
  generalize hAe : va_A [(h0, .inr (4, [.ref h1, .ref h2, .int (nI 0)])), (h1, .inl (cJ, 36, .inr (.inl lay))), (h2, .inl (cI, 36, .inl fs)), (hg, wGr R C)] s.heap.size = A at hD ⊢
  have hA : ∀ q : Nat, s.heap.size ≤ q → A q := fun q h => by rw [← hAe]; exact Or.inr h
  have hS : va_S A s.heap s.heap [] := va_S.rf
  have hl := lv_entry ([.ref h0, .ref hg, .long st, .int (nI K)]) (n := 9) (Nat.le_of_ble_eq_true rfl)
  rw [lg_entry_eq]
  generalize (lg_sl ([.ref h0, .ref hg, .long st, .int (nI K)]) ++ List.replicate (9 - (lg_sl ([.ref h0, .ref hg, .long st, .int (nI K)])).length) Slot.unset).toArray = ls at hl ⊢
  have hl : lv_has ls 9 [(0, .ref h0), (1, .ref hg), (2, .long st), (4, .int (nI K))] := hl
  have hK2 : kK D cI cJ cZ s := ⟨hK, hN⟩
  clear hD0
  refine lv_lload_n hx hb dX4_trace_0 rfl (lv_at hl 2 rfl) ?_
  refine lv_lstore (lv' := [(5, .long st), (0, .ref h0), (1, .ref hg), (2, .long st), (4, .int (nI K))]) hx hb dX4_trace_1 hl (by decide) rfl (fun ls hl => ?_)
  refine lv_iload hx hb dX4_trace_3 (lv_at hl 4 rfl) ?_
  refine lv_istore (lv' := [(7, .int (nI K)), (5, .long st), (0, .ref h0), (1, .ref hg), (2, .long st), (4, .int (nI K))]) hx hb dX4_trace_5 hl (by decide) rfl (fun ls hl => ?_)
  have hP : va_P D vwCl [(h0, .inr (4, [.ref h1, .ref h2, .int (nI (K + 1 - (K + 1)))])), (h1, .inl (cJ, 36, .inr (.inl lay))), (h2, .inl (cI, 36, .inl fs)), (hg, wGr R C)] s.heap := (by rw [Nat.sub_self]; exact hP)
  have hD : va_D A [(h0, .inr (4, [.ref h1, .ref h2, .int (nI (K + 1 - (K + 1)))])), (h1, .inl (cJ, 36, .inr (.inl lay))), (h2, .inl (cI, 36, .inl fs)), (hg, wGr R C)] := (by rw [Nat.sub_self]; exact hD)
  have hl : lv_has ls 9 [(7, .int (kPr (K + 1))), (5, .long (pO R C x t st K (K + 1 - (K + 1)))), (0, .ref h0), (1, .ref hg), (2, .long st), (4, .int (nI K))] := by rw [Nat.sub_self]; exact hl
  refine kw_loop (σ := Nat × (Nat → Int32)) (fun zz H locs ls => match zz with | (tt, g) => va_P D vwCl [(h0, .inr (4, [.ref h1, .ref h2, .int (nI (K + 1 - tt))])), (h1, .inl (cJ, 36, .inr (.inl lay))), (h2, .inl (cI, 36, .inl g)), (hg, wGr R C)] H ∧ va_D A [(h0, .inr (4, [.ref h1, .ref h2, .int (nI (K + 1 - tt))])), (h1, .inl (cJ, 36, .inr (.inl lay))), (h2, .inl (cI, 36, .inl g)), (hg, wGr R C)] ∧ va_S A s.heap H locs ∧ lv_has ls 9 [(0, .ref h0), (1, .ref hg), (5, .long (pO R C x t st K (K + 1 - tt))), (7, .int (kPr tt))] ∧ (tt ≤ K + 1) ∧ (∀ j, j < K + 1 - tt → g j = pF R C x t st K j)) (fun zz => match zz with | (tt, g) => tt) ((K + 1), fs) ⟨hP, hD, hS, lv_sub hl [2, 3, 1, 0] rfl, Nat.le_refl _, fun j hj => absurd hj (by omega)⟩ ?_
  clear hP hD hS hl
  rintro ⟨tt, g⟩ H locs ls ⟨hP, hD, hS, hl, ht, hg2⟩ ih_7
  have hP : va_P D vwCl [(h0, .inr (4, [.ref h1, .ref h2, .int (nI (K + 1 - tt))])), (h1, .inl (cJ, 36, .inr (.inl lay))), (h2, .inl (cI, 36, .inl g)), (hg, wGr R C)] H := hP
  have hD : va_D A [(h0, .inr (4, [.ref h1, .ref h2, .int (nI (K + 1 - tt))])), (h1, .inl (cJ, 36, .inr (.inl lay))), (h2, .inl (cI, 36, .inl g)), (hg, wGr R C)] := hD
  have hl : lv_has ls 9 [(0, .ref h0), (1, .ref hg), (5, .long (pO R C x t st K (K + 1 - tt))), (7, .int (kPr tt))] := hl
  have ht : tt ≤ K + 1 := ht
  have hg2 : ∀ j, j < K + 1 - tt → g j = pF R C x t st K j := hg2
  rcases tt with _ | t2
  · have hl : lv_has ls 9 [(0, .ref h0), (1, .ref hg), (5, .long (pO R C x t st K (K + 1 - 0))), (7, .int (-1))] := hl
    refine lv_iload hx hb dX4_trace_7 (lv_at hl 3 rfl) ?_
    refine lv_if_lt (tgt := 94) hx hb dX4_trace_9 (by decide) (fun c_9_1 => ?_) (fun c_9_1 => absurd c_9_1 (by decide))
    exact W.vret hx hb hr (fun t ht hW => ⟨⟨g, rfl, fun j hj => hg2 j (by omega), by rw [ht]; exact hP, hD⟩, hS.F ht⟩) hS.2.2 dX4_trace_94
  · have hl : lv_has ls 9 [(0, .ref h0), (1, .ref hg), (5, .long (pO R C x t st K (K - t2))), (7, .int (nI t2))] := by rw [show K + 1 - (t2 + 1) = K - t2 by omega] at hl; exact hl
    have hP : va_P D vwCl [(h0, .inr (4, [.ref h1, .ref h2, .int (nI (K - t2))])), (h1, .inl (cJ, 36, .inr (.inl lay))), (h2, .inl (cI, 36, .inl g)), (hg, wGr R C)] H := (by rw [show K + 1 - (t2 + 1) = K - t2 by omega] at hP; exact hP)
    have hD : va_D A [(h0, .inr (4, [.ref h1, .ref h2, .int (nI (K - t2))])), (h1, .inl (cJ, 36, .inr (.inl lay))), (h2, .inl (cI, 36, .inl g)), (hg, wGr R C)] := (by rw [show K + 1 - (t2 + 1) = K - t2 by omega] at hD; exact hD)
    have hg2 : ∀ j, j < K - t2 → g j = pF R C x t st K j := fun j hj => hg2 j (by omega)
    refine lv_iload hx hb dX4_trace_7 (lv_at hl 3 rfl) ?_
    refine kw_if_lt (tgt := 94) hx hb dX4_trace_9 (by decide) (by omega) (fun c_9_2 => False.elim c_9_2) (fun c_9_2 => ?_)
    refine lv_iload hx hb dX4_trace_12 (lv_at hl 3 rfl) ?_
    refine lv_aload_n hx hb dX4_trace_14 rfl (lv_at hl 0 rfl) ?_
    refine va_get (D := D) (ci := 4) (v := .ref h1) (C := RX4) (T := TX4) (N := 3) hx hb hts kiX4_trace_X4 hown hK hP 0 rfl rfl 0 (by decide) (hts (.fieldLink RX4 9 "TwoBanks$Path" "layers" "[J") (List.mem_of_getElem? (i := 1) rfl)) (fun _ h9 => h9) rfl dX4_trace_15 ?_
    refine va_alen hx hb hK hP 1 1 rfl rfl (v := nI 36) rfl dX4_trace_18 ?_
    refine kw_icmp_ge (tgt := 94) hx hb dX4_trace_19 (by decide) (by omega) (by omega) (fun c_19_3 => absurd c_19_3 (by omega)) (fun c_19_3 => ?_)
    refine lv_aload_n hx hb dX4_trace_22 rfl (lv_at hl 0 rfl) ?_
    refine va_get (D := D) (ci := 4) (v := .ref h1) (C := RX4) (T := TX4) (N := 3) hx hb hts kiX4_trace_X4 hown hK hP 0 rfl rfl 0 (by decide) (hts (.fieldLink RX4 9 "TwoBanks$Path" "layers" "[J") (List.mem_of_getElem? (i := 1) rfl)) (fun _ h9 => h9) rfl dX4_trace_23 ?_
    refine lv_iload hx hb dX4_trace_26 (lv_at hl 3 rfl) ?_
    refine va_lald hx hb hK hP 1 1 rfl rfl (vp_in_nI (by omega) (by omega)) dX4_trace_28 ?_
    refine k_tol (y := lay t2) (congrArg lay (nI_clamp (by omega))) ?_
    refine lv_lload hx hb dX4_trace_29 (lv_at hl 2 rfl) ?_
    refine lv_land hx hb dX4_trace_31 ?_
    refine k_calli (wr := [(h0, .inr (4, [.ref h1, .ref h2, .int (nI (K - t2))])), (h1, .inl (cJ, 36, .inr (.inl lay))), (h2, .inl (cI, 36, .inl g)), (hg, wGr R C)]) (w2 := (fun _ : Unit => [(h0, .inr (4, [.ref h1, .ref h2, .int (nI (K - t2))])), (h1, .inl (cJ, 36, .inr (.inl lay))), (h2, .inl (cI, 36, .inl g)), (hg, wGr R C)])) (va_runSN (As := [.long ((lay t2) &&& (pO R C x t st K (K - t2)))]) (rest := []) ⟨hx, hb, hml, hown, hts⟩ (c_lowest l D cI cJ cZ ((lay t2) &&& (pO R C x t st K (K - t2)))  H.size) ⟨va_cnB 1 hts gX4_trace_X5_lowest_n38 rfl rfl rfl (kN_X4_38 hN) (hts (.initialized RX5) (List.mem_of_getElem? (i := 5) rfl)) (by decide +kernel) ⟨Nat.le_of_ble_eq_true rfl, Nat.le_of_ble_eq_true rfl⟩, (hts (.static yX5_lowest) (List.mem_of_getElem? (i := 4) rfl)), trivial⟩ (kPS (wc := []) hK2 hP hD [] rfl (by decide)) rfl rfl hl.1 rfl (lv_room (Nat.le_of_ble_eq_true rfl)) dX4_trace_32 ⟨Nat.le_of_ble_eq_true rfl, Nat.le_of_ble_eq_true rfl⟩) hP hD hS hA [] [0, 1, 2, 3] [0, 1, 2, 3] rfl rfl (by decide) (by decide) (fun _ => rfl) (by decide) (fun r_4 u_4 H locs hw_4 hP hD hS => ?_)
    have hP : va_P D vwCl [(h0, .inr (4, [.ref h1, .ref h2, .int (nI (K - t2))])), (h1, .inl (cJ, 36, .inr (.inl lay))), (h2, .inl (cI, 36, .inl g)), (hg, wGr R C)] H := hP
    have hD : va_D A [(h0, .inr (4, [.ref h1, .ref h2, .int (nI (K - t2))])), (h1, .inl (cJ, 36, .inr (.inl lay))), (h2, .inl (cI, 36, .inl g)), (hg, wGr R C)] := hD
    subst hw_4
    refine k_toi (y := (pF R C x t st K (K - t2))) (by rw [pF, show K - (K - t2) = t2 by omega, ← hlay t2 (by omega)]) ?_
    refine lv_istore (lv' := [(8, .int (pF R C x t st K (K - t2))), (0, .ref h0), (1, .ref hg), (5, .long (pO R C x t st K (K - t2))), (7, .int (nI t2))]) hx hb dX4_trace_35 hl (by decide) rfl (fun ls hl => ?_)
    refine lv_aload_n hx hb dX4_trace_37 rfl (lv_at hl 1 rfl) ?_
    refine va_get (D := D) (ci := 4) (v := .int (nI (K - t2))) (C := RX4) (T := TX4) (N := 3) hx hb hts kiX4_trace_X4 hown hK hP 0 rfl rfl 2 (by decide) (hts (.fieldLink RX4 19 "TwoBanks$Path" "length" "I") (List.mem_of_getElem? (i := 2) rfl)) (fun _ h9 => h9) rfl dX4_trace_38 ?_
    refine kw_if_lt (tgt := 77) hx hb dX4_trace_41 (by decide) (by omega) (fun c_41_5 => False.elim c_41_5) (fun c_41_5 => ?_)
    refine lv_aload_n hx hb dX4_trace_44 rfl (lv_at hl 1 rfl) ?_
    refine va_get (D := D) (ci := 4) (v := .int (nI (K - t2))) (C := RX4) (T := TX4) (N := 3) hx hb hts kiX4_trace_X4 hown hK hP 0 rfl rfl 2 (by decide) (hts (.fieldLink RX4 19 "TwoBanks$Path" "length" "I") (List.mem_of_getElem? (i := 2) rfl)) (fun _ h9 => h9) rfl dX4_trace_45 ?_
    refine lv_aload_n hx hb dX4_trace_48 rfl (lv_at hl 1 rfl) ?_
    refine va_get (D := D) (ci := 4) (v := .ref h2) (C := RX4) (T := TX4) (N := 3) hx hb hts kiX4_trace_X4 hown hK hP 0 rfl rfl 1 (by decide) (hts (.fieldLink RX4 15 "TwoBanks$Path" "fields" "[I") (List.mem_of_getElem? (i := 3) rfl)) (fun _ h9 => h9) rfl dX4_trace_49 ?_
    refine va_alen hx hb hK hP 2 0 rfl rfl (v := nI 36) rfl dX4_trace_52 ?_
    refine kw_icmp_ge (tgt := 77) hx hb dX4_trace_53 (by decide) (by omega) (by omega) (fun c_53_6 => absurd c_53_6 (by omega)) (fun c_53_6 => ?_)
    refine lv_aload_n hx hb dX4_trace_56 rfl (lv_at hl 1 rfl) ?_
    refine va_get (D := D) (ci := 4) (v := .ref h2) (C := RX4) (T := TX4) (N := 3) hx hb hts kiX4_trace_X4 hown hK hP 0 rfl rfl 1 (by decide) (hts (.fieldLink RX4 15 "TwoBanks$Path" "fields" "[I") (List.mem_of_getElem? (i := 3) rfl)) (fun _ h9 => h9) rfl dX4_trace_57 ?_
    refine lv_aload_n hx hb dX4_trace_60 rfl (lv_at hl 1 rfl) ?_
    refine va_get (D := D) (ci := 4) (v := .int (nI (K - t2))) (C := RX4) (T := TX4) (N := 3) hx hb hts kiX4_trace_X4 hown hK hP 0 rfl rfl 2 (by decide) (hts (.fieldLink RX4 19 "TwoBanks$Path" "length" "I") (List.mem_of_getElem? (i := 2) rfl)) (fun _ h9 => h9) rfl dX4_trace_61 ?_
    refine lv_iload hx hb dX4_trace_64 (lv_at hl 0 rfl) ?_
    refine va_iast hx hb hK hP hD hS 2 0 rfl rfl (vp_in_nI (by omega) (by omega)) dX4_trace_66 (fun H locs hP hD hS => ?_)
    rw [nI_clamp (by omega)] at hP hD
    have hP : va_P D vwCl [(h0, .inr (4, [.ref h1, .ref h2, .int (nI (K - t2))])), (h1, .inl (cJ, 36, .inr (.inl lay))), (h2, .inl (cI, 36, .inl (upd g (K - t2) (pF R C x t st K (K - t2))))), (hg, wGr R C)] H := hP
    have hD : va_D A [(h0, .inr (4, [.ref h1, .ref h2, .int (nI (K - t2))])), (h1, .inl (cJ, 36, .inr (.inl lay))), (h2, .inl (cI, 36, .inl (upd g (K - t2) (pF R C x t st K (K - t2))))), (hg, wGr R C)] := hD
    refine lv_aload_n hx hb dX4_trace_67 rfl (lv_at hl 1 rfl) ?_
    refine lv_dup hx hb dX4_trace_68 rfl ?_
    refine va_get (D := D) (ci := 4) (v := .int (nI (K - t2))) (C := RX4) (T := TX4) (N := 3) hx hb hts kiX4_trace_X4 hown hK hP 0 rfl rfl 2 (by decide) (hts (.fieldLink RX4 19 "TwoBanks$Path" "length" "I") (List.mem_of_getElem? (i := 2) rfl)) (fun _ h9 => h9) rfl dX4_trace_69 ?_
    refine lv_iconst (v := (nI 1)) hx hb dX4_trace_72 (by decide) ?_
    refine lv_iadd hx hb dX4_trace_73 ?_
    refine k_toi (y := nI ((K - t2) + 1)) (nI_add _ _) ?_
    refine va_put (D := D) (ci := 4) (v := .int (nI ((K - t2) + 1))) (ty := .int) (C := RX4) (T := TX4) (N := 3) hx hb hts kiX4_trace_X4 tyX4 tyX4_ok nmX4 hown hK hP hD hS 0 rfl rfl 2 (by decide) (hts (.fieldLink RX4 19 "TwoBanks$Path" "length" "I") (List.mem_of_getElem? (i := 2) rfl)) (fun _ h9 => h9) rfl  (by decide +kernel) rfl rfl (Nat.le_of_ble_eq_true rfl) dX4_trace_74 (fun H locs hP hD hS => ?_)
    have hP : va_P D vwCl [(h0, .inr (4, [.ref h1, .ref h2, .int (nI ((K - t2) + 1))])), (h1, .inl (cJ, 36, .inr (.inl lay))), (h2, .inl (cI, 36, .inl (upd g (K - t2) (pF R C x t st K (K - t2))))), (hg, wGr R C)] H := hP
    have hD : va_D A [(h0, .inr (4, [.ref h1, .ref h2, .int (nI ((K - t2) + 1))])), (h1, .inl (cJ, 36, .inr (.inl lay))), (h2, .inl (cI, 36, .inl (upd g (K - t2) (pF R C x t st K (K - t2))))), (hg, wGr R C)] := hD
    refine lv_aload_n hx hb dX4_trace_77 rfl (lv_at hl 2 rfl) ?_
    refine lv_iload hx hb dX4_trace_78 (lv_at hl 0 rfl) ?_
    refine k_calll (wr := [(h0, .inr (4, [.ref h1, .ref h2, .int (nI ((K - t2) + 1))])), (h1, .inl (cJ, 36, .inr (.inl lay))), (h2, .inl (cI, 36, .inl (upd g (K - t2) (pF R C x t st K (K - t2))))), (hg, wGr R C)]) (w2 := (fun _ : Unit => [(h0, .inr (4, [.ref h1, .ref h2, .int (nI ((K - t2) + 1))])), (h1, .inl (cJ, 36, .inr (.inl lay))), (h2, .inl (cI, 36, .inl (upd g (K - t2) (pF R C x t st K (K - t2))))), (hg, wGr R C)])) (va_runSN (As := [.int (pF R C x t st K (K - t2))]) (rest := [.ref hg]) ⟨hx, hb, hml, hown, hts⟩ (c_bit l D cI cJ cZ (pF R C x t st K (K - t2))  H.size) ⟨va_cnB 1 hts gX4_trace_X5_bit_n42 rfl rfl rfl (kN_X4_42 hN) (hts (.initialized RX5) (List.mem_of_getElem? (i := 5) rfl)) (by decide +kernel) ⟨Nat.le_of_ble_eq_true rfl, Nat.le_of_ble_eq_true rfl⟩, (hts (.static yX5_bit) (List.mem_of_getElem? (i := 14) rfl)), trivial⟩ (kPS (wc := []) hK2 hP hD [] rfl (by decide)) rfl rfl hl.1 rfl (lv_room (Nat.le_of_ble_eq_true rfl)) dX4_trace_80 ⟨Nat.le_of_ble_eq_true rfl, Nat.le_of_ble_eq_true rfl⟩) hP hD hS hA [] [0, 1, 2, 3] [0, 1, 2, 3] rfl rfl (by decide) (by decide) (fun _ => rfl) (by decide) (fun r_7 u_7 H locs hw_7 hP hD hS => ?_)
    have hP : va_P D vwCl [(h0, .inr (4, [.ref h1, .ref h2, .int (nI ((K - t2) + 1))])), (h1, .inl (cJ, 36, .inr (.inl lay))), (h2, .inl (cI, 36, .inl (upd g (K - t2) (pF R C x t st K (K - t2))))), (hg, wGr R C)] H := hP
    have hD : va_D A [(h0, .inr (4, [.ref h1, .ref h2, .int (nI ((K - t2) + 1))])), (h1, .inl (cJ, 36, .inr (.inl lay))), (h2, .inl (cI, 36, .inl (upd g (K - t2) (pF R C x t st K (K - t2))))), (hg, wGr R C)] := hD
    subst hw_7
    refine k_calll (wr := [(h0, .inr (4, [.ref h1, .ref h2, .int (nI ((K - t2) + 1))])), (h1, .inl (cJ, 36, .inr (.inl lay))), (h2, .inl (cI, 36, .inl (upd g (K - t2) (pF R C x t st K (K - t2)))))]) (w2 := (fun _ : Unit => [(h0, .inr (4, [.ref h1, .ref h2, .int (nI ((K - t2) + 1))])), (h1, .inl (cJ, 36, .inr (.inl lay))), (h2, .inl (cI, 36, .inl (upd g (K - t2) (pF R C x t st K (K - t2))))), (hg, wGr R C)])) (va_runV (As := [.long (gBit (pF R C x t st K (K - t2)))]) (rest := []) ⟨hx, hb, hml, hown, hts⟩ (c_G_beside l D cI cJ cZ hg R C (gBit (pF R C x t st K (K - t2))) hR1 hR2 hC1 hC2 hRC  H.size) (cwV 1 hts gX4_trace_X2_beside rfl rfl rfl (by decide +kernel) ⟨Nat.le_of_ble_eq_true rfl, Nat.le_of_ble_eq_true rfl⟩) (kPV (ci := 2) (q0 := 0) (wc := [(hg, wGr R C)]) hK2 hP hD [3] rfl (by decide) rfl rfl) rfl rfl hl.1 rfl (lv_room (Nat.le_of_ble_eq_true rfl)) dX4_trace_83 ⟨Nat.le_of_ble_eq_true rfl, Nat.le_of_ble_eq_true rfl⟩) hP hD hS hA [3] [0, 1, 2] [0, 1, 2, 3] rfl rfl (by decide) (by decide) (fun _ => rfl) (by decide) (fun r_8 u_8 H locs hw_8 hP hD hS => ?_)
    have hP : va_P D vwCl [(h0, .inr (4, [.ref h1, .ref h2, .int (nI ((K - t2) + 1))])), (h1, .inl (cJ, 36, .inr (.inl lay))), (h2, .inl (cI, 36, .inl (upd g (K - t2) (pF R C x t st K (K - t2))))), (hg, wGr R C)] H := hP
    have hD : va_D A [(h0, .inr (4, [.ref h1, .ref h2, .int (nI ((K - t2) + 1))])), (h1, .inl (cJ, 36, .inr (.inl lay))), (h2, .inl (cI, 36, .inl (upd g (K - t2) (pF R C x t st K (K - t2))))), (hg, wGr R C)] := hD
    subst hw_8
    refine k_tol (y := (pO R C x t st K (K - t2 + 1))) rfl ?_
    refine lv_lstore (lv' := [(5, .long (pO R C x t st K (K - t2 + 1))), (8, .int (pF R C x t st K (K - t2))), (0, .ref h0), (1, .ref hg), (7, .int (nI t2))]) hx hb dX4_trace_86 hl (by decide) rfl (fun ls hl => ?_)
    have hP : va_P D vwCl [(h0, .inr (4, [.ref h1, .ref h2, .int (nI (K + 1 - t2))])), (h1, .inl (cJ, 36, .inr (.inl lay))), (h2, .inl (cI, 36, .inl (upd g (K - t2) (pF R C x t st K (K - t2))))), (hg, wGr R C)] H := (by rw [show K + 1 - t2 = K - t2 + 1 by omega]; exact hP)
    have hD : va_D A [(h0, .inr (4, [.ref h1, .ref h2, .int (nI (K + 1 - t2))])), (h1, .inl (cJ, 36, .inr (.inl lay))), (h2, .inl (cI, 36, .inl (upd g (K - t2) (pF R C x t st K (K - t2))))), (hg, wGr R C)] := (by rw [show K + 1 - t2 = K - t2 + 1 by omega]; exact hD)
    have hl : lv_has ls 9 [(5, .long (pO R C x t st K (K + 1 - t2))), (8, .int (pF R C x t st K (K - t2))), (0, .ref h0), (1, .ref hg), (7, .int (nI t2))] := by rw [show K + 1 - t2 = K - t2 + 1 by omega]; exact hl
    refine lv_iinc (v := (kPr t2)) (lv' := [(7, .int (kPr t2)), (5, .long (pO R C x t st K (K + 1 - t2))), (8, .int (pF R C x t st K (K - t2))), (0, .ref h0), (1, .ref hg)]) hx hb dX4_trace_88 hl (k := 4) rfl (k_dec _) (by decide) rfl (fun ls hl => ?_)
    refine lv_goto (tgt := 7) hx hb dX4_trace_91 (by decide) ?_
    exact ih_7 (t2, (upd g (K - t2) (pF R C x t st K (K - t2)))) _ _ _ (Nat.lt_succ_self t2) ⟨hP, hD, hS, lv_sub hl [3, 4, 1, 0] rfl, by omega, by rw [show K + 1 - t2 = (K - t2) + 1 by omega]; exact kf_putI hg2 rfl⟩

theorem kiX4_find_X4 : ∀ w ∈ u_ws RX4 TX4 3, w ∈ wsX4_find := fun w h => List.mem_cons_of_mem _ (List.mem_append_left _ (List.mem_append_right _ h))
set_option maxHeartbeats 4000000 in
set_option maxRecDepth 100000 in
theorem c_P_find (l : Launch) (D : va_G) (cI cJ cZ : ClassId) (h0 h1 h2 hg ln : Nat) (lay : Nat → Int64) (fs : Nat → Int32) (R C : Nat) (x st t : Int64) (K : Nat) (hR1 : 1 ≤ R) (hR2 : R ≤ 6) (hC1 : 1 ≤ C) (hC2 : C ≤ 6) (hRC : R * C ≤ 36) (hKK : K < 36) (hmin : ∀ j, j < K → (pL R C x t j).1 &&& st = 0) (hhit : (pL R C x t K).1 &&& st ≠ 0) (hne : ∀ j, j ≤ K → (pL R C x t j).1 ≠ 0) (sz : Nat) : kMV l yX4_find wsX4_find 3 70 D cI cJ cZ [.ref h0, .ref hg, .long x, .long st, .long t] [(h0, .inr (4, [.ref h1, .ref h2, .int (nI ln)])), (h1, .inl (cJ, 36, .inr (.inl lay))), (h2, .inl (cI, 36, .inl fs)), (hg, wGr R C)] sz (fun u : (Nat → Int64) × (Nat → Int32) => ∀ j, j ≤ K → u.2 j = pF R C x t st K j) (fun u : (Nat → Int64) × (Nat → Int32) => match u with | (la, ga) => [(h0, .inr (4, [.ref h1, .ref h2, .int (nI (K + 1))])), (h1, .inl (cJ, 36, .inr (.inl la))), (h2, .inl (cI, 36, .inl ga)), (hg, wGr R C)]) := by
  refine Met.ofW (cc := cX4_find) (maxL := 13) (ret := none) (by decide) rfl ?_
  intro p e s m args below meth c s₁ B hml hv
  obtain ⟨rfl, hsz, hP, ⟨hK, hN⟩, hD0⟩ := hv
  have hx := B.exec
  have hb := B.bytes
  have hr := B.returns
  have hts := atoms_spec (ws := wsX4_find) B.pre
  have hown : s.vm.findClass RX4 = some m.cls := findClass_of_methodNamed B.named
  have hlocks := B.notSynchronized
  subst hsz
  have hD := hD0.self (sz := s.heap.size)
  generalize hAe : va_A [(h0, .inr (4, [.ref h1, .ref h2, .int (nI ln)])), (h1, .inl (cJ, 36, .inr (.inl lay))), (h2, .inl (cI, 36, .inl fs)), (hg, wGr R C)] s.heap.size = A at hD ⊢
  have hA : ∀ q : Nat, s.heap.size ≤ q → A q := fun q h => by rw [← hAe]; exact Or.inr h
  have hS : va_S A s.heap s.heap [] := va_S.rf
  have hl := lv_entry ([.ref h0, .ref hg, .long x, .long st, .long t]) (n := 13) (Nat.le_of_ble_eq_true rfl)
  rw [lg_entry_eq]
  generalize (lg_sl ([.ref h0, .ref hg, .long x, .long st, .long t]) ++ List.replicate (13 - (lg_sl ([.ref h0, .ref hg, .long x, .long st, .long t])).length) Slot.unset).toArray = ls at hl ⊢
  have hl : lv_has ls 13 [(0, .ref h0), (1, .ref hg), (2, .long x), (4, .long st), (6, .long t)] := hl
  have hK2 : kK D cI cJ cZ s := ⟨hK, hN⟩
  clear hD0
  refine lv_aload_n hx hb dX4_find_0 rfl (lv_at hl 0 rfl) ?_
  refine k_callv (wr := [(hg, wGr R C)]) (w2 := (fun _ : Unit => [(h0, .inr (4, [.ref h1, .ref h2, .int (nI 0)])), (h1, .inl (cJ, 36, .inr (.inl lay))), (h2, .inl (cI, 36, .inl fs)), (hg, wGr R C)])) (va_runV (As := []) (rest := []) ⟨hx, hb, hml, hown, hts⟩ (c_P_forget l D cI cJ cZ h0 h1 h2 ln lay fs  s.heap.size) (cwV 0 hts gX4_find_X4_forget rfl rfl rfl (by decide +kernel) ⟨Nat.le_of_ble_eq_true rfl, Nat.le_of_ble_eq_true rfl⟩) (kPV (ci := 4) (q0 := 0) (wc := [(h0, .inr (4, [.ref h1, .ref h2, .int (nI ln)])), (h1, .inl (cJ, 36, .inr (.inl lay))), (h2, .inl (cI, 36, .inl fs))]) hK2 hP hD [0, 1, 2] rfl (by decide) rfl rfl) rfl rfl hl.1 rfl (lv_room (Nat.le_of_ble_eq_true rfl)) dX4_find_1 ⟨Nat.le_of_ble_eq_true rfl, Nat.le_of_ble_eq_true rfl⟩) hP hD hS hA [0, 1, 2] [3] [1, 2, 3, 0] rfl rfl (by decide) (by decide) (fun _ => rfl) (by decide) (fun u_1 H locs hw_1 hP hD hS => ?_)
  have hP : va_P D vwCl [(h0, .inr (4, [.ref h1, .ref h2, .int (nI 0)])), (h1, .inl (cJ, 36, .inr (.inl lay))), (h2, .inl (cI, 36, .inl fs)), (hg, wGr R C)] H := hP
  have hD : va_D A [(h0, .inr (4, [.ref h1, .ref h2, .int (nI 0)])), (h1, .inl (cJ, 36, .inr (.inl lay))), (h2, .inl (cI, 36, .inl fs)), (hg, wGr R C)] := hD
  refine lv_lload_n hx hb dX4_find_4 rfl (lv_at hl 2 rfl) ?_
  refine lv_lload hx hb dX4_find_5 (lv_at hl 4 rfl) ?_
  refine lv_land hx hb dX4_find_7 ?_
  refine k_tol (y := ((pL R C x t 0).1)) rfl ?_
  refine lv_lstore (lv' := [(8, .long ((pL R C x t 0).1)), (0, .ref h0), (1, .ref hg), (2, .long x), (4, .long st), (6, .long t)]) hx hb dX4_find_8 hl (by decide) rfl (fun ls hl => ?_)
  refine lv_lload hx hb dX4_find_10 (lv_at hl 0 rfl) ?_
  refine lv_lstore (lv' := [(10, .long ((pL R C x t 0).1)), (8, .long ((pL R C x t 0).1)), (0, .ref h0), (1, .ref hg), (2, .long x), (4, .long st), (6, .long t)]) hx hb dX4_find_12 hl (by decide) rfl (fun ls hl => ?_)
  refine lv_iconst (v := (nI 0)) hx hb dX4_find_14 (by decide) ?_
  refine lv_istore (lv' := [(12, .int (nI 0)), (10, .long ((pL R C x t 0).1)), (8, .long ((pL R C x t 0).1)), (0, .ref h0), (1, .ref hg), (2, .long x), (4, .long st), (6, .long t)]) hx hb dX4_find_15 hl (by decide) rfl (fun ls hl => ?_)
  refine kw_loop (σ := Nat × (Nat → Int64)) (fun zz H locs ls => match zz with | (k, lay) => va_P D vwCl [(h0, .inr (4, [.ref h1, .ref h2, .int (nI 0)])), (h1, .inl (cJ, 36, .inr (.inl lay))), (h2, .inl (cI, 36, .inl fs)), (hg, wGr R C)] H ∧ va_D A [(h0, .inr (4, [.ref h1, .ref h2, .int (nI 0)])), (h1, .inl (cJ, 36, .inr (.inl lay))), (h2, .inl (cI, 36, .inl fs)), (hg, wGr R C)] ∧ va_S A s.heap H locs ∧ lv_has ls 13 [(0, .ref h0), (1, .ref hg), (2, .long x), (4, .long st), (8, .long ((pL R C x t k).1)), (10, .long ((pL R C x t k).2)), (12, .int (nI k))] ∧ (k ≤ K) ∧ (∀ j, j < k → lay j = (pL R C x t j).1)) (fun zz => match zz with | (k, lay) => K - k) (0, lay) ⟨hP, hD, hS, lv_sub hl [3, 4, 5, 6, 2, 1, 0] rfl, Nat.zero_le _, fun j hj => absurd hj (Nat.not_lt_zero j)⟩ ?_
  clear hP hD hS hl
  rintro ⟨k, lay⟩ H locs ls ⟨hP, hD, hS, hl, hk, hlay⟩ ih_17
  have hP : va_P D vwCl [(h0, .inr (4, [.ref h1, .ref h2, .int (nI 0)])), (h1, .inl (cJ, 36, .inr (.inl lay))), (h2, .inl (cI, 36, .inl fs)), (hg, wGr R C)] H := hP
  have hD : va_D A [(h0, .inr (4, [.ref h1, .ref h2, .int (nI 0)])), (h1, .inl (cJ, 36, .inr (.inl lay))), (h2, .inl (cI, 36, .inl fs)), (hg, wGr R C)] := hD
  have hl : lv_has ls 13 [(0, .ref h0), (1, .ref hg), (2, .long x), (4, .long st), (8, .long ((pL R C x t k).1)), (10, .long ((pL R C x t k).2)), (12, .int (nI k))] := hl
  have hk : k ≤ K := hk
  have hlay : ∀ j, j < k → lay j = (pL R C x t j).1 := hlay
  refine lv_iload hx hb dX4_find_17 (lv_at hl 6 rfl) ?_
  refine lv_aload_n hx hb dX4_find_19 rfl (lv_at hl 0 rfl) ?_
  refine va_get (D := D) (ci := 4) (v := .ref h1) (C := RX4) (T := TX4) (N := 3) hx hb hts kiX4_find_X4 hown hK hP 0 rfl rfl 0 (by decide) (hts (.fieldLink RX4 9 "TwoBanks$Path" "layers" "[J") (List.mem_of_getElem? (i := 1) rfl)) (fun _ h9 => h9) rfl dX4_find_20 ?_
  refine va_alen hx hb hK hP 1 1 rfl rfl (v := nI 36) rfl dX4_find_23 ?_
  refine kw_icmp_ge (tgt := 93) hx hb dX4_find_24 (by decide) (by omega) (by omega) (fun c_24_2 => absurd c_24_2 (by omega)) (fun c_24_2 => ?_)
  refine lv_lload hx hb dX4_find_27 (lv_at hl 4 rfl) ?_
  refine lv_lconst (v := 0) hx hb dX4_find_29 (by decide) ?_
  refine W.lcmp hx hb dX4_find_30 ?_
  refine kw_cmp_eq (tgt := 93) hx hb dX4_find_31 (by decide) (fun c_31_3 => absurd c_31_3 (hne k (by omega))) (fun c_31_3 => ?_)
  refine lv_aload_n hx hb dX4_find_34 rfl (lv_at hl 0 rfl) ?_
  refine va_get (D := D) (ci := 4) (v := .ref h1) (C := RX4) (T := TX4) (N := 3) hx hb hts kiX4_find_X4 hown hK hP 0 rfl rfl 0 (by decide) (hts (.fieldLink RX4 9 "TwoBanks$Path" "layers" "[J") (List.mem_of_getElem? (i := 1) rfl)) (fun _ h9 => h9) rfl dX4_find_35 ?_
  refine lv_iload hx hb dX4_find_38 (lv_at hl 6 rfl) ?_
  refine lv_lload hx hb dX4_find_40 (lv_at hl 4 rfl) ?_
  refine va_last hx hb hK hP hD hS 1 1 rfl rfl (vp_in_nI (by omega) (by omega)) dX4_find_42 (fun H locs hP hD hS => ?_)
  rw [nI_clamp (by omega)] at hP hD
  have hP : va_P D vwCl [(h0, .inr (4, [.ref h1, .ref h2, .int (nI 0)])), (h1, .inl (cJ, 36, .inr (.inl (vp_updL lay k ((pL R C x t k).1))))), (h2, .inl (cI, 36, .inl fs)), (hg, wGr R C)] H := hP
  have hD : va_D A [(h0, .inr (4, [.ref h1, .ref h2, .int (nI 0)])), (h1, .inl (cJ, 36, .inr (.inl (vp_updL lay k ((pL R C x t k).1))))), (h2, .inl (cI, 36, .inl fs)), (hg, wGr R C)] := hD
  refine lv_lload hx hb dX4_find_43 (lv_at hl 4 rfl) ?_
  refine lv_lload hx hb dX4_find_45 (lv_at hl 3 rfl) ?_
  refine lv_land hx hb dX4_find_47 ?_
  refine lv_lconst (v := 0) hx hb dX4_find_48 (by decide) ?_
  refine W.lcmp hx hb dX4_find_49 ?_
  refine kw_cmp_eq (tgt := 63) hx hb dX4_find_50 (by decide) (fun c_50_4 => ?_) (fun c_50_4 => ?_)
  · have hkK : k < K := by rcases Nat.lt_or_ge k K with q | q; exact q; exact absurd (by have e : k = K := (by omega); rw [e] at c_50_4; exact c_50_4) hhit
    refine lv_aload_n hx hb dX4_find_63 rfl (lv_at hl 1 rfl) ?_
    refine lv_lload hx hb dX4_find_64 (lv_at hl 4 rfl) ?_
    refine k_calll (wr := [(h0, .inr (4, [.ref h1, .ref h2, .int (nI 0)])), (h1, .inl (cJ, 36, .inr (.inl (vp_updL lay k ((pL R C x t k).1))))), (h2, .inl (cI, 36, .inl fs))]) (w2 := (fun _ : Unit => [(h0, .inr (4, [.ref h1, .ref h2, .int (nI 0)])), (h1, .inl (cJ, 36, .inr (.inl (vp_updL lay k ((pL R C x t k).1))))), (h2, .inl (cI, 36, .inl fs)), (hg, wGr R C)])) (va_runV (As := [.long ((pL R C x t k).1)]) (rest := []) ⟨hx, hb, hml, hown, hts⟩ (c_G_beside l D cI cJ cZ hg R C ((pL R C x t k).1) hR1 hR2 hC1 hC2 hRC  H.size) (cwV 1 hts gX4_find_X2_beside rfl rfl rfl (by decide +kernel) ⟨Nat.le_of_ble_eq_true rfl, Nat.le_of_ble_eq_true rfl⟩) (kPV (ci := 2) (q0 := 0) (wc := [(hg, wGr R C)]) hK2 hP hD [3] rfl (by decide) rfl rfl) rfl rfl hl.1 rfl (lv_room (Nat.le_of_ble_eq_true rfl)) dX4_find_66 ⟨Nat.le_of_ble_eq_true rfl, Nat.le_of_ble_eq_true rfl⟩) hP hD hS hA [3] [0, 1, 2] [0, 1, 2, 3] rfl rfl (by decide) (by decide) (fun _ => rfl) (by decide) (fun r_5 u_5 H locs hw_5 hP hD hS => ?_)
    have hP : va_P D vwCl [(h0, .inr (4, [.ref h1, .ref h2, .int (nI 0)])), (h1, .inl (cJ, 36, .inr (.inl (vp_updL lay k ((pL R C x t k).1))))), (h2, .inl (cI, 36, .inl fs)), (hg, wGr R C)] H := hP
    have hD : va_D A [(h0, .inr (4, [.ref h1, .ref h2, .int (nI 0)])), (h1, .inl (cJ, 36, .inr (.inl (vp_updL lay k ((pL R C x t k).1))))), (h2, .inl (cI, 36, .inl fs)), (hg, wGr R C)] := hD
    subst hw_5
    refine lv_lload_n hx hb dX4_find_69 rfl (lv_at hl 2 rfl) ?_
    refine lv_land hx hb dX4_find_70 ?_
    refine lv_lload hx hb dX4_find_71 (lv_at hl 5 rfl) ?_
    refine lv_ldc2 (v := (-1)) hx hb hown (hts (.constantLong RX4 36 (-1)) (List.mem_of_getElem? (i := 2) rfl)) dX4_find_73 ?_
    refine lv_lxor hx hb dX4_find_76 ?_
    refine lv_land hx hb dX4_find_77 ?_
    refine k_tol (y := ((pL R C x t (k + 1)).1)) rfl ?_
    refine lv_lstore (lv' := [(8, .long ((pL R C x t (k + 1)).1)), (0, .ref h0), (1, .ref hg), (2, .long x), (4, .long st), (10, .long ((pL R C x t k).2)), (12, .int (nI k))]) hx hb dX4_find_78 hl (by decide) rfl (fun ls hl => ?_)
    refine lv_lload hx hb dX4_find_80 (lv_at hl 5 rfl) ?_
    refine lv_lload hx hb dX4_find_82 (lv_at hl 0 rfl) ?_
    refine lv_lor hx hb dX4_find_84 ?_
    refine k_tol (y := ((pL R C x t (k + 1)).2)) rfl ?_
    refine lv_lstore (lv' := [(10, .long ((pL R C x t (k + 1)).2)), (8, .long ((pL R C x t (k + 1)).1)), (0, .ref h0), (1, .ref hg), (2, .long x), (4, .long st), (12, .int (nI k))]) hx hb dX4_find_85 hl (by decide) rfl (fun ls hl => ?_)
    refine lv_iinc (v := (nI (k + 1))) (lv' := [(12, .int (nI (k + 1))), (10, .long ((pL R C x t (k + 1)).2)), (8, .long ((pL R C x t (k + 1)).1)), (0, .ref h0), (1, .ref hg), (2, .long x), (4, .long st)]) hx hb dX4_find_87 hl (k := 6) rfl (k_inc _ 1) (by decide) rfl (fun ls hl => ?_)
    refine lv_goto (tgt := 17) hx hb dX4_find_90 (by decide) ?_
    exact ih_17 ((k + 1), (vp_updL lay k ((pL R C x t k).1))) _ _ _ (by show K - (k + 1) < K - k; omega) ⟨hP, hD, hS, lv_sub hl [3, 4, 5, 6, 2, 1, 0] rfl, by omega, kf_putL2 hlay⟩
  · have hkK : k = K := by rcases Nat.lt_or_ge k K with q | q; exact absurd (hmin k q) c_50_4; omega
    have hl : lv_has ls 13 [(0, .ref h0), (1, .ref hg), (2, .long x), (4, .long st), (8, .long ((pL R C x t k).1)), (10, .long ((pL R C x t k).2)), (12, .int (nI K))] := by rw [← hkK]; exact hl
    have hlay2 : ∀ j, j ≤ K → vp_updL lay k (pL R C x t k).1 j = (pL R C x t j).1 := by rw [← hkK]; exact kf_putL hlay
    refine lv_aload_n hx hb dX4_find_53 rfl (lv_at hl 0 rfl) ?_
    refine lv_aload_n hx hb dX4_find_54 rfl (lv_at hl 1 rfl) ?_
    refine lv_lload hx hb dX4_find_55 (lv_at hl 3 rfl) ?_
    refine lv_iload hx hb dX4_find_57 (lv_at hl 6 rfl) ?_
    refine k_callv (wr := []) (w2 := (fun g : Nat → Int32 => [(h0, .inr (4, [.ref h1, .ref h2, .int (nI (K + 1))])), (h1, .inl (cJ, 36, .inr (.inl (vp_updL lay k ((pL R C x t k).1))))), (h2, .inl (cI, 36, .inl g)), (hg, wGr R C)])) (va_runV (As := [.ref hg, .long st, .int (nI K)]) (rest := []) ⟨hx, hb, hml, hown, hts⟩ (c_P_trace l D cI cJ cZ h0 h1 h2 hg (vp_updL lay k ((pL R C x t k).1)) fs R C x t st K hR1 hR2 hC1 hC2 hRC hKK hlay2  H.size) (cwV 3 hts gX4_find_X4_trace rfl rfl rfl (by decide +kernel) ⟨Nat.le_of_ble_eq_true rfl, Nat.le_of_ble_eq_true rfl⟩) (kPV (ci := 4) (q0 := 0) (wc := [(h0, .inr (4, [.ref h1, .ref h2, .int (nI 0)])), (h1, .inl (cJ, 36, .inr (.inl (vp_updL lay k ((pL R C x t k).1))))), (h2, .inl (cI, 36, .inl fs)), (hg, wGr R C)]) hK2 hP hD [0, 1, 2, 3] rfl (by decide) rfl rfl) rfl rfl hl.1 rfl (lv_room (Nat.le_of_ble_eq_true rfl)) dX4_find_59 ⟨Nat.le_of_ble_eq_true rfl, Nat.le_of_ble_eq_true rfl⟩) hP hD hS hA [0, 1, 2, 3] [] [0, 1, 2, 3] rfl rfl (by decide) (by decide) (fun _ => rfl) (by decide) (fun u_7 H locs hw_7 hP hD hS => ?_)
    obtain ⟨g_6, rfl⟩ : ∃ z, z = u_7 := ⟨_, rfl⟩
    have hP : va_P D vwCl [(h0, .inr (4, [.ref h1, .ref h2, .int (nI (K + 1))])), (h1, .inl (cJ, 36, .inr (.inl (vp_updL lay k ((pL R C x t k).1))))), (h2, .inl (cI, 36, .inl g_6)), (hg, wGr R C)] H := hP
    have hD : va_D A [(h0, .inr (4, [.ref h1, .ref h2, .int (nI (K + 1))])), (h1, .inl (cJ, 36, .inr (.inl (vp_updL lay k ((pL R C x t k).1))))), (h2, .inl (cI, 36, .inl g_6)), (hg, wGr R C)] := hD
    have hgg := hw_7
    exact W.vret hx hb hr (fun t ht hW => ⟨⟨(_, g_6), rfl, hgg, by rw [ht]; exact hP, hD⟩, hS.F ht⟩) hS.2.2 dX4_find_62
end
section
/-! bits of longs -/
theorem wb_tb (n : Nat) : (lN n).toBitVec = BitVec.ofNat 64 n := rfl
theorem wb_inj {a b : Int64} (h : a.toBitVec = b.toBitVec) : a = b := Int64.toBitVec_inj.mp h
theorem wb_c : ∀ k, k < 64 → ((nI k).toInt64 &&& 63) = lN k := by decide +kernel
theorem wb_cu : ∀ k, k < 64 → ((nI k).toInt64.toUInt64 &&& Int64.toUInt64 63) = UInt64.ofNat k := by decide +kernel
theorem wb_sm : ∀ k, k < 64 → (BitVec.ofNat 64 k).smod 64 = BitVec.ofNat 64 k := by decide +kernel
def bq (x : Int64) (i : Nat) : Bool := x.toBitVec.getLsbD i
theorem bq_big {x : Int64} {i : Nat} (h : 64 ≤ i) : bq x i = false := BitVec.getLsbD_of_ge _ _ h
theorem bq_ext {x y : Int64} (h : ∀ i, i < 64 → bq x i = bq y i) : x = y := Int64.toBitVec_inj.mp (BitVec.eq_of_getLsbD_eq (fun i hi => h i hi))
theorem bq_and (x y : Int64) (i : Nat) : bq (x &&& y) i = (bq x i && bq y i) := by unfold bq; rw [Int64.toBitVec_and, BitVec.getLsbD_and]
theorem bq_or (x y : Int64) (i : Nat) : bq (x ||| y) i = (bq x i || bq y i) := by unfold bq; rw [Int64.toBitVec_or, BitVec.getLsbD_or]
theorem bq_xor (x y : Int64) (i : Nat) : bq (x ^^^ y) i = (bq x i ^^ bq y i) := by unfold bq; rw [Int64.toBitVec_xor, BitVec.getLsbD_xor]
theorem bq_0 (i : Nat) : bq 0 i = false := by
  unfold bq
  show (0#64).getLsbD i = false
  exact BitVec.getLsbD_zero
theorem bq_m1 {i : Nat} (h : i < 64) : bq (-1) i = true := by
  have ha : (-1 : Int64).toBitVec = BitVec.allOnes 64 := by decide
  unfold bq
  rw [ha, BitVec.getLsbD_allOnes]
  exact decide_eq_true h
theorem bq_not (x : Int64) {i : Nat} (h : i < 64) : bq (x ^^^ (-1)) i = !bq x i := by
  rw [bq_xor, bq_m1 h]
  cases bq x i <;> rfl
theorem bq_andn (x y : Int64) (i : Nat) : bq (x &&& (y ^^^ (-1))) i = (bq x i && !bq y i) := by
  rcases Nat.lt_or_ge i 64 with h | h
  · rw [bq_and, bq_not y h]
  · rw [bq_and, bq_big (x := x) h]; rfl
theorem bq_shl (x : Int64) {k : Nat} (hk : k < 64) (i : Nat) : bq (kShl x (nI k)) i = (decide (i < 64) && !decide (i < k) && bq x (i - k)) := by
  unfold bq kShl
  rw [wb_c k hk, Int64.toBitVec_shiftLeft, wb_tb, wb_sm k hk, BitVec.shiftLeft_eq', BitVec.toNat_ofNat, Nat.mod_eq_of_lt (show k < 2 ^ 64 by omega), BitVec.getLsbD_shiftLeft]
theorem bq_shr (x : Int64) {k : Nat} (hk : k < 64) (i : Nat) : bq (kShr x (nI k)) i = bq x (k + i) := by
  unfold bq kShr
  rw [wb_cu k hk]
  have h1 : (UInt64.ofNat k).toNat = k := by
    show (BitVec.ofNat 64 k).toNat = k
    rw [BitVec.toNat_ofNat, Nat.mod_eq_of_lt (by omega)]
  have e : (x.toUInt64 >>> UInt64.ofNat k).toInt64.toBitVec = x.toBitVec >>> k := by
    apply BitVec.eq_of_toNat_eq
    show (x.toUInt64 >>> UInt64.ofNat k).toNat = _
    rw [UInt64.toNat_shiftRight, h1, Nat.mod_eq_of_lt hk, BitVec.toNat_ushiftRight]
    rfl
  rw [e, BitVec.getLsbD_ushiftRight]
theorem bq_1 (i : Nat) : bq 1 i = decide (i = 0) := by
  unfold bq
  show (1#64).getLsbD i = _
  rw [BitVec.getLsbD_one]
  by_cases h : i = 0 <;> simp [h]
theorem bq_bit {k : Nat} (hk : k < 64) (i : Nat) : bq (gBit (nI k)) i = decide (i = k) := by
  unfold gBit
  rw [bq_shl 1 hk, bq_1]
  by_cases h : i = k
  · subst h
    simp [hk]
  · by_cases h2 : i < k
    · simp [h, h2]
    · have : i - k ≠ 0 := by omega
      simp [h, this]
theorem bq_eq0 {x : Int64} : x = 0 ↔ ∀ i, i < 64 → bq x i = false := ⟨fun h i _ => by rw [h, bq_0], fun h => bq_ext (fun i hi => by rw [h i hi, bq_0])⟩
theorem bq_ne0 {x : Int64} : x ≠ 0 ↔ ∃ i, i < 64 ∧ bq x i = true := by
  constructor
  · intro h
    apply Classical.byContradiction
    intro h2
    apply h
    apply bq_eq0.mpr
    intro i hi
    cases hb : bq x i with
    | false => rfl
    | true => exact absurd ⟨i, hi, hb⟩ h2
  · rintro ⟨i, hi, h⟩ e
    rw [e, bq_0] at h
    cases h
/-- a long's bits as a number's -/
theorem bq_nat (x : Int64) (i : Nat) : bq x i = x.toBitVec.toNat.testBit i := rfl
theorem bq_lN {n : Nat} (h : n < 2 ^ 64) (i : Nat) : bq (lN n) i = n.testBit i := by
  rw [bq_nat]
  show (BitVec.ofNat 64 n).toNat.testBit i = _
  rw [BitVec.toNat_ofNat, Nat.mod_eq_of_lt h]
/-- what a board's longs are, bit by bit: decided over all boards -/
theorem gAll_bits : ∀ R, R < 7 → ∀ C, C < 7 → ∀ i, i < 64 → bq (gAll R C) i = decide (i < R * C) := by decide +kernel
theorem gNo_bits : ∀ C, C < 7 → ∀ i, i < 64 → bq (gNo C) i = decide (i < C) := by decide +kernel
theorem gSo_bits : ∀ R, R < 7 → ∀ C, C < 7 → 1 ≤ R → ∀ i, i < 64 → bq (gSo R C) i = (decide (C * (R - 1) ≤ i) && decide (i < C * R)) := by decide +kernel
theorem gWe_bits : ∀ R, R < 7 → ∀ C, C < 7 → 1 ≤ C → ∀ i, i < 64 → bq (gWeN C R) i = (decide (i < R * C) && decide (i % C = 0)) := by decide +kernel
theorem gEa_bits : ∀ R, R < 7 → ∀ C, C < 7 → 1 ≤ C → ∀ i, i < 64 → bq (gEa R C) i = (decide (i < R * C) && decide (i % C = C - 1)) := by decide +kernel
end
section
def fb_ct (p : Nat → Bool) : Nat → Nat
  | 0 => 0
  | n + 1 => fb_ct p n + (if p n then 1 else 0)
theorem fb_ct_succ (p : Nat → Bool) (n : Nat) : fb_ct p (n + 1) = fb_ct p n + (if p n then 1 else 0) := rfl
theorem fb_ct_le (p : Nat → Bool) : ∀ n, fb_ct p n ≤ n
  | 0 => Nat.le_refl _
  | n + 1 => by
    have h := fb_ct_le p n
    rw [fb_ct_succ]
    split <;> omega
theorem fb_ct_step (p : Nat → Bool) (m : Nat) : ∀ n, fb_ct p m ≤ fb_ct p (m + n)
  | 0 => Nat.le_refl _
  | n + 1 => by
    have h := fb_ct_step p m n
    show fb_ct p m ≤ fb_ct p (m + n + 1)
    rw [fb_ct_succ]
    omega
theorem fb_ct_mono (p : Nat → Bool) {m n : Nat} (h : m ≤ n) : fb_ct p m ≤ fb_ct p n := by
  have := fb_ct_step p m (n - m)
  rwa [Nat.add_sub_cancel' h] at this
theorem fb_ct_cong {p q : Nat → Bool} : ∀ {n : Nat}, (∀ k, k < n → p k = q k) → fb_ct p n = fb_ct q n
  | 0, _ => rfl
  | n + 1, h => by
    rw [fb_ct_succ, fb_ct_succ, fb_ct_cong (fun k hk => h k (by omega)), h n (by omega)]
/-- one place changed -/
theorem fb_ct_out (p : Nat → Bool) (b : Bool) {i n : Nat} (h : n ≤ i) : fb_ct (fun k => if k = i then b else p k) n = fb_ct p n :=
  fb_ct_cong fun k hk => if_neg (by omega)
theorem fb_ct_upd (p : Nat → Bool) (b : Bool) {i : Nat} : ∀ {n : Nat}, i < n → fb_ct (fun k => if k = i then b else p k) n + (if p i then 1 else 0) = fb_ct p n + (if b then 1 else 0)
  | 0, h => absurd h (Nat.not_lt_zero i)
  | n + 1, h => by
    rw [fb_ct_succ, fb_ct_succ]
    rcases Nat.lt_or_ge i n with q | q
    · have := fb_ct_upd p b q
      have e : (if n = i then b else p n) = p n := if_neg (by omega)
      rw [e]
      omega
    · have e : i = n := by omega
      subst e
      rw [fb_ct_out p b (Nat.le_refl _)]
      simp only [if_true]
      omega
theorem fb_ct_sub {p q : Nat → Bool} : ∀ {n : Nat}, (∀ k, k < n → p k = true → q k = true) → fb_ct p n ≤ fb_ct q n
  | 0, _ => Nat.le_refl _
  | n + 1, h => by
    have h1 := fb_ct_sub (n := n) (p := p) (q := q) (fun k hk => h k (by omega))
    have h2 := h n (by omega)
    rw [fb_ct_succ, fb_ct_succ]
    cases hp : p n <;> cases hq : q n <;> simp_all <;> omega
theorem fb_ct_or {p q : Nat → Bool} : ∀ {n : Nat}, (∀ k, k < n → ¬ (p k = true ∧ q k = true)) → fb_ct (fun k => p k || q k) n = fb_ct p n + fb_ct q n
  | 0, _ => rfl
  | n + 1, h => by
    have h1 := fb_ct_or (n := n) (p := p) (q := q) (fun k hk => h k (by omega))
    have h2 := h n (by omega)
    rw [fb_ct_succ, fb_ct_succ, fb_ct_succ, h1]
    cases hp : p n <;> cases hq : q n <;> simp_all <;> omega
theorem fb_ct_not (p : Nat → Bool) : ∀ n, fb_ct p n + fb_ct (fun k => !p k) n = n
  | 0 => rfl
  | n + 1 => by
    have h := fb_ct_not p n
    rw [fb_ct_succ, fb_ct_succ]
    cases p n <;> simp <;> omega
theorem fb_ct_split (p : Nat → Bool) (m : Nat) : ∀ n, fb_ct p (m + n) = fb_ct p m + fb_ct (fun k => p (m + k)) n
  | 0 => rfl
  | n + 1 => by
    have h := fb_ct_split p m n
    show fb_ct p (m + n + 1) = _
    rw [fb_ct_succ, fb_ct_succ, h, Nat.add_assoc]
theorem fb_ct_zero {p : Nat → Bool} : ∀ {n : Nat}, fb_ct p n = 0 ↔ ∀ k, k < n → p k = false
  | 0 => ⟨fun _ k hk => absurd hk (Nat.not_lt_zero k), fun _ => rfl⟩
  | n + 1 => by
    have h := fb_ct_zero (p := p) (n := n)
    rw [fb_ct_succ]
    constructor
    · intro e k hk
      have e1 : fb_ct p n = 0 := by omega
      rcases Nat.lt_or_ge k n with q | q
      · exact h.mp e1 k q
      · have ek : k = n := by omega
        subst ek
        cases hp : p k
        · rfl
        · simp [hp] at e
    · intro a
      rw [h.mpr (fun k hk => a k (by omega)), a n (by omega)]
      rfl
theorem fb_ct_pos {p : Nat → Bool} {n : Nat} : 0 < fb_ct p n ↔ ∃ k, k < n ∧ p k = true := by
  constructor
  · intro h
    refine Classical.byContradiction fun hx => ?_
    have := fb_ct_zero.mpr (fun k hk => by
      cases hp : p k
      · rfl
      · exact absurd ⟨k, hk, hp⟩ hx : ∀ k, k < n → p k = false)
    omega
  · rintro ⟨k, hk, hp⟩
    rcases Nat.eq_zero_or_pos (fb_ct p n) with e | e
    · have := fb_ct_zero.mp e k hk
      rw [this] at hp
      cases hp
    · exact e
theorem fb_ct_all {p : Nat → Bool} {n : Nat} : fb_ct p n = n ↔ ∀ k, k < n → p k = true := by
  have h := fb_ct_not p n
  constructor
  · intro e k hk
    have z : fb_ct (fun k => !p k) n = 0 := by omega
    have := fb_ct_zero.mp z k hk
    cases hp : p k
    · simp [hp] at this
    · rfl
  · intro a
    have z : fb_ct (fun k => !p k) n = 0 := fb_ct_zero.mpr (fun k hk => by simp [a k hk])
    omega
/-- the k-th place with the property -/
theorem fb_ct_kth {p : Nat → Bool} {k : Nat} : ∀ {n : Nat}, k < fb_ct p n → ∃ i, i < n ∧ p i = true ∧ fb_ct p i = k
  | 0, h => absurd h (Nat.not_lt_zero k)
  | n + 1, h => by
    rcases Nat.lt_or_ge k (fb_ct p n) with q | q
    · obtain ⟨i, h1, h2⟩ := fb_ct_kth q
      exact ⟨i, by omega, h2⟩
    · rw [fb_ct_succ] at h
      cases hp : p n
      · simp [hp] at h; omega
      · simp [hp] at h
        exact ⟨n, by omega, hp, by omega⟩
theorem fb_ct_kth_one {p : Nat → Bool} {i j : Nat} (hi : p i = true) (hj : p j = true) (e : fb_ct p i = fb_ct p j) : i = j := by
  have key : ∀ a b : Nat, a < b → p a = true → fb_ct p a < fb_ct p b := by
    intro a b hab ha
    have h := fb_ct_mono p (show a + 1 ≤ b from hab)
    rw [fb_ct_succ, ha] at h
    simp at h
    omega
  rcases Nat.lt_trichotomy i j with q | q | q
  · have := key i j q hi; omega
  · exact q
  · have := key j i q hj; omega
/-! ===== sums over a range: one place changed, parts, bounds ===== -/
/-! how many bits a long has, as Long.bitCount finds it -/
def qM5 : Nat → Nat | 0 => 0 | k + 1 => 256 * qM5 k + 85
def qM3 : Nat → Nat | 0 => 0 | k + 1 => 256 * qM3 k + 51
def qMF : Nat → Nat | 0 => 0 | k + 1 => 256 * qMF k + 15
def q1 (m n : Nat) : Nat := n - (n / 2 &&& m)
def q2 (m y : Nat) : Nat := (y &&& m) + (y / 4 &&& m)
def q3 (m z : Nat) : Nat := (z + z / 16) &&& m
def qG (k n : Nat) : Nat := q3 (qMF k) (q2 (qM3 k) (q1 (qM5 k) n))
def qpc (l : Nat) : Nat := q3 15 (q2 51 (q1 85 l))
theorem q_and (a b m d : Nat) (hb : b < 256) (hd : d < 256) : (256 * a + b) &&& (256 * m + d) = 256 * (a &&& m) + (b &&& d) := by
  apply Nat.eq_of_testBit_eq
  intro i
  have hbd : b &&& d < 2 ^ 8 := Nat.and_lt_two_pow _ hd
  rw [Nat.testBit_and, show 256 = 2 ^ 8 from rfl, Nat.testBit_two_pow_mul_add _ (by omega), Nat.testBit_two_pow_mul_add _ (by omega), Nat.testBit_two_pow_mul_add _ hbd]
  split
  · rw [Nat.testBit_and]
  · rw [Nat.testBit_and]
theorem q_le (a b : Nat) : a &&& b ≤ a := Nat.and_le_left
theorem q1_s (m h l : Nat) (hl : l < 256) : q1 (256 * m + 85) (256 * h + l) = 256 * q1 m h + q1 85 l := by
  unfold q1
  have e : (256 * h + l) / 2 = 256 * (h / 2) + (128 * (h % 2) + l / 2) := by omega
  have e2 : (128 * (h % 2) + l / 2) &&& 85 = l / 2 &&& 85 := by
    have hm : h % 2 < 2 := Nat.mod_lt _ (by decide)
    generalize h % 2 = x at hm
    exact (by decide +kernel : ∀ x, x < 2 → ∀ l, l < 256 → (128 * x + l / 2) &&& 85 = l / 2 &&& 85) x hm l hl
  rw [e, q_and _ _ _ _ (by omega) (by decide), e2]
  have h1 : h / 2 &&& m ≤ h / 2 := q_le _ _
  have h2 : l / 2 &&& 85 ≤ l / 2 := q_le _ _
  omega
theorem q1_lt (l : Nat) (h : l < 256) : q1 85 l < 256 := by unfold q1; omega
theorem q2_s (m h l : Nat) (hl : l < 256) : q2 (256 * m + 51) (256 * h + l) = 256 * q2 m h + q2 51 l := by
  unfold q2
  have e : (256 * h + l) / 4 = 256 * (h / 4) + (64 * (h % 4) + l / 4) := by omega
  have e2 : (64 * (h % 4) + l / 4) &&& 51 = l / 4 &&& 51 := by
    have hm : h % 4 < 4 := Nat.mod_lt _ (by decide)
    generalize h % 4 = x at hm
    exact (by decide +kernel : ∀ x, x < 4 → ∀ l, l < 256 → (64 * x + l / 4) &&& 51 = l / 4 &&& 51) x hm l hl
  rw [e, q_and _ _ _ _ (by omega) (by decide), q_and _ _ _ _ (by omega) (by decide), e2]
  omega
theorem q3_s (m h l : Nat) (hl : l ≤ 102) (h4 : h % 16 ≤ 4) : q3 (256 * m + 15) (256 * h + l) = 256 * q3 m h + q3 15 l := by
  unfold q3
  have e : 256 * h + l + (256 * h + l) / 16 = 256 * (h + h / 16) + (16 * (h % 16) + (l + l / 16)) := by omega
  have e2 : (16 * (h % 16) + (l + l / 16)) &&& 15 = (l + l / 16) &&& 15 := by
    generalize h % 16 = x at h4
    exact (by decide +kernel : ∀ x, x < 5 → ∀ l, l < 103 → (16 * x + (l + l / 16)) &&& 15 = (l + l / 16) &&& 15) x (by omega) l (by omega)
  rw [e, q_and _ _ _ _ (by omega) (by decide), e2]
theorem q21 : ∀ l, l < 256 → q2 51 (q1 85 l) ≤ 102 ∧ q2 51 (q1 85 l) % 16 ≤ 4 := by decide +kernel
theorem qpc_le : ∀ l, l < 256 → qpc l ≤ 8 := by decide +kernel
theorem qpc_ct : ∀ l, l < 256 → qpc l = fb_ct (fun i => l.testBit i) 8 := by decide +kernel
theorem q_low (k h : Nat) : q2 (qM3 k) (q1 (qM5 k) h) % 16 ≤ 4 := by
  cases k with
  | zero => unfold q2 qM3; simp
  | succ k =>
    have e : h = 256 * (h / 256) + h % 256 := by omega
    have hm : h % 256 < 256 := Nat.mod_lt _ (by decide)
    rw [e]
    show q2 (256 * qM3 k + 51) (q1 (256 * qM5 k + 85) (256 * (h / 256) + h % 256)) % 16 ≤ 4
    rw [q1_s _ _ _ hm, q2_s _ _ _ (q1_lt _ hm)]
    have := (q21 _ hm).2
    omega
theorem qG_s (k h l : Nat) (hl : l < 256) : qG (k + 1) (256 * h + l) = 256 * qG k h + qpc l := by
  unfold qG
  show q3 (256 * qMF k + 15) (q2 (256 * qM3 k + 51) (q1 (256 * qM5 k + 85) (256 * h + l))) = _
  rw [q1_s _ _ _ hl, q2_s _ _ _ (q1_lt _ hl), q3_s _ _ _ (q21 _ hl).1 (q_low k h)]
  rfl
theorem qG_0 (n : Nat) : qG 0 n = 0 := by unfold qG q3 qMF; simp
theorem q_by (n j i : Nat) (hi : i < 8) : (n / 256 ^ j % 256).testBit i = n.testBit (8 * j + i) := by
  rw [show (256 : Nat) = 2 ^ 8 from rfl, Nat.testBit_mod_two_pow, ← Nat.pow_mul, Nat.testBit_div_two_pow]
  simp [hi, Nat.add_comm]
theorem qG_8 (n : Nat) (h : n < 2 ^ 64) : ∃ c0 c1 c2 c3 c4 c5 c6 c7 : Nat, c0 ≤ 8 ∧ c1 ≤ 8 ∧ c2 ≤ 8 ∧ c3 ≤ 8 ∧ c4 ≤ 8 ∧ c5 ≤ 8 ∧ c6 ≤ 8 ∧ c7 ≤ 8 ∧ qG 8 n = c0 + 256 * (c1 + 256 * (c2 + 256 * (c3 + 256 * (c4 + 256 * (c5 + 256 * (c6 + 256 * c7)))))) ∧ c0 + c1 + c2 + c3 + c4 + c5 + c6 + c7 = fb_ct (fun i => n.testBit i) 64 := by
  refine ⟨qpc (n % 256), qpc (n / 256 % 256), qpc (n / 256 ^ 2 % 256), qpc (n / 256 ^ 3 % 256), qpc (n / 256 ^ 4 % 256), qpc (n / 256 ^ 5 % 256), qpc (n / 256 ^ 6 % 256), qpc (n / 256 ^ 7 % 256), qpc_le _ (Nat.mod_lt _ (by decide)), qpc_le _ (Nat.mod_lt _ (by decide)), qpc_le _ (Nat.mod_lt _ (by decide)), qpc_le _ (Nat.mod_lt _ (by decide)), qpc_le _ (Nat.mod_lt _ (by decide)), qpc_le _ (Nat.mod_lt _ (by decide)), qpc_le _ (Nat.mod_lt _ (by decide)), qpc_le _ (Nat.mod_lt _ (by decide)), ?_, ?_⟩
  · have key : ∀ k h, qG (k + 1) h = 256 * qG k (h / 256) + qpc (h % 256) := by
      intro k h
      have e : h = 256 * (h / 256) + h % 256 := by omega
      have := qG_s k (h / 256) (h % 256) (Nat.mod_lt _ (by decide))
      rw [← e] at this
      exact this
    have dd : ∀ j, n / 256 ^ j / 256 = n / 256 ^ (j + 1) := fun j => by rw [Nat.div_div_eq_div_mul, Nat.pow_succ]
    rw [key 7, key 6, key 5, key 4, key 3, key 2, key 1, key 0, qG_0]
    have d1 : n / 256 = n / 256 ^ 1 := by rw [Nat.pow_one]
    rw [d1, dd 1, dd 2, dd 3, dd 4, dd 5, dd 6]
    simp only [Nat.reduceAdd]
    omega
  · have hb : ∀ j, qpc (n / 256 ^ j % 256) = fb_ct (fun i => n.testBit (8 * j + i)) 8 := by
      intro j
      rw [qpc_ct _ (Nat.mod_lt _ (by decide))]
      exact fb_ct_cong (fun i hi => q_by n j i hi)
    have h0 := hb 0
    have h1 := hb 1
    rw [Nat.pow_zero, Nat.div_one] at h0
    rw [Nat.pow_one] at h1
    rw [h0, h1, hb 2, hb 3, hb 4, hb 5, hb 6, hb 7]
    have s := fb_ct_split (fun i => n.testBit i)
    have s1 := s 8 56
    have s2 := s 16 48
    have s3 := s 24 40
    have a : ∀ m, fb_ct (fun i => n.testBit i) (m + 8) = fb_ct (fun i => n.testBit i) m + fb_ct (fun i => n.testBit (m + i)) 8 := fun m => s m 8
    have a0 := a 0
    have a1 := a 8
    have a2 := a 16
    have a3 := a 24
    have a4 := a 32
    have a5 := a 40
    have a6 := a 48
    have a7 := a 56
    have z : fb_ct (fun i => n.testBit i) 0 = 0 := rfl
    simp only [Nat.zero_add, Nat.reduceAdd, Nat.reduceMul] at *
    omega
theorem wq_shr {n k : Nat} (hn : n < 2 ^ 64) (hk : k < 64) : kShr (lN n) (nI k) = lN (n / 2 ^ k) := by
  apply bq_ext
  intro i hi
  rw [bq_shr _ hk, bq_lN hn, bq_lN (Nat.lt_of_le_of_lt (Nat.div_le_self _ _) hn), Nat.testBit_div_two_pow, Nat.add_comm]
theorem wq_and {a b : Nat} (ha : a < 2 ^ 64) (hb : b < 2 ^ 64) : lN a &&& lN b = lN (a &&& b) := by
  apply bq_ext
  intro i hi
  rw [bq_and, bq_lN ha, bq_lN hb, bq_lN (Nat.and_lt_two_pow _ hb), Nat.testBit_and]
theorem wq_of (x : Int64) : x = lN x.toBitVec.toNat := wb_inj (by rw [wb_tb]; simp)
theorem q_a1 {c0 T : Nat} (h : c0 ≤ 8) : (c0 + 256 * T) / 2 ^ 8 = T := by omega
theorem q_a2 {c0 c1 c2 T3 : Nat} (h0 : c0 ≤ 8) (h1 : c1 ≤ 8) (h2 : c2 ≤ 8) : ((c0 + 256 * (c1 + 256 * (c2 + 256 * T3))) + (c1 + 256 * (c2 + 256 * T3))) / 2 ^ 16 = (c2 + 256 * T3) + T3 := by
  have e : (c0 + 256 * (c1 + 256 * (c2 + 256 * T3))) + (c1 + 256 * (c2 + 256 * T3)) = ((c0 + c1) + 256 * (c1 + c2)) + 65536 * ((c2 + 256 * T3) + T3) := by omega
  rw [e]
  generalize (c2 + 256 * T3) + T3 = U
  omega
theorem q_a3 {L U : Nat} (h : L < 4294967296) : (L + 4294967296 * U) / 2 ^ 32 = U := by omega
theorem q_a4 {S V : Nat} (h : S ≤ 64) : (S + 128 * V) % 2 ^ 32 % 2 ^ 7 = S := by omega
theorem q_sum {c0 c1 c2 c3 c4 c5 c6 c7 X : Nat} (b0 : c0 ≤ 8) (b1 : c1 ≤ 8) (b2 : c2 ≤ 8) (b3 : c3 ≤ 8) (b4 : c4 ≤ 8) (b5 : c5 ≤ 8) (b6 : c6 ≤ 8) (b7 : c7 ≤ 8) (hX : X = c0 + 256 * (c1 + 256 * (c2 + 256 * (c3 + 256 * (c4 + 256 * (c5 + 256 * (c6 + 256 * c7))))))) : True ∧ (X < 2 ^ 60 ∧ X + X / 2 ^ 8 < 2 ^ 61 ∧ (X + X / 2 ^ 8) + (X + X / 2 ^ 8) / 2 ^ 16 < 2 ^ 62) ∧ (((X + X / 2 ^ 8) + (X + X / 2 ^ 8) / 2 ^ 16) + ((X + X / 2 ^ 8) + (X + X / 2 ^ 8) / 2 ^ 16) / 2 ^ 32) % 2 ^ 32 % 2 ^ 7 = c0 + c1 + c2 + c3 + c4 + c5 + c6 + c7 := by
  refine ⟨trivial, ?_, ?_⟩
  · have hX1 : X < 2 ^ 60 := by rw [hX]; omega
    clear hX
    generalize hY : X + X / 2 ^ 8 = Y
    have : X / 2 ^ 8 ≤ X := Nat.div_le_self _ _
    have : Y / 2 ^ 16 ≤ Y := Nat.div_le_self _ _
    generalize X / 2 ^ 8 = x1 at *
    generalize Y / 2 ^ 16 = y1 at *
    omega
  · have e1 : X / 2 ^ 8 = c1 + 256 * (c2 + 256 * (c3 + 256 * (c4 + 256 * (c5 + 256 * (c6 + 256 * c7))))) := by rw [hX]; exact q_a1 b0
    rw [e1, hX, q_a2 b0 b1 b2]
    have e3 : c0 + 256 * (c1 + 256 * (c2 + 256 * (c3 + 256 * (c4 + 256 * (c5 + 256 * (c6 + 256 * c7)))))) + (c1 + 256 * (c2 + 256 * (c3 + 256 * (c4 + 256 * (c5 + 256 * (c6 + 256 * c7)))))) + (c2 + 256 * (c3 + 256 * (c4 + 256 * (c5 + 256 * (c6 + 256 * c7)))) + (c3 + 256 * (c4 + 256 * (c5 + 256 * (c6 + 256 * c7))))) = ((c0 + c1 + c2 + c3) + 256 * (c1 + c2 + c3 + c4) + 65536 * (c2 + c3 + c4 + c5) + 16777216 * (c3 + c4 + c5 + c6)) + 4294967296 * ((c4 + c5 + c6 + c7) + 256 * ((c5 + c6 + c7) + 256 * ((c6 + c7) + 256 * c7))) := by
      clear e1 hX
      omega
    rw [e3, q_a3 (by clear e3 e1 hX; omega)]
    have e4 : ((c0 + c1 + c2 + c3) + 256 * (c1 + c2 + c3 + c4) + 65536 * (c2 + c3 + c4 + c5) + 16777216 * (c3 + c4 + c5 + c6)) + 4294967296 * ((c4 + c5 + c6 + c7) + 256 * ((c5 + c6 + c7) + 256 * ((c6 + c7) + 256 * c7))) + ((c4 + c5 + c6 + c7) + 256 * ((c5 + c6 + c7) + 256 * ((c6 + c7) + 256 * c7))) = (c0 + c1 + c2 + c3 + c4 + c5 + c6 + c7) + 128 * (2 * ((c1 + c2 + c3 + c4) + 256 * (c2 + c3 + c4 + c5) + 65536 * (c3 + c4 + c5 + c6)) + 33554432 * ((c4 + c5 + c6 + c7) + 256 * ((c5 + c6 + c7) + 256 * ((c6 + c7) + 256 * c7))) + 2 * ((c5 + c6 + c7) + 256 * ((c6 + c7) + 256 * c7))) := by
      clear e3 e1 hX
      omega
    rw [e4, q_a4 (by clear e4 e3 e1 hX; omega)]
/-- the answer of Long.bitCount -/
def pcn (x : Int64) : Nat := fb_ct (bq x) 64
theorem jBC_eq (x : Int64) : jBC x = nI (pcn x) := by
  have hx := wq_of x
  have hn : x.toBitVec.toNat < 2 ^ 64 := x.toBitVec.isLt
  have hp : pcn x = fb_ct (fun i => x.toBitVec.toNat.testBit i) 64 := rfl
  rw [hp]
  generalize x.toBitVec.toNat = n at hx hn
  subst hx
  obtain ⟨c0, c1, c2, c3, c4, c5, c6, c7, b0, b1, b2, b3, b4, b5, b6, b7, hG, hs⟩ := qG_8 n hn
  rw [← hs]
  have m5 : (6148914691236517205 : Int64) = lN (qM5 8) := by decide +kernel
  have m3 : (3689348814741910323 : Int64) = lN (qM3 8) := by decide +kernel
  have mF : (1085102592571150095 : Int64) = lN (qMF 8) := by decide +kernel
  have k5 : qM5 8 < 2 ^ 64 := by decide +kernel
  have k3 : qM3 8 < 2 ^ 62 := by decide +kernel
  have kF : qMF 8 < 2 ^ 64 := by decide +kernel
  have e1 : lN n - (kShr (lN n) (nI 1) &&& 6148914691236517205) = lN (q1 (qM5 8) n) := by
    rw [m5, wq_shr hn (by decide), wq_and (Nat.lt_of_le_of_lt (Nat.div_le_self _ _) hn) k5, lN_sub (Nat.le_trans (q_le _ _) (Nat.div_le_self _ _))]
    rfl
  have l1 : q1 (qM5 8) n < 2 ^ 64 := Nat.lt_of_le_of_lt (Nat.sub_le _ _) hn
  have e2 : (lN (q1 (qM5 8) n) &&& 3689348814741910323) + (kShr (lN (q1 (qM5 8) n)) (nI 2) &&& 3689348814741910323) = lN (q2 (qM3 8) (q1 (qM5 8) n)) := by
    rw [m3, wq_shr l1 (by decide), wq_and l1 (by omega), wq_and (Nat.lt_of_le_of_lt (Nat.div_le_self _ _) l1) (by omega), lN_add]
    rfl
  have l2 : q2 (qM3 8) (q1 (qM5 8) n) < 2 ^ 63 := by
    unfold q2
    have a1 : q1 (qM5 8) n &&& qM3 8 ≤ qM3 8 := Nat.and_le_right
    have a2 : q1 (qM5 8) n / 4 &&& qM3 8 ≤ qM3 8 := Nat.and_le_right
    omega
  have e3 : (lN (q2 (qM3 8) (q1 (qM5 8) n)) + kShr (lN (q2 (qM3 8) (q1 (qM5 8) n))) (nI 4)) &&& 1085102592571150095 = lN (qG 8 n) := by
    rw [mF, wq_shr (by omega) (by decide), lN_add, wq_and (by omega) kF]
    rfl
  unfold jBC
  simp only [e1, e2, e3]
  rw [hG]
  generalize hX : c0 + 256 * (c1 + 256 * (c2 + 256 * (c3 + 256 * (c4 + 256 * (c5 + 256 * (c6 + 256 * c7)))))) = X
  obtain ⟨s1, s2, s3⟩ := q_sum b0 b1 b2 b3 b4 b5 b6 b7 hX.symm
  clear e1 e2 e3 l1 l2 m5 m3 mF k5 k3 kF hG hs hn b0 b1 b2 b3 b4 b5 b6 b7 hX
  obtain ⟨h1, h2, h3⟩ := s2
  rw [wq_shr (n := X) (Nat.lt_trans h1 (by decide)) (by decide), lN_add]
  rw [wq_shr (n := X + X / 2 ^ 8) (Nat.lt_trans h2 (by decide)) (by decide), lN_add]
  rw [wq_shr (n := (X + X / 2 ^ 8) + (X + X / 2 ^ 8) / 2 ^ 16) (Nat.lt_trans h3 (by decide)) (by decide), lN_add, lN_i]
  rw [pk_and _ (k := 7) (by decide)]
  congr 1
end
section
/-! the board: neighbours, and what hangs together -/
def adj (C f g : Nat) : Prop := (f / C = g / C ∧ (f % C = g % C + 1 ∨ g % C = f % C + 1)) ∨ (f % C = g % C ∧ (f / C = g / C + 1 ∨ g / C = f / C + 1)) ∨ (f / C = g / C + 1 ∧ g % C = f % C + 1) ∨ (g / C = f / C + 1 ∧ f % C = g % C + 1)
theorem adj_symm {C f g : Nat} (h : adj C f g) : adj C g f := by
  unfold adj at h ⊢
  omega
theorem six {C : Nat} (h1 : 1 ≤ C) (h2 : C ≤ 6) : C = 1 ∨ C = 2 ∨ C = 3 ∨ C = 4 ∨ C = 5 ∨ C = 6 := by omega
theorem adj_tab {C : Nat} (h1 : 1 ≤ C) (h2 : C ≤ 6) (g i : Nat) : adj C g i ↔ ((g + 1 = i ∧ g % C ≠ C - 1) ∨ (g = i + 1 ∧ g % C ≠ 0) ∨ g + C = i ∨ g = i + C ∨ (g = i + (C - 1) ∧ g % C ≠ C - 1) ∨ (g + (C - 1) = i ∧ g % C ≠ 0)) := by
  unfold adj
  rcases six h1 h2 with rfl | rfl | rfl | rfl | rfl | rfl <;> constructor <;> intro h <;> omega
theorem gBes_bits0 {R C : Nat} (hC1 : 1 ≤ C) (hC2 : C ≤ 6) (x : Int64) (i : Nat) : bq (gBes R C x) i = (((((decide (i < 64) && !decide (i < 1) && (bq x (i - 1) && bq (gEa R C ^^^ (-1)) (i - 1))) || (bq x (1 + i) && bq (gWeN C R ^^^ (-1)) (1 + i))) || ((decide (i < 64) && !decide (i < C) && bq x (i - C)) || bq x (C + i))) || ((bq x (C - 1 + i) && bq (gEa R C ^^^ (-1)) (C - 1 + i)) || (decide (i < 64) && !decide (i < C - 1) && (bq x (i - (C - 1)) && bq (gWeN C R ^^^ (-1)) (i - (C - 1)))))) && bq (gAll R C) i) := by
  unfold gBes
  simp only [bq_and, bq_or, bq_shl _ (show 1 < 64 by decide), bq_shr _ (show 1 < 64 by decide), bq_shl _ (show C < 64 by omega), bq_shr _ (show C < 64 by omega), bq_shl _ (show C - 1 < 64 by omega), bq_shr _ (show C - 1 < 64 by omega)]
theorem rc_lt36 {R C : Nat} (hR2 : R ≤ 6) (hC2 : C ≤ 6) : R * C ≤ 36 := Nat.mul_le_mul hR2 hC2
theorem gBes_bits {R C : Nat} (hR1 : 1 ≤ R) (hR2 : R ≤ 6) (hC1 : 1 ≤ C) (hC2 : C ≤ 6) {x : Int64} (hx : ∀ i, bq x i = true → i < R * C) (i : Nat) : bq (gBes R C x) i = true ↔ i < R * C ∧ ∃ g, bq x g = true ∧ adj C g i := by
  have hRC := rc_lt36 hR2 hC2
  rw [gBes_bits0 hC1 hC2]
  have hE : ∀ j, j < R * C → (bq (gEa R C ^^^ (-1)) j = true ↔ j % C ≠ C - 1) := by
    intro j hj
    rw [bq_not _ (by omega), gEa_bits R (by omega) C (by omega) hC1 j (by omega)]
    simp [hj]
  have hW : ∀ j, j < R * C → (bq (gWeN C R ^^^ (-1)) j = true ↔ j % C ≠ 0) := by
    intro j hj
    rw [bq_not _ (by omega), gWe_bits R (by omega) C (by omega) hC1 j (by omega)]
    simp [hj]
  have hAl : bq (gAll R C) i = true ↔ i < R * C := by
    rcases Nat.lt_or_ge i 64 with h | h
    · rw [gAll_bits R (by omega) C (by omega) i h]; simp
    · rw [bq_big h]; constructor
      · intro h2; cases h2
      · intro h2; omega
  simp only [Bool.and_eq_true, Bool.or_eq_true, hAl, decide_eq_true_eq, Bool.not_eq_true', decide_eq_false_iff_not]
  constructor
  · rintro ⟨h, hi⟩
    refine ⟨hi, ?_⟩
    rcases h with ((⟨⟨_, h1⟩, h2, h3⟩ | ⟨h2, h3⟩) | (⟨⟨_, h1⟩, h2⟩ | h2)) | (⟨h2, h3⟩ | ⟨⟨_, h1⟩, h2, h3⟩)
    · refine ⟨i - 1, h2, (adj_tab hC1 hC2 _ _).mpr (Or.inl ⟨by omega, (hE _ (hx _ h2)).mp h3⟩)⟩
    · refine ⟨1 + i, h2, (adj_tab hC1 hC2 _ _).mpr (Or.inr (Or.inl ⟨by omega, (hW _ (hx _ h2)).mp h3⟩))⟩
    · refine ⟨i - C, h2, (adj_tab hC1 hC2 _ _).mpr (Or.inr (Or.inr (Or.inl (by omega))))⟩
    · refine ⟨C + i, h2, (adj_tab hC1 hC2 _ _).mpr (Or.inr (Or.inr (Or.inr (Or.inl (by omega)))))⟩
    · refine ⟨C - 1 + i, h2, (adj_tab hC1 hC2 _ _).mpr (Or.inr (Or.inr (Or.inr (Or.inr (Or.inl ⟨by omega, (hE _ (hx _ h2)).mp h3⟩)))))⟩
    · refine ⟨i - (C - 1), h2, (adj_tab hC1 hC2 _ _).mpr (Or.inr (Or.inr (Or.inr (Or.inr (Or.inr ⟨by omega, (hW _ (hx _ h2)).mp h3⟩)))))⟩
  · rintro ⟨hi, g, hg, ha⟩
    refine ⟨?_, hi⟩
    have hgl := hx _ hg
    rcases (adj_tab hC1 hC2 _ _).mp ha with ⟨h1, h2⟩ | ⟨h1, h2⟩ | h1 | h1 | ⟨h1, h2⟩ | ⟨h1, h2⟩
    · rw [show i - 1 = g by omega]
      exact Or.inl (Or.inl (Or.inl ⟨⟨by omega, by omega⟩, hg, (hE _ hgl).mpr h2⟩))
    · rw [show 1 + i = g by omega]
      exact Or.inl (Or.inl (Or.inr ⟨hg, (hW _ hgl).mpr h2⟩))
    · rw [show i - C = g by omega]
      exact Or.inl (Or.inr (Or.inl ⟨⟨by omega, by omega⟩, hg⟩))
    · rw [show C + i = g by omega]
      exact Or.inl (Or.inr (Or.inr hg))
    · rw [show C - 1 + i = g by omega]
      exact Or.inr (Or.inl ⟨hg, (hE _ hgl).mpr h2⟩)
    · rw [show i - (C - 1) = g by omega]
      exact Or.inr (Or.inr ⟨⟨by omega, by omega⟩, hg, (hW _ hgl).mpr h2⟩)
/-- what is reached in n steps, in the end -/
def rc (E : Nat → Nat → Prop) (P S : Nat → Prop) : Nat → Nat → Prop
  | 0, f => S f
  | n + 1, f => rc E P S n f ∨ (P f ∧ ∃ g, rc E P S n g ∧ E g f)
def RE (E : Nat → Nat → Prop) (P S : Nat → Prop) (f : Nat) : Prop := ∃ n, rc E P S n f
theorem rc_up {E : Nat → Nat → Prop} {P S : Nat → Prop} {n m f : Nat} (h : n ≤ m) (hr : rc E P S n f) : rc E P S m f := by
  induction m with
  | zero => rw [show n = 0 by omega] at hr; exact hr
  | succ m ih =>
    rcases Nat.eq_or_lt_of_le h with e | e
    · rw [← e]; exact hr
    · exact Or.inl (ih (by omega))
theorem RE_base {E : Nat → Nat → Prop} {P S : Nat → Prop} {f : Nat} (h : S f) : RE E P S f := ⟨0, h⟩
theorem RE_step {E : Nat → Nat → Prop} {P S : Nat → Prop} {g f : Nat} (h : RE E P S g) (e : E g f) (p : P f) : RE E P S f := by
  obtain ⟨n, h⟩ := h
  exact ⟨n + 1, Or.inr ⟨p, g, h, e⟩⟩
theorem RE_ind {E : Nat → Nat → Prop} {P S : Nat → Prop} (T : Nat → Prop) (hb : ∀ f, S f → T f) (hs : ∀ g f, T g → E g f → P f → T f) {f : Nat} (h : RE E P S f) : T f := by
  obtain ⟨n, h⟩ := h
  induction n generalizing f with
  | zero => exact hb f h
  | succ n ih =>
    rcases h with h | ⟨p, g, h, e⟩
    · exact ih h
    · exact hs g f (ih h) e p
theorem RE_fix {E : Nat → Nat → Prop} {P S : Nat → Prop} {n : Nat} (hf : ∀ f, rc E P S (n + 1) f → rc E P S n f) (f : Nat) : RE E P S f ↔ rc E P S n f := by
  refine ⟨fun h => ?_, fun h => ⟨n, h⟩⟩
  exact RE_ind (fun f => rc E P S n f) (fun f h => rc_up (Nat.zero_le _) h) (fun g f h e p => hf f (Or.inr ⟨p, g, h, e⟩)) h
theorem RE_mono {E : Nat → Nat → Prop} {P S P' S' : Nat → Prop} (hP : ∀ f, P f → P' f) (hS : ∀ f, S f → S' f) {f : Nat} (h : RE E P S f) : RE E P' S' f :=
  RE_ind (fun f => RE E P' S' f) (fun f h => RE_base (hS f h)) (fun g f h e p => RE_step h e (hP f p)) h
theorem RE_cong {E : Nat → Nat → Prop} {P S P' S' : Nat → Prop} (hP : ∀ f, P f ↔ P' f) (hS : ∀ f, S f ↔ S' f) {f : Nat} : RE E P S f ↔ RE E P' S' f :=
  ⟨RE_mono (fun f => (hP f).mp) (fun f => (hS f).mp), RE_mono (fun f => (hP f).mpr) (fun f => (hS f).mpr)⟩
theorem gStep_bits {R C : Nat} (hR1 : 1 ≤ R) (hR2 : R ≤ 6) (hC1 : 1 ≤ C) (hC2 : C ≤ 6) {w a : Int64} (ha : ∀ i, bq a i = true → i < R * C) (hw : ∀ i, bq w i = true → i < R * C) (i : Nat) : bq (gStep R C w a) i = true ↔ (bq a i = true ∨ ∃ g, bq a g = true ∧ adj C g i) ∧ bq w i = true := by
  unfold gStep
  rw [bq_and, bq_or, Bool.and_eq_true, Bool.or_eq_true, gBes_bits hR1 hR2 hC1 hC2 ha]
  constructor
  · rintro ⟨h | ⟨_, h⟩, h2⟩
    · exact ⟨Or.inl h, h2⟩
    · exact ⟨Or.inr h, h2⟩
  · rintro ⟨h | h, h2⟩
    · exact ⟨Or.inl h, h2⟩
    · exact ⟨Or.inr ⟨hw _ h2, h⟩, h2⟩
theorem gIt_s (R C : Nat) (w : Int64) : ∀ (n : Nat) (a : Int64), gIt R C w (n + 1) a = gStep R C w (gIt R C w n a)
  | 0, _ => rfl
  | n + 1, a => by
    show gIt R C w (n + 1) (gStep R C w a) = gStep R C w (gIt R C w n (gStep R C w a))
    exact gIt_s R C w n (gStep R C w a)
theorem gStep_in {R C : Nat} {w a : Int64} {i : Nat} (h : bq (gStep R C w a) i = true) : bq w i = true := by
  unfold gStep at h
  rw [bq_and, Bool.and_eq_true] at h
  exact h.2
theorem gIt_in {R C : Nat} {w : Int64} (n : Nat) {a : Int64} (ha : ∀ i, bq a i = true → bq w i = true) (i : Nat) (h : bq (gIt R C w n a) i = true) : bq w i = true := by
  cases n with
  | zero => exact ha i h
  | succ n => rw [gIt_s] at h; exact gStep_in h
theorem gIt_bits {R C : Nat} (hR1 : 1 ≤ R) (hR2 : R ≤ 6) (hC1 : 1 ≤ C) (hC2 : C ≤ 6) {w a : Int64} (ha : ∀ i, bq a i = true → bq w i = true) (hw : ∀ i, bq w i = true → i < R * C) (n i : Nat) : bq (gIt R C w n a) i = true ↔ rc (adj C) (fun f => bq w f = true) (fun f => bq a f = true) n i := by
  induction n generalizing i with
  | zero => exact Iff.rfl
  | succ n ih =>
    rw [gIt_s, gStep_bits hR1 hR2 hC1 hC2 (fun i h => hw i (gIt_in n ha i h)) hw]
    constructor
    · rintro ⟨h | ⟨g, h, e⟩, h2⟩
      · exact Or.inl ((ih i).mp h)
      · exact Or.inr ⟨h2, g, (ih g).mp h, e⟩
    · rintro (h | ⟨p, g, h, e⟩)
      · exact ⟨Or.inl ((ih i).mpr h), gIt_in n ha i ((ih i).mpr h)⟩
      · exact ⟨Or.inr ⟨g, (ih g).mpr h, e⟩, p⟩
theorem pcn_lt {x y : Int64} (h : ∀ i, bq x i = true → bq y i = true) (hne : x ≠ y) : pcn x < pcn y := by
  have h1 : ∃ i, i < 64 ∧ bq x i = false ∧ bq y i = true := by
    apply Classical.byContradiction
    intro hh
    apply hne
    apply bq_ext
    intro i hi
    cases hx : bq x i with
    | true => rw [h i hx]
    | false =>
      cases hy : bq y i with
      | false => rfl
      | true => exact absurd ⟨i, hi, hx, hy⟩ hh
  obtain ⟨i, hi, hx, hy⟩ := h1
  have e := fb_ct_upd (bq x) true hi
  rw [hx] at e
  have l : fb_ct (fun k => if k = i then true else bq x k) 64 ≤ fb_ct (bq y) 64 := by
    apply fb_ct_sub
    intro k _ hk
    by_cases hki : k = i
    · rw [hki]; exact hy
    · rw [if_neg hki] at hk; exact h k hk
  unfold pcn
  rw [if_neg Bool.false_ne_true, if_pos rfl] at e
  omega
theorem pcn_le36 {n : Nat} {x : Int64} (hn : n ≤ 64) (h : ∀ i, bq x i = true → i < n) : pcn x ≤ n := by
  unfold pcn
  have e := fb_ct_split (bq x) n (64 - n)
  rw [show n + (64 - n) = 64 by omega] at e
  have z : fb_ct (fun k => bq x (n + k)) (64 - n) = 0 := by
    apply fb_ct_zero.mpr
    intro k _
    cases hk : bq x (n + k) with
    | false => rfl
    | true => have := h _ hk; omega
  have l := fb_ct_le (bq x) n
  omega
theorem gSp_fix {R C : Nat} (hR2 : R ≤ 6) (hC2 : C ≤ 6) {w a : Int64} (ha : ∀ i, bq a i = true → bq w i = true) (hw : ∀ i, bq w i = true → i < R * C) : gStep R C w (gIt R C w 36 a) = gIt R C w 36 a := by
  have hRC := rc_lt36 hR2 hC2
  have key : ∀ n, (∃ k, k < n ∧ gStep R C w (gIt R C w k a) = gIt R C w k a) ∨ n ≤ pcn (gIt R C w n a) := by
    intro n
    induction n with
    | zero => exact Or.inr (Nat.zero_le _)
    | succ n ih =>
      rcases ih with ⟨k, h1, h2⟩ | h
      · exact Or.inl ⟨k, by omega, h2⟩
      · by_cases hs : gStep R C w (gIt R C w n a) = gIt R C w n a
        · exact Or.inl ⟨n, by omega, hs⟩
        · refine Or.inr ?_
          rw [gIt_s]
          have := pcn_lt (x := gIt R C w n a) (y := gStep R C w (gIt R C w n a)) (fun i hi => by
            unfold gStep
            rw [bq_and, bq_or, hi, gIt_in n ha i hi]; rfl) (fun e => hs e.symm)
          omega
  have fixed : ∀ k m, gStep R C w (gIt R C w k a) = gIt R C w k a → gIt R C w (k + m) a = gIt R C w k a := by
    intro k m hk
    induction m with
    | zero => rfl
    | succ m ih => rw [← Nat.add_assoc, gIt_s, ih, hk]
  rcases key 37 with ⟨k, h1, h2⟩ | h
  · have := fixed k (36 - k) h2
    rw [show k + (36 - k) = 36 by omega] at this
    rw [this, h2]
  · have := pcn_le36 (n := 36) (x := gIt R C w 37 a) (by decide) (fun i hi => by have := hw i (gIt_in 37 ha i hi); omega)
    omega
/-- the spreading of seeds inside a set is all that hangs together with one of them -/
theorem gSp_bits {R C : Nat} (hR1 : 1 ≤ R) (hR2 : R ≤ 6) (hC1 : 1 ≤ C) (hC2 : C ≤ 6) {x w : Int64} (hw : ∀ i, bq w i = true → i < R * C) (i : Nat) : bq (gSp R C x w) i = true ↔ RE (adj C) (fun f => bq w f = true) (fun f => bq x f = true ∧ bq w f = true) i := by
  unfold gSp
  have ha : ∀ i, bq (x &&& w) i = true → bq w i = true := fun i h => by rw [bq_and, Bool.and_eq_true] at h; exact h.2
  have hf := gSp_fix hR2 hC2 ha hw
  have hb := gIt_bits hR1 hR2 hC1 hC2 ha hw
  have e : RE (adj C) (fun f => bq w f = true) (fun f => bq x f = true ∧ bq w f = true) i ↔ RE (adj C) (fun f => bq w f = true) (fun f => bq (x &&& w) f = true) i := RE_cong (fun _ => Iff.rfl) (fun f => by rw [bq_and, Bool.and_eq_true])
  rw [e, RE_fix (n := 36), hb]
  intro f h
  rw [← hb] at h ⊢
  rw [gIt_s, hf] at h
  exact h
end
section
/-! positions as numbers of base 3: digit k is 0 (empty), 1 (the maker's), 2 (the other's) -/
def dg (c k : Nat) : Nat := c / 3 ^ k % 3
theorem dg_lt (c k : Nat) : dg c k < 3 := Nat.mod_lt _ (by decide)
theorem dg_lo {c a k j : Nat} (h : j < k) : dg (c + a * 3 ^ k) j = dg c j := by
  unfold dg
  have e : a * 3 ^ k = 3 ^ j * (a * 3 ^ (k - j)) := by
    rw [Nat.mul_left_comm, ← Nat.pow_add, show j + (k - j) = k by omega]
  have e2 : a * 3 ^ (k - j) = 3 * (a * 3 ^ (k - j - 1)) := by
    rw [Nat.mul_left_comm, ← Nat.pow_succ', show (k - j - 1).succ = k - j by omega]
  rw [e, Nat.add_mul_div_left _ _ (Nat.pow_pos (by decide)), e2]
  omega
theorem dg_at {c a k : Nat} (h0 : dg c k = 0) (ha : a < 3) : dg (c + a * 3 ^ k) k = a := by
  unfold dg at h0 ⊢
  rw [Nat.add_mul_div_right _ _ (Nat.pow_pos (by decide))]
  omega
theorem dg_div {c a k : Nat} (h0 : dg c k = 0) (ha : a < 3) : (c + a * 3 ^ k) / 3 ^ (k + 1) = c / 3 ^ (k + 1) := by
  unfold dg at h0
  rw [Nat.pow_succ, ← Nat.div_div_eq_div_mul, ← Nat.div_div_eq_div_mul, Nat.add_mul_div_right _ _ (Nat.pow_pos (by decide))]
  omega
theorem dg_hi {c a k j : Nat} (h0 : dg c k = 0) (ha : a < 3) (h : k < j) : dg (c + a * 3 ^ k) j = dg c j := by
  unfold dg
  have e : ∀ x, x / 3 ^ j = x / 3 ^ (k + 1) / 3 ^ (j - (k + 1)) := by
    intro x
    rw [Nat.div_div_eq_div_mul, ← Nat.pow_add, show k + 1 + (j - (k + 1)) = j by omega]
  rw [e, e c, dg_div h0 ha]
theorem dg_put {c a k : Nat} (h0 : dg c k = 0) (ha : a < 3) (j : Nat) : dg (c + a * 3 ^ k) j = if j = k then a else dg c j := by
  rcases Nat.lt_trichotomy j k with h | h | h
  · rw [dg_lo h, if_neg (by omega)]
  · rw [h, dg_at h0 ha, if_pos rfl]
  · rw [dg_hi h0 ha h, if_neg (by omega)]
theorem dg_bound {c a k n : Nat} (hc : c < 3 ^ n) (h0 : dg c k = 0) (ha : a < 3) (hk : k < n) : c + a * 3 ^ k < 3 ^ n := by
  have e : ∀ x, x / 3 ^ n = x / 3 ^ (k + 1) / 3 ^ (n - (k + 1)) := by
    intro x
    rw [Nat.div_div_eq_div_mul, ← Nat.pow_add, show k + 1 + (n - (k + 1)) = n by omega]
  have h1 : (c + a * 3 ^ k) / 3 ^ n = 0 := by
    rw [e, dg_div h0 ha, ← e]
    exact Nat.div_eq_of_lt hc
  exact (Nat.div_eq_zero_iff_lt (Nat.pow_pos (by decide))).mp h1
theorem dg_0 (k : Nat) : dg 0 k = 0 := by unfold dg; simp
/-- the mask of the digits that are d -/
def mkD (d c : Nat) : Nat → Nat | 0 => 0 | n + 1 => mkD d c n + (if dg c n = d then 2 ^ n else 0)
theorem mkD_lt (d c : Nat) : ∀ n, mkD d c n < 2 ^ n
  | 0 => by unfold mkD; decide
  | n + 1 => by
    have := mkD_lt d c n
    unfold mkD
    rw [Nat.pow_succ]
    split <;> omega
theorem mkD_bit (d c : Nat) : ∀ n k, k < n → (mkD d c n).testBit k = decide (dg c k = d)
  | 0, k, h => absurd h (Nat.not_lt_zero k)
  | n + 1, k, h => by
    have hl := mkD_lt d c n
    unfold mkD
    rcases Nat.eq_or_lt_of_le (Nat.le_of_lt_succ h) with e | e
    · subst e
      by_cases hd : dg c k = d
      · rw [if_pos hd, Nat.add_comm, Nat.testBit_two_pow_add_eq, Nat.testBit_lt_two_pow hl, decide_eq_true hd]; rfl
      · rw [if_neg hd, Nat.add_zero, Nat.testBit_lt_two_pow hl, decide_eq_false hd]
    · by_cases hd : dg c n = d
      · rw [if_pos hd, Nat.add_comm, Nat.testBit_two_pow_add_gt e]; exact mkD_bit d c n k e
      · rw [if_neg hd, Nat.add_zero]; exact mkD_bit d c n k e
theorem mkD_out {d c n k : Nat} (h : n ≤ k) : (mkD d c n).testBit k = false :=
  Nat.testBit_lt_two_pow (Nat.lt_of_lt_of_le (mkD_lt d c n) (Nat.pow_le_pow_right (by decide) h))
theorem mkD_put {d c n k : Nat} (h0 : dg c k = 0) (hd : d = 1 ∨ d = 2) (hk : k < n) : mkD d (c + d * 3 ^ k) n = mkD d c n ||| 2 ^ k := by
  apply Nat.eq_of_testBit_eq
  intro i
  rw [Nat.testBit_or, Nat.testBit_two_pow]
  rcases Nat.lt_or_ge i n with h | h
  · rw [mkD_bit _ _ _ _ h, mkD_bit _ _ _ _ h, dg_put h0 (by omega)]
    by_cases e : i = k
    · subst e; rw [if_pos rfl]; simp
    · rw [if_neg e, decide_eq_false (fun e2 : k = i => e e2.symm), Bool.or_false]
  · rw [mkD_out h, mkD_out h, decide_eq_false (by omega)]; rfl
theorem mkD_keep {d a c n k : Nat} (h0 : dg c k = 0) (ha : a < 3) (hd0 : d ≠ 0) (hda : d ≠ a) : mkD d (c + a * 3 ^ k) n = mkD d c n := by
  apply Nat.eq_of_testBit_eq
  intro i
  rcases Nat.lt_or_ge i n with h | h
  · rw [mkD_bit _ _ _ _ h, mkD_bit _ _ _ _ h, dg_put h0 ha]
    by_cases e : i = k
    · subst e; rw [if_pos rfl, h0]
      rw [decide_eq_false (fun e : a = d => hda e.symm), decide_eq_false (fun e : 0 = d => hd0 e.symm)]
    · rw [if_neg e]
  · rw [mkD_out h, mkD_out h]
/-- how many digits are 0 -/
def zs (c : Nat) : Nat → Nat | 0 => 0 | n + 1 => zs c n + (if dg c n = 0 then 1 else 0)
theorem zs_le (c : Nat) : ∀ n, zs c n ≤ n
  | 0 => Nat.le_refl _
  | n + 1 => by have := zs_le c n; unfold zs; split <;> omega
theorem zs_0 : ∀ n, zs 0 n = n
  | 0 => rfl
  | n + 1 => by unfold zs; rw [zs_0 n, if_pos (dg_0 n)]
theorem zs_out {c a k : Nat} (h0 : dg c k = 0) (ha : a < 3) : ∀ {n}, n ≤ k → zs (c + a * 3 ^ k) n = zs c n
  | 0, _ => rfl
  | n + 1, h => by unfold zs; rw [zs_out h0 ha (by omega), dg_put h0 ha, if_neg (show ¬ n = k by omega)]
theorem zs_put {c a k : Nat} (h0 : dg c k = 0) (ha : a < 3) (ha0 : a ≠ 0) : ∀ {n}, k < n → zs (c + a * 3 ^ k) n + 1 = zs c n
  | 0, h => absurd h (Nat.not_lt_zero _)
  | n + 1, h => by
    unfold zs
    rcases Nat.eq_or_lt_of_le (Nat.le_of_lt_succ h) with e | e
    · subst e
      rw [zs_out h0 ha (Nat.le_refl _), dg_put h0 ha, if_pos rfl, if_neg ha0, h0, if_pos rfl]
    · have := zs_put h0 ha ha0 e
      rw [dg_put h0 ha, if_neg (show ¬ n = k by omega)]
      omega
theorem zs_pos {c : Nat} : ∀ {n}, 0 < zs c n → ∃ k, k < n ∧ dg c k = 0
  | 0, h => absurd h (Nat.lt_irrefl _)
  | n + 1, h => by
    by_cases e : dg c n = 0
    · exact ⟨n, Nat.lt_succ_self _, e⟩
    · unfold zs at h
      rw [if_neg e, Nat.add_zero] at h
      obtain ⟨k, h1, h2⟩ := zs_pos h
      exact ⟨k, by omega, h2⟩
theorem zs_zero {c n : Nat} (h : zs c n = 0) {k : Nat} (hk : k < n) : dg c k ≠ 0 := by
  intro e
  have key : ∀ {n}, k < n → 0 < zs c n := by
    intro n
    induction n with
    | zero => intro h; exact absurd h (Nat.not_lt_zero _)
    | succ n ih =>
      intro h
      unfold zs
      rcases Nat.eq_or_lt_of_le (Nat.le_of_lt_succ h) with q | q
      · subst q; rw [if_pos e]; omega
      · have := ih q; omega
  have := key hk
  omega
def anyU (p : Nat → Bool) : Nat → Bool | 0 => false | k + 1 => anyU p k || p k
def allU (p : Nat → Bool) : Nat → Bool | 0 => true | k + 1 => allU p k && p k
theorem anyU_iff {p : Nat → Bool} : ∀ {n}, anyU p n = true ↔ ∃ k, k < n ∧ p k = true
  | 0 => ⟨fun h => by cases h, fun ⟨k, h, _⟩ => absurd h (Nat.not_lt_zero k)⟩
  | n + 1 => by
    unfold anyU
    rw [Bool.or_eq_true, anyU_iff]
    constructor
    · rintro (⟨k, h1, h2⟩ | h)
      · exact ⟨k, by omega, h2⟩
      · exact ⟨n, by omega, h⟩
    · rintro ⟨k, h1, h2⟩
      rcases Nat.eq_or_lt_of_le (Nat.le_of_lt_succ h1) with e | e
      · exact Or.inr (e ▸ h2)
      · exact Or.inl ⟨k, e, h2⟩
theorem allU_iff {p : Nat → Bool} : ∀ {n}, allU p n = true ↔ ∀ k, k < n → p k = true
  | 0 => ⟨fun _ k h => absurd h (Nat.not_lt_zero k), fun _ => rfl⟩
  | n + 1 => by
    unfold allU
    rw [Bool.and_eq_true, allU_iff]
    constructor
    · rintro ⟨h1, h2⟩ k hk
      rcases Nat.eq_or_lt_of_le (Nat.le_of_lt_succ hk) with e | e
      · exact e ▸ h2
      · exact h1 k e
    · intro h
      exact ⟨fun k hk => h k (by omega), h n (by omega)⟩
/-- whether the maker wins: d digits are 0, l: the maker is to lay -/
def gv (q : Nat → Bool) (n : Nat) : Nat → Nat → Bool → Bool
  | 0, c, _ => q (mkD 1 c n)
  | d + 1, c, l => if l then anyU (fun k => decide (dg c k = 0) && gv q n d (c + 1 * 3 ^ k) false) n else allU (fun k => !decide (dg c k = 0) || gv q n d (c + 2 * 3 ^ k) true) n
def qMono (q : Nat → Bool) (n : Nat) : Prop := ∀ i j, i < 2 ^ n → j < 2 ^ n → (∀ k, i.testBit k = true → j.testBit k = true) → q i = true → q j = true
theorem gv_won {q : Nat → Bool} {n : Nat} (hm : qMono q n) : ∀ (d c : Nat) (l : Bool), zs c n = d → q (mkD 1 c n) = true → gv q n d c l = true
  | 0, c, l, _, h => h
  | d + 1, c, l, hz, h => by
    have grow : ∀ k, k < n → dg c k = 0 → ∀ a, (a = 1 ∨ a = 2) → q (mkD 1 (c + a * 3 ^ k) n) = true := by
      intro k hk h0 a ha
      rcases ha with rfl | rfl
      · rw [mkD_put h0 (Or.inl rfl) hk]
        refine hm _ _ (mkD_lt _ _ _) (by rw [← mkD_put h0 (Or.inl rfl) hk]; exact mkD_lt _ _ _) (fun j hj => ?_) h
        rw [Nat.testBit_or, hj]; rfl
      · rw [mkD_keep h0 (by decide) (by decide) (by decide)]; exact h
    have less : ∀ k, k < n → dg c k = 0 → ∀ a, (a = 1 ∨ a = 2) → zs (c + a * 3 ^ k) n = d := by
      intro k hk h0 a ha
      have := zs_put (a := a) h0 (by omega) (by omega) hk
      omega
    unfold gv
    cases l with
    | true =>
      simp only [if_true]
      rw [anyU_iff]
      obtain ⟨k, hk, h0⟩ := zs_pos (c := c) (n := n) (by omega)
      exact ⟨k, hk, by rw [decide_eq_true h0, gv_won hm d _ _ (less k hk h0 1 (Or.inl rfl)) (grow k hk h0 1 (Or.inl rfl))]; rfl⟩
    | false =>
      simp only [Bool.false_eq_true, if_false]
      rw [allU_iff]
      intro k hk
      by_cases h0 : dg c k = 0
      · rw [gv_won hm d _ _ (less k hk h0 2 (Or.inr rfl)) (grow k hk h0 2 (Or.inr rfl))]; simp
      · rw [decide_eq_false h0]; rfl
/-- the mask of all digits that are not 2 -/
def mkN (c : Nat) : Nat → Nat | 0 => 0 | n + 1 => mkN c n + (if dg c n = 2 then 0 else 2 ^ n)
theorem mkN_lt (c : Nat) : ∀ n, mkN c n < 2 ^ n
  | 0 => by unfold mkN; decide
  | n + 1 => by
    have := mkN_lt c n
    unfold mkN
    rw [Nat.pow_succ]
    split <;> omega
theorem mkN_bit (c : Nat) : ∀ n k, k < n → (mkN c n).testBit k = !decide (dg c k = 2)
  | 0, k, h => absurd h (Nat.not_lt_zero k)
  | n + 1, k, h => by
    have hl := mkN_lt c n
    unfold mkN
    rcases Nat.eq_or_lt_of_le (Nat.le_of_lt_succ h) with e | e
    · subst e
      by_cases hd : dg c k = 2
      · rw [if_pos hd, Nat.add_zero, Nat.testBit_lt_two_pow hl, decide_eq_true hd]; rfl
      · rw [if_neg hd, Nat.add_comm, Nat.testBit_two_pow_add_eq, Nat.testBit_lt_two_pow hl, decide_eq_false hd]
    · by_cases hd : dg c n = 2
      · rw [if_pos hd, Nat.add_zero]; exact mkN_bit c n k e
      · rw [if_neg hd, Nat.add_comm, Nat.testBit_two_pow_add_gt e]; exact mkN_bit c n k e
theorem mkN_out {c n k : Nat} (h : n ≤ k) : (mkN c n).testBit k = false :=
  Nat.testBit_lt_two_pow (Nat.lt_of_lt_of_le (mkN_lt c n) (Nat.pow_le_pow_right (by decide) h))
theorem gv_lost {q : Nat → Bool} {n : Nat} (hm : qMono q n) : ∀ (d c : Nat) (l : Bool), zs c n = d → q (mkN c n) = false → gv q n d c l = false
  | 0, c, l, hz, h => by
    show q (mkD 1 c n) = false
    have e : mkD 1 c n = mkN c n := by
      apply Nat.eq_of_testBit_eq
      intro i
      rcases Nat.lt_or_ge i n with hi | hi
      · rw [mkD_bit _ _ _ _ hi, mkN_bit _ _ _ hi]
        have h1 := zs_zero hz hi
        have h2 := dg_lt c i
        by_cases h3 : dg c i = 1
        · rw [h3]; rfl
        · rw [show dg c i = 2 by omega]; rfl
      · rw [mkD_out hi, mkN_out hi]
    rw [e]; exact h
  | d + 1, c, l, hz, h => by
    have grow : ∀ k, k < n → dg c k = 0 → ∀ a, (a = 1 ∨ a = 2) → q (mkN (c + a * 3 ^ k) n) = false := by
      intro k hk h0 a ha
      cases hq : q (mkN (c + a * 3 ^ k) n) with
      | false => rfl
      | true =>
        rw [hm _ (mkN c n) (mkN_lt _ _) (mkN_lt _ _) (fun j hj => by
          rcases Nat.lt_or_ge j n with hjn | hjn
          · rw [mkN_bit _ _ _ hjn] at hj ⊢
            rw [dg_put h0 (by omega)] at hj
            by_cases e : j = k
            · rw [e, h0]; rfl
            · rw [if_neg e] at hj; exact hj
          · rw [mkN_out hjn] at hj; cases hj) hq] at h
        cases h
    have less : ∀ k, k < n → dg c k = 0 → ∀ a, (a = 1 ∨ a = 2) → zs (c + a * 3 ^ k) n = d := by
      intro k hk h0 a ha
      have := zs_put (a := a) h0 (by omega) (by omega) hk
      omega
    unfold gv
    cases l with
    | true =>
      simp only [if_true]
      cases ha : anyU (fun k => decide (dg c k = 0) && gv q n d (c + 1 * 3 ^ k) false) n with
      | false => rfl
      | true =>
        obtain ⟨k, hk, hp⟩ := anyU_iff.mp ha
        rw [Bool.and_eq_true, decide_eq_true_eq] at hp
        rw [gv_lost hm d _ _ (less k hk hp.1 1 (Or.inl rfl)) (grow k hk hp.1 1 (Or.inl rfl))] at hp
        cases hp.2
    | false =>
      simp only [Bool.false_eq_true, if_false]
      cases ha : allU (fun k => !decide (dg c k = 0) || gv q n d (c + 2 * 3 ^ k) true) n with
      | false => rfl
      | true =>
        obtain ⟨k, hk, h0⟩ := zs_pos (c := c) (n := n) (by omega)
        have hp := allU_iff.mp ha k hk
        rw [decide_eq_true h0, gv_lost hm d _ _ (less k hk h0 2 (Or.inr rfl)) (grow k hk h0 2 (Or.inr rfl))] at hp
        cases hp
end
