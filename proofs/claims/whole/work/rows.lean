section
-- ===== PART A: goes FIRST, ahead of the names: the tables' words, and 'selects' of the private methods out of them =====
/-- a private method of a class that the tables say can be made, by its rows of tables_1 -/
def lw_okq (q : MethodName × Nat) : Prop := (q.1.cls ≠ "java/lang/invoke/MethodHandle" ∧ q.1.cls ≠ "java/lang/invoke/VarHandle") ∧ Cond.instantiable q.1.cls q.2 ∈ tables_1 ∧ Cond.privateMethod q.1 ∈ tables_1 ∧ Cond.instanceMethod q.1 ∈ tables_1
theorem lw_p0 : lw_okq (⟨"SnailTrails", "recorded", "(I)I"⟩, 9) := ⟨⟨by decide +kernel, by decide +kernel⟩, List.mem_of_getElem? (i := 11) (by decide +kernel), List.mem_of_getElem? (i := 221) (by decide +kernel), List.mem_of_getElem? (i := 222) (by decide +kernel)⟩
theorem lw_p1 : lw_okq (⟨"SnailTrails$History", "stateAt", "(I)LSnailTrails$Pane;"⟩, 3) := ⟨⟨by decide +kernel, by decide +kernel⟩, List.mem_of_getElem? (i := 93) (by decide +kernel), List.mem_of_getElem? (i := 229) (by decide +kernel), List.mem_of_getElem? (i := 230) (by decide +kernel)⟩
theorem lw_p2 : lw_okq (⟨"SnailTrails$Pane", "clearTrail", "(I)V"⟩, 17) := ⟨⟨by decide +kernel, by decide +kernel⟩, List.mem_of_getElem? (i := 19) (by decide +kernel), List.mem_of_getElem? (i := 262) (by decide +kernel), List.mem_of_getElem? (i := 263) (by decide +kernel)⟩
theorem lw_p3 : lw_okq (⟨"SnailTrails$Pane", "dryTrails", "(I)V"⟩, 17) := ⟨⟨by decide +kernel, by decide +kernel⟩, List.mem_of_getElem? (i := 19) (by decide +kernel), List.mem_of_getElem? (i := 278) (by decide +kernel), List.mem_of_getElem? (i := 279) (by decide +kernel)⟩
theorem lw_p4 : lw_okq (⟨"SnailTrails$Pane", "howManyAre", "(I)I"⟩, 17) := ⟨⟨by decide +kernel, by decide +kernel⟩, List.mem_of_getElem? (i := 19) (by decide +kernel), List.mem_of_getElem? (i := 291) (by decide +kernel), List.mem_of_getElem? (i := 292) (by decide +kernel)⟩
theorem lw_p5 : lw_okq (⟨"SnailTrails$Pane", "passTurn", "()V"⟩, 17) := ⟨⟨by decide +kernel, by decide +kernel⟩, List.mem_of_getElem? (i := 19) (by decide +kernel), List.mem_of_getElem? (i := 295) (by decide +kernel), List.mem_of_getElem? (i := 296) (by decide +kernel)⟩
theorem lw_p6 : lw_okq (⟨"SnailTrails$Pane", "takeStep", "(II)V"⟩, 17) := ⟨⟨by decide +kernel, by decide +kernel⟩, List.mem_of_getElem? (i := 19) (by decide +kernel), List.mem_of_getElem? (i := 317) (by decide +kernel), List.mem_of_getElem? (i := 318) (by decide +kernel)⟩
theorem lw_p7 : lw_okq (⟨"SnailTrails$Pane", "noteLender", "(II)V"⟩, 17) := ⟨⟨by decide +kernel, by decide +kernel⟩, List.mem_of_getElem? (i := 19) (by decide +kernel), List.mem_of_getElem? (i := 321) (by decide +kernel), List.mem_of_getElem? (i := 322) (by decide +kernel)⟩
theorem lw_p8 : lw_okq (⟨"SnailTrails$Pane", "rest", "(I)V"⟩, 17) := ⟨⟨by decide +kernel, by decide +kernel⟩, List.mem_of_getElem? (i := 19) (by decide +kernel), List.mem_of_getElem? (i := 325) (by decide +kernel), List.mem_of_getElem? (i := 326) (by decide +kernel)⟩
theorem lw_p9 : lw_okq (⟨"SnailTrails$Pane", "growFrost", "()V"⟩, 17) := ⟨⟨by decide +kernel, by decide +kernel⟩, List.mem_of_getElem? (i := 19) (by decide +kernel), List.mem_of_getElem? (i := 330) (by decide +kernel), List.mem_of_getElem? (i := 331) (by decide +kernel)⟩
theorem lw_p10 : lw_okq (⟨"SnailTrails$Race", "readThing", "(I)Z"⟩, 8) := ⟨⟨by decide +kernel, by decide +kernel⟩, List.mem_of_getElem? (i := 113) (by decide +kernel), List.mem_of_getElem? (i := 358) (by decide +kernel), List.mem_of_getElem? (i := 359) (by decide +kernel)⟩
theorem lw_p11 : lw_okq (⟨"SnailTrails$Race", "signHere", "()I"⟩, 8) := ⟨⟨by decide +kernel, by decide +kernel⟩, List.mem_of_getElem? (i := 113) (by decide +kernel), List.mem_of_getElem? (i := 362) (by decide +kernel), List.mem_of_getElem? (i := 363) (by decide +kernel)⟩
theorem lw_p12 : lw_okq (⟨"SnailTrails$Race", "readNumber", "([IIII)Z"⟩, 8) := ⟨⟨by decide +kernel, by decide +kernel⟩, List.mem_of_getElem? (i := 113) (by decide +kernel), List.mem_of_getElem? (i := 366) (by decide +kernel), List.mem_of_getElem? (i := 367) (by decide +kernel)⟩
theorem lw_p13 : lw_okq (⟨"SnailTrails$Race", "digitHere", "()I"⟩, 8) := ⟨⟨by decide +kernel, by decide +kernel⟩, List.mem_of_getElem? (i := 113) (by decide +kernel), List.mem_of_getElem? (i := 370) (by decide +kernel), List.mem_of_getElem? (i := 371) (by decide +kernel)⟩
theorem lw_p14 : lw_okq (⟨"SnailTrails$Race", "readSign", "(C)Z"⟩, 8) := ⟨⟨by decide +kernel, by decide +kernel⟩, List.mem_of_getElem? (i := 113) (by decide +kernel), List.mem_of_getElem? (i := 374) (by decide +kernel), List.mem_of_getElem? (i := 375) (by decide +kernel)⟩
theorem lw_p15 : lw_okq (⟨"SnailTrails", "doThing", "(I)I"⟩, 9) := ⟨⟨by decide +kernel, by decide +kernel⟩, List.mem_of_getElem? (i := 11) (by decide +kernel), List.mem_of_getElem? (i := 378) (by decide +kernel), List.mem_of_getElem? (i := 379) (by decide +kernel)⟩
def lw_privs_1 : List (MethodName × Nat) := [(⟨"SnailTrails", "recorded", "(I)I"⟩, 9), (⟨"SnailTrails$History", "stateAt", "(I)LSnailTrails$Pane;"⟩, 3), (⟨"SnailTrails$Pane", "clearTrail", "(I)V"⟩, 17), (⟨"SnailTrails$Pane", "dryTrails", "(I)V"⟩, 17), (⟨"SnailTrails$Pane", "howManyAre", "(I)I"⟩, 17), (⟨"SnailTrails$Pane", "passTurn", "()V"⟩, 17), (⟨"SnailTrails$Pane", "takeStep", "(II)V"⟩, 17), (⟨"SnailTrails$Pane", "noteLender", "(II)V"⟩, 17), (⟨"SnailTrails$Pane", "rest", "(I)V"⟩, 17), (⟨"SnailTrails$Pane", "growFrost", "()V"⟩, 17), (⟨"SnailTrails$Race", "readThing", "(I)Z"⟩, 8), (⟨"SnailTrails$Race", "signHere", "()I"⟩, 8), (⟨"SnailTrails$Race", "readNumber", "([IIII)Z"⟩, 8), (⟨"SnailTrails$Race", "digitHere", "()I"⟩, 8), (⟨"SnailTrails$Race", "readSign", "(C)Z"⟩, 8), (⟨"SnailTrails", "doThing", "(I)I"⟩, 9)]
theorem lw_r1 : ∀ q ∈ lw_privs_1, lw_okq q := List.forall_mem_cons.mpr ⟨lw_p0, List.forall_mem_cons.mpr ⟨lw_p1, List.forall_mem_cons.mpr ⟨lw_p2, List.forall_mem_cons.mpr ⟨lw_p3, List.forall_mem_cons.mpr ⟨lw_p4, List.forall_mem_cons.mpr ⟨lw_p5, List.forall_mem_cons.mpr ⟨lw_p6, List.forall_mem_cons.mpr ⟨lw_p7, List.forall_mem_cons.mpr ⟨lw_p8, List.forall_mem_cons.mpr ⟨lw_p9, List.forall_mem_cons.mpr ⟨lw_p10, List.forall_mem_cons.mpr ⟨lw_p11, List.forall_mem_cons.mpr ⟨lw_p12, List.forall_mem_cons.mpr ⟨lw_p13, List.forall_mem_cons.mpr ⟨lw_p14, List.forall_mem_cons.mpr ⟨lw_p15, fun _ h => absurd h List.not_mem_nil⟩⟩⟩⟩⟩⟩⟩⟩⟩⟩⟩⟩⟩⟩⟩⟩
theorem lw_p16 : lw_okq (⟨"SnailTrails$WaysUp", "leastAbove", "(LSnailTrails$Pane;II)I"⟩, 2) := ⟨⟨by decide +kernel, by decide +kernel⟩, List.mem_of_getElem? (i := 151) (by decide +kernel), List.mem_of_getElem? (i := 459) (by decide +kernel), List.mem_of_getElem? (i := 460) (by decide +kernel)⟩
theorem lw_p17 : lw_okq (⟨"SnailTrails$WaysUp", "nearest", "()I"⟩, 2) := ⟨⟨by decide +kernel, by decide +kernel⟩, List.mem_of_getElem? (i := 151) (by decide +kernel), List.mem_of_getElem? (i := 472) (by decide +kernel), List.mem_of_getElem? (i := 473) (by decide +kernel)⟩
theorem lw_p18 : lw_okq (⟨"SnailTrails$WaysUp", "reachAbove", "(LSnailTrails$Pane;I)V"⟩, 2) := ⟨⟨by decide +kernel, by decide +kernel⟩, List.mem_of_getElem? (i := 151) (by decide +kernel), List.mem_of_getElem? (i := 476) (by decide +kernel), List.mem_of_getElem? (i := 477) (by decide +kernel)⟩
theorem lw_p19 : lw_okq (⟨"SnailTrails$Pane", "isAhead", "(II)Z"⟩, 17) := ⟨⟨by decide +kernel, by decide +kernel⟩, List.mem_of_getElem? (i := 19) (by decide +kernel), List.mem_of_getElem? (i := 488) (by decide +kernel), List.mem_of_getElem? (i := 489) (by decide +kernel)⟩
theorem lw_p20 : lw_okq (⟨"SnailTrails", "turnsFrom", "(III)I"⟩, 9) := ⟨⟨by decide +kernel, by decide +kernel⟩, List.mem_of_getElem? (i := 11) (by decide +kernel), List.mem_of_getElem? (i := 504) (by decide +kernel), List.mem_of_getElem? (i := 505) (by decide +kernel)⟩
theorem lw_p21 : lw_okq (⟨"SnailTrails$Pane", "howManyTrails", "()I"⟩, 17) := ⟨⟨by decide +kernel, by decide +kernel⟩, List.mem_of_getElem? (i := 19) (by decide +kernel), List.mem_of_getElem? (i := 518) (by decide +kernel), List.mem_of_getElem? (i := 519) (by decide +kernel)⟩
theorem lw_p22 : lw_okq (⟨"SnailTrailsModel", "barSnail", "(II)I"⟩, 19) := ⟨⟨by decide +kernel, by decide +kernel⟩, List.mem_of_getElem? (i := 525) (by decide +kernel), List.mem_of_getElem? (i := 593) (by decide +kernel), List.mem_of_getElem? (i := 594) (by decide +kernel)⟩
theorem lw_p23 : lw_okq (⟨"SnailTrailsModel", "snailOn", "(II)I"⟩, 19) := ⟨⟨by decide +kernel, by decide +kernel⟩, List.mem_of_getElem? (i := 525) (by decide +kernel), List.mem_of_getElem? (i := 603) (by decide +kernel), List.mem_of_getElem? (i := 604) (by decide +kernel)⟩
theorem lw_p24 : lw_okq (⟨"SnailTrailsModel", "creeps", "(I)Z"⟩, 19) := ⟨⟨by decide +kernel, by decide +kernel⟩, List.mem_of_getElem? (i := 525) (by decide +kernel), List.mem_of_getElem? (i := 607) (by decide +kernel), List.mem_of_getElem? (i := 608) (by decide +kernel)⟩
theorem lw_p25 : lw_okq (⟨"SnailTrailsModel", "records", "()V"⟩, 19) := ⟨⟨by decide +kernel, by decide +kernel⟩, List.mem_of_getElem? (i := 525) (by decide +kernel), List.mem_of_getElem? (i := 614) (by decide +kernel), List.mem_of_getElem? (i := 615) (by decide +kernel)⟩
theorem lw_p26 : lw_okq (⟨"SnailTrailsModel", "comes", "(II)I"⟩, 19) := ⟨⟨by decide +kernel, by decide +kernel⟩, List.mem_of_getElem? (i := 525) (by decide +kernel), List.mem_of_getElem? (i := 618) (by decide +kernel), List.mem_of_getElem? (i := 619) (by decide +kernel)⟩
theorem lw_p27 : lw_okq (⟨"SnailTrailsModel", "isSnail", "(I)Z"⟩, 19) := ⟨⟨by decide +kernel, by decide +kernel⟩, List.mem_of_getElem? (i := 525) (by decide +kernel), List.mem_of_getElem? (i := 626) (by decide +kernel), List.mem_of_getElem? (i := 627) (by decide +kernel)⟩
theorem lw_p28 : lw_okq (⟨"SnailTrailsModel", "barFrost", "(III)I"⟩, 19) := ⟨⟨by decide +kernel, by decide +kernel⟩, List.mem_of_getElem? (i := 525) (by decide +kernel), List.mem_of_getElem? (i := 634) (by decide +kernel), List.mem_of_getElem? (i := 635) (by decide +kernel)⟩
theorem lw_p29 : lw_okq (⟨"SnailTrailsModel", "freezes", "(III)I"⟩, 19) := ⟨⟨by decide +kernel, by decide +kernel⟩, List.mem_of_getElem? (i := 525) (by decide +kernel), List.mem_of_getElem? (i := 644) (by decide +kernel), List.mem_of_getElem? (i := 645) (by decide +kernel)⟩
theorem lw_p30 : lw_okq (⟨"SnailTrailsModel", "dries", "()V"⟩, 19) := ⟨⟨by decide +kernel, by decide +kernel⟩, List.mem_of_getElem? (i := 525) (by decide +kernel), List.mem_of_getElem? (i := 655) (by decide +kernel), List.mem_of_getElem? (i := 656) (by decide +kernel)⟩
theorem lw_p31 : lw_okq (⟨"SnailTrailsModel", "barPass", "(I)I"⟩, 19) := ⟨⟨by decide +kernel, by decide +kernel⟩, List.mem_of_getElem? (i := 525) (by decide +kernel), List.mem_of_getElem? (i := 663) (by decide +kernel), List.mem_of_getElem? (i := 664) (by decide +kernel)⟩
def lw_privs_2 : List (MethodName × Nat) := [(⟨"SnailTrails$WaysUp", "leastAbove", "(LSnailTrails$Pane;II)I"⟩, 2), (⟨"SnailTrails$WaysUp", "nearest", "()I"⟩, 2), (⟨"SnailTrails$WaysUp", "reachAbove", "(LSnailTrails$Pane;I)V"⟩, 2), (⟨"SnailTrails$Pane", "isAhead", "(II)Z"⟩, 17), (⟨"SnailTrails", "turnsFrom", "(III)I"⟩, 9), (⟨"SnailTrails$Pane", "howManyTrails", "()I"⟩, 17), (⟨"SnailTrailsModel", "barSnail", "(II)I"⟩, 19), (⟨"SnailTrailsModel", "snailOn", "(II)I"⟩, 19), (⟨"SnailTrailsModel", "creeps", "(I)Z"⟩, 19), (⟨"SnailTrailsModel", "records", "()V"⟩, 19), (⟨"SnailTrailsModel", "comes", "(II)I"⟩, 19), (⟨"SnailTrailsModel", "isSnail", "(I)Z"⟩, 19), (⟨"SnailTrailsModel", "barFrost", "(III)I"⟩, 19), (⟨"SnailTrailsModel", "freezes", "(III)I"⟩, 19), (⟨"SnailTrailsModel", "dries", "()V"⟩, 19), (⟨"SnailTrailsModel", "barPass", "(I)I"⟩, 19)]
theorem lw_r2 : ∀ q ∈ lw_privs_2, lw_okq q := List.forall_mem_cons.mpr ⟨lw_p16, List.forall_mem_cons.mpr ⟨lw_p17, List.forall_mem_cons.mpr ⟨lw_p18, List.forall_mem_cons.mpr ⟨lw_p19, List.forall_mem_cons.mpr ⟨lw_p20, List.forall_mem_cons.mpr ⟨lw_p21, List.forall_mem_cons.mpr ⟨lw_p22, List.forall_mem_cons.mpr ⟨lw_p23, List.forall_mem_cons.mpr ⟨lw_p24, List.forall_mem_cons.mpr ⟨lw_p25, List.forall_mem_cons.mpr ⟨lw_p26, List.forall_mem_cons.mpr ⟨lw_p27, List.forall_mem_cons.mpr ⟨lw_p28, List.forall_mem_cons.mpr ⟨lw_p29, List.forall_mem_cons.mpr ⟨lw_p30, List.forall_mem_cons.mpr ⟨lw_p31, fun _ h => absurd h List.not_mem_nil⟩⟩⟩⟩⟩⟩⟩⟩⟩⟩⟩⟩⟩⟩⟩⟩
theorem lw_p32 : lw_okq (⟨"SnailTrailsModel", "passes", "(I)I"⟩, 19) := ⟨⟨by decide +kernel, by decide +kernel⟩, List.mem_of_getElem? (i := 525) (by decide +kernel), List.mem_of_getElem? (i := 668) (by decide +kernel), List.mem_of_getElem? (i := 669) (by decide +kernel)⟩
theorem lw_p33 : lw_okq (⟨"SnailTrailsModel", "turn", "()V"⟩, 19) := ⟨⟨by decide +kernel, by decide +kernel⟩, List.mem_of_getElem? (i := 525) (by decide +kernel), List.mem_of_getElem? (i := 672) (by decide +kernel), List.mem_of_getElem? (i := 673) (by decide +kernel)⟩
theorem lw_p34 : lw_okq (⟨"SnailTrailsModel", "chooses", "(I)I"⟩, 19) := ⟨⟨by decide +kernel, by decide +kernel⟩, List.mem_of_getElem? (i := 525) (by decide +kernel), List.mem_of_getElem? (i := 676) (by decide +kernel), List.mem_of_getElem? (i := 677) (by decide +kernel)⟩
theorem lw_p35 : lw_okq (⟨"SnailTrailsModel", "price", "(II)I"⟩, 19) := ⟨⟨by decide +kernel, by decide +kernel⟩, List.mem_of_getElem? (i := 525) (by decide +kernel), List.mem_of_getElem? (i := 680) (by decide +kernel), List.mem_of_getElem? (i := 681) (by decide +kernel)⟩
theorem lw_p36 : lw_okq (⟨"SnailTrailsModel", "why", "(II)I"⟩, 19) := ⟨⟨by decide +kernel, by decide +kernel⟩, List.mem_of_getElem? (i := 525) (by decide +kernel), List.mem_of_getElem? (i := 687) (by decide +kernel), List.mem_of_getElem? (i := 688) (by decide +kernel)⟩
theorem lw_p37 : lw_okq (⟨"SnailTrailsModel", "creep", "(II)V"⟩, 19) := ⟨⟨by decide +kernel, by decide +kernel⟩, List.mem_of_getElem? (i := 525) (by decide +kernel), List.mem_of_getElem? (i := 691) (by decide +kernel), List.mem_of_getElem? (i := 692) (by decide +kernel)⟩
theorem lw_p38 : lw_okq (⟨"SnailTrailsModel", "things", "()I"⟩, 19) := ⟨⟨by decide +kernel, by decide +kernel⟩, List.mem_of_getElem? (i := 525) (by decide +kernel), List.mem_of_getElem? (i := 707) (by decide +kernel), List.mem_of_getElem? (i := 708) (by decide +kernel)⟩
theorem lw_p39 : lw_okq (⟨"SnailTrailsModel", "thing", "()V"⟩, 19) := ⟨⟨by decide +kernel, by decide +kernel⟩, List.mem_of_getElem? (i := 525) (by decide +kernel), List.mem_of_getElem? (i := 711) (by decide +kernel), List.mem_of_getElem? (i := 712) (by decide +kernel)⟩
theorem lw_p40 : lw_okq (⟨"SnailTrailsModel", "next", "()I"⟩, 19) := ⟨⟨by decide +kernel, by decide +kernel⟩, List.mem_of_getElem? (i := 525) (by decide +kernel), List.mem_of_getElem? (i := 715) (by decide +kernel), List.mem_of_getElem? (i := 716) (by decide +kernel)⟩
theorem lw_p41 : lw_okq (⟨"SnailTrailsModel", "number", "(II)I"⟩, 19) := ⟨⟨by decide +kernel, by decide +kernel⟩, List.mem_of_getElem? (i := 525) (by decide +kernel), List.mem_of_getElem? (i := 719) (by decide +kernel), List.mem_of_getElem? (i := 720) (by decide +kernel)⟩
theorem lw_p42 : lw_okq (⟨"SnailTrailsModel", "sign", "(I)V"⟩, 19) := ⟨⟨by decide +kernel, by decide +kernel⟩, List.mem_of_getElem? (i := 525) (by decide +kernel), List.mem_of_getElem? (i := 723) (by decide +kernel), List.mem_of_getElem? (i := 724) (by decide +kernel)⟩
theorem lw_p43 : lw_okq (⟨"SnailTrailsModel", "putAside", "()V"⟩, 19) := ⟨⟨by decide +kernel, by decide +kernel⟩, List.mem_of_getElem? (i := 525) (by decide +kernel), List.mem_of_getElem? (i := 727) (by decide +kernel), List.mem_of_getElem? (i := 728) (by decide +kernel)⟩
theorem lw_p44 : lw_okq (⟨"SnailTrailsModel", "doesThing", "()I"⟩, 19) := ⟨⟨by decide +kernel, by decide +kernel⟩, List.mem_of_getElem? (i := 525) (by decide +kernel), List.mem_of_getElem? (i := 731) (by decide +kernel), List.mem_of_getElem? (i := 732) (by decide +kernel)⟩
theorem lw_p45 : lw_okq (⟨"SnailTrailsModel", "putBack", "()V"⟩, 19) := ⟨⟨by decide +kernel, by decide +kernel⟩, List.mem_of_getElem? (i := 525) (by decide +kernel), List.mem_of_getElem? (i := 735) (by decide +kernel), List.mem_of_getElem? (i := 736) (by decide +kernel)⟩
theorem lw_p46 : lw_okq (⟨"SnailTrailsModel", "ends", "(I)I"⟩, 19) := ⟨⟨by decide +kernel, by decide +kernel⟩, List.mem_of_getElem? (i := 525) (by decide +kernel), List.mem_of_getElem? (i := 779) (by decide +kernel), List.mem_of_getElem? (i := 780) (by decide +kernel)⟩
theorem lw_p47 : lw_okq (⟨"SnailTrailsModel", "inState", "(I)I"⟩, 19) := ⟨⟨by decide +kernel, by decide +kernel⟩, List.mem_of_getElem? (i := 525) (by decide +kernel), List.mem_of_getElem? (i := 803) (by decide +kernel), List.mem_of_getElem? (i := 804) (by decide +kernel)⟩
def lw_privs_3 : List (MethodName × Nat) := [(⟨"SnailTrailsModel", "passes", "(I)I"⟩, 19), (⟨"SnailTrailsModel", "turn", "()V"⟩, 19), (⟨"SnailTrailsModel", "chooses", "(I)I"⟩, 19), (⟨"SnailTrailsModel", "price", "(II)I"⟩, 19), (⟨"SnailTrailsModel", "why", "(II)I"⟩, 19), (⟨"SnailTrailsModel", "creep", "(II)V"⟩, 19), (⟨"SnailTrailsModel", "things", "()I"⟩, 19), (⟨"SnailTrailsModel", "thing", "()V"⟩, 19), (⟨"SnailTrailsModel", "next", "()I"⟩, 19), (⟨"SnailTrailsModel", "number", "(II)I"⟩, 19), (⟨"SnailTrailsModel", "sign", "(I)V"⟩, 19), (⟨"SnailTrailsModel", "putAside", "()V"⟩, 19), (⟨"SnailTrailsModel", "doesThing", "()I"⟩, 19), (⟨"SnailTrailsModel", "putBack", "()V"⟩, 19), (⟨"SnailTrailsModel", "ends", "(I)I"⟩, 19), (⟨"SnailTrailsModel", "inState", "(I)I"⟩, 19)]
theorem lw_r3 : ∀ q ∈ lw_privs_3, lw_okq q := List.forall_mem_cons.mpr ⟨lw_p32, List.forall_mem_cons.mpr ⟨lw_p33, List.forall_mem_cons.mpr ⟨lw_p34, List.forall_mem_cons.mpr ⟨lw_p35, List.forall_mem_cons.mpr ⟨lw_p36, List.forall_mem_cons.mpr ⟨lw_p37, List.forall_mem_cons.mpr ⟨lw_p38, List.forall_mem_cons.mpr ⟨lw_p39, List.forall_mem_cons.mpr ⟨lw_p40, List.forall_mem_cons.mpr ⟨lw_p41, List.forall_mem_cons.mpr ⟨lw_p42, List.forall_mem_cons.mpr ⟨lw_p43, List.forall_mem_cons.mpr ⟨lw_p44, List.forall_mem_cons.mpr ⟨lw_p45, List.forall_mem_cons.mpr ⟨lw_p46, List.forall_mem_cons.mpr ⟨lw_p47, fun _ h => absurd h List.not_mem_nil⟩⟩⟩⟩⟩⟩⟩⟩⟩⟩⟩⟩⟩⟩⟩⟩
theorem lw_p48 : lw_okq (⟨"SnailTrailsModel", "trails", "()I"⟩, 19) := ⟨⟨by decide +kernel, by decide +kernel⟩, List.mem_of_getElem? (i := 525) (by decide +kernel), List.mem_of_getElem? (i := 807) (by decide +kernel), List.mem_of_getElem? (i := 808) (by decide +kernel)⟩
theorem lw_p49 : lw_okq (⟨"SnailTrailsModel", "frost", "()I"⟩, 19) := ⟨⟨by decide +kernel, by decide +kernel⟩, List.mem_of_getElem? (i := 525) (by decide +kernel), List.mem_of_getElem? (i := 811) (by decide +kernel), List.mem_of_getElem? (i := 812) (by decide +kernel)⟩
theorem lw_p50 : lw_okq (⟨"SnailTrailsModel", "ofAll", "(I)I"⟩, 19) := ⟨⟨by decide +kernel, by decide +kernel⟩, List.mem_of_getElem? (i := 525) (by decide +kernel), List.mem_of_getElem? (i := 815) (by decide +kernel), List.mem_of_getElem? (i := 816) (by decide +kernel)⟩
def lw_privs_4 : List (MethodName × Nat) := [(⟨"SnailTrailsModel", "trails", "()I"⟩, 19), (⟨"SnailTrailsModel", "frost", "()I"⟩, 19), (⟨"SnailTrailsModel", "ofAll", "(I)I"⟩, 19)]
theorem lw_r4 : ∀ q ∈ lw_privs_4, lw_okq q := List.forall_mem_cons.mpr ⟨lw_p48, List.forall_mem_cons.mpr ⟨lw_p49, List.forall_mem_cons.mpr ⟨lw_p50, fun _ h => absurd h List.not_mem_nil⟩⟩⟩
def lw_privs : List (MethodName × Nat) := lw_privs_1 ++ (lw_privs_2 ++ (lw_privs_3 ++ (lw_privs_4)))
def lw_tbl : List Cond := k2_sels lw_privs ++ tables_1
theorem lw_privs_ok : ∀ q ∈ lw_privs, lw_okq q := by
  show ∀ q ∈ lw_privs_1 ++ (lw_privs_2 ++ (lw_privs_3 ++ (lw_privs_4))), lw_okq q
  exact List.forall_mem_append.mpr ⟨lw_r1, List.forall_mem_append.mpr ⟨lw_r2, List.forall_mem_append.mpr ⟨lw_r3, lw_r4⟩⟩⟩
end
section
def RX0 : String := "SnailTrails$History"
def TX0 : u_T := fun k => match k with
  | 0 => ("SnailTrails$History", "states", "[LSnailTrails$Pane;", true)
  | 1 => ("SnailTrails$History", "size", "I", false)
  | _ => ("SnailTrails$History", "next", "I", false)
def tyX0 : Nat → FieldType := fun k => match k with
  | 0 => .array (.object "SnailTrails$Pane")
  | 1 => .int
  | _ => .int
abbrev wsX00 : List Cond := u_ws RX0 TX0 3
theorem nmX0 : ∀ a, a < 3 → ∀ b, b < 3 → a ≠ b → (TX0 a).2.1 ≠ (TX0 b).2.1 := by decide +kernel
theorem tyX0_ok : ∀ k, k < 3 → parseFieldDescriptor (TX0 k).2.2.1 = some (tyX0 k) := by decide +kernel
abbrev cX0_init : ByteArray := prog_2_method_1_code
def yX0_init : MethodName := ⟨RX0, "<init>", "()V"⟩
abbrev cX0_remember : ByteArray := prog_2_method_2_code
def yX0_remember : MethodName := ⟨RX0, "remember", "(LSnailTrails$Pane;)V"⟩
abbrev cX0_giveBack : ByteArray := prog_2_method_3_code
def yX0_giveBack : MethodName := ⟨RX0, "giveBack", "(LSnailTrails$Pane;)I"⟩
abbrev cX0_stateAt : ByteArray := prog_2_method_4_code
def yX0_stateAt : MethodName := ⟨RX0, "stateAt", "(I)LSnailTrails$Pane;"⟩
def RX1 : String := "SnailTrails$Pane"
def TX1 : u_T := fun k => match k with
  | 0 => ("SnailTrails$Pane", "frostOf", "[I", true)
  | 1 => ("SnailTrails$Pane", "trailOf", "[I", true)
  | 2 => ("SnailTrails$Pane", "ageOf", "[I", true)
  | 3 => ("SnailTrails$Pane", "laneOf", "[I", true)
  | 4 => ("SnailTrails$Pane", "rowOf", "[I", true)
  | 5 => ("SnailTrails$Pane", "slimeOf", "[I", true)
  | 6 => ("SnailTrails$Pane", "doingOf", "[I", true)
  | 7 => ("SnailTrails$Pane", "rankOf", "[I", true)
  | 8 => ("SnailTrails$Pane", "stepsOf", "[I", true)
  | 9 => ("SnailTrails$Pane", "borrowsOf", "[I", true)
  | 10 => ("SnailTrails$Pane", "restsOf", "[I", true)
  | 11 => ("SnailTrails$Pane", "lenderOf", "[I", true)
  | 12 => ("SnailTrails$Pane", "inARowOf", "[I", true)
  | 13 => ("SnailTrails$Pane", "owed", "[[I", true)
  | 14 => ("SnailTrails$Pane", "settings", "[I", true)
  | 15 => ("SnailTrails$Pane", "snails", "I", false)
  | _ => ("SnailTrails$Pane", "turn", "I", false)
def tyX1 : Nat → FieldType := fun k => match k with
  | 0 => .array .int
  | 1 => .array .int
  | 2 => .array .int
  | 3 => .array .int
  | 4 => .array .int
  | 5 => .array .int
  | 6 => .array .int
  | 7 => .array .int
  | 8 => .array .int
  | 9 => .array .int
  | 10 => .array .int
  | 11 => .array .int
  | 12 => .array .int
  | 13 => .array (.array .int)
  | 14 => .array .int
  | 15 => .int
  | _ => .int
abbrev wsX10 : List Cond := u_ws RX1 TX1 17
theorem nmX1 : ∀ a, a < 17 → ∀ b, b < 17 → a ≠ b → (TX1 a).2.1 ≠ (TX1 b).2.1 := by decide +kernel
theorem tyX1_ok : ∀ k, k < 17 → parseFieldDescriptor (TX1 k).2.2.1 = some (tyX1 k) := by decide +kernel
abbrev cX1_init : ByteArray := prog_3_method_1_code
def yX1_init : MethodName := ⟨RX1, "<init>", "()V"⟩
abbrev cX1_copyFrom : ByteArray := prog_3_method_2_code
def yX1_copyFrom : MethodName := ⟨RX1, "copyFrom", "(LSnailTrails$Pane;)V"⟩
abbrev cX1_placeSnail : ByteArray := prog_3_method_3_code
def yX1_placeSnail : MethodName := ⟨RX1, "placeSnail", "(II)I"⟩
abbrev cX1_addSnail : ByteArray := prog_3_method_4_code
def yX1_addSnail : MethodName := ⟨RX1, "addSnail", "(II)I"⟩
abbrev cX1_removeSnail : ByteArray := prog_3_method_5_code
def yX1_removeSnail : MethodName := ⟨RX1, "removeSnail", "(I)I"⟩
abbrev cX1_changeFrost : ByteArray := prog_3_method_6_code
def yX1_changeFrost : MethodName := ⟨RX1, "changeFrost", "(III)I"⟩
abbrev cX1_changeSetting : ByteArray := prog_3_method_7_code
def yX1_changeSetting : MethodName := ⟨RX1, "changeSetting", "(II)I"⟩
abbrev cX1_letPass : ByteArray := prog_3_method_8_code
def yX1_letPass : MethodName := ⟨RX1, "letPass", "(I)I"⟩
abbrev cX1_passUntilEnd : ByteArray := prog_3_method_9_code
def yX1_passUntilEnd : MethodName := ⟨RX1, "passUntilEnd", "(II)I"⟩
abbrev cX1_passTurn : ByteArray := prog_3_method_10_code
def yX1_passTurn : MethodName := ⟨RX1, "passTurn", "()V"⟩
abbrev cX1_choice : ByteArray := prog_3_method_11_code
def yX1_choice : MethodName := ⟨RX1, "choice", "(I)I"⟩
abbrev cX1_stepCost : ByteArray := prog_3_method_12_code
def yX1_stepCost : MethodName := ⟨RX1, "stepCost", "(II)I"⟩
abbrev cX1_whyNoHelp : ByteArray := prog_3_method_13_code
def yX1_whyNoHelp : MethodName := ⟨RX1, "whyNoHelp", "(II)I"⟩
abbrev cX1_takeStep : ByteArray := prog_3_method_14_code
def yX1_takeStep : MethodName := ⟨RX1, "takeStep", "(II)V"⟩
abbrev cX1_rest : ByteArray := prog_3_method_15_code
def yX1_rest : MethodName := ⟨RX1, "rest", "(I)V"⟩
abbrev cX1_noteLender : ByteArray := prog_3_method_16_code
def yX1_noteLender : MethodName := ⟨RX1, "noteLender", "(II)V"⟩
abbrev cX1_dryTrails : ByteArray := prog_3_method_17_code
def yX1_dryTrails : MethodName := ⟨RX1, "dryTrails", "(I)V"⟩
abbrev cX1_clearTrail : ByteArray := prog_3_method_18_code
def yX1_clearTrail : MethodName := ⟨RX1, "clearTrail", "(I)V"⟩
abbrev cX1_growFrost : ByteArray := prog_3_method_19_code
def yX1_growFrost : MethodName := ⟨RX1, "growFrost", "()V"⟩
abbrev cX1_knows : ByteArray := prog_3_method_20_code
def yX1_knows : MethodName := ⟨RX1, "knows", "(I)Z"⟩
abbrev cX1_creeps : ByteArray := prog_3_method_21_code
def yX1_creeps : MethodName := ⟨RX1, "creeps", "(I)Z"⟩
abbrev cX1_hasEnded : ByteArray := prog_3_method_22_code
def yX1_hasEnded : MethodName := ⟨RX1, "hasEnded", "(I)Z"⟩
abbrev cX1_snailOn : ByteArray := prog_3_method_23_code
def yX1_snailOn : MethodName := ⟨RX1, "snailOn", "(II)I"⟩
abbrev cX1_priceOf : ByteArray := prog_3_method_24_code
def yX1_priceOf : MethodName := ⟨RX1, "priceOf", "(I)I"⟩
abbrev cX1_tellSnail : ByteArray := prog_3_method_25_code
def yX1_tellSnail : MethodName := ⟨RX1, "tellSnail", "(II)I"⟩
abbrev cX1_tellCell : ByteArray := prog_3_method_26_code
def yX1_tellCell : MethodName := ⟨RX1, "tellCell", "(III)I"⟩
abbrev cX1_tellOwed : ByteArray := prog_3_method_27_code
def yX1_tellOwed : MethodName := ⟨RX1, "tellOwed", "(II)I"⟩
abbrev cX1_tellCount : ByteArray := prog_3_method_28_code
def yX1_tellCount : MethodName := ⟨RX1, "tellCount", "(I)I"⟩
abbrev cX1_howManyAre : ByteArray := prog_3_method_29_code
def yX1_howManyAre : MethodName := ⟨RX1, "howManyAre", "(I)I"⟩
abbrev cX1_howManyTrails : ByteArray := prog_3_method_30_code
def yX1_howManyTrails : MethodName := ⟨RX1, "howManyTrails", "()I"⟩
abbrev cX1_findLeader : ByteArray := prog_3_method_31_code
def yX1_findLeader : MethodName := ⟨RX1, "findLeader", "()I"⟩
abbrev cX1_isAhead : ByteArray := prog_3_method_32_code
def yX1_isAhead : MethodName := ⟨RX1, "isAhead", "(II)Z"⟩
def RX2 : String := "SnailTrails$Race"
def TX2 : u_T := fun k => match k with
  | 0 => ("SnailTrails$Race", "text", "[C", true)
  | 1 => ("SnailTrails$Race", "length", "I", false)
  | 2 => ("SnailTrails$Race", "at", "I", false)
  | 3 => ("SnailTrails$Race", "things", "I", false)
  | 4 => ("SnailTrails$Race", "signs", "[I", true)
  | 5 => ("SnailTrails$Race", "lanes", "[I", true)
  | 6 => ("SnailTrails$Race", "rows", "[I", true)
  | _ => ("SnailTrails$Race", "amounts", "[I", true)
def tyX2 : Nat → FieldType := fun k => match k with
  | 0 => .array .char
  | 1 => .int
  | 2 => .int
  | 3 => .int
  | 4 => .array .int
  | 5 => .array .int
  | 6 => .array .int
  | _ => .array .int
abbrev wsX20 : List Cond := u_ws RX2 TX2 8
theorem nmX2 : ∀ a, a < 8 → ∀ b, b < 8 → a ≠ b → (TX2 a).2.1 ≠ (TX2 b).2.1 := by decide +kernel
theorem tyX2_ok : ∀ k, k < 8 → parseFieldDescriptor (TX2 k).2.2.1 = some (tyX2 k) := by decide +kernel
abbrev cX2_init : ByteArray := prog_4_method_1_code
def yX2_init : MethodName := ⟨RX2, "<init>", "()V"⟩
abbrev cX2_append : ByteArray := prog_4_method_2_code
def yX2_append : MethodName := ⟨RX2, "append", "(C)I"⟩
abbrev cX2_empty : ByteArray := prog_4_method_3_code
def yX2_empty : MethodName := ⟨RX2, "empty", "()I"⟩
abbrev cX2_read : ByteArray := prog_4_method_4_code
def yX2_read : MethodName := ⟨RX2, "read", "()I"⟩
abbrev cX2_readThing : ByteArray := prog_4_method_5_code
def yX2_readThing : MethodName := ⟨RX2, "readThing", "(I)Z"⟩
abbrev cX2_readSign : ByteArray := prog_4_method_6_code
def yX2_readSign : MethodName := ⟨RX2, "readSign", "(C)Z"⟩
abbrev cX2_readNumber : ByteArray := prog_4_method_7_code
def yX2_readNumber : MethodName := ⟨RX2, "readNumber", "([IIII)Z"⟩
abbrev cX2_signHere : ByteArray := prog_4_method_8_code
def yX2_signHere : MethodName := ⟨RX2, "signHere", "()I"⟩
abbrev cX2_digitHere : ByteArray := prog_4_method_9_code
def yX2_digitHere : MethodName := ⟨RX2, "digitHere", "()I"⟩
def RX3 : String := "SnailTrails$WaysUp"
def TX3 : u_T := fun k => match k with
  | 0 => ("SnailTrails$WaysUp", "sums", "[I", true)
  | _ => ("SnailTrails$WaysUp", "settled", "[I", true)
def tyX3 : Nat → FieldType := fun k => match k with
  | 0 => .array .int
  | _ => .array .int
abbrev wsX30 : List Cond := u_ws RX3 TX3 2
theorem nmX3 : ∀ a, a < 2 → ∀ b, b < 2 → a ≠ b → (TX3 a).2.1 ≠ (TX3 b).2.1 := by decide +kernel
theorem tyX3_ok : ∀ k, k < 2 → parseFieldDescriptor (TX3 k).2.2.1 = some (tyX3 k) := by decide +kernel
abbrev cX3_init : ByteArray := prog_5_method_1_code
def yX3_init : MethodName := ⟨RX3, "<init>", "()V"⟩
abbrev cX3_fromRimDown : ByteArray := prog_5_method_2_code
def yX3_fromRimDown : MethodName := ⟨RX3, "fromRimDown", "(LSnailTrails$Pane;II)I"⟩
abbrev cX3_leastAbove : ByteArray := prog_5_method_3_code
def yX3_leastAbove : MethodName := ⟨RX3, "leastAbove", "(LSnailTrails$Pane;II)I"⟩
abbrev cX3_leastSumFirst : ByteArray := prog_5_method_4_code
def yX3_leastSumFirst : MethodName := ⟨RX3, "leastSumFirst", "(LSnailTrails$Pane;II)I"⟩
abbrev cX3_nearest : ByteArray := prog_5_method_5_code
def yX3_nearest : MethodName := ⟨RX3, "nearest", "()I"⟩
abbrev cX3_reachAbove : ByteArray := prog_5_method_6_code
def yX3_reachAbove : MethodName := ⟨RX3, "reachAbove", "(LSnailTrails$Pane;I)V"⟩
def RX4 : String := "SnailTrails"
def TX4 : u_T := fun k => match k with
  | 0 => ("SnailTrails", "pane", "LSnailTrails$Pane;", true)
  | 1 => ("SnailTrails", "scratch", "LSnailTrails$Pane;", true)
  | 2 => ("SnailTrails", "snapshot", "LSnailTrails$Pane;", true)
  | 3 => ("SnailTrails", "hasSnapshot", "Z", false)
  | 4 => ("SnailTrails", "history", "LSnailTrails$History;", true)
  | 5 => ("SnailTrails", "race", "LSnailTrails$Race;", true)
  | 6 => ("SnailTrails", "waysUp", "LSnailTrails$WaysUp;", true)
  | 7 => ("SnailTrails", "stoppedThing", "I", false)
  | _ => ("SnailTrails", "stoppedBy", "I", false)
def tyX4 : Nat → FieldType := fun k => match k with
  | 0 => .object "SnailTrails$Pane"
  | 1 => .object "SnailTrails$Pane"
  | 2 => .object "SnailTrails$Pane"
  | 3 => .boolean
  | 4 => .object "SnailTrails$History"
  | 5 => .object "SnailTrails$Race"
  | 6 => .object "SnailTrails$WaysUp"
  | 7 => .int
  | _ => .int
abbrev wsX40 : List Cond := u_ws RX4 TX4 9
theorem nmX4 : ∀ a, a < 9 → ∀ b, b < 9 → a ≠ b → (TX4 a).2.1 ≠ (TX4 b).2.1 := by decide +kernel
theorem tyX4_ok : ∀ k, k < 9 → parseFieldDescriptor (TX4 k).2.2.1 = some (tyX4 k) := by decide +kernel
abbrev cX4_init : ByteArray := prog_1_method_1_code
def yX4_init : MethodName := ⟨RX4, "<init>", "()V"⟩
abbrev cX4_setSnail : ByteArray := prog_1_method_2_code
def yX4_setSnail : MethodName := ⟨RX4, "setSnail", "(II)I"⟩
abbrev cX4_takeOff : ByteArray := prog_1_method_3_code
def yX4_takeOff : MethodName := ⟨RX4, "takeOff", "(I)I"⟩
abbrev cX4_setFrost : ByteArray := prog_1_method_4_code
def yX4_setFrost : MethodName := ⟨RX4, "setFrost", "(III)I"⟩
abbrev cX4_set : ByteArray := prog_1_method_5_code
def yX4_set : MethodName := ⟨RX4, "set", "(II)I"⟩
abbrev cX4_pass : ByteArray := prog_1_method_6_code
def yX4_pass : MethodName := ⟨RX4, "pass", "(I)I"⟩
abbrev cX4_recorded : ByteArray := prog_1_method_7_code
def yX4_recorded : MethodName := ⟨RX4, "recorded", "(I)I"⟩
abbrev cX4_type : ByteArray := prog_1_method_8_code
def yX4_type : MethodName := ⟨RX4, "type", "(C)I"⟩
abbrev cX4_clearText : ByteArray := prog_1_method_9_code
def yX4_clearText : MethodName := ⟨RX4, "clearText", "()I"⟩
abbrev cX4_perform : ByteArray := prog_1_method_10_code
def yX4_perform : MethodName := ⟨RX4, "perform", "()I"⟩
abbrev cX4_doThing : ByteArray := prog_1_method_11_code
def yX4_doThing : MethodName := ⟨RX4, "doThing", "(I)I"⟩
abbrev cX4_stopped : ByteArray := prog_1_method_12_code
def yX4_stopped : MethodName := ⟨RX4, "stopped", "(I)I"⟩
abbrev cX4_undo : ByteArray := prog_1_method_13_code
def yX4_undo : MethodName := ⟨RX4, "undo", "()I"⟩
abbrev cX4_keep : ByteArray := prog_1_method_14_code
def yX4_keep : MethodName := ⟨RX4, "keep", "()I"⟩
abbrev cX4_restore : ByteArray := prog_1_method_15_code
def yX4_restore : MethodName := ⟨RX4, "restore", "()I"⟩
abbrev cX4_snail : ByteArray := prog_1_method_16_code
def yX4_snail : MethodName := ⟨RX4, "snail", "(II)I"⟩
abbrev cX4_cell : ByteArray := prog_1_method_17_code
def yX4_cell : MethodName := ⟨RX4, "cell", "(III)I"⟩
abbrev cX4_cost : ByteArray := prog_1_method_18_code
def yX4_cost : MethodName := ⟨RX4, "cost", "(II)I"⟩
abbrev cX4_does : ByteArray := prog_1_method_19_code
def yX4_does : MethodName := ⟨RX4, "does", "(I)I"⟩
abbrev cX4_reason : ByteArray := prog_1_method_20_code
def yX4_reason : MethodName := ⟨RX4, "reason", "(III)I"⟩
abbrev cX4_endsIn : ByteArray := prog_1_method_21_code
def yX4_endsIn : MethodName := ⟨RX4, "endsIn", "(I)I"⟩
abbrev cX4_wayUp : ByteArray := prog_1_method_22_code
def yX4_wayUp : MethodName := ⟨RX4, "wayUp", "(III)I"⟩
abbrev cX4_leader : ByteArray := prog_1_method_23_code
def yX4_leader : MethodName := ⟨RX4, "leader", "()I"⟩
abbrev cX4_owes : ByteArray := prog_1_method_24_code
def yX4_owes : MethodName := ⟨RX4, "owes", "(II)I"⟩
abbrev cX4_bestLane : ByteArray := prog_1_method_25_code
def yX4_bestLane : MethodName := ⟨RX4, "bestLane", "(II)I"⟩
abbrev cX4_turnsFrom : ByteArray := prog_1_method_26_code
def yX4_turnsFrom : MethodName := ⟨RX4, "turnsFrom", "(III)I"⟩
abbrev cX4_count : ByteArray := prog_1_method_27_code
def yX4_count : MethodName := ⟨RX4, "count", "(I)I"⟩
abbrev cX4_cellAt : ByteArray := prog_1_method_28_code
def yX4_cellAt : MethodName := ⟨RX4, "cellAt", "(II)I"⟩
abbrev cX4_sum : ByteArray := prog_1_method_29_code
def yX4_sum : MethodName := ⟨RX4, "sum", "([I)I"⟩
abbrev cX4_copy : ByteArray := prog_1_method_30_code
def yX4_copy : MethodName := ⟨RX4, "copy", "([I[I)V"⟩
def RX5 : String := "SnailTrailsModel"
def TX5 : u_T := fun k => match k with
  | 0 => ("SnailTrailsModel", "s", "[I", true)
  | 1 => ("SnailTrailsModel", "aside", "[I", true)
  | 2 => ("SnailTrailsModel", "past", "[I", true)
  | 3 => ("SnailTrailsModel", "pasts", "I", false)
  | 4 => ("SnailTrailsModel", "snapshot", "[I", true)
  | 5 => ("SnailTrailsModel", "isKept", "Z", false)
  | 6 => ("SnailTrailsModel", "text", "[C", true)
  | 7 => ("SnailTrailsModel", "length", "I", false)
  | 8 => ("SnailTrailsModel", "hasStop", "Z", false)
  | 9 => ("SnailTrailsModel", "stopAt", "I", false)
  | 10 => ("SnailTrailsModel", "stopWhy", "I", false)
  | 11 => ("SnailTrailsModel", "spot", "I", false)
  | 12 => ("SnailTrailsModel", "isWrong", "Z", false)
  | 13 => ("SnailTrailsModel", "kind", "I", false)
  | 14 => ("SnailTrailsModel", "first", "I", false)
  | 15 => ("SnailTrailsModel", "second", "I", false)
  | 16 => ("SnailTrailsModel", "third", "I", false)
  | 17 => ("SnailTrailsModel", "sums", "[I", true)
  | _ => ("SnailTrailsModel", "below", "[I", true)
def tyX5 : Nat → FieldType := fun k => match k with
  | 0 => .array .int
  | 1 => .array .int
  | 2 => .array .int
  | 3 => .int
  | 4 => .array .int
  | 5 => .boolean
  | 6 => .array .char
  | 7 => .int
  | 8 => .boolean
  | 9 => .int
  | 10 => .int
  | 11 => .int
  | 12 => .boolean
  | 13 => .int
  | 14 => .int
  | 15 => .int
  | 16 => .int
  | 17 => .array .int
  | _ => .array .int
abbrev wsX50 : List Cond := u_ws RX5 TX5 19
theorem nmX5 : ∀ a, a < 19 → ∀ b, b < 19 → a ≠ b → (TX5 a).2.1 ≠ (TX5 b).2.1 := by decide +kernel
theorem tyX5_ok : ∀ k, k < 19 → parseFieldDescriptor (TX5 k).2.2.1 = some (tyX5 k) := by decide +kernel
abbrev cX5_init : ByteArray := prog_7_method_1_code
def yX5_init : MethodName := ⟨RX5, "<init>", "()V"⟩
abbrev cX5_in : ByteArray := prog_7_method_3_code
def yX5_in : MethodName := ⟨RX5, "in", "(III)Z"⟩
abbrev cX5_isLane : ByteArray := prog_7_method_4_code
def yX5_isLane : MethodName := ⟨RX5, "isLane", "(I)Z"⟩
abbrev cX5_isCell : ByteArray := prog_7_method_5_code
def yX5_isCell : MethodName := ⟨RX5, "isCell", "(II)Z"⟩
abbrev cX5_isSnail : ByteArray := prog_7_method_6_code
def yX5_isSnail : MethodName := ⟨RX5, "isSnail", "(I)Z"⟩
abbrev cX5_of : ByteArray := prog_7_method_7_code
def yX5_of : MethodName := ⟨RX5, "of", "(II)I"⟩
abbrev cX5_at : ByteArray := prog_7_method_8_code
def yX5_at : MethodName := ⟨RX5, "at", "(II)I"⟩
abbrev cX5_creeps : ByteArray := prog_7_method_9_code
def yX5_creeps : MethodName := ⟨RX5, "creeps", "(I)Z"⟩
abbrev cX5_records : ByteArray := prog_7_method_10_code
def yX5_records : MethodName := ⟨RX5, "records", "()V"⟩
abbrev cX5_putAside : ByteArray := prog_7_method_11_code
def yX5_putAside : MethodName := ⟨RX5, "putAside", "()V"⟩
abbrev cX5_putBack : ByteArray := prog_7_method_12_code
def yX5_putBack : MethodName := ⟨RX5, "putBack", "()V"⟩
abbrev cX5_snailOn : ByteArray := prog_7_method_13_code
def yX5_snailOn : MethodName := ⟨RX5, "snailOn", "(II)I"⟩
abbrev cX5_barSnail : ByteArray := prog_7_method_14_code
def yX5_barSnail : MethodName := ⟨RX5, "barSnail", "(II)I"⟩
abbrev cX5_comes : ByteArray := prog_7_method_15_code
def yX5_comes : MethodName := ⟨RX5, "comes", "(II)I"⟩
abbrev cX5_setSnail : ByteArray := prog_7_method_16_code
def yX5_setSnail : MethodName := ⟨RX5, "setSnail", "(II)I"⟩
abbrev cX5_takeOff : ByteArray := prog_7_method_17_code
def yX5_takeOff : MethodName := ⟨RX5, "takeOff", "(I)I"⟩
abbrev cX5_barFrost : ByteArray := prog_7_method_18_code
def yX5_barFrost : MethodName := ⟨RX5, "barFrost", "(III)I"⟩
abbrev cX5_freezes : ByteArray := prog_7_method_19_code
def yX5_freezes : MethodName := ⟨RX5, "freezes", "(III)I"⟩
abbrev cX5_setFrost : ByteArray := prog_7_method_20_code
def yX5_setFrost : MethodName := ⟨RX5, "setFrost", "(III)I"⟩
abbrev cX5_dries : ByteArray := prog_7_method_21_code
def yX5_dries : MethodName := ⟨RX5, "dries", "()V"⟩
abbrev cX5_most : ByteArray := prog_7_method_22_code
def yX5_most : MethodName := ⟨RX5, "most", "(I)I"⟩
abbrev cX5_set : ByteArray := prog_7_method_23_code
def yX5_set : MethodName := ⟨RX5, "set", "(II)I"⟩
abbrev cX5_why : ByteArray := prog_7_method_24_code
def yX5_why : MethodName := ⟨RX5, "why", "(II)I"⟩
abbrev cX5_laneOf : ByteArray := prog_7_method_25_code
def yX5_laneOf : MethodName := ⟨RX5, "laneOf", "(II)I"⟩
abbrev cX5_price : ByteArray := prog_7_method_26_code
def yX5_price : MethodName := ⟨RX5, "price", "(II)I"⟩
abbrev cX5_chooses : ByteArray := prog_7_method_27_code
def yX5_chooses : MethodName := ⟨RX5, "chooses", "(I)I"⟩
abbrev cX5_creep : ByteArray := prog_7_method_28_code
def yX5_creep : MethodName := ⟨RX5, "creep", "(II)V"⟩
abbrev cX5_turn : ByteArray := prog_7_method_29_code
def yX5_turn : MethodName := ⟨RX5, "turn", "()V"⟩
abbrev cX5_passes : ByteArray := prog_7_method_30_code
def yX5_passes : MethodName := ⟨RX5, "passes", "(I)I"⟩
abbrev cX5_barPass : ByteArray := prog_7_method_31_code
def yX5_barPass : MethodName := ⟨RX5, "barPass", "(I)I"⟩
abbrev cX5_pass : ByteArray := prog_7_method_32_code
def yX5_pass : MethodName := ⟨RX5, "pass", "(I)I"⟩
abbrev cX5_type : ByteArray := prog_7_method_33_code
def yX5_type : MethodName := ⟨RX5, "type", "(C)I"⟩
abbrev cX5_clearText : ByteArray := prog_7_method_34_code
def yX5_clearText : MethodName := ⟨RX5, "clearText", "()I"⟩
abbrev cX5_next : ByteArray := prog_7_method_35_code
def yX5_next : MethodName := ⟨RX5, "next", "()I"⟩
abbrev cX5_sign : ByteArray := prog_7_method_36_code
def yX5_sign : MethodName := ⟨RX5, "sign", "(I)V"⟩
abbrev cX5_number : ByteArray := prog_7_method_37_code
def yX5_number : MethodName := ⟨RX5, "number", "(II)I"⟩
abbrev cX5_thing : ByteArray := prog_7_method_38_code
def yX5_thing : MethodName := ⟨RX5, "thing", "()V"⟩
abbrev cX5_things : ByteArray := prog_7_method_39_code
def yX5_things : MethodName := ⟨RX5, "things", "()I"⟩
abbrev cX5_doesThing : ByteArray := prog_7_method_40_code
def yX5_doesThing : MethodName := ⟨RX5, "doesThing", "()I"⟩
abbrev cX5_perform : ByteArray := prog_7_method_41_code
def yX5_perform : MethodName := ⟨RX5, "perform", "()I"⟩
abbrev cX5_stopped : ByteArray := prog_7_method_42_code
def yX5_stopped : MethodName := ⟨RX5, "stopped", "(I)I"⟩
abbrev cX5_undo : ByteArray := prog_7_method_43_code
def yX5_undo : MethodName := ⟨RX5, "undo", "()I"⟩
abbrev cX5_keep : ByteArray := prog_7_method_44_code
def yX5_keep : MethodName := ⟨RX5, "keep", "()I"⟩
abbrev cX5_restore : ByteArray := prog_7_method_45_code
def yX5_restore : MethodName := ⟨RX5, "restore", "()I"⟩
abbrev cX5_snail : ByteArray := prog_7_method_46_code
def yX5_snail : MethodName := ⟨RX5, "snail", "(II)I"⟩
abbrev cX5_cell : ByteArray := prog_7_method_47_code
def yX5_cell : MethodName := ⟨RX5, "cell", "(III)I"⟩
abbrev cX5_cost : ByteArray := prog_7_method_48_code
def yX5_cost : MethodName := ⟨RX5, "cost", "(II)I"⟩
abbrev cX5_does : ByteArray := prog_7_method_49_code
def yX5_does : MethodName := ⟨RX5, "does", "(I)I"⟩
abbrev cX5_reason : ByteArray := prog_7_method_50_code
def yX5_reason : MethodName := ⟨RX5, "reason", "(III)I"⟩
abbrev cX5_ends : ByteArray := prog_7_method_51_code
def yX5_ends : MethodName := ⟨RX5, "ends", "(I)I"⟩
abbrev cX5_endsIn : ByteArray := prog_7_method_52_code
def yX5_endsIn : MethodName := ⟨RX5, "endsIn", "(I)I"⟩
abbrev cX5_wayUp : ByteArray := prog_7_method_53_code
def yX5_wayUp : MethodName := ⟨RX5, "wayUp", "(III)I"⟩
abbrev cX5_leader : ByteArray := prog_7_method_54_code
def yX5_leader : MethodName := ⟨RX5, "leader", "()I"⟩
abbrev cX5_owes : ByteArray := prog_7_method_55_code
def yX5_owes : MethodName := ⟨RX5, "owes", "(II)I"⟩
abbrev cX5_bestLane : ByteArray := prog_7_method_56_code
def yX5_bestLane : MethodName := ⟨RX5, "bestLane", "(II)I"⟩
abbrev cX5_inState : ByteArray := prog_7_method_57_code
def yX5_inState : MethodName := ⟨RX5, "inState", "(I)I"⟩
abbrev cX5_ofAll : ByteArray := prog_7_method_58_code
def yX5_ofAll : MethodName := ⟨RX5, "ofAll", "(I)I"⟩
abbrev cX5_trails : ByteArray := prog_7_method_59_code
def yX5_trails : MethodName := ⟨RX5, "trails", "()I"⟩
abbrev cX5_frost : ByteArray := prog_7_method_60_code
def yX5_frost : MethodName := ⟨RX5, "frost", "()I"⟩
abbrev cX5_count : ByteArray := prog_7_method_61_code
def yX5_count : MethodName := ⟨RX5, "count", "(I)I"⟩
def RL : String := "SnailTrailsLaw"
end
section
/-! ===== the machine by positions: a memory of whole numbers, over a world whose cells stand fast ===== -/
/-- what the cells hold: position, slot ↦ number -/
abbrev zM : Type := Int → Int → Int
/-- a value: a number, a position, or null -/
abbrev zV : Type := Int ⊕ Option Int
/-- a cell's kind: an array of numbers (type, length); an object (class, fields: a position, told from its own, or a number); an array of positions (type, first, step, length) -/
abbrev zK : Type := (Nat × Nat) ⊕ ((Nat × List (Option Int)) ⊕ (Nat × Int × Int × Nat))
def zm_i (x : Int) : zV := .inl x
def zm_psh (i : Int) : zK := match i.toNat with
  | 0 => .inr (.inl (1, [some 1, some 2, some 3, some 4, some 5, some 6, some 7, some 8, some 9, some 10, some 11, some 12, some 13, some 14, some 24, none, none]))
  | 1 => .inl (0, 120) | 2 => .inl (0, 120) | 3 => .inl (0, 120)
  | 14 => .inr (.inr (2, 1, 1, 9))
  | 24 => .inl (0, 4)
  | _ => .inl (0, 9)
def zm_osh (i : Int) : zK := match i.toNat with
  | 175 => .inr (.inl (4, [some (-175), some (-150), some (-125), none, some 1, some 3, some 9, none, none]))
  | 176 => .inr (.inl (0, [some 1, none, none]))
  | 177 => .inr (.inr (3, -102, 25, 4))
  | 178 => .inr (.inl (2, [some 1, none, none, none, some 2, some 3, some 4, some 5]))
  | 179 => .inl (1, 60)
  | 180 => .inl (0, 21) | 181 => .inl (0, 21) | 182 => .inl (0, 21) | 183 => .inl (0, 21)
  | 184 => .inr (.inl (3, [some 1, some 2]))
  | 185 => .inl (0, 120) | 186 => .inl (0, 120)
  | 187 => .inr (.inl (5, [some 1, some 2, some 3, none, some 4, none, some 5, none, none, none, none, none, none, none, none, none, none, some 6, some 7]))
  | 188 => .inl (0, 538) | 189 => .inl (0, 538) | 190 => .inl (0, 2152) | 191 => .inl (0, 538)
  | 192 => .inl (1, 60)
  | 193 => .inl (0, 6) | _ => .inl (0, 6)
def zm_sh (k : Int) : zK := if k < 175 then zm_psh (k % 25) else zm_osh k
/-- a pane's position -/
def zP (p : Int) : Prop := 0 ≤ p ∧ p < 175 ∧ p % 25 = 0
theorem zm_sh_p {p : Int} (hp : zP p) (i : Int) (h : 0 ≤ i ∧ i < 25) : zm_sh (p + i) = zm_psh i := by
  obtain ⟨h1, h2, h3⟩ := hp
  unfold zm_sh
  rw [if_pos (by omega), show (p + i) % 25 = i by omega]
theorem zm_sh_p0 {p : Int} (hp : zP p) : zm_sh p = zm_psh 0 := by
  have := zm_sh_p hp 0 (by omega)
  rwa [Int.add_zero] at this
abbrev zm_cls : List vw_C := [(RX0, TX0, 3), (RX1, TX1, 17), (RX2, TX2, 8), (RX3, TX3, 2), (RX4, TX4, 9), (RX5, TX5, 19)]
def zm_ty (t : Nat) : FieldType := match t with
  | 0 => .int | 1 => .char | 2 => .array .int | _ => .object RX1
/-- the launch, the addresses, the array classes, the classes and their slots -/
abbrev zG : Type := Launch × (Int → Nat) × (Nat → ClassId) × va_G
abbrev zm_tys (G : zG) : List (ClassId × FieldType) := [(G.2.2.1 0, zm_ty 0), (G.2.2.1 1, zm_ty 1), (G.2.2.1 2, zm_ty 2), (G.2.2.1 3, zm_ty 3)]
def zc (G : zG) : zV → Value
  | .inl x => .int (Int32.ofInt x)
  | .inr (some k) => .ref (G.2.1 k)
  | .inr none => .null
theorem zc_cat (G : zG) (v : zV) : (zc G v).category = 1 := by
  rcases v with x | (_ | k) <;> rfl
def zm_fs (G : zG) (M : zM) (k : Int) : Nat → List (Option Int) → List Value
  | _, [] => []
  | i, none :: r => .int (Int32.ofInt (M k i)) :: zm_fs G M k (i + 1) r
  | i, some o :: r => .ref (G.2.1 (k + o)) :: zm_fs G M k (i + 1) r
def zm_ce (G : zG) (M : zM) (k : Int) : zK → va_E
  | .inl (t, n) => .inl (G.2.2.1 t, n, .inl (fun j => Int32.ofInt (M k (j : Int))))
  | .inr (.inl (ci, fs)) => .inr (ci, zm_fs G M k 0 fs)
  | .inr (.inr (t, o, st, n)) => .inl (G.2.2.1 t, n, .inr (.inr (.inr (.inr (fun j => if j < n then some (G.2.1 (k + o + st * (j : Int))) else none)))))
/-- how many positions there are -/
abbrev zN : Nat := 195
def zm_W (G : zG) (M : zM) : va_W := (List.range zN).map (fun j : Nat => (G.2.1 (j : Int), zm_ce G M (j : Int) (zm_sh (j : Int))))
def zm_A (G : zG) : Nat → Prop := fun q => ∃ j : Nat, j < zN ∧ q = G.2.1 (j : Int)
/-- the addresses are apart -/
def zm_J (G : zG) : Prop := ∀ i j : Nat, i < zN → j < zN → G.2.1 (i : Int) = G.2.1 (j : Int) → i = j
theorem zm_W_get (G : zG) (M : zM) {j : Nat} (h : j < zN) : (zm_W G M)[j]? = some (G.2.1 (j : Int), zm_ce G M (j : Int) (zm_sh (j : Int))) := by
  unfold zm_W
  rw [List.getElem?_map, List.getElem?_range h]
  rfl
theorem zm_W_at (G : zG) (M : zM) {a : Int} (h : 0 ≤ a ∧ a < 195) : (zm_W G M)[a.toNat]? = some (G.2.1 a, zm_ce G M a (zm_sh a)) := by
  have e := zm_W_get G M (j := a.toNat) (show a.toNat < 195 by omega)
  rw [show ((a.toNat : Nat) : Int) = a by omega] at e
  exact e
theorem zm_W_len (G : zG) (M : zM) : (zm_W G M).length = zN := by simp [zm_W]
theorem zm_D {G : zG} (hJ : zm_J G) (M : zM) : va_D (zm_A G) (zm_W G M) := by
  have key : ∀ (i : Nat) (p : Nat × va_E), (zm_W G M)[i]? = some p → i < zN ∧ p.1 = G.2.1 (i : Int) := by
    intro i p h
    have hl := (List.getElem?_eq_some_iff.mp h).1
    rw [zm_W_len] at hl
    rw [zm_W_get G M hl] at h
    cases h
    exact ⟨hl, rfl⟩
  refine ⟨fun i j p q hp hq hpq => ?_, fun k q hq => ?_⟩
  · obtain ⟨a1, a2⟩ := key i p hp
    obtain ⟨b1, b2⟩ := key j q hq
    exact hJ i j a1 b1 (a2.symm.trans (hpq.trans b2))
  · obtain ⟨a1, a2⟩ := key k q hq
    exact ⟨k, a1, a2⟩
theorem zm_W_set (G : zG) (M M' : zM) {a : Int} (h : 0 ≤ a ∧ a < 195) {e : va_E} (he : zm_ce G M' a (zm_sh a) = e) (ho : ∀ k : Int, k ≠ a → M' k = M k) : (zm_W G M).set a.toNat (G.2.1 a, e) = zm_W G M' := by
  have hl : a.toNat < zN := by show a.toNat < 195; omega
  apply List.ext_getElem?
  intro i
  by_cases hi : i = a.toNat
  · subst hi
    rw [List.getElem?_set_self (by rw [zm_W_len]; exact hl), zm_W_at G M' h, he]
  · rw [List.getElem?_set_ne (Ne.symm hi)]
    by_cases hl2 : i < zN
    · rw [zm_W_get G M hl2, zm_W_get G M' hl2]
      have e1 : M' (i : Int) = M (i : Int) := ho _ (by omega)
      have e2 : ∀ (j : Nat) (fs : List (Option Int)), zm_fs G M' (i : Int) j fs = zm_fs G M (i : Int) j fs := by
        intro j fs
        induction fs generalizing j with
        | nil => rfl
        | cons f r ih => cases f <;> simp [zm_fs, ih, e1]
      have e3 : zm_ce G M' (i : Int) (zm_sh (i : Int)) = zm_ce G M (i : Int) (zm_sh (i : Int)) := by
        rcases zm_sh (i : Int) with ⟨t, n⟩ | (⟨ci, fs⟩ | ⟨t, o, st, n⟩)
        · simp [zm_ce, e1]
        · simp [zm_ce, e2]
        · rfl
      rw [e3]
    · rw [List.getElem?_eq_none (by rw [zm_W_len]; omega), List.getElem?_eq_none (by rw [zm_W_len]; omega)]
/-- a write -/
def zm_up (M : zM) (a i v : Int) : zM := fun k j => if k = a ∧ j = i then v else M k j
theorem zm_up_off {M : zM} {a i v k : Int} (h : k ≠ a) : zm_up M a i v k = M k := by
  funext j
  simp [zm_up, h]
theorem zm_up_at {M : zM} {a i v : Int} : zm_up M a i v a i = v := by simp [zm_up]
theorem zm_up_ne {M : zM} {a i v j : Int} (h : j ≠ i) : zm_up M a i v a j = M a j := by simp [zm_up, h]
theorem zm_fs_len (G : zG) (M : zM) (a : Int) : ∀ (j : Nat) (fs : List (Option Int)), (zm_fs G M a j fs).length = fs.length
  | _, [] => rfl
  | j, none :: r => by simp [zm_fs, zm_fs_len G M a (j + 1) r]
  | j, some o :: r => by simp [zm_fs, zm_fs_len G M a (j + 1) r]
theorem zm_fs_get (G : zG) (M : zM) (a : Int) : ∀ (j k : Nat) (fs : List (Option Int)) (f : Option Int), fs[k]? = some f → (zm_fs G M a j fs)[k]? = some (match f with | none => .int (Int32.ofInt (M a ((j + k : Nat) : Int))) | some o => .ref (G.2.1 (a + o)))
  | _, _, [], _, h => by simp at h
  | j, 0, none :: r, f, h => by simp at h; subst h; simp [zm_fs]
  | j, 0, some o :: r, f, h => by simp at h; subst h; simp [zm_fs]
  | j, k + 1, none :: r, f, h => by
    have h1 := zm_fs_get G M a (j + 1) k r f (by simpa using h)
    simp only [zm_fs, List.getElem?_cons_succ]
    rw [h1, show j + 1 + k = j + (k + 1) by omega]
  | j, k + 1, some o :: r, f, h => by
    have h1 := zm_fs_get G M a (j + 1) k r f (by simpa using h)
    simp only [zm_fs, List.getElem?_cons_succ]
    rw [h1, show j + 1 + k = j + (k + 1) by omega]
theorem zm_fs_set (G : zG) (M : zM) (a v : Int) : ∀ (j k : Nat) (fs : List (Option Int)), fs[k]? = some none → (zm_fs G M a j fs).set k (.int (Int32.ofInt v)) = zm_fs G (zm_up M a ((j + k : Nat) : Int) v) a j fs
  | _, _, [], h => by simp at h
  | j, 0, some o :: r, h => by simp at h
  | j, 0, none :: r, h => by
    have key : ∀ (i : Nat) (fs : List (Option Int)), j < i → zm_fs G M a i fs = zm_fs G (zm_up M a ((j : Nat) : Int) v) a i fs := by
      intro i fs
      induction fs generalizing i with
      | nil => intro _; rfl
      | cons f r ih =>
        intro hi
        cases f with
        | none =>
          simp only [zm_fs]
          rw [← ih (i + 1) (by omega), zm_up_ne (by omega)]
        | some o =>
          simp only [zm_fs]
          rw [← ih (i + 1) (by omega)]
    simp only [zm_fs, List.set_cons_zero, Nat.add_zero]
    rw [zm_up_at, ← key (j + 1) r (by omega)]
  | j, k + 1, none :: r, h => by
    have h1 := zm_fs_set G M a v (j + 1) k r (by simpa using h)
    simp only [zm_fs, List.set_cons_succ]
    rw [h1, zm_up_ne (by omega), show j + 1 + k = j + (k + 1) by omega]
  | j, k + 1, some o :: r, h => by
    have h1 := zm_fs_set G M a v (j + 1) k r (by simpa using h)
    simp only [zm_fs, List.set_cons_succ]
    rw [h1, show j + 1 + k = j + (k + 1) by omega]
/-! numbers -/
theorem zn_lt {a b : Int} (ha : -2147483648 ≤ a ∧ a < 2147483648) (hb : -2147483648 ≤ b ∧ b < 2147483648) : Int32.ofInt a < Int32.ofInt b ↔ a < b := by
  rw [Int32.lt_iff_toInt_lt, Int32.toInt_ofInt_of_le (by omega) (by omega), Int32.toInt_ofInt_of_le (by omega) (by omega)]
theorem zn_le {a b : Int} (ha : -2147483648 ≤ a ∧ a < 2147483648) (hb : -2147483648 ≤ b ∧ b < 2147483648) : Int32.ofInt a ≤ Int32.ofInt b ↔ a ≤ b := by
  rw [Int32.le_iff_toInt_le, Int32.toInt_ofInt_of_le (by omega) (by omega), Int32.toInt_ofInt_of_le (by omega) (by omega)]
theorem zn_eq {a b : Int} (ha : -2147483648 ≤ a ∧ a < 2147483648) (hb : -2147483648 ≤ b ∧ b < 2147483648) : Int32.ofInt a = Int32.ofInt b ↔ a = b := by
  rw [← Int32.toInt_inj, Int32.toInt_ofInt_of_le (by omega) (by omega), Int32.toInt_ofInt_of_le (by omega) (by omega)]
theorem zn_cl {a : Int} (h : 0 ≤ a ∧ a < 2147483648) : (Int32.ofInt a).toNatClampNeg = a.toNat := Int32.toNatClampNeg_ofInt_of_le (by omega) (by omega)
theorem zn_in {a : Int} {n : Nat} (h : 0 ≤ a ∧ a < n) (hn : n < 2147483648) : vp_in (Int32.ofInt a) n := by
  intro q
  rcases q with q | q
  · have := (zn_lt (a := a) (b := 0) (by omega) (by omega)).mp q
    omega
  · rw [zn_cl (by omega)] at q
    omega
/-! the context of a method -/
/-- what the statics hold: SIDES, LEAST_SETTINGS, MOST_SETTINGS, at positions 1000, 1001, 1002 -/
def zm_st (k : Nat) : String × List Int := match k with
  | 0 => ("SIDES", [0, -1, 1])
  | 1 => ("LEAST_SETTINGS", [0, 1, 1, 1])
  | _ => ("MOST_SETTINGS", [99, 9, 20, 50])
def zm_S1 (G : zG) (A : Nat → Prop) (k : Nat) (U : State) (H : Heap) : Prop := va_Z RX4 (zm_st k).1 "[I" (.ref (G.2.1 (1000 + (k : Int)))) A U H ∧ va_T .int (G.2.1 (1000 + (k : Int))) (zm_st k).2.length (fun j => .int (Int32.ofInt ((zm_st k).2.getD j 0))) A U H
def zm_St (G : zG) (A : Nat → Prop) (U : State) (H : Heap) : Prop := ∀ k : Nat, k < 3 → zm_S1 G A k U H
theorem zm_St.moved {G : zG} {A : Nat → Prop} {u U : State} {H : Heap} (hvm : u.vm.Alike U.vm) (h : zm_St G A u H) : zm_St G A U H := fun k hk => ⟨(h k hk).1.moved hvm, (h k hk).2.moved hvm⟩
theorem zm_St.kept {G : zG} {A : Nat → Prop} {U : State} {H H1 : Heap} (h : zm_St G A U H) (hq : ∀ a : Nat, a < H.size → ¬ A a → H1[a]? = H[a]?) : zm_St G A U H1 := fun k hk => ⟨(h k hk).1.kept hq, (h k hk).2.kept hq⟩
/-- the words that every state of the run keeps, and those of nest mates -/
def zT : List Cond := lw_tbl.filter goodWord
def zm_isN : Cond → Bool
  | .fieldLinkNest .. => true
  | .methodLinkNest .. => true
  | _ => false
def zTN : List Cond := lw_tbl.filter zm_isN
theorem zin {i : Nat} {w : Cond} (h : lw_tbl[i]? = some w) (hg : goodWord w = true) : w ∈ zT := List.mem_filter.mpr ⟨List.mem_of_getElem? h, hg⟩
theorem zinN {i : Nat} {w : Cond} (h : lw_tbl[i]? = some w) (hg : zm_isN w = true) : w ∈ zTN := List.mem_filter.mpr ⟨List.mem_of_getElem? h, hg⟩
def zNs (U : State) : Prop := ∀ w ∈ zTN, va_Nw w U
theorem zNs.warm {s U : State} (hW : s.WarmedH U.vm) (h : zNs s) : zNs U := by
  intro w hw
  have hn := (List.mem_filter.mp hw).2
  have h1 := h w hw
  cases w <;> first | (simp [zm_isN] at hn; done) | exact va_Nw.warmF hW h1 | exact va_Nw.warmM hW h1
theorem zNs.same {u U : State} (hvm : u.vm = U.vm) (h : zNs u) : zNs U := by
  intro w hw
  have hn := (List.mem_filter.mp hw).2
  have h1 := h w hw
  cases w <;> first | (simp [zm_isN] at hn; done) | exact va_Nw.same rfl hvm h1
/-- a method: its class, its bytes, how many locals, its type, how deep its calls go -/
abbrev zY : Type := String × ByteArray × Nat × Option FieldType × Nat
def zm_rm (d : Nat) : Room := { frames := d, cells := 0, slots := 0, locals := 40 * d }
def zm_Cx (G : zG) (Y : zY) (p : Program) (s : State) (m : MethodId) (args : Array Value) (meth : Method) (c : Code) : Prop :=
  p.tables.exec = Jvm.exec ∧ c.code = Y.2.1 ∧ c.maxLocals = Y.2.2.1 ∧ meth.sig.returnType = Y.2.2.2.1 ∧ (∀ w ∈ zT, w.before args s = true) ∧ s.vm.findClass Y.1 = some m.cls ∧ meth.locks = false ∧ va_K G.2.2.2 zm_cls (zm_tys G) s ∧ zm_St G (zm_A G) s s.heap ∧ zm_J G ∧ zNs s
def zm_GP (G : zG) (M : zM) (H : Heap) : Prop := va_P G.2.2.2 zm_cls (zm_W G M) H
def zm_Qc (G : zG) (Q : Option zV → zM → Prop) : Array Value → State → Outcome → State → Prop := fun _ st oc t => (∃ (v : Option zV) (M' : zM), oc = .returned (v.map (zc G)) ∧ Q v M' ∧ zm_GP G M' t.heap) ∧ va_F (zm_A G) st t
def zm_lo (G : zG) (lo : List (Nat × zV)) : List (Nat × Value) := lo.map (fun q => (q.1, zc G q.2))
def zm_sk (G : zG) (st : List zV) : List Value := st.map (zc G)
/-- THE JUDGEMENT: from there, the method comes to its end with Q -/
def zW (G : zG) (Y : zY) (Q : Option zV → zM → Prop) (pc : Nat) (lo : List (Nat × zV)) (st : List zV) (M : zM) : Prop :=
  ∀ (p : Program) (e : Env) (s : State) (m : MethodId) (args : Array Value) (below : List Frame) (meth : Method) (c : Code), zm_Cx G Y p s m args meth c →
    ∀ (H : Heap) (locs : List Loc) (ls : Array Slot), zm_GP G M H → va_S (zm_A G) s.heap H locs → lv_has ls Y.2.2.1 (zm_lo G lo) →
      W p G.1 e (zm_rm Y.2.2.2.2) s m args below meth c H locs 0 0 (MQ below (zm_Qc G Q) args s 0 0 (zm_A G)) (F0 m pc ls (zm_sk G st))
/-- a local -/
def zk (lo : List (Nat × zV)) (i : Nat) : Option zV := match lo with
  | [] => none
  | q :: r => bif Nat.beq q.1 i then some q.2 else zk r i
def zs (lo : List (Nat × zV)) (i : Nat) (v : zV) : List (Nat × zV) := (i, v) :: lo.filter (fun q => !(Nat.beq q.1 i))
theorem zbeq (a b : Nat) : (a == b) = Nat.beq a b := by
  rw [Bool.eq_iff_iff]
  simp [Nat.beq_eq]
theorem zk_mem {lo : List (Nat × zV)} {i : Nat} {v : zV} (h : zk lo i = some v) : (i, v) ∈ lo := by
  induction lo with
  | nil => simp [zk] at h
  | cons q r ih =>
    unfold zk at h
    by_cases hq : q.1 = i
    · rw [show Nat.beq q.1 i = true from by rw [hq]; exact Nat.beq_refl i] at h
      cases h
      rw [← hq]
      exact List.mem_cons_self
    · rw [show Nat.beq q.1 i = false from by rw [← zbeq]; simpa using hq] at h
      exact List.mem_cons_of_mem _ (ih h)
theorem zk_lv {G : zG} {ls : Array Slot} {nL : Nat} {lo : List (Nat × zV)} (h : lv_has ls nL (zm_lo G lo)) {i : Nat} {v : zV} (hk : zk lo i = some v) : ls[i]? = some (.val (zc G v)) :=
  h.2.2 (i, zc G v) (List.mem_map.mpr ⟨(i, v), zk_mem hk, rfl⟩)
theorem zs_lo {G : zG} (lo : List (Nat × zV)) (i : Nat) (v : zV) : (i, zc G v) :: (zm_lo G lo).filter (fun q => !(q.1 == i) && !(q.1 + 1 == i && q.2.category == 2)) = zm_lo G (zs lo i v) := by
  unfold zs zm_lo
  rw [List.map_cons]
  congr 1
  rw [List.filter_map]
  congr 1
  apply List.filter_congr
  intro q _
  have hc := zc_cat G q.2
  show (!(q.1 == i) && !(q.1 + 1 == i && (zc G q.2).category == 2)) = !(Nat.beq q.1 i)
  rw [hc, ← zbeq]
  simp
/-- fewer locals -/
def zall (lo : List (Nat × zV)) : List (Nat × zV) → Prop
  | [] => True
  | q :: r => zk lo q.1 = some q.2 ∧ zall lo r
theorem zall_mem {lo : List (Nat × zV)} : ∀ {l2 : List (Nat × zV)}, zall lo l2 → ∀ q ∈ l2, q ∈ lo
  | [], _, q, h => by simp at h
  | q0 :: r, ⟨h1, h2⟩, q, h => by
    rcases List.mem_cons.mp h with h | h
    · subst h
      exact zk_mem h1
    · exact zall_mem h2 q h
theorem zsub {G : zG} {Y : zY} {Q : Option zV → zM → Prop} {pc : Nat} {lo l2 : List (Nat × zV)} {st : List zV} {M : zM} (h : zall lo l2) (k : zW G Y Q pc l2 st M) : zW G Y Q pc lo st M := by
  intro p e s m args below meth c C H locs ls hP hS hl
  refine k p e s m args below meth c C H locs ls hP hS ⟨hl.1, hl.2.1, fun q hq => ?_⟩
  obtain ⟨q1, h1, rfl⟩ := List.mem_map.mp hq
  exact hl.2.2 _ (List.mem_map.mpr ⟨q1, zall_mem h q1 h1, rfl⟩)
theorem zcong {G : zG} {Y : zY} {Q : Option zV → zM → Prop} {pc : Nat} {lo : List (Nat × zV)} {st : List zV} {M M' : zM} (h : M = M') (k : zW G Y Q pc lo st M') : zW G Y Q pc lo st M := h ▸ k
end
section
section ZR
variable {G : zG} {Y : zY} {Q : Option zV → zM → Prop} {pc : Nat} {lo : List (Nat × zV)} {st : List zV} {M : zM}
theorem z_iconst {n : Int} (hd : decode Y.2.1 pc = .ok (.iconst n, 1)) 
    (k : zW G Y Q (pc + 1) lo (.inl n :: st) M) : zW G Y Q pc lo st M := by
  intro p e s m args below meth c C H locs ls hP hS hl
  obtain ⟨hx, hb, hml, hr, hts, hown, hlk, hK, hSt, hJ, hN⟩ := id C
  exact lv_iconst hx hb hd rfl (k p e s m args below meth c C H locs ls hP hS hl)

theorem z_bipush {n : Int} (hd : decode Y.2.1 pc = .ok (.bipush n, 2)) (hv : (Int8.ofInt n).toInt32 = Int32.ofInt n)
    (k : zW G Y Q (pc + 2) lo (.inl n :: st) M) : zW G Y Q pc lo st M := by
  intro p e s m args below meth c C H locs ls hP hS hl
  obtain ⟨hx, hb, hml, hr, hts, hown, hlk, hK, hSt, hJ, hN⟩ := id C
  exact lv_bipush hx hb hd hv (k p e s m args below meth c C H locs ls hP hS hl)

theorem z_sipush {n : Int} (hd : decode Y.2.1 pc = .ok (.sipush n, 3)) (hv : (Int16.ofInt n).toInt32 = Int32.ofInt n)
    (k : zW G Y Q (pc + 3) lo (.inl n :: st) M) : zW G Y Q pc lo st M := by
  intro p e s m args below meth c C H locs ls hP hS hl
  obtain ⟨hx, hb, hml, hr, hts, hown, hlk, hK, hSt, hJ, hN⟩ := id C
  exact lv_sipush hx hb hd hv (k p e s m args below meth c C H locs ls hP hS hl)

theorem z_ldc {n : Int} {index : Nat} (hd : decode Y.2.1 pc = .ok (.ldc index, 2)) (hc : Jvm.Cond.constant Y.1 index (Int32.ofInt n) ∈ zT)
    (k : zW G Y Q (pc + 2) lo (.inl n :: st) M) : zW G Y Q pc lo st M := by
  intro p e s m args below meth c C H locs ls hP hS hl
  obtain ⟨hx, hb, hml, hr, hts, hown, hlk, hK, hSt, hJ, hN⟩ := id C
  exact lv_ldc hx hb hown (hts _ hc) hd (k p e s m args below meth c C H locs ls hP hS hl)

theorem z_iload_n {i : Fin 4} {x : Int} (hd : decode Y.2.1 pc = .ok (.iload_n i, 1)) (hk : zk lo i = some (.inl x))
    (k : zW G Y Q (pc + 1) lo (.inl x :: st) M) : zW G Y Q pc lo st M := by
  intro p e s m args below meth c C H locs ls hP hS hl
  obtain ⟨hx, hb, hml, hr, hts, hown, hlk, hK, hSt, hJ, hN⟩ := id C
  exact lv_iload_n hx hb hd rfl (zk_lv hl hk) (k p e s m args below meth c C H locs ls hP hS hl)

theorem z_iload {i : Nat} {x : Int} (hd : decode Y.2.1 pc = .ok (.iload i, 2)) (hk : zk lo i = some (.inl x))
    (k : zW G Y Q (pc + 2) lo (.inl x :: st) M) : zW G Y Q pc lo st M := by
  intro p e s m args below meth c C H locs ls hP hS hl
  obtain ⟨hx, hb, hml, hr, hts, hown, hlk, hK, hSt, hJ, hN⟩ := id C
  exact lv_iload hx hb hd (zk_lv hl hk) (k p e s m args below meth c C H locs ls hP hS hl)

theorem z_aload_n {i : Fin 4} {x : Int} (hd : decode Y.2.1 pc = .ok (.aload_n i, 1)) (hk : zk lo i = some (.inr (some x)))
    (k : zW G Y Q (pc + 1) lo (.inr (some x) :: st) M) : zW G Y Q pc lo st M := by
  intro p e s m args below meth c C H locs ls hP hS hl
  obtain ⟨hx, hb, hml, hr, hts, hown, hlk, hK, hSt, hJ, hN⟩ := id C
  exact lv_aload_n hx hb hd rfl (zk_lv hl hk) (k p e s m args below meth c C H locs ls hP hS hl)

theorem z_aload {i : Nat} {x : Int} (hd : decode Y.2.1 pc = .ok (.aload i, 2)) (hk : zk lo i = some (.inr (some x)))
    (k : zW G Y Q (pc + 2) lo (.inr (some x) :: st) M) : zW G Y Q pc lo st M := by
  intro p e s m args below meth c C H locs ls hP hS hl
  obtain ⟨hx, hb, hml, hr, hts, hown, hlk, hK, hSt, hJ, hN⟩ := id C
  exact lv_aload hx hb hd (zk_lv hl hk) (k p e s m args below meth c C H locs ls hP hS hl)

theorem z_aload_nN {i : Fin 4} (hd : decode Y.2.1 pc = .ok (.aload_n i, 1)) (hk : zk lo i = some (.inr none))
    (k : zW G Y Q (pc + 1) lo (.inr none :: st) M) : zW G Y Q pc lo st M := by
  intro p e s m args below meth c C H locs ls hP hS hl
  obtain ⟨hx, hb, hml, hr, hts, hown, hlk, hK, hSt, hJ, hN⟩ := id C
  exact lv_aload_nN hx hb hd rfl (zk_lv hl hk) (k p e s m args below meth c C H locs ls hP hS hl)

theorem z_aconst_null  (hd : decode Y.2.1 pc = .ok (.aconst_null, 1)) 
    (k : zW G Y Q (pc + 1) lo (.inr none :: st) M) : zW G Y Q pc lo st M := by
  intro p e s m args below meth c C H locs ls hP hS hl
  obtain ⟨hx, hb, hml, hr, hts, hown, hlk, hK, hSt, hJ, hN⟩ := id C
  exact lv_null hx hb hd  (k p e s m args below meth c C H locs ls hP hS hl)

theorem z_istore_n {i : Fin 4} {x : Int} (hd : decode Y.2.1 pc = .ok (.istore_n i, 1)) (hn : i < Y.2.2.1)
    (k : zW G Y Q (pc + 1) (zs lo i (.inl x)) st M) : zW G Y Q pc lo (.inl x :: st) M := by
  intro p e s m args below meth c C H locs ls hP hS hl
  obtain ⟨hx, hb, hml, hr, hts, hown, hlk, hK, hSt, hJ, hN⟩ := id C
  exact lv_istore_n hx hb hd rfl hl hn (zs_lo lo i (.inl x)) (fun ls' hl' => k p e s m args below meth c C H locs ls' hP hS hl')

theorem z_istore {i : Nat} {x : Int} (hd : decode Y.2.1 pc = .ok (.istore i, 2)) (hn : i < Y.2.2.1)
    (k : zW G Y Q (pc + 2) (zs lo i (.inl x)) st M) : zW G Y Q pc lo (.inl x :: st) M := by
  intro p e s m args below meth c C H locs ls hP hS hl
  obtain ⟨hx, hb, hml, hr, hts, hown, hlk, hK, hSt, hJ, hN⟩ := id C
  exact lv_istore hx hb hd  hl hn (zs_lo lo i (.inl x)) (fun ls' hl' => k p e s m args below meth c C H locs ls' hP hS hl')

theorem z_astore_n {i : Fin 4} {x : Int} (hd : decode Y.2.1 pc = .ok (.astore_n i, 1)) (hn : i < Y.2.2.1)
    (k : zW G Y Q (pc + 1) (zs lo i (.inr (some x))) st M) : zW G Y Q pc lo (.inr (some x) :: st) M := by
  intro p e s m args below meth c C H locs ls hP hS hl
  obtain ⟨hx, hb, hml, hr, hts, hown, hlk, hK, hSt, hJ, hN⟩ := id C
  exact lv_astore_n hx hb hd rfl hl hn (zs_lo lo i (.inr (some x))) (fun ls' hl' => k p e s m args below meth c C H locs ls' hP hS hl')

theorem z_astore {i : Nat} {x : Int} (hd : decode Y.2.1 pc = .ok (.astore i, 2)) (hn : i < Y.2.2.1)
    (k : zW G Y Q (pc + 2) (zs lo i (.inr (some x))) st M) : zW G Y Q pc lo (.inr (some x) :: st) M := by
  intro p e s m args below meth c C H locs ls hP hS hl
  obtain ⟨hx, hb, hml, hr, hts, hown, hlk, hK, hSt, hJ, hN⟩ := id C
  exact lv_astore hx hb hd  hl hn (zs_lo lo i (.inr (some x))) (fun ls' hl' => k p e s m args below meth c C H locs ls' hP hS hl')

theorem zk_idx {lo : List (Nat × zV)} {i : Nat} {v : zV} (G : zG) (h : zk lo i = some v) : ∃ j : Nat, (zm_lo G lo)[j]? = some (i, zc G v) := by
  obtain ⟨j, hj⟩ := List.getElem?_of_mem (zk_mem h)
  exact ⟨j, by unfold zm_lo; rw [List.getElem?_map, hj]; rfl⟩
theorem z_astore_nN {i : Fin 4} (hd : decode Y.2.1 pc = .ok (.astore_n i, 1)) (hn : i < Y.2.2.1)
    (k : zW G Y Q (pc + 1) (zs lo i (.inr none)) st M) : zW G Y Q pc lo (.inr none :: st) M := by
  intro p e s m args below meth c C H locs ls hP hS hl
  obtain ⟨hx, hb, hml, hr, hts, hown, hlk, hK, hSt, hJ, hN⟩ := id C
  exact lv_astore_nN hx hb hd rfl hl hn (zs_lo lo i (.inr none)) (fun ls' hl' => k p e s m args below meth c C H locs ls' hP hS hl')
theorem z_iinc {i : Nat} {n x : Int} (hd : decode Y.2.1 pc = .ok (.iinc i n, 3)) (hk : zk lo i = some (.inl x)) (hn : i < Y.2.2.1)
    (k : zW G Y Q (pc + 3) (zs lo i (.inl (x + n))) st M) : zW G Y Q pc lo st M := by
  intro p e s m args below meth c C H locs ls hP hS hl
  obtain ⟨hx, hb, hml, hr, hts, hown, hlk, hK, hSt, hJ, hN⟩ := id C
  obtain ⟨j, hj⟩ := zk_idx G hk
  exact lv_iinc hx hb hd hl hj (Int32.ofInt_add x n).symm hn (zs_lo lo i (.inl (x + n))) (fun ls' hl' => k p e s m args below meth c C H locs ls' hP hS hl')

theorem z_iadd {x y : Int} (hd : decode Y.2.1 pc = .ok (.iadd, 1))
    (k : zW G Y Q (pc + 1) lo (.inl (x + y) :: st) M) : zW G Y Q pc lo (.inl y :: .inl x :: st) M := by
  intro p e s m args below meth c C H locs ls hP hS hl
  obtain ⟨hx, hb, hml, hr, hts, hown, hlk, hK, hSt, hJ, hN⟩ := id C
  refine lv_iadd hx hb hd ?_
  rw [← Int32.ofInt_add]
  exact k p e s m args below meth c C H locs ls hP hS hl

theorem z_isub {x y : Int} (hd : decode Y.2.1 pc = .ok (.isub, 1))
    (k : zW G Y Q (pc + 1) lo (.inl (x - y) :: st) M) : zW G Y Q pc lo (.inl y :: .inl x :: st) M := by
  intro p e s m args below meth c C H locs ls hP hS hl
  obtain ⟨hx, hb, hml, hr, hts, hown, hlk, hK, hSt, hJ, hN⟩ := id C
  refine lv_isub hx hb hd ?_
  rw [← Int32.ofInt_sub]
  exact k p e s m args below meth c C H locs ls hP hS hl

theorem z_imul {x y : Int} (hd : decode Y.2.1 pc = .ok (.imul, 1))
    (k : zW G Y Q (pc + 1) lo (.inl (x * y) :: st) M) : zW G Y Q pc lo (.inl y :: .inl x :: st) M := by
  intro p e s m args below meth c C H locs ls hP hS hl
  obtain ⟨hx, hb, hml, hr, hts, hown, hlk, hK, hSt, hJ, hN⟩ := id C
  refine lv_imul hx hb hd ?_
  rw [← Int32.ofInt_mul]
  exact k p e s m args below meth c C H locs ls hP hS hl

theorem zn_div {x y : Int} (hx : 0 ≤ x ∧ x < 2147483648) (hy : 0 < y ∧ y < 2147483648) : Int32.ofInt x / Int32.ofInt y = Int32.ofInt (x / y) := by
  have e := Int32.ofInt_tdiv (a := x) (b := y) (by show (-2147483648 : Int) ≤ x; omega) (by show x ≤ (2147483647 : Int); omega) (by show (-2147483648 : Int) ≤ y; omega) (by show y ≤ (2147483647 : Int); omega)
  rw [← e, Int.tdiv_eq_ediv_of_nonneg hx.1]
theorem zn_ne0 {y : Int} (hy : 0 < y ∧ y < 2147483648) : ¬ Int32.ofInt y = 0 := by
  intro h
  have := (zn_eq (a := y) (b := 0) (by omega) (by omega)).mp h
  omega
theorem z_idiv {x y : Int} (hd : decode Y.2.1 pc = .ok (.idiv, 1)) (h1 : 0 ≤ x ∧ x < 2147483648) (h2 : 0 < y ∧ y < 2147483648)
    (k : zW G Y Q (pc + 1) lo (.inl (x / y) :: st) M) : zW G Y Q pc lo (.inl y :: .inl x :: st) M := by
  intro p e s m args below meth c C H locs ls hP hS hl
  obtain ⟨hx, hb, hml, hr, hts, hown, hlk, hK, hSt, hJ, hN⟩ := id C
  refine lv_idiv hx hb hd (zn_ne0 h2) ?_
  rw [zn_div h1 h2]
  exact k p e s m args below meth c C H locs ls hP hS hl
theorem z_irem {x y : Int} (hd : decode Y.2.1 pc = .ok (.irem, 1)) (h1 : 0 ≤ x ∧ x < 2147483648) (h2 : 0 < y ∧ y < 2147483648)
    (k : zW G Y Q (pc + 1) lo (.inl (x % y) :: st) M) : zW G Y Q pc lo (.inl y :: .inl x :: st) M := by
  intro p e s m args below meth c C H locs ls hP hS hl
  obtain ⟨hx, hb, hml, hr, hts, hown, hlk, hK, hSt, hJ, hN⟩ := id C
  refine lv_irem hx hb hd (zn_ne0 h2) ?_
  rw [zn_div h1 h2, ← Int32.ofInt_mul, ← Int32.ofInt_sub, show x - x / y * y = x % y by rw [Int.emod_def, Int.mul_comm]]
  exact k p e s m args below meth c C H locs ls hP hS hl
theorem z_dup {v : zV} (hd : decode Y.2.1 pc = .ok (.dup, 1))
    (k : zW G Y Q (pc + 1) lo (v :: v :: st) M) : zW G Y Q pc lo (v :: st) M := by
  intro p e s m args below meth c C H locs ls hP hS hl
  obtain ⟨hx, hb, hml, hr, hts, hown, hlk, hK, hSt, hJ, hN⟩ := id C
  exact lv_dup hx hb hd (zc_cat G v) (k p e s m args below meth c C H locs ls hP hS hl)
theorem z_pop {v : zV} (hd : decode Y.2.1 pc = .ok (.pop, 1))
    (k : zW G Y Q (pc + 1) lo st M) : zW G Y Q pc lo (v :: st) M := by
  intro p e s m args below meth c C H locs ls hP hS hl
  obtain ⟨hx, hb, hml, hr, hts, hown, hlk, hK, hSt, hJ, hN⟩ := id C
  exact lv_pop hx hb hd (zc_cat G v) (k p e s m args below meth c C H locs ls hP hS hl)
theorem z_dup2 {v w : zV} (hd : decode Y.2.1 pc = .ok (.dup2, 1))
    (k : zW G Y Q (pc + 1) lo (v :: w :: v :: w :: st) M) : zW G Y Q pc lo (v :: w :: st) M := by
  intro p e s m args below meth c C H locs ls hP hS hl
  obtain ⟨hx, hb, hml, hr, hts, hown, hlk, hK, hSt, hJ, hN⟩ := id C
  exact lv_dup2_11 hx hb hd (zc_cat G v) (zc_cat G w) (k p e s m args below meth c C H locs ls hP hS hl)
theorem z_goto {off : Int} {tgt : Nat} (hd : decode Y.2.1 pc = .ok (.goto off, 3)) (ht : (pc : Int) + off = (tgt : Int))
    (k : zW G Y Q tgt lo st M) : zW G Y Q pc lo st M := by
  intro p e s m args below meth c C H locs ls hP hS hl
  obtain ⟨hx, hb, hml, hr, hts, hown, hlk, hK, hSt, hJ, hN⟩ := id C
  exact lv_goto hx hb hd ht (k p e s m args below meth c C H locs ls hP hS hl)

theorem z_icmp_eq {x y : Int} {off : Int} {tgt : Nat} (hd : decode Y.2.1 pc = .ok (.if_icmp .eq off, 3)) (ht : (pc : Int) + off = (tgt : Int)) (rx : -2147483648 ≤ x ∧ x < 2147483648) (ry : -2147483648 ≤ y ∧ y < 2147483648)
    (kt : x = y → zW G Y Q tgt lo st M) (kf : ¬ x = y → zW G Y Q (pc + 3) lo st M) : zW G Y Q pc lo (.inl y :: .inl x :: st) M := by
  intro p e s m args below meth c C H locs ls hP hS hl
  obtain ⟨hx, hb, hml, hr, hts, hown, hlk, hK, hSt, hJ, hN⟩ := id C

  exact lv_icmp_eq hx hb hd ht (fun h => kt ((zn_eq (b := y) rx ry).mp h) p e s m args below meth c C H locs ls hP hS hl) (fun h => kf (fun q => h ((zn_eq (b := y) rx ry).mpr q)) p e s m args below meth c C H locs ls hP hS hl)

theorem z_if_eq {x : Int} {off : Int} {tgt : Nat} (hd : decode Y.2.1 pc = .ok (.ifCond .eq off, 3)) (ht : (pc : Int) + off = (tgt : Int)) (rx : -2147483648 ≤ x ∧ x < 2147483648)
    (kt : x = 0 → zW G Y Q tgt lo st M) (kf : ¬ x = 0 → zW G Y Q (pc + 3) lo st M) : zW G Y Q pc lo (.inl x :: st) M := by
  intro p e s m args below meth c C H locs ls hP hS hl
  obtain ⟨hx, hb, hml, hr, hts, hown, hlk, hK, hSt, hJ, hN⟩ := id C
  have ry : (-2147483648 : Int) ≤ 0 ∧ (0 : Int) < 2147483648 := by omega

  exact lv_if_eq hx hb hd ht (fun h => kt ((zn_eq (b := 0) rx ry).mp h) p e s m args below meth c C H locs ls hP hS hl) (fun h => kf (fun q => h ((zn_eq (b := 0) rx ry).mpr q)) p e s m args below meth c C H locs ls hP hS hl)

theorem z_icmp_ne {x y : Int} {off : Int} {tgt : Nat} (hd : decode Y.2.1 pc = .ok (.if_icmp .ne off, 3)) (ht : (pc : Int) + off = (tgt : Int)) (rx : -2147483648 ≤ x ∧ x < 2147483648) (ry : -2147483648 ≤ y ∧ y < 2147483648)
    (kt : ¬ x = y → zW G Y Q tgt lo st M) (kf : x = y → zW G Y Q (pc + 3) lo st M) : zW G Y Q pc lo (.inl y :: .inl x :: st) M := by
  intro p e s m args below meth c C H locs ls hP hS hl
  obtain ⟨hx, hb, hml, hr, hts, hown, hlk, hK, hSt, hJ, hN⟩ := id C

  exact lv_icmp_ne hx hb hd ht (fun h => kt (fun q => h ((zn_eq (b := y) rx ry).mpr q)) p e s m args below meth c C H locs ls hP hS hl) (fun h => kf ((zn_eq (b := y) rx ry).mp h) p e s m args below meth c C H locs ls hP hS hl)

theorem z_if_ne {x : Int} {off : Int} {tgt : Nat} (hd : decode Y.2.1 pc = .ok (.ifCond .ne off, 3)) (ht : (pc : Int) + off = (tgt : Int)) (rx : -2147483648 ≤ x ∧ x < 2147483648)
    (kt : ¬ x = 0 → zW G Y Q tgt lo st M) (kf : x = 0 → zW G Y Q (pc + 3) lo st M) : zW G Y Q pc lo (.inl x :: st) M := by
  intro p e s m args below meth c C H locs ls hP hS hl
  obtain ⟨hx, hb, hml, hr, hts, hown, hlk, hK, hSt, hJ, hN⟩ := id C
  have ry : (-2147483648 : Int) ≤ 0 ∧ (0 : Int) < 2147483648 := by omega

  exact lv_if_ne hx hb hd ht (fun h => kt (fun q => h ((zn_eq (b := 0) rx ry).mpr q)) p e s m args below meth c C H locs ls hP hS hl) (fun h => kf ((zn_eq (b := 0) rx ry).mp h) p e s m args below meth c C H locs ls hP hS hl)

theorem z_icmp_lt {x y : Int} {off : Int} {tgt : Nat} (hd : decode Y.2.1 pc = .ok (.if_icmp .lt off, 3)) (ht : (pc : Int) + off = (tgt : Int)) (rx : -2147483648 ≤ x ∧ x < 2147483648) (ry : -2147483648 ≤ y ∧ y < 2147483648)
    (kt : x < y → zW G Y Q tgt lo st M) (kf : y ≤ x → zW G Y Q (pc + 3) lo st M) : zW G Y Q pc lo (.inl y :: .inl x :: st) M := by
  intro p e s m args below meth c C H locs ls hP hS hl
  obtain ⟨hx, hb, hml, hr, hts, hown, hlk, hK, hSt, hJ, hN⟩ := id C

  exact lv_icmp_lt hx hb hd ht (fun h => kt ((zn_lt (b := y) rx ry).mp h) p e s m args below meth c C H locs ls hP hS hl) (fun h => kf (Int.not_lt.mp (fun q => h ((zn_lt (b := y) rx ry).mpr q))) p e s m args below meth c C H locs ls hP hS hl)

theorem z_if_lt {x : Int} {off : Int} {tgt : Nat} (hd : decode Y.2.1 pc = .ok (.ifCond .lt off, 3)) (ht : (pc : Int) + off = (tgt : Int)) (rx : -2147483648 ≤ x ∧ x < 2147483648)
    (kt : x < 0 → zW G Y Q tgt lo st M) (kf : 0 ≤ x → zW G Y Q (pc + 3) lo st M) : zW G Y Q pc lo (.inl x :: st) M := by
  intro p e s m args below meth c C H locs ls hP hS hl
  obtain ⟨hx, hb, hml, hr, hts, hown, hlk, hK, hSt, hJ, hN⟩ := id C
  have ry : (-2147483648 : Int) ≤ 0 ∧ (0 : Int) < 2147483648 := by omega

  exact lv_if_lt hx hb hd ht (fun h => kt ((zn_lt (b := 0) rx ry).mp h) p e s m args below meth c C H locs ls hP hS hl) (fun h => kf (Int.not_lt.mp (fun q => h ((zn_lt (b := 0) rx ry).mpr q))) p e s m args below meth c C H locs ls hP hS hl)

theorem z_icmp_ge {x y : Int} {off : Int} {tgt : Nat} (hd : decode Y.2.1 pc = .ok (.if_icmp .ge off, 3)) (ht : (pc : Int) + off = (tgt : Int)) (rx : -2147483648 ≤ x ∧ x < 2147483648) (ry : -2147483648 ≤ y ∧ y < 2147483648)
    (kt : y ≤ x → zW G Y Q tgt lo st M) (kf : x < y → zW G Y Q (pc + 3) lo st M) : zW G Y Q pc lo (.inl y :: .inl x :: st) M := by
  intro p e s m args below meth c C H locs ls hP hS hl
  obtain ⟨hx, hb, hml, hr, hts, hown, hlk, hK, hSt, hJ, hN⟩ := id C

  exact lv_icmp_ge hx hb hd ht (fun h => kt ((zn_le (a := y) ry rx).mp h) p e s m args below meth c C H locs ls hP hS hl) (fun h => kf (Int.not_le.mp (fun q => h ((zn_le (a := y) ry rx).mpr q))) p e s m args below meth c C H locs ls hP hS hl)

theorem z_if_ge {x : Int} {off : Int} {tgt : Nat} (hd : decode Y.2.1 pc = .ok (.ifCond .ge off, 3)) (ht : (pc : Int) + off = (tgt : Int)) (rx : -2147483648 ≤ x ∧ x < 2147483648)
    (kt : 0 ≤ x → zW G Y Q tgt lo st M) (kf : x < 0 → zW G Y Q (pc + 3) lo st M) : zW G Y Q pc lo (.inl x :: st) M := by
  intro p e s m args below meth c C H locs ls hP hS hl
  obtain ⟨hx, hb, hml, hr, hts, hown, hlk, hK, hSt, hJ, hN⟩ := id C
  have ry : (-2147483648 : Int) ≤ 0 ∧ (0 : Int) < 2147483648 := by omega

  exact lv_if_ge hx hb hd ht (fun h => kt ((zn_le (a := 0) ry rx).mp h) p e s m args below meth c C H locs ls hP hS hl) (fun h => kf (Int.not_le.mp (fun q => h ((zn_le (a := 0) ry rx).mpr q))) p e s m args below meth c C H locs ls hP hS hl)

theorem z_icmp_gt {x y : Int} {off : Int} {tgt : Nat} (hd : decode Y.2.1 pc = .ok (.if_icmp .gt off, 3)) (ht : (pc : Int) + off = (tgt : Int)) (rx : -2147483648 ≤ x ∧ x < 2147483648) (ry : -2147483648 ≤ y ∧ y < 2147483648)
    (kt : y < x → zW G Y Q tgt lo st M) (kf : x ≤ y → zW G Y Q (pc + 3) lo st M) : zW G Y Q pc lo (.inl y :: .inl x :: st) M := by
  intro p e s m args below meth c C H locs ls hP hS hl
  obtain ⟨hx, hb, hml, hr, hts, hown, hlk, hK, hSt, hJ, hN⟩ := id C

  exact lv_icmp_gt hx hb hd ht (fun h => kt ((zn_lt (a := y) ry rx).mp h) p e s m args below meth c C H locs ls hP hS hl) (fun h => kf (Int.not_lt.mp (fun q => h ((zn_lt (a := y) ry rx).mpr q))) p e s m args below meth c C H locs ls hP hS hl)

theorem z_if_gt {x : Int} {off : Int} {tgt : Nat} (hd : decode Y.2.1 pc = .ok (.ifCond .gt off, 3)) (ht : (pc : Int) + off = (tgt : Int)) (rx : -2147483648 ≤ x ∧ x < 2147483648)
    (kt : 0 < x → zW G Y Q tgt lo st M) (kf : x ≤ 0 → zW G Y Q (pc + 3) lo st M) : zW G Y Q pc lo (.inl x :: st) M := by
  intro p e s m args below meth c C H locs ls hP hS hl
  obtain ⟨hx, hb, hml, hr, hts, hown, hlk, hK, hSt, hJ, hN⟩ := id C
  have ry : (-2147483648 : Int) ≤ 0 ∧ (0 : Int) < 2147483648 := by omega

  exact lv_if_gt hx hb hd ht (fun h => kt ((zn_lt (a := 0) ry rx).mp h) p e s m args below meth c C H locs ls hP hS hl) (fun h => kf (Int.not_lt.mp (fun q => h ((zn_lt (a := 0) ry rx).mpr q))) p e s m args below meth c C H locs ls hP hS hl)

theorem z_icmp_le {x y : Int} {off : Int} {tgt : Nat} (hd : decode Y.2.1 pc = .ok (.if_icmp .le off, 3)) (ht : (pc : Int) + off = (tgt : Int)) (rx : -2147483648 ≤ x ∧ x < 2147483648) (ry : -2147483648 ≤ y ∧ y < 2147483648)
    (kt : x ≤ y → zW G Y Q tgt lo st M) (kf : y < x → zW G Y Q (pc + 3) lo st M) : zW G Y Q pc lo (.inl y :: .inl x :: st) M := by
  intro p e s m args below meth c C H locs ls hP hS hl
  obtain ⟨hx, hb, hml, hr, hts, hown, hlk, hK, hSt, hJ, hN⟩ := id C

  exact lv_icmp_le hx hb hd ht (fun h => kt ((zn_le (b := y) rx ry).mp h) p e s m args below meth c C H locs ls hP hS hl) (fun h => kf (Int.not_le.mp (fun q => h ((zn_le (b := y) rx ry).mpr q))) p e s m args below meth c C H locs ls hP hS hl)

theorem z_if_le {x : Int} {off : Int} {tgt : Nat} (hd : decode Y.2.1 pc = .ok (.ifCond .le off, 3)) (ht : (pc : Int) + off = (tgt : Int)) (rx : -2147483648 ≤ x ∧ x < 2147483648)
    (kt : x ≤ 0 → zW G Y Q tgt lo st M) (kf : 0 < x → zW G Y Q (pc + 3) lo st M) : zW G Y Q pc lo (.inl x :: st) M := by
  intro p e s m args below meth c C H locs ls hP hS hl
  obtain ⟨hx, hb, hml, hr, hts, hown, hlk, hK, hSt, hJ, hN⟩ := id C
  have ry : (-2147483648 : Int) ≤ 0 ∧ (0 : Int) < 2147483648 := by omega

  exact lv_if_le hx hb hd ht (fun h => kt ((zn_le (b := 0) rx ry).mp h) p e s m args below meth c C H locs ls hP hS hl) (fun h => kf (Int.not_le.mp (fun q => h ((zn_le (b := 0) rx ry).mpr q))) p e s m args below meth c C H locs ls hP hS hl)

theorem z_ifnonnull {off : Int} {tgt : Nat} {x : Int} (hd : decode Y.2.1 pc = .ok (.ifnonnull off, 3)) (ht : (pc : Int) + off = (tgt : Int))
    (k : zW G Y Q tgt lo st M) : zW G Y Q pc lo (.inr (some x) :: st) M := by
  intro p e s m args below meth c C H locs ls hP hS hl
  obtain ⟨hx, hb, hml, hr, hts, hown, hlk, hK, hSt, hJ, hN⟩ := id C
  exact lv_ifnonnull hx hb hd ht (k p e s m args below meth c C H locs ls hP hS hl)
theorem z_ifnonnullN {off : Int} (hd : decode Y.2.1 pc = .ok (.ifnonnull off, 3))
    (k : zW G Y Q (pc + 3) lo st M) : zW G Y Q pc lo (.inr none :: st) M := by
  intro p e s m args below meth c C H locs ls hP hS hl
  obtain ⟨hx, hb, hml, hr, hts, hown, hlk, hK, hSt, hJ, hN⟩ := id C
  exact lv_ifnonnullN hx hb hd (k p e s m args below meth c C H locs ls hP hS hl)
theorem z_tabOut {dflt a b : Int} {offs : Array Int} {len tgt : Nat} {x : Int} (hd : decode Y.2.1 pc = .ok (.tableswitch dflt a b offs, len)) (rx : -2147483648 ≤ x ∧ x < 2147483648) (h : x < a ∨ b < x) (ht : (pc : Int) + dflt = (tgt : Int))
    (k : zW G Y Q tgt lo st M) : zW G Y Q pc lo (.inl x :: st) M := by
  intro p e s m args below meth c C H locs ls hP hS hl
  obtain ⟨hx, hb, hml, hr, hts, hown, hlk, hK, hSt, hJ, hN⟩ := id C
  exact lv_tableOut hx hb hd (by rw [Int32.toInt_ofInt_of_le (by omega) (by omega)]; exact h) ht (k p e s m args below meth c C H locs ls hP hS hl)
theorem z_tabIn {dflt a b off : Int} {offs : Array Int} {len tgt : Nat} {x : Int} (hd : decode Y.2.1 pc = .ok (.tableswitch dflt a b offs, len)) (rx : -2147483648 ≤ x ∧ x < 2147483648) (h : a ≤ x ∧ x ≤ b) (ho : offs[(x - a).toNat]? = some off) (ht : (pc : Int) + off = (tgt : Int))
    (k : zW G Y Q tgt lo st M) : zW G Y Q pc lo (.inl x :: st) M := by
  intro p e s m args below meth c C H locs ls hP hS hl
  obtain ⟨hx, hb, hml, hr, hts, hown, hlk, hK, hSt, hJ, hN⟩ := id C
  have he : (Int32.ofInt x).toInt = x := Int32.toInt_ofInt_of_le (by omega) (by omega)
  exact lv_tableIn hx hb hd (by rw [he]; omega) (by rw [he]; omega) (by rw [he]; exact ho) ht (k p e s m args below meth c C H locs ls hP hS hl)
theorem z_look {dflt off : Int} {ps : Array (Int × Int)} {len tgt : Nat} {x : Int} (hd : decode Y.2.1 pc = .ok (.lookupswitch dflt ps, len)) (hp : (ps.toList.zip (ps.toList.drop 1)).all (fun (a, next) => a.1 < next.1) = true) (rx : -2147483648 ≤ x ∧ x < 2147483648) (ho : Op.lookupswitch.offset ps.toList dflt x = off) (ht : (pc : Int) + off = (tgt : Int))
    (k : zW G Y Q tgt lo st M) : zW G Y Q pc lo (.inl x :: st) M := by
  intro p e s m args below meth c C H locs ls hP hS hl
  obtain ⟨hx, hb, hml, hr, hts, hown, hlk, hK, hSt, hJ, hN⟩ := id C
  exact lv_lookup hx hb hd hp (by rw [Int32.toInt_ofInt_of_le (by omega) (by omega)]; exact ho) ht (k p e s m args below meth c C H locs ls hP hS hl)

theorem zm_tys_at (G : zG) {t : Nat} (ht : t < 4) : (zm_tys G)[t]? = some (G.2.2.1 t, zm_ty t) := by
  match t, ht with
  | 0, _ => rfl
  | 1, _ => rfl
  | 2, _ => rfl
  | 3, _ => rfl
theorem zm_W_arr (G : zG) (M : zM) {a : Int} {t n : Nat} (ha : 0 ≤ a ∧ a < 195) (hs : zm_sh a = .inl (t, n)) : (zm_W G M)[a.toNat]? = some (G.2.1 a, .inl (G.2.2.1 t, n, .inl (fun j => Int32.ofInt (M a (j : Int))))) := by
  rw [zm_W_at G M ha, hs]
  rfl
theorem zm_W_ref (G : zG) (M : zM) {a : Int} {t n : Nat} {f st : Int} (ha : 0 ≤ a ∧ a < 195) (hs : zm_sh a = .inr (.inr (t, f, st, n))) : (zm_W G M)[a.toNat]? = some (G.2.1 a, .inl (G.2.2.1 t, n, .inr (.inr (.inr (.inr (fun j => if j < n then some (G.2.1 (a + f + st * (j : Int))) else none)))))) := by
  rw [zm_W_at G M ha, hs]
  rfl
theorem zm_W_obj (G : zG) (M : zM) {a : Int} {ci : Nat} {fs : List (Option Int)} (ha : 0 ≤ a ∧ a < 195) (hs : zm_sh a = .inr (.inl (ci, fs))) : (zm_W G M)[a.toNat]? = some (G.2.1 a, .inr (ci, zm_fs G M a 0 fs)) := by
  rw [zm_W_at G M ha, hs]
  rfl
theorem z_iaload {a i : Int} {n : Nat} (hd : decode Y.2.1 pc = .ok (.iaload, 1)) (ha : 0 ≤ a ∧ a < 195) (hs : zm_sh a = .inl (0, n)) (hi : 0 ≤ i ∧ i < n) (hn : n < 2147483648)
    (k : zW G Y Q (pc + 1) lo (.inl (M a i) :: st) M) : zW G Y Q pc lo (.inl i :: .inr (some a) :: st) M := by
  intro p e s m args below meth c C H locs ls hP hS hl
  obtain ⟨hx, hb, hml, hr, hts, hown, hlk, hK, hSt, hJ, hN⟩ := id C
  refine va_iald hx hb hK hP a.toNat 0 (zm_W_arr G M ha hs) (zm_tys_at G (t := 0) (by omega)) (zn_in hi hn) hd ?_
  have he : (((Int32.ofInt i).toNatClampNeg : Nat) : Int) = i := by rw [zn_cl (by omega)]; omega
  rw [he]
  exact k p e s m args below meth c C H locs ls hP hS hl
theorem z_caload {a i : Int} {n : Nat} (hd : decode Y.2.1 pc = .ok (.caload, 1)) (ha : 0 ≤ a ∧ a < 195) (hs : zm_sh a = .inl (1, n)) (hi : 0 ≤ i ∧ i < n) (hn : n < 2147483648)
    (k : zW G Y Q (pc + 1) lo (.inl (M a i) :: st) M) : zW G Y Q pc lo (.inl i :: .inr (some a) :: st) M := by
  intro p e s m args below meth c C H locs ls hP hS hl
  obtain ⟨hx, hb, hml, hr, hts, hown, hlk, hK, hSt, hJ, hN⟩ := id C
  refine va_cald hx hb hK hP a.toNat 1 (zm_W_arr G M ha hs) (zm_tys_at G (t := 1) (by omega)) (zn_in hi hn) hd ?_
  have he : (((Int32.ofInt i).toNatClampNeg : Nat) : Int) = i := by rw [zn_cl (by omega)]; omega
  rw [he]
  exact k p e s m args below meth c C H locs ls hP hS hl
theorem zm_set_arr (G : zG) (M : zM) {a i x : Int} {t n : Nat} {y : Int32} (ha : 0 ≤ a ∧ a < 195) (hs : zm_sh a = .inl (t, n)) (hi : 0 ≤ i ∧ i < 2147483648) (hy : y = Int32.ofInt x) : (zm_W G M).set a.toNat (G.2.1 a, .inl (G.2.2.1 t, n, .inl (upd (fun j => Int32.ofInt (M a (j : Int))) (Int32.ofInt i).toNatClampNeg y))) = zm_W G (zm_up M a i x) := by
  refine zm_W_set G M _ ha ?_ (fun k hk => zm_up_off hk)
  rw [hs, hy, zn_cl hi]
  show (Sum.inl (G.2.2.1 t, n, Sum.inl (fun j : Nat => Int32.ofInt (zm_up M a i x a (j : Int)))) : va_E) = _
  congr 4
  funext j
  by_cases hj : j = i.toNat
  · subst hj
    rw [show ((i.toNat : Nat) : Int) = i by omega, zm_up_at]
    simp [upd]
  · rw [zm_up_ne (by omega)]
    simp [upd, hj]
theorem z_iastore {a i x : Int} {n : Nat} (hd : decode Y.2.1 pc = .ok (.iastore, 1)) (ha : 0 ≤ a ∧ a < 195) (hs : zm_sh a = .inl (0, n)) (hi : 0 ≤ i ∧ i < n) (hn : n < 2147483648)
    (k : zW G Y Q (pc + 1) lo st (zm_up M a i x)) : zW G Y Q pc lo (.inl x :: .inl i :: .inr (some a) :: st) M := by
  intro p e s m args below meth c C H locs ls hP hS hl
  obtain ⟨hx, hb, hml, hr, hts, hown, hlk, hK, hSt, hJ, hN⟩ := id C
  refine va_iast hx hb hK hP (zm_D hJ M) hS a.toNat 0 (zm_W_arr G M ha hs) (zm_tys_at G (t := 0) (by omega)) (zn_in hi hn) hd (fun H1 locs1 hP1 hD1 hS1 => ?_)
  rw [zm_set_arr G M ha hs (by omega) rfl] at hP1
  exact k p e s m args below meth c C H1 locs1 ls hP1 hS1 hl
theorem zn_nar {x : Int} (hx : 0 ≤ x ∧ x < 65536) : vp_nar .char (Int32.ofInt x) = Int32.ofInt x := by
  have h : ((Int32.ofInt x).toUInt32 % 65536).toInt32 = Int32.ofInt x := by
    obtain ⟨n, rfl⟩ := Int.eq_ofNat_of_zero_le hx.1
    have hn : n < 65536 := by omega
    apply Int32.toBitVec_inj.mp
    apply BitVec.eq_of_toNat_eq
    have e : (Int32.ofInt (n : Int)).toBitVec.toNat = n := by
      rw [Int32.ofInt_eq_ofNat]
      simp
      omega
    have e2 : (Int32.ofInt (n : Int)).toUInt32.toNat = n := e
    show ((Int32.ofInt (n : Int)).toUInt32 % 65536).toNat = _
    rw [UInt32.toNat_mod, e2, e]
    show n % 65536 = n
    omega
  simpa [vp_nar, narrow] using h
theorem z_castore {a i x : Int} {n : Nat} (hd : decode Y.2.1 pc = .ok (.castore, 1)) (ha : 0 ≤ a ∧ a < 195) (hs : zm_sh a = .inl (1, n)) (hi : 0 ≤ i ∧ i < n) (hn : n < 2147483648) (hx : 0 ≤ x ∧ x < 65536)
    (k : zW G Y Q (pc + 1) lo st (zm_up M a i x)) : zW G Y Q pc lo (.inl x :: .inl i :: .inr (some a) :: st) M := by
  intro p e s m args below meth c C H locs ls hP hS hl
  obtain ⟨hxx, hb, hml, hr, hts, hown, hlk, hK, hSt, hJ, hN⟩ := id C
  refine va_cast hxx hb hK hP (zm_D hJ M) hS a.toNat 1 (zm_W_arr G M ha hs) (zm_tys_at G (t := 1) (by omega)) (zn_in hi hn) hd (fun H1 locs1 hP1 hD1 hS1 => ?_)
  rw [zm_set_arr G M ha hs (by omega) (zn_nar hx)] at hP1
  exact k p e s m args below meth c C H1 locs1 ls hP1 hS1 hl
theorem z_alen {a : Int} {t n : Nat} (hd : decode Y.2.1 pc = .ok (.arraylength, 1)) (ha : 0 ≤ a ∧ a < 195) (hs : zm_sh a = .inl (t, n)) (ht : t < 4)
    (k : zW G Y Q (pc + 1) lo (.inl (n : Int) :: st) M) : zW G Y Q pc lo (.inr (some a) :: st) M := by
  intro p e s m args below meth c C H locs ls hP hS hl
  obtain ⟨hx, hb, hml, hr, hts, hown, hlk, hK, hSt, hJ, hN⟩ := id C
  exact va_alen hx hb hK hP a.toNat t (zm_W_arr G M ha hs) (zm_tys_at G ht) (v := Int32.ofInt (n : Int)) Int32.ofInt_eq_ofNat.symm hd (k p e s m args below meth c C H locs ls hP hS hl)
theorem z_alenR {a : Int} {t n : Nat} {f sp : Int} (hd : decode Y.2.1 pc = .ok (.arraylength, 1)) (ha : 0 ≤ a ∧ a < 195) (hs : zm_sh a = .inr (.inr (t, f, sp, n))) (ht : t < 4)
    (k : zW G Y Q (pc + 1) lo (.inl (n : Int) :: st) M) : zW G Y Q pc lo (.inr (some a) :: st) M := by
  intro p e s m args below meth c C H locs ls hP hS hl
  obtain ⟨hx, hb, hml, hr, hts, hown, hlk, hK, hSt, hJ, hN⟩ := id C
  exact va_alen hx hb hK hP a.toNat t (zm_W_ref G M ha hs) (zm_tys_at G ht) (v := Int32.ofInt (n : Int)) Int32.ofInt_eq_ofNat.symm hd (k p e s m args below meth c C H locs ls hP hS hl)
theorem z_aaload {a i b : Int} {t n : Nat} {f sp : Int} (hd : decode Y.2.1 pc = .ok (.aaload, 1)) (ha : 0 ≤ a ∧ a < 195) (hs : zm_sh a = .inr (.inr (t, f, sp, n))) (ht : t < 4) (hi : 0 ≤ i ∧ i < n) (hn : n < 2147483648) (hrf : (zm_ty t).isReference = true) (hb' : a + f + sp * i = b)
    (k : zW G Y Q (pc + 1) lo (.inr (some b) :: st) M) : zW G Y Q pc lo (.inl i :: .inr (some a) :: st) M := by
  subst hb'
  intro p e s m args below meth c C H locs ls hP hS hl
  obtain ⟨hx, hb, hml, hr, hts, hown, hlk, hK, hSt, hJ, hN⟩ := id C
  have hcell := hP a.toNat _ (zm_W_ref G M ha hs)
  have hlt : (Int32.ofInt i).toNatClampNeg < n := by rw [zn_cl (by omega)]; omega
  have he : (((Int32.ofInt i).toNatClampNeg : Nat) : Int) = i := by rw [zn_cl (by omega)]; omega
  have hin := zn_in hi hn
  refine W.aald (v := .ref (G.2.1 (a + f + sp * i))) (ty := zm_ty t) hx hb hcell ((hK.2 t _ (zm_tys_at G ht)).1 n _) hrf (fun q => by cases q) (by show ¬ (_ ∨ (arrV _ _ _).slots.size ≤ _); rw [arrV_size]; exact hin) ?_ rfl rfl hd (k p e s m args below meth c C H locs ls hP hS hl)
  show (arrV _ _ _).slots[_]? = _
  rw [arrV_read _ _ hlt]
  show some (va_rf (if _ then _ else _)) = _
  rw [if_pos hlt, he]
  rfl
/-- the static arrays -/
theorem z_getst {index : Nat} {t : Nat} (hd : decode Y.2.1 pc = .ok (.getstatic index, 3)) (ht : t < 3) (hlink : Cond.fieldLink Y.1 index RX4 (zm_st t).1 "[I" ∈ zT)
    (k : zW G Y Q (pc + 3) lo (.inr (some (1000 + (t : Int))) :: st) M) : zW G Y Q pc lo st M := by
  intro p e s m args below meth c C H locs ls hP hS hl
  obtain ⟨hx, hb, hml, hr, hts, hown, hlk, hK, hSt, hJ, hN⟩ := id C
  exact va_gets hx hb (hSt t ht).1 hS hown (hts _ hlink) (fun x h => h) hd (k p e s m args below meth c C H locs ls hP hS hl)
theorem z_getstN {index : Nat} {t : Nat} {host : String} (hd : decode Y.2.1 pc = .ok (.getstatic index, 3)) (ht : t < 3) (hlink : Cond.fieldLinkNest Y.1 index RX4 (zm_st t).1 "[I" host ∈ zTN)
    (k : zW G Y Q (pc + 3) lo (.inr (some (1000 + (t : Int))) :: st) M) : zW G Y Q pc lo st M := by
  intro p e s m args below meth c C H locs ls hP hS hl
  obtain ⟨hx, hb, hml, hr, hts, hown, hlk, hK, hSt, hJ, hN⟩ := id C
  exact va_getsN hx hb (hSt t ht).1 hS hown ((hN _ hlink).use rfl) (fun x h => h) hd (k p e s m args below meth c C H locs ls hP hS hl)
theorem z_stload {a i x : Int} {t : Nat} (hd : decode Y.2.1 pc = .ok (.iaload, 1)) (ha : a = 1000 + (t : Int)) (ht : t < 3) (hi : 0 ≤ i ∧ i < (zm_st t).2.length) (hv : (zm_st t).2.getD i.toNat 0 = x)
    (k : zW G Y Q (pc + 1) lo (.inl x :: st) M) : zW G Y Q pc lo (.inl i :: .inr (some a) :: st) M := by
  subst ha
  intro p e s m args below meth c C H locs ls hP hS hl
  obtain ⟨hx, hb, hml, hr, hts, hown, hlk, hK, hSt, hJ, hN⟩ := id C
  have hl5 : (zm_st t).2.length < 2147483648 := by
    match t, ht with
    | 0, _ => decide
    | 1, _ => decide
    | 2, _ => decide
  exact va_ti hx hb (hSt t ht).2 hS (zn_in hi hl5) (by rw [zn_cl (by omega), hv]; rfl) hd (k p e s m args below meth c C H locs ls hP hS hl)
theorem z_stlen {a : Int} {t : Nat} (hd : decode Y.2.1 pc = .ok (.arraylength, 1)) (ha : a = 1000 + (t : Int)) (ht : t < 3)
    (k : zW G Y Q (pc + 1) lo (.inl ((zm_st t).2.length : Int) :: st) M) : zW G Y Q pc lo (.inr (some a) :: st) M := by
  subst ha
  intro p e s m args below meth c C H locs ls hP hS hl
  obtain ⟨hx, hb, hml, hr, hts, hown, hlk, hK, hSt, hJ, hN⟩ := id C
  exact va_tlen hx hb (hSt t ht).2 hS (v := Int32.ofInt ((zm_st t).2.length : Int)) Int32.ofInt_eq_ofNat.symm hd (k p e s m args below meth c C H locs ls hP hS hl)

end ZR
end
section
/-! ===== fields ===== -/
def zm_cR (ci : Nat) : vw_C := match ci with
  | 0 => (RX0, TX0, 3) | 1 => (RX1, TX1, 17) | 2 => (RX2, TX2, 8) | 3 => (RX3, TX3, 2) | 4 => (RX4, TX4, 9) | _ => (RX5, TX5, 19)
def zm_cT (ci : Nat) : Nat → FieldType := match ci with
  | 0 => tyX0 | 1 => tyX1 | 2 => tyX2 | 3 => tyX3 | 4 => tyX4 | _ => tyX5
theorem zm_in0 : ∀ w ∈ u_ws RX0 TX0 3, w ∈ lw_tbl := by decide +kernel
theorem zm_in1 : ∀ w ∈ u_ws RX1 TX1 17, w ∈ lw_tbl := by decide +kernel
theorem zm_in2 : ∀ w ∈ u_ws RX2 TX2 8, w ∈ lw_tbl := by decide +kernel
theorem zm_in3 : ∀ w ∈ u_ws RX3 TX3 2, w ∈ lw_tbl := by decide +kernel
theorem zm_in4 : ∀ w ∈ u_ws RX4 TX4 9, w ∈ lw_tbl := by decide +kernel
theorem zm_in5 : ∀ w ∈ u_ws RX5 TX5 19, w ∈ lw_tbl := by decide +kernel
theorem zm_inT {C : String} {T : u_T} {N : Nat} (h : ∀ w ∈ u_ws C T N, w ∈ lw_tbl) : ∀ w ∈ u_ws C T N, w ∈ zT := by
  intro w hw
  refine List.mem_filter.mpr ⟨h w hw, ?_⟩
  obtain ⟨k, -, rfl⟩ := List.mem_map.mp hw
  unfold u_lay
  split <;> rfl
theorem zm_cOk {ci : Nat} (h : ci < 6) : zm_cls[ci]? = some (zm_cR ci) ∧ (∀ w ∈ u_ws (zm_cR ci).1 (zm_cR ci).2.1 (zm_cR ci).2.2, w ∈ zT) ∧ (∀ k, k < (zm_cR ci).2.2 → parseFieldDescriptor ((zm_cR ci).2.1 k).2.2.1 = some (zm_cT ci k)) ∧ (∀ a, a < (zm_cR ci).2.2 → ∀ b, b < (zm_cR ci).2.2 → a ≠ b → ((zm_cR ci).2.1 a).2.1 ≠ ((zm_cR ci).2.1 b).2.1) := by
  match ci, h with
  | 0, _ => exact ⟨rfl, zm_inT zm_in0, tyX0_ok, nmX0⟩
  | 1, _ => exact ⟨rfl, zm_inT zm_in1, tyX1_ok, nmX1⟩
  | 2, _ => exact ⟨rfl, zm_inT zm_in2, tyX2_ok, nmX2⟩
  | 3, _ => exact ⟨rfl, zm_inT zm_in3, tyX3_ok, nmX3⟩
  | 4, _ => exact ⟨rfl, zm_inT zm_in4, tyX4_ok, nmX4⟩
  | 5, _ => exact ⟨rfl, zm_inT zm_in5, tyX5_ok, nmX5⟩
/-- a place of the constants of 'own' names the field k of the class ci -/
def zL (own : String) (index ci k : Nat) : Prop := ci < 6 ∧ k < (zm_cR ci).2.2 ∧ ((zm_cR ci).2.1 k).1 = (zm_cR ci).1 ∧
  (Cond.fieldLink own index (zm_cR ci).1 ((zm_cR ci).2.1 k).2.1 ((zm_cR ci).2.1 k).2.2.1 ∈ zT ∨ ∃ host : String, Cond.fieldLinkNest own index (zm_cR ci).1 ((zm_cR ci).2.1 k).2.1 ((zm_cR ci).2.1 k).2.2.1 host ∈ zTN)
section ZF
variable {G : zG} {Y : zY} {Q : Option zV → zM → Prop} {pc : Nat} {lo : List (Nat × zV)} {st : List zV} {M : zM}
theorem z_getI {a kI : Int} {ci k index : Nat} {fs : List (Option Int)} (hd : decode Y.2.1 pc = .ok (.getfield index, 3)) (hL : zL Y.1 index ci k) (ha : 0 ≤ a ∧ a < 195) (hs : zm_sh a = .inr (.inl (ci, fs))) (hf : fs[k]? = some none) (hki : (k : Int) = kI)
    (kk : zW G Y Q (pc + 3) lo (.inl (M a kI) :: st) M) : zW G Y Q pc lo (.inr (some a) :: st) M := by
  subst hki
  intro p e s m args below meth c C H locs ls hP hS hl
  obtain ⟨hx, hb, hml, hr, hts, hown, hlk, hK, hSt, hJ, hN⟩ := id C
  obtain ⟨h1, h2, h3, h4⟩ := hL
  obtain ⟨c1, c2, c3, c4⟩ := zm_cOk h1
  have hv : (zm_fs G M a 0 fs)[k]? = some (.int (Int32.ofInt (M a (k : Int)))) := by
    have := zm_fs_get G M a 0 k fs none hf
    rw [Nat.zero_add] at this
    exact this
  rcases h4 with h4 | ⟨host, h4⟩
  · exact va_get hx hb hts c2 hown hK hP a.toNat (zm_W_obj G M ha hs) c1 k h2 (hts _ h4) (fun x q => by rw [← h3]; exact q) hv hd (kk p e s m args below meth c C H locs ls hP hS hl)
  · exact va_getN hx hb hts c2 hown hK hP a.toNat (zm_W_obj G M ha hs) c1 k h2 ((hN _ h4).use rfl) (fun x q => by rw [← h3]; exact q) hv hd (kk p e s m args below meth c C H locs ls hP hS hl)
theorem z_getR {a o b : Int} {ci k index : Nat} {fs : List (Option Int)} (hd : decode Y.2.1 pc = .ok (.getfield index, 3)) (hL : zL Y.1 index ci k) (ha : 0 ≤ a ∧ a < 195) (hs : zm_sh a = .inr (.inl (ci, fs))) (hf : fs[k]? = some (some o)) (hb' : a + o = b)
    (kk : zW G Y Q (pc + 3) lo (.inr (some b) :: st) M) : zW G Y Q pc lo (.inr (some a) :: st) M := by
  subst hb'
  intro p e s m args below meth c C H locs ls hP hS hl
  obtain ⟨hx, hb, hml, hr, hts, hown, hlk, hK, hSt, hJ, hN⟩ := id C
  obtain ⟨h1, h2, h3, h4⟩ := hL
  obtain ⟨c1, c2, c3, c4⟩ := zm_cOk h1
  have hv : (zm_fs G M a 0 fs)[k]? = some (.ref (G.2.1 (a + o))) := zm_fs_get G M a 0 k fs (some o) hf
  rcases h4 with h4 | ⟨host, h4⟩
  · exact va_get hx hb hts c2 hown hK hP a.toNat (zm_W_obj G M ha hs) c1 k h2 (hts _ h4) (fun x q => by rw [← h3]; exact q) hv hd (kk p e s m args below meth c C H locs ls hP hS hl)
  · exact va_getN hx hb hts c2 hown hK hP a.toNat (zm_W_obj G M ha hs) c1 k h2 ((hN _ h4).use rfl) (fun x q => by rw [← h3]; exact q) hv hd (kk p e s m args below meth c C H locs ls hP hS hl)
theorem zm_set_obj (G : zG) (M : zM) {a x : Int} {ci k : Nat} {fs : List (Option Int)} (ha : 0 ≤ a ∧ a < 195) (hs : zm_sh a = .inr (.inl (ci, fs))) (hf : fs[k]? = some none) : (zm_W G M).set a.toNat (G.2.1 a, .inr (ci, (zm_fs G M a 0 fs).set k (.int (Int32.ofInt x)))) = zm_W G (zm_up M a (k : Int) x) := by
  refine zm_W_set G M _ ha ?_ (fun k hk => zm_up_off hk)
  rw [hs]
  show (Sum.inr (ci, zm_fs G (zm_up M a (k : Int) x) a 0 fs) : va_E) = _
  rw [zm_fs_set G M a x 0 k fs hf, Nat.zero_add]
/-- what a field of numbers takes -/
def zTk (ty : FieldType) (x : Int) : Prop := ty = .int ∨ (ty = .boolean ∧ (x = 0 ∨ x = 1))
theorem zTk_ok {ty : FieldType} {x : Int} (h : zTk ty x) : narrow ty (.int (Int32.ofInt x)) = .int (Int32.ofInt x) ∧ fits ty (.int (Int32.ofInt x)) = true := by
  rcases h with rfl | ⟨rfl, rfl | rfl⟩
  · exact ⟨rfl, rfl⟩
  · exact ⟨rfl, rfl⟩
  · exact ⟨rfl, rfl⟩
theorem z_put {a x kI : Int} {ci k index : Nat} {fs : List (Option Int)} (hd : decode Y.2.1 pc = .ok (.putfield index, 3)) (hL : zL Y.1 index ci k) (hfin : ((zm_cR ci).2.1 k).2.2.2 = false) (hty : zTk (zm_cT ci k) x) (ha : 0 ≤ a ∧ a < 195) (hs : zm_sh a = .inr (.inl (ci, fs))) (hf : fs[k]? = some none) (hki : (k : Int) = kI)
    (kk : zW G Y Q (pc + 3) lo st (zm_up M a kI x)) : zW G Y Q pc lo (.inl x :: .inr (some a) :: st) M := by
  subst hki
  intro p e s m args below meth c C H locs ls hP hS hl
  obtain ⟨hx, hb, hml, hr, hts, hown, hlk, hK, hSt, hJ, hN⟩ := id C
  obtain ⟨h1, h2, h3, h4⟩ := hL
  obtain ⟨c1, c2, c3, c4⟩ := zm_cOk h1
  obtain ⟨t1, t2⟩ := zTk_ok hty
  have hlen : k < (zm_fs G M a 0 fs).length := by rw [zm_fs_len]; exact (List.getElem?_eq_some_iff.mp hf).1
  rcases h4 with h4 | ⟨host, h4⟩
  · refine va_put (v := .int (Int32.ofInt x)) hx hb hts c2 (zm_cT ci) c3 c4 hown hK hP (zm_D hJ M) hS a.toNat (zm_W_obj G M ha hs) c1 k h2 (hts _ h4) (fun x q => by rw [← h3]; exact q) hfin (c3 k h2) t1 t2 hlen hd (fun H1 locs1 hP1 hD1 hS1 => ?_)
    rw [zm_set_obj G M ha hs hf] at hP1
    exact kk p e s m args below meth c C H1 locs1 ls hP1 hS1 hl
  · refine va_putN (v := .int (Int32.ofInt x)) hx hb hts c2 (zm_cT ci) c3 c4 hown hK hP (zm_D hJ M) hS a.toNat (zm_W_obj G M ha hs) c1 k h2 ((hN _ h4).use rfl) (fun x q => by rw [← h3]; exact q) hfin (c3 k h2) t1 t2 hlen hd (fun H1 locs1 hP1 hD1 hS1 => ?_)
    rw [zm_set_obj G M ha hs hf] at hP1
    exact kk p e s m args below meth c C H1 locs1 ls hP1 hS1 hl
/-! ===== the ends of a method ===== -/
theorem zm_end {s t : State} {H : Heap} {locs : List Loc} {args : Array Value} {v : Option zV} (hP : zm_GP G M H) (hS : va_S (zm_A G) s.heap H locs) (hq : Q v M) (ht : t.heap = H) : zm_Qc G Q args s (.returned (v.map (zc G))) t :=
  ⟨⟨v, M, rfl, hq, by rw [ht]; exact hP⟩, hS.F ht⟩
theorem z_iret {x : Int} (hd : decode Y.2.1 pc = .ok (.ireturn, 1)) (hr : Y.2.2.2.1 = some .int) (hq : Q (some (.inl x)) M) : zW G Y Q pc lo [.inl x] M := by
  intro p e s m args below meth c C H locs ls hP hS hl
  obtain ⟨hx, hb, hml, hr0, hts, hown, hlk, hK, hSt, hJ, hN⟩ := id C
  exact W.iret (v := Int32.ofInt x) hx hb (hr0.trans hr) (fun t ht _ => zm_end hP hS hq ht) hS.2.2 hd
theorem z_zret {x : Int} (hd : decode Y.2.1 pc = .ok (.ireturn, 1)) (hr : Y.2.2.2.1 = some .boolean) (hv : x = 0 ∨ x = 1) (hq : Q (some (.inl x)) M) : zW G Y Q pc lo [.inl x] M := by
  intro p e s m args below meth c C H locs ls hP hS hl
  obtain ⟨hx, hb, hml, hr0, hts, hown, hlk, hK, hSt, hJ, hN⟩ := id C
  exact W.zret (v := Int32.ofInt x) (ty := .boolean) hx hb (hr0.trans hr) (zTk_ok (Or.inr ⟨rfl, hv⟩)).1 (fun t ht _ => zm_end hP hS hq ht) hS.2.2 hd
theorem z_vret (hd : decode Y.2.1 pc = .ok (.return_, 1)) (hr : Y.2.2.2.1 = none) (hq : Q none M) : zW G Y Q pc lo [] M := by
  intro p e s m args below meth c C H locs ls hP hS hl
  obtain ⟨hx, hb, hml, hr0, hts, hown, hlk, hK, hSt, hJ, hN⟩ := id C
  exact W.vret hx hb (hr0.trans hr) (fun t ht _ => zm_end (v := none) hP hS hq ht) hS.2.2 hd
theorem z_aret {x : Option Int} {nm : String} (hd : decode Y.2.1 pc = .ok (.areturn, 1)) (hr : Y.2.2.2.1 = some (.object nm)) (hq : Q (some (.inr x)) M) : zW G Y Q pc lo [.inr x] M := by
  intro p e s m args below meth c C H locs ls hP hS hl
  obtain ⟨hx, hb, hml, hr0, hts, hown, hlk, hK, hSt, hJ, hN⟩ := id C
  refine W.aret (v := zc G (.inr x)) (rt := .object nm) hx hb (hr0.trans hr) (Or.inl ⟨nm, rfl⟩) ?_ (fun t ht _ => zm_end hP hS hq ht) hS.2.2 hd
  cases x with
  | none => exact Or.inl rfl
  | some k => exact Or.inr ⟨_, rfl⟩
end ZF
/-! ===== contracts and calls ===== -/
def zWs (y : MethodName) (Y : zY) : List Cond := .code y Y.2.1 Y.2.2.1 Y.2.2.2.1 :: zT
def zPre (G : zG) (M : zM) (U : State) : Prop := zm_GP G M U.heap ∧ va_K G.2.2.2 zm_cls (zm_tys G) U ∧ zm_St G (zm_A G) U U.heap ∧ zm_J G ∧ zNs U
/-- a method's contract: begun with these values over M, it comes to its end with Q -/
def zCall (G : zG) (y : MethodName) (Y : zY) (av : List zV) (M : zM) (Q : Option zV → zM → Prop) : Prop :=
  Met G.1 y (zWs y Y) (zm_rm Y.2.2.2.2) (va_Pc (zm_sk G av) (zPre G M)) (zm_Qc G Q) 0 0 (zm_A G)
def zar : Nat → List zV → List (Nat × zV)
  | _, [] => []
  | i, v :: r => (i, v) :: zar (i + 1) r
theorem zar_lo (G : zG) : ∀ (i : Nat) (av : List zV), lv_args i (zm_sk G av) = zm_lo G (zar i av)
  | _, [] => rfl
  | i, v :: r => by
    show (i, zc G v) :: lv_args (if (zc G v).category = 2 then i + 2 else i + 1) (zm_sk G r) = (i, zc G v) :: zm_lo G (zar (i + 1) r)
    rw [zc_cat, if_neg (by decide), zar_lo G (i + 1) r]
theorem zsl_len (G : zG) : ∀ av : List zV, (lg_sl (zm_sk G av)).length = av.length
  | [] => rfl
  | v :: r => by
    have h := zsl_len G r
    show ((if (zc G v).category = 2 then [Slot.val (zc G v), .second] else [.val (zc G v)]) ++ lg_sl (zm_sk G r)).length = _
    rw [zc_cat, List.length_append, h]
    simp [Nat.add_comm]
theorem zEnter {G : zG} {y : MethodName} {Y : zY} {av : List zV} {M : zM} {Q : Option zV → zM → Prop} (hp : plainName y.cls = true) (hY : Y.1 = y.cls) (hn : av.length ≤ Y.2.2.1) (k : zW G Y Q 0 (zar 0 av) [] M) : zCall G y Y av M Q := by
  refine Met.ofW (cc := Y.2.1) (maxL := Y.2.2.1) (ret := Y.2.2.2.1) (ws' := zT) hp rfl ?_
  intro p e s m args below meth c s₁ B hml hv
  obtain ⟨rfl, hP, hK, hSt, hJ, hN⟩ := hv
  have hts : ∀ w ∈ zT, w.before (zm_sk G av).toArray s = true := fun w hw => atoms_spec (ws := zWs y Y) B.pre w (List.mem_cons_of_mem _ hw)
  have hown : s.vm.findClass Y.1 = some m.cls := by rw [hY]; exact findClass_of_methodNamed B.named
  have hl := lv_entry (zm_sk G av) (n := Y.2.2.1) (by rw [zsl_len]; exact hn)
  rw [zar_lo] at hl
  rw [lg_entry_eq]
  exact k p e s m _ below meth c ⟨B.exec, B.bytes, hml, B.returns, hts, hown, B.notSynchronized, hK, hSt, hJ, hN⟩ s.heap [] _ hP va_S.rf hl
theorem zPre_blind {G : zG} {M : zM} {av : List Value} : FrameBlind (va_Pc av (zPre G M)) := by
  intro a U g mk h
  obtain ⟨h1, hP, hK, hSt, hJ, hN⟩ := h
  exact ⟨h1, hP, va_K.moved (u := U) (U := U.calling g mk a) (Vm.Alike.refl U.vm) hK, zm_St.moved (u := U) (U := U.calling g mk a) (Vm.Alike.refl U.vm) hSt, hJ, zNs.same (u := U) (U := U.calling g mk a) (Eq.refl U.vm) hN⟩
theorem zPre_now {G : zG} {Y : zY} {p : Program} {s : State} {m : MethodId} {args : Array Value} {meth : Method} {c : Code} {M : zM} {H : Heap} {locs : List Loc} (C : zm_Cx G Y p s m args meth c) (hP : zm_GP G M H) (hS : va_S (zm_A G) s.heap H locs) (U : State) (hU : U.heap = H) (hW : s.WarmedH U.vm) : zPre G M U := by
  obtain ⟨hx, hb, hml, hr, hts, hown, hlk, hK, hSt, hJ, hN⟩ := C
  refine ⟨by rw [hU]; exact hP, va_K.moved hW.alike hK, ?_, hJ, hN.warm hW⟩
  rw [hU]
  exact zm_St.moved hW.alike (hSt.kept (fun a h1 h2 => hS.2.1 a h1 h2))
theorem zGood (y : MethodName) (Y : zY) (hc : Cond.code y Y.2.1 Y.2.2.1 Y.2.2.2.1 ∈ zT) : GoodIn zT (zWs y Y) := by
  intro w hw
  have hm : w ∈ zT := by
    rcases List.mem_cons.mp hw with h | h
    · rw [h]; exact hc
    · exact h
  exact ⟨hm, good_of_word (List.mem_filter.mp hm).2⟩
theorem zAfter {G : zG} {p : Program} {l : Launch} {e : Env} {R : Room} {s : State} {m : MethodId} {args : Array Value} {below : List Frame} {meth : Method} {c : Code} {H : Heap} {locs : List Loc} {pc : Nat} {ls : Array Slot} {rest st0 : List Value} {a : Array Value} {Q : State → Prop} {Q1 : Option zV → zM → Prop}
    (hr : va_Run p l e R s m args below meth c H locs 0 0 0 0 (F0 m pc ls st0) rest (zm_Qc G Q1 a) (zm_A G)) (hS : va_S (zm_A G) s.heap H locs)
    (kk : ∀ (v : Option zV) (M1 : zM) (H1 : Heap) (locs1 : List Loc), Q1 v M1 → zm_GP G M1 H1 → va_S (zm_A G) s.heap H1 locs1 → W p l e R s m args below meth c H1 locs1 0 0 Q (F0 m (pc + 3) ls ((v.map (zc G)).toList ++ rest))) : W p l e R s m args below meth c H locs 0 0 Q (F0 m pc ls st0) := by
  intro T hT X
  obtain ⟨v, st₀, t, T', L, h0, X', hL, e1, e2, ⟨⟨v1, M1, hv, hq, hb⟩, hz, hk⟩, st⟩ := hr T hT X
  cases hv
  rw [h0] at hz hk
  obtain ⟨t2, a1, b1⟩ := kk v1 M1 T'.heap (locs ++ L) hq (by rw [e1]; exact hb)
    ⟨Nat.le_trans hS.1 (by rw [e1]; exact hz), fun q h1 h2 => by rw [e1, hk q (Nat.lt_of_lt_of_le h1 hS.1) h2]; exact hS.2.1 q h1 h2, fun q hq => by
      rcases List.mem_append.mp hq with h | h
      · exact hS.2.2 q h
      · exact hL q h⟩ T' rfl X'
  exact ⟨t2, st t2 a1, b1⟩
/-- what the tables say of a method -/
def zMx (y : MethodName) (Y : zY) (n : Nat) : Prop := Cond.initialized y.cls ∈ zT ∧ Cond.code y Y.2.1 Y.2.2.1 Y.2.2.2.1 ∈ zT ∧ (y.cls ≠ "java/lang/invoke/MethodHandle" ∧ y.cls ≠ "java/lang/invoke/VarHandle" ∧ (parseMethodDescriptor y.desc).map (fun d => d.parameters.length) = some n) ∧ Y.2.2.1 ≤ 21
def zMI (y : MethodName) (Y : zY) (n : Nat) : Prop := zMx y Y n ∧ Cond.instanceMethod y ∈ zT ∧ Cond.selects y.cls y y ∈ zT
def zMS (y : MethodName) (Y : zY) (n : Nat) : Prop := zMx y Y n ∧ Cond.static y ∈ zT
/-- the stack with these values upon it -/
def zstk : List zV → List zV → List zV
  | [], r => r
  | v :: av, r => zstk av (v :: r)
theorem zstk_eq (G : zG) : ∀ (av r : List zV), zm_sk G (zstk av r) = (zm_sk G av).reverse ++ zm_sk G r
  | [], r => rfl
  | v :: av, r => by
    rw [show zstk (v :: av) r = zstk av (v :: r) from rfl, zstk_eq G av (v :: r)]
    simp [zm_sk]
def zpush : Option zV → List zV → List zV
  | none, r => r
  | some v, r => v :: r
theorem zpush_eq (G : zG) (v : Option zV) (r : List zV) : zm_sk G (zpush v r) = (v.map (zc G)).toList ++ zm_sk G r := by
  cases v <;> rfl
theorem zm_cats (G : zG) : ∀ r : List zV, ((zm_sk G r).map fun v => v.category).sum = r.length
  | [] => rfl
  | v :: r => by
    show (zc G v).category + ((zm_sk G r).map fun v => v.category).sum = _
    rw [zc_cat, zm_cats G r, List.length_cons, Nat.add_comm]
theorem zRoom {Y Y' : zY} (hdep : Y'.2.2.2.2 + 1 ≤ Y.2.2.2.2) (hL : Y'.2.2.1 ≤ 21) : (zm_rm Y'.2.2.2.2).frames + 1 ≤ (zm_rm Y.2.2.2.2).frames ∧ 8 + (Y'.2.2.1 + 11) + (zm_rm Y'.2.2.2.2).locals ≤ (zm_rm Y.2.2.2.2).locals := by
  refine ⟨hdep, ?_⟩
  show 8 + (Y'.2.2.1 + 11) + 40 * Y'.2.2.2.2 ≤ 40 * Y.2.2.2.2
  omega
section ZCa
variable {G : zG} {Y : zY} {Q : Option zV → zM → Prop} {pc : Nat} {lo : List (Nat × zV)} {st : List zV} {M : zM}
theorem z_callV {y : MethodName} {Y' : zY} {n index ci : Nat} {fs : List (Option Int)} {As rest : List zV} {a : Int} {Q' : Option zV → zM → Prop} (hm : zMI y Y' n) (hM : zCall G y Y' (.inr (some a) :: As) M Q') (hst : st = zstk (.inr (some a) :: As) rest) (hd : decode Y.2.1 pc = .ok (.invokevirtual index, 3)) (hlink : Cond.methodLink Y.1 index y ∈ zT) (hdep : Y'.2.2.2.2 + 1 ≤ Y.2.2.2.2) (hn : As.length = n) (hrest : rest.length ≤ 8)
    (ha : 0 ≤ a ∧ a < 195) (hs : zm_sh a = .inr (.inl (ci, fs))) (hci : ci < 6) (hcls : (zm_cR ci).1 = y.cls)
    (k : ∀ (v : Option zV) (M' : zM), Q' v M' → zW G Y Q (pc + 3) lo (zpush v rest) M') : zW G Y Q pc lo st M := by
  intro p e s m args below meth c C H locs ls hP hS hl
  obtain ⟨hx, hb, hml, hr, hts, hown, hlk, hK, hSt, hJ, hN⟩ := id C
  obtain ⟨⟨i1, i2, ⟨i3, i4, i5⟩, i6⟩, i7, i8⟩ := hm
  subst hst
  have cw : CallW (zm_rm Y.2.2.2.2) s args Y.1 y.cls index y Y'.2.1 Y'.2.2.1 Y'.2.2.2.1 (zWs y Y') (zm_rm Y'.2.2.2.2) 0 0 n :=
    ⟨callB_of n hts (zGood y Y' i2) rfl rfl rfl (hts _ i1) (hts _ hlink) ⟨i3, i4, i5⟩ (zRoom hdep i6), hts _ i7, hts _ i8⟩
  have hrec : ∃ cellB : Cell, H[G.2.1 a]? = some cellB ∧ cellB.vm.isStatics = false ∧ s.vm.findClass y.cls = some cellB.cls := by
    obtain ⟨cell, g1, g2, g3⟩ := va_recv hK hP (zm_cOk hci).1 (zm_W_obj G M ha hs)
    exact ⟨cell, g1, g2, by rw [← hcls]; exact g3⟩
  have hstk : zm_sk G (zstk (.inr (some a) :: As) rest) = (zm_sk G As).reverse ++ Value.ref (G.2.1 a) :: zm_sk G rest := by
    rw [zstk_eq]
    simp [zm_sk, zc]
  refine zAfter (rest := zm_sk G rest) (va_runV (As := zm_sk G As) (b := G.2.1 a) (nL := Y.2.2.1) ⟨hx, hb, hml, hown, hts⟩ hM cw ⟨zPre_blind, hrec, fun U hU hW => ⟨rfl, zPre_now C hP hS U hU hW⟩⟩ rfl (by simpa [zm_sk] using hn) hl.1 hstk (lv_room (by rw [zm_cats]; exact hrest)) hd ⟨Nat.zero_le _, Nat.zero_le _⟩) hS (fun v M1 H1 locs1 hq hP1 hS1 => ?_)
  rw [← zpush_eq]
  exact k v M1 hq p e s m args below meth c C H1 locs1 ls hP1 hS1 hl
theorem z_callS {y : MethodName} {Y' : zY} {n index : Nat} {As rest : List zV} {Q' : Option zV → zM → Prop} (hm : zMS y Y' n) (hM : zCall G y Y' As M Q') (hst : st = zstk As rest) (hd : decode Y.2.1 pc = .ok (.invokestatic index, 3)) (hlink : Cond.methodLink Y.1 index y ∈ zT) (hdep : Y'.2.2.2.2 + 1 ≤ Y.2.2.2.2) (hn : As.length = n) (hrest : rest.length ≤ 8)
    (k : ∀ (v : Option zV) (M' : zM), Q' v M' → zW G Y Q (pc + 3) lo (zpush v rest) M') : zW G Y Q pc lo st M := by
  intro p e s m args below meth c C H locs ls hP hS hl
  obtain ⟨hx, hb, hml, hr, hts, hown, hlk, hK, hSt, hJ, hN⟩ := id C
  obtain ⟨⟨i1, i2, ⟨i3, i4, i5⟩, i6⟩, i7⟩ := hm
  subst hst
  refine zAfter (rest := zm_sk G rest) (va_runS (As := zm_sk G As) (nL := Y.2.2.1) ⟨hx, hb, hml, hown, hts⟩ hM ⟨callB_of n hts (zGood y Y' i2) rfl rfl rfl (hts _ i1) (hts _ hlink) ⟨i3, i4, i5⟩ (zRoom hdep i6), hts _ i7⟩ ⟨zPre_blind, fun U hU hW => ⟨rfl, zPre_now C hP hS U hU hW⟩⟩ rfl (by simpa [zm_sk] using hn) hl.1 (zstk_eq G As rest) (lv_room (by rw [zm_cats]; exact hrest)) hd ⟨Nat.zero_le _, Nat.zero_le _⟩) hS (fun v M1 H1 locs1 hq hP1 hS1 => ?_)
  rw [← zpush_eq]
  exact k v M1 hq p e s m args below meth c C H1 locs1 ls hP1 hS1 hl
theorem z_callSN {y : MethodName} {Y' : zY} {n index : Nat} {host : String} {As rest : List zV} {Q' : Option zV → zM → Prop} (hm : zMS y Y' n) (hM : zCall G y Y' As M Q') (hst : st = zstk As rest) (hd : decode Y.2.1 pc = .ok (.invokestatic index, 3)) (hlink : Cond.methodLinkNest Y.1 index y host ∈ zTN) (hdep : Y'.2.2.2.2 + 1 ≤ Y.2.2.2.2) (hn : As.length = n) (hrest : rest.length ≤ 8)
    (k : ∀ (v : Option zV) (M' : zM), Q' v M' → zW G Y Q (pc + 3) lo (zpush v rest) M') : zW G Y Q pc lo st M := by
  intro p e s m args below meth c C H locs ls hP hS hl
  obtain ⟨hx, hb, hml, hr, hts, hown, hlk, hK, hSt, hJ, hN⟩ := id C
  obtain ⟨⟨i1, i2, ⟨i3, i4, i5⟩, i6⟩, i7⟩ := hm
  subst hst
  refine zAfter (rest := zm_sk G rest) (va_runSN (host := host) (As := zm_sk G As) (nL := Y.2.2.1) ⟨hx, hb, hml, hown, hts⟩ hM ⟨va_cnB n hts (zGood y Y' i2) rfl rfl rfl (hN _ hlink) (hts _ i1) ⟨i3, i4, i5⟩ (zRoom hdep i6), hts _ i7, trivial⟩ ⟨zPre_blind, fun U hU hW => ⟨rfl, zPre_now C hP hS U hU hW⟩⟩ rfl (by simpa [zm_sk] using hn) hl.1 (zstk_eq G As rest) (lv_room (by rw [zm_cats]; exact hrest)) hd ⟨Nat.zero_le _, Nat.zero_le _⟩) hS (fun v M1 H1 locs1 hq hP1 hS1 => ?_)
  rw [← zpush_eq]
  exact k v M1 hq p e s m args below meth c C H1 locs1 ls hP1 hS1 hl
/-! the JDK's -/
theorem z_min {x y : Int} {index : Nat} (hd : decode Y.2.1 pc = .ok (.invokestatic index, 3)) (hlink : Cond.methodLink Y.1 index Lib.Math.min.name ∈ zT) (hstat : Cond.static Lib.Math.min.name ∈ zT) (hini : Cond.initialized "java/lang/Math" ∈ zT) (hcode : Cond.code Lib.Math.min.name Lib.Math.min.code 2 (some .int) ∈ zT) (hdep : 1 ≤ Y.2.2.2.2) (hst : st.length ≤ 8) (rx : -2147483648 ≤ x ∧ x < 2147483648) (ry : -2147483648 ≤ y ∧ y < 2147483648)
    (k : zW G Y Q (pc + 3) lo (.inl (min x y) :: st) M) : zW G Y Q pc lo (.inl y :: .inl x :: st) M := by
  intro p e s m args below meth c C H locs ls hP hS hl
  obtain ⟨hx, hb, hml, hr, hts, hown, hlk, hK, hSt, hJ, hN⟩ := id C
  refine va_mmin hx hb (hml.trans hl.1.symm) hown (hts _ hlink) (hts _ hstat) (hts _ hini) (hts _ hcode) hdep (by show ((zm_sk G st).map fun v => v.category).sum + 13 ≤ _; rw [zm_cats]; show st.length + 13 ≤ 40 * _; omega) (Nat.zero_le _) (Nat.zero_le _) hd ?_
  have he : (if Int32.ofInt y < Int32.ofInt x then Int32.ofInt y else Int32.ofInt x) = Int32.ofInt (min x y) := by
    by_cases h : y < x
    · rw [if_pos ((zn_lt ry rx).mpr h), show min x y = y by omega]
    · rw [if_neg (fun q => h ((zn_lt ry rx).mp q)), show min x y = x by omega]
  rw [he]
  exact k p e s m args below meth c C H locs ls hP hS hl
/-- a row of numbers copied -/
def zm_cp (M : zM) (a b n : Int) : zM := fun k j => if k = b ∧ 0 ≤ j ∧ j < n then M a j else M k j
theorem z_copy {a b x : Int} {na nb index : Nat} (hd : decode Y.2.1 pc = .ok (.invokestatic index, 3)) (hlink : Cond.methodLink Y.1 index arraycopyName ∈ zT) (hnat : Cond.native arraycopyName ∈ zT) (hstat : Cond.static arraycopyName ∈ zT) (hini : Cond.initialized "java/lang/System" ∈ zT) (hdep : 1 ≤ Y.2.2.2.2) (hst : st.length ≤ 8)
    (ha : 0 ≤ a ∧ a < 195) (hsa : zm_sh a = .inl (0, na)) (hb' : 0 ≤ b ∧ b < 195) (hsb : zm_sh b = .inl (0, nb)) (hx' : 0 ≤ x ∧ x ≤ na ∧ x ≤ nb ∧ x < 2147483648)
    (k : zW G Y Q (pc + 3) lo st (zm_cp M a b x)) : zW G Y Q pc lo (.inl x :: .inl 0 :: .inr (some b) :: .inl 0 :: .inr (some a) :: st) M := by
  intro p e s m args below meth c C H locs ls hP hS hl
  obtain ⟨hx, hb, hml, hr, hts, hown, hlk, hK, hSt, hJ, hN⟩ := id C
  have z0 : (Int32.ofInt 0).toNatClampNeg = 0 := rfl
  have zx : (Int32.ofInt x).toNatClampNeg = x.toNat := zn_cl (by omega)
  have nx : ¬ Int32.ofInt x < 0 := fun q => by
    have := (zn_lt (a := x) (b := 0) (by omega) (by omega)).mp q
    omega
  refine va_copyi hx hb (hml.trans hl.1.symm) hown (hts _ hlink) (hts _ hnat) (hts _ hstat) (hts _ hini) hK hP (zm_D hJ M) hS a.toNat b.toNat 0 0 (zm_W_arr G M ha hsa) (zm_W_arr G M hb' hsb) (zm_tys_at G (t := 0) (by omega)) (zm_tys_at G (t := 0) (by omega)) rfl (by decide) (by decide) nx (by rw [z0, zx]; omega) (by rw [z0, zx]; omega) (fun i _ => rfl) hdep ?_ hd (fun H1 locs1 hP1 hD1 hS1 => ?_)
  · show ((zm_sk G st).map fun v => v.category).sum + _ ≤ _
    rw [zm_cats]
    have : nativeFrameWords "java/lang/System" "arraycopy" 5 + 11 ≤ 32 := by decide
    show st.length + _ ≤ 40 * Y.2.2.2.2
    omega
  · have hset : (zm_W G M).set b.toNat (G.2.1 b, .inl (G.2.2.1 0, nb, .inl (va_cpy (fun j : Nat => Int32.ofInt (M a (j : Int))) (fun j : Nat => Int32.ofInt (M b (j : Int))) (Int32.ofInt 0).toNatClampNeg (Int32.ofInt 0).toNatClampNeg (Int32.ofInt x).toNatClampNeg))) = zm_W G (zm_cp M a b x) := by
      refine zm_W_set G M _ hb' ?_ (fun k hk => by funext j; simp [zm_cp, hk])
      rw [hsb, z0, zx]
      show (Sum.inl (G.2.2.1 0, nb, Sum.inl (fun j : Nat => Int32.ofInt (zm_cp M a b x b (j : Int)))) : va_E) = _
      congr 4
      funext j
      by_cases hj : (j : Int) < x
      · simp only [zm_cp, va_cpy]
        rw [if_pos ⟨trivial, by omega, hj⟩, if_pos ⟨Nat.zero_le _, by omega⟩, Nat.zero_add, Nat.sub_zero]
      · simp only [zm_cp, va_cpy]
        rw [if_neg (fun q => hj q.2.2), if_neg (fun q => hj (by omega))]
    rw [hset] at hP1
    exact k p e s m args below meth c C H1 locs1 ls hP1 hS1 hl
end ZCa
end
section
theorem dX0_init_0 : decode cX0_init 0 = .ok (.aload_n 0, 1) := by decide +kernel
theorem dX0_init_1 : decode cX0_init 1 = .ok (.invokespecial 3, 3) := by decide +kernel
theorem dX0_init_4 : decode cX0_init 4 = .ok (.aload_n 0, 1) := by decide +kernel
theorem dX0_init_5 : decode cX0_init 5 = .ok (.iconst 4, 1) := by decide +kernel
theorem dX0_init_6 : decode cX0_init 6 = .ok (.anewarray 9, 3) := by decide +kernel
theorem dX0_init_9 : decode cX0_init 9 = .ok (.putfield 11, 3) := by decide +kernel
theorem dX0_init_12 : decode cX0_init 12 = .ok (.aload_n 0, 1) := by decide +kernel
theorem dX0_init_13 : decode cX0_init 13 = .ok (.iconst 0, 1) := by decide +kernel
theorem dX0_init_14 : decode cX0_init 14 = .ok (.putfield 17, 3) := by decide +kernel
theorem dX0_init_17 : decode cX0_init 17 = .ok (.aload_n 0, 1) := by decide +kernel
theorem dX0_init_18 : decode cX0_init 18 = .ok (.iconst 0, 1) := by decide +kernel
theorem dX0_init_19 : decode cX0_init 19 = .ok (.putfield 21, 3) := by decide +kernel
theorem dX0_init_22 : decode cX0_init 22 = .ok (.iconst 0, 1) := by decide +kernel
theorem dX0_init_23 : decode cX0_init 23 = .ok (.istore_n 1, 1) := by decide +kernel
theorem dX0_init_24 : decode cX0_init 24 = .ok (.iload_n 1, 1) := by decide +kernel
theorem dX0_init_25 : decode cX0_init 25 = .ok (.iconst 4, 1) := by decide +kernel
theorem dX0_init_26 : decode cX0_init 26 = .ok (.if_icmp .ge 22, 3) := by decide +kernel
theorem dX0_init_29 : decode cX0_init 29 = .ok (.aload_n 0, 1) := by decide +kernel
theorem dX0_init_30 : decode cX0_init 30 = .ok (.getfield 11, 3) := by decide +kernel
theorem dX0_init_33 : decode cX0_init 33 = .ok (.iload_n 1, 1) := by decide +kernel
theorem dX0_init_34 : decode cX0_init 34 = .ok (.new 9, 3) := by decide +kernel
theorem dX0_init_37 : decode cX0_init 37 = .ok (.dup, 1) := by decide +kernel
theorem dX0_init_38 : decode cX0_init 38 = .ok (.invokespecial 24, 3) := by decide +kernel
theorem dX0_init_41 : decode cX0_init 41 = .ok (.aastore, 1) := by decide +kernel
theorem dX0_init_42 : decode cX0_init 42 = .ok (.iinc 1 1, 3) := by decide +kernel
theorem dX0_init_45 : decode cX0_init 45 = .ok (.goto (-21), 3) := by decide +kernel
theorem dX0_init_48 : decode cX0_init 48 = .ok (.return_, 1) := by decide +kernel
theorem dX0_remember_0 : decode cX0_remember 0 = .ok (.aload_n 0, 1) := by decide +kernel
theorem dX0_remember_1 : decode cX0_remember 1 = .ok (.aload_n 0, 1) := by decide +kernel
theorem dX0_remember_2 : decode cX0_remember 2 = .ok (.getfield 21, 3) := by decide +kernel
theorem dX0_remember_5 : decode cX0_remember 5 = .ok (.invokevirtual 25, 3) := by decide +kernel
theorem dX0_remember_8 : decode cX0_remember 8 = .ok (.astore_n 2, 1) := by decide +kernel
theorem dX0_remember_9 : decode cX0_remember 9 = .ok (.aload_n 2, 1) := by decide +kernel
theorem dX0_remember_10 : decode cX0_remember 10 = .ok (.ifnonnull 4, 3) := by decide +kernel
theorem dX0_remember_13 : decode cX0_remember 13 = .ok (.return_, 1) := by decide +kernel
theorem dX0_remember_14 : decode cX0_remember 14 = .ok (.aload_n 2, 1) := by decide +kernel
theorem dX0_remember_15 : decode cX0_remember 15 = .ok (.aload_n 1, 1) := by decide +kernel
theorem dX0_remember_16 : decode cX0_remember 16 = .ok (.invokevirtual 29, 3) := by decide +kernel
theorem dX0_remember_19 : decode cX0_remember 19 = .ok (.aload_n 0, 1) := by decide +kernel
theorem dX0_remember_20 : decode cX0_remember 20 = .ok (.aload_n 0, 1) := by decide +kernel
theorem dX0_remember_21 : decode cX0_remember 21 = .ok (.getfield 21, 3) := by decide +kernel
theorem dX0_remember_24 : decode cX0_remember 24 = .ok (.iconst 1, 1) := by decide +kernel
theorem dX0_remember_25 : decode cX0_remember 25 = .ok (.iadd, 1) := by decide +kernel
theorem dX0_remember_26 : decode cX0_remember 26 = .ok (.iconst 4, 1) := by decide +kernel
theorem dX0_remember_27 : decode cX0_remember 27 = .ok (.irem, 1) := by decide +kernel
theorem dX0_remember_28 : decode cX0_remember 28 = .ok (.putfield 21, 3) := by decide +kernel
theorem dX0_remember_31 : decode cX0_remember 31 = .ok (.aload_n 0, 1) := by decide +kernel
theorem dX0_remember_32 : decode cX0_remember 32 = .ok (.aload_n 0, 1) := by decide +kernel
theorem dX0_remember_33 : decode cX0_remember 33 = .ok (.getfield 17, 3) := by decide +kernel
theorem dX0_remember_36 : decode cX0_remember 36 = .ok (.iconst 1, 1) := by decide +kernel
theorem dX0_remember_37 : decode cX0_remember 37 = .ok (.iadd, 1) := by decide +kernel
theorem dX0_remember_38 : decode cX0_remember 38 = .ok (.iconst 4, 1) := by decide +kernel
theorem dX0_remember_39 : decode cX0_remember 39 = .ok (.invokestatic 33, 3) := by decide +kernel
theorem dX0_remember_42 : decode cX0_remember 42 = .ok (.putfield 17, 3) := by decide +kernel
theorem dX0_remember_45 : decode cX0_remember 45 = .ok (.return_, 1) := by decide +kernel
theorem dX0_giveBack_0 : decode cX0_giveBack 0 = .ok (.aload_n 0, 1) := by decide +kernel
theorem dX0_giveBack_1 : decode cX0_giveBack 1 = .ok (.getfield 21, 3) := by decide +kernel
theorem dX0_giveBack_4 : decode cX0_giveBack 4 = .ok (.iconst 4, 1) := by decide +kernel
theorem dX0_giveBack_5 : decode cX0_giveBack 5 = .ok (.iadd, 1) := by decide +kernel
theorem dX0_giveBack_6 : decode cX0_giveBack 6 = .ok (.iconst 1, 1) := by decide +kernel
theorem dX0_giveBack_7 : decode cX0_giveBack 7 = .ok (.isub, 1) := by decide +kernel
theorem dX0_giveBack_8 : decode cX0_giveBack 8 = .ok (.iconst 4, 1) := by decide +kernel
theorem dX0_giveBack_9 : decode cX0_giveBack 9 = .ok (.irem, 1) := by decide +kernel
theorem dX0_giveBack_10 : decode cX0_giveBack 10 = .ok (.istore_n 2, 1) := by decide +kernel
theorem dX0_giveBack_11 : decode cX0_giveBack 11 = .ok (.aload_n 0, 1) := by decide +kernel
theorem dX0_giveBack_12 : decode cX0_giveBack 12 = .ok (.iload_n 2, 1) := by decide +kernel
theorem dX0_giveBack_13 : decode cX0_giveBack 13 = .ok (.invokevirtual 25, 3) := by decide +kernel
theorem dX0_giveBack_16 : decode cX0_giveBack 16 = .ok (.astore_n 3, 1) := by decide +kernel
theorem dX0_giveBack_17 : decode cX0_giveBack 17 = .ok (.aload_n 0, 1) := by decide +kernel
theorem dX0_giveBack_18 : decode cX0_giveBack 18 = .ok (.getfield 17, 3) := by decide +kernel
theorem dX0_giveBack_21 : decode cX0_giveBack 21 = .ok (.ifCond .eq 7, 3) := by decide +kernel
theorem dX0_giveBack_24 : decode cX0_giveBack 24 = .ok (.aload_n 3, 1) := by decide +kernel
theorem dX0_giveBack_25 : decode cX0_giveBack 25 = .ok (.ifnonnull 6, 3) := by decide +kernel
theorem dX0_giveBack_28 : decode cX0_giveBack 28 = .ok (.bipush (-5), 2) := by decide +kernel
theorem dX0_giveBack_30 : decode cX0_giveBack 30 = .ok (.ireturn, 1) := by decide +kernel
theorem dX0_giveBack_31 : decode cX0_giveBack 31 = .ok (.aload_n 1, 1) := by decide +kernel
theorem dX0_giveBack_32 : decode cX0_giveBack 32 = .ok (.aload_n 3, 1) := by decide +kernel
theorem dX0_giveBack_33 : decode cX0_giveBack 33 = .ok (.invokevirtual 29, 3) := by decide +kernel
theorem dX0_giveBack_36 : decode cX0_giveBack 36 = .ok (.aload_n 0, 1) := by decide +kernel
theorem dX0_giveBack_37 : decode cX0_giveBack 37 = .ok (.iload_n 2, 1) := by decide +kernel
theorem dX0_giveBack_38 : decode cX0_giveBack 38 = .ok (.putfield 21, 3) := by decide +kernel
theorem dX0_giveBack_41 : decode cX0_giveBack 41 = .ok (.aload_n 0, 1) := by decide +kernel
theorem dX0_giveBack_42 : decode cX0_giveBack 42 = .ok (.dup, 1) := by decide +kernel
theorem dX0_giveBack_43 : decode cX0_giveBack 43 = .ok (.getfield 17, 3) := by decide +kernel
theorem dX0_giveBack_46 : decode cX0_giveBack 46 = .ok (.iconst 1, 1) := by decide +kernel
theorem dX0_giveBack_47 : decode cX0_giveBack 47 = .ok (.isub, 1) := by decide +kernel
theorem dX0_giveBack_48 : decode cX0_giveBack 48 = .ok (.putfield 17, 3) := by decide +kernel
theorem dX0_giveBack_51 : decode cX0_giveBack 51 = .ok (.aload_n 0, 1) := by decide +kernel
theorem dX0_giveBack_52 : decode cX0_giveBack 52 = .ok (.getfield 17, 3) := by decide +kernel
theorem dX0_giveBack_55 : decode cX0_giveBack 55 = .ok (.ireturn, 1) := by decide +kernel
theorem dX0_stateAt_0 : decode cX0_stateAt 0 = .ok (.iload_n 1, 1) := by decide +kernel
theorem dX0_stateAt_1 : decode cX0_stateAt 1 = .ok (.ifCond .lt 21, 3) := by decide +kernel
theorem dX0_stateAt_4 : decode cX0_stateAt 4 = .ok (.iload_n 1, 1) := by decide +kernel
theorem dX0_stateAt_5 : decode cX0_stateAt 5 = .ok (.aload_n 0, 1) := by decide +kernel
theorem dX0_stateAt_6 : decode cX0_stateAt 6 = .ok (.getfield 11, 3) := by decide +kernel
theorem dX0_stateAt_9 : decode cX0_stateAt 9 = .ok (.arraylength, 1) := by decide +kernel
theorem dX0_stateAt_10 : decode cX0_stateAt 10 = .ok (.if_icmp .ge 12, 3) := by decide +kernel
theorem dX0_stateAt_13 : decode cX0_stateAt 13 = .ok (.aload_n 0, 1) := by decide +kernel
theorem dX0_stateAt_14 : decode cX0_stateAt 14 = .ok (.getfield 11, 3) := by decide +kernel
theorem dX0_stateAt_17 : decode cX0_stateAt 17 = .ok (.iload_n 1, 1) := by decide +kernel
theorem dX0_stateAt_18 : decode cX0_stateAt 18 = .ok (.aaload, 1) := by decide +kernel
theorem dX0_stateAt_19 : decode cX0_stateAt 19 = .ok (.goto 4, 3) := by decide +kernel
theorem dX0_stateAt_22 : decode cX0_stateAt 22 = .ok (.aconst_null, 1) := by decide +kernel
theorem dX0_stateAt_23 : decode cX0_stateAt 23 = .ok (.areturn, 1) := by decide +kernel
theorem dX1_init_0 : decode cX1_init 0 = .ok (.aload_n 0, 1) := by decide +kernel
theorem dX1_init_1 : decode cX1_init 1 = .ok (.invokespecial 3, 3) := by decide +kernel
theorem dX1_init_4 : decode cX1_init 4 = .ok (.aload_n 0, 1) := by decide +kernel
theorem dX1_init_5 : decode cX1_init 5 = .ok (.bipush 120, 2) := by decide +kernel
theorem dX1_init_7 : decode cX1_init 7 = .ok (.newarray .int, 2) := by decide +kernel
theorem dX1_init_9 : decode cX1_init 9 = .ok (.putfield 9, 3) := by decide +kernel
theorem dX1_init_12 : decode cX1_init 12 = .ok (.aload_n 0, 1) := by decide +kernel
theorem dX1_init_13 : decode cX1_init 13 = .ok (.bipush 120, 2) := by decide +kernel
theorem dX1_init_15 : decode cX1_init 15 = .ok (.newarray .int, 2) := by decide +kernel
theorem dX1_init_17 : decode cX1_init 17 = .ok (.putfield 15, 3) := by decide +kernel
theorem dX1_init_20 : decode cX1_init 20 = .ok (.aload_n 0, 1) := by decide +kernel
theorem dX1_init_21 : decode cX1_init 21 = .ok (.bipush 120, 2) := by decide +kernel
theorem dX1_init_23 : decode cX1_init 23 = .ok (.newarray .int, 2) := by decide +kernel
theorem dX1_init_25 : decode cX1_init 25 = .ok (.putfield 18, 3) := by decide +kernel
theorem dX1_init_28 : decode cX1_init 28 = .ok (.aload_n 0, 1) := by decide +kernel
theorem dX1_init_29 : decode cX1_init 29 = .ok (.bipush 9, 2) := by decide +kernel
theorem dX1_init_31 : decode cX1_init 31 = .ok (.newarray .int, 2) := by decide +kernel
theorem dX1_init_33 : decode cX1_init 33 = .ok (.putfield 21, 3) := by decide +kernel
theorem dX1_init_36 : decode cX1_init 36 = .ok (.aload_n 0, 1) := by decide +kernel
theorem dX1_init_37 : decode cX1_init 37 = .ok (.bipush 9, 2) := by decide +kernel
theorem dX1_init_39 : decode cX1_init 39 = .ok (.newarray .int, 2) := by decide +kernel
theorem dX1_init_41 : decode cX1_init 41 = .ok (.putfield 24, 3) := by decide +kernel
theorem dX1_init_44 : decode cX1_init 44 = .ok (.aload_n 0, 1) := by decide +kernel
theorem dX1_init_45 : decode cX1_init 45 = .ok (.bipush 9, 2) := by decide +kernel
theorem dX1_init_47 : decode cX1_init 47 = .ok (.newarray .int, 2) := by decide +kernel
theorem dX1_init_49 : decode cX1_init 49 = .ok (.putfield 27, 3) := by decide +kernel
theorem dX1_init_52 : decode cX1_init 52 = .ok (.aload_n 0, 1) := by decide +kernel
theorem dX1_init_53 : decode cX1_init 53 = .ok (.bipush 9, 2) := by decide +kernel
theorem dX1_init_55 : decode cX1_init 55 = .ok (.newarray .int, 2) := by decide +kernel
theorem dX1_init_57 : decode cX1_init 57 = .ok (.putfield 30, 3) := by decide +kernel
theorem dX1_init_60 : decode cX1_init 60 = .ok (.aload_n 0, 1) := by decide +kernel
theorem dX1_init_61 : decode cX1_init 61 = .ok (.bipush 9, 2) := by decide +kernel
theorem dX1_init_63 : decode cX1_init 63 = .ok (.newarray .int, 2) := by decide +kernel
theorem dX1_init_65 : decode cX1_init 65 = .ok (.putfield 33, 3) := by decide +kernel
theorem dX1_init_68 : decode cX1_init 68 = .ok (.aload_n 0, 1) := by decide +kernel
theorem dX1_init_69 : decode cX1_init 69 = .ok (.bipush 9, 2) := by decide +kernel
theorem dX1_init_71 : decode cX1_init 71 = .ok (.newarray .int, 2) := by decide +kernel
theorem dX1_init_73 : decode cX1_init 73 = .ok (.putfield 36, 3) := by decide +kernel
theorem dX1_init_76 : decode cX1_init 76 = .ok (.aload_n 0, 1) := by decide +kernel
theorem dX1_init_77 : decode cX1_init 77 = .ok (.bipush 9, 2) := by decide +kernel
theorem dX1_init_79 : decode cX1_init 79 = .ok (.newarray .int, 2) := by decide +kernel
theorem dX1_init_81 : decode cX1_init 81 = .ok (.putfield 39, 3) := by decide +kernel
theorem dX1_init_84 : decode cX1_init 84 = .ok (.aload_n 0, 1) := by decide +kernel
theorem dX1_init_85 : decode cX1_init 85 = .ok (.bipush 9, 2) := by decide +kernel
theorem dX1_init_87 : decode cX1_init 87 = .ok (.newarray .int, 2) := by decide +kernel
theorem dX1_init_89 : decode cX1_init 89 = .ok (.putfield 42, 3) := by decide +kernel
theorem dX1_init_92 : decode cX1_init 92 = .ok (.aload_n 0, 1) := by decide +kernel
theorem dX1_init_93 : decode cX1_init 93 = .ok (.bipush 9, 2) := by decide +kernel
theorem dX1_init_95 : decode cX1_init 95 = .ok (.newarray .int, 2) := by decide +kernel
theorem dX1_init_97 : decode cX1_init 97 = .ok (.putfield 45, 3) := by decide +kernel
theorem dX1_init_100 : decode cX1_init 100 = .ok (.aload_n 0, 1) := by decide +kernel
theorem dX1_init_101 : decode cX1_init 101 = .ok (.bipush 9, 2) := by decide +kernel
theorem dX1_init_103 : decode cX1_init 103 = .ok (.newarray .int, 2) := by decide +kernel
theorem dX1_init_105 : decode cX1_init 105 = .ok (.putfield 48, 3) := by decide +kernel
theorem dX1_init_108 : decode cX1_init 108 = .ok (.aload_n 0, 1) := by decide +kernel
theorem dX1_init_109 : decode cX1_init 109 = .ok (.bipush 9, 2) := by decide +kernel
theorem dX1_init_111 : decode cX1_init 111 = .ok (.bipush 9, 2) := by decide +kernel
theorem dX1_init_113 : decode cX1_init 113 = .ok (.multianewarray 51 2, 4) := by decide +kernel
theorem dX1_init_117 : decode cX1_init 117 = .ok (.putfield 53, 3) := by decide +kernel
theorem dX1_init_120 : decode cX1_init 120 = .ok (.aload_n 0, 1) := by decide +kernel
theorem dX1_init_121 : decode cX1_init 121 = .ok (.getstatic 56, 3) := by decide +kernel
theorem dX1_init_124 : decode cX1_init 124 = .ok (.invokevirtual 59, 3) := by decide +kernel
theorem dX1_init_127 : decode cX1_init 127 = .ok (.checkcast 60, 3) := by decide +kernel
theorem dX1_init_130 : decode cX1_init 130 = .ok (.putfield 64, 3) := by decide +kernel
theorem dX1_init_133 : decode cX1_init 133 = .ok (.aload_n 0, 1) := by decide +kernel
theorem dX1_init_134 : decode cX1_init 134 = .ok (.iconst 0, 1) := by decide +kernel
theorem dX1_init_135 : decode cX1_init 135 = .ok (.putfield 67, 3) := by decide +kernel
theorem dX1_init_138 : decode cX1_init 138 = .ok (.aload_n 0, 1) := by decide +kernel
theorem dX1_init_139 : decode cX1_init 139 = .ok (.iconst 0, 1) := by decide +kernel
theorem dX1_init_140 : decode cX1_init 140 = .ok (.putfield 71, 3) := by decide +kernel
theorem dX1_init_143 : decode cX1_init 143 = .ok (.aload_n 0, 1) := by decide +kernel
theorem dX1_init_144 : decode cX1_init 144 = .ok (.getfield 9, 3) := by decide +kernel
theorem dX1_init_147 : decode cX1_init 147 = .ok (.iconst 4, 1) := by decide +kernel
theorem dX1_init_148 : decode cX1_init 148 = .ok (.invokestatic 74, 3) := by decide +kernel
theorem dX1_init_151 : decode cX1_init 151 = .ok (.aload_n 0, 1) := by decide +kernel
theorem dX1_init_152 : decode cX1_init 152 = .ok (.getfield 15, 3) := by decide +kernel
theorem dX1_init_155 : decode cX1_init 155 = .ok (.bipush (-5), 2) := by decide +kernel
theorem dX1_init_157 : decode cX1_init 157 = .ok (.invokestatic 74, 3) := by decide +kernel
theorem dX1_init_160 : decode cX1_init 160 = .ok (.aload_n 0, 1) := by decide +kernel
theorem dX1_init_161 : decode cX1_init 161 = .ok (.getfield 18, 3) := by decide +kernel
theorem dX1_init_164 : decode cX1_init 164 = .ok (.bipush (-5), 2) := by decide +kernel
theorem dX1_init_166 : decode cX1_init 166 = .ok (.invokestatic 74, 3) := by decide +kernel
theorem dX1_init_169 : decode cX1_init 169 = .ok (.aload_n 0, 1) := by decide +kernel
theorem dX1_init_170 : decode cX1_init 170 = .ok (.getfield 33, 3) := by decide +kernel
theorem dX1_init_173 : decode cX1_init 173 = .ok (.bipush (-5), 2) := by decide +kernel
theorem dX1_init_175 : decode cX1_init 175 = .ok (.invokestatic 74, 3) := by decide +kernel
theorem dX1_init_178 : decode cX1_init 178 = .ok (.aload_n 0, 1) := by decide +kernel
theorem dX1_init_179 : decode cX1_init 179 = .ok (.getfield 45, 3) := by decide +kernel
theorem dX1_init_182 : decode cX1_init 182 = .ok (.bipush (-5), 2) := by decide +kernel
theorem dX1_init_184 : decode cX1_init 184 = .ok (.invokestatic 74, 3) := by decide +kernel
theorem dX1_init_187 : decode cX1_init 187 = .ok (.return_, 1) := by decide +kernel
theorem dX1_copyFrom_0 : decode cX1_copyFrom 0 = .ok (.aload_n 1, 1) := by decide +kernel
theorem dX1_copyFrom_1 : decode cX1_copyFrom 1 = .ok (.getfield 9, 3) := by decide +kernel
theorem dX1_copyFrom_4 : decode cX1_copyFrom 4 = .ok (.aload_n 0, 1) := by decide +kernel
theorem dX1_copyFrom_5 : decode cX1_copyFrom 5 = .ok (.getfield 9, 3) := by decide +kernel
theorem dX1_copyFrom_8 : decode cX1_copyFrom 8 = .ok (.invokestatic 80, 3) := by decide +kernel
theorem dX1_copyFrom_11 : decode cX1_copyFrom 11 = .ok (.aload_n 1, 1) := by decide +kernel
theorem dX1_copyFrom_12 : decode cX1_copyFrom 12 = .ok (.getfield 15, 3) := by decide +kernel
theorem dX1_copyFrom_15 : decode cX1_copyFrom 15 = .ok (.aload_n 0, 1) := by decide +kernel
theorem dX1_copyFrom_16 : decode cX1_copyFrom 16 = .ok (.getfield 15, 3) := by decide +kernel
theorem dX1_copyFrom_19 : decode cX1_copyFrom 19 = .ok (.invokestatic 80, 3) := by decide +kernel
theorem dX1_copyFrom_22 : decode cX1_copyFrom 22 = .ok (.aload_n 1, 1) := by decide +kernel
theorem dX1_copyFrom_23 : decode cX1_copyFrom 23 = .ok (.getfield 18, 3) := by decide +kernel
theorem dX1_copyFrom_26 : decode cX1_copyFrom 26 = .ok (.aload_n 0, 1) := by decide +kernel
theorem dX1_copyFrom_27 : decode cX1_copyFrom 27 = .ok (.getfield 18, 3) := by decide +kernel
theorem dX1_copyFrom_30 : decode cX1_copyFrom 30 = .ok (.invokestatic 80, 3) := by decide +kernel
theorem dX1_copyFrom_33 : decode cX1_copyFrom 33 = .ok (.aload_n 1, 1) := by decide +kernel
theorem dX1_copyFrom_34 : decode cX1_copyFrom 34 = .ok (.getfield 21, 3) := by decide +kernel
theorem dX1_copyFrom_37 : decode cX1_copyFrom 37 = .ok (.aload_n 0, 1) := by decide +kernel
theorem dX1_copyFrom_38 : decode cX1_copyFrom 38 = .ok (.getfield 21, 3) := by decide +kernel
theorem dX1_copyFrom_41 : decode cX1_copyFrom 41 = .ok (.invokestatic 80, 3) := by decide +kernel
theorem dX1_copyFrom_44 : decode cX1_copyFrom 44 = .ok (.aload_n 1, 1) := by decide +kernel
theorem dX1_copyFrom_45 : decode cX1_copyFrom 45 = .ok (.getfield 24, 3) := by decide +kernel
theorem dX1_copyFrom_48 : decode cX1_copyFrom 48 = .ok (.aload_n 0, 1) := by decide +kernel
theorem dX1_copyFrom_49 : decode cX1_copyFrom 49 = .ok (.getfield 24, 3) := by decide +kernel
theorem dX1_copyFrom_52 : decode cX1_copyFrom 52 = .ok (.invokestatic 80, 3) := by decide +kernel
theorem dX1_copyFrom_55 : decode cX1_copyFrom 55 = .ok (.aload_n 1, 1) := by decide +kernel
theorem dX1_copyFrom_56 : decode cX1_copyFrom 56 = .ok (.getfield 27, 3) := by decide +kernel
theorem dX1_copyFrom_59 : decode cX1_copyFrom 59 = .ok (.aload_n 0, 1) := by decide +kernel
theorem dX1_copyFrom_60 : decode cX1_copyFrom 60 = .ok (.getfield 27, 3) := by decide +kernel
theorem dX1_copyFrom_63 : decode cX1_copyFrom 63 = .ok (.invokestatic 80, 3) := by decide +kernel
theorem dX1_copyFrom_66 : decode cX1_copyFrom 66 = .ok (.aload_n 1, 1) := by decide +kernel
theorem dX1_copyFrom_67 : decode cX1_copyFrom 67 = .ok (.getfield 30, 3) := by decide +kernel
theorem dX1_copyFrom_70 : decode cX1_copyFrom 70 = .ok (.aload_n 0, 1) := by decide +kernel
theorem dX1_copyFrom_71 : decode cX1_copyFrom 71 = .ok (.getfield 30, 3) := by decide +kernel
theorem dX1_copyFrom_74 : decode cX1_copyFrom 74 = .ok (.invokestatic 80, 3) := by decide +kernel
theorem dX1_copyFrom_77 : decode cX1_copyFrom 77 = .ok (.aload_n 1, 1) := by decide +kernel
theorem dX1_copyFrom_78 : decode cX1_copyFrom 78 = .ok (.getfield 33, 3) := by decide +kernel
theorem dX1_copyFrom_81 : decode cX1_copyFrom 81 = .ok (.aload_n 0, 1) := by decide +kernel
theorem dX1_copyFrom_82 : decode cX1_copyFrom 82 = .ok (.getfield 33, 3) := by decide +kernel
theorem dX1_copyFrom_85 : decode cX1_copyFrom 85 = .ok (.invokestatic 80, 3) := by decide +kernel
theorem dX1_copyFrom_88 : decode cX1_copyFrom 88 = .ok (.aload_n 1, 1) := by decide +kernel
theorem dX1_copyFrom_89 : decode cX1_copyFrom 89 = .ok (.getfield 36, 3) := by decide +kernel
theorem dX1_copyFrom_92 : decode cX1_copyFrom 92 = .ok (.aload_n 0, 1) := by decide +kernel
theorem dX1_copyFrom_93 : decode cX1_copyFrom 93 = .ok (.getfield 36, 3) := by decide +kernel
theorem dX1_copyFrom_96 : decode cX1_copyFrom 96 = .ok (.invokestatic 80, 3) := by decide +kernel
theorem dX1_copyFrom_99 : decode cX1_copyFrom 99 = .ok (.aload_n 1, 1) := by decide +kernel
theorem dX1_copyFrom_100 : decode cX1_copyFrom 100 = .ok (.getfield 39, 3) := by decide +kernel
theorem dX1_copyFrom_103 : decode cX1_copyFrom 103 = .ok (.aload_n 0, 1) := by decide +kernel
theorem dX1_copyFrom_104 : decode cX1_copyFrom 104 = .ok (.getfield 39, 3) := by decide +kernel
theorem dX1_copyFrom_107 : decode cX1_copyFrom 107 = .ok (.invokestatic 80, 3) := by decide +kernel
theorem dX1_copyFrom_110 : decode cX1_copyFrom 110 = .ok (.aload_n 1, 1) := by decide +kernel
theorem dX1_copyFrom_111 : decode cX1_copyFrom 111 = .ok (.getfield 42, 3) := by decide +kernel
theorem dX1_copyFrom_114 : decode cX1_copyFrom 114 = .ok (.aload_n 0, 1) := by decide +kernel
theorem dX1_copyFrom_115 : decode cX1_copyFrom 115 = .ok (.getfield 42, 3) := by decide +kernel
theorem dX1_copyFrom_118 : decode cX1_copyFrom 118 = .ok (.invokestatic 80, 3) := by decide +kernel
theorem dX1_copyFrom_121 : decode cX1_copyFrom 121 = .ok (.aload_n 1, 1) := by decide +kernel
theorem dX1_copyFrom_122 : decode cX1_copyFrom 122 = .ok (.getfield 45, 3) := by decide +kernel
theorem dX1_copyFrom_125 : decode cX1_copyFrom 125 = .ok (.aload_n 0, 1) := by decide +kernel
theorem dX1_copyFrom_126 : decode cX1_copyFrom 126 = .ok (.getfield 45, 3) := by decide +kernel
theorem dX1_copyFrom_129 : decode cX1_copyFrom 129 = .ok (.invokestatic 80, 3) := by decide +kernel
theorem dX1_copyFrom_132 : decode cX1_copyFrom 132 = .ok (.aload_n 1, 1) := by decide +kernel
theorem dX1_copyFrom_133 : decode cX1_copyFrom 133 = .ok (.getfield 48, 3) := by decide +kernel
theorem dX1_copyFrom_136 : decode cX1_copyFrom 136 = .ok (.aload_n 0, 1) := by decide +kernel
theorem dX1_copyFrom_137 : decode cX1_copyFrom 137 = .ok (.getfield 48, 3) := by decide +kernel
theorem dX1_copyFrom_140 : decode cX1_copyFrom 140 = .ok (.invokestatic 80, 3) := by decide +kernel
theorem dX1_copyFrom_143 : decode cX1_copyFrom 143 = .ok (.iconst 0, 1) := by decide +kernel
theorem dX1_copyFrom_144 : decode cX1_copyFrom 144 = .ok (.istore_n 2, 1) := by decide +kernel
theorem dX1_copyFrom_145 : decode cX1_copyFrom 145 = .ok (.iload_n 2, 1) := by decide +kernel
theorem dX1_copyFrom_146 : decode cX1_copyFrom 146 = .ok (.bipush 9, 2) := by decide +kernel
theorem dX1_copyFrom_148 : decode cX1_copyFrom 148 = .ok (.if_icmp .ge 24, 3) := by decide +kernel
theorem dX1_copyFrom_151 : decode cX1_copyFrom 151 = .ok (.aload_n 1, 1) := by decide +kernel
theorem dX1_copyFrom_152 : decode cX1_copyFrom 152 = .ok (.getfield 53, 3) := by decide +kernel
theorem dX1_copyFrom_155 : decode cX1_copyFrom 155 = .ok (.iload_n 2, 1) := by decide +kernel
theorem dX1_copyFrom_156 : decode cX1_copyFrom 156 = .ok (.aaload, 1) := by decide +kernel
theorem dX1_copyFrom_157 : decode cX1_copyFrom 157 = .ok (.aload_n 0, 1) := by decide +kernel
theorem dX1_copyFrom_158 : decode cX1_copyFrom 158 = .ok (.getfield 53, 3) := by decide +kernel
theorem dX1_copyFrom_161 : decode cX1_copyFrom 161 = .ok (.iload_n 2, 1) := by decide +kernel
theorem dX1_copyFrom_162 : decode cX1_copyFrom 162 = .ok (.aaload, 1) := by decide +kernel
theorem dX1_copyFrom_163 : decode cX1_copyFrom 163 = .ok (.invokestatic 80, 3) := by decide +kernel
theorem dX1_copyFrom_166 : decode cX1_copyFrom 166 = .ok (.iinc 2 1, 3) := by decide +kernel
theorem dX1_copyFrom_169 : decode cX1_copyFrom 169 = .ok (.goto (-24), 3) := by decide +kernel
theorem dX1_copyFrom_172 : decode cX1_copyFrom 172 = .ok (.aload_n 1, 1) := by decide +kernel
theorem dX1_copyFrom_173 : decode cX1_copyFrom 173 = .ok (.getfield 64, 3) := by decide +kernel
theorem dX1_copyFrom_176 : decode cX1_copyFrom 176 = .ok (.aload_n 0, 1) := by decide +kernel
theorem dX1_copyFrom_177 : decode cX1_copyFrom 177 = .ok (.getfield 64, 3) := by decide +kernel
theorem dX1_copyFrom_180 : decode cX1_copyFrom 180 = .ok (.invokestatic 80, 3) := by decide +kernel
theorem dX1_copyFrom_183 : decode cX1_copyFrom 183 = .ok (.aload_n 0, 1) := by decide +kernel
theorem dX1_copyFrom_184 : decode cX1_copyFrom 184 = .ok (.aload_n 1, 1) := by decide +kernel
theorem dX1_copyFrom_185 : decode cX1_copyFrom 185 = .ok (.getfield 67, 3) := by decide +kernel
theorem dX1_copyFrom_188 : decode cX1_copyFrom 188 = .ok (.putfield 67, 3) := by decide +kernel
theorem dX1_copyFrom_191 : decode cX1_copyFrom 191 = .ok (.aload_n 0, 1) := by decide +kernel
theorem dX1_copyFrom_192 : decode cX1_copyFrom 192 = .ok (.aload_n 1, 1) := by decide +kernel
theorem dX1_copyFrom_193 : decode cX1_copyFrom 193 = .ok (.getfield 71, 3) := by decide +kernel
theorem dX1_copyFrom_196 : decode cX1_copyFrom 196 = .ok (.putfield 71, 3) := by decide +kernel
theorem dX1_copyFrom_199 : decode cX1_copyFrom 199 = .ok (.return_, 1) := by decide +kernel
theorem dX1_placeSnail_0 : decode cX1_placeSnail 0 = .ok (.iload_n 1, 1) := by decide +kernel
theorem dX1_placeSnail_1 : decode cX1_placeSnail 1 = .ok (.ifCond .lt 9, 3) := by decide +kernel
theorem dX1_placeSnail_4 : decode cX1_placeSnail 4 = .ok (.iload_n 1, 1) := by decide +kernel
theorem dX1_placeSnail_5 : decode cX1_placeSnail 5 = .ok (.bipush 6, 2) := by decide +kernel
theorem dX1_placeSnail_7 : decode cX1_placeSnail 7 = .ok (.if_icmp .lt 5, 3) := by decide +kernel
theorem dX1_placeSnail_10 : decode cX1_placeSnail 10 = .ok (.iconst (-1), 1) := by decide +kernel
theorem dX1_placeSnail_11 : decode cX1_placeSnail 11 = .ok (.ireturn, 1) := by decide +kernel
theorem dX1_placeSnail_12 : decode cX1_placeSnail 12 = .ok (.iload_n 2, 1) := by decide +kernel
theorem dX1_placeSnail_13 : decode cX1_placeSnail 13 = .ok (.ifCond .lt 9, 3) := by decide +kernel
theorem dX1_placeSnail_16 : decode cX1_placeSnail 16 = .ok (.iload_n 2, 1) := by decide +kernel
theorem dX1_placeSnail_17 : decode cX1_placeSnail 17 = .ok (.bipush 99, 2) := by decide +kernel
theorem dX1_placeSnail_19 : decode cX1_placeSnail 19 = .ok (.if_icmp .le 6, 3) := by decide +kernel
theorem dX1_placeSnail_22 : decode cX1_placeSnail 22 = .ok (.bipush (-2), 2) := by decide +kernel
theorem dX1_placeSnail_24 : decode cX1_placeSnail 24 = .ok (.ireturn, 1) := by decide +kernel
theorem dX1_placeSnail_25 : decode cX1_placeSnail 25 = .ok (.aload_n 0, 1) := by decide +kernel
theorem dX1_placeSnail_26 : decode cX1_placeSnail 26 = .ok (.iload_n 1, 1) := by decide +kernel
theorem dX1_placeSnail_27 : decode cX1_placeSnail 27 = .ok (.iconst 0, 1) := by decide +kernel
theorem dX1_placeSnail_28 : decode cX1_placeSnail 28 = .ok (.invokevirtual 84, 3) := by decide +kernel
theorem dX1_placeSnail_31 : decode cX1_placeSnail 31 = .ok (.bipush (-5), 2) := by decide +kernel
theorem dX1_placeSnail_33 : decode cX1_placeSnail 33 = .ok (.if_icmp .eq 6, 3) := by decide +kernel
theorem dX1_placeSnail_36 : decode cX1_placeSnail 36 = .ok (.bipush (-4), 2) := by decide +kernel
theorem dX1_placeSnail_38 : decode cX1_placeSnail 38 = .ok (.ireturn, 1) := by decide +kernel
theorem dX1_placeSnail_39 : decode cX1_placeSnail 39 = .ok (.aload_n 0, 1) := by decide +kernel
theorem dX1_placeSnail_40 : decode cX1_placeSnail 40 = .ok (.getfield 67, 3) := by decide +kernel
theorem dX1_placeSnail_43 : decode cX1_placeSnail 43 = .ok (.bipush 8, 2) := by decide +kernel
theorem dX1_placeSnail_45 : decode cX1_placeSnail 45 = .ok (.if_icmp .ge 12, 3) := by decide +kernel
theorem dX1_placeSnail_48 : decode cX1_placeSnail 48 = .ok (.aload_n 0, 1) := by decide +kernel
theorem dX1_placeSnail_49 : decode cX1_placeSnail 49 = .ok (.iload_n 1, 1) := by decide +kernel
theorem dX1_placeSnail_50 : decode cX1_placeSnail 50 = .ok (.iload_n 2, 1) := by decide +kernel
theorem dX1_placeSnail_51 : decode cX1_placeSnail 51 = .ok (.invokevirtual 88, 3) := by decide +kernel
theorem dX1_placeSnail_54 : decode cX1_placeSnail 54 = .ok (.goto 5, 3) := by decide +kernel
theorem dX1_placeSnail_57 : decode cX1_placeSnail 57 = .ok (.bipush (-3), 2) := by decide +kernel
theorem dX1_placeSnail_59 : decode cX1_placeSnail 59 = .ok (.ireturn, 1) := by decide +kernel
theorem dX1_addSnail_0 : decode cX1_addSnail 0 = .ok (.aload_n 0, 1) := by decide +kernel
theorem dX1_addSnail_1 : decode cX1_addSnail 1 = .ok (.getfield 67, 3) := by decide +kernel
theorem dX1_addSnail_4 : decode cX1_addSnail 4 = .ok (.istore_n 3, 1) := by decide +kernel
theorem dX1_addSnail_5 : decode cX1_addSnail 5 = .ok (.iload_n 3, 1) := by decide +kernel
theorem dX1_addSnail_6 : decode cX1_addSnail 6 = .ok (.ifCond .lt 9, 3) := by decide +kernel
theorem dX1_addSnail_9 : decode cX1_addSnail 9 = .ok (.iload_n 3, 1) := by decide +kernel
theorem dX1_addSnail_10 : decode cX1_addSnail 10 = .ok (.bipush 9, 2) := by decide +kernel
theorem dX1_addSnail_12 : decode cX1_addSnail 12 = .ok (.if_icmp .lt 6, 3) := by decide +kernel
theorem dX1_addSnail_15 : decode cX1_addSnail 15 = .ok (.bipush (-3), 2) := by decide +kernel
theorem dX1_addSnail_17 : decode cX1_addSnail 17 = .ok (.ireturn, 1) := by decide +kernel
theorem dX1_addSnail_18 : decode cX1_addSnail 18 = .ok (.aload_n 0, 1) := by decide +kernel
theorem dX1_addSnail_19 : decode cX1_addSnail 19 = .ok (.getfield 21, 3) := by decide +kernel
theorem dX1_addSnail_22 : decode cX1_addSnail 22 = .ok (.iload_n 3, 1) := by decide +kernel
theorem dX1_addSnail_23 : decode cX1_addSnail 23 = .ok (.iload_n 1, 1) := by decide +kernel
theorem dX1_addSnail_24 : decode cX1_addSnail 24 = .ok (.iastore, 1) := by decide +kernel
theorem dX1_addSnail_25 : decode cX1_addSnail 25 = .ok (.aload_n 0, 1) := by decide +kernel
theorem dX1_addSnail_26 : decode cX1_addSnail 26 = .ok (.getfield 24, 3) := by decide +kernel
theorem dX1_addSnail_29 : decode cX1_addSnail 29 = .ok (.iload_n 3, 1) := by decide +kernel
theorem dX1_addSnail_30 : decode cX1_addSnail 30 = .ok (.iconst 0, 1) := by decide +kernel
theorem dX1_addSnail_31 : decode cX1_addSnail 31 = .ok (.iastore, 1) := by decide +kernel
theorem dX1_addSnail_32 : decode cX1_addSnail 32 = .ok (.aload_n 0, 1) := by decide +kernel
theorem dX1_addSnail_33 : decode cX1_addSnail 33 = .ok (.getfield 27, 3) := by decide +kernel
theorem dX1_addSnail_36 : decode cX1_addSnail 36 = .ok (.iload_n 3, 1) := by decide +kernel
theorem dX1_addSnail_37 : decode cX1_addSnail 37 = .ok (.iload_n 2, 1) := by decide +kernel
theorem dX1_addSnail_38 : decode cX1_addSnail 38 = .ok (.iastore, 1) := by decide +kernel
theorem dX1_addSnail_39 : decode cX1_addSnail 39 = .ok (.aload_n 0, 1) := by decide +kernel
theorem dX1_addSnail_40 : decode cX1_addSnail 40 = .ok (.dup, 1) := by decide +kernel
theorem dX1_addSnail_41 : decode cX1_addSnail 41 = .ok (.getfield 67, 3) := by decide +kernel
theorem dX1_addSnail_44 : decode cX1_addSnail 44 = .ok (.iconst 1, 1) := by decide +kernel
theorem dX1_addSnail_45 : decode cX1_addSnail 45 = .ok (.iadd, 1) := by decide +kernel
theorem dX1_addSnail_46 : decode cX1_addSnail 46 = .ok (.putfield 67, 3) := by decide +kernel
theorem dX1_addSnail_49 : decode cX1_addSnail 49 = .ok (.iload_n 3, 1) := by decide +kernel
theorem dX1_addSnail_50 : decode cX1_addSnail 50 = .ok (.ireturn, 1) := by decide +kernel
theorem dX1_removeSnail_0 : decode cX1_removeSnail 0 = .ok (.aload_n 0, 1) := by decide +kernel
theorem dX1_removeSnail_1 : decode cX1_removeSnail 1 = .ok (.iload_n 1, 1) := by decide +kernel
theorem dX1_removeSnail_2 : decode cX1_removeSnail 2 = .ok (.invokevirtual 91, 3) := by decide +kernel
theorem dX1_removeSnail_5 : decode cX1_removeSnail 5 = .ok (.ifCond .ne 5, 3) := by decide +kernel
theorem dX1_removeSnail_8 : decode cX1_removeSnail 8 = .ok (.iconst (-1), 1) := by decide +kernel
theorem dX1_removeSnail_9 : decode cX1_removeSnail 9 = .ok (.ireturn, 1) := by decide +kernel
theorem dX1_removeSnail_10 : decode cX1_removeSnail 10 = .ok (.aload_n 0, 1) := by decide +kernel
theorem dX1_removeSnail_11 : decode cX1_removeSnail 11 = .ok (.iload_n 1, 1) := by decide +kernel
theorem dX1_removeSnail_12 : decode cX1_removeSnail 12 = .ok (.invokevirtual 95, 3) := by decide +kernel
theorem dX1_removeSnail_15 : decode cX1_removeSnail 15 = .ok (.ifCond .ne 6, 3) := by decide +kernel
theorem dX1_removeSnail_18 : decode cX1_removeSnail 18 = .ok (.bipush (-4), 2) := by decide +kernel
theorem dX1_removeSnail_20 : decode cX1_removeSnail 20 = .ok (.ireturn, 1) := by decide +kernel
theorem dX1_removeSnail_21 : decode cX1_removeSnail 21 = .ok (.aload_n 0, 1) := by decide +kernel
theorem dX1_removeSnail_22 : decode cX1_removeSnail 22 = .ok (.getfield 30, 3) := by decide +kernel
theorem dX1_removeSnail_25 : decode cX1_removeSnail 25 = .ok (.iload_n 1, 1) := by decide +kernel
theorem dX1_removeSnail_26 : decode cX1_removeSnail 26 = .ok (.iconst 2, 1) := by decide +kernel
theorem dX1_removeSnail_27 : decode cX1_removeSnail 27 = .ok (.iastore, 1) := by decide +kernel
theorem dX1_removeSnail_28 : decode cX1_removeSnail 28 = .ok (.aload_n 0, 1) := by decide +kernel
theorem dX1_removeSnail_29 : decode cX1_removeSnail 29 = .ok (.getfield 24, 3) := by decide +kernel
theorem dX1_removeSnail_32 : decode cX1_removeSnail 32 = .ok (.iload_n 1, 1) := by decide +kernel
theorem dX1_removeSnail_33 : decode cX1_removeSnail 33 = .ok (.iaload, 1) := by decide +kernel
theorem dX1_removeSnail_34 : decode cX1_removeSnail 34 = .ok (.ireturn, 1) := by decide +kernel
theorem dX1_changeFrost_0 : decode cX1_changeFrost 0 = .ok (.iload_n 1, 1) := by decide +kernel
theorem dX1_changeFrost_1 : decode cX1_changeFrost 1 = .ok (.iload_n 2, 1) := by decide +kernel
theorem dX1_changeFrost_2 : decode cX1_changeFrost 2 = .ok (.invokestatic 98, 3) := by decide +kernel
theorem dX1_changeFrost_5 : decode cX1_changeFrost 5 = .ok (.istore 4, 2) := by decide +kernel
theorem dX1_changeFrost_7 : decode cX1_changeFrost 7 = .ok (.iload 4, 2) := by decide +kernel
theorem dX1_changeFrost_9 : decode cX1_changeFrost 9 = .ok (.iconst (-1), 1) := by decide +kernel
theorem dX1_changeFrost_10 : decode cX1_changeFrost 10 = .ok (.if_icmp .ne 5, 3) := by decide +kernel
theorem dX1_changeFrost_13 : decode cX1_changeFrost 13 = .ok (.iconst (-1), 1) := by decide +kernel
theorem dX1_changeFrost_14 : decode cX1_changeFrost 14 = .ok (.ireturn, 1) := by decide +kernel
theorem dX1_changeFrost_15 : decode cX1_changeFrost 15 = .ok (.iload_n 3, 1) := by decide +kernel
theorem dX1_changeFrost_16 : decode cX1_changeFrost 16 = .ok (.ifCond .lt 9, 3) := by decide +kernel
theorem dX1_changeFrost_19 : decode cX1_changeFrost 19 = .ok (.iload_n 3, 1) := by decide +kernel
theorem dX1_changeFrost_20 : decode cX1_changeFrost 20 = .ok (.bipush 9, 2) := by decide +kernel
theorem dX1_changeFrost_22 : decode cX1_changeFrost 22 = .ok (.if_icmp .le 6, 3) := by decide +kernel
theorem dX1_changeFrost_25 : decode cX1_changeFrost 25 = .ok (.bipush (-2), 2) := by decide +kernel
theorem dX1_changeFrost_27 : decode cX1_changeFrost 27 = .ok (.ireturn, 1) := by decide +kernel
theorem dX1_changeFrost_28 : decode cX1_changeFrost 28 = .ok (.aload_n 0, 1) := by decide +kernel
theorem dX1_changeFrost_29 : decode cX1_changeFrost 29 = .ok (.getfield 9, 3) := by decide +kernel
theorem dX1_changeFrost_32 : decode cX1_changeFrost 32 = .ok (.iload 4, 2) := by decide +kernel
theorem dX1_changeFrost_34 : decode cX1_changeFrost 34 = .ok (.iaload, 1) := by decide +kernel
theorem dX1_changeFrost_35 : decode cX1_changeFrost 35 = .ok (.istore 5, 2) := by decide +kernel
theorem dX1_changeFrost_37 : decode cX1_changeFrost 37 = .ok (.iload 5, 2) := by decide +kernel
theorem dX1_changeFrost_39 : decode cX1_changeFrost 39 = .ok (.iload_n 3, 1) := by decide +kernel
theorem dX1_changeFrost_40 : decode cX1_changeFrost 40 = .ok (.if_icmp .ne 18, 3) := by decide +kernel
theorem dX1_changeFrost_43 : decode cX1_changeFrost 43 = .ok (.aload_n 0, 1) := by decide +kernel
theorem dX1_changeFrost_44 : decode cX1_changeFrost 44 = .ok (.getfield 15, 3) := by decide +kernel
theorem dX1_changeFrost_47 : decode cX1_changeFrost 47 = .ok (.iload 4, 2) := by decide +kernel
theorem dX1_changeFrost_49 : decode cX1_changeFrost 49 = .ok (.iaload, 1) := by decide +kernel
theorem dX1_changeFrost_50 : decode cX1_changeFrost 50 = .ok (.bipush (-5), 2) := by decide +kernel
theorem dX1_changeFrost_52 : decode cX1_changeFrost 52 = .ok (.if_icmp .ne 6, 3) := by decide +kernel
theorem dX1_changeFrost_55 : decode cX1_changeFrost 55 = .ok (.bipush (-5), 2) := by decide +kernel
theorem dX1_changeFrost_57 : decode cX1_changeFrost 57 = .ok (.ireturn, 1) := by decide +kernel
theorem dX1_changeFrost_58 : decode cX1_changeFrost 58 = .ok (.aload_n 0, 1) := by decide +kernel
theorem dX1_changeFrost_59 : decode cX1_changeFrost 59 = .ok (.getfield 9, 3) := by decide +kernel
theorem dX1_changeFrost_62 : decode cX1_changeFrost 62 = .ok (.iload 4, 2) := by decide +kernel
theorem dX1_changeFrost_64 : decode cX1_changeFrost 64 = .ok (.iload_n 3, 1) := by decide +kernel
theorem dX1_changeFrost_65 : decode cX1_changeFrost 65 = .ok (.iastore, 1) := by decide +kernel
theorem dX1_changeFrost_66 : decode cX1_changeFrost 66 = .ok (.aload_n 0, 1) := by decide +kernel
theorem dX1_changeFrost_67 : decode cX1_changeFrost 67 = .ok (.iload 4, 2) := by decide +kernel
theorem dX1_changeFrost_69 : decode cX1_changeFrost 69 = .ok (.invokevirtual 101, 3) := by decide +kernel
theorem dX1_changeFrost_72 : decode cX1_changeFrost 72 = .ok (.iload 5, 2) := by decide +kernel
theorem dX1_changeFrost_74 : decode cX1_changeFrost 74 = .ok (.ireturn, 1) := by decide +kernel
theorem dX1_changeSetting_0 : decode cX1_changeSetting 0 = .ok (.iload_n 1, 1) := by decide +kernel
theorem dX1_changeSetting_1 : decode cX1_changeSetting 1 = .ok (.ifCond .lt 12, 3) := by decide +kernel
theorem dX1_changeSetting_4 : decode cX1_changeSetting 4 = .ok (.iload_n 1, 1) := by decide +kernel
theorem dX1_changeSetting_5 : decode cX1_changeSetting 5 = .ok (.aload_n 0, 1) := by decide +kernel
theorem dX1_changeSetting_6 : decode cX1_changeSetting 6 = .ok (.getfield 64, 3) := by decide +kernel
theorem dX1_changeSetting_9 : decode cX1_changeSetting 9 = .ok (.arraylength, 1) := by decide +kernel
theorem dX1_changeSetting_10 : decode cX1_changeSetting 10 = .ok (.if_icmp .lt 5, 3) := by decide +kernel
theorem dX1_changeSetting_13 : decode cX1_changeSetting 13 = .ok (.iconst (-1), 1) := by decide +kernel
theorem dX1_changeSetting_14 : decode cX1_changeSetting 14 = .ok (.ireturn, 1) := by decide +kernel
theorem dX1_changeSetting_15 : decode cX1_changeSetting 15 = .ok (.iload_n 2, 1) := by decide +kernel
theorem dX1_changeSetting_16 : decode cX1_changeSetting 16 = .ok (.getstatic 105, 3) := by decide +kernel
theorem dX1_changeSetting_19 : decode cX1_changeSetting 19 = .ok (.iload_n 1, 1) := by decide +kernel
theorem dX1_changeSetting_20 : decode cX1_changeSetting 20 = .ok (.iaload, 1) := by decide +kernel
theorem dX1_changeSetting_21 : decode cX1_changeSetting 21 = .ok (.if_icmp .lt 12, 3) := by decide +kernel
theorem dX1_changeSetting_24 : decode cX1_changeSetting 24 = .ok (.iload_n 2, 1) := by decide +kernel
theorem dX1_changeSetting_25 : decode cX1_changeSetting 25 = .ok (.getstatic 108, 3) := by decide +kernel
theorem dX1_changeSetting_28 : decode cX1_changeSetting 28 = .ok (.iload_n 1, 1) := by decide +kernel
theorem dX1_changeSetting_29 : decode cX1_changeSetting 29 = .ok (.iaload, 1) := by decide +kernel
theorem dX1_changeSetting_30 : decode cX1_changeSetting 30 = .ok (.if_icmp .le 6, 3) := by decide +kernel
theorem dX1_changeSetting_33 : decode cX1_changeSetting 33 = .ok (.bipush (-2), 2) := by decide +kernel
theorem dX1_changeSetting_35 : decode cX1_changeSetting 35 = .ok (.ireturn, 1) := by decide +kernel
theorem dX1_changeSetting_36 : decode cX1_changeSetting 36 = .ok (.aload_n 0, 1) := by decide +kernel
theorem dX1_changeSetting_37 : decode cX1_changeSetting 37 = .ok (.getfield 64, 3) := by decide +kernel
theorem dX1_changeSetting_40 : decode cX1_changeSetting 40 = .ok (.iload_n 1, 1) := by decide +kernel
theorem dX1_changeSetting_41 : decode cX1_changeSetting 41 = .ok (.iaload, 1) := by decide +kernel
theorem dX1_changeSetting_42 : decode cX1_changeSetting 42 = .ok (.istore_n 3, 1) := by decide +kernel
theorem dX1_changeSetting_43 : decode cX1_changeSetting 43 = .ok (.iload_n 3, 1) := by decide +kernel
theorem dX1_changeSetting_44 : decode cX1_changeSetting 44 = .ok (.iload_n 2, 1) := by decide +kernel
theorem dX1_changeSetting_45 : decode cX1_changeSetting 45 = .ok (.if_icmp .ne 6, 3) := by decide +kernel
theorem dX1_changeSetting_48 : decode cX1_changeSetting 48 = .ok (.bipush (-5), 2) := by decide +kernel
theorem dX1_changeSetting_50 : decode cX1_changeSetting 50 = .ok (.ireturn, 1) := by decide +kernel
theorem dX1_changeSetting_51 : decode cX1_changeSetting 51 = .ok (.aload_n 0, 1) := by decide +kernel
theorem dX1_changeSetting_52 : decode cX1_changeSetting 52 = .ok (.getfield 64, 3) := by decide +kernel
theorem dX1_changeSetting_55 : decode cX1_changeSetting 55 = .ok (.iload_n 1, 1) := by decide +kernel
theorem dX1_changeSetting_56 : decode cX1_changeSetting 56 = .ok (.iload_n 2, 1) := by decide +kernel
theorem dX1_changeSetting_57 : decode cX1_changeSetting 57 = .ok (.iastore, 1) := by decide +kernel
theorem dX1_changeSetting_58 : decode cX1_changeSetting 58 = .ok (.aload_n 0, 1) := by decide +kernel
theorem dX1_changeSetting_59 : decode cX1_changeSetting 59 = .ok (.iconst 0, 1) := by decide +kernel
theorem dX1_changeSetting_60 : decode cX1_changeSetting 60 = .ok (.invokevirtual 111, 3) := by decide +kernel
theorem dX1_changeSetting_63 : decode cX1_changeSetting 63 = .ok (.iload_n 3, 1) := by decide +kernel
theorem dX1_changeSetting_64 : decode cX1_changeSetting 64 = .ok (.ireturn, 1) := by decide +kernel
theorem dX1_letPass_0 : decode cX1_letPass 0 = .ok (.iload_n 1, 1) := by decide +kernel
theorem dX1_letPass_1 : decode cX1_letPass 1 = .ok (.iconst 1, 1) := by decide +kernel
theorem dX1_letPass_2 : decode cX1_letPass 2 = .ok (.if_icmp .lt 9, 3) := by decide +kernel
theorem dX1_letPass_5 : decode cX1_letPass 5 = .ok (.iload_n 1, 1) := by decide +kernel
theorem dX1_letPass_6 : decode cX1_letPass 6 = .ok (.bipush 99, 2) := by decide +kernel
theorem dX1_letPass_8 : decode cX1_letPass 8 = .ok (.if_icmp .le 6, 3) := by decide +kernel
theorem dX1_letPass_11 : decode cX1_letPass 11 = .ok (.bipush (-2), 2) := by decide +kernel
theorem dX1_letPass_13 : decode cX1_letPass 13 = .ok (.ireturn, 1) := by decide +kernel
theorem dX1_letPass_14 : decode cX1_letPass 14 = .ok (.aload_n 0, 1) := by decide +kernel
theorem dX1_letPass_15 : decode cX1_letPass 15 = .ok (.getfield 71, 3) := by decide +kernel
theorem dX1_letPass_18 : decode cX1_letPass 18 = .ok (.iload_n 1, 1) := by decide +kernel
theorem dX1_letPass_19 : decode cX1_letPass 19 = .ok (.iadd, 1) := by decide +kernel
theorem dX1_letPass_20 : decode cX1_letPass 20 = .ok (.ldc 114, 2) := by decide +kernel
theorem dX1_letPass_22 : decode cX1_letPass 22 = .ok (.if_icmp .le 6, 3) := by decide +kernel
theorem dX1_letPass_25 : decode cX1_letPass 25 = .ok (.bipush (-3), 2) := by decide +kernel
theorem dX1_letPass_27 : decode cX1_letPass 27 = .ok (.ireturn, 1) := by decide +kernel
theorem dX1_letPass_28 : decode cX1_letPass 28 = .ok (.aload_n 0, 1) := by decide +kernel
theorem dX1_letPass_29 : decode cX1_letPass 29 = .ok (.iconst 1, 1) := by decide +kernel
theorem dX1_letPass_30 : decode cX1_letPass 30 = .ok (.invokevirtual 115, 3) := by decide +kernel
theorem dX1_letPass_33 : decode cX1_letPass 33 = .ok (.istore_n 2, 1) := by decide +kernel
theorem dX1_letPass_34 : decode cX1_letPass 34 = .ok (.iconst 0, 1) := by decide +kernel
theorem dX1_letPass_35 : decode cX1_letPass 35 = .ok (.istore_n 3, 1) := by decide +kernel
theorem dX1_letPass_36 : decode cX1_letPass 36 = .ok (.iload_n 3, 1) := by decide +kernel
theorem dX1_letPass_37 : decode cX1_letPass 37 = .ok (.iload_n 1, 1) := by decide +kernel
theorem dX1_letPass_38 : decode cX1_letPass 38 = .ok (.if_icmp .ge 13, 3) := by decide +kernel
theorem dX1_letPass_41 : decode cX1_letPass 41 = .ok (.aload_n 0, 1) := by decide +kernel
theorem dX1_letPass_42 : decode cX1_letPass 42 = .ok (.invokevirtual 119, 3) := by decide +kernel
theorem dX1_letPass_45 : decode cX1_letPass 45 = .ok (.iinc 3 1, 3) := by decide +kernel
theorem dX1_letPass_48 : decode cX1_letPass 48 = .ok (.goto (-12), 3) := by decide +kernel
theorem dX1_letPass_51 : decode cX1_letPass 51 = .ok (.aload_n 0, 1) := by decide +kernel
theorem dX1_letPass_52 : decode cX1_letPass 52 = .ok (.iconst 1, 1) := by decide +kernel
theorem dX1_letPass_53 : decode cX1_letPass 53 = .ok (.invokevirtual 115, 3) := by decide +kernel
theorem dX1_letPass_56 : decode cX1_letPass 56 = .ok (.iload_n 2, 1) := by decide +kernel
theorem dX1_letPass_57 : decode cX1_letPass 57 = .ok (.isub, 1) := by decide +kernel
theorem dX1_letPass_58 : decode cX1_letPass 58 = .ok (.ireturn, 1) := by decide +kernel
theorem dX1_passUntilEnd_0 : decode cX1_passUntilEnd 0 = .ok (.iconst 1, 1) := by decide +kernel
theorem dX1_passUntilEnd_1 : decode cX1_passUntilEnd 1 = .ok (.istore_n 3, 1) := by decide +kernel
theorem dX1_passUntilEnd_2 : decode cX1_passUntilEnd 2 = .ok (.iload_n 3, 1) := by decide +kernel
theorem dX1_passUntilEnd_3 : decode cX1_passUntilEnd 3 = .ok (.iload_n 2, 1) := by decide +kernel
theorem dX1_passUntilEnd_4 : decode cX1_passUntilEnd 4 = .ok (.if_icmp .gt 23, 3) := by decide +kernel
theorem dX1_passUntilEnd_7 : decode cX1_passUntilEnd 7 = .ok (.aload_n 0, 1) := by decide +kernel
theorem dX1_passUntilEnd_8 : decode cX1_passUntilEnd 8 = .ok (.invokevirtual 119, 3) := by decide +kernel
theorem dX1_passUntilEnd_11 : decode cX1_passUntilEnd 11 = .ok (.aload_n 0, 1) := by decide +kernel
theorem dX1_passUntilEnd_12 : decode cX1_passUntilEnd 12 = .ok (.iload_n 1, 1) := by decide +kernel
theorem dX1_passUntilEnd_13 : decode cX1_passUntilEnd 13 = .ok (.invokevirtual 122, 3) := by decide +kernel
theorem dX1_passUntilEnd_16 : decode cX1_passUntilEnd 16 = .ok (.ifCond .eq 5, 3) := by decide +kernel
theorem dX1_passUntilEnd_19 : decode cX1_passUntilEnd 19 = .ok (.iload_n 3, 1) := by decide +kernel
theorem dX1_passUntilEnd_20 : decode cX1_passUntilEnd 20 = .ok (.ireturn, 1) := by decide +kernel
theorem dX1_passUntilEnd_21 : decode cX1_passUntilEnd 21 = .ok (.iinc 3 1, 3) := by decide +kernel
theorem dX1_passUntilEnd_24 : decode cX1_passUntilEnd 24 = .ok (.goto (-22), 3) := by decide +kernel
theorem dX1_passUntilEnd_27 : decode cX1_passUntilEnd 27 = .ok (.bipush (-5), 2) := by decide +kernel
theorem dX1_passUntilEnd_29 : decode cX1_passUntilEnd 29 = .ok (.ireturn, 1) := by decide +kernel
theorem dX1_passTurn_0 : decode cX1_passTurn 0 = .ok (.iconst 0, 1) := by decide +kernel
theorem dX1_passTurn_1 : decode cX1_passTurn 1 = .ok (.istore_n 1, 1) := by decide +kernel
theorem dX1_passTurn_2 : decode cX1_passTurn 2 = .ok (.iload_n 1, 1) := by decide +kernel
theorem dX1_passTurn_3 : decode cX1_passTurn 3 = .ok (.aload_n 0, 1) := by decide +kernel
theorem dX1_passTurn_4 : decode cX1_passTurn 4 = .ok (.getfield 67, 3) := by decide +kernel
theorem dX1_passTurn_7 : decode cX1_passTurn 7 = .ok (.if_icmp .ge 45, 3) := by decide +kernel
theorem dX1_passTurn_10 : decode cX1_passTurn 10 = .ok (.aload_n 0, 1) := by decide +kernel
theorem dX1_passTurn_11 : decode cX1_passTurn 11 = .ok (.iload_n 1, 1) := by decide +kernel
theorem dX1_passTurn_12 : decode cX1_passTurn 12 = .ok (.invokevirtual 95, 3) := by decide +kernel
theorem dX1_passTurn_15 : decode cX1_passTurn 15 = .ok (.ifCond .eq 31, 3) := by decide +kernel
theorem dX1_passTurn_18 : decode cX1_passTurn 18 = .ok (.aload_n 0, 1) := by decide +kernel
theorem dX1_passTurn_19 : decode cX1_passTurn 19 = .ok (.iload_n 1, 1) := by decide +kernel
theorem dX1_passTurn_20 : decode cX1_passTurn 20 = .ok (.invokevirtual 125, 3) := by decide +kernel
theorem dX1_passTurn_23 : decode cX1_passTurn 23 = .ok (.istore_n 2, 1) := by decide +kernel
theorem dX1_passTurn_24 : decode cX1_passTurn 24 = .ok (.iload_n 2, 1) := by decide +kernel
theorem dX1_passTurn_25 : decode cX1_passTurn 25 = .ok (.getstatic 128, 3) := by decide +kernel
theorem dX1_passTurn_28 : decode cX1_passTurn 28 = .ok (.arraylength, 1) := by decide +kernel
theorem dX1_passTurn_29 : decode cX1_passTurn 29 = .ok (.if_icmp .ge 12, 3) := by decide +kernel
theorem dX1_passTurn_32 : decode cX1_passTurn 32 = .ok (.aload_n 0, 1) := by decide +kernel
theorem dX1_passTurn_33 : decode cX1_passTurn 33 = .ok (.iload_n 1, 1) := by decide +kernel
theorem dX1_passTurn_34 : decode cX1_passTurn 34 = .ok (.iload_n 2, 1) := by decide +kernel
theorem dX1_passTurn_35 : decode cX1_passTurn 35 = .ok (.invokevirtual 131, 3) := by decide +kernel
theorem dX1_passTurn_38 : decode cX1_passTurn 38 = .ok (.goto 8, 3) := by decide +kernel
theorem dX1_passTurn_41 : decode cX1_passTurn 41 = .ok (.aload_n 0, 1) := by decide +kernel
theorem dX1_passTurn_42 : decode cX1_passTurn 42 = .ok (.iload_n 1, 1) := by decide +kernel
theorem dX1_passTurn_43 : decode cX1_passTurn 43 = .ok (.invokevirtual 135, 3) := by decide +kernel
theorem dX1_passTurn_46 : decode cX1_passTurn 46 = .ok (.iinc 1 1, 3) := by decide +kernel
theorem dX1_passTurn_49 : decode cX1_passTurn 49 = .ok (.goto (-47), 3) := by decide +kernel
theorem dX1_passTurn_52 : decode cX1_passTurn 52 = .ok (.aload_n 0, 1) := by decide +kernel
theorem dX1_passTurn_53 : decode cX1_passTurn 53 = .ok (.iconst 1, 1) := by decide +kernel
theorem dX1_passTurn_54 : decode cX1_passTurn 54 = .ok (.invokevirtual 111, 3) := by decide +kernel
theorem dX1_passTurn_57 : decode cX1_passTurn 57 = .ok (.aload_n 0, 1) := by decide +kernel
theorem dX1_passTurn_58 : decode cX1_passTurn 58 = .ok (.dup, 1) := by decide +kernel
theorem dX1_passTurn_59 : decode cX1_passTurn 59 = .ok (.getfield 71, 3) := by decide +kernel
theorem dX1_passTurn_62 : decode cX1_passTurn 62 = .ok (.iconst 1, 1) := by decide +kernel
theorem dX1_passTurn_63 : decode cX1_passTurn 63 = .ok (.iadd, 1) := by decide +kernel
theorem dX1_passTurn_64 : decode cX1_passTurn 64 = .ok (.putfield 71, 3) := by decide +kernel
theorem dX1_passTurn_67 : decode cX1_passTurn 67 = .ok (.aload_n 0, 1) := by decide +kernel
theorem dX1_passTurn_68 : decode cX1_passTurn 68 = .ok (.getfield 64, 3) := by decide +kernel
theorem dX1_passTurn_71 : decode cX1_passTurn 71 = .ok (.iconst 3, 1) := by decide +kernel
theorem dX1_passTurn_72 : decode cX1_passTurn 72 = .ok (.iaload, 1) := by decide +kernel
theorem dX1_passTurn_73 : decode cX1_passTurn 73 = .ok (.istore_n 1, 1) := by decide +kernel
theorem dX1_passTurn_74 : decode cX1_passTurn 74 = .ok (.iload_n 1, 1) := by decide +kernel
theorem dX1_passTurn_75 : decode cX1_passTurn 75 = .ok (.ifCond .le 16, 3) := by decide +kernel
theorem dX1_passTurn_78 : decode cX1_passTurn 78 = .ok (.aload_n 0, 1) := by decide +kernel
theorem dX1_passTurn_79 : decode cX1_passTurn 79 = .ok (.getfield 71, 3) := by decide +kernel
theorem dX1_passTurn_82 : decode cX1_passTurn 82 = .ok (.iload_n 1, 1) := by decide +kernel
theorem dX1_passTurn_83 : decode cX1_passTurn 83 = .ok (.irem, 1) := by decide +kernel
theorem dX1_passTurn_84 : decode cX1_passTurn 84 = .ok (.ifCond .ne 7, 3) := by decide +kernel
theorem dX1_passTurn_87 : decode cX1_passTurn 87 = .ok (.aload_n 0, 1) := by decide +kernel
theorem dX1_passTurn_88 : decode cX1_passTurn 88 = .ok (.invokevirtual 138, 3) := by decide +kernel
theorem dX1_passTurn_91 : decode cX1_passTurn 91 = .ok (.return_, 1) := by decide +kernel
theorem dX1_choice_0 : decode cX1_choice 0 = .ok (.iconst 4, 1) := by decide +kernel
theorem dX1_choice_1 : decode cX1_choice 1 = .ok (.istore_n 2, 1) := by decide +kernel
theorem dX1_choice_2 : decode cX1_choice 2 = .ok (.iconst 0, 1) := by decide +kernel
theorem dX1_choice_3 : decode cX1_choice 3 = .ok (.istore_n 3, 1) := by decide +kernel
theorem dX1_choice_4 : decode cX1_choice 4 = .ok (.iconst 0, 1) := by decide +kernel
theorem dX1_choice_5 : decode cX1_choice 5 = .ok (.istore 4, 2) := by decide +kernel
theorem dX1_choice_7 : decode cX1_choice 7 = .ok (.iload 4, 2) := by decide +kernel
theorem dX1_choice_9 : decode cX1_choice 9 = .ok (.getstatic 128, 3) := by decide +kernel
theorem dX1_choice_12 : decode cX1_choice 12 = .ok (.arraylength, 1) := by decide +kernel
theorem dX1_choice_13 : decode cX1_choice 13 = .ok (.if_icmp .ge 42, 3) := by decide +kernel
theorem dX1_choice_16 : decode cX1_choice 16 = .ok (.aload_n 0, 1) := by decide +kernel
theorem dX1_choice_17 : decode cX1_choice 17 = .ok (.iload_n 1, 1) := by decide +kernel
theorem dX1_choice_18 : decode cX1_choice 18 = .ok (.iload 4, 2) := by decide +kernel
theorem dX1_choice_20 : decode cX1_choice 20 = .ok (.invokevirtual 141, 3) := by decide +kernel
theorem dX1_choice_23 : decode cX1_choice 23 = .ok (.istore 5, 2) := by decide +kernel
theorem dX1_choice_25 : decode cX1_choice 25 = .ok (.iload 5, 2) := by decide +kernel
theorem dX1_choice_27 : decode cX1_choice 27 = .ok (.bipush (-5), 2) := by decide +kernel
theorem dX1_choice_29 : decode cX1_choice 29 = .ok (.if_icmp .eq 20, 3) := by decide +kernel
theorem dX1_choice_32 : decode cX1_choice 32 = .ok (.iload_n 2, 1) := by decide +kernel
theorem dX1_choice_33 : decode cX1_choice 33 = .ok (.iconst 4, 1) := by decide +kernel
theorem dX1_choice_34 : decode cX1_choice 34 = .ok (.if_icmp .eq 9, 3) := by decide +kernel
theorem dX1_choice_37 : decode cX1_choice 37 = .ok (.iload 5, 2) := by decide +kernel
theorem dX1_choice_39 : decode cX1_choice 39 = .ok (.iload_n 3, 1) := by decide +kernel
theorem dX1_choice_40 : decode cX1_choice 40 = .ok (.if_icmp .ge 9, 3) := by decide +kernel
theorem dX1_choice_43 : decode cX1_choice 43 = .ok (.iload 4, 2) := by decide +kernel
theorem dX1_choice_45 : decode cX1_choice 45 = .ok (.istore_n 2, 1) := by decide +kernel
theorem dX1_choice_46 : decode cX1_choice 46 = .ok (.iload 5, 2) := by decide +kernel
theorem dX1_choice_48 : decode cX1_choice 48 = .ok (.istore_n 3, 1) := by decide +kernel
theorem dX1_choice_49 : decode cX1_choice 49 = .ok (.iinc 4 1, 3) := by decide +kernel
theorem dX1_choice_52 : decode cX1_choice 52 = .ok (.goto (-45), 3) := by decide +kernel
theorem dX1_choice_55 : decode cX1_choice 55 = .ok (.aload_n 0, 1) := by decide +kernel
theorem dX1_choice_56 : decode cX1_choice 56 = .ok (.iload_n 1, 1) := by decide +kernel
theorem dX1_choice_57 : decode cX1_choice 57 = .ok (.invokevirtual 91, 3) := by decide +kernel
theorem dX1_choice_60 : decode cX1_choice 60 = .ok (.ifCond .eq 17, 3) := by decide +kernel
theorem dX1_choice_63 : decode cX1_choice 63 = .ok (.iload_n 3, 1) := by decide +kernel
theorem dX1_choice_64 : decode cX1_choice 64 = .ok (.aload_n 0, 1) := by decide +kernel
theorem dX1_choice_65 : decode cX1_choice 65 = .ok (.getfield 27, 3) := by decide +kernel
theorem dX1_choice_68 : decode cX1_choice 68 = .ok (.iload_n 1, 1) := by decide +kernel
theorem dX1_choice_69 : decode cX1_choice 69 = .ok (.iaload, 1) := by decide +kernel
theorem dX1_choice_70 : decode cX1_choice 70 = .ok (.if_icmp .le 7, 3) := by decide +kernel
theorem dX1_choice_73 : decode cX1_choice 73 = .ok (.iconst 3, 1) := by decide +kernel
theorem dX1_choice_74 : decode cX1_choice 74 = .ok (.goto 4, 3) := by decide +kernel
theorem dX1_choice_77 : decode cX1_choice 77 = .ok (.iload_n 2, 1) := by decide +kernel
theorem dX1_choice_78 : decode cX1_choice 78 = .ok (.ireturn, 1) := by decide +kernel
theorem dX1_stepCost_0 : decode cX1_stepCost 0 = .ok (.aload_n 0, 1) := by decide +kernel
theorem dX1_stepCost_1 : decode cX1_stepCost 1 = .ok (.iload_n 1, 1) := by decide +kernel
theorem dX1_stepCost_2 : decode cX1_stepCost 2 = .ok (.invokevirtual 91, 3) := by decide +kernel
theorem dX1_stepCost_5 : decode cX1_stepCost 5 = .ok (.ifCond .eq 15, 3) := by decide +kernel
theorem dX1_stepCost_8 : decode cX1_stepCost 8 = .ok (.iload_n 2, 1) := by decide +kernel
theorem dX1_stepCost_9 : decode cX1_stepCost 9 = .ok (.ifCond .lt 11, 3) := by decide +kernel
theorem dX1_stepCost_12 : decode cX1_stepCost 12 = .ok (.iload_n 2, 1) := by decide +kernel
theorem dX1_stepCost_13 : decode cX1_stepCost 13 = .ok (.getstatic 128, 3) := by decide +kernel
theorem dX1_stepCost_16 : decode cX1_stepCost 16 = .ok (.arraylength, 1) := by decide +kernel
theorem dX1_stepCost_17 : decode cX1_stepCost 17 = .ok (.if_icmp .lt 6, 3) := by decide +kernel
theorem dX1_stepCost_20 : decode cX1_stepCost 20 = .ok (.bipush (-5), 2) := by decide +kernel
theorem dX1_stepCost_22 : decode cX1_stepCost 22 = .ok (.ireturn, 1) := by decide +kernel
theorem dX1_stepCost_23 : decode cX1_stepCost 23 = .ok (.aload_n 0, 1) := by decide +kernel
theorem dX1_stepCost_24 : decode cX1_stepCost 24 = .ok (.getfield 21, 3) := by decide +kernel
theorem dX1_stepCost_27 : decode cX1_stepCost 27 = .ok (.iload_n 1, 1) := by decide +kernel
theorem dX1_stepCost_28 : decode cX1_stepCost 28 = .ok (.iaload, 1) := by decide +kernel
theorem dX1_stepCost_29 : decode cX1_stepCost 29 = .ok (.getstatic 128, 3) := by decide +kernel
theorem dX1_stepCost_32 : decode cX1_stepCost 32 = .ok (.iload_n 2, 1) := by decide +kernel
theorem dX1_stepCost_33 : decode cX1_stepCost 33 = .ok (.iaload, 1) := by decide +kernel
theorem dX1_stepCost_34 : decode cX1_stepCost 34 = .ok (.iadd, 1) := by decide +kernel
theorem dX1_stepCost_35 : decode cX1_stepCost 35 = .ok (.istore_n 3, 1) := by decide +kernel
theorem dX1_stepCost_36 : decode cX1_stepCost 36 = .ok (.aload_n 0, 1) := by decide +kernel
theorem dX1_stepCost_37 : decode cX1_stepCost 37 = .ok (.getfield 24, 3) := by decide +kernel
theorem dX1_stepCost_40 : decode cX1_stepCost 40 = .ok (.iload_n 1, 1) := by decide +kernel
theorem dX1_stepCost_41 : decode cX1_stepCost 41 = .ok (.iaload, 1) := by decide +kernel
theorem dX1_stepCost_42 : decode cX1_stepCost 42 = .ok (.iconst 1, 1) := by decide +kernel
theorem dX1_stepCost_43 : decode cX1_stepCost 43 = .ok (.iadd, 1) := by decide +kernel
theorem dX1_stepCost_44 : decode cX1_stepCost 44 = .ok (.istore 4, 2) := by decide +kernel
theorem dX1_stepCost_46 : decode cX1_stepCost 46 = .ok (.iload_n 3, 1) := by decide +kernel
theorem dX1_stepCost_47 : decode cX1_stepCost 47 = .ok (.iload 4, 2) := by decide +kernel
theorem dX1_stepCost_49 : decode cX1_stepCost 49 = .ok (.invokestatic 98, 3) := by decide +kernel
theorem dX1_stepCost_52 : decode cX1_stepCost 52 = .ok (.istore 5, 2) := by decide +kernel
theorem dX1_stepCost_54 : decode cX1_stepCost 54 = .ok (.iload 5, 2) := by decide +kernel
theorem dX1_stepCost_56 : decode cX1_stepCost 56 = .ok (.iconst (-1), 1) := by decide +kernel
theorem dX1_stepCost_57 : decode cX1_stepCost 57 = .ok (.if_icmp .eq 15, 3) := by decide +kernel
theorem dX1_stepCost_60 : decode cX1_stepCost 60 = .ok (.aload_n 0, 1) := by decide +kernel
theorem dX1_stepCost_61 : decode cX1_stepCost 61 = .ok (.iload_n 3, 1) := by decide +kernel
theorem dX1_stepCost_62 : decode cX1_stepCost 62 = .ok (.iload 4, 2) := by decide +kernel
theorem dX1_stepCost_64 : decode cX1_stepCost 64 = .ok (.invokevirtual 84, 3) := by decide +kernel
theorem dX1_stepCost_67 : decode cX1_stepCost 67 = .ok (.bipush (-5), 2) := by decide +kernel
theorem dX1_stepCost_69 : decode cX1_stepCost 69 = .ok (.if_icmp .eq 6, 3) := by decide +kernel
theorem dX1_stepCost_72 : decode cX1_stepCost 72 = .ok (.bipush (-5), 2) := by decide +kernel
theorem dX1_stepCost_74 : decode cX1_stepCost 74 = .ok (.ireturn, 1) := by decide +kernel
theorem dX1_stepCost_75 : decode cX1_stepCost 75 = .ok (.aload_n 0, 1) := by decide +kernel
theorem dX1_stepCost_76 : decode cX1_stepCost 76 = .ok (.iload_n 1, 1) := by decide +kernel
theorem dX1_stepCost_77 : decode cX1_stepCost 77 = .ok (.iload 5, 2) := by decide +kernel
theorem dX1_stepCost_79 : decode cX1_stepCost 79 = .ok (.invokevirtual 144, 3) := by decide +kernel
theorem dX1_stepCost_82 : decode cX1_stepCost 82 = .ok (.istore 6, 2) := by decide +kernel
theorem dX1_stepCost_84 : decode cX1_stepCost 84 = .ok (.iload 6, 2) := by decide +kernel
theorem dX1_stepCost_86 : decode cX1_stepCost 86 = .ok (.ifCond .eq 9, 3) := by decide +kernel
theorem dX1_stepCost_89 : decode cX1_stepCost 89 = .ok (.iload 6, 2) := by decide +kernel
theorem dX1_stepCost_91 : decode cX1_stepCost 91 = .ok (.iconst 2, 1) := by decide +kernel
theorem dX1_stepCost_92 : decode cX1_stepCost 92 = .ok (.if_icmp .ne 7, 3) := by decide +kernel
theorem dX1_stepCost_95 : decode cX1_stepCost 95 = .ok (.iconst 1, 1) := by decide +kernel
theorem dX1_stepCost_96 : decode cX1_stepCost 96 = .ok (.goto 9, 3) := by decide +kernel
theorem dX1_stepCost_99 : decode cX1_stepCost 99 = .ok (.aload_n 0, 1) := by decide +kernel
theorem dX1_stepCost_100 : decode cX1_stepCost 100 = .ok (.iload 5, 2) := by decide +kernel
theorem dX1_stepCost_102 : decode cX1_stepCost 102 = .ok (.invokevirtual 147, 3) := by decide +kernel
theorem dX1_stepCost_105 : decode cX1_stepCost 105 = .ok (.ireturn, 1) := by decide +kernel
theorem dX1_whyNoHelp_0 : decode cX1_whyNoHelp 0 = .ok (.iload_n 1, 1) := by decide +kernel
theorem dX1_whyNoHelp_1 : decode cX1_whyNoHelp 1 = .ok (.ifCond .lt 21, 3) := by decide +kernel
theorem dX1_whyNoHelp_4 : decode cX1_whyNoHelp 4 = .ok (.iload_n 1, 1) := by decide +kernel
theorem dX1_whyNoHelp_5 : decode cX1_whyNoHelp 5 = .ok (.aload_n 0, 1) := by decide +kernel
theorem dX1_whyNoHelp_6 : decode cX1_whyNoHelp 6 = .ok (.getfield 67, 3) := by decide +kernel
theorem dX1_whyNoHelp_9 : decode cX1_whyNoHelp 9 = .ok (.if_icmp .ge 13, 3) := by decide +kernel
theorem dX1_whyNoHelp_12 : decode cX1_whyNoHelp 12 = .ok (.iload_n 2, 1) := by decide +kernel
theorem dX1_whyNoHelp_13 : decode cX1_whyNoHelp 13 = .ok (.ifCond .lt 9, 3) := by decide +kernel
theorem dX1_whyNoHelp_16 : decode cX1_whyNoHelp 16 = .ok (.iload_n 2, 1) := by decide +kernel
theorem dX1_whyNoHelp_17 : decode cX1_whyNoHelp 17 = .ok (.bipush 120, 2) := by decide +kernel
theorem dX1_whyNoHelp_19 : decode cX1_whyNoHelp 19 = .ok (.if_icmp .lt 5, 3) := by decide +kernel
theorem dX1_whyNoHelp_22 : decode cX1_whyNoHelp 22 = .ok (.iconst (-1), 1) := by decide +kernel
theorem dX1_whyNoHelp_23 : decode cX1_whyNoHelp 23 = .ok (.ireturn, 1) := by decide +kernel
theorem dX1_whyNoHelp_24 : decode cX1_whyNoHelp 24 = .ok (.aload_n 0, 1) := by decide +kernel
theorem dX1_whyNoHelp_25 : decode cX1_whyNoHelp 25 = .ok (.getfield 15, 3) := by decide +kernel
theorem dX1_whyNoHelp_28 : decode cX1_whyNoHelp 28 = .ok (.iload_n 2, 1) := by decide +kernel
theorem dX1_whyNoHelp_29 : decode cX1_whyNoHelp 29 = .ok (.iaload, 1) := by decide +kernel
theorem dX1_whyNoHelp_30 : decode cX1_whyNoHelp 30 = .ok (.istore_n 3, 1) := by decide +kernel
theorem dX1_whyNoHelp_31 : decode cX1_whyNoHelp 31 = .ok (.iload_n 3, 1) := by decide +kernel
theorem dX1_whyNoHelp_32 : decode cX1_whyNoHelp 32 = .ok (.bipush (-5), 2) := by decide +kernel
theorem dX1_whyNoHelp_34 : decode cX1_whyNoHelp 34 = .ok (.if_icmp .ne 5, 3) := by decide +kernel
theorem dX1_whyNoHelp_37 : decode cX1_whyNoHelp 37 = .ok (.iconst 1, 1) := by decide +kernel
theorem dX1_whyNoHelp_38 : decode cX1_whyNoHelp 38 = .ok (.ireturn, 1) := by decide +kernel
theorem dX1_whyNoHelp_39 : decode cX1_whyNoHelp 39 = .ok (.iload_n 3, 1) := by decide +kernel
theorem dX1_whyNoHelp_40 : decode cX1_whyNoHelp 40 = .ok (.iload_n 1, 1) := by decide +kernel
theorem dX1_whyNoHelp_41 : decode cX1_whyNoHelp 41 = .ok (.if_icmp .ne 5, 3) := by decide +kernel
theorem dX1_whyNoHelp_44 : decode cX1_whyNoHelp 44 = .ok (.iconst 2, 1) := by decide +kernel
theorem dX1_whyNoHelp_45 : decode cX1_whyNoHelp 45 = .ok (.ireturn, 1) := by decide +kernel
theorem dX1_whyNoHelp_46 : decode cX1_whyNoHelp 46 = .ok (.aload_n 0, 1) := by decide +kernel
theorem dX1_whyNoHelp_47 : decode cX1_whyNoHelp 47 = .ok (.getfield 45, 3) := by decide +kernel
theorem dX1_whyNoHelp_50 : decode cX1_whyNoHelp 50 = .ok (.iload_n 1, 1) := by decide +kernel
theorem dX1_whyNoHelp_51 : decode cX1_whyNoHelp 51 = .ok (.iaload, 1) := by decide +kernel
theorem dX1_whyNoHelp_52 : decode cX1_whyNoHelp 52 = .ok (.iload_n 3, 1) := by decide +kernel
theorem dX1_whyNoHelp_53 : decode cX1_whyNoHelp 53 = .ok (.if_icmp .ne 22, 3) := by decide +kernel
theorem dX1_whyNoHelp_56 : decode cX1_whyNoHelp 56 = .ok (.aload_n 0, 1) := by decide +kernel
theorem dX1_whyNoHelp_57 : decode cX1_whyNoHelp 57 = .ok (.getfield 48, 3) := by decide +kernel
theorem dX1_whyNoHelp_60 : decode cX1_whyNoHelp 60 = .ok (.iload_n 1, 1) := by decide +kernel
theorem dX1_whyNoHelp_61 : decode cX1_whyNoHelp 61 = .ok (.iaload, 1) := by decide +kernel
theorem dX1_whyNoHelp_62 : decode cX1_whyNoHelp 62 = .ok (.aload_n 0, 1) := by decide +kernel
theorem dX1_whyNoHelp_63 : decode cX1_whyNoHelp 63 = .ok (.getfield 64, 3) := by decide +kernel
theorem dX1_whyNoHelp_66 : decode cX1_whyNoHelp 66 = .ok (.iconst 1, 1) := by decide +kernel
theorem dX1_whyNoHelp_67 : decode cX1_whyNoHelp 67 = .ok (.iaload, 1) := by decide +kernel
theorem dX1_whyNoHelp_68 : decode cX1_whyNoHelp 68 = .ok (.if_icmp .lt 7, 3) := by decide +kernel
theorem dX1_whyNoHelp_71 : decode cX1_whyNoHelp 71 = .ok (.iconst 1, 1) := by decide +kernel
theorem dX1_whyNoHelp_72 : decode cX1_whyNoHelp 72 = .ok (.goto 4, 3) := by decide +kernel
theorem dX1_whyNoHelp_75 : decode cX1_whyNoHelp 75 = .ok (.iconst 0, 1) := by decide +kernel
theorem dX1_whyNoHelp_76 : decode cX1_whyNoHelp 76 = .ok (.istore 4, 2) := by decide +kernel
theorem dX1_whyNoHelp_78 : decode cX1_whyNoHelp 78 = .ok (.iload 4, 2) := by decide +kernel
theorem dX1_whyNoHelp_80 : decode cX1_whyNoHelp 80 = .ok (.ifCond .eq 7, 3) := by decide +kernel
theorem dX1_whyNoHelp_83 : decode cX1_whyNoHelp 83 = .ok (.iconst 3, 1) := by decide +kernel
theorem dX1_whyNoHelp_84 : decode cX1_whyNoHelp 84 = .ok (.goto 4, 3) := by decide +kernel
theorem dX1_whyNoHelp_87 : decode cX1_whyNoHelp 87 = .ok (.iconst 0, 1) := by decide +kernel
theorem dX1_whyNoHelp_88 : decode cX1_whyNoHelp 88 = .ok (.ireturn, 1) := by decide +kernel
theorem dX1_takeStep_0 : decode cX1_takeStep 0 = .ok (.aload_n 0, 1) := by decide +kernel
theorem dX1_takeStep_1 : decode cX1_takeStep 1 = .ok (.iload_n 1, 1) := by decide +kernel
theorem dX1_takeStep_2 : decode cX1_takeStep 2 = .ok (.iload_n 2, 1) := by decide +kernel
theorem dX1_takeStep_3 : decode cX1_takeStep 3 = .ok (.invokevirtual 141, 3) := by decide +kernel
theorem dX1_takeStep_6 : decode cX1_takeStep 6 = .ok (.istore_n 3, 1) := by decide +kernel
theorem dX1_takeStep_7 : decode cX1_takeStep 7 = .ok (.iload_n 3, 1) := by decide +kernel
theorem dX1_takeStep_8 : decode cX1_takeStep 8 = .ok (.bipush (-5), 2) := by decide +kernel
theorem dX1_takeStep_10 : decode cX1_takeStep 10 = .ok (.if_icmp .ne 4, 3) := by decide +kernel
theorem dX1_takeStep_13 : decode cX1_takeStep 13 = .ok (.return_, 1) := by decide +kernel
theorem dX1_takeStep_14 : decode cX1_takeStep 14 = .ok (.aload_n 0, 1) := by decide +kernel
theorem dX1_takeStep_15 : decode cX1_takeStep 15 = .ok (.getfield 21, 3) := by decide +kernel
theorem dX1_takeStep_18 : decode cX1_takeStep 18 = .ok (.iload_n 1, 1) := by decide +kernel
theorem dX1_takeStep_19 : decode cX1_takeStep 19 = .ok (.iaload, 1) := by decide +kernel
theorem dX1_takeStep_20 : decode cX1_takeStep 20 = .ok (.aload_n 0, 1) := by decide +kernel
theorem dX1_takeStep_21 : decode cX1_takeStep 21 = .ok (.getfield 24, 3) := by decide +kernel
theorem dX1_takeStep_24 : decode cX1_takeStep 24 = .ok (.iload_n 1, 1) := by decide +kernel
theorem dX1_takeStep_25 : decode cX1_takeStep 25 = .ok (.iaload, 1) := by decide +kernel
theorem dX1_takeStep_26 : decode cX1_takeStep 26 = .ok (.invokestatic 98, 3) := by decide +kernel
theorem dX1_takeStep_29 : decode cX1_takeStep 29 = .ok (.istore 4, 2) := by decide +kernel
theorem dX1_takeStep_31 : decode cX1_takeStep 31 = .ok (.aload_n 0, 1) := by decide +kernel
theorem dX1_takeStep_32 : decode cX1_takeStep 32 = .ok (.getfield 21, 3) := by decide +kernel
theorem dX1_takeStep_35 : decode cX1_takeStep 35 = .ok (.iload_n 1, 1) := by decide +kernel
theorem dX1_takeStep_36 : decode cX1_takeStep 36 = .ok (.iaload, 1) := by decide +kernel
theorem dX1_takeStep_37 : decode cX1_takeStep 37 = .ok (.getstatic 128, 3) := by decide +kernel
theorem dX1_takeStep_40 : decode cX1_takeStep 40 = .ok (.iload_n 2, 1) := by decide +kernel
theorem dX1_takeStep_41 : decode cX1_takeStep 41 = .ok (.iaload, 1) := by decide +kernel
theorem dX1_takeStep_42 : decode cX1_takeStep 42 = .ok (.iadd, 1) := by decide +kernel
theorem dX1_takeStep_43 : decode cX1_takeStep 43 = .ok (.istore 5, 2) := by decide +kernel
theorem dX1_takeStep_45 : decode cX1_takeStep 45 = .ok (.aload_n 0, 1) := by decide +kernel
theorem dX1_takeStep_46 : decode cX1_takeStep 46 = .ok (.getfield 24, 3) := by decide +kernel
theorem dX1_takeStep_49 : decode cX1_takeStep 49 = .ok (.iload_n 1, 1) := by decide +kernel
theorem dX1_takeStep_50 : decode cX1_takeStep 50 = .ok (.iaload, 1) := by decide +kernel
theorem dX1_takeStep_51 : decode cX1_takeStep 51 = .ok (.iconst 1, 1) := by decide +kernel
theorem dX1_takeStep_52 : decode cX1_takeStep 52 = .ok (.iadd, 1) := by decide +kernel
theorem dX1_takeStep_53 : decode cX1_takeStep 53 = .ok (.istore 6, 2) := by decide +kernel
theorem dX1_takeStep_55 : decode cX1_takeStep 55 = .ok (.iload 5, 2) := by decide +kernel
theorem dX1_takeStep_57 : decode cX1_takeStep 57 = .ok (.iload 6, 2) := by decide +kernel
theorem dX1_takeStep_59 : decode cX1_takeStep 59 = .ok (.invokestatic 98, 3) := by decide +kernel
theorem dX1_takeStep_62 : decode cX1_takeStep 62 = .ok (.istore 7, 2) := by decide +kernel
theorem dX1_takeStep_64 : decode cX1_takeStep 64 = .ok (.iload 4, 2) := by decide +kernel
theorem dX1_takeStep_66 : decode cX1_takeStep 66 = .ok (.iconst (-1), 1) := by decide +kernel
theorem dX1_takeStep_67 : decode cX1_takeStep 67 = .ok (.if_icmp .eq 9, 3) := by decide +kernel
theorem dX1_takeStep_70 : decode cX1_takeStep 70 = .ok (.iload 7, 2) := by decide +kernel
theorem dX1_takeStep_72 : decode cX1_takeStep 72 = .ok (.iconst (-1), 1) := by decide +kernel
theorem dX1_takeStep_73 : decode cX1_takeStep 73 = .ok (.if_icmp .ne 4, 3) := by decide +kernel
theorem dX1_takeStep_76 : decode cX1_takeStep 76 = .ok (.return_, 1) := by decide +kernel
theorem dX1_takeStep_77 : decode cX1_takeStep 77 = .ok (.aload_n 0, 1) := by decide +kernel
theorem dX1_takeStep_78 : decode cX1_takeStep 78 = .ok (.iload_n 1, 1) := by decide +kernel
theorem dX1_takeStep_79 : decode cX1_takeStep 79 = .ok (.aload_n 0, 1) := by decide +kernel
theorem dX1_takeStep_80 : decode cX1_takeStep 80 = .ok (.iload_n 1, 1) := by decide +kernel
theorem dX1_takeStep_81 : decode cX1_takeStep 81 = .ok (.iload 7, 2) := by decide +kernel
theorem dX1_takeStep_83 : decode cX1_takeStep 83 = .ok (.invokevirtual 144, 3) := by decide +kernel
theorem dX1_takeStep_86 : decode cX1_takeStep 86 = .ok (.ifCond .ne 13, 3) := by decide +kernel
theorem dX1_takeStep_89 : decode cX1_takeStep 89 = .ok (.aload_n 0, 1) := by decide +kernel
theorem dX1_takeStep_90 : decode cX1_takeStep 90 = .ok (.getfield 15, 3) := by decide +kernel
theorem dX1_takeStep_93 : decode cX1_takeStep 93 = .ok (.iload 7, 2) := by decide +kernel
theorem dX1_takeStep_95 : decode cX1_takeStep 95 = .ok (.iaload, 1) := by decide +kernel
theorem dX1_takeStep_96 : decode cX1_takeStep 96 = .ok (.goto 5, 3) := by decide +kernel
theorem dX1_takeStep_99 : decode cX1_takeStep 99 = .ok (.bipush (-5), 2) := by decide +kernel
theorem dX1_takeStep_101 : decode cX1_takeStep 101 = .ok (.invokevirtual 150, 3) := by decide +kernel
theorem dX1_takeStep_104 : decode cX1_takeStep 104 = .ok (.aload_n 0, 1) := by decide +kernel
theorem dX1_takeStep_105 : decode cX1_takeStep 105 = .ok (.getfield 27, 3) := by decide +kernel
theorem dX1_takeStep_108 : decode cX1_takeStep 108 = .ok (.iload_n 1, 1) := by decide +kernel
theorem dX1_takeStep_109 : decode cX1_takeStep 109 = .ok (.dup2, 1) := by decide +kernel
theorem dX1_takeStep_110 : decode cX1_takeStep 110 = .ok (.iaload, 1) := by decide +kernel
theorem dX1_takeStep_111 : decode cX1_takeStep 111 = .ok (.iload_n 3, 1) := by decide +kernel
theorem dX1_takeStep_112 : decode cX1_takeStep 112 = .ok (.isub, 1) := by decide +kernel
theorem dX1_takeStep_113 : decode cX1_takeStep 113 = .ok (.iastore, 1) := by decide +kernel
theorem dX1_takeStep_114 : decode cX1_takeStep 114 = .ok (.aload_n 0, 1) := by decide +kernel
theorem dX1_takeStep_115 : decode cX1_takeStep 115 = .ok (.getfield 36, 3) := by decide +kernel
theorem dX1_takeStep_118 : decode cX1_takeStep 118 = .ok (.iload_n 1, 1) := by decide +kernel
theorem dX1_takeStep_119 : decode cX1_takeStep 119 = .ok (.dup2, 1) := by decide +kernel
theorem dX1_takeStep_120 : decode cX1_takeStep 120 = .ok (.iaload, 1) := by decide +kernel
theorem dX1_takeStep_121 : decode cX1_takeStep 121 = .ok (.iconst 1, 1) := by decide +kernel
theorem dX1_takeStep_122 : decode cX1_takeStep 122 = .ok (.iadd, 1) := by decide +kernel
theorem dX1_takeStep_123 : decode cX1_takeStep 123 = .ok (.iastore, 1) := by decide +kernel
theorem dX1_takeStep_124 : decode cX1_takeStep 124 = .ok (.aload_n 0, 1) := by decide +kernel
theorem dX1_takeStep_125 : decode cX1_takeStep 125 = .ok (.getfield 15, 3) := by decide +kernel
theorem dX1_takeStep_128 : decode cX1_takeStep 128 = .ok (.iload 4, 2) := by decide +kernel
theorem dX1_takeStep_130 : decode cX1_takeStep 130 = .ok (.iload_n 1, 1) := by decide +kernel
theorem dX1_takeStep_131 : decode cX1_takeStep 131 = .ok (.iastore, 1) := by decide +kernel
theorem dX1_takeStep_132 : decode cX1_takeStep 132 = .ok (.aload_n 0, 1) := by decide +kernel
theorem dX1_takeStep_133 : decode cX1_takeStep 133 = .ok (.getfield 18, 3) := by decide +kernel
theorem dX1_takeStep_136 : decode cX1_takeStep 136 = .ok (.iload 4, 2) := by decide +kernel
theorem dX1_takeStep_138 : decode cX1_takeStep 138 = .ok (.iconst 0, 1) := by decide +kernel
theorem dX1_takeStep_139 : decode cX1_takeStep 139 = .ok (.iastore, 1) := by decide +kernel
theorem dX1_takeStep_140 : decode cX1_takeStep 140 = .ok (.aload_n 0, 1) := by decide +kernel
theorem dX1_takeStep_141 : decode cX1_takeStep 141 = .ok (.getfield 21, 3) := by decide +kernel
theorem dX1_takeStep_144 : decode cX1_takeStep 144 = .ok (.iload_n 1, 1) := by decide +kernel
theorem dX1_takeStep_145 : decode cX1_takeStep 145 = .ok (.iload 5, 2) := by decide +kernel
theorem dX1_takeStep_147 : decode cX1_takeStep 147 = .ok (.iastore, 1) := by decide +kernel
theorem dX1_takeStep_148 : decode cX1_takeStep 148 = .ok (.aload_n 0, 1) := by decide +kernel
theorem dX1_takeStep_149 : decode cX1_takeStep 149 = .ok (.getfield 24, 3) := by decide +kernel
theorem dX1_takeStep_152 : decode cX1_takeStep 152 = .ok (.iload_n 1, 1) := by decide +kernel
theorem dX1_takeStep_153 : decode cX1_takeStep 153 = .ok (.iload 6, 2) := by decide +kernel
theorem dX1_takeStep_155 : decode cX1_takeStep 155 = .ok (.iastore, 1) := by decide +kernel
theorem dX1_takeStep_156 : decode cX1_takeStep 156 = .ok (.iload 6, 2) := by decide +kernel
theorem dX1_takeStep_158 : decode cX1_takeStep 158 = .ok (.bipush 19, 2) := by decide +kernel
theorem dX1_takeStep_160 : decode cX1_takeStep 160 = .ok (.if_icmp .ne 23, 3) := by decide +kernel
theorem dX1_takeStep_163 : decode cX1_takeStep 163 = .ok (.aload_n 0, 1) := by decide +kernel
theorem dX1_takeStep_164 : decode cX1_takeStep 164 = .ok (.getfield 33, 3) := by decide +kernel
theorem dX1_takeStep_167 : decode cX1_takeStep 167 = .ok (.iload_n 1, 1) := by decide +kernel
theorem dX1_takeStep_168 : decode cX1_takeStep 168 = .ok (.aload_n 0, 1) := by decide +kernel
theorem dX1_takeStep_169 : decode cX1_takeStep 169 = .ok (.iconst 1, 1) := by decide +kernel
theorem dX1_takeStep_170 : decode cX1_takeStep 170 = .ok (.invokevirtual 115, 3) := by decide +kernel
theorem dX1_takeStep_173 : decode cX1_takeStep 173 = .ok (.iconst 1, 1) := by decide +kernel
theorem dX1_takeStep_174 : decode cX1_takeStep 174 = .ok (.iadd, 1) := by decide +kernel
theorem dX1_takeStep_175 : decode cX1_takeStep 175 = .ok (.iastore, 1) := by decide +kernel
theorem dX1_takeStep_176 : decode cX1_takeStep 176 = .ok (.aload_n 0, 1) := by decide +kernel
theorem dX1_takeStep_177 : decode cX1_takeStep 177 = .ok (.getfield 30, 3) := by decide +kernel
theorem dX1_takeStep_180 : decode cX1_takeStep 180 = .ok (.iload_n 1, 1) := by decide +kernel
theorem dX1_takeStep_181 : decode cX1_takeStep 181 = .ok (.iconst 1, 1) := by decide +kernel
theorem dX1_takeStep_182 : decode cX1_takeStep 182 = .ok (.iastore, 1) := by decide +kernel
theorem dX1_takeStep_183 : decode cX1_takeStep 183 = .ok (.return_, 1) := by decide +kernel
theorem dX1_rest_0 : decode cX1_rest 0 = .ok (.aload_n 0, 1) := by decide +kernel
theorem dX1_rest_1 : decode cX1_rest 1 = .ok (.getfield 27, 3) := by decide +kernel
theorem dX1_rest_4 : decode cX1_rest 4 = .ok (.iload_n 1, 1) := by decide +kernel
theorem dX1_rest_5 : decode cX1_rest 5 = .ok (.aload_n 0, 1) := by decide +kernel
theorem dX1_rest_6 : decode cX1_rest 6 = .ok (.getfield 27, 3) := by decide +kernel
theorem dX1_rest_9 : decode cX1_rest 9 = .ok (.iload_n 1, 1) := by decide +kernel
theorem dX1_rest_10 : decode cX1_rest 10 = .ok (.iaload, 1) := by decide +kernel
theorem dX1_rest_11 : decode cX1_rest 11 = .ok (.aload_n 0, 1) := by decide +kernel
theorem dX1_rest_12 : decode cX1_rest 12 = .ok (.getfield 64, 3) := by decide +kernel
theorem dX1_rest_15 : decode cX1_rest 15 = .ok (.iconst 2, 1) := by decide +kernel
theorem dX1_rest_16 : decode cX1_rest 16 = .ok (.iaload, 1) := by decide +kernel
theorem dX1_rest_17 : decode cX1_rest 17 = .ok (.iadd, 1) := by decide +kernel
theorem dX1_rest_18 : decode cX1_rest 18 = .ok (.bipush 99, 2) := by decide +kernel
theorem dX1_rest_20 : decode cX1_rest 20 = .ok (.invokestatic 153, 3) := by decide +kernel
theorem dX1_rest_23 : decode cX1_rest 23 = .ok (.iastore, 1) := by decide +kernel
theorem dX1_rest_24 : decode cX1_rest 24 = .ok (.aload_n 0, 1) := by decide +kernel
theorem dX1_rest_25 : decode cX1_rest 25 = .ok (.getfield 42, 3) := by decide +kernel
theorem dX1_rest_28 : decode cX1_rest 28 = .ok (.iload_n 1, 1) := by decide +kernel
theorem dX1_rest_29 : decode cX1_rest 29 = .ok (.dup2, 1) := by decide +kernel
theorem dX1_rest_30 : decode cX1_rest 30 = .ok (.iaload, 1) := by decide +kernel
theorem dX1_rest_31 : decode cX1_rest 31 = .ok (.iconst 1, 1) := by decide +kernel
theorem dX1_rest_32 : decode cX1_rest 32 = .ok (.iadd, 1) := by decide +kernel
theorem dX1_rest_33 : decode cX1_rest 33 = .ok (.iastore, 1) := by decide +kernel
theorem dX1_rest_34 : decode cX1_rest 34 = .ok (.aload_n 0, 1) := by decide +kernel
theorem dX1_rest_35 : decode cX1_rest 35 = .ok (.iload_n 1, 1) := by decide +kernel
theorem dX1_rest_36 : decode cX1_rest 36 = .ok (.bipush (-5), 2) := by decide +kernel
theorem dX1_rest_38 : decode cX1_rest 38 = .ok (.invokevirtual 150, 3) := by decide +kernel
theorem dX1_rest_41 : decode cX1_rest 41 = .ok (.return_, 1) := by decide +kernel
theorem dX1_noteLender_0 : decode cX1_noteLender 0 = .ok (.aload_n 0, 1) := by decide +kernel
theorem dX1_noteLender_1 : decode cX1_noteLender 1 = .ok (.iload_n 2, 1) := by decide +kernel
theorem dX1_noteLender_2 : decode cX1_noteLender 2 = .ok (.invokevirtual 91, 3) := by decide +kernel
theorem dX1_noteLender_5 : decode cX1_noteLender 5 = .ok (.ifCond .ne 19, 3) := by decide +kernel
theorem dX1_noteLender_8 : decode cX1_noteLender 8 = .ok (.aload_n 0, 1) := by decide +kernel
theorem dX1_noteLender_9 : decode cX1_noteLender 9 = .ok (.getfield 45, 3) := by decide +kernel
theorem dX1_noteLender_12 : decode cX1_noteLender 12 = .ok (.iload_n 1, 1) := by decide +kernel
theorem dX1_noteLender_13 : decode cX1_noteLender 13 = .ok (.bipush (-5), 2) := by decide +kernel
theorem dX1_noteLender_15 : decode cX1_noteLender 15 = .ok (.iastore, 1) := by decide +kernel
theorem dX1_noteLender_16 : decode cX1_noteLender 16 = .ok (.aload_n 0, 1) := by decide +kernel
theorem dX1_noteLender_17 : decode cX1_noteLender 17 = .ok (.getfield 48, 3) := by decide +kernel
theorem dX1_noteLender_20 : decode cX1_noteLender 20 = .ok (.iload_n 1, 1) := by decide +kernel
theorem dX1_noteLender_21 : decode cX1_noteLender 21 = .ok (.iconst 0, 1) := by decide +kernel
theorem dX1_noteLender_22 : decode cX1_noteLender 22 = .ok (.iastore, 1) := by decide +kernel
theorem dX1_noteLender_23 : decode cX1_noteLender 23 = .ok (.return_, 1) := by decide +kernel
theorem dX1_noteLender_24 : decode cX1_noteLender 24 = .ok (.aload_n 0, 1) := by decide +kernel
theorem dX1_noteLender_25 : decode cX1_noteLender 25 = .ok (.getfield 48, 3) := by decide +kernel
theorem dX1_noteLender_28 : decode cX1_noteLender 28 = .ok (.iload_n 1, 1) := by decide +kernel
theorem dX1_noteLender_29 : decode cX1_noteLender 29 = .ok (.aload_n 0, 1) := by decide +kernel
theorem dX1_noteLender_30 : decode cX1_noteLender 30 = .ok (.getfield 45, 3) := by decide +kernel
theorem dX1_noteLender_33 : decode cX1_noteLender 33 = .ok (.iload_n 1, 1) := by decide +kernel
theorem dX1_noteLender_34 : decode cX1_noteLender 34 = .ok (.iaload, 1) := by decide +kernel
theorem dX1_noteLender_35 : decode cX1_noteLender 35 = .ok (.iload_n 2, 1) := by decide +kernel
theorem dX1_noteLender_36 : decode cX1_noteLender 36 = .ok (.if_icmp .ne 14, 3) := by decide +kernel
theorem dX1_noteLender_39 : decode cX1_noteLender 39 = .ok (.aload_n 0, 1) := by decide +kernel
theorem dX1_noteLender_40 : decode cX1_noteLender 40 = .ok (.getfield 48, 3) := by decide +kernel
theorem dX1_noteLender_43 : decode cX1_noteLender 43 = .ok (.iload_n 1, 1) := by decide +kernel
theorem dX1_noteLender_44 : decode cX1_noteLender 44 = .ok (.iaload, 1) := by decide +kernel
theorem dX1_noteLender_45 : decode cX1_noteLender 45 = .ok (.iconst 1, 1) := by decide +kernel
theorem dX1_noteLender_46 : decode cX1_noteLender 46 = .ok (.iadd, 1) := by decide +kernel
theorem dX1_noteLender_47 : decode cX1_noteLender 47 = .ok (.goto 4, 3) := by decide +kernel
theorem dX1_noteLender_50 : decode cX1_noteLender 50 = .ok (.iconst 1, 1) := by decide +kernel
theorem dX1_noteLender_51 : decode cX1_noteLender 51 = .ok (.iastore, 1) := by decide +kernel
theorem dX1_noteLender_52 : decode cX1_noteLender 52 = .ok (.aload_n 0, 1) := by decide +kernel
theorem dX1_noteLender_53 : decode cX1_noteLender 53 = .ok (.getfield 45, 3) := by decide +kernel
theorem dX1_noteLender_56 : decode cX1_noteLender 56 = .ok (.iload_n 1, 1) := by decide +kernel
theorem dX1_noteLender_57 : decode cX1_noteLender 57 = .ok (.iload_n 2, 1) := by decide +kernel
theorem dX1_noteLender_58 : decode cX1_noteLender 58 = .ok (.iastore, 1) := by decide +kernel
theorem dX1_noteLender_59 : decode cX1_noteLender 59 = .ok (.aload_n 0, 1) := by decide +kernel
theorem dX1_noteLender_60 : decode cX1_noteLender 60 = .ok (.getfield 39, 3) := by decide +kernel
theorem dX1_noteLender_63 : decode cX1_noteLender 63 = .ok (.iload_n 1, 1) := by decide +kernel
theorem dX1_noteLender_64 : decode cX1_noteLender 64 = .ok (.dup2, 1) := by decide +kernel
theorem dX1_noteLender_65 : decode cX1_noteLender 65 = .ok (.iaload, 1) := by decide +kernel
theorem dX1_noteLender_66 : decode cX1_noteLender 66 = .ok (.iconst 1, 1) := by decide +kernel
theorem dX1_noteLender_67 : decode cX1_noteLender 67 = .ok (.iadd, 1) := by decide +kernel
theorem dX1_noteLender_68 : decode cX1_noteLender 68 = .ok (.iastore, 1) := by decide +kernel
theorem dX1_noteLender_69 : decode cX1_noteLender 69 = .ok (.aload_n 0, 1) := by decide +kernel
theorem dX1_noteLender_70 : decode cX1_noteLender 70 = .ok (.getfield 53, 3) := by decide +kernel
theorem dX1_noteLender_73 : decode cX1_noteLender 73 = .ok (.iload_n 1, 1) := by decide +kernel
theorem dX1_noteLender_74 : decode cX1_noteLender 74 = .ok (.aaload, 1) := by decide +kernel
theorem dX1_noteLender_75 : decode cX1_noteLender 75 = .ok (.iload_n 2, 1) := by decide +kernel
theorem dX1_noteLender_76 : decode cX1_noteLender 76 = .ok (.dup2, 1) := by decide +kernel
theorem dX1_noteLender_77 : decode cX1_noteLender 77 = .ok (.iaload, 1) := by decide +kernel
theorem dX1_noteLender_78 : decode cX1_noteLender 78 = .ok (.iconst 1, 1) := by decide +kernel
theorem dX1_noteLender_79 : decode cX1_noteLender 79 = .ok (.iadd, 1) := by decide +kernel
theorem dX1_noteLender_80 : decode cX1_noteLender 80 = .ok (.iastore, 1) := by decide +kernel
theorem dX1_noteLender_81 : decode cX1_noteLender 81 = .ok (.return_, 1) := by decide +kernel
theorem dX1_dryTrails_0 : decode cX1_dryTrails 0 = .ok (.iconst 0, 1) := by decide +kernel
theorem dX1_dryTrails_1 : decode cX1_dryTrails 1 = .ok (.istore_n 2, 1) := by decide +kernel
theorem dX1_dryTrails_2 : decode cX1_dryTrails 2 = .ok (.iload_n 2, 1) := by decide +kernel
theorem dX1_dryTrails_3 : decode cX1_dryTrails 3 = .ok (.bipush 120, 2) := by decide +kernel
theorem dX1_dryTrails_5 : decode cX1_dryTrails 5 = .ok (.if_icmp .ge 50, 3) := by decide +kernel
theorem dX1_dryTrails_8 : decode cX1_dryTrails 8 = .ok (.aload_n 0, 1) := by decide +kernel
theorem dX1_dryTrails_9 : decode cX1_dryTrails 9 = .ok (.getfield 15, 3) := by decide +kernel
theorem dX1_dryTrails_12 : decode cX1_dryTrails 12 = .ok (.iload_n 2, 1) := by decide +kernel
theorem dX1_dryTrails_13 : decode cX1_dryTrails 13 = .ok (.iaload, 1) := by decide +kernel
theorem dX1_dryTrails_14 : decode cX1_dryTrails 14 = .ok (.bipush (-5), 2) := by decide +kernel
theorem dX1_dryTrails_16 : decode cX1_dryTrails 16 = .ok (.if_icmp .eq 33, 3) := by decide +kernel
theorem dX1_dryTrails_19 : decode cX1_dryTrails 19 = .ok (.aload_n 0, 1) := by decide +kernel
theorem dX1_dryTrails_20 : decode cX1_dryTrails 20 = .ok (.getfield 18, 3) := by decide +kernel
theorem dX1_dryTrails_23 : decode cX1_dryTrails 23 = .ok (.iload_n 2, 1) := by decide +kernel
theorem dX1_dryTrails_24 : decode cX1_dryTrails 24 = .ok (.dup2, 1) := by decide +kernel
theorem dX1_dryTrails_25 : decode cX1_dryTrails 25 = .ok (.iaload, 1) := by decide +kernel
theorem dX1_dryTrails_26 : decode cX1_dryTrails 26 = .ok (.iload_n 1, 1) := by decide +kernel
theorem dX1_dryTrails_27 : decode cX1_dryTrails 27 = .ok (.iadd, 1) := by decide +kernel
theorem dX1_dryTrails_28 : decode cX1_dryTrails 28 = .ok (.iastore, 1) := by decide +kernel
theorem dX1_dryTrails_29 : decode cX1_dryTrails 29 = .ok (.aload_n 0, 1) := by decide +kernel
theorem dX1_dryTrails_30 : decode cX1_dryTrails 30 = .ok (.getfield 18, 3) := by decide +kernel
theorem dX1_dryTrails_33 : decode cX1_dryTrails 33 = .ok (.iload_n 2, 1) := by decide +kernel
theorem dX1_dryTrails_34 : decode cX1_dryTrails 34 = .ok (.iaload, 1) := by decide +kernel
theorem dX1_dryTrails_35 : decode cX1_dryTrails 35 = .ok (.aload_n 0, 1) := by decide +kernel
theorem dX1_dryTrails_36 : decode cX1_dryTrails 36 = .ok (.getfield 64, 3) := by decide +kernel
theorem dX1_dryTrails_39 : decode cX1_dryTrails 39 = .ok (.iconst 0, 1) := by decide +kernel
theorem dX1_dryTrails_40 : decode cX1_dryTrails 40 = .ok (.iaload, 1) := by decide +kernel
theorem dX1_dryTrails_41 : decode cX1_dryTrails 41 = .ok (.if_icmp .le 8, 3) := by decide +kernel
theorem dX1_dryTrails_44 : decode cX1_dryTrails 44 = .ok (.aload_n 0, 1) := by decide +kernel
theorem dX1_dryTrails_45 : decode cX1_dryTrails 45 = .ok (.iload_n 2, 1) := by decide +kernel
theorem dX1_dryTrails_46 : decode cX1_dryTrails 46 = .ok (.invokevirtual 101, 3) := by decide +kernel
theorem dX1_dryTrails_49 : decode cX1_dryTrails 49 = .ok (.iinc 2 1, 3) := by decide +kernel
theorem dX1_dryTrails_52 : decode cX1_dryTrails 52 = .ok (.goto (-50), 3) := by decide +kernel
theorem dX1_dryTrails_55 : decode cX1_dryTrails 55 = .ok (.return_, 1) := by decide +kernel
theorem dX1_clearTrail_0 : decode cX1_clearTrail 0 = .ok (.aload_n 0, 1) := by decide +kernel
theorem dX1_clearTrail_1 : decode cX1_clearTrail 1 = .ok (.getfield 15, 3) := by decide +kernel
theorem dX1_clearTrail_4 : decode cX1_clearTrail 4 = .ok (.iload_n 1, 1) := by decide +kernel
theorem dX1_clearTrail_5 : decode cX1_clearTrail 5 = .ok (.bipush (-5), 2) := by decide +kernel
theorem dX1_clearTrail_7 : decode cX1_clearTrail 7 = .ok (.iastore, 1) := by decide +kernel
theorem dX1_clearTrail_8 : decode cX1_clearTrail 8 = .ok (.aload_n 0, 1) := by decide +kernel
theorem dX1_clearTrail_9 : decode cX1_clearTrail 9 = .ok (.getfield 18, 3) := by decide +kernel
theorem dX1_clearTrail_12 : decode cX1_clearTrail 12 = .ok (.iload_n 1, 1) := by decide +kernel
theorem dX1_clearTrail_13 : decode cX1_clearTrail 13 = .ok (.bipush (-5), 2) := by decide +kernel
theorem dX1_clearTrail_15 : decode cX1_clearTrail 15 = .ok (.iastore, 1) := by decide +kernel
theorem dX1_clearTrail_16 : decode cX1_clearTrail 16 = .ok (.return_, 1) := by decide +kernel
theorem dX1_growFrost_0 : decode cX1_growFrost 0 = .ok (.iconst 0, 1) := by decide +kernel
theorem dX1_growFrost_1 : decode cX1_growFrost 1 = .ok (.istore_n 1, 1) := by decide +kernel
theorem dX1_growFrost_2 : decode cX1_growFrost 2 = .ok (.iload_n 1, 1) := by decide +kernel
theorem dX1_growFrost_3 : decode cX1_growFrost 3 = .ok (.bipush 120, 2) := by decide +kernel
theorem dX1_growFrost_5 : decode cX1_growFrost 5 = .ok (.if_icmp .ge 41, 3) := by decide +kernel
theorem dX1_growFrost_8 : decode cX1_growFrost 8 = .ok (.aload_n 0, 1) := by decide +kernel
theorem dX1_growFrost_9 : decode cX1_growFrost 9 = .ok (.getfield 15, 3) := by decide +kernel
theorem dX1_growFrost_12 : decode cX1_growFrost 12 = .ok (.iload_n 1, 1) := by decide +kernel
theorem dX1_growFrost_13 : decode cX1_growFrost 13 = .ok (.iaload, 1) := by decide +kernel
theorem dX1_growFrost_14 : decode cX1_growFrost 14 = .ok (.bipush (-5), 2) := by decide +kernel
theorem dX1_growFrost_16 : decode cX1_growFrost 16 = .ok (.if_icmp .ne 24, 3) := by decide +kernel
theorem dX1_growFrost_19 : decode cX1_growFrost 19 = .ok (.aload_n 0, 1) := by decide +kernel
theorem dX1_growFrost_20 : decode cX1_growFrost 20 = .ok (.getfield 9, 3) := by decide +kernel
theorem dX1_growFrost_23 : decode cX1_growFrost 23 = .ok (.iload_n 1, 1) := by decide +kernel
theorem dX1_growFrost_24 : decode cX1_growFrost 24 = .ok (.iaload, 1) := by decide +kernel
theorem dX1_growFrost_25 : decode cX1_growFrost 25 = .ok (.bipush 9, 2) := by decide +kernel
theorem dX1_growFrost_27 : decode cX1_growFrost 27 = .ok (.if_icmp .ge 13, 3) := by decide +kernel
theorem dX1_growFrost_30 : decode cX1_growFrost 30 = .ok (.aload_n 0, 1) := by decide +kernel
theorem dX1_growFrost_31 : decode cX1_growFrost 31 = .ok (.getfield 9, 3) := by decide +kernel
theorem dX1_growFrost_34 : decode cX1_growFrost 34 = .ok (.iload_n 1, 1) := by decide +kernel
theorem dX1_growFrost_35 : decode cX1_growFrost 35 = .ok (.dup2, 1) := by decide +kernel
theorem dX1_growFrost_36 : decode cX1_growFrost 36 = .ok (.iaload, 1) := by decide +kernel
theorem dX1_growFrost_37 : decode cX1_growFrost 37 = .ok (.iconst 1, 1) := by decide +kernel
theorem dX1_growFrost_38 : decode cX1_growFrost 38 = .ok (.iadd, 1) := by decide +kernel
theorem dX1_growFrost_39 : decode cX1_growFrost 39 = .ok (.iastore, 1) := by decide +kernel
theorem dX1_growFrost_40 : decode cX1_growFrost 40 = .ok (.iinc 1 1, 3) := by decide +kernel
theorem dX1_growFrost_43 : decode cX1_growFrost 43 = .ok (.goto (-41), 3) := by decide +kernel
theorem dX1_growFrost_46 : decode cX1_growFrost 46 = .ok (.return_, 1) := by decide +kernel
theorem dX1_knows_0 : decode cX1_knows 0 = .ok (.iload_n 1, 1) := by decide +kernel
theorem dX1_knows_1 : decode cX1_knows 1 = .ok (.ifCond .lt 15, 3) := by decide +kernel
theorem dX1_knows_4 : decode cX1_knows 4 = .ok (.iload_n 1, 1) := by decide +kernel
theorem dX1_knows_5 : decode cX1_knows 5 = .ok (.aload_n 0, 1) := by decide +kernel
theorem dX1_knows_6 : decode cX1_knows 6 = .ok (.getfield 67, 3) := by decide +kernel
theorem dX1_knows_9 : decode cX1_knows 9 = .ok (.if_icmp .ge 7, 3) := by decide +kernel
theorem dX1_knows_12 : decode cX1_knows 12 = .ok (.iconst 1, 1) := by decide +kernel
theorem dX1_knows_13 : decode cX1_knows 13 = .ok (.goto 4, 3) := by decide +kernel
theorem dX1_knows_16 : decode cX1_knows 16 = .ok (.iconst 0, 1) := by decide +kernel
theorem dX1_knows_17 : decode cX1_knows 17 = .ok (.ireturn, 1) := by decide +kernel
theorem dX1_creeps_0 : decode cX1_creeps 0 = .ok (.aload_n 0, 1) := by decide +kernel
theorem dX1_creeps_1 : decode cX1_creeps 1 = .ok (.iload_n 1, 1) := by decide +kernel
theorem dX1_creeps_2 : decode cX1_creeps 2 = .ok (.invokevirtual 91, 3) := by decide +kernel
theorem dX1_creeps_5 : decode cX1_creeps 5 = .ok (.ifCond .eq 16, 3) := by decide +kernel
theorem dX1_creeps_8 : decode cX1_creeps 8 = .ok (.aload_n 0, 1) := by decide +kernel
theorem dX1_creeps_9 : decode cX1_creeps 9 = .ok (.getfield 30, 3) := by decide +kernel
theorem dX1_creeps_12 : decode cX1_creeps 12 = .ok (.iload_n 1, 1) := by decide +kernel
theorem dX1_creeps_13 : decode cX1_creeps 13 = .ok (.iaload, 1) := by decide +kernel
theorem dX1_creeps_14 : decode cX1_creeps 14 = .ok (.ifCond .ne 7, 3) := by decide +kernel
theorem dX1_creeps_17 : decode cX1_creeps 17 = .ok (.iconst 1, 1) := by decide +kernel
theorem dX1_creeps_18 : decode cX1_creeps 18 = .ok (.goto 4, 3) := by decide +kernel
theorem dX1_creeps_21 : decode cX1_creeps 21 = .ok (.iconst 0, 1) := by decide +kernel
theorem dX1_creeps_22 : decode cX1_creeps 22 = .ok (.ireturn, 1) := by decide +kernel
theorem dX1_hasEnded_0 : decode cX1_hasEnded 0 = .ok (.aload_n 0, 1) := by decide +kernel
theorem dX1_hasEnded_1 : decode cX1_hasEnded 1 = .ok (.iload_n 1, 1) := by decide +kernel
theorem dX1_hasEnded_2 : decode cX1_hasEnded 2 = .ok (.invokevirtual 91, 3) := by decide +kernel
theorem dX1_hasEnded_5 : decode cX1_hasEnded 5 = .ok (.ifCond .eq 17, 3) := by decide +kernel
theorem dX1_hasEnded_8 : decode cX1_hasEnded 8 = .ok (.aload_n 0, 1) := by decide +kernel
theorem dX1_hasEnded_9 : decode cX1_hasEnded 9 = .ok (.getfield 30, 3) := by decide +kernel
theorem dX1_hasEnded_12 : decode cX1_hasEnded 12 = .ok (.iload_n 1, 1) := by decide +kernel
theorem dX1_hasEnded_13 : decode cX1_hasEnded 13 = .ok (.iaload, 1) := by decide +kernel
theorem dX1_hasEnded_14 : decode cX1_hasEnded 14 = .ok (.iconst 1, 1) := by decide +kernel
theorem dX1_hasEnded_15 : decode cX1_hasEnded 15 = .ok (.if_icmp .ne 7, 3) := by decide +kernel
theorem dX1_hasEnded_18 : decode cX1_hasEnded 18 = .ok (.iconst 1, 1) := by decide +kernel
theorem dX1_hasEnded_19 : decode cX1_hasEnded 19 = .ok (.goto 4, 3) := by decide +kernel
theorem dX1_hasEnded_22 : decode cX1_hasEnded 22 = .ok (.iconst 0, 1) := by decide +kernel
theorem dX1_hasEnded_23 : decode cX1_hasEnded 23 = .ok (.ireturn, 1) := by decide +kernel
theorem dX1_snailOn_0 : decode cX1_snailOn 0 = .ok (.iconst 0, 1) := by decide +kernel
theorem dX1_snailOn_1 : decode cX1_snailOn 1 = .ok (.istore_n 3, 1) := by decide +kernel
theorem dX1_snailOn_2 : decode cX1_snailOn 2 = .ok (.iload_n 3, 1) := by decide +kernel
theorem dX1_snailOn_3 : decode cX1_snailOn 3 = .ok (.aload_n 0, 1) := by decide +kernel
theorem dX1_snailOn_4 : decode cX1_snailOn 4 = .ok (.getfield 67, 3) := by decide +kernel
theorem dX1_snailOn_7 : decode cX1_snailOn 7 = .ok (.if_icmp .ge 40, 3) := by decide +kernel
theorem dX1_snailOn_10 : decode cX1_snailOn 10 = .ok (.aload_n 0, 1) := by decide +kernel
theorem dX1_snailOn_11 : decode cX1_snailOn 11 = .ok (.getfield 30, 3) := by decide +kernel
theorem dX1_snailOn_14 : decode cX1_snailOn 14 = .ok (.iload_n 3, 1) := by decide +kernel
theorem dX1_snailOn_15 : decode cX1_snailOn 15 = .ok (.iaload, 1) := by decide +kernel
theorem dX1_snailOn_16 : decode cX1_snailOn 16 = .ok (.ifCond .ne 25, 3) := by decide +kernel
theorem dX1_snailOn_19 : decode cX1_snailOn 19 = .ok (.aload_n 0, 1) := by decide +kernel
theorem dX1_snailOn_20 : decode cX1_snailOn 20 = .ok (.getfield 21, 3) := by decide +kernel
theorem dX1_snailOn_23 : decode cX1_snailOn 23 = .ok (.iload_n 3, 1) := by decide +kernel
theorem dX1_snailOn_24 : decode cX1_snailOn 24 = .ok (.iaload, 1) := by decide +kernel
theorem dX1_snailOn_25 : decode cX1_snailOn 25 = .ok (.iload_n 1, 1) := by decide +kernel
theorem dX1_snailOn_26 : decode cX1_snailOn 26 = .ok (.if_icmp .ne 15, 3) := by decide +kernel
theorem dX1_snailOn_29 : decode cX1_snailOn 29 = .ok (.aload_n 0, 1) := by decide +kernel
theorem dX1_snailOn_30 : decode cX1_snailOn 30 = .ok (.getfield 24, 3) := by decide +kernel
theorem dX1_snailOn_33 : decode cX1_snailOn 33 = .ok (.iload_n 3, 1) := by decide +kernel
theorem dX1_snailOn_34 : decode cX1_snailOn 34 = .ok (.iaload, 1) := by decide +kernel
theorem dX1_snailOn_35 : decode cX1_snailOn 35 = .ok (.iload_n 2, 1) := by decide +kernel
theorem dX1_snailOn_36 : decode cX1_snailOn 36 = .ok (.if_icmp .ne 5, 3) := by decide +kernel
theorem dX1_snailOn_39 : decode cX1_snailOn 39 = .ok (.iload_n 3, 1) := by decide +kernel
theorem dX1_snailOn_40 : decode cX1_snailOn 40 = .ok (.ireturn, 1) := by decide +kernel
theorem dX1_snailOn_41 : decode cX1_snailOn 41 = .ok (.iinc 3 1, 3) := by decide +kernel
theorem dX1_snailOn_44 : decode cX1_snailOn 44 = .ok (.goto (-42), 3) := by decide +kernel
theorem dX1_snailOn_47 : decode cX1_snailOn 47 = .ok (.bipush (-5), 2) := by decide +kernel
theorem dX1_snailOn_49 : decode cX1_snailOn 49 = .ok (.ireturn, 1) := by decide +kernel
theorem dX1_priceOf_0 : decode cX1_priceOf 0 = .ok (.iload_n 1, 1) := by decide +kernel
theorem dX1_priceOf_1 : decode cX1_priceOf 1 = .ok (.ifCond .lt 20, 3) := by decide +kernel
theorem dX1_priceOf_4 : decode cX1_priceOf 4 = .ok (.iload_n 1, 1) := by decide +kernel
theorem dX1_priceOf_5 : decode cX1_priceOf 5 = .ok (.bipush 120, 2) := by decide +kernel
theorem dX1_priceOf_7 : decode cX1_priceOf 7 = .ok (.if_icmp .ge 14, 3) := by decide +kernel
theorem dX1_priceOf_10 : decode cX1_priceOf 10 = .ok (.iconst 1, 1) := by decide +kernel
theorem dX1_priceOf_11 : decode cX1_priceOf 11 = .ok (.aload_n 0, 1) := by decide +kernel
theorem dX1_priceOf_12 : decode cX1_priceOf 12 = .ok (.getfield 9, 3) := by decide +kernel
theorem dX1_priceOf_15 : decode cX1_priceOf 15 = .ok (.iload_n 1, 1) := by decide +kernel
theorem dX1_priceOf_16 : decode cX1_priceOf 16 = .ok (.iaload, 1) := by decide +kernel
theorem dX1_priceOf_17 : decode cX1_priceOf 17 = .ok (.iadd, 1) := by decide +kernel
theorem dX1_priceOf_18 : decode cX1_priceOf 18 = .ok (.goto 5, 3) := by decide +kernel
theorem dX1_priceOf_21 : decode cX1_priceOf 21 = .ok (.bipush (-5), 2) := by decide +kernel
theorem dX1_priceOf_23 : decode cX1_priceOf 23 = .ok (.ireturn, 1) := by decide +kernel
theorem dX1_tellSnail_0 : decode cX1_tellSnail 0 = .ok (.aload_n 0, 1) := by decide +kernel
theorem dX1_tellSnail_1 : decode cX1_tellSnail 1 = .ok (.iload_n 1, 1) := by decide +kernel
theorem dX1_tellSnail_2 : decode cX1_tellSnail 2 = .ok (.invokevirtual 91, 3) := by decide +kernel
theorem dX1_tellSnail_5 : decode cX1_tellSnail 5 = .ok (.ifCond .ne 5, 3) := by decide +kernel
theorem dX1_tellSnail_8 : decode cX1_tellSnail 8 = .ok (.iconst (-1), 1) := by decide +kernel
theorem dX1_tellSnail_9 : decode cX1_tellSnail 9 = .ok (.ireturn, 1) := by decide +kernel
theorem dX1_tellSnail_10 : decode cX1_tellSnail 10 = .ok (.iload_n 2, 1) := by decide +kernel
theorem dX1_tellSnail_11 : decode cX1_tellSnail 11 = .ok (.tableswitch 123 0 9 #[53, 60, 67, 74, 81, 88, 95, 102, 109, 116], 53) := by decide +kernel
theorem dX1_tellSnail_64 : decode cX1_tellSnail 64 = .ok (.aload_n 0, 1) := by decide +kernel
theorem dX1_tellSnail_65 : decode cX1_tellSnail 65 = .ok (.getfield 21, 3) := by decide +kernel
theorem dX1_tellSnail_68 : decode cX1_tellSnail 68 = .ok (.iload_n 1, 1) := by decide +kernel
theorem dX1_tellSnail_69 : decode cX1_tellSnail 69 = .ok (.iaload, 1) := by decide +kernel
theorem dX1_tellSnail_70 : decode cX1_tellSnail 70 = .ok (.ireturn, 1) := by decide +kernel
theorem dX1_tellSnail_71 : decode cX1_tellSnail 71 = .ok (.aload_n 0, 1) := by decide +kernel
theorem dX1_tellSnail_72 : decode cX1_tellSnail 72 = .ok (.getfield 24, 3) := by decide +kernel
theorem dX1_tellSnail_75 : decode cX1_tellSnail 75 = .ok (.iload_n 1, 1) := by decide +kernel
theorem dX1_tellSnail_76 : decode cX1_tellSnail 76 = .ok (.iaload, 1) := by decide +kernel
theorem dX1_tellSnail_77 : decode cX1_tellSnail 77 = .ok (.ireturn, 1) := by decide +kernel
theorem dX1_tellSnail_78 : decode cX1_tellSnail 78 = .ok (.aload_n 0, 1) := by decide +kernel
theorem dX1_tellSnail_79 : decode cX1_tellSnail 79 = .ok (.getfield 27, 3) := by decide +kernel
theorem dX1_tellSnail_82 : decode cX1_tellSnail 82 = .ok (.iload_n 1, 1) := by decide +kernel
theorem dX1_tellSnail_83 : decode cX1_tellSnail 83 = .ok (.iaload, 1) := by decide +kernel
theorem dX1_tellSnail_84 : decode cX1_tellSnail 84 = .ok (.ireturn, 1) := by decide +kernel
theorem dX1_tellSnail_85 : decode cX1_tellSnail 85 = .ok (.aload_n 0, 1) := by decide +kernel
theorem dX1_tellSnail_86 : decode cX1_tellSnail 86 = .ok (.getfield 30, 3) := by decide +kernel
theorem dX1_tellSnail_89 : decode cX1_tellSnail 89 = .ok (.iload_n 1, 1) := by decide +kernel
theorem dX1_tellSnail_90 : decode cX1_tellSnail 90 = .ok (.iaload, 1) := by decide +kernel
theorem dX1_tellSnail_91 : decode cX1_tellSnail 91 = .ok (.ireturn, 1) := by decide +kernel
theorem dX1_tellSnail_92 : decode cX1_tellSnail 92 = .ok (.aload_n 0, 1) := by decide +kernel
theorem dX1_tellSnail_93 : decode cX1_tellSnail 93 = .ok (.getfield 33, 3) := by decide +kernel
theorem dX1_tellSnail_96 : decode cX1_tellSnail 96 = .ok (.iload_n 1, 1) := by decide +kernel
theorem dX1_tellSnail_97 : decode cX1_tellSnail 97 = .ok (.iaload, 1) := by decide +kernel
theorem dX1_tellSnail_98 : decode cX1_tellSnail 98 = .ok (.ireturn, 1) := by decide +kernel
theorem dX1_tellSnail_99 : decode cX1_tellSnail 99 = .ok (.aload_n 0, 1) := by decide +kernel
theorem dX1_tellSnail_100 : decode cX1_tellSnail 100 = .ok (.getfield 36, 3) := by decide +kernel
theorem dX1_tellSnail_103 : decode cX1_tellSnail 103 = .ok (.iload_n 1, 1) := by decide +kernel
theorem dX1_tellSnail_104 : decode cX1_tellSnail 104 = .ok (.iaload, 1) := by decide +kernel
theorem dX1_tellSnail_105 : decode cX1_tellSnail 105 = .ok (.ireturn, 1) := by decide +kernel
theorem dX1_tellSnail_106 : decode cX1_tellSnail 106 = .ok (.aload_n 0, 1) := by decide +kernel
theorem dX1_tellSnail_107 : decode cX1_tellSnail 107 = .ok (.getfield 39, 3) := by decide +kernel
theorem dX1_tellSnail_110 : decode cX1_tellSnail 110 = .ok (.iload_n 1, 1) := by decide +kernel
theorem dX1_tellSnail_111 : decode cX1_tellSnail 111 = .ok (.iaload, 1) := by decide +kernel
theorem dX1_tellSnail_112 : decode cX1_tellSnail 112 = .ok (.ireturn, 1) := by decide +kernel
theorem dX1_tellSnail_113 : decode cX1_tellSnail 113 = .ok (.aload_n 0, 1) := by decide +kernel
theorem dX1_tellSnail_114 : decode cX1_tellSnail 114 = .ok (.getfield 42, 3) := by decide +kernel
theorem dX1_tellSnail_117 : decode cX1_tellSnail 117 = .ok (.iload_n 1, 1) := by decide +kernel
theorem dX1_tellSnail_118 : decode cX1_tellSnail 118 = .ok (.iaload, 1) := by decide +kernel
theorem dX1_tellSnail_119 : decode cX1_tellSnail 119 = .ok (.ireturn, 1) := by decide +kernel
theorem dX1_tellSnail_120 : decode cX1_tellSnail 120 = .ok (.aload_n 0, 1) := by decide +kernel
theorem dX1_tellSnail_121 : decode cX1_tellSnail 121 = .ok (.getfield 45, 3) := by decide +kernel
theorem dX1_tellSnail_124 : decode cX1_tellSnail 124 = .ok (.iload_n 1, 1) := by decide +kernel
theorem dX1_tellSnail_125 : decode cX1_tellSnail 125 = .ok (.iaload, 1) := by decide +kernel
theorem dX1_tellSnail_126 : decode cX1_tellSnail 126 = .ok (.ireturn, 1) := by decide +kernel
theorem dX1_tellSnail_127 : decode cX1_tellSnail 127 = .ok (.aload_n 0, 1) := by decide +kernel
theorem dX1_tellSnail_128 : decode cX1_tellSnail 128 = .ok (.getfield 48, 3) := by decide +kernel
theorem dX1_tellSnail_131 : decode cX1_tellSnail 131 = .ok (.iload_n 1, 1) := by decide +kernel
theorem dX1_tellSnail_132 : decode cX1_tellSnail 132 = .ok (.iaload, 1) := by decide +kernel
theorem dX1_tellSnail_133 : decode cX1_tellSnail 133 = .ok (.ireturn, 1) := by decide +kernel
theorem dX1_tellSnail_134 : decode cX1_tellSnail 134 = .ok (.bipush (-2), 2) := by decide +kernel
theorem dX1_tellSnail_136 : decode cX1_tellSnail 136 = .ok (.ireturn, 1) := by decide +kernel
theorem dX1_tellCell_0 : decode cX1_tellCell 0 = .ok (.iload_n 1, 1) := by decide +kernel
theorem dX1_tellCell_1 : decode cX1_tellCell 1 = .ok (.iload_n 2, 1) := by decide +kernel
theorem dX1_tellCell_2 : decode cX1_tellCell 2 = .ok (.invokestatic 98, 3) := by decide +kernel
theorem dX1_tellCell_5 : decode cX1_tellCell 5 = .ok (.istore 4, 2) := by decide +kernel
theorem dX1_tellCell_7 : decode cX1_tellCell 7 = .ok (.iload 4, 2) := by decide +kernel
theorem dX1_tellCell_9 : decode cX1_tellCell 9 = .ok (.iconst (-1), 1) := by decide +kernel
theorem dX1_tellCell_10 : decode cX1_tellCell 10 = .ok (.if_icmp .ne 5, 3) := by decide +kernel
theorem dX1_tellCell_13 : decode cX1_tellCell 13 = .ok (.iconst (-1), 1) := by decide +kernel
theorem dX1_tellCell_14 : decode cX1_tellCell 14 = .ok (.ireturn, 1) := by decide +kernel
theorem dX1_tellCell_15 : decode cX1_tellCell 15 = .ok (.iload_n 3, 1) := by decide +kernel
theorem dX1_tellCell_16 : decode cX1_tellCell 16 = .ok (.tableswitch 63 0 3 #[32, 40, 48, 56], 32) := by decide +kernel
theorem dX1_tellCell_48 : decode cX1_tellCell 48 = .ok (.aload_n 0, 1) := by decide +kernel
theorem dX1_tellCell_49 : decode cX1_tellCell 49 = .ok (.getfield 9, 3) := by decide +kernel
theorem dX1_tellCell_52 : decode cX1_tellCell 52 = .ok (.iload 4, 2) := by decide +kernel
theorem dX1_tellCell_54 : decode cX1_tellCell 54 = .ok (.iaload, 1) := by decide +kernel
theorem dX1_tellCell_55 : decode cX1_tellCell 55 = .ok (.ireturn, 1) := by decide +kernel
theorem dX1_tellCell_56 : decode cX1_tellCell 56 = .ok (.aload_n 0, 1) := by decide +kernel
theorem dX1_tellCell_57 : decode cX1_tellCell 57 = .ok (.getfield 15, 3) := by decide +kernel
theorem dX1_tellCell_60 : decode cX1_tellCell 60 = .ok (.iload 4, 2) := by decide +kernel
theorem dX1_tellCell_62 : decode cX1_tellCell 62 = .ok (.iaload, 1) := by decide +kernel
theorem dX1_tellCell_63 : decode cX1_tellCell 63 = .ok (.ireturn, 1) := by decide +kernel
theorem dX1_tellCell_64 : decode cX1_tellCell 64 = .ok (.aload_n 0, 1) := by decide +kernel
theorem dX1_tellCell_65 : decode cX1_tellCell 65 = .ok (.getfield 18, 3) := by decide +kernel
theorem dX1_tellCell_68 : decode cX1_tellCell 68 = .ok (.iload 4, 2) := by decide +kernel
theorem dX1_tellCell_70 : decode cX1_tellCell 70 = .ok (.iaload, 1) := by decide +kernel
theorem dX1_tellCell_71 : decode cX1_tellCell 71 = .ok (.ireturn, 1) := by decide +kernel
theorem dX1_tellCell_72 : decode cX1_tellCell 72 = .ok (.aload_n 0, 1) := by decide +kernel
theorem dX1_tellCell_73 : decode cX1_tellCell 73 = .ok (.iload_n 1, 1) := by decide +kernel
theorem dX1_tellCell_74 : decode cX1_tellCell 74 = .ok (.iload_n 2, 1) := by decide +kernel
theorem dX1_tellCell_75 : decode cX1_tellCell 75 = .ok (.invokevirtual 84, 3) := by decide +kernel
theorem dX1_tellCell_78 : decode cX1_tellCell 78 = .ok (.ireturn, 1) := by decide +kernel
theorem dX1_tellCell_79 : decode cX1_tellCell 79 = .ok (.bipush (-2), 2) := by decide +kernel
theorem dX1_tellCell_81 : decode cX1_tellCell 81 = .ok (.ireturn, 1) := by decide +kernel
theorem dX1_tellOwed_0 : decode cX1_tellOwed 0 = .ok (.aload_n 0, 1) := by decide +kernel
theorem dX1_tellOwed_1 : decode cX1_tellOwed 1 = .ok (.iload_n 1, 1) := by decide +kernel
theorem dX1_tellOwed_2 : decode cX1_tellOwed 2 = .ok (.invokevirtual 91, 3) := by decide +kernel
theorem dX1_tellOwed_5 : decode cX1_tellOwed 5 = .ok (.ifCond .eq 11, 3) := by decide +kernel
theorem dX1_tellOwed_8 : decode cX1_tellOwed 8 = .ok (.aload_n 0, 1) := by decide +kernel
theorem dX1_tellOwed_9 : decode cX1_tellOwed 9 = .ok (.iload_n 2, 1) := by decide +kernel
theorem dX1_tellOwed_10 : decode cX1_tellOwed 10 = .ok (.invokevirtual 91, 3) := by decide +kernel
theorem dX1_tellOwed_13 : decode cX1_tellOwed 13 = .ok (.ifCond .ne 5, 3) := by decide +kernel
theorem dX1_tellOwed_16 : decode cX1_tellOwed 16 = .ok (.iconst (-1), 1) := by decide +kernel
theorem dX1_tellOwed_17 : decode cX1_tellOwed 17 = .ok (.ireturn, 1) := by decide +kernel
theorem dX1_tellOwed_18 : decode cX1_tellOwed 18 = .ok (.iload_n 1, 1) := by decide +kernel
theorem dX1_tellOwed_19 : decode cX1_tellOwed 19 = .ok (.iload_n 2, 1) := by decide +kernel
theorem dX1_tellOwed_20 : decode cX1_tellOwed 20 = .ok (.if_icmp .ne 8, 3) := by decide +kernel
theorem dX1_tellOwed_23 : decode cX1_tellOwed 23 = .ok (.bipush (-2), 2) := by decide +kernel
theorem dX1_tellOwed_25 : decode cX1_tellOwed 25 = .ok (.goto 11, 3) := by decide +kernel
theorem dX1_tellOwed_28 : decode cX1_tellOwed 28 = .ok (.aload_n 0, 1) := by decide +kernel
theorem dX1_tellOwed_29 : decode cX1_tellOwed 29 = .ok (.getfield 53, 3) := by decide +kernel
theorem dX1_tellOwed_32 : decode cX1_tellOwed 32 = .ok (.iload_n 1, 1) := by decide +kernel
theorem dX1_tellOwed_33 : decode cX1_tellOwed 33 = .ok (.aaload, 1) := by decide +kernel
theorem dX1_tellOwed_34 : decode cX1_tellOwed 34 = .ok (.iload_n 2, 1) := by decide +kernel
theorem dX1_tellOwed_35 : decode cX1_tellOwed 35 = .ok (.iaload, 1) := by decide +kernel
theorem dX1_tellOwed_36 : decode cX1_tellOwed 36 = .ok (.ireturn, 1) := by decide +kernel
theorem dX1_tellCount_0 : decode cX1_tellCount 0 = .ok (.iload_n 1, 1) := by decide +kernel
theorem dX1_tellCount_1 : decode cX1_tellCount 1 = .ok (.tableswitch 110 0 8 #[51, 56, 61, 67, 73, 78, 86, 94, 102], 51) := by decide +kernel
theorem dX1_tellCount_52 : decode cX1_tellCount 52 = .ok (.aload_n 0, 1) := by decide +kernel
theorem dX1_tellCount_53 : decode cX1_tellCount 53 = .ok (.getfield 71, 3) := by decide +kernel
theorem dX1_tellCount_56 : decode cX1_tellCount 56 = .ok (.ireturn, 1) := by decide +kernel
theorem dX1_tellCount_57 : decode cX1_tellCount 57 = .ok (.aload_n 0, 1) := by decide +kernel
theorem dX1_tellCount_58 : decode cX1_tellCount 58 = .ok (.getfield 67, 3) := by decide +kernel
theorem dX1_tellCount_61 : decode cX1_tellCount 61 = .ok (.ireturn, 1) := by decide +kernel
theorem dX1_tellCount_62 : decode cX1_tellCount 62 = .ok (.aload_n 0, 1) := by decide +kernel
theorem dX1_tellCount_63 : decode cX1_tellCount 63 = .ok (.iconst 0, 1) := by decide +kernel
theorem dX1_tellCount_64 : decode cX1_tellCount 64 = .ok (.invokevirtual 115, 3) := by decide +kernel
theorem dX1_tellCount_67 : decode cX1_tellCount 67 = .ok (.ireturn, 1) := by decide +kernel
theorem dX1_tellCount_68 : decode cX1_tellCount 68 = .ok (.aload_n 0, 1) := by decide +kernel
theorem dX1_tellCount_69 : decode cX1_tellCount 69 = .ok (.iconst 1, 1) := by decide +kernel
theorem dX1_tellCount_70 : decode cX1_tellCount 70 = .ok (.invokevirtual 115, 3) := by decide +kernel
theorem dX1_tellCount_73 : decode cX1_tellCount 73 = .ok (.ireturn, 1) := by decide +kernel
theorem dX1_tellCount_74 : decode cX1_tellCount 74 = .ok (.aload_n 0, 1) := by decide +kernel
theorem dX1_tellCount_75 : decode cX1_tellCount 75 = .ok (.invokevirtual 158, 3) := by decide +kernel
theorem dX1_tellCount_78 : decode cX1_tellCount 78 = .ok (.ireturn, 1) := by decide +kernel
theorem dX1_tellCount_79 : decode cX1_tellCount 79 = .ok (.aload_n 0, 1) := by decide +kernel
theorem dX1_tellCount_80 : decode cX1_tellCount 80 = .ok (.getfield 9, 3) := by decide +kernel
theorem dX1_tellCount_83 : decode cX1_tellCount 83 = .ok (.invokestatic 162, 3) := by decide +kernel
theorem dX1_tellCount_86 : decode cX1_tellCount 86 = .ok (.ireturn, 1) := by decide +kernel
theorem dX1_tellCount_87 : decode cX1_tellCount 87 = .ok (.aload_n 0, 1) := by decide +kernel
theorem dX1_tellCount_88 : decode cX1_tellCount 88 = .ok (.getfield 36, 3) := by decide +kernel
theorem dX1_tellCount_91 : decode cX1_tellCount 91 = .ok (.invokestatic 162, 3) := by decide +kernel
theorem dX1_tellCount_94 : decode cX1_tellCount 94 = .ok (.ireturn, 1) := by decide +kernel
theorem dX1_tellCount_95 : decode cX1_tellCount 95 = .ok (.aload_n 0, 1) := by decide +kernel
theorem dX1_tellCount_96 : decode cX1_tellCount 96 = .ok (.getfield 39, 3) := by decide +kernel
theorem dX1_tellCount_99 : decode cX1_tellCount 99 = .ok (.invokestatic 162, 3) := by decide +kernel
theorem dX1_tellCount_102 : decode cX1_tellCount 102 = .ok (.ireturn, 1) := by decide +kernel
theorem dX1_tellCount_103 : decode cX1_tellCount 103 = .ok (.aload_n 0, 1) := by decide +kernel
theorem dX1_tellCount_104 : decode cX1_tellCount 104 = .ok (.getfield 42, 3) := by decide +kernel
theorem dX1_tellCount_107 : decode cX1_tellCount 107 = .ok (.invokestatic 162, 3) := by decide +kernel
theorem dX1_tellCount_110 : decode cX1_tellCount 110 = .ok (.ireturn, 1) := by decide +kernel
theorem dX1_tellCount_111 : decode cX1_tellCount 111 = .ok (.iload_n 1, 1) := by decide +kernel
theorem dX1_tellCount_112 : decode cX1_tellCount 112 = .ok (.bipush 9, 2) := by decide +kernel
theorem dX1_tellCount_114 : decode cX1_tellCount 114 = .ok (.if_icmp .lt 27, 3) := by decide +kernel
theorem dX1_tellCount_117 : decode cX1_tellCount 117 = .ok (.iload_n 1, 1) := by decide +kernel
theorem dX1_tellCount_118 : decode cX1_tellCount 118 = .ok (.bipush 9, 2) := by decide +kernel
theorem dX1_tellCount_120 : decode cX1_tellCount 120 = .ok (.aload_n 0, 1) := by decide +kernel
theorem dX1_tellCount_121 : decode cX1_tellCount 121 = .ok (.getfield 64, 3) := by decide +kernel
theorem dX1_tellCount_124 : decode cX1_tellCount 124 = .ok (.arraylength, 1) := by decide +kernel
theorem dX1_tellCount_125 : decode cX1_tellCount 125 = .ok (.iadd, 1) := by decide +kernel
theorem dX1_tellCount_126 : decode cX1_tellCount 126 = .ok (.if_icmp .ge 15, 3) := by decide +kernel
theorem dX1_tellCount_129 : decode cX1_tellCount 129 = .ok (.aload_n 0, 1) := by decide +kernel
theorem dX1_tellCount_130 : decode cX1_tellCount 130 = .ok (.getfield 64, 3) := by decide +kernel
theorem dX1_tellCount_133 : decode cX1_tellCount 133 = .ok (.iload_n 1, 1) := by decide +kernel
theorem dX1_tellCount_134 : decode cX1_tellCount 134 = .ok (.bipush 9, 2) := by decide +kernel
theorem dX1_tellCount_136 : decode cX1_tellCount 136 = .ok (.isub, 1) := by decide +kernel
theorem dX1_tellCount_137 : decode cX1_tellCount 137 = .ok (.iaload, 1) := by decide +kernel
theorem dX1_tellCount_138 : decode cX1_tellCount 138 = .ok (.goto 5, 3) := by decide +kernel
theorem dX1_tellCount_141 : decode cX1_tellCount 141 = .ok (.bipush (-2), 2) := by decide +kernel
theorem dX1_tellCount_143 : decode cX1_tellCount 143 = .ok (.ireturn, 1) := by decide +kernel
theorem dX1_howManyAre_0 : decode cX1_howManyAre 0 = .ok (.iconst 0, 1) := by decide +kernel
theorem dX1_howManyAre_1 : decode cX1_howManyAre 1 = .ok (.istore_n 2, 1) := by decide +kernel
theorem dX1_howManyAre_2 : decode cX1_howManyAre 2 = .ok (.iconst 0, 1) := by decide +kernel
theorem dX1_howManyAre_3 : decode cX1_howManyAre 3 = .ok (.istore_n 3, 1) := by decide +kernel
theorem dX1_howManyAre_4 : decode cX1_howManyAre 4 = .ok (.iload_n 3, 1) := by decide +kernel
theorem dX1_howManyAre_5 : decode cX1_howManyAre 5 = .ok (.aload_n 0, 1) := by decide +kernel
theorem dX1_howManyAre_6 : decode cX1_howManyAre 6 = .ok (.getfield 67, 3) := by decide +kernel
theorem dX1_howManyAre_9 : decode cX1_howManyAre 9 = .ok (.if_icmp .ge 22, 3) := by decide +kernel
theorem dX1_howManyAre_12 : decode cX1_howManyAre 12 = .ok (.aload_n 0, 1) := by decide +kernel
theorem dX1_howManyAre_13 : decode cX1_howManyAre 13 = .ok (.getfield 30, 3) := by decide +kernel
theorem dX1_howManyAre_16 : decode cX1_howManyAre 16 = .ok (.iload_n 3, 1) := by decide +kernel
theorem dX1_howManyAre_17 : decode cX1_howManyAre 17 = .ok (.iaload, 1) := by decide +kernel
theorem dX1_howManyAre_18 : decode cX1_howManyAre 18 = .ok (.iload_n 1, 1) := by decide +kernel
theorem dX1_howManyAre_19 : decode cX1_howManyAre 19 = .ok (.if_icmp .ne 6, 3) := by decide +kernel
theorem dX1_howManyAre_22 : decode cX1_howManyAre 22 = .ok (.iinc 2 1, 3) := by decide +kernel
theorem dX1_howManyAre_25 : decode cX1_howManyAre 25 = .ok (.iinc 3 1, 3) := by decide +kernel
theorem dX1_howManyAre_28 : decode cX1_howManyAre 28 = .ok (.goto (-24), 3) := by decide +kernel
theorem dX1_howManyAre_31 : decode cX1_howManyAre 31 = .ok (.iload_n 2, 1) := by decide +kernel
theorem dX1_howManyAre_32 : decode cX1_howManyAre 32 = .ok (.ireturn, 1) := by decide +kernel
theorem dX1_howManyTrails_0 : decode cX1_howManyTrails 0 = .ok (.iconst 0, 1) := by decide +kernel
theorem dX1_howManyTrails_1 : decode cX1_howManyTrails 1 = .ok (.istore_n 1, 1) := by decide +kernel
theorem dX1_howManyTrails_2 : decode cX1_howManyTrails 2 = .ok (.iconst 0, 1) := by decide +kernel
theorem dX1_howManyTrails_3 : decode cX1_howManyTrails 3 = .ok (.istore_n 2, 1) := by decide +kernel
theorem dX1_howManyTrails_4 : decode cX1_howManyTrails 4 = .ok (.iload_n 2, 1) := by decide +kernel
theorem dX1_howManyTrails_5 : decode cX1_howManyTrails 5 = .ok (.bipush 120, 2) := by decide +kernel
theorem dX1_howManyTrails_7 : decode cX1_howManyTrails 7 = .ok (.if_icmp .ge 23, 3) := by decide +kernel
theorem dX1_howManyTrails_10 : decode cX1_howManyTrails 10 = .ok (.aload_n 0, 1) := by decide +kernel
theorem dX1_howManyTrails_11 : decode cX1_howManyTrails 11 = .ok (.getfield 15, 3) := by decide +kernel
theorem dX1_howManyTrails_14 : decode cX1_howManyTrails 14 = .ok (.iload_n 2, 1) := by decide +kernel
theorem dX1_howManyTrails_15 : decode cX1_howManyTrails 15 = .ok (.iaload, 1) := by decide +kernel
theorem dX1_howManyTrails_16 : decode cX1_howManyTrails 16 = .ok (.bipush (-5), 2) := by decide +kernel
theorem dX1_howManyTrails_18 : decode cX1_howManyTrails 18 = .ok (.if_icmp .eq 6, 3) := by decide +kernel
theorem dX1_howManyTrails_21 : decode cX1_howManyTrails 21 = .ok (.iinc 1 1, 3) := by decide +kernel
theorem dX1_howManyTrails_24 : decode cX1_howManyTrails 24 = .ok (.iinc 2 1, 3) := by decide +kernel
theorem dX1_howManyTrails_27 : decode cX1_howManyTrails 27 = .ok (.goto (-23), 3) := by decide +kernel
theorem dX1_howManyTrails_30 : decode cX1_howManyTrails 30 = .ok (.iload_n 1, 1) := by decide +kernel
theorem dX1_howManyTrails_31 : decode cX1_howManyTrails 31 = .ok (.ireturn, 1) := by decide +kernel
theorem dX1_findLeader_0 : decode cX1_findLeader 0 = .ok (.bipush (-5), 2) := by decide +kernel
theorem dX1_findLeader_2 : decode cX1_findLeader 2 = .ok (.istore_n 1, 1) := by decide +kernel
theorem dX1_findLeader_3 : decode cX1_findLeader 3 = .ok (.iconst 0, 1) := by decide +kernel
theorem dX1_findLeader_4 : decode cX1_findLeader 4 = .ok (.istore_n 2, 1) := by decide +kernel
theorem dX1_findLeader_5 : decode cX1_findLeader 5 = .ok (.iload_n 2, 1) := by decide +kernel
theorem dX1_findLeader_6 : decode cX1_findLeader 6 = .ok (.aload_n 0, 1) := by decide +kernel
theorem dX1_findLeader_7 : decode cX1_findLeader 7 = .ok (.getfield 67, 3) := by decide +kernel
theorem dX1_findLeader_10 : decode cX1_findLeader 10 = .ok (.if_icmp .ge 34, 3) := by decide +kernel
theorem dX1_findLeader_13 : decode cX1_findLeader 13 = .ok (.aload_n 0, 1) := by decide +kernel
theorem dX1_findLeader_14 : decode cX1_findLeader 14 = .ok (.iload_n 2, 1) := by decide +kernel
theorem dX1_findLeader_15 : decode cX1_findLeader 15 = .ok (.invokevirtual 95, 3) := by decide +kernel
theorem dX1_findLeader_18 : decode cX1_findLeader 18 = .ok (.ifCond .eq 20, 3) := by decide +kernel
theorem dX1_findLeader_21 : decode cX1_findLeader 21 = .ok (.iload_n 1, 1) := by decide +kernel
theorem dX1_findLeader_22 : decode cX1_findLeader 22 = .ok (.bipush (-5), 2) := by decide +kernel
theorem dX1_findLeader_24 : decode cX1_findLeader 24 = .ok (.if_icmp .eq 12, 3) := by decide +kernel
theorem dX1_findLeader_27 : decode cX1_findLeader 27 = .ok (.aload_n 0, 1) := by decide +kernel
theorem dX1_findLeader_28 : decode cX1_findLeader 28 = .ok (.iload_n 2, 1) := by decide +kernel
theorem dX1_findLeader_29 : decode cX1_findLeader 29 = .ok (.iload_n 1, 1) := by decide +kernel
theorem dX1_findLeader_30 : decode cX1_findLeader 30 = .ok (.invokevirtual 166, 3) := by decide +kernel
theorem dX1_findLeader_33 : decode cX1_findLeader 33 = .ok (.ifCond .eq 5, 3) := by decide +kernel
theorem dX1_findLeader_36 : decode cX1_findLeader 36 = .ok (.iload_n 2, 1) := by decide +kernel
theorem dX1_findLeader_37 : decode cX1_findLeader 37 = .ok (.istore_n 1, 1) := by decide +kernel
theorem dX1_findLeader_38 : decode cX1_findLeader 38 = .ok (.iinc 2 1, 3) := by decide +kernel
theorem dX1_findLeader_41 : decode cX1_findLeader 41 = .ok (.goto (-36), 3) := by decide +kernel
theorem dX1_findLeader_44 : decode cX1_findLeader 44 = .ok (.iload_n 1, 1) := by decide +kernel
theorem dX1_findLeader_45 : decode cX1_findLeader 45 = .ok (.ireturn, 1) := by decide +kernel
theorem dX1_isAhead_0 : decode cX1_isAhead 0 = .ok (.aload_n 0, 1) := by decide +kernel
theorem dX1_isAhead_1 : decode cX1_isAhead 1 = .ok (.getfield 24, 3) := by decide +kernel
theorem dX1_isAhead_4 : decode cX1_isAhead 4 = .ok (.iload_n 1, 1) := by decide +kernel
theorem dX1_isAhead_5 : decode cX1_isAhead 5 = .ok (.iaload, 1) := by decide +kernel
theorem dX1_isAhead_6 : decode cX1_isAhead 6 = .ok (.aload_n 0, 1) := by decide +kernel
theorem dX1_isAhead_7 : decode cX1_isAhead 7 = .ok (.getfield 24, 3) := by decide +kernel
theorem dX1_isAhead_10 : decode cX1_isAhead 10 = .ok (.iload_n 2, 1) := by decide +kernel
theorem dX1_isAhead_11 : decode cX1_isAhead 11 = .ok (.iaload, 1) := by decide +kernel
theorem dX1_isAhead_12 : decode cX1_isAhead 12 = .ok (.if_icmp .eq 24, 3) := by decide +kernel
theorem dX1_isAhead_15 : decode cX1_isAhead 15 = .ok (.aload_n 0, 1) := by decide +kernel
theorem dX1_isAhead_16 : decode cX1_isAhead 16 = .ok (.getfield 24, 3) := by decide +kernel
theorem dX1_isAhead_19 : decode cX1_isAhead 19 = .ok (.iload_n 1, 1) := by decide +kernel
theorem dX1_isAhead_20 : decode cX1_isAhead 20 = .ok (.iaload, 1) := by decide +kernel
theorem dX1_isAhead_21 : decode cX1_isAhead 21 = .ok (.aload_n 0, 1) := by decide +kernel
theorem dX1_isAhead_22 : decode cX1_isAhead 22 = .ok (.getfield 24, 3) := by decide +kernel
theorem dX1_isAhead_25 : decode cX1_isAhead 25 = .ok (.iload_n 2, 1) := by decide +kernel
theorem dX1_isAhead_26 : decode cX1_isAhead 26 = .ok (.iaload, 1) := by decide +kernel
theorem dX1_isAhead_27 : decode cX1_isAhead 27 = .ok (.if_icmp .le 7, 3) := by decide +kernel
theorem dX1_isAhead_30 : decode cX1_isAhead 30 = .ok (.iconst 1, 1) := by decide +kernel
theorem dX1_isAhead_31 : decode cX1_isAhead 31 = .ok (.goto 4, 3) := by decide +kernel
theorem dX1_isAhead_34 : decode cX1_isAhead 34 = .ok (.iconst 0, 1) := by decide +kernel
theorem dX1_isAhead_35 : decode cX1_isAhead 35 = .ok (.ireturn, 1) := by decide +kernel
theorem dX1_isAhead_36 : decode cX1_isAhead 36 = .ok (.aload_n 0, 1) := by decide +kernel
theorem dX1_isAhead_37 : decode cX1_isAhead 37 = .ok (.getfield 27, 3) := by decide +kernel
theorem dX1_isAhead_40 : decode cX1_isAhead 40 = .ok (.iload_n 1, 1) := by decide +kernel
theorem dX1_isAhead_41 : decode cX1_isAhead 41 = .ok (.iaload, 1) := by decide +kernel
theorem dX1_isAhead_42 : decode cX1_isAhead 42 = .ok (.aload_n 0, 1) := by decide +kernel
theorem dX1_isAhead_43 : decode cX1_isAhead 43 = .ok (.getfield 27, 3) := by decide +kernel
theorem dX1_isAhead_46 : decode cX1_isAhead 46 = .ok (.iload_n 2, 1) := by decide +kernel
theorem dX1_isAhead_47 : decode cX1_isAhead 47 = .ok (.iaload, 1) := by decide +kernel
theorem dX1_isAhead_48 : decode cX1_isAhead 48 = .ok (.if_icmp .le 7, 3) := by decide +kernel
theorem dX1_isAhead_51 : decode cX1_isAhead 51 = .ok (.iconst 1, 1) := by decide +kernel
theorem dX1_isAhead_52 : decode cX1_isAhead 52 = .ok (.goto 4, 3) := by decide +kernel
theorem dX1_isAhead_55 : decode cX1_isAhead 55 = .ok (.iconst 0, 1) := by decide +kernel
theorem dX1_isAhead_56 : decode cX1_isAhead 56 = .ok (.ireturn, 1) := by decide +kernel
theorem dX2_init_0 : decode cX2_init 0 = .ok (.aload_n 0, 1) := by decide +kernel
theorem dX2_init_1 : decode cX2_init 1 = .ok (.invokespecial 3, 3) := by decide +kernel
theorem dX2_init_4 : decode cX2_init 4 = .ok (.aload_n 0, 1) := by decide +kernel
theorem dX2_init_5 : decode cX2_init 5 = .ok (.bipush 60, 2) := by decide +kernel
theorem dX2_init_7 : decode cX2_init 7 = .ok (.newarray .char, 2) := by decide +kernel
theorem dX2_init_9 : decode cX2_init 9 = .ok (.putfield 9, 3) := by decide +kernel
theorem dX2_init_12 : decode cX2_init 12 = .ok (.aload_n 0, 1) := by decide +kernel
theorem dX2_init_13 : decode cX2_init 13 = .ok (.iconst 0, 1) := by decide +kernel
theorem dX2_init_14 : decode cX2_init 14 = .ok (.putfield 15, 3) := by decide +kernel
theorem dX2_init_17 : decode cX2_init 17 = .ok (.aload_n 0, 1) := by decide +kernel
theorem dX2_init_18 : decode cX2_init 18 = .ok (.iconst 0, 1) := by decide +kernel
theorem dX2_init_19 : decode cX2_init 19 = .ok (.putfield 19, 3) := by decide +kernel
theorem dX2_init_22 : decode cX2_init 22 = .ok (.aload_n 0, 1) := by decide +kernel
theorem dX2_init_23 : decode cX2_init 23 = .ok (.iconst 0, 1) := by decide +kernel
theorem dX2_init_24 : decode cX2_init 24 = .ok (.putfield 22, 3) := by decide +kernel
theorem dX2_init_27 : decode cX2_init 27 = .ok (.aload_n 0, 1) := by decide +kernel
theorem dX2_init_28 : decode cX2_init 28 = .ok (.bipush 21, 2) := by decide +kernel
theorem dX2_init_30 : decode cX2_init 30 = .ok (.newarray .int, 2) := by decide +kernel
theorem dX2_init_32 : decode cX2_init 32 = .ok (.putfield 25, 3) := by decide +kernel
theorem dX2_init_35 : decode cX2_init 35 = .ok (.aload_n 0, 1) := by decide +kernel
theorem dX2_init_36 : decode cX2_init 36 = .ok (.bipush 21, 2) := by decide +kernel
theorem dX2_init_38 : decode cX2_init 38 = .ok (.newarray .int, 2) := by decide +kernel
theorem dX2_init_40 : decode cX2_init 40 = .ok (.putfield 29, 3) := by decide +kernel
theorem dX2_init_43 : decode cX2_init 43 = .ok (.aload_n 0, 1) := by decide +kernel
theorem dX2_init_44 : decode cX2_init 44 = .ok (.bipush 21, 2) := by decide +kernel
theorem dX2_init_46 : decode cX2_init 46 = .ok (.newarray .int, 2) := by decide +kernel
theorem dX2_init_48 : decode cX2_init 48 = .ok (.putfield 32, 3) := by decide +kernel
theorem dX2_init_51 : decode cX2_init 51 = .ok (.aload_n 0, 1) := by decide +kernel
theorem dX2_init_52 : decode cX2_init 52 = .ok (.bipush 21, 2) := by decide +kernel
theorem dX2_init_54 : decode cX2_init 54 = .ok (.newarray .int, 2) := by decide +kernel
theorem dX2_init_56 : decode cX2_init 56 = .ok (.putfield 35, 3) := by decide +kernel
theorem dX2_init_59 : decode cX2_init 59 = .ok (.return_, 1) := by decide +kernel
theorem dX2_append_0 : decode cX2_append 0 = .ok (.aload_n 0, 1) := by decide +kernel
theorem dX2_append_1 : decode cX2_append 1 = .ok (.getfield 15, 3) := by decide +kernel
theorem dX2_append_4 : decode cX2_append 4 = .ok (.ifCond .lt 12, 3) := by decide +kernel
theorem dX2_append_7 : decode cX2_append 7 = .ok (.aload_n 0, 1) := by decide +kernel
theorem dX2_append_8 : decode cX2_append 8 = .ok (.getfield 15, 3) := by decide +kernel
theorem dX2_append_11 : decode cX2_append 11 = .ok (.bipush 60, 2) := by decide +kernel
theorem dX2_append_13 : decode cX2_append 13 = .ok (.if_icmp .lt 6, 3) := by decide +kernel
theorem dX2_append_16 : decode cX2_append 16 = .ok (.bipush (-3), 2) := by decide +kernel
theorem dX2_append_18 : decode cX2_append 18 = .ok (.ireturn, 1) := by decide +kernel
theorem dX2_append_19 : decode cX2_append 19 = .ok (.aload_n 0, 1) := by decide +kernel
theorem dX2_append_20 : decode cX2_append 20 = .ok (.getfield 9, 3) := by decide +kernel
theorem dX2_append_23 : decode cX2_append 23 = .ok (.aload_n 0, 1) := by decide +kernel
theorem dX2_append_24 : decode cX2_append 24 = .ok (.getfield 15, 3) := by decide +kernel
theorem dX2_append_27 : decode cX2_append 27 = .ok (.iload_n 1, 1) := by decide +kernel
theorem dX2_append_28 : decode cX2_append 28 = .ok (.castore, 1) := by decide +kernel
theorem dX2_append_29 : decode cX2_append 29 = .ok (.aload_n 0, 1) := by decide +kernel
theorem dX2_append_30 : decode cX2_append 30 = .ok (.dup, 1) := by decide +kernel
theorem dX2_append_31 : decode cX2_append 31 = .ok (.getfield 15, 3) := by decide +kernel
theorem dX2_append_34 : decode cX2_append 34 = .ok (.iconst 1, 1) := by decide +kernel
theorem dX2_append_35 : decode cX2_append 35 = .ok (.iadd, 1) := by decide +kernel
theorem dX2_append_36 : decode cX2_append 36 = .ok (.putfield 15, 3) := by decide +kernel
theorem dX2_append_39 : decode cX2_append 39 = .ok (.aload_n 0, 1) := by decide +kernel
theorem dX2_append_40 : decode cX2_append 40 = .ok (.getfield 15, 3) := by decide +kernel
theorem dX2_append_43 : decode cX2_append 43 = .ok (.ireturn, 1) := by decide +kernel
theorem dX2_empty_0 : decode cX2_empty 0 = .ok (.aload_n 0, 1) := by decide +kernel
theorem dX2_empty_1 : decode cX2_empty 1 = .ok (.getfield 15, 3) := by decide +kernel
theorem dX2_empty_4 : decode cX2_empty 4 = .ok (.istore_n 1, 1) := by decide +kernel
theorem dX2_empty_5 : decode cX2_empty 5 = .ok (.aload_n 0, 1) := by decide +kernel
theorem dX2_empty_6 : decode cX2_empty 6 = .ok (.iconst 0, 1) := by decide +kernel
theorem dX2_empty_7 : decode cX2_empty 7 = .ok (.putfield 15, 3) := by decide +kernel
theorem dX2_empty_10 : decode cX2_empty 10 = .ok (.iload_n 1, 1) := by decide +kernel
theorem dX2_empty_11 : decode cX2_empty 11 = .ok (.ireturn, 1) := by decide +kernel
theorem dX2_read_0 : decode cX2_read 0 = .ok (.aload_n 0, 1) := by decide +kernel
theorem dX2_read_1 : decode cX2_read 1 = .ok (.iconst 0, 1) := by decide +kernel
theorem dX2_read_2 : decode cX2_read 2 = .ok (.putfield 19, 3) := by decide +kernel
theorem dX2_read_5 : decode cX2_read 5 = .ok (.aload_n 0, 1) := by decide +kernel
theorem dX2_read_6 : decode cX2_read 6 = .ok (.iconst 0, 1) := by decide +kernel
theorem dX2_read_7 : decode cX2_read 7 = .ok (.putfield 22, 3) := by decide +kernel
theorem dX2_read_10 : decode cX2_read 10 = .ok (.iconst 0, 1) := by decide +kernel
theorem dX2_read_11 : decode cX2_read 11 = .ok (.istore_n 1, 1) := by decide +kernel
theorem dX2_read_12 : decode cX2_read 12 = .ok (.iload_n 1, 1) := by decide +kernel
theorem dX2_read_13 : decode cX2_read 13 = .ok (.bipush 21, 2) := by decide +kernel
theorem dX2_read_15 : decode cX2_read 15 = .ok (.if_icmp .ge 59, 3) := by decide +kernel
theorem dX2_read_18 : decode cX2_read 18 = .ok (.aload_n 0, 1) := by decide +kernel
theorem dX2_read_19 : decode cX2_read 19 = .ok (.iload_n 1, 1) := by decide +kernel
theorem dX2_read_20 : decode cX2_read 20 = .ok (.invokevirtual 38, 3) := by decide +kernel
theorem dX2_read_23 : decode cX2_read 23 = .ok (.ifCond .ne 8, 3) := by decide +kernel
theorem dX2_read_26 : decode cX2_read 26 = .ok (.aload_n 0, 1) := by decide +kernel
theorem dX2_read_27 : decode cX2_read 27 = .ok (.getfield 19, 3) := by decide +kernel
theorem dX2_read_30 : decode cX2_read 30 = .ok (.ireturn, 1) := by decide +kernel
theorem dX2_read_31 : decode cX2_read 31 = .ok (.aload_n 0, 1) := by decide +kernel
theorem dX2_read_32 : decode cX2_read 32 = .ok (.dup, 1) := by decide +kernel
theorem dX2_read_33 : decode cX2_read 33 = .ok (.getfield 22, 3) := by decide +kernel
theorem dX2_read_36 : decode cX2_read 36 = .ok (.iconst 1, 1) := by decide +kernel
theorem dX2_read_37 : decode cX2_read 37 = .ok (.iadd, 1) := by decide +kernel
theorem dX2_read_38 : decode cX2_read 38 = .ok (.putfield 22, 3) := by decide +kernel
theorem dX2_read_41 : decode cX2_read 41 = .ok (.aload_n 0, 1) := by decide +kernel
theorem dX2_read_42 : decode cX2_read 42 = .ok (.getfield 19, 3) := by decide +kernel
theorem dX2_read_45 : decode cX2_read 45 = .ok (.aload_n 0, 1) := by decide +kernel
theorem dX2_read_46 : decode cX2_read 46 = .ok (.getfield 15, 3) := by decide +kernel
theorem dX2_read_49 : decode cX2_read 49 = .ok (.if_icmp .ne 5, 3) := by decide +kernel
theorem dX2_read_52 : decode cX2_read 52 = .ok (.iconst (-1), 1) := by decide +kernel
theorem dX2_read_53 : decode cX2_read 53 = .ok (.ireturn, 1) := by decide +kernel
theorem dX2_read_54 : decode cX2_read 54 = .ok (.aload_n 0, 1) := by decide +kernel
theorem dX2_read_55 : decode cX2_read 55 = .ok (.bipush 59, 2) := by decide +kernel
theorem dX2_read_57 : decode cX2_read 57 = .ok (.invokevirtual 42, 3) := by decide +kernel
theorem dX2_read_60 : decode cX2_read 60 = .ok (.ifCond .ne 8, 3) := by decide +kernel
theorem dX2_read_63 : decode cX2_read 63 = .ok (.aload_n 0, 1) := by decide +kernel
theorem dX2_read_64 : decode cX2_read 64 = .ok (.getfield 19, 3) := by decide +kernel
theorem dX2_read_67 : decode cX2_read 67 = .ok (.ireturn, 1) := by decide +kernel
theorem dX2_read_68 : decode cX2_read 68 = .ok (.iinc 1 1, 3) := by decide +kernel
theorem dX2_read_71 : decode cX2_read 71 = .ok (.goto (-59), 3) := by decide +kernel
theorem dX2_read_74 : decode cX2_read 74 = .ok (.aload_n 0, 1) := by decide +kernel
theorem dX2_read_75 : decode cX2_read 75 = .ok (.getfield 19, 3) := by decide +kernel
theorem dX2_read_78 : decode cX2_read 78 = .ok (.ireturn, 1) := by decide +kernel
theorem dX2_readThing_0 : decode cX2_readThing 0 = .ok (.aload_n 0, 1) := by decide +kernel
theorem dX2_readThing_1 : decode cX2_readThing 1 = .ok (.invokevirtual 46, 3) := by decide +kernel
theorem dX2_readThing_4 : decode cX2_readThing 4 = .ok (.istore_n 2, 1) := by decide +kernel
theorem dX2_readThing_5 : decode cX2_readThing 5 = .ok (.iload_n 1, 1) := by decide +kernel
theorem dX2_readThing_6 : decode cX2_readThing 6 = .ok (.ifCond .lt 14, 3) := by decide +kernel
theorem dX2_readThing_9 : decode cX2_readThing 9 = .ok (.iload_n 1, 1) := by decide +kernel
theorem dX2_readThing_10 : decode cX2_readThing 10 = .ok (.bipush 21, 2) := by decide +kernel
theorem dX2_readThing_12 : decode cX2_readThing 12 = .ok (.if_icmp .ge 8, 3) := by decide +kernel
theorem dX2_readThing_15 : decode cX2_readThing 15 = .ok (.iload_n 2, 1) := by decide +kernel
theorem dX2_readThing_16 : decode cX2_readThing 16 = .ok (.iconst (-1), 1) := by decide +kernel
theorem dX2_readThing_17 : decode cX2_readThing 17 = .ok (.if_icmp .ne 5, 3) := by decide +kernel
theorem dX2_readThing_20 : decode cX2_readThing 20 = .ok (.iconst 0, 1) := by decide +kernel
theorem dX2_readThing_21 : decode cX2_readThing 21 = .ok (.ireturn, 1) := by decide +kernel
theorem dX2_readThing_22 : decode cX2_readThing 22 = .ok (.aload_n 0, 1) := by decide +kernel
theorem dX2_readThing_23 : decode cX2_readThing 23 = .ok (.getfield 25, 3) := by decide +kernel
theorem dX2_readThing_26 : decode cX2_readThing 26 = .ok (.iload_n 1, 1) := by decide +kernel
theorem dX2_readThing_27 : decode cX2_readThing 27 = .ok (.iload_n 2, 1) := by decide +kernel
theorem dX2_readThing_28 : decode cX2_readThing 28 = .ok (.iastore, 1) := by decide +kernel
theorem dX2_readThing_29 : decode cX2_readThing 29 = .ok (.iload_n 2, 1) := by decide +kernel
theorem dX2_readThing_30 : decode cX2_readThing 30 = .ok (.lookupswitch 189 #[(46, 166), (102, 88), (115, 34)], 34) := by decide +kernel
theorem dX2_readThing_64 : decode cX2_readThing 64 = .ok (.aload_n 0, 1) := by decide +kernel
theorem dX2_readThing_65 : decode cX2_readThing 65 = .ok (.dup, 1) := by decide +kernel
theorem dX2_readThing_66 : decode cX2_readThing 66 = .ok (.getfield 19, 3) := by decide +kernel
theorem dX2_readThing_69 : decode cX2_readThing 69 = .ok (.iconst 1, 1) := by decide +kernel
theorem dX2_readThing_70 : decode cX2_readThing 70 = .ok (.iadd, 1) := by decide +kernel
theorem dX2_readThing_71 : decode cX2_readThing 71 = .ok (.putfield 19, 3) := by decide +kernel
theorem dX2_readThing_74 : decode cX2_readThing 74 = .ok (.aload_n 0, 1) := by decide +kernel
theorem dX2_readThing_75 : decode cX2_readThing 75 = .ok (.aload_n 0, 1) := by decide +kernel
theorem dX2_readThing_76 : decode cX2_readThing 76 = .ok (.getfield 29, 3) := by decide +kernel
theorem dX2_readThing_79 : decode cX2_readThing 79 = .ok (.iload_n 1, 1) := by decide +kernel
theorem dX2_readThing_80 : decode cX2_readThing 80 = .ok (.iconst 0, 1) := by decide +kernel
theorem dX2_readThing_81 : decode cX2_readThing 81 = .ok (.iconst 5, 1) := by decide +kernel
theorem dX2_readThing_82 : decode cX2_readThing 82 = .ok (.invokevirtual 50, 3) := by decide +kernel
theorem dX2_readThing_85 : decode cX2_readThing 85 = .ok (.ifCond .eq 31, 3) := by decide +kernel
theorem dX2_readThing_88 : decode cX2_readThing 88 = .ok (.aload_n 0, 1) := by decide +kernel
theorem dX2_readThing_89 : decode cX2_readThing 89 = .ok (.bipush 42, 2) := by decide +kernel
theorem dX2_readThing_91 : decode cX2_readThing 91 = .ok (.invokevirtual 42, 3) := by decide +kernel
theorem dX2_readThing_94 : decode cX2_readThing 94 = .ok (.ifCond .eq 22, 3) := by decide +kernel
theorem dX2_readThing_97 : decode cX2_readThing 97 = .ok (.aload_n 0, 1) := by decide +kernel
theorem dX2_readThing_98 : decode cX2_readThing 98 = .ok (.aload_n 0, 1) := by decide +kernel
theorem dX2_readThing_99 : decode cX2_readThing 99 = .ok (.getfield 35, 3) := by decide +kernel
theorem dX2_readThing_102 : decode cX2_readThing 102 = .ok (.iload_n 1, 1) := by decide +kernel
theorem dX2_readThing_103 : decode cX2_readThing 103 = .ok (.iconst 0, 1) := by decide +kernel
theorem dX2_readThing_104 : decode cX2_readThing 104 = .ok (.bipush 99, 2) := by decide +kernel
theorem dX2_readThing_106 : decode cX2_readThing 106 = .ok (.invokevirtual 50, 3) := by decide +kernel
theorem dX2_readThing_109 : decode cX2_readThing 109 = .ok (.ifCond .eq 7, 3) := by decide +kernel
theorem dX2_readThing_112 : decode cX2_readThing 112 = .ok (.iconst 1, 1) := by decide +kernel
theorem dX2_readThing_113 : decode cX2_readThing 113 = .ok (.goto 4, 3) := by decide +kernel
theorem dX2_readThing_116 : decode cX2_readThing 116 = .ok (.iconst 0, 1) := by decide +kernel
theorem dX2_readThing_117 : decode cX2_readThing 117 = .ok (.ireturn, 1) := by decide +kernel
theorem dX2_readThing_118 : decode cX2_readThing 118 = .ok (.aload_n 0, 1) := by decide +kernel
theorem dX2_readThing_119 : decode cX2_readThing 119 = .ok (.dup, 1) := by decide +kernel
theorem dX2_readThing_120 : decode cX2_readThing 120 = .ok (.getfield 19, 3) := by decide +kernel
theorem dX2_readThing_123 : decode cX2_readThing 123 = .ok (.iconst 1, 1) := by decide +kernel
theorem dX2_readThing_124 : decode cX2_readThing 124 = .ok (.iadd, 1) := by decide +kernel
theorem dX2_readThing_125 : decode cX2_readThing 125 = .ok (.putfield 19, 3) := by decide +kernel
theorem dX2_readThing_128 : decode cX2_readThing 128 = .ok (.aload_n 0, 1) := by decide +kernel
theorem dX2_readThing_129 : decode cX2_readThing 129 = .ok (.aload_n 0, 1) := by decide +kernel
theorem dX2_readThing_130 : decode cX2_readThing 130 = .ok (.getfield 29, 3) := by decide +kernel
theorem dX2_readThing_133 : decode cX2_readThing 133 = .ok (.iload_n 1, 1) := by decide +kernel
theorem dX2_readThing_134 : decode cX2_readThing 134 = .ok (.iconst 0, 1) := by decide +kernel
theorem dX2_readThing_135 : decode cX2_readThing 135 = .ok (.iconst 5, 1) := by decide +kernel
theorem dX2_readThing_136 : decode cX2_readThing 136 = .ok (.invokevirtual 50, 3) := by decide +kernel
theorem dX2_readThing_139 : decode cX2_readThing 139 = .ok (.ifCond .eq 55, 3) := by decide +kernel
theorem dX2_readThing_142 : decode cX2_readThing 142 = .ok (.aload_n 0, 1) := by decide +kernel
theorem dX2_readThing_143 : decode cX2_readThing 143 = .ok (.bipush 46, 2) := by decide +kernel
theorem dX2_readThing_145 : decode cX2_readThing 145 = .ok (.invokevirtual 42, 3) := by decide +kernel
theorem dX2_readThing_148 : decode cX2_readThing 148 = .ok (.ifCond .eq 46, 3) := by decide +kernel
theorem dX2_readThing_151 : decode cX2_readThing 151 = .ok (.aload_n 0, 1) := by decide +kernel
theorem dX2_readThing_152 : decode cX2_readThing 152 = .ok (.aload_n 0, 1) := by decide +kernel
theorem dX2_readThing_153 : decode cX2_readThing 153 = .ok (.getfield 32, 3) := by decide +kernel
theorem dX2_readThing_156 : decode cX2_readThing 156 = .ok (.iload_n 1, 1) := by decide +kernel
theorem dX2_readThing_157 : decode cX2_readThing 157 = .ok (.iconst 0, 1) := by decide +kernel
theorem dX2_readThing_158 : decode cX2_readThing 158 = .ok (.bipush 19, 2) := by decide +kernel
theorem dX2_readThing_160 : decode cX2_readThing 160 = .ok (.invokevirtual 50, 3) := by decide +kernel
theorem dX2_readThing_163 : decode cX2_readThing 163 = .ok (.ifCond .eq 31, 3) := by decide +kernel
theorem dX2_readThing_166 : decode cX2_readThing 166 = .ok (.aload_n 0, 1) := by decide +kernel
theorem dX2_readThing_167 : decode cX2_readThing 167 = .ok (.bipush 61, 2) := by decide +kernel
theorem dX2_readThing_169 : decode cX2_readThing 169 = .ok (.invokevirtual 42, 3) := by decide +kernel
theorem dX2_readThing_172 : decode cX2_readThing 172 = .ok (.ifCond .eq 22, 3) := by decide +kernel
theorem dX2_readThing_175 : decode cX2_readThing 175 = .ok (.aload_n 0, 1) := by decide +kernel
theorem dX2_readThing_176 : decode cX2_readThing 176 = .ok (.aload_n 0, 1) := by decide +kernel
theorem dX2_readThing_177 : decode cX2_readThing 177 = .ok (.getfield 35, 3) := by decide +kernel
theorem dX2_readThing_180 : decode cX2_readThing 180 = .ok (.iload_n 1, 1) := by decide +kernel
theorem dX2_readThing_181 : decode cX2_readThing 181 = .ok (.iconst 0, 1) := by decide +kernel
theorem dX2_readThing_182 : decode cX2_readThing 182 = .ok (.bipush 9, 2) := by decide +kernel
theorem dX2_readThing_184 : decode cX2_readThing 184 = .ok (.invokevirtual 50, 3) := by decide +kernel
theorem dX2_readThing_187 : decode cX2_readThing 187 = .ok (.ifCond .eq 7, 3) := by decide +kernel
theorem dX2_readThing_190 : decode cX2_readThing 190 = .ok (.iconst 1, 1) := by decide +kernel
theorem dX2_readThing_191 : decode cX2_readThing 191 = .ok (.goto 4, 3) := by decide +kernel
theorem dX2_readThing_194 : decode cX2_readThing 194 = .ok (.iconst 0, 1) := by decide +kernel
theorem dX2_readThing_195 : decode cX2_readThing 195 = .ok (.ireturn, 1) := by decide +kernel
theorem dX2_readThing_196 : decode cX2_readThing 196 = .ok (.aload_n 0, 1) := by decide +kernel
theorem dX2_readThing_197 : decode cX2_readThing 197 = .ok (.dup, 1) := by decide +kernel
theorem dX2_readThing_198 : decode cX2_readThing 198 = .ok (.getfield 19, 3) := by decide +kernel
theorem dX2_readThing_201 : decode cX2_readThing 201 = .ok (.iconst 1, 1) := by decide +kernel
theorem dX2_readThing_202 : decode cX2_readThing 202 = .ok (.iadd, 1) := by decide +kernel
theorem dX2_readThing_203 : decode cX2_readThing 203 = .ok (.putfield 19, 3) := by decide +kernel
theorem dX2_readThing_206 : decode cX2_readThing 206 = .ok (.aload_n 0, 1) := by decide +kernel
theorem dX2_readThing_207 : decode cX2_readThing 207 = .ok (.aload_n 0, 1) := by decide +kernel
theorem dX2_readThing_208 : decode cX2_readThing 208 = .ok (.getfield 35, 3) := by decide +kernel
theorem dX2_readThing_211 : decode cX2_readThing 211 = .ok (.iload_n 1, 1) := by decide +kernel
theorem dX2_readThing_212 : decode cX2_readThing 212 = .ok (.iconst 1, 1) := by decide +kernel
theorem dX2_readThing_213 : decode cX2_readThing 213 = .ok (.bipush 99, 2) := by decide +kernel
theorem dX2_readThing_215 : decode cX2_readThing 215 = .ok (.invokevirtual 50, 3) := by decide +kernel
theorem dX2_readThing_218 : decode cX2_readThing 218 = .ok (.ireturn, 1) := by decide +kernel
theorem dX2_readThing_219 : decode cX2_readThing 219 = .ok (.iconst 0, 1) := by decide +kernel
theorem dX2_readThing_220 : decode cX2_readThing 220 = .ok (.ireturn, 1) := by decide +kernel
theorem dX2_readSign_0 : decode cX2_readSign 0 = .ok (.aload_n 0, 1) := by decide +kernel
theorem dX2_readSign_1 : decode cX2_readSign 1 = .ok (.invokevirtual 46, 3) := by decide +kernel
theorem dX2_readSign_4 : decode cX2_readSign 4 = .ok (.iload_n 1, 1) := by decide +kernel
theorem dX2_readSign_5 : decode cX2_readSign 5 = .ok (.if_icmp .eq 5, 3) := by decide +kernel
theorem dX2_readSign_8 : decode cX2_readSign 8 = .ok (.iconst 0, 1) := by decide +kernel
theorem dX2_readSign_9 : decode cX2_readSign 9 = .ok (.ireturn, 1) := by decide +kernel
theorem dX2_readSign_10 : decode cX2_readSign 10 = .ok (.aload_n 0, 1) := by decide +kernel
theorem dX2_readSign_11 : decode cX2_readSign 11 = .ok (.dup, 1) := by decide +kernel
theorem dX2_readSign_12 : decode cX2_readSign 12 = .ok (.getfield 19, 3) := by decide +kernel
theorem dX2_readSign_15 : decode cX2_readSign 15 = .ok (.iconst 1, 1) := by decide +kernel
theorem dX2_readSign_16 : decode cX2_readSign 16 = .ok (.iadd, 1) := by decide +kernel
theorem dX2_readSign_17 : decode cX2_readSign 17 = .ok (.putfield 19, 3) := by decide +kernel
theorem dX2_readSign_20 : decode cX2_readSign 20 = .ok (.iconst 1, 1) := by decide +kernel
theorem dX2_readSign_21 : decode cX2_readSign 21 = .ok (.ireturn, 1) := by decide +kernel
theorem dX2_readNumber_0 : decode cX2_readNumber 0 = .ok (.aload_n 0, 1) := by decide +kernel
theorem dX2_readNumber_1 : decode cX2_readNumber 1 = .ok (.invokevirtual 54, 3) := by decide +kernel
theorem dX2_readNumber_4 : decode cX2_readNumber 4 = .ok (.istore 5, 2) := by decide +kernel
theorem dX2_readNumber_6 : decode cX2_readNumber 6 = .ok (.iload 5, 2) := by decide +kernel
theorem dX2_readNumber_8 : decode cX2_readNumber 8 = .ok (.iload_n 3, 1) := by decide +kernel
theorem dX2_readNumber_9 : decode cX2_readNumber 9 = .ok (.if_icmp .lt 20, 3) := by decide +kernel
theorem dX2_readNumber_12 : decode cX2_readNumber 12 = .ok (.iload 5, 2) := by decide +kernel
theorem dX2_readNumber_14 : decode cX2_readNumber 14 = .ok (.iload 4, 2) := by decide +kernel
theorem dX2_readNumber_16 : decode cX2_readNumber 16 = .ok (.if_icmp .gt 13, 3) := by decide +kernel
theorem dX2_readNumber_19 : decode cX2_readNumber 19 = .ok (.iload_n 2, 1) := by decide +kernel
theorem dX2_readNumber_20 : decode cX2_readNumber 20 = .ok (.ifCond .lt 9, 3) := by decide +kernel
theorem dX2_readNumber_23 : decode cX2_readNumber 23 = .ok (.iload_n 2, 1) := by decide +kernel
theorem dX2_readNumber_24 : decode cX2_readNumber 24 = .ok (.aload_n 1, 1) := by decide +kernel
theorem dX2_readNumber_25 : decode cX2_readNumber 25 = .ok (.arraylength, 1) := by decide +kernel
theorem dX2_readNumber_26 : decode cX2_readNumber 26 = .ok (.if_icmp .lt 5, 3) := by decide +kernel
theorem dX2_readNumber_29 : decode cX2_readNumber 29 = .ok (.iconst 0, 1) := by decide +kernel
theorem dX2_readNumber_30 : decode cX2_readNumber 30 = .ok (.ireturn, 1) := by decide +kernel
theorem dX2_readNumber_31 : decode cX2_readNumber 31 = .ok (.aload_n 0, 1) := by decide +kernel
theorem dX2_readNumber_32 : decode cX2_readNumber 32 = .ok (.dup, 1) := by decide +kernel
theorem dX2_readNumber_33 : decode cX2_readNumber 33 = .ok (.getfield 19, 3) := by decide +kernel
theorem dX2_readNumber_36 : decode cX2_readNumber 36 = .ok (.iconst 1, 1) := by decide +kernel
theorem dX2_readNumber_37 : decode cX2_readNumber 37 = .ok (.iadd, 1) := by decide +kernel
theorem dX2_readNumber_38 : decode cX2_readNumber 38 = .ok (.putfield 19, 3) := by decide +kernel
theorem dX2_readNumber_41 : decode cX2_readNumber 41 = .ok (.aload_n 0, 1) := by decide +kernel
theorem dX2_readNumber_42 : decode cX2_readNumber 42 = .ok (.invokevirtual 54, 3) := by decide +kernel
theorem dX2_readNumber_45 : decode cX2_readNumber 45 = .ok (.istore 6, 2) := by decide +kernel
theorem dX2_readNumber_47 : decode cX2_readNumber 47 = .ok (.iload 5, 2) := by decide +kernel
theorem dX2_readNumber_49 : decode cX2_readNumber 49 = .ok (.ifCond .le 41, 3) := by decide +kernel
theorem dX2_readNumber_52 : decode cX2_readNumber 52 = .ok (.iload 6, 2) := by decide +kernel
theorem dX2_readNumber_54 : decode cX2_readNumber 54 = .ok (.ifCond .lt 36, 3) := by decide +kernel
theorem dX2_readNumber_57 : decode cX2_readNumber 57 = .ok (.iload 5, 2) := by decide +kernel
theorem dX2_readNumber_59 : decode cX2_readNumber 59 = .ok (.bipush 10, 2) := by decide +kernel
theorem dX2_readNumber_61 : decode cX2_readNumber 61 = .ok (.imul, 1) := by decide +kernel
theorem dX2_readNumber_62 : decode cX2_readNumber 62 = .ok (.iload 6, 2) := by decide +kernel
theorem dX2_readNumber_64 : decode cX2_readNumber 64 = .ok (.iadd, 1) := by decide +kernel
theorem dX2_readNumber_65 : decode cX2_readNumber 65 = .ok (.iload 4, 2) := by decide +kernel
theorem dX2_readNumber_67 : decode cX2_readNumber 67 = .ok (.if_icmp .gt 23, 3) := by decide +kernel
theorem dX2_readNumber_70 : decode cX2_readNumber 70 = .ok (.iload 5, 2) := by decide +kernel
theorem dX2_readNumber_72 : decode cX2_readNumber 72 = .ok (.bipush 10, 2) := by decide +kernel
theorem dX2_readNumber_74 : decode cX2_readNumber 74 = .ok (.imul, 1) := by decide +kernel
theorem dX2_readNumber_75 : decode cX2_readNumber 75 = .ok (.iload 6, 2) := by decide +kernel
theorem dX2_readNumber_77 : decode cX2_readNumber 77 = .ok (.iadd, 1) := by decide +kernel
theorem dX2_readNumber_78 : decode cX2_readNumber 78 = .ok (.istore 5, 2) := by decide +kernel
theorem dX2_readNumber_80 : decode cX2_readNumber 80 = .ok (.aload_n 0, 1) := by decide +kernel
theorem dX2_readNumber_81 : decode cX2_readNumber 81 = .ok (.dup, 1) := by decide +kernel
theorem dX2_readNumber_82 : decode cX2_readNumber 82 = .ok (.getfield 19, 3) := by decide +kernel
theorem dX2_readNumber_85 : decode cX2_readNumber 85 = .ok (.iconst 1, 1) := by decide +kernel
theorem dX2_readNumber_86 : decode cX2_readNumber 86 = .ok (.iadd, 1) := by decide +kernel
theorem dX2_readNumber_87 : decode cX2_readNumber 87 = .ok (.putfield 19, 3) := by decide +kernel
theorem dX2_readNumber_90 : decode cX2_readNumber 90 = .ok (.aload_n 1, 1) := by decide +kernel
theorem dX2_readNumber_91 : decode cX2_readNumber 91 = .ok (.iload_n 2, 1) := by decide +kernel
theorem dX2_readNumber_92 : decode cX2_readNumber 92 = .ok (.iload 5, 2) := by decide +kernel
theorem dX2_readNumber_94 : decode cX2_readNumber 94 = .ok (.iastore, 1) := by decide +kernel
theorem dX2_readNumber_95 : decode cX2_readNumber 95 = .ok (.iconst 1, 1) := by decide +kernel
theorem dX2_readNumber_96 : decode cX2_readNumber 96 = .ok (.ireturn, 1) := by decide +kernel
theorem dX2_signHere_0 : decode cX2_signHere 0 = .ok (.aload_n 0, 1) := by decide +kernel
theorem dX2_signHere_1 : decode cX2_signHere 1 = .ok (.getfield 19, 3) := by decide +kernel
theorem dX2_signHere_4 : decode cX2_signHere 4 = .ok (.ifCond .lt 35, 3) := by decide +kernel
theorem dX2_signHere_7 : decode cX2_signHere 7 = .ok (.aload_n 0, 1) := by decide +kernel
theorem dX2_signHere_8 : decode cX2_signHere 8 = .ok (.getfield 19, 3) := by decide +kernel
theorem dX2_signHere_11 : decode cX2_signHere 11 = .ok (.aload_n 0, 1) := by decide +kernel
theorem dX2_signHere_12 : decode cX2_signHere 12 = .ok (.getfield 15, 3) := by decide +kernel
theorem dX2_signHere_15 : decode cX2_signHere 15 = .ok (.if_icmp .ge 24, 3) := by decide +kernel
theorem dX2_signHere_18 : decode cX2_signHere 18 = .ok (.aload_n 0, 1) := by decide +kernel
theorem dX2_signHere_19 : decode cX2_signHere 19 = .ok (.getfield 19, 3) := by decide +kernel
theorem dX2_signHere_22 : decode cX2_signHere 22 = .ok (.bipush 60, 2) := by decide +kernel
theorem dX2_signHere_24 : decode cX2_signHere 24 = .ok (.if_icmp .ge 15, 3) := by decide +kernel
theorem dX2_signHere_27 : decode cX2_signHere 27 = .ok (.aload_n 0, 1) := by decide +kernel
theorem dX2_signHere_28 : decode cX2_signHere 28 = .ok (.getfield 9, 3) := by decide +kernel
theorem dX2_signHere_31 : decode cX2_signHere 31 = .ok (.aload_n 0, 1) := by decide +kernel
theorem dX2_signHere_32 : decode cX2_signHere 32 = .ok (.getfield 19, 3) := by decide +kernel
theorem dX2_signHere_35 : decode cX2_signHere 35 = .ok (.caload, 1) := by decide +kernel
theorem dX2_signHere_36 : decode cX2_signHere 36 = .ok (.goto 4, 3) := by decide +kernel
theorem dX2_signHere_39 : decode cX2_signHere 39 = .ok (.iconst (-1), 1) := by decide +kernel
theorem dX2_signHere_40 : decode cX2_signHere 40 = .ok (.ireturn, 1) := by decide +kernel
theorem dX2_digitHere_0 : decode cX2_digitHere 0 = .ok (.aload_n 0, 1) := by decide +kernel
theorem dX2_digitHere_1 : decode cX2_digitHere 1 = .ok (.invokevirtual 46, 3) := by decide +kernel
theorem dX2_digitHere_4 : decode cX2_digitHere 4 = .ok (.istore_n 1, 1) := by decide +kernel
theorem dX2_digitHere_5 : decode cX2_digitHere 5 = .ok (.iload_n 1, 1) := by decide +kernel
theorem dX2_digitHere_6 : decode cX2_digitHere 6 = .ok (.bipush 48, 2) := by decide +kernel
theorem dX2_digitHere_8 : decode cX2_digitHere 8 = .ok (.if_icmp .lt 16, 3) := by decide +kernel
theorem dX2_digitHere_11 : decode cX2_digitHere 11 = .ok (.iload_n 1, 1) := by decide +kernel
theorem dX2_digitHere_12 : decode cX2_digitHere 12 = .ok (.bipush 57, 2) := by decide +kernel
theorem dX2_digitHere_14 : decode cX2_digitHere 14 = .ok (.if_icmp .gt 10, 3) := by decide +kernel
theorem dX2_digitHere_17 : decode cX2_digitHere 17 = .ok (.iload_n 1, 1) := by decide +kernel
theorem dX2_digitHere_18 : decode cX2_digitHere 18 = .ok (.bipush 48, 2) := by decide +kernel
theorem dX2_digitHere_20 : decode cX2_digitHere 20 = .ok (.isub, 1) := by decide +kernel
theorem dX2_digitHere_21 : decode cX2_digitHere 21 = .ok (.goto 4, 3) := by decide +kernel
theorem dX2_digitHere_24 : decode cX2_digitHere 24 = .ok (.iconst (-1), 1) := by decide +kernel
theorem dX2_digitHere_25 : decode cX2_digitHere 25 = .ok (.ireturn, 1) := by decide +kernel
theorem dX3_init_0 : decode cX3_init 0 = .ok (.aload_n 0, 1) := by decide +kernel
theorem dX3_init_1 : decode cX3_init 1 = .ok (.invokespecial 3, 3) := by decide +kernel
theorem dX3_init_4 : decode cX3_init 4 = .ok (.aload_n 0, 1) := by decide +kernel
theorem dX3_init_5 : decode cX3_init 5 = .ok (.bipush 120, 2) := by decide +kernel
theorem dX3_init_7 : decode cX3_init 7 = .ok (.newarray .int, 2) := by decide +kernel
theorem dX3_init_9 : decode cX3_init 9 = .ok (.putfield 9, 3) := by decide +kernel
theorem dX3_init_12 : decode cX3_init 12 = .ok (.aload_n 0, 1) := by decide +kernel
theorem dX3_init_13 : decode cX3_init 13 = .ok (.bipush 120, 2) := by decide +kernel
theorem dX3_init_15 : decode cX3_init 15 = .ok (.newarray .int, 2) := by decide +kernel
theorem dX3_init_17 : decode cX3_init 17 = .ok (.putfield 15, 3) := by decide +kernel
theorem dX3_init_20 : decode cX3_init 20 = .ok (.return_, 1) := by decide +kernel
theorem dX3_fromRimDown_0 : decode cX3_fromRimDown 0 = .ok (.iload_n 2, 1) := by decide +kernel
theorem dX3_fromRimDown_1 : decode cX3_fromRimDown 1 = .ok (.iload_n 3, 1) := by decide +kernel
theorem dX3_fromRimDown_2 : decode cX3_fromRimDown 2 = .ok (.invokestatic 18, 3) := by decide +kernel
theorem dX3_fromRimDown_5 : decode cX3_fromRimDown 5 = .ok (.istore 4, 2) := by decide +kernel
theorem dX3_fromRimDown_7 : decode cX3_fromRimDown 7 = .ok (.iload 4, 2) := by decide +kernel
theorem dX3_fromRimDown_9 : decode cX3_fromRimDown 9 = .ok (.iconst (-1), 1) := by decide +kernel
theorem dX3_fromRimDown_10 : decode cX3_fromRimDown 10 = .ok (.if_icmp .ne 5, 3) := by decide +kernel
theorem dX3_fromRimDown_13 : decode cX3_fromRimDown 13 = .ok (.iconst (-1), 1) := by decide +kernel
theorem dX3_fromRimDown_14 : decode cX3_fromRimDown 14 = .ok (.ireturn, 1) := by decide +kernel
theorem dX3_fromRimDown_15 : decode cX3_fromRimDown 15 = .ok (.bipush 119, 2) := by decide +kernel
theorem dX3_fromRimDown_17 : decode cX3_fromRimDown 17 = .ok (.istore 5, 2) := by decide +kernel
theorem dX3_fromRimDown_19 : decode cX3_fromRimDown 19 = .ok (.iload 5, 2) := by decide +kernel
theorem dX3_fromRimDown_21 : decode cX3_fromRimDown 21 = .ok (.iload_n 3, 1) := by decide +kernel
theorem dX3_fromRimDown_22 : decode cX3_fromRimDown 22 = .ok (.bipush 6, 2) := by decide +kernel
theorem dX3_fromRimDown_24 : decode cX3_fromRimDown 24 = .ok (.imul, 1) := by decide +kernel
theorem dX3_fromRimDown_25 : decode cX3_fromRimDown 25 = .ok (.if_icmp .lt 46, 3) := by decide +kernel
theorem dX3_fromRimDown_28 : decode cX3_fromRimDown 28 = .ok (.iload 5, 2) := by decide +kernel
theorem dX3_fromRimDown_30 : decode cX3_fromRimDown 30 = .ok (.bipush 6, 2) := by decide +kernel
theorem dX3_fromRimDown_32 : decode cX3_fromRimDown 32 = .ok (.idiv, 1) := by decide +kernel
theorem dX3_fromRimDown_33 : decode cX3_fromRimDown 33 = .ok (.istore 6, 2) := by decide +kernel
theorem dX3_fromRimDown_35 : decode cX3_fromRimDown 35 = .ok (.aload_n 0, 1) := by decide +kernel
theorem dX3_fromRimDown_36 : decode cX3_fromRimDown 36 = .ok (.getfield 9, 3) := by decide +kernel
theorem dX3_fromRimDown_39 : decode cX3_fromRimDown 39 = .ok (.iload 5, 2) := by decide +kernel
theorem dX3_fromRimDown_41 : decode cX3_fromRimDown 41 = .ok (.iload 6, 2) := by decide +kernel
theorem dX3_fromRimDown_43 : decode cX3_fromRimDown 43 = .ok (.bipush 19, 2) := by decide +kernel
theorem dX3_fromRimDown_45 : decode cX3_fromRimDown 45 = .ok (.if_icmp .ne 7, 3) := by decide +kernel
theorem dX3_fromRimDown_48 : decode cX3_fromRimDown 48 = .ok (.iconst 0, 1) := by decide +kernel
theorem dX3_fromRimDown_49 : decode cX3_fromRimDown 49 = .ok (.goto 15, 3) := by decide +kernel
theorem dX3_fromRimDown_52 : decode cX3_fromRimDown 52 = .ok (.aload_n 0, 1) := by decide +kernel
theorem dX3_fromRimDown_53 : decode cX3_fromRimDown 53 = .ok (.aload_n 1, 1) := by decide +kernel
theorem dX3_fromRimDown_54 : decode cX3_fromRimDown 54 = .ok (.iload 5, 2) := by decide +kernel
theorem dX3_fromRimDown_56 : decode cX3_fromRimDown 56 = .ok (.bipush 6, 2) := by decide +kernel
theorem dX3_fromRimDown_58 : decode cX3_fromRimDown 58 = .ok (.irem, 1) := by decide +kernel
theorem dX3_fromRimDown_59 : decode cX3_fromRimDown 59 = .ok (.iload 6, 2) := by decide +kernel
theorem dX3_fromRimDown_61 : decode cX3_fromRimDown 61 = .ok (.invokevirtual 22, 3) := by decide +kernel
theorem dX3_fromRimDown_64 : decode cX3_fromRimDown 64 = .ok (.iastore, 1) := by decide +kernel
theorem dX3_fromRimDown_65 : decode cX3_fromRimDown 65 = .ok (.iinc 5 (-1), 3) := by decide +kernel
theorem dX3_fromRimDown_68 : decode cX3_fromRimDown 68 = .ok (.goto (-49), 3) := by decide +kernel
theorem dX3_fromRimDown_71 : decode cX3_fromRimDown 71 = .ok (.aload_n 0, 1) := by decide +kernel
theorem dX3_fromRimDown_72 : decode cX3_fromRimDown 72 = .ok (.getfield 9, 3) := by decide +kernel
theorem dX3_fromRimDown_75 : decode cX3_fromRimDown 75 = .ok (.iload 4, 2) := by decide +kernel
theorem dX3_fromRimDown_77 : decode cX3_fromRimDown 77 = .ok (.iaload, 1) := by decide +kernel
theorem dX3_fromRimDown_78 : decode cX3_fromRimDown 78 = .ok (.ireturn, 1) := by decide +kernel
theorem dX3_leastAbove_0 : decode cX3_leastAbove 0 = .ok (.ldc 26, 2) := by decide +kernel
theorem dX3_leastAbove_2 : decode cX3_leastAbove 2 = .ok (.istore 4, 2) := by decide +kernel
theorem dX3_leastAbove_4 : decode cX3_leastAbove 4 = .ok (.getstatic 27, 3) := by decide +kernel
theorem dX3_leastAbove_7 : decode cX3_leastAbove 7 = .ok (.astore 5, 2) := by decide +kernel
theorem dX3_leastAbove_9 : decode cX3_leastAbove 9 = .ok (.aload 5, 2) := by decide +kernel
theorem dX3_leastAbove_11 : decode cX3_leastAbove 11 = .ok (.arraylength, 1) := by decide +kernel
theorem dX3_leastAbove_12 : decode cX3_leastAbove 12 = .ok (.istore 6, 2) := by decide +kernel
theorem dX3_leastAbove_14 : decode cX3_leastAbove 14 = .ok (.iconst 0, 1) := by decide +kernel
theorem dX3_leastAbove_15 : decode cX3_leastAbove 15 = .ok (.istore 7, 2) := by decide +kernel
theorem dX3_leastAbove_17 : decode cX3_leastAbove 17 = .ok (.iload 7, 2) := by decide +kernel
theorem dX3_leastAbove_19 : decode cX3_leastAbove 19 = .ok (.iload 6, 2) := by decide +kernel
theorem dX3_leastAbove_21 : decode cX3_leastAbove 21 = .ok (.if_icmp .ge 55, 3) := by decide +kernel
theorem dX3_leastAbove_24 : decode cX3_leastAbove 24 = .ok (.aload 5, 2) := by decide +kernel
theorem dX3_leastAbove_26 : decode cX3_leastAbove 26 = .ok (.iload 7, 2) := by decide +kernel
theorem dX3_leastAbove_28 : decode cX3_leastAbove 28 = .ok (.iaload, 1) := by decide +kernel
theorem dX3_leastAbove_29 : decode cX3_leastAbove 29 = .ok (.istore 8, 2) := by decide +kernel
theorem dX3_leastAbove_31 : decode cX3_leastAbove 31 = .ok (.iload_n 2, 1) := by decide +kernel
theorem dX3_leastAbove_32 : decode cX3_leastAbove 32 = .ok (.iload 8, 2) := by decide +kernel
theorem dX3_leastAbove_34 : decode cX3_leastAbove 34 = .ok (.iadd, 1) := by decide +kernel
theorem dX3_leastAbove_35 : decode cX3_leastAbove 35 = .ok (.iload_n 3, 1) := by decide +kernel
theorem dX3_leastAbove_36 : decode cX3_leastAbove 36 = .ok (.iconst 1, 1) := by decide +kernel
theorem dX3_leastAbove_37 : decode cX3_leastAbove 37 = .ok (.iadd, 1) := by decide +kernel
theorem dX3_leastAbove_38 : decode cX3_leastAbove 38 = .ok (.invokestatic 18, 3) := by decide +kernel
theorem dX3_leastAbove_41 : decode cX3_leastAbove 41 = .ok (.istore 9, 2) := by decide +kernel
theorem dX3_leastAbove_43 : decode cX3_leastAbove 43 = .ok (.iload 9, 2) := by decide +kernel
theorem dX3_leastAbove_45 : decode cX3_leastAbove 45 = .ok (.iconst (-1), 1) := by decide +kernel
theorem dX3_leastAbove_46 : decode cX3_leastAbove 46 = .ok (.if_icmp .eq 24, 3) := by decide +kernel
theorem dX3_leastAbove_49 : decode cX3_leastAbove 49 = .ok (.iload 4, 2) := by decide +kernel
theorem dX3_leastAbove_51 : decode cX3_leastAbove 51 = .ok (.aload_n 1, 1) := by decide +kernel
theorem dX3_leastAbove_52 : decode cX3_leastAbove 52 = .ok (.iload 9, 2) := by decide +kernel
theorem dX3_leastAbove_54 : decode cX3_leastAbove 54 = .ok (.invokevirtual 30, 3) := by decide +kernel
theorem dX3_leastAbove_57 : decode cX3_leastAbove 57 = .ok (.aload_n 0, 1) := by decide +kernel
theorem dX3_leastAbove_58 : decode cX3_leastAbove 58 = .ok (.getfield 9, 3) := by decide +kernel
theorem dX3_leastAbove_61 : decode cX3_leastAbove 61 = .ok (.iload 9, 2) := by decide +kernel
theorem dX3_leastAbove_63 : decode cX3_leastAbove 63 = .ok (.iaload, 1) := by decide +kernel
theorem dX3_leastAbove_64 : decode cX3_leastAbove 64 = .ok (.iadd, 1) := by decide +kernel
theorem dX3_leastAbove_65 : decode cX3_leastAbove 65 = .ok (.invokestatic 36, 3) := by decide +kernel
theorem dX3_leastAbove_68 : decode cX3_leastAbove 68 = .ok (.istore 4, 2) := by decide +kernel
theorem dX3_leastAbove_70 : decode cX3_leastAbove 70 = .ok (.iinc 7 1, 3) := by decide +kernel
theorem dX3_leastAbove_73 : decode cX3_leastAbove 73 = .ok (.goto (-56), 3) := by decide +kernel
theorem dX3_leastAbove_76 : decode cX3_leastAbove 76 = .ok (.iload 4, 2) := by decide +kernel
theorem dX3_leastAbove_78 : decode cX3_leastAbove 78 = .ok (.ireturn, 1) := by decide +kernel
theorem dX3_leastSumFirst_0 : decode cX3_leastSumFirst 0 = .ok (.aload_n 0, 1) := by decide +kernel
theorem dX3_leastSumFirst_1 : decode cX3_leastSumFirst 1 = .ok (.getfield 9, 3) := by decide +kernel
theorem dX3_leastSumFirst_4 : decode cX3_leastSumFirst 4 = .ok (.ldc 26, 2) := by decide +kernel
theorem dX3_leastSumFirst_6 : decode cX3_leastSumFirst 6 = .ok (.invokestatic 41, 3) := by decide +kernel
theorem dX3_leastSumFirst_9 : decode cX3_leastSumFirst 9 = .ok (.aload_n 0, 1) := by decide +kernel
theorem dX3_leastSumFirst_10 : decode cX3_leastSumFirst 10 = .ok (.getfield 15, 3) := by decide +kernel
theorem dX3_leastSumFirst_13 : decode cX3_leastSumFirst 13 = .ok (.iconst 0, 1) := by decide +kernel
theorem dX3_leastSumFirst_14 : decode cX3_leastSumFirst 14 = .ok (.invokestatic 41, 3) := by decide +kernel
theorem dX3_leastSumFirst_17 : decode cX3_leastSumFirst 17 = .ok (.iload_n 2, 1) := by decide +kernel
theorem dX3_leastSumFirst_18 : decode cX3_leastSumFirst 18 = .ok (.iload_n 3, 1) := by decide +kernel
theorem dX3_leastSumFirst_19 : decode cX3_leastSumFirst 19 = .ok (.invokestatic 18, 3) := by decide +kernel
theorem dX3_leastSumFirst_22 : decode cX3_leastSumFirst 22 = .ok (.istore 4, 2) := by decide +kernel
theorem dX3_leastSumFirst_24 : decode cX3_leastSumFirst 24 = .ok (.iload 4, 2) := by decide +kernel
theorem dX3_leastSumFirst_26 : decode cX3_leastSumFirst 26 = .ok (.iconst (-1), 1) := by decide +kernel
theorem dX3_leastSumFirst_27 : decode cX3_leastSumFirst 27 = .ok (.if_icmp .ne 5, 3) := by decide +kernel
theorem dX3_leastSumFirst_30 : decode cX3_leastSumFirst 30 = .ok (.iconst (-1), 1) := by decide +kernel
theorem dX3_leastSumFirst_31 : decode cX3_leastSumFirst 31 = .ok (.ireturn, 1) := by decide +kernel
theorem dX3_leastSumFirst_32 : decode cX3_leastSumFirst 32 = .ok (.aload_n 0, 1) := by decide +kernel
theorem dX3_leastSumFirst_33 : decode cX3_leastSumFirst 33 = .ok (.getfield 9, 3) := by decide +kernel
theorem dX3_leastSumFirst_36 : decode cX3_leastSumFirst 36 = .ok (.iload 4, 2) := by decide +kernel
theorem dX3_leastSumFirst_38 : decode cX3_leastSumFirst 38 = .ok (.iconst 0, 1) := by decide +kernel
theorem dX3_leastSumFirst_39 : decode cX3_leastSumFirst 39 = .ok (.iastore, 1) := by decide +kernel
theorem dX3_leastSumFirst_40 : decode cX3_leastSumFirst 40 = .ok (.iconst 0, 1) := by decide +kernel
theorem dX3_leastSumFirst_41 : decode cX3_leastSumFirst 41 = .ok (.istore 5, 2) := by decide +kernel
theorem dX3_leastSumFirst_43 : decode cX3_leastSumFirst 43 = .ok (.iload 5, 2) := by decide +kernel
theorem dX3_leastSumFirst_45 : decode cX3_leastSumFirst 45 = .ok (.bipush 120, 2) := by decide +kernel
theorem dX3_leastSumFirst_47 : decode cX3_leastSumFirst 47 = .ok (.if_icmp .ge 65, 3) := by decide +kernel
theorem dX3_leastSumFirst_50 : decode cX3_leastSumFirst 50 = .ok (.aload_n 0, 1) := by decide +kernel
theorem dX3_leastSumFirst_51 : decode cX3_leastSumFirst 51 = .ok (.invokevirtual 47, 3) := by decide +kernel
theorem dX3_leastSumFirst_54 : decode cX3_leastSumFirst 54 = .ok (.istore 6, 2) := by decide +kernel
theorem dX3_leastSumFirst_56 : decode cX3_leastSumFirst 56 = .ok (.iload 6, 2) := by decide +kernel
theorem dX3_leastSumFirst_58 : decode cX3_leastSumFirst 58 = .ok (.iconst (-1), 1) := by decide +kernel
theorem dX3_leastSumFirst_59 : decode cX3_leastSumFirst 59 = .ok (.if_icmp .eq 13, 3) := by decide +kernel
theorem dX3_leastSumFirst_62 : decode cX3_leastSumFirst 62 = .ok (.iload 6, 2) := by decide +kernel
theorem dX3_leastSumFirst_64 : decode cX3_leastSumFirst 64 = .ok (.bipush 6, 2) := by decide +kernel
theorem dX3_leastSumFirst_66 : decode cX3_leastSumFirst 66 = .ok (.idiv, 1) := by decide +kernel
theorem dX3_leastSumFirst_67 : decode cX3_leastSumFirst 67 = .ok (.bipush 19, 2) := by decide +kernel
theorem dX3_leastSumFirst_69 : decode cX3_leastSumFirst 69 = .ok (.if_icmp .ne 22, 3) := by decide +kernel
theorem dX3_leastSumFirst_72 : decode cX3_leastSumFirst 72 = .ok (.iload 6, 2) := by decide +kernel
theorem dX3_leastSumFirst_74 : decode cX3_leastSumFirst 74 = .ok (.iconst (-1), 1) := by decide +kernel
theorem dX3_leastSumFirst_75 : decode cX3_leastSumFirst 75 = .ok (.if_icmp .ne 8, 3) := by decide +kernel
theorem dX3_leastSumFirst_78 : decode cX3_leastSumFirst 78 = .ok (.bipush (-5), 2) := by decide +kernel
theorem dX3_leastSumFirst_80 : decode cX3_leastSumFirst 80 = .ok (.goto 10, 3) := by decide +kernel
theorem dX3_leastSumFirst_83 : decode cX3_leastSumFirst 83 = .ok (.aload_n 0, 1) := by decide +kernel
theorem dX3_leastSumFirst_84 : decode cX3_leastSumFirst 84 = .ok (.getfield 9, 3) := by decide +kernel
theorem dX3_leastSumFirst_87 : decode cX3_leastSumFirst 87 = .ok (.iload 6, 2) := by decide +kernel
theorem dX3_leastSumFirst_89 : decode cX3_leastSumFirst 89 = .ok (.iaload, 1) := by decide +kernel
theorem dX3_leastSumFirst_90 : decode cX3_leastSumFirst 90 = .ok (.ireturn, 1) := by decide +kernel
theorem dX3_leastSumFirst_91 : decode cX3_leastSumFirst 91 = .ok (.aload_n 0, 1) := by decide +kernel
theorem dX3_leastSumFirst_92 : decode cX3_leastSumFirst 92 = .ok (.getfield 15, 3) := by decide +kernel
theorem dX3_leastSumFirst_95 : decode cX3_leastSumFirst 95 = .ok (.iload 6, 2) := by decide +kernel
theorem dX3_leastSumFirst_97 : decode cX3_leastSumFirst 97 = .ok (.iconst 1, 1) := by decide +kernel
theorem dX3_leastSumFirst_98 : decode cX3_leastSumFirst 98 = .ok (.iastore, 1) := by decide +kernel
theorem dX3_leastSumFirst_99 : decode cX3_leastSumFirst 99 = .ok (.aload_n 0, 1) := by decide +kernel
theorem dX3_leastSumFirst_100 : decode cX3_leastSumFirst 100 = .ok (.aload_n 1, 1) := by decide +kernel
theorem dX3_leastSumFirst_101 : decode cX3_leastSumFirst 101 = .ok (.iload 6, 2) := by decide +kernel
theorem dX3_leastSumFirst_103 : decode cX3_leastSumFirst 103 = .ok (.invokevirtual 51, 3) := by decide +kernel
theorem dX3_leastSumFirst_106 : decode cX3_leastSumFirst 106 = .ok (.iinc 5 1, 3) := by decide +kernel
theorem dX3_leastSumFirst_109 : decode cX3_leastSumFirst 109 = .ok (.goto (-66), 3) := by decide +kernel
theorem dX3_leastSumFirst_112 : decode cX3_leastSumFirst 112 = .ok (.bipush (-5), 2) := by decide +kernel
theorem dX3_leastSumFirst_114 : decode cX3_leastSumFirst 114 = .ok (.ireturn, 1) := by decide +kernel
theorem dX3_nearest_0 : decode cX3_nearest 0 = .ok (.iconst (-1), 1) := by decide +kernel
theorem dX3_nearest_1 : decode cX3_nearest 1 = .ok (.istore_n 1, 1) := by decide +kernel
theorem dX3_nearest_2 : decode cX3_nearest 2 = .ok (.ldc 26, 2) := by decide +kernel
theorem dX3_nearest_4 : decode cX3_nearest 4 = .ok (.istore_n 2, 1) := by decide +kernel
theorem dX3_nearest_5 : decode cX3_nearest 5 = .ok (.iconst 0, 1) := by decide +kernel
theorem dX3_nearest_6 : decode cX3_nearest 6 = .ok (.istore_n 3, 1) := by decide +kernel
theorem dX3_nearest_7 : decode cX3_nearest 7 = .ok (.iload_n 3, 1) := by decide +kernel
theorem dX3_nearest_8 : decode cX3_nearest 8 = .ok (.bipush 120, 2) := by decide +kernel
theorem dX3_nearest_10 : decode cX3_nearest 10 = .ok (.if_icmp .ge 37, 3) := by decide +kernel
theorem dX3_nearest_13 : decode cX3_nearest 13 = .ok (.aload_n 0, 1) := by decide +kernel
theorem dX3_nearest_14 : decode cX3_nearest 14 = .ok (.getfield 15, 3) := by decide +kernel
theorem dX3_nearest_17 : decode cX3_nearest 17 = .ok (.iload_n 3, 1) := by decide +kernel
theorem dX3_nearest_18 : decode cX3_nearest 18 = .ok (.iaload, 1) := by decide +kernel
theorem dX3_nearest_19 : decode cX3_nearest 19 = .ok (.ifCond .ne 22, 3) := by decide +kernel
theorem dX3_nearest_22 : decode cX3_nearest 22 = .ok (.aload_n 0, 1) := by decide +kernel
theorem dX3_nearest_23 : decode cX3_nearest 23 = .ok (.getfield 9, 3) := by decide +kernel
theorem dX3_nearest_26 : decode cX3_nearest 26 = .ok (.iload_n 3, 1) := by decide +kernel
theorem dX3_nearest_27 : decode cX3_nearest 27 = .ok (.iaload, 1) := by decide +kernel
theorem dX3_nearest_28 : decode cX3_nearest 28 = .ok (.iload_n 2, 1) := by decide +kernel
theorem dX3_nearest_29 : decode cX3_nearest 29 = .ok (.if_icmp .ge 12, 3) := by decide +kernel
theorem dX3_nearest_32 : decode cX3_nearest 32 = .ok (.iload_n 3, 1) := by decide +kernel
theorem dX3_nearest_33 : decode cX3_nearest 33 = .ok (.istore_n 1, 1) := by decide +kernel
theorem dX3_nearest_34 : decode cX3_nearest 34 = .ok (.aload_n 0, 1) := by decide +kernel
theorem dX3_nearest_35 : decode cX3_nearest 35 = .ok (.getfield 9, 3) := by decide +kernel
theorem dX3_nearest_38 : decode cX3_nearest 38 = .ok (.iload_n 3, 1) := by decide +kernel
theorem dX3_nearest_39 : decode cX3_nearest 39 = .ok (.iaload, 1) := by decide +kernel
theorem dX3_nearest_40 : decode cX3_nearest 40 = .ok (.istore_n 2, 1) := by decide +kernel
theorem dX3_nearest_41 : decode cX3_nearest 41 = .ok (.iinc 3 1, 3) := by decide +kernel
theorem dX3_nearest_44 : decode cX3_nearest 44 = .ok (.goto (-37), 3) := by decide +kernel
theorem dX3_nearest_47 : decode cX3_nearest 47 = .ok (.iload_n 1, 1) := by decide +kernel
theorem dX3_nearest_48 : decode cX3_nearest 48 = .ok (.ireturn, 1) := by decide +kernel
theorem dX3_reachAbove_0 : decode cX3_reachAbove 0 = .ok (.getstatic 27, 3) := by decide +kernel
theorem dX3_reachAbove_3 : decode cX3_reachAbove 3 = .ok (.astore_n 3, 1) := by decide +kernel
theorem dX3_reachAbove_4 : decode cX3_reachAbove 4 = .ok (.aload_n 3, 1) := by decide +kernel
theorem dX3_reachAbove_5 : decode cX3_reachAbove 5 = .ok (.arraylength, 1) := by decide +kernel
theorem dX3_reachAbove_6 : decode cX3_reachAbove 6 = .ok (.istore 4, 2) := by decide +kernel
theorem dX3_reachAbove_8 : decode cX3_reachAbove 8 = .ok (.iconst 0, 1) := by decide +kernel
theorem dX3_reachAbove_9 : decode cX3_reachAbove 9 = .ok (.istore 5, 2) := by decide +kernel
theorem dX3_reachAbove_11 : decode cX3_reachAbove 11 = .ok (.iload 5, 2) := by decide +kernel
theorem dX3_reachAbove_13 : decode cX3_reachAbove 13 = .ok (.iload 4, 2) := by decide +kernel
theorem dX3_reachAbove_15 : decode cX3_reachAbove 15 = .ok (.if_icmp .ge 69, 3) := by decide +kernel
theorem dX3_reachAbove_18 : decode cX3_reachAbove 18 = .ok (.aload_n 3, 1) := by decide +kernel
theorem dX3_reachAbove_19 : decode cX3_reachAbove 19 = .ok (.iload 5, 2) := by decide +kernel
theorem dX3_reachAbove_21 : decode cX3_reachAbove 21 = .ok (.iaload, 1) := by decide +kernel
theorem dX3_reachAbove_22 : decode cX3_reachAbove 22 = .ok (.istore 6, 2) := by decide +kernel
theorem dX3_reachAbove_24 : decode cX3_reachAbove 24 = .ok (.iload_n 2, 1) := by decide +kernel
theorem dX3_reachAbove_25 : decode cX3_reachAbove 25 = .ok (.bipush 6, 2) := by decide +kernel
theorem dX3_reachAbove_27 : decode cX3_reachAbove 27 = .ok (.irem, 1) := by decide +kernel
theorem dX3_reachAbove_28 : decode cX3_reachAbove 28 = .ok (.iload 6, 2) := by decide +kernel
theorem dX3_reachAbove_30 : decode cX3_reachAbove 30 = .ok (.iadd, 1) := by decide +kernel
theorem dX3_reachAbove_31 : decode cX3_reachAbove 31 = .ok (.iload_n 2, 1) := by decide +kernel
theorem dX3_reachAbove_32 : decode cX3_reachAbove 32 = .ok (.bipush 6, 2) := by decide +kernel
theorem dX3_reachAbove_34 : decode cX3_reachAbove 34 = .ok (.idiv, 1) := by decide +kernel
theorem dX3_reachAbove_35 : decode cX3_reachAbove 35 = .ok (.iconst 1, 1) := by decide +kernel
theorem dX3_reachAbove_36 : decode cX3_reachAbove 36 = .ok (.iadd, 1) := by decide +kernel
theorem dX3_reachAbove_37 : decode cX3_reachAbove 37 = .ok (.invokestatic 18, 3) := by decide +kernel
theorem dX3_reachAbove_40 : decode cX3_reachAbove 40 = .ok (.istore 7, 2) := by decide +kernel
theorem dX3_reachAbove_42 : decode cX3_reachAbove 42 = .ok (.iload 7, 2) := by decide +kernel
theorem dX3_reachAbove_44 : decode cX3_reachAbove 44 = .ok (.iconst (-1), 1) := by decide +kernel
theorem dX3_reachAbove_45 : decode cX3_reachAbove 45 = .ok (.if_icmp .eq 33, 3) := by decide +kernel
theorem dX3_reachAbove_48 : decode cX3_reachAbove 48 = .ok (.aload_n 0, 1) := by decide +kernel
theorem dX3_reachAbove_49 : decode cX3_reachAbove 49 = .ok (.getfield 9, 3) := by decide +kernel
theorem dX3_reachAbove_52 : decode cX3_reachAbove 52 = .ok (.iload 7, 2) := by decide +kernel
theorem dX3_reachAbove_54 : decode cX3_reachAbove 54 = .ok (.aload_n 0, 1) := by decide +kernel
theorem dX3_reachAbove_55 : decode cX3_reachAbove 55 = .ok (.getfield 9, 3) := by decide +kernel
theorem dX3_reachAbove_58 : decode cX3_reachAbove 58 = .ok (.iload 7, 2) := by decide +kernel
theorem dX3_reachAbove_60 : decode cX3_reachAbove 60 = .ok (.iaload, 1) := by decide +kernel
theorem dX3_reachAbove_61 : decode cX3_reachAbove 61 = .ok (.aload_n 0, 1) := by decide +kernel
theorem dX3_reachAbove_62 : decode cX3_reachAbove 62 = .ok (.getfield 9, 3) := by decide +kernel
theorem dX3_reachAbove_65 : decode cX3_reachAbove 65 = .ok (.iload_n 2, 1) := by decide +kernel
theorem dX3_reachAbove_66 : decode cX3_reachAbove 66 = .ok (.iaload, 1) := by decide +kernel
theorem dX3_reachAbove_67 : decode cX3_reachAbove 67 = .ok (.aload_n 1, 1) := by decide +kernel
theorem dX3_reachAbove_68 : decode cX3_reachAbove 68 = .ok (.iload 7, 2) := by decide +kernel
theorem dX3_reachAbove_70 : decode cX3_reachAbove 70 = .ok (.invokevirtual 30, 3) := by decide +kernel
theorem dX3_reachAbove_73 : decode cX3_reachAbove 73 = .ok (.iadd, 1) := by decide +kernel
theorem dX3_reachAbove_74 : decode cX3_reachAbove 74 = .ok (.invokestatic 36, 3) := by decide +kernel
theorem dX3_reachAbove_77 : decode cX3_reachAbove 77 = .ok (.iastore, 1) := by decide +kernel
theorem dX3_reachAbove_78 : decode cX3_reachAbove 78 = .ok (.iinc 5 1, 3) := by decide +kernel
theorem dX3_reachAbove_81 : decode cX3_reachAbove 81 = .ok (.goto (-70), 3) := by decide +kernel
theorem dX3_reachAbove_84 : decode cX3_reachAbove 84 = .ok (.return_, 1) := by decide +kernel
theorem dX4_init_0 : decode cX4_init 0 = .ok (.aload_n 0, 1) := by decide +kernel
theorem dX4_init_1 : decode cX4_init 1 = .ok (.invokespecial 3, 3) := by decide +kernel
theorem dX4_init_4 : decode cX4_init 4 = .ok (.aload_n 0, 1) := by decide +kernel
theorem dX4_init_5 : decode cX4_init 5 = .ok (.new 9, 3) := by decide +kernel
theorem dX4_init_8 : decode cX4_init 8 = .ok (.dup, 1) := by decide +kernel
theorem dX4_init_9 : decode cX4_init 9 = .ok (.invokespecial 11, 3) := by decide +kernel
theorem dX4_init_12 : decode cX4_init 12 = .ok (.putfield 12, 3) := by decide +kernel
theorem dX4_init_15 : decode cX4_init 15 = .ok (.aload_n 0, 1) := by decide +kernel
theorem dX4_init_16 : decode cX4_init 16 = .ok (.new 9, 3) := by decide +kernel
theorem dX4_init_19 : decode cX4_init 19 = .ok (.dup, 1) := by decide +kernel
theorem dX4_init_20 : decode cX4_init 20 = .ok (.invokespecial 11, 3) := by decide +kernel
theorem dX4_init_23 : decode cX4_init 23 = .ok (.putfield 16, 3) := by decide +kernel
theorem dX4_init_26 : decode cX4_init 26 = .ok (.aload_n 0, 1) := by decide +kernel
theorem dX4_init_27 : decode cX4_init 27 = .ok (.new 9, 3) := by decide +kernel
theorem dX4_init_30 : decode cX4_init 30 = .ok (.dup, 1) := by decide +kernel
theorem dX4_init_31 : decode cX4_init 31 = .ok (.invokespecial 11, 3) := by decide +kernel
theorem dX4_init_34 : decode cX4_init 34 = .ok (.putfield 19, 3) := by decide +kernel
theorem dX4_init_37 : decode cX4_init 37 = .ok (.aload_n 0, 1) := by decide +kernel
theorem dX4_init_38 : decode cX4_init 38 = .ok (.iconst 0, 1) := by decide +kernel
theorem dX4_init_39 : decode cX4_init 39 = .ok (.putfield 22, 3) := by decide +kernel
theorem dX4_init_42 : decode cX4_init 42 = .ok (.aload_n 0, 1) := by decide +kernel
theorem dX4_init_43 : decode cX4_init 43 = .ok (.new 26, 3) := by decide +kernel
theorem dX4_init_46 : decode cX4_init 46 = .ok (.dup, 1) := by decide +kernel
theorem dX4_init_47 : decode cX4_init 47 = .ok (.invokespecial 28, 3) := by decide +kernel
theorem dX4_init_50 : decode cX4_init 50 = .ok (.putfield 29, 3) := by decide +kernel
theorem dX4_init_53 : decode cX4_init 53 = .ok (.aload_n 0, 1) := by decide +kernel
theorem dX4_init_54 : decode cX4_init 54 = .ok (.new 33, 3) := by decide +kernel
theorem dX4_init_57 : decode cX4_init 57 = .ok (.dup, 1) := by decide +kernel
theorem dX4_init_58 : decode cX4_init 58 = .ok (.invokespecial 35, 3) := by decide +kernel
theorem dX4_init_61 : decode cX4_init 61 = .ok (.putfield 36, 3) := by decide +kernel
theorem dX4_init_64 : decode cX4_init 64 = .ok (.aload_n 0, 1) := by decide +kernel
theorem dX4_init_65 : decode cX4_init 65 = .ok (.new 40, 3) := by decide +kernel
theorem dX4_init_68 : decode cX4_init 68 = .ok (.dup, 1) := by decide +kernel
theorem dX4_init_69 : decode cX4_init 69 = .ok (.invokespecial 42, 3) := by decide +kernel
theorem dX4_init_72 : decode cX4_init 72 = .ok (.putfield 43, 3) := by decide +kernel
theorem dX4_init_75 : decode cX4_init 75 = .ok (.aload_n 0, 1) := by decide +kernel
theorem dX4_init_76 : decode cX4_init 76 = .ok (.bipush (-5), 2) := by decide +kernel
theorem dX4_init_78 : decode cX4_init 78 = .ok (.putfield 47, 3) := by decide +kernel
theorem dX4_init_81 : decode cX4_init 81 = .ok (.aload_n 0, 1) := by decide +kernel
theorem dX4_init_82 : decode cX4_init 82 = .ok (.bipush (-5), 2) := by decide +kernel
theorem dX4_init_84 : decode cX4_init 84 = .ok (.putfield 51, 3) := by decide +kernel
theorem dX4_init_87 : decode cX4_init 87 = .ok (.return_, 1) := by decide +kernel
theorem dX4_setSnail_0 : decode cX4_setSnail 0 = .ok (.aload_n 0, 1) := by decide +kernel
theorem dX4_setSnail_1 : decode cX4_setSnail 1 = .ok (.getfield 16, 3) := by decide +kernel
theorem dX4_setSnail_4 : decode cX4_setSnail 4 = .ok (.aload_n 0, 1) := by decide +kernel
theorem dX4_setSnail_5 : decode cX4_setSnail 5 = .ok (.getfield 12, 3) := by decide +kernel
theorem dX4_setSnail_8 : decode cX4_setSnail 8 = .ok (.invokevirtual 54, 3) := by decide +kernel
theorem dX4_setSnail_11 : decode cX4_setSnail 11 = .ok (.aload_n 0, 1) := by decide +kernel
theorem dX4_setSnail_12 : decode cX4_setSnail 12 = .ok (.aload_n 0, 1) := by decide +kernel
theorem dX4_setSnail_13 : decode cX4_setSnail 13 = .ok (.getfield 12, 3) := by decide +kernel
theorem dX4_setSnail_16 : decode cX4_setSnail 16 = .ok (.iload_n 1, 1) := by decide +kernel
theorem dX4_setSnail_17 : decode cX4_setSnail 17 = .ok (.iload_n 2, 1) := by decide +kernel
theorem dX4_setSnail_18 : decode cX4_setSnail 18 = .ok (.invokevirtual 58, 3) := by decide +kernel
theorem dX4_setSnail_21 : decode cX4_setSnail 21 = .ok (.invokevirtual 62, 3) := by decide +kernel
theorem dX4_setSnail_24 : decode cX4_setSnail 24 = .ok (.ireturn, 1) := by decide +kernel
theorem dX4_takeOff_0 : decode cX4_takeOff 0 = .ok (.aload_n 0, 1) := by decide +kernel
theorem dX4_takeOff_1 : decode cX4_takeOff 1 = .ok (.getfield 16, 3) := by decide +kernel
theorem dX4_takeOff_4 : decode cX4_takeOff 4 = .ok (.aload_n 0, 1) := by decide +kernel
theorem dX4_takeOff_5 : decode cX4_takeOff 5 = .ok (.getfield 12, 3) := by decide +kernel
theorem dX4_takeOff_8 : decode cX4_takeOff 8 = .ok (.invokevirtual 54, 3) := by decide +kernel
theorem dX4_takeOff_11 : decode cX4_takeOff 11 = .ok (.aload_n 0, 1) := by decide +kernel
theorem dX4_takeOff_12 : decode cX4_takeOff 12 = .ok (.aload_n 0, 1) := by decide +kernel
theorem dX4_takeOff_13 : decode cX4_takeOff 13 = .ok (.getfield 12, 3) := by decide +kernel
theorem dX4_takeOff_16 : decode cX4_takeOff 16 = .ok (.iload_n 1, 1) := by decide +kernel
theorem dX4_takeOff_17 : decode cX4_takeOff 17 = .ok (.invokevirtual 66, 3) := by decide +kernel
theorem dX4_takeOff_20 : decode cX4_takeOff 20 = .ok (.invokevirtual 62, 3) := by decide +kernel
theorem dX4_takeOff_23 : decode cX4_takeOff 23 = .ok (.ireturn, 1) := by decide +kernel
theorem dX4_setFrost_0 : decode cX4_setFrost 0 = .ok (.aload_n 0, 1) := by decide +kernel
theorem dX4_setFrost_1 : decode cX4_setFrost 1 = .ok (.getfield 16, 3) := by decide +kernel
theorem dX4_setFrost_4 : decode cX4_setFrost 4 = .ok (.aload_n 0, 1) := by decide +kernel
theorem dX4_setFrost_5 : decode cX4_setFrost 5 = .ok (.getfield 12, 3) := by decide +kernel
theorem dX4_setFrost_8 : decode cX4_setFrost 8 = .ok (.invokevirtual 54, 3) := by decide +kernel
theorem dX4_setFrost_11 : decode cX4_setFrost 11 = .ok (.aload_n 0, 1) := by decide +kernel
theorem dX4_setFrost_12 : decode cX4_setFrost 12 = .ok (.aload_n 0, 1) := by decide +kernel
theorem dX4_setFrost_13 : decode cX4_setFrost 13 = .ok (.getfield 12, 3) := by decide +kernel
theorem dX4_setFrost_16 : decode cX4_setFrost 16 = .ok (.iload_n 1, 1) := by decide +kernel
theorem dX4_setFrost_17 : decode cX4_setFrost 17 = .ok (.iload_n 2, 1) := by decide +kernel
theorem dX4_setFrost_18 : decode cX4_setFrost 18 = .ok (.iload_n 3, 1) := by decide +kernel
theorem dX4_setFrost_19 : decode cX4_setFrost 19 = .ok (.invokevirtual 69, 3) := by decide +kernel
theorem dX4_setFrost_22 : decode cX4_setFrost 22 = .ok (.invokevirtual 62, 3) := by decide +kernel
theorem dX4_setFrost_25 : decode cX4_setFrost 25 = .ok (.ireturn, 1) := by decide +kernel
theorem dX4_set_0 : decode cX4_set 0 = .ok (.aload_n 0, 1) := by decide +kernel
theorem dX4_set_1 : decode cX4_set 1 = .ok (.getfield 16, 3) := by decide +kernel
theorem dX4_set_4 : decode cX4_set 4 = .ok (.aload_n 0, 1) := by decide +kernel
theorem dX4_set_5 : decode cX4_set 5 = .ok (.getfield 12, 3) := by decide +kernel
theorem dX4_set_8 : decode cX4_set 8 = .ok (.invokevirtual 54, 3) := by decide +kernel
theorem dX4_set_11 : decode cX4_set 11 = .ok (.aload_n 0, 1) := by decide +kernel
theorem dX4_set_12 : decode cX4_set 12 = .ok (.aload_n 0, 1) := by decide +kernel
theorem dX4_set_13 : decode cX4_set 13 = .ok (.getfield 12, 3) := by decide +kernel
theorem dX4_set_16 : decode cX4_set 16 = .ok (.iload_n 1, 1) := by decide +kernel
theorem dX4_set_17 : decode cX4_set 17 = .ok (.iload_n 2, 1) := by decide +kernel
theorem dX4_set_18 : decode cX4_set 18 = .ok (.invokevirtual 73, 3) := by decide +kernel
theorem dX4_set_21 : decode cX4_set 21 = .ok (.invokevirtual 62, 3) := by decide +kernel
theorem dX4_set_24 : decode cX4_set 24 = .ok (.ireturn, 1) := by decide +kernel
theorem dX4_pass_0 : decode cX4_pass 0 = .ok (.aload_n 0, 1) := by decide +kernel
theorem dX4_pass_1 : decode cX4_pass 1 = .ok (.getfield 16, 3) := by decide +kernel
theorem dX4_pass_4 : decode cX4_pass 4 = .ok (.aload_n 0, 1) := by decide +kernel
theorem dX4_pass_5 : decode cX4_pass 5 = .ok (.getfield 12, 3) := by decide +kernel
theorem dX4_pass_8 : decode cX4_pass 8 = .ok (.invokevirtual 54, 3) := by decide +kernel
theorem dX4_pass_11 : decode cX4_pass 11 = .ok (.aload_n 0, 1) := by decide +kernel
theorem dX4_pass_12 : decode cX4_pass 12 = .ok (.aload_n 0, 1) := by decide +kernel
theorem dX4_pass_13 : decode cX4_pass 13 = .ok (.getfield 12, 3) := by decide +kernel
theorem dX4_pass_16 : decode cX4_pass 16 = .ok (.iload_n 1, 1) := by decide +kernel
theorem dX4_pass_17 : decode cX4_pass 17 = .ok (.invokevirtual 76, 3) := by decide +kernel
theorem dX4_pass_20 : decode cX4_pass 20 = .ok (.invokevirtual 62, 3) := by decide +kernel
theorem dX4_pass_23 : decode cX4_pass 23 = .ok (.ireturn, 1) := by decide +kernel
theorem dX4_recorded_0 : decode cX4_recorded 0 = .ok (.iload_n 1, 1) := by decide +kernel
theorem dX4_recorded_1 : decode cX4_recorded 1 = .ok (.ifCond .lt 14, 3) := by decide +kernel
theorem dX4_recorded_4 : decode cX4_recorded 4 = .ok (.aload_n 0, 1) := by decide +kernel
theorem dX4_recorded_5 : decode cX4_recorded 5 = .ok (.getfield 29, 3) := by decide +kernel
theorem dX4_recorded_8 : decode cX4_recorded 8 = .ok (.aload_n 0, 1) := by decide +kernel
theorem dX4_recorded_9 : decode cX4_recorded 9 = .ok (.getfield 16, 3) := by decide +kernel
theorem dX4_recorded_12 : decode cX4_recorded 12 = .ok (.invokevirtual 79, 3) := by decide +kernel
theorem dX4_recorded_15 : decode cX4_recorded 15 = .ok (.iload_n 1, 1) := by decide +kernel
theorem dX4_recorded_16 : decode cX4_recorded 16 = .ok (.ireturn, 1) := by decide +kernel
theorem dX4_type_0 : decode cX4_type 0 = .ok (.aload_n 0, 1) := by decide +kernel
theorem dX4_type_1 : decode cX4_type 1 = .ok (.getfield 36, 3) := by decide +kernel
theorem dX4_type_4 : decode cX4_type 4 = .ok (.iload_n 1, 1) := by decide +kernel
theorem dX4_type_5 : decode cX4_type 5 = .ok (.invokevirtual 82, 3) := by decide +kernel
theorem dX4_type_8 : decode cX4_type 8 = .ok (.ireturn, 1) := by decide +kernel
theorem dX4_clearText_0 : decode cX4_clearText 0 = .ok (.aload_n 0, 1) := by decide +kernel
theorem dX4_clearText_1 : decode cX4_clearText 1 = .ok (.getfield 36, 3) := by decide +kernel
theorem dX4_clearText_4 : decode cX4_clearText 4 = .ok (.invokevirtual 86, 3) := by decide +kernel
theorem dX4_clearText_7 : decode cX4_clearText 7 = .ok (.ireturn, 1) := by decide +kernel
theorem dX4_perform_0 : decode cX4_perform 0 = .ok (.aload_n 0, 1) := by decide +kernel
theorem dX4_perform_1 : decode cX4_perform 1 = .ok (.getfield 36, 3) := by decide +kernel
theorem dX4_perform_4 : decode cX4_perform 4 = .ok (.invokevirtual 90, 3) := by decide +kernel
theorem dX4_perform_7 : decode cX4_perform 7 = .ok (.istore_n 1, 1) := by decide +kernel
theorem dX4_perform_8 : decode cX4_perform 8 = .ok (.iload_n 1, 1) := by decide +kernel
theorem dX4_perform_9 : decode cX4_perform 9 = .ok (.iconst (-1), 1) := by decide +kernel
theorem dX4_perform_10 : decode cX4_perform 10 = .ok (.if_icmp .eq 8, 3) := by decide +kernel
theorem dX4_perform_13 : decode cX4_perform 13 = .ok (.bipush (-100), 2) := by decide +kernel
theorem dX4_perform_15 : decode cX4_perform 15 = .ok (.iload_n 1, 1) := by decide +kernel
theorem dX4_perform_16 : decode cX4_perform 16 = .ok (.isub, 1) := by decide +kernel
theorem dX4_perform_17 : decode cX4_perform 17 = .ok (.ireturn, 1) := by decide +kernel
theorem dX4_perform_18 : decode cX4_perform 18 = .ok (.aload_n 0, 1) := by decide +kernel
theorem dX4_perform_19 : decode cX4_perform 19 = .ok (.getfield 16, 3) := by decide +kernel
theorem dX4_perform_22 : decode cX4_perform 22 = .ok (.aload_n 0, 1) := by decide +kernel
theorem dX4_perform_23 : decode cX4_perform 23 = .ok (.getfield 12, 3) := by decide +kernel
theorem dX4_perform_26 : decode cX4_perform 26 = .ok (.invokevirtual 54, 3) := by decide +kernel
theorem dX4_perform_29 : decode cX4_perform 29 = .ok (.iconst 0, 1) := by decide +kernel
theorem dX4_perform_30 : decode cX4_perform 30 = .ok (.istore_n 2, 1) := by decide +kernel
theorem dX4_perform_31 : decode cX4_perform 31 = .ok (.iload_n 2, 1) := by decide +kernel
theorem dX4_perform_32 : decode cX4_perform 32 = .ok (.aload_n 0, 1) := by decide +kernel
theorem dX4_perform_33 : decode cX4_perform 33 = .ok (.getfield 36, 3) := by decide +kernel
theorem dX4_perform_36 : decode cX4_perform 36 = .ok (.getfield 93, 3) := by decide +kernel
theorem dX4_perform_39 : decode cX4_perform 39 = .ok (.if_icmp .ge 49, 3) := by decide +kernel
theorem dX4_perform_42 : decode cX4_perform 42 = .ok (.aload_n 0, 1) := by decide +kernel
theorem dX4_perform_43 : decode cX4_perform 43 = .ok (.iload_n 2, 1) := by decide +kernel
theorem dX4_perform_44 : decode cX4_perform 44 = .ok (.invokevirtual 96, 3) := by decide +kernel
theorem dX4_perform_47 : decode cX4_perform 47 = .ok (.istore_n 3, 1) := by decide +kernel
theorem dX4_perform_48 : decode cX4_perform 48 = .ok (.iload_n 3, 1) := by decide +kernel
theorem dX4_perform_49 : decode cX4_perform 49 = .ok (.ifCond .ge 33, 3) := by decide +kernel
theorem dX4_perform_52 : decode cX4_perform 52 = .ok (.iload_n 3, 1) := by decide +kernel
theorem dX4_perform_53 : decode cX4_perform 53 = .ok (.bipush (-5), 2) := by decide +kernel
theorem dX4_perform_55 : decode cX4_perform 55 = .ok (.if_icmp .eq 27, 3) := by decide +kernel
theorem dX4_perform_58 : decode cX4_perform 58 = .ok (.aload_n 0, 1) := by decide +kernel
theorem dX4_perform_59 : decode cX4_perform 59 = .ok (.iload_n 2, 1) := by decide +kernel
theorem dX4_perform_60 : decode cX4_perform 60 = .ok (.putfield 47, 3) := by decide +kernel
theorem dX4_perform_63 : decode cX4_perform 63 = .ok (.aload_n 0, 1) := by decide +kernel
theorem dX4_perform_64 : decode cX4_perform 64 = .ok (.iload_n 3, 1) := by decide +kernel
theorem dX4_perform_65 : decode cX4_perform 65 = .ok (.putfield 51, 3) := by decide +kernel
theorem dX4_perform_68 : decode cX4_perform 68 = .ok (.aload_n 0, 1) := by decide +kernel
theorem dX4_perform_69 : decode cX4_perform 69 = .ok (.getfield 12, 3) := by decide +kernel
theorem dX4_perform_72 : decode cX4_perform 72 = .ok (.aload_n 0, 1) := by decide +kernel
theorem dX4_perform_73 : decode cX4_perform 73 = .ok (.getfield 16, 3) := by decide +kernel
theorem dX4_perform_76 : decode cX4_perform 76 = .ok (.invokevirtual 54, 3) := by decide +kernel
theorem dX4_perform_79 : decode cX4_perform 79 = .ok (.bipush (-4), 2) := by decide +kernel
theorem dX4_perform_81 : decode cX4_perform 81 = .ok (.ireturn, 1) := by decide +kernel
theorem dX4_perform_82 : decode cX4_perform 82 = .ok (.iinc 2 1, 3) := by decide +kernel
theorem dX4_perform_85 : decode cX4_perform 85 = .ok (.goto (-54), 3) := by decide +kernel
theorem dX4_perform_88 : decode cX4_perform 88 = .ok (.aload_n 0, 1) := by decide +kernel
theorem dX4_perform_89 : decode cX4_perform 89 = .ok (.aload_n 0, 1) := by decide +kernel
theorem dX4_perform_90 : decode cX4_perform 90 = .ok (.getfield 36, 3) := by decide +kernel
theorem dX4_perform_93 : decode cX4_perform 93 = .ok (.getfield 93, 3) := by decide +kernel
theorem dX4_perform_96 : decode cX4_perform 96 = .ok (.invokevirtual 62, 3) := by decide +kernel
theorem dX4_perform_99 : decode cX4_perform 99 = .ok (.ireturn, 1) := by decide +kernel
theorem dX4_doThing_0 : decode cX4_doThing 0 = .ok (.iload_n 1, 1) := by decide +kernel
theorem dX4_doThing_1 : decode cX4_doThing 1 = .ok (.ifCond .lt 9, 3) := by decide +kernel
theorem dX4_doThing_4 : decode cX4_doThing 4 = .ok (.iload_n 1, 1) := by decide +kernel
theorem dX4_doThing_5 : decode cX4_doThing 5 = .ok (.bipush 21, 2) := by decide +kernel
theorem dX4_doThing_7 : decode cX4_doThing 7 = .ok (.if_icmp .lt 5, 3) := by decide +kernel
theorem dX4_doThing_10 : decode cX4_doThing 10 = .ok (.iconst (-1), 1) := by decide +kernel
theorem dX4_doThing_11 : decode cX4_doThing 11 = .ok (.ireturn, 1) := by decide +kernel
theorem dX4_doThing_12 : decode cX4_doThing 12 = .ok (.aload_n 0, 1) := by decide +kernel
theorem dX4_doThing_13 : decode cX4_doThing 13 = .ok (.getfield 36, 3) := by decide +kernel
theorem dX4_doThing_16 : decode cX4_doThing 16 = .ok (.getfield 99, 3) := by decide +kernel
theorem dX4_doThing_19 : decode cX4_doThing 19 = .ok (.iload_n 1, 1) := by decide +kernel
theorem dX4_doThing_20 : decode cX4_doThing 20 = .ok (.iaload, 1) := by decide +kernel
theorem dX4_doThing_21 : decode cX4_doThing 21 = .ok (.lookupswitch 88 #[(102, 53), (115, 27)], 27) := by decide +kernel
theorem dX4_doThing_48 : decode cX4_doThing 48 = .ok (.aload_n 0, 1) := by decide +kernel
theorem dX4_doThing_49 : decode cX4_doThing 49 = .ok (.getfield 12, 3) := by decide +kernel
theorem dX4_doThing_52 : decode cX4_doThing 52 = .ok (.aload_n 0, 1) := by decide +kernel
theorem dX4_doThing_53 : decode cX4_doThing 53 = .ok (.getfield 36, 3) := by decide +kernel
theorem dX4_doThing_56 : decode cX4_doThing 56 = .ok (.getfield 103, 3) := by decide +kernel
theorem dX4_doThing_59 : decode cX4_doThing 59 = .ok (.iload_n 1, 1) := by decide +kernel
theorem dX4_doThing_60 : decode cX4_doThing 60 = .ok (.iaload, 1) := by decide +kernel
theorem dX4_doThing_61 : decode cX4_doThing 61 = .ok (.aload_n 0, 1) := by decide +kernel
theorem dX4_doThing_62 : decode cX4_doThing 62 = .ok (.getfield 36, 3) := by decide +kernel
theorem dX4_doThing_65 : decode cX4_doThing 65 = .ok (.getfield 106, 3) := by decide +kernel
theorem dX4_doThing_68 : decode cX4_doThing 68 = .ok (.iload_n 1, 1) := by decide +kernel
theorem dX4_doThing_69 : decode cX4_doThing 69 = .ok (.iaload, 1) := by decide +kernel
theorem dX4_doThing_70 : decode cX4_doThing 70 = .ok (.invokevirtual 58, 3) := by decide +kernel
theorem dX4_doThing_73 : decode cX4_doThing 73 = .ok (.ireturn, 1) := by decide +kernel
theorem dX4_doThing_74 : decode cX4_doThing 74 = .ok (.aload_n 0, 1) := by decide +kernel
theorem dX4_doThing_75 : decode cX4_doThing 75 = .ok (.getfield 12, 3) := by decide +kernel
theorem dX4_doThing_78 : decode cX4_doThing 78 = .ok (.aload_n 0, 1) := by decide +kernel
theorem dX4_doThing_79 : decode cX4_doThing 79 = .ok (.getfield 36, 3) := by decide +kernel
theorem dX4_doThing_82 : decode cX4_doThing 82 = .ok (.getfield 103, 3) := by decide +kernel
theorem dX4_doThing_85 : decode cX4_doThing 85 = .ok (.iload_n 1, 1) := by decide +kernel
theorem dX4_doThing_86 : decode cX4_doThing 86 = .ok (.iaload, 1) := by decide +kernel
theorem dX4_doThing_87 : decode cX4_doThing 87 = .ok (.aload_n 0, 1) := by decide +kernel
theorem dX4_doThing_88 : decode cX4_doThing 88 = .ok (.getfield 36, 3) := by decide +kernel
theorem dX4_doThing_91 : decode cX4_doThing 91 = .ok (.getfield 109, 3) := by decide +kernel
theorem dX4_doThing_94 : decode cX4_doThing 94 = .ok (.iload_n 1, 1) := by decide +kernel
theorem dX4_doThing_95 : decode cX4_doThing 95 = .ok (.iaload, 1) := by decide +kernel
theorem dX4_doThing_96 : decode cX4_doThing 96 = .ok (.aload_n 0, 1) := by decide +kernel
theorem dX4_doThing_97 : decode cX4_doThing 97 = .ok (.getfield 36, 3) := by decide +kernel
theorem dX4_doThing_100 : decode cX4_doThing 100 = .ok (.getfield 106, 3) := by decide +kernel
theorem dX4_doThing_103 : decode cX4_doThing 103 = .ok (.iload_n 1, 1) := by decide +kernel
theorem dX4_doThing_104 : decode cX4_doThing 104 = .ok (.iaload, 1) := by decide +kernel
theorem dX4_doThing_105 : decode cX4_doThing 105 = .ok (.invokevirtual 69, 3) := by decide +kernel
theorem dX4_doThing_108 : decode cX4_doThing 108 = .ok (.ireturn, 1) := by decide +kernel
theorem dX4_doThing_109 : decode cX4_doThing 109 = .ok (.aload_n 0, 1) := by decide +kernel
theorem dX4_doThing_110 : decode cX4_doThing 110 = .ok (.getfield 12, 3) := by decide +kernel
theorem dX4_doThing_113 : decode cX4_doThing 113 = .ok (.aload_n 0, 1) := by decide +kernel
theorem dX4_doThing_114 : decode cX4_doThing 114 = .ok (.getfield 36, 3) := by decide +kernel
theorem dX4_doThing_117 : decode cX4_doThing 117 = .ok (.getfield 106, 3) := by decide +kernel
theorem dX4_doThing_120 : decode cX4_doThing 120 = .ok (.iload_n 1, 1) := by decide +kernel
theorem dX4_doThing_121 : decode cX4_doThing 121 = .ok (.iaload, 1) := by decide +kernel
theorem dX4_doThing_122 : decode cX4_doThing 122 = .ok (.invokevirtual 76, 3) := by decide +kernel
theorem dX4_doThing_125 : decode cX4_doThing 125 = .ok (.ireturn, 1) := by decide +kernel
theorem dX4_stopped_0 : decode cX4_stopped 0 = .ok (.iload_n 1, 1) := by decide +kernel
theorem dX4_stopped_1 : decode cX4_stopped 1 = .ok (.lookupswitch 37 #[(0, 27), (1, 32)], 27) := by decide +kernel
theorem dX4_stopped_28 : decode cX4_stopped 28 = .ok (.aload_n 0, 1) := by decide +kernel
theorem dX4_stopped_29 : decode cX4_stopped 29 = .ok (.getfield 47, 3) := by decide +kernel
theorem dX4_stopped_32 : decode cX4_stopped 32 = .ok (.ireturn, 1) := by decide +kernel
theorem dX4_stopped_33 : decode cX4_stopped 33 = .ok (.aload_n 0, 1) := by decide +kernel
theorem dX4_stopped_34 : decode cX4_stopped 34 = .ok (.getfield 51, 3) := by decide +kernel
theorem dX4_stopped_37 : decode cX4_stopped 37 = .ok (.ireturn, 1) := by decide +kernel
theorem dX4_stopped_38 : decode cX4_stopped 38 = .ok (.bipush (-2), 2) := by decide +kernel
theorem dX4_stopped_40 : decode cX4_stopped 40 = .ok (.ireturn, 1) := by decide +kernel
theorem dX4_undo_0 : decode cX4_undo 0 = .ok (.aload_n 0, 1) := by decide +kernel
theorem dX4_undo_1 : decode cX4_undo 1 = .ok (.getfield 29, 3) := by decide +kernel
theorem dX4_undo_4 : decode cX4_undo 4 = .ok (.aload_n 0, 1) := by decide +kernel
theorem dX4_undo_5 : decode cX4_undo 5 = .ok (.getfield 12, 3) := by decide +kernel
theorem dX4_undo_8 : decode cX4_undo 8 = .ok (.invokevirtual 112, 3) := by decide +kernel
theorem dX4_undo_11 : decode cX4_undo 11 = .ok (.ireturn, 1) := by decide +kernel
theorem dX4_keep_0 : decode cX4_keep 0 = .ok (.aload_n 0, 1) := by decide +kernel
theorem dX4_keep_1 : decode cX4_keep 1 = .ok (.getfield 19, 3) := by decide +kernel
theorem dX4_keep_4 : decode cX4_keep 4 = .ok (.aload_n 0, 1) := by decide +kernel
theorem dX4_keep_5 : decode cX4_keep 5 = .ok (.getfield 12, 3) := by decide +kernel
theorem dX4_keep_8 : decode cX4_keep 8 = .ok (.invokevirtual 54, 3) := by decide +kernel
theorem dX4_keep_11 : decode cX4_keep 11 = .ok (.aload_n 0, 1) := by decide +kernel
theorem dX4_keep_12 : decode cX4_keep 12 = .ok (.iconst 1, 1) := by decide +kernel
theorem dX4_keep_13 : decode cX4_keep 13 = .ok (.putfield 22, 3) := by decide +kernel
theorem dX4_keep_16 : decode cX4_keep 16 = .ok (.aload_n 0, 1) := by decide +kernel
theorem dX4_keep_17 : decode cX4_keep 17 = .ok (.getfield 12, 3) := by decide +kernel
theorem dX4_keep_20 : decode cX4_keep 20 = .ok (.getfield 116, 3) := by decide +kernel
theorem dX4_keep_23 : decode cX4_keep 23 = .ok (.ireturn, 1) := by decide +kernel
theorem dX4_restore_0 : decode cX4_restore 0 = .ok (.aload_n 0, 1) := by decide +kernel
theorem dX4_restore_1 : decode cX4_restore 1 = .ok (.getfield 22, 3) := by decide +kernel
theorem dX4_restore_4 : decode cX4_restore 4 = .ok (.ifCond .ne 6, 3) := by decide +kernel
theorem dX4_restore_7 : decode cX4_restore 7 = .ok (.bipush (-5), 2) := by decide +kernel
theorem dX4_restore_9 : decode cX4_restore 9 = .ok (.ireturn, 1) := by decide +kernel
theorem dX4_restore_10 : decode cX4_restore 10 = .ok (.aload_n 0, 1) := by decide +kernel
theorem dX4_restore_11 : decode cX4_restore 11 = .ok (.getfield 16, 3) := by decide +kernel
theorem dX4_restore_14 : decode cX4_restore 14 = .ok (.aload_n 0, 1) := by decide +kernel
theorem dX4_restore_15 : decode cX4_restore 15 = .ok (.getfield 12, 3) := by decide +kernel
theorem dX4_restore_18 : decode cX4_restore 18 = .ok (.invokevirtual 54, 3) := by decide +kernel
theorem dX4_restore_21 : decode cX4_restore 21 = .ok (.aload_n 0, 1) := by decide +kernel
theorem dX4_restore_22 : decode cX4_restore 22 = .ok (.getfield 12, 3) := by decide +kernel
theorem dX4_restore_25 : decode cX4_restore 25 = .ok (.aload_n 0, 1) := by decide +kernel
theorem dX4_restore_26 : decode cX4_restore 26 = .ok (.getfield 19, 3) := by decide +kernel
theorem dX4_restore_29 : decode cX4_restore 29 = .ok (.invokevirtual 54, 3) := by decide +kernel
theorem dX4_restore_32 : decode cX4_restore 32 = .ok (.aload_n 0, 1) := by decide +kernel
theorem dX4_restore_33 : decode cX4_restore 33 = .ok (.aload_n 0, 1) := by decide +kernel
theorem dX4_restore_34 : decode cX4_restore 34 = .ok (.getfield 12, 3) := by decide +kernel
theorem dX4_restore_37 : decode cX4_restore 37 = .ok (.getfield 116, 3) := by decide +kernel
theorem dX4_restore_40 : decode cX4_restore 40 = .ok (.invokevirtual 62, 3) := by decide +kernel
theorem dX4_restore_43 : decode cX4_restore 43 = .ok (.ireturn, 1) := by decide +kernel
theorem dX4_snail_0 : decode cX4_snail 0 = .ok (.aload_n 0, 1) := by decide +kernel
theorem dX4_snail_1 : decode cX4_snail 1 = .ok (.getfield 12, 3) := by decide +kernel
theorem dX4_snail_4 : decode cX4_snail 4 = .ok (.iload_n 1, 1) := by decide +kernel
theorem dX4_snail_5 : decode cX4_snail 5 = .ok (.iload_n 2, 1) := by decide +kernel
theorem dX4_snail_6 : decode cX4_snail 6 = .ok (.invokevirtual 119, 3) := by decide +kernel
theorem dX4_snail_9 : decode cX4_snail 9 = .ok (.ireturn, 1) := by decide +kernel
theorem dX4_cell_0 : decode cX4_cell 0 = .ok (.aload_n 0, 1) := by decide +kernel
theorem dX4_cell_1 : decode cX4_cell 1 = .ok (.getfield 12, 3) := by decide +kernel
theorem dX4_cell_4 : decode cX4_cell 4 = .ok (.iload_n 1, 1) := by decide +kernel
theorem dX4_cell_5 : decode cX4_cell 5 = .ok (.iload_n 2, 1) := by decide +kernel
theorem dX4_cell_6 : decode cX4_cell 6 = .ok (.iload_n 3, 1) := by decide +kernel
theorem dX4_cell_7 : decode cX4_cell 7 = .ok (.invokevirtual 122, 3) := by decide +kernel
theorem dX4_cell_10 : decode cX4_cell 10 = .ok (.ireturn, 1) := by decide +kernel
theorem dX4_cost_0 : decode cX4_cost 0 = .ok (.aload_n 0, 1) := by decide +kernel
theorem dX4_cost_1 : decode cX4_cost 1 = .ok (.getfield 12, 3) := by decide +kernel
theorem dX4_cost_4 : decode cX4_cost 4 = .ok (.iload_n 1, 1) := by decide +kernel
theorem dX4_cost_5 : decode cX4_cost 5 = .ok (.invokevirtual 125, 3) := by decide +kernel
theorem dX4_cost_8 : decode cX4_cost 8 = .ok (.ifCond .ne 5, 3) := by decide +kernel
theorem dX4_cost_11 : decode cX4_cost 11 = .ok (.iconst (-1), 1) := by decide +kernel
theorem dX4_cost_12 : decode cX4_cost 12 = .ok (.ireturn, 1) := by decide +kernel
theorem dX4_cost_13 : decode cX4_cost 13 = .ok (.iload_n 2, 1) := by decide +kernel
theorem dX4_cost_14 : decode cX4_cost 14 = .ok (.ifCond .lt 11, 3) := by decide +kernel
theorem dX4_cost_17 : decode cX4_cost 17 = .ok (.iload_n 2, 1) := by decide +kernel
theorem dX4_cost_18 : decode cX4_cost 18 = .ok (.getstatic 129, 3) := by decide +kernel
theorem dX4_cost_21 : decode cX4_cost 21 = .ok (.arraylength, 1) := by decide +kernel
theorem dX4_cost_22 : decode cX4_cost 22 = .ok (.if_icmp .lt 6, 3) := by decide +kernel
theorem dX4_cost_25 : decode cX4_cost 25 = .ok (.bipush (-2), 2) := by decide +kernel
theorem dX4_cost_27 : decode cX4_cost 27 = .ok (.ireturn, 1) := by decide +kernel
theorem dX4_cost_28 : decode cX4_cost 28 = .ok (.aload_n 0, 1) := by decide +kernel
theorem dX4_cost_29 : decode cX4_cost 29 = .ok (.getfield 12, 3) := by decide +kernel
theorem dX4_cost_32 : decode cX4_cost 32 = .ok (.iload_n 1, 1) := by decide +kernel
theorem dX4_cost_33 : decode cX4_cost 33 = .ok (.invokevirtual 132, 3) := by decide +kernel
theorem dX4_cost_36 : decode cX4_cost 36 = .ok (.ifCond .eq 15, 3) := by decide +kernel
theorem dX4_cost_39 : decode cX4_cost 39 = .ok (.aload_n 0, 1) := by decide +kernel
theorem dX4_cost_40 : decode cX4_cost 40 = .ok (.getfield 12, 3) := by decide +kernel
theorem dX4_cost_43 : decode cX4_cost 43 = .ok (.iload_n 1, 1) := by decide +kernel
theorem dX4_cost_44 : decode cX4_cost 44 = .ok (.iload_n 2, 1) := by decide +kernel
theorem dX4_cost_45 : decode cX4_cost 45 = .ok (.invokevirtual 135, 3) := by decide +kernel
theorem dX4_cost_48 : decode cX4_cost 48 = .ok (.goto 5, 3) := by decide +kernel
theorem dX4_cost_51 : decode cX4_cost 51 = .ok (.bipush (-4), 2) := by decide +kernel
theorem dX4_cost_53 : decode cX4_cost 53 = .ok (.ireturn, 1) := by decide +kernel
theorem dX4_does_0 : decode cX4_does 0 = .ok (.aload_n 0, 1) := by decide +kernel
theorem dX4_does_1 : decode cX4_does 1 = .ok (.getfield 12, 3) := by decide +kernel
theorem dX4_does_4 : decode cX4_does 4 = .ok (.iload_n 1, 1) := by decide +kernel
theorem dX4_does_5 : decode cX4_does 5 = .ok (.invokevirtual 125, 3) := by decide +kernel
theorem dX4_does_8 : decode cX4_does 8 = .ok (.ifCond .ne 5, 3) := by decide +kernel
theorem dX4_does_11 : decode cX4_does 11 = .ok (.iconst (-1), 1) := by decide +kernel
theorem dX4_does_12 : decode cX4_does 12 = .ok (.ireturn, 1) := by decide +kernel
theorem dX4_does_13 : decode cX4_does 13 = .ok (.aload_n 0, 1) := by decide +kernel
theorem dX4_does_14 : decode cX4_does 14 = .ok (.getfield 12, 3) := by decide +kernel
theorem dX4_does_17 : decode cX4_does 17 = .ok (.iload_n 1, 1) := by decide +kernel
theorem dX4_does_18 : decode cX4_does 18 = .ok (.invokevirtual 132, 3) := by decide +kernel
theorem dX4_does_21 : decode cX4_does 21 = .ok (.ifCond .eq 14, 3) := by decide +kernel
theorem dX4_does_24 : decode cX4_does 24 = .ok (.aload_n 0, 1) := by decide +kernel
theorem dX4_does_25 : decode cX4_does 25 = .ok (.getfield 12, 3) := by decide +kernel
theorem dX4_does_28 : decode cX4_does 28 = .ok (.iload_n 1, 1) := by decide +kernel
theorem dX4_does_29 : decode cX4_does 29 = .ok (.invokevirtual 138, 3) := by decide +kernel
theorem dX4_does_32 : decode cX4_does 32 = .ok (.goto 5, 3) := by decide +kernel
theorem dX4_does_35 : decode cX4_does 35 = .ok (.bipush (-4), 2) := by decide +kernel
theorem dX4_does_37 : decode cX4_does 37 = .ok (.ireturn, 1) := by decide +kernel
theorem dX4_reason_0 : decode cX4_reason 0 = .ok (.iload_n 2, 1) := by decide +kernel
theorem dX4_reason_1 : decode cX4_reason 1 = .ok (.iload_n 3, 1) := by decide +kernel
theorem dX4_reason_2 : decode cX4_reason 2 = .ok (.invokestatic 141, 3) := by decide +kernel
theorem dX4_reason_5 : decode cX4_reason 5 = .ok (.istore 4, 2) := by decide +kernel
theorem dX4_reason_7 : decode cX4_reason 7 = .ok (.aload_n 0, 1) := by decide +kernel
theorem dX4_reason_8 : decode cX4_reason 8 = .ok (.getfield 12, 3) := by decide +kernel
theorem dX4_reason_11 : decode cX4_reason 11 = .ok (.iload_n 1, 1) := by decide +kernel
theorem dX4_reason_12 : decode cX4_reason 12 = .ok (.invokevirtual 125, 3) := by decide +kernel
theorem dX4_reason_15 : decode cX4_reason 15 = .ok (.ifCond .eq 9, 3) := by decide +kernel
theorem dX4_reason_18 : decode cX4_reason 18 = .ok (.iload 4, 2) := by decide +kernel
theorem dX4_reason_20 : decode cX4_reason 20 = .ok (.iconst (-1), 1) := by decide +kernel
theorem dX4_reason_21 : decode cX4_reason 21 = .ok (.if_icmp .ne 5, 3) := by decide +kernel
theorem dX4_reason_24 : decode cX4_reason 24 = .ok (.iconst (-1), 1) := by decide +kernel
theorem dX4_reason_25 : decode cX4_reason 25 = .ok (.ireturn, 1) := by decide +kernel
theorem dX4_reason_26 : decode cX4_reason 26 = .ok (.aload_n 0, 1) := by decide +kernel
theorem dX4_reason_27 : decode cX4_reason 27 = .ok (.getfield 12, 3) := by decide +kernel
theorem dX4_reason_30 : decode cX4_reason 30 = .ok (.iload_n 1, 1) := by decide +kernel
theorem dX4_reason_31 : decode cX4_reason 31 = .ok (.iload 4, 2) := by decide +kernel
theorem dX4_reason_33 : decode cX4_reason 33 = .ok (.invokevirtual 144, 3) := by decide +kernel
theorem dX4_reason_36 : decode cX4_reason 36 = .ok (.ireturn, 1) := by decide +kernel
theorem dX4_endsIn_0 : decode cX4_endsIn 0 = .ok (.aload_n 0, 1) := by decide +kernel
theorem dX4_endsIn_1 : decode cX4_endsIn 1 = .ok (.getfield 12, 3) := by decide +kernel
theorem dX4_endsIn_4 : decode cX4_endsIn 4 = .ok (.iload_n 1, 1) := by decide +kernel
theorem dX4_endsIn_5 : decode cX4_endsIn 5 = .ok (.invokevirtual 125, 3) := by decide +kernel
theorem dX4_endsIn_8 : decode cX4_endsIn 8 = .ok (.ifCond .ne 5, 3) := by decide +kernel
theorem dX4_endsIn_11 : decode cX4_endsIn 11 = .ok (.iconst (-1), 1) := by decide +kernel
theorem dX4_endsIn_12 : decode cX4_endsIn 12 = .ok (.ireturn, 1) := by decide +kernel
theorem dX4_endsIn_13 : decode cX4_endsIn 13 = .ok (.aload_n 0, 1) := by decide +kernel
theorem dX4_endsIn_14 : decode cX4_endsIn 14 = .ok (.getfield 12, 3) := by decide +kernel
theorem dX4_endsIn_17 : decode cX4_endsIn 17 = .ok (.iload_n 1, 1) := by decide +kernel
theorem dX4_endsIn_18 : decode cX4_endsIn 18 = .ok (.invokevirtual 147, 3) := by decide +kernel
theorem dX4_endsIn_21 : decode cX4_endsIn 21 = .ok (.ifCond .eq 5, 3) := by decide +kernel
theorem dX4_endsIn_24 : decode cX4_endsIn 24 = .ok (.iconst 0, 1) := by decide +kernel
theorem dX4_endsIn_25 : decode cX4_endsIn 25 = .ok (.ireturn, 1) := by decide +kernel
theorem dX4_endsIn_26 : decode cX4_endsIn 26 = .ok (.aload_n 0, 1) := by decide +kernel
theorem dX4_endsIn_27 : decode cX4_endsIn 27 = .ok (.getfield 12, 3) := by decide +kernel
theorem dX4_endsIn_30 : decode cX4_endsIn 30 = .ok (.iload_n 1, 1) := by decide +kernel
theorem dX4_endsIn_31 : decode cX4_endsIn 31 = .ok (.invokevirtual 132, 3) := by decide +kernel
theorem dX4_endsIn_34 : decode cX4_endsIn 34 = .ok (.ifCond .ne 6, 3) := by decide +kernel
theorem dX4_endsIn_37 : decode cX4_endsIn 37 = .ok (.bipush (-4), 2) := by decide +kernel
theorem dX4_endsIn_39 : decode cX4_endsIn 39 = .ok (.ireturn, 1) := by decide +kernel
theorem dX4_endsIn_40 : decode cX4_endsIn 40 = .ok (.aload_n 0, 1) := by decide +kernel
theorem dX4_endsIn_41 : decode cX4_endsIn 41 = .ok (.getfield 16, 3) := by decide +kernel
theorem dX4_endsIn_44 : decode cX4_endsIn 44 = .ok (.aload_n 0, 1) := by decide +kernel
theorem dX4_endsIn_45 : decode cX4_endsIn 45 = .ok (.getfield 12, 3) := by decide +kernel
theorem dX4_endsIn_48 : decode cX4_endsIn 48 = .ok (.invokevirtual 54, 3) := by decide +kernel
theorem dX4_endsIn_51 : decode cX4_endsIn 51 = .ok (.aload_n 0, 1) := by decide +kernel
theorem dX4_endsIn_52 : decode cX4_endsIn 52 = .ok (.getfield 16, 3) := by decide +kernel
theorem dX4_endsIn_55 : decode cX4_endsIn 55 = .ok (.iload_n 1, 1) := by decide +kernel
theorem dX4_endsIn_56 : decode cX4_endsIn 56 = .ok (.sipush 300, 3) := by decide +kernel
theorem dX4_endsIn_59 : decode cX4_endsIn 59 = .ok (.invokevirtual 150, 3) := by decide +kernel
theorem dX4_endsIn_62 : decode cX4_endsIn 62 = .ok (.ireturn, 1) := by decide +kernel
theorem dX4_wayUp_0 : decode cX4_wayUp 0 = .ok (.iload_n 1, 1) := by decide +kernel
theorem dX4_wayUp_1 : decode cX4_wayUp 1 = .ok (.iload_n 2, 1) := by decide +kernel
theorem dX4_wayUp_2 : decode cX4_wayUp 2 = .ok (.invokestatic 141, 3) := by decide +kernel
theorem dX4_wayUp_5 : decode cX4_wayUp 5 = .ok (.iconst (-1), 1) := by decide +kernel
theorem dX4_wayUp_6 : decode cX4_wayUp 6 = .ok (.if_icmp .ne 5, 3) := by decide +kernel
theorem dX4_wayUp_9 : decode cX4_wayUp 9 = .ok (.iconst (-1), 1) := by decide +kernel
theorem dX4_wayUp_10 : decode cX4_wayUp 10 = .ok (.ireturn, 1) := by decide +kernel
theorem dX4_wayUp_11 : decode cX4_wayUp 11 = .ok (.iload_n 3, 1) := by decide +kernel
theorem dX4_wayUp_12 : decode cX4_wayUp 12 = .ok (.lookupswitch 56 #[(0, 28), (1, 42)], 28) := by decide +kernel
theorem dX4_wayUp_40 : decode cX4_wayUp 40 = .ok (.aload_n 0, 1) := by decide +kernel
theorem dX4_wayUp_41 : decode cX4_wayUp 41 = .ok (.getfield 43, 3) := by decide +kernel
theorem dX4_wayUp_44 : decode cX4_wayUp 44 = .ok (.aload_n 0, 1) := by decide +kernel
theorem dX4_wayUp_45 : decode cX4_wayUp 45 = .ok (.getfield 12, 3) := by decide +kernel
theorem dX4_wayUp_48 : decode cX4_wayUp 48 = .ok (.iload_n 1, 1) := by decide +kernel
theorem dX4_wayUp_49 : decode cX4_wayUp 49 = .ok (.iload_n 2, 1) := by decide +kernel
theorem dX4_wayUp_50 : decode cX4_wayUp 50 = .ok (.invokevirtual 153, 3) := by decide +kernel
theorem dX4_wayUp_53 : decode cX4_wayUp 53 = .ok (.ireturn, 1) := by decide +kernel
theorem dX4_wayUp_54 : decode cX4_wayUp 54 = .ok (.aload_n 0, 1) := by decide +kernel
theorem dX4_wayUp_55 : decode cX4_wayUp 55 = .ok (.getfield 43, 3) := by decide +kernel
theorem dX4_wayUp_58 : decode cX4_wayUp 58 = .ok (.aload_n 0, 1) := by decide +kernel
theorem dX4_wayUp_59 : decode cX4_wayUp 59 = .ok (.getfield 12, 3) := by decide +kernel
theorem dX4_wayUp_62 : decode cX4_wayUp 62 = .ok (.iload_n 1, 1) := by decide +kernel
theorem dX4_wayUp_63 : decode cX4_wayUp 63 = .ok (.iload_n 2, 1) := by decide +kernel
theorem dX4_wayUp_64 : decode cX4_wayUp 64 = .ok (.invokevirtual 157, 3) := by decide +kernel
theorem dX4_wayUp_67 : decode cX4_wayUp 67 = .ok (.ireturn, 1) := by decide +kernel
theorem dX4_wayUp_68 : decode cX4_wayUp 68 = .ok (.bipush (-2), 2) := by decide +kernel
theorem dX4_wayUp_70 : decode cX4_wayUp 70 = .ok (.ireturn, 1) := by decide +kernel
theorem dX4_leader_0 : decode cX4_leader 0 = .ok (.aload_n 0, 1) := by decide +kernel
theorem dX4_leader_1 : decode cX4_leader 1 = .ok (.getfield 12, 3) := by decide +kernel
theorem dX4_leader_4 : decode cX4_leader 4 = .ok (.invokevirtual 160, 3) := by decide +kernel
theorem dX4_leader_7 : decode cX4_leader 7 = .ok (.ireturn, 1) := by decide +kernel
theorem dX4_owes_0 : decode cX4_owes 0 = .ok (.aload_n 0, 1) := by decide +kernel
theorem dX4_owes_1 : decode cX4_owes 1 = .ok (.getfield 12, 3) := by decide +kernel
theorem dX4_owes_4 : decode cX4_owes 4 = .ok (.iload_n 1, 1) := by decide +kernel
theorem dX4_owes_5 : decode cX4_owes 5 = .ok (.iload_n 2, 1) := by decide +kernel
theorem dX4_owes_6 : decode cX4_owes 6 = .ok (.invokevirtual 163, 3) := by decide +kernel
theorem dX4_owes_9 : decode cX4_owes 9 = .ok (.ireturn, 1) := by decide +kernel
theorem dX4_bestLane_0 : decode cX4_bestLane 0 = .ok (.iload_n 1, 1) := by decide +kernel
theorem dX4_bestLane_1 : decode cX4_bestLane 1 = .ok (.ifCond .lt 18, 3) := by decide +kernel
theorem dX4_bestLane_4 : decode cX4_bestLane 4 = .ok (.iload_n 1, 1) := by decide +kernel
theorem dX4_bestLane_5 : decode cX4_bestLane 5 = .ok (.bipush 99, 2) := by decide +kernel
theorem dX4_bestLane_7 : decode cX4_bestLane 7 = .ok (.if_icmp .gt 12, 3) := by decide +kernel
theorem dX4_bestLane_10 : decode cX4_bestLane 10 = .ok (.iload_n 2, 1) := by decide +kernel
theorem dX4_bestLane_11 : decode cX4_bestLane 11 = .ok (.ifCond .lt 8, 3) := by decide +kernel
theorem dX4_bestLane_14 : decode cX4_bestLane 14 = .ok (.iload_n 2, 1) := by decide +kernel
theorem dX4_bestLane_15 : decode cX4_bestLane 15 = .ok (.iconst 1, 1) := by decide +kernel
theorem dX4_bestLane_16 : decode cX4_bestLane 16 = .ok (.if_icmp .le 6, 3) := by decide +kernel
theorem dX4_bestLane_19 : decode cX4_bestLane 19 = .ok (.bipush (-2), 2) := by decide +kernel
theorem dX4_bestLane_21 : decode cX4_bestLane 21 = .ok (.ireturn, 1) := by decide +kernel
theorem dX4_bestLane_22 : decode cX4_bestLane 22 = .ok (.bipush (-5), 2) := by decide +kernel
theorem dX4_bestLane_24 : decode cX4_bestLane 24 = .ok (.istore_n 3, 1) := by decide +kernel
theorem dX4_bestLane_25 : decode cX4_bestLane 25 = .ok (.sipush 301, 3) := by decide +kernel
theorem dX4_bestLane_28 : decode cX4_bestLane 28 = .ok (.istore 4, 2) := by decide +kernel
theorem dX4_bestLane_30 : decode cX4_bestLane 30 = .ok (.iconst 0, 1) := by decide +kernel
theorem dX4_bestLane_31 : decode cX4_bestLane 31 = .ok (.istore 5, 2) := by decide +kernel
theorem dX4_bestLane_33 : decode cX4_bestLane 33 = .ok (.iload 5, 2) := by decide +kernel
theorem dX4_bestLane_35 : decode cX4_bestLane 35 = .ok (.bipush 6, 2) := by decide +kernel
theorem dX4_bestLane_37 : decode cX4_bestLane 37 = .ok (.if_icmp .ge 36, 3) := by decide +kernel
theorem dX4_bestLane_40 : decode cX4_bestLane 40 = .ok (.aload_n 0, 1) := by decide +kernel
theorem dX4_bestLane_41 : decode cX4_bestLane 41 = .ok (.iload 5, 2) := by decide +kernel
theorem dX4_bestLane_43 : decode cX4_bestLane 43 = .ok (.iload_n 1, 1) := by decide +kernel
theorem dX4_bestLane_44 : decode cX4_bestLane 44 = .ok (.iload 4, 2) := by decide +kernel
theorem dX4_bestLane_46 : decode cX4_bestLane 46 = .ok (.iconst 1, 1) := by decide +kernel
theorem dX4_bestLane_47 : decode cX4_bestLane 47 = .ok (.isub, 1) := by decide +kernel
theorem dX4_bestLane_48 : decode cX4_bestLane 48 = .ok (.invokevirtual 166, 3) := by decide +kernel
theorem dX4_bestLane_51 : decode cX4_bestLane 51 = .ok (.istore 6, 2) := by decide +kernel
theorem dX4_bestLane_53 : decode cX4_bestLane 53 = .ok (.iload 6, 2) := by decide +kernel
theorem dX4_bestLane_55 : decode cX4_bestLane 55 = .ok (.bipush (-5), 2) := by decide +kernel
theorem dX4_bestLane_57 : decode cX4_bestLane 57 = .ok (.if_icmp .eq 10, 3) := by decide +kernel
theorem dX4_bestLane_60 : decode cX4_bestLane 60 = .ok (.iload 5, 2) := by decide +kernel
theorem dX4_bestLane_62 : decode cX4_bestLane 62 = .ok (.istore_n 3, 1) := by decide +kernel
theorem dX4_bestLane_63 : decode cX4_bestLane 63 = .ok (.iload 6, 2) := by decide +kernel
theorem dX4_bestLane_65 : decode cX4_bestLane 65 = .ok (.istore 4, 2) := by decide +kernel
theorem dX4_bestLane_67 : decode cX4_bestLane 67 = .ok (.iinc 5 1, 3) := by decide +kernel
theorem dX4_bestLane_70 : decode cX4_bestLane 70 = .ok (.goto (-37), 3) := by decide +kernel
theorem dX4_bestLane_73 : decode cX4_bestLane 73 = .ok (.iload_n 3, 1) := by decide +kernel
theorem dX4_bestLane_74 : decode cX4_bestLane 74 = .ok (.bipush (-5), 2) := by decide +kernel
theorem dX4_bestLane_76 : decode cX4_bestLane 76 = .ok (.if_icmp .eq 7, 3) := by decide +kernel
theorem dX4_bestLane_79 : decode cX4_bestLane 79 = .ok (.iload_n 2, 1) := by decide +kernel
theorem dX4_bestLane_80 : decode cX4_bestLane 80 = .ok (.ifCond .ne 7, 3) := by decide +kernel
theorem dX4_bestLane_83 : decode cX4_bestLane 83 = .ok (.iload_n 3, 1) := by decide +kernel
theorem dX4_bestLane_84 : decode cX4_bestLane 84 = .ok (.goto 5, 3) := by decide +kernel
theorem dX4_bestLane_87 : decode cX4_bestLane 87 = .ok (.iload 4, 2) := by decide +kernel
theorem dX4_bestLane_89 : decode cX4_bestLane 89 = .ok (.ireturn, 1) := by decide +kernel
theorem dX4_turnsFrom_0 : decode cX4_turnsFrom 0 = .ok (.aload_n 0, 1) := by decide +kernel
theorem dX4_turnsFrom_1 : decode cX4_turnsFrom 1 = .ok (.getfield 12, 3) := by decide +kernel
theorem dX4_turnsFrom_4 : decode cX4_turnsFrom 4 = .ok (.iload_n 1, 1) := by decide +kernel
theorem dX4_turnsFrom_5 : decode cX4_turnsFrom 5 = .ok (.iconst 0, 1) := by decide +kernel
theorem dX4_turnsFrom_6 : decode cX4_turnsFrom 6 = .ok (.invokevirtual 169, 3) := by decide +kernel
theorem dX4_turnsFrom_9 : decode cX4_turnsFrom 9 = .ok (.bipush (-5), 2) := by decide +kernel
theorem dX4_turnsFrom_11 : decode cX4_turnsFrom 11 = .ok (.if_icmp .eq 6, 3) := by decide +kernel
theorem dX4_turnsFrom_14 : decode cX4_turnsFrom 14 = .ok (.bipush (-5), 2) := by decide +kernel
theorem dX4_turnsFrom_16 : decode cX4_turnsFrom 16 = .ok (.ireturn, 1) := by decide +kernel
theorem dX4_turnsFrom_17 : decode cX4_turnsFrom 17 = .ok (.aload_n 0, 1) := by decide +kernel
theorem dX4_turnsFrom_18 : decode cX4_turnsFrom 18 = .ok (.getfield 16, 3) := by decide +kernel
theorem dX4_turnsFrom_21 : decode cX4_turnsFrom 21 = .ok (.aload_n 0, 1) := by decide +kernel
theorem dX4_turnsFrom_22 : decode cX4_turnsFrom 22 = .ok (.getfield 12, 3) := by decide +kernel
theorem dX4_turnsFrom_25 : decode cX4_turnsFrom 25 = .ok (.invokevirtual 54, 3) := by decide +kernel
theorem dX4_turnsFrom_28 : decode cX4_turnsFrom 28 = .ok (.aload_n 0, 1) := by decide +kernel
theorem dX4_turnsFrom_29 : decode cX4_turnsFrom 29 = .ok (.getfield 16, 3) := by decide +kernel
theorem dX4_turnsFrom_32 : decode cX4_turnsFrom 32 = .ok (.iload_n 1, 1) := by decide +kernel
theorem dX4_turnsFrom_33 : decode cX4_turnsFrom 33 = .ok (.iload_n 2, 1) := by decide +kernel
theorem dX4_turnsFrom_34 : decode cX4_turnsFrom 34 = .ok (.invokevirtual 172, 3) := by decide +kernel
theorem dX4_turnsFrom_37 : decode cX4_turnsFrom 37 = .ok (.istore 4, 2) := by decide +kernel
theorem dX4_turnsFrom_39 : decode cX4_turnsFrom 39 = .ok (.aload_n 0, 1) := by decide +kernel
theorem dX4_turnsFrom_40 : decode cX4_turnsFrom 40 = .ok (.getfield 16, 3) := by decide +kernel
theorem dX4_turnsFrom_43 : decode cX4_turnsFrom 43 = .ok (.iload 4, 2) := by decide +kernel
theorem dX4_turnsFrom_45 : decode cX4_turnsFrom 45 = .ok (.iload_n 3, 1) := by decide +kernel
theorem dX4_turnsFrom_46 : decode cX4_turnsFrom 46 = .ok (.invokevirtual 150, 3) := by decide +kernel
theorem dX4_turnsFrom_49 : decode cX4_turnsFrom 49 = .ok (.ireturn, 1) := by decide +kernel
theorem dX4_count_0 : decode cX4_count 0 = .ok (.iload_n 1, 1) := by decide +kernel
theorem dX4_count_1 : decode cX4_count 1 = .ok (.lookupswitch 43 #[(13, 27), (14, 35)], 27) := by decide +kernel
theorem dX4_count_28 : decode cX4_count 28 = .ok (.aload_n 0, 1) := by decide +kernel
theorem dX4_count_29 : decode cX4_count 29 = .ok (.getfield 29, 3) := by decide +kernel
theorem dX4_count_32 : decode cX4_count 32 = .ok (.getfield 175, 3) := by decide +kernel
theorem dX4_count_35 : decode cX4_count 35 = .ok (.ireturn, 1) := by decide +kernel
theorem dX4_count_36 : decode cX4_count 36 = .ok (.aload_n 0, 1) := by decide +kernel
theorem dX4_count_37 : decode cX4_count 37 = .ok (.getfield 36, 3) := by decide +kernel
theorem dX4_count_40 : decode cX4_count 40 = .ok (.getfield 178, 3) := by decide +kernel
theorem dX4_count_43 : decode cX4_count 43 = .ok (.ireturn, 1) := by decide +kernel
theorem dX4_count_44 : decode cX4_count 44 = .ok (.aload_n 0, 1) := by decide +kernel
theorem dX4_count_45 : decode cX4_count 45 = .ok (.getfield 12, 3) := by decide +kernel
theorem dX4_count_48 : decode cX4_count 48 = .ok (.iload_n 1, 1) := by decide +kernel
theorem dX4_count_49 : decode cX4_count 49 = .ok (.invokevirtual 181, 3) := by decide +kernel
theorem dX4_count_52 : decode cX4_count 52 = .ok (.ireturn, 1) := by decide +kernel
theorem dX4_cellAt_0 : decode cX4_cellAt 0 = .ok (.iload_n 0, 1) := by decide +kernel
theorem dX4_cellAt_1 : decode cX4_cellAt 1 = .ok (.ifCond .lt 19, 3) := by decide +kernel
theorem dX4_cellAt_4 : decode cX4_cellAt 4 = .ok (.iload_n 0, 1) := by decide +kernel
theorem dX4_cellAt_5 : decode cX4_cellAt 5 = .ok (.bipush 6, 2) := by decide +kernel
theorem dX4_cellAt_7 : decode cX4_cellAt 7 = .ok (.if_icmp .ge 13, 3) := by decide +kernel
theorem dX4_cellAt_10 : decode cX4_cellAt 10 = .ok (.iload_n 1, 1) := by decide +kernel
theorem dX4_cellAt_11 : decode cX4_cellAt 11 = .ok (.ifCond .lt 9, 3) := by decide +kernel
theorem dX4_cellAt_14 : decode cX4_cellAt 14 = .ok (.iload_n 1, 1) := by decide +kernel
theorem dX4_cellAt_15 : decode cX4_cellAt 15 = .ok (.bipush 20, 2) := by decide +kernel
theorem dX4_cellAt_17 : decode cX4_cellAt 17 = .ok (.if_icmp .lt 5, 3) := by decide +kernel
theorem dX4_cellAt_20 : decode cX4_cellAt 20 = .ok (.iconst (-1), 1) := by decide +kernel
theorem dX4_cellAt_21 : decode cX4_cellAt 21 = .ok (.ireturn, 1) := by decide +kernel
theorem dX4_cellAt_22 : decode cX4_cellAt 22 = .ok (.iload_n 1, 1) := by decide +kernel
theorem dX4_cellAt_23 : decode cX4_cellAt 23 = .ok (.bipush 6, 2) := by decide +kernel
theorem dX4_cellAt_25 : decode cX4_cellAt 25 = .ok (.imul, 1) := by decide +kernel
theorem dX4_cellAt_26 : decode cX4_cellAt 26 = .ok (.iload_n 0, 1) := by decide +kernel
theorem dX4_cellAt_27 : decode cX4_cellAt 27 = .ok (.iadd, 1) := by decide +kernel
theorem dX4_cellAt_28 : decode cX4_cellAt 28 = .ok (.ireturn, 1) := by decide +kernel
theorem dX4_sum_0 : decode cX4_sum 0 = .ok (.iconst 0, 1) := by decide +kernel
theorem dX4_sum_1 : decode cX4_sum 1 = .ok (.istore_n 1, 1) := by decide +kernel
theorem dX4_sum_2 : decode cX4_sum 2 = .ok (.aload_n 0, 1) := by decide +kernel
theorem dX4_sum_3 : decode cX4_sum 3 = .ok (.astore_n 2, 1) := by decide +kernel
theorem dX4_sum_4 : decode cX4_sum 4 = .ok (.aload_n 2, 1) := by decide +kernel
theorem dX4_sum_5 : decode cX4_sum 5 = .ok (.arraylength, 1) := by decide +kernel
theorem dX4_sum_6 : decode cX4_sum 6 = .ok (.istore_n 3, 1) := by decide +kernel
theorem dX4_sum_7 : decode cX4_sum 7 = .ok (.iconst 0, 1) := by decide +kernel
theorem dX4_sum_8 : decode cX4_sum 8 = .ok (.istore 4, 2) := by decide +kernel
theorem dX4_sum_10 : decode cX4_sum 10 = .ok (.iload 4, 2) := by decide +kernel
theorem dX4_sum_12 : decode cX4_sum 12 = .ok (.iload_n 3, 1) := by decide +kernel
theorem dX4_sum_13 : decode cX4_sum 13 = .ok (.if_icmp .ge 20, 3) := by decide +kernel
theorem dX4_sum_16 : decode cX4_sum 16 = .ok (.aload_n 2, 1) := by decide +kernel
theorem dX4_sum_17 : decode cX4_sum 17 = .ok (.iload 4, 2) := by decide +kernel
theorem dX4_sum_19 : decode cX4_sum 19 = .ok (.iaload, 1) := by decide +kernel
theorem dX4_sum_20 : decode cX4_sum 20 = .ok (.istore 5, 2) := by decide +kernel
theorem dX4_sum_22 : decode cX4_sum 22 = .ok (.iload_n 1, 1) := by decide +kernel
theorem dX4_sum_23 : decode cX4_sum 23 = .ok (.iload 5, 2) := by decide +kernel
theorem dX4_sum_25 : decode cX4_sum 25 = .ok (.iadd, 1) := by decide +kernel
theorem dX4_sum_26 : decode cX4_sum 26 = .ok (.istore_n 1, 1) := by decide +kernel
theorem dX4_sum_27 : decode cX4_sum 27 = .ok (.iinc 4 1, 3) := by decide +kernel
theorem dX4_sum_30 : decode cX4_sum 30 = .ok (.goto (-20), 3) := by decide +kernel
theorem dX4_sum_33 : decode cX4_sum 33 = .ok (.iload_n 1, 1) := by decide +kernel
theorem dX4_sum_34 : decode cX4_sum 34 = .ok (.ireturn, 1) := by decide +kernel
theorem dX4_copy_0 : decode cX4_copy 0 = .ok (.aload_n 0, 1) := by decide +kernel
theorem dX4_copy_1 : decode cX4_copy 1 = .ok (.iconst 0, 1) := by decide +kernel
theorem dX4_copy_2 : decode cX4_copy 2 = .ok (.aload_n 1, 1) := by decide +kernel
theorem dX4_copy_3 : decode cX4_copy 3 = .ok (.iconst 0, 1) := by decide +kernel
theorem dX4_copy_4 : decode cX4_copy 4 = .ok (.aload_n 0, 1) := by decide +kernel
theorem dX4_copy_5 : decode cX4_copy 5 = .ok (.arraylength, 1) := by decide +kernel
theorem dX4_copy_6 : decode cX4_copy 6 = .ok (.aload_n 1, 1) := by decide +kernel
theorem dX4_copy_7 : decode cX4_copy 7 = .ok (.arraylength, 1) := by decide +kernel
theorem dX4_copy_8 : decode cX4_copy 8 = .ok (.invokestatic 184, 3) := by decide +kernel
theorem dX4_copy_11 : decode cX4_copy 11 = .ok (.invokestatic 189, 3) := by decide +kernel
theorem dX4_copy_14 : decode cX4_copy 14 = .ok (.return_, 1) := by decide +kernel
end
section
theorem dX5_init_0 : decode cX5_init 0 = .ok (.aload_n 0, 1) := by decide +kernel
theorem dX5_init_1 : decode cX5_init 1 = .ok (.invokespecial 1, 3) := by decide +kernel
theorem dX5_init_4 : decode cX5_init 4 = .ok (.aload_n 0, 1) := by decide +kernel
theorem dX5_init_5 : decode cX5_init 5 = .ok (.sipush 538, 3) := by decide +kernel
theorem dX5_init_8 : decode cX5_init 8 = .ok (.newarray .int, 2) := by decide +kernel
theorem dX5_init_10 : decode cX5_init 10 = .ok (.putfield 7, 3) := by decide +kernel
theorem dX5_init_13 : decode cX5_init 13 = .ok (.aload_n 0, 1) := by decide +kernel
theorem dX5_init_14 : decode cX5_init 14 = .ok (.sipush 538, 3) := by decide +kernel
theorem dX5_init_17 : decode cX5_init 17 = .ok (.newarray .int, 2) := by decide +kernel
theorem dX5_init_19 : decode cX5_init 19 = .ok (.putfield 13, 3) := by decide +kernel
theorem dX5_init_22 : decode cX5_init 22 = .ok (.aload_n 0, 1) := by decide +kernel
theorem dX5_init_23 : decode cX5_init 23 = .ok (.sipush 2152, 3) := by decide +kernel
theorem dX5_init_26 : decode cX5_init 26 = .ok (.newarray .int, 2) := by decide +kernel
theorem dX5_init_28 : decode cX5_init 28 = .ok (.putfield 16, 3) := by decide +kernel
theorem dX5_init_31 : decode cX5_init 31 = .ok (.aload_n 0, 1) := by decide +kernel
theorem dX5_init_32 : decode cX5_init 32 = .ok (.sipush 538, 3) := by decide +kernel
theorem dX5_init_35 : decode cX5_init 35 = .ok (.newarray .int, 2) := by decide +kernel
theorem dX5_init_37 : decode cX5_init 37 = .ok (.putfield 19, 3) := by decide +kernel
theorem dX5_init_40 : decode cX5_init 40 = .ok (.aload_n 0, 1) := by decide +kernel
theorem dX5_init_41 : decode cX5_init 41 = .ok (.bipush 60, 2) := by decide +kernel
theorem dX5_init_43 : decode cX5_init 43 = .ok (.newarray .char, 2) := by decide +kernel
theorem dX5_init_45 : decode cX5_init 45 = .ok (.putfield 22, 3) := by decide +kernel
theorem dX5_init_48 : decode cX5_init 48 = .ok (.aload_n 0, 1) := by decide +kernel
theorem dX5_init_49 : decode cX5_init 49 = .ok (.bipush 6, 2) := by decide +kernel
theorem dX5_init_51 : decode cX5_init 51 = .ok (.newarray .int, 2) := by decide +kernel
theorem dX5_init_53 : decode cX5_init 53 = .ok (.putfield 26, 3) := by decide +kernel
theorem dX5_init_56 : decode cX5_init 56 = .ok (.aload_n 0, 1) := by decide +kernel
theorem dX5_init_57 : decode cX5_init 57 = .ok (.bipush 6, 2) := by decide +kernel
theorem dX5_init_59 : decode cX5_init 59 = .ok (.newarray .int, 2) := by decide +kernel
theorem dX5_init_61 : decode cX5_init 61 = .ok (.putfield 29, 3) := by decide +kernel
theorem dX5_init_64 : decode cX5_init 64 = .ok (.iconst 0, 1) := by decide +kernel
theorem dX5_init_65 : decode cX5_init 65 = .ok (.istore_n 1, 1) := by decide +kernel
theorem dX5_init_66 : decode cX5_init 66 = .ok (.iload_n 1, 1) := by decide +kernel
theorem dX5_init_67 : decode cX5_init 67 = .ok (.bipush 120, 2) := by decide +kernel
theorem dX5_init_69 : decode cX5_init 69 = .ok (.if_icmp .ge 18, 3) := by decide +kernel
theorem dX5_init_72 : decode cX5_init 72 = .ok (.aload_n 0, 1) := by decide +kernel
theorem dX5_init_73 : decode cX5_init 73 = .ok (.getfield 7, 3) := by decide +kernel
theorem dX5_init_76 : decode cX5_init 76 = .ok (.iconst 0, 1) := by decide +kernel
theorem dX5_init_77 : decode cX5_init 77 = .ok (.iload_n 1, 1) := by decide +kernel
theorem dX5_init_78 : decode cX5_init 78 = .ok (.iadd, 1) := by decide +kernel
theorem dX5_init_79 : decode cX5_init 79 = .ok (.iconst 4, 1) := by decide +kernel
theorem dX5_init_80 : decode cX5_init 80 = .ok (.iastore, 1) := by decide +kernel
theorem dX5_init_81 : decode cX5_init 81 = .ok (.iinc 1 1, 3) := by decide +kernel
theorem dX5_init_84 : decode cX5_init 84 = .ok (.goto (-18), 3) := by decide +kernel
theorem dX5_init_87 : decode cX5_init 87 = .ok (.aload_n 0, 1) := by decide +kernel
theorem dX5_init_88 : decode cX5_init 88 = .ok (.getfield 7, 3) := by decide +kernel
theorem dX5_init_91 : decode cX5_init 91 = .ok (.sipush 531, 3) := by decide +kernel
theorem dX5_init_94 : decode cX5_init 94 = .ok (.bipush 6, 2) := by decide +kernel
theorem dX5_init_96 : decode cX5_init 96 = .ok (.iastore, 1) := by decide +kernel
theorem dX5_init_97 : decode cX5_init 97 = .ok (.aload_n 0, 1) := by decide +kernel
theorem dX5_init_98 : decode cX5_init 98 = .ok (.getfield 7, 3) := by decide +kernel
theorem dX5_init_101 : decode cX5_init 101 = .ok (.sipush 532, 3) := by decide +kernel
theorem dX5_init_104 : decode cX5_init 104 = .ok (.iconst 2, 1) := by decide +kernel
theorem dX5_init_105 : decode cX5_init 105 = .ok (.iastore, 1) := by decide +kernel
theorem dX5_init_106 : decode cX5_init 106 = .ok (.aload_n 0, 1) := by decide +kernel
theorem dX5_init_107 : decode cX5_init 107 = .ok (.getfield 7, 3) := by decide +kernel
theorem dX5_init_110 : decode cX5_init 110 = .ok (.sipush 533, 3) := by decide +kernel
theorem dX5_init_113 : decode cX5_init 113 = .ok (.iconst 5, 1) := by decide +kernel
theorem dX5_init_114 : decode cX5_init 114 = .ok (.iastore, 1) := by decide +kernel
theorem dX5_init_115 : decode cX5_init 115 = .ok (.aload_n 0, 1) := by decide +kernel
theorem dX5_init_116 : decode cX5_init 116 = .ok (.getfield 7, 3) := by decide +kernel
theorem dX5_init_119 : decode cX5_init 119 = .ok (.sipush 534, 3) := by decide +kernel
theorem dX5_init_122 : decode cX5_init 122 = .ok (.iconst 4, 1) := by decide +kernel
theorem dX5_init_123 : decode cX5_init 123 = .ok (.iastore, 1) := by decide +kernel
theorem dX5_init_124 : decode cX5_init 124 = .ok (.return_, 1) := by decide +kernel
theorem dX5_in_0 : decode cX5_in 0 = .ok (.iload_n 0, 1) := by decide +kernel
theorem dX5_in_1 : decode cX5_in 1 = .ok (.iload_n 1, 1) := by decide +kernel
theorem dX5_in_2 : decode cX5_in 2 = .ok (.if_icmp .lt 12, 3) := by decide +kernel
theorem dX5_in_5 : decode cX5_in 5 = .ok (.iload_n 0, 1) := by decide +kernel
theorem dX5_in_6 : decode cX5_in 6 = .ok (.iload_n 2, 1) := by decide +kernel
theorem dX5_in_7 : decode cX5_in 7 = .ok (.if_icmp .gt 7, 3) := by decide +kernel
theorem dX5_in_10 : decode cX5_in 10 = .ok (.iconst 1, 1) := by decide +kernel
theorem dX5_in_11 : decode cX5_in 11 = .ok (.goto 4, 3) := by decide +kernel
theorem dX5_in_14 : decode cX5_in 14 = .ok (.iconst 0, 1) := by decide +kernel
theorem dX5_in_15 : decode cX5_in 15 = .ok (.ireturn, 1) := by decide +kernel
theorem dX5_isLane_0 : decode cX5_isLane 0 = .ok (.iload_n 0, 1) := by decide +kernel
theorem dX5_isLane_1 : decode cX5_isLane 1 = .ok (.iconst 0, 1) := by decide +kernel
theorem dX5_isLane_2 : decode cX5_isLane 2 = .ok (.iconst 5, 1) := by decide +kernel
theorem dX5_isLane_3 : decode cX5_isLane 3 = .ok (.invokestatic 32, 3) := by decide +kernel
theorem dX5_isLane_6 : decode cX5_isLane 6 = .ok (.ireturn, 1) := by decide +kernel
theorem dX5_isCell_0 : decode cX5_isCell 0 = .ok (.iload_n 0, 1) := by decide +kernel
theorem dX5_isCell_1 : decode cX5_isCell 1 = .ok (.invokestatic 36, 3) := by decide +kernel
theorem dX5_isCell_4 : decode cX5_isCell 4 = .ok (.ifCond .eq 17, 3) := by decide +kernel
theorem dX5_isCell_7 : decode cX5_isCell 7 = .ok (.iload_n 1, 1) := by decide +kernel
theorem dX5_isCell_8 : decode cX5_isCell 8 = .ok (.iconst 0, 1) := by decide +kernel
theorem dX5_isCell_9 : decode cX5_isCell 9 = .ok (.bipush 19, 2) := by decide +kernel
theorem dX5_isCell_11 : decode cX5_isCell 11 = .ok (.invokestatic 32, 3) := by decide +kernel
theorem dX5_isCell_14 : decode cX5_isCell 14 = .ok (.ifCond .eq 7, 3) := by decide +kernel
theorem dX5_isCell_17 : decode cX5_isCell 17 = .ok (.iconst 1, 1) := by decide +kernel
theorem dX5_isCell_18 : decode cX5_isCell 18 = .ok (.goto 4, 3) := by decide +kernel
theorem dX5_isCell_21 : decode cX5_isCell 21 = .ok (.iconst 0, 1) := by decide +kernel
theorem dX5_isCell_22 : decode cX5_isCell 22 = .ok (.ireturn, 1) := by decide +kernel
theorem dX5_isSnail_0 : decode cX5_isSnail 0 = .ok (.iload_n 1, 1) := by decide +kernel
theorem dX5_isSnail_1 : decode cX5_isSnail 1 = .ok (.iconst 0, 1) := by decide +kernel
theorem dX5_isSnail_2 : decode cX5_isSnail 2 = .ok (.aload_n 0, 1) := by decide +kernel
theorem dX5_isSnail_3 : decode cX5_isSnail 3 = .ok (.getfield 7, 3) := by decide +kernel
theorem dX5_isSnail_6 : decode cX5_isSnail 6 = .ok (.sipush 535, 3) := by decide +kernel
theorem dX5_isSnail_9 : decode cX5_isSnail 9 = .ok (.iaload, 1) := by decide +kernel
theorem dX5_isSnail_10 : decode cX5_isSnail 10 = .ok (.iconst 1, 1) := by decide +kernel
theorem dX5_isSnail_11 : decode cX5_isSnail 11 = .ok (.isub, 1) := by decide +kernel
theorem dX5_isSnail_12 : decode cX5_isSnail 12 = .ok (.invokestatic 32, 3) := by decide +kernel
theorem dX5_isSnail_15 : decode cX5_isSnail 15 = .ok (.ireturn, 1) := by decide +kernel
theorem dX5_of_0 : decode cX5_of 0 = .ok (.sipush 360, 3) := by decide +kernel
theorem dX5_of_3 : decode cX5_of 3 = .ok (.bipush 10, 2) := by decide +kernel
theorem dX5_of_5 : decode cX5_of 5 = .ok (.iload_n 0, 1) := by decide +kernel
theorem dX5_of_6 : decode cX5_of 6 = .ok (.imul, 1) := by decide +kernel
theorem dX5_of_7 : decode cX5_of 7 = .ok (.iadd, 1) := by decide +kernel
theorem dX5_of_8 : decode cX5_of 8 = .ok (.iload_n 1, 1) := by decide +kernel
theorem dX5_of_9 : decode cX5_of 9 = .ok (.iadd, 1) := by decide +kernel
theorem dX5_of_10 : decode cX5_of 10 = .ok (.ireturn, 1) := by decide +kernel
theorem dX5_at_0 : decode cX5_at 0 = .ok (.bipush 6, 2) := by decide +kernel
theorem dX5_at_2 : decode cX5_at 2 = .ok (.iload_n 1, 1) := by decide +kernel
theorem dX5_at_3 : decode cX5_at 3 = .ok (.imul, 1) := by decide +kernel
theorem dX5_at_4 : decode cX5_at 4 = .ok (.iload_n 0, 1) := by decide +kernel
theorem dX5_at_5 : decode cX5_at 5 = .ok (.iadd, 1) := by decide +kernel
theorem dX5_at_6 : decode cX5_at 6 = .ok (.ireturn, 1) := by decide +kernel
theorem dX5_creeps_0 : decode cX5_creeps 0 = .ok (.aload_n 0, 1) := by decide +kernel
theorem dX5_creeps_1 : decode cX5_creeps 1 = .ok (.getfield 7, 3) := by decide +kernel
theorem dX5_creeps_4 : decode cX5_creeps 4 = .ok (.iload_n 1, 1) := by decide +kernel
theorem dX5_creeps_5 : decode cX5_creeps 5 = .ok (.iconst 3, 1) := by decide +kernel
theorem dX5_creeps_6 : decode cX5_creeps 6 = .ok (.invokestatic 40, 3) := by decide +kernel
theorem dX5_creeps_9 : decode cX5_creeps 9 = .ok (.iaload, 1) := by decide +kernel
theorem dX5_creeps_10 : decode cX5_creeps 10 = .ok (.ifCond .ne 7, 3) := by decide +kernel
theorem dX5_creeps_13 : decode cX5_creeps 13 = .ok (.iconst 1, 1) := by decide +kernel
theorem dX5_creeps_14 : decode cX5_creeps 14 = .ok (.goto 4, 3) := by decide +kernel
theorem dX5_creeps_17 : decode cX5_creeps 17 = .ok (.iconst 0, 1) := by decide +kernel
theorem dX5_creeps_18 : decode cX5_creeps 18 = .ok (.ireturn, 1) := by decide +kernel
theorem dX5_records_0 : decode cX5_records 0 = .ok (.aload_n 0, 1) := by decide +kernel
theorem dX5_records_1 : decode cX5_records 1 = .ok (.getfield 44, 3) := by decide +kernel
theorem dX5_records_4 : decode cX5_records 4 = .ok (.iconst 4, 1) := by decide +kernel
theorem dX5_records_5 : decode cX5_records 5 = .ok (.if_icmp .ne 44, 3) := by decide +kernel
theorem dX5_records_8 : decode cX5_records 8 = .ok (.iconst 0, 1) := by decide +kernel
theorem dX5_records_9 : decode cX5_records 9 = .ok (.istore_n 1, 1) := by decide +kernel
theorem dX5_records_10 : decode cX5_records 10 = .ok (.iload_n 1, 1) := by decide +kernel
theorem dX5_records_11 : decode cX5_records 11 = .ok (.sipush 1614, 3) := by decide +kernel
theorem dX5_records_14 : decode cX5_records 14 = .ok (.if_icmp .ge 25, 3) := by decide +kernel
theorem dX5_records_17 : decode cX5_records 17 = .ok (.aload_n 0, 1) := by decide +kernel
theorem dX5_records_18 : decode cX5_records 18 = .ok (.getfield 16, 3) := by decide +kernel
theorem dX5_records_21 : decode cX5_records 21 = .ok (.iload_n 1, 1) := by decide +kernel
theorem dX5_records_22 : decode cX5_records 22 = .ok (.aload_n 0, 1) := by decide +kernel
theorem dX5_records_23 : decode cX5_records 23 = .ok (.getfield 16, 3) := by decide +kernel
theorem dX5_records_26 : decode cX5_records 26 = .ok (.sipush 538, 3) := by decide +kernel
theorem dX5_records_29 : decode cX5_records 29 = .ok (.iload_n 1, 1) := by decide +kernel
theorem dX5_records_30 : decode cX5_records 30 = .ok (.iadd, 1) := by decide +kernel
theorem dX5_records_31 : decode cX5_records 31 = .ok (.iaload, 1) := by decide +kernel
theorem dX5_records_32 : decode cX5_records 32 = .ok (.iastore, 1) := by decide +kernel
theorem dX5_records_33 : decode cX5_records 33 = .ok (.iinc 1 1, 3) := by decide +kernel
theorem dX5_records_36 : decode cX5_records 36 = .ok (.goto (-26), 3) := by decide +kernel
theorem dX5_records_39 : decode cX5_records 39 = .ok (.aload_n 0, 1) := by decide +kernel
theorem dX5_records_40 : decode cX5_records 40 = .ok (.dup, 1) := by decide +kernel
theorem dX5_records_41 : decode cX5_records 41 = .ok (.getfield 44, 3) := by decide +kernel
theorem dX5_records_44 : decode cX5_records 44 = .ok (.iconst 1, 1) := by decide +kernel
theorem dX5_records_45 : decode cX5_records 45 = .ok (.isub, 1) := by decide +kernel
theorem dX5_records_46 : decode cX5_records 46 = .ok (.putfield 44, 3) := by decide +kernel
theorem dX5_records_49 : decode cX5_records 49 = .ok (.iconst 0, 1) := by decide +kernel
theorem dX5_records_50 : decode cX5_records 50 = .ok (.istore_n 1, 1) := by decide +kernel
theorem dX5_records_51 : decode cX5_records 51 = .ok (.iload_n 1, 1) := by decide +kernel
theorem dX5_records_52 : decode cX5_records 52 = .ok (.sipush 538, 3) := by decide +kernel
theorem dX5_records_55 : decode cX5_records 55 = .ok (.if_icmp .ge 30, 3) := by decide +kernel
theorem dX5_records_58 : decode cX5_records 58 = .ok (.aload_n 0, 1) := by decide +kernel
theorem dX5_records_59 : decode cX5_records 59 = .ok (.getfield 16, 3) := by decide +kernel
theorem dX5_records_62 : decode cX5_records 62 = .ok (.sipush 538, 3) := by decide +kernel
theorem dX5_records_65 : decode cX5_records 65 = .ok (.aload_n 0, 1) := by decide +kernel
theorem dX5_records_66 : decode cX5_records 66 = .ok (.getfield 44, 3) := by decide +kernel
theorem dX5_records_69 : decode cX5_records 69 = .ok (.imul, 1) := by decide +kernel
theorem dX5_records_70 : decode cX5_records 70 = .ok (.iload_n 1, 1) := by decide +kernel
theorem dX5_records_71 : decode cX5_records 71 = .ok (.iadd, 1) := by decide +kernel
theorem dX5_records_72 : decode cX5_records 72 = .ok (.aload_n 0, 1) := by decide +kernel
theorem dX5_records_73 : decode cX5_records 73 = .ok (.getfield 7, 3) := by decide +kernel
theorem dX5_records_76 : decode cX5_records 76 = .ok (.iload_n 1, 1) := by decide +kernel
theorem dX5_records_77 : decode cX5_records 77 = .ok (.iaload, 1) := by decide +kernel
theorem dX5_records_78 : decode cX5_records 78 = .ok (.iastore, 1) := by decide +kernel
theorem dX5_records_79 : decode cX5_records 79 = .ok (.iinc 1 1, 3) := by decide +kernel
theorem dX5_records_82 : decode cX5_records 82 = .ok (.goto (-31), 3) := by decide +kernel
theorem dX5_records_85 : decode cX5_records 85 = .ok (.aload_n 0, 1) := by decide +kernel
theorem dX5_records_86 : decode cX5_records 86 = .ok (.dup, 1) := by decide +kernel
theorem dX5_records_87 : decode cX5_records 87 = .ok (.getfield 44, 3) := by decide +kernel
theorem dX5_records_90 : decode cX5_records 90 = .ok (.iconst 1, 1) := by decide +kernel
theorem dX5_records_91 : decode cX5_records 91 = .ok (.iadd, 1) := by decide +kernel
theorem dX5_records_92 : decode cX5_records 92 = .ok (.putfield 44, 3) := by decide +kernel
theorem dX5_records_95 : decode cX5_records 95 = .ok (.return_, 1) := by decide +kernel
theorem dX5_putAside_0 : decode cX5_putAside 0 = .ok (.iconst 0, 1) := by decide +kernel
theorem dX5_putAside_1 : decode cX5_putAside 1 = .ok (.istore_n 1, 1) := by decide +kernel
theorem dX5_putAside_2 : decode cX5_putAside 2 = .ok (.iload_n 1, 1) := by decide +kernel
theorem dX5_putAside_3 : decode cX5_putAside 3 = .ok (.sipush 538, 3) := by decide +kernel
theorem dX5_putAside_6 : decode cX5_putAside 6 = .ok (.if_icmp .ge 21, 3) := by decide +kernel
theorem dX5_putAside_9 : decode cX5_putAside 9 = .ok (.aload_n 0, 1) := by decide +kernel
theorem dX5_putAside_10 : decode cX5_putAside 10 = .ok (.getfield 13, 3) := by decide +kernel
theorem dX5_putAside_13 : decode cX5_putAside 13 = .ok (.iload_n 1, 1) := by decide +kernel
theorem dX5_putAside_14 : decode cX5_putAside 14 = .ok (.aload_n 0, 1) := by decide +kernel
theorem dX5_putAside_15 : decode cX5_putAside 15 = .ok (.getfield 7, 3) := by decide +kernel
theorem dX5_putAside_18 : decode cX5_putAside 18 = .ok (.iload_n 1, 1) := by decide +kernel
theorem dX5_putAside_19 : decode cX5_putAside 19 = .ok (.iaload, 1) := by decide +kernel
theorem dX5_putAside_20 : decode cX5_putAside 20 = .ok (.iastore, 1) := by decide +kernel
theorem dX5_putAside_21 : decode cX5_putAside 21 = .ok (.iinc 1 1, 3) := by decide +kernel
theorem dX5_putAside_24 : decode cX5_putAside 24 = .ok (.goto (-22), 3) := by decide +kernel
theorem dX5_putAside_27 : decode cX5_putAside 27 = .ok (.return_, 1) := by decide +kernel
theorem dX5_putBack_0 : decode cX5_putBack 0 = .ok (.iconst 0, 1) := by decide +kernel
theorem dX5_putBack_1 : decode cX5_putBack 1 = .ok (.istore_n 1, 1) := by decide +kernel
theorem dX5_putBack_2 : decode cX5_putBack 2 = .ok (.iload_n 1, 1) := by decide +kernel
theorem dX5_putBack_3 : decode cX5_putBack 3 = .ok (.sipush 538, 3) := by decide +kernel
theorem dX5_putBack_6 : decode cX5_putBack 6 = .ok (.if_icmp .ge 21, 3) := by decide +kernel
theorem dX5_putBack_9 : decode cX5_putBack 9 = .ok (.aload_n 0, 1) := by decide +kernel
theorem dX5_putBack_10 : decode cX5_putBack 10 = .ok (.getfield 7, 3) := by decide +kernel
theorem dX5_putBack_13 : decode cX5_putBack 13 = .ok (.iload_n 1, 1) := by decide +kernel
theorem dX5_putBack_14 : decode cX5_putBack 14 = .ok (.aload_n 0, 1) := by decide +kernel
theorem dX5_putBack_15 : decode cX5_putBack 15 = .ok (.getfield 13, 3) := by decide +kernel
theorem dX5_putBack_18 : decode cX5_putBack 18 = .ok (.iload_n 1, 1) := by decide +kernel
theorem dX5_putBack_19 : decode cX5_putBack 19 = .ok (.iaload, 1) := by decide +kernel
theorem dX5_putBack_20 : decode cX5_putBack 20 = .ok (.iastore, 1) := by decide +kernel
theorem dX5_putBack_21 : decode cX5_putBack 21 = .ok (.iinc 1 1, 3) := by decide +kernel
theorem dX5_putBack_24 : decode cX5_putBack 24 = .ok (.goto (-22), 3) := by decide +kernel
theorem dX5_putBack_27 : decode cX5_putBack 27 = .ok (.return_, 1) := by decide +kernel
theorem dX5_snailOn_0 : decode cX5_snailOn 0 = .ok (.iconst 0, 1) := by decide +kernel
theorem dX5_snailOn_1 : decode cX5_snailOn 1 = .ok (.istore_n 3, 1) := by decide +kernel
theorem dX5_snailOn_2 : decode cX5_snailOn 2 = .ok (.iload_n 3, 1) := by decide +kernel
theorem dX5_snailOn_3 : decode cX5_snailOn 3 = .ok (.aload_n 0, 1) := by decide +kernel
theorem dX5_snailOn_4 : decode cX5_snailOn 4 = .ok (.getfield 7, 3) := by decide +kernel
theorem dX5_snailOn_7 : decode cX5_snailOn 7 = .ok (.sipush 535, 3) := by decide +kernel
theorem dX5_snailOn_10 : decode cX5_snailOn 10 = .ok (.iaload, 1) := by decide +kernel
theorem dX5_snailOn_11 : decode cX5_snailOn 11 = .ok (.if_icmp .ge 47, 3) := by decide +kernel
theorem dX5_snailOn_14 : decode cX5_snailOn 14 = .ok (.aload_n 0, 1) := by decide +kernel
theorem dX5_snailOn_15 : decode cX5_snailOn 15 = .ok (.iload_n 3, 1) := by decide +kernel
theorem dX5_snailOn_16 : decode cX5_snailOn 16 = .ok (.invokevirtual 48, 3) := by decide +kernel
theorem dX5_snailOn_19 : decode cX5_snailOn 19 = .ok (.ifCond .eq 33, 3) := by decide +kernel
theorem dX5_snailOn_22 : decode cX5_snailOn 22 = .ok (.aload_n 0, 1) := by decide +kernel
theorem dX5_snailOn_23 : decode cX5_snailOn 23 = .ok (.getfield 7, 3) := by decide +kernel
theorem dX5_snailOn_26 : decode cX5_snailOn 26 = .ok (.iload_n 3, 1) := by decide +kernel
theorem dX5_snailOn_27 : decode cX5_snailOn 27 = .ok (.iconst 0, 1) := by decide +kernel
theorem dX5_snailOn_28 : decode cX5_snailOn 28 = .ok (.invokestatic 40, 3) := by decide +kernel
theorem dX5_snailOn_31 : decode cX5_snailOn 31 = .ok (.iaload, 1) := by decide +kernel
theorem dX5_snailOn_32 : decode cX5_snailOn 32 = .ok (.iload_n 1, 1) := by decide +kernel
theorem dX5_snailOn_33 : decode cX5_snailOn 33 = .ok (.if_icmp .ne 19, 3) := by decide +kernel
theorem dX5_snailOn_36 : decode cX5_snailOn 36 = .ok (.aload_n 0, 1) := by decide +kernel
theorem dX5_snailOn_37 : decode cX5_snailOn 37 = .ok (.getfield 7, 3) := by decide +kernel
theorem dX5_snailOn_40 : decode cX5_snailOn 40 = .ok (.iload_n 3, 1) := by decide +kernel
theorem dX5_snailOn_41 : decode cX5_snailOn 41 = .ok (.iconst 1, 1) := by decide +kernel
theorem dX5_snailOn_42 : decode cX5_snailOn 42 = .ok (.invokestatic 40, 3) := by decide +kernel
theorem dX5_snailOn_45 : decode cX5_snailOn 45 = .ok (.iaload, 1) := by decide +kernel
theorem dX5_snailOn_46 : decode cX5_snailOn 46 = .ok (.iload_n 2, 1) := by decide +kernel
theorem dX5_snailOn_47 : decode cX5_snailOn 47 = .ok (.if_icmp .ne 5, 3) := by decide +kernel
theorem dX5_snailOn_50 : decode cX5_snailOn 50 = .ok (.iload_n 3, 1) := by decide +kernel
theorem dX5_snailOn_51 : decode cX5_snailOn 51 = .ok (.ireturn, 1) := by decide +kernel
theorem dX5_snailOn_52 : decode cX5_snailOn 52 = .ok (.iinc 3 1, 3) := by decide +kernel
theorem dX5_snailOn_55 : decode cX5_snailOn 55 = .ok (.goto (-53), 3) := by decide +kernel
theorem dX5_snailOn_58 : decode cX5_snailOn 58 = .ok (.bipush (-5), 2) := by decide +kernel
theorem dX5_snailOn_60 : decode cX5_snailOn 60 = .ok (.ireturn, 1) := by decide +kernel
theorem dX5_barSnail_0 : decode cX5_barSnail 0 = .ok (.iload_n 1, 1) := by decide +kernel
theorem dX5_barSnail_1 : decode cX5_barSnail 1 = .ok (.invokestatic 36, 3) := by decide +kernel
theorem dX5_barSnail_4 : decode cX5_barSnail 4 = .ok (.ifCond .ne 7, 3) := by decide +kernel
theorem dX5_barSnail_7 : decode cX5_barSnail 7 = .ok (.iconst (-1), 1) := by decide +kernel
theorem dX5_barSnail_8 : decode cX5_barSnail 8 = .ok (.goto 53, 3) := by decide +kernel
theorem dX5_barSnail_11 : decode cX5_barSnail 11 = .ok (.iload_n 2, 1) := by decide +kernel
theorem dX5_barSnail_12 : decode cX5_barSnail 12 = .ok (.iconst 0, 1) := by decide +kernel
theorem dX5_barSnail_13 : decode cX5_barSnail 13 = .ok (.bipush 99, 2) := by decide +kernel
theorem dX5_barSnail_15 : decode cX5_barSnail 15 = .ok (.invokestatic 32, 3) := by decide +kernel
theorem dX5_barSnail_18 : decode cX5_barSnail 18 = .ok (.ifCond .ne 8, 3) := by decide +kernel
theorem dX5_barSnail_21 : decode cX5_barSnail 21 = .ok (.bipush (-2), 2) := by decide +kernel
theorem dX5_barSnail_23 : decode cX5_barSnail 23 = .ok (.goto 38, 3) := by decide +kernel
theorem dX5_barSnail_26 : decode cX5_barSnail 26 = .ok (.aload_n 0, 1) := by decide +kernel
theorem dX5_barSnail_27 : decode cX5_barSnail 27 = .ok (.iload_n 1, 1) := by decide +kernel
theorem dX5_barSnail_28 : decode cX5_barSnail 28 = .ok (.iconst 0, 1) := by decide +kernel
theorem dX5_barSnail_29 : decode cX5_barSnail 29 = .ok (.invokevirtual 51, 3) := by decide +kernel
theorem dX5_barSnail_32 : decode cX5_barSnail 32 = .ok (.bipush (-5), 2) := by decide +kernel
theorem dX5_barSnail_34 : decode cX5_barSnail 34 = .ok (.if_icmp .eq 8, 3) := by decide +kernel
theorem dX5_barSnail_37 : decode cX5_barSnail 37 = .ok (.bipush (-4), 2) := by decide +kernel
theorem dX5_barSnail_39 : decode cX5_barSnail 39 = .ok (.goto 22, 3) := by decide +kernel
theorem dX5_barSnail_42 : decode cX5_barSnail 42 = .ok (.aload_n 0, 1) := by decide +kernel
theorem dX5_barSnail_43 : decode cX5_barSnail 43 = .ok (.getfield 7, 3) := by decide +kernel
theorem dX5_barSnail_46 : decode cX5_barSnail 46 = .ok (.sipush 535, 3) := by decide +kernel
theorem dX5_barSnail_49 : decode cX5_barSnail 49 = .ok (.iaload, 1) := by decide +kernel
theorem dX5_barSnail_50 : decode cX5_barSnail 50 = .ok (.bipush 8, 2) := by decide +kernel
theorem dX5_barSnail_52 : decode cX5_barSnail 52 = .ok (.if_icmp .ne 8, 3) := by decide +kernel
theorem dX5_barSnail_55 : decode cX5_barSnail 55 = .ok (.bipush (-3), 2) := by decide +kernel
theorem dX5_barSnail_57 : decode cX5_barSnail 57 = .ok (.goto 4, 3) := by decide +kernel
theorem dX5_barSnail_60 : decode cX5_barSnail 60 = .ok (.iconst 0, 1) := by decide +kernel
theorem dX5_barSnail_61 : decode cX5_barSnail 61 = .ok (.ireturn, 1) := by decide +kernel
theorem dX5_comes_0 : decode cX5_comes 0 = .ok (.aload_n 0, 1) := by decide +kernel
theorem dX5_comes_1 : decode cX5_comes 1 = .ok (.getfield 7, 3) := by decide +kernel
theorem dX5_comes_4 : decode cX5_comes 4 = .ok (.sipush 535, 3) := by decide +kernel
theorem dX5_comes_7 : decode cX5_comes 7 = .ok (.iaload, 1) := by decide +kernel
theorem dX5_comes_8 : decode cX5_comes 8 = .ok (.istore_n 3, 1) := by decide +kernel
theorem dX5_comes_9 : decode cX5_comes 9 = .ok (.iconst 0, 1) := by decide +kernel
theorem dX5_comes_10 : decode cX5_comes 10 = .ok (.istore 4, 2) := by decide +kernel
theorem dX5_comes_12 : decode cX5_comes 12 = .ok (.iload 4, 2) := by decide +kernel
theorem dX5_comes_14 : decode cX5_comes 14 = .ok (.bipush 10, 2) := by decide +kernel
theorem dX5_comes_16 : decode cX5_comes 16 = .ok (.if_icmp .ge 21, 3) := by decide +kernel
theorem dX5_comes_19 : decode cX5_comes 19 = .ok (.aload_n 0, 1) := by decide +kernel
theorem dX5_comes_20 : decode cX5_comes 20 = .ok (.getfield 7, 3) := by decide +kernel
theorem dX5_comes_23 : decode cX5_comes 23 = .ok (.iload_n 3, 1) := by decide +kernel
theorem dX5_comes_24 : decode cX5_comes 24 = .ok (.iload 4, 2) := by decide +kernel
theorem dX5_comes_26 : decode cX5_comes 26 = .ok (.invokestatic 40, 3) := by decide +kernel
theorem dX5_comes_29 : decode cX5_comes 29 = .ok (.iconst 0, 1) := by decide +kernel
theorem dX5_comes_30 : decode cX5_comes 30 = .ok (.iastore, 1) := by decide +kernel
theorem dX5_comes_31 : decode cX5_comes 31 = .ok (.iinc 4 1, 3) := by decide +kernel
theorem dX5_comes_34 : decode cX5_comes 34 = .ok (.goto (-22), 3) := by decide +kernel
theorem dX5_comes_37 : decode cX5_comes 37 = .ok (.iconst 0, 1) := by decide +kernel
theorem dX5_comes_38 : decode cX5_comes 38 = .ok (.istore 4, 2) := by decide +kernel
theorem dX5_comes_40 : decode cX5_comes 40 = .ok (.iload 4, 2) := by decide +kernel
theorem dX5_comes_42 : decode cX5_comes 42 = .ok (.bipush 8, 2) := by decide +kernel
theorem dX5_comes_44 : decode cX5_comes 44 = .ok (.if_icmp .gt 43, 3) := by decide +kernel
theorem dX5_comes_47 : decode cX5_comes 47 = .ok (.aload_n 0, 1) := by decide +kernel
theorem dX5_comes_48 : decode cX5_comes 48 = .ok (.getfield 7, 3) := by decide +kernel
theorem dX5_comes_51 : decode cX5_comes 51 = .ok (.sipush 450, 3) := by decide +kernel
theorem dX5_comes_54 : decode cX5_comes 54 = .ok (.bipush 9, 2) := by decide +kernel
theorem dX5_comes_56 : decode cX5_comes 56 = .ok (.iload_n 3, 1) := by decide +kernel
theorem dX5_comes_57 : decode cX5_comes 57 = .ok (.imul, 1) := by decide +kernel
theorem dX5_comes_58 : decode cX5_comes 58 = .ok (.iadd, 1) := by decide +kernel
theorem dX5_comes_59 : decode cX5_comes 59 = .ok (.iload 4, 2) := by decide +kernel
theorem dX5_comes_61 : decode cX5_comes 61 = .ok (.iadd, 1) := by decide +kernel
theorem dX5_comes_62 : decode cX5_comes 62 = .ok (.iconst 0, 1) := by decide +kernel
theorem dX5_comes_63 : decode cX5_comes 63 = .ok (.iastore, 1) := by decide +kernel
theorem dX5_comes_64 : decode cX5_comes 64 = .ok (.aload_n 0, 1) := by decide +kernel
theorem dX5_comes_65 : decode cX5_comes 65 = .ok (.getfield 7, 3) := by decide +kernel
theorem dX5_comes_68 : decode cX5_comes 68 = .ok (.sipush 450, 3) := by decide +kernel
theorem dX5_comes_71 : decode cX5_comes 71 = .ok (.bipush 9, 2) := by decide +kernel
theorem dX5_comes_73 : decode cX5_comes 73 = .ok (.iload 4, 2) := by decide +kernel
theorem dX5_comes_75 : decode cX5_comes 75 = .ok (.imul, 1) := by decide +kernel
theorem dX5_comes_76 : decode cX5_comes 76 = .ok (.iadd, 1) := by decide +kernel
theorem dX5_comes_77 : decode cX5_comes 77 = .ok (.iload_n 3, 1) := by decide +kernel
theorem dX5_comes_78 : decode cX5_comes 78 = .ok (.iadd, 1) := by decide +kernel
theorem dX5_comes_79 : decode cX5_comes 79 = .ok (.iconst 0, 1) := by decide +kernel
theorem dX5_comes_80 : decode cX5_comes 80 = .ok (.iastore, 1) := by decide +kernel
theorem dX5_comes_81 : decode cX5_comes 81 = .ok (.iinc 4 1, 3) := by decide +kernel
theorem dX5_comes_84 : decode cX5_comes 84 = .ok (.goto (-44), 3) := by decide +kernel
theorem dX5_comes_87 : decode cX5_comes 87 = .ok (.aload_n 0, 1) := by decide +kernel
theorem dX5_comes_88 : decode cX5_comes 88 = .ok (.getfield 7, 3) := by decide +kernel
theorem dX5_comes_91 : decode cX5_comes 91 = .ok (.iload_n 3, 1) := by decide +kernel
theorem dX5_comes_92 : decode cX5_comes 92 = .ok (.iconst 0, 1) := by decide +kernel
theorem dX5_comes_93 : decode cX5_comes 93 = .ok (.invokestatic 40, 3) := by decide +kernel
theorem dX5_comes_96 : decode cX5_comes 96 = .ok (.iload_n 1, 1) := by decide +kernel
theorem dX5_comes_97 : decode cX5_comes 97 = .ok (.iastore, 1) := by decide +kernel
theorem dX5_comes_98 : decode cX5_comes 98 = .ok (.aload_n 0, 1) := by decide +kernel
theorem dX5_comes_99 : decode cX5_comes 99 = .ok (.getfield 7, 3) := by decide +kernel
theorem dX5_comes_102 : decode cX5_comes 102 = .ok (.iload_n 3, 1) := by decide +kernel
theorem dX5_comes_103 : decode cX5_comes 103 = .ok (.iconst 2, 1) := by decide +kernel
theorem dX5_comes_104 : decode cX5_comes 104 = .ok (.invokestatic 40, 3) := by decide +kernel
theorem dX5_comes_107 : decode cX5_comes 107 = .ok (.iload_n 2, 1) := by decide +kernel
theorem dX5_comes_108 : decode cX5_comes 108 = .ok (.iastore, 1) := by decide +kernel
theorem dX5_comes_109 : decode cX5_comes 109 = .ok (.aload_n 0, 1) := by decide +kernel
theorem dX5_comes_110 : decode cX5_comes 110 = .ok (.getfield 7, 3) := by decide +kernel
theorem dX5_comes_113 : decode cX5_comes 113 = .ok (.sipush 535, 3) := by decide +kernel
theorem dX5_comes_116 : decode cX5_comes 116 = .ok (.dup2, 1) := by decide +kernel
theorem dX5_comes_117 : decode cX5_comes 117 = .ok (.iaload, 1) := by decide +kernel
theorem dX5_comes_118 : decode cX5_comes 118 = .ok (.iconst 1, 1) := by decide +kernel
theorem dX5_comes_119 : decode cX5_comes 119 = .ok (.iadd, 1) := by decide +kernel
theorem dX5_comes_120 : decode cX5_comes 120 = .ok (.iastore, 1) := by decide +kernel
theorem dX5_comes_121 : decode cX5_comes 121 = .ok (.iload_n 3, 1) := by decide +kernel
theorem dX5_comes_122 : decode cX5_comes 122 = .ok (.ireturn, 1) := by decide +kernel
theorem dX5_setSnail_0 : decode cX5_setSnail 0 = .ok (.aload_n 0, 1) := by decide +kernel
theorem dX5_setSnail_1 : decode cX5_setSnail 1 = .ok (.iload_n 1, 1) := by decide +kernel
theorem dX5_setSnail_2 : decode cX5_setSnail 2 = .ok (.iload_n 2, 1) := by decide +kernel
theorem dX5_setSnail_3 : decode cX5_setSnail 3 = .ok (.invokevirtual 54, 3) := by decide +kernel
theorem dX5_setSnail_6 : decode cX5_setSnail 6 = .ok (.istore_n 3, 1) := by decide +kernel
theorem dX5_setSnail_7 : decode cX5_setSnail 7 = .ok (.iload_n 3, 1) := by decide +kernel
theorem dX5_setSnail_8 : decode cX5_setSnail 8 = .ok (.ifCond .ge 5, 3) := by decide +kernel
theorem dX5_setSnail_11 : decode cX5_setSnail 11 = .ok (.iload_n 3, 1) := by decide +kernel
theorem dX5_setSnail_12 : decode cX5_setSnail 12 = .ok (.ireturn, 1) := by decide +kernel
theorem dX5_setSnail_13 : decode cX5_setSnail 13 = .ok (.aload_n 0, 1) := by decide +kernel
theorem dX5_setSnail_14 : decode cX5_setSnail 14 = .ok (.invokevirtual 57, 3) := by decide +kernel
theorem dX5_setSnail_17 : decode cX5_setSnail 17 = .ok (.aload_n 0, 1) := by decide +kernel
theorem dX5_setSnail_18 : decode cX5_setSnail 18 = .ok (.iload_n 1, 1) := by decide +kernel
theorem dX5_setSnail_19 : decode cX5_setSnail 19 = .ok (.iload_n 2, 1) := by decide +kernel
theorem dX5_setSnail_20 : decode cX5_setSnail 20 = .ok (.invokevirtual 60, 3) := by decide +kernel
theorem dX5_setSnail_23 : decode cX5_setSnail 23 = .ok (.ireturn, 1) := by decide +kernel
theorem dX5_takeOff_0 : decode cX5_takeOff 0 = .ok (.aload_n 0, 1) := by decide +kernel
theorem dX5_takeOff_1 : decode cX5_takeOff 1 = .ok (.iload_n 1, 1) := by decide +kernel
theorem dX5_takeOff_2 : decode cX5_takeOff 2 = .ok (.invokevirtual 63, 3) := by decide +kernel
theorem dX5_takeOff_5 : decode cX5_takeOff 5 = .ok (.ifCond .ne 5, 3) := by decide +kernel
theorem dX5_takeOff_8 : decode cX5_takeOff 8 = .ok (.iconst (-1), 1) := by decide +kernel
theorem dX5_takeOff_9 : decode cX5_takeOff 9 = .ok (.ireturn, 1) := by decide +kernel
theorem dX5_takeOff_10 : decode cX5_takeOff 10 = .ok (.aload_n 0, 1) := by decide +kernel
theorem dX5_takeOff_11 : decode cX5_takeOff 11 = .ok (.iload_n 1, 1) := by decide +kernel
theorem dX5_takeOff_12 : decode cX5_takeOff 12 = .ok (.invokevirtual 48, 3) := by decide +kernel
theorem dX5_takeOff_15 : decode cX5_takeOff 15 = .ok (.ifCond .ne 6, 3) := by decide +kernel
theorem dX5_takeOff_18 : decode cX5_takeOff 18 = .ok (.bipush (-4), 2) := by decide +kernel
theorem dX5_takeOff_20 : decode cX5_takeOff 20 = .ok (.ireturn, 1) := by decide +kernel
theorem dX5_takeOff_21 : decode cX5_takeOff 21 = .ok (.aload_n 0, 1) := by decide +kernel
theorem dX5_takeOff_22 : decode cX5_takeOff 22 = .ok (.invokevirtual 57, 3) := by decide +kernel
theorem dX5_takeOff_25 : decode cX5_takeOff 25 = .ok (.aload_n 0, 1) := by decide +kernel
theorem dX5_takeOff_26 : decode cX5_takeOff 26 = .ok (.getfield 7, 3) := by decide +kernel
theorem dX5_takeOff_29 : decode cX5_takeOff 29 = .ok (.iload_n 1, 1) := by decide +kernel
theorem dX5_takeOff_30 : decode cX5_takeOff 30 = .ok (.iconst 3, 1) := by decide +kernel
theorem dX5_takeOff_31 : decode cX5_takeOff 31 = .ok (.invokestatic 40, 3) := by decide +kernel
theorem dX5_takeOff_34 : decode cX5_takeOff 34 = .ok (.iconst 2, 1) := by decide +kernel
theorem dX5_takeOff_35 : decode cX5_takeOff 35 = .ok (.iastore, 1) := by decide +kernel
theorem dX5_takeOff_36 : decode cX5_takeOff 36 = .ok (.aload_n 0, 1) := by decide +kernel
theorem dX5_takeOff_37 : decode cX5_takeOff 37 = .ok (.getfield 7, 3) := by decide +kernel
theorem dX5_takeOff_40 : decode cX5_takeOff 40 = .ok (.iload_n 1, 1) := by decide +kernel
theorem dX5_takeOff_41 : decode cX5_takeOff 41 = .ok (.iconst 1, 1) := by decide +kernel
theorem dX5_takeOff_42 : decode cX5_takeOff 42 = .ok (.invokestatic 40, 3) := by decide +kernel
theorem dX5_takeOff_45 : decode cX5_takeOff 45 = .ok (.iaload, 1) := by decide +kernel
theorem dX5_takeOff_46 : decode cX5_takeOff 46 = .ok (.ireturn, 1) := by decide +kernel
theorem dX5_barFrost_0 : decode cX5_barFrost 0 = .ok (.iload_n 1, 1) := by decide +kernel
theorem dX5_barFrost_1 : decode cX5_barFrost 1 = .ok (.iload_n 2, 1) := by decide +kernel
theorem dX5_barFrost_2 : decode cX5_barFrost 2 = .ok (.invokestatic 66, 3) := by decide +kernel
theorem dX5_barFrost_5 : decode cX5_barFrost 5 = .ok (.ifCond .ne 7, 3) := by decide +kernel
theorem dX5_barFrost_8 : decode cX5_barFrost 8 = .ok (.iconst (-1), 1) := by decide +kernel
theorem dX5_barFrost_9 : decode cX5_barFrost 9 = .ok (.goto 56, 3) := by decide +kernel
theorem dX5_barFrost_12 : decode cX5_barFrost 12 = .ok (.iload_n 3, 1) := by decide +kernel
theorem dX5_barFrost_13 : decode cX5_barFrost 13 = .ok (.iconst 0, 1) := by decide +kernel
theorem dX5_barFrost_14 : decode cX5_barFrost 14 = .ok (.bipush 9, 2) := by decide +kernel
theorem dX5_barFrost_16 : decode cX5_barFrost 16 = .ok (.invokestatic 32, 3) := by decide +kernel
theorem dX5_barFrost_19 : decode cX5_barFrost 19 = .ok (.ifCond .ne 8, 3) := by decide +kernel
theorem dX5_barFrost_22 : decode cX5_barFrost 22 = .ok (.bipush (-2), 2) := by decide +kernel
theorem dX5_barFrost_24 : decode cX5_barFrost 24 = .ok (.goto 41, 3) := by decide +kernel
theorem dX5_barFrost_27 : decode cX5_barFrost 27 = .ok (.aload_n 0, 1) := by decide +kernel
theorem dX5_barFrost_28 : decode cX5_barFrost 28 = .ok (.getfield 7, 3) := by decide +kernel
theorem dX5_barFrost_31 : decode cX5_barFrost 31 = .ok (.iconst 0, 1) := by decide +kernel
theorem dX5_barFrost_32 : decode cX5_barFrost 32 = .ok (.iload_n 1, 1) := by decide +kernel
theorem dX5_barFrost_33 : decode cX5_barFrost 33 = .ok (.iload_n 2, 1) := by decide +kernel
theorem dX5_barFrost_34 : decode cX5_barFrost 34 = .ok (.invokestatic 70, 3) := by decide +kernel
theorem dX5_barFrost_37 : decode cX5_barFrost 37 = .ok (.iadd, 1) := by decide +kernel
theorem dX5_barFrost_38 : decode cX5_barFrost 38 = .ok (.iaload, 1) := by decide +kernel
theorem dX5_barFrost_39 : decode cX5_barFrost 39 = .ok (.iload_n 3, 1) := by decide +kernel
theorem dX5_barFrost_40 : decode cX5_barFrost 40 = .ok (.if_icmp .ne 24, 3) := by decide +kernel
theorem dX5_barFrost_43 : decode cX5_barFrost 43 = .ok (.aload_n 0, 1) := by decide +kernel
theorem dX5_barFrost_44 : decode cX5_barFrost 44 = .ok (.getfield 7, 3) := by decide +kernel
theorem dX5_barFrost_47 : decode cX5_barFrost 47 = .ok (.bipush 120, 2) := by decide +kernel
theorem dX5_barFrost_49 : decode cX5_barFrost 49 = .ok (.iload_n 1, 1) := by decide +kernel
theorem dX5_barFrost_50 : decode cX5_barFrost 50 = .ok (.iload_n 2, 1) := by decide +kernel
theorem dX5_barFrost_51 : decode cX5_barFrost 51 = .ok (.invokestatic 70, 3) := by decide +kernel
theorem dX5_barFrost_54 : decode cX5_barFrost 54 = .ok (.iadd, 1) := by decide +kernel
theorem dX5_barFrost_55 : decode cX5_barFrost 55 = .ok (.iaload, 1) := by decide +kernel
theorem dX5_barFrost_56 : decode cX5_barFrost 56 = .ok (.ifCond .ne 8, 3) := by decide +kernel
theorem dX5_barFrost_59 : decode cX5_barFrost 59 = .ok (.bipush (-5), 2) := by decide +kernel
theorem dX5_barFrost_61 : decode cX5_barFrost 61 = .ok (.goto 4, 3) := by decide +kernel
theorem dX5_barFrost_64 : decode cX5_barFrost 64 = .ok (.iconst 0, 1) := by decide +kernel
theorem dX5_barFrost_65 : decode cX5_barFrost 65 = .ok (.ireturn, 1) := by decide +kernel
theorem dX5_freezes_0 : decode cX5_freezes 0 = .ok (.iload_n 1, 1) := by decide +kernel
theorem dX5_freezes_1 : decode cX5_freezes 1 = .ok (.iload_n 2, 1) := by decide +kernel
theorem dX5_freezes_2 : decode cX5_freezes 2 = .ok (.invokestatic 70, 3) := by decide +kernel
theorem dX5_freezes_5 : decode cX5_freezes 5 = .ok (.istore 4, 2) := by decide +kernel
theorem dX5_freezes_7 : decode cX5_freezes 7 = .ok (.aload_n 0, 1) := by decide +kernel
theorem dX5_freezes_8 : decode cX5_freezes 8 = .ok (.getfield 7, 3) := by decide +kernel
theorem dX5_freezes_11 : decode cX5_freezes 11 = .ok (.iconst 0, 1) := by decide +kernel
theorem dX5_freezes_12 : decode cX5_freezes 12 = .ok (.iload 4, 2) := by decide +kernel
theorem dX5_freezes_14 : decode cX5_freezes 14 = .ok (.iadd, 1) := by decide +kernel
theorem dX5_freezes_15 : decode cX5_freezes 15 = .ok (.iaload, 1) := by decide +kernel
theorem dX5_freezes_16 : decode cX5_freezes 16 = .ok (.istore 5, 2) := by decide +kernel
theorem dX5_freezes_18 : decode cX5_freezes 18 = .ok (.aload_n 0, 1) := by decide +kernel
theorem dX5_freezes_19 : decode cX5_freezes 19 = .ok (.getfield 7, 3) := by decide +kernel
theorem dX5_freezes_22 : decode cX5_freezes 22 = .ok (.iconst 0, 1) := by decide +kernel
theorem dX5_freezes_23 : decode cX5_freezes 23 = .ok (.iload 4, 2) := by decide +kernel
theorem dX5_freezes_25 : decode cX5_freezes 25 = .ok (.iadd, 1) := by decide +kernel
theorem dX5_freezes_26 : decode cX5_freezes 26 = .ok (.iload_n 3, 1) := by decide +kernel
theorem dX5_freezes_27 : decode cX5_freezes 27 = .ok (.iastore, 1) := by decide +kernel
theorem dX5_freezes_28 : decode cX5_freezes 28 = .ok (.aload_n 0, 1) := by decide +kernel
theorem dX5_freezes_29 : decode cX5_freezes 29 = .ok (.getfield 7, 3) := by decide +kernel
theorem dX5_freezes_32 : decode cX5_freezes 32 = .ok (.bipush 120, 2) := by decide +kernel
theorem dX5_freezes_34 : decode cX5_freezes 34 = .ok (.iload 4, 2) := by decide +kernel
theorem dX5_freezes_36 : decode cX5_freezes 36 = .ok (.iadd, 1) := by decide +kernel
theorem dX5_freezes_37 : decode cX5_freezes 37 = .ok (.iconst 0, 1) := by decide +kernel
theorem dX5_freezes_38 : decode cX5_freezes 38 = .ok (.iastore, 1) := by decide +kernel
theorem dX5_freezes_39 : decode cX5_freezes 39 = .ok (.aload_n 0, 1) := by decide +kernel
theorem dX5_freezes_40 : decode cX5_freezes 40 = .ok (.getfield 7, 3) := by decide +kernel
theorem dX5_freezes_43 : decode cX5_freezes 43 = .ok (.sipush 240, 3) := by decide +kernel
theorem dX5_freezes_46 : decode cX5_freezes 46 = .ok (.iload 4, 2) := by decide +kernel
theorem dX5_freezes_48 : decode cX5_freezes 48 = .ok (.iadd, 1) := by decide +kernel
theorem dX5_freezes_49 : decode cX5_freezes 49 = .ok (.iconst 0, 1) := by decide +kernel
theorem dX5_freezes_50 : decode cX5_freezes 50 = .ok (.iastore, 1) := by decide +kernel
theorem dX5_freezes_51 : decode cX5_freezes 51 = .ok (.iload 5, 2) := by decide +kernel
theorem dX5_freezes_53 : decode cX5_freezes 53 = .ok (.ireturn, 1) := by decide +kernel
theorem dX5_setFrost_0 : decode cX5_setFrost 0 = .ok (.aload_n 0, 1) := by decide +kernel
theorem dX5_setFrost_1 : decode cX5_setFrost 1 = .ok (.iload_n 1, 1) := by decide +kernel
theorem dX5_setFrost_2 : decode cX5_setFrost 2 = .ok (.iload_n 2, 1) := by decide +kernel
theorem dX5_setFrost_3 : decode cX5_setFrost 3 = .ok (.iload_n 3, 1) := by decide +kernel
theorem dX5_setFrost_4 : decode cX5_setFrost 4 = .ok (.invokevirtual 73, 3) := by decide +kernel
theorem dX5_setFrost_7 : decode cX5_setFrost 7 = .ok (.istore 4, 2) := by decide +kernel
theorem dX5_setFrost_9 : decode cX5_setFrost 9 = .ok (.iload 4, 2) := by decide +kernel
theorem dX5_setFrost_11 : decode cX5_setFrost 11 = .ok (.ifCond .ge 6, 3) := by decide +kernel
theorem dX5_setFrost_14 : decode cX5_setFrost 14 = .ok (.iload 4, 2) := by decide +kernel
theorem dX5_setFrost_16 : decode cX5_setFrost 16 = .ok (.ireturn, 1) := by decide +kernel
theorem dX5_setFrost_17 : decode cX5_setFrost 17 = .ok (.aload_n 0, 1) := by decide +kernel
theorem dX5_setFrost_18 : decode cX5_setFrost 18 = .ok (.invokevirtual 57, 3) := by decide +kernel
theorem dX5_setFrost_21 : decode cX5_setFrost 21 = .ok (.aload_n 0, 1) := by decide +kernel
theorem dX5_setFrost_22 : decode cX5_setFrost 22 = .ok (.iload_n 1, 1) := by decide +kernel
theorem dX5_setFrost_23 : decode cX5_setFrost 23 = .ok (.iload_n 2, 1) := by decide +kernel
theorem dX5_setFrost_24 : decode cX5_setFrost 24 = .ok (.iload_n 3, 1) := by decide +kernel
theorem dX5_setFrost_25 : decode cX5_setFrost 25 = .ok (.invokevirtual 77, 3) := by decide +kernel
theorem dX5_setFrost_28 : decode cX5_setFrost 28 = .ok (.ireturn, 1) := by decide +kernel
theorem dX5_dries_0 : decode cX5_dries 0 = .ok (.iconst 0, 1) := by decide +kernel
theorem dX5_dries_1 : decode cX5_dries 1 = .ok (.istore_n 1, 1) := by decide +kernel
theorem dX5_dries_2 : decode cX5_dries 2 = .ok (.iload_n 1, 1) := by decide +kernel
theorem dX5_dries_3 : decode cX5_dries 3 = .ok (.bipush 120, 2) := by decide +kernel
theorem dX5_dries_5 : decode cX5_dries 5 = .ok (.if_icmp .ge 63, 3) := by decide +kernel
theorem dX5_dries_8 : decode cX5_dries 8 = .ok (.aload_n 0, 1) := by decide +kernel
theorem dX5_dries_9 : decode cX5_dries 9 = .ok (.getfield 7, 3) := by decide +kernel
theorem dX5_dries_12 : decode cX5_dries 12 = .ok (.bipush 120, 2) := by decide +kernel
theorem dX5_dries_14 : decode cX5_dries 14 = .ok (.iload_n 1, 1) := by decide +kernel
theorem dX5_dries_15 : decode cX5_dries 15 = .ok (.iadd, 1) := by decide +kernel
theorem dX5_dries_16 : decode cX5_dries 16 = .ok (.iaload, 1) := by decide +kernel
theorem dX5_dries_17 : decode cX5_dries 17 = .ok (.ifCond .le 45, 3) := by decide +kernel
theorem dX5_dries_20 : decode cX5_dries 20 = .ok (.aload_n 0, 1) := by decide +kernel
theorem dX5_dries_21 : decode cX5_dries 21 = .ok (.getfield 7, 3) := by decide +kernel
theorem dX5_dries_24 : decode cX5_dries 24 = .ok (.sipush 240, 3) := by decide +kernel
theorem dX5_dries_27 : decode cX5_dries 27 = .ok (.iload_n 1, 1) := by decide +kernel
theorem dX5_dries_28 : decode cX5_dries 28 = .ok (.iadd, 1) := by decide +kernel
theorem dX5_dries_29 : decode cX5_dries 29 = .ok (.iaload, 1) := by decide +kernel
theorem dX5_dries_30 : decode cX5_dries 30 = .ok (.aload_n 0, 1) := by decide +kernel
theorem dX5_dries_31 : decode cX5_dries 31 = .ok (.getfield 7, 3) := by decide +kernel
theorem dX5_dries_34 : decode cX5_dries 34 = .ok (.sipush 531, 3) := by decide +kernel
theorem dX5_dries_37 : decode cX5_dries 37 = .ok (.iaload, 1) := by decide +kernel
theorem dX5_dries_38 : decode cX5_dries 38 = .ok (.if_icmp .le 24, 3) := by decide +kernel
theorem dX5_dries_41 : decode cX5_dries 41 = .ok (.aload_n 0, 1) := by decide +kernel
theorem dX5_dries_42 : decode cX5_dries 42 = .ok (.getfield 7, 3) := by decide +kernel
theorem dX5_dries_45 : decode cX5_dries 45 = .ok (.bipush 120, 2) := by decide +kernel
theorem dX5_dries_47 : decode cX5_dries 47 = .ok (.iload_n 1, 1) := by decide +kernel
theorem dX5_dries_48 : decode cX5_dries 48 = .ok (.iadd, 1) := by decide +kernel
theorem dX5_dries_49 : decode cX5_dries 49 = .ok (.iconst 0, 1) := by decide +kernel
theorem dX5_dries_50 : decode cX5_dries 50 = .ok (.iastore, 1) := by decide +kernel
theorem dX5_dries_51 : decode cX5_dries 51 = .ok (.aload_n 0, 1) := by decide +kernel
theorem dX5_dries_52 : decode cX5_dries 52 = .ok (.getfield 7, 3) := by decide +kernel
theorem dX5_dries_55 : decode cX5_dries 55 = .ok (.sipush 240, 3) := by decide +kernel
theorem dX5_dries_58 : decode cX5_dries 58 = .ok (.iload_n 1, 1) := by decide +kernel
theorem dX5_dries_59 : decode cX5_dries 59 = .ok (.iadd, 1) := by decide +kernel
theorem dX5_dries_60 : decode cX5_dries 60 = .ok (.iconst 0, 1) := by decide +kernel
theorem dX5_dries_61 : decode cX5_dries 61 = .ok (.iastore, 1) := by decide +kernel
theorem dX5_dries_62 : decode cX5_dries 62 = .ok (.iinc 1 1, 3) := by decide +kernel
theorem dX5_dries_65 : decode cX5_dries 65 = .ok (.goto (-63), 3) := by decide +kernel
theorem dX5_dries_68 : decode cX5_dries 68 = .ok (.return_, 1) := by decide +kernel
theorem dX5_most_0 : decode cX5_most 0 = .ok (.iload_n 0, 1) := by decide +kernel
theorem dX5_most_1 : decode cX5_most 1 = .ok (.ifCond .ne 8, 3) := by decide +kernel
theorem dX5_most_4 : decode cX5_most 4 = .ok (.bipush 99, 2) := by decide +kernel
theorem dX5_most_6 : decode cX5_most 6 = .ok (.goto 25, 3) := by decide +kernel
theorem dX5_most_9 : decode cX5_most 9 = .ok (.iload_n 0, 1) := by decide +kernel
theorem dX5_most_10 : decode cX5_most 10 = .ok (.iconst 1, 1) := by decide +kernel
theorem dX5_most_11 : decode cX5_most 11 = .ok (.if_icmp .ne 8, 3) := by decide +kernel
theorem dX5_most_14 : decode cX5_most 14 = .ok (.bipush 9, 2) := by decide +kernel
theorem dX5_most_16 : decode cX5_most 16 = .ok (.goto 15, 3) := by decide +kernel
theorem dX5_most_19 : decode cX5_most 19 = .ok (.iload_n 0, 1) := by decide +kernel
theorem dX5_most_20 : decode cX5_most 20 = .ok (.iconst 2, 1) := by decide +kernel
theorem dX5_most_21 : decode cX5_most 21 = .ok (.if_icmp .ne 8, 3) := by decide +kernel
theorem dX5_most_24 : decode cX5_most 24 = .ok (.bipush 20, 2) := by decide +kernel
theorem dX5_most_26 : decode cX5_most 26 = .ok (.goto 5, 3) := by decide +kernel
theorem dX5_most_29 : decode cX5_most 29 = .ok (.bipush 50, 2) := by decide +kernel
theorem dX5_most_31 : decode cX5_most 31 = .ok (.ireturn, 1) := by decide +kernel
theorem dX5_set_0 : decode cX5_set 0 = .ok (.iload_n 1, 1) := by decide +kernel
theorem dX5_set_1 : decode cX5_set 1 = .ok (.iconst 0, 1) := by decide +kernel
theorem dX5_set_2 : decode cX5_set 2 = .ok (.iconst 3, 1) := by decide +kernel
theorem dX5_set_3 : decode cX5_set 3 = .ok (.invokestatic 32, 3) := by decide +kernel
theorem dX5_set_6 : decode cX5_set 6 = .ok (.ifCond .ne 5, 3) := by decide +kernel
theorem dX5_set_9 : decode cX5_set 9 = .ok (.iconst (-1), 1) := by decide +kernel
theorem dX5_set_10 : decode cX5_set 10 = .ok (.ireturn, 1) := by decide +kernel
theorem dX5_set_11 : decode cX5_set 11 = .ok (.iload_n 2, 1) := by decide +kernel
theorem dX5_set_12 : decode cX5_set 12 = .ok (.iload_n 1, 1) := by decide +kernel
theorem dX5_set_13 : decode cX5_set 13 = .ok (.ifCond .ne 7, 3) := by decide +kernel
theorem dX5_set_16 : decode cX5_set 16 = .ok (.iconst 0, 1) := by decide +kernel
theorem dX5_set_17 : decode cX5_set 17 = .ok (.goto 4, 3) := by decide +kernel
theorem dX5_set_20 : decode cX5_set 20 = .ok (.iconst 1, 1) := by decide +kernel
theorem dX5_set_21 : decode cX5_set 21 = .ok (.iload_n 1, 1) := by decide +kernel
theorem dX5_set_22 : decode cX5_set 22 = .ok (.invokestatic 80, 3) := by decide +kernel
theorem dX5_set_25 : decode cX5_set 25 = .ok (.invokestatic 32, 3) := by decide +kernel
theorem dX5_set_28 : decode cX5_set 28 = .ok (.ifCond .ne 6, 3) := by decide +kernel
theorem dX5_set_31 : decode cX5_set 31 = .ok (.bipush (-2), 2) := by decide +kernel
theorem dX5_set_33 : decode cX5_set 33 = .ok (.ireturn, 1) := by decide +kernel
theorem dX5_set_34 : decode cX5_set 34 = .ok (.aload_n 0, 1) := by decide +kernel
theorem dX5_set_35 : decode cX5_set 35 = .ok (.getfield 7, 3) := by decide +kernel
theorem dX5_set_38 : decode cX5_set 38 = .ok (.sipush 531, 3) := by decide +kernel
theorem dX5_set_41 : decode cX5_set 41 = .ok (.iload_n 1, 1) := by decide +kernel
theorem dX5_set_42 : decode cX5_set 42 = .ok (.iadd, 1) := by decide +kernel
theorem dX5_set_43 : decode cX5_set 43 = .ok (.iaload, 1) := by decide +kernel
theorem dX5_set_44 : decode cX5_set 44 = .ok (.iload_n 2, 1) := by decide +kernel
theorem dX5_set_45 : decode cX5_set 45 = .ok (.if_icmp .ne 6, 3) := by decide +kernel
theorem dX5_set_48 : decode cX5_set 48 = .ok (.bipush (-5), 2) := by decide +kernel
theorem dX5_set_50 : decode cX5_set 50 = .ok (.ireturn, 1) := by decide +kernel
theorem dX5_set_51 : decode cX5_set 51 = .ok (.aload_n 0, 1) := by decide +kernel
theorem dX5_set_52 : decode cX5_set 52 = .ok (.invokevirtual 57, 3) := by decide +kernel
theorem dX5_set_55 : decode cX5_set 55 = .ok (.aload_n 0, 1) := by decide +kernel
theorem dX5_set_56 : decode cX5_set 56 = .ok (.getfield 7, 3) := by decide +kernel
theorem dX5_set_59 : decode cX5_set 59 = .ok (.sipush 531, 3) := by decide +kernel
theorem dX5_set_62 : decode cX5_set 62 = .ok (.iload_n 1, 1) := by decide +kernel
theorem dX5_set_63 : decode cX5_set 63 = .ok (.iadd, 1) := by decide +kernel
theorem dX5_set_64 : decode cX5_set 64 = .ok (.iaload, 1) := by decide +kernel
theorem dX5_set_65 : decode cX5_set 65 = .ok (.istore_n 3, 1) := by decide +kernel
theorem dX5_set_66 : decode cX5_set 66 = .ok (.aload_n 0, 1) := by decide +kernel
theorem dX5_set_67 : decode cX5_set 67 = .ok (.getfield 7, 3) := by decide +kernel
theorem dX5_set_70 : decode cX5_set 70 = .ok (.sipush 531, 3) := by decide +kernel
theorem dX5_set_73 : decode cX5_set 73 = .ok (.iload_n 1, 1) := by decide +kernel
theorem dX5_set_74 : decode cX5_set 74 = .ok (.iadd, 1) := by decide +kernel
theorem dX5_set_75 : decode cX5_set 75 = .ok (.iload_n 2, 1) := by decide +kernel
theorem dX5_set_76 : decode cX5_set 76 = .ok (.iastore, 1) := by decide +kernel
theorem dX5_set_77 : decode cX5_set 77 = .ok (.aload_n 0, 1) := by decide +kernel
theorem dX5_set_78 : decode cX5_set 78 = .ok (.invokevirtual 84, 3) := by decide +kernel
theorem dX5_set_81 : decode cX5_set 81 = .ok (.iload_n 3, 1) := by decide +kernel
theorem dX5_set_82 : decode cX5_set 82 = .ok (.ireturn, 1) := by decide +kernel
theorem dX5_why_0 : decode cX5_why 0 = .ok (.aload_n 0, 1) := by decide +kernel
theorem dX5_why_1 : decode cX5_why 1 = .ok (.getfield 7, 3) := by decide +kernel
theorem dX5_why_4 : decode cX5_why 4 = .ok (.bipush 120, 2) := by decide +kernel
theorem dX5_why_6 : decode cX5_why 6 = .ok (.iload_n 2, 1) := by decide +kernel
theorem dX5_why_7 : decode cX5_why 7 = .ok (.iadd, 1) := by decide +kernel
theorem dX5_why_8 : decode cX5_why 8 = .ok (.iaload, 1) := by decide +kernel
theorem dX5_why_9 : decode cX5_why 9 = .ok (.iconst 1, 1) := by decide +kernel
theorem dX5_why_10 : decode cX5_why 10 = .ok (.isub, 1) := by decide +kernel
theorem dX5_why_11 : decode cX5_why 11 = .ok (.istore_n 3, 1) := by decide +kernel
theorem dX5_why_12 : decode cX5_why 12 = .ok (.iload_n 3, 1) := by decide +kernel
theorem dX5_why_13 : decode cX5_why 13 = .ok (.ifCond .ge 7, 3) := by decide +kernel
theorem dX5_why_16 : decode cX5_why 16 = .ok (.iconst 1, 1) := by decide +kernel
theorem dX5_why_17 : decode cX5_why 17 = .ok (.goto 56, 3) := by decide +kernel
theorem dX5_why_20 : decode cX5_why 20 = .ok (.iload_n 3, 1) := by decide +kernel
theorem dX5_why_21 : decode cX5_why 21 = .ok (.iload_n 1, 1) := by decide +kernel
theorem dX5_why_22 : decode cX5_why 22 = .ok (.if_icmp .ne 7, 3) := by decide +kernel
theorem dX5_why_25 : decode cX5_why 25 = .ok (.iconst 2, 1) := by decide +kernel
theorem dX5_why_26 : decode cX5_why 26 = .ok (.goto 47, 3) := by decide +kernel
theorem dX5_why_29 : decode cX5_why 29 = .ok (.aload_n 0, 1) := by decide +kernel
theorem dX5_why_30 : decode cX5_why 30 = .ok (.getfield 7, 3) := by decide +kernel
theorem dX5_why_33 : decode cX5_why 33 = .ok (.iload_n 1, 1) := by decide +kernel
theorem dX5_why_34 : decode cX5_why 34 = .ok (.bipush 8, 2) := by decide +kernel
theorem dX5_why_36 : decode cX5_why 36 = .ok (.invokestatic 40, 3) := by decide +kernel
theorem dX5_why_39 : decode cX5_why 39 = .ok (.iaload, 1) := by decide +kernel
theorem dX5_why_40 : decode cX5_why 40 = .ok (.iload_n 3, 1) := by decide +kernel
theorem dX5_why_41 : decode cX5_why 41 = .ok (.iconst 1, 1) := by decide +kernel
theorem dX5_why_42 : decode cX5_why 42 = .ok (.iadd, 1) := by decide +kernel
theorem dX5_why_43 : decode cX5_why 43 = .ok (.if_icmp .ne 29, 3) := by decide +kernel
theorem dX5_why_46 : decode cX5_why 46 = .ok (.aload_n 0, 1) := by decide +kernel
theorem dX5_why_47 : decode cX5_why 47 = .ok (.getfield 7, 3) := by decide +kernel
theorem dX5_why_50 : decode cX5_why 50 = .ok (.iload_n 1, 1) := by decide +kernel
theorem dX5_why_51 : decode cX5_why 51 = .ok (.bipush 9, 2) := by decide +kernel
theorem dX5_why_53 : decode cX5_why 53 = .ok (.invokestatic 40, 3) := by decide +kernel
theorem dX5_why_56 : decode cX5_why 56 = .ok (.iaload, 1) := by decide +kernel
theorem dX5_why_57 : decode cX5_why 57 = .ok (.aload_n 0, 1) := by decide +kernel
theorem dX5_why_58 : decode cX5_why 58 = .ok (.getfield 7, 3) := by decide +kernel
theorem dX5_why_61 : decode cX5_why 61 = .ok (.sipush 532, 3) := by decide +kernel
theorem dX5_why_64 : decode cX5_why 64 = .ok (.iaload, 1) := by decide +kernel
theorem dX5_why_65 : decode cX5_why 65 = .ok (.if_icmp .lt 7, 3) := by decide +kernel
theorem dX5_why_68 : decode cX5_why 68 = .ok (.iconst 3, 1) := by decide +kernel
theorem dX5_why_69 : decode cX5_why 69 = .ok (.goto 4, 3) := by decide +kernel
theorem dX5_why_72 : decode cX5_why 72 = .ok (.iconst 0, 1) := by decide +kernel
theorem dX5_why_73 : decode cX5_why 73 = .ok (.ireturn, 1) := by decide +kernel
theorem dX5_laneOf_0 : decode cX5_laneOf 0 = .ok (.iload_n 1, 1) := by decide +kernel
theorem dX5_laneOf_1 : decode cX5_laneOf 1 = .ok (.ifCond .ne 7, 3) := by decide +kernel
theorem dX5_laneOf_4 : decode cX5_laneOf 4 = .ok (.iload_n 0, 1) := by decide +kernel
theorem dX5_laneOf_5 : decode cX5_laneOf 5 = .ok (.goto 17, 3) := by decide +kernel
theorem dX5_laneOf_8 : decode cX5_laneOf 8 = .ok (.iload_n 1, 1) := by decide +kernel
theorem dX5_laneOf_9 : decode cX5_laneOf 9 = .ok (.iconst 1, 1) := by decide +kernel
theorem dX5_laneOf_10 : decode cX5_laneOf 10 = .ok (.if_icmp .ne 9, 3) := by decide +kernel
theorem dX5_laneOf_13 : decode cX5_laneOf 13 = .ok (.iload_n 0, 1) := by decide +kernel
theorem dX5_laneOf_14 : decode cX5_laneOf 14 = .ok (.iconst 1, 1) := by decide +kernel
theorem dX5_laneOf_15 : decode cX5_laneOf 15 = .ok (.isub, 1) := by decide +kernel
theorem dX5_laneOf_16 : decode cX5_laneOf 16 = .ok (.goto 6, 3) := by decide +kernel
theorem dX5_laneOf_19 : decode cX5_laneOf 19 = .ok (.iload_n 0, 1) := by decide +kernel
theorem dX5_laneOf_20 : decode cX5_laneOf 20 = .ok (.iconst 1, 1) := by decide +kernel
theorem dX5_laneOf_21 : decode cX5_laneOf 21 = .ok (.iadd, 1) := by decide +kernel
theorem dX5_laneOf_22 : decode cX5_laneOf 22 = .ok (.ireturn, 1) := by decide +kernel
theorem dX5_price_0 : decode cX5_price 0 = .ok (.aload_n 0, 1) := by decide +kernel
theorem dX5_price_1 : decode cX5_price 1 = .ok (.getfield 7, 3) := by decide +kernel
theorem dX5_price_4 : decode cX5_price 4 = .ok (.iload_n 1, 1) := by decide +kernel
theorem dX5_price_5 : decode cX5_price 5 = .ok (.iconst 0, 1) := by decide +kernel
theorem dX5_price_6 : decode cX5_price 6 = .ok (.invokestatic 40, 3) := by decide +kernel
theorem dX5_price_9 : decode cX5_price 9 = .ok (.iaload, 1) := by decide +kernel
theorem dX5_price_10 : decode cX5_price 10 = .ok (.iload_n 2, 1) := by decide +kernel
theorem dX5_price_11 : decode cX5_price 11 = .ok (.invokestatic 87, 3) := by decide +kernel
theorem dX5_price_14 : decode cX5_price 14 = .ok (.istore_n 3, 1) := by decide +kernel
theorem dX5_price_15 : decode cX5_price 15 = .ok (.aload_n 0, 1) := by decide +kernel
theorem dX5_price_16 : decode cX5_price 16 = .ok (.getfield 7, 3) := by decide +kernel
theorem dX5_price_19 : decode cX5_price 19 = .ok (.iload_n 1, 1) := by decide +kernel
theorem dX5_price_20 : decode cX5_price 20 = .ok (.iconst 1, 1) := by decide +kernel
theorem dX5_price_21 : decode cX5_price 21 = .ok (.invokestatic 40, 3) := by decide +kernel
theorem dX5_price_24 : decode cX5_price 24 = .ok (.iaload, 1) := by decide +kernel
theorem dX5_price_25 : decode cX5_price 25 = .ok (.iconst 1, 1) := by decide +kernel
theorem dX5_price_26 : decode cX5_price 26 = .ok (.iadd, 1) := by decide +kernel
theorem dX5_price_27 : decode cX5_price 27 = .ok (.istore 4, 2) := by decide +kernel
theorem dX5_price_29 : decode cX5_price 29 = .ok (.iload_n 3, 1) := by decide +kernel
theorem dX5_price_30 : decode cX5_price 30 = .ok (.iload 4, 2) := by decide +kernel
theorem dX5_price_32 : decode cX5_price 32 = .ok (.invokestatic 66, 3) := by decide +kernel
theorem dX5_price_35 : decode cX5_price 35 = .ok (.ifCond .eq 15, 3) := by decide +kernel
theorem dX5_price_38 : decode cX5_price 38 = .ok (.aload_n 0, 1) := by decide +kernel
theorem dX5_price_39 : decode cX5_price 39 = .ok (.iload_n 3, 1) := by decide +kernel
theorem dX5_price_40 : decode cX5_price 40 = .ok (.iload 4, 2) := by decide +kernel
theorem dX5_price_42 : decode cX5_price 42 = .ok (.invokevirtual 51, 3) := by decide +kernel
theorem dX5_price_45 : decode cX5_price 45 = .ok (.bipush (-5), 2) := by decide +kernel
theorem dX5_price_47 : decode cX5_price 47 = .ok (.if_icmp .eq 6, 3) := by decide +kernel
theorem dX5_price_50 : decode cX5_price 50 = .ok (.bipush (-5), 2) := by decide +kernel
theorem dX5_price_52 : decode cX5_price 52 = .ok (.ireturn, 1) := by decide +kernel
theorem dX5_price_53 : decode cX5_price 53 = .ok (.aload_n 0, 1) := by decide +kernel
theorem dX5_price_54 : decode cX5_price 54 = .ok (.iload_n 1, 1) := by decide +kernel
theorem dX5_price_55 : decode cX5_price 55 = .ok (.iload_n 3, 1) := by decide +kernel
theorem dX5_price_56 : decode cX5_price 56 = .ok (.iload 4, 2) := by decide +kernel
theorem dX5_price_58 : decode cX5_price 58 = .ok (.invokestatic 70, 3) := by decide +kernel
theorem dX5_price_61 : decode cX5_price 61 = .ok (.invokevirtual 90, 3) := by decide +kernel
theorem dX5_price_64 : decode cX5_price 64 = .ok (.istore 5, 2) := by decide +kernel
theorem dX5_price_66 : decode cX5_price 66 = .ok (.iload 5, 2) := by decide +kernel
theorem dX5_price_68 : decode cX5_price 68 = .ok (.ifCond .eq 9, 3) := by decide +kernel
theorem dX5_price_71 : decode cX5_price 71 = .ok (.iload 5, 2) := by decide +kernel
theorem dX5_price_73 : decode cX5_price 73 = .ok (.iconst 2, 1) := by decide +kernel
theorem dX5_price_74 : decode cX5_price 74 = .ok (.if_icmp .ne 7, 3) := by decide +kernel
theorem dX5_price_77 : decode cX5_price 77 = .ok (.iconst 1, 1) := by decide +kernel
theorem dX5_price_78 : decode cX5_price 78 = .ok (.goto 18, 3) := by decide +kernel
theorem dX5_price_81 : decode cX5_price 81 = .ok (.iconst 1, 1) := by decide +kernel
theorem dX5_price_82 : decode cX5_price 82 = .ok (.aload_n 0, 1) := by decide +kernel
theorem dX5_price_83 : decode cX5_price 83 = .ok (.getfield 7, 3) := by decide +kernel
theorem dX5_price_86 : decode cX5_price 86 = .ok (.iconst 0, 1) := by decide +kernel
theorem dX5_price_87 : decode cX5_price 87 = .ok (.iload_n 3, 1) := by decide +kernel
theorem dX5_price_88 : decode cX5_price 88 = .ok (.iload 4, 2) := by decide +kernel
theorem dX5_price_90 : decode cX5_price 90 = .ok (.invokestatic 70, 3) := by decide +kernel
theorem dX5_price_93 : decode cX5_price 93 = .ok (.iadd, 1) := by decide +kernel
theorem dX5_price_94 : decode cX5_price 94 = .ok (.iaload, 1) := by decide +kernel
theorem dX5_price_95 : decode cX5_price 95 = .ok (.iadd, 1) := by decide +kernel
theorem dX5_price_96 : decode cX5_price 96 = .ok (.ireturn, 1) := by decide +kernel
theorem dX5_chooses_0 : decode cX5_chooses 0 = .ok (.iconst 4, 1) := by decide +kernel
theorem dX5_chooses_1 : decode cX5_chooses 1 = .ok (.istore_n 2, 1) := by decide +kernel
theorem dX5_chooses_2 : decode cX5_chooses 2 = .ok (.iconst 0, 1) := by decide +kernel
theorem dX5_chooses_3 : decode cX5_chooses 3 = .ok (.istore_n 3, 1) := by decide +kernel
theorem dX5_chooses_4 : decode cX5_chooses 4 = .ok (.iload_n 3, 1) := by decide +kernel
theorem dX5_chooses_5 : decode cX5_chooses 5 = .ok (.iconst 3, 1) := by decide +kernel
theorem dX5_chooses_6 : decode cX5_chooses 6 = .ok (.if_icmp .ge 46, 3) := by decide +kernel
theorem dX5_chooses_9 : decode cX5_chooses 9 = .ok (.aload_n 0, 1) := by decide +kernel
theorem dX5_chooses_10 : decode cX5_chooses 10 = .ok (.iload_n 1, 1) := by decide +kernel
theorem dX5_chooses_11 : decode cX5_chooses 11 = .ok (.iload_n 3, 1) := by decide +kernel
theorem dX5_chooses_12 : decode cX5_chooses 12 = .ok (.invokevirtual 93, 3) := by decide +kernel
theorem dX5_chooses_15 : decode cX5_chooses 15 = .ok (.istore 4, 2) := by decide +kernel
theorem dX5_chooses_17 : decode cX5_chooses 17 = .ok (.iload 4, 2) := by decide +kernel
theorem dX5_chooses_19 : decode cX5_chooses 19 = .ok (.bipush (-5), 2) := by decide +kernel
theorem dX5_chooses_21 : decode cX5_chooses 21 = .ok (.if_icmp .eq 23, 3) := by decide +kernel
theorem dX5_chooses_24 : decode cX5_chooses 24 = .ok (.iload_n 2, 1) := by decide +kernel
theorem dX5_chooses_25 : decode cX5_chooses 25 = .ok (.iconst 4, 1) := by decide +kernel
theorem dX5_chooses_26 : decode cX5_chooses 26 = .ok (.if_icmp .eq 14, 3) := by decide +kernel
theorem dX5_chooses_29 : decode cX5_chooses 29 = .ok (.iload 4, 2) := by decide +kernel
theorem dX5_chooses_31 : decode cX5_chooses 31 = .ok (.aload_n 0, 1) := by decide +kernel
theorem dX5_chooses_32 : decode cX5_chooses 32 = .ok (.iload_n 1, 1) := by decide +kernel
theorem dX5_chooses_33 : decode cX5_chooses 33 = .ok (.iload_n 2, 1) := by decide +kernel
theorem dX5_chooses_34 : decode cX5_chooses 34 = .ok (.invokevirtual 93, 3) := by decide +kernel
theorem dX5_chooses_37 : decode cX5_chooses 37 = .ok (.if_icmp .ge 7, 3) := by decide +kernel
theorem dX5_chooses_40 : decode cX5_chooses 40 = .ok (.iload_n 3, 1) := by decide +kernel
theorem dX5_chooses_41 : decode cX5_chooses 41 = .ok (.goto 4, 3) := by decide +kernel
theorem dX5_chooses_44 : decode cX5_chooses 44 = .ok (.iload_n 2, 1) := by decide +kernel
theorem dX5_chooses_45 : decode cX5_chooses 45 = .ok (.istore_n 2, 1) := by decide +kernel
theorem dX5_chooses_46 : decode cX5_chooses 46 = .ok (.iinc 3 1, 3) := by decide +kernel
theorem dX5_chooses_49 : decode cX5_chooses 49 = .ok (.goto (-45), 3) := by decide +kernel
theorem dX5_chooses_52 : decode cX5_chooses 52 = .ok (.iload_n 2, 1) := by decide +kernel
theorem dX5_chooses_53 : decode cX5_chooses 53 = .ok (.iconst 4, 1) := by decide +kernel
theorem dX5_chooses_54 : decode cX5_chooses 54 = .ok (.if_icmp .ge 26, 3) := by decide +kernel
theorem dX5_chooses_57 : decode cX5_chooses 57 = .ok (.aload_n 0, 1) := by decide +kernel
theorem dX5_chooses_58 : decode cX5_chooses 58 = .ok (.iload_n 1, 1) := by decide +kernel
theorem dX5_chooses_59 : decode cX5_chooses 59 = .ok (.iload_n 2, 1) := by decide +kernel
theorem dX5_chooses_60 : decode cX5_chooses 60 = .ok (.invokevirtual 93, 3) := by decide +kernel
theorem dX5_chooses_63 : decode cX5_chooses 63 = .ok (.aload_n 0, 1) := by decide +kernel
theorem dX5_chooses_64 : decode cX5_chooses 64 = .ok (.getfield 7, 3) := by decide +kernel
theorem dX5_chooses_67 : decode cX5_chooses 67 = .ok (.iload_n 1, 1) := by decide +kernel
theorem dX5_chooses_68 : decode cX5_chooses 68 = .ok (.iconst 2, 1) := by decide +kernel
theorem dX5_chooses_69 : decode cX5_chooses 69 = .ok (.invokestatic 40, 3) := by decide +kernel
theorem dX5_chooses_72 : decode cX5_chooses 72 = .ok (.iaload, 1) := by decide +kernel
theorem dX5_chooses_73 : decode cX5_chooses 73 = .ok (.if_icmp .le 7, 3) := by decide +kernel
theorem dX5_chooses_76 : decode cX5_chooses 76 = .ok (.iconst 3, 1) := by decide +kernel
theorem dX5_chooses_77 : decode cX5_chooses 77 = .ok (.goto 4, 3) := by decide +kernel
theorem dX5_chooses_80 : decode cX5_chooses 80 = .ok (.iload_n 2, 1) := by decide +kernel
theorem dX5_chooses_81 : decode cX5_chooses 81 = .ok (.ireturn, 1) := by decide +kernel
theorem dX5_creep_0 : decode cX5_creep 0 = .ok (.aload_n 0, 1) := by decide +kernel
theorem dX5_creep_1 : decode cX5_creep 1 = .ok (.getfield 7, 3) := by decide +kernel
theorem dX5_creep_4 : decode cX5_creep 4 = .ok (.iload_n 1, 1) := by decide +kernel
theorem dX5_creep_5 : decode cX5_creep 5 = .ok (.iconst 0, 1) := by decide +kernel
theorem dX5_creep_6 : decode cX5_creep 6 = .ok (.invokestatic 40, 3) := by decide +kernel
theorem dX5_creep_9 : decode cX5_creep 9 = .ok (.iaload, 1) := by decide +kernel
theorem dX5_creep_10 : decode cX5_creep 10 = .ok (.aload_n 0, 1) := by decide +kernel
theorem dX5_creep_11 : decode cX5_creep 11 = .ok (.getfield 7, 3) := by decide +kernel
theorem dX5_creep_14 : decode cX5_creep 14 = .ok (.iload_n 1, 1) := by decide +kernel
theorem dX5_creep_15 : decode cX5_creep 15 = .ok (.iconst 1, 1) := by decide +kernel
theorem dX5_creep_16 : decode cX5_creep 16 = .ok (.invokestatic 40, 3) := by decide +kernel
theorem dX5_creep_19 : decode cX5_creep 19 = .ok (.iaload, 1) := by decide +kernel
theorem dX5_creep_20 : decode cX5_creep 20 = .ok (.invokestatic 70, 3) := by decide +kernel
theorem dX5_creep_23 : decode cX5_creep 23 = .ok (.istore_n 3, 1) := by decide +kernel
theorem dX5_creep_24 : decode cX5_creep 24 = .ok (.aload_n 0, 1) := by decide +kernel
theorem dX5_creep_25 : decode cX5_creep 25 = .ok (.getfield 7, 3) := by decide +kernel
theorem dX5_creep_28 : decode cX5_creep 28 = .ok (.iload_n 1, 1) := by decide +kernel
theorem dX5_creep_29 : decode cX5_creep 29 = .ok (.iconst 0, 1) := by decide +kernel
theorem dX5_creep_30 : decode cX5_creep 30 = .ok (.invokestatic 40, 3) := by decide +kernel
theorem dX5_creep_33 : decode cX5_creep 33 = .ok (.iaload, 1) := by decide +kernel
theorem dX5_creep_34 : decode cX5_creep 34 = .ok (.iload_n 2, 1) := by decide +kernel
theorem dX5_creep_35 : decode cX5_creep 35 = .ok (.invokestatic 87, 3) := by decide +kernel
theorem dX5_creep_38 : decode cX5_creep 38 = .ok (.istore 4, 2) := by decide +kernel
theorem dX5_creep_40 : decode cX5_creep 40 = .ok (.iload 4, 2) := by decide +kernel
theorem dX5_creep_42 : decode cX5_creep 42 = .ok (.aload_n 0, 1) := by decide +kernel
theorem dX5_creep_43 : decode cX5_creep 43 = .ok (.getfield 7, 3) := by decide +kernel
theorem dX5_creep_46 : decode cX5_creep 46 = .ok (.iload_n 1, 1) := by decide +kernel
theorem dX5_creep_47 : decode cX5_creep 47 = .ok (.iconst 1, 1) := by decide +kernel
theorem dX5_creep_48 : decode cX5_creep 48 = .ok (.invokestatic 40, 3) := by decide +kernel
theorem dX5_creep_51 : decode cX5_creep 51 = .ok (.iaload, 1) := by decide +kernel
theorem dX5_creep_52 : decode cX5_creep 52 = .ok (.iconst 1, 1) := by decide +kernel
theorem dX5_creep_53 : decode cX5_creep 53 = .ok (.iadd, 1) := by decide +kernel
theorem dX5_creep_54 : decode cX5_creep 54 = .ok (.invokestatic 70, 3) := by decide +kernel
theorem dX5_creep_57 : decode cX5_creep 57 = .ok (.istore 5, 2) := by decide +kernel
theorem dX5_creep_59 : decode cX5_creep 59 = .ok (.aload_n 0, 1) := by decide +kernel
theorem dX5_creep_60 : decode cX5_creep 60 = .ok (.iload_n 1, 1) := by decide +kernel
theorem dX5_creep_61 : decode cX5_creep 61 = .ok (.iload 5, 2) := by decide +kernel
theorem dX5_creep_63 : decode cX5_creep 63 = .ok (.invokevirtual 90, 3) := by decide +kernel
theorem dX5_creep_66 : decode cX5_creep 66 = .ok (.ifCond .ne 7, 3) := by decide +kernel
theorem dX5_creep_69 : decode cX5_creep 69 = .ok (.iconst 1, 1) := by decide +kernel
theorem dX5_creep_70 : decode cX5_creep 70 = .ok (.goto 4, 3) := by decide +kernel
theorem dX5_creep_73 : decode cX5_creep 73 = .ok (.iconst 0, 1) := by decide +kernel
theorem dX5_creep_74 : decode cX5_creep 74 = .ok (.istore 6, 2) := by decide +kernel
theorem dX5_creep_76 : decode cX5_creep 76 = .ok (.aload_n 0, 1) := by decide +kernel
theorem dX5_creep_77 : decode cX5_creep 77 = .ok (.getfield 7, 3) := by decide +kernel
theorem dX5_creep_80 : decode cX5_creep 80 = .ok (.iload_n 1, 1) := by decide +kernel
theorem dX5_creep_81 : decode cX5_creep 81 = .ok (.iconst 2, 1) := by decide +kernel
theorem dX5_creep_82 : decode cX5_creep 82 = .ok (.invokestatic 40, 3) := by decide +kernel
theorem dX5_creep_85 : decode cX5_creep 85 = .ok (.dup2, 1) := by decide +kernel
theorem dX5_creep_86 : decode cX5_creep 86 = .ok (.iaload, 1) := by decide +kernel
theorem dX5_creep_87 : decode cX5_creep 87 = .ok (.aload_n 0, 1) := by decide +kernel
theorem dX5_creep_88 : decode cX5_creep 88 = .ok (.iload_n 1, 1) := by decide +kernel
theorem dX5_creep_89 : decode cX5_creep 89 = .ok (.iload_n 2, 1) := by decide +kernel
theorem dX5_creep_90 : decode cX5_creep 90 = .ok (.invokevirtual 93, 3) := by decide +kernel
theorem dX5_creep_93 : decode cX5_creep 93 = .ok (.isub, 1) := by decide +kernel
theorem dX5_creep_94 : decode cX5_creep 94 = .ok (.iastore, 1) := by decide +kernel
theorem dX5_creep_95 : decode cX5_creep 95 = .ok (.aload_n 0, 1) := by decide +kernel
theorem dX5_creep_96 : decode cX5_creep 96 = .ok (.getfield 7, 3) := by decide +kernel
theorem dX5_creep_99 : decode cX5_creep 99 = .ok (.iload_n 1, 1) := by decide +kernel
theorem dX5_creep_100 : decode cX5_creep 100 = .ok (.iconst 5, 1) := by decide +kernel
theorem dX5_creep_101 : decode cX5_creep 101 = .ok (.invokestatic 40, 3) := by decide +kernel
theorem dX5_creep_104 : decode cX5_creep 104 = .ok (.dup2, 1) := by decide +kernel
theorem dX5_creep_105 : decode cX5_creep 105 = .ok (.iaload, 1) := by decide +kernel
theorem dX5_creep_106 : decode cX5_creep 106 = .ok (.iconst 1, 1) := by decide +kernel
theorem dX5_creep_107 : decode cX5_creep 107 = .ok (.iadd, 1) := by decide +kernel
theorem dX5_creep_108 : decode cX5_creep 108 = .ok (.iastore, 1) := by decide +kernel
theorem dX5_creep_109 : decode cX5_creep 109 = .ok (.iload 6, 2) := by decide +kernel
theorem dX5_creep_111 : decode cX5_creep 111 = .ok (.ifCond .eq 112, 3) := by decide +kernel
theorem dX5_creep_114 : decode cX5_creep 114 = .ok (.aload_n 0, 1) := by decide +kernel
theorem dX5_creep_115 : decode cX5_creep 115 = .ok (.getfield 7, 3) := by decide +kernel
theorem dX5_creep_118 : decode cX5_creep 118 = .ok (.bipush 120, 2) := by decide +kernel
theorem dX5_creep_120 : decode cX5_creep 120 = .ok (.iload 5, 2) := by decide +kernel
theorem dX5_creep_122 : decode cX5_creep 122 = .ok (.iadd, 1) := by decide +kernel
theorem dX5_creep_123 : decode cX5_creep 123 = .ok (.iaload, 1) := by decide +kernel
theorem dX5_creep_124 : decode cX5_creep 124 = .ok (.istore 7, 2) := by decide +kernel
theorem dX5_creep_126 : decode cX5_creep 126 = .ok (.aload_n 0, 1) := by decide +kernel
theorem dX5_creep_127 : decode cX5_creep 127 = .ok (.getfield 7, 3) := by decide +kernel
theorem dX5_creep_130 : decode cX5_creep 130 = .ok (.iload_n 1, 1) := by decide +kernel
theorem dX5_creep_131 : decode cX5_creep 131 = .ok (.bipush 9, 2) := by decide +kernel
theorem dX5_creep_133 : decode cX5_creep 133 = .ok (.invokestatic 40, 3) := by decide +kernel
theorem dX5_creep_136 : decode cX5_creep 136 = .ok (.aload_n 0, 1) := by decide +kernel
theorem dX5_creep_137 : decode cX5_creep 137 = .ok (.getfield 7, 3) := by decide +kernel
theorem dX5_creep_140 : decode cX5_creep 140 = .ok (.iload_n 1, 1) := by decide +kernel
theorem dX5_creep_141 : decode cX5_creep 141 = .ok (.bipush 8, 2) := by decide +kernel
theorem dX5_creep_143 : decode cX5_creep 143 = .ok (.invokestatic 40, 3) := by decide +kernel
theorem dX5_creep_146 : decode cX5_creep 146 = .ok (.iaload, 1) := by decide +kernel
theorem dX5_creep_147 : decode cX5_creep 147 = .ok (.iload 7, 2) := by decide +kernel
theorem dX5_creep_149 : decode cX5_creep 149 = .ok (.if_icmp .ne 19, 3) := by decide +kernel
theorem dX5_creep_152 : decode cX5_creep 152 = .ok (.aload_n 0, 1) := by decide +kernel
theorem dX5_creep_153 : decode cX5_creep 153 = .ok (.getfield 7, 3) := by decide +kernel
theorem dX5_creep_156 : decode cX5_creep 156 = .ok (.iload_n 1, 1) := by decide +kernel
theorem dX5_creep_157 : decode cX5_creep 157 = .ok (.bipush 9, 2) := by decide +kernel
theorem dX5_creep_159 : decode cX5_creep 159 = .ok (.invokestatic 40, 3) := by decide +kernel
theorem dX5_creep_162 : decode cX5_creep 162 = .ok (.iaload, 1) := by decide +kernel
theorem dX5_creep_163 : decode cX5_creep 163 = .ok (.iconst 1, 1) := by decide +kernel
theorem dX5_creep_164 : decode cX5_creep 164 = .ok (.iadd, 1) := by decide +kernel
theorem dX5_creep_165 : decode cX5_creep 165 = .ok (.goto 4, 3) := by decide +kernel
theorem dX5_creep_168 : decode cX5_creep 168 = .ok (.iconst 1, 1) := by decide +kernel
theorem dX5_creep_169 : decode cX5_creep 169 = .ok (.iastore, 1) := by decide +kernel
theorem dX5_creep_170 : decode cX5_creep 170 = .ok (.aload_n 0, 1) := by decide +kernel
theorem dX5_creep_171 : decode cX5_creep 171 = .ok (.getfield 7, 3) := by decide +kernel
theorem dX5_creep_174 : decode cX5_creep 174 = .ok (.iload_n 1, 1) := by decide +kernel
theorem dX5_creep_175 : decode cX5_creep 175 = .ok (.bipush 8, 2) := by decide +kernel
theorem dX5_creep_177 : decode cX5_creep 177 = .ok (.invokestatic 40, 3) := by decide +kernel
theorem dX5_creep_180 : decode cX5_creep 180 = .ok (.iload 7, 2) := by decide +kernel
theorem dX5_creep_182 : decode cX5_creep 182 = .ok (.iastore, 1) := by decide +kernel
theorem dX5_creep_183 : decode cX5_creep 183 = .ok (.aload_n 0, 1) := by decide +kernel
theorem dX5_creep_184 : decode cX5_creep 184 = .ok (.getfield 7, 3) := by decide +kernel
theorem dX5_creep_187 : decode cX5_creep 187 = .ok (.iload_n 1, 1) := by decide +kernel
theorem dX5_creep_188 : decode cX5_creep 188 = .ok (.bipush 6, 2) := by decide +kernel
theorem dX5_creep_190 : decode cX5_creep 190 = .ok (.invokestatic 40, 3) := by decide +kernel
theorem dX5_creep_193 : decode cX5_creep 193 = .ok (.dup2, 1) := by decide +kernel
theorem dX5_creep_194 : decode cX5_creep 194 = .ok (.iaload, 1) := by decide +kernel
theorem dX5_creep_195 : decode cX5_creep 195 = .ok (.iconst 1, 1) := by decide +kernel
theorem dX5_creep_196 : decode cX5_creep 196 = .ok (.iadd, 1) := by decide +kernel
theorem dX5_creep_197 : decode cX5_creep 197 = .ok (.iastore, 1) := by decide +kernel
theorem dX5_creep_198 : decode cX5_creep 198 = .ok (.aload_n 0, 1) := by decide +kernel
theorem dX5_creep_199 : decode cX5_creep 199 = .ok (.getfield 7, 3) := by decide +kernel
theorem dX5_creep_202 : decode cX5_creep 202 = .ok (.sipush 450, 3) := by decide +kernel
theorem dX5_creep_205 : decode cX5_creep 205 = .ok (.bipush 9, 2) := by decide +kernel
theorem dX5_creep_207 : decode cX5_creep 207 = .ok (.iload_n 1, 1) := by decide +kernel
theorem dX5_creep_208 : decode cX5_creep 208 = .ok (.imul, 1) := by decide +kernel
theorem dX5_creep_209 : decode cX5_creep 209 = .ok (.iadd, 1) := by decide +kernel
theorem dX5_creep_210 : decode cX5_creep 210 = .ok (.iload 7, 2) := by decide +kernel
theorem dX5_creep_212 : decode cX5_creep 212 = .ok (.iadd, 1) := by decide +kernel
theorem dX5_creep_213 : decode cX5_creep 213 = .ok (.iconst 1, 1) := by decide +kernel
theorem dX5_creep_214 : decode cX5_creep 214 = .ok (.isub, 1) := by decide +kernel
theorem dX5_creep_215 : decode cX5_creep 215 = .ok (.dup2, 1) := by decide +kernel
theorem dX5_creep_216 : decode cX5_creep 216 = .ok (.iaload, 1) := by decide +kernel
theorem dX5_creep_217 : decode cX5_creep 217 = .ok (.iconst 1, 1) := by decide +kernel
theorem dX5_creep_218 : decode cX5_creep 218 = .ok (.iadd, 1) := by decide +kernel
theorem dX5_creep_219 : decode cX5_creep 219 = .ok (.iastore, 1) := by decide +kernel
theorem dX5_creep_220 : decode cX5_creep 220 = .ok (.goto 27, 3) := by decide +kernel
theorem dX5_creep_223 : decode cX5_creep 223 = .ok (.aload_n 0, 1) := by decide +kernel
theorem dX5_creep_224 : decode cX5_creep 224 = .ok (.getfield 7, 3) := by decide +kernel
theorem dX5_creep_227 : decode cX5_creep 227 = .ok (.iload_n 1, 1) := by decide +kernel
theorem dX5_creep_228 : decode cX5_creep 228 = .ok (.bipush 8, 2) := by decide +kernel
theorem dX5_creep_230 : decode cX5_creep 230 = .ok (.invokestatic 40, 3) := by decide +kernel
theorem dX5_creep_233 : decode cX5_creep 233 = .ok (.iconst 0, 1) := by decide +kernel
theorem dX5_creep_234 : decode cX5_creep 234 = .ok (.iastore, 1) := by decide +kernel
theorem dX5_creep_235 : decode cX5_creep 235 = .ok (.aload_n 0, 1) := by decide +kernel
theorem dX5_creep_236 : decode cX5_creep 236 = .ok (.getfield 7, 3) := by decide +kernel
theorem dX5_creep_239 : decode cX5_creep 239 = .ok (.iload_n 1, 1) := by decide +kernel
theorem dX5_creep_240 : decode cX5_creep 240 = .ok (.bipush 9, 2) := by decide +kernel
theorem dX5_creep_242 : decode cX5_creep 242 = .ok (.invokestatic 40, 3) := by decide +kernel
theorem dX5_creep_245 : decode cX5_creep 245 = .ok (.iconst 0, 1) := by decide +kernel
theorem dX5_creep_246 : decode cX5_creep 246 = .ok (.iastore, 1) := by decide +kernel
theorem dX5_creep_247 : decode cX5_creep 247 = .ok (.aload_n 0, 1) := by decide +kernel
theorem dX5_creep_248 : decode cX5_creep 248 = .ok (.getfield 7, 3) := by decide +kernel
theorem dX5_creep_251 : decode cX5_creep 251 = .ok (.bipush 120, 2) := by decide +kernel
theorem dX5_creep_253 : decode cX5_creep 253 = .ok (.iload_n 3, 1) := by decide +kernel
theorem dX5_creep_254 : decode cX5_creep 254 = .ok (.iadd, 1) := by decide +kernel
theorem dX5_creep_255 : decode cX5_creep 255 = .ok (.iload_n 1, 1) := by decide +kernel
theorem dX5_creep_256 : decode cX5_creep 256 = .ok (.iconst 1, 1) := by decide +kernel
theorem dX5_creep_257 : decode cX5_creep 257 = .ok (.iadd, 1) := by decide +kernel
theorem dX5_creep_258 : decode cX5_creep 258 = .ok (.iastore, 1) := by decide +kernel
theorem dX5_creep_259 : decode cX5_creep 259 = .ok (.aload_n 0, 1) := by decide +kernel
theorem dX5_creep_260 : decode cX5_creep 260 = .ok (.getfield 7, 3) := by decide +kernel
theorem dX5_creep_263 : decode cX5_creep 263 = .ok (.sipush 240, 3) := by decide +kernel
theorem dX5_creep_266 : decode cX5_creep 266 = .ok (.iload_n 3, 1) := by decide +kernel
theorem dX5_creep_267 : decode cX5_creep 267 = .ok (.iadd, 1) := by decide +kernel
theorem dX5_creep_268 : decode cX5_creep 268 = .ok (.iconst 0, 1) := by decide +kernel
theorem dX5_creep_269 : decode cX5_creep 269 = .ok (.iastore, 1) := by decide +kernel
theorem dX5_creep_270 : decode cX5_creep 270 = .ok (.aload_n 0, 1) := by decide +kernel
theorem dX5_creep_271 : decode cX5_creep 271 = .ok (.getfield 7, 3) := by decide +kernel
theorem dX5_creep_274 : decode cX5_creep 274 = .ok (.iload_n 1, 1) := by decide +kernel
theorem dX5_creep_275 : decode cX5_creep 275 = .ok (.iconst 0, 1) := by decide +kernel
theorem dX5_creep_276 : decode cX5_creep 276 = .ok (.invokestatic 40, 3) := by decide +kernel
theorem dX5_creep_279 : decode cX5_creep 279 = .ok (.iload 4, 2) := by decide +kernel
theorem dX5_creep_281 : decode cX5_creep 281 = .ok (.iastore, 1) := by decide +kernel
theorem dX5_creep_282 : decode cX5_creep 282 = .ok (.aload_n 0, 1) := by decide +kernel
theorem dX5_creep_283 : decode cX5_creep 283 = .ok (.getfield 7, 3) := by decide +kernel
theorem dX5_creep_286 : decode cX5_creep 286 = .ok (.iload_n 1, 1) := by decide +kernel
theorem dX5_creep_287 : decode cX5_creep 287 = .ok (.iconst 1, 1) := by decide +kernel
theorem dX5_creep_288 : decode cX5_creep 288 = .ok (.invokestatic 40, 3) := by decide +kernel
theorem dX5_creep_291 : decode cX5_creep 291 = .ok (.dup2, 1) := by decide +kernel
theorem dX5_creep_292 : decode cX5_creep 292 = .ok (.iaload, 1) := by decide +kernel
theorem dX5_creep_293 : decode cX5_creep 293 = .ok (.iconst 1, 1) := by decide +kernel
theorem dX5_creep_294 : decode cX5_creep 294 = .ok (.iadd, 1) := by decide +kernel
theorem dX5_creep_295 : decode cX5_creep 295 = .ok (.iastore, 1) := by decide +kernel
theorem dX5_creep_296 : decode cX5_creep 296 = .ok (.aload_n 0, 1) := by decide +kernel
theorem dX5_creep_297 : decode cX5_creep 297 = .ok (.getfield 7, 3) := by decide +kernel
theorem dX5_creep_300 : decode cX5_creep 300 = .ok (.iload_n 1, 1) := by decide +kernel
theorem dX5_creep_301 : decode cX5_creep 301 = .ok (.iconst 1, 1) := by decide +kernel
theorem dX5_creep_302 : decode cX5_creep 302 = .ok (.invokestatic 40, 3) := by decide +kernel
theorem dX5_creep_305 : decode cX5_creep 305 = .ok (.iaload, 1) := by decide +kernel
theorem dX5_creep_306 : decode cX5_creep 306 = .ok (.bipush 19, 2) := by decide +kernel
theorem dX5_creep_308 : decode cX5_creep 308 = .ok (.if_icmp .ne 44, 3) := by decide +kernel
theorem dX5_creep_311 : decode cX5_creep 311 = .ok (.aload_n 0, 1) := by decide +kernel
theorem dX5_creep_312 : decode cX5_creep 312 = .ok (.getfield 7, 3) := by decide +kernel
theorem dX5_creep_315 : decode cX5_creep 315 = .ok (.sipush 537, 3) := by decide +kernel
theorem dX5_creep_318 : decode cX5_creep 318 = .ok (.dup2, 1) := by decide +kernel
theorem dX5_creep_319 : decode cX5_creep 319 = .ok (.iaload, 1) := by decide +kernel
theorem dX5_creep_320 : decode cX5_creep 320 = .ok (.iconst 1, 1) := by decide +kernel
theorem dX5_creep_321 : decode cX5_creep 321 = .ok (.iadd, 1) := by decide +kernel
theorem dX5_creep_322 : decode cX5_creep 322 = .ok (.iastore, 1) := by decide +kernel
theorem dX5_creep_323 : decode cX5_creep 323 = .ok (.aload_n 0, 1) := by decide +kernel
theorem dX5_creep_324 : decode cX5_creep 324 = .ok (.getfield 7, 3) := by decide +kernel
theorem dX5_creep_327 : decode cX5_creep 327 = .ok (.iload_n 1, 1) := by decide +kernel
theorem dX5_creep_328 : decode cX5_creep 328 = .ok (.iconst 3, 1) := by decide +kernel
theorem dX5_creep_329 : decode cX5_creep 329 = .ok (.invokestatic 40, 3) := by decide +kernel
theorem dX5_creep_332 : decode cX5_creep 332 = .ok (.iconst 1, 1) := by decide +kernel
theorem dX5_creep_333 : decode cX5_creep 333 = .ok (.iastore, 1) := by decide +kernel
theorem dX5_creep_334 : decode cX5_creep 334 = .ok (.aload_n 0, 1) := by decide +kernel
theorem dX5_creep_335 : decode cX5_creep 335 = .ok (.getfield 7, 3) := by decide +kernel
theorem dX5_creep_338 : decode cX5_creep 338 = .ok (.iload_n 1, 1) := by decide +kernel
theorem dX5_creep_339 : decode cX5_creep 339 = .ok (.iconst 4, 1) := by decide +kernel
theorem dX5_creep_340 : decode cX5_creep 340 = .ok (.invokestatic 40, 3) := by decide +kernel
theorem dX5_creep_343 : decode cX5_creep 343 = .ok (.aload_n 0, 1) := by decide +kernel
theorem dX5_creep_344 : decode cX5_creep 344 = .ok (.getfield 7, 3) := by decide +kernel
theorem dX5_creep_347 : decode cX5_creep 347 = .ok (.sipush 537, 3) := by decide +kernel
theorem dX5_creep_350 : decode cX5_creep 350 = .ok (.iaload, 1) := by decide +kernel
theorem dX5_creep_351 : decode cX5_creep 351 = .ok (.iastore, 1) := by decide +kernel
theorem dX5_creep_352 : decode cX5_creep 352 = .ok (.return_, 1) := by decide +kernel
theorem dX5_turn_0 : decode cX5_turn 0 = .ok (.iconst 0, 1) := by decide +kernel
theorem dX5_turn_1 : decode cX5_turn 1 = .ok (.istore_n 1, 1) := by decide +kernel
theorem dX5_turn_2 : decode cX5_turn 2 = .ok (.iload_n 1, 1) := by decide +kernel
theorem dX5_turn_3 : decode cX5_turn 3 = .ok (.aload_n 0, 1) := by decide +kernel
theorem dX5_turn_4 : decode cX5_turn 4 = .ok (.getfield 7, 3) := by decide +kernel
theorem dX5_turn_7 : decode cX5_turn 7 = .ok (.sipush 535, 3) := by decide +kernel
theorem dX5_turn_10 : decode cX5_turn 10 = .ok (.iaload, 1) := by decide +kernel
theorem dX5_turn_11 : decode cX5_turn 11 = .ok (.if_icmp .ge 118, 3) := by decide +kernel
theorem dX5_turn_14 : decode cX5_turn 14 = .ok (.aload_n 0, 1) := by decide +kernel
theorem dX5_turn_15 : decode cX5_turn 15 = .ok (.iload_n 1, 1) := by decide +kernel
theorem dX5_turn_16 : decode cX5_turn 16 = .ok (.invokevirtual 48, 3) := by decide +kernel
theorem dX5_turn_19 : decode cX5_turn 19 = .ok (.ifCond .eq 104, 3) := by decide +kernel
theorem dX5_turn_22 : decode cX5_turn 22 = .ok (.aload_n 0, 1) := by decide +kernel
theorem dX5_turn_23 : decode cX5_turn 23 = .ok (.iload_n 1, 1) := by decide +kernel
theorem dX5_turn_24 : decode cX5_turn 24 = .ok (.invokevirtual 96, 3) := by decide +kernel
theorem dX5_turn_27 : decode cX5_turn 27 = .ok (.istore_n 2, 1) := by decide +kernel
theorem dX5_turn_28 : decode cX5_turn 28 = .ok (.iload_n 2, 1) := by decide +kernel
theorem dX5_turn_29 : decode cX5_turn 29 = .ok (.iconst 3, 1) := by decide +kernel
theorem dX5_turn_30 : decode cX5_turn 30 = .ok (.if_icmp .ge 12, 3) := by decide +kernel
theorem dX5_turn_33 : decode cX5_turn 33 = .ok (.aload_n 0, 1) := by decide +kernel
theorem dX5_turn_34 : decode cX5_turn 34 = .ok (.iload_n 1, 1) := by decide +kernel
theorem dX5_turn_35 : decode cX5_turn 35 = .ok (.iload_n 2, 1) := by decide +kernel
theorem dX5_turn_36 : decode cX5_turn 36 = .ok (.invokevirtual 99, 3) := by decide +kernel
theorem dX5_turn_39 : decode cX5_turn 39 = .ok (.goto 84, 3) := by decide +kernel
theorem dX5_turn_42 : decode cX5_turn 42 = .ok (.aload_n 0, 1) := by decide +kernel
theorem dX5_turn_43 : decode cX5_turn 43 = .ok (.getfield 7, 3) := by decide +kernel
theorem dX5_turn_46 : decode cX5_turn 46 = .ok (.iload_n 1, 1) := by decide +kernel
theorem dX5_turn_47 : decode cX5_turn 47 = .ok (.iconst 2, 1) := by decide +kernel
theorem dX5_turn_48 : decode cX5_turn 48 = .ok (.invokestatic 40, 3) := by decide +kernel
theorem dX5_turn_51 : decode cX5_turn 51 = .ok (.iaload, 1) := by decide +kernel
theorem dX5_turn_52 : decode cX5_turn 52 = .ok (.aload_n 0, 1) := by decide +kernel
theorem dX5_turn_53 : decode cX5_turn 53 = .ok (.getfield 7, 3) := by decide +kernel
theorem dX5_turn_56 : decode cX5_turn 56 = .ok (.sipush 533, 3) := by decide +kernel
theorem dX5_turn_59 : decode cX5_turn 59 = .ok (.iaload, 1) := by decide +kernel
theorem dX5_turn_60 : decode cX5_turn 60 = .ok (.iadd, 1) := by decide +kernel
theorem dX5_turn_61 : decode cX5_turn 61 = .ok (.istore_n 3, 1) := by decide +kernel
theorem dX5_turn_62 : decode cX5_turn 62 = .ok (.aload_n 0, 1) := by decide +kernel
theorem dX5_turn_63 : decode cX5_turn 63 = .ok (.getfield 7, 3) := by decide +kernel
theorem dX5_turn_66 : decode cX5_turn 66 = .ok (.iload_n 1, 1) := by decide +kernel
theorem dX5_turn_67 : decode cX5_turn 67 = .ok (.iconst 2, 1) := by decide +kernel
theorem dX5_turn_68 : decode cX5_turn 68 = .ok (.invokestatic 40, 3) := by decide +kernel
theorem dX5_turn_71 : decode cX5_turn 71 = .ok (.iload_n 3, 1) := by decide +kernel
theorem dX5_turn_72 : decode cX5_turn 72 = .ok (.bipush 99, 2) := by decide +kernel
theorem dX5_turn_74 : decode cX5_turn 74 = .ok (.if_icmp .le 8, 3) := by decide +kernel
theorem dX5_turn_77 : decode cX5_turn 77 = .ok (.bipush 99, 2) := by decide +kernel
theorem dX5_turn_79 : decode cX5_turn 79 = .ok (.goto 4, 3) := by decide +kernel
theorem dX5_turn_82 : decode cX5_turn 82 = .ok (.iload_n 3, 1) := by decide +kernel
theorem dX5_turn_83 : decode cX5_turn 83 = .ok (.iastore, 1) := by decide +kernel
theorem dX5_turn_84 : decode cX5_turn 84 = .ok (.aload_n 0, 1) := by decide +kernel
theorem dX5_turn_85 : decode cX5_turn 85 = .ok (.getfield 7, 3) := by decide +kernel
theorem dX5_turn_88 : decode cX5_turn 88 = .ok (.iload_n 1, 1) := by decide +kernel
theorem dX5_turn_89 : decode cX5_turn 89 = .ok (.bipush 7, 2) := by decide +kernel
theorem dX5_turn_91 : decode cX5_turn 91 = .ok (.invokestatic 40, 3) := by decide +kernel
theorem dX5_turn_94 : decode cX5_turn 94 = .ok (.dup2, 1) := by decide +kernel
theorem dX5_turn_95 : decode cX5_turn 95 = .ok (.iaload, 1) := by decide +kernel
theorem dX5_turn_96 : decode cX5_turn 96 = .ok (.iconst 1, 1) := by decide +kernel
theorem dX5_turn_97 : decode cX5_turn 97 = .ok (.iadd, 1) := by decide +kernel
theorem dX5_turn_98 : decode cX5_turn 98 = .ok (.iastore, 1) := by decide +kernel
theorem dX5_turn_99 : decode cX5_turn 99 = .ok (.aload_n 0, 1) := by decide +kernel
theorem dX5_turn_100 : decode cX5_turn 100 = .ok (.getfield 7, 3) := by decide +kernel
theorem dX5_turn_103 : decode cX5_turn 103 = .ok (.iload_n 1, 1) := by decide +kernel
theorem dX5_turn_104 : decode cX5_turn 104 = .ok (.bipush 8, 2) := by decide +kernel
theorem dX5_turn_106 : decode cX5_turn 106 = .ok (.invokestatic 40, 3) := by decide +kernel
theorem dX5_turn_109 : decode cX5_turn 109 = .ok (.iconst 0, 1) := by decide +kernel
theorem dX5_turn_110 : decode cX5_turn 110 = .ok (.iastore, 1) := by decide +kernel
theorem dX5_turn_111 : decode cX5_turn 111 = .ok (.aload_n 0, 1) := by decide +kernel
theorem dX5_turn_112 : decode cX5_turn 112 = .ok (.getfield 7, 3) := by decide +kernel
theorem dX5_turn_115 : decode cX5_turn 115 = .ok (.iload_n 1, 1) := by decide +kernel
theorem dX5_turn_116 : decode cX5_turn 116 = .ok (.bipush 9, 2) := by decide +kernel
theorem dX5_turn_118 : decode cX5_turn 118 = .ok (.invokestatic 40, 3) := by decide +kernel
theorem dX5_turn_121 : decode cX5_turn 121 = .ok (.iconst 0, 1) := by decide +kernel
theorem dX5_turn_122 : decode cX5_turn 122 = .ok (.iastore, 1) := by decide +kernel
theorem dX5_turn_123 : decode cX5_turn 123 = .ok (.iinc 1 1, 3) := by decide +kernel
theorem dX5_turn_126 : decode cX5_turn 126 = .ok (.goto (-124), 3) := by decide +kernel
theorem dX5_turn_129 : decode cX5_turn 129 = .ok (.iconst 0, 1) := by decide +kernel
theorem dX5_turn_130 : decode cX5_turn 130 = .ok (.istore_n 1, 1) := by decide +kernel
theorem dX5_turn_131 : decode cX5_turn 131 = .ok (.iload_n 1, 1) := by decide +kernel
theorem dX5_turn_132 : decode cX5_turn 132 = .ok (.bipush 120, 2) := by decide +kernel
theorem dX5_turn_134 : decode cX5_turn 134 = .ok (.if_icmp .ge 39, 3) := by decide +kernel
theorem dX5_turn_137 : decode cX5_turn 137 = .ok (.aload_n 0, 1) := by decide +kernel
theorem dX5_turn_138 : decode cX5_turn 138 = .ok (.getfield 7, 3) := by decide +kernel
theorem dX5_turn_141 : decode cX5_turn 141 = .ok (.sipush 240, 3) := by decide +kernel
theorem dX5_turn_144 : decode cX5_turn 144 = .ok (.iload_n 1, 1) := by decide +kernel
theorem dX5_turn_145 : decode cX5_turn 145 = .ok (.iadd, 1) := by decide +kernel
theorem dX5_turn_146 : decode cX5_turn 146 = .ok (.dup2, 1) := by decide +kernel
theorem dX5_turn_147 : decode cX5_turn 147 = .ok (.iaload, 1) := by decide +kernel
theorem dX5_turn_148 : decode cX5_turn 148 = .ok (.aload_n 0, 1) := by decide +kernel
theorem dX5_turn_149 : decode cX5_turn 149 = .ok (.getfield 7, 3) := by decide +kernel
theorem dX5_turn_152 : decode cX5_turn 152 = .ok (.bipush 120, 2) := by decide +kernel
theorem dX5_turn_154 : decode cX5_turn 154 = .ok (.iload_n 1, 1) := by decide +kernel
theorem dX5_turn_155 : decode cX5_turn 155 = .ok (.iadd, 1) := by decide +kernel
theorem dX5_turn_156 : decode cX5_turn 156 = .ok (.iaload, 1) := by decide +kernel
theorem dX5_turn_157 : decode cX5_turn 157 = .ok (.ifCond .le 7, 3) := by decide +kernel
theorem dX5_turn_160 : decode cX5_turn 160 = .ok (.iconst 1, 1) := by decide +kernel
theorem dX5_turn_161 : decode cX5_turn 161 = .ok (.goto 4, 3) := by decide +kernel
theorem dX5_turn_164 : decode cX5_turn 164 = .ok (.iconst 0, 1) := by decide +kernel
theorem dX5_turn_165 : decode cX5_turn 165 = .ok (.iadd, 1) := by decide +kernel
theorem dX5_turn_166 : decode cX5_turn 166 = .ok (.iastore, 1) := by decide +kernel
theorem dX5_turn_167 : decode cX5_turn 167 = .ok (.iinc 1 1, 3) := by decide +kernel
theorem dX5_turn_170 : decode cX5_turn 170 = .ok (.goto (-39), 3) := by decide +kernel
theorem dX5_turn_173 : decode cX5_turn 173 = .ok (.aload_n 0, 1) := by decide +kernel
theorem dX5_turn_174 : decode cX5_turn 174 = .ok (.invokevirtual 84, 3) := by decide +kernel
theorem dX5_turn_177 : decode cX5_turn 177 = .ok (.aload_n 0, 1) := by decide +kernel
theorem dX5_turn_178 : decode cX5_turn 178 = .ok (.getfield 7, 3) := by decide +kernel
theorem dX5_turn_181 : decode cX5_turn 181 = .ok (.sipush 536, 3) := by decide +kernel
theorem dX5_turn_184 : decode cX5_turn 184 = .ok (.dup2, 1) := by decide +kernel
theorem dX5_turn_185 : decode cX5_turn 185 = .ok (.iaload, 1) := by decide +kernel
theorem dX5_turn_186 : decode cX5_turn 186 = .ok (.iconst 1, 1) := by decide +kernel
theorem dX5_turn_187 : decode cX5_turn 187 = .ok (.iadd, 1) := by decide +kernel
theorem dX5_turn_188 : decode cX5_turn 188 = .ok (.iastore, 1) := by decide +kernel
theorem dX5_turn_189 : decode cX5_turn 189 = .ok (.aload_n 0, 1) := by decide +kernel
theorem dX5_turn_190 : decode cX5_turn 190 = .ok (.getfield 7, 3) := by decide +kernel
theorem dX5_turn_193 : decode cX5_turn 193 = .ok (.sipush 536, 3) := by decide +kernel
theorem dX5_turn_196 : decode cX5_turn 196 = .ok (.iaload, 1) := by decide +kernel
theorem dX5_turn_197 : decode cX5_turn 197 = .ok (.aload_n 0, 1) := by decide +kernel
theorem dX5_turn_198 : decode cX5_turn 198 = .ok (.getfield 7, 3) := by decide +kernel
theorem dX5_turn_201 : decode cX5_turn 201 = .ok (.sipush 534, 3) := by decide +kernel
theorem dX5_turn_204 : decode cX5_turn 204 = .ok (.iaload, 1) := by decide +kernel
theorem dX5_turn_205 : decode cX5_turn 205 = .ok (.irem, 1) := by decide +kernel
theorem dX5_turn_206 : decode cX5_turn 206 = .ok (.ifCond .ne 7, 3) := by decide +kernel
theorem dX5_turn_209 : decode cX5_turn 209 = .ok (.iconst 1, 1) := by decide +kernel
theorem dX5_turn_210 : decode cX5_turn 210 = .ok (.goto 4, 3) := by decide +kernel
theorem dX5_turn_213 : decode cX5_turn 213 = .ok (.iconst 0, 1) := by decide +kernel
theorem dX5_turn_214 : decode cX5_turn 214 = .ok (.istore_n 1, 1) := by decide +kernel
theorem dX5_turn_215 : decode cX5_turn 215 = .ok (.iconst 0, 1) := by decide +kernel
theorem dX5_turn_216 : decode cX5_turn 216 = .ok (.istore_n 2, 1) := by decide +kernel
theorem dX5_turn_217 : decode cX5_turn 217 = .ok (.iload_n 2, 1) := by decide +kernel
theorem dX5_turn_218 : decode cX5_turn 218 = .ok (.bipush 120, 2) := by decide +kernel
theorem dX5_turn_220 : decode cX5_turn 220 = .ok (.if_icmp .ge 54, 3) := by decide +kernel
theorem dX5_turn_223 : decode cX5_turn 223 = .ok (.aload_n 0, 1) := by decide +kernel
theorem dX5_turn_224 : decode cX5_turn 224 = .ok (.getfield 7, 3) := by decide +kernel
theorem dX5_turn_227 : decode cX5_turn 227 = .ok (.iconst 0, 1) := by decide +kernel
theorem dX5_turn_228 : decode cX5_turn 228 = .ok (.iload_n 2, 1) := by decide +kernel
theorem dX5_turn_229 : decode cX5_turn 229 = .ok (.iadd, 1) := by decide +kernel
theorem dX5_turn_230 : decode cX5_turn 230 = .ok (.dup2, 1) := by decide +kernel
theorem dX5_turn_231 : decode cX5_turn 231 = .ok (.iaload, 1) := by decide +kernel
theorem dX5_turn_232 : decode cX5_turn 232 = .ok (.iload_n 1, 1) := by decide +kernel
theorem dX5_turn_233 : decode cX5_turn 233 = .ok (.ifCond .eq 32, 3) := by decide +kernel
theorem dX5_turn_236 : decode cX5_turn 236 = .ok (.aload_n 0, 1) := by decide +kernel
theorem dX5_turn_237 : decode cX5_turn 237 = .ok (.getfield 7, 3) := by decide +kernel
theorem dX5_turn_240 : decode cX5_turn 240 = .ok (.bipush 120, 2) := by decide +kernel
theorem dX5_turn_242 : decode cX5_turn 242 = .ok (.iload_n 2, 1) := by decide +kernel
theorem dX5_turn_243 : decode cX5_turn 243 = .ok (.iadd, 1) := by decide +kernel
theorem dX5_turn_244 : decode cX5_turn 244 = .ok (.iaload, 1) := by decide +kernel
theorem dX5_turn_245 : decode cX5_turn 245 = .ok (.ifCond .ne 20, 3) := by decide +kernel
theorem dX5_turn_248 : decode cX5_turn 248 = .ok (.aload_n 0, 1) := by decide +kernel
theorem dX5_turn_249 : decode cX5_turn 249 = .ok (.getfield 7, 3) := by decide +kernel
theorem dX5_turn_252 : decode cX5_turn 252 = .ok (.iconst 0, 1) := by decide +kernel
theorem dX5_turn_253 : decode cX5_turn 253 = .ok (.iload_n 2, 1) := by decide +kernel
theorem dX5_turn_254 : decode cX5_turn 254 = .ok (.iadd, 1) := by decide +kernel
theorem dX5_turn_255 : decode cX5_turn 255 = .ok (.iaload, 1) := by decide +kernel
theorem dX5_turn_256 : decode cX5_turn 256 = .ok (.bipush 9, 2) := by decide +kernel
theorem dX5_turn_258 : decode cX5_turn 258 = .ok (.if_icmp .ge 7, 3) := by decide +kernel
theorem dX5_turn_261 : decode cX5_turn 261 = .ok (.iconst 1, 1) := by decide +kernel
theorem dX5_turn_262 : decode cX5_turn 262 = .ok (.goto 4, 3) := by decide +kernel
theorem dX5_turn_265 : decode cX5_turn 265 = .ok (.iconst 0, 1) := by decide +kernel
theorem dX5_turn_266 : decode cX5_turn 266 = .ok (.iadd, 1) := by decide +kernel
theorem dX5_turn_267 : decode cX5_turn 267 = .ok (.iastore, 1) := by decide +kernel
theorem dX5_turn_268 : decode cX5_turn 268 = .ok (.iinc 2 1, 3) := by decide +kernel
theorem dX5_turn_271 : decode cX5_turn 271 = .ok (.goto (-54), 3) := by decide +kernel
theorem dX5_turn_274 : decode cX5_turn 274 = .ok (.return_, 1) := by decide +kernel
theorem dX5_passes_0 : decode cX5_passes 0 = .ok (.aload_n 0, 1) := by decide +kernel
theorem dX5_passes_1 : decode cX5_passes 1 = .ok (.getfield 7, 3) := by decide +kernel
theorem dX5_passes_4 : decode cX5_passes 4 = .ok (.sipush 537, 3) := by decide +kernel
theorem dX5_passes_7 : decode cX5_passes 7 = .ok (.iaload, 1) := by decide +kernel
theorem dX5_passes_8 : decode cX5_passes 8 = .ok (.istore_n 2, 1) := by decide +kernel
theorem dX5_passes_9 : decode cX5_passes 9 = .ok (.iconst 0, 1) := by decide +kernel
theorem dX5_passes_10 : decode cX5_passes 10 = .ok (.istore_n 3, 1) := by decide +kernel
theorem dX5_passes_11 : decode cX5_passes 11 = .ok (.iload_n 3, 1) := by decide +kernel
theorem dX5_passes_12 : decode cX5_passes 12 = .ok (.iload_n 1, 1) := by decide +kernel
theorem dX5_passes_13 : decode cX5_passes 13 = .ok (.if_icmp .ge 13, 3) := by decide +kernel
theorem dX5_passes_16 : decode cX5_passes 16 = .ok (.aload_n 0, 1) := by decide +kernel
theorem dX5_passes_17 : decode cX5_passes 17 = .ok (.invokevirtual 103, 3) := by decide +kernel
theorem dX5_passes_20 : decode cX5_passes 20 = .ok (.iinc 3 1, 3) := by decide +kernel
theorem dX5_passes_23 : decode cX5_passes 23 = .ok (.goto (-12), 3) := by decide +kernel
theorem dX5_passes_26 : decode cX5_passes 26 = .ok (.aload_n 0, 1) := by decide +kernel
theorem dX5_passes_27 : decode cX5_passes 27 = .ok (.getfield 7, 3) := by decide +kernel
theorem dX5_passes_30 : decode cX5_passes 30 = .ok (.sipush 537, 3) := by decide +kernel
theorem dX5_passes_33 : decode cX5_passes 33 = .ok (.iaload, 1) := by decide +kernel
theorem dX5_passes_34 : decode cX5_passes 34 = .ok (.iload_n 2, 1) := by decide +kernel
theorem dX5_passes_35 : decode cX5_passes 35 = .ok (.isub, 1) := by decide +kernel
theorem dX5_passes_36 : decode cX5_passes 36 = .ok (.ireturn, 1) := by decide +kernel
theorem dX5_barPass_0 : decode cX5_barPass 0 = .ok (.iload_n 1, 1) := by decide +kernel
theorem dX5_barPass_1 : decode cX5_barPass 1 = .ok (.iconst 1, 1) := by decide +kernel
theorem dX5_barPass_2 : decode cX5_barPass 2 = .ok (.bipush 99, 2) := by decide +kernel
theorem dX5_barPass_4 : decode cX5_barPass 4 = .ok (.invokestatic 32, 3) := by decide +kernel
theorem dX5_barPass_7 : decode cX5_barPass 7 = .ok (.ifCond .ne 8, 3) := by decide +kernel
theorem dX5_barPass_10 : decode cX5_barPass 10 = .ok (.bipush (-2), 2) := by decide +kernel
theorem dX5_barPass_12 : decode cX5_barPass 12 = .ok (.goto 24, 3) := by decide +kernel
theorem dX5_barPass_15 : decode cX5_barPass 15 = .ok (.aload_n 0, 1) := by decide +kernel
theorem dX5_barPass_16 : decode cX5_barPass 16 = .ok (.getfield 7, 3) := by decide +kernel
theorem dX5_barPass_19 : decode cX5_barPass 19 = .ok (.sipush 536, 3) := by decide +kernel
theorem dX5_barPass_22 : decode cX5_barPass 22 = .ok (.iaload, 1) := by decide +kernel
theorem dX5_barPass_23 : decode cX5_barPass 23 = .ok (.iload_n 1, 1) := by decide +kernel
theorem dX5_barPass_24 : decode cX5_barPass 24 = .ok (.iadd, 1) := by decide +kernel
theorem dX5_barPass_25 : decode cX5_barPass 25 = .ok (.ldc 106, 2) := by decide +kernel
theorem dX5_barPass_27 : decode cX5_barPass 27 = .ok (.if_icmp .le 8, 3) := by decide +kernel
theorem dX5_barPass_30 : decode cX5_barPass 30 = .ok (.bipush (-3), 2) := by decide +kernel
theorem dX5_barPass_32 : decode cX5_barPass 32 = .ok (.goto 4, 3) := by decide +kernel
theorem dX5_barPass_35 : decode cX5_barPass 35 = .ok (.iconst 0, 1) := by decide +kernel
theorem dX5_barPass_36 : decode cX5_barPass 36 = .ok (.ireturn, 1) := by decide +kernel
theorem dX5_pass_0 : decode cX5_pass 0 = .ok (.aload_n 0, 1) := by decide +kernel
theorem dX5_pass_1 : decode cX5_pass 1 = .ok (.iload_n 1, 1) := by decide +kernel
theorem dX5_pass_2 : decode cX5_pass 2 = .ok (.invokevirtual 107, 3) := by decide +kernel
theorem dX5_pass_5 : decode cX5_pass 5 = .ok (.istore_n 2, 1) := by decide +kernel
theorem dX5_pass_6 : decode cX5_pass 6 = .ok (.iload_n 2, 1) := by decide +kernel
theorem dX5_pass_7 : decode cX5_pass 7 = .ok (.ifCond .ge 5, 3) := by decide +kernel
theorem dX5_pass_10 : decode cX5_pass 10 = .ok (.iload_n 2, 1) := by decide +kernel
theorem dX5_pass_11 : decode cX5_pass 11 = .ok (.ireturn, 1) := by decide +kernel
theorem dX5_pass_12 : decode cX5_pass 12 = .ok (.aload_n 0, 1) := by decide +kernel
theorem dX5_pass_13 : decode cX5_pass 13 = .ok (.invokevirtual 57, 3) := by decide +kernel
theorem dX5_pass_16 : decode cX5_pass 16 = .ok (.aload_n 0, 1) := by decide +kernel
theorem dX5_pass_17 : decode cX5_pass 17 = .ok (.iload_n 1, 1) := by decide +kernel
theorem dX5_pass_18 : decode cX5_pass 18 = .ok (.invokevirtual 110, 3) := by decide +kernel
theorem dX5_pass_21 : decode cX5_pass 21 = .ok (.ireturn, 1) := by decide +kernel
theorem dX5_type_0 : decode cX5_type 0 = .ok (.aload_n 0, 1) := by decide +kernel
theorem dX5_type_1 : decode cX5_type 1 = .ok (.getfield 113, 3) := by decide +kernel
theorem dX5_type_4 : decode cX5_type 4 = .ok (.bipush 60, 2) := by decide +kernel
theorem dX5_type_6 : decode cX5_type 6 = .ok (.if_icmp .ne 6, 3) := by decide +kernel
theorem dX5_type_9 : decode cX5_type 9 = .ok (.bipush (-3), 2) := by decide +kernel
theorem dX5_type_11 : decode cX5_type 11 = .ok (.ireturn, 1) := by decide +kernel
theorem dX5_type_12 : decode cX5_type 12 = .ok (.aload_n 0, 1) := by decide +kernel
theorem dX5_type_13 : decode cX5_type 13 = .ok (.getfield 22, 3) := by decide +kernel
theorem dX5_type_16 : decode cX5_type 16 = .ok (.aload_n 0, 1) := by decide +kernel
theorem dX5_type_17 : decode cX5_type 17 = .ok (.getfield 113, 3) := by decide +kernel
theorem dX5_type_20 : decode cX5_type 20 = .ok (.iload_n 1, 1) := by decide +kernel
theorem dX5_type_21 : decode cX5_type 21 = .ok (.castore, 1) := by decide +kernel
theorem dX5_type_22 : decode cX5_type 22 = .ok (.aload_n 0, 1) := by decide +kernel
theorem dX5_type_23 : decode cX5_type 23 = .ok (.dup, 1) := by decide +kernel
theorem dX5_type_24 : decode cX5_type 24 = .ok (.getfield 113, 3) := by decide +kernel
theorem dX5_type_27 : decode cX5_type 27 = .ok (.iconst 1, 1) := by decide +kernel
theorem dX5_type_28 : decode cX5_type 28 = .ok (.iadd, 1) := by decide +kernel
theorem dX5_type_29 : decode cX5_type 29 = .ok (.putfield 113, 3) := by decide +kernel
theorem dX5_type_32 : decode cX5_type 32 = .ok (.aload_n 0, 1) := by decide +kernel
theorem dX5_type_33 : decode cX5_type 33 = .ok (.getfield 113, 3) := by decide +kernel
theorem dX5_type_36 : decode cX5_type 36 = .ok (.ireturn, 1) := by decide +kernel
theorem dX5_clearText_0 : decode cX5_clearText 0 = .ok (.aload_n 0, 1) := by decide +kernel
theorem dX5_clearText_1 : decode cX5_clearText 1 = .ok (.getfield 113, 3) := by decide +kernel
theorem dX5_clearText_4 : decode cX5_clearText 4 = .ok (.istore_n 1, 1) := by decide +kernel
theorem dX5_clearText_5 : decode cX5_clearText 5 = .ok (.aload_n 0, 1) := by decide +kernel
theorem dX5_clearText_6 : decode cX5_clearText 6 = .ok (.iconst 0, 1) := by decide +kernel
theorem dX5_clearText_7 : decode cX5_clearText 7 = .ok (.putfield 113, 3) := by decide +kernel
theorem dX5_clearText_10 : decode cX5_clearText 10 = .ok (.iload_n 1, 1) := by decide +kernel
theorem dX5_clearText_11 : decode cX5_clearText 11 = .ok (.ireturn, 1) := by decide +kernel
theorem dX5_next_0 : decode cX5_next 0 = .ok (.aload_n 0, 1) := by decide +kernel
theorem dX5_next_1 : decode cX5_next 1 = .ok (.getfield 116, 3) := by decide +kernel
theorem dX5_next_4 : decode cX5_next 4 = .ok (.aload_n 0, 1) := by decide +kernel
theorem dX5_next_5 : decode cX5_next 5 = .ok (.getfield 113, 3) := by decide +kernel
theorem dX5_next_8 : decode cX5_next 8 = .ok (.if_icmp .ge 15, 3) := by decide +kernel
theorem dX5_next_11 : decode cX5_next 11 = .ok (.aload_n 0, 1) := by decide +kernel
theorem dX5_next_12 : decode cX5_next 12 = .ok (.getfield 22, 3) := by decide +kernel
theorem dX5_next_15 : decode cX5_next 15 = .ok (.aload_n 0, 1) := by decide +kernel
theorem dX5_next_16 : decode cX5_next 16 = .ok (.getfield 116, 3) := by decide +kernel
theorem dX5_next_19 : decode cX5_next 19 = .ok (.caload, 1) := by decide +kernel
theorem dX5_next_20 : decode cX5_next 20 = .ok (.goto 4, 3) := by decide +kernel
theorem dX5_next_23 : decode cX5_next 23 = .ok (.iconst (-1), 1) := by decide +kernel
theorem dX5_next_24 : decode cX5_next 24 = .ok (.ireturn, 1) := by decide +kernel
theorem dX5_sign_0 : decode cX5_sign 0 = .ok (.aload_n 0, 1) := by decide +kernel
theorem dX5_sign_1 : decode cX5_sign 1 = .ok (.aload_n 0, 1) := by decide +kernel
theorem dX5_sign_2 : decode cX5_sign 2 = .ok (.getfield 119, 3) := by decide +kernel
theorem dX5_sign_5 : decode cX5_sign 5 = .ok (.ifCond .ne 11, 3) := by decide +kernel
theorem dX5_sign_8 : decode cX5_sign 8 = .ok (.aload_n 0, 1) := by decide +kernel
theorem dX5_sign_9 : decode cX5_sign 9 = .ok (.invokevirtual 123, 3) := by decide +kernel
theorem dX5_sign_12 : decode cX5_sign 12 = .ok (.iload_n 1, 1) := by decide +kernel
theorem dX5_sign_13 : decode cX5_sign 13 = .ok (.if_icmp .eq 7, 3) := by decide +kernel
theorem dX5_sign_16 : decode cX5_sign 16 = .ok (.iconst 1, 1) := by decide +kernel
theorem dX5_sign_17 : decode cX5_sign 17 = .ok (.goto 4, 3) := by decide +kernel
theorem dX5_sign_20 : decode cX5_sign 20 = .ok (.iconst 0, 1) := by decide +kernel
theorem dX5_sign_21 : decode cX5_sign 21 = .ok (.putfield 119, 3) := by decide +kernel
theorem dX5_sign_24 : decode cX5_sign 24 = .ok (.aload_n 0, 1) := by decide +kernel
theorem dX5_sign_25 : decode cX5_sign 25 = .ok (.dup, 1) := by decide +kernel
theorem dX5_sign_26 : decode cX5_sign 26 = .ok (.getfield 116, 3) := by decide +kernel
theorem dX5_sign_29 : decode cX5_sign 29 = .ok (.aload_n 0, 1) := by decide +kernel
theorem dX5_sign_30 : decode cX5_sign 30 = .ok (.getfield 119, 3) := by decide +kernel
theorem dX5_sign_33 : decode cX5_sign 33 = .ok (.ifCond .eq 7, 3) := by decide +kernel
theorem dX5_sign_36 : decode cX5_sign 36 = .ok (.iconst 0, 1) := by decide +kernel
theorem dX5_sign_37 : decode cX5_sign 37 = .ok (.goto 4, 3) := by decide +kernel
theorem dX5_sign_40 : decode cX5_sign 40 = .ok (.iconst 1, 1) := by decide +kernel
theorem dX5_sign_41 : decode cX5_sign 41 = .ok (.iadd, 1) := by decide +kernel
theorem dX5_sign_42 : decode cX5_sign 42 = .ok (.putfield 116, 3) := by decide +kernel
theorem dX5_sign_45 : decode cX5_sign 45 = .ok (.return_, 1) := by decide +kernel
theorem dX5_number_0 : decode cX5_number 0 = .ok (.aload_n 0, 1) := by decide +kernel
theorem dX5_number_1 : decode cX5_number 1 = .ok (.invokevirtual 123, 3) := by decide +kernel
theorem dX5_number_4 : decode cX5_number 4 = .ok (.bipush 48, 2) := by decide +kernel
theorem dX5_number_6 : decode cX5_number 6 = .ok (.isub, 1) := by decide +kernel
theorem dX5_number_7 : decode cX5_number 7 = .ok (.istore_n 3, 1) := by decide +kernel
theorem dX5_number_8 : decode cX5_number 8 = .ok (.aload_n 0, 1) := by decide +kernel
theorem dX5_number_9 : decode cX5_number 9 = .ok (.aload_n 0, 1) := by decide +kernel
theorem dX5_number_10 : decode cX5_number 10 = .ok (.getfield 119, 3) := by decide +kernel
theorem dX5_number_13 : decode cX5_number 13 = .ok (.ifCond .ne 23, 3) := by decide +kernel
theorem dX5_number_16 : decode cX5_number 16 = .ok (.iload_n 3, 1) := by decide +kernel
theorem dX5_number_17 : decode cX5_number 17 = .ok (.iload_n 1, 1) := by decide +kernel
theorem dX5_number_18 : decode cX5_number 18 = .ok (.iload_n 2, 1) := by decide +kernel
theorem dX5_number_19 : decode cX5_number 19 = .ok (.bipush 9, 2) := by decide +kernel
theorem dX5_number_21 : decode cX5_number 21 = .ok (.if_icmp .ge 7, 3) := by decide +kernel
theorem dX5_number_24 : decode cX5_number 24 = .ok (.iload_n 2, 1) := by decide +kernel
theorem dX5_number_25 : decode cX5_number 25 = .ok (.goto 5, 3) := by decide +kernel
theorem dX5_number_28 : decode cX5_number 28 = .ok (.bipush 9, 2) := by decide +kernel
theorem dX5_number_30 : decode cX5_number 30 = .ok (.invokestatic 32, 3) := by decide +kernel
theorem dX5_number_33 : decode cX5_number 33 = .ok (.ifCond .ne 7, 3) := by decide +kernel
theorem dX5_number_36 : decode cX5_number 36 = .ok (.iconst 1, 1) := by decide +kernel
theorem dX5_number_37 : decode cX5_number 37 = .ok (.goto 4, 3) := by decide +kernel
theorem dX5_number_40 : decode cX5_number 40 = .ok (.iconst 0, 1) := by decide +kernel
theorem dX5_number_41 : decode cX5_number 41 = .ok (.putfield 119, 3) := by decide +kernel
theorem dX5_number_44 : decode cX5_number 44 = .ok (.aload_n 0, 1) := by decide +kernel
theorem dX5_number_45 : decode cX5_number 45 = .ok (.getfield 119, 3) := by decide +kernel
theorem dX5_number_48 : decode cX5_number 48 = .ok (.ifCond .eq 5, 3) := by decide +kernel
theorem dX5_number_51 : decode cX5_number 51 = .ok (.iconst 0, 1) := by decide +kernel
theorem dX5_number_52 : decode cX5_number 52 = .ok (.ireturn, 1) := by decide +kernel
theorem dX5_number_53 : decode cX5_number 53 = .ok (.aload_n 0, 1) := by decide +kernel
theorem dX5_number_54 : decode cX5_number 54 = .ok (.dup, 1) := by decide +kernel
theorem dX5_number_55 : decode cX5_number 55 = .ok (.getfield 116, 3) := by decide +kernel
theorem dX5_number_58 : decode cX5_number 58 = .ok (.iconst 1, 1) := by decide +kernel
theorem dX5_number_59 : decode cX5_number 59 = .ok (.iadd, 1) := by decide +kernel
theorem dX5_number_60 : decode cX5_number 60 = .ok (.putfield 116, 3) := by decide +kernel
theorem dX5_number_63 : decode cX5_number 63 = .ok (.bipush 10, 2) := by decide +kernel
theorem dX5_number_65 : decode cX5_number 65 = .ok (.iload_n 3, 1) := by decide +kernel
theorem dX5_number_66 : decode cX5_number 66 = .ok (.imul, 1) := by decide +kernel
theorem dX5_number_67 : decode cX5_number 67 = .ok (.aload_n 0, 1) := by decide +kernel
theorem dX5_number_68 : decode cX5_number 68 = .ok (.invokevirtual 123, 3) := by decide +kernel
theorem dX5_number_71 : decode cX5_number 71 = .ok (.iadd, 1) := by decide +kernel
theorem dX5_number_72 : decode cX5_number 72 = .ok (.bipush 48, 2) := by decide +kernel
theorem dX5_number_74 : decode cX5_number 74 = .ok (.isub, 1) := by decide +kernel
theorem dX5_number_75 : decode cX5_number 75 = .ok (.istore 4, 2) := by decide +kernel
theorem dX5_number_77 : decode cX5_number 77 = .ok (.iload_n 3, 1) := by decide +kernel
theorem dX5_number_78 : decode cX5_number 78 = .ok (.ifCond .le 36, 3) := by decide +kernel
theorem dX5_number_81 : decode cX5_number 81 = .ok (.aload_n 0, 1) := by decide +kernel
theorem dX5_number_82 : decode cX5_number 82 = .ok (.invokevirtual 123, 3) := by decide +kernel
theorem dX5_number_85 : decode cX5_number 85 = .ok (.bipush 48, 2) := by decide +kernel
theorem dX5_number_87 : decode cX5_number 87 = .ok (.bipush 57, 2) := by decide +kernel
theorem dX5_number_89 : decode cX5_number 89 = .ok (.invokestatic 32, 3) := by decide +kernel
theorem dX5_number_92 : decode cX5_number 92 = .ok (.ifCond .eq 22, 3) := by decide +kernel
theorem dX5_number_95 : decode cX5_number 95 = .ok (.iload 4, 2) := by decide +kernel
theorem dX5_number_97 : decode cX5_number 97 = .ok (.iload_n 2, 1) := by decide +kernel
theorem dX5_number_98 : decode cX5_number 98 = .ok (.if_icmp .gt 16, 3) := by decide +kernel
theorem dX5_number_101 : decode cX5_number 101 = .ok (.aload_n 0, 1) := by decide +kernel
theorem dX5_number_102 : decode cX5_number 102 = .ok (.dup, 1) := by decide +kernel
theorem dX5_number_103 : decode cX5_number 103 = .ok (.getfield 116, 3) := by decide +kernel
theorem dX5_number_106 : decode cX5_number 106 = .ok (.iconst 1, 1) := by decide +kernel
theorem dX5_number_107 : decode cX5_number 107 = .ok (.iadd, 1) := by decide +kernel
theorem dX5_number_108 : decode cX5_number 108 = .ok (.putfield 116, 3) := by decide +kernel
theorem dX5_number_111 : decode cX5_number 111 = .ok (.iload 4, 2) := by decide +kernel
theorem dX5_number_113 : decode cX5_number 113 = .ok (.ireturn, 1) := by decide +kernel
theorem dX5_number_114 : decode cX5_number 114 = .ok (.iload_n 3, 1) := by decide +kernel
theorem dX5_number_115 : decode cX5_number 115 = .ok (.ireturn, 1) := by decide +kernel
theorem dX5_thing_0 : decode cX5_thing 0 = .ok (.aload_n 0, 1) := by decide +kernel
theorem dX5_thing_1 : decode cX5_thing 1 = .ok (.aload_n 0, 1) := by decide +kernel
theorem dX5_thing_2 : decode cX5_thing 2 = .ok (.getfield 119, 3) := by decide +kernel
theorem dX5_thing_5 : decode cX5_thing 5 = .ok (.ifCond .eq 7, 3) := by decide +kernel
theorem dX5_thing_8 : decode cX5_thing 8 = .ok (.iconst (-1), 1) := by decide +kernel
theorem dX5_thing_9 : decode cX5_thing 9 = .ok (.goto 7, 3) := by decide +kernel
theorem dX5_thing_12 : decode cX5_thing 12 = .ok (.aload_n 0, 1) := by decide +kernel
theorem dX5_thing_13 : decode cX5_thing 13 = .ok (.invokevirtual 123, 3) := by decide +kernel
theorem dX5_thing_16 : decode cX5_thing 16 = .ok (.putfield 127, 3) := by decide +kernel
theorem dX5_thing_19 : decode cX5_thing 19 = .ok (.aload_n 0, 1) := by decide +kernel
theorem dX5_thing_20 : decode cX5_thing 20 = .ok (.aload_n 0, 1) := by decide +kernel
theorem dX5_thing_21 : decode cX5_thing 21 = .ok (.getfield 119, 3) := by decide +kernel
theorem dX5_thing_24 : decode cX5_thing 24 = .ok (.ifCond .ne 30, 3) := by decide +kernel
theorem dX5_thing_27 : decode cX5_thing 27 = .ok (.aload_n 0, 1) := by decide +kernel
theorem dX5_thing_28 : decode cX5_thing 28 = .ok (.getfield 127, 3) := by decide +kernel
theorem dX5_thing_31 : decode cX5_thing 31 = .ok (.bipush 115, 2) := by decide +kernel
theorem dX5_thing_33 : decode cX5_thing 33 = .ok (.if_icmp .eq 25, 3) := by decide +kernel
theorem dX5_thing_36 : decode cX5_thing 36 = .ok (.aload_n 0, 1) := by decide +kernel
theorem dX5_thing_37 : decode cX5_thing 37 = .ok (.getfield 127, 3) := by decide +kernel
theorem dX5_thing_40 : decode cX5_thing 40 = .ok (.bipush 102, 2) := by decide +kernel
theorem dX5_thing_42 : decode cX5_thing 42 = .ok (.if_icmp .eq 16, 3) := by decide +kernel
theorem dX5_thing_45 : decode cX5_thing 45 = .ok (.aload_n 0, 1) := by decide +kernel
theorem dX5_thing_46 : decode cX5_thing 46 = .ok (.getfield 127, 3) := by decide +kernel
theorem dX5_thing_49 : decode cX5_thing 49 = .ok (.bipush 46, 2) := by decide +kernel
theorem dX5_thing_51 : decode cX5_thing 51 = .ok (.if_icmp .eq 7, 3) := by decide +kernel
theorem dX5_thing_54 : decode cX5_thing 54 = .ok (.iconst 1, 1) := by decide +kernel
theorem dX5_thing_55 : decode cX5_thing 55 = .ok (.goto 4, 3) := by decide +kernel
theorem dX5_thing_58 : decode cX5_thing 58 = .ok (.iconst 0, 1) := by decide +kernel
theorem dX5_thing_59 : decode cX5_thing 59 = .ok (.putfield 119, 3) := by decide +kernel
theorem dX5_thing_62 : decode cX5_thing 62 = .ok (.aload_n 0, 1) := by decide +kernel
theorem dX5_thing_63 : decode cX5_thing 63 = .ok (.dup, 1) := by decide +kernel
theorem dX5_thing_64 : decode cX5_thing 64 = .ok (.getfield 116, 3) := by decide +kernel
theorem dX5_thing_67 : decode cX5_thing 67 = .ok (.aload_n 0, 1) := by decide +kernel
theorem dX5_thing_68 : decode cX5_thing 68 = .ok (.getfield 119, 3) := by decide +kernel
theorem dX5_thing_71 : decode cX5_thing 71 = .ok (.ifCond .eq 7, 3) := by decide +kernel
theorem dX5_thing_74 : decode cX5_thing 74 = .ok (.iconst 0, 1) := by decide +kernel
theorem dX5_thing_75 : decode cX5_thing 75 = .ok (.goto 4, 3) := by decide +kernel
theorem dX5_thing_78 : decode cX5_thing 78 = .ok (.iconst 1, 1) := by decide +kernel
theorem dX5_thing_79 : decode cX5_thing 79 = .ok (.iadd, 1) := by decide +kernel
theorem dX5_thing_80 : decode cX5_thing 80 = .ok (.putfield 116, 3) := by decide +kernel
theorem dX5_thing_83 : decode cX5_thing 83 = .ok (.aload_n 0, 1) := by decide +kernel
theorem dX5_thing_84 : decode cX5_thing 84 = .ok (.getfield 127, 3) := by decide +kernel
theorem dX5_thing_87 : decode cX5_thing 87 = .ok (.bipush 46, 2) := by decide +kernel
theorem dX5_thing_89 : decode cX5_thing 89 = .ok (.if_icmp .ne 15, 3) := by decide +kernel
theorem dX5_thing_92 : decode cX5_thing 92 = .ok (.aload_n 0, 1) := by decide +kernel
theorem dX5_thing_93 : decode cX5_thing 93 = .ok (.aload_n 0, 1) := by decide +kernel
theorem dX5_thing_94 : decode cX5_thing 94 = .ok (.iconst 1, 1) := by decide +kernel
theorem dX5_thing_95 : decode cX5_thing 95 = .ok (.bipush 99, 2) := by decide +kernel
theorem dX5_thing_97 : decode cX5_thing 97 = .ok (.invokevirtual 130, 3) := by decide +kernel
theorem dX5_thing_100 : decode cX5_thing 100 = .ok (.putfield 133, 3) := by decide +kernel
theorem dX5_thing_103 : decode cX5_thing 103 = .ok (.return_, 1) := by decide +kernel
theorem dX5_thing_104 : decode cX5_thing 104 = .ok (.aload_n 0, 1) := by decide +kernel
theorem dX5_thing_105 : decode cX5_thing 105 = .ok (.aload_n 0, 1) := by decide +kernel
theorem dX5_thing_106 : decode cX5_thing 106 = .ok (.iconst 0, 1) := by decide +kernel
theorem dX5_thing_107 : decode cX5_thing 107 = .ok (.iconst 5, 1) := by decide +kernel
theorem dX5_thing_108 : decode cX5_thing 108 = .ok (.invokevirtual 130, 3) := by decide +kernel
theorem dX5_thing_111 : decode cX5_thing 111 = .ok (.putfield 133, 3) := by decide +kernel
theorem dX5_thing_114 : decode cX5_thing 114 = .ok (.aload_n 0, 1) := by decide +kernel
theorem dX5_thing_115 : decode cX5_thing 115 = .ok (.aload_n 0, 1) := by decide +kernel
theorem dX5_thing_116 : decode cX5_thing 116 = .ok (.getfield 127, 3) := by decide +kernel
theorem dX5_thing_119 : decode cX5_thing 119 = .ok (.bipush 115, 2) := by decide +kernel
theorem dX5_thing_121 : decode cX5_thing 121 = .ok (.if_icmp .ne 8, 3) := by decide +kernel
theorem dX5_thing_124 : decode cX5_thing 124 = .ok (.bipush 42, 2) := by decide +kernel
theorem dX5_thing_126 : decode cX5_thing 126 = .ok (.goto 5, 3) := by decide +kernel
theorem dX5_thing_129 : decode cX5_thing 129 = .ok (.bipush 46, 2) := by decide +kernel
theorem dX5_thing_131 : decode cX5_thing 131 = .ok (.invokevirtual 136, 3) := by decide +kernel
theorem dX5_thing_134 : decode cX5_thing 134 = .ok (.aload_n 0, 1) := by decide +kernel
theorem dX5_thing_135 : decode cX5_thing 135 = .ok (.aload_n 0, 1) := by decide +kernel
theorem dX5_thing_136 : decode cX5_thing 136 = .ok (.iconst 0, 1) := by decide +kernel
theorem dX5_thing_137 : decode cX5_thing 137 = .ok (.aload_n 0, 1) := by decide +kernel
theorem dX5_thing_138 : decode cX5_thing 138 = .ok (.getfield 127, 3) := by decide +kernel
theorem dX5_thing_141 : decode cX5_thing 141 = .ok (.bipush 115, 2) := by decide +kernel
theorem dX5_thing_143 : decode cX5_thing 143 = .ok (.if_icmp .ne 8, 3) := by decide +kernel
theorem dX5_thing_146 : decode cX5_thing 146 = .ok (.bipush 99, 2) := by decide +kernel
theorem dX5_thing_148 : decode cX5_thing 148 = .ok (.goto 5, 3) := by decide +kernel
theorem dX5_thing_151 : decode cX5_thing 151 = .ok (.bipush 19, 2) := by decide +kernel
theorem dX5_thing_153 : decode cX5_thing 153 = .ok (.invokevirtual 130, 3) := by decide +kernel
theorem dX5_thing_156 : decode cX5_thing 156 = .ok (.putfield 140, 3) := by decide +kernel
theorem dX5_thing_159 : decode cX5_thing 159 = .ok (.aload_n 0, 1) := by decide +kernel
theorem dX5_thing_160 : decode cX5_thing 160 = .ok (.getfield 127, 3) := by decide +kernel
theorem dX5_thing_163 : decode cX5_thing 163 = .ok (.bipush 102, 2) := by decide +kernel
theorem dX5_thing_165 : decode cX5_thing 165 = .ok (.if_icmp .ne 20, 3) := by decide +kernel
theorem dX5_thing_168 : decode cX5_thing 168 = .ok (.aload_n 0, 1) := by decide +kernel
theorem dX5_thing_169 : decode cX5_thing 169 = .ok (.bipush 61, 2) := by decide +kernel
theorem dX5_thing_171 : decode cX5_thing 171 = .ok (.invokevirtual 136, 3) := by decide +kernel
theorem dX5_thing_174 : decode cX5_thing 174 = .ok (.aload_n 0, 1) := by decide +kernel
theorem dX5_thing_175 : decode cX5_thing 175 = .ok (.aload_n 0, 1) := by decide +kernel
theorem dX5_thing_176 : decode cX5_thing 176 = .ok (.iconst 0, 1) := by decide +kernel
theorem dX5_thing_177 : decode cX5_thing 177 = .ok (.bipush 9, 2) := by decide +kernel
theorem dX5_thing_179 : decode cX5_thing 179 = .ok (.invokevirtual 130, 3) := by decide +kernel
theorem dX5_thing_182 : decode cX5_thing 182 = .ok (.putfield 143, 3) := by decide +kernel
theorem dX5_thing_185 : decode cX5_thing 185 = .ok (.return_, 1) := by decide +kernel
theorem dX5_things_0 : decode cX5_things 0 = .ok (.aload_n 0, 1) := by decide +kernel
theorem dX5_things_1 : decode cX5_things 1 = .ok (.iconst 0, 1) := by decide +kernel
theorem dX5_things_2 : decode cX5_things 2 = .ok (.putfield 116, 3) := by decide +kernel
theorem dX5_things_5 : decode cX5_things 5 = .ok (.aload_n 0, 1) := by decide +kernel
theorem dX5_things_6 : decode cX5_things 6 = .ok (.iconst 0, 1) := by decide +kernel
theorem dX5_things_7 : decode cX5_things 7 = .ok (.putfield 119, 3) := by decide +kernel
theorem dX5_things_10 : decode cX5_things 10 = .ok (.iconst 0, 1) := by decide +kernel
theorem dX5_things_11 : decode cX5_things 11 = .ok (.istore_n 1, 1) := by decide +kernel
theorem dX5_things_12 : decode cX5_things 12 = .ok (.iconst 1, 1) := by decide +kernel
theorem dX5_things_13 : decode cX5_things 13 = .ok (.istore_n 2, 1) := by decide +kernel
theorem dX5_things_14 : decode cX5_things 14 = .ok (.iload_n 2, 1) := by decide +kernel
theorem dX5_things_15 : decode cX5_things 15 = .ok (.ifCond .eq 60, 3) := by decide +kernel
theorem dX5_things_18 : decode cX5_things 18 = .ok (.aload_n 0, 1) := by decide +kernel
theorem dX5_things_19 : decode cX5_things 19 = .ok (.invokevirtual 146, 3) := by decide +kernel
theorem dX5_things_22 : decode cX5_things 22 = .ok (.iinc 1 1, 3) := by decide +kernel
theorem dX5_things_25 : decode cX5_things 25 = .ok (.aload_n 0, 1) := by decide +kernel
theorem dX5_things_26 : decode cX5_things 26 = .ok (.getfield 119, 3) := by decide +kernel
theorem dX5_things_29 : decode cX5_things 29 = .ok (.ifCond .ne 18, 3) := by decide +kernel
theorem dX5_things_32 : decode cX5_things 32 = .ok (.aload_n 0, 1) := by decide +kernel
theorem dX5_things_33 : decode cX5_things 33 = .ok (.getfield 116, 3) := by decide +kernel
theorem dX5_things_36 : decode cX5_things 36 = .ok (.aload_n 0, 1) := by decide +kernel
theorem dX5_things_37 : decode cX5_things 37 = .ok (.getfield 113, 3) := by decide +kernel
theorem dX5_things_40 : decode cX5_things 40 = .ok (.if_icmp .ge 7, 3) := by decide +kernel
theorem dX5_things_43 : decode cX5_things 43 = .ok (.iconst 1, 1) := by decide +kernel
theorem dX5_things_44 : decode cX5_things 44 = .ok (.goto 4, 3) := by decide +kernel
theorem dX5_things_47 : decode cX5_things 47 = .ok (.iconst 0, 1) := by decide +kernel
theorem dX5_things_48 : decode cX5_things 48 = .ok (.istore_n 2, 1) := by decide +kernel
theorem dX5_things_49 : decode cX5_things 49 = .ok (.iload_n 2, 1) := by decide +kernel
theorem dX5_things_50 : decode cX5_things 50 = .ok (.ifCond .eq (-36), 3) := by decide +kernel
theorem dX5_things_53 : decode cX5_things 53 = .ok (.aload_n 0, 1) := by decide +kernel
theorem dX5_things_54 : decode cX5_things 54 = .ok (.bipush 59, 2) := by decide +kernel
theorem dX5_things_56 : decode cX5_things 56 = .ok (.invokevirtual 136, 3) := by decide +kernel
theorem dX5_things_59 : decode cX5_things 59 = .ok (.aload_n 0, 1) := by decide +kernel
theorem dX5_things_60 : decode cX5_things 60 = .ok (.getfield 119, 3) := by decide +kernel
theorem dX5_things_63 : decode cX5_things 63 = .ok (.ifCond .ne 7, 3) := by decide +kernel
theorem dX5_things_66 : decode cX5_things 66 = .ok (.iconst 1, 1) := by decide +kernel
theorem dX5_things_67 : decode cX5_things 67 = .ok (.goto 4, 3) := by decide +kernel
theorem dX5_things_70 : decode cX5_things 70 = .ok (.iconst 0, 1) := by decide +kernel
theorem dX5_things_71 : decode cX5_things 71 = .ok (.istore_n 2, 1) := by decide +kernel
theorem dX5_things_72 : decode cX5_things 72 = .ok (.goto (-58), 3) := by decide +kernel
theorem dX5_things_75 : decode cX5_things 75 = .ok (.aload_n 0, 1) := by decide +kernel
theorem dX5_things_76 : decode cX5_things 76 = .ok (.getfield 119, 3) := by decide +kernel
theorem dX5_things_79 : decode cX5_things 79 = .ok (.ifCond .eq 8, 3) := by decide +kernel
theorem dX5_things_82 : decode cX5_things 82 = .ok (.bipush (-5), 2) := by decide +kernel
theorem dX5_things_84 : decode cX5_things 84 = .ok (.goto 4, 3) := by decide +kernel
theorem dX5_things_87 : decode cX5_things 87 = .ok (.iload_n 1, 1) := by decide +kernel
theorem dX5_things_88 : decode cX5_things 88 = .ok (.ireturn, 1) := by decide +kernel
theorem dX5_doesThing_0 : decode cX5_doesThing 0 = .ok (.aload_n 0, 1) := by decide +kernel
theorem dX5_doesThing_1 : decode cX5_doesThing 1 = .ok (.getfield 127, 3) := by decide +kernel
theorem dX5_doesThing_4 : decode cX5_doesThing 4 = .ok (.bipush 115, 2) := by decide +kernel
theorem dX5_doesThing_6 : decode cX5_doesThing 6 = .ok (.if_icmp .ne 18, 3) := by decide +kernel
theorem dX5_doesThing_9 : decode cX5_doesThing 9 = .ok (.aload_n 0, 1) := by decide +kernel
theorem dX5_doesThing_10 : decode cX5_doesThing 10 = .ok (.aload_n 0, 1) := by decide +kernel
theorem dX5_doesThing_11 : decode cX5_doesThing 11 = .ok (.getfield 133, 3) := by decide +kernel
theorem dX5_doesThing_14 : decode cX5_doesThing 14 = .ok (.aload_n 0, 1) := by decide +kernel
theorem dX5_doesThing_15 : decode cX5_doesThing 15 = .ok (.getfield 140, 3) := by decide +kernel
theorem dX5_doesThing_18 : decode cX5_doesThing 18 = .ok (.invokevirtual 54, 3) := by decide +kernel
theorem dX5_doesThing_21 : decode cX5_doesThing 21 = .ok (.goto 39, 3) := by decide +kernel
theorem dX5_doesThing_24 : decode cX5_doesThing 24 = .ok (.aload_n 0, 1) := by decide +kernel
theorem dX5_doesThing_25 : decode cX5_doesThing 25 = .ok (.getfield 127, 3) := by decide +kernel
theorem dX5_doesThing_28 : decode cX5_doesThing 28 = .ok (.bipush 102, 2) := by decide +kernel
theorem dX5_doesThing_30 : decode cX5_doesThing 30 = .ok (.if_icmp .ne 22, 3) := by decide +kernel
theorem dX5_doesThing_33 : decode cX5_doesThing 33 = .ok (.aload_n 0, 1) := by decide +kernel
theorem dX5_doesThing_34 : decode cX5_doesThing 34 = .ok (.aload_n 0, 1) := by decide +kernel
theorem dX5_doesThing_35 : decode cX5_doesThing 35 = .ok (.getfield 133, 3) := by decide +kernel
theorem dX5_doesThing_38 : decode cX5_doesThing 38 = .ok (.aload_n 0, 1) := by decide +kernel
theorem dX5_doesThing_39 : decode cX5_doesThing 39 = .ok (.getfield 140, 3) := by decide +kernel
theorem dX5_doesThing_42 : decode cX5_doesThing 42 = .ok (.aload_n 0, 1) := by decide +kernel
theorem dX5_doesThing_43 : decode cX5_doesThing 43 = .ok (.getfield 143, 3) := by decide +kernel
theorem dX5_doesThing_46 : decode cX5_doesThing 46 = .ok (.invokevirtual 73, 3) := by decide +kernel
theorem dX5_doesThing_49 : decode cX5_doesThing 49 = .ok (.goto 11, 3) := by decide +kernel
theorem dX5_doesThing_52 : decode cX5_doesThing 52 = .ok (.aload_n 0, 1) := by decide +kernel
theorem dX5_doesThing_53 : decode cX5_doesThing 53 = .ok (.aload_n 0, 1) := by decide +kernel
theorem dX5_doesThing_54 : decode cX5_doesThing 54 = .ok (.getfield 133, 3) := by decide +kernel
theorem dX5_doesThing_57 : decode cX5_doesThing 57 = .ok (.invokevirtual 107, 3) := by decide +kernel
theorem dX5_doesThing_60 : decode cX5_doesThing 60 = .ok (.istore_n 1, 1) := by decide +kernel
theorem dX5_doesThing_61 : decode cX5_doesThing 61 = .ok (.iload_n 1, 1) := by decide +kernel
theorem dX5_doesThing_62 : decode cX5_doesThing 62 = .ok (.ifCond .ne 64, 3) := by decide +kernel
theorem dX5_doesThing_65 : decode cX5_doesThing 65 = .ok (.aload_n 0, 1) := by decide +kernel
theorem dX5_doesThing_66 : decode cX5_doesThing 66 = .ok (.getfield 127, 3) := by decide +kernel
theorem dX5_doesThing_69 : decode cX5_doesThing 69 = .ok (.bipush 115, 2) := by decide +kernel
theorem dX5_doesThing_71 : decode cX5_doesThing 71 = .ok (.if_icmp .ne 18, 3) := by decide +kernel
theorem dX5_doesThing_74 : decode cX5_doesThing 74 = .ok (.aload_n 0, 1) := by decide +kernel
theorem dX5_doesThing_75 : decode cX5_doesThing 75 = .ok (.aload_n 0, 1) := by decide +kernel
theorem dX5_doesThing_76 : decode cX5_doesThing 76 = .ok (.getfield 133, 3) := by decide +kernel
theorem dX5_doesThing_79 : decode cX5_doesThing 79 = .ok (.aload_n 0, 1) := by decide +kernel
theorem dX5_doesThing_80 : decode cX5_doesThing 80 = .ok (.getfield 140, 3) := by decide +kernel
theorem dX5_doesThing_83 : decode cX5_doesThing 83 = .ok (.invokevirtual 60, 3) := by decide +kernel
theorem dX5_doesThing_86 : decode cX5_doesThing 86 = .ok (.goto 39, 3) := by decide +kernel
theorem dX5_doesThing_89 : decode cX5_doesThing 89 = .ok (.aload_n 0, 1) := by decide +kernel
theorem dX5_doesThing_90 : decode cX5_doesThing 90 = .ok (.getfield 127, 3) := by decide +kernel
theorem dX5_doesThing_93 : decode cX5_doesThing 93 = .ok (.bipush 102, 2) := by decide +kernel
theorem dX5_doesThing_95 : decode cX5_doesThing 95 = .ok (.if_icmp .ne 22, 3) := by decide +kernel
theorem dX5_doesThing_98 : decode cX5_doesThing 98 = .ok (.aload_n 0, 1) := by decide +kernel
theorem dX5_doesThing_99 : decode cX5_doesThing 99 = .ok (.aload_n 0, 1) := by decide +kernel
theorem dX5_doesThing_100 : decode cX5_doesThing 100 = .ok (.getfield 133, 3) := by decide +kernel
theorem dX5_doesThing_103 : decode cX5_doesThing 103 = .ok (.aload_n 0, 1) := by decide +kernel
theorem dX5_doesThing_104 : decode cX5_doesThing 104 = .ok (.getfield 140, 3) := by decide +kernel
theorem dX5_doesThing_107 : decode cX5_doesThing 107 = .ok (.aload_n 0, 1) := by decide +kernel
theorem dX5_doesThing_108 : decode cX5_doesThing 108 = .ok (.getfield 143, 3) := by decide +kernel
theorem dX5_doesThing_111 : decode cX5_doesThing 111 = .ok (.invokevirtual 77, 3) := by decide +kernel
theorem dX5_doesThing_114 : decode cX5_doesThing 114 = .ok (.goto 11, 3) := by decide +kernel
theorem dX5_doesThing_117 : decode cX5_doesThing 117 = .ok (.aload_n 0, 1) := by decide +kernel
theorem dX5_doesThing_118 : decode cX5_doesThing 118 = .ok (.aload_n 0, 1) := by decide +kernel
theorem dX5_doesThing_119 : decode cX5_doesThing 119 = .ok (.getfield 133, 3) := by decide +kernel
theorem dX5_doesThing_122 : decode cX5_doesThing 122 = .ok (.invokevirtual 110, 3) := by decide +kernel
theorem dX5_doesThing_125 : decode cX5_doesThing 125 = .ok (.istore_n 2, 1) := by decide +kernel
theorem dX5_doesThing_126 : decode cX5_doesThing 126 = .ok (.iload_n 1, 1) := by decide +kernel
theorem dX5_doesThing_127 : decode cX5_doesThing 127 = .ok (.bipush (-5), 2) := by decide +kernel
theorem dX5_doesThing_129 : decode cX5_doesThing 129 = .ok (.if_icmp .ne 7, 3) := by decide +kernel
theorem dX5_doesThing_132 : decode cX5_doesThing 132 = .ok (.iconst 0, 1) := by decide +kernel
theorem dX5_doesThing_133 : decode cX5_doesThing 133 = .ok (.goto 4, 3) := by decide +kernel
theorem dX5_doesThing_136 : decode cX5_doesThing 136 = .ok (.iload_n 1, 1) := by decide +kernel
theorem dX5_doesThing_137 : decode cX5_doesThing 137 = .ok (.ireturn, 1) := by decide +kernel
theorem dX5_perform_0 : decode cX5_perform 0 = .ok (.aload_n 0, 1) := by decide +kernel
theorem dX5_perform_1 : decode cX5_perform 1 = .ok (.invokevirtual 149, 3) := by decide +kernel
theorem dX5_perform_4 : decode cX5_perform 4 = .ok (.istore_n 1, 1) := by decide +kernel
theorem dX5_perform_5 : decode cX5_perform 5 = .ok (.iload_n 1, 1) := by decide +kernel
theorem dX5_perform_6 : decode cX5_perform 6 = .ok (.ifCond .ge 11, 3) := by decide +kernel
theorem dX5_perform_9 : decode cX5_perform 9 = .ok (.bipush (-100), 2) := by decide +kernel
theorem dX5_perform_11 : decode cX5_perform 11 = .ok (.aload_n 0, 1) := by decide +kernel
theorem dX5_perform_12 : decode cX5_perform 12 = .ok (.getfield 116, 3) := by decide +kernel
theorem dX5_perform_15 : decode cX5_perform 15 = .ok (.isub, 1) := by decide +kernel
theorem dX5_perform_16 : decode cX5_perform 16 = .ok (.ireturn, 1) := by decide +kernel
theorem dX5_perform_17 : decode cX5_perform 17 = .ok (.aload_n 0, 1) := by decide +kernel
theorem dX5_perform_18 : decode cX5_perform 18 = .ok (.invokevirtual 152, 3) := by decide +kernel
theorem dX5_perform_21 : decode cX5_perform 21 = .ok (.aload_n 0, 1) := by decide +kernel
theorem dX5_perform_22 : decode cX5_perform 22 = .ok (.iconst 0, 1) := by decide +kernel
theorem dX5_perform_23 : decode cX5_perform 23 = .ok (.putfield 116, 3) := by decide +kernel
theorem dX5_perform_26 : decode cX5_perform 26 = .ok (.iconst 0, 1) := by decide +kernel
theorem dX5_perform_27 : decode cX5_perform 27 = .ok (.istore_n 2, 1) := by decide +kernel
theorem dX5_perform_28 : decode cX5_perform 28 = .ok (.iconst 0, 1) := by decide +kernel
theorem dX5_perform_29 : decode cX5_perform 29 = .ok (.istore_n 3, 1) := by decide +kernel
theorem dX5_perform_30 : decode cX5_perform 30 = .ok (.iload_n 2, 1) := by decide +kernel
theorem dX5_perform_31 : decode cX5_perform 31 = .ok (.ifCond .ne 42, 3) := by decide +kernel
theorem dX5_perform_34 : decode cX5_perform 34 = .ok (.iload_n 3, 1) := by decide +kernel
theorem dX5_perform_35 : decode cX5_perform 35 = .ok (.iload_n 1, 1) := by decide +kernel
theorem dX5_perform_36 : decode cX5_perform 36 = .ok (.if_icmp .ge 37, 3) := by decide +kernel
theorem dX5_perform_39 : decode cX5_perform 39 = .ok (.aload_n 0, 1) := by decide +kernel
theorem dX5_perform_40 : decode cX5_perform 40 = .ok (.invokevirtual 146, 3) := by decide +kernel
theorem dX5_perform_43 : decode cX5_perform 43 = .ok (.aload_n 0, 1) := by decide +kernel
theorem dX5_perform_44 : decode cX5_perform 44 = .ok (.dup, 1) := by decide +kernel
theorem dX5_perform_45 : decode cX5_perform 45 = .ok (.getfield 116, 3) := by decide +kernel
theorem dX5_perform_48 : decode cX5_perform 48 = .ok (.iconst 1, 1) := by decide +kernel
theorem dX5_perform_49 : decode cX5_perform 49 = .ok (.iadd, 1) := by decide +kernel
theorem dX5_perform_50 : decode cX5_perform 50 = .ok (.putfield 116, 3) := by decide +kernel
theorem dX5_perform_53 : decode cX5_perform 53 = .ok (.aload_n 0, 1) := by decide +kernel
theorem dX5_perform_54 : decode cX5_perform 54 = .ok (.invokevirtual 155, 3) := by decide +kernel
theorem dX5_perform_57 : decode cX5_perform 57 = .ok (.istore_n 2, 1) := by decide +kernel
theorem dX5_perform_58 : decode cX5_perform 58 = .ok (.iload_n 3, 1) := by decide +kernel
theorem dX5_perform_59 : decode cX5_perform 59 = .ok (.iload_n 2, 1) := by decide +kernel
theorem dX5_perform_60 : decode cX5_perform 60 = .ok (.ifCond .ne 7, 3) := by decide +kernel
theorem dX5_perform_63 : decode cX5_perform 63 = .ok (.iconst 1, 1) := by decide +kernel
theorem dX5_perform_64 : decode cX5_perform 64 = .ok (.goto 4, 3) := by decide +kernel
theorem dX5_perform_67 : decode cX5_perform 67 = .ok (.iconst 0, 1) := by decide +kernel
theorem dX5_perform_68 : decode cX5_perform 68 = .ok (.iadd, 1) := by decide +kernel
theorem dX5_perform_69 : decode cX5_perform 69 = .ok (.istore_n 3, 1) := by decide +kernel
theorem dX5_perform_70 : decode cX5_perform 70 = .ok (.goto (-40), 3) := by decide +kernel
theorem dX5_perform_73 : decode cX5_perform 73 = .ok (.iload_n 2, 1) := by decide +kernel
theorem dX5_perform_74 : decode cX5_perform 74 = .ok (.ifCond .ge 25, 3) := by decide +kernel
theorem dX5_perform_77 : decode cX5_perform 77 = .ok (.aload_n 0, 1) := by decide +kernel
theorem dX5_perform_78 : decode cX5_perform 78 = .ok (.invokevirtual 158, 3) := by decide +kernel
theorem dX5_perform_81 : decode cX5_perform 81 = .ok (.aload_n 0, 1) := by decide +kernel
theorem dX5_perform_82 : decode cX5_perform 82 = .ok (.iconst 1, 1) := by decide +kernel
theorem dX5_perform_83 : decode cX5_perform 83 = .ok (.putfield 161, 3) := by decide +kernel
theorem dX5_perform_86 : decode cX5_perform 86 = .ok (.aload_n 0, 1) := by decide +kernel
theorem dX5_perform_87 : decode cX5_perform 87 = .ok (.iload_n 3, 1) := by decide +kernel
theorem dX5_perform_88 : decode cX5_perform 88 = .ok (.putfield 164, 3) := by decide +kernel
theorem dX5_perform_91 : decode cX5_perform 91 = .ok (.aload_n 0, 1) := by decide +kernel
theorem dX5_perform_92 : decode cX5_perform 92 = .ok (.iload_n 2, 1) := by decide +kernel
theorem dX5_perform_93 : decode cX5_perform 93 = .ok (.putfield 167, 3) := by decide +kernel
theorem dX5_perform_96 : decode cX5_perform 96 = .ok (.bipush (-4), 2) := by decide +kernel
theorem dX5_perform_98 : decode cX5_perform 98 = .ok (.ireturn, 1) := by decide +kernel
theorem dX5_perform_99 : decode cX5_perform 99 = .ok (.iconst 0, 1) := by decide +kernel
theorem dX5_perform_100 : decode cX5_perform 100 = .ok (.istore 4, 2) := by decide +kernel
theorem dX5_perform_102 : decode cX5_perform 102 = .ok (.iload 4, 2) := by decide +kernel
theorem dX5_perform_104 : decode cX5_perform 104 = .ok (.sipush 538, 3) := by decide +kernel
theorem dX5_perform_107 : decode cX5_perform 107 = .ok (.if_icmp .ge 41, 3) := by decide +kernel
theorem dX5_perform_110 : decode cX5_perform 110 = .ok (.aload_n 0, 1) := by decide +kernel
theorem dX5_perform_111 : decode cX5_perform 111 = .ok (.getfield 7, 3) := by decide +kernel
theorem dX5_perform_114 : decode cX5_perform 114 = .ok (.iload 4, 2) := by decide +kernel
theorem dX5_perform_116 : decode cX5_perform 116 = .ok (.iaload, 1) := by decide +kernel
theorem dX5_perform_117 : decode cX5_perform 117 = .ok (.istore 5, 2) := by decide +kernel
theorem dX5_perform_119 : decode cX5_perform 119 = .ok (.aload_n 0, 1) := by decide +kernel
theorem dX5_perform_120 : decode cX5_perform 120 = .ok (.getfield 7, 3) := by decide +kernel
theorem dX5_perform_123 : decode cX5_perform 123 = .ok (.iload 4, 2) := by decide +kernel
theorem dX5_perform_125 : decode cX5_perform 125 = .ok (.aload_n 0, 1) := by decide +kernel
theorem dX5_perform_126 : decode cX5_perform 126 = .ok (.getfield 13, 3) := by decide +kernel
theorem dX5_perform_129 : decode cX5_perform 129 = .ok (.iload 4, 2) := by decide +kernel
theorem dX5_perform_131 : decode cX5_perform 131 = .ok (.iaload, 1) := by decide +kernel
theorem dX5_perform_132 : decode cX5_perform 132 = .ok (.iastore, 1) := by decide +kernel
theorem dX5_perform_133 : decode cX5_perform 133 = .ok (.aload_n 0, 1) := by decide +kernel
theorem dX5_perform_134 : decode cX5_perform 134 = .ok (.getfield 13, 3) := by decide +kernel
theorem dX5_perform_137 : decode cX5_perform 137 = .ok (.iload 4, 2) := by decide +kernel
theorem dX5_perform_139 : decode cX5_perform 139 = .ok (.iload 5, 2) := by decide +kernel
theorem dX5_perform_141 : decode cX5_perform 141 = .ok (.iastore, 1) := by decide +kernel
theorem dX5_perform_142 : decode cX5_perform 142 = .ok (.iinc 4 1, 3) := by decide +kernel
theorem dX5_perform_145 : decode cX5_perform 145 = .ok (.goto (-43), 3) := by decide +kernel
theorem dX5_perform_148 : decode cX5_perform 148 = .ok (.aload_n 0, 1) := by decide +kernel
theorem dX5_perform_149 : decode cX5_perform 149 = .ok (.invokevirtual 57, 3) := by decide +kernel
theorem dX5_perform_152 : decode cX5_perform 152 = .ok (.aload_n 0, 1) := by decide +kernel
theorem dX5_perform_153 : decode cX5_perform 153 = .ok (.invokevirtual 158, 3) := by decide +kernel
theorem dX5_perform_156 : decode cX5_perform 156 = .ok (.iload_n 1, 1) := by decide +kernel
theorem dX5_perform_157 : decode cX5_perform 157 = .ok (.ireturn, 1) := by decide +kernel
theorem dX5_stopped_0 : decode cX5_stopped 0 = .ok (.iload_n 1, 1) := by decide +kernel
theorem dX5_stopped_1 : decode cX5_stopped 1 = .ok (.iconst 0, 1) := by decide +kernel
theorem dX5_stopped_2 : decode cX5_stopped 2 = .ok (.iconst 1, 1) := by decide +kernel
theorem dX5_stopped_3 : decode cX5_stopped 3 = .ok (.invokestatic 32, 3) := by decide +kernel
theorem dX5_stopped_6 : decode cX5_stopped 6 = .ok (.ifCond .ne 6, 3) := by decide +kernel
theorem dX5_stopped_9 : decode cX5_stopped 9 = .ok (.bipush (-2), 2) := by decide +kernel
theorem dX5_stopped_11 : decode cX5_stopped 11 = .ok (.ireturn, 1) := by decide +kernel
theorem dX5_stopped_12 : decode cX5_stopped 12 = .ok (.aload_n 0, 1) := by decide +kernel
theorem dX5_stopped_13 : decode cX5_stopped 13 = .ok (.getfield 161, 3) := by decide +kernel
theorem dX5_stopped_16 : decode cX5_stopped 16 = .ok (.ifCond .ne 8, 3) := by decide +kernel
theorem dX5_stopped_19 : decode cX5_stopped 19 = .ok (.bipush (-5), 2) := by decide +kernel
theorem dX5_stopped_21 : decode cX5_stopped 21 = .ok (.goto 18, 3) := by decide +kernel
theorem dX5_stopped_24 : decode cX5_stopped 24 = .ok (.iload_n 1, 1) := by decide +kernel
theorem dX5_stopped_25 : decode cX5_stopped 25 = .ok (.ifCond .ne 10, 3) := by decide +kernel
theorem dX5_stopped_28 : decode cX5_stopped 28 = .ok (.aload_n 0, 1) := by decide +kernel
theorem dX5_stopped_29 : decode cX5_stopped 29 = .ok (.getfield 164, 3) := by decide +kernel
theorem dX5_stopped_32 : decode cX5_stopped 32 = .ok (.goto 7, 3) := by decide +kernel
theorem dX5_stopped_35 : decode cX5_stopped 35 = .ok (.aload_n 0, 1) := by decide +kernel
theorem dX5_stopped_36 : decode cX5_stopped 36 = .ok (.getfield 167, 3) := by decide +kernel
theorem dX5_stopped_39 : decode cX5_stopped 39 = .ok (.ireturn, 1) := by decide +kernel
theorem dX5_undo_0 : decode cX5_undo 0 = .ok (.aload_n 0, 1) := by decide +kernel
theorem dX5_undo_1 : decode cX5_undo 1 = .ok (.getfield 44, 3) := by decide +kernel
theorem dX5_undo_4 : decode cX5_undo 4 = .ok (.ifCond .ne 6, 3) := by decide +kernel
theorem dX5_undo_7 : decode cX5_undo 7 = .ok (.bipush (-5), 2) := by decide +kernel
theorem dX5_undo_9 : decode cX5_undo 9 = .ok (.ireturn, 1) := by decide +kernel
theorem dX5_undo_10 : decode cX5_undo 10 = .ok (.aload_n 0, 1) := by decide +kernel
theorem dX5_undo_11 : decode cX5_undo 11 = .ok (.dup, 1) := by decide +kernel
theorem dX5_undo_12 : decode cX5_undo 12 = .ok (.getfield 44, 3) := by decide +kernel
theorem dX5_undo_15 : decode cX5_undo 15 = .ok (.iconst 1, 1) := by decide +kernel
theorem dX5_undo_16 : decode cX5_undo 16 = .ok (.isub, 1) := by decide +kernel
theorem dX5_undo_17 : decode cX5_undo 17 = .ok (.putfield 44, 3) := by decide +kernel
theorem dX5_undo_20 : decode cX5_undo 20 = .ok (.iconst 0, 1) := by decide +kernel
theorem dX5_undo_21 : decode cX5_undo 21 = .ok (.istore_n 1, 1) := by decide +kernel
theorem dX5_undo_22 : decode cX5_undo 22 = .ok (.iload_n 1, 1) := by decide +kernel
theorem dX5_undo_23 : decode cX5_undo 23 = .ok (.sipush 538, 3) := by decide +kernel
theorem dX5_undo_26 : decode cX5_undo 26 = .ok (.if_icmp .ge 30, 3) := by decide +kernel
theorem dX5_undo_29 : decode cX5_undo 29 = .ok (.aload_n 0, 1) := by decide +kernel
theorem dX5_undo_30 : decode cX5_undo 30 = .ok (.getfield 7, 3) := by decide +kernel
theorem dX5_undo_33 : decode cX5_undo 33 = .ok (.iload_n 1, 1) := by decide +kernel
theorem dX5_undo_34 : decode cX5_undo 34 = .ok (.aload_n 0, 1) := by decide +kernel
theorem dX5_undo_35 : decode cX5_undo 35 = .ok (.getfield 16, 3) := by decide +kernel
theorem dX5_undo_38 : decode cX5_undo 38 = .ok (.sipush 538, 3) := by decide +kernel
theorem dX5_undo_41 : decode cX5_undo 41 = .ok (.aload_n 0, 1) := by decide +kernel
theorem dX5_undo_42 : decode cX5_undo 42 = .ok (.getfield 44, 3) := by decide +kernel
theorem dX5_undo_45 : decode cX5_undo 45 = .ok (.imul, 1) := by decide +kernel
theorem dX5_undo_46 : decode cX5_undo 46 = .ok (.iload_n 1, 1) := by decide +kernel
theorem dX5_undo_47 : decode cX5_undo 47 = .ok (.iadd, 1) := by decide +kernel
theorem dX5_undo_48 : decode cX5_undo 48 = .ok (.iaload, 1) := by decide +kernel
theorem dX5_undo_49 : decode cX5_undo 49 = .ok (.iastore, 1) := by decide +kernel
theorem dX5_undo_50 : decode cX5_undo 50 = .ok (.iinc 1 1, 3) := by decide +kernel
theorem dX5_undo_53 : decode cX5_undo 53 = .ok (.goto (-31), 3) := by decide +kernel
theorem dX5_undo_56 : decode cX5_undo 56 = .ok (.aload_n 0, 1) := by decide +kernel
theorem dX5_undo_57 : decode cX5_undo 57 = .ok (.getfield 44, 3) := by decide +kernel
theorem dX5_undo_60 : decode cX5_undo 60 = .ok (.ireturn, 1) := by decide +kernel
theorem dX5_keep_0 : decode cX5_keep 0 = .ok (.iconst 0, 1) := by decide +kernel
theorem dX5_keep_1 : decode cX5_keep 1 = .ok (.istore_n 1, 1) := by decide +kernel
theorem dX5_keep_2 : decode cX5_keep 2 = .ok (.iload_n 1, 1) := by decide +kernel
theorem dX5_keep_3 : decode cX5_keep 3 = .ok (.sipush 538, 3) := by decide +kernel
theorem dX5_keep_6 : decode cX5_keep 6 = .ok (.if_icmp .ge 21, 3) := by decide +kernel
theorem dX5_keep_9 : decode cX5_keep 9 = .ok (.aload_n 0, 1) := by decide +kernel
theorem dX5_keep_10 : decode cX5_keep 10 = .ok (.getfield 19, 3) := by decide +kernel
theorem dX5_keep_13 : decode cX5_keep 13 = .ok (.iload_n 1, 1) := by decide +kernel
theorem dX5_keep_14 : decode cX5_keep 14 = .ok (.aload_n 0, 1) := by decide +kernel
theorem dX5_keep_15 : decode cX5_keep 15 = .ok (.getfield 7, 3) := by decide +kernel
theorem dX5_keep_18 : decode cX5_keep 18 = .ok (.iload_n 1, 1) := by decide +kernel
theorem dX5_keep_19 : decode cX5_keep 19 = .ok (.iaload, 1) := by decide +kernel
theorem dX5_keep_20 : decode cX5_keep 20 = .ok (.iastore, 1) := by decide +kernel
theorem dX5_keep_21 : decode cX5_keep 21 = .ok (.iinc 1 1, 3) := by decide +kernel
theorem dX5_keep_24 : decode cX5_keep 24 = .ok (.goto (-22), 3) := by decide +kernel
theorem dX5_keep_27 : decode cX5_keep 27 = .ok (.aload_n 0, 1) := by decide +kernel
theorem dX5_keep_28 : decode cX5_keep 28 = .ok (.iconst 1, 1) := by decide +kernel
theorem dX5_keep_29 : decode cX5_keep 29 = .ok (.putfield 170, 3) := by decide +kernel
theorem dX5_keep_32 : decode cX5_keep 32 = .ok (.aload_n 0, 1) := by decide +kernel
theorem dX5_keep_33 : decode cX5_keep 33 = .ok (.getfield 7, 3) := by decide +kernel
theorem dX5_keep_36 : decode cX5_keep 36 = .ok (.sipush 536, 3) := by decide +kernel
theorem dX5_keep_39 : decode cX5_keep 39 = .ok (.iaload, 1) := by decide +kernel
theorem dX5_keep_40 : decode cX5_keep 40 = .ok (.ireturn, 1) := by decide +kernel
theorem dX5_restore_0 : decode cX5_restore 0 = .ok (.aload_n 0, 1) := by decide +kernel
theorem dX5_restore_1 : decode cX5_restore 1 = .ok (.getfield 170, 3) := by decide +kernel
theorem dX5_restore_4 : decode cX5_restore 4 = .ok (.ifCond .ne 6, 3) := by decide +kernel
theorem dX5_restore_7 : decode cX5_restore 7 = .ok (.bipush (-5), 2) := by decide +kernel
theorem dX5_restore_9 : decode cX5_restore 9 = .ok (.ireturn, 1) := by decide +kernel
theorem dX5_restore_10 : decode cX5_restore 10 = .ok (.aload_n 0, 1) := by decide +kernel
theorem dX5_restore_11 : decode cX5_restore 11 = .ok (.invokevirtual 57, 3) := by decide +kernel
theorem dX5_restore_14 : decode cX5_restore 14 = .ok (.iconst 0, 1) := by decide +kernel
theorem dX5_restore_15 : decode cX5_restore 15 = .ok (.istore_n 1, 1) := by decide +kernel
theorem dX5_restore_16 : decode cX5_restore 16 = .ok (.iload_n 1, 1) := by decide +kernel
theorem dX5_restore_17 : decode cX5_restore 17 = .ok (.sipush 538, 3) := by decide +kernel
theorem dX5_restore_20 : decode cX5_restore 20 = .ok (.if_icmp .ge 21, 3) := by decide +kernel
theorem dX5_restore_23 : decode cX5_restore 23 = .ok (.aload_n 0, 1) := by decide +kernel
theorem dX5_restore_24 : decode cX5_restore 24 = .ok (.getfield 7, 3) := by decide +kernel
theorem dX5_restore_27 : decode cX5_restore 27 = .ok (.iload_n 1, 1) := by decide +kernel
theorem dX5_restore_28 : decode cX5_restore 28 = .ok (.aload_n 0, 1) := by decide +kernel
theorem dX5_restore_29 : decode cX5_restore 29 = .ok (.getfield 19, 3) := by decide +kernel
theorem dX5_restore_32 : decode cX5_restore 32 = .ok (.iload_n 1, 1) := by decide +kernel
theorem dX5_restore_33 : decode cX5_restore 33 = .ok (.iaload, 1) := by decide +kernel
theorem dX5_restore_34 : decode cX5_restore 34 = .ok (.iastore, 1) := by decide +kernel
theorem dX5_restore_35 : decode cX5_restore 35 = .ok (.iinc 1 1, 3) := by decide +kernel
theorem dX5_restore_38 : decode cX5_restore 38 = .ok (.goto (-22), 3) := by decide +kernel
theorem dX5_restore_41 : decode cX5_restore 41 = .ok (.aload_n 0, 1) := by decide +kernel
theorem dX5_restore_42 : decode cX5_restore 42 = .ok (.getfield 7, 3) := by decide +kernel
theorem dX5_restore_45 : decode cX5_restore 45 = .ok (.sipush 536, 3) := by decide +kernel
theorem dX5_restore_48 : decode cX5_restore 48 = .ok (.iaload, 1) := by decide +kernel
theorem dX5_restore_49 : decode cX5_restore 49 = .ok (.ireturn, 1) := by decide +kernel
theorem dX5_snail_0 : decode cX5_snail 0 = .ok (.aload_n 0, 1) := by decide +kernel
theorem dX5_snail_1 : decode cX5_snail 1 = .ok (.iload_n 1, 1) := by decide +kernel
theorem dX5_snail_2 : decode cX5_snail 2 = .ok (.invokevirtual 63, 3) := by decide +kernel
theorem dX5_snail_5 : decode cX5_snail 5 = .ok (.ifCond .ne 5, 3) := by decide +kernel
theorem dX5_snail_8 : decode cX5_snail 8 = .ok (.iconst (-1), 1) := by decide +kernel
theorem dX5_snail_9 : decode cX5_snail 9 = .ok (.ireturn, 1) := by decide +kernel
theorem dX5_snail_10 : decode cX5_snail 10 = .ok (.iload_n 2, 1) := by decide +kernel
theorem dX5_snail_11 : decode cX5_snail 11 = .ok (.iconst 0, 1) := by decide +kernel
theorem dX5_snail_12 : decode cX5_snail 12 = .ok (.bipush 9, 2) := by decide +kernel
theorem dX5_snail_14 : decode cX5_snail 14 = .ok (.invokestatic 32, 3) := by decide +kernel
theorem dX5_snail_17 : decode cX5_snail 17 = .ok (.ifCond .ne 6, 3) := by decide +kernel
theorem dX5_snail_20 : decode cX5_snail 20 = .ok (.bipush (-2), 2) := by decide +kernel
theorem dX5_snail_22 : decode cX5_snail 22 = .ok (.ireturn, 1) := by decide +kernel
theorem dX5_snail_23 : decode cX5_snail 23 = .ok (.aload_n 0, 1) := by decide +kernel
theorem dX5_snail_24 : decode cX5_snail 24 = .ok (.getfield 7, 3) := by decide +kernel
theorem dX5_snail_27 : decode cX5_snail 27 = .ok (.iload_n 1, 1) := by decide +kernel
theorem dX5_snail_28 : decode cX5_snail 28 = .ok (.iload_n 2, 1) := by decide +kernel
theorem dX5_snail_29 : decode cX5_snail 29 = .ok (.invokestatic 40, 3) := by decide +kernel
theorem dX5_snail_32 : decode cX5_snail 32 = .ok (.iaload, 1) := by decide +kernel
theorem dX5_snail_33 : decode cX5_snail 33 = .ok (.istore_n 3, 1) := by decide +kernel
theorem dX5_snail_34 : decode cX5_snail 34 = .ok (.iload_n 2, 1) := by decide +kernel
theorem dX5_snail_35 : decode cX5_snail 35 = .ok (.iconst 4, 1) := by decide +kernel
theorem dX5_snail_36 : decode cX5_snail 36 = .ok (.if_icmp .ne 16, 3) := by decide +kernel
theorem dX5_snail_39 : decode cX5_snail 39 = .ok (.iload_n 3, 1) := by decide +kernel
theorem dX5_snail_40 : decode cX5_snail 40 = .ok (.ifCond .ne 8, 3) := by decide +kernel
theorem dX5_snail_43 : decode cX5_snail 43 = .ok (.bipush (-5), 2) := by decide +kernel
theorem dX5_snail_45 : decode cX5_snail 45 = .ok (.goto 29, 3) := by decide +kernel
theorem dX5_snail_48 : decode cX5_snail 48 = .ok (.iload_n 3, 1) := by decide +kernel
theorem dX5_snail_49 : decode cX5_snail 49 = .ok (.goto 25, 3) := by decide +kernel
theorem dX5_snail_52 : decode cX5_snail 52 = .ok (.iload_n 2, 1) := by decide +kernel
theorem dX5_snail_53 : decode cX5_snail 53 = .ok (.bipush 8, 2) := by decide +kernel
theorem dX5_snail_55 : decode cX5_snail 55 = .ok (.if_icmp .ne 18, 3) := by decide +kernel
theorem dX5_snail_58 : decode cX5_snail 58 = .ok (.iload_n 3, 1) := by decide +kernel
theorem dX5_snail_59 : decode cX5_snail 59 = .ok (.ifCond .ne 8, 3) := by decide +kernel
theorem dX5_snail_62 : decode cX5_snail 62 = .ok (.bipush (-5), 2) := by decide +kernel
theorem dX5_snail_64 : decode cX5_snail 64 = .ok (.goto 10, 3) := by decide +kernel
theorem dX5_snail_67 : decode cX5_snail 67 = .ok (.iload_n 3, 1) := by decide +kernel
theorem dX5_snail_68 : decode cX5_snail 68 = .ok (.iconst 1, 1) := by decide +kernel
theorem dX5_snail_69 : decode cX5_snail 69 = .ok (.isub, 1) := by decide +kernel
theorem dX5_snail_70 : decode cX5_snail 70 = .ok (.goto 4, 3) := by decide +kernel
theorem dX5_snail_73 : decode cX5_snail 73 = .ok (.iload_n 3, 1) := by decide +kernel
theorem dX5_snail_74 : decode cX5_snail 74 = .ok (.ireturn, 1) := by decide +kernel
theorem dX5_cell_0 : decode cX5_cell 0 = .ok (.iload_n 1, 1) := by decide +kernel
theorem dX5_cell_1 : decode cX5_cell 1 = .ok (.iload_n 2, 1) := by decide +kernel
theorem dX5_cell_2 : decode cX5_cell 2 = .ok (.invokestatic 66, 3) := by decide +kernel
theorem dX5_cell_5 : decode cX5_cell 5 = .ok (.ifCond .ne 5, 3) := by decide +kernel
theorem dX5_cell_8 : decode cX5_cell 8 = .ok (.iconst (-1), 1) := by decide +kernel
theorem dX5_cell_9 : decode cX5_cell 9 = .ok (.ireturn, 1) := by decide +kernel
theorem dX5_cell_10 : decode cX5_cell 10 = .ok (.iload_n 1, 1) := by decide +kernel
theorem dX5_cell_11 : decode cX5_cell 11 = .ok (.iload_n 2, 1) := by decide +kernel
theorem dX5_cell_12 : decode cX5_cell 12 = .ok (.invokestatic 70, 3) := by decide +kernel
theorem dX5_cell_15 : decode cX5_cell 15 = .ok (.istore 4, 2) := by decide +kernel
theorem dX5_cell_17 : decode cX5_cell 17 = .ok (.iload_n 3, 1) := by decide +kernel
theorem dX5_cell_18 : decode cX5_cell 18 = .ok (.tableswitch 108 0 3 #[30, 40, 71, 101], 30) := by decide +kernel
theorem dX5_cell_48 : decode cX5_cell 48 = .ok (.aload_n 0, 1) := by decide +kernel
theorem dX5_cell_49 : decode cX5_cell 49 = .ok (.getfield 7, 3) := by decide +kernel
theorem dX5_cell_52 : decode cX5_cell 52 = .ok (.iconst 0, 1) := by decide +kernel
theorem dX5_cell_53 : decode cX5_cell 53 = .ok (.iload 4, 2) := by decide +kernel
theorem dX5_cell_55 : decode cX5_cell 55 = .ok (.iadd, 1) := by decide +kernel
theorem dX5_cell_56 : decode cX5_cell 56 = .ok (.iaload, 1) := by decide +kernel
theorem dX5_cell_57 : decode cX5_cell 57 = .ok (.ireturn, 1) := by decide +kernel
theorem dX5_cell_58 : decode cX5_cell 58 = .ok (.aload_n 0, 1) := by decide +kernel
theorem dX5_cell_59 : decode cX5_cell 59 = .ok (.getfield 7, 3) := by decide +kernel
theorem dX5_cell_62 : decode cX5_cell 62 = .ok (.bipush 120, 2) := by decide +kernel
theorem dX5_cell_64 : decode cX5_cell 64 = .ok (.iload 4, 2) := by decide +kernel
theorem dX5_cell_66 : decode cX5_cell 66 = .ok (.iadd, 1) := by decide +kernel
theorem dX5_cell_67 : decode cX5_cell 67 = .ok (.iaload, 1) := by decide +kernel
theorem dX5_cell_68 : decode cX5_cell 68 = .ok (.ifCond .ne 8, 3) := by decide +kernel
theorem dX5_cell_71 : decode cX5_cell 71 = .ok (.bipush (-5), 2) := by decide +kernel
theorem dX5_cell_73 : decode cX5_cell 73 = .ok (.goto 15, 3) := by decide +kernel
theorem dX5_cell_76 : decode cX5_cell 76 = .ok (.aload_n 0, 1) := by decide +kernel
theorem dX5_cell_77 : decode cX5_cell 77 = .ok (.getfield 7, 3) := by decide +kernel
theorem dX5_cell_80 : decode cX5_cell 80 = .ok (.bipush 120, 2) := by decide +kernel
theorem dX5_cell_82 : decode cX5_cell 82 = .ok (.iload 4, 2) := by decide +kernel
theorem dX5_cell_84 : decode cX5_cell 84 = .ok (.iadd, 1) := by decide +kernel
theorem dX5_cell_85 : decode cX5_cell 85 = .ok (.iaload, 1) := by decide +kernel
theorem dX5_cell_86 : decode cX5_cell 86 = .ok (.iconst 1, 1) := by decide +kernel
theorem dX5_cell_87 : decode cX5_cell 87 = .ok (.isub, 1) := by decide +kernel
theorem dX5_cell_88 : decode cX5_cell 88 = .ok (.ireturn, 1) := by decide +kernel
theorem dX5_cell_89 : decode cX5_cell 89 = .ok (.aload_n 0, 1) := by decide +kernel
theorem dX5_cell_90 : decode cX5_cell 90 = .ok (.getfield 7, 3) := by decide +kernel
theorem dX5_cell_93 : decode cX5_cell 93 = .ok (.bipush 120, 2) := by decide +kernel
theorem dX5_cell_95 : decode cX5_cell 95 = .ok (.iload 4, 2) := by decide +kernel
theorem dX5_cell_97 : decode cX5_cell 97 = .ok (.iadd, 1) := by decide +kernel
theorem dX5_cell_98 : decode cX5_cell 98 = .ok (.iaload, 1) := by decide +kernel
theorem dX5_cell_99 : decode cX5_cell 99 = .ok (.ifCond .ne 8, 3) := by decide +kernel
theorem dX5_cell_102 : decode cX5_cell 102 = .ok (.bipush (-5), 2) := by decide +kernel
theorem dX5_cell_104 : decode cX5_cell 104 = .ok (.goto 14, 3) := by decide +kernel
theorem dX5_cell_107 : decode cX5_cell 107 = .ok (.aload_n 0, 1) := by decide +kernel
theorem dX5_cell_108 : decode cX5_cell 108 = .ok (.getfield 7, 3) := by decide +kernel
theorem dX5_cell_111 : decode cX5_cell 111 = .ok (.sipush 240, 3) := by decide +kernel
theorem dX5_cell_114 : decode cX5_cell 114 = .ok (.iload 4, 2) := by decide +kernel
theorem dX5_cell_116 : decode cX5_cell 116 = .ok (.iadd, 1) := by decide +kernel
theorem dX5_cell_117 : decode cX5_cell 117 = .ok (.iaload, 1) := by decide +kernel
theorem dX5_cell_118 : decode cX5_cell 118 = .ok (.ireturn, 1) := by decide +kernel
theorem dX5_cell_119 : decode cX5_cell 119 = .ok (.aload_n 0, 1) := by decide +kernel
theorem dX5_cell_120 : decode cX5_cell 120 = .ok (.iload_n 1, 1) := by decide +kernel
theorem dX5_cell_121 : decode cX5_cell 121 = .ok (.iload_n 2, 1) := by decide +kernel
theorem dX5_cell_122 : decode cX5_cell 122 = .ok (.invokevirtual 51, 3) := by decide +kernel
theorem dX5_cell_125 : decode cX5_cell 125 = .ok (.ireturn, 1) := by decide +kernel
theorem dX5_cell_126 : decode cX5_cell 126 = .ok (.bipush (-2), 2) := by decide +kernel
theorem dX5_cell_128 : decode cX5_cell 128 = .ok (.ireturn, 1) := by decide +kernel
theorem dX5_cost_0 : decode cX5_cost 0 = .ok (.aload_n 0, 1) := by decide +kernel
theorem dX5_cost_1 : decode cX5_cost 1 = .ok (.iload_n 1, 1) := by decide +kernel
theorem dX5_cost_2 : decode cX5_cost 2 = .ok (.invokevirtual 63, 3) := by decide +kernel
theorem dX5_cost_5 : decode cX5_cost 5 = .ok (.ifCond .ne 7, 3) := by decide +kernel
theorem dX5_cost_8 : decode cX5_cost 8 = .ok (.iconst (-1), 1) := by decide +kernel
theorem dX5_cost_9 : decode cX5_cost 9 = .ok (.goto 36, 3) := by decide +kernel
theorem dX5_cost_12 : decode cX5_cost 12 = .ok (.iload_n 2, 1) := by decide +kernel
theorem dX5_cost_13 : decode cX5_cost 13 = .ok (.iconst 0, 1) := by decide +kernel
theorem dX5_cost_14 : decode cX5_cost 14 = .ok (.iconst 2, 1) := by decide +kernel
theorem dX5_cost_15 : decode cX5_cost 15 = .ok (.invokestatic 32, 3) := by decide +kernel
theorem dX5_cost_18 : decode cX5_cost 18 = .ok (.ifCond .ne 8, 3) := by decide +kernel
theorem dX5_cost_21 : decode cX5_cost 21 = .ok (.bipush (-2), 2) := by decide +kernel
theorem dX5_cost_23 : decode cX5_cost 23 = .ok (.goto 22, 3) := by decide +kernel
theorem dX5_cost_26 : decode cX5_cost 26 = .ok (.aload_n 0, 1) := by decide +kernel
theorem dX5_cost_27 : decode cX5_cost 27 = .ok (.iload_n 1, 1) := by decide +kernel
theorem dX5_cost_28 : decode cX5_cost 28 = .ok (.invokevirtual 48, 3) := by decide +kernel
theorem dX5_cost_31 : decode cX5_cost 31 = .ok (.ifCond .eq 12, 3) := by decide +kernel
theorem dX5_cost_34 : decode cX5_cost 34 = .ok (.aload_n 0, 1) := by decide +kernel
theorem dX5_cost_35 : decode cX5_cost 35 = .ok (.iload_n 1, 1) := by decide +kernel
theorem dX5_cost_36 : decode cX5_cost 36 = .ok (.iload_n 2, 1) := by decide +kernel
theorem dX5_cost_37 : decode cX5_cost 37 = .ok (.invokevirtual 93, 3) := by decide +kernel
theorem dX5_cost_40 : decode cX5_cost 40 = .ok (.goto 5, 3) := by decide +kernel
theorem dX5_cost_43 : decode cX5_cost 43 = .ok (.bipush (-4), 2) := by decide +kernel
theorem dX5_cost_45 : decode cX5_cost 45 = .ok (.ireturn, 1) := by decide +kernel
theorem dX5_does_0 : decode cX5_does 0 = .ok (.aload_n 0, 1) := by decide +kernel
theorem dX5_does_1 : decode cX5_does 1 = .ok (.iload_n 1, 1) := by decide +kernel
theorem dX5_does_2 : decode cX5_does 2 = .ok (.invokevirtual 63, 3) := by decide +kernel
theorem dX5_does_5 : decode cX5_does 5 = .ok (.ifCond .ne 7, 3) := by decide +kernel
theorem dX5_does_8 : decode cX5_does 8 = .ok (.iconst (-1), 1) := by decide +kernel
theorem dX5_does_9 : decode cX5_does 9 = .ok (.goto 21, 3) := by decide +kernel
theorem dX5_does_12 : decode cX5_does 12 = .ok (.aload_n 0, 1) := by decide +kernel
theorem dX5_does_13 : decode cX5_does 13 = .ok (.iload_n 1, 1) := by decide +kernel
theorem dX5_does_14 : decode cX5_does 14 = .ok (.invokevirtual 48, 3) := by decide +kernel
theorem dX5_does_17 : decode cX5_does 17 = .ok (.ifCond .eq 11, 3) := by decide +kernel
theorem dX5_does_20 : decode cX5_does 20 = .ok (.aload_n 0, 1) := by decide +kernel
theorem dX5_does_21 : decode cX5_does 21 = .ok (.iload_n 1, 1) := by decide +kernel
theorem dX5_does_22 : decode cX5_does 22 = .ok (.invokevirtual 96, 3) := by decide +kernel
theorem dX5_does_25 : decode cX5_does 25 = .ok (.goto 5, 3) := by decide +kernel
theorem dX5_does_28 : decode cX5_does 28 = .ok (.bipush (-4), 2) := by decide +kernel
theorem dX5_does_30 : decode cX5_does 30 = .ok (.ireturn, 1) := by decide +kernel
theorem dX5_reason_0 : decode cX5_reason 0 = .ok (.aload_n 0, 1) := by decide +kernel
theorem dX5_reason_1 : decode cX5_reason 1 = .ok (.iload_n 1, 1) := by decide +kernel
theorem dX5_reason_2 : decode cX5_reason 2 = .ok (.invokevirtual 63, 3) := by decide +kernel
theorem dX5_reason_5 : decode cX5_reason 5 = .ok (.ifCond .eq 11, 3) := by decide +kernel
theorem dX5_reason_8 : decode cX5_reason 8 = .ok (.iload_n 2, 1) := by decide +kernel
theorem dX5_reason_9 : decode cX5_reason 9 = .ok (.iload_n 3, 1) := by decide +kernel
theorem dX5_reason_10 : decode cX5_reason 10 = .ok (.invokestatic 66, 3) := by decide +kernel
theorem dX5_reason_13 : decode cX5_reason 13 = .ok (.ifCond .ne 7, 3) := by decide +kernel
theorem dX5_reason_16 : decode cX5_reason 16 = .ok (.iconst (-1), 1) := by decide +kernel
theorem dX5_reason_17 : decode cX5_reason 17 = .ok (.goto 13, 3) := by decide +kernel
theorem dX5_reason_20 : decode cX5_reason 20 = .ok (.aload_n 0, 1) := by decide +kernel
theorem dX5_reason_21 : decode cX5_reason 21 = .ok (.iload_n 1, 1) := by decide +kernel
theorem dX5_reason_22 : decode cX5_reason 22 = .ok (.iload_n 2, 1) := by decide +kernel
theorem dX5_reason_23 : decode cX5_reason 23 = .ok (.iload_n 3, 1) := by decide +kernel
theorem dX5_reason_24 : decode cX5_reason 24 = .ok (.invokestatic 70, 3) := by decide +kernel
theorem dX5_reason_27 : decode cX5_reason 27 = .ok (.invokevirtual 90, 3) := by decide +kernel
theorem dX5_reason_30 : decode cX5_reason 30 = .ok (.ireturn, 1) := by decide +kernel
theorem dX5_ends_0 : decode cX5_ends 0 = .ok (.iconst 0, 1) := by decide +kernel
theorem dX5_ends_1 : decode cX5_ends 1 = .ok (.istore_n 2, 1) := by decide +kernel
theorem dX5_ends_2 : decode cX5_ends 2 = .ok (.aload_n 0, 1) := by decide +kernel
theorem dX5_ends_3 : decode cX5_ends 3 = .ok (.getfield 7, 3) := by decide +kernel
theorem dX5_ends_6 : decode cX5_ends 6 = .ok (.iload_n 1, 1) := by decide +kernel
theorem dX5_ends_7 : decode cX5_ends 7 = .ok (.iconst 3, 1) := by decide +kernel
theorem dX5_ends_8 : decode cX5_ends 8 = .ok (.invokestatic 40, 3) := by decide +kernel
theorem dX5_ends_11 : decode cX5_ends 11 = .ok (.iaload, 1) := by decide +kernel
theorem dX5_ends_12 : decode cX5_ends 12 = .ok (.ifCond .ne 20, 3) := by decide +kernel
theorem dX5_ends_15 : decode cX5_ends 15 = .ok (.iload_n 2, 1) := by decide +kernel
theorem dX5_ends_16 : decode cX5_ends 16 = .ok (.sipush 300, 3) := by decide +kernel
theorem dX5_ends_19 : decode cX5_ends 19 = .ok (.if_icmp .ge 13, 3) := by decide +kernel
theorem dX5_ends_22 : decode cX5_ends 22 = .ok (.aload_n 0, 1) := by decide +kernel
theorem dX5_ends_23 : decode cX5_ends 23 = .ok (.invokevirtual 103, 3) := by decide +kernel
theorem dX5_ends_26 : decode cX5_ends 26 = .ok (.iinc 2 1, 3) := by decide +kernel
theorem dX5_ends_29 : decode cX5_ends 29 = .ok (.goto (-27), 3) := by decide +kernel
theorem dX5_ends_32 : decode cX5_ends 32 = .ok (.aload_n 0, 1) := by decide +kernel
theorem dX5_ends_33 : decode cX5_ends 33 = .ok (.getfield 7, 3) := by decide +kernel
theorem dX5_ends_36 : decode cX5_ends 36 = .ok (.iload_n 1, 1) := by decide +kernel
theorem dX5_ends_37 : decode cX5_ends 37 = .ok (.iconst 3, 1) := by decide +kernel
theorem dX5_ends_38 : decode cX5_ends 38 = .ok (.invokestatic 40, 3) := by decide +kernel
theorem dX5_ends_41 : decode cX5_ends 41 = .ok (.iaload, 1) := by decide +kernel
theorem dX5_ends_42 : decode cX5_ends 42 = .ok (.iconst 1, 1) := by decide +kernel
theorem dX5_ends_43 : decode cX5_ends 43 = .ok (.if_icmp .ne 7, 3) := by decide +kernel
theorem dX5_ends_46 : decode cX5_ends 46 = .ok (.iload_n 2, 1) := by decide +kernel
theorem dX5_ends_47 : decode cX5_ends 47 = .ok (.goto 5, 3) := by decide +kernel
theorem dX5_ends_50 : decode cX5_ends 50 = .ok (.bipush (-5), 2) := by decide +kernel
theorem dX5_ends_52 : decode cX5_ends 52 = .ok (.ireturn, 1) := by decide +kernel
theorem dX5_endsIn_0 : decode cX5_endsIn 0 = .ok (.aload_n 0, 1) := by decide +kernel
theorem dX5_endsIn_1 : decode cX5_endsIn 1 = .ok (.iload_n 1, 1) := by decide +kernel
theorem dX5_endsIn_2 : decode cX5_endsIn 2 = .ok (.invokevirtual 63, 3) := by decide +kernel
theorem dX5_endsIn_5 : decode cX5_endsIn 5 = .ok (.ifCond .ne 5, 3) := by decide +kernel
theorem dX5_endsIn_8 : decode cX5_endsIn 8 = .ok (.iconst (-1), 1) := by decide +kernel
theorem dX5_endsIn_9 : decode cX5_endsIn 9 = .ok (.ireturn, 1) := by decide +kernel
theorem dX5_endsIn_10 : decode cX5_endsIn 10 = .ok (.aload_n 0, 1) := by decide +kernel
theorem dX5_endsIn_11 : decode cX5_endsIn 11 = .ok (.getfield 7, 3) := by decide +kernel
theorem dX5_endsIn_14 : decode cX5_endsIn 14 = .ok (.iload_n 1, 1) := by decide +kernel
theorem dX5_endsIn_15 : decode cX5_endsIn 15 = .ok (.iconst 3, 1) := by decide +kernel
theorem dX5_endsIn_16 : decode cX5_endsIn 16 = .ok (.invokestatic 40, 3) := by decide +kernel
theorem dX5_endsIn_19 : decode cX5_endsIn 19 = .ok (.iaload, 1) := by decide +kernel
theorem dX5_endsIn_20 : decode cX5_endsIn 20 = .ok (.iconst 2, 1) := by decide +kernel
theorem dX5_endsIn_21 : decode cX5_endsIn 21 = .ok (.if_icmp .ne 6, 3) := by decide +kernel
theorem dX5_endsIn_24 : decode cX5_endsIn 24 = .ok (.bipush (-4), 2) := by decide +kernel
theorem dX5_endsIn_26 : decode cX5_endsIn 26 = .ok (.ireturn, 1) := by decide +kernel
theorem dX5_endsIn_27 : decode cX5_endsIn 27 = .ok (.aload_n 0, 1) := by decide +kernel
theorem dX5_endsIn_28 : decode cX5_endsIn 28 = .ok (.invokevirtual 152, 3) := by decide +kernel
theorem dX5_endsIn_31 : decode cX5_endsIn 31 = .ok (.aload_n 0, 1) := by decide +kernel
theorem dX5_endsIn_32 : decode cX5_endsIn 32 = .ok (.iload_n 1, 1) := by decide +kernel
theorem dX5_endsIn_33 : decode cX5_endsIn 33 = .ok (.invokevirtual 173, 3) := by decide +kernel
theorem dX5_endsIn_36 : decode cX5_endsIn 36 = .ok (.istore_n 2, 1) := by decide +kernel
theorem dX5_endsIn_37 : decode cX5_endsIn 37 = .ok (.aload_n 0, 1) := by decide +kernel
theorem dX5_endsIn_38 : decode cX5_endsIn 38 = .ok (.invokevirtual 158, 3) := by decide +kernel
theorem dX5_endsIn_41 : decode cX5_endsIn 41 = .ok (.iload_n 2, 1) := by decide +kernel
theorem dX5_endsIn_42 : decode cX5_endsIn 42 = .ok (.ireturn, 1) := by decide +kernel
theorem dX5_wayUp_0 : decode cX5_wayUp 0 = .ok (.iload_n 1, 1) := by decide +kernel
theorem dX5_wayUp_1 : decode cX5_wayUp 1 = .ok (.iload_n 2, 1) := by decide +kernel
theorem dX5_wayUp_2 : decode cX5_wayUp 2 = .ok (.invokestatic 66, 3) := by decide +kernel
theorem dX5_wayUp_5 : decode cX5_wayUp 5 = .ok (.ifCond .ne 5, 3) := by decide +kernel
theorem dX5_wayUp_8 : decode cX5_wayUp 8 = .ok (.iconst (-1), 1) := by decide +kernel
theorem dX5_wayUp_9 : decode cX5_wayUp 9 = .ok (.ireturn, 1) := by decide +kernel
theorem dX5_wayUp_10 : decode cX5_wayUp 10 = .ok (.iload_n 3, 1) := by decide +kernel
theorem dX5_wayUp_11 : decode cX5_wayUp 11 = .ok (.iconst 0, 1) := by decide +kernel
theorem dX5_wayUp_12 : decode cX5_wayUp 12 = .ok (.iconst 1, 1) := by decide +kernel
theorem dX5_wayUp_13 : decode cX5_wayUp 13 = .ok (.invokestatic 32, 3) := by decide +kernel
theorem dX5_wayUp_16 : decode cX5_wayUp 16 = .ok (.ifCond .ne 6, 3) := by decide +kernel
theorem dX5_wayUp_19 : decode cX5_wayUp 19 = .ok (.bipush (-2), 2) := by decide +kernel
theorem dX5_wayUp_21 : decode cX5_wayUp 21 = .ok (.ireturn, 1) := by decide +kernel
theorem dX5_wayUp_22 : decode cX5_wayUp 22 = .ok (.iconst 0, 1) := by decide +kernel
theorem dX5_wayUp_23 : decode cX5_wayUp 23 = .ok (.istore 4, 2) := by decide +kernel
theorem dX5_wayUp_25 : decode cX5_wayUp 25 = .ok (.iload 4, 2) := by decide +kernel
theorem dX5_wayUp_27 : decode cX5_wayUp 27 = .ok (.bipush 6, 2) := by decide +kernel
theorem dX5_wayUp_29 : decode cX5_wayUp 29 = .ok (.if_icmp .ge 17, 3) := by decide +kernel
theorem dX5_wayUp_32 : decode cX5_wayUp 32 = .ok (.aload_n 0, 1) := by decide +kernel
theorem dX5_wayUp_33 : decode cX5_wayUp 33 = .ok (.getfield 26, 3) := by decide +kernel
theorem dX5_wayUp_36 : decode cX5_wayUp 36 = .ok (.iload 4, 2) := by decide +kernel
theorem dX5_wayUp_38 : decode cX5_wayUp 38 = .ok (.iconst 0, 1) := by decide +kernel
theorem dX5_wayUp_39 : decode cX5_wayUp 39 = .ok (.iastore, 1) := by decide +kernel
theorem dX5_wayUp_40 : decode cX5_wayUp 40 = .ok (.iinc 4 1, 3) := by decide +kernel
theorem dX5_wayUp_43 : decode cX5_wayUp 43 = .ok (.goto (-18), 3) := by decide +kernel
theorem dX5_wayUp_46 : decode cX5_wayUp 46 = .ok (.bipush 18, 2) := by decide +kernel
theorem dX5_wayUp_48 : decode cX5_wayUp 48 = .ok (.istore 4, 2) := by decide +kernel
theorem dX5_wayUp_50 : decode cX5_wayUp 50 = .ok (.iload 4, 2) := by decide +kernel
theorem dX5_wayUp_52 : decode cX5_wayUp 52 = .ok (.iload_n 2, 1) := by decide +kernel
theorem dX5_wayUp_53 : decode cX5_wayUp 53 = .ok (.if_icmp .lt 163, 3) := by decide +kernel
theorem dX5_wayUp_56 : decode cX5_wayUp 56 = .ok (.iconst 0, 1) := by decide +kernel
theorem dX5_wayUp_57 : decode cX5_wayUp 57 = .ok (.istore 5, 2) := by decide +kernel
theorem dX5_wayUp_59 : decode cX5_wayUp 59 = .ok (.iload 5, 2) := by decide +kernel
theorem dX5_wayUp_61 : decode cX5_wayUp 61 = .ok (.bipush 6, 2) := by decide +kernel
theorem dX5_wayUp_63 : decode cX5_wayUp 63 = .ok (.if_icmp .ge 117, 3) := by decide +kernel
theorem dX5_wayUp_66 : decode cX5_wayUp 66 = .ok (.bipush (-5), 2) := by decide +kernel
theorem dX5_wayUp_68 : decode cX5_wayUp 68 = .ok (.istore 6, 2) := by decide +kernel
theorem dX5_wayUp_70 : decode cX5_wayUp 70 = .ok (.iconst 0, 1) := by decide +kernel
theorem dX5_wayUp_71 : decode cX5_wayUp 71 = .ok (.istore 7, 2) := by decide +kernel
theorem dX5_wayUp_73 : decode cX5_wayUp 73 = .ok (.iload 7, 2) := by decide +kernel
theorem dX5_wayUp_75 : decode cX5_wayUp 75 = .ok (.iconst 3, 1) := by decide +kernel
theorem dX5_wayUp_76 : decode cX5_wayUp 76 = .ok (.if_icmp .ge 89, 3) := by decide +kernel
theorem dX5_wayUp_79 : decode cX5_wayUp 79 = .ok (.iload 5, 2) := by decide +kernel
theorem dX5_wayUp_81 : decode cX5_wayUp 81 = .ok (.iload 7, 2) := by decide +kernel
theorem dX5_wayUp_83 : decode cX5_wayUp 83 = .ok (.invokestatic 87, 3) := by decide +kernel
theorem dX5_wayUp_86 : decode cX5_wayUp 86 = .ok (.istore 8, 2) := by decide +kernel
theorem dX5_wayUp_88 : decode cX5_wayUp 88 = .ok (.iload 8, 2) := by decide +kernel
theorem dX5_wayUp_90 : decode cX5_wayUp 90 = .ok (.invokestatic 36, 3) := by decide +kernel
theorem dX5_wayUp_93 : decode cX5_wayUp 93 = .ok (.ifCond .eq 32, 3) := by decide +kernel
theorem dX5_wayUp_96 : decode cX5_wayUp 96 = .ok (.aload_n 0, 1) := by decide +kernel
theorem dX5_wayUp_97 : decode cX5_wayUp 97 = .ok (.getfield 26, 3) := by decide +kernel
theorem dX5_wayUp_100 : decode cX5_wayUp 100 = .ok (.iload 8, 2) := by decide +kernel
theorem dX5_wayUp_102 : decode cX5_wayUp 102 = .ok (.iaload, 1) := by decide +kernel
theorem dX5_wayUp_103 : decode cX5_wayUp 103 = .ok (.iconst 1, 1) := by decide +kernel
theorem dX5_wayUp_104 : decode cX5_wayUp 104 = .ok (.iadd, 1) := by decide +kernel
theorem dX5_wayUp_105 : decode cX5_wayUp 105 = .ok (.aload_n 0, 1) := by decide +kernel
theorem dX5_wayUp_106 : decode cX5_wayUp 106 = .ok (.getfield 7, 3) := by decide +kernel
theorem dX5_wayUp_109 : decode cX5_wayUp 109 = .ok (.iconst 0, 1) := by decide +kernel
theorem dX5_wayUp_110 : decode cX5_wayUp 110 = .ok (.iload 8, 2) := by decide +kernel
theorem dX5_wayUp_112 : decode cX5_wayUp 112 = .ok (.iload 4, 2) := by decide +kernel
theorem dX5_wayUp_114 : decode cX5_wayUp 114 = .ok (.iconst 1, 1) := by decide +kernel
theorem dX5_wayUp_115 : decode cX5_wayUp 115 = .ok (.iadd, 1) := by decide +kernel
theorem dX5_wayUp_116 : decode cX5_wayUp 116 = .ok (.invokestatic 70, 3) := by decide +kernel
theorem dX5_wayUp_119 : decode cX5_wayUp 119 = .ok (.iadd, 1) := by decide +kernel
theorem dX5_wayUp_120 : decode cX5_wayUp 120 = .ok (.iaload, 1) := by decide +kernel
theorem dX5_wayUp_121 : decode cX5_wayUp 121 = .ok (.iadd, 1) := by decide +kernel
theorem dX5_wayUp_122 : decode cX5_wayUp 122 = .ok (.goto 5, 3) := by decide +kernel
theorem dX5_wayUp_125 : decode cX5_wayUp 125 = .ok (.bipush (-5), 2) := by decide +kernel
theorem dX5_wayUp_127 : decode cX5_wayUp 127 = .ok (.istore 9, 2) := by decide +kernel
theorem dX5_wayUp_129 : decode cX5_wayUp 129 = .ok (.iload 9, 2) := by decide +kernel
theorem dX5_wayUp_131 : decode cX5_wayUp 131 = .ok (.bipush (-5), 2) := by decide +kernel
theorem dX5_wayUp_133 : decode cX5_wayUp 133 = .ok (.if_icmp .eq 22, 3) := by decide +kernel
theorem dX5_wayUp_136 : decode cX5_wayUp 136 = .ok (.iload 6, 2) := by decide +kernel
theorem dX5_wayUp_138 : decode cX5_wayUp 138 = .ok (.bipush (-5), 2) := by decide +kernel
theorem dX5_wayUp_140 : decode cX5_wayUp 140 = .ok (.if_icmp .eq 10, 3) := by decide +kernel
theorem dX5_wayUp_143 : decode cX5_wayUp 143 = .ok (.iload 9, 2) := by decide +kernel
theorem dX5_wayUp_145 : decode cX5_wayUp 145 = .ok (.iload 6, 2) := by decide +kernel
theorem dX5_wayUp_147 : decode cX5_wayUp 147 = .ok (.if_icmp .ge 8, 3) := by decide +kernel
theorem dX5_wayUp_150 : decode cX5_wayUp 150 = .ok (.iload 9, 2) := by decide +kernel
theorem dX5_wayUp_152 : decode cX5_wayUp 152 = .ok (.goto 5, 3) := by decide +kernel
theorem dX5_wayUp_155 : decode cX5_wayUp 155 = .ok (.iload 6, 2) := by decide +kernel
theorem dX5_wayUp_157 : decode cX5_wayUp 157 = .ok (.istore 6, 2) := by decide +kernel
theorem dX5_wayUp_159 : decode cX5_wayUp 159 = .ok (.iinc 7 1, 3) := by decide +kernel
theorem dX5_wayUp_162 : decode cX5_wayUp 162 = .ok (.goto (-89), 3) := by decide +kernel
theorem dX5_wayUp_165 : decode cX5_wayUp 165 = .ok (.aload_n 0, 1) := by decide +kernel
theorem dX5_wayUp_166 : decode cX5_wayUp 166 = .ok (.getfield 29, 3) := by decide +kernel
theorem dX5_wayUp_169 : decode cX5_wayUp 169 = .ok (.iload 5, 2) := by decide +kernel
theorem dX5_wayUp_171 : decode cX5_wayUp 171 = .ok (.iload 6, 2) := by decide +kernel
theorem dX5_wayUp_173 : decode cX5_wayUp 173 = .ok (.iastore, 1) := by decide +kernel
theorem dX5_wayUp_174 : decode cX5_wayUp 174 = .ok (.iinc 5 1, 3) := by decide +kernel
theorem dX5_wayUp_177 : decode cX5_wayUp 177 = .ok (.goto (-118), 3) := by decide +kernel
theorem dX5_wayUp_180 : decode cX5_wayUp 180 = .ok (.iconst 0, 1) := by decide +kernel
theorem dX5_wayUp_181 : decode cX5_wayUp 181 = .ok (.istore 5, 2) := by decide +kernel
theorem dX5_wayUp_183 : decode cX5_wayUp 183 = .ok (.iload 5, 2) := by decide +kernel
theorem dX5_wayUp_185 : decode cX5_wayUp 185 = .ok (.bipush 6, 2) := by decide +kernel
theorem dX5_wayUp_187 : decode cX5_wayUp 187 = .ok (.if_icmp .ge 23, 3) := by decide +kernel
theorem dX5_wayUp_190 : decode cX5_wayUp 190 = .ok (.aload_n 0, 1) := by decide +kernel
theorem dX5_wayUp_191 : decode cX5_wayUp 191 = .ok (.getfield 26, 3) := by decide +kernel
theorem dX5_wayUp_194 : decode cX5_wayUp 194 = .ok (.iload 5, 2) := by decide +kernel
theorem dX5_wayUp_196 : decode cX5_wayUp 196 = .ok (.aload_n 0, 1) := by decide +kernel
theorem dX5_wayUp_197 : decode cX5_wayUp 197 = .ok (.getfield 29, 3) := by decide +kernel
theorem dX5_wayUp_200 : decode cX5_wayUp 200 = .ok (.iload 5, 2) := by decide +kernel
theorem dX5_wayUp_202 : decode cX5_wayUp 202 = .ok (.iaload, 1) := by decide +kernel
theorem dX5_wayUp_203 : decode cX5_wayUp 203 = .ok (.iastore, 1) := by decide +kernel
theorem dX5_wayUp_204 : decode cX5_wayUp 204 = .ok (.iinc 5 1, 3) := by decide +kernel
theorem dX5_wayUp_207 : decode cX5_wayUp 207 = .ok (.goto (-24), 3) := by decide +kernel
theorem dX5_wayUp_210 : decode cX5_wayUp 210 = .ok (.iinc 4 (-1), 3) := by decide +kernel
theorem dX5_wayUp_213 : decode cX5_wayUp 213 = .ok (.goto (-163), 3) := by decide +kernel
theorem dX5_wayUp_216 : decode cX5_wayUp 216 = .ok (.aload_n 0, 1) := by decide +kernel
theorem dX5_wayUp_217 : decode cX5_wayUp 217 = .ok (.getfield 26, 3) := by decide +kernel
theorem dX5_wayUp_220 : decode cX5_wayUp 220 = .ok (.iload_n 1, 1) := by decide +kernel
theorem dX5_wayUp_221 : decode cX5_wayUp 221 = .ok (.iaload, 1) := by decide +kernel
theorem dX5_wayUp_222 : decode cX5_wayUp 222 = .ok (.ireturn, 1) := by decide +kernel
theorem dX5_leader_0 : decode cX5_leader 0 = .ok (.bipush (-5), 2) := by decide +kernel
theorem dX5_leader_2 : decode cX5_leader 2 = .ok (.istore_n 1, 1) := by decide +kernel
theorem dX5_leader_3 : decode cX5_leader 3 = .ok (.iconst 0, 1) := by decide +kernel
theorem dX5_leader_4 : decode cX5_leader 4 = .ok (.istore_n 2, 1) := by decide +kernel
theorem dX5_leader_5 : decode cX5_leader 5 = .ok (.iload_n 2, 1) := by decide +kernel
theorem dX5_leader_6 : decode cX5_leader 6 = .ok (.aload_n 0, 1) := by decide +kernel
theorem dX5_leader_7 : decode cX5_leader 7 = .ok (.getfield 7, 3) := by decide +kernel
theorem dX5_leader_10 : decode cX5_leader 10 = .ok (.sipush 535, 3) := by decide +kernel
theorem dX5_leader_13 : decode cX5_leader 13 = .ok (.iaload, 1) := by decide +kernel
theorem dX5_leader_14 : decode cX5_leader 14 = .ok (.if_icmp .ge 101, 3) := by decide +kernel
theorem dX5_leader_17 : decode cX5_leader 17 = .ok (.iload_n 1, 1) := by decide +kernel
theorem dX5_leader_18 : decode cX5_leader 18 = .ok (.bipush (-5), 2) := by decide +kernel
theorem dX5_leader_20 : decode cX5_leader 20 = .ok (.if_icmp .ne 7, 3) := by decide +kernel
theorem dX5_leader_23 : decode cX5_leader 23 = .ok (.iconst 1, 1) := by decide +kernel
theorem dX5_leader_24 : decode cX5_leader 24 = .ok (.goto 24, 3) := by decide +kernel
theorem dX5_leader_27 : decode cX5_leader 27 = .ok (.aload_n 0, 1) := by decide +kernel
theorem dX5_leader_28 : decode cX5_leader 28 = .ok (.getfield 7, 3) := by decide +kernel
theorem dX5_leader_31 : decode cX5_leader 31 = .ok (.iload_n 2, 1) := by decide +kernel
theorem dX5_leader_32 : decode cX5_leader 32 = .ok (.iconst 1, 1) := by decide +kernel
theorem dX5_leader_33 : decode cX5_leader 33 = .ok (.invokestatic 40, 3) := by decide +kernel
theorem dX5_leader_36 : decode cX5_leader 36 = .ok (.iaload, 1) := by decide +kernel
theorem dX5_leader_37 : decode cX5_leader 37 = .ok (.aload_n 0, 1) := by decide +kernel
theorem dX5_leader_38 : decode cX5_leader 38 = .ok (.getfield 7, 3) := by decide +kernel
theorem dX5_leader_41 : decode cX5_leader 41 = .ok (.iload_n 1, 1) := by decide +kernel
theorem dX5_leader_42 : decode cX5_leader 42 = .ok (.iconst 1, 1) := by decide +kernel
theorem dX5_leader_43 : decode cX5_leader 43 = .ok (.invokestatic 40, 3) := by decide +kernel
theorem dX5_leader_46 : decode cX5_leader 46 = .ok (.iaload, 1) := by decide +kernel
theorem dX5_leader_47 : decode cX5_leader 47 = .ok (.isub, 1) := by decide +kernel
theorem dX5_leader_48 : decode cX5_leader 48 = .ok (.istore_n 3, 1) := by decide +kernel
theorem dX5_leader_49 : decode cX5_leader 49 = .ok (.iload_n 1, 1) := by decide +kernel
theorem dX5_leader_50 : decode cX5_leader 50 = .ok (.bipush (-5), 2) := by decide +kernel
theorem dX5_leader_52 : decode cX5_leader 52 = .ok (.if_icmp .ne 7, 3) := by decide +kernel
theorem dX5_leader_55 : decode cX5_leader 55 = .ok (.iconst 1, 1) := by decide +kernel
theorem dX5_leader_56 : decode cX5_leader 56 = .ok (.goto 24, 3) := by decide +kernel
theorem dX5_leader_59 : decode cX5_leader 59 = .ok (.aload_n 0, 1) := by decide +kernel
theorem dX5_leader_60 : decode cX5_leader 60 = .ok (.getfield 7, 3) := by decide +kernel
theorem dX5_leader_63 : decode cX5_leader 63 = .ok (.iload_n 2, 1) := by decide +kernel
theorem dX5_leader_64 : decode cX5_leader 64 = .ok (.iconst 2, 1) := by decide +kernel
theorem dX5_leader_65 : decode cX5_leader 65 = .ok (.invokestatic 40, 3) := by decide +kernel
theorem dX5_leader_68 : decode cX5_leader 68 = .ok (.iaload, 1) := by decide +kernel
theorem dX5_leader_69 : decode cX5_leader 69 = .ok (.aload_n 0, 1) := by decide +kernel
theorem dX5_leader_70 : decode cX5_leader 70 = .ok (.getfield 7, 3) := by decide +kernel
theorem dX5_leader_73 : decode cX5_leader 73 = .ok (.iload_n 1, 1) := by decide +kernel
theorem dX5_leader_74 : decode cX5_leader 74 = .ok (.iconst 2, 1) := by decide +kernel
theorem dX5_leader_75 : decode cX5_leader 75 = .ok (.invokestatic 40, 3) := by decide +kernel
theorem dX5_leader_78 : decode cX5_leader 78 = .ok (.iaload, 1) := by decide +kernel
theorem dX5_leader_79 : decode cX5_leader 79 = .ok (.isub, 1) := by decide +kernel
theorem dX5_leader_80 : decode cX5_leader 80 = .ok (.istore 4, 2) := by decide +kernel
theorem dX5_leader_82 : decode cX5_leader 82 = .ok (.aload_n 0, 1) := by decide +kernel
theorem dX5_leader_83 : decode cX5_leader 83 = .ok (.iload_n 2, 1) := by decide +kernel
theorem dX5_leader_84 : decode cX5_leader 84 = .ok (.invokevirtual 48, 3) := by decide +kernel
theorem dX5_leader_87 : decode cX5_leader 87 = .ok (.ifCond .eq 20, 3) := by decide +kernel
theorem dX5_leader_90 : decode cX5_leader 90 = .ok (.iload_n 3, 1) := by decide +kernel
theorem dX5_leader_91 : decode cX5_leader 91 = .ok (.ifCond .gt 12, 3) := by decide +kernel
theorem dX5_leader_94 : decode cX5_leader 94 = .ok (.iload_n 3, 1) := by decide +kernel
theorem dX5_leader_95 : decode cX5_leader 95 = .ok (.ifCond .ne 12, 3) := by decide +kernel
theorem dX5_leader_98 : decode cX5_leader 98 = .ok (.iload 4, 2) := by decide +kernel
theorem dX5_leader_100 : decode cX5_leader 100 = .ok (.ifCond .le 7, 3) := by decide +kernel
theorem dX5_leader_103 : decode cX5_leader 103 = .ok (.iload_n 2, 1) := by decide +kernel
theorem dX5_leader_104 : decode cX5_leader 104 = .ok (.goto 4, 3) := by decide +kernel
theorem dX5_leader_107 : decode cX5_leader 107 = .ok (.iload_n 1, 1) := by decide +kernel
theorem dX5_leader_108 : decode cX5_leader 108 = .ok (.istore_n 1, 1) := by decide +kernel
theorem dX5_leader_109 : decode cX5_leader 109 = .ok (.iinc 2 1, 3) := by decide +kernel
theorem dX5_leader_112 : decode cX5_leader 112 = .ok (.goto (-107), 3) := by decide +kernel
theorem dX5_leader_115 : decode cX5_leader 115 = .ok (.iload_n 1, 1) := by decide +kernel
theorem dX5_leader_116 : decode cX5_leader 116 = .ok (.ireturn, 1) := by decide +kernel
theorem dX5_owes_0 : decode cX5_owes 0 = .ok (.aload_n 0, 1) := by decide +kernel
theorem dX5_owes_1 : decode cX5_owes 1 = .ok (.iload_n 1, 1) := by decide +kernel
theorem dX5_owes_2 : decode cX5_owes 2 = .ok (.invokevirtual 63, 3) := by decide +kernel
theorem dX5_owes_5 : decode cX5_owes 5 = .ok (.ifCond .eq 11, 3) := by decide +kernel
theorem dX5_owes_8 : decode cX5_owes 8 = .ok (.aload_n 0, 1) := by decide +kernel
theorem dX5_owes_9 : decode cX5_owes 9 = .ok (.iload_n 2, 1) := by decide +kernel
theorem dX5_owes_10 : decode cX5_owes 10 = .ok (.invokevirtual 63, 3) := by decide +kernel
theorem dX5_owes_13 : decode cX5_owes 13 = .ok (.ifCond .ne 7, 3) := by decide +kernel
theorem dX5_owes_16 : decode cX5_owes 16 = .ok (.iconst (-1), 1) := by decide +kernel
theorem dX5_owes_17 : decode cX5_owes 17 = .ok (.goto 28, 3) := by decide +kernel
theorem dX5_owes_20 : decode cX5_owes 20 = .ok (.iload_n 1, 1) := by decide +kernel
theorem dX5_owes_21 : decode cX5_owes 21 = .ok (.iload_n 2, 1) := by decide +kernel
theorem dX5_owes_22 : decode cX5_owes 22 = .ok (.if_icmp .ne 8, 3) := by decide +kernel
theorem dX5_owes_25 : decode cX5_owes 25 = .ok (.bipush (-2), 2) := by decide +kernel
theorem dX5_owes_27 : decode cX5_owes 27 = .ok (.goto 18, 3) := by decide +kernel
theorem dX5_owes_30 : decode cX5_owes 30 = .ok (.aload_n 0, 1) := by decide +kernel
theorem dX5_owes_31 : decode cX5_owes 31 = .ok (.getfield 7, 3) := by decide +kernel
theorem dX5_owes_34 : decode cX5_owes 34 = .ok (.sipush 450, 3) := by decide +kernel
theorem dX5_owes_37 : decode cX5_owes 37 = .ok (.bipush 9, 2) := by decide +kernel
theorem dX5_owes_39 : decode cX5_owes 39 = .ok (.iload_n 1, 1) := by decide +kernel
theorem dX5_owes_40 : decode cX5_owes 40 = .ok (.imul, 1) := by decide +kernel
theorem dX5_owes_41 : decode cX5_owes 41 = .ok (.iadd, 1) := by decide +kernel
theorem dX5_owes_42 : decode cX5_owes 42 = .ok (.iload_n 2, 1) := by decide +kernel
theorem dX5_owes_43 : decode cX5_owes 43 = .ok (.iadd, 1) := by decide +kernel
theorem dX5_owes_44 : decode cX5_owes 44 = .ok (.iaload, 1) := by decide +kernel
theorem dX5_owes_45 : decode cX5_owes 45 = .ok (.ireturn, 1) := by decide +kernel
theorem dX5_bestLane_0 : decode cX5_bestLane 0 = .ok (.iload_n 1, 1) := by decide +kernel
theorem dX5_bestLane_1 : decode cX5_bestLane 1 = .ok (.iconst 0, 1) := by decide +kernel
theorem dX5_bestLane_2 : decode cX5_bestLane 2 = .ok (.bipush 99, 2) := by decide +kernel
theorem dX5_bestLane_4 : decode cX5_bestLane 4 = .ok (.invokestatic 32, 3) := by decide +kernel
theorem dX5_bestLane_7 : decode cX5_bestLane 7 = .ok (.ifCond .eq 12, 3) := by decide +kernel
theorem dX5_bestLane_10 : decode cX5_bestLane 10 = .ok (.iload_n 2, 1) := by decide +kernel
theorem dX5_bestLane_11 : decode cX5_bestLane 11 = .ok (.iconst 0, 1) := by decide +kernel
theorem dX5_bestLane_12 : decode cX5_bestLane 12 = .ok (.iconst 1, 1) := by decide +kernel
theorem dX5_bestLane_13 : decode cX5_bestLane 13 = .ok (.invokestatic 32, 3) := by decide +kernel
theorem dX5_bestLane_16 : decode cX5_bestLane 16 = .ok (.ifCond .ne 6, 3) := by decide +kernel
theorem dX5_bestLane_19 : decode cX5_bestLane 19 = .ok (.bipush (-2), 2) := by decide +kernel
theorem dX5_bestLane_21 : decode cX5_bestLane 21 = .ok (.ireturn, 1) := by decide +kernel
theorem dX5_bestLane_22 : decode cX5_bestLane 22 = .ok (.bipush (-5), 2) := by decide +kernel
theorem dX5_bestLane_24 : decode cX5_bestLane 24 = .ok (.istore_n 3, 1) := by decide +kernel
theorem dX5_bestLane_25 : decode cX5_bestLane 25 = .ok (.bipush (-5), 2) := by decide +kernel
theorem dX5_bestLane_27 : decode cX5_bestLane 27 = .ok (.istore 4, 2) := by decide +kernel
theorem dX5_bestLane_29 : decode cX5_bestLane 29 = .ok (.iconst 0, 1) := by decide +kernel
theorem dX5_bestLane_30 : decode cX5_bestLane 30 = .ok (.istore 5, 2) := by decide +kernel
theorem dX5_bestLane_32 : decode cX5_bestLane 32 = .ok (.iload 5, 2) := by decide +kernel
theorem dX5_bestLane_34 : decode cX5_bestLane 34 = .ok (.bipush 6, 2) := by decide +kernel
theorem dX5_bestLane_36 : decode cX5_bestLane 36 = .ok (.if_icmp .ge 69, 3) := by decide +kernel
theorem dX5_bestLane_39 : decode cX5_bestLane 39 = .ok (.aload_n 0, 1) := by decide +kernel
theorem dX5_bestLane_40 : decode cX5_bestLane 40 = .ok (.iload 5, 2) := by decide +kernel
theorem dX5_bestLane_42 : decode cX5_bestLane 42 = .ok (.iconst 0, 1) := by decide +kernel
theorem dX5_bestLane_43 : decode cX5_bestLane 43 = .ok (.invokevirtual 51, 3) := by decide +kernel
theorem dX5_bestLane_46 : decode cX5_bestLane 46 = .ok (.bipush (-5), 2) := by decide +kernel
theorem dX5_bestLane_48 : decode cX5_bestLane 48 = .ok (.if_icmp .ne 51, 3) := by decide +kernel
theorem dX5_bestLane_51 : decode cX5_bestLane 51 = .ok (.aload_n 0, 1) := by decide +kernel
theorem dX5_bestLane_52 : decode cX5_bestLane 52 = .ok (.invokevirtual 152, 3) := by decide +kernel
theorem dX5_bestLane_55 : decode cX5_bestLane 55 = .ok (.aload_n 0, 1) := by decide +kernel
theorem dX5_bestLane_56 : decode cX5_bestLane 56 = .ok (.aload_n 0, 1) := by decide +kernel
theorem dX5_bestLane_57 : decode cX5_bestLane 57 = .ok (.iload 5, 2) := by decide +kernel
theorem dX5_bestLane_59 : decode cX5_bestLane 59 = .ok (.iload_n 1, 1) := by decide +kernel
theorem dX5_bestLane_60 : decode cX5_bestLane 60 = .ok (.invokevirtual 60, 3) := by decide +kernel
theorem dX5_bestLane_63 : decode cX5_bestLane 63 = .ok (.invokevirtual 173, 3) := by decide +kernel
theorem dX5_bestLane_66 : decode cX5_bestLane 66 = .ok (.istore 6, 2) := by decide +kernel
theorem dX5_bestLane_68 : decode cX5_bestLane 68 = .ok (.aload_n 0, 1) := by decide +kernel
theorem dX5_bestLane_69 : decode cX5_bestLane 69 = .ok (.invokevirtual 158, 3) := by decide +kernel
theorem dX5_bestLane_72 : decode cX5_bestLane 72 = .ok (.iload 6, 2) := by decide +kernel
theorem dX5_bestLane_74 : decode cX5_bestLane 74 = .ok (.bipush (-5), 2) := by decide +kernel
theorem dX5_bestLane_76 : decode cX5_bestLane 76 = .ok (.if_icmp .eq 23, 3) := by decide +kernel
theorem dX5_bestLane_79 : decode cX5_bestLane 79 = .ok (.iload_n 3, 1) := by decide +kernel
theorem dX5_bestLane_80 : decode cX5_bestLane 80 = .ok (.bipush (-5), 2) := by decide +kernel
theorem dX5_bestLane_82 : decode cX5_bestLane 82 = .ok (.if_icmp .eq 10, 3) := by decide +kernel
theorem dX5_bestLane_85 : decode cX5_bestLane 85 = .ok (.iload 6, 2) := by decide +kernel
theorem dX5_bestLane_87 : decode cX5_bestLane 87 = .ok (.iload 4, 2) := by decide +kernel
theorem dX5_bestLane_89 : decode cX5_bestLane 89 = .ok (.if_icmp .ge 10, 3) := by decide +kernel
theorem dX5_bestLane_92 : decode cX5_bestLane 92 = .ok (.iload 5, 2) := by decide +kernel
theorem dX5_bestLane_94 : decode cX5_bestLane 94 = .ok (.istore_n 3, 1) := by decide +kernel
theorem dX5_bestLane_95 : decode cX5_bestLane 95 = .ok (.iload 6, 2) := by decide +kernel
theorem dX5_bestLane_97 : decode cX5_bestLane 97 = .ok (.istore 4, 2) := by decide +kernel
theorem dX5_bestLane_99 : decode cX5_bestLane 99 = .ok (.iinc 5 1, 3) := by decide +kernel
theorem dX5_bestLane_102 : decode cX5_bestLane 102 = .ok (.goto (-70), 3) := by decide +kernel
theorem dX5_bestLane_105 : decode cX5_bestLane 105 = .ok (.iload_n 2, 1) := by decide +kernel
theorem dX5_bestLane_106 : decode cX5_bestLane 106 = .ok (.ifCond .ne 7, 3) := by decide +kernel
theorem dX5_bestLane_109 : decode cX5_bestLane 109 = .ok (.iload_n 3, 1) := by decide +kernel
theorem dX5_bestLane_110 : decode cX5_bestLane 110 = .ok (.goto 5, 3) := by decide +kernel
theorem dX5_bestLane_113 : decode cX5_bestLane 113 = .ok (.iload 4, 2) := by decide +kernel
theorem dX5_bestLane_115 : decode cX5_bestLane 115 = .ok (.ireturn, 1) := by decide +kernel
theorem dX5_inState_0 : decode cX5_inState 0 = .ok (.iconst 0, 1) := by decide +kernel
theorem dX5_inState_1 : decode cX5_inState 1 = .ok (.istore_n 2, 1) := by decide +kernel
theorem dX5_inState_2 : decode cX5_inState 2 = .ok (.iconst 0, 1) := by decide +kernel
theorem dX5_inState_3 : decode cX5_inState 3 = .ok (.istore_n 3, 1) := by decide +kernel
theorem dX5_inState_4 : decode cX5_inState 4 = .ok (.iload_n 3, 1) := by decide +kernel
theorem dX5_inState_5 : decode cX5_inState 5 = .ok (.aload_n 0, 1) := by decide +kernel
theorem dX5_inState_6 : decode cX5_inState 6 = .ok (.getfield 7, 3) := by decide +kernel
theorem dX5_inState_9 : decode cX5_inState 9 = .ok (.sipush 535, 3) := by decide +kernel
theorem dX5_inState_12 : decode cX5_inState 12 = .ok (.iaload, 1) := by decide +kernel
theorem dX5_inState_13 : decode cX5_inState 13 = .ok (.if_icmp .ge 31, 3) := by decide +kernel
theorem dX5_inState_16 : decode cX5_inState 16 = .ok (.iload_n 2, 1) := by decide +kernel
theorem dX5_inState_17 : decode cX5_inState 17 = .ok (.aload_n 0, 1) := by decide +kernel
theorem dX5_inState_18 : decode cX5_inState 18 = .ok (.getfield 7, 3) := by decide +kernel
theorem dX5_inState_21 : decode cX5_inState 21 = .ok (.iload_n 3, 1) := by decide +kernel
theorem dX5_inState_22 : decode cX5_inState 22 = .ok (.iconst 3, 1) := by decide +kernel
theorem dX5_inState_23 : decode cX5_inState 23 = .ok (.invokestatic 40, 3) := by decide +kernel
theorem dX5_inState_26 : decode cX5_inState 26 = .ok (.iaload, 1) := by decide +kernel
theorem dX5_inState_27 : decode cX5_inState 27 = .ok (.iload_n 1, 1) := by decide +kernel
theorem dX5_inState_28 : decode cX5_inState 28 = .ok (.if_icmp .ne 7, 3) := by decide +kernel
theorem dX5_inState_31 : decode cX5_inState 31 = .ok (.iconst 1, 1) := by decide +kernel
theorem dX5_inState_32 : decode cX5_inState 32 = .ok (.goto 4, 3) := by decide +kernel
theorem dX5_inState_35 : decode cX5_inState 35 = .ok (.iconst 0, 1) := by decide +kernel
theorem dX5_inState_36 : decode cX5_inState 36 = .ok (.iadd, 1) := by decide +kernel
theorem dX5_inState_37 : decode cX5_inState 37 = .ok (.istore_n 2, 1) := by decide +kernel
theorem dX5_inState_38 : decode cX5_inState 38 = .ok (.iinc 3 1, 3) := by decide +kernel
theorem dX5_inState_41 : decode cX5_inState 41 = .ok (.goto (-37), 3) := by decide +kernel
theorem dX5_inState_44 : decode cX5_inState 44 = .ok (.iload_n 2, 1) := by decide +kernel
theorem dX5_inState_45 : decode cX5_inState 45 = .ok (.ireturn, 1) := by decide +kernel
theorem dX5_ofAll_0 : decode cX5_ofAll 0 = .ok (.iconst 0, 1) := by decide +kernel
theorem dX5_ofAll_1 : decode cX5_ofAll 1 = .ok (.istore_n 2, 1) := by decide +kernel
theorem dX5_ofAll_2 : decode cX5_ofAll 2 = .ok (.iconst 0, 1) := by decide +kernel
theorem dX5_ofAll_3 : decode cX5_ofAll 3 = .ok (.istore_n 3, 1) := by decide +kernel
theorem dX5_ofAll_4 : decode cX5_ofAll 4 = .ok (.iload_n 3, 1) := by decide +kernel
theorem dX5_ofAll_5 : decode cX5_ofAll 5 = .ok (.aload_n 0, 1) := by decide +kernel
theorem dX5_ofAll_6 : decode cX5_ofAll 6 = .ok (.getfield 7, 3) := by decide +kernel
theorem dX5_ofAll_9 : decode cX5_ofAll 9 = .ok (.sipush 535, 3) := by decide +kernel
theorem dX5_ofAll_12 : decode cX5_ofAll 12 = .ok (.iaload, 1) := by decide +kernel
theorem dX5_ofAll_13 : decode cX5_ofAll 13 = .ok (.if_icmp .ge 22, 3) := by decide +kernel
theorem dX5_ofAll_16 : decode cX5_ofAll 16 = .ok (.iload_n 2, 1) := by decide +kernel
theorem dX5_ofAll_17 : decode cX5_ofAll 17 = .ok (.aload_n 0, 1) := by decide +kernel
theorem dX5_ofAll_18 : decode cX5_ofAll 18 = .ok (.getfield 7, 3) := by decide +kernel
theorem dX5_ofAll_21 : decode cX5_ofAll 21 = .ok (.iload_n 3, 1) := by decide +kernel
theorem dX5_ofAll_22 : decode cX5_ofAll 22 = .ok (.iload_n 1, 1) := by decide +kernel
theorem dX5_ofAll_23 : decode cX5_ofAll 23 = .ok (.invokestatic 40, 3) := by decide +kernel
theorem dX5_ofAll_26 : decode cX5_ofAll 26 = .ok (.iaload, 1) := by decide +kernel
theorem dX5_ofAll_27 : decode cX5_ofAll 27 = .ok (.iadd, 1) := by decide +kernel
theorem dX5_ofAll_28 : decode cX5_ofAll 28 = .ok (.istore_n 2, 1) := by decide +kernel
theorem dX5_ofAll_29 : decode cX5_ofAll 29 = .ok (.iinc 3 1, 3) := by decide +kernel
theorem dX5_ofAll_32 : decode cX5_ofAll 32 = .ok (.goto (-28), 3) := by decide +kernel
theorem dX5_ofAll_35 : decode cX5_ofAll 35 = .ok (.iload_n 2, 1) := by decide +kernel
theorem dX5_ofAll_36 : decode cX5_ofAll 36 = .ok (.ireturn, 1) := by decide +kernel
theorem dX5_trails_0 : decode cX5_trails 0 = .ok (.iconst 0, 1) := by decide +kernel
theorem dX5_trails_1 : decode cX5_trails 1 = .ok (.istore_n 1, 1) := by decide +kernel
theorem dX5_trails_2 : decode cX5_trails 2 = .ok (.iconst 0, 1) := by decide +kernel
theorem dX5_trails_3 : decode cX5_trails 3 = .ok (.istore_n 2, 1) := by decide +kernel
theorem dX5_trails_4 : decode cX5_trails 4 = .ok (.iload_n 2, 1) := by decide +kernel
theorem dX5_trails_5 : decode cX5_trails 5 = .ok (.bipush 120, 2) := by decide +kernel
theorem dX5_trails_7 : decode cX5_trails 7 = .ok (.if_icmp .ge 29, 3) := by decide +kernel
theorem dX5_trails_10 : decode cX5_trails 10 = .ok (.iload_n 1, 1) := by decide +kernel
theorem dX5_trails_11 : decode cX5_trails 11 = .ok (.aload_n 0, 1) := by decide +kernel
theorem dX5_trails_12 : decode cX5_trails 12 = .ok (.getfield 7, 3) := by decide +kernel
theorem dX5_trails_15 : decode cX5_trails 15 = .ok (.bipush 120, 2) := by decide +kernel
theorem dX5_trails_17 : decode cX5_trails 17 = .ok (.iload_n 2, 1) := by decide +kernel
theorem dX5_trails_18 : decode cX5_trails 18 = .ok (.iadd, 1) := by decide +kernel
theorem dX5_trails_19 : decode cX5_trails 19 = .ok (.iaload, 1) := by decide +kernel
theorem dX5_trails_20 : decode cX5_trails 20 = .ok (.ifCond .le 7, 3) := by decide +kernel
theorem dX5_trails_23 : decode cX5_trails 23 = .ok (.iconst 1, 1) := by decide +kernel
theorem dX5_trails_24 : decode cX5_trails 24 = .ok (.goto 4, 3) := by decide +kernel
theorem dX5_trails_27 : decode cX5_trails 27 = .ok (.iconst 0, 1) := by decide +kernel
theorem dX5_trails_28 : decode cX5_trails 28 = .ok (.iadd, 1) := by decide +kernel
theorem dX5_trails_29 : decode cX5_trails 29 = .ok (.istore_n 1, 1) := by decide +kernel
theorem dX5_trails_30 : decode cX5_trails 30 = .ok (.iinc 2 1, 3) := by decide +kernel
theorem dX5_trails_33 : decode cX5_trails 33 = .ok (.goto (-29), 3) := by decide +kernel
theorem dX5_trails_36 : decode cX5_trails 36 = .ok (.iload_n 1, 1) := by decide +kernel
theorem dX5_trails_37 : decode cX5_trails 37 = .ok (.ireturn, 1) := by decide +kernel
theorem dX5_frost_0 : decode cX5_frost 0 = .ok (.iconst 0, 1) := by decide +kernel
theorem dX5_frost_1 : decode cX5_frost 1 = .ok (.istore_n 1, 1) := by decide +kernel
theorem dX5_frost_2 : decode cX5_frost 2 = .ok (.iconst 0, 1) := by decide +kernel
theorem dX5_frost_3 : decode cX5_frost 3 = .ok (.istore_n 2, 1) := by decide +kernel
theorem dX5_frost_4 : decode cX5_frost 4 = .ok (.iload_n 2, 1) := by decide +kernel
theorem dX5_frost_5 : decode cX5_frost 5 = .ok (.bipush 120, 2) := by decide +kernel
theorem dX5_frost_7 : decode cX5_frost 7 = .ok (.if_icmp .ge 20, 3) := by decide +kernel
theorem dX5_frost_10 : decode cX5_frost 10 = .ok (.iload_n 1, 1) := by decide +kernel
theorem dX5_frost_11 : decode cX5_frost 11 = .ok (.aload_n 0, 1) := by decide +kernel
theorem dX5_frost_12 : decode cX5_frost 12 = .ok (.getfield 7, 3) := by decide +kernel
theorem dX5_frost_15 : decode cX5_frost 15 = .ok (.iconst 0, 1) := by decide +kernel
theorem dX5_frost_16 : decode cX5_frost 16 = .ok (.iload_n 2, 1) := by decide +kernel
theorem dX5_frost_17 : decode cX5_frost 17 = .ok (.iadd, 1) := by decide +kernel
theorem dX5_frost_18 : decode cX5_frost 18 = .ok (.iaload, 1) := by decide +kernel
theorem dX5_frost_19 : decode cX5_frost 19 = .ok (.iadd, 1) := by decide +kernel
theorem dX5_frost_20 : decode cX5_frost 20 = .ok (.istore_n 1, 1) := by decide +kernel
theorem dX5_frost_21 : decode cX5_frost 21 = .ok (.iinc 2 1, 3) := by decide +kernel
theorem dX5_frost_24 : decode cX5_frost 24 = .ok (.goto (-20), 3) := by decide +kernel
theorem dX5_frost_27 : decode cX5_frost 27 = .ok (.iload_n 1, 1) := by decide +kernel
theorem dX5_frost_28 : decode cX5_frost 28 = .ok (.ireturn, 1) := by decide +kernel
theorem dX5_count_0 : decode cX5_count 0 = .ok (.iload_n 1, 1) := by decide +kernel
theorem dX5_count_1 : decode cX5_count 1 = .ok (.tableswitch 155 0 14 #[75, 84, 93, 93, 101, 106, 111, 117, 124, 131, 131, 131, 131, 145, 150], 75) := by decide +kernel
theorem dX5_count_76 : decode cX5_count 76 = .ok (.aload_n 0, 1) := by decide +kernel
theorem dX5_count_77 : decode cX5_count 77 = .ok (.getfield 7, 3) := by decide +kernel
theorem dX5_count_80 : decode cX5_count 80 = .ok (.sipush 536, 3) := by decide +kernel
theorem dX5_count_83 : decode cX5_count 83 = .ok (.iaload, 1) := by decide +kernel
theorem dX5_count_84 : decode cX5_count 84 = .ok (.ireturn, 1) := by decide +kernel
theorem dX5_count_85 : decode cX5_count 85 = .ok (.aload_n 0, 1) := by decide +kernel
theorem dX5_count_86 : decode cX5_count 86 = .ok (.getfield 7, 3) := by decide +kernel
theorem dX5_count_89 : decode cX5_count 89 = .ok (.sipush 535, 3) := by decide +kernel
theorem dX5_count_92 : decode cX5_count 92 = .ok (.iaload, 1) := by decide +kernel
theorem dX5_count_93 : decode cX5_count 93 = .ok (.ireturn, 1) := by decide +kernel
theorem dX5_count_94 : decode cX5_count 94 = .ok (.aload_n 0, 1) := by decide +kernel
theorem dX5_count_95 : decode cX5_count 95 = .ok (.iload_n 1, 1) := by decide +kernel
theorem dX5_count_96 : decode cX5_count 96 = .ok (.iconst 2, 1) := by decide +kernel
theorem dX5_count_97 : decode cX5_count 97 = .ok (.isub, 1) := by decide +kernel
theorem dX5_count_98 : decode cX5_count 98 = .ok (.invokevirtual 176, 3) := by decide +kernel
theorem dX5_count_101 : decode cX5_count 101 = .ok (.ireturn, 1) := by decide +kernel
theorem dX5_count_102 : decode cX5_count 102 = .ok (.aload_n 0, 1) := by decide +kernel
theorem dX5_count_103 : decode cX5_count 103 = .ok (.invokevirtual 179, 3) := by decide +kernel
theorem dX5_count_106 : decode cX5_count 106 = .ok (.ireturn, 1) := by decide +kernel
theorem dX5_count_107 : decode cX5_count 107 = .ok (.aload_n 0, 1) := by decide +kernel
theorem dX5_count_108 : decode cX5_count 108 = .ok (.invokevirtual 182, 3) := by decide +kernel
theorem dX5_count_111 : decode cX5_count 111 = .ok (.ireturn, 1) := by decide +kernel
theorem dX5_count_112 : decode cX5_count 112 = .ok (.aload_n 0, 1) := by decide +kernel
theorem dX5_count_113 : decode cX5_count 113 = .ok (.iconst 5, 1) := by decide +kernel
theorem dX5_count_114 : decode cX5_count 114 = .ok (.invokevirtual 185, 3) := by decide +kernel
theorem dX5_count_117 : decode cX5_count 117 = .ok (.ireturn, 1) := by decide +kernel
theorem dX5_count_118 : decode cX5_count 118 = .ok (.aload_n 0, 1) := by decide +kernel
theorem dX5_count_119 : decode cX5_count 119 = .ok (.bipush 6, 2) := by decide +kernel
theorem dX5_count_121 : decode cX5_count 121 = .ok (.invokevirtual 185, 3) := by decide +kernel
theorem dX5_count_124 : decode cX5_count 124 = .ok (.ireturn, 1) := by decide +kernel
theorem dX5_count_125 : decode cX5_count 125 = .ok (.aload_n 0, 1) := by decide +kernel
theorem dX5_count_126 : decode cX5_count 126 = .ok (.bipush 7, 2) := by decide +kernel
theorem dX5_count_128 : decode cX5_count 128 = .ok (.invokevirtual 185, 3) := by decide +kernel
theorem dX5_count_131 : decode cX5_count 131 = .ok (.ireturn, 1) := by decide +kernel
theorem dX5_count_132 : decode cX5_count 132 = .ok (.aload_n 0, 1) := by decide +kernel
theorem dX5_count_133 : decode cX5_count 133 = .ok (.getfield 7, 3) := by decide +kernel
theorem dX5_count_136 : decode cX5_count 136 = .ok (.sipush 531, 3) := by decide +kernel
theorem dX5_count_139 : decode cX5_count 139 = .ok (.iload_n 1, 1) := by decide +kernel
theorem dX5_count_140 : decode cX5_count 140 = .ok (.iadd, 1) := by decide +kernel
theorem dX5_count_141 : decode cX5_count 141 = .ok (.bipush 9, 2) := by decide +kernel
theorem dX5_count_143 : decode cX5_count 143 = .ok (.isub, 1) := by decide +kernel
theorem dX5_count_144 : decode cX5_count 144 = .ok (.iaload, 1) := by decide +kernel
theorem dX5_count_145 : decode cX5_count 145 = .ok (.ireturn, 1) := by decide +kernel
theorem dX5_count_146 : decode cX5_count 146 = .ok (.aload_n 0, 1) := by decide +kernel
theorem dX5_count_147 : decode cX5_count 147 = .ok (.getfield 44, 3) := by decide +kernel
theorem dX5_count_150 : decode cX5_count 150 = .ok (.ireturn, 1) := by decide +kernel
theorem dX5_count_151 : decode cX5_count 151 = .ok (.aload_n 0, 1) := by decide +kernel
theorem dX5_count_152 : decode cX5_count 152 = .ok (.getfield 113, 3) := by decide +kernel
theorem dX5_count_155 : decode cX5_count 155 = .ok (.ireturn, 1) := by decide +kernel
theorem dX5_count_156 : decode cX5_count 156 = .ok (.bipush (-2), 2) := by decide +kernel
theorem dX5_count_158 : decode cX5_count 158 = .ok (.ireturn, 1) := by decide +kernel
end
section
abbrev cfill : ByteArray := prog_11_method_103_code
def yfill : MethodName := ⟨"java/util/Arrays", "fill", "([II)V"⟩
theorem dfill_0 : decode cfill 0 = .ok (.iconst 0, 1) := by decide +kernel
theorem dfill_1 : decode cfill 1 = .ok (.istore_n 2, 1) := by decide +kernel
theorem dfill_2 : decode cfill 2 = .ok (.aload_n 0, 1) := by decide +kernel
theorem dfill_3 : decode cfill 3 = .ok (.arraylength, 1) := by decide +kernel
theorem dfill_4 : decode cfill 4 = .ok (.istore_n 3, 1) := by decide +kernel
theorem dfill_5 : decode cfill 5 = .ok (.iload_n 2, 1) := by decide +kernel
theorem dfill_6 : decode cfill 6 = .ok (.iload_n 3, 1) := by decide +kernel
theorem dfill_7 : decode cfill 7 = .ok (.if_icmp .ge 13, 3) := by decide +kernel
theorem dfill_10 : decode cfill 10 = .ok (.aload_n 0, 1) := by decide +kernel
theorem dfill_11 : decode cfill 11 = .ok (.iload_n 2, 1) := by decide +kernel
theorem dfill_12 : decode cfill 12 = .ok (.iload_n 1, 1) := by decide +kernel
theorem dfill_13 : decode cfill 13 = .ok (.iastore, 1) := by decide +kernel
theorem dfill_14 : decode cfill 14 = .ok (.iinc 2 1, 3) := by decide +kernel
theorem dfill_17 : decode cfill 17 = .ok (.goto (-12), 3) := by decide +kernel
theorem dfill_20 : decode cfill 20 = .ok (.return_, 1) := by decide +kernel
abbrev YX0_giveBack : zY := (RX0, cX0_giveBack, 4, (some (.int)), 3)
theorem mX0_giveBack : zMI yX0_giveBack YX0_giveBack 1 := ⟨⟨zin (i := 55) (by decide +kernel) rfl, zin (i := 443) (by decide +kernel) rfl, ⟨by decide +kernel, by decide +kernel, by decide +kernel⟩, by decide⟩, zin (i := 441) (by decide +kernel) rfl, zin (i := 442) (by decide +kernel) rfl⟩
abbrev YX0_remember : zY := (RX0, cX0_remember, 3, none, 3)
theorem mX0_remember : zMI yX0_remember YX0_remember 1 := ⟨⟨zin (i := 55) (by decide +kernel) rfl, zin (i := 278) (by decide +kernel) rfl, ⟨by decide +kernel, by decide +kernel, by decide +kernel⟩, by decide⟩, zin (i := 276) (by decide +kernel) rfl, zin (i := 277) (by decide +kernel) rfl⟩
abbrev YX0_stateAt : zY := (RX0, cX0_stateAt, 2, (some (.object "SnailTrails$Pane")), 0)
theorem mX0_stateAt : zMI yX0_stateAt YX0_stateAt 1 := ⟨⟨zin (i := 55) (by decide +kernel) rfl, zin (i := 282) (by decide +kernel) rfl, ⟨by decide +kernel, by decide +kernel, by decide +kernel⟩, by decide⟩, zin (i := 281) (by decide +kernel) rfl, zin (i := 1) (by decide +kernel) rfl⟩
abbrev YX1_addSnail : zY := (RX1, cX1_addSnail, 4, (some (.int)), 0)
theorem mX1_addSnail : zMI yX1_addSnail YX1_addSnail 2 := ⟨⟨zin (i := 53) (by decide +kernel) rfl, zin (i := 270) (by decide +kernel) rfl, ⟨by decide +kernel, by decide +kernel, by decide +kernel⟩, by decide⟩, zin (i := 268) (by decide +kernel) rfl, zin (i := 269) (by decide +kernel) rfl⟩
abbrev YX1_changeFrost : zY := (RX1, cX1_changeFrost, 6, (some (.int)), 1)
theorem mX1_changeFrost : zMI yX1_changeFrost YX1_changeFrost 3 := ⟨⟨zin (i := 53) (by decide +kernel) rfl, zin (i := 308) (by decide +kernel) rfl, ⟨by decide +kernel, by decide +kernel, by decide +kernel⟩, by decide⟩, zin (i := 306) (by decide +kernel) rfl, zin (i := 307) (by decide +kernel) rfl⟩
abbrev YX1_changeSetting : zY := (RX1, cX1_changeSetting, 4, (some (.int)), 2)
theorem mX1_changeSetting : zMI yX1_changeSetting YX1_changeSetting 2 := ⟨⟨zin (i := 53) (by decide +kernel) rfl, zin (i := 323) (by decide +kernel) rfl, ⟨by decide +kernel, by decide +kernel, by decide +kernel⟩, by decide⟩, zin (i := 321) (by decide +kernel) rfl, zin (i := 322) (by decide +kernel) rfl⟩
abbrev YX1_choice : zY := (RX1, cX1_choice, 6, (some (.int)), 2)
theorem mX1_choice : zMI yX1_choice YX1_choice 1 := ⟨⟨zin (i := 53) (by decide +kernel) rfl, zin (i := 352) (by decide +kernel) rfl, ⟨by decide +kernel, by decide +kernel, by decide +kernel⟩, by decide⟩, zin (i := 350) (by decide +kernel) rfl, zin (i := 351) (by decide +kernel) rfl⟩
abbrev YX1_clearTrail : zY := (RX1, cX1_clearTrail, 2, none, 0)
theorem mX1_clearTrail : zMI yX1_clearTrail YX1_clearTrail 1 := ⟨⟨zin (i := 53) (by decide +kernel) rfl, zin (i := 315) (by decide +kernel) rfl, ⟨by decide +kernel, by decide +kernel, by decide +kernel⟩, by decide⟩, zin (i := 314) (by decide +kernel) rfl, zin (i := 2) (by decide +kernel) rfl⟩
abbrev YX1_copyFrom : zY := (RX1, cX1_copyFrom, 3, none, 2)
theorem mX1_copyFrom : zMI yX1_copyFrom YX1_copyFrom 1 := ⟨⟨zin (i := 53) (by decide +kernel) rfl, zin (i := 249) (by decide +kernel) rfl, ⟨by decide +kernel, by decide +kernel, by decide +kernel⟩, by decide⟩, zin (i := 247) (by decide +kernel) rfl, zin (i := 248) (by decide +kernel) rfl⟩
abbrev YX1_creeps : zY := (RX1, cX1_creeps, 2, (some (.boolean)), 1)
theorem mX1_creeps : zMI yX1_creeps YX1_creeps 1 := ⟨⟨zin (i := 53) (by decide +kernel) rfl, zin (i := 300) (by decide +kernel) rfl, ⟨by decide +kernel, by decide +kernel, by decide +kernel⟩, by decide⟩, zin (i := 298) (by decide +kernel) rfl, zin (i := 299) (by decide +kernel) rfl⟩
abbrev YX1_dryTrails : zY := (RX1, cX1_dryTrails, 3, none, 1)
theorem mX1_dryTrails : zMI yX1_dryTrails YX1_dryTrails 1 := ⟨⟨zin (i := 53) (by decide +kernel) rfl, zin (i := 331) (by decide +kernel) rfl, ⟨by decide +kernel, by decide +kernel, by decide +kernel⟩, by decide⟩, zin (i := 330) (by decide +kernel) rfl, zin (i := 3) (by decide +kernel) rfl⟩
abbrev YX1_findLeader : zY := (RX1, cX1_findLeader, 3, (some (.int)), 2)
theorem mX1_findLeader : zMI yX1_findLeader YX1_findLeader 0 := ⟨⟨zin (i := 53) (by decide +kernel) rfl, zin (i := 537) (by decide +kernel) rfl, ⟨by decide +kernel, by decide +kernel, by decide +kernel⟩, by decide⟩, zin (i := 535) (by decide +kernel) rfl, zin (i := 536) (by decide +kernel) rfl⟩
abbrev YX1_growFrost : zY := (RX1, cX1_growFrost, 2, none, 0)
theorem mX1_growFrost : zMI yX1_growFrost YX1_growFrost 0 := ⟨⟨zin (i := 53) (by decide +kernel) rfl, zin (i := 383) (by decide +kernel) rfl, ⟨by decide +kernel, by decide +kernel, by decide +kernel⟩, by decide⟩, zin (i := 382) (by decide +kernel) rfl, zin (i := 9) (by decide +kernel) rfl⟩
abbrev YX1_hasEnded : zY := (RX1, cX1_hasEnded, 2, (some (.boolean)), 1)
theorem mX1_hasEnded : zMI yX1_hasEnded YX1_hasEnded 1 := ⟨⟨zin (i := 53) (by decide +kernel) rfl, zin (i := 494) (by decide +kernel) rfl, ⟨by decide +kernel, by decide +kernel, by decide +kernel⟩, by decide⟩, zin (i := 492) (by decide +kernel) rfl, zin (i := 493) (by decide +kernel) rfl⟩
abbrev YX1_howManyAre : zY := (RX1, cX1_howManyAre, 4, (some (.int)), 0)
theorem mX1_howManyAre : zMI yX1_howManyAre YX1_howManyAre 1 := ⟨⟨zin (i := 53) (by decide +kernel) rfl, zin (i := 344) (by decide +kernel) rfl, ⟨by decide +kernel, by decide +kernel, by decide +kernel⟩, by decide⟩, zin (i := 343) (by decide +kernel) rfl, zin (i := 4) (by decide +kernel) rfl⟩
abbrev YX1_howManyTrails : zY := (RX1, cX1_howManyTrails, 3, (some (.int)), 0)
theorem mX1_howManyTrails : zMI yX1_howManyTrails YX1_howManyTrails 0 := ⟨⟨zin (i := 53) (by decide +kernel) rfl, zin (i := 571) (by decide +kernel) rfl, ⟨by decide +kernel, by decide +kernel, by decide +kernel⟩, by decide⟩, zin (i := 570) (by decide +kernel) rfl, zin (i := 21) (by decide +kernel) rfl⟩
abbrev YX1_isAhead : zY := (RX1, cX1_isAhead, 3, (some (.boolean)), 0)
theorem mX1_isAhead : zMI yX1_isAhead YX1_isAhead 2 := ⟨⟨zin (i := 53) (by decide +kernel) rfl, zin (i := 541) (by decide +kernel) rfl, ⟨by decide +kernel, by decide +kernel, by decide +kernel⟩, by decide⟩, zin (i := 540) (by decide +kernel) rfl, zin (i := 19) (by decide +kernel) rfl⟩
abbrev YX1_knows : zY := (RX1, cX1_knows, 2, (some (.boolean)), 0)
theorem mX1_knows : zMI yX1_knows YX1_knows 1 := ⟨⟨zin (i := 53) (by decide +kernel) rfl, zin (i := 296) (by decide +kernel) rfl, ⟨by decide +kernel, by decide +kernel, by decide +kernel⟩, by decide⟩, zin (i := 294) (by decide +kernel) rfl, zin (i := 295) (by decide +kernel) rfl⟩
abbrev YX1_letPass : zY := (RX1, cX1_letPass, 4, (some (.int)), 4)
theorem mX1_letPass : zMI yX1_letPass YX1_letPass 1 := ⟨⟨zin (i := 53) (by decide +kernel) rfl, zin (i := 339) (by decide +kernel) rfl, ⟨by decide +kernel, by decide +kernel, by decide +kernel⟩, by decide⟩, zin (i := 337) (by decide +kernel) rfl, zin (i := 338) (by decide +kernel) rfl⟩
abbrev YX1_noteLender : zY := (RX1, cX1_noteLender, 3, none, 1)
theorem mX1_noteLender : zMI yX1_noteLender YX1_noteLender 2 := ⟨⟨zin (i := 53) (by decide +kernel) rfl, zin (i := 374) (by decide +kernel) rfl, ⟨by decide +kernel, by decide +kernel, by decide +kernel⟩, by decide⟩, zin (i := 373) (by decide +kernel) rfl, zin (i := 7) (by decide +kernel) rfl⟩
abbrev YX1_passTurn : zY := (RX1, cX1_passTurn, 3, none, 3)
theorem mX1_passTurn : zMI yX1_passTurn YX1_passTurn 0 := ⟨⟨zin (i := 53) (by decide +kernel) rfl, zin (i := 348) (by decide +kernel) rfl, ⟨by decide +kernel, by decide +kernel, by decide +kernel⟩, by decide⟩, zin (i := 347) (by decide +kernel) rfl, zin (i := 5) (by decide +kernel) rfl⟩
abbrev YX1_passUntilEnd : zY := (RX1, cX1_passUntilEnd, 4, (some (.int)), 4)
theorem mX1_passUntilEnd : zMI yX1_passUntilEnd YX1_passUntilEnd 2 := ⟨⟨zin (i := 53) (by decide +kernel) rfl, zin (i := 498) (by decide +kernel) rfl, ⟨by decide +kernel, by decide +kernel, by decide +kernel⟩, by decide⟩, zin (i := 496) (by decide +kernel) rfl, zin (i := 497) (by decide +kernel) rfl⟩
abbrev YX1_placeSnail : zY := (RX1, cX1_placeSnail, 3, (some (.int)), 1)
theorem mX1_placeSnail : zMI yX1_placeSnail YX1_placeSnail 2 := ⟨⟨zin (i := 53) (by decide +kernel) rfl, zin (i := 262) (by decide +kernel) rfl, ⟨by decide +kernel, by decide +kernel, by decide +kernel⟩, by decide⟩, zin (i := 260) (by decide +kernel) rfl, zin (i := 261) (by decide +kernel) rfl⟩
abbrev YX1_priceOf : zY := (RX1, cX1_priceOf, 2, (some (.int)), 0)
theorem mX1_priceOf : zMI yX1_priceOf YX1_priceOf 1 := ⟨⟨zin (i := 53) (by decide +kernel) rfl, zin (i := 366) (by decide +kernel) rfl, ⟨by decide +kernel, by decide +kernel, by decide +kernel⟩, by decide⟩, zin (i := 364) (by decide +kernel) rfl, zin (i := 365) (by decide +kernel) rfl⟩
abbrev YX1_removeSnail : zY := (RX1, cX1_removeSnail, 2, (some (.int)), 2)
theorem mX1_removeSnail : zMI yX1_removeSnail YX1_removeSnail 1 := ⟨⟨zin (i := 53) (by decide +kernel) rfl, zin (i := 292) (by decide +kernel) rfl, ⟨by decide +kernel, by decide +kernel, by decide +kernel⟩, by decide⟩, zin (i := 290) (by decide +kernel) rfl, zin (i := 291) (by decide +kernel) rfl⟩
abbrev YX1_rest : zY := (RX1, cX1_rest, 2, none, 2)
theorem mX1_rest : zMI yX1_rest YX1_rest 1 := ⟨⟨zin (i := 53) (by decide +kernel) rfl, zin (i := 378) (by decide +kernel) rfl, ⟨by decide +kernel, by decide +kernel, by decide +kernel⟩, by decide⟩, zin (i := 377) (by decide +kernel) rfl, zin (i := 8) (by decide +kernel) rfl⟩
abbrev YX1_snailOn : zY := (RX1, cX1_snailOn, 4, (some (.int)), 0)
theorem mX1_snailOn : zMI yX1_snailOn YX1_snailOn 2 := ⟨⟨zin (i := 53) (by decide +kernel) rfl, zin (i := 266) (by decide +kernel) rfl, ⟨by decide +kernel, by decide +kernel, by decide +kernel⟩, by decide⟩, zin (i := 264) (by decide +kernel) rfl, zin (i := 265) (by decide +kernel) rfl⟩
abbrev YX1_stepCost : zY := (RX1, cX1_stepCost, 7, (some (.int)), 1)
theorem mX1_stepCost : zMI yX1_stepCost YX1_stepCost 2 := ⟨⟨zin (i := 53) (by decide +kernel) rfl, zin (i := 358) (by decide +kernel) rfl, ⟨by decide +kernel, by decide +kernel, by decide +kernel⟩, by decide⟩, zin (i := 356) (by decide +kernel) rfl, zin (i := 357) (by decide +kernel) rfl⟩
abbrev YX1_takeStep : zY := (RX1, cX1_takeStep, 8, none, 2)
theorem mX1_takeStep : zMI yX1_takeStep YX1_takeStep 2 := ⟨⟨zin (i := 53) (by decide +kernel) rfl, zin (i := 370) (by decide +kernel) rfl, ⟨by decide +kernel, by decide +kernel, by decide +kernel⟩, by decide⟩, zin (i := 369) (by decide +kernel) rfl, zin (i := 6) (by decide +kernel) rfl⟩
abbrev YX1_tellCell : zY := (RX1, cX1_tellCell, 5, (some (.int)), 1)
theorem mX1_tellCell : zMI yX1_tellCell YX1_tellCell 3 := ⟨⟨zin (i := 53) (by decide +kernel) rfl, zin (i := 467) (by decide +kernel) rfl, ⟨by decide +kernel, by decide +kernel, by decide +kernel⟩, by decide⟩, zin (i := 465) (by decide +kernel) rfl, zin (i := 466) (by decide +kernel) rfl⟩
abbrev YX1_tellCount : zY := (RX1, cX1_tellCount, 2, (some (.int)), 1)
theorem mX1_tellCount : zMI yX1_tellCount YX1_tellCount 1 := ⟨⟨zin (i := 53) (by decide +kernel) rfl, zin (i := 567) (by decide +kernel) rfl, ⟨by decide +kernel, by decide +kernel, by decide +kernel⟩, by decide⟩, zin (i := 565) (by decide +kernel) rfl, zin (i := 566) (by decide +kernel) rfl⟩
abbrev YX1_tellOwed : zY := (RX1, cX1_tellOwed, 3, (some (.int)), 1)
theorem mX1_tellOwed : zMI yX1_tellOwed YX1_tellOwed 2 := ⟨⟨zin (i := 53) (by decide +kernel) rfl, zin (i := 549) (by decide +kernel) rfl, ⟨by decide +kernel, by decide +kernel, by decide +kernel⟩, by decide⟩, zin (i := 547) (by decide +kernel) rfl, zin (i := 548) (by decide +kernel) rfl⟩
abbrev YX1_tellSnail : zY := (RX1, cX1_tellSnail, 3, (some (.int)), 1)
theorem mX1_tellSnail : zMI yX1_tellSnail YX1_tellSnail 2 := ⟨⟨zin (i := 53) (by decide +kernel) rfl, zin (i := 459) (by decide +kernel) rfl, ⟨by decide +kernel, by decide +kernel, by decide +kernel⟩, by decide⟩, zin (i := 457) (by decide +kernel) rfl, zin (i := 458) (by decide +kernel) rfl⟩
abbrev YX1_whyNoHelp : zY := (RX1, cX1_whyNoHelp, 5, (some (.int)), 0)
theorem mX1_whyNoHelp : zMI yX1_whyNoHelp YX1_whyNoHelp 2 := ⟨⟨zin (i := 53) (by decide +kernel) rfl, zin (i := 362) (by decide +kernel) rfl, ⟨by decide +kernel, by decide +kernel, by decide +kernel⟩, by decide⟩, zin (i := 360) (by decide +kernel) rfl, zin (i := 361) (by decide +kernel) rfl⟩
abbrev YX2_append : zY := (RX2, cX2_append, 2, (some (.int)), 0)
theorem mX2_append : zMI yX2_append YX2_append 1 := ⟨⟨zin (i := 56) (by decide +kernel) rfl, zin (i := 391) (by decide +kernel) rfl, ⟨by decide +kernel, by decide +kernel, by decide +kernel⟩, by decide⟩, zin (i := 389) (by decide +kernel) rfl, zin (i := 390) (by decide +kernel) rfl⟩
abbrev YX2_digitHere : zY := (RX2, cX2_digitHere, 2, (some (.int)), 1)
theorem mX2_digitHere : zMI yX2_digitHere YX2_digitHere 0 := ⟨⟨zin (i := 56) (by decide +kernel) rfl, zin (i := 423) (by decide +kernel) rfl, ⟨by decide +kernel, by decide +kernel, by decide +kernel⟩, by decide⟩, zin (i := 422) (by decide +kernel) rfl, zin (i := 13) (by decide +kernel) rfl⟩
abbrev YX2_empty : zY := (RX2, cX2_empty, 2, (some (.int)), 0)
theorem mX2_empty : zMI yX2_empty YX2_empty 0 := ⟨⟨zin (i := 56) (by decide +kernel) rfl, zin (i := 399) (by decide +kernel) rfl, ⟨by decide +kernel, by decide +kernel, by decide +kernel⟩, by decide⟩, zin (i := 397) (by decide +kernel) rfl, zin (i := 398) (by decide +kernel) rfl⟩
abbrev YX2_read : zY := (RX2, cX2_read, 2, (some (.int)), 4)
theorem mX2_read : zMI yX2_read YX2_read 0 := ⟨⟨zin (i := 56) (by decide +kernel) rfl, zin (i := 407) (by decide +kernel) rfl, ⟨by decide +kernel, by decide +kernel, by decide +kernel⟩, by decide⟩, zin (i := 405) (by decide +kernel) rfl, zin (i := 406) (by decide +kernel) rfl⟩
abbrev YX2_readNumber : zY := (RX2, cX2_readNumber, 7, (some (.boolean)), 2)
theorem mX2_readNumber : zMI yX2_readNumber YX2_readNumber 4 := ⟨⟨zin (i := 56) (by decide +kernel) rfl, zin (i := 419) (by decide +kernel) rfl, ⟨by decide +kernel, by decide +kernel, by decide +kernel⟩, by decide⟩, zin (i := 418) (by decide +kernel) rfl, zin (i := 12) (by decide +kernel) rfl⟩
abbrev YX2_readSign : zY := (RX2, cX2_readSign, 2, (some (.boolean)), 1)
theorem mX2_readSign : zMI yX2_readSign YX2_readSign 1 := ⟨⟨zin (i := 56) (by decide +kernel) rfl, zin (i := 427) (by decide +kernel) rfl, ⟨by decide +kernel, by decide +kernel, by decide +kernel⟩, by decide⟩, zin (i := 426) (by decide +kernel) rfl, zin (i := 14) (by decide +kernel) rfl⟩
abbrev YX2_readThing : zY := (RX2, cX2_readThing, 3, (some (.boolean)), 3)
theorem mX2_readThing : zMI yX2_readThing YX2_readThing 1 := ⟨⟨zin (i := 56) (by decide +kernel) rfl, zin (i := 411) (by decide +kernel) rfl, ⟨by decide +kernel, by decide +kernel, by decide +kernel⟩, by decide⟩, zin (i := 410) (by decide +kernel) rfl, zin (i := 10) (by decide +kernel) rfl⟩
abbrev YX2_signHere : zY := (RX2, cX2_signHere, 1, (some (.int)), 0)
theorem mX2_signHere : zMI yX2_signHere YX2_signHere 0 := ⟨⟨zin (i := 56) (by decide +kernel) rfl, zin (i := 415) (by decide +kernel) rfl, ⟨by decide +kernel, by decide +kernel, by decide +kernel⟩, by decide⟩, zin (i := 414) (by decide +kernel) rfl, zin (i := 11) (by decide +kernel) rfl⟩
abbrev YX3_fromRimDown : zY := (RX3, cX3_fromRimDown, 7, (some (.int)), 2)
theorem mX3_fromRimDown : zMI yX3_fromRimDown YX3_fromRimDown 3 := ⟨⟨zin (i := 57) (by decide +kernel) rfl, zin (i := 507) (by decide +kernel) rfl, ⟨by decide +kernel, by decide +kernel, by decide +kernel⟩, by decide⟩, zin (i := 505) (by decide +kernel) rfl, zin (i := 506) (by decide +kernel) rfl⟩
abbrev YX3_leastAbove : zY := (RX3, cX3_leastAbove, 10, (some (.int)), 1)
theorem mX3_leastAbove : zMI yX3_leastAbove YX3_leastAbove 3 := ⟨⟨zin (i := 57) (by decide +kernel) rfl, zin (i := 512) (by decide +kernel) rfl, ⟨by decide +kernel, by decide +kernel, by decide +kernel⟩, by decide⟩, zin (i := 511) (by decide +kernel) rfl, zin (i := 16) (by decide +kernel) rfl⟩
abbrev YX3_leastSumFirst : zY := (RX3, cX3_leastSumFirst, 7, (some (.int)), 2)
theorem mX3_leastSumFirst : zMI yX3_leastSumFirst YX3_leastSumFirst 3 := ⟨⟨zin (i := 57) (by decide +kernel) rfl, zin (i := 520) (by decide +kernel) rfl, ⟨by decide +kernel, by decide +kernel, by decide +kernel⟩, by decide⟩, zin (i := 518) (by decide +kernel) rfl, zin (i := 519) (by decide +kernel) rfl⟩
abbrev YX3_nearest : zY := (RX3, cX3_nearest, 4, (some (.int)), 0)
theorem mX3_nearest : zMI yX3_nearest YX3_nearest 0 := ⟨⟨zin (i := 57) (by decide +kernel) rfl, zin (i := 525) (by decide +kernel) rfl, ⟨by decide +kernel, by decide +kernel, by decide +kernel⟩, by decide⟩, zin (i := 524) (by decide +kernel) rfl, zin (i := 17) (by decide +kernel) rfl⟩
abbrev YX3_reachAbove : zY := (RX3, cX3_reachAbove, 8, none, 1)
theorem mX3_reachAbove : zMI yX3_reachAbove YX3_reachAbove 2 := ⟨⟨zin (i := 57) (by decide +kernel) rfl, zin (i := 529) (by decide +kernel) rfl, ⟨by decide +kernel, by decide +kernel, by decide +kernel⟩, by decide⟩, zin (i := 528) (by decide +kernel) rfl, zin (i := 18) (by decide +kernel) rfl⟩
abbrev YX4_bestLane : zY := (RX4, cX4_bestLane, 7, (some (.int)), 6)
theorem mX4_bestLane : zMI yX4_bestLane YX4_bestLane 2 := ⟨⟨zin (i := 52) (by decide +kernel) rfl, zin (i := 553) (by decide +kernel) rfl, ⟨by decide +kernel, by decide +kernel, by decide +kernel⟩, by decide⟩, zin (i := 551) (by decide +kernel) rfl, zin (i := 552) (by decide +kernel) rfl⟩
abbrev YX4_cell : zY := (RX4, cX4_cell, 4, (some (.int)), 2)
theorem mX4_cell : zMI yX4_cell YX4_cell 3 := ⟨⟨zin (i := 52) (by decide +kernel) rfl, zin (i := 463) (by decide +kernel) rfl, ⟨by decide +kernel, by decide +kernel, by decide +kernel⟩, by decide⟩, zin (i := 461) (by decide +kernel) rfl, zin (i := 462) (by decide +kernel) rfl⟩
abbrev YX4_cellAt : zY := (RX4, cX4_cellAt, 2, (some (.int)), 0)
theorem mX4_cellAt : zMS yX4_cellAt YX4_cellAt 2 := ⟨⟨zin (i := 52) (by decide +kernel) rfl, zin (i := 311) (by decide +kernel) rfl, ⟨by decide +kernel, by decide +kernel, by decide +kernel⟩, by decide⟩, zin (i := 310) (by decide +kernel) rfl⟩
abbrev YX4_clearText : zY := (RX4, cX4_clearText, 1, (some (.int)), 1)
theorem mX4_clearText : zMI yX4_clearText YX4_clearText 0 := ⟨⟨zin (i := 52) (by decide +kernel) rfl, zin (i := 395) (by decide +kernel) rfl, ⟨by decide +kernel, by decide +kernel, by decide +kernel⟩, by decide⟩, zin (i := 393) (by decide +kernel) rfl, zin (i := 394) (by decide +kernel) rfl⟩
abbrev YX4_copy : zY := (RX4, cX4_copy, 2, none, 1)
theorem mX4_copy : zMS yX4_copy YX4_copy 2 := ⟨⟨zin (i := 52) (by decide +kernel) rfl, zin (i := 252) (by decide +kernel) rfl, ⟨by decide +kernel, by decide +kernel, by decide +kernel⟩, by decide⟩, zin (i := 251) (by decide +kernel) rfl⟩
abbrev YX4_cost : zY := (RX4, cX4_cost, 3, (some (.int)), 2)
theorem mX4_cost : zMI yX4_cost YX4_cost 2 := ⟨⟨zin (i := 52) (by decide +kernel) rfl, zin (i := 471) (by decide +kernel) rfl, ⟨by decide +kernel, by decide +kernel, by decide +kernel⟩, by decide⟩, zin (i := 469) (by decide +kernel) rfl, zin (i := 470) (by decide +kernel) rfl⟩
abbrev YX4_count : zY := (RX4, cX4_count, 2, (some (.int)), 2)
theorem mX4_count : zMI yX4_count YX4_count 1 := ⟨⟨zin (i := 52) (by decide +kernel) rfl, zin (i := 563) (by decide +kernel) rfl, ⟨by decide +kernel, by decide +kernel, by decide +kernel⟩, by decide⟩, zin (i := 561) (by decide +kernel) rfl, zin (i := 562) (by decide +kernel) rfl⟩
abbrev YX4_doThing : zY := (RX4, cX4_doThing, 2, (some (.int)), 5)
theorem mX4_doThing : zMI yX4_doThing YX4_doThing 1 := ⟨⟨zin (i := 52) (by decide +kernel) rfl, zin (i := 431) (by decide +kernel) rfl, ⟨by decide +kernel, by decide +kernel, by decide +kernel⟩, by decide⟩, zin (i := 430) (by decide +kernel) rfl, zin (i := 15) (by decide +kernel) rfl⟩
abbrev YX4_does : zY := (RX4, cX4_does, 2, (some (.int)), 3)
theorem mX4_does : zMI yX4_does YX4_does 1 := ⟨⟨zin (i := 52) (by decide +kernel) rfl, zin (i := 479) (by decide +kernel) rfl, ⟨by decide +kernel, by decide +kernel, by decide +kernel⟩, by decide⟩, zin (i := 477) (by decide +kernel) rfl, zin (i := 478) (by decide +kernel) rfl⟩
abbrev YX4_endsIn : zY := (RX4, cX4_endsIn, 2, (some (.int)), 5)
theorem mX4_endsIn : zMI yX4_endsIn YX4_endsIn 1 := ⟨⟨zin (i := 52) (by decide +kernel) rfl, zin (i := 490) (by decide +kernel) rfl, ⟨by decide +kernel, by decide +kernel, by decide +kernel⟩, by decide⟩, zin (i := 488) (by decide +kernel) rfl, zin (i := 489) (by decide +kernel) rfl⟩
abbrev YX4_keep : zY := (RX4, cX4_keep, 1, (some (.int)), 3)
theorem mX4_keep : zMI yX4_keep YX4_keep 0 := ⟨⟨zin (i := 52) (by decide +kernel) rfl, zin (i := 447) (by decide +kernel) rfl, ⟨by decide +kernel, by decide +kernel, by decide +kernel⟩, by decide⟩, zin (i := 445) (by decide +kernel) rfl, zin (i := 446) (by decide +kernel) rfl⟩
abbrev YX4_leader : zY := (RX4, cX4_leader, 1, (some (.int)), 3)
theorem mX4_leader : zMI yX4_leader YX4_leader 0 := ⟨⟨zin (i := 52) (by decide +kernel) rfl, zin (i := 533) (by decide +kernel) rfl, ⟨by decide +kernel, by decide +kernel, by decide +kernel⟩, by decide⟩, zin (i := 531) (by decide +kernel) rfl, zin (i := 532) (by decide +kernel) rfl⟩
abbrev YX4_owes : zY := (RX4, cX4_owes, 3, (some (.int)), 2)
theorem mX4_owes : zMI yX4_owes YX4_owes 2 := ⟨⟨zin (i := 52) (by decide +kernel) rfl, zin (i := 545) (by decide +kernel) rfl, ⟨by decide +kernel, by decide +kernel, by decide +kernel⟩, by decide⟩, zin (i := 543) (by decide +kernel) rfl, zin (i := 544) (by decide +kernel) rfl⟩
abbrev YX4_pass : zY := (RX4, cX4_pass, 2, (some (.int)), 5)
theorem mX4_pass : zMI yX4_pass YX4_pass 1 := ⟨⟨zin (i := 52) (by decide +kernel) rfl, zin (i := 335) (by decide +kernel) rfl, ⟨by decide +kernel, by decide +kernel, by decide +kernel⟩, by decide⟩, zin (i := 333) (by decide +kernel) rfl, zin (i := 334) (by decide +kernel) rfl⟩
abbrev YX4_perform : zY := (RX4, cX4_perform, 4, (some (.int)), 6)
theorem mX4_perform : zMI yX4_perform YX4_perform 0 := ⟨⟨zin (i := 52) (by decide +kernel) rfl, zin (i := 403) (by decide +kernel) rfl, ⟨by decide +kernel, by decide +kernel, by decide +kernel⟩, by decide⟩, zin (i := 401) (by decide +kernel) rfl, zin (i := 402) (by decide +kernel) rfl⟩
abbrev YX4_reason : zY := (RX4, cX4_reason, 5, (some (.int)), 1)
theorem mX4_reason : zMI yX4_reason YX4_reason 3 := ⟨⟨zin (i := 52) (by decide +kernel) rfl, zin (i := 484) (by decide +kernel) rfl, ⟨by decide +kernel, by decide +kernel, by decide +kernel⟩, by decide⟩, zin (i := 482) (by decide +kernel) rfl, zin (i := 483) (by decide +kernel) rfl⟩
abbrev YX4_recorded : zY := (RX4, cX4_recorded, 2, (some (.int)), 4)
theorem mX4_recorded : zMI yX4_recorded YX4_recorded 1 := ⟨⟨zin (i := 52) (by decide +kernel) rfl, zin (i := 274) (by decide +kernel) rfl, ⟨by decide +kernel, by decide +kernel, by decide +kernel⟩, by decide⟩, zin (i := 273) (by decide +kernel) rfl, zin (i := 0) (by decide +kernel) rfl⟩
abbrev YX4_restore : zY := (RX4, cX4_restore, 1, (some (.int)), 5)
theorem mX4_restore : zMI yX4_restore YX4_restore 0 := ⟨⟨zin (i := 52) (by decide +kernel) rfl, zin (i := 451) (by decide +kernel) rfl, ⟨by decide +kernel, by decide +kernel, by decide +kernel⟩, by decide⟩, zin (i := 449) (by decide +kernel) rfl, zin (i := 450) (by decide +kernel) rfl⟩
abbrev YX4_set : zY := (RX4, cX4_set, 3, (some (.int)), 5)
theorem mX4_set : zMI yX4_set YX4_set 2 := ⟨⟨zin (i := 52) (by decide +kernel) rfl, zin (i := 319) (by decide +kernel) rfl, ⟨by decide +kernel, by decide +kernel, by decide +kernel⟩, by decide⟩, zin (i := 317) (by decide +kernel) rfl, zin (i := 318) (by decide +kernel) rfl⟩
abbrev YX4_setFrost : zY := (RX4, cX4_setFrost, 4, (some (.int)), 5)
theorem mX4_setFrost : zMI yX4_setFrost YX4_setFrost 3 := ⟨⟨zin (i := 52) (by decide +kernel) rfl, zin (i := 304) (by decide +kernel) rfl, ⟨by decide +kernel, by decide +kernel, by decide +kernel⟩, by decide⟩, zin (i := 302) (by decide +kernel) rfl, zin (i := 303) (by decide +kernel) rfl⟩
abbrev YX4_setSnail : zY := (RX4, cX4_setSnail, 3, (some (.int)), 5)
theorem mX4_setSnail : zMI yX4_setSnail YX4_setSnail 2 := ⟨⟨zin (i := 52) (by decide +kernel) rfl, zin (i := 245) (by decide +kernel) rfl, ⟨by decide +kernel, by decide +kernel, by decide +kernel⟩, by decide⟩, zin (i := 243) (by decide +kernel) rfl, zin (i := 244) (by decide +kernel) rfl⟩
abbrev YX4_snail : zY := (RX4, cX4_snail, 3, (some (.int)), 2)
theorem mX4_snail : zMI yX4_snail YX4_snail 2 := ⟨⟨zin (i := 52) (by decide +kernel) rfl, zin (i := 455) (by decide +kernel) rfl, ⟨by decide +kernel, by decide +kernel, by decide +kernel⟩, by decide⟩, zin (i := 453) (by decide +kernel) rfl, zin (i := 454) (by decide +kernel) rfl⟩
abbrev YX4_stopped : zY := (RX4, cX4_stopped, 2, (some (.int)), 0)
theorem mX4_stopped : zMI yX4_stopped YX4_stopped 1 := ⟨⟨zin (i := 52) (by decide +kernel) rfl, zin (i := 435) (by decide +kernel) rfl, ⟨by decide +kernel, by decide +kernel, by decide +kernel⟩, by decide⟩, zin (i := 433) (by decide +kernel) rfl, zin (i := 434) (by decide +kernel) rfl⟩
abbrev YX4_sum : zY := (RX4, cX4_sum, 6, (some (.int)), 0)
theorem mX4_sum : zMS yX4_sum YX4_sum 1 := ⟨⟨zin (i := 52) (by decide +kernel) rfl, zin (i := 574) (by decide +kernel) rfl, ⟨by decide +kernel, by decide +kernel, by decide +kernel⟩, by decide⟩, zin (i := 573) (by decide +kernel) rfl⟩
abbrev YX4_takeOff : zY := (RX4, cX4_takeOff, 2, (some (.int)), 5)
theorem mX4_takeOff : zMI yX4_takeOff YX4_takeOff 1 := ⟨⟨zin (i := 52) (by decide +kernel) rfl, zin (i := 288) (by decide +kernel) rfl, ⟨by decide +kernel, by decide +kernel, by decide +kernel⟩, by decide⟩, zin (i := 286) (by decide +kernel) rfl, zin (i := 287) (by decide +kernel) rfl⟩
abbrev YX4_turnsFrom : zY := (RX4, cX4_turnsFrom, 5, (some (.int)), 5)
theorem mX4_turnsFrom : zMI yX4_turnsFrom YX4_turnsFrom 3 := ⟨⟨zin (i := 52) (by decide +kernel) rfl, zin (i := 557) (by decide +kernel) rfl, ⟨by decide +kernel, by decide +kernel, by decide +kernel⟩, by decide⟩, zin (i := 556) (by decide +kernel) rfl, zin (i := 20) (by decide +kernel) rfl⟩
abbrev YX4_type : zY := (RX4, cX4_type, 2, (some (.int)), 1)
theorem mX4_type : zMI yX4_type YX4_type 1 := ⟨⟨zin (i := 52) (by decide +kernel) rfl, zin (i := 387) (by decide +kernel) rfl, ⟨by decide +kernel, by decide +kernel, by decide +kernel⟩, by decide⟩, zin (i := 385) (by decide +kernel) rfl, zin (i := 386) (by decide +kernel) rfl⟩
abbrev YX4_undo : zY := (RX4, cX4_undo, 1, (some (.int)), 4)
theorem mX4_undo : zMI yX4_undo YX4_undo 0 := ⟨⟨zin (i := 52) (by decide +kernel) rfl, zin (i := 439) (by decide +kernel) rfl, ⟨by decide +kernel, by decide +kernel, by decide +kernel⟩, by decide⟩, zin (i := 437) (by decide +kernel) rfl, zin (i := 438) (by decide +kernel) rfl⟩
abbrev YX4_wayUp : zY := (RX4, cX4_wayUp, 4, (some (.int)), 3)
theorem mX4_wayUp : zMI yX4_wayUp YX4_wayUp 3 := ⟨⟨zin (i := 52) (by decide +kernel) rfl, zin (i := 503) (by decide +kernel) rfl, ⟨by decide +kernel, by decide +kernel, by decide +kernel⟩, by decide⟩, zin (i := 501) (by decide +kernel) rfl, zin (i := 502) (by decide +kernel) rfl⟩
abbrev YX5_at : zY := (RX5, cX5_at, 2, (some (.int)), 0)
theorem mX5_at : zMS yX5_at YX5_at 2 := ⟨⟨zin (i := 58) (by decide +kernel) rfl, zin (i := 693) (by decide +kernel) rfl, ⟨by decide +kernel, by decide +kernel, by decide +kernel⟩, by decide⟩, zin (i := 692) (by decide +kernel) rfl⟩
abbrev YX5_barFrost : zY := (RX5, cX5_barFrost, 4, (some (.int)), 3)
theorem mX5_barFrost : zMI yX5_barFrost YX5_barFrost 3 := ⟨⟨zin (i := 58) (by decide +kernel) rfl, zin (i := 687) (by decide +kernel) rfl, ⟨by decide +kernel, by decide +kernel, by decide +kernel⟩, by decide⟩, zin (i := 686) (by decide +kernel) rfl, zin (i := 28) (by decide +kernel) rfl⟩
abbrev YX5_barPass : zY := (RX5, cX5_barPass, 2, (some (.int)), 1)
theorem mX5_barPass : zMI yX5_barPass YX5_barPass 1 := ⟨⟨zin (i := 58) (by decide +kernel) rfl, zin (i := 716) (by decide +kernel) rfl, ⟨by decide +kernel, by decide +kernel, by decide +kernel⟩, by decide⟩, zin (i := 715) (by decide +kernel) rfl, zin (i := 31) (by decide +kernel) rfl⟩
abbrev YX5_barSnail : zY := (RX5, cX5_barSnail, 3, (some (.int)), 3)
theorem mX5_barSnail : zMI yX5_barSnail YX5_barSnail 2 := ⟨⟨zin (i := 58) (by decide +kernel) rfl, zin (i := 646) (by decide +kernel) rfl, ⟨by decide +kernel, by decide +kernel, by decide +kernel⟩, by decide⟩, zin (i := 645) (by decide +kernel) rfl, zin (i := 22) (by decide +kernel) rfl⟩
abbrev YX5_bestLane : zY := (RX5, cX5_bestLane, 7, (some (.int)), 7)
theorem mX5_bestLane : zMI yX5_bestLane YX5_bestLane 2 := ⟨⟨zin (i := 58) (by decide +kernel) rfl, zin (i := 848) (by decide +kernel) rfl, ⟨by decide +kernel, by decide +kernel, by decide +kernel⟩, by decide⟩, zin (i := 846) (by decide +kernel) rfl, zin (i := 847) (by decide +kernel) rfl⟩
abbrev YX5_cell : zY := (RX5, cX5_cell, 5, (some (.int)), 3)
theorem mX5_cell : zMI yX5_cell YX5_cell 3 := ⟨⟨zin (i := 58) (by decide +kernel) rfl, zin (i := 812) (by decide +kernel) rfl, ⟨by decide +kernel, by decide +kernel, by decide +kernel⟩, by decide⟩, zin (i := 810) (by decide +kernel) rfl, zin (i := 811) (by decide +kernel) rfl⟩
abbrev YX5_chooses : zY := (RX5, cX5_chooses, 5, (some (.int)), 4)
theorem mX5_chooses : zMI yX5_chooses YX5_chooses 1 := ⟨⟨zin (i := 58) (by decide +kernel) rfl, zin (i := 729) (by decide +kernel) rfl, ⟨by decide +kernel, by decide +kernel, by decide +kernel⟩, by decide⟩, zin (i := 728) (by decide +kernel) rfl, zin (i := 34) (by decide +kernel) rfl⟩
abbrev YX5_clearText : zY := (RX5, cX5_clearText, 2, (some (.int)), 0)
theorem mX5_clearText : zMI yX5_clearText YX5_clearText 0 := ⟨⟨zin (i := 58) (by decide +kernel) rfl, zin (i := 752) (by decide +kernel) rfl, ⟨by decide +kernel, by decide +kernel, by decide +kernel⟩, by decide⟩, zin (i := 750) (by decide +kernel) rfl, zin (i := 751) (by decide +kernel) rfl⟩
abbrev YX5_comes : zY := (RX5, cX5_comes, 5, (some (.int)), 1)
theorem mX5_comes : zMI yX5_comes YX5_comes 2 := ⟨⟨zin (i := 58) (by decide +kernel) rfl, zin (i := 671) (by decide +kernel) rfl, ⟨by decide +kernel, by decide +kernel, by decide +kernel⟩, by decide⟩, zin (i := 670) (by decide +kernel) rfl, zin (i := 26) (by decide +kernel) rfl⟩
abbrev YX5_cost : zY := (RX5, cX5_cost, 3, (some (.int)), 4)
theorem mX5_cost : zMI yX5_cost YX5_cost 2 := ⟨⟨zin (i := 58) (by decide +kernel) rfl, zin (i := 816) (by decide +kernel) rfl, ⟨by decide +kernel, by decide +kernel, by decide +kernel⟩, by decide⟩, zin (i := 814) (by decide +kernel) rfl, zin (i := 815) (by decide +kernel) rfl⟩
abbrev YX5_count : zY := (RX5, cX5_count, 2, (some (.int)), 2)
theorem mX5_count : zMI yX5_count YX5_count 1 := ⟨⟨zin (i := 58) (by decide +kernel) rfl, zin (i := 852) (by decide +kernel) rfl, ⟨by decide +kernel, by decide +kernel, by decide +kernel⟩, by decide⟩, zin (i := 850) (by decide +kernel) rfl, zin (i := 851) (by decide +kernel) rfl⟩
abbrev YX5_creep : zY := (RX5, cX5_creep, 8, none, 4)
theorem mX5_creep : zMI yX5_creep YX5_creep 2 := ⟨⟨zin (i := 58) (by decide +kernel) rfl, zin (i := 744) (by decide +kernel) rfl, ⟨by decide +kernel, by decide +kernel, by decide +kernel⟩, by decide⟩, zin (i := 743) (by decide +kernel) rfl, zin (i := 37) (by decide +kernel) rfl⟩
abbrev YX5_creeps : zY := (RX5, cX5_creeps, 2, (some (.boolean)), 1)
theorem mX5_creeps : zMI yX5_creeps YX5_creeps 1 := ⟨⟨zin (i := 58) (by decide +kernel) rfl, zin (i := 660) (by decide +kernel) rfl, ⟨by decide +kernel, by decide +kernel, by decide +kernel⟩, by decide⟩, zin (i := 659) (by decide +kernel) rfl, zin (i := 24) (by decide +kernel) rfl⟩
abbrev YX5_does : zY := (RX5, cX5_does, 2, (some (.int)), 5)
theorem mX5_does : zMI yX5_does YX5_does 1 := ⟨⟨zin (i := 58) (by decide +kernel) rfl, zin (i := 820) (by decide +kernel) rfl, ⟨by decide +kernel, by decide +kernel, by decide +kernel⟩, by decide⟩, zin (i := 818) (by decide +kernel) rfl, zin (i := 819) (by decide +kernel) rfl⟩
abbrev YX5_doesThing : zY := (RX5, cX5_doesThing, 3, (some (.int)), 7)
theorem mX5_doesThing : zMI yX5_doesThing YX5_doesThing 0 := ⟨⟨zin (i := 58) (by decide +kernel) rfl, zin (i := 784) (by decide +kernel) rfl, ⟨by decide +kernel, by decide +kernel, by decide +kernel⟩, by decide⟩, zin (i := 783) (by decide +kernel) rfl, zin (i := 44) (by decide +kernel) rfl⟩
abbrev YX5_dries : zY := (RX5, cX5_dries, 2, none, 0)
theorem mX5_dries : zMI yX5_dries YX5_dries 0 := ⟨⟨zin (i := 58) (by decide +kernel) rfl, zin (i := 708) (by decide +kernel) rfl, ⟨by decide +kernel, by decide +kernel, by decide +kernel⟩, by decide⟩, zin (i := 707) (by decide +kernel) rfl, zin (i := 30) (by decide +kernel) rfl⟩
abbrev YX5_ends : zY := (RX5, cX5_ends, 3, (some (.int)), 6)
theorem mX5_ends : zMI yX5_ends YX5_ends 1 := ⟨⟨zin (i := 58) (by decide +kernel) rfl, zin (i := 832) (by decide +kernel) rfl, ⟨by decide +kernel, by decide +kernel, by decide +kernel⟩, by decide⟩, zin (i := 831) (by decide +kernel) rfl, zin (i := 46) (by decide +kernel) rfl⟩
abbrev YX5_endsIn : zY := (RX5, cX5_endsIn, 3, (some (.int)), 7)
theorem mX5_endsIn : zMI yX5_endsIn YX5_endsIn 1 := ⟨⟨zin (i := 58) (by decide +kernel) rfl, zin (i := 828) (by decide +kernel) rfl, ⟨by decide +kernel, by decide +kernel, by decide +kernel⟩, by decide⟩, zin (i := 826) (by decide +kernel) rfl, zin (i := 827) (by decide +kernel) rfl⟩
abbrev YX5_freezes : zY := (RX5, cX5_freezes, 6, (some (.int)), 1)
theorem mX5_freezes : zMI yX5_freezes YX5_freezes 3 := ⟨⟨zin (i := 58) (by decide +kernel) rfl, zin (i := 697) (by decide +kernel) rfl, ⟨by decide +kernel, by decide +kernel, by decide +kernel⟩, by decide⟩, zin (i := 696) (by decide +kernel) rfl, zin (i := 29) (by decide +kernel) rfl⟩
abbrev YX5_frost : zY := (RX5, cX5_frost, 3, (some (.int)), 0)
theorem mX5_frost : zMI yX5_frost YX5_frost 0 := ⟨⟨zin (i := 58) (by decide +kernel) rfl, zin (i := 864) (by decide +kernel) rfl, ⟨by decide +kernel, by decide +kernel, by decide +kernel⟩, by decide⟩, zin (i := 863) (by decide +kernel) rfl, zin (i := 49) (by decide +kernel) rfl⟩
abbrev YX5_in : zY := (RX5, cX5_in, 3, (some (.boolean)), 0)
theorem mX5_in : zMS yX5_in YX5_in 3 := ⟨⟨zin (i := 58) (by decide +kernel) rfl, zin (i := 652) (by decide +kernel) rfl, ⟨by decide +kernel, by decide +kernel, by decide +kernel⟩, by decide⟩, zin (i := 651) (by decide +kernel) rfl⟩
abbrev YX5_inState : zY := (RX5, cX5_inState, 4, (some (.int)), 1)
theorem mX5_inState : zMI yX5_inState YX5_inState 1 := ⟨⟨zin (i := 58) (by decide +kernel) rfl, zin (i := 856) (by decide +kernel) rfl, ⟨by decide +kernel, by decide +kernel, by decide +kernel⟩, by decide⟩, zin (i := 855) (by decide +kernel) rfl, zin (i := 47) (by decide +kernel) rfl⟩
abbrev YX5_isCell : zY := (RX5, cX5_isCell, 2, (some (.boolean)), 2)
theorem mX5_isCell : zMS yX5_isCell YX5_isCell 2 := ⟨⟨zin (i := 58) (by decide +kernel) rfl, zin (i := 690) (by decide +kernel) rfl, ⟨by decide +kernel, by decide +kernel, by decide +kernel⟩, by decide⟩, zin (i := 689) (by decide +kernel) rfl⟩
abbrev YX5_isLane : zY := (RX5, cX5_isLane, 1, (some (.boolean)), 1)
theorem mX5_isLane : zMS yX5_isLane YX5_isLane 1 := ⟨⟨zin (i := 58) (by decide +kernel) rfl, zin (i := 649) (by decide +kernel) rfl, ⟨by decide +kernel, by decide +kernel, by decide +kernel⟩, by decide⟩, zin (i := 648) (by decide +kernel) rfl⟩
abbrev YX5_isSnail : zY := (RX5, cX5_isSnail, 2, (some (.boolean)), 1)
theorem mX5_isSnail : zMI yX5_isSnail YX5_isSnail 1 := ⟨⟨zin (i := 58) (by decide +kernel) rfl, zin (i := 679) (by decide +kernel) rfl, ⟨by decide +kernel, by decide +kernel, by decide +kernel⟩, by decide⟩, zin (i := 678) (by decide +kernel) rfl, zin (i := 27) (by decide +kernel) rfl⟩
abbrev YX5_keep : zY := (RX5, cX5_keep, 2, (some (.int)), 0)
theorem mX5_keep : zMI yX5_keep YX5_keep 0 := ⟨⟨zin (i := 58) (by decide +kernel) rfl, zin (i := 800) (by decide +kernel) rfl, ⟨by decide +kernel, by decide +kernel, by decide +kernel⟩, by decide⟩, zin (i := 798) (by decide +kernel) rfl, zin (i := 799) (by decide +kernel) rfl⟩
abbrev YX5_laneOf : zY := (RX5, cX5_laneOf, 2, (some (.int)), 0)
theorem mX5_laneOf : zMS yX5_laneOf YX5_laneOf 2 := ⟨⟨zin (i := 58) (by decide +kernel) rfl, zin (i := 736) (by decide +kernel) rfl, ⟨by decide +kernel, by decide +kernel, by decide +kernel⟩, by decide⟩, zin (i := 735) (by decide +kernel) rfl⟩
abbrev YX5_leader : zY := (RX5, cX5_leader, 5, (some (.int)), 2)
theorem mX5_leader : zMI yX5_leader YX5_leader 0 := ⟨⟨zin (i := 58) (by decide +kernel) rfl, zin (i := 840) (by decide +kernel) rfl, ⟨by decide +kernel, by decide +kernel, by decide +kernel⟩, by decide⟩, zin (i := 838) (by decide +kernel) rfl, zin (i := 839) (by decide +kernel) rfl⟩
abbrev YX5_most : zY := (RX5, cX5_most, 1, (some (.int)), 0)
theorem mX5_most : zMS yX5_most YX5_most 1 := ⟨⟨zin (i := 58) (by decide +kernel) rfl, zin (i := 704) (by decide +kernel) rfl, ⟨by decide +kernel, by decide +kernel, by decide +kernel⟩, by decide⟩, zin (i := 703) (by decide +kernel) rfl⟩
abbrev YX5_next : zY := (RX5, cX5_next, 1, (some (.int)), 0)
theorem mX5_next : zMI yX5_next YX5_next 0 := ⟨⟨zin (i := 58) (by decide +kernel) rfl, zin (i := 768) (by decide +kernel) rfl, ⟨by decide +kernel, by decide +kernel, by decide +kernel⟩, by decide⟩, zin (i := 767) (by decide +kernel) rfl, zin (i := 40) (by decide +kernel) rfl⟩
abbrev YX5_number : zY := (RX5, cX5_number, 5, (some (.int)), 1)
theorem mX5_number : zMI yX5_number YX5_number 2 := ⟨⟨zin (i := 58) (by decide +kernel) rfl, zin (i := 772) (by decide +kernel) rfl, ⟨by decide +kernel, by decide +kernel, by decide +kernel⟩, by decide⟩, zin (i := 771) (by decide +kernel) rfl, zin (i := 41) (by decide +kernel) rfl⟩
abbrev YX5_of : zY := (RX5, cX5_of, 2, (some (.int)), 0)
theorem mX5_of : zMS yX5_of YX5_of 2 := ⟨⟨zin (i := 58) (by decide +kernel) rfl, zin (i := 663) (by decide +kernel) rfl, ⟨by decide +kernel, by decide +kernel, by decide +kernel⟩, by decide⟩, zin (i := 662) (by decide +kernel) rfl⟩
abbrev YX5_ofAll : zY := (RX5, cX5_ofAll, 4, (some (.int)), 1)
theorem mX5_ofAll : zMI yX5_ofAll YX5_ofAll 1 := ⟨⟨zin (i := 58) (by decide +kernel) rfl, zin (i := 868) (by decide +kernel) rfl, ⟨by decide +kernel, by decide +kernel, by decide +kernel⟩, by decide⟩, zin (i := 867) (by decide +kernel) rfl, zin (i := 50) (by decide +kernel) rfl⟩
abbrev YX5_owes : zY := (RX5, cX5_owes, 3, (some (.int)), 2)
theorem mX5_owes : zMI yX5_owes YX5_owes 2 := ⟨⟨zin (i := 58) (by decide +kernel) rfl, zin (i := 844) (by decide +kernel) rfl, ⟨by decide +kernel, by decide +kernel, by decide +kernel⟩, by decide⟩, zin (i := 842) (by decide +kernel) rfl, zin (i := 843) (by decide +kernel) rfl⟩
abbrev YX5_pass : zY := (RX5, cX5_pass, 3, (some (.int)), 7)
theorem mX5_pass : zMI yX5_pass YX5_pass 1 := ⟨⟨zin (i := 58) (by decide +kernel) rfl, zin (i := 712) (by decide +kernel) rfl, ⟨by decide +kernel, by decide +kernel, by decide +kernel⟩, by decide⟩, zin (i := 710) (by decide +kernel) rfl, zin (i := 711) (by decide +kernel) rfl⟩
abbrev YX5_passes : zY := (RX5, cX5_passes, 4, (some (.int)), 6)
theorem mX5_passes : zMI yX5_passes YX5_passes 1 := ⟨⟨zin (i := 58) (by decide +kernel) rfl, zin (i := 721) (by decide +kernel) rfl, ⟨by decide +kernel, by decide +kernel, by decide +kernel⟩, by decide⟩, zin (i := 720) (by decide +kernel) rfl, zin (i := 32) (by decide +kernel) rfl⟩
abbrev YX5_perform : zY := (RX5, cX5_perform, 6, (some (.int)), 8)
theorem mX5_perform : zMI yX5_perform YX5_perform 0 := ⟨⟨zin (i := 58) (by decide +kernel) rfl, zin (i := 756) (by decide +kernel) rfl, ⟨by decide +kernel, by decide +kernel, by decide +kernel⟩, by decide⟩, zin (i := 754) (by decide +kernel) rfl, zin (i := 755) (by decide +kernel) rfl⟩
abbrev YX5_price : zY := (RX5, cX5_price, 6, (some (.int)), 3)
theorem mX5_price : zMI yX5_price YX5_price 2 := ⟨⟨zin (i := 58) (by decide +kernel) rfl, zin (i := 733) (by decide +kernel) rfl, ⟨by decide +kernel, by decide +kernel, by decide +kernel⟩, by decide⟩, zin (i := 732) (by decide +kernel) rfl, zin (i := 35) (by decide +kernel) rfl⟩
abbrev YX5_putAside : zY := (RX5, cX5_putAside, 2, none, 0)
theorem mX5_putAside : zMI yX5_putAside YX5_putAside 0 := ⟨⟨zin (i := 58) (by decide +kernel) rfl, zin (i := 780) (by decide +kernel) rfl, ⟨by decide +kernel, by decide +kernel, by decide +kernel⟩, by decide⟩, zin (i := 779) (by decide +kernel) rfl, zin (i := 43) (by decide +kernel) rfl⟩
abbrev YX5_putBack : zY := (RX5, cX5_putBack, 2, none, 0)
theorem mX5_putBack : zMI yX5_putBack YX5_putBack 0 := ⟨⟨zin (i := 58) (by decide +kernel) rfl, zin (i := 788) (by decide +kernel) rfl, ⟨by decide +kernel, by decide +kernel, by decide +kernel⟩, by decide⟩, zin (i := 787) (by decide +kernel) rfl, zin (i := 45) (by decide +kernel) rfl⟩
abbrev YX5_reason : zY := (RX5, cX5_reason, 4, (some (.int)), 3)
theorem mX5_reason : zMI yX5_reason YX5_reason 3 := ⟨⟨zin (i := 58) (by decide +kernel) rfl, zin (i := 824) (by decide +kernel) rfl, ⟨by decide +kernel, by decide +kernel, by decide +kernel⟩, by decide⟩, zin (i := 822) (by decide +kernel) rfl, zin (i := 823) (by decide +kernel) rfl⟩
abbrev YX5_records : zY := (RX5, cX5_records, 2, none, 0)
theorem mX5_records : zMI yX5_records YX5_records 0 := ⟨⟨zin (i := 58) (by decide +kernel) rfl, zin (i := 667) (by decide +kernel) rfl, ⟨by decide +kernel, by decide +kernel, by decide +kernel⟩, by decide⟩, zin (i := 666) (by decide +kernel) rfl, zin (i := 25) (by decide +kernel) rfl⟩
abbrev YX5_restore : zY := (RX5, cX5_restore, 2, (some (.int)), 1)
theorem mX5_restore : zMI yX5_restore YX5_restore 0 := ⟨⟨zin (i := 58) (by decide +kernel) rfl, zin (i := 804) (by decide +kernel) rfl, ⟨by decide +kernel, by decide +kernel, by decide +kernel⟩, by decide⟩, zin (i := 802) (by decide +kernel) rfl, zin (i := 803) (by decide +kernel) rfl⟩
abbrev YX5_set : zY := (RX5, cX5_set, 4, (some (.int)), 1)
theorem mX5_set : zMI yX5_set YX5_set 2 := ⟨⟨zin (i := 58) (by decide +kernel) rfl, zin (i := 701) (by decide +kernel) rfl, ⟨by decide +kernel, by decide +kernel, by decide +kernel⟩, by decide⟩, zin (i := 699) (by decide +kernel) rfl, zin (i := 700) (by decide +kernel) rfl⟩
abbrev YX5_setFrost : zY := (RX5, cX5_setFrost, 5, (some (.int)), 4)
theorem mX5_setFrost : zMI yX5_setFrost YX5_setFrost 3 := ⟨⟨zin (i := 58) (by decide +kernel) rfl, zin (i := 683) (by decide +kernel) rfl, ⟨by decide +kernel, by decide +kernel, by decide +kernel⟩, by decide⟩, zin (i := 681) (by decide +kernel) rfl, zin (i := 682) (by decide +kernel) rfl⟩
abbrev YX5_setSnail : zY := (RX5, cX5_setSnail, 4, (some (.int)), 4)
theorem mX5_setSnail : zMI yX5_setSnail YX5_setSnail 2 := ⟨⟨zin (i := 58) (by decide +kernel) rfl, zin (i := 642) (by decide +kernel) rfl, ⟨by decide +kernel, by decide +kernel, by decide +kernel⟩, by decide⟩, zin (i := 640) (by decide +kernel) rfl, zin (i := 641) (by decide +kernel) rfl⟩
abbrev YX5_sign : zY := (RX5, cX5_sign, 2, none, 1)
theorem mX5_sign : zMI yX5_sign YX5_sign 1 := ⟨⟨zin (i := 58) (by decide +kernel) rfl, zin (i := 776) (by decide +kernel) rfl, ⟨by decide +kernel, by decide +kernel, by decide +kernel⟩, by decide⟩, zin (i := 775) (by decide +kernel) rfl, zin (i := 42) (by decide +kernel) rfl⟩
abbrev YX5_snail : zY := (RX5, cX5_snail, 4, (some (.int)), 2)
theorem mX5_snail : zMI yX5_snail YX5_snail 2 := ⟨⟨zin (i := 58) (by decide +kernel) rfl, zin (i := 808) (by decide +kernel) rfl, ⟨by decide +kernel, by decide +kernel, by decide +kernel⟩, by decide⟩, zin (i := 806) (by decide +kernel) rfl, zin (i := 807) (by decide +kernel) rfl⟩
abbrev YX5_snailOn : zY := (RX5, cX5_snailOn, 4, (some (.int)), 2)
theorem mX5_snailOn : zMI yX5_snailOn YX5_snailOn 2 := ⟨⟨zin (i := 58) (by decide +kernel) rfl, zin (i := 656) (by decide +kernel) rfl, ⟨by decide +kernel, by decide +kernel, by decide +kernel⟩, by decide⟩, zin (i := 655) (by decide +kernel) rfl, zin (i := 23) (by decide +kernel) rfl⟩
abbrev YX5_stopped : zY := (RX5, cX5_stopped, 2, (some (.int)), 1)
theorem mX5_stopped : zMI yX5_stopped YX5_stopped 1 := ⟨⟨zin (i := 58) (by decide +kernel) rfl, zin (i := 792) (by decide +kernel) rfl, ⟨by decide +kernel, by decide +kernel, by decide +kernel⟩, by decide⟩, zin (i := 790) (by decide +kernel) rfl, zin (i := 791) (by decide +kernel) rfl⟩
abbrev YX5_takeOff : zY := (RX5, cX5_takeOff, 2, (some (.int)), 2)
theorem mX5_takeOff : zMI yX5_takeOff YX5_takeOff 1 := ⟨⟨zin (i := 58) (by decide +kernel) rfl, zin (i := 675) (by decide +kernel) rfl, ⟨by decide +kernel, by decide +kernel, by decide +kernel⟩, by decide⟩, zin (i := 673) (by decide +kernel) rfl, zin (i := 674) (by decide +kernel) rfl⟩
abbrev YX5_thing : zY := (RX5, cX5_thing, 1, none, 2)
theorem mX5_thing : zMI yX5_thing YX5_thing 0 := ⟨⟨zin (i := 58) (by decide +kernel) rfl, zin (i := 764) (by decide +kernel) rfl, ⟨by decide +kernel, by decide +kernel, by decide +kernel⟩, by decide⟩, zin (i := 763) (by decide +kernel) rfl, zin (i := 39) (by decide +kernel) rfl⟩
abbrev YX5_things : zY := (RX5, cX5_things, 3, (some (.int)), 3)
theorem mX5_things : zMI yX5_things YX5_things 0 := ⟨⟨zin (i := 58) (by decide +kernel) rfl, zin (i := 760) (by decide +kernel) rfl, ⟨by decide +kernel, by decide +kernel, by decide +kernel⟩, by decide⟩, zin (i := 759) (by decide +kernel) rfl, zin (i := 38) (by decide +kernel) rfl⟩
abbrev YX5_trails : zY := (RX5, cX5_trails, 3, (some (.int)), 0)
theorem mX5_trails : zMI yX5_trails YX5_trails 0 := ⟨⟨zin (i := 58) (by decide +kernel) rfl, zin (i := 860) (by decide +kernel) rfl, ⟨by decide +kernel, by decide +kernel, by decide +kernel⟩, by decide⟩, zin (i := 859) (by decide +kernel) rfl, zin (i := 48) (by decide +kernel) rfl⟩
abbrev YX5_turn : zY := (RX5, cX5_turn, 4, none, 5)
theorem mX5_turn : zMI yX5_turn YX5_turn 0 := ⟨⟨zin (i := 58) (by decide +kernel) rfl, zin (i := 725) (by decide +kernel) rfl, ⟨by decide +kernel, by decide +kernel, by decide +kernel⟩, by decide⟩, zin (i := 724) (by decide +kernel) rfl, zin (i := 33) (by decide +kernel) rfl⟩
abbrev YX5_type : zY := (RX5, cX5_type, 2, (some (.int)), 0)
theorem mX5_type : zMI yX5_type YX5_type 1 := ⟨⟨zin (i := 58) (by decide +kernel) rfl, zin (i := 748) (by decide +kernel) rfl, ⟨by decide +kernel, by decide +kernel, by decide +kernel⟩, by decide⟩, zin (i := 746) (by decide +kernel) rfl, zin (i := 747) (by decide +kernel) rfl⟩
abbrev YX5_undo : zY := (RX5, cX5_undo, 2, (some (.int)), 0)
theorem mX5_undo : zMI yX5_undo YX5_undo 0 := ⟨⟨zin (i := 58) (by decide +kernel) rfl, zin (i := 796) (by decide +kernel) rfl, ⟨by decide +kernel, by decide +kernel, by decide +kernel⟩, by decide⟩, zin (i := 794) (by decide +kernel) rfl, zin (i := 795) (by decide +kernel) rfl⟩
abbrev YX5_wayUp : zY := (RX5, cX5_wayUp, 10, (some (.int)), 3)
theorem mX5_wayUp : zMI yX5_wayUp YX5_wayUp 3 := ⟨⟨zin (i := 58) (by decide +kernel) rfl, zin (i := 836) (by decide +kernel) rfl, ⟨by decide +kernel, by decide +kernel, by decide +kernel⟩, by decide⟩, zin (i := 834) (by decide +kernel) rfl, zin (i := 835) (by decide +kernel) rfl⟩
abbrev YX5_why : zY := (RX5, cX5_why, 4, (some (.int)), 1)
theorem mX5_why : zMI yX5_why YX5_why 2 := ⟨⟨zin (i := 58) (by decide +kernel) rfl, zin (i := 740) (by decide +kernel) rfl, ⟨by decide +kernel, by decide +kernel, by decide +kernel⟩, by decide⟩, zin (i := 739) (by decide +kernel) rfl, zin (i := 36) (by decide +kernel) rfl⟩
abbrev Yfill : zY := ("java/util/Arrays", cfill, 4, none, 0)
theorem mfill : zMS yfill Yfill 2 := ⟨⟨zin (i := 54) (by decide +kernel) rfl, zin (i := 88) (by decide +kernel) rfl, ⟨by decide +kernel, by decide +kernel, by decide +kernel⟩, by decide⟩, zin (i := 87) (by decide +kernel) rfl⟩
theorem kX4_54 : Cond.methodLink RX4 54 yX1_copyFrom ∈ zT := zin (i := 246) (by decide +kernel) rfl
theorem kX4_58 : Cond.methodLink RX4 58 yX1_placeSnail ∈ zT := zin (i := 259) (by decide +kernel) rfl
theorem kX4_62 : Cond.methodLink RX4 62 yX4_recorded ∈ zT := zin (i := 271) (by decide +kernel) rfl
theorem kX4_66 : Cond.methodLink RX4 66 yX1_removeSnail ∈ zT := zin (i := 289) (by decide +kernel) rfl
theorem kX4_69 : Cond.methodLink RX4 69 yX1_changeFrost ∈ zT := zin (i := 305) (by decide +kernel) rfl
theorem kX4_73 : Cond.methodLink RX4 73 yX1_changeSetting ∈ zT := zin (i := 320) (by decide +kernel) rfl
theorem kX4_76 : Cond.methodLink RX4 76 yX1_letPass ∈ zT := zin (i := 336) (by decide +kernel) rfl
theorem kX4_79 : Cond.methodLink RX4 79 yX0_remember ∈ zT := zin (i := 275) (by decide +kernel) rfl
theorem kX4_82 : Cond.methodLink RX4 82 yX2_append ∈ zT := zin (i := 388) (by decide +kernel) rfl
theorem kX4_86 : Cond.methodLink RX4 86 yX2_empty ∈ zT := zin (i := 396) (by decide +kernel) rfl
theorem kX4_90 : Cond.methodLink RX4 90 yX2_read ∈ zT := zin (i := 404) (by decide +kernel) rfl
theorem kX4_96 : Cond.methodLink RX4 96 yX4_doThing ∈ zT := zin (i := 428) (by decide +kernel) rfl
theorem kX4_112 : Cond.methodLink RX4 112 yX0_giveBack ∈ zT := zin (i := 440) (by decide +kernel) rfl
theorem kX4_119 : Cond.methodLink RX4 119 yX1_tellSnail ∈ zT := zin (i := 456) (by decide +kernel) rfl
theorem kX4_122 : Cond.methodLink RX4 122 yX1_tellCell ∈ zT := zin (i := 464) (by decide +kernel) rfl
theorem kX4_125 : Cond.methodLink RX4 125 yX1_knows ∈ zT := zin (i := 472) (by decide +kernel) rfl
theorem kX4_132 : Cond.methodLink RX4 132 yX1_creeps ∈ zT := zin (i := 474) (by decide +kernel) rfl
theorem kX4_135 : Cond.methodLink RX4 135 yX1_stepCost ∈ zT := zin (i := 475) (by decide +kernel) rfl
theorem kX4_138 : Cond.methodLink RX4 138 yX1_choice ∈ zT := zin (i := 480) (by decide +kernel) rfl
theorem kX4_141 : Cond.methodLink RX4 141 yX4_cellAt ∈ zT := zin (i := 485) (by decide +kernel) rfl
theorem kX4_144 : Cond.methodLink RX4 144 yX1_whyNoHelp ∈ zT := zin (i := 486) (by decide +kernel) rfl
theorem kX4_147 : Cond.methodLink RX4 147 yX1_hasEnded ∈ zT := zin (i := 491) (by decide +kernel) rfl
theorem kX4_150 : Cond.methodLink RX4 150 yX1_passUntilEnd ∈ zT := zin (i := 495) (by decide +kernel) rfl
theorem kX4_153 : Cond.methodLink RX4 153 yX3_fromRimDown ∈ zT := zin (i := 504) (by decide +kernel) rfl
theorem kX4_157 : Cond.methodLink RX4 157 yX3_leastSumFirst ∈ zT := zin (i := 517) (by decide +kernel) rfl
theorem kX4_160 : Cond.methodLink RX4 160 yX1_findLeader ∈ zT := zin (i := 534) (by decide +kernel) rfl
theorem kX4_163 : Cond.methodLink RX4 163 yX1_tellOwed ∈ zT := zin (i := 546) (by decide +kernel) rfl
theorem kX4_166 : Cond.methodLink RX4 166 yX4_turnsFrom ∈ zT := zin (i := 554) (by decide +kernel) rfl
theorem kX4_169 : Cond.methodLink RX4 169 yX1_snailOn ∈ zT := zin (i := 558) (by decide +kernel) rfl
theorem kX4_172 : Cond.methodLink RX4 172 yX1_addSnail ∈ zT := zin (i := 559) (by decide +kernel) rfl
theorem kX4_181 : Cond.methodLink RX4 181 yX1_tellCount ∈ zT := zin (i := 564) (by decide +kernel) rfl
theorem kX4_184 : Cond.methodLink RX4 184 Lib.Math.min.name ∈ zT := zin (i := 253) (by decide +kernel) rfl
theorem kX4_189 : Cond.methodLink RX4 189 arraycopyName ∈ zT := zin (i := 256) (by decide +kernel) rfl
theorem kX0_25 : Cond.methodLink RX0 25 yX0_stateAt ∈ zT := zin (i := 279) (by decide +kernel) rfl
theorem kX0_29 : Cond.methodLink RX0 29 yX1_copyFrom ∈ zT := zin (i := 283) (by decide +kernel) rfl
theorem kX0_33 : Cond.methodLink RX0 33 Lib.Math.min.name ∈ zT := zin (i := 284) (by decide +kernel) rfl
theorem kX1_74 : Cond.methodLink RX1 74 yfill ∈ zT := zin (i := 86) (by decide +kernel) rfl
theorem kX1_80 : Cond.methodLinkNest RX1 80 yX4_copy "SnailTrails" ∈ zTN := zinN (i := 250) (by decide +kernel) rfl
theorem kX1_84 : Cond.methodLink RX1 84 yX1_snailOn ∈ zT := zin (i := 263) (by decide +kernel) rfl
theorem kX1_88 : Cond.methodLink RX1 88 yX1_addSnail ∈ zT := zin (i := 267) (by decide +kernel) rfl
theorem kX1_91 : Cond.methodLink RX1 91 yX1_knows ∈ zT := zin (i := 293) (by decide +kernel) rfl
theorem kX1_95 : Cond.methodLink RX1 95 yX1_creeps ∈ zT := zin (i := 297) (by decide +kernel) rfl
theorem kX1_98 : Cond.methodLinkNest RX1 98 yX4_cellAt "SnailTrails" ∈ zTN := zinN (i := 309) (by decide +kernel) rfl
theorem kX1_101 : Cond.methodLink RX1 101 yX1_clearTrail ∈ zT := zin (i := 312) (by decide +kernel) rfl
theorem kX1_111 : Cond.methodLink RX1 111 yX1_dryTrails ∈ zT := zin (i := 328) (by decide +kernel) rfl
theorem kX1_115 : Cond.methodLink RX1 115 yX1_howManyAre ∈ zT := zin (i := 341) (by decide +kernel) rfl
theorem kX1_119 : Cond.methodLink RX1 119 yX1_passTurn ∈ zT := zin (i := 345) (by decide +kernel) rfl
theorem kX1_122 : Cond.methodLink RX1 122 yX1_hasEnded ∈ zT := zin (i := 499) (by decide +kernel) rfl
theorem kX1_125 : Cond.methodLink RX1 125 yX1_choice ∈ zT := zin (i := 349) (by decide +kernel) rfl
theorem kX1_131 : Cond.methodLink RX1 131 yX1_takeStep ∈ zT := zin (i := 367) (by decide +kernel) rfl
theorem kX1_135 : Cond.methodLink RX1 135 yX1_rest ∈ zT := zin (i := 375) (by decide +kernel) rfl
theorem kX1_138 : Cond.methodLink RX1 138 yX1_growFrost ∈ zT := zin (i := 380) (by decide +kernel) rfl
theorem kX1_141 : Cond.methodLink RX1 141 yX1_stepCost ∈ zT := zin (i := 355) (by decide +kernel) rfl
theorem kX1_144 : Cond.methodLink RX1 144 yX1_whyNoHelp ∈ zT := zin (i := 359) (by decide +kernel) rfl
theorem kX1_147 : Cond.methodLink RX1 147 yX1_priceOf ∈ zT := zin (i := 363) (by decide +kernel) rfl
theorem kX1_150 : Cond.methodLink RX1 150 yX1_noteLender ∈ zT := zin (i := 371) (by decide +kernel) rfl
theorem kX1_153 : Cond.methodLink RX1 153 Lib.Math.min.name ∈ zT := zin (i := 379) (by decide +kernel) rfl
theorem kX1_158 : Cond.methodLink RX1 158 yX1_howManyTrails ∈ zT := zin (i := 568) (by decide +kernel) rfl
theorem kX1_162 : Cond.methodLinkNest RX1 162 yX4_sum "SnailTrails" ∈ zTN := zinN (i := 572) (by decide +kernel) rfl
theorem kX1_166 : Cond.methodLink RX1 166 yX1_isAhead ∈ zT := zin (i := 538) (by decide +kernel) rfl
theorem kX2_38 : Cond.methodLink RX2 38 yX2_readThing ∈ zT := zin (i := 408) (by decide +kernel) rfl
theorem kX2_42 : Cond.methodLink RX2 42 yX2_readSign ∈ zT := zin (i := 424) (by decide +kernel) rfl
theorem kX2_46 : Cond.methodLink RX2 46 yX2_signHere ∈ zT := zin (i := 412) (by decide +kernel) rfl
theorem kX2_50 : Cond.methodLink RX2 50 yX2_readNumber ∈ zT := zin (i := 416) (by decide +kernel) rfl
theorem kX2_54 : Cond.methodLink RX2 54 yX2_digitHere ∈ zT := zin (i := 420) (by decide +kernel) rfl
theorem kX3_18 : Cond.methodLinkNest RX3 18 yX4_cellAt "SnailTrails" ∈ zTN := zinN (i := 508) (by decide +kernel) rfl
theorem kX3_22 : Cond.methodLink RX3 22 yX3_leastAbove ∈ zT := zin (i := 509) (by decide +kernel) rfl
theorem kX3_30 : Cond.methodLink RX3 30 yX1_priceOf ∈ zT := zin (i := 515) (by decide +kernel) rfl
theorem kX3_36 : Cond.methodLink RX3 36 Lib.Math.min.name ∈ zT := zin (i := 516) (by decide +kernel) rfl
theorem kX3_41 : Cond.methodLink RX3 41 yfill ∈ zT := zin (i := 521) (by decide +kernel) rfl
theorem kX3_47 : Cond.methodLink RX3 47 yX3_nearest ∈ zT := zin (i := 522) (by decide +kernel) rfl
theorem kX3_51 : Cond.methodLink RX3 51 yX3_reachAbove ∈ zT := zin (i := 526) (by decide +kernel) rfl
theorem kX5_32 : Cond.methodLink RX5 32 yX5_in ∈ zT := zin (i := 650) (by decide +kernel) rfl
theorem kX5_36 : Cond.methodLink RX5 36 yX5_isLane ∈ zT := zin (i := 647) (by decide +kernel) rfl
theorem kX5_40 : Cond.methodLink RX5 40 yX5_of ∈ zT := zin (i := 661) (by decide +kernel) rfl
theorem kX5_48 : Cond.methodLink RX5 48 yX5_creeps ∈ zT := zin (i := 657) (by decide +kernel) rfl
theorem kX5_51 : Cond.methodLink RX5 51 yX5_snailOn ∈ zT := zin (i := 653) (by decide +kernel) rfl
theorem kX5_54 : Cond.methodLink RX5 54 yX5_barSnail ∈ zT := zin (i := 643) (by decide +kernel) rfl
theorem kX5_57 : Cond.methodLink RX5 57 yX5_records ∈ zT := zin (i := 664) (by decide +kernel) rfl
theorem kX5_60 : Cond.methodLink RX5 60 yX5_comes ∈ zT := zin (i := 668) (by decide +kernel) rfl
theorem kX5_63 : Cond.methodLink RX5 63 yX5_isSnail ∈ zT := zin (i := 676) (by decide +kernel) rfl
theorem kX5_66 : Cond.methodLink RX5 66 yX5_isCell ∈ zT := zin (i := 688) (by decide +kernel) rfl
theorem kX5_70 : Cond.methodLink RX5 70 yX5_at ∈ zT := zin (i := 691) (by decide +kernel) rfl
theorem kX5_73 : Cond.methodLink RX5 73 yX5_barFrost ∈ zT := zin (i := 684) (by decide +kernel) rfl
theorem kX5_77 : Cond.methodLink RX5 77 yX5_freezes ∈ zT := zin (i := 694) (by decide +kernel) rfl
theorem kX5_80 : Cond.methodLink RX5 80 yX5_most ∈ zT := zin (i := 702) (by decide +kernel) rfl
theorem kX5_84 : Cond.methodLink RX5 84 yX5_dries ∈ zT := zin (i := 705) (by decide +kernel) rfl
theorem kX5_87 : Cond.methodLink RX5 87 yX5_laneOf ∈ zT := zin (i := 734) (by decide +kernel) rfl
theorem kX5_90 : Cond.methodLink RX5 90 yX5_why ∈ zT := zin (i := 737) (by decide +kernel) rfl
theorem kX5_93 : Cond.methodLink RX5 93 yX5_price ∈ zT := zin (i := 730) (by decide +kernel) rfl
theorem kX5_96 : Cond.methodLink RX5 96 yX5_chooses ∈ zT := zin (i := 726) (by decide +kernel) rfl
theorem kX5_99 : Cond.methodLink RX5 99 yX5_creep ∈ zT := zin (i := 741) (by decide +kernel) rfl
theorem kX5_103 : Cond.methodLink RX5 103 yX5_turn ∈ zT := zin (i := 722) (by decide +kernel) rfl
theorem kX5_107 : Cond.methodLink RX5 107 yX5_barPass ∈ zT := zin (i := 713) (by decide +kernel) rfl
theorem kX5_110 : Cond.methodLink RX5 110 yX5_passes ∈ zT := zin (i := 718) (by decide +kernel) rfl
theorem kX5_123 : Cond.methodLink RX5 123 yX5_next ∈ zT := zin (i := 765) (by decide +kernel) rfl
theorem kX5_130 : Cond.methodLink RX5 130 yX5_number ∈ zT := zin (i := 769) (by decide +kernel) rfl
theorem kX5_136 : Cond.methodLink RX5 136 yX5_sign ∈ zT := zin (i := 773) (by decide +kernel) rfl
theorem kX5_146 : Cond.methodLink RX5 146 yX5_thing ∈ zT := zin (i := 761) (by decide +kernel) rfl
theorem kX5_149 : Cond.methodLink RX5 149 yX5_things ∈ zT := zin (i := 757) (by decide +kernel) rfl
theorem kX5_152 : Cond.methodLink RX5 152 yX5_putAside ∈ zT := zin (i := 777) (by decide +kernel) rfl
theorem kX5_155 : Cond.methodLink RX5 155 yX5_doesThing ∈ zT := zin (i := 781) (by decide +kernel) rfl
theorem kX5_158 : Cond.methodLink RX5 158 yX5_putBack ∈ zT := zin (i := 785) (by decide +kernel) rfl
theorem kX5_173 : Cond.methodLink RX5 173 yX5_ends ∈ zT := zin (i := 829) (by decide +kernel) rfl
theorem kX5_176 : Cond.methodLink RX5 176 yX5_inState ∈ zT := zin (i := 853) (by decide +kernel) rfl
theorem kX5_179 : Cond.methodLink RX5 179 yX5_trails ∈ zT := zin (i := 857) (by decide +kernel) rfl
theorem kX5_182 : Cond.methodLink RX5 182 yX5_frost ∈ zT := zin (i := 861) (by decide +kernel) rfl
theorem kX5_185 : Cond.methodLink RX5 185 yX5_ofAll ∈ zT := zin (i := 865) (by decide +kernel) rfl
theorem fX4_12 : zL RX4 12 4 0 := ⟨by decide, by decide, by decide, Or.inl (zin (i := 214) (by decide +kernel) rfl)⟩
theorem fX4_16 : zL RX4 16 4 1 := ⟨by decide, by decide, by decide, Or.inl (zin (i := 215) (by decide +kernel) rfl)⟩
theorem fX4_19 : zL RX4 19 4 2 := ⟨by decide, by decide, by decide, Or.inl (zin (i := 216) (by decide +kernel) rfl)⟩
theorem fX4_22 : zL RX4 22 4 3 := ⟨by decide, by decide, by decide, Or.inl (zin (i := 217) (by decide +kernel) rfl)⟩
theorem fX4_29 : zL RX4 29 4 4 := ⟨by decide, by decide, by decide, Or.inl (zin (i := 218) (by decide +kernel) rfl)⟩
theorem fX4_36 : zL RX4 36 4 5 := ⟨by decide, by decide, by decide, Or.inl (zin (i := 219) (by decide +kernel) rfl)⟩
theorem fX4_43 : zL RX4 43 4 6 := ⟨by decide, by decide, by decide, Or.inl (zin (i := 220) (by decide +kernel) rfl)⟩
theorem fX4_47 : zL RX4 47 4 7 := ⟨by decide, by decide, by decide, Or.inl (zin (i := 221) (by decide +kernel) rfl)⟩
theorem fX4_51 : zL RX4 51 4 8 := ⟨by decide, by decide, by decide, Or.inl (zin (i := 222) (by decide +kernel) rfl)⟩
theorem fX4_93 : zL RX4 93 2 3 := ⟨by decide, by decide, by decide, Or.inr ⟨"SnailTrails", zinN (i := 174) (by decide +kernel) rfl⟩⟩
theorem fX4_99 : zL RX4 99 2 4 := ⟨by decide, by decide, by decide, Or.inr ⟨"SnailTrails", zinN (i := 176) (by decide +kernel) rfl⟩⟩
theorem fX4_103 : zL RX4 103 2 5 := ⟨by decide, by decide, by decide, Or.inr ⟨"SnailTrails", zinN (i := 178) (by decide +kernel) rfl⟩⟩
theorem fX4_106 : zL RX4 106 2 7 := ⟨by decide, by decide, by decide, Or.inr ⟨"SnailTrails", zinN (i := 182) (by decide +kernel) rfl⟩⟩
theorem fX4_109 : zL RX4 109 2 6 := ⟨by decide, by decide, by decide, Or.inr ⟨"SnailTrails", zinN (i := 180) (by decide +kernel) rfl⟩⟩
theorem fX4_116 : zL RX4 116 1 16 := ⟨by decide, by decide, by decide, Or.inr ⟨"SnailTrails", zinN (i := 106) (by decide +kernel) rfl⟩⟩
theorem sX4_129 : Cond.fieldLink RX4 129 RX4 (zm_st 0).1 "[I" ∈ zT := zin (i := 473) (by decide +kernel) rfl
theorem fX4_175 : zL RX4 175 0 1 := ⟨by decide, by decide, by decide, Or.inr ⟨"SnailTrails", zinN (i := 154) (by decide +kernel) rfl⟩⟩
theorem fX4_178 : zL RX4 178 2 1 := ⟨by decide, by decide, by decide, Or.inr ⟨"SnailTrails", zinN (i := 171) (by decide +kernel) rfl⟩⟩
theorem fX0_11 : zL RX0 11 0 0 := ⟨by decide, by decide, by decide, Or.inl (zin (i := 152) (by decide +kernel) rfl)⟩
theorem fX0_17 : zL RX0 17 0 1 := ⟨by decide, by decide, by decide, Or.inl (zin (i := 153) (by decide +kernel) rfl)⟩
theorem fX0_21 : zL RX0 21 0 2 := ⟨by decide, by decide, by decide, Or.inl (zin (i := 155) (by decide +kernel) rfl)⟩
theorem fX1_9 : zL RX1 9 1 0 := ⟨by decide, by decide, by decide, Or.inl (zin (i := 89) (by decide +kernel) rfl)⟩
theorem fX1_15 : zL RX1 15 1 1 := ⟨by decide, by decide, by decide, Or.inl (zin (i := 90) (by decide +kernel) rfl)⟩
theorem fX1_18 : zL RX1 18 1 2 := ⟨by decide, by decide, by decide, Or.inl (zin (i := 91) (by decide +kernel) rfl)⟩
theorem fX1_21 : zL RX1 21 1 3 := ⟨by decide, by decide, by decide, Or.inl (zin (i := 92) (by decide +kernel) rfl)⟩
theorem fX1_24 : zL RX1 24 1 4 := ⟨by decide, by decide, by decide, Or.inl (zin (i := 93) (by decide +kernel) rfl)⟩
theorem fX1_27 : zL RX1 27 1 5 := ⟨by decide, by decide, by decide, Or.inl (zin (i := 94) (by decide +kernel) rfl)⟩
theorem fX1_30 : zL RX1 30 1 6 := ⟨by decide, by decide, by decide, Or.inl (zin (i := 95) (by decide +kernel) rfl)⟩
theorem fX1_33 : zL RX1 33 1 7 := ⟨by decide, by decide, by decide, Or.inl (zin (i := 96) (by decide +kernel) rfl)⟩
theorem fX1_36 : zL RX1 36 1 8 := ⟨by decide, by decide, by decide, Or.inl (zin (i := 97) (by decide +kernel) rfl)⟩
theorem fX1_39 : zL RX1 39 1 9 := ⟨by decide, by decide, by decide, Or.inl (zin (i := 98) (by decide +kernel) rfl)⟩
theorem fX1_42 : zL RX1 42 1 10 := ⟨by decide, by decide, by decide, Or.inl (zin (i := 99) (by decide +kernel) rfl)⟩
theorem fX1_45 : zL RX1 45 1 11 := ⟨by decide, by decide, by decide, Or.inl (zin (i := 100) (by decide +kernel) rfl)⟩
theorem fX1_48 : zL RX1 48 1 12 := ⟨by decide, by decide, by decide, Or.inl (zin (i := 101) (by decide +kernel) rfl)⟩
theorem fX1_53 : zL RX1 53 1 13 := ⟨by decide, by decide, by decide, Or.inl (zin (i := 102) (by decide +kernel) rfl)⟩
theorem fX1_64 : zL RX1 64 1 14 := ⟨by decide, by decide, by decide, Or.inl (zin (i := 103) (by decide +kernel) rfl)⟩
theorem fX1_67 : zL RX1 67 1 15 := ⟨by decide, by decide, by decide, Or.inl (zin (i := 104) (by decide +kernel) rfl)⟩
theorem fX1_71 : zL RX1 71 1 16 := ⟨by decide, by decide, by decide, Or.inl (zin (i := 105) (by decide +kernel) rfl)⟩
theorem sX1_105 : Cond.fieldLinkNest RX1 105 RX4 (zm_st 1).1 "[I" "SnailTrails" ∈ zTN := zinN (i := 324) (by decide +kernel) rfl
theorem sX1_108 : Cond.fieldLinkNest RX1 108 RX4 (zm_st 2).1 "[I" "SnailTrails" ∈ zTN := zinN (i := 326) (by decide +kernel) rfl
theorem sX1_128 : Cond.fieldLinkNest RX1 128 RX4 (zm_st 0).1 "[I" "SnailTrails" ∈ zTN := zinN (i := 353) (by decide +kernel) rfl
theorem fX2_9 : zL RX2 9 2 0 := ⟨by decide, by decide, by decide, Or.inl (zin (i := 169) (by decide +kernel) rfl)⟩
theorem fX2_15 : zL RX2 15 2 1 := ⟨by decide, by decide, by decide, Or.inl (zin (i := 170) (by decide +kernel) rfl)⟩
theorem fX2_19 : zL RX2 19 2 2 := ⟨by decide, by decide, by decide, Or.inl (zin (i := 172) (by decide +kernel) rfl)⟩
theorem fX2_22 : zL RX2 22 2 3 := ⟨by decide, by decide, by decide, Or.inl (zin (i := 173) (by decide +kernel) rfl)⟩
theorem fX2_25 : zL RX2 25 2 4 := ⟨by decide, by decide, by decide, Or.inl (zin (i := 175) (by decide +kernel) rfl)⟩
theorem fX2_29 : zL RX2 29 2 5 := ⟨by decide, by decide, by decide, Or.inl (zin (i := 177) (by decide +kernel) rfl)⟩
theorem fX2_32 : zL RX2 32 2 6 := ⟨by decide, by decide, by decide, Or.inl (zin (i := 179) (by decide +kernel) rfl)⟩
theorem fX2_35 : zL RX2 35 2 7 := ⟨by decide, by decide, by decide, Or.inl (zin (i := 181) (by decide +kernel) rfl)⟩
theorem fX3_9 : zL RX3 9 3 0 := ⟨by decide, by decide, by decide, Or.inl (zin (i := 207) (by decide +kernel) rfl)⟩
theorem fX3_15 : zL RX3 15 3 1 := ⟨by decide, by decide, by decide, Or.inl (zin (i := 208) (by decide +kernel) rfl)⟩
theorem sX3_27 : Cond.fieldLinkNest RX3 27 RX4 (zm_st 0).1 "[I" "SnailTrails" ∈ zTN := zinN (i := 514) (by decide +kernel) rfl
theorem fX5_7 : zL RX5 7 5 0 := ⟨by decide, by decide, by decide, Or.inl (zin (i := 581) (by decide +kernel) rfl)⟩
theorem fX5_13 : zL RX5 13 5 1 := ⟨by decide, by decide, by decide, Or.inl (zin (i := 582) (by decide +kernel) rfl)⟩
theorem fX5_16 : zL RX5 16 5 2 := ⟨by decide, by decide, by decide, Or.inl (zin (i := 583) (by decide +kernel) rfl)⟩
theorem fX5_19 : zL RX5 19 5 4 := ⟨by decide, by decide, by decide, Or.inl (zin (i := 585) (by decide +kernel) rfl)⟩
theorem fX5_22 : zL RX5 22 5 6 := ⟨by decide, by decide, by decide, Or.inl (zin (i := 587) (by decide +kernel) rfl)⟩
theorem fX5_26 : zL RX5 26 5 17 := ⟨by decide, by decide, by decide, Or.inl (zin (i := 598) (by decide +kernel) rfl)⟩
theorem fX5_29 : zL RX5 29 5 18 := ⟨by decide, by decide, by decide, Or.inl (zin (i := 599) (by decide +kernel) rfl)⟩
theorem fX5_44 : zL RX5 44 5 3 := ⟨by decide, by decide, by decide, Or.inl (zin (i := 584) (by decide +kernel) rfl)⟩
theorem fX5_113 : zL RX5 113 5 7 := ⟨by decide, by decide, by decide, Or.inl (zin (i := 588) (by decide +kernel) rfl)⟩
theorem fX5_116 : zL RX5 116 5 11 := ⟨by decide, by decide, by decide, Or.inl (zin (i := 592) (by decide +kernel) rfl)⟩
theorem fX5_119 : zL RX5 119 5 12 := ⟨by decide, by decide, by decide, Or.inl (zin (i := 593) (by decide +kernel) rfl)⟩
theorem fX5_127 : zL RX5 127 5 13 := ⟨by decide, by decide, by decide, Or.inl (zin (i := 594) (by decide +kernel) rfl)⟩
theorem fX5_133 : zL RX5 133 5 14 := ⟨by decide, by decide, by decide, Or.inl (zin (i := 595) (by decide +kernel) rfl)⟩
theorem fX5_140 : zL RX5 140 5 15 := ⟨by decide, by decide, by decide, Or.inl (zin (i := 596) (by decide +kernel) rfl)⟩
theorem fX5_143 : zL RX5 143 5 16 := ⟨by decide, by decide, by decide, Or.inl (zin (i := 597) (by decide +kernel) rfl)⟩
theorem fX5_161 : zL RX5 161 5 8 := ⟨by decide, by decide, by decide, Or.inl (zin (i := 589) (by decide +kernel) rfl)⟩
theorem fX5_164 : zL RX5 164 5 9 := ⟨by decide, by decide, by decide, Or.inl (zin (i := 590) (by decide +kernel) rfl)⟩
theorem fX5_167 : zL RX5 167 5 10 := ⟨by decide, by decide, by decide, Or.inl (zin (i := 591) (by decide +kernel) rfl)⟩
theorem fX5_170 : zL RX5 170 5 5 := ⟨by decide, by decide, by decide, Or.inl (zin (i := 586) (by decide +kernel) rfl)⟩
theorem qX1_114 : Cond.constant RX1 114 (Int32.ofInt 99999) ∈ zT := zin (i := 340) (by decide +kernel) rfl
theorem qX3_26 : Cond.constant RX3 26 (Int32.ofInt 1000000) ∈ zT := zin (i := 513) (by decide +kernel) rfl
theorem qX5_106 : Cond.constant RX5 106 (Int32.ofInt 99999) ∈ zT := zin (i := 717) (by decide +kernel) rfl
theorem pMinS : Cond.static Lib.Math.min.name ∈ zT := zin (i := 254) (by decide +kernel) rfl
theorem pMinC : Cond.code Lib.Math.min.name Lib.Math.min.code 2 (some .int) ∈ zT := zin (i := 255) (by decide +kernel) rfl
theorem pMinI : Cond.initialized "java/lang/Math" ∈ zT := zin (i := 59) (by decide +kernel) rfl
theorem pCpyN : Cond.native arraycopyName ∈ zT := zin (i := 258) (by decide +kernel) rfl
theorem pCpyS : Cond.static arraycopyName ∈ zT := zin (i := 257) (by decide +kernel) rfl
theorem pCpyI : Cond.initialized "java/lang/System" ∈ zT := zin (i := 60) (by decide +kernel) rfl
end
section
/-! ===== positions ===== -/
theorem zP_r0 {p : Int} (h : zP p) : 0 ≤ p ∧ p < 195 := by obtain ⟨h1, h2, h3⟩ := h; omega
theorem zP_r {p : Int} (h : zP p) (i : Int) (hi : 0 ≤ i ∧ i < 25) : 0 ≤ p + i ∧ p + i < 195 := by obtain ⟨h1, h2, h3⟩ := h; omega
theorem zP_0 : zP 0 := by unfold zP; omega
theorem zP_25 : zP 25 := by unfold zP; omega
theorem zP_50 : zP 50 := by unfold zP; omega
theorem zP_75 : zP 75 := by unfold zP; omega
theorem zP_100 : zP 100 := by unfold zP; omega
theorem zP_125 : zP 125 := by unfold zP; omega
theorem zP_150 : zP 150 := by unfold zP; omega
theorem zsh175 : zm_sh 175 = .inr (.inl (4, [some (-175), some (-150), some (-125), none, some (1), some (3), some (9), none, none])) := rfl
theorem zsh176 : zm_sh 176 = .inr (.inl (0, [some (1), none, none])) := rfl
theorem zsh177 : zm_sh 177 = .inr (.inr (3, -102, 25, 4)) := rfl
theorem zsh178 : zm_sh 178 = .inr (.inl (2, [some (1), none, none, none, some (2), some (3), some (4), some (5)])) := rfl
theorem zsh179 : zm_sh 179 = .inl (1, 60) := rfl
theorem zsh180 : zm_sh 180 = .inl (0, 21) := rfl
theorem zsh181 : zm_sh 181 = .inl (0, 21) := rfl
theorem zsh182 : zm_sh 182 = .inl (0, 21) := rfl
theorem zsh183 : zm_sh 183 = .inl (0, 21) := rfl
theorem zsh184 : zm_sh 184 = .inr (.inl (3, [some (1), some (2)])) := rfl
theorem zsh185 : zm_sh 185 = .inl (0, 120) := rfl
theorem zsh186 : zm_sh 186 = .inl (0, 120) := rfl
theorem zsh187 : zm_sh 187 = .inr (.inl (5, [some (1), some (2), some (3), none, some (4), none, some (5), none, none, none, none, none, none, none, none, none, none, some (6), some (7)])) := rfl
theorem zsh188 : zm_sh 188 = .inl (0, 538) := rfl
theorem zsh189 : zm_sh 189 = .inl (0, 538) := rfl
theorem zsh190 : zm_sh 190 = .inl (0, 2152) := rfl
theorem zsh191 : zm_sh 191 = .inl (0, 538) := rfl
theorem zsh192 : zm_sh 192 = .inl (1, 60) := rfl
theorem zsh193 : zm_sh 193 = .inl (0, 6) := rfl
theorem zsh194 : zm_sh 194 = .inl (0, 6) := rfl
theorem zsh_row {p x : Int} (h : zP p) (hx : 0 ≤ x ∧ x < 9) : zm_sh (p + 15 + x) = .inl (0, 9) := by
  have e := zm_sh_p h (15 + x) (by omega)
  rw [← Int.add_assoc] at e
  rw [e]
  rcases (show x = 0 ∨ x = 1 ∨ x = 2 ∨ x = 3 ∨ x = 4 ∨ x = 5 ∨ x = 6 ∨ x = 7 ∨ x = 8 by omega) with rfl | rfl | rfl | rfl | rfl | rfl | rfl | rfl | rfl <;> rfl
theorem zr_row {p x : Int} (h : zP p) (hx : 0 ≤ x ∧ x < 9) : 0 ≤ p + 15 + x ∧ p + 15 + x < 195 := by obtain ⟨h1, h2, h3⟩ := h; omega
theorem zsub' {G : zG} {Y : zY} {Q : Option zV → zM → Prop} {pc : Nat} {lo l2 : List (Nat × zV)} {st : List zV} {M : zM} (k : zW G Y Q pc l2 st M) (h : zall lo l2) : zW G Y Q pc lo st M := zsub h k
/-! ===== the reference's row of numbers, apart from all else ===== -/
abbrev zS : Type := Int → Int
def zu (σ : zS) (i v : Int) : zS := fun j => if j = i then v else σ j
theorem zu_at {σ : zS} {i v : Int} : zu σ i v i = v := by simp [zu]
theorem zu_ne {σ : zS} {i v j : Int} (h : j ≠ i) : zu σ i v j = σ j := by simp [zu, h]
def zt (M : zM) (σ : zS) : zM := fun a => if a = 188 then σ else M a
theorem zt_s (M : zM) (σ : zS) : zt M σ 188 = σ := if_pos rfl
theorem zt_o (M : zM) (σ : zS) {a : Int} (h : a ≠ 188) : zt M σ a = M a := if_neg h
theorem zt_self (M : zM) : zt M (M 188) = M := by
  funext a
  by_cases h : a = 188
  · subst h; exact zt_s M _
  · exact zt_o M _ h
theorem zt_up (M : zM) (σ : zS) (i v : Int) : zm_up (zt M σ) 188 i v = zt M (zu σ i v) := by
  funext a j
  by_cases h : a = 188
  · subst h
    rw [zt_s]
    simp [zm_up, zt_s, zu]
  · rw [zt_o M _ h, zm_up_off h, zt_o M _ h]
theorem zt_upo (M : zM) (σ : zS) {a : Int} (h : a ≠ 188) (i v : Int) : zm_up (zt M σ) a i v = zt (zm_up M a i v) σ := by
  funext b j
  by_cases hb : b = 188
  · subst hb
    rw [zt_s, zm_up_off (Ne.symm h), zt_s]
  · rw [zt_o _ _ hb]
    unfold zm_up
    rw [zt_o M σ hb]
theorem zt_zt (M : zM) (σ τ : zS) : zt (zt M σ) τ = zt M τ := by
  funext a
  by_cases h : a = 188
  · subst h; rw [zt_s, zt_s]
  · rw [zt_o _ _ h, zt_o _ _ h, zt_o _ _ h]
section ZT
variable {G : zG} {Y : zY} {Q : Option zV → zM → Prop} {pc : Nat} {lo : List (Nat × zV)} {st : List zV} {M : zM} {σ : zS}
theorem z_sload {i : Int} (hd : decode Y.2.1 pc = .ok (.iaload, 1)) (hi : 0 ≤ i ∧ i < 538)
    (k : zW G Y Q (pc + 1) lo (.inl (σ i) :: st) (zt M σ)) : zW G Y Q pc lo (.inl i :: .inr (some 188) :: st) (zt M σ) := by
  refine z_iaload hd (by decide) zsh188 hi (by decide) ?_
  rw [zt_s]
  exact k
theorem z_sstore {i x : Int} (hd : decode Y.2.1 pc = .ok (.iastore, 1)) (hi : 0 ≤ i ∧ i < 538)
    (k : ∀ σ1 : zS, σ1 = zu σ i x → zW G Y Q (pc + 1) lo st (zt M σ1)) : zW G Y Q pc lo (.inl x :: .inl i :: .inr (some 188) :: st) (zt M σ) := by
  refine z_iastore hd (by decide) zsh188 hi (by decide) ?_
  rw [zt_up]
  exact k _ rfl
theorem z_oload {a i : Int} {n : Nat} (hd : decode Y.2.1 pc = .ok (.iaload, 1)) (hne : a ≠ 188) (ha : 0 ≤ a ∧ a < 195) (hs : zm_sh a = .inl (0, n)) (hi : 0 ≤ i ∧ i < n) (hn : n < 2147483648)
    (k : zW G Y Q (pc + 1) lo (.inl (M a i) :: st) (zt M σ)) : zW G Y Q pc lo (.inl i :: .inr (some a) :: st) (zt M σ) := by
  refine z_iaload hd ha hs hi hn ?_
  rw [zt_o M σ hne]
  exact k
theorem z_ocload {a i : Int} {n : Nat} (hd : decode Y.2.1 pc = .ok (.caload, 1)) (hne : a ≠ 188) (ha : 0 ≤ a ∧ a < 195) (hs : zm_sh a = .inl (1, n)) (hi : 0 ≤ i ∧ i < n) (hn : n < 2147483648)
    (k : zW G Y Q (pc + 1) lo (.inl (M a i) :: st) (zt M σ)) : zW G Y Q pc lo (.inl i :: .inr (some a) :: st) (zt M σ) := by
  refine z_caload hd ha hs hi hn ?_
  rw [zt_o M σ hne]
  exact k
theorem z_ostore {a i x : Int} {n : Nat} (hd : decode Y.2.1 pc = .ok (.iastore, 1)) (hne : a ≠ 188) (ha : 0 ≤ a ∧ a < 195) (hs : zm_sh a = .inl (0, n)) (hi : 0 ≤ i ∧ i < n) (hn : n < 2147483648)
    (k : ∀ M1 : zM, M1 = zm_up M a i x → zW G Y Q (pc + 1) lo st (zt M1 σ)) : zW G Y Q pc lo (.inl x :: .inl i :: .inr (some a) :: st) (zt M σ) := by
  refine z_iastore hd ha hs hi hn ?_
  rw [zt_upo M σ hne]
  exact k _ rfl
theorem z_ocstore {a i x : Int} {n : Nat} (hd : decode Y.2.1 pc = .ok (.castore, 1)) (hne : a ≠ 188) (ha : 0 ≤ a ∧ a < 195) (hs : zm_sh a = .inl (1, n)) (hi : 0 ≤ i ∧ i < n) (hn : n < 2147483648) (hx : 0 ≤ x ∧ x < 65536)
    (k : ∀ M1 : zM, M1 = zm_up M a i x → zW G Y Q (pc + 1) lo st (zt M1 σ)) : zW G Y Q pc lo (.inl x :: .inl i :: .inr (some a) :: st) (zt M σ) := by
  refine z_castore hd ha hs hi hn hx ?_
  rw [zt_upo M σ hne]
  exact k _ rfl
theorem z_oget {a kI : Int} {ci k index : Nat} {fs : List (Option Int)} (hd : decode Y.2.1 pc = .ok (.getfield index, 3)) (hL : zL Y.1 index ci k) (hne : a ≠ 188) (ha : 0 ≤ a ∧ a < 195) (hs : zm_sh a = .inr (.inl (ci, fs))) (hf : fs[k]? = some none) (hki : (k : Int) = kI)
    (kk : zW G Y Q (pc + 3) lo (.inl (M a kI) :: st) (zt M σ)) : zW G Y Q pc lo (.inr (some a) :: st) (zt M σ) := by
  refine z_getI hd hL ha hs hf hki ?_
  rw [zt_o M σ hne]
  exact kk
theorem z_oput {a x kI : Int} {ci k index : Nat} {fs : List (Option Int)} (hd : decode Y.2.1 pc = .ok (.putfield index, 3)) (hL : zL Y.1 index ci k) (hfin : ((zm_cR ci).2.1 k).2.2.2 = false) (hty : zTk (zm_cT ci k) x) (hne : a ≠ 188) (ha : 0 ≤ a ∧ a < 195) (hs : zm_sh a = .inr (.inl (ci, fs))) (hf : fs[k]? = some none) (hki : (k : Int) = kI)
    (kk : ∀ M1 : zM, M1 = zm_up M a kI x → zW G Y Q (pc + 3) lo st (zt M1 σ)) : zW G Y Q pc lo (.inl x :: .inr (some a) :: st) (zt M σ) := by
  refine z_put hd hL hfin hty ha hs hf hki ?_
  rw [zt_upo M σ hne]
  exact kk _ rfl
end ZT
/-! ===== the rules, over the reference's row of numbers ===== -/
/-- a loop from k up to m -/
def zforN {α : Type} (f : Int → α → α) : Nat → Int → α → α
  | 0, _, a => a
  | n + 1, k, a => zforN f n (k + 1) (f k a)
def zfor {α : Type} (f : Int → α → α) (k m : Int) (a : α) : α := zforN f (m - k).toNat k a
theorem zfor_end {α : Type} {f : Int → α → α} {k m : Int} {a : α} (h : m ≤ k) : zfor f k m a = a := by
  unfold zfor
  rw [show (m - k).toNat = 0 by omega]
  rfl
theorem zfor_step {α : Type} {f : Int → α → α} {k m : Int} {a : α} (h : k < m) : zfor f k m a = zfor f (k + 1) m (f k a) := by
  unfold zfor
  rw [show (m - k).toNat = (m - (k + 1)).toNat + 1 by omega]
  rfl
/-- the first from k up to m, or -5 -/
def zfindN (P : Int → Bool) : Nat → Int → Int
  | 0, _ => -5
  | n + 1, k => if P k = true then k else zfindN P n (k + 1)
def zfind (P : Int → Bool) (k m : Int) : Int := zfindN P (m - k).toNat k
theorem zfind_end {P : Int → Bool} {k m : Int} (h : m ≤ k) : zfind P k m = -5 := by
  unfold zfind
  rw [show (m - k).toNat = 0 by omega]
  rfl
theorem zfind_step {P : Int → Bool} {k m : Int} (h : k < m) : zfind P k m = if P k = true then k else zfind P (k + 1) m := by
  unfold zfind
  rw [show (m - k).toNat = (m - (k + 1)).toNat + 1 by omega]
  rfl
theorem zfind_r (P : Int → Bool) : ∀ (n : Nat) (k m : Int), m ≤ k + n → zfind P k m = -5 ∨ (k ≤ zfind P k m ∧ zfind P k m < m)
  | 0, k, m, h => Or.inl (zfind_end (by omega))
  | n + 1, k, m, h => by
    by_cases hk : k < m
    · rw [zfind_step hk]
      split
      · right; omega
      · have := zfind_r P n (k + 1) m (by omega)
        omega
    · exact Or.inl (zfind_end (by omega))
/-- the snail on a cell, or -5 -/
def sOnP (σ : zS) (lane row k : Int) : Bool := decide (σ (360 + 10 * k + 3) = 0 ∧ σ (360 + 10 * k + 0) = lane ∧ σ (360 + 10 * k + 1) = row)
def sOn (σ : zS) (lane row : Int) : Int := zfind (sOnP σ lane row) 0 (σ 535)
theorem sOnP_t {σ : zS} {lane row k : Int} (h : σ (360 + 10 * k + 3) = 0 ∧ σ (360 + 10 * k + 0) = lane ∧ σ (360 + 10 * k + 1) = row) : sOnP σ lane row k = true := decide_eq_true h
theorem sOnP_f {σ : zS} {lane row k : Int} (h : ¬ (σ (360 + 10 * k + 3) = 0 ∧ σ (360 + 10 * k + 0) = lane ∧ σ (360 + 10 * k + 1) = row)) : ¬ sOnP σ lane row k = true := fun q => h (of_decide_eq_true q)
def sWhy (σ : zS) (k c : Int) : Int := if σ (120 + c) - 1 < 0 then 1 else if σ (120 + c) - 1 = k then 2 else if σ (360 + 10 * k + 8) = σ (120 + c) - 1 + 1 ∧ σ (360 + 10 * k + 9) ≥ σ 532 then 3 else 0
def sLn (lane step : Int) : Int := if step = 0 then lane else if step = 1 then lane - 1 else lane + 1
theorem sLn_r {lane : Int} (h : 0 ≤ lane ∧ lane ≤ 5) (step : Int) : -1 ≤ sLn lane step ∧ sLn lane step ≤ 6 := by
  unfold sLn
  repeat' split
  all_goals omega
/-- what a step costs, or -5 -/
def sPr (σ : zS) (k step : Int) : Int :=
  if (0 ≤ sLn (σ (360 + 10 * k + 0)) step ∧ sLn (σ (360 + 10 * k + 0)) step ≤ 5) ∧ (0 ≤ σ (360 + 10 * k + 1) + 1 ∧ σ (360 + 10 * k + 1) + 1 ≤ 19) then
    if sOn σ (sLn (σ (360 + 10 * k + 0)) step) (σ (360 + 10 * k + 1) + 1) ≠ -5 then -5
    else if sWhy σ k (6 * (σ (360 + 10 * k + 1) + 1) + sLn (σ (360 + 10 * k + 0)) step) = 0 ∨ sWhy σ k (6 * (σ (360 + 10 * k + 1) + 1) + sLn (σ (360 + 10 * k + 0)) step) = 2 then 1
    else 1 + σ (6 * (σ (360 + 10 * k + 1) + 1) + sLn (σ (360 + 10 * k + 0)) step)
  else -5
/-- what always holds of the row of numbers: of cells, of snails, of settings -/
def zIc (σ : zS) (c : Int) : Prop := 0 ≤ σ c ∧ σ c ≤ 9 ∧ 0 ≤ σ (120 + c) ∧ σ (120 + c) ≤ 9 ∧ 0 ≤ σ (240 + c) ∧ σ (240 + c) ≤ 100
def zIk (σ : zS) (k : Int) : Prop := (0 ≤ σ (360 + 10 * k + 0) ∧ σ (360 + 10 * k + 0) ≤ 5) ∧ (0 ≤ σ (360 + 10 * k + 1) ∧ σ (360 + 10 * k + 1) ≤ 19) ∧ (0 ≤ σ (360 + 10 * k + 2) ∧ σ (360 + 10 * k + 2) ≤ 99) ∧ (0 ≤ σ (360 + 10 * k + 3) ∧ σ (360 + 10 * k + 3) ≤ 2) ∧ (0 ≤ σ (360 + 10 * k + 8) ∧ σ (360 + 10 * k + 8) ≤ 9) ∧ (0 ≤ σ (360 + 10 * k + 9) ∧ σ (360 + 10 * k + 9) ≤ σ (360 + 10 * k + 1))
def zIs (σ : zS) : Prop := (0 ≤ σ 531 ∧ σ 531 ≤ 99) ∧ (1 ≤ σ 532 ∧ σ 532 ≤ 9) ∧ (1 ≤ σ 533 ∧ σ 533 ≤ 20) ∧ (1 ≤ σ 534 ∧ σ 534 ≤ 50) ∧ (0 ≤ σ 535 ∧ σ 535 ≤ 9)
def zI (σ : zS) : Prop := zIs σ ∧ (∀ c : Int, 0 ≤ c → c < 120 → zIc σ c) ∧ (∀ k : Int, 0 ≤ k → k < 9 → zIk σ k)
theorem sOn_r {σ : zS} (hI : zI σ) (lane row : Int) : sOn σ lane row = -5 ∨ (0 ≤ sOn σ lane row ∧ sOn σ lane row < σ 535) := by
  have h2 := hI.1.2.2.2.2
  exact zfind_r _ (σ 535).toNat 0 (σ 535) (by omega)
theorem sWhy_r (σ : zS) (k c : Int) : 0 ≤ sWhy σ k c ∧ sWhy σ k c ≤ 3 := by
  unfold sWhy
  repeat' split
  all_goals omega
theorem sPr_r {σ : zS} (hI : zI σ) {k : Int} (hk : 0 ≤ k ∧ k < 9) (step : Int) : sPr σ k step = -5 ∨ (1 ≤ sPr σ k step ∧ sPr σ k step ≤ 10) := by
  have hk9 := hI.2.2 k hk.1 hk.2
  unfold zIk at hk9
  unfold sPr
  generalize sLn (σ (360 + 10 * k + 0)) step = x
  split
  · split
    · left; rfl
    · split
      · right; omega
      · have hc := hI.2.1 (6 * (σ (360 + 10 * k + 1) + 1) + x) (by omega) (by omega)
        unfold zIc at hc
        right; omega
  · left; rfl
/-- why a snail can't be set, or 0 -/
def sBarS (σ : zS) (lane slime : Int) : Int := if ¬ (0 ≤ lane ∧ lane ≤ 5) then -1 else if ¬ (0 ≤ slime ∧ slime ≤ 99) then -2 else if sOn σ lane 0 ≠ -5 then -4 else if σ 535 = 8 then -3 else 0
def sMost (w : Int) : Int := if w = 0 then 99 else if w = 1 then 9 else if w = 2 then 20 else 50
/-- the choice of a step -/
def sCs (σ : zS) (k s f : Int) : Int := if sPr σ k s ≠ -5 ∧ (f = 4 ∨ sPr σ k s < sPr σ k f) then s else f
def sCb (σ : zS) (k : Int) : Int := zfor (sCs σ k) 0 3 4
def sCh (σ : zS) (k : Int) : Int := if sCb σ k < 4 ∧ sPr σ k (sCb σ k) > σ (360 + 10 * k + 2) then 3 else sCb σ k
/-- a step: what it costs, that it was, whose trail it borrows, the trail that is left, the row, the end -/
def sC1 (σ : zS) (k step : Int) : zS := zu σ (360 + 10 * k + 2) (σ (360 + 10 * k + 2) - sPr σ k step)
def sC2 (σ : zS) (k : Int) : zS := zu σ (360 + 10 * k + 5) (σ (360 + 10 * k + 5) + 1)
def sCrA (σ : zS) (k w : Int) : zS := zu (zu σ (360 + 10 * k + 9) (if σ (360 + 10 * k + 8) = w then σ (360 + 10 * k + 9) + 1 else 1)) (360 + 10 * k + 8) w
def sCrC (σ : zS) (k : Int) : zS := zu σ (360 + 10 * k + 6) (σ (360 + 10 * k + 6) + 1)
def sCrD (σ : zS) (k w : Int) : zS := zu σ (450 + 9 * k + w - 1) (σ (450 + 9 * k + w - 1) + 1)
def sC3 (σ : zS) (k y w : Int) : zS := if y = 0 then sCrD (sCrC (sCrA σ k w) k) k w else zu (zu σ (360 + 10 * k + 8) 0) (360 + 10 * k + 9) 0
def sC4 (σ : zS) (k c0 ln : Int) : zS := zu (zu (zu σ (120 + c0) (k + 1)) (240 + c0) 0) (360 + 10 * k + 0) ln
def sC5 (σ : zS) (k : Int) : zS := zu σ (360 + 10 * k + 1) (σ (360 + 10 * k + 1) + 1)
def sC7 (σ : zS) (k : Int) : zS := zu (zu σ 537 (σ 537 + 1)) (360 + 10 * k + 3) 1
def sC6 (σ : zS) (k : Int) : zS := if σ (360 + 10 * k + 1) = 19 then zu (sC7 σ k) (360 + 10 * k + 4) ((sC7 σ k) 537) else σ
def sTo (σ : zS) (k step : Int) : Int := 6 * (σ (360 + 10 * k + 1) + 1) + sLn (σ (360 + 10 * k + 0)) step
def sFrom (σ : zS) (k : Int) : Int := 6 * σ (360 + 10 * k + 1) + σ (360 + 10 * k + 0)
def sCreep (σ : zS) (k step : Int) : zS := sC6 (sC5 (sC4 (sC3 (sC2 (sC1 σ k step) k) k (sWhy σ k (sTo σ k step)) ((sC2 (sC1 σ k step) k) (120 + sTo σ k step))) k (sFrom σ k) (sLn (σ (360 + 10 * k + 0)) step)) k) k
/-- a rest -/
def sC8 (σ : zS) (k : Int) : zS := zu (zu σ (360 + 10 * k + 2) (if σ (360 + 10 * k + 2) + σ 533 > 99 then 99 else σ (360 + 10 * k + 2) + σ 533)) (360 + 10 * k + 7) ((zu σ (360 + 10 * k + 2) (if σ (360 + 10 * k + 2) + σ 533 > 99 then 99 else σ (360 + 10 * k + 2) + σ 533)) (360 + 10 * k + 7) + 1)
def sRest (σ : zS) (k : Int) : zS := zu (zu (sC8 σ k) (360 + 10 * k + 8) 0) (360 + 10 * k + 9) 0
theorem sPr_ok {σ : zS} {k step : Int} (h : sPr σ k step ≠ -5) : (0 ≤ sLn (σ (360 + 10 * k + 0)) step ∧ sLn (σ (360 + 10 * k + 0)) step ≤ 5) ∧ (0 ≤ σ (360 + 10 * k + 1) + 1 ∧ σ (360 + 10 * k + 1) + 1 ≤ 19) := by
  unfold sPr at h
  split at h
  · assumption
  · exact absurd rfl h
theorem sC3_off {σ : zS} {k y w j : Int} (h1 : j ≠ 360 + 10 * k + 6) (h2 : j ≠ 360 + 10 * k + 8) (h3 : j ≠ 360 + 10 * k + 9) (h4 : j ≠ 450 + 9 * k + w - 1) : sC3 σ k y w j = σ j := by
  unfold sC3 sCrD sCrC sCrA
  split
  · rw [zu_ne h4, zu_ne h1, zu_ne h2, zu_ne h3]
  · rw [zu_ne h3, zu_ne h2]
end
section
theorem vX5_in {G : zG} {M : zM} {x a b : Int} (hx : -2147483648 ≤ x ∧ x < 2147483648) (ha : -2147483648 ≤ a ∧ a < 2147483648) (hb : -2147483648 ≤ b ∧ b < 2147483648) : zCall G yX5_in YX5_in [.inl x, .inl a, .inl b] M (fun v M' => M = M' ∧ ∃ zb : Int, v = some (.inl zb) ∧ ((zb = 1 ∧ (a ≤ x ∧ x ≤ b)) ∨ (zb = 0 ∧ ¬ (a ≤ x ∧ x ≤ b)))) := by
  refine zEnter (by decide +kernel) rfl (Nat.le_of_ble_eq_true rfl) ?_
  refine z_iload_n dX5_in_0 rfl ?_
  refine z_iload_n dX5_in_1 rfl ?_
  refine z_icmp_lt (tgt := 14) dX5_in_2 (by decide) (by omega) (by omega) (fun c2 => ?_) (fun c2 => ?_)
  · refine z_iconst dX5_in_14 ?_
    refine z_zret dX5_in_15 rfl (by omega) ?_
    exact ⟨rfl, _, rfl, by omega⟩
  · refine z_iload_n dX5_in_5 rfl ?_
    refine z_iload_n dX5_in_6 rfl ?_
    refine z_icmp_gt (tgt := 14) dX5_in_7 (by decide) (by omega) (by omega) (fun c7 => ?_) (fun c7 => ?_)
    · refine z_iconst dX5_in_14 ?_
      refine z_zret dX5_in_15 rfl (by omega) ?_
      exact ⟨rfl, _, rfl, by omega⟩
    · refine z_iconst dX5_in_10 ?_
      refine z_goto (tgt := 15) dX5_in_11 (by decide) ?_
      refine z_zret dX5_in_15 rfl (by omega) ?_
      exact ⟨rfl, _, rfl, by omega⟩

theorem vX5_isLane {G : zG} {M : zM} {x : Int} (hx : -2147483648 ≤ x ∧ x < 2147483648) : zCall G yX5_isLane YX5_isLane [.inl x] M (fun v M' => M = M' ∧ ∃ zb : Int, v = some (.inl zb) ∧ ((zb = 1 ∧ (0 ≤ x ∧ x ≤ 5)) ∨ (zb = 0 ∧ ¬ (0 ≤ x ∧ x ≤ 5)))) := by
  refine zEnter (by decide +kernel) rfl (Nat.le_of_ble_eq_true rfl) ?_
  refine z_iload_n dX5_isLane_0 rfl ?_
  refine z_iconst dX5_isLane_1 ?_
  refine z_iconst dX5_isLane_2 ?_
  refine z_callS mX5_in (vX5_in hx (by omega) (by omega)) rfl dX5_isLane_3 kX5_32 (by decide) rfl (by show _ ≤ 8; simp) (fun v3 M3 q3 => ?_)
  obtain ⟨rfl, b3, rfl, h3⟩ := q3
  try simp only [zpush]
  refine z_zret dX5_isLane_6 rfl (by omega) ?_
  exact ⟨rfl, _, rfl, by omega⟩

theorem vX5_isCell {G : zG} {M : zM} {x y : Int} (hx : -2147483648 ≤ x ∧ x < 2147483648) (hy : -2147483648 ≤ y ∧ y < 2147483648) : zCall G yX5_isCell YX5_isCell [.inl x, .inl y] M (fun v M' => M = M' ∧ ∃ zb : Int, v = some (.inl zb) ∧ ((zb = 1 ∧ ((0 ≤ x ∧ x ≤ 5) ∧ (0 ≤ y ∧ y ≤ 19))) ∨ (zb = 0 ∧ ¬ ((0 ≤ x ∧ x ≤ 5) ∧ (0 ≤ y ∧ y ≤ 19))))) := by
  refine zEnter (by decide +kernel) rfl (Nat.le_of_ble_eq_true rfl) ?_
  refine z_iload_n dX5_isCell_0 rfl ?_
  refine z_callS mX5_isLane (vX5_isLane hx) rfl dX5_isCell_1 kX5_36 (by decide) rfl (by show _ ≤ 8; simp) (fun v1 M1 q1 => ?_)
  obtain ⟨rfl, b1, rfl, h1⟩ := q1
  try simp only [zpush]
  refine z_if_eq (tgt := 21) dX5_isCell_4 (by decide) (by omega) (fun c4 => ?_) (fun c4 => ?_)
  · refine z_iconst dX5_isCell_21 ?_
    refine z_zret dX5_isCell_22 rfl (by omega) ?_
    exact ⟨rfl, _, rfl, by omega⟩
  · refine z_iload_n dX5_isCell_7 rfl ?_
    refine z_iconst dX5_isCell_8 ?_
    refine z_bipush dX5_isCell_9 (by decide) ?_
    refine z_callS mX5_in (vX5_in hy (by omega) (by omega)) rfl dX5_isCell_11 kX5_32 (by decide) rfl (by show _ ≤ 8; simp) (fun v11 M11 q11 => ?_)
    obtain ⟨rfl, b11, rfl, h11⟩ := q11
    try simp only [zpush]
    refine z_if_eq (tgt := 21) dX5_isCell_14 (by decide) (by omega) (fun c14 => ?_) (fun c14 => ?_)
    · refine z_iconst dX5_isCell_21 ?_
      refine z_zret dX5_isCell_22 rfl (by omega) ?_
      exact ⟨rfl, _, rfl, by omega⟩
    · refine z_iconst dX5_isCell_17 ?_
      refine z_goto (tgt := 22) dX5_isCell_18 (by decide) ?_
      refine z_zret dX5_isCell_22 rfl (by omega) ?_
      exact ⟨rfl, _, rfl, by omega⟩

theorem vX5_isSnail {G : zG} {M : zM} {σ : zS} {x : Int} (hx : -2147483648 ≤ x ∧ x < 2147483648) (hI : zI σ) : zCall G yX5_isSnail YX5_isSnail [.inr (some 187), .inl x] (zt M σ) (fun v M' => zt M σ = M' ∧ ∃ zb : Int, v = some (.inl zb) ∧ ((zb = 1 ∧ (0 ≤ x ∧ x < σ 535)) ∨ (zb = 0 ∧ ¬ (0 ≤ x ∧ x < σ 535)))) := by
  refine zEnter (by decide +kernel) rfl (Nat.le_of_ble_eq_true rfl) ?_
  have hm := hI.1.2.2.2.2
  refine z_iload_n dX5_isSnail_0 rfl ?_
  refine z_iconst dX5_isSnail_1 ?_
  refine z_aload_n dX5_isSnail_2 rfl ?_
  refine z_getR (b := 188) dX5_isSnail_3 fX5_7 (by decide) zsh187 rfl rfl ?_
  refine z_sipush dX5_isSnail_6 (by decide) ?_
  refine z_sload dX5_isSnail_9 (by omega) ?_
  refine z_iconst dX5_isSnail_10 ?_
  refine z_isub dX5_isSnail_11 ?_
  refine z_callS mX5_in (vX5_in hx (by omega) (by omega)) rfl dX5_isSnail_12 kX5_32 (by decide) rfl (by show _ ≤ 8; simp) (fun v12 M12 q12 => ?_)
  obtain ⟨rfl, b12, rfl, h12⟩ := q12
  try simp only [zpush]
  refine z_zret dX5_isSnail_15 rfl (by omega) ?_
  exact ⟨rfl, _, rfl, by omega⟩

theorem vX5_of {G : zG} {M : zM} {k w : Int}  : zCall G yX5_of YX5_of [.inl k, .inl w] M (fun v M' => M = M' ∧ v = some (.inl (360 + 10 * k + w))) := by
  refine zEnter (by decide +kernel) rfl (Nat.le_of_ble_eq_true rfl) ?_
  refine z_sipush dX5_of_0 (by decide) ?_
  refine z_bipush dX5_of_3 (by decide) ?_
  refine z_iload_n dX5_of_5 rfl ?_
  refine z_imul dX5_of_6 ?_
  refine z_iadd dX5_of_7 ?_
  refine z_iload_n dX5_of_8 rfl ?_
  refine z_iadd dX5_of_9 ?_
  refine z_iret dX5_of_10 rfl ?_
  exact ⟨rfl, rfl⟩

theorem vX5_at {G : zG} {M : zM} {x y : Int}  : zCall G yX5_at YX5_at [.inl x, .inl y] M (fun v M' => M = M' ∧ v = some (.inl (6 * y + x))) := by
  refine zEnter (by decide +kernel) rfl (Nat.le_of_ble_eq_true rfl) ?_
  refine z_bipush dX5_at_0 (by decide) ?_
  refine z_iload_n dX5_at_2 rfl ?_
  refine z_imul dX5_at_3 ?_
  refine z_iload_n dX5_at_4 rfl ?_
  refine z_iadd dX5_at_5 ?_
  refine z_iret dX5_at_6 rfl ?_
  exact ⟨rfl, rfl⟩

theorem vX5_creeps {G : zG} {M : zM} {σ : zS} {k : Int} (hk : 0 ≤ k ∧ k < 9) (hI : zI σ) : zCall G yX5_creeps YX5_creeps [.inr (some 187), .inl k] (zt M σ) (fun v M' => zt M σ = M' ∧ ∃ zb : Int, v = some (.inl zb) ∧ ((zb = 1 ∧ (σ (360 + 10 * k + 3) = 0)) ∨ (zb = 0 ∧ ¬ (σ (360 + 10 * k + 3) = 0)))) := by
  refine zEnter (by decide +kernel) rfl (Nat.le_of_ble_eq_true rfl) ?_
  have hk9 := hI.2.2 k hk.1 hk.2
  unfold zIk at hk9
  refine z_aload_n dX5_creeps_0 rfl ?_
  refine z_getR (b := 188) dX5_creeps_1 fX5_7 (by decide) zsh187 rfl rfl ?_
  refine z_iload_n dX5_creeps_4 rfl ?_
  refine z_iconst dX5_creeps_5 ?_
  refine z_callS mX5_of vX5_of rfl dX5_creeps_6 kX5_40 (by decide) rfl (by show _ ≤ 8; simp) (fun v6 M6 q6 => ?_)
  obtain ⟨rfl, rfl⟩ := q6
  try simp only [zpush]
  refine z_sload dX5_creeps_9 (by omega) ?_
  refine z_if_ne (tgt := 17) dX5_creeps_10 (by decide) (by omega) (fun c10 => ?_) (fun c10 => ?_)
  · refine z_iconst dX5_creeps_17 ?_
    refine z_zret dX5_creeps_18 rfl (by omega) ?_
    exact ⟨rfl, _, rfl, by omega⟩
  · refine z_iconst dX5_creeps_13 ?_
    refine z_goto (tgt := 18) dX5_creeps_14 (by decide) ?_
    refine z_zret dX5_creeps_18 rfl (by omega) ?_
    exact ⟨rfl, _, rfl, by omega⟩

theorem vX5_snailOn {G : zG} {M : zM} {σ : zS} {lane row : Int} (hlane : -2147483648 ≤ lane ∧ lane < 2147483648) (hrow : -2147483648 ≤ row ∧ row < 2147483648) (hI : zI σ) : zCall G yX5_snailOn YX5_snailOn [.inr (some 187), .inl lane, .inl row] (zt M σ) (fun v M' => zt M σ = M' ∧ v = some (.inl (sOn σ lane row))) := by
  refine zEnter (by decide +kernel) rfl (Nat.le_of_ble_eq_true rfl) ?_
  have hs9 := hI.1
  unfold zIs at hs9
  refine z_iconst dX5_snailOn_0 ?_
  refine z_istore_n dX5_snailOn_1 (by decide) ?_
  have L : ∀ (n : Nat) (k : Int), (0 ≤ k ∧ k ≤ σ 535) → k + n = σ 535 + 1 → zfind (sOnP σ lane row) k (σ 535) = sOn σ lane row → zW G YX5_snailOn (fun v M' => zt M σ = M' ∧ v = some (.inl (sOn σ lane row))) 2 [(3, .inl k), (0, .inr (some 187)), (1, .inl lane), (2, .inl row)] [] (zt M σ) := by
    intro n
    induction n with
    | zero => intro k h0 hkn he; exfalso; omega
    | succ n ih =>
      intro k h0 hkn he
      refine z_iload_n dX5_snailOn_2 rfl ?_
      refine z_aload_n dX5_snailOn_3 rfl ?_
      refine z_getR (b := 188) dX5_snailOn_4 fX5_7 (by decide) zsh187 rfl rfl ?_
      refine z_sipush dX5_snailOn_7 (by decide) ?_
      refine z_sload dX5_snailOn_10 (by omega) ?_
      refine z_icmp_ge (tgt := 58) dX5_snailOn_11 (by decide) (by omega) (by omega) (fun c11 => ?_) (fun c11 => ?_)
      · refine z_bipush dX5_snailOn_58 (by decide) ?_
        refine z_iret dX5_snailOn_60 rfl ?_
        rw [zfind_end (by omega)] at he
        exact ⟨rfl, by rw [he]⟩
      · have hk9 := hI.2.2 k (by omega) (by omega)
        unfold zIk at hk9
        refine z_aload_n dX5_snailOn_14 rfl ?_
        refine z_iload_n dX5_snailOn_15 rfl ?_
        refine z_callV mX5_creeps (vX5_creeps (by omega) hI) rfl dX5_snailOn_16 kX5_48 (by decide) rfl (by show _ ≤ 8; simp) (by decide) zsh187 (by decide) rfl (fun v16 M16 q16 => ?_)
        obtain ⟨rfl, b16, rfl, h16⟩ := q16
        try simp only [zpush]
        refine z_if_eq (tgt := 52) dX5_snailOn_19 (by decide) (by omega) (fun c19 => ?_) (fun c19 => ?_)
        · refine z_iinc dX5_snailOn_52 rfl (by decide) ?_
          refine z_goto (tgt := 2) dX5_snailOn_55 (by decide) ?_
          rw [zfind_step (by omega), if_neg (sOnP_f (by omega))] at he
          exact zsub' (ih (k + 1) (by omega) (by omega) he) ⟨rfl, rfl, rfl, rfl, trivial⟩
        · refine z_aload_n dX5_snailOn_22 rfl ?_
          refine z_getR (b := 188) dX5_snailOn_23 fX5_7 (by decide) zsh187 rfl rfl ?_
          refine z_iload_n dX5_snailOn_26 rfl ?_
          refine z_iconst dX5_snailOn_27 ?_
          refine z_callS mX5_of vX5_of rfl dX5_snailOn_28 kX5_40 (by decide) rfl (by show _ ≤ 8; simp) (fun v28 M28 q28 => ?_)
          obtain ⟨rfl, rfl⟩ := q28
          try simp only [zpush]
          refine z_sload dX5_snailOn_31 (by omega) ?_
          refine z_iload_n dX5_snailOn_32 rfl ?_
          refine z_icmp_ne (tgt := 52) dX5_snailOn_33 (by decide) (by omega) (by omega) (fun c33 => ?_) (fun c33 => ?_)
          · refine z_iinc dX5_snailOn_52 rfl (by decide) ?_
            refine z_goto (tgt := 2) dX5_snailOn_55 (by decide) ?_
            rw [zfind_step (by omega), if_neg (sOnP_f (by omega))] at he
            exact zsub' (ih (k + 1) (by omega) (by omega) he) ⟨rfl, rfl, rfl, rfl, trivial⟩
          · refine z_aload_n dX5_snailOn_36 rfl ?_
            refine z_getR (b := 188) dX5_snailOn_37 fX5_7 (by decide) zsh187 rfl rfl ?_
            refine z_iload_n dX5_snailOn_40 rfl ?_
            refine z_iconst dX5_snailOn_41 ?_
            refine z_callS mX5_of vX5_of rfl dX5_snailOn_42 kX5_40 (by decide) rfl (by show _ ≤ 8; simp) (fun v42 M42 q42 => ?_)
            obtain ⟨rfl, rfl⟩ := q42
            try simp only [zpush]
            refine z_sload dX5_snailOn_45 (by omega) ?_
            refine z_iload_n dX5_snailOn_46 rfl ?_
            refine z_icmp_ne (tgt := 52) dX5_snailOn_47 (by decide) (by omega) (by omega) (fun c47 => ?_) (fun c47 => ?_)
            · refine z_iinc dX5_snailOn_52 rfl (by decide) ?_
              refine z_goto (tgt := 2) dX5_snailOn_55 (by decide) ?_
              rw [zfind_step (by omega), if_neg (sOnP_f (by omega))] at he
              exact zsub' (ih (k + 1) (by omega) (by omega) he) ⟨rfl, rfl, rfl, rfl, trivial⟩
            · refine z_iload_n dX5_snailOn_50 rfl ?_
              refine z_iret dX5_snailOn_51 rfl ?_
              rw [zfind_step (by omega), if_pos (sOnP_t (by omega))] at he
              exact ⟨rfl, by rw [he]⟩
  exact zsub' (L (σ 535 + 1).toNat 0 (by omega) (by omega) rfl) ⟨rfl, rfl, rfl, rfl, trivial⟩

theorem vX5_barSnail {G : zG} {M : zM} {σ : zS} {lane slime : Int} (hlane : -2147483648 ≤ lane ∧ lane < 2147483648) (hslime : -2147483648 ≤ slime ∧ slime < 2147483648) (hI : zI σ) : zCall G yX5_barSnail YX5_barSnail [.inr (some 187), .inl lane, .inl slime] (zt M σ) (fun v M' => zt M σ = M' ∧ v = some (.inl (sBarS σ lane slime))) := by
  refine zEnter (by decide +kernel) rfl (Nat.le_of_ble_eq_true rfl) ?_
  have hs9 := hI.1
  unfold zIs at hs9
  refine z_iload_n dX5_barSnail_0 rfl ?_
  refine z_callS mX5_isLane (vX5_isLane (by omega)) rfl dX5_barSnail_1 kX5_36 (by decide) rfl (by show _ ≤ 8; simp) (fun v1 M1 q1 => ?_)
  obtain ⟨rfl, b1, rfl, h1⟩ := q1
  try simp only [zpush]
  refine z_if_ne (tgt := 11) dX5_barSnail_4 (by decide) (by omega) (fun c4 => ?_) (fun c4 => ?_)
  · refine z_iload_n dX5_barSnail_11 rfl ?_
    refine z_iconst dX5_barSnail_12 ?_
    refine z_bipush dX5_barSnail_13 (by decide) ?_
    refine z_callS mX5_in (vX5_in (by omega) (by omega) (by omega)) rfl dX5_barSnail_15 kX5_32 (by decide) rfl (by show _ ≤ 8; simp) (fun v15 M15 q15 => ?_)
    obtain ⟨rfl, b15, rfl, h15⟩ := q15
    try simp only [zpush]
    refine z_if_ne (tgt := 26) dX5_barSnail_18 (by decide) (by omega) (fun c18 => ?_) (fun c18 => ?_)
    · refine z_aload_n dX5_barSnail_26 rfl ?_
      refine z_iload_n dX5_barSnail_27 rfl ?_
      refine z_iconst dX5_barSnail_28 ?_
      refine z_callV mX5_snailOn (vX5_snailOn (by omega) (by omega) hI) rfl dX5_barSnail_29 kX5_51 (by decide) rfl (by show _ ≤ 8; simp) (by decide) zsh187 (by decide) rfl (fun v29 M29 q29 => ?_)
      obtain ⟨rfl, rfl⟩ := q29
      try simp only [zpush]
      have hr := sOn_r hI lane 0
      refine z_bipush dX5_barSnail_32 (by decide) ?_
      refine z_icmp_eq (tgt := 42) dX5_barSnail_34 (by decide) (by omega) (by omega) (fun c34 => ?_) (fun c34 => ?_)
      · refine z_aload_n dX5_barSnail_42 rfl ?_
        refine z_getR (b := 188) dX5_barSnail_43 fX5_7 (by decide) zsh187 rfl rfl ?_
        refine z_sipush dX5_barSnail_46 (by decide) ?_
        refine z_sload dX5_barSnail_49 (by omega) ?_
        refine z_bipush dX5_barSnail_50 (by decide) ?_
        refine z_icmp_ne (tgt := 60) dX5_barSnail_52 (by decide) (by omega) (by omega) (fun c52 => ?_) (fun c52 => ?_)
        · refine z_iconst dX5_barSnail_60 ?_
          refine z_iret dX5_barSnail_61 rfl ?_
          refine ⟨rfl, ?_⟩
          unfold sBarS
          congr 2
          repeat' split
          all_goals first | rfl | omega
        · refine z_bipush dX5_barSnail_55 (by decide) ?_
          refine z_goto (tgt := 61) dX5_barSnail_57 (by decide) ?_
          refine z_iret dX5_barSnail_61 rfl ?_
          refine ⟨rfl, ?_⟩
          unfold sBarS
          congr 2
          repeat' split
          all_goals first | rfl | omega
      · refine z_bipush dX5_barSnail_37 (by decide) ?_
        refine z_goto (tgt := 61) dX5_barSnail_39 (by decide) ?_
        refine z_iret dX5_barSnail_61 rfl ?_
        refine ⟨rfl, ?_⟩
        unfold sBarS
        congr 2
        repeat' split
        all_goals first | rfl | omega
    · refine z_bipush dX5_barSnail_21 (by decide) ?_
      refine z_goto (tgt := 61) dX5_barSnail_23 (by decide) ?_
      refine z_iret dX5_barSnail_61 rfl ?_
      refine ⟨rfl, ?_⟩
      unfold sBarS
      congr 2
      repeat' split
      all_goals first | rfl | omega
  · refine z_iconst dX5_barSnail_7 ?_
    refine z_goto (tgt := 61) dX5_barSnail_8 (by decide) ?_
    refine z_iret dX5_barSnail_61 rfl ?_
    refine ⟨rfl, ?_⟩
    unfold sBarS
    congr 2
    repeat' split
    all_goals first | rfl | omega

theorem vX5_most {G : zG} {M : zM} {w : Int} (hw : -2147483648 ≤ w ∧ w < 2147483648) : zCall G yX5_most YX5_most [.inl w] M (fun v M' => M = M' ∧ v = some (.inl (sMost w))) := by
  refine zEnter (by decide +kernel) rfl (Nat.le_of_ble_eq_true rfl) ?_
  refine z_iload_n dX5_most_0 rfl ?_
  refine z_if_ne (tgt := 9) dX5_most_1 (by decide) (by omega) (fun c1 => ?_) (fun c1 => ?_)
  · refine z_iload_n dX5_most_9 rfl ?_
    refine z_iconst dX5_most_10 ?_
    refine z_icmp_ne (tgt := 19) dX5_most_11 (by decide) (by omega) (by omega) (fun c11 => ?_) (fun c11 => ?_)
    · refine z_iload_n dX5_most_19 rfl ?_
      refine z_iconst dX5_most_20 ?_
      refine z_icmp_ne (tgt := 29) dX5_most_21 (by decide) (by omega) (by omega) (fun c21 => ?_) (fun c21 => ?_)
      · refine z_bipush dX5_most_29 (by decide) ?_
        refine z_iret dX5_most_31 rfl ?_
        refine ⟨rfl, ?_⟩
        unfold sMost
        congr 2
        repeat' split
        all_goals first | rfl | omega
      · refine z_bipush dX5_most_24 (by decide) ?_
        refine z_goto (tgt := 31) dX5_most_26 (by decide) ?_
        refine z_iret dX5_most_31 rfl ?_
        refine ⟨rfl, ?_⟩
        unfold sMost
        congr 2
        repeat' split
        all_goals first | rfl | omega
    · refine z_bipush dX5_most_14 (by decide) ?_
      refine z_goto (tgt := 31) dX5_most_16 (by decide) ?_
      refine z_iret dX5_most_31 rfl ?_
      refine ⟨rfl, ?_⟩
      unfold sMost
      congr 2
      repeat' split
      all_goals first | rfl | omega
  · refine z_bipush dX5_most_4 (by decide) ?_
    refine z_goto (tgt := 31) dX5_most_6 (by decide) ?_
    refine z_iret dX5_most_31 rfl ?_
    refine ⟨rfl, ?_⟩
    unfold sMost
    congr 2
    repeat' split
    all_goals first | rfl | omega

theorem vX5_laneOf {G : zG} {M : zM} {lane step : Int} (hstep : -2147483648 ≤ step ∧ step < 2147483648) : zCall G yX5_laneOf YX5_laneOf [.inl lane, .inl step] M (fun v M' => M = M' ∧ v = some (.inl (sLn lane step))) := by
  refine zEnter (by decide +kernel) rfl (Nat.le_of_ble_eq_true rfl) ?_
  refine z_iload_n dX5_laneOf_0 rfl ?_
  refine z_if_ne (tgt := 8) dX5_laneOf_1 (by decide) (by omega) (fun c1 => ?_) (fun c1 => ?_)
  · refine z_iload_n dX5_laneOf_8 rfl ?_
    refine z_iconst dX5_laneOf_9 ?_
    refine z_icmp_ne (tgt := 19) dX5_laneOf_10 (by decide) (by omega) (by omega) (fun c10 => ?_) (fun c10 => ?_)
    · refine z_iload_n dX5_laneOf_19 rfl ?_
      refine z_iconst dX5_laneOf_20 ?_
      refine z_iadd dX5_laneOf_21 ?_
      refine z_iret dX5_laneOf_22 rfl ?_
      refine ⟨rfl, ?_⟩
      unfold sLn
      congr 2
      repeat' split
      all_goals first | rfl | omega
    · refine z_iload_n dX5_laneOf_13 rfl ?_
      refine z_iconst dX5_laneOf_14 ?_
      refine z_isub dX5_laneOf_15 ?_
      refine z_goto (tgt := 22) dX5_laneOf_16 (by decide) ?_
      refine z_iret dX5_laneOf_22 rfl ?_
      refine ⟨rfl, ?_⟩
      unfold sLn
      congr 2
      repeat' split
      all_goals first | rfl | omega
  · refine z_iload_n dX5_laneOf_4 rfl ?_
    refine z_goto (tgt := 22) dX5_laneOf_5 (by decide) ?_
    refine z_iret dX5_laneOf_22 rfl ?_
    refine ⟨rfl, ?_⟩
    unfold sLn
    congr 2
    repeat' split
    all_goals first | rfl | omega

theorem vX5_why {G : zG} {M : zM} {σ : zS} {k c : Int} (hI : zI σ) (hk : 0 ≤ k ∧ k < 9) (hc : 0 ≤ c ∧ c < 120) : zCall G yX5_why YX5_why [.inr (some 187), .inl k, .inl c] (zt M σ) (fun v M' => zt M σ = M' ∧ v = some (.inl (sWhy σ k c))) := by
  refine zEnter (by decide +kernel) rfl (Nat.le_of_ble_eq_true rfl) ?_
  have hk9 := hI.2.2 k hk.1 hk.2
  unfold zIk at hk9
  have hs9 := hI.1
  unfold zIs at hs9
  have hc9 := hI.2.1 c hc.1 hc.2
  unfold zIc at hc9
  refine z_aload_n dX5_why_0 rfl ?_
  refine z_getR (b := 188) dX5_why_1 fX5_7 (by decide) zsh187 rfl rfl ?_
  refine z_bipush dX5_why_4 (by decide) ?_
  refine z_iload_n dX5_why_6 rfl ?_
  refine z_iadd dX5_why_7 ?_
  refine z_sload dX5_why_8 (by omega) ?_
  refine z_iconst dX5_why_9 ?_
  refine z_isub dX5_why_10 ?_
  refine z_istore_n dX5_why_11 (by decide) ?_
  refine z_iload_n dX5_why_12 rfl ?_
  refine z_if_ge (tgt := 20) dX5_why_13 (by decide) (by omega) (fun c13 => ?_) (fun c13 => ?_)
  · refine z_iload_n dX5_why_20 rfl ?_
    refine z_iload_n dX5_why_21 rfl ?_
    refine z_icmp_ne (tgt := 29) dX5_why_22 (by decide) (by omega) (by omega) (fun c22 => ?_) (fun c22 => ?_)
    · refine z_aload_n dX5_why_29 rfl ?_
      refine z_getR (b := 188) dX5_why_30 fX5_7 (by decide) zsh187 rfl rfl ?_
      refine z_iload_n dX5_why_33 rfl ?_
      refine z_bipush dX5_why_34 (by decide) ?_
      refine z_callS mX5_of vX5_of rfl dX5_why_36 kX5_40 (by decide) rfl (by show _ ≤ 8; simp) (fun v36 M36 q36 => ?_)
      obtain ⟨rfl, rfl⟩ := q36
      try simp only [zpush]
      refine z_sload dX5_why_39 (by omega) ?_
      refine z_iload_n dX5_why_40 rfl ?_
      refine z_iconst dX5_why_41 ?_
      refine z_iadd dX5_why_42 ?_
      refine z_icmp_ne (tgt := 72) dX5_why_43 (by decide) (by omega) (by omega) (fun c43 => ?_) (fun c43 => ?_)
      · refine z_iconst dX5_why_72 ?_
        refine z_iret dX5_why_73 rfl ?_
        refine ⟨rfl, ?_⟩
        unfold sWhy
        congr 2
        repeat' split
        all_goals first | rfl | omega
      · refine z_aload_n dX5_why_46 rfl ?_
        refine z_getR (b := 188) dX5_why_47 fX5_7 (by decide) zsh187 rfl rfl ?_
        refine z_iload_n dX5_why_50 rfl ?_
        refine z_bipush dX5_why_51 (by decide) ?_
        refine z_callS mX5_of vX5_of rfl dX5_why_53 kX5_40 (by decide) rfl (by show _ ≤ 8; simp) (fun v53 M53 q53 => ?_)
        obtain ⟨rfl, rfl⟩ := q53
        try simp only [zpush]
        refine z_sload dX5_why_56 (by omega) ?_
        refine z_aload_n dX5_why_57 rfl ?_
        refine z_getR (b := 188) dX5_why_58 fX5_7 (by decide) zsh187 rfl rfl ?_
        refine z_sipush dX5_why_61 (by decide) ?_
        refine z_sload dX5_why_64 (by omega) ?_
        refine z_icmp_lt (tgt := 72) dX5_why_65 (by decide) (by omega) (by omega) (fun c65 => ?_) (fun c65 => ?_)
        · refine z_iconst dX5_why_72 ?_
          refine z_iret dX5_why_73 rfl ?_
          refine ⟨rfl, ?_⟩
          unfold sWhy
          congr 2
          repeat' split
          all_goals first | rfl | omega
        · refine z_iconst dX5_why_68 ?_
          refine z_goto (tgt := 73) dX5_why_69 (by decide) ?_
          refine z_iret dX5_why_73 rfl ?_
          refine ⟨rfl, ?_⟩
          unfold sWhy
          congr 2
          repeat' split
          all_goals first | rfl | omega
    · refine z_iconst dX5_why_25 ?_
      refine z_goto (tgt := 73) dX5_why_26 (by decide) ?_
      refine z_iret dX5_why_73 rfl ?_
      refine ⟨rfl, ?_⟩
      unfold sWhy
      congr 2
      repeat' split
      all_goals first | rfl | omega
  · refine z_iconst dX5_why_16 ?_
    refine z_goto (tgt := 73) dX5_why_17 (by decide) ?_
    refine z_iret dX5_why_73 rfl ?_
    refine ⟨rfl, ?_⟩
    unfold sWhy
    congr 2
    repeat' split
    all_goals first | rfl | omega

theorem vX5_price {G : zG} {M : zM} {σ : zS} {k step : Int} (hI : zI σ) (hk : 0 ≤ k ∧ k < 9) (hs : 0 ≤ step ∧ step ≤ 4) : zCall G yX5_price YX5_price [.inr (some 187), .inl k, .inl step] (zt M σ) (fun v M' => zt M σ = M' ∧ v = some (.inl (sPr σ k step))) := by
  refine zEnter (by decide +kernel) rfl (Nat.le_of_ble_eq_true rfl) ?_
  have hk9 := hI.2.2 k hk.1 hk.2
  unfold zIk at hk9
  have hs9 := hI.1
  unfold zIs at hs9
  refine z_aload_n dX5_price_0 rfl ?_
  refine z_getR (b := 188) dX5_price_1 fX5_7 (by decide) zsh187 rfl rfl ?_
  refine z_iload_n dX5_price_4 rfl ?_
  refine z_iconst dX5_price_5 ?_
  refine z_callS mX5_of vX5_of rfl dX5_price_6 kX5_40 (by decide) rfl (by show _ ≤ 8; simp) (fun v6 M6 q6 => ?_)
  obtain ⟨rfl, rfl⟩ := q6
  try simp only [zpush]
  refine z_sload dX5_price_9 (by omega) ?_
  refine z_iload_n dX5_price_10 rfl ?_
  refine z_callS mX5_laneOf (vX5_laneOf (by omega)) rfl dX5_price_11 kX5_87 (by decide) rfl (by show _ ≤ 8; simp) (fun v11 M11 q11 => ?_)
  obtain ⟨rfl, rfl⟩ := q11
  try simp only [zpush]
  generalize hx : sLn (σ (360 + 10 * k + 0)) step = x
  have hxr : -1 ≤ x ∧ x ≤ 6 := by rw [← hx]; exact sLn_r (by omega) step
  refine z_istore_n dX5_price_14 (by decide) ?_
  refine z_aload_n dX5_price_15 rfl ?_
  refine z_getR (b := 188) dX5_price_16 fX5_7 (by decide) zsh187 rfl rfl ?_
  refine z_iload_n dX5_price_19 rfl ?_
  refine z_iconst dX5_price_20 ?_
  refine z_callS mX5_of vX5_of rfl dX5_price_21 kX5_40 (by decide) rfl (by show _ ≤ 8; simp) (fun v21 M21 q21 => ?_)
  obtain ⟨rfl, rfl⟩ := q21
  try simp only [zpush]
  refine z_sload dX5_price_24 (by omega) ?_
  refine z_iconst dX5_price_25 ?_
  refine z_iadd dX5_price_26 ?_
  refine z_istore dX5_price_27 (by decide) ?_
  refine z_iload_n dX5_price_29 rfl ?_
  refine z_iload dX5_price_30 rfl ?_
  refine z_callS mX5_isCell (vX5_isCell (by omega) (by omega)) rfl dX5_price_32 kX5_66 (by decide) rfl (by show _ ≤ 8; simp) (fun v32 M32 q32 => ?_)
  obtain ⟨rfl, b32, rfl, h32⟩ := q32
  try simp only [zpush]
  refine z_if_eq (tgt := 50) dX5_price_35 (by decide) (by omega) (fun c35 => ?_) (fun c35 => ?_)
  · refine z_bipush dX5_price_50 (by decide) ?_
    refine z_iret dX5_price_52 rfl ?_
    refine ⟨rfl, ?_⟩
    unfold sPr
    rw [hx]
    congr 2
    repeat' split
    all_goals first | rfl | omega
  · refine z_aload_n dX5_price_38 rfl ?_
    refine z_iload_n dX5_price_39 rfl ?_
    refine z_iload dX5_price_40 rfl ?_
    refine z_callV mX5_snailOn (vX5_snailOn (by omega) (by omega) hI) rfl dX5_price_42 kX5_51 (by decide) rfl (by show _ ≤ 8; simp) (by decide) zsh187 (by decide) rfl (fun v42 M42 q42 => ?_)
    obtain ⟨rfl, rfl⟩ := q42
    try simp only [zpush]
    have hr := sOn_r hI x (σ (360 + 10 * k + 1) + 1)
    refine z_bipush dX5_price_45 (by decide) ?_
    refine z_icmp_eq (tgt := 53) dX5_price_47 (by decide) (by omega) (by omega) (fun c47 => ?_) (fun c47 => ?_)
    · refine z_aload_n dX5_price_53 rfl ?_
      refine z_iload_n dX5_price_54 rfl ?_
      refine z_iload_n dX5_price_55 rfl ?_
      refine z_iload dX5_price_56 rfl ?_
      refine z_callS mX5_at vX5_at rfl dX5_price_58 kX5_70 (by decide) rfl (by show _ ≤ 8; simp) (fun v58 M58 q58 => ?_)
      obtain ⟨rfl, rfl⟩ := q58
      try simp only [zpush]
      refine z_callV mX5_why (vX5_why hI hk (by omega)) rfl dX5_price_61 kX5_90 (by decide) rfl (by show _ ≤ 8; simp) (by decide) zsh187 (by decide) rfl (fun v61 M61 q61 => ?_)
      obtain ⟨rfl, rfl⟩ := q61
      try simp only [zpush]
      have hw := sWhy_r σ k (6 * (σ (360 + 10 * k + 1) + 1) + x)
      refine z_istore dX5_price_64 (by decide) ?_
      refine z_iload dX5_price_66 rfl ?_
      refine z_if_eq (tgt := 77) dX5_price_68 (by decide) (by omega) (fun c68 => ?_) (fun c68 => ?_)
      · refine z_iconst dX5_price_77 ?_
        refine z_goto (tgt := 96) dX5_price_78 (by decide) ?_
        refine z_iret dX5_price_96 rfl ?_
        refine ⟨rfl, ?_⟩
        unfold sPr
        rw [hx]
        congr 2
        repeat' split
        all_goals first | rfl | omega
      · refine z_iload dX5_price_71 rfl ?_
        refine z_iconst dX5_price_73 ?_
        refine z_icmp_ne (tgt := 81) dX5_price_74 (by decide) (by omega) (by omega) (fun c74 => ?_) (fun c74 => ?_)
        · refine z_iconst dX5_price_81 ?_
          refine z_aload_n dX5_price_82 rfl ?_
          refine z_getR (b := 188) dX5_price_83 fX5_7 (by decide) zsh187 rfl rfl ?_
          refine z_iconst dX5_price_86 ?_
          refine z_iload_n dX5_price_87 rfl ?_
          refine z_iload dX5_price_88 rfl ?_
          refine z_callS mX5_at vX5_at rfl dX5_price_90 kX5_70 (by decide) rfl (by show _ ≤ 8; simp) (fun v90 M90 q90 => ?_)
          obtain ⟨rfl, rfl⟩ := q90
          try simp only [zpush]
          refine z_iadd dX5_price_93 ?_
          rw [Int.zero_add]
          refine z_sload dX5_price_94 (by omega) ?_
          refine z_iadd dX5_price_95 ?_
          refine z_iret dX5_price_96 rfl ?_
          refine ⟨rfl, ?_⟩
          unfold sPr
          rw [hx]
          congr 2
          repeat' split
          all_goals first | rfl | omega
        · refine z_iconst dX5_price_77 ?_
          refine z_goto (tgt := 96) dX5_price_78 (by decide) ?_
          refine z_iret dX5_price_96 rfl ?_
          refine ⟨rfl, ?_⟩
          unfold sPr
          rw [hx]
          congr 2
          repeat' split
          all_goals first | rfl | omega
    · refine z_bipush dX5_price_50 (by decide) ?_
      refine z_iret dX5_price_52 rfl ?_
      refine ⟨rfl, ?_⟩
      unfold sPr
      rw [hx]
      congr 2
      repeat' split
      all_goals first | rfl | omega

theorem vX5_chooses {G : zG} {M : zM} {σ : zS} {k : Int} (hI : zI σ) (hk : 0 ≤ k ∧ k < 9) : zCall G yX5_chooses YX5_chooses [.inr (some 187), .inl k] (zt M σ) (fun v M' => zt M σ = M' ∧ v = some (.inl (sCh σ k))) := by
  refine zEnter (by decide +kernel) rfl (Nat.le_of_ble_eq_true rfl) ?_
  have hk9 := hI.2.2 k hk.1 hk.2
  unfold zIk at hk9
  have hs9 := hI.1
  unfold zIs at hs9
  refine z_iconst dX5_chooses_0 ?_
  refine z_istore_n dX5_chooses_1 (by decide) ?_
  refine z_iconst dX5_chooses_2 ?_
  refine z_istore_n dX5_chooses_3 (by decide) ?_
  have L : ∀ (n : Nat) (i f : Int), (0 ≤ i ∧ i ≤ 3) → i + n = 4 → (0 ≤ f ∧ f ≤ 4) → zfor (sCs σ k) i 3 f = sCb σ k → zW G YX5_chooses (fun v M' => zt M σ = M' ∧ v = some (.inl (sCh σ k))) 4 [(3, .inl i), (2, .inl f), (0, .inr (some 187)), (1, .inl k)] [] (zt M σ) := by
    intro n
    induction n with
    | zero => intro i f hi hin hf he; exfalso; omega
    | succ n ih =>
      intro i f hi hin hf he
      refine z_iload_n dX5_chooses_4 rfl ?_
      refine z_iconst dX5_chooses_5 ?_
      refine z_icmp_ge (tgt := 52) dX5_chooses_6 (by decide) (by omega) (by omega) (fun c6 => ?_) (fun c6 => ?_)
      · rw [zfor_end (by omega)] at he
        have hp := sPr_r hI hk f
        refine z_iload_n dX5_chooses_52 rfl ?_
        refine z_iconst dX5_chooses_53 ?_
        refine z_icmp_ge (tgt := 80) dX5_chooses_54 (by decide) (by omega) (by omega) (fun c54 => ?_) (fun c54 => ?_)
        · refine z_iload_n dX5_chooses_80 rfl ?_
          refine z_iret dX5_chooses_81 rfl ?_
          refine ⟨rfl, ?_⟩
          unfold sCh
          rw [← he]
          congr 2
          repeat' split
          all_goals first | rfl | omega
        · refine z_aload_n dX5_chooses_57 rfl ?_
          refine z_iload_n dX5_chooses_58 rfl ?_
          refine z_iload_n dX5_chooses_59 rfl ?_
          refine z_callV mX5_price (vX5_price hI hk (by omega)) rfl dX5_chooses_60 kX5_93 (by decide) rfl (by show _ ≤ 8; simp) (by decide) zsh187 (by decide) rfl (fun v60 M60 q60 => ?_)
          obtain ⟨rfl, rfl⟩ := q60
          try simp only [zpush]
          refine z_aload_n dX5_chooses_63 rfl ?_
          refine z_getR (b := 188) dX5_chooses_64 fX5_7 (by decide) zsh187 rfl rfl ?_
          refine z_iload_n dX5_chooses_67 rfl ?_
          refine z_iconst dX5_chooses_68 ?_
          refine z_callS mX5_of vX5_of rfl dX5_chooses_69 kX5_40 (by decide) rfl (by show _ ≤ 8; simp) (fun v69 M69 q69 => ?_)
          obtain ⟨rfl, rfl⟩ := q69
          try simp only [zpush]
          refine z_sload dX5_chooses_72 (by omega) ?_
          refine z_icmp_le (tgt := 80) dX5_chooses_73 (by decide) (by omega) (by omega) (fun c73 => ?_) (fun c73 => ?_)
          · refine z_iload_n dX5_chooses_80 rfl ?_
            refine z_iret dX5_chooses_81 rfl ?_
            refine ⟨rfl, ?_⟩
            unfold sCh
            rw [← he]
            congr 2
            repeat' split
            all_goals first | rfl | omega
          · refine z_iconst dX5_chooses_76 ?_
            refine z_goto (tgt := 81) dX5_chooses_77 (by decide) ?_
            refine z_iret dX5_chooses_81 rfl ?_
            refine ⟨rfl, ?_⟩
            unfold sCh
            rw [← he]
            congr 2
            repeat' split
            all_goals first | rfl | omega
      · have hp := sPr_r hI hk i
        have hp2 := sPr_r hI hk f
        rw [zfor_step (by omega)] at he
        refine z_aload_n dX5_chooses_9 rfl ?_
        refine z_iload_n dX5_chooses_10 rfl ?_
        refine z_iload_n dX5_chooses_11 rfl ?_
        refine z_callV mX5_price (vX5_price hI hk (by omega)) rfl dX5_chooses_12 kX5_93 (by decide) rfl (by show _ ≤ 8; simp) (by decide) zsh187 (by decide) rfl (fun v12 M12 q12 => ?_)
        obtain ⟨rfl, rfl⟩ := q12
        try simp only [zpush]
        refine z_istore dX5_chooses_15 (by decide) ?_
        refine z_iload dX5_chooses_17 rfl ?_
        refine z_bipush dX5_chooses_19 (by decide) ?_
        refine z_icmp_eq (tgt := 44) dX5_chooses_21 (by decide) (by omega) (by omega) (fun c21 => ?_) (fun c21 => ?_)
        · refine z_iload_n dX5_chooses_44 rfl ?_
          refine z_istore_n dX5_chooses_45 (by decide) ?_
          refine z_iinc dX5_chooses_46 rfl (by decide) ?_
          refine z_goto (tgt := 4) dX5_chooses_49 (by decide) ?_
          refine zsub' (ih (i + 1) _ (by omega) (by omega) (by omega) ?_) ⟨rfl, rfl, rfl, rfl, trivial⟩
          rw [← he]
          congr 1
          unfold sCs
          split
          all_goals first | rfl | omega
        · refine z_iload_n dX5_chooses_24 rfl ?_
          refine z_iconst dX5_chooses_25 ?_
          refine z_icmp_eq (tgt := 40) dX5_chooses_26 (by decide) (by omega) (by omega) (fun c26 => ?_) (fun c26 => ?_)
          · refine z_iload_n dX5_chooses_40 rfl ?_
            refine z_goto (tgt := 45) dX5_chooses_41 (by decide) ?_
            refine z_istore_n dX5_chooses_45 (by decide) ?_
            refine z_iinc dX5_chooses_46 rfl (by decide) ?_
            refine z_goto (tgt := 4) dX5_chooses_49 (by decide) ?_
            refine zsub' (ih (i + 1) _ (by omega) (by omega) (by omega) ?_) ⟨rfl, rfl, rfl, rfl, trivial⟩
            rw [← he]
            congr 1
            unfold sCs
            split
            all_goals first | rfl | omega
          · refine z_iload dX5_chooses_29 rfl ?_
            refine z_aload_n dX5_chooses_31 rfl ?_
            refine z_iload_n dX5_chooses_32 rfl ?_
            refine z_iload_n dX5_chooses_33 rfl ?_
            refine z_callV mX5_price (vX5_price hI hk (by omega)) rfl dX5_chooses_34 kX5_93 (by decide) rfl (by show _ ≤ 8; simp) (by decide) zsh187 (by decide) rfl (fun v34 M34 q34 => ?_)
            obtain ⟨rfl, rfl⟩ := q34
            try simp only [zpush]
            refine z_icmp_ge (tgt := 44) dX5_chooses_37 (by decide) (by omega) (by omega) (fun c37 => ?_) (fun c37 => ?_)
            · refine z_iload_n dX5_chooses_44 rfl ?_
              refine z_istore_n dX5_chooses_45 (by decide) ?_
              refine z_iinc dX5_chooses_46 rfl (by decide) ?_
              refine z_goto (tgt := 4) dX5_chooses_49 (by decide) ?_
              refine zsub' (ih (i + 1) _ (by omega) (by omega) (by omega) ?_) ⟨rfl, rfl, rfl, rfl, trivial⟩
              rw [← he]
              congr 1
              unfold sCs
              split
              all_goals first | rfl | omega
            · refine z_iload_n dX5_chooses_40 rfl ?_
              refine z_goto (tgt := 45) dX5_chooses_41 (by decide) ?_
              refine z_istore_n dX5_chooses_45 (by decide) ?_
              refine z_iinc dX5_chooses_46 rfl (by decide) ?_
              refine z_goto (tgt := 4) dX5_chooses_49 (by decide) ?_
              refine zsub' (ih (i + 1) _ (by omega) (by omega) (by omega) ?_) ⟨rfl, rfl, rfl, rfl, trivial⟩
              rw [← he]
              congr 1
              unfold sCs
              split
              all_goals first | rfl | omega
  exact zsub' (L 4 0 4 (by omega) (by omega) (by omega) rfl) ⟨rfl, rfl, rfl, rfl, trivial⟩
end
section
theorem vX5_creep {G : zG} {M : zM} {σ : zS} {k step : Int} (hI : zI σ) (hk : 0 ≤ k ∧ k < 9) (hs : 0 ≤ step ∧ step ≤ 2) (hpr : sPr σ k step ≠ -5) : zCall G yX5_creep YX5_creep [.inr (some 187), .inl k, .inl step] (zt M σ) (fun v M' => v = none ∧ M' = zt M (sCreep σ k step)) := by
  refine zEnter (by decide +kernel) rfl (Nat.le_of_ble_eq_true rfl) ?_
  have hk9 := hI.2.2 k hk.1 hk.2
  unfold zIk at hk9
  have hs9 := hI.1
  unfold zIs at hs9
  have hok := sPr_ok hpr
  refine z_aload_n dX5_creep_0 rfl ?_
  refine z_getR (b := 188) dX5_creep_1 fX5_7 (by decide) zsh187 rfl rfl ?_
  refine z_iload_n dX5_creep_4 rfl ?_
  refine z_iconst dX5_creep_5 ?_
  refine z_callS mX5_of vX5_of rfl dX5_creep_6 kX5_40 (by decide) rfl (by show _ ≤ 8; simp) (fun v6 M6 q6 => ?_)
  obtain ⟨rfl, rfl⟩ := q6
  try simp only [zpush]
  refine z_sload dX5_creep_9 (by omega) ?_
  refine z_aload_n dX5_creep_10 rfl ?_
  refine z_getR (b := 188) dX5_creep_11 fX5_7 (by decide) zsh187 rfl rfl ?_
  refine z_iload_n dX5_creep_14 rfl ?_
  refine z_iconst dX5_creep_15 ?_
  refine z_callS mX5_of vX5_of rfl dX5_creep_16 kX5_40 (by decide) rfl (by show _ ≤ 8; simp) (fun v16 M16 q16 => ?_)
  obtain ⟨rfl, rfl⟩ := q16
  try simp only [zpush]
  refine z_sload dX5_creep_19 (by omega) ?_
  refine z_callS mX5_at vX5_at rfl dX5_creep_20 kX5_70 (by decide) rfl (by show _ ≤ 8; simp) (fun v20 M20 q20 => ?_)
  obtain ⟨rfl, rfl⟩ := q20
  try simp only [zpush]
  refine z_istore_n dX5_creep_23 (by decide) ?_
  refine z_aload_n dX5_creep_24 rfl ?_
  refine z_getR (b := 188) dX5_creep_25 fX5_7 (by decide) zsh187 rfl rfl ?_
  refine z_iload_n dX5_creep_28 rfl ?_
  refine z_iconst dX5_creep_29 ?_
  refine z_callS mX5_of vX5_of rfl dX5_creep_30 kX5_40 (by decide) rfl (by show _ ≤ 8; simp) (fun v30 M30 q30 => ?_)
  obtain ⟨rfl, rfl⟩ := q30
  try simp only [zpush]
  refine z_sload dX5_creep_33 (by omega) ?_
  refine z_iload_n dX5_creep_34 rfl ?_
  refine z_callS mX5_laneOf (vX5_laneOf (by omega)) rfl dX5_creep_35 kX5_87 (by decide) rfl (by show _ ≤ 8; simp) (fun v35 M35 q35 => ?_)
  obtain ⟨rfl, rfl⟩ := q35
  try simp only [zpush]
  generalize hx : sLn (σ (360 + 10 * k + 0)) step = x at hok
  refine z_istore dX5_creep_38 (by decide) ?_
  refine z_iload dX5_creep_40 rfl ?_
  refine z_aload_n dX5_creep_42 rfl ?_
  refine z_getR (b := 188) dX5_creep_43 fX5_7 (by decide) zsh187 rfl rfl ?_
  refine z_iload_n dX5_creep_46 rfl ?_
  refine z_iconst dX5_creep_47 ?_
  refine z_callS mX5_of vX5_of rfl dX5_creep_48 kX5_40 (by decide) rfl (by show _ ≤ 8; simp) (fun v48 M48 q48 => ?_)
  obtain ⟨rfl, rfl⟩ := q48
  try simp only [zpush]
  refine z_sload dX5_creep_51 (by omega) ?_
  refine z_iconst dX5_creep_52 ?_
  refine z_iadd dX5_creep_53 ?_
  refine z_callS mX5_at vX5_at rfl dX5_creep_54 kX5_70 (by decide) rfl (by show _ ≤ 8; simp) (fun v54 M54 q54 => ?_)
  obtain ⟨rfl, rfl⟩ := q54
  try simp only [zpush]
  generalize hto : 6 * (σ (360 + 10 * k + 1) + 1) + x = to
  refine z_istore dX5_creep_57 (by decide) ?_
  refine z_aload_n dX5_creep_59 rfl ?_
  refine z_iload_n dX5_creep_60 rfl ?_
  refine z_iload dX5_creep_61 rfl ?_
  refine z_callV mX5_why (vX5_why hI hk (by omega)) rfl dX5_creep_63 kX5_90 (by decide) rfl (by show _ ≤ 8; simp) (by decide) zsh187 (by decide) rfl (fun v63 M63 q63 => ?_)
  obtain ⟨rfl, rfl⟩ := q63
  try simp only [zpush]
  have hwr := sWhy_r σ k to
  have hct := hI.2.1 to (by omega) (by omega)
  unfold zIc at hct
  refine z_if_ne (tgt := 73) dX5_creep_66 (by decide) (by omega) (fun c66 => ?_) (fun c66 => ?_)
  · refine z_iconst dX5_creep_73 ?_
    refine z_istore dX5_creep_74 (by decide) ?_
    refine z_aload_n dX5_creep_76 rfl ?_
    refine z_getR (b := 188) dX5_creep_77 fX5_7 (by decide) zsh187 rfl rfl ?_
    refine z_iload_n dX5_creep_80 rfl ?_
    refine z_iconst dX5_creep_81 ?_
    refine z_callS mX5_of vX5_of rfl dX5_creep_82 kX5_40 (by decide) rfl (by show _ ≤ 8; simp) (fun v82 M82 q82 => ?_)
    obtain ⟨rfl, rfl⟩ := q82
    try simp only [zpush]
    refine z_dup2 dX5_creep_85 ?_
    refine z_sload dX5_creep_86 (by omega) ?_
    refine z_aload_n dX5_creep_87 rfl ?_
    refine z_iload_n dX5_creep_88 rfl ?_
    refine z_iload_n dX5_creep_89 rfl ?_
    refine z_callV mX5_price (vX5_price hI hk (by omega)) rfl dX5_creep_90 kX5_93 (by decide) rfl (by show _ ≤ 8; simp) (by decide) zsh187 (by decide) rfl (fun v90 M90 q90 => ?_)
    obtain ⟨rfl, rfl⟩ := q90
    try simp only [zpush]
    refine z_isub dX5_creep_93 ?_
    refine z_sstore dX5_creep_94 (by omega) (fun σ94 hσ94 => ?_)
    refine z_aload_n dX5_creep_95 rfl ?_
    refine z_getR (b := 188) dX5_creep_96 fX5_7 (by decide) zsh187 rfl rfl ?_
    refine z_iload_n dX5_creep_99 rfl ?_
    refine z_iconst dX5_creep_100 ?_
    refine z_callS mX5_of vX5_of rfl dX5_creep_101 kX5_40 (by decide) rfl (by show _ ≤ 8; simp) (fun v101 M101 q101 => ?_)
    obtain ⟨rfl, rfl⟩ := q101
    try simp only [zpush]
    refine z_dup2 dX5_creep_104 ?_
    refine z_sload dX5_creep_105 (by omega) ?_
    refine z_iconst dX5_creep_106 ?_
    refine z_iadd dX5_creep_107 ?_
    refine z_sstore dX5_creep_108 (by omega) (fun σ108 hσ108 => ?_)
    have h1 : σ94 = sC1 σ k step := hσ94
    have h2 : σ108 = sC2 σ94 k := hσ108
    have e0 : ∀ j : Int, j ≠ 360 + 10 * k + 2 → j ≠ 360 + 10 * k + 5 → σ108 j = σ j := fun j j1 j2 => by rw [hσ108, zu_ne j2, hσ94, zu_ne j1]
    have e1 : σ108 (120 + to) = σ (120 + to) := e0 _ (by omega) (by omega)
    generalize hwh : σ108 (120 + to) = w at e1
    have J : ∀ σ3 : zS, σ3 = sC3 σ108 k (sWhy σ k to) w → zW G YX5_creep (fun v M' => v = none ∧ M' = zt M (sCreep σ k step)) 247 [(0, .inr (some 187)), (1, .inl k), (3, .inl (6 * σ (360 + 10 * k + 1) + σ (360 + 10 * k + 0))), (4, .inl x)] [] (zt M σ3) := by
      intro σ3 h3
      have h3r : σ3 (360 + 10 * k + 1) = σ (360 + 10 * k + 1) := by rw [h3, sC3_off (by omega) (by omega) (by omega) (by omega), e0 _ (by omega) (by omega)]
      refine z_aload_n dX5_creep_247 rfl ?_
      refine z_getR (b := 188) dX5_creep_248 fX5_7 (by decide) zsh187 rfl rfl ?_
      refine z_bipush dX5_creep_251 (by decide) ?_
      refine z_iload_n dX5_creep_253 rfl ?_
      refine z_iadd dX5_creep_254 ?_
      refine z_iload_n dX5_creep_255 rfl ?_
      refine z_iconst dX5_creep_256 ?_
      refine z_iadd dX5_creep_257 ?_
      refine z_sstore dX5_creep_258 (by omega) (fun σ258 hσ258 => ?_)
      refine z_aload_n dX5_creep_259 rfl ?_
      refine z_getR (b := 188) dX5_creep_260 fX5_7 (by decide) zsh187 rfl rfl ?_
      refine z_sipush dX5_creep_263 (by decide) ?_
      refine z_iload_n dX5_creep_266 rfl ?_
      refine z_iadd dX5_creep_267 ?_
      refine z_iconst dX5_creep_268 ?_
      refine z_sstore dX5_creep_269 (by omega) (fun σ269 hσ269 => ?_)
      refine z_aload_n dX5_creep_270 rfl ?_
      refine z_getR (b := 188) dX5_creep_271 fX5_7 (by decide) zsh187 rfl rfl ?_
      refine z_iload_n dX5_creep_274 rfl ?_
      refine z_iconst dX5_creep_275 ?_
      refine z_callS mX5_of vX5_of rfl dX5_creep_276 kX5_40 (by decide) rfl (by show _ ≤ 8; simp) (fun v276 M276 q276 => ?_)
      obtain ⟨rfl, rfl⟩ := q276
      try simp only [zpush]
      refine z_iload dX5_creep_279 rfl ?_
      refine z_sstore dX5_creep_281 (by omega) (fun σ281 hσ281 => ?_)
      refine z_aload_n dX5_creep_282 rfl ?_
      refine z_getR (b := 188) dX5_creep_283 fX5_7 (by decide) zsh187 rfl rfl ?_
      refine z_iload_n dX5_creep_286 rfl ?_
      refine z_iconst dX5_creep_287 ?_
      refine z_callS mX5_of vX5_of rfl dX5_creep_288 kX5_40 (by decide) rfl (by show _ ≤ 8; simp) (fun v288 M288 q288 => ?_)
      obtain ⟨rfl, rfl⟩ := q288
      try simp only [zpush]
      refine z_dup2 dX5_creep_291 ?_
      refine z_sload dX5_creep_292 (by omega) ?_
      refine z_iconst dX5_creep_293 ?_
      refine z_iadd dX5_creep_294 ?_
      refine z_sstore dX5_creep_295 (by omega) (fun σ295 hσ295 => ?_)
      have hrow : σ295 (360 + 10 * k + 1) = σ (360 + 10 * k + 1) + 1 := by rw [hσ295, zu_at, hσ281, zu_ne (by omega), hσ269, zu_ne (by omega), hσ258, zu_ne (by omega), h3r]
      refine z_aload_n dX5_creep_296 rfl ?_
      refine z_getR (b := 188) dX5_creep_297 fX5_7 (by decide) zsh187 rfl rfl ?_
      refine z_iload_n dX5_creep_300 rfl ?_
      refine z_iconst dX5_creep_301 ?_
      refine z_callS mX5_of vX5_of rfl dX5_creep_302 kX5_40 (by decide) rfl (by show _ ≤ 8; simp) (fun v302 M302 q302 => ?_)
      obtain ⟨rfl, rfl⟩ := q302
      try simp only [zpush]
      refine z_sload dX5_creep_305 (by omega) ?_
      refine z_bipush dX5_creep_306 (by decide) ?_
      refine z_icmp_ne (tgt := 352) dX5_creep_308 (by decide) (by omega) (by omega) (fun c308 => ?_) (fun c308 => ?_)
      · refine z_vret dX5_creep_352 rfl ?_
        refine ⟨rfl, ?_⟩
        have ht : sTo σ k step = to := by unfold sTo; rw [hx]; exact hto
        have f5 : sC5 (sC4 σ3 k (sFrom σ k) x) k = σ295 := by rw [hσ295, hσ281, hσ269, hσ258]; rfl
        unfold sCreep
        rw [ht, hx, ← h1, ← h2, hwh, ← h3, f5]
        unfold sC6
        first
          | rw [if_neg (by omega)]
          | rw [if_pos (by omega), hσ351, hσ333, hσ322]; rfl
      · refine z_aload_n dX5_creep_311 rfl ?_
        refine z_getR (b := 188) dX5_creep_312 fX5_7 (by decide) zsh187 rfl rfl ?_
        refine z_sipush dX5_creep_315 (by decide) ?_
        refine z_dup2 dX5_creep_318 ?_
        refine z_sload dX5_creep_319 (by omega) ?_
        refine z_iconst dX5_creep_320 ?_
        refine z_iadd dX5_creep_321 ?_
        refine z_sstore dX5_creep_322 (by omega) (fun σ322 hσ322 => ?_)
        refine z_aload_n dX5_creep_323 rfl ?_
        refine z_getR (b := 188) dX5_creep_324 fX5_7 (by decide) zsh187 rfl rfl ?_
        refine z_iload_n dX5_creep_327 rfl ?_
        refine z_iconst dX5_creep_328 ?_
        refine z_callS mX5_of vX5_of rfl dX5_creep_329 kX5_40 (by decide) rfl (by show _ ≤ 8; simp) (fun v329 M329 q329 => ?_)
        obtain ⟨rfl, rfl⟩ := q329
        try simp only [zpush]
        refine z_iconst dX5_creep_332 ?_
        refine z_sstore dX5_creep_333 (by omega) (fun σ333 hσ333 => ?_)
        refine z_aload_n dX5_creep_334 rfl ?_
        refine z_getR (b := 188) dX5_creep_335 fX5_7 (by decide) zsh187 rfl rfl ?_
        refine z_iload_n dX5_creep_338 rfl ?_
        refine z_iconst dX5_creep_339 ?_
        refine z_callS mX5_of vX5_of rfl dX5_creep_340 kX5_40 (by decide) rfl (by show _ ≤ 8; simp) (fun v340 M340 q340 => ?_)
        obtain ⟨rfl, rfl⟩ := q340
        try simp only [zpush]
        refine z_aload_n dX5_creep_343 rfl ?_
        refine z_getR (b := 188) dX5_creep_344 fX5_7 (by decide) zsh187 rfl rfl ?_
        refine z_sipush dX5_creep_347 (by decide) ?_
        refine z_sload dX5_creep_350 (by omega) ?_
        refine z_sstore dX5_creep_351 (by omega) (fun σ351 hσ351 => ?_)
        refine z_vret dX5_creep_352 rfl ?_
        refine ⟨rfl, ?_⟩
        have ht : sTo σ k step = to := by unfold sTo; rw [hx]; exact hto
        have f5 : sC5 (sC4 σ3 k (sFrom σ k) x) k = σ295 := by rw [hσ295, hσ281, hσ269, hσ258]; rfl
        unfold sCreep
        rw [ht, hx, ← h1, ← h2, hwh, ← h3, f5]
        unfold sC6
        first
          | rw [if_neg (by omega)]
          | rw [if_pos (by omega), hσ351, hσ333, hσ322]; rfl
    refine z_iload dX5_creep_109 rfl ?_
    refine z_if_eq (tgt := 223) dX5_creep_111 (by decide) (by decide) (fun _ => ?_) (fun h => absurd h (by decide))
    refine z_aload_n dX5_creep_223 rfl ?_
    refine z_getR (b := 188) dX5_creep_224 fX5_7 (by decide) zsh187 rfl rfl ?_
    refine z_iload_n dX5_creep_227 rfl ?_
    refine z_bipush dX5_creep_228 (by decide) ?_
    refine z_callS mX5_of vX5_of rfl dX5_creep_230 kX5_40 (by decide) rfl (by show _ ≤ 8; simp) (fun v230 M230 q230 => ?_)
    obtain ⟨rfl, rfl⟩ := q230
    try simp only [zpush]
    refine z_iconst dX5_creep_233 ?_
    refine z_sstore dX5_creep_234 (by omega) (fun σ234 hσ234 => ?_)
    refine z_aload_n dX5_creep_235 rfl ?_
    refine z_getR (b := 188) dX5_creep_236 fX5_7 (by decide) zsh187 rfl rfl ?_
    refine z_iload_n dX5_creep_239 rfl ?_
    refine z_bipush dX5_creep_240 (by decide) ?_
    refine z_callS mX5_of vX5_of rfl dX5_creep_242 kX5_40 (by decide) rfl (by show _ ≤ 8; simp) (fun v242 M242 q242 => ?_)
    obtain ⟨rfl, rfl⟩ := q242
    try simp only [zpush]
    refine z_iconst dX5_creep_245 ?_
    refine z_sstore dX5_creep_246 (by omega) (fun σ246 hσ246 => ?_)
    first
      | exact zsub' (J _ (by unfold sC3; rw [if_pos (by omega)]; unfold sCrD sCrC sCrA; first | rw [if_pos (by assumption)]; subst_vars; rfl | rw [if_neg (by assumption)]; subst_vars; rfl)) ⟨rfl, rfl, rfl, rfl, trivial⟩
      | exact zsub' (J _ (by unfold sC3; rw [if_neg (by omega)]; subst_vars; rfl)) ⟨rfl, rfl, rfl, rfl, trivial⟩
  · refine z_iconst dX5_creep_69 ?_
    refine z_goto (tgt := 74) dX5_creep_70 (by decide) ?_
    refine z_istore dX5_creep_74 (by decide) ?_
    refine z_aload_n dX5_creep_76 rfl ?_
    refine z_getR (b := 188) dX5_creep_77 fX5_7 (by decide) zsh187 rfl rfl ?_
    refine z_iload_n dX5_creep_80 rfl ?_
    refine z_iconst dX5_creep_81 ?_
    refine z_callS mX5_of vX5_of rfl dX5_creep_82 kX5_40 (by decide) rfl (by show _ ≤ 8; simp) (fun v82 M82 q82 => ?_)
    obtain ⟨rfl, rfl⟩ := q82
    try simp only [zpush]
    refine z_dup2 dX5_creep_85 ?_
    refine z_sload dX5_creep_86 (by omega) ?_
    refine z_aload_n dX5_creep_87 rfl ?_
    refine z_iload_n dX5_creep_88 rfl ?_
    refine z_iload_n dX5_creep_89 rfl ?_
    refine z_callV mX5_price (vX5_price hI hk (by omega)) rfl dX5_creep_90 kX5_93 (by decide) rfl (by show _ ≤ 8; simp) (by decide) zsh187 (by decide) rfl (fun v90 M90 q90 => ?_)
    obtain ⟨rfl, rfl⟩ := q90
    try simp only [zpush]
    refine z_isub dX5_creep_93 ?_
    refine z_sstore dX5_creep_94 (by omega) (fun σ94 hσ94 => ?_)
    refine z_aload_n dX5_creep_95 rfl ?_
    refine z_getR (b := 188) dX5_creep_96 fX5_7 (by decide) zsh187 rfl rfl ?_
    refine z_iload_n dX5_creep_99 rfl ?_
    refine z_iconst dX5_creep_100 ?_
    refine z_callS mX5_of vX5_of rfl dX5_creep_101 kX5_40 (by decide) rfl (by show _ ≤ 8; simp) (fun v101 M101 q101 => ?_)
    obtain ⟨rfl, rfl⟩ := q101
    try simp only [zpush]
    refine z_dup2 dX5_creep_104 ?_
    refine z_sload dX5_creep_105 (by omega) ?_
    refine z_iconst dX5_creep_106 ?_
    refine z_iadd dX5_creep_107 ?_
    refine z_sstore dX5_creep_108 (by omega) (fun σ108 hσ108 => ?_)
    have h1 : σ94 = sC1 σ k step := hσ94
    have h2 : σ108 = sC2 σ94 k := hσ108
    have e0 : ∀ j : Int, j ≠ 360 + 10 * k + 2 → j ≠ 360 + 10 * k + 5 → σ108 j = σ j := fun j j1 j2 => by rw [hσ108, zu_ne j2, hσ94, zu_ne j1]
    have e1 : σ108 (120 + to) = σ (120 + to) := e0 _ (by omega) (by omega)
    generalize hwh : σ108 (120 + to) = w at e1
    have J : ∀ σ3 : zS, σ3 = sC3 σ108 k (sWhy σ k to) w → zW G YX5_creep (fun v M' => v = none ∧ M' = zt M (sCreep σ k step)) 247 [(0, .inr (some 187)), (1, .inl k), (3, .inl (6 * σ (360 + 10 * k + 1) + σ (360 + 10 * k + 0))), (4, .inl x)] [] (zt M σ3) := by
      intro σ3 h3
      have h3r : σ3 (360 + 10 * k + 1) = σ (360 + 10 * k + 1) := by rw [h3, sC3_off (by omega) (by omega) (by omega) (by omega), e0 _ (by omega) (by omega)]
      refine z_aload_n dX5_creep_247 rfl ?_
      refine z_getR (b := 188) dX5_creep_248 fX5_7 (by decide) zsh187 rfl rfl ?_
      refine z_bipush dX5_creep_251 (by decide) ?_
      refine z_iload_n dX5_creep_253 rfl ?_
      refine z_iadd dX5_creep_254 ?_
      refine z_iload_n dX5_creep_255 rfl ?_
      refine z_iconst dX5_creep_256 ?_
      refine z_iadd dX5_creep_257 ?_
      refine z_sstore dX5_creep_258 (by omega) (fun σ258 hσ258 => ?_)
      refine z_aload_n dX5_creep_259 rfl ?_
      refine z_getR (b := 188) dX5_creep_260 fX5_7 (by decide) zsh187 rfl rfl ?_
      refine z_sipush dX5_creep_263 (by decide) ?_
      refine z_iload_n dX5_creep_266 rfl ?_
      refine z_iadd dX5_creep_267 ?_
      refine z_iconst dX5_creep_268 ?_
      refine z_sstore dX5_creep_269 (by omega) (fun σ269 hσ269 => ?_)
      refine z_aload_n dX5_creep_270 rfl ?_
      refine z_getR (b := 188) dX5_creep_271 fX5_7 (by decide) zsh187 rfl rfl ?_
      refine z_iload_n dX5_creep_274 rfl ?_
      refine z_iconst dX5_creep_275 ?_
      refine z_callS mX5_of vX5_of rfl dX5_creep_276 kX5_40 (by decide) rfl (by show _ ≤ 8; simp) (fun v276 M276 q276 => ?_)
      obtain ⟨rfl, rfl⟩ := q276
      try simp only [zpush]
      refine z_iload dX5_creep_279 rfl ?_
      refine z_sstore dX5_creep_281 (by omega) (fun σ281 hσ281 => ?_)
      refine z_aload_n dX5_creep_282 rfl ?_
      refine z_getR (b := 188) dX5_creep_283 fX5_7 (by decide) zsh187 rfl rfl ?_
      refine z_iload_n dX5_creep_286 rfl ?_
      refine z_iconst dX5_creep_287 ?_
      refine z_callS mX5_of vX5_of rfl dX5_creep_288 kX5_40 (by decide) rfl (by show _ ≤ 8; simp) (fun v288 M288 q288 => ?_)
      obtain ⟨rfl, rfl⟩ := q288
      try simp only [zpush]
      refine z_dup2 dX5_creep_291 ?_
      refine z_sload dX5_creep_292 (by omega) ?_
      refine z_iconst dX5_creep_293 ?_
      refine z_iadd dX5_creep_294 ?_
      refine z_sstore dX5_creep_295 (by omega) (fun σ295 hσ295 => ?_)
      have hrow : σ295 (360 + 10 * k + 1) = σ (360 + 10 * k + 1) + 1 := by rw [hσ295, zu_at, hσ281, zu_ne (by omega), hσ269, zu_ne (by omega), hσ258, zu_ne (by omega), h3r]
      refine z_aload_n dX5_creep_296 rfl ?_
      refine z_getR (b := 188) dX5_creep_297 fX5_7 (by decide) zsh187 rfl rfl ?_
      refine z_iload_n dX5_creep_300 rfl ?_
      refine z_iconst dX5_creep_301 ?_
      refine z_callS mX5_of vX5_of rfl dX5_creep_302 kX5_40 (by decide) rfl (by show _ ≤ 8; simp) (fun v302 M302 q302 => ?_)
      obtain ⟨rfl, rfl⟩ := q302
      try simp only [zpush]
      refine z_sload dX5_creep_305 (by omega) ?_
      refine z_bipush dX5_creep_306 (by decide) ?_
      refine z_icmp_ne (tgt := 352) dX5_creep_308 (by decide) (by omega) (by omega) (fun c308 => ?_) (fun c308 => ?_)
      · refine z_vret dX5_creep_352 rfl ?_
        refine ⟨rfl, ?_⟩
        have ht : sTo σ k step = to := by unfold sTo; rw [hx]; exact hto
        have f5 : sC5 (sC4 σ3 k (sFrom σ k) x) k = σ295 := by rw [hσ295, hσ281, hσ269, hσ258]; rfl
        unfold sCreep
        rw [ht, hx, ← h1, ← h2, hwh, ← h3, f5]
        unfold sC6
        first
          | rw [if_neg (by omega)]
          | rw [if_pos (by omega), hσ351, hσ333, hσ322]; rfl
      · refine z_aload_n dX5_creep_311 rfl ?_
        refine z_getR (b := 188) dX5_creep_312 fX5_7 (by decide) zsh187 rfl rfl ?_
        refine z_sipush dX5_creep_315 (by decide) ?_
        refine z_dup2 dX5_creep_318 ?_
        refine z_sload dX5_creep_319 (by omega) ?_
        refine z_iconst dX5_creep_320 ?_
        refine z_iadd dX5_creep_321 ?_
        refine z_sstore dX5_creep_322 (by omega) (fun σ322 hσ322 => ?_)
        refine z_aload_n dX5_creep_323 rfl ?_
        refine z_getR (b := 188) dX5_creep_324 fX5_7 (by decide) zsh187 rfl rfl ?_
        refine z_iload_n dX5_creep_327 rfl ?_
        refine z_iconst dX5_creep_328 ?_
        refine z_callS mX5_of vX5_of rfl dX5_creep_329 kX5_40 (by decide) rfl (by show _ ≤ 8; simp) (fun v329 M329 q329 => ?_)
        obtain ⟨rfl, rfl⟩ := q329
        try simp only [zpush]
        refine z_iconst dX5_creep_332 ?_
        refine z_sstore dX5_creep_333 (by omega) (fun σ333 hσ333 => ?_)
        refine z_aload_n dX5_creep_334 rfl ?_
        refine z_getR (b := 188) dX5_creep_335 fX5_7 (by decide) zsh187 rfl rfl ?_
        refine z_iload_n dX5_creep_338 rfl ?_
        refine z_iconst dX5_creep_339 ?_
        refine z_callS mX5_of vX5_of rfl dX5_creep_340 kX5_40 (by decide) rfl (by show _ ≤ 8; simp) (fun v340 M340 q340 => ?_)
        obtain ⟨rfl, rfl⟩ := q340
        try simp only [zpush]
        refine z_aload_n dX5_creep_343 rfl ?_
        refine z_getR (b := 188) dX5_creep_344 fX5_7 (by decide) zsh187 rfl rfl ?_
        refine z_sipush dX5_creep_347 (by decide) ?_
        refine z_sload dX5_creep_350 (by omega) ?_
        refine z_sstore dX5_creep_351 (by omega) (fun σ351 hσ351 => ?_)
        refine z_vret dX5_creep_352 rfl ?_
        refine ⟨rfl, ?_⟩
        have ht : sTo σ k step = to := by unfold sTo; rw [hx]; exact hto
        have f5 : sC5 (sC4 σ3 k (sFrom σ k) x) k = σ295 := by rw [hσ295, hσ281, hσ269, hσ258]; rfl
        unfold sCreep
        rw [ht, hx, ← h1, ← h2, hwh, ← h3, f5]
        unfold sC6
        first
          | rw [if_neg (by omega)]
          | rw [if_pos (by omega), hσ351, hσ333, hσ322]; rfl
    refine z_iload dX5_creep_109 rfl ?_
    refine z_if_eq (tgt := 223) dX5_creep_111 (by decide) (by decide) (fun h => absurd h (by decide)) (fun _ => ?_)
    refine z_aload_n dX5_creep_114 rfl ?_
    refine z_getR (b := 188) dX5_creep_115 fX5_7 (by decide) zsh187 rfl rfl ?_
    refine z_bipush dX5_creep_118 (by decide) ?_
    refine z_iload dX5_creep_120 rfl ?_
    refine z_iadd dX5_creep_122 ?_
    refine z_sload dX5_creep_123 (by omega) ?_
    rw [hwh]
    refine z_istore dX5_creep_124 (by decide) ?_
    refine z_aload_n dX5_creep_126 rfl ?_
    refine z_getR (b := 188) dX5_creep_127 fX5_7 (by decide) zsh187 rfl rfl ?_
    refine z_iload_n dX5_creep_130 rfl ?_
    refine z_bipush dX5_creep_131 (by decide) ?_
    refine z_callS mX5_of vX5_of rfl dX5_creep_133 kX5_40 (by decide) rfl (by show _ ≤ 8; simp) (fun v133 M133 q133 => ?_)
    obtain ⟨rfl, rfl⟩ := q133
    try simp only [zpush]
    refine z_aload_n dX5_creep_136 rfl ?_
    refine z_getR (b := 188) dX5_creep_137 fX5_7 (by decide) zsh187 rfl rfl ?_
    refine z_iload_n dX5_creep_140 rfl ?_
    refine z_bipush dX5_creep_141 (by decide) ?_
    refine z_callS mX5_of vX5_of rfl dX5_creep_143 kX5_40 (by decide) rfl (by show _ ≤ 8; simp) (fun v143 M143 q143 => ?_)
    obtain ⟨rfl, rfl⟩ := q143
    try simp only [zpush]
    refine z_sload dX5_creep_146 (by omega) ?_
    refine z_iload dX5_creep_147 rfl ?_
    have e8 := e0 (360 + 10 * k + 8) (by omega) (by omega)
    have w0 : sWhy σ k to = 0 := by omega
    have hw1 : 1 ≤ w := by
            unfold sWhy at w0
            split at w0
            · omega
            · omega
    refine z_icmp_ne (tgt := 168) dX5_creep_149 (by decide) (by omega) (by omega) (fun c149 => ?_) (fun c149 => ?_)
    · refine z_iconst dX5_creep_168 ?_
      refine z_sstore dX5_creep_169 (by omega) (fun σ169 hσ169 => ?_)
      refine z_aload_n dX5_creep_170 rfl ?_
      refine z_getR (b := 188) dX5_creep_171 fX5_7 (by decide) zsh187 rfl rfl ?_
      refine z_iload_n dX5_creep_174 rfl ?_
      refine z_bipush dX5_creep_175 (by decide) ?_
      refine z_callS mX5_of vX5_of rfl dX5_creep_177 kX5_40 (by decide) rfl (by show _ ≤ 8; simp) (fun v177 M177 q177 => ?_)
      obtain ⟨rfl, rfl⟩ := q177
      try simp only [zpush]
      refine z_iload dX5_creep_180 rfl ?_
      refine z_sstore dX5_creep_182 (by omega) (fun σ182 hσ182 => ?_)
      refine z_aload_n dX5_creep_183 rfl ?_
      refine z_getR (b := 188) dX5_creep_184 fX5_7 (by decide) zsh187 rfl rfl ?_
      refine z_iload_n dX5_creep_187 rfl ?_
      refine z_bipush dX5_creep_188 (by decide) ?_
      refine z_callS mX5_of vX5_of rfl dX5_creep_190 kX5_40 (by decide) rfl (by show _ ≤ 8; simp) (fun v190 M190 q190 => ?_)
      obtain ⟨rfl, rfl⟩ := q190
      try simp only [zpush]
      refine z_dup2 dX5_creep_193 ?_
      refine z_sload dX5_creep_194 (by omega) ?_
      refine z_iconst dX5_creep_195 ?_
      refine z_iadd dX5_creep_196 ?_
      refine z_sstore dX5_creep_197 (by omega) (fun σ197 hσ197 => ?_)
      refine z_aload_n dX5_creep_198 rfl ?_
      refine z_getR (b := 188) dX5_creep_199 fX5_7 (by decide) zsh187 rfl rfl ?_
      refine z_sipush dX5_creep_202 (by decide) ?_
      refine z_bipush dX5_creep_205 (by decide) ?_
      refine z_iload_n dX5_creep_207 rfl ?_
      refine z_imul dX5_creep_208 ?_
      refine z_iadd dX5_creep_209 ?_
      refine z_iload dX5_creep_210 rfl ?_
      refine z_iadd dX5_creep_212 ?_
      refine z_iconst dX5_creep_213 ?_
      refine z_isub dX5_creep_214 ?_
      refine z_dup2 dX5_creep_215 ?_
      refine z_sload dX5_creep_216 (by omega) ?_
      refine z_iconst dX5_creep_217 ?_
      refine z_iadd dX5_creep_218 ?_
      refine z_sstore dX5_creep_219 (by omega) (fun σ219 hσ219 => ?_)
      refine z_goto (tgt := 247) dX5_creep_220 (by decide) ?_
      first
        | exact zsub' (J _ (by unfold sC3; rw [if_pos (by omega)]; unfold sCrD sCrC sCrA; first | rw [if_pos (by assumption)]; subst_vars; rfl | rw [if_neg (by assumption)]; subst_vars; rfl)) ⟨rfl, rfl, rfl, rfl, trivial⟩
        | exact zsub' (J _ (by unfold sC3; rw [if_neg (by omega)]; subst_vars; rfl)) ⟨rfl, rfl, rfl, rfl, trivial⟩
    · refine z_aload_n dX5_creep_152 rfl ?_
      refine z_getR (b := 188) dX5_creep_153 fX5_7 (by decide) zsh187 rfl rfl ?_
      refine z_iload_n dX5_creep_156 rfl ?_
      refine z_bipush dX5_creep_157 (by decide) ?_
      refine z_callS mX5_of vX5_of rfl dX5_creep_159 kX5_40 (by decide) rfl (by show _ ≤ 8; simp) (fun v159 M159 q159 => ?_)
      obtain ⟨rfl, rfl⟩ := q159
      try simp only [zpush]
      refine z_sload dX5_creep_162 (by omega) ?_
      refine z_iconst dX5_creep_163 ?_
      refine z_iadd dX5_creep_164 ?_
      refine z_goto (tgt := 169) dX5_creep_165 (by decide) ?_
      refine z_sstore dX5_creep_169 (by omega) (fun σ169 hσ169 => ?_)
      refine z_aload_n dX5_creep_170 rfl ?_
      refine z_getR (b := 188) dX5_creep_171 fX5_7 (by decide) zsh187 rfl rfl ?_
      refine z_iload_n dX5_creep_174 rfl ?_
      refine z_bipush dX5_creep_175 (by decide) ?_
      refine z_callS mX5_of vX5_of rfl dX5_creep_177 kX5_40 (by decide) rfl (by show _ ≤ 8; simp) (fun v177 M177 q177 => ?_)
      obtain ⟨rfl, rfl⟩ := q177
      try simp only [zpush]
      refine z_iload dX5_creep_180 rfl ?_
      refine z_sstore dX5_creep_182 (by omega) (fun σ182 hσ182 => ?_)
      refine z_aload_n dX5_creep_183 rfl ?_
      refine z_getR (b := 188) dX5_creep_184 fX5_7 (by decide) zsh187 rfl rfl ?_
      refine z_iload_n dX5_creep_187 rfl ?_
      refine z_bipush dX5_creep_188 (by decide) ?_
      refine z_callS mX5_of vX5_of rfl dX5_creep_190 kX5_40 (by decide) rfl (by show _ ≤ 8; simp) (fun v190 M190 q190 => ?_)
      obtain ⟨rfl, rfl⟩ := q190
      try simp only [zpush]
      refine z_dup2 dX5_creep_193 ?_
      refine z_sload dX5_creep_194 (by omega) ?_
      refine z_iconst dX5_creep_195 ?_
      refine z_iadd dX5_creep_196 ?_
      refine z_sstore dX5_creep_197 (by omega) (fun σ197 hσ197 => ?_)
      refine z_aload_n dX5_creep_198 rfl ?_
      refine z_getR (b := 188) dX5_creep_199 fX5_7 (by decide) zsh187 rfl rfl ?_
      refine z_sipush dX5_creep_202 (by decide) ?_
      refine z_bipush dX5_creep_205 (by decide) ?_
      refine z_iload_n dX5_creep_207 rfl ?_
      refine z_imul dX5_creep_208 ?_
      refine z_iadd dX5_creep_209 ?_
      refine z_iload dX5_creep_210 rfl ?_
      refine z_iadd dX5_creep_212 ?_
      refine z_iconst dX5_creep_213 ?_
      refine z_isub dX5_creep_214 ?_
      refine z_dup2 dX5_creep_215 ?_
      refine z_sload dX5_creep_216 (by omega) ?_
      refine z_iconst dX5_creep_217 ?_
      refine z_iadd dX5_creep_218 ?_
      refine z_sstore dX5_creep_219 (by omega) (fun σ219 hσ219 => ?_)
      refine z_goto (tgt := 247) dX5_creep_220 (by decide) ?_
      first
        | exact zsub' (J _ (by unfold sC3; rw [if_pos (by omega)]; unfold sCrD sCrC sCrA; first | rw [if_pos (by assumption)]; subst_vars; rfl | rw [if_neg (by assumption)]; subst_vars; rfl)) ⟨rfl, rfl, rfl, rfl, trivial⟩
        | exact zsub' (J _ (by unfold sC3; rw [if_neg (by omega)]; subst_vars; rfl)) ⟨rfl, rfl, rfl, rfl, trivial⟩
end
section
/-! ===== the rules: what they leave of the row of numbers ===== -/
/-- what a snail does in a turn; the turn -/
def sAct (σ : zS) (k : Int) : zS := if σ (360 + 10 * k + 3) = 0 then (if sCh σ k < 3 then sCreep σ k (sCh σ k) else sRest σ k) else σ
def sAll (σ : zS) : zS := zfor (fun k s => sAct s k) 0 (σ 535) σ
def sAgeF (c : Int) (s : zS) : zS := zu s (240 + c) (s (240 + c) + if s (120 + c) > 0 then 1 else 0)
def sAge (σ : zS) : zS := zfor sAgeF 0 120 σ
def sDryF (c : Int) (s : zS) : zS := if s (120 + c) > 0 ∧ s (240 + c) > s 531 then zu (zu s (120 + c) 0) (240 + c) 0 else s
def sDry (σ : zS) : zS := zfor sDryF 0 120 σ
def sTick (σ : zS) : zS := zu σ 536 (σ 536 + 1)
def sGrowF (g c : Int) (s : zS) : zS := zu s (0 + c) (s (0 + c) + if g = 1 ∧ s (120 + c) = 0 ∧ s (0 + c) < 9 then 1 else 0)
def sGrow (g : Int) (σ : zS) : zS := zfor (sGrowF g) 0 120 σ
def sG (σ : zS) : Int := if σ 536 % σ 534 = 0 then 1 else 0
def sTurn (σ : zS) : zS := sGrow (sG (sTick (sDry (sAge (sAll σ))))) (sTick (sDry (sAge (sAll σ))))
theorem sAge_at0 (j : Int) : ∀ (n : Nat) (i : Int) (s : zS), 0 ≤ i → i + n = 120 → zfor sAgeF i 120 s j = if 240 + i ≤ j ∧ j < 360 then s j + (if s (j - 120) > 0 then 1 else 0) else s j
  | 0, i, s, h0, h => by rw [zfor_end (by omega), if_neg (by omega)]
  | n + 1, i, s, h0, h => by
    rw [zfor_step (by omega), sAge_at0 j n (i + 1) _ (by omega) (by omega)]
    unfold sAgeF
    by_cases hj : j = 240 + i
    · subst hj
      rw [if_neg (show ¬ (240 + (i + 1) ≤ 240 + i ∧ 240 + i < 360) by omega), if_pos (show 240 + i ≤ 240 + i ∧ 240 + i < 360 by omega), zu_at, show 240 + i - 120 = 120 + i by omega]
    · rw [zu_ne hj]
      by_cases h2 : 240 + i ≤ j ∧ j < 360
      · rw [if_pos h2, if_pos (show 240 + (i + 1) ≤ j ∧ j < 360 by omega), zu_ne (by omega)]
      · rw [if_neg h2, if_neg (show ¬ (240 + (i + 1) ≤ j ∧ j < 360) by omega)]
theorem sAge_at (σ : zS) (j : Int) : sAge σ j = if 240 ≤ j ∧ j < 360 then σ j + (if σ (j - 120) > 0 then 1 else 0) else σ j := sAge_at0 j 120 0 σ (by omega) (by omega)
theorem sDry_at0 (j : Int) : ∀ (n : Nat) (i : Int) (s : zS), 0 ≤ i → i + n = 120 → zfor sDryF i 120 s j = if 120 + i ≤ j ∧ j < 240 then (if s j > 0 ∧ s (j + 120) > s 531 then 0 else s j) else if 240 + i ≤ j ∧ j < 360 then (if s (j - 120) > 0 ∧ s j > s 531 then 0 else s j) else s j
  | 0, i, s, h0, h => by rw [zfor_end (by omega), if_neg (by omega), if_neg (by omega)]
  | n + 1, i, s, h0, h => by
    rw [zfor_step (by omega), sDry_at0 j n (i + 1) _ (by omega) (by omega)]
    unfold sDryF
    by_cases hc : s (120 + i) > 0 ∧ s (240 + i) > s 531
    · rw [if_pos hc]
      by_cases h1 : j = 120 + i
      · subst h1
        rw [if_neg (by omega), if_neg (by omega), if_pos (by omega), zu_ne (by omega), zu_at, if_pos (by rw [show 120 + i + 120 = 240 + i by omega]; exact hc)]
      · by_cases h2 : j = 240 + i
        · subst h2
          rw [if_neg (by omega), if_neg (by omega), if_neg (by omega), if_pos (by omega), zu_at, if_pos (by rw [show 240 + i - 120 = 120 + i by omega]; exact hc)]
        · rw [zu_ne h2, zu_ne h1, zu_ne (show (531 : Int) ≠ 240 + i by omega), zu_ne (show (531 : Int) ≠ 120 + i by omega)]
          by_cases h3 : 120 + (i + 1) ≤ j ∧ j < 240
          · rw [if_pos h3, if_pos (show 120 + i ≤ j ∧ j < 240 by omega), zu_ne (by omega), zu_ne (by omega)]
          · rw [if_neg h3, if_neg (show ¬ (120 + i ≤ j ∧ j < 240) by omega)]
            by_cases h4 : 240 + (i + 1) ≤ j ∧ j < 360
            · rw [if_pos h4, if_pos (show 240 + i ≤ j ∧ j < 360 by omega), zu_ne (by omega), zu_ne (by omega)]
            · rw [if_neg h4, if_neg (show ¬ (240 + i ≤ j ∧ j < 360) by omega)]
    · rw [if_neg hc]
      by_cases h1 : j = 120 + i
      · subst h1
        rw [if_neg (by omega), if_neg (by omega), if_pos (by omega), if_neg (by rw [show 120 + i + 120 = 240 + i by omega]; exact hc)]
      · by_cases h2 : j = 240 + i
        · subst h2
          rw [if_neg (by omega), if_neg (by omega), if_neg (by omega), if_pos (by omega), if_neg (by rw [show 240 + i - 120 = 120 + i by omega]; exact hc)]
        · by_cases h3 : 120 + (i + 1) ≤ j ∧ j < 240
          · rw [if_pos h3, if_pos (show 120 + i ≤ j ∧ j < 240 by omega)]
          · rw [if_neg h3, if_neg (show ¬ (120 + i ≤ j ∧ j < 240) by omega)]
            by_cases h4 : 240 + (i + 1) ≤ j ∧ j < 360
            · rw [if_pos h4, if_pos (show 240 + i ≤ j ∧ j < 360 by omega)]
            · rw [if_neg h4, if_neg (show ¬ (240 + i ≤ j ∧ j < 360) by omega)]
theorem sDry_at (σ : zS) (j : Int) : sDry σ j = if 120 ≤ j ∧ j < 240 then (if σ j > 0 ∧ σ (j + 120) > σ 531 then 0 else σ j) else if 240 ≤ j ∧ j < 360 then (if σ (j - 120) > 0 ∧ σ j > σ 531 then 0 else σ j) else σ j := sDry_at0 j 120 0 σ (by omega) (by omega)
theorem sGrow_at0 (g j : Int) : ∀ (n : Nat) (i : Int) (s : zS), 0 ≤ i → i + n = 120 → zfor (sGrowF g) i 120 s j = if i ≤ j ∧ j < 120 then s j + (if g = 1 ∧ s (120 + j) = 0 ∧ s j < 9 then 1 else 0) else s j
  | 0, i, s, h0, h => by rw [zfor_end (by omega), if_neg (by omega)]
  | n + 1, i, s, h0, h => by
    rw [zfor_step (by omega), sGrow_at0 g j n (i + 1) _ (by omega) (by omega)]
    unfold sGrowF
    rw [Int.zero_add]
    by_cases hj : j = i
    · subst hj
      rw [if_neg (show ¬ (j + 1 ≤ j ∧ j < 120) by omega), if_pos (show j ≤ j ∧ j < 120 by omega), zu_at]
    · rw [zu_ne hj]
      by_cases h2 : i ≤ j ∧ j < 120
      · rw [if_pos h2, if_pos (show i + 1 ≤ j ∧ j < 120 by omega), zu_ne (by omega)]
      · rw [if_neg h2, if_neg (show ¬ (i + 1 ≤ j ∧ j < 120) by omega)]
theorem sGrow_at (g : Int) (σ : zS) (j : Int) : sGrow g σ j = if 0 ≤ j ∧ j < 120 then σ j + (if g = 1 ∧ σ (120 + j) = 0 ∧ σ j < 9 then 1 else 0) else σ j := sGrow_at0 g j 120 0 σ (by omega) (by omega)
theorem sAge_ag (σ : zS) {c : Int} (h : 0 ≤ c ∧ c < 120) : sAge σ (240 + c) = σ (240 + c) + (if σ (120 + c) > 0 then 1 else 0) := by
  rw [sAge_at, if_pos (by omega), show 240 + c - 120 = 120 + c by omega]
theorem sAge_o (σ : zS) {j : Int} (h : j < 240 ∨ 360 ≤ j) : sAge σ j = σ j := by rw [sAge_at, if_neg (by omega)]
theorem sDry_tr (σ : zS) {c : Int} (h : 0 ≤ c ∧ c < 120) : sDry σ (120 + c) = if σ (120 + c) > 0 ∧ σ (240 + c) > σ 531 then 0 else σ (120 + c) := by
  rw [sDry_at, if_pos (show 120 ≤ 120 + c ∧ 120 + c < 240 by omega), show 120 + c + 120 = 240 + c by omega]
theorem sDry_ag (σ : zS) {c : Int} (h : 0 ≤ c ∧ c < 120) : sDry σ (240 + c) = if σ (120 + c) > 0 ∧ σ (240 + c) > σ 531 then 0 else σ (240 + c) := by
  rw [sDry_at, if_neg (show ¬ (120 ≤ 240 + c ∧ 240 + c < 240) by omega), if_pos (show 240 ≤ 240 + c ∧ 240 + c < 360 by omega), show 240 + c - 120 = 120 + c by omega]
theorem sDry_o (σ : zS) {j : Int} (h : j < 120 ∨ 360 ≤ j) : sDry σ j = σ j := by rw [sDry_at, if_neg (by omega), if_neg (by omega)]
theorem sGrow_fr (g : Int) (σ : zS) {c : Int} (h : 0 ≤ c ∧ c < 120) : sGrow g σ c = σ c + (if g = 1 ∧ σ (120 + c) = 0 ∧ σ c < 9 then 1 else 0) := by
  rw [sGrow_at, if_pos h]
theorem sGrow_o (g : Int) (σ : zS) {j : Int} (h : j < 0 ∨ 120 ≤ j) : sGrow g σ j = σ j := by rw [sGrow_at, if_neg (by omega)]
/-- ages are within the setting -/
def zJ (σ : zS) : Prop := ∀ c : Int, 0 ≤ c → c < 120 → σ (240 + c) ≤ σ 531
theorem zI_off {σ τ : zS} (hI : zI σ) (h : ∀ j : Int, 360 ≤ j → j < 536 → τ j = σ j) (hc : ∀ c : Int, 0 ≤ c → c < 120 → zIc τ c) : zI τ := by
  refine ⟨?_, hc, fun k h1 h2 => ?_⟩
  · have := hI.1
    unfold zIs at this ⊢
    rw [h 531 (by omega) (by omega), h 532 (by omega) (by omega), h 533 (by omega) (by omega), h 534 (by omega) (by omega), h 535 (by omega) (by omega)]
    exact this
  · have := hI.2.2 k h1 h2
    unfold zIk at this ⊢
    rw [h _ (by omega) (by omega), h (360 + 10 * k + 1) (by omega) (by omega), h (360 + 10 * k + 2) (by omega) (by omega), h (360 + 10 * k + 3) (by omega) (by omega), h (360 + 10 * k + 8) (by omega) (by omega), h (360 + 10 * k + 9) (by omega) (by omega)]
    exact this
theorem zI_age {σ : zS} (hI : zI σ) (hJ : zJ σ) : zI (sAge σ) := by
  refine zI_off hI (fun j h1 h2 => by rw [sAge_at, if_neg (by omega)]) (fun c h1 h2 => ?_)
  have hc := hI.2.1 c h1 h2
  have hj := hJ c h1 h2
  have hs := hI.1
  unfold zIs at hs
  unfold zIc at hc ⊢
  rw [sAge_o σ (by omega), sAge_o σ (by omega), sAge_ag σ ⟨h1, h2⟩]
  split <;> omega
theorem zI_dry {σ : zS} (hI : zI σ) : zI (sDry σ) := by
  refine zI_off hI (fun j h1 h2 => by rw [sDry_at, if_neg (by omega), if_neg (by omega)]) (fun c h1 h2 => ?_)
  have hc := hI.2.1 c h1 h2
  unfold zIc at hc ⊢
  rw [sDry_o σ (by omega), sDry_tr σ ⟨h1, h2⟩, sDry_ag σ ⟨h1, h2⟩]
  repeat' split
  all_goals omega
/-- no trail, no age -/
def zZ (σ : zS) : Prop := ∀ c : Int, 0 ≤ c → c < 120 → σ (120 + c) = 0 → σ (240 + c) = 0
theorem zJ_dry {σ : zS} (hI : zI σ) (hZ : zZ σ) : zJ (sDry σ) ∧ zZ (sDry σ) := by
  have hs := hI.1
  unfold zIs at hs
  refine ⟨fun c h1 h2 => ?_, fun c h1 h2 => ?_⟩
  · have hc := hI.2.1 c h1 h2
    have hz := hZ c h1 h2
    unfold zIc at hc
    rw [sDry_ag σ ⟨h1, h2⟩, sDry_o σ (by omega)]
    split <;> omega
  · have hc := hI.2.1 c h1 h2
    have hz := hZ c h1 h2
    unfold zIc at hc
    rw [sDry_tr σ ⟨h1, h2⟩, sDry_ag σ ⟨h1, h2⟩]
    repeat' split
    all_goals omega
theorem zI_tick {σ : zS} (hI : zI σ) : zI (sTick σ) := by
  refine zI_off hI (fun j h1 h2 => by unfold sTick; rw [zu_ne (by omega)]) (fun c h1 h2 => ?_)
  have hc := hI.2.1 c h1 h2
  unfold zIc at hc ⊢
  unfold sTick
  rw [zu_ne (by omega), zu_ne (by omega), zu_ne (by omega)]
  exact hc
theorem zI_grow {σ : zS} (hI : zI σ) (g : Int) : zI (sGrow g σ) := by
  refine zI_off hI (fun j h1 h2 => by rw [sGrow_at, if_neg (by omega)]) (fun c h1 h2 => ?_)
  have hc := hI.2.1 c h1 h2
  unfold zIc at hc ⊢
  rw [sGrow_fr g σ ⟨h1, h2⟩, sGrow_o g σ (by omega), sGrow_o g σ (by omega)]
  split <;> omega
/-! a step, place by place -/
theorem sCreep_y {σ : zS} {k step : Int} (h : sWhy σ k (sTo σ k step) = 0) : sCreep σ k step = sC6 (sC5 (sC4 (sCrD (sCrC (sCrA (sC2 (sC1 σ k step) k) k ((sC2 (sC1 σ k step) k) (120 + sTo σ k step))) k) k ((sC2 (sC1 σ k step) k) (120 + sTo σ k step))) k (sFrom σ k) (sLn (σ (360 + 10 * k + 0)) step)) k) k := by
  unfold sCreep sC3
  rw [if_pos h]
theorem sCreep_n {σ : zS} {k step : Int} (h : ¬ sWhy σ k (sTo σ k step) = 0) : sCreep σ k step = sC6 (sC5 (sC4 (zu (zu (sC2 (sC1 σ k step) k) (360 + 10 * k + 8) 0) (360 + 10 * k + 9) 0) k (sFrom σ k) (sLn (σ (360 + 10 * k + 0)) step)) k) k := by
  unfold sCreep sC3
  rw [if_neg h]
theorem sC6_off {σ : zS} {k j : Int} (h1 : j ≠ 537) (h2 : j ≠ 360 + 10 * k + 3) (h3 : j ≠ 360 + 10 * k + 4) : sC6 σ k j = σ j := by
  unfold sC6 sC7
  split
  · rw [zu_ne h3, zu_ne h2, zu_ne h1]
  · rfl
theorem sC5_off {σ : zS} {k j : Int} (h1 : j ≠ 360 + 10 * k + 1) : sC5 σ k j = σ j := zu_ne h1
theorem sC4_off {σ : zS} {k c0 ln j : Int} (h1 : j ≠ 120 + c0) (h2 : j ≠ 240 + c0) (h3 : j ≠ 360 + 10 * k + 0) : sC4 σ k c0 ln j = σ j := by
  unfold sC4
  rw [zu_ne h3, zu_ne h2, zu_ne h1]
theorem sC21_off {σ : zS} {k step j : Int} (h1 : j ≠ 360 + 10 * k + 2) (h2 : j ≠ 360 + 10 * k + 5) : sC2 (sC1 σ k step) k j = σ j := by
  unfold sC2 sC1
  rw [zu_ne h2, zu_ne h1]
/-- what a step leaves of a snail's own numbers, and of all else -/
theorem sCreep_off {σ : zS} {k step j : Int} (hk : 0 ≤ k ∧ k < 9) (hj : (0 ≤ j ∧ j < 360 ∧ j ≠ 120 + sFrom σ k ∧ j ≠ 240 + sFrom σ k) ∨ (360 ≤ j ∧ j < 450 ∧ (j < 360 + 10 * k ∨ 370 + 10 * k ≤ j)) ∨ (531 ≤ j ∧ j < 537)) (hw : 0 ≤ σ (120 + sTo σ k step) ∧ σ (120 + sTo σ k step) ≤ 9) (ht : 0 ≤ sTo σ k step ∧ sTo σ k step < 120) (hf : 0 ≤ sFrom σ k ∧ sFrom σ k < 120) : sCreep σ k step j = σ j := by
  unfold sCreep
  have hw2 : (sC2 (sC1 σ k step) k) (120 + sTo σ k step) = σ (120 + sTo σ k step) := sC21_off (by omega) (by omega)
  by_cases hy : sWhy σ k (sTo σ k step) = 0
  · have hw3 : 1 ≤ σ (120 + sTo σ k step) := by
      unfold sWhy at hy
      split at hy <;> omega
    rw [sC6_off (by omega) (by omega) (by omega), sC5_off (by omega), sC4_off (by omega) (by omega) (by omega), hw2, sC3_off (by omega) (by omega) (by omega) (by omega), sC21_off (by omega) (by omega)]
  · rw [sC6_off (by omega) (by omega) (by omega), sC5_off (by omega), sC4_off (by omega) (by omega) (by omega)]
    unfold sC3
    rw [if_neg hy, zu_ne (by omega), zu_ne (by omega), sC21_off (by omega) (by omega)]
end
section
theorem sC6_3 (σ : zS) (k : Int) : sC6 σ k (360 + 10 * k + 3) = if σ (360 + 10 * k + 1) = 19 then 1 else σ (360 + 10 * k + 3) := by
  unfold sC6 sC7
  split
  · rw [zu_ne (by omega), zu_at]
  · rfl
theorem sC6_4 (σ : zS) {k : Int} (hk : 0 ≤ k ∧ k < 9) : sC6 σ k (360 + 10 * k + 4) = if σ (360 + 10 * k + 1) = 19 then σ 537 + 1 else σ (360 + 10 * k + 4) := by
  unfold sC6 sC7
  split
  · rw [zu_at, zu_ne (by omega), zu_at]
  · rfl
theorem sC6_537 (σ : zS) {k : Int} (hk : 0 ≤ k ∧ k < 9) : sC6 σ k 537 = if σ (360 + 10 * k + 1) = 19 then σ 537 + 1 else σ 537 := by
  unfold sC6 sC7
  split
  · rw [zu_ne (by omega), zu_ne (by omega), zu_at]
  · rfl
theorem sC3_8 {σ : zS} {k y w : Int} (hk : 0 ≤ k ∧ k < 9) (hw : 0 ≤ w ∧ w ≤ 9) : sC3 σ k y w (360 + 10 * k + 8) = if y = 0 then w else 0 := by
  unfold sC3 sCrD sCrC sCrA
  split
  · rw [zu_ne (by omega), zu_ne (by omega), zu_at]
  · rw [zu_ne (by omega), zu_at]
theorem sC3_9 {σ : zS} {k y w : Int} (hk : 0 ≤ k ∧ k < 9) (hw : 0 ≤ w ∧ w ≤ 9) : sC3 σ k y w (360 + 10 * k + 9) = if y = 0 then (if σ (360 + 10 * k + 8) = w then σ (360 + 10 * k + 9) + 1 else 1) else 0 := by
  unfold sC3 sCrD sCrC sCrA
  split
  · rw [zu_ne (by omega), zu_ne (by omega), zu_ne (by omega), zu_at]
  · rw [zu_at]
theorem sC3_6 {σ : zS} {k y w : Int} (hk : 0 ≤ k ∧ k < 9) (hw : 0 ≤ w ∧ w ≤ 9) : sC3 σ k y w (360 + 10 * k + 6) = σ (360 + 10 * k + 6) + if y = 0 then 1 else 0 := by
  unfold sC3 sCrD sCrC sCrA
  split
  · rw [zu_ne (by omega), zu_at, zu_ne (by omega), zu_ne (by omega)]
  · rw [zu_ne (by omega), zu_ne (by omega), Int.add_zero]
theorem sC3_ow {σ : zS} {k y w a b : Int} (hk : 0 ≤ k ∧ k < 9) (hw : 0 ≤ w ∧ w ≤ 9) (h1 : y = 0 → 1 ≤ w) (ha : 0 ≤ a ∧ a < 9) (hb : 0 ≤ b ∧ b < 9) : sC3 σ k y w (450 + 9 * a + b) = σ (450 + 9 * a + b) + if y = 0 ∧ a = k ∧ b = w - 1 then 1 else 0 := by
  unfold sC3 sCrD sCrC sCrA
  by_cases hy : y = 0
  · have := h1 hy
    rw [if_pos hy]
    by_cases h : a = k ∧ b = w - 1
    · obtain ⟨rfl, rfl⟩ := h
      rw [if_pos (show y = 0 ∧ a = a ∧ w - 1 = w - 1 from ⟨hy, rfl, rfl⟩), show 450 + 9 * a + (w - 1) = 450 + 9 * a + w - 1 by omega, zu_at, zu_ne (by omega), zu_ne (by omega), zu_ne (by omega)]
    · rw [if_neg (show ¬ (y = 0 ∧ a = k ∧ b = w - 1) by omega), zu_ne (by omega), zu_ne (by omega), zu_ne (by omega), zu_ne (by omega), Int.add_zero]
  · rw [if_neg hy, if_neg (show ¬ (y = 0 ∧ a = k ∧ b = w - 1) by omega), zu_ne (by omega), zu_ne (by omega), Int.add_zero]
/-- what is asked of a step -/
def zOk (σ : zS) (k step : Int) : Prop := zI σ ∧ (0 ≤ k ∧ k < 9) ∧ (0 ≤ step ∧ step ≤ 2) ∧ sPr σ k step ≠ -5
theorem zOk.r {σ : zS} {k step : Int} (h : zOk σ k step) : (0 ≤ sTo σ k step ∧ sTo σ k step < 120) ∧ (0 ≤ sFrom σ k ∧ sFrom σ k < 114) ∧ (0 ≤ σ (120 + sTo σ k step) ∧ σ (120 + sTo σ k step) ≤ 9) ∧ (sWhy σ k (sTo σ k step) = 0 → 1 ≤ σ (120 + sTo σ k step)) ∧ σ (360 + 10 * k + 1) ≤ 18 ∧ (0 ≤ sLn (σ (360 + 10 * k + 0)) step ∧ sLn (σ (360 + 10 * k + 0)) step ≤ 5) := by
  obtain ⟨hI, hk, hs, hp⟩ := h
  have h1 := sPr_ok hp
  have h2 := hI.2.2 k hk.1 hk.2
  unfold zIk at h2
  have h3 : 0 ≤ sTo σ k step ∧ sTo σ k step < 120 := by unfold sTo; omega
  have h4 := hI.2.1 _ h3.1 h3.2
  unfold zIc at h4
  refine ⟨h3, by unfold sFrom; omega, by omega, fun q => ?_, by omega, h1.1⟩
  unfold sWhy at q
  split at q <;> omega
def sX (σ : zS) (k step : Int) : zS := sC3 (sC2 (sC1 σ k step) k) k (sWhy σ k (sTo σ k step)) (σ (120 + sTo σ k step))
theorem sCreep_e {σ : zS} {k step : Int} (h : zOk σ k step) : sCreep σ k step = sC6 (sC5 (sC4 (sX σ k step) k (sFrom σ k) (sLn (σ (360 + 10 * k + 0)) step)) k) k := by
  have hr := h.r
  have hk := h.2.1
  unfold sCreep sX
  rw [show (sC2 (sC1 σ k step) k) (120 + sTo σ k step) = σ (120 + sTo σ k step) from sC21_off (by omega) (by omega)]
theorem sX_off {σ : zS} {k step j : Int} (h1 : j ≠ 360 + 10 * k + 2) (h2 : j ≠ 360 + 10 * k + 5) (h3 : j ≠ 360 + 10 * k + 6) (h4 : j ≠ 360 + 10 * k + 8) (h5 : j ≠ 360 + 10 * k + 9) (h6 : j < 450 ∨ 531 ≤ j) (h : zOk σ k step) : sX σ k step j = σ j := by
  have hr := h.r
  have hk := h.2.1
  unfold sX
  by_cases hy : sWhy σ k (sTo σ k step) = 0
  · have := hr.2.2.2.1 hy
    rw [sC3_off h3 h4 h5 (by omega), sC21_off h1 h2]
  · unfold sC3
    rw [if_neg hy, zu_ne h5, zu_ne h4, sC21_off h1 h2]
section CRV
variable {σ : zS} {k step : Int}
theorem sCr_row0 (h : zOk σ k step) : sC5 (sC4 (sX σ k step) k (sFrom σ k) (sLn (σ (360 + 10 * k + 0)) step)) k (360 + 10 * k + 1) = σ (360 + 10 * k + 1) + 1 := by
  have hr := h.r
  have hk := h.2.1
  unfold sC5
  rw [zu_at, sC4_off (by omega) (by omega) (by omega), sX_off (by omega) (by omega) (by omega) (by omega) (by omega) (by omega) h]
theorem sCr_0 (h : zOk σ k step) : sCreep σ k step (360 + 10 * k + 0) = sLn (σ (360 + 10 * k + 0)) step := by
  have hk := h.2.1
  rw [sCreep_e h, sC6_off (by omega) (by omega) (by omega), sC5_off (by omega)]
  exact zu_at
theorem sCr_1 (h : zOk σ k step) : sCreep σ k step (360 + 10 * k + 1) = σ (360 + 10 * k + 1) + 1 := by
  have hk := h.2.1
  rw [sCreep_e h, sC6_off (by omega) (by omega) (by omega), sCr_row0 h]
theorem sCr_2 (h : zOk σ k step) : sCreep σ k step (360 + 10 * k + 2) = σ (360 + 10 * k + 2) - sPr σ k step := by
  have hk := h.2.1
  have hr := h.r
  rw [sCreep_e h, sC6_off (by omega) (by omega) (by omega), sC5_off (by omega), sC4_off (by omega) (by omega) (by omega)]
  unfold sX
  by_cases hy : sWhy σ k (sTo σ k step) = 0
  · have := hr.2.2.2.1 hy
    rw [sC3_off (by omega) (by omega) (by omega) (by omega)]
    unfold sC2 sC1
    rw [zu_ne (by omega), zu_at]
  · unfold sC3
    rw [if_neg hy, zu_ne (by omega), zu_ne (by omega)]
    unfold sC2 sC1
    rw [zu_ne (by omega), zu_at]
theorem sCr_3 (h : zOk σ k step) : sCreep σ k step (360 + 10 * k + 3) = if σ (360 + 10 * k + 1) + 1 = 19 then 1 else σ (360 + 10 * k + 3) := by
  have hk := h.2.1
  have hr := h.r
  rw [sCreep_e h, sC6_3, sCr_row0 h, sC5_off (by omega), sC4_off (by omega) (by omega) (by omega), sX_off (by omega) (by omega) (by omega) (by omega) (by omega) (by omega) h]
theorem sCr_4 (h : zOk σ k step) : sCreep σ k step (360 + 10 * k + 4) = if σ (360 + 10 * k + 1) + 1 = 19 then σ 537 + 1 else σ (360 + 10 * k + 4) := by
  have hk := h.2.1
  have hr := h.r
  rw [sCreep_e h, sC6_4 _ hk, sCr_row0 h, sC5_off (by omega), sC4_off (by omega) (by omega) (by omega), sX_off (by omega) (by omega) (by omega) (by omega) (by omega) (by omega) h, sC5_off (by omega), sC4_off (by omega) (by omega) (by omega), sX_off (by omega) (by omega) (by omega) (by omega) (by omega) (by omega) h]
theorem sCr_537 (h : zOk σ k step) : sCreep σ k step 537 = if σ (360 + 10 * k + 1) + 1 = 19 then σ 537 + 1 else σ 537 := by
  have hk := h.2.1
  have hr := h.r
  rw [sCreep_e h, sC6_537 _ hk, sCr_row0 h, sC5_off (by omega), sC4_off (by omega) (by omega) (by omega), sX_off (by omega) (by omega) (by omega) (by omega) (by omega) (by omega) h]
theorem sCr_5 (h : zOk σ k step) : sCreep σ k step (360 + 10 * k + 5) = σ (360 + 10 * k + 5) + 1 := by
  have hk := h.2.1
  have hr := h.r
  rw [sCreep_e h, sC6_off (by omega) (by omega) (by omega), sC5_off (by omega), sC4_off (by omega) (by omega) (by omega)]
  unfold sX
  by_cases hy : sWhy σ k (sTo σ k step) = 0
  · have := hr.2.2.2.1 hy
    rw [sC3_off (by omega) (by omega) (by omega) (by omega)]
    unfold sC2 sC1
    rw [zu_at, zu_ne (by omega)]
  · unfold sC3
    rw [if_neg hy, zu_ne (by omega), zu_ne (by omega)]
    unfold sC2 sC1
    rw [zu_at, zu_ne (by omega)]
theorem sCr_6 (h : zOk σ k step) : sCreep σ k step (360 + 10 * k + 6) = σ (360 + 10 * k + 6) + if sWhy σ k (sTo σ k step) = 0 then 1 else 0 := by
  have hk := h.2.1
  have hr := h.r
  rw [sCreep_e h, sC6_off (by omega) (by omega) (by omega), sC5_off (by omega), sC4_off (by omega) (by omega) (by omega)]
  unfold sX
  rw [sC3_6 hk (by omega), sC21_off (by omega) (by omega)]
theorem sCr_7 (h : zOk σ k step) : sCreep σ k step (360 + 10 * k + 7) = σ (360 + 10 * k + 7) := by
  have hk := h.2.1
  have hr := h.r
  rw [sCreep_e h, sC6_off (by omega) (by omega) (by omega), sC5_off (by omega), sC4_off (by omega) (by omega) (by omega), sX_off (by omega) (by omega) (by omega) (by omega) (by omega) (by omega) h]
theorem sCr_8 (h : zOk σ k step) : sCreep σ k step (360 + 10 * k + 8) = if sWhy σ k (sTo σ k step) = 0 then σ (120 + sTo σ k step) else 0 := by
  have hk := h.2.1
  have hr := h.r
  rw [sCreep_e h, sC6_off (by omega) (by omega) (by omega), sC5_off (by omega), sC4_off (by omega) (by omega) (by omega)]
  unfold sX
  rw [sC3_8 hk (by omega)]
theorem sCr_9 (h : zOk σ k step) : sCreep σ k step (360 + 10 * k + 9) = if sWhy σ k (sTo σ k step) = 0 then (if σ (360 + 10 * k + 8) = σ (120 + sTo σ k step) then σ (360 + 10 * k + 9) + 1 else 1) else 0 := by
  have hk := h.2.1
  have hr := h.r
  rw [sCreep_e h, sC6_off (by omega) (by omega) (by omega), sC5_off (by omega), sC4_off (by omega) (by omega) (by omega)]
  unfold sX
  rw [sC3_9 hk (by omega), sC21_off (by omega) (by omega), sC21_off (by omega) (by omega)]
theorem sCr_ow (h : zOk σ k step) {a b : Int} (ha : 0 ≤ a ∧ a < 9) (hb : 0 ≤ b ∧ b < 9) : sCreep σ k step (450 + 9 * a + b) = σ (450 + 9 * a + b) + if sWhy σ k (sTo σ k step) = 0 ∧ a = k ∧ b = σ (120 + sTo σ k step) - 1 then 1 else 0 := by
  have hk := h.2.1
  have hr := h.r
  rw [sCreep_e h, sC6_off (by omega) (by omega) (by omega), sC5_off (by omega), sC4_off (by omega) (by omega) (by omega)]
  unfold sX
  rw [sC3_ow hk (by omega) hr.2.2.2.1 ha hb, sC21_off (by omega) (by omega)]
theorem sCr_tr (h : zOk σ k step) : sCreep σ k step (120 + sFrom σ k) = k + 1 := by
  have hk := h.2.1
  have hr := h.r
  rw [sCreep_e h, sC6_off (by omega) (by omega) (by omega), sC5_off (by omega)]
  unfold sC4
  rw [zu_ne (by omega), zu_ne (by omega), zu_at]
theorem sCr_ag (h : zOk σ k step) : sCreep σ k step (240 + sFrom σ k) = 0 := by
  have hk := h.2.1
  have hr := h.r
  rw [sCreep_e h, sC6_off (by omega) (by omega) (by omega), sC5_off (by omega)]
  unfold sC4
  rw [zu_ne (by omega), zu_at]
theorem sCr_off (h : zOk σ k step) {j : Int} (hj : (0 ≤ j ∧ j < 360 ∧ j ≠ 120 + sFrom σ k ∧ j ≠ 240 + sFrom σ k) ∨ (360 ≤ j ∧ j < 450 ∧ (j < 360 + 10 * k ∨ 370 + 10 * k ≤ j)) ∨ (531 ≤ j ∧ j < 537)) : sCreep σ k step j = σ j := by
  have hk := h.2.1
  have hr := h.r
  rw [sCreep_e h, sC6_off (by omega) (by omega) (by omega), sC5_off (by omega), sC4_off (by omega) (by omega) (by omega), sX_off (by omega) (by omega) (by omega) (by omega) (by omega) (by omega) h]
end CRV
theorem zI_creep {σ : zS} {k step : Int} (h : zOk σ k step) (hsl : sPr σ k step ≤ σ (360 + 10 * k + 2)) : zI (sCreep σ k step) := by
  have hk := h.2.1
  have hr := h.r
  obtain ⟨hI, -, -, hp⟩ := id h
  have hp2 := sPr_r hI hk step
  refine ⟨?_, fun c h1 h2 => ?_, fun a h1 h2 => ?_⟩
  · have := hI.1
    unfold zIs at this ⊢
    rw [sCr_off h (by omega), sCr_off h (by omega), sCr_off h (by omega), sCr_off h (by omega), sCr_off h (by omega)]
    exact this
  · have hc := hI.2.1 c h1 h2
    unfold zIc at hc ⊢
    rw [sCr_off h (by omega)]
    by_cases he : c = sFrom σ k
    · rw [he, sCr_tr h, sCr_ag h]
      rw [he] at hc
      omega
    · rw [sCr_off h (by omega), sCr_off h (by omega)]
      exact hc
  · have ha := hI.2.2 a h1 h2
    by_cases he : a = k
    · subst he
      unfold zIk at ha ⊢
      rw [sCr_0 h, sCr_1 h, sCr_2 h, sCr_3 h, sCr_8 h, sCr_9 h]
      repeat' split
      all_goals omega
    · unfold zIk at ha ⊢
      rw [sCr_off h (by omega), sCr_off h (by omega), sCr_off h (by omega), sCr_off h (by omega), sCr_off h (by omega), sCr_off h (by omega)]
      exact ha
theorem sRs_off {σ : zS} {k j : Int} (h1 : j ≠ 360 + 10 * k + 2) (h2 : j ≠ 360 + 10 * k + 7) (h3 : j ≠ 360 + 10 * k + 8) (h4 : j ≠ 360 + 10 * k + 9) : sRest σ k j = σ j := by
  unfold sRest sC8
  rw [zu_ne h4, zu_ne h3, zu_ne h2, zu_ne h1]
theorem sRs_2 (σ : zS) (k : Int) : sRest σ k (360 + 10 * k + 2) = if σ (360 + 10 * k + 2) + σ 533 > 99 then 99 else σ (360 + 10 * k + 2) + σ 533 := by
  unfold sRest sC8
  rw [zu_ne (by omega), zu_ne (by omega), zu_ne (by omega), zu_at]
theorem sRs_7 (σ : zS) (k : Int) : sRest σ k (360 + 10 * k + 7) = σ (360 + 10 * k + 7) + 1 := by
  unfold sRest sC8
  rw [zu_ne (by omega), zu_ne (by omega), zu_at, zu_ne (by omega)]
theorem sRs_8 (σ : zS) (k : Int) : sRest σ k (360 + 10 * k + 8) = 0 := by
  unfold sRest
  rw [zu_ne (by omega), zu_at]
theorem sRs_9 (σ : zS) (k : Int) : sRest σ k (360 + 10 * k + 9) = 0 := by
  unfold sRest
  rw [zu_at]
theorem zI_rest {σ : zS} (hI : zI σ) {k : Int} (hk : 0 ≤ k ∧ k < 9) : zI (sRest σ k) := by
  refine ⟨?_, fun c h1 h2 => ?_, fun a h1 h2 => ?_⟩
  · have := hI.1
    unfold zIs at this ⊢
    rw [sRs_off (by omega) (by omega) (by omega) (by omega), sRs_off (by omega) (by omega) (by omega) (by omega), sRs_off (by omega) (by omega) (by omega) (by omega), sRs_off (by omega) (by omega) (by omega) (by omega), sRs_off (by omega) (by omega) (by omega) (by omega)]
    exact this
  · have hc := hI.2.1 c h1 h2
    unfold zIc at hc ⊢
    rw [sRs_off (by omega) (by omega) (by omega) (by omega), sRs_off (by omega) (by omega) (by omega) (by omega), sRs_off (by omega) (by omega) (by omega) (by omega)]
    exact hc
  · have ha := hI.2.2 a h1 h2
    have hs := hI.1
    unfold zIs at hs
    by_cases he : a = k
    · subst he
      unfold zIk at ha ⊢
      rw [sRs_off (by omega) (by omega) (by omega) (by omega), sRs_off (by omega) (by omega) (by omega) (by omega), sRs_2, sRs_off (by omega) (by omega) (by omega) (by omega), sRs_8, sRs_9]
      split <;> omega
    · unfold zIk at ha ⊢
      rw [sRs_off (by omega) (by omega) (by omega) (by omega), sRs_off (by omega) (by omega) (by omega) (by omega), sRs_off (by omega) (by omega) (by omega) (by omega), sRs_off (by omega) (by omega) (by omega) (by omega), sRs_off (by omega) (by omega) (by omega) (by omega), sRs_off (by omega) (by omega) (by omega) (by omega)]
      exact ha
/-! the choice -/
theorem sCb_r0 (σ : zS) (k : Int) : ∀ (n : Nat) (i f : Int), 0 ≤ i → i + n = 3 → (f = 4 ∨ (0 ≤ f ∧ f ≤ 2 ∧ sPr σ k f ≠ -5)) → (zfor (sCs σ k) i 3 f = 4 ∨ (0 ≤ zfor (sCs σ k) i 3 f ∧ zfor (sCs σ k) i 3 f ≤ 2 ∧ sPr σ k (zfor (sCs σ k) i 3 f) ≠ -5))
  | 0, i, f, h0, h, hf => by rw [zfor_end (by omega)]; exact hf
  | n + 1, i, f, h0, h, hf => by
    rw [zfor_step (by omega)]
    refine sCb_r0 σ k n (i + 1) _ (by omega) (by omega) ?_
    unfold sCs
    split
    · rename_i q
      exact Or.inr ⟨h0, by omega, q.1⟩
    · exact hf
theorem sCb_r (σ : zS) (k : Int) : sCb σ k = 4 ∨ (0 ≤ sCb σ k ∧ sCb σ k ≤ 2 ∧ sPr σ k (sCb σ k) ≠ -5) := sCb_r0 σ k 3 0 4 (by omega) (by omega) (Or.inl rfl)
theorem sCh_lt {σ : zS} {k : Int} (h : sCh σ k < 3) : (0 ≤ sCh σ k ∧ sCh σ k ≤ 2) ∧ sPr σ k (sCh σ k) ≠ -5 ∧ sPr σ k (sCh σ k) ≤ σ (360 + 10 * k + 2) := by
  have hb := sCb_r σ k
  unfold sCh at h ⊢
  split
  · rename_i q
    rw [if_pos q] at h
    omega
  · rename_i q
    rw [if_neg q] at h
    refine ⟨by omega, ?_, ?_⟩
    · rcases hb with hb | hb
      · omega
      · exact hb.2.2
    · omega
theorem sCh_r (σ : zS) (k : Int) : 0 ≤ sCh σ k ∧ sCh σ k ≤ 4 := by
  have hb := sCb_r σ k
  unfold sCh
  split <;> omega
theorem zI_act {σ : zS} (hI : zI σ) {k : Int} (hk : 0 ≤ k ∧ k < 9) : zI (sAct σ k) := by
  unfold sAct
  split
  · split
    · rename_i h
      have h3 := sCh_lt h
      exact zI_creep ⟨hI, hk, h3.1, h3.2.1⟩ h3.2.2
    · exact zI_rest hI hk
  · exact hI
end
section
theorem zI_fr {σ : zS} (hI : zI σ) {c v : Int} (hc : 0 ≤ c ∧ c < 120) (hv : 0 ≤ v ∧ v ≤ 9) : zI (zu σ c v) := by
  refine zI_off hI (fun j h1 h2 => zu_ne (by omega)) (fun d h1 h2 => ?_)
  have hd := hI.2.1 d h1 h2
  unfold zIc at hd ⊢
  rw [zu_ne (show 120 + d ≠ c by omega), zu_ne (show 240 + d ≠ c by omega)]
  by_cases he : d = c
  · subst he
    rw [zu_at]
    omega
  · rw [zu_ne he]
    exact hd
theorem zI_tr {σ : zS} (hI : zI σ) {c v : Int} (hc : 0 ≤ c ∧ c < 120) (hv : 0 ≤ v ∧ v ≤ 9) : zI (zu σ (120 + c) v) := by
  refine zI_off hI (fun j h1 h2 => zu_ne (by omega)) (fun d h1 h2 => ?_)
  have hd := hI.2.1 d h1 h2
  unfold zIc at hd ⊢
  rw [zu_ne (show d ≠ 120 + c by omega), zu_ne (show 240 + d ≠ 120 + c by omega)]
  by_cases he : d = c
  · subst he
    rw [zu_at]
    omega
  · rw [zu_ne (show 120 + d ≠ 120 + c by omega)]
    exact hd
theorem zI_ag {σ : zS} (hI : zI σ) {c v : Int} (hc : 0 ≤ c ∧ c < 120) (hv : 0 ≤ v ∧ v ≤ 100) : zI (zu σ (240 + c) v) := by
  refine zI_off hI (fun j h1 h2 => zu_ne (by omega)) (fun d h1 h2 => ?_)
  have hd := hI.2.1 d h1 h2
  unfold zIc at hd ⊢
  rw [zu_ne (show d ≠ 240 + c by omega), zu_ne (show 120 + d ≠ 240 + c by omega)]
  by_cases he : d = c
  · subst he
    rw [zu_at]
    omega
  · rw [zu_ne (show 240 + d ≠ 240 + c by omega)]
    exact hd
theorem zI_dryF {σ : zS} (hI : zI σ) {c : Int} (hc : 0 ≤ c ∧ c < 120) : zI (sDryF c σ) := by
  unfold sDryF
  split
  · exact zI_ag (zI_tr hI hc (by omega)) hc (by omega)
  · exact hI
/-- all that holds between turns -/
def zA (σ : zS) : Prop := zI σ ∧ zJ σ ∧ zZ σ
theorem zA_act {σ : zS} (h : zA σ) {k : Int} (hk : 0 ≤ k ∧ k < 9) : zA (sAct σ k) ∧ (∀ j : Int, 531 ≤ j → j < 537 → sAct σ k j = σ j) := by
  obtain ⟨hI, hJ, hZ⟩ := h
  unfold sAct
  split
  · split
    · rename_i h
      have h3 := sCh_lt h
      have ho : zOk σ k (sCh σ k) := ⟨hI, hk, h3.1, h3.2.1⟩
      have hor := ho.r
      have hs := hI.1
      unfold zIs at hs
      refine ⟨⟨zI_creep ho h3.2.2, fun c h1 h2 => ?_, fun c h1 h2 h4 => ?_⟩, fun j h1 h2 => sCr_off ho (by omega)⟩
      · rw [sCr_off ho (show _ ∨ _ ∨ (531 ≤ 531 ∧ (531 : Int) < 537) by omega)]
        by_cases he : c = sFrom σ k
        · rw [he, sCr_ag ho]
          omega
        · rw [sCr_off ho (by omega)]
          exact hJ c h1 h2
      · by_cases he : c = sFrom σ k
        · rw [he, sCr_tr ho] at h4
          omega
        · rw [sCr_off ho (by omega)] at h4
          rw [sCr_off ho (by omega)]
          exact hZ c h1 h2 h4
    · refine ⟨⟨zI_rest hI hk, fun c h1 h2 => ?_, fun c h1 h2 h4 => ?_⟩, fun j h1 h2 => sRs_off (by omega) (by omega) (by omega) (by omega)⟩
      · rw [sRs_off (by omega) (by omega) (by omega) (by omega), sRs_off (by omega) (by omega) (by omega) (by omega)]
        exact hJ c h1 h2
      · rw [sRs_off (by omega) (by omega) (by omega) (by omega)] at h4
        rw [sRs_off (by omega) (by omega) (by omega) (by omega)]
        exact hZ c h1 h2 h4
  · exact ⟨⟨hI, hJ, hZ⟩, fun j _ _ => rfl⟩
theorem zA_all0 (m : Int) : ∀ (n : Nat) (k : Int) (σ : zS), 0 ≤ k → k + n = m → m ≤ 9 → zA σ → zA (zfor (fun k s => sAct s k) k m σ) ∧ (∀ j : Int, 531 ≤ j → j < 537 → zfor (fun k s => sAct s k) k m σ j = σ j)
  | 0, k, σ, h0, h, hm, hA => by rw [zfor_end (by omega)]; exact ⟨hA, fun _ _ _ => rfl⟩
  | n + 1, k, σ, h0, h, hm, hA => by
    have h1 := zA_act hA (k := k) (by omega)
    have h2 := zA_all0 m n (k + 1) _ (by omega) (by omega) hm h1.1
    rw [zfor_step (by omega)]
    exact ⟨h2.1, fun j q1 q2 => by rw [h2.2 j q1 q2]; exact h1.2 j q1 q2⟩
theorem zA_all {σ : zS} (hA : zA σ) : zA (sAll σ) ∧ (∀ j : Int, 531 ≤ j → j < 537 → sAll σ j = σ j) := by
  have hs := hA.1.1
  unfold zIs at hs
  exact zA_all0 (σ 535) (σ 535).toNat 0 σ (by omega) (by omega) (by omega) hA
theorem zZ_age {σ : zS} (hI : zI σ) (hZ : zZ σ) : zZ (sAge σ) := by
  intro c h1 h2 h3
  rw [sAge_o σ (by omega)] at h3
  rw [sAge_ag σ ⟨h1, h2⟩, hZ c h1 h2 h3, h3]
  rfl
theorem zA_dry {σ : zS} (hI : zI σ) (hZ : zZ σ) : zA (sDry σ) := ⟨zI_dry hI, (zJ_dry hI hZ).1, (zJ_dry hI hZ).2⟩
theorem zA_tick {σ : zS} (h : zA σ) : zA (sTick σ) := by
  refine ⟨zI_tick h.1, fun c h1 h2 => ?_, fun c h1 h2 h3 => ?_⟩
  · unfold sTick
    rw [zu_ne (by omega), zu_ne (by omega)]
    exact h.2.1 c h1 h2
  · unfold sTick at h3 ⊢
    rw [zu_ne (by omega)] at h3 ⊢
    exact h.2.2 c h1 h2 h3
theorem zA_grow {σ : zS} (h : zA σ) (g : Int) : zA (sGrow g σ) := by
  refine ⟨zI_grow h.1 g, fun c h1 h2 => ?_, fun c h1 h2 h3 => ?_⟩
  · rw [sGrow_o g σ (by omega), sGrow_o g σ (by omega)]
    exact h.2.1 c h1 h2
  · rw [sGrow_o g σ (by omega)] at h3 ⊢
    exact h.2.2 c h1 h2 h3
theorem zA_turn {σ : zS} (h : zA σ) : zA (sTurn σ) ∧ sTurn σ 536 = σ 536 + 1 ∧ (∀ j : Int, 531 ≤ j → j < 536 → sTurn σ j = σ j) := by
  have h1 := zA_all h
  have h2 : zA (sDry (sAge (sAll σ))) := zA_dry (zI_age h1.1.1 h1.1.2.1) (zZ_age h1.1.1 h1.1.2.2)
  have e : ∀ j : Int, 531 ≤ j → j < 537 → sDry (sAge (sAll σ)) j = σ j := fun j q1 q2 => by rw [sDry_o _ (by omega), sAge_o _ (by omega)]; exact h1.2 j q1 q2
  refine ⟨zA_grow (zA_tick h2) _, ?_, fun j q1 q2 => ?_⟩
  · unfold sTurn
    rw [sGrow_o _ _ (by omega)]
    unfold sTick
    rw [zu_at, e 536 (by omega) (by omega)]
  · unfold sTurn
    rw [sGrow_o _ _ (by omega)]
    unfold sTick
    rw [zu_ne (by omega), e j q1 (by omega)]
/-- turns, one after the other -/
def sTs (t : Int) (σ : zS) : zS := zfor (fun _ s => sTurn s) 0 t σ
theorem zA_ts0 (m : Int) : ∀ (n : Nat) (i : Int) (σ : zS), 0 ≤ i → i + n = m → zA σ → zA (zfor (fun _ s => sTurn s) i m σ) ∧ zfor (fun _ s => sTurn s) i m σ 536 = σ 536 + (m - i) ∧ (∀ j : Int, 531 ≤ j → j < 536 → zfor (fun _ s => sTurn s) i m σ j = σ j)
  | 0, i, σ, h0, h, hA => by rw [zfor_end (by omega)]; exact ⟨hA, by omega, fun _ _ _ => rfl⟩
  | n + 1, i, σ, h0, h, hA => by
    have h1 := zA_turn hA
    have h2 := zA_ts0 m n (i + 1) _ (by omega) (by omega) h1.1
    rw [zfor_step (by omega)]
    exact ⟨h2.1, by rw [h2.2.1, h1.2.1]; omega, fun j q1 q2 => by rw [h2.2.2 j q1 q2]; exact h1.2.2 j q1 q2⟩
theorem zA_ts {σ : zS} (hA : zA σ) {t : Int} (ht : 0 ≤ t) : zA (sTs t σ) ∧ sTs t σ 536 = σ 536 + t ∧ (∀ j : Int, 531 ≤ j → j < 536 → sTs t σ j = σ j) := by
  have := zA_ts0 t t.toNat 0 σ (by omega) (by omega) hA
  rw [Int.sub_zero] at this
  exact this
/-- in how many turns a snail ends, within 300 -/
def sEn (k : Int) : Nat → Int → zS → Int
  | 0, i, s => if s (360 + 10 * k + 3) = 1 then i else -5
  | m + 1, i, s => if s (360 + 10 * k + 3) = 0 then sEn k m (i + 1) (sTurn s) else if s (360 + 10 * k + 3) = 1 then i else -5
def sEnds (k i : Int) (s : zS) : Int := sEn k (300 - i).toNat i s
theorem sEnds_step {k i : Int} {s : zS} (h : i < 300) : sEnds k i s = if s (360 + 10 * k + 3) = 0 then sEnds k (i + 1) (sTurn s) else if s (360 + 10 * k + 3) = 1 then i else -5 := by
  unfold sEnds
  rw [show (300 - i).toNat = (300 - (i + 1)).toNat + 1 by omega]
  rfl
theorem sEnds_end {k i : Int} {s : zS} (h : 300 ≤ i) : sEnds k i s = if s (360 + 10 * k + 3) = 1 then i else -5 := by
  unfold sEnds
  rw [show (300 - i).toNat = 0 by omega]
  rfl
/-- one more snail -/
def sComeA (σ : zS) (k : Int) : zS := zfor (fun j s => zu s (360 + 10 * k + j) 0) 0 10 σ
def sComeB (σ : zS) (k : Int) : zS := zfor (fun j s => zu (zu s (450 + 9 * k + j) 0) (450 + 9 * j + k) 0) 0 9 σ
def sComeC (σ : zS) (k lane slime : Int) : zS := zu (zu σ (360 + 10 * k + 0) lane) (360 + 10 * k + 2) slime
def sComeD (σ : zS) : zS := zu σ 535 (σ 535 + 1)
def sCome (σ : zS) (lane slime : Int) : zS := sComeD (sComeC (sComeB (sComeA σ (σ 535)) (σ 535)) (σ 535) lane slime)
/-- frost set -/
def sFz (σ : zS) (c f : Int) : zS := zu (zu (zu σ c f) (120 + c) 0) (240 + c) 0
def sBarF (σ : zS) (lane row f : Int) : Int := if ¬ ((0 ≤ lane ∧ lane ≤ 5) ∧ (0 ≤ row ∧ row ≤ 19)) then -1 else if ¬ (0 ≤ f ∧ f ≤ 9) then -2 else if σ (6 * row + lane) = f ∧ σ (120 + (6 * row + lane)) = 0 then -5 else 0
def sBarT (σ : zS) (t : Int) : Int := if ¬ (1 ≤ t ∧ t ≤ 99) then -2 else if σ 536 + t > 99999 then -3 else 0
/-- a state put into the history with room, with none -/
def zRecA (N : zM) (σ : zS) (N' : zM) : Prop := (∀ a : Int, a ≠ 190 → a ≠ 187 → N' a = N a) ∧ (∀ j : Int, j ≠ 3 → N' 187 j = N 187 j) ∧ N' 187 3 = N 187 3 + 1 ∧ (∀ j : Int, (j < 538 * N 187 3 ∨ 538 * N 187 3 + 538 ≤ j) → N' 190 j = N 190 j) ∧ ∀ j : Int, 0 ≤ j → j < 538 → N' 190 (538 * N 187 3 + j) = σ j
def zRec (N : zM) (σ : zS) (N' : zM) : Prop := if N 187 3 = 4 then ∃ N1 : zM, (∀ a : Int, a ≠ 190 → a ≠ 187 → N1 a = N a) ∧ (∀ j : Int, j ≠ 3 → N1 187 j = N 187 j) ∧ N1 187 3 = 3 ∧ (∀ j : Int, 0 ≤ j → j < 1614 → N1 190 j = N 190 (538 + j)) ∧ zRecA N1 σ N' else zRecA N σ N'
/-! what lies outside the row stays -/
def zo (σ τ : zS) : Prop := ∀ j : Int, (j < 0 ∨ 538 ≤ j) → τ j = σ j
theorem zo.tr {σ τ ρ : zS} (h1 : zo σ τ) (h2 : zo τ ρ) : zo σ ρ := fun j hj => (h2 j hj).trans (h1 j hj)
theorem zo.rf (σ : zS) : zo σ σ := fun _ _ => rfl
theorem zo_zu {σ : zS} {i v : Int} (h : 0 ≤ i ∧ i < 538) : zo σ (zu σ i v) := fun j hj => zu_ne (by omega)
theorem zo_creep {σ : zS} {k step : Int} (h : zOk σ k step) : zo σ (sCreep σ k step) := by
  intro j hj
  have hk := h.2.1
  have hr := h.r
  rw [sCreep_e h, sC6_off (by omega) (by omega) (by omega), sC5_off (by omega), sC4_off (by omega) (by omega) (by omega), sX_off (by omega) (by omega) (by omega) (by omega) (by omega) (by omega) h]
theorem zo_act {σ : zS} (hI : zI σ) {k : Int} (hk : 0 ≤ k ∧ k < 9) : zo σ (sAct σ k) := by
  unfold sAct
  split
  · split
    · rename_i h
      have h3 := sCh_lt h
      exact zo_creep ⟨hI, hk, h3.1, h3.2.1⟩
    · intro j hj
      exact sRs_off (by omega) (by omega) (by omega) (by omega)
  · exact zo.rf σ
theorem zo_all0 (m : Int) : ∀ (n : Nat) (k : Int) (σ : zS), 0 ≤ k → k + n = m → m ≤ 9 → zA σ → zo σ (zfor (fun k s => sAct s k) k m σ)
  | 0, k, σ, h0, h, hm, hA => by rw [zfor_end (by omega)]; exact zo.rf σ
  | n + 1, k, σ, h0, h, hm, hA => by
    rw [zfor_step (by omega)]
    exact (zo_act hA.1 (by omega)).tr (zo_all0 m n (k + 1) _ (by omega) (by omega) hm (zA_act hA (by omega)).1)
theorem zo_turn {σ : zS} (hA : zA σ) : zo σ (sTurn σ) := by
  have hs := hA.1.1
  unfold zIs at hs
  have h1 : zo σ (sAll σ) := zo_all0 (σ 535) (σ 535).toNat 0 σ (by omega) (by omega) (by omega) hA
  intro j hj
  unfold sTurn
  rw [sGrow_o _ _ (by omega)]
  unfold sTick
  rw [zu_ne (by omega), sDry_o _ (by omega), sAge_o _ (by omega), h1 j hj]
theorem zo_ts0 (m : Int) : ∀ (n : Nat) (i : Int) (σ : zS), 0 ≤ i → i + n = m → zA σ → zo σ (zfor (fun _ s => sTurn s) i m σ)
  | 0, i, σ, h0, h, hA => by rw [zfor_end (by omega)]; exact zo.rf σ
  | n + 1, i, σ, h0, h, hA => by
    rw [zfor_step (by omega)]
    exact (zo_turn hA).tr (zo_ts0 m n (i + 1) _ (by omega) (by omega) (zA_turn hA).1)
theorem zo_ts {σ : zS} (hA : zA σ) {t : Int} (ht : 0 ≤ t) : zo σ (sTs t σ) := zo_ts0 t t.toNat 0 σ (by omega) (by omega) hA
theorem zo_comeA0 (m : Int) (hm : 0 ≤ m ∧ m ≤ 8) : ∀ (n : Nat) (i : Int) (σ : zS), 0 ≤ i → i + n = 10 → zo σ (zfor (fun j s => zu s (360 + 10 * m + j) 0) i 10 σ)
  | 0, i, σ, h0, h => by rw [zfor_end (by omega)]; exact zo.rf σ
  | n + 1, i, σ, h0, h => by
    rw [zfor_step (by omega)]
    exact (zo_zu (by omega)).tr (zo_comeA0 m hm n (i + 1) _ (by omega) (by omega))
theorem zo_comeB0 (m : Int) (hm : 0 ≤ m ∧ m ≤ 8) : ∀ (n : Nat) (i : Int) (σ : zS), 0 ≤ i → i + n = 9 → zo σ (zfor (fun j s => zu (zu s (450 + 9 * m + j) 0) (450 + 9 * j + m) 0) i 9 σ)
  | 0, i, σ, h0, h => by rw [zfor_end (by omega)]; exact zo.rf σ
  | n + 1, i, σ, h0, h => by
    rw [zfor_step (by omega)]
    exact ((zo_zu (by omega)).tr (zo_zu (by omega))).tr (zo_comeB0 m hm n (i + 1) _ (by omega) (by omega))
theorem zo_come {σ : zS} {lane slime : Int} (hm : 0 ≤ σ 535 ∧ σ 535 ≤ 8) : zo σ (sCome σ lane slime) := by
  unfold sCome sComeD sComeC sComeB sComeA
  exact (((zo_comeA0 _ hm 10 0 σ (by omega) (by omega)).tr (zo_comeB0 _ hm 9 0 _ (by omega) (by omega))).tr ((zo_zu (by omega)).tr (zo_zu (by omega)))).tr (zo_zu (by omega))
end
section
theorem vX5_dries {G : zG} {M : zM} {σ : zS} (hI : zI σ) : zCall G yX5_dries YX5_dries [.inr (some 187)] (zt M σ) (fun v M' => v = none ∧ M' = zt M (sDry σ)) := by
  refine zEnter (by decide +kernel) rfl (Nat.le_of_ble_eq_true rfl) ?_
  refine z_iconst dX5_dries_0 ?_
  refine z_istore_n dX5_dries_1 (by decide) ?_
  have L : ∀ (n : Nat) (c : Int) (τ : zS), (0 ≤ c ∧ c ≤ 120) → c + n = 121 → zI τ → zfor sDryF c 120 τ = sDry σ → zW G YX5_dries (fun v M' => v = none ∧ M' = zt M (sDry σ)) 2 [(1, .inl c), (0, .inr (some 187))] [] (zt M τ) := by
    intro n
    induction n with
    | zero => intro c τ hc hcn hT he; exfalso; omega
    | succ n ih =>
      intro c τ hc hcn hT he
      refine z_iload_n dX5_dries_2 rfl ?_
      refine z_bipush dX5_dries_3 (by decide) ?_
      refine z_icmp_ge (tgt := 68) dX5_dries_5 (by decide) (by omega) (by omega) (fun c5 => ?_) (fun c5 => ?_)
      · rw [zfor_end (by omega)] at he
        refine z_vret dX5_dries_68 rfl ?_
        exact ⟨rfl, by rw [he]⟩
      · have hc9 := hT.2.1 c (by omega) (by omega)
        unfold zIc at hc9
        have hs9 := hT.1
        unfold zIs at hs9
        have hI2 := zI_dryF hT (c := c) (by omega)
        rw [zfor_step (by omega)] at he
        refine z_aload_n dX5_dries_8 rfl ?_
        refine z_getR (b := 188) dX5_dries_9 fX5_7 (by decide) zsh187 rfl rfl ?_
        refine z_bipush dX5_dries_12 (by decide) ?_
        refine z_iload_n dX5_dries_14 rfl ?_
        refine z_iadd dX5_dries_15 ?_
        refine z_sload dX5_dries_16 (by omega) ?_
        refine z_if_le (tgt := 62) dX5_dries_17 (by decide) (by omega) (fun c17 => ?_) (fun c17 => ?_)
        · refine z_iinc dX5_dries_62 rfl (by decide) ?_
          refine z_goto (tgt := 2) dX5_dries_65 (by decide) ?_
          first
            | (unfold sDryF at he hI2; rw [if_neg (by omega)] at he hI2; exact zsub' (ih (c + 1) _ (by omega) (by omega) hI2 he) ⟨rfl, rfl, trivial⟩)
            | (rw [← hσ50, ← hσ61] at he hI2; exact zsub' (ih (c + 1) σ61 (by omega) (by omega) hI2 he) ⟨rfl, rfl, trivial⟩)
        · refine z_aload_n dX5_dries_20 rfl ?_
          refine z_getR (b := 188) dX5_dries_21 fX5_7 (by decide) zsh187 rfl rfl ?_
          refine z_sipush dX5_dries_24 (by decide) ?_
          refine z_iload_n dX5_dries_27 rfl ?_
          refine z_iadd dX5_dries_28 ?_
          refine z_sload dX5_dries_29 (by omega) ?_
          refine z_aload_n dX5_dries_30 rfl ?_
          refine z_getR (b := 188) dX5_dries_31 fX5_7 (by decide) zsh187 rfl rfl ?_
          refine z_sipush dX5_dries_34 (by decide) ?_
          refine z_sload dX5_dries_37 (by omega) ?_
          refine z_icmp_le (tgt := 62) dX5_dries_38 (by decide) (by omega) (by omega) (fun c38 => ?_) (fun c38 => ?_)
          · refine z_iinc dX5_dries_62 rfl (by decide) ?_
            refine z_goto (tgt := 2) dX5_dries_65 (by decide) ?_
            first
              | (unfold sDryF at he hI2; rw [if_neg (by omega)] at he hI2; exact zsub' (ih (c + 1) _ (by omega) (by omega) hI2 he) ⟨rfl, rfl, trivial⟩)
              | (rw [← hσ50, ← hσ61] at he hI2; exact zsub' (ih (c + 1) σ61 (by omega) (by omega) hI2 he) ⟨rfl, rfl, trivial⟩)
          · unfold sDryF at he hI2
            rw [if_pos (by omega)] at he hI2
            refine z_aload_n dX5_dries_41 rfl ?_
            refine z_getR (b := 188) dX5_dries_42 fX5_7 (by decide) zsh187 rfl rfl ?_
            refine z_bipush dX5_dries_45 (by decide) ?_
            refine z_iload_n dX5_dries_47 rfl ?_
            refine z_iadd dX5_dries_48 ?_
            refine z_iconst dX5_dries_49 ?_
            refine z_sstore dX5_dries_50 (by omega) (fun σ50 hσ50 => ?_)
            refine z_aload_n dX5_dries_51 rfl ?_
            refine z_getR (b := 188) dX5_dries_52 fX5_7 (by decide) zsh187 rfl rfl ?_
            refine z_sipush dX5_dries_55 (by decide) ?_
            refine z_iload_n dX5_dries_58 rfl ?_
            refine z_iadd dX5_dries_59 ?_
            refine z_iconst dX5_dries_60 ?_
            refine z_sstore dX5_dries_61 (by omega) (fun σ61 hσ61 => ?_)
            refine z_iinc dX5_dries_62 rfl (by decide) ?_
            refine z_goto (tgt := 2) dX5_dries_65 (by decide) ?_
            first
              | (unfold sDryF at he hI2; rw [if_neg (by omega)] at he hI2; exact zsub' (ih (c + 1) _ (by omega) (by omega) hI2 he) ⟨rfl, rfl, trivial⟩)
              | (rw [← hσ50, ← hσ61] at he hI2; exact zsub' (ih (c + 1) σ61 (by omega) (by omega) hI2 he) ⟨rfl, rfl, trivial⟩)
  exact zsub' (L 121 0 σ (by omega) (by omega) hI rfl) ⟨rfl, rfl, trivial⟩

theorem vX5_turn {G : zG} {M : zM} {σ : zS} (hA : zA σ) (ht : 0 ≤ σ 536 ∧ σ 536 ≤ 1000000) : zCall G yX5_turn YX5_turn [.inr (some 187)] (zt M σ) (fun v M' => v = none ∧ M' = zt M (sTurn σ)) := by
  refine zEnter (by decide +kernel) rfl (Nat.le_of_ble_eq_true rfl) ?_
  have hI := hA.1
  have hs9 := hI.1
  unfold zIs at hs9
  refine z_iconst dX5_turn_0 ?_
  refine z_istore_n dX5_turn_1 (by decide) ?_
  have L : ∀ (n : Nat) (k : Int) (τ : zS), (0 ≤ k ∧ k ≤ σ 535) → k + n = σ 535 + 1 → zA τ → τ 535 = σ 535 → zfor (fun k s => sAct s k) k (σ 535) τ = sAll σ → zW G YX5_turn (fun v M' => v = none ∧ M' = zt M (sTurn σ)) 2 [(1, .inl k), (0, .inr (some 187))] [] (zt M τ) := by
    intro n
    induction n with
    | zero => intro k τ hk hkn hA2 hm he; exfalso; omega
    | succ n ih =>
      intro k τ hk hkn hA2 hm he
      refine z_iload_n dX5_turn_2 rfl ?_
      refine z_aload_n dX5_turn_3 rfl ?_
      refine z_getR (b := 188) dX5_turn_4 fX5_7 (by decide) zsh187 rfl rfl ?_
      refine z_sipush dX5_turn_7 (by decide) ?_
      refine z_sload dX5_turn_10 (by omega) ?_
      refine z_icmp_ge (tgt := 129) dX5_turn_11 (by decide) (by omega) (by omega) (fun c11 => ?_) (fun c11 => ?_)
      · rw [zfor_end (by omega)] at he
        have hB := zA_all hA
        rw [he]
        generalize hα : sAll σ = α at hB
        refine z_iconst dX5_turn_129 ?_
        refine z_istore_n dX5_turn_130 (by decide) ?_
        have L2 : ∀ (n : Nat) (c : Int) (τ : zS), (0 ≤ c ∧ c ≤ 120) → c + n = 121 → (∀ j : Int, j < 240 → τ j = α j) → zfor sAgeF c 120 τ = sAge α → zW G YX5_turn (fun v M' => v = none ∧ M' = zt M (sTurn σ)) 131 [(1, .inl c), (0, .inr (some 187))] [] (zt M τ) := by
          intro n
          induction n with
          | zero => intro c τ hc hcn hT he; exfalso; omega
          | succ n ih =>
            intro c τ hc hcn hT he
            refine z_iload_n dX5_turn_131 rfl ?_
            refine z_bipush dX5_turn_132 (by decide) ?_
            refine z_icmp_ge (tgt := 173) dX5_turn_134 (by decide) (by omega) (by omega) (fun c134 => ?_) (fun c134 => ?_)
            · rw [zfor_end (by omega)] at he
              rw [he]
              refine z_aload_n dX5_turn_173 rfl ?_
              refine z_callV mX5_dries (vX5_dries (zI_age hB.1.1 hB.1.2.1)) rfl dX5_turn_174 kX5_84 (by decide) rfl (by show _ ≤ 8; simp) (by decide) zsh187 (by decide) rfl (fun v174 M174 q174 => ?_)
              obtain ⟨rfl, rfl⟩ := q174
              try simp only [zpush]
              have hD : zA (sDry (sAge α)) := zA_dry (zI_age hB.1.1 hB.1.2.1) (zZ_age hB.1.1 hB.1.2.2)
              have hD5 : ∀ j : Int, 531 ≤ j → j < 537 → sDry (sAge α) j = σ j := fun j q1 q2 => by rw [sDry_o _ (by omega), sAge_o _ (by omega)]; exact hB.2 j q1 q2
              generalize hδ : sDry (sAge α) = δ at hD hD5
              refine z_aload_n dX5_turn_177 rfl ?_
              refine z_getR (b := 188) dX5_turn_178 fX5_7 (by decide) zsh187 rfl rfl ?_
              refine z_sipush dX5_turn_181 (by decide) ?_
              refine z_dup2 dX5_turn_184 ?_
              refine z_sload dX5_turn_185 (by omega) ?_
              refine z_iconst dX5_turn_186 ?_
              refine z_iadd dX5_turn_187 ?_
              refine z_sstore dX5_turn_188 (by omega) (fun σ188 hσ188 => ?_)
              have hτ : σ188 = sTick δ := hσ188
              have e6 : σ188 536 = σ 536 + 1 := by rw [hσ188, zu_at, hD5 536 (by omega) (by omega)]
              have e4 : σ188 534 = σ 534 := by rw [hσ188, zu_ne (by omega), hD5 534 (by omega) (by omega)]
              have hE : zA σ188 := by rw [hτ]; exact zA_tick hD
              have J : ∀ g : Int, g = sG σ188 → zW G YX5_turn (fun v M' => v = none ∧ M' = zt M (sTurn σ)) 215 [(1, .inl g), (0, .inr (some 187))] [] (zt M σ188) := by
                intro g hg
                have hgr : g = 0 ∨ g = 1 := by rw [hg]; unfold sG; split <;> omega
                refine z_iconst dX5_turn_215 ?_
                refine z_istore_n dX5_turn_216 (by decide) ?_
                have L3 : ∀ (n : Nat) (c : Int) (τ : zS), (0 ≤ c ∧ c ≤ 120) → c + n = 121 → zI τ → zfor (sGrowF g) c 120 τ = sGrow g σ188 → zW G YX5_turn (fun v M' => v = none ∧ M' = zt M (sTurn σ)) 217 [(2, .inl c), (1, .inl g), (0, .inr (some 187))] [] (zt M τ) := by
                  intro n
                  induction n with
                  | zero => intro c τ hc hcn hT he; exfalso; omega
                  | succ n ih =>
                    intro c τ hc hcn hT he
                    refine z_iload_n dX5_turn_217 rfl ?_
                    refine z_bipush dX5_turn_218 (by decide) ?_
                    refine z_icmp_ge (tgt := 274) dX5_turn_220 (by decide) (by omega) (by omega) (fun c220 => ?_) (fun c220 => ?_)
                    · rw [zfor_end (by omega)] at he
                      refine z_vret dX5_turn_274 rfl ?_
                      refine ⟨rfl, ?_⟩
                      rw [he]
                      unfold sTurn
                      rw [hα, hδ, ← hτ, ← hg]
                    · have hc9 := hT.2.1 c (by omega) (by omega)
                      unfold zIc at hc9
                      rw [zfor_step (by omega)] at he
                      have hz : τ (0 + c) = τ c := by rw [Int.zero_add]
                      refine z_aload_n dX5_turn_223 rfl ?_
                      refine z_getR (b := 188) dX5_turn_224 fX5_7 (by decide) zsh187 rfl rfl ?_
                      refine z_iconst dX5_turn_227 ?_
                      refine z_iload_n dX5_turn_228 rfl ?_
                      refine z_iadd dX5_turn_229 ?_
                      refine z_dup2 dX5_turn_230 ?_
                      refine z_sload dX5_turn_231 (by omega) ?_
                      refine z_iload_n dX5_turn_232 rfl ?_
                      refine z_if_eq (tgt := 265) dX5_turn_233 (by decide) (by omega) (fun c233 => ?_) (fun c233 => ?_)
                      · refine z_iconst dX5_turn_265 ?_
                        refine z_iadd dX5_turn_266 ?_
                        refine z_sstore dX5_turn_267 (by omega) (fun σ267 hσ267 => ?_)
                        refine z_iinc dX5_turn_268 rfl (by decide) ?_
                        refine z_goto (tgt := 217) dX5_turn_271 (by decide) ?_
                        have e2 : sGrowF g c τ = σ267 := by unfold sGrowF; first | rw [if_pos (by omega), hσ267] | rw [if_neg (by omega), hσ267]
                        exact zsub' (ih (c + 1) σ267 (by omega) (by omega) (by rw [hσ267, Int.zero_add]; exact zI_fr hT (by omega) (by omega)) (by rw [← e2]; exact he)) ⟨rfl, rfl, rfl, trivial⟩
                      · refine z_aload_n dX5_turn_236 rfl ?_
                        refine z_getR (b := 188) dX5_turn_237 fX5_7 (by decide) zsh187 rfl rfl ?_
                        refine z_bipush dX5_turn_240 (by decide) ?_
                        refine z_iload_n dX5_turn_242 rfl ?_
                        refine z_iadd dX5_turn_243 ?_
                        refine z_sload dX5_turn_244 (by omega) ?_
                        refine z_if_ne (tgt := 265) dX5_turn_245 (by decide) (by omega) (fun c245 => ?_) (fun c245 => ?_)
                        · refine z_iconst dX5_turn_265 ?_
                          refine z_iadd dX5_turn_266 ?_
                          refine z_sstore dX5_turn_267 (by omega) (fun σ267 hσ267 => ?_)
                          refine z_iinc dX5_turn_268 rfl (by decide) ?_
                          refine z_goto (tgt := 217) dX5_turn_271 (by decide) ?_
                          have e2 : sGrowF g c τ = σ267 := by unfold sGrowF; first | rw [if_pos (by omega), hσ267] | rw [if_neg (by omega), hσ267]
                          exact zsub' (ih (c + 1) σ267 (by omega) (by omega) (by rw [hσ267, Int.zero_add]; exact zI_fr hT (by omega) (by omega)) (by rw [← e2]; exact he)) ⟨rfl, rfl, rfl, trivial⟩
                        · refine z_aload_n dX5_turn_248 rfl ?_
                          refine z_getR (b := 188) dX5_turn_249 fX5_7 (by decide) zsh187 rfl rfl ?_
                          refine z_iconst dX5_turn_252 ?_
                          refine z_iload_n dX5_turn_253 rfl ?_
                          refine z_iadd dX5_turn_254 ?_
                          refine z_sload dX5_turn_255 (by omega) ?_
                          refine z_bipush dX5_turn_256 (by decide) ?_
                          refine z_icmp_ge (tgt := 265) dX5_turn_258 (by decide) (by omega) (by omega) (fun c258 => ?_) (fun c258 => ?_)
                          · refine z_iconst dX5_turn_265 ?_
                            refine z_iadd dX5_turn_266 ?_
                            refine z_sstore dX5_turn_267 (by omega) (fun σ267 hσ267 => ?_)
                            refine z_iinc dX5_turn_268 rfl (by decide) ?_
                            refine z_goto (tgt := 217) dX5_turn_271 (by decide) ?_
                            have e2 : sGrowF g c τ = σ267 := by unfold sGrowF; first | rw [if_pos (by omega), hσ267] | rw [if_neg (by omega), hσ267]
                            exact zsub' (ih (c + 1) σ267 (by omega) (by omega) (by rw [hσ267, Int.zero_add]; exact zI_fr hT (by omega) (by omega)) (by rw [← e2]; exact he)) ⟨rfl, rfl, rfl, trivial⟩
                          · refine z_iconst dX5_turn_261 ?_
                            refine z_goto (tgt := 266) dX5_turn_262 (by decide) ?_
                            refine z_iadd dX5_turn_266 ?_
                            refine z_sstore dX5_turn_267 (by omega) (fun σ267 hσ267 => ?_)
                            refine z_iinc dX5_turn_268 rfl (by decide) ?_
                            refine z_goto (tgt := 217) dX5_turn_271 (by decide) ?_
                            have e2 : sGrowF g c τ = σ267 := by unfold sGrowF; first | rw [if_pos (by omega), hσ267] | rw [if_neg (by omega), hσ267]
                            exact zsub' (ih (c + 1) σ267 (by omega) (by omega) (by rw [hσ267, Int.zero_add]; exact zI_fr hT (by omega) (by omega)) (by rw [← e2]; exact he)) ⟨rfl, rfl, rfl, trivial⟩
                exact zsub' (L3 121 0 σ188 (by omega) (by omega) hE.1 rfl) ⟨rfl, rfl, rfl, trivial⟩
              refine z_aload_n dX5_turn_189 rfl ?_
              refine z_getR (b := 188) dX5_turn_190 fX5_7 (by decide) zsh187 rfl rfl ?_
              refine z_sipush dX5_turn_193 (by decide) ?_
              refine z_sload dX5_turn_196 (by omega) ?_
              refine z_aload_n dX5_turn_197 rfl ?_
              refine z_getR (b := 188) dX5_turn_198 fX5_7 (by decide) zsh187 rfl rfl ?_
              refine z_sipush dX5_turn_201 (by decide) ?_
              refine z_sload dX5_turn_204 (by omega) ?_
              refine z_irem dX5_turn_205 (by omega) (by omega) ?_
              refine z_if_ne (tgt := 213) dX5_turn_206 (by decide) (by have := Int.emod_nonneg (σ188 536) (show σ188 534 ≠ 0 by omega); have := Int.emod_lt_of_pos (σ188 536) (show 0 < σ188 534 by omega); omega) (fun c206 => ?_) (fun c206 => ?_)
              · refine z_iconst dX5_turn_213 ?_
                refine z_istore_n dX5_turn_214 (by decide) ?_
                exact zsub' (J _ (by unfold sG; first | rw [if_pos (by omega)] | rw [if_neg (by omega)])) ⟨rfl, rfl, trivial⟩
              · refine z_iconst dX5_turn_209 ?_
                refine z_goto (tgt := 214) dX5_turn_210 (by decide) ?_
                refine z_istore_n dX5_turn_214 (by decide) ?_
                exact zsub' (J _ (by unfold sG; first | rw [if_pos (by omega)] | rw [if_neg (by omega)])) ⟨rfl, rfl, trivial⟩
            · have hc9 := hB.1.1.2.1 c (by omega) (by omega)
              unfold zIc at hc9
              have hT1 := hT (120 + c) (by omega)
              rw [zfor_step (by omega)] at he
              refine z_aload_n dX5_turn_137 rfl ?_
              refine z_getR (b := 188) dX5_turn_138 fX5_7 (by decide) zsh187 rfl rfl ?_
              refine z_sipush dX5_turn_141 (by decide) ?_
              refine z_iload_n dX5_turn_144 rfl ?_
              refine z_iadd dX5_turn_145 ?_
              refine z_dup2 dX5_turn_146 ?_
              refine z_sload dX5_turn_147 (by omega) ?_
              refine z_aload_n dX5_turn_148 rfl ?_
              refine z_getR (b := 188) dX5_turn_149 fX5_7 (by decide) zsh187 rfl rfl ?_
              refine z_bipush dX5_turn_152 (by decide) ?_
              refine z_iload_n dX5_turn_154 rfl ?_
              refine z_iadd dX5_turn_155 ?_
              refine z_sload dX5_turn_156 (by omega) ?_
              refine z_if_le (tgt := 164) dX5_turn_157 (by decide) (by omega) (fun c157 => ?_) (fun c157 => ?_)
              · refine z_iconst dX5_turn_164 ?_
                refine z_iadd dX5_turn_165 ?_
                refine z_sstore dX5_turn_166 (by omega) (fun σ166 hσ166 => ?_)
                refine z_iinc dX5_turn_167 rfl (by decide) ?_
                refine z_goto (tgt := 131) dX5_turn_170 (by decide) ?_
                have e2 : sAgeF c τ = σ166 := by unfold sAgeF; first | rw [if_pos (by omega), hσ166] | rw [if_neg (by omega), hσ166]
                exact zsub' (ih (c + 1) σ166 (by omega) (by omega) (fun j hj => by rw [hσ166, zu_ne (by omega)]; exact hT j hj) (by rw [← e2]; exact he)) ⟨rfl, rfl, trivial⟩
              · refine z_iconst dX5_turn_160 ?_
                refine z_goto (tgt := 165) dX5_turn_161 (by decide) ?_
                refine z_iadd dX5_turn_165 ?_
                refine z_sstore dX5_turn_166 (by omega) (fun σ166 hσ166 => ?_)
                refine z_iinc dX5_turn_167 rfl (by decide) ?_
                refine z_goto (tgt := 131) dX5_turn_170 (by decide) ?_
                have e2 : sAgeF c τ = σ166 := by unfold sAgeF; first | rw [if_pos (by omega), hσ166] | rw [if_neg (by omega), hσ166]
                exact zsub' (ih (c + 1) σ166 (by omega) (by omega) (fun j hj => by rw [hσ166, zu_ne (by omega)]; exact hT j hj) (by rw [← e2]; exact he)) ⟨rfl, rfl, trivial⟩
        exact zsub' (L2 121 0 α (by omega) (by omega) (fun j _ => rfl) rfl) ⟨rfl, rfl, trivial⟩
      · have hact := zA_act hA2 (k := k) (by omega)
        have hm2 := hact.2 535 (by omega) (by omega)
        have hk9 := hA2.1.2.2 k (by omega) (by omega)
        unfold zIk at hk9
        have hs9 := hA2.1.1
        unfold zIs at hs9
        rw [zfor_step (by omega)] at he
        refine z_aload_n dX5_turn_14 rfl ?_
        refine z_iload_n dX5_turn_15 rfl ?_
        refine z_callV mX5_creeps (vX5_creeps (by omega) hA2.1) rfl dX5_turn_16 kX5_48 (by decide) rfl (by show _ ≤ 8; simp) (by decide) zsh187 (by decide) rfl (fun v16 M16 q16 => ?_)
        obtain ⟨rfl, b16, rfl, h16⟩ := q16
        try simp only [zpush]
        refine z_if_eq (tgt := 123) dX5_turn_19 (by decide) (by omega) (fun c19 => ?_) (fun c19 => ?_)
        · refine z_iinc dX5_turn_123 rfl (by decide) ?_
          refine z_goto (tgt := 2) dX5_turn_126 (by decide) ?_
          have hacts : ∀ τ2 : zS, sAct τ k = τ2 → zW G YX5_turn (fun v M' => v = none ∧ M' = zt M (sTurn σ)) 2 [(1, .inl (k + 1)), (0, .inr (some 187))] [] (zt M τ2) := fun τ2 e2 => ih (k + 1) τ2 (by omega) (by omega) (e2 ▸ hact.1) (by rw [← e2, hm2, hm]) (by rw [← e2]; exact he)
          first
            | exact zsub' (hacts _ (by unfold sAct; rw [if_neg (by omega)])) ⟨rfl, rfl, trivial⟩
            | exact zsub' (hacts _ (by unfold sAct; rw [if_pos (by omega), if_pos (by omega)])) ⟨rfl, rfl, trivial⟩
            | exact zsub' (hacts _ (by unfold sAct; rw [if_pos (by omega), if_neg (by omega)]; unfold sRest sC8; first | rw [if_pos (by omega)]; subst_vars; rfl | rw [if_neg (by omega)]; subst_vars; rfl)) ⟨rfl, rfl, trivial⟩
        · refine z_aload_n dX5_turn_22 rfl ?_
          refine z_iload_n dX5_turn_23 rfl ?_
          refine z_callV mX5_chooses (vX5_chooses hA2.1 (by omega)) rfl dX5_turn_24 kX5_96 (by decide) rfl (by show _ ≤ 8; simp) (by decide) zsh187 (by decide) rfl (fun v24 M24 q24 => ?_)
          obtain ⟨rfl, rfl⟩ := q24
          try simp only [zpush]
          have hcr := sCh_r τ k
          refine z_istore_n dX5_turn_27 (by decide) ?_
          refine z_iload_n dX5_turn_28 rfl ?_
          refine z_iconst dX5_turn_29 ?_
          refine z_icmp_ge (tgt := 42) dX5_turn_30 (by decide) (by omega) (by omega) (fun c30 => ?_) (fun c30 => ?_)
          · refine z_aload_n dX5_turn_42 rfl ?_
            refine z_getR (b := 188) dX5_turn_43 fX5_7 (by decide) zsh187 rfl rfl ?_
            refine z_iload_n dX5_turn_46 rfl ?_
            refine z_iconst dX5_turn_47 ?_
            refine z_callS mX5_of vX5_of rfl dX5_turn_48 kX5_40 (by decide) rfl (by show _ ≤ 8; simp) (fun v48 M48 q48 => ?_)
            obtain ⟨rfl, rfl⟩ := q48
            try simp only [zpush]
            refine z_sload dX5_turn_51 (by omega) ?_
            refine z_aload_n dX5_turn_52 rfl ?_
            refine z_getR (b := 188) dX5_turn_53 fX5_7 (by decide) zsh187 rfl rfl ?_
            refine z_sipush dX5_turn_56 (by decide) ?_
            refine z_sload dX5_turn_59 (by omega) ?_
            refine z_iadd dX5_turn_60 ?_
            refine z_istore_n dX5_turn_61 (by decide) ?_
            refine z_aload_n dX5_turn_62 rfl ?_
            refine z_getR (b := 188) dX5_turn_63 fX5_7 (by decide) zsh187 rfl rfl ?_
            refine z_iload_n dX5_turn_66 rfl ?_
            refine z_iconst dX5_turn_67 ?_
            refine z_callS mX5_of vX5_of rfl dX5_turn_68 kX5_40 (by decide) rfl (by show _ ≤ 8; simp) (fun v68 M68 q68 => ?_)
            obtain ⟨rfl, rfl⟩ := q68
            try simp only [zpush]
            refine z_iload_n dX5_turn_71 rfl ?_
            refine z_bipush dX5_turn_72 (by decide) ?_
            refine z_icmp_le (tgt := 82) dX5_turn_74 (by decide) (by omega) (by omega) (fun c74 => ?_) (fun c74 => ?_)
            · refine z_iload_n dX5_turn_82 rfl ?_
              refine z_sstore dX5_turn_83 (by omega) (fun σ83 hσ83 => ?_)
              refine z_aload_n dX5_turn_84 rfl ?_
              refine z_getR (b := 188) dX5_turn_85 fX5_7 (by decide) zsh187 rfl rfl ?_
              refine z_iload_n dX5_turn_88 rfl ?_
              refine z_bipush dX5_turn_89 (by decide) ?_
              refine z_callS mX5_of vX5_of rfl dX5_turn_91 kX5_40 (by decide) rfl (by show _ ≤ 8; simp) (fun v91 M91 q91 => ?_)
              obtain ⟨rfl, rfl⟩ := q91
              try simp only [zpush]
              refine z_dup2 dX5_turn_94 ?_
              refine z_sload dX5_turn_95 (by omega) ?_
              refine z_iconst dX5_turn_96 ?_
              refine z_iadd dX5_turn_97 ?_
              refine z_sstore dX5_turn_98 (by omega) (fun σ98 hσ98 => ?_)
              refine z_aload_n dX5_turn_99 rfl ?_
              refine z_getR (b := 188) dX5_turn_100 fX5_7 (by decide) zsh187 rfl rfl ?_
              refine z_iload_n dX5_turn_103 rfl ?_
              refine z_bipush dX5_turn_104 (by decide) ?_
              refine z_callS mX5_of vX5_of rfl dX5_turn_106 kX5_40 (by decide) rfl (by show _ ≤ 8; simp) (fun v106 M106 q106 => ?_)
              obtain ⟨rfl, rfl⟩ := q106
              try simp only [zpush]
              refine z_iconst dX5_turn_109 ?_
              refine z_sstore dX5_turn_110 (by omega) (fun σ110 hσ110 => ?_)
              refine z_aload_n dX5_turn_111 rfl ?_
              refine z_getR (b := 188) dX5_turn_112 fX5_7 (by decide) zsh187 rfl rfl ?_
              refine z_iload_n dX5_turn_115 rfl ?_
              refine z_bipush dX5_turn_116 (by decide) ?_
              refine z_callS mX5_of vX5_of rfl dX5_turn_118 kX5_40 (by decide) rfl (by show _ ≤ 8; simp) (fun v118 M118 q118 => ?_)
              obtain ⟨rfl, rfl⟩ := q118
              try simp only [zpush]
              refine z_iconst dX5_turn_121 ?_
              refine z_sstore dX5_turn_122 (by omega) (fun σ122 hσ122 => ?_)
              refine z_iinc dX5_turn_123 rfl (by decide) ?_
              refine z_goto (tgt := 2) dX5_turn_126 (by decide) ?_
              have hacts : ∀ τ2 : zS, sAct τ k = τ2 → zW G YX5_turn (fun v M' => v = none ∧ M' = zt M (sTurn σ)) 2 [(1, .inl (k + 1)), (0, .inr (some 187))] [] (zt M τ2) := fun τ2 e2 => ih (k + 1) τ2 (by omega) (by omega) (e2 ▸ hact.1) (by rw [← e2, hm2, hm]) (by rw [← e2]; exact he)
              first
                | exact zsub' (hacts _ (by unfold sAct; rw [if_neg (by omega)])) ⟨rfl, rfl, trivial⟩
                | exact zsub' (hacts _ (by unfold sAct; rw [if_pos (by omega), if_pos (by omega)])) ⟨rfl, rfl, trivial⟩
                | exact zsub' (hacts _ (by unfold sAct; rw [if_pos (by omega), if_neg (by omega)]; unfold sRest sC8; first | rw [if_pos (by omega)]; subst_vars; rfl | rw [if_neg (by omega)]; subst_vars; rfl)) ⟨rfl, rfl, trivial⟩
            · refine z_bipush dX5_turn_77 (by decide) ?_
              refine z_goto (tgt := 83) dX5_turn_79 (by decide) ?_
              refine z_sstore dX5_turn_83 (by omega) (fun σ83 hσ83 => ?_)
              refine z_aload_n dX5_turn_84 rfl ?_
              refine z_getR (b := 188) dX5_turn_85 fX5_7 (by decide) zsh187 rfl rfl ?_
              refine z_iload_n dX5_turn_88 rfl ?_
              refine z_bipush dX5_turn_89 (by decide) ?_
              refine z_callS mX5_of vX5_of rfl dX5_turn_91 kX5_40 (by decide) rfl (by show _ ≤ 8; simp) (fun v91 M91 q91 => ?_)
              obtain ⟨rfl, rfl⟩ := q91
              try simp only [zpush]
              refine z_dup2 dX5_turn_94 ?_
              refine z_sload dX5_turn_95 (by omega) ?_
              refine z_iconst dX5_turn_96 ?_
              refine z_iadd dX5_turn_97 ?_
              refine z_sstore dX5_turn_98 (by omega) (fun σ98 hσ98 => ?_)
              refine z_aload_n dX5_turn_99 rfl ?_
              refine z_getR (b := 188) dX5_turn_100 fX5_7 (by decide) zsh187 rfl rfl ?_
              refine z_iload_n dX5_turn_103 rfl ?_
              refine z_bipush dX5_turn_104 (by decide) ?_
              refine z_callS mX5_of vX5_of rfl dX5_turn_106 kX5_40 (by decide) rfl (by show _ ≤ 8; simp) (fun v106 M106 q106 => ?_)
              obtain ⟨rfl, rfl⟩ := q106
              try simp only [zpush]
              refine z_iconst dX5_turn_109 ?_
              refine z_sstore dX5_turn_110 (by omega) (fun σ110 hσ110 => ?_)
              refine z_aload_n dX5_turn_111 rfl ?_
              refine z_getR (b := 188) dX5_turn_112 fX5_7 (by decide) zsh187 rfl rfl ?_
              refine z_iload_n dX5_turn_115 rfl ?_
              refine z_bipush dX5_turn_116 (by decide) ?_
              refine z_callS mX5_of vX5_of rfl dX5_turn_118 kX5_40 (by decide) rfl (by show _ ≤ 8; simp) (fun v118 M118 q118 => ?_)
              obtain ⟨rfl, rfl⟩ := q118
              try simp only [zpush]
              refine z_iconst dX5_turn_121 ?_
              refine z_sstore dX5_turn_122 (by omega) (fun σ122 hσ122 => ?_)
              refine z_iinc dX5_turn_123 rfl (by decide) ?_
              refine z_goto (tgt := 2) dX5_turn_126 (by decide) ?_
              have hacts : ∀ τ2 : zS, sAct τ k = τ2 → zW G YX5_turn (fun v M' => v = none ∧ M' = zt M (sTurn σ)) 2 [(1, .inl (k + 1)), (0, .inr (some 187))] [] (zt M τ2) := fun τ2 e2 => ih (k + 1) τ2 (by omega) (by omega) (e2 ▸ hact.1) (by rw [← e2, hm2, hm]) (by rw [← e2]; exact he)
              first
                | exact zsub' (hacts _ (by unfold sAct; rw [if_neg (by omega)])) ⟨rfl, rfl, trivial⟩
                | exact zsub' (hacts _ (by unfold sAct; rw [if_pos (by omega), if_pos (by omega)])) ⟨rfl, rfl, trivial⟩
                | exact zsub' (hacts _ (by unfold sAct; rw [if_pos (by omega), if_neg (by omega)]; unfold sRest sC8; first | rw [if_pos (by omega)]; subst_vars; rfl | rw [if_neg (by omega)]; subst_vars; rfl)) ⟨rfl, rfl, trivial⟩
          · have hch := sCh_lt (σ := τ) (k := k) (by omega)
            refine z_aload_n dX5_turn_33 rfl ?_
            refine z_iload_n dX5_turn_34 rfl ?_
            refine z_iload_n dX5_turn_35 rfl ?_
            refine z_callV mX5_creep (vX5_creep hA2.1 (by omega) (by omega) hch.2.1) rfl dX5_turn_36 kX5_99 (by decide) rfl (by show _ ≤ 8; simp) (by decide) zsh187 (by decide) rfl (fun v36 M36 q36 => ?_)
            obtain ⟨rfl, rfl⟩ := q36
            try simp only [zpush]
            refine z_goto (tgt := 123) dX5_turn_39 (by decide) ?_
            refine z_iinc dX5_turn_123 rfl (by decide) ?_
            refine z_goto (tgt := 2) dX5_turn_126 (by decide) ?_
            have hacts : ∀ τ2 : zS, sAct τ k = τ2 → zW G YX5_turn (fun v M' => v = none ∧ M' = zt M (sTurn σ)) 2 [(1, .inl (k + 1)), (0, .inr (some 187))] [] (zt M τ2) := fun τ2 e2 => ih (k + 1) τ2 (by omega) (by omega) (e2 ▸ hact.1) (by rw [← e2, hm2, hm]) (by rw [← e2]; exact he)
            first
              | exact zsub' (hacts _ (by unfold sAct; rw [if_neg (by omega)])) ⟨rfl, rfl, trivial⟩
              | exact zsub' (hacts _ (by unfold sAct; rw [if_pos (by omega), if_pos (by omega)])) ⟨rfl, rfl, trivial⟩
              | exact zsub' (hacts _ (by unfold sAct; rw [if_pos (by omega), if_neg (by omega)]; unfold sRest sC8; first | rw [if_pos (by omega)]; subst_vars; rfl | rw [if_neg (by omega)]; subst_vars; rfl)) ⟨rfl, rfl, trivial⟩
  exact zsub' (L (σ 535 + 1).toNat 0 σ (by omega) (by omega) hA rfl rfl) ⟨rfl, rfl, trivial⟩
end
section
theorem vX5_putAside {G : zG} {M : zM} {σ : zS}  : zCall G yX5_putAside YX5_putAside [.inr (some 187)] (zt M σ) (fun v M' => v = none ∧ ∃ M1 : zM, M' = zt M1 σ ∧ (∀ a : Int, a ≠ 189 → M1 a = M a) ∧ ∀ j : Int, 0 ≤ j → j < 538 → M1 189 j = σ j) := by
  refine zEnter (by decide +kernel) rfl (Nat.le_of_ble_eq_true rfl) ?_
  refine z_iconst dX5_putAside_0 ?_
  refine z_istore_n dX5_putAside_1 (by decide) ?_
  have L : ∀ (n : Nat) (c : Int) (N : zM), (0 ≤ c ∧ c ≤ 538) → (c + n = 539) → (∀ a : Int, a ≠ 189 → N a = M a) → (∀ j : Int, 0 ≤ j → j < c → N 189 j = σ j) → zW G YX5_putAside (fun v M' => v = none ∧ ∃ M1 : zM, M' = zt M1 σ ∧ (∀ a : Int, a ≠ 189 → M1 a = M a) ∧ ∀ j : Int, 0 ≤ j → j < 538 → M1 189 j = σ j) 2 [(1, .inl c), (0, .inr (some 187))] [] (zt N σ) := by
    intro n
    induction n with
    | zero => intro c N hc hcn h1 h2; exfalso; omega
    | succ n ih =>
      intro c N hc hcn h1 h2
      refine z_iload_n dX5_putAside_2 rfl ?_
      refine z_sipush dX5_putAside_3 (by decide) ?_
      refine z_icmp_ge (tgt := 27) dX5_putAside_6 (by decide) (by omega) (by omega) (fun c6 => ?_) (fun c6 => ?_)
      · refine z_vret dX5_putAside_27 rfl ?_
        exact ⟨rfl, N, rfl, h1, fun j q1 q2 => h2 j q1 (by omega)⟩
      · refine z_aload_n dX5_putAside_9 rfl ?_
        refine z_getR (b := 189) dX5_putAside_10 fX5_13 (by decide) zsh187 rfl rfl ?_
        refine z_iload_n dX5_putAside_13 rfl ?_
        refine z_aload_n dX5_putAside_14 rfl ?_
        refine z_getR (b := 188) dX5_putAside_15 fX5_7 (by decide) zsh187 rfl rfl ?_
        refine z_iload_n dX5_putAside_18 rfl ?_
        refine z_sload dX5_putAside_19 (by omega) ?_
        refine z_ostore dX5_putAside_20 (by decide) (by decide) (zsh189) (by omega) (by decide) (fun N20 hN20 => ?_)
        refine z_iinc dX5_putAside_21 rfl (by decide) ?_
        refine z_goto (tgt := 2) dX5_putAside_24 (by decide) ?_
        exact zsub' (ih (c + 1) N20 (by omega) (by omega) (fun a ha => by rw [hN20, zm_up_off ha]; exact h1 a ha) (fun j q1 q2 => if hj : j = c then (by rw [hN20, hj]; exact zm_up_at) else (by rw [hN20, zm_up_ne hj]; exact h2 j q1 (by omega)))) ⟨rfl, rfl, trivial⟩
  exact zsub' (L 539 0 M (by omega) (by omega) (fun _ _ => rfl) (fun j q1 q2 => by omega)) ⟨rfl, rfl, trivial⟩

theorem vX5_putBack {G : zG} {M : zM} {σ : zS}  : zCall G yX5_putBack YX5_putBack [.inr (some 187)] (zt M σ) (fun v M' => v = none ∧ ∃ σ' : zS, M' = zt M σ' ∧ (∀ j : Int, 0 ≤ j → j < 538 → σ' j = M 189 j) ∧ zo σ σ') := by
  refine zEnter (by decide +kernel) rfl (Nat.le_of_ble_eq_true rfl) ?_
  refine z_iconst dX5_putBack_0 ?_
  refine z_istore_n dX5_putBack_1 (by decide) ?_
  have L : ∀ (n : Nat) (c : Int) (τ : zS), (0 ≤ c ∧ c ≤ 538) → (c + n = 539) → (∀ j : Int, 0 ≤ j → j < c → τ j = M 189 j) → (zo σ τ) → zW G YX5_putBack (fun v M' => v = none ∧ ∃ σ' : zS, M' = zt M σ' ∧ (∀ j : Int, 0 ≤ j → j < 538 → σ' j = M 189 j) ∧ zo σ σ') 2 [(1, .inl c), (0, .inr (some 187))] [] (zt M τ) := by
    intro n
    induction n with
    | zero => intro c τ hc hcn h2 h3; exfalso; omega
    | succ n ih =>
      intro c τ hc hcn h2 h3
      refine z_iload_n dX5_putBack_2 rfl ?_
      refine z_sipush dX5_putBack_3 (by decide) ?_
      refine z_icmp_ge (tgt := 27) dX5_putBack_6 (by decide) (by omega) (by omega) (fun c6 => ?_) (fun c6 => ?_)
      · refine z_vret dX5_putBack_27 rfl ?_
        exact ⟨rfl, τ, rfl, fun j q1 q2 => h2 j q1 (by omega), h3⟩
      · refine z_aload_n dX5_putBack_9 rfl ?_
        refine z_getR (b := 188) dX5_putBack_10 fX5_7 (by decide) zsh187 rfl rfl ?_
        refine z_iload_n dX5_putBack_13 rfl ?_
        refine z_aload_n dX5_putBack_14 rfl ?_
        refine z_getR (b := 189) dX5_putBack_15 fX5_13 (by decide) zsh187 rfl rfl ?_
        refine z_iload_n dX5_putBack_18 rfl ?_
        refine z_oload dX5_putBack_19 (by decide) (by decide) (zsh189) (by omega) (by decide) ?_
        refine z_sstore dX5_putBack_20 (by omega) (fun σ20 hσ20 => ?_)
        refine z_iinc dX5_putBack_21 rfl (by decide) ?_
        refine z_goto (tgt := 2) dX5_putBack_24 (by decide) ?_
        exact zsub' (ih (c + 1) σ20 (by omega) (by omega) (fun j q1 q2 => if hj : j = c then (by rw [hσ20, hj]; exact zu_at) else (by rw [hσ20, zu_ne hj]; exact h2 j q1 (by omega))) (h3.tr (by rw [hσ20]; exact zo_zu (by omega)))) ⟨rfl, rfl, trivial⟩
  exact zsub' (L 539 0 σ (by omega) (by omega) (fun j q1 q2 => by omega) (zo.rf σ)) ⟨rfl, rfl, trivial⟩

theorem vX5_records {G : zG} {M : zM} {σ : zS} (hp : 0 ≤ M 187 3 ∧ M 187 3 ≤ 4) : zCall G yX5_records YX5_records [.inr (some 187)] (zt M σ) (fun v M' => v = none ∧ ∃ N : zM, M' = zt N σ ∧ zRec M σ N) := by
  refine zEnter (by decide +kernel) rfl (Nat.le_of_ble_eq_true rfl) ?_
  refine z_aload_n dX5_records_0 rfl ?_
  refine z_oget (kI := 3) dX5_records_1 fX5_44 (by decide) (by decide) zsh187 rfl rfl ?_
  have J : ∀ N : zM, (0 ≤ N 187 3 ∧ N 187 3 ≤ 3) → (∀ N' : zM, zRecA N σ N' → zRec M σ N') → zW G YX5_records (fun v M' => v = none ∧ ∃ N : zM, M' = zt N σ ∧ zRec M σ N) 49 [(0, .inr (some 187))] [] (zt N σ) := by
    intro N hp hQ
    refine z_iconst dX5_records_49 ?_
    refine z_istore_n dX5_records_50 (by decide) ?_
    have L : ∀ (n : Nat) (c : Int) (N1 : zM), (0 ≤ c ∧ c ≤ 538) → (c + n = 539) → (∀ a : Int, a ≠ 190 → N1 a = N a) → (∀ j : Int, 0 ≤ j → j < c → N1 190 (538 * N 187 3 + j) = σ j) → (∀ j : Int, (j < 538 * N 187 3 ∨ 538 * N 187 3 + c ≤ j) → N1 190 j = N 190 j) → zW G YX5_records (fun v M' => v = none ∧ ∃ N : zM, M' = zt N σ ∧ zRec M σ N) 51 [(1, .inl c), (0, .inr (some 187))] [] (zt N1 σ) := by
      intro n
      induction n with
      | zero => intro c N1 hc hcn h1 h2 h3; exfalso; omega
      | succ n ih =>
        intro c N1 hc hcn h1 h2 h3
        refine z_iload_n dX5_records_51 rfl ?_
        refine z_sipush dX5_records_52 (by decide) ?_
        refine z_icmp_ge (tgt := 85) dX5_records_55 (by decide) (by omega) (by omega) (fun c55 => ?_) (fun c55 => ?_)
        · refine z_aload_n dX5_records_85 rfl ?_
          refine z_dup dX5_records_86 ?_
          refine z_oget (kI := 3) dX5_records_87 fX5_44 (by decide) (by decide) zsh187 rfl rfl ?_
          refine z_iconst dX5_records_90 ?_
          refine z_iadd dX5_records_91 ?_
          refine z_oput (kI := 3) dX5_records_92 fX5_44 rfl (Or.inl rfl) (by decide) (by decide) zsh187 rfl rfl (fun N92 hN92 => ?_)
          refine z_vret dX5_records_95 rfl ?_
          exact ⟨rfl, N92, rfl, hQ N92 ⟨fun a q1 q2 => by rw [hN92, zm_up_off q2]; exact h1 a q1, fun j q => by rw [hN92, zm_up_ne q, h1 187 (by decide)], by rw [hN92, ← h1 187 (by decide)]; exact zm_up_at, fun j q => by rw [hN92, zm_up_off (by decide)]; exact h3 j (by omega), fun j q1 q2 => by rw [hN92, zm_up_off (by decide)]; exact h2 j q1 (by omega)⟩⟩
        · have hp1 : N1 187 3 = N 187 3 := by rw [h1 187 (by decide)]
          refine z_aload_n dX5_records_58 rfl ?_
          refine z_getR (b := 190) dX5_records_59 fX5_16 (by decide) zsh187 rfl rfl ?_
          refine z_sipush dX5_records_62 (by decide) ?_
          refine z_aload_n dX5_records_65 rfl ?_
          refine z_oget (kI := 3) dX5_records_66 fX5_44 (by decide) (by decide) zsh187 rfl rfl ?_
          refine z_imul dX5_records_69 ?_
          refine z_iload_n dX5_records_70 rfl ?_
          refine z_iadd dX5_records_71 ?_
          refine z_aload_n dX5_records_72 rfl ?_
          refine z_getR (b := 188) dX5_records_73 fX5_7 (by decide) zsh187 rfl rfl ?_
          refine z_iload_n dX5_records_76 rfl ?_
          refine z_sload dX5_records_77 (by omega) ?_
          refine z_ostore dX5_records_78 (by decide) (by decide) (zsh190) (by omega) (by decide) (fun N78 hN78 => ?_)
          refine z_iinc dX5_records_79 rfl (by decide) ?_
          refine z_goto (tgt := 51) dX5_records_82 (by decide) ?_
          exact zsub' (ih (c + 1) N78 (by omega) (by omega) (fun a ha => by rw [hN78, zm_up_off ha]; exact h1 a ha) (fun j q1 q2 => if hj : j = c then (by rw [hN78, hp1, hj]; exact zm_up_at) else (by rw [hN78, hp1, zm_up_ne (by omega)]; exact h2 j q1 (by omega))) (fun j q => by rw [hN78, hp1, zm_up_ne (by omega)]; exact h3 j (by omega))) ⟨rfl, rfl, trivial⟩
    exact zsub' (L 539 0 N (by omega) (by omega) (fun _ _ => rfl) (fun j q1 q2 => by omega) (fun _ _ => rfl)) ⟨rfl, rfl, trivial⟩
  refine z_iconst dX5_records_4 ?_
  refine z_icmp_ne (tgt := 49) dX5_records_5 (by decide) (by omega) (by omega) (fun c5 => ?_) (fun c5 => ?_)
  · first
      | exact zsub' (J N46 (by rw [hN46, zm_up_at, h1 187 (by decide)]; omega) (fun N' hN' => by unfold zRec; rw [if_pos (by omega)]; exact ⟨N46, fun a q1 q2 => by rw [hN46, zm_up_off q2]; exact h1 a q1, fun j q => by rw [hN46, zm_up_ne q, h1 187 (by decide)], by rw [hN46, zm_up_at, h1 187 (by decide)]; omega, fun j q1 q2 => by rw [hN46, zm_up_off (by decide)]; exact h2 j q1 (by omega), hN'⟩)) ⟨rfl, trivial⟩
      | exact zsub' (J M (by omega) (fun N' hN' => by unfold zRec; rw [if_neg (by omega)]; exact hN')) ⟨rfl, trivial⟩
  · refine z_iconst dX5_records_8 ?_
    refine z_istore_n dX5_records_9 (by decide) ?_
    have L : ∀ (n : Nat) (c : Int) (N : zM), (0 ≤ c ∧ c ≤ 1614) → (c + n = 1615) → (∀ a : Int, a ≠ 190 → N a = M a) → (∀ j : Int, 0 ≤ j → j < c → N 190 j = M 190 (538 + j)) → (∀ j : Int, c ≤ j → N 190 j = M 190 j) → zW G YX5_records (fun v M' => v = none ∧ ∃ N : zM, M' = zt N σ ∧ zRec M σ N) 10 [(1, .inl c), (0, .inr (some 187))] [] (zt N σ) := by
      intro n
      induction n with
      | zero => intro c N hc hcn h1 h2 h3; exfalso; omega
      | succ n ih =>
        intro c N hc hcn h1 h2 h3
        refine z_iload_n dX5_records_10 rfl ?_
        refine z_sipush dX5_records_11 (by decide) ?_
        refine z_icmp_ge (tgt := 39) dX5_records_14 (by decide) (by omega) (by omega) (fun c14 => ?_) (fun c14 => ?_)
        · refine z_aload_n dX5_records_39 rfl ?_
          refine z_dup dX5_records_40 ?_
          refine z_oget (kI := 3) dX5_records_41 fX5_44 (by decide) (by decide) zsh187 rfl rfl ?_
          refine z_iconst dX5_records_44 ?_
          refine z_isub dX5_records_45 ?_
          refine z_oput (kI := 3) dX5_records_46 fX5_44 rfl (Or.inl rfl) (by decide) (by decide) zsh187 rfl rfl (fun N46 hN46 => ?_)
          first
            | exact zsub' (J N46 (by rw [hN46, zm_up_at, h1 187 (by decide)]; omega) (fun N' hN' => by unfold zRec; rw [if_pos (by omega)]; exact ⟨N46, fun a q1 q2 => by rw [hN46, zm_up_off q2]; exact h1 a q1, fun j q => by rw [hN46, zm_up_ne q, h1 187 (by decide)], by rw [hN46, zm_up_at, h1 187 (by decide)]; omega, fun j q1 q2 => by rw [hN46, zm_up_off (by decide)]; exact h2 j q1 (by omega), hN'⟩)) ⟨rfl, trivial⟩
            | exact zsub' (J M (by omega) (fun N' hN' => by unfold zRec; rw [if_neg (by omega)]; exact hN')) ⟨rfl, trivial⟩
        · refine z_aload_n dX5_records_17 rfl ?_
          refine z_getR (b := 190) dX5_records_18 fX5_16 (by decide) zsh187 rfl rfl ?_
          refine z_iload_n dX5_records_21 rfl ?_
          refine z_aload_n dX5_records_22 rfl ?_
          refine z_getR (b := 190) dX5_records_23 fX5_16 (by decide) zsh187 rfl rfl ?_
          refine z_sipush dX5_records_26 (by decide) ?_
          refine z_iload_n dX5_records_29 rfl ?_
          refine z_iadd dX5_records_30 ?_
          refine z_oload dX5_records_31 (by decide) (by decide) (zsh190) (by omega) (by decide) ?_
          refine z_ostore dX5_records_32 (by decide) (by decide) (zsh190) (by omega) (by decide) (fun N32 hN32 => ?_)
          refine z_iinc dX5_records_33 rfl (by decide) ?_
          refine z_goto (tgt := 10) dX5_records_36 (by decide) ?_
          exact zsub' (ih (c + 1) N32 (by omega) (by omega) (fun a ha => by rw [hN32, zm_up_off ha]; exact h1 a ha) (fun j q1 q2 => if hj : j = c then (by rw [hN32, hj, zm_up_at]; exact h3 _ (by omega)) else (by rw [hN32, zm_up_ne hj]; exact h2 j q1 (by omega))) (fun j q => by rw [hN32, zm_up_ne (by omega)]; exact h3 j (by omega))) ⟨rfl, rfl, trivial⟩
    exact zsub' (L 1615 0 M (by omega) (by omega) (fun _ _ => rfl) (fun j q1 q2 => by omega) (fun _ _ => rfl)) ⟨rfl, rfl, trivial⟩
end
section
theorem vX5_comes {G : zG} {M : zM} {σ : zS} {lane slime : Int} (hm8 : 0 ≤ σ 535 ∧ σ 535 ≤ 8) : zCall G yX5_comes YX5_comes [.inr (some 187), .inl lane, .inl slime] (zt M σ) (fun v M' => v = some (.inl (σ 535)) ∧ M' = zt M (sCome σ lane slime)) := by
  refine zEnter (by decide +kernel) rfl (Nat.le_of_ble_eq_true rfl) ?_
  have hs9 := hm8
  refine z_aload_n dX5_comes_0 rfl ?_
  refine z_getR (b := 188) dX5_comes_1 fX5_7 (by decide) zsh187 rfl rfl ?_
  refine z_sipush dX5_comes_4 (by decide) ?_
  refine z_sload dX5_comes_7 (by omega) ?_
  refine z_istore_n dX5_comes_8 (by decide) ?_
  generalize hm : σ 535 = m at hm8 hs9
  refine z_iconst dX5_comes_9 ?_
  refine z_istore dX5_comes_10 (by decide) ?_
  have L : ∀ (n : Nat) (c : Int) (τ : zS), (0 ≤ c ∧ c ≤ 10) → (c + n = 11) → (zfor (fun j s => zu s (360 + 10 * m + j) 0) c 10 τ = sComeA σ m) → zW G YX5_comes (fun v M' => v = some (.inl m) ∧ M' = zt M (sCome σ lane slime)) 12 [(4, .inl c), (3, .inl m), (0, .inr (some 187)), (1, .inl lane), (2, .inl slime)] [] (zt M τ) := by
    intro n
    induction n with
    | zero => intro c τ hc hcn he; exfalso; omega
    | succ n ih =>
      intro c τ hc hcn he
      refine z_iload dX5_comes_12 rfl ?_
      refine z_bipush dX5_comes_14 (by decide) ?_
      refine z_icmp_ge (tgt := 37) dX5_comes_16 (by decide) (by omega) (by omega) (fun c16 => ?_) (fun c16 => ?_)
      · rw [zfor_end (by omega)] at he
        refine z_iconst dX5_comes_37 ?_
        refine z_istore dX5_comes_38 (by decide) ?_
        have L2 : ∀ (n : Nat) (c : Int) (τ2 : zS), (0 ≤ c ∧ c ≤ 9) → (c + n = 10) → (zfor (fun j s => zu (zu s (450 + 9 * m + j) 0) (450 + 9 * j + m) 0) c 9 τ2 = sComeB (sComeA σ m) m) → zW G YX5_comes (fun v M' => v = some (.inl m) ∧ M' = zt M (sCome σ lane slime)) 40 [(4, .inl c), (3, .inl m), (0, .inr (some 187)), (1, .inl lane), (2, .inl slime)] [] (zt M τ2) := by
          intro n
          induction n with
          | zero => intro c τ2 hc hcn he2; exfalso; omega
          | succ n ih =>
            intro c τ2 hc hcn he2
            refine z_iload dX5_comes_40 rfl ?_
            refine z_bipush dX5_comes_42 (by decide) ?_
            refine z_icmp_gt (tgt := 87) dX5_comes_44 (by decide) (by omega) (by omega) (fun c44 => ?_) (fun c44 => ?_)
            · rw [zfor_end (by omega)] at he2
              refine z_aload_n dX5_comes_87 rfl ?_
              refine z_getR (b := 188) dX5_comes_88 fX5_7 (by decide) zsh187 rfl rfl ?_
              refine z_iload_n dX5_comes_91 rfl ?_
              refine z_iconst dX5_comes_92 ?_
              refine z_callS mX5_of vX5_of rfl dX5_comes_93 kX5_40 (by decide) rfl (by show _ ≤ 8; simp) (fun v93 M93 q93 => ?_)
              obtain ⟨rfl, rfl⟩ := q93
              try simp only [zpush]
              refine z_iload_n dX5_comes_96 rfl ?_
              refine z_sstore dX5_comes_97 (by omega) (fun σ97 hσ97 => ?_)
              refine z_aload_n dX5_comes_98 rfl ?_
              refine z_getR (b := 188) dX5_comes_99 fX5_7 (by decide) zsh187 rfl rfl ?_
              refine z_iload_n dX5_comes_102 rfl ?_
              refine z_iconst dX5_comes_103 ?_
              refine z_callS mX5_of vX5_of rfl dX5_comes_104 kX5_40 (by decide) rfl (by show _ ≤ 8; simp) (fun v104 M104 q104 => ?_)
              obtain ⟨rfl, rfl⟩ := q104
              try simp only [zpush]
              refine z_iload_n dX5_comes_107 rfl ?_
              refine z_sstore dX5_comes_108 (by omega) (fun σ108 hσ108 => ?_)
              refine z_aload_n dX5_comes_109 rfl ?_
              refine z_getR (b := 188) dX5_comes_110 fX5_7 (by decide) zsh187 rfl rfl ?_
              refine z_sipush dX5_comes_113 (by decide) ?_
              refine z_dup2 dX5_comes_116 ?_
              refine z_sload dX5_comes_117 (by omega) ?_
              refine z_iconst dX5_comes_118 ?_
              refine z_iadd dX5_comes_119 ?_
              refine z_sstore dX5_comes_120 (by omega) (fun σ120 hσ120 => ?_)
              refine z_iload_n dX5_comes_121 rfl ?_
              refine z_iret dX5_comes_122 rfl ?_
              refine ⟨rfl, ?_⟩
              unfold sCome sComeD sComeC
              rw [hm, ← he2, hσ120, hσ108, hσ97]
            · refine z_aload_n dX5_comes_47 rfl ?_
              refine z_getR (b := 188) dX5_comes_48 fX5_7 (by decide) zsh187 rfl rfl ?_
              refine z_sipush dX5_comes_51 (by decide) ?_
              refine z_bipush dX5_comes_54 (by decide) ?_
              refine z_iload_n dX5_comes_56 rfl ?_
              refine z_imul dX5_comes_57 ?_
              refine z_iadd dX5_comes_58 ?_
              refine z_iload dX5_comes_59 rfl ?_
              refine z_iadd dX5_comes_61 ?_
              refine z_iconst dX5_comes_62 ?_
              refine z_sstore dX5_comes_63 (by omega) (fun σ63 hσ63 => ?_)
              refine z_aload_n dX5_comes_64 rfl ?_
              refine z_getR (b := 188) dX5_comes_65 fX5_7 (by decide) zsh187 rfl rfl ?_
              refine z_sipush dX5_comes_68 (by decide) ?_
              refine z_bipush dX5_comes_71 (by decide) ?_
              refine z_iload dX5_comes_73 rfl ?_
              refine z_imul dX5_comes_75 ?_
              refine z_iadd dX5_comes_76 ?_
              refine z_iload_n dX5_comes_77 rfl ?_
              refine z_iadd dX5_comes_78 ?_
              refine z_iconst dX5_comes_79 ?_
              refine z_sstore dX5_comes_80 (by omega) (fun σ80 hσ80 => ?_)
              refine z_iinc dX5_comes_81 rfl (by decide) ?_
              refine z_goto (tgt := 40) dX5_comes_84 (by decide) ?_
              rw [zfor_step (by omega)] at he2
              exact zsub' (ih (c + 1) σ80 (by omega) (by omega) (by rw [hσ80, hσ63]; exact he2)) ⟨rfl, rfl, rfl, rfl, rfl, trivial⟩
        exact zsub' (L2 10 0 τ (by omega) (by omega) (by rw [he]; rfl)) ⟨rfl, rfl, rfl, rfl, rfl, trivial⟩
      · refine z_aload_n dX5_comes_19 rfl ?_
        refine z_getR (b := 188) dX5_comes_20 fX5_7 (by decide) zsh187 rfl rfl ?_
        refine z_iload_n dX5_comes_23 rfl ?_
        refine z_iload dX5_comes_24 rfl ?_
        refine z_callS mX5_of vX5_of rfl dX5_comes_26 kX5_40 (by decide) rfl (by show _ ≤ 8; simp) (fun v26 M26 q26 => ?_)
        obtain ⟨rfl, rfl⟩ := q26
        try simp only [zpush]
        refine z_iconst dX5_comes_29 ?_
        refine z_sstore dX5_comes_30 (by omega) (fun σ30 hσ30 => ?_)
        refine z_iinc dX5_comes_31 rfl (by decide) ?_
        refine z_goto (tgt := 12) dX5_comes_34 (by decide) ?_
        rw [zfor_step (by omega)] at he
        exact zsub' (ih (c + 1) σ30 (by omega) (by omega) (by rw [hσ30]; exact he)) ⟨rfl, rfl, rfl, rfl, rfl, trivial⟩
  exact zsub' (L 11 0 σ (by omega) (by omega) rfl) ⟨rfl, rfl, rfl, rfl, rfl, trivial⟩

theorem vX5_freezes {G : zG} {M : zM} {σ : zS} {lane row f : Int} (hl : 0 ≤ lane ∧ lane ≤ 5) (hr : 0 ≤ row ∧ row ≤ 19) : zCall G yX5_freezes YX5_freezes [.inr (some 187), .inl lane, .inl row, .inl f] (zt M σ) (fun v M' => v = some (.inl (σ (6 * row + lane))) ∧ M' = zt M (sFz σ (6 * row + lane) f)) := by
  refine zEnter (by decide +kernel) rfl (Nat.le_of_ble_eq_true rfl) ?_
  refine z_iload_n dX5_freezes_0 rfl ?_
  refine z_iload_n dX5_freezes_1 rfl ?_
  refine z_callS mX5_at vX5_at rfl dX5_freezes_2 kX5_70 (by decide) rfl (by show _ ≤ 8; simp) (fun v2 M2 q2 => ?_)
  obtain ⟨rfl, rfl⟩ := q2
  try simp only [zpush]
  refine z_istore dX5_freezes_5 (by decide) ?_
  refine z_aload_n dX5_freezes_7 rfl ?_
  refine z_getR (b := 188) dX5_freezes_8 fX5_7 (by decide) zsh187 rfl rfl ?_
  refine z_iconst dX5_freezes_11 ?_
  refine z_iload dX5_freezes_12 rfl ?_
  refine z_iadd dX5_freezes_14 ?_
  refine z_sload dX5_freezes_15 (by omega) ?_
  refine z_istore dX5_freezes_16 (by decide) ?_
  refine z_aload_n dX5_freezes_18 rfl ?_
  refine z_getR (b := 188) dX5_freezes_19 fX5_7 (by decide) zsh187 rfl rfl ?_
  refine z_iconst dX5_freezes_22 ?_
  refine z_iload dX5_freezes_23 rfl ?_
  refine z_iadd dX5_freezes_25 ?_
  refine z_iload_n dX5_freezes_26 rfl ?_
  refine z_sstore dX5_freezes_27 (by omega) (fun σ27 hσ27 => ?_)
  refine z_aload_n dX5_freezes_28 rfl ?_
  refine z_getR (b := 188) dX5_freezes_29 fX5_7 (by decide) zsh187 rfl rfl ?_
  refine z_bipush dX5_freezes_32 (by decide) ?_
  refine z_iload dX5_freezes_34 rfl ?_
  refine z_iadd dX5_freezes_36 ?_
  refine z_iconst dX5_freezes_37 ?_
  refine z_sstore dX5_freezes_38 (by omega) (fun σ38 hσ38 => ?_)
  refine z_aload_n dX5_freezes_39 rfl ?_
  refine z_getR (b := 188) dX5_freezes_40 fX5_7 (by decide) zsh187 rfl rfl ?_
  refine z_sipush dX5_freezes_43 (by decide) ?_
  refine z_iload dX5_freezes_46 rfl ?_
  refine z_iadd dX5_freezes_48 ?_
  refine z_iconst dX5_freezes_49 ?_
  refine z_sstore dX5_freezes_50 (by omega) (fun σ50 hσ50 => ?_)
  refine z_iload dX5_freezes_51 rfl ?_
  refine z_iret dX5_freezes_53 rfl ?_
  rw [Int.zero_add] at hσ27
  exact ⟨by rw [Int.zero_add], by unfold sFz; rw [hσ50, hσ38, hσ27]⟩

theorem vX5_barFrost {G : zG} {M : zM} {σ : zS} {lane row f : Int} (hlane : -2147483648 ≤ lane ∧ lane < 2147483648) (hrow : -2147483648 ≤ row ∧ row < 2147483648) (hf : -2147483648 ≤ f ∧ f < 2147483648) (hI : zI σ) : zCall G yX5_barFrost YX5_barFrost [.inr (some 187), .inl lane, .inl row, .inl f] (zt M σ) (fun v M' => zt M σ = M' ∧ v = some (.inl (sBarF σ lane row f))) := by
  refine zEnter (by decide +kernel) rfl (Nat.le_of_ble_eq_true rfl) ?_
  refine z_iload_n dX5_barFrost_0 rfl ?_
  refine z_iload_n dX5_barFrost_1 rfl ?_
  refine z_callS mX5_isCell (vX5_isCell (by omega) (by omega)) rfl dX5_barFrost_2 kX5_66 (by decide) rfl (by show _ ≤ 8; simp) (fun v2 M2 q2 => ?_)
  obtain ⟨rfl, b2, rfl, h2⟩ := q2
  try simp only [zpush]
  refine z_if_ne (tgt := 12) dX5_barFrost_5 (by decide) (by omega) (fun c5 => ?_) (fun c5 => ?_)
  · refine z_iload_n dX5_barFrost_12 rfl ?_
    refine z_iconst dX5_barFrost_13 ?_
    refine z_bipush dX5_barFrost_14 (by decide) ?_
    refine z_callS mX5_in (vX5_in (by omega) (by omega) (by omega)) rfl dX5_barFrost_16 kX5_32 (by decide) rfl (by show _ ≤ 8; simp) (fun v16 M16 q16 => ?_)
    obtain ⟨rfl, b16, rfl, h16⟩ := q16
    try simp only [zpush]
    refine z_if_ne (tgt := 27) dX5_barFrost_19 (by decide) (by omega) (fun c19 => ?_) (fun c19 => ?_)
    · refine z_aload_n dX5_barFrost_27 rfl ?_
      refine z_getR (b := 188) dX5_barFrost_28 fX5_7 (by decide) zsh187 rfl rfl ?_
      refine z_iconst dX5_barFrost_31 ?_
      refine z_iload_n dX5_barFrost_32 rfl ?_
      have hc9 := hI.2.1 (6 * row + lane) (by omega) (by omega)
      unfold zIc at hc9
      refine z_iload_n dX5_barFrost_33 rfl ?_
      refine z_callS mX5_at vX5_at rfl dX5_barFrost_34 kX5_70 (by decide) rfl (by show _ ≤ 8; simp) (fun v34 M34 q34 => ?_)
      obtain ⟨rfl, rfl⟩ := q34
      try simp only [zpush]
      refine z_iadd dX5_barFrost_37 ?_
      rw [Int.zero_add]
      refine z_sload dX5_barFrost_38 (by omega) ?_
      refine z_iload_n dX5_barFrost_39 rfl ?_
      refine z_icmp_ne (tgt := 64) dX5_barFrost_40 (by decide) (by omega) (by omega) (fun c40 => ?_) (fun c40 => ?_)
      · refine z_iconst dX5_barFrost_64 ?_
        refine z_iret dX5_barFrost_65 rfl ?_
        refine ⟨rfl, ?_⟩
        unfold sBarF
        congr 2
        repeat' split
        all_goals first | rfl | omega
      · refine z_aload_n dX5_barFrost_43 rfl ?_
        refine z_getR (b := 188) dX5_barFrost_44 fX5_7 (by decide) zsh187 rfl rfl ?_
        refine z_bipush dX5_barFrost_47 (by decide) ?_
        refine z_iload_n dX5_barFrost_49 rfl ?_
        refine z_iload_n dX5_barFrost_50 rfl ?_
        refine z_callS mX5_at vX5_at rfl dX5_barFrost_51 kX5_70 (by decide) rfl (by show _ ≤ 8; simp) (fun v51 M51 q51 => ?_)
        obtain ⟨rfl, rfl⟩ := q51
        try simp only [zpush]
        refine z_iadd dX5_barFrost_54 ?_
        refine z_sload dX5_barFrost_55 (by omega) ?_
        refine z_if_ne (tgt := 64) dX5_barFrost_56 (by decide) (by omega) (fun c56 => ?_) (fun c56 => ?_)
        · refine z_iconst dX5_barFrost_64 ?_
          refine z_iret dX5_barFrost_65 rfl ?_
          refine ⟨rfl, ?_⟩
          unfold sBarF
          congr 2
          repeat' split
          all_goals first | rfl | omega
        · refine z_bipush dX5_barFrost_59 (by decide) ?_
          refine z_goto (tgt := 65) dX5_barFrost_61 (by decide) ?_
          refine z_iret dX5_barFrost_65 rfl ?_
          refine ⟨rfl, ?_⟩
          unfold sBarF
          congr 2
          repeat' split
          all_goals first | rfl | omega
    · refine z_bipush dX5_barFrost_22 (by decide) ?_
      refine z_goto (tgt := 65) dX5_barFrost_24 (by decide) ?_
      refine z_iret dX5_barFrost_65 rfl ?_
      refine ⟨rfl, ?_⟩
      unfold sBarF
      congr 2
      repeat' split
      all_goals first | rfl | omega
  · refine z_iconst dX5_barFrost_8 ?_
    refine z_goto (tgt := 65) dX5_barFrost_9 (by decide) ?_
    refine z_iret dX5_barFrost_65 rfl ?_
    refine ⟨rfl, ?_⟩
    unfold sBarF
    congr 2
    repeat' split
    all_goals first | rfl | omega

theorem vX5_barPass {G : zG} {M : zM} {σ : zS} {t : Int} (ht : -2147483648 ≤ t ∧ t < 2147483648) (ht : 0 ≤ σ 536 ∧ σ 536 ≤ 1000000) : zCall G yX5_barPass YX5_barPass [.inr (some 187), .inl t] (zt M σ) (fun v M' => zt M σ = M' ∧ v = some (.inl (sBarT σ t))) := by
  refine zEnter (by decide +kernel) rfl (Nat.le_of_ble_eq_true rfl) ?_
  refine z_iload_n dX5_barPass_0 rfl ?_
  refine z_iconst dX5_barPass_1 ?_
  refine z_bipush dX5_barPass_2 (by decide) ?_
  refine z_callS mX5_in (vX5_in (by omega) (by omega) (by omega)) rfl dX5_barPass_4 kX5_32 (by decide) rfl (by show _ ≤ 8; simp) (fun v4 M4 q4 => ?_)
  obtain ⟨rfl, b4, rfl, h4⟩ := q4
  try simp only [zpush]
  refine z_if_ne (tgt := 15) dX5_barPass_7 (by decide) (by omega) (fun c7 => ?_) (fun c7 => ?_)
  · refine z_aload_n dX5_barPass_15 rfl ?_
    refine z_getR (b := 188) dX5_barPass_16 fX5_7 (by decide) zsh187 rfl rfl ?_
    refine z_sipush dX5_barPass_19 (by decide) ?_
    refine z_sload dX5_barPass_22 (by omega) ?_
    refine z_iload_n dX5_barPass_23 rfl ?_
    refine z_iadd dX5_barPass_24 ?_
    refine z_ldc (n := 99999) dX5_barPass_25 qX5_106 ?_
    refine z_icmp_le (tgt := 35) dX5_barPass_27 (by decide) (by omega) (by omega) (fun c27 => ?_) (fun c27 => ?_)
    · refine z_iconst dX5_barPass_35 ?_
      refine z_iret dX5_barPass_36 rfl ?_
      refine ⟨rfl, ?_⟩
      unfold sBarT
      congr 2
      repeat' split
      all_goals first | rfl | omega
    · refine z_bipush dX5_barPass_30 (by decide) ?_
      refine z_goto (tgt := 36) dX5_barPass_32 (by decide) ?_
      refine z_iret dX5_barPass_36 rfl ?_
      refine ⟨rfl, ?_⟩
      unfold sBarT
      congr 2
      repeat' split
      all_goals first | rfl | omega
  · refine z_bipush dX5_barPass_10 (by decide) ?_
    refine z_goto (tgt := 36) dX5_barPass_12 (by decide) ?_
    refine z_iret dX5_barPass_36 rfl ?_
    refine ⟨rfl, ?_⟩
    unfold sBarT
    congr 2
    repeat' split
    all_goals first | rfl | omega

theorem vX5_passes {G : zG} {M : zM} {σ : zS} {t : Int} (hA : zA σ) (hB : 0 ≤ σ 536 ∧ σ 536 ≤ 900000) (ht : 0 ≤ t ∧ t ≤ 99) : zCall G yX5_passes YX5_passes [.inr (some 187), .inl t] (zt M σ) (fun v M' => v = some (.inl (sTs t σ 537 - σ 537)) ∧ M' = zt M (sTs t σ)) := by
  refine zEnter (by decide +kernel) rfl (Nat.le_of_ble_eq_true rfl) ?_
  refine z_aload_n dX5_passes_0 rfl ?_
  refine z_getR (b := 188) dX5_passes_1 fX5_7 (by decide) zsh187 rfl rfl ?_
  refine z_sipush dX5_passes_4 (by decide) ?_
  refine z_sload dX5_passes_7 (by omega) ?_
  refine z_istore_n dX5_passes_8 (by decide) ?_
  refine z_iconst dX5_passes_9 ?_
  refine z_istore_n dX5_passes_10 (by decide) ?_
  have L : ∀ (n : Nat) (i : Int) (τ : zS), (0 ≤ i ∧ i ≤ t) → (i + n = t + 1) → (zA τ) → (τ 536 = σ 536 + i) → (zfor (fun _ s => sTurn s) i t τ = sTs t σ) → zW G YX5_passes (fun v M' => v = some (.inl (sTs t σ 537 - σ 537)) ∧ M' = zt M (sTs t σ)) 11 [(3, .inl i), (2, .inl (σ 537)), (0, .inr (some 187)), (1, .inl t)] [] (zt M τ) := by
    intro n
    induction n with
    | zero => intro i τ hc hcn hA2 h6 he; exfalso; omega
    | succ n ih =>
      intro i τ hc hcn hA2 h6 he
      refine z_iload_n dX5_passes_11 rfl ?_
      refine z_iload_n dX5_passes_12 rfl ?_
      refine z_icmp_ge (tgt := 26) dX5_passes_13 (by decide) (by omega) (by omega) (fun c13 => ?_) (fun c13 => ?_)
      · rw [zfor_end (by omega)] at he
        refine z_aload_n dX5_passes_26 rfl ?_
        refine z_getR (b := 188) dX5_passes_27 fX5_7 (by decide) zsh187 rfl rfl ?_
        refine z_sipush dX5_passes_30 (by decide) ?_
        refine z_sload dX5_passes_33 (by omega) ?_
        refine z_iload_n dX5_passes_34 rfl ?_
        refine z_isub dX5_passes_35 ?_
        refine z_iret dX5_passes_36 rfl ?_
        exact ⟨by rw [he], by rw [he]⟩
      · refine z_aload_n dX5_passes_16 rfl ?_
        refine z_callV mX5_turn (vX5_turn hA2 (by omega)) rfl dX5_passes_17 kX5_103 (by decide) rfl (by show _ ≤ 8; simp) (by decide) zsh187 (by decide) rfl (fun v17 M17 q17 => ?_)
        obtain ⟨rfl, rfl⟩ := q17
        try simp only [zpush]
        refine z_iinc dX5_passes_20 rfl (by decide) ?_
        refine z_goto (tgt := 11) dX5_passes_23 (by decide) ?_
        rw [zfor_step (by omega)] at he
        have hA3 := zA_turn hA2
        exact zsub' (ih (i + 1) (sTurn τ) (by omega) (by omega) hA3.1 (by rw [hA3.2.1]; omega) he) ⟨rfl, rfl, rfl, rfl, trivial⟩
  exact zsub' (L (t + 1).toNat 0 σ (by omega) (by omega) hA (by omega) rfl) ⟨rfl, rfl, rfl, rfl, trivial⟩

theorem vX5_ends {G : zG} {M : zM} {σ : zS} {k : Int} (hA : zA σ) (hB : 0 ≤ σ 536 ∧ σ 536 ≤ 900000) (hk : 0 ≤ k ∧ k < 9) : zCall G yX5_ends YX5_ends [.inr (some 187), .inl k] (zt M σ) (fun v M' => v = some (.inl (sEnds k 0 σ)) ∧ ∃ σ' : zS, M' = zt M σ' ∧ zo σ σ') := by
  refine zEnter (by decide +kernel) rfl (Nat.le_of_ble_eq_true rfl) ?_
  refine z_iconst dX5_ends_0 ?_
  refine z_istore_n dX5_ends_1 (by decide) ?_
  have L : ∀ (n : Nat) (i : Int) (τ : zS), (0 ≤ i ∧ i ≤ 300) → (i + n = 301) → (zA τ) → (τ 536 = σ 536 + i) → (zo σ τ) → (sEnds k i τ = sEnds k 0 σ) → zW G YX5_ends (fun v M' => v = some (.inl (sEnds k 0 σ)) ∧ ∃ σ' : zS, M' = zt M σ' ∧ zo σ σ') 2 [(2, .inl i), (0, .inr (some 187)), (1, .inl k)] [] (zt M τ) := by
    intro n
    induction n with
    | zero => intro i τ hc hcn hA2 h6 h7 he; exfalso; omega
    | succ n ih =>
      intro i τ hc hcn hA2 h6 h7 he
      refine z_aload_n dX5_ends_2 rfl ?_
      have hk9 := hA2.1.2.2 k hk.1 hk.2
      unfold zIk at hk9
      refine z_getR (b := 188) dX5_ends_3 fX5_7 (by decide) zsh187 rfl rfl ?_
      refine z_iload_n dX5_ends_6 rfl ?_
      refine z_iconst dX5_ends_7 ?_
      refine z_callS mX5_of vX5_of rfl dX5_ends_8 kX5_40 (by decide) rfl (by show _ ≤ 8; simp) (fun v8 M8 q8 => ?_)
      obtain ⟨rfl, rfl⟩ := q8
      try simp only [zpush]
      refine z_sload dX5_ends_11 (by omega) ?_
      refine z_if_ne (tgt := 32) dX5_ends_12 (by decide) (by omega) (fun c12 => ?_) (fun c12 => ?_)
      · refine z_aload_n dX5_ends_32 rfl ?_
        refine z_getR (b := 188) dX5_ends_33 fX5_7 (by decide) zsh187 rfl rfl ?_
        refine z_iload_n dX5_ends_36 rfl ?_
        refine z_iconst dX5_ends_37 ?_
        refine z_callS mX5_of vX5_of rfl dX5_ends_38 kX5_40 (by decide) rfl (by show _ ≤ 8; simp) (fun v38 M38 q38 => ?_)
        obtain ⟨rfl, rfl⟩ := q38
        try simp only [zpush]
        refine z_sload dX5_ends_41 (by omega) ?_
        refine z_iconst dX5_ends_42 ?_
        refine z_icmp_ne (tgt := 50) dX5_ends_43 (by decide) (by omega) (by omega) (fun c43 => ?_) (fun c43 => ?_)
        · refine z_bipush dX5_ends_50 (by decide) ?_
          refine z_iret dX5_ends_52 rfl ?_
          refine ⟨?_, τ, rfl, h7⟩
          rw [← he]
          by_cases hi : i < 300
          · rw [sEnds_step hi]
            first | (exfalso; omega) | rw [if_neg (by omega), if_pos (by omega)] | rw [if_neg (by omega), if_neg (by omega)]
          · rw [sEnds_end (by omega)]
            first | rw [if_pos (by omega)] | rw [if_neg (by omega)]
        · refine z_iload_n dX5_ends_46 rfl ?_
          refine z_goto (tgt := 52) dX5_ends_47 (by decide) ?_
          refine z_iret dX5_ends_52 rfl ?_
          refine ⟨?_, τ, rfl, h7⟩
          rw [← he]
          by_cases hi : i < 300
          · rw [sEnds_step hi]
            first | (exfalso; omega) | rw [if_neg (by omega), if_pos (by omega)] | rw [if_neg (by omega), if_neg (by omega)]
          · rw [sEnds_end (by omega)]
            first | rw [if_pos (by omega)] | rw [if_neg (by omega)]
      · refine z_iload_n dX5_ends_15 rfl ?_
        refine z_sipush dX5_ends_16 (by decide) ?_
        refine z_icmp_ge (tgt := 32) dX5_ends_19 (by decide) (by omega) (by omega) (fun c19 => ?_) (fun c19 => ?_)
        · refine z_aload_n dX5_ends_32 rfl ?_
          refine z_getR (b := 188) dX5_ends_33 fX5_7 (by decide) zsh187 rfl rfl ?_
          refine z_iload_n dX5_ends_36 rfl ?_
          refine z_iconst dX5_ends_37 ?_
          refine z_callS mX5_of vX5_of rfl dX5_ends_38 kX5_40 (by decide) rfl (by show _ ≤ 8; simp) (fun v38 M38 q38 => ?_)
          obtain ⟨rfl, rfl⟩ := q38
          try simp only [zpush]
          refine z_sload dX5_ends_41 (by omega) ?_
          refine z_iconst dX5_ends_42 ?_
          refine z_icmp_ne (tgt := 50) dX5_ends_43 (by decide) (by omega) (by omega) (fun c43 => ?_) (fun c43 => ?_)
          · refine z_bipush dX5_ends_50 (by decide) ?_
            refine z_iret dX5_ends_52 rfl ?_
            refine ⟨?_, τ, rfl, h7⟩
            rw [← he]
            by_cases hi : i < 300
            · rw [sEnds_step hi]
              first | (exfalso; omega) | rw [if_neg (by omega), if_pos (by omega)] | rw [if_neg (by omega), if_neg (by omega)]
            · rw [sEnds_end (by omega)]
              first | rw [if_pos (by omega)] | rw [if_neg (by omega)]
          · refine z_iload_n dX5_ends_46 rfl ?_
            refine z_goto (tgt := 52) dX5_ends_47 (by decide) ?_
            refine z_iret dX5_ends_52 rfl ?_
            refine ⟨?_, τ, rfl, h7⟩
            rw [← he]
            by_cases hi : i < 300
            · rw [sEnds_step hi]
              first | (exfalso; omega) | rw [if_neg (by omega), if_pos (by omega)] | rw [if_neg (by omega), if_neg (by omega)]
            · rw [sEnds_end (by omega)]
              first | rw [if_pos (by omega)] | rw [if_neg (by omega)]
        · refine z_aload_n dX5_ends_22 rfl ?_
          refine z_callV mX5_turn (vX5_turn hA2 (by omega)) rfl dX5_ends_23 kX5_103 (by decide) rfl (by show _ ≤ 8; simp) (by decide) zsh187 (by decide) rfl (fun v23 M23 q23 => ?_)
          obtain ⟨rfl, rfl⟩ := q23
          try simp only [zpush]
          refine z_iinc dX5_ends_26 rfl (by decide) ?_
          refine z_goto (tgt := 2) dX5_ends_29 (by decide) ?_
          rw [sEnds_step (by omega), if_pos (by omega)] at he
          have hA3 := zA_turn hA2
          exact zsub' (ih (i + 1) (sTurn τ) (by omega) (by omega) hA3.1 (by rw [hA3.2.1]; omega) (h7.tr (zo_turn hA2)) he) ⟨rfl, rfl, rfl, trivial⟩
  exact zsub' (L 301 0 σ (by omega) (by omega) hA (by omega) (zo.rf σ) rfl) ⟨rfl, rfl, rfl, trivial⟩
end
section
/-! ===== what the reference answers ===== -/
def sSnail (σ : zS) (k w : Int) : Int := if ¬ (0 ≤ k ∧ k < σ 535) then -1 else if ¬ (0 ≤ w ∧ w ≤ 9) then -2 else if w = 4 then (if σ (360 + 10 * k + w) = 0 then -5 else σ (360 + 10 * k + w)) else if w = 8 then (if σ (360 + 10 * k + w) = 0 then -5 else σ (360 + 10 * k + w) - 1) else σ (360 + 10 * k + w)
def sCell (σ : zS) (lane row w : Int) : Int := if ¬ ((0 ≤ lane ∧ lane ≤ 5) ∧ (0 ≤ row ∧ row ≤ 19)) then -1 else if w = 0 then σ (6 * row + lane) else if w = 1 then (if σ (120 + (6 * row + lane)) = 0 then -5 else σ (120 + (6 * row + lane)) - 1) else if w = 2 then (if σ (120 + (6 * row + lane)) = 0 then -5 else σ (240 + (6 * row + lane))) else if w = 3 then sOn σ lane row else -2
def sCost (σ : zS) (k s : Int) : Int := if ¬ (0 ≤ k ∧ k < σ 535) then -1 else if ¬ (0 ≤ s ∧ s ≤ 2) then -2 else if σ (360 + 10 * k + 3) = 0 then sPr σ k s else -4
def sDoes (σ : zS) (k : Int) : Int := if ¬ (0 ≤ k ∧ k < σ 535) then -1 else if σ (360 + 10 * k + 3) = 0 then sCh σ k else -4
def sReason (σ : zS) (k lane row : Int) : Int := if ¬ (0 ≤ k ∧ k < σ 535) ∨ ¬ ((0 ≤ lane ∧ lane ≤ 5) ∧ (0 ≤ row ∧ row ≤ 19)) then -1 else sWhy σ k (6 * row + lane)
def sOwes (σ : zS) (k o : Int) : Int := if ¬ (0 ≤ k ∧ k < σ 535) ∨ ¬ (0 ≤ o ∧ o < σ 535) then -1 else if k = o then -2 else σ (450 + 9 * k + o)
/-- who leads -/
def sLeadF (σ : zS) (k f : Int) : Int := if σ (360 + 10 * k + 3) = 0 ∧ (f = -5 ∨ σ (360 + 10 * k + 1) > σ (360 + 10 * f + 1) ∨ (σ (360 + 10 * k + 1) = σ (360 + 10 * f + 1) ∧ σ (360 + 10 * k + 2) > σ (360 + 10 * f + 2))) then k else f
def sLead (σ : zS) : Int := zfor (sLeadF σ) 0 (σ 535) (-5)
/-- counts and sums -/
def sIn (σ : zS) (w : Int) : Int := zfor (fun k n => n + if σ (360 + 10 * k + 3) = w then 1 else 0) 0 (σ 535) 0
def sOf (σ : zS) (w : Int) : Int := zfor (fun k n => n + σ (360 + 10 * k + w)) 0 (σ 535) 0
def sTrl (σ : zS) : Int := zfor (fun c n => n + if σ (120 + c) > 0 then 1 else 0) 0 120 0
def sFro (σ : zS) : Int := zfor (fun c n => n + σ c) 0 120 0
def sCount (σ : zS) (pasts len w : Int) : Int := if w = 0 then σ 536 else if w = 1 then σ 535 else if w = 2 then sIn σ 0 else if w = 3 then sIn σ 1 else if w = 4 then sTrl σ else if w = 5 then sFro σ else if w = 6 then sOf σ 5 else if w = 7 then sOf σ 6 else if w = 8 then sOf σ 7 else if 9 ≤ w ∧ w ≤ 12 then σ (531 + w - 9) else if w = 13 then pasts else if w = 14 then len else -2
/-- the least sums of ways up: n rows below the rim -/
def sWayF (σ : zS) (u : Int → Int) (r l step least : Int) : Int :=
  if (0 ≤ sLn l step ∧ sLn l step ≤ 5) ∧ (least = -5 ∨ u (sLn l step) + 1 + σ (6 * (r + 1) + sLn l step) < least) then u (sLn l step) + 1 + σ (6 * (r + 1) + sLn l step) else least
def sWayR (σ : zS) (u : Int → Int) (r l : Int) : Int := zfor (sWayF σ u r l) 0 3 (-5)
def sWayN (σ : zS) : Nat → Int → Int
  | 0, _ => 0
  | n + 1, l => sWayR σ (sWayN σ n) (18 - n) l
def sWay (σ : zS) (lane row w : Int) : Int := if ¬ ((0 ≤ lane ∧ lane ≤ 5) ∧ (0 ≤ row ∧ row ≤ 19)) then -1 else if ¬ (0 ≤ w ∧ w ≤ 1) then -2 else sWayN σ (19 - row).toNat lane
def sEndsIn (σ : zS) (k : Int) : Int := if ¬ (0 ≤ k ∧ k < σ 535) then -1 else if σ (360 + 10 * k + 3) = 2 then -4 else sEnds k 0 σ
/-- the best lane: lane and turns -/
def sBestF (σ : zS) (slime lane : Int) (x : Int × Int) : Int × Int := if sOn σ lane 0 = -5 ∧ sEnds (σ 535) 0 (sCome σ lane slime) ≠ -5 ∧ (x.1 = -5 ∨ sEnds (σ 535) 0 (sCome σ lane slime) < x.2) then (lane, sEnds (σ 535) 0 (sCome σ lane slime)) else x
def sBest (σ : zS) (slime : Int) : Int × Int := zfor (sBestF σ slime) 0 6 (-5, -5)
def sBestLane (σ : zS) (slime w : Int) : Int := if ¬ (0 ≤ slime ∧ slime ≤ 99) ∨ ¬ (0 ≤ w ∧ w ≤ 1) then -2 else if w = 0 then (sBest σ slime).1 else (sBest σ slime).2
def sStopped (M : zM) (w : Int) : Int := if ¬ (0 ≤ w ∧ w ≤ 1) then -2 else if M 187 8 = 0 then -5 else if w = 0 then M 187 9 else M 187 10
/-- an act: the state before goes into the history -/
def zDone (M : zM) (σ σ' : zS) (M' : zM) : Prop := ∃ N : zM, M' = zt N σ' ∧ zRec M σ N
theorem sBarS_r (σ : zS) (lane slime : Int) : sBarS σ lane slime = 0 ∨ (-4 ≤ sBarS σ lane slime ∧ sBarS σ lane slime < 0) := by
  unfold sBarS
  repeat' split
  all_goals omega
theorem sBarF_r (σ : zS) (lane row f : Int) : sBarF σ lane row f = 0 ∨ (-5 ≤ sBarF σ lane row f ∧ sBarF σ lane row f < 0) := by
  unfold sBarF
  repeat' split
  all_goals omega
theorem sBarT_r (σ : zS) (t : Int) : sBarT σ t = 0 ∨ (-5 ≤ sBarT σ t ∧ sBarT σ t < 0) := by
  unfold sBarT
  repeat' split
  all_goals omega
theorem sBarS_0 {σ : zS} {lane slime : Int} (h : sBarS σ lane slime = 0) : (0 ≤ lane ∧ lane ≤ 5) ∧ (0 ≤ slime ∧ slime ≤ 99) ∧ sOn σ lane 0 = -5 ∧ σ 535 ≠ 8 := by
  unfold sBarS at h
  split at h
  · omega
  · split at h
    · omega
    · split at h
      · omega
      · split at h
        · omega
        · omega
theorem sBarF_0 {σ : zS} {lane row f : Int} (h : sBarF σ lane row f = 0) : (0 ≤ lane ∧ lane ≤ 5) ∧ (0 ≤ row ∧ row ≤ 19) ∧ (0 ≤ f ∧ f ≤ 9) := by
  unfold sBarF at h
  split at h
  · omega
  · split at h
    · omega
    · omega
theorem sBarT_0 {σ : zS} {t : Int} (h : sBarT σ t = 0) : (1 ≤ t ∧ t ≤ 99) ∧ σ 536 + t ≤ 99999 := by
  unfold sBarT at h
  split at h
  · omega
  · split at h
    · omega
    · omega
def sBarSet (σ : zS) (w x : Int) : Int := if ¬ (0 ≤ w ∧ w ≤ 3) then -1 else if ¬ ((if w = 0 then 0 else 1) ≤ x ∧ x ≤ sMost w) then -2 else if σ (531 + w) = x then -5 else 0
theorem zI_set {σ : zS} (hI : zI σ) {w x : Int} (hw : 0 ≤ w ∧ w ≤ 3) (hx : (if w = 0 then 0 else 1) ≤ x ∧ x ≤ sMost w) : zI (zu σ (531 + w) x) := by
  refine ⟨?_, fun c h1 h2 => ?_, fun k h1 h2 => ?_⟩
  · have hs := hI.1
    unfold zIs at hs ⊢
    unfold sMost at hx
    rcases (show w = 0 ∨ w = 1 ∨ w = 2 ∨ w = 3 by omega) with rfl | rfl | rfl | rfl
    · rw [show (531 : Int) + 0 = 531 by decide, zu_at, zu_ne (by decide), zu_ne (by decide), zu_ne (by decide), zu_ne (by decide)]
      simp at hx
      omega
    · rw [show (531 : Int) + 1 = 532 by decide, zu_at, zu_ne (by decide), zu_ne (by decide), zu_ne (by decide), zu_ne (by decide)]
      simp at hx
      omega
    · rw [show (531 : Int) + 2 = 533 by decide, zu_at, zu_ne (by decide), zu_ne (by decide), zu_ne (by decide), zu_ne (by decide)]
      simp at hx
      omega
    · rw [show (531 : Int) + 3 = 534 by decide, zu_at, zu_ne (by decide), zu_ne (by decide), zu_ne (by decide), zu_ne (by decide)]
      simp at hx
      omega
  · have hc := hI.2.1 c h1 h2
    unfold zIc at hc ⊢
    rw [zu_ne (by omega), zu_ne (by omega), zu_ne (by omega)]
    exact hc
  · have hk := hI.2.2 k h1 h2
    unfold zIk at hk ⊢
    rw [zu_ne (by omega), zu_ne (by omega), zu_ne (by omega), zu_ne (by omega), zu_ne (by omega), zu_ne (by omega)]
    exact hk
theorem sEn_r (k : Int) : ∀ (m : Nat) (i : Int) (s : zS), sEn k m i s = -5 ∨ (i ≤ sEn k m i s ∧ sEn k m i s ≤ i + m)
  | 0, i, s => by
    unfold sEn
    split
    · right; omega
    · left; rfl
  | m + 1, i, s => by
    unfold sEn
    split
    · have := sEn_r k m (i + 1) (sTurn s)
      omega
    · split
      · right; omega
      · left; rfl
theorem sEnds_r (k i : Int) (s : zS) (h : 0 ≤ i ∧ i ≤ 300) : sEnds k i s = -5 ∨ (i ≤ sEnds k i s ∧ sEnds k i s ≤ 300) := by
  have := sEn_r k (300 - i).toNat i s
  unfold sEnds
  omega
theorem sCoA_at0 (m j : Int) : ∀ (n : Nat) (i : Int) (σ : zS), 0 ≤ i → i + n = 10 → zfor (fun j s => zu s (360 + 10 * m + j) 0) i 10 σ j = if 360 + 10 * m + i ≤ j ∧ j < 370 + 10 * m then 0 else σ j
  | 0, i, σ, h0, h => by rw [zfor_end (by omega), if_neg (by omega)]
  | n + 1, i, σ, h0, h => by
    rw [zfor_step (by omega), sCoA_at0 m j n (i + 1) _ (by omega) (by omega)]
    by_cases hj : j = 360 + 10 * m + i
    · subst hj
      rw [if_neg (by omega), if_pos (by omega)]
      exact zu_at
    · by_cases h2 : 360 + 10 * m + i ≤ j ∧ j < 370 + 10 * m
      · rw [if_pos h2, if_pos (by omega)]
      · rw [if_neg h2, if_neg (by omega)]
        exact zu_ne hj
theorem sCoA_at (σ : zS) (m j : Int) : sComeA σ m j = if 360 + 10 * m ≤ j ∧ j < 370 + 10 * m then 0 else σ j := by
  have := sCoA_at0 m j 10 0 σ (by omega) (by omega)
  rw [Int.add_zero] at this
  exact this
theorem sCoB_off0 (m j : Int) (hj : ∀ a : Int, 0 ≤ a → a < 9 → j ≠ 450 + 9 * m + a ∧ j ≠ 450 + 9 * a + m) : ∀ (n : Nat) (i : Int) (σ : zS), 0 ≤ i → i + n = 9 → zfor (fun j s => zu (zu s (450 + 9 * m + j) 0) (450 + 9 * j + m) 0) i 9 σ j = σ j
  | 0, i, σ, h0, h => by rw [zfor_end (by omega)]
  | n + 1, i, σ, h0, h => by
    have h1 := hj i h0 (by omega)
    rw [zfor_step (by omega), sCoB_off0 m j hj n (i + 1) _ (by omega) (by omega), zu_ne h1.2, zu_ne h1.1]
theorem sCoB_off {σ : zS} {m j : Int} (hj : ∀ a : Int, 0 ≤ a → a < 9 → j ≠ 450 + 9 * m + a ∧ j ≠ 450 + 9 * a + m) : sComeB σ m j = σ j := sCoB_off0 m j hj 9 0 σ (by omega) (by omega)
theorem sCoB_00 (m a b : Int) (hm : 0 ≤ m ∧ m < 9) (ha : 0 ≤ a ∧ a < 9) (hb : 0 ≤ b ∧ b < 9) : ∀ (n : Nat) (i : Int) (σ : zS), 0 ≤ i → i + n = 9 → (σ (450 + 9 * a + b) = 0 ∨ (a = m ∧ i ≤ b) ∨ (b = m ∧ i ≤ a)) → zfor (fun j s => zu (zu s (450 + 9 * m + j) 0) (450 + 9 * j + m) 0) i 9 σ (450 + 9 * a + b) = 0
  | 0, i, σ, h0, h, hh => by
    rw [zfor_end (by omega)]
    rcases hh with q | q | q
    · exact q
    · omega
    · omega
  | n + 1, i, σ, h0, h, hh => by
    rw [zfor_step (by omega)]
    refine sCoB_00 m a b hm ha hb n (i + 1) _ (by omega) (by omega) ?_
    by_cases h1 : 450 + 9 * a + b = 450 + 9 * i + m
    · left
      rw [h1]
      exact zu_at
    · rw [zu_ne h1]
      by_cases h2 : 450 + 9 * a + b = 450 + 9 * m + i
      · left
        rw [h2]
        exact zu_at
      · rw [zu_ne h2]
        omega
theorem sCoB_0 {σ : zS} {m a b : Int} (hm : 0 ≤ m ∧ m < 9) (ha : 0 ≤ a ∧ a < 9) (hb : 0 ≤ b ∧ b < 9) (h : a = m ∨ b = m) : sComeB σ m (450 + 9 * a + b) = 0 := sCoB_00 m a b hm ha hb 9 0 σ (by omega) (by omega) (by omega)
section CO
variable {σ : zS} {lane slime : Int}
/-- cells, settings, the turn, the ended stay -/
theorem sCo_off (hm : 0 ≤ σ 535 ∧ σ 535 ≤ 8) {j : Int} (hj : j < 360 ∨ (360 ≤ j ∧ j < 360 + 10 * σ 535) ∨ (370 + 10 * σ 535 ≤ j ∧ j < 450) ∨ (531 ≤ j ∧ j ≠ 535)) : sCome σ lane slime j = σ j := by
  unfold sCome sComeD sComeC
  rw [zu_ne (by omega), zu_ne (by omega), zu_ne (by omega), sCoB_off (fun a h1 h2 => by omega), sCoA_at, if_neg (by omega)]
theorem sCo_many (hm : 0 ≤ σ 535 ∧ σ 535 ≤ 8) : sCome σ lane slime 535 = σ 535 + 1 := by
  unfold sCome sComeD sComeC
  rw [zu_at, zu_ne (by omega), zu_ne (by omega), sCoB_off (fun a h1 h2 => by omega), sCoA_at, if_neg (by omega)]
theorem sCo_at (hm : 0 ≤ σ 535 ∧ σ 535 ≤ 8) {w : Int} (hw : 0 ≤ w ∧ w < 10) : sCome σ lane slime (360 + 10 * σ 535 + w) = if w = 0 then lane else if w = 2 then slime else 0 := by
  unfold sCome sComeD sComeC
  rw [zu_ne (by omega)]
  by_cases h2 : w = 2
  · subst h2
    rw [zu_at]
    rfl
  · rw [zu_ne (by omega)]
    by_cases h0 : w = 0
    · subst h0
      rw [zu_at]
      rfl
    · rw [zu_ne (by omega), sCoB_off (fun a h1 h2 => by omega), sCoA_at, if_pos (by omega), if_neg h0, if_neg h2]
theorem sCo_ow0 (hm : 0 ≤ σ 535 ∧ σ 535 ≤ 8) {a b : Int} (ha : 0 ≤ a ∧ a < 9) (hb : 0 ≤ b ∧ b < 9) (h : a = σ 535 ∨ b = σ 535) : sCome σ lane slime (450 + 9 * a + b) = 0 := by
  unfold sCome sComeD sComeC
  rw [zu_ne (by omega), zu_ne (by omega), zu_ne (by omega), sCoB_0 (by omega) ha hb h]
theorem sCo_ow (hm : 0 ≤ σ 535 ∧ σ 535 ≤ 8) {a b : Int} (ha : 0 ≤ a ∧ a < 9) (hb : 0 ≤ b ∧ b < 9) (h : a ≠ σ 535 ∧ b ≠ σ 535) : sCome σ lane slime (450 + 9 * a + b) = σ (450 + 9 * a + b) := by
  unfold sCome sComeD sComeC
  rw [zu_ne (by omega), zu_ne (by omega), zu_ne (by omega), sCoB_off (fun c h1 h2 => by omega), sCoA_at, if_neg (by omega)]
end CO
theorem zA_come {σ : zS} (hA : zA σ) (hm : σ 535 ≤ 8) {lane slime : Int} (hl : 0 ≤ lane ∧ lane ≤ 5) (hs : 0 ≤ slime ∧ slime ≤ 99) : zA (sCome σ lane slime) ∧ sCome σ lane slime 536 = σ 536 := by
  have hm0 := hA.1.1
  unfold zIs at hm0
  have hm2 : 0 ≤ σ 535 ∧ σ 535 ≤ 8 := by omega
  refine ⟨⟨⟨?_, fun c h1 h2 => ?_, fun k h1 h2 => ?_⟩, fun c h1 h2 => ?_, fun c h1 h2 h3 => ?_⟩, sCo_off hm2 (by omega)⟩
  · unfold zIs
    rw [sCo_many hm2, sCo_off hm2 (by omega), sCo_off hm2 (by omega), sCo_off hm2 (by omega), sCo_off hm2 (by omega)]
    omega
  · have hc := hA.1.2.1 c h1 h2
    unfold zIc at hc ⊢
    rw [sCo_off hm2 (by omega), sCo_off hm2 (by omega), sCo_off hm2 (by omega)]
    exact hc
  · by_cases hk : k = σ 535
    · subst hk
      unfold zIk
      rw [sCo_at hm2 (w := 0) (by omega), sCo_at hm2 (w := 1) (by omega), sCo_at hm2 (w := 2) (by omega), sCo_at hm2 (w := 3) (by omega), sCo_at hm2 (w := 8) (by omega), sCo_at hm2 (w := 9) (by omega)]
      simp
      omega
    · have hq := hA.1.2.2 k h1 h2
      unfold zIk at hq ⊢
      rw [sCo_off hm2 (by omega), sCo_off hm2 (by omega), sCo_off hm2 (by omega), sCo_off hm2 (by omega), sCo_off hm2 (by omega), sCo_off hm2 (by omega)]
      exact hq
  · rw [sCo_off hm2 (by omega), sCo_off hm2 (by omega)]
    exact hA.2.1 c h1 h2
  · rw [sCo_off hm2 (by omega)] at h3 ⊢
    exact hA.2.2 c h1 h2 h3
theorem sWayF_r {σ : zS} {u : Int → Int} {r l lo hi : Int} (hI : zI σ) (hr : 0 ≤ r ∧ r ≤ 18) (hu : ∀ x : Int, 0 ≤ x → x ≤ 5 → lo ≤ u x ∧ u x ≤ hi) {s f : Int} (hf : f = -5 ∨ (lo + 1 ≤ f ∧ f ≤ hi + 10)) : sWayF σ u r l s f = -5 ∨ (lo + 1 ≤ sWayF σ u r l s f ∧ sWayF σ u r l s f ≤ hi + 10) := by
  unfold sWayF
  split
  · rename_i h
    have h1 := hu _ h.1.1 h.1.2
    have h2 := hI.2.1 (6 * (r + 1) + sLn l s) (by omega) (by omega)
    unfold zIc at h2
    right
    omega
  · exact hf
theorem sWayR_r {σ : zS} {u : Int → Int} {r l lo hi : Int} (hI : zI σ) (hr : 0 ≤ r ∧ r ≤ 18) (hl : 0 ≤ l ∧ l ≤ 5) (hlo : 0 ≤ lo) (hu : ∀ x : Int, 0 ≤ x → x ≤ 5 → lo ≤ u x ∧ u x ≤ hi) : lo + 1 ≤ sWayR σ u r l ∧ sWayR σ u r l ≤ hi + 10 := by
  unfold sWayR
  rw [zfor_step (by decide), zfor_step (by decide), zfor_step (by decide), zfor_end (by decide)]
  have h0 : sWayF σ u r l 0 (-5) ≠ -5 ∧ (lo + 1 ≤ sWayF σ u r l 0 (-5) ∧ sWayF σ u r l 0 (-5) ≤ hi + 10) := by
    have h1 := hu l hl.1 hl.2
    have h2 := hI.2.1 (6 * (r + 1) + l) (by omega) (by omega)
    unfold zIc at h2
    have e : sLn l 0 = l := by unfold sLn; rw [if_pos rfl]
    unfold sWayF
    rw [e, if_pos ⟨hl, Or.inl rfl⟩]
    omega
  generalize sWayF σ u r l 0 (-5) = f0 at h0
  have h1 : sWayF σ u r l (0 + 1) f0 ≠ -5 ∧ (lo + 1 ≤ sWayF σ u r l (0 + 1) f0 ∧ sWayF σ u r l (0 + 1) f0 ≤ hi + 10) := by
    have q := sWayF_r hI hr hu (l := l) (s := 0 + 1) (f := f0) (Or.inr h0.2)
    refine ⟨?_, ?_⟩
    · intro e
      unfold sWayF at e
      split at e
      · rename_i h
        have h1 := hu _ h.1.1 h.1.2
        have h2 := hI.2.1 (6 * (r + 1) + sLn l (0 + 1)) (by omega) (by omega)
        unfold zIc at h2
        omega
      · exact h0.1 e
    · rcases q with q | q
      · unfold sWayF at q ⊢
        split at q
        · rename_i h
          have h1 := hu _ h.1.1 h.1.2
          have h2 := hI.2.1 (6 * (r + 1) + sLn l (0 + 1)) (by omega) (by omega)
          unfold zIc at h2
          omega
        · exact absurd q h0.1
      · exact q
  generalize sWayF σ u r l (0 + 1) f0 = f1 at h1
  have q := sWayF_r hI hr hu (l := l) (s := 0 + 1 + 1) (f := f1) (Or.inr h1.2)
  rcases q with q | q
  · exfalso
    unfold sWayF at q
    split at q
    · rename_i h
      have h1 := hu _ h.1.1 h.1.2
      have h2 := hI.2.1 (6 * (r + 1) + sLn l (0 + 1 + 1)) (by omega) (by omega)
      unfold zIc at h2
      omega
    · exact h1.1 q
  · exact q
theorem sWayN_r {σ : zS} (hI : zI σ) : ∀ (n : Nat) (l : Int), n ≤ 19 → 0 ≤ l → l ≤ 5 → (n : Int) ≤ sWayN σ n l ∧ sWayN σ n l ≤ 10 * n
  | 0, l, _, _, _ => by
    show (0 : Int) ≤ 0 ∧ (0 : Int) ≤ 10 * 0
    omega
  | n + 1, l, hn, h1, h2 => by
    have ih := fun x q1 q2 => sWayN_r hI n x (by omega) q1 q2
    have := sWayR_r hI (r := 18 - (n : Int)) (l := l) (lo := (n : Int)) (hi := 10 * (n : Int)) (by omega) ⟨h1, h2⟩ (by omega) ih
    show ((n + 1 : Nat) : Int) ≤ sWayR σ (sWayN σ n) (18 - (n : Int)) l ∧ sWayR σ (sWayN σ n) (18 - (n : Int)) l ≤ 10 * ((n + 1 : Nat) : Int)
    omega
theorem sWayN_step (σ : zS) {r l : Int} (h : 0 ≤ r ∧ r ≤ 18) : sWayN σ (19 - r).toNat l = sWayR σ (sWayN σ (18 - r).toNat) r l := by
  rw [show (19 - r).toNat = (18 - r).toNat + 1 by omega]
  show sWayR σ (sWayN σ (18 - r).toNat) (18 - ((18 - r).toNat : Int)) l = _
  rw [show 18 - ((18 - r).toNat : Int) = r by omega]
end
section
theorem vX5_snail {G : zG} {M : zM} {σ : zS} {k w : Int} (hk : -2147483648 ≤ k ∧ k < 2147483648) (hw : -2147483648 ≤ w ∧ w < 2147483648) (hA : zA σ) (h4 : ∀ k : Int, 0 ≤ k → k < σ 535 → 0 ≤ σ (360 + 10 * k + 4) ∧ σ (360 + 10 * k + 4) ≤ 1000000) : zCall G yX5_snail YX5_snail [.inr (some 187), .inl k, .inl w] (zt M σ) (fun v M' => zt M σ = M' ∧ v = some (.inl (sSnail σ k w))) := by
  refine zEnter (by decide +kernel) rfl (Nat.le_of_ble_eq_true rfl) ?_
  have hI := hA.1
  have hs9 := hI.1
  unfold zIs at hs9
  refine z_aload_n dX5_snail_0 rfl ?_
  refine z_iload_n dX5_snail_1 rfl ?_
  refine z_callV mX5_isSnail (vX5_isSnail (by omega) hI) rfl dX5_snail_2 kX5_63 (by decide) rfl (by show _ ≤ 8; simp) (by decide) zsh187 (by decide) rfl (fun v2 M2 q2 => ?_)
  obtain ⟨rfl, b2, rfl, h2⟩ := q2
  try simp only [zpush]
  refine z_if_ne (tgt := 10) dX5_snail_5 (by decide) (by omega) (fun c5 => ?_) (fun c5 => ?_)
  · refine z_iload_n dX5_snail_10 rfl ?_
    refine z_iconst dX5_snail_11 ?_
    refine z_bipush dX5_snail_12 (by decide) ?_
    refine z_callS mX5_in (vX5_in (by omega) (by omega) (by omega)) rfl dX5_snail_14 kX5_32 (by decide) rfl (by show _ ≤ 8; simp) (fun v14 M14 q14 => ?_)
    obtain ⟨rfl, b14, rfl, h14⟩ := q14
    try simp only [zpush]
    refine z_if_ne (tgt := 23) dX5_snail_17 (by decide) (by omega) (fun c17 => ?_) (fun c17 => ?_)
    · have hk9 := hI.2.2 k (by omega) (by omega)
      unfold zIk at hk9
      refine z_aload_n dX5_snail_23 rfl ?_
      refine z_getR (b := 188) dX5_snail_24 fX5_7 (by decide) zsh187 rfl rfl ?_
      refine z_iload_n dX5_snail_27 rfl ?_
      refine z_iload_n dX5_snail_28 rfl ?_
      refine z_callS mX5_of vX5_of rfl dX5_snail_29 kX5_40 (by decide) rfl (by show _ ≤ 8; simp) (fun v29 M29 q29 => ?_)
      obtain ⟨rfl, rfl⟩ := q29
      try simp only [zpush]
      refine z_sload dX5_snail_32 (by omega) ?_
      refine z_istore_n dX5_snail_33 (by decide) ?_
      refine z_iload_n dX5_snail_34 rfl ?_
      refine z_iconst dX5_snail_35 ?_
      refine z_icmp_ne (tgt := 52) dX5_snail_36 (by decide) (by omega) (by omega) (fun c36 => ?_) (fun c36 => ?_)
      · refine z_iload_n dX5_snail_52 rfl ?_
        refine z_bipush dX5_snail_53 (by decide) ?_
        refine z_icmp_ne (tgt := 73) dX5_snail_55 (by decide) (by omega) (by omega) (fun c55 => ?_) (fun c55 => ?_)
        · refine z_iload_n dX5_snail_73 rfl ?_
          refine z_iret dX5_snail_74 rfl ?_
          refine ⟨rfl, ?_⟩
          unfold sSnail
          congr 2
          repeat' split
          all_goals first | rfl | omega
        · subst c55
          refine z_iload_n dX5_snail_58 rfl ?_
          refine z_if_ne (tgt := 67) dX5_snail_59 (by decide) (by omega) (fun c59 => ?_) (fun c59 => ?_)
          · refine z_iload_n dX5_snail_67 rfl ?_
            refine z_iconst dX5_snail_68 ?_
            refine z_isub dX5_snail_69 ?_
            refine z_goto (tgt := 74) dX5_snail_70 (by decide) ?_
            refine z_iret dX5_snail_74 rfl ?_
            refine ⟨rfl, ?_⟩
            unfold sSnail
            congr 2
            repeat' split
            all_goals first | rfl | omega
          · refine z_bipush dX5_snail_62 (by decide) ?_
            refine z_goto (tgt := 74) dX5_snail_64 (by decide) ?_
            refine z_iret dX5_snail_74 rfl ?_
            refine ⟨rfl, ?_⟩
            unfold sSnail
            congr 2
            repeat' split
            all_goals first | rfl | omega
      · subst c36
        have h44 := h4 k (by omega) (by omega)
        refine z_iload_n dX5_snail_39 rfl ?_
        refine z_if_ne (tgt := 48) dX5_snail_40 (by decide) (by omega) (fun c40 => ?_) (fun c40 => ?_)
        · refine z_iload_n dX5_snail_48 rfl ?_
          refine z_goto (tgt := 74) dX5_snail_49 (by decide) ?_
          refine z_iret dX5_snail_74 rfl ?_
          refine ⟨rfl, ?_⟩
          unfold sSnail
          congr 2
          repeat' split
          all_goals first | rfl | omega
        · refine z_bipush dX5_snail_43 (by decide) ?_
          refine z_goto (tgt := 74) dX5_snail_45 (by decide) ?_
          refine z_iret dX5_snail_74 rfl ?_
          refine ⟨rfl, ?_⟩
          unfold sSnail
          congr 2
          repeat' split
          all_goals first | rfl | omega
    · refine z_bipush dX5_snail_20 (by decide) ?_
      refine z_iret dX5_snail_22 rfl ?_
      refine ⟨rfl, ?_⟩
      unfold sSnail
      congr 2
      repeat' split
      all_goals first | rfl | omega
  · refine z_iconst dX5_snail_8 ?_
    refine z_iret dX5_snail_9 rfl ?_
    refine ⟨rfl, ?_⟩
    unfold sSnail
    congr 2
    repeat' split
    all_goals first | rfl | omega

theorem vX5_cell {G : zG} {M : zM} {σ : zS} {lane row w : Int} (hlane : -2147483648 ≤ lane ∧ lane < 2147483648) (hrow : -2147483648 ≤ row ∧ row < 2147483648) (hw : -2147483648 ≤ w ∧ w < 2147483648) (hA : zA σ) : zCall G yX5_cell YX5_cell [.inr (some 187), .inl lane, .inl row, .inl w] (zt M σ) (fun v M' => zt M σ = M' ∧ v = some (.inl (sCell σ lane row w))) := by
  refine zEnter (by decide +kernel) rfl (Nat.le_of_ble_eq_true rfl) ?_
  have hI := hA.1
  have hs9 := hI.1
  unfold zIs at hs9
  refine z_iload_n dX5_cell_0 rfl ?_
  refine z_iload_n dX5_cell_1 rfl ?_
  refine z_callS mX5_isCell (vX5_isCell (by omega) (by omega)) rfl dX5_cell_2 kX5_66 (by decide) rfl (by show _ ≤ 8; simp) (fun v2 M2 q2 => ?_)
  obtain ⟨rfl, b2, rfl, h2⟩ := q2
  try simp only [zpush]
  refine z_if_ne (tgt := 10) dX5_cell_5 (by decide) (by omega) (fun c5 => ?_) (fun c5 => ?_)
  · refine z_iload_n dX5_cell_10 rfl ?_
    refine z_iload_n dX5_cell_11 rfl ?_
    refine z_callS mX5_at vX5_at rfl dX5_cell_12 kX5_70 (by decide) rfl (by show _ ≤ 8; simp) (fun v12 M12 q12 => ?_)
    obtain ⟨rfl, rfl⟩ := q12
    try simp only [zpush]
    refine z_istore dX5_cell_15 (by decide) ?_
    have hc9 := hI.2.1 (6 * row + lane) (by omega) (by omega)
    unfold zIc at hc9
    refine z_iload_n dX5_cell_17 rfl ?_
    rcases (show w = 0 ∨ w = 1 ∨ w = 2 ∨ w = 3 ∨ (w < 0 ∨ 3 < w) by omega) with h18 | h18 | h18 | h18 | h18
    · refine z_tabIn (off := 30) (tgt := 48) dX5_cell_18 (by omega) (by omega) (by rw [h18]; rfl) (by decide) ?_
      refine z_aload_n dX5_cell_48 rfl ?_
      refine z_getR (b := 188) dX5_cell_49 fX5_7 (by decide) zsh187 rfl rfl ?_
      refine z_iconst dX5_cell_52 ?_
      refine z_iload dX5_cell_53 rfl ?_
      refine z_iadd dX5_cell_55 ?_
      rw [Int.zero_add]
      refine z_sload dX5_cell_56 (by omega) ?_
      refine z_iret dX5_cell_57 rfl ?_
      refine ⟨rfl, ?_⟩
      unfold sCell
      congr 2
      repeat' split
      all_goals first | rfl | omega
    · refine z_tabIn (off := 40) (tgt := 58) dX5_cell_18 (by omega) (by omega) (by rw [h18]; rfl) (by decide) ?_
      refine z_aload_n dX5_cell_58 rfl ?_
      refine z_getR (b := 188) dX5_cell_59 fX5_7 (by decide) zsh187 rfl rfl ?_
      refine z_bipush dX5_cell_62 (by decide) ?_
      refine z_iload dX5_cell_64 rfl ?_
      refine z_iadd dX5_cell_66 ?_
      refine z_sload dX5_cell_67 (by omega) ?_
      refine z_if_ne (tgt := 76) dX5_cell_68 (by decide) (by omega) (fun c68 => ?_) (fun c68 => ?_)
      · refine z_aload_n dX5_cell_76 rfl ?_
        refine z_getR (b := 188) dX5_cell_77 fX5_7 (by decide) zsh187 rfl rfl ?_
        refine z_bipush dX5_cell_80 (by decide) ?_
        refine z_iload dX5_cell_82 rfl ?_
        refine z_iadd dX5_cell_84 ?_
        refine z_sload dX5_cell_85 (by omega) ?_
        refine z_iconst dX5_cell_86 ?_
        refine z_isub dX5_cell_87 ?_
        refine z_iret dX5_cell_88 rfl ?_
        refine ⟨rfl, ?_⟩
        unfold sCell
        congr 2
        repeat' split
        all_goals first | rfl | omega
      · refine z_bipush dX5_cell_71 (by decide) ?_
        refine z_goto (tgt := 88) dX5_cell_73 (by decide) ?_
        refine z_iret dX5_cell_88 rfl ?_
        refine ⟨rfl, ?_⟩
        unfold sCell
        congr 2
        repeat' split
        all_goals first | rfl | omega
    · refine z_tabIn (off := 71) (tgt := 89) dX5_cell_18 (by omega) (by omega) (by rw [h18]; rfl) (by decide) ?_
      refine z_aload_n dX5_cell_89 rfl ?_
      refine z_getR (b := 188) dX5_cell_90 fX5_7 (by decide) zsh187 rfl rfl ?_
      refine z_bipush dX5_cell_93 (by decide) ?_
      refine z_iload dX5_cell_95 rfl ?_
      refine z_iadd dX5_cell_97 ?_
      refine z_sload dX5_cell_98 (by omega) ?_
      refine z_if_ne (tgt := 107) dX5_cell_99 (by decide) (by omega) (fun c99 => ?_) (fun c99 => ?_)
      · refine z_aload_n dX5_cell_107 rfl ?_
        refine z_getR (b := 188) dX5_cell_108 fX5_7 (by decide) zsh187 rfl rfl ?_
        refine z_sipush dX5_cell_111 (by decide) ?_
        refine z_iload dX5_cell_114 rfl ?_
        refine z_iadd dX5_cell_116 ?_
        refine z_sload dX5_cell_117 (by omega) ?_
        refine z_iret dX5_cell_118 rfl ?_
        refine ⟨rfl, ?_⟩
        unfold sCell
        congr 2
        repeat' split
        all_goals first | rfl | omega
      · refine z_bipush dX5_cell_102 (by decide) ?_
        refine z_goto (tgt := 118) dX5_cell_104 (by decide) ?_
        refine z_iret dX5_cell_118 rfl ?_
        refine ⟨rfl, ?_⟩
        unfold sCell
        congr 2
        repeat' split
        all_goals first | rfl | omega
    · refine z_tabIn (off := 101) (tgt := 119) dX5_cell_18 (by omega) (by omega) (by rw [h18]; rfl) (by decide) ?_
      refine z_aload_n dX5_cell_119 rfl ?_
      refine z_iload_n dX5_cell_120 rfl ?_
      refine z_iload_n dX5_cell_121 rfl ?_
      refine z_callV mX5_snailOn (vX5_snailOn (by omega) (by omega) hI) rfl dX5_cell_122 kX5_51 (by decide) rfl (by show _ ≤ 8; simp) (by decide) zsh187 (by decide) rfl (fun v122 M122 q122 => ?_)
      obtain ⟨rfl, rfl⟩ := q122
      try simp only [zpush]
      refine z_iret dX5_cell_125 rfl ?_
      refine ⟨rfl, ?_⟩
      unfold sCell
      congr 2
      repeat' split
      all_goals first | rfl | omega
    · refine z_tabOut (tgt := 126) dX5_cell_18 (by omega) h18 (by decide) ?_
      refine z_bipush dX5_cell_126 (by decide) ?_
      refine z_iret dX5_cell_128 rfl ?_
      refine ⟨rfl, ?_⟩
      unfold sCell
      congr 2
      repeat' split
      all_goals first | rfl | omega
  · refine z_iconst dX5_cell_8 ?_
    refine z_iret dX5_cell_9 rfl ?_
    refine ⟨rfl, ?_⟩
    unfold sCell
    congr 2
    repeat' split
    all_goals first | rfl | omega

theorem vX5_cost {G : zG} {M : zM} {σ : zS} {k s : Int} (hk : -2147483648 ≤ k ∧ k < 2147483648) (hs : -2147483648 ≤ s ∧ s < 2147483648) (hA : zA σ) : zCall G yX5_cost YX5_cost [.inr (some 187), .inl k, .inl s] (zt M σ) (fun v M' => zt M σ = M' ∧ v = some (.inl (sCost σ k s))) := by
  refine zEnter (by decide +kernel) rfl (Nat.le_of_ble_eq_true rfl) ?_
  have hI := hA.1
  have hs9 := hI.1
  unfold zIs at hs9
  refine z_aload_n dX5_cost_0 rfl ?_
  refine z_iload_n dX5_cost_1 rfl ?_
  refine z_callV mX5_isSnail (vX5_isSnail (by omega) hI) rfl dX5_cost_2 kX5_63 (by decide) rfl (by show _ ≤ 8; simp) (by decide) zsh187 (by decide) rfl (fun v2 M2 q2 => ?_)
  obtain ⟨rfl, b2, rfl, h2⟩ := q2
  try simp only [zpush]
  refine z_if_ne (tgt := 12) dX5_cost_5 (by decide) (by omega) (fun c5 => ?_) (fun c5 => ?_)
  · refine z_iload_n dX5_cost_12 rfl ?_
    refine z_iconst dX5_cost_13 ?_
    refine z_iconst dX5_cost_14 ?_
    refine z_callS mX5_in (vX5_in (by omega) (by omega) (by omega)) rfl dX5_cost_15 kX5_32 (by decide) rfl (by show _ ≤ 8; simp) (fun v15 M15 q15 => ?_)
    obtain ⟨rfl, b15, rfl, h15⟩ := q15
    try simp only [zpush]
    refine z_if_ne (tgt := 26) dX5_cost_18 (by decide) (by omega) (fun c18 => ?_) (fun c18 => ?_)
    · refine z_aload_n dX5_cost_26 rfl ?_
      refine z_iload_n dX5_cost_27 rfl ?_
      refine z_callV mX5_creeps (vX5_creeps (by omega) hI) rfl dX5_cost_28 kX5_48 (by decide) rfl (by show _ ≤ 8; simp) (by decide) zsh187 (by decide) rfl (fun v28 M28 q28 => ?_)
      obtain ⟨rfl, b28, rfl, h28⟩ := q28
      try simp only [zpush]
      refine z_if_eq (tgt := 43) dX5_cost_31 (by decide) (by omega) (fun c31 => ?_) (fun c31 => ?_)
      · refine z_bipush dX5_cost_43 (by decide) ?_
        refine z_iret dX5_cost_45 rfl ?_
        refine ⟨rfl, ?_⟩
        unfold sCost
        congr 2
        repeat' split
        all_goals first | rfl | omega
      · refine z_aload_n dX5_cost_34 rfl ?_
        refine z_iload_n dX5_cost_35 rfl ?_
        refine z_iload_n dX5_cost_36 rfl ?_
        refine z_callV mX5_price (vX5_price hI (by omega) (by omega)) rfl dX5_cost_37 kX5_93 (by decide) rfl (by show _ ≤ 8; simp) (by decide) zsh187 (by decide) rfl (fun v37 M37 q37 => ?_)
        obtain ⟨rfl, rfl⟩ := q37
        try simp only [zpush]
        refine z_goto (tgt := 45) dX5_cost_40 (by decide) ?_
        refine z_iret dX5_cost_45 rfl ?_
        refine ⟨rfl, ?_⟩
        unfold sCost
        congr 2
        repeat' split
        all_goals first | rfl | omega
    · refine z_bipush dX5_cost_21 (by decide) ?_
      refine z_goto (tgt := 45) dX5_cost_23 (by decide) ?_
      refine z_iret dX5_cost_45 rfl ?_
      refine ⟨rfl, ?_⟩
      unfold sCost
      congr 2
      repeat' split
      all_goals first | rfl | omega
  · refine z_iconst dX5_cost_8 ?_
    refine z_goto (tgt := 45) dX5_cost_9 (by decide) ?_
    refine z_iret dX5_cost_45 rfl ?_
    refine ⟨rfl, ?_⟩
    unfold sCost
    congr 2
    repeat' split
    all_goals first | rfl | omega

theorem vX5_does {G : zG} {M : zM} {σ : zS} {k : Int} (hk : -2147483648 ≤ k ∧ k < 2147483648) (hA : zA σ) : zCall G yX5_does YX5_does [.inr (some 187), .inl k] (zt M σ) (fun v M' => zt M σ = M' ∧ v = some (.inl (sDoes σ k))) := by
  refine zEnter (by decide +kernel) rfl (Nat.le_of_ble_eq_true rfl) ?_
  have hI := hA.1
  have hs9 := hI.1
  unfold zIs at hs9
  refine z_aload_n dX5_does_0 rfl ?_
  refine z_iload_n dX5_does_1 rfl ?_
  refine z_callV mX5_isSnail (vX5_isSnail (by omega) hI) rfl dX5_does_2 kX5_63 (by decide) rfl (by show _ ≤ 8; simp) (by decide) zsh187 (by decide) rfl (fun v2 M2 q2 => ?_)
  obtain ⟨rfl, b2, rfl, h2⟩ := q2
  try simp only [zpush]
  refine z_if_ne (tgt := 12) dX5_does_5 (by decide) (by omega) (fun c5 => ?_) (fun c5 => ?_)
  · refine z_aload_n dX5_does_12 rfl ?_
    refine z_iload_n dX5_does_13 rfl ?_
    refine z_callV mX5_creeps (vX5_creeps (by omega) hI) rfl dX5_does_14 kX5_48 (by decide) rfl (by show _ ≤ 8; simp) (by decide) zsh187 (by decide) rfl (fun v14 M14 q14 => ?_)
    obtain ⟨rfl, b14, rfl, h14⟩ := q14
    try simp only [zpush]
    refine z_if_eq (tgt := 28) dX5_does_17 (by decide) (by omega) (fun c17 => ?_) (fun c17 => ?_)
    · refine z_bipush dX5_does_28 (by decide) ?_
      refine z_iret dX5_does_30 rfl ?_
      refine ⟨rfl, ?_⟩
      unfold sDoes
      congr 2
      repeat' split
      all_goals first | rfl | omega
    · refine z_aload_n dX5_does_20 rfl ?_
      refine z_iload_n dX5_does_21 rfl ?_
      refine z_callV mX5_chooses (vX5_chooses hI (by omega)) rfl dX5_does_22 kX5_96 (by decide) rfl (by show _ ≤ 8; simp) (by decide) zsh187 (by decide) rfl (fun v22 M22 q22 => ?_)
      obtain ⟨rfl, rfl⟩ := q22
      try simp only [zpush]
      refine z_goto (tgt := 30) dX5_does_25 (by decide) ?_
      refine z_iret dX5_does_30 rfl ?_
      refine ⟨rfl, ?_⟩
      unfold sDoes
      congr 2
      repeat' split
      all_goals first | rfl | omega
  · refine z_iconst dX5_does_8 ?_
    refine z_goto (tgt := 30) dX5_does_9 (by decide) ?_
    refine z_iret dX5_does_30 rfl ?_
    refine ⟨rfl, ?_⟩
    unfold sDoes
    congr 2
    repeat' split
    all_goals first | rfl | omega

theorem vX5_reason {G : zG} {M : zM} {σ : zS} {k lane row : Int} (hk : -2147483648 ≤ k ∧ k < 2147483648) (hlane : -2147483648 ≤ lane ∧ lane < 2147483648) (hrow : -2147483648 ≤ row ∧ row < 2147483648) (hA : zA σ) : zCall G yX5_reason YX5_reason [.inr (some 187), .inl k, .inl lane, .inl row] (zt M σ) (fun v M' => zt M σ = M' ∧ v = some (.inl (sReason σ k lane row))) := by
  refine zEnter (by decide +kernel) rfl (Nat.le_of_ble_eq_true rfl) ?_
  have hI := hA.1
  have hs9 := hI.1
  unfold zIs at hs9
  refine z_aload_n dX5_reason_0 rfl ?_
  refine z_iload_n dX5_reason_1 rfl ?_
  refine z_callV mX5_isSnail (vX5_isSnail (by omega) hI) rfl dX5_reason_2 kX5_63 (by decide) rfl (by show _ ≤ 8; simp) (by decide) zsh187 (by decide) rfl (fun v2 M2 q2 => ?_)
  obtain ⟨rfl, b2, rfl, h2⟩ := q2
  try simp only [zpush]
  refine z_if_eq (tgt := 16) dX5_reason_5 (by decide) (by omega) (fun c5 => ?_) (fun c5 => ?_)
  · refine z_iconst dX5_reason_16 ?_
    refine z_goto (tgt := 30) dX5_reason_17 (by decide) ?_
    refine z_iret dX5_reason_30 rfl ?_
    refine ⟨rfl, ?_⟩
    unfold sReason
    congr 2
    repeat' split
    all_goals first | rfl | omega
  · refine z_iload_n dX5_reason_8 rfl ?_
    refine z_iload_n dX5_reason_9 rfl ?_
    refine z_callS mX5_isCell (vX5_isCell (by omega) (by omega)) rfl dX5_reason_10 kX5_66 (by decide) rfl (by show _ ≤ 8; simp) (fun v10 M10 q10 => ?_)
    obtain ⟨rfl, b10, rfl, h10⟩ := q10
    try simp only [zpush]
    refine z_if_ne (tgt := 20) dX5_reason_13 (by decide) (by omega) (fun c13 => ?_) (fun c13 => ?_)
    · refine z_aload_n dX5_reason_20 rfl ?_
      refine z_iload_n dX5_reason_21 rfl ?_
      refine z_iload_n dX5_reason_22 rfl ?_
      refine z_iload_n dX5_reason_23 rfl ?_
      refine z_callS mX5_at vX5_at rfl dX5_reason_24 kX5_70 (by decide) rfl (by show _ ≤ 8; simp) (fun v24 M24 q24 => ?_)
      obtain ⟨rfl, rfl⟩ := q24
      try simp only [zpush]
      refine z_callV mX5_why (vX5_why hI (by omega) (by omega)) rfl dX5_reason_27 kX5_90 (by decide) rfl (by show _ ≤ 8; simp) (by decide) zsh187 (by decide) rfl (fun v27 M27 q27 => ?_)
      obtain ⟨rfl, rfl⟩ := q27
      try simp only [zpush]
      refine z_iret dX5_reason_30 rfl ?_
      refine ⟨rfl, ?_⟩
      unfold sReason
      congr 2
      repeat' split
      all_goals first | rfl | omega
    · refine z_iconst dX5_reason_16 ?_
      refine z_goto (tgt := 30) dX5_reason_17 (by decide) ?_
      refine z_iret dX5_reason_30 rfl ?_
      refine ⟨rfl, ?_⟩
      unfold sReason
      congr 2
      repeat' split
      all_goals first | rfl | omega

theorem vX5_owes {G : zG} {M : zM} {σ : zS} {k ow : Int} (hk : -2147483648 ≤ k ∧ k < 2147483648) (how : -2147483648 ≤ ow ∧ ow < 2147483648) (hA : zA σ) : zCall G yX5_owes YX5_owes [.inr (some 187), .inl k, .inl ow] (zt M σ) (fun v M' => zt M σ = M' ∧ v = some (.inl (sOwes σ k ow))) := by
  refine zEnter (by decide +kernel) rfl (Nat.le_of_ble_eq_true rfl) ?_
  have hI := hA.1
  have hs9 := hI.1
  unfold zIs at hs9
  refine z_aload_n dX5_owes_0 rfl ?_
  refine z_iload_n dX5_owes_1 rfl ?_
  refine z_callV mX5_isSnail (vX5_isSnail (by omega) hI) rfl dX5_owes_2 kX5_63 (by decide) rfl (by show _ ≤ 8; simp) (by decide) zsh187 (by decide) rfl (fun v2 M2 q2 => ?_)
  obtain ⟨rfl, b2, rfl, h2⟩ := q2
  try simp only [zpush]
  refine z_if_eq (tgt := 16) dX5_owes_5 (by decide) (by omega) (fun c5 => ?_) (fun c5 => ?_)
  · refine z_iconst dX5_owes_16 ?_
    refine z_goto (tgt := 45) dX5_owes_17 (by decide) ?_
    refine z_iret dX5_owes_45 rfl ?_
    refine ⟨rfl, ?_⟩
    unfold sOwes
    congr 2
    repeat' split
    all_goals first | rfl | omega
  · refine z_aload_n dX5_owes_8 rfl ?_
    refine z_iload_n dX5_owes_9 rfl ?_
    refine z_callV mX5_isSnail (vX5_isSnail (by omega) hI) rfl dX5_owes_10 kX5_63 (by decide) rfl (by show _ ≤ 8; simp) (by decide) zsh187 (by decide) rfl (fun v10 M10 q10 => ?_)
    obtain ⟨rfl, b10, rfl, h10⟩ := q10
    try simp only [zpush]
    refine z_if_ne (tgt := 20) dX5_owes_13 (by decide) (by omega) (fun c13 => ?_) (fun c13 => ?_)
    · refine z_iload_n dX5_owes_20 rfl ?_
      refine z_iload_n dX5_owes_21 rfl ?_
      refine z_icmp_ne (tgt := 30) dX5_owes_22 (by decide) (by omega) (by omega) (fun c22 => ?_) (fun c22 => ?_)
      · refine z_aload_n dX5_owes_30 rfl ?_
        refine z_getR (b := 188) dX5_owes_31 fX5_7 (by decide) zsh187 rfl rfl ?_
        refine z_sipush dX5_owes_34 (by decide) ?_
        refine z_bipush dX5_owes_37 (by decide) ?_
        refine z_iload_n dX5_owes_39 rfl ?_
        refine z_imul dX5_owes_40 ?_
        refine z_iadd dX5_owes_41 ?_
        refine z_iload_n dX5_owes_42 rfl ?_
        refine z_iadd dX5_owes_43 ?_
        refine z_sload dX5_owes_44 (by omega) ?_
        refine z_iret dX5_owes_45 rfl ?_
        refine ⟨rfl, ?_⟩
        unfold sOwes
        congr 2
        repeat' split
        all_goals first | rfl | omega
      · refine z_bipush dX5_owes_25 (by decide) ?_
        refine z_goto (tgt := 45) dX5_owes_27 (by decide) ?_
        refine z_iret dX5_owes_45 rfl ?_
        refine ⟨rfl, ?_⟩
        unfold sOwes
        congr 2
        repeat' split
        all_goals first | rfl | omega
    · refine z_iconst dX5_owes_16 ?_
      refine z_goto (tgt := 45) dX5_owes_17 (by decide) ?_
      refine z_iret dX5_owes_45 rfl ?_
      refine ⟨rfl, ?_⟩
      unfold sOwes
      congr 2
      repeat' split
      all_goals first | rfl | omega

theorem vX5_leader {G : zG} {M : zM} {σ : zS} (hA : zA σ) : zCall G yX5_leader YX5_leader [.inr (some 187)] (zt M σ) (fun v M' => zt M σ = M' ∧ v = some (.inl (sLead σ))) := by
  refine zEnter (by decide +kernel) rfl (Nat.le_of_ble_eq_true rfl) ?_
  have hI := hA.1
  have hs9 := hI.1
  unfold zIs at hs9
  refine z_bipush dX5_leader_0 (by decide) ?_
  refine z_istore_n dX5_leader_2 (by decide) ?_
  refine z_iconst dX5_leader_3 ?_
  refine z_istore_n dX5_leader_4 (by decide) ?_
  have L : ∀ (n : Nat) (k : Int) (f : Int), (0 ≤ k ∧ k ≤ σ 535) → (k + n = σ 535 + 1) → (f = -5 ∨ (0 ≤ f ∧ f < σ 535)) → (zfor (sLeadF σ) k (σ 535) f = sLead σ) → zW G YX5_leader (fun v M' => zt M σ = M' ∧ v = some (.inl (sLead σ))) 5 [(2, .inl k), (1, .inl f), (0, .inr (some 187))] [] (zt M σ) := by
    intro n
    induction n with
    | zero => intro k f hc hcn hf he; exfalso; omega
    | succ n ih =>
      intro k f hc hcn hf he
      refine z_iload_n dX5_leader_5 rfl ?_
      refine z_aload_n dX5_leader_6 rfl ?_
      refine z_getR (b := 188) dX5_leader_7 fX5_7 (by decide) zsh187 rfl rfl ?_
      refine z_sipush dX5_leader_10 (by decide) ?_
      refine z_sload dX5_leader_13 (by omega) ?_
      refine z_icmp_ge (tgt := 115) dX5_leader_14 (by decide) (by omega) (by omega) (fun c14 => ?_) (fun c14 => ?_)
      · rw [zfor_end (by omega)] at he
        refine z_iload_n dX5_leader_115 rfl ?_
        refine z_iret dX5_leader_116 rfl ?_
        exact ⟨rfl, by rw [he]⟩
      · have hk9 := hI.2.2 k (by omega) (by omega)
        unfold zIk at hk9
        have hf9 : f = -5 ∨ zIk σ f := hf.elim Or.inl (fun q => Or.inr (hI.2.2 f q.1 (by omega)))
        unfold zIk at hf9
        rw [zfor_step (by omega)] at he
        refine z_iload_n dX5_leader_17 rfl ?_
        refine z_bipush dX5_leader_18 (by decide) ?_
        refine z_icmp_ne (tgt := 27) dX5_leader_20 (by decide) (by omega) (by omega) (fun c20 => ?_) (fun c20 => ?_)
        · refine z_aload_n dX5_leader_27 rfl ?_
          refine z_getR (b := 188) dX5_leader_28 fX5_7 (by decide) zsh187 rfl rfl ?_
          refine z_iload_n dX5_leader_31 rfl ?_
          refine z_iconst dX5_leader_32 ?_
          refine z_callS mX5_of vX5_of rfl dX5_leader_33 kX5_40 (by decide) rfl (by show _ ≤ 8; simp) (fun v33 M33 q33 => ?_)
          obtain ⟨rfl, rfl⟩ := q33
          try simp only [zpush]
          refine z_sload dX5_leader_36 (by omega) ?_
          refine z_aload_n dX5_leader_37 rfl ?_
          refine z_getR (b := 188) dX5_leader_38 fX5_7 (by decide) zsh187 rfl rfl ?_
          refine z_iload_n dX5_leader_41 rfl ?_
          refine z_iconst dX5_leader_42 ?_
          refine z_callS mX5_of vX5_of rfl dX5_leader_43 kX5_40 (by decide) rfl (by show _ ≤ 8; simp) (fun v43 M43 q43 => ?_)
          obtain ⟨rfl, rfl⟩ := q43
          try simp only [zpush]
          refine z_sload dX5_leader_46 (by omega) ?_
          refine z_isub dX5_leader_47 ?_
          refine z_istore_n dX5_leader_48 (by decide) ?_
          refine z_iload_n dX5_leader_49 rfl ?_
          refine z_bipush dX5_leader_50 (by decide) ?_
          refine z_icmp_ne (tgt := 59) dX5_leader_52 (by decide) (by omega) (by omega) (fun c52 => ?_) (fun c52 => ?_)
          · refine z_aload_n dX5_leader_59 rfl ?_
            refine z_getR (b := 188) dX5_leader_60 fX5_7 (by decide) zsh187 rfl rfl ?_
            refine z_iload_n dX5_leader_63 rfl ?_
            refine z_iconst dX5_leader_64 ?_
            refine z_callS mX5_of vX5_of rfl dX5_leader_65 kX5_40 (by decide) rfl (by show _ ≤ 8; simp) (fun v65 M65 q65 => ?_)
            obtain ⟨rfl, rfl⟩ := q65
            try simp only [zpush]
            refine z_sload dX5_leader_68 (by omega) ?_
            refine z_aload_n dX5_leader_69 rfl ?_
            refine z_getR (b := 188) dX5_leader_70 fX5_7 (by decide) zsh187 rfl rfl ?_
            refine z_iload_n dX5_leader_73 rfl ?_
            refine z_iconst dX5_leader_74 ?_
            refine z_callS mX5_of vX5_of rfl dX5_leader_75 kX5_40 (by decide) rfl (by show _ ≤ 8; simp) (fun v75 M75 q75 => ?_)
            obtain ⟨rfl, rfl⟩ := q75
            try simp only [zpush]
            refine z_sload dX5_leader_78 (by omega) ?_
            refine z_isub dX5_leader_79 ?_
            refine z_istore dX5_leader_80 (by decide) ?_
            refine z_aload_n dX5_leader_82 rfl ?_
            refine z_iload_n dX5_leader_83 rfl ?_
            refine z_callV mX5_creeps (vX5_creeps (by omega) hI) rfl dX5_leader_84 kX5_48 (by decide) rfl (by show _ ≤ 8; simp) (by decide) zsh187 (by decide) rfl (fun v84 M84 q84 => ?_)
            obtain ⟨rfl, b84, rfl, h84⟩ := q84
            try simp only [zpush]
            refine z_if_eq (tgt := 107) dX5_leader_87 (by decide) (by omega) (fun c87 => ?_) (fun c87 => ?_)
            · refine z_iload_n dX5_leader_107 rfl ?_
              refine z_istore_n dX5_leader_108 (by decide) ?_
              refine z_iinc dX5_leader_109 rfl (by decide) ?_
              refine z_goto (tgt := 5) dX5_leader_112 (by decide) ?_
              refine zsub' (ih (k + 1) _ (by omega) (by omega) ?_ ?_) ⟨rfl, rfl, rfl, trivial⟩
              · omega
              · (rw [← he]; congr 1; unfold sLeadF; split <;> first | rfl | omega)
            · refine z_iload_n dX5_leader_90 rfl ?_
              refine z_if_gt (tgt := 103) dX5_leader_91 (by decide) (by omega) (fun c91 => ?_) (fun c91 => ?_)
              · refine z_iload_n dX5_leader_103 rfl ?_
                refine z_goto (tgt := 108) dX5_leader_104 (by decide) ?_
                refine z_istore_n dX5_leader_108 (by decide) ?_
                refine z_iinc dX5_leader_109 rfl (by decide) ?_
                refine z_goto (tgt := 5) dX5_leader_112 (by decide) ?_
                refine zsub' (ih (k + 1) _ (by omega) (by omega) ?_ ?_) ⟨rfl, rfl, rfl, trivial⟩
                · omega
                · (rw [← he]; congr 1; unfold sLeadF; split <;> first | rfl | omega)
              · refine z_iload_n dX5_leader_94 rfl ?_
                refine z_if_ne (tgt := 107) dX5_leader_95 (by decide) (by omega) (fun c95 => ?_) (fun c95 => ?_)
                · refine z_iload_n dX5_leader_107 rfl ?_
                  refine z_istore_n dX5_leader_108 (by decide) ?_
                  refine z_iinc dX5_leader_109 rfl (by decide) ?_
                  refine z_goto (tgt := 5) dX5_leader_112 (by decide) ?_
                  refine zsub' (ih (k + 1) _ (by omega) (by omega) ?_ ?_) ⟨rfl, rfl, rfl, trivial⟩
                  · omega
                  · (rw [← he]; congr 1; unfold sLeadF; split <;> first | rfl | omega)
                · refine z_iload dX5_leader_98 rfl ?_
                  refine z_if_le (tgt := 107) dX5_leader_100 (by decide) (by omega) (fun c100 => ?_) (fun c100 => ?_)
                  · refine z_iload_n dX5_leader_107 rfl ?_
                    refine z_istore_n dX5_leader_108 (by decide) ?_
                    refine z_iinc dX5_leader_109 rfl (by decide) ?_
                    refine z_goto (tgt := 5) dX5_leader_112 (by decide) ?_
                    refine zsub' (ih (k + 1) _ (by omega) (by omega) ?_ ?_) ⟨rfl, rfl, rfl, trivial⟩
                    · omega
                    · (rw [← he]; congr 1; unfold sLeadF; split <;> first | rfl | omega)
                  · refine z_iload_n dX5_leader_103 rfl ?_
                    refine z_goto (tgt := 108) dX5_leader_104 (by decide) ?_
                    refine z_istore_n dX5_leader_108 (by decide) ?_
                    refine z_iinc dX5_leader_109 rfl (by decide) ?_
                    refine z_goto (tgt := 5) dX5_leader_112 (by decide) ?_
                    refine zsub' (ih (k + 1) _ (by omega) (by omega) ?_ ?_) ⟨rfl, rfl, rfl, trivial⟩
                    · omega
                    · (rw [← he]; congr 1; unfold sLeadF; split <;> first | rfl | omega)
          · refine z_iconst dX5_leader_55 ?_
            refine z_goto (tgt := 80) dX5_leader_56 (by decide) ?_
            refine z_istore dX5_leader_80 (by decide) ?_
            refine z_aload_n dX5_leader_82 rfl ?_
            refine z_iload_n dX5_leader_83 rfl ?_
            refine z_callV mX5_creeps (vX5_creeps (by omega) hI) rfl dX5_leader_84 kX5_48 (by decide) rfl (by show _ ≤ 8; simp) (by decide) zsh187 (by decide) rfl (fun v84 M84 q84 => ?_)
            obtain ⟨rfl, b84, rfl, h84⟩ := q84
            try simp only [zpush]
            refine z_if_eq (tgt := 107) dX5_leader_87 (by decide) (by omega) (fun c87 => ?_) (fun c87 => ?_)
            · refine z_iload_n dX5_leader_107 rfl ?_
              refine z_istore_n dX5_leader_108 (by decide) ?_
              refine z_iinc dX5_leader_109 rfl (by decide) ?_
              refine z_goto (tgt := 5) dX5_leader_112 (by decide) ?_
              refine zsub' (ih (k + 1) _ (by omega) (by omega) ?_ ?_) ⟨rfl, rfl, rfl, trivial⟩
              · omega
              · (rw [← he]; congr 1; unfold sLeadF; split <;> first | rfl | omega)
            · refine z_iload_n dX5_leader_90 rfl ?_
              refine z_if_gt (tgt := 103) dX5_leader_91 (by decide) (by omega) (fun c91 => ?_) (fun c91 => ?_)
              · refine z_iload_n dX5_leader_103 rfl ?_
                refine z_goto (tgt := 108) dX5_leader_104 (by decide) ?_
                refine z_istore_n dX5_leader_108 (by decide) ?_
                refine z_iinc dX5_leader_109 rfl (by decide) ?_
                refine z_goto (tgt := 5) dX5_leader_112 (by decide) ?_
                refine zsub' (ih (k + 1) _ (by omega) (by omega) ?_ ?_) ⟨rfl, rfl, rfl, trivial⟩
                · omega
                · (rw [← he]; congr 1; unfold sLeadF; split <;> first | rfl | omega)
              · refine z_iload_n dX5_leader_94 rfl ?_
                refine z_if_ne (tgt := 107) dX5_leader_95 (by decide) (by omega) (fun c95 => ?_) (fun c95 => ?_)
                · refine z_iload_n dX5_leader_107 rfl ?_
                  refine z_istore_n dX5_leader_108 (by decide) ?_
                  refine z_iinc dX5_leader_109 rfl (by decide) ?_
                  refine z_goto (tgt := 5) dX5_leader_112 (by decide) ?_
                  refine zsub' (ih (k + 1) _ (by omega) (by omega) ?_ ?_) ⟨rfl, rfl, rfl, trivial⟩
                  · omega
                  · (rw [← he]; congr 1; unfold sLeadF; split <;> first | rfl | omega)
                · refine z_iload dX5_leader_98 rfl ?_
                  refine z_if_le (tgt := 107) dX5_leader_100 (by decide) (by decide) (fun h => absurd h (by decide)) (fun _ => ?_)
                  refine z_iload_n dX5_leader_103 rfl ?_
                  refine z_goto (tgt := 108) dX5_leader_104 (by decide) ?_
                  refine z_istore_n dX5_leader_108 (by decide) ?_
                  refine z_iinc dX5_leader_109 rfl (by decide) ?_
                  refine z_goto (tgt := 5) dX5_leader_112 (by decide) ?_
                  refine zsub' (ih (k + 1) _ (by omega) (by omega) ?_ ?_) ⟨rfl, rfl, rfl, trivial⟩
                  · omega
                  · (rw [← he]; congr 1; unfold sLeadF; split <;> first | rfl | omega)
        · refine z_iconst dX5_leader_23 ?_
          refine z_goto (tgt := 48) dX5_leader_24 (by decide) ?_
          refine z_istore_n dX5_leader_48 (by decide) ?_
          refine z_iload_n dX5_leader_49 rfl ?_
          refine z_bipush dX5_leader_50 (by decide) ?_
          refine z_icmp_ne (tgt := 59) dX5_leader_52 (by decide) (by omega) (by omega) (fun c52 => ?_) (fun c52 => ?_)
          · refine z_aload_n dX5_leader_59 rfl ?_
            refine z_getR (b := 188) dX5_leader_60 fX5_7 (by decide) zsh187 rfl rfl ?_
            refine z_iload_n dX5_leader_63 rfl ?_
            refine z_iconst dX5_leader_64 ?_
            refine z_callS mX5_of vX5_of rfl dX5_leader_65 kX5_40 (by decide) rfl (by show _ ≤ 8; simp) (fun v65 M65 q65 => ?_)
            obtain ⟨rfl, rfl⟩ := q65
            try simp only [zpush]
            refine z_sload dX5_leader_68 (by omega) ?_
            refine z_aload_n dX5_leader_69 rfl ?_
            refine z_getR (b := 188) dX5_leader_70 fX5_7 (by decide) zsh187 rfl rfl ?_
            refine z_iload_n dX5_leader_73 rfl ?_
            refine z_iconst dX5_leader_74 ?_
            refine z_callS mX5_of vX5_of rfl dX5_leader_75 kX5_40 (by decide) rfl (by show _ ≤ 8; simp) (fun v75 M75 q75 => ?_)
            obtain ⟨rfl, rfl⟩ := q75
            try simp only [zpush]
            refine z_sload dX5_leader_78 (by omega) ?_
            refine z_isub dX5_leader_79 ?_
            refine z_istore dX5_leader_80 (by decide) ?_
            refine z_aload_n dX5_leader_82 rfl ?_
            refine z_iload_n dX5_leader_83 rfl ?_
            refine z_callV mX5_creeps (vX5_creeps (by omega) hI) rfl dX5_leader_84 kX5_48 (by decide) rfl (by show _ ≤ 8; simp) (by decide) zsh187 (by decide) rfl (fun v84 M84 q84 => ?_)
            obtain ⟨rfl, b84, rfl, h84⟩ := q84
            try simp only [zpush]
            refine z_if_eq (tgt := 107) dX5_leader_87 (by decide) (by omega) (fun c87 => ?_) (fun c87 => ?_)
            · refine z_iload_n dX5_leader_107 rfl ?_
              refine z_istore_n dX5_leader_108 (by decide) ?_
              refine z_iinc dX5_leader_109 rfl (by decide) ?_
              refine z_goto (tgt := 5) dX5_leader_112 (by decide) ?_
              refine zsub' (ih (k + 1) _ (by omega) (by omega) ?_ ?_) ⟨rfl, rfl, rfl, trivial⟩
              · omega
              · (rw [← he]; congr 1; unfold sLeadF; split <;> first | rfl | omega)
            · refine z_iload_n dX5_leader_90 rfl ?_
              refine z_if_gt (tgt := 103) dX5_leader_91 (by decide) (by decide) (fun _ => ?_) (fun h => absurd h (by decide))
              refine z_iload_n dX5_leader_103 rfl ?_
              refine z_goto (tgt := 108) dX5_leader_104 (by decide) ?_
              refine z_istore_n dX5_leader_108 (by decide) ?_
              refine z_iinc dX5_leader_109 rfl (by decide) ?_
              refine z_goto (tgt := 5) dX5_leader_112 (by decide) ?_
              refine zsub' (ih (k + 1) _ (by omega) (by omega) ?_ ?_) ⟨rfl, rfl, rfl, trivial⟩
              · omega
              · (rw [← he]; congr 1; unfold sLeadF; split <;> first | rfl | omega)
          · refine z_iconst dX5_leader_55 ?_
            refine z_goto (tgt := 80) dX5_leader_56 (by decide) ?_
            refine z_istore dX5_leader_80 (by decide) ?_
            refine z_aload_n dX5_leader_82 rfl ?_
            refine z_iload_n dX5_leader_83 rfl ?_
            refine z_callV mX5_creeps (vX5_creeps (by omega) hI) rfl dX5_leader_84 kX5_48 (by decide) rfl (by show _ ≤ 8; simp) (by decide) zsh187 (by decide) rfl (fun v84 M84 q84 => ?_)
            obtain ⟨rfl, b84, rfl, h84⟩ := q84
            try simp only [zpush]
            refine z_if_eq (tgt := 107) dX5_leader_87 (by decide) (by omega) (fun c87 => ?_) (fun c87 => ?_)
            · refine z_iload_n dX5_leader_107 rfl ?_
              refine z_istore_n dX5_leader_108 (by decide) ?_
              refine z_iinc dX5_leader_109 rfl (by decide) ?_
              refine z_goto (tgt := 5) dX5_leader_112 (by decide) ?_
              refine zsub' (ih (k + 1) _ (by omega) (by omega) ?_ ?_) ⟨rfl, rfl, rfl, trivial⟩
              · omega
              · (rw [← he]; congr 1; unfold sLeadF; split <;> first | rfl | omega)
            · refine z_iload_n dX5_leader_90 rfl ?_
              refine z_if_gt (tgt := 103) dX5_leader_91 (by decide) (by decide) (fun _ => ?_) (fun h => absurd h (by decide))
              refine z_iload_n dX5_leader_103 rfl ?_
              refine z_goto (tgt := 108) dX5_leader_104 (by decide) ?_
              refine z_istore_n dX5_leader_108 (by decide) ?_
              refine z_iinc dX5_leader_109 rfl (by decide) ?_
              refine z_goto (tgt := 5) dX5_leader_112 (by decide) ?_
              refine zsub' (ih (k + 1) _ (by omega) (by omega) ?_ ?_) ⟨rfl, rfl, rfl, trivial⟩
              · omega
              · (rw [← he]; congr 1; unfold sLeadF; split <;> first | rfl | omega)
  exact zsub' (L (σ 535 + 1).toNat 0 (-5) (by omega) (by omega) (by omega) rfl) ⟨rfl, rfl, rfl, trivial⟩

theorem vX5_inState {G : zG} {M : zM} {σ : zS} {w : Int} (hw : 0 ≤ w ∧ w ≤ 2) (hA : zA σ) : zCall G yX5_inState YX5_inState [.inr (some 187), .inl w] (zt M σ) (fun v M' => zt M σ = M' ∧ v = some (.inl (sIn σ w))) := by
  refine zEnter (by decide +kernel) rfl (Nat.le_of_ble_eq_true rfl) ?_
  have hI := hA.1
  have hs9 := hI.1
  unfold zIs at hs9
  refine z_iconst dX5_inState_0 ?_
  refine z_istore_n dX5_inState_1 (by decide) ?_
  refine z_iconst dX5_inState_2 ?_
  refine z_istore_n dX5_inState_3 (by decide) ?_
  have L : ∀ (n : Nat) (c : Int) (x : Int), (0 ≤ c ∧ c ≤ σ 535) → (c + n = σ 535 + 1) → (zfor (fun k n => n + if σ (360 + 10 * k + 3) = w then 1 else 0) c (σ 535) x = sIn σ w) → zW G YX5_inState (fun v M' => zt M σ = M' ∧ v = some (.inl (sIn σ w))) 4 [(3, .inl c), (2, .inl x), (0, .inr (some 187)), (1, .inl w)] [] (zt M σ) := by
    intro n
    induction n with
    | zero => intro c x hc hcn he; exfalso; omega
    | succ n ih =>
      intro c x hc hcn he
      refine z_iload_n dX5_inState_4 rfl ?_
      refine z_aload_n dX5_inState_5 rfl ?_
      refine z_getR (b := 188) dX5_inState_6 fX5_7 (by decide) zsh187 rfl rfl ?_
      refine z_sipush dX5_inState_9 (by decide) ?_
      refine z_sload dX5_inState_12 (by omega) ?_
      refine z_icmp_ge (tgt := 44) dX5_inState_13 (by decide) (by omega) (by omega) (fun c13 => ?_) (fun c13 => ?_)
      · rw [zfor_end (by omega)] at he
        refine z_iload_n dX5_inState_44 rfl ?_
        refine z_iret dX5_inState_45 rfl ?_
        exact ⟨rfl, by rw [he]⟩
      · have hk9 := hI.2.2 c (by omega) (by omega)
        unfold zIk at hk9
        refine z_iload_n dX5_inState_16 rfl ?_
        refine z_aload_n dX5_inState_17 rfl ?_
        refine z_getR (b := 188) dX5_inState_18 fX5_7 (by decide) zsh187 rfl rfl ?_
        refine z_iload_n dX5_inState_21 rfl ?_
        refine z_iconst dX5_inState_22 ?_
        refine z_callS mX5_of vX5_of rfl dX5_inState_23 kX5_40 (by decide) rfl (by show _ ≤ 8; simp) (fun v23 M23 q23 => ?_)
        obtain ⟨rfl, rfl⟩ := q23
        try simp only [zpush]
        refine z_sload dX5_inState_26 (by omega) ?_
        refine z_iload_n dX5_inState_27 rfl ?_
        refine z_icmp_ne (tgt := 35) dX5_inState_28 (by decide) (by omega) (by omega) (fun c28 => ?_) (fun c28 => ?_)
        · refine z_iconst dX5_inState_35 ?_
          refine z_iadd dX5_inState_36 ?_
          refine z_istore_n dX5_inState_37 (by decide) ?_
          refine z_iinc dX5_inState_38 rfl (by decide) ?_
          refine z_goto (tgt := 4) dX5_inState_41 (by decide) ?_
          rw [zfor_step (by omega)] at he
          first | (rw [if_pos (by omega)] at he; exact zsub' (ih (c + 1) _ (by omega) (by omega) he) ⟨rfl, rfl, rfl, rfl, trivial⟩) | (rw [if_neg (by omega)] at he; exact zsub' (ih (c + 1) _ (by omega) (by omega) he) ⟨rfl, rfl, rfl, rfl, trivial⟩) | exact zsub' (ih (c + 1) _ (by omega) (by omega) he) ⟨rfl, rfl, rfl, rfl, trivial⟩
        · refine z_iconst dX5_inState_31 ?_
          refine z_goto (tgt := 36) dX5_inState_32 (by decide) ?_
          refine z_iadd dX5_inState_36 ?_
          refine z_istore_n dX5_inState_37 (by decide) ?_
          refine z_iinc dX5_inState_38 rfl (by decide) ?_
          refine z_goto (tgt := 4) dX5_inState_41 (by decide) ?_
          rw [zfor_step (by omega)] at he
          first | (rw [if_pos (by omega)] at he; exact zsub' (ih (c + 1) _ (by omega) (by omega) he) ⟨rfl, rfl, rfl, rfl, trivial⟩) | (rw [if_neg (by omega)] at he; exact zsub' (ih (c + 1) _ (by omega) (by omega) he) ⟨rfl, rfl, rfl, rfl, trivial⟩) | exact zsub' (ih (c + 1) _ (by omega) (by omega) he) ⟨rfl, rfl, rfl, rfl, trivial⟩
  exact zsub' (L (σ 535 + 1).toNat 0 0 (by omega) (by omega) rfl) ⟨rfl, rfl, rfl, rfl, trivial⟩

theorem vX5_ofAll {G : zG} {M : zM} {σ : zS} {w : Int} (hw : 0 ≤ w ∧ w ≤ 9) (hA : zA σ) : zCall G yX5_ofAll YX5_ofAll [.inr (some 187), .inl w] (zt M σ) (fun v M' => zt M σ = M' ∧ v = some (.inl (sOf σ w))) := by
  refine zEnter (by decide +kernel) rfl (Nat.le_of_ble_eq_true rfl) ?_
  have hI := hA.1
  have hs9 := hI.1
  unfold zIs at hs9
  refine z_iconst dX5_ofAll_0 ?_
  refine z_istore_n dX5_ofAll_1 (by decide) ?_
  refine z_iconst dX5_ofAll_2 ?_
  refine z_istore_n dX5_ofAll_3 (by decide) ?_
  have L : ∀ (n : Nat) (c : Int) (x : Int), (0 ≤ c ∧ c ≤ σ 535) → (c + n = σ 535 + 1) → (zfor (fun k n => n + σ (360 + 10 * k + w)) c (σ 535) x = sOf σ w) → zW G YX5_ofAll (fun v M' => zt M σ = M' ∧ v = some (.inl (sOf σ w))) 4 [(3, .inl c), (2, .inl x), (0, .inr (some 187)), (1, .inl w)] [] (zt M σ) := by
    intro n
    induction n with
    | zero => intro c x hc hcn he; exfalso; omega
    | succ n ih =>
      intro c x hc hcn he
      refine z_iload_n dX5_ofAll_4 rfl ?_
      refine z_aload_n dX5_ofAll_5 rfl ?_
      refine z_getR (b := 188) dX5_ofAll_6 fX5_7 (by decide) zsh187 rfl rfl ?_
      refine z_sipush dX5_ofAll_9 (by decide) ?_
      refine z_sload dX5_ofAll_12 (by omega) ?_
      refine z_icmp_ge (tgt := 35) dX5_ofAll_13 (by decide) (by omega) (by omega) (fun c13 => ?_) (fun c13 => ?_)
      · rw [zfor_end (by omega)] at he
        refine z_iload_n dX5_ofAll_35 rfl ?_
        refine z_iret dX5_ofAll_36 rfl ?_
        exact ⟨rfl, by rw [he]⟩
      · have hk9 := hI.2.2 c (by omega) (by omega)
        unfold zIk at hk9
        refine z_iload_n dX5_ofAll_16 rfl ?_
        refine z_aload_n dX5_ofAll_17 rfl ?_
        refine z_getR (b := 188) dX5_ofAll_18 fX5_7 (by decide) zsh187 rfl rfl ?_
        refine z_iload_n dX5_ofAll_21 rfl ?_
        refine z_iload_n dX5_ofAll_22 rfl ?_
        refine z_callS mX5_of vX5_of rfl dX5_ofAll_23 kX5_40 (by decide) rfl (by show _ ≤ 8; simp) (fun v23 M23 q23 => ?_)
        obtain ⟨rfl, rfl⟩ := q23
        try simp only [zpush]
        refine z_sload dX5_ofAll_26 (by omega) ?_
        refine z_iadd dX5_ofAll_27 ?_
        refine z_istore_n dX5_ofAll_28 (by decide) ?_
        refine z_iinc dX5_ofAll_29 rfl (by decide) ?_
        refine z_goto (tgt := 4) dX5_ofAll_32 (by decide) ?_
        rw [zfor_step (by omega)] at he
        first | (rw [if_pos (by omega)] at he; exact zsub' (ih (c + 1) _ (by omega) (by omega) he) ⟨rfl, rfl, rfl, rfl, trivial⟩) | (rw [if_neg (by omega)] at he; exact zsub' (ih (c + 1) _ (by omega) (by omega) he) ⟨rfl, rfl, rfl, rfl, trivial⟩) | exact zsub' (ih (c + 1) _ (by omega) (by omega) he) ⟨rfl, rfl, rfl, rfl, trivial⟩
  exact zsub' (L (σ 535 + 1).toNat 0 0 (by omega) (by omega) rfl) ⟨rfl, rfl, rfl, rfl, trivial⟩

theorem vX5_trails {G : zG} {M : zM} {σ : zS} (hA : zA σ) : zCall G yX5_trails YX5_trails [.inr (some 187)] (zt M σ) (fun v M' => zt M σ = M' ∧ v = some (.inl (sTrl σ))) := by
  refine zEnter (by decide +kernel) rfl (Nat.le_of_ble_eq_true rfl) ?_
  have hI := hA.1
  have hs9 := hI.1
  unfold zIs at hs9
  refine z_iconst dX5_trails_0 ?_
  refine z_istore_n dX5_trails_1 (by decide) ?_
  refine z_iconst dX5_trails_2 ?_
  refine z_istore_n dX5_trails_3 (by decide) ?_
  have L : ∀ (n : Nat) (c : Int) (x : Int), (0 ≤ c ∧ c ≤ (120 : Int)) → (c + n = (120 : Int) + 1) → (zfor (fun c n => n + if σ (120 + c) > 0 then 1 else 0) c ((120 : Int)) x = sTrl σ) → zW G YX5_trails (fun v M' => zt M σ = M' ∧ v = some (.inl (sTrl σ))) 4 [(2, .inl c), (1, .inl x), (0, .inr (some 187))] [] (zt M σ) := by
    intro n
    induction n with
    | zero => intro c x hc hcn he; exfalso; omega
    | succ n ih =>
      intro c x hc hcn he
      refine z_iload_n dX5_trails_4 rfl ?_
      refine z_bipush dX5_trails_5 (by decide) ?_
      refine z_icmp_ge (tgt := 36) dX5_trails_7 (by decide) (by omega) (by omega) (fun c7 => ?_) (fun c7 => ?_)
      · rw [zfor_end (by omega)] at he
        refine z_iload_n dX5_trails_36 rfl ?_
        refine z_iret dX5_trails_37 rfl ?_
        exact ⟨rfl, by rw [he]⟩
      · have hc9 := hI.2.1 c (by omega) (by omega)
        unfold zIc at hc9
        refine z_iload_n dX5_trails_10 rfl ?_
        refine z_aload_n dX5_trails_11 rfl ?_
        refine z_getR (b := 188) dX5_trails_12 fX5_7 (by decide) zsh187 rfl rfl ?_
        refine z_bipush dX5_trails_15 (by decide) ?_
        refine z_iload_n dX5_trails_17 rfl ?_
        refine z_iadd dX5_trails_18 ?_
        refine z_sload dX5_trails_19 (by omega) ?_
        refine z_if_le (tgt := 27) dX5_trails_20 (by decide) (by omega) (fun c20 => ?_) (fun c20 => ?_)
        · refine z_iconst dX5_trails_27 ?_
          refine z_iadd dX5_trails_28 ?_
          refine z_istore_n dX5_trails_29 (by decide) ?_
          refine z_iinc dX5_trails_30 rfl (by decide) ?_
          refine z_goto (tgt := 4) dX5_trails_33 (by decide) ?_
          rw [zfor_step (by omega)] at he
          first | (rw [if_pos (by omega)] at he; exact zsub' (ih (c + 1) _ (by omega) (by omega) he) ⟨rfl, rfl, rfl, trivial⟩) | (rw [if_neg (by omega)] at he; exact zsub' (ih (c + 1) _ (by omega) (by omega) he) ⟨rfl, rfl, rfl, trivial⟩) | exact zsub' (ih (c + 1) _ (by omega) (by omega) he) ⟨rfl, rfl, rfl, trivial⟩
        · refine z_iconst dX5_trails_23 ?_
          refine z_goto (tgt := 28) dX5_trails_24 (by decide) ?_
          refine z_iadd dX5_trails_28 ?_
          refine z_istore_n dX5_trails_29 (by decide) ?_
          refine z_iinc dX5_trails_30 rfl (by decide) ?_
          refine z_goto (tgt := 4) dX5_trails_33 (by decide) ?_
          rw [zfor_step (by omega)] at he
          first | (rw [if_pos (by omega)] at he; exact zsub' (ih (c + 1) _ (by omega) (by omega) he) ⟨rfl, rfl, rfl, trivial⟩) | (rw [if_neg (by omega)] at he; exact zsub' (ih (c + 1) _ (by omega) (by omega) he) ⟨rfl, rfl, rfl, trivial⟩) | exact zsub' (ih (c + 1) _ (by omega) (by omega) he) ⟨rfl, rfl, rfl, trivial⟩
  exact zsub' (L ((120 : Int) + 1).toNat 0 0 (by omega) (by omega) rfl) ⟨rfl, rfl, rfl, trivial⟩

theorem vX5_frost {G : zG} {M : zM} {σ : zS} (hA : zA σ) : zCall G yX5_frost YX5_frost [.inr (some 187)] (zt M σ) (fun v M' => zt M σ = M' ∧ v = some (.inl (sFro σ))) := by
  refine zEnter (by decide +kernel) rfl (Nat.le_of_ble_eq_true rfl) ?_
  have hI := hA.1
  have hs9 := hI.1
  unfold zIs at hs9
  refine z_iconst dX5_frost_0 ?_
  refine z_istore_n dX5_frost_1 (by decide) ?_
  refine z_iconst dX5_frost_2 ?_
  refine z_istore_n dX5_frost_3 (by decide) ?_
  have L : ∀ (n : Nat) (c : Int) (x : Int), (0 ≤ c ∧ c ≤ (120 : Int)) → (c + n = (120 : Int) + 1) → (zfor (fun c n => n + σ c) c ((120 : Int)) x = sFro σ) → zW G YX5_frost (fun v M' => zt M σ = M' ∧ v = some (.inl (sFro σ))) 4 [(2, .inl c), (1, .inl x), (0, .inr (some 187))] [] (zt M σ) := by
    intro n
    induction n with
    | zero => intro c x hc hcn he; exfalso; omega
    | succ n ih =>
      intro c x hc hcn he
      refine z_iload_n dX5_frost_4 rfl ?_
      refine z_bipush dX5_frost_5 (by decide) ?_
      refine z_icmp_ge (tgt := 27) dX5_frost_7 (by decide) (by omega) (by omega) (fun c7 => ?_) (fun c7 => ?_)
      · rw [zfor_end (by omega)] at he
        refine z_iload_n dX5_frost_27 rfl ?_
        refine z_iret dX5_frost_28 rfl ?_
        exact ⟨rfl, by rw [he]⟩
      · have hc9 := hI.2.1 c (by omega) (by omega)
        unfold zIc at hc9
        refine z_iload_n dX5_frost_10 rfl ?_
        refine z_aload_n dX5_frost_11 rfl ?_
        refine z_getR (b := 188) dX5_frost_12 fX5_7 (by decide) zsh187 rfl rfl ?_
        refine z_iconst dX5_frost_15 ?_
        refine z_iload_n dX5_frost_16 rfl ?_
        refine z_iadd dX5_frost_17 ?_
        refine z_sload dX5_frost_18 (by omega) ?_
        rw [Int.zero_add]
        refine z_iadd dX5_frost_19 ?_
        refine z_istore_n dX5_frost_20 (by decide) ?_
        refine z_iinc dX5_frost_21 rfl (by decide) ?_
        refine z_goto (tgt := 4) dX5_frost_24 (by decide) ?_
        rw [zfor_step (by omega)] at he
        first | (rw [if_pos (by omega)] at he; exact zsub' (ih (c + 1) _ (by omega) (by omega) he) ⟨rfl, rfl, rfl, trivial⟩) | (rw [if_neg (by omega)] at he; exact zsub' (ih (c + 1) _ (by omega) (by omega) he) ⟨rfl, rfl, rfl, trivial⟩) | exact zsub' (ih (c + 1) _ (by omega) (by omega) he) ⟨rfl, rfl, rfl, trivial⟩
  exact zsub' (L ((120 : Int) + 1).toNat 0 0 (by omega) (by omega) rfl) ⟨rfl, rfl, rfl, trivial⟩

theorem vX5_count {G : zG} {M : zM} {σ : zS} {w : Int} (hw : -2147483648 ≤ w ∧ w < 2147483648) (hA : zA σ) : zCall G yX5_count YX5_count [.inr (some 187), .inl w] (zt M σ) (fun v M' => zt M σ = M' ∧ v = some (.inl (sCount σ (M 187 3) (M 187 7) w))) := by
  refine zEnter (by decide +kernel) rfl (Nat.le_of_ble_eq_true rfl) ?_
  have hI := hA.1
  have hs9 := hI.1
  unfold zIs at hs9
  refine z_iload_n dX5_count_0 rfl ?_
  rcases (show w = 0 ∨ w = 1 ∨ w = 2 ∨ w = 3 ∨ w = 4 ∨ w = 5 ∨ w = 6 ∨ w = 7 ∨ w = 8 ∨ w = 9 ∨ w = 10 ∨ w = 11 ∨ w = 12 ∨ w = 13 ∨ w = 14 ∨ (w < 0 ∨ 14 < w) by omega) with h1 | h1 | h1 | h1 | h1 | h1 | h1 | h1 | h1 | h1 | h1 | h1 | h1 | h1 | h1 | h1
  · refine z_tabIn (off := 75) (tgt := 76) dX5_count_1 (by omega) (by omega) (by rw [h1]; rfl) (by decide) ?_
    refine z_aload_n dX5_count_76 rfl ?_
    refine z_getR (b := 188) dX5_count_77 fX5_7 (by decide) zsh187 rfl rfl ?_
    refine z_sipush dX5_count_80 (by decide) ?_
    refine z_sload dX5_count_83 (by omega) ?_
    refine z_iret dX5_count_84 rfl ?_
    refine ⟨rfl, ?_⟩
    first
      | (subst h1; rfl)
      | (unfold sCount; rw [if_neg (by omega), if_neg (by omega), if_neg (by omega), if_neg (by omega), if_neg (by omega), if_neg (by omega), if_neg (by omega), if_neg (by omega), if_neg (by omega), if_neg (by omega), if_neg (by omega), if_neg (by omega)])
  · refine z_tabIn (off := 84) (tgt := 85) dX5_count_1 (by omega) (by omega) (by rw [h1]; rfl) (by decide) ?_
    refine z_aload_n dX5_count_85 rfl ?_
    refine z_getR (b := 188) dX5_count_86 fX5_7 (by decide) zsh187 rfl rfl ?_
    refine z_sipush dX5_count_89 (by decide) ?_
    refine z_sload dX5_count_92 (by omega) ?_
    refine z_iret dX5_count_93 rfl ?_
    refine ⟨rfl, ?_⟩
    first
      | (subst h1; rfl)
      | (unfold sCount; rw [if_neg (by omega), if_neg (by omega), if_neg (by omega), if_neg (by omega), if_neg (by omega), if_neg (by omega), if_neg (by omega), if_neg (by omega), if_neg (by omega), if_neg (by omega), if_neg (by omega), if_neg (by omega)])
  · refine z_tabIn (off := 93) (tgt := 94) dX5_count_1 (by omega) (by omega) (by rw [h1]; rfl) (by decide) ?_
    refine z_aload_n dX5_count_94 rfl ?_
    refine z_iload_n dX5_count_95 rfl ?_
    refine z_iconst dX5_count_96 ?_
    refine z_isub dX5_count_97 ?_
    refine z_callV mX5_inState (vX5_inState (by omega) hA) rfl dX5_count_98 kX5_176 (by decide) rfl (by show _ ≤ 8; simp) (by decide) zsh187 (by decide) rfl (fun v98 M98 q98 => ?_)
    obtain ⟨rfl, rfl⟩ := q98
    try simp only [zpush]
    refine z_iret dX5_count_101 rfl ?_
    refine ⟨rfl, ?_⟩
    first
      | (subst h1; rfl)
      | (unfold sCount; rw [if_neg (by omega), if_neg (by omega), if_neg (by omega), if_neg (by omega), if_neg (by omega), if_neg (by omega), if_neg (by omega), if_neg (by omega), if_neg (by omega), if_neg (by omega), if_neg (by omega), if_neg (by omega)])
  · refine z_tabIn (off := 93) (tgt := 94) dX5_count_1 (by omega) (by omega) (by rw [h1]; rfl) (by decide) ?_
    refine z_aload_n dX5_count_94 rfl ?_
    refine z_iload_n dX5_count_95 rfl ?_
    refine z_iconst dX5_count_96 ?_
    refine z_isub dX5_count_97 ?_
    refine z_callV mX5_inState (vX5_inState (by omega) hA) rfl dX5_count_98 kX5_176 (by decide) rfl (by show _ ≤ 8; simp) (by decide) zsh187 (by decide) rfl (fun v98 M98 q98 => ?_)
    obtain ⟨rfl, rfl⟩ := q98
    try simp only [zpush]
    refine z_iret dX5_count_101 rfl ?_
    refine ⟨rfl, ?_⟩
    first
      | (subst h1; rfl)
      | (unfold sCount; rw [if_neg (by omega), if_neg (by omega), if_neg (by omega), if_neg (by omega), if_neg (by omega), if_neg (by omega), if_neg (by omega), if_neg (by omega), if_neg (by omega), if_neg (by omega), if_neg (by omega), if_neg (by omega)])
  · refine z_tabIn (off := 101) (tgt := 102) dX5_count_1 (by omega) (by omega) (by rw [h1]; rfl) (by decide) ?_
    refine z_aload_n dX5_count_102 rfl ?_
    refine z_callV mX5_trails (vX5_trails hA) rfl dX5_count_103 kX5_179 (by decide) rfl (by show _ ≤ 8; simp) (by decide) zsh187 (by decide) rfl (fun v103 M103 q103 => ?_)
    obtain ⟨rfl, rfl⟩ := q103
    try simp only [zpush]
    refine z_iret dX5_count_106 rfl ?_
    refine ⟨rfl, ?_⟩
    first
      | (subst h1; rfl)
      | (unfold sCount; rw [if_neg (by omega), if_neg (by omega), if_neg (by omega), if_neg (by omega), if_neg (by omega), if_neg (by omega), if_neg (by omega), if_neg (by omega), if_neg (by omega), if_neg (by omega), if_neg (by omega), if_neg (by omega)])
  · refine z_tabIn (off := 106) (tgt := 107) dX5_count_1 (by omega) (by omega) (by rw [h1]; rfl) (by decide) ?_
    refine z_aload_n dX5_count_107 rfl ?_
    refine z_callV mX5_frost (vX5_frost hA) rfl dX5_count_108 kX5_182 (by decide) rfl (by show _ ≤ 8; simp) (by decide) zsh187 (by decide) rfl (fun v108 M108 q108 => ?_)
    obtain ⟨rfl, rfl⟩ := q108
    try simp only [zpush]
    refine z_iret dX5_count_111 rfl ?_
    refine ⟨rfl, ?_⟩
    first
      | (subst h1; rfl)
      | (unfold sCount; rw [if_neg (by omega), if_neg (by omega), if_neg (by omega), if_neg (by omega), if_neg (by omega), if_neg (by omega), if_neg (by omega), if_neg (by omega), if_neg (by omega), if_neg (by omega), if_neg (by omega), if_neg (by omega)])
  · refine z_tabIn (off := 111) (tgt := 112) dX5_count_1 (by omega) (by omega) (by rw [h1]; rfl) (by decide) ?_
    refine z_aload_n dX5_count_112 rfl ?_
    refine z_iconst dX5_count_113 ?_
    refine z_callV mX5_ofAll (vX5_ofAll (by omega) hA) rfl dX5_count_114 kX5_185 (by decide) rfl (by show _ ≤ 8; simp) (by decide) zsh187 (by decide) rfl (fun v114 M114 q114 => ?_)
    obtain ⟨rfl, rfl⟩ := q114
    try simp only [zpush]
    refine z_iret dX5_count_117 rfl ?_
    refine ⟨rfl, ?_⟩
    first
      | (subst h1; rfl)
      | (unfold sCount; rw [if_neg (by omega), if_neg (by omega), if_neg (by omega), if_neg (by omega), if_neg (by omega), if_neg (by omega), if_neg (by omega), if_neg (by omega), if_neg (by omega), if_neg (by omega), if_neg (by omega), if_neg (by omega)])
  · refine z_tabIn (off := 117) (tgt := 118) dX5_count_1 (by omega) (by omega) (by rw [h1]; rfl) (by decide) ?_
    refine z_aload_n dX5_count_118 rfl ?_
    refine z_bipush dX5_count_119 (by decide) ?_
    refine z_callV mX5_ofAll (vX5_ofAll (by omega) hA) rfl dX5_count_121 kX5_185 (by decide) rfl (by show _ ≤ 8; simp) (by decide) zsh187 (by decide) rfl (fun v121 M121 q121 => ?_)
    obtain ⟨rfl, rfl⟩ := q121
    try simp only [zpush]
    refine z_iret dX5_count_124 rfl ?_
    refine ⟨rfl, ?_⟩
    first
      | (subst h1; rfl)
      | (unfold sCount; rw [if_neg (by omega), if_neg (by omega), if_neg (by omega), if_neg (by omega), if_neg (by omega), if_neg (by omega), if_neg (by omega), if_neg (by omega), if_neg (by omega), if_neg (by omega), if_neg (by omega), if_neg (by omega)])
  · refine z_tabIn (off := 124) (tgt := 125) dX5_count_1 (by omega) (by omega) (by rw [h1]; rfl) (by decide) ?_
    refine z_aload_n dX5_count_125 rfl ?_
    refine z_bipush dX5_count_126 (by decide) ?_
    refine z_callV mX5_ofAll (vX5_ofAll (by omega) hA) rfl dX5_count_128 kX5_185 (by decide) rfl (by show _ ≤ 8; simp) (by decide) zsh187 (by decide) rfl (fun v128 M128 q128 => ?_)
    obtain ⟨rfl, rfl⟩ := q128
    try simp only [zpush]
    refine z_iret dX5_count_131 rfl ?_
    refine ⟨rfl, ?_⟩
    first
      | (subst h1; rfl)
      | (unfold sCount; rw [if_neg (by omega), if_neg (by omega), if_neg (by omega), if_neg (by omega), if_neg (by omega), if_neg (by omega), if_neg (by omega), if_neg (by omega), if_neg (by omega), if_neg (by omega), if_neg (by omega), if_neg (by omega)])
  · refine z_tabIn (off := 131) (tgt := 132) dX5_count_1 (by omega) (by omega) (by rw [h1]; rfl) (by decide) ?_
    refine z_aload_n dX5_count_132 rfl ?_
    refine z_getR (b := 188) dX5_count_133 fX5_7 (by decide) zsh187 rfl rfl ?_
    refine z_sipush dX5_count_136 (by decide) ?_
    refine z_iload_n dX5_count_139 rfl ?_
    refine z_iadd dX5_count_140 ?_
    refine z_bipush dX5_count_141 (by decide) ?_
    refine z_isub dX5_count_143 ?_
    refine z_sload dX5_count_144 (by omega) ?_
    refine z_iret dX5_count_145 rfl ?_
    refine ⟨rfl, ?_⟩
    first
      | (subst h1; rfl)
      | (unfold sCount; rw [if_neg (by omega), if_neg (by omega), if_neg (by omega), if_neg (by omega), if_neg (by omega), if_neg (by omega), if_neg (by omega), if_neg (by omega), if_neg (by omega), if_neg (by omega), if_neg (by omega), if_neg (by omega)])
  · refine z_tabIn (off := 131) (tgt := 132) dX5_count_1 (by omega) (by omega) (by rw [h1]; rfl) (by decide) ?_
    refine z_aload_n dX5_count_132 rfl ?_
    refine z_getR (b := 188) dX5_count_133 fX5_7 (by decide) zsh187 rfl rfl ?_
    refine z_sipush dX5_count_136 (by decide) ?_
    refine z_iload_n dX5_count_139 rfl ?_
    refine z_iadd dX5_count_140 ?_
    refine z_bipush dX5_count_141 (by decide) ?_
    refine z_isub dX5_count_143 ?_
    refine z_sload dX5_count_144 (by omega) ?_
    refine z_iret dX5_count_145 rfl ?_
    refine ⟨rfl, ?_⟩
    first
      | (subst h1; rfl)
      | (unfold sCount; rw [if_neg (by omega), if_neg (by omega), if_neg (by omega), if_neg (by omega), if_neg (by omega), if_neg (by omega), if_neg (by omega), if_neg (by omega), if_neg (by omega), if_neg (by omega), if_neg (by omega), if_neg (by omega)])
  · refine z_tabIn (off := 131) (tgt := 132) dX5_count_1 (by omega) (by omega) (by rw [h1]; rfl) (by decide) ?_
    refine z_aload_n dX5_count_132 rfl ?_
    refine z_getR (b := 188) dX5_count_133 fX5_7 (by decide) zsh187 rfl rfl ?_
    refine z_sipush dX5_count_136 (by decide) ?_
    refine z_iload_n dX5_count_139 rfl ?_
    refine z_iadd dX5_count_140 ?_
    refine z_bipush dX5_count_141 (by decide) ?_
    refine z_isub dX5_count_143 ?_
    refine z_sload dX5_count_144 (by omega) ?_
    refine z_iret dX5_count_145 rfl ?_
    refine ⟨rfl, ?_⟩
    first
      | (subst h1; rfl)
      | (unfold sCount; rw [if_neg (by omega), if_neg (by omega), if_neg (by omega), if_neg (by omega), if_neg (by omega), if_neg (by omega), if_neg (by omega), if_neg (by omega), if_neg (by omega), if_neg (by omega), if_neg (by omega), if_neg (by omega)])
  · refine z_tabIn (off := 131) (tgt := 132) dX5_count_1 (by omega) (by omega) (by rw [h1]; rfl) (by decide) ?_
    refine z_aload_n dX5_count_132 rfl ?_
    refine z_getR (b := 188) dX5_count_133 fX5_7 (by decide) zsh187 rfl rfl ?_
    refine z_sipush dX5_count_136 (by decide) ?_
    refine z_iload_n dX5_count_139 rfl ?_
    refine z_iadd dX5_count_140 ?_
    refine z_bipush dX5_count_141 (by decide) ?_
    refine z_isub dX5_count_143 ?_
    refine z_sload dX5_count_144 (by omega) ?_
    refine z_iret dX5_count_145 rfl ?_
    refine ⟨rfl, ?_⟩
    first
      | (subst h1; rfl)
      | (unfold sCount; rw [if_neg (by omega), if_neg (by omega), if_neg (by omega), if_neg (by omega), if_neg (by omega), if_neg (by omega), if_neg (by omega), if_neg (by omega), if_neg (by omega), if_neg (by omega), if_neg (by omega), if_neg (by omega)])
  · refine z_tabIn (off := 145) (tgt := 146) dX5_count_1 (by omega) (by omega) (by rw [h1]; rfl) (by decide) ?_
    refine z_aload_n dX5_count_146 rfl ?_
    refine z_oget (kI := 3) dX5_count_147 fX5_44 (by decide) (by decide) zsh187 rfl rfl ?_
    refine z_iret dX5_count_150 rfl ?_
    refine ⟨rfl, ?_⟩
    first
      | (subst h1; rfl)
      | (unfold sCount; rw [if_neg (by omega), if_neg (by omega), if_neg (by omega), if_neg (by omega), if_neg (by omega), if_neg (by omega), if_neg (by omega), if_neg (by omega), if_neg (by omega), if_neg (by omega), if_neg (by omega), if_neg (by omega)])
  · refine z_tabIn (off := 150) (tgt := 151) dX5_count_1 (by omega) (by omega) (by rw [h1]; rfl) (by decide) ?_
    refine z_aload_n dX5_count_151 rfl ?_
    refine z_oget (kI := 7) dX5_count_152 fX5_113 (by decide) (by decide) zsh187 rfl rfl ?_
    refine z_iret dX5_count_155 rfl ?_
    refine ⟨rfl, ?_⟩
    first
      | (subst h1; rfl)
      | (unfold sCount; rw [if_neg (by omega), if_neg (by omega), if_neg (by omega), if_neg (by omega), if_neg (by omega), if_neg (by omega), if_neg (by omega), if_neg (by omega), if_neg (by omega), if_neg (by omega), if_neg (by omega), if_neg (by omega)])
  · refine z_tabOut (tgt := 156) dX5_count_1 (by omega) h1 (by decide) ?_
    refine z_bipush dX5_count_156 (by decide) ?_
    refine z_iret dX5_count_158 rfl ?_
    refine ⟨rfl, ?_⟩
    first
      | (subst h1; rfl)
      | (unfold sCount; rw [if_neg (by omega), if_neg (by omega), if_neg (by omega), if_neg (by omega), if_neg (by omega), if_neg (by omega), if_neg (by omega), if_neg (by omega), if_neg (by omega), if_neg (by omega), if_neg (by omega), if_neg (by omega)])
end
section
theorem vX5_stopped {G : zG} {M : zM} {σ : zS} {w : Int} (hw : -2147483648 ≤ w ∧ w < 2147483648) (h8 : M 187 8 = 0 ∨ M 187 8 = 1) : zCall G yX5_stopped YX5_stopped [.inr (some 187), .inl w] (zt M σ) (fun v M' => zt M σ = M' ∧ v = some (.inl (sStopped M w))) := by
  refine zEnter (by decide +kernel) rfl (Nat.le_of_ble_eq_true rfl) ?_
  refine z_iload_n dX5_stopped_0 rfl ?_
  refine z_iconst dX5_stopped_1 ?_
  refine z_iconst dX5_stopped_2 ?_
  refine z_callS mX5_in (vX5_in (by omega) (by omega) (by omega)) rfl dX5_stopped_3 kX5_32 (by decide) rfl (by show _ ≤ 8; simp) (fun v3 M3 q3 => ?_)
  obtain ⟨rfl, b3, rfl, h3⟩ := q3
  try simp only [zpush]
  refine z_if_ne (tgt := 12) dX5_stopped_6 (by decide) (by omega) (fun c6 => ?_) (fun c6 => ?_)
  · refine z_aload_n dX5_stopped_12 rfl ?_
    refine z_oget (kI := 8) dX5_stopped_13 fX5_161 (by decide) (by decide) zsh187 rfl rfl ?_
    refine z_if_ne (tgt := 24) dX5_stopped_16 (by decide) (by omega) (fun c16 => ?_) (fun c16 => ?_)
    · refine z_iload_n dX5_stopped_24 rfl ?_
      refine z_if_ne (tgt := 35) dX5_stopped_25 (by decide) (by omega) (fun c25 => ?_) (fun c25 => ?_)
      · refine z_aload_n dX5_stopped_35 rfl ?_
        refine z_oget (kI := 10) dX5_stopped_36 fX5_167 (by decide) (by decide) zsh187 rfl rfl ?_
        refine z_iret dX5_stopped_39 rfl ?_
        refine ⟨rfl, ?_⟩
        unfold sStopped
        congr 2
        repeat' split
        all_goals first | rfl | omega
      · refine z_aload_n dX5_stopped_28 rfl ?_
        refine z_oget (kI := 9) dX5_stopped_29 fX5_164 (by decide) (by decide) zsh187 rfl rfl ?_
        refine z_goto (tgt := 39) dX5_stopped_32 (by decide) ?_
        refine z_iret dX5_stopped_39 rfl ?_
        refine ⟨rfl, ?_⟩
        unfold sStopped
        congr 2
        repeat' split
        all_goals first | rfl | omega
    · refine z_bipush dX5_stopped_19 (by decide) ?_
      refine z_goto (tgt := 39) dX5_stopped_21 (by decide) ?_
      refine z_iret dX5_stopped_39 rfl ?_
      refine ⟨rfl, ?_⟩
      unfold sStopped
      congr 2
      repeat' split
      all_goals first | rfl | omega
  · refine z_bipush dX5_stopped_9 (by decide) ?_
    refine z_iret dX5_stopped_11 rfl ?_
    refine ⟨rfl, ?_⟩
    unfold sStopped
    congr 2
    repeat' split
    all_goals first | rfl | omega

theorem vX5_type {G : zG} {M : zM} {σ : zS} {ch : Int} (hc : 0 ≤ ch ∧ ch < 65536) (hl : 0 ≤ M 187 7 ∧ M 187 7 ≤ 60) : zCall G yX5_type YX5_type [.inr (some 187), .inl ch] (zt M σ) (fun v M' => (M 187 7 = 60 ∧ v = some (.inl (-3)) ∧ M' = zt M σ) ∨ (M 187 7 ≠ 60 ∧ v = some (.inl (M 187 7 + 1)) ∧ ∃ N : zM, M' = zt N σ ∧ (∀ a : Int, a ≠ 192 → a ≠ 187 → N a = M a) ∧ (∀ j : Int, j ≠ 7 → N 187 j = M 187 j) ∧ N 187 7 = M 187 7 + 1 ∧ N 192 (M 187 7) = ch ∧ ∀ j : Int, j ≠ M 187 7 → N 192 j = M 192 j)) := by
  refine zEnter (by decide +kernel) rfl (Nat.le_of_ble_eq_true rfl) ?_
  refine z_aload_n dX5_type_0 rfl ?_
  refine z_oget (kI := 7) dX5_type_1 fX5_113 (by decide) (by decide) zsh187 rfl rfl ?_
  refine z_bipush dX5_type_4 (by decide) ?_
  refine z_icmp_ne (tgt := 12) dX5_type_6 (by decide) (by omega) (by omega) (fun c6 => ?_) (fun c6 => ?_)
  · refine z_aload_n dX5_type_12 rfl ?_
    refine z_getR (b := 192) dX5_type_13 fX5_22 (by decide) zsh187 rfl rfl ?_
    refine z_aload_n dX5_type_16 rfl ?_
    refine z_oget (kI := 7) dX5_type_17 fX5_113 (by decide) (by decide) zsh187 rfl rfl ?_
    refine z_iload_n dX5_type_20 rfl ?_
    refine z_ocstore dX5_type_21 (by decide) (by decide) (zsh192) (by omega) (by decide) (by omega) (fun N21 hN21 => ?_)
    refine z_aload_n dX5_type_22 rfl ?_
    refine z_dup dX5_type_23 ?_
    refine z_oget (kI := 7) dX5_type_24 fX5_113 (by decide) (by decide) zsh187 rfl rfl ?_
    refine z_iconst dX5_type_27 ?_
    refine z_iadd dX5_type_28 ?_
    refine z_oput (kI := 7) dX5_type_29 fX5_113 rfl (Or.inl rfl) (by decide) (by decide) zsh187 rfl rfl (fun N29 hN29 => ?_)
    refine z_aload_n dX5_type_32 rfl ?_
    refine z_oget (kI := 7) dX5_type_33 fX5_113 (by decide) (by decide) zsh187 rfl rfl ?_
    refine z_iret dX5_type_36 rfl ?_
    have e1 : N21 187 7 = M 187 7 := by rw [hN21, zm_up_off (by decide)]
    refine Or.inr ⟨by omega, by rw [hN29, zm_up_at, e1], N29, rfl, fun a q1 q2 => by rw [hN29, zm_up_off q2, hN21, zm_up_off q1], fun j q => by rw [hN29, zm_up_ne q, hN21, zm_up_off (by decide)], by rw [hN29, zm_up_at, e1], by rw [hN29, zm_up_off (by decide), hN21, zm_up_at], fun j q => by rw [hN29, zm_up_off (by decide), hN21, zm_up_ne q]⟩
  · refine z_bipush dX5_type_9 (by decide) ?_
    refine z_iret dX5_type_11 rfl ?_
    exact Or.inl ⟨by omega, rfl, rfl⟩

theorem vX5_clearText {G : zG} {M : zM} {σ : zS}  : zCall G yX5_clearText YX5_clearText [.inr (some 187)] (zt M σ) (fun v M' => v = some (.inl (M 187 7)) ∧ M' = zt (zm_up M 187 7 0) σ) := by
  refine zEnter (by decide +kernel) rfl (Nat.le_of_ble_eq_true rfl) ?_
  refine z_aload_n dX5_clearText_0 rfl ?_
  refine z_oget (kI := 7) dX5_clearText_1 fX5_113 (by decide) (by decide) zsh187 rfl rfl ?_
  refine z_istore_n dX5_clearText_4 (by decide) ?_
  refine z_aload_n dX5_clearText_5 rfl ?_
  refine z_iconst dX5_clearText_6 ?_
  refine z_oput (kI := 7) dX5_clearText_7 fX5_113 rfl (Or.inl rfl) (by decide) (by decide) zsh187 rfl rfl (fun N7 hN7 => ?_)
  refine z_iload_n dX5_clearText_10 rfl ?_
  refine z_iret dX5_clearText_11 rfl ?_
  exact ⟨rfl, by rw [hN7]⟩

theorem vX5_keep {G : zG} {M : zM} {σ : zS}  : zCall G yX5_keep YX5_keep [.inr (some 187)] (zt M σ) (fun v M' => v = some (.inl (σ 536)) ∧ ∃ N : zM, M' = zt N σ ∧ (∀ a : Int, a ≠ 191 → a ≠ 187 → N a = M a) ∧ (∀ j : Int, j ≠ 5 → N 187 j = M 187 j) ∧ N 187 5 = 1 ∧ ∀ j : Int, 0 ≤ j → j < 538 → N 191 j = σ j) := by
  refine zEnter (by decide +kernel) rfl (Nat.le_of_ble_eq_true rfl) ?_
  refine z_iconst dX5_keep_0 ?_
  refine z_istore_n dX5_keep_1 (by decide) ?_
  have L : ∀ (n : Nat) (c : Int) (N : zM), (0 ≤ c ∧ c ≤ 538) → (c + n = 539) → (∀ a : Int, a ≠ 191 → N a = M a) → (∀ j : Int, 0 ≤ j → j < c → N 191 j = σ j) → zW G YX5_keep (fun v M' => v = some (.inl (σ 536)) ∧ ∃ N : zM, M' = zt N σ ∧ (∀ a : Int, a ≠ 191 → a ≠ 187 → N a = M a) ∧ (∀ j : Int, j ≠ 5 → N 187 j = M 187 j) ∧ N 187 5 = 1 ∧ ∀ j : Int, 0 ≤ j → j < 538 → N 191 j = σ j) 2 [(1, .inl c), (0, .inr (some 187))] [] (zt N σ) := by
    intro n
    induction n with
    | zero => intro c N hc hcn h1 h2; exfalso; omega
    | succ n ih =>
      intro c N hc hcn h1 h2
      refine z_iload_n dX5_keep_2 rfl ?_
      refine z_sipush dX5_keep_3 (by decide) ?_
      refine z_icmp_ge (tgt := 27) dX5_keep_6 (by decide) (by omega) (by omega) (fun c6 => ?_) (fun c6 => ?_)
      · refine z_aload_n dX5_keep_27 rfl ?_
        refine z_iconst dX5_keep_28 ?_
        refine z_oput (kI := 5) dX5_keep_29 fX5_170 rfl (Or.inr ⟨rfl, by omega⟩) (by decide) (by decide) zsh187 rfl rfl (fun N29 hN29 => ?_)
        refine z_aload_n dX5_keep_32 rfl ?_
        refine z_getR (b := 188) dX5_keep_33 fX5_7 (by decide) zsh187 rfl rfl ?_
        refine z_sipush dX5_keep_36 (by decide) ?_
        refine z_sload dX5_keep_39 (by omega) ?_
        refine z_iret dX5_keep_40 rfl ?_
        exact ⟨rfl, N29, rfl, fun a q1 q2 => by rw [hN29, zm_up_off q2]; exact h1 a q1, fun j q => by rw [hN29, zm_up_ne q, h1 187 (by decide)], by rw [hN29, zm_up_at], fun j q1 q2 => by rw [hN29, zm_up_off (by decide)]; exact h2 j q1 (by omega)⟩
      · refine z_aload_n dX5_keep_9 rfl ?_
        refine z_getR (b := 191) dX5_keep_10 fX5_19 (by decide) zsh187 rfl rfl ?_
        refine z_iload_n dX5_keep_13 rfl ?_
        refine z_aload_n dX5_keep_14 rfl ?_
        refine z_getR (b := 188) dX5_keep_15 fX5_7 (by decide) zsh187 rfl rfl ?_
        refine z_iload_n dX5_keep_18 rfl ?_
        refine z_sload dX5_keep_19 (by omega) ?_
        refine z_ostore dX5_keep_20 (by decide) (by decide) (zsh191) (by omega) (by decide) (fun N20 hN20 => ?_)
        refine z_iinc dX5_keep_21 rfl (by decide) ?_
        refine z_goto (tgt := 2) dX5_keep_24 (by decide) ?_
        exact zsub' (ih (c + 1) N20 (by omega) (by omega) (fun a ha => by rw [hN20, zm_up_off ha]; exact h1 a ha) (fun j q1 q2 => if hj : j = c then (by rw [hN20, hj]; exact zm_up_at) else (by rw [hN20, zm_up_ne hj]; exact h2 j q1 (by omega)))) ⟨rfl, rfl, trivial⟩
  exact zsub' (L 539 0 M (by omega) (by omega) (fun _ _ => rfl) (fun j q1 q2 => by omega)) ⟨rfl, rfl, trivial⟩

theorem vX5_undo {G : zG} {M : zM} {σ : zS} (hp : 0 ≤ M 187 3 ∧ M 187 3 ≤ 4) : zCall G yX5_undo YX5_undo [.inr (some 187)] (zt M σ) (fun v M' => (M 187 3 = 0 ∧ v = some (.inl (-5)) ∧ M' = zt M σ) ∨ (M 187 3 ≠ 0 ∧ v = some (.inl (M 187 3 - 1)) ∧ ∃ σ' : zS, M' = zt (zm_up M 187 3 (M 187 3 - 1)) σ' ∧ (∀ j : Int, 0 ≤ j → j < 538 → σ' j = M 190 (538 * (M 187 3 - 1) + j)) ∧ zo σ σ')) := by
  refine zEnter (by decide +kernel) rfl (Nat.le_of_ble_eq_true rfl) ?_
  refine z_aload_n dX5_undo_0 rfl ?_
  refine z_oget (kI := 3) dX5_undo_1 fX5_44 (by decide) (by decide) zsh187 rfl rfl ?_
  refine z_if_ne (tgt := 10) dX5_undo_4 (by decide) (by omega) (fun c4 => ?_) (fun c4 => ?_)
  · refine z_aload_n dX5_undo_10 rfl ?_
    refine z_dup dX5_undo_11 ?_
    refine z_oget (kI := 3) dX5_undo_12 fX5_44 (by decide) (by decide) zsh187 rfl rfl ?_
    refine z_iconst dX5_undo_15 ?_
    refine z_isub dX5_undo_16 ?_
    refine z_oput (kI := 3) dX5_undo_17 fX5_44 rfl (Or.inl rfl) (by decide) (by decide) zsh187 rfl rfl (fun N17 hN17 => ?_)
    have e3 : N17 187 3 = M 187 3 - 1 := by rw [hN17, zm_up_at]
    have e190 : N17 190 = M 190 := by rw [hN17, zm_up_off (by decide)]
    refine z_iconst dX5_undo_20 ?_
    refine z_istore_n dX5_undo_21 (by decide) ?_
    have L : ∀ (n : Nat) (c : Int) (τ : zS), (0 ≤ c ∧ c ≤ 538) → (c + n = 539) → (∀ j : Int, 0 ≤ j → j < c → τ j = M 190 (538 * (M 187 3 - 1) + j)) → (zo σ τ) → zW G YX5_undo (fun v M' => (M 187 3 = 0 ∧ v = some (.inl (-5)) ∧ M' = zt M σ) ∨ (M 187 3 ≠ 0 ∧ v = some (.inl (M 187 3 - 1)) ∧ ∃ σ' : zS, M' = zt (zm_up M 187 3 (M 187 3 - 1)) σ' ∧ (∀ j : Int, 0 ≤ j → j < 538 → σ' j = M 190 (538 * (M 187 3 - 1) + j)) ∧ zo σ σ')) 22 [(1, .inl c), (0, .inr (some 187))] [] (zt N17 τ) := by
      intro n
      induction n with
      | zero => intro c τ hc hcn h2 h3; exfalso; omega
      | succ n ih =>
        intro c τ hc hcn h2 h3
        refine z_iload_n dX5_undo_22 rfl ?_
        refine z_sipush dX5_undo_23 (by decide) ?_
        refine z_icmp_ge (tgt := 56) dX5_undo_26 (by decide) (by omega) (by omega) (fun c26 => ?_) (fun c26 => ?_)
        · refine z_aload_n dX5_undo_56 rfl ?_
          refine z_oget (kI := 3) dX5_undo_57 fX5_44 (by decide) (by decide) zsh187 rfl rfl ?_
          refine z_iret dX5_undo_60 rfl ?_
          exact Or.inr ⟨c4, by rw [e3], τ, by rw [hN17], fun j q1 q2 => h2 j q1 (by omega), h3⟩
        · refine z_aload_n dX5_undo_29 rfl ?_
          refine z_getR (b := 188) dX5_undo_30 fX5_7 (by decide) zsh187 rfl rfl ?_
          refine z_iload_n dX5_undo_33 rfl ?_
          refine z_aload_n dX5_undo_34 rfl ?_
          refine z_getR (b := 190) dX5_undo_35 fX5_16 (by decide) zsh187 rfl rfl ?_
          refine z_sipush dX5_undo_38 (by decide) ?_
          refine z_aload_n dX5_undo_41 rfl ?_
          refine z_oget (kI := 3) dX5_undo_42 fX5_44 (by decide) (by decide) zsh187 rfl rfl ?_
          refine z_imul dX5_undo_45 ?_
          refine z_iload_n dX5_undo_46 rfl ?_
          refine z_iadd dX5_undo_47 ?_
          refine z_oload dX5_undo_48 (by decide) (by decide) (zsh190) (by omega) (by decide) ?_
          refine z_sstore dX5_undo_49 (by omega) (fun σ49 hσ49 => ?_)
          refine z_iinc dX5_undo_50 rfl (by decide) ?_
          refine z_goto (tgt := 22) dX5_undo_53 (by decide) ?_
          exact zsub' (ih (c + 1) σ49 (by omega) (by omega) (fun j q1 q2 => if hj : j = c then (by rw [hσ49, hj, zu_at, e3, e190]) else (by rw [hσ49, zu_ne hj]; exact h2 j q1 (by omega))) (h3.tr (by rw [hσ49]; exact zo_zu (by omega)))) ⟨rfl, rfl, trivial⟩
    exact zsub' (L 539 0 σ (by omega) (by omega) (fun j q1 q2 => by omega) (zo.rf σ)) ⟨rfl, rfl, trivial⟩
  · refine z_bipush dX5_undo_7 (by decide) ?_
    refine z_iret dX5_undo_9 rfl ?_
    exact Or.inl ⟨c4, rfl, rfl⟩

theorem vX5_restore {G : zG} {M : zM} {σ : zS} (hp : 0 ≤ M 187 3 ∧ M 187 3 ≤ 4) (h5 : M 187 5 = 0 ∨ M 187 5 = 1) : zCall G yX5_restore YX5_restore [.inr (some 187)] (zt M σ) (fun v M' => (M 187 5 = 0 ∧ v = some (.inl (-5)) ∧ M' = zt M σ) ∨ (M 187 5 ≠ 0 ∧ ∃ (N : zM) (σ' : zS), v = some (.inl (σ' 536)) ∧ M' = zt N σ' ∧ zRec M σ N ∧ (∀ j : Int, 0 ≤ j → j < 538 → σ' j = N 191 j) ∧ zo σ σ')) := by
  refine zEnter (by decide +kernel) rfl (Nat.le_of_ble_eq_true rfl) ?_
  refine z_aload_n dX5_restore_0 rfl ?_
  refine z_oget (kI := 5) dX5_restore_1 fX5_170 (by decide) (by decide) zsh187 rfl rfl ?_
  refine z_if_ne (tgt := 10) dX5_restore_4 (by decide) (by omega) (fun c4 => ?_) (fun c4 => ?_)
  · refine z_aload_n dX5_restore_10 rfl ?_
    refine z_callV mX5_records (vX5_records (by omega)) rfl dX5_restore_11 kX5_57 (by decide) rfl (by show _ ≤ 8; simp) (by decide) zsh187 (by decide) rfl (fun v11 M11 q11 => ?_)
    obtain ⟨rfl, N11, rfl, hR11⟩ := q11
    try simp only [zpush]
    refine z_iconst dX5_restore_14 ?_
    refine z_istore_n dX5_restore_15 (by decide) ?_
    have L : ∀ (n : Nat) (c : Int) (τ : zS), (0 ≤ c ∧ c ≤ 538) → (c + n = 539) → (∀ j : Int, 0 ≤ j → j < c → τ j = N11 191 j) → (zo σ τ) → zW G YX5_restore (fun v M' => (M 187 5 = 0 ∧ v = some (.inl (-5)) ∧ M' = zt M σ) ∨ (M 187 5 ≠ 0 ∧ ∃ (N : zM) (σ' : zS), v = some (.inl (σ' 536)) ∧ M' = zt N σ' ∧ zRec M σ N ∧ (∀ j : Int, 0 ≤ j → j < 538 → σ' j = N 191 j) ∧ zo σ σ')) 16 [(1, .inl c), (0, .inr (some 187))] [] (zt N11 τ) := by
      intro n
      induction n with
      | zero => intro c τ hc hcn h2 h3; exfalso; omega
      | succ n ih =>
        intro c τ hc hcn h2 h3
        refine z_iload_n dX5_restore_16 rfl ?_
        refine z_sipush dX5_restore_17 (by decide) ?_
        refine z_icmp_ge (tgt := 41) dX5_restore_20 (by decide) (by omega) (by omega) (fun c20 => ?_) (fun c20 => ?_)
        · refine z_aload_n dX5_restore_41 rfl ?_
          refine z_getR (b := 188) dX5_restore_42 fX5_7 (by decide) zsh187 rfl rfl ?_
          refine z_sipush dX5_restore_45 (by decide) ?_
          refine z_sload dX5_restore_48 (by omega) ?_
          refine z_iret dX5_restore_49 rfl ?_
          exact Or.inr ⟨c4, N11, τ, rfl, rfl, hR11, fun j q1 q2 => h2 j q1 (by omega), h3⟩
        · refine z_aload_n dX5_restore_23 rfl ?_
          refine z_getR (b := 188) dX5_restore_24 fX5_7 (by decide) zsh187 rfl rfl ?_
          refine z_iload_n dX5_restore_27 rfl ?_
          refine z_aload_n dX5_restore_28 rfl ?_
          refine z_getR (b := 191) dX5_restore_29 fX5_19 (by decide) zsh187 rfl rfl ?_
          refine z_iload_n dX5_restore_32 rfl ?_
          refine z_oload dX5_restore_33 (by decide) (by decide) (zsh191) (by omega) (by decide) ?_
          refine z_sstore dX5_restore_34 (by omega) (fun σ34 hσ34 => ?_)
          refine z_iinc dX5_restore_35 rfl (by decide) ?_
          refine z_goto (tgt := 16) dX5_restore_38 (by decide) ?_
          exact zsub' (ih (c + 1) σ34 (by omega) (by omega) (fun j q1 q2 => if hj : j = c then (by rw [hσ34, hj, zu_at]) else (by rw [hσ34, zu_ne hj]; exact h2 j q1 (by omega))) (h3.tr (by rw [hσ34]; exact zo_zu (by omega)))) ⟨rfl, rfl, trivial⟩
    exact zsub' (L 539 0 σ (by omega) (by omega) (fun j q1 q2 => by omega) (zo.rf σ)) ⟨rfl, rfl, trivial⟩
  · refine z_bipush dX5_restore_7 (by decide) ?_
    refine z_iret dX5_restore_9 rfl ?_
    exact Or.inl ⟨c4, rfl, rfl⟩

theorem vX5_set {G : zG} {M : zM} {σ : zS} {w x : Int} (hw : -2147483648 ≤ w ∧ w < 2147483648) (hx : -2147483648 ≤ x ∧ x < 2147483648) (hA : zA σ) (hp : 0 ≤ M 187 3 ∧ M 187 3 ≤ 4) : zCall G yX5_set YX5_set [.inr (some 187), .inl w, .inl x] (zt M σ) (fun v M' => (sBarSet σ w x < 0 ∧ v = some (.inl (sBarSet σ w x)) ∧ M' = zt M σ) ∨ (sBarSet σ w x = 0 ∧ v = some (.inl (σ (531 + w))) ∧ zDone M σ (sDry (zu σ (531 + w) x)) M')) := by
  refine zEnter (by decide +kernel) rfl (Nat.le_of_ble_eq_true rfl) ?_
  have hI := hA.1
  have hs9 := hI.1
  unfold zIs at hs9
  refine z_iload_n dX5_set_0 rfl ?_
  refine z_iconst dX5_set_1 ?_
  refine z_iconst dX5_set_2 ?_
  refine z_callS mX5_in (vX5_in (by omega) (by omega) (by omega)) rfl dX5_set_3 kX5_32 (by decide) rfl (by show _ ≤ 8; simp) (fun v3 M3 q3 => ?_)
  obtain ⟨rfl, b3, rfl, h3⟩ := q3
  try simp only [zpush]
  refine z_if_ne (tgt := 11) dX5_set_6 (by decide) (by omega) (fun c6 => ?_) (fun c6 => ?_)
  · refine z_iload_n dX5_set_11 rfl ?_
    refine z_iload_n dX5_set_12 rfl ?_
    refine z_if_ne (tgt := 20) dX5_set_13 (by decide) (by omega) (fun c13 => ?_) (fun c13 => ?_)
    · refine z_iconst dX5_set_20 ?_
      refine z_iload_n dX5_set_21 rfl ?_
      refine z_callS mX5_most (vX5_most (by omega)) rfl dX5_set_22 kX5_80 (by decide) rfl (by show _ ≤ 8; simp) (fun v22 M22 q22 => ?_)
      obtain ⟨rfl, rfl⟩ := q22
      try simp only [zpush]
      have hmo : 9 ≤ sMost w ∧ sMost w ≤ 99 := by unfold sMost; repeat' split <;> omega
      refine z_callS mX5_in (vX5_in (by omega) (by omega) (by omega)) rfl dX5_set_25 kX5_32 (by decide) rfl (by show _ ≤ 8; simp) (fun v25 M25 q25 => ?_)
      obtain ⟨rfl, b25, rfl, h25⟩ := q25
      try simp only [zpush]
      refine z_if_ne (tgt := 34) dX5_set_28 (by decide) (by omega) (fun c28 => ?_) (fun c28 => ?_)
      · have hv9 : 0 ≤ σ (531 + w) ∧ σ (531 + w) ≤ 99 := by rcases (show w = 0 ∨ w = 1 ∨ w = 2 ∨ w = 3 by omega) with h | h | h | h <;> (rw [h]; simp only [Int.reduceAdd]; omega)
        refine z_aload_n dX5_set_34 rfl ?_
        refine z_getR (b := 188) dX5_set_35 fX5_7 (by decide) zsh187 rfl rfl ?_
        refine z_sipush dX5_set_38 (by decide) ?_
        refine z_iload_n dX5_set_41 rfl ?_
        refine z_iadd dX5_set_42 ?_
        refine z_sload dX5_set_43 (by omega) ?_
        refine z_iload_n dX5_set_44 rfl ?_
        refine z_icmp_ne (tgt := 51) dX5_set_45 (by decide) (by omega) (by omega) (fun c45 => ?_) (fun c45 => ?_)
        · refine z_aload_n dX5_set_51 rfl ?_
          refine z_callV mX5_records (vX5_records (by omega)) rfl dX5_set_52 kX5_57 (by decide) rfl (by show _ ≤ 8; simp) (by decide) zsh187 (by decide) rfl (fun v52 M52 q52 => ?_)
          obtain ⟨rfl, N52, rfl, hR52⟩ := q52
          try simp only [zpush]
          refine z_aload_n dX5_set_55 rfl ?_
          refine z_getR (b := 188) dX5_set_56 fX5_7 (by decide) zsh187 rfl rfl ?_
          refine z_sipush dX5_set_59 (by decide) ?_
          refine z_iload_n dX5_set_62 rfl ?_
          refine z_iadd dX5_set_63 ?_
          refine z_sload dX5_set_64 (by omega) ?_
          refine z_istore_n dX5_set_65 (by decide) ?_
          refine z_aload_n dX5_set_66 rfl ?_
          refine z_getR (b := 188) dX5_set_67 fX5_7 (by decide) zsh187 rfl rfl ?_
          refine z_sipush dX5_set_70 (by decide) ?_
          refine z_iload_n dX5_set_73 rfl ?_
          refine z_iadd dX5_set_74 ?_
          refine z_iload_n dX5_set_75 rfl ?_
          refine z_sstore dX5_set_76 (by omega) (fun σ76 hσ76 => ?_)
          refine z_aload_n dX5_set_77 rfl ?_
          refine z_callV mX5_dries (vX5_dries (by rw [hσ76]; exact zI_set hI (by omega) (by split <;> omega))) rfl dX5_set_78 kX5_84 (by decide) rfl (by show _ ≤ 8; simp) (by decide) zsh187 (by decide) rfl (fun v78 M78 q78 => ?_)
          obtain ⟨rfl, rfl⟩ := q78
          try simp only [zpush]
          refine z_iload_n dX5_set_81 rfl ?_
          refine z_iret dX5_set_82 rfl ?_
          have hb : sBarSet σ w x = 0 := by unfold sBarSet; rw [if_neg (by omega), if_neg (by split <;> omega), if_neg (by omega)]
          exact Or.inr ⟨hb, rfl, N52, by rw [hσ76], hR52⟩
        · refine z_bipush dX5_set_48 (by decide) ?_
          refine z_iret dX5_set_50 rfl ?_
          have hb : sBarSet σ w x = -5 := by unfold sBarSet; rw [if_neg (by omega), if_neg (by split <;> omega), if_pos (by omega)]
          exact Or.inl ⟨by omega, by rw [hb], rfl⟩
      · refine z_bipush dX5_set_31 (by decide) ?_
        refine z_iret dX5_set_33 rfl ?_
        have hb : sBarSet σ w x = -2 := by unfold sBarSet; rw [if_neg (by omega), if_pos (by split <;> omega)]
        exact Or.inl ⟨by omega, by rw [hb], rfl⟩
    · refine z_iconst dX5_set_16 ?_
      refine z_goto (tgt := 21) dX5_set_17 (by decide) ?_
      refine z_iload_n dX5_set_21 rfl ?_
      refine z_callS mX5_most (vX5_most (by omega)) rfl dX5_set_22 kX5_80 (by decide) rfl (by show _ ≤ 8; simp) (fun v22 M22 q22 => ?_)
      obtain ⟨rfl, rfl⟩ := q22
      try simp only [zpush]
      have hmo : 9 ≤ sMost w ∧ sMost w ≤ 99 := by unfold sMost; repeat' split <;> omega
      refine z_callS mX5_in (vX5_in (by omega) (by omega) (by omega)) rfl dX5_set_25 kX5_32 (by decide) rfl (by show _ ≤ 8; simp) (fun v25 M25 q25 => ?_)
      obtain ⟨rfl, b25, rfl, h25⟩ := q25
      try simp only [zpush]
      refine z_if_ne (tgt := 34) dX5_set_28 (by decide) (by omega) (fun c28 => ?_) (fun c28 => ?_)
      · have hv9 : 0 ≤ σ (531 + w) ∧ σ (531 + w) ≤ 99 := by rcases (show w = 0 ∨ w = 1 ∨ w = 2 ∨ w = 3 by omega) with h | h | h | h <;> (rw [h]; simp only [Int.reduceAdd]; omega)
        refine z_aload_n dX5_set_34 rfl ?_
        refine z_getR (b := 188) dX5_set_35 fX5_7 (by decide) zsh187 rfl rfl ?_
        refine z_sipush dX5_set_38 (by decide) ?_
        refine z_iload_n dX5_set_41 rfl ?_
        refine z_iadd dX5_set_42 ?_
        refine z_sload dX5_set_43 (by omega) ?_
        refine z_iload_n dX5_set_44 rfl ?_
        refine z_icmp_ne (tgt := 51) dX5_set_45 (by decide) (by omega) (by omega) (fun c45 => ?_) (fun c45 => ?_)
        · refine z_aload_n dX5_set_51 rfl ?_
          refine z_callV mX5_records (vX5_records (by omega)) rfl dX5_set_52 kX5_57 (by decide) rfl (by show _ ≤ 8; simp) (by decide) zsh187 (by decide) rfl (fun v52 M52 q52 => ?_)
          obtain ⟨rfl, N52, rfl, hR52⟩ := q52
          try simp only [zpush]
          refine z_aload_n dX5_set_55 rfl ?_
          refine z_getR (b := 188) dX5_set_56 fX5_7 (by decide) zsh187 rfl rfl ?_
          refine z_sipush dX5_set_59 (by decide) ?_
          refine z_iload_n dX5_set_62 rfl ?_
          refine z_iadd dX5_set_63 ?_
          refine z_sload dX5_set_64 (by omega) ?_
          refine z_istore_n dX5_set_65 (by decide) ?_
          refine z_aload_n dX5_set_66 rfl ?_
          refine z_getR (b := 188) dX5_set_67 fX5_7 (by decide) zsh187 rfl rfl ?_
          refine z_sipush dX5_set_70 (by decide) ?_
          refine z_iload_n dX5_set_73 rfl ?_
          refine z_iadd dX5_set_74 ?_
          refine z_iload_n dX5_set_75 rfl ?_
          refine z_sstore dX5_set_76 (by omega) (fun σ76 hσ76 => ?_)
          refine z_aload_n dX5_set_77 rfl ?_
          refine z_callV mX5_dries (vX5_dries (by rw [hσ76]; exact zI_set hI (by omega) (by split <;> omega))) rfl dX5_set_78 kX5_84 (by decide) rfl (by show _ ≤ 8; simp) (by decide) zsh187 (by decide) rfl (fun v78 M78 q78 => ?_)
          obtain ⟨rfl, rfl⟩ := q78
          try simp only [zpush]
          refine z_iload_n dX5_set_81 rfl ?_
          refine z_iret dX5_set_82 rfl ?_
          have hb : sBarSet σ w x = 0 := by unfold sBarSet; rw [if_neg (by omega), if_neg (by split <;> omega), if_neg (by omega)]
          exact Or.inr ⟨hb, rfl, N52, by rw [hσ76], hR52⟩
        · refine z_bipush dX5_set_48 (by decide) ?_
          refine z_iret dX5_set_50 rfl ?_
          have hb : sBarSet σ w x = -5 := by unfold sBarSet; rw [if_neg (by omega), if_neg (by split <;> omega), if_pos (by omega)]
          exact Or.inl ⟨by omega, by rw [hb], rfl⟩
      · refine z_bipush dX5_set_31 (by decide) ?_
        refine z_iret dX5_set_33 rfl ?_
        have hb : sBarSet σ w x = -2 := by unfold sBarSet; rw [if_neg (by omega), if_pos (by split <;> omega)]
        exact Or.inl ⟨by omega, by rw [hb], rfl⟩
  · refine z_iconst dX5_set_9 ?_
    refine z_iret dX5_set_10 rfl ?_
    have hb : sBarSet σ w x = -1 := by unfold sBarSet; rw [if_pos (by omega)]
    exact Or.inl ⟨by omega, by rw [hb], rfl⟩

theorem vX5_pass {G : zG} {M : zM} {σ : zS} {t : Int} (ht : -2147483648 ≤ t ∧ t < 2147483648) (hA : zA σ) (hB : 0 ≤ σ 536 ∧ σ 536 ≤ 99999) (hp : 0 ≤ M 187 3 ∧ M 187 3 ≤ 4) : zCall G yX5_pass YX5_pass [.inr (some 187), .inl t] (zt M σ) (fun v M' => (sBarT σ t < 0 ∧ v = some (.inl (sBarT σ t)) ∧ M' = zt M σ) ∨ (sBarT σ t = 0 ∧ v = some (.inl (sTs t σ 537 - σ 537)) ∧ zDone M σ (sTs t σ) M')) := by
  refine zEnter (by decide +kernel) rfl (Nat.le_of_ble_eq_true rfl) ?_
  have hI := hA.1
  have hs9 := hI.1
  unfold zIs at hs9
  refine z_aload_n dX5_pass_0 rfl ?_
  refine z_iload_n dX5_pass_1 rfl ?_
  refine z_callV mX5_barPass (vX5_barPass (by omega) (by omega)) rfl dX5_pass_2 kX5_107 (by decide) rfl (by show _ ≤ 8; simp) (by decide) zsh187 (by decide) rfl (fun v2 M2 q2 => ?_)
  obtain ⟨rfl, rfl⟩ := q2
  try simp only [zpush]
  have hbr := sBarT_r σ t
  have hb0 := fun h => sBarT_0 (σ := σ) (t := t) h
  refine z_istore_n dX5_pass_5 (by decide) ?_
  refine z_iload_n dX5_pass_6 rfl ?_
  refine z_if_ge (tgt := 12) dX5_pass_7 (by decide) (by omega) (fun c7 => ?_) (fun c7 => ?_)
  · have hb1 := hb0 (by omega)
    refine z_aload_n dX5_pass_12 rfl ?_
    refine z_callV mX5_records (vX5_records (by omega)) rfl dX5_pass_13 kX5_57 (by decide) rfl (by show _ ≤ 8; simp) (by decide) zsh187 (by decide) rfl (fun v13 M13 q13 => ?_)
    obtain ⟨rfl, N13, rfl, hR13⟩ := q13
    try simp only [zpush]
    refine z_aload_n dX5_pass_16 rfl ?_
    refine z_iload_n dX5_pass_17 rfl ?_
    refine z_callV mX5_passes (vX5_passes hA (by omega) (by omega)) rfl dX5_pass_18 kX5_110 (by decide) rfl (by show _ ≤ 8; simp) (by decide) zsh187 (by decide) rfl (fun v18 M18 q18 => ?_)
    obtain ⟨rfl, rfl⟩ := q18
    try simp only [zpush]
    refine z_iret dX5_pass_21 rfl ?_
    exact Or.inr ⟨by omega, rfl, N13, rfl, hR13⟩
  · refine z_iload_n dX5_pass_10 rfl ?_
    refine z_iret dX5_pass_11 rfl ?_
    exact Or.inl ⟨by omega, rfl, rfl⟩

theorem vX5_setSnail {G : zG} {M : zM} {σ : zS} {lane slime : Int} (hlane : -2147483648 ≤ lane ∧ lane < 2147483648) (hslime : -2147483648 ≤ slime ∧ slime < 2147483648) (hA : zA σ) (h8 : σ 535 ≤ 8) (hp : 0 ≤ M 187 3 ∧ M 187 3 ≤ 4) : zCall G yX5_setSnail YX5_setSnail [.inr (some 187), .inl lane, .inl slime] (zt M σ) (fun v M' => (sBarS σ lane slime < 0 ∧ v = some (.inl (sBarS σ lane slime)) ∧ M' = zt M σ) ∨ (sBarS σ lane slime = 0 ∧ v = some (.inl (σ 535)) ∧ zDone M σ (sCome σ lane slime) M')) := by
  refine zEnter (by decide +kernel) rfl (Nat.le_of_ble_eq_true rfl) ?_
  have hI := hA.1
  have hs9 := hI.1
  unfold zIs at hs9
  refine z_aload_n dX5_setSnail_0 rfl ?_
  refine z_iload_n dX5_setSnail_1 rfl ?_
  refine z_iload_n dX5_setSnail_2 rfl ?_
  refine z_callV mX5_barSnail (vX5_barSnail (by omega) (by omega) hI) rfl dX5_setSnail_3 kX5_54 (by decide) rfl (by show _ ≤ 8; simp) (by decide) zsh187 (by decide) rfl (fun v3 M3 q3 => ?_)
  obtain ⟨rfl, rfl⟩ := q3
  try simp only [zpush]
  have hbr := sBarS_r σ lane slime
  have hb0 := fun h => sBarS_0 (σ := σ) (lane := lane) (slime := slime) h
  refine z_istore_n dX5_setSnail_6 (by decide) ?_
  refine z_iload_n dX5_setSnail_7 rfl ?_
  refine z_if_ge (tgt := 13) dX5_setSnail_8 (by decide) (by omega) (fun c8 => ?_) (fun c8 => ?_)
  · have hb1 := hb0 (by omega)
    refine z_aload_n dX5_setSnail_13 rfl ?_
    refine z_callV mX5_records (vX5_records (by omega)) rfl dX5_setSnail_14 kX5_57 (by decide) rfl (by show _ ≤ 8; simp) (by decide) zsh187 (by decide) rfl (fun v14 M14 q14 => ?_)
    obtain ⟨rfl, N14, rfl, hR14⟩ := q14
    try simp only [zpush]
    refine z_aload_n dX5_setSnail_17 rfl ?_
    refine z_iload_n dX5_setSnail_18 rfl ?_
    refine z_iload_n dX5_setSnail_19 rfl ?_
    refine z_callV mX5_comes (vX5_comes (by omega)) rfl dX5_setSnail_20 kX5_60 (by decide) rfl (by show _ ≤ 8; simp) (by decide) zsh187 (by decide) rfl (fun v20 M20 q20 => ?_)
    obtain ⟨rfl, rfl⟩ := q20
    try simp only [zpush]
    refine z_iret dX5_setSnail_23 rfl ?_
    exact Or.inr ⟨by omega, rfl, N14, rfl, hR14⟩
  · refine z_iload_n dX5_setSnail_11 rfl ?_
    refine z_iret dX5_setSnail_12 rfl ?_
    exact Or.inl ⟨by omega, rfl, rfl⟩

theorem vX5_setFrost {G : zG} {M : zM} {σ : zS} {lane row f : Int} (hlane : -2147483648 ≤ lane ∧ lane < 2147483648) (hrow : -2147483648 ≤ row ∧ row < 2147483648) (hf : -2147483648 ≤ f ∧ f < 2147483648) (hA : zA σ) (hp : 0 ≤ M 187 3 ∧ M 187 3 ≤ 4) : zCall G yX5_setFrost YX5_setFrost [.inr (some 187), .inl lane, .inl row, .inl f] (zt M σ) (fun v M' => (sBarF σ lane row f < 0 ∧ v = some (.inl (sBarF σ lane row f)) ∧ M' = zt M σ) ∨ (sBarF σ lane row f = 0 ∧ v = some (.inl (σ (6 * row + lane))) ∧ zDone M σ (sFz σ (6 * row + lane) f) M')) := by
  refine zEnter (by decide +kernel) rfl (Nat.le_of_ble_eq_true rfl) ?_
  have hI := hA.1
  have hs9 := hI.1
  unfold zIs at hs9
  refine z_aload_n dX5_setFrost_0 rfl ?_
  refine z_iload_n dX5_setFrost_1 rfl ?_
  refine z_iload_n dX5_setFrost_2 rfl ?_
  refine z_iload_n dX5_setFrost_3 rfl ?_
  refine z_callV mX5_barFrost (vX5_barFrost (by omega) (by omega) (by omega) hI) rfl dX5_setFrost_4 kX5_73 (by decide) rfl (by show _ ≤ 8; simp) (by decide) zsh187 (by decide) rfl (fun v4 M4 q4 => ?_)
  obtain ⟨rfl, rfl⟩ := q4
  try simp only [zpush]
  have hbr := sBarF_r σ lane row f
  have hb0 := fun h => sBarF_0 (σ := σ) (lane := lane) (row := row) (f := f) h
  refine z_istore dX5_setFrost_7 (by decide) ?_
  refine z_iload dX5_setFrost_9 rfl ?_
  refine z_if_ge (tgt := 17) dX5_setFrost_11 (by decide) (by omega) (fun c11 => ?_) (fun c11 => ?_)
  · have hb1 := hb0 (by omega)
    refine z_aload_n dX5_setFrost_17 rfl ?_
    refine z_callV mX5_records (vX5_records (by omega)) rfl dX5_setFrost_18 kX5_57 (by decide) rfl (by show _ ≤ 8; simp) (by decide) zsh187 (by decide) rfl (fun v18 M18 q18 => ?_)
    obtain ⟨rfl, N18, rfl, hR18⟩ := q18
    try simp only [zpush]
    refine z_aload_n dX5_setFrost_21 rfl ?_
    refine z_iload_n dX5_setFrost_22 rfl ?_
    refine z_iload_n dX5_setFrost_23 rfl ?_
    refine z_iload_n dX5_setFrost_24 rfl ?_
    refine z_callV mX5_freezes (vX5_freezes (by omega) (by omega)) rfl dX5_setFrost_25 kX5_77 (by decide) rfl (by show _ ≤ 8; simp) (by decide) zsh187 (by decide) rfl (fun v25 M25 q25 => ?_)
    obtain ⟨rfl, rfl⟩ := q25
    try simp only [zpush]
    refine z_iret dX5_setFrost_28 rfl ?_
    exact Or.inr ⟨by omega, rfl, N18, rfl, hR18⟩
  · refine z_iload dX5_setFrost_14 rfl ?_
    refine z_iret dX5_setFrost_16 rfl ?_
    exact Or.inl ⟨by omega, rfl, rfl⟩

theorem vX5_takeOff {G : zG} {M : zM} {σ : zS} {k : Int} (hk : -2147483648 ≤ k ∧ k < 2147483648) (hA : zA σ) (hp : 0 ≤ M 187 3 ∧ M 187 3 ≤ 4) : zCall G yX5_takeOff YX5_takeOff [.inr (some 187), .inl k] (zt M σ) (fun v M' => (¬ (0 ≤ k ∧ k < σ 535) ∧ v = some (.inl (-1)) ∧ M' = zt M σ) ∨ ((0 ≤ k ∧ k < σ 535) ∧ ¬ σ (360 + 10 * k + 3) = 0 ∧ v = some (.inl (-4)) ∧ M' = zt M σ) ∨ ((0 ≤ k ∧ k < σ 535) ∧ σ (360 + 10 * k + 3) = 0 ∧ v = some (.inl (σ (360 + 10 * k + 1))) ∧ zDone M σ (zu σ (360 + 10 * k + 3) 2) M')) := by
  refine zEnter (by decide +kernel) rfl (Nat.le_of_ble_eq_true rfl) ?_
  have hI := hA.1
  have hs9 := hI.1
  unfold zIs at hs9
  refine z_aload_n dX5_takeOff_0 rfl ?_
  refine z_iload_n dX5_takeOff_1 rfl ?_
  refine z_callV mX5_isSnail (vX5_isSnail (by omega) hI) rfl dX5_takeOff_2 kX5_63 (by decide) rfl (by show _ ≤ 8; simp) (by decide) zsh187 (by decide) rfl (fun v2 M2 q2 => ?_)
  obtain ⟨rfl, b2, rfl, h2⟩ := q2
  try simp only [zpush]
  refine z_if_ne (tgt := 10) dX5_takeOff_5 (by decide) (by omega) (fun c5 => ?_) (fun c5 => ?_)
  · refine z_aload_n dX5_takeOff_10 rfl ?_
    refine z_iload_n dX5_takeOff_11 rfl ?_
    refine z_callV mX5_creeps (vX5_creeps (by omega) hI) rfl dX5_takeOff_12 kX5_48 (by decide) rfl (by show _ ≤ 8; simp) (by decide) zsh187 (by decide) rfl (fun v12 M12 q12 => ?_)
    obtain ⟨rfl, b12, rfl, h12⟩ := q12
    try simp only [zpush]
    refine z_if_ne (tgt := 21) dX5_takeOff_15 (by decide) (by omega) (fun c15 => ?_) (fun c15 => ?_)
    · refine z_aload_n dX5_takeOff_21 rfl ?_
      refine z_callV mX5_records (vX5_records (by omega)) rfl dX5_takeOff_22 kX5_57 (by decide) rfl (by show _ ≤ 8; simp) (by decide) zsh187 (by decide) rfl (fun v22 M22 q22 => ?_)
      obtain ⟨rfl, N22, rfl, hR22⟩ := q22
      try simp only [zpush]
      refine z_aload_n dX5_takeOff_25 rfl ?_
      refine z_getR (b := 188) dX5_takeOff_26 fX5_7 (by decide) zsh187 rfl rfl ?_
      refine z_iload_n dX5_takeOff_29 rfl ?_
      refine z_iconst dX5_takeOff_30 ?_
      refine z_callS mX5_of vX5_of rfl dX5_takeOff_31 kX5_40 (by decide) rfl (by show _ ≤ 8; simp) (fun v31 M31 q31 => ?_)
      obtain ⟨rfl, rfl⟩ := q31
      try simp only [zpush]
      refine z_iconst dX5_takeOff_34 ?_
      refine z_sstore dX5_takeOff_35 (by omega) (fun σ35 hσ35 => ?_)
      refine z_aload_n dX5_takeOff_36 rfl ?_
      refine z_getR (b := 188) dX5_takeOff_37 fX5_7 (by decide) zsh187 rfl rfl ?_
      refine z_iload_n dX5_takeOff_40 rfl ?_
      refine z_iconst dX5_takeOff_41 ?_
      refine z_callS mX5_of vX5_of rfl dX5_takeOff_42 kX5_40 (by decide) rfl (by show _ ≤ 8; simp) (fun v42 M42 q42 => ?_)
      obtain ⟨rfl, rfl⟩ := q42
      try simp only [zpush]
      refine z_sload dX5_takeOff_45 (by omega) ?_
      refine z_iret dX5_takeOff_46 rfl ?_
      exact Or.inr (Or.inr ⟨by omega, by omega, by rw [hσ35, zu_ne (by omega)], N22, by rw [hσ35], hR22⟩)
    · refine z_bipush dX5_takeOff_18 (by decide) ?_
      refine z_iret dX5_takeOff_20 rfl ?_
      exact Or.inr (Or.inl ⟨by omega, by omega, rfl, rfl⟩)
  · refine z_iconst dX5_takeOff_8 ?_
    refine z_iret dX5_takeOff_9 rfl ?_
    exact Or.inl ⟨by omega, rfl, rfl⟩

theorem vX5_endsIn {G : zG} {M : zM} {σ : zS} {k : Int} (hk : -2147483648 ≤ k ∧ k < 2147483648) (hA : zA σ) (hB : 0 ≤ σ 536 ∧ σ 536 ≤ 99999) : zCall G yX5_endsIn YX5_endsIn [.inr (some 187), .inl k] (zt M σ) (fun v M' => v = some (.inl (sEndsIn σ k)) ∧ ∃ N : zM, M' = zt N σ ∧ ∀ a : Int, a ≠ 189 → N a = M a) := by
  refine zEnter (by decide +kernel) rfl (Nat.le_of_ble_eq_true rfl) ?_
  have hI := hA.1
  have hs9 := hI.1
  unfold zIs at hs9
  refine z_aload_n dX5_endsIn_0 rfl ?_
  refine z_iload_n dX5_endsIn_1 rfl ?_
  refine z_callV mX5_isSnail (vX5_isSnail (by omega) hI) rfl dX5_endsIn_2 kX5_63 (by decide) rfl (by show _ ≤ 8; simp) (by decide) zsh187 (by decide) rfl (fun v2 M2 q2 => ?_)
  obtain ⟨rfl, b2, rfl, h2⟩ := q2
  try simp only [zpush]
  refine z_if_ne (tgt := 10) dX5_endsIn_5 (by decide) (by omega) (fun c5 => ?_) (fun c5 => ?_)
  · refine z_aload_n dX5_endsIn_10 rfl ?_
    refine z_getR (b := 188) dX5_endsIn_11 fX5_7 (by decide) zsh187 rfl rfl ?_
    refine z_iload_n dX5_endsIn_14 rfl ?_
    refine z_iconst dX5_endsIn_15 ?_
    refine z_callS mX5_of vX5_of rfl dX5_endsIn_16 kX5_40 (by decide) rfl (by show _ ≤ 8; simp) (fun v16 M16 q16 => ?_)
    obtain ⟨rfl, rfl⟩ := q16
    try simp only [zpush]
    have hk9 := hI.2.2 k (by omega) (by omega)
    unfold zIk at hk9
    refine z_sload dX5_endsIn_19 (by omega) ?_
    refine z_iconst dX5_endsIn_20 ?_
    refine z_icmp_ne (tgt := 27) dX5_endsIn_21 (by decide) (by omega) (by omega) (fun c21 => ?_) (fun c21 => ?_)
    · refine z_aload_n dX5_endsIn_27 rfl ?_
      refine z_callV mX5_putAside vX5_putAside rfl dX5_endsIn_28 kX5_152 (by decide) rfl (by show _ ≤ 8; simp) (by decide) zsh187 (by decide) rfl (fun v28 M28 q28 => ?_)
      obtain ⟨rfl, N28, rfl, hP28, hQ28⟩ := q28
      try simp only [zpush]
      refine z_aload_n dX5_endsIn_31 rfl ?_
      refine z_iload_n dX5_endsIn_32 rfl ?_
      refine z_callV mX5_ends (vX5_ends hA (by omega) (by omega)) rfl dX5_endsIn_33 kX5_173 (by decide) rfl (by show _ ≤ 8; simp) (by decide) zsh187 (by decide) rfl (fun v33 M33 q33 => ?_)
      obtain ⟨rfl, σ33, rfl, hE33⟩ := q33
      try simp only [zpush]
      refine z_istore_n dX5_endsIn_36 (by decide) ?_
      refine z_aload_n dX5_endsIn_37 rfl ?_
      refine z_callV mX5_putBack vX5_putBack rfl dX5_endsIn_38 kX5_158 (by decide) rfl (by show _ ≤ 8; simp) (by decide) zsh187 (by decide) rfl (fun v38 M38 q38 => ?_)
      obtain ⟨rfl, σ38, rfl, hB38, hO38⟩ := q38
      try simp only [zpush]
      refine z_iload_n dX5_endsIn_41 rfl ?_
      refine z_iret dX5_endsIn_42 rfl ?_
      have es : σ38 = σ := by
        funext j
        by_cases hj : 0 ≤ j ∧ j < 538
        · rw [hB38 j hj.1 hj.2, hQ28 j hj.1 hj.2]
        · rw [hO38 j (by omega), hE33 j (by omega)]
      exact ⟨by unfold sEndsIn; rw [if_neg (by omega), if_neg (by omega)], N28, by rw [es], hP28⟩
    · refine z_bipush dX5_endsIn_24 (by decide) ?_
      refine z_iret dX5_endsIn_26 rfl ?_
      exact ⟨by unfold sEndsIn; rw [if_neg (by omega), if_pos (by omega)], M, rfl, fun _ _ => rfl⟩
  · refine z_iconst dX5_endsIn_8 ?_
    refine z_iret dX5_endsIn_9 rfl ?_
    exact ⟨by unfold sEndsIn; rw [if_pos (by omega)], M, rfl, fun _ _ => rfl⟩

theorem vX5_bestLane {G : zG} {M : zM} {σ : zS} {slime w : Int} (hslime : -2147483648 ≤ slime ∧ slime < 2147483648) (hw : -2147483648 ≤ w ∧ w < 2147483648) (hA : zA σ) (hB : 0 ≤ σ 536 ∧ σ 536 ≤ 99999) (h8 : σ 535 ≤ 8) : zCall G yX5_bestLane YX5_bestLane [.inr (some 187), .inl slime, .inl w] (zt M σ) (fun v M' => v = some (.inl (sBestLane σ slime w)) ∧ ∃ N : zM, M' = zt N σ ∧ ∀ a : Int, a ≠ 189 → N a = M a) := by
  refine zEnter (by decide +kernel) rfl (Nat.le_of_ble_eq_true rfl) ?_
  have hI := hA.1
  have hs9 := hI.1
  unfold zIs at hs9
  refine z_iload_n dX5_bestLane_0 rfl ?_
  refine z_iconst dX5_bestLane_1 ?_
  refine z_bipush dX5_bestLane_2 (by decide) ?_
  refine z_callS mX5_in (vX5_in (by omega) (by omega) (by omega)) rfl dX5_bestLane_4 kX5_32 (by decide) rfl (by show _ ≤ 8; simp) (fun v4 M4 q4 => ?_)
  obtain ⟨rfl, b4, rfl, h4⟩ := q4
  try simp only [zpush]
  refine z_if_eq (tgt := 19) dX5_bestLane_7 (by decide) (by omega) (fun c7 => ?_) (fun c7 => ?_)
  · refine z_bipush dX5_bestLane_19 (by decide) ?_
    refine z_iret dX5_bestLane_21 rfl ?_
    exact ⟨by unfold sBestLane; rw [if_pos (by omega)], M, rfl, fun _ _ => rfl⟩
  · refine z_iload_n dX5_bestLane_10 rfl ?_
    refine z_iconst dX5_bestLane_11 ?_
    refine z_iconst dX5_bestLane_12 ?_
    refine z_callS mX5_in (vX5_in (by omega) (by omega) (by omega)) rfl dX5_bestLane_13 kX5_32 (by decide) rfl (by show _ ≤ 8; simp) (fun v13 M13 q13 => ?_)
    obtain ⟨rfl, b13, rfl, h13⟩ := q13
    try simp only [zpush]
    refine z_if_ne (tgt := 22) dX5_bestLane_16 (by decide) (by omega) (fun c16 => ?_) (fun c16 => ?_)
    · refine z_bipush dX5_bestLane_22 (by decide) ?_
      refine z_istore_n dX5_bestLane_24 (by decide) ?_
      refine z_bipush dX5_bestLane_25 (by decide) ?_
      refine z_istore dX5_bestLane_27 (by decide) ?_
      refine z_iconst dX5_bestLane_29 ?_
      refine z_istore dX5_bestLane_30 (by decide) ?_
      have L : ∀ (n : Nat) (c : Int) (f : Int) (t : Int) (N : zM), (0 ≤ c ∧ c ≤ 6) → (c + n = 7) → ((f = -5 ∧ t = -5) ∨ ((0 ≤ f ∧ f ≤ 5) ∧ (0 ≤ t ∧ t ≤ 300))) → (zfor (sBestF σ slime) c 6 (f, t) = sBest σ slime) → (∀ a : Int, a ≠ 189 → N a = M a) → zW G YX5_bestLane (fun v M' => v = some (.inl (sBestLane σ slime w)) ∧ ∃ N : zM, M' = zt N σ ∧ ∀ a : Int, a ≠ 189 → N a = M a) 32 [(5, .inl c), (3, .inl f), (4, .inl t), (0, .inr (some 187)), (1, .inl slime), (2, .inl w)] [] (zt N σ) := by
        intro n
        induction n with
        | zero => intro c f t N hc hcn hf he hN; exfalso; omega
        | succ n ih =>
          intro c f t N hc hcn hf he hN
          refine z_iload dX5_bestLane_32 rfl ?_
          refine z_bipush dX5_bestLane_34 (by decide) ?_
          refine z_icmp_ge (tgt := 105) dX5_bestLane_36 (by decide) (by omega) (by omega) (fun c36 => ?_) (fun c36 => ?_)
          · rw [zfor_end (by omega)] at he
            refine z_iload_n dX5_bestLane_105 rfl ?_
            refine z_if_ne (tgt := 113) dX5_bestLane_106 (by decide) (by omega) (fun c106 => ?_) (fun c106 => ?_)
            · refine z_iload dX5_bestLane_113 rfl ?_
              refine z_iret dX5_bestLane_115 rfl ?_
              refine ⟨?_, N, rfl, hN⟩
              unfold sBestLane
              rw [if_neg (by omega), ← he]
              first | rw [if_pos (by omega)] | rw [if_neg (by omega)]
            · refine z_iload_n dX5_bestLane_109 rfl ?_
              refine z_goto (tgt := 115) dX5_bestLane_110 (by decide) ?_
              refine z_iret dX5_bestLane_115 rfl ?_
              refine ⟨?_, N, rfl, hN⟩
              unfold sBestLane
              rw [if_neg (by omega), ← he]
              first | rw [if_pos (by omega)] | rw [if_neg (by omega)]
          · rw [zfor_step (by omega)] at he
            refine z_aload_n dX5_bestLane_39 rfl ?_
            refine z_iload dX5_bestLane_40 rfl ?_
            refine z_iconst dX5_bestLane_42 ?_
            refine z_callV mX5_snailOn (vX5_snailOn (by omega) (by omega) hI) rfl dX5_bestLane_43 kX5_51 (by decide) rfl (by show _ ≤ 8; simp) (by decide) zsh187 (by decide) rfl (fun v43 M43 q43 => ?_)
            obtain ⟨rfl, rfl⟩ := q43
            try simp only [zpush]
            have hor := sOn_r hI c 0
            refine z_bipush dX5_bestLane_46 (by decide) ?_
            refine z_icmp_ne (tgt := 99) dX5_bestLane_48 (by decide) (by omega) (by omega) (fun c48 => ?_) (fun c48 => ?_)
            · refine z_iinc dX5_bestLane_99 rfl (by decide) ?_
              refine z_goto (tgt := 32) dX5_bestLane_102 (by decide) ?_
              first
                | (rw [show sBestF σ slime c (f, t) = (c, sEnds (σ 535) 0 (sCome σ c slime)) from by unfold sBestF; rw [if_pos (by omega)]] at he; exact zsub' (ih (c + 1) c _ N52 (by omega) (by omega) (by omega) he (fun a ha => by rw [hP52 a ha]; exact hN a ha)) ⟨rfl, rfl, rfl, rfl, rfl, rfl, trivial⟩)
                | (rw [show sBestF σ slime c (f, t) = (f, t) from by unfold sBestF; rw [if_neg (by omega)]] at he; first | exact zsub' (ih (c + 1) f t N52 (by omega) (by omega) hf he (fun a ha => by rw [hP52 a ha]; exact hN a ha)) ⟨rfl, rfl, rfl, rfl, rfl, rfl, trivial⟩ | exact zsub' (ih (c + 1) f t N (by omega) (by omega) hf he hN) ⟨rfl, rfl, rfl, rfl, rfl, rfl, trivial⟩)
            · have hcA := zA_come hA (by omega) (lane := c) (slime := slime) (by omega) (by omega)
              refine z_aload_n dX5_bestLane_51 rfl ?_
              refine z_callV mX5_putAside vX5_putAside rfl dX5_bestLane_52 kX5_152 (by decide) rfl (by show _ ≤ 8; simp) (by decide) zsh187 (by decide) rfl (fun v52 M52 q52 => ?_)
              obtain ⟨rfl, N52, rfl, hP52, hQ52⟩ := q52
              try simp only [zpush]
              refine z_aload_n dX5_bestLane_55 rfl ?_
              refine z_aload_n dX5_bestLane_56 rfl ?_
              refine z_iload dX5_bestLane_57 rfl ?_
              refine z_iload_n dX5_bestLane_59 rfl ?_
              refine z_callV mX5_comes (vX5_comes (by omega)) rfl dX5_bestLane_60 kX5_60 (by decide) rfl (by show _ ≤ 8; simp) (by decide) zsh187 (by decide) rfl (fun v60 M60 q60 => ?_)
              obtain ⟨rfl, rfl⟩ := q60
              try simp only [zpush]
              refine z_callV mX5_ends (vX5_ends hcA.1 (by rw [hcA.2]; omega) (by omega)) rfl dX5_bestLane_63 kX5_173 (by decide) rfl (by show _ ≤ 8; simp) (by decide) zsh187 (by decide) rfl (fun v63 M63 q63 => ?_)
              obtain ⟨rfl, σ63, rfl, hE63⟩ := q63
              try simp only [zpush]
              have her := sEnds_r (σ 535) 0 (sCome σ c slime) (by omega)
              refine z_istore dX5_bestLane_66 (by decide) ?_
              refine z_aload_n dX5_bestLane_68 rfl ?_
              refine z_callV mX5_putBack vX5_putBack rfl dX5_bestLane_69 kX5_158 (by decide) rfl (by show _ ≤ 8; simp) (by decide) zsh187 (by decide) rfl (fun v69 M69 q69 => ?_)
              obtain ⟨rfl, σ69, rfl, hB69, hO69⟩ := q69
              try simp only [zpush]
              have es : σ69 = σ := by
                funext j
                by_cases hj : 0 ≤ j ∧ j < 538
                · rw [hB69 j hj.1 hj.2, hQ52 j hj.1 hj.2]
                · rw [hO69 j (by omega), hE63 j (by omega), zo_come (by omega) j (by omega)]
              rw [es]
              refine z_iload dX5_bestLane_72 rfl ?_
              refine z_bipush dX5_bestLane_74 (by decide) ?_
              refine z_icmp_eq (tgt := 99) dX5_bestLane_76 (by decide) (by omega) (by omega) (fun c76 => ?_) (fun c76 => ?_)
              · refine z_iinc dX5_bestLane_99 rfl (by decide) ?_
                refine z_goto (tgt := 32) dX5_bestLane_102 (by decide) ?_
                first
                  | (rw [show sBestF σ slime c (f, t) = (c, sEnds (σ 535) 0 (sCome σ c slime)) from by unfold sBestF; rw [if_pos (by omega)]] at he; exact zsub' (ih (c + 1) c _ N52 (by omega) (by omega) (by omega) he (fun a ha => by rw [hP52 a ha]; exact hN a ha)) ⟨rfl, rfl, rfl, rfl, rfl, rfl, trivial⟩)
                  | (rw [show sBestF σ slime c (f, t) = (f, t) from by unfold sBestF; rw [if_neg (by omega)]] at he; first | exact zsub' (ih (c + 1) f t N52 (by omega) (by omega) hf he (fun a ha => by rw [hP52 a ha]; exact hN a ha)) ⟨rfl, rfl, rfl, rfl, rfl, rfl, trivial⟩ | exact zsub' (ih (c + 1) f t N (by omega) (by omega) hf he hN) ⟨rfl, rfl, rfl, rfl, rfl, rfl, trivial⟩)
              · refine z_iload_n dX5_bestLane_79 rfl ?_
                refine z_bipush dX5_bestLane_80 (by decide) ?_
                refine z_icmp_eq (tgt := 92) dX5_bestLane_82 (by decide) (by omega) (by omega) (fun c82 => ?_) (fun c82 => ?_)
                · refine z_iload dX5_bestLane_92 rfl ?_
                  refine z_istore_n dX5_bestLane_94 (by decide) ?_
                  refine z_iload dX5_bestLane_95 rfl ?_
                  refine z_istore dX5_bestLane_97 (by decide) ?_
                  refine z_iinc dX5_bestLane_99 rfl (by decide) ?_
                  refine z_goto (tgt := 32) dX5_bestLane_102 (by decide) ?_
                  first
                    | (rw [show sBestF σ slime c (f, t) = (c, sEnds (σ 535) 0 (sCome σ c slime)) from by unfold sBestF; rw [if_pos (by omega)]] at he; exact zsub' (ih (c + 1) c _ N52 (by omega) (by omega) (by omega) he (fun a ha => by rw [hP52 a ha]; exact hN a ha)) ⟨rfl, rfl, rfl, rfl, rfl, rfl, trivial⟩)
                    | (rw [show sBestF σ slime c (f, t) = (f, t) from by unfold sBestF; rw [if_neg (by omega)]] at he; first | exact zsub' (ih (c + 1) f t N52 (by omega) (by omega) hf he (fun a ha => by rw [hP52 a ha]; exact hN a ha)) ⟨rfl, rfl, rfl, rfl, rfl, rfl, trivial⟩ | exact zsub' (ih (c + 1) f t N (by omega) (by omega) hf he hN) ⟨rfl, rfl, rfl, rfl, rfl, rfl, trivial⟩)
                · refine z_iload dX5_bestLane_85 rfl ?_
                  refine z_iload dX5_bestLane_87 rfl ?_
                  refine z_icmp_ge (tgt := 99) dX5_bestLane_89 (by decide) (by omega) (by omega) (fun c89 => ?_) (fun c89 => ?_)
                  · refine z_iinc dX5_bestLane_99 rfl (by decide) ?_
                    refine z_goto (tgt := 32) dX5_bestLane_102 (by decide) ?_
                    first
                      | (rw [show sBestF σ slime c (f, t) = (c, sEnds (σ 535) 0 (sCome σ c slime)) from by unfold sBestF; rw [if_pos (by omega)]] at he; exact zsub' (ih (c + 1) c _ N52 (by omega) (by omega) (by omega) he (fun a ha => by rw [hP52 a ha]; exact hN a ha)) ⟨rfl, rfl, rfl, rfl, rfl, rfl, trivial⟩)
                      | (rw [show sBestF σ slime c (f, t) = (f, t) from by unfold sBestF; rw [if_neg (by omega)]] at he; first | exact zsub' (ih (c + 1) f t N52 (by omega) (by omega) hf he (fun a ha => by rw [hP52 a ha]; exact hN a ha)) ⟨rfl, rfl, rfl, rfl, rfl, rfl, trivial⟩ | exact zsub' (ih (c + 1) f t N (by omega) (by omega) hf he hN) ⟨rfl, rfl, rfl, rfl, rfl, rfl, trivial⟩)
                  · refine z_iload dX5_bestLane_92 rfl ?_
                    refine z_istore_n dX5_bestLane_94 (by decide) ?_
                    refine z_iload dX5_bestLane_95 rfl ?_
                    refine z_istore dX5_bestLane_97 (by decide) ?_
                    refine z_iinc dX5_bestLane_99 rfl (by decide) ?_
                    refine z_goto (tgt := 32) dX5_bestLane_102 (by decide) ?_
                    first
                      | (rw [show sBestF σ slime c (f, t) = (c, sEnds (σ 535) 0 (sCome σ c slime)) from by unfold sBestF; rw [if_pos (by omega)]] at he; exact zsub' (ih (c + 1) c _ N52 (by omega) (by omega) (by omega) he (fun a ha => by rw [hP52 a ha]; exact hN a ha)) ⟨rfl, rfl, rfl, rfl, rfl, rfl, trivial⟩)
                      | (rw [show sBestF σ slime c (f, t) = (f, t) from by unfold sBestF; rw [if_neg (by omega)]] at he; first | exact zsub' (ih (c + 1) f t N52 (by omega) (by omega) hf he (fun a ha => by rw [hP52 a ha]; exact hN a ha)) ⟨rfl, rfl, rfl, rfl, rfl, rfl, trivial⟩ | exact zsub' (ih (c + 1) f t N (by omega) (by omega) hf he hN) ⟨rfl, rfl, rfl, rfl, rfl, rfl, trivial⟩)
      exact zsub' (L 7 0 (-5) (-5) M (by omega) (by omega) (by omega) rfl (fun _ _ => rfl)) ⟨rfl, rfl, rfl, rfl, rfl, rfl, trivial⟩
    · refine z_bipush dX5_bestLane_19 (by decide) ?_
      refine z_iret dX5_bestLane_21 rfl ?_
      exact ⟨by unfold sBestLane; rw [if_pos (by omega)], M, rfl, fun _ _ => rfl⟩
end
section
theorem vX5_wayUp {G : zG} {M : zM} {σ : zS} {lane row w : Int} (hlane : -2147483648 ≤ lane ∧ lane < 2147483648) (hrow : -2147483648 ≤ row ∧ row < 2147483648) (hw : -2147483648 ≤ w ∧ w < 2147483648) (hA : zA σ) : zCall G yX5_wayUp YX5_wayUp [.inr (some 187), .inl lane, .inl row, .inl w] (zt M σ) (fun v M' => v = some (.inl (sWay σ lane row w)) ∧ ∃ N : zM, M' = zt N σ ∧ ∀ a : Int, a ≠ 193 → a ≠ 194 → N a = M a) := by
  refine zEnter (by decide +kernel) rfl (Nat.le_of_ble_eq_true rfl) ?_
  have hI := hA.1
  have hs9 := hI.1
  unfold zIs at hs9
  refine z_iload_n dX5_wayUp_0 rfl ?_
  refine z_iload_n dX5_wayUp_1 rfl ?_
  refine z_callS mX5_isCell (vX5_isCell (by omega) (by omega)) rfl dX5_wayUp_2 kX5_66 (by decide) rfl (by show _ ≤ 8; simp) (fun v2 M2 q2 => ?_)
  obtain ⟨rfl, b2, rfl, h2⟩ := q2
  try simp only [zpush]
  refine z_if_ne (tgt := 10) dX5_wayUp_5 (by decide) (by omega) (fun c5 => ?_) (fun c5 => ?_)
  · refine z_iload_n dX5_wayUp_10 rfl ?_
    refine z_iconst dX5_wayUp_11 ?_
    refine z_iconst dX5_wayUp_12 ?_
    refine z_callS mX5_in (vX5_in (by omega) (by omega) (by omega)) rfl dX5_wayUp_13 kX5_32 (by decide) rfl (by show _ ≤ 8; simp) (fun v13 M13 q13 => ?_)
    obtain ⟨rfl, b13, rfl, h13⟩ := q13
    try simp only [zpush]
    refine z_if_ne (tgt := 22) dX5_wayUp_16 (by decide) (by omega) (fun c16 => ?_) (fun c16 => ?_)
    · refine z_iconst dX5_wayUp_22 ?_
      refine z_istore dX5_wayUp_23 (by decide) ?_
      have L : ∀ (n : Nat) (c : Int) (N : zM), (0 ≤ c ∧ c ≤ 6) → (c + n = 7) → (∀ a : Int, a ≠ 193 → N a = M a) → (∀ j : Int, 0 ≤ j → j < c → N 193 j = 0) → zW G YX5_wayUp (fun v M' => v = some (.inl (sWay σ lane row w)) ∧ ∃ N : zM, M' = zt N σ ∧ ∀ a : Int, a ≠ 193 → a ≠ 194 → N a = M a) 25 [(4, .inl c), (0, .inr (some 187)), (1, .inl lane), (2, .inl row), (3, .inl w)] [] (zt N σ) := by
        intro n
        induction n with
        | zero => intro c N hc hcn h1 h2; exfalso; omega
        | succ n ih =>
          intro c N hc hcn h1 h2
          refine z_iload dX5_wayUp_25 rfl ?_
          refine z_bipush dX5_wayUp_27 (by decide) ?_
          refine z_icmp_ge (tgt := 46) dX5_wayUp_29 (by decide) (by omega) (by omega) (fun c29 => ?_) (fun c29 => ?_)
          · refine z_bipush dX5_wayUp_46 (by decide) ?_
            refine z_istore dX5_wayUp_48 (by decide) ?_
            have L2 : ∀ (n : Nat) (r : Int) (N : zM), (row - 1 ≤ r ∧ r ≤ 18) → (n = r - row + 2) → (∀ a : Int, a ≠ 193 → a ≠ 194 → N a = M a) → (∀ j : Int, 0 ≤ j → j < 6 → N 193 j = sWayN σ (18 - r).toNat j) → zW G YX5_wayUp (fun v M' => v = some (.inl (sWay σ lane row w)) ∧ ∃ N : zM, M' = zt N σ ∧ ∀ a : Int, a ≠ 193 → a ≠ 194 → N a = M a) 50 [(4, .inl r), (0, .inr (some 187)), (1, .inl lane), (2, .inl row), (3, .inl w)] [] (zt N σ) := by
              intro n
              induction n with
              | zero => intro r N hr hrn h1 h2; exfalso; omega
              | succ n ih =>
                intro r N hr hrn h1 h2
                refine z_iload dX5_wayUp_50 rfl ?_
                refine z_iload_n dX5_wayUp_52 rfl ?_
                refine z_icmp_lt (tgt := 216) dX5_wayUp_53 (by decide) (by omega) (by omega) (fun c53 => ?_) (fun c53 => ?_)
                · refine z_aload_n dX5_wayUp_216 rfl ?_
                  refine z_getR (b := 193) dX5_wayUp_217 fX5_26 (by decide) zsh187 rfl rfl ?_
                  refine z_iload_n dX5_wayUp_220 rfl ?_
                  refine z_oload dX5_wayUp_221 (by decide) (by decide) (zsh193) (by omega) (by decide) ?_
                  refine z_iret dX5_wayUp_222 rfl ?_
                  refine ⟨?_, N, rfl, h1⟩
                  unfold sWay
                  rw [if_neg (by omega), if_neg (by omega), h2 lane (by omega) (by omega), show (18 - r).toNat = (19 - row).toNat by omega]
                · have ih2 := ih
                  refine z_iconst dX5_wayUp_56 ?_
                  refine z_istore dX5_wayUp_57 (by decide) ?_
                  have L3 : ∀ (n : Nat) (c : Int) (N1 : zM), (0 ≤ c ∧ c ≤ 6) → (c + n = 7) → (∀ a : Int, a ≠ 194 → N1 a = N a) → (∀ j : Int, 0 ≤ j → j < c → N1 194 j = sWayN σ (19 - r).toNat j) → zW G YX5_wayUp (fun v M' => v = some (.inl (sWay σ lane row w)) ∧ ∃ N : zM, M' = zt N σ ∧ ∀ a : Int, a ≠ 193 → a ≠ 194 → N a = M a) 59 [(5, .inl c), (4, .inl r), (0, .inr (some 187)), (1, .inl lane), (2, .inl row), (3, .inl w)] [] (zt N1 σ) := by
                    intro n
                    induction n with
                    | zero => intro c N1 hc hcn h3 h4; exfalso; omega
                    | succ n ih =>
                      intro c N1 hc hcn h3 h4
                      refine z_iload dX5_wayUp_59 rfl ?_
                      refine z_bipush dX5_wayUp_61 (by decide) ?_
                      refine z_icmp_ge (tgt := 180) dX5_wayUp_63 (by decide) (by omega) (by omega) (fun c63 => ?_) (fun c63 => ?_)
                      · refine z_iconst dX5_wayUp_180 ?_
                        refine z_istore dX5_wayUp_181 (by decide) ?_
                        have L5 : ∀ (n : Nat) (d : Int) (N2 : zM), (0 ≤ d ∧ d ≤ 6) → (d + n = 7) → (∀ a : Int, a ≠ 193 → N2 a = N1 a) → (∀ j : Int, 0 ≤ j → j < d → N2 193 j = N1 194 j) → zW G YX5_wayUp (fun v M' => v = some (.inl (sWay σ lane row w)) ∧ ∃ N : zM, M' = zt N σ ∧ ∀ a : Int, a ≠ 193 → a ≠ 194 → N a = M a) 183 [(5, .inl d), (4, .inl r), (0, .inr (some 187)), (1, .inl lane), (2, .inl row), (3, .inl w)] [] (zt N2 σ) := by
                          intro n
                          induction n with
                          | zero => intro d N2 hd2 hdn h5 h6; exfalso; omega
                          | succ n ih =>
                            intro d N2 hd2 hdn h5 h6
                            refine z_iload dX5_wayUp_183 rfl ?_
                            refine z_bipush dX5_wayUp_185 (by decide) ?_
                            refine z_icmp_ge (tgt := 210) dX5_wayUp_187 (by decide) (by omega) (by omega) (fun c187 => ?_) (fun c187 => ?_)
                            · refine z_iinc dX5_wayUp_210 rfl (by decide) ?_
                              refine z_goto (tgt := 50) dX5_wayUp_213 (by decide) ?_
                              exact zsub' (ih2 (r + -1) N2 (by omega) (by omega) (fun a q1 q2 => by rw [h5 a q1, h3 a q2]; exact h1 a q1 q2) (fun j q1 q2 => by rw [h6 j q1 (by omega), h4 j q1 (by omega), show (18 - (r + -1)).toNat = (19 - r).toNat by omega])) ⟨rfl, rfl, rfl, rfl, rfl, trivial⟩
                            · refine z_aload_n dX5_wayUp_190 rfl ?_
                              refine z_getR (b := 193) dX5_wayUp_191 fX5_26 (by decide) zsh187 rfl rfl ?_
                              refine z_iload dX5_wayUp_194 rfl ?_
                              refine z_aload_n dX5_wayUp_196 rfl ?_
                              refine z_getR (b := 194) dX5_wayUp_197 fX5_29 (by decide) zsh187 rfl rfl ?_
                              refine z_iload dX5_wayUp_200 rfl ?_
                              refine z_oload dX5_wayUp_202 (by decide) (by decide) (zsh194) (by omega) (by decide) ?_
                              refine z_ostore dX5_wayUp_203 (by decide) (by decide) (zsh193) (by omega) (by decide) (fun N203 hN203 => ?_)
                              refine z_iinc dX5_wayUp_204 rfl (by decide) ?_
                              refine z_goto (tgt := 183) dX5_wayUp_207 (by decide) ?_
                              exact zsub' (ih (d + 1) N203 (by omega) (by omega) (fun a ha => by rw [hN203, zm_up_off ha]; exact h5 a ha) (fun j q1 q2 => if hj : j = d then (by rw [hN203, hj, zm_up_at, h5 194 (by decide)]) else (by rw [hN203, zm_up_ne hj]; exact h6 j q1 (by omega)))) ⟨rfl, rfl, rfl, rfl, rfl, rfl, trivial⟩
                        exact zsub' (L5 7 0 N1 (by omega) (by omega) (fun _ _ => rfl) (fun j q1 q2 => by omega)) ⟨rfl, rfl, rfl, rfl, rfl, rfl, trivial⟩
                      · have ih3 := ih
                        have hu := fun x q1 q2 => sWayN_r hI (18 - r).toNat x (by omega) q1 q2
                        refine z_bipush dX5_wayUp_66 (by decide) ?_
                        refine z_istore dX5_wayUp_68 (by decide) ?_
                        refine z_iconst dX5_wayUp_70 ?_
                        refine z_istore dX5_wayUp_71 (by decide) ?_
                        have L4 : ∀ (n : Nat) (s : Int) (f : Int), (0 ≤ s ∧ s ≤ 3) → (s + n = 4) → (f = -5 ∨ (0 ≤ f ∧ f ≤ 1000)) → (zfor (sWayF σ (sWayN σ (18 - r).toNat) r c) s 3 f = sWayR σ (sWayN σ (18 - r).toNat) r c) → zW G YX5_wayUp (fun v M' => v = some (.inl (sWay σ lane row w)) ∧ ∃ N : zM, M' = zt N σ ∧ ∀ a : Int, a ≠ 193 → a ≠ 194 → N a = M a) 73 [(7, .inl s), (6, .inl f), (5, .inl c), (4, .inl r), (0, .inr (some 187)), (1, .inl lane), (2, .inl row), (3, .inl w)] [] (zt N1 σ) := by
                          intro n
                          induction n with
                          | zero => intro s f hs hsn hf he; exfalso; omega
                          | succ n ih =>
                            intro s f hs hsn hf he
                            refine z_iload dX5_wayUp_73 rfl ?_
                            refine z_iconst dX5_wayUp_75 ?_
                            refine z_icmp_ge (tgt := 165) dX5_wayUp_76 (by decide) (by omega) (by omega) (fun c76 => ?_) (fun c76 => ?_)
                            · rw [zfor_end (by omega)] at he
                              refine z_aload_n dX5_wayUp_165 rfl ?_
                              refine z_getR (b := 194) dX5_wayUp_166 fX5_29 (by decide) zsh187 rfl rfl ?_
                              refine z_iload dX5_wayUp_169 rfl ?_
                              refine z_iload dX5_wayUp_171 rfl ?_
                              refine z_ostore dX5_wayUp_173 (by decide) (by decide) (zsh194) (by omega) (by decide) (fun N173 hN173 => ?_)
                              refine z_iinc dX5_wayUp_174 rfl (by decide) ?_
                              refine z_goto (tgt := 59) dX5_wayUp_177 (by decide) ?_
                              exact zsub' (ih3 (c + 1) N173 (by omega) (by omega) (fun a ha => by rw [hN173, zm_up_off ha]; exact h3 a ha) (fun j q1 q2 => if hj : j = c then (by rw [hN173, hj, zm_up_at, sWayN_step σ (by omega), he]) else (by rw [hN173, zm_up_ne hj]; exact h4 j q1 (by omega)))) ⟨rfl, rfl, rfl, rfl, rfl, rfl, trivial⟩
                            · rw [zfor_step (by omega)] at he
                              refine z_iload dX5_wayUp_79 rfl ?_
                              refine z_iload dX5_wayUp_81 rfl ?_
                              refine z_callS mX5_laneOf (vX5_laneOf (by omega)) rfl dX5_wayUp_83 kX5_87 (by decide) rfl (by show _ ≤ 8; simp) (fun v83 M83 q83 => ?_)
                              obtain ⟨rfl, rfl⟩ := q83
                              try simp only [zpush]
                              generalize hx : sLn c s = x
                              have hxr : -1 ≤ x ∧ x ≤ 6 := by rw [← hx]; exact sLn_r (by omega) s
                              refine z_istore dX5_wayUp_86 (by decide) ?_
                              refine z_iload dX5_wayUp_88 rfl ?_
                              refine z_callS mX5_isLane (vX5_isLane (by omega)) rfl dX5_wayUp_90 kX5_36 (by decide) rfl (by show _ ≤ 8; simp) (fun v90 M90 q90 => ?_)
                              obtain ⟨rfl, b90, rfl, h90⟩ := q90
                              try simp only [zpush]
                              refine z_if_eq (tgt := 125) dX5_wayUp_93 (by decide) (by omega) (fun c93 => ?_) (fun c93 => ?_)
                              · refine z_bipush dX5_wayUp_125 (by decide) ?_
                                refine z_istore dX5_wayUp_127 (by decide) ?_
                                refine z_iload dX5_wayUp_129 rfl ?_
                                refine z_bipush dX5_wayUp_131 (by decide) ?_
                                refine z_icmp_eq (tgt := 155) dX5_wayUp_133 (by decide) (by decide) (by decide) (fun _ => ?_) (fun h => absurd h (by decide))
                                refine z_iload dX5_wayUp_155 rfl ?_
                                refine z_istore dX5_wayUp_157 (by decide) ?_
                                refine z_iinc dX5_wayUp_159 rfl (by decide) ?_
                                refine z_goto (tgt := 73) dX5_wayUp_162 (by decide) ?_
                                first
                                  | (rw [show sWayF σ (sWayN σ (18 - r).toNat) r c s f = sWayN σ (18 - r).toNat x + 1 + σ (6 * (r + 1) + x) from by unfold sWayF; rw [hx, if_pos (by omega)]] at he; exact zsub' (ih (s + 1) _ (by omega) (by omega) (by omega) he) ⟨rfl, rfl, rfl, rfl, rfl, rfl, rfl, rfl, trivial⟩)
                                  | (rw [show sWayF σ (sWayN σ (18 - r).toNat) r c s f = f from by unfold sWayF; rw [hx, if_neg (by omega)]] at he; exact zsub' (ih (s + 1) f (by omega) (by omega) hf he) ⟨rfl, rfl, rfl, rfl, rfl, rfl, rfl, rfl, trivial⟩)
                              · have hN1 : N1 193 x = sWayN σ (18 - r).toNat x := by rw [h3 193 (by decide)]; exact h2 x (by omega) (by omega)
                                have hux := hu x (by omega) (by omega)
                                have hcx := hI.2.1 (6 * (r + 1) + x) (by omega) (by omega)
                                unfold zIc at hcx
                                refine z_aload_n dX5_wayUp_96 rfl ?_
                                refine z_getR (b := 193) dX5_wayUp_97 fX5_26 (by decide) zsh187 rfl rfl ?_
                                refine z_iload dX5_wayUp_100 rfl ?_
                                refine z_oload dX5_wayUp_102 (by decide) (by decide) (zsh193) (by omega) (by decide) ?_
                                refine z_iconst dX5_wayUp_103 ?_
                                refine z_iadd dX5_wayUp_104 ?_
                                refine z_aload_n dX5_wayUp_105 rfl ?_
                                refine z_getR (b := 188) dX5_wayUp_106 fX5_7 (by decide) zsh187 rfl rfl ?_
                                refine z_iconst dX5_wayUp_109 ?_
                                refine z_iload dX5_wayUp_110 rfl ?_
                                refine z_iload dX5_wayUp_112 rfl ?_
                                refine z_iconst dX5_wayUp_114 ?_
                                refine z_iadd dX5_wayUp_115 ?_
                                refine z_callS mX5_at vX5_at rfl dX5_wayUp_116 kX5_70 (by decide) rfl (by show _ ≤ 8; simp) (fun v116 M116 q116 => ?_)
                                obtain ⟨rfl, rfl⟩ := q116
                                try simp only [zpush]
                                refine z_iadd dX5_wayUp_119 ?_
                                refine z_sload dX5_wayUp_120 (by omega) ?_
                                rw [hN1, Int.zero_add]
                                refine z_iadd dX5_wayUp_121 ?_
                                refine z_goto (tgt := 127) dX5_wayUp_122 (by decide) ?_
                                refine z_istore dX5_wayUp_127 (by decide) ?_
                                refine z_iload dX5_wayUp_129 rfl ?_
                                refine z_bipush dX5_wayUp_131 (by decide) ?_
                                refine z_icmp_eq (tgt := 155) dX5_wayUp_133 (by decide) (by omega) (by omega) (fun c133 => ?_) (fun c133 => ?_)
                                · refine z_iload dX5_wayUp_155 rfl ?_
                                  refine z_istore dX5_wayUp_157 (by decide) ?_
                                  refine z_iinc dX5_wayUp_159 rfl (by decide) ?_
                                  refine z_goto (tgt := 73) dX5_wayUp_162 (by decide) ?_
                                  first
                                    | (rw [show sWayF σ (sWayN σ (18 - r).toNat) r c s f = sWayN σ (18 - r).toNat x + 1 + σ (6 * (r + 1) + x) from by unfold sWayF; rw [hx, if_pos (by omega)]] at he; exact zsub' (ih (s + 1) _ (by omega) (by omega) (by omega) he) ⟨rfl, rfl, rfl, rfl, rfl, rfl, rfl, rfl, trivial⟩)
                                    | (rw [show sWayF σ (sWayN σ (18 - r).toNat) r c s f = f from by unfold sWayF; rw [hx, if_neg (by omega)]] at he; exact zsub' (ih (s + 1) f (by omega) (by omega) hf he) ⟨rfl, rfl, rfl, rfl, rfl, rfl, rfl, rfl, trivial⟩)
                                · refine z_iload dX5_wayUp_136 rfl ?_
                                  refine z_bipush dX5_wayUp_138 (by decide) ?_
                                  refine z_icmp_eq (tgt := 150) dX5_wayUp_140 (by decide) (by omega) (by omega) (fun c140 => ?_) (fun c140 => ?_)
                                  · refine z_iload dX5_wayUp_150 rfl ?_
                                    refine z_goto (tgt := 157) dX5_wayUp_152 (by decide) ?_
                                    refine z_istore dX5_wayUp_157 (by decide) ?_
                                    refine z_iinc dX5_wayUp_159 rfl (by decide) ?_
                                    refine z_goto (tgt := 73) dX5_wayUp_162 (by decide) ?_
                                    first
                                      | (rw [show sWayF σ (sWayN σ (18 - r).toNat) r c s f = sWayN σ (18 - r).toNat x + 1 + σ (6 * (r + 1) + x) from by unfold sWayF; rw [hx, if_pos (by omega)]] at he; exact zsub' (ih (s + 1) _ (by omega) (by omega) (by omega) he) ⟨rfl, rfl, rfl, rfl, rfl, rfl, rfl, rfl, trivial⟩)
                                      | (rw [show sWayF σ (sWayN σ (18 - r).toNat) r c s f = f from by unfold sWayF; rw [hx, if_neg (by omega)]] at he; exact zsub' (ih (s + 1) f (by omega) (by omega) hf he) ⟨rfl, rfl, rfl, rfl, rfl, rfl, rfl, rfl, trivial⟩)
                                  · refine z_iload dX5_wayUp_143 rfl ?_
                                    refine z_iload dX5_wayUp_145 rfl ?_
                                    refine z_icmp_ge (tgt := 155) dX5_wayUp_147 (by decide) (by omega) (by omega) (fun c147 => ?_) (fun c147 => ?_)
                                    · refine z_iload dX5_wayUp_155 rfl ?_
                                      refine z_istore dX5_wayUp_157 (by decide) ?_
                                      refine z_iinc dX5_wayUp_159 rfl (by decide) ?_
                                      refine z_goto (tgt := 73) dX5_wayUp_162 (by decide) ?_
                                      first
                                        | (rw [show sWayF σ (sWayN σ (18 - r).toNat) r c s f = sWayN σ (18 - r).toNat x + 1 + σ (6 * (r + 1) + x) from by unfold sWayF; rw [hx, if_pos (by omega)]] at he; exact zsub' (ih (s + 1) _ (by omega) (by omega) (by omega) he) ⟨rfl, rfl, rfl, rfl, rfl, rfl, rfl, rfl, trivial⟩)
                                        | (rw [show sWayF σ (sWayN σ (18 - r).toNat) r c s f = f from by unfold sWayF; rw [hx, if_neg (by omega)]] at he; exact zsub' (ih (s + 1) f (by omega) (by omega) hf he) ⟨rfl, rfl, rfl, rfl, rfl, rfl, rfl, rfl, trivial⟩)
                                    · refine z_iload dX5_wayUp_150 rfl ?_
                                      refine z_goto (tgt := 157) dX5_wayUp_152 (by decide) ?_
                                      refine z_istore dX5_wayUp_157 (by decide) ?_
                                      refine z_iinc dX5_wayUp_159 rfl (by decide) ?_
                                      refine z_goto (tgt := 73) dX5_wayUp_162 (by decide) ?_
                                      first
                                        | (rw [show sWayF σ (sWayN σ (18 - r).toNat) r c s f = sWayN σ (18 - r).toNat x + 1 + σ (6 * (r + 1) + x) from by unfold sWayF; rw [hx, if_pos (by omega)]] at he; exact zsub' (ih (s + 1) _ (by omega) (by omega) (by omega) he) ⟨rfl, rfl, rfl, rfl, rfl, rfl, rfl, rfl, trivial⟩)
                                        | (rw [show sWayF σ (sWayN σ (18 - r).toNat) r c s f = f from by unfold sWayF; rw [hx, if_neg (by omega)]] at he; exact zsub' (ih (s + 1) f (by omega) (by omega) hf he) ⟨rfl, rfl, rfl, rfl, rfl, rfl, rfl, rfl, trivial⟩)
                        exact zsub' (L4 4 0 (-5) (by omega) (by omega) (by omega) rfl) ⟨rfl, rfl, rfl, rfl, rfl, rfl, rfl, rfl, trivial⟩
                  exact zsub' (L3 7 0 N (by omega) (by omega) (fun _ _ => rfl) (fun j q1 q2 => by omega)) ⟨rfl, rfl, rfl, rfl, rfl, rfl, trivial⟩
            exact zsub' (L2 (20 - row).toNat 18 N (by omega) (by omega) (fun a q1 q2 => h1 a q1) (fun j q1 q2 => by rw [h2 j q1 (by omega)]; rfl)) ⟨rfl, rfl, rfl, rfl, rfl, trivial⟩
          · refine z_aload_n dX5_wayUp_32 rfl ?_
            refine z_getR (b := 193) dX5_wayUp_33 fX5_26 (by decide) zsh187 rfl rfl ?_
            refine z_iload dX5_wayUp_36 rfl ?_
            refine z_iconst dX5_wayUp_38 ?_
            refine z_ostore dX5_wayUp_39 (by decide) (by decide) (zsh193) (by omega) (by decide) (fun N39 hN39 => ?_)
            refine z_iinc dX5_wayUp_40 rfl (by decide) ?_
            refine z_goto (tgt := 25) dX5_wayUp_43 (by decide) ?_
            exact zsub' (ih (c + 1) N39 (by omega) (by omega) (fun a ha => by rw [hN39, zm_up_off ha]; exact h1 a ha) (fun j q1 q2 => if hj : j = c then (by rw [hN39, hj]; exact zm_up_at) else (by rw [hN39, zm_up_ne hj]; exact h2 j q1 (by omega)))) ⟨rfl, rfl, rfl, rfl, rfl, trivial⟩
      exact zsub' (L 7 0 M (by omega) (by omega) (fun _ _ => rfl) (fun j q1 q2 => by omega)) ⟨rfl, rfl, rfl, rfl, rfl, trivial⟩
    · refine z_bipush dX5_wayUp_19 (by decide) ?_
      refine z_iret dX5_wayUp_21 rfl ?_
      exact ⟨by unfold sWay; rw [if_neg (by omega), if_pos (by omega)], M, rfl, fun _ _ _ => rfl⟩
  · refine z_iconst dX5_wayUp_8 ?_
    refine z_iret dX5_wayUp_9 rfl ?_
    exact ⟨by unfold sWay; rw [if_pos (by omega)], M, rfl, fun _ _ _ => rfl⟩
end
section
/-! ===== texts ===== -/
def pN (T : zS) (n i : Int) : Int := if i < n then T i else -1
def nV (T : zS) (n hi i : Int) : Int := if pN T n i - 48 > 0 ∧ (48 ≤ pN T n (i + 1) ∧ pN T n (i + 1) ≤ 57) ∧ 10 * (pN T n i - 48) + pN T n (i + 1) - 48 ≤ hi then 10 * (pN T n i - 48) + pN T n (i + 1) - 48 else pN T n i - 48
def nE (T : zS) (n hi i : Int) : Int := if pN T n i - 48 > 0 ∧ (48 ≤ pN T n (i + 1) ∧ pN T n (i + 1) ≤ 57) ∧ 10 * (pN T n i - 48) + pN T n (i + 1) - 48 ≤ hi then i + 2 else i + 1
/-- a place in the text, and whether it is wrong there -/
def pS (T : zS) (n c : Int) (x : Int × Int) : Int × Int := if x.1 = 0 ∧ pN T n x.2 = c then (0, x.2 + 1) else (1, x.2)
def pM (T : zS) (n lo hi : Int) (x : Int × Int) : Int × Int := if x.1 = 0 ∧ lo ≤ pN T n x.2 - 48 ∧ pN T n x.2 - 48 ≤ (if hi < 9 then hi else 9) then (0, nE T n hi x.2) else (1, x.2)
/-- a thing from i on -/
def pA (T : zS) (n i : Int) : Int × Int := pM T n 0 5 (0, i + 1)
def pB1 (T : zS) (n i : Int) : Int × Int := pS T n 42 (pA T n i)
def pB2 (T : zS) (n i : Int) : Int × Int := pS T n 46 (pA T n i)
def pC (T : zS) (n i : Int) : Int × Int := pS T n 61 (pM T n 0 19 (pB2 T n i))
def pT (T : zS) (n i : Int) : Int × Int :=
  if pN T n i = 46 then pM T n 1 99 (0, i + 1)
  else if pN T n i = 115 then pM T n 0 99 (pB1 T n i)
  else if pN T n i = 102 then pM T n 0 9 (pC T n i)
  else (1, i)
/-- its numbers -/
def p1 (T : zS) (n i : Int) : Int := if pN T n i = 46 then nV T n 99 (i + 1) else nV T n 5 (i + 1)
def p2 (T : zS) (n i : Int) : Int := if pN T n i = 115 then nV T n 99 (pB1 T n i).2 else nV T n 19 (pB2 T n i).2
def p3 (T : zS) (n i : Int) : Int := nV T n 9 (pC T n i).2
/-- the whole text: wrong or not, the place, how many things -/
def pRn (T : zS) (n : Int) : Nat → Int → Int → (Int × Int) × Int
  | 0, i, k => ((1, i), k)
  | f + 1, i, k => if (pT T n i).1 = 0 ∧ (pT T n i).2 < n then (if (pS T n 59 (pT T n i)).1 = 0 then pRn T n f (pS T n 59 (pT T n i)).2 (k + 1) else (pS T n 59 (pT T n i), k + 1)) else (pT T n i, k + 1)
def pR (T : zS) (n i k : Int) : (Int × Int) × Int := pRn T n (n - i + 1).toNat i k
theorem nE_r (T : zS) (n hi i : Int) : i + 1 ≤ nE T n hi i ∧ nE T n hi i ≤ i + 2 := by
  unfold nE
  split <;> omega
theorem nE_n {T : zS} {n hi i : Int} (h0 : 0 ≤ pN T n i - 48) : nE T n hi i ≤ n := by
  have h1 : i < n := by
    unfold pN at h0
    split at h0
    · assumption
    · omega
  unfold nE
  split
  · rename_i h
    have h2 : i + 1 < n := by
      have := h.2.1
      unfold pN at this
      split at this
      · assumption
      · omega
    omega
  · omega
theorem pM_r {T : zS} {n lo hi : Int} {x : Int × Int} (hlo : 0 ≤ lo) (hx : x.2 ≤ n) : x.2 ≤ (pM T n lo hi x).2 ∧ (pM T n lo hi x).2 ≤ n ∧ ((pM T n lo hi x).1 = 0 ∨ (pM T n lo hi x).1 = 1) ∧ ((pM T n lo hi x).1 = 0 → x.1 = 0 ∧ x.2 + 1 ≤ (pM T n lo hi x).2) := by
  unfold pM
  by_cases h : x.1 = 0 ∧ lo ≤ pN T n x.2 - 48 ∧ pN T n x.2 - 48 ≤ (if hi < 9 then hi else 9)
  · rw [if_pos h]
    have h1 := nE_r T n hi x.2
    have h2 := nE_n (T := T) (n := n) (hi := hi) (i := x.2) (by have := h.2.1; omega)
    have h3 := h.1
    dsimp only
    omega
  · rw [if_neg h]
    dsimp only
    omega
theorem pS_r {T : zS} {n c : Int} {x : Int × Int} (hc : 0 ≤ c) (hx : x.2 ≤ n) : x.2 ≤ (pS T n c x).2 ∧ (pS T n c x).2 ≤ n ∧ ((pS T n c x).1 = 0 ∨ (pS T n c x).1 = 1) ∧ ((pS T n c x).1 = 0 → x.1 = 0 ∧ (pS T n c x).2 = x.2 + 1) ∧ ((pS T n c x).1 = 1 → (pS T n c x).2 = x.2) := by
  unfold pS
  split
  · rename_i h
    have h2 : x.2 < n := by
      have := h.2
      unfold pN at this
      split at this
      · assumption
      · omega
    dsimp only
    omega
  · dsimp only
    omega
theorem pN_r {T : zS} {n : Int} (hT : ∀ j : Int, 0 ≤ j → j < n → 0 ≤ T j ∧ T j < 65536) {i : Int} (hi : 0 ≤ i) : -1 ≤ pN T n i ∧ pN T n i < 65536 := by
  unfold pN
  split
  · have := hT i hi (by assumption)
    omega
  · omega
theorem pN_in {T : zS} {n i : Int} (h : 0 ≤ pN T n i) : i < n := by
  unfold pN at h
  split at h
  · assumption
  · omega
theorem pT_r {T : zS} {n i : Int} (hi : i ≤ n) : i ≤ (pT T n i).2 ∧ (pT T n i).2 ≤ n ∧ ((pT T n i).1 = 0 ∨ (pT T n i).1 = 1) ∧ ((pT T n i).1 = 0 → i + 2 ≤ (pT T n i).2) := by
  unfold pT
  split
  · rename_i h
    have h0 := pN_in (T := T) (n := n) (i := i) (by omega)
    have h1 := pM_r (T := T) (n := n) (lo := 1) (hi := 99) (x := (0, i + 1)) (by omega) (by show i + 1 ≤ n; omega)
    dsimp only at h1
    omega
  · split
    · rename_i h
      have h0 := pN_in (T := T) (n := n) (i := i) (by omega)
      have h1 := pM_r (T := T) (n := n) (lo := 0) (hi := 5) (x := (0, i + 1)) (by omega) (by show i + 1 ≤ n; omega)
      have h2 := pS_r (T := T) (n := n) (c := 42) (x := pA T n i) (by omega) (by unfold pA; omega)
      have h3 := pM_r (T := T) (n := n) (lo := 0) (hi := 99) (x := pB1 T n i) (by omega) (by unfold pB1; omega)
      unfold pB1 pA at h3 ⊢
      unfold pA at h2
      dsimp only at h1
      omega
    · split
      · rename_i h
        have h0 := pN_in (T := T) (n := n) (i := i) (by omega)
        have h1 := pM_r (T := T) (n := n) (lo := 0) (hi := 5) (x := (0, i + 1)) (by omega) (by show i + 1 ≤ n; omega)
        have h2 := pS_r (T := T) (n := n) (c := 46) (x := pA T n i) (by omega) (by unfold pA; omega)
        have h3 := pM_r (T := T) (n := n) (lo := 0) (hi := 19) (x := pB2 T n i) (by omega) (by unfold pB2; omega)
        have h4 := pS_r (T := T) (n := n) (c := 61) (x := pM T n 0 19 (pB2 T n i)) (by omega) (by omega)
        have h5 := pM_r (T := T) (n := n) (lo := 0) (hi := 9) (x := pC T n i) (by omega) (by unfold pC; omega)
        unfold pC pB2 pA at h5 ⊢
        unfold pB2 pA at h4 h3
        unfold pA at h2
        dsimp only at h1
        omega
      · dsimp only
        omega
theorem pRn_f (T : zS) (n : Int) : ∀ (f g : Nat) (i k : Int), 0 ≤ i → i ≤ n → n - i + 1 ≤ f → n - i + 1 ≤ g → pRn T n f i k = pRn T n g i k
  | 0, g, i, k, h1, h2, h3, h4 => by omega
  | f + 1, 0, i, k, h1, h2, h3, h4 => by omega
  | f + 1, g + 1, i, k, h1, h2, h3, h4 => by
    unfold pRn
    have ht := pT_r (T := T) h2
    by_cases hc : (pT T n i).1 = 0 ∧ (pT T n i).2 < n
    · rw [if_pos hc, if_pos hc]
      have hs := pS_r (T := T) (n := n) (c := 59) (x := pT T n i) (by omega) (by omega)
      by_cases hc2 : (pS T n 59 (pT T n i)).1 = 0
      · rw [if_pos hc2, if_pos hc2, pRn_f T n f g _ _ (by omega) (by omega) (by omega) (by omega)]
      · rw [if_neg hc2, if_neg hc2]
    · rw [if_neg hc, if_neg hc]
theorem pR_step {T : zS} {n i k : Int} (h : 0 ≤ i ∧ i ≤ n) : pR T n i k = if (pT T n i).1 = 0 ∧ (pT T n i).2 < n then (if (pS T n 59 (pT T n i)).1 = 0 then pR T n (pS T n 59 (pT T n i)).2 (k + 1) else (pS T n 59 (pT T n i), k + 1)) else (pT T n i, k + 1) := by
  unfold pR
  rw [show (n - i + 1).toNat = (n - i).toNat + 1 by omega]
  conv => lhs; unfold pRn
  have ht := pT_r (T := T) h.2
  by_cases hc : (pT T n i).1 = 0 ∧ (pT T n i).2 < n
  · rw [if_pos hc, if_pos hc]
    have hs := pS_r (T := T) (n := n) (c := 59) (x := pT T n i) (by omega) (by omega)
    by_cases hc2 : (pS T n 59 (pT T n i)).1 = 0
    · rw [if_pos hc2, if_pos hc2]
      exact pRn_f T n _ _ _ _ (by omega) (by omega) (by omega) (by omega)
    · rw [if_neg hc2, if_neg hc2]
  · rw [if_neg hc, if_neg hc]
/-- what bars a thing, what it does -/
def sBarK (σ : zS) (kd a b c : Int) : Int := if kd = 115 then sBarS σ a b else if kd = 102 then sBarF σ a b c else sBarT σ a
def sEff (σ : zS) (kd a b c : Int) : zS := if kd = 115 then sCome σ a b else if kd = 102 then sFz σ (6 * b + a) c else sTs a σ
/-- the things done: what stopped them, how many were done, the row then -/
def pD (T : zS) (n : Int) : Nat → Int → Int → zS → (Int × Int) × zS
  | 0, _, d, σ => ((0, d), σ)
  | m + 1, i, d, σ => if sBarK σ (pN T n i) (p1 T n i) (p2 T n i) (p3 T n i) = 0 then pD T n m ((pT T n i).2 + 1) (d + 1) (sEff σ (pN T n i) (p1 T n i) (p2 T n i) (p3 T n i))
    else if sBarK σ (pN T n i) (p1 T n i) (p2 T n i) (p3 T n i) = -5 then pD T n m ((pT T n i).2 + 1) (d + 1) σ
    else ((sBarK σ (pN T n i) (p1 T n i) (p2 T n i) (p3 T n i), d), σ)
/-- from i on, m things without a fault up to the end -/
def pG (T : zS) (n : Int) : Nat → Int → Prop
  | 0, _ => True
  | m + 1, i => (0 ≤ i ∧ i ≤ n) ∧ (pT T n i).1 = 0 ∧ (m = 0 ∨ pG T n m ((pT T n i).2 + 1))
theorem pG_of (T : zS) (n : Int) : ∀ (f : Nat) (i k : Int), 0 ≤ i → i ≤ n → n - i + 1 ≤ f → (pR T n i k).1.1 = 0 → k + 1 ≤ (pR T n i k).2 ∧ (pR T n i k).2 ≤ k + (n - i + 1) ∧ pG T n ((pR T n i k).2 - k).toNat i
  | 0, i, k, h1, h2, h3, h => by omega
  | f + 1, i, k, h1, h2, h3, h => by
    have ht := pT_r (T := T) h2
    rw [pR_step ⟨h1, h2⟩] at h ⊢
    by_cases hc : (pT T n i).1 = 0 ∧ (pT T n i).2 < n
    · rw [if_pos hc] at h ⊢
      have hs := pS_r (T := T) (n := n) (c := 59) (x := pT T n i) (by omega) (by omega)
      by_cases hc2 : (pS T n 59 (pT T n i)).1 = 0
      · rw [if_pos hc2] at h ⊢
        have ih := pG_of T n f (pS T n 59 (pT T n i)).2 (k + 1) (by omega) (by omega) (by omega) h
        refine ⟨by omega, by omega, ?_⟩
        rw [show ((pR T n (pS T n 59 (pT T n i)).2 (k + 1)).2 - k).toNat = ((pR T n (pS T n 59 (pT T n i)).2 (k + 1)).2 - (k + 1)).toNat + 1 by omega]
        refine ⟨⟨h1, h2⟩, hc.1, Or.inr ?_⟩
        rw [← (hs.2.2.2.1 hc2).2]
        exact ih.2.2
      · rw [if_neg hc2] at h
        exact absurd h hc2
    · rw [if_neg hc] at h ⊢
      dsimp only at h ⊢
      refine ⟨by omega, by omega, ?_⟩
      rw [show (k + 1 - k).toNat = 0 + 1 by omega]
      exact ⟨⟨h1, h2⟩, h, Or.inl rfl⟩
/-- all that holds of a state -/
def zB (σ : zS) : Prop := zA σ ∧ σ 535 ≤ 8 ∧ (0 ≤ σ 536 ∧ σ 536 ≤ 99999)
theorem sFz_o {σ : zS} {c f j : Int} (h : j ≠ c ∧ j ≠ 120 + c ∧ j ≠ 240 + c) : sFz σ c f j = σ j := by
  unfold sFz
  rw [zu_ne h.2.2, zu_ne h.2.1, zu_ne h.1]
theorem zA_fz {σ : zS} (hA : zA σ) {c f : Int} (hc : 0 ≤ c ∧ c < 120) (hf : 0 ≤ f ∧ f ≤ 9) : zA (sFz σ c f) := by
  have hs := hA.1.1
  unfold zIs at hs
  refine ⟨zI_ag (zI_tr (zI_fr hA.1 hc hf) hc (by omega)) hc (by omega), fun d h1 h2 => ?_, fun d h1 h2 h3 => ?_⟩
  · rw [sFz_o (j := 531) (by omega)]
    by_cases hd : d = c
    · subst hd
      unfold sFz
      rw [zu_at]
      omega
    · rw [sFz_o (by omega)]
      exact hA.2.1 d h1 h2
  · by_cases hd : d = c
    · subst hd
      unfold sFz
      rw [zu_at]
    · rw [sFz_o (by omega)] at h3 ⊢
      exact hA.2.2 d h1 h2 h3
theorem zB_eff {σ : zS} (hB : zB σ) {kd a b c : Int} (h : sBarK σ kd a b c = 0) : zB (sEff σ kd a b c) ∧ zo σ (sEff σ kd a b c) := by
  obtain ⟨hA, h8, h6⟩ := hB
  have hs := hA.1.1
  unfold zIs at hs
  unfold sBarK at h
  unfold sEff
  split at h
  · rename_i hk
    rw [if_pos hk]
    obtain ⟨q1, q2, q3, q4⟩ := sBarS_0 h
    have hc := zA_come hA h8 q1 q2
    refine ⟨⟨hc.1, by rw [sCo_many (by omega)]; omega, by rw [hc.2]; exact h6⟩, zo_come (by omega)⟩
  · rename_i hk
    rw [if_neg hk]
    split at h
    · rename_i hk2
      rw [if_pos hk2]
      obtain ⟨q1, q2, q3⟩ := sBarF_0 h
      refine ⟨⟨zA_fz hA (by omega) q3, by rw [sFz_o (by omega)]; exact h8, by rw [sFz_o (by omega)]; exact h6⟩, fun j hj => sFz_o (by omega)⟩
    · rename_i hk2
      rw [if_neg hk2]
      obtain ⟨q1, q2⟩ := sBarT_0 h
      have ht := zA_ts hA (t := a) (by omega)
      refine ⟨⟨ht.1, by rw [ht.2.2 535 (by omega) (by omega)]; exact h8, by rw [ht.2.1]; omega⟩, zo_ts hA (by omega)⟩
end
