section
-- ===== PART A: goes FIRST, ahead of the names: the tables' words, and 'selects' of the private methods out of them =====
/-- a private method of a class that the tables say can be made, by its rows of tables_1 -/
def lw_okq (q : MethodName × Nat) : Prop := (q.1.cls ≠ "java/lang/invoke/MethodHandle" ∧ q.1.cls ≠ "java/lang/invoke/VarHandle") ∧ Cond.instantiable q.1.cls q.2 ∈ tables_1 ∧ Cond.privateMethod q.1 ∈ tables_1 ∧ Cond.instanceMethod q.1 ∈ tables_1
theorem lw_p0 : lw_okq (⟨"SnailTrails", "recorded", "(I)I"⟩, 9) := ⟨⟨by decide +kernel, by decide +kernel⟩, List.mem_of_getElem? (i := 11) (by decide +kernel), List.mem_of_getElem? (i := 221) (by decide +kernel), List.mem_of_getElem? (i := 222) (by decide +kernel)⟩
theorem lw_p1 : lw_okq (⟨"SnailTrails$History", "stateAt", "(I)LSnailTrails$Pane;"⟩, 3) := ⟨⟨by decide +kernel, by decide +kernel⟩, List.mem_of_getElem? (i := 93) (by decide +kernel), List.mem_of_getElem? (i := 229) (by decide +kernel), List.mem_of_getElem? (i := 230) (by decide +kernel)⟩
theorem lw_p2 : lw_okq (⟨"SnailTrails$Pane", "clearTrail", "(I)V"⟩, 17) := ⟨⟨by decide +kernel, by decide +kernel⟩, List.mem_of_getElem? (i := 19) (by decide +kernel), List.mem_of_getElem? (i := 262) (by decide +kernel), List.mem_of_getElem? (i := 263) (by decide +kernel)⟩
theorem lw_p3 : lw_okq (⟨"SnailTrails$Pane", "dryTrails", "(I)V"⟩, 17) := ⟨⟨by decide +kernel, by decide +kernel⟩, List.mem_of_getElem? (i := 19) (by decide +kernel), List.mem_of_getElem? (i := 278) (by decide +kernel), List.mem_of_getElem? (i := 279) (by decide +kernel)⟩
theorem lw_p4 : lw_okq (⟨"SnailTrails$Pane", "howManyAre", "(I)I"⟩, 17) := ⟨⟨by decide +kernel, by decide +kernel⟩, List.mem_of_getElem? (i := 19) (by decide +kernel), List.mem_of_getElem? (i := 291) (by decide +kernel), List.mem_of_getElem? (i := 292) (by decide +kernel)⟩
theorem lw_p5 : lw_okq (⟨"SnailTrails$Pane", "passTurn", "()V"⟩, 17) := ⟨⟨by decide +kernel, by decide +kernel⟩, List.mem_of_getElem? (i := 19) (by decide +kernel), List.mem_of_getElem? (i := 295) (by decide +kernel), List.mem_of_getElem? (i := 296) (by decide +kernel)⟩
theorem lw_p6 : lw_okq (⟨"SnailTrails$Pane", "takeStep", "(II)V"⟩, 17) := ⟨⟨by decide +kernel, by decide +kernel⟩, List.mem_of_getElem? (i := 19) (by decide +kernel), List.mem_of_getElem? (i := 317) (by decide +kernel), List.mem_of_getElem? (i := 318) (by decide +kernel)⟩
theorem lw_p7 : lw_okq (⟨"SnailTrails$Pane", "noteLender", "(II)V"⟩, 17) := ⟨⟨by decide +kernel, by decide +kernel⟩, List.mem_of_getElem? (i := 19) (by decide +kernel), List.mem_of_getElem? (i := 321) (by decide +kernel), List.mem_of_getElem? (i := 322) (by decide +kernel)⟩
theorem lw_p8 : lw_okq (⟨"SnailTrails$Pane", "rest", "(I)V"⟩, 17) := ⟨⟨by decide +kernel, by decide +kernel⟩, List.mem_of_getElem? (i := 19) (by decide +kernel), List.mem_of_getElem? (i := 325) (by decide +kernel), List.mem_of_getElem? (i := 326) (by decide +kernel)⟩
theorem lw_p9 : lw_okq (⟨"SnailTrails$Pane", "growFrost", "()V"⟩, 17) := ⟨⟨by decide +kernel, by decide +kernel⟩, List.mem_of_getElem? (i := 19) (by decide +kernel), List.mem_of_getElem? (i := 330) (by decide +kernel), List.mem_of_getElem? (i := 331) (by decide +kernel)⟩
theorem lw_p10 : lw_okq (⟨"SnailTrails$Race", "readThing", "(I)Z"⟩, 8) := ⟨⟨by decide +kernel, by decide +kernel⟩, List.mem_of_getElem? (i := 113) (by decide +kernel), List.mem_of_getElem? (i := 358) (by decide +kernel), List.mem_of_getElem? (i := 359) (by decide +kernel)⟩
theorem lw_p11 : lw_okq (⟨"SnailTrails$Race", "signHere", "()I"⟩, 8) := ⟨⟨by decide +kernel, by decide +kernel⟩, List.mem_of_getElem? (i := 113) (by decide +kernel), List.mem_of_getElem? (i := 362) (by decide +kernel), List.mem_of_getElem? (i := 363) (by decide +kernel)⟩
theorem lw_p12 : lw_okq (⟨"SnailTrails$Race", "readNumber", "([IIII)Z"⟩, 8) := ⟨⟨by decide +kernel, by decide +kernel⟩, List.mem_of_getElem? (i := 113) (by decide +kernel), List.mem_of_getElem? (i := 366) (by decide +kernel), List.mem_of_getElem? (i := 367) (by decide +kernel)⟩
theorem lw_p13 : lw_okq (⟨"SnailTrails$Race", "digitHere", "()I"⟩, 8) := ⟨⟨by decide +kernel, by decide +kernel⟩, List.mem_of_getElem? (i := 113) (by decide +kernel), List.mem_of_getElem? (i := 370) (by decide +kernel), List.mem_of_getElem? (i := 371) (by decide +kernel)⟩
theorem lw_p14 : lw_okq (⟨"SnailTrails$Race", "readSign", "(C)Z"⟩, 8) := ⟨⟨by decide +kernel, by decide +kernel⟩, List.mem_of_getElem? (i := 113) (by decide +kernel), List.mem_of_getElem? (i := 374) (by decide +kernel), List.mem_of_getElem? (i := 375) (by decide +kernel)⟩
theorem lw_p15 : lw_okq (⟨"SnailTrails", "doThing", "(I)I"⟩, 9) := ⟨⟨by decide +kernel, by decide +kernel⟩, List.mem_of_getElem? (i := 11) (by decide +kernel), List.mem_of_getElem? (i := 378) (by decide +kernel), List.mem_of_getElem? (i := 379) (by decide +kernel)⟩
def lw_privs_1 : List (MethodName × Nat) := [(⟨"SnailTrails", "recorded", "(I)I"⟩, 9), (⟨"SnailTrails$History", "stateAt", "(I)LSnailTrails$Pane;"⟩, 3), (⟨"SnailTrails$Pane", "clearTrail", "(I)V"⟩, 17), (⟨"SnailTrails$Pane", "dryTrails", "(I)V"⟩, 17), (⟨"SnailTrails$Pane", "howManyAre", "(I)I"⟩, 17), (⟨"SnailTrails$Pane", "passTurn", "()V"⟩, 17), (⟨"SnailTrails$Pane", "takeStep", "(II)V"⟩, 17), (⟨"SnailTrails$Pane", "noteLender", "(II)V"⟩, 17), (⟨"SnailTrails$Pane", "rest", "(I)V"⟩, 17), (⟨"SnailTrails$Pane", "growFrost", "()V"⟩, 17), (⟨"SnailTrails$Race", "readThing", "(I)Z"⟩, 8), (⟨"SnailTrails$Race", "signHere", "()I"⟩, 8), (⟨"SnailTrails$Race", "readNumber", "([IIII)Z"⟩, 8), (⟨"SnailTrails$Race", "digitHere", "()I"⟩, 8), (⟨"SnailTrails$Race", "readSign", "(C)Z"⟩, 8), (⟨"SnailTrails", "doThing", "(I)I"⟩, 9)]
theorem lw_r1 : ∀ q ∈ lw_privs_1, lw_okq q := List.forall_mem_cons.mpr ⟨lw_p0, List.forall_mem_cons.mpr ⟨lw_p1, List.forall_mem_cons.mpr ⟨lw_p2, List.forall_mem_cons.mpr ⟨lw_p3, List.forall_mem_cons.mpr ⟨lw_p4, List.forall_mem_cons.mpr ⟨lw_p5, List.forall_mem_cons.mpr ⟨lw_p6, List.forall_mem_cons.mpr ⟨lw_p7, List.forall_mem_cons.mpr ⟨lw_p8, List.forall_mem_cons.mpr ⟨lw_p9, List.forall_mem_cons.mpr ⟨lw_p10, List.forall_mem_cons.mpr ⟨lw_p11, List.forall_mem_cons.mpr ⟨lw_p12, List.forall_mem_cons.mpr ⟨lw_p13, List.forall_mem_cons.mpr ⟨lw_p14, List.forall_mem_cons.mpr ⟨lw_p15, fun _ h => absurd h List.not_mem_nil⟩⟩⟩⟩⟩⟩⟩⟩⟩⟩⟩⟩⟩⟩⟩⟩
theorem lw_p16 : lw_okq (⟨"SnailTrails$WaysUp", "leastAbove", "(LSnailTrails$Pane;II)I"⟩, 2) := ⟨⟨by decide +kernel, by decide +kernel⟩, List.mem_of_getElem? (i := 151) (by decide +kernel), List.mem_of_getElem? (i := 459) (by decide +kernel), List.mem_of_getElem? (i := 460) (by decide +kernel)⟩
theorem lw_p17 : lw_okq (⟨"SnailTrails$WaysUp", "nearest", "()I"⟩, 2) := ⟨⟨by decide +kernel, by decide +kernel⟩, List.mem_of_getElem? (i := 151) (by decide +kernel), List.mem_of_getElem? (i := 472) (by decide +kernel), List.mem_of_getElem? (i := 473) (by decide +kernel)⟩
theorem lw_p18 : lw_okq (⟨"SnailTrails$WaysUp", "reachAbove", "(LSnailTrails$Pane;I)V"⟩, 2) := ⟨⟨by decide +kernel, by decide +kernel⟩, List.mem_of_getElem? (i := 151) (by decide +kernel), List.mem_of_getElem? (i := 476) (by decide +kernel), List.mem_of_getElem? (i := 477) (by decide +kernel)⟩
theorem lw_p19 : lw_okq (⟨"SnailTrails$Pane", "isAhead", "(II)Z"⟩, 17) := ⟨⟨by decide +kernel, by decide +kernel⟩, List.mem_of_getElem? (i := 19) (by decide +kernel), List.mem_of_getElem? (i := 488) (by decide +kernel), List.mem_of_getElem? (i := 489) (by decide +kernel)⟩
theorem lw_p20 : lw_okq (⟨"SnailTrails", "turnsFrom", "(III)I"⟩, 9) := ⟨⟨by decide +kernel, by decide +kernel⟩, List.mem_of_getElem? (i := 11) (by decide +kernel), List.mem_of_getElem? (i := 504) (by decide +kernel), List.mem_of_getElem? (i := 505) (by decide +kernel)⟩
theorem lw_p21 : lw_okq (⟨"SnailTrails$Pane", "howManyTrails", "()I"⟩, 17) := ⟨⟨by decide +kernel, by decide +kernel⟩, List.mem_of_getElem? (i := 19) (by decide +kernel), List.mem_of_getElem? (i := 518) (by decide +kernel), List.mem_of_getElem? (i := 519) (by decide +kernel)⟩
theorem lw_p22 : lw_okq (⟨"SnailTrailsModel", "barSnail", "(II)I"⟩, 19) := ⟨⟨by decide +kernel, by decide +kernel⟩, List.mem_of_getElem? (i := 525) (by decide +kernel), List.mem_of_getElem? (i := 593) (by decide +kernel), List.mem_of_getElem? (i := 594) (by decide +kernel)⟩
theorem lw_p23 : lw_okq (⟨"SnailTrailsModel", "snailOn", "(II)I"⟩, 19) := ⟨⟨by decide +kernel, by decide +kernel⟩, List.mem_of_getElem? (i := 525) (by decide +kernel), List.mem_of_getElem? (i := 603) (by decide +kernel), List.mem_of_getElem? (i := 604) (by decide +kernel)⟩
theorem lw_p24 : lw_okq (⟨"SnailTrailsModel", "creeps", "(I)Z"⟩, 19) := ⟨⟨by decide +kernel, by decide +kernel⟩, List.mem_of_getElem? (i := 525) (by decide +kernel), List.mem_of_getElem? (i := 607) (by decide +kernel), List.mem_of_getElem? (i := 608) (by decide +kernel)⟩
theorem lw_p25 : lw_okq (⟨"SnailTrailsModel", "records", "()V"⟩, 19) := ⟨⟨by decide +kernel, by decide +kernel⟩, List.mem_of_getElem? (i := 525) (by decide +kernel), List.mem_of_getElem? (i := 614) (by decide +kernel), List.mem_of_getElem? (i := 615) (by decide +kernel)⟩
theorem lw_p26 : lw_okq (⟨"SnailTrailsModel", "comes", "(II)I"⟩, 19) := ⟨⟨by decide +kernel, by decide +kernel⟩, List.mem_of_getElem? (i := 525) (by decide +kernel), List.mem_of_getElem? (i := 618) (by decide +kernel), List.mem_of_getElem? (i := 619) (by decide +kernel)⟩
theorem lw_p27 : lw_okq (⟨"SnailTrailsModel", "isSnail", "(I)Z"⟩, 19) := ⟨⟨by decide +kernel, by decide +kernel⟩, List.mem_of_getElem? (i := 525) (by decide +kernel), List.mem_of_getElem? (i := 626) (by decide +kernel), List.mem_of_getElem? (i := 627) (by decide +kernel)⟩
theorem lw_p28 : lw_okq (⟨"SnailTrailsModel", "barFrost", "(III)I"⟩, 19) := ⟨⟨by decide +kernel, by decide +kernel⟩, List.mem_of_getElem? (i := 525) (by decide +kernel), List.mem_of_getElem? (i := 634) (by decide +kernel), List.mem_of_getElem? (i := 635) (by decide +kernel)⟩
theorem lw_p29 : lw_okq (⟨"SnailTrailsModel", "freezes", "(III)I"⟩, 19) := ⟨⟨by decide +kernel, by decide +kernel⟩, List.mem_of_getElem? (i := 525) (by decide +kernel), List.mem_of_getElem? (i := 644) (by decide +kernel), List.mem_of_getElem? (i := 645) (by decide +kernel)⟩
theorem lw_p30 : lw_okq (⟨"SnailTrailsModel", "dries", "()V"⟩, 19) := ⟨⟨by decide +kernel, by decide +kernel⟩, List.mem_of_getElem? (i := 525) (by decide +kernel), List.mem_of_getElem? (i := 655) (by decide +kernel), List.mem_of_getElem? (i := 656) (by decide +kernel)⟩
theorem lw_p31 : lw_okq (⟨"SnailTrailsModel", "barPass", "(I)I"⟩, 19) := ⟨⟨by decide +kernel, by decide +kernel⟩, List.mem_of_getElem? (i := 525) (by decide +kernel), List.mem_of_getElem? (i := 663) (by decide +kernel), List.mem_of_getElem? (i := 664) (by decide +kernel)⟩
def lw_privs_2 : List (MethodName × Nat) := [(⟨"SnailTrails$WaysUp", "leastAbove", "(LSnailTrails$Pane;II)I"⟩, 2), (⟨"SnailTrails$WaysUp", "nearest", "()I"⟩, 2), (⟨"SnailTrails$WaysUp", "reachAbove", "(LSnailTrails$Pane;I)V"⟩, 2), (⟨"SnailTrails$Pane", "isAhead", "(II)Z"⟩, 17), (⟨"SnailTrails", "turnsFrom", "(III)I"⟩, 9), (⟨"SnailTrails$Pane", "howManyTrails", "()I"⟩, 17), (⟨"SnailTrailsModel", "barSnail", "(II)I"⟩, 19), (⟨"SnailTrailsModel", "snailOn", "(II)I"⟩, 19), (⟨"SnailTrailsModel", "creeps", "(I)Z"⟩, 19), (⟨"SnailTrailsModel", "records", "()V"⟩, 19), (⟨"SnailTrailsModel", "comes", "(II)I"⟩, 19), (⟨"SnailTrailsModel", "isSnail", "(I)Z"⟩, 19), (⟨"SnailTrailsModel", "barFrost", "(III)I"⟩, 19), (⟨"SnailTrailsModel", "freezes", "(III)I"⟩, 19), (⟨"SnailTrailsModel", "dries", "()V"⟩, 19), (⟨"SnailTrailsModel", "barPass", "(I)I"⟩, 19)]
theorem lw_r2 : ∀ q ∈ lw_privs_2, lw_okq q := List.forall_mem_cons.mpr ⟨lw_p16, List.forall_mem_cons.mpr ⟨lw_p17, List.forall_mem_cons.mpr ⟨lw_p18, List.forall_mem_cons.mpr ⟨lw_p19, List.forall_mem_cons.mpr ⟨lw_p20, List.forall_mem_cons.mpr ⟨lw_p21, List.forall_mem_cons.mpr ⟨lw_p22, List.forall_mem_cons.mpr ⟨lw_p23, List.forall_mem_cons.mpr ⟨lw_p24, List.forall_mem_cons.mpr ⟨lw_p25, List.forall_mem_cons.mpr ⟨lw_p26, List.forall_mem_cons.mpr ⟨lw_p27, List.forall_mem_cons.mpr ⟨lw_p28, List.forall_mem_cons.mpr ⟨lw_p29, List.forall_mem_cons.mpr ⟨lw_p30, List.forall_mem_cons.mpr ⟨lw_p31, fun _ h => absurd h List.not_mem_nil⟩⟩⟩⟩⟩⟩⟩⟩⟩⟩⟩⟩⟩⟩⟩⟩
theorem lw_p32 : lw_okq (⟨"SnailTrailsModel", "passes", "(I)I"⟩, 19) := ⟨⟨by decide +kernel, by decide +kernel⟩, List.mem_of_getElem? (i := 525) (by decide +kernel), List.mem_of_getElem? (i := 668) (by decide +kernel), List.mem_of_getElem? (i := 669) (by decide +kernel)⟩
theorem lw_p33 : lw_okq (⟨"SnailTrailsModel", "turn", "()V"⟩, 19) := ⟨⟨by decide +kernel, by decide +kernel⟩, List.mem_of_getElem? (i := 525) (by decide +kernel), List.mem_of_getElem? (i := 672) (by decide +kernel), List.mem_of_getElem? (i := 673) (by decide +kernel)⟩
theorem lw_p34 : lw_okq (⟨"SnailTrailsModel", "chooses", "(I)I"⟩, 19) := ⟨⟨by decide +kernel, by decide +kernel⟩, List.mem_of_getElem? (i := 525) (by decide +kernel), List.mem_of_getElem? (i := 676) (by decide +kernel), List.mem_of_getElem? (i := 677) (by decide +kernel)⟩
theorem lw_p35 : lw_okq (⟨"SnailTrailsModel", "price", "(II)I"⟩, 19) := ⟨⟨by decide +kernel, by decide +kernel⟩, List.mem_of_getElem? (i := 525) (by decide +kernel), List.mem_of_getElem? (i := 680) (by decide +kernel), List.mem_of_getElem? (i := 681) (by decide +kernel)⟩
theorem lw_p36 : lw_okq (⟨"SnailTrailsModel", "why", "(II)I"⟩, 19) := ⟨⟨by decide +kernel, by decide +kernel⟩, List.mem_of_getElem? (i := 525) (by decide +kernel), List.mem_of_getElem? (i := 687) (by decide +kernel), List.mem_of_getElem? (i := 688) (by decide +kernel)⟩
theorem lw_p37 : lw_okq (⟨"SnailTrailsModel", "creep", "(II)V"⟩, 19) := ⟨⟨by decide +kernel, by decide +kernel⟩, List.mem_of_getElem? (i := 525) (by decide +kernel), List.mem_of_getElem? (i := 691) (by decide +kernel), List.mem_of_getElem? (i := 692) (by decide +kernel)⟩
theorem lw_p38 : lw_okq (⟨"SnailTrailsModel", "things", "()I"⟩, 19) := ⟨⟨by decide +kernel, by decide +kernel⟩, List.mem_of_getElem? (i := 525) (by decide +kernel), List.mem_of_getElem? (i := 707) (by decide +kernel), List.mem_of_getElem? (i := 708) (by decide +kernel)⟩
theorem lw_p39 : lw_okq (⟨"SnailTrailsModel", "thing", "()V"⟩, 19) := ⟨⟨by decide +kernel, by decide +kernel⟩, List.mem_of_getElem? (i := 525) (by decide +kernel), List.mem_of_getElem? (i := 711) (by decide +kernel), List.mem_of_getElem? (i := 712) (by decide +kernel)⟩
theorem lw_p40 : lw_okq (⟨"SnailTrailsModel", "next", "()I"⟩, 19) := ⟨⟨by decide +kernel, by decide +kernel⟩, List.mem_of_getElem? (i := 525) (by decide +kernel), List.mem_of_getElem? (i := 715) (by decide +kernel), List.mem_of_getElem? (i := 716) (by decide +kernel)⟩
theorem lw_p41 : lw_okq (⟨"SnailTrailsModel", "number", "(II)I"⟩, 19) := ⟨⟨by decide +kernel, by decide +kernel⟩, List.mem_of_getElem? (i := 525) (by decide +kernel), List.mem_of_getElem? (i := 719) (by decide +kernel), List.mem_of_getElem? (i := 720) (by decide +kernel)⟩
theorem lw_p42 : lw_okq (⟨"SnailTrailsModel", "sign", "(I)V"⟩, 19) := ⟨⟨by decide +kernel, by decide +kernel⟩, List.mem_of_getElem? (i := 525) (by decide +kernel), List.mem_of_getElem? (i := 723) (by decide +kernel), List.mem_of_getElem? (i := 724) (by decide +kernel)⟩
theorem lw_p43 : lw_okq (⟨"SnailTrailsModel", "putAside", "()V"⟩, 19) := ⟨⟨by decide +kernel, by decide +kernel⟩, List.mem_of_getElem? (i := 525) (by decide +kernel), List.mem_of_getElem? (i := 727) (by decide +kernel), List.mem_of_getElem? (i := 728) (by decide +kernel)⟩
theorem lw_p44 : lw_okq (⟨"SnailTrailsModel", "doesThing", "()I"⟩, 19) := ⟨⟨by decide +kernel, by decide +kernel⟩, List.mem_of_getElem? (i := 525) (by decide +kernel), List.mem_of_getElem? (i := 731) (by decide +kernel), List.mem_of_getElem? (i := 732) (by decide +kernel)⟩
theorem lw_p45 : lw_okq (⟨"SnailTrailsModel", "putBack", "()V"⟩, 19) := ⟨⟨by decide +kernel, by decide +kernel⟩, List.mem_of_getElem? (i := 525) (by decide +kernel), List.mem_of_getElem? (i := 735) (by decide +kernel), List.mem_of_getElem? (i := 736) (by decide +kernel)⟩
theorem lw_p46 : lw_okq (⟨"SnailTrailsModel", "ends", "(I)I"⟩, 19) := ⟨⟨by decide +kernel, by decide +kernel⟩, List.mem_of_getElem? (i := 525) (by decide +kernel), List.mem_of_getElem? (i := 779) (by decide +kernel), List.mem_of_getElem? (i := 780) (by decide +kernel)⟩
theorem lw_p47 : lw_okq (⟨"SnailTrailsModel", "inState", "(I)I"⟩, 19) := ⟨⟨by decide +kernel, by decide +kernel⟩, List.mem_of_getElem? (i := 525) (by decide +kernel), List.mem_of_getElem? (i := 803) (by decide +kernel), List.mem_of_getElem? (i := 804) (by decide +kernel)⟩
def lw_privs_3 : List (MethodName × Nat) := [(⟨"SnailTrailsModel", "passes", "(I)I"⟩, 19), (⟨"SnailTrailsModel", "turn", "()V"⟩, 19), (⟨"SnailTrailsModel", "chooses", "(I)I"⟩, 19), (⟨"SnailTrailsModel", "price", "(II)I"⟩, 19), (⟨"SnailTrailsModel", "why", "(II)I"⟩, 19), (⟨"SnailTrailsModel", "creep", "(II)V"⟩, 19), (⟨"SnailTrailsModel", "things", "()I"⟩, 19), (⟨"SnailTrailsModel", "thing", "()V"⟩, 19), (⟨"SnailTrailsModel", "next", "()I"⟩, 19), (⟨"SnailTrailsModel", "number", "(II)I"⟩, 19), (⟨"SnailTrailsModel", "sign", "(I)V"⟩, 19), (⟨"SnailTrailsModel", "putAside", "()V"⟩, 19), (⟨"SnailTrailsModel", "doesThing", "()I"⟩, 19), (⟨"SnailTrailsModel", "putBack", "()V"⟩, 19), (⟨"SnailTrailsModel", "ends", "(I)I"⟩, 19), (⟨"SnailTrailsModel", "inState", "(I)I"⟩, 19)]
theorem lw_r3 : ∀ q ∈ lw_privs_3, lw_okq q := List.forall_mem_cons.mpr ⟨lw_p32, List.forall_mem_cons.mpr ⟨lw_p33, List.forall_mem_cons.mpr ⟨lw_p34, List.forall_mem_cons.mpr ⟨lw_p35, List.forall_mem_cons.mpr ⟨lw_p36, List.forall_mem_cons.mpr ⟨lw_p37, List.forall_mem_cons.mpr ⟨lw_p38, List.forall_mem_cons.mpr ⟨lw_p39, List.forall_mem_cons.mpr ⟨lw_p40, List.forall_mem_cons.mpr ⟨lw_p41, List.forall_mem_cons.mpr ⟨lw_p42, List.forall_mem_cons.mpr ⟨lw_p43, List.forall_mem_cons.mpr ⟨lw_p44, List.forall_mem_cons.mpr ⟨lw_p45, List.forall_mem_cons.mpr ⟨lw_p46, List.forall_mem_cons.mpr ⟨lw_p47, fun _ h => absurd h List.not_mem_nil⟩⟩⟩⟩⟩⟩⟩⟩⟩⟩⟩⟩⟩⟩⟩⟩
theorem lw_p48 : lw_okq (⟨"SnailTrailsModel", "trails", "()I"⟩, 19) := ⟨⟨by decide +kernel, by decide +kernel⟩, List.mem_of_getElem? (i := 525) (by decide +kernel), List.mem_of_getElem? (i := 807) (by decide +kernel), List.mem_of_getElem? (i := 808) (by decide +kernel)⟩
theorem lw_p49 : lw_okq (⟨"SnailTrailsModel", "frost", "()I"⟩, 19) := ⟨⟨by decide +kernel, by decide +kernel⟩, List.mem_of_getElem? (i := 525) (by decide +kernel), List.mem_of_getElem? (i := 811) (by decide +kernel), List.mem_of_getElem? (i := 812) (by decide +kernel)⟩
theorem lw_p50 : lw_okq (⟨"SnailTrailsModel", "ofAll", "(I)I"⟩, 19) := ⟨⟨by decide +kernel, by decide +kernel⟩, List.mem_of_getElem? (i := 525) (by decide +kernel), List.mem_of_getElem? (i := 815) (by decide +kernel), List.mem_of_getElem? (i := 816) (by decide +kernel)⟩
def lw_privs_4 : List (MethodName × Nat) := [(⟨"SnailTrailsModel", "trails", "()I"⟩, 19), (⟨"SnailTrailsModel", "frost", "()I"⟩, 19), (⟨"SnailTrailsModel", "ofAll", "(I)I"⟩, 19)]
theorem lw_r4 : ∀ q ∈ lw_privs_4, lw_okq q := List.forall_mem_cons.mpr ⟨lw_p48, List.forall_mem_cons.mpr ⟨lw_p49, List.forall_mem_cons.mpr ⟨lw_p50, fun _ h => absurd h List.not_mem_nil⟩⟩⟩
def lw_privs : List (MethodName × Nat) := lw_privs_1 ++ (lw_privs_2 ++ (lw_privs_3 ++ (lw_privs_4)))
def lw_tbl : List Cond := k2_sels lw_privs ++ tables_1
theorem lw_privs_ok : ∀ q ∈ lw_privs, lw_okq q := by
  show ∀ q ∈ lw_privs_1 ++ (lw_privs_2 ++ (lw_privs_3 ++ (lw_privs_4))), lw_okq q
  exact List.forall_mem_append.mpr ⟨lw_r1, List.forall_mem_append.mpr ⟨lw_r2, List.forall_mem_append.mpr ⟨lw_r3, lw_r4⟩⟩⟩
end
section
def RX0 : String := "SnailTrails$History"
def TX0 : u_T := fun k => match k with
  | 0 => ("SnailTrails$History", "states", "[LSnailTrails$Pane;", true)
  | 1 => ("SnailTrails$History", "size", "I", false)
  | _ => ("SnailTrails$History", "next", "I", false)
def tyX0 : Nat → FieldType := fun k => match k with
  | 0 => .array (.object "SnailTrails$Pane")
  | 1 => .int
  | _ => .int
abbrev wsX00 : List Cond := u_ws RX0 TX0 3
theorem nmX0 : ∀ a, a < 3 → ∀ b, b < 3 → a ≠ b → (TX0 a).2.1 ≠ (TX0 b).2.1 := by decide +kernel
theorem tyX0_ok : ∀ k, k < 3 → parseFieldDescriptor (TX0 k).2.2.1 = some (tyX0 k) := by decide +kernel
abbrev cX0_init : ByteArray := prog_2_method_1_code
def yX0_init : MethodName := ⟨RX0, "<init>", "()V"⟩
abbrev cX0_remember : ByteArray := prog_2_method_2_code
def yX0_remember : MethodName := ⟨RX0, "remember", "(LSnailTrails$Pane;)V"⟩
abbrev cX0_giveBack : ByteArray := prog_2_method_3_code
def yX0_giveBack : MethodName := ⟨RX0, "giveBack", "(LSnailTrails$Pane;)I"⟩
abbrev cX0_stateAt : ByteArray := prog_2_method_4_code
def yX0_stateAt : MethodName := ⟨RX0, "stateAt", "(I)LSnailTrails$Pane;"⟩
def RX1 : String := "SnailTrails$Pane"
def TX1 : u_T := fun k => match k with
  | 0 => ("SnailTrails$Pane", "frostOf", "[I", true)
  | 1 => ("SnailTrails$Pane", "trailOf", "[I", true)
  | 2 => ("SnailTrails$Pane", "ageOf", "[I", true)
  | 3 => ("SnailTrails$Pane", "laneOf", "[I", true)
  | 4 => ("SnailTrails$Pane", "rowOf", "[I", true)
  | 5 => ("SnailTrails$Pane", "slimeOf", "[I", true)
  | 6 => ("SnailTrails$Pane", "doingOf", "[I", true)
  | 7 => ("SnailTrails$Pane", "rankOf", "[I", true)
  | 8 => ("SnailTrails$Pane", "stepsOf", "[I", true)
  | 9 => ("SnailTrails$Pane", "borrowsOf", "[I", true)
  | 10 => ("SnailTrails$Pane", "restsOf", "[I", true)
  | 11 => ("SnailTrails$Pane", "lenderOf", "[I", true)
  | 12 => ("SnailTrails$Pane", "inARowOf", "[I", true)
  | 13 => ("SnailTrails$Pane", "owed", "[[I", true)
  | 14 => ("SnailTrails$Pane", "settings", "[I", true)
  | 15 => ("SnailTrails$Pane", "snails", "I", false)
  | _ => ("SnailTrails$Pane", "turn", "I", false)
def tyX1 : Nat → FieldType := fun k => match k with
  | 0 => .array .int
  | 1 => .array .int
  | 2 => .array .int
  | 3 => .array .int
  | 4 => .array .int
  | 5 => .array .int
  | 6 => .array .int
  | 7 => .array .int
  | 8 => .array .int
  | 9 => .array .int
  | 10 => .array .int
  | 11 => .array .int
  | 12 => .array .int
  | 13 => .array (.array .int)
  | 14 => .array .int
  | 15 => .int
  | _ => .int
abbrev wsX10 : List Cond := u_ws RX1 TX1 17
theorem nmX1 : ∀ a, a < 17 → ∀ b, b < 17 → a ≠ b → (TX1 a).2.1 ≠ (TX1 b).2.1 := by decide +kernel
theorem tyX1_ok : ∀ k, k < 17 → parseFieldDescriptor (TX1 k).2.2.1 = some (tyX1 k) := by decide +kernel
abbrev cX1_init : ByteArray := prog_3_method_1_code
def yX1_init : MethodName := ⟨RX1, "<init>", "()V"⟩
abbrev cX1_copyFrom : ByteArray := prog_3_method_2_code
def yX1_copyFrom : MethodName := ⟨RX1, "copyFrom", "(LSnailTrails$Pane;)V"⟩
abbrev cX1_placeSnail : ByteArray := prog_3_method_3_code
def yX1_placeSnail : MethodName := ⟨RX1, "placeSnail", "(II)I"⟩
abbrev cX1_addSnail : ByteArray := prog_3_method_4_code
def yX1_addSnail : MethodName := ⟨RX1, "addSnail", "(II)I"⟩
abbrev cX1_removeSnail : ByteArray := prog_3_method_5_code
def yX1_removeSnail : MethodName := ⟨RX1, "removeSnail", "(I)I"⟩
abbrev cX1_changeFrost : ByteArray := prog_3_method_6_code
def yX1_changeFrost : MethodName := ⟨RX1, "changeFrost", "(III)I"⟩
abbrev cX1_changeSetting : ByteArray := prog_3_method_7_code
def yX1_changeSetting : MethodName := ⟨RX1, "changeSetting", "(II)I"⟩
abbrev cX1_letPass : ByteArray := prog_3_method_8_code
def yX1_letPass : MethodName := ⟨RX1, "letPass", "(I)I"⟩
abbrev cX1_passUntilEnd : ByteArray := prog_3_method_9_code
def yX1_passUntilEnd : MethodName := ⟨RX1, "passUntilEnd", "(II)I"⟩
abbrev cX1_passTurn : ByteArray := prog_3_method_10_code
def yX1_passTurn : MethodName := ⟨RX1, "passTurn", "()V"⟩
abbrev cX1_choice : ByteArray := prog_3_method_11_code
def yX1_choice : MethodName := ⟨RX1, "choice", "(I)I"⟩
abbrev cX1_stepCost : ByteArray := prog_3_method_12_code
def yX1_stepCost : MethodName := ⟨RX1, "stepCost", "(II)I"⟩
abbrev cX1_whyNoHelp : ByteArray := prog_3_method_13_code
def yX1_whyNoHelp : MethodName := ⟨RX1, "whyNoHelp", "(II)I"⟩
abbrev cX1_takeStep : ByteArray := prog_3_method_14_code
def yX1_takeStep : MethodName := ⟨RX1, "takeStep", "(II)V"⟩
abbrev cX1_rest : ByteArray := prog_3_method_15_code
def yX1_rest : MethodName := ⟨RX1, "rest", "(I)V"⟩
abbrev cX1_noteLender : ByteArray := prog_3_method_16_code
def yX1_noteLender : MethodName := ⟨RX1, "noteLender", "(II)V"⟩
abbrev cX1_dryTrails : ByteArray := prog_3_method_17_code
def yX1_dryTrails : MethodName := ⟨RX1, "dryTrails", "(I)V"⟩
abbrev cX1_clearTrail : ByteArray := prog_3_method_18_code
def yX1_clearTrail : MethodName := ⟨RX1, "clearTrail", "(I)V"⟩
abbrev cX1_growFrost : ByteArray := prog_3_method_19_code
def yX1_growFrost : MethodName := ⟨RX1, "growFrost", "()V"⟩
abbrev cX1_knows : ByteArray := prog_3_method_20_code
def yX1_knows : MethodName := ⟨RX1, "knows", "(I)Z"⟩
abbrev cX1_creeps : ByteArray := prog_3_method_21_code
def yX1_creeps : MethodName := ⟨RX1, "creeps", "(I)Z"⟩
abbrev cX1_hasEnded : ByteArray := prog_3_method_22_code
def yX1_hasEnded : MethodName := ⟨RX1, "hasEnded", "(I)Z"⟩
abbrev cX1_snailOn : ByteArray := prog_3_method_23_code
def yX1_snailOn : MethodName := ⟨RX1, "snailOn", "(II)I"⟩
abbrev cX1_priceOf : ByteArray := prog_3_method_24_code
def yX1_priceOf : MethodName := ⟨RX1, "priceOf", "(I)I"⟩
abbrev cX1_tellSnail : ByteArray := prog_3_method_25_code
def yX1_tellSnail : MethodName := ⟨RX1, "tellSnail", "(II)I"⟩
abbrev cX1_tellCell : ByteArray := prog_3_method_26_code
def yX1_tellCell : MethodName := ⟨RX1, "tellCell", "(III)I"⟩
abbrev cX1_tellOwed : ByteArray := prog_3_method_27_code
def yX1_tellOwed : MethodName := ⟨RX1, "tellOwed", "(II)I"⟩
abbrev cX1_tellCount : ByteArray := prog_3_method_28_code
def yX1_tellCount : MethodName := ⟨RX1, "tellCount", "(I)I"⟩
abbrev cX1_howManyAre : ByteArray := prog_3_method_29_code
def yX1_howManyAre : MethodName := ⟨RX1, "howManyAre", "(I)I"⟩
abbrev cX1_howManyTrails : ByteArray := prog_3_method_30_code
def yX1_howManyTrails : MethodName := ⟨RX1, "howManyTrails", "()I"⟩
abbrev cX1_findLeader : ByteArray := prog_3_method_31_code
def yX1_findLeader : MethodName := ⟨RX1, "findLeader", "()I"⟩
abbrev cX1_isAhead : ByteArray := prog_3_method_32_code
def yX1_isAhead : MethodName := ⟨RX1, "isAhead", "(II)Z"⟩
def RX2 : String := "SnailTrails$Race"
def TX2 : u_T := fun k => match k with
  | 0 => ("SnailTrails$Race", "text", "[C", true)
  | 1 => ("SnailTrails$Race", "length", "I", false)
  | 2 => ("SnailTrails$Race", "at", "I", false)
  | 3 => ("SnailTrails$Race", "things", "I", false)
  | 4 => ("SnailTrails$Race", "signs", "[I", true)
  | 5 => ("SnailTrails$Race", "lanes", "[I", true)
  | 6 => ("SnailTrails$Race", "rows", "[I", true)
  | _ => ("SnailTrails$Race", "amounts", "[I", true)
def tyX2 : Nat → FieldType := fun k => match k with
  | 0 => .array .char
  | 1 => .int
  | 2 => .int
  | 3 => .int
  | 4 => .array .int
  | 5 => .array .int
  | 6 => .array .int
  | _ => .array .int
abbrev wsX20 : List Cond := u_ws RX2 TX2 8
theorem nmX2 : ∀ a, a < 8 → ∀ b, b < 8 → a ≠ b → (TX2 a).2.1 ≠ (TX2 b).2.1 := by decide +kernel
theorem tyX2_ok : ∀ k, k < 8 → parseFieldDescriptor (TX2 k).2.2.1 = some (tyX2 k) := by decide +kernel
abbrev cX2_init : ByteArray := prog_4_method_1_code
def yX2_init : MethodName := ⟨RX2, "<init>", "()V"⟩
abbrev cX2_append : ByteArray := prog_4_method_2_code
def yX2_append : MethodName := ⟨RX2, "append", "(C)I"⟩
abbrev cX2_empty : ByteArray := prog_4_method_3_code
def yX2_empty : MethodName := ⟨RX2, "empty", "()I"⟩
abbrev cX2_read : ByteArray := prog_4_method_4_code
def yX2_read : MethodName := ⟨RX2, "read", "()I"⟩
abbrev cX2_readThing : ByteArray := prog_4_method_5_code
def yX2_readThing : MethodName := ⟨RX2, "readThing", "(I)Z"⟩
abbrev cX2_readSign : ByteArray := prog_4_method_6_code
def yX2_readSign : MethodName := ⟨RX2, "readSign", "(C)Z"⟩
abbrev cX2_readNumber : ByteArray := prog_4_method_7_code
def yX2_readNumber : MethodName := ⟨RX2, "readNumber", "([IIII)Z"⟩
abbrev cX2_signHere : ByteArray := prog_4_method_8_code
def yX2_signHere : MethodName := ⟨RX2, "signHere", "()I"⟩
abbrev cX2_digitHere : ByteArray := prog_4_method_9_code
def yX2_digitHere : MethodName := ⟨RX2, "digitHere", "()I"⟩
def RX3 : String := "SnailTrails$WaysUp"
def TX3 : u_T := fun k => match k with
  | 0 => ("SnailTrails$WaysUp", "sums", "[I", true)
  | _ => ("SnailTrails$WaysUp", "settled", "[I", true)
def tyX3 : Nat → FieldType := fun k => match k with
  | 0 => .array .int
  | _ => .array .int
abbrev wsX30 : List Cond := u_ws RX3 TX3 2
theorem nmX3 : ∀ a, a < 2 → ∀ b, b < 2 → a ≠ b → (TX3 a).2.1 ≠ (TX3 b).2.1 := by decide +kernel
theorem tyX3_ok : ∀ k, k < 2 → parseFieldDescriptor (TX3 k).2.2.1 = some (tyX3 k) := by decide +kernel
abbrev cX3_init : ByteArray := prog_5_method_1_code
def yX3_init : MethodName := ⟨RX3, "<init>", "()V"⟩
abbrev cX3_fromRimDown : ByteArray := prog_5_method_2_code
def yX3_fromRimDown : MethodName := ⟨RX3, "fromRimDown", "(LSnailTrails$Pane;II)I"⟩
abbrev cX3_leastAbove : ByteArray := prog_5_method_3_code
def yX3_leastAbove : MethodName := ⟨RX3, "leastAbove", "(LSnailTrails$Pane;II)I"⟩
abbrev cX3_leastSumFirst : ByteArray := prog_5_method_4_code
def yX3_leastSumFirst : MethodName := ⟨RX3, "leastSumFirst", "(LSnailTrails$Pane;II)I"⟩
abbrev cX3_nearest : ByteArray := prog_5_method_5_code
def yX3_nearest : MethodName := ⟨RX3, "nearest", "()I"⟩
abbrev cX3_reachAbove : ByteArray := prog_5_method_6_code
def yX3_reachAbove : MethodName := ⟨RX3, "reachAbove", "(LSnailTrails$Pane;I)V"⟩
def RX4 : String := "SnailTrails"
def TX4 : u_T := fun k => match k with
  | 0 => ("SnailTrails", "pane", "LSnailTrails$Pane;", true)
  | 1 => ("SnailTrails", "scratch", "LSnailTrails$Pane;", true)
  | 2 => ("SnailTrails", "snapshot", "LSnailTrails$Pane;", true)
  | 3 => ("SnailTrails", "hasSnapshot", "Z", false)
  | 4 => ("SnailTrails", "history", "LSnailTrails$History;", true)
  | 5 => ("SnailTrails", "race", "LSnailTrails$Race;", true)
  | 6 => ("SnailTrails", "waysUp", "LSnailTrails$WaysUp;", true)
  | 7 => ("SnailTrails", "stoppedThing", "I", false)
  | _ => ("SnailTrails", "stoppedBy", "I", false)
def tyX4 : Nat → FieldType := fun k => match k with
  | 0 => .object "SnailTrails$Pane"
  | 1 => .object "SnailTrails$Pane"
  | 2 => .object "SnailTrails$Pane"
  | 3 => .boolean
  | 4 => .object "SnailTrails$History"
  | 5 => .object "SnailTrails$Race"
  | 6 => .object "SnailTrails$WaysUp"
  | 7 => .int
  | _ => .int
abbrev wsX40 : List Cond := u_ws RX4 TX4 9
theorem nmX4 : ∀ a, a < 9 → ∀ b, b < 9 → a ≠ b → (TX4 a).2.1 ≠ (TX4 b).2.1 := by decide +kernel
theorem tyX4_ok : ∀ k, k < 9 → parseFieldDescriptor (TX4 k).2.2.1 = some (tyX4 k) := by decide +kernel
abbrev cX4_init : ByteArray := prog_1_method_1_code
def yX4_init : MethodName := ⟨RX4, "<init>", "()V"⟩
abbrev cX4_setSnail : ByteArray := prog_1_method_2_code
def yX4_setSnail : MethodName := ⟨RX4, "setSnail", "(II)I"⟩
abbrev cX4_takeOff : ByteArray := prog_1_method_3_code
def yX4_takeOff : MethodName := ⟨RX4, "takeOff", "(I)I"⟩
abbrev cX4_setFrost : ByteArray := prog_1_method_4_code
def yX4_setFrost : MethodName := ⟨RX4, "setFrost", "(III)I"⟩
abbrev cX4_set : ByteArray := prog_1_method_5_code
def yX4_set : MethodName := ⟨RX4, "set", "(II)I"⟩
abbrev cX4_pass : ByteArray := prog_1_method_6_code
def yX4_pass : MethodName := ⟨RX4, "pass", "(I)I"⟩
abbrev cX4_recorded : ByteArray := prog_1_method_7_code
def yX4_recorded : MethodName := ⟨RX4, "recorded", "(I)I"⟩
abbrev cX4_type : ByteArray := prog_1_method_8_code
def yX4_type : MethodName := ⟨RX4, "type", "(C)I"⟩
abbrev cX4_clearText : ByteArray := prog_1_method_9_code
def yX4_clearText : MethodName := ⟨RX4, "clearText", "()I"⟩
abbrev cX4_perform : ByteArray := prog_1_method_10_code
def yX4_perform : MethodName := ⟨RX4, "perform", "()I"⟩
abbrev cX4_doThing : ByteArray := prog_1_method_11_code
def yX4_doThing : MethodName := ⟨RX4, "doThing", "(I)I"⟩
abbrev cX4_stopped : ByteArray := prog_1_method_12_code
def yX4_stopped : MethodName := ⟨RX4, "stopped", "(I)I"⟩
abbrev cX4_undo : ByteArray := prog_1_method_13_code
def yX4_undo : MethodName := ⟨RX4, "undo", "()I"⟩
abbrev cX4_keep : ByteArray := prog_1_method_14_code
def yX4_keep : MethodName := ⟨RX4, "keep", "()I"⟩
abbrev cX4_restore : ByteArray := prog_1_method_15_code
def yX4_restore : MethodName := ⟨RX4, "restore", "()I"⟩
abbrev cX4_snail : ByteArray := prog_1_method_16_code
def yX4_snail : MethodName := ⟨RX4, "snail", "(II)I"⟩
abbrev cX4_cell : ByteArray := prog_1_method_17_code
def yX4_cell : MethodName := ⟨RX4, "cell", "(III)I"⟩
abbrev cX4_cost : ByteArray := prog_1_method_18_code
def yX4_cost : MethodName := ⟨RX4, "cost", "(II)I"⟩
abbrev cX4_does : ByteArray := prog_1_method_19_code
def yX4_does : MethodName := ⟨RX4, "does", "(I)I"⟩
abbrev cX4_reason : ByteArray := prog_1_method_20_code
def yX4_reason : MethodName := ⟨RX4, "reason", "(III)I"⟩
abbrev cX4_endsIn : ByteArray := prog_1_method_21_code
def yX4_endsIn : MethodName := ⟨RX4, "endsIn", "(I)I"⟩
abbrev cX4_wayUp : ByteArray := prog_1_method_22_code
def yX4_wayUp : MethodName := ⟨RX4, "wayUp", "(III)I"⟩
abbrev cX4_leader : ByteArray := prog_1_method_23_code
def yX4_leader : MethodName := ⟨RX4, "leader", "()I"⟩
abbrev cX4_owes : ByteArray := prog_1_method_24_code
def yX4_owes : MethodName := ⟨RX4, "owes", "(II)I"⟩
abbrev cX4_bestLane : ByteArray := prog_1_method_25_code
def yX4_bestLane : MethodName := ⟨RX4, "bestLane", "(II)I"⟩
abbrev cX4_turnsFrom : ByteArray := prog_1_method_26_code
def yX4_turnsFrom : MethodName := ⟨RX4, "turnsFrom", "(III)I"⟩
abbrev cX4_count : ByteArray := prog_1_method_27_code
def yX4_count : MethodName := ⟨RX4, "count", "(I)I"⟩
abbrev cX4_cellAt : ByteArray := prog_1_method_28_code
def yX4_cellAt : MethodName := ⟨RX4, "cellAt", "(II)I"⟩
abbrev cX4_sum : ByteArray := prog_1_method_29_code
def yX4_sum : MethodName := ⟨RX4, "sum", "([I)I"⟩
abbrev cX4_copy : ByteArray := prog_1_method_30_code
def yX4_copy : MethodName := ⟨RX4, "copy", "([I[I)V"⟩
def RX5 : String := "SnailTrailsModel"
def TX5 : u_T := fun k => match k with
  | 0 => ("SnailTrailsModel", "s", "[I", true)
  | 1 => ("SnailTrailsModel", "aside", "[I", true)
  | 2 => ("SnailTrailsModel", "past", "[I", true)
  | 3 => ("SnailTrailsModel", "pasts", "I", false)
  | 4 => ("SnailTrailsModel", "snapshot", "[I", true)
  | 5 => ("SnailTrailsModel", "isKept", "Z", false)
  | 6 => ("SnailTrailsModel", "text", "[C", true)
  | 7 => ("SnailTrailsModel", "length", "I", false)
  | 8 => ("SnailTrailsModel", "hasStop", "Z", false)
  | 9 => ("SnailTrailsModel", "stopAt", "I", false)
  | 10 => ("SnailTrailsModel", "stopWhy", "I", false)
  | 11 => ("SnailTrailsModel", "spot", "I", false)
  | 12 => ("SnailTrailsModel", "isWrong", "Z", false)
  | 13 => ("SnailTrailsModel", "kind", "I", false)
  | 14 => ("SnailTrailsModel", "first", "I", false)
  | 15 => ("SnailTrailsModel", "second", "I", false)
  | 16 => ("SnailTrailsModel", "third", "I", false)
  | 17 => ("SnailTrailsModel", "sums", "[I", true)
  | _ => ("SnailTrailsModel", "below", "[I", true)
def tyX5 : Nat → FieldType := fun k => match k with
  | 0 => .array .int
  | 1 => .array .int
  | 2 => .array .int
  | 3 => .int
  | 4 => .array .int
  | 5 => .boolean
  | 6 => .array .char
  | 7 => .int
  | 8 => .boolean
  | 9 => .int
  | 10 => .int
  | 11 => .int
  | 12 => .boolean
  | 13 => .int
  | 14 => .int
  | 15 => .int
  | 16 => .int
  | 17 => .array .int
  | _ => .array .int
abbrev wsX50 : List Cond := u_ws RX5 TX5 19
theorem nmX5 : ∀ a, a < 19 → ∀ b, b < 19 → a ≠ b → (TX5 a).2.1 ≠ (TX5 b).2.1 := by decide +kernel
theorem tyX5_ok : ∀ k, k < 19 → parseFieldDescriptor (TX5 k).2.2.1 = some (tyX5 k) := by decide +kernel
abbrev cX5_init : ByteArray := prog_7_method_1_code
def yX5_init : MethodName := ⟨RX5, "<init>", "()V"⟩
abbrev cX5_in : ByteArray := prog_7_method_3_code
def yX5_in : MethodName := ⟨RX5, "in", "(III)Z"⟩
abbrev cX5_isLane : ByteArray := prog_7_method_4_code
def yX5_isLane : MethodName := ⟨RX5, "isLane", "(I)Z"⟩
abbrev cX5_isCell : ByteArray := prog_7_method_5_code
def yX5_isCell : MethodName := ⟨RX5, "isCell", "(II)Z"⟩
abbrev cX5_isSnail : ByteArray := prog_7_method_6_code
def yX5_isSnail : MethodName := ⟨RX5, "isSnail", "(I)Z"⟩
abbrev cX5_of : ByteArray := prog_7_method_7_code
def yX5_of : MethodName := ⟨RX5, "of", "(II)I"⟩
abbrev cX5_at : ByteArray := prog_7_method_8_code
def yX5_at : MethodName := ⟨RX5, "at", "(II)I"⟩
abbrev cX5_creeps : ByteArray := prog_7_method_9_code
def yX5_creeps : MethodName := ⟨RX5, "creeps", "(I)Z"⟩
abbrev cX5_records : ByteArray := prog_7_method_10_code
def yX5_records : MethodName := ⟨RX5, "records", "()V"⟩
abbrev cX5_putAside : ByteArray := prog_7_method_11_code
def yX5_putAside : MethodName := ⟨RX5, "putAside", "()V"⟩
abbrev cX5_putBack : ByteArray := prog_7_method_12_code
def yX5_putBack : MethodName := ⟨RX5, "putBack", "()V"⟩
abbrev cX5_snailOn : ByteArray := prog_7_method_13_code
def yX5_snailOn : MethodName := ⟨RX5, "snailOn", "(II)I"⟩
abbrev cX5_barSnail : ByteArray := prog_7_method_14_code
def yX5_barSnail : MethodName := ⟨RX5, "barSnail", "(II)I"⟩
abbrev cX5_comes : ByteArray := prog_7_method_15_code
def yX5_comes : MethodName := ⟨RX5, "comes", "(II)I"⟩
abbrev cX5_setSnail : ByteArray := prog_7_method_16_code
def yX5_setSnail : MethodName := ⟨RX5, "setSnail", "(II)I"⟩
abbrev cX5_takeOff : ByteArray := prog_7_method_17_code
def yX5_takeOff : MethodName := ⟨RX5, "takeOff", "(I)I"⟩
abbrev cX5_barFrost : ByteArray := prog_7_method_18_code
def yX5_barFrost : MethodName := ⟨RX5, "barFrost", "(III)I"⟩
abbrev cX5_freezes : ByteArray := prog_7_method_19_code
def yX5_freezes : MethodName := ⟨RX5, "freezes", "(III)I"⟩
abbrev cX5_setFrost : ByteArray := prog_7_method_20_code
def yX5_setFrost : MethodName := ⟨RX5, "setFrost", "(III)I"⟩
abbrev cX5_dries : ByteArray := prog_7_method_21_code
def yX5_dries : MethodName := ⟨RX5, "dries", "()V"⟩
abbrev cX5_most : ByteArray := prog_7_method_22_code
def yX5_most : MethodName := ⟨RX5, "most", "(I)I"⟩
abbrev cX5_set : ByteArray := prog_7_method_23_code
def yX5_set : MethodName := ⟨RX5, "set", "(II)I"⟩
abbrev cX5_why : ByteArray := prog_7_method_24_code
def yX5_why : MethodName := ⟨RX5, "why", "(II)I"⟩
abbrev cX5_laneOf : ByteArray := prog_7_method_25_code
def yX5_laneOf : MethodName := ⟨RX5, "laneOf", "(II)I"⟩
abbrev cX5_price : ByteArray := prog_7_method_26_code
def yX5_price : MethodName := ⟨RX5, "price", "(II)I"⟩
abbrev cX5_chooses : ByteArray := prog_7_method_27_code
def yX5_chooses : MethodName := ⟨RX5, "chooses", "(I)I"⟩
abbrev cX5_creep : ByteArray := prog_7_method_28_code
def yX5_creep : MethodName := ⟨RX5, "creep", "(II)V"⟩
abbrev cX5_turn : ByteArray := prog_7_method_29_code
def yX5_turn : MethodName := ⟨RX5, "turn", "()V"⟩
abbrev cX5_passes : ByteArray := prog_7_method_30_code
def yX5_passes : MethodName := ⟨RX5, "passes", "(I)I"⟩
abbrev cX5_barPass : ByteArray := prog_7_method_31_code
def yX5_barPass : MethodName := ⟨RX5, "barPass", "(I)I"⟩
abbrev cX5_pass : ByteArray := prog_7_method_32_code
def yX5_pass : MethodName := ⟨RX5, "pass", "(I)I"⟩
abbrev cX5_type : ByteArray := prog_7_method_33_code
def yX5_type : MethodName := ⟨RX5, "type", "(C)I"⟩
abbrev cX5_clearText : ByteArray := prog_7_method_34_code
def yX5_clearText : MethodName := ⟨RX5, "clearText", "()I"⟩
abbrev cX5_next : ByteArray := prog_7_method_35_code
def yX5_next : MethodName := ⟨RX5, "next", "()I"⟩
abbrev cX5_sign : ByteArray := prog_7_method_36_code
def yX5_sign : MethodName := ⟨RX5, "sign", "(I)V"⟩
abbrev cX5_number : ByteArray := prog_7_method_37_code
def yX5_number : MethodName := ⟨RX5, "number", "(II)I"⟩
abbrev cX5_thing : ByteArray := prog_7_method_38_code
def yX5_thing : MethodName := ⟨RX5, "thing", "()V"⟩
abbrev cX5_things : ByteArray := prog_7_method_39_code
def yX5_things : MethodName := ⟨RX5, "things", "()I"⟩
abbrev cX5_doesThing : ByteArray := prog_7_method_40_code
def yX5_doesThing : MethodName := ⟨RX5, "doesThing", "()I"⟩
abbrev cX5_perform : ByteArray := prog_7_method_41_code
def yX5_perform : MethodName := ⟨RX5, "perform", "()I"⟩
abbrev cX5_stopped : ByteArray := prog_7_method_42_code
def yX5_stopped : MethodName := ⟨RX5, "stopped", "(I)I"⟩
abbrev cX5_undo : ByteArray := prog_7_method_43_code
def yX5_undo : MethodName := ⟨RX5, "undo", "()I"⟩
abbrev cX5_keep : ByteArray := prog_7_method_44_code
def yX5_keep : MethodName := ⟨RX5, "keep", "()I"⟩
abbrev cX5_restore : ByteArray := prog_7_method_45_code
def yX5_restore : MethodName := ⟨RX5, "restore", "()I"⟩
abbrev cX5_snail : ByteArray := prog_7_method_46_code
def yX5_snail : MethodName := ⟨RX5, "snail", "(II)I"⟩
abbrev cX5_cell : ByteArray := prog_7_method_47_code
def yX5_cell : MethodName := ⟨RX5, "cell", "(III)I"⟩
abbrev cX5_cost : ByteArray := prog_7_method_48_code
def yX5_cost : MethodName := ⟨RX5, "cost", "(II)I"⟩
abbrev cX5_does : ByteArray := prog_7_method_49_code
def yX5_does : MethodName := ⟨RX5, "does", "(I)I"⟩
abbrev cX5_reason : ByteArray := prog_7_method_50_code
def yX5_reason : MethodName := ⟨RX5, "reason", "(III)I"⟩
abbrev cX5_ends : ByteArray := prog_7_method_51_code
def yX5_ends : MethodName := ⟨RX5, "ends", "(I)I"⟩
abbrev cX5_endsIn : ByteArray := prog_7_method_52_code
def yX5_endsIn : MethodName := ⟨RX5, "endsIn", "(I)I"⟩
abbrev cX5_wayUp : ByteArray := prog_7_method_53_code
def yX5_wayUp : MethodName := ⟨RX5, "wayUp", "(III)I"⟩
abbrev cX5_leader : ByteArray := prog_7_method_54_code
def yX5_leader : MethodName := ⟨RX5, "leader", "()I"⟩
abbrev cX5_owes : ByteArray := prog_7_method_55_code
def yX5_owes : MethodName := ⟨RX5, "owes", "(II)I"⟩
abbrev cX5_bestLane : ByteArray := prog_7_method_56_code
def yX5_bestLane : MethodName := ⟨RX5, "bestLane", "(II)I"⟩
abbrev cX5_inState : ByteArray := prog_7_method_57_code
def yX5_inState : MethodName := ⟨RX5, "inState", "(I)I"⟩
abbrev cX5_ofAll : ByteArray := prog_7_method_58_code
def yX5_ofAll : MethodName := ⟨RX5, "ofAll", "(I)I"⟩
abbrev cX5_trails : ByteArray := prog_7_method_59_code
def yX5_trails : MethodName := ⟨RX5, "trails", "()I"⟩
abbrev cX5_frost : ByteArray := prog_7_method_60_code
def yX5_frost : MethodName := ⟨RX5, "frost", "()I"⟩
abbrev cX5_count : ByteArray := prog_7_method_61_code
def yX5_count : MethodName := ⟨RX5, "count", "(I)I"⟩
def RL : String := "SnailTrailsLaw"
end
section
/-! ===== the machine by positions: a memory of whole numbers, over a world whose cells stand fast ===== -/
/-- what the cells hold: position, slot ↦ number -/
abbrev zM : Type := Int → Int → Int
/-- a value: a number, a position, or null -/
abbrev zV : Type := Int ⊕ Option Int
/-- a cell's kind: an array of numbers (type, length); an object (class, fields: a position, told from its own, or a number); an array of positions (type, first, step, length) -/
abbrev zK : Type := (Nat × Nat) ⊕ ((Nat × List (Option Int)) ⊕ (Nat × Int × Int × Nat))
def zm_i (x : Int) : zV := .inl x
def zm_psh (i : Int) : zK := match i.toNat with
  | 0 => .inr (.inl (1, [some 1, some 2, some 3, some 4, some 5, some 6, some 7, some 8, some 9, some 10, some 11, some 12, some 13, some 14, some 24, none, none]))
  | 1 => .inl (0, 120) | 2 => .inl (0, 120) | 3 => .inl (0, 120)
  | 14 => .inr (.inr (2, 1, 1, 9))
  | 24 => .inl (0, 4)
  | _ => .inl (0, 9)
def zm_osh (i : Int) : zK := match i.toNat with
  | 175 => .inr (.inl (4, [some (-175), some (-150), some (-125), none, some 1, some 3, some 9, none, none]))
  | 176 => .inr (.inl (0, [some 1, none, none]))
  | 177 => .inr (.inr (3, -102, 25, 4))
  | 178 => .inr (.inl (2, [some 1, none, none, none, some 2, some 3, some 4, some 5]))
  | 179 => .inl (1, 60)
  | 180 => .inl (0, 21) | 181 => .inl (0, 21) | 182 => .inl (0, 21) | 183 => .inl (0, 21)
  | 184 => .inr (.inl (3, [some 1, some 2]))
  | 185 => .inl (0, 120) | 186 => .inl (0, 120)
  | 187 => .inr (.inl (5, [some 1, some 2, some 3, none, some 4, none, some 5, none, none, none, none, none, none, none, none, none, none, some 6, some 7]))
  | 188 => .inl (0, 538) | 189 => .inl (0, 538) | 190 => .inl (0, 2152) | 191 => .inl (0, 538)
  | 192 => .inl (1, 60)
  | 193 => .inl (0, 6) | _ => .inl (0, 6)
def zm_sh (k : Int) : zK := if k < 175 then zm_psh (k % 25) else zm_osh k
/-- a pane's position -/
def zP (p : Int) : Prop := 0 ≤ p ∧ p < 175 ∧ p % 25 = 0
theorem zm_sh_p {p : Int} (hp : zP p) (i : Int) (h : 0 ≤ i ∧ i < 25) : zm_sh (p + i) = zm_psh i := by
  obtain ⟨h1, h2, h3⟩ := hp
  unfold zm_sh
  rw [if_pos (by omega), show (p + i) % 25 = i by omega]
theorem zm_sh_p0 {p : Int} (hp : zP p) : zm_sh p = zm_psh 0 := by
  have := zm_sh_p hp 0 (by omega)
  rwa [Int.add_zero] at this
abbrev zm_cls : List vw_C := [(RX0, TX0, 3), (RX1, TX1, 17), (RX2, TX2, 8), (RX3, TX3, 2), (RX4, TX4, 9), (RX5, TX5, 19)]
def zm_ty (t : Nat) : FieldType := match t with
  | 0 => .int | 1 => .char | 2 => .array .int | _ => .object RX1
/-- the launch, the addresses, the array classes, the classes and their slots -/
abbrev zG : Type := Launch × (Int → Nat) × (Nat → ClassId) × va_G
abbrev zm_tys (G : zG) : List (ClassId × FieldType) := [(G.2.2.1 0, zm_ty 0), (G.2.2.1 1, zm_ty 1), (G.2.2.1 2, zm_ty 2), (G.2.2.1 3, zm_ty 3)]
def zc (G : zG) : zV → Value
  | .inl x => .int (Int32.ofInt x)
  | .inr (some k) => .ref (G.2.1 k)
  | .inr none => .null
theorem zc_cat (G : zG) (v : zV) : (zc G v).category = 1 := by
  rcases v with x | (_ | k) <;> rfl
def zm_fs (G : zG) (M : zM) (k : Int) : Nat → List (Option Int) → List Value
  | _, [] => []
  | i, none :: r => .int (Int32.ofInt (M k i)) :: zm_fs G M k (i + 1) r
  | i, some o :: r => .ref (G.2.1 (k + o)) :: zm_fs G M k (i + 1) r
def zm_ce (G : zG) (M : zM) (k : Int) : zK → va_E
  | .inl (t, n) => .inl (G.2.2.1 t, n, .inl (fun j => Int32.ofInt (M k (j : Int))))
  | .inr (.inl (ci, fs)) => .inr (ci, zm_fs G M k 0 fs)
  | .inr (.inr (t, o, st, n)) => .inl (G.2.2.1 t, n, .inr (.inr (.inr (.inr (fun j => if j < n then some (G.2.1 (k + o + st * (j : Int))) else none)))))
/-- how many positions there are -/
abbrev zN : Nat := 195
def zm_W (G : zG) (M : zM) : va_W := (List.range zN).map (fun j : Nat => (G.2.1 (j : Int), zm_ce G M (j : Int) (zm_sh (j : Int))))
def zm_A (G : zG) : Nat → Prop := fun q => ∃ j : Nat, j < zN ∧ q = G.2.1 (j : Int)
/-- the addresses are apart -/
def zm_J (G : zG) : Prop := ∀ i j : Nat, i < zN → j < zN → G.2.1 (i : Int) = G.2.1 (j : Int) → i = j
theorem zm_W_get (G : zG) (M : zM) {j : Nat} (h : j < zN) : (zm_W G M)[j]? = some (G.2.1 (j : Int), zm_ce G M (j : Int) (zm_sh (j : Int))) := by
  unfold zm_W
  rw [List.getElem?_map, List.getElem?_range h]
  rfl
theorem zm_W_at (G : zG) (M : zM) {a : Int} (h : 0 ≤ a ∧ a < 195) : (zm_W G M)[a.toNat]? = some (G.2.1 a, zm_ce G M a (zm_sh a)) := by
  have e := zm_W_get G M (j := a.toNat) (show a.toNat < 195 by omega)
  rw [show ((a.toNat : Nat) : Int) = a by omega] at e
  exact e
theorem zm_W_len (G : zG) (M : zM) : (zm_W G M).length = zN := by simp [zm_W]
theorem zm_D {G : zG} (hJ : zm_J G) (M : zM) : va_D (zm_A G) (zm_W G M) := by
  have key : ∀ (i : Nat) (p : Nat × va_E), (zm_W G M)[i]? = some p → i < zN ∧ p.1 = G.2.1 (i : Int) := by
    intro i p h
    have hl := (List.getElem?_eq_some_iff.mp h).1
    rw [zm_W_len] at hl
    rw [zm_W_get G M hl] at h
    cases h
    exact ⟨hl, rfl⟩
  refine ⟨fun i j p q hp hq hpq => ?_, fun k q hq => ?_⟩
  · obtain ⟨a1, a2⟩ := key i p hp
    obtain ⟨b1, b2⟩ := key j q hq
    exact hJ i j a1 b1 (a2.symm.trans (hpq.trans b2))
  · obtain ⟨a1, a2⟩ := key k q hq
    exact ⟨k, a1, a2⟩
theorem zm_W_set (G : zG) (M M' : zM) {a : Int} (h : 0 ≤ a ∧ a < 195) {e : va_E} (he : zm_ce G M' a (zm_sh a) = e) (ho : ∀ k : Int, k ≠ a → M' k = M k) : (zm_W G M).set a.toNat (G.2.1 a, e) = zm_W G M' := by
  have hl : a.toNat < zN := by show a.toNat < 195; omega
  apply List.ext_getElem?
  intro i
  by_cases hi : i = a.toNat
  · subst hi
    rw [List.getElem?_set_self (by rw [zm_W_len]; exact hl), zm_W_at G M' h, he]
  · rw [List.getElem?_set_ne (Ne.symm hi)]
    by_cases hl2 : i < zN
    · rw [zm_W_get G M hl2, zm_W_get G M' hl2]
      have e1 : M' (i : Int) = M (i : Int) := ho _ (by omega)
      have e2 : ∀ (j : Nat) (fs : List (Option Int)), zm_fs G M' (i : Int) j fs = zm_fs G M (i : Int) j fs := by
        intro j fs
        induction fs generalizing j with
        | nil => rfl
        | cons f r ih => cases f <;> simp [zm_fs, ih, e1]
      have e3 : zm_ce G M' (i : Int) (zm_sh (i : Int)) = zm_ce G M (i : Int) (zm_sh (i : Int)) := by
        rcases zm_sh (i : Int) with ⟨t, n⟩ | (⟨ci, fs⟩ | ⟨t, o, st, n⟩)
        · simp [zm_ce, e1]
        · simp [zm_ce, e2]
        · rfl
      rw [e3]
    · rw [List.getElem?_eq_none (by rw [zm_W_len]; omega), List.getElem?_eq_none (by rw [zm_W_len]; omega)]
/-- a write -/
def zm_up (M : zM) (a i v : Int) : zM := fun k j => if k = a ∧ j = i then v else M k j
theorem zm_up_off {M : zM} {a i v k : Int} (h : k ≠ a) : zm_up M a i v k = M k := by
  funext j
  simp [zm_up, h]
theorem zm_up_at {M : zM} {a i v : Int} : zm_up M a i v a i = v := by simp [zm_up]
theorem zm_up_ne {M : zM} {a i v j : Int} (h : j ≠ i) : zm_up M a i v a j = M a j := by simp [zm_up, h]
theorem zm_fs_len (G : zG) (M : zM) (a : Int) : ∀ (j : Nat) (fs : List (Option Int)), (zm_fs G M a j fs).length = fs.length
  | _, [] => rfl
  | j, none :: r => by simp [zm_fs, zm_fs_len G M a (j + 1) r]
  | j, some o :: r => by simp [zm_fs, zm_fs_len G M a (j + 1) r]
theorem zm_fs_get (G : zG) (M : zM) (a : Int) : ∀ (j k : Nat) (fs : List (Option Int)) (f : Option Int), fs[k]? = some f → (zm_fs G M a j fs)[k]? = some (match f with | none => .int (Int32.ofInt (M a ((j + k : Nat) : Int))) | some o => .ref (G.2.1 (a + o)))
  | _, _, [], _, h => by simp at h
  | j, 0, none :: r, f, h => by simp at h; subst h; simp [zm_fs]
  | j, 0, some o :: r, f, h => by simp at h; subst h; simp [zm_fs]
  | j, k + 1, none :: r, f, h => by
    have h1 := zm_fs_get G M a (j + 1) k r f (by simpa using h)
    simp only [zm_fs, List.getElem?_cons_succ]
    rw [h1, show j + 1 + k = j + (k + 1) by omega]
  | j, k + 1, some o :: r, f, h => by
    have h1 := zm_fs_get G M a (j + 1) k r f (by simpa using h)
    simp only [zm_fs, List.getElem?_cons_succ]
    rw [h1, show j + 1 + k = j + (k + 1) by omega]
theorem zm_fs_set (G : zG) (M : zM) (a v : Int) : ∀ (j k : Nat) (fs : List (Option Int)), fs[k]? = some none → (zm_fs G M a j fs).set k (.int (Int32.ofInt v)) = zm_fs G (zm_up M a ((j + k : Nat) : Int) v) a j fs
  | _, _, [], h => by simp at h
  | j, 0, some o :: r, h => by simp at h
  | j, 0, none :: r, h => by
    have key : ∀ (i : Nat) (fs : List (Option Int)), j < i → zm_fs G M a i fs = zm_fs G (zm_up M a ((j : Nat) : Int) v) a i fs := by
      intro i fs
      induction fs generalizing i with
      | nil => intro _; rfl
      | cons f r ih =>
        intro hi
        cases f with
        | none =>
          simp only [zm_fs]
          rw [← ih (i + 1) (by omega), zm_up_ne (by omega)]
        | some o =>
          simp only [zm_fs]
          rw [← ih (i + 1) (by omega)]
    simp only [zm_fs, List.set_cons_zero, Nat.add_zero]
    rw [zm_up_at, ← key (j + 1) r (by omega)]
  | j, k + 1, none :: r, h => by
    have h1 := zm_fs_set G M a v (j + 1) k r (by simpa using h)
    simp only [zm_fs, List.set_cons_succ]
    rw [h1, zm_up_ne (by omega), show j + 1 + k = j + (k + 1) by omega]
  | j, k + 1, some o :: r, h => by
    have h1 := zm_fs_set G M a v (j + 1) k r (by simpa using h)
    simp only [zm_fs, List.set_cons_succ]
    rw [h1, show j + 1 + k = j + (k + 1) by omega]
/-! numbers -/
theorem zn_lt {a b : Int} (ha : -2147483648 ≤ a ∧ a < 2147483648) (hb : -2147483648 ≤ b ∧ b < 2147483648) : Int32.ofInt a < Int32.ofInt b ↔ a < b := by
  rw [Int32.lt_iff_toInt_lt, Int32.toInt_ofInt_of_le (by omega) (by omega), Int32.toInt_ofInt_of_le (by omega) (by omega)]
theorem zn_le {a b : Int} (ha : -2147483648 ≤ a ∧ a < 2147483648) (hb : -2147483648 ≤ b ∧ b < 2147483648) : Int32.ofInt a ≤ Int32.ofInt b ↔ a ≤ b := by
  rw [Int32.le_iff_toInt_le, Int32.toInt_ofInt_of_le (by omega) (by omega), Int32.toInt_ofInt_of_le (by omega) (by omega)]
theorem zn_eq {a b : Int} (ha : -2147483648 ≤ a ∧ a < 2147483648) (hb : -2147483648 ≤ b ∧ b < 2147483648) : Int32.ofInt a = Int32.ofInt b ↔ a = b := by
  rw [← Int32.toInt_inj, Int32.toInt_ofInt_of_le (by omega) (by omega), Int32.toInt_ofInt_of_le (by omega) (by omega)]
theorem zn_cl {a : Int} (h : 0 ≤ a ∧ a < 2147483648) : (Int32.ofInt a).toNatClampNeg = a.toNat := Int32.toNatClampNeg_ofInt_of_le (by omega) (by omega)
theorem zn_in {a : Int} {n : Nat} (h : 0 ≤ a ∧ a < n) (hn : n < 2147483648) : vp_in (Int32.ofInt a) n := by
  intro q
  rcases q with q | q
  · have := (zn_lt (a := a) (b := 0) (by omega) (by omega)).mp q
    omega
  · rw [zn_cl (by omega)] at q
    omega
/-! the context of a method -/
/-- what the statics hold: SIDES, LEAST_SETTINGS, MOST_SETTINGS, at positions 1000, 1001, 1002 -/
def zm_st (k : Nat) : String × List Int := match k with
  | 0 => ("SIDES", [0, -1, 1])
  | 1 => ("LEAST_SETTINGS", [0, 1, 1, 1])
  | _ => ("MOST_SETTINGS", [99, 9, 20, 50])
def zm_S1 (G : zG) (A : Nat → Prop) (k : Nat) (U : State) (H : Heap) : Prop := va_Z RX4 (zm_st k).1 "[I" (.ref (G.2.1 (1000 + (k : Int)))) A U H ∧ va_T .int (G.2.1 (1000 + (k : Int))) (zm_st k).2.length (fun j => .int (Int32.ofInt ((zm_st k).2.getD j 0))) A U H
def zm_St (G : zG) (A : Nat → Prop) (U : State) (H : Heap) : Prop := ∀ k : Nat, k < 3 → zm_S1 G A k U H
theorem zm_St.moved {G : zG} {A : Nat → Prop} {u U : State} {H : Heap} (hvm : u.vm.Alike U.vm) (h : zm_St G A u H) : zm_St G A U H := fun k hk => ⟨(h k hk).1.moved hvm, (h k hk).2.moved hvm⟩
theorem zm_St.kept {G : zG} {A : Nat → Prop} {U : State} {H H1 : Heap} (h : zm_St G A U H) (hq : ∀ a : Nat, a < H.size → ¬ A a → H1[a]? = H[a]?) : zm_St G A U H1 := fun k hk => ⟨(h k hk).1.kept hq, (h k hk).2.kept hq⟩
/-- the words that every state of the run keeps, and those of nest mates -/
def zT : List Cond := lw_tbl.filter goodWord
def zm_isN : Cond → Bool
  | .fieldLinkNest .. => true
  | .methodLinkNest .. => true
  | _ => false
def zTN : List Cond := lw_tbl.filter zm_isN
theorem zin {i : Nat} {w : Cond} (h : lw_tbl[i]? = some w) (hg : goodWord w = true) : w ∈ zT := List.mem_filter.mpr ⟨List.mem_of_getElem? h, hg⟩
theorem zinN {i : Nat} {w : Cond} (h : lw_tbl[i]? = some w) (hg : zm_isN w = true) : w ∈ zTN := List.mem_filter.mpr ⟨List.mem_of_getElem? h, hg⟩
def zNs (U : State) : Prop := ∀ w ∈ zTN, va_Nw w U
theorem zNs.warm {s U : State} (hW : s.WarmedH U.vm) (h : zNs s) : zNs U := by
  intro w hw
  have hn := (List.mem_filter.mp hw).2
  have h1 := h w hw
  cases w <;> first | (simp [zm_isN] at hn; done) | exact va_Nw.warmF hW h1 | exact va_Nw.warmM hW h1
theorem zNs.same {u U : State} (hvm : u.vm = U.vm) (h : zNs u) : zNs U := by
  intro w hw
  have hn := (List.mem_filter.mp hw).2
  have h1 := h w hw
  cases w <;> first | (simp [zm_isN] at hn; done) | exact va_Nw.same rfl hvm h1
/-- a method: its class, its bytes, how many locals, its type, how deep its calls go -/
abbrev zY : Type := String × ByteArray × Nat × Option FieldType × Nat
def zm_rm (d : Nat) : Room := { frames := d, cells := 0, slots := 0, locals := 40 * d }
def zm_Cx (G : zG) (Y : zY) (p : Program) (s : State) (m : MethodId) (args : Array Value) (meth : Method) (c : Code) : Prop :=
  p.tables.exec = Jvm.exec ∧ c.code = Y.2.1 ∧ c.maxLocals = Y.2.2.1 ∧ meth.sig.returnType = Y.2.2.2.1 ∧ (∀ w ∈ zT, w.before args s = true) ∧ s.vm.findClass Y.1 = some m.cls ∧ meth.locks = false ∧ va_K G.2.2.2 zm_cls (zm_tys G) s ∧ zm_St G (zm_A G) s s.heap ∧ zm_J G ∧ zNs s
def zm_GP (G : zG) (M : zM) (H : Heap) : Prop := va_P G.2.2.2 zm_cls (zm_W G M) H
def zm_Qc (G : zG) (Q : Option zV → zM → Prop) : Array Value → State → Outcome → State → Prop := fun _ st oc t => (∃ (v : Option zV) (M' : zM), oc = .returned (v.map (zc G)) ∧ Q v M' ∧ zm_GP G M' t.heap) ∧ va_F (zm_A G) st t
def zm_lo (G : zG) (lo : List (Nat × zV)) : List (Nat × Value) := lo.map (fun q => (q.1, zc G q.2))
def zm_sk (G : zG) (st : List zV) : List Value := st.map (zc G)
/-- THE JUDGEMENT: from there, the method comes to its end with Q -/
def zW (G : zG) (Y : zY) (Q : Option zV → zM → Prop) (pc : Nat) (lo : List (Nat × zV)) (st : List zV) (M : zM) : Prop :=
  ∀ (p : Program) (e : Env) (s : State) (m : MethodId) (args : Array Value) (below : List Frame) (meth : Method) (c : Code), zm_Cx G Y p s m args meth c →
    ∀ (H : Heap) (locs : List Loc) (ls : Array Slot), zm_GP G M H → va_S (zm_A G) s.heap H locs → lv_has ls Y.2.2.1 (zm_lo G lo) →
      W p G.1 e (zm_rm Y.2.2.2.2) s m args below meth c H locs 0 0 (MQ below (zm_Qc G Q) args s 0 0 (zm_A G)) (F0 m pc ls (zm_sk G st))
/-- a local -/
def zk (lo : List (Nat × zV)) (i : Nat) : Option zV := match lo with
  | [] => none
  | q :: r => bif Nat.beq q.1 i then some q.2 else zk r i
def zs (lo : List (Nat × zV)) (i : Nat) (v : zV) : List (Nat × zV) := (i, v) :: lo.filter (fun q => !(Nat.beq q.1 i))
theorem zbeq (a b : Nat) : (a == b) = Nat.beq a b := by
  rw [Bool.eq_iff_iff]
  simp [Nat.beq_eq]
theorem zk_mem {lo : List (Nat × zV)} {i : Nat} {v : zV} (h : zk lo i = some v) : (i, v) ∈ lo := by
  induction lo with
  | nil => simp [zk] at h
  | cons q r ih =>
    unfold zk at h
    by_cases hq : q.1 = i
    · rw [show Nat.beq q.1 i = true from by rw [hq]; exact Nat.beq_refl i] at h
      cases h
      rw [← hq]
      exact List.mem_cons_self
    · rw [show Nat.beq q.1 i = false from by rw [← zbeq]; simpa using hq] at h
      exact List.mem_cons_of_mem _ (ih h)
theorem zk_lv {G : zG} {ls : Array Slot} {nL : Nat} {lo : List (Nat × zV)} (h : lv_has ls nL (zm_lo G lo)) {i : Nat} {v : zV} (hk : zk lo i = some v) : ls[i]? = some (.val (zc G v)) :=
  h.2.2 (i, zc G v) (List.mem_map.mpr ⟨(i, v), zk_mem hk, rfl⟩)
theorem zs_lo {G : zG} (lo : List (Nat × zV)) (i : Nat) (v : zV) : (i, zc G v) :: (zm_lo G lo).filter (fun q => !(q.1 == i) && !(q.1 + 1 == i && q.2.category == 2)) = zm_lo G (zs lo i v) := by
  unfold zs zm_lo
  rw [List.map_cons]
  congr 1
  rw [List.filter_map]
  congr 1
  apply List.filter_congr
  intro q _
  have hc := zc_cat G q.2
  show (!(q.1 == i) && !(q.1 + 1 == i && (zc G q.2).category == 2)) = !(Nat.beq q.1 i)
  rw [hc, ← zbeq]
  simp
/-- fewer locals -/
def zall (lo : List (Nat × zV)) : List (Nat × zV) → Prop
  | [] => True
  | q :: r => zk lo q.1 = some q.2 ∧ zall lo r
theorem zall_mem {lo : List (Nat × zV)} : ∀ {l2 : List (Nat × zV)}, zall lo l2 → ∀ q ∈ l2, q ∈ lo
  | [], _, q, h => by simp at h
  | q0 :: r, ⟨h1, h2⟩, q, h => by
    rcases List.mem_cons.mp h with h | h
    · subst h
      exact zk_mem h1
    · exact zall_mem h2 q h
theorem zsub {G : zG} {Y : zY} {Q : Option zV → zM → Prop} {pc : Nat} {lo l2 : List (Nat × zV)} {st : List zV} {M : zM} (h : zall lo l2) (k : zW G Y Q pc l2 st M) : zW G Y Q pc lo st M := by
  intro p e s m args below meth c C H locs ls hP hS hl
  refine k p e s m args below meth c C H locs ls hP hS ⟨hl.1, hl.2.1, fun q hq => ?_⟩
  obtain ⟨q1, h1, rfl⟩ := List.mem_map.mp hq
  exact hl.2.2 _ (List.mem_map.mpr ⟨q1, zall_mem h q1 h1, rfl⟩)
theorem zcong {G : zG} {Y : zY} {Q : Option zV → zM → Prop} {pc : Nat} {lo : List (Nat × zV)} {st : List zV} {M M' : zM} (h : M = M') (k : zW G Y Q pc lo st M') : zW G Y Q pc lo st M := h ▸ k
end
section
section ZR
variable {G : zG} {Y : zY} {Q : Option zV → zM → Prop} {pc : Nat} {lo : List (Nat × zV)} {st : List zV} {M : zM}
theorem z_iconst {n : Int} (hd : decode Y.2.1 pc = .ok (.iconst n, 1)) 
    (k : zW G Y Q (pc + 1) lo (.inl n :: st) M) : zW G Y Q pc lo st M := by
  intro p e s m args below meth c C H locs ls hP hS hl
  obtain ⟨hx, hb, hml, hr, hts, hown, hlk, hK, hSt, hJ, hN⟩ := id C
  exact lv_iconst hx hb hd rfl (k p e s m args below meth c C H locs ls hP hS hl)

theorem z_bipush {n : Int} (hd : decode Y.2.1 pc = .ok (.bipush n, 2)) (hv : (Int8.ofInt n).toInt32 = Int32.ofInt n)
    (k : zW G Y Q (pc + 2) lo (.inl n :: st) M) : zW G Y Q pc lo st M := by
  intro p e s m args below meth c C H locs ls hP hS hl
  obtain ⟨hx, hb, hml, hr, hts, hown, hlk, hK, hSt, hJ, hN⟩ := id C
  exact lv_bipush hx hb hd hv (k p e s m args below meth c C H locs ls hP hS hl)

theorem z_sipush {n : Int} (hd : decode Y.2.1 pc = .ok (.sipush n, 3)) (hv : (Int16.ofInt n).toInt32 = Int32.ofInt n)
    (k : zW G Y Q (pc + 3) lo (.inl n :: st) M) : zW G Y Q pc lo st M := by
  intro p e s m args below meth c C H locs ls hP hS hl
  obtain ⟨hx, hb, hml, hr, hts, hown, hlk, hK, hSt, hJ, hN⟩ := id C
  exact lv_sipush hx hb hd hv (k p e s m args below meth c C H locs ls hP hS hl)

theorem z_ldc {n : Int} {index : Nat} (hd : decode Y.2.1 pc = .ok (.ldc index, 2)) (hc : Jvm.Cond.constant Y.1 index (Int32.ofInt n) ∈ zT)
    (k : zW G Y Q (pc + 2) lo (.inl n :: st) M) : zW G Y Q pc lo st M := by
  intro p e s m args below meth c C H locs ls hP hS hl
  obtain ⟨hx, hb, hml, hr, hts, hown, hlk, hK, hSt, hJ, hN⟩ := id C
  exact lv_ldc hx hb hown (hts _ hc) hd (k p e s m args below meth c C H locs ls hP hS hl)

theorem z_iload_n {i : Fin 4} {x : Int} (hd : decode Y.2.1 pc = .ok (.iload_n i, 1)) (hk : zk lo i = some (.inl x))
    (k : zW G Y Q (pc + 1) lo (.inl x :: st) M) : zW G Y Q pc lo st M := by
  intro p e s m args below meth c C H locs ls hP hS hl
  obtain ⟨hx, hb, hml, hr, hts, hown, hlk, hK, hSt, hJ, hN⟩ := id C
  exact lv_iload_n hx hb hd rfl (zk_lv hl hk) (k p e s m args below meth c C H locs ls hP hS hl)

theorem z_iload {i : Nat} {x : Int} (hd : decode Y.2.1 pc = .ok (.iload i, 2)) (hk : zk lo i = some (.inl x))
    (k : zW G Y Q (pc + 2) lo (.inl x :: st) M) : zW G Y Q pc lo st M := by
  intro p e s m args below meth c C H locs ls hP hS hl
  obtain ⟨hx, hb, hml, hr, hts, hown, hlk, hK, hSt, hJ, hN⟩ := id C
  exact lv_iload hx hb hd (zk_lv hl hk) (k p e s m args below meth c C H locs ls hP hS hl)

theorem z_aload_n {i : Fin 4} {x : Int} (hd : decode Y.2.1 pc = .ok (.aload_n i, 1)) (hk : zk lo i = some (.inr (some x)))
    (k : zW G Y Q (pc + 1) lo (.inr (some x) :: st) M) : zW G Y Q pc lo st M := by
  intro p e s m args below meth c C H locs ls hP hS hl
  obtain ⟨hx, hb, hml, hr, hts, hown, hlk, hK, hSt, hJ, hN⟩ := id C
  exact lv_aload_n hx hb hd rfl (zk_lv hl hk) (k p e s m args below meth c C H locs ls hP hS hl)

theorem z_aload {i : Nat} {x : Int} (hd : decode Y.2.1 pc = .ok (.aload i, 2)) (hk : zk lo i = some (.inr (some x)))
    (k : zW G Y Q (pc + 2) lo (.inr (some x) :: st) M) : zW G Y Q pc lo st M := by
  intro p e s m args below meth c C H locs ls hP hS hl
  obtain ⟨hx, hb, hml, hr, hts, hown, hlk, hK, hSt, hJ, hN⟩ := id C
  exact lv_aload hx hb hd (zk_lv hl hk) (k p e s m args below meth c C H locs ls hP hS hl)

theorem z_aload_nN {i : Fin 4} (hd : decode Y.2.1 pc = .ok (.aload_n i, 1)) (hk : zk lo i = some (.inr none))
    (k : zW G Y Q (pc + 1) lo (.inr none :: st) M) : zW G Y Q pc lo st M := by
  intro p e s m args below meth c C H locs ls hP hS hl
  obtain ⟨hx, hb, hml, hr, hts, hown, hlk, hK, hSt, hJ, hN⟩ := id C
  exact lv_aload_nN hx hb hd rfl (zk_lv hl hk) (k p e s m args below meth c C H locs ls hP hS hl)

theorem z_aconst_null  (hd : decode Y.2.1 pc = .ok (.aconst_null, 1)) 
    (k : zW G Y Q (pc + 1) lo (.inr none :: st) M) : zW G Y Q pc lo st M := by
  intro p e s m args below meth c C H locs ls hP hS hl
  obtain ⟨hx, hb, hml, hr, hts, hown, hlk, hK, hSt, hJ, hN⟩ := id C
  exact lv_null hx hb hd  (k p e s m args below meth c C H locs ls hP hS hl)

theorem z_istore_n {i : Fin 4} {x : Int} (hd : decode Y.2.1 pc = .ok (.istore_n i, 1)) (hn : i < Y.2.2.1)
    (k : zW G Y Q (pc + 1) (zs lo i (.inl x)) st M) : zW G Y Q pc lo (.inl x :: st) M := by
  intro p e s m args below meth c C H locs ls hP hS hl
  obtain ⟨hx, hb, hml, hr, hts, hown, hlk, hK, hSt, hJ, hN⟩ := id C
  exact lv_istore_n hx hb hd rfl hl hn (zs_lo lo i (.inl x)) (fun ls' hl' => k p e s m args below meth c C H locs ls' hP hS hl')

theorem z_istore {i : Nat} {x : Int} (hd : decode Y.2.1 pc = .ok (.istore i, 2)) (hn : i < Y.2.2.1)
    (k : zW G Y Q (pc + 2) (zs lo i (.inl x)) st M) : zW G Y Q pc lo (.inl x :: st) M := by
  intro p e s m args below meth c C H locs ls hP hS hl
  obtain ⟨hx, hb, hml, hr, hts, hown, hlk, hK, hSt, hJ, hN⟩ := id C
  exact lv_istore hx hb hd  hl hn (zs_lo lo i (.inl x)) (fun ls' hl' => k p e s m args below meth c C H locs ls' hP hS hl')

theorem z_astore_n {i : Fin 4} {x : Int} (hd : decode Y.2.1 pc = .ok (.astore_n i, 1)) (hn : i < Y.2.2.1)
    (k : zW G Y Q (pc + 1) (zs lo i (.inr (some x))) st M) : zW G Y Q pc lo (.inr (some x) :: st) M := by
  intro p e s m args below meth c C H locs ls hP hS hl
  obtain ⟨hx, hb, hml, hr, hts, hown, hlk, hK, hSt, hJ, hN⟩ := id C
  exact lv_astore_n hx hb hd rfl hl hn (zs_lo lo i (.inr (some x))) (fun ls' hl' => k p e s m args below meth c C H locs ls' hP hS hl')

theorem z_astore {i : Nat} {x : Int} (hd : decode Y.2.1 pc = .ok (.astore i, 2)) (hn : i < Y.2.2.1)
    (k : zW G Y Q (pc + 2) (zs lo i (.inr (some x))) st M) : zW G Y Q pc lo (.inr (some x) :: st) M := by
  intro p e s m args below meth c C H locs ls hP hS hl
  obtain ⟨hx, hb, hml, hr, hts, hown, hlk, hK, hSt, hJ, hN⟩ := id C
  exact lv_astore hx hb hd  hl hn (zs_lo lo i (.inr (some x))) (fun ls' hl' => k p e s m args below meth c C H locs ls' hP hS hl')

theorem zk_idx {lo : List (Nat × zV)} {i : Nat} {v : zV} (G : zG) (h : zk lo i = some v) : ∃ j : Nat, (zm_lo G lo)[j]? = some (i, zc G v) := by
  obtain ⟨j, hj⟩ := List.getElem?_of_mem (zk_mem h)
  exact ⟨j, by unfold zm_lo; rw [List.getElem?_map, hj]; rfl⟩
theorem z_astore_nN {i : Fin 4} (hd : decode Y.2.1 pc = .ok (.astore_n i, 1)) (hn : i < Y.2.2.1)
    (k : zW G Y Q (pc + 1) (zs lo i (.inr none)) st M) : zW G Y Q pc lo (.inr none :: st) M := by
  intro p e s m args below meth c C H locs ls hP hS hl
  obtain ⟨hx, hb, hml, hr, hts, hown, hlk, hK, hSt, hJ, hN⟩ := id C
  exact lv_astore_nN hx hb hd rfl hl hn (zs_lo lo i (.inr none)) (fun ls' hl' => k p e s m args below meth c C H locs ls' hP hS hl')
theorem z_iinc {i : Nat} {n x : Int} (hd : decode Y.2.1 pc = .ok (.iinc i n, 3)) (hk : zk lo i = some (.inl x)) (hn : i < Y.2.2.1)
    (k : zW G Y Q (pc + 3) (zs lo i (.inl (x + n))) st M) : zW G Y Q pc lo st M := by
  intro p e s m args below meth c C H locs ls hP hS hl
  obtain ⟨hx, hb, hml, hr, hts, hown, hlk, hK, hSt, hJ, hN⟩ := id C
  obtain ⟨j, hj⟩ := zk_idx G hk
  exact lv_iinc hx hb hd hl hj (Int32.ofInt_add x n).symm hn (zs_lo lo i (.inl (x + n))) (fun ls' hl' => k p e s m args below meth c C H locs ls' hP hS hl')

theorem z_iadd {x y : Int} (hd : decode Y.2.1 pc = .ok (.iadd, 1))
    (k : zW G Y Q (pc + 1) lo (.inl (x + y) :: st) M) : zW G Y Q pc lo (.inl y :: .inl x :: st) M := by
  intro p e s m args below meth c C H locs ls hP hS hl
  obtain ⟨hx, hb, hml, hr, hts, hown, hlk, hK, hSt, hJ, hN⟩ := id C
  refine lv_iadd hx hb hd ?_
  rw [← Int32.ofInt_add]
  exact k p e s m args below meth c C H locs ls hP hS hl

theorem z_isub {x y : Int} (hd : decode Y.2.1 pc = .ok (.isub, 1))
    (k : zW G Y Q (pc + 1) lo (.inl (x - y) :: st) M) : zW G Y Q pc lo (.inl y :: .inl x :: st) M := by
  intro p e s m args below meth c C H locs ls hP hS hl
  obtain ⟨hx, hb, hml, hr, hts, hown, hlk, hK, hSt, hJ, hN⟩ := id C
  refine lv_isub hx hb hd ?_
  rw [← Int32.ofInt_sub]
  exact k p e s m args below meth c C H locs ls hP hS hl

theorem z_imul {x y : Int} (hd : decode Y.2.1 pc = .ok (.imul, 1))
    (k : zW G Y Q (pc + 1) lo (.inl (x * y) :: st) M) : zW G Y Q pc lo (.inl y :: .inl x :: st) M := by
  intro p e s m args below meth c C H locs ls hP hS hl
  obtain ⟨hx, hb, hml, hr, hts, hown, hlk, hK, hSt, hJ, hN⟩ := id C
  refine lv_imul hx hb hd ?_
  rw [← Int32.ofInt_mul]
  exact k p e s m args below meth c C H locs ls hP hS hl

theorem zn_div {x y : Int} (hx : 0 ≤ x ∧ x < 2147483648) (hy : 0 < y ∧ y < 2147483648) : Int32.ofInt x / Int32.ofInt y = Int32.ofInt (x / y) := by
  have e := Int32.ofInt_tdiv (a := x) (b := y) (by show (-2147483648 : Int) ≤ x; omega) (by show x ≤ (2147483647 : Int); omega) (by show (-2147483648 : Int) ≤ y; omega) (by show y ≤ (2147483647 : Int); omega)
  rw [← e, Int.tdiv_eq_ediv_of_nonneg hx.1]
theorem zn_ne0 {y : Int} (hy : 0 < y ∧ y < 2147483648) : ¬ Int32.ofInt y = 0 := by
  intro h
  have := (zn_eq (a := y) (b := 0) (by omega) (by omega)).mp h
  omega
theorem z_idiv {x y : Int} (hd : decode Y.2.1 pc = .ok (.idiv, 1)) (h1 : 0 ≤ x ∧ x < 2147483648) (h2 : 0 < y ∧ y < 2147483648)
    (k : zW G Y Q (pc + 1) lo (.inl (x / y) :: st) M) : zW G Y Q pc lo (.inl y :: .inl x :: st) M := by
  intro p e s m args below meth c C H locs ls hP hS hl
  obtain ⟨hx, hb, hml, hr, hts, hown, hlk, hK, hSt, hJ, hN⟩ := id C
  refine lv_idiv hx hb hd (zn_ne0 h2) ?_
  rw [zn_div h1 h2]
  exact k p e s m args below meth c C H locs ls hP hS hl
theorem z_irem {x y : Int} (hd : decode Y.2.1 pc = .ok (.irem, 1)) (h1 : 0 ≤ x ∧ x < 2147483648) (h2 : 0 < y ∧ y < 2147483648)
    (k : zW G Y Q (pc + 1) lo (.inl (x % y) :: st) M) : zW G Y Q pc lo (.inl y :: .inl x :: st) M := by
  intro p e s m args below meth c C H locs ls hP hS hl
  obtain ⟨hx, hb, hml, hr, hts, hown, hlk, hK, hSt, hJ, hN⟩ := id C
  refine lv_irem hx hb hd (zn_ne0 h2) ?_
  rw [zn_div h1 h2, ← Int32.ofInt_mul, ← Int32.ofInt_sub, show x - x / y * y = x % y by rw [Int.emod_def, Int.mul_comm]]
  exact k p e s m args below meth c C H locs ls hP hS hl
theorem z_dup {v : zV} (hd : decode Y.2.1 pc = .ok (.dup, 1))
    (k : zW G Y Q (pc + 1) lo (v :: v :: st) M) : zW G Y Q pc lo (v :: st) M := by
  intro p e s m args below meth c C H locs ls hP hS hl
  obtain ⟨hx, hb, hml, hr, hts, hown, hlk, hK, hSt, hJ, hN⟩ := id C
  exact lv_dup hx hb hd (zc_cat G v) (k p e s m args below meth c C H locs ls hP hS hl)
theorem z_pop {v : zV} (hd : decode Y.2.1 pc = .ok (.pop, 1))
    (k : zW G Y Q (pc + 1) lo st M) : zW G Y Q pc lo (v :: st) M := by
  intro p e s m args below meth c C H locs ls hP hS hl
  obtain ⟨hx, hb, hml, hr, hts, hown, hlk, hK, hSt, hJ, hN⟩ := id C
  exact lv_pop hx hb hd (zc_cat G v) (k p e s m args below meth c C H locs ls hP hS hl)
theorem z_dup2 {v w : zV} (hd : decode Y.2.1 pc = .ok (.dup2, 1))
    (k : zW G Y Q (pc + 1) lo (v :: w :: v :: w :: st) M) : zW G Y Q pc lo (v :: w :: st) M := by
  intro p e s m args below meth c C H locs ls hP hS hl
  obtain ⟨hx, hb, hml, hr, hts, hown, hlk, hK, hSt, hJ, hN⟩ := id C
  exact lv_dup2_11 hx hb hd (zc_cat G v) (zc_cat G w) (k p e s m args below meth c C H locs ls hP hS hl)
theorem z_goto {off : Int} {tgt : Nat} (hd : decode Y.2.1 pc = .ok (.goto off, 3)) (ht : (pc : Int) + off = (tgt : Int))
    (k : zW G Y Q tgt lo st M) : zW G Y Q pc lo st M := by
  intro p e s m args below meth c C H locs ls hP hS hl
  obtain ⟨hx, hb, hml, hr, hts, hown, hlk, hK, hSt, hJ, hN⟩ := id C
  exact lv_goto hx hb hd ht (k p e s m args below meth c C H locs ls hP hS hl)

theorem z_icmp_eq {x y : Int} {off : Int} {tgt : Nat} (hd : decode Y.2.1 pc = .ok (.if_icmp .eq off, 3)) (ht : (pc : Int) + off = (tgt : Int)) (rx : -2147483648 ≤ x ∧ x < 2147483648) (ry : -2147483648 ≤ y ∧ y < 2147483648)
    (kt : x = y → zW G Y Q tgt lo st M) (kf : ¬ x = y → zW G Y Q (pc + 3) lo st M) : zW G Y Q pc lo (.inl y :: .inl x :: st) M := by
  intro p e s m args below meth c C H locs ls hP hS hl
  obtain ⟨hx, hb, hml, hr, hts, hown, hlk, hK, hSt, hJ, hN⟩ := id C

  exact lv_icmp_eq hx hb hd ht (fun h => kt ((zn_eq (b := y) rx ry).mp h) p e s m args below meth c C H locs ls hP hS hl) (fun h => kf (fun q => h ((zn_eq (b := y) rx ry).mpr q)) p e s m args below meth c C H locs ls hP hS hl)

theorem z_if_eq {x : Int} {off : Int} {tgt : Nat} (hd : decode Y.2.1 pc = .ok (.ifCond .eq off, 3)) (ht : (pc : Int) + off = (tgt : Int)) (rx : -2147483648 ≤ x ∧ x < 2147483648)
    (kt : x = 0 → zW G Y Q tgt lo st M) (kf : ¬ x = 0 → zW G Y Q (pc + 3) lo st M) : zW G Y Q pc lo (.inl x :: st) M := by
  intro p e s m args below meth c C H locs ls hP hS hl
  obtain ⟨hx, hb, hml, hr, hts, hown, hlk, hK, hSt, hJ, hN⟩ := id C
  have ry : (-2147483648 : Int) ≤ 0 ∧ (0 : Int) < 2147483648 := by omega

  exact lv_if_eq hx hb hd ht (fun h => kt ((zn_eq (b := 0) rx ry).mp h) p e s m args below meth c C H locs ls hP hS hl) (fun h => kf (fun q => h ((zn_eq (b := 0) rx ry).mpr q)) p e s m args below meth c C H locs ls hP hS hl)

theorem z_icmp_ne {x y : Int} {off : Int} {tgt : Nat} (hd : decode Y.2.1 pc = .ok (.if_icmp .ne off, 3)) (ht : (pc : Int) + off = (tgt : Int)) (rx : -2147483648 ≤ x ∧ x < 2147483648) (ry : -2147483648 ≤ y ∧ y < 2147483648)
    (kt : ¬ x = y → zW G Y Q tgt lo st M) (kf : x = y → zW G Y Q (pc + 3) lo st M) : zW G Y Q pc lo (.inl y :: .inl x :: st) M := by
  intro p e s m args below meth c C H locs ls hP hS hl
  obtain ⟨hx, hb, hml, hr, hts, hown, hlk, hK, hSt, hJ, hN⟩ := id C

  exact lv_icmp_ne hx hb hd ht (fun h => kt (fun q => h ((zn_eq (b := y) rx ry).mpr q)) p e s m args below meth c C H locs ls hP hS hl) (fun h => kf ((zn_eq (b := y) rx ry).mp h) p e s m args below meth c C H locs ls hP hS hl)

theorem z_if_ne {x : Int} {off : Int} {tgt : Nat} (hd : decode Y.2.1 pc = .ok (.ifCond .ne off, 3)) (ht : (pc : Int) + off = (tgt : Int)) (rx : -2147483648 ≤ x ∧ x < 2147483648)
    (kt : ¬ x = 0 → zW G Y Q tgt lo st M) (kf : x = 0 → zW G Y Q (pc + 3) lo st M) : zW G Y Q pc lo (.inl x :: st) M := by
  intro p e s m args below meth c C H locs ls hP hS hl
  obtain ⟨hx, hb, hml, hr, hts, hown, hlk, hK, hSt, hJ, hN⟩ := id C
  have ry : (-2147483648 : Int) ≤ 0 ∧ (0 : Int) < 2147483648 := by omega

  exact lv_if_ne hx hb hd ht (fun h => kt (fun q => h ((zn_eq (b := 0) rx ry).mpr q)) p e s m args below meth c C H locs ls hP hS hl) (fun h => kf ((zn_eq (b := 0) rx ry).mp h) p e s m args below meth c C H locs ls hP hS hl)

theorem z_icmp_lt {x y : Int} {off : Int} {tgt : Nat} (hd : decode Y.2.1 pc = .ok (.if_icmp .lt off, 3)) (ht : (pc : Int) + off = (tgt : Int)) (rx : -2147483648 ≤ x ∧ x < 2147483648) (ry : -2147483648 ≤ y ∧ y < 2147483648)
    (kt : x < y → zW G Y Q tgt lo st M) (kf : y ≤ x → zW G Y Q (pc + 3) lo st M) : zW G Y Q pc lo (.inl y :: .inl x :: st) M := by
  intro p e s m args below meth c C H locs ls hP hS hl
  obtain ⟨hx, hb, hml, hr, hts, hown, hlk, hK, hSt, hJ, hN⟩ := id C

  exact lv_icmp_lt hx hb hd ht (fun h => kt ((zn_lt (b := y) rx ry).mp h) p e s m args below meth c C H locs ls hP hS hl) (fun h => kf (Int.not_lt.mp (fun q => h ((zn_lt (b := y) rx ry).mpr q))) p e s m args below meth c C H locs ls hP hS hl)

theorem z_if_lt {x : Int} {off : Int} {tgt : Nat} (hd : decode Y.2.1 pc = .ok (.ifCond .lt off, 3)) (ht : (pc : Int) + off = (tgt : Int)) (rx : -2147483648 ≤ x ∧ x < 2147483648)
    (kt : x < 0 → zW G Y Q tgt lo st M) (kf : 0 ≤ x → zW G Y Q (pc + 3) lo st M) : zW G Y Q pc lo (.inl x :: st) M := by
  intro p e s m args below meth c C H locs ls hP hS hl
  obtain ⟨hx, hb, hml, hr, hts, hown, hlk, hK, hSt, hJ, hN⟩ := id C
  have ry : (-2147483648 : Int) ≤ 0 ∧ (0 : Int) < 2147483648 := by omega

  exact lv_if_lt hx hb hd ht (fun h => kt ((zn_lt (b := 0) rx ry).mp h) p e s m args below meth c C H locs ls hP hS hl) (fun h => kf (Int.not_lt.mp (fun q => h ((zn_lt (b := 0) rx ry).mpr q))) p e s m args below meth c C H locs ls hP hS hl)

theorem z_icmp_ge {x y : Int} {off : Int} {tgt : Nat} (hd : decode Y.2.1 pc = .ok (.if_icmp .ge off, 3)) (ht : (pc : Int) + off = (tgt : Int)) (rx : -2147483648 ≤ x ∧ x < 2147483648) (ry : -2147483648 ≤ y ∧ y < 2147483648)
    (kt : y ≤ x → zW G Y Q tgt lo st M) (kf : x < y → zW G Y Q (pc + 3) lo st M) : zW G Y Q pc lo (.inl y :: .inl x :: st) M := by
  intro p e s m args below meth c C H locs ls hP hS hl
  obtain ⟨hx, hb, hml, hr, hts, hown, hlk, hK, hSt, hJ, hN⟩ := id C

  exact lv_icmp_ge hx hb hd ht (fun h => kt ((zn_le (a := y) ry rx).mp h) p e s m args below meth c C H locs ls hP hS hl) (fun h => kf (Int.not_le.mp (fun q => h ((zn_le (a := y) ry rx).mpr q))) p e s m args below meth c C H locs ls hP hS hl)

theorem z_if_ge {x : Int} {off : Int} {tgt : Nat} (hd : decode Y.2.1 pc = .ok (.ifCond .ge off, 3)) (ht : (pc : Int) + off = (tgt : Int)) (rx : -2147483648 ≤ x ∧ x < 2147483648)
    (kt : 0 ≤ x → zW G Y Q tgt lo st M) (kf : x < 0 → zW G Y Q (pc + 3) lo st M) : zW G Y Q pc lo (.inl x :: st) M := by
  intro p e s m args below meth c C H locs ls hP hS hl
  obtain ⟨hx, hb, hml, hr, hts, hown, hlk, hK, hSt, hJ, hN⟩ := id C
  have ry : (-2147483648 : Int) ≤ 0 ∧ (0 : Int) < 2147483648 := by omega

  exact lv_if_ge hx hb hd ht (fun h => kt ((zn_le (a := 0) ry rx).mp h) p e s m args below meth c C H locs ls hP hS hl) (fun h => kf (Int.not_le.mp (fun q => h ((zn_le (a := 0) ry rx).mpr q))) p e s m args below meth c C H locs ls hP hS hl)

theorem z_icmp_gt {x y : Int} {off : Int} {tgt : Nat} (hd : decode Y.2.1 pc = .ok (.if_icmp .gt off, 3)) (ht : (pc : Int) + off = (tgt : Int)) (rx : -2147483648 ≤ x ∧ x < 2147483648) (ry : -2147483648 ≤ y ∧ y < 2147483648)
    (kt : y < x → zW G Y Q tgt lo st M) (kf : x ≤ y → zW G Y Q (pc + 3) lo st M) : zW G Y Q pc lo (.inl y :: .inl x :: st) M := by
  intro p e s m args below meth c C H locs ls hP hS hl
  obtain ⟨hx, hb, hml, hr, hts, hown, hlk, hK, hSt, hJ, hN⟩ := id C

  exact lv_icmp_gt hx hb hd ht (fun h => kt ((zn_lt (a := y) ry rx).mp h) p e s m args below meth c C H locs ls hP hS hl) (fun h => kf (Int.not_lt.mp (fun q => h ((zn_lt (a := y) ry rx).mpr q))) p e s m args below meth c C H locs ls hP hS hl)

theorem z_if_gt {x : Int} {off : Int} {tgt : Nat} (hd : decode Y.2.1 pc = .ok (.ifCond .gt off, 3)) (ht : (pc : Int) + off = (tgt : Int)) (rx : -2147483648 ≤ x ∧ x < 2147483648)
    (kt : 0 < x → zW G Y Q tgt lo st M) (kf : x ≤ 0 → zW G Y Q (pc + 3) lo st M) : zW G Y Q pc lo (.inl x :: st) M := by
  intro p e s m args below meth c C H locs ls hP hS hl
  obtain ⟨hx, hb, hml, hr, hts, hown, hlk, hK, hSt, hJ, hN⟩ := id C
  have ry : (-2147483648 : Int) ≤ 0 ∧ (0 : Int) < 2147483648 := by omega

  exact lv_if_gt hx hb hd ht (fun h => kt ((zn_lt (a := 0) ry rx).mp h) p e s m args below meth c C H locs ls hP hS hl) (fun h => kf (Int.not_lt.mp (fun q => h ((zn_lt (a := 0) ry rx).mpr q))) p e s m args below meth c C H locs ls hP hS hl)

theorem z_icmp_le {x y : Int} {off : Int} {tgt : Nat} (hd : decode Y.2.1 pc = .ok (.if_icmp .le off, 3)) (ht : (pc : Int) + off = (tgt : Int)) (rx : -2147483648 ≤ x ∧ x < 2147483648) (ry : -2147483648 ≤ y ∧ y < 2147483648)
    (kt : x ≤ y → zW G Y Q tgt lo st M) (kf : y < x → zW G Y Q (pc + 3) lo st M) : zW G Y Q pc lo (.inl y :: .inl x :: st) M := by
  intro p e s m args below meth c C H locs ls hP hS hl
  obtain ⟨hx, hb, hml, hr, hts, hown, hlk, hK, hSt, hJ, hN⟩ := id C

  exact lv_icmp_le hx hb hd ht (fun h => kt ((zn_le (b := y) rx ry).mp h) p e s m args below meth c C H locs ls hP hS hl) (fun h => kf (Int.not_le.mp (fun q => h ((zn_le (b := y) rx ry).mpr q))) p e s m args below meth c C H locs ls hP hS hl)

theorem z_if_le {x : Int} {off : Int} {tgt : Nat} (hd : decode Y.2.1 pc = .ok (.ifCond .le off, 3)) (ht : (pc : Int) + off = (tgt : Int)) (rx : -2147483648 ≤ x ∧ x < 2147483648)
    (kt : x ≤ 0 → zW G Y Q tgt lo st M) (kf : 0 < x → zW G Y Q (pc + 3) lo st M) : zW G Y Q pc lo (.inl x :: st) M := by
  intro p e s m args below meth c C H locs ls hP hS hl
  obtain ⟨hx, hb, hml, hr, hts, hown, hlk, hK, hSt, hJ, hN⟩ := id C
  have ry : (-2147483648 : Int) ≤ 0 ∧ (0 : Int) < 2147483648 := by omega

  exact lv_if_le hx hb hd ht (fun h => kt ((zn_le (b := 0) rx ry).mp h) p e s m args below meth c C H locs ls hP hS hl) (fun h => kf (Int.not_le.mp (fun q => h ((zn_le (b := 0) rx ry).mpr q))) p e s m args below meth c C H locs ls hP hS hl)

theorem z_ifnonnull {off : Int} {tgt : Nat} {x : Int} (hd : decode Y.2.1 pc = .ok (.ifnonnull off, 3)) (ht : (pc : Int) + off = (tgt : Int))
    (k : zW G Y Q tgt lo st M) : zW G Y Q pc lo (.inr (some x) :: st) M := by
  intro p e s m args below meth c C H locs ls hP hS hl
  obtain ⟨hx, hb, hml, hr, hts, hown, hlk, hK, hSt, hJ, hN⟩ := id C
  exact lv_ifnonnull hx hb hd ht (k p e s m args below meth c C H locs ls hP hS hl)
theorem z_ifnonnullN {off : Int} (hd : decode Y.2.1 pc = .ok (.ifnonnull off, 3))
    (k : zW G Y Q (pc + 3) lo st M) : zW G Y Q pc lo (.inr none :: st) M := by
  intro p e s m args below meth c C H locs ls hP hS hl
  obtain ⟨hx, hb, hml, hr, hts, hown, hlk, hK, hSt, hJ, hN⟩ := id C
  exact lv_ifnonnullN hx hb hd (k p e s m args below meth c C H locs ls hP hS hl)
theorem z_tabOut {dflt a b : Int} {offs : Array Int} {len tgt : Nat} {x : Int} (hd : decode Y.2.1 pc = .ok (.tableswitch dflt a b offs, len)) (rx : -2147483648 ≤ x ∧ x < 2147483648) (h : x < a ∨ b < x) (ht : (pc : Int) + dflt = (tgt : Int))
    (k : zW G Y Q tgt lo st M) : zW G Y Q pc lo (.inl x :: st) M := by
  intro p e s m args below meth c C H locs ls hP hS hl
  obtain ⟨hx, hb, hml, hr, hts, hown, hlk, hK, hSt, hJ, hN⟩ := id C
  exact lv_tableOut hx hb hd (by rw [Int32.toInt_ofInt_of_le (by omega) (by omega)]; exact h) ht (k p e s m args below meth c C H locs ls hP hS hl)
theorem z_tabIn {dflt a b off : Int} {offs : Array Int} {len tgt : Nat} {x : Int} (hd : decode Y.2.1 pc = .ok (.tableswitch dflt a b offs, len)) (rx : -2147483648 ≤ x ∧ x < 2147483648) (h : a ≤ x ∧ x ≤ b) (ho : offs[(x - a).toNat]? = some off) (ht : (pc : Int) + off = (tgt : Int))
    (k : zW G Y Q tgt lo st M) : zW G Y Q pc lo (.inl x :: st) M := by
  intro p e s m args below meth c C H locs ls hP hS hl
  obtain ⟨hx, hb, hml, hr, hts, hown, hlk, hK, hSt, hJ, hN⟩ := id C
  have he : (Int32.ofInt x).toInt = x := Int32.toInt_ofInt_of_le (by omega) (by omega)
  exact lv_tableIn hx hb hd (by rw [he]; omega) (by rw [he]; omega) (by rw [he]; exact ho) ht (k p e s m args below meth c C H locs ls hP hS hl)
theorem z_look {dflt off : Int} {ps : Array (Int × Int)} {len tgt : Nat} {x : Int} (hd : decode Y.2.1 pc = .ok (.lookupswitch dflt ps, len)) (hp : (ps.toList.zip (ps.toList.drop 1)).all (fun (a, next) => a.1 < next.1) = true) (rx : -2147483648 ≤ x ∧ x < 2147483648) (ho : Op.lookupswitch.offset ps.toList dflt x = off) (ht : (pc : Int) + off = (tgt : Int))
    (k : zW G Y Q tgt lo st M) : zW G Y Q pc lo (.inl x :: st) M := by
  intro p e s m args below meth c C H locs ls hP hS hl
  obtain ⟨hx, hb, hml, hr, hts, hown, hlk, hK, hSt, hJ, hN⟩ := id C
  exact lv_lookup hx hb hd hp (by rw [Int32.toInt_ofInt_of_le (by omega) (by omega)]; exact ho) ht (k p e s m args below meth c C H locs ls hP hS hl)

theorem zm_tys_at (G : zG) {t : Nat} (ht : t < 4) : (zm_tys G)[t]? = some (G.2.2.1 t, zm_ty t) := by
  match t, ht with
  | 0, _ => rfl
  | 1, _ => rfl
  | 2, _ => rfl
  | 3, _ => rfl
theorem zm_W_arr (G : zG) (M : zM) {a : Int} {t n : Nat} (ha : 0 ≤ a ∧ a < 195) (hs : zm_sh a = .inl (t, n)) : (zm_W G M)[a.toNat]? = some (G.2.1 a, .inl (G.2.2.1 t, n, .inl (fun j => Int32.ofInt (M a (j : Int))))) := by
  rw [zm_W_at G M ha, hs]
  rfl
theorem zm_W_ref (G : zG) (M : zM) {a : Int} {t n : Nat} {f st : Int} (ha : 0 ≤ a ∧ a < 195) (hs : zm_sh a = .inr (.inr (t, f, st, n))) : (zm_W G M)[a.toNat]? = some (G.2.1 a, .inl (G.2.2.1 t, n, .inr (.inr (.inr (.inr (fun j => if j < n then some (G.2.1 (a + f + st * (j : Int))) else none)))))) := by
  rw [zm_W_at G M ha, hs]
  rfl
theorem zm_W_obj (G : zG) (M : zM) {a : Int} {ci : Nat} {fs : List (Option Int)} (ha : 0 ≤ a ∧ a < 195) (hs : zm_sh a = .inr (.inl (ci, fs))) : (zm_W G M)[a.toNat]? = some (G.2.1 a, .inr (ci, zm_fs G M a 0 fs)) := by
  rw [zm_W_at G M ha, hs]
  rfl
theorem z_iaload {a i : Int} {n : Nat} (hd : decode Y.2.1 pc = .ok (.iaload, 1)) (ha : 0 ≤ a ∧ a < 195) (hs : zm_sh a = .inl (0, n)) (hi : 0 ≤ i ∧ i < n) (hn : n < 2147483648)
    (k : zW G Y Q (pc + 1) lo (.inl (M a i) :: st) M) : zW G Y Q pc lo (.inl i :: .inr (some a) :: st) M := by
  intro p e s m args below meth c C H locs ls hP hS hl
  obtain ⟨hx, hb, hml, hr, hts, hown, hlk, hK, hSt, hJ, hN⟩ := id C
  refine va_iald hx hb hK hP a.toNat 0 (zm_W_arr G M ha hs) (zm_tys_at G (t := 0) (by omega)) (zn_in hi hn) hd ?_
  have he : (((Int32.ofInt i).toNatClampNeg : Nat) : Int) = i := by rw [zn_cl (by omega)]; omega
  rw [he]
  exact k p e s m args below meth c C H locs ls hP hS hl
theorem z_caload {a i : Int} {n : Nat} (hd : decode Y.2.1 pc = .ok (.caload, 1)) (ha : 0 ≤ a ∧ a < 195) (hs : zm_sh a = .inl (1, n)) (hi : 0 ≤ i ∧ i < n) (hn : n < 2147483648)
    (k : zW G Y Q (pc + 1) lo (.inl (M a i) :: st) M) : zW G Y Q pc lo (.inl i :: .inr (some a) :: st) M := by
  intro p e s m args below meth c C H locs ls hP hS hl
  obtain ⟨hx, hb, hml, hr, hts, hown, hlk, hK, hSt, hJ, hN⟩ := id C
  refine va_cald hx hb hK hP a.toNat 1 (zm_W_arr G M ha hs) (zm_tys_at G (t := 1) (by omega)) (zn_in hi hn) hd ?_
  have he : (((Int32.ofInt i).toNatClampNeg : Nat) : Int) = i := by rw [zn_cl (by omega)]; omega
  rw [he]
  exact k p e s m args below meth c C H locs ls hP hS hl
theorem zm_set_arr (G : zG) (M : zM) {a i x : Int} {t n : Nat} {y : Int32} (ha : 0 ≤ a ∧ a < 195) (hs : zm_sh a = .inl (t, n)) (hi : 0 ≤ i ∧ i < 2147483648) (hy : y = Int32.ofInt x) : (zm_W G M).set a.toNat (G.2.1 a, .inl (G.2.2.1 t, n, .inl (upd (fun j => Int32.ofInt (M a (j : Int))) (Int32.ofInt i).toNatClampNeg y))) = zm_W G (zm_up M a i x) := by
  refine zm_W_set G M _ ha ?_ (fun k hk => zm_up_off hk)
  rw [hs, hy, zn_cl hi]
  show (Sum.inl (G.2.2.1 t, n, Sum.inl (fun j : Nat => Int32.ofInt (zm_up M a i x a (j : Int)))) : va_E) = _
  congr 4
  funext j
  by_cases hj : j = i.toNat
  · subst hj
    rw [show ((i.toNat : Nat) : Int) = i by omega, zm_up_at]
    simp [upd]
  · rw [zm_up_ne (by omega)]
    simp [upd, hj]
theorem z_iastore {a i x : Int} {n : Nat} (hd : decode Y.2.1 pc = .ok (.iastore, 1)) (ha : 0 ≤ a ∧ a < 195) (hs : zm_sh a = .inl (0, n)) (hi : 0 ≤ i ∧ i < n) (hn : n < 2147483648)
    (k : zW G Y Q (pc + 1) lo st (zm_up M a i x)) : zW G Y Q pc lo (.inl x :: .inl i :: .inr (some a) :: st) M := by
  intro p e s m args below meth c C H locs ls hP hS hl
  obtain ⟨hx, hb, hml, hr, hts, hown, hlk, hK, hSt, hJ, hN⟩ := id C
  refine va_iast hx hb hK hP (zm_D hJ M) hS a.toNat 0 (zm_W_arr G M ha hs) (zm_tys_at G (t := 0) (by omega)) (zn_in hi hn) hd (fun H1 locs1 hP1 hD1 hS1 => ?_)
  rw [zm_set_arr G M ha hs (by omega) rfl] at hP1
  exact k p e s m args below meth c C H1 locs1 ls hP1 hS1 hl
theorem zn_nar {x : Int} (hx : 0 ≤ x ∧ x < 65536) : vp_nar .char (Int32.ofInt x) = Int32.ofInt x := by
  have h : ((Int32.ofInt x).toUInt32 % 65536).toInt32 = Int32.ofInt x := by
    obtain ⟨n, rfl⟩ := Int.eq_ofNat_of_zero_le hx.1
    have hn : n < 65536 := by omega
    apply Int32.toBitVec_inj.mp
    apply BitVec.eq_of_toNat_eq
    have e : (Int32.ofInt (n : Int)).toBitVec.toNat = n := by
      rw [Int32.ofInt_eq_ofNat]
      simp
      omega
    have e2 : (Int32.ofInt (n : Int)).toUInt32.toNat = n := e
    show ((Int32.ofInt (n : Int)).toUInt32 % 65536).toNat = _
    rw [UInt32.toNat_mod, e2, e]
    show n % 65536 = n
    omega
  simpa [vp_nar, narrow] using h
theorem z_castore {a i x : Int} {n : Nat} (hd : decode Y.2.1 pc = .ok (.castore, 1)) (ha : 0 ≤ a ∧ a < 195) (hs : zm_sh a = .inl (1, n)) (hi : 0 ≤ i ∧ i < n) (hn : n < 2147483648) (hx : 0 ≤ x ∧ x < 65536)
    (k : zW G Y Q (pc + 1) lo st (zm_up M a i x)) : zW G Y Q pc lo (.inl x :: .inl i :: .inr (some a) :: st) M := by
  intro p e s m args below meth c C H locs ls hP hS hl
  obtain ⟨hxx, hb, hml, hr, hts, hown, hlk, hK, hSt, hJ, hN⟩ := id C
  refine va_cast hxx hb hK hP (zm_D hJ M) hS a.toNat 1 (zm_W_arr G M ha hs) (zm_tys_at G (t := 1) (by omega)) (zn_in hi hn) hd (fun H1 locs1 hP1 hD1 hS1 => ?_)
  rw [zm_set_arr G M ha hs (by omega) (zn_nar hx)] at hP1
  exact k p e s m args below meth c C H1 locs1 ls hP1 hS1 hl
theorem z_alen {a : Int} {t n : Nat} (hd : decode Y.2.1 pc = .ok (.arraylength, 1)) (ha : 0 ≤ a ∧ a < 195) (hs : zm_sh a = .inl (t, n)) (ht : t < 4)
    (k : zW G Y Q (pc + 1) lo (.inl (n : Int) :: st) M) : zW G Y Q pc lo (.inr (some a) :: st) M := by
  intro p e s m args below meth c C H locs ls hP hS hl
  obtain ⟨hx, hb, hml, hr, hts, hown, hlk, hK, hSt, hJ, hN⟩ := id C
  exact va_alen hx hb hK hP a.toNat t (zm_W_arr G M ha hs) (zm_tys_at G ht) (v := Int32.ofInt (n : Int)) Int32.ofInt_eq_ofNat.symm hd (k p e s m args below meth c C H locs ls hP hS hl)
theorem z_alenR {a : Int} {t n : Nat} {f sp : Int} (hd : decode Y.2.1 pc = .ok (.arraylength, 1)) (ha : 0 ≤ a ∧ a < 195) (hs : zm_sh a = .inr (.inr (t, f, sp, n))) (ht : t < 4)
    (k : zW G Y Q (pc + 1) lo (.inl (n : Int) :: st) M) : zW G Y Q pc lo (.inr (some a) :: st) M := by
  intro p e s m args below meth c C H locs ls hP hS hl
  obtain ⟨hx, hb, hml, hr, hts, hown, hlk, hK, hSt, hJ, hN⟩ := id C
  exact va_alen hx hb hK hP a.toNat t (zm_W_ref G M ha hs) (zm_tys_at G ht) (v := Int32.ofInt (n : Int)) Int32.ofInt_eq_ofNat.symm hd (k p e s m args below meth c C H locs ls hP hS hl)
theorem z_aaload {a i : Int} {t n : Nat} {f sp : Int} (hd : decode Y.2.1 pc = .ok (.aaload, 1)) (ha : 0 ≤ a ∧ a < 195) (hs : zm_sh a = .inr (.inr (t, f, sp, n))) (ht : t < 4) (hi : 0 ≤ i ∧ i < n) (hn : n < 2147483648) (hrf : (zm_ty t).isReference = true)
    (k : zW G Y Q (pc + 1) lo (.inr (some (a + f + sp * i)) :: st) M) : zW G Y Q pc lo (.inl i :: .inr (some a) :: st) M := by
  intro p e s m args below meth c C H locs ls hP hS hl
  obtain ⟨hx, hb, hml, hr, hts, hown, hlk, hK, hSt, hJ, hN⟩ := id C
  have hcell := hP a.toNat _ (zm_W_ref G M ha hs)
  have hlt : (Int32.ofInt i).toNatClampNeg < n := by rw [zn_cl (by omega)]; omega
  have he : (((Int32.ofInt i).toNatClampNeg : Nat) : Int) = i := by rw [zn_cl (by omega)]; omega
  have hin := zn_in hi hn
  refine W.aald (v := .ref (G.2.1 (a + f + sp * i))) (ty := zm_ty t) hx hb hcell ((hK.2 t _ (zm_tys_at G ht)).1 n _) hrf (fun q => by cases q) (by show ¬ (_ ∨ (arrV _ _ _).slots.size ≤ _); rw [arrV_size]; exact hin) ?_ rfl rfl hd (k p e s m args below meth c C H locs ls hP hS hl)
  show (arrV _ _ _).slots[_]? = _
  rw [arrV_read _ _ hlt]
  show some (va_rf (if _ then _ else _)) = _
  rw [if_pos hlt, he]
  rfl
/-- the static arrays -/
theorem z_getst {index : Nat} {t : Nat} (hd : decode Y.2.1 pc = .ok (.getstatic index, 3)) (ht : t < 3) (hlink : Cond.fieldLink Y.1 index RX4 (zm_st t).1 "[I" ∈ zT)
    (k : zW G Y Q (pc + 3) lo (.inr (some (1000 + (t : Int))) :: st) M) : zW G Y Q pc lo st M := by
  intro p e s m args below meth c C H locs ls hP hS hl
  obtain ⟨hx, hb, hml, hr, hts, hown, hlk, hK, hSt, hJ, hN⟩ := id C
  exact va_gets hx hb (hSt t ht).1 hS hown (hts _ hlink) (fun x h => h) hd (k p e s m args below meth c C H locs ls hP hS hl)
theorem z_getstN {index : Nat} {t : Nat} {host : String} (hd : decode Y.2.1 pc = .ok (.getstatic index, 3)) (ht : t < 3) (hlink : Cond.fieldLinkNest Y.1 index RX4 (zm_st t).1 "[I" host ∈ zTN)
    (k : zW G Y Q (pc + 3) lo (.inr (some (1000 + (t : Int))) :: st) M) : zW G Y Q pc lo st M := by
  intro p e s m args below meth c C H locs ls hP hS hl
  obtain ⟨hx, hb, hml, hr, hts, hown, hlk, hK, hSt, hJ, hN⟩ := id C
  exact va_getsN hx hb (hSt t ht).1 hS hown ((hN _ hlink).use rfl) (fun x h => h) hd (k p e s m args below meth c C H locs ls hP hS hl)
theorem z_stload {a i x : Int} {t : Nat} (hd : decode Y.2.1 pc = .ok (.iaload, 1)) (ha : a = 1000 + (t : Int)) (ht : t < 3) (hi : 0 ≤ i ∧ i < (zm_st t).2.length) (hv : (zm_st t).2.getD i.toNat 0 = x)
    (k : zW G Y Q (pc + 1) lo (.inl x :: st) M) : zW G Y Q pc lo (.inl i :: .inr (some a) :: st) M := by
  subst ha
  intro p e s m args below meth c C H locs ls hP hS hl
  obtain ⟨hx, hb, hml, hr, hts, hown, hlk, hK, hSt, hJ, hN⟩ := id C
  have hl5 : (zm_st t).2.length < 2147483648 := by
    match t, ht with
    | 0, _ => decide
    | 1, _ => decide
    | 2, _ => decide
  exact va_ti hx hb (hSt t ht).2 hS (zn_in hi hl5) (by rw [zn_cl (by omega), hv]; rfl) hd (k p e s m args below meth c C H locs ls hP hS hl)
theorem z_stlen {a : Int} {t : Nat} (hd : decode Y.2.1 pc = .ok (.arraylength, 1)) (ha : a = 1000 + (t : Int)) (ht : t < 3)
    (k : zW G Y Q (pc + 1) lo (.inl ((zm_st t).2.length : Int) :: st) M) : zW G Y Q pc lo (.inr (some a) :: st) M := by
  subst ha
  intro p e s m args below meth c C H locs ls hP hS hl
  obtain ⟨hx, hb, hml, hr, hts, hown, hlk, hK, hSt, hJ, hN⟩ := id C
  exact va_tlen hx hb (hSt t ht).2 hS (v := Int32.ofInt ((zm_st t).2.length : Int)) Int32.ofInt_eq_ofNat.symm hd (k p e s m args below meth c C H locs ls hP hS hl)

end ZR
end
section
/-! ===== fields ===== -/
def zm_cR (ci : Nat) : vw_C := match ci with
  | 0 => (RX0, TX0, 3) | 1 => (RX1, TX1, 17) | 2 => (RX2, TX2, 8) | 3 => (RX3, TX3, 2) | 4 => (RX4, TX4, 9) | _ => (RX5, TX5, 19)
def zm_cT (ci : Nat) : Nat → FieldType := match ci with
  | 0 => tyX0 | 1 => tyX1 | 2 => tyX2 | 3 => tyX3 | 4 => tyX4 | _ => tyX5
theorem zm_in0 : ∀ w ∈ u_ws RX0 TX0 3, w ∈ lw_tbl := by decide +kernel
theorem zm_in1 : ∀ w ∈ u_ws RX1 TX1 17, w ∈ lw_tbl := by decide +kernel
theorem zm_in2 : ∀ w ∈ u_ws RX2 TX2 8, w ∈ lw_tbl := by decide +kernel
theorem zm_in3 : ∀ w ∈ u_ws RX3 TX3 2, w ∈ lw_tbl := by decide +kernel
theorem zm_in4 : ∀ w ∈ u_ws RX4 TX4 9, w ∈ lw_tbl := by decide +kernel
theorem zm_in5 : ∀ w ∈ u_ws RX5 TX5 19, w ∈ lw_tbl := by decide +kernel
theorem zm_inT {C : String} {T : u_T} {N : Nat} (h : ∀ w ∈ u_ws C T N, w ∈ lw_tbl) : ∀ w ∈ u_ws C T N, w ∈ zT := by
  intro w hw
  refine List.mem_filter.mpr ⟨h w hw, ?_⟩
  obtain ⟨k, -, rfl⟩ := List.mem_map.mp hw
  unfold u_lay
  split <;> rfl
theorem zm_cOk {ci : Nat} (h : ci < 6) : zm_cls[ci]? = some (zm_cR ci) ∧ (∀ w ∈ u_ws (zm_cR ci).1 (zm_cR ci).2.1 (zm_cR ci).2.2, w ∈ zT) ∧ (∀ k, k < (zm_cR ci).2.2 → parseFieldDescriptor ((zm_cR ci).2.1 k).2.2.1 = some (zm_cT ci k)) ∧ (∀ a, a < (zm_cR ci).2.2 → ∀ b, b < (zm_cR ci).2.2 → a ≠ b → ((zm_cR ci).2.1 a).2.1 ≠ ((zm_cR ci).2.1 b).2.1) := by
  match ci, h with
  | 0, _ => exact ⟨rfl, zm_inT zm_in0, tyX0_ok, nmX0⟩
  | 1, _ => exact ⟨rfl, zm_inT zm_in1, tyX1_ok, nmX1⟩
  | 2, _ => exact ⟨rfl, zm_inT zm_in2, tyX2_ok, nmX2⟩
  | 3, _ => exact ⟨rfl, zm_inT zm_in3, tyX3_ok, nmX3⟩
  | 4, _ => exact ⟨rfl, zm_inT zm_in4, tyX4_ok, nmX4⟩
  | 5, _ => exact ⟨rfl, zm_inT zm_in5, tyX5_ok, nmX5⟩
/-- a place of the constants of 'own' names the field k of the class ci -/
def zL (own : String) (index ci k : Nat) : Prop := ci < 6 ∧ k < (zm_cR ci).2.2 ∧ ((zm_cR ci).2.1 k).1 = (zm_cR ci).1 ∧
  (Cond.fieldLink own index (zm_cR ci).1 ((zm_cR ci).2.1 k).2.1 ((zm_cR ci).2.1 k).2.2.1 ∈ zT ∨ ∃ host : String, Cond.fieldLinkNest own index (zm_cR ci).1 ((zm_cR ci).2.1 k).2.1 ((zm_cR ci).2.1 k).2.2.1 host ∈ zTN)
section ZF
variable {G : zG} {Y : zY} {Q : Option zV → zM → Prop} {pc : Nat} {lo : List (Nat × zV)} {st : List zV} {M : zM}
theorem z_getI {a : Int} {ci k index : Nat} {fs : List (Option Int)} (hd : decode Y.2.1 pc = .ok (.getfield index, 3)) (hL : zL Y.1 index ci k) (ha : 0 ≤ a ∧ a < 195) (hs : zm_sh a = .inr (.inl (ci, fs))) (hf : fs[k]? = some none)
    (kk : zW G Y Q (pc + 3) lo (.inl (M a (k : Int)) :: st) M) : zW G Y Q pc lo (.inr (some a) :: st) M := by
  intro p e s m args below meth c C H locs ls hP hS hl
  obtain ⟨hx, hb, hml, hr, hts, hown, hlk, hK, hSt, hJ, hN⟩ := id C
  obtain ⟨h1, h2, h3, h4⟩ := hL
  obtain ⟨c1, c2, c3, c4⟩ := zm_cOk h1
  have hv : (zm_fs G M a 0 fs)[k]? = some (.int (Int32.ofInt (M a (k : Int)))) := by
    have := zm_fs_get G M a 0 k fs none hf
    rw [Nat.zero_add] at this
    exact this
  rcases h4 with h4 | ⟨host, h4⟩
  · exact va_get hx hb hts c2 hown hK hP a.toNat (zm_W_obj G M ha hs) c1 k h2 (hts _ h4) (fun x q => by rw [← h3]; exact q) hv hd (kk p e s m args below meth c C H locs ls hP hS hl)
  · exact va_getN hx hb hts c2 hown hK hP a.toNat (zm_W_obj G M ha hs) c1 k h2 ((hN _ h4).use rfl) (fun x q => by rw [← h3]; exact q) hv hd (kk p e s m args below meth c C H locs ls hP hS hl)
theorem z_getR {a o : Int} {ci k index : Nat} {fs : List (Option Int)} (hd : decode Y.2.1 pc = .ok (.getfield index, 3)) (hL : zL Y.1 index ci k) (ha : 0 ≤ a ∧ a < 195) (hs : zm_sh a = .inr (.inl (ci, fs))) (hf : fs[k]? = some (some o))
    (kk : zW G Y Q (pc + 3) lo (.inr (some (a + o)) :: st) M) : zW G Y Q pc lo (.inr (some a) :: st) M := by
  intro p e s m args below meth c C H locs ls hP hS hl
  obtain ⟨hx, hb, hml, hr, hts, hown, hlk, hK, hSt, hJ, hN⟩ := id C
  obtain ⟨h1, h2, h3, h4⟩ := hL
  obtain ⟨c1, c2, c3, c4⟩ := zm_cOk h1
  have hv : (zm_fs G M a 0 fs)[k]? = some (.ref (G.2.1 (a + o))) := zm_fs_get G M a 0 k fs (some o) hf
  rcases h4 with h4 | ⟨host, h4⟩
  · exact va_get hx hb hts c2 hown hK hP a.toNat (zm_W_obj G M ha hs) c1 k h2 (hts _ h4) (fun x q => by rw [← h3]; exact q) hv hd (kk p e s m args below meth c C H locs ls hP hS hl)
  · exact va_getN hx hb hts c2 hown hK hP a.toNat (zm_W_obj G M ha hs) c1 k h2 ((hN _ h4).use rfl) (fun x q => by rw [← h3]; exact q) hv hd (kk p e s m args below meth c C H locs ls hP hS hl)
theorem zm_set_obj (G : zG) (M : zM) {a x : Int} {ci k : Nat} {fs : List (Option Int)} (ha : 0 ≤ a ∧ a < 195) (hs : zm_sh a = .inr (.inl (ci, fs))) (hf : fs[k]? = some none) : (zm_W G M).set a.toNat (G.2.1 a, .inr (ci, (zm_fs G M a 0 fs).set k (.int (Int32.ofInt x)))) = zm_W G (zm_up M a (k : Int) x) := by
  refine zm_W_set G M _ ha ?_ (fun k hk => zm_up_off hk)
  rw [hs]
  show (Sum.inr (ci, zm_fs G (zm_up M a (k : Int) x) a 0 fs) : va_E) = _
  rw [zm_fs_set G M a x 0 k fs hf, Nat.zero_add]
/-- what a field of numbers takes -/
def zTk (ty : FieldType) (x : Int) : Prop := ty = .int ∨ (ty = .boolean ∧ (x = 0 ∨ x = 1))
theorem zTk_ok {ty : FieldType} {x : Int} (h : zTk ty x) : narrow ty (.int (Int32.ofInt x)) = .int (Int32.ofInt x) ∧ fits ty (.int (Int32.ofInt x)) = true := by
  rcases h with rfl | ⟨rfl, rfl | rfl⟩
  · exact ⟨rfl, rfl⟩
  · exact ⟨rfl, rfl⟩
  · exact ⟨rfl, rfl⟩
theorem z_put {a x : Int} {ci k index : Nat} {fs : List (Option Int)} (hd : decode Y.2.1 pc = .ok (.putfield index, 3)) (hL : zL Y.1 index ci k) (hfin : ((zm_cR ci).2.1 k).2.2.2 = false) (hty : zTk (zm_cT ci k) x) (ha : 0 ≤ a ∧ a < 195) (hs : zm_sh a = .inr (.inl (ci, fs))) (hf : fs[k]? = some none)
    (kk : zW G Y Q (pc + 3) lo st (zm_up M a (k : Int) x)) : zW G Y Q pc lo (.inl x :: .inr (some a) :: st) M := by
  intro p e s m args below meth c C H locs ls hP hS hl
  obtain ⟨hx, hb, hml, hr, hts, hown, hlk, hK, hSt, hJ, hN⟩ := id C
  obtain ⟨h1, h2, h3, h4⟩ := hL
  obtain ⟨c1, c2, c3, c4⟩ := zm_cOk h1
  obtain ⟨t1, t2⟩ := zTk_ok hty
  have hlen : k < (zm_fs G M a 0 fs).length := by rw [zm_fs_len]; exact (List.getElem?_eq_some_iff.mp hf).1
  rcases h4 with h4 | ⟨host, h4⟩
  · refine va_put (v := .int (Int32.ofInt x)) hx hb hts c2 (zm_cT ci) c3 c4 hown hK hP (zm_D hJ M) hS a.toNat (zm_W_obj G M ha hs) c1 k h2 (hts _ h4) (fun x q => by rw [← h3]; exact q) hfin (c3 k h2) t1 t2 hlen hd (fun H1 locs1 hP1 hD1 hS1 => ?_)
    rw [zm_set_obj G M ha hs hf] at hP1
    exact kk p e s m args below meth c C H1 locs1 ls hP1 hS1 hl
  · refine va_putN (v := .int (Int32.ofInt x)) hx hb hts c2 (zm_cT ci) c3 c4 hown hK hP (zm_D hJ M) hS a.toNat (zm_W_obj G M ha hs) c1 k h2 ((hN _ h4).use rfl) (fun x q => by rw [← h3]; exact q) hfin (c3 k h2) t1 t2 hlen hd (fun H1 locs1 hP1 hD1 hS1 => ?_)
    rw [zm_set_obj G M ha hs hf] at hP1
    exact kk p e s m args below meth c C H1 locs1 ls hP1 hS1 hl
/-! ===== the ends of a method ===== -/
theorem zm_end {s t : State} {H : Heap} {locs : List Loc} {args : Array Value} {v : Option zV} (hP : zm_GP G M H) (hS : va_S (zm_A G) s.heap H locs) (hq : Q v M) (ht : t.heap = H) : zm_Qc G Q args s (.returned (v.map (zc G))) t :=
  ⟨⟨v, M, rfl, hq, by rw [ht]; exact hP⟩, hS.F ht⟩
theorem z_iret {x : Int} (hd : decode Y.2.1 pc = .ok (.ireturn, 1)) (hr : Y.2.2.2.1 = some .int) (hq : Q (some (.inl x)) M) : zW G Y Q pc lo [.inl x] M := by
  intro p e s m args below meth c C H locs ls hP hS hl
  obtain ⟨hx, hb, hml, hr0, hts, hown, hlk, hK, hSt, hJ, hN⟩ := id C
  exact W.iret (v := Int32.ofInt x) hx hb (hr0.trans hr) (fun t ht _ => zm_end hP hS hq ht) hS.2.2 hd
theorem z_zret {x : Int} (hd : decode Y.2.1 pc = .ok (.ireturn, 1)) (hr : Y.2.2.2.1 = some .boolean) (hv : x = 0 ∨ x = 1) (hq : Q (some (.inl x)) M) : zW G Y Q pc lo [.inl x] M := by
  intro p e s m args below meth c C H locs ls hP hS hl
  obtain ⟨hx, hb, hml, hr0, hts, hown, hlk, hK, hSt, hJ, hN⟩ := id C
  exact W.zret (v := Int32.ofInt x) (ty := .boolean) hx hb (hr0.trans hr) (zTk_ok (Or.inr ⟨rfl, hv⟩)).1 (fun t ht _ => zm_end hP hS hq ht) hS.2.2 hd
theorem z_vret (hd : decode Y.2.1 pc = .ok (.return_, 1)) (hr : Y.2.2.2.1 = none) (hq : Q none M) : zW G Y Q pc lo [] M := by
  intro p e s m args below meth c C H locs ls hP hS hl
  obtain ⟨hx, hb, hml, hr0, hts, hown, hlk, hK, hSt, hJ, hN⟩ := id C
  exact W.vret hx hb (hr0.trans hr) (fun t ht _ => zm_end (v := none) hP hS hq ht) hS.2.2 hd
theorem z_aret {x : Option Int} {nm : String} (hd : decode Y.2.1 pc = .ok (.areturn, 1)) (hr : Y.2.2.2.1 = some (.object nm)) (hq : Q (some (.inr x)) M) : zW G Y Q pc lo [.inr x] M := by
  intro p e s m args below meth c C H locs ls hP hS hl
  obtain ⟨hx, hb, hml, hr0, hts, hown, hlk, hK, hSt, hJ, hN⟩ := id C
  refine W.aret (v := zc G (.inr x)) (rt := .object nm) hx hb (hr0.trans hr) (Or.inl ⟨nm, rfl⟩) ?_ (fun t ht _ => zm_end hP hS hq ht) hS.2.2 hd
  cases x with
  | none => exact Or.inl rfl
  | some k => exact Or.inr ⟨_, rfl⟩
end ZF
/-! ===== contracts and calls ===== -/
def zWs (y : MethodName) (Y : zY) : List Cond := .code y Y.2.1 Y.2.2.1 Y.2.2.2.1 :: zT
def zPre (G : zG) (M : zM) (U : State) : Prop := zm_GP G M U.heap ∧ va_K G.2.2.2 zm_cls (zm_tys G) U ∧ zm_St G (zm_A G) U U.heap ∧ zm_J G ∧ zNs U
/-- a method's contract: begun with these values over M, it comes to its end with Q -/
def zCall (G : zG) (y : MethodName) (Y : zY) (av : List zV) (M : zM) (Q : Option zV → zM → Prop) : Prop :=
  Met G.1 y (zWs y Y) (zm_rm Y.2.2.2.2) (va_Pc (zm_sk G av) (zPre G M)) (zm_Qc G Q) 0 0 (zm_A G)
def zar : Nat → List zV → List (Nat × zV)
  | _, [] => []
  | i, v :: r => (i, v) :: zar (i + 1) r
theorem zar_lo (G : zG) : ∀ (i : Nat) (av : List zV), lv_args i (zm_sk G av) = zm_lo G (zar i av)
  | _, [] => rfl
  | i, v :: r => by
    show (i, zc G v) :: lv_args (if (zc G v).category = 2 then i + 2 else i + 1) (zm_sk G r) = (i, zc G v) :: zm_lo G (zar (i + 1) r)
    rw [zc_cat, if_neg (by decide), zar_lo G (i + 1) r]
theorem zsl_len (G : zG) : ∀ av : List zV, (lg_sl (zm_sk G av)).length = av.length
  | [] => rfl
  | v :: r => by
    have h := zsl_len G r
    show ((if (zc G v).category = 2 then [Slot.val (zc G v), .second] else [.val (zc G v)]) ++ lg_sl (zm_sk G r)).length = _
    rw [zc_cat, List.length_append, h]
    simp [Nat.add_comm]
theorem zEnter {G : zG} {y : MethodName} {Y : zY} {av : List zV} {M : zM} {Q : Option zV → zM → Prop} (hp : plainName y.cls = true) (hY : Y.1 = y.cls) (hn : av.length ≤ Y.2.2.1) (k : zW G Y Q 0 (zar 0 av) [] M) : zCall G y Y av M Q := by
  refine Met.ofW (cc := Y.2.1) (maxL := Y.2.2.1) (ret := Y.2.2.2.1) (ws' := zT) hp rfl ?_
  intro p e s m args below meth c s₁ B hml hv
  obtain ⟨rfl, hP, hK, hSt, hJ, hN⟩ := hv
  have hts : ∀ w ∈ zT, w.before (zm_sk G av).toArray s = true := fun w hw => atoms_spec (ws := zWs y Y) B.pre w (List.mem_cons_of_mem _ hw)
  have hown : s.vm.findClass Y.1 = some m.cls := by rw [hY]; exact findClass_of_methodNamed B.named
  have hl := lv_entry (zm_sk G av) (n := Y.2.2.1) (by rw [zsl_len]; exact hn)
  rw [zar_lo] at hl
  rw [lg_entry_eq]
  exact k p e s m _ below meth c ⟨B.exec, B.bytes, hml, B.returns, hts, hown, B.notSynchronized, hK, hSt, hJ, hN⟩ s.heap [] _ hP va_S.rf hl
theorem zPre_blind {G : zG} {M : zM} {av : List Value} : FrameBlind (va_Pc av (zPre G M)) := by
  intro a U g mk h
  obtain ⟨h1, hP, hK, hSt, hJ, hN⟩ := h
  exact ⟨h1, hP, va_K.moved (u := U) (U := U.calling g mk a) (Vm.Alike.refl U.vm) hK, zm_St.moved (u := U) (U := U.calling g mk a) (Vm.Alike.refl U.vm) hSt, hJ, zNs.same (u := U) (U := U.calling g mk a) (Eq.refl U.vm) hN⟩
theorem zPre_now {G : zG} {Y : zY} {p : Program} {s : State} {m : MethodId} {args : Array Value} {meth : Method} {c : Code} {M : zM} {H : Heap} {locs : List Loc} (C : zm_Cx G Y p s m args meth c) (hP : zm_GP G M H) (hS : va_S (zm_A G) s.heap H locs) (U : State) (hU : U.heap = H) (hW : s.WarmedH U.vm) : zPre G M U := by
  obtain ⟨hx, hb, hml, hr, hts, hown, hlk, hK, hSt, hJ, hN⟩ := C
  refine ⟨by rw [hU]; exact hP, va_K.moved hW.alike hK, ?_, hJ, hN.warm hW⟩
  rw [hU]
  exact zm_St.moved hW.alike (hSt.kept (fun a h1 h2 => hS.2.1 a h1 h2))
theorem zGood (y : MethodName) (Y : zY) (hc : Cond.code y Y.2.1 Y.2.2.1 Y.2.2.2.1 ∈ zT) : GoodIn zT (zWs y Y) := by
  intro w hw
  have hm : w ∈ zT := by
    rcases List.mem_cons.mp hw with h | h
    · rw [h]; exact hc
    · exact h
  exact ⟨hm, good_of_word (List.mem_filter.mp hm).2⟩
theorem zAfter {G : zG} {p : Program} {l : Launch} {e : Env} {R : Room} {s : State} {m : MethodId} {args : Array Value} {below : List Frame} {meth : Method} {c : Code} {H : Heap} {locs : List Loc} {pc : Nat} {ls : Array Slot} {rest st0 : List Value} {a : Array Value} {Q : State → Prop} {Q1 : Option zV → zM → Prop}
    (hr : va_Run p l e R s m args below meth c H locs 0 0 0 0 (F0 m pc ls st0) rest (zm_Qc G Q1 a) (zm_A G)) (hS : va_S (zm_A G) s.heap H locs)
    (kk : ∀ (v : Option zV) (M1 : zM) (H1 : Heap) (locs1 : List Loc), Q1 v M1 → zm_GP G M1 H1 → va_S (zm_A G) s.heap H1 locs1 → W p l e R s m args below meth c H1 locs1 0 0 Q (F0 m (pc + 3) ls ((v.map (zc G)).toList ++ rest))) : W p l e R s m args below meth c H locs 0 0 Q (F0 m pc ls st0) := by
  intro T hT X
  obtain ⟨v, st₀, t, T', L, h0, X', hL, e1, e2, ⟨⟨v1, M1, hv, hq, hb⟩, hz, hk⟩, st⟩ := hr T hT X
  cases hv
  rw [h0] at hz hk
  obtain ⟨t2, a1, b1⟩ := kk v1 M1 T'.heap (locs ++ L) hq (by rw [e1]; exact hb)
    ⟨Nat.le_trans hS.1 (by rw [e1]; exact hz), fun q h1 h2 => by rw [e1, hk q (Nat.lt_of_lt_of_le h1 hS.1) h2]; exact hS.2.1 q h1 h2, fun q hq => by
      rcases List.mem_append.mp hq with h | h
      · exact hS.2.2 q h
      · exact hL q h⟩ T' rfl X'
  exact ⟨t2, st t2 a1, b1⟩
/-- what the tables say of a method -/
def zMx (y : MethodName) (Y : zY) (n : Nat) : Prop := Cond.initialized y.cls ∈ zT ∧ Cond.code y Y.2.1 Y.2.2.1 Y.2.2.2.1 ∈ zT ∧ (y.cls ≠ "java/lang/invoke/MethodHandle" ∧ y.cls ≠ "java/lang/invoke/VarHandle" ∧ (parseMethodDescriptor y.desc).map (fun d => d.parameters.length) = some n) ∧ Y.2.2.1 ≤ 21
def zMI (y : MethodName) (Y : zY) (n : Nat) : Prop := zMx y Y n ∧ Cond.instanceMethod y ∈ zT ∧ Cond.selects y.cls y y ∈ zT
def zMS (y : MethodName) (Y : zY) (n : Nat) : Prop := zMx y Y n ∧ Cond.static y ∈ zT
/-- the stack with these values upon it -/
def zstk : List zV → List zV → List zV
  | [], r => r
  | v :: av, r => zstk av (v :: r)
theorem zstk_eq (G : zG) : ∀ (av r : List zV), zm_sk G (zstk av r) = (zm_sk G av).reverse ++ zm_sk G r
  | [], r => rfl
  | v :: av, r => by
    rw [show zstk (v :: av) r = zstk av (v :: r) from rfl, zstk_eq G av (v :: r)]
    simp [zm_sk]
def zpush : Option zV → List zV → List zV
  | none, r => r
  | some v, r => v :: r
theorem zpush_eq (G : zG) (v : Option zV) (r : List zV) : zm_sk G (zpush v r) = (v.map (zc G)).toList ++ zm_sk G r := by
  cases v <;> rfl
theorem zm_cats (G : zG) : ∀ r : List zV, ((zm_sk G r).map fun v => v.category).sum = r.length
  | [] => rfl
  | v :: r => by
    show (zc G v).category + ((zm_sk G r).map fun v => v.category).sum = _
    rw [zc_cat, zm_cats G r, List.length_cons, Nat.add_comm]
theorem zRoom {Y Y' : zY} (hdep : Y'.2.2.2.2 + 1 ≤ Y.2.2.2.2) (hL : Y'.2.2.1 ≤ 21) : (zm_rm Y'.2.2.2.2).frames + 1 ≤ (zm_rm Y.2.2.2.2).frames ∧ 8 + (Y'.2.2.1 + 11) + (zm_rm Y'.2.2.2.2).locals ≤ (zm_rm Y.2.2.2.2).locals := by
  refine ⟨hdep, ?_⟩
  show 8 + (Y'.2.2.1 + 11) + 40 * Y'.2.2.2.2 ≤ 40 * Y.2.2.2.2
  omega
section ZCa
variable {G : zG} {Y : zY} {Q : Option zV → zM → Prop} {pc : Nat} {lo : List (Nat × zV)} {st : List zV} {M : zM}
theorem z_callV {y : MethodName} {Y' : zY} {n index ci : Nat} {fs : List (Option Int)} {As rest : List zV} {a : Int} {Q' : Option zV → zM → Prop} (hm : zMI y Y' n) (hM : zCall G y Y' (.inr (some a) :: As) M Q') (hst : st = zstk (.inr (some a) :: As) rest) (hd : decode Y.2.1 pc = .ok (.invokevirtual index, 3)) (hlink : Cond.methodLink Y.1 index y ∈ zT) (hdep : Y'.2.2.2.2 + 1 ≤ Y.2.2.2.2) (hn : As.length = n) (hrest : rest.length ≤ 8)
    (ha : 0 ≤ a ∧ a < 195) (hs : zm_sh a = .inr (.inl (ci, fs))) (hci : ci < 6) (hcls : (zm_cR ci).1 = y.cls)
    (k : ∀ (v : Option zV) (M' : zM), Q' v M' → zW G Y Q (pc + 3) lo (zpush v rest) M') : zW G Y Q pc lo st M := by
  intro p e s m args below meth c C H locs ls hP hS hl
  obtain ⟨hx, hb, hml, hr, hts, hown, hlk, hK, hSt, hJ, hN⟩ := id C
  obtain ⟨⟨i1, i2, ⟨i3, i4, i5⟩, i6⟩, i7, i8⟩ := hm
  subst hst
  have cw : CallW (zm_rm Y.2.2.2.2) s args Y.1 y.cls index y Y'.2.1 Y'.2.2.1 Y'.2.2.2.1 (zWs y Y') (zm_rm Y'.2.2.2.2) 0 0 n :=
    ⟨callB_of n hts (zGood y Y' i2) rfl rfl rfl (hts _ i1) (hts _ hlink) ⟨i3, i4, i5⟩ (zRoom hdep i6), hts _ i7, hts _ i8⟩
  have hrec : ∃ cellB : Cell, H[G.2.1 a]? = some cellB ∧ cellB.vm.isStatics = false ∧ s.vm.findClass y.cls = some cellB.cls := by
    obtain ⟨cell, g1, g2, g3⟩ := va_recv hK hP (zm_cOk hci).1 (zm_W_obj G M ha hs)
    exact ⟨cell, g1, g2, by rw [← hcls]; exact g3⟩
  have hstk : zm_sk G (zstk (.inr (some a) :: As) rest) = (zm_sk G As).reverse ++ Value.ref (G.2.1 a) :: zm_sk G rest := by
    rw [zstk_eq]
    simp [zm_sk, zc]
  refine zAfter (rest := zm_sk G rest) (va_runV (As := zm_sk G As) (b := G.2.1 a) (nL := Y.2.2.1) ⟨hx, hb, hml, hown, hts⟩ hM cw ⟨zPre_blind, hrec, fun U hU hW => ⟨rfl, zPre_now C hP hS U hU hW⟩⟩ rfl (by simpa [zm_sk] using hn) hl.1 hstk (lv_room (by rw [zm_cats]; exact hrest)) hd ⟨Nat.zero_le _, Nat.zero_le _⟩) hS (fun v M1 H1 locs1 hq hP1 hS1 => ?_)
  rw [← zpush_eq]
  exact k v M1 hq p e s m args below meth c C H1 locs1 ls hP1 hS1 hl
theorem z_callS {y : MethodName} {Y' : zY} {n index : Nat} {As rest : List zV} {Q' : Option zV → zM → Prop} (hm : zMS y Y' n) (hM : zCall G y Y' As M Q') (hst : st = zstk As rest) (hd : decode Y.2.1 pc = .ok (.invokestatic index, 3)) (hlink : Cond.methodLink Y.1 index y ∈ zT) (hdep : Y'.2.2.2.2 + 1 ≤ Y.2.2.2.2) (hn : As.length = n) (hrest : rest.length ≤ 8)
    (k : ∀ (v : Option zV) (M' : zM), Q' v M' → zW G Y Q (pc + 3) lo (zpush v rest) M') : zW G Y Q pc lo st M := by
  intro p e s m args below meth c C H locs ls hP hS hl
  obtain ⟨hx, hb, hml, hr, hts, hown, hlk, hK, hSt, hJ, hN⟩ := id C
  obtain ⟨⟨i1, i2, ⟨i3, i4, i5⟩, i6⟩, i7⟩ := hm
  subst hst
  refine zAfter (rest := zm_sk G rest) (va_runS (As := zm_sk G As) (nL := Y.2.2.1) ⟨hx, hb, hml, hown, hts⟩ hM ⟨callB_of n hts (zGood y Y' i2) rfl rfl rfl (hts _ i1) (hts _ hlink) ⟨i3, i4, i5⟩ (zRoom hdep i6), hts _ i7⟩ ⟨zPre_blind, fun U hU hW => ⟨rfl, zPre_now C hP hS U hU hW⟩⟩ rfl (by simpa [zm_sk] using hn) hl.1 (zstk_eq G As rest) (lv_room (by rw [zm_cats]; exact hrest)) hd ⟨Nat.zero_le _, Nat.zero_le _⟩) hS (fun v M1 H1 locs1 hq hP1 hS1 => ?_)
  rw [← zpush_eq]
  exact k v M1 hq p e s m args below meth c C H1 locs1 ls hP1 hS1 hl
theorem z_callSN {y : MethodName} {Y' : zY} {n index : Nat} {host : String} {As rest : List zV} {Q' : Option zV → zM → Prop} (hm : zMS y Y' n) (hM : zCall G y Y' As M Q') (hst : st = zstk As rest) (hd : decode Y.2.1 pc = .ok (.invokestatic index, 3)) (hlink : Cond.methodLinkNest Y.1 index y host ∈ zTN) (hdep : Y'.2.2.2.2 + 1 ≤ Y.2.2.2.2) (hn : As.length = n) (hrest : rest.length ≤ 8)
    (k : ∀ (v : Option zV) (M' : zM), Q' v M' → zW G Y Q (pc + 3) lo (zpush v rest) M') : zW G Y Q pc lo st M := by
  intro p e s m args below meth c C H locs ls hP hS hl
  obtain ⟨hx, hb, hml, hr, hts, hown, hlk, hK, hSt, hJ, hN⟩ := id C
  obtain ⟨⟨i1, i2, ⟨i3, i4, i5⟩, i6⟩, i7⟩ := hm
  subst hst
  refine zAfter (rest := zm_sk G rest) (va_runSN (host := host) (As := zm_sk G As) (nL := Y.2.2.1) ⟨hx, hb, hml, hown, hts⟩ hM ⟨va_cnB n hts (zGood y Y' i2) rfl rfl rfl (hN _ hlink) (hts _ i1) ⟨i3, i4, i5⟩ (zRoom hdep i6), hts _ i7, trivial⟩ ⟨zPre_blind, fun U hU hW => ⟨rfl, zPre_now C hP hS U hU hW⟩⟩ rfl (by simpa [zm_sk] using hn) hl.1 (zstk_eq G As rest) (lv_room (by rw [zm_cats]; exact hrest)) hd ⟨Nat.zero_le _, Nat.zero_le _⟩) hS (fun v M1 H1 locs1 hq hP1 hS1 => ?_)
  rw [← zpush_eq]
  exact k v M1 hq p e s m args below meth c C H1 locs1 ls hP1 hS1 hl
/-! the JDK's -/
theorem z_min {x y : Int} {index : Nat} (hd : decode Y.2.1 pc = .ok (.invokestatic index, 3)) (hlink : Cond.methodLink Y.1 index Lib.Math.min.name ∈ zT) (hstat : Cond.static Lib.Math.min.name ∈ zT) (hini : Cond.initialized "java/lang/Math" ∈ zT) (hcode : Cond.code Lib.Math.min.name Lib.Math.min.code 2 (some .int) ∈ zT) (hdep : 1 ≤ Y.2.2.2.2) (hst : st.length ≤ 8) (rx : -2147483648 ≤ x ∧ x < 2147483648) (ry : -2147483648 ≤ y ∧ y < 2147483648)
    (k : zW G Y Q (pc + 3) lo (.inl (min x y) :: st) M) : zW G Y Q pc lo (.inl y :: .inl x :: st) M := by
  intro p e s m args below meth c C H locs ls hP hS hl
  obtain ⟨hx, hb, hml, hr, hts, hown, hlk, hK, hSt, hJ, hN⟩ := id C
  refine va_mmin hx hb (hml.trans hl.1.symm) hown (hts _ hlink) (hts _ hstat) (hts _ hini) (hts _ hcode) hdep (by show ((zm_sk G st).map fun v => v.category).sum + 13 ≤ _; rw [zm_cats]; show st.length + 13 ≤ 40 * _; omega) (Nat.zero_le _) (Nat.zero_le _) hd ?_
  have he : (if Int32.ofInt y < Int32.ofInt x then Int32.ofInt y else Int32.ofInt x) = Int32.ofInt (min x y) := by
    by_cases h : y < x
    · rw [if_pos ((zn_lt ry rx).mpr h), show min x y = y by omega]
    · rw [if_neg (fun q => h ((zn_lt ry rx).mp q)), show min x y = x by omega]
  rw [he]
  exact k p e s m args below meth c C H locs ls hP hS hl
/-- a row of numbers copied -/
def zm_cp (M : zM) (a b n : Int) : zM := fun k j => if k = b ∧ 0 ≤ j ∧ j < n then M a j else M k j
theorem z_copy {a b x : Int} {na nb index : Nat} (hd : decode Y.2.1 pc = .ok (.invokestatic index, 3)) (hlink : Cond.methodLink Y.1 index arraycopyName ∈ zT) (hnat : Cond.native arraycopyName ∈ zT) (hstat : Cond.static arraycopyName ∈ zT) (hini : Cond.initialized "java/lang/System" ∈ zT) (hdep : 1 ≤ Y.2.2.2.2) (hst : st.length ≤ 8)
    (ha : 0 ≤ a ∧ a < 195) (hsa : zm_sh a = .inl (0, na)) (hb' : 0 ≤ b ∧ b < 195) (hsb : zm_sh b = .inl (0, nb)) (hx' : 0 ≤ x ∧ x ≤ na ∧ x ≤ nb ∧ x < 2147483648)
    (k : zW G Y Q (pc + 3) lo st (zm_cp M a b x)) : zW G Y Q pc lo (.inl x :: .inl 0 :: .inr (some b) :: .inl 0 :: .inr (some a) :: st) M := by
  intro p e s m args below meth c C H locs ls hP hS hl
  obtain ⟨hx, hb, hml, hr, hts, hown, hlk, hK, hSt, hJ, hN⟩ := id C
  have z0 : (Int32.ofInt 0).toNatClampNeg = 0 := rfl
  have zx : (Int32.ofInt x).toNatClampNeg = x.toNat := zn_cl (by omega)
  have nx : ¬ Int32.ofInt x < 0 := fun q => by
    have := (zn_lt (a := x) (b := 0) (by omega) (by omega)).mp q
    omega
  refine va_copyi hx hb (hml.trans hl.1.symm) hown (hts _ hlink) (hts _ hnat) (hts _ hstat) (hts _ hini) hK hP (zm_D hJ M) hS a.toNat b.toNat 0 0 (zm_W_arr G M ha hsa) (zm_W_arr G M hb' hsb) (zm_tys_at G (t := 0) (by omega)) (zm_tys_at G (t := 0) (by omega)) rfl (by decide) (by decide) nx (by rw [z0, zx]; omega) (by rw [z0, zx]; omega) (fun i _ => rfl) hdep ?_ hd (fun H1 locs1 hP1 hD1 hS1 => ?_)
  · show ((zm_sk G st).map fun v => v.category).sum + _ ≤ _
    rw [zm_cats]
    have : nativeFrameWords "java/lang/System" "arraycopy" 5 + 11 ≤ 32 := by decide
    show st.length + _ ≤ 40 * Y.2.2.2.2
    omega
  · have hset : (zm_W G M).set b.toNat (G.2.1 b, .inl (G.2.2.1 0, nb, .inl (va_cpy (fun j : Nat => Int32.ofInt (M a (j : Int))) (fun j : Nat => Int32.ofInt (M b (j : Int))) (Int32.ofInt 0).toNatClampNeg (Int32.ofInt 0).toNatClampNeg (Int32.ofInt x).toNatClampNeg))) = zm_W G (zm_cp M a b x) := by
      refine zm_W_set G M _ hb' ?_ (fun k hk => by funext j; simp [zm_cp, hk])
      rw [hsb, z0, zx]
      show (Sum.inl (G.2.2.1 0, nb, Sum.inl (fun j : Nat => Int32.ofInt (zm_cp M a b x b (j : Int)))) : va_E) = _
      congr 4
      funext j
      by_cases hj : (j : Int) < x
      · simp only [zm_cp, va_cpy]
        rw [if_pos ⟨trivial, by omega, hj⟩, if_pos ⟨Nat.zero_le _, by omega⟩, Nat.zero_add, Nat.sub_zero]
      · simp only [zm_cp, va_cpy]
        rw [if_neg (fun q => hj q.2.2), if_neg (fun q => hj (by omega))]
    rw [hset] at hP1
    exact k p e s m args below meth c C H1 locs1 ls hP1 hS1 hl
end ZCa
end
