abbrev cfill : ByteArray := prog_11_method_103_code
def yfill : MethodName := ⟨"java/util/Arrays", "fill", "([II)V"⟩
theorem dfill_0 : decode cfill 0 = .ok (.iconst 0, 1) := by decide +kernel
theorem dfill_1 : decode cfill 1 = .ok (.istore_n 2, 1) := by decide +kernel
theorem dfill_2 : decode cfill 2 = .ok (.aload_n 0, 1) := by decide +kernel
theorem dfill_3 : decode cfill 3 = .ok (.arraylength, 1) := by decide +kernel
theorem dfill_4 : decode cfill 4 = .ok (.istore_n 3, 1) := by decide +kernel
theorem dfill_5 : decode cfill 5 = .ok (.iload_n 2, 1) := by decide +kernel
theorem dfill_6 : decode cfill 6 = .ok (.iload_n 3, 1) := by decide +kernel
theorem dfill_7 : decode cfill 7 = .ok (.if_icmp .ge 13, 3) := by decide +kernel
theorem dfill_10 : decode cfill 10 = .ok (.aload_n 0, 1) := by decide +kernel
theorem dfill_11 : decode cfill 11 = .ok (.iload_n 2, 1) := by decide +kernel
theorem dfill_12 : decode cfill 12 = .ok (.iload_n 1, 1) := by decide +kernel
theorem dfill_13 : decode cfill 13 = .ok (.iastore, 1) := by decide +kernel
theorem dfill_14 : decode cfill 14 = .ok (.iinc 2 1, 3) := by decide +kernel
theorem dfill_17 : decode cfill 17 = .ok (.goto (-12), 3) := by decide +kernel
theorem dfill_20 : decode cfill 20 = .ok (.return_, 1) := by decide +kernel
abbrev YX0_giveBack : zY := (RX0, cX0_giveBack, 4, (some (.int)), 3)
theorem mX0_giveBack : zMI yX0_giveBack YX0_giveBack 1 := ⟨⟨zin (i := 55) (by decide +kernel) rfl, zin (i := 443) (by decide +kernel) rfl, ⟨by decide +kernel, by decide +kernel, by decide +kernel⟩, by decide⟩, zin (i := 441) (by decide +kernel) rfl, zin (i := 442) (by decide +kernel) rfl⟩
abbrev YX0_remember : zY := (RX0, cX0_remember, 3, none, 3)
theorem mX0_remember : zMI yX0_remember YX0_remember 1 := ⟨⟨zin (i := 55) (by decide +kernel) rfl, zin (i := 278) (by decide +kernel) rfl, ⟨by decide +kernel, by decide +kernel, by decide +kernel⟩, by decide⟩, zin (i := 276) (by decide +kernel) rfl, zin (i := 277) (by decide +kernel) rfl⟩
abbrev YX0_stateAt : zY := (RX0, cX0_stateAt, 2, (some (.object "SnailTrails$Pane")), 0)
theorem mX0_stateAt : zMI yX0_stateAt YX0_stateAt 1 := ⟨⟨zin (i := 55) (by decide +kernel) rfl, zin (i := 282) (by decide +kernel) rfl, ⟨by decide +kernel, by decide +kernel, by decide +kernel⟩, by decide⟩, zin (i := 281) (by decide +kernel) rfl, zin (i := 1) (by decide +kernel) rfl⟩
abbrev YX1_addSnail : zY := (RX1, cX1_addSnail, 4, (some (.int)), 0)
theorem mX1_addSnail : zMI yX1_addSnail YX1_addSnail 2 := ⟨⟨zin (i := 53) (by decide +kernel) rfl, zin (i := 270) (by decide +kernel) rfl, ⟨by decide +kernel, by decide +kernel, by decide +kernel⟩, by decide⟩, zin (i := 268) (by decide +kernel) rfl, zin (i := 269) (by decide +kernel) rfl⟩
abbrev YX1_changeFrost : zY := (RX1, cX1_changeFrost, 6, (some (.int)), 1)
theorem mX1_changeFrost : zMI yX1_changeFrost YX1_changeFrost 3 := ⟨⟨zin (i := 53) (by decide +kernel) rfl, zin (i := 308) (by decide +kernel) rfl, ⟨by decide +kernel, by decide +kernel, by decide +kernel⟩, by decide⟩, zin (i := 306) (by decide +kernel) rfl, zin (i := 307) (by decide +kernel) rfl⟩
abbrev YX1_changeSetting : zY := (RX1, cX1_changeSetting, 4, (some (.int)), 2)
theorem mX1_changeSetting : zMI yX1_changeSetting YX1_changeSetting 2 := ⟨⟨zin (i := 53) (by decide +kernel) rfl, zin (i := 323) (by decide +kernel) rfl, ⟨by decide +kernel, by decide +kernel, by decide +kernel⟩, by decide⟩, zin (i := 321) (by decide +kernel) rfl, zin (i := 322) (by decide +kernel) rfl⟩
abbrev YX1_choice : zY := (RX1, cX1_choice, 6, (some (.int)), 2)
theorem mX1_choice : zMI yX1_choice YX1_choice 1 := ⟨⟨zin (i := 53) (by decide +kernel) rfl, zin (i := 352) (by decide +kernel) rfl, ⟨by decide +kernel, by decide +kernel, by decide +kernel⟩, by decide⟩, zin (i := 350) (by decide +kernel) rfl, zin (i := 351) (by decide +kernel) rfl⟩
abbrev YX1_clearTrail : zY := (RX1, cX1_clearTrail, 2, none, 0)
theorem mX1_clearTrail : zMI yX1_clearTrail YX1_clearTrail 1 := ⟨⟨zin (i := 53) (by decide +kernel) rfl, zin (i := 315) (by decide +kernel) rfl, ⟨by decide +kernel, by decide +kernel, by decide +kernel⟩, by decide⟩, zin (i := 314) (by decide +kernel) rfl, zin (i := 2) (by decide +kernel) rfl⟩
abbrev YX1_copyFrom : zY := (RX1, cX1_copyFrom, 3, none, 2)
theorem mX1_copyFrom : zMI yX1_copyFrom YX1_copyFrom 1 := ⟨⟨zin (i := 53) (by decide +kernel) rfl, zin (i := 249) (by decide +kernel) rfl, ⟨by decide +kernel, by decide +kernel, by decide +kernel⟩, by decide⟩, zin (i := 247) (by decide +kernel) rfl, zin (i := 248) (by decide +kernel) rfl⟩
abbrev YX1_creeps : zY := (RX1, cX1_creeps, 2, (some (.boolean)), 1)
theorem mX1_creeps : zMI yX1_creeps YX1_creeps 1 := ⟨⟨zin (i := 53) (by decide +kernel) rfl, zin (i := 300) (by decide +kernel) rfl, ⟨by decide +kernel, by decide +kernel, by decide +kernel⟩, by decide⟩, zin (i := 298) (by decide +kernel) rfl, zin (i := 299) (by decide +kernel) rfl⟩
abbrev YX1_dryTrails : zY := (RX1, cX1_dryTrails, 3, none, 1)
theorem mX1_dryTrails : zMI yX1_dryTrails YX1_dryTrails 1 := ⟨⟨zin (i := 53) (by decide +kernel) rfl, zin (i := 331) (by decide +kernel) rfl, ⟨by decide +kernel, by decide +kernel, by decide +kernel⟩, by decide⟩, zin (i := 330) (by decide +kernel) rfl, zin (i := 3) (by decide +kernel) rfl⟩
abbrev YX1_findLeader : zY := (RX1, cX1_findLeader, 3, (some (.int)), 2)
theorem mX1_findLeader : zMI yX1_findLeader YX1_findLeader 0 := ⟨⟨zin (i := 53) (by decide +kernel) rfl, zin (i := 537) (by decide +kernel) rfl, ⟨by decide +kernel, by decide +kernel, by decide +kernel⟩, by decide⟩, zin (i := 535) (by decide +kernel) rfl, zin (i := 536) (by decide +kernel) rfl⟩
abbrev YX1_growFrost : zY := (RX1, cX1_growFrost, 2, none, 0)
theorem mX1_growFrost : zMI yX1_growFrost YX1_growFrost 0 := ⟨⟨zin (i := 53) (by decide +kernel) rfl, zin (i := 383) (by decide +kernel) rfl, ⟨by decide +kernel, by decide +kernel, by decide +kernel⟩, by decide⟩, zin (i := 382) (by decide +kernel) rfl, zin (i := 9) (by decide +kernel) rfl⟩
abbrev YX1_hasEnded : zY := (RX1, cX1_hasEnded, 2, (some (.boolean)), 1)
theorem mX1_hasEnded : zMI yX1_hasEnded YX1_hasEnded 1 := ⟨⟨zin (i := 53) (by decide +kernel) rfl, zin (i := 494) (by decide +kernel) rfl, ⟨by decide +kernel, by decide +kernel, by decide +kernel⟩, by decide⟩, zin (i := 492) (by decide +kernel) rfl, zin (i := 493) (by decide +kernel) rfl⟩
abbrev YX1_howManyAre : zY := (RX1, cX1_howManyAre, 4, (some (.int)), 0)
theorem mX1_howManyAre : zMI yX1_howManyAre YX1_howManyAre 1 := ⟨⟨zin (i := 53) (by decide +kernel) rfl, zin (i := 344) (by decide +kernel) rfl, ⟨by decide +kernel, by decide +kernel, by decide +kernel⟩, by decide⟩, zin (i := 343) (by decide +kernel) rfl, zin (i := 4) (by decide +kernel) rfl⟩
abbrev YX1_howManyTrails : zY := (RX1, cX1_howManyTrails, 3, (some (.int)), 0)
theorem mX1_howManyTrails : zMI yX1_howManyTrails YX1_howManyTrails 0 := ⟨⟨zin (i := 53) (by decide +kernel) rfl, zin (i := 571) (by decide +kernel) rfl, ⟨by decide +kernel, by decide +kernel, by decide +kernel⟩, by decide⟩, zin (i := 570) (by decide +kernel) rfl, zin (i := 21) (by decide +kernel) rfl⟩
abbrev YX1_isAhead : zY := (RX1, cX1_isAhead, 3, (some (.boolean)), 0)
theorem mX1_isAhead : zMI yX1_isAhead YX1_isAhead 2 := ⟨⟨zin (i := 53) (by decide +kernel) rfl, zin (i := 541) (by decide +kernel) rfl, ⟨by decide +kernel, by decide +kernel, by decide +kernel⟩, by decide⟩, zin (i := 540) (by decide +kernel) rfl, zin (i := 19) (by decide +kernel) rfl⟩
abbrev YX1_knows : zY := (RX1, cX1_knows, 2, (some (.boolean)), 0)
theorem mX1_knows : zMI yX1_knows YX1_knows 1 := ⟨⟨zin (i := 53) (by decide +kernel) rfl, zin (i := 296) (by decide +kernel) rfl, ⟨by decide +kernel, by decide +kernel, by decide +kernel⟩, by decide⟩, zin (i := 294) (by decide +kernel) rfl, zin (i := 295) (by decide +kernel) rfl⟩
abbrev YX1_letPass : zY := (RX1, cX1_letPass, 4, (some (.int)), 4)
theorem mX1_letPass : zMI yX1_letPass YX1_letPass 1 := ⟨⟨zin (i := 53) (by decide +kernel) rfl, zin (i := 339) (by decide +kernel) rfl, ⟨by decide +kernel, by decide +kernel, by decide +kernel⟩, by decide⟩, zin (i := 337) (by decide +kernel) rfl, zin (i := 338) (by decide +kernel) rfl⟩
abbrev YX1_noteLender : zY := (RX1, cX1_noteLender, 3, none, 1)
theorem mX1_noteLender : zMI yX1_noteLender YX1_noteLender 2 := ⟨⟨zin (i := 53) (by decide +kernel) rfl, zin (i := 374) (by decide +kernel) rfl, ⟨by decide +kernel, by decide +kernel, by decide +kernel⟩, by decide⟩, zin (i := 373) (by decide +kernel) rfl, zin (i := 7) (by decide +kernel) rfl⟩
abbrev YX1_passTurn : zY := (RX1, cX1_passTurn, 3, none, 3)
theorem mX1_passTurn : zMI yX1_passTurn YX1_passTurn 0 := ⟨⟨zin (i := 53) (by decide +kernel) rfl, zin (i := 348) (by decide +kernel) rfl, ⟨by decide +kernel, by decide +kernel, by decide +kernel⟩, by decide⟩, zin (i := 347) (by decide +kernel) rfl, zin (i := 5) (by decide +kernel) rfl⟩
abbrev YX1_passUntilEnd : zY := (RX1, cX1_passUntilEnd, 4, (some (.int)), 4)
theorem mX1_passUntilEnd : zMI yX1_passUntilEnd YX1_passUntilEnd 2 := ⟨⟨zin (i := 53) (by decide +kernel) rfl, zin (i := 498) (by decide +kernel) rfl, ⟨by decide +kernel, by decide +kernel, by decide +kernel⟩, by decide⟩, zin (i := 496) (by decide +kernel) rfl, zin (i := 497) (by decide +kernel) rfl⟩
abbrev YX1_placeSnail : zY := (RX1, cX1_placeSnail, 3, (some (.int)), 1)
theorem mX1_placeSnail : zMI yX1_placeSnail YX1_placeSnail 2 := ⟨⟨zin (i := 53) (by decide +kernel) rfl, zin (i := 262) (by decide +kernel) rfl, ⟨by decide +kernel, by decide +kernel, by decide +kernel⟩, by decide⟩, zin (i := 260) (by decide +kernel) rfl, zin (i := 261) (by decide +kernel) rfl⟩
abbrev YX1_priceOf : zY := (RX1, cX1_priceOf, 2, (some (.int)), 0)
theorem mX1_priceOf : zMI yX1_priceOf YX1_priceOf 1 := ⟨⟨zin (i := 53) (by decide +kernel) rfl, zin (i := 366) (by decide +kernel) rfl, ⟨by decide +kernel, by decide +kernel, by decide +kernel⟩, by decide⟩, zin (i := 364) (by decide +kernel) rfl, zin (i := 365) (by decide +kernel) rfl⟩
abbrev YX1_removeSnail : zY := (RX1, cX1_removeSnail, 2, (some (.int)), 2)
theorem mX1_removeSnail : zMI yX1_removeSnail YX1_removeSnail 1 := ⟨⟨zin (i := 53) (by decide +kernel) rfl, zin (i := 292) (by decide +kernel) rfl, ⟨by decide +kernel, by decide +kernel, by decide +kernel⟩, by decide⟩, zin (i := 290) (by decide +kernel) rfl, zin (i := 291) (by decide +kernel) rfl⟩
abbrev YX1_rest : zY := (RX1, cX1_rest, 2, none, 2)
theorem mX1_rest : zMI yX1_rest YX1_rest 1 := ⟨⟨zin (i := 53) (by decide +kernel) rfl, zin (i := 378) (by decide +kernel) rfl, ⟨by decide +kernel, by decide +kernel, by decide +kernel⟩, by decide⟩, zin (i := 377) (by decide +kernel) rfl, zin (i := 8) (by decide +kernel) rfl⟩
abbrev YX1_snailOn : zY := (RX1, cX1_snailOn, 4, (some (.int)), 0)
theorem mX1_snailOn : zMI yX1_snailOn YX1_snailOn 2 := ⟨⟨zin (i := 53) (by decide +kernel) rfl, zin (i := 266) (by decide +kernel) rfl, ⟨by decide +kernel, by decide +kernel, by decide +kernel⟩, by decide⟩, zin (i := 264) (by decide +kernel) rfl, zin (i := 265) (by decide +kernel) rfl⟩
abbrev YX1_stepCost : zY := (RX1, cX1_stepCost, 7, (some (.int)), 1)
theorem mX1_stepCost : zMI yX1_stepCost YX1_stepCost 2 := ⟨⟨zin (i := 53) (by decide +kernel) rfl, zin (i := 358) (by decide +kernel) rfl, ⟨by decide +kernel, by decide +kernel, by decide +kernel⟩, by decide⟩, zin (i := 356) (by decide +kernel) rfl, zin (i := 357) (by decide +kernel) rfl⟩
abbrev YX1_takeStep : zY := (RX1, cX1_takeStep, 8, none, 2)
theorem mX1_takeStep : zMI yX1_takeStep YX1_takeStep 2 := ⟨⟨zin (i := 53) (by decide +kernel) rfl, zin (i := 370) (by decide +kernel) rfl, ⟨by decide +kernel, by decide +kernel, by decide +kernel⟩, by decide⟩, zin (i := 369) (by decide +kernel) rfl, zin (i := 6) (by decide +kernel) rfl⟩
abbrev YX1_tellCell : zY := (RX1, cX1_tellCell, 5, (some (.int)), 1)
theorem mX1_tellCell : zMI yX1_tellCell YX1_tellCell 3 := ⟨⟨zin (i := 53) (by decide +kernel) rfl, zin (i := 467) (by decide +kernel) rfl, ⟨by decide +kernel, by decide +kernel, by decide +kernel⟩, by decide⟩, zin (i := 465) (by decide +kernel) rfl, zin (i := 466) (by decide +kernel) rfl⟩
abbrev YX1_tellCount : zY := (RX1, cX1_tellCount, 2, (some (.int)), 1)
theorem mX1_tellCount : zMI yX1_tellCount YX1_tellCount 1 := ⟨⟨zin (i := 53) (by decide +kernel) rfl, zin (i := 567) (by decide +kernel) rfl, ⟨by decide +kernel, by decide +kernel, by decide +kernel⟩, by decide⟩, zin (i := 565) (by decide +kernel) rfl, zin (i := 566) (by decide +kernel) rfl⟩
abbrev YX1_tellOwed : zY := (RX1, cX1_tellOwed, 3, (some (.int)), 1)
theorem mX1_tellOwed : zMI yX1_tellOwed YX1_tellOwed 2 := ⟨⟨zin (i := 53) (by decide +kernel) rfl, zin (i := 549) (by decide +kernel) rfl, ⟨by decide +kernel, by decide +kernel, by decide +kernel⟩, by decide⟩, zin (i := 547) (by decide +kernel) rfl, zin (i := 548) (by decide +kernel) rfl⟩
abbrev YX1_tellSnail : zY := (RX1, cX1_tellSnail, 3, (some (.int)), 1)
theorem mX1_tellSnail : zMI yX1_tellSnail YX1_tellSnail 2 := ⟨⟨zin (i := 53) (by decide +kernel) rfl, zin (i := 459) (by decide +kernel) rfl, ⟨by decide +kernel, by decide +kernel, by decide +kernel⟩, by decide⟩, zin (i := 457) (by decide +kernel) rfl, zin (i := 458) (by decide +kernel) rfl⟩
abbrev YX1_whyNoHelp : zY := (RX1, cX1_whyNoHelp, 5, (some (.int)), 0)
theorem mX1_whyNoHelp : zMI yX1_whyNoHelp YX1_whyNoHelp 2 := ⟨⟨zin (i := 53) (by decide +kernel) rfl, zin (i := 362) (by decide +kernel) rfl, ⟨by decide +kernel, by decide +kernel, by decide +kernel⟩, by decide⟩, zin (i := 360) (by decide +kernel) rfl, zin (i := 361) (by decide +kernel) rfl⟩
abbrev YX2_append : zY := (RX2, cX2_append, 2, (some (.int)), 0)
theorem mX2_append : zMI yX2_append YX2_append 1 := ⟨⟨zin (i := 56) (by decide +kernel) rfl, zin (i := 391) (by decide +kernel) rfl, ⟨by decide +kernel, by decide +kernel, by decide +kernel⟩, by decide⟩, zin (i := 389) (by decide +kernel) rfl, zin (i := 390) (by decide +kernel) rfl⟩
abbrev YX2_digitHere : zY := (RX2, cX2_digitHere, 2, (some (.int)), 1)
theorem mX2_digitHere : zMI yX2_digitHere YX2_digitHere 0 := ⟨⟨zin (i := 56) (by decide +kernel) rfl, zin (i := 423) (by decide +kernel) rfl, ⟨by decide +kernel, by decide +kernel, by decide +kernel⟩, by decide⟩, zin (i := 422) (by decide +kernel) rfl, zin (i := 13) (by decide +kernel) rfl⟩
abbrev YX2_empty : zY := (RX2, cX2_empty, 2, (some (.int)), 0)
theorem mX2_empty : zMI yX2_empty YX2_empty 0 := ⟨⟨zin (i := 56) (by decide +kernel) rfl, zin (i := 399) (by decide +kernel) rfl, ⟨by decide +kernel, by decide +kernel, by decide +kernel⟩, by decide⟩, zin (i := 397) (by decide +kernel) rfl, zin (i := 398) (by decide +kernel) rfl⟩
abbrev YX2_read : zY := (RX2, cX2_read, 2, (some (.int)), 4)
theorem mX2_read : zMI yX2_read YX2_read 0 := ⟨⟨zin (i := 56) (by decide +kernel) rfl, zin (i := 407) (by decide +kernel) rfl, ⟨by decide +kernel, by decide +kernel, by decide +kernel⟩, by decide⟩, zin (i := 405) (by decide +kernel) rfl, zin (i := 406) (by decide +kernel) rfl⟩
abbrev YX2_readNumber : zY := (RX2, cX2_readNumber, 7, (some (.boolean)), 2)
theorem mX2_readNumber : zMI yX2_readNumber YX2_readNumber 4 := ⟨⟨zin (i := 56) (by decide +kernel) rfl, zin (i := 419) (by decide +kernel) rfl, ⟨by decide +kernel, by decide +kernel, by decide +kernel⟩, by decide⟩, zin (i := 418) (by decide +kernel) rfl, zin (i := 12) (by decide +kernel) rfl⟩
abbrev YX2_readSign : zY := (RX2, cX2_readSign, 2, (some (.boolean)), 1)
theorem mX2_readSign : zMI yX2_readSign YX2_readSign 1 := ⟨⟨zin (i := 56) (by decide +kernel) rfl, zin (i := 427) (by decide +kernel) rfl, ⟨by decide +kernel, by decide +kernel, by decide +kernel⟩, by decide⟩, zin (i := 426) (by decide +kernel) rfl, zin (i := 14) (by decide +kernel) rfl⟩
abbrev YX2_readThing : zY := (RX2, cX2_readThing, 3, (some (.boolean)), 3)
theorem mX2_readThing : zMI yX2_readThing YX2_readThing 1 := ⟨⟨zin (i := 56) (by decide +kernel) rfl, zin (i := 411) (by decide +kernel) rfl, ⟨by decide +kernel, by decide +kernel, by decide +kernel⟩, by decide⟩, zin (i := 410) (by decide +kernel) rfl, zin (i := 10) (by decide +kernel) rfl⟩
abbrev YX2_signHere : zY := (RX2, cX2_signHere, 1, (some (.int)), 0)
theorem mX2_signHere : zMI yX2_signHere YX2_signHere 0 := ⟨⟨zin (i := 56) (by decide +kernel) rfl, zin (i := 415) (by decide +kernel) rfl, ⟨by decide +kernel, by decide +kernel, by decide +kernel⟩, by decide⟩, zin (i := 414) (by decide +kernel) rfl, zin (i := 11) (by decide +kernel) rfl⟩
abbrev YX3_fromRimDown : zY := (RX3, cX3_fromRimDown, 7, (some (.int)), 2)
theorem mX3_fromRimDown : zMI yX3_fromRimDown YX3_fromRimDown 3 := ⟨⟨zin (i := 57) (by decide +kernel) rfl, zin (i := 507) (by decide +kernel) rfl, ⟨by decide +kernel, by decide +kernel, by decide +kernel⟩, by decide⟩, zin (i := 505) (by decide +kernel) rfl, zin (i := 506) (by decide +kernel) rfl⟩
abbrev YX3_leastAbove : zY := (RX3, cX3_leastAbove, 10, (some (.int)), 1)
theorem mX3_leastAbove : zMI yX3_leastAbove YX3_leastAbove 3 := ⟨⟨zin (i := 57) (by decide +kernel) rfl, zin (i := 512) (by decide +kernel) rfl, ⟨by decide +kernel, by decide +kernel, by decide +kernel⟩, by decide⟩, zin (i := 511) (by decide +kernel) rfl, zin (i := 16) (by decide +kernel) rfl⟩
abbrev YX3_leastSumFirst : zY := (RX3, cX3_leastSumFirst, 7, (some (.int)), 2)
theorem mX3_leastSumFirst : zMI yX3_leastSumFirst YX3_leastSumFirst 3 := ⟨⟨zin (i := 57) (by decide +kernel) rfl, zin (i := 520) (by decide +kernel) rfl, ⟨by decide +kernel, by decide +kernel, by decide +kernel⟩, by decide⟩, zin (i := 518) (by decide +kernel) rfl, zin (i := 519) (by decide +kernel) rfl⟩
abbrev YX3_nearest : zY := (RX3, cX3_nearest, 4, (some (.int)), 0)
theorem mX3_nearest : zMI yX3_nearest YX3_nearest 0 := ⟨⟨zin (i := 57) (by decide +kernel) rfl, zin (i := 525) (by decide +kernel) rfl, ⟨by decide +kernel, by decide +kernel, by decide +kernel⟩, by decide⟩, zin (i := 524) (by decide +kernel) rfl, zin (i := 17) (by decide +kernel) rfl⟩
abbrev YX3_reachAbove : zY := (RX3, cX3_reachAbove, 8, none, 1)
theorem mX3_reachAbove : zMI yX3_reachAbove YX3_reachAbove 2 := ⟨⟨zin (i := 57) (by decide +kernel) rfl, zin (i := 529) (by decide +kernel) rfl, ⟨by decide +kernel, by decide +kernel, by decide +kernel⟩, by decide⟩, zin (i := 528) (by decide +kernel) rfl, zin (i := 18) (by decide +kernel) rfl⟩
abbrev YX4_bestLane : zY := (RX4, cX4_bestLane, 7, (some (.int)), 6)
theorem mX4_bestLane : zMI yX4_bestLane YX4_bestLane 2 := ⟨⟨zin (i := 52) (by decide +kernel) rfl, zin (i := 553) (by decide +kernel) rfl, ⟨by decide +kernel, by decide +kernel, by decide +kernel⟩, by decide⟩, zin (i := 551) (by decide +kernel) rfl, zin (i := 552) (by decide +kernel) rfl⟩
abbrev YX4_cell : zY := (RX4, cX4_cell, 4, (some (.int)), 2)
theorem mX4_cell : zMI yX4_cell YX4_cell 3 := ⟨⟨zin (i := 52) (by decide +kernel) rfl, zin (i := 463) (by decide +kernel) rfl, ⟨by decide +kernel, by decide +kernel, by decide +kernel⟩, by decide⟩, zin (i := 461) (by decide +kernel) rfl, zin (i := 462) (by decide +kernel) rfl⟩
abbrev YX4_cellAt : zY := (RX4, cX4_cellAt, 2, (some (.int)), 0)
theorem mX4_cellAt : zMS yX4_cellAt YX4_cellAt 2 := ⟨⟨zin (i := 52) (by decide +kernel) rfl, zin (i := 311) (by decide +kernel) rfl, ⟨by decide +kernel, by decide +kernel, by decide +kernel⟩, by decide⟩, zin (i := 310) (by decide +kernel) rfl⟩
abbrev YX4_clearText : zY := (RX4, cX4_clearText, 1, (some (.int)), 1)
theorem mX4_clearText : zMI yX4_clearText YX4_clearText 0 := ⟨⟨zin (i := 52) (by decide +kernel) rfl, zin (i := 395) (by decide +kernel) rfl, ⟨by decide +kernel, by decide +kernel, by decide +kernel⟩, by decide⟩, zin (i := 393) (by decide +kernel) rfl, zin (i := 394) (by decide +kernel) rfl⟩
abbrev YX4_copy : zY := (RX4, cX4_copy, 2, none, 1)
theorem mX4_copy : zMS yX4_copy YX4_copy 2 := ⟨⟨zin (i := 52) (by decide +kernel) rfl, zin (i := 252) (by decide +kernel) rfl, ⟨by decide +kernel, by decide +kernel, by decide +kernel⟩, by decide⟩, zin (i := 251) (by decide +kernel) rfl⟩
abbrev YX4_cost : zY := (RX4, cX4_cost, 3, (some (.int)), 2)
theorem mX4_cost : zMI yX4_cost YX4_cost 2 := ⟨⟨zin (i := 52) (by decide +kernel) rfl, zin (i := 471) (by decide +kernel) rfl, ⟨by decide +kernel, by decide +kernel, by decide +kernel⟩, by decide⟩, zin (i := 469) (by decide +kernel) rfl, zin (i := 470) (by decide +kernel) rfl⟩
abbrev YX4_count : zY := (RX4, cX4_count, 2, (some (.int)), 2)
theorem mX4_count : zMI yX4_count YX4_count 1 := ⟨⟨zin (i := 52) (by decide +kernel) rfl, zin (i := 563) (by decide +kernel) rfl, ⟨by decide +kernel, by decide +kernel, by decide +kernel⟩, by decide⟩, zin (i := 561) (by decide +kernel) rfl, zin (i := 562) (by decide +kernel) rfl⟩
abbrev YX4_doThing : zY := (RX4, cX4_doThing, 2, (some (.int)), 5)
theorem mX4_doThing : zMI yX4_doThing YX4_doThing 1 := ⟨⟨zin (i := 52) (by decide +kernel) rfl, zin (i := 431) (by decide +kernel) rfl, ⟨by decide +kernel, by decide +kernel, by decide +kernel⟩, by decide⟩, zin (i := 430) (by decide +kernel) rfl, zin (i := 15) (by decide +kernel) rfl⟩
abbrev YX4_does : zY := (RX4, cX4_does, 2, (some (.int)), 3)
theorem mX4_does : zMI yX4_does YX4_does 1 := ⟨⟨zin (i := 52) (by decide +kernel) rfl, zin (i := 479) (by decide +kernel) rfl, ⟨by decide +kernel, by decide +kernel, by decide +kernel⟩, by decide⟩, zin (i := 477) (by decide +kernel) rfl, zin (i := 478) (by decide +kernel) rfl⟩
abbrev YX4_endsIn : zY := (RX4, cX4_endsIn, 2, (some (.int)), 5)
theorem mX4_endsIn : zMI yX4_endsIn YX4_endsIn 1 := ⟨⟨zin (i := 52) (by decide +kernel) rfl, zin (i := 490) (by decide +kernel) rfl, ⟨by decide +kernel, by decide +kernel, by decide +kernel⟩, by decide⟩, zin (i := 488) (by decide +kernel) rfl, zin (i := 489) (by decide +kernel) rfl⟩
abbrev YX4_keep : zY := (RX4, cX4_keep, 1, (some (.int)), 3)
theorem mX4_keep : zMI yX4_keep YX4_keep 0 := ⟨⟨zin (i := 52) (by decide +kernel) rfl, zin (i := 447) (by decide +kernel) rfl, ⟨by decide +kernel, by decide +kernel, by decide +kernel⟩, by decide⟩, zin (i := 445) (by decide +kernel) rfl, zin (i := 446) (by decide +kernel) rfl⟩
abbrev YX4_leader : zY := (RX4, cX4_leader, 1, (some (.int)), 3)
theorem mX4_leader : zMI yX4_leader YX4_leader 0 := ⟨⟨zin (i := 52) (by decide +kernel) rfl, zin (i := 533) (by decide +kernel) rfl, ⟨by decide +kernel, by decide +kernel, by decide +kernel⟩, by decide⟩, zin (i := 531) (by decide +kernel) rfl, zin (i := 532) (by decide +kernel) rfl⟩
abbrev YX4_owes : zY := (RX4, cX4_owes, 3, (some (.int)), 2)
theorem mX4_owes : zMI yX4_owes YX4_owes 2 := ⟨⟨zin (i := 52) (by decide +kernel) rfl, zin (i := 545) (by decide +kernel) rfl, ⟨by decide +kernel, by decide +kernel, by decide +kernel⟩, by decide⟩, zin (i := 543) (by decide +kernel) rfl, zin (i := 544) (by decide +kernel) rfl⟩
abbrev YX4_pass : zY := (RX4, cX4_pass, 2, (some (.int)), 5)
theorem mX4_pass : zMI yX4_pass YX4_pass 1 := ⟨⟨zin (i := 52) (by decide +kernel) rfl, zin (i := 335) (by decide +kernel) rfl, ⟨by decide +kernel, by decide +kernel, by decide +kernel⟩, by decide⟩, zin (i := 333) (by decide +kernel) rfl, zin (i := 334) (by decide +kernel) rfl⟩
abbrev YX4_perform : zY := (RX4, cX4_perform, 4, (some (.int)), 6)
theorem mX4_perform : zMI yX4_perform YX4_perform 0 := ⟨⟨zin (i := 52) (by decide +kernel) rfl, zin (i := 403) (by decide +kernel) rfl, ⟨by decide +kernel, by decide +kernel, by decide +kernel⟩, by decide⟩, zin (i := 401) (by decide +kernel) rfl, zin (i := 402) (by decide +kernel) rfl⟩
abbrev YX4_reason : zY := (RX4, cX4_reason, 5, (some (.int)), 1)
theorem mX4_reason : zMI yX4_reason YX4_reason 3 := ⟨⟨zin (i := 52) (by decide +kernel) rfl, zin (i := 484) (by decide +kernel) rfl, ⟨by decide +kernel, by decide +kernel, by decide +kernel⟩, by decide⟩, zin (i := 482) (by decide +kernel) rfl, zin (i := 483) (by decide +kernel) rfl⟩
abbrev YX4_recorded : zY := (RX4, cX4_recorded, 2, (some (.int)), 4)
theorem mX4_recorded : zMI yX4_recorded YX4_recorded 1 := ⟨⟨zin (i := 52) (by decide +kernel) rfl, zin (i := 274) (by decide +kernel) rfl, ⟨by decide +kernel, by decide +kernel, by decide +kernel⟩, by decide⟩, zin (i := 273) (by decide +kernel) rfl, zin (i := 0) (by decide +kernel) rfl⟩
abbrev YX4_restore : zY := (RX4, cX4_restore, 1, (some (.int)), 5)
theorem mX4_restore : zMI yX4_restore YX4_restore 0 := ⟨⟨zin (i := 52) (by decide +kernel) rfl, zin (i := 451) (by decide +kernel) rfl, ⟨by decide +kernel, by decide +kernel, by decide +kernel⟩, by decide⟩, zin (i := 449) (by decide +kernel) rfl, zin (i := 450) (by decide +kernel) rfl⟩
abbrev YX4_set : zY := (RX4, cX4_set, 3, (some (.int)), 5)
theorem mX4_set : zMI yX4_set YX4_set 2 := ⟨⟨zin (i := 52) (by decide +kernel) rfl, zin (i := 319) (by decide +kernel) rfl, ⟨by decide +kernel, by decide +kernel, by decide +kernel⟩, by decide⟩, zin (i := 317) (by decide +kernel) rfl, zin (i := 318) (by decide +kernel) rfl⟩
abbrev YX4_setFrost : zY := (RX4, cX4_setFrost, 4, (some (.int)), 5)
theorem mX4_setFrost : zMI yX4_setFrost YX4_setFrost 3 := ⟨⟨zin (i := 52) (by decide +kernel) rfl, zin (i := 304) (by decide +kernel) rfl, ⟨by decide +kernel, by decide +kernel, by decide +kernel⟩, by decide⟩, zin (i := 302) (by decide +kernel) rfl, zin (i := 303) (by decide +kernel) rfl⟩
abbrev YX4_setSnail : zY := (RX4, cX4_setSnail, 3, (some (.int)), 5)
theorem mX4_setSnail : zMI yX4_setSnail YX4_setSnail 2 := ⟨⟨zin (i := 52) (by decide +kernel) rfl, zin (i := 245) (by decide +kernel) rfl, ⟨by decide +kernel, by decide +kernel, by decide +kernel⟩, by decide⟩, zin (i := 243) (by decide +kernel) rfl, zin (i := 244) (by decide +kernel) rfl⟩
abbrev YX4_snail : zY := (RX4, cX4_snail, 3, (some (.int)), 2)
theorem mX4_snail : zMI yX4_snail YX4_snail 2 := ⟨⟨zin (i := 52) (by decide +kernel) rfl, zin (i := 455) (by decide +kernel) rfl, ⟨by decide +kernel, by decide +kernel, by decide +kernel⟩, by decide⟩, zin (i := 453) (by decide +kernel) rfl, zin (i := 454) (by decide +kernel) rfl⟩
abbrev YX4_stopped : zY := (RX4, cX4_stopped, 2, (some (.int)), 0)
theorem mX4_stopped : zMI yX4_stopped YX4_stopped 1 := ⟨⟨zin (i := 52) (by decide +kernel) rfl, zin (i := 435) (by decide +kernel) rfl, ⟨by decide +kernel, by decide +kernel, by decide +kernel⟩, by decide⟩, zin (i := 433) (by decide +kernel) rfl, zin (i := 434) (by decide +kernel) rfl⟩
abbrev YX4_sum : zY := (RX4, cX4_sum, 6, (some (.int)), 0)
theorem mX4_sum : zMS yX4_sum YX4_sum 1 := ⟨⟨zin (i := 52) (by decide +kernel) rfl, zin (i := 574) (by decide +kernel) rfl, ⟨by decide +kernel, by decide +kernel, by decide +kernel⟩, by decide⟩, zin (i := 573) (by decide +kernel) rfl⟩
abbrev YX4_takeOff : zY := (RX4, cX4_takeOff, 2, (some (.int)), 5)
theorem mX4_takeOff : zMI yX4_takeOff YX4_takeOff 1 := ⟨⟨zin (i := 52) (by decide +kernel) rfl, zin (i := 288) (by decide +kernel) rfl, ⟨by decide +kernel, by decide +kernel, by decide +kernel⟩, by decide⟩, zin (i := 286) (by decide +kernel) rfl, zin (i := 287) (by decide +kernel) rfl⟩
abbrev YX4_turnsFrom : zY := (RX4, cX4_turnsFrom, 5, (some (.int)), 5)
theorem mX4_turnsFrom : zMI yX4_turnsFrom YX4_turnsFrom 3 := ⟨⟨zin (i := 52) (by decide +kernel) rfl, zin (i := 557) (by decide +kernel) rfl, ⟨by decide +kernel, by decide +kernel, by decide +kernel⟩, by decide⟩, zin (i := 556) (by decide +kernel) rfl, zin (i := 20) (by decide +kernel) rfl⟩
abbrev YX4_type : zY := (RX4, cX4_type, 2, (some (.int)), 1)
theorem mX4_type : zMI yX4_type YX4_type 1 := ⟨⟨zin (i := 52) (by decide +kernel) rfl, zin (i := 387) (by decide +kernel) rfl, ⟨by decide +kernel, by decide +kernel, by decide +kernel⟩, by decide⟩, zin (i := 385) (by decide +kernel) rfl, zin (i := 386) (by decide +kernel) rfl⟩
abbrev YX4_undo : zY := (RX4, cX4_undo, 1, (some (.int)), 4)
theorem mX4_undo : zMI yX4_undo YX4_undo 0 := ⟨⟨zin (i := 52) (by decide +kernel) rfl, zin (i := 439) (by decide +kernel) rfl, ⟨by decide +kernel, by decide +kernel, by decide +kernel⟩, by decide⟩, zin (i := 437) (by decide +kernel) rfl, zin (i := 438) (by decide +kernel) rfl⟩
abbrev YX4_wayUp : zY := (RX4, cX4_wayUp, 4, (some (.int)), 3)
theorem mX4_wayUp : zMI yX4_wayUp YX4_wayUp 3 := ⟨⟨zin (i := 52) (by decide +kernel) rfl, zin (i := 503) (by decide +kernel) rfl, ⟨by decide +kernel, by decide +kernel, by decide +kernel⟩, by decide⟩, zin (i := 501) (by decide +kernel) rfl, zin (i := 502) (by decide +kernel) rfl⟩
abbrev YX5_at : zY := (RX5, cX5_at, 2, (some (.int)), 0)
theorem mX5_at : zMS yX5_at YX5_at 2 := ⟨⟨zin (i := 58) (by decide +kernel) rfl, zin (i := 693) (by decide +kernel) rfl, ⟨by decide +kernel, by decide +kernel, by decide +kernel⟩, by decide⟩, zin (i := 692) (by decide +kernel) rfl⟩
abbrev YX5_barFrost : zY := (RX5, cX5_barFrost, 4, (some (.int)), 3)
theorem mX5_barFrost : zMI yX5_barFrost YX5_barFrost 3 := ⟨⟨zin (i := 58) (by decide +kernel) rfl, zin (i := 687) (by decide +kernel) rfl, ⟨by decide +kernel, by decide +kernel, by decide +kernel⟩, by decide⟩, zin (i := 686) (by decide +kernel) rfl, zin (i := 28) (by decide +kernel) rfl⟩
abbrev YX5_barPass : zY := (RX5, cX5_barPass, 2, (some (.int)), 1)
theorem mX5_barPass : zMI yX5_barPass YX5_barPass 1 := ⟨⟨zin (i := 58) (by decide +kernel) rfl, zin (i := 716) (by decide +kernel) rfl, ⟨by decide +kernel, by decide +kernel, by decide +kernel⟩, by decide⟩, zin (i := 715) (by decide +kernel) rfl, zin (i := 31) (by decide +kernel) rfl⟩
abbrev YX5_barSnail : zY := (RX5, cX5_barSnail, 3, (some (.int)), 3)
theorem mX5_barSnail : zMI yX5_barSnail YX5_barSnail 2 := ⟨⟨zin (i := 58) (by decide +kernel) rfl, zin (i := 646) (by decide +kernel) rfl, ⟨by decide +kernel, by decide +kernel, by decide +kernel⟩, by decide⟩, zin (i := 645) (by decide +kernel) rfl, zin (i := 22) (by decide +kernel) rfl⟩
abbrev YX5_bestLane : zY := (RX5, cX5_bestLane, 7, (some (.int)), 7)
theorem mX5_bestLane : zMI yX5_bestLane YX5_bestLane 2 := ⟨⟨zin (i := 58) (by decide +kernel) rfl, zin (i := 848) (by decide +kernel) rfl, ⟨by decide +kernel, by decide +kernel, by decide +kernel⟩, by decide⟩, zin (i := 846) (by decide +kernel) rfl, zin (i := 847) (by decide +kernel) rfl⟩
abbrev YX5_cell : zY := (RX5, cX5_cell, 5, (some (.int)), 3)
theorem mX5_cell : zMI yX5_cell YX5_cell 3 := ⟨⟨zin (i := 58) (by decide +kernel) rfl, zin (i := 812) (by decide +kernel) rfl, ⟨by decide +kernel, by decide +kernel, by decide +kernel⟩, by decide⟩, zin (i := 810) (by decide +kernel) rfl, zin (i := 811) (by decide +kernel) rfl⟩
abbrev YX5_chooses : zY := (RX5, cX5_chooses, 5, (some (.int)), 4)
theorem mX5_chooses : zMI yX5_chooses YX5_chooses 1 := ⟨⟨zin (i := 58) (by decide +kernel) rfl, zin (i := 729) (by decide +kernel) rfl, ⟨by decide +kernel, by decide +kernel, by decide +kernel⟩, by decide⟩, zin (i := 728) (by decide +kernel) rfl, zin (i := 34) (by decide +kernel) rfl⟩
abbrev YX5_clearText : zY := (RX5, cX5_clearText, 2, (some (.int)), 0)
theorem mX5_clearText : zMI yX5_clearText YX5_clearText 0 := ⟨⟨zin (i := 58) (by decide +kernel) rfl, zin (i := 752) (by decide +kernel) rfl, ⟨by decide +kernel, by decide +kernel, by decide +kernel⟩, by decide⟩, zin (i := 750) (by decide +kernel) rfl, zin (i := 751) (by decide +kernel) rfl⟩
abbrev YX5_comes : zY := (RX5, cX5_comes, 5, (some (.int)), 1)
theorem mX5_comes : zMI yX5_comes YX5_comes 2 := ⟨⟨zin (i := 58) (by decide +kernel) rfl, zin (i := 671) (by decide +kernel) rfl, ⟨by decide +kernel, by decide +kernel, by decide +kernel⟩, by decide⟩, zin (i := 670) (by decide +kernel) rfl, zin (i := 26) (by decide +kernel) rfl⟩
abbrev YX5_cost : zY := (RX5, cX5_cost, 3, (some (.int)), 4)
theorem mX5_cost : zMI yX5_cost YX5_cost 2 := ⟨⟨zin (i := 58) (by decide +kernel) rfl, zin (i := 816) (by decide +kernel) rfl, ⟨by decide +kernel, by decide +kernel, by decide +kernel⟩, by decide⟩, zin (i := 814) (by decide +kernel) rfl, zin (i := 815) (by decide +kernel) rfl⟩
abbrev YX5_count : zY := (RX5, cX5_count, 2, (some (.int)), 2)
theorem mX5_count : zMI yX5_count YX5_count 1 := ⟨⟨zin (i := 58) (by decide +kernel) rfl, zin (i := 852) (by decide +kernel) rfl, ⟨by decide +kernel, by decide +kernel, by decide +kernel⟩, by decide⟩, zin (i := 850) (by decide +kernel) rfl, zin (i := 851) (by decide +kernel) rfl⟩
abbrev YX5_creep : zY := (RX5, cX5_creep, 8, none, 4)
theorem mX5_creep : zMI yX5_creep YX5_creep 2 := ⟨⟨zin (i := 58) (by decide +kernel) rfl, zin (i := 744) (by decide +kernel) rfl, ⟨by decide +kernel, by decide +kernel, by decide +kernel⟩, by decide⟩, zin (i := 743) (by decide +kernel) rfl, zin (i := 37) (by decide +kernel) rfl⟩
abbrev YX5_creeps : zY := (RX5, cX5_creeps, 2, (some (.boolean)), 1)
theorem mX5_creeps : zMI yX5_creeps YX5_creeps 1 := ⟨⟨zin (i := 58) (by decide +kernel) rfl, zin (i := 660) (by decide +kernel) rfl, ⟨by decide +kernel, by decide +kernel, by decide +kernel⟩, by decide⟩, zin (i := 659) (by decide +kernel) rfl, zin (i := 24) (by decide +kernel) rfl⟩
abbrev YX5_does : zY := (RX5, cX5_does, 2, (some (.int)), 5)
theorem mX5_does : zMI yX5_does YX5_does 1 := ⟨⟨zin (i := 58) (by decide +kernel) rfl, zin (i := 820) (by decide +kernel) rfl, ⟨by decide +kernel, by decide +kernel, by decide +kernel⟩, by decide⟩, zin (i := 818) (by decide +kernel) rfl, zin (i := 819) (by decide +kernel) rfl⟩
abbrev YX5_doesThing : zY := (RX5, cX5_doesThing, 3, (some (.int)), 7)
theorem mX5_doesThing : zMI yX5_doesThing YX5_doesThing 0 := ⟨⟨zin (i := 58) (by decide +kernel) rfl, zin (i := 784) (by decide +kernel) rfl, ⟨by decide +kernel, by decide +kernel, by decide +kernel⟩, by decide⟩, zin (i := 783) (by decide +kernel) rfl, zin (i := 44) (by decide +kernel) rfl⟩
abbrev YX5_dries : zY := (RX5, cX5_dries, 2, none, 0)
theorem mX5_dries : zMI yX5_dries YX5_dries 0 := ⟨⟨zin (i := 58) (by decide +kernel) rfl, zin (i := 708) (by decide +kernel) rfl, ⟨by decide +kernel, by decide +kernel, by decide +kernel⟩, by decide⟩, zin (i := 707) (by decide +kernel) rfl, zin (i := 30) (by decide +kernel) rfl⟩
abbrev YX5_ends : zY := (RX5, cX5_ends, 3, (some (.int)), 6)
theorem mX5_ends : zMI yX5_ends YX5_ends 1 := ⟨⟨zin (i := 58) (by decide +kernel) rfl, zin (i := 832) (by decide +kernel) rfl, ⟨by decide +kernel, by decide +kernel, by decide +kernel⟩, by decide⟩, zin (i := 831) (by decide +kernel) rfl, zin (i := 46) (by decide +kernel) rfl⟩
abbrev YX5_endsIn : zY := (RX5, cX5_endsIn, 3, (some (.int)), 7)
theorem mX5_endsIn : zMI yX5_endsIn YX5_endsIn 1 := ⟨⟨zin (i := 58) (by decide +kernel) rfl, zin (i := 828) (by decide +kernel) rfl, ⟨by decide +kernel, by decide +kernel, by decide +kernel⟩, by decide⟩, zin (i := 826) (by decide +kernel) rfl, zin (i := 827) (by decide +kernel) rfl⟩
abbrev YX5_freezes : zY := (RX5, cX5_freezes, 6, (some (.int)), 1)
theorem mX5_freezes : zMI yX5_freezes YX5_freezes 3 := ⟨⟨zin (i := 58) (by decide +kernel) rfl, zin (i := 697) (by decide +kernel) rfl, ⟨by decide +kernel, by decide +kernel, by decide +kernel⟩, by decide⟩, zin (i := 696) (by decide +kernel) rfl, zin (i := 29) (by decide +kernel) rfl⟩
abbrev YX5_frost : zY := (RX5, cX5_frost, 3, (some (.int)), 0)
theorem mX5_frost : zMI yX5_frost YX5_frost 0 := ⟨⟨zin (i := 58) (by decide +kernel) rfl, zin (i := 864) (by decide +kernel) rfl, ⟨by decide +kernel, by decide +kernel, by decide +kernel⟩, by decide⟩, zin (i := 863) (by decide +kernel) rfl, zin (i := 49) (by decide +kernel) rfl⟩
abbrev YX5_in : zY := (RX5, cX5_in, 3, (some (.boolean)), 0)
theorem mX5_in : zMS yX5_in YX5_in 3 := ⟨⟨zin (i := 58) (by decide +kernel) rfl, zin (i := 652) (by decide +kernel) rfl, ⟨by decide +kernel, by decide +kernel, by decide +kernel⟩, by decide⟩, zin (i := 651) (by decide +kernel) rfl⟩
abbrev YX5_inState : zY := (RX5, cX5_inState, 4, (some (.int)), 1)
theorem mX5_inState : zMI yX5_inState YX5_inState 1 := ⟨⟨zin (i := 58) (by decide +kernel) rfl, zin (i := 856) (by decide +kernel) rfl, ⟨by decide +kernel, by decide +kernel, by decide +kernel⟩, by decide⟩, zin (i := 855) (by decide +kernel) rfl, zin (i := 47) (by decide +kernel) rfl⟩
abbrev YX5_isCell : zY := (RX5, cX5_isCell, 2, (some (.boolean)), 2)
theorem mX5_isCell : zMS yX5_isCell YX5_isCell 2 := ⟨⟨zin (i := 58) (by decide +kernel) rfl, zin (i := 690) (by decide +kernel) rfl, ⟨by decide +kernel, by decide +kernel, by decide +kernel⟩, by decide⟩, zin (i := 689) (by decide +kernel) rfl⟩
abbrev YX5_isLane : zY := (RX5, cX5_isLane, 1, (some (.boolean)), 1)
theorem mX5_isLane : zMS yX5_isLane YX5_isLane 1 := ⟨⟨zin (i := 58) (by decide +kernel) rfl, zin (i := 649) (by decide +kernel) rfl, ⟨by decide +kernel, by decide +kernel, by decide +kernel⟩, by decide⟩, zin (i := 648) (by decide +kernel) rfl⟩
abbrev YX5_isSnail : zY := (RX5, cX5_isSnail, 2, (some (.boolean)), 1)
theorem mX5_isSnail : zMI yX5_isSnail YX5_isSnail 1 := ⟨⟨zin (i := 58) (by decide +kernel) rfl, zin (i := 679) (by decide +kernel) rfl, ⟨by decide +kernel, by decide +kernel, by decide +kernel⟩, by decide⟩, zin (i := 678) (by decide +kernel) rfl, zin (i := 27) (by decide +kernel) rfl⟩
abbrev YX5_keep : zY := (RX5, cX5_keep, 2, (some (.int)), 0)
theorem mX5_keep : zMI yX5_keep YX5_keep 0 := ⟨⟨zin (i := 58) (by decide +kernel) rfl, zin (i := 800) (by decide +kernel) rfl, ⟨by decide +kernel, by decide +kernel, by decide +kernel⟩, by decide⟩, zin (i := 798) (by decide +kernel) rfl, zin (i := 799) (by decide +kernel) rfl⟩
abbrev YX5_laneOf : zY := (RX5, cX5_laneOf, 2, (some (.int)), 0)
theorem mX5_laneOf : zMS yX5_laneOf YX5_laneOf 2 := ⟨⟨zin (i := 58) (by decide +kernel) rfl, zin (i := 736) (by decide +kernel) rfl, ⟨by decide +kernel, by decide +kernel, by decide +kernel⟩, by decide⟩, zin (i := 735) (by decide +kernel) rfl⟩
abbrev YX5_leader : zY := (RX5, cX5_leader, 5, (some (.int)), 2)
theorem mX5_leader : zMI yX5_leader YX5_leader 0 := ⟨⟨zin (i := 58) (by decide +kernel) rfl, zin (i := 840) (by decide +kernel) rfl, ⟨by decide +kernel, by decide +kernel, by decide +kernel⟩, by decide⟩, zin (i := 838) (by decide +kernel) rfl, zin (i := 839) (by decide +kernel) rfl⟩
abbrev YX5_most : zY := (RX5, cX5_most, 1, (some (.int)), 0)
theorem mX5_most : zMS yX5_most YX5_most 1 := ⟨⟨zin (i := 58) (by decide +kernel) rfl, zin (i := 704) (by decide +kernel) rfl, ⟨by decide +kernel, by decide +kernel, by decide +kernel⟩, by decide⟩, zin (i := 703) (by decide +kernel) rfl⟩
abbrev YX5_next : zY := (RX5, cX5_next, 1, (some (.int)), 0)
theorem mX5_next : zMI yX5_next YX5_next 0 := ⟨⟨zin (i := 58) (by decide +kernel) rfl, zin (i := 768) (by decide +kernel) rfl, ⟨by decide +kernel, by decide +kernel, by decide +kernel⟩, by decide⟩, zin (i := 767) (by decide +kernel) rfl, zin (i := 40) (by decide +kernel) rfl⟩
abbrev YX5_number : zY := (RX5, cX5_number, 5, (some (.int)), 1)
theorem mX5_number : zMI yX5_number YX5_number 2 := ⟨⟨zin (i := 58) (by decide +kernel) rfl, zin (i := 772) (by decide +kernel) rfl, ⟨by decide +kernel, by decide +kernel, by decide +kernel⟩, by decide⟩, zin (i := 771) (by decide +kernel) rfl, zin (i := 41) (by decide +kernel) rfl⟩
abbrev YX5_of : zY := (RX5, cX5_of, 2, (some (.int)), 0)
theorem mX5_of : zMS yX5_of YX5_of 2 := ⟨⟨zin (i := 58) (by decide +kernel) rfl, zin (i := 663) (by decide +kernel) rfl, ⟨by decide +kernel, by decide +kernel, by decide +kernel⟩, by decide⟩, zin (i := 662) (by decide +kernel) rfl⟩
abbrev YX5_ofAll : zY := (RX5, cX5_ofAll, 4, (some (.int)), 1)
theorem mX5_ofAll : zMI yX5_ofAll YX5_ofAll 1 := ⟨⟨zin (i := 58) (by decide +kernel) rfl, zin (i := 868) (by decide +kernel) rfl, ⟨by decide +kernel, by decide +kernel, by decide +kernel⟩, by decide⟩, zin (i := 867) (by decide +kernel) rfl, zin (i := 50) (by decide +kernel) rfl⟩
abbrev YX5_owes : zY := (RX5, cX5_owes, 3, (some (.int)), 2)
theorem mX5_owes : zMI yX5_owes YX5_owes 2 := ⟨⟨zin (i := 58) (by decide +kernel) rfl, zin (i := 844) (by decide +kernel) rfl, ⟨by decide +kernel, by decide +kernel, by decide +kernel⟩, by decide⟩, zin (i := 842) (by decide +kernel) rfl, zin (i := 843) (by decide +kernel) rfl⟩
abbrev YX5_pass : zY := (RX5, cX5_pass, 3, (some (.int)), 7)
theorem mX5_pass : zMI yX5_pass YX5_pass 1 := ⟨⟨zin (i := 58) (by decide +kernel) rfl, zin (i := 712) (by decide +kernel) rfl, ⟨by decide +kernel, by decide +kernel, by decide +kernel⟩, by decide⟩, zin (i := 710) (by decide +kernel) rfl, zin (i := 711) (by decide +kernel) rfl⟩
abbrev YX5_passes : zY := (RX5, cX5_passes, 4, (some (.int)), 6)
theorem mX5_passes : zMI yX5_passes YX5_passes 1 := ⟨⟨zin (i := 58) (by decide +kernel) rfl, zin (i := 721) (by decide +kernel) rfl, ⟨by decide +kernel, by decide +kernel, by decide +kernel⟩, by decide⟩, zin (i := 720) (by decide +kernel) rfl, zin (i := 32) (by decide +kernel) rfl⟩
abbrev YX5_perform : zY := (RX5, cX5_perform, 6, (some (.int)), 8)
theorem mX5_perform : zMI yX5_perform YX5_perform 0 := ⟨⟨zin (i := 58) (by decide +kernel) rfl, zin (i := 756) (by decide +kernel) rfl, ⟨by decide +kernel, by decide +kernel, by decide +kernel⟩, by decide⟩, zin (i := 754) (by decide +kernel) rfl, zin (i := 755) (by decide +kernel) rfl⟩
abbrev YX5_price : zY := (RX5, cX5_price, 6, (some (.int)), 3)
theorem mX5_price : zMI yX5_price YX5_price 2 := ⟨⟨zin (i := 58) (by decide +kernel) rfl, zin (i := 733) (by decide +kernel) rfl, ⟨by decide +kernel, by decide +kernel, by decide +kernel⟩, by decide⟩, zin (i := 732) (by decide +kernel) rfl, zin (i := 35) (by decide +kernel) rfl⟩
abbrev YX5_putAside : zY := (RX5, cX5_putAside, 2, none, 0)
theorem mX5_putAside : zMI yX5_putAside YX5_putAside 0 := ⟨⟨zin (i := 58) (by decide +kernel) rfl, zin (i := 780) (by decide +kernel) rfl, ⟨by decide +kernel, by decide +kernel, by decide +kernel⟩, by decide⟩, zin (i := 779) (by decide +kernel) rfl, zin (i := 43) (by decide +kernel) rfl⟩
abbrev YX5_putBack : zY := (RX5, cX5_putBack, 2, none, 0)
theorem mX5_putBack : zMI yX5_putBack YX5_putBack 0 := ⟨⟨zin (i := 58) (by decide +kernel) rfl, zin (i := 788) (by decide +kernel) rfl, ⟨by decide +kernel, by decide +kernel, by decide +kernel⟩, by decide⟩, zin (i := 787) (by decide +kernel) rfl, zin (i := 45) (by decide +kernel) rfl⟩
abbrev YX5_reason : zY := (RX5, cX5_reason, 4, (some (.int)), 3)
theorem mX5_reason : zMI yX5_reason YX5_reason 3 := ⟨⟨zin (i := 58) (by decide +kernel) rfl, zin (i := 824) (by decide +kernel) rfl, ⟨by decide +kernel, by decide +kernel, by decide +kernel⟩, by decide⟩, zin (i := 822) (by decide +kernel) rfl, zin (i := 823) (by decide +kernel) rfl⟩
abbrev YX5_records : zY := (RX5, cX5_records, 2, none, 0)
theorem mX5_records : zMI yX5_records YX5_records 0 := ⟨⟨zin (i := 58) (by decide +kernel) rfl, zin (i := 667) (by decide +kernel) rfl, ⟨by decide +kernel, by decide +kernel, by decide +kernel⟩, by decide⟩, zin (i := 666) (by decide +kernel) rfl, zin (i := 25) (by decide +kernel) rfl⟩
abbrev YX5_restore : zY := (RX5, cX5_restore, 2, (some (.int)), 1)
theorem mX5_restore : zMI yX5_restore YX5_restore 0 := ⟨⟨zin (i := 58) (by decide +kernel) rfl, zin (i := 804) (by decide +kernel) rfl, ⟨by decide +kernel, by decide +kernel, by decide +kernel⟩, by decide⟩, zin (i := 802) (by decide +kernel) rfl, zin (i := 803) (by decide +kernel) rfl⟩
abbrev YX5_set : zY := (RX5, cX5_set, 4, (some (.int)), 1)
theorem mX5_set : zMI yX5_set YX5_set 2 := ⟨⟨zin (i := 58) (by decide +kernel) rfl, zin (i := 701) (by decide +kernel) rfl, ⟨by decide +kernel, by decide +kernel, by decide +kernel⟩, by decide⟩, zin (i := 699) (by decide +kernel) rfl, zin (i := 700) (by decide +kernel) rfl⟩
abbrev YX5_setFrost : zY := (RX5, cX5_setFrost, 5, (some (.int)), 4)
theorem mX5_setFrost : zMI yX5_setFrost YX5_setFrost 3 := ⟨⟨zin (i := 58) (by decide +kernel) rfl, zin (i := 683) (by decide +kernel) rfl, ⟨by decide +kernel, by decide +kernel, by decide +kernel⟩, by decide⟩, zin (i := 681) (by decide +kernel) rfl, zin (i := 682) (by decide +kernel) rfl⟩
abbrev YX5_setSnail : zY := (RX5, cX5_setSnail, 4, (some (.int)), 4)
theorem mX5_setSnail : zMI yX5_setSnail YX5_setSnail 2 := ⟨⟨zin (i := 58) (by decide +kernel) rfl, zin (i := 642) (by decide +kernel) rfl, ⟨by decide +kernel, by decide +kernel, by decide +kernel⟩, by decide⟩, zin (i := 640) (by decide +kernel) rfl, zin (i := 641) (by decide +kernel) rfl⟩
abbrev YX5_sign : zY := (RX5, cX5_sign, 2, none, 1)
theorem mX5_sign : zMI yX5_sign YX5_sign 1 := ⟨⟨zin (i := 58) (by decide +kernel) rfl, zin (i := 776) (by decide +kernel) rfl, ⟨by decide +kernel, by decide +kernel, by decide +kernel⟩, by decide⟩, zin (i := 775) (by decide +kernel) rfl, zin (i := 42) (by decide +kernel) rfl⟩
abbrev YX5_snail : zY := (RX5, cX5_snail, 4, (some (.int)), 2)
theorem mX5_snail : zMI yX5_snail YX5_snail 2 := ⟨⟨zin (i := 58) (by decide +kernel) rfl, zin (i := 808) (by decide +kernel) rfl, ⟨by decide +kernel, by decide +kernel, by decide +kernel⟩, by decide⟩, zin (i := 806) (by decide +kernel) rfl, zin (i := 807) (by decide +kernel) rfl⟩
abbrev YX5_snailOn : zY := (RX5, cX5_snailOn, 4, (some (.int)), 2)
theorem mX5_snailOn : zMI yX5_snailOn YX5_snailOn 2 := ⟨⟨zin (i := 58) (by decide +kernel) rfl, zin (i := 656) (by decide +kernel) rfl, ⟨by decide +kernel, by decide +kernel, by decide +kernel⟩, by decide⟩, zin (i := 655) (by decide +kernel) rfl, zin (i := 23) (by decide +kernel) rfl⟩
abbrev YX5_stopped : zY := (RX5, cX5_stopped, 2, (some (.int)), 1)
theorem mX5_stopped : zMI yX5_stopped YX5_stopped 1 := ⟨⟨zin (i := 58) (by decide +kernel) rfl, zin (i := 792) (by decide +kernel) rfl, ⟨by decide +kernel, by decide +kernel, by decide +kernel⟩, by decide⟩, zin (i := 790) (by decide +kernel) rfl, zin (i := 791) (by decide +kernel) rfl⟩
abbrev YX5_takeOff : zY := (RX5, cX5_takeOff, 2, (some (.int)), 2)
theorem mX5_takeOff : zMI yX5_takeOff YX5_takeOff 1 := ⟨⟨zin (i := 58) (by decide +kernel) rfl, zin (i := 675) (by decide +kernel) rfl, ⟨by decide +kernel, by decide +kernel, by decide +kernel⟩, by decide⟩, zin (i := 673) (by decide +kernel) rfl, zin (i := 674) (by decide +kernel) rfl⟩
abbrev YX5_thing : zY := (RX5, cX5_thing, 1, none, 2)
theorem mX5_thing : zMI yX5_thing YX5_thing 0 := ⟨⟨zin (i := 58) (by decide +kernel) rfl, zin (i := 764) (by decide +kernel) rfl, ⟨by decide +kernel, by decide +kernel, by decide +kernel⟩, by decide⟩, zin (i := 763) (by decide +kernel) rfl, zin (i := 39) (by decide +kernel) rfl⟩
abbrev YX5_things : zY := (RX5, cX5_things, 3, (some (.int)), 3)
theorem mX5_things : zMI yX5_things YX5_things 0 := ⟨⟨zin (i := 58) (by decide +kernel) rfl, zin (i := 760) (by decide +kernel) rfl, ⟨by decide +kernel, by decide +kernel, by decide +kernel⟩, by decide⟩, zin (i := 759) (by decide +kernel) rfl, zin (i := 38) (by decide +kernel) rfl⟩
abbrev YX5_trails : zY := (RX5, cX5_trails, 3, (some (.int)), 0)
theorem mX5_trails : zMI yX5_trails YX5_trails 0 := ⟨⟨zin (i := 58) (by decide +kernel) rfl, zin (i := 860) (by decide +kernel) rfl, ⟨by decide +kernel, by decide +kernel, by decide +kernel⟩, by decide⟩, zin (i := 859) (by decide +kernel) rfl, zin (i := 48) (by decide +kernel) rfl⟩
abbrev YX5_turn : zY := (RX5, cX5_turn, 4, none, 5)
theorem mX5_turn : zMI yX5_turn YX5_turn 0 := ⟨⟨zin (i := 58) (by decide +kernel) rfl, zin (i := 725) (by decide +kernel) rfl, ⟨by decide +kernel, by decide +kernel, by decide +kernel⟩, by decide⟩, zin (i := 724) (by decide +kernel) rfl, zin (i := 33) (by decide +kernel) rfl⟩
abbrev YX5_type : zY := (RX5, cX5_type, 2, (some (.int)), 0)
theorem mX5_type : zMI yX5_type YX5_type 1 := ⟨⟨zin (i := 58) (by decide +kernel) rfl, zin (i := 748) (by decide +kernel) rfl, ⟨by decide +kernel, by decide +kernel, by decide +kernel⟩, by decide⟩, zin (i := 746) (by decide +kernel) rfl, zin (i := 747) (by decide +kernel) rfl⟩
abbrev YX5_undo : zY := (RX5, cX5_undo, 2, (some (.int)), 0)
theorem mX5_undo : zMI yX5_undo YX5_undo 0 := ⟨⟨zin (i := 58) (by decide +kernel) rfl, zin (i := 796) (by decide +kernel) rfl, ⟨by decide +kernel, by decide +kernel, by decide +kernel⟩, by decide⟩, zin (i := 794) (by decide +kernel) rfl, zin (i := 795) (by decide +kernel) rfl⟩
abbrev YX5_wayUp : zY := (RX5, cX5_wayUp, 10, (some (.int)), 3)
theorem mX5_wayUp : zMI yX5_wayUp YX5_wayUp 3 := ⟨⟨zin (i := 58) (by decide +kernel) rfl, zin (i := 836) (by decide +kernel) rfl, ⟨by decide +kernel, by decide +kernel, by decide +kernel⟩, by decide⟩, zin (i := 834) (by decide +kernel) rfl, zin (i := 835) (by decide +kernel) rfl⟩
abbrev YX5_why : zY := (RX5, cX5_why, 4, (some (.int)), 1)
theorem mX5_why : zMI yX5_why YX5_why 2 := ⟨⟨zin (i := 58) (by decide +kernel) rfl, zin (i := 740) (by decide +kernel) rfl, ⟨by decide +kernel, by decide +kernel, by decide +kernel⟩, by decide⟩, zin (i := 739) (by decide +kernel) rfl, zin (i := 36) (by decide +kernel) rfl⟩
abbrev Yfill : zY := ("java/util/Arrays", cfill, 4, none, 0)
theorem mfill : zMS yfill Yfill 2 := ⟨⟨zin (i := 54) (by decide +kernel) rfl, zin (i := 88) (by decide +kernel) rfl, ⟨by decide +kernel, by decide +kernel, by decide +kernel⟩, by decide⟩, zin (i := 87) (by decide +kernel) rfl⟩
theorem kX4_54 : Cond.methodLink RX4 54 yX1_copyFrom ∈ zT := zin (i := 246) (by decide +kernel) rfl
theorem kX4_58 : Cond.methodLink RX4 58 yX1_placeSnail ∈ zT := zin (i := 259) (by decide +kernel) rfl
theorem kX4_62 : Cond.methodLink RX4 62 yX4_recorded ∈ zT := zin (i := 271) (by decide +kernel) rfl
theorem kX4_66 : Cond.methodLink RX4 66 yX1_removeSnail ∈ zT := zin (i := 289) (by decide +kernel) rfl
theorem kX4_69 : Cond.methodLink RX4 69 yX1_changeFrost ∈ zT := zin (i := 305) (by decide +kernel) rfl
theorem kX4_73 : Cond.methodLink RX4 73 yX1_changeSetting ∈ zT := zin (i := 320) (by decide +kernel) rfl
theorem kX4_76 : Cond.methodLink RX4 76 yX1_letPass ∈ zT := zin (i := 336) (by decide +kernel) rfl
theorem kX4_79 : Cond.methodLink RX4 79 yX0_remember ∈ zT := zin (i := 275) (by decide +kernel) rfl
theorem kX4_82 : Cond.methodLink RX4 82 yX2_append ∈ zT := zin (i := 388) (by decide +kernel) rfl
theorem kX4_86 : Cond.methodLink RX4 86 yX2_empty ∈ zT := zin (i := 396) (by decide +kernel) rfl
theorem kX4_90 : Cond.methodLink RX4 90 yX2_read ∈ zT := zin (i := 404) (by decide +kernel) rfl
theorem kX4_96 : Cond.methodLink RX4 96 yX4_doThing ∈ zT := zin (i := 428) (by decide +kernel) rfl
theorem kX4_112 : Cond.methodLink RX4 112 yX0_giveBack ∈ zT := zin (i := 440) (by decide +kernel) rfl
theorem kX4_119 : Cond.methodLink RX4 119 yX1_tellSnail ∈ zT := zin (i := 456) (by decide +kernel) rfl
theorem kX4_122 : Cond.methodLink RX4 122 yX1_tellCell ∈ zT := zin (i := 464) (by decide +kernel) rfl
theorem kX4_125 : Cond.methodLink RX4 125 yX1_knows ∈ zT := zin (i := 472) (by decide +kernel) rfl
theorem kX4_132 : Cond.methodLink RX4 132 yX1_creeps ∈ zT := zin (i := 474) (by decide +kernel) rfl
theorem kX4_135 : Cond.methodLink RX4 135 yX1_stepCost ∈ zT := zin (i := 475) (by decide +kernel) rfl
theorem kX4_138 : Cond.methodLink RX4 138 yX1_choice ∈ zT := zin (i := 480) (by decide +kernel) rfl
theorem kX4_141 : Cond.methodLink RX4 141 yX4_cellAt ∈ zT := zin (i := 485) (by decide +kernel) rfl
theorem kX4_144 : Cond.methodLink RX4 144 yX1_whyNoHelp ∈ zT := zin (i := 486) (by decide +kernel) rfl
theorem kX4_147 : Cond.methodLink RX4 147 yX1_hasEnded ∈ zT := zin (i := 491) (by decide +kernel) rfl
theorem kX4_150 : Cond.methodLink RX4 150 yX1_passUntilEnd ∈ zT := zin (i := 495) (by decide +kernel) rfl
theorem kX4_153 : Cond.methodLink RX4 153 yX3_fromRimDown ∈ zT := zin (i := 504) (by decide +kernel) rfl
theorem kX4_157 : Cond.methodLink RX4 157 yX3_leastSumFirst ∈ zT := zin (i := 517) (by decide +kernel) rfl
theorem kX4_160 : Cond.methodLink RX4 160 yX1_findLeader ∈ zT := zin (i := 534) (by decide +kernel) rfl
theorem kX4_163 : Cond.methodLink RX4 163 yX1_tellOwed ∈ zT := zin (i := 546) (by decide +kernel) rfl
theorem kX4_166 : Cond.methodLink RX4 166 yX4_turnsFrom ∈ zT := zin (i := 554) (by decide +kernel) rfl
theorem kX4_169 : Cond.methodLink RX4 169 yX1_snailOn ∈ zT := zin (i := 558) (by decide +kernel) rfl
theorem kX4_172 : Cond.methodLink RX4 172 yX1_addSnail ∈ zT := zin (i := 559) (by decide +kernel) rfl
theorem kX4_181 : Cond.methodLink RX4 181 yX1_tellCount ∈ zT := zin (i := 564) (by decide +kernel) rfl
theorem kX4_184 : Cond.methodLink RX4 184 Lib.Math.min.name ∈ zT := zin (i := 253) (by decide +kernel) rfl
theorem kX4_189 : Cond.methodLink RX4 189 arraycopyName ∈ zT := zin (i := 256) (by decide +kernel) rfl
theorem kX0_25 : Cond.methodLink RX0 25 yX0_stateAt ∈ zT := zin (i := 279) (by decide +kernel) rfl
theorem kX0_29 : Cond.methodLink RX0 29 yX1_copyFrom ∈ zT := zin (i := 283) (by decide +kernel) rfl
theorem kX0_33 : Cond.methodLink RX0 33 Lib.Math.min.name ∈ zT := zin (i := 284) (by decide +kernel) rfl
theorem kX1_74 : Cond.methodLink RX1 74 yfill ∈ zT := zin (i := 86) (by decide +kernel) rfl
theorem kX1_80 : Cond.methodLinkNest RX1 80 yX4_copy "SnailTrails" ∈ zTN := zinN (i := 250) (by decide +kernel) rfl
theorem kX1_84 : Cond.methodLink RX1 84 yX1_snailOn ∈ zT := zin (i := 263) (by decide +kernel) rfl
theorem kX1_88 : Cond.methodLink RX1 88 yX1_addSnail ∈ zT := zin (i := 267) (by decide +kernel) rfl
theorem kX1_91 : Cond.methodLink RX1 91 yX1_knows ∈ zT := zin (i := 293) (by decide +kernel) rfl
theorem kX1_95 : Cond.methodLink RX1 95 yX1_creeps ∈ zT := zin (i := 297) (by decide +kernel) rfl
theorem kX1_98 : Cond.methodLinkNest RX1 98 yX4_cellAt "SnailTrails" ∈ zTN := zinN (i := 309) (by decide +kernel) rfl
theorem kX1_101 : Cond.methodLink RX1 101 yX1_clearTrail ∈ zT := zin (i := 312) (by decide +kernel) rfl
theorem kX1_111 : Cond.methodLink RX1 111 yX1_dryTrails ∈ zT := zin (i := 328) (by decide +kernel) rfl
theorem kX1_115 : Cond.methodLink RX1 115 yX1_howManyAre ∈ zT := zin (i := 341) (by decide +kernel) rfl
theorem kX1_119 : Cond.methodLink RX1 119 yX1_passTurn ∈ zT := zin (i := 345) (by decide +kernel) rfl
theorem kX1_122 : Cond.methodLink RX1 122 yX1_hasEnded ∈ zT := zin (i := 499) (by decide +kernel) rfl
theorem kX1_125 : Cond.methodLink RX1 125 yX1_choice ∈ zT := zin (i := 349) (by decide +kernel) rfl
theorem kX1_131 : Cond.methodLink RX1 131 yX1_takeStep ∈ zT := zin (i := 367) (by decide +kernel) rfl
theorem kX1_135 : Cond.methodLink RX1 135 yX1_rest ∈ zT := zin (i := 375) (by decide +kernel) rfl
theorem kX1_138 : Cond.methodLink RX1 138 yX1_growFrost ∈ zT := zin (i := 380) (by decide +kernel) rfl
theorem kX1_141 : Cond.methodLink RX1 141 yX1_stepCost ∈ zT := zin (i := 355) (by decide +kernel) rfl
theorem kX1_144 : Cond.methodLink RX1 144 yX1_whyNoHelp ∈ zT := zin (i := 359) (by decide +kernel) rfl
theorem kX1_147 : Cond.methodLink RX1 147 yX1_priceOf ∈ zT := zin (i := 363) (by decide +kernel) rfl
theorem kX1_150 : Cond.methodLink RX1 150 yX1_noteLender ∈ zT := zin (i := 371) (by decide +kernel) rfl
theorem kX1_153 : Cond.methodLink RX1 153 Lib.Math.min.name ∈ zT := zin (i := 379) (by decide +kernel) rfl
theorem kX1_158 : Cond.methodLink RX1 158 yX1_howManyTrails ∈ zT := zin (i := 568) (by decide +kernel) rfl
theorem kX1_162 : Cond.methodLinkNest RX1 162 yX4_sum "SnailTrails" ∈ zTN := zinN (i := 572) (by decide +kernel) rfl
theorem kX1_166 : Cond.methodLink RX1 166 yX1_isAhead ∈ zT := zin (i := 538) (by decide +kernel) rfl
theorem kX2_38 : Cond.methodLink RX2 38 yX2_readThing ∈ zT := zin (i := 408) (by decide +kernel) rfl
theorem kX2_42 : Cond.methodLink RX2 42 yX2_readSign ∈ zT := zin (i := 424) (by decide +kernel) rfl
theorem kX2_46 : Cond.methodLink RX2 46 yX2_signHere ∈ zT := zin (i := 412) (by decide +kernel) rfl
theorem kX2_50 : Cond.methodLink RX2 50 yX2_readNumber ∈ zT := zin (i := 416) (by decide +kernel) rfl
theorem kX2_54 : Cond.methodLink RX2 54 yX2_digitHere ∈ zT := zin (i := 420) (by decide +kernel) rfl
theorem kX3_18 : Cond.methodLinkNest RX3 18 yX4_cellAt "SnailTrails" ∈ zTN := zinN (i := 508) (by decide +kernel) rfl
theorem kX3_22 : Cond.methodLink RX3 22 yX3_leastAbove ∈ zT := zin (i := 509) (by decide +kernel) rfl
theorem kX3_30 : Cond.methodLink RX3 30 yX1_priceOf ∈ zT := zin (i := 515) (by decide +kernel) rfl
theorem kX3_36 : Cond.methodLink RX3 36 Lib.Math.min.name ∈ zT := zin (i := 516) (by decide +kernel) rfl
theorem kX3_41 : Cond.methodLink RX3 41 yfill ∈ zT := zin (i := 521) (by decide +kernel) rfl
theorem kX3_47 : Cond.methodLink RX3 47 yX3_nearest ∈ zT := zin (i := 522) (by decide +kernel) rfl
theorem kX3_51 : Cond.methodLink RX3 51 yX3_reachAbove ∈ zT := zin (i := 526) (by decide +kernel) rfl
theorem kX5_32 : Cond.methodLink RX5 32 yX5_in ∈ zT := zin (i := 650) (by decide +kernel) rfl
theorem kX5_36 : Cond.methodLink RX5 36 yX5_isLane ∈ zT := zin (i := 647) (by decide +kernel) rfl
theorem kX5_40 : Cond.methodLink RX5 40 yX5_of ∈ zT := zin (i := 661) (by decide +kernel) rfl
theorem kX5_48 : Cond.methodLink RX5 48 yX5_creeps ∈ zT := zin (i := 657) (by decide +kernel) rfl
theorem kX5_51 : Cond.methodLink RX5 51 yX5_snailOn ∈ zT := zin (i := 653) (by decide +kernel) rfl
theorem kX5_54 : Cond.methodLink RX5 54 yX5_barSnail ∈ zT := zin (i := 643) (by decide +kernel) rfl
theorem kX5_57 : Cond.methodLink RX5 57 yX5_records ∈ zT := zin (i := 664) (by decide +kernel) rfl
theorem kX5_60 : Cond.methodLink RX5 60 yX5_comes ∈ zT := zin (i := 668) (by decide +kernel) rfl
theorem kX5_63 : Cond.methodLink RX5 63 yX5_isSnail ∈ zT := zin (i := 676) (by decide +kernel) rfl
theorem kX5_66 : Cond.methodLink RX5 66 yX5_isCell ∈ zT := zin (i := 688) (by decide +kernel) rfl
theorem kX5_70 : Cond.methodLink RX5 70 yX5_at ∈ zT := zin (i := 691) (by decide +kernel) rfl
theorem kX5_73 : Cond.methodLink RX5 73 yX5_barFrost ∈ zT := zin (i := 684) (by decide +kernel) rfl
theorem kX5_77 : Cond.methodLink RX5 77 yX5_freezes ∈ zT := zin (i := 694) (by decide +kernel) rfl
theorem kX5_80 : Cond.methodLink RX5 80 yX5_most ∈ zT := zin (i := 702) (by decide +kernel) rfl
theorem kX5_84 : Cond.methodLink RX5 84 yX5_dries ∈ zT := zin (i := 705) (by decide +kernel) rfl
theorem kX5_87 : Cond.methodLink RX5 87 yX5_laneOf ∈ zT := zin (i := 734) (by decide +kernel) rfl
theorem kX5_90 : Cond.methodLink RX5 90 yX5_why ∈ zT := zin (i := 737) (by decide +kernel) rfl
theorem kX5_93 : Cond.methodLink RX5 93 yX5_price ∈ zT := zin (i := 730) (by decide +kernel) rfl
theorem kX5_96 : Cond.methodLink RX5 96 yX5_chooses ∈ zT := zin (i := 726) (by decide +kernel) rfl
theorem kX5_99 : Cond.methodLink RX5 99 yX5_creep ∈ zT := zin (i := 741) (by decide +kernel) rfl
theorem kX5_103 : Cond.methodLink RX5 103 yX5_turn ∈ zT := zin (i := 722) (by decide +kernel) rfl
theorem kX5_107 : Cond.methodLink RX5 107 yX5_barPass ∈ zT := zin (i := 713) (by decide +kernel) rfl
theorem kX5_110 : Cond.methodLink RX5 110 yX5_passes ∈ zT := zin (i := 718) (by decide +kernel) rfl
theorem kX5_123 : Cond.methodLink RX5 123 yX5_next ∈ zT := zin (i := 765) (by decide +kernel) rfl
theorem kX5_130 : Cond.methodLink RX5 130 yX5_number ∈ zT := zin (i := 769) (by decide +kernel) rfl
theorem kX5_136 : Cond.methodLink RX5 136 yX5_sign ∈ zT := zin (i := 773) (by decide +kernel) rfl
theorem kX5_146 : Cond.methodLink RX5 146 yX5_thing ∈ zT := zin (i := 761) (by decide +kernel) rfl
theorem kX5_149 : Cond.methodLink RX5 149 yX5_things ∈ zT := zin (i := 757) (by decide +kernel) rfl
theorem kX5_152 : Cond.methodLink RX5 152 yX5_putAside ∈ zT := zin (i := 777) (by decide +kernel) rfl
theorem kX5_155 : Cond.methodLink RX5 155 yX5_doesThing ∈ zT := zin (i := 781) (by decide +kernel) rfl
theorem kX5_158 : Cond.methodLink RX5 158 yX5_putBack ∈ zT := zin (i := 785) (by decide +kernel) rfl
theorem kX5_173 : Cond.methodLink RX5 173 yX5_ends ∈ zT := zin (i := 829) (by decide +kernel) rfl
theorem kX5_176 : Cond.methodLink RX5 176 yX5_inState ∈ zT := zin (i := 853) (by decide +kernel) rfl
theorem kX5_179 : Cond.methodLink RX5 179 yX5_trails ∈ zT := zin (i := 857) (by decide +kernel) rfl
theorem kX5_182 : Cond.methodLink RX5 182 yX5_frost ∈ zT := zin (i := 861) (by decide +kernel) rfl
theorem kX5_185 : Cond.methodLink RX5 185 yX5_ofAll ∈ zT := zin (i := 865) (by decide +kernel) rfl
theorem fX4_12 : zL RX4 12 4 0 := ⟨by decide, by decide, by decide, Or.inl (zin (i := 214) (by decide +kernel) rfl)⟩
theorem fX4_16 : zL RX4 16 4 1 := ⟨by decide, by decide, by decide, Or.inl (zin (i := 215) (by decide +kernel) rfl)⟩
theorem fX4_19 : zL RX4 19 4 2 := ⟨by decide, by decide, by decide, Or.inl (zin (i := 216) (by decide +kernel) rfl)⟩
theorem fX4_22 : zL RX4 22 4 3 := ⟨by decide, by decide, by decide, Or.inl (zin (i := 217) (by decide +kernel) rfl)⟩
theorem fX4_29 : zL RX4 29 4 4 := ⟨by decide, by decide, by decide, Or.inl (zin (i := 218) (by decide +kernel) rfl)⟩
theorem fX4_36 : zL RX4 36 4 5 := ⟨by decide, by decide, by decide, Or.inl (zin (i := 219) (by decide +kernel) rfl)⟩
theorem fX4_43 : zL RX4 43 4 6 := ⟨by decide, by decide, by decide, Or.inl (zin (i := 220) (by decide +kernel) rfl)⟩
theorem fX4_47 : zL RX4 47 4 7 := ⟨by decide, by decide, by decide, Or.inl (zin (i := 221) (by decide +kernel) rfl)⟩
theorem fX4_51 : zL RX4 51 4 8 := ⟨by decide, by decide, by decide, Or.inl (zin (i := 222) (by decide +kernel) rfl)⟩
theorem fX4_93 : zL RX4 93 2 3 := ⟨by decide, by decide, by decide, Or.inr ⟨"SnailTrails", zinN (i := 174) (by decide +kernel) rfl⟩⟩
theorem fX4_99 : zL RX4 99 2 4 := ⟨by decide, by decide, by decide, Or.inr ⟨"SnailTrails", zinN (i := 176) (by decide +kernel) rfl⟩⟩
theorem fX4_103 : zL RX4 103 2 5 := ⟨by decide, by decide, by decide, Or.inr ⟨"SnailTrails", zinN (i := 178) (by decide +kernel) rfl⟩⟩
theorem fX4_106 : zL RX4 106 2 7 := ⟨by decide, by decide, by decide, Or.inr ⟨"SnailTrails", zinN (i := 182) (by decide +kernel) rfl⟩⟩
theorem fX4_109 : zL RX4 109 2 6 := ⟨by decide, by decide, by decide, Or.inr ⟨"SnailTrails", zinN (i := 180) (by decide +kernel) rfl⟩⟩
theorem fX4_116 : zL RX4 116 1 16 := ⟨by decide, by decide, by decide, Or.inr ⟨"SnailTrails", zinN (i := 106) (by decide +kernel) rfl⟩⟩
theorem sX4_129 : Cond.fieldLink RX4 129 RX4 (zm_st 0).1 "[I" ∈ zT := zin (i := 473) (by decide +kernel) rfl
theorem fX4_175 : zL RX4 175 0 1 := ⟨by decide, by decide, by decide, Or.inr ⟨"SnailTrails", zinN (i := 154) (by decide +kernel) rfl⟩⟩
theorem fX4_178 : zL RX4 178 2 1 := ⟨by decide, by decide, by decide, Or.inr ⟨"SnailTrails", zinN (i := 171) (by decide +kernel) rfl⟩⟩
theorem fX0_11 : zL RX0 11 0 0 := ⟨by decide, by decide, by decide, Or.inl (zin (i := 152) (by decide +kernel) rfl)⟩
theorem fX0_17 : zL RX0 17 0 1 := ⟨by decide, by decide, by decide, Or.inl (zin (i := 153) (by decide +kernel) rfl)⟩
theorem fX0_21 : zL RX0 21 0 2 := ⟨by decide, by decide, by decide, Or.inl (zin (i := 155) (by decide +kernel) rfl)⟩
theorem fX1_9 : zL RX1 9 1 0 := ⟨by decide, by decide, by decide, Or.inl (zin (i := 89) (by decide +kernel) rfl)⟩
theorem fX1_15 : zL RX1 15 1 1 := ⟨by decide, by decide, by decide, Or.inl (zin (i := 90) (by decide +kernel) rfl)⟩
theorem fX1_18 : zL RX1 18 1 2 := ⟨by decide, by decide, by decide, Or.inl (zin (i := 91) (by decide +kernel) rfl)⟩
theorem fX1_21 : zL RX1 21 1 3 := ⟨by decide, by decide, by decide, Or.inl (zin (i := 92) (by decide +kernel) rfl)⟩
theorem fX1_24 : zL RX1 24 1 4 := ⟨by decide, by decide, by decide, Or.inl (zin (i := 93) (by decide +kernel) rfl)⟩
theorem fX1_27 : zL RX1 27 1 5 := ⟨by decide, by decide, by decide, Or.inl (zin (i := 94) (by decide +kernel) rfl)⟩
theorem fX1_30 : zL RX1 30 1 6 := ⟨by decide, by decide, by decide, Or.inl (zin (i := 95) (by decide +kernel) rfl)⟩
theorem fX1_33 : zL RX1 33 1 7 := ⟨by decide, by decide, by decide, Or.inl (zin (i := 96) (by decide +kernel) rfl)⟩
theorem fX1_36 : zL RX1 36 1 8 := ⟨by decide, by decide, by decide, Or.inl (zin (i := 97) (by decide +kernel) rfl)⟩
theorem fX1_39 : zL RX1 39 1 9 := ⟨by decide, by decide, by decide, Or.inl (zin (i := 98) (by decide +kernel) rfl)⟩
theorem fX1_42 : zL RX1 42 1 10 := ⟨by decide, by decide, by decide, Or.inl (zin (i := 99) (by decide +kernel) rfl)⟩
theorem fX1_45 : zL RX1 45 1 11 := ⟨by decide, by decide, by decide, Or.inl (zin (i := 100) (by decide +kernel) rfl)⟩
theorem fX1_48 : zL RX1 48 1 12 := ⟨by decide, by decide, by decide, Or.inl (zin (i := 101) (by decide +kernel) rfl)⟩
theorem fX1_53 : zL RX1 53 1 13 := ⟨by decide, by decide, by decide, Or.inl (zin (i := 102) (by decide +kernel) rfl)⟩
theorem fX1_64 : zL RX1 64 1 14 := ⟨by decide, by decide, by decide, Or.inl (zin (i := 103) (by decide +kernel) rfl)⟩
theorem fX1_67 : zL RX1 67 1 15 := ⟨by decide, by decide, by decide, Or.inl (zin (i := 104) (by decide +kernel) rfl)⟩
theorem fX1_71 : zL RX1 71 1 16 := ⟨by decide, by decide, by decide, Or.inl (zin (i := 105) (by decide +kernel) rfl)⟩
theorem sX1_105 : Cond.fieldLinkNest RX1 105 RX4 (zm_st 1).1 "[I" "SnailTrails" ∈ zTN := zinN (i := 324) (by decide +kernel) rfl
theorem sX1_108 : Cond.fieldLinkNest RX1 108 RX4 (zm_st 2).1 "[I" "SnailTrails" ∈ zTN := zinN (i := 326) (by decide +kernel) rfl
theorem sX1_128 : Cond.fieldLinkNest RX1 128 RX4 (zm_st 0).1 "[I" "SnailTrails" ∈ zTN := zinN (i := 353) (by decide +kernel) rfl
theorem fX2_9 : zL RX2 9 2 0 := ⟨by decide, by decide, by decide, Or.inl (zin (i := 169) (by decide +kernel) rfl)⟩
theorem fX2_15 : zL RX2 15 2 1 := ⟨by decide, by decide, by decide, Or.inl (zin (i := 170) (by decide +kernel) rfl)⟩
theorem fX2_19 : zL RX2 19 2 2 := ⟨by decide, by decide, by decide, Or.inl (zin (i := 172) (by decide +kernel) rfl)⟩
theorem fX2_22 : zL RX2 22 2 3 := ⟨by decide, by decide, by decide, Or.inl (zin (i := 173) (by decide +kernel) rfl)⟩
theorem fX2_25 : zL RX2 25 2 4 := ⟨by decide, by decide, by decide, Or.inl (zin (i := 175) (by decide +kernel) rfl)⟩
theorem fX2_29 : zL RX2 29 2 5 := ⟨by decide, by decide, by decide, Or.inl (zin (i := 177) (by decide +kernel) rfl)⟩
theorem fX2_32 : zL RX2 32 2 6 := ⟨by decide, by decide, by decide, Or.inl (zin (i := 179) (by decide +kernel) rfl)⟩
theorem fX2_35 : zL RX2 35 2 7 := ⟨by decide, by decide, by decide, Or.inl (zin (i := 181) (by decide +kernel) rfl)⟩
theorem fX3_9 : zL RX3 9 3 0 := ⟨by decide, by decide, by decide, Or.inl (zin (i := 207) (by decide +kernel) rfl)⟩
theorem fX3_15 : zL RX3 15 3 1 := ⟨by decide, by decide, by decide, Or.inl (zin (i := 208) (by decide +kernel) rfl)⟩
theorem sX3_27 : Cond.fieldLinkNest RX3 27 RX4 (zm_st 0).1 "[I" "SnailTrails" ∈ zTN := zinN (i := 514) (by decide +kernel) rfl
theorem fX5_7 : zL RX5 7 5 0 := ⟨by decide, by decide, by decide, Or.inl (zin (i := 581) (by decide +kernel) rfl)⟩
theorem fX5_13 : zL RX5 13 5 1 := ⟨by decide, by decide, by decide, Or.inl (zin (i := 582) (by decide +kernel) rfl)⟩
theorem fX5_16 : zL RX5 16 5 2 := ⟨by decide, by decide, by decide, Or.inl (zin (i := 583) (by decide +kernel) rfl)⟩
theorem fX5_19 : zL RX5 19 5 4 := ⟨by decide, by decide, by decide, Or.inl (zin (i := 585) (by decide +kernel) rfl)⟩
theorem fX5_22 : zL RX5 22 5 6 := ⟨by decide, by decide, by decide, Or.inl (zin (i := 587) (by decide +kernel) rfl)⟩
theorem fX5_26 : zL RX5 26 5 17 := ⟨by decide, by decide, by decide, Or.inl (zin (i := 598) (by decide +kernel) rfl)⟩
theorem fX5_29 : zL RX5 29 5 18 := ⟨by decide, by decide, by decide, Or.inl (zin (i := 599) (by decide +kernel) rfl)⟩
theorem fX5_44 : zL RX5 44 5 3 := ⟨by decide, by decide, by decide, Or.inl (zin (i := 584) (by decide +kernel) rfl)⟩
theorem fX5_113 : zL RX5 113 5 7 := ⟨by decide, by decide, by decide, Or.inl (zin (i := 588) (by decide +kernel) rfl)⟩
theorem fX5_116 : zL RX5 116 5 11 := ⟨by decide, by decide, by decide, Or.inl (zin (i := 592) (by decide +kernel) rfl)⟩
theorem fX5_119 : zL RX5 119 5 12 := ⟨by decide, by decide, by decide, Or.inl (zin (i := 593) (by decide +kernel) rfl)⟩
theorem fX5_127 : zL RX5 127 5 13 := ⟨by decide, by decide, by decide, Or.inl (zin (i := 594) (by decide +kernel) rfl)⟩
theorem fX5_133 : zL RX5 133 5 14 := ⟨by decide, by decide, by decide, Or.inl (zin (i := 595) (by decide +kernel) rfl)⟩
theorem fX5_140 : zL RX5 140 5 15 := ⟨by decide, by decide, by decide, Or.inl (zin (i := 596) (by decide +kernel) rfl)⟩
theorem fX5_143 : zL RX5 143 5 16 := ⟨by decide, by decide, by decide, Or.inl (zin (i := 597) (by decide +kernel) rfl)⟩
theorem fX5_161 : zL RX5 161 5 8 := ⟨by decide, by decide, by decide, Or.inl (zin (i := 589) (by decide +kernel) rfl)⟩
theorem fX5_164 : zL RX5 164 5 9 := ⟨by decide, by decide, by decide, Or.inl (zin (i := 590) (by decide +kernel) rfl)⟩
theorem fX5_167 : zL RX5 167 5 10 := ⟨by decide, by decide, by decide, Or.inl (zin (i := 591) (by decide +kernel) rfl)⟩
theorem fX5_170 : zL RX5 170 5 5 := ⟨by decide, by decide, by decide, Or.inl (zin (i := 586) (by decide +kernel) rfl)⟩
theorem qX1_114 : Cond.constant RX1 114 (Int32.ofInt 99999) ∈ zT := zin (i := 340) (by decide +kernel) rfl
theorem qX3_26 : Cond.constant RX3 26 (Int32.ofInt 1000000) ∈ zT := zin (i := 513) (by decide +kernel) rfl
theorem qX5_106 : Cond.constant RX5 106 (Int32.ofInt 99999) ∈ zT := zin (i := 717) (by decide +kernel) rfl
theorem pMinS : Cond.static Lib.Math.min.name ∈ zT := zin (i := 254) (by decide +kernel) rfl
theorem pMinC : Cond.code Lib.Math.min.name Lib.Math.min.code 2 (some .int) ∈ zT := zin (i := 255) (by decide +kernel) rfl
theorem pMinI : Cond.initialized "java/lang/Math" ∈ zT := zin (i := 59) (by decide +kernel) rfl
theorem pCpyN : Cond.native arraycopyName ∈ zT := zin (i := 258) (by decide +kernel) rfl
theorem pCpyS : Cond.static arraycopyName ∈ zT := zin (i := 257) (by decide +kernel) rfl
theorem pCpyI : Cond.initialized "java/lang/System" ∈ zT := zin (i := 60) (by decide +kernel) rfl
