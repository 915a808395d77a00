abbrev cfill : ByteArray := prog_11_method_103_code
def yfill : MethodName := ⟨"java/util/Arrays", "fill", "([II)V"⟩
theorem dfill_0 : decode cfill 0 = .ok (.iconst 0, 1) := by decide +kernel
theorem dfill_1 : decode cfill 1 = .ok (.istore_n 2, 1) := by decide +kernel
theorem dfill_2 : decode cfill 2 = .ok (.aload_n 0, 1) := by decide +kernel
theorem dfill_3 : decode cfill 3 = .ok (.arraylength, 1) := by decide +kernel
theorem dfill_4 : decode cfill 4 = .ok (.istore_n 3, 1) := by decide +kernel
theorem dfill_5 : decode cfill 5 = .ok (.iload_n 2, 1) := by decide +kernel
theorem dfill_6 : decode cfill 6 = .ok (.iload_n 3, 1) := by decide +kernel
theorem dfill_7 : decode cfill 7 = .ok (.if_icmp .ge 13, 3) := by decide +kernel
theorem dfill_10 : decode cfill 10 = .ok (.aload_n 0, 1) := by decide +kernel
theorem dfill_11 : decode cfill 11 = .ok (.iload_n 2, 1) := by decide +kernel
theorem dfill_12 : decode cfill 12 = .ok (.iload_n 1, 1) := by decide +kernel
theorem dfill_13 : decode cfill 13 = .ok (.iastore, 1) := by decide +kernel
theorem dfill_14 : decode cfill 14 = .ok (.iinc 2 1, 3) := by decide +kernel
theorem dfill_17 : decode cfill 17 = .ok (.goto (-12), 3) := by decide +kernel
theorem dfill_20 : decode cfill 20 = .ok (.return_, 1) := by decide +kernel
abbrev YX0_giveBack : zY := (RX0, cX0_giveBack, 4, (some (.int)), 3)
theorem mX0_giveBack : zMI yX0_giveBack YX0_giveBack 1 := ⟨⟨zin (i := 26) (by decide +kernel) rfl, zin (i := 369) (by decide +kernel) rfl, ⟨by decide +kernel, by decide +kernel, by decide +kernel⟩, by decide⟩, zin (i := 367) (by decide +kernel) rfl, zin (i := 368) (by decide +kernel) rfl⟩
abbrev YX0_remember : zY := (RX0, cX0_remember, 3, none, 3)
theorem mX0_remember : zMI yX0_remember YX0_remember 1 := ⟨⟨zin (i := 26) (by decide +kernel) rfl, zin (i := 307) (by decide +kernel) rfl, ⟨by decide +kernel, by decide +kernel, by decide +kernel⟩, by decide⟩, zin (i := 305) (by decide +kernel) rfl, zin (i := 306) (by decide +kernel) rfl⟩
abbrev YX0_stateAt : zY := (RX0, cX0_stateAt, 2, (some (.object "SnailTrails$Pane")), 0)
theorem mX0_stateAt : zMI yX0_stateAt YX0_stateAt 1 := ⟨⟨zin (i := 26) (by decide +kernel) rfl, zin (i := 311) (by decide +kernel) rfl, ⟨by decide +kernel, by decide +kernel, by decide +kernel⟩, by decide⟩, zin (i := 310) (by decide +kernel) rfl, zin (i := 9) (by decide +kernel) rfl⟩
abbrev YX1_addSnail : zY := (RX1, cX1_addSnail, 4, (some (.int)), 0)
theorem mX1_addSnail : zMI yX1_addSnail YX1_addSnail 2 := ⟨⟨zin (i := 24) (by decide +kernel) rfl, zin (i := 353) (by decide +kernel) rfl, ⟨by decide +kernel, by decide +kernel, by decide +kernel⟩, by decide⟩, zin (i := 351) (by decide +kernel) rfl, zin (i := 352) (by decide +kernel) rfl⟩
abbrev YX1_changeFrost : zY := (RX1, cX1_changeFrost, 6, (some (.int)), 1)
theorem mX1_changeFrost : zMI yX1_changeFrost YX1_changeFrost 3 := ⟨⟨zin (i := 24) (by decide +kernel) rfl, zin (i := 357) (by decide +kernel) rfl, ⟨by decide +kernel, by decide +kernel, by decide +kernel⟩, by decide⟩, zin (i := 355) (by decide +kernel) rfl, zin (i := 356) (by decide +kernel) rfl⟩
abbrev YX1_changeSetting : zY := (RX1, cX1_changeSetting, 4, (some (.int)), 2)
theorem mX1_changeSetting : zMI yX1_changeSetting YX1_changeSetting 2 := ⟨⟨zin (i := 24) (by decide +kernel) rfl, zin (i := 440) (by decide +kernel) rfl, ⟨by decide +kernel, by decide +kernel, by decide +kernel⟩, by decide⟩, zin (i := 438) (by decide +kernel) rfl, zin (i := 439) (by decide +kernel) rfl⟩
abbrev YX1_choice : zY := (RX1, cX1_choice, 6, (some (.int)), 2)
theorem mX1_choice : zMI yX1_choice YX1_choice 1 := ⟨⟨zin (i := 24) (by decide +kernel) rfl, zin (i := 253) (by decide +kernel) rfl, ⟨by decide +kernel, by decide +kernel, by decide +kernel⟩, by decide⟩, zin (i := 251) (by decide +kernel) rfl, zin (i := 252) (by decide +kernel) rfl⟩
abbrev YX1_clearTrail : zY := (RX1, cX1_clearTrail, 2, none, 0)
theorem mX1_clearTrail : zMI yX1_clearTrail YX1_clearTrail 1 := ⟨⟨zin (i := 24) (by decide +kernel) rfl, zin (i := 295) (by decide +kernel) rfl, ⟨by decide +kernel, by decide +kernel, by decide +kernel⟩, by decide⟩, zin (i := 294) (by decide +kernel) rfl, zin (i := 6) (by decide +kernel) rfl⟩
abbrev YX1_copyFrom : zY := (RX1, cX1_copyFrom, 3, none, 2)
theorem mX1_copyFrom : zMI yX1_copyFrom YX1_copyFrom 1 := ⟨⟨zin (i := 24) (by decide +kernel) rfl, zin (i := 219) (by decide +kernel) rfl, ⟨by decide +kernel, by decide +kernel, by decide +kernel⟩, by decide⟩, zin (i := 217) (by decide +kernel) rfl, zin (i := 218) (by decide +kernel) rfl⟩
abbrev YX1_creeps : zY := (RX1, cX1_creeps, 2, (some (.boolean)), 1)
theorem mX1_creeps : zMI yX1_creeps YX1_creeps 1 := ⟨⟨zin (i := 24) (by decide +kernel) rfl, zin (i := 245) (by decide +kernel) rfl, ⟨by decide +kernel, by decide +kernel, by decide +kernel⟩, by decide⟩, zin (i := 243) (by decide +kernel) rfl, zin (i := 244) (by decide +kernel) rfl⟩
abbrev YX1_dryTrails : zY := (RX1, cX1_dryTrails, 3, none, 1)
theorem mX1_dryTrails : zMI yX1_dryTrails YX1_dryTrails 1 := ⟨⟨zin (i := 24) (by decide +kernel) rfl, zin (i := 291) (by decide +kernel) rfl, ⟨by decide +kernel, by decide +kernel, by decide +kernel⟩, by decide⟩, zin (i := 290) (by decide +kernel) rfl, zin (i := 5) (by decide +kernel) rfl⟩
abbrev YX1_findLeader : zY := (RX1, cX1_findLeader, 3, (some (.int)), 2)
theorem mX1_findLeader : zMI yX1_findLeader YX1_findLeader 0 := ⟨⟨zin (i := 24) (by decide +kernel) rfl, zin (i := 389) (by decide +kernel) rfl, ⟨by decide +kernel, by decide +kernel, by decide +kernel⟩, by decide⟩, zin (i := 387) (by decide +kernel) rfl, zin (i := 388) (by decide +kernel) rfl⟩
abbrev YX1_growFrost : zY := (RX1, cX1_growFrost, 2, none, 0)
theorem mX1_growFrost : zMI yX1_growFrost YX1_growFrost 0 := ⟨⟨zin (i := 24) (by decide +kernel) rfl, zin (i := 299) (by decide +kernel) rfl, ⟨by decide +kernel, by decide +kernel, by decide +kernel⟩, by decide⟩, zin (i := 298) (by decide +kernel) rfl, zin (i := 7) (by decide +kernel) rfl⟩
abbrev YX1_hasEnded : zY := (RX1, cX1_hasEnded, 2, (some (.boolean)), 1)
theorem mX1_hasEnded : zMI yX1_hasEnded YX1_hasEnded 1 := ⟨⟨zin (i := 24) (by decide +kernel) rfl, zin (i := 535) (by decide +kernel) rfl, ⟨by decide +kernel, by decide +kernel, by decide +kernel⟩, by decide⟩, zin (i := 533) (by decide +kernel) rfl, zin (i := 534) (by decide +kernel) rfl⟩
abbrev YX1_howManyAre : zY := (RX1, cX1_howManyAre, 4, (some (.int)), 0)
theorem mX1_howManyAre : zMI yX1_howManyAre YX1_howManyAre 1 := ⟨⟨zin (i := 24) (by decide +kernel) rfl, zin (i := 237) (by decide +kernel) rfl, ⟨by decide +kernel, by decide +kernel, by decide +kernel⟩, by decide⟩, zin (i := 236) (by decide +kernel) rfl, zin (i := 0) (by decide +kernel) rfl⟩
abbrev YX1_howManyTrails : zY := (RX1, cX1_howManyTrails, 3, (some (.int)), 0)
theorem mX1_howManyTrails : zMI yX1_howManyTrails YX1_howManyTrails 0 := ⟨⟨zin (i := 24) (by decide +kernel) rfl, zin (i := 405) (by decide +kernel) rfl, ⟨by decide +kernel, by decide +kernel, by decide +kernel⟩, by decide⟩, zin (i := 404) (by decide +kernel) rfl, zin (i := 17) (by decide +kernel) rfl⟩
abbrev YX1_isAhead : zY := (RX1, cX1_isAhead, 3, (some (.boolean)), 0)
theorem mX1_isAhead : zMI yX1_isAhead YX1_isAhead 2 := ⟨⟨zin (i := 24) (by decide +kernel) rfl, zin (i := 393) (by decide +kernel) rfl, ⟨by decide +kernel, by decide +kernel, by decide +kernel⟩, by decide⟩, zin (i := 392) (by decide +kernel) rfl, zin (i := 16) (by decide +kernel) rfl⟩
abbrev YX1_knows : zY := (RX1, cX1_knows, 2, (some (.boolean)), 0)
theorem mX1_knows : zMI yX1_knows YX1_knows 1 := ⟨⟨zin (i := 24) (by decide +kernel) rfl, zin (i := 249) (by decide +kernel) rfl, ⟨by decide +kernel, by decide +kernel, by decide +kernel⟩, by decide⟩, zin (i := 247) (by decide +kernel) rfl, zin (i := 248) (by decide +kernel) rfl⟩
abbrev YX1_letPass : zY := (RX1, cX1_letPass, 4, (some (.int)), 4)
theorem mX1_letPass : zMI yX1_letPass YX1_letPass 1 := ⟨⟨zin (i := 24) (by decide +kernel) rfl, zin (i := 232) (by decide +kernel) rfl, ⟨by decide +kernel, by decide +kernel, by decide +kernel⟩, by decide⟩, zin (i := 230) (by decide +kernel) rfl, zin (i := 231) (by decide +kernel) rfl⟩
abbrev YX1_noteLender : zY := (RX1, cX1_noteLender, 3, none, 1)
theorem mX1_noteLender : zMI yX1_noteLender YX1_noteLender 2 := ⟨⟨zin (i := 24) (by decide +kernel) rfl, zin (i := 282) (by decide +kernel) rfl, ⟨by decide +kernel, by decide +kernel, by decide +kernel⟩, by decide⟩, zin (i := 281) (by decide +kernel) rfl, zin (i := 3) (by decide +kernel) rfl⟩
abbrev YX1_passTurn : zY := (RX1, cX1_passTurn, 3, none, 3)
theorem mX1_passTurn : zMI yX1_passTurn YX1_passTurn 0 := ⟨⟨zin (i := 24) (by decide +kernel) rfl, zin (i := 241) (by decide +kernel) rfl, ⟨by decide +kernel, by decide +kernel, by decide +kernel⟩, by decide⟩, zin (i := 240) (by decide +kernel) rfl, zin (i := 1) (by decide +kernel) rfl⟩
abbrev YX1_passUntilEnd : zY := (RX1, cX1_passUntilEnd, 4, (some (.int)), 4)
theorem mX1_passUntilEnd : zMI yX1_passUntilEnd YX1_passUntilEnd 2 := ⟨⟨zin (i := 24) (by decide +kernel) rfl, zin (i := 539) (by decide +kernel) rfl, ⟨by decide +kernel, by decide +kernel, by decide +kernel⟩, by decide⟩, zin (i := 537) (by decide +kernel) rfl, zin (i := 538) (by decide +kernel) rfl⟩
abbrev YX1_placeSnail : zY := (RX1, cX1_placeSnail, 3, (some (.int)), 1)
theorem mX1_placeSnail : zMI yX1_placeSnail YX1_placeSnail 2 := ⟨⟨zin (i := 24) (by decide +kernel) rfl, zin (i := 349) (by decide +kernel) rfl, ⟨by decide +kernel, by decide +kernel, by decide +kernel⟩, by decide⟩, zin (i := 347) (by decide +kernel) rfl, zin (i := 348) (by decide +kernel) rfl⟩
abbrev YX1_priceOf : zY := (RX1, cX1_priceOf, 2, (some (.int)), 0)
theorem mX1_priceOf : zMI yX1_priceOf YX1_priceOf 1 := ⟨⟨zin (i := 24) (by decide +kernel) rfl, zin (i := 274) (by decide +kernel) rfl, ⟨by decide +kernel, by decide +kernel, by decide +kernel⟩, by decide⟩, zin (i := 272) (by decide +kernel) rfl, zin (i := 273) (by decide +kernel) rfl⟩
abbrev YX1_removeSnail : zY := (RX1, cX1_removeSnail, 2, (some (.int)), 2)
theorem mX1_removeSnail : zMI yX1_removeSnail YX1_removeSnail 1 := ⟨⟨zin (i := 24) (by decide +kernel) rfl, zin (i := 428) (by decide +kernel) rfl, ⟨by decide +kernel, by decide +kernel, by decide +kernel⟩, by decide⟩, zin (i := 426) (by decide +kernel) rfl, zin (i := 427) (by decide +kernel) rfl⟩
abbrev YX1_rest : zY := (RX1, cX1_rest, 2, none, 2)
theorem mX1_rest : zMI yX1_rest YX1_rest 1 := ⟨⟨zin (i := 24) (by decide +kernel) rfl, zin (i := 286) (by decide +kernel) rfl, ⟨by decide +kernel, by decide +kernel, by decide +kernel⟩, by decide⟩, zin (i := 285) (by decide +kernel) rfl, zin (i := 4) (by decide +kernel) rfl⟩
abbrev YX1_snailOn : zY := (RX1, cX1_snailOn, 4, (some (.int)), 0)
theorem mX1_snailOn : zMI yX1_snailOn YX1_snailOn 2 := ⟨⟨zin (i := 24) (by decide +kernel) rfl, zin (i := 266) (by decide +kernel) rfl, ⟨by decide +kernel, by decide +kernel, by decide +kernel⟩, by decide⟩, zin (i := 264) (by decide +kernel) rfl, zin (i := 265) (by decide +kernel) rfl⟩
abbrev YX1_stepCost : zY := (RX1, cX1_stepCost, 7, (some (.int)), 1)
theorem mX1_stepCost : zMI yX1_stepCost YX1_stepCost 2 := ⟨⟨zin (i := 24) (by decide +kernel) rfl, zin (i := 259) (by decide +kernel) rfl, ⟨by decide +kernel, by decide +kernel, by decide +kernel⟩, by decide⟩, zin (i := 257) (by decide +kernel) rfl, zin (i := 258) (by decide +kernel) rfl⟩
abbrev YX1_takeStep : zY := (RX1, cX1_takeStep, 8, none, 2)
theorem mX1_takeStep : zMI yX1_takeStep YX1_takeStep 2 := ⟨⟨zin (i := 24) (by decide +kernel) rfl, zin (i := 278) (by decide +kernel) rfl, ⟨by decide +kernel, by decide +kernel, by decide +kernel⟩, by decide⟩, zin (i := 277) (by decide +kernel) rfl, zin (i := 2) (by decide +kernel) rfl⟩
abbrev YX1_tellCell : zY := (RX1, cX1_tellCell, 5, (some (.int)), 1)
theorem mX1_tellCell : zMI yX1_tellCell YX1_tellCell 3 := ⟨⟨zin (i := 24) (by decide +kernel) rfl, zin (i := 475) (by decide +kernel) rfl, ⟨by decide +kernel, by decide +kernel, by decide +kernel⟩, by decide⟩, zin (i := 473) (by decide +kernel) rfl, zin (i := 474) (by decide +kernel) rfl⟩
abbrev YX1_tellCount : zY := (RX1, cX1_tellCount, 2, (some (.int)), 1)
theorem mX1_tellCount : zMI yX1_tellCount YX1_tellCount 1 := ⟨⟨zin (i := 24) (by decide +kernel) rfl, zin (i := 401) (by decide +kernel) rfl, ⟨by decide +kernel, by decide +kernel, by decide +kernel⟩, by decide⟩, zin (i := 399) (by decide +kernel) rfl, zin (i := 400) (by decide +kernel) rfl⟩
abbrev YX1_tellOwed : zY := (RX1, cX1_tellOwed, 3, (some (.int)), 1)
theorem mX1_tellOwed : zMI yX1_tellOwed YX1_tellOwed 2 := ⟨⟨zin (i := 24) (by decide +kernel) rfl, zin (i := 521) (by decide +kernel) rfl, ⟨by decide +kernel, by decide +kernel, by decide +kernel⟩, by decide⟩, zin (i := 519) (by decide +kernel) rfl, zin (i := 520) (by decide +kernel) rfl⟩
abbrev YX1_tellSnail : zY := (RX1, cX1_tellSnail, 3, (some (.int)), 1)
theorem mX1_tellSnail : zMI yX1_tellSnail YX1_tellSnail 2 := ⟨⟨zin (i := 24) (by decide +kernel) rfl, zin (i := 381) (by decide +kernel) rfl, ⟨by decide +kernel, by decide +kernel, by decide +kernel⟩, by decide⟩, zin (i := 379) (by decide +kernel) rfl, zin (i := 380) (by decide +kernel) rfl⟩
abbrev YX1_whyNoHelp : zY := (RX1, cX1_whyNoHelp, 5, (some (.int)), 0)
theorem mX1_whyNoHelp : zMI yX1_whyNoHelp YX1_whyNoHelp 2 := ⟨⟨zin (i := 24) (by decide +kernel) rfl, zin (i := 270) (by decide +kernel) rfl, ⟨by decide +kernel, by decide +kernel, by decide +kernel⟩, by decide⟩, zin (i := 268) (by decide +kernel) rfl, zin (i := 269) (by decide +kernel) rfl⟩
abbrev YX2_append : zY := (RX2, cX2_append, 2, (some (.int)), 0)
theorem mX2_append : zMI yX2_append YX2_append 1 := ⟨⟨zin (i := 27) (by decide +kernel) rfl, zin (i := 464) (by decide +kernel) rfl, ⟨by decide +kernel, by decide +kernel, by decide +kernel⟩, by decide⟩, zin (i := 462) (by decide +kernel) rfl, zin (i := 463) (by decide +kernel) rfl⟩
abbrev YX2_digitHere : zY := (RX2, cX2_digitHere, 2, (some (.int)), 1)
theorem mX2_digitHere : zMI yX2_digitHere YX2_digitHere 0 := ⟨⟨zin (i := 27) (by decide +kernel) rfl, zin (i := 337) (by decide +kernel) rfl, ⟨by decide +kernel, by decide +kernel, by decide +kernel⟩, by decide⟩, zin (i := 336) (by decide +kernel) rfl, zin (i := 13) (by decide +kernel) rfl⟩
abbrev YX2_empty : zY := (RX2, cX2_empty, 2, (some (.int)), 0)
theorem mX2_empty : zMI yX2_empty YX2_empty 0 := ⟨⟨zin (i := 27) (by decide +kernel) rfl, zin (i := 456) (by decide +kernel) rfl, ⟨by decide +kernel, by decide +kernel, by decide +kernel⟩, by decide⟩, zin (i := 454) (by decide +kernel) rfl, zin (i := 455) (by decide +kernel) rfl⟩
abbrev YX2_read : zY := (RX2, cX2_read, 2, (some (.int)), 4)
theorem mX2_read : zMI yX2_read YX2_read 0 := ⟨⟨zin (i := 27) (by decide +kernel) rfl, zin (i := 321) (by decide +kernel) rfl, ⟨by decide +kernel, by decide +kernel, by decide +kernel⟩, by decide⟩, zin (i := 319) (by decide +kernel) rfl, zin (i := 320) (by decide +kernel) rfl⟩
abbrev YX2_readNumber : zY := (RX2, cX2_readNumber, 7, (some (.boolean)), 2)
theorem mX2_readNumber : zMI yX2_readNumber YX2_readNumber 4 := ⟨⟨zin (i := 27) (by decide +kernel) rfl, zin (i := 333) (by decide +kernel) rfl, ⟨by decide +kernel, by decide +kernel, by decide +kernel⟩, by decide⟩, zin (i := 332) (by decide +kernel) rfl, zin (i := 12) (by decide +kernel) rfl⟩
abbrev YX2_readSign : zY := (RX2, cX2_readSign, 2, (some (.boolean)), 1)
theorem mX2_readSign : zMI yX2_readSign YX2_readSign 1 := ⟨⟨zin (i := 27) (by decide +kernel) rfl, zin (i := 341) (by decide +kernel) rfl, ⟨by decide +kernel, by decide +kernel, by decide +kernel⟩, by decide⟩, zin (i := 340) (by decide +kernel) rfl, zin (i := 14) (by decide +kernel) rfl⟩
abbrev YX2_readThing : zY := (RX2, cX2_readThing, 3, (some (.boolean)), 3)
theorem mX2_readThing : zMI yX2_readThing YX2_readThing 1 := ⟨⟨zin (i := 27) (by decide +kernel) rfl, zin (i := 325) (by decide +kernel) rfl, ⟨by decide +kernel, by decide +kernel, by decide +kernel⟩, by decide⟩, zin (i := 324) (by decide +kernel) rfl, zin (i := 10) (by decide +kernel) rfl⟩
abbrev YX2_signHere : zY := (RX2, cX2_signHere, 1, (some (.int)), 0)
theorem mX2_signHere : zMI yX2_signHere YX2_signHere 0 := ⟨⟨zin (i := 27) (by decide +kernel) rfl, zin (i := 329) (by decide +kernel) rfl, ⟨by decide +kernel, by decide +kernel, by decide +kernel⟩, by decide⟩, zin (i := 328) (by decide +kernel) rfl, zin (i := 11) (by decide +kernel) rfl⟩
abbrev YX3_fromRimDown : zY := (RX3, cX3_fromRimDown, 7, (some (.int)), 2)
theorem mX3_fromRimDown : zMI yX3_fromRimDown YX3_fromRimDown 3 := ⟨⟨zin (i := 28) (by decide +kernel) rfl, zin (i := 484) (by decide +kernel) rfl, ⟨by decide +kernel, by decide +kernel, by decide +kernel⟩, by decide⟩, zin (i := 482) (by decide +kernel) rfl, zin (i := 483) (by decide +kernel) rfl⟩
abbrev YX3_leastAbove : zY := (RX3, cX3_leastAbove, 10, (some (.int)), 1)
theorem mX3_leastAbove : zMI yX3_leastAbove YX3_leastAbove 3 := ⟨⟨zin (i := 28) (by decide +kernel) rfl, zin (i := 489) (by decide +kernel) rfl, ⟨by decide +kernel, by decide +kernel, by decide +kernel⟩, by decide⟩, zin (i := 488) (by decide +kernel) rfl, zin (i := 18) (by decide +kernel) rfl⟩
abbrev YX3_leastSumFirst : zY := (RX3, cX3_leastSumFirst, 7, (some (.int)), 2)
theorem mX3_leastSumFirst : zMI yX3_leastSumFirst YX3_leastSumFirst 3 := ⟨⟨zin (i := 28) (by decide +kernel) rfl, zin (i := 497) (by decide +kernel) rfl, ⟨by decide +kernel, by decide +kernel, by decide +kernel⟩, by decide⟩, zin (i := 495) (by decide +kernel) rfl, zin (i := 496) (by decide +kernel) rfl⟩
abbrev YX3_nearest : zY := (RX3, cX3_nearest, 4, (some (.int)), 0)
theorem mX3_nearest : zMI yX3_nearest YX3_nearest 0 := ⟨⟨zin (i := 28) (by decide +kernel) rfl, zin (i := 502) (by decide +kernel) rfl, ⟨by decide +kernel, by decide +kernel, by decide +kernel⟩, by decide⟩, zin (i := 501) (by decide +kernel) rfl, zin (i := 19) (by decide +kernel) rfl⟩
abbrev YX3_reachAbove : zY := (RX3, cX3_reachAbove, 8, none, 1)
theorem mX3_reachAbove : zMI yX3_reachAbove YX3_reachAbove 2 := ⟨⟨zin (i := 28) (by decide +kernel) rfl, zin (i := 506) (by decide +kernel) rfl, ⟨by decide +kernel, by decide +kernel, by decide +kernel⟩, by decide⟩, zin (i := 505) (by decide +kernel) rfl, zin (i := 20) (by decide +kernel) rfl⟩
abbrev YX4_bestLane : zY := (RX4, cX4_bestLane, 7, (some (.int)), 6)
theorem mX4_bestLane : zMI yX4_bestLane YX4_bestLane 2 := ⟨⟨zin (i := 23) (by decide +kernel) rfl, zin (i := 544) (by decide +kernel) rfl, ⟨by decide +kernel, by decide +kernel, by decide +kernel⟩, by decide⟩, zin (i := 542) (by decide +kernel) rfl, zin (i := 543) (by decide +kernel) rfl⟩
abbrev YX4_cell : zY := (RX4, cX4_cell, 4, (some (.int)), 2)
theorem mX4_cell : zMI yX4_cell YX4_cell 3 := ⟨⟨zin (i := 23) (by decide +kernel) rfl, zin (i := 471) (by decide +kernel) rfl, ⟨by decide +kernel, by decide +kernel, by decide +kernel⟩, by decide⟩, zin (i := 469) (by decide +kernel) rfl, zin (i := 470) (by decide +kernel) rfl⟩
abbrev YX4_cellAt : zY := (RX4, cX4_cellAt, 2, (some (.int)), 0)
theorem mX4_cellAt : zMS yX4_cellAt YX4_cellAt 2 := ⟨⟨zin (i := 23) (by decide +kernel) rfl, zin (i := 262) (by decide +kernel) rfl, ⟨by decide +kernel, by decide +kernel, by decide +kernel⟩, by decide⟩, zin (i := 261) (by decide +kernel) rfl⟩
abbrev YX4_clearText : zY := (RX4, cX4_clearText, 1, (some (.int)), 1)
theorem mX4_clearText : zMI yX4_clearText YX4_clearText 0 := ⟨⟨zin (i := 23) (by decide +kernel) rfl, zin (i := 452) (by decide +kernel) rfl, ⟨by decide +kernel, by decide +kernel, by decide +kernel⟩, by decide⟩, zin (i := 450) (by decide +kernel) rfl, zin (i := 451) (by decide +kernel) rfl⟩
abbrev YX4_copy : zY := (RX4, cX4_copy, 2, none, 1)
theorem mX4_copy : zMS yX4_copy YX4_copy 2 := ⟨⟨zin (i := 23) (by decide +kernel) rfl, zin (i := 222) (by decide +kernel) rfl, ⟨by decide +kernel, by decide +kernel, by decide +kernel⟩, by decide⟩, zin (i := 221) (by decide +kernel) rfl⟩
abbrev YX4_cost : zY := (RX4, cX4_cost, 3, (some (.int)), 2)
theorem mX4_cost : zMI yX4_cost YX4_cost 2 := ⟨⟨zin (i := 23) (by decide +kernel) rfl, zin (i := 525) (by decide +kernel) rfl, ⟨by decide +kernel, by decide +kernel, by decide +kernel⟩, by decide⟩, zin (i := 523) (by decide +kernel) rfl, zin (i := 524) (by decide +kernel) rfl⟩
abbrev YX4_count : zY := (RX4, cX4_count, 2, (some (.int)), 2)
theorem mX4_count : zMI yX4_count YX4_count 1 := ⟨⟨zin (i := 23) (by decide +kernel) rfl, zin (i := 397) (by decide +kernel) rfl, ⟨by decide +kernel, by decide +kernel, by decide +kernel⟩, by decide⟩, zin (i := 395) (by decide +kernel) rfl, zin (i := 396) (by decide +kernel) rfl⟩
abbrev YX4_doThing : zY := (RX4, cX4_doThing, 2, (some (.int)), 5)
theorem mX4_doThing : zMI yX4_doThing YX4_doThing 1 := ⟨⟨zin (i := 23) (by decide +kernel) rfl, zin (i := 345) (by decide +kernel) rfl, ⟨by decide +kernel, by decide +kernel, by decide +kernel⟩, by decide⟩, zin (i := 344) (by decide +kernel) rfl, zin (i := 15) (by decide +kernel) rfl⟩
abbrev YX4_does : zY := (RX4, cX4_does, 2, (some (.int)), 3)
theorem mX4_does : zMI yX4_does YX4_does 1 := ⟨⟨zin (i := 23) (by decide +kernel) rfl, zin (i := 510) (by decide +kernel) rfl, ⟨by decide +kernel, by decide +kernel, by decide +kernel⟩, by decide⟩, zin (i := 508) (by decide +kernel) rfl, zin (i := 509) (by decide +kernel) rfl⟩
abbrev YX4_endsIn : zY := (RX4, cX4_endsIn, 2, (some (.int)), 5)
theorem mX4_endsIn : zMI yX4_endsIn YX4_endsIn 1 := ⟨⟨zin (i := 23) (by decide +kernel) rfl, zin (i := 531) (by decide +kernel) rfl, ⟨by decide +kernel, by decide +kernel, by decide +kernel⟩, by decide⟩, zin (i := 529) (by decide +kernel) rfl, zin (i := 530) (by decide +kernel) rfl⟩
abbrev YX4_keep : zY := (RX4, cX4_keep, 1, (some (.int)), 3)
theorem mX4_keep : zMI yX4_keep YX4_keep 0 := ⟨⟨zin (i := 23) (by decide +kernel) rfl, zin (i := 448) (by decide +kernel) rfl, ⟨by decide +kernel, by decide +kernel, by decide +kernel⟩, by decide⟩, zin (i := 446) (by decide +kernel) rfl, zin (i := 447) (by decide +kernel) rfl⟩
abbrev YX4_leader : zY := (RX4, cX4_leader, 1, (some (.int)), 3)
theorem mX4_leader : zMI yX4_leader YX4_leader 0 := ⟨⟨zin (i := 23) (by decide +kernel) rfl, zin (i := 385) (by decide +kernel) rfl, ⟨by decide +kernel, by decide +kernel, by decide +kernel⟩, by decide⟩, zin (i := 383) (by decide +kernel) rfl, zin (i := 384) (by decide +kernel) rfl⟩
abbrev YX4_owes : zY := (RX4, cX4_owes, 3, (some (.int)), 2)
theorem mX4_owes : zMI yX4_owes YX4_owes 2 := ⟨⟨zin (i := 23) (by decide +kernel) rfl, zin (i := 517) (by decide +kernel) rfl, ⟨by decide +kernel, by decide +kernel, by decide +kernel⟩, by decide⟩, zin (i := 515) (by decide +kernel) rfl, zin (i := 516) (by decide +kernel) rfl⟩
abbrev YX4_pass : zY := (RX4, cX4_pass, 2, (some (.int)), 5)
theorem mX4_pass : zMI yX4_pass YX4_pass 1 := ⟨⟨zin (i := 23) (by decide +kernel) rfl, zin (i := 215) (by decide +kernel) rfl, ⟨by decide +kernel, by decide +kernel, by decide +kernel⟩, by decide⟩, zin (i := 213) (by decide +kernel) rfl, zin (i := 214) (by decide +kernel) rfl⟩
abbrev YX4_perform : zY := (RX4, cX4_perform, 4, (some (.int)), 6)
theorem mX4_perform : zMI yX4_perform YX4_perform 0 := ⟨⟨zin (i := 23) (by decide +kernel) rfl, zin (i := 317) (by decide +kernel) rfl, ⟨by decide +kernel, by decide +kernel, by decide +kernel⟩, by decide⟩, zin (i := 315) (by decide +kernel) rfl, zin (i := 316) (by decide +kernel) rfl⟩
abbrev YX4_reason : zY := (RX4, cX4_reason, 5, (some (.int)), 1)
theorem mX4_reason : zMI yX4_reason YX4_reason 3 := ⟨⟨zin (i := 23) (by decide +kernel) rfl, zin (i := 560) (by decide +kernel) rfl, ⟨by decide +kernel, by decide +kernel, by decide +kernel⟩, by decide⟩, zin (i := 558) (by decide +kernel) rfl, zin (i := 559) (by decide +kernel) rfl⟩
abbrev YX4_recorded : zY := (RX4, cX4_recorded, 2, (some (.int)), 4)
theorem mX4_recorded : zMI yX4_recorded YX4_recorded 1 := ⟨⟨zin (i := 23) (by decide +kernel) rfl, zin (i := 303) (by decide +kernel) rfl, ⟨by decide +kernel, by decide +kernel, by decide +kernel⟩, by decide⟩, zin (i := 302) (by decide +kernel) rfl, zin (i := 8) (by decide +kernel) rfl⟩
abbrev YX4_restore : zY := (RX4, cX4_restore, 1, (some (.int)), 5)
theorem mX4_restore : zMI yX4_restore YX4_restore 0 := ⟨⟨zin (i := 23) (by decide +kernel) rfl, zin (i := 373) (by decide +kernel) rfl, ⟨by decide +kernel, by decide +kernel, by decide +kernel⟩, by decide⟩, zin (i := 371) (by decide +kernel) rfl, zin (i := 372) (by decide +kernel) rfl⟩
abbrev YX4_set : zY := (RX4, cX4_set, 3, (some (.int)), 5)
theorem mX4_set : zMI yX4_set YX4_set 2 := ⟨⟨zin (i := 23) (by decide +kernel) rfl, zin (i := 436) (by decide +kernel) rfl, ⟨by decide +kernel, by decide +kernel, by decide +kernel⟩, by decide⟩, zin (i := 434) (by decide +kernel) rfl, zin (i := 435) (by decide +kernel) rfl⟩
abbrev YX4_setFrost : zY := (RX4, cX4_setFrost, 4, (some (.int)), 5)
theorem mX4_setFrost : zMI yX4_setFrost YX4_setFrost 3 := ⟨⟨zin (i := 23) (by decide +kernel) rfl, zin (i := 432) (by decide +kernel) rfl, ⟨by decide +kernel, by decide +kernel, by decide +kernel⟩, by decide⟩, zin (i := 430) (by decide +kernel) rfl, zin (i := 431) (by decide +kernel) rfl⟩
abbrev YX4_setSnail : zY := (RX4, cX4_setSnail, 3, (some (.int)), 5)
theorem mX4_setSnail : zMI yX4_setSnail YX4_setSnail 2 := ⟨⟨zin (i := 23) (by decide +kernel) rfl, zin (i := 420) (by decide +kernel) rfl, ⟨by decide +kernel, by decide +kernel, by decide +kernel⟩, by decide⟩, zin (i := 418) (by decide +kernel) rfl, zin (i := 419) (by decide +kernel) rfl⟩
abbrev YX4_snail : zY := (RX4, cX4_snail, 3, (some (.int)), 2)
theorem mX4_snail : zMI yX4_snail YX4_snail 2 := ⟨⟨zin (i := 23) (by decide +kernel) rfl, zin (i := 377) (by decide +kernel) rfl, ⟨by decide +kernel, by decide +kernel, by decide +kernel⟩, by decide⟩, zin (i := 375) (by decide +kernel) rfl, zin (i := 376) (by decide +kernel) rfl⟩
abbrev YX4_stopped : zY := (RX4, cX4_stopped, 2, (some (.int)), 0)
theorem mX4_stopped : zMI yX4_stopped YX4_stopped 1 := ⟨⟨zin (i := 23) (by decide +kernel) rfl, zin (i := 361) (by decide +kernel) rfl, ⟨by decide +kernel, by decide +kernel, by decide +kernel⟩, by decide⟩, zin (i := 359) (by decide +kernel) rfl, zin (i := 360) (by decide +kernel) rfl⟩
abbrev YX4_sum : zY := (RX4, cX4_sum, 6, (some (.int)), 0)
theorem mX4_sum : zMS yX4_sum YX4_sum 1 := ⟨⟨zin (i := 23) (by decide +kernel) rfl, zin (i := 408) (by decide +kernel) rfl, ⟨by decide +kernel, by decide +kernel, by decide +kernel⟩, by decide⟩, zin (i := 407) (by decide +kernel) rfl⟩
abbrev YX4_takeOff : zY := (RX4, cX4_takeOff, 2, (some (.int)), 5)
theorem mX4_takeOff : zMI yX4_takeOff YX4_takeOff 1 := ⟨⟨zin (i := 23) (by decide +kernel) rfl, zin (i := 424) (by decide +kernel) rfl, ⟨by decide +kernel, by decide +kernel, by decide +kernel⟩, by decide⟩, zin (i := 422) (by decide +kernel) rfl, zin (i := 423) (by decide +kernel) rfl⟩
abbrev YX4_turnsFrom : zY := (RX4, cX4_turnsFrom, 5, (some (.int)), 5)
theorem mX4_turnsFrom : zMI yX4_turnsFrom YX4_turnsFrom 3 := ⟨⟨zin (i := 23) (by decide +kernel) rfl, zin (i := 548) (by decide +kernel) rfl, ⟨by decide +kernel, by decide +kernel, by decide +kernel⟩, by decide⟩, zin (i := 547) (by decide +kernel) rfl, zin (i := 21) (by decide +kernel) rfl⟩
abbrev YX4_type : zY := (RX4, cX4_type, 2, (some (.int)), 1)
theorem mX4_type : zMI yX4_type YX4_type 1 := ⟨⟨zin (i := 23) (by decide +kernel) rfl, zin (i := 460) (by decide +kernel) rfl, ⟨by decide +kernel, by decide +kernel, by decide +kernel⟩, by decide⟩, zin (i := 458) (by decide +kernel) rfl, zin (i := 459) (by decide +kernel) rfl⟩
abbrev YX4_undo : zY := (RX4, cX4_undo, 1, (some (.int)), 4)
theorem mX4_undo : zMI yX4_undo YX4_undo 0 := ⟨⟨zin (i := 23) (by decide +kernel) rfl, zin (i := 365) (by decide +kernel) rfl, ⟨by decide +kernel, by decide +kernel, by decide +kernel⟩, by decide⟩, zin (i := 363) (by decide +kernel) rfl, zin (i := 364) (by decide +kernel) rfl⟩
abbrev YX4_wayUp : zY := (RX4, cX4_wayUp, 4, (some (.int)), 3)
theorem mX4_wayUp : zMI yX4_wayUp YX4_wayUp 3 := ⟨⟨zin (i := 23) (by decide +kernel) rfl, zin (i := 479) (by decide +kernel) rfl, ⟨by decide +kernel, by decide +kernel, by decide +kernel⟩, by decide⟩, zin (i := 477) (by decide +kernel) rfl, zin (i := 478) (by decide +kernel) rfl⟩
abbrev Yfill : zY := ("java/util/Arrays", cfill, 4, none, 0)
theorem mfill : zMS yfill Yfill 2 := ⟨⟨zin (i := 25) (by decide +kernel) rfl, zin (i := 58) (by decide +kernel) rfl, ⟨by decide +kernel, by decide +kernel, by decide +kernel⟩, by decide⟩, zin (i := 57) (by decide +kernel) rfl⟩
theorem kX4_54 : Cond.methodLink RX4 54 yX1_copyFrom ∈ zT := zin (i := 216) (by decide +kernel) rfl
theorem kX4_58 : Cond.methodLink RX4 58 yX1_placeSnail ∈ zT := zin (i := 346) (by decide +kernel) rfl
theorem kX4_62 : Cond.methodLink RX4 62 yX4_recorded ∈ zT := zin (i := 300) (by decide +kernel) rfl
theorem kX4_66 : Cond.methodLink RX4 66 yX1_removeSnail ∈ zT := zin (i := 425) (by decide +kernel) rfl
theorem kX4_69 : Cond.methodLink RX4 69 yX1_changeFrost ∈ zT := zin (i := 354) (by decide +kernel) rfl
theorem kX4_73 : Cond.methodLink RX4 73 yX1_changeSetting ∈ zT := zin (i := 437) (by decide +kernel) rfl
theorem kX4_76 : Cond.methodLink RX4 76 yX1_letPass ∈ zT := zin (i := 229) (by decide +kernel) rfl
theorem kX4_79 : Cond.methodLink RX4 79 yX0_remember ∈ zT := zin (i := 304) (by decide +kernel) rfl
theorem kX4_82 : Cond.methodLink RX4 82 yX2_append ∈ zT := zin (i := 461) (by decide +kernel) rfl
theorem kX4_86 : Cond.methodLink RX4 86 yX2_empty ∈ zT := zin (i := 453) (by decide +kernel) rfl
theorem kX4_90 : Cond.methodLink RX4 90 yX2_read ∈ zT := zin (i := 318) (by decide +kernel) rfl
theorem kX4_96 : Cond.methodLink RX4 96 yX4_doThing ∈ zT := zin (i := 342) (by decide +kernel) rfl
theorem kX4_112 : Cond.methodLink RX4 112 yX0_giveBack ∈ zT := zin (i := 366) (by decide +kernel) rfl
theorem kX4_119 : Cond.methodLink RX4 119 yX1_tellSnail ∈ zT := zin (i := 378) (by decide +kernel) rfl
theorem kX4_122 : Cond.methodLink RX4 122 yX1_tellCell ∈ zT := zin (i := 472) (by decide +kernel) rfl
theorem kX4_125 : Cond.methodLink RX4 125 yX1_knows ∈ zT := zin (i := 511) (by decide +kernel) rfl
theorem kX4_132 : Cond.methodLink RX4 132 yX1_creeps ∈ zT := zin (i := 512) (by decide +kernel) rfl
theorem kX4_135 : Cond.methodLink RX4 135 yX1_stepCost ∈ zT := zin (i := 527) (by decide +kernel) rfl
theorem kX4_138 : Cond.methodLink RX4 138 yX1_choice ∈ zT := zin (i := 513) (by decide +kernel) rfl
theorem kX4_141 : Cond.methodLink RX4 141 yX4_cellAt ∈ zT := zin (i := 480) (by decide +kernel) rfl
theorem kX4_144 : Cond.methodLink RX4 144 yX1_whyNoHelp ∈ zT := zin (i := 561) (by decide +kernel) rfl
theorem kX4_147 : Cond.methodLink RX4 147 yX1_hasEnded ∈ zT := zin (i := 532) (by decide +kernel) rfl
theorem kX4_150 : Cond.methodLink RX4 150 yX1_passUntilEnd ∈ zT := zin (i := 536) (by decide +kernel) rfl
theorem kX4_153 : Cond.methodLink RX4 153 yX3_fromRimDown ∈ zT := zin (i := 481) (by decide +kernel) rfl
theorem kX4_157 : Cond.methodLink RX4 157 yX3_leastSumFirst ∈ zT := zin (i := 494) (by decide +kernel) rfl
theorem kX4_160 : Cond.methodLink RX4 160 yX1_findLeader ∈ zT := zin (i := 386) (by decide +kernel) rfl
theorem kX4_163 : Cond.methodLink RX4 163 yX1_tellOwed ∈ zT := zin (i := 518) (by decide +kernel) rfl
theorem kX4_166 : Cond.methodLink RX4 166 yX4_turnsFrom ∈ zT := zin (i := 545) (by decide +kernel) rfl
theorem kX4_169 : Cond.methodLink RX4 169 yX1_snailOn ∈ zT := zin (i := 549) (by decide +kernel) rfl
theorem kX4_172 : Cond.methodLink RX4 172 yX1_addSnail ∈ zT := zin (i := 550) (by decide +kernel) rfl
theorem kX4_181 : Cond.methodLink RX4 181 yX1_tellCount ∈ zT := zin (i := 398) (by decide +kernel) rfl
theorem kX4_184 : Cond.methodLink RX4 184 Lib.Math.min.name ∈ zT := zin (i := 223) (by decide +kernel) rfl
theorem kX4_189 : Cond.methodLink RX4 189 arraycopyName ∈ zT := zin (i := 226) (by decide +kernel) rfl
theorem kX0_25 : Cond.methodLink RX0 25 yX0_stateAt ∈ zT := zin (i := 308) (by decide +kernel) rfl
theorem kX0_29 : Cond.methodLink RX0 29 yX1_copyFrom ∈ zT := zin (i := 312) (by decide +kernel) rfl
theorem kX0_33 : Cond.methodLink RX0 33 Lib.Math.min.name ∈ zT := zin (i := 313) (by decide +kernel) rfl
theorem kX1_74 : Cond.methodLink RX1 74 yfill ∈ zT := zin (i := 56) (by decide +kernel) rfl
theorem kX1_80 : Cond.methodLinkNest RX1 80 yX4_copy "SnailTrails" ∈ zTN := zinN (i := 220) (by decide +kernel) rfl
theorem kX1_84 : Cond.methodLink RX1 84 yX1_snailOn ∈ zT := zin (i := 263) (by decide +kernel) rfl
theorem kX1_88 : Cond.methodLink RX1 88 yX1_addSnail ∈ zT := zin (i := 350) (by decide +kernel) rfl
theorem kX1_91 : Cond.methodLink RX1 91 yX1_knows ∈ zT := zin (i := 246) (by decide +kernel) rfl
theorem kX1_95 : Cond.methodLink RX1 95 yX1_creeps ∈ zT := zin (i := 242) (by decide +kernel) rfl
theorem kX1_98 : Cond.methodLinkNest RX1 98 yX4_cellAt "SnailTrails" ∈ zTN := zinN (i := 260) (by decide +kernel) rfl
theorem kX1_101 : Cond.methodLink RX1 101 yX1_clearTrail ∈ zT := zin (i := 292) (by decide +kernel) rfl
theorem kX1_111 : Cond.methodLink RX1 111 yX1_dryTrails ∈ zT := zin (i := 288) (by decide +kernel) rfl
theorem kX1_115 : Cond.methodLink RX1 115 yX1_howManyAre ∈ zT := zin (i := 234) (by decide +kernel) rfl
theorem kX1_119 : Cond.methodLink RX1 119 yX1_passTurn ∈ zT := zin (i := 238) (by decide +kernel) rfl
theorem kX1_122 : Cond.methodLink RX1 122 yX1_hasEnded ∈ zT := zin (i := 540) (by decide +kernel) rfl
theorem kX1_125 : Cond.methodLink RX1 125 yX1_choice ∈ zT := zin (i := 250) (by decide +kernel) rfl
theorem kX1_131 : Cond.methodLink RX1 131 yX1_takeStep ∈ zT := zin (i := 275) (by decide +kernel) rfl
theorem kX1_135 : Cond.methodLink RX1 135 yX1_rest ∈ zT := zin (i := 283) (by decide +kernel) rfl
theorem kX1_138 : Cond.methodLink RX1 138 yX1_growFrost ∈ zT := zin (i := 296) (by decide +kernel) rfl
theorem kX1_141 : Cond.methodLink RX1 141 yX1_stepCost ∈ zT := zin (i := 256) (by decide +kernel) rfl
theorem kX1_144 : Cond.methodLink RX1 144 yX1_whyNoHelp ∈ zT := zin (i := 267) (by decide +kernel) rfl
theorem kX1_147 : Cond.methodLink RX1 147 yX1_priceOf ∈ zT := zin (i := 271) (by decide +kernel) rfl
theorem kX1_150 : Cond.methodLink RX1 150 yX1_noteLender ∈ zT := zin (i := 279) (by decide +kernel) rfl
theorem kX1_153 : Cond.methodLink RX1 153 Lib.Math.min.name ∈ zT := zin (i := 287) (by decide +kernel) rfl
theorem kX1_158 : Cond.methodLink RX1 158 yX1_howManyTrails ∈ zT := zin (i := 402) (by decide +kernel) rfl
theorem kX1_162 : Cond.methodLinkNest RX1 162 yX4_sum "SnailTrails" ∈ zTN := zinN (i := 406) (by decide +kernel) rfl
theorem kX1_166 : Cond.methodLink RX1 166 yX1_isAhead ∈ zT := zin (i := 390) (by decide +kernel) rfl
theorem kX2_38 : Cond.methodLink RX2 38 yX2_readThing ∈ zT := zin (i := 322) (by decide +kernel) rfl
theorem kX2_42 : Cond.methodLink RX2 42 yX2_readSign ∈ zT := zin (i := 338) (by decide +kernel) rfl
theorem kX2_46 : Cond.methodLink RX2 46 yX2_signHere ∈ zT := zin (i := 326) (by decide +kernel) rfl
theorem kX2_50 : Cond.methodLink RX2 50 yX2_readNumber ∈ zT := zin (i := 330) (by decide +kernel) rfl
theorem kX2_54 : Cond.methodLink RX2 54 yX2_digitHere ∈ zT := zin (i := 334) (by decide +kernel) rfl
theorem kX3_18 : Cond.methodLinkNest RX3 18 yX4_cellAt "SnailTrails" ∈ zTN := zinN (i := 485) (by decide +kernel) rfl
theorem kX3_22 : Cond.methodLink RX3 22 yX3_leastAbove ∈ zT := zin (i := 486) (by decide +kernel) rfl
theorem kX3_30 : Cond.methodLink RX3 30 yX1_priceOf ∈ zT := zin (i := 492) (by decide +kernel) rfl
theorem kX3_36 : Cond.methodLink RX3 36 Lib.Math.min.name ∈ zT := zin (i := 493) (by decide +kernel) rfl
theorem kX3_41 : Cond.methodLink RX3 41 yfill ∈ zT := zin (i := 498) (by decide +kernel) rfl
theorem kX3_47 : Cond.methodLink RX3 47 yX3_nearest ∈ zT := zin (i := 499) (by decide +kernel) rfl
theorem kX3_51 : Cond.methodLink RX3 51 yX3_reachAbove ∈ zT := zin (i := 503) (by decide +kernel) rfl
theorem kL_9 : Cond.methodLink RL 9 yX4_count ∈ zT := zin (i := 394) (by decide +kernel) rfl
theorem kL_15 : Cond.methodLink RL 15 yX4_setSnail ∈ zT := zin (i := 417) (by decide +kernel) rfl
theorem kL_19 : Cond.methodLink RL 19 yX4_takeOff ∈ zT := zin (i := 421) (by decide +kernel) rfl
theorem kL_22 : Cond.methodLink RL 22 yX4_setFrost ∈ zT := zin (i := 429) (by decide +kernel) rfl
theorem kL_26 : Cond.methodLink RL 26 yX4_set ∈ zT := zin (i := 433) (by decide +kernel) rfl
theorem kL_29 : Cond.methodLink RL 29 yX4_undo ∈ zT := zin (i := 362) (by decide +kernel) rfl
theorem kL_33 : Cond.methodLink RL 33 yX4_keep ∈ zT := zin (i := 445) (by decide +kernel) rfl
theorem kL_36 : Cond.methodLink RL 36 yX4_restore ∈ zT := zin (i := 370) (by decide +kernel) rfl
theorem kL_39 : Cond.methodLink RL 39 yX4_clearText ∈ zT := zin (i := 449) (by decide +kernel) rfl
theorem kL_42 : Cond.methodLink RL 42 yX4_type ∈ zT := zin (i := 457) (by decide +kernel) rfl
theorem kL_46 : Cond.methodLink RL 46 yX4_perform ∈ zT := zin (i := 314) (by decide +kernel) rfl
theorem kL_49 : Cond.methodLink RL 49 yX4_pass ∈ zT := zin (i := 212) (by decide +kernel) rfl
theorem kL_52 : Cond.methodLink RL 52 yX4_cell ∈ zT := zin (i := 468) (by decide +kernel) rfl
theorem kL_55 : Cond.methodLink RL 55 yX4_snail ∈ zT := zin (i := 374) (by decide +kernel) rfl
theorem kL_58 : Cond.methodLink RL 58 yX4_wayUp ∈ zT := zin (i := 476) (by decide +kernel) rfl
theorem kL_61 : Cond.methodLink RL 61 yX4_does ∈ zT := zin (i := 507) (by decide +kernel) rfl
theorem kL_64 : Cond.methodLink RL 64 yX4_owes ∈ zT := zin (i := 514) (by decide +kernel) rfl
theorem kL_67 : Cond.methodLink RL 67 yX4_cost ∈ zT := zin (i := 522) (by decide +kernel) rfl
theorem kL_70 : Cond.methodLink RL 70 yX4_endsIn ∈ zT := zin (i := 528) (by decide +kernel) rfl
theorem kL_73 : Cond.methodLink RL 73 yX4_leader ∈ zT := zin (i := 382) (by decide +kernel) rfl
theorem kL_76 : Cond.methodLink RL 76 yX4_bestLane ∈ zT := zin (i := 541) (by decide +kernel) rfl
theorem kL_79 : Cond.methodLink RL 79 yX4_stopped ∈ zT := zin (i := 358) (by decide +kernel) rfl
theorem kL_82 : Cond.methodLink RL 82 yX4_reason ∈ zT := zin (i := 557) (by decide +kernel) rfl
theorem kL_86 : Cond.methodLink RL 86 yL_hangs ∈ zT := zin (i := 465) (by decide +kernel) rfl
theorem kL_92 : Cond.methodLink RL 92 yL_cell ∈ zT := zin (i := 409) (by decide +kernel) rfl
theorem kL_95 : Cond.methodLink RL 95 yL_acts ∈ zT := zin (i := 414) (by decide +kernel) rfl
theorem kL_100 : Cond.methodLink RL 100 yL_refuses ∈ zT := zin (i := 554) (by decide +kernel) rfl
theorem kL_104 : Cond.methodLink RL 104 yL_same ∈ zT := zin (i := 551) (by decide +kernel) rfl
theorem fX4_12 : zL RX4 12 4 0 := ⟨by decide, by decide, by decide, Or.inl (zin (i := 184) (by decide +kernel) rfl)⟩
theorem fX4_16 : zL RX4 16 4 1 := ⟨by decide, by decide, by decide, Or.inl (zin (i := 185) (by decide +kernel) rfl)⟩
theorem fX4_19 : zL RX4 19 4 2 := ⟨by decide, by decide, by decide, Or.inl (zin (i := 186) (by decide +kernel) rfl)⟩
theorem fX4_22 : zL RX4 22 4 3 := ⟨by decide, by decide, by decide, Or.inl (zin (i := 187) (by decide +kernel) rfl)⟩
theorem fX4_29 : zL RX4 29 4 4 := ⟨by decide, by decide, by decide, Or.inl (zin (i := 188) (by decide +kernel) rfl)⟩
theorem fX4_36 : zL RX4 36 4 5 := ⟨by decide, by decide, by decide, Or.inl (zin (i := 189) (by decide +kernel) rfl)⟩
theorem fX4_43 : zL RX4 43 4 6 := ⟨by decide, by decide, by decide, Or.inl (zin (i := 190) (by decide +kernel) rfl)⟩
theorem fX4_47 : zL RX4 47 4 7 := ⟨by decide, by decide, by decide, Or.inl (zin (i := 191) (by decide +kernel) rfl)⟩
theorem fX4_51 : zL RX4 51 4 8 := ⟨by decide, by decide, by decide, Or.inl (zin (i := 192) (by decide +kernel) rfl)⟩
theorem fX4_93 : zL RX4 93 2 3 := ⟨by decide, by decide, by decide, Or.inr ⟨"SnailTrails", zinN (i := 144) (by decide +kernel) rfl⟩⟩
theorem fX4_99 : zL RX4 99 2 4 := ⟨by decide, by decide, by decide, Or.inr ⟨"SnailTrails", zinN (i := 146) (by decide +kernel) rfl⟩⟩
theorem fX4_103 : zL RX4 103 2 5 := ⟨by decide, by decide, by decide, Or.inr ⟨"SnailTrails", zinN (i := 148) (by decide +kernel) rfl⟩⟩
theorem fX4_106 : zL RX4 106 2 7 := ⟨by decide, by decide, by decide, Or.inr ⟨"SnailTrails", zinN (i := 152) (by decide +kernel) rfl⟩⟩
theorem fX4_109 : zL RX4 109 2 6 := ⟨by decide, by decide, by decide, Or.inr ⟨"SnailTrails", zinN (i := 150) (by decide +kernel) rfl⟩⟩
theorem fX4_116 : zL RX4 116 1 16 := ⟨by decide, by decide, by decide, Or.inr ⟨"SnailTrails", zinN (i := 76) (by decide +kernel) rfl⟩⟩
theorem sX4_129 : Cond.fieldLink RX4 129 RX4 (zm_st 0).1 "[I" ∈ zT := zin (i := 526) (by decide +kernel) rfl
theorem fX4_175 : zL RX4 175 0 1 := ⟨by decide, by decide, by decide, Or.inr ⟨"SnailTrails", zinN (i := 124) (by decide +kernel) rfl⟩⟩
theorem fX4_178 : zL RX4 178 2 1 := ⟨by decide, by decide, by decide, Or.inr ⟨"SnailTrails", zinN (i := 141) (by decide +kernel) rfl⟩⟩
theorem fX0_11 : zL RX0 11 0 0 := ⟨by decide, by decide, by decide, Or.inl (zin (i := 122) (by decide +kernel) rfl)⟩
theorem fX0_17 : zL RX0 17 0 1 := ⟨by decide, by decide, by decide, Or.inl (zin (i := 123) (by decide +kernel) rfl)⟩
theorem fX0_21 : zL RX0 21 0 2 := ⟨by decide, by decide, by decide, Or.inl (zin (i := 125) (by decide +kernel) rfl)⟩
theorem fX1_9 : zL RX1 9 1 0 := ⟨by decide, by decide, by decide, Or.inl (zin (i := 59) (by decide +kernel) rfl)⟩
theorem fX1_15 : zL RX1 15 1 1 := ⟨by decide, by decide, by decide, Or.inl (zin (i := 60) (by decide +kernel) rfl)⟩
theorem fX1_18 : zL RX1 18 1 2 := ⟨by decide, by decide, by decide, Or.inl (zin (i := 61) (by decide +kernel) rfl)⟩
theorem fX1_21 : zL RX1 21 1 3 := ⟨by decide, by decide, by decide, Or.inl (zin (i := 62) (by decide +kernel) rfl)⟩
theorem fX1_24 : zL RX1 24 1 4 := ⟨by decide, by decide, by decide, Or.inl (zin (i := 63) (by decide +kernel) rfl)⟩
theorem fX1_27 : zL RX1 27 1 5 := ⟨by decide, by decide, by decide, Or.inl (zin (i := 64) (by decide +kernel) rfl)⟩
theorem fX1_30 : zL RX1 30 1 6 := ⟨by decide, by decide, by decide, Or.inl (zin (i := 65) (by decide +kernel) rfl)⟩
theorem fX1_33 : zL RX1 33 1 7 := ⟨by decide, by decide, by decide, Or.inl (zin (i := 66) (by decide +kernel) rfl)⟩
theorem fX1_36 : zL RX1 36 1 8 := ⟨by decide, by decide, by decide, Or.inl (zin (i := 67) (by decide +kernel) rfl)⟩
theorem fX1_39 : zL RX1 39 1 9 := ⟨by decide, by decide, by decide, Or.inl (zin (i := 68) (by decide +kernel) rfl)⟩
theorem fX1_42 : zL RX1 42 1 10 := ⟨by decide, by decide, by decide, Or.inl (zin (i := 69) (by decide +kernel) rfl)⟩
theorem fX1_45 : zL RX1 45 1 11 := ⟨by decide, by decide, by decide, Or.inl (zin (i := 70) (by decide +kernel) rfl)⟩
theorem fX1_48 : zL RX1 48 1 12 := ⟨by decide, by decide, by decide, Or.inl (zin (i := 71) (by decide +kernel) rfl)⟩
theorem fX1_53 : zL RX1 53 1 13 := ⟨by decide, by decide, by decide, Or.inl (zin (i := 72) (by decide +kernel) rfl)⟩
theorem fX1_64 : zL RX1 64 1 14 := ⟨by decide, by decide, by decide, Or.inl (zin (i := 73) (by decide +kernel) rfl)⟩
theorem fX1_67 : zL RX1 67 1 15 := ⟨by decide, by decide, by decide, Or.inl (zin (i := 74) (by decide +kernel) rfl)⟩
theorem fX1_71 : zL RX1 71 1 16 := ⟨by decide, by decide, by decide, Or.inl (zin (i := 75) (by decide +kernel) rfl)⟩
theorem sX1_105 : Cond.fieldLinkNest RX1 105 RX4 (zm_st 1).1 "[I" "SnailTrails" ∈ zTN := zinN (i := 441) (by decide +kernel) rfl
theorem sX1_108 : Cond.fieldLinkNest RX1 108 RX4 (zm_st 2).1 "[I" "SnailTrails" ∈ zTN := zinN (i := 443) (by decide +kernel) rfl
theorem sX1_128 : Cond.fieldLinkNest RX1 128 RX4 (zm_st 0).1 "[I" "SnailTrails" ∈ zTN := zinN (i := 254) (by decide +kernel) rfl
theorem fX2_9 : zL RX2 9 2 0 := ⟨by decide, by decide, by decide, Or.inl (zin (i := 139) (by decide +kernel) rfl)⟩
theorem fX2_15 : zL RX2 15 2 1 := ⟨by decide, by decide, by decide, Or.inl (zin (i := 140) (by decide +kernel) rfl)⟩
theorem fX2_19 : zL RX2 19 2 2 := ⟨by decide, by decide, by decide, Or.inl (zin (i := 142) (by decide +kernel) rfl)⟩
theorem fX2_22 : zL RX2 22 2 3 := ⟨by decide, by decide, by decide, Or.inl (zin (i := 143) (by decide +kernel) rfl)⟩
theorem fX2_25 : zL RX2 25 2 4 := ⟨by decide, by decide, by decide, Or.inl (zin (i := 145) (by decide +kernel) rfl)⟩
theorem fX2_29 : zL RX2 29 2 5 := ⟨by decide, by decide, by decide, Or.inl (zin (i := 147) (by decide +kernel) rfl)⟩
theorem fX2_32 : zL RX2 32 2 6 := ⟨by decide, by decide, by decide, Or.inl (zin (i := 149) (by decide +kernel) rfl)⟩
theorem fX2_35 : zL RX2 35 2 7 := ⟨by decide, by decide, by decide, Or.inl (zin (i := 151) (by decide +kernel) rfl)⟩
theorem fX3_9 : zL RX3 9 3 0 := ⟨by decide, by decide, by decide, Or.inl (zin (i := 177) (by decide +kernel) rfl)⟩
theorem fX3_15 : zL RX3 15 3 1 := ⟨by decide, by decide, by decide, Or.inl (zin (i := 178) (by decide +kernel) rfl)⟩
theorem sX3_27 : Cond.fieldLinkNest RX3 27 RX4 (zm_st 0).1 "[I" "SnailTrails" ∈ zTN := zinN (i := 491) (by decide +kernel) rfl
theorem qX1_114 : Cond.constant RX1 114 (Int32.ofInt 99999) ∈ zT := zin (i := 233) (by decide +kernel) rfl
theorem qL_7 : Cond.constant RL 7 (Int32.ofInt 56921) ∈ zT := zin (i := 412) (by decide +kernel) rfl
theorem qL_8 : Cond.constant RL 8 (Int32.ofInt 2147483647) ∈ zT := zin (i := 413) (by decide +kernel) rfl
theorem qX3_26 : Cond.constant RX3 26 (Int32.ofInt 1000000) ∈ zT := zin (i := 490) (by decide +kernel) rfl
theorem qL_99 : Cond.constant RL 99 (Int32.ofInt 100000) ∈ zT := zin (i := 562) (by decide +kernel) rfl
theorem pMinS : Cond.static Lib.Math.min.name ∈ zT := zin (i := 224) (by decide +kernel) rfl
theorem pMinC : Cond.code Lib.Math.min.name Lib.Math.min.code 2 (some .int) ∈ zT := zin (i := 225) (by decide +kernel) rfl
theorem pMinI : Cond.initialized "java/lang/Math" ∈ zT := zin (i := 29) (by decide +kernel) rfl
theorem pCpyN : Cond.native arraycopyName ∈ zT := zin (i := 228) (by decide +kernel) rfl
theorem pCpyS : Cond.static arraycopyName ∈ zT := zin (i := 227) (by decide +kernel) rfl
theorem pCpyI : Cond.initialized "java/lang/System" ∈ zT := zin (i := 30) (by decide +kernel) rfl
