/-! ===== what the tables say of the constructors ===== -/
theorem nObI : Cond.instanceMethod Lib.objectInit ∈ zT := zin (i := 37) (by decide +kernel) rfl
theorem nObC : Cond.code Lib.objectInit ⟨#[0xb1]⟩ 1 none ∈ zT := zin (i := 38) (by decide +kernel) rfl
theorem nArr_int : Cond.arrayClass (newarray.typeOf .int) ∈ zT := zin (i := 112) (by decide +kernel) rfl
theorem nArr_char : Cond.arrayClass (newarray.typeOf .char) ∈ zT := zin (i := 170) (by decide +kernel) rfl
theorem nIns_0 : Cond.instantiable (zm_cR 0).1 (zm_cR 0).2.2 ∈ zT := zin (i := 114) (by decide +kernel) rfl
theorem nIni_0 : Cond.initialized (zm_cR 0).1 ∈ zT := zin (i := 26) (by decide +kernel) rfl
theorem nIns_1 : Cond.instantiable (zm_cR 1).1 (zm_cR 1).2.2 ∈ zT := zin (i := 40) (by decide +kernel) rfl
theorem nIni_1 : Cond.initialized (zm_cR 1).1 ∈ zT := zin (i := 24) (by decide +kernel) rfl
theorem nIns_2 : Cond.instantiable (zm_cR 2).1 (zm_cR 2).2.2 ∈ zT := zin (i := 134) (by decide +kernel) rfl
theorem nIni_2 : Cond.initialized (zm_cR 2).1 ∈ zT := zin (i := 27) (by decide +kernel) rfl
theorem nIns_3 : Cond.instantiable (zm_cR 3).1 (zm_cR 3).2.2 ∈ zT := zin (i := 172) (by decide +kernel) rfl
theorem nIni_3 : Cond.initialized (zm_cR 3).1 ∈ zT := zin (i := 28) (by decide +kernel) rfl
theorem nIns_4 : Cond.instantiable (zm_cR 4).1 (zm_cR 4).2.2 ∈ zT := zin (i := 32) (by decide +kernel) rfl
theorem nIni_4 : Cond.initialized (zm_cR 4).1 ∈ zT := zin (i := 23) (by decide +kernel) rfl
theorem nClX4_9 : Cond.classLink RX4 9 (zm_cR 1).1 ∈ zT := zin (i := 39) (by decide +kernel) rfl
theorem nClX1_51 : Cond.classLink RX1 51 "[[I" ∈ zT := zin (i := 45) (by decide +kernel) rfl
theorem nClX1_60 : Cond.classLink RX1 60 "[I" ∈ zT := zin (i := 55) (by decide +kernel) rfl
theorem nClX4_26 : Cond.classLink RX4 26 (zm_cR 0).1 ∈ zT := zin (i := 113) (by decide +kernel) rfl
theorem nClX0_9 : Cond.classLink RX0 9 (zm_cR 1).1 ∈ zT := zin (i := 119) (by decide +kernel) rfl
theorem nClX4_33 : Cond.classLink RX4 33 (zm_cR 2).1 ∈ zT := zin (i := 133) (by decide +kernel) rfl
theorem nClX4_40 : Cond.classLink RX4 40 (zm_cR 3).1 ∈ zT := zin (i := 171) (by decide +kernel) rfl
theorem nObX4 : Cond.methodLink RX4 3 Lib.objectInit ∈ zT := zin (i := 36) (by decide +kernel) rfl
theorem nObX1 : Cond.methodLink RX1 3 Lib.objectInit ∈ zT := zin (i := 44) (by decide +kernel) rfl
theorem nObX0 : Cond.methodLink RX0 3 Lib.objectInit ∈ zT := zin (i := 118) (by decide +kernel) rfl
theorem nObX2 : Cond.methodLink RX2 3 Lib.objectInit ∈ zT := zin (i := 138) (by decide +kernel) rfl
theorem nObX3 : Cond.methodLink RX3 3 Lib.objectInit ∈ zT := zin (i := 176) (by decide +kernel) rfl
theorem nK1 : Cond.methodLink RX1 59 ⟨"[I", "clone", "()Ljava/lang/Object;"⟩ ∈ zT := zin (i := 49) (by decide +kernel) rfl
theorem nK2 : Cond.sameMethod "[I" "java/lang/Object" "clone" "()Ljava/lang/Object;" ∈ zT := zin (i := 50) (by decide +kernel) rfl
theorem nK3 : Cond.native ⟨"java/lang/Object", "clone", "()Ljava/lang/Object;"⟩ ∈ zT := zin (i := 51) (by decide +kernel) rfl
theorem nK4 : Cond.instanceMethod ⟨"java/lang/Object", "clone", "()Ljava/lang/Object;"⟩ ∈ zT := zin (i := 52) (by decide +kernel) rfl
theorem nK5 : Cond.selects "[I" ⟨"[I", "clone", "()Ljava/lang/Object;"⟩ ⟨"java/lang/Object", "clone", "()Ljava/lang/Object;"⟩ ∈ zT := zin (i := 53) (by decide +kernel) rfl
theorem nFS : Cond.fieldLinkNest RX1 56 RX4 "FIRST_SETTINGS" "[I" "SnailTrails" ∈ zTN := zinN (i := 47) (by decide +kernel) rfl
abbrev YX0_init : zY := (RX0, cX0_init, 2, none, 2)
theorem mX0_init : nMk yX0_init YX0_init 0 := ⟨⟨zin (i := 26) (by decide +kernel) rfl, zin (i := 117) (by decide +kernel) rfl, ⟨by decide +kernel, by decide +kernel, by decide +kernel⟩, by decide⟩, rfl, rfl, zin (i := 116) (by decide +kernel) rfl⟩
abbrev YX1_init : zY := (RX1, cX1_init, 1, none, 1)
theorem mX1_init : nMk yX1_init YX1_init 0 := ⟨⟨zin (i := 24) (by decide +kernel) rfl, zin (i := 43) (by decide +kernel) rfl, ⟨by decide +kernel, by decide +kernel, by decide +kernel⟩, by decide⟩, rfl, rfl, zin (i := 42) (by decide +kernel) rfl⟩
abbrev YX2_init : zY := (RX2, cX2_init, 1, none, 1)
theorem mX2_init : nMk yX2_init YX2_init 0 := ⟨⟨zin (i := 27) (by decide +kernel) rfl, zin (i := 137) (by decide +kernel) rfl, ⟨by decide +kernel, by decide +kernel, by decide +kernel⟩, by decide⟩, rfl, rfl, zin (i := 136) (by decide +kernel) rfl⟩
abbrev YX3_init : zY := (RX3, cX3_init, 1, none, 1)
theorem mX3_init : nMk yX3_init YX3_init 0 := ⟨⟨zin (i := 28) (by decide +kernel) rfl, zin (i := 175) (by decide +kernel) rfl, ⟨by decide +kernel, by decide +kernel, by decide +kernel⟩, by decide⟩, rfl, rfl, zin (i := 174) (by decide +kernel) rfl⟩
abbrev YX4_init : zY := (RX4, cX4_init, 1, none, 3)
theorem mX4_init : nMk yX4_init YX4_init 0 := ⟨⟨zin (i := 23) (by decide +kernel) rfl, zin (i := 35) (by decide +kernel) rfl, ⟨by decide +kernel, by decide +kernel, by decide +kernel⟩, by decide⟩, rfl, rfl, zin (i := 34) (by decide +kernel) rfl⟩
theorem nFX0_11 : Cond.fieldLink RX0 11 (zm_cR 0).1 ((zm_cR 0).2.1 0).2.1 ((zm_cR 0).2.1 0).2.2.1 ∈ zT := zin (i := 122) (by decide +kernel) rfl
theorem nFX0_17 : Cond.fieldLink RX0 17 (zm_cR 0).1 ((zm_cR 0).2.1 1).2.1 ((zm_cR 0).2.1 1).2.2.1 ∈ zT := zin (i := 123) (by decide +kernel) rfl
theorem nFX0_21 : Cond.fieldLink RX0 21 (zm_cR 0).1 ((zm_cR 0).2.1 2).2.1 ((zm_cR 0).2.1 2).2.2.1 ∈ zT := zin (i := 125) (by decide +kernel) rfl
theorem nCX0_24 : Cond.methodLink RX0 24 yX1_init ∈ zT := zin (i := 121) (by decide +kernel) rfl
theorem nFX1_9 : Cond.fieldLink RX1 9 (zm_cR 1).1 ((zm_cR 1).2.1 0).2.1 ((zm_cR 1).2.1 0).2.2.1 ∈ zT := zin (i := 59) (by decide +kernel) rfl
theorem nFX1_15 : Cond.fieldLink RX1 15 (zm_cR 1).1 ((zm_cR 1).2.1 1).2.1 ((zm_cR 1).2.1 1).2.2.1 ∈ zT := zin (i := 60) (by decide +kernel) rfl
theorem nFX1_18 : Cond.fieldLink RX1 18 (zm_cR 1).1 ((zm_cR 1).2.1 2).2.1 ((zm_cR 1).2.1 2).2.2.1 ∈ zT := zin (i := 61) (by decide +kernel) rfl
theorem nFX1_21 : Cond.fieldLink RX1 21 (zm_cR 1).1 ((zm_cR 1).2.1 3).2.1 ((zm_cR 1).2.1 3).2.2.1 ∈ zT := zin (i := 62) (by decide +kernel) rfl
theorem nFX1_24 : Cond.fieldLink RX1 24 (zm_cR 1).1 ((zm_cR 1).2.1 4).2.1 ((zm_cR 1).2.1 4).2.2.1 ∈ zT := zin (i := 63) (by decide +kernel) rfl
theorem nFX1_27 : Cond.fieldLink RX1 27 (zm_cR 1).1 ((zm_cR 1).2.1 5).2.1 ((zm_cR 1).2.1 5).2.2.1 ∈ zT := zin (i := 64) (by decide +kernel) rfl
theorem nFX1_30 : Cond.fieldLink RX1 30 (zm_cR 1).1 ((zm_cR 1).2.1 6).2.1 ((zm_cR 1).2.1 6).2.2.1 ∈ zT := zin (i := 65) (by decide +kernel) rfl
theorem nFX1_33 : Cond.fieldLink RX1 33 (zm_cR 1).1 ((zm_cR 1).2.1 7).2.1 ((zm_cR 1).2.1 7).2.2.1 ∈ zT := zin (i := 66) (by decide +kernel) rfl
theorem nFX1_36 : Cond.fieldLink RX1 36 (zm_cR 1).1 ((zm_cR 1).2.1 8).2.1 ((zm_cR 1).2.1 8).2.2.1 ∈ zT := zin (i := 67) (by decide +kernel) rfl
theorem nFX1_39 : Cond.fieldLink RX1 39 (zm_cR 1).1 ((zm_cR 1).2.1 9).2.1 ((zm_cR 1).2.1 9).2.2.1 ∈ zT := zin (i := 68) (by decide +kernel) rfl
theorem nFX1_42 : Cond.fieldLink RX1 42 (zm_cR 1).1 ((zm_cR 1).2.1 10).2.1 ((zm_cR 1).2.1 10).2.2.1 ∈ zT := zin (i := 69) (by decide +kernel) rfl
theorem nFX1_45 : Cond.fieldLink RX1 45 (zm_cR 1).1 ((zm_cR 1).2.1 11).2.1 ((zm_cR 1).2.1 11).2.2.1 ∈ zT := zin (i := 70) (by decide +kernel) rfl
theorem nFX1_48 : Cond.fieldLink RX1 48 (zm_cR 1).1 ((zm_cR 1).2.1 12).2.1 ((zm_cR 1).2.1 12).2.2.1 ∈ zT := zin (i := 71) (by decide +kernel) rfl
theorem nFX1_53 : Cond.fieldLink RX1 53 (zm_cR 1).1 ((zm_cR 1).2.1 13).2.1 ((zm_cR 1).2.1 13).2.2.1 ∈ zT := zin (i := 72) (by decide +kernel) rfl
theorem nFX1_64 : Cond.fieldLink RX1 64 (zm_cR 1).1 ((zm_cR 1).2.1 14).2.1 ((zm_cR 1).2.1 14).2.2.1 ∈ zT := zin (i := 73) (by decide +kernel) rfl
theorem nFX1_67 : Cond.fieldLink RX1 67 (zm_cR 1).1 ((zm_cR 1).2.1 15).2.1 ((zm_cR 1).2.1 15).2.2.1 ∈ zT := zin (i := 74) (by decide +kernel) rfl
theorem nFX1_71 : Cond.fieldLink RX1 71 (zm_cR 1).1 ((zm_cR 1).2.1 16).2.1 ((zm_cR 1).2.1 16).2.2.1 ∈ zT := zin (i := 75) (by decide +kernel) rfl
theorem nCX1_74 : Cond.methodLink RX1 74 yfill ∈ zT := zin (i := 56) (by decide +kernel) rfl
theorem nFX2_9 : Cond.fieldLink RX2 9 (zm_cR 2).1 ((zm_cR 2).2.1 0).2.1 ((zm_cR 2).2.1 0).2.2.1 ∈ zT := zin (i := 139) (by decide +kernel) rfl
theorem nFX2_15 : Cond.fieldLink RX2 15 (zm_cR 2).1 ((zm_cR 2).2.1 1).2.1 ((zm_cR 2).2.1 1).2.2.1 ∈ zT := zin (i := 140) (by decide +kernel) rfl
theorem nFX2_19 : Cond.fieldLink RX2 19 (zm_cR 2).1 ((zm_cR 2).2.1 2).2.1 ((zm_cR 2).2.1 2).2.2.1 ∈ zT := zin (i := 142) (by decide +kernel) rfl
theorem nFX2_22 : Cond.fieldLink RX2 22 (zm_cR 2).1 ((zm_cR 2).2.1 3).2.1 ((zm_cR 2).2.1 3).2.2.1 ∈ zT := zin (i := 143) (by decide +kernel) rfl
theorem nFX2_25 : Cond.fieldLink RX2 25 (zm_cR 2).1 ((zm_cR 2).2.1 4).2.1 ((zm_cR 2).2.1 4).2.2.1 ∈ zT := zin (i := 145) (by decide +kernel) rfl
theorem nFX2_29 : Cond.fieldLink RX2 29 (zm_cR 2).1 ((zm_cR 2).2.1 5).2.1 ((zm_cR 2).2.1 5).2.2.1 ∈ zT := zin (i := 147) (by decide +kernel) rfl
theorem nFX2_32 : Cond.fieldLink RX2 32 (zm_cR 2).1 ((zm_cR 2).2.1 6).2.1 ((zm_cR 2).2.1 6).2.2.1 ∈ zT := zin (i := 149) (by decide +kernel) rfl
theorem nFX2_35 : Cond.fieldLink RX2 35 (zm_cR 2).1 ((zm_cR 2).2.1 7).2.1 ((zm_cR 2).2.1 7).2.2.1 ∈ zT := zin (i := 151) (by decide +kernel) rfl
theorem nFX3_9 : Cond.fieldLink RX3 9 (zm_cR 3).1 ((zm_cR 3).2.1 0).2.1 ((zm_cR 3).2.1 0).2.2.1 ∈ zT := zin (i := 177) (by decide +kernel) rfl
theorem nFX3_15 : Cond.fieldLink RX3 15 (zm_cR 3).1 ((zm_cR 3).2.1 1).2.1 ((zm_cR 3).2.1 1).2.2.1 ∈ zT := zin (i := 178) (by decide +kernel) rfl
theorem nCX4_11 : Cond.methodLink RX4 11 yX1_init ∈ zT := zin (i := 41) (by decide +kernel) rfl
theorem nFX4_12 : Cond.fieldLink RX4 12 (zm_cR 4).1 ((zm_cR 4).2.1 0).2.1 ((zm_cR 4).2.1 0).2.2.1 ∈ zT := zin (i := 184) (by decide +kernel) rfl
theorem nFX4_16 : Cond.fieldLink RX4 16 (zm_cR 4).1 ((zm_cR 4).2.1 1).2.1 ((zm_cR 4).2.1 1).2.2.1 ∈ zT := zin (i := 185) (by decide +kernel) rfl
theorem nFX4_19 : Cond.fieldLink RX4 19 (zm_cR 4).1 ((zm_cR 4).2.1 2).2.1 ((zm_cR 4).2.1 2).2.2.1 ∈ zT := zin (i := 186) (by decide +kernel) rfl
theorem nFX4_22 : Cond.fieldLink RX4 22 (zm_cR 4).1 ((zm_cR 4).2.1 3).2.1 ((zm_cR 4).2.1 3).2.2.1 ∈ zT := zin (i := 187) (by decide +kernel) rfl
theorem nCX4_28 : Cond.methodLink RX4 28 yX0_init ∈ zT := zin (i := 115) (by decide +kernel) rfl
theorem nFX4_29 : Cond.fieldLink RX4 29 (zm_cR 4).1 ((zm_cR 4).2.1 4).2.1 ((zm_cR 4).2.1 4).2.2.1 ∈ zT := zin (i := 188) (by decide +kernel) rfl
theorem nCX4_35 : Cond.methodLinkNest RX4 35 yX2_init "SnailTrails" ∈ zTN := zinN (i := 135) (by decide +kernel) rfl
theorem nFX4_36 : Cond.fieldLink RX4 36 (zm_cR 4).1 ((zm_cR 4).2.1 5).2.1 ((zm_cR 4).2.1 5).2.2.1 ∈ zT := zin (i := 189) (by decide +kernel) rfl
theorem nCX4_42 : Cond.methodLinkNest RX4 42 yX3_init "SnailTrails" ∈ zTN := zinN (i := 173) (by decide +kernel) rfl
theorem nFX4_43 : Cond.fieldLink RX4 43 (zm_cR 4).1 ((zm_cR 4).2.1 6).2.1 ((zm_cR 4).2.1 6).2.2.1 ∈ zT := zin (i := 190) (by decide +kernel) rfl
theorem nFX4_47 : Cond.fieldLink RX4 47 (zm_cR 4).1 ((zm_cR 4).2.1 7).2.1 ((zm_cR 4).2.1 7).2.2.1 ∈ zT := zin (i := 191) (by decide +kernel) rfl
theorem nFX4_51 : Cond.fieldLink RX4 51 (zm_cR 4).1 ((zm_cR 4).2.1 8).2.1 ((zm_cR 4).2.1 8).2.2.1 ∈ zT := zin (i := 192) (by decide +kernel) rfl
