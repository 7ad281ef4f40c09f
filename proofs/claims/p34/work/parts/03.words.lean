-- each word of TB, by its place
theorem tb0 : Cond.selects RX9 yX9_requireNoSession yX9_requireNoSession ∈ TB := tbm_0 (List.mem_of_getElem? (i := 0) rfl)
theorem tb1 : Cond.selects "java/lang/Throwable" ⟨"java/lang/Throwable", "fillInStackTrace", "(I)Ljava/lang/Throwable;"⟩ ⟨"java/lang/Throwable", "fillInStackTrace", "(I)Ljava/lang/Throwable;"⟩ ∈ TB := tbm_0 (List.mem_of_getElem? (i := 1) rfl)
theorem tb2 : Cond.selects RX9 yX9_requireSession yX9_requireSession ∈ TB := tbm_0 (List.mem_of_getElem? (i := 2) rfl)
theorem tb3 : Cond.selects RX9 yX9_pointsInMode yX9_pointsInMode ∈ TB := tbm_0 (List.mem_of_getElem? (i := 3) rfl)
theorem tb4 : Cond.selects RX6 yX6_signNow yX6_signNow ∈ TB := tbm_0 (List.mem_of_getElem? (i := 4) rfl)
theorem tb5 : Cond.selects RX6 yX6_beginNext yX6_beginNext ∈ TB := tbm_0 (List.mem_of_getElem? (i := 5) rfl)
theorem tb6 : Cond.selects RX6 yX6_hasNext yX6_hasNext ∈ TB := tbm_0 (List.mem_of_getElem? (i := 6) rfl)
theorem tb7 : Cond.selects RX6 yX6_rungByThroughput yX6_rungByThroughput ∈ TB := tbm_0 (List.mem_of_getElem? (i := 7) rfl)
theorem tb8 : Cond.selects RX6 yX6_rungByBuffer yX6_rungByBuffer ∈ TB := tbm_0 (List.mem_of_getElem? (i := 8) rfl)
theorem tb9 : Cond.selects RX6 yX6_beginDownload yX6_beginDownload ∈ TB := tbm_0 (List.mem_of_getElem? (i := 9) rfl)
theorem tb10 : Cond.selects RX6 yX6_receive yX6_receive ∈ TB := tbm_0 (List.mem_of_getElem? (i := 10) rfl)
theorem tb11 : Cond.selects RX6 yX6_mayBeAbandoned yX6_mayBeAbandoned ∈ TB := tbm_0 (List.mem_of_getElem? (i := 11) rfl)
theorem tb12 : Cond.selects RX6 yX6_abandonIfSlow yX6_abandonIfSlow ∈ TB := tbm_0 (List.mem_of_getElem? (i := 12) rfl)
theorem tb13 : Cond.selects RX6 yX6_isReadyToPlay yX6_isReadyToPlay ∈ TB := tbm_0 (List.mem_of_getElem? (i := 13) rfl)
theorem tb14 : Cond.selects RX6 yX6_smallestBuffer yX6_smallestBuffer ∈ TB := tbm_0 (List.mem_of_getElem? (i := 14) rfl)
theorem tb15 : Cond.selects RX6 yX6_isAllDownloaded yX6_isAllDownloaded ∈ TB := tbm_0 (List.mem_of_getElem? (i := 15) rfl)
theorem tb16 : Cond.selects RX6 yX6_play yX6_play ∈ TB := tbm_0 (List.mem_of_getElem? (i := 16) rfl)
theorem tb17 : Cond.selects RX6 yX6_leavePlaying yX6_leavePlaying ∈ TB := tbm_0 (List.mem_of_getElem? (i := 17) rfl)
theorem tb18 : Cond.selects RX6 yX6_isCatchingUp yX6_isCatchingUp ∈ TB := tbm_0 (List.mem_of_getElem? (i := 18) rfl)
theorem tb19 : Cond.selects RX9 yX9_playsWithoutStall yX9_playsWithoutStall ∈ TB := tbm_0 (List.mem_of_getElem? (i := 19) rfl)
theorem tb20 : Cond.initialized RL ∈ TB := tbm_1 (List.mem_of_getElem? (i := 0) rfl) rfl
theorem tb21 : Cond.initialized RX9 ∈ TB := tbm_1 (List.mem_of_getElem? (i := 1) rfl) rfl
theorem tb22 : Cond.initialized RX8 ∈ TB := tbm_1 (List.mem_of_getElem? (i := 2) rfl) rfl
theorem tb23 : Cond.initialized RX2 ∈ TB := tbm_1 (List.mem_of_getElem? (i := 3) rfl) rfl
theorem tb24 : Cond.initialized RX4 ∈ TB := tbm_1 (List.mem_of_getElem? (i := 4) rfl) rfl
theorem tb25 : Cond.initialized RX6 ∈ TB := tbm_1 (List.mem_of_getElem? (i := 5) rfl) rfl
theorem tb26 : Cond.initialized RX7 ∈ TB := tbm_1 (List.mem_of_getElem? (i := 6) rfl) rfl
theorem tb27 : Cond.initialized RX5 ∈ TB := tbm_1 (List.mem_of_getElem? (i := 7) rfl) rfl
theorem tb28 : Cond.initialized RX1 ∈ TB := tbm_1 (List.mem_of_getElem? (i := 8) rfl) rfl
theorem tb29 : Cond.initialized RX0 ∈ TB := tbm_1 (List.mem_of_getElem? (i := 9) rfl) rfl
theorem tb30 : Cond.initialized RX3 ∈ TB := tbm_1 (List.mem_of_getElem? (i := 10) rfl) rfl
theorem tb31 : Cond.initialized "java/lang/Throwable" ∈ TB := tbm_1 (List.mem_of_getElem? (i := 11) rfl) rfl
theorem tb32 : Cond.initialized "java/lang/Exception" ∈ TB := tbm_1 (List.mem_of_getElem? (i := 12) rfl) rfl
theorem tb33 : Cond.initialized "java/lang/RuntimeException" ∈ TB := tbm_1 (List.mem_of_getElem? (i := 13) rfl) rfl
theorem tb34 : Cond.initialized "java/lang/IllegalStateException" ∈ TB := tbm_1 (List.mem_of_getElem? (i := 14) rfl) rfl
theorem tb35 : Cond.initialized "java/lang/IllegalArgumentException" ∈ TB := tbm_1 (List.mem_of_getElem? (i := 15) rfl) rfl
theorem tb36 : Cond.initialized "java/lang/Math" ∈ TB := tbm_1 (List.mem_of_getElem? (i := 16) rfl) rfl
theorem tb37 : Cond.initialized "java/lang/System" ∈ TB := tbm_1 (List.mem_of_getElem? (i := 17) rfl) rfl
theorem tb38 : Cond.initialized "java/lang/IndexOutOfBoundsException" ∈ TB := tbm_1 (List.mem_of_getElem? (i := 18) rfl) rfl
theorem tb39 : Cond.classLink RL 10 RX9 ∈ TB := tbm_1 (List.mem_of_getElem? (i := 19) rfl) rfl
theorem tb40 : Cond.instantiable RX9 3 ∈ TB := tbm_1 (List.mem_of_getElem? (i := 20) rfl) rfl
theorem tb41 : Cond.methodLink RL 125 yX9_init ∈ TB := tbm_1 (List.mem_of_getElem? (i := 21) rfl) rfl
theorem tb42 : Cond.instanceMethod yX9_init ∈ TB := tbm_1 (List.mem_of_getElem? (i := 22) rfl) rfl
theorem tb43 : Cond.code yX9_init cX9_init 2 none ∈ TB := tbm_1 (List.mem_of_getElem? (i := 23) rfl) rfl
theorem tb44 : Cond.methodLink RX9 1 ⟨"java/lang/Object", "<init>", "()V"⟩ ∈ TB := tbm_1 (List.mem_of_getElem? (i := 24) rfl) rfl
theorem tb45 : Cond.instanceMethod ⟨"java/lang/Object", "<init>", "()V"⟩ ∈ TB := tbm_1 (List.mem_of_getElem? (i := 25) rfl) rfl
theorem tb46 : Cond.code ⟨"java/lang/Object", "<init>", "()V"⟩ object_method_1_code 1 none ∈ TB := tbm_1 (List.mem_of_getElem? (i := 26) rfl) rfl
theorem tb47 : Cond.classLink RX9 7 RX8 ∈ TB := tbm_1 (List.mem_of_getElem? (i := 27) rfl) rfl
theorem tb48 : Cond.instantiable RX8 4 ∈ TB := tbm_1 (List.mem_of_getElem? (i := 28) rfl) rfl
theorem tb49 : Cond.instanceMethod yX8_init ∈ TB := tbm_1 (List.mem_of_getElem? (i := 30) rfl) rfl
theorem tb50 : Cond.code yX8_init cX8_init 1 none ∈ TB := tbm_1 (List.mem_of_getElem? (i := 31) rfl) rfl
theorem tb51 : Cond.methodLink RX8 3 ⟨"java/lang/Object", "<init>", "()V"⟩ ∈ TB := tbm_1 (List.mem_of_getElem? (i := 32) rfl) rfl
theorem tb52 : Cond.methodLink RX8 13 ⟨"[I", "clone", "()Ljava/lang/Object;"⟩ ∈ TB := tbm_1 (List.mem_of_getElem? (i := 35) rfl) rfl
theorem tb53 : Cond.sameMethod "[I" "java/lang/Object" "clone" "()Ljava/lang/Object;" ∈ TB := tbm_1 (List.mem_of_getElem? (i := 36) rfl) rfl
theorem tb54 : Cond.native ⟨"java/lang/Object", "clone", "()Ljava/lang/Object;"⟩ ∈ TB := tbm_1 (List.mem_of_getElem? (i := 37) rfl) rfl
theorem tb55 : Cond.instanceMethod ⟨"java/lang/Object", "clone", "()Ljava/lang/Object;"⟩ ∈ TB := tbm_1 (List.mem_of_getElem? (i := 38) rfl) rfl
theorem tb56 : Cond.selects "[I" ⟨"[I", "clone", "()Ljava/lang/Object;"⟩ ⟨"java/lang/Object", "clone", "()Ljava/lang/Object;"⟩ ∈ TB := tbm_1 (List.mem_of_getElem? (i := 39) rfl) rfl
theorem tb57 : Cond.classLink RX8 14 "[I" ∈ TB := tbm_1 (List.mem_of_getElem? (i := 41) rfl) rfl
theorem tb58 : Cond.classLink RX8 23 RX2 ∈ TB := tbm_1 (List.mem_of_getElem? (i := 42) rfl) rfl
theorem tb59 : Cond.instantiable RX2 3 ∈ TB := tbm_1 (List.mem_of_getElem? (i := 43) rfl) rfl
theorem tb60 : Cond.methodLink RX8 25 yX2_init ∈ TB := tbm_1 (List.mem_of_getElem? (i := 44) rfl) rfl
theorem tb61 : Cond.instanceMethod yX2_init ∈ TB := tbm_1 (List.mem_of_getElem? (i := 45) rfl) rfl
theorem tb62 : Cond.code yX2_init cX2_init 2 none ∈ TB := tbm_1 (List.mem_of_getElem? (i := 46) rfl) rfl
theorem tb63 : Cond.methodLink RX2 3 ⟨"java/lang/Object", "<init>", "()V"⟩ ∈ TB := tbm_1 (List.mem_of_getElem? (i := 47) rfl) rfl
theorem tb64 : Cond.fieldLink RX2 9 "StreamPlayer$Ladder" "rates" "[I" ∈ TB := tbm_1 (List.mem_of_getElem? (i := 48) rfl) rfl
theorem tb65 : Cond.fieldLink RX2 15 "StreamPlayer$Ladder" "most" "I" ∈ TB := tbm_1 (List.mem_of_getElem? (i := 49) rfl) rfl
theorem tb66 : Cond.fieldLink RX2 19 "StreamPlayer$Ladder" "rungs" "I" ∈ TB := tbm_1 (List.mem_of_getElem? (i := 50) rfl) rfl
theorem tb67 : Cond.fieldLink RX8 52 "StreamPlayer$Ladder" "rungs" "I" ∈ TB := tbm_1 (List.mem_of_getElem? (i := 51) rfl) rfl
theorem tb68 : Cond.fieldLink RX9 94 "StreamPlayer$Ladder" "rungs" "I" ∈ TB := tbm_1 (List.mem_of_getElem? (i := 52) rfl) rfl
theorem tb69 : Cond.fieldLink RX6 171 "StreamPlayer$Ladder" "rungs" "I" ∈ TB := tbm_1 (List.mem_of_getElem? (i := 53) rfl) rfl
theorem tb70 : Cond.laysFinal RX2 "StreamPlayer$Ladder" "rates" "[I" ∈ TB := tbm_1 (List.mem_of_getElem? (i := 54) rfl) rfl
theorem tb71 : Cond.soleField RX2 "rates" ∈ TB := tbm_1 (List.mem_of_getElem? (i := 55) rfl) rfl
theorem tb72 : Cond.laysFinal RX2 "StreamPlayer$Ladder" "most" "I" ∈ TB := tbm_1 (List.mem_of_getElem? (i := 56) rfl) rfl
theorem tb73 : Cond.soleField RX2 "most" ∈ TB := tbm_1 (List.mem_of_getElem? (i := 57) rfl) rfl
theorem tb74 : Cond.lays RX2 "StreamPlayer$Ladder" "rungs" "I" ∈ TB := tbm_1 (List.mem_of_getElem? (i := 58) rfl) rfl
theorem tb75 : Cond.soleField RX2 "rungs" ∈ TB := tbm_1 (List.mem_of_getElem? (i := 59) rfl) rfl
theorem tb76 : Cond.superclass RX2 "java/lang/Object" ∈ TB := tbm_1 (List.mem_of_getElem? (i := 60) rfl) rfl
theorem tb77 : Cond.arrayClass .int ∈ TB := tbm_1 (List.mem_of_getElem? (i := 61) rfl) rfl
theorem tb78 : Cond.classLink RX8 35 RX4 ∈ TB := tbm_1 (List.mem_of_getElem? (i := 62) rfl) rfl
theorem tb79 : Cond.instantiable RX4 4 ∈ TB := tbm_1 (List.mem_of_getElem? (i := 63) rfl) rfl
theorem tb80 : Cond.instanceMethod yX4_init ∈ TB := tbm_1 (List.mem_of_getElem? (i := 65) rfl) rfl
theorem tb81 : Cond.code yX4_init cX4_init 1 none ∈ TB := tbm_1 (List.mem_of_getElem? (i := 66) rfl) rfl
theorem tb82 : Cond.methodLink RX4 3 ⟨"java/lang/Object", "<init>", "()V"⟩ ∈ TB := tbm_1 (List.mem_of_getElem? (i := 67) rfl) rfl
theorem tb83 : Cond.fieldLink RX4 9 "StreamPlayer$Plan" "lengths" "[I" ∈ TB := tbm_1 (List.mem_of_getElem? (i := 68) rfl) rfl
theorem tb84 : Cond.fieldLink RX4 15 "StreamPlayer$Plan" "rates" "[I" ∈ TB := tbm_1 (List.mem_of_getElem? (i := 69) rfl) rfl
theorem tb85 : Cond.fieldLink RX4 22 "StreamPlayer$Plan" "total" "I" ∈ TB := tbm_1 (List.mem_of_getElem? (i := 70) rfl) rfl
theorem tb86 : Cond.fieldLink RX4 18 "StreamPlayer$Plan" "phases" "I" ∈ TB := tbm_1 (List.mem_of_getElem? (i := 71) rfl) rfl
theorem tb87 : Cond.fieldLink RX9 84 "StreamPlayer$Plan" "phases" "I" ∈ TB := tbm_1 (List.mem_of_getElem? (i := 72) rfl) rfl
theorem tb88 : Cond.fieldLink RX8 59 "StreamPlayer$Plan" "phases" "I" ∈ TB := tbm_1 (List.mem_of_getElem? (i := 73) rfl) rfl
theorem tb89 : Cond.laysFinal RX4 "StreamPlayer$Plan" "lengths" "[I" ∈ TB := tbm_1 (List.mem_of_getElem? (i := 74) rfl) rfl
theorem tb90 : Cond.soleField RX4 "lengths" ∈ TB := tbm_1 (List.mem_of_getElem? (i := 75) rfl) rfl
theorem tb91 : Cond.laysFinal RX4 "StreamPlayer$Plan" "rates" "[I" ∈ TB := tbm_1 (List.mem_of_getElem? (i := 76) rfl) rfl
theorem tb92 : Cond.soleField RX4 "rates" ∈ TB := tbm_1 (List.mem_of_getElem? (i := 77) rfl) rfl
theorem tb93 : Cond.lays RX4 "StreamPlayer$Plan" "total" "I" ∈ TB := tbm_1 (List.mem_of_getElem? (i := 78) rfl) rfl
theorem tb94 : Cond.soleField RX4 "total" ∈ TB := tbm_1 (List.mem_of_getElem? (i := 79) rfl) rfl
theorem tb95 : Cond.lays RX4 "StreamPlayer$Plan" "phases" "I" ∈ TB := tbm_1 (List.mem_of_getElem? (i := 80) rfl) rfl
theorem tb96 : Cond.soleField RX4 "phases" ∈ TB := tbm_1 (List.mem_of_getElem? (i := 81) rfl) rfl
theorem tb97 : Cond.superclass RX4 "java/lang/Object" ∈ TB := tbm_1 (List.mem_of_getElem? (i := 82) rfl) rfl
theorem tb98 : Cond.fieldLink RX8 18 "StreamPlayer$Stream" "values" "[I" ∈ TB := tbm_1 (List.mem_of_getElem? (i := 83) rfl) rfl
theorem tb99 : Cond.fieldLink RX8 28 "StreamPlayer$Stream" "video" "LStreamPlayer$Ladder;" ∈ TB := tbm_1 (List.mem_of_getElem? (i := 84) rfl) rfl
theorem tb100 : Cond.fieldLink RX6 266 "StreamPlayer$Stream" "video" "LStreamPlayer$Ladder;" ∈ TB := tbm_1 (List.mem_of_getElem? (i := 85) rfl) rfl
theorem tb101 : Cond.fieldLink RX8 32 "StreamPlayer$Stream" "audio" "LStreamPlayer$Ladder;" ∈ TB := tbm_1 (List.mem_of_getElem? (i := 86) rfl) rfl
theorem tb102 : Cond.fieldLink RX6 156 "StreamPlayer$Stream" "audio" "LStreamPlayer$Ladder;" ∈ TB := tbm_1 (List.mem_of_getElem? (i := 87) rfl) rfl
theorem tb103 : Cond.fieldLink RX8 38 "StreamPlayer$Stream" "plan" "LStreamPlayer$Plan;" ∈ TB := tbm_1 (List.mem_of_getElem? (i := 88) rfl) rfl
theorem tb104 : Cond.fieldLink RX9 74 "StreamPlayer$Stream" "plan" "LStreamPlayer$Plan;" ∈ TB := tbm_1 (List.mem_of_getElem? (i := 89) rfl) rfl
theorem tb105 : Cond.fieldLink RX6 212 "StreamPlayer$Stream" "plan" "LStreamPlayer$Plan;" ∈ TB := tbm_1 (List.mem_of_getElem? (i := 90) rfl) rfl
theorem tb106 : Cond.laysFinal RX8 "StreamPlayer$Stream" "values" "[I" ∈ TB := tbm_1 (List.mem_of_getElem? (i := 91) rfl) rfl
theorem tb107 : Cond.soleField RX8 "values" ∈ TB := tbm_1 (List.mem_of_getElem? (i := 92) rfl) rfl
theorem tb108 : Cond.laysFinal RX8 "StreamPlayer$Stream" "video" "LStreamPlayer$Ladder;" ∈ TB := tbm_1 (List.mem_of_getElem? (i := 93) rfl) rfl
theorem tb109 : Cond.soleField RX8 "video" ∈ TB := tbm_1 (List.mem_of_getElem? (i := 94) rfl) rfl
theorem tb110 : Cond.laysFinal RX8 "StreamPlayer$Stream" "audio" "LStreamPlayer$Ladder;" ∈ TB := tbm_1 (List.mem_of_getElem? (i := 95) rfl) rfl
theorem tb111 : Cond.soleField RX8 "audio" ∈ TB := tbm_1 (List.mem_of_getElem? (i := 96) rfl) rfl
theorem tb112 : Cond.laysFinal RX8 "StreamPlayer$Stream" "plan" "LStreamPlayer$Plan;" ∈ TB := tbm_1 (List.mem_of_getElem? (i := 97) rfl) rfl
theorem tb113 : Cond.soleField RX8 "plan" ∈ TB := tbm_1 (List.mem_of_getElem? (i := 98) rfl) rfl
theorem tb114 : Cond.superclass RX8 "java/lang/Object" ∈ TB := tbm_1 (List.mem_of_getElem? (i := 99) rfl) rfl
theorem tb115 : Cond.classLink RX9 16 RX6 ∈ TB := tbm_1 (List.mem_of_getElem? (i := 100) rfl) rfl
theorem tb116 : Cond.instantiable RX6 14 ∈ TB := tbm_1 (List.mem_of_getElem? (i := 101) rfl) rfl
theorem tb117 : Cond.methodLink RX9 18 yX6_init ∈ TB := tbm_1 (List.mem_of_getElem? (i := 102) rfl) rfl
theorem tb118 : Cond.instanceMethod yX6_init ∈ TB := tbm_1 (List.mem_of_getElem? (i := 103) rfl) rfl
theorem tb119 : Cond.code yX6_init cX6_init 2 none ∈ TB := tbm_1 (List.mem_of_getElem? (i := 104) rfl) rfl
theorem tb120 : Cond.methodLink RX6 3 ⟨"java/lang/Object", "<init>", "()V"⟩ ∈ TB := tbm_1 (List.mem_of_getElem? (i := 105) rfl) rfl
theorem tb121 : Cond.classLink RX6 9 RX7 ∈ TB := tbm_1 (List.mem_of_getElem? (i := 106) rfl) rfl
theorem tb122 : Cond.instantiable RX7 2 ∈ TB := tbm_1 (List.mem_of_getElem? (i := 107) rfl) rfl
theorem tb123 : Cond.instanceMethod yX7_init ∈ TB := tbm_1 (List.mem_of_getElem? (i := 109) rfl) rfl
theorem tb124 : Cond.code yX7_init cX7_init 1 none ∈ TB := tbm_1 (List.mem_of_getElem? (i := 110) rfl) rfl
theorem tb125 : Cond.methodLink RX7 3 ⟨"java/lang/Object", "<init>", "()V"⟩ ∈ TB := tbm_1 (List.mem_of_getElem? (i := 111) rfl) rfl
theorem tb126 : Cond.fieldLink RX7 9 "StreamPlayer$Shelf" "rungs" "[I" ∈ TB := tbm_1 (List.mem_of_getElem? (i := 112) rfl) rfl
theorem tb127 : Cond.fieldLink RX7 15 "StreamPlayer$Shelf" "segments" "I" ∈ TB := tbm_1 (List.mem_of_getElem? (i := 113) rfl) rfl
theorem tb128 : Cond.fieldLink RX6 145 "StreamPlayer$Shelf" "segments" "I" ∈ TB := tbm_1 (List.mem_of_getElem? (i := 114) rfl) rfl
theorem tb129 : Cond.fieldLink RX9 137 "StreamPlayer$Shelf" "segments" "I" ∈ TB := tbm_1 (List.mem_of_getElem? (i := 115) rfl) rfl
theorem tb130 : Cond.laysFinal RX7 "StreamPlayer$Shelf" "rungs" "[I" ∈ TB := tbm_1 (List.mem_of_getElem? (i := 116) rfl) rfl
theorem tb131 : Cond.soleField RX7 "rungs" ∈ TB := tbm_1 (List.mem_of_getElem? (i := 117) rfl) rfl
theorem tb132 : Cond.lays RX7 "StreamPlayer$Shelf" "segments" "I" ∈ TB := tbm_1 (List.mem_of_getElem? (i := 118) rfl) rfl
theorem tb133 : Cond.soleField RX7 "segments" ∈ TB := tbm_1 (List.mem_of_getElem? (i := 119) rfl) rfl
theorem tb134 : Cond.superclass RX7 "java/lang/Object" ∈ TB := tbm_1 (List.mem_of_getElem? (i := 120) rfl) rfl
theorem tb135 : Cond.classLink RX6 21 RX5 ∈ TB := tbm_1 (List.mem_of_getElem? (i := 121) rfl) rfl
theorem tb136 : Cond.instantiable RX5 3 ∈ TB := tbm_1 (List.mem_of_getElem? (i := 122) rfl) rfl
theorem tb137 : Cond.instanceMethod yX5_init ∈ TB := tbm_1 (List.mem_of_getElem? (i := 124) rfl) rfl
theorem tb138 : Cond.code yX5_init cX5_init 1 none ∈ TB := tbm_1 (List.mem_of_getElem? (i := 125) rfl) rfl
theorem tb139 : Cond.methodLink RX5 3 ⟨"java/lang/Object", "<init>", "()V"⟩ ∈ TB := tbm_1 (List.mem_of_getElem? (i := 126) rfl) rfl
theorem tb140 : Cond.fieldLink RX5 9 "StreamPlayer$Samples" "bits" "[J" ∈ TB := tbm_1 (List.mem_of_getElem? (i := 127) rfl) rfl
theorem tb141 : Cond.fieldLink RX5 15 "StreamPlayer$Samples" "durations" "[J" ∈ TB := tbm_1 (List.mem_of_getElem? (i := 128) rfl) rfl
theorem tb142 : Cond.fieldLink RX5 18 "StreamPlayer$Samples" "kept" "I" ∈ TB := tbm_1 (List.mem_of_getElem? (i := 129) rfl) rfl
theorem tb143 : Cond.laysFinal RX5 "StreamPlayer$Samples" "bits" "[J" ∈ TB := tbm_1 (List.mem_of_getElem? (i := 130) rfl) rfl
theorem tb144 : Cond.soleField RX5 "bits" ∈ TB := tbm_1 (List.mem_of_getElem? (i := 131) rfl) rfl
theorem tb145 : Cond.laysFinal RX5 "StreamPlayer$Samples" "durations" "[J" ∈ TB := tbm_1 (List.mem_of_getElem? (i := 132) rfl) rfl
theorem tb146 : Cond.soleField RX5 "durations" ∈ TB := tbm_1 (List.mem_of_getElem? (i := 133) rfl) rfl
theorem tb147 : Cond.lays RX5 "StreamPlayer$Samples" "kept" "I" ∈ TB := tbm_1 (List.mem_of_getElem? (i := 134) rfl) rfl
theorem tb148 : Cond.soleField RX5 "kept" ∈ TB := tbm_1 (List.mem_of_getElem? (i := 135) rfl) rfl
theorem tb149 : Cond.superclass RX5 "java/lang/Object" ∈ TB := tbm_1 (List.mem_of_getElem? (i := 136) rfl) rfl
theorem tb150 : Cond.arrayClass .long ∈ TB := tbm_1 (List.mem_of_getElem? (i := 137) rfl) rfl
theorem tb151 : Cond.classLink RX6 28 RX1 ∈ TB := tbm_1 (List.mem_of_getElem? (i := 138) rfl) rfl
theorem tb152 : Cond.instantiable RX1 8 ∈ TB := tbm_1 (List.mem_of_getElem? (i := 139) rfl) rfl
theorem tb153 : Cond.instanceMethod yX1_init ∈ TB := tbm_1 (List.mem_of_getElem? (i := 141) rfl) rfl
theorem tb154 : Cond.code yX1_init cX1_init 1 none ∈ TB := tbm_1 (List.mem_of_getElem? (i := 142) rfl) rfl
theorem tb155 : Cond.methodLink RX1 1 ⟨"java/lang/Object", "<init>", "()V"⟩ ∈ TB := tbm_1 (List.mem_of_getElem? (i := 143) rfl) rfl
theorem tb156 : Cond.fieldLink RX1 7 "StreamPlayer$Download" "going" "Z" ∈ TB := tbm_1 (List.mem_of_getElem? (i := 144) rfl) rfl
theorem tb157 : Cond.fieldLink RX6 69 "StreamPlayer$Download" "going" "Z" ∈ TB := tbm_1 (List.mem_of_getElem? (i := 145) rfl) rfl
theorem tb158 : Cond.fieldLink RX1 13 "StreamPlayer$Download" "track" "I" ∈ TB := tbm_1 (List.mem_of_getElem? (i := 146) rfl) rfl
theorem tb159 : Cond.fieldLink RX6 186 "StreamPlayer$Download" "track" "I" ∈ TB := tbm_1 (List.mem_of_getElem? (i := 147) rfl) rfl
theorem tb160 : Cond.fieldLink RX1 17 "StreamPlayer$Download" "segment" "I" ∈ TB := tbm_1 (List.mem_of_getElem? (i := 148) rfl) rfl
theorem tb161 : Cond.fieldLink RX6 189 "StreamPlayer$Download" "segment" "I" ∈ TB := tbm_1 (List.mem_of_getElem? (i := 149) rfl) rfl
theorem tb162 : Cond.fieldLink RX1 20 "StreamPlayer$Download" "rung" "I" ∈ TB := tbm_1 (List.mem_of_getElem? (i := 150) rfl) rfl
theorem tb163 : Cond.fieldLink RX6 192 "StreamPlayer$Download" "rung" "I" ∈ TB := tbm_1 (List.mem_of_getElem? (i := 151) rfl) rfl
theorem tb164 : Cond.fieldLink RX1 23 "StreamPlayer$Download" "waiting" "I" ∈ TB := tbm_1 (List.mem_of_getElem? (i := 152) rfl) rfl
theorem tb165 : Cond.fieldLink RX6 195 "StreamPlayer$Download" "waiting" "I" ∈ TB := tbm_1 (List.mem_of_getElem? (i := 153) rfl) rfl
theorem tb166 : Cond.fieldLink RX1 26 "StreamPlayer$Download" "duration" "I" ∈ TB := tbm_1 (List.mem_of_getElem? (i := 154) rfl) rfl
theorem tb167 : Cond.fieldLink RX6 198 "StreamPlayer$Download" "duration" "I" ∈ TB := tbm_1 (List.mem_of_getElem? (i := 155) rfl) rfl
theorem tb168 : Cond.fieldLink RX1 29 "StreamPlayer$Download" "bits" "J" ∈ TB := tbm_1 (List.mem_of_getElem? (i := 156) rfl) rfl
theorem tb169 : Cond.fieldLink RX6 205 "StreamPlayer$Download" "bits" "J" ∈ TB := tbm_1 (List.mem_of_getElem? (i := 157) rfl) rfl
theorem tb170 : Cond.fieldLink RX1 33 "StreamPlayer$Download" "received" "J" ∈ TB := tbm_1 (List.mem_of_getElem? (i := 158) rfl) rfl
theorem tb171 : Cond.fieldLink RX6 209 "StreamPlayer$Download" "received" "J" ∈ TB := tbm_1 (List.mem_of_getElem? (i := 159) rfl) rfl
theorem tb172 : Cond.lays RX1 "StreamPlayer$Download" "going" "Z" ∈ TB := tbm_1 (List.mem_of_getElem? (i := 160) rfl) rfl
theorem tb173 : Cond.soleField RX1 "going" ∈ TB := tbm_1 (List.mem_of_getElem? (i := 161) rfl) rfl
theorem tb174 : Cond.lays RX1 "StreamPlayer$Download" "track" "I" ∈ TB := tbm_1 (List.mem_of_getElem? (i := 162) rfl) rfl
theorem tb175 : Cond.soleField RX1 "track" ∈ TB := tbm_1 (List.mem_of_getElem? (i := 163) rfl) rfl
theorem tb176 : Cond.lays RX1 "StreamPlayer$Download" "segment" "I" ∈ TB := tbm_1 (List.mem_of_getElem? (i := 164) rfl) rfl
theorem tb177 : Cond.soleField RX1 "segment" ∈ TB := tbm_1 (List.mem_of_getElem? (i := 165) rfl) rfl
theorem tb178 : Cond.lays RX1 "StreamPlayer$Download" "rung" "I" ∈ TB := tbm_1 (List.mem_of_getElem? (i := 166) rfl) rfl
theorem tb179 : Cond.soleField RX1 "rung" ∈ TB := tbm_1 (List.mem_of_getElem? (i := 167) rfl) rfl
theorem tb180 : Cond.lays RX1 "StreamPlayer$Download" "waiting" "I" ∈ TB := tbm_1 (List.mem_of_getElem? (i := 168) rfl) rfl
theorem tb181 : Cond.soleField RX1 "waiting" ∈ TB := tbm_1 (List.mem_of_getElem? (i := 169) rfl) rfl
theorem tb182 : Cond.lays RX1 "StreamPlayer$Download" "duration" "I" ∈ TB := tbm_1 (List.mem_of_getElem? (i := 170) rfl) rfl
theorem tb183 : Cond.soleField RX1 "duration" ∈ TB := tbm_1 (List.mem_of_getElem? (i := 171) rfl) rfl
theorem tb184 : Cond.lays RX1 "StreamPlayer$Download" "bits" "J" ∈ TB := tbm_1 (List.mem_of_getElem? (i := 172) rfl) rfl
theorem tb185 : Cond.soleField RX1 "bits" ∈ TB := tbm_1 (List.mem_of_getElem? (i := 173) rfl) rfl
theorem tb186 : Cond.lays RX1 "StreamPlayer$Download" "received" "J" ∈ TB := tbm_1 (List.mem_of_getElem? (i := 174) rfl) rfl
theorem tb187 : Cond.soleField RX1 "received" ∈ TB := tbm_1 (List.mem_of_getElem? (i := 175) rfl) rfl
theorem tb188 : Cond.superclass RX1 "java/lang/Object" ∈ TB := tbm_1 (List.mem_of_getElem? (i := 176) rfl) rfl
theorem tb189 : Cond.classLink RX6 35 RX0 ∈ TB := tbm_1 (List.mem_of_getElem? (i := 177) rfl) rfl
theorem tb190 : Cond.instantiable RX0 9 ∈ TB := tbm_1 (List.mem_of_getElem? (i := 178) rfl) rfl
theorem tb191 : Cond.instanceMethod yX0_init ∈ TB := tbm_1 (List.mem_of_getElem? (i := 180) rfl) rfl
theorem tb192 : Cond.code yX0_init cX0_init 1 none ∈ TB := tbm_1 (List.mem_of_getElem? (i := 181) rfl) rfl
theorem tb193 : Cond.methodLink RX0 3 ⟨"java/lang/Object", "<init>", "()V"⟩ ∈ TB := tbm_1 (List.mem_of_getElem? (i := 182) rfl) rfl
theorem tb194 : Cond.fieldLink RX0 9 "StreamPlayer$Accounts" "startUpTime" "I" ∈ TB := tbm_1 (List.mem_of_getElem? (i := 183) rfl) rfl
theorem tb195 : Cond.fieldLink RX0 15 "StreamPlayer$Accounts" "stallTime" "I" ∈ TB := tbm_1 (List.mem_of_getElem? (i := 184) rfl) rfl
theorem tb196 : Cond.fieldLink RX0 18 "StreamPlayer$Accounts" "playTime" "I" ∈ TB := tbm_1 (List.mem_of_getElem? (i := 185) rfl) rfl
theorem tb197 : Cond.fieldLink RX0 21 "StreamPlayer$Accounts" "stalls" "I" ∈ TB := tbm_1 (List.mem_of_getElem? (i := 186) rfl) rfl
theorem tb198 : Cond.fieldLink RX6 274 "StreamPlayer$Accounts" "stalls" "I" ∈ TB := tbm_1 (List.mem_of_getElem? (i := 187) rfl) rfl
theorem tb199 : Cond.fieldLink RX9 227 "StreamPlayer$Accounts" "stalls" "I" ∈ TB := tbm_1 (List.mem_of_getElem? (i := 188) rfl) rfl
theorem tb200 : Cond.fieldLink RX0 24 "StreamPlayer$Accounts" "abandoned" "I" ∈ TB := tbm_1 (List.mem_of_getElem? (i := 189) rfl) rfl
theorem tb201 : Cond.fieldLink RX6 245 "StreamPlayer$Accounts" "abandoned" "I" ∈ TB := tbm_1 (List.mem_of_getElem? (i := 190) rfl) rfl
theorem tb202 : Cond.fieldLink RX0 27 "StreamPlayer$Accounts" "finished" "I" ∈ TB := tbm_1 (List.mem_of_getElem? (i := 191) rfl) rfl
theorem tb203 : Cond.fieldLink RX6 230 "StreamPlayer$Accounts" "finished" "I" ∈ TB := tbm_1 (List.mem_of_getElem? (i := 192) rfl) rfl
theorem tb204 : Cond.fieldLink RX0 30 "StreamPlayer$Accounts" "switches" "I" ∈ TB := tbm_1 (List.mem_of_getElem? (i := 193) rfl) rfl
theorem tb205 : Cond.fieldLink RX6 238 "StreamPlayer$Accounts" "switches" "I" ∈ TB := tbm_1 (List.mem_of_getElem? (i := 194) rfl) rfl
theorem tb206 : Cond.fieldLink RX0 33 "StreamPlayer$Accounts" "wasted" "J" ∈ TB := tbm_1 (List.mem_of_getElem? (i := 195) rfl) rfl
theorem tb207 : Cond.fieldLink RX6 248 "StreamPlayer$Accounts" "wasted" "J" ∈ TB := tbm_1 (List.mem_of_getElem? (i := 196) rfl) rfl
theorem tb208 : Cond.fieldLink RX9 185 "StreamPlayer$Accounts" "wasted" "J" ∈ TB := tbm_1 (List.mem_of_getElem? (i := 197) rfl) rfl
theorem tb209 : Cond.fieldLink RX0 37 "StreamPlayer$Accounts" "quality" "J" ∈ TB := tbm_1 (List.mem_of_getElem? (i := 198) rfl) rfl
theorem tb210 : Cond.fieldLink RX6 263 "StreamPlayer$Accounts" "quality" "J" ∈ TB := tbm_1 (List.mem_of_getElem? (i := 199) rfl) rfl
theorem tb211 : Cond.fieldLink RX9 189 "StreamPlayer$Accounts" "quality" "J" ∈ TB := tbm_1 (List.mem_of_getElem? (i := 200) rfl) rfl
theorem tb212 : Cond.lays RX0 "StreamPlayer$Accounts" "startUpTime" "I" ∈ TB := tbm_1 (List.mem_of_getElem? (i := 201) rfl) rfl
theorem tb213 : Cond.soleField RX0 "startUpTime" ∈ TB := tbm_1 (List.mem_of_getElem? (i := 202) rfl) rfl
theorem tb214 : Cond.lays RX0 "StreamPlayer$Accounts" "stallTime" "I" ∈ TB := tbm_1 (List.mem_of_getElem? (i := 203) rfl) rfl
theorem tb215 : Cond.soleField RX0 "stallTime" ∈ TB := tbm_1 (List.mem_of_getElem? (i := 204) rfl) rfl
theorem tb216 : Cond.lays RX0 "StreamPlayer$Accounts" "playTime" "I" ∈ TB := tbm_1 (List.mem_of_getElem? (i := 205) rfl) rfl
theorem tb217 : Cond.soleField RX0 "playTime" ∈ TB := tbm_1 (List.mem_of_getElem? (i := 206) rfl) rfl
theorem tb218 : Cond.lays RX0 "StreamPlayer$Accounts" "stalls" "I" ∈ TB := tbm_1 (List.mem_of_getElem? (i := 207) rfl) rfl
theorem tb219 : Cond.soleField RX0 "stalls" ∈ TB := tbm_1 (List.mem_of_getElem? (i := 208) rfl) rfl
theorem tb220 : Cond.lays RX0 "StreamPlayer$Accounts" "abandoned" "I" ∈ TB := tbm_1 (List.mem_of_getElem? (i := 209) rfl) rfl
theorem tb221 : Cond.soleField RX0 "abandoned" ∈ TB := tbm_1 (List.mem_of_getElem? (i := 210) rfl) rfl
theorem tb222 : Cond.lays RX0 "StreamPlayer$Accounts" "finished" "I" ∈ TB := tbm_1 (List.mem_of_getElem? (i := 211) rfl) rfl
theorem tb223 : Cond.soleField RX0 "finished" ∈ TB := tbm_1 (List.mem_of_getElem? (i := 212) rfl) rfl
theorem tb224 : Cond.lays RX0 "StreamPlayer$Accounts" "switches" "I" ∈ TB := tbm_1 (List.mem_of_getElem? (i := 213) rfl) rfl
theorem tb225 : Cond.soleField RX0 "switches" ∈ TB := tbm_1 (List.mem_of_getElem? (i := 214) rfl) rfl
theorem tb226 : Cond.lays RX0 "StreamPlayer$Accounts" "wasted" "J" ∈ TB := tbm_1 (List.mem_of_getElem? (i := 215) rfl) rfl
theorem tb227 : Cond.soleField RX0 "wasted" ∈ TB := tbm_1 (List.mem_of_getElem? (i := 216) rfl) rfl
theorem tb228 : Cond.lays RX0 "StreamPlayer$Accounts" "quality" "J" ∈ TB := tbm_1 (List.mem_of_getElem? (i := 217) rfl) rfl
theorem tb229 : Cond.soleField RX0 "quality" ∈ TB := tbm_1 (List.mem_of_getElem? (i := 218) rfl) rfl
theorem tb230 : Cond.superclass RX0 "java/lang/Object" ∈ TB := tbm_1 (List.mem_of_getElem? (i := 219) rfl) rfl
theorem tb231 : Cond.classLink RX6 42 RX3 ∈ TB := tbm_1 (List.mem_of_getElem? (i := 220) rfl) rfl
theorem tb232 : Cond.instantiable RX3 2 ∈ TB := tbm_1 (List.mem_of_getElem? (i := 221) rfl) rfl
theorem tb233 : Cond.instanceMethod yX3_init ∈ TB := tbm_1 (List.mem_of_getElem? (i := 223) rfl) rfl
theorem tb234 : Cond.code yX3_init cX3_init 1 none ∈ TB := tbm_1 (List.mem_of_getElem? (i := 224) rfl) rfl
theorem tb235 : Cond.methodLink RX3 3 ⟨"java/lang/Object", "<init>", "()V"⟩ ∈ TB := tbm_1 (List.mem_of_getElem? (i := 225) rfl) rfl
theorem tb236 : Cond.fieldLink RX3 9 "StreamPlayer$Line" "signs" "[C" ∈ TB := tbm_1 (List.mem_of_getElem? (i := 226) rfl) rfl
theorem tb237 : Cond.fieldLink RX3 15 "StreamPlayer$Line" "length" "I" ∈ TB := tbm_1 (List.mem_of_getElem? (i := 227) rfl) rfl
theorem tb238 : Cond.laysFinal RX3 "StreamPlayer$Line" "signs" "[C" ∈ TB := tbm_1 (List.mem_of_getElem? (i := 228) rfl) rfl
theorem tb239 : Cond.soleField RX3 "signs" ∈ TB := tbm_1 (List.mem_of_getElem? (i := 229) rfl) rfl
theorem tb240 : Cond.lays RX3 "StreamPlayer$Line" "length" "I" ∈ TB := tbm_1 (List.mem_of_getElem? (i := 230) rfl) rfl
theorem tb241 : Cond.soleField RX3 "length" ∈ TB := tbm_1 (List.mem_of_getElem? (i := 231) rfl) rfl
theorem tb242 : Cond.superclass RX3 "java/lang/Object" ∈ TB := tbm_1 (List.mem_of_getElem? (i := 232) rfl) rfl
theorem tb243 : Cond.arrayClass .char ∈ TB := tbm_1 (List.mem_of_getElem? (i := 233) rfl) rfl
theorem tb244 : Cond.fieldLink RX6 53 "StreamPlayer$Session" "stream" "LStreamPlayer$Stream;" ∈ TB := tbm_1 (List.mem_of_getElem? (i := 234) rfl) rfl
theorem tb245 : Cond.fieldLink RX6 12 "StreamPlayer$Session" "video" "LStreamPlayer$Shelf;" ∈ TB := tbm_1 (List.mem_of_getElem? (i := 235) rfl) rfl
theorem tb246 : Cond.fieldLink RX6 18 "StreamPlayer$Session" "audio" "LStreamPlayer$Shelf;" ∈ TB := tbm_1 (List.mem_of_getElem? (i := 236) rfl) rfl
theorem tb247 : Cond.fieldLink RX6 24 "StreamPlayer$Session" "samples" "LStreamPlayer$Samples;" ∈ TB := tbm_1 (List.mem_of_getElem? (i := 237) rfl) rfl
theorem tb248 : Cond.fieldLink RX6 31 "StreamPlayer$Session" "download" "LStreamPlayer$Download;" ∈ TB := tbm_1 (List.mem_of_getElem? (i := 238) rfl) rfl
theorem tb249 : Cond.fieldLink RX9 148 "StreamPlayer$Session" "download" "LStreamPlayer$Download;" ∈ TB := tbm_1 (List.mem_of_getElem? (i := 239) rfl) rfl
theorem tb250 : Cond.fieldLink RX6 38 "StreamPlayer$Session" "accounts" "LStreamPlayer$Accounts;" ∈ TB := tbm_2 (List.mem_of_getElem? (i := 0) rfl) rfl
theorem tb251 : Cond.fieldLink RX9 173 "StreamPlayer$Session" "accounts" "LStreamPlayer$Accounts;" ∈ TB := tbm_2 (List.mem_of_getElem? (i := 1) rfl) rfl
theorem tb252 : Cond.fieldLink RX6 45 "StreamPlayer$Session" "line" "LStreamPlayer$Line;" ∈ TB := tbm_2 (List.mem_of_getElem? (i := 2) rfl) rfl
theorem tb253 : Cond.fieldLink RX9 195 "StreamPlayer$Session" "line" "LStreamPlayer$Line;" ∈ TB := tbm_2 (List.mem_of_getElem? (i := 3) rfl) rfl
theorem tb254 : Cond.fieldLink RX6 57 "StreamPlayer$Session" "mode" "I" ∈ TB := tbm_2 (List.mem_of_getElem? (i := 4) rfl) rfl
theorem tb255 : Cond.fieldLink RX6 60 "StreamPlayer$Session" "startThreshold" "I" ∈ TB := tbm_2 (List.mem_of_getElem? (i := 5) rfl) rfl
theorem tb256 : Cond.fieldLink RX6 73 "StreamPlayer$Session" "lastRung" "I" ∈ TB := tbm_2 (List.mem_of_getElem? (i := 6) rfl) rfl
theorem tb257 : Cond.fieldLink RX6 76 "StreamPlayer$Session" "lastChange" "I" ∈ TB := tbm_2 (List.mem_of_getElem? (i := 7) rfl) rfl
theorem tb258 : Cond.fieldLink RX6 49 "StreamPlayer$Session" "state" "I" ∈ TB := tbm_2 (List.mem_of_getElem? (i := 8) rfl) rfl
theorem tb259 : Cond.fieldLink RX9 113 "StreamPlayer$Session" "state" "I" ∈ TB := tbm_2 (List.mem_of_getElem? (i := 9) rfl) rfl
theorem tb260 : Cond.fieldLink RX6 79 "StreamPlayer$Session" "time" "I" ∈ TB := tbm_2 (List.mem_of_getElem? (i := 10) rfl) rfl
theorem tb261 : Cond.fieldLink RX9 116 "StreamPlayer$Session" "time" "I" ∈ TB := tbm_2 (List.mem_of_getElem? (i := 11) rfl) rfl
theorem tb262 : Cond.fieldLink RX6 82 "StreamPlayer$Session" "position" "I" ∈ TB := tbm_2 (List.mem_of_getElem? (i := 12) rfl) rfl
theorem tb263 : Cond.fieldLink RX9 127 "StreamPlayer$Session" "position" "I" ∈ TB := tbm_2 (List.mem_of_getElem? (i := 13) rfl) rfl
theorem tb264 : Cond.laysFinal RX6 "StreamPlayer$Session" "stream" "LStreamPlayer$Stream;" ∈ TB := tbm_2 (List.mem_of_getElem? (i := 14) rfl) rfl
theorem tb265 : Cond.soleField RX6 "stream" ∈ TB := tbm_2 (List.mem_of_getElem? (i := 15) rfl) rfl
theorem tb266 : Cond.laysFinal RX6 "StreamPlayer$Session" "video" "LStreamPlayer$Shelf;" ∈ TB := tbm_2 (List.mem_of_getElem? (i := 16) rfl) rfl
theorem tb267 : Cond.soleField RX6 "video" ∈ TB := tbm_2 (List.mem_of_getElem? (i := 17) rfl) rfl
theorem tb268 : Cond.laysFinal RX6 "StreamPlayer$Session" "audio" "LStreamPlayer$Shelf;" ∈ TB := tbm_2 (List.mem_of_getElem? (i := 18) rfl) rfl
theorem tb269 : Cond.soleField RX6 "audio" ∈ TB := tbm_2 (List.mem_of_getElem? (i := 19) rfl) rfl
theorem tb270 : Cond.laysFinal RX6 "StreamPlayer$Session" "samples" "LStreamPlayer$Samples;" ∈ TB := tbm_2 (List.mem_of_getElem? (i := 20) rfl) rfl
theorem tb271 : Cond.soleField RX6 "samples" ∈ TB := tbm_2 (List.mem_of_getElem? (i := 21) rfl) rfl
theorem tb272 : Cond.laysFinal RX6 "StreamPlayer$Session" "download" "LStreamPlayer$Download;" ∈ TB := tbm_2 (List.mem_of_getElem? (i := 22) rfl) rfl
theorem tb273 : Cond.soleField RX6 "download" ∈ TB := tbm_2 (List.mem_of_getElem? (i := 23) rfl) rfl
theorem tb274 : Cond.laysFinal RX6 "StreamPlayer$Session" "accounts" "LStreamPlayer$Accounts;" ∈ TB := tbm_2 (List.mem_of_getElem? (i := 24) rfl) rfl
theorem tb275 : Cond.soleField RX6 "accounts" ∈ TB := tbm_2 (List.mem_of_getElem? (i := 25) rfl) rfl
theorem tb276 : Cond.laysFinal RX6 "StreamPlayer$Session" "line" "LStreamPlayer$Line;" ∈ TB := tbm_2 (List.mem_of_getElem? (i := 26) rfl) rfl
theorem tb277 : Cond.soleField RX6 "line" ∈ TB := tbm_2 (List.mem_of_getElem? (i := 27) rfl) rfl
theorem tb278 : Cond.lays RX6 "StreamPlayer$Session" "mode" "I" ∈ TB := tbm_2 (List.mem_of_getElem? (i := 28) rfl) rfl
theorem tb279 : Cond.soleField RX6 "mode" ∈ TB := tbm_2 (List.mem_of_getElem? (i := 29) rfl) rfl
theorem tb280 : Cond.lays RX6 "StreamPlayer$Session" "startThreshold" "I" ∈ TB := tbm_2 (List.mem_of_getElem? (i := 30) rfl) rfl
theorem tb281 : Cond.soleField RX6 "startThreshold" ∈ TB := tbm_2 (List.mem_of_getElem? (i := 31) rfl) rfl
theorem tb282 : Cond.lays RX6 "StreamPlayer$Session" "lastRung" "I" ∈ TB := tbm_2 (List.mem_of_getElem? (i := 32) rfl) rfl
theorem tb283 : Cond.soleField RX6 "lastRung" ∈ TB := tbm_2 (List.mem_of_getElem? (i := 33) rfl) rfl
theorem tb284 : Cond.lays RX6 "StreamPlayer$Session" "lastChange" "I" ∈ TB := tbm_2 (List.mem_of_getElem? (i := 34) rfl) rfl
theorem tb285 : Cond.soleField RX6 "lastChange" ∈ TB := tbm_2 (List.mem_of_getElem? (i := 35) rfl) rfl
theorem tb286 : Cond.lays RX6 "StreamPlayer$Session" "state" "I" ∈ TB := tbm_2 (List.mem_of_getElem? (i := 36) rfl) rfl
theorem tb287 : Cond.soleField RX6 "state" ∈ TB := tbm_2 (List.mem_of_getElem? (i := 37) rfl) rfl
theorem tb288 : Cond.lays RX6 "StreamPlayer$Session" "time" "I" ∈ TB := tbm_2 (List.mem_of_getElem? (i := 38) rfl) rfl
theorem tb289 : Cond.soleField RX6 "time" ∈ TB := tbm_2 (List.mem_of_getElem? (i := 39) rfl) rfl
theorem tb290 : Cond.lays RX6 "StreamPlayer$Session" "position" "I" ∈ TB := tbm_2 (List.mem_of_getElem? (i := 40) rfl) rfl
theorem tb291 : Cond.soleField RX6 "position" ∈ TB := tbm_2 (List.mem_of_getElem? (i := 41) rfl) rfl
theorem tb292 : Cond.superclass RX6 "java/lang/Object" ∈ TB := tbm_2 (List.mem_of_getElem? (i := 42) rfl) rfl
theorem tb293 : Cond.fieldLink RX9 10 "StreamPlayer" "stream" "LStreamPlayer$Stream;" ∈ TB := tbm_2 (List.mem_of_getElem? (i := 43) rfl) rfl
theorem tb294 : Cond.fieldLink RX9 21 "StreamPlayer" "session" "LStreamPlayer$Session;" ∈ TB := tbm_2 (List.mem_of_getElem? (i := 44) rfl) rfl
theorem tb295 : Cond.fieldLink RX9 25 "StreamPlayer" "scratch" "LStreamPlayer$Session;" ∈ TB := tbm_2 (List.mem_of_getElem? (i := 45) rfl) rfl
theorem tb296 : Cond.laysFinal RX9 "StreamPlayer" "stream" "LStreamPlayer$Stream;" ∈ TB := tbm_2 (List.mem_of_getElem? (i := 46) rfl) rfl
theorem tb297 : Cond.soleField RX9 "stream" ∈ TB := tbm_2 (List.mem_of_getElem? (i := 47) rfl) rfl
theorem tb298 : Cond.laysFinal RX9 "StreamPlayer" "session" "LStreamPlayer$Session;" ∈ TB := tbm_2 (List.mem_of_getElem? (i := 48) rfl) rfl
theorem tb299 : Cond.soleField RX9 "session" ∈ TB := tbm_2 (List.mem_of_getElem? (i := 49) rfl) rfl
theorem tb300 : Cond.laysFinal RX9 "StreamPlayer" "scratch" "LStreamPlayer$Session;" ∈ TB := tbm_2 (List.mem_of_getElem? (i := 50) rfl) rfl
theorem tb301 : Cond.soleField RX9 "scratch" ∈ TB := tbm_2 (List.mem_of_getElem? (i := 51) rfl) rfl
theorem tb302 : Cond.superclass RX9 "java/lang/Object" ∈ TB := tbm_2 (List.mem_of_getElem? (i := 52) rfl) rfl
theorem tb303 : Cond.methodLink RL 154 yX9_clear ∈ TB := tbm_2 (List.mem_of_getElem? (i := 53) rfl) rfl
theorem tb304 : Cond.instanceMethod yX9_clear ∈ TB := tbm_2 (List.mem_of_getElem? (i := 54) rfl) rfl
theorem tb305 : Cond.selects RX9 yX9_clear yX9_clear ∈ TB := tbm_2 (List.mem_of_getElem? (i := 55) rfl) rfl
theorem tb306 : Cond.code yX9_clear cX9_clear 2 (some .int) ∈ TB := tbm_2 (List.mem_of_getElem? (i := 56) rfl) rfl
theorem tb307 : Cond.methodLink RX9 44 yX9_requireNoSession ∈ TB := tbm_2 (List.mem_of_getElem? (i := 57) rfl) rfl
theorem tb308 : Cond.instanceMethod yX9_requireNoSession ∈ TB := tbm_2 (List.mem_of_getElem? (i := 59) rfl) rfl
theorem tb309 : Cond.code yX9_requireNoSession cX9_requireNoSession 1 none ∈ TB := tbm_2 (List.mem_of_getElem? (i := 60) rfl) rfl
theorem tb310 : Cond.classLink RX9 246 "java/lang/IllegalStateException" ∈ TB := tbm_2 (List.mem_of_getElem? (i := 61) rfl) rfl
theorem tb311 : Cond.instantiable "java/lang/IllegalStateException" 6 ∈ TB := tbm_2 (List.mem_of_getElem? (i := 62) rfl) rfl
theorem tb312 : Cond.selects "java/lang/IllegalStateException" ⟨"java/lang/Throwable", "fillInStackTrace", "(I)Ljava/lang/Throwable;"⟩ ⟨"java/lang/Throwable", "fillInStackTrace", "(I)Ljava/lang/Throwable;"⟩ ∈ TB := tbm_2 (List.mem_of_getElem? (i := 70) rfl) rfl
theorem tb313 : Cond.selects "java/lang/IllegalStateException" ⟨"java/lang/Throwable", "fillInStackTrace", "()Ljava/lang/Throwable;"⟩ ⟨"java/lang/Throwable", "fillInStackTrace", "()Ljava/lang/Throwable;"⟩ ∈ TB := tbm_2 (List.mem_of_getElem? (i := 71) rfl) rfl
theorem tb314 : Cond.lays "java/lang/IllegalStateException" "java/lang/Throwable" "cause" "Ljava/lang/Throwable;" ∈ TB := tbm_2 (List.mem_of_getElem? (i := 72) rfl) rfl
theorem tb315 : Cond.lays "java/lang/Throwable" "java/lang/Throwable" "cause" "Ljava/lang/Throwable;" ∈ TB := tbm_2 (List.mem_of_getElem? (i := 73) rfl) rfl
theorem tb316 : Cond.lays "java/lang/IllegalStateException" "java/lang/Throwable" "stackTrace" "[Ljava/lang/StackTraceElement;" ∈ TB := tbm_2 (List.mem_of_getElem? (i := 74) rfl) rfl
theorem tb317 : Cond.lays "java/lang/Throwable" "java/lang/Throwable" "stackTrace" "[Ljava/lang/StackTraceElement;" ∈ TB := tbm_2 (List.mem_of_getElem? (i := 75) rfl) rfl
theorem tb318 : Cond.lays "java/lang/IllegalStateException" "java/lang/Throwable" "suppressedExceptions" "Ljava/util/List;" ∈ TB := tbm_2 (List.mem_of_getElem? (i := 76) rfl) rfl
theorem tb319 : Cond.lays "java/lang/Throwable" "java/lang/Throwable" "suppressedExceptions" "Ljava/util/List;" ∈ TB := tbm_2 (List.mem_of_getElem? (i := 77) rfl) rfl
theorem tb320 : Cond.lays "java/lang/IllegalStateException" "java/lang/Throwable" "detailMessage" "Ljava/lang/String;" ∈ TB := tbm_2 (List.mem_of_getElem? (i := 78) rfl) rfl
theorem tb321 : Cond.lays "java/lang/Throwable" "java/lang/Throwable" "detailMessage" "Ljava/lang/String;" ∈ TB := tbm_2 (List.mem_of_getElem? (i := 79) rfl) rfl
theorem tb322 : Cond.lays "java/lang/IllegalStateException" "java/lang/Throwable" "backtrace" "Ljava/lang/Object;" ∈ TB := tbm_2 (List.mem_of_getElem? (i := 80) rfl) rfl
theorem tb323 : Cond.lays "java/lang/Throwable" "java/lang/Throwable" "backtrace" "Ljava/lang/Object;" ∈ TB := tbm_2 (List.mem_of_getElem? (i := 81) rfl) rfl
theorem tb324 : Cond.fieldLink "java/lang/Throwable" 198 "java/lang/Throwable" "backtrace" "Ljava/lang/Object;" ∈ TB := tbm_2 (List.mem_of_getElem? (i := 82) rfl) rfl
theorem tb325 : Cond.superclass "java/lang/Throwable" "java/lang/Object" ∈ TB := tbm_2 (List.mem_of_getElem? (i := 83) rfl) rfl
theorem tb326 : Cond.instanceMethod ⟨"java/lang/Throwable", "<init>", "()V"⟩ ∈ TB := tbm_2 (List.mem_of_getElem? (i := 84) rfl) rfl
theorem tb327 : Cond.code ⟨"java/lang/Throwable", "<init>", "()V"⟩ prog_22_method_1_code 1 none ∈ TB := tbm_2 (List.mem_of_getElem? (i := 85) rfl) rfl
theorem tb328 : Cond.methodLink "java/lang/Throwable" 1 ⟨"java/lang/Object", "<init>", "()V"⟩ ∈ TB := tbm_2 (List.mem_of_getElem? (i := 86) rfl) rfl
theorem tb329 : Cond.fieldLink "java/lang/Throwable" 13 "java/lang/Throwable" "UNASSIGNED_STACK" "[Ljava/lang/StackTraceElement;" ∈ TB := tbm_2 (List.mem_of_getElem? (i := 87) rfl) rfl
theorem tb330 : Cond.fieldLink "java/lang/Throwable" 20 "java/lang/Throwable" "SUPPRESSED_SENTINEL" "Ljava/util/List;" ∈ TB := tbm_2 (List.mem_of_getElem? (i := 89) rfl) rfl
theorem tb331 : Cond.methodLink "java/lang/Throwable" 27 ⟨"java/lang/Throwable", "fillInStackTrace", "()Ljava/lang/Throwable;"⟩ ∈ TB := tbm_2 (List.mem_of_getElem? (i := 91) rfl) rfl
theorem tb332 : Cond.instanceMethod ⟨"java/lang/Throwable", "fillInStackTrace", "()Ljava/lang/Throwable;"⟩ ∈ TB := tbm_2 (List.mem_of_getElem? (i := 92) rfl) rfl
theorem tb333 : Cond.sameMethod "java/lang/Throwable" "java/lang/Throwable" "fillInStackTrace" "()Ljava/lang/Throwable;" ∈ TB := tbm_2 (List.mem_of_getElem? (i := 93) rfl) rfl
theorem tb334 : Cond.selects "java/lang/IllegalArgumentException" ⟨"java/lang/Throwable", "fillInStackTrace", "()Ljava/lang/Throwable;"⟩ ⟨"java/lang/Throwable", "fillInStackTrace", "()Ljava/lang/Throwable;"⟩ ∈ TB := tbm_2 (List.mem_of_getElem? (i := 94) rfl) rfl
theorem tb335 : Cond.selects "java/lang/IndexOutOfBoundsException" ⟨"java/lang/Throwable", "fillInStackTrace", "()Ljava/lang/Throwable;"⟩ ⟨"java/lang/Throwable", "fillInStackTrace", "()Ljava/lang/Throwable;"⟩ ∈ TB := tbm_2 (List.mem_of_getElem? (i := 95) rfl) rfl
theorem tb336 : Cond.codeSync ⟨"java/lang/Throwable", "fillInStackTrace", "()Ljava/lang/Throwable;"⟩ prog_22_method_18_code 1 (some (.object "java/lang/Throwable")) ∈ TB := tbm_2 (List.mem_of_getElem? (i := 96) rfl) rfl
theorem tb337 : Cond.methodLink "java/lang/Throwable" 202 ⟨"java/lang/Throwable", "fillInStackTrace", "(I)Ljava/lang/Throwable;"⟩ ∈ TB := tbm_2 (List.mem_of_getElem? (i := 97) rfl) rfl
theorem tb338 : Cond.instanceMethod ⟨"java/lang/Throwable", "fillInStackTrace", "(I)Ljava/lang/Throwable;"⟩ ∈ TB := tbm_2 (List.mem_of_getElem? (i := 99) rfl) rfl
theorem tb339 : Cond.instantiable "java/lang/Throwable" 6 ∈ TB := tbm_2 (List.mem_of_getElem? (i := 100) rfl) rfl
theorem tb340 : Cond.native ⟨"java/lang/Throwable", "fillInStackTrace", "(I)Ljava/lang/Throwable;"⟩ ∈ TB := tbm_2 (List.mem_of_getElem? (i := 101) rfl) rfl
theorem tb341 : Cond.methodLink RX9 250 ⟨"java/lang/IllegalStateException", "<init>", "(Ljava/lang/String;)V"⟩ ∈ TB := tbm_2 (List.mem_of_getElem? (i := 103) rfl) rfl
theorem tb342 : Cond.instanceMethod ⟨"java/lang/IllegalStateException", "<init>", "(Ljava/lang/String;)V"⟩ ∈ TB := tbm_2 (List.mem_of_getElem? (i := 104) rfl) rfl
theorem tb343 : Cond.code ⟨"java/lang/IllegalStateException", "<init>", "(Ljava/lang/String;)V"⟩ prog_16_method_2_code 2 none ∈ TB := tbm_2 (List.mem_of_getElem? (i := 105) rfl) rfl
theorem tb344 : Cond.methodLink "java/lang/IllegalStateException" 7 ⟨"java/lang/RuntimeException", "<init>", "(Ljava/lang/String;)V"⟩ ∈ TB := tbm_2 (List.mem_of_getElem? (i := 106) rfl) rfl
theorem tb345 : Cond.instanceMethod ⟨"java/lang/RuntimeException", "<init>", "(Ljava/lang/String;)V"⟩ ∈ TB := tbm_2 (List.mem_of_getElem? (i := 107) rfl) rfl
theorem tb346 : Cond.code ⟨"java/lang/RuntimeException", "<init>", "(Ljava/lang/String;)V"⟩ prog_19_method_2_code 2 none ∈ TB := tbm_2 (List.mem_of_getElem? (i := 108) rfl) rfl
theorem tb347 : Cond.methodLink "java/lang/RuntimeException" 7 ⟨"java/lang/Exception", "<init>", "(Ljava/lang/String;)V"⟩ ∈ TB := tbm_2 (List.mem_of_getElem? (i := 109) rfl) rfl
theorem tb348 : Cond.instanceMethod ⟨"java/lang/Exception", "<init>", "(Ljava/lang/String;)V"⟩ ∈ TB := tbm_2 (List.mem_of_getElem? (i := 110) rfl) rfl
theorem tb349 : Cond.code ⟨"java/lang/Exception", "<init>", "(Ljava/lang/String;)V"⟩ prog_14_method_2_code 2 none ∈ TB := tbm_2 (List.mem_of_getElem? (i := 111) rfl) rfl
theorem tb350 : Cond.methodLink "java/lang/Exception" 7 ⟨"java/lang/Throwable", "<init>", "(Ljava/lang/String;)V"⟩ ∈ TB := tbm_2 (List.mem_of_getElem? (i := 112) rfl) rfl
theorem tb351 : Cond.instanceMethod ⟨"java/lang/Throwable", "<init>", "(Ljava/lang/String;)V"⟩ ∈ TB := tbm_2 (List.mem_of_getElem? (i := 113) rfl) rfl
theorem tb352 : Cond.code ⟨"java/lang/Throwable", "<init>", "(Ljava/lang/String;)V"⟩ prog_22_method_2_code 2 none ∈ TB := tbm_2 (List.mem_of_getElem? (i := 114) rfl) rfl
theorem tb354 : Cond.fieldLink "java/lang/Throwable" 31 "java/lang/Throwable" "detailMessage" "Ljava/lang/String;" ∈ TB := tbm_2 (List.mem_of_getElem? (i := 116) rfl) rfl
theorem tb355 : Cond.fieldLink "java/lang/Throwable" 7 "java/lang/Throwable" "cause" "Ljava/lang/Throwable;" ∈ TB := tbm_2 (List.mem_of_getElem? (i := 117) rfl) rfl
theorem tb356 : Cond.fieldLink "java/lang/Throwable" 17 "java/lang/Throwable" "stackTrace" "[Ljava/lang/StackTraceElement;" ∈ TB := tbm_2 (List.mem_of_getElem? (i := 118) rfl) rfl
theorem tb357 : Cond.fieldLink "java/lang/Throwable" 24 "java/lang/Throwable" "suppressedExceptions" "Ljava/util/List;" ∈ TB := tbm_2 (List.mem_of_getElem? (i := 119) rfl) rfl
theorem tb358 : Cond.soleField "java/lang/Throwable" "backtrace" ∈ TB := tbm_2 (List.mem_of_getElem? (i := 120) rfl) rfl
theorem tb359 : Cond.soleField "java/lang/Throwable" "detailMessage" ∈ TB := tbm_2 (List.mem_of_getElem? (i := 121) rfl) rfl
theorem tb360 : Cond.soleField "java/lang/Throwable" "cause" ∈ TB := tbm_2 (List.mem_of_getElem? (i := 122) rfl) rfl
theorem tb361 : Cond.soleField "java/lang/Throwable" "stackTrace" ∈ TB := tbm_2 (List.mem_of_getElem? (i := 123) rfl) rfl
theorem tb362 : Cond.lays "java/lang/IllegalStateException" "java/lang/Throwable" "depth" "I" ∈ TB := tbm_2 (List.mem_of_getElem? (i := 124) rfl) rfl
theorem tb363 : Cond.soleField "java/lang/Throwable" "depth" ∈ TB := tbm_2 (List.mem_of_getElem? (i := 125) rfl) rfl
theorem tb364 : Cond.soleField "java/lang/Throwable" "suppressedExceptions" ∈ TB := tbm_2 (List.mem_of_getElem? (i := 126) rfl) rfl
theorem tb365 : Cond.superclass "java/lang/IllegalStateException" "java/lang/RuntimeException" ∈ TB := tbm_2 (List.mem_of_getElem? (i := 127) rfl) rfl
theorem tb366 : Cond.arrayClass .byte ∈ TB := tbm_2 (List.mem_of_getElem? (i := 128) rfl) rfl
theorem tb367 : Cond.methodLink RX9 88 yX8_empty ∈ TB := tbm_2 (List.mem_of_getElem? (i := 129) rfl) rfl
theorem tb368 : Cond.instanceMethod yX8_empty ∈ TB := tbm_2 (List.mem_of_getElem? (i := 130) rfl) rfl
theorem tb369 : Cond.selects RX8 yX8_empty yX8_empty ∈ TB := tbm_2 (List.mem_of_getElem? (i := 131) rfl) rfl
theorem tb370 : Cond.code yX8_empty cX8_empty 1 none ∈ TB := tbm_2 (List.mem_of_getElem? (i := 132) rfl) rfl
theorem tb371 : Cond.methodLink RX8 56 yX4_empty ∈ TB := tbm_2 (List.mem_of_getElem? (i := 133) rfl) rfl
theorem tb372 : Cond.instanceMethod yX4_empty ∈ TB := tbm_2 (List.mem_of_getElem? (i := 134) rfl) rfl
theorem tb373 : Cond.selects RX4 yX4_empty yX4_empty ∈ TB := tbm_2 (List.mem_of_getElem? (i := 135) rfl) rfl
theorem tb374 : Cond.code yX4_empty cX4_empty 1 none ∈ TB := tbm_2 (List.mem_of_getElem? (i := 136) rfl) rfl
theorem tb375 : Cond.methodLink RL 151 yX9_stop ∈ TB := tbm_2 (List.mem_of_getElem? (i := 137) rfl) rfl
theorem tb376 : Cond.instanceMethod yX9_stop ∈ TB := tbm_2 (List.mem_of_getElem? (i := 138) rfl) rfl
theorem tb377 : Cond.selects RX9 yX9_stop yX9_stop ∈ TB := tbm_2 (List.mem_of_getElem? (i := 139) rfl) rfl
theorem tb378 : Cond.code yX9_stop cX9_stop 1 (some .int) ∈ TB := tbm_2 (List.mem_of_getElem? (i := 140) rfl) rfl
theorem tb379 : Cond.methodLink RX9 110 yX9_requireSession ∈ TB := tbm_2 (List.mem_of_getElem? (i := 141) rfl) rfl
theorem tb380 : Cond.instanceMethod yX9_requireSession ∈ TB := tbm_2 (List.mem_of_getElem? (i := 143) rfl) rfl
theorem tb381 : Cond.code yX9_requireSession cX9_requireSession 1 none ∈ TB := tbm_2 (List.mem_of_getElem? (i := 144) rfl) rfl
theorem tb382 : Cond.methodLink RL 47 yX9_state ∈ TB := tbm_2 (List.mem_of_getElem? (i := 146) rfl) rfl
theorem tb383 : Cond.instanceMethod yX9_state ∈ TB := tbm_2 (List.mem_of_getElem? (i := 147) rfl) rfl
theorem tb384 : Cond.selects RX9 yX9_state yX9_state ∈ TB := tbm_2 (List.mem_of_getElem? (i := 148) rfl) rfl
theorem tb385 : Cond.code yX9_state cX9_state 1 (some .int) ∈ TB := tbm_2 (List.mem_of_getElem? (i := 149) rfl) rfl
theorem tb386 : Cond.methodLink RL 82 yX9_time ∈ TB := tbm_2 (List.mem_of_getElem? (i := 150) rfl) rfl
theorem tb387 : Cond.instanceMethod yX9_time ∈ TB := tbm_2 (List.mem_of_getElem? (i := 151) rfl) rfl
theorem tb388 : Cond.selects RX9 yX9_time yX9_time ∈ TB := tbm_2 (List.mem_of_getElem? (i := 152) rfl) rfl
theorem tb389 : Cond.code yX9_time cX9_time 1 (some .int) ∈ TB := tbm_2 (List.mem_of_getElem? (i := 153) rfl) rfl
theorem tb390 : Cond.methodLink RL 94 yX9_buffer ∈ TB := tbm_2 (List.mem_of_getElem? (i := 154) rfl) rfl
theorem tb391 : Cond.instanceMethod yX9_buffer ∈ TB := tbm_2 (List.mem_of_getElem? (i := 155) rfl) rfl
theorem tb392 : Cond.selects RX9 yX9_buffer yX9_buffer ∈ TB := tbm_2 (List.mem_of_getElem? (i := 156) rfl) rfl
theorem tb393 : Cond.code yX9_buffer cX9_buffer 2 (some .int) ∈ TB := tbm_2 (List.mem_of_getElem? (i := 157) rfl) rfl
theorem tb394 : Cond.methodLink RX9 32 yX9_requireIndex ∈ TB := tbm_2 (List.mem_of_getElem? (i := 158) rfl) rfl
theorem tb395 : Cond.static yX9_requireIndex ∈ TB := tbm_2 (List.mem_of_getElem? (i := 159) rfl) rfl
theorem tb396 : Cond.code yX9_requireIndex cX9_requireIndex 2 none ∈ TB := tbm_2 (List.mem_of_getElem? (i := 160) rfl) rfl
theorem tb397 : Cond.classLink RX9 232 "java/lang/IndexOutOfBoundsException" ∈ TB := tbm_2 (List.mem_of_getElem? (i := 161) rfl) rfl
theorem tb398 : Cond.instantiable "java/lang/IndexOutOfBoundsException" 6 ∈ TB := tbm_2 (List.mem_of_getElem? (i := 162) rfl) rfl
theorem tb399 : Cond.selects "java/lang/IndexOutOfBoundsException" ⟨"java/lang/Throwable", "fillInStackTrace", "(I)Ljava/lang/Throwable;"⟩ ⟨"java/lang/Throwable", "fillInStackTrace", "(I)Ljava/lang/Throwable;"⟩ ∈ TB := tbm_2 (List.mem_of_getElem? (i := 164) rfl) rfl
theorem tb400 : Cond.lays "java/lang/IndexOutOfBoundsException" "java/lang/Throwable" "cause" "Ljava/lang/Throwable;" ∈ TB := tbm_2 (List.mem_of_getElem? (i := 165) rfl) rfl
theorem tb401 : Cond.lays "java/lang/IndexOutOfBoundsException" "java/lang/Throwable" "stackTrace" "[Ljava/lang/StackTraceElement;" ∈ TB := tbm_2 (List.mem_of_getElem? (i := 166) rfl) rfl
theorem tb402 : Cond.lays "java/lang/IndexOutOfBoundsException" "java/lang/Throwable" "suppressedExceptions" "Ljava/util/List;" ∈ TB := tbm_2 (List.mem_of_getElem? (i := 167) rfl) rfl
theorem tb403 : Cond.lays "java/lang/IndexOutOfBoundsException" "java/lang/Throwable" "detailMessage" "Ljava/lang/String;" ∈ TB := tbm_2 (List.mem_of_getElem? (i := 168) rfl) rfl
theorem tb404 : Cond.lays "java/lang/IndexOutOfBoundsException" "java/lang/Throwable" "backtrace" "Ljava/lang/Object;" ∈ TB := tbm_2 (List.mem_of_getElem? (i := 169) rfl) rfl
theorem tb405 : Cond.methodLink RX9 236 ⟨"java/lang/IndexOutOfBoundsException", "<init>", "(Ljava/lang/String;)V"⟩ ∈ TB := tbm_2 (List.mem_of_getElem? (i := 171) rfl) rfl
theorem tb406 : Cond.instanceMethod ⟨"java/lang/IndexOutOfBoundsException", "<init>", "(Ljava/lang/String;)V"⟩ ∈ TB := tbm_2 (List.mem_of_getElem? (i := 172) rfl) rfl
theorem tb407 : Cond.code ⟨"java/lang/IndexOutOfBoundsException", "<init>", "(Ljava/lang/String;)V"⟩ prog_17_method_2_code 2 none ∈ TB := tbm_2 (List.mem_of_getElem? (i := 173) rfl) rfl
theorem tb408 : Cond.methodLink "java/lang/IndexOutOfBoundsException" 7 ⟨"java/lang/RuntimeException", "<init>", "(Ljava/lang/String;)V"⟩ ∈ TB := tbm_2 (List.mem_of_getElem? (i := 174) rfl) rfl
theorem tb409 : Cond.lays "java/lang/IndexOutOfBoundsException" "java/lang/Throwable" "depth" "I" ∈ TB := tbm_2 (List.mem_of_getElem? (i := 175) rfl) rfl
theorem tb410 : Cond.superclass "java/lang/IndexOutOfBoundsException" "java/lang/RuntimeException" ∈ TB := tbm_2 (List.mem_of_getElem? (i := 176) rfl) rfl
theorem tb411 : Cond.methodLink RX9 130 yX6_bufferOf ∈ TB := tbm_2 (List.mem_of_getElem? (i := 177) rfl) rfl
theorem tb412 : Cond.instanceMethod yX6_bufferOf ∈ TB := tbm_2 (List.mem_of_getElem? (i := 178) rfl) rfl
theorem tb413 : Cond.selects RX6 yX6_bufferOf yX6_bufferOf ∈ TB := tbm_2 (List.mem_of_getElem? (i := 179) rfl) rfl
theorem tb414 : Cond.code yX6_bufferOf cX6_bufferOf 2 (some .int) ∈ TB := tbm_2 (List.mem_of_getElem? (i := 180) rfl) rfl
theorem tb415 : Cond.methodLink RX6 167 yX8_ladderOf ∈ TB := tbm_2 (List.mem_of_getElem? (i := 181) rfl) rfl
theorem tb416 : Cond.instanceMethod yX8_ladderOf ∈ TB := tbm_2 (List.mem_of_getElem? (i := 182) rfl) rfl
theorem tb417 : Cond.selects RX8 yX8_ladderOf yX8_ladderOf ∈ TB := tbm_2 (List.mem_of_getElem? (i := 183) rfl) rfl
theorem tb418 : Cond.code yX8_ladderOf cX8_ladderOf 2 (some (.object "StreamPlayer$Ladder")) ∈ TB := tbm_2 (List.mem_of_getElem? (i := 184) rfl) rfl
theorem tb419 : Cond.methodLink RX6 163 yX6_shelfOf ∈ TB := tbm_2 (List.mem_of_getElem? (i := 185) rfl) rfl
theorem tb420 : Cond.instanceMethod yX6_shelfOf ∈ TB := tbm_2 (List.mem_of_getElem? (i := 186) rfl) rfl
theorem tb421 : Cond.selects RX6 yX6_shelfOf yX6_shelfOf ∈ TB := tbm_2 (List.mem_of_getElem? (i := 187) rfl) rfl
theorem tb422 : Cond.code yX6_shelfOf cX6_shelfOf 2 (some (.object "StreamPlayer$Shelf")) ∈ TB := tbm_2 (List.mem_of_getElem? (i := 188) rfl) rfl
theorem tb423 : Cond.methodLink RX6 176 yX8_valueOf ∈ TB := tbm_2 (List.mem_of_getElem? (i := 189) rfl) rfl
theorem tb424 : Cond.instanceMethod yX8_valueOf ∈ TB := tbm_2 (List.mem_of_getElem? (i := 190) rfl) rfl
theorem tb425 : Cond.selects RX8 yX8_valueOf yX8_valueOf ∈ TB := tbm_2 (List.mem_of_getElem? (i := 191) rfl) rfl
theorem tb426 : Cond.code yX8_valueOf cX8_valueOf 2 (some .int) ∈ TB := tbm_2 (List.mem_of_getElem? (i := 192) rfl) rfl
theorem tb427 : Cond.methodLink RL 85 yX9_spent ∈ TB := tbm_2 (List.mem_of_getElem? (i := 193) rfl) rfl
theorem tb428 : Cond.instanceMethod yX9_spent ∈ TB := tbm_2 (List.mem_of_getElem? (i := 194) rfl) rfl
theorem tb429 : Cond.selects RX9 yX9_spent yX9_spent ∈ TB := tbm_2 (List.mem_of_getElem? (i := 195) rfl) rfl
theorem tb430 : Cond.code yX9_spent cX9_spent 2 (some .int) ∈ TB := tbm_2 (List.mem_of_getElem? (i := 196) rfl) rfl
theorem tb431 : Cond.methodLink RX9 177 yX0_timeSpent ∈ TB := tbm_2 (List.mem_of_getElem? (i := 197) rfl) rfl
theorem tb432 : Cond.instanceMethod yX0_timeSpent ∈ TB := tbm_2 (List.mem_of_getElem? (i := 198) rfl) rfl
theorem tb433 : Cond.selects RX0 yX0_timeSpent yX0_timeSpent ∈ TB := tbm_2 (List.mem_of_getElem? (i := 199) rfl) rfl
theorem tb434 : Cond.code yX0_timeSpent cX0_timeSpent 2 (some .int) ∈ TB := tbm_2 (List.mem_of_getElem? (i := 200) rfl) rfl
theorem tb435 : Cond.methodLink RL 138 yX9_score ∈ TB := tbm_2 (List.mem_of_getElem? (i := 201) rfl) rfl
theorem tb436 : Cond.instanceMethod yX9_score ∈ TB := tbm_2 (List.mem_of_getElem? (i := 202) rfl) rfl
theorem tb437 : Cond.selects RX9 yX9_score yX9_score ∈ TB := tbm_2 (List.mem_of_getElem? (i := 203) rfl) rfl
theorem tb438 : Cond.code yX9_score cX9_score 1 (some .long) ∈ TB := tbm_2 (List.mem_of_getElem? (i := 204) rfl) rfl
theorem tb439 : Cond.methodLink RX9 192 yX6_points ∈ TB := tbm_2 (List.mem_of_getElem? (i := 205) rfl) rfl
theorem tb440 : Cond.instanceMethod yX6_points ∈ TB := tbm_2 (List.mem_of_getElem? (i := 206) rfl) rfl
theorem tb441 : Cond.selects RX6 yX6_points yX6_points ∈ TB := tbm_2 (List.mem_of_getElem? (i := 207) rfl) rfl
theorem tb442 : Cond.code yX6_points cX6_points 3 (some .long) ∈ TB := tbm_2 (List.mem_of_getElem? (i := 208) rfl) rfl
theorem tb443 : Cond.constantLong RX6 295 2 ∈ TB := tbm_2 (List.mem_of_getElem? (i := 209) rfl) rfl
theorem tb444 : Cond.methodLink RX6 297 yX2_topRate ∈ TB := tbm_2 (List.mem_of_getElem? (i := 210) rfl) rfl
theorem tb445 : Cond.instanceMethod yX2_topRate ∈ TB := tbm_2 (List.mem_of_getElem? (i := 211) rfl) rfl
theorem tb446 : Cond.selects RX2 yX2_topRate yX2_topRate ∈ TB := tbm_2 (List.mem_of_getElem? (i := 212) rfl) rfl
theorem tb447 : Cond.code yX2_topRate cX2_topRate 1 (some .int) ∈ TB := tbm_2 (List.mem_of_getElem? (i := 213) rfl) rfl
theorem tb448 : Cond.methodLink RX2 22 yX2_rateOf ∈ TB := tbm_2 (List.mem_of_getElem? (i := 214) rfl) rfl
theorem tb449 : Cond.instanceMethod yX2_rateOf ∈ TB := tbm_2 (List.mem_of_getElem? (i := 215) rfl) rfl
theorem tb450 : Cond.selects RX2 yX2_rateOf yX2_rateOf ∈ TB := tbm_2 (List.mem_of_getElem? (i := 216) rfl) rfl
theorem tb451 : Cond.code yX2_rateOf cX2_rateOf 2 (some .int) ∈ TB := tbm_2 (List.mem_of_getElem? (i := 217) rfl) rfl
theorem tb452 : Cond.methodLink RX6 300 yX0_timeSpent ∈ TB := tbm_2 (List.mem_of_getElem? (i := 218) rfl) rfl
theorem tb453 : Cond.methodLink RL 145 yX9_bestMode ∈ TB := tbm_2 (List.mem_of_getElem? (i := 219) rfl) rfl
theorem tb454 : Cond.instanceMethod yX9_bestMode ∈ TB := tbm_2 (List.mem_of_getElem? (i := 220) rfl) rfl
theorem tb455 : Cond.selects RX9 yX9_bestMode yX9_bestMode ∈ TB := tbm_2 (List.mem_of_getElem? (i := 221) rfl) rfl
theorem tb456 : Cond.code yX9_bestMode cX9_bestMode 8 (some .int) ∈ TB := tbm_2 (List.mem_of_getElem? (i := 222) rfl) rfl
theorem tb457 : Cond.methodLink RX9 119 yX9_requireMilliseconds ∈ TB := tbm_2 (List.mem_of_getElem? (i := 223) rfl) rfl
theorem tb458 : Cond.static yX9_requireMilliseconds ∈ TB := tbm_2 (List.mem_of_getElem? (i := 224) rfl) rfl
theorem tb459 : Cond.code yX9_requireMilliseconds cX9_requireMilliseconds 1 none ∈ TB := tbm_2 (List.mem_of_getElem? (i := 225) rfl) rfl
theorem tb460 : Cond.methodLink RX9 40 yX9_requireArgument ∈ TB := tbm_2 (List.mem_of_getElem? (i := 226) rfl) rfl
theorem tb461 : Cond.static yX9_requireArgument ∈ TB := tbm_2 (List.mem_of_getElem? (i := 227) rfl) rfl
theorem tb462 : Cond.code yX9_requireArgument cX9_requireArgument 1 none ∈ TB := tbm_2 (List.mem_of_getElem? (i := 228) rfl) rfl
theorem tb463 : Cond.classLink RX9 241 "java/lang/IllegalArgumentException" ∈ TB := tbm_2 (List.mem_of_getElem? (i := 229) rfl) rfl
theorem tb464 : Cond.instantiable "java/lang/IllegalArgumentException" 6 ∈ TB := tbm_2 (List.mem_of_getElem? (i := 230) rfl) rfl
theorem tb465 : Cond.selects "java/lang/IllegalArgumentException" ⟨"java/lang/Throwable", "fillInStackTrace", "(I)Ljava/lang/Throwable;"⟩ ⟨"java/lang/Throwable", "fillInStackTrace", "(I)Ljava/lang/Throwable;"⟩ ∈ TB := tbm_2 (List.mem_of_getElem? (i := 232) rfl) rfl
theorem tb466 : Cond.lays "java/lang/IllegalArgumentException" "java/lang/Throwable" "cause" "Ljava/lang/Throwable;" ∈ TB := tbm_2 (List.mem_of_getElem? (i := 233) rfl) rfl
theorem tb467 : Cond.lays "java/lang/IllegalArgumentException" "java/lang/Throwable" "stackTrace" "[Ljava/lang/StackTraceElement;" ∈ TB := tbm_2 (List.mem_of_getElem? (i := 234) rfl) rfl
theorem tb468 : Cond.lays "java/lang/IllegalArgumentException" "java/lang/Throwable" "suppressedExceptions" "Ljava/util/List;" ∈ TB := tbm_2 (List.mem_of_getElem? (i := 235) rfl) rfl
theorem tb469 : Cond.lays "java/lang/IllegalArgumentException" "java/lang/Throwable" "detailMessage" "Ljava/lang/String;" ∈ TB := tbm_2 (List.mem_of_getElem? (i := 236) rfl) rfl
theorem tb470 : Cond.lays "java/lang/IllegalArgumentException" "java/lang/Throwable" "backtrace" "Ljava/lang/Object;" ∈ TB := tbm_2 (List.mem_of_getElem? (i := 237) rfl) rfl
theorem tb471 : Cond.methodLink RX9 245 ⟨"java/lang/IllegalArgumentException", "<init>", "(Ljava/lang/String;)V"⟩ ∈ TB := tbm_2 (List.mem_of_getElem? (i := 239) rfl) rfl
theorem tb472 : Cond.instanceMethod ⟨"java/lang/IllegalArgumentException", "<init>", "(Ljava/lang/String;)V"⟩ ∈ TB := tbm_3 (List.mem_of_getElem? (i := 0) rfl) rfl
theorem tb473 : Cond.code ⟨"java/lang/IllegalArgumentException", "<init>", "(Ljava/lang/String;)V"⟩ prog_15_method_2_code 2 none ∈ TB := tbm_3 (List.mem_of_getElem? (i := 1) rfl) rfl
theorem tb474 : Cond.methodLink "java/lang/IllegalArgumentException" 7 ⟨"java/lang/RuntimeException", "<init>", "(Ljava/lang/String;)V"⟩ ∈ TB := tbm_3 (List.mem_of_getElem? (i := 2) rfl) rfl
theorem tb475 : Cond.lays "java/lang/IllegalArgumentException" "java/lang/Throwable" "depth" "I" ∈ TB := tbm_3 (List.mem_of_getElem? (i := 3) rfl) rfl
theorem tb476 : Cond.superclass "java/lang/IllegalArgumentException" "java/lang/RuntimeException" ∈ TB := tbm_3 (List.mem_of_getElem? (i := 4) rfl) rfl
theorem tb477 : Cond.methodLink RX9 104 yX8_isPlayable ∈ TB := tbm_3 (List.mem_of_getElem? (i := 5) rfl) rfl
theorem tb478 : Cond.instanceMethod yX8_isPlayable ∈ TB := tbm_3 (List.mem_of_getElem? (i := 6) rfl) rfl
theorem tb479 : Cond.selects RX8 yX8_isPlayable yX8_isPlayable ∈ TB := tbm_3 (List.mem_of_getElem? (i := 7) rfl) rfl
theorem tb480 : Cond.code yX8_isPlayable cX8_isPlayable 1 (some .boolean) ∈ TB := tbm_3 (List.mem_of_getElem? (i := 8) rfl) rfl
theorem tb481 : Cond.methodLink RX9 66 yX9_requireState ∈ TB := tbm_3 (List.mem_of_getElem? (i := 9) rfl) rfl
theorem tb482 : Cond.static yX9_requireState ∈ TB := tbm_3 (List.mem_of_getElem? (i := 10) rfl) rfl
theorem tb483 : Cond.code yX9_requireState cX9_requireState 1 none ∈ TB := tbm_3 (List.mem_of_getElem? (i := 11) rfl) rfl
theorem tb484 : Cond.methodLink RX9 208 yX9_pointsInMode ∈ TB := tbm_3 (List.mem_of_getElem? (i := 13) rfl) rfl
theorem tb485 : Cond.instanceMethod yX9_pointsInMode ∈ TB := tbm_3 (List.mem_of_getElem? (i := 15) rfl) rfl
theorem tb486 : Cond.code yX9_pointsInMode cX9_pointsInMode 3 (some .long) ∈ TB := tbm_3 (List.mem_of_getElem? (i := 16) rfl) rfl
theorem tb487 : Cond.methodLink RX9 97 yX8_valueOf ∈ TB := tbm_3 (List.mem_of_getElem? (i := 17) rfl) rfl
theorem tb488 : Cond.methodLink RX9 107 yX6_begin ∈ TB := tbm_3 (List.mem_of_getElem? (i := 18) rfl) rfl
theorem tb489 : Cond.instanceMethod yX6_begin ∈ TB := tbm_3 (List.mem_of_getElem? (i := 19) rfl) rfl
theorem tb490 : Cond.selects RX6 yX6_begin yX6_begin ∈ TB := tbm_3 (List.mem_of_getElem? (i := 20) rfl) rfl
theorem tb491 : Cond.code yX6_begin cX6_begin 3 none ∈ TB := tbm_3 (List.mem_of_getElem? (i := 21) rfl) rfl
theorem tb492 : Cond.methodLink RX6 63 yX7_empty ∈ TB := tbm_3 (List.mem_of_getElem? (i := 22) rfl) rfl
theorem tb493 : Cond.instanceMethod yX7_empty ∈ TB := tbm_3 (List.mem_of_getElem? (i := 23) rfl) rfl
theorem tb494 : Cond.selects RX7 yX7_empty yX7_empty ∈ TB := tbm_3 (List.mem_of_getElem? (i := 24) rfl) rfl
theorem tb495 : Cond.code yX7_empty cX7_empty 1 none ∈ TB := tbm_3 (List.mem_of_getElem? (i := 25) rfl) rfl
theorem tb496 : Cond.methodLink RX6 66 yX5_empty ∈ TB := tbm_3 (List.mem_of_getElem? (i := 26) rfl) rfl
theorem tb497 : Cond.instanceMethod yX5_empty ∈ TB := tbm_3 (List.mem_of_getElem? (i := 27) rfl) rfl
theorem tb498 : Cond.selects RX5 yX5_empty yX5_empty ∈ TB := tbm_3 (List.mem_of_getElem? (i := 28) rfl) rfl
theorem tb499 : Cond.code yX5_empty cX5_empty 1 none ∈ TB := tbm_3 (List.mem_of_getElem? (i := 29) rfl) rfl
theorem tb500 : Cond.methodLink RX6 67 yX0_empty ∈ TB := tbm_3 (List.mem_of_getElem? (i := 30) rfl) rfl
theorem tb501 : Cond.instanceMethod yX0_empty ∈ TB := tbm_3 (List.mem_of_getElem? (i := 31) rfl) rfl
theorem tb502 : Cond.selects RX0 yX0_empty yX0_empty ∈ TB := tbm_3 (List.mem_of_getElem? (i := 32) rfl) rfl
theorem tb503 : Cond.code yX0_empty cX0_empty 1 none ∈ TB := tbm_3 (List.mem_of_getElem? (i := 33) rfl) rfl
theorem tb504 : Cond.methodLink RX6 68 yX3_empty ∈ TB := tbm_3 (List.mem_of_getElem? (i := 34) rfl) rfl
theorem tb505 : Cond.instanceMethod yX3_empty ∈ TB := tbm_3 (List.mem_of_getElem? (i := 35) rfl) rfl
theorem tb506 : Cond.selects RX3 yX3_empty yX3_empty ∈ TB := tbm_3 (List.mem_of_getElem? (i := 36) rfl) rfl
theorem tb507 : Cond.code yX3_empty cX3_empty 1 none ∈ TB := tbm_3 (List.mem_of_getElem? (i := 37) rfl) rfl
theorem tb508 : Cond.methodLink RX9 124 yX6_advance ∈ TB := tbm_3 (List.mem_of_getElem? (i := 38) rfl) rfl
theorem tb509 : Cond.instanceMethod yX6_advance ∈ TB := tbm_3 (List.mem_of_getElem? (i := 39) rfl) rfl
theorem tb510 : Cond.selects RX6 yX6_advance yX6_advance ∈ TB := tbm_3 (List.mem_of_getElem? (i := 40) rfl) rfl
theorem tb511 : Cond.code yX6_advance cX6_advance 3 none ∈ TB := tbm_3 (List.mem_of_getElem? (i := 41) rfl) rfl
theorem tb512 : Cond.methodLink RX6 101 yX6_signNow ∈ TB := tbm_3 (List.mem_of_getElem? (i := 42) rfl) rfl
theorem tb513 : Cond.instanceMethod yX6_signNow ∈ TB := tbm_3 (List.mem_of_getElem? (i := 44) rfl) rfl
theorem tb514 : Cond.code yX6_signNow cX6_signNow 1 (some .char) ∈ TB := tbm_3 (List.mem_of_getElem? (i := 45) rfl) rfl
theorem tb515 : Cond.methodLink RX6 132 yX8_segmentAt ∈ TB := tbm_3 (List.mem_of_getElem? (i := 46) rfl) rfl
theorem tb516 : Cond.instanceMethod yX8_segmentAt ∈ TB := tbm_3 (List.mem_of_getElem? (i := 47) rfl) rfl
theorem tb517 : Cond.selects RX8 yX8_segmentAt yX8_segmentAt ∈ TB := tbm_3 (List.mem_of_getElem? (i := 48) rfl) rfl
theorem tb518 : Cond.code yX8_segmentAt cX8_segmentAt 3 (some .int) ∈ TB := tbm_3 (List.mem_of_getElem? (i := 49) rfl) rfl
theorem tb519 : Cond.methodLink RX8 48 yX8_valueOf ∈ TB := tbm_3 (List.mem_of_getElem? (i := 50) rfl) rfl
theorem tb520 : Cond.methodLink RX6 138 yX7_rungAt ∈ TB := tbm_3 (List.mem_of_getElem? (i := 51) rfl) rfl
theorem tb521 : Cond.instanceMethod yX7_rungAt ∈ TB := tbm_3 (List.mem_of_getElem? (i := 52) rfl) rfl
theorem tb522 : Cond.selects RX7 yX7_rungAt yX7_rungAt ∈ TB := tbm_3 (List.mem_of_getElem? (i := 53) rfl) rfl
theorem tb523 : Cond.code yX7_rungAt cX7_rungAt 3 (some .int) ∈ TB := tbm_3 (List.mem_of_getElem? (i := 54) rfl) rfl
theorem tb524 : Cond.methodLink RX6 105 yX3_put ∈ TB := tbm_3 (List.mem_of_getElem? (i := 55) rfl) rfl
theorem tb525 : Cond.instanceMethod yX3_put ∈ TB := tbm_3 (List.mem_of_getElem? (i := 56) rfl) rfl
theorem tb526 : Cond.selects RX3 yX3_put yX3_put ∈ TB := tbm_3 (List.mem_of_getElem? (i := 57) rfl) rfl
theorem tb527 : Cond.code yX3_put cX3_put 2 none ∈ TB := tbm_3 (List.mem_of_getElem? (i := 58) rfl) rfl
theorem tb528 : Cond.methodLink RX6 109 yX6_beginNext ∈ TB := tbm_3 (List.mem_of_getElem? (i := 59) rfl) rfl
theorem tb529 : Cond.instanceMethod yX6_beginNext ∈ TB := tbm_3 (List.mem_of_getElem? (i := 61) rfl) rfl
theorem tb530 : Cond.code yX6_beginNext cX6_beginNext 3 none ∈ TB := tbm_3 (List.mem_of_getElem? (i := 62) rfl) rfl
theorem tb531 : Cond.methodLink RX6 141 yX6_hasNext ∈ TB := tbm_3 (List.mem_of_getElem? (i := 63) rfl) rfl
theorem tb532 : Cond.instanceMethod yX6_hasNext ∈ TB := tbm_3 (List.mem_of_getElem? (i := 65) rfl) rfl
theorem tb533 : Cond.code yX6_hasNext cX6_hasNext 3 (some .boolean) ∈ TB := tbm_3 (List.mem_of_getElem? (i := 66) rfl) rfl
theorem tb534 : Cond.methodLink RX6 179 yX8_isAvailable ∈ TB := tbm_3 (List.mem_of_getElem? (i := 67) rfl) rfl
theorem tb535 : Cond.instanceMethod yX8_isAvailable ∈ TB := tbm_3 (List.mem_of_getElem? (i := 68) rfl) rfl
theorem tb536 : Cond.selects RX8 yX8_isAvailable yX8_isAvailable ∈ TB := tbm_3 (List.mem_of_getElem? (i := 69) rfl) rfl
theorem tb537 : Cond.code yX8_isAvailable cX8_isAvailable 4 (some .boolean) ∈ TB := tbm_3 (List.mem_of_getElem? (i := 70) rfl) rfl
theorem tb538 : Cond.methodLink RX6 183 yX6_bufferOf ∈ TB := tbm_3 (List.mem_of_getElem? (i := 71) rfl) rfl
theorem tb539 : Cond.methodLink RX6 148 yX6_videoRung ∈ TB := tbm_3 (List.mem_of_getElem? (i := 72) rfl) rfl
theorem tb540 : Cond.instanceMethod yX6_videoRung ∈ TB := tbm_3 (List.mem_of_getElem? (i := 73) rfl) rfl
theorem tb541 : Cond.selects RX6 yX6_videoRung yX6_videoRung ∈ TB := tbm_3 (List.mem_of_getElem? (i := 74) rfl) rfl
theorem tb542 : Cond.code yX6_videoRung cX6_videoRung 3 (some .int) ∈ TB := tbm_3 (List.mem_of_getElem? (i := 75) rfl) rfl
theorem tb543 : Cond.methodLink RX6 159 yX6_rungByThroughput ∈ TB := tbm_3 (List.mem_of_getElem? (i := 76) rfl) rfl
theorem tb544 : Cond.instanceMethod yX6_rungByThroughput ∈ TB := tbm_3 (List.mem_of_getElem? (i := 78) rfl) rfl
theorem tb545 : Cond.code yX6_rungByThroughput cX6_rungByThroughput 7 (some .int) ∈ TB := tbm_3 (List.mem_of_getElem? (i := 79) rfl) rfl
theorem tb546 : Cond.methodLink RX6 289 yX5_rateOver ∈ TB := tbm_3 (List.mem_of_getElem? (i := 80) rfl) rfl
theorem tb547 : Cond.instanceMethod yX5_rateOver ∈ TB := tbm_3 (List.mem_of_getElem? (i := 81) rfl) rfl
theorem tb548 : Cond.selects RX5 yX5_rateOver yX5_rateOver ∈ TB := tbm_3 (List.mem_of_getElem? (i := 82) rfl) rfl
theorem tb549 : Cond.code yX5_rateOver cX5_rateOver 8 (some .int) ∈ TB := tbm_3 (List.mem_of_getElem? (i := 83) rfl) rfl
theorem tb550 : Cond.methodLink RX6 268 yX2_rateOf ∈ TB := tbm_3 (List.mem_of_getElem? (i := 84) rfl) rfl
theorem tb551 : Cond.methodLink RX6 292 yX6_rungByBuffer ∈ TB := tbm_3 (List.mem_of_getElem? (i := 85) rfl) rfl
theorem tb552 : Cond.instanceMethod yX6_rungByBuffer ∈ TB := tbm_3 (List.mem_of_getElem? (i := 87) rfl) rfl
theorem tb553 : Cond.code yX6_rungByBuffer cX6_rungByBuffer 5 (some .int) ∈ TB := tbm_3 (List.mem_of_getElem? (i := 88) rfl) rfl
theorem tb554 : Cond.methodLink RX6 283 ⟨"java/lang/Math", "min", "(II)I"⟩ ∈ TB := tbm_3 (List.mem_of_getElem? (i := 89) rfl) rfl
theorem tb555 : Cond.static ⟨"java/lang/Math", "min", "(II)I"⟩ ∈ TB := tbm_3 (List.mem_of_getElem? (i := 90) rfl) rfl
theorem tb556 : Cond.code ⟨"java/lang/Math", "min", "(II)I"⟩ prog_18_method_69_code 2 (some .int) ∈ TB := tbm_3 (List.mem_of_getElem? (i := 91) rfl) rfl
theorem tb557 : Cond.methodLink RX6 152 yX6_beginDownload ∈ TB := tbm_3 (List.mem_of_getElem? (i := 92) rfl) rfl
theorem tb558 : Cond.instanceMethod yX6_beginDownload ∈ TB := tbm_3 (List.mem_of_getElem? (i := 94) rfl) rfl
theorem tb559 : Cond.code yX6_beginDownload cX6_beginDownload 4 none ∈ TB := tbm_3 (List.mem_of_getElem? (i := 95) rfl) rfl
theorem tb560 : Cond.methodLink RX6 201 yX8_bitsOf ∈ TB := tbm_3 (List.mem_of_getElem? (i := 96) rfl) rfl
theorem tb561 : Cond.instanceMethod yX8_bitsOf ∈ TB := tbm_3 (List.mem_of_getElem? (i := 97) rfl) rfl
theorem tb562 : Cond.selects RX8 yX8_bitsOf yX8_bitsOf ∈ TB := tbm_3 (List.mem_of_getElem? (i := 98) rfl) rfl
theorem tb563 : Cond.code yX8_bitsOf cX8_bitsOf 8 (some .long) ∈ TB := tbm_3 (List.mem_of_getElem? (i := 99) rfl) rfl
theorem tb564 : Cond.methodLink RX8 62 yX8_ladderOf ∈ TB := tbm_3 (List.mem_of_getElem? (i := 100) rfl) rfl
theorem tb565 : Cond.methodLink RX8 66 yX2_rateOf ∈ TB := tbm_3 (List.mem_of_getElem? (i := 101) rfl) rfl
theorem tb566 : Cond.constantLong RX8 69 100 ∈ TB := tbm_3 (List.mem_of_getElem? (i := 102) rfl) rfl
theorem tb567 : Cond.methodLink RX8 71 ⟨"java/lang/Math", "max", "(JJ)J"⟩ ∈ TB := tbm_3 (List.mem_of_getElem? (i := 103) rfl) rfl
theorem tb568 : Cond.static ⟨"java/lang/Math", "max", "(JJ)J"⟩ ∈ TB := tbm_3 (List.mem_of_getElem? (i := 104) rfl) rfl
theorem tb569 : Cond.code ⟨"java/lang/Math", "max", "(JJ)J"⟩ prog_18_method_66_code 4 (some .long) ∈ TB := tbm_3 (List.mem_of_getElem? (i := 105) rfl) rfl
theorem tb570 : Cond.methodLink RX6 112 yX6_receive ∈ TB := tbm_3 (List.mem_of_getElem? (i := 106) rfl) rfl
theorem tb571 : Cond.instanceMethod yX6_receive ∈ TB := tbm_3 (List.mem_of_getElem? (i := 108) rfl) rfl
theorem tb572 : Cond.code yX6_receive cX6_receive 1 none ∈ TB := tbm_3 (List.mem_of_getElem? (i := 109) rfl) rfl
theorem tb573 : Cond.methodLink RX6 216 yX4_rateAt ∈ TB := tbm_3 (List.mem_of_getElem? (i := 110) rfl) rfl
theorem tb574 : Cond.instanceMethod yX4_rateAt ∈ TB := tbm_3 (List.mem_of_getElem? (i := 111) rfl) rfl
theorem tb575 : Cond.selects RX4 yX4_rateAt yX4_rateAt ∈ TB := tbm_3 (List.mem_of_getElem? (i := 112) rfl) rfl
theorem tb576 : Cond.code yX4_rateAt cX4_rateAt 4 (some .int) ∈ TB := tbm_3 (List.mem_of_getElem? (i := 113) rfl) rfl
theorem tb577 : Cond.methodLink RX6 221 yX1_receiveAt ∈ TB := tbm_3 (List.mem_of_getElem? (i := 114) rfl) rfl
theorem tb578 : Cond.instanceMethod yX1_receiveAt ∈ TB := tbm_3 (List.mem_of_getElem? (i := 115) rfl) rfl
theorem tb579 : Cond.selects RX1 yX1_receiveAt yX1_receiveAt ∈ TB := tbm_3 (List.mem_of_getElem? (i := 116) rfl) rfl
theorem tb580 : Cond.code yX1_receiveAt cX1_receiveAt 2 none ∈ TB := tbm_3 (List.mem_of_getElem? (i := 117) rfl) rfl
theorem tb581 : Cond.methodLink RX1 38 ⟨"java/lang/Math", "min", "(JJ)J"⟩ ∈ TB := tbm_3 (List.mem_of_getElem? (i := 118) rfl) rfl
theorem tb582 : Cond.static ⟨"java/lang/Math", "min", "(JJ)J"⟩ ∈ TB := tbm_3 (List.mem_of_getElem? (i := 119) rfl) rfl
theorem tb583 : Cond.code ⟨"java/lang/Math", "min", "(JJ)J"⟩ prog_18_method_70_code 4 (some .long) ∈ TB := tbm_3 (List.mem_of_getElem? (i := 120) rfl) rfl
theorem tb584 : Cond.methodLink RX6 224 yX1_isWhole ∈ TB := tbm_3 (List.mem_of_getElem? (i := 121) rfl) rfl
theorem tb585 : Cond.instanceMethod yX1_isWhole ∈ TB := tbm_3 (List.mem_of_getElem? (i := 122) rfl) rfl
theorem tb586 : Cond.selects RX1 yX1_isWhole yX1_isWhole ∈ TB := tbm_3 (List.mem_of_getElem? (i := 123) rfl) rfl
theorem tb587 : Cond.code yX1_isWhole cX1_isWhole 1 (some .boolean) ∈ TB := tbm_3 (List.mem_of_getElem? (i := 124) rfl) rfl
theorem tb588 : Cond.methodLink RX6 227 yX5_put ∈ TB := tbm_3 (List.mem_of_getElem? (i := 125) rfl) rfl
theorem tb589 : Cond.instanceMethod yX5_put ∈ TB := tbm_3 (List.mem_of_getElem? (i := 126) rfl) rfl
theorem tb590 : Cond.selects RX5 yX5_put yX5_put ∈ TB := tbm_3 (List.mem_of_getElem? (i := 127) rfl) rfl
theorem tb591 : Cond.code yX5_put cX5_put 5 none ∈ TB := tbm_3 (List.mem_of_getElem? (i := 128) rfl) rfl
theorem tb592 : Cond.methodLink RX5 22 ⟨"java/lang/System", "arraycopy", "(Ljava/lang/Object;ILjava/lang/Object;II)V"⟩ ∈ TB := tbm_3 (List.mem_of_getElem? (i := 129) rfl) rfl
theorem tb593 : Cond.static ⟨"java/lang/System", "arraycopy", "(Ljava/lang/Object;ILjava/lang/Object;II)V"⟩ ∈ TB := tbm_3 (List.mem_of_getElem? (i := 130) rfl) rfl
theorem tb594 : Cond.native ⟨"java/lang/System", "arraycopy", "(Ljava/lang/Object;ILjava/lang/Object;II)V"⟩ ∈ TB := tbm_3 (List.mem_of_getElem? (i := 131) rfl) rfl
theorem tb595 : Cond.methodLink RX5 28 ⟨"java/lang/Math", "min", "(II)I"⟩ ∈ TB := tbm_3 (List.mem_of_getElem? (i := 132) rfl) rfl
theorem tb596 : Cond.methodLink RX6 233 yX7_put ∈ TB := tbm_3 (List.mem_of_getElem? (i := 133) rfl) rfl
theorem tb597 : Cond.instanceMethod yX7_put ∈ TB := tbm_3 (List.mem_of_getElem? (i := 134) rfl) rfl
theorem tb598 : Cond.selects RX7 yX7_put yX7_put ∈ TB := tbm_3 (List.mem_of_getElem? (i := 135) rfl) rfl
theorem tb599 : Cond.code yX7_put cX7_put 2 none ∈ TB := tbm_3 (List.mem_of_getElem? (i := 136) rfl) rfl
theorem tb600 : Cond.methodLink RX6 235 yX7_endsInSwitch ∈ TB := tbm_3 (List.mem_of_getElem? (i := 137) rfl) rfl
theorem tb601 : Cond.instanceMethod yX7_endsInSwitch ∈ TB := tbm_3 (List.mem_of_getElem? (i := 138) rfl) rfl
theorem tb602 : Cond.selects RX7 yX7_endsInSwitch yX7_endsInSwitch ∈ TB := tbm_3 (List.mem_of_getElem? (i := 139) rfl) rfl
theorem tb603 : Cond.code yX7_endsInSwitch cX7_endsInSwitch 1 (some .boolean) ∈ TB := tbm_3 (List.mem_of_getElem? (i := 140) rfl) rfl
theorem tb604 : Cond.methodLink RX7 25 yX7_rungAt ∈ TB := tbm_3 (List.mem_of_getElem? (i := 141) rfl) rfl
theorem tb605 : Cond.methodLink RX6 115 yX6_mayBeAbandoned ∈ TB := tbm_3 (List.mem_of_getElem? (i := 142) rfl) rfl
theorem tb606 : Cond.instanceMethod yX6_mayBeAbandoned ∈ TB := tbm_3 (List.mem_of_getElem? (i := 144) rfl) rfl
theorem tb607 : Cond.code yX6_mayBeAbandoned cX6_mayBeAbandoned 1 (some .boolean) ∈ TB := tbm_3 (List.mem_of_getElem? (i := 145) rfl) rfl
theorem tb608 : Cond.methodLink RX6 119 yX6_abandonIfSlow ∈ TB := tbm_3 (List.mem_of_getElem? (i := 146) rfl) rfl
theorem tb609 : Cond.instanceMethod yX6_abandonIfSlow ∈ TB := tbm_3 (List.mem_of_getElem? (i := 148) rfl) rfl
theorem tb610 : Cond.code yX6_abandonIfSlow cX6_abandonIfSlow 6 none ∈ TB := tbm_3 (List.mem_of_getElem? (i := 149) rfl) rfl
theorem tb611 : Cond.methodLink RX6 241 yX1_timeFor ∈ TB := tbm_3 (List.mem_of_getElem? (i := 150) rfl) rfl
theorem tb612 : Cond.instanceMethod yX1_timeFor ∈ TB := tbm_3 (List.mem_of_getElem? (i := 151) rfl) rfl
theorem tb613 : Cond.selects RX1 yX1_timeFor yX1_timeFor ∈ TB := tbm_3 (List.mem_of_getElem? (i := 152) rfl) rfl
theorem tb614 : Cond.code yX1_timeFor cX1_timeFor 3 (some .long) ∈ TB := tbm_3 (List.mem_of_getElem? (i := 153) rfl) rfl
theorem tb615 : Cond.methodLink RX6 122 yX6_isReadyToPlay ∈ TB := tbm_3 (List.mem_of_getElem? (i := 154) rfl) rfl
theorem tb616 : Cond.instanceMethod yX6_isReadyToPlay ∈ TB := tbm_3 (List.mem_of_getElem? (i := 156) rfl) rfl
theorem tb617 : Cond.code yX6_isReadyToPlay cX6_isReadyToPlay 1 (some .boolean) ∈ TB := tbm_3 (List.mem_of_getElem? (i := 157) rfl) rfl
theorem tb618 : Cond.methodLink RX6 251 yX6_smallestBuffer ∈ TB := tbm_3 (List.mem_of_getElem? (i := 158) rfl) rfl
theorem tb619 : Cond.instanceMethod yX6_smallestBuffer ∈ TB := tbm_3 (List.mem_of_getElem? (i := 160) rfl) rfl
theorem tb620 : Cond.code yX6_smallestBuffer cX6_smallestBuffer 2 (some .int) ∈ TB := tbm_3 (List.mem_of_getElem? (i := 161) rfl) rfl
theorem tb621 : Cond.methodLink RX6 257 yX8_hasAudio ∈ TB := tbm_3 (List.mem_of_getElem? (i := 162) rfl) rfl
theorem tb622 : Cond.instanceMethod yX8_hasAudio ∈ TB := tbm_3 (List.mem_of_getElem? (i := 163) rfl) rfl
theorem tb623 : Cond.selects RX8 yX8_hasAudio yX8_hasAudio ∈ TB := tbm_3 (List.mem_of_getElem? (i := 164) rfl) rfl
theorem tb624 : Cond.code yX8_hasAudio cX8_hasAudio 1 (some .boolean) ∈ TB := tbm_3 (List.mem_of_getElem? (i := 165) rfl) rfl
theorem tb625 : Cond.methodLink RX6 254 yX6_isAllDownloaded ∈ TB := tbm_3 (List.mem_of_getElem? (i := 166) rfl) rfl
theorem tb626 : Cond.instanceMethod yX6_isAllDownloaded ∈ TB := tbm_3 (List.mem_of_getElem? (i := 168) rfl) rfl
theorem tb627 : Cond.code yX6_isAllDownloaded cX6_isAllDownloaded 2 (some .boolean) ∈ TB := tbm_3 (List.mem_of_getElem? (i := 169) rfl) rfl
theorem tb628 : Cond.methodLink RX6 125 yX6_play ∈ TB := tbm_3 (List.mem_of_getElem? (i := 170) rfl) rfl
theorem tb629 : Cond.instanceMethod yX6_play ∈ TB := tbm_3 (List.mem_of_getElem? (i := 172) rfl) rfl
theorem tb630 : Cond.code yX6_play cX6_play 3 none ∈ TB := tbm_3 (List.mem_of_getElem? (i := 173) rfl) rfl
theorem tb631 : Cond.methodLink RX6 260 yX6_leavePlaying ∈ TB := tbm_3 (List.mem_of_getElem? (i := 174) rfl) rfl
theorem tb632 : Cond.instanceMethod yX6_leavePlaying ∈ TB := tbm_3 (List.mem_of_getElem? (i := 176) rfl) rfl
theorem tb633 : Cond.code yX6_leavePlaying cX6_leavePlaying 1 none ∈ TB := tbm_3 (List.mem_of_getElem? (i := 177) rfl) rfl
theorem tb634 : Cond.methodLink RX6 271 yX6_isCatchingUp ∈ TB := tbm_3 (List.mem_of_getElem? (i := 178) rfl) rfl
theorem tb635 : Cond.instanceMethod yX6_isCatchingUp ∈ TB := tbm_3 (List.mem_of_getElem? (i := 180) rfl) rfl
theorem tb636 : Cond.code yX6_isCatchingUp cX6_isCatchingUp 2 (some .boolean) ∈ TB := tbm_3 (List.mem_of_getElem? (i := 181) rfl) rfl
theorem tb637 : Cond.methodLink RX6 277 yX8_isLive ∈ TB := tbm_3 (List.mem_of_getElem? (i := 182) rfl) rfl
theorem tb638 : Cond.instanceMethod yX8_isLive ∈ TB := tbm_3 (List.mem_of_getElem? (i := 183) rfl) rfl
theorem tb639 : Cond.selects RX8 yX8_isLive yX8_isLive ∈ TB := tbm_3 (List.mem_of_getElem? (i := 184) rfl) rfl
theorem tb640 : Cond.code yX8_isLive cX8_isLive 1 (some .boolean) ∈ TB := tbm_3 (List.mem_of_getElem? (i := 185) rfl) rfl
theorem tb641 : Cond.methodLink RX6 280 yX6_behindLive ∈ TB := tbm_3 (List.mem_of_getElem? (i := 186) rfl) rfl
theorem tb642 : Cond.instanceMethod yX6_behindLive ∈ TB := tbm_3 (List.mem_of_getElem? (i := 187) rfl) rfl
theorem tb643 : Cond.selects RX6 yX6_behindLive yX6_behindLive ∈ TB := tbm_3 (List.mem_of_getElem? (i := 188) rfl) rfl
theorem tb644 : Cond.code yX6_behindLive cX6_behindLive 1 (some .int) ∈ TB := tbm_3 (List.mem_of_getElem? (i := 189) rfl) rfl
theorem tb645 : Cond.methodLink RX6 128 yX0_spendIn ∈ TB := tbm_3 (List.mem_of_getElem? (i := 190) rfl) rfl
theorem tb646 : Cond.instanceMethod yX0_spendIn ∈ TB := tbm_3 (List.mem_of_getElem? (i := 191) rfl) rfl
theorem tb647 : Cond.selects RX0 yX0_spendIn yX0_spendIn ∈ TB := tbm_3 (List.mem_of_getElem? (i := 192) rfl) rfl
theorem tb648 : Cond.code yX0_spendIn cX0_spendIn 2 none ∈ TB := tbm_3 (List.mem_of_getElem? (i := 193) rfl) rfl
theorem tb649 : Cond.methodLink RL 148 yX9_leastStart ∈ TB := tbm_3 (List.mem_of_getElem? (i := 194) rfl) rfl
theorem tb650 : Cond.instanceMethod yX9_leastStart ∈ TB := tbm_3 (List.mem_of_getElem? (i := 195) rfl) rfl
theorem tb651 : Cond.selects RX9 yX9_leastStart yX9_leastStart ∈ TB := tbm_3 (List.mem_of_getElem? (i := 196) rfl) rfl
theorem tb652 : Cond.code yX9_leastStart cX9_leastStart 4 (some .int) ∈ TB := tbm_3 (List.mem_of_getElem? (i := 197) rfl) rfl
theorem tb653 : Cond.constant RX9 212 60000 ∈ TB := tbm_3 (List.mem_of_getElem? (i := 198) rfl) rfl
theorem tb654 : Cond.methodLink RX9 213 ⟨"java/lang/Math", "min", "(II)I"⟩ ∈ TB := tbm_3 (List.mem_of_getElem? (i := 199) rfl) rfl
theorem tb655 : Cond.methodLink RX9 218 yX9_playsWithoutStall ∈ TB := tbm_3 (List.mem_of_getElem? (i := 200) rfl) rfl
theorem tb656 : Cond.instanceMethod yX9_playsWithoutStall ∈ TB := tbm_3 (List.mem_of_getElem? (i := 202) rfl) rfl
theorem tb657 : Cond.code yX9_playsWithoutStall cX9_playsWithoutStall 4 (some .boolean) ∈ TB := tbm_3 (List.mem_of_getElem? (i := 203) rfl) rfl
theorem tb658 : Cond.methodLink RL 71 yL_cell ∈ TB := tbm_3 (List.mem_of_getElem? (i := 204) rfl) rfl
theorem tb659 : Cond.static yL_cell ∈ TB := tbm_3 (List.mem_of_getElem? (i := 205) rfl) rfl
theorem tb660 : Cond.code yL_cell cL_cell 2 (some .int) ∈ TB := tbm_3 (List.mem_of_getElem? (i := 206) rfl) rfl
theorem tb661 : Cond.constant RL 7 763049417 ∈ TB := tbm_3 (List.mem_of_getElem? (i := 207) rfl) rfl
theorem tb662 : Cond.methodLink RL 75 yL_up ∈ TB := tbm_3 (List.mem_of_getElem? (i := 208) rfl) rfl
theorem tb663 : Cond.static yL_up ∈ TB := tbm_3 (List.mem_of_getElem? (i := 209) rfl) rfl
theorem tb664 : Cond.code yL_up cL_up 2 (some .int) ∈ TB := tbm_3 (List.mem_of_getElem? (i := 210) rfl) rfl
theorem tb665 : Cond.constant RL 8 2147483647 ∈ TB := tbm_3 (List.mem_of_getElem? (i := 211) rfl) rfl
theorem tb666 : Cond.methodLink RL 59 yL_ran ∈ TB := tbm_3 (List.mem_of_getElem? (i := 212) rfl) rfl
theorem tb667 : Cond.static yL_ran ∈ TB := tbm_3 (List.mem_of_getElem? (i := 213) rfl) rfl
theorem tb668 : Cond.codeWith yL_ran cL_ran 3 (some .int) [(0, 5, 6, 17), (0, 5, 9, 19)] ∈ TB := tbm_3 (List.mem_of_getElem? (i := 214) rfl) rfl
theorem tb669 : Cond.classLink RL 17 "java/lang/IllegalArgumentException" ∈ TB := tbm_3 (List.mem_of_getElem? (i := 215) rfl) rfl
theorem tb670 : Cond.classLink RL 19 "java/lang/IllegalStateException" ∈ TB := tbm_3 (List.mem_of_getElem? (i := 216) rfl) rfl
theorem tb671 : Cond.methodLink RL 24 yX9_run ∈ TB := tbm_3 (List.mem_of_getElem? (i := 217) rfl) rfl
theorem tb672 : Cond.instanceMethod yX9_run ∈ TB := tbm_3 (List.mem_of_getElem? (i := 218) rfl) rfl
theorem tb673 : Cond.selects RX9 yX9_run yX9_run ∈ TB := tbm_3 (List.mem_of_getElem? (i := 219) rfl) rfl
theorem tb674 : Cond.code yX9_run cX9_run 2 (some .int) ∈ TB := tbm_3 (List.mem_of_getElem? (i := 220) rfl) rfl
theorem tb675 : Cond.constant RX9 123 10000000 ∈ TB := tbm_3 (List.mem_of_getElem? (i := 221) rfl) rfl
theorem tb676 : Cond.methodLink RL 66 yL_started ∈ TB := tbm_3 (List.mem_of_getElem? (i := 222) rfl) rfl
theorem tb677 : Cond.static yL_started ∈ TB := tbm_3 (List.mem_of_getElem? (i := 223) rfl) rfl
theorem tb678 : Cond.codeWith yL_started cL_started 2 (some .int) [(0, 4, 5, 19)] ∈ TB := tbm_3 (List.mem_of_getElem? (i := 224) rfl) rfl
theorem tb679 : Cond.methodLink RL 28 yX9_start ∈ TB := tbm_3 (List.mem_of_getElem? (i := 225) rfl) rfl
theorem tb680 : Cond.instanceMethod yX9_start ∈ TB := tbm_3 (List.mem_of_getElem? (i := 226) rfl) rfl
theorem tb681 : Cond.selects RX9 yX9_start yX9_start ∈ TB := tbm_3 (List.mem_of_getElem? (i := 227) rfl) rfl
theorem tb682 : Cond.code yX9_start cX9_start 1 (some .int) ∈ TB := tbm_3 (List.mem_of_getElem? (i := 228) rfl) rfl
theorem tb683 : Cond.methodLink RL 63 yL_foretold ∈ TB := tbm_3 (List.mem_of_getElem? (i := 229) rfl) rfl
theorem tb684 : Cond.static yL_foretold ∈ TB := tbm_3 (List.mem_of_getElem? (i := 230) rfl) rfl
theorem tb685 : Cond.codeWith yL_foretold cL_foretold 4 (some .int) [(0, 6, 7, 17), (0, 6, 11, 15), (0, 6, 15, 19)] ∈ TB := tbm_3 (List.mem_of_getElem? (i := 231) rfl) rfl
theorem tb686 : Cond.classLink RL 15 "java/lang/IndexOutOfBoundsException" ∈ TB := tbm_3 (List.mem_of_getElem? (i := 232) rfl) rfl
theorem tb687 : Cond.methodLink RL 32 yX9_forecast ∈ TB := tbm_3 (List.mem_of_getElem? (i := 233) rfl) rfl
theorem tb688 : Cond.instanceMethod yX9_forecast ∈ TB := tbm_3 (List.mem_of_getElem? (i := 234) rfl) rfl
theorem tb689 : Cond.selects RX9 yX9_forecast yX9_forecast ∈ TB := tbm_3 (List.mem_of_getElem? (i := 235) rfl) rfl
theorem tb690 : Cond.code yX9_forecast cX9_forecast 3 (some .int) ∈ TB := tbm_3 (List.mem_of_getElem? (i := 236) rfl) rfl
theorem tb691 : Cond.methodLink RX9 204 yX6_copyFrom ∈ TB := tbm_3 (List.mem_of_getElem? (i := 237) rfl) rfl
theorem tb692 : Cond.instanceMethod yX6_copyFrom ∈ TB := tbm_3 (List.mem_of_getElem? (i := 238) rfl) rfl
theorem tb693 : Cond.selects RX6 yX6_copyFrom yX6_copyFrom ∈ TB := tbm_3 (List.mem_of_getElem? (i := 239) rfl) rfl
theorem tb694 : Cond.code yX6_copyFrom cX6_copyFrom 2 none ∈ TB := tbm_4 (List.mem_of_getElem? (i := 0) rfl) rfl
theorem tb695 : Cond.methodLink RX6 85 yX7_copyFrom ∈ TB := tbm_4 (List.mem_of_getElem? (i := 1) rfl) rfl
theorem tb696 : Cond.instanceMethod yX7_copyFrom ∈ TB := tbm_4 (List.mem_of_getElem? (i := 2) rfl) rfl
theorem tb697 : Cond.selects RX7 yX7_copyFrom yX7_copyFrom ∈ TB := tbm_4 (List.mem_of_getElem? (i := 3) rfl) rfl
theorem tb698 : Cond.code yX7_copyFrom cX7_copyFrom 2 none ∈ TB := tbm_4 (List.mem_of_getElem? (i := 4) rfl) rfl
theorem tb699 : Cond.methodLink RX7 19 ⟨"java/lang/System", "arraycopy", "(Ljava/lang/Object;ILjava/lang/Object;II)V"⟩ ∈ TB := tbm_4 (List.mem_of_getElem? (i := 5) rfl) rfl
theorem tb700 : Cond.methodLink RX6 89 yX5_copyFrom ∈ TB := tbm_4 (List.mem_of_getElem? (i := 6) rfl) rfl
theorem tb701 : Cond.instanceMethod yX5_copyFrom ∈ TB := tbm_4 (List.mem_of_getElem? (i := 7) rfl) rfl
theorem tb702 : Cond.selects RX5 yX5_copyFrom yX5_copyFrom ∈ TB := tbm_4 (List.mem_of_getElem? (i := 8) rfl) rfl
theorem tb703 : Cond.code yX5_copyFrom cX5_copyFrom 2 none ∈ TB := tbm_4 (List.mem_of_getElem? (i := 9) rfl) rfl
theorem tb704 : Cond.methodLink RX6 92 yX0_copyFrom ∈ TB := tbm_4 (List.mem_of_getElem? (i := 10) rfl) rfl
theorem tb705 : Cond.instanceMethod yX0_copyFrom ∈ TB := tbm_4 (List.mem_of_getElem? (i := 11) rfl) rfl
theorem tb706 : Cond.selects RX0 yX0_copyFrom yX0_copyFrom ∈ TB := tbm_4 (List.mem_of_getElem? (i := 12) rfl) rfl
theorem tb707 : Cond.code yX0_copyFrom cX0_copyFrom 2 none ∈ TB := tbm_4 (List.mem_of_getElem? (i := 13) rfl) rfl
theorem tb708 : Cond.methodLink RX6 95 yX3_copyFrom ∈ TB := tbm_4 (List.mem_of_getElem? (i := 14) rfl) rfl
theorem tb709 : Cond.instanceMethod yX3_copyFrom ∈ TB := tbm_4 (List.mem_of_getElem? (i := 15) rfl) rfl
theorem tb710 : Cond.selects RX3 yX3_copyFrom yX3_copyFrom ∈ TB := tbm_4 (List.mem_of_getElem? (i := 16) rfl) rfl
theorem tb711 : Cond.code yX3_copyFrom cX3_copyFrom 2 none ∈ TB := tbm_4 (List.mem_of_getElem? (i := 17) rfl) rfl
theorem tb712 : Cond.methodLink RX3 19 ⟨"java/lang/System", "arraycopy", "(Ljava/lang/Object;ILjava/lang/Object;II)V"⟩ ∈ TB := tbm_4 (List.mem_of_getElem? (i := 18) rfl) rfl
theorem tb713 : Cond.methodLink RX6 98 yX1_copyFrom ∈ TB := tbm_4 (List.mem_of_getElem? (i := 19) rfl) rfl
theorem tb714 : Cond.instanceMethod yX1_copyFrom ∈ TB := tbm_4 (List.mem_of_getElem? (i := 20) rfl) rfl
theorem tb715 : Cond.selects RX1 yX1_copyFrom yX1_copyFrom ∈ TB := tbm_4 (List.mem_of_getElem? (i := 21) rfl) rfl
theorem tb716 : Cond.code yX1_copyFrom cX1_copyFrom 2 none ∈ TB := tbm_4 (List.mem_of_getElem? (i := 22) rfl) rfl
theorem tb717 : Cond.methodLink RL 126 yL_trial ∈ TB := tbm_4 (List.mem_of_getElem? (i := 23) rfl) rfl
theorem tb718 : Cond.static yL_trial ∈ TB := tbm_4 (List.mem_of_getElem? (i := 24) rfl) rfl
theorem tb719 : Cond.codeWith yL_trial cL_trial 4 (some .long) [(0, 6, 7, 17), (0, 6, 12, 19)] ∈ TB := tbm_4 (List.mem_of_getElem? (i := 25) rfl) rfl
theorem tb720 : Cond.methodLink RL 35 yX9_trialScore ∈ TB := tbm_4 (List.mem_of_getElem? (i := 26) rfl) rfl
theorem tb721 : Cond.instanceMethod yX9_trialScore ∈ TB := tbm_4 (List.mem_of_getElem? (i := 27) rfl) rfl
theorem tb722 : Cond.selects RX9 yX9_trialScore yX9_trialScore ∈ TB := tbm_4 (List.mem_of_getElem? (i := 28) rfl) rfl
theorem tb723 : Cond.code yX9_trialScore cX9_trialScore 3 (some .long) ∈ TB := tbm_4 (List.mem_of_getElem? (i := 29) rfl) rfl
theorem tb724 : Cond.constantLong RL 39 (-1) ∈ TB := tbm_4 (List.mem_of_getElem? (i := 30) rfl) rfl
theorem tb725 : Cond.constantLong RL 41 (-3) ∈ TB := tbm_4 (List.mem_of_getElem? (i := 31) rfl) rfl
theorem tb726 : Cond.methodLink RL 130 yL_fails ∈ TB := tbm_4 (List.mem_of_getElem? (i := 32) rfl) rfl
theorem tb727 : Cond.static yL_fails ∈ TB := tbm_4 (List.mem_of_getElem? (i := 33) rfl) rfl
theorem tb728 : Cond.code yL_fails cL_fails 5 (some .boolean) ∈ TB := tbm_4 (List.mem_of_getElem? (i := 34) rfl) rfl
theorem tb729 : Cond.methodLink RL 43 yX9_fingerprint ∈ TB := tbm_4 (List.mem_of_getElem? (i := 35) rfl) rfl
theorem tb730 : Cond.instanceMethod yX9_fingerprint ∈ TB := tbm_4 (List.mem_of_getElem? (i := 36) rfl) rfl
theorem tb731 : Cond.selects RX9 yX9_fingerprint yX9_fingerprint ∈ TB := tbm_4 (List.mem_of_getElem? (i := 37) rfl) rfl
theorem tb732 : Cond.code yX9_fingerprint cX9_fingerprint 4 (some .long) ∈ TB := tbm_4 (List.mem_of_getElem? (i := 38) rfl) rfl
theorem tb733 : Cond.constantLong RX9 221 59 ∈ TB := tbm_4 (List.mem_of_getElem? (i := 39) rfl) rfl
theorem tb734 : Cond.methodLink RX9 223 yX9_mix ∈ TB := tbm_4 (List.mem_of_getElem? (i := 40) rfl) rfl
theorem tb735 : Cond.static yX9_mix ∈ TB := tbm_4 (List.mem_of_getElem? (i := 41) rfl) rfl
theorem tb736 : Cond.code yX9_mix cX9_mix 4 (some .long) ∈ TB := tbm_4 (List.mem_of_getElem? (i := 42) rfl) rfl
theorem tb737 : Cond.constantLong RX9 230 31 ∈ TB := tbm_4 (List.mem_of_getElem? (i := 43) rfl) rfl
theorem tb738 : Cond.methodLink RX9 152 yX1_fact ∈ TB := tbm_4 (List.mem_of_getElem? (i := 44) rfl) rfl
theorem tb739 : Cond.instanceMethod yX1_fact ∈ TB := tbm_4 (List.mem_of_getElem? (i := 45) rfl) rfl
theorem tb740 : Cond.selects RX1 yX1_fact yX1_fact ∈ TB := tbm_4 (List.mem_of_getElem? (i := 46) rfl) rfl
theorem tb741 : Cond.code yX1_fact cX1_fact 2 (some .int) ∈ TB := tbm_4 (List.mem_of_getElem? (i := 47) rfl) rfl
theorem tb742 : Cond.methodLink RX9 157 yX1_receivedOrNone ∈ TB := tbm_4 (List.mem_of_getElem? (i := 48) rfl) rfl
theorem tb743 : Cond.instanceMethod yX1_receivedOrNone ∈ TB := tbm_4 (List.mem_of_getElem? (i := 49) rfl) rfl
theorem tb744 : Cond.selects RX1 yX1_receivedOrNone yX1_receivedOrNone ∈ TB := tbm_4 (List.mem_of_getElem? (i := 50) rfl) rfl
theorem tb745 : Cond.code yX1_receivedOrNone cX1_receivedOrNone 1 (some .long) ∈ TB := tbm_4 (List.mem_of_getElem? (i := 51) rfl) rfl
theorem tb746 : Cond.constantLong RX1 36 (-1) ∈ TB := tbm_4 (List.mem_of_getElem? (i := 52) rfl) rfl
theorem tb747 : Cond.methodLink RX9 161 yX6_throughput ∈ TB := tbm_4 (List.mem_of_getElem? (i := 53) rfl) rfl
theorem tb748 : Cond.instanceMethod yX6_throughput ∈ TB := tbm_4 (List.mem_of_getElem? (i := 54) rfl) rfl
theorem tb749 : Cond.selects RX6 yX6_throughput yX6_throughput ∈ TB := tbm_4 (List.mem_of_getElem? (i := 55) rfl) rfl
theorem tb750 : Cond.code yX6_throughput cX6_throughput 1 (some .int) ∈ TB := tbm_4 (List.mem_of_getElem? (i := 56) rfl) rfl
theorem tb751 : Cond.methodLink RX9 182 yX0_eventsOf ∈ TB := tbm_4 (List.mem_of_getElem? (i := 57) rfl) rfl
theorem tb752 : Cond.instanceMethod yX0_eventsOf ∈ TB := tbm_4 (List.mem_of_getElem? (i := 58) rfl) rfl
theorem tb753 : Cond.selects RX0 yX0_eventsOf yX0_eventsOf ∈ TB := tbm_4 (List.mem_of_getElem? (i := 59) rfl) rfl
theorem tb754 : Cond.code yX0_eventsOf cX0_eventsOf 2 (some .int) ∈ TB := tbm_4 (List.mem_of_getElem? (i := 60) rfl) rfl
theorem tb755 : Cond.methodLink RL 50 yL_set ∈ TB := tbm_4 (List.mem_of_getElem? (i := 61) rfl) rfl
theorem tb756 : Cond.static yL_set ∈ TB := tbm_4 (List.mem_of_getElem? (i := 62) rfl) rfl
theorem tb757 : Cond.codeWith yL_set cL_set 4 (some .int) [(0, 6, 7, 15), (0, 6, 10, 17), (0, 6, 14, 19)] ∈ TB := tbm_4 (List.mem_of_getElem? (i := 63) rfl) rfl
theorem tb758 : Cond.methodLink RL 9 yX9_setParameter ∈ TB := tbm_4 (List.mem_of_getElem? (i := 64) rfl) rfl
theorem tb759 : Cond.instanceMethod yX9_setParameter ∈ TB := tbm_4 (List.mem_of_getElem? (i := 65) rfl) rfl
theorem tb760 : Cond.selects RX9 yX9_setParameter yX9_setParameter ∈ TB := tbm_4 (List.mem_of_getElem? (i := 66) rfl) rfl
theorem tb761 : Cond.code yX9_setParameter cX9_setParameter 3 (some .int) ∈ TB := tbm_4 (List.mem_of_getElem? (i := 67) rfl) rfl
theorem tb762 : Cond.fieldLink RX9 28 "StreamPlayer" "FIRST_VALUES" "[I" ∈ TB := tbm_4 (List.mem_of_getElem? (i := 68) rfl) rfl
theorem tb763 : Cond.methodLink RX9 36 yX8_allows ∈ TB := tbm_4 (List.mem_of_getElem? (i := 69) rfl) rfl
theorem tb764 : Cond.static yX8_allows ∈ TB := tbm_4 (List.mem_of_getElem? (i := 70) rfl) rfl
theorem tb765 : Cond.code yX8_allows cX8_allows 2 (some .boolean) ∈ TB := tbm_4 (List.mem_of_getElem? (i := 71) rfl) rfl
theorem tb766 : Cond.methodLink RX9 47 yX8_replaceValue ∈ TB := tbm_4 (List.mem_of_getElem? (i := 76) rfl) rfl
theorem tb767 : Cond.instanceMethod yX8_replaceValue ∈ TB := tbm_4 (List.mem_of_getElem? (i := 77) rfl) rfl
theorem tb768 : Cond.selects RX8 yX8_replaceValue yX8_replaceValue ∈ TB := tbm_4 (List.mem_of_getElem? (i := 78) rfl) rfl
theorem tb769 : Cond.code yX8_replaceValue cX8_replaceValue 4 (some .int) ∈ TB := tbm_4 (List.mem_of_getElem? (i := 79) rfl) rfl
theorem tb770 : Cond.methodLink RL 56 yL_rung ∈ TB := tbm_4 (List.mem_of_getElem? (i := 80) rfl) rfl
theorem tb771 : Cond.static yL_rung ∈ TB := tbm_4 (List.mem_of_getElem? (i := 81) rfl) rfl
theorem tb772 : Cond.codeWith yL_rung cL_rung 4 (some .int) [(0, 6, 7, 15), (0, 6, 10, 17), (0, 6, 14, 19)] ∈ TB := tbm_4 (List.mem_of_getElem? (i := 82) rfl) rfl
theorem tb773 : Cond.methodLink RL 21 yX9_addRung ∈ TB := tbm_4 (List.mem_of_getElem? (i := 83) rfl) rfl
theorem tb774 : Cond.instanceMethod yX9_addRung ∈ TB := tbm_4 (List.mem_of_getElem? (i := 84) rfl) rfl
theorem tb775 : Cond.selects RX9 yX9_addRung yX9_addRung ∈ TB := tbm_4 (List.mem_of_getElem? (i := 85) rfl) rfl
theorem tb776 : Cond.code yX9_addRung cX9_addRung 4 (some .int) ∈ TB := tbm_4 (List.mem_of_getElem? (i := 86) rfl) rfl
theorem tb777 : Cond.methodLink RX9 51 yX8_ladderOf ∈ TB := tbm_4 (List.mem_of_getElem? (i := 87) rfl) rfl
theorem tb778 : Cond.constant RX9 55 50000 ∈ TB := tbm_4 (List.mem_of_getElem? (i := 88) rfl) rfl
theorem tb779 : Cond.methodLink RX9 56 yX2_topRate ∈ TB := tbm_4 (List.mem_of_getElem? (i := 89) rfl) rfl
theorem tb780 : Cond.methodLink RX9 62 yX2_isFull ∈ TB := tbm_4 (List.mem_of_getElem? (i := 90) rfl) rfl
theorem tb781 : Cond.instanceMethod yX2_isFull ∈ TB := tbm_4 (List.mem_of_getElem? (i := 91) rfl) rfl
theorem tb782 : Cond.selects RX2 yX2_isFull yX2_isFull ∈ TB := tbm_4 (List.mem_of_getElem? (i := 92) rfl) rfl
theorem tb783 : Cond.code yX2_isFull cX2_isFull 1 (some .boolean) ∈ TB := tbm_4 (List.mem_of_getElem? (i := 93) rfl) rfl
theorem tb784 : Cond.methodLink RX9 69 yX2_addTop ∈ TB := tbm_4 (List.mem_of_getElem? (i := 94) rfl) rfl
theorem tb785 : Cond.instanceMethod yX2_addTop ∈ TB := tbm_4 (List.mem_of_getElem? (i := 95) rfl) rfl
theorem tb786 : Cond.selects RX2 yX2_addTop yX2_addTop ∈ TB := tbm_4 (List.mem_of_getElem? (i := 96) rfl) rfl
theorem tb787 : Cond.code yX2_addTop cX2_addTop 2 (some .int) ∈ TB := tbm_4 (List.mem_of_getElem? (i := 97) rfl) rfl
theorem tb788 : Cond.constant RL 70 50000 ∈ TB := tbm_4 (List.mem_of_getElem? (i := 98) rfl) rfl
theorem tb789 : Cond.methodLink RL 134 yL_settings ∈ TB := tbm_4 (List.mem_of_getElem? (i := 99) rfl) rfl
theorem tb790 : Cond.static yL_settings ∈ TB := tbm_4 (List.mem_of_getElem? (i := 100) rfl) rfl
theorem tb791 : Cond.code yL_settings cL_settings 8 (some .int) ∈ TB := tbm_4 (List.mem_of_getElem? (i := 101) rfl) rfl
theorem tb792 : Cond.constant RL 78 60000 ∈ TB := tbm_4 (List.mem_of_getElem? (i := 102) rfl) rfl
theorem tb793 : Cond.methodLink RL 79 yX9_addPhase ∈ TB := tbm_4 (List.mem_of_getElem? (i := 103) rfl) rfl
theorem tb794 : Cond.instanceMethod yX9_addPhase ∈ TB := tbm_4 (List.mem_of_getElem? (i := 104) rfl) rfl
theorem tb795 : Cond.selects RX9 yX9_addPhase yX9_addPhase ∈ TB := tbm_4 (List.mem_of_getElem? (i := 105) rfl) rfl
theorem tb796 : Cond.code yX9_addPhase cX9_addPhase 3 (some .int) ∈ TB := tbm_4 (List.mem_of_getElem? (i := 106) rfl) rfl
theorem tb797 : Cond.constant RX9 73 100000 ∈ TB := tbm_4 (List.mem_of_getElem? (i := 107) rfl) rfl
theorem tb798 : Cond.methodLink RX9 78 yX4_isFull ∈ TB := tbm_4 (List.mem_of_getElem? (i := 108) rfl) rfl
theorem tb799 : Cond.instanceMethod yX4_isFull ∈ TB := tbm_4 (List.mem_of_getElem? (i := 109) rfl) rfl
theorem tb800 : Cond.selects RX4 yX4_isFull yX4_isFull ∈ TB := tbm_4 (List.mem_of_getElem? (i := 110) rfl) rfl
theorem tb801 : Cond.code yX4_isFull cX4_isFull 1 (some .boolean) ∈ TB := tbm_4 (List.mem_of_getElem? (i := 111) rfl) rfl
theorem tb802 : Cond.methodLink RX9 81 yX4_append ∈ TB := tbm_4 (List.mem_of_getElem? (i := 112) rfl) rfl
theorem tb803 : Cond.instanceMethod yX4_append ∈ TB := tbm_4 (List.mem_of_getElem? (i := 113) rfl) rfl
theorem tb804 : Cond.selects RX4 yX4_append yX4_append ∈ TB := tbm_4 (List.mem_of_getElem? (i := 114) rfl) rfl
theorem tb805 : Cond.code yX4_append cX4_append 3 (some .int) ∈ TB := tbm_4 (List.mem_of_getElem? (i := 115) rfl) rfl
theorem tb806 : Cond.methodLink RL 141 yL_agrees ∈ TB := tbm_4 (List.mem_of_getElem? (i := 116) rfl) rfl
theorem tb807 : Cond.static yL_agrees ∈ TB := tbm_4 (List.mem_of_getElem? (i := 117) rfl) rfl
theorem tb808 : Cond.code yL_agrees cL_agrees 12 (some .boolean) ∈ TB := tbm_4 (List.mem_of_getElem? (i := 118) rfl) rfl
theorem tb809 : Cond.methodLink RL 88 yX9_downloaded ∈ TB := tbm_4 (List.mem_of_getElem? (i := 119) rfl) rfl
theorem tb810 : Cond.instanceMethod yX9_downloaded ∈ TB := tbm_4 (List.mem_of_getElem? (i := 120) rfl) rfl
theorem tb811 : Cond.selects RX9 yX9_downloaded yX9_downloaded ∈ TB := tbm_4 (List.mem_of_getElem? (i := 121) rfl) rfl
theorem tb812 : Cond.code yX9_downloaded cX9_downloaded 2 (some .int) ∈ TB := tbm_4 (List.mem_of_getElem? (i := 122) rfl) rfl
theorem tb813 : Cond.methodLink RX9 133 yX6_shelfOf ∈ TB := tbm_4 (List.mem_of_getElem? (i := 123) rfl) rfl
theorem tb814 : Cond.methodLink RL 91 yX9_position ∈ TB := tbm_4 (List.mem_of_getElem? (i := 124) rfl) rfl
theorem tb815 : Cond.instanceMethod yX9_position ∈ TB := tbm_4 (List.mem_of_getElem? (i := 125) rfl) rfl
theorem tb816 : Cond.selects RX9 yX9_position yX9_position ∈ TB := tbm_4 (List.mem_of_getElem? (i := 126) rfl) rfl
theorem tb817 : Cond.code yX9_position cX9_position 1 (some .int) ∈ TB := tbm_4 (List.mem_of_getElem? (i := 127) rfl) rfl
theorem tb818 : Cond.methodLink RL 97 yX9_download ∈ TB := tbm_4 (List.mem_of_getElem? (i := 128) rfl) rfl
theorem tb819 : Cond.instanceMethod yX9_download ∈ TB := tbm_4 (List.mem_of_getElem? (i := 129) rfl) rfl
theorem tb820 : Cond.selects RX9 yX9_download yX9_download ∈ TB := tbm_4 (List.mem_of_getElem? (i := 130) rfl) rfl
theorem tb821 : Cond.code yX9_download cX9_download 2 (some .int) ∈ TB := tbm_4 (List.mem_of_getElem? (i := 131) rfl) rfl
theorem tb822 : Cond.methodLink RL 100 yX9_received ∈ TB := tbm_4 (List.mem_of_getElem? (i := 132) rfl) rfl
theorem tb823 : Cond.instanceMethod yX9_received ∈ TB := tbm_4 (List.mem_of_getElem? (i := 133) rfl) rfl
theorem tb824 : Cond.selects RX9 yX9_received yX9_received ∈ TB := tbm_4 (List.mem_of_getElem? (i := 134) rfl) rfl
theorem tb825 : Cond.code yX9_received cX9_received 1 (some .long) ∈ TB := tbm_4 (List.mem_of_getElem? (i := 135) rfl) rfl
theorem tb826 : Cond.methodLink RL 103 yX9_size ∈ TB := tbm_4 (List.mem_of_getElem? (i := 136) rfl) rfl
theorem tb827 : Cond.instanceMethod yX9_size ∈ TB := tbm_4 (List.mem_of_getElem? (i := 137) rfl) rfl
theorem tb828 : Cond.selects RX9 yX9_size yX9_size ∈ TB := tbm_4 (List.mem_of_getElem? (i := 138) rfl) rfl
theorem tb829 : Cond.code yX9_size cX9_size 4 (some .long) ∈ TB := tbm_4 (List.mem_of_getElem? (i := 139) rfl) rfl
theorem tb830 : Cond.methodLink RX9 100 yX8_bitsOf ∈ TB := tbm_4 (List.mem_of_getElem? (i := 140) rfl) rfl
theorem tb831 : Cond.methodLink RL 107 yX9_rungOf ∈ TB := tbm_4 (List.mem_of_getElem? (i := 141) rfl) rfl
theorem tb832 : Cond.instanceMethod yX9_rungOf ∈ TB := tbm_4 (List.mem_of_getElem? (i := 142) rfl) rfl
theorem tb833 : Cond.selects RX9 yX9_rungOf yX9_rungOf ∈ TB := tbm_4 (List.mem_of_getElem? (i := 143) rfl) rfl
theorem tb834 : Cond.code yX9_rungOf cX9_rungOf 3 (some .int) ∈ TB := tbm_4 (List.mem_of_getElem? (i := 144) rfl) rfl
theorem tb835 : Cond.methodLink RX9 142 yX9_requireNotNegative ∈ TB := tbm_4 (List.mem_of_getElem? (i := 145) rfl) rfl
theorem tb836 : Cond.static yX9_requireNotNegative ∈ TB := tbm_4 (List.mem_of_getElem? (i := 146) rfl) rfl
theorem tb837 : Cond.code yX9_requireNotNegative cX9_requireNotNegative 1 none ∈ TB := tbm_4 (List.mem_of_getElem? (i := 147) rfl) rfl
theorem tb838 : Cond.methodLink RX9 145 yX7_rungAt ∈ TB := tbm_4 (List.mem_of_getElem? (i := 149) rfl) rfl
theorem tb839 : Cond.methodLink RL 110 yX9_count ∈ TB := tbm_4 (List.mem_of_getElem? (i := 150) rfl) rfl
theorem tb840 : Cond.instanceMethod yX9_count ∈ TB := tbm_4 (List.mem_of_getElem? (i := 151) rfl) rfl
theorem tb841 : Cond.selects RX9 yX9_count yX9_count ∈ TB := tbm_4 (List.mem_of_getElem? (i := 152) rfl) rfl
theorem tb842 : Cond.code yX9_count cX9_count 2 (some .int) ∈ TB := tbm_4 (List.mem_of_getElem? (i := 153) rfl) rfl
theorem tb843 : Cond.methodLink RL 113 yX9_wasted ∈ TB := tbm_4 (List.mem_of_getElem? (i := 154) rfl) rfl
theorem tb844 : Cond.instanceMethod yX9_wasted ∈ TB := tbm_4 (List.mem_of_getElem? (i := 155) rfl) rfl
theorem tb845 : Cond.selects RX9 yX9_wasted yX9_wasted ∈ TB := tbm_4 (List.mem_of_getElem? (i := 156) rfl) rfl
theorem tb846 : Cond.code yX9_wasted cX9_wasted 1 (some .long) ∈ TB := tbm_4 (List.mem_of_getElem? (i := 157) rfl) rfl
theorem tb847 : Cond.methodLink RL 116 yX9_timeLine ∈ TB := tbm_4 (List.mem_of_getElem? (i := 158) rfl) rfl
theorem tb848 : Cond.instanceMethod yX9_timeLine ∈ TB := tbm_4 (List.mem_of_getElem? (i := 159) rfl) rfl
theorem tb849 : Cond.selects RX9 yX9_timeLine yX9_timeLine ∈ TB := tbm_4 (List.mem_of_getElem? (i := 160) rfl) rfl
theorem tb850 : Cond.code yX9_timeLine cX9_timeLine 2 (some .int) ∈ TB := tbm_4 (List.mem_of_getElem? (i := 161) rfl) rfl
theorem tb851 : Cond.methodLink RX9 199 yX3_signAt ∈ TB := tbm_4 (List.mem_of_getElem? (i := 162) rfl) rfl
theorem tb852 : Cond.instanceMethod yX3_signAt ∈ TB := tbm_4 (List.mem_of_getElem? (i := 163) rfl) rfl
theorem tb853 : Cond.selects RX3 yX3_signAt yX3_signAt ∈ TB := tbm_4 (List.mem_of_getElem? (i := 164) rfl) rfl
theorem tb854 : Cond.code yX3_signAt cX3_signAt 2 (some .int) ∈ TB := tbm_4 (List.mem_of_getElem? (i := 165) rfl) rfl
theorem tb855 : Cond.methodLink RL 119 yX9_nextRung ∈ TB := tbm_4 (List.mem_of_getElem? (i := 166) rfl) rfl
theorem tb856 : Cond.instanceMethod yX9_nextRung ∈ TB := tbm_4 (List.mem_of_getElem? (i := 167) rfl) rfl
theorem tb857 : Cond.selects RX9 yX9_nextRung yX9_nextRung ∈ TB := tbm_4 (List.mem_of_getElem? (i := 168) rfl) rfl
theorem tb858 : Cond.code yX9_nextRung cX9_nextRung 1 (some .int) ∈ TB := tbm_4 (List.mem_of_getElem? (i := 169) rfl) rfl
theorem tb859 : Cond.methodLink RX9 164 yX6_videoRung ∈ TB := tbm_4 (List.mem_of_getElem? (i := 170) rfl) rfl
theorem tb860 : Cond.methodLink RL 122 yX9_estimate ∈ TB := tbm_4 (List.mem_of_getElem? (i := 171) rfl) rfl
theorem tb861 : Cond.instanceMethod yX9_estimate ∈ TB := tbm_4 (List.mem_of_getElem? (i := 172) rfl) rfl
theorem tb862 : Cond.selects RX9 yX9_estimate yX9_estimate ∈ TB := tbm_4 (List.mem_of_getElem? (i := 173) rfl) rfl
theorem tb863 : Cond.code yX9_estimate cX9_estimate 1 (some .int) ∈ TB := tbm_4 (List.mem_of_getElem? (i := 174) rfl) rfl
theorem tb864 : Cond.sameMethod "java/lang/Throwable" "java/lang/Throwable" "fillInStackTrace" "(I)Ljava/lang/Throwable;" ∈ TB := tbm_4 (List.mem_of_getElem? (i := 175) rfl) rfl
theorem iwX0 : ∀ w ∈ u_ws RX0 TX0 9, w ∈ TB := by
  intro w hw
  have hw : w ∈ [u_lay RX0 TX0 0, u_lay RX0 TX0 1, u_lay RX0 TX0 2, u_lay RX0 TX0 3, u_lay RX0 TX0 4, u_lay RX0 TX0 5, u_lay RX0 TX0 6, u_lay RX0 TX0 7, u_lay RX0 TX0 8] := hw
  simp only [List.mem_cons, List.not_mem_nil, or_false] at hw
  rcases hw with rfl | rfl | rfl | rfl | rfl | rfl | rfl | rfl | rfl
  · exact tb212
  · exact tb214
  · exact tb216
  · exact tb218
  · exact tb220
  · exact tb222
  · exact tb224
  · exact tb226
  · exact tb228
theorem iwX1 : ∀ w ∈ u_ws RX1 TX1 8, w ∈ TB := by
  intro w hw
  have hw : w ∈ [u_lay RX1 TX1 0, u_lay RX1 TX1 1, u_lay RX1 TX1 2, u_lay RX1 TX1 3, u_lay RX1 TX1 4, u_lay RX1 TX1 5, u_lay RX1 TX1 6, u_lay RX1 TX1 7] := hw
  simp only [List.mem_cons, List.not_mem_nil, or_false] at hw
  rcases hw with rfl | rfl | rfl | rfl | rfl | rfl | rfl | rfl
  · exact tb172
  · exact tb174
  · exact tb176
  · exact tb178
  · exact tb180
  · exact tb182
  · exact tb184
  · exact tb186
theorem iwX2 : ∀ w ∈ u_ws RX2 TX2 3, w ∈ TB := by
  intro w hw
  have hw : w ∈ [u_lay RX2 TX2 0, u_lay RX2 TX2 1, u_lay RX2 TX2 2] := hw
  simp only [List.mem_cons, List.not_mem_nil, or_false] at hw
  rcases hw with rfl | rfl | rfl
  · exact tb70
  · exact tb72
  · exact tb74
theorem iwX3 : ∀ w ∈ u_ws RX3 TX3 2, w ∈ TB := by
  intro w hw
  have hw : w ∈ [u_lay RX3 TX3 0, u_lay RX3 TX3 1] := hw
  simp only [List.mem_cons, List.not_mem_nil, or_false] at hw
  rcases hw with rfl | rfl
  · exact tb238
  · exact tb240
theorem iwX4 : ∀ w ∈ u_ws RX4 TX4 4, w ∈ TB := by
  intro w hw
  have hw : w ∈ [u_lay RX4 TX4 0, u_lay RX4 TX4 1, u_lay RX4 TX4 2, u_lay RX4 TX4 3] := hw
  simp only [List.mem_cons, List.not_mem_nil, or_false] at hw
  rcases hw with rfl | rfl | rfl | rfl
  · exact tb89
  · exact tb91
  · exact tb93
  · exact tb95
theorem iwX5 : ∀ w ∈ u_ws RX5 TX5 3, w ∈ TB := by
  intro w hw
  have hw : w ∈ [u_lay RX5 TX5 0, u_lay RX5 TX5 1, u_lay RX5 TX5 2] := hw
  simp only [List.mem_cons, List.not_mem_nil, or_false] at hw
  rcases hw with rfl | rfl | rfl
  · exact tb143
  · exact tb145
  · exact tb147
theorem iwX6 : ∀ w ∈ u_ws RX6 TX6 14, w ∈ TB := by
  intro w hw
  have hw : w ∈ [u_lay RX6 TX6 0, u_lay RX6 TX6 1, u_lay RX6 TX6 2, u_lay RX6 TX6 3, u_lay RX6 TX6 4, u_lay RX6 TX6 5, u_lay RX6 TX6 6, u_lay RX6 TX6 7, u_lay RX6 TX6 8, u_lay RX6 TX6 9, u_lay RX6 TX6 10, u_lay RX6 TX6 11, u_lay RX6 TX6 12, u_lay RX6 TX6 13] := hw
  simp only [List.mem_cons, List.not_mem_nil, or_false] at hw
  rcases hw with rfl | rfl | rfl | rfl | rfl | rfl | rfl | rfl | rfl | rfl | rfl | rfl | rfl | rfl
  · exact tb264
  · exact tb266
  · exact tb268
  · exact tb270
  · exact tb272
  · exact tb274
  · exact tb276
  · exact tb278
  · exact tb280
  · exact tb282
  · exact tb284
  · exact tb286
  · exact tb288
  · exact tb290
theorem iwX7 : ∀ w ∈ u_ws RX7 TX7 2, w ∈ TB := by
  intro w hw
  have hw : w ∈ [u_lay RX7 TX7 0, u_lay RX7 TX7 1] := hw
  simp only [List.mem_cons, List.not_mem_nil, or_false] at hw
  rcases hw with rfl | rfl
  · exact tb130
  · exact tb132
theorem iwX8 : ∀ w ∈ u_ws RX8 TX8 4, w ∈ TB := by
  intro w hw
  have hw : w ∈ [u_lay RX8 TX8 0, u_lay RX8 TX8 1, u_lay RX8 TX8 2, u_lay RX8 TX8 3] := hw
  simp only [List.mem_cons, List.not_mem_nil, or_false] at hw
  rcases hw with rfl | rfl | rfl | rfl
  · exact tb106
  · exact tb108
  · exact tb110
  · exact tb112
theorem iwX9 : ∀ w ∈ u_ws RX9 TX9 3, w ∈ TB := by
  intro w hw
  have hw : w ∈ [u_lay RX9 TX9 0, u_lay RX9 TX9 1, u_lay RX9 TX9 2] := hw
  simp only [List.mem_cons, List.not_mem_nil, or_false] at hw
  rcases hw with rfl | rfl | rfl
  · exact tb296
  · exact tb298
  · exact tb300
