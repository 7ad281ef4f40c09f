-- each word of TB, by its place
theorem tb0 : Cond.selects "java/lang/Throwable" ⟨"java/lang/Throwable", "fillInStackTrace", "(I)Ljava/lang/Throwable;"⟩ ⟨"java/lang/Throwable", "fillInStackTrace", "(I)Ljava/lang/Throwable;"⟩ ∈ TB := tbm_0 (List.mem_of_getElem? (i := 0) rfl)
theorem tb1 : Cond.selects RX9 yX9_requireNoSession yX9_requireNoSession ∈ TB := tbm_0 (List.mem_of_getElem? (i := 1) rfl)
theorem tb2 : Cond.selects RX9 yX9_requireSession yX9_requireSession ∈ TB := tbm_0 (List.mem_of_getElem? (i := 2) rfl)
theorem tb3 : Cond.selects RX6 yX6_signNow yX6_signNow ∈ TB := tbm_0 (List.mem_of_getElem? (i := 3) rfl)
theorem tb4 : Cond.selects RX6 yX6_beginNext yX6_beginNext ∈ TB := tbm_0 (List.mem_of_getElem? (i := 4) rfl)
theorem tb5 : Cond.selects RX6 yX6_hasNext yX6_hasNext ∈ TB := tbm_0 (List.mem_of_getElem? (i := 5) rfl)
theorem tb6 : Cond.selects RX6 yX6_rungByThroughput yX6_rungByThroughput ∈ TB := tbm_0 (List.mem_of_getElem? (i := 6) rfl)
theorem tb7 : Cond.selects RX6 yX6_rungByBuffer yX6_rungByBuffer ∈ TB := tbm_0 (List.mem_of_getElem? (i := 7) rfl)
theorem tb8 : Cond.selects RX6 yX6_beginDownload yX6_beginDownload ∈ TB := tbm_0 (List.mem_of_getElem? (i := 8) rfl)
theorem tb9 : Cond.selects RX6 yX6_receive yX6_receive ∈ TB := tbm_0 (List.mem_of_getElem? (i := 9) rfl)
theorem tb10 : Cond.selects RX6 yX6_mayBeAbandoned yX6_mayBeAbandoned ∈ TB := tbm_0 (List.mem_of_getElem? (i := 10) rfl)
theorem tb11 : Cond.selects RX6 yX6_abandonIfSlow yX6_abandonIfSlow ∈ TB := tbm_0 (List.mem_of_getElem? (i := 11) rfl)
theorem tb12 : Cond.selects RX6 yX6_isReadyToPlay yX6_isReadyToPlay ∈ TB := tbm_0 (List.mem_of_getElem? (i := 12) rfl)
theorem tb13 : Cond.selects RX6 yX6_smallestBuffer yX6_smallestBuffer ∈ TB := tbm_0 (List.mem_of_getElem? (i := 13) rfl)
theorem tb14 : Cond.selects RX6 yX6_isAllDownloaded yX6_isAllDownloaded ∈ TB := tbm_0 (List.mem_of_getElem? (i := 14) rfl)
theorem tb15 : Cond.selects RX6 yX6_play yX6_play ∈ TB := tbm_0 (List.mem_of_getElem? (i := 15) rfl)
theorem tb16 : Cond.selects RX6 yX6_leavePlaying yX6_leavePlaying ∈ TB := tbm_0 (List.mem_of_getElem? (i := 16) rfl)
theorem tb17 : Cond.selects RX6 yX6_isCatchingUp yX6_isCatchingUp ∈ TB := tbm_0 (List.mem_of_getElem? (i := 17) rfl)
theorem tb18 : Cond.selects RX9 yX9_pointsInMode yX9_pointsInMode ∈ TB := tbm_0 (List.mem_of_getElem? (i := 18) rfl)
theorem tb19 : Cond.selects RX9 yX9_playsWithoutStall yX9_playsWithoutStall ∈ TB := tbm_0 (List.mem_of_getElem? (i := 19) rfl)
theorem tb20 : Cond.selects RX10 yX10_fails yX10_fails ∈ TB := tbm_0 (List.mem_of_getElem? (i := 20) rfl)
theorem tb21 : Cond.selects RX10 yX10_rate yX10_rate ∈ TB := tbm_0 (List.mem_of_getElem? (i := 21) rfl)
theorem tb22 : Cond.selects RX10 yX10_flowAt yX10_flowAt ∈ TB := tbm_0 (List.mem_of_getElem? (i := 22) rfl)
theorem tb23 : Cond.selects RX10 yX10_sizeOf yX10_sizeOf ∈ TB := tbm_0 (List.mem_of_getElem? (i := 23) rfl)
theorem tb24 : Cond.selects RX10 yX10_cannotStart yX10_cannotStart ∈ TB := tbm_0 (List.mem_of_getElem? (i := 24) rfl)
theorem tb25 : Cond.selects RX10 yX10_goesOn yX10_goesOn ∈ TB := tbm_0 (List.mem_of_getElem? (i := 25) rfl)
theorem tb26 : Cond.selects RX10 yX10_tells yX10_tells ∈ TB := tbm_0 (List.mem_of_getElem? (i := 26) rfl)
theorem tb27 : Cond.selects RX10 yX10_looksForNext yX10_looksForNext ∈ TB := tbm_0 (List.mem_of_getElem? (i := 27) rfl)
theorem tb28 : Cond.selects RX10 yX10_mayBegin yX10_mayBegin ∈ TB := tbm_0 (List.mem_of_getElem? (i := 28) rfl)
theorem tb29 : Cond.selects RX10 yX10_bufferOf yX10_bufferOf ∈ TB := tbm_0 (List.mem_of_getElem? (i := 29) rfl)
theorem tb30 : Cond.selects RX10 yX10_chosen yX10_chosen ∈ TB := tbm_0 (List.mem_of_getElem? (i := 30) rfl)
theorem tb31 : Cond.selects RX10 yX10_borne yX10_borne ∈ TB := tbm_0 (List.mem_of_getElem? (i := 31) rfl)
theorem tb32 : Cond.selects RX10 yX10_byBuffer yX10_byBuffer ∈ TB := tbm_0 (List.mem_of_getElem? (i := 32) rfl)
theorem tb33 : Cond.selects RX10 yX10_begins yX10_begins ∈ TB := tbm_0 (List.mem_of_getElem? (i := 33) rfl)
theorem tb34 : Cond.selects RX10 yX10_receives yX10_receives ∈ TB := tbm_0 (List.mem_of_getElem? (i := 34) rfl)
theorem tb35 : Cond.selects RX10 yX10_givesUp yX10_givesUp ∈ TB := tbm_0 (List.mem_of_getElem? (i := 35) rfl)
theorem tb36 : Cond.selects RX10 yX10_plays yX10_plays ∈ TB := tbm_0 (List.mem_of_getElem? (i := 36) rfl)
theorem tb37 : Cond.selects RX10 yX10_bufferIn yX10_bufferIn ∈ TB := tbm_0 (List.mem_of_getElem? (i := 37) rfl)
theorem tb38 : Cond.selects RX10 yX10_hasAll yX10_hasAll ∈ TB := tbm_0 (List.mem_of_getElem? (i := 38) rfl)
theorem tb39 : Cond.selects RX10 yX10_told yX10_told ∈ TB := tbm_0 (List.mem_of_getElem? (i := 39) rfl)
theorem tb40 : Cond.selects RX10 yX10_isWrong yX10_isWrong ∈ TB := tbm_0 (List.mem_of_getElem? (i := 40) rfl)
theorem tb41 : Cond.selects RX10 yX10_ofDownload yX10_ofDownload ∈ TB := tbm_0 (List.mem_of_getElem? (i := 41) rfl)
theorem tb42 : Cond.selects RX10 yX10_counted yX10_counted ∈ TB := tbm_0 (List.mem_of_getElem? (i := 42) rfl)
theorem tb43 : Cond.selects RX10 yX10_scoreOf yX10_scoreOf ∈ TB := tbm_0 (List.mem_of_getElem? (i := 43) rfl)
theorem tb44 : Cond.selects RX10 yX10_scoreBy yX10_scoreBy ∈ TB := tbm_0 (List.mem_of_getElem? (i := 44) rfl)
theorem tb45 : Cond.selects RX10 yX10_isTrial yX10_isTrial ∈ TB := tbm_0 (List.mem_of_getElem? (i := 45) rfl)
theorem tb46 : Cond.initialized RL ∈ TB := tbm_1 (List.mem_of_getElem? (i := 0) rfl) rfl
theorem tb47 : Cond.initialized RX9 ∈ TB := tbm_1 (List.mem_of_getElem? (i := 1) rfl) rfl
theorem tb48 : Cond.initialized RX8 ∈ TB := tbm_1 (List.mem_of_getElem? (i := 2) rfl) rfl
theorem tb49 : Cond.initialized RX2 ∈ TB := tbm_1 (List.mem_of_getElem? (i := 3) rfl) rfl
theorem tb50 : Cond.initialized RX4 ∈ TB := tbm_1 (List.mem_of_getElem? (i := 4) rfl) rfl
theorem tb51 : Cond.initialized RX6 ∈ TB := tbm_1 (List.mem_of_getElem? (i := 5) rfl) rfl
theorem tb52 : Cond.initialized RX7 ∈ TB := tbm_1 (List.mem_of_getElem? (i := 6) rfl) rfl
theorem tb53 : Cond.initialized RX5 ∈ TB := tbm_1 (List.mem_of_getElem? (i := 7) rfl) rfl
theorem tb54 : Cond.initialized RX1 ∈ TB := tbm_1 (List.mem_of_getElem? (i := 8) rfl) rfl
theorem tb55 : Cond.initialized RX0 ∈ TB := tbm_1 (List.mem_of_getElem? (i := 9) rfl) rfl
theorem tb56 : Cond.initialized RX3 ∈ TB := tbm_1 (List.mem_of_getElem? (i := 10) rfl) rfl
theorem tb57 : Cond.initialized RX10 ∈ TB := tbm_1 (List.mem_of_getElem? (i := 11) rfl) rfl
theorem tb58 : Cond.initialized "java/lang/Throwable" ∈ TB := tbm_1 (List.mem_of_getElem? (i := 12) rfl) rfl
theorem tb59 : Cond.initialized "java/lang/Exception" ∈ TB := tbm_1 (List.mem_of_getElem? (i := 13) rfl) rfl
theorem tb60 : Cond.initialized "java/lang/RuntimeException" ∈ TB := tbm_1 (List.mem_of_getElem? (i := 14) rfl) rfl
theorem tb61 : Cond.initialized "java/lang/IndexOutOfBoundsException" ∈ TB := tbm_1 (List.mem_of_getElem? (i := 15) rfl) rfl
theorem tb62 : Cond.initialized "java/lang/IllegalArgumentException" ∈ TB := tbm_1 (List.mem_of_getElem? (i := 16) rfl) rfl
theorem tb63 : Cond.initialized "java/lang/IllegalStateException" ∈ TB := tbm_1 (List.mem_of_getElem? (i := 17) rfl) rfl
theorem tb64 : Cond.initialized "java/lang/Math" ∈ TB := tbm_1 (List.mem_of_getElem? (i := 18) rfl) rfl
theorem tb65 : Cond.initialized "java/lang/System" ∈ TB := tbm_1 (List.mem_of_getElem? (i := 19) rfl) rfl
theorem tb66 : Cond.classLink RL 8 RX9 ∈ TB := tbm_1 (List.mem_of_getElem? (i := 20) rfl) rfl
theorem tb67 : Cond.instantiable RX9 3 ∈ TB := tbm_1 (List.mem_of_getElem? (i := 21) rfl) rfl
theorem tb68 : Cond.methodLink RL 108 yX9_init ∈ TB := tbm_1 (List.mem_of_getElem? (i := 22) rfl) rfl
theorem tb69 : Cond.instanceMethod yX9_init ∈ TB := tbm_1 (List.mem_of_getElem? (i := 23) rfl) rfl
theorem tb70 : Cond.code yX9_init cX9_init 2 none ∈ TB := tbm_1 (List.mem_of_getElem? (i := 24) rfl) rfl
theorem tb71 : Cond.methodLink RX9 1 ⟨"java/lang/Object", "<init>", "()V"⟩ ∈ TB := tbm_1 (List.mem_of_getElem? (i := 25) rfl) rfl
theorem tb72 : Cond.instanceMethod ⟨"java/lang/Object", "<init>", "()V"⟩ ∈ TB := tbm_1 (List.mem_of_getElem? (i := 26) rfl) rfl
theorem tb73 : Cond.code ⟨"java/lang/Object", "<init>", "()V"⟩ object_method_1_code 1 none ∈ TB := tbm_1 (List.mem_of_getElem? (i := 27) rfl) rfl
theorem tb74 : Cond.classLink RX9 7 RX8 ∈ TB := tbm_1 (List.mem_of_getElem? (i := 28) rfl) rfl
theorem tb75 : Cond.instantiable RX8 4 ∈ TB := tbm_1 (List.mem_of_getElem? (i := 29) rfl) rfl
theorem tb76 : Cond.instanceMethod yX8_init ∈ TB := tbm_1 (List.mem_of_getElem? (i := 31) rfl) rfl
theorem tb77 : Cond.code yX8_init cX8_init 1 none ∈ TB := tbm_1 (List.mem_of_getElem? (i := 32) rfl) rfl
theorem tb78 : Cond.methodLink RX8 3 ⟨"java/lang/Object", "<init>", "()V"⟩ ∈ TB := tbm_1 (List.mem_of_getElem? (i := 33) rfl) rfl
theorem tb79 : Cond.methodLink RX8 13 ⟨"[I", "clone", "()Ljava/lang/Object;"⟩ ∈ TB := tbm_1 (List.mem_of_getElem? (i := 36) rfl) rfl
theorem tb80 : Cond.sameMethod "[I" "java/lang/Object" "clone" "()Ljava/lang/Object;" ∈ TB := tbm_1 (List.mem_of_getElem? (i := 37) rfl) rfl
theorem tb81 : Cond.native ⟨"java/lang/Object", "clone", "()Ljava/lang/Object;"⟩ ∈ TB := tbm_1 (List.mem_of_getElem? (i := 38) rfl) rfl
theorem tb82 : Cond.instanceMethod ⟨"java/lang/Object", "clone", "()Ljava/lang/Object;"⟩ ∈ TB := tbm_1 (List.mem_of_getElem? (i := 39) rfl) rfl
theorem tb83 : Cond.selects "[I" ⟨"[I", "clone", "()Ljava/lang/Object;"⟩ ⟨"java/lang/Object", "clone", "()Ljava/lang/Object;"⟩ ∈ TB := tbm_1 (List.mem_of_getElem? (i := 40) rfl) rfl
theorem tb84 : Cond.classLink RX8 14 "[I" ∈ TB := tbm_1 (List.mem_of_getElem? (i := 42) rfl) rfl
theorem tb85 : Cond.classLink RX8 23 RX2 ∈ TB := tbm_1 (List.mem_of_getElem? (i := 43) rfl) rfl
theorem tb86 : Cond.instantiable RX2 3 ∈ TB := tbm_1 (List.mem_of_getElem? (i := 44) rfl) rfl
theorem tb87 : Cond.methodLink RX8 25 yX2_init ∈ TB := tbm_1 (List.mem_of_getElem? (i := 45) rfl) rfl
theorem tb88 : Cond.instanceMethod yX2_init ∈ TB := tbm_1 (List.mem_of_getElem? (i := 46) rfl) rfl
theorem tb89 : Cond.code yX2_init cX2_init 2 none ∈ TB := tbm_1 (List.mem_of_getElem? (i := 47) rfl) rfl
theorem tb90 : Cond.methodLink RX2 3 ⟨"java/lang/Object", "<init>", "()V"⟩ ∈ TB := tbm_1 (List.mem_of_getElem? (i := 48) rfl) rfl
theorem tb91 : Cond.fieldLink RX2 9 "StreamPlayer$Ladder" "rates" "[I" ∈ TB := tbm_1 (List.mem_of_getElem? (i := 49) rfl) rfl
theorem tb92 : Cond.fieldLink RX2 15 "StreamPlayer$Ladder" "most" "I" ∈ TB := tbm_1 (List.mem_of_getElem? (i := 50) rfl) rfl
theorem tb93 : Cond.fieldLink RX2 19 "StreamPlayer$Ladder" "rungs" "I" ∈ TB := tbm_1 (List.mem_of_getElem? (i := 51) rfl) rfl
theorem tb94 : Cond.fieldLink RX8 52 "StreamPlayer$Ladder" "rungs" "I" ∈ TB := tbm_1 (List.mem_of_getElem? (i := 52) rfl) rfl
theorem tb95 : Cond.fieldLink RX9 94 "StreamPlayer$Ladder" "rungs" "I" ∈ TB := tbm_1 (List.mem_of_getElem? (i := 53) rfl) rfl
theorem tb96 : Cond.fieldLink RX6 171 "StreamPlayer$Ladder" "rungs" "I" ∈ TB := tbm_1 (List.mem_of_getElem? (i := 54) rfl) rfl
theorem tb97 : Cond.laysFinal RX2 "StreamPlayer$Ladder" "rates" "[I" ∈ TB := tbm_1 (List.mem_of_getElem? (i := 55) rfl) rfl
theorem tb98 : Cond.soleField RX2 "rates" ∈ TB := tbm_1 (List.mem_of_getElem? (i := 56) rfl) rfl
theorem tb99 : Cond.laysFinal RX2 "StreamPlayer$Ladder" "most" "I" ∈ TB := tbm_1 (List.mem_of_getElem? (i := 57) rfl) rfl
theorem tb100 : Cond.soleField RX2 "most" ∈ TB := tbm_1 (List.mem_of_getElem? (i := 58) rfl) rfl
theorem tb101 : Cond.lays RX2 "StreamPlayer$Ladder" "rungs" "I" ∈ TB := tbm_1 (List.mem_of_getElem? (i := 59) rfl) rfl
theorem tb102 : Cond.soleField RX2 "rungs" ∈ TB := tbm_1 (List.mem_of_getElem? (i := 60) rfl) rfl
theorem tb103 : Cond.superclass RX2 "java/lang/Object" ∈ TB := tbm_1 (List.mem_of_getElem? (i := 61) rfl) rfl
theorem tb104 : Cond.arrayClass .int ∈ TB := tbm_1 (List.mem_of_getElem? (i := 62) rfl) rfl
theorem tb105 : Cond.classLink RX8 35 RX4 ∈ TB := tbm_1 (List.mem_of_getElem? (i := 63) rfl) rfl
theorem tb106 : Cond.instantiable RX4 4 ∈ TB := tbm_1 (List.mem_of_getElem? (i := 64) rfl) rfl
theorem tb107 : Cond.instanceMethod yX4_init ∈ TB := tbm_1 (List.mem_of_getElem? (i := 66) rfl) rfl
theorem tb108 : Cond.code yX4_init cX4_init 1 none ∈ TB := tbm_1 (List.mem_of_getElem? (i := 67) rfl) rfl
theorem tb109 : Cond.methodLink RX4 3 ⟨"java/lang/Object", "<init>", "()V"⟩ ∈ TB := tbm_1 (List.mem_of_getElem? (i := 68) rfl) rfl
theorem tb110 : Cond.fieldLink RX4 9 "StreamPlayer$Plan" "lengths" "[I" ∈ TB := tbm_1 (List.mem_of_getElem? (i := 69) rfl) rfl
theorem tb111 : Cond.fieldLink RX4 15 "StreamPlayer$Plan" "rates" "[I" ∈ TB := tbm_1 (List.mem_of_getElem? (i := 70) rfl) rfl
theorem tb112 : Cond.fieldLink RX4 22 "StreamPlayer$Plan" "total" "I" ∈ TB := tbm_1 (List.mem_of_getElem? (i := 71) rfl) rfl
theorem tb113 : Cond.fieldLink RX4 18 "StreamPlayer$Plan" "phases" "I" ∈ TB := tbm_1 (List.mem_of_getElem? (i := 72) rfl) rfl
theorem tb114 : Cond.fieldLink RX9 84 "StreamPlayer$Plan" "phases" "I" ∈ TB := tbm_1 (List.mem_of_getElem? (i := 73) rfl) rfl
theorem tb115 : Cond.fieldLink RX8 59 "StreamPlayer$Plan" "phases" "I" ∈ TB := tbm_1 (List.mem_of_getElem? (i := 74) rfl) rfl
theorem tb116 : Cond.laysFinal RX4 "StreamPlayer$Plan" "lengths" "[I" ∈ TB := tbm_1 (List.mem_of_getElem? (i := 75) rfl) rfl
theorem tb117 : Cond.soleField RX4 "lengths" ∈ TB := tbm_1 (List.mem_of_getElem? (i := 76) rfl) rfl
theorem tb118 : Cond.laysFinal RX4 "StreamPlayer$Plan" "rates" "[I" ∈ TB := tbm_1 (List.mem_of_getElem? (i := 77) rfl) rfl
theorem tb119 : Cond.soleField RX4 "rates" ∈ TB := tbm_1 (List.mem_of_getElem? (i := 78) rfl) rfl
theorem tb120 : Cond.lays RX4 "StreamPlayer$Plan" "total" "I" ∈ TB := tbm_1 (List.mem_of_getElem? (i := 79) rfl) rfl
theorem tb121 : Cond.soleField RX4 "total" ∈ TB := tbm_1 (List.mem_of_getElem? (i := 80) rfl) rfl
theorem tb122 : Cond.lays RX4 "StreamPlayer$Plan" "phases" "I" ∈ TB := tbm_1 (List.mem_of_getElem? (i := 81) rfl) rfl
theorem tb123 : Cond.soleField RX4 "phases" ∈ TB := tbm_1 (List.mem_of_getElem? (i := 82) rfl) rfl
theorem tb124 : Cond.superclass RX4 "java/lang/Object" ∈ TB := tbm_1 (List.mem_of_getElem? (i := 83) rfl) rfl
theorem tb125 : Cond.fieldLink RX8 18 "StreamPlayer$Stream" "values" "[I" ∈ TB := tbm_1 (List.mem_of_getElem? (i := 84) rfl) rfl
theorem tb126 : Cond.fieldLink RX8 28 "StreamPlayer$Stream" "video" "LStreamPlayer$Ladder;" ∈ TB := tbm_1 (List.mem_of_getElem? (i := 85) rfl) rfl
theorem tb127 : Cond.fieldLink RX6 266 "StreamPlayer$Stream" "video" "LStreamPlayer$Ladder;" ∈ TB := tbm_1 (List.mem_of_getElem? (i := 86) rfl) rfl
theorem tb128 : Cond.fieldLink RX8 32 "StreamPlayer$Stream" "audio" "LStreamPlayer$Ladder;" ∈ TB := tbm_1 (List.mem_of_getElem? (i := 87) rfl) rfl
theorem tb129 : Cond.fieldLink RX6 156 "StreamPlayer$Stream" "audio" "LStreamPlayer$Ladder;" ∈ TB := tbm_1 (List.mem_of_getElem? (i := 88) rfl) rfl
theorem tb130 : Cond.fieldLink RX8 38 "StreamPlayer$Stream" "plan" "LStreamPlayer$Plan;" ∈ TB := tbm_1 (List.mem_of_getElem? (i := 89) rfl) rfl
theorem tb131 : Cond.fieldLink RX9 74 "StreamPlayer$Stream" "plan" "LStreamPlayer$Plan;" ∈ TB := tbm_1 (List.mem_of_getElem? (i := 90) rfl) rfl
theorem tb132 : Cond.fieldLink RX6 212 "StreamPlayer$Stream" "plan" "LStreamPlayer$Plan;" ∈ TB := tbm_1 (List.mem_of_getElem? (i := 91) rfl) rfl
theorem tb133 : Cond.laysFinal RX8 "StreamPlayer$Stream" "values" "[I" ∈ TB := tbm_1 (List.mem_of_getElem? (i := 92) rfl) rfl
theorem tb134 : Cond.soleField RX8 "values" ∈ TB := tbm_1 (List.mem_of_getElem? (i := 93) rfl) rfl
theorem tb135 : Cond.laysFinal RX8 "StreamPlayer$Stream" "video" "LStreamPlayer$Ladder;" ∈ TB := tbm_1 (List.mem_of_getElem? (i := 94) rfl) rfl
theorem tb136 : Cond.soleField RX8 "video" ∈ TB := tbm_1 (List.mem_of_getElem? (i := 95) rfl) rfl
theorem tb137 : Cond.laysFinal RX8 "StreamPlayer$Stream" "audio" "LStreamPlayer$Ladder;" ∈ TB := tbm_1 (List.mem_of_getElem? (i := 96) rfl) rfl
theorem tb138 : Cond.soleField RX8 "audio" ∈ TB := tbm_1 (List.mem_of_getElem? (i := 97) rfl) rfl
theorem tb139 : Cond.laysFinal RX8 "StreamPlayer$Stream" "plan" "LStreamPlayer$Plan;" ∈ TB := tbm_1 (List.mem_of_getElem? (i := 98) rfl) rfl
theorem tb140 : Cond.soleField RX8 "plan" ∈ TB := tbm_1 (List.mem_of_getElem? (i := 99) rfl) rfl
theorem tb141 : Cond.superclass RX8 "java/lang/Object" ∈ TB := tbm_1 (List.mem_of_getElem? (i := 100) rfl) rfl
theorem tb142 : Cond.classLink RX9 16 RX6 ∈ TB := tbm_1 (List.mem_of_getElem? (i := 101) rfl) rfl
theorem tb143 : Cond.instantiable RX6 14 ∈ TB := tbm_1 (List.mem_of_getElem? (i := 102) rfl) rfl
theorem tb144 : Cond.methodLink RX9 18 yX6_init ∈ TB := tbm_1 (List.mem_of_getElem? (i := 103) rfl) rfl
theorem tb145 : Cond.instanceMethod yX6_init ∈ TB := tbm_1 (List.mem_of_getElem? (i := 104) rfl) rfl
theorem tb146 : Cond.code yX6_init cX6_init 2 none ∈ TB := tbm_1 (List.mem_of_getElem? (i := 105) rfl) rfl
theorem tb147 : Cond.methodLink RX6 3 ⟨"java/lang/Object", "<init>", "()V"⟩ ∈ TB := tbm_1 (List.mem_of_getElem? (i := 106) rfl) rfl
theorem tb148 : Cond.classLink RX6 9 RX7 ∈ TB := tbm_1 (List.mem_of_getElem? (i := 107) rfl) rfl
theorem tb149 : Cond.instantiable RX7 2 ∈ TB := tbm_1 (List.mem_of_getElem? (i := 108) rfl) rfl
theorem tb150 : Cond.instanceMethod yX7_init ∈ TB := tbm_1 (List.mem_of_getElem? (i := 110) rfl) rfl
theorem tb151 : Cond.code yX7_init cX7_init 1 none ∈ TB := tbm_1 (List.mem_of_getElem? (i := 111) rfl) rfl
theorem tb152 : Cond.methodLink RX7 3 ⟨"java/lang/Object", "<init>", "()V"⟩ ∈ TB := tbm_1 (List.mem_of_getElem? (i := 112) rfl) rfl
theorem tb153 : Cond.fieldLink RX7 9 "StreamPlayer$Shelf" "rungs" "[I" ∈ TB := tbm_1 (List.mem_of_getElem? (i := 113) rfl) rfl
theorem tb154 : Cond.fieldLink RX7 15 "StreamPlayer$Shelf" "segments" "I" ∈ TB := tbm_1 (List.mem_of_getElem? (i := 114) rfl) rfl
theorem tb155 : Cond.fieldLink RX6 145 "StreamPlayer$Shelf" "segments" "I" ∈ TB := tbm_1 (List.mem_of_getElem? (i := 115) rfl) rfl
theorem tb156 : Cond.fieldLink RX9 137 "StreamPlayer$Shelf" "segments" "I" ∈ TB := tbm_1 (List.mem_of_getElem? (i := 116) rfl) rfl
theorem tb157 : Cond.laysFinal RX7 "StreamPlayer$Shelf" "rungs" "[I" ∈ TB := tbm_1 (List.mem_of_getElem? (i := 117) rfl) rfl
theorem tb158 : Cond.soleField RX7 "rungs" ∈ TB := tbm_1 (List.mem_of_getElem? (i := 118) rfl) rfl
theorem tb159 : Cond.lays RX7 "StreamPlayer$Shelf" "segments" "I" ∈ TB := tbm_1 (List.mem_of_getElem? (i := 119) rfl) rfl
theorem tb160 : Cond.soleField RX7 "segments" ∈ TB := tbm_1 (List.mem_of_getElem? (i := 120) rfl) rfl
theorem tb161 : Cond.superclass RX7 "java/lang/Object" ∈ TB := tbm_1 (List.mem_of_getElem? (i := 121) rfl) rfl
theorem tb162 : Cond.classLink RX6 21 RX5 ∈ TB := tbm_1 (List.mem_of_getElem? (i := 122) rfl) rfl
theorem tb163 : Cond.instantiable RX5 3 ∈ TB := tbm_1 (List.mem_of_getElem? (i := 123) rfl) rfl
theorem tb164 : Cond.instanceMethod yX5_init ∈ TB := tbm_1 (List.mem_of_getElem? (i := 125) rfl) rfl
theorem tb165 : Cond.code yX5_init cX5_init 1 none ∈ TB := tbm_1 (List.mem_of_getElem? (i := 126) rfl) rfl
theorem tb166 : Cond.methodLink RX5 3 ⟨"java/lang/Object", "<init>", "()V"⟩ ∈ TB := tbm_1 (List.mem_of_getElem? (i := 127) rfl) rfl
theorem tb167 : Cond.fieldLink RX5 9 "StreamPlayer$Samples" "bits" "[J" ∈ TB := tbm_1 (List.mem_of_getElem? (i := 128) rfl) rfl
theorem tb168 : Cond.fieldLink RX5 15 "StreamPlayer$Samples" "durations" "[J" ∈ TB := tbm_1 (List.mem_of_getElem? (i := 129) rfl) rfl
theorem tb169 : Cond.fieldLink RX5 18 "StreamPlayer$Samples" "kept" "I" ∈ TB := tbm_1 (List.mem_of_getElem? (i := 130) rfl) rfl
theorem tb170 : Cond.laysFinal RX5 "StreamPlayer$Samples" "bits" "[J" ∈ TB := tbm_1 (List.mem_of_getElem? (i := 131) rfl) rfl
theorem tb171 : Cond.soleField RX5 "bits" ∈ TB := tbm_1 (List.mem_of_getElem? (i := 132) rfl) rfl
theorem tb172 : Cond.laysFinal RX5 "StreamPlayer$Samples" "durations" "[J" ∈ TB := tbm_1 (List.mem_of_getElem? (i := 133) rfl) rfl
theorem tb173 : Cond.soleField RX5 "durations" ∈ TB := tbm_1 (List.mem_of_getElem? (i := 134) rfl) rfl
theorem tb174 : Cond.lays RX5 "StreamPlayer$Samples" "kept" "I" ∈ TB := tbm_1 (List.mem_of_getElem? (i := 135) rfl) rfl
theorem tb175 : Cond.soleField RX5 "kept" ∈ TB := tbm_1 (List.mem_of_getElem? (i := 136) rfl) rfl
theorem tb176 : Cond.superclass RX5 "java/lang/Object" ∈ TB := tbm_1 (List.mem_of_getElem? (i := 137) rfl) rfl
theorem tb177 : Cond.arrayClass .long ∈ TB := tbm_1 (List.mem_of_getElem? (i := 138) rfl) rfl
theorem tb178 : Cond.classLink RX6 28 RX1 ∈ TB := tbm_1 (List.mem_of_getElem? (i := 139) rfl) rfl
theorem tb179 : Cond.instantiable RX1 8 ∈ TB := tbm_1 (List.mem_of_getElem? (i := 140) rfl) rfl
theorem tb180 : Cond.instanceMethod yX1_init ∈ TB := tbm_1 (List.mem_of_getElem? (i := 142) rfl) rfl
theorem tb181 : Cond.code yX1_init cX1_init 1 none ∈ TB := tbm_1 (List.mem_of_getElem? (i := 143) rfl) rfl
theorem tb182 : Cond.methodLink RX1 1 ⟨"java/lang/Object", "<init>", "()V"⟩ ∈ TB := tbm_1 (List.mem_of_getElem? (i := 144) rfl) rfl
theorem tb183 : Cond.fieldLink RX1 7 "StreamPlayer$Download" "going" "Z" ∈ TB := tbm_1 (List.mem_of_getElem? (i := 145) rfl) rfl
theorem tb184 : Cond.fieldLink RX6 69 "StreamPlayer$Download" "going" "Z" ∈ TB := tbm_1 (List.mem_of_getElem? (i := 146) rfl) rfl
theorem tb185 : Cond.fieldLink RX1 13 "StreamPlayer$Download" "track" "I" ∈ TB := tbm_1 (List.mem_of_getElem? (i := 147) rfl) rfl
theorem tb186 : Cond.fieldLink RX6 186 "StreamPlayer$Download" "track" "I" ∈ TB := tbm_1 (List.mem_of_getElem? (i := 148) rfl) rfl
theorem tb187 : Cond.fieldLink RX1 17 "StreamPlayer$Download" "segment" "I" ∈ TB := tbm_1 (List.mem_of_getElem? (i := 149) rfl) rfl
theorem tb188 : Cond.fieldLink RX6 189 "StreamPlayer$Download" "segment" "I" ∈ TB := tbm_1 (List.mem_of_getElem? (i := 150) rfl) rfl
theorem tb189 : Cond.fieldLink RX1 20 "StreamPlayer$Download" "rung" "I" ∈ TB := tbm_1 (List.mem_of_getElem? (i := 151) rfl) rfl
theorem tb190 : Cond.fieldLink RX6 192 "StreamPlayer$Download" "rung" "I" ∈ TB := tbm_1 (List.mem_of_getElem? (i := 152) rfl) rfl
theorem tb191 : Cond.fieldLink RX1 23 "StreamPlayer$Download" "waiting" "I" ∈ TB := tbm_1 (List.mem_of_getElem? (i := 153) rfl) rfl
theorem tb192 : Cond.fieldLink RX6 195 "StreamPlayer$Download" "waiting" "I" ∈ TB := tbm_1 (List.mem_of_getElem? (i := 154) rfl) rfl
theorem tb193 : Cond.fieldLink RX1 26 "StreamPlayer$Download" "duration" "I" ∈ TB := tbm_1 (List.mem_of_getElem? (i := 155) rfl) rfl
theorem tb194 : Cond.fieldLink RX6 198 "StreamPlayer$Download" "duration" "I" ∈ TB := tbm_1 (List.mem_of_getElem? (i := 156) rfl) rfl
theorem tb195 : Cond.fieldLink RX1 29 "StreamPlayer$Download" "bits" "J" ∈ TB := tbm_1 (List.mem_of_getElem? (i := 157) rfl) rfl
theorem tb196 : Cond.fieldLink RX6 205 "StreamPlayer$Download" "bits" "J" ∈ TB := tbm_1 (List.mem_of_getElem? (i := 158) rfl) rfl
theorem tb197 : Cond.fieldLink RX1 33 "StreamPlayer$Download" "received" "J" ∈ TB := tbm_1 (List.mem_of_getElem? (i := 159) rfl) rfl
theorem tb198 : Cond.fieldLink RX6 209 "StreamPlayer$Download" "received" "J" ∈ TB := tbm_1 (List.mem_of_getElem? (i := 160) rfl) rfl
theorem tb199 : Cond.lays RX1 "StreamPlayer$Download" "going" "Z" ∈ TB := tbm_1 (List.mem_of_getElem? (i := 161) rfl) rfl
theorem tb200 : Cond.soleField RX1 "going" ∈ TB := tbm_1 (List.mem_of_getElem? (i := 162) rfl) rfl
theorem tb201 : Cond.lays RX1 "StreamPlayer$Download" "track" "I" ∈ TB := tbm_1 (List.mem_of_getElem? (i := 163) rfl) rfl
theorem tb202 : Cond.soleField RX1 "track" ∈ TB := tbm_1 (List.mem_of_getElem? (i := 164) rfl) rfl
theorem tb203 : Cond.lays RX1 "StreamPlayer$Download" "segment" "I" ∈ TB := tbm_1 (List.mem_of_getElem? (i := 165) rfl) rfl
theorem tb204 : Cond.soleField RX1 "segment" ∈ TB := tbm_1 (List.mem_of_getElem? (i := 166) rfl) rfl
theorem tb205 : Cond.lays RX1 "StreamPlayer$Download" "rung" "I" ∈ TB := tbm_1 (List.mem_of_getElem? (i := 167) rfl) rfl
theorem tb206 : Cond.soleField RX1 "rung" ∈ TB := tbm_1 (List.mem_of_getElem? (i := 168) rfl) rfl
theorem tb207 : Cond.lays RX1 "StreamPlayer$Download" "waiting" "I" ∈ TB := tbm_1 (List.mem_of_getElem? (i := 169) rfl) rfl
theorem tb208 : Cond.soleField RX1 "waiting" ∈ TB := tbm_1 (List.mem_of_getElem? (i := 170) rfl) rfl
theorem tb209 : Cond.lays RX1 "StreamPlayer$Download" "duration" "I" ∈ TB := tbm_1 (List.mem_of_getElem? (i := 171) rfl) rfl
theorem tb210 : Cond.soleField RX1 "duration" ∈ TB := tbm_1 (List.mem_of_getElem? (i := 172) rfl) rfl
theorem tb211 : Cond.lays RX1 "StreamPlayer$Download" "bits" "J" ∈ TB := tbm_1 (List.mem_of_getElem? (i := 173) rfl) rfl
theorem tb212 : Cond.soleField RX1 "bits" ∈ TB := tbm_1 (List.mem_of_getElem? (i := 174) rfl) rfl
theorem tb213 : Cond.lays RX1 "StreamPlayer$Download" "received" "J" ∈ TB := tbm_1 (List.mem_of_getElem? (i := 175) rfl) rfl
theorem tb214 : Cond.soleField RX1 "received" ∈ TB := tbm_1 (List.mem_of_getElem? (i := 176) rfl) rfl
theorem tb215 : Cond.superclass RX1 "java/lang/Object" ∈ TB := tbm_1 (List.mem_of_getElem? (i := 177) rfl) rfl
theorem tb216 : Cond.classLink RX6 35 RX0 ∈ TB := tbm_1 (List.mem_of_getElem? (i := 178) rfl) rfl
theorem tb217 : Cond.instantiable RX0 9 ∈ TB := tbm_1 (List.mem_of_getElem? (i := 179) rfl) rfl
theorem tb218 : Cond.instanceMethod yX0_init ∈ TB := tbm_1 (List.mem_of_getElem? (i := 181) rfl) rfl
theorem tb219 : Cond.code yX0_init cX0_init 1 none ∈ TB := tbm_1 (List.mem_of_getElem? (i := 182) rfl) rfl
theorem tb220 : Cond.methodLink RX0 3 ⟨"java/lang/Object", "<init>", "()V"⟩ ∈ TB := tbm_1 (List.mem_of_getElem? (i := 183) rfl) rfl
theorem tb221 : Cond.fieldLink RX0 9 "StreamPlayer$Accounts" "startUpTime" "I" ∈ TB := tbm_1 (List.mem_of_getElem? (i := 184) rfl) rfl
theorem tb222 : Cond.fieldLink RX0 15 "StreamPlayer$Accounts" "stallTime" "I" ∈ TB := tbm_1 (List.mem_of_getElem? (i := 185) rfl) rfl
theorem tb223 : Cond.fieldLink RX0 18 "StreamPlayer$Accounts" "playTime" "I" ∈ TB := tbm_1 (List.mem_of_getElem? (i := 186) rfl) rfl
theorem tb224 : Cond.fieldLink RX0 21 "StreamPlayer$Accounts" "stalls" "I" ∈ TB := tbm_1 (List.mem_of_getElem? (i := 187) rfl) rfl
theorem tb225 : Cond.fieldLink RX6 274 "StreamPlayer$Accounts" "stalls" "I" ∈ TB := tbm_1 (List.mem_of_getElem? (i := 188) rfl) rfl
theorem tb226 : Cond.fieldLink RX9 227 "StreamPlayer$Accounts" "stalls" "I" ∈ TB := tbm_1 (List.mem_of_getElem? (i := 189) rfl) rfl
theorem tb227 : Cond.fieldLink RX0 24 "StreamPlayer$Accounts" "abandoned" "I" ∈ TB := tbm_1 (List.mem_of_getElem? (i := 190) rfl) rfl
theorem tb228 : Cond.fieldLink RX6 245 "StreamPlayer$Accounts" "abandoned" "I" ∈ TB := tbm_1 (List.mem_of_getElem? (i := 191) rfl) rfl
theorem tb229 : Cond.fieldLink RX0 27 "StreamPlayer$Accounts" "finished" "I" ∈ TB := tbm_1 (List.mem_of_getElem? (i := 192) rfl) rfl
theorem tb230 : Cond.fieldLink RX6 230 "StreamPlayer$Accounts" "finished" "I" ∈ TB := tbm_1 (List.mem_of_getElem? (i := 193) rfl) rfl
theorem tb231 : Cond.fieldLink RX0 30 "StreamPlayer$Accounts" "switches" "I" ∈ TB := tbm_1 (List.mem_of_getElem? (i := 194) rfl) rfl
theorem tb232 : Cond.fieldLink RX6 238 "StreamPlayer$Accounts" "switches" "I" ∈ TB := tbm_1 (List.mem_of_getElem? (i := 195) rfl) rfl
theorem tb233 : Cond.fieldLink RX0 33 "StreamPlayer$Accounts" "wasted" "J" ∈ TB := tbm_1 (List.mem_of_getElem? (i := 196) rfl) rfl
theorem tb234 : Cond.fieldLink RX6 248 "StreamPlayer$Accounts" "wasted" "J" ∈ TB := tbm_1 (List.mem_of_getElem? (i := 197) rfl) rfl
theorem tb235 : Cond.fieldLink RX9 185 "StreamPlayer$Accounts" "wasted" "J" ∈ TB := tbm_1 (List.mem_of_getElem? (i := 198) rfl) rfl
theorem tb236 : Cond.fieldLink RX0 37 "StreamPlayer$Accounts" "quality" "J" ∈ TB := tbm_1 (List.mem_of_getElem? (i := 199) rfl) rfl
theorem tb237 : Cond.fieldLink RX6 263 "StreamPlayer$Accounts" "quality" "J" ∈ TB := tbm_1 (List.mem_of_getElem? (i := 200) rfl) rfl
theorem tb238 : Cond.fieldLink RX9 189 "StreamPlayer$Accounts" "quality" "J" ∈ TB := tbm_1 (List.mem_of_getElem? (i := 201) rfl) rfl
theorem tb239 : Cond.lays RX0 "StreamPlayer$Accounts" "startUpTime" "I" ∈ TB := tbm_1 (List.mem_of_getElem? (i := 202) rfl) rfl
theorem tb240 : Cond.soleField RX0 "startUpTime" ∈ TB := tbm_1 (List.mem_of_getElem? (i := 203) rfl) rfl
theorem tb241 : Cond.lays RX0 "StreamPlayer$Accounts" "stallTime" "I" ∈ TB := tbm_1 (List.mem_of_getElem? (i := 204) rfl) rfl
theorem tb242 : Cond.soleField RX0 "stallTime" ∈ TB := tbm_1 (List.mem_of_getElem? (i := 205) rfl) rfl
theorem tb243 : Cond.lays RX0 "StreamPlayer$Accounts" "playTime" "I" ∈ TB := tbm_1 (List.mem_of_getElem? (i := 206) rfl) rfl
theorem tb244 : Cond.soleField RX0 "playTime" ∈ TB := tbm_1 (List.mem_of_getElem? (i := 207) rfl) rfl
theorem tb245 : Cond.lays RX0 "StreamPlayer$Accounts" "stalls" "I" ∈ TB := tbm_1 (List.mem_of_getElem? (i := 208) rfl) rfl
theorem tb246 : Cond.soleField RX0 "stalls" ∈ TB := tbm_1 (List.mem_of_getElem? (i := 209) rfl) rfl
theorem tb247 : Cond.lays RX0 "StreamPlayer$Accounts" "abandoned" "I" ∈ TB := tbm_1 (List.mem_of_getElem? (i := 210) rfl) rfl
theorem tb248 : Cond.soleField RX0 "abandoned" ∈ TB := tbm_1 (List.mem_of_getElem? (i := 211) rfl) rfl
theorem tb249 : Cond.lays RX0 "StreamPlayer$Accounts" "finished" "I" ∈ TB := tbm_1 (List.mem_of_getElem? (i := 212) rfl) rfl
theorem tb250 : Cond.soleField RX0 "finished" ∈ TB := tbm_1 (List.mem_of_getElem? (i := 213) rfl) rfl
theorem tb251 : Cond.lays RX0 "StreamPlayer$Accounts" "switches" "I" ∈ TB := tbm_1 (List.mem_of_getElem? (i := 214) rfl) rfl
theorem tb252 : Cond.soleField RX0 "switches" ∈ TB := tbm_1 (List.mem_of_getElem? (i := 215) rfl) rfl
theorem tb253 : Cond.lays RX0 "StreamPlayer$Accounts" "wasted" "J" ∈ TB := tbm_1 (List.mem_of_getElem? (i := 216) rfl) rfl
theorem tb254 : Cond.soleField RX0 "wasted" ∈ TB := tbm_1 (List.mem_of_getElem? (i := 217) rfl) rfl
theorem tb255 : Cond.lays RX0 "StreamPlayer$Accounts" "quality" "J" ∈ TB := tbm_1 (List.mem_of_getElem? (i := 218) rfl) rfl
theorem tb256 : Cond.soleField RX0 "quality" ∈ TB := tbm_1 (List.mem_of_getElem? (i := 219) rfl) rfl
theorem tb257 : Cond.superclass RX0 "java/lang/Object" ∈ TB := tbm_1 (List.mem_of_getElem? (i := 220) rfl) rfl
theorem tb258 : Cond.classLink RX6 42 RX3 ∈ TB := tbm_1 (List.mem_of_getElem? (i := 221) rfl) rfl
theorem tb259 : Cond.instantiable RX3 2 ∈ TB := tbm_1 (List.mem_of_getElem? (i := 222) rfl) rfl
theorem tb260 : Cond.instanceMethod yX3_init ∈ TB := tbm_1 (List.mem_of_getElem? (i := 224) rfl) rfl
theorem tb261 : Cond.code yX3_init cX3_init 1 none ∈ TB := tbm_1 (List.mem_of_getElem? (i := 225) rfl) rfl
theorem tb262 : Cond.methodLink RX3 3 ⟨"java/lang/Object", "<init>", "()V"⟩ ∈ TB := tbm_1 (List.mem_of_getElem? (i := 226) rfl) rfl
theorem tb263 : Cond.fieldLink RX3 9 "StreamPlayer$Line" "signs" "[C" ∈ TB := tbm_1 (List.mem_of_getElem? (i := 227) rfl) rfl
theorem tb264 : Cond.fieldLink RX3 15 "StreamPlayer$Line" "length" "I" ∈ TB := tbm_1 (List.mem_of_getElem? (i := 228) rfl) rfl
theorem tb265 : Cond.laysFinal RX3 "StreamPlayer$Line" "signs" "[C" ∈ TB := tbm_1 (List.mem_of_getElem? (i := 229) rfl) rfl
theorem tb266 : Cond.soleField RX3 "signs" ∈ TB := tbm_1 (List.mem_of_getElem? (i := 230) rfl) rfl
theorem tb267 : Cond.lays RX3 "StreamPlayer$Line" "length" "I" ∈ TB := tbm_1 (List.mem_of_getElem? (i := 231) rfl) rfl
theorem tb268 : Cond.soleField RX3 "length" ∈ TB := tbm_1 (List.mem_of_getElem? (i := 232) rfl) rfl
theorem tb269 : Cond.superclass RX3 "java/lang/Object" ∈ TB := tbm_1 (List.mem_of_getElem? (i := 233) rfl) rfl
theorem tb270 : Cond.arrayClass .char ∈ TB := tbm_1 (List.mem_of_getElem? (i := 234) rfl) rfl
theorem tb271 : Cond.fieldLink RX6 53 "StreamPlayer$Session" "stream" "LStreamPlayer$Stream;" ∈ TB := tbm_1 (List.mem_of_getElem? (i := 235) rfl) rfl
theorem tb272 : Cond.fieldLink RX6 12 "StreamPlayer$Session" "video" "LStreamPlayer$Shelf;" ∈ TB := tbm_1 (List.mem_of_getElem? (i := 236) rfl) rfl
theorem tb273 : Cond.fieldLink RX6 18 "StreamPlayer$Session" "audio" "LStreamPlayer$Shelf;" ∈ TB := tbm_1 (List.mem_of_getElem? (i := 237) rfl) rfl
theorem tb274 : Cond.fieldLink RX6 24 "StreamPlayer$Session" "samples" "LStreamPlayer$Samples;" ∈ TB := tbm_1 (List.mem_of_getElem? (i := 238) rfl) rfl
theorem tb275 : Cond.fieldLink RX6 31 "StreamPlayer$Session" "download" "LStreamPlayer$Download;" ∈ TB := tbm_1 (List.mem_of_getElem? (i := 239) rfl) rfl
theorem tb276 : Cond.fieldLink RX9 148 "StreamPlayer$Session" "download" "LStreamPlayer$Download;" ∈ TB := tbm_2 (List.mem_of_getElem? (i := 0) rfl) rfl
theorem tb277 : Cond.fieldLink RX6 38 "StreamPlayer$Session" "accounts" "LStreamPlayer$Accounts;" ∈ TB := tbm_2 (List.mem_of_getElem? (i := 1) rfl) rfl
theorem tb278 : Cond.fieldLink RX9 173 "StreamPlayer$Session" "accounts" "LStreamPlayer$Accounts;" ∈ TB := tbm_2 (List.mem_of_getElem? (i := 2) rfl) rfl
theorem tb279 : Cond.fieldLink RX6 45 "StreamPlayer$Session" "line" "LStreamPlayer$Line;" ∈ TB := tbm_2 (List.mem_of_getElem? (i := 3) rfl) rfl
theorem tb280 : Cond.fieldLink RX9 195 "StreamPlayer$Session" "line" "LStreamPlayer$Line;" ∈ TB := tbm_2 (List.mem_of_getElem? (i := 4) rfl) rfl
theorem tb281 : Cond.fieldLink RX6 57 "StreamPlayer$Session" "mode" "I" ∈ TB := tbm_2 (List.mem_of_getElem? (i := 5) rfl) rfl
theorem tb282 : Cond.fieldLink RX6 60 "StreamPlayer$Session" "startThreshold" "I" ∈ TB := tbm_2 (List.mem_of_getElem? (i := 6) rfl) rfl
theorem tb283 : Cond.fieldLink RX6 73 "StreamPlayer$Session" "lastRung" "I" ∈ TB := tbm_2 (List.mem_of_getElem? (i := 7) rfl) rfl
theorem tb284 : Cond.fieldLink RX6 76 "StreamPlayer$Session" "lastChange" "I" ∈ TB := tbm_2 (List.mem_of_getElem? (i := 8) rfl) rfl
theorem tb285 : Cond.fieldLink RX6 49 "StreamPlayer$Session" "state" "I" ∈ TB := tbm_2 (List.mem_of_getElem? (i := 9) rfl) rfl
theorem tb286 : Cond.fieldLink RX9 113 "StreamPlayer$Session" "state" "I" ∈ TB := tbm_2 (List.mem_of_getElem? (i := 10) rfl) rfl
theorem tb287 : Cond.fieldLink RX6 79 "StreamPlayer$Session" "time" "I" ∈ TB := tbm_2 (List.mem_of_getElem? (i := 11) rfl) rfl
theorem tb288 : Cond.fieldLink RX9 116 "StreamPlayer$Session" "time" "I" ∈ TB := tbm_2 (List.mem_of_getElem? (i := 12) rfl) rfl
theorem tb289 : Cond.fieldLink RX6 82 "StreamPlayer$Session" "position" "I" ∈ TB := tbm_2 (List.mem_of_getElem? (i := 13) rfl) rfl
theorem tb290 : Cond.fieldLink RX9 127 "StreamPlayer$Session" "position" "I" ∈ TB := tbm_2 (List.mem_of_getElem? (i := 14) rfl) rfl
theorem tb291 : Cond.laysFinal RX6 "StreamPlayer$Session" "stream" "LStreamPlayer$Stream;" ∈ TB := tbm_2 (List.mem_of_getElem? (i := 15) rfl) rfl
theorem tb292 : Cond.soleField RX6 "stream" ∈ TB := tbm_2 (List.mem_of_getElem? (i := 16) rfl) rfl
theorem tb293 : Cond.laysFinal RX6 "StreamPlayer$Session" "video" "LStreamPlayer$Shelf;" ∈ TB := tbm_2 (List.mem_of_getElem? (i := 17) rfl) rfl
theorem tb294 : Cond.soleField RX6 "video" ∈ TB := tbm_2 (List.mem_of_getElem? (i := 18) rfl) rfl
theorem tb295 : Cond.laysFinal RX6 "StreamPlayer$Session" "audio" "LStreamPlayer$Shelf;" ∈ TB := tbm_2 (List.mem_of_getElem? (i := 19) rfl) rfl
theorem tb296 : Cond.soleField RX6 "audio" ∈ TB := tbm_2 (List.mem_of_getElem? (i := 20) rfl) rfl
theorem tb297 : Cond.laysFinal RX6 "StreamPlayer$Session" "samples" "LStreamPlayer$Samples;" ∈ TB := tbm_2 (List.mem_of_getElem? (i := 21) rfl) rfl
theorem tb298 : Cond.soleField RX6 "samples" ∈ TB := tbm_2 (List.mem_of_getElem? (i := 22) rfl) rfl
theorem tb299 : Cond.laysFinal RX6 "StreamPlayer$Session" "download" "LStreamPlayer$Download;" ∈ TB := tbm_2 (List.mem_of_getElem? (i := 23) rfl) rfl
theorem tb300 : Cond.soleField RX6 "download" ∈ TB := tbm_2 (List.mem_of_getElem? (i := 24) rfl) rfl
theorem tb301 : Cond.laysFinal RX6 "StreamPlayer$Session" "accounts" "LStreamPlayer$Accounts;" ∈ TB := tbm_2 (List.mem_of_getElem? (i := 25) rfl) rfl
theorem tb302 : Cond.soleField RX6 "accounts" ∈ TB := tbm_2 (List.mem_of_getElem? (i := 26) rfl) rfl
theorem tb303 : Cond.laysFinal RX6 "StreamPlayer$Session" "line" "LStreamPlayer$Line;" ∈ TB := tbm_2 (List.mem_of_getElem? (i := 27) rfl) rfl
theorem tb304 : Cond.soleField RX6 "line" ∈ TB := tbm_2 (List.mem_of_getElem? (i := 28) rfl) rfl
theorem tb305 : Cond.lays RX6 "StreamPlayer$Session" "mode" "I" ∈ TB := tbm_2 (List.mem_of_getElem? (i := 29) rfl) rfl
theorem tb306 : Cond.soleField RX6 "mode" ∈ TB := tbm_2 (List.mem_of_getElem? (i := 30) rfl) rfl
theorem tb307 : Cond.lays RX6 "StreamPlayer$Session" "startThreshold" "I" ∈ TB := tbm_2 (List.mem_of_getElem? (i := 31) rfl) rfl
theorem tb308 : Cond.soleField RX6 "startThreshold" ∈ TB := tbm_2 (List.mem_of_getElem? (i := 32) rfl) rfl
theorem tb309 : Cond.lays RX6 "StreamPlayer$Session" "lastRung" "I" ∈ TB := tbm_2 (List.mem_of_getElem? (i := 33) rfl) rfl
theorem tb310 : Cond.soleField RX6 "lastRung" ∈ TB := tbm_2 (List.mem_of_getElem? (i := 34) rfl) rfl
theorem tb311 : Cond.lays RX6 "StreamPlayer$Session" "lastChange" "I" ∈ TB := tbm_2 (List.mem_of_getElem? (i := 35) rfl) rfl
theorem tb312 : Cond.soleField RX6 "lastChange" ∈ TB := tbm_2 (List.mem_of_getElem? (i := 36) rfl) rfl
theorem tb313 : Cond.lays RX6 "StreamPlayer$Session" "state" "I" ∈ TB := tbm_2 (List.mem_of_getElem? (i := 37) rfl) rfl
theorem tb314 : Cond.soleField RX6 "state" ∈ TB := tbm_2 (List.mem_of_getElem? (i := 38) rfl) rfl
theorem tb315 : Cond.lays RX6 "StreamPlayer$Session" "time" "I" ∈ TB := tbm_2 (List.mem_of_getElem? (i := 39) rfl) rfl
theorem tb316 : Cond.soleField RX6 "time" ∈ TB := tbm_2 (List.mem_of_getElem? (i := 40) rfl) rfl
theorem tb317 : Cond.lays RX6 "StreamPlayer$Session" "position" "I" ∈ TB := tbm_2 (List.mem_of_getElem? (i := 41) rfl) rfl
theorem tb318 : Cond.soleField RX6 "position" ∈ TB := tbm_2 (List.mem_of_getElem? (i := 42) rfl) rfl
theorem tb319 : Cond.superclass RX6 "java/lang/Object" ∈ TB := tbm_2 (List.mem_of_getElem? (i := 43) rfl) rfl
theorem tb320 : Cond.fieldLink RX9 10 "StreamPlayer" "stream" "LStreamPlayer$Stream;" ∈ TB := tbm_2 (List.mem_of_getElem? (i := 44) rfl) rfl
theorem tb321 : Cond.fieldLink RX9 21 "StreamPlayer" "session" "LStreamPlayer$Session;" ∈ TB := tbm_2 (List.mem_of_getElem? (i := 45) rfl) rfl
theorem tb322 : Cond.fieldLink RX9 25 "StreamPlayer" "scratch" "LStreamPlayer$Session;" ∈ TB := tbm_2 (List.mem_of_getElem? (i := 46) rfl) rfl
theorem tb323 : Cond.laysFinal RX9 "StreamPlayer" "stream" "LStreamPlayer$Stream;" ∈ TB := tbm_2 (List.mem_of_getElem? (i := 47) rfl) rfl
theorem tb324 : Cond.soleField RX9 "stream" ∈ TB := tbm_2 (List.mem_of_getElem? (i := 48) rfl) rfl
theorem tb325 : Cond.laysFinal RX9 "StreamPlayer" "session" "LStreamPlayer$Session;" ∈ TB := tbm_2 (List.mem_of_getElem? (i := 49) rfl) rfl
theorem tb326 : Cond.soleField RX9 "session" ∈ TB := tbm_2 (List.mem_of_getElem? (i := 50) rfl) rfl
theorem tb327 : Cond.laysFinal RX9 "StreamPlayer" "scratch" "LStreamPlayer$Session;" ∈ TB := tbm_2 (List.mem_of_getElem? (i := 51) rfl) rfl
theorem tb328 : Cond.soleField RX9 "scratch" ∈ TB := tbm_2 (List.mem_of_getElem? (i := 52) rfl) rfl
theorem tb329 : Cond.superclass RX9 "java/lang/Object" ∈ TB := tbm_2 (List.mem_of_getElem? (i := 53) rfl) rfl
theorem tb330 : Cond.methodLink RL 148 yX9_state ∈ TB := tbm_2 (List.mem_of_getElem? (i := 54) rfl) rfl
theorem tb331 : Cond.instanceMethod yX9_state ∈ TB := tbm_2 (List.mem_of_getElem? (i := 55) rfl) rfl
theorem tb332 : Cond.selects RX9 yX9_state yX9_state ∈ TB := tbm_2 (List.mem_of_getElem? (i := 56) rfl) rfl
theorem tb333 : Cond.code yX9_state cX9_state 1 (some .int) ∈ TB := tbm_2 (List.mem_of_getElem? (i := 57) rfl) rfl
theorem tb334 : Cond.methodLink RL 212 yX9_fingerprint ∈ TB := tbm_2 (List.mem_of_getElem? (i := 58) rfl) rfl
theorem tb335 : Cond.instanceMethod yX9_fingerprint ∈ TB := tbm_2 (List.mem_of_getElem? (i := 59) rfl) rfl
theorem tb336 : Cond.selects RX9 yX9_fingerprint yX9_fingerprint ∈ TB := tbm_2 (List.mem_of_getElem? (i := 60) rfl) rfl
theorem tb337 : Cond.code yX9_fingerprint cX9_fingerprint 4 (some .long) ∈ TB := tbm_2 (List.mem_of_getElem? (i := 61) rfl) rfl
theorem tb338 : Cond.constantLong RX9 221 59 ∈ TB := tbm_2 (List.mem_of_getElem? (i := 62) rfl) rfl
theorem tb339 : Cond.methodLink RX9 223 yX9_mix ∈ TB := tbm_2 (List.mem_of_getElem? (i := 63) rfl) rfl
theorem tb340 : Cond.static yX9_mix ∈ TB := tbm_2 (List.mem_of_getElem? (i := 64) rfl) rfl
theorem tb341 : Cond.code yX9_mix cX9_mix 4 (some .long) ∈ TB := tbm_2 (List.mem_of_getElem? (i := 65) rfl) rfl
theorem tb342 : Cond.constantLong RX9 230 31 ∈ TB := tbm_2 (List.mem_of_getElem? (i := 66) rfl) rfl
theorem tb343 : Cond.methodLink RX9 130 yX6_bufferOf ∈ TB := tbm_2 (List.mem_of_getElem? (i := 67) rfl) rfl
theorem tb344 : Cond.instanceMethod yX6_bufferOf ∈ TB := tbm_2 (List.mem_of_getElem? (i := 68) rfl) rfl
theorem tb345 : Cond.selects RX6 yX6_bufferOf yX6_bufferOf ∈ TB := tbm_2 (List.mem_of_getElem? (i := 69) rfl) rfl
theorem tb346 : Cond.code yX6_bufferOf cX6_bufferOf 2 (some .int) ∈ TB := tbm_2 (List.mem_of_getElem? (i := 70) rfl) rfl
theorem tb347 : Cond.methodLink RX6 167 yX8_ladderOf ∈ TB := tbm_2 (List.mem_of_getElem? (i := 71) rfl) rfl
theorem tb348 : Cond.instanceMethod yX8_ladderOf ∈ TB := tbm_2 (List.mem_of_getElem? (i := 72) rfl) rfl
theorem tb349 : Cond.selects RX8 yX8_ladderOf yX8_ladderOf ∈ TB := tbm_2 (List.mem_of_getElem? (i := 73) rfl) rfl
theorem tb350 : Cond.code yX8_ladderOf cX8_ladderOf 2 (some (.object "StreamPlayer$Ladder")) ∈ TB := tbm_2 (List.mem_of_getElem? (i := 74) rfl) rfl
theorem tb351 : Cond.methodLink RX6 163 yX6_shelfOf ∈ TB := tbm_2 (List.mem_of_getElem? (i := 75) rfl) rfl
theorem tb352 : Cond.instanceMethod yX6_shelfOf ∈ TB := tbm_2 (List.mem_of_getElem? (i := 76) rfl) rfl
theorem tb353 : Cond.selects RX6 yX6_shelfOf yX6_shelfOf ∈ TB := tbm_2 (List.mem_of_getElem? (i := 77) rfl) rfl
theorem tb354 : Cond.code yX6_shelfOf cX6_shelfOf 2 (some (.object "StreamPlayer$Shelf")) ∈ TB := tbm_2 (List.mem_of_getElem? (i := 78) rfl) rfl
theorem tb355 : Cond.methodLink RX6 176 yX8_valueOf ∈ TB := tbm_2 (List.mem_of_getElem? (i := 79) rfl) rfl
theorem tb356 : Cond.instanceMethod yX8_valueOf ∈ TB := tbm_2 (List.mem_of_getElem? (i := 80) rfl) rfl
theorem tb357 : Cond.selects RX8 yX8_valueOf yX8_valueOf ∈ TB := tbm_2 (List.mem_of_getElem? (i := 81) rfl) rfl
theorem tb358 : Cond.code yX8_valueOf cX8_valueOf 2 (some .int) ∈ TB := tbm_2 (List.mem_of_getElem? (i := 82) rfl) rfl
theorem tb359 : Cond.methodLink RX9 152 yX1_fact ∈ TB := tbm_2 (List.mem_of_getElem? (i := 83) rfl) rfl
theorem tb360 : Cond.instanceMethod yX1_fact ∈ TB := tbm_2 (List.mem_of_getElem? (i := 84) rfl) rfl
theorem tb361 : Cond.selects RX1 yX1_fact yX1_fact ∈ TB := tbm_2 (List.mem_of_getElem? (i := 85) rfl) rfl
theorem tb362 : Cond.code yX1_fact cX1_fact 2 (some .int) ∈ TB := tbm_2 (List.mem_of_getElem? (i := 86) rfl) rfl
theorem tb363 : Cond.methodLink RX9 157 yX1_receivedOrNone ∈ TB := tbm_2 (List.mem_of_getElem? (i := 87) rfl) rfl
theorem tb364 : Cond.instanceMethod yX1_receivedOrNone ∈ TB := tbm_2 (List.mem_of_getElem? (i := 88) rfl) rfl
theorem tb365 : Cond.selects RX1 yX1_receivedOrNone yX1_receivedOrNone ∈ TB := tbm_2 (List.mem_of_getElem? (i := 89) rfl) rfl
theorem tb366 : Cond.code yX1_receivedOrNone cX1_receivedOrNone 1 (some .long) ∈ TB := tbm_2 (List.mem_of_getElem? (i := 90) rfl) rfl
theorem tb367 : Cond.constantLong RX1 36 (-1) ∈ TB := tbm_2 (List.mem_of_getElem? (i := 91) rfl) rfl
theorem tb368 : Cond.methodLink RX9 161 yX6_throughput ∈ TB := tbm_2 (List.mem_of_getElem? (i := 92) rfl) rfl
theorem tb369 : Cond.instanceMethod yX6_throughput ∈ TB := tbm_2 (List.mem_of_getElem? (i := 93) rfl) rfl
theorem tb370 : Cond.selects RX6 yX6_throughput yX6_throughput ∈ TB := tbm_2 (List.mem_of_getElem? (i := 94) rfl) rfl
theorem tb371 : Cond.code yX6_throughput cX6_throughput 1 (some .int) ∈ TB := tbm_2 (List.mem_of_getElem? (i := 95) rfl) rfl
theorem tb372 : Cond.methodLink RX6 289 yX5_rateOver ∈ TB := tbm_2 (List.mem_of_getElem? (i := 96) rfl) rfl
theorem tb373 : Cond.instanceMethod yX5_rateOver ∈ TB := tbm_2 (List.mem_of_getElem? (i := 97) rfl) rfl
theorem tb374 : Cond.selects RX5 yX5_rateOver yX5_rateOver ∈ TB := tbm_2 (List.mem_of_getElem? (i := 98) rfl) rfl
theorem tb375 : Cond.code yX5_rateOver cX5_rateOver 8 (some .int) ∈ TB := tbm_2 (List.mem_of_getElem? (i := 99) rfl) rfl
theorem tb376 : Cond.methodLink RX9 177 yX0_timeSpent ∈ TB := tbm_2 (List.mem_of_getElem? (i := 100) rfl) rfl
theorem tb377 : Cond.instanceMethod yX0_timeSpent ∈ TB := tbm_2 (List.mem_of_getElem? (i := 101) rfl) rfl
theorem tb378 : Cond.selects RX0 yX0_timeSpent yX0_timeSpent ∈ TB := tbm_2 (List.mem_of_getElem? (i := 102) rfl) rfl
theorem tb379 : Cond.code yX0_timeSpent cX0_timeSpent 2 (some .int) ∈ TB := tbm_2 (List.mem_of_getElem? (i := 103) rfl) rfl
theorem tb380 : Cond.methodLink RX9 182 yX0_eventsOf ∈ TB := tbm_2 (List.mem_of_getElem? (i := 104) rfl) rfl
theorem tb381 : Cond.instanceMethod yX0_eventsOf ∈ TB := tbm_2 (List.mem_of_getElem? (i := 105) rfl) rfl
theorem tb382 : Cond.selects RX0 yX0_eventsOf yX0_eventsOf ∈ TB := tbm_2 (List.mem_of_getElem? (i := 106) rfl) rfl
theorem tb383 : Cond.code yX0_eventsOf cX0_eventsOf 2 (some .int) ∈ TB := tbm_2 (List.mem_of_getElem? (i := 107) rfl) rfl
theorem tb384 : Cond.methodLink RL 112 yL_setParameter ∈ TB := tbm_2 (List.mem_of_getElem? (i := 108) rfl) rfl
theorem tb385 : Cond.static yL_setParameter ∈ TB := tbm_2 (List.mem_of_getElem? (i := 109) rfl) rfl
theorem tb386 : Cond.codeWith yL_setParameter cL_setParameter 5 (some .int) [(0, 10, 13, 13), (0, 10, 17, 15), (0, 10, 21, 17)] ∈ TB := tbm_2 (List.mem_of_getElem? (i := 110) rfl) rfl
theorem tb387 : Cond.classLink RL 13 "java/lang/IndexOutOfBoundsException" ∈ TB := tbm_2 (List.mem_of_getElem? (i := 111) rfl) rfl
theorem tb388 : Cond.classLink RL 15 "java/lang/IllegalArgumentException" ∈ TB := tbm_2 (List.mem_of_getElem? (i := 112) rfl) rfl
theorem tb389 : Cond.classLink RL 17 "java/lang/IllegalStateException" ∈ TB := tbm_2 (List.mem_of_getElem? (i := 113) rfl) rfl
theorem tb390 : Cond.methodLink RL 7 yX9_setParameter ∈ TB := tbm_2 (List.mem_of_getElem? (i := 114) rfl) rfl
theorem tb391 : Cond.instanceMethod yX9_setParameter ∈ TB := tbm_2 (List.mem_of_getElem? (i := 115) rfl) rfl
theorem tb392 : Cond.selects RX9 yX9_setParameter yX9_setParameter ∈ TB := tbm_2 (List.mem_of_getElem? (i := 116) rfl) rfl
theorem tb393 : Cond.code yX9_setParameter cX9_setParameter 3 (some .int) ∈ TB := tbm_2 (List.mem_of_getElem? (i := 117) rfl) rfl
theorem tb394 : Cond.fieldLink RX9 28 "StreamPlayer" "FIRST_VALUES" "[I" ∈ TB := tbm_2 (List.mem_of_getElem? (i := 118) rfl) rfl
theorem tb395 : Cond.methodLink RX9 32 yX9_requireIndex ∈ TB := tbm_2 (List.mem_of_getElem? (i := 119) rfl) rfl
theorem tb396 : Cond.static yX9_requireIndex ∈ TB := tbm_2 (List.mem_of_getElem? (i := 120) rfl) rfl
theorem tb397 : Cond.code yX9_requireIndex cX9_requireIndex 2 none ∈ TB := tbm_2 (List.mem_of_getElem? (i := 121) rfl) rfl
theorem tb398 : Cond.classLink RX9 232 "java/lang/IndexOutOfBoundsException" ∈ TB := tbm_2 (List.mem_of_getElem? (i := 122) rfl) rfl
theorem tb399 : Cond.instantiable "java/lang/IndexOutOfBoundsException" 6 ∈ TB := tbm_2 (List.mem_of_getElem? (i := 123) rfl) rfl
theorem tb400 : Cond.selects "java/lang/IndexOutOfBoundsException" ⟨"java/lang/Throwable", "fillInStackTrace", "(I)Ljava/lang/Throwable;"⟩ ⟨"java/lang/Throwable", "fillInStackTrace", "(I)Ljava/lang/Throwable;"⟩ ∈ TB := tbm_2 (List.mem_of_getElem? (i := 131) rfl) rfl
theorem tb401 : Cond.selects "java/lang/IndexOutOfBoundsException" ⟨"java/lang/Throwable", "fillInStackTrace", "()Ljava/lang/Throwable;"⟩ ⟨"java/lang/Throwable", "fillInStackTrace", "()Ljava/lang/Throwable;"⟩ ∈ TB := tbm_2 (List.mem_of_getElem? (i := 132) rfl) rfl
theorem tb402 : Cond.lays "java/lang/IndexOutOfBoundsException" "java/lang/Throwable" "cause" "Ljava/lang/Throwable;" ∈ TB := tbm_2 (List.mem_of_getElem? (i := 133) rfl) rfl
theorem tb403 : Cond.lays "java/lang/Throwable" "java/lang/Throwable" "cause" "Ljava/lang/Throwable;" ∈ TB := tbm_2 (List.mem_of_getElem? (i := 134) rfl) rfl
theorem tb404 : Cond.lays "java/lang/IndexOutOfBoundsException" "java/lang/Throwable" "stackTrace" "[Ljava/lang/StackTraceElement;" ∈ TB := tbm_2 (List.mem_of_getElem? (i := 135) rfl) rfl
theorem tb405 : Cond.lays "java/lang/Throwable" "java/lang/Throwable" "stackTrace" "[Ljava/lang/StackTraceElement;" ∈ TB := tbm_2 (List.mem_of_getElem? (i := 136) rfl) rfl
theorem tb406 : Cond.lays "java/lang/IndexOutOfBoundsException" "java/lang/Throwable" "suppressedExceptions" "Ljava/util/List;" ∈ TB := tbm_2 (List.mem_of_getElem? (i := 137) rfl) rfl
theorem tb407 : Cond.lays "java/lang/Throwable" "java/lang/Throwable" "suppressedExceptions" "Ljava/util/List;" ∈ TB := tbm_2 (List.mem_of_getElem? (i := 138) rfl) rfl
theorem tb408 : Cond.lays "java/lang/IndexOutOfBoundsException" "java/lang/Throwable" "detailMessage" "Ljava/lang/String;" ∈ TB := tbm_2 (List.mem_of_getElem? (i := 139) rfl) rfl
theorem tb409 : Cond.lays "java/lang/Throwable" "java/lang/Throwable" "detailMessage" "Ljava/lang/String;" ∈ TB := tbm_2 (List.mem_of_getElem? (i := 140) rfl) rfl
theorem tb410 : Cond.lays "java/lang/IndexOutOfBoundsException" "java/lang/Throwable" "backtrace" "Ljava/lang/Object;" ∈ TB := tbm_2 (List.mem_of_getElem? (i := 141) rfl) rfl
theorem tb411 : Cond.lays "java/lang/Throwable" "java/lang/Throwable" "backtrace" "Ljava/lang/Object;" ∈ TB := tbm_2 (List.mem_of_getElem? (i := 142) rfl) rfl
theorem tb412 : Cond.fieldLink "java/lang/Throwable" 198 "java/lang/Throwable" "backtrace" "Ljava/lang/Object;" ∈ TB := tbm_2 (List.mem_of_getElem? (i := 143) rfl) rfl
theorem tb413 : Cond.superclass "java/lang/Throwable" "java/lang/Object" ∈ TB := tbm_2 (List.mem_of_getElem? (i := 144) rfl) rfl
theorem tb414 : Cond.instanceMethod ⟨"java/lang/Throwable", "<init>", "()V"⟩ ∈ TB := tbm_2 (List.mem_of_getElem? (i := 145) rfl) rfl
theorem tb415 : Cond.code ⟨"java/lang/Throwable", "<init>", "()V"⟩ prog_22_method_1_code 1 none ∈ TB := tbm_2 (List.mem_of_getElem? (i := 146) rfl) rfl
theorem tb416 : Cond.methodLink "java/lang/Throwable" 1 ⟨"java/lang/Object", "<init>", "()V"⟩ ∈ TB := tbm_2 (List.mem_of_getElem? (i := 147) rfl) rfl
theorem tb417 : Cond.fieldLink "java/lang/Throwable" 13 "java/lang/Throwable" "UNASSIGNED_STACK" "[Ljava/lang/StackTraceElement;" ∈ TB := tbm_2 (List.mem_of_getElem? (i := 148) rfl) rfl
theorem tb418 : Cond.fieldLink "java/lang/Throwable" 20 "java/lang/Throwable" "SUPPRESSED_SENTINEL" "Ljava/util/List;" ∈ TB := tbm_2 (List.mem_of_getElem? (i := 150) rfl) rfl
theorem tb419 : Cond.methodLink "java/lang/Throwable" 27 ⟨"java/lang/Throwable", "fillInStackTrace", "()Ljava/lang/Throwable;"⟩ ∈ TB := tbm_2 (List.mem_of_getElem? (i := 152) rfl) rfl
theorem tb420 : Cond.instanceMethod ⟨"java/lang/Throwable", "fillInStackTrace", "()Ljava/lang/Throwable;"⟩ ∈ TB := tbm_2 (List.mem_of_getElem? (i := 153) rfl) rfl
theorem tb421 : Cond.sameMethod "java/lang/Throwable" "java/lang/Throwable" "fillInStackTrace" "()Ljava/lang/Throwable;" ∈ TB := tbm_2 (List.mem_of_getElem? (i := 154) rfl) rfl
theorem tb422 : Cond.selects "java/lang/IllegalArgumentException" ⟨"java/lang/Throwable", "fillInStackTrace", "()Ljava/lang/Throwable;"⟩ ⟨"java/lang/Throwable", "fillInStackTrace", "()Ljava/lang/Throwable;"⟩ ∈ TB := tbm_2 (List.mem_of_getElem? (i := 155) rfl) rfl
theorem tb423 : Cond.selects "java/lang/IllegalStateException" ⟨"java/lang/Throwable", "fillInStackTrace", "()Ljava/lang/Throwable;"⟩ ⟨"java/lang/Throwable", "fillInStackTrace", "()Ljava/lang/Throwable;"⟩ ∈ TB := tbm_2 (List.mem_of_getElem? (i := 156) rfl) rfl
theorem tb424 : Cond.codeSync ⟨"java/lang/Throwable", "fillInStackTrace", "()Ljava/lang/Throwable;"⟩ prog_22_method_18_code 1 (some (.object "java/lang/Throwable")) ∈ TB := tbm_2 (List.mem_of_getElem? (i := 157) rfl) rfl
theorem tb425 : Cond.methodLink "java/lang/Throwable" 202 ⟨"java/lang/Throwable", "fillInStackTrace", "(I)Ljava/lang/Throwable;"⟩ ∈ TB := tbm_2 (List.mem_of_getElem? (i := 158) rfl) rfl
theorem tb426 : Cond.instanceMethod ⟨"java/lang/Throwable", "fillInStackTrace", "(I)Ljava/lang/Throwable;"⟩ ∈ TB := tbm_2 (List.mem_of_getElem? (i := 160) rfl) rfl
theorem tb427 : Cond.instantiable "java/lang/Throwable" 6 ∈ TB := tbm_2 (List.mem_of_getElem? (i := 161) rfl) rfl
theorem tb428 : Cond.native ⟨"java/lang/Throwable", "fillInStackTrace", "(I)Ljava/lang/Throwable;"⟩ ∈ TB := tbm_2 (List.mem_of_getElem? (i := 162) rfl) rfl
theorem tb429 : Cond.methodLink RX9 236 ⟨"java/lang/IndexOutOfBoundsException", "<init>", "(Ljava/lang/String;)V"⟩ ∈ TB := tbm_2 (List.mem_of_getElem? (i := 164) rfl) rfl
theorem tb430 : Cond.instanceMethod ⟨"java/lang/IndexOutOfBoundsException", "<init>", "(Ljava/lang/String;)V"⟩ ∈ TB := tbm_2 (List.mem_of_getElem? (i := 165) rfl) rfl
theorem tb431 : Cond.code ⟨"java/lang/IndexOutOfBoundsException", "<init>", "(Ljava/lang/String;)V"⟩ prog_17_method_2_code 2 none ∈ TB := tbm_2 (List.mem_of_getElem? (i := 166) rfl) rfl
theorem tb432 : Cond.methodLink "java/lang/IndexOutOfBoundsException" 7 ⟨"java/lang/RuntimeException", "<init>", "(Ljava/lang/String;)V"⟩ ∈ TB := tbm_2 (List.mem_of_getElem? (i := 167) rfl) rfl
theorem tb433 : Cond.instanceMethod ⟨"java/lang/RuntimeException", "<init>", "(Ljava/lang/String;)V"⟩ ∈ TB := tbm_2 (List.mem_of_getElem? (i := 168) rfl) rfl
theorem tb434 : Cond.code ⟨"java/lang/RuntimeException", "<init>", "(Ljava/lang/String;)V"⟩ prog_19_method_2_code 2 none ∈ TB := tbm_2 (List.mem_of_getElem? (i := 169) rfl) rfl
theorem tb435 : Cond.methodLink "java/lang/RuntimeException" 7 ⟨"java/lang/Exception", "<init>", "(Ljava/lang/String;)V"⟩ ∈ TB := tbm_2 (List.mem_of_getElem? (i := 170) rfl) rfl
theorem tb436 : Cond.instanceMethod ⟨"java/lang/Exception", "<init>", "(Ljava/lang/String;)V"⟩ ∈ TB := tbm_2 (List.mem_of_getElem? (i := 171) rfl) rfl
theorem tb437 : Cond.code ⟨"java/lang/Exception", "<init>", "(Ljava/lang/String;)V"⟩ prog_14_method_2_code 2 none ∈ TB := tbm_2 (List.mem_of_getElem? (i := 172) rfl) rfl
theorem tb438 : Cond.methodLink "java/lang/Exception" 7 ⟨"java/lang/Throwable", "<init>", "(Ljava/lang/String;)V"⟩ ∈ TB := tbm_2 (List.mem_of_getElem? (i := 173) rfl) rfl
theorem tb439 : Cond.instanceMethod ⟨"java/lang/Throwable", "<init>", "(Ljava/lang/String;)V"⟩ ∈ TB := tbm_2 (List.mem_of_getElem? (i := 174) rfl) rfl
theorem tb440 : Cond.code ⟨"java/lang/Throwable", "<init>", "(Ljava/lang/String;)V"⟩ prog_22_method_2_code 2 none ∈ TB := tbm_2 (List.mem_of_getElem? (i := 175) rfl) rfl
theorem tb442 : Cond.fieldLink "java/lang/Throwable" 31 "java/lang/Throwable" "detailMessage" "Ljava/lang/String;" ∈ TB := tbm_2 (List.mem_of_getElem? (i := 177) rfl) rfl
theorem tb443 : Cond.fieldLink "java/lang/Throwable" 7 "java/lang/Throwable" "cause" "Ljava/lang/Throwable;" ∈ TB := tbm_2 (List.mem_of_getElem? (i := 178) rfl) rfl
theorem tb444 : Cond.fieldLink "java/lang/Throwable" 17 "java/lang/Throwable" "stackTrace" "[Ljava/lang/StackTraceElement;" ∈ TB := tbm_2 (List.mem_of_getElem? (i := 179) rfl) rfl
theorem tb445 : Cond.fieldLink "java/lang/Throwable" 24 "java/lang/Throwable" "suppressedExceptions" "Ljava/util/List;" ∈ TB := tbm_2 (List.mem_of_getElem? (i := 180) rfl) rfl
theorem tb446 : Cond.soleField "java/lang/Throwable" "backtrace" ∈ TB := tbm_2 (List.mem_of_getElem? (i := 181) rfl) rfl
theorem tb447 : Cond.soleField "java/lang/Throwable" "detailMessage" ∈ TB := tbm_2 (List.mem_of_getElem? (i := 182) rfl) rfl
theorem tb448 : Cond.soleField "java/lang/Throwable" "cause" ∈ TB := tbm_2 (List.mem_of_getElem? (i := 183) rfl) rfl
theorem tb449 : Cond.soleField "java/lang/Throwable" "stackTrace" ∈ TB := tbm_2 (List.mem_of_getElem? (i := 184) rfl) rfl
theorem tb450 : Cond.lays "java/lang/IndexOutOfBoundsException" "java/lang/Throwable" "depth" "I" ∈ TB := tbm_2 (List.mem_of_getElem? (i := 185) rfl) rfl
theorem tb451 : Cond.soleField "java/lang/Throwable" "depth" ∈ TB := tbm_2 (List.mem_of_getElem? (i := 186) rfl) rfl
theorem tb452 : Cond.soleField "java/lang/Throwable" "suppressedExceptions" ∈ TB := tbm_2 (List.mem_of_getElem? (i := 187) rfl) rfl
theorem tb453 : Cond.superclass "java/lang/IndexOutOfBoundsException" "java/lang/RuntimeException" ∈ TB := tbm_2 (List.mem_of_getElem? (i := 188) rfl) rfl
theorem tb454 : Cond.arrayClass .byte ∈ TB := tbm_2 (List.mem_of_getElem? (i := 189) rfl) rfl
theorem tb455 : Cond.methodLink RX9 36 yX8_allows ∈ TB := tbm_2 (List.mem_of_getElem? (i := 190) rfl) rfl
theorem tb456 : Cond.static yX8_allows ∈ TB := tbm_2 (List.mem_of_getElem? (i := 191) rfl) rfl
theorem tb457 : Cond.code yX8_allows cX8_allows 2 (some .boolean) ∈ TB := tbm_2 (List.mem_of_getElem? (i := 192) rfl) rfl
theorem tb458 : Cond.methodLink RX9 40 yX9_requireArgument ∈ TB := tbm_2 (List.mem_of_getElem? (i := 197) rfl) rfl
theorem tb459 : Cond.static yX9_requireArgument ∈ TB := tbm_2 (List.mem_of_getElem? (i := 198) rfl) rfl
theorem tb460 : Cond.code yX9_requireArgument cX9_requireArgument 1 none ∈ TB := tbm_2 (List.mem_of_getElem? (i := 199) rfl) rfl
theorem tb461 : Cond.classLink RX9 241 "java/lang/IllegalArgumentException" ∈ TB := tbm_2 (List.mem_of_getElem? (i := 200) rfl) rfl
theorem tb462 : Cond.instantiable "java/lang/IllegalArgumentException" 6 ∈ TB := tbm_2 (List.mem_of_getElem? (i := 201) rfl) rfl
theorem tb463 : Cond.selects "java/lang/IllegalArgumentException" ⟨"java/lang/Throwable", "fillInStackTrace", "(I)Ljava/lang/Throwable;"⟩ ⟨"java/lang/Throwable", "fillInStackTrace", "(I)Ljava/lang/Throwable;"⟩ ∈ TB := tbm_2 (List.mem_of_getElem? (i := 203) rfl) rfl
theorem tb464 : Cond.lays "java/lang/IllegalArgumentException" "java/lang/Throwable" "cause" "Ljava/lang/Throwable;" ∈ TB := tbm_2 (List.mem_of_getElem? (i := 204) rfl) rfl
theorem tb465 : Cond.lays "java/lang/IllegalArgumentException" "java/lang/Throwable" "stackTrace" "[Ljava/lang/StackTraceElement;" ∈ TB := tbm_2 (List.mem_of_getElem? (i := 205) rfl) rfl
theorem tb466 : Cond.lays "java/lang/IllegalArgumentException" "java/lang/Throwable" "suppressedExceptions" "Ljava/util/List;" ∈ TB := tbm_2 (List.mem_of_getElem? (i := 206) rfl) rfl
theorem tb467 : Cond.lays "java/lang/IllegalArgumentException" "java/lang/Throwable" "detailMessage" "Ljava/lang/String;" ∈ TB := tbm_2 (List.mem_of_getElem? (i := 207) rfl) rfl
theorem tb468 : Cond.lays "java/lang/IllegalArgumentException" "java/lang/Throwable" "backtrace" "Ljava/lang/Object;" ∈ TB := tbm_2 (List.mem_of_getElem? (i := 208) rfl) rfl
theorem tb469 : Cond.methodLink RX9 245 ⟨"java/lang/IllegalArgumentException", "<init>", "(Ljava/lang/String;)V"⟩ ∈ TB := tbm_2 (List.mem_of_getElem? (i := 210) rfl) rfl
theorem tb470 : Cond.instanceMethod ⟨"java/lang/IllegalArgumentException", "<init>", "(Ljava/lang/String;)V"⟩ ∈ TB := tbm_2 (List.mem_of_getElem? (i := 211) rfl) rfl
theorem tb471 : Cond.code ⟨"java/lang/IllegalArgumentException", "<init>", "(Ljava/lang/String;)V"⟩ prog_15_method_2_code 2 none ∈ TB := tbm_2 (List.mem_of_getElem? (i := 212) rfl) rfl
theorem tb472 : Cond.methodLink "java/lang/IllegalArgumentException" 7 ⟨"java/lang/RuntimeException", "<init>", "(Ljava/lang/String;)V"⟩ ∈ TB := tbm_2 (List.mem_of_getElem? (i := 213) rfl) rfl
theorem tb473 : Cond.lays "java/lang/IllegalArgumentException" "java/lang/Throwable" "depth" "I" ∈ TB := tbm_2 (List.mem_of_getElem? (i := 214) rfl) rfl
theorem tb474 : Cond.superclass "java/lang/IllegalArgumentException" "java/lang/RuntimeException" ∈ TB := tbm_2 (List.mem_of_getElem? (i := 215) rfl) rfl
theorem tb475 : Cond.methodLink RX9 44 yX9_requireNoSession ∈ TB := tbm_2 (List.mem_of_getElem? (i := 216) rfl) rfl
theorem tb476 : Cond.instanceMethod yX9_requireNoSession ∈ TB := tbm_2 (List.mem_of_getElem? (i := 218) rfl) rfl
theorem tb477 : Cond.code yX9_requireNoSession cX9_requireNoSession 1 none ∈ TB := tbm_2 (List.mem_of_getElem? (i := 219) rfl) rfl
theorem tb478 : Cond.classLink RX9 246 "java/lang/IllegalStateException" ∈ TB := tbm_2 (List.mem_of_getElem? (i := 220) rfl) rfl
theorem tb479 : Cond.instantiable "java/lang/IllegalStateException" 6 ∈ TB := tbm_2 (List.mem_of_getElem? (i := 221) rfl) rfl
theorem tb480 : Cond.selects "java/lang/IllegalStateException" ⟨"java/lang/Throwable", "fillInStackTrace", "(I)Ljava/lang/Throwable;"⟩ ⟨"java/lang/Throwable", "fillInStackTrace", "(I)Ljava/lang/Throwable;"⟩ ∈ TB := tbm_2 (List.mem_of_getElem? (i := 223) rfl) rfl
theorem tb481 : Cond.lays "java/lang/IllegalStateException" "java/lang/Throwable" "cause" "Ljava/lang/Throwable;" ∈ TB := tbm_2 (List.mem_of_getElem? (i := 224) rfl) rfl
theorem tb482 : Cond.lays "java/lang/IllegalStateException" "java/lang/Throwable" "stackTrace" "[Ljava/lang/StackTraceElement;" ∈ TB := tbm_2 (List.mem_of_getElem? (i := 225) rfl) rfl
theorem tb483 : Cond.lays "java/lang/IllegalStateException" "java/lang/Throwable" "suppressedExceptions" "Ljava/util/List;" ∈ TB := tbm_2 (List.mem_of_getElem? (i := 226) rfl) rfl
theorem tb484 : Cond.lays "java/lang/IllegalStateException" "java/lang/Throwable" "detailMessage" "Ljava/lang/String;" ∈ TB := tbm_2 (List.mem_of_getElem? (i := 227) rfl) rfl
theorem tb485 : Cond.lays "java/lang/IllegalStateException" "java/lang/Throwable" "backtrace" "Ljava/lang/Object;" ∈ TB := tbm_2 (List.mem_of_getElem? (i := 228) rfl) rfl
theorem tb486 : Cond.methodLink RX9 250 ⟨"java/lang/IllegalStateException", "<init>", "(Ljava/lang/String;)V"⟩ ∈ TB := tbm_2 (List.mem_of_getElem? (i := 230) rfl) rfl
theorem tb487 : Cond.instanceMethod ⟨"java/lang/IllegalStateException", "<init>", "(Ljava/lang/String;)V"⟩ ∈ TB := tbm_2 (List.mem_of_getElem? (i := 231) rfl) rfl
theorem tb488 : Cond.code ⟨"java/lang/IllegalStateException", "<init>", "(Ljava/lang/String;)V"⟩ prog_16_method_2_code 2 none ∈ TB := tbm_2 (List.mem_of_getElem? (i := 232) rfl) rfl
theorem tb489 : Cond.methodLink "java/lang/IllegalStateException" 7 ⟨"java/lang/RuntimeException", "<init>", "(Ljava/lang/String;)V"⟩ ∈ TB := tbm_2 (List.mem_of_getElem? (i := 233) rfl) rfl
theorem tb490 : Cond.lays "java/lang/IllegalStateException" "java/lang/Throwable" "depth" "I" ∈ TB := tbm_2 (List.mem_of_getElem? (i := 234) rfl) rfl
theorem tb491 : Cond.superclass "java/lang/IllegalStateException" "java/lang/RuntimeException" ∈ TB := tbm_2 (List.mem_of_getElem? (i := 235) rfl) rfl
theorem tb492 : Cond.methodLink RX9 47 yX8_replaceValue ∈ TB := tbm_2 (List.mem_of_getElem? (i := 236) rfl) rfl
theorem tb493 : Cond.instanceMethod yX8_replaceValue ∈ TB := tbm_2 (List.mem_of_getElem? (i := 237) rfl) rfl
theorem tb494 : Cond.selects RX8 yX8_replaceValue yX8_replaceValue ∈ TB := tbm_2 (List.mem_of_getElem? (i := 238) rfl) rfl
theorem tb495 : Cond.code yX8_replaceValue cX8_replaceValue 4 (some .int) ∈ TB := tbm_2 (List.mem_of_getElem? (i := 239) rfl) rfl
theorem tb496 : Cond.methodLink RX8 48 yX8_valueOf ∈ TB := tbm_3 (List.mem_of_getElem? (i := 0) rfl) rfl
theorem tb497 : Cond.methodLink RL 121 yL_addRung ∈ TB := tbm_3 (List.mem_of_getElem? (i := 1) rfl) rfl
theorem tb498 : Cond.static yL_addRung ∈ TB := tbm_3 (List.mem_of_getElem? (i := 2) rfl) rfl
theorem tb499 : Cond.codeWith yL_addRung cL_addRung 5 (some .int) [(0, 10, 13, 13), (0, 10, 17, 15), (0, 10, 21, 17)] ∈ TB := tbm_3 (List.mem_of_getElem? (i := 3) rfl) rfl
theorem tb500 : Cond.methodLink RL 19 yX9_addRung ∈ TB := tbm_3 (List.mem_of_getElem? (i := 4) rfl) rfl
theorem tb501 : Cond.instanceMethod yX9_addRung ∈ TB := tbm_3 (List.mem_of_getElem? (i := 5) rfl) rfl
theorem tb502 : Cond.selects RX9 yX9_addRung yX9_addRung ∈ TB := tbm_3 (List.mem_of_getElem? (i := 6) rfl) rfl
theorem tb503 : Cond.code yX9_addRung cX9_addRung 4 (some .int) ∈ TB := tbm_3 (List.mem_of_getElem? (i := 7) rfl) rfl
theorem tb504 : Cond.methodLink RX9 51 yX8_ladderOf ∈ TB := tbm_3 (List.mem_of_getElem? (i := 8) rfl) rfl
theorem tb505 : Cond.constant RX9 55 50000 ∈ TB := tbm_3 (List.mem_of_getElem? (i := 9) rfl) rfl
theorem tb506 : Cond.methodLink RX9 56 yX2_topRate ∈ TB := tbm_3 (List.mem_of_getElem? (i := 10) rfl) rfl
theorem tb507 : Cond.instanceMethod yX2_topRate ∈ TB := tbm_3 (List.mem_of_getElem? (i := 11) rfl) rfl
theorem tb508 : Cond.selects RX2 yX2_topRate yX2_topRate ∈ TB := tbm_3 (List.mem_of_getElem? (i := 12) rfl) rfl
theorem tb509 : Cond.code yX2_topRate cX2_topRate 1 (some .int) ∈ TB := tbm_3 (List.mem_of_getElem? (i := 13) rfl) rfl
theorem tb510 : Cond.methodLink RX2 22 yX2_rateOf ∈ TB := tbm_3 (List.mem_of_getElem? (i := 14) rfl) rfl
theorem tb511 : Cond.instanceMethod yX2_rateOf ∈ TB := tbm_3 (List.mem_of_getElem? (i := 15) rfl) rfl
theorem tb512 : Cond.selects RX2 yX2_rateOf yX2_rateOf ∈ TB := tbm_3 (List.mem_of_getElem? (i := 16) rfl) rfl
theorem tb513 : Cond.code yX2_rateOf cX2_rateOf 2 (some .int) ∈ TB := tbm_3 (List.mem_of_getElem? (i := 17) rfl) rfl
theorem tb514 : Cond.methodLink RX9 62 yX2_isFull ∈ TB := tbm_3 (List.mem_of_getElem? (i := 18) rfl) rfl
theorem tb515 : Cond.instanceMethod yX2_isFull ∈ TB := tbm_3 (List.mem_of_getElem? (i := 19) rfl) rfl
theorem tb516 : Cond.selects RX2 yX2_isFull yX2_isFull ∈ TB := tbm_3 (List.mem_of_getElem? (i := 20) rfl) rfl
theorem tb517 : Cond.code yX2_isFull cX2_isFull 1 (some .boolean) ∈ TB := tbm_3 (List.mem_of_getElem? (i := 21) rfl) rfl
theorem tb518 : Cond.methodLink RX9 66 yX9_requireState ∈ TB := tbm_3 (List.mem_of_getElem? (i := 22) rfl) rfl
theorem tb519 : Cond.static yX9_requireState ∈ TB := tbm_3 (List.mem_of_getElem? (i := 23) rfl) rfl
theorem tb520 : Cond.code yX9_requireState cX9_requireState 1 none ∈ TB := tbm_3 (List.mem_of_getElem? (i := 24) rfl) rfl
theorem tb521 : Cond.methodLink RX9 69 yX2_addTop ∈ TB := tbm_3 (List.mem_of_getElem? (i := 26) rfl) rfl
theorem tb522 : Cond.instanceMethod yX2_addTop ∈ TB := tbm_3 (List.mem_of_getElem? (i := 27) rfl) rfl
theorem tb523 : Cond.selects RX2 yX2_addTop yX2_addTop ∈ TB := tbm_3 (List.mem_of_getElem? (i := 28) rfl) rfl
theorem tb524 : Cond.code yX2_addTop cX2_addTop 2 (some .int) ∈ TB := tbm_3 (List.mem_of_getElem? (i := 29) rfl) rfl
theorem tb525 : Cond.methodLink RL 124 yL_addPhase ∈ TB := tbm_3 (List.mem_of_getElem? (i := 30) rfl) rfl
theorem tb526 : Cond.static yL_addPhase ∈ TB := tbm_3 (List.mem_of_getElem? (i := 31) rfl) rfl
theorem tb527 : Cond.codeWith yL_addPhase cL_addPhase 5 (some .int) [(0, 10, 13, 15), (0, 10, 17, 17)] ∈ TB := tbm_3 (List.mem_of_getElem? (i := 32) rfl) rfl
theorem tb528 : Cond.methodLink RL 22 yX9_addPhase ∈ TB := tbm_3 (List.mem_of_getElem? (i := 33) rfl) rfl
theorem tb529 : Cond.instanceMethod yX9_addPhase ∈ TB := tbm_3 (List.mem_of_getElem? (i := 34) rfl) rfl
theorem tb530 : Cond.selects RX9 yX9_addPhase yX9_addPhase ∈ TB := tbm_3 (List.mem_of_getElem? (i := 35) rfl) rfl
theorem tb531 : Cond.code yX9_addPhase cX9_addPhase 3 (some .int) ∈ TB := tbm_3 (List.mem_of_getElem? (i := 36) rfl) rfl
theorem tb532 : Cond.constant RX9 73 100000 ∈ TB := tbm_3 (List.mem_of_getElem? (i := 37) rfl) rfl
theorem tb533 : Cond.methodLink RX9 78 yX4_isFull ∈ TB := tbm_3 (List.mem_of_getElem? (i := 38) rfl) rfl
theorem tb534 : Cond.instanceMethod yX4_isFull ∈ TB := tbm_3 (List.mem_of_getElem? (i := 39) rfl) rfl
theorem tb535 : Cond.selects RX4 yX4_isFull yX4_isFull ∈ TB := tbm_3 (List.mem_of_getElem? (i := 40) rfl) rfl
theorem tb536 : Cond.code yX4_isFull cX4_isFull 1 (some .boolean) ∈ TB := tbm_3 (List.mem_of_getElem? (i := 41) rfl) rfl
theorem tb537 : Cond.methodLink RX9 81 yX4_append ∈ TB := tbm_3 (List.mem_of_getElem? (i := 42) rfl) rfl
theorem tb538 : Cond.instanceMethod yX4_append ∈ TB := tbm_3 (List.mem_of_getElem? (i := 43) rfl) rfl
theorem tb539 : Cond.selects RX4 yX4_append yX4_append ∈ TB := tbm_3 (List.mem_of_getElem? (i := 44) rfl) rfl
theorem tb540 : Cond.code yX4_append cX4_append 3 (some .int) ∈ TB := tbm_3 (List.mem_of_getElem? (i := 45) rfl) rfl
theorem tb541 : Cond.methodLink RL 127 yL_clear ∈ TB := tbm_3 (List.mem_of_getElem? (i := 46) rfl) rfl
theorem tb542 : Cond.static yL_clear ∈ TB := tbm_3 (List.mem_of_getElem? (i := 47) rfl) rfl
theorem tb543 : Cond.codeWith yL_clear cL_clear 3 (some .int) [(0, 8, 11, 17)] ∈ TB := tbm_3 (List.mem_of_getElem? (i := 48) rfl) rfl
theorem tb544 : Cond.methodLink RL 25 yX9_clear ∈ TB := tbm_3 (List.mem_of_getElem? (i := 49) rfl) rfl
theorem tb545 : Cond.instanceMethod yX9_clear ∈ TB := tbm_3 (List.mem_of_getElem? (i := 50) rfl) rfl
theorem tb546 : Cond.selects RX9 yX9_clear yX9_clear ∈ TB := tbm_3 (List.mem_of_getElem? (i := 51) rfl) rfl
theorem tb547 : Cond.code yX9_clear cX9_clear 2 (some .int) ∈ TB := tbm_3 (List.mem_of_getElem? (i := 52) rfl) rfl
theorem tb548 : Cond.methodLink RX9 88 yX8_empty ∈ TB := tbm_3 (List.mem_of_getElem? (i := 53) rfl) rfl
theorem tb549 : Cond.instanceMethod yX8_empty ∈ TB := tbm_3 (List.mem_of_getElem? (i := 54) rfl) rfl
theorem tb550 : Cond.selects RX8 yX8_empty yX8_empty ∈ TB := tbm_3 (List.mem_of_getElem? (i := 55) rfl) rfl
theorem tb551 : Cond.code yX8_empty cX8_empty 1 none ∈ TB := tbm_3 (List.mem_of_getElem? (i := 56) rfl) rfl
theorem tb552 : Cond.methodLink RX8 56 yX4_empty ∈ TB := tbm_3 (List.mem_of_getElem? (i := 57) rfl) rfl
theorem tb553 : Cond.instanceMethod yX4_empty ∈ TB := tbm_3 (List.mem_of_getElem? (i := 58) rfl) rfl
theorem tb554 : Cond.selects RX4 yX4_empty yX4_empty ∈ TB := tbm_3 (List.mem_of_getElem? (i := 59) rfl) rfl
theorem tb555 : Cond.code yX4_empty cX4_empty 1 none ∈ TB := tbm_3 (List.mem_of_getElem? (i := 60) rfl) rfl
theorem tb556 : Cond.methodLink RL 131 yL_bandwidth ∈ TB := tbm_3 (List.mem_of_getElem? (i := 61) rfl) rfl
theorem tb557 : Cond.static yL_bandwidth ∈ TB := tbm_3 (List.mem_of_getElem? (i := 62) rfl) rfl
theorem tb558 : Cond.codeWith yL_bandwidth cL_bandwidth 4 (some .int) [(0, 9, 12, 15)] ∈ TB := tbm_3 (List.mem_of_getElem? (i := 63) rfl) rfl
theorem tb559 : Cond.methodLink RL 29 yX9_bandwidth ∈ TB := tbm_3 (List.mem_of_getElem? (i := 64) rfl) rfl
theorem tb560 : Cond.instanceMethod yX9_bandwidth ∈ TB := tbm_3 (List.mem_of_getElem? (i := 65) rfl) rfl
theorem tb561 : Cond.selects RX9 yX9_bandwidth yX9_bandwidth ∈ TB := tbm_3 (List.mem_of_getElem? (i := 66) rfl) rfl
theorem tb562 : Cond.code yX9_bandwidth cX9_bandwidth 2 (some .int) ∈ TB := tbm_3 (List.mem_of_getElem? (i := 67) rfl) rfl
theorem tb563 : Cond.methodLink RX9 91 yX4_rateAt ∈ TB := tbm_3 (List.mem_of_getElem? (i := 68) rfl) rfl
theorem tb564 : Cond.instanceMethod yX4_rateAt ∈ TB := tbm_3 (List.mem_of_getElem? (i := 69) rfl) rfl
theorem tb565 : Cond.selects RX4 yX4_rateAt yX4_rateAt ∈ TB := tbm_3 (List.mem_of_getElem? (i := 70) rfl) rfl
theorem tb566 : Cond.code yX4_rateAt cX4_rateAt 4 (some .int) ∈ TB := tbm_3 (List.mem_of_getElem? (i := 71) rfl) rfl
theorem tb567 : Cond.methodLink RL 135 yL_size ∈ TB := tbm_3 (List.mem_of_getElem? (i := 72) rfl) rfl
theorem tb568 : Cond.static yL_size ∈ TB := tbm_3 (List.mem_of_getElem? (i := 73) rfl) rfl
theorem tb569 : Cond.codeWith yL_size cL_size 6 (some .int) [(0, 11, 14, 13)] ∈ TB := tbm_3 (List.mem_of_getElem? (i := 74) rfl) rfl
theorem tb570 : Cond.methodLink RL 33 yX9_size ∈ TB := tbm_3 (List.mem_of_getElem? (i := 75) rfl) rfl
theorem tb571 : Cond.instanceMethod yX9_size ∈ TB := tbm_3 (List.mem_of_getElem? (i := 76) rfl) rfl
theorem tb572 : Cond.selects RX9 yX9_size yX9_size ∈ TB := tbm_3 (List.mem_of_getElem? (i := 77) rfl) rfl
theorem tb573 : Cond.code yX9_size cX9_size 4 (some .long) ∈ TB := tbm_3 (List.mem_of_getElem? (i := 78) rfl) rfl
theorem tb574 : Cond.methodLink RX9 97 yX8_valueOf ∈ TB := tbm_3 (List.mem_of_getElem? (i := 79) rfl) rfl
theorem tb575 : Cond.methodLink RX9 100 yX8_bitsOf ∈ TB := tbm_3 (List.mem_of_getElem? (i := 80) rfl) rfl
theorem tb576 : Cond.instanceMethod yX8_bitsOf ∈ TB := tbm_3 (List.mem_of_getElem? (i := 81) rfl) rfl
theorem tb577 : Cond.selects RX8 yX8_bitsOf yX8_bitsOf ∈ TB := tbm_3 (List.mem_of_getElem? (i := 82) rfl) rfl
theorem tb578 : Cond.code yX8_bitsOf cX8_bitsOf 8 (some .long) ∈ TB := tbm_3 (List.mem_of_getElem? (i := 83) rfl) rfl
theorem tb579 : Cond.methodLink RX8 62 yX8_ladderOf ∈ TB := tbm_3 (List.mem_of_getElem? (i := 84) rfl) rfl
theorem tb580 : Cond.methodLink RX8 66 yX2_rateOf ∈ TB := tbm_3 (List.mem_of_getElem? (i := 85) rfl) rfl
theorem tb581 : Cond.constantLong RX8 69 100 ∈ TB := tbm_3 (List.mem_of_getElem? (i := 86) rfl) rfl
theorem tb582 : Cond.methodLink RX8 71 ⟨"java/lang/Math", "max", "(JJ)J"⟩ ∈ TB := tbm_3 (List.mem_of_getElem? (i := 87) rfl) rfl
theorem tb583 : Cond.static ⟨"java/lang/Math", "max", "(JJ)J"⟩ ∈ TB := tbm_3 (List.mem_of_getElem? (i := 88) rfl) rfl
theorem tb584 : Cond.code ⟨"java/lang/Math", "max", "(JJ)J"⟩ prog_18_method_66_code 4 (some .long) ∈ TB := tbm_3 (List.mem_of_getElem? (i := 89) rfl) rfl
theorem tb585 : Cond.methodLink RL 139 yL_start ∈ TB := tbm_3 (List.mem_of_getElem? (i := 90) rfl) rfl
theorem tb586 : Cond.static yL_start ∈ TB := tbm_3 (List.mem_of_getElem? (i := 91) rfl) rfl
theorem tb587 : Cond.codeWith yL_start cL_start 3 (some .int) [(0, 8, 11, 17)] ∈ TB := tbm_3 (List.mem_of_getElem? (i := 92) rfl) rfl
theorem tb588 : Cond.methodLink RL 37 yX9_start ∈ TB := tbm_3 (List.mem_of_getElem? (i := 93) rfl) rfl
theorem tb589 : Cond.instanceMethod yX9_start ∈ TB := tbm_3 (List.mem_of_getElem? (i := 94) rfl) rfl
theorem tb590 : Cond.selects RX9 yX9_start yX9_start ∈ TB := tbm_3 (List.mem_of_getElem? (i := 95) rfl) rfl
theorem tb591 : Cond.code yX9_start cX9_start 1 (some .int) ∈ TB := tbm_3 (List.mem_of_getElem? (i := 96) rfl) rfl
theorem tb592 : Cond.methodLink RX9 104 yX8_isPlayable ∈ TB := tbm_3 (List.mem_of_getElem? (i := 97) rfl) rfl
theorem tb593 : Cond.instanceMethod yX8_isPlayable ∈ TB := tbm_3 (List.mem_of_getElem? (i := 98) rfl) rfl
theorem tb594 : Cond.selects RX8 yX8_isPlayable yX8_isPlayable ∈ TB := tbm_3 (List.mem_of_getElem? (i := 99) rfl) rfl
theorem tb595 : Cond.code yX8_isPlayable cX8_isPlayable 1 (some .boolean) ∈ TB := tbm_3 (List.mem_of_getElem? (i := 100) rfl) rfl
theorem tb596 : Cond.methodLink RX9 107 yX6_begin ∈ TB := tbm_3 (List.mem_of_getElem? (i := 101) rfl) rfl
theorem tb597 : Cond.instanceMethod yX6_begin ∈ TB := tbm_3 (List.mem_of_getElem? (i := 102) rfl) rfl
theorem tb598 : Cond.selects RX6 yX6_begin yX6_begin ∈ TB := tbm_3 (List.mem_of_getElem? (i := 103) rfl) rfl
theorem tb599 : Cond.code yX6_begin cX6_begin 3 none ∈ TB := tbm_3 (List.mem_of_getElem? (i := 104) rfl) rfl
theorem tb600 : Cond.methodLink RX6 63 yX7_empty ∈ TB := tbm_3 (List.mem_of_getElem? (i := 105) rfl) rfl
theorem tb601 : Cond.instanceMethod yX7_empty ∈ TB := tbm_3 (List.mem_of_getElem? (i := 106) rfl) rfl
theorem tb602 : Cond.selects RX7 yX7_empty yX7_empty ∈ TB := tbm_3 (List.mem_of_getElem? (i := 107) rfl) rfl
theorem tb603 : Cond.code yX7_empty cX7_empty 1 none ∈ TB := tbm_3 (List.mem_of_getElem? (i := 108) rfl) rfl
theorem tb604 : Cond.methodLink RX6 66 yX5_empty ∈ TB := tbm_3 (List.mem_of_getElem? (i := 109) rfl) rfl
theorem tb605 : Cond.instanceMethod yX5_empty ∈ TB := tbm_3 (List.mem_of_getElem? (i := 110) rfl) rfl
theorem tb606 : Cond.selects RX5 yX5_empty yX5_empty ∈ TB := tbm_3 (List.mem_of_getElem? (i := 111) rfl) rfl
theorem tb607 : Cond.code yX5_empty cX5_empty 1 none ∈ TB := tbm_3 (List.mem_of_getElem? (i := 112) rfl) rfl
theorem tb608 : Cond.methodLink RX6 67 yX0_empty ∈ TB := tbm_3 (List.mem_of_getElem? (i := 113) rfl) rfl
theorem tb609 : Cond.instanceMethod yX0_empty ∈ TB := tbm_3 (List.mem_of_getElem? (i := 114) rfl) rfl
theorem tb610 : Cond.selects RX0 yX0_empty yX0_empty ∈ TB := tbm_3 (List.mem_of_getElem? (i := 115) rfl) rfl
theorem tb611 : Cond.code yX0_empty cX0_empty 1 none ∈ TB := tbm_3 (List.mem_of_getElem? (i := 116) rfl) rfl
theorem tb612 : Cond.methodLink RX6 68 yX3_empty ∈ TB := tbm_3 (List.mem_of_getElem? (i := 117) rfl) rfl
theorem tb613 : Cond.instanceMethod yX3_empty ∈ TB := tbm_3 (List.mem_of_getElem? (i := 118) rfl) rfl
theorem tb614 : Cond.selects RX3 yX3_empty yX3_empty ∈ TB := tbm_3 (List.mem_of_getElem? (i := 119) rfl) rfl
theorem tb615 : Cond.code yX3_empty cX3_empty 1 none ∈ TB := tbm_3 (List.mem_of_getElem? (i := 120) rfl) rfl
theorem tb616 : Cond.methodLink RL 142 yL_stop ∈ TB := tbm_3 (List.mem_of_getElem? (i := 121) rfl) rfl
theorem tb617 : Cond.static yL_stop ∈ TB := tbm_3 (List.mem_of_getElem? (i := 122) rfl) rfl
theorem tb618 : Cond.codeWith yL_stop cL_stop 3 (some .int) [(0, 8, 11, 17)] ∈ TB := tbm_3 (List.mem_of_getElem? (i := 123) rfl) rfl
theorem tb619 : Cond.methodLink RL 40 yX9_stop ∈ TB := tbm_3 (List.mem_of_getElem? (i := 124) rfl) rfl
theorem tb620 : Cond.instanceMethod yX9_stop ∈ TB := tbm_3 (List.mem_of_getElem? (i := 125) rfl) rfl
theorem tb621 : Cond.selects RX9 yX9_stop yX9_stop ∈ TB := tbm_3 (List.mem_of_getElem? (i := 126) rfl) rfl
theorem tb622 : Cond.code yX9_stop cX9_stop 1 (some .int) ∈ TB := tbm_3 (List.mem_of_getElem? (i := 127) rfl) rfl
theorem tb623 : Cond.methodLink RX9 110 yX9_requireSession ∈ TB := tbm_3 (List.mem_of_getElem? (i := 128) rfl) rfl
theorem tb624 : Cond.instanceMethod yX9_requireSession ∈ TB := tbm_3 (List.mem_of_getElem? (i := 130) rfl) rfl
theorem tb625 : Cond.code yX9_requireSession cX9_requireSession 1 none ∈ TB := tbm_3 (List.mem_of_getElem? (i := 131) rfl) rfl
theorem tb626 : Cond.methodLink RL 145 yL_run ∈ TB := tbm_3 (List.mem_of_getElem? (i := 133) rfl) rfl
theorem tb627 : Cond.static yL_run ∈ TB := tbm_3 (List.mem_of_getElem? (i := 134) rfl) rfl
theorem tb628 : Cond.codeWith yL_run cL_run 4 (some .int) [(0, 9, 12, 15), (0, 9, 15, 17)] ∈ TB := tbm_3 (List.mem_of_getElem? (i := 135) rfl) rfl
theorem tb629 : Cond.methodLink RL 43 yX9_run ∈ TB := tbm_3 (List.mem_of_getElem? (i := 136) rfl) rfl
theorem tb630 : Cond.instanceMethod yX9_run ∈ TB := tbm_3 (List.mem_of_getElem? (i := 137) rfl) rfl
theorem tb631 : Cond.selects RX9 yX9_run yX9_run ∈ TB := tbm_3 (List.mem_of_getElem? (i := 138) rfl) rfl
theorem tb632 : Cond.code yX9_run cX9_run 2 (some .int) ∈ TB := tbm_3 (List.mem_of_getElem? (i := 139) rfl) rfl
theorem tb633 : Cond.methodLink RX9 119 yX9_requireMilliseconds ∈ TB := tbm_3 (List.mem_of_getElem? (i := 140) rfl) rfl
theorem tb634 : Cond.static yX9_requireMilliseconds ∈ TB := tbm_3 (List.mem_of_getElem? (i := 141) rfl) rfl
theorem tb635 : Cond.code yX9_requireMilliseconds cX9_requireMilliseconds 1 none ∈ TB := tbm_3 (List.mem_of_getElem? (i := 142) rfl) rfl
theorem tb636 : Cond.constant RX9 123 10000000 ∈ TB := tbm_3 (List.mem_of_getElem? (i := 143) rfl) rfl
theorem tb637 : Cond.methodLink RX9 124 yX6_advance ∈ TB := tbm_3 (List.mem_of_getElem? (i := 144) rfl) rfl
theorem tb638 : Cond.instanceMethod yX6_advance ∈ TB := tbm_3 (List.mem_of_getElem? (i := 145) rfl) rfl
theorem tb639 : Cond.selects RX6 yX6_advance yX6_advance ∈ TB := tbm_3 (List.mem_of_getElem? (i := 146) rfl) rfl
theorem tb640 : Cond.code yX6_advance cX6_advance 3 none ∈ TB := tbm_3 (List.mem_of_getElem? (i := 147) rfl) rfl
theorem tb641 : Cond.methodLink RX6 101 yX6_signNow ∈ TB := tbm_3 (List.mem_of_getElem? (i := 148) rfl) rfl
theorem tb642 : Cond.instanceMethod yX6_signNow ∈ TB := tbm_3 (List.mem_of_getElem? (i := 150) rfl) rfl
theorem tb643 : Cond.code yX6_signNow cX6_signNow 1 (some .char) ∈ TB := tbm_3 (List.mem_of_getElem? (i := 151) rfl) rfl
theorem tb644 : Cond.methodLink RX6 132 yX8_segmentAt ∈ TB := tbm_3 (List.mem_of_getElem? (i := 152) rfl) rfl
theorem tb645 : Cond.instanceMethod yX8_segmentAt ∈ TB := tbm_3 (List.mem_of_getElem? (i := 153) rfl) rfl
theorem tb646 : Cond.selects RX8 yX8_segmentAt yX8_segmentAt ∈ TB := tbm_3 (List.mem_of_getElem? (i := 154) rfl) rfl
theorem tb647 : Cond.code yX8_segmentAt cX8_segmentAt 3 (some .int) ∈ TB := tbm_3 (List.mem_of_getElem? (i := 155) rfl) rfl
theorem tb648 : Cond.methodLink RX6 138 yX7_rungAt ∈ TB := tbm_3 (List.mem_of_getElem? (i := 156) rfl) rfl
theorem tb649 : Cond.instanceMethod yX7_rungAt ∈ TB := tbm_3 (List.mem_of_getElem? (i := 157) rfl) rfl
theorem tb650 : Cond.selects RX7 yX7_rungAt yX7_rungAt ∈ TB := tbm_3 (List.mem_of_getElem? (i := 158) rfl) rfl
theorem tb651 : Cond.code yX7_rungAt cX7_rungAt 3 (some .int) ∈ TB := tbm_3 (List.mem_of_getElem? (i := 159) rfl) rfl
theorem tb652 : Cond.methodLink RX6 105 yX3_put ∈ TB := tbm_3 (List.mem_of_getElem? (i := 160) rfl) rfl
theorem tb653 : Cond.instanceMethod yX3_put ∈ TB := tbm_3 (List.mem_of_getElem? (i := 161) rfl) rfl
theorem tb654 : Cond.selects RX3 yX3_put yX3_put ∈ TB := tbm_3 (List.mem_of_getElem? (i := 162) rfl) rfl
theorem tb655 : Cond.code yX3_put cX3_put 2 none ∈ TB := tbm_3 (List.mem_of_getElem? (i := 163) rfl) rfl
theorem tb656 : Cond.methodLink RX6 109 yX6_beginNext ∈ TB := tbm_3 (List.mem_of_getElem? (i := 164) rfl) rfl
theorem tb657 : Cond.instanceMethod yX6_beginNext ∈ TB := tbm_3 (List.mem_of_getElem? (i := 166) rfl) rfl
theorem tb658 : Cond.code yX6_beginNext cX6_beginNext 3 none ∈ TB := tbm_3 (List.mem_of_getElem? (i := 167) rfl) rfl
theorem tb659 : Cond.methodLink RX6 141 yX6_hasNext ∈ TB := tbm_3 (List.mem_of_getElem? (i := 168) rfl) rfl
theorem tb660 : Cond.instanceMethod yX6_hasNext ∈ TB := tbm_3 (List.mem_of_getElem? (i := 170) rfl) rfl
theorem tb661 : Cond.code yX6_hasNext cX6_hasNext 3 (some .boolean) ∈ TB := tbm_3 (List.mem_of_getElem? (i := 171) rfl) rfl
theorem tb662 : Cond.methodLink RX6 179 yX8_isAvailable ∈ TB := tbm_3 (List.mem_of_getElem? (i := 172) rfl) rfl
theorem tb663 : Cond.instanceMethod yX8_isAvailable ∈ TB := tbm_3 (List.mem_of_getElem? (i := 173) rfl) rfl
theorem tb664 : Cond.selects RX8 yX8_isAvailable yX8_isAvailable ∈ TB := tbm_3 (List.mem_of_getElem? (i := 174) rfl) rfl
theorem tb665 : Cond.code yX8_isAvailable cX8_isAvailable 4 (some .boolean) ∈ TB := tbm_3 (List.mem_of_getElem? (i := 175) rfl) rfl
theorem tb666 : Cond.methodLink RX6 183 yX6_bufferOf ∈ TB := tbm_3 (List.mem_of_getElem? (i := 176) rfl) rfl
theorem tb667 : Cond.methodLink RX6 148 yX6_videoRung ∈ TB := tbm_3 (List.mem_of_getElem? (i := 177) rfl) rfl
theorem tb668 : Cond.instanceMethod yX6_videoRung ∈ TB := tbm_3 (List.mem_of_getElem? (i := 178) rfl) rfl
theorem tb669 : Cond.selects RX6 yX6_videoRung yX6_videoRung ∈ TB := tbm_3 (List.mem_of_getElem? (i := 179) rfl) rfl
theorem tb670 : Cond.code yX6_videoRung cX6_videoRung 3 (some .int) ∈ TB := tbm_3 (List.mem_of_getElem? (i := 180) rfl) rfl
theorem tb671 : Cond.methodLink RX6 159 yX6_rungByThroughput ∈ TB := tbm_3 (List.mem_of_getElem? (i := 181) rfl) rfl
theorem tb672 : Cond.instanceMethod yX6_rungByThroughput ∈ TB := tbm_3 (List.mem_of_getElem? (i := 183) rfl) rfl
theorem tb673 : Cond.code yX6_rungByThroughput cX6_rungByThroughput 7 (some .int) ∈ TB := tbm_3 (List.mem_of_getElem? (i := 184) rfl) rfl
theorem tb674 : Cond.methodLink RX6 268 yX2_rateOf ∈ TB := tbm_3 (List.mem_of_getElem? (i := 185) rfl) rfl
theorem tb675 : Cond.methodLink RX6 292 yX6_rungByBuffer ∈ TB := tbm_3 (List.mem_of_getElem? (i := 186) rfl) rfl
theorem tb676 : Cond.instanceMethod yX6_rungByBuffer ∈ TB := tbm_3 (List.mem_of_getElem? (i := 188) rfl) rfl
theorem tb677 : Cond.code yX6_rungByBuffer cX6_rungByBuffer 5 (some .int) ∈ TB := tbm_3 (List.mem_of_getElem? (i := 189) rfl) rfl
theorem tb678 : Cond.methodLink RX6 283 ⟨"java/lang/Math", "min", "(II)I"⟩ ∈ TB := tbm_3 (List.mem_of_getElem? (i := 190) rfl) rfl
theorem tb679 : Cond.static ⟨"java/lang/Math", "min", "(II)I"⟩ ∈ TB := tbm_3 (List.mem_of_getElem? (i := 191) rfl) rfl
theorem tb680 : Cond.code ⟨"java/lang/Math", "min", "(II)I"⟩ prog_18_method_69_code 2 (some .int) ∈ TB := tbm_3 (List.mem_of_getElem? (i := 192) rfl) rfl
theorem tb681 : Cond.methodLink RX6 152 yX6_beginDownload ∈ TB := tbm_3 (List.mem_of_getElem? (i := 193) rfl) rfl
theorem tb682 : Cond.instanceMethod yX6_beginDownload ∈ TB := tbm_3 (List.mem_of_getElem? (i := 195) rfl) rfl
theorem tb683 : Cond.code yX6_beginDownload cX6_beginDownload 4 none ∈ TB := tbm_3 (List.mem_of_getElem? (i := 196) rfl) rfl
theorem tb684 : Cond.methodLink RX6 201 yX8_bitsOf ∈ TB := tbm_3 (List.mem_of_getElem? (i := 197) rfl) rfl
theorem tb685 : Cond.methodLink RX6 112 yX6_receive ∈ TB := tbm_3 (List.mem_of_getElem? (i := 198) rfl) rfl
theorem tb686 : Cond.instanceMethod yX6_receive ∈ TB := tbm_3 (List.mem_of_getElem? (i := 200) rfl) rfl
theorem tb687 : Cond.code yX6_receive cX6_receive 1 none ∈ TB := tbm_3 (List.mem_of_getElem? (i := 201) rfl) rfl
theorem tb688 : Cond.methodLink RX6 216 yX4_rateAt ∈ TB := tbm_3 (List.mem_of_getElem? (i := 202) rfl) rfl
theorem tb689 : Cond.methodLink RX6 221 yX1_receiveAt ∈ TB := tbm_3 (List.mem_of_getElem? (i := 203) rfl) rfl
theorem tb690 : Cond.instanceMethod yX1_receiveAt ∈ TB := tbm_3 (List.mem_of_getElem? (i := 204) rfl) rfl
theorem tb691 : Cond.selects RX1 yX1_receiveAt yX1_receiveAt ∈ TB := tbm_3 (List.mem_of_getElem? (i := 205) rfl) rfl
theorem tb692 : Cond.code yX1_receiveAt cX1_receiveAt 2 none ∈ TB := tbm_3 (List.mem_of_getElem? (i := 206) rfl) rfl
theorem tb693 : Cond.methodLink RX1 38 ⟨"java/lang/Math", "min", "(JJ)J"⟩ ∈ TB := tbm_3 (List.mem_of_getElem? (i := 207) rfl) rfl
theorem tb694 : Cond.static ⟨"java/lang/Math", "min", "(JJ)J"⟩ ∈ TB := tbm_3 (List.mem_of_getElem? (i := 208) rfl) rfl
theorem tb695 : Cond.code ⟨"java/lang/Math", "min", "(JJ)J"⟩ prog_18_method_70_code 4 (some .long) ∈ TB := tbm_3 (List.mem_of_getElem? (i := 209) rfl) rfl
theorem tb696 : Cond.methodLink RX6 224 yX1_isWhole ∈ TB := tbm_3 (List.mem_of_getElem? (i := 210) rfl) rfl
theorem tb697 : Cond.instanceMethod yX1_isWhole ∈ TB := tbm_3 (List.mem_of_getElem? (i := 211) rfl) rfl
theorem tb698 : Cond.selects RX1 yX1_isWhole yX1_isWhole ∈ TB := tbm_3 (List.mem_of_getElem? (i := 212) rfl) rfl
theorem tb699 : Cond.code yX1_isWhole cX1_isWhole 1 (some .boolean) ∈ TB := tbm_3 (List.mem_of_getElem? (i := 213) rfl) rfl
theorem tb700 : Cond.methodLink RX6 227 yX5_put ∈ TB := tbm_3 (List.mem_of_getElem? (i := 214) rfl) rfl
theorem tb701 : Cond.instanceMethod yX5_put ∈ TB := tbm_3 (List.mem_of_getElem? (i := 215) rfl) rfl
theorem tb702 : Cond.selects RX5 yX5_put yX5_put ∈ TB := tbm_3 (List.mem_of_getElem? (i := 216) rfl) rfl
theorem tb703 : Cond.code yX5_put cX5_put 5 none ∈ TB := tbm_3 (List.mem_of_getElem? (i := 217) rfl) rfl
theorem tb704 : Cond.methodLink RX5 22 ⟨"java/lang/System", "arraycopy", "(Ljava/lang/Object;ILjava/lang/Object;II)V"⟩ ∈ TB := tbm_3 (List.mem_of_getElem? (i := 218) rfl) rfl
theorem tb705 : Cond.static ⟨"java/lang/System", "arraycopy", "(Ljava/lang/Object;ILjava/lang/Object;II)V"⟩ ∈ TB := tbm_3 (List.mem_of_getElem? (i := 219) rfl) rfl
theorem tb706 : Cond.native ⟨"java/lang/System", "arraycopy", "(Ljava/lang/Object;ILjava/lang/Object;II)V"⟩ ∈ TB := tbm_3 (List.mem_of_getElem? (i := 220) rfl) rfl
theorem tb707 : Cond.methodLink RX5 28 ⟨"java/lang/Math", "min", "(II)I"⟩ ∈ TB := tbm_3 (List.mem_of_getElem? (i := 221) rfl) rfl
theorem tb708 : Cond.methodLink RX6 233 yX7_put ∈ TB := tbm_3 (List.mem_of_getElem? (i := 222) rfl) rfl
theorem tb709 : Cond.instanceMethod yX7_put ∈ TB := tbm_3 (List.mem_of_getElem? (i := 223) rfl) rfl
theorem tb710 : Cond.selects RX7 yX7_put yX7_put ∈ TB := tbm_3 (List.mem_of_getElem? (i := 224) rfl) rfl
theorem tb711 : Cond.code yX7_put cX7_put 2 none ∈ TB := tbm_3 (List.mem_of_getElem? (i := 225) rfl) rfl
theorem tb712 : Cond.methodLink RX6 235 yX7_endsInSwitch ∈ TB := tbm_3 (List.mem_of_getElem? (i := 226) rfl) rfl
theorem tb713 : Cond.instanceMethod yX7_endsInSwitch ∈ TB := tbm_3 (List.mem_of_getElem? (i := 227) rfl) rfl
theorem tb714 : Cond.selects RX7 yX7_endsInSwitch yX7_endsInSwitch ∈ TB := tbm_3 (List.mem_of_getElem? (i := 228) rfl) rfl
theorem tb715 : Cond.code yX7_endsInSwitch cX7_endsInSwitch 1 (some .boolean) ∈ TB := tbm_3 (List.mem_of_getElem? (i := 229) rfl) rfl
theorem tb716 : Cond.methodLink RX7 25 yX7_rungAt ∈ TB := tbm_3 (List.mem_of_getElem? (i := 230) rfl) rfl
theorem tb717 : Cond.methodLink RX6 115 yX6_mayBeAbandoned ∈ TB := tbm_3 (List.mem_of_getElem? (i := 231) rfl) rfl
theorem tb718 : Cond.instanceMethod yX6_mayBeAbandoned ∈ TB := tbm_3 (List.mem_of_getElem? (i := 233) rfl) rfl
theorem tb719 : Cond.code yX6_mayBeAbandoned cX6_mayBeAbandoned 1 (some .boolean) ∈ TB := tbm_3 (List.mem_of_getElem? (i := 234) rfl) rfl
theorem tb720 : Cond.methodLink RX6 119 yX6_abandonIfSlow ∈ TB := tbm_3 (List.mem_of_getElem? (i := 235) rfl) rfl
theorem tb721 : Cond.instanceMethod yX6_abandonIfSlow ∈ TB := tbm_3 (List.mem_of_getElem? (i := 237) rfl) rfl
theorem tb722 : Cond.code yX6_abandonIfSlow cX6_abandonIfSlow 6 none ∈ TB := tbm_3 (List.mem_of_getElem? (i := 238) rfl) rfl
theorem tb723 : Cond.methodLink RX6 241 yX1_timeFor ∈ TB := tbm_3 (List.mem_of_getElem? (i := 239) rfl) rfl
theorem tb724 : Cond.instanceMethod yX1_timeFor ∈ TB := tbm_4 (List.mem_of_getElem? (i := 0) rfl) rfl
theorem tb725 : Cond.selects RX1 yX1_timeFor yX1_timeFor ∈ TB := tbm_4 (List.mem_of_getElem? (i := 1) rfl) rfl
theorem tb726 : Cond.code yX1_timeFor cX1_timeFor 3 (some .long) ∈ TB := tbm_4 (List.mem_of_getElem? (i := 2) rfl) rfl
theorem tb727 : Cond.methodLink RX6 122 yX6_isReadyToPlay ∈ TB := tbm_4 (List.mem_of_getElem? (i := 3) rfl) rfl
theorem tb728 : Cond.instanceMethod yX6_isReadyToPlay ∈ TB := tbm_4 (List.mem_of_getElem? (i := 5) rfl) rfl
theorem tb729 : Cond.code yX6_isReadyToPlay cX6_isReadyToPlay 1 (some .boolean) ∈ TB := tbm_4 (List.mem_of_getElem? (i := 6) rfl) rfl
theorem tb730 : Cond.methodLink RX6 251 yX6_smallestBuffer ∈ TB := tbm_4 (List.mem_of_getElem? (i := 7) rfl) rfl
theorem tb731 : Cond.instanceMethod yX6_smallestBuffer ∈ TB := tbm_4 (List.mem_of_getElem? (i := 9) rfl) rfl
theorem tb732 : Cond.code yX6_smallestBuffer cX6_smallestBuffer 2 (some .int) ∈ TB := tbm_4 (List.mem_of_getElem? (i := 10) rfl) rfl
theorem tb733 : Cond.methodLink RX6 257 yX8_hasAudio ∈ TB := tbm_4 (List.mem_of_getElem? (i := 11) rfl) rfl
theorem tb734 : Cond.instanceMethod yX8_hasAudio ∈ TB := tbm_4 (List.mem_of_getElem? (i := 12) rfl) rfl
theorem tb735 : Cond.selects RX8 yX8_hasAudio yX8_hasAudio ∈ TB := tbm_4 (List.mem_of_getElem? (i := 13) rfl) rfl
theorem tb736 : Cond.code yX8_hasAudio cX8_hasAudio 1 (some .boolean) ∈ TB := tbm_4 (List.mem_of_getElem? (i := 14) rfl) rfl
theorem tb737 : Cond.methodLink RX6 254 yX6_isAllDownloaded ∈ TB := tbm_4 (List.mem_of_getElem? (i := 15) rfl) rfl
theorem tb738 : Cond.instanceMethod yX6_isAllDownloaded ∈ TB := tbm_4 (List.mem_of_getElem? (i := 17) rfl) rfl
theorem tb739 : Cond.code yX6_isAllDownloaded cX6_isAllDownloaded 2 (some .boolean) ∈ TB := tbm_4 (List.mem_of_getElem? (i := 18) rfl) rfl
theorem tb740 : Cond.methodLink RX6 125 yX6_play ∈ TB := tbm_4 (List.mem_of_getElem? (i := 19) rfl) rfl
theorem tb741 : Cond.instanceMethod yX6_play ∈ TB := tbm_4 (List.mem_of_getElem? (i := 21) rfl) rfl
theorem tb742 : Cond.code yX6_play cX6_play 3 none ∈ TB := tbm_4 (List.mem_of_getElem? (i := 22) rfl) rfl
theorem tb743 : Cond.methodLink RX6 260 yX6_leavePlaying ∈ TB := tbm_4 (List.mem_of_getElem? (i := 23) rfl) rfl
theorem tb744 : Cond.instanceMethod yX6_leavePlaying ∈ TB := tbm_4 (List.mem_of_getElem? (i := 25) rfl) rfl
theorem tb745 : Cond.code yX6_leavePlaying cX6_leavePlaying 1 none ∈ TB := tbm_4 (List.mem_of_getElem? (i := 26) rfl) rfl
theorem tb746 : Cond.methodLink RX6 271 yX6_isCatchingUp ∈ TB := tbm_4 (List.mem_of_getElem? (i := 27) rfl) rfl
theorem tb747 : Cond.instanceMethod yX6_isCatchingUp ∈ TB := tbm_4 (List.mem_of_getElem? (i := 29) rfl) rfl
theorem tb748 : Cond.code yX6_isCatchingUp cX6_isCatchingUp 2 (some .boolean) ∈ TB := tbm_4 (List.mem_of_getElem? (i := 30) rfl) rfl
theorem tb749 : Cond.methodLink RX6 277 yX8_isLive ∈ TB := tbm_4 (List.mem_of_getElem? (i := 31) rfl) rfl
theorem tb750 : Cond.instanceMethod yX8_isLive ∈ TB := tbm_4 (List.mem_of_getElem? (i := 32) rfl) rfl
theorem tb751 : Cond.selects RX8 yX8_isLive yX8_isLive ∈ TB := tbm_4 (List.mem_of_getElem? (i := 33) rfl) rfl
theorem tb752 : Cond.code yX8_isLive cX8_isLive 1 (some .boolean) ∈ TB := tbm_4 (List.mem_of_getElem? (i := 34) rfl) rfl
theorem tb753 : Cond.methodLink RX6 280 yX6_behindLive ∈ TB := tbm_4 (List.mem_of_getElem? (i := 35) rfl) rfl
theorem tb754 : Cond.instanceMethod yX6_behindLive ∈ TB := tbm_4 (List.mem_of_getElem? (i := 36) rfl) rfl
theorem tb755 : Cond.selects RX6 yX6_behindLive yX6_behindLive ∈ TB := tbm_4 (List.mem_of_getElem? (i := 37) rfl) rfl
theorem tb756 : Cond.code yX6_behindLive cX6_behindLive 1 (some .int) ∈ TB := tbm_4 (List.mem_of_getElem? (i := 38) rfl) rfl
theorem tb757 : Cond.methodLink RX6 128 yX0_spendIn ∈ TB := tbm_4 (List.mem_of_getElem? (i := 39) rfl) rfl
theorem tb758 : Cond.instanceMethod yX0_spendIn ∈ TB := tbm_4 (List.mem_of_getElem? (i := 40) rfl) rfl
theorem tb759 : Cond.selects RX0 yX0_spendIn yX0_spendIn ∈ TB := tbm_4 (List.mem_of_getElem? (i := 41) rfl) rfl
theorem tb760 : Cond.code yX0_spendIn cX0_spendIn 2 none ∈ TB := tbm_4 (List.mem_of_getElem? (i := 42) rfl) rfl
theorem tb761 : Cond.methodLink RL 152 yL_time ∈ TB := tbm_4 (List.mem_of_getElem? (i := 43) rfl) rfl
theorem tb762 : Cond.static yL_time ∈ TB := tbm_4 (List.mem_of_getElem? (i := 44) rfl) rfl
theorem tb763 : Cond.codeWith yL_time cL_time 3 (some .int) [(0, 8, 11, 17)] ∈ TB := tbm_4 (List.mem_of_getElem? (i := 45) rfl) rfl
theorem tb764 : Cond.methodLink RL 46 yX9_time ∈ TB := tbm_4 (List.mem_of_getElem? (i := 46) rfl) rfl
theorem tb765 : Cond.instanceMethod yX9_time ∈ TB := tbm_4 (List.mem_of_getElem? (i := 47) rfl) rfl
theorem tb766 : Cond.selects RX9 yX9_time yX9_time ∈ TB := tbm_4 (List.mem_of_getElem? (i := 48) rfl) rfl
theorem tb767 : Cond.code yX9_time cX9_time 1 (some .int) ∈ TB := tbm_4 (List.mem_of_getElem? (i := 49) rfl) rfl
theorem tb768 : Cond.methodLink RL 155 yL_position ∈ TB := tbm_4 (List.mem_of_getElem? (i := 50) rfl) rfl
theorem tb769 : Cond.static yL_position ∈ TB := tbm_4 (List.mem_of_getElem? (i := 51) rfl) rfl
theorem tb770 : Cond.codeWith yL_position cL_position 3 (some .int) [(0, 8, 11, 17)] ∈ TB := tbm_4 (List.mem_of_getElem? (i := 52) rfl) rfl
theorem tb771 : Cond.methodLink RL 49 yX9_position ∈ TB := tbm_4 (List.mem_of_getElem? (i := 53) rfl) rfl
theorem tb772 : Cond.instanceMethod yX9_position ∈ TB := tbm_4 (List.mem_of_getElem? (i := 54) rfl) rfl
theorem tb773 : Cond.selects RX9 yX9_position yX9_position ∈ TB := tbm_4 (List.mem_of_getElem? (i := 55) rfl) rfl
theorem tb774 : Cond.code yX9_position cX9_position 1 (some .int) ∈ TB := tbm_4 (List.mem_of_getElem? (i := 56) rfl) rfl
theorem tb775 : Cond.methodLink RL 158 yL_buffer ∈ TB := tbm_4 (List.mem_of_getElem? (i := 57) rfl) rfl
theorem tb776 : Cond.static yL_buffer ∈ TB := tbm_4 (List.mem_of_getElem? (i := 58) rfl) rfl
theorem tb777 : Cond.codeWith yL_buffer cL_buffer 4 (some .int) [(0, 9, 12, 13), (0, 9, 15, 17)] ∈ TB := tbm_4 (List.mem_of_getElem? (i := 59) rfl) rfl
theorem tb778 : Cond.methodLink RL 52 yX9_buffer ∈ TB := tbm_4 (List.mem_of_getElem? (i := 60) rfl) rfl
theorem tb779 : Cond.instanceMethod yX9_buffer ∈ TB := tbm_4 (List.mem_of_getElem? (i := 61) rfl) rfl
theorem tb780 : Cond.selects RX9 yX9_buffer yX9_buffer ∈ TB := tbm_4 (List.mem_of_getElem? (i := 62) rfl) rfl
theorem tb781 : Cond.code yX9_buffer cX9_buffer 2 (some .int) ∈ TB := tbm_4 (List.mem_of_getElem? (i := 63) rfl) rfl
theorem tb782 : Cond.methodLink RL 161 yL_downloaded ∈ TB := tbm_4 (List.mem_of_getElem? (i := 64) rfl) rfl
theorem tb783 : Cond.static yL_downloaded ∈ TB := tbm_4 (List.mem_of_getElem? (i := 65) rfl) rfl
theorem tb784 : Cond.codeWith yL_downloaded cL_downloaded 4 (some .int) [(0, 9, 12, 13), (0, 9, 15, 17)] ∈ TB := tbm_4 (List.mem_of_getElem? (i := 66) rfl) rfl
theorem tb785 : Cond.methodLink RL 55 yX9_downloaded ∈ TB := tbm_4 (List.mem_of_getElem? (i := 67) rfl) rfl
theorem tb786 : Cond.instanceMethod yX9_downloaded ∈ TB := tbm_4 (List.mem_of_getElem? (i := 68) rfl) rfl
theorem tb787 : Cond.selects RX9 yX9_downloaded yX9_downloaded ∈ TB := tbm_4 (List.mem_of_getElem? (i := 69) rfl) rfl
theorem tb788 : Cond.code yX9_downloaded cX9_downloaded 2 (some .int) ∈ TB := tbm_4 (List.mem_of_getElem? (i := 70) rfl) rfl
theorem tb789 : Cond.methodLink RX9 133 yX6_shelfOf ∈ TB := tbm_4 (List.mem_of_getElem? (i := 71) rfl) rfl
theorem tb790 : Cond.methodLink RL 164 yL_rungOf ∈ TB := tbm_4 (List.mem_of_getElem? (i := 72) rfl) rfl
theorem tb791 : Cond.static yL_rungOf ∈ TB := tbm_4 (List.mem_of_getElem? (i := 73) rfl) rfl
theorem tb792 : Cond.codeWith yL_rungOf cL_rungOf 5 (some .int) [(0, 10, 13, 13), (0, 10, 17, 17)] ∈ TB := tbm_4 (List.mem_of_getElem? (i := 74) rfl) rfl
theorem tb793 : Cond.methodLink RL 58 yX9_rungOf ∈ TB := tbm_4 (List.mem_of_getElem? (i := 75) rfl) rfl
theorem tb794 : Cond.instanceMethod yX9_rungOf ∈ TB := tbm_4 (List.mem_of_getElem? (i := 76) rfl) rfl
theorem tb795 : Cond.selects RX9 yX9_rungOf yX9_rungOf ∈ TB := tbm_4 (List.mem_of_getElem? (i := 77) rfl) rfl
theorem tb796 : Cond.code yX9_rungOf cX9_rungOf 3 (some .int) ∈ TB := tbm_4 (List.mem_of_getElem? (i := 78) rfl) rfl
theorem tb797 : Cond.methodLink RX9 142 yX9_requireNotNegative ∈ TB := tbm_4 (List.mem_of_getElem? (i := 79) rfl) rfl
theorem tb798 : Cond.static yX9_requireNotNegative ∈ TB := tbm_4 (List.mem_of_getElem? (i := 80) rfl) rfl
theorem tb799 : Cond.code yX9_requireNotNegative cX9_requireNotNegative 1 none ∈ TB := tbm_4 (List.mem_of_getElem? (i := 81) rfl) rfl
theorem tb800 : Cond.methodLink RX9 145 yX7_rungAt ∈ TB := tbm_4 (List.mem_of_getElem? (i := 83) rfl) rfl
theorem tb801 : Cond.methodLink RL 167 yL_download ∈ TB := tbm_4 (List.mem_of_getElem? (i := 84) rfl) rfl
theorem tb802 : Cond.static yL_download ∈ TB := tbm_4 (List.mem_of_getElem? (i := 85) rfl) rfl
theorem tb803 : Cond.codeWith yL_download cL_download 4 (some .int) [(0, 9, 12, 13), (0, 9, 15, 17)] ∈ TB := tbm_4 (List.mem_of_getElem? (i := 86) rfl) rfl
theorem tb804 : Cond.methodLink RL 61 yX9_download ∈ TB := tbm_4 (List.mem_of_getElem? (i := 87) rfl) rfl
theorem tb805 : Cond.instanceMethod yX9_download ∈ TB := tbm_4 (List.mem_of_getElem? (i := 88) rfl) rfl
theorem tb806 : Cond.selects RX9 yX9_download yX9_download ∈ TB := tbm_4 (List.mem_of_getElem? (i := 89) rfl) rfl
theorem tb807 : Cond.code yX9_download cX9_download 2 (some .int) ∈ TB := tbm_4 (List.mem_of_getElem? (i := 90) rfl) rfl
theorem tb808 : Cond.methodLink RL 170 yL_received ∈ TB := tbm_4 (List.mem_of_getElem? (i := 91) rfl) rfl
theorem tb809 : Cond.static yL_received ∈ TB := tbm_4 (List.mem_of_getElem? (i := 92) rfl) rfl
theorem tb810 : Cond.codeWith yL_received cL_received 3 (some .int) [(0, 7, 10, 17)] ∈ TB := tbm_4 (List.mem_of_getElem? (i := 93) rfl) rfl
theorem tb811 : Cond.methodLink RL 64 yX9_received ∈ TB := tbm_4 (List.mem_of_getElem? (i := 94) rfl) rfl
theorem tb812 : Cond.instanceMethod yX9_received ∈ TB := tbm_4 (List.mem_of_getElem? (i := 95) rfl) rfl
theorem tb813 : Cond.selects RX9 yX9_received yX9_received ∈ TB := tbm_4 (List.mem_of_getElem? (i := 96) rfl) rfl
theorem tb814 : Cond.code yX9_received cX9_received 1 (some .long) ∈ TB := tbm_4 (List.mem_of_getElem? (i := 97) rfl) rfl
theorem tb815 : Cond.methodLink RL 173 yL_estimate ∈ TB := tbm_4 (List.mem_of_getElem? (i := 98) rfl) rfl
theorem tb816 : Cond.static yL_estimate ∈ TB := tbm_4 (List.mem_of_getElem? (i := 99) rfl) rfl
theorem tb817 : Cond.codeWith yL_estimate cL_estimate 3 (some .int) [(0, 8, 11, 17)] ∈ TB := tbm_4 (List.mem_of_getElem? (i := 100) rfl) rfl
theorem tb818 : Cond.methodLink RL 68 yX9_estimate ∈ TB := tbm_4 (List.mem_of_getElem? (i := 101) rfl) rfl
theorem tb819 : Cond.instanceMethod yX9_estimate ∈ TB := tbm_4 (List.mem_of_getElem? (i := 102) rfl) rfl
theorem tb820 : Cond.selects RX9 yX9_estimate yX9_estimate ∈ TB := tbm_4 (List.mem_of_getElem? (i := 103) rfl) rfl
theorem tb821 : Cond.code yX9_estimate cX9_estimate 1 (some .int) ∈ TB := tbm_4 (List.mem_of_getElem? (i := 104) rfl) rfl
theorem tb822 : Cond.methodLink RL 176 yL_nextRung ∈ TB := tbm_4 (List.mem_of_getElem? (i := 105) rfl) rfl
theorem tb823 : Cond.static yL_nextRung ∈ TB := tbm_4 (List.mem_of_getElem? (i := 106) rfl) rfl
theorem tb824 : Cond.codeWith yL_nextRung cL_nextRung 3 (some .int) [(0, 8, 11, 17)] ∈ TB := tbm_4 (List.mem_of_getElem? (i := 107) rfl) rfl
theorem tb825 : Cond.methodLink RL 71 yX9_nextRung ∈ TB := tbm_4 (List.mem_of_getElem? (i := 108) rfl) rfl
theorem tb826 : Cond.instanceMethod yX9_nextRung ∈ TB := tbm_4 (List.mem_of_getElem? (i := 109) rfl) rfl
theorem tb827 : Cond.selects RX9 yX9_nextRung yX9_nextRung ∈ TB := tbm_4 (List.mem_of_getElem? (i := 110) rfl) rfl
theorem tb828 : Cond.code yX9_nextRung cX9_nextRung 1 (some .int) ∈ TB := tbm_4 (List.mem_of_getElem? (i := 111) rfl) rfl
theorem tb829 : Cond.methodLink RX9 164 yX6_videoRung ∈ TB := tbm_4 (List.mem_of_getElem? (i := 112) rfl) rfl
theorem tb830 : Cond.methodLink RL 179 yL_latency ∈ TB := tbm_4 (List.mem_of_getElem? (i := 113) rfl) rfl
theorem tb831 : Cond.static yL_latency ∈ TB := tbm_4 (List.mem_of_getElem? (i := 114) rfl) rfl
theorem tb832 : Cond.codeWith yL_latency cL_latency 3 (some .int) [(0, 8, 11, 17)] ∈ TB := tbm_4 (List.mem_of_getElem? (i := 115) rfl) rfl
theorem tb833 : Cond.methodLink RL 74 yX9_latency ∈ TB := tbm_4 (List.mem_of_getElem? (i := 116) rfl) rfl
theorem tb834 : Cond.instanceMethod yX9_latency ∈ TB := tbm_4 (List.mem_of_getElem? (i := 117) rfl) rfl
theorem tb835 : Cond.selects RX9 yX9_latency yX9_latency ∈ TB := tbm_4 (List.mem_of_getElem? (i := 118) rfl) rfl
theorem tb836 : Cond.code yX9_latency cX9_latency 1 (some .int) ∈ TB := tbm_4 (List.mem_of_getElem? (i := 119) rfl) rfl
theorem tb837 : Cond.methodLink RX9 167 yX8_isLive ∈ TB := tbm_4 (List.mem_of_getElem? (i := 120) rfl) rfl
theorem tb838 : Cond.methodLink RX9 170 yX6_behindLive ∈ TB := tbm_4 (List.mem_of_getElem? (i := 121) rfl) rfl
theorem tb839 : Cond.methodLink RL 182 yL_spent ∈ TB := tbm_4 (List.mem_of_getElem? (i := 122) rfl) rfl
theorem tb840 : Cond.static yL_spent ∈ TB := tbm_4 (List.mem_of_getElem? (i := 123) rfl) rfl
theorem tb841 : Cond.codeWith yL_spent cL_spent 4 (some .int) [(0, 9, 12, 13), (0, 9, 15, 17)] ∈ TB := tbm_4 (List.mem_of_getElem? (i := 124) rfl) rfl
theorem tb842 : Cond.methodLink RL 77 yX9_spent ∈ TB := tbm_4 (List.mem_of_getElem? (i := 125) rfl) rfl
theorem tb843 : Cond.instanceMethod yX9_spent ∈ TB := tbm_4 (List.mem_of_getElem? (i := 126) rfl) rfl
theorem tb844 : Cond.selects RX9 yX9_spent yX9_spent ∈ TB := tbm_4 (List.mem_of_getElem? (i := 127) rfl) rfl
theorem tb845 : Cond.code yX9_spent cX9_spent 2 (some .int) ∈ TB := tbm_4 (List.mem_of_getElem? (i := 128) rfl) rfl
theorem tb846 : Cond.methodLink RL 185 yL_count ∈ TB := tbm_4 (List.mem_of_getElem? (i := 129) rfl) rfl
theorem tb847 : Cond.static yL_count ∈ TB := tbm_4 (List.mem_of_getElem? (i := 130) rfl) rfl
theorem tb848 : Cond.codeWith yL_count cL_count 4 (some .int) [(0, 9, 12, 13), (0, 9, 15, 17)] ∈ TB := tbm_4 (List.mem_of_getElem? (i := 131) rfl) rfl
theorem tb849 : Cond.methodLink RL 80 yX9_count ∈ TB := tbm_4 (List.mem_of_getElem? (i := 132) rfl) rfl
theorem tb850 : Cond.instanceMethod yX9_count ∈ TB := tbm_4 (List.mem_of_getElem? (i := 133) rfl) rfl
theorem tb851 : Cond.selects RX9 yX9_count yX9_count ∈ TB := tbm_4 (List.mem_of_getElem? (i := 134) rfl) rfl
theorem tb852 : Cond.code yX9_count cX9_count 2 (some .int) ∈ TB := tbm_4 (List.mem_of_getElem? (i := 135) rfl) rfl
theorem tb853 : Cond.methodLink RL 188 yL_wasted ∈ TB := tbm_4 (List.mem_of_getElem? (i := 136) rfl) rfl
theorem tb854 : Cond.static yL_wasted ∈ TB := tbm_4 (List.mem_of_getElem? (i := 137) rfl) rfl
theorem tb855 : Cond.codeWith yL_wasted cL_wasted 3 (some .int) [(0, 7, 10, 17)] ∈ TB := tbm_4 (List.mem_of_getElem? (i := 138) rfl) rfl
theorem tb856 : Cond.methodLink RL 83 yX9_wasted ∈ TB := tbm_4 (List.mem_of_getElem? (i := 139) rfl) rfl
theorem tb857 : Cond.instanceMethod yX9_wasted ∈ TB := tbm_4 (List.mem_of_getElem? (i := 140) rfl) rfl
theorem tb858 : Cond.selects RX9 yX9_wasted yX9_wasted ∈ TB := tbm_4 (List.mem_of_getElem? (i := 141) rfl) rfl
theorem tb859 : Cond.code yX9_wasted cX9_wasted 1 (some .long) ∈ TB := tbm_4 (List.mem_of_getElem? (i := 142) rfl) rfl
theorem tb860 : Cond.methodLink RL 191 yL_quality ∈ TB := tbm_4 (List.mem_of_getElem? (i := 143) rfl) rfl
theorem tb861 : Cond.static yL_quality ∈ TB := tbm_4 (List.mem_of_getElem? (i := 144) rfl) rfl
theorem tb862 : Cond.codeWith yL_quality cL_quality 3 (some .int) [(0, 7, 10, 17)] ∈ TB := tbm_4 (List.mem_of_getElem? (i := 145) rfl) rfl
theorem tb863 : Cond.methodLink RL 86 yX9_quality ∈ TB := tbm_4 (List.mem_of_getElem? (i := 146) rfl) rfl
theorem tb864 : Cond.instanceMethod yX9_quality ∈ TB := tbm_4 (List.mem_of_getElem? (i := 147) rfl) rfl
theorem tb865 : Cond.selects RX9 yX9_quality yX9_quality ∈ TB := tbm_4 (List.mem_of_getElem? (i := 148) rfl) rfl
theorem tb866 : Cond.code yX9_quality cX9_quality 1 (some .long) ∈ TB := tbm_4 (List.mem_of_getElem? (i := 149) rfl) rfl
theorem tb867 : Cond.methodLink RL 194 yL_score ∈ TB := tbm_4 (List.mem_of_getElem? (i := 150) rfl) rfl
theorem tb868 : Cond.static yL_score ∈ TB := tbm_4 (List.mem_of_getElem? (i := 151) rfl) rfl
theorem tb869 : Cond.codeWith yL_score cL_score 3 (some .int) [(0, 7, 10, 17)] ∈ TB := tbm_4 (List.mem_of_getElem? (i := 152) rfl) rfl
theorem tb870 : Cond.methodLink RL 89 yX9_score ∈ TB := tbm_4 (List.mem_of_getElem? (i := 153) rfl) rfl
theorem tb871 : Cond.instanceMethod yX9_score ∈ TB := tbm_4 (List.mem_of_getElem? (i := 154) rfl) rfl
theorem tb872 : Cond.selects RX9 yX9_score yX9_score ∈ TB := tbm_4 (List.mem_of_getElem? (i := 155) rfl) rfl
theorem tb873 : Cond.code yX9_score cX9_score 1 (some .long) ∈ TB := tbm_4 (List.mem_of_getElem? (i := 156) rfl) rfl
theorem tb874 : Cond.methodLink RX9 192 yX6_points ∈ TB := tbm_4 (List.mem_of_getElem? (i := 157) rfl) rfl
theorem tb875 : Cond.instanceMethod yX6_points ∈ TB := tbm_4 (List.mem_of_getElem? (i := 158) rfl) rfl
theorem tb876 : Cond.selects RX6 yX6_points yX6_points ∈ TB := tbm_4 (List.mem_of_getElem? (i := 159) rfl) rfl
theorem tb877 : Cond.code yX6_points cX6_points 3 (some .long) ∈ TB := tbm_4 (List.mem_of_getElem? (i := 160) rfl) rfl
theorem tb878 : Cond.constantLong RX6 295 2 ∈ TB := tbm_4 (List.mem_of_getElem? (i := 161) rfl) rfl
theorem tb879 : Cond.methodLink RX6 297 yX2_topRate ∈ TB := tbm_4 (List.mem_of_getElem? (i := 162) rfl) rfl
theorem tb880 : Cond.methodLink RX6 300 yX0_timeSpent ∈ TB := tbm_4 (List.mem_of_getElem? (i := 163) rfl) rfl
theorem tb881 : Cond.methodLink RL 197 yL_timeLine ∈ TB := tbm_4 (List.mem_of_getElem? (i := 164) rfl) rfl
theorem tb882 : Cond.static yL_timeLine ∈ TB := tbm_4 (List.mem_of_getElem? (i := 165) rfl) rfl
theorem tb883 : Cond.codeWith yL_timeLine cL_timeLine 4 (some .int) [(0, 9, 12, 13), (0, 9, 15, 17)] ∈ TB := tbm_4 (List.mem_of_getElem? (i := 166) rfl) rfl
theorem tb884 : Cond.methodLink RL 92 yX9_timeLine ∈ TB := tbm_4 (List.mem_of_getElem? (i := 167) rfl) rfl
theorem tb885 : Cond.instanceMethod yX9_timeLine ∈ TB := tbm_4 (List.mem_of_getElem? (i := 168) rfl) rfl
theorem tb886 : Cond.selects RX9 yX9_timeLine yX9_timeLine ∈ TB := tbm_4 (List.mem_of_getElem? (i := 169) rfl) rfl
theorem tb887 : Cond.code yX9_timeLine cX9_timeLine 2 (some .int) ∈ TB := tbm_4 (List.mem_of_getElem? (i := 170) rfl) rfl
theorem tb888 : Cond.methodLink RX9 199 yX3_signAt ∈ TB := tbm_4 (List.mem_of_getElem? (i := 171) rfl) rfl
theorem tb889 : Cond.instanceMethod yX3_signAt ∈ TB := tbm_4 (List.mem_of_getElem? (i := 172) rfl) rfl
theorem tb890 : Cond.selects RX3 yX3_signAt yX3_signAt ∈ TB := tbm_4 (List.mem_of_getElem? (i := 173) rfl) rfl
theorem tb891 : Cond.code yX3_signAt cX3_signAt 2 (some .int) ∈ TB := tbm_4 (List.mem_of_getElem? (i := 174) rfl) rfl
theorem tb892 : Cond.methodLink RL 200 yL_forecast ∈ TB := tbm_4 (List.mem_of_getElem? (i := 175) rfl) rfl
theorem tb893 : Cond.static yL_forecast ∈ TB := tbm_4 (List.mem_of_getElem? (i := 176) rfl) rfl
theorem tb894 : Cond.codeWith yL_forecast cL_forecast 5 (some .int) [(0, 10, 13, 15), (0, 10, 17, 13), (0, 10, 21, 17)] ∈ TB := tbm_4 (List.mem_of_getElem? (i := 177) rfl) rfl
theorem tb895 : Cond.methodLink RL 95 yX9_forecast ∈ TB := tbm_4 (List.mem_of_getElem? (i := 178) rfl) rfl
theorem tb896 : Cond.instanceMethod yX9_forecast ∈ TB := tbm_4 (List.mem_of_getElem? (i := 179) rfl) rfl
theorem tb897 : Cond.selects RX9 yX9_forecast yX9_forecast ∈ TB := tbm_4 (List.mem_of_getElem? (i := 180) rfl) rfl
theorem tb898 : Cond.code yX9_forecast cX9_forecast 3 (some .int) ∈ TB := tbm_4 (List.mem_of_getElem? (i := 181) rfl) rfl
theorem tb899 : Cond.methodLink RX9 204 yX6_copyFrom ∈ TB := tbm_4 (List.mem_of_getElem? (i := 182) rfl) rfl
theorem tb900 : Cond.instanceMethod yX6_copyFrom ∈ TB := tbm_4 (List.mem_of_getElem? (i := 183) rfl) rfl
theorem tb901 : Cond.selects RX6 yX6_copyFrom yX6_copyFrom ∈ TB := tbm_4 (List.mem_of_getElem? (i := 184) rfl) rfl
theorem tb902 : Cond.code yX6_copyFrom cX6_copyFrom 2 none ∈ TB := tbm_4 (List.mem_of_getElem? (i := 185) rfl) rfl
theorem tb903 : Cond.methodLink RX6 85 yX7_copyFrom ∈ TB := tbm_4 (List.mem_of_getElem? (i := 186) rfl) rfl
theorem tb904 : Cond.instanceMethod yX7_copyFrom ∈ TB := tbm_4 (List.mem_of_getElem? (i := 187) rfl) rfl
theorem tb905 : Cond.selects RX7 yX7_copyFrom yX7_copyFrom ∈ TB := tbm_4 (List.mem_of_getElem? (i := 188) rfl) rfl
theorem tb906 : Cond.code yX7_copyFrom cX7_copyFrom 2 none ∈ TB := tbm_4 (List.mem_of_getElem? (i := 189) rfl) rfl
theorem tb907 : Cond.methodLink RX7 19 ⟨"java/lang/System", "arraycopy", "(Ljava/lang/Object;ILjava/lang/Object;II)V"⟩ ∈ TB := tbm_4 (List.mem_of_getElem? (i := 190) rfl) rfl
theorem tb908 : Cond.methodLink RX6 89 yX5_copyFrom ∈ TB := tbm_4 (List.mem_of_getElem? (i := 191) rfl) rfl
theorem tb909 : Cond.instanceMethod yX5_copyFrom ∈ TB := tbm_4 (List.mem_of_getElem? (i := 192) rfl) rfl
theorem tb910 : Cond.selects RX5 yX5_copyFrom yX5_copyFrom ∈ TB := tbm_4 (List.mem_of_getElem? (i := 193) rfl) rfl
theorem tb911 : Cond.code yX5_copyFrom cX5_copyFrom 2 none ∈ TB := tbm_4 (List.mem_of_getElem? (i := 194) rfl) rfl
theorem tb912 : Cond.methodLink RX6 92 yX0_copyFrom ∈ TB := tbm_4 (List.mem_of_getElem? (i := 195) rfl) rfl
theorem tb913 : Cond.instanceMethod yX0_copyFrom ∈ TB := tbm_4 (List.mem_of_getElem? (i := 196) rfl) rfl
theorem tb914 : Cond.selects RX0 yX0_copyFrom yX0_copyFrom ∈ TB := tbm_4 (List.mem_of_getElem? (i := 197) rfl) rfl
theorem tb915 : Cond.code yX0_copyFrom cX0_copyFrom 2 none ∈ TB := tbm_4 (List.mem_of_getElem? (i := 198) rfl) rfl
theorem tb916 : Cond.methodLink RX6 95 yX3_copyFrom ∈ TB := tbm_4 (List.mem_of_getElem? (i := 199) rfl) rfl
theorem tb917 : Cond.instanceMethod yX3_copyFrom ∈ TB := tbm_4 (List.mem_of_getElem? (i := 200) rfl) rfl
theorem tb918 : Cond.selects RX3 yX3_copyFrom yX3_copyFrom ∈ TB := tbm_4 (List.mem_of_getElem? (i := 201) rfl) rfl
theorem tb919 : Cond.code yX3_copyFrom cX3_copyFrom 2 none ∈ TB := tbm_4 (List.mem_of_getElem? (i := 202) rfl) rfl
theorem tb920 : Cond.methodLink RX3 19 ⟨"java/lang/System", "arraycopy", "(Ljava/lang/Object;ILjava/lang/Object;II)V"⟩ ∈ TB := tbm_4 (List.mem_of_getElem? (i := 203) rfl) rfl
theorem tb921 : Cond.methodLink RX6 98 yX1_copyFrom ∈ TB := tbm_4 (List.mem_of_getElem? (i := 204) rfl) rfl
theorem tb922 : Cond.instanceMethod yX1_copyFrom ∈ TB := tbm_4 (List.mem_of_getElem? (i := 205) rfl) rfl
theorem tb923 : Cond.selects RX1 yX1_copyFrom yX1_copyFrom ∈ TB := tbm_4 (List.mem_of_getElem? (i := 206) rfl) rfl
theorem tb924 : Cond.code yX1_copyFrom cX1_copyFrom 2 none ∈ TB := tbm_4 (List.mem_of_getElem? (i := 207) rfl) rfl
theorem tb925 : Cond.methodLink RL 203 yL_trialScore ∈ TB := tbm_4 (List.mem_of_getElem? (i := 208) rfl) rfl
theorem tb926 : Cond.static yL_trialScore ∈ TB := tbm_4 (List.mem_of_getElem? (i := 209) rfl) rfl
theorem tb927 : Cond.codeWith yL_trialScore cL_trialScore 5 (some .int) [(0, 9, 12, 15), (0, 9, 16, 17)] ∈ TB := tbm_4 (List.mem_of_getElem? (i := 210) rfl) rfl
theorem tb928 : Cond.methodLink RL 98 yX9_trialScore ∈ TB := tbm_4 (List.mem_of_getElem? (i := 211) rfl) rfl
theorem tb929 : Cond.instanceMethod yX9_trialScore ∈ TB := tbm_4 (List.mem_of_getElem? (i := 212) rfl) rfl
theorem tb930 : Cond.selects RX9 yX9_trialScore yX9_trialScore ∈ TB := tbm_4 (List.mem_of_getElem? (i := 213) rfl) rfl
theorem tb931 : Cond.code yX9_trialScore cX9_trialScore 3 (some .long) ∈ TB := tbm_4 (List.mem_of_getElem? (i := 214) rfl) rfl
theorem tb932 : Cond.methodLink RX9 208 yX9_pointsInMode ∈ TB := tbm_4 (List.mem_of_getElem? (i := 215) rfl) rfl
theorem tb933 : Cond.instanceMethod yX9_pointsInMode ∈ TB := tbm_4 (List.mem_of_getElem? (i := 217) rfl) rfl
theorem tb934 : Cond.code yX9_pointsInMode cX9_pointsInMode 3 (some .long) ∈ TB := tbm_4 (List.mem_of_getElem? (i := 218) rfl) rfl
theorem tb935 : Cond.methodLink RL 206 yL_bestMode ∈ TB := tbm_4 (List.mem_of_getElem? (i := 219) rfl) rfl
theorem tb936 : Cond.static yL_bestMode ∈ TB := tbm_4 (List.mem_of_getElem? (i := 220) rfl) rfl
theorem tb937 : Cond.codeWith yL_bestMode cL_bestMode 4 (some .int) [(0, 9, 12, 15), (0, 9, 15, 17)] ∈ TB := tbm_4 (List.mem_of_getElem? (i := 221) rfl) rfl
theorem tb938 : Cond.methodLink RL 102 yX9_bestMode ∈ TB := tbm_4 (List.mem_of_getElem? (i := 222) rfl) rfl
theorem tb939 : Cond.instanceMethod yX9_bestMode ∈ TB := tbm_4 (List.mem_of_getElem? (i := 223) rfl) rfl
theorem tb940 : Cond.selects RX9 yX9_bestMode yX9_bestMode ∈ TB := tbm_4 (List.mem_of_getElem? (i := 224) rfl) rfl
theorem tb941 : Cond.code yX9_bestMode cX9_bestMode 8 (some .int) ∈ TB := tbm_4 (List.mem_of_getElem? (i := 225) rfl) rfl
theorem tb942 : Cond.methodLink RL 209 yL_leastStart ∈ TB := tbm_4 (List.mem_of_getElem? (i := 226) rfl) rfl
theorem tb943 : Cond.static yL_leastStart ∈ TB := tbm_4 (List.mem_of_getElem? (i := 227) rfl) rfl
theorem tb944 : Cond.codeWith yL_leastStart cL_leastStart 4 (some .int) [(0, 9, 12, 15), (0, 9, 15, 17)] ∈ TB := tbm_4 (List.mem_of_getElem? (i := 228) rfl) rfl
theorem tb945 : Cond.methodLink RL 105 yX9_leastStart ∈ TB := tbm_4 (List.mem_of_getElem? (i := 229) rfl) rfl
theorem tb946 : Cond.instanceMethod yX9_leastStart ∈ TB := tbm_4 (List.mem_of_getElem? (i := 230) rfl) rfl
theorem tb947 : Cond.selects RX9 yX9_leastStart yX9_leastStart ∈ TB := tbm_4 (List.mem_of_getElem? (i := 231) rfl) rfl
theorem tb948 : Cond.code yX9_leastStart cX9_leastStart 4 (some .int) ∈ TB := tbm_4 (List.mem_of_getElem? (i := 232) rfl) rfl
theorem tb949 : Cond.constant RX9 212 60000 ∈ TB := tbm_4 (List.mem_of_getElem? (i := 233) rfl) rfl
theorem tb950 : Cond.methodLink RX9 213 ⟨"java/lang/Math", "min", "(II)I"⟩ ∈ TB := tbm_4 (List.mem_of_getElem? (i := 234) rfl) rfl
theorem tb951 : Cond.methodLink RX9 218 yX9_playsWithoutStall ∈ TB := tbm_4 (List.mem_of_getElem? (i := 235) rfl) rfl
theorem tb952 : Cond.instanceMethod yX9_playsWithoutStall ∈ TB := tbm_4 (List.mem_of_getElem? (i := 237) rfl) rfl
theorem tb953 : Cond.code yX9_playsWithoutStall cX9_playsWithoutStall 4 (some .boolean) ∈ TB := tbm_4 (List.mem_of_getElem? (i := 238) rfl) rfl
theorem tb954 : Cond.classLink RL 109 RX10 ∈ TB := tbm_4 (List.mem_of_getElem? (i := 239) rfl) rfl
theorem tb955 : Cond.instantiable RX10 10 ∈ TB := tbm_5 (List.mem_of_getElem? (i := 0) rfl) rfl
theorem tb956 : Cond.methodLink RL 111 yX10_init ∈ TB := tbm_5 (List.mem_of_getElem? (i := 1) rfl) rfl
theorem tb957 : Cond.instanceMethod yX10_init ∈ TB := tbm_5 (List.mem_of_getElem? (i := 2) rfl) rfl
theorem tb958 : Cond.code yX10_init cX10_init 1 none ∈ TB := tbm_5 (List.mem_of_getElem? (i := 3) rfl) rfl
theorem tb959 : Cond.methodLink RX10 1 ⟨"java/lang/Object", "<init>", "()V"⟩ ∈ TB := tbm_5 (List.mem_of_getElem? (i := 4) rfl) rfl
theorem tb960 : Cond.constant RX10 32 60000 ∈ TB := tbm_5 (List.mem_of_getElem? (i := 5) rfl) rfl
theorem tb961 : Cond.fieldLink RX10 7 "StreamPlayerModel" "p" "[I" ∈ TB := tbm_5 (List.mem_of_getElem? (i := 6) rfl) rfl
theorem tb962 : Cond.fieldLink RX10 13 "StreamPlayerModel" "rates" "[I" ∈ TB := tbm_5 (List.mem_of_getElem? (i := 7) rfl) rfl
theorem tb963 : Cond.fieldLink RX10 16 "StreamPlayerModel" "ladder" "[I" ∈ TB := tbm_5 (List.mem_of_getElem? (i := 8) rfl) rfl
theorem tb964 : Cond.fieldLink RX10 19 "StreamPlayerModel" "lengths" "[I" ∈ TB := tbm_5 (List.mem_of_getElem? (i := 9) rfl) rfl
theorem tb965 : Cond.fieldLink RX10 22 "StreamPlayerModel" "flows" "[I" ∈ TB := tbm_5 (List.mem_of_getElem? (i := 10) rfl) rfl
theorem tb966 : Cond.fieldLink RX10 65 "StreamPlayerModel" "phases" "I" ∈ TB := tbm_5 (List.mem_of_getElem? (i := 11) rfl) rfl
theorem tb967 : Cond.fieldLink RX10 25 "StreamPlayerModel" "now" "[J" ∈ TB := tbm_5 (List.mem_of_getElem? (i := 12) rfl) rfl
theorem tb968 : Cond.fieldLink RX10 29 "StreamPlayerModel" "trial" "[J" ∈ TB := tbm_5 (List.mem_of_getElem? (i := 13) rfl) rfl
theorem tb969 : Cond.fieldLink RX10 53 "StreamPlayerModel" "has" "Z" ∈ TB := tbm_5 (List.mem_of_getElem? (i := 14) rfl) rfl
theorem tb970 : Cond.fieldLink RX10 33 "StreamPlayerModel" "thrown" "I" ∈ TB := tbm_5 (List.mem_of_getElem? (i := 15) rfl) rfl
theorem tb971 : Cond.laysFinal RX10 "StreamPlayerModel" "p" "[I" ∈ TB := tbm_5 (List.mem_of_getElem? (i := 16) rfl) rfl
theorem tb972 : Cond.soleField RX10 "p" ∈ TB := tbm_5 (List.mem_of_getElem? (i := 17) rfl) rfl
theorem tb973 : Cond.laysFinal RX10 "StreamPlayerModel" "rates" "[I" ∈ TB := tbm_5 (List.mem_of_getElem? (i := 18) rfl) rfl
theorem tb974 : Cond.soleField RX10 "rates" ∈ TB := tbm_5 (List.mem_of_getElem? (i := 19) rfl) rfl
theorem tb975 : Cond.laysFinal RX10 "StreamPlayerModel" "ladder" "[I" ∈ TB := tbm_5 (List.mem_of_getElem? (i := 20) rfl) rfl
theorem tb976 : Cond.soleField RX10 "ladder" ∈ TB := tbm_5 (List.mem_of_getElem? (i := 21) rfl) rfl
theorem tb977 : Cond.laysFinal RX10 "StreamPlayerModel" "lengths" "[I" ∈ TB := tbm_5 (List.mem_of_getElem? (i := 22) rfl) rfl
theorem tb978 : Cond.soleField RX10 "lengths" ∈ TB := tbm_5 (List.mem_of_getElem? (i := 23) rfl) rfl
theorem tb979 : Cond.laysFinal RX10 "StreamPlayerModel" "flows" "[I" ∈ TB := tbm_5 (List.mem_of_getElem? (i := 24) rfl) rfl
theorem tb980 : Cond.soleField RX10 "flows" ∈ TB := tbm_5 (List.mem_of_getElem? (i := 25) rfl) rfl
theorem tb981 : Cond.lays RX10 "StreamPlayerModel" "phases" "I" ∈ TB := tbm_5 (List.mem_of_getElem? (i := 26) rfl) rfl
theorem tb982 : Cond.soleField RX10 "phases" ∈ TB := tbm_5 (List.mem_of_getElem? (i := 27) rfl) rfl
theorem tb983 : Cond.laysFinal RX10 "StreamPlayerModel" "now" "[J" ∈ TB := tbm_5 (List.mem_of_getElem? (i := 28) rfl) rfl
theorem tb984 : Cond.soleField RX10 "now" ∈ TB := tbm_5 (List.mem_of_getElem? (i := 29) rfl) rfl
theorem tb985 : Cond.laysFinal RX10 "StreamPlayerModel" "trial" "[J" ∈ TB := tbm_5 (List.mem_of_getElem? (i := 30) rfl) rfl
theorem tb986 : Cond.soleField RX10 "trial" ∈ TB := tbm_5 (List.mem_of_getElem? (i := 31) rfl) rfl
theorem tb987 : Cond.lays RX10 "StreamPlayerModel" "has" "Z" ∈ TB := tbm_5 (List.mem_of_getElem? (i := 32) rfl) rfl
theorem tb988 : Cond.soleField RX10 "has" ∈ TB := tbm_5 (List.mem_of_getElem? (i := 33) rfl) rfl
theorem tb989 : Cond.lays RX10 "StreamPlayerModel" "thrown" "I" ∈ TB := tbm_5 (List.mem_of_getElem? (i := 34) rfl) rfl
theorem tb990 : Cond.soleField RX10 "thrown" ∈ TB := tbm_5 (List.mem_of_getElem? (i := 35) rfl) rfl
theorem tb991 : Cond.superclass RX10 "java/lang/Object" ∈ TB := tbm_5 (List.mem_of_getElem? (i := 36) rfl) rfl
theorem tb992 : Cond.methodLink RL 118 yX10_thrown ∈ TB := tbm_5 (List.mem_of_getElem? (i := 37) rfl) rfl
theorem tb993 : Cond.instanceMethod yX10_thrown ∈ TB := tbm_5 (List.mem_of_getElem? (i := 38) rfl) rfl
theorem tb994 : Cond.selects RX10 yX10_thrown yX10_thrown ∈ TB := tbm_5 (List.mem_of_getElem? (i := 39) rfl) rfl
theorem tb995 : Cond.code yX10_thrown cX10_thrown 1 (some .int) ∈ TB := tbm_5 (List.mem_of_getElem? (i := 40) rfl) rfl
theorem tb996 : Cond.methodLink RL 117 yX10_setParameter ∈ TB := tbm_5 (List.mem_of_getElem? (i := 41) rfl) rfl
theorem tb997 : Cond.instanceMethod yX10_setParameter ∈ TB := tbm_5 (List.mem_of_getElem? (i := 42) rfl) rfl
theorem tb998 : Cond.selects RX10 yX10_setParameter yX10_setParameter ∈ TB := tbm_5 (List.mem_of_getElem? (i := 43) rfl) rfl
theorem tb999 : Cond.code yX10_setParameter cX10_setParameter 4 (some .int) ∈ TB := tbm_5 (List.mem_of_getElem? (i := 44) rfl) rfl
theorem tb1000 : Cond.constantLong RX10 37 14 ∈ TB := tbm_5 (List.mem_of_getElem? (i := 45) rfl) rfl
theorem tb1001 : Cond.methodLink RX10 39 yX10_in ∈ TB := tbm_5 (List.mem_of_getElem? (i := 46) rfl) rfl
theorem tb1002 : Cond.static yX10_in ∈ TB := tbm_5 (List.mem_of_getElem? (i := 47) rfl) rfl
theorem tb1003 : Cond.code yX10_in cX10_in 6 (some .boolean) ∈ TB := tbm_5 (List.mem_of_getElem? (i := 48) rfl) rfl
theorem tb1004 : Cond.methodLink RX10 43 yX10_fails ∈ TB := tbm_5 (List.mem_of_getElem? (i := 49) rfl) rfl
theorem tb1005 : Cond.instanceMethod yX10_fails ∈ TB := tbm_5 (List.mem_of_getElem? (i := 51) rfl) rfl
theorem tb1006 : Cond.code yX10_fails cX10_fails 2 (some .int) ∈ TB := tbm_5 (List.mem_of_getElem? (i := 52) rfl) rfl
theorem tb1007 : Cond.methodLink RX10 47 yX10_leastOf ∈ TB := tbm_5 (List.mem_of_getElem? (i := 53) rfl) rfl
theorem tb1008 : Cond.static yX10_leastOf ∈ TB := tbm_5 (List.mem_of_getElem? (i := 54) rfl) rfl
theorem tb1009 : Cond.code yX10_leastOf cX10_leastOf 1 (some .int) ∈ TB := tbm_5 (List.mem_of_getElem? (i := 55) rfl) rfl
theorem tb1010 : Cond.methodLink RX10 50 yX10_mostOf ∈ TB := tbm_5 (List.mem_of_getElem? (i := 56) rfl) rfl
theorem tb1011 : Cond.static yX10_mostOf ∈ TB := tbm_5 (List.mem_of_getElem? (i := 57) rfl) rfl
theorem tb1012 : Cond.code yX10_mostOf cX10_mostOf 1 (some .int) ∈ TB := tbm_5 (List.mem_of_getElem? (i := 58) rfl) rfl
theorem tb1013 : Cond.methodLink RL 123 yX10_addRung ∈ TB := tbm_5 (List.mem_of_getElem? (i := 59) rfl) rfl
theorem tb1014 : Cond.instanceMethod yX10_addRung ∈ TB := tbm_5 (List.mem_of_getElem? (i := 60) rfl) rfl
theorem tb1015 : Cond.selects RX10 yX10_addRung yX10_addRung ∈ TB := tbm_5 (List.mem_of_getElem? (i := 61) rfl) rfl
theorem tb1016 : Cond.code yX10_addRung cX10_addRung 3 (some .int) ∈ TB := tbm_5 (List.mem_of_getElem? (i := 62) rfl) rfl
theorem tb1017 : Cond.constantLong RX10 57 50000 ∈ TB := tbm_5 (List.mem_of_getElem? (i := 63) rfl) rfl
theorem tb1018 : Cond.methodLink RX10 59 yX10_rate ∈ TB := tbm_5 (List.mem_of_getElem? (i := 64) rfl) rfl
theorem tb1019 : Cond.instanceMethod yX10_rate ∈ TB := tbm_5 (List.mem_of_getElem? (i := 66) rfl) rfl
theorem tb1020 : Cond.code yX10_rate cX10_rate 4 (some .int) ∈ TB := tbm_5 (List.mem_of_getElem? (i := 67) rfl) rfl
theorem tb1021 : Cond.methodLink RL 126 yX10_addPhase ∈ TB := tbm_5 (List.mem_of_getElem? (i := 68) rfl) rfl
theorem tb1022 : Cond.instanceMethod yX10_addPhase ∈ TB := tbm_5 (List.mem_of_getElem? (i := 69) rfl) rfl
theorem tb1023 : Cond.selects RX10 yX10_addPhase yX10_addPhase ∈ TB := tbm_5 (List.mem_of_getElem? (i := 70) rfl) rfl
theorem tb1024 : Cond.code yX10_addPhase cX10_addPhase 3 (some .int) ∈ TB := tbm_5 (List.mem_of_getElem? (i := 71) rfl) rfl
theorem tb1025 : Cond.constantLong RX10 63 100000 ∈ TB := tbm_5 (List.mem_of_getElem? (i := 72) rfl) rfl
theorem tb1026 : Cond.methodLink RL 130 yX10_clear ∈ TB := tbm_5 (List.mem_of_getElem? (i := 73) rfl) rfl
theorem tb1027 : Cond.instanceMethod yX10_clear ∈ TB := tbm_5 (List.mem_of_getElem? (i := 74) rfl) rfl
theorem tb1028 : Cond.selects RX10 yX10_clear yX10_clear ∈ TB := tbm_5 (List.mem_of_getElem? (i := 75) rfl) rfl
theorem tb1029 : Cond.code yX10_clear cX10_clear 2 (some .int) ∈ TB := tbm_5 (List.mem_of_getElem? (i := 76) rfl) rfl
theorem tb1030 : Cond.methodLink RL 134 yX10_bandwidth ∈ TB := tbm_5 (List.mem_of_getElem? (i := 77) rfl) rfl
theorem tb1031 : Cond.instanceMethod yX10_bandwidth ∈ TB := tbm_5 (List.mem_of_getElem? (i := 78) rfl) rfl
theorem tb1032 : Cond.selects RX10 yX10_bandwidth yX10_bandwidth ∈ TB := tbm_5 (List.mem_of_getElem? (i := 79) rfl) rfl
theorem tb1033 : Cond.code yX10_bandwidth cX10_bandwidth 2 (some .int) ∈ TB := tbm_5 (List.mem_of_getElem? (i := 80) rfl) rfl
theorem tb1034 : Cond.methodLink RX10 68 yX10_flowAt ∈ TB := tbm_5 (List.mem_of_getElem? (i := 81) rfl) rfl
theorem tb1035 : Cond.instanceMethod yX10_flowAt ∈ TB := tbm_5 (List.mem_of_getElem? (i := 83) rfl) rfl
theorem tb1036 : Cond.code yX10_flowAt cX10_flowAt 8 (some .int) ∈ TB := tbm_5 (List.mem_of_getElem? (i := 84) rfl) rfl
theorem tb1037 : Cond.methodLink RL 138 yX10_size ∈ TB := tbm_5 (List.mem_of_getElem? (i := 85) rfl) rfl
theorem tb1038 : Cond.instanceMethod yX10_size ∈ TB := tbm_5 (List.mem_of_getElem? (i := 86) rfl) rfl
theorem tb1039 : Cond.selects RX10 yX10_size yX10_size ∈ TB := tbm_5 (List.mem_of_getElem? (i := 87) rfl) rfl
theorem tb1040 : Cond.code yX10_size cX10_size 4 (some .long) ∈ TB := tbm_5 (List.mem_of_getElem? (i := 88) rfl) rfl
theorem tb1041 : Cond.methodLink RX10 84 yX10_sizeOf ∈ TB := tbm_5 (List.mem_of_getElem? (i := 89) rfl) rfl
theorem tb1042 : Cond.instanceMethod yX10_sizeOf ∈ TB := tbm_5 (List.mem_of_getElem? (i := 91) rfl) rfl
theorem tb1043 : Cond.code yX10_sizeOf cX10_sizeOf 10 (some .long) ∈ TB := tbm_5 (List.mem_of_getElem? (i := 92) rfl) rfl
theorem tb1044 : Cond.constantLong RX10 72 85 ∈ TB := tbm_5 (List.mem_of_getElem? (i := 93) rfl) rfl
theorem tb1045 : Cond.constantLong RX10 74 7 ∈ TB := tbm_5 (List.mem_of_getElem? (i := 94) rfl) rfl
theorem tb1046 : Cond.constantLong RX10 76 13 ∈ TB := tbm_5 (List.mem_of_getElem? (i := 95) rfl) rfl
theorem tb1047 : Cond.constantLong RX10 78 3 ∈ TB := tbm_5 (List.mem_of_getElem? (i := 96) rfl) rfl
theorem tb1048 : Cond.constantLong RX10 80 31 ∈ TB := tbm_5 (List.mem_of_getElem? (i := 97) rfl) rfl
theorem tb1049 : Cond.constantLong RX10 82 100 ∈ TB := tbm_5 (List.mem_of_getElem? (i := 98) rfl) rfl
theorem tb1050 : Cond.methodLink RL 141 yX10_start ∈ TB := tbm_5 (List.mem_of_getElem? (i := 99) rfl) rfl
theorem tb1051 : Cond.instanceMethod yX10_start ∈ TB := tbm_5 (List.mem_of_getElem? (i := 100) rfl) rfl
theorem tb1052 : Cond.selects RX10 yX10_start yX10_start ∈ TB := tbm_5 (List.mem_of_getElem? (i := 101) rfl) rfl
theorem tb1053 : Cond.code yX10_start cX10_start 1 (some .int) ∈ TB := tbm_5 (List.mem_of_getElem? (i := 102) rfl) rfl
theorem tb1054 : Cond.methodLink RX10 164 yX10_cannotStart ∈ TB := tbm_5 (List.mem_of_getElem? (i := 103) rfl) rfl
theorem tb1055 : Cond.instanceMethod yX10_cannotStart ∈ TB := tbm_5 (List.mem_of_getElem? (i := 105) rfl) rfl
theorem tb1056 : Cond.code yX10_cannotStart cX10_cannotStart 1 (some .boolean) ∈ TB := tbm_5 (List.mem_of_getElem? (i := 106) rfl) rfl
theorem tb1057 : Cond.methodLink RX10 168 yX10_clears ∈ TB := tbm_5 (List.mem_of_getElem? (i := 107) rfl) rfl
theorem tb1058 : Cond.static yX10_clears ∈ TB := tbm_5 (List.mem_of_getElem? (i := 108) rfl) rfl
theorem tb1059 : Cond.code yX10_clears cX10_clears 2 none ∈ TB := tbm_5 (List.mem_of_getElem? (i := 109) rfl) rfl
theorem tb1060 : Cond.constantLong RX10 122 (-1) ∈ TB := tbm_5 (List.mem_of_getElem? (i := 110) rfl) rfl
theorem tb1061 : Cond.methodLink RL 144 yX10_stop ∈ TB := tbm_5 (List.mem_of_getElem? (i := 111) rfl) rfl
theorem tb1062 : Cond.instanceMethod yX10_stop ∈ TB := tbm_5 (List.mem_of_getElem? (i := 112) rfl) rfl
theorem tb1063 : Cond.selects RX10 yX10_stop yX10_stop ∈ TB := tbm_5 (List.mem_of_getElem? (i := 113) rfl) rfl
theorem tb1064 : Cond.code yX10_stop cX10_stop 1 (some .int) ∈ TB := tbm_5 (List.mem_of_getElem? (i := 114) rfl) rfl
theorem tb1065 : Cond.methodLink RL 147 yX10_run ∈ TB := tbm_5 (List.mem_of_getElem? (i := 115) rfl) rfl
theorem tb1066 : Cond.instanceMethod yX10_run ∈ TB := tbm_5 (List.mem_of_getElem? (i := 116) rfl) rfl
theorem tb1067 : Cond.selects RX10 yX10_run yX10_run ∈ TB := tbm_5 (List.mem_of_getElem? (i := 117) rfl) rfl
theorem tb1068 : Cond.code yX10_run cX10_run 2 (some .int) ∈ TB := tbm_5 (List.mem_of_getElem? (i := 118) rfl) rfl
theorem tb1069 : Cond.constantLong RX10 171 20000 ∈ TB := tbm_5 (List.mem_of_getElem? (i := 119) rfl) rfl
theorem tb1070 : Cond.constantLong RX10 173 10000000 ∈ TB := tbm_5 (List.mem_of_getElem? (i := 120) rfl) rfl
theorem tb1071 : Cond.methodLink RX10 175 yX10_goesOn ∈ TB := tbm_5 (List.mem_of_getElem? (i := 121) rfl) rfl
theorem tb1072 : Cond.instanceMethod yX10_goesOn ∈ TB := tbm_5 (List.mem_of_getElem? (i := 123) rfl) rfl
theorem tb1073 : Cond.code yX10_goesOn cX10_goesOn 7 none ∈ TB := tbm_5 (List.mem_of_getElem? (i := 124) rfl) rfl
theorem tb1074 : Cond.methodLink RX10 147 yX10_tells ∈ TB := tbm_5 (List.mem_of_getElem? (i := 125) rfl) rfl
theorem tb1075 : Cond.instanceMethod yX10_tells ∈ TB := tbm_5 (List.mem_of_getElem? (i := 127) rfl) rfl
theorem tb1076 : Cond.code yX10_tells cX10_tells 6 none ∈ TB := tbm_5 (List.mem_of_getElem? (i := 128) rfl) rfl
theorem tb1077 : Cond.constantLong RX10 135 1000 ∈ TB := tbm_5 (List.mem_of_getElem? (i := 129) rfl) rfl
theorem tb1078 : Cond.constantLong RX10 137 300 ∈ TB := tbm_5 (List.mem_of_getElem? (i := 130) rfl) rfl
theorem tb1079 : Cond.constantLong RX10 139 115 ∈ TB := tbm_5 (List.mem_of_getElem? (i := 131) rfl) rfl
theorem tb1080 : Cond.constantLong RX10 141 45 ∈ TB := tbm_5 (List.mem_of_getElem? (i := 132) rfl) rfl
theorem tb1081 : Cond.constantLong RX10 143 101 ∈ TB := tbm_5 (List.mem_of_getElem? (i := 133) rfl) rfl
theorem tb1082 : Cond.constantLong RX10 131 2 ∈ TB := tbm_5 (List.mem_of_getElem? (i := 134) rfl) rfl
theorem tb1083 : Cond.constantLong RX10 145 48 ∈ TB := tbm_5 (List.mem_of_getElem? (i := 135) rfl) rfl
theorem tb1084 : Cond.methodLink RX10 151 yX10_looksForNext ∈ TB := tbm_5 (List.mem_of_getElem? (i := 136) rfl) rfl
theorem tb1085 : Cond.instanceMethod yX10_looksForNext ∈ TB := tbm_5 (List.mem_of_getElem? (i := 138) rfl) rfl
theorem tb1086 : Cond.code yX10_looksForNext cX10_looksForNext 5 none ∈ TB := tbm_5 (List.mem_of_getElem? (i := 139) rfl) rfl
theorem tb1087 : Cond.methodLink RX10 103 yX10_mayBegin ∈ TB := tbm_5 (List.mem_of_getElem? (i := 140) rfl) rfl
theorem tb1088 : Cond.instanceMethod yX10_mayBegin ∈ TB := tbm_5 (List.mem_of_getElem? (i := 142) rfl) rfl
theorem tb1089 : Cond.code yX10_mayBegin cX10_mayBegin 6 (some .boolean) ∈ TB := tbm_5 (List.mem_of_getElem? (i := 143) rfl) rfl
theorem tb1090 : Cond.methodLink RX10 88 yX10_bufferOf ∈ TB := tbm_5 (List.mem_of_getElem? (i := 144) rfl) rfl
theorem tb1091 : Cond.instanceMethod yX10_bufferOf ∈ TB := tbm_5 (List.mem_of_getElem? (i := 146) rfl) rfl
theorem tb1092 : Cond.code yX10_bufferOf cX10_bufferOf 3 (some .long) ∈ TB := tbm_5 (List.mem_of_getElem? (i := 147) rfl) rfl
theorem tb1093 : Cond.methodLink RX10 107 yX10_chosen ∈ TB := tbm_5 (List.mem_of_getElem? (i := 148) rfl) rfl
theorem tb1094 : Cond.instanceMethod yX10_chosen ∈ TB := tbm_5 (List.mem_of_getElem? (i := 150) rfl) rfl
theorem tb1095 : Cond.code yX10_chosen cX10_chosen 11 (some .long) ∈ TB := tbm_5 (List.mem_of_getElem? (i := 151) rfl) rfl
theorem tb1096 : Cond.methodLink RX10 95 yX10_borne ∈ TB := tbm_5 (List.mem_of_getElem? (i := 152) rfl) rfl
theorem tb1097 : Cond.instanceMethod yX10_borne ∈ TB := tbm_5 (List.mem_of_getElem? (i := 154) rfl) rfl
theorem tb1098 : Cond.code yX10_borne cX10_borne 10 (some .long) ∈ TB := tbm_5 (List.mem_of_getElem? (i := 155) rfl) rfl
theorem tb1099 : Cond.methodLink RX10 92 yX10_estimateOf ∈ TB := tbm_5 (List.mem_of_getElem? (i := 156) rfl) rfl
theorem tb1100 : Cond.static yX10_estimateOf ∈ TB := tbm_5 (List.mem_of_getElem? (i := 157) rfl) rfl
theorem tb1101 : Cond.code yX10_estimateOf cX10_estimateOf 7 (some .long) ∈ TB := tbm_5 (List.mem_of_getElem? (i := 158) rfl) rfl
theorem tb1102 : Cond.methodLink RX10 99 yX10_byBuffer ∈ TB := tbm_5 (List.mem_of_getElem? (i := 159) rfl) rfl
theorem tb1103 : Cond.instanceMethod yX10_byBuffer ∈ TB := tbm_5 (List.mem_of_getElem? (i := 161) rfl) rfl
theorem tb1104 : Cond.code yX10_byBuffer cX10_byBuffer 6 (some .long) ∈ TB := tbm_5 (List.mem_of_getElem? (i := 162) rfl) rfl
theorem tb1105 : Cond.methodLink RX10 110 yX10_begins ∈ TB := tbm_5 (List.mem_of_getElem? (i := 163) rfl) rfl
theorem tb1106 : Cond.instanceMethod yX10_begins ∈ TB := tbm_5 (List.mem_of_getElem? (i := 165) rfl) rfl
theorem tb1107 : Cond.code yX10_begins cX10_begins 7 none ∈ TB := tbm_5 (List.mem_of_getElem? (i := 166) rfl) rfl
theorem tb1108 : Cond.constantLong RX10 114 500 ∈ TB := tbm_5 (List.mem_of_getElem? (i := 167) rfl) rfl
theorem tb1109 : Cond.methodLink RX10 155 yX10_receives ∈ TB := tbm_5 (List.mem_of_getElem? (i := 168) rfl) rfl
theorem tb1110 : Cond.instanceMethod yX10_receives ∈ TB := tbm_5 (List.mem_of_getElem? (i := 170) rfl) rfl
theorem tb1111 : Cond.code yX10_receives cX10_receives 6 none ∈ TB := tbm_5 (List.mem_of_getElem? (i := 171) rfl) rfl
theorem tb1112 : Cond.constantLong RX10 116 10 ∈ TB := tbm_5 (List.mem_of_getElem? (i := 172) rfl) rfl
theorem tb1113 : Cond.methodLink RX10 158 yX10_givesUp ∈ TB := tbm_5 (List.mem_of_getElem? (i := 173) rfl) rfl
theorem tb1114 : Cond.instanceMethod yX10_givesUp ∈ TB := tbm_5 (List.mem_of_getElem? (i := 175) rfl) rfl
theorem tb1115 : Cond.code yX10_givesUp cX10_givesUp 8 none ∈ TB := tbm_5 (List.mem_of_getElem? (i := 176) rfl) rfl
theorem tb1116 : Cond.methodLink RX10 118 yX10_up ∈ TB := tbm_5 (List.mem_of_getElem? (i := 177) rfl) rfl
theorem tb1117 : Cond.static yX10_up ∈ TB := tbm_5 (List.mem_of_getElem? (i := 178) rfl) rfl
theorem tb1118 : Cond.code yX10_up cX10_up 4 (some .long) ∈ TB := tbm_5 (List.mem_of_getElem? (i := 179) rfl) rfl
theorem tb1119 : Cond.methodLink RX10 161 yX10_plays ∈ TB := tbm_5 (List.mem_of_getElem? (i := 180) rfl) rfl
theorem tb1120 : Cond.instanceMethod yX10_plays ∈ TB := tbm_5 (List.mem_of_getElem? (i := 182) rfl) rfl
theorem tb1121 : Cond.code yX10_plays cX10_plays 7 none ∈ TB := tbm_5 (List.mem_of_getElem? (i := 183) rfl) rfl
theorem tb1122 : Cond.methodLink RX10 124 yX10_bufferIn ∈ TB := tbm_5 (List.mem_of_getElem? (i := 184) rfl) rfl
theorem tb1123 : Cond.instanceMethod yX10_bufferIn ∈ TB := tbm_5 (List.mem_of_getElem? (i := 186) rfl) rfl
theorem tb1124 : Cond.code yX10_bufferIn cX10_bufferIn 6 (some .long) ∈ TB := tbm_5 (List.mem_of_getElem? (i := 187) rfl) rfl
theorem tb1125 : Cond.methodLink RX10 127 yX10_hasAll ∈ TB := tbm_5 (List.mem_of_getElem? (i := 188) rfl) rfl
theorem tb1126 : Cond.instanceMethod yX10_hasAll ∈ TB := tbm_5 (List.mem_of_getElem? (i := 190) rfl) rfl
theorem tb1127 : Cond.code yX10_hasAll cX10_hasAll 2 (some .boolean) ∈ TB := tbm_5 (List.mem_of_getElem? (i := 191) rfl) rfl
theorem tb1128 : Cond.constantLong RX10 133 4 ∈ TB := tbm_5 (List.mem_of_getElem? (i := 192) rfl) rfl
theorem tb1129 : Cond.methodLink RL 151 yX10_state ∈ TB := tbm_5 (List.mem_of_getElem? (i := 193) rfl) rfl
theorem tb1130 : Cond.instanceMethod yX10_state ∈ TB := tbm_5 (List.mem_of_getElem? (i := 194) rfl) rfl
theorem tb1131 : Cond.selects RX10 yX10_state yX10_state ∈ TB := tbm_5 (List.mem_of_getElem? (i := 195) rfl) rfl
theorem tb1132 : Cond.code yX10_state cX10_state 1 (some .int) ∈ TB := tbm_5 (List.mem_of_getElem? (i := 196) rfl) rfl
theorem tb1133 : Cond.methodLink RL 154 yX10_time ∈ TB := tbm_5 (List.mem_of_getElem? (i := 197) rfl) rfl
theorem tb1134 : Cond.instanceMethod yX10_time ∈ TB := tbm_5 (List.mem_of_getElem? (i := 198) rfl) rfl
theorem tb1135 : Cond.selects RX10 yX10_time yX10_time ∈ TB := tbm_5 (List.mem_of_getElem? (i := 199) rfl) rfl
theorem tb1136 : Cond.code yX10_time cX10_time 1 (some .int) ∈ TB := tbm_5 (List.mem_of_getElem? (i := 200) rfl) rfl
theorem tb1137 : Cond.methodLink RX10 179 yX10_told ∈ TB := tbm_5 (List.mem_of_getElem? (i := 201) rfl) rfl
theorem tb1138 : Cond.instanceMethod yX10_told ∈ TB := tbm_5 (List.mem_of_getElem? (i := 203) rfl) rfl
theorem tb1139 : Cond.code yX10_told cX10_told 3 (some .long) ∈ TB := tbm_5 (List.mem_of_getElem? (i := 204) rfl) rfl
theorem tb1140 : Cond.methodLink RL 157 yX10_position ∈ TB := tbm_5 (List.mem_of_getElem? (i := 205) rfl) rfl
theorem tb1141 : Cond.instanceMethod yX10_position ∈ TB := tbm_5 (List.mem_of_getElem? (i := 206) rfl) rfl
theorem tb1142 : Cond.selects RX10 yX10_position yX10_position ∈ TB := tbm_5 (List.mem_of_getElem? (i := 207) rfl) rfl
theorem tb1143 : Cond.code yX10_position cX10_position 1 (some .int) ∈ TB := tbm_5 (List.mem_of_getElem? (i := 208) rfl) rfl
theorem tb1144 : Cond.methodLink RL 160 yX10_buffer ∈ TB := tbm_5 (List.mem_of_getElem? (i := 209) rfl) rfl
theorem tb1145 : Cond.instanceMethod yX10_buffer ∈ TB := tbm_5 (List.mem_of_getElem? (i := 210) rfl) rfl
theorem tb1146 : Cond.selects RX10 yX10_buffer yX10_buffer ∈ TB := tbm_5 (List.mem_of_getElem? (i := 211) rfl) rfl
theorem tb1147 : Cond.code yX10_buffer cX10_buffer 2 (some .int) ∈ TB := tbm_5 (List.mem_of_getElem? (i := 212) rfl) rfl
theorem tb1148 : Cond.methodLink RX10 183 yX10_isWrong ∈ TB := tbm_5 (List.mem_of_getElem? (i := 213) rfl) rfl
theorem tb1149 : Cond.instanceMethod yX10_isWrong ∈ TB := tbm_5 (List.mem_of_getElem? (i := 215) rfl) rfl
theorem tb1150 : Cond.code yX10_isWrong cX10_isWrong 2 (some .boolean) ∈ TB := tbm_5 (List.mem_of_getElem? (i := 216) rfl) rfl
theorem tb1151 : Cond.methodLink RL 163 yX10_downloaded ∈ TB := tbm_5 (List.mem_of_getElem? (i := 217) rfl) rfl
theorem tb1152 : Cond.instanceMethod yX10_downloaded ∈ TB := tbm_5 (List.mem_of_getElem? (i := 218) rfl) rfl
theorem tb1153 : Cond.selects RX10 yX10_downloaded yX10_downloaded ∈ TB := tbm_5 (List.mem_of_getElem? (i := 219) rfl) rfl
theorem tb1154 : Cond.code yX10_downloaded cX10_downloaded 2 (some .int) ∈ TB := tbm_5 (List.mem_of_getElem? (i := 220) rfl) rfl
theorem tb1155 : Cond.methodLink RL 166 yX10_rungOf ∈ TB := tbm_5 (List.mem_of_getElem? (i := 221) rfl) rfl
theorem tb1156 : Cond.instanceMethod yX10_rungOf ∈ TB := tbm_5 (List.mem_of_getElem? (i := 222) rfl) rfl
theorem tb1157 : Cond.selects RX10 yX10_rungOf yX10_rungOf ∈ TB := tbm_5 (List.mem_of_getElem? (i := 223) rfl) rfl
theorem tb1158 : Cond.code yX10_rungOf cX10_rungOf 3 (some .int) ∈ TB := tbm_5 (List.mem_of_getElem? (i := 224) rfl) rfl
theorem tb1159 : Cond.methodLink RL 169 yX10_download ∈ TB := tbm_5 (List.mem_of_getElem? (i := 225) rfl) rfl
theorem tb1160 : Cond.instanceMethod yX10_download ∈ TB := tbm_5 (List.mem_of_getElem? (i := 226) rfl) rfl
theorem tb1161 : Cond.selects RX10 yX10_download yX10_download ∈ TB := tbm_5 (List.mem_of_getElem? (i := 227) rfl) rfl
theorem tb1162 : Cond.code yX10_download cX10_download 2 (some .int) ∈ TB := tbm_5 (List.mem_of_getElem? (i := 228) rfl) rfl
theorem tb1163 : Cond.methodLink RX10 187 yX10_ofDownload ∈ TB := tbm_5 (List.mem_of_getElem? (i := 229) rfl) rfl
theorem tb1164 : Cond.instanceMethod yX10_ofDownload ∈ TB := tbm_5 (List.mem_of_getElem? (i := 231) rfl) rfl
theorem tb1165 : Cond.code yX10_ofDownload cX10_ofDownload 2 (some .int) ∈ TB := tbm_5 (List.mem_of_getElem? (i := 232) rfl) rfl
theorem tb1166 : Cond.methodLink RL 172 yX10_received ∈ TB := tbm_5 (List.mem_of_getElem? (i := 233) rfl) rfl
theorem tb1167 : Cond.instanceMethod yX10_received ∈ TB := tbm_5 (List.mem_of_getElem? (i := 234) rfl) rfl
theorem tb1168 : Cond.selects RX10 yX10_received yX10_received ∈ TB := tbm_5 (List.mem_of_getElem? (i := 235) rfl) rfl
theorem tb1169 : Cond.code yX10_received cX10_received 1 (some .long) ∈ TB := tbm_5 (List.mem_of_getElem? (i := 236) rfl) rfl
theorem tb1170 : Cond.methodLink RL 175 yX10_estimate ∈ TB := tbm_5 (List.mem_of_getElem? (i := 237) rfl) rfl
theorem tb1171 : Cond.instanceMethod yX10_estimate ∈ TB := tbm_5 (List.mem_of_getElem? (i := 238) rfl) rfl
theorem tb1172 : Cond.selects RX10 yX10_estimate yX10_estimate ∈ TB := tbm_5 (List.mem_of_getElem? (i := 239) rfl) rfl
theorem tb1173 : Cond.code yX10_estimate cX10_estimate 1 (some .int) ∈ TB := tbm_6 (List.mem_of_getElem? (i := 0) rfl) rfl
theorem tb1174 : Cond.methodLink RL 178 yX10_nextRung ∈ TB := tbm_6 (List.mem_of_getElem? (i := 1) rfl) rfl
theorem tb1175 : Cond.instanceMethod yX10_nextRung ∈ TB := tbm_6 (List.mem_of_getElem? (i := 2) rfl) rfl
theorem tb1176 : Cond.selects RX10 yX10_nextRung yX10_nextRung ∈ TB := tbm_6 (List.mem_of_getElem? (i := 3) rfl) rfl
theorem tb1177 : Cond.code yX10_nextRung cX10_nextRung 1 (some .int) ∈ TB := tbm_6 (List.mem_of_getElem? (i := 4) rfl) rfl
theorem tb1178 : Cond.methodLink RL 181 yX10_latency ∈ TB := tbm_6 (List.mem_of_getElem? (i := 5) rfl) rfl
theorem tb1179 : Cond.instanceMethod yX10_latency ∈ TB := tbm_6 (List.mem_of_getElem? (i := 6) rfl) rfl
theorem tb1180 : Cond.selects RX10 yX10_latency yX10_latency ∈ TB := tbm_6 (List.mem_of_getElem? (i := 7) rfl) rfl
theorem tb1181 : Cond.code yX10_latency cX10_latency 1 (some .int) ∈ TB := tbm_6 (List.mem_of_getElem? (i := 8) rfl) rfl
theorem tb1182 : Cond.methodLink RL 184 yX10_spent ∈ TB := tbm_6 (List.mem_of_getElem? (i := 9) rfl) rfl
theorem tb1183 : Cond.instanceMethod yX10_spent ∈ TB := tbm_6 (List.mem_of_getElem? (i := 10) rfl) rfl
theorem tb1184 : Cond.selects RX10 yX10_spent yX10_spent ∈ TB := tbm_6 (List.mem_of_getElem? (i := 11) rfl) rfl
theorem tb1185 : Cond.code yX10_spent cX10_spent 2 (some .int) ∈ TB := tbm_6 (List.mem_of_getElem? (i := 12) rfl) rfl
theorem tb1186 : Cond.methodLink RL 187 yX10_count ∈ TB := tbm_6 (List.mem_of_getElem? (i := 13) rfl) rfl
theorem tb1187 : Cond.instanceMethod yX10_count ∈ TB := tbm_6 (List.mem_of_getElem? (i := 14) rfl) rfl
theorem tb1188 : Cond.selects RX10 yX10_count yX10_count ∈ TB := tbm_6 (List.mem_of_getElem? (i := 15) rfl) rfl
theorem tb1189 : Cond.code yX10_count cX10_count 2 (some .int) ∈ TB := tbm_6 (List.mem_of_getElem? (i := 16) rfl) rfl
theorem tb1190 : Cond.methodLink RX10 190 yX10_counted ∈ TB := tbm_6 (List.mem_of_getElem? (i := 17) rfl) rfl
theorem tb1191 : Cond.instanceMethod yX10_counted ∈ TB := tbm_6 (List.mem_of_getElem? (i := 19) rfl) rfl
theorem tb1192 : Cond.code yX10_counted cX10_counted 4 (some .int) ∈ TB := tbm_6 (List.mem_of_getElem? (i := 20) rfl) rfl
theorem tb1193 : Cond.methodLink RL 190 yX10_wasted ∈ TB := tbm_6 (List.mem_of_getElem? (i := 21) rfl) rfl
theorem tb1194 : Cond.instanceMethod yX10_wasted ∈ TB := tbm_6 (List.mem_of_getElem? (i := 22) rfl) rfl
theorem tb1195 : Cond.selects RX10 yX10_wasted yX10_wasted ∈ TB := tbm_6 (List.mem_of_getElem? (i := 23) rfl) rfl
theorem tb1196 : Cond.code yX10_wasted cX10_wasted 1 (some .long) ∈ TB := tbm_6 (List.mem_of_getElem? (i := 24) rfl) rfl
theorem tb1197 : Cond.methodLink RL 193 yX10_quality ∈ TB := tbm_6 (List.mem_of_getElem? (i := 25) rfl) rfl
theorem tb1198 : Cond.instanceMethod yX10_quality ∈ TB := tbm_6 (List.mem_of_getElem? (i := 26) rfl) rfl
theorem tb1199 : Cond.selects RX10 yX10_quality yX10_quality ∈ TB := tbm_6 (List.mem_of_getElem? (i := 27) rfl) rfl
theorem tb1200 : Cond.code yX10_quality cX10_quality 1 (some .long) ∈ TB := tbm_6 (List.mem_of_getElem? (i := 28) rfl) rfl
theorem tb1201 : Cond.methodLink RL 196 yX10_score ∈ TB := tbm_6 (List.mem_of_getElem? (i := 29) rfl) rfl
theorem tb1202 : Cond.instanceMethod yX10_score ∈ TB := tbm_6 (List.mem_of_getElem? (i := 30) rfl) rfl
theorem tb1203 : Cond.selects RX10 yX10_score yX10_score ∈ TB := tbm_6 (List.mem_of_getElem? (i := 31) rfl) rfl
theorem tb1204 : Cond.code yX10_score cX10_score 1 (some .long) ∈ TB := tbm_6 (List.mem_of_getElem? (i := 32) rfl) rfl
theorem tb1205 : Cond.methodLink RX10 193 yX10_scoreOf ∈ TB := tbm_6 (List.mem_of_getElem? (i := 33) rfl) rfl
theorem tb1206 : Cond.instanceMethod yX10_scoreOf ∈ TB := tbm_6 (List.mem_of_getElem? (i := 35) rfl) rfl
theorem tb1207 : Cond.code yX10_scoreOf cX10_scoreOf 2 (some .long) ∈ TB := tbm_6 (List.mem_of_getElem? (i := 36) rfl) rfl
theorem tb1208 : Cond.methodLink RL 199 yX10_timeLine ∈ TB := tbm_6 (List.mem_of_getElem? (i := 37) rfl) rfl
theorem tb1209 : Cond.instanceMethod yX10_timeLine ∈ TB := tbm_6 (List.mem_of_getElem? (i := 38) rfl) rfl
theorem tb1210 : Cond.selects RX10 yX10_timeLine yX10_timeLine ∈ TB := tbm_6 (List.mem_of_getElem? (i := 39) rfl) rfl
theorem tb1211 : Cond.code yX10_timeLine cX10_timeLine 2 (some .int) ∈ TB := tbm_6 (List.mem_of_getElem? (i := 40) rfl) rfl
theorem tb1212 : Cond.methodLink RL 202 yX10_forecast ∈ TB := tbm_6 (List.mem_of_getElem? (i := 41) rfl) rfl
theorem tb1213 : Cond.instanceMethod yX10_forecast ∈ TB := tbm_6 (List.mem_of_getElem? (i := 42) rfl) rfl
theorem tb1214 : Cond.selects RX10 yX10_forecast yX10_forecast ∈ TB := tbm_6 (List.mem_of_getElem? (i := 43) rfl) rfl
theorem tb1215 : Cond.code yX10_forecast cX10_forecast 5 (some .int) ∈ TB := tbm_6 (List.mem_of_getElem? (i := 44) rfl) rfl
theorem tb1216 : Cond.methodLink RL 205 yX10_trialScore ∈ TB := tbm_6 (List.mem_of_getElem? (i := 45) rfl) rfl
theorem tb1217 : Cond.instanceMethod yX10_trialScore ∈ TB := tbm_6 (List.mem_of_getElem? (i := 46) rfl) rfl
theorem tb1218 : Cond.selects RX10 yX10_trialScore yX10_trialScore ∈ TB := tbm_6 (List.mem_of_getElem? (i := 47) rfl) rfl
theorem tb1219 : Cond.code yX10_trialScore cX10_trialScore 3 (some .long) ∈ TB := tbm_6 (List.mem_of_getElem? (i := 48) rfl) rfl
theorem tb1220 : Cond.methodLink RX10 196 yX10_scoreBy ∈ TB := tbm_6 (List.mem_of_getElem? (i := 49) rfl) rfl
theorem tb1221 : Cond.instanceMethod yX10_scoreBy ∈ TB := tbm_6 (List.mem_of_getElem? (i := 51) rfl) rfl
theorem tb1222 : Cond.code yX10_scoreBy cX10_scoreBy 3 (some .long) ∈ TB := tbm_6 (List.mem_of_getElem? (i := 52) rfl) rfl
theorem tb1223 : Cond.methodLink RL 208 yX10_bestMode ∈ TB := tbm_6 (List.mem_of_getElem? (i := 53) rfl) rfl
theorem tb1224 : Cond.instanceMethod yX10_bestMode ∈ TB := tbm_6 (List.mem_of_getElem? (i := 54) rfl) rfl
theorem tb1225 : Cond.selects RX10 yX10_bestMode yX10_bestMode ∈ TB := tbm_6 (List.mem_of_getElem? (i := 55) rfl) rfl
theorem tb1226 : Cond.code yX10_bestMode cX10_bestMode 8 (some .int) ∈ TB := tbm_6 (List.mem_of_getElem? (i := 56) rfl) rfl
theorem tb1227 : Cond.methodLink RX10 200 yX10_isTrial ∈ TB := tbm_6 (List.mem_of_getElem? (i := 57) rfl) rfl
theorem tb1228 : Cond.instanceMethod yX10_isTrial ∈ TB := tbm_6 (List.mem_of_getElem? (i := 59) rfl) rfl
theorem tb1229 : Cond.code yX10_isTrial cX10_isTrial 2 (some .boolean) ∈ TB := tbm_6 (List.mem_of_getElem? (i := 60) rfl) rfl
theorem tb1230 : Cond.methodLink RL 211 yX10_leastStart ∈ TB := tbm_6 (List.mem_of_getElem? (i := 61) rfl) rfl
theorem tb1231 : Cond.instanceMethod yX10_leastStart ∈ TB := tbm_6 (List.mem_of_getElem? (i := 62) rfl) rfl
theorem tb1232 : Cond.selects RX10 yX10_leastStart yX10_leastStart ∈ TB := tbm_6 (List.mem_of_getElem? (i := 63) rfl) rfl
theorem tb1233 : Cond.code yX10_leastStart cX10_leastStart 4 (some .int) ∈ TB := tbm_6 (List.mem_of_getElem? (i := 64) rfl) rfl
theorem tb1234 : Cond.methodLink RL 215 yX10_fingerprint ∈ TB := tbm_6 (List.mem_of_getElem? (i := 65) rfl) rfl
theorem tb1235 : Cond.instanceMethod yX10_fingerprint ∈ TB := tbm_6 (List.mem_of_getElem? (i := 66) rfl) rfl
theorem tb1236 : Cond.selects RX10 yX10_fingerprint yX10_fingerprint ∈ TB := tbm_6 (List.mem_of_getElem? (i := 67) rfl) rfl
theorem tb1237 : Cond.code yX10_fingerprint cX10_fingerprint 4 (some .long) ∈ TB := tbm_6 (List.mem_of_getElem? (i := 68) rfl) rfl
theorem tb1238 : Cond.constantLong RX10 204 1829 ∈ TB := tbm_6 (List.mem_of_getElem? (i := 69) rfl) rfl
theorem tb1239 : Cond.sameMethod "java/lang/Throwable" "java/lang/Throwable" "fillInStackTrace" "(I)Ljava/lang/Throwable;" ∈ TB := tbm_6 (List.mem_of_getElem? (i := 70) rfl) rfl
theorem iwX0 : ∀ w ∈ u_ws RX0 TX0 9, w ∈ TB := by
  intro w hw
  have hw : w ∈ [u_lay RX0 TX0 0, u_lay RX0 TX0 1, u_lay RX0 TX0 2, u_lay RX0 TX0 3, u_lay RX0 TX0 4, u_lay RX0 TX0 5, u_lay RX0 TX0 6, u_lay RX0 TX0 7, u_lay RX0 TX0 8] := hw
  simp only [List.mem_cons, List.not_mem_nil, or_false] at hw
  rcases hw with rfl | rfl | rfl | rfl | rfl | rfl | rfl | rfl | rfl
  · exact tb239
  · exact tb241
  · exact tb243
  · exact tb245
  · exact tb247
  · exact tb249
  · exact tb251
  · exact tb253
  · exact tb255
theorem iwX1 : ∀ w ∈ u_ws RX1 TX1 8, w ∈ TB := by
  intro w hw
  have hw : w ∈ [u_lay RX1 TX1 0, u_lay RX1 TX1 1, u_lay RX1 TX1 2, u_lay RX1 TX1 3, u_lay RX1 TX1 4, u_lay RX1 TX1 5, u_lay RX1 TX1 6, u_lay RX1 TX1 7] := hw
  simp only [List.mem_cons, List.not_mem_nil, or_false] at hw
  rcases hw with rfl | rfl | rfl | rfl | rfl | rfl | rfl | rfl
  · exact tb199
  · exact tb201
  · exact tb203
  · exact tb205
  · exact tb207
  · exact tb209
  · exact tb211
  · exact tb213
theorem iwX2 : ∀ w ∈ u_ws RX2 TX2 3, w ∈ TB := by
  intro w hw
  have hw : w ∈ [u_lay RX2 TX2 0, u_lay RX2 TX2 1, u_lay RX2 TX2 2] := hw
  simp only [List.mem_cons, List.not_mem_nil, or_false] at hw
  rcases hw with rfl | rfl | rfl
  · exact tb97
  · exact tb99
  · exact tb101
theorem iwX3 : ∀ w ∈ u_ws RX3 TX3 2, w ∈ TB := by
  intro w hw
  have hw : w ∈ [u_lay RX3 TX3 0, u_lay RX3 TX3 1] := hw
  simp only [List.mem_cons, List.not_mem_nil, or_false] at hw
  rcases hw with rfl | rfl
  · exact tb265
  · exact tb267
theorem iwX4 : ∀ w ∈ u_ws RX4 TX4 4, w ∈ TB := by
  intro w hw
  have hw : w ∈ [u_lay RX4 TX4 0, u_lay RX4 TX4 1, u_lay RX4 TX4 2, u_lay RX4 TX4 3] := hw
  simp only [List.mem_cons, List.not_mem_nil, or_false] at hw
  rcases hw with rfl | rfl | rfl | rfl
  · exact tb116
  · exact tb118
  · exact tb120
  · exact tb122
theorem iwX5 : ∀ w ∈ u_ws RX5 TX5 3, w ∈ TB := by
  intro w hw
  have hw : w ∈ [u_lay RX5 TX5 0, u_lay RX5 TX5 1, u_lay RX5 TX5 2] := hw
  simp only [List.mem_cons, List.not_mem_nil, or_false] at hw
  rcases hw with rfl | rfl | rfl
  · exact tb170
  · exact tb172
  · exact tb174
theorem iwX6 : ∀ w ∈ u_ws RX6 TX6 14, w ∈ TB := by
  intro w hw
  have hw : w ∈ [u_lay RX6 TX6 0, u_lay RX6 TX6 1, u_lay RX6 TX6 2, u_lay RX6 TX6 3, u_lay RX6 TX6 4, u_lay RX6 TX6 5, u_lay RX6 TX6 6, u_lay RX6 TX6 7, u_lay RX6 TX6 8, u_lay RX6 TX6 9, u_lay RX6 TX6 10, u_lay RX6 TX6 11, u_lay RX6 TX6 12, u_lay RX6 TX6 13] := hw
  simp only [List.mem_cons, List.not_mem_nil, or_false] at hw
  rcases hw with rfl | rfl | rfl | rfl | rfl | rfl | rfl | rfl | rfl | rfl | rfl | rfl | rfl | rfl
  · exact tb291
  · exact tb293
  · exact tb295
  · exact tb297
  · exact tb299
  · exact tb301
  · exact tb303
  · exact tb305
  · exact tb307
  · exact tb309
  · exact tb311
  · exact tb313
  · exact tb315
  · exact tb317
theorem iwX7 : ∀ w ∈ u_ws RX7 TX7 2, w ∈ TB := by
  intro w hw
  have hw : w ∈ [u_lay RX7 TX7 0, u_lay RX7 TX7 1] := hw
  simp only [List.mem_cons, List.not_mem_nil, or_false] at hw
  rcases hw with rfl | rfl
  · exact tb157
  · exact tb159
theorem iwX8 : ∀ w ∈ u_ws RX8 TX8 4, w ∈ TB := by
  intro w hw
  have hw : w ∈ [u_lay RX8 TX8 0, u_lay RX8 TX8 1, u_lay RX8 TX8 2, u_lay RX8 TX8 3] := hw
  simp only [List.mem_cons, List.not_mem_nil, or_false] at hw
  rcases hw with rfl | rfl | rfl | rfl
  · exact tb133
  · exact tb135
  · exact tb137
  · exact tb139
theorem iwX9 : ∀ w ∈ u_ws RX9 TX9 3, w ∈ TB := by
  intro w hw
  have hw : w ∈ [u_lay RX9 TX9 0, u_lay RX9 TX9 1, u_lay RX9 TX9 2] := hw
  simp only [List.mem_cons, List.not_mem_nil, or_false] at hw
  rcases hw with rfl | rfl | rfl
  · exact tb323
  · exact tb325
  · exact tb327
theorem iwX10 : ∀ w ∈ u_ws RX10 TX10 10, w ∈ TB := by
  intro w hw
  have hw : w ∈ [u_lay RX10 TX10 0, u_lay RX10 TX10 1, u_lay RX10 TX10 2, u_lay RX10 TX10 3, u_lay RX10 TX10 4, u_lay RX10 TX10 5, u_lay RX10 TX10 6, u_lay RX10 TX10 7, u_lay RX10 TX10 8, u_lay RX10 TX10 9] := hw
  simp only [List.mem_cons, List.not_mem_nil, or_false] at hw
  rcases hw with rfl | rfl | rfl | rfl | rfl | rfl | rfl | rfl | rfl | rfl
  · exact tb971
  · exact tb973
  · exact tb975
  · exact tb977
  · exact tb979
  · exact tb981
  · exact tb983
  · exact tb985
  · exact tb987
  · exact tb989
