-- names, out of the claim's printed names; the tables' good words as one list TB, each by its place
def RX0 : String := "StreamPlayer$Accounts"
def TX0 : u_T := fun k => match k with
  | 0 => ("StreamPlayer$Accounts", "startUpTime", "I", false)
  | 1 => ("StreamPlayer$Accounts", "stallTime", "I", false)
  | 2 => ("StreamPlayer$Accounts", "playTime", "I", false)
  | 3 => ("StreamPlayer$Accounts", "stalls", "I", false)
  | 4 => ("StreamPlayer$Accounts", "abandoned", "I", false)
  | 5 => ("StreamPlayer$Accounts", "finished", "I", false)
  | 6 => ("StreamPlayer$Accounts", "switches", "I", false)
  | 7 => ("StreamPlayer$Accounts", "wasted", "J", false)
  | _ => ("StreamPlayer$Accounts", "quality", "J", false)
def tyX0 : Nat → FieldType := fun k => match k with
  | 0 => .int
  | 1 => .int
  | 2 => .int
  | 3 => .int
  | 4 => .int
  | 5 => .int
  | 6 => .int
  | 7 => .long
  | _ => .long
theorem nmX0 : ∀ a, a < 9 → ∀ b, b < 9 → a ≠ b → (TX0 a).2.1 ≠ (TX0 b).2.1 := by decide +kernel
theorem tyX0_ok : ∀ k, k < 9 → parseFieldDescriptor (TX0 k).2.2.1 = some (tyX0 k) := by decide +kernel
abbrev cX0_init : ByteArray := prog_2_method_1_code
def yX0_init : MethodName := ⟨RX0, "<init>", "()V"⟩
abbrev cX0_empty : ByteArray := prog_2_method_2_code
def yX0_empty : MethodName := ⟨RX0, "empty", "()V"⟩
abbrev cX0_copyFrom : ByteArray := prog_2_method_3_code
def yX0_copyFrom : MethodName := ⟨RX0, "copyFrom", "(LStreamPlayer$Accounts;)V"⟩
abbrev cX0_spendIn : ByteArray := prog_2_method_4_code
def yX0_spendIn : MethodName := ⟨RX0, "spendIn", "(I)V"⟩
abbrev cX0_timeSpent : ByteArray := prog_2_method_5_code
def yX0_timeSpent : MethodName := ⟨RX0, "timeSpent", "(I)I"⟩
abbrev cX0_eventsOf : ByteArray := prog_2_method_6_code
def yX0_eventsOf : MethodName := ⟨RX0, "eventsOf", "(I)I"⟩
def RX1 : String := "StreamPlayer$Download"
def TX1 : u_T := fun k => match k with
  | 0 => ("StreamPlayer$Download", "going", "Z", false)
  | 1 => ("StreamPlayer$Download", "track", "I", false)
  | 2 => ("StreamPlayer$Download", "segment", "I", false)
  | 3 => ("StreamPlayer$Download", "rung", "I", false)
  | 4 => ("StreamPlayer$Download", "waiting", "I", false)
  | 5 => ("StreamPlayer$Download", "duration", "I", false)
  | 6 => ("StreamPlayer$Download", "bits", "J", false)
  | _ => ("StreamPlayer$Download", "received", "J", false)
def tyX1 : Nat → FieldType := fun k => match k with
  | 0 => .boolean
  | 1 => .int
  | 2 => .int
  | 3 => .int
  | 4 => .int
  | 5 => .int
  | 6 => .long
  | _ => .long
theorem nmX1 : ∀ a, a < 8 → ∀ b, b < 8 → a ≠ b → (TX1 a).2.1 ≠ (TX1 b).2.1 := by decide +kernel
theorem tyX1_ok : ∀ k, k < 8 → parseFieldDescriptor (TX1 k).2.2.1 = some (tyX1 k) := by decide +kernel
abbrev cX1_init : ByteArray := prog_3_method_1_code
def yX1_init : MethodName := ⟨RX1, "<init>", "()V"⟩
abbrev cX1_copyFrom : ByteArray := prog_3_method_2_code
def yX1_copyFrom : MethodName := ⟨RX1, "copyFrom", "(LStreamPlayer$Download;)V"⟩
abbrev cX1_fact : ByteArray := prog_3_method_3_code
def yX1_fact : MethodName := ⟨RX1, "fact", "(I)I"⟩
abbrev cX1_receivedOrNone : ByteArray := prog_3_method_4_code
def yX1_receivedOrNone : MethodName := ⟨RX1, "receivedOrNone", "()J"⟩
abbrev cX1_isWhole : ByteArray := prog_3_method_5_code
def yX1_isWhole : MethodName := ⟨RX1, "isWhole", "()Z"⟩
abbrev cX1_receiveAt : ByteArray := prog_3_method_6_code
def yX1_receiveAt : MethodName := ⟨RX1, "receiveAt", "(I)V"⟩
abbrev cX1_timeFor : ByteArray := prog_3_method_7_code
def yX1_timeFor : MethodName := ⟨RX1, "timeFor", "(J)J"⟩
def RX2 : String := "StreamPlayer$Ladder"
def TX2 : u_T := fun k => match k with
  | 0 => ("StreamPlayer$Ladder", "rates", "[I", true)
  | 1 => ("StreamPlayer$Ladder", "most", "I", true)
  | _ => ("StreamPlayer$Ladder", "rungs", "I", false)
def tyX2 : Nat → FieldType := fun k => match k with
  | 0 => .array .int
  | 1 => .int
  | _ => .int
theorem nmX2 : ∀ a, a < 3 → ∀ b, b < 3 → a ≠ b → (TX2 a).2.1 ≠ (TX2 b).2.1 := by decide +kernel
theorem tyX2_ok : ∀ k, k < 3 → parseFieldDescriptor (TX2 k).2.2.1 = some (tyX2 k) := by decide +kernel
abbrev cX2_init : ByteArray := prog_4_method_1_code
def yX2_init : MethodName := ⟨RX2, "<init>", "(I)V"⟩
abbrev cX2_isFull : ByteArray := prog_4_method_2_code
def yX2_isFull : MethodName := ⟨RX2, "isFull", "()Z"⟩
abbrev cX2_addTop : ByteArray := prog_4_method_3_code
def yX2_addTop : MethodName := ⟨RX2, "addTop", "(I)I"⟩
abbrev cX2_rateOf : ByteArray := prog_4_method_4_code
def yX2_rateOf : MethodName := ⟨RX2, "rateOf", "(I)I"⟩
abbrev cX2_topRate : ByteArray := prog_4_method_5_code
def yX2_topRate : MethodName := ⟨RX2, "topRate", "()I"⟩
def RX3 : String := "StreamPlayer$Line"
def TX3 : u_T := fun k => match k with
  | 0 => ("StreamPlayer$Line", "signs", "[C", true)
  | _ => ("StreamPlayer$Line", "length", "I", false)
def tyX3 : Nat → FieldType := fun k => match k with
  | 0 => .array .char
  | _ => .int
theorem nmX3 : ∀ a, a < 2 → ∀ b, b < 2 → a ≠ b → (TX3 a).2.1 ≠ (TX3 b).2.1 := by decide +kernel
theorem tyX3_ok : ∀ k, k < 2 → parseFieldDescriptor (TX3 k).2.2.1 = some (tyX3 k) := by decide +kernel
abbrev cX3_init : ByteArray := prog_5_method_1_code
def yX3_init : MethodName := ⟨RX3, "<init>", "()V"⟩
abbrev cX3_empty : ByteArray := prog_5_method_2_code
def yX3_empty : MethodName := ⟨RX3, "empty", "()V"⟩
abbrev cX3_copyFrom : ByteArray := prog_5_method_3_code
def yX3_copyFrom : MethodName := ⟨RX3, "copyFrom", "(LStreamPlayer$Line;)V"⟩
abbrev cX3_put : ByteArray := prog_5_method_4_code
def yX3_put : MethodName := ⟨RX3, "put", "(C)V"⟩
abbrev cX3_signAt : ByteArray := prog_5_method_5_code
def yX3_signAt : MethodName := ⟨RX3, "signAt", "(I)I"⟩
def RX4 : String := "StreamPlayer$Plan"
def TX4 : u_T := fun k => match k with
  | 0 => ("StreamPlayer$Plan", "lengths", "[I", true)
  | 1 => ("StreamPlayer$Plan", "rates", "[I", true)
  | 2 => ("StreamPlayer$Plan", "total", "I", false)
  | _ => ("StreamPlayer$Plan", "phases", "I", false)
def tyX4 : Nat → FieldType := fun k => match k with
  | 0 => .array .int
  | 1 => .array .int
  | 2 => .int
  | _ => .int
theorem nmX4 : ∀ a, a < 4 → ∀ b, b < 4 → a ≠ b → (TX4 a).2.1 ≠ (TX4 b).2.1 := by decide +kernel
theorem tyX4_ok : ∀ k, k < 4 → parseFieldDescriptor (TX4 k).2.2.1 = some (tyX4 k) := by decide +kernel
abbrev cX4_init : ByteArray := prog_6_method_1_code
def yX4_init : MethodName := ⟨RX4, "<init>", "()V"⟩
abbrev cX4_isFull : ByteArray := prog_6_method_2_code
def yX4_isFull : MethodName := ⟨RX4, "isFull", "()Z"⟩
abbrev cX4_append : ByteArray := prog_6_method_3_code
def yX4_append : MethodName := ⟨RX4, "append", "(II)I"⟩
abbrev cX4_empty : ByteArray := prog_6_method_4_code
def yX4_empty : MethodName := ⟨RX4, "empty", "()V"⟩
abbrev cX4_rateAt : ByteArray := prog_6_method_5_code
def yX4_rateAt : MethodName := ⟨RX4, "rateAt", "(I)I"⟩
def RX5 : String := "StreamPlayer$Samples"
def TX5 : u_T := fun k => match k with
  | 0 => ("StreamPlayer$Samples", "bits", "[J", true)
  | 1 => ("StreamPlayer$Samples", "durations", "[J", true)
  | _ => ("StreamPlayer$Samples", "kept", "I", false)
def tyX5 : Nat → FieldType := fun k => match k with
  | 0 => .array .long
  | 1 => .array .long
  | _ => .int
theorem nmX5 : ∀ a, a < 3 → ∀ b, b < 3 → a ≠ b → (TX5 a).2.1 ≠ (TX5 b).2.1 := by decide +kernel
theorem tyX5_ok : ∀ k, k < 3 → parseFieldDescriptor (TX5 k).2.2.1 = some (tyX5 k) := by decide +kernel
abbrev cX5_init : ByteArray := prog_7_method_1_code
def yX5_init : MethodName := ⟨RX5, "<init>", "()V"⟩
abbrev cX5_empty : ByteArray := prog_7_method_2_code
def yX5_empty : MethodName := ⟨RX5, "empty", "()V"⟩
abbrev cX5_copyFrom : ByteArray := prog_7_method_3_code
def yX5_copyFrom : MethodName := ⟨RX5, "copyFrom", "(LStreamPlayer$Samples;)V"⟩
abbrev cX5_put : ByteArray := prog_7_method_4_code
def yX5_put : MethodName := ⟨RX5, "put", "(JJ)V"⟩
abbrev cX5_rateOver : ByteArray := prog_7_method_5_code
def yX5_rateOver : MethodName := ⟨RX5, "rateOver", "(I)I"⟩
def RX6 : String := "StreamPlayer$Session"
def TX6 : u_T := fun k => match k with
  | 0 => ("StreamPlayer$Session", "stream", "LStreamPlayer$Stream;", true)
  | 1 => ("StreamPlayer$Session", "video", "LStreamPlayer$Shelf;", true)
  | 2 => ("StreamPlayer$Session", "audio", "LStreamPlayer$Shelf;", true)
  | 3 => ("StreamPlayer$Session", "samples", "LStreamPlayer$Samples;", true)
  | 4 => ("StreamPlayer$Session", "download", "LStreamPlayer$Download;", true)
  | 5 => ("StreamPlayer$Session", "accounts", "LStreamPlayer$Accounts;", true)
  | 6 => ("StreamPlayer$Session", "line", "LStreamPlayer$Line;", true)
  | 7 => ("StreamPlayer$Session", "mode", "I", false)
  | 8 => ("StreamPlayer$Session", "startThreshold", "I", false)
  | 9 => ("StreamPlayer$Session", "lastRung", "I", false)
  | 10 => ("StreamPlayer$Session", "lastChange", "I", false)
  | 11 => ("StreamPlayer$Session", "state", "I", false)
  | 12 => ("StreamPlayer$Session", "time", "I", false)
  | _ => ("StreamPlayer$Session", "position", "I", false)
def tyX6 : Nat → FieldType := fun k => match k with
  | 0 => .object "StreamPlayer$Stream"
  | 1 => .object "StreamPlayer$Shelf"
  | 2 => .object "StreamPlayer$Shelf"
  | 3 => .object "StreamPlayer$Samples"
  | 4 => .object "StreamPlayer$Download"
  | 5 => .object "StreamPlayer$Accounts"
  | 6 => .object "StreamPlayer$Line"
  | 7 => .int
  | 8 => .int
  | 9 => .int
  | 10 => .int
  | 11 => .int
  | 12 => .int
  | _ => .int
theorem nmX6 : ∀ a, a < 14 → ∀ b, b < 14 → a ≠ b → (TX6 a).2.1 ≠ (TX6 b).2.1 := by decide +kernel
theorem tyX6_ok : ∀ k, k < 14 → parseFieldDescriptor (TX6 k).2.2.1 = some (tyX6 k) := by decide +kernel
abbrev cX6_init : ByteArray := prog_8_method_1_code
def yX6_init : MethodName := ⟨RX6, "<init>", "(LStreamPlayer$Stream;)V"⟩
abbrev cX6_begin : ByteArray := prog_8_method_2_code
def yX6_begin : MethodName := ⟨RX6, "begin", "(II)V"⟩
abbrev cX6_copyFrom : ByteArray := prog_8_method_3_code
def yX6_copyFrom : MethodName := ⟨RX6, "copyFrom", "(LStreamPlayer$Session;)V"⟩
abbrev cX6_advance : ByteArray := prog_8_method_4_code
def yX6_advance : MethodName := ⟨RX6, "advance", "(I)V"⟩
abbrev cX6_signNow : ByteArray := prog_8_method_5_code
def yX6_signNow : MethodName := ⟨RX6, "signNow", "()C"⟩
abbrev cX6_beginNext : ByteArray := prog_8_method_6_code
def yX6_beginNext : MethodName := ⟨RX6, "beginNext", "()V"⟩
abbrev cX6_hasNext : ByteArray := prog_8_method_7_code
def yX6_hasNext : MethodName := ⟨RX6, "hasNext", "(I)Z"⟩
abbrev cX6_beginDownload : ByteArray := prog_8_method_8_code
def yX6_beginDownload : MethodName := ⟨RX6, "beginDownload", "(III)V"⟩
abbrev cX6_receive : ByteArray := prog_8_method_9_code
def yX6_receive : MethodName := ⟨RX6, "receive", "()V"⟩
abbrev cX6_mayBeAbandoned : ByteArray := prog_8_method_10_code
def yX6_mayBeAbandoned : MethodName := ⟨RX6, "mayBeAbandoned", "()Z"⟩
abbrev cX6_abandonIfSlow : ByteArray := prog_8_method_11_code
def yX6_abandonIfSlow : MethodName := ⟨RX6, "abandonIfSlow", "()V"⟩
abbrev cX6_isReadyToPlay : ByteArray := prog_8_method_12_code
def yX6_isReadyToPlay : MethodName := ⟨RX6, "isReadyToPlay", "()Z"⟩
abbrev cX6_isAllDownloaded : ByteArray := prog_8_method_13_code
def yX6_isAllDownloaded : MethodName := ⟨RX6, "isAllDownloaded", "()Z"⟩
abbrev cX6_play : ByteArray := prog_8_method_14_code
def yX6_play : MethodName := ⟨RX6, "play", "()V"⟩
abbrev cX6_leavePlaying : ByteArray := prog_8_method_15_code
def yX6_leavePlaying : MethodName := ⟨RX6, "leavePlaying", "()V"⟩
abbrev cX6_isCatchingUp : ByteArray := prog_8_method_16_code
def yX6_isCatchingUp : MethodName := ⟨RX6, "isCatchingUp", "(I)Z"⟩
abbrev cX6_behindLive : ByteArray := prog_8_method_17_code
def yX6_behindLive : MethodName := ⟨RX6, "behindLive", "()I"⟩
abbrev cX6_shelfOf : ByteArray := prog_8_method_18_code
def yX6_shelfOf : MethodName := ⟨RX6, "shelfOf", "(I)LStreamPlayer$Shelf;"⟩
abbrev cX6_bufferOf : ByteArray := prog_8_method_19_code
def yX6_bufferOf : MethodName := ⟨RX6, "bufferOf", "(I)I"⟩
abbrev cX6_smallestBuffer : ByteArray := prog_8_method_20_code
def yX6_smallestBuffer : MethodName := ⟨RX6, "smallestBuffer", "()I"⟩
abbrev cX6_throughput : ByteArray := prog_8_method_21_code
def yX6_throughput : MethodName := ⟨RX6, "throughput", "()I"⟩
abbrev cX6_videoRung : ByteArray := prog_8_method_22_code
def yX6_videoRung : MethodName := ⟨RX6, "videoRung", "()I"⟩
abbrev cX6_rungByThroughput : ByteArray := prog_8_method_23_code
def yX6_rungByThroughput : MethodName := ⟨RX6, "rungByThroughput", "(LStreamPlayer$Ladder;I)I"⟩
abbrev cX6_rungByBuffer : ByteArray := prog_8_method_24_code
def yX6_rungByBuffer : MethodName := ⟨RX6, "rungByBuffer", "()I"⟩
abbrev cX6_points : ByteArray := prog_8_method_25_code
def yX6_points : MethodName := ⟨RX6, "points", "()J"⟩
def RX7 : String := "StreamPlayer$Shelf"
def TX7 : u_T := fun k => match k with
  | 0 => ("StreamPlayer$Shelf", "rungs", "[I", true)
  | _ => ("StreamPlayer$Shelf", "segments", "I", false)
def tyX7 : Nat → FieldType := fun k => match k with
  | 0 => .array .int
  | _ => .int
theorem nmX7 : ∀ a, a < 2 → ∀ b, b < 2 → a ≠ b → (TX7 a).2.1 ≠ (TX7 b).2.1 := by decide +kernel
theorem tyX7_ok : ∀ k, k < 2 → parseFieldDescriptor (TX7 k).2.2.1 = some (tyX7 k) := by decide +kernel
abbrev cX7_init : ByteArray := prog_9_method_1_code
def yX7_init : MethodName := ⟨RX7, "<init>", "()V"⟩
abbrev cX7_empty : ByteArray := prog_9_method_2_code
def yX7_empty : MethodName := ⟨RX7, "empty", "()V"⟩
abbrev cX7_copyFrom : ByteArray := prog_9_method_3_code
def yX7_copyFrom : MethodName := ⟨RX7, "copyFrom", "(LStreamPlayer$Shelf;)V"⟩
abbrev cX7_put : ByteArray := prog_9_method_4_code
def yX7_put : MethodName := ⟨RX7, "put", "(I)V"⟩
abbrev cX7_rungAt : ByteArray := prog_9_method_5_code
def yX7_rungAt : MethodName := ⟨RX7, "rungAt", "(I)I"⟩
abbrev cX7_endsInSwitch : ByteArray := prog_9_method_6_code
def yX7_endsInSwitch : MethodName := ⟨RX7, "endsInSwitch", "()Z"⟩
def RX8 : String := "StreamPlayer$Stream"
def TX8 : u_T := fun k => match k with
  | 0 => ("StreamPlayer$Stream", "values", "[I", true)
  | 1 => ("StreamPlayer$Stream", "video", "LStreamPlayer$Ladder;", true)
  | 2 => ("StreamPlayer$Stream", "audio", "LStreamPlayer$Ladder;", true)
  | _ => ("StreamPlayer$Stream", "plan", "LStreamPlayer$Plan;", true)
def tyX8 : Nat → FieldType := fun k => match k with
  | 0 => .array .int
  | 1 => .object "StreamPlayer$Ladder"
  | 2 => .object "StreamPlayer$Ladder"
  | _ => .object "StreamPlayer$Plan"
theorem nmX8 : ∀ a, a < 4 → ∀ b, b < 4 → a ≠ b → (TX8 a).2.1 ≠ (TX8 b).2.1 := by decide +kernel
theorem tyX8_ok : ∀ k, k < 4 → parseFieldDescriptor (TX8 k).2.2.1 = some (tyX8 k) := by decide +kernel
abbrev cX8_init : ByteArray := prog_10_method_1_code
def yX8_init : MethodName := ⟨RX8, "<init>", "()V"⟩
abbrev cX8_allows : ByteArray := prog_10_method_2_code
def yX8_allows : MethodName := ⟨RX8, "allows", "(II)Z"⟩
abbrev cX8_valueOf : ByteArray := prog_10_method_3_code
def yX8_valueOf : MethodName := ⟨RX8, "valueOf", "(I)I"⟩
abbrev cX8_replaceValue : ByteArray := prog_10_method_4_code
def yX8_replaceValue : MethodName := ⟨RX8, "replaceValue", "(II)I"⟩
abbrev cX8_empty : ByteArray := prog_10_method_5_code
def yX8_empty : MethodName := ⟨RX8, "empty", "()V"⟩
abbrev cX8_ladderOf : ByteArray := prog_10_method_6_code
def yX8_ladderOf : MethodName := ⟨RX8, "ladderOf", "(I)LStreamPlayer$Ladder;"⟩
abbrev cX8_hasAudio : ByteArray := prog_10_method_7_code
def yX8_hasAudio : MethodName := ⟨RX8, "hasAudio", "()Z"⟩
abbrev cX8_isPlayable : ByteArray := prog_10_method_8_code
def yX8_isPlayable : MethodName := ⟨RX8, "isPlayable", "()Z"⟩
abbrev cX8_isLive : ByteArray := prog_10_method_9_code
def yX8_isLive : MethodName := ⟨RX8, "isLive", "()Z"⟩
abbrev cX8_isAvailable : ByteArray := prog_10_method_10_code
def yX8_isAvailable : MethodName := ⟨RX8, "isAvailable", "(II)Z"⟩
abbrev cX8_segmentAt : ByteArray := prog_10_method_11_code
def yX8_segmentAt : MethodName := ⟨RX8, "segmentAt", "(I)I"⟩
abbrev cX8_bitsOf : ByteArray := prog_10_method_12_code
def yX8_bitsOf : MethodName := ⟨RX8, "bitsOf", "(III)J"⟩
def RX9 : String := "StreamPlayer"
def TX9 : u_T := fun k => match k with
  | 0 => ("StreamPlayer", "stream", "LStreamPlayer$Stream;", true)
  | 1 => ("StreamPlayer", "session", "LStreamPlayer$Session;", true)
  | _ => ("StreamPlayer", "scratch", "LStreamPlayer$Session;", true)
def tyX9 : Nat → FieldType := fun k => match k with
  | 0 => .object "StreamPlayer$Stream"
  | 1 => .object "StreamPlayer$Session"
  | _ => .object "StreamPlayer$Session"
theorem nmX9 : ∀ a, a < 3 → ∀ b, b < 3 → a ≠ b → (TX9 a).2.1 ≠ (TX9 b).2.1 := by decide +kernel
theorem tyX9_ok : ∀ k, k < 3 → parseFieldDescriptor (TX9 k).2.2.1 = some (tyX9 k) := by decide +kernel
abbrev cX9_init : ByteArray := prog_1_method_1_code
def yX9_init : MethodName := ⟨RX9, "<init>", "()V"⟩
abbrev cX9_setParameter : ByteArray := prog_1_method_2_code
def yX9_setParameter : MethodName := ⟨RX9, "setParameter", "(II)I"⟩
abbrev cX9_addRung : ByteArray := prog_1_method_3_code
def yX9_addRung : MethodName := ⟨RX9, "addRung", "(II)I"⟩
abbrev cX9_addPhase : ByteArray := prog_1_method_4_code
def yX9_addPhase : MethodName := ⟨RX9, "addPhase", "(II)I"⟩
abbrev cX9_clear : ByteArray := prog_1_method_5_code
def yX9_clear : MethodName := ⟨RX9, "clear", "()I"⟩
abbrev cX9_size : ByteArray := prog_1_method_7_code
def yX9_size : MethodName := ⟨RX9, "size", "(III)J"⟩
abbrev cX9_start : ByteArray := prog_1_method_8_code
def yX9_start : MethodName := ⟨RX9, "start", "()I"⟩
abbrev cX9_stop : ByteArray := prog_1_method_9_code
def yX9_stop : MethodName := ⟨RX9, "stop", "()I"⟩
abbrev cX9_run : ByteArray := prog_1_method_10_code
def yX9_run : MethodName := ⟨RX9, "run", "(I)I"⟩
abbrev cX9_state : ByteArray := prog_1_method_11_code
def yX9_state : MethodName := ⟨RX9, "state", "()I"⟩
abbrev cX9_time : ByteArray := prog_1_method_12_code
def yX9_time : MethodName := ⟨RX9, "time", "()I"⟩
abbrev cX9_position : ByteArray := prog_1_method_13_code
def yX9_position : MethodName := ⟨RX9, "position", "()I"⟩
abbrev cX9_buffer : ByteArray := prog_1_method_14_code
def yX9_buffer : MethodName := ⟨RX9, "buffer", "(I)I"⟩
abbrev cX9_downloaded : ByteArray := prog_1_method_15_code
def yX9_downloaded : MethodName := ⟨RX9, "downloaded", "(I)I"⟩
abbrev cX9_rungOf : ByteArray := prog_1_method_16_code
def yX9_rungOf : MethodName := ⟨RX9, "rungOf", "(II)I"⟩
abbrev cX9_download : ByteArray := prog_1_method_17_code
def yX9_download : MethodName := ⟨RX9, "download", "(I)I"⟩
abbrev cX9_received : ByteArray := prog_1_method_18_code
def yX9_received : MethodName := ⟨RX9, "received", "()J"⟩
abbrev cX9_estimate : ByteArray := prog_1_method_19_code
def yX9_estimate : MethodName := ⟨RX9, "estimate", "()I"⟩
abbrev cX9_nextRung : ByteArray := prog_1_method_20_code
def yX9_nextRung : MethodName := ⟨RX9, "nextRung", "()I"⟩
abbrev cX9_spent : ByteArray := prog_1_method_22_code
def yX9_spent : MethodName := ⟨RX9, "spent", "(I)I"⟩
abbrev cX9_count : ByteArray := prog_1_method_23_code
def yX9_count : MethodName := ⟨RX9, "count", "(I)I"⟩
abbrev cX9_wasted : ByteArray := prog_1_method_24_code
def yX9_wasted : MethodName := ⟨RX9, "wasted", "()J"⟩
abbrev cX9_score : ByteArray := prog_1_method_26_code
def yX9_score : MethodName := ⟨RX9, "score", "()J"⟩
abbrev cX9_timeLine : ByteArray := prog_1_method_27_code
def yX9_timeLine : MethodName := ⟨RX9, "timeLine", "(I)I"⟩
abbrev cX9_forecast : ByteArray := prog_1_method_28_code
def yX9_forecast : MethodName := ⟨RX9, "forecast", "(II)I"⟩
abbrev cX9_trialScore : ByteArray := prog_1_method_29_code
def yX9_trialScore : MethodName := ⟨RX9, "trialScore", "(II)J"⟩
abbrev cX9_bestMode : ByteArray := prog_1_method_30_code
def yX9_bestMode : MethodName := ⟨RX9, "bestMode", "(I)I"⟩
abbrev cX9_leastStart : ByteArray := prog_1_method_31_code
def yX9_leastStart : MethodName := ⟨RX9, "leastStart", "(I)I"⟩
abbrev cX9_fingerprint : ByteArray := prog_1_method_32_code
def yX9_fingerprint : MethodName := ⟨RX9, "fingerprint", "()J"⟩
abbrev cX9_pointsInMode : ByteArray := prog_1_method_33_code
def yX9_pointsInMode : MethodName := ⟨RX9, "pointsInMode", "(II)J"⟩
abbrev cX9_playsWithoutStall : ByteArray := prog_1_method_34_code
def yX9_playsWithoutStall : MethodName := ⟨RX9, "playsWithoutStall", "(II)Z"⟩
abbrev cX9_mix : ByteArray := prog_1_method_35_code
def yX9_mix : MethodName := ⟨RX9, "mix", "(JJ)J"⟩
abbrev cX9_requireIndex : ByteArray := prog_1_method_36_code
def yX9_requireIndex : MethodName := ⟨RX9, "requireIndex", "(II)V"⟩
abbrev cX9_requireNotNegative : ByteArray := prog_1_method_37_code
def yX9_requireNotNegative : MethodName := ⟨RX9, "requireNotNegative", "(I)V"⟩
abbrev cX9_requireArgument : ByteArray := prog_1_method_38_code
def yX9_requireArgument : MethodName := ⟨RX9, "requireArgument", "(Z)V"⟩
abbrev cX9_requireMilliseconds : ByteArray := prog_1_method_39_code
def yX9_requireMilliseconds : MethodName := ⟨RX9, "requireMilliseconds", "(I)V"⟩
abbrev cX9_requireState : ByteArray := prog_1_method_40_code
def yX9_requireState : MethodName := ⟨RX9, "requireState", "(Z)V"⟩
abbrev cX9_requireSession : ByteArray := prog_1_method_41_code
def yX9_requireSession : MethodName := ⟨RX9, "requireSession", "()V"⟩
abbrev cX9_requireNoSession : ByteArray := prog_1_method_42_code
def yX9_requireNoSession : MethodName := ⟨RX9, "requireNoSession", "()V"⟩
def RX10 : String := "StreamPlayerModel"
def TX10 : u_T := fun k => match k with
  | _ => ("", "", "", false)
def tyX10 : Nat → FieldType := fun k => match k with
  | _ => .int
theorem nmX10 : ∀ a, a < 0 → ∀ b, b < 0 → a ≠ b → (TX10 a).2.1 ≠ (TX10 b).2.1 := by decide +kernel
theorem tyX10_ok : ∀ k, k < 0 → parseFieldDescriptor (TX10 k).2.2.1 = some (tyX10 k) := by decide +kernel
def RL : String := "StreamPlayerLaw"
abbrev cL_cell : ByteArray := method_2_code
def yL_cell : MethodName := ⟨RL, "cell", "([II)I"⟩
abbrev cL_up : ByteArray := method_3_code
def yL_up : MethodName := ⟨RL, "up", "(II)I"⟩
abbrev cL_set : ByteArray := method_4_code
def yL_set : MethodName := ⟨RL, "set", "(LStreamPlayer;II)I"⟩
abbrev cL_rung : ByteArray := method_5_code
def yL_rung : MethodName := ⟨RL, "rung", "(LStreamPlayer;II)I"⟩
abbrev cL_ran : ByteArray := method_6_code
def yL_ran : MethodName := ⟨RL, "ran", "(LStreamPlayer;I)I"⟩
abbrev cL_started : ByteArray := method_7_code
def yL_started : MethodName := ⟨RL, "started", "(LStreamPlayer;)I"⟩
abbrev cL_foretold : ByteArray := method_8_code
def yL_foretold : MethodName := ⟨RL, "foretold", "(LStreamPlayer;II)I"⟩
abbrev cL_trial : ByteArray := method_9_code
def yL_trial : MethodName := ⟨RL, "trial", "(LStreamPlayer;II)J"⟩
abbrev cL_fails : ByteArray := method_10_code
def yL_fails : MethodName := ⟨RL, "fails", "(LStreamPlayer;)Z"⟩
abbrev cL_settings : ByteArray := method_11_code
def yL_settings : MethodName := ⟨RL, "settings", "(LStreamPlayer;[I)I"⟩
abbrev cL_agrees : ByteArray := method_12_code
def yL_agrees : MethodName := ⟨RL, "agrees", "(LStreamPlayer;IZ)Z"⟩
abbrev cL_law : ByteArray := code
def yL_law : MethodName := ⟨RL, "law", "([I)Z"⟩
abbrev vwCl : List vw_C := [(RX0, TX0, 9), (RX1, TX1, 8), (RX2, TX2, 3), (RX3, TX3, 2), (RX4, TX4, 4), (RX5, TX5, 3), (RX6, TX6, 14), (RX7, TX7, 2), (RX8, TX8, 4), (RX9, TX9, 3)]
def TBs : List Cond := k2_sels lw_privs
def TB_1 : List Cond := tables_1_1.filter goodWord
def TB_2 : List Cond := tables_1_2.filter goodWord
def TB_3 : List Cond := tables_1_3.filter goodWord
def TB_4 : List Cond := tables_1_4.filter goodWord
def TB : List Cond := TBs ++ (TB_1 ++ (TB_2 ++ (TB_3 ++ (TB_4))))
theorem TBs_good : ∀ w ∈ TBs, goodWord w = true := by
  intro w hw
  obtain ⟨q, -, rfl⟩ := List.mem_map.mp hw
  rfl
theorem TB_spec {w : Cond} (h : w ∈ TB) : w ∈ TBs ∨ (w ∈ tables_1 ∧ goodWord w = true) := by
  unfold TB at h
  unfold tables_1
  simp only [List.mem_append, TB_1, TB_2, TB_3, TB_4, List.mem_filter] at h ⊢
  rcases h with h | h | h | h | h
  · exact Or.inl h
  · exact Or.inr ⟨Or.inl h.1, h.2⟩
  · exact Or.inr ⟨Or.inr (Or.inl h.1), h.2⟩
  · exact Or.inr ⟨Or.inr (Or.inr (Or.inl h.1)), h.2⟩
  · exact Or.inr ⟨Or.inr (Or.inr (Or.inr (h.1))), h.2⟩
theorem TB_good : ∀ w ∈ TB, goodWord w = true := fun w h => (TB_spec h).elim (TBs_good w) (fun q => q.2)
theorem TB_in : ∀ w ∈ TB, w ∈ lw_tbl := fun w h => (TB_spec h).elim (fun q => List.mem_append_left _ q) (fun q => List.mem_append_right _ q.1)
theorem tbm_0 {w : Cond} (h : w ∈ TBs) : w ∈ TB := List.mem_append_left _ h
theorem tbm_1 {w : Cond} (h : w ∈ tables_1_1) (g : goodWord w = true) : w ∈ TB := List.mem_append_right _ (List.mem_append_left _ (List.mem_filter.mpr ⟨h, g⟩))
theorem tbm_2 {w : Cond} (h : w ∈ tables_1_2) (g : goodWord w = true) : w ∈ TB := List.mem_append_right _ (List.mem_append_right _ (List.mem_append_left _ (List.mem_filter.mpr ⟨h, g⟩)))
theorem tbm_3 {w : Cond} (h : w ∈ tables_1_3) (g : goodWord w = true) : w ∈ TB := List.mem_append_right _ (List.mem_append_right _ (List.mem_append_right _ (List.mem_append_left _ (List.mem_filter.mpr ⟨h, g⟩))))
theorem tbm_4 {w : Cond} (h : w ∈ tables_1_4) (g : goodWord w = true) : w ∈ TB := List.mem_append_right _ (List.mem_append_right _ (List.mem_append_right _ (List.mem_append_right _ (List.mem_filter.mpr ⟨h, g⟩))))
