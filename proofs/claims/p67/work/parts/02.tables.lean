def RJ1 : String := "java/lang/StringLatin1"
def RJ3 : String := "jdk/internal/util/Preconditions"
def RJ5 : String := "java/lang/AbstractStringBuilder"
def RJ6 : String := "java/lang/Integer"
def RJ7 : String := "java/util/Arrays"
def RJ8 : String := "jdk/internal/util/ArraysSupport"
def RX0 : String := "MatchboxModem$Commands"
def TX0 : u_T := fun k => match k with
  | 0 => ("MatchboxModem$Commands", "count", "I", false)
  | 1 => ("MatchboxModem$Commands", "names", "[I", true)
  | 2 => ("MatchboxModem$Commands", "first", "[I", true)
  | 3 => ("MatchboxModem$Commands", "second", "[I", true)
  | _ => ("MatchboxModem$Commands", "third", "[I", true)
def tyX0 : Nat → FieldType := fun k => match k with
  | 0 => .int
  | 1 => .array (.int)
  | 2 => .array (.int)
  | 3 => .array (.int)
  | _ => .array (.int)
def RX1 : String := "MatchboxModem$Counters"
def TX1 : u_T := fun k => match k with
  | 0 => ("MatchboxModem$Counters", "attempted", "I", false)
  | 1 => ("MatchboxModem$Counters", "unreadable", "I", false)
  | 2 => ("MatchboxModem$Counters", "ignored", "I", false)
  | 3 => ("MatchboxModem$Counters", "arrivals", "I", false)
  | 4 => ("MatchboxModem$Counters", "unheard", "I", false)
  | 5 => ("MatchboxModem$Counters", "bits", "I", false)
  | 6 => ("MatchboxModem$Counters", "beeped", "I", false)
  | 7 => ("MatchboxModem$Counters", "napped", "I", false)
  | _ => ("MatchboxModem$Counters", "waited", "I", false)
def tyX1 : Nat → FieldType := fun k => match k with
  | 0 => .int
  | 1 => .int
  | 2 => .int
  | 3 => .int
  | 4 => .int
  | 5 => .int
  | 6 => .int
  | 7 => .int
  | _ => .int
def RX2 : String := "MatchboxModem$Dogs"
def TX2 : u_T := fun k => match k with
  | 0 => ("MatchboxModem$Dogs", "count", "I", false)
  | 1 => ("MatchboxModem$Dogs", "periods", "[I", true)
  | 2 => ("MatchboxModem$Dogs", "lengths", "[I", true)
  | _ => ("MatchboxModem$Dogs", "offsets", "[I", true)
def tyX2 : Nat → FieldType := fun k => match k with
  | 0 => .int
  | 1 => .array (.int)
  | 2 => .array (.int)
  | _ => .array (.int)
def RX3 : String := "MatchboxModem$Frames"
def TX3 : u_T := fun k => match k with
  | 0 => ("MatchboxModem$Frames", "count", "I", false)
  | 1 => ("MatchboxModem$Frames", "sizes", "[I", true)
  | 2 => ("MatchboxModem$Frames", "states", "[I", true)
  | 3 => ("MatchboxModem$Frames", "tries", "[I", true)
  | 4 => ("MatchboxModem$Frames", "arrivals", "[I", true)
  | 5 => ("MatchboxModem$Frames", "sent", "[I", true)
  | _ => ("MatchboxModem$Frames", "arrived", "[I", true)
def tyX3 : Nat → FieldType := fun k => match k with
  | 0 => .int
  | 1 => .array (.int)
  | 2 => .array (.int)
  | 3 => .array (.int)
  | 4 => .array (.int)
  | 5 => .array (.int)
  | _ => .array (.int)
def RX4 : String := "MatchboxModem$History"
def TX4 : u_T := fun k => match k with
  | 0 => ("MatchboxModem$History", "count", "I", false)
  | 1 => ("MatchboxModem$History", "next", "I", false)
  | _ => ("MatchboxModem$History", "before", "[LMatchboxModem$Line;", true)
def tyX4 : Nat → FieldType := fun k => match k with
  | 0 => .int
  | 1 => .int
  | _ => .array (.object "MatchboxModem$Line")
def RX5 : String := "MatchboxModem$Line"
def TX5 : u_T := fun k => match k with
  | 0 => ("MatchboxModem$Line", "bitTicks", "I", false)
  | 1 => ("MatchboxModem$Line", "slowness", "I", false)
  | 2 => ("MatchboxModem$Line", "napBase", "I", false)
  | 3 => ("MatchboxModem$Line", "attemptLimit", "I", false)
  | 4 => ("MatchboxModem$Line", "now", "I", false)
  | 5 => ("MatchboxModem$Line", "awakeAt", "I", false)
  | 6 => ("MatchboxModem$Line", "lastSequence", "I", false)
  | 7 => ("MatchboxModem$Line", "messages", "I", false)
  | 8 => ("MatchboxModem$Line", "messageBytes", "[I", true)
  | 9 => ("MatchboxModem$Line", "firstFrames", "[I", true)
  | 10 => ("MatchboxModem$Line", "dogs", "LMatchboxModem$Dogs;", true)
  | 11 => ("MatchboxModem$Line", "frames", "LMatchboxModem$Frames;", true)
  | _ => ("MatchboxModem$Line", "counters", "LMatchboxModem$Counters;", true)
def tyX5 : Nat → FieldType := fun k => match k with
  | 0 => .int
  | 1 => .int
  | 2 => .int
  | 3 => .int
  | 4 => .int
  | 5 => .int
  | 6 => .int
  | 7 => .int
  | 8 => .array (.int)
  | 9 => .array (.int)
  | 10 => .object "MatchboxModem$Dogs"
  | 11 => .object "MatchboxModem$Frames"
  | _ => .object "MatchboxModem$Counters"
def RX6 : String := "MatchboxModem$Sending"
def TX6 : u_T := fun k => match k with
  | 0 => ("MatchboxModem$Sending", "cable", "[I", true)
  | 1 => ("MatchboxModem$Sending", "taken", "[I", true)
  | 2 => ("MatchboxModem$Sending", "bits", "I", false)
  | 3 => ("MatchboxModem$Sending", "inverted", "I", false)
  | _ => ("MatchboxModem$Sending", "burst", "I", false)
def tyX6 : Nat → FieldType := fun k => match k with
  | 0 => .array (.int)
  | 1 => .array (.int)
  | 2 => .int
  | 3 => .int
  | _ => .int
def RX7 : String := "MatchboxModem$Text"
def TX7 : u_T := fun k => match k with
  | 0 => ("MatchboxModem$Text", "bytes", "[I", true)
  | _ => ("MatchboxModem$Text", "length", "I", false)
def tyX7 : Nat → FieldType := fun k => match k with
  | 0 => .array (.int)
  | _ => .int
def RX8 : String := "MatchboxModem$Tokens"
def TX8 : u_T := fun k => match k with
  | 0 => ("MatchboxModem$Tokens", "text", "LMatchboxModem$Text;", true)
  | 1 => ("MatchboxModem$Tokens", "kind", "I", false)
  | 2 => ("MatchboxModem$Tokens", "start", "I", false)
  | 3 => ("MatchboxModem$Tokens", "end", "I", false)
  | 4 => ("MatchboxModem$Tokens", "failure", "I", false)
  | 5 => ("MatchboxModem$Tokens", "failedAt", "I", false)
  | 6 => ("MatchboxModem$Tokens", "period", "I", false)
  | 7 => ("MatchboxModem$Tokens", "length", "I", false)
  | _ => ("MatchboxModem$Tokens", "offset", "I", false)
def tyX8 : Nat → FieldType := fun k => match k with
  | 0 => .object "MatchboxModem$Text"
  | 1 => .int
  | 2 => .int
  | 3 => .int
  | 4 => .int
  | 5 => .int
  | 6 => .int
  | 7 => .int
  | _ => .int
def RX9 : String := "MatchboxModem"
def TX9 : u_T := fun k => match k with
  | 0 => ("MatchboxModem", "input", "LMatchboxModem$Text;", true)
  | 1 => ("MatchboxModem", "output", "LMatchboxModem$Text;", true)
  | 2 => ("MatchboxModem", "tokens", "LMatchboxModem$Tokens;", true)
  | 3 => ("MatchboxModem", "commands", "LMatchboxModem$Commands;", true)
  | 4 => ("MatchboxModem", "sending", "LMatchboxModem$Sending;", true)
  | 5 => ("MatchboxModem", "history", "LMatchboxModem$History;", true)
  | 6 => ("MatchboxModem", "line", "LMatchboxModem$Line;", true)
  | 7 => ("MatchboxModem", "saved", "LMatchboxModem$Line;", true)
  | 8 => ("MatchboxModem", "scratch", "LMatchboxModem$Line;", true)
  | _ => ("MatchboxModem", "hasSaved", "Z", false)
def tyX9 : Nat → FieldType := fun k => match k with
  | 0 => .object "MatchboxModem$Text"
  | 1 => .object "MatchboxModem$Text"
  | 2 => .object "MatchboxModem$Tokens"
  | 3 => .object "MatchboxModem$Commands"
  | 4 => .object "MatchboxModem$Sending"
  | 5 => .object "MatchboxModem$History"
  | 6 => .object "MatchboxModem$Line"
  | 7 => .object "MatchboxModem$Line"
  | 8 => .object "MatchboxModem$Line"
  | _ => .boolean
def RX10 : String := "MatchboxModem"
def TX10 : u_T := fun k => match k with
  | _ => ("", "", "", false)
def tyX10 : Nat → FieldType := fun k => match k with
  | _ => .object ""
def RJ0 : String := "java/lang/String"
def TJ0 : u_T := fun k => match k with
  | 0 => ("java/lang/String", "value", "[B", true)
  | 1 => ("java/lang/String", "coder", "B", true)
  | 2 => ("java/lang/String", "hash", "I", false)
  | _ => ("java/lang/String", "hashIsZero", "Z", false)
def tyJ0 : Nat → FieldType := fun k => match k with
  | 0 => .array (.byte)
  | 1 => .byte
  | 2 => .int
  | _ => .boolean
def RJ4 : String := "java/lang/StringBuilder"
def TJ4 : u_T := fun k => match k with
  | 0 => ("java/lang/AbstractStringBuilder", "value", "[B", false)
  | 1 => ("java/lang/AbstractStringBuilder", "coder", "B", false)
  | 2 => ("java/lang/AbstractStringBuilder", "maybeLatin1", "Z", false)
  | _ => ("java/lang/AbstractStringBuilder", "count", "I", false)
def tyJ4 : Nat → FieldType := fun k => match k with
  | 0 => .array (.byte)
  | 1 => .byte
  | 2 => .boolean
  | _ => .int
def RL : String := "MatchboxModemLaw"
abbrev vwCl : List vw_C := [(RX0, TX0, 5), (RX1, TX1, 9), (RX2, TX2, 4), (RX3, TX3, 7), (RX4, TX4, 3), (RX5, TX5, 13), (RX6, TX6, 5), (RX7, TX7, 2), (RX8, TX8, 9), (RX9, TX9, 10), (RX10, TX10, 0), (RX10, TX10, 0), (RJ0, TJ0, 4), (RX10, TX10, 0), (RX10, TX10, 0), (RJ4, TJ4, 4)]
abbrev cX0_init : ByteArray := prog_2_method_1_code
def yX0_init : MethodName := ⟨RX0, "<init>", "()V"⟩
abbrev cX1_init : ByteArray := prog_3_method_1_code
def yX1_init : MethodName := ⟨RX1, "<init>", "()V"⟩
abbrev cX1_clear : ByteArray := prog_3_method_2_code
def yX1_clear : MethodName := ⟨RX1, "clear", "()V"⟩
abbrev cX1_copyFrom : ByteArray := prog_3_method_3_code
def yX1_copyFrom : MethodName := ⟨RX1, "copyFrom", "(LMatchboxModem$Counters;)V"⟩
abbrev cX2_init : ByteArray := prog_4_method_1_code
def yX2_init : MethodName := ⟨RX2, "<init>", "()V"⟩
abbrev cX2_copyFrom : ByteArray := prog_4_method_2_code
def yX2_copyFrom : MethodName := ⟨RX2, "copyFrom", "(LMatchboxModem$Dogs;)V"⟩
abbrev cX2_add : ByteArray := prog_4_method_3_code
def yX2_add : MethodName := ⟨RX2, "add", "(III)Z"⟩
abbrev cX2_remove : ByteArray := prog_4_method_4_code
def yX2_remove : MethodName := ⟨RX2, "remove", "(I)Z"⟩
abbrev cX2_chewIn : ByteArray := prog_4_method_5_code
def yX2_chewIn : MethodName := ⟨RX2, "chewIn", "(I)Z"⟩
abbrev cX3_init : ByteArray := prog_5_method_1_code
def yX3_init : MethodName := ⟨RX3, "<init>", "()V"⟩
abbrev cX3_copyFrom : ByteArray := prog_5_method_2_code
def yX3_copyFrom : MethodName := ⟨RX3, "copyFrom", "(LMatchboxModem$Frames;)V"⟩
abbrev cX3_add : ByteArray := prog_5_method_3_code
def yX3_add : MethodName := ⟨RX3, "add", "([III)V"⟩
abbrev cX3_bitsOf : ByteArray := prog_5_method_4_code
def yX3_bitsOf : MethodName := ⟨RX3, "bitsOf", "(I)I"⟩
abbrev cX3_bitOf : ByteArray := prog_5_method_5_code
def yX3_bitOf : MethodName := ⟨RX3, "bitOf", "(II)I"⟩
abbrev cX3_firstQueued : ByteArray := prog_5_method_6_code
def yX3_firstQueued : MethodName := ⟨RX3, "firstQueued", "()I"⟩
abbrev cX3_arrive : ByteArray := prog_5_method_7_code
def yX3_arrive : MethodName := ⟨RX3, "arrive", "(I[I)V"⟩
abbrev cX3_arrivedAsSent : ByteArray := prog_5_method_8_code
def yX3_arrivedAsSent : MethodName := ⟨RX3, "arrivedAsSent", "(I)Z"⟩
abbrev cX3_triesOfAll : ByteArray := prog_5_method_9_code
def yX3_triesOfAll : MethodName := ⟨RX3, "triesOfAll", "()I"⟩
abbrev cX3_acknowledgedUntried : ByteArray := prog_5_method_10_code
def yX3_acknowledgedUntried : MethodName := ⟨RX3, "acknowledgedUntried", "()I"⟩
abbrev cX3_acknowledgedBytes : ByteArray := prog_5_method_11_code
def yX3_acknowledgedBytes : MethodName := ⟨RX3, "acknowledgedBytes", "()I"⟩
abbrev cX4_init : ByteArray := prog_6_method_1_code
def yX4_init : MethodName := ⟨RX4, "<init>", "()V"⟩
abbrev cX4_keep : ByteArray := prog_6_method_2_code
def yX4_keep : MethodName := ⟨RX4, "keep", "(LMatchboxModem$Line;)V"⟩
abbrev cX4_takeBack : ByteArray := prog_6_method_3_code
def yX4_takeBack : MethodName := ⟨RX4, "takeBack", "(LMatchboxModem$Line;)V"⟩
abbrev cX4_forget : ByteArray := prog_6_method_4_code
def yX4_forget : MethodName := ⟨RX4, "forget", "()V"⟩
abbrev cX5_init : ByteArray := prog_7_method_1_code
def yX5_init : MethodName := ⟨RX5, "<init>", "()V"⟩
abbrev cX5_configure : ByteArray := prog_7_method_2_code
def yX5_configure : MethodName := ⟨RX5, "configure", "(IIII)V"⟩
abbrev cX5_copyFrom : ByteArray := prog_7_method_3_code
def yX5_copyFrom : MethodName := ⟨RX5, "copyFrom", "(LMatchboxModem$Line;)V"⟩
abbrev cX5_readConfiguration : ByteArray := prog_7_method_4_code
def yX5_readConfiguration : MethodName := ⟨RX5, "readConfiguration", "(LMatchboxModem$Tokens;)Z"⟩
abbrev cX5_readModem : ByteArray := prog_7_method_5_code
def yX5_readModem : MethodName := ⟨RX5, "readModem", "(LMatchboxModem$Tokens;)Z"⟩
abbrev cX5_readDogs : ByteArray := prog_7_method_6_code
def yX5_readDogs : MethodName := ⟨RX5, "readDogs", "(LMatchboxModem$Tokens;)Z"⟩
abbrev cX5_hasMessage : ByteArray := prog_7_method_7_code
def yX5_hasMessage : MethodName := ⟨RX5, "hasMessage", "(I)Z"⟩
abbrev cX5_hasRoomForMessage : ByteArray := prog_7_method_8_code
def yX5_hasRoomForMessage : MethodName := ⟨RX5, "hasRoomForMessage", "()Z"⟩
abbrev cX5_addMessage : ByteArray := prog_7_method_9_code
def yX5_addMessage : MethodName := ⟨RX5, "addMessage", "([III)I"⟩
abbrev cX5_endOf : ByteArray := prog_7_method_10_code
def yX5_endOf : MethodName := ⟨RX5, "endOf", "(I)I"⟩
abbrev cX5_stateOfMessage : ByteArray := prog_7_method_11_code
def yX5_stateOfMessage : MethodName := ⟨RX5, "stateOfMessage", "(I)I"⟩
abbrev cX5_mayGiveUp : ByteArray := prog_7_method_12_code
def yX5_mayGiveUp : MethodName := ⟨RX5, "mayGiveUp", "(I)Z"⟩
abbrev cX5_giveUp : ByteArray := prog_7_method_13_code
def yX5_giveUp : MethodName := ⟨RX5, "giveUp", "(I)I"⟩
abbrev cX5_maySendAgain : ByteArray := prog_7_method_14_code
def yX5_maySendAgain : MethodName := ⟨RX5, "maySendAgain", "(I)Z"⟩
abbrev cX5_sendAgain : ByteArray := prog_7_method_15_code
def yX5_sendAgain : MethodName := ⟨RX5, "sendAgain", "(I)I"⟩
abbrev cX5_mayWait : ByteArray := prog_7_method_16_code
def yX5_mayWait : MethodName := ⟨RX5, "mayWait", "(I)Z"⟩
abbrev cX5_letPass : ByteArray := prog_7_method_17_code
def yX5_letPass : MethodName := ⟨RX5, "letPass", "(I)Z"⟩
abbrev cX5_mayAttempt : ByteArray := prog_7_method_18_code
def yX5_mayAttempt : MethodName := ⟨RX5, "mayAttempt", "()Z"⟩
abbrev cX5_makeAttempts : ByteArray := prog_7_method_19_code
def yX5_makeAttempts : MethodName := ⟨RX5, "makeAttempts", "(ILMatchboxModem$Sending;)I"⟩
abbrev cX5_attempt : ByteArray := prog_7_method_20_code
def yX5_attempt : MethodName := ⟨RX5, "attempt", "(ILMatchboxModem$Sending;)V"⟩
abbrev cX5_endNap : ByteArray := prog_7_method_21_code
def yX5_endNap : MethodName := ⟨RX5, "endNap", "()V"⟩
abbrev cX5_receive : ByteArray := prog_7_method_22_code
def yX5_receive : MethodName := ⟨RX5, "receive", "(II[I)V"⟩
abbrev cX5_settle : ByteArray := prog_7_method_23_code
def yX5_settle : MethodName := ⟨RX5, "settle", "(II)V"⟩
abbrev cX6_init : ByteArray := prog_8_method_1_code
def yX6_init : MethodName := ⟨RX6, "<init>", "()V"⟩
abbrev cX6_putOnCable : ByteArray := prog_8_method_2_code
def yX6_putOnCable : MethodName := ⟨RX6, "putOnCable", "(LMatchboxModem$Line;III)V"⟩
abbrev cX6_takenBit : ByteArray := prog_8_method_3_code
def yX6_takenBit : MethodName := ⟨RX6, "takenBit", "(II)I"⟩
abbrev cX6_take : ByteArray := prog_8_method_4_code
def yX6_take : MethodName := ⟨RX6, "take", "(I)V"⟩
abbrev cX6_takeInverted : ByteArray := prog_8_method_5_code
def yX6_takeInverted : MethodName := ⟨RX6, "takeInverted", "(LMatchboxModem$Frames;IIII)V"⟩
abbrev cX6_readable : ByteArray := prog_8_method_6_code
def yX6_readable : MethodName := ⟨RX6, "readable", "()Z"⟩
abbrev cX6_send : ByteArray := prog_8_method_7_code
def yX6_send : MethodName := ⟨RX6, "send", "(LMatchboxModem$Line;III)I"⟩
abbrev cX7_init : ByteArray := prog_9_method_1_code
def yX7_init : MethodName := ⟨RX7, "<init>", "(I)V"⟩
abbrev cX7_at : ByteArray := prog_9_method_2_code
def yX7_at : MethodName := ⟨RX7, "at", "(I)I"⟩
abbrev cX7_put : ByteArray := prog_9_method_3_code
def yX7_put : MethodName := ⟨RX7, "put", "(I)V"⟩
abbrev cX7_putFour : ByteArray := prog_9_method_4_code
def yX7_putFour : MethodName := ⟨RX7, "putFour", "(I)V"⟩
abbrev cX8_init : ByteArray := prog_10_method_1_code
def yX8_init : MethodName := ⟨RX8, "<init>", "(LMatchboxModem$Text;)V"⟩
abbrev cX8_begin : ByteArray := prog_10_method_2_code
def yX8_begin : MethodName := ⟨RX8, "begin", "()V"⟩
abbrev cX8_fail : ByteArray := prog_10_method_3_code
def yX8_fail : MethodName := ⟨RX8, "fail", "(I)Z"⟩
abbrev cX8_next : ByteArray := prog_10_method_4_code
def yX8_next : MethodName := ⟨RX8, "next", "()V"⟩
abbrev cX8_kindOf : ByteArray := prog_10_method_5_code
def yX8_kindOf : MethodName := ⟨RX8, "kindOf", "(I)I"⟩
abbrev cX8_spells : ByteArray := prog_10_method_6_code
def yX8_spells : MethodName := ⟨RX8, "spells", "(Ljava/lang/String;)Z"⟩
abbrev cX8_number : ByteArray := prog_10_method_7_code
def yX8_number : MethodName := ⟨RX8, "number", "(II)I"⟩
abbrev cX8_semicolon : ByteArray := prog_10_method_8_code
def yX8_semicolon : MethodName := ⟨RX8, "semicolon", "()Z"⟩
abbrev cX8_dog : ByteArray := prog_10_method_9_code
def yX8_dog : MethodName := ⟨RX8, "dog", "()Z"⟩
abbrev cX9_init : ByteArray := prog_1_method_1_code
def yX9_init : MethodName := ⟨RX9, "<init>", "()V"⟩
abbrev cX9_append : ByteArray := prog_1_method_2_code
def yX9_append : MethodName := ⟨RX9, "append", "(IIIII)I"⟩
abbrev cX9_truncate : ByteArray := prog_1_method_3_code
def yX9_truncate : MethodName := ⟨RX9, "truncate", "(I)I"⟩
abbrev cX9_load : ByteArray := prog_1_method_4_code
def yX9_load : MethodName := ⟨RX9, "load", "()I"⟩
abbrev cX9_clock : ByteArray := prog_1_method_8_code
def yX9_clock : MethodName := ⟨RX9, "clock", "()I"⟩
abbrev cX9_bitTime : ByteArray := prog_1_method_9_code
def yX9_bitTime : MethodName := ⟨RX9, "bitTime", "()I"⟩
abbrev cX9_drift : ByteArray := prog_1_method_10_code
def yX9_drift : MethodName := ⟨RX9, "drift", "()I"⟩
abbrev cX9_dogCount : ByteArray := prog_1_method_11_code
def yX9_dogCount : MethodName := ⟨RX9, "dogCount", "()I"⟩
abbrev cX9_isChewed : ByteArray := prog_1_method_12_code
def yX9_isChewed : MethodName := ⟨RX9, "isChewed", "(I)Z"⟩
abbrev cX9_nextChewedTick : ByteArray := prog_1_method_13_code
def yX9_nextChewedTick : MethodName := ⟨RX9, "nextChewedTick", "(I)I"⟩
abbrev cX9_nextQuietTick : ByteArray := prog_1_method_14_code
def yX9_nextQuietTick : MethodName := ⟨RX9, "nextQuietTick", "(I)I"⟩
abbrev cX9_messageCount : ByteArray := prog_1_method_16_code
def yX9_messageCount : MethodName := ⟨RX9, "messageCount", "()I"⟩
abbrev cX9_messageLength : ByteArray := prog_1_method_17_code
def yX9_messageLength : MethodName := ⟨RX9, "messageLength", "(I)I"⟩
abbrev cX9_messageState : ByteArray := prog_1_method_18_code
def yX9_messageState : MethodName := ⟨RX9, "messageState", "(I)I"⟩
abbrev cX9_firstFrame : ByteArray := prog_1_method_19_code
def yX9_firstFrame : MethodName := ⟨RX9, "firstFrame", "(I)I"⟩
abbrev cX9_frameCount : ByteArray := prog_1_method_20_code
def yX9_frameCount : MethodName := ⟨RX9, "frameCount", "()I"⟩
abbrev cX9_frameLength : ByteArray := prog_1_method_21_code
def yX9_frameLength : MethodName := ⟨RX9, "frameLength", "(I)I"⟩
abbrev cX9_frameByte : ByteArray := prog_1_method_22_code
def yX9_frameByte : MethodName := ⟨RX9, "frameByte", "(II)I"⟩
abbrev cX9_frameBit : ByteArray := prog_1_method_23_code
def yX9_frameBit : MethodName := ⟨RX9, "frameBit", "(II)I"⟩
abbrev cX9_frameState : ByteArray := prog_1_method_24_code
def yX9_frameState : MethodName := ⟨RX9, "frameState", "(I)I"⟩
abbrev cX9_attemptsOf : ByteArray := prog_1_method_25_code
def yX9_attemptsOf : MethodName := ⟨RX9, "attemptsOf", "(I)I"⟩
abbrev cX9_hasArrived : ByteArray := prog_1_method_26_code
def yX9_hasArrived : MethodName := ⟨RX9, "hasArrived", "(I)Z"⟩
abbrev cX9_arrivedByte : ByteArray := prog_1_method_27_code
def yX9_arrivedByte : MethodName := ⟨RX9, "arrivedByte", "(II)I"⟩
abbrev cX9_isIntact : ByteArray := prog_1_method_28_code
def yX9_isIntact : MethodName := ⟨RX9, "isIntact", "(I)Z"⟩
abbrev cX9_takenFrom : ByteArray := prog_1_method_29_code
def yX9_takenFrom : MethodName := ⟨RX9, "takenFrom", "(I)I"⟩
abbrev cX9_safeBits : ByteArray := prog_1_method_30_code
def yX9_safeBits : MethodName := ⟨RX9, "safeBits", "()I"⟩
abbrev cX9_receivedBit : ByteArray := prog_1_method_31_code
def yX9_receivedBit : MethodName := ⟨RX9, "receivedBit", "(III)I"⟩
abbrev cX9_invertedBits : ByteArray := prog_1_method_32_code
def yX9_invertedBits : MethodName := ⟨RX9, "invertedBits", "(II)I"⟩
abbrev cX9_longestBurst : ByteArray := prog_1_method_33_code
def yX9_longestBurst : MethodName := ⟨RX9, "longestBurst", "(II)I"⟩
abbrev cX9_wrongBits : ByteArray := prog_1_method_34_code
def yX9_wrongBits : MethodName := ⟨RX9, "wrongBits", "(II)I"⟩
abbrev cX9_resultAt : ByteArray := prog_1_method_35_code
def yX9_resultAt : MethodName := ⟨RX9, "resultAt", "(II)I"⟩
abbrev cX9_wouldPass : ByteArray := prog_1_method_36_code
def yX9_wouldPass : MethodName := ⟨RX9, "wouldPass", "(III)Z"⟩
abbrev cX9_earliestSuccess : ByteArray := prog_1_method_37_code
def yX9_earliestSuccess : MethodName := ⟨RX9, "earliestSuccess", "(I)I"⟩
abbrev cX9_pendingFrame : ByteArray := prog_1_method_39_code
def yX9_pendingFrame : MethodName := ⟨RX9, "pendingFrame", "()I"⟩
abbrev cX9_napEnd : ByteArray := prog_1_method_40_code
def yX9_napEnd : MethodName := ⟨RX9, "napEnd", "()I"⟩
abbrev cX9_attemptsUntilIdle : ByteArray := prog_1_method_41_code
def yX9_attemptsUntilIdle : MethodName := ⟨RX9, "attemptsUntilIdle", "()I"⟩
abbrev cX9_clockWhenIdle : ByteArray := prog_1_method_42_code
def yX9_clockWhenIdle : MethodName := ⟨RX9, "clockWhenIdle", "()I"⟩
abbrev cX9_attempts : ByteArray := prog_1_method_43_code
def yX9_attempts : MethodName := ⟨RX9, "attempts", "()I"⟩
abbrev cX9_unreadableFrames : ByteArray := prog_1_method_44_code
def yX9_unreadableFrames : MethodName := ⟨RX9, "unreadableFrames", "()I"⟩
abbrev cX9_duplicates : ByteArray := prog_1_method_45_code
def yX9_duplicates : MethodName := ⟨RX9, "duplicates", "()I"⟩
abbrev cX9_lostAcknowledgements : ByteArray := prog_1_method_46_code
def yX9_lostAcknowledgements : MethodName := ⟨RX9, "lostAcknowledgements", "()I"⟩
abbrev cX9_nappedTicks : ByteArray := prog_1_method_47_code
def yX9_nappedTicks : MethodName := ⟨RX9, "nappedTicks", "()I"⟩
abbrev cX9_bitsSent : ByteArray := prog_1_method_48_code
def yX9_bitsSent : MethodName := ⟨RX9, "bitsSent", "()I"⟩
abbrev cX9_attemptImbalance : ByteArray := prog_1_method_49_code
def yX9_attemptImbalance : MethodName := ⟨RX9, "attemptImbalance", "()I"⟩
abbrev cX9_clockImbalance : ByteArray := prog_1_method_50_code
def yX9_clockImbalance : MethodName := ⟨RX9, "clockImbalance", "()I"⟩
abbrev cX9_errorRate : ByteArray := prog_1_method_51_code
def yX9_errorRate : MethodName := ⟨RX9, "errorRate", "()F"⟩
abbrev cX9_throughput : ByteArray := prog_1_method_52_code
def yX9_throughput : MethodName := ⟨RX9, "throughput", "()D"⟩
abbrev cX9_sendMessage : ByteArray := prog_1_method_53_code
def yX9_sendMessage : MethodName := ⟨RX9, "sendMessage", "()I"⟩
abbrev cX9_transmit : ByteArray := prog_1_method_54_code
def yX9_transmit : MethodName := ⟨RX9, "transmit", "(I)I"⟩
abbrev cX9_cancelMessage : ByteArray := prog_1_method_55_code
def yX9_cancelMessage : MethodName := ⟨RX9, "cancelMessage", "(I)I"⟩
abbrev cX9_resendMessage : ByteArray := prog_1_method_56_code
def yX9_resendMessage : MethodName := ⟨RX9, "resendMessage", "(I)I"⟩
abbrev cX9_waitTicks : ByteArray := prog_1_method_57_code
def yX9_waitTicks : MethodName := ⟨RX9, "waitTicks", "(I)I"⟩
abbrev cX9_setDrift : ByteArray := prog_1_method_58_code
def yX9_setDrift : MethodName := ⟨RX9, "setDrift", "(I)I"⟩
abbrev cX9_addDog : ByteArray := prog_1_method_59_code
def yX9_addDog : MethodName := ⟨RX9, "addDog", "(III)I"⟩
abbrev cX9_removeDog : ByteArray := prog_1_method_60_code
def yX9_removeDog : MethodName := ⟨RX9, "removeDog", "(I)I"⟩
abbrev cX9_undo : ByteArray := prog_1_method_61_code
def yX9_undo : MethodName := ⟨RX9, "undo", "()I"⟩
abbrev cX9_save : ByteArray := prog_1_method_62_code
def yX9_save : MethodName := ⟨RX9, "save", "()I"⟩
abbrev cX9_restore : ByteArray := prog_1_method_63_code
def yX9_restore : MethodName := ⟨RX9, "restore", "()I"⟩
abbrev cX9_requireFrame : ByteArray := prog_1_method_66_code
def yX9_requireFrame : MethodName := ⟨RX9, "requireFrame", "(I)V"⟩
abbrev cX9_requireMessage : ByteArray := prog_1_method_67_code
def yX9_requireMessage : MethodName := ⟨RX9, "requireMessage", "(I)V"⟩
abbrev cX9_requireTick : ByteArray := prog_1_method_68_code
def yX9_requireTick : MethodName := ⟨RX9, "requireTick", "(I)V"⟩
abbrev cX9_checksumOf : ByteArray := prog_1_method_69_code
def yX9_checksumOf : MethodName := ⟨RX9, "checksumOf", "([III)I"⟩
abbrev cX9_binaryDigits : ByteArray := prog_1_method_70_code
def yX9_binaryDigits : MethodName := ⟨RX9, "binaryDigits", "(I)I"⟩
abbrev cX9_takenIndex : ByteArray := prog_1_method_71_code
def yX9_takenIndex : MethodName := ⟨RX9, "takenIndex", "(II)I"⟩
abbrev cJ4_init_da8c8 : ByteArray := prog_23_method_1_code
def yJ4_init_da8c8 : MethodName := ⟨RJ4, "<init>", "()V"⟩
abbrev cJ4_init_a7421 : ByteArray := prog_23_method_3_code
def yJ4_init_a7421 : MethodName := ⟨RJ4, "<init>", "(Ljava/lang/String;)V"⟩
abbrev cJ4_append_15ec4 : ByteArray := prog_23_method_7_code
def yJ4_append_15ec4 : MethodName := ⟨RJ4, "append", "(Ljava/lang/String;)Ljava/lang/StringBuilder;"⟩
abbrev cJ4_append_cf468 : ByteArray := prog_23_method_14_code
def yJ4_append_cf468 : MethodName := ⟨RJ4, "append", "(C)Ljava/lang/StringBuilder;"⟩
abbrev cJ4_append_bf812 : ByteArray := prog_23_method_15_code
def yJ4_append_bf812 : MethodName := ⟨RJ4, "append", "(I)Ljava/lang/StringBuilder;"⟩
abbrev cJ4_toString_0e30d : ByteArray := prog_23_method_42_code
def yJ4_toString_0e30d : MethodName := ⟨RJ4, "toString", "()Ljava/lang/String;"⟩
abbrev cJ4_append_cf1ce : ByteArray := prog_23_method_80_code
def yJ4_append_cf1ce : MethodName := ⟨RJ4, "append", "(Ljava/lang/String;)Ljava/lang/AbstractStringBuilder;"⟩
abbrev cJ5_init_d00df : ByteArray := prog_13_method_2_code
def yJ5_init_d00df : MethodName := ⟨RJ5, "<init>", "(I)V"⟩
abbrev cJ5_init_a7421 : ByteArray := prog_13_method_3_code
def yJ5_init_a7421 : MethodName := ⟨RJ5, "<init>", "(Ljava/lang/String;)V"⟩
abbrev cJ5_append_cf1ce : ByteArray := prog_13_method_22_code
def yJ5_append_cf1ce : MethodName := ⟨RJ5, "append", "(Ljava/lang/String;)Ljava/lang/AbstractStringBuilder;"⟩
abbrev cJ5_append_3fe6f : ByteArray := prog_13_method_31_code
def yJ5_append_3fe6f : MethodName := ⟨RJ5, "append", "(C)Ljava/lang/AbstractStringBuilder;"⟩
abbrev cJ5_append_c97b9 : ByteArray := prog_13_method_32_code
def yJ5_append_c97b9 : MethodName := ⟨RJ5, "append", "(I)Ljava/lang/AbstractStringBuilder;"⟩
abbrev cJ5_ensureCapacityInternal_d00df : ByteArray := prog_13_method_9_code
def yJ5_ensureCapacityInternal_d00df : MethodName := ⟨RJ5, "ensureCapacityInternal", "(I)V"⟩
abbrev cJ5_newCapacity_0f7a4 : ByteArray := prog_13_method_10_code
def yJ5_newCapacity_0f7a4 : MethodName := ⟨RJ5, "newCapacity", "(I)I"⟩
abbrev cJ5_isLatin1_aae02 : ByteArray := prog_13_method_68_code
def yJ5_isLatin1_aae02 : MethodName := ⟨RJ5, "isLatin1", "()Z"⟩
abbrev cJ5_putStringAt_47b60 : ByteArray := prog_13_method_73_code
def yJ5_putStringAt_47b60 : MethodName := ⟨RJ5, "putStringAt", "(ILjava/lang/String;)V"⟩
abbrev cJ5_inflateIfNeededFor_a7421 : ByteArray := prog_13_method_71_code
def yJ5_inflateIfNeededFor_a7421 : MethodName := ⟨RJ5, "inflateIfNeededFor", "(Ljava/lang/String;)V"⟩
abbrev cJ5_getValue_6d5f1 : ByteArray := prog_13_method_64_code
def yJ5_getValue_6d5f1 : MethodName := ⟨RJ5, "getValue", "()[B"⟩
abbrev cJ5_length_8abf5 : ByteArray := prog_13_method_6_code
def yJ5_length_8abf5 : MethodName := ⟨RJ5, "length", "()I"⟩
abbrev cJ0_init_81219 : ByteArray := prog_22_method_53_code
def yJ0_init_81219 : MethodName := ⟨RJ0, "<init>", "(Ljava/lang/StringBuilder;)V"⟩
abbrev cJ0_init_db425 : ByteArray := prog_22_method_150_code
def yJ0_init_db425 : MethodName := ⟨RJ0, "<init>", "(Ljava/lang/AbstractStringBuilder;Ljava/lang/Void;)V"⟩
abbrev cJ0_length_8abf5 : ByteArray := prog_22_method_54_code
def yJ0_length_8abf5 : MethodName := ⟨RJ0, "length", "()I"⟩
abbrev cJ0_charAt_5068e : ByteArray := prog_22_method_56_code
def yJ0_charAt_5068e : MethodName := ⟨RJ0, "charAt", "(I)C"⟩
abbrev cJ0_getBytes_840e7 : ByteArray := prog_22_method_147_code
def yJ0_getBytes_840e7 : MethodName := ⟨RJ0, "getBytes", "([BIB)V"⟩
abbrev cJ0_coder_7d493 : ByteArray := prog_22_method_152_code
def yJ0_coder_7d493 : MethodName := ⟨RJ0, "coder", "()B"⟩
abbrev cJ0_isLatin1_aae02 : ByteArray := prog_22_method_154_code
def yJ0_isLatin1_aae02 : MethodName := ⟨RJ0, "isLatin1", "()Z"⟩
abbrev cJ0_checkIndex_df160 : ByteArray := prog_22_method_155_code
def yJ0_checkIndex_df160 : MethodName := ⟨RJ0, "checkIndex", "(II)V"⟩
abbrev cJ1_charAt_3b067 : ByteArray := prog_24_method_2_code
def yJ1_charAt_3b067 : MethodName := ⟨RJ1, "charAt", "([BI)C"⟩
abbrev cJ1_canEncode_fc78d : ByteArray := prog_24_method_3_code
def yJ1_canEncode_fc78d : MethodName := ⟨RJ1, "canEncode", "(C)Z"⟩
abbrev cJ3_checkIndex_8e157 : ByteArray := prog_30_method_11_code
def yJ3_checkIndex_8e157 : MethodName := ⟨RJ3, "checkIndex", "(IILjava/util/function/BiFunction;)I"⟩
abbrev cJ6_getChars_ba4f3 : ByteArray := prog_19_method_12_code
def yJ6_getChars_ba4f3 : MethodName := ⟨RJ6, "getChars", "(II[B)I"⟩
abbrev cJ6_stringSize_0f7a4 : ByteArray := prog_19_method_13_code
def yJ6_stringSize_0f7a4 : MethodName := ⟨RJ6, "stringSize", "(I)I"⟩
abbrev cJ7_copyOf_9075b : ByteArray := prog_28_method_121_code
def yJ7_copyOf_9075b : MethodName := ⟨RJ7, "copyOf", "([BI)[B"⟩
abbrev cJ7_copyOfRange_39247 : ByteArray := prog_28_method_132_code
def yJ7_copyOfRange_39247 : MethodName := ⟨RJ7, "copyOfRange", "([BII)[B"⟩
abbrev cJ7_copyOfRangeByte_39247 : ByteArray := prog_28_method_133_code
def yJ7_copyOfRangeByte_39247 : MethodName := ⟨RJ7, "copyOfRangeByte", "([BII)[B"⟩
abbrev cJ7_checkLength_df160 : ByteArray := prog_28_method_131_code
def yJ7_checkLength_df160 : MethodName := ⟨RJ7, "checkLength", "(II)V"⟩
abbrev cJ8_newLength_cabcc : ByteArray := prog_29_method_27_code
def yJ8_newLength_cabcc : MethodName := ⟨RJ8, "newLength", "(III)I"⟩
abbrev cJ4_length_8abf5 : ByteArray := prog_23_method_93_code
def yJ4_length_8abf5 : MethodName := ⟨RJ4, "length", "()I"⟩
abbrev cL_cell : ByteArray := method_2_code
def yL_cell : MethodName := ⟨RL, "cell", "([II)I"⟩
abbrev cL_reads : ByteArray := method_3_code
def yL_reads : MethodName := ⟨RL, "reads", "(LMatchboxModem;)I"⟩
abbrev cL_comes : ByteArray := method_5_code
def yL_comes : MethodName := ⟨RL, "comes", "(LMatchboxModem;Ljava/lang/String;)V"⟩
abbrev cL_load : ByteArray := method_6_code
def yL_load : MethodName := ⟨RL, "load", "(LMatchboxModem;Ljava/lang/String;)I"⟩
abbrev cL_does : ByteArray := method_8_code
def yL_does : MethodName := ⟨RL, "does", "(LMatchboxModem;IIII)I"⟩
abbrev cL_sum : ByteArray := method_9_code
def yL_sum : MethodName := ⟨RL, "sum", "(LMatchboxModem;)J"⟩
abbrev cL_rest : ByteArray := method_10_code
def yL_rest : MethodName := ⟨RL, "rest", "(II)I"⟩
abbrev cL_isFrame : ByteArray := method_11_code
def yL_isFrame : MethodName := ⟨RL, "isFrame", "(LMatchboxModem;I)Z"⟩
abbrev cL_isResult : ByteArray := method_12_code
def yL_isResult : MethodName := ⟨RL, "isResult", "(LMatchboxModem;II)Z"⟩
abbrev cL_stands : ByteArray := method_13_code
def yL_stands : MethodName := ⟨RL, "stands", "(LMatchboxModem;I)Z"⟩
abbrev cL_tries : ByteArray := method_14_code
def yL_tries : MethodName := ⟨RL, "tries", "(LMatchboxModem;)Z"⟩
abbrev cL_acts : ByteArray := method_15_code
def yL_acts : MethodName := ⟨RL, "acts", "(LMatchboxModem;IIII)Z"⟩
abbrev cL_law : ByteArray := code
def yL_law : MethodName := ⟨RL, "law", "([I)Z"⟩
/-- the classes by number: 0 to 10 those of objects, 11 the law, 12 to 14 of the library -/
def clsL : List String := [RX0, RX1, RX2, RX3, RX4, RX5, RX6, RX7, RX8, RX9, RX10, RL, RJ0, RJ1, RJ3, RJ4, RJ5, RJ6, RJ7, RJ8]
def clsN (c : Nat) : String := clsL.getD c ""
/-- the classes of places -/
def okC (c : Nat) : Bool := decide (c < 11) || decide (c = 12) || decide (c = 15)
/-- where a place's fields are declared -/
def declN (c : Nat) : String := if c = 15 then RJ5 else clsN c
def TTL : List u_T := [TX0, TX1, TX2, TX3, TX4, TX5, TX6, TX7, TX8, TX9, TX10, TX10, TJ0, TX10, TX10, TJ4]
def TT (c : Nat) : u_T := TTL.getD c TX0
def tyL : List (Nat → FieldType) := [tyX0, tyX1, tyX2, tyX3, tyX4, tyX5, tyX6, tyX7, tyX8, tyX9, tyX10, tyX10, tyJ0, tyX10, tyX10, tyJ4]
def tyT (c : Nat) : Nat → FieldType := tyL.getD c tyX0
def nfL : List Nat := [5, 9, 4, 7, 3, 13, 5, 2, 9, 10, 0, 0, 4, 0, 0, 4]
def nf (c : Nat) : Nat := nfL.getD c 0
/-- of each field: 0 an int, 1 a boolean, 2 a reference -/
def fkL : List (List Nat) := [[0, 2, 2, 2, 2], [0, 0, 0, 0, 0, 0, 0, 0, 0], [0, 2, 2, 2], [0, 2, 2, 2, 2, 2, 2], [0, 0, 2], [0, 0, 0, 0, 0, 0, 0, 0, 2, 2, 2, 2, 2], [2, 2, 0, 0, 0], [2, 0], [2, 0, 0, 0, 0, 0, 0, 0, 0], [2, 2, 2, 2, 2, 2, 2, 2, 2, 1], [], [], [2, 3, 0, 1], [], [], [2, 3, 1, 0]]
def fk (c k : Nat) : Nat := (fkL.getD c []).getD k 0
/-- is the field final -/
def ffL : List (List Bool) := [[false, true, true, true, true], [false, false, false, false, false, false, false, false, false], [false, true, true, true], [false, true, true, true, true, true, true], [false, false, true], [false, false, false, false, false, false, false, false, true, true, true, true, true], [true, true, false, false, false], [true, false], [true, false, false, false, false, false, false, false, false], [true, true, true, true, true, true, true, true, true, false], [], [], [true, true, false, false], [], [], [false, false, false, false]]
def ff (c k : Nat) : Bool := (ffL.getD c []).getD k false
def ynL : List MethodName := [
  yX0_init, yX0_init, yX0_init, yX0_init, yX0_init, yX0_init, yX0_init, yX0_init,
  yX0_init, yX1_init, yX1_clear, yX1_copyFrom, yX2_init, yX2_copyFrom, yX2_add, yX2_remove,
  yX2_chewIn, yX3_init, yX3_copyFrom, yX3_add, yX3_bitsOf, yX3_bitOf, yX3_firstQueued, yX3_arrive,
  yX3_arrivedAsSent, yX3_triesOfAll, yX3_acknowledgedUntried, yX3_acknowledgedBytes, yX4_init, yX4_keep, yX4_takeBack, yX4_forget,
  yX5_init, yX5_configure, yX5_copyFrom, yX5_readConfiguration, yX5_readModem, yX5_readDogs, yX5_hasMessage, yX5_hasRoomForMessage,
  yX5_addMessage, yX5_endOf, yX5_stateOfMessage, yX5_mayGiveUp, yX5_giveUp, yX5_maySendAgain, yX5_sendAgain, yX5_mayWait,
  yX5_letPass, yX5_mayAttempt, yX5_makeAttempts, yX5_attempt, yX5_endNap, yX5_receive, yX5_settle, yX6_init,
  yX6_putOnCable, yX6_takenBit, yX6_take, yX6_takeInverted, yX6_readable, yX6_send, yX7_init, yX7_at,
  yX7_put, yX7_putFour, yX8_init, yX8_begin, yX8_fail, yX8_next, yX8_kindOf, yX8_spells,
  yX8_number, yX8_semicolon, yX8_dog, yX9_init, yX9_append, yX9_truncate, yX9_load, yX0_init,
  yX0_init, yX0_init, yX9_clock, yX9_bitTime, yX9_drift, yX9_dogCount, yX9_isChewed, yX9_nextChewedTick,
  yX9_nextQuietTick, yX0_init, yX9_messageCount, yX9_messageLength, yX9_messageState, yX9_firstFrame, yX9_frameCount, yX9_frameLength,
  yX9_frameByte, yX9_frameBit, yX9_frameState, yX9_attemptsOf, yX9_hasArrived, yX9_arrivedByte, yX9_isIntact, yX9_takenFrom,
  yX9_safeBits, yX9_receivedBit, yX9_invertedBits, yX9_longestBurst, yX9_wrongBits, yX9_resultAt, yX9_wouldPass, yX9_earliestSuccess,
  yX0_init, yX9_pendingFrame, yX9_napEnd, yX9_attemptsUntilIdle, yX9_clockWhenIdle, yX9_attempts, yX9_unreadableFrames, yX9_duplicates,
  yX9_lostAcknowledgements, yX9_nappedTicks, yX9_bitsSent, yX9_attemptImbalance, yX9_clockImbalance, yX9_errorRate, yX9_throughput, yX9_sendMessage,
  yX9_transmit, yX9_cancelMessage, yX9_resendMessage, yX9_waitTicks, yX9_setDrift, yX9_addDog, yX9_removeDog, yX9_undo,
  yX9_save, yX9_restore, yX0_init, yX0_init, yX9_requireFrame, yX9_requireMessage, yX9_requireTick, yX9_checksumOf,
  yX9_binaryDigits, yX9_takenIndex, yJ4_init_da8c8, yJ4_init_a7421, yJ4_append_15ec4, yJ4_append_cf468, yJ4_append_bf812, yJ4_toString_0e30d,
  yJ4_append_cf1ce, yJ5_init_d00df, yJ5_init_a7421, yJ5_append_cf1ce, yJ5_append_3fe6f, yJ5_append_c97b9, yJ5_ensureCapacityInternal_d00df, yJ5_newCapacity_0f7a4,
  yJ5_isLatin1_aae02, yJ5_putStringAt_47b60, yJ5_inflateIfNeededFor_a7421, yJ5_getValue_6d5f1, yJ5_length_8abf5, yJ0_init_81219, yJ0_init_db425, yJ0_length_8abf5,
  yJ0_charAt_5068e, yJ0_getBytes_840e7, yJ0_coder_7d493, yJ0_isLatin1_aae02, yJ0_checkIndex_df160, yJ1_charAt_3b067, yJ1_canEncode_fc78d, yJ3_checkIndex_8e157,
  yJ6_getChars_ba4f3, yJ6_stringSize_0f7a4, yJ7_copyOf_9075b, yJ7_copyOfRange_39247, yJ7_copyOfRangeByte_39247, yJ7_checkLength_df160, yJ8_newLength_cabcc, yJ4_length_8abf5,
  yX0_init, yX0_init, yX0_init, yX0_init, yX0_init, yX0_init, yX0_init, yX0_init,
  yX0_init, yX0_init, yX0_init, yX0_init, yX0_init, yX0_init, yX0_init, yX0_init,
  yX0_init, yX0_init, yX0_init, yX0_init, yX0_init, yX0_init, yX0_init, yX0_init,
  yX0_init, yX0_init, yX0_init, yX0_init, yX0_init, yX0_init, yX0_init, yX0_init,
  yX0_init, yX0_init, yX0_init, yX0_init, yX0_init, yX0_init, yX0_init, yX0_init,
  yX0_init, yX0_init, yX0_init, yX0_init, yX0_init, yX0_init, yX0_init, yX0_init,
  yX0_init, yX0_init, yX0_init, yX0_init, yX0_init, yX0_init, yX0_init, yX0_init,
  yX0_init, yX0_init, yX0_init, yX0_init, yX0_init, yX0_init, yX0_init, yX0_init,
  yX0_init, yX0_init, yX0_init, yX0_init, yX0_init, yX0_init, yX0_init, yX0_init,
  yX0_init, yX0_init, yX0_init, yX0_init, yX0_init, yX0_init, yX0_init, yX0_init,
  yX0_init, yX0_init, yX0_init, yX0_init, yX0_init, yX0_init, yX0_init, yX0_init,
  yX0_init, yX0_init, yX0_init, yX0_init, yX0_init, yX0_init, yX0_init, yX0_init,
  yX0_init, yX0_init, yX0_init, yX0_init, yX0_init, yX0_init, yX0_init, yX0_init,
  yX0_init, yX0_init, yX0_init, yX0_init, yX0_init, yX0_init, yX0_init, yX0_init,
  yX0_init, yX0_init, yX0_init, yX0_init, yL_cell, yL_reads, yL_comes, yL_load,
  yL_does, yL_sum, yL_rest, yL_isFrame, yL_isResult, yL_stands, yL_tries, yL_acts,
  yX0_init, yX0_init, yX0_init, yX0_init, yX0_init, yX0_init, yX0_init, yX0_init,
  yX0_init, yX0_init, yX0_init, yX0_init, yX0_init, yX0_init, yX0_init, yX0_init,
  yX0_init, yX0_init, yX0_init, yX0_init, yL_law, yJ0_length_8abf5, yJ0_coder_7d493, yJ0_isLatin1_aae02,
  yJ0_charAt_5068e, yJ1_charAt_3b067, yJ0_checkIndex_df160, yJ3_checkIndex_8e157]
def ynN (y : Nat) : MethodName := ynL.getD y ⟨"", "", ""⟩
def cdL : List ByteArray := [
  cX0_init, cX0_init, cX0_init, cX0_init, cX0_init, cX0_init, cX0_init, cX0_init,
  cX0_init, cX1_init, cX1_clear, cX1_copyFrom, cX2_init, cX2_copyFrom, cX2_add, cX2_remove,
  cX2_chewIn, cX3_init, cX3_copyFrom, cX3_add, cX3_bitsOf, cX3_bitOf, cX3_firstQueued, cX3_arrive,
  cX3_arrivedAsSent, cX3_triesOfAll, cX3_acknowledgedUntried, cX3_acknowledgedBytes, cX4_init, cX4_keep, cX4_takeBack, cX4_forget,
  cX5_init, cX5_configure, cX5_copyFrom, cX5_readConfiguration, cX5_readModem, cX5_readDogs, cX5_hasMessage, cX5_hasRoomForMessage,
  cX5_addMessage, cX5_endOf, cX5_stateOfMessage, cX5_mayGiveUp, cX5_giveUp, cX5_maySendAgain, cX5_sendAgain, cX5_mayWait,
  cX5_letPass, cX5_mayAttempt, cX5_makeAttempts, cX5_attempt, cX5_endNap, cX5_receive, cX5_settle, cX6_init,
  cX6_putOnCable, cX6_takenBit, cX6_take, cX6_takeInverted, cX6_readable, cX6_send, cX7_init, cX7_at,
  cX7_put, cX7_putFour, cX8_init, cX8_begin, cX8_fail, cX8_next, cX8_kindOf, cX8_spells,
  cX8_number, cX8_semicolon, cX8_dog, cX9_init, cX9_append, cX9_truncate, cX9_load, cX0_init,
  cX0_init, cX0_init, cX9_clock, cX9_bitTime, cX9_drift, cX9_dogCount, cX9_isChewed, cX9_nextChewedTick,
  cX9_nextQuietTick, cX0_init, cX9_messageCount, cX9_messageLength, cX9_messageState, cX9_firstFrame, cX9_frameCount, cX9_frameLength,
  cX9_frameByte, cX9_frameBit, cX9_frameState, cX9_attemptsOf, cX9_hasArrived, cX9_arrivedByte, cX9_isIntact, cX9_takenFrom,
  cX9_safeBits, cX9_receivedBit, cX9_invertedBits, cX9_longestBurst, cX9_wrongBits, cX9_resultAt, cX9_wouldPass, cX9_earliestSuccess,
  cX0_init, cX9_pendingFrame, cX9_napEnd, cX9_attemptsUntilIdle, cX9_clockWhenIdle, cX9_attempts, cX9_unreadableFrames, cX9_duplicates,
  cX9_lostAcknowledgements, cX9_nappedTicks, cX9_bitsSent, cX9_attemptImbalance, cX9_clockImbalance, cX9_errorRate, cX9_throughput, cX9_sendMessage,
  cX9_transmit, cX9_cancelMessage, cX9_resendMessage, cX9_waitTicks, cX9_setDrift, cX9_addDog, cX9_removeDog, cX9_undo,
  cX9_save, cX9_restore, cX0_init, cX0_init, cX9_requireFrame, cX9_requireMessage, cX9_requireTick, cX9_checksumOf,
  cX9_binaryDigits, cX9_takenIndex, cJ4_init_da8c8, cJ4_init_a7421, cJ4_append_15ec4, cJ4_append_cf468, cJ4_append_bf812, cJ4_toString_0e30d,
  cJ4_append_cf1ce, cJ5_init_d00df, cJ5_init_a7421, cJ5_append_cf1ce, cJ5_append_3fe6f, cJ5_append_c97b9, cJ5_ensureCapacityInternal_d00df, cJ5_newCapacity_0f7a4,
  cJ5_isLatin1_aae02, cJ5_putStringAt_47b60, cJ5_inflateIfNeededFor_a7421, cJ5_getValue_6d5f1, cJ5_length_8abf5, cJ0_init_81219, cJ0_init_db425, cJ0_length_8abf5,
  cJ0_charAt_5068e, cJ0_getBytes_840e7, cJ0_coder_7d493, cJ0_isLatin1_aae02, cJ0_checkIndex_df160, cJ1_charAt_3b067, cJ1_canEncode_fc78d, cJ3_checkIndex_8e157,
  cJ6_getChars_ba4f3, cJ6_stringSize_0f7a4, cJ7_copyOf_9075b, cJ7_copyOfRange_39247, cJ7_copyOfRangeByte_39247, cJ7_checkLength_df160, cJ8_newLength_cabcc, cJ4_length_8abf5,
  cX0_init, cX0_init, cX0_init, cX0_init, cX0_init, cX0_init, cX0_init, cX0_init,
  cX0_init, cX0_init, cX0_init, cX0_init, cX0_init, cX0_init, cX0_init, cX0_init,
  cX0_init, cX0_init, cX0_init, cX0_init, cX0_init, cX0_init, cX0_init, cX0_init,
  cX0_init, cX0_init, cX0_init, cX0_init, cX0_init, cX0_init, cX0_init, cX0_init,
  cX0_init, cX0_init, cX0_init, cX0_init, cX0_init, cX0_init, cX0_init, cX0_init,
  cX0_init, cX0_init, cX0_init, cX0_init, cX0_init, cX0_init, cX0_init, cX0_init,
  cX0_init, cX0_init, cX0_init, cX0_init, cX0_init, cX0_init, cX0_init, cX0_init,
  cX0_init, cX0_init, cX0_init, cX0_init, cX0_init, cX0_init, cX0_init, cX0_init,
  cX0_init, cX0_init, cX0_init, cX0_init, cX0_init, cX0_init, cX0_init, cX0_init,
  cX0_init, cX0_init, cX0_init, cX0_init, cX0_init, cX0_init, cX0_init, cX0_init,
  cX0_init, cX0_init, cX0_init, cX0_init, cX0_init, cX0_init, cX0_init, cX0_init,
  cX0_init, cX0_init, cX0_init, cX0_init, cX0_init, cX0_init, cX0_init, cX0_init,
  cX0_init, cX0_init, cX0_init, cX0_init, cX0_init, cX0_init, cX0_init, cX0_init,
  cX0_init, cX0_init, cX0_init, cX0_init, cX0_init, cX0_init, cX0_init, cX0_init,
  cX0_init, cX0_init, cX0_init, cX0_init, cL_cell, cL_reads, cL_comes, cL_load,
  cL_does, cL_sum, cL_rest, cL_isFrame, cL_isResult, cL_stands, cL_tries, cL_acts,
  cX0_init, cX0_init, cX0_init, cX0_init, cX0_init, cX0_init, cX0_init, cX0_init,
  cX0_init, cX0_init, cX0_init, cX0_init, cX0_init, cX0_init, cX0_init, cX0_init,
  cX0_init, cX0_init, cX0_init, cX0_init, cL_law, cJ0_length_8abf5, cJ0_coder_7d493, cJ0_isLatin1_aae02,
  cJ0_charAt_5068e, cJ1_charAt_3b067, cJ0_checkIndex_df160, cJ3_checkIndex_8e157]
def cdN (y : Nat) : ByteArray := cdL.getD y ⟨#[]⟩
def owL : List Nat := [
  0, 0, 0, 0, 0, 0, 0, 0, 0, 1, 1, 1, 2, 2, 2, 2, 2, 3, 3, 3, 3, 3, 3, 3, 3, 3, 3, 3, 4, 4, 4, 4, 5, 5, 5, 5, 5, 5, 5, 5,
  5, 5, 5, 5, 5, 5, 5, 5, 5, 5, 5, 5, 5, 5, 5, 6, 6, 6, 6, 6, 6, 6, 7, 7, 7, 7, 8, 8, 8, 8, 8, 8, 8, 8, 8, 9, 9, 9, 9, 0,
  0, 0, 9, 9, 9, 9, 9, 9, 9, 0, 9, 9, 9, 9, 9, 9, 9, 9, 9, 9, 9, 9, 9, 9, 9, 9, 9, 9, 9, 9, 9, 9, 0, 9, 9, 9, 9, 9, 9, 9,
  9, 9, 9, 9, 9, 9, 9, 9, 9, 9, 9, 9, 9, 9, 9, 9, 9, 9, 0, 0, 9, 9, 9, 9, 9, 9, 15, 15, 15, 15, 15, 15, 15, 16, 16, 16, 16, 16, 16, 16,
  16, 16, 16, 16, 16, 12, 12, 12, 12, 12, 12, 12, 12, 13, 13, 14, 17, 17, 18, 18, 18, 18, 19, 15, 0, 0, 0, 0, 0, 0, 0, 0, 0, 0, 0, 0, 0, 0, 0, 0,
  0, 0, 0, 0, 0, 0, 0, 0, 0, 0, 0, 0, 0, 0, 0, 0, 0, 0, 0, 0, 0, 0, 0, 0, 0, 0, 0, 0, 0, 0, 0, 0, 0, 0, 0, 0, 0, 0, 0, 0,
  0, 0, 0, 0, 0, 0, 0, 0, 0, 0, 0, 0, 0, 0, 0, 0, 0, 0, 0, 0, 0, 0, 0, 0, 0, 0, 0, 0, 0, 0, 0, 0, 0, 0, 0, 0, 0, 0, 0, 0,
  0, 0, 0, 0, 0, 0, 0, 0, 0, 0, 0, 0, 0, 0, 0, 0, 0, 0, 0, 0, 11, 11, 11, 11, 11, 11, 11, 11, 11, 11, 11, 11, 0, 0, 0, 0, 0, 0, 0, 0,
  0, 0, 0, 0, 0, 0, 0, 0, 0, 0, 0, 0, 11, 12, 12, 12, 12, 13, 12, 14]
def owN (y : Nat) : Nat := owL.getD y 0
def mlL : List Nat := [
  1, 1, 1, 1, 1, 1, 1, 1, 1, 1, 1, 2, 1, 2, 4, 3, 5, 1, 2, 5, 2, 3, 2, 3, 4, 3, 3, 3, 2, 3, 4, 1, 1, 5, 2, 2, 6, 3, 2, 1,
  5, 3, 5, 2, 5, 2, 4, 2, 2, 1, 5, 5, 1, 5, 3, 1, 7, 4, 3, 9, 2, 6, 2, 2, 2, 2, 2, 1, 2, 1, 1, 3, 5, 1, 1, 1, 6, 2, 2, 1,
  1, 1, 1, 1, 1, 1, 2, 3, 6, 1, 1, 2, 2, 2, 1, 2, 3, 3, 2, 2, 2, 3, 2, 2, 2, 4, 3, 3, 5, 3, 5, 3, 1, 1, 1, 1, 1, 1, 1, 1,
  1, 1, 1, 3, 2, 2, 1, 2, 2, 2, 2, 2, 3, 4, 2, 1, 1, 1, 1, 1, 2, 2, 1, 6, 2, 2, 1, 2, 2, 2, 2, 1, 2, 2, 5, 3, 2, 4, 3, 6,
  1, 3, 2, 1, 1, 2, 5, 1, 2, 4, 1, 1, 2, 2, 1, 3, 7, 4, 3, 3, 5, 2, 4, 1, 1, 1, 1, 1, 1, 1, 1, 1, 1, 1, 1, 1, 1, 1, 1, 1,
  1, 1, 1, 1, 1, 1, 1, 1, 1, 1, 1, 1, 1, 1, 1, 1, 1, 1, 1, 1, 1, 1, 1, 1, 1, 1, 1, 1, 1, 1, 1, 1, 1, 1, 1, 1, 1, 1, 1, 1,
  1, 1, 1, 1, 1, 1, 1, 1, 1, 1, 1, 1, 1, 1, 1, 1, 1, 1, 1, 1, 1, 1, 1, 1, 1, 1, 1, 1, 1, 1, 1, 1, 1, 1, 1, 1, 1, 1, 1, 1,
  1, 1, 1, 1, 1, 1, 1, 1, 1, 1, 1, 1, 1, 1, 1, 1, 1, 1, 1, 1, 2, 2, 5, 2, 6, 5, 5, 8, 15, 12, 8, 10, 1, 1, 1, 1, 1, 1, 1, 1,
  1, 1, 1, 1, 1, 1, 1, 1, 1, 1, 1, 1, 13, 1, 1, 1, 2, 2, 2, 3]
def mlN (y : Nat) : Nat := mlL.getD y 0
def rtL : List (Option FieldType) := [
  none, none, none, none, none, none, none, none, none, none, none, none,
  none, none, (some .boolean), (some .boolean), (some .boolean), none, none, none, (some .int), (some .int), (some .int), none,
  (some .boolean), (some .int), (some .int), (some .int), none, none, none, none, none, none, none, (some .boolean),
  (some .boolean), (some .boolean), (some .boolean), (some .boolean), (some .int), (some .int), (some .int), (some .boolean), (some .int), (some .boolean), (some .int), (some .boolean),
  (some .boolean), (some .boolean), (some .int), none, none, none, none, none, none, (some .int), none, none,
  (some .boolean), (some .int), none, (some .int), none, none, none, none, (some .boolean), none, (some .int), (some .boolean),
  (some .int), (some .boolean), (some .boolean), none, (some .int), (some .int), (some .int), none, none, none, (some .int), (some .int),
  (some .int), (some .int), (some .boolean), (some .int), (some .int), none, (some .int), (some .int), (some .int), (some .int), (some .int), (some .int),
  (some .int), (some .int), (some .int), (some .int), (some .boolean), (some .int), (some .boolean), (some .int), (some .int), (some .int), (some .int), (some .int),
  (some .int), (some .int), (some .boolean), (some .int), none, (some .int), (some .int), (some .int), (some .int), (some .int), (some .int), (some .int),
  (some .int), (some .int), (some .int), (some .int), (some .int), (some .float), (some .double), (some .int), (some .int), (some .int), (some .int), (some .int),
  (some .int), (some .int), (some .int), (some .int), (some .int), (some .int), none, none, none, none, none, (some .int),
  (some .int), (some .int), none, none, (some (.object "java/lang/StringBuilder")), (some (.object "java/lang/StringBuilder")), (some (.object "java/lang/StringBuilder")), (some (.object "java/lang/String")), (some (.object "java/lang/AbstractStringBuilder")), none, none, (some (.object "java/lang/AbstractStringBuilder")),
  (some (.object "java/lang/AbstractStringBuilder")), (some (.object "java/lang/AbstractStringBuilder")), none, (some .int), (some .boolean), none, none, (some (.array .byte)), (some .int), none, none, (some .int),
  (some .char), none, (some .byte), (some .boolean), none, (some .char), (some .boolean), (some .int), (some .int), (some .int), (some (.array .byte)), (some (.array .byte)),
  (some (.array .byte)), none, (some .int), (some .int), none, none, none, none, none, none, none, none,
  none, none, none, none, none, none, none, none, none, none, none, none,
  none, none, none, none, none, none, none, none, none, none, none, none,
  none, none, none, none, none, none, none, none, none, none, none, none,
  none, none, none, none, none, none, none, none, none, none, none, none,
  none, none, none, none, none, none, none, none, none, none, none, none,
  none, none, none, none, none, none, none, none, none, none, none, none,
  none, none, none, none, none, none, none, none, none, none, none, none,
  none, none, none, none, none, none, none, none, none, none, none, none,
  none, none, none, none, none, none, none, none, none, none, none, none,
  (some .int), (some .int), none, (some .int), (some .int), (some .long), (some .int), (some .boolean), (some .boolean), (some .boolean), (some .boolean), (some .boolean),
  none, none, none, none, none, none, none, none, none, none, none, none,
  none, none, none, none, none, none, none, none, (some .boolean), (some .int), (some .byte), (some .boolean),
  (some .char), (some .char), none, (some .int)]
def rtN (y : Nat) : Option FieldType := rtL.getD y none
def naL : List Nat := [
  0, 0, 0, 0, 0, 0, 0, 0, 0, 0, 0, 1, 0, 1, 3, 1, 1, 0, 1, 3, 1, 2, 0, 2, 1, 0, 0, 0, 0, 1, 1, 0, 0, 4, 1, 1, 1, 1, 1, 0,
  3, 1, 1, 1, 1, 1, 1, 1, 1, 0, 2, 2, 0, 3, 2, 0, 4, 2, 1, 5, 0, 4, 1, 1, 1, 1, 1, 0, 1, 0, 1, 1, 2, 0, 0, 0, 5, 1, 0, 0,
  0, 0, 0, 0, 0, 0, 1, 1, 1, 0, 0, 1, 1, 1, 0, 1, 2, 2, 1, 1, 1, 2, 1, 1, 0, 3, 2, 2, 2, 2, 3, 1, 0, 0, 0, 0, 0, 0, 0, 0,
  0, 0, 0, 0, 0, 0, 0, 0, 1, 1, 1, 1, 1, 3, 1, 0, 0, 0, 0, 0, 1, 1, 1, 3, 1, 2, 0, 1, 1, 1, 1, 0, 1, 1, 1, 1, 1, 1, 1, 1,
  0, 2, 1, 0, 0, 1, 2, 0, 1, 3, 0, 0, 2, 2, 1, 3, 3, 1, 2, 3, 3, 2, 3, 0, 0, 0, 0, 0, 0, 0, 0, 0, 0, 0, 0, 0, 0, 0, 0, 0,
  0, 0, 0, 0, 0, 0, 0, 0, 0, 0, 0, 0, 0, 0, 0, 0, 0, 0, 0, 0, 0, 0, 0, 0, 0, 0, 0, 0, 0, 0, 0, 0, 0, 0, 0, 0, 0, 0, 0, 0,
  0, 0, 0, 0, 0, 0, 0, 0, 0, 0, 0, 0, 0, 0, 0, 0, 0, 0, 0, 0, 0, 0, 0, 0, 0, 0, 0, 0, 0, 0, 0, 0, 0, 0, 0, 0, 0, 0, 0, 0,
  0, 0, 0, 0, 0, 0, 0, 0, 0, 0, 0, 0, 0, 0, 0, 0, 0, 0, 0, 0, 2, 1, 2, 2, 5, 1, 2, 2, 3, 2, 1, 5, 0, 0, 0, 0, 0, 0, 0, 0,
  0, 0, 0, 0, 0, 0, 0, 0, 0, 0, 0, 0, 1, 0, 0, 0, 1, 2, 2, 3]
/-- the number of parameters, the receiver not counted -/
def naN (y : Nat) : Nat := naL.getD y 0
def htL : List Nat := [
  1, 1, 1, 1, 1, 1, 1, 1, 1, 1, 0, 0, 1, 1, 0, 0, 0, 1, 1, 2, 0, 1, 0, 1, 0, 0, 0, 0, 3, 3, 3, 0, 2, 1, 2, 6, 5, 5, 0, 0,
  3, 1, 2, 3, 4, 3, 4, 0, 1, 0, 5, 4, 0, 2, 0, 1, 2, 1, 2, 3, 2, 3, 1, 0, 0, 1, 1, 0, 0, 1, 0, 4, 2, 2, 3, 4, 6, 6, 7, 1,
  1, 1, 0, 0, 0, 0, 7, 7, 6, 1, 0, 7, 7, 7, 0, 7, 7, 7, 7, 7, 7, 7, 7, 6, 1, 7, 7, 7, 7, 7, 7, 7, 1, 1, 0, 6, 6, 0, 0, 0,
  0, 0, 0, 1, 0, 0, 1, 6, 6, 7, 7, 6, 6, 6, 6, 6, 3, 6, 1, 1, 6, 6, 6, 1, 0, 0, 7, 13, 10, 10, 10, 9, 11, 6, 12, 9, 9, 9, 8, 7,
  0, 7, 1, 0, 0, 8, 7, 1, 6, 6, 0, 0, 1, 2, 0, 0, 0, 0, 6, 6, 1, 0, 6, 1, 1, 1, 1, 1, 1, 1, 1, 1, 1, 1, 1, 1, 1, 1, 1, 1,
  1, 1, 1, 1, 1, 1, 1, 1, 1, 1, 1, 1, 1, 1, 1, 1, 1, 1, 1, 1, 1, 1, 1, 1, 1, 1, 1, 1, 1, 1, 1, 1, 1, 1, 1, 1, 1, 1, 1, 1,
  1, 1, 1, 1, 1, 1, 1, 1, 1, 1, 1, 1, 1, 1, 1, 1, 1, 1, 1, 1, 1, 1, 1, 1, 1, 1, 1, 1, 1, 1, 1, 1, 1, 1, 1, 1, 1, 1, 1, 1,
  1, 1, 1, 1, 1, 1, 1, 1, 1, 1, 1, 1, 1, 1, 1, 1, 1, 1, 1, 1, 1, 8, 7, 9, 8, 8, 0, 8, 8, 9, 9, 11, 1, 1, 1, 1, 1, 1, 1, 1,
  1, 1, 1, 1, 1, 1, 1, 1, 1, 1, 1, 1, 14, 1, 0, 0, 3, 2, 1, 0]
def htN (y : Nat) : Nat := htL.getD y 0
def loL : List Nat := [
  20, 20, 20, 20, 20, 20, 20, 20, 20, 20, 0, 0, 20, 60, 0, 0, 0, 20, 60, 60, 0, 21, 0, 60, 0, 0, 0, 0, 60, 102, 102, 0, 40, 20, 81, 147, 122, 122, 0, 0,
  84, 21, 43, 67, 88, 67, 88, 0, 21, 0, 130, 106, 0, 82, 0, 20, 43, 21, 44, 66, 46, 69, 21, 0, 0, 21, 20, 0, 0, 21, 0, 100, 41, 41, 65, 108, 90, 90, 168, 20,
  20, 20, 0, 0, 0, 0, 110, 110, 90, 20, 0, 111, 111, 111, 0, 111, 111, 111, 111, 111, 111, 111, 111, 90, 21, 111, 111, 111, 111, 111, 111, 111, 20, 21, 0, 154, 154, 0, 0, 0,
  0, 0, 0, 22, 0, 0, 22, 124, 154, 124, 124, 124, 124, 124, 124, 125, 102, 102, 20, 20, 90, 90, 90, 21, 0, 0, 111, 248, 182, 181, 183, 157, 203, 90, 224, 160, 160, 160, 138, 113,
  0, 113, 20, 0, 0, 136, 112, 20, 90, 90, 0, 0, 22, 43, 0, 0, 0, 0, 90, 90, 60, 0, 90, 20, 20, 20, 20, 20, 20, 20, 20, 20, 20, 20, 20, 20, 20, 20, 20, 20,
  20, 20, 20, 20, 20, 20, 20, 20, 20, 20, 20, 20, 20, 20, 20, 20, 20, 20, 20, 20, 20, 20, 20, 20, 20, 20, 20, 20, 20, 20, 20, 20, 20, 20, 20, 20, 20, 20, 20, 20,
  20, 20, 20, 20, 20, 20, 20, 20, 20, 20, 20, 20, 20, 20, 20, 20, 20, 20, 20, 20, 20, 20, 20, 20, 20, 20, 20, 20, 20, 20, 20, 20, 20, 20, 20, 20, 20, 20, 20, 20,
  20, 20, 20, 20, 20, 20, 20, 20, 20, 20, 20, 20, 20, 20, 20, 20, 20, 20, 20, 20, 21, 189, 115, 210, 175, 133, 0, 133, 135, 169, 200, 227, 20, 20, 20, 20, 20, 20, 20, 20,
  20, 20, 20, 20, 20, 20, 20, 20, 20, 20, 20, 20, 269, 20, 0, 0, 64, 43, 22, 0]
def loN (y : Nat) : Nat := loL.getD y 0
def hhL : List (List (Nat × Nat × Nat × Nat)) := [
  [], [], [], [], [], [], [], [], [], [], [], [],
  [], [], [], [], [], [], [], [], [], [], [], [],
  [], [], [], [], [], [], [], [], [], [], [], [],
  [], [], [], [], [], [], [], [], [], [], [], [],
  [], [], [], [], [], [], [], [], [], [], [], [],
  [], [], [], [], [], [], [], [], [], [], [], [],
  [], [], [], [], [], [], [], [], [], [], [], [],
  [], [], [], [], [], [], [], [], [], [], [], [],
  [], [], [], [], [], [], [], [], [], [], [], [],
  [], [], [], [], [], [], [], [], [], [], [], [],
  [], [], [], [], [], [], [], [], [], [], [], [],
  [], [], [], [], [], [], [], [], [], [], [], [],
  [], [], [], [], [], [], [], [], [], [], [], [],
  [], [], [], [], [], [], [], [], [], [], [], [],
  [], [], [], [], [], [], [], [], [], [], [], [],
  [], [], [], [], [], [], [], [], [], [], [], [],
  [], [], [], [], [], [], [], [], [], [], [], [],
  [], [], [], [], [], [], [], [], [], [], [], [],
  [], [], [], [], [], [], [], [], [], [], [], [],
  [], [], [], [], [], [], [], [], [], [], [], [],
  [], [], [], [], [], [], [], [], [], [], [], [],
  [], [], [], [], [], [], [], [], [], [], [], [],
  [], [], [], [], [], [], [], [], [], [], [], [],
  [], [], [], [], [], [], [], [], [], [], [], [],
  [], [], [], [], [], [], [], [], [], [], [], [],
  [], [(0, 4, 5, 20)], [], [], [(0, 56, 124, 86), (57, 62, 124, 86), (63, 68, 124, 86), (69, 74, 124, 86), (75, 80, 124, 86), (81, 86, 124, 86), (87, 95, 124, 86), (96, 101, 124, 86), (102, 118, 124, 86), (119, 123, 124, 86), (0, 56, 130, 20), (57, 62, 130, 20), (63, 68, 130, 20), (69, 74, 130, 20), (75, 80, 130, 20), (81, 86, 130, 20), (87, 95, 130, 20), (96, 101, 130, 20), (102, 118, 130, 20), (119, 123, 130, 20), (0, 56, 136, 88), (57, 62, 136, 88), (63, 68, 136, 88), (69, 74, 136, 88), (75, 80, 136, 88), (81, 86, 136, 88), (87, 95, 136, 88), (96, 101, 136, 88), (102, 118, 136, 88), (119, 123, 136, 88)], [], [], [], [], [], [], [],
  [], [], [], [], [], [], [], [], [], [], [], [],
  [], [], [], [], [], [], [], [], []]
/-- the table of handlers: from, to, handler, the class's entry in the pool -/
def hhN (y : Nat) : List (Nat × Nat × Nat × Nat) := hhL.getD y []
def cpL : List Nat := [
  109, 109, 109, 109, 109, 109, 109, 109, 109, 231, 352, 581, 170, 572, 356, 885, 538, 191, 577, 375, 529, 533, 783, 800, 1025, 1092, 1096, 1079, 157, 762,
  909, 605, 164, 348, 567, 693, 712, 738, 825, 368, 364, 829, 821, 817, 835, 844, 849, 859, 864, 773, 779, 787, 791, 796, 804, 130, 525, 547, 543, 899,
  554, 521, 51, 705, 360, 675, 71, 697, 723, 701, 708, 717, 727, 733, 743, 43, 670, 680, 689, 109, 109, 109, 417, 1041, 921, 926, 994, 1029, 1033, 109,
  960, 964, 968, 1002, 421, 981, 985, 1016, 973, 977, 1009, 990, 1021, 1046, 1345, 1052, 1058, 1066, 1062, 425, 889, 559, 109, 1070, 917, 1336, 1340, 931, 936, 941,
  946, 951, 956, 1087, 1100, 1083, 1075, 755, 768, 808, 840, 854, 869, 874, 880, 904, 563, 585, 109, 109, 429, 812, 500, 381, 894, 550, 1108, 1348, 1280, 1137,
  1245, 1206, 1355, 1111, 1351, 1283, 1140, 1248, 1144, 1148, 1174, 1295, 1299, 1220, 1228, 1211, 1214, 622, 632, 1304, 626, 636, 642, 639, 1177, 647, 1254, 1251, 1160, 1232,
  1235, 1238, 1151, 1226, 109, 109, 109, 109, 109, 109, 109, 109, 109, 109, 109, 109, 109, 109, 109, 109, 109, 109, 109, 109, 109, 109, 109, 109, 109, 109,
  109, 109, 109, 109, 109, 109, 109, 109, 109, 109, 109, 109, 109, 109, 109, 109, 109, 109, 109, 109, 109, 109, 109, 109, 109, 109, 109, 109, 109, 109,
  109, 109, 109, 109, 109, 109, 109, 109, 109, 109, 109, 109, 109, 109, 109, 109, 109, 109, 109, 109, 109, 109, 109, 109, 109, 109, 109, 109, 109, 109,
  109, 109, 109, 109, 109, 109, 109, 109, 109, 109, 109, 109, 109, 109, 109, 109, 109, 109, 109, 109, 109, 109, 109, 109, 109, 109, 109, 109, 109, 109,
  608, 684, 618, 615, 749, 912, 1012, 1005, 1037, 998, 1332, 1103, 109, 109, 109, 109, 109, 109, 109, 109, 109, 109, 109, 109, 109, 109, 109, 109, 109, 109,
  109, 109, 0]
def cdW (y : Nat) : Cond := if hhN y = [] then .code (ynN y) (cdN y) (mlN y) (rtN y) else .codeWith (ynN y) (cdN y) (mlN y) (rtN y) (hhN y)
def inT (p : Nat) (w : Cond) : Bool := decide (lw_tbl[p]? = some w) && goodWord w
def T0 : List Cond := lw_tbl.filter goodWord
def mtC (y : Nat) : Bool := plainName (ynN y).cls && decide ((parseMethodDescriptor (ynN y).desc).map (fun d => d.parameters.length) = some (naN y)) && decide ((ynN y).cls = clsN (owN y)) && decide ((ynN y).cls ≠ "java/lang/invoke/MethodHandle" ∧ (ynN y).cls ≠ "java/lang/invoke/VarHandle")
set_option maxRecDepth 100000 in
def lyL : List (List Nat) := [[115, 117, 119, 121, 123], [260, 262, 264, 266, 268, 270, 272, 274, 276], [178, 180, 182, 184], [212, 214, 216, 218, 220, 222, 224], [336, 338, 340], [305, 307, 309, 311, 313, 315, 317, 319, 321, 323, 325, 327, 329], [142, 144, 146, 148, 150], [61, 63], [86, 88, 90, 92, 94, 96, 98, 100, 102], [393, 395, 397, 399, 401, 403, 405, 407, 409, 411], [], [], [1321, 1323, 1325, 1327], [], [], [1125, 1127, 1129, 1131]]
def tyC (c k : Nat) : Bool := decide (parseFieldDescriptor (TT c k).2.2.1 = some (tyT c k)) && decide ((TT c k).2.2.2 = ff c k) && decide ((TT c k).1 = declN c) && (match fk c k, tyT c k with | 0, .int => true | 1, .boolean => true | 2, .object _ => true | 2, .array _ => true | 3, .byte => true | _, _ => false)
def ctL : List ((Nat × Nat) × Nat × Nat × List Nat) := [
  ((0, 3), 9, 0, [110, 45, 46]), ((1, 1), 9, 0, [232, 45, 46]), ((2, 3), 9, 0, [171, 45, 46]), ((2, 25), 8, 0, [573, 378, 377, 19]), ((3, 3), 9, 0, [192, 45, 46]),
  ((3, 34), 8, 0, [376, 378, 377, 19]), ((3, 40), 3, 143, [380, 23]), ((3, 44), 0, 20, [534, 527, 528, 31]), ((4, 3), 9, 0, [158, 45, 46]), ((4, 17), 4, 32, [163, 29]),
  ((4, 22), 0, 34, [763, 565, 566, 29]), ((4, 29), 6, 0, [764, 370, 17, 371]), ((5, 3), 9, 0, [165, 45, 46]), ((5, 20), 4, 12, [169, 30]), ((5, 27), 4, 17, [190, 31]),
  ((5, 34), 4, 9, [230, 32]), ((5, 68), 0, 10, [349, 350, 351, 32]), ((5, 71), 8, 0, [568, 378, 377, 19]), ((5, 77), 0, 13, [569, 570, 571, 30]), ((5, 81), 0, 18, [574, 575, 576, 31]),
  ((5, 84), 0, 11, [578, 579, 580, 32]), ((5, 87), 0, 67, [694, 695, 696, 25]), ((5, 92), 0, 69, [698, 699, 700, 25]), ((5, 95), 0, 36, [709, 711, 3, 29]), ((5, 99), 0, 37, [735, 737, 4, 29]),
  ((5, 104), 0, 71, [714, 715, 716, 25]), ((5, 108), 0, 68, [720, 721, 722, 25]), ((5, 112), 0, 72, [724, 725, 726, 25]), ((5, 116), 0, 73, [730, 731, 732, 25]), ((5, 120), 0, 33, [734, 346, 347, 29]),
  ((5, 129), 0, 74, [740, 741, 742, 25]), ((5, 140), 0, 14, [745, 354, 355, 30]), ((5, 144), 0, 39, [365, 366, 367, 29]), ((5, 147), 6, 0, [369, 370, 17, 371]), ((5, 152), 0, 19, [372, 373, 374, 31]),
  ((5, 155), 0, 38, [822, 823, 824, 29]), ((5, 158), 0, 41, [826, 828, 10, 29]), ((5, 162), 5, 0, [830, 54, 17, 55]), ((5, 168), 0, 42, [818, 819, 820, 29]), ((5, 171), 0, 43, [836, 815, 816, 29]),
  ((5, 174), 0, 45, [850, 842, 843, 29]), ((5, 184), 0, 47, [865, 857, 858, 29]), ((5, 190), 0, 22, [780, 781, 782, 31]), ((5, 194), 0, 51, [784, 786, 5, 29]), ((5, 198), 0, 52, [788, 790, 6, 29]),
  ((5, 201), 0, 61, [792, 519, 520, 27]), ((5, 223), 0, 53, [793, 795, 7, 29]), ((5, 227), 0, 54, [801, 803, 8, 29]), ((5, 243), 0, 23, [797, 798, 799, 31]), ((6, 3), 9, 0, [131, 45, 46]),
  ((6, 24), 0, 20, [526, 527, 528, 31]), ((6, 40), 0, 21, [530, 531, 532, 31]), ((6, 48), 0, 16, [535, 536, 537, 30]), ((6, 54), 5, 0, [539, 54, 17, 55]), ((6, 59), 3, 145, [549, 23]),
  ((6, 62), 0, 57, [544, 545, 546, 27]), ((6, 65), 0, 58, [540, 542, 2, 27]), ((6, 69), 3, 143, [380, 23]), ((6, 73), 0, 56, [522, 523, 524, 27]), ((6, 80), 0, 60, [551, 552, 553, 27]),
  ((7, 3), 9, 0, [52, 45, 46]), ((7, 9), 5, 0, [53, 54, 17, 55]), ((7, 25), 0, 64, [676, 358, 359, 24]), ((8, 3), 9, 0, [72, 45, 46]), ((8, 36), 0, 63, [702, 703, 704, 24]),
  ((8, 40), 1, 70, [706, 707, 25]), ((8, 43), 10, 167, [718, 620, 621, 14]), ((8, 48), 11, 168, [719, 630, 631, 14]), ((8, 52), 0, 69, [728, 699, 700, 25]), ((8, 55), 0, 68, [729, 721, 722, 25]),
  ((8, 59), 0, 72, [744, 725, 726, 25]), ((9, 1), 9, 0, [44, 45, 46]), ((9, 11), 2, 62, [49, 50, 24]), ((9, 23), 2, 66, [69, 70, 25]), ((9, 32), 4, 0, [108, 26]),
  ((9, 39), 4, 55, [129, 27]), ((9, 46), 2, 28, [155, 156, 28]), ((9, 53), 4, 32, [163, 29]), ((9, 64), 0, 33, [345, 346, 347, 29]), ((9, 72), 0, 14, [353, 354, 355, 30]),
  ((9, 78), 0, 64, [357, 358, 359, 24]), ((9, 89), 0, 40, [361, 362, 363, 29]), ((9, 100), 0, 65, [672, 673, 674, 24]), ((9, 108), 0, 35, [690, 691, 692, 29]), ((9, 114), 0, 34, [564, 565, 566, 29]),
  ((9, 118), 0, 31, [602, 603, 604, 28]), ((9, 129), 0, 29, [759, 760, 761, 28]), ((9, 152), 1, 142, [498, 499, 23]), ((9, 155), 0, 16, [995, 536, 537, 30]), ((9, 167), 0, 141, [809, 811, 9, 23]),
  ((9, 173), 0, 42, [969, 819, 820, 29]), ((9, 187), 0, 140, [426, 428, 0, 23]), ((9, 196), 0, 21, [1017, 531, 532, 31]), ((9, 212), 0, 24, [1022, 1023, 1024, 31]), ((9, 217), 1, 145, [1048, 549, 23]),
  ((9, 220), 0, 56, [1053, 523, 524, 27]), ((9, 227), 0, 57, [1054, 545, 546, 27]), ((9, 236), 0, 61, [518, 519, 520, 27]), ((9, 243), 1, 144, [892, 893, 23]), ((9, 248), 0, 59, [896, 897, 898, 27]),
  ((9, 252), 0, 60, [900, 552, 553, 27]), ((9, 256), 0, 22, [1071, 781, 782, 31]), ((9, 263), 0, 50, [776, 777, 778, 29]), ((9, 291), 7, 0, [1088, 611, 17, 612]), ((9, 296), 0, 25, [1089, 1090, 1091, 31]),
  ((9, 299), 0, 26, [1093, 1094, 1095, 31]), ((9, 308), 0, 27, [1076, 1077, 1078, 31]), ((9, 313), 0, 39, [757, 366, 367, 29]), ((9, 320), 0, 49, [770, 771, 772, 29]), ((9, 325), 0, 43, [814, 815, 816, 29]),
  ((9, 330), 0, 44, [832, 833, 834, 29]), ((9, 333), 0, 45, [841, 842, 843, 29]), ((9, 338), 0, 46, [846, 847, 848, 29]), ((9, 343), 0, 47, [856, 857, 858, 29]), ((9, 348), 0, 48, [861, 862, 863, 29]),
  ((9, 362), 0, 15, [882, 883, 884, 30]), ((9, 368), 0, 30, [906, 907, 908, 28]), ((9, 390), 5, 0, [382, 54, 17, 55]), ((11, 8), 7, 0, [610, 611, 17, 612]), ((11, 14), 0, 78, [686, 687, 688, 23]),
  ((11, 25), 0, 167, [619, 620, 621, 14]), ((11, 30), 0, 168, [629, 630, 631, 14]), ((11, 34), 0, 76, [667, 668, 669, 23]), ((11, 38), 0, 77, [677, 678, 679, 23]), ((11, 41), 1, 302, [616, 617, 11]),
  ((11, 47), 12, 301, [682, 683, 11]), ((11, 54), 0, 127, [752, 753, 754, 23]), ((11, 57), 0, 128, [765, 766, 767, 23]), ((11, 60), 0, 129, [805, 806, 807, 23]), ((11, 63), 0, 130, [837, 838, 839, 23]),
  ((11, 66), 0, 131, [851, 852, 853, 23]), ((11, 69), 0, 132, [866, 867, 868, 23]), ((11, 72), 0, 133, [871, 872, 873, 23]), ((11, 76), 0, 134, [877, 878, 879, 23]), ((11, 79), 0, 110, [886, 887, 888, 23]),
  ((11, 83), 0, 135, [901, 902, 903, 23]), ((11, 92), 0, 82, [414, 415, 416, 23]), ((11, 95), 0, 114, [914, 915, 916, 23]), ((11, 98), 0, 84, [918, 919, 920, 23]), ((11, 103), 0, 85, [923, 924, 925, 23]),
  ((11, 108), 0, 117, [928, 929, 930, 23]), ((11, 113), 0, 118, [933, 934, 935, 23]), ((11, 118), 0, 119, [938, 939, 940, 23]), ((11, 123), 0, 120, [943, 944, 945, 23]), ((11, 128), 0, 121, [948, 949, 950, 23]),
  ((11, 133), 0, 122, [953, 954, 955, 23]), ((11, 136), 0, 90, [957, 958, 959, 23]), ((11, 139), 0, 91, [961, 962, 963, 23]), ((11, 142), 0, 92, [965, 966, 967, 23]), ((11, 145), 0, 94, [418, 419, 420, 23]),
  ((11, 148), 0, 98, [970, 971, 972, 23]), ((11, 151), 0, 99, [974, 975, 976, 23]), ((11, 154), 0, 95, [978, 979, 980, 23]), ((11, 157), 0, 96, [982, 983, 984, 23]), ((11, 163), 0, 101, [987, 988, 989, 23]),
  ((11, 166), 0, 86, [991, 992, 993, 23]), ((11, 170), 0, 100, [1006, 1007, 1008, 23]), ((11, 173), 1, 306, [1010, 1011, 11]), ((11, 176), 0, 97, [1013, 1014, 1015, 23]), ((11, 179), 0, 102, [1018, 1019, 1020, 23]),
  ((11, 182), 0, 83, [1038, 1039, 1040, 23]), ((11, 185), 5, 0, [1042, 54, 17, 55]), ((11, 188), 0, 103, [1043, 1044, 1045, 23]), ((11, 191), 0, 105, [1049, 1050, 1051, 23]), ((11, 194), 0, 109, [422, 423, 424, 23]),
  ((11, 197), 0, 106, [1055, 1056, 1057, 23]), ((11, 200), 0, 108, [1059, 1060, 1061, 23]), ((11, 203), 0, 107, [1063, 1064, 1065, 23]), ((11, 206), 0, 93, [999, 1000, 1001, 23]), ((11, 209), 1, 307, [1003, 1004, 11]),
  ((11, 213), 0, 87, [1026, 1027, 1028, 23]), ((11, 216), 0, 88, [1030, 1031, 1032, 23]), ((11, 219), 1, 308, [1035, 1036, 11]), ((11, 223), 0, 113, [1067, 1068, 1069, 23]), ((11, 226), 0, 126, [1072, 1073, 1074, 23]),
  ((11, 230), 0, 125, [1080, 1081, 1082, 23]), ((11, 234), 0, 123, [1084, 1085, 1086, 23]), ((11, 237), 0, 124, [1097, 1098, 1099, 23]), ((11, 240), 12, 304, [747, 748, 11]), ((11, 246), 2, 146, [1106, 1107, 13]),
  ((11, 247), 0, 149, [1134, 1135, 1136, 13]), ((11, 250), 0, 151, [1203, 1204, 1205, 13]), ((11, 254), 1, 310, [1330, 1331, 11]), ((11, 258), 0, 115, [1333, 1334, 1335, 23]), ((11, 261), 0, 116, [1337, 1338, 1339, 23]),
  ((11, 264), 6, 0, [1341, 370, 17, 371]), ((11, 267), 0, 104, [1342, 1343, 1344, 23]), ((11, 272), 2, 147, [1346, 1347, 13]), ((11, 275), 1, 300, [606, 607, 11]), ((11, 279), 0, 150, [1358, 1243, 1244, 13]),
  ((11, 284), 0, 148, [1357, 1278, 1279, 13]), ((11, 287), 2, 75, [41, 42, 23]), ((11, 288), 1, 303, [613, 614, 11]), ((11, 291), 1, 309, [996, 997, 11]), ((11, 294), 1, 311, [1101, 1102, 11]),
  ((11, 298), 1, 305, [910, 911, 11]), ((11, 302), 0, 111, [556, 557, 558, 23]), ((11, 305), 0, 136, [560, 561, 562, 23]), ((11, 308), 0, 137, [582, 583, 584, 23]), ((12, 1), 9, 0, [1215, 45, 46]),
  ((12, 54), 1, 179, [1230, 1231, 18]), ((12, 212), 8, 0, [1305, 378, 377, 19]), ((12, 335), 0, 170, [623, 624, 625, 14]), ((12, 489), 2, 166, [1212, 1213, 14]), ((12, 492), 0, 171, [633, 634, 635, 14]),
  ((12, 495), 1, 173, [637, 638, 21]), ((12, 549), 15, 183, [1221, 1223, 1224, 1225]), ((12, 552), 15, 163, [1216, 1218, 1219, 1217]), ((12, 1047), 15, 160, [1229, 1172, 1173, 1171]), ((12, 1059), 1, 175, [645, 646, 20]),
  ((13, 9), 1, 172, [640, 641, 14]), ((15, 1), 2, 153, [1109, 1110, 12]), ((15, 7), 2, 154, [1349, 1350, 12]), ((15, 23), 0, 148, [1356, 1278, 1279, 13]), ((15, 29), 13, 155, [1281, 1367, 1133, 1282, 12]),
  ((15, 50), 13, 156, [1138, 1362, 1133, 1139, 12]), ((15, 53), 13, 157, [1246, 1366, 1133, 1247, 12]), ((15, 137), 2, 165, [1209, 1210, 14]), ((15, 343), 13, 164, [1227, 1223, 1133, 1222, 12]), ((16, 3), 9, 0, [1112, 45, 46]),
  ((16, 32), 0, 167, [1291, 620, 621, 14]), ((16, 40), 0, 170, [1300, 624, 625, 14]), ((16, 43), 15, 152, [1353, 1367, 1371, 1354]), ((16, 83), 15, 160, [1170, 1172, 1173, 1171]), ((16, 100), 14, 158, [1141, 1363, 1142, 1143]),
  ((16, 104), 14, 159, [1145, 1364, 1146, 1147]), ((16, 108), 1, 178, [1158, 1159, 18]), ((16, 114), 1, 182, [1149, 1150, 16]), ((16, 191), 1, 174, [1175, 1176, 21]), ((16, 208), 14, 161, [1292, 1369, 1293, 1294]),
  ((16, 245), 1, 177, [1249, 1250, 22]), ((16, 248), 1, 176, [1252, 1253, 22]), ((16, 397), 14, 162, [1296, 1370, 1297, 1298]), ((16, 399), 0, 169, [1301, 1302, 1303, 14]), ((18, 150), 8, 0, [1169, 378, 377, 19]),
  ((18, 304), 6, 0, [1168, 370, 17, 371]), ((18, 339), 1, 180, [1233, 1234, 18]), ((18, 343), 1, 181, [1236, 1237, 18]), ((19, 194), 5, 0, [1152, 54, 17, 55])]
def ctN (o i : Nat) : Option (Nat × Nat × List Nat) := (ctL.find? (fun e => e.1.1 == o && e.1.2 == i)).map (fun e => e.2)
def neL : List Cond := [.methodLinkNest (clsN 3) 40 (ynN 143) "MatchboxModem", .methodLinkNest (clsN 4) 17 (ynN 32) "MatchboxModem", .methodLinkNest (clsN 5) 20 (ynN 12) "MatchboxModem", .methodLinkNest (clsN 5) 27 (ynN 17) "MatchboxModem", .methodLinkNest (clsN 5) 34 (ynN 9) "MatchboxModem", .methodLinkNest (clsN 6) 59 (ynN 145) "MatchboxModem", .methodLinkNest (clsN 6) 69 (ynN 143) "MatchboxModem", .methodLinkNest (clsN 9) 32 (ynN 0) "MatchboxModem", .methodLinkNest (clsN 9) 39 (ynN 55) "MatchboxModem", .methodLinkNest (clsN 9) 53 (ynN 32) "MatchboxModem"]
def neH : String := "MatchboxModem"
def yStrLen : MethodName := ⟨"java/lang/String", "length", "()I"⟩
/-- the inherited name that is called where StringBuilder has its own -/
def ynX (y : Nat) : MethodName := ⟨RJ5, (ynN y).name, (ynN y).desc⟩
def yStrCh : MethodName := ⟨"java/lang/String", "charAt", "(I)C"⟩
def ctW (e : (Nat × Nat) × Nat × Nat × List Nat) : List Cond :=
  match e.2.1 with
  | 0 => [.methodLink (clsN e.1.1) e.1.2 (ynN e.2.2.1), .instanceMethod (ynN e.2.2.1), .selects (ynN e.2.2.1).cls (ynN e.2.2.1) (ynN e.2.2.1), .initialized (ynN e.2.2.1).cls]
  | 1 => [.methodLink (clsN e.1.1) e.1.2 (ynN e.2.2.1), .static (ynN e.2.2.1), .initialized (ynN e.2.2.1).cls]
  | 2 => [.methodLink (clsN e.1.1) e.1.2 (ynN e.2.2.1), .instanceMethod (ynN e.2.2.1), .initialized (ynN e.2.2.1).cls]
  | 3 => [.static (ynN e.2.2.1), .initialized (ynN e.2.2.1).cls]
  | 4 => [.instanceMethod (ynN e.2.2.1), .initialized (ynN e.2.2.1).cls]
  | 5 => [.methodLink (clsN e.1.1) e.1.2 Lib.Math.max.name, .static Lib.Math.max.name, .initialized "java/lang/Math", .code Lib.Math.max.name Lib.Math.max.code 2 (some .int)]
  | 6 => [.methodLink (clsN e.1.1) e.1.2 Lib.Math.min.name, .static Lib.Math.min.name, .initialized "java/lang/Math", .code Lib.Math.min.name Lib.Math.min.code 2 (some .int)]
  | 7 => [.methodLink (clsN e.1.1) e.1.2 Lib.Math.abs.name, .static Lib.Math.abs.name, .initialized "java/lang/Math", .code Lib.Math.abs.name Lib.Math.abs.code 1 (some .int)]
  | 8 => [.methodLink (clsN e.1.1) e.1.2 arraycopyName, .native arraycopyName, .static arraycopyName, .initialized "java/lang/System"]
  | 9 => [.methodLink (clsN e.1.1) e.1.2 objectInit, .instanceMethod objectInit, .code objectInit ⟨#[0xb1]⟩ 1 none]
  | 10 => [.methodLink (clsN e.1.1) e.1.2 yStrLen, .instanceMethod yStrLen, .selects yStrLen.cls yStrLen yStrLen, .initialized yStrLen.cls]
  | 11 => [.methodLink (clsN e.1.1) e.1.2 yStrCh, .instanceMethod yStrCh, .selects yStrCh.cls yStrCh yStrCh, .initialized yStrCh.cls]
  | 12 => [.methodLink (clsN e.1.1) e.1.2 (ynN e.2.2.1), .static (ynN e.2.2.1), .initialized (ynN e.2.2.1).cls]
  | 13 => [.methodLink (clsN e.1.1) e.1.2 (ynN e.2.2.1), .sameMethod (ynN e.2.2.1).cls (ynN e.2.2.1).cls (ynN e.2.2.1).name (ynN e.2.2.1).desc, .superclass RJ4 RJ5, .instanceMethod (ynN e.2.2.1), .initialized (ynN e.2.2.1).cls]
  | 14 => [.methodLink (clsN e.1.1) e.1.2 (ynN e.2.2.1), .sameMethod (ynN e.2.2.1).cls (ynN e.2.2.1).cls (ynN e.2.2.1).name (ynN e.2.2.1).desc, .privateMethod (ynN e.2.2.1), .instanceMethod (ynN e.2.2.1)]
  | 15 => [.methodLink (clsN e.1.1) e.1.2 (ynX e.2.2.1), .sameMethod RJ5 RJ5 (ynX e.2.2.1).name (ynX e.2.2.1).desc, .selects RJ4 (ynX e.2.2.1) (ynN e.2.2.1), .instanceMethod (ynN e.2.2.1)]
  | _ => []
def ctB (e : (Nat × Nat) × Nat × Nat × List Nat) : Bool :=
  decide (e.2.2.1 < 332) && (match e.2.1 with
  | 0 => decide (hhN e.2.2.1 = []) && okC (owN e.2.2.1)
  | 1 => decide (hhN e.2.2.1 = [])
  | 2 => decide (hhN e.2.2.1 = []) && decide ((ynN e.2.2.1).name = "<init>") && decide (rtN e.2.2.1 = none)
  | 3 => decide (.methodLinkNest (clsN e.1.1) e.1.2 (ynN e.2.2.1) neH ∈ neL) && decide (hhN e.2.2.1 = [])
  | 4 => decide (.methodLinkNest (clsN e.1.1) e.1.2 (ynN e.2.2.1) neH ∈ neL) && decide (hhN e.2.2.1 = []) && decide ((ynN e.2.2.1).name = "<init>") && decide (rtN e.2.2.1 = none)
  | 5 => true | 6 => true | 7 => true | 8 => true | 9 => true | 10 => true | 11 => true
  | 13 => decide (hhN e.2.2.1 = []) && decide ((ynN e.2.2.1).name ≠ "<init>")
  | 14 => decide (hhN e.2.2.1 = [])
  | 15 => decide (hhN e.2.2.1 = [])
  | 12 => decide (hhN e.2.2.1 ≠ [])
  | _ => false)
def ftL : List ((Nat × Nat) × Nat × Nat × Nat) := [
  ((0, 9), 0, 1, 111), ((0, 15), 0, 2, 112), ((0, 18), 0, 3, 113), ((0, 21), 0, 4, 114), ((1, 7), 1, 0, 233), ((1, 13), 1, 1, 236), ((1, 16), 1, 2, 239), ((1, 19), 1, 3, 242),
  ((1, 22), 1, 4, 245), ((1, 25), 1, 5, 248), ((1, 28), 1, 6, 251), ((1, 31), 1, 7, 254), ((1, 34), 1, 8, 257), ((2, 9), 2, 1, 175), ((2, 15), 2, 2, 176), ((2, 18), 2, 3, 177),
  ((2, 21), 2, 0, 172), ((3, 9), 3, 1, 196), ((3, 15), 3, 2, 199), ((3, 18), 3, 3, 202), ((3, 21), 3, 4, 205), ((3, 24), 3, 5, 207), ((3, 27), 3, 6, 210), ((3, 30), 3, 0, 193),
  ((4, 11), 4, 2, 335), ((4, 18), 4, 1, 334), ((4, 26), 4, 0, 332), ((5, 9), 5, 8, 293), ((5, 15), 5, 9, 295), ((5, 21), 5, 10, 297), ((5, 28), 5, 11, 300), ((5, 35), 5, 12, 303),
  ((5, 39), 5, 0, 279), ((5, 43), 5, 1, 281), ((5, 46), 5, 2, 284), ((5, 49), 5, 3, 285), ((5, 52), 5, 4, 286), ((5, 55), 5, 5, 288), ((5, 58), 5, 6, 290), ((5, 61), 5, 7, 291),
  ((5, 64), 2, 0, 173), ((5, 67), 3, 0, 194), ((5, 124), 8, 1, 75), ((5, 131), 8, 6, 80), ((5, 134), 8, 7, 82), ((5, 137), 8, 8, 84), ((5, 165), 3, 2, 200), ((5, 177), 3, 5, 208),
  ((5, 180), 3, 1, 197), ((5, 187), 1, 8, 258), ((5, 207), 3, 3, 203), ((5, 210), 1, 0, 234), ((5, 213), 1, 5, 249), ((5, 216), 6, 2, 136), ((5, 217), 1, 6, 252), ((5, 220), 6, 1, 134),
  ((5, 231), 1, 7, 255), ((5, 234), 1, 1, 237), ((5, 237), 1, 2, 240), ((5, 240), 1, 3, 243), ((5, 247), 1, 4, 246), ((6, 9), 6, 0, 132), ((6, 15), 6, 1, 133), ((6, 18), 5, 11, 301),
  ((6, 30), 6, 2, 135), ((6, 34), 6, 3, 138), ((6, 37), 6, 4, 140), ((6, 44), 5, 10, 299), ((6, 77), 5, 1, 282), ((7, 15), 7, 0, 56), ((7, 21), 7, 1, 59), ((8, 9), 8, 5, 79),
  ((8, 15), 8, 0, 73), ((8, 19), 8, 1, 74), ((8, 22), 8, 2, 76), ((8, 25), 8, 3, 77), ((8, 28), 8, 4, 78), ((8, 31), 7, 1, 60), ((8, 63), 8, 6, 81), ((8, 66), 8, 7, 83),
  ((8, 67), 8, 8, 85), ((9, 14), 9, 0, 383), ((9, 18), 9, 1, 384), ((9, 26), 9, 2, 385), ((9, 33), 9, 3, 386), ((9, 40), 9, 4, 387), ((9, 47), 9, 5, 388), ((9, 54), 9, 6, 389),
  ((9, 58), 9, 7, 390), ((9, 61), 9, 8, 391), ((9, 68), 5, 10, 298), ((9, 81), 7, 0, 57), ((9, 85), 7, 1, 58), ((9, 121), 2, 0, 174), ((9, 143), 5, 4, 287), ((9, 146), 5, 0, 280),
  ((9, 149), 5, 1, 283), ((9, 164), 5, 7, 292), ((9, 170), 5, 8, 294), ((9, 177), 5, 9, 296), ((9, 180), 5, 11, 302), ((9, 184), 3, 0, 195), ((9, 190), 3, 1, 198), ((9, 193), 3, 5, 209),
  ((9, 200), 3, 2, 201), ((9, 203), 3, 3, 204), ((9, 206), 3, 4, 206), ((9, 209), 3, 6, 211), ((9, 224), 6, 2, 137), ((9, 230), 6, 3, 139), ((9, 233), 6, 4, 141), ((9, 260), 5, 5, 289),
  ((9, 267), 5, 12, 304), ((9, 271), 1, 0, 235), ((9, 276), 1, 1, 238), ((9, 279), 1, 2, 241), ((9, 282), 1, 4, 247), ((9, 285), 1, 7, 256), ((9, 288), 1, 5, 250), ((9, 289), 1, 3, 244),
  ((9, 302), 1, 6, 253), ((9, 305), 1, 8, 259), ((9, 365), 4, 0, 333), ((9, 371), 9, 9, 392), ((12, 9), 12, 0, 1319), ((12, 15), 12, 1, 1320), ((12, 1048), 15, 2, 1123), ((16, 15), 15, 0, 1121),
  ((16, 22), 15, 1, 1122), ((16, 79), 15, 3, 1124)]
def ftN (o i : Nat) : Option (Nat × Nat × Nat) := (ftL.find? (fun e => e.1.1 == o && e.1.2 == i)).map (fun e => e.2)
def ftC (e : (Nat × Nat) × Nat × Nat × Nat) : Bool := okC e.2.1 && decide (e.2.2.1 < nf e.2.1) && inT e.2.2.2 (.fieldLink (clsN e.1.1) e.1.2 (declN e.2.1) (TT e.2.1 e.2.2.1).2.1 (TT e.2.1 e.2.2.1).2.2.1)
def clL : List ((Nat × Nat) × Nat × Nat × Nat × Nat) := [
  ((9, 7), 7, 47, 48, 24), ((9, 21), 8, 67, 68, 25), ((9, 30), 0, 105, 106, 26), ((9, 37), 6, 126, 127, 27), ((9, 44), 4, 153, 154, 28), ((9, 51), 5, 343, 161, 29),
  ((4, 9), 5, 159, 161, 29), ((5, 18), 2, 166, 167, 30), ((5, 25), 3, 187, 188, 31), ((5, 32), 1, 227, 228, 32), ((11, 15), 9, 39, 40, 23), ((11, 244), 15, 1104, 1105, 13),
  ((15, 18), 12, 1207, 1208, 14)]
def clN (o i : Nat) : Option (Nat × Nat × Nat × Nat) := (clL.find? (fun e => e.1.1 == o && e.1.2 == i)).map (fun e => e.2)
def clC (e : (Nat × Nat) × Nat × Nat × Nat × Nat) : Bool := okC e.2.1 && inT e.2.2.1 (.classLink (clsN e.1.1) e.1.2 (clsN e.2.1)) && inT e.2.2.2.1 (.instantiable (clsN e.2.1) (nf e.2.1)) && inT e.2.2.2.2 (.initialized (clsN e.2.1))
def kiL : List ((Nat × Nat) × Int32 × Nat) := [
  ((9, 240), (65535), 890), ((9, 387), (999999), 501), ((5, 183), (900000), 774), ((11, 7), (100000), 609), ((16, 38), (2147483631), 1352), ((16, 39), (2147483647), 1157),
  ((19, 200), (2147483639), 1153)]
def kiN (o i : Nat) : Option (Int32 × Nat) := (kiL.find? (fun e => e.1.1 == o && e.1.2 == i)).map (fun e => e.2)
def kiC (e : (Nat × Nat) × Int32 × Nat) : Bool := inT e.2.2 (.constant (clsN e.1.1) e.1.2 e.2.1)
def klL : List ((Nat × Nat) × Int64 × Nat) := [
  ((11, 90), (31), 913), ((11, 101), (7), 922), ((11, 106), (11), 927), ((11, 111), (13), 932), ((11, 116), (17), 937), ((11, 121), (19), 942),
  ((11, 126), (23), 947), ((11, 131), (29), 952), ((11, 161), (257), 986)]
def klN (o i : Nat) : Option (Int64 × Nat) := (klL.find? (fun e => e.1.1 == o && e.1.2 == i)).map (fun e => e.2)
def klC (e : (Nat × Nat) × Int64 × Nat) : Bool := inT e.2.2 (.constantLong (clsN e.1.1) e.1.2 e.2.1)
