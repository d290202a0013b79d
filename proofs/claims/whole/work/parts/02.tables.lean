def RX0 : String := "MatchboxModem$Commands"
def TX0 : u_T := fun k => match k with
  | 0 => ("MatchboxModem$Commands", "count", "I", false)
  | 1 => ("MatchboxModem$Commands", "names", "[I", true)
  | 2 => ("MatchboxModem$Commands", "first", "[I", true)
  | 3 => ("MatchboxModem$Commands", "second", "[I", true)
  | _ => ("MatchboxModem$Commands", "third", "[I", true)
def tyX0 : Nat → FieldType := fun k => match k with
  | 0 => .int
  | 1 => .array (.int)
  | 2 => .array (.int)
  | 3 => .array (.int)
  | _ => .array (.int)
def RX1 : String := "MatchboxModem$Counters"
def TX1 : u_T := fun k => match k with
  | 0 => ("MatchboxModem$Counters", "attempted", "I", false)
  | 1 => ("MatchboxModem$Counters", "unreadable", "I", false)
  | 2 => ("MatchboxModem$Counters", "ignored", "I", false)
  | 3 => ("MatchboxModem$Counters", "arrivals", "I", false)
  | 4 => ("MatchboxModem$Counters", "unheard", "I", false)
  | 5 => ("MatchboxModem$Counters", "bits", "I", false)
  | 6 => ("MatchboxModem$Counters", "beeped", "I", false)
  | 7 => ("MatchboxModem$Counters", "napped", "I", false)
  | _ => ("MatchboxModem$Counters", "waited", "I", false)
def tyX1 : Nat → FieldType := fun k => match k with
  | 0 => .int
  | 1 => .int
  | 2 => .int
  | 3 => .int
  | 4 => .int
  | 5 => .int
  | 6 => .int
  | 7 => .int
  | _ => .int
def RX2 : String := "MatchboxModem$Dogs"
def TX2 : u_T := fun k => match k with
  | 0 => ("MatchboxModem$Dogs", "count", "I", false)
  | 1 => ("MatchboxModem$Dogs", "periods", "[I", true)
  | 2 => ("MatchboxModem$Dogs", "lengths", "[I", true)
  | _ => ("MatchboxModem$Dogs", "offsets", "[I", true)
def tyX2 : Nat → FieldType := fun k => match k with
  | 0 => .int
  | 1 => .array (.int)
  | 2 => .array (.int)
  | _ => .array (.int)
def RX3 : String := "MatchboxModem$Frames"
def TX3 : u_T := fun k => match k with
  | 0 => ("MatchboxModem$Frames", "count", "I", false)
  | 1 => ("MatchboxModem$Frames", "sizes", "[I", true)
  | 2 => ("MatchboxModem$Frames", "states", "[I", true)
  | 3 => ("MatchboxModem$Frames", "tries", "[I", true)
  | 4 => ("MatchboxModem$Frames", "arrivals", "[I", true)
  | 5 => ("MatchboxModem$Frames", "sent", "[I", true)
  | _ => ("MatchboxModem$Frames", "arrived", "[I", true)
def tyX3 : Nat → FieldType := fun k => match k with
  | 0 => .int
  | 1 => .array (.int)
  | 2 => .array (.int)
  | 3 => .array (.int)
  | 4 => .array (.int)
  | 5 => .array (.int)
  | _ => .array (.int)
def RX4 : String := "MatchboxModem$History"
def TX4 : u_T := fun k => match k with
  | 0 => ("MatchboxModem$History", "count", "I", false)
  | 1 => ("MatchboxModem$History", "next", "I", false)
  | _ => ("MatchboxModem$History", "before", "[LMatchboxModem$Line;", true)
def tyX4 : Nat → FieldType := fun k => match k with
  | 0 => .int
  | 1 => .int
  | _ => .array (.object "MatchboxModem$Line")
def RX5 : String := "MatchboxModem$Line"
def TX5 : u_T := fun k => match k with
  | 0 => ("MatchboxModem$Line", "bitTicks", "I", false)
  | 1 => ("MatchboxModem$Line", "slowness", "I", false)
  | 2 => ("MatchboxModem$Line", "napBase", "I", false)
  | 3 => ("MatchboxModem$Line", "attemptLimit", "I", false)
  | 4 => ("MatchboxModem$Line", "now", "I", false)
  | 5 => ("MatchboxModem$Line", "awakeAt", "I", false)
  | 6 => ("MatchboxModem$Line", "lastSequence", "I", false)
  | 7 => ("MatchboxModem$Line", "messages", "I", false)
  | 8 => ("MatchboxModem$Line", "messageBytes", "[I", true)
  | 9 => ("MatchboxModem$Line", "firstFrames", "[I", true)
  | 10 => ("MatchboxModem$Line", "dogs", "LMatchboxModem$Dogs;", true)
  | 11 => ("MatchboxModem$Line", "frames", "LMatchboxModem$Frames;", true)
  | _ => ("MatchboxModem$Line", "counters", "LMatchboxModem$Counters;", true)
def tyX5 : Nat → FieldType := fun k => match k with
  | 0 => .int
  | 1 => .int
  | 2 => .int
  | 3 => .int
  | 4 => .int
  | 5 => .int
  | 6 => .int
  | 7 => .int
  | 8 => .array (.int)
  | 9 => .array (.int)
  | 10 => .object "MatchboxModem$Dogs"
  | 11 => .object "MatchboxModem$Frames"
  | _ => .object "MatchboxModem$Counters"
def RX6 : String := "MatchboxModem$Sending"
def TX6 : u_T := fun k => match k with
  | 0 => ("MatchboxModem$Sending", "cable", "[I", true)
  | 1 => ("MatchboxModem$Sending", "taken", "[I", true)
  | 2 => ("MatchboxModem$Sending", "bits", "I", false)
  | 3 => ("MatchboxModem$Sending", "inverted", "I", false)
  | _ => ("MatchboxModem$Sending", "burst", "I", false)
def tyX6 : Nat → FieldType := fun k => match k with
  | 0 => .array (.int)
  | 1 => .array (.int)
  | 2 => .int
  | 3 => .int
  | _ => .int
def RX7 : String := "MatchboxModem$Text"
def TX7 : u_T := fun k => match k with
  | 0 => ("MatchboxModem$Text", "bytes", "[I", true)
  | _ => ("MatchboxModem$Text", "length", "I", false)
def tyX7 : Nat → FieldType := fun k => match k with
  | 0 => .array (.int)
  | _ => .int
def RX8 : String := "MatchboxModem$Tokens"
def TX8 : u_T := fun k => match k with
  | 0 => ("MatchboxModem$Tokens", "text", "LMatchboxModem$Text;", true)
  | 1 => ("MatchboxModem$Tokens", "kind", "I", false)
  | 2 => ("MatchboxModem$Tokens", "start", "I", false)
  | 3 => ("MatchboxModem$Tokens", "end", "I", false)
  | 4 => ("MatchboxModem$Tokens", "failure", "I", false)
  | 5 => ("MatchboxModem$Tokens", "failedAt", "I", false)
  | 6 => ("MatchboxModem$Tokens", "period", "I", false)
  | 7 => ("MatchboxModem$Tokens", "length", "I", false)
  | _ => ("MatchboxModem$Tokens", "offset", "I", false)
def tyX8 : Nat → FieldType := fun k => match k with
  | 0 => .object "MatchboxModem$Text"
  | 1 => .int
  | 2 => .int
  | 3 => .int
  | 4 => .int
  | 5 => .int
  | 6 => .int
  | 7 => .int
  | _ => .int
def RX9 : String := "MatchboxModem"
def TX9 : u_T := fun k => match k with
  | 0 => ("MatchboxModem", "input", "LMatchboxModem$Text;", true)
  | 1 => ("MatchboxModem", "output", "LMatchboxModem$Text;", true)
  | 2 => ("MatchboxModem", "tokens", "LMatchboxModem$Tokens;", true)
  | 3 => ("MatchboxModem", "commands", "LMatchboxModem$Commands;", true)
  | 4 => ("MatchboxModem", "sending", "LMatchboxModem$Sending;", true)
  | 5 => ("MatchboxModem", "history", "LMatchboxModem$History;", true)
  | 6 => ("MatchboxModem", "line", "LMatchboxModem$Line;", true)
  | 7 => ("MatchboxModem", "saved", "LMatchboxModem$Line;", true)
  | 8 => ("MatchboxModem", "scratch", "LMatchboxModem$Line;", true)
  | _ => ("MatchboxModem", "hasSaved", "Z", false)
def tyX9 : Nat → FieldType := fun k => match k with
  | 0 => .object "MatchboxModem$Text"
  | 1 => .object "MatchboxModem$Text"
  | 2 => .object "MatchboxModem$Tokens"
  | 3 => .object "MatchboxModem$Commands"
  | 4 => .object "MatchboxModem$Sending"
  | 5 => .object "MatchboxModem$History"
  | 6 => .object "MatchboxModem$Line"
  | 7 => .object "MatchboxModem$Line"
  | 8 => .object "MatchboxModem$Line"
  | _ => .boolean
def RX10 : String := "MatchboxModemModel"
def TX10 : u_T := fun k => match k with
  | 0 => ("MatchboxModemModel", "s", "[I", true)
  | 1 => ("MatchboxModemModel", "saved", "[I", true)
  | 2 => ("MatchboxModemModel", "held", "[I", true)
  | 3 => ("MatchboxModemModel", "aside", "[I", true)
  | 4 => ("MatchboxModemModel", "past", "[I", true)
  | 5 => ("MatchboxModemModel", "pastMany", "I", false)
  | 6 => ("MatchboxModemModel", "thrown", "I", false)
  | 7 => ("MatchboxModemModel", "isSaved", "Z", false)
  | 8 => ("MatchboxModemModel", "letters", "[I", true)
  | 9 => ("MatchboxModemModel", "got", "[I", true)
  | 10 => ("MatchboxModemModel", "answer", "I", false)
  | 11 => ("MatchboxModemModel", "buffer", "[I", true)
  | 12 => ("MatchboxModemModel", "length", "I", false)
  | 13 => ("MatchboxModemModel", "at", "I", false)
  | 14 => ("MatchboxModemModel", "begin", "I", false)
  | 15 => ("MatchboxModemModel", "wordLong", "I", false)
  | 16 => ("MatchboxModemModel", "error", "I", false)
  | 17 => ("MatchboxModemModel", "errorAt", "I", false)
  | 18 => ("MatchboxModemModel", "toldError", "I", false)
  | 19 => ("MatchboxModemModel", "toldAt", "I", false)
  | 20 => ("MatchboxModemModel", "told", "[I", true)
  | 21 => ("MatchboxModemModel", "toldMany", "I", false)
  | 22 => ("MatchboxModemModel", "output", "[I", true)
  | _ => ("MatchboxModemModel", "outputLong", "I", false)
def tyX10 : Nat → FieldType := fun k => match k with
  | 0 => .array (.int)
  | 1 => .array (.int)
  | 2 => .array (.int)
  | 3 => .array (.int)
  | 4 => .array (.int)
  | 5 => .int
  | 6 => .int
  | 7 => .boolean
  | 8 => .array (.int)
  | 9 => .array (.int)
  | 10 => .int
  | 11 => .array (.int)
  | 12 => .int
  | 13 => .int
  | 14 => .int
  | 15 => .int
  | 16 => .int
  | 17 => .int
  | 18 => .int
  | 19 => .int
  | 20 => .array (.int)
  | 21 => .int
  | 22 => .array (.int)
  | _ => .int
def RL : String := "MatchboxModemLaw"
abbrev vwCl : List vw_C := [(RX0, TX0, 5), (RX1, TX1, 9), (RX2, TX2, 4), (RX3, TX3, 7), (RX4, TX4, 3), (RX5, TX5, 13), (RX6, TX6, 5), (RX7, TX7, 2), (RX8, TX8, 9), (RX9, TX9, 10), (RX10, TX10, 24)]
abbrev cX0_init : ByteArray := prog_2_method_1_code
def yX0_init : MethodName := ⟨RX0, "<init>", "()V"⟩
abbrev cX0_read : ByteArray := prog_2_method_2_code
def yX0_read : MethodName := ⟨RX0, "read", "(LMatchboxModem$Tokens;)Z"⟩
abbrev cX0_readOne : ByteArray := prog_2_method_3_code
def yX0_readOne : MethodName := ⟨RX0, "readOne", "(LMatchboxModem$Tokens;)Z"⟩
abbrev cX0_nameIn : ByteArray := prog_2_method_4_code
def yX0_nameIn : MethodName := ⟨RX0, "nameIn", "(LMatchboxModem$Tokens;)I"⟩
abbrev cX0_readArguments : ByteArray := prog_2_method_5_code
def yX0_readArguments : MethodName := ⟨RX0, "readArguments", "(LMatchboxModem$Tokens;I)Z"⟩
abbrev cX0_readWord : ByteArray := prog_2_method_6_code
def yX0_readWord : MethodName := ⟨RX0, "readWord", "(LMatchboxModem$Tokens;)Z"⟩
abbrev cX0_readNumber : ByteArray := prog_2_method_7_code
def yX0_readNumber : MethodName := ⟨RX0, "readNumber", "(LMatchboxModem$Tokens;II)Z"⟩
abbrev cX0_setArguments : ByteArray := prog_2_method_8_code
def yX0_setArguments : MethodName := ⟨RX0, "setArguments", "(III)Z"⟩
abbrev cX0_run : ByteArray := prog_2_method_9_code
def yX0_run : MethodName := ⟨RX0, "run", "(ILMatchboxModem$Line;LMatchboxModem$Text;LMatchboxModem$Sending;)Z"⟩
abbrev cX1_init : ByteArray := prog_3_method_1_code
def yX1_init : MethodName := ⟨RX1, "<init>", "()V"⟩
abbrev cX1_clear : ByteArray := prog_3_method_2_code
def yX1_clear : MethodName := ⟨RX1, "clear", "()V"⟩
abbrev cX1_copyFrom : ByteArray := prog_3_method_3_code
def yX1_copyFrom : MethodName := ⟨RX1, "copyFrom", "(LMatchboxModem$Counters;)V"⟩
abbrev cX2_init : ByteArray := prog_4_method_1_code
def yX2_init : MethodName := ⟨RX2, "<init>", "()V"⟩
abbrev cX2_copyFrom : ByteArray := prog_4_method_2_code
def yX2_copyFrom : MethodName := ⟨RX2, "copyFrom", "(LMatchboxModem$Dogs;)V"⟩
abbrev cX2_add : ByteArray := prog_4_method_3_code
def yX2_add : MethodName := ⟨RX2, "add", "(III)Z"⟩
abbrev cX2_remove : ByteArray := prog_4_method_4_code
def yX2_remove : MethodName := ⟨RX2, "remove", "(I)Z"⟩
abbrev cX2_chewIn : ByteArray := prog_4_method_5_code
def yX2_chewIn : MethodName := ⟨RX2, "chewIn", "(I)Z"⟩
abbrev cX3_init : ByteArray := prog_5_method_1_code
def yX3_init : MethodName := ⟨RX3, "<init>", "()V"⟩
abbrev cX3_copyFrom : ByteArray := prog_5_method_2_code
def yX3_copyFrom : MethodName := ⟨RX3, "copyFrom", "(LMatchboxModem$Frames;)V"⟩
abbrev cX3_add : ByteArray := prog_5_method_3_code
def yX3_add : MethodName := ⟨RX3, "add", "([III)V"⟩
abbrev cX3_bitsOf : ByteArray := prog_5_method_4_code
def yX3_bitsOf : MethodName := ⟨RX3, "bitsOf", "(I)I"⟩
abbrev cX3_bitOf : ByteArray := prog_5_method_5_code
def yX3_bitOf : MethodName := ⟨RX3, "bitOf", "(II)I"⟩
abbrev cX3_firstQueued : ByteArray := prog_5_method_6_code
def yX3_firstQueued : MethodName := ⟨RX3, "firstQueued", "()I"⟩
abbrev cX3_arrive : ByteArray := prog_5_method_7_code
def yX3_arrive : MethodName := ⟨RX3, "arrive", "(I[I)V"⟩
abbrev cX3_arrivedAsSent : ByteArray := prog_5_method_8_code
def yX3_arrivedAsSent : MethodName := ⟨RX3, "arrivedAsSent", "(I)Z"⟩
abbrev cX3_triesOfAll : ByteArray := prog_5_method_9_code
def yX3_triesOfAll : MethodName := ⟨RX3, "triesOfAll", "()I"⟩
abbrev cX3_acknowledgedUntried : ByteArray := prog_5_method_10_code
def yX3_acknowledgedUntried : MethodName := ⟨RX3, "acknowledgedUntried", "()I"⟩
abbrev cX3_acknowledgedBytes : ByteArray := prog_5_method_11_code
def yX3_acknowledgedBytes : MethodName := ⟨RX3, "acknowledgedBytes", "()I"⟩
abbrev cX4_init : ByteArray := prog_6_method_1_code
def yX4_init : MethodName := ⟨RX4, "<init>", "()V"⟩
abbrev cX4_keep : ByteArray := prog_6_method_2_code
def yX4_keep : MethodName := ⟨RX4, "keep", "(LMatchboxModem$Line;)V"⟩
abbrev cX4_takeBack : ByteArray := prog_6_method_3_code
def yX4_takeBack : MethodName := ⟨RX4, "takeBack", "(LMatchboxModem$Line;)V"⟩
abbrev cX4_forget : ByteArray := prog_6_method_4_code
def yX4_forget : MethodName := ⟨RX4, "forget", "()V"⟩
abbrev cX5_init : ByteArray := prog_7_method_1_code
def yX5_init : MethodName := ⟨RX5, "<init>", "()V"⟩
abbrev cX5_configure : ByteArray := prog_7_method_2_code
def yX5_configure : MethodName := ⟨RX5, "configure", "(IIII)V"⟩
abbrev cX5_copyFrom : ByteArray := prog_7_method_3_code
def yX5_copyFrom : MethodName := ⟨RX5, "copyFrom", "(LMatchboxModem$Line;)V"⟩
abbrev cX5_readConfiguration : ByteArray := prog_7_method_4_code
def yX5_readConfiguration : MethodName := ⟨RX5, "readConfiguration", "(LMatchboxModem$Tokens;)Z"⟩
abbrev cX5_readModem : ByteArray := prog_7_method_5_code
def yX5_readModem : MethodName := ⟨RX5, "readModem", "(LMatchboxModem$Tokens;)Z"⟩
abbrev cX5_readDogs : ByteArray := prog_7_method_6_code
def yX5_readDogs : MethodName := ⟨RX5, "readDogs", "(LMatchboxModem$Tokens;)Z"⟩
abbrev cX5_hasMessage : ByteArray := prog_7_method_7_code
def yX5_hasMessage : MethodName := ⟨RX5, "hasMessage", "(I)Z"⟩
abbrev cX5_hasRoomForMessage : ByteArray := prog_7_method_8_code
def yX5_hasRoomForMessage : MethodName := ⟨RX5, "hasRoomForMessage", "()Z"⟩
abbrev cX5_addMessage : ByteArray := prog_7_method_9_code
def yX5_addMessage : MethodName := ⟨RX5, "addMessage", "([III)I"⟩
abbrev cX5_endOf : ByteArray := prog_7_method_10_code
def yX5_endOf : MethodName := ⟨RX5, "endOf", "(I)I"⟩
abbrev cX5_stateOfMessage : ByteArray := prog_7_method_11_code
def yX5_stateOfMessage : MethodName := ⟨RX5, "stateOfMessage", "(I)I"⟩
abbrev cX5_mayGiveUp : ByteArray := prog_7_method_12_code
def yX5_mayGiveUp : MethodName := ⟨RX5, "mayGiveUp", "(I)Z"⟩
abbrev cX5_giveUp : ByteArray := prog_7_method_13_code
def yX5_giveUp : MethodName := ⟨RX5, "giveUp", "(I)I"⟩
abbrev cX5_maySendAgain : ByteArray := prog_7_method_14_code
def yX5_maySendAgain : MethodName := ⟨RX5, "maySendAgain", "(I)Z"⟩
abbrev cX5_sendAgain : ByteArray := prog_7_method_15_code
def yX5_sendAgain : MethodName := ⟨RX5, "sendAgain", "(I)I"⟩
abbrev cX5_mayWait : ByteArray := prog_7_method_16_code
def yX5_mayWait : MethodName := ⟨RX5, "mayWait", "(I)Z"⟩
abbrev cX5_letPass : ByteArray := prog_7_method_17_code
def yX5_letPass : MethodName := ⟨RX5, "letPass", "(I)Z"⟩
abbrev cX5_mayAttempt : ByteArray := prog_7_method_18_code
def yX5_mayAttempt : MethodName := ⟨RX5, "mayAttempt", "()Z"⟩
abbrev cX5_makeAttempts : ByteArray := prog_7_method_19_code
def yX5_makeAttempts : MethodName := ⟨RX5, "makeAttempts", "(ILMatchboxModem$Sending;)I"⟩
abbrev cX5_attempt : ByteArray := prog_7_method_20_code
def yX5_attempt : MethodName := ⟨RX5, "attempt", "(ILMatchboxModem$Sending;)V"⟩
abbrev cX5_endNap : ByteArray := prog_7_method_21_code
def yX5_endNap : MethodName := ⟨RX5, "endNap", "()V"⟩
abbrev cX5_receive : ByteArray := prog_7_method_22_code
def yX5_receive : MethodName := ⟨RX5, "receive", "(II[I)V"⟩
abbrev cX5_settle : ByteArray := prog_7_method_23_code
def yX5_settle : MethodName := ⟨RX5, "settle", "(II)V"⟩
abbrev cX6_init : ByteArray := prog_8_method_1_code
def yX6_init : MethodName := ⟨RX6, "<init>", "()V"⟩
abbrev cX6_putOnCable : ByteArray := prog_8_method_2_code
def yX6_putOnCable : MethodName := ⟨RX6, "putOnCable", "(LMatchboxModem$Line;III)V"⟩
abbrev cX6_takenBit : ByteArray := prog_8_method_3_code
def yX6_takenBit : MethodName := ⟨RX6, "takenBit", "(II)I"⟩
abbrev cX6_take : ByteArray := prog_8_method_4_code
def yX6_take : MethodName := ⟨RX6, "take", "(I)V"⟩
abbrev cX6_takeInverted : ByteArray := prog_8_method_5_code
def yX6_takeInverted : MethodName := ⟨RX6, "takeInverted", "(LMatchboxModem$Frames;IIII)V"⟩
abbrev cX6_readable : ByteArray := prog_8_method_6_code
def yX6_readable : MethodName := ⟨RX6, "readable", "()Z"⟩
abbrev cX6_send : ByteArray := prog_8_method_7_code
def yX6_send : MethodName := ⟨RX6, "send", "(LMatchboxModem$Line;III)I"⟩
abbrev cX7_init : ByteArray := prog_9_method_1_code
def yX7_init : MethodName := ⟨RX7, "<init>", "(I)V"⟩
abbrev cX7_at : ByteArray := prog_9_method_2_code
def yX7_at : MethodName := ⟨RX7, "at", "(I)I"⟩
abbrev cX7_put : ByteArray := prog_9_method_3_code
def yX7_put : MethodName := ⟨RX7, "put", "(I)V"⟩
abbrev cX7_putFour : ByteArray := prog_9_method_4_code
def yX7_putFour : MethodName := ⟨RX7, "putFour", "(I)V"⟩
abbrev cX8_init : ByteArray := prog_10_method_1_code
def yX8_init : MethodName := ⟨RX8, "<init>", "(LMatchboxModem$Text;)V"⟩
abbrev cX8_begin : ByteArray := prog_10_method_2_code
def yX8_begin : MethodName := ⟨RX8, "begin", "()V"⟩
abbrev cX8_fail : ByteArray := prog_10_method_3_code
def yX8_fail : MethodName := ⟨RX8, "fail", "(I)Z"⟩
abbrev cX8_next : ByteArray := prog_10_method_4_code
def yX8_next : MethodName := ⟨RX8, "next", "()V"⟩
abbrev cX8_kindOf : ByteArray := prog_10_method_5_code
def yX8_kindOf : MethodName := ⟨RX8, "kindOf", "(I)I"⟩
abbrev cX8_spells : ByteArray := prog_10_method_6_code
def yX8_spells : MethodName := ⟨RX8, "spells", "(Ljava/lang/String;)Z"⟩
abbrev cX8_number : ByteArray := prog_10_method_7_code
def yX8_number : MethodName := ⟨RX8, "number", "(II)I"⟩
abbrev cX8_semicolon : ByteArray := prog_10_method_8_code
def yX8_semicolon : MethodName := ⟨RX8, "semicolon", "()Z"⟩
abbrev cX8_dog : ByteArray := prog_10_method_9_code
def yX8_dog : MethodName := ⟨RX8, "dog", "()Z"⟩
abbrev cX9_init : ByteArray := prog_1_method_1_code
def yX9_init : MethodName := ⟨RX9, "<init>", "()V"⟩
abbrev cX9_append : ByteArray := prog_1_method_2_code
def yX9_append : MethodName := ⟨RX9, "append", "(IIIII)I"⟩
abbrev cX9_truncate : ByteArray := prog_1_method_3_code
def yX9_truncate : MethodName := ⟨RX9, "truncate", "(I)I"⟩
abbrev cX9_load : ByteArray := prog_1_method_4_code
def yX9_load : MethodName := ⟨RX9, "load", "()I"⟩
abbrev cX9_executeCommands : ByteArray := prog_1_method_5_code
def yX9_executeCommands : MethodName := ⟨RX9, "executeCommands", "()I"⟩
abbrev cX9_errorCode : ByteArray := prog_1_method_6_code
def yX9_errorCode : MethodName := ⟨RX9, "errorCode", "()I"⟩
abbrev cX9_errorPosition : ByteArray := prog_1_method_7_code
def yX9_errorPosition : MethodName := ⟨RX9, "errorPosition", "()I"⟩
abbrev cX9_clock : ByteArray := prog_1_method_8_code
def yX9_clock : MethodName := ⟨RX9, "clock", "()I"⟩
abbrev cX9_bitTime : ByteArray := prog_1_method_9_code
def yX9_bitTime : MethodName := ⟨RX9, "bitTime", "()I"⟩
abbrev cX9_drift : ByteArray := prog_1_method_10_code
def yX9_drift : MethodName := ⟨RX9, "drift", "()I"⟩
abbrev cX9_dogCount : ByteArray := prog_1_method_11_code
def yX9_dogCount : MethodName := ⟨RX9, "dogCount", "()I"⟩
abbrev cX9_isChewed : ByteArray := prog_1_method_12_code
def yX9_isChewed : MethodName := ⟨RX9, "isChewed", "(I)Z"⟩
abbrev cX9_nextChewedTick : ByteArray := prog_1_method_13_code
def yX9_nextChewedTick : MethodName := ⟨RX9, "nextChewedTick", "(I)I"⟩
abbrev cX9_nextQuietTick : ByteArray := prog_1_method_14_code
def yX9_nextQuietTick : MethodName := ⟨RX9, "nextQuietTick", "(I)I"⟩
abbrev cX9_checksum : ByteArray := prog_1_method_15_code
def yX9_checksum : MethodName := ⟨RX9, "checksum", "()I"⟩
abbrev cX9_messageCount : ByteArray := prog_1_method_16_code
def yX9_messageCount : MethodName := ⟨RX9, "messageCount", "()I"⟩
abbrev cX9_messageLength : ByteArray := prog_1_method_17_code
def yX9_messageLength : MethodName := ⟨RX9, "messageLength", "(I)I"⟩
abbrev cX9_messageState : ByteArray := prog_1_method_18_code
def yX9_messageState : MethodName := ⟨RX9, "messageState", "(I)I"⟩
abbrev cX9_firstFrame : ByteArray := prog_1_method_19_code
def yX9_firstFrame : MethodName := ⟨RX9, "firstFrame", "(I)I"⟩
abbrev cX9_frameCount : ByteArray := prog_1_method_20_code
def yX9_frameCount : MethodName := ⟨RX9, "frameCount", "()I"⟩
abbrev cX9_frameLength : ByteArray := prog_1_method_21_code
def yX9_frameLength : MethodName := ⟨RX9, "frameLength", "(I)I"⟩
abbrev cX9_frameByte : ByteArray := prog_1_method_22_code
def yX9_frameByte : MethodName := ⟨RX9, "frameByte", "(II)I"⟩
abbrev cX9_frameBit : ByteArray := prog_1_method_23_code
def yX9_frameBit : MethodName := ⟨RX9, "frameBit", "(II)I"⟩
abbrev cX9_frameState : ByteArray := prog_1_method_24_code
def yX9_frameState : MethodName := ⟨RX9, "frameState", "(I)I"⟩
abbrev cX9_attemptsOf : ByteArray := prog_1_method_25_code
def yX9_attemptsOf : MethodName := ⟨RX9, "attemptsOf", "(I)I"⟩
abbrev cX9_hasArrived : ByteArray := prog_1_method_26_code
def yX9_hasArrived : MethodName := ⟨RX9, "hasArrived", "(I)Z"⟩
abbrev cX9_arrivedByte : ByteArray := prog_1_method_27_code
def yX9_arrivedByte : MethodName := ⟨RX9, "arrivedByte", "(II)I"⟩
abbrev cX9_isIntact : ByteArray := prog_1_method_28_code
def yX9_isIntact : MethodName := ⟨RX9, "isIntact", "(I)Z"⟩
abbrev cX9_takenFrom : ByteArray := prog_1_method_29_code
def yX9_takenFrom : MethodName := ⟨RX9, "takenFrom", "(I)I"⟩
abbrev cX9_safeBits : ByteArray := prog_1_method_30_code
def yX9_safeBits : MethodName := ⟨RX9, "safeBits", "()I"⟩
abbrev cX9_receivedBit : ByteArray := prog_1_method_31_code
def yX9_receivedBit : MethodName := ⟨RX9, "receivedBit", "(III)I"⟩
abbrev cX9_invertedBits : ByteArray := prog_1_method_32_code
def yX9_invertedBits : MethodName := ⟨RX9, "invertedBits", "(II)I"⟩
abbrev cX9_longestBurst : ByteArray := prog_1_method_33_code
def yX9_longestBurst : MethodName := ⟨RX9, "longestBurst", "(II)I"⟩
abbrev cX9_wrongBits : ByteArray := prog_1_method_34_code
def yX9_wrongBits : MethodName := ⟨RX9, "wrongBits", "(II)I"⟩
abbrev cX9_resultAt : ByteArray := prog_1_method_35_code
def yX9_resultAt : MethodName := ⟨RX9, "resultAt", "(II)I"⟩
abbrev cX9_wouldPass : ByteArray := prog_1_method_36_code
def yX9_wouldPass : MethodName := ⟨RX9, "wouldPass", "(III)Z"⟩
abbrev cX9_earliestSuccess : ByteArray := prog_1_method_37_code
def yX9_earliestSuccess : MethodName := ⟨RX9, "earliestSuccess", "(I)I"⟩
abbrev cX9_bestBitTime : ByteArray := prog_1_method_38_code
def yX9_bestBitTime : MethodName := ⟨RX9, "bestBitTime", "(I)I"⟩
abbrev cX9_pendingFrame : ByteArray := prog_1_method_39_code
def yX9_pendingFrame : MethodName := ⟨RX9, "pendingFrame", "()I"⟩
abbrev cX9_napEnd : ByteArray := prog_1_method_40_code
def yX9_napEnd : MethodName := ⟨RX9, "napEnd", "()I"⟩
abbrev cX9_attemptsUntilIdle : ByteArray := prog_1_method_41_code
def yX9_attemptsUntilIdle : MethodName := ⟨RX9, "attemptsUntilIdle", "()I"⟩
abbrev cX9_clockWhenIdle : ByteArray := prog_1_method_42_code
def yX9_clockWhenIdle : MethodName := ⟨RX9, "clockWhenIdle", "()I"⟩
abbrev cX9_attempts : ByteArray := prog_1_method_43_code
def yX9_attempts : MethodName := ⟨RX9, "attempts", "()I"⟩
abbrev cX9_unreadableFrames : ByteArray := prog_1_method_44_code
def yX9_unreadableFrames : MethodName := ⟨RX9, "unreadableFrames", "()I"⟩
abbrev cX9_duplicates : ByteArray := prog_1_method_45_code
def yX9_duplicates : MethodName := ⟨RX9, "duplicates", "()I"⟩
abbrev cX9_lostAcknowledgements : ByteArray := prog_1_method_46_code
def yX9_lostAcknowledgements : MethodName := ⟨RX9, "lostAcknowledgements", "()I"⟩
abbrev cX9_nappedTicks : ByteArray := prog_1_method_47_code
def yX9_nappedTicks : MethodName := ⟨RX9, "nappedTicks", "()I"⟩
abbrev cX9_bitsSent : ByteArray := prog_1_method_48_code
def yX9_bitsSent : MethodName := ⟨RX9, "bitsSent", "()I"⟩
abbrev cX9_attemptImbalance : ByteArray := prog_1_method_49_code
def yX9_attemptImbalance : MethodName := ⟨RX9, "attemptImbalance", "()I"⟩
abbrev cX9_clockImbalance : ByteArray := prog_1_method_50_code
def yX9_clockImbalance : MethodName := ⟨RX9, "clockImbalance", "()I"⟩
abbrev cX9_errorRate : ByteArray := prog_1_method_51_code
def yX9_errorRate : MethodName := ⟨RX9, "errorRate", "()F"⟩
abbrev cX9_throughput : ByteArray := prog_1_method_52_code
def yX9_throughput : MethodName := ⟨RX9, "throughput", "()D"⟩
abbrev cX9_sendMessage : ByteArray := prog_1_method_53_code
def yX9_sendMessage : MethodName := ⟨RX9, "sendMessage", "()I"⟩
abbrev cX9_transmit : ByteArray := prog_1_method_54_code
def yX9_transmit : MethodName := ⟨RX9, "transmit", "(I)I"⟩
abbrev cX9_cancelMessage : ByteArray := prog_1_method_55_code
def yX9_cancelMessage : MethodName := ⟨RX9, "cancelMessage", "(I)I"⟩
abbrev cX9_resendMessage : ByteArray := prog_1_method_56_code
def yX9_resendMessage : MethodName := ⟨RX9, "resendMessage", "(I)I"⟩
abbrev cX9_waitTicks : ByteArray := prog_1_method_57_code
def yX9_waitTicks : MethodName := ⟨RX9, "waitTicks", "(I)I"⟩
abbrev cX9_setDrift : ByteArray := prog_1_method_58_code
def yX9_setDrift : MethodName := ⟨RX9, "setDrift", "(I)I"⟩
abbrev cX9_addDog : ByteArray := prog_1_method_59_code
def yX9_addDog : MethodName := ⟨RX9, "addDog", "(III)I"⟩
abbrev cX9_removeDog : ByteArray := prog_1_method_60_code
def yX9_removeDog : MethodName := ⟨RX9, "removeDog", "(I)I"⟩
abbrev cX9_undo : ByteArray := prog_1_method_61_code
def yX9_undo : MethodName := ⟨RX9, "undo", "()I"⟩
abbrev cX9_save : ByteArray := prog_1_method_62_code
def yX9_save : MethodName := ⟨RX9, "save", "()I"⟩
abbrev cX9_restore : ByteArray := prog_1_method_63_code
def yX9_restore : MethodName := ⟨RX9, "restore", "()I"⟩
abbrev cX9_formatFrame : ByteArray := prog_1_method_64_code
def yX9_formatFrame : MethodName := ⟨RX9, "formatFrame", "(II)I"⟩
abbrev cX9_outputByte : ByteArray := prog_1_method_65_code
def yX9_outputByte : MethodName := ⟨RX9, "outputByte", "(I)I"⟩
abbrev cX9_requireFrame : ByteArray := prog_1_method_66_code
def yX9_requireFrame : MethodName := ⟨RX9, "requireFrame", "(I)V"⟩
abbrev cX9_requireMessage : ByteArray := prog_1_method_67_code
def yX9_requireMessage : MethodName := ⟨RX9, "requireMessage", "(I)V"⟩
abbrev cX9_requireTick : ByteArray := prog_1_method_68_code
def yX9_requireTick : MethodName := ⟨RX9, "requireTick", "(I)V"⟩
abbrev cX9_checksumOf : ByteArray := prog_1_method_69_code
def yX9_checksumOf : MethodName := ⟨RX9, "checksumOf", "([III)I"⟩
abbrev cX9_binaryDigits : ByteArray := prog_1_method_70_code
def yX9_binaryDigits : MethodName := ⟨RX9, "binaryDigits", "(I)I"⟩
abbrev cX9_takenIndex : ByteArray := prog_1_method_71_code
def yX9_takenIndex : MethodName := ⟨RX9, "takenIndex", "(II)I"⟩
abbrev cX10_init : ByteArray := prog_12_method_1_code
def yX10_init : MethodName := ⟨RX10, "<init>", "()V"⟩
abbrev cX10_thrown : ByteArray := prog_12_method_2_code
def yX10_thrown : MethodName := ⟨RX10, "thrown", "()I"⟩
abbrev cX10_in : ByteArray := prog_12_method_3_code
def yX10_in : MethodName := ⟨RX10, "in", "(JJJ)Z"⟩
abbrev cX10_truth : ByteArray := prog_12_method_4_code
def yX10_truth : MethodName := ⟨RX10, "truth", "(Z)I"⟩
abbrev cX10_passes : ByteArray := prog_12_method_5_code
def yX10_passes : MethodName := ⟨RX10, "passes", "(Z)Z"⟩
abbrev cX10_passesBoth : ByteArray := prog_12_method_6_code
def yX10_passesBoth : MethodName := ⟨RX10, "passesBoth", "(ZZ)Z"⟩
abbrev cX10_copies : ByteArray := prog_12_method_7_code
def yX10_copies : MethodName := ⟨RX10, "copies", "([II[II)V"⟩
abbrev cX10_tries : ByteArray := prog_12_method_8_code
def yX10_tries : MethodName := ⟨RX10, "tries", "()V"⟩
abbrev cX10_laidBack : ByteArray := prog_12_method_9_code
def yX10_laidBack : MethodName := ⟨RX10, "laidBack", "(I)I"⟩
abbrev cX10_ofDog : ByteArray := prog_12_method_10_code
def yX10_ofDog : MethodName := ⟨RX10, "ofDog", "(II)I"⟩
abbrev cX10_ofMessage : ByteArray := prog_12_method_11_code
def yX10_ofMessage : MethodName := ⟨RX10, "ofMessage", "(II)I"⟩
abbrev cX10_putsMessage : ByteArray := prog_12_method_12_code
def yX10_putsMessage : MethodName := ⟨RX10, "putsMessage", "(III)V"⟩
abbrev cX10_of : ByteArray := prog_12_method_13_code
def yX10_of : MethodName := ⟨RX10, "of", "(II)I"⟩
abbrev cX10_puts : ByteArray := prog_12_method_14_code
def yX10_puts : MethodName := ⟨RX10, "puts", "(III)V"⟩
abbrev cX10_isDog : ByteArray := prog_12_method_15_code
def yX10_isDog : MethodName := ⟨RX10, "isDog", "(I)Z"⟩
abbrev cX10_isMessage : ByteArray := prog_12_method_16_code
def yX10_isMessage : MethodName := ⟨RX10, "isMessage", "(I)Z"⟩
abbrev cX10_isFrame : ByteArray := prog_12_method_17_code
def yX10_isFrame : MethodName := ⟨RX10, "isFrame", "(I)Z"⟩
abbrev cX10_isTick : ByteArray := prog_12_method_18_code
def yX10_isTick : MethodName := ⟨RX10, "isTick", "(I)Z"⟩
abbrev cX10_bitsOf : ByteArray := prog_12_method_19_code
def yX10_bitsOf : MethodName := ⟨RX10, "bitsOf", "(I)I"⟩
abbrev cX10_chews : ByteArray := prog_12_method_20_code
def yX10_chews : MethodName := ⟨RX10, "chews", "(II)Z"⟩
abbrev cX10_chewed : ByteArray := prog_12_method_21_code
def yX10_chewed : MethodName := ⟨RX10, "chewed", "(I)Z"⟩
abbrev cX10_sumWith : ByteArray := prog_12_method_22_code
def yX10_sumWith : MethodName := ⟨RX10, "sumWith", "(II)I"⟩
abbrev cX10_sumOfSent : ByteArray := prog_12_method_23_code
def yX10_sumOfSent : MethodName := ⟨RX10, "sumOfSent", "(II)I"⟩
abbrev cX10_frameComes : ByteArray := prog_12_method_24_code
def yX10_frameComes : MethodName := ⟨RX10, "frameComes", "(III)V"⟩
abbrev cX10_messageComes : ByteArray := prog_12_method_25_code
def yX10_messageComes : MethodName := ⟨RX10, "messageComes", "(I)V"⟩
abbrev cX10_framesOf : ByteArray := prog_12_method_26_code
def yX10_framesOf : MethodName := ⟨RX10, "framesOf", "(I)I"⟩
abbrev cX10_hasFrame : ByteArray := prog_12_method_27_code
def yX10_hasFrame : MethodName := ⟨RX10, "hasFrame", "(II)Z"⟩
abbrev cX10_stateOf : ByteArray := prog_12_method_28_code
def yX10_stateOf : MethodName := ⟨RX10, "stateOf", "(I)I"⟩
abbrev cX10_bitOf : ByteArray := prog_12_method_29_code
def yX10_bitOf : MethodName := ⟨RX10, "bitOf", "(II)I"⟩
abbrev cX10_taken : ByteArray := prog_12_method_30_code
def yX10_taken : MethodName := ⟨RX10, "taken", "(I)I"⟩
abbrev cX10_isInverted : ByteArray := prog_12_method_31_code
def yX10_isInverted : MethodName := ⟨RX10, "isInverted", "(II)Z"⟩
abbrev cX10_onCable : ByteArray := prog_12_method_32_code
def yX10_onCable : MethodName := ⟨RX10, "onCable", "(III)I"⟩
abbrev cX10_received : ByteArray := prog_12_method_33_code
def yX10_received : MethodName := ⟨RX10, "received", "(III)I"⟩
abbrev cX10_takes : ByteArray := prog_12_method_34_code
def yX10_takes : MethodName := ⟨RX10, "takes", "(II)V"⟩
abbrev cX10_isReadable : ByteArray := prog_12_method_35_code
def yX10_isReadable : MethodName := ⟨RX10, "isReadable", "(I)Z"⟩
abbrev cX10_isReadableAt : ByteArray := prog_12_method_36_code
def yX10_isReadableAt : MethodName := ⟨RX10, "isReadableAt", "(II)Z"⟩
abbrev cX10_endOf : ByteArray := prog_12_method_37_code
def yX10_endOf : MethodName := ⟨RX10, "endOf", "(II)I"⟩
abbrev cX10_isAnswerLost : ByteArray := prog_12_method_38_code
def yX10_isAnswerLost : MethodName := ⟨RX10, "isAnswerLost", "(II)Z"⟩
abbrev cX10_result : ByteArray := prog_12_method_39_code
def yX10_result : MethodName := ⟨RX10, "result", "(II)I"⟩
abbrev cX10_pending : ByteArray := prog_12_method_40_code
def yX10_pending : MethodName := ⟨RX10, "pending", "()I"⟩
abbrev cX10_arrives : ByteArray := prog_12_method_41_code
def yX10_arrives : MethodName := ⟨RX10, "arrives", "(I)V"⟩
abbrev cX10_endsAttempt : ByteArray := prog_12_method_42_code
def yX10_endsAttempt : MethodName := ⟨RX10, "endsAttempt", "(IZ)V"⟩
abbrev cX10_attemptOnce : ByteArray := prog_12_method_43_code
def yX10_attemptOnce : MethodName := ⟨RX10, "attemptOnce", "(I)V"⟩
abbrev cX10_attemptsOnce : ByteArray := prog_12_method_44_code
def yX10_attemptsOnce : MethodName := ⟨RX10, "attemptsOnce", "(I)I"⟩
abbrev cX10_sendNow : ByteArray := prog_12_method_45_code
def yX10_sendNow : MethodName := ⟨RX10, "sendNow", "(I)Z"⟩
abbrev cX10_transmitNow : ByteArray := prog_12_method_46_code
def yX10_transmitNow : MethodName := ⟨RX10, "transmitNow", "(I)Z"⟩
abbrev cX10_cancelNow : ByteArray := prog_12_method_47_code
def yX10_cancelNow : MethodName := ⟨RX10, "cancelNow", "(I)Z"⟩
abbrev cX10_mayResend : ByteArray := prog_12_method_48_code
def yX10_mayResend : MethodName := ⟨RX10, "mayResend", "(I)Z"⟩
abbrev cX10_resendNow : ByteArray := prog_12_method_49_code
def yX10_resendNow : MethodName := ⟨RX10, "resendNow", "(I)Z"⟩
abbrev cX10_waitNow : ByteArray := prog_12_method_50_code
def yX10_waitNow : MethodName := ⟨RX10, "waitNow", "(I)Z"⟩
abbrev cX10_driftNow : ByteArray := prog_12_method_51_code
def yX10_driftNow : MethodName := ⟨RX10, "driftNow", "(I)Z"⟩
abbrev cX10_dogNow : ByteArray := prog_12_method_52_code
def yX10_dogNow : MethodName := ⟨RX10, "dogNow", "(III)Z"⟩
abbrev cX10_chaseNow : ByteArray := prog_12_method_53_code
def yX10_chaseNow : MethodName := ⟨RX10, "chaseNow", "(I)Z"⟩
abbrev cX10_four : ByteArray := prog_12_method_54_code
def yX10_four : MethodName := ⟨RX10, "four", "(I)V"⟩
abbrev cX10_append : ByteArray := prog_12_method_55_code
def yX10_append : MethodName := ⟨RX10, "append", "(IIIII)I"⟩
abbrev cX10_truncate : ByteArray := prog_12_method_56_code
def yX10_truncate : MethodName := ⟨RX10, "truncate", "(I)I"⟩
abbrev cX10_byteAt : ByteArray := prog_12_method_57_code
def yX10_byteAt : MethodName := ⟨RX10, "byteAt", "(I)I"⟩
abbrev cX10_next : ByteArray := prog_12_method_58_code
def yX10_next : MethodName := ⟨RX10, "next", "()I"⟩
abbrev cX10_must : ByteArray := prog_12_method_59_code
def yX10_must : MethodName := ⟨RX10, "must", "(ZI)V"⟩
abbrev cX10_sees : ByteArray := prog_12_method_60_code
def yX10_sees : MethodName := ⟨RX10, "sees", "(Ljava/lang/String;)Z"⟩
abbrev cX10_goesPast : ByteArray := prog_12_method_61_code
def yX10_goesPast : MethodName := ⟨RX10, "goesPast", "()V"⟩
abbrev cX10_semicolon : ByteArray := prog_12_method_62_code
def yX10_semicolon : MethodName := ⟨RX10, "semicolon", "()V"⟩
abbrev cX10_number : ByteArray := prog_12_method_63_code
def yX10_number : MethodName := ⟨RX10, "number", "(II)I"⟩
abbrev cX10_startsText : ByteArray := prog_12_method_64_code
def yX10_startsText : MethodName := ⟨RX10, "startsText", "()V"⟩
abbrev cX10_endsText : ByteArray := prog_12_method_65_code
def yX10_endsText : MethodName := ⟨RX10, "endsText", "()Z"⟩
abbrev cX10_errorCode : ByteArray := prog_12_method_66_code
def yX10_errorCode : MethodName := ⟨RX10, "errorCode", "()I"⟩
abbrev cX10_errorPosition : ByteArray := prog_12_method_67_code
def yX10_errorPosition : MethodName := ⟨RX10, "errorPosition", "()I"⟩
abbrev cX10_modemLine : ByteArray := prog_12_method_68_code
def yX10_modemLine : MethodName := ⟨RX10, "modemLine", "()V"⟩
abbrev cX10_dogLine : ByteArray := prog_12_method_69_code
def yX10_dogLine : MethodName := ⟨RX10, "dogLine", "()V"⟩
abbrev cX10_load : ByteArray := prog_12_method_70_code
def yX10_load : MethodName := ⟨RX10, "load", "()I"⟩
abbrev cX10_otherCommand : ByteArray := prog_12_method_71_code
def yX10_otherCommand : MethodName := ⟨RX10, "otherCommand", "()I"⟩
abbrev cX10_commandHere : ByteArray := prog_12_method_72_code
def yX10_commandHere : MethodName := ⟨RX10, "commandHere", "()I"⟩
abbrev cX10_wordHere : ByteArray := prog_12_method_73_code
def yX10_wordHere : MethodName := ⟨RX10, "wordHere", "(I)V"⟩
abbrev cX10_dogHere : ByteArray := prog_12_method_74_code
def yX10_dogHere : MethodName := ⟨RX10, "dogHere", "(I)V"⟩
abbrev cX10_driftHere : ByteArray := prog_12_method_75_code
def yX10_driftHere : MethodName := ⟨RX10, "driftHere", "()I"⟩
abbrev cX10_partsOf : ByteArray := prog_12_method_76_code
def yX10_partsOf : MethodName := ⟨RX10, "partsOf", "(II)V"⟩
abbrev cX10_readsOne : ByteArray := prog_12_method_77_code
def yX10_readsOne : MethodName := ⟨RX10, "readsOne", "()V"⟩
abbrev cX10_sendsTold : ByteArray := prog_12_method_78_code
def yX10_sendsTold : MethodName := ⟨RX10, "sendsTold", "(I)Z"⟩
abbrev cX10_doesOne : ByteArray := prog_12_method_79_code
def yX10_doesOne : MethodName := ⟨RX10, "doesOne", "(I)Z"⟩
abbrev cX10_keeps : ByteArray := prog_12_method_80_code
def yX10_keeps : MethodName := ⟨RX10, "keeps", "([I)V"⟩
abbrev cX10_executeCommands : ByteArray := prog_12_method_81_code
def yX10_executeCommands : MethodName := ⟨RX10, "executeCommands", "()I"⟩
abbrev cX10_tells : ByteArray := prog_12_method_82_code
def yX10_tells : MethodName := ⟨RX10, "tells", "(I)I"⟩
abbrev cX10_clock : ByteArray := prog_12_method_83_code
def yX10_clock : MethodName := ⟨RX10, "clock", "()I"⟩
abbrev cX10_bitTime : ByteArray := prog_12_method_84_code
def yX10_bitTime : MethodName := ⟨RX10, "bitTime", "()I"⟩
abbrev cX10_drift : ByteArray := prog_12_method_85_code
def yX10_drift : MethodName := ⟨RX10, "drift", "()I"⟩
abbrev cX10_dogCount : ByteArray := prog_12_method_86_code
def yX10_dogCount : MethodName := ⟨RX10, "dogCount", "()I"⟩
abbrev cX10_isChewed : ByteArray := prog_12_method_87_code
def yX10_isChewed : MethodName := ⟨RX10, "isChewed", "(I)Z"⟩
abbrev cX10_nextChewedTick : ByteArray := prog_12_method_88_code
def yX10_nextChewedTick : MethodName := ⟨RX10, "nextChewedTick", "(I)I"⟩
abbrev cX10_nextQuietTick : ByteArray := prog_12_method_89_code
def yX10_nextQuietTick : MethodName := ⟨RX10, "nextQuietTick", "(I)I"⟩
abbrev cX10_checksum : ByteArray := prog_12_method_90_code
def yX10_checksum : MethodName := ⟨RX10, "checksum", "()I"⟩
abbrev cX10_messageCount : ByteArray := prog_12_method_91_code
def yX10_messageCount : MethodName := ⟨RX10, "messageCount", "()I"⟩
abbrev cX10_messageLength : ByteArray := prog_12_method_92_code
def yX10_messageLength : MethodName := ⟨RX10, "messageLength", "(I)I"⟩
abbrev cX10_messageState : ByteArray := prog_12_method_93_code
def yX10_messageState : MethodName := ⟨RX10, "messageState", "(I)I"⟩
abbrev cX10_firstFrame : ByteArray := prog_12_method_94_code
def yX10_firstFrame : MethodName := ⟨RX10, "firstFrame", "(I)I"⟩
abbrev cX10_frameCount : ByteArray := prog_12_method_95_code
def yX10_frameCount : MethodName := ⟨RX10, "frameCount", "()I"⟩
abbrev cX10_frameLength : ByteArray := prog_12_method_96_code
def yX10_frameLength : MethodName := ⟨RX10, "frameLength", "(I)I"⟩
abbrev cX10_frameByte : ByteArray := prog_12_method_97_code
def yX10_frameByte : MethodName := ⟨RX10, "frameByte", "(II)I"⟩
abbrev cX10_hasBit : ByteArray := prog_12_method_98_code
def yX10_hasBit : MethodName := ⟨RX10, "hasBit", "(II)Z"⟩
abbrev cX10_frameBit : ByteArray := prog_12_method_99_code
def yX10_frameBit : MethodName := ⟨RX10, "frameBit", "(II)I"⟩
abbrev cX10_frameState : ByteArray := prog_12_method_100_code
def yX10_frameState : MethodName := ⟨RX10, "frameState", "(I)I"⟩
abbrev cX10_attemptsOf : ByteArray := prog_12_method_101_code
def yX10_attemptsOf : MethodName := ⟨RX10, "attemptsOf", "(I)I"⟩
abbrev cX10_hasArrived : ByteArray := prog_12_method_102_code
def yX10_hasArrived : MethodName := ⟨RX10, "hasArrived", "(I)Z"⟩
abbrev cX10_arrivedByte : ByteArray := prog_12_method_103_code
def yX10_arrivedByte : MethodName := ⟨RX10, "arrivedByte", "(II)I"⟩
abbrev cX10_isIntact : ByteArray := prog_12_method_104_code
def yX10_isIntact : MethodName := ⟨RX10, "isIntact", "(I)Z"⟩
abbrev cX10_takenFrom : ByteArray := prog_12_method_105_code
def yX10_takenFrom : MethodName := ⟨RX10, "takenFrom", "(I)I"⟩
abbrev cX10_safeBits : ByteArray := prog_12_method_106_code
def yX10_safeBits : MethodName := ⟨RX10, "safeBits", "()I"⟩
abbrev cX10_passesFrame : ByteArray := prog_12_method_107_code
def yX10_passesFrame : MethodName := ⟨RX10, "passesFrame", "(II)Z"⟩
abbrev cX10_receivedBit : ByteArray := prog_12_method_108_code
def yX10_receivedBit : MethodName := ⟨RX10, "receivedBit", "(III)I"⟩
abbrev cX10_invertedBits : ByteArray := prog_12_method_109_code
def yX10_invertedBits : MethodName := ⟨RX10, "invertedBits", "(II)I"⟩
abbrev cX10_longestBurst : ByteArray := prog_12_method_110_code
def yX10_longestBurst : MethodName := ⟨RX10, "longestBurst", "(II)I"⟩
abbrev cX10_wrongBits : ByteArray := prog_12_method_111_code
def yX10_wrongBits : MethodName := ⟨RX10, "wrongBits", "(II)I"⟩
abbrev cX10_resultAt : ByteArray := prog_12_method_112_code
def yX10_resultAt : MethodName := ⟨RX10, "resultAt", "(II)I"⟩
abbrev cX10_digitsOf : ByteArray := prog_12_method_113_code
def yX10_digitsOf : MethodName := ⟨RX10, "digitsOf", "(I)I"⟩
abbrev cX10_isIn : ByteArray := prog_12_method_114_code
def yX10_isIn : MethodName := ⟨RX10, "isIn", "(III)Z"⟩
abbrev cX10_fits : ByteArray := prog_12_method_115_code
def yX10_fits : MethodName := ⟨RX10, "fits", "(III)Z"⟩
abbrev cX10_wouldPass : ByteArray := prog_12_method_116_code
def yX10_wouldPass : MethodName := ⟨RX10, "wouldPass", "(III)Z"⟩
abbrev cX10_earliestSuccess : ByteArray := prog_12_method_117_code
def yX10_earliestSuccess : MethodName := ⟨RX10, "earliestSuccess", "(I)I"⟩
abbrev cX10_bestBitTime : ByteArray := prog_12_method_118_code
def yX10_bestBitTime : MethodName := ⟨RX10, "bestBitTime", "(I)I"⟩
abbrev cX10_pendingFrame : ByteArray := prog_12_method_119_code
def yX10_pendingFrame : MethodName := ⟨RX10, "pendingFrame", "()I"⟩
abbrev cX10_napEnd : ByteArray := prog_12_method_120_code
def yX10_napEnd : MethodName := ⟨RX10, "napEnd", "()I"⟩
abbrev cX10_attemptsUntilIdle : ByteArray := prog_12_method_121_code
def yX10_attemptsUntilIdle : MethodName := ⟨RX10, "attemptsUntilIdle", "()I"⟩
abbrev cX10_clockWhenIdle : ByteArray := prog_12_method_122_code
def yX10_clockWhenIdle : MethodName := ⟨RX10, "clockWhenIdle", "()I"⟩
abbrev cX10_attempts : ByteArray := prog_12_method_123_code
def yX10_attempts : MethodName := ⟨RX10, "attempts", "()I"⟩
abbrev cX10_unreadableFrames : ByteArray := prog_12_method_124_code
def yX10_unreadableFrames : MethodName := ⟨RX10, "unreadableFrames", "()I"⟩
abbrev cX10_duplicates : ByteArray := prog_12_method_125_code
def yX10_duplicates : MethodName := ⟨RX10, "duplicates", "()I"⟩
abbrev cX10_lostAcknowledgements : ByteArray := prog_12_method_126_code
def yX10_lostAcknowledgements : MethodName := ⟨RX10, "lostAcknowledgements", "()I"⟩
abbrev cX10_nappedTicks : ByteArray := prog_12_method_127_code
def yX10_nappedTicks : MethodName := ⟨RX10, "nappedTicks", "()I"⟩
abbrev cX10_bitsSent : ByteArray := prog_12_method_128_code
def yX10_bitsSent : MethodName := ⟨RX10, "bitsSent", "()I"⟩
abbrev cX10_attemptImbalance : ByteArray := prog_12_method_129_code
def yX10_attemptImbalance : MethodName := ⟨RX10, "attemptImbalance", "()I"⟩
abbrev cX10_clockImbalance : ByteArray := prog_12_method_130_code
def yX10_clockImbalance : MethodName := ⟨RX10, "clockImbalance", "()I"⟩
abbrev cX10_errorRate : ByteArray := prog_12_method_131_code
def yX10_errorRate : MethodName := ⟨RX10, "errorRate", "()F"⟩
abbrev cX10_throughput : ByteArray := prog_12_method_132_code
def yX10_throughput : MethodName := ⟨RX10, "throughput", "()D"⟩
abbrev cX10_tried : ByteArray := prog_12_method_133_code
def yX10_tried : MethodName := ⟨RX10, "tried", "(Z)Z"⟩
abbrev cX10_done : ByteArray := prog_12_method_134_code
def yX10_done : MethodName := ⟨RX10, "done", "(Z)I"⟩
abbrev cX10_sendMessage : ByteArray := prog_12_method_135_code
def yX10_sendMessage : MethodName := ⟨RX10, "sendMessage", "()I"⟩
abbrev cX10_transmit : ByteArray := prog_12_method_136_code
def yX10_transmit : MethodName := ⟨RX10, "transmit", "(I)I"⟩
abbrev cX10_cancelMessage : ByteArray := prog_12_method_137_code
def yX10_cancelMessage : MethodName := ⟨RX10, "cancelMessage", "(I)I"⟩
abbrev cX10_resendMessage : ByteArray := prog_12_method_138_code
def yX10_resendMessage : MethodName := ⟨RX10, "resendMessage", "(I)I"⟩
abbrev cX10_waitTicks : ByteArray := prog_12_method_139_code
def yX10_waitTicks : MethodName := ⟨RX10, "waitTicks", "(I)I"⟩
abbrev cX10_setDrift : ByteArray := prog_12_method_140_code
def yX10_setDrift : MethodName := ⟨RX10, "setDrift", "(I)I"⟩
abbrev cX10_addDog : ByteArray := prog_12_method_141_code
def yX10_addDog : MethodName := ⟨RX10, "addDog", "(III)I"⟩
abbrev cX10_removeDog : ByteArray := prog_12_method_142_code
def yX10_removeDog : MethodName := ⟨RX10, "removeDog", "(I)I"⟩
abbrev cX10_undo : ByteArray := prog_12_method_143_code
def yX10_undo : MethodName := ⟨RX10, "undo", "()I"⟩
abbrev cX10_save : ByteArray := prog_12_method_144_code
def yX10_save : MethodName := ⟨RX10, "save", "()I"⟩
abbrev cX10_restore : ByteArray := prog_12_method_145_code
def yX10_restore : MethodName := ⟨RX10, "restore", "()I"⟩
abbrev cX10_writes : ByteArray := prog_12_method_146_code
def yX10_writes : MethodName := ⟨RX10, "writes", "(I)V"⟩
abbrev cX10_formatFrame : ByteArray := prog_12_method_147_code
def yX10_formatFrame : MethodName := ⟨RX10, "formatFrame", "(II)I"⟩
abbrev cX10_outputByte : ByteArray := prog_12_method_148_code
def yX10_outputByte : MethodName := ⟨RX10, "outputByte", "(I)I"⟩
abbrev cL_append : ByteArray := method_3_code
def yL_append : MethodName := ⟨RL, "append", "(LMatchboxModem;IIIII[J)I"⟩
abbrev cL_truncate : ByteArray := method_4_code
def yL_truncate : MethodName := ⟨RL, "truncate", "(LMatchboxModem;I[J)I"⟩
abbrev cL_load : ByteArray := method_5_code
def yL_load : MethodName := ⟨RL, "load", "(LMatchboxModem;[J)I"⟩
abbrev cL_executeCommands : ByteArray := method_6_code
def yL_executeCommands : MethodName := ⟨RL, "executeCommands", "(LMatchboxModem;[J)I"⟩
abbrev cL_isChewed : ByteArray := method_7_code
def yL_isChewed : MethodName := ⟨RL, "isChewed", "(LMatchboxModem;I[J)I"⟩
abbrev cL_nextChewedTick : ByteArray := method_8_code
def yL_nextChewedTick : MethodName := ⟨RL, "nextChewedTick", "(LMatchboxModem;I[J)I"⟩
abbrev cL_nextQuietTick : ByteArray := method_9_code
def yL_nextQuietTick : MethodName := ⟨RL, "nextQuietTick", "(LMatchboxModem;I[J)I"⟩
abbrev cL_messageLength : ByteArray := method_10_code
def yL_messageLength : MethodName := ⟨RL, "messageLength", "(LMatchboxModem;I[J)I"⟩
abbrev cL_messageState : ByteArray := method_11_code
def yL_messageState : MethodName := ⟨RL, "messageState", "(LMatchboxModem;I[J)I"⟩
abbrev cL_firstFrame : ByteArray := method_12_code
def yL_firstFrame : MethodName := ⟨RL, "firstFrame", "(LMatchboxModem;I[J)I"⟩
abbrev cL_frameLength : ByteArray := method_13_code
def yL_frameLength : MethodName := ⟨RL, "frameLength", "(LMatchboxModem;I[J)I"⟩
abbrev cL_frameByte : ByteArray := method_14_code
def yL_frameByte : MethodName := ⟨RL, "frameByte", "(LMatchboxModem;II[J)I"⟩
abbrev cL_frameBit : ByteArray := method_15_code
def yL_frameBit : MethodName := ⟨RL, "frameBit", "(LMatchboxModem;II[J)I"⟩
abbrev cL_frameState : ByteArray := method_16_code
def yL_frameState : MethodName := ⟨RL, "frameState", "(LMatchboxModem;I[J)I"⟩
abbrev cL_attemptsOf : ByteArray := method_17_code
def yL_attemptsOf : MethodName := ⟨RL, "attemptsOf", "(LMatchboxModem;I[J)I"⟩
abbrev cL_hasArrived : ByteArray := method_18_code
def yL_hasArrived : MethodName := ⟨RL, "hasArrived", "(LMatchboxModem;I[J)I"⟩
abbrev cL_arrivedByte : ByteArray := method_19_code
def yL_arrivedByte : MethodName := ⟨RL, "arrivedByte", "(LMatchboxModem;II[J)I"⟩
abbrev cL_isIntact : ByteArray := method_20_code
def yL_isIntact : MethodName := ⟨RL, "isIntact", "(LMatchboxModem;I[J)I"⟩
abbrev cL_takenFrom : ByteArray := method_21_code
def yL_takenFrom : MethodName := ⟨RL, "takenFrom", "(LMatchboxModem;I[J)I"⟩
abbrev cL_receivedBit : ByteArray := method_22_code
def yL_receivedBit : MethodName := ⟨RL, "receivedBit", "(LMatchboxModem;III[J)I"⟩
abbrev cL_invertedBits : ByteArray := method_23_code
def yL_invertedBits : MethodName := ⟨RL, "invertedBits", "(LMatchboxModem;II[J)I"⟩
abbrev cL_longestBurst : ByteArray := method_24_code
def yL_longestBurst : MethodName := ⟨RL, "longestBurst", "(LMatchboxModem;II[J)I"⟩
abbrev cL_wrongBits : ByteArray := method_25_code
def yL_wrongBits : MethodName := ⟨RL, "wrongBits", "(LMatchboxModem;II[J)I"⟩
abbrev cL_resultAt : ByteArray := method_26_code
def yL_resultAt : MethodName := ⟨RL, "resultAt", "(LMatchboxModem;II[J)I"⟩
abbrev cL_wouldPass : ByteArray := method_27_code
def yL_wouldPass : MethodName := ⟨RL, "wouldPass", "(LMatchboxModem;III[J)I"⟩
abbrev cL_earliestSuccess : ByteArray := method_28_code
def yL_earliestSuccess : MethodName := ⟨RL, "earliestSuccess", "(LMatchboxModem;I[J)I"⟩
abbrev cL_bestBitTime : ByteArray := method_29_code
def yL_bestBitTime : MethodName := ⟨RL, "bestBitTime", "(LMatchboxModem;I[J)I"⟩
abbrev cL_sendMessage : ByteArray := method_30_code
def yL_sendMessage : MethodName := ⟨RL, "sendMessage", "(LMatchboxModem;[J)I"⟩
abbrev cL_transmit : ByteArray := method_31_code
def yL_transmit : MethodName := ⟨RL, "transmit", "(LMatchboxModem;I[J)I"⟩
abbrev cL_cancelMessage : ByteArray := method_32_code
def yL_cancelMessage : MethodName := ⟨RL, "cancelMessage", "(LMatchboxModem;I[J)I"⟩
abbrev cL_resendMessage : ByteArray := method_33_code
def yL_resendMessage : MethodName := ⟨RL, "resendMessage", "(LMatchboxModem;I[J)I"⟩
abbrev cL_waitTicks : ByteArray := method_34_code
def yL_waitTicks : MethodName := ⟨RL, "waitTicks", "(LMatchboxModem;I[J)I"⟩
abbrev cL_setDrift : ByteArray := method_35_code
def yL_setDrift : MethodName := ⟨RL, "setDrift", "(LMatchboxModem;I[J)I"⟩
abbrev cL_addDog : ByteArray := method_36_code
def yL_addDog : MethodName := ⟨RL, "addDog", "(LMatchboxModem;III[J)I"⟩
abbrev cL_removeDog : ByteArray := method_37_code
def yL_removeDog : MethodName := ⟨RL, "removeDog", "(LMatchboxModem;I[J)I"⟩
abbrev cL_undo : ByteArray := method_38_code
def yL_undo : MethodName := ⟨RL, "undo", "(LMatchboxModem;[J)I"⟩
abbrev cL_restore : ByteArray := method_39_code
def yL_restore : MethodName := ⟨RL, "restore", "(LMatchboxModem;[J)I"⟩
abbrev cL_formatFrame : ByteArray := method_40_code
def yL_formatFrame : MethodName := ⟨RL, "formatFrame", "(LMatchboxModem;II[J)I"⟩
abbrev cL_law : ByteArray := code
def yL_law : MethodName := ⟨RL, "law", "([I)Z"⟩
abbrev cJlength : ByteArray := prog_19_method_54_code
def yJlength : MethodName := ⟨"java/lang/String", "length", "()I"⟩
abbrev cJcoder : ByteArray := prog_19_method_152_code
def yJcoder : MethodName := ⟨"java/lang/String", "coder", "()B"⟩
abbrev cJisLatin1 : ByteArray := prog_19_method_154_code
def yJisLatin1 : MethodName := ⟨"java/lang/String", "isLatin1", "()Z"⟩
abbrev cJcharAt : ByteArray := prog_19_method_56_code
def yJcharAt : MethodName := ⟨"java/lang/String", "charAt", "(I)C"⟩
abbrev cJlcharAt : ByteArray := prog_20_method_2_code
def yJlcharAt : MethodName := ⟨"java/lang/StringLatin1", "charAt", "([BI)C"⟩
abbrev cJcheckIndex : ByteArray := prog_19_method_155_code
def yJcheckIndex : MethodName := ⟨"java/lang/String", "checkIndex", "(II)V"⟩
abbrev cJpcheckIndex : ByteArray := prog_24_method_11_code
def yJpcheckIndex : MethodName := ⟨"jdk/internal/util/Preconditions", "checkIndex", "(IILjava/util/function/BiFunction;)I"⟩
/-- the classes by number: 0 to 10 those of objects, 11 the law, 12 to 14 of the library -/
def clsL : List String := [RX0, RX1, RX2, RX3, RX4, RX5, RX6, RX7, RX8, RX9, RX10, RL, "java/lang/String", "java/lang/StringLatin1", "jdk/internal/util/Preconditions"]
def clsN (c : Nat) : String := clsL.getD c ""
def TTL : List u_T := [TX0, TX1, TX2, TX3, TX4, TX5, TX6, TX7, TX8, TX9, TX10]
def TT (c : Nat) : u_T := TTL.getD c TX0
def tyL : List (Nat → FieldType) := [tyX0, tyX1, tyX2, tyX3, tyX4, tyX5, tyX6, tyX7, tyX8, tyX9, tyX10]
def tyT (c : Nat) : Nat → FieldType := tyL.getD c tyX0
def nfL : List Nat := [5, 9, 4, 7, 3, 13, 5, 2, 9, 10, 24]
def nf (c : Nat) : Nat := nfL.getD c 0
/-- of each field: 0 an int, 1 a boolean, 2 a reference -/
def fkL : List (List Nat) := [[0, 2, 2, 2, 2], [0, 0, 0, 0, 0, 0, 0, 0, 0], [0, 2, 2, 2], [0, 2, 2, 2, 2, 2, 2], [0, 0, 2], [0, 0, 0, 0, 0, 0, 0, 0, 2, 2, 2, 2, 2], [2, 2, 0, 0, 0], [2, 0], [2, 0, 0, 0, 0, 0, 0, 0, 0], [2, 2, 2, 2, 2, 2, 2, 2, 2, 1], [2, 2, 2, 2, 2, 0, 0, 1, 2, 2, 0, 2, 0, 0, 0, 0, 0, 0, 0, 0, 2, 0, 2, 0]]
def fk (c k : Nat) : Nat := (fkL.getD c []).getD k 0
/-- is the field final -/
def ffL : List (List Bool) := [[false, true, true, true, true], [false, false, false, false, false, false, false, false, false], [false, true, true, true], [false, true, true, true, true, true, true], [false, false, true], [false, false, false, false, false, false, false, false, true, true, true, true, true], [true, true, false, false, false], [true, false], [true, false, false, false, false, false, false, false, false], [true, true, true, true, true, true, true, true, true, false], [true, true, true, true, true, false, false, false, true, true, false, true, false, false, false, false, false, false, false, false, true, false, true, false]]
def ff (c k : Nat) : Bool := (ffL.getD c []).getD k false
def ynL : List MethodName := [
  yX0_init, yX0_read, yX0_readOne, yX0_nameIn, yX0_readArguments, yX0_readWord, yX0_readNumber, yX0_setArguments,
  yX0_run, yX1_init, yX1_clear, yX1_copyFrom, yX2_init, yX2_copyFrom, yX2_add, yX2_remove,
  yX2_chewIn, yX3_init, yX3_copyFrom, yX3_add, yX3_bitsOf, yX3_bitOf, yX3_firstQueued, yX3_arrive,
  yX3_arrivedAsSent, yX3_triesOfAll, yX3_acknowledgedUntried, yX3_acknowledgedBytes, yX4_init, yX4_keep, yX4_takeBack, yX4_forget,
  yX5_init, yX5_configure, yX5_copyFrom, yX5_readConfiguration, yX5_readModem, yX5_readDogs, yX5_hasMessage, yX5_hasRoomForMessage,
  yX5_addMessage, yX5_endOf, yX5_stateOfMessage, yX5_mayGiveUp, yX5_giveUp, yX5_maySendAgain, yX5_sendAgain, yX5_mayWait,
  yX5_letPass, yX5_mayAttempt, yX5_makeAttempts, yX5_attempt, yX5_endNap, yX5_receive, yX5_settle, yX6_init,
  yX6_putOnCable, yX6_takenBit, yX6_take, yX6_takeInverted, yX6_readable, yX6_send, yX7_init, yX7_at,
  yX7_put, yX7_putFour, yX8_init, yX8_begin, yX8_fail, yX8_next, yX8_kindOf, yX8_spells,
  yX8_number, yX8_semicolon, yX8_dog, yX9_init, yX9_append, yX9_truncate, yX9_load, yX9_executeCommands,
  yX9_errorCode, yX9_errorPosition, yX9_clock, yX9_bitTime, yX9_drift, yX9_dogCount, yX9_isChewed, yX9_nextChewedTick,
  yX9_nextQuietTick, yX9_checksum, yX9_messageCount, yX9_messageLength, yX9_messageState, yX9_firstFrame, yX9_frameCount, yX9_frameLength,
  yX9_frameByte, yX9_frameBit, yX9_frameState, yX9_attemptsOf, yX9_hasArrived, yX9_arrivedByte, yX9_isIntact, yX9_takenFrom,
  yX9_safeBits, yX9_receivedBit, yX9_invertedBits, yX9_longestBurst, yX9_wrongBits, yX9_resultAt, yX9_wouldPass, yX9_earliestSuccess,
  yX9_bestBitTime, yX9_pendingFrame, yX9_napEnd, yX9_attemptsUntilIdle, yX9_clockWhenIdle, yX9_attempts, yX9_unreadableFrames, yX9_duplicates,
  yX9_lostAcknowledgements, yX9_nappedTicks, yX9_bitsSent, yX9_attemptImbalance, yX9_clockImbalance, yX9_errorRate, yX9_throughput, yX9_sendMessage,
  yX9_transmit, yX9_cancelMessage, yX9_resendMessage, yX9_waitTicks, yX9_setDrift, yX9_addDog, yX9_removeDog, yX9_undo,
  yX9_save, yX9_restore, yX9_formatFrame, yX9_outputByte, yX9_requireFrame, yX9_requireMessage, yX9_requireTick, yX9_checksumOf,
  yX9_binaryDigits, yX9_takenIndex, yX10_init, yX10_thrown, yX10_in, yX10_truth, yX10_passes, yX10_passesBoth,
  yX10_copies, yX10_tries, yX10_laidBack, yX10_ofDog, yX10_ofMessage, yX10_putsMessage, yX10_of, yX10_puts,
  yX10_isDog, yX10_isMessage, yX10_isFrame, yX10_isTick, yX10_bitsOf, yX10_chews, yX10_chewed, yX10_sumWith,
  yX10_sumOfSent, yX10_frameComes, yX10_messageComes, yX10_framesOf, yX10_hasFrame, yX10_stateOf, yX10_bitOf, yX10_taken,
  yX10_isInverted, yX10_onCable, yX10_received, yX10_takes, yX10_isReadable, yX10_isReadableAt, yX10_endOf, yX10_isAnswerLost,
  yX10_result, yX10_pending, yX10_arrives, yX10_endsAttempt, yX10_attemptOnce, yX10_attemptsOnce, yX10_sendNow, yX10_transmitNow,
  yX10_cancelNow, yX10_mayResend, yX10_resendNow, yX10_waitNow, yX10_driftNow, yX10_dogNow, yX10_chaseNow, yX10_four,
  yX10_append, yX10_truncate, yX10_byteAt, yX10_next, yX10_must, yX10_sees, yX10_goesPast, yX10_semicolon,
  yX10_number, yX10_startsText, yX10_endsText, yX10_errorCode, yX10_errorPosition, yX10_modemLine, yX10_dogLine, yX10_load,
  yX10_otherCommand, yX10_commandHere, yX10_wordHere, yX10_dogHere, yX10_driftHere, yX10_partsOf, yX10_readsOne, yX10_sendsTold,
  yX10_doesOne, yX10_keeps, yX10_executeCommands, yX10_tells, yX10_clock, yX10_bitTime, yX10_drift, yX10_dogCount,
  yX10_isChewed, yX10_nextChewedTick, yX10_nextQuietTick, yX10_checksum, yX10_messageCount, yX10_messageLength, yX10_messageState, yX10_firstFrame,
  yX10_frameCount, yX10_frameLength, yX10_frameByte, yX10_hasBit, yX10_frameBit, yX10_frameState, yX10_attemptsOf, yX10_hasArrived,
  yX10_arrivedByte, yX10_isIntact, yX10_takenFrom, yX10_safeBits, yX10_passesFrame, yX10_receivedBit, yX10_invertedBits, yX10_longestBurst,
  yX10_wrongBits, yX10_resultAt, yX10_digitsOf, yX10_isIn, yX10_fits, yX10_wouldPass, yX10_earliestSuccess, yX10_bestBitTime,
  yX10_pendingFrame, yX10_napEnd, yX10_attemptsUntilIdle, yX10_clockWhenIdle, yX10_attempts, yX10_unreadableFrames, yX10_duplicates, yX10_lostAcknowledgements,
  yX10_nappedTicks, yX10_bitsSent, yX10_attemptImbalance, yX10_clockImbalance, yX10_errorRate, yX10_throughput, yX10_tried, yX10_done,
  yX10_sendMessage, yX10_transmit, yX10_cancelMessage, yX10_resendMessage, yX10_waitTicks, yX10_setDrift, yX10_addDog, yX10_removeDog,
  yX10_undo, yX10_save, yX10_restore, yX10_writes, yX10_formatFrame, yX10_outputByte, yL_append, yL_truncate,
  yL_load, yL_executeCommands, yL_isChewed, yL_nextChewedTick, yL_nextQuietTick, yL_messageLength, yL_messageState, yL_firstFrame,
  yL_frameLength, yL_frameByte, yL_frameBit, yL_frameState, yL_attemptsOf, yL_hasArrived, yL_arrivedByte, yL_isIntact,
  yL_takenFrom, yL_receivedBit, yL_invertedBits, yL_longestBurst, yL_wrongBits, yL_resultAt, yL_wouldPass, yL_earliestSuccess,
  yL_bestBitTime, yL_sendMessage, yL_transmit, yL_cancelMessage, yL_resendMessage, yL_waitTicks, yL_setDrift, yL_addDog,
  yL_removeDog, yL_undo, yL_restore, yL_formatFrame, yL_law, yJlength, yJcoder, yJisLatin1,
  yJcharAt, yJlcharAt, yJcheckIndex, yJpcheckIndex]
def ynN (y : Nat) : MethodName := ynL.getD y ⟨"", "", ""⟩
def cdL : List ByteArray := [
  cX0_init, cX0_read, cX0_readOne, cX0_nameIn, cX0_readArguments, cX0_readWord, cX0_readNumber, cX0_setArguments,
  cX0_run, cX1_init, cX1_clear, cX1_copyFrom, cX2_init, cX2_copyFrom, cX2_add, cX2_remove,
  cX2_chewIn, cX3_init, cX3_copyFrom, cX3_add, cX3_bitsOf, cX3_bitOf, cX3_firstQueued, cX3_arrive,
  cX3_arrivedAsSent, cX3_triesOfAll, cX3_acknowledgedUntried, cX3_acknowledgedBytes, cX4_init, cX4_keep, cX4_takeBack, cX4_forget,
  cX5_init, cX5_configure, cX5_copyFrom, cX5_readConfiguration, cX5_readModem, cX5_readDogs, cX5_hasMessage, cX5_hasRoomForMessage,
  cX5_addMessage, cX5_endOf, cX5_stateOfMessage, cX5_mayGiveUp, cX5_giveUp, cX5_maySendAgain, cX5_sendAgain, cX5_mayWait,
  cX5_letPass, cX5_mayAttempt, cX5_makeAttempts, cX5_attempt, cX5_endNap, cX5_receive, cX5_settle, cX6_init,
  cX6_putOnCable, cX6_takenBit, cX6_take, cX6_takeInverted, cX6_readable, cX6_send, cX7_init, cX7_at,
  cX7_put, cX7_putFour, cX8_init, cX8_begin, cX8_fail, cX8_next, cX8_kindOf, cX8_spells,
  cX8_number, cX8_semicolon, cX8_dog, cX9_init, cX9_append, cX9_truncate, cX9_load, cX9_executeCommands,
  cX9_errorCode, cX9_errorPosition, cX9_clock, cX9_bitTime, cX9_drift, cX9_dogCount, cX9_isChewed, cX9_nextChewedTick,
  cX9_nextQuietTick, cX9_checksum, cX9_messageCount, cX9_messageLength, cX9_messageState, cX9_firstFrame, cX9_frameCount, cX9_frameLength,
  cX9_frameByte, cX9_frameBit, cX9_frameState, cX9_attemptsOf, cX9_hasArrived, cX9_arrivedByte, cX9_isIntact, cX9_takenFrom,
  cX9_safeBits, cX9_receivedBit, cX9_invertedBits, cX9_longestBurst, cX9_wrongBits, cX9_resultAt, cX9_wouldPass, cX9_earliestSuccess,
  cX9_bestBitTime, cX9_pendingFrame, cX9_napEnd, cX9_attemptsUntilIdle, cX9_clockWhenIdle, cX9_attempts, cX9_unreadableFrames, cX9_duplicates,
  cX9_lostAcknowledgements, cX9_nappedTicks, cX9_bitsSent, cX9_attemptImbalance, cX9_clockImbalance, cX9_errorRate, cX9_throughput, cX9_sendMessage,
  cX9_transmit, cX9_cancelMessage, cX9_resendMessage, cX9_waitTicks, cX9_setDrift, cX9_addDog, cX9_removeDog, cX9_undo,
  cX9_save, cX9_restore, cX9_formatFrame, cX9_outputByte, cX9_requireFrame, cX9_requireMessage, cX9_requireTick, cX9_checksumOf,
  cX9_binaryDigits, cX9_takenIndex, cX10_init, cX10_thrown, cX10_in, cX10_truth, cX10_passes, cX10_passesBoth,
  cX10_copies, cX10_tries, cX10_laidBack, cX10_ofDog, cX10_ofMessage, cX10_putsMessage, cX10_of, cX10_puts,
  cX10_isDog, cX10_isMessage, cX10_isFrame, cX10_isTick, cX10_bitsOf, cX10_chews, cX10_chewed, cX10_sumWith,
  cX10_sumOfSent, cX10_frameComes, cX10_messageComes, cX10_framesOf, cX10_hasFrame, cX10_stateOf, cX10_bitOf, cX10_taken,
  cX10_isInverted, cX10_onCable, cX10_received, cX10_takes, cX10_isReadable, cX10_isReadableAt, cX10_endOf, cX10_isAnswerLost,
  cX10_result, cX10_pending, cX10_arrives, cX10_endsAttempt, cX10_attemptOnce, cX10_attemptsOnce, cX10_sendNow, cX10_transmitNow,
  cX10_cancelNow, cX10_mayResend, cX10_resendNow, cX10_waitNow, cX10_driftNow, cX10_dogNow, cX10_chaseNow, cX10_four,
  cX10_append, cX10_truncate, cX10_byteAt, cX10_next, cX10_must, cX10_sees, cX10_goesPast, cX10_semicolon,
  cX10_number, cX10_startsText, cX10_endsText, cX10_errorCode, cX10_errorPosition, cX10_modemLine, cX10_dogLine, cX10_load,
  cX10_otherCommand, cX10_commandHere, cX10_wordHere, cX10_dogHere, cX10_driftHere, cX10_partsOf, cX10_readsOne, cX10_sendsTold,
  cX10_doesOne, cX10_keeps, cX10_executeCommands, cX10_tells, cX10_clock, cX10_bitTime, cX10_drift, cX10_dogCount,
  cX10_isChewed, cX10_nextChewedTick, cX10_nextQuietTick, cX10_checksum, cX10_messageCount, cX10_messageLength, cX10_messageState, cX10_firstFrame,
  cX10_frameCount, cX10_frameLength, cX10_frameByte, cX10_hasBit, cX10_frameBit, cX10_frameState, cX10_attemptsOf, cX10_hasArrived,
  cX10_arrivedByte, cX10_isIntact, cX10_takenFrom, cX10_safeBits, cX10_passesFrame, cX10_receivedBit, cX10_invertedBits, cX10_longestBurst,
  cX10_wrongBits, cX10_resultAt, cX10_digitsOf, cX10_isIn, cX10_fits, cX10_wouldPass, cX10_earliestSuccess, cX10_bestBitTime,
  cX10_pendingFrame, cX10_napEnd, cX10_attemptsUntilIdle, cX10_clockWhenIdle, cX10_attempts, cX10_unreadableFrames, cX10_duplicates, cX10_lostAcknowledgements,
  cX10_nappedTicks, cX10_bitsSent, cX10_attemptImbalance, cX10_clockImbalance, cX10_errorRate, cX10_throughput, cX10_tried, cX10_done,
  cX10_sendMessage, cX10_transmit, cX10_cancelMessage, cX10_resendMessage, cX10_waitTicks, cX10_setDrift, cX10_addDog, cX10_removeDog,
  cX10_undo, cX10_save, cX10_restore, cX10_writes, cX10_formatFrame, cX10_outputByte, cL_append, cL_truncate,
  cL_load, cL_executeCommands, cL_isChewed, cL_nextChewedTick, cL_nextQuietTick, cL_messageLength, cL_messageState, cL_firstFrame,
  cL_frameLength, cL_frameByte, cL_frameBit, cL_frameState, cL_attemptsOf, cL_hasArrived, cL_arrivedByte, cL_isIntact,
  cL_takenFrom, cL_receivedBit, cL_invertedBits, cL_longestBurst, cL_wrongBits, cL_resultAt, cL_wouldPass, cL_earliestSuccess,
  cL_bestBitTime, cL_sendMessage, cL_transmit, cL_cancelMessage, cL_resendMessage, cL_waitTicks, cL_setDrift, cL_addDog,
  cL_removeDog, cL_undo, cL_restore, cL_formatFrame, cL_law, cJlength, cJcoder, cJisLatin1,
  cJcharAt, cJlcharAt, cJcheckIndex, cJpcheckIndex]
def cdN (y : Nat) : ByteArray := cdL.getD y ⟨#[]⟩
def owL : List Nat := [
  0, 0, 0, 0, 0, 0, 0, 0, 0, 1, 1, 1, 2, 2, 2, 2, 2, 3, 3, 3, 3, 3, 3, 3, 3, 3, 3, 3, 4, 4, 4, 4, 5, 5, 5, 5, 5, 5, 5, 5,
  5, 5, 5, 5, 5, 5, 5, 5, 5, 5, 5, 5, 5, 5, 5, 6, 6, 6, 6, 6, 6, 6, 7, 7, 7, 7, 8, 8, 8, 8, 8, 8, 8, 8, 8, 9, 9, 9, 9, 9,
  9, 9, 9, 9, 9, 9, 9, 9, 9, 9, 9, 9, 9, 9, 9, 9, 9, 9, 9, 9, 9, 9, 9, 9, 9, 9, 9, 9, 9, 9, 9, 9, 9, 9, 9, 9, 9, 9, 9, 9,
  9, 9, 9, 9, 9, 9, 9, 9, 9, 9, 9, 9, 9, 9, 9, 9, 9, 9, 9, 9, 9, 9, 9, 9, 9, 9, 10, 10, 10, 10, 10, 10, 10, 10, 10, 10, 10, 10, 10, 10,
  10, 10, 10, 10, 10, 10, 10, 10, 10, 10, 10, 10, 10, 10, 10, 10, 10, 10, 10, 10, 10, 10, 10, 10, 10, 10, 10, 10, 10, 10, 10, 10, 10, 10, 10, 10, 10, 10, 10, 10,
  10, 10, 10, 10, 10, 10, 10, 10, 10, 10, 10, 10, 10, 10, 10, 10, 10, 10, 10, 10, 10, 10, 10, 10, 10, 10, 10, 10, 10, 10, 10, 10, 10, 10, 10, 10, 10, 10, 10, 10,
  10, 10, 10, 10, 10, 10, 10, 10, 10, 10, 10, 10, 10, 10, 10, 10, 10, 10, 10, 10, 10, 10, 10, 10, 10, 10, 10, 10, 10, 10, 10, 10, 10, 10, 10, 10, 10, 10, 10, 10,
  10, 10, 10, 10, 10, 10, 10, 10, 10, 10, 10, 10, 10, 10, 11, 11, 11, 11, 11, 11, 11, 11, 11, 11, 11, 11, 11, 11, 11, 11, 11, 11, 11, 11, 11, 11, 11, 11, 11, 11,
  11, 11, 11, 11, 11, 11, 11, 11, 11, 11, 11, 11, 11, 12, 12, 12, 12, 13, 12, 14]
def owN (y : Nat) : Nat := owL.getD y 0
def mlL : List Nat := [
  1, 3, 3, 1, 3, 2, 5, 4, 6, 1, 1, 2, 1, 2, 4, 3, 5, 1, 2, 5, 2, 3, 2, 3, 4, 3, 3, 3, 2, 3, 4, 1, 1, 5, 2, 2, 6, 3, 2, 1,
  5, 3, 5, 2, 5, 2, 4, 2, 2, 1, 5, 5, 1, 5, 3, 1, 7, 4, 3, 9, 2, 6, 2, 2, 2, 2, 2, 1, 2, 1, 1, 3, 5, 1, 1, 1, 6, 2, 2, 2,
  1, 1, 1, 1, 1, 1, 2, 3, 6, 1, 1, 2, 2, 2, 1, 2, 3, 3, 2, 2, 2, 3, 2, 2, 2, 4, 3, 3, 5, 3, 5, 3, 3, 1, 1, 1, 1, 1, 1, 1,
  1, 1, 1, 3, 2, 2, 1, 2, 2, 2, 2, 2, 3, 4, 2, 1, 1, 1, 4, 2, 2, 2, 1, 6, 2, 2, 3, 1, 6, 1, 2, 3, 5, 1, 2, 3, 3, 4, 3, 4,
  2, 2, 2, 1, 2, 4, 3, 4, 5, 6, 4, 2, 4, 2, 3, 2, 3, 4, 5, 5, 4, 3, 3, 5, 3, 2, 4, 3, 5, 3, 2, 2, 4, 2, 4, 2, 2, 5, 3, 3,
  6, 2, 2, 1, 3, 4, 1, 1, 4, 1, 1, 1, 1, 1, 5, 2, 1, 1, 4, 2, 1, 3, 2, 3, 3, 3, 2, 2, 1, 1, 1, 1, 2, 3, 4, 3, 1, 2, 2, 2,
  1, 2, 3, 3, 3, 2, 2, 2, 4, 4, 2, 2, 3, 4, 5, 6, 5, 3, 3, 4, 4, 8, 3, 3, 1, 1, 1, 2, 1, 1, 1, 1, 1, 1, 4, 2, 1, 3, 2, 2,
  2, 2, 3, 3, 2, 2, 5, 2, 1, 1, 1, 2, 4, 2, 8, 4, 3, 3, 4, 4, 4, 4, 4, 4, 4, 5, 5, 4, 4, 4, 5, 4, 4, 6, 5, 5, 5, 5, 6, 4,
  4, 3, 4, 4, 4, 4, 4, 6, 4, 3, 3, 5, 9, 1, 1, 1, 2, 2, 2, 3]
def mlN (y : Nat) : Nat := mlL.getD y 0
def rtL : List (Option FieldType) := [
  none, (some .boolean), (some .boolean), (some .int), (some .boolean), (some .boolean), (some .boolean), (some .boolean), (some .boolean), none, none, none,
  none, none, (some .boolean), (some .boolean), (some .boolean), none, none, none, (some .int), (some .int), (some .int), none,
  (some .boolean), (some .int), (some .int), (some .int), none, none, none, none, none, none, none, (some .boolean),
  (some .boolean), (some .boolean), (some .boolean), (some .boolean), (some .int), (some .int), (some .int), (some .boolean), (some .int), (some .boolean), (some .int), (some .boolean),
  (some .boolean), (some .boolean), (some .int), none, none, none, none, none, none, (some .int), none, none,
  (some .boolean), (some .int), none, (some .int), none, none, none, none, (some .boolean), none, (some .int), (some .boolean),
  (some .int), (some .boolean), (some .boolean), none, (some .int), (some .int), (some .int), (some .int), (some .int), (some .int), (some .int), (some .int),
  (some .int), (some .int), (some .boolean), (some .int), (some .int), (some .int), (some .int), (some .int), (some .int), (some .int), (some .int), (some .int),
  (some .int), (some .int), (some .int), (some .int), (some .boolean), (some .int), (some .boolean), (some .int), (some .int), (some .int), (some .int), (some .int),
  (some .int), (some .int), (some .boolean), (some .int), (some .int), (some .int), (some .int), (some .int), (some .int), (some .int), (some .int), (some .int),
  (some .int), (some .int), (some .int), (some .int), (some .int), (some .float), (some .double), (some .int), (some .int), (some .int), (some .int), (some .int),
  (some .int), (some .int), (some .int), (some .int), (some .int), (some .int), (some .int), (some .int), none, none, none, (some .int),
  (some .int), (some .int), none, (some .int), (some .boolean), (some .int), (some .boolean), (some .boolean), none, none, (some .int), (some .int),
  (some .int), none, (some .int), none, (some .boolean), (some .boolean), (some .boolean), (some .boolean), (some .int), (some .boolean), (some .boolean), (some .int),
  (some .int), none, none, (some .int), (some .boolean), (some .int), (some .int), (some .int), (some .boolean), (some .int), (some .int), none,
  (some .boolean), (some .boolean), (some .int), (some .boolean), (some .int), (some .int), none, none, none, (some .int), (some .boolean), (some .boolean),
  (some .boolean), (some .boolean), (some .boolean), (some .boolean), (some .boolean), (some .boolean), (some .boolean), none, (some .int), (some .int), (some .int), (some .int),
  none, (some .boolean), none, none, (some .int), none, (some .boolean), (some .int), (some .int), none, none, (some .int),
  (some .int), (some .int), none, none, (some .int), none, none, (some .boolean), (some .boolean), none, (some .int), (some .int),
  (some .int), (some .int), (some .int), (some .int), (some .boolean), (some .int), (some .int), (some .int), (some .int), (some .int), (some .int), (some .int),
  (some .int), (some .int), (some .int), (some .boolean), (some .int), (some .int), (some .int), (some .boolean), (some .int), (some .boolean), (some .int), (some .int),
  (some .boolean), (some .int), (some .int), (some .int), (some .int), (some .int), (some .int), (some .boolean), (some .boolean), (some .boolean), (some .int), (some .int),
  (some .int), (some .int), (some .int), (some .int), (some .int), (some .int), (some .int), (some .int), (some .int), (some .int), (some .int), (some .int),
  (some .float), (some .double), (some .boolean), (some .int), (some .int), (some .int), (some .int), (some .int), (some .int), (some .int), (some .int), (some .int),
  (some .int), (some .int), (some .int), none, (some .int), (some .int), (some .int), (some .int), (some .int), (some .int), (some .int), (some .int),
  (some .int), (some .int), (some .int), (some .int), (some .int), (some .int), (some .int), (some .int), (some .int), (some .int), (some .int), (some .int),
  (some .int), (some .int), (some .int), (some .int), (some .int), (some .int), (some .int), (some .int), (some .int), (some .int), (some .int), (some .int),
  (some .int), (some .int), (some .int), (some .int), (some .int), (some .int), (some .int), (some .int), (some .boolean), (some .int), (some .byte), (some .boolean),
  (some .char), (some .char), none, (some .int)]
def rtN (y : Nat) : Option FieldType := rtL.getD y none
def naL : List Nat := [
  0, 1, 1, 1, 2, 1, 3, 3, 4, 0, 0, 1, 0, 1, 3, 1, 1, 0, 1, 3, 1, 2, 0, 2, 1, 0, 0, 0, 0, 1, 1, 0, 0, 4, 1, 1, 1, 1, 1, 0,
  3, 1, 1, 1, 1, 1, 1, 1, 1, 0, 2, 2, 0, 3, 2, 0, 4, 2, 1, 5, 0, 4, 1, 1, 1, 1, 1, 0, 1, 0, 1, 1, 2, 0, 0, 0, 5, 1, 0, 0,
  0, 0, 0, 0, 0, 0, 1, 1, 1, 0, 0, 1, 1, 1, 0, 1, 2, 2, 1, 1, 1, 2, 1, 1, 0, 3, 2, 2, 2, 2, 3, 1, 1, 0, 0, 0, 0, 0, 0, 0,
  0, 0, 0, 0, 0, 0, 0, 0, 1, 1, 1, 1, 1, 3, 1, 0, 0, 0, 2, 1, 1, 1, 1, 3, 1, 2, 0, 0, 3, 1, 1, 2, 4, 0, 1, 2, 2, 3, 2, 3,
  1, 1, 1, 1, 1, 2, 1, 2, 2, 3, 1, 1, 2, 1, 2, 1, 2, 3, 3, 2, 1, 2, 2, 2, 2, 0, 1, 2, 1, 1, 1, 1, 1, 1, 1, 1, 1, 3, 1, 1,
  5, 1, 1, 0, 2, 1, 0, 0, 2, 0, 0, 0, 0, 0, 0, 0, 0, 0, 1, 1, 0, 2, 0, 1, 1, 1, 0, 1, 0, 0, 0, 0, 1, 1, 1, 0, 0, 1, 1, 1,
  0, 1, 2, 2, 2, 1, 1, 1, 2, 1, 1, 0, 2, 3, 2, 2, 2, 2, 1, 3, 3, 3, 1, 1, 0, 0, 0, 0, 0, 0, 0, 0, 0, 0, 0, 0, 0, 0, 1, 1,
  0, 1, 1, 1, 1, 1, 3, 1, 0, 0, 0, 1, 2, 1, 7, 3, 2, 2, 3, 3, 3, 3, 3, 3, 3, 4, 4, 3, 3, 3, 4, 3, 3, 5, 4, 4, 4, 4, 5, 3,
  3, 2, 3, 3, 3, 3, 3, 5, 3, 2, 2, 4, 1, 0, 0, 0, 1, 2, 2, 3]
/-- the number of parameters, the receiver not counted -/
def naN (y : Nat) : Nat := naL.getD y 0
def htL : List Nat := [
  1, 7, 6, 5, 4, 2, 3, 0, 6, 1, 0, 0, 1, 1, 0, 0, 0, 1, 1, 2, 0, 1, 0, 1, 0, 0, 0, 0, 3, 3, 3, 0, 2, 1, 2, 6, 5, 5, 0, 0,
  3, 1, 2, 3, 4, 3, 4, 0, 1, 0, 5, 4, 0, 2, 0, 1, 2, 1, 2, 3, 2, 3, 1, 0, 0, 1, 1, 0, 0, 1, 0, 4, 2, 2, 3, 4, 6, 6, 7, 8,
  0, 0, 0, 0, 0, 0, 7, 7, 6, 2, 0, 7, 7, 7, 0, 7, 7, 7, 7, 7, 7, 7, 7, 6, 1, 7, 7, 7, 7, 7, 7, 7, 7, 1, 0, 6, 6, 0, 0, 0,
  0, 0, 0, 1, 0, 0, 1, 6, 6, 7, 7, 6, 6, 6, 6, 6, 3, 6, 7, 1, 6, 6, 6, 1, 0, 0, 7, 0, 0, 0, 0, 0, 0, 1, 1, 0, 0, 0, 0, 0,
  1, 1, 1, 1, 1, 1, 2, 0, 1, 2, 3, 1, 2, 3, 1, 0, 3, 4, 5, 6, 1, 7, 2, 3, 8, 1, 1, 1, 8, 9, 4, 10, 4, 4, 5, 0, 0, 0, 2, 0,
  1, 1, 0, 1, 0, 4, 0, 2, 2, 0, 0, 0, 0, 5, 5, 6, 5, 6, 2, 3, 3, 4, 7, 5, 11, 1, 12, 0, 1, 1, 1, 1, 3, 3, 3, 1, 1, 2, 4, 2,
  1, 2, 2, 2, 3, 2, 2, 2, 2, 2, 1, 1, 2, 6, 4, 4, 6, 9, 0, 1, 2, 3, 9, 9, 2, 1, 10, 10, 1, 1, 1, 1, 1, 1, 1, 1, 0, 1, 1, 2,
  5, 11, 5, 6, 3, 3, 3, 3, 1, 1, 1, 0, 5, 1, 7, 7, 8, 9, 8, 8, 7, 8, 8, 8, 8, 8, 8, 8, 8, 8, 8, 8, 7, 8, 8, 8, 8, 8, 8, 8,
  8, 7, 7, 8, 8, 7, 7, 7, 7, 7, 7, 8, 13, 1, 0, 0, 3, 2, 1, 0]
def htN (y : Nat) : Nat := htL.getD y 0
def loL : List Nat := [
  20, 164, 142, 122, 89, 41, 65, 0, 154, 20, 0, 0, 20, 60, 0, 0, 0, 20, 60, 60, 0, 21, 0, 60, 0, 0, 0, 0, 60, 102, 102, 0, 40, 20, 81, 147, 122, 122, 0, 0,
  84, 21, 43, 67, 88, 67, 88, 0, 21, 0, 130, 106, 0, 82, 0, 20, 43, 21, 44, 66, 46, 69, 21, 0, 0, 21, 20, 0, 0, 21, 0, 100, 41, 41, 65, 108, 90, 90, 168, 186,
  0, 0, 0, 0, 0, 0, 110, 110, 90, 46, 0, 111, 111, 111, 0, 111, 111, 111, 111, 111, 111, 111, 111, 90, 21, 111, 111, 111, 111, 111, 111, 111, 111, 21, 0, 154, 154, 0, 0, 0,
  0, 0, 0, 22, 0, 0, 22, 124, 154, 124, 124, 124, 124, 124, 124, 125, 102, 102, 111, 21, 90, 90, 90, 21, 0, 0, 168, 0, 0, 0, 0, 0, 0, 24, 24, 0, 0, 0, 0, 0,
  25, 25, 25, 25, 22, 22, 45, 0, 23, 47, 72, 22, 43, 66, 22, 0, 67, 89, 112, 136, 23, 160, 43, 67, 182, 22, 23, 23, 182, 206, 95, 228, 87, 87, 116, 0, 0, 0, 46, 0,
  22, 25, 0, 25, 0, 100, 0, 45, 45, 0, 0, 0, 0, 123, 123, 147, 123, 143, 45, 68, 68, 89, 163, 116, 249, 24, 271, 0, 21, 21, 21, 21, 67, 67, 67, 23, 21, 46, 87, 46,
  21, 46, 46, 43, 65, 46, 46, 46, 46, 46, 25, 21, 46, 136, 89, 89, 136, 204, 0, 22, 43, 66, 204, 204, 43, 21, 228, 228, 21, 21, 21, 21, 21, 21, 22, 21, 0, 22, 24, 46,
  116, 249, 110, 139, 67, 67, 67, 68, 24, 24, 24, 0, 112, 25, 115, 111, 189, 207, 131, 132, 115, 132, 132, 132, 132, 133, 133, 132, 132, 132, 133, 132, 111, 134, 133, 133, 135, 133, 135, 133,
  133, 145, 175, 145, 145, 145, 146, 147, 145, 145, 122, 134, 292, 20, 0, 0, 64, 43, 22, 0]
def loN (y : Nat) : Nat := loL.getD y 0
def hhL : List (List (Nat × Nat × Nat × Nat)) := [
  [], [], [], [], [], [], [], [], [], [], [], [],
  [], [], [], [], [], [], [], [], [], [], [], [],
  [], [], [], [], [], [], [], [], [], [], [], [],
  [], [], [], [], [], [], [], [], [], [], [], [],
  [], [], [], [], [], [], [], [], [], [], [], [],
  [], [], [], [], [], [], [], [], [], [], [], [],
  [], [], [], [], [], [], [], [], [], [], [], [],
  [], [], [], [], [], [], [], [], [], [], [], [],
  [], [], [], [], [], [], [], [], [], [], [], [],
  [], [], [], [], [], [], [], [], [], [], [], [],
  [], [], [], [], [], [], [], [], [], [], [], [],
  [], [], [], [], [], [], [], [], [], [], [], [],
  [], [], [], [], [], [], [], [], [], [], [], [],
  [], [], [], [], [], [], [], [], [], [], [], [],
  [], [], [], [], [], [], [], [], [], [], [], [],
  [], [], [], [], [], [], [], [], [], [], [], [],
  [], [], [], [], [], [], [], [], [], [], [], [],
  [], [], [], [], [], [], [], [], [], [], [], [],
  [], [], [], [], [], [], [], [], [], [], [], [],
  [], [], [], [], [], [], [], [], [], [], [], [],
  [], [], [], [], [], [], [], [], [], [], [], [],
  [], [], [], [], [], [], [], [], [], [], [], [],
  [], [], [], [], [], [], [], [], [], [], [], [],
  [], [], [], [], [], [], [], [], [], [], [], [],
  [], [], [], [], [], [], [(0, 16, 19, 13)], [(0, 9, 12, 19)], [(0, 8, 11, 19)], [(0, 8, 11, 19)], [(0, 16, 19, 19)], [(0, 9, 12, 19)],
  [(0, 9, 12, 19)], [(0, 9, 12, 41)], [(0, 9, 12, 41)], [(0, 9, 12, 41)], [(0, 9, 12, 41)], [(0, 10, 13, 41)], [(0, 10, 13, 41)], [(0, 9, 12, 41)], [(0, 9, 12, 41)], [(0, 16, 19, 41)], [(0, 10, 13, 41)], [(0, 16, 19, 41)],
  [(0, 9, 12, 19)], [(0, 12, 15, 41), (0, 12, 19, 19)], [(0, 10, 13, 41), (0, 10, 17, 19)], [(0, 10, 13, 41), (0, 10, 17, 19)], [(0, 10, 13, 41), (0, 10, 17, 19)], [(0, 10, 13, 41), (0, 10, 17, 19)], [(0, 19, 22, 41), (0, 19, 26, 19)], [(0, 9, 12, 41)], [(0, 9, 12, 41)], [(0, 8, 11, 19), (0, 8, 14, 13)], [(0, 9, 12, 19), (0, 9, 15, 13)], [(0, 9, 12, 41), (0, 9, 15, 13)],
  [(0, 9, 12, 41), (0, 9, 15, 13)], [(0, 9, 12, 19), (0, 9, 15, 13)], [(0, 9, 12, 19)], [(0, 12, 15, 19), (0, 12, 19, 13)], [(0, 9, 12, 41)], [(0, 8, 11, 13)], [(0, 8, 11, 13)], [(0, 10, 13, 41), (0, 10, 17, 19)], []]
/-- the table of handlers: from, to, handler, the class's entry in the pool -/
def hhN (y : Nat) : List (Nat × Nat × Nat × Nat) := hhL.getD y []
def cpL : List Nat := [
  194, 940, 946, 949, 963, 967, 975, 971, 989, 319, 442, 581, 258, 572, 446, 1038, 615, 279, 577, 465, 606, 610, 555, 638, 1175, 681, 685, 701, 245, 983,
  1342, 929, 252, 438, 567, 829, 845, 917, 1012, 458, 454, 1016, 1008, 1004, 1000, 1025, 1021, 1033, 1029, 994, 585, 590, 594, 634, 642, 217, 602, 624, 620, 1238,
  629, 598, 127, 713, 450, 793, 148, 833, 902, 837, 841, 850, 906, 912, 922, 119, 721, 802, 825, 936, 507, 511, 515, 519, 523, 527, 1045, 1058, 1065, 531,
  536, 1074, 1101, 1109, 540, 1116, 1128, 1135, 1143, 1150, 1157, 1164, 1171, 1182, 544, 1190, 1199, 1206, 1213, 1220, 1228, 1246, 1253, 551, 559, 563, 646, 650, 654, 658,
  662, 666, 670, 674, 689, 693, 697, 1260, 1270, 1280, 1290, 1300, 1311, 1319, 1328, 1337, 705, 1349, 1357, 709, 1120, 1078, 1048, 471, 1233, 547, 1362, 1547, 1399, 1683,
  1438, 1869, 1373, 1917, 1921, 1680, 1459, 1446, 1467, 1455, 1747, 1711, 1816, 1774, 1640, 1676, 1672, 1470, 1463, 1451, 1442, 1723, 1719, 1715, 1664, 1656, 1668, 1660, 1652, 1648,
  1687, 1644, 1695, 1691, 1890, 1632, 1699, 1703, 1636, 1628, 1619, 1623, 1707, 1731, 1727, 1735, 1739, 1430, 1743, 1555, 1551, 1559, 1394, 1390, 1403, 1386, 1407, 1421, 1411, 1377,
  1434, 1563, 1567, 1381, 1425, 1370, 1588, 1580, 1599, 1603, 1417, 1595, 1576, 1615, 1611, 1607, 1572, 1755, 1751, 1759, 1763, 1767, 1771, 1779, 1783, 1788, 1792, 1796, 1800, 1804,
  1808, 1812, 1820, 1828, 1824, 1832, 1836, 1840, 1844, 1848, 1852, 1857, 1865, 1861, 1873, 1877, 1882, 1886, 1902, 1905, 1898, 1894, 1909, 1913, 1925, 1929, 1933, 1937, 1941, 1945,
  1949, 1953, 1957, 1961, 1965, 1970, 1974, 1978, 1987, 1991, 1982, 1995, 2000, 2004, 2008, 2014, 2019, 2024, 2028, 2032, 2036, 2044, 2040, 2048, 716, 797, 821, 932, 1041, 1054,
  1061, 1069, 1097, 1105, 1112, 1124, 1131, 1139, 1146, 1153, 1160, 1167, 1178, 1186, 1195, 1202, 1209, 1216, 1224, 1242, 1249, 1256, 1266, 1276, 1286, 1296, 1307, 1315, 1324, 1333,
  1345, 1353, 0]
def cdW (y : Nat) : Cond := if hhN y = [] then .code (ynN y) (cdN y) (mlN y) (rtN y) else .codeWith (ynN y) (cdN y) (mlN y) (rtN y) (hhN y)
def inT (p : Nat) (w : Cond) : Bool := decide (lw_tbl[p]? = some w) && goodWord w
def T0 : List Cond := lw_tbl.filter goodWord
def mtC (y : Nat) : Bool := plainName (ynN y).cls && decide ((parseMethodDescriptor (ynN y).desc).map (fun d => d.parameters.length) = some (naN y)) && decide ((ynN y).cls = clsN (owN y)) && decide ((ynN y).cls ≠ "java/lang/invoke/MethodHandle" ∧ (ynN y).cls ≠ "java/lang/invoke/VarHandle")
set_option maxRecDepth 100000 in
def lyL : List (List Nat) := [[202, 204, 206, 208, 210], [348, 350, 352, 354, 356, 358, 360, 362, 364], [266, 268, 270, 272], [300, 302, 304, 306, 308, 310, 312], [426, 428, 430], [395, 397, 399, 401, 403, 405, 407, 409, 411, 413, 415, 417, 419], [230, 232, 234, 236, 238], [138, 140], [171, 173, 175, 177, 179, 181, 183, 185, 187], [483, 485, 487, 489, 491, 493, 495, 497, 499, 501], [1495, 1497, 1499, 1501, 1503, 1505, 1507, 1509, 1511, 1513, 1515, 1517, 1519, 1521, 1523, 1525, 1527, 1529, 1531, 1533, 1535, 1537, 1539, 1541]]
def tyC (c k : Nat) : Bool := decide (parseFieldDescriptor (TT c k).2.2.1 = some (tyT c k)) && decide ((TT c k).2.2.2 = ff c k) && decide ((TT c k).1 = clsN c) && (match fk c k, tyT c k with | 0, .int => true | 1, .boolean => true | 2, .object _ => true | 2, .array _ => true | _, _ => false)
def ctL : List ((Nat × Nat) × Nat × Nat × List Nat) := [
  ((0, 3), 9, 0, [195, 121, 122]), ((0, 28), 0, 67, [941, 831, 832, 95]), ((0, 33), 0, 69, [942, 835, 836, 95]), ((0, 39), 0, 2, [943, 945, 8, 96]), ((0, 43), 1, 3, [947, 948, 96]),
  ((0, 47), 0, 68, [959, 900, 901, 95]), ((0, 51), 0, 4, [960, 962, 9, 96]), ((0, 55), 0, 73, [978, 910, 911, 95]), ((0, 61), 0, 71, [951, 848, 849, 95]), ((0, 79), 0, 5, [964, 966, 10, 96]),
  ((0, 82), 0, 6, [972, 974, 12, 96]), ((0, 86), 0, 74, [977, 920, 921, 95]), ((0, 97), 0, 7, [968, 970, 11, 96]), ((0, 107), 0, 72, [976, 904, 905, 95]), ((0, 116), 0, 40, [990, 452, 453, 99]),
  ((0, 122), 0, 49, [991, 992, 993, 99]), ((0, 125), 0, 50, [996, 583, 584, 99]), ((0, 129), 0, 44, [997, 998, 999, 99]), ((0, 133), 0, 46, [1018, 1019, 1020, 99]), ((0, 136), 0, 48, [1026, 1027, 1028, 99]),
  ((0, 146), 0, 14, [1034, 444, 445, 100]), ((0, 151), 0, 15, [1035, 1036, 1037, 100]), ((1, 1), 9, 0, [320, 121, 122]), ((2, 3), 9, 0, [259, 121, 122]), ((2, 25), 8, 0, [573, 468, 467, 103]),
  ((3, 3), 9, 0, [280, 121, 122]), ((3, 34), 8, 0, [466, 468, 467, 103]), ((3, 40), 3, 143, [470, 92]), ((3, 44), 0, 20, [611, 604, 605, 101]), ((4, 3), 9, 0, [246, 121, 122]),
  ((4, 17), 4, 32, [251, 99]), ((4, 22), 0, 34, [984, 565, 566, 99]), ((4, 29), 6, 0, [985, 460, 94, 461]), ((5, 3), 9, 0, [253, 121, 122]), ((5, 20), 4, 12, [257, 100]),
  ((5, 27), 4, 17, [278, 101]), ((5, 34), 4, 9, [318, 102]), ((5, 68), 0, 10, [439, 440, 441, 102]), ((5, 71), 8, 0, [568, 468, 467, 103]), ((5, 77), 0, 13, [569, 570, 571, 100]),
  ((5, 81), 0, 18, [574, 575, 576, 101]), ((5, 84), 0, 11, [578, 579, 580, 102]), ((5, 87), 0, 67, [830, 831, 832, 95]), ((5, 92), 0, 69, [834, 835, 836, 95]), ((5, 95), 0, 36, [842, 844, 6, 99]),
  ((5, 99), 0, 37, [914, 916, 7, 99]), ((5, 104), 0, 71, [847, 848, 849, 95]), ((5, 108), 0, 68, [899, 900, 901, 95]), ((5, 112), 0, 72, [903, 904, 905, 95]), ((5, 116), 0, 73, [909, 910, 911, 95]),
  ((5, 120), 0, 33, [913, 436, 437, 99]), ((5, 129), 0, 74, [919, 920, 921, 95]), ((5, 140), 0, 14, [924, 444, 445, 100]), ((5, 144), 0, 39, [455, 456, 457, 99]), ((5, 147), 6, 0, [459, 460, 94, 461]),
  ((5, 152), 0, 19, [462, 463, 464, 101]), ((5, 155), 0, 38, [1009, 1010, 1011, 99]), ((5, 158), 0, 41, [1013, 1015, 13, 99]), ((5, 162), 5, 0, [1017, 130, 94, 131]), ((5, 168), 0, 42, [1005, 1006, 1007, 99]),
  ((5, 171), 0, 43, [1001, 1002, 1003, 99]), ((5, 174), 0, 45, [1022, 1023, 1024, 99]), ((5, 184), 0, 47, [1030, 1031, 1032, 99]), ((5, 190), 0, 22, [586, 553, 554, 101]), ((5, 194), 0, 51, [587, 589, 0, 99]),
  ((5, 198), 0, 52, [591, 593, 1, 99]), ((5, 201), 0, 61, [595, 596, 597, 97]), ((5, 223), 0, 53, [631, 633, 3, 99]), ((5, 227), 0, 54, [639, 641, 4, 99]), ((5, 243), 0, 23, [635, 636, 637, 101]),
  ((6, 3), 9, 0, [218, 121, 122]), ((6, 24), 0, 20, [603, 604, 605, 101]), ((6, 40), 0, 21, [607, 608, 609, 101]), ((6, 48), 0, 16, [612, 613, 614, 100]), ((6, 54), 5, 0, [616, 130, 94, 131]),
  ((6, 59), 3, 145, [546, 92]), ((6, 62), 0, 57, [621, 622, 623, 97]), ((6, 65), 0, 58, [617, 619, 2, 97]), ((6, 69), 3, 143, [470, 92]), ((6, 73), 0, 56, [599, 600, 601, 97]),
  ((6, 80), 0, 60, [626, 627, 628, 97]), ((7, 3), 9, 0, [128, 121, 122]), ((7, 9), 5, 0, [129, 130, 94, 131]), ((7, 25), 0, 64, [794, 448, 449, 93]), ((8, 3), 9, 0, [149, 121, 122]),
  ((8, 36), 0, 63, [838, 711, 712, 93]), ((8, 40), 1, 70, [839, 840, 95]), ((8, 43), 10, 0, [851, 852, 853, 105]), ((8, 48), 11, 0, [861, 862, 863, 105]), ((8, 52), 0, 69, [907, 835, 836, 95]),
  ((8, 55), 0, 68, [908, 900, 901, 95]), ((8, 59), 0, 72, [923, 904, 905, 95]), ((9, 1), 9, 0, [120, 121, 122]), ((9, 11), 2, 62, [125, 126, 93]), ((9, 23), 2, 66, [146, 147, 95]),
  ((9, 32), 4, 0, [193, 96]), ((9, 39), 4, 55, [216, 97]), ((9, 46), 2, 28, [243, 244, 98]), ((9, 53), 4, 32, [251, 99]), ((9, 64), 0, 33, [435, 436, 437, 99]),
  ((9, 72), 0, 14, [443, 444, 445, 100]), ((9, 78), 0, 64, [447, 448, 449, 93]), ((9, 89), 0, 40, [451, 452, 453, 99]), ((9, 100), 0, 65, [790, 791, 792, 93]), ((9, 108), 0, 35, [826, 827, 828, 99]),
  ((9, 114), 0, 34, [564, 565, 566, 99]), ((9, 118), 0, 31, [926, 927, 928, 98]), ((9, 124), 0, 1, [937, 938, 939, 96]), ((9, 129), 0, 29, [980, 981, 982, 98]), ((9, 133), 0, 8, [986, 987, 988, 96]),
  ((9, 152), 1, 142, [1046, 1047, 92]), ((9, 155), 0, 16, [1051, 613, 614, 100]), ((9, 161), 1, 143, [532, 470, 92]), ((9, 167), 0, 141, [1075, 1077, 14, 92]), ((9, 173), 0, 42, [1102, 1006, 1007, 99]),
  ((9, 187), 0, 140, [1117, 1119, 15, 92]), ((9, 196), 0, 21, [1136, 608, 609, 101]), ((9, 212), 0, 24, [1172, 1173, 1174, 101]), ((9, 217), 1, 145, [545, 546, 92]), ((9, 220), 0, 56, [1191, 600, 601, 97]),
  ((9, 227), 0, 57, [1192, 622, 623, 97]), ((9, 236), 0, 61, [1221, 596, 597, 97]), ((9, 243), 1, 144, [1231, 1232, 92]), ((9, 248), 0, 59, [1235, 1236, 1237, 97]), ((9, 252), 0, 60, [1239, 627, 628, 97]),
  ((9, 256), 0, 22, [552, 553, 554, 101]), ((9, 263), 0, 50, [582, 583, 584, 99]), ((9, 291), 7, 0, [675, 676, 94, 677]), ((9, 296), 0, 25, [678, 679, 680, 101]), ((9, 299), 0, 26, [682, 683, 684, 101]),
  ((9, 308), 0, 27, [698, 699, 700, 101]), ((9, 313), 0, 39, [1262, 456, 457, 99]), ((9, 320), 0, 49, [1272, 992, 993, 99]), ((9, 325), 0, 43, [1281, 1002, 1003, 99]), ((9, 330), 0, 44, [1283, 998, 999, 99]),
  ((9, 333), 0, 45, [1291, 1023, 1024, 99]), ((9, 338), 0, 46, [1293, 1019, 1020, 99]), ((9, 343), 0, 47, [1302, 1031, 1032, 99]), ((9, 348), 0, 48, [1304, 1027, 1028, 99]), ((9, 362), 0, 15, [1330, 1036, 1037, 100]),
  ((9, 368), 0, 30, [1339, 1340, 1341, 98]), ((9, 380), 0, 63, [710, 711, 712, 93]), ((9, 390), 5, 0, [472, 130, 94, 131]), ((10, 3), 9, 0, [1363, 121, 122]), ((10, 46), 10, 0, [1365, 852, 853, 105]),
  ((10, 52), 11, 0, [1366, 862, 863, 105]), ((10, 58), 0, 215, [1367, 1368, 1369, 104]), ((10, 61), 0, 170, [1439, 1441, 30, 104]), ((10, 68), 1, 152, [1371, 1372, 104]), ((10, 72), 1, 148, [1397, 1398, 104]),
  ((10, 78), 0, 158, [1464, 1466, 36, 104]), ((10, 82), 0, 155, [1677, 1679, 62, 104]), ((10, 85), 0, 165, [1673, 1675, 61, 104]), ((10, 89), 1, 167, [1468, 1469, 104]), ((10, 92), 0, 159, [1452, 1454, 33, 104]),
  ((10, 96), 0, 156, [1456, 1458, 34, 104]), ((10, 99), 0, 168, [1460, 1462, 35, 104]), ((10, 102), 0, 157, [1443, 1445, 31, 104]), ((10, 105), 6, 0, [1447, 460, 94, 461]), ((10, 110), 0, 169, [1448, 1450, 32, 104]),
  ((10, 113), 0, 171, [1720, 1722, 72, 104]), ((10, 117), 0, 172, [1716, 1718, 71, 104]), ((10, 120), 0, 166, [1669, 1671, 60, 104]), ((10, 124), 0, 174, [1661, 1663, 58, 104]), ((10, 127), 0, 176, [1665, 1667, 59, 104]),
  ((10, 130), 1, 149, [1681, 1682, 104]), ((10, 134), 0, 175, [1653, 1655, 56, 104]), ((10, 137), 0, 164, [1637, 1639, 52, 104]), ((10, 140), 0, 177, [1657, 1659, 57, 104]), ((10, 144), 0, 178, [1649, 1651, 55, 104]),
  ((10, 147), 0, 179, [1645, 1647, 54, 104]), ((10, 151), 0, 180, [1684, 1686, 63, 104]), ((10, 154), 0, 182, [1692, 1694, 65, 104]), ((10, 157), 0, 181, [1641, 1643, 53, 104]), ((10, 160), 0, 183, [1688, 1690, 64, 104]),
  ((10, 163), 0, 186, [1696, 1698, 66, 104]), ((10, 166), 0, 187, [1700, 1702, 67, 104]), ((10, 170), 0, 185, [1629, 1631, 50, 104]), ((10, 173), 0, 188, [1633, 1635, 51, 104]), ((10, 180), 0, 189, [1625, 1627, 49, 104]),
  ((10, 183), 0, 161, [1708, 1710, 69, 104]), ((10, 186), 0, 173, [1712, 1714, 70, 104]), ((10, 189), 0, 193, [1728, 1730, 74, 104]), ((10, 192), 0, 190, [1616, 1618, 47, 104]), ((10, 195), 0, 160, [1744, 1746, 78, 104]),
  ((10, 198), 0, 150, [1435, 1437, 29, 104]), ((10, 202), 0, 199, [1552, 1554, 37, 104]), ((10, 208), 0, 202, [1391, 1393, 20, 104]), ((10, 227), 0, 203, [1387, 1389, 19, 104]), ((10, 230), 0, 204, [1400, 1402, 21, 104]),
  ((10, 243), 0, 205, [1383, 1385, 18, 104]), ((10, 247), 0, 206, [1404, 1406, 22, 104]), ((10, 250), 0, 208, [1408, 1410, 23, 104]), ((10, 253), 0, 220, [1414, 1416, 24, 104]), ((10, 256), 0, 207, [1418, 1420, 25, 104]),
  ((10, 261), 0, 197, [1427, 1429, 27, 104]), ((10, 265), 0, 209, [1374, 1376, 16, 104]), ((10, 268), 0, 213, [1378, 1380, 17, 104]), ((10, 271), 0, 214, [1422, 1424, 26, 104]), ((10, 274), 0, 210, [1431, 1433, 28, 104]),
  ((10, 295), 0, 216, [1585, 1587, 40, 104]), ((10, 298), 0, 218, [1596, 1598, 42, 104]), ((10, 301), 0, 219, [1600, 1602, 43, 104]), ((10, 304), 0, 217, [1577, 1579, 39, 104]), ((10, 310), 0, 221, [1592, 1594, 41, 104]),
  ((10, 313), 0, 223, [1612, 1614, 46, 104]), ((10, 316), 0, 191, [1620, 1622, 48, 104]), ((10, 319), 0, 192, [1704, 1706, 68, 104]), ((10, 322), 0, 194, [1724, 1726, 73, 104]), ((10, 325), 0, 195, [1732, 1734, 75, 104]),
  ((10, 328), 0, 196, [1736, 1738, 76, 104]), ((10, 331), 0, 198, [1740, 1742, 77, 104]), ((10, 334), 0, 222, [1573, 1575, 38, 104]), ((10, 337), 0, 225, [1604, 1606, 44, 104]), ((10, 341), 0, 224, [1608, 1610, 45, 104]),
  ((10, 344), 0, 227, [1752, 1754, 79, 104]), ((10, 347), 1, 163, [1772, 1773, 104]), ((10, 352), 0, 162, [1813, 1815, 80, 104]), ((10, 355), 0, 243, [1825, 1827, 81, 104]), ((10, 360), 0, 151, [1866, 1868, 83, 104]),
  ((10, 364), 0, 252, [1862, 1864, 82, 104]), ((10, 367), 5, 0, [1878, 130, 94, 131]), ((10, 370), 0, 184, [1887, 1889, 84, 104]), ((10, 373), 1, 258, [1900, 1901, 104]), ((10, 378), 0, 260, [1895, 1897, 85, 104]),
  ((10, 381), 1, 259, [1903, 1904, 104]), ((10, 384), 0, 153, [1914, 1916, 86, 104]), ((10, 387), 0, 154, [1918, 1920, 87, 104]), ((10, 390), 7, 0, [1966, 676, 94, 677]), ((10, 395), 0, 278, [1984, 1986, 88, 104]),
  ((10, 398), 0, 279, [1988, 1990, 89, 104]), ((10, 418), 0, 291, [2041, 2043, 90, 104]), ((11, 7), 0, 76, [718, 719, 720, 92]), ((11, 15), 0, 77, [799, 800, 801, 92]), ((11, 21), 0, 78, [822, 823, 824, 92]),
  ((11, 25), 0, 79, [933, 934, 935, 92]), ((11, 28), 0, 86, [1042, 1043, 1044, 92]), ((11, 32), 0, 87, [1055, 1056, 1057, 92]), ((11, 35), 0, 88, [1062, 1063, 1064, 92]), ((11, 38), 0, 91, [1071, 1072, 1073, 92]),
  ((11, 43), 0, 92, [1098, 1099, 1100, 92]), ((11, 46), 0, 93, [1106, 1107, 1108, 92]), ((11, 49), 0, 95, [1113, 1114, 1115, 92]), ((11, 52), 0, 96, [1125, 1126, 1127, 92]), ((11, 56), 0, 97, [1132, 1133, 1134, 92]),
  ((11, 59), 0, 98, [1140, 1141, 1142, 92]), ((11, 62), 0, 99, [1147, 1148, 1149, 92]), ((11, 65), 0, 100, [1154, 1155, 1156, 92]), ((11, 68), 0, 101, [1161, 1162, 1163, 92]), ((11, 71), 0, 102, [1168, 1169, 1170, 92]),
  ((11, 74), 0, 103, [1179, 1180, 1181, 92]), ((11, 77), 0, 105, [1187, 1188, 1189, 92]), ((11, 81), 0, 106, [1196, 1197, 1198, 92]), ((11, 84), 0, 107, [1203, 1204, 1205, 92]), ((11, 87), 0, 108, [1210, 1211, 1212, 92]),
  ((11, 90), 0, 109, [1217, 1218, 1219, 92]), ((11, 93), 0, 110, [1225, 1226, 1227, 92]), ((11, 97), 0, 111, [1243, 1244, 1245, 92]), ((11, 100), 0, 112, [1250, 1251, 1252, 92]), ((11, 103), 0, 127, [1257, 1258, 1259, 92]),
  ((11, 106), 0, 128, [1267, 1268, 1269, 92]), ((11, 109), 0, 129, [1277, 1278, 1279, 92]), ((11, 112), 0, 130, [1287, 1288, 1289, 92]), ((11, 115), 0, 131, [1297, 1298, 1299, 92]), ((11, 118), 0, 132, [1308, 1309, 1310, 92]),
  ((11, 121), 0, 133, [1316, 1317, 1318, 92]), ((11, 124), 0, 134, [1325, 1326, 1327, 92]), ((11, 127), 0, 135, [1334, 1335, 1336, 92]), ((11, 130), 0, 137, [1346, 1347, 1348, 92]), ((11, 133), 0, 138, [1354, 1355, 1356, 92]),
  ((11, 136), 2, 75, [117, 118, 92]), ((11, 139), 2, 146, [1360, 1361, 104]), ((11, 140), 12, 294, [714, 715, 91]), ((11, 145), 0, 200, [1548, 1549, 1550, 104]), ((11, 146), 0, 147, [1544, 1545, 1546, 104]),
  ((11, 149), 12, 295, [795, 796, 91]), ((11, 152), 0, 201, [1556, 1557, 1558, 104]), ((11, 153), 12, 296, [819, 820, 91]), ((11, 156), 0, 215, [1568, 1368, 1369, 104]), ((11, 157), 12, 297, [930, 931, 91]),
  ((11, 159), 0, 226, [1569, 1570, 1571, 104]), ((11, 160), 0, 80, [504, 505, 506, 92]), ((11, 163), 0, 211, [1560, 1561, 1562, 104]), ((11, 164), 0, 81, [508, 509, 510, 92]), ((11, 167), 0, 212, [1564, 1565, 1566, 104]),
  ((11, 168), 0, 82, [512, 513, 514, 92]), ((11, 171), 0, 228, [1748, 1749, 1750, 104]), ((11, 172), 0, 83, [516, 517, 518, 92]), ((11, 175), 0, 229, [1756, 1757, 1758, 104]), ((11, 176), 0, 84, [520, 521, 522, 92]),
  ((11, 179), 0, 230, [1760, 1761, 1762, 104]), ((11, 180), 0, 85, [524, 525, 526, 92]), ((11, 183), 0, 231, [1764, 1765, 1766, 104]), ((11, 184), 12, 298, [1039, 1040, 91]), ((11, 186), 0, 232, [1768, 1769, 1770, 104]),
  ((11, 187), 12, 299, [1052, 1053, 91]), ((11, 189), 0, 233, [1776, 1777, 1778, 104]), ((11, 190), 12, 300, [1059, 1060, 91]), ((11, 192), 0, 234, [1780, 1781, 1782, 104]), ((11, 193), 0, 89, [528, 529, 530, 92]),
  ((11, 196), 0, 235, [1785, 1786, 1787, 104]), ((11, 197), 0, 90, [533, 534, 535, 92]), ((11, 200), 0, 236, [1789, 1790, 1791, 104]), ((11, 201), 12, 301, [1067, 1068, 91]), ((11, 203), 0, 237, [1793, 1794, 1795, 104]),
  ((11, 204), 12, 302, [1095, 1096, 91]), ((11, 206), 0, 238, [1797, 1798, 1799, 104]), ((11, 207), 12, 303, [1103, 1104, 91]), ((11, 209), 0, 239, [1801, 1802, 1803, 104]), ((11, 210), 0, 94, [537, 538, 539, 92]),
  ((11, 213), 0, 240, [1805, 1806, 1807, 104]), ((11, 214), 12, 304, [1110, 1111, 91]), ((11, 216), 0, 241, [1809, 1810, 1811, 104]), ((11, 217), 12, 305, [1122, 1123, 91]), ((11, 220), 0, 242, [1817, 1818, 1819, 104]),
  ((11, 221), 12, 306, [1129, 1130, 91]), ((11, 223), 0, 244, [1821, 1822, 1823, 104]), ((11, 224), 12, 307, [1137, 1138, 91]), ((11, 226), 0, 245, [1829, 1830, 1831, 104]), ((11, 227), 12, 308, [1144, 1145, 91]),
  ((11, 229), 0, 246, [1833, 1834, 1835, 104]), ((11, 230), 12, 309, [1151, 1152, 91]), ((11, 232), 0, 247, [1837, 1838, 1839, 104]), ((11, 233), 12, 310, [1158, 1159, 91]), ((11, 235), 0, 248, [1841, 1842, 1843, 104]),
  ((11, 236), 12, 311, [1165, 1166, 91]), ((11, 238), 0, 249, [1845, 1846, 1847, 104]), ((11, 239), 12, 312, [1176, 1177, 91]), ((11, 241), 0, 250, [1849, 1850, 1851, 104]), ((11, 242), 0, 104, [541, 542, 543, 92]),
  ((11, 245), 0, 251, [1854, 1855, 1856, 104]), ((11, 246), 12, 313, [1184, 1185, 91]), ((11, 249), 0, 253, [1858, 1859, 1860, 104]), ((11, 250), 12, 314, [1193, 1194, 91]), ((11, 252), 0, 254, [1870, 1871, 1872, 104]),
  ((11, 253), 12, 315, [1200, 1201, 91]), ((11, 255), 0, 255, [1874, 1875, 1876, 104]), ((11, 256), 12, 316, [1207, 1208, 91]), ((11, 258), 0, 256, [1879, 1880, 1881, 104]), ((11, 259), 12, 317, [1214, 1215, 91]),
  ((11, 261), 0, 257, [1883, 1884, 1885, 104]), ((11, 262), 12, 318, [1222, 1223, 91]), ((11, 264), 0, 261, [1891, 1892, 1893, 104]), ((11, 265), 12, 319, [1240, 1241, 91]), ((11, 267), 0, 262, [1906, 1907, 1908, 104]),
  ((11, 268), 12, 320, [1247, 1248, 91]), ((11, 270), 0, 263, [1910, 1911, 1912, 104]), ((11, 271), 0, 113, [548, 549, 550, 92]), ((11, 274), 0, 264, [1922, 1923, 1924, 104]), ((11, 275), 0, 114, [556, 557, 558, 92]),
  ((11, 278), 0, 265, [1926, 1927, 1928, 104]), ((11, 279), 0, 115, [560, 561, 562, 92]), ((11, 282), 0, 266, [1930, 1931, 1932, 104]), ((11, 283), 0, 116, [643, 644, 645, 92]), ((11, 286), 0, 267, [1934, 1935, 1936, 104]),
  ((11, 287), 0, 117, [647, 648, 649, 92]), ((11, 290), 0, 268, [1938, 1939, 1940, 104]), ((11, 291), 0, 118, [651, 652, 653, 92]), ((11, 294), 0, 269, [1942, 1943, 1944, 104]), ((11, 295), 0, 119, [655, 656, 657, 92]),
  ((11, 298), 0, 270, [1946, 1947, 1948, 104]), ((11, 299), 0, 120, [659, 660, 661, 92]), ((11, 302), 0, 271, [1950, 1951, 1952, 104]), ((11, 303), 0, 121, [663, 664, 665, 92]), ((11, 306), 0, 272, [1954, 1955, 1956, 104]),
  ((11, 307), 0, 122, [667, 668, 669, 92]), ((11, 310), 0, 273, [1958, 1959, 1960, 104]), ((11, 311), 0, 123, [671, 672, 673, 92]), ((11, 314), 0, 274, [1962, 1963, 1964, 104]), ((11, 315), 0, 124, [686, 687, 688, 92]),
  ((11, 318), 0, 275, [1967, 1968, 1969, 104]), ((11, 319), 0, 125, [690, 691, 692, 92]), ((11, 323), 0, 276, [1971, 1972, 1973, 104]), ((11, 324), 0, 126, [694, 695, 696, 92]), ((11, 328), 0, 277, [1975, 1976, 1977, 104]),
  ((11, 329), 12, 321, [1254, 1255, 91]), ((11, 331), 0, 280, [1979, 1980, 1981, 104]), ((11, 332), 12, 322, [1264, 1265, 91]), ((11, 334), 0, 281, [1992, 1993, 1994, 104]), ((11, 335), 12, 323, [1274, 1275, 91]),
  ((11, 337), 0, 282, [1997, 1998, 1999, 104]), ((11, 338), 12, 324, [1284, 1285, 91]), ((11, 340), 0, 283, [2001, 2002, 2003, 104]), ((11, 341), 12, 325, [1294, 1295, 91]), ((11, 343), 0, 284, [2005, 2006, 2007, 104]),
  ((11, 344), 12, 326, [1305, 1306, 91]), ((11, 346), 0, 285, [2011, 2012, 2013, 104]), ((11, 347), 12, 327, [1313, 1314, 91]), ((11, 349), 0, 286, [2016, 2017, 2018, 104]), ((11, 350), 12, 328, [1322, 1323, 91]),
  ((11, 352), 0, 287, [2021, 2022, 2023, 104]), ((11, 353), 12, 329, [1331, 1332, 91]), ((11, 355), 0, 288, [2025, 2026, 2027, 104]), ((11, 356), 0, 136, [702, 703, 704, 92]), ((11, 359), 0, 289, [2029, 2030, 2031, 104]),
  ((11, 360), 12, 330, [1343, 1344, 91]), ((11, 362), 0, 290, [2033, 2034, 2035, 104]), ((11, 363), 12, 331, [1351, 1352, 91]), ((11, 365), 0, 292, [2037, 2038, 2039, 104]), ((11, 366), 0, 139, [706, 707, 708, 92]),
  ((11, 369), 0, 293, [2045, 2046, 2047, 104])]
def ctN (o i : Nat) : Option (Nat × Nat × List Nat) := (ctL.find? (fun e => e.1.1 == o && e.1.2 == i)).map (fun e => e.2)
def neL : List Cond := [.methodLinkNest (clsN 3) 40 (ynN 143) "MatchboxModem", .methodLinkNest (clsN 4) 17 (ynN 32) "MatchboxModem", .methodLinkNest (clsN 5) 20 (ynN 12) "MatchboxModem", .methodLinkNest (clsN 5) 27 (ynN 17) "MatchboxModem", .methodLinkNest (clsN 5) 34 (ynN 9) "MatchboxModem", .methodLinkNest (clsN 6) 59 (ynN 145) "MatchboxModem", .methodLinkNest (clsN 6) 69 (ynN 143) "MatchboxModem", .methodLinkNest (clsN 9) 32 (ynN 0) "MatchboxModem", .methodLinkNest (clsN 9) 39 (ynN 55) "MatchboxModem", .methodLinkNest (clsN 9) 53 (ynN 32) "MatchboxModem"]
def neH : String := "MatchboxModem"
def yStrLen : MethodName := ⟨"java/lang/String", "length", "()I"⟩
def yStrCh : MethodName := ⟨"java/lang/String", "charAt", "(I)C"⟩
def ctW (e : (Nat × Nat) × Nat × Nat × List Nat) : List Cond :=
  match e.2.1 with
  | 0 => [.methodLink (clsN e.1.1) e.1.2 (ynN e.2.2.1), .instanceMethod (ynN e.2.2.1), .selects (ynN e.2.2.1).cls (ynN e.2.2.1) (ynN e.2.2.1), .initialized (ynN e.2.2.1).cls]
  | 1 => [.methodLink (clsN e.1.1) e.1.2 (ynN e.2.2.1), .static (ynN e.2.2.1), .initialized (ynN e.2.2.1).cls]
  | 2 => [.methodLink (clsN e.1.1) e.1.2 (ynN e.2.2.1), .instanceMethod (ynN e.2.2.1), .initialized (ynN e.2.2.1).cls]
  | 3 => [.static (ynN e.2.2.1), .initialized (ynN e.2.2.1).cls]
  | 4 => [.instanceMethod (ynN e.2.2.1), .initialized (ynN e.2.2.1).cls]
  | 5 => [.methodLink (clsN e.1.1) e.1.2 Lib.Math.max.name, .static Lib.Math.max.name, .initialized "java/lang/Math", .code Lib.Math.max.name Lib.Math.max.code 2 (some .int)]
  | 6 => [.methodLink (clsN e.1.1) e.1.2 Lib.Math.min.name, .static Lib.Math.min.name, .initialized "java/lang/Math", .code Lib.Math.min.name Lib.Math.min.code 2 (some .int)]
  | 7 => [.methodLink (clsN e.1.1) e.1.2 Lib.Math.abs.name, .static Lib.Math.abs.name, .initialized "java/lang/Math", .code Lib.Math.abs.name Lib.Math.abs.code 1 (some .int)]
  | 8 => [.methodLink (clsN e.1.1) e.1.2 arraycopyName, .native arraycopyName, .static arraycopyName, .initialized "java/lang/System"]
  | 9 => [.methodLink (clsN e.1.1) e.1.2 objectInit, .instanceMethod objectInit, .code objectInit ⟨#[0xb1]⟩ 1 none]
  | 10 => [.methodLink (clsN e.1.1) e.1.2 yStrLen, .instanceMethod yStrLen, .selects yStrLen.cls yStrLen yStrLen, .initialized yStrLen.cls]
  | 11 => [.methodLink (clsN e.1.1) e.1.2 yStrCh, .instanceMethod yStrCh, .selects yStrCh.cls yStrCh yStrCh, .initialized yStrCh.cls]
  | 12 => [.methodLink (clsN e.1.1) e.1.2 (ynN e.2.2.1), .static (ynN e.2.2.1), .initialized (ynN e.2.2.1).cls]
  | _ => []
def ctB (e : (Nat × Nat) × Nat × Nat × List Nat) : Bool :=
  decide (e.2.2.1 < 332) && (match e.2.1 with
  | 0 => decide (hhN e.2.2.1 = []) && decide (owN e.2.2.1 < 11)
  | 1 => decide (hhN e.2.2.1 = [])
  | 2 => decide (hhN e.2.2.1 = []) && decide ((ynN e.2.2.1).name = "<init>") && decide (rtN e.2.2.1 = none)
  | 3 => decide (.methodLinkNest (clsN e.1.1) e.1.2 (ynN e.2.2.1) neH ∈ neL) && decide (hhN e.2.2.1 = [])
  | 4 => decide (.methodLinkNest (clsN e.1.1) e.1.2 (ynN e.2.2.1) neH ∈ neL) && decide (hhN e.2.2.1 = []) && decide ((ynN e.2.2.1).name = "<init>") && decide (rtN e.2.2.1 = none)
  | 5 => true | 6 => true | 7 => true | 8 => true | 9 => true | 10 => true | 11 => true
  | 12 => decide (hhN e.2.2.1 ≠ [])
  | _ => false)
def ftL : List ((Nat × Nat) × Nat × Nat × Nat) := [
  ((0, 9), 0, 1, 198), ((0, 15), 0, 2, 199), ((0, 18), 0, 3, 200), ((0, 21), 0, 4, 201), ((0, 24), 0, 0, 196), ((0, 36), 8, 1, 152), ((0, 88), 8, 6, 162), ((0, 91), 8, 7, 165),
  ((0, 94), 8, 8, 168), ((0, 101), 8, 3, 157), ((0, 104), 8, 2, 155), ((0, 111), 7, 0, 134), ((0, 139), 5, 1, 371), ((0, 142), 5, 10, 389), ((1, 7), 1, 0, 321), ((1, 13), 1, 1, 324),
  ((1, 16), 1, 2, 327), ((1, 19), 1, 3, 330), ((1, 22), 1, 4, 333), ((1, 25), 1, 5, 336), ((1, 28), 1, 6, 339), ((1, 31), 1, 7, 342), ((1, 34), 1, 8, 345), ((2, 9), 2, 1, 263),
  ((2, 15), 2, 2, 264), ((2, 18), 2, 3, 265), ((2, 21), 2, 0, 260), ((3, 9), 3, 1, 284), ((3, 15), 3, 2, 287), ((3, 18), 3, 3, 290), ((3, 21), 3, 4, 293), ((3, 24), 3, 5, 295),
  ((3, 27), 3, 6, 298), ((3, 30), 3, 0, 281), ((4, 11), 4, 2, 425), ((4, 18), 4, 1, 424), ((4, 26), 4, 0, 422), ((5, 9), 5, 8, 382), ((5, 15), 5, 9, 384), ((5, 21), 5, 10, 386),
  ((5, 28), 5, 11, 390), ((5, 35), 5, 12, 393), ((5, 39), 5, 0, 367), ((5, 43), 5, 1, 369), ((5, 46), 5, 2, 373), ((5, 49), 5, 3, 374), ((5, 52), 5, 4, 375), ((5, 55), 5, 5, 377),
  ((5, 58), 5, 6, 379), ((5, 61), 5, 7, 380), ((5, 64), 2, 0, 261), ((5, 67), 3, 0, 282), ((5, 124), 8, 1, 153), ((5, 131), 8, 6, 163), ((5, 134), 8, 7, 166), ((5, 137), 8, 8, 169),
  ((5, 165), 3, 2, 288), ((5, 177), 3, 5, 296), ((5, 180), 3, 1, 285), ((5, 187), 1, 8, 346), ((5, 207), 3, 3, 291), ((5, 210), 1, 0, 322), ((5, 213), 1, 5, 337), ((5, 216), 6, 2, 224),
  ((5, 217), 1, 6, 340), ((5, 220), 6, 1, 222), ((5, 231), 1, 7, 343), ((5, 234), 1, 1, 325), ((5, 237), 1, 2, 328), ((5, 240), 1, 3, 331), ((5, 247), 1, 4, 334), ((6, 9), 6, 0, 219),
  ((6, 15), 6, 1, 221), ((6, 18), 5, 11, 391), ((6, 30), 6, 2, 223), ((6, 34), 6, 3, 226), ((6, 37), 6, 4, 228), ((6, 44), 5, 10, 388), ((6, 77), 5, 1, 370), ((7, 15), 7, 0, 132),
  ((7, 21), 7, 1, 136), ((8, 9), 8, 5, 160), ((8, 15), 8, 0, 150), ((8, 19), 8, 1, 151), ((8, 22), 8, 2, 154), ((8, 25), 8, 3, 156), ((8, 28), 8, 4, 158), ((8, 31), 7, 1, 137),
  ((8, 63), 8, 6, 164), ((8, 66), 8, 7, 167), ((8, 67), 8, 8, 170), ((9, 14), 9, 0, 473), ((9, 18), 9, 1, 474), ((9, 26), 9, 2, 475), ((9, 33), 9, 3, 476), ((9, 40), 9, 4, 477),
  ((9, 47), 9, 5, 478), ((9, 54), 9, 6, 479), ((9, 58), 9, 7, 480), ((9, 61), 9, 8, 481), ((9, 68), 5, 10, 387), ((9, 81), 7, 0, 133), ((9, 85), 7, 1, 135), ((9, 121), 2, 0, 262),
  ((9, 132), 0, 0, 197), ((9, 137), 8, 4, 159), ((9, 140), 8, 5, 161), ((9, 143), 5, 4, 376), ((9, 146), 5, 0, 368), ((9, 149), 5, 1, 372), ((9, 164), 5, 7, 381), ((9, 170), 5, 8, 383),
  ((9, 177), 5, 9, 385), ((9, 180), 5, 11, 392), ((9, 184), 3, 0, 283), ((9, 190), 3, 1, 286), ((9, 193), 3, 5, 297), ((9, 200), 3, 2, 289), ((9, 203), 3, 3, 292), ((9, 206), 3, 4, 294),
  ((9, 209), 3, 6, 299), ((9, 224), 6, 2, 225), ((9, 230), 6, 3, 227), ((9, 233), 6, 4, 229), ((9, 260), 5, 5, 378), ((9, 267), 5, 12, 394), ((9, 271), 1, 0, 323), ((9, 276), 1, 1, 326),
  ((9, 279), 1, 2, 329), ((9, 282), 1, 4, 335), ((9, 285), 1, 7, 344), ((9, 288), 1, 5, 338), ((9, 289), 1, 3, 332), ((9, 302), 1, 6, 341), ((9, 305), 1, 8, 347), ((9, 365), 4, 0, 423),
  ((9, 371), 9, 9, 482), ((9, 377), 6, 0, 220), ((10, 9), 10, 0, 1471), ((10, 13), 10, 1, 1472), ((10, 16), 10, 2, 1473), ((10, 19), 10, 3, 1474), ((10, 22), 10, 4, 1475), ((10, 25), 10, 8, 1479),
  ((10, 28), 10, 9, 1480), ((10, 31), 10, 11, 1482), ((10, 34), 10, 19, 1490), ((10, 38), 10, 20, 1491), ((10, 41), 10, 22, 1493), ((10, 56), 10, 12, 1483), ((10, 65), 10, 6, 1477), ((10, 176), 10, 10, 1481),
  ((10, 205), 10, 13, 1484), ((10, 211), 10, 14, 1485), ((10, 214), 10, 15, 1486), ((10, 221), 10, 16, 1487), ((10, 224), 10, 17, 1488), ((10, 238), 10, 18, 1489), ((10, 278), 10, 5, 1476), ((10, 307), 10, 21, 1492),
  ((10, 411), 10, 7, 1478), ((10, 415), 10, 23, 1494)]
def ftN (o i : Nat) : Option (Nat × Nat × Nat) := (ftL.find? (fun e => e.1.1 == o && e.1.2 == i)).map (fun e => e.2)
def ftC (e : (Nat × Nat) × Nat × Nat × Nat) : Bool := decide (e.2.1 < 11) && decide (e.2.2.1 < nf e.2.1) && inT e.2.2.2 (.fieldLink (clsN e.1.1) e.1.2 (clsN e.2.1) (TT e.2.1 e.2.2.1).2.1 (TT e.2.1 e.2.2.1).2.2.1)
def clL : List ((Nat × Nat) × Nat × Nat × Nat × Nat) := [
  ((9, 7), 7, 123, 124, 93), ((9, 21), 8, 144, 145, 95), ((9, 30), 0, 190, 191, 96), ((9, 37), 6, 213, 214, 97), ((9, 44), 4, 241, 242, 98), ((9, 51), 5, 433, 249, 99),
  ((4, 9), 5, 247, 249, 99), ((5, 18), 2, 254, 255, 100), ((5, 25), 3, 275, 276, 101), ((5, 32), 1, 315, 316, 102), ((11, 8), 9, 115, 116, 92), ((11, 137), 10, 1358, 1359, 104)]
def clN (o i : Nat) : Option (Nat × Nat × Nat × Nat) := (clL.find? (fun e => e.1.1 == o && e.1.2 == i)).map (fun e => e.2)
def clC (e : (Nat × Nat) × Nat × Nat × Nat × Nat) : Bool := decide (e.2.1 < 11) && inT e.2.2.1 (.classLink (clsN e.1.1) e.1.2 (clsN e.2.1)) && inT e.2.2.2.1 (.instantiable (clsN e.2.1) (nf e.2.1)) && inT e.2.2.2.2 (.initialized (clsN e.2.1))
def kiL : List ((Nat × Nat) × Int32 × Nat) := [
  ((9, 240), (65535), 1229), ((9, 387), (999999), 1049), ((5, 183), (900000), 995), ((10, 179), (900000), 1624)]
def kiN (o i : Nat) : Option (Int32 × Nat) := (kiL.find? (fun e => e.1.1 == o && e.1.2 == i)).map (fun e => e.2)
def kiC (e : (Nat × Nat) × Int32 × Nat) : Bool := inT e.2.2 (.constant (clsN e.1.1) e.1.2 e.2.1)
def klL : List ((Nat × Nat) × Int64 × Nat) := [
  ((10, 76), (999999), 1775), ((10, 217), (97), 1395), ((10, 219), (122), 1396), ((10, 234), (48), 1412), ((10, 236), (57), 1413), ((10, 350), (500), 1784),
  ((10, 358), (99), 1853), ((10, 376), (65535), 1899), ((10, 393), (16), 1983), ((10, 401), (60), 1996), ((10, 403), (999), 2009), ((10, 405), (900000), 2010),
  ((10, 407), (-99), 2015), ((10, 409), (2), 2020)]
def klN (o i : Nat) : Option (Int64 × Nat) := (klL.find? (fun e => e.1.1 == o && e.1.2 == i)).map (fun e => e.2)
def klC (e : (Nat × Nat) × Int64 × Nat) : Bool := inT e.2.2 (.constantLong (clsN e.1.1) e.1.2 e.2.1)
