def RX0 : String := "MailFollower$Changes"
def TX0 : u_T := fun k => match k with
  | 0 => ("MailFollower$Changes", "mailRow", "[I", true)
  | 1 => ("MailFollower$Changes", "boxesBefore", "[I", true)
  | 2 => ("MailFollower$Changes", "keywordsBefore", "[I", true)
  | 3 => ("MailFollower$Changes", "keywordsAfter", "[I", true)
  | _ => ("MailFollower$Changes", "latest", "I", false)
def tyX0 : Nat → FieldType := fun k => match k with
  | 0 => .array .int
  | 1 => .array .int
  | 2 => .array .int
  | 3 => .array .int
  | _ => .int
abbrev wsX00 : List Cond := u_ws RX0 TX0 5
theorem nmX0 : ∀ a, a < 5 → ∀ b, b < 5 → a ≠ b → (TX0 a).2.1 ≠ (TX0 b).2.1 := by decide +kernel
theorem tyX0_ok : ∀ k, k < 5 → parseFieldDescriptor (TX0 k).2.2.1 = some (tyX0 k) := by decide +kernel
abbrev cX0_init : ByteArray := prog_2_method_1_code
def yX0_init : MethodName := ⟨RX0, "<init>", "()V"⟩
abbrev cX0_slotOf : ByteArray := prog_2_method_2_code
def yX0_slotOf : MethodName := ⟨RX0, "slotOf", "(I)I"⟩
abbrev cX0_keep : ByteArray := prog_2_method_3_code
def yX0_keep : MethodName := ⟨RX0, "keep", "(IIII)V"⟩
abbrev cX0_reachBackTo : ByteArray := prog_2_method_4_code
def yX0_reachBackTo : MethodName := ⟨RX0, "reachBackTo", "(I)Z"⟩
abbrev cX0_countBehind : ByteArray := prog_2_method_5_code
def yX0_countBehind : MethodName := ⟨RX0, "countBehind", "(I)I"⟩
abbrev cX0_undo : ByteArray := prog_2_method_6_code
def yX0_undo : MethodName := ⟨RX0, "undo", "(IJII)J"⟩
abbrev cX0_touched : ByteArray := prog_2_method_7_code
def yX0_touched : MethodName := ⟨RX0, "touched", "(I)J"⟩
abbrev cX0_endOfPage : ByteArray := prog_2_method_8_code
def yX0_endOfPage : MethodName := ⟨RX0, "endOfPage", "(II)I"⟩
abbrev cX0_contradict : ByteArray := prog_2_method_9_code
def yX0_contradict : MethodName := ⟨RX0, "contradict", "(IIIZ)Z"⟩
def RX1 : String := "MailFollower$Client"
def TX1 : u_T := fun k => match k with
  | 0 => ("MailFollower$Client", "box", "I", false)
  | 1 => ("MailFollower$Client", "width", "I", false)
  | 2 => ("MailFollower$Client", "syncState", "I", false)
  | 3 => ("MailFollower$Client", "loads", "I", false)
  | 4 => ("MailFollower$Client", "windowMails", "[I", true)
  | 5 => ("MailFollower$Client", "windowKeywords", "[I", true)
  | 6 => ("MailFollower$Client", "windowSize", "I", false)
  | 7 => ("MailFollower$Client", "flagMails", "[I", true)
  | 8 => ("MailFollower$Client", "flagKeywords", "[I", true)
  | 9 => ("MailFollower$Client", "flagSets", "[Z", true)
  | _ => ("MailFollower$Client", "flags", "I", false)
def tyX1 : Nat → FieldType := fun k => match k with
  | 0 => .int
  | 1 => .int
  | 2 => .int
  | 3 => .int
  | 4 => .array .int
  | 5 => .array .int
  | 6 => .int
  | 7 => .array .int
  | 8 => .array .int
  | 9 => .array .boolean
  | _ => .int
abbrev wsX10 : List Cond := u_ws RX1 TX1 11
theorem nmX1 : ∀ a, a < 11 → ∀ b, b < 11 → a ≠ b → (TX1 a).2.1 ≠ (TX1 b).2.1 := by decide +kernel
theorem tyX1_ok : ∀ k, k < 11 → parseFieldDescriptor (TX1 k).2.2.1 = some (tyX1 k) := by decide +kernel
abbrev cX1_init : ByteArray := prog_3_method_1_code
def yX1_init : MethodName := ⟨RX1, "<init>", "()V"⟩
abbrev cX1_hasPlace : ByteArray := prog_3_method_2_code
def yX1_hasPlace : MethodName := ⟨RX1, "hasPlace", "(I)Z"⟩
abbrev cX1_placeOf : ByteArray := prog_3_method_3_code
def yX1_placeOf : MethodName := ⟨RX1, "placeOf", "(I)I"⟩
abbrev cX1_note : ByteArray := prog_3_method_4_code
def yX1_note : MethodName := ⟨RX1, "note", "(IIZ)V"⟩
abbrev cX1_list : ByteArray := prog_3_method_5_code
def yX1_list : MethodName := ⟨RX1, "list", "(IIZ)V"⟩
abbrev cX1_leaveOutConflicts : ByteArray := prog_3_method_6_code
def yX1_leaveOutConflicts : MethodName := ⟨RX1, "leaveOutConflicts", "(LMailFollower$Server;)I"⟩
abbrev cX1_isConflict : ByteArray := prog_3_method_7_code
def yX1_isConflict : MethodName := ⟨RX1, "isConflict", "(LMailFollower$Server;IIZ)Z"⟩
abbrev cX1_replay : ByteArray := prog_3_method_8_code
def yX1_replay : MethodName := ⟨RX1, "replay", "(LMailFollower$Server;)V"⟩
abbrev cX1_load : ByteArray := prog_3_method_9_code
def yX1_load : MethodName := ⟨RX1, "load", "(LMailFollower$Server;)V"⟩
def RX2 : String := "MailFollower$Server"
def TX2 : u_T := fun k => match k with
  | 0 => ("MailFollower$Server", "times", "[I", true)
  | 1 => ("MailFollower$Server", "threads", "[I", true)
  | 2 => ("MailFollower$Server", "boxRow", "[I", true)
  | 3 => ("MailFollower$Server", "keywordRow", "[I", true)
  | 4 => ("MailFollower$Server", "order", "[I", true)
  | 5 => ("MailFollower$Server", "changes", "LMailFollower$Changes;", true)
  | _ => ("MailFollower$Server", "come", "I", false)
def tyX2 : Nat → FieldType := fun k => match k with
  | 0 => .array .int
  | 1 => .array .int
  | 2 => .array .int
  | 3 => .array .int
  | 4 => .array .int
  | 5 => .object "MailFollower$Changes"
  | _ => .int
abbrev wsX20 : List Cond := u_ws RX2 TX2 7
theorem nmX2 : ∀ a, a < 7 → ∀ b, b < 7 → a ≠ b → (TX2 a).2.1 ≠ (TX2 b).2.1 := by decide +kernel
theorem tyX2_ok : ∀ k, k < 7 → parseFieldDescriptor (TX2 k).2.2.1 = some (tyX2 k) := by decide +kernel
abbrev cX2_init : ByteArray := prog_4_method_1_code
def yX2_init : MethodName := ⟨RX2, "<init>", "()V"⟩
abbrev cX2_boxesOf : ByteArray := prog_4_method_2_code
def yX2_boxesOf : MethodName := ⟨RX2, "boxesOf", "(I)I"⟩
abbrev cX2_keywordsOf : ByteArray := prog_4_method_3_code
def yX2_keywordsOf : MethodName := ⟨RX2, "keywordsOf", "(I)I"⟩
abbrev cX2_timeOf : ByteArray := prog_4_method_4_code
def yX2_timeOf : MethodName := ⟨RX2, "timeOf", "(I)I"⟩
abbrev cX2_isThere : ByteArray := prog_4_method_5_code
def yX2_isThere : MethodName := ⟨RX2, "isThere", "(I)Z"⟩
abbrev cX2_letCome : ByteArray := prog_4_method_6_code
def yX2_letCome : MethodName := ⟨RX2, "letCome", "(III)I"⟩
abbrev cX2_putInOrder : ByteArray := prog_4_method_7_code
def yX2_putInOrder : MethodName := ⟨RX2, "putInOrder", "(II)V"⟩
abbrev cX2_setKeyword : ByteArray := prog_4_method_8_code
def yX2_setKeyword : MethodName := ⟨RX2, "setKeyword", "(IIZ)Z"⟩
abbrev cX2_change : ByteArray := prog_4_method_9_code
def yX2_change : MethodName := ⟨RX2, "change", "(III)Z"⟩
abbrev cX2_countThread : ByteArray := prog_4_method_10_code
def yX2_countThread : MethodName := ⟨RX2, "countThread", "(I)I"⟩
abbrev cX2_matching : ByteArray := prog_4_method_11_code
def yX2_matching : MethodName := ⟨RX2, "matching", "(II)J"⟩
abbrev cX2_matchingAt : ByteArray := prog_4_method_12_code
def yX2_matchingAt : MethodName := ⟨RX2, "matchingAt", "(III)J"⟩
abbrev cX2_changedSince : ByteArray := prog_4_method_13_code
def yX2_changedSince : MethodName := ⟨RX2, "changedSince", "(II)J"⟩
abbrev cX2_latestAt : ByteArray := prog_4_method_14_code
def yX2_latestAt : MethodName := ⟨RX2, "latestAt", "(JI)I"⟩
def RX3 : String := "MailFollower"
def TX3 : u_T := fun k => match k with
  | 0 => ("MailFollower", "server", "LMailFollower$Server;", true)
  | 1 => ("MailFollower", "firstClient", "LMailFollower$Client;", true)
  | _ => ("MailFollower", "secondClient", "LMailFollower$Client;", true)
def tyX3 : Nat → FieldType := fun k => match k with
  | 0 => .object "MailFollower$Server"
  | 1 => .object "MailFollower$Client"
  | _ => .object "MailFollower$Client"
abbrev wsX30 : List Cond := u_ws RX3 TX3 3
theorem nmX3 : ∀ a, a < 3 → ∀ b, b < 3 → a ≠ b → (TX3 a).2.1 ≠ (TX3 b).2.1 := by decide +kernel
theorem tyX3_ok : ∀ k, k < 3 → parseFieldDescriptor (TX3 k).2.2.1 = some (tyX3 k) := by decide +kernel
abbrev cX3_init : ByteArray := prog_1_method_1_code
def yX3_init : MethodName := ⟨RX3, "<init>", "()V"⟩
abbrev cX3_add : ByteArray := prog_1_method_2_code
def yX3_add : MethodName := ⟨RX3, "add", "(III)I"⟩
abbrev cX3_move : ByteArray := prog_1_method_3_code
def yX3_move : MethodName := ⟨RX3, "move", "(II)I"⟩
abbrev cX3_flag : ByteArray := prog_1_method_4_code
def yX3_flag : MethodName := ⟨RX3, "flag", "(IIZ)Z"⟩
abbrev cX3_flagIf : ByteArray := prog_1_method_5_code
def yX3_flagIf : MethodName := ⟨RX3, "flagIf", "(IIZI)Z"⟩
abbrev cX3_destroy : ByteArray := prog_1_method_6_code
def yX3_destroy : MethodName := ⟨RX3, "destroy", "(I)I"⟩
abbrev cX3_state : ByteArray := prog_1_method_7_code
def yX3_state : MethodName := ⟨RX3, "state", "()I"⟩
abbrev cX3_mails : ByteArray := prog_1_method_8_code
def yX3_mails : MethodName := ⟨RX3, "mails", "()I"⟩
abbrev cX3_keywords : ByteArray := prog_1_method_9_code
def yX3_keywords : MethodName := ⟨RX3, "keywords", "(I)I"⟩
abbrev cX3_inThread : ByteArray := prog_1_method_10_code
def yX3_inThread : MethodName := ⟨RX3, "inThread", "(I)I"⟩
abbrev cX3_share : ByteArray := prog_1_method_11_code
def yX3_share : MethodName := ⟨RX3, "share", "(II)F"⟩
abbrev cX3_canTell : ByteArray := prog_1_method_12_code
def yX3_canTell : MethodName := ⟨RX3, "canTell", "(I)Z"⟩
abbrev cX3_changed : ByteArray := prog_1_method_13_code
def yX3_changed : MethodName := ⟨RX3, "changed", "(II)I"⟩
abbrev cX3_changedAt : ByteArray := prog_1_method_14_code
def yX3_changedAt : MethodName := ⟨RX3, "changedAt", "(III)I"⟩
abbrev cX3_page : ByteArray := prog_1_method_15_code
def yX3_page : MethodName := ⟨RX3, "page", "(II)I"⟩
abbrev cX3_found : ByteArray := prog_1_method_16_code
def yX3_found : MethodName := ⟨RX3, "found", "(II)I"⟩
abbrev cX3_foundAt : ByteArray := prog_1_method_17_code
def yX3_foundAt : MethodName := ⟨RX3, "foundAt", "(III)I"⟩
abbrev cX3_removed : ByteArray := prog_1_method_18_code
def yX3_removed : MethodName := ⟨RX3, "removed", "(III)I"⟩
abbrev cX3_added : ByteArray := prog_1_method_19_code
def yX3_added : MethodName := ⟨RX3, "added", "(III)I"⟩
abbrev cX3_watch : ByteArray := prog_1_method_20_code
def yX3_watch : MethodName := ⟨RX3, "watch", "(III)V"⟩
abbrev cX3_flagOffline : ByteArray := prog_1_method_21_code
def yX3_flagOffline : MethodName := ⟨RX3, "flagOffline", "(IIIZ)I"⟩
abbrev cX3_sync : ByteArray := prog_1_method_22_code
def yX3_sync : MethodName := ⟨RX3, "sync", "(I)I"⟩
abbrev cX3_stateOf : ByteArray := prog_1_method_23_code
def yX3_stateOf : MethodName := ⟨RX3, "stateOf", "(I)I"⟩
abbrev cX3_window : ByteArray := prog_1_method_24_code
def yX3_window : MethodName := ⟨RX3, "window", "(I)I"⟩
abbrev cX3_windowAt : ByteArray := prog_1_method_25_code
def yX3_windowAt : MethodName := ⟨RX3, "windowAt", "(II)I"⟩
abbrev cX3_known : ByteArray := prog_1_method_26_code
def yX3_known : MethodName := ⟨RX3, "known", "(II)I"⟩
abbrev cX3_freshLoads : ByteArray := prog_1_method_27_code
def yX3_freshLoads : MethodName := ⟨RX3, "freshLoads", "(I)I"⟩
abbrev cX3_isWithin : ByteArray := prog_1_method_28_code
def yX3_isWithin : MethodName := ⟨RX3, "isWithin", "(III)Z"⟩
abbrev cX3_isBox : ByteArray := prog_1_method_29_code
def yX3_isBox : MethodName := ⟨RX3, "isBox", "(I)Z"⟩
abbrev cX3_isBoxSet : ByteArray := prog_1_method_30_code
def yX3_isBoxSet : MethodName := ⟨RX3, "isBoxSet", "(I)Z"⟩
abbrev cX3_isThread : ByteArray := prog_1_method_31_code
def yX3_isThread : MethodName := ⟨RX3, "isThread", "(I)Z"⟩
abbrev cX3_isKeyword : ByteArray := prog_1_method_32_code
def yX3_isKeyword : MethodName := ⟨RX3, "isKeyword", "(I)Z"⟩
abbrev cX3_isQueryKeyword : ByteArray := prog_1_method_33_code
def yX3_isQueryKeyword : MethodName := ⟨RX3, "isQueryKeyword", "(I)Z"⟩
abbrev cX3_isWay : ByteArray := prog_1_method_34_code
def yX3_isWay : MethodName := ⟨RX3, "isWay", "(I)Z"⟩
abbrev cX3_isClient : ByteArray := prog_1_method_35_code
def yX3_isClient : MethodName := ⟨RX3, "isClient", "(I)Z"⟩
abbrev cX3_requireClient : ByteArray := prog_1_method_36_code
def yX3_requireClient : MethodName := ⟨RX3, "requireClient", "(I)V"⟩
abbrev cX3_requireMail : ByteArray := prog_1_method_37_code
def yX3_requireMail : MethodName := ⟨RX3, "requireMail", "(Z)V"⟩
abbrev cX3_requireTelling : ByteArray := prog_1_method_38_code
def yX3_requireTelling : MethodName := ⟨RX3, "requireTelling", "(I)V"⟩
abbrev cX3_isState : ByteArray := prog_1_method_39_code
def yX3_isState : MethodName := ⟨RX3, "isState", "(I)Z"⟩
abbrev cX3_clientOf : ByteArray := prog_1_method_40_code
def yX3_clientOf : MethodName := ⟨RX3, "clientOf", "(I)LMailFollower$Client;"⟩
abbrev cX3_asked : ByteArray := prog_1_method_41_code
def yX3_asked : MethodName := ⟨RX3, "asked", "(I)I"⟩
abbrev cX3_holds : ByteArray := prog_1_method_42_code
def yX3_holds : MethodName := ⟨RX3, "holds", "(JI)Z"⟩
abbrev cX3_with : ByteArray := prog_1_method_43_code
def yX3_with : MethodName := ⟨RX3, "with", "(JIZ)J"⟩
abbrev cX3_lowestAt : ByteArray := prog_1_method_44_code
def yX3_lowestAt : MethodName := ⟨RX3, "lowestAt", "(JI)I"⟩
abbrev cX3_matches : ByteArray := prog_1_method_45_code
def yX3_matches : MethodName := ⟨RX3, "matches", "(IIII)Z"⟩
def RX4 : String := "MailFollowerModel"
def TX4 : u_T := fun k => match k with
  | 0 => ("MailFollowerModel", "time", "[I", true)
  | 1 => ("MailFollowerModel", "boxes", "[I", true)
  | 2 => ("MailFollowerModel", "words", "[I", true)
  | 3 => ("MailFollowerModel", "thread", "[I", true)
  | 4 => ("MailFollowerModel", "came", "[I", true)
  | 5 => ("MailFollowerModel", "gone", "[I", true)
  | 6 => ("MailFollowerModel", "mails", "I", false)
  | 7 => ("MailFollowerModel", "kind", "[I", true)
  | 8 => ("MailFollowerModel", "of", "[I", true)
  | 9 => ("MailFollowerModel", "boxesBefore", "[I", true)
  | 10 => ("MailFollowerModel", "wordsBefore", "[I", true)
  | 11 => ("MailFollowerModel", "keyword", "[I", true)
  | 12 => ("MailFollowerModel", "isSet", "[Z", true)
  | 13 => ("MailFollowerModel", "state", "I", false)
  | 14 => ("MailFollowerModel", "box", "[I", true)
  | 15 => ("MailFollowerModel", "width", "[I", true)
  | 16 => ("MailFollowerModel", "stateOf", "[I", true)
  | 17 => ("MailFollowerModel", "windows", "[I", true)
  | 18 => ("MailFollowerModel", "windowMail", "[I", true)
  | 19 => ("MailFollowerModel", "windowWords", "[I", true)
  | 20 => ("MailFollowerModel", "flags", "[I", true)
  | 21 => ("MailFollowerModel", "flagMail", "[I", true)
  | 22 => ("MailFollowerModel", "flagWord", "[I", true)
  | 23 => ("MailFollowerModel", "flagSet", "[Z", true)
  | 24 => ("MailFollowerModel", "fresh", "[I", true)
  | _ => ("MailFollowerModel", "thrown", "I", false)
def tyX4 : Nat → FieldType := fun k => match k with
  | 0 => .array .int
  | 1 => .array .int
  | 2 => .array .int
  | 3 => .array .int
  | 4 => .array .int
  | 5 => .array .int
  | 6 => .int
  | 7 => .array .int
  | 8 => .array .int
  | 9 => .array .int
  | 10 => .array .int
  | 11 => .array .int
  | 12 => .array .boolean
  | 13 => .int
  | 14 => .array .int
  | 15 => .array .int
  | 16 => .array .int
  | 17 => .array .int
  | 18 => .array .int
  | 19 => .array .int
  | 20 => .array .int
  | 21 => .array .int
  | 22 => .array .int
  | 23 => .array .boolean
  | 24 => .array .int
  | _ => .int
abbrev wsX40 : List Cond := u_ws RX4 TX4 26
theorem nmX4 : ∀ a, a < 26 → ∀ b, b < 26 → a ≠ b → (TX4 a).2.1 ≠ (TX4 b).2.1 := by decide +kernel
theorem tyX4_ok : ∀ k, k < 26 → parseFieldDescriptor (TX4 k).2.2.1 = some (tyX4 k) := by decide +kernel
abbrev cX4_init : ByteArray := prog_6_method_1_code
def yX4_init : MethodName := ⟨RX4, "<init>", "()V"⟩
abbrev cX4_thrown : ByteArray := prog_6_method_2_code
def yX4_thrown : MethodName := ⟨RX4, "thrown", "()I"⟩
abbrev cX4_in : ByteArray := prog_6_method_3_code
def yX4_in : MethodName := ⟨RX4, "in", "(III)Z"⟩
abbrev cX4_isFine : ByteArray := prog_6_method_4_code
def yX4_isFine : MethodName := ⟨RX4, "isFine", "(I)Z"⟩
abbrev cX4_has : ByteArray := prog_6_method_5_code
def yX4_has : MethodName := ⟨RX4, "has", "(II)Z"⟩
abbrev cX4_isThere : ByteArray := prog_6_method_6_code
def yX4_isThere : MethodName := ⟨RX4, "isThere", "(I)Z"⟩
abbrev cX4_wasThere : ByteArray := prog_6_method_7_code
def yX4_wasThere : MethodName := ⟨RX4, "wasThere", "(II)Z"⟩
abbrev cX4_notes : ByteArray := prog_6_method_8_code
def yX4_notes : MethodName := ⟨RX4, "notes", "(IIIZ)V"⟩
abbrev cX4_add : ByteArray := prog_6_method_9_code
def yX4_add : MethodName := ⟨RX4, "add", "(III)I"⟩
abbrev cX4_move : ByteArray := prog_6_method_10_code
def yX4_move : MethodName := ⟨RX4, "move", "(II)I"⟩
abbrev cX4_flags : ByteArray := prog_6_method_11_code
def yX4_flags : MethodName := ⟨RX4, "flags", "(IIZ)Z"⟩
abbrev cX4_flag : ByteArray := prog_6_method_12_code
def yX4_flag : MethodName := ⟨RX4, "flag", "(IIZ)Z"⟩
abbrev cX4_flagIf : ByteArray := prog_6_method_13_code
def yX4_flagIf : MethodName := ⟨RX4, "flagIf", "(IIZI)Z"⟩
abbrev cX4_destroy : ByteArray := prog_6_method_14_code
def yX4_destroy : MethodName := ⟨RX4, "destroy", "(I)I"⟩
abbrev cX4_state : ByteArray := prog_6_method_15_code
def yX4_state : MethodName := ⟨RX4, "state", "()I"⟩
abbrev cX4_mails : ByteArray := prog_6_method_16_code
def yX4_mails : MethodName := ⟨RX4, "mails", "()I"⟩
abbrev cX4_keywords : ByteArray := prog_6_method_17_code
def yX4_keywords : MethodName := ⟨RX4, "keywords", "(I)I"⟩
abbrev cX4_inThread : ByteArray := prog_6_method_18_code
def yX4_inThread : MethodName := ⟨RX4, "inThread", "(I)I"⟩
abbrev cX4_isFound : ByteArray := prog_6_method_19_code
def yX4_isFound : MethodName := ⟨RX4, "isFound", "(III)Z"⟩
abbrev cX4_count : ByteArray := prog_6_method_20_code
def yX4_count : MethodName := ⟨RX4, "count", "(II)I"⟩
abbrev cX4_share : ByteArray := prog_6_method_21_code
def yX4_share : MethodName := ⟨RX4, "share", "(II)F"⟩
abbrev cX4_isState : ByteArray := prog_6_method_22_code
def yX4_isState : MethodName := ⟨RX4, "isState", "(I)Z"⟩
abbrev cX4_tells : ByteArray := prog_6_method_23_code
def yX4_tells : MethodName := ⟨RX4, "tells", "(I)Z"⟩
abbrev cX4_canTell : ByteArray := prog_6_method_24_code
def yX4_canTell : MethodName := ⟨RX4, "canTell", "(I)Z"⟩
abbrev cX4_isChanged : ByteArray := prog_6_method_25_code
def yX4_isChanged : MethodName := ⟨RX4, "isChanged", "(II)Z"⟩
abbrev cX4_changedSo : ByteArray := prog_6_method_26_code
def yX4_changedSo : MethodName := ⟨RX4, "changedSo", "(III)Z"⟩
abbrev cX4_placeOf : ByteArray := prog_6_method_27_code
def yX4_placeOf : MethodName := ⟨RX4, "placeOf", "(II)I"⟩
abbrev cX4_countChanged : ByteArray := prog_6_method_28_code
def yX4_countChanged : MethodName := ⟨RX4, "countChanged", "(II)I"⟩
abbrev cX4_changed : ByteArray := prog_6_method_29_code
def yX4_changed : MethodName := ⟨RX4, "changed", "(II)I"⟩
abbrev cX4_changedAt : ByteArray := prog_6_method_30_code
def yX4_changedAt : MethodName := ⟨RX4, "changedAt", "(III)I"⟩
abbrev cX4_page : ByteArray := prog_6_method_31_code
def yX4_page : MethodName := ⟨RX4, "page", "(II)I"⟩
abbrev cX4_isQuery : ByteArray := prog_6_method_32_code
def yX4_isQuery : MethodName := ⟨RX4, "isQuery", "(II)Z"⟩
abbrev cX4_found : ByteArray := prog_6_method_33_code
def yX4_found : MethodName := ⟨RX4, "found", "(II)I"⟩
abbrev cX4_foundOne : ByteArray := prog_6_method_34_code
def yX4_foundOne : MethodName := ⟨RX4, "foundOne", "(III)I"⟩
abbrev cX4_foundAt : ByteArray := prog_6_method_35_code
def yX4_foundAt : MethodName := ⟨RX4, "foundAt", "(III)I"⟩
abbrev cX4_wasFound : ByteArray := prog_6_method_36_code
def yX4_wasFound : MethodName := ⟨RX4, "wasFound", "(IIII)Z"⟩
abbrev cX4_removed : ByteArray := prog_6_method_37_code
def yX4_removed : MethodName := ⟨RX4, "removed", "(III)I"⟩
abbrev cX4_added : ByteArray := prog_6_method_38_code
def yX4_added : MethodName := ⟨RX4, "added", "(III)I"⟩
abbrev cX4_isClient : ByteArray := prog_6_method_39_code
def yX4_isClient : MethodName := ⟨RX4, "isClient", "(I)Z"⟩
abbrev cX4_watch : ByteArray := prog_6_method_40_code
def yX4_watch : MethodName := ⟨RX4, "watch", "(III)V"⟩
abbrev cX4_windowPlace : ByteArray := prog_6_method_41_code
def yX4_windowPlace : MethodName := ⟨RX4, "windowPlace", "(II)I"⟩
abbrev cX4_flagOffline : ByteArray := prog_6_method_42_code
def yX4_flagOffline : MethodName := ⟨RX4, "flagOffline", "(IIIZ)I"⟩
abbrev cX4_isOtherwise : ByteArray := prog_6_method_43_code
def yX4_isOtherwise : MethodName := ⟨RX4, "isOtherwise", "(IIZII)Z"⟩
abbrev cX4_takes : ByteArray := prog_6_method_44_code
def yX4_takes : MethodName := ⟨RX4, "takes", "(I)V"⟩
abbrev cX4_sync : ByteArray := prog_6_method_45_code
def yX4_sync : MethodName := ⟨RX4, "sync", "(I)I"⟩
abbrev cX4_stateOf : ByteArray := prog_6_method_46_code
def yX4_stateOf : MethodName := ⟨RX4, "stateOf", "(I)I"⟩
abbrev cX4_window : ByteArray := prog_6_method_47_code
def yX4_window : MethodName := ⟨RX4, "window", "(I)I"⟩
abbrev cX4_windowAt : ByteArray := prog_6_method_48_code
def yX4_windowAt : MethodName := ⟨RX4, "windowAt", "(II)I"⟩
abbrev cX4_known : ByteArray := prog_6_method_49_code
def yX4_known : MethodName := ⟨RX4, "known", "(II)I"⟩
abbrev cX4_freshLoads : ByteArray := prog_6_method_50_code
def yX4_freshLoads : MethodName := ⟨RX4, "freshLoads", "(I)I"⟩
def RJ13 : String := "java/lang/Long"
def TJ13 : u_T := fun k => match k with
  | _ => ("", "", "", false)
def tyJ13 : Nat → FieldType := fun k => match k with
  | _ => .int
abbrev wsJ130 : List Cond := u_ws RJ13 TJ13 0
theorem nmJ13 : ∀ a, a < 0 → ∀ b, b < 0 → a ≠ b → (TJ13 a).2.1 ≠ (TJ13 b).2.1 := by decide +kernel
theorem tyJ13_ok : ∀ k, k < 0 → parseFieldDescriptor (TJ13 k).2.2.1 = some (tyJ13 k) := by decide +kernel
abbrev cJ13_bitCount_95d88 : ByteArray := prog_11_method_50_code
def yJ13_bitCount_95d88 : MethodName := ⟨RJ13, "bitCount", "(J)I"⟩
def RJ9 : String := "java/lang/Math"
def TJ9 : u_T := fun k => match k with
  | _ => ("", "", "", false)
def tyJ9 : Nat → FieldType := fun k => match k with
  | _ => .int
abbrev wsJ90 : List Cond := u_ws RJ9 TJ9 0
theorem nmJ9 : ∀ a, a < 0 → ∀ b, b < 0 → a ≠ b → (TJ9 a).2.1 ≠ (TJ9 b).2.1 := by decide +kernel
theorem tyJ9_ok : ∀ k, k < 0 → parseFieldDescriptor (TJ9 k).2.2.1 = some (tyJ9 k) := by decide +kernel
abbrev cJ9_floorMod_7cf53 : ByteArray := prog_12_method_50_code
def yJ9_floorMod_7cf53 : MethodName := ⟨RJ9, "floorMod", "(II)I"⟩
abbrev cJ9_min_7cf53 : ByteArray := prog_12_method_69_code
def yJ9_min_7cf53 : MethodName := ⟨RJ9, "min", "(II)I"⟩
def RJ0 : String := "java/lang/String"
def TJ0 : u_T := fun k => match k with
  | _ => ("", "", "", false)
def tyJ0 : Nat → FieldType := fun k => match k with
  | _ => .int
abbrev wsJ00 : List Cond := u_ws RJ0 TJ0 0
theorem nmJ0 : ∀ a, a < 0 → ∀ b, b < 0 → a ≠ b → (TJ0 a).2.1 ≠ (TJ0 b).2.1 := by decide +kernel
theorem tyJ0_ok : ∀ k, k < 0 → parseFieldDescriptor (TJ0 k).2.2.1 = some (tyJ0 k) := by decide +kernel
def RL : String := "MailFollowerLaw"
abbrev cL_add : ByteArray := method_3_code
def yL_add : MethodName := ⟨RL, "add", "(LMailFollower;III[J)I"⟩
abbrev cL_move : ByteArray := method_4_code
def yL_move : MethodName := ⟨RL, "move", "(LMailFollower;II[J)I"⟩
abbrev cL_flag : ByteArray := method_5_code
def yL_flag : MethodName := ⟨RL, "flag", "(LMailFollower;IIZ[J)I"⟩
abbrev cL_flagIf : ByteArray := method_6_code
def yL_flagIf : MethodName := ⟨RL, "flagIf", "(LMailFollower;IIZI[J)I"⟩
abbrev cL_destroy : ByteArray := method_7_code
def yL_destroy : MethodName := ⟨RL, "destroy", "(LMailFollower;I[J)I"⟩
abbrev cL_keywords : ByteArray := method_8_code
def yL_keywords : MethodName := ⟨RL, "keywords", "(LMailFollower;I[J)I"⟩
abbrev cL_inThread : ByteArray := method_9_code
def yL_inThread : MethodName := ⟨RL, "inThread", "(LMailFollower;I[J)I"⟩
abbrev cL_share : ByteArray := method_10_code
def yL_share : MethodName := ⟨RL, "share", "(LMailFollower;II[D)I"⟩
abbrev cL_canTell : ByteArray := method_11_code
def yL_canTell : MethodName := ⟨RL, "canTell", "(LMailFollower;I[J)I"⟩
abbrev cL_changed : ByteArray := method_12_code
def yL_changed : MethodName := ⟨RL, "changed", "(LMailFollower;II[J)I"⟩
abbrev cL_changedAt : ByteArray := method_13_code
def yL_changedAt : MethodName := ⟨RL, "changedAt", "(LMailFollower;III[J)I"⟩
abbrev cL_page : ByteArray := method_14_code
def yL_page : MethodName := ⟨RL, "page", "(LMailFollower;II[J)I"⟩
abbrev cL_found : ByteArray := method_15_code
def yL_found : MethodName := ⟨RL, "found", "(LMailFollower;II[J)I"⟩
abbrev cL_foundAt : ByteArray := method_16_code
def yL_foundAt : MethodName := ⟨RL, "foundAt", "(LMailFollower;III[J)I"⟩
abbrev cL_removed : ByteArray := method_17_code
def yL_removed : MethodName := ⟨RL, "removed", "(LMailFollower;III[J)I"⟩
abbrev cL_added : ByteArray := method_18_code
def yL_added : MethodName := ⟨RL, "added", "(LMailFollower;III[J)I"⟩
abbrev cL_watch : ByteArray := method_19_code
def yL_watch : MethodName := ⟨RL, "watch", "(LMailFollower;III)I"⟩
abbrev cL_flagOffline : ByteArray := method_20_code
def yL_flagOffline : MethodName := ⟨RL, "flagOffline", "(LMailFollower;IIIZ[J)I"⟩
abbrev cL_sync : ByteArray := method_21_code
def yL_sync : MethodName := ⟨RL, "sync", "(LMailFollower;I[J)I"⟩
abbrev cL_stateOf : ByteArray := method_22_code
def yL_stateOf : MethodName := ⟨RL, "stateOf", "(LMailFollower;I[J)I"⟩
abbrev cL_window : ByteArray := method_23_code
def yL_window : MethodName := ⟨RL, "window", "(LMailFollower;I[J)I"⟩
abbrev cL_windowAt : ByteArray := method_24_code
def yL_windowAt : MethodName := ⟨RL, "windowAt", "(LMailFollower;II[J)I"⟩
abbrev cL_known : ByteArray := method_25_code
def yL_known : MethodName := ⟨RL, "known", "(LMailFollower;II[J)I"⟩
abbrev cL_freshLoads : ByteArray := method_26_code
def yL_freshLoads : MethodName := ⟨RL, "freshLoads", "(LMailFollower;I[J)I"⟩
abbrev cL_law : ByteArray := code
def yL_law : MethodName := ⟨RL, "law", "([I)Z"⟩
abbrev vwCl : List vw_C := [(RX0, TX0, 5), (RX1, TX1, 11), (RX2, TX2, 7), (RX3, TX3, 3), (RX4, TX4, 26)]
/-! words: the good ones of the tables, one list for every method -/
def WA : List Cond := lw_tbl.filter goodWord
theorem tb_1 {w : Cond} (h : w ∈ tables_1_1) (hg : goodWord w = true) : w ∈ WA := List.mem_filter.mpr ⟨List.mem_append_right _ (show w ∈ tables_1_1 ++ (tables_1_2 ++ (tables_1_3 ++ tables_1_4)) from List.mem_append_left _ h), hg⟩
theorem tb_2 {w : Cond} (h : w ∈ tables_1_2) (hg : goodWord w = true) : w ∈ WA := List.mem_filter.mpr ⟨List.mem_append_right _ (show w ∈ tables_1_1 ++ (tables_1_2 ++ (tables_1_3 ++ tables_1_4)) from List.mem_append_right _ (List.mem_append_left _ h)), hg⟩
theorem tb_3 {w : Cond} (h : w ∈ tables_1_3) (hg : goodWord w = true) : w ∈ WA := List.mem_filter.mpr ⟨List.mem_append_right _ (show w ∈ tables_1_1 ++ (tables_1_2 ++ (tables_1_3 ++ tables_1_4)) from List.mem_append_right _ (List.mem_append_right _ (List.mem_append_left _ h))), hg⟩
theorem tb_4 {w : Cond} (h : w ∈ tables_1_4) (hg : goodWord w = true) : w ∈ WA := List.mem_filter.mpr ⟨List.mem_append_right _ (show w ∈ tables_1_1 ++ (tables_1_2 ++ (tables_1_3 ++ tables_1_4)) from List.mem_append_right _ (List.mem_append_right _ (List.mem_append_right _ h))), hg⟩
theorem tb_p {w : Cond} (h : w ∈ k2_sels lw_privs) (hg : goodWord w = true) : w ∈ WA := List.mem_filter.mpr ⟨List.mem_append_left _ h, hg⟩
theorem wd_0 : (.initialized RL : Cond) ∈ WA := tb_1 (List.mem_of_getElem? (i := 0) rfl) rfl
theorem wd_1 : (.initialized RX3 : Cond) ∈ WA := tb_1 (List.mem_of_getElem? (i := 1) rfl) rfl
theorem wd_2 : (.initialized RX2 : Cond) ∈ WA := tb_1 (List.mem_of_getElem? (i := 2) rfl) rfl
theorem wd_3 : (.initialized RX0 : Cond) ∈ WA := tb_1 (List.mem_of_getElem? (i := 3) rfl) rfl
theorem wd_4 : (.initialized RX1 : Cond) ∈ WA := tb_1 (List.mem_of_getElem? (i := 4) rfl) rfl
theorem wd_5 : (.initialized RX4 : Cond) ∈ WA := tb_1 (List.mem_of_getElem? (i := 5) rfl) rfl
theorem wd_6 : (.initialized "java/lang/Throwable" : Cond) ∈ WA := tb_1 (List.mem_of_getElem? (i := 6) rfl) rfl
theorem wd_7 : (.initialized "java/lang/Exception" : Cond) ∈ WA := tb_1 (List.mem_of_getElem? (i := 7) rfl) rfl
theorem wd_8 : (.initialized "java/lang/RuntimeException" : Cond) ∈ WA := tb_1 (List.mem_of_getElem? (i := 8) rfl) rfl
theorem wd_9 : (.initialized "java/lang/IllegalArgumentException" : Cond) ∈ WA := tb_1 (List.mem_of_getElem? (i := 9) rfl) rfl
theorem wd_10 : (.initialized "java/lang/IllegalStateException" : Cond) ∈ WA := tb_1 (List.mem_of_getElem? (i := 10) rfl) rfl
theorem wd_11 : (.initialized RJ9 : Cond) ∈ WA := tb_1 (List.mem_of_getElem? (i := 11) rfl) rfl
theorem wd_12 : (.initialized "java/lang/IndexOutOfBoundsException" : Cond) ∈ WA := tb_1 (List.mem_of_getElem? (i := 12) rfl) rfl
theorem wd_13 : (.initialized RJ13 : Cond) ∈ WA := tb_1 (List.mem_of_getElem? (i := 13) rfl) rfl
theorem wd_14 : (.classLink RL 8 "MailFollower" : Cond) ∈ WA := tb_1 (List.mem_of_getElem? (i := 14) rfl) rfl
theorem wd_15 : (.instantiable RX3 3 : Cond) ∈ WA := tb_1 (List.mem_of_getElem? (i := 15) rfl) rfl
theorem wd_16 : (.methodLink RL 96 yX3_init : Cond) ∈ WA := tb_1 (List.mem_of_getElem? (i := 16) rfl) rfl
theorem wd_17 : (.instanceMethod yX3_init : Cond) ∈ WA := tb_1 (List.mem_of_getElem? (i := 17) rfl) rfl
theorem wd_18 : (.code yX3_init cX3_init 1 none : Cond) ∈ WA := tb_1 (List.mem_of_getElem? (i := 18) rfl) rfl
theorem wd_19 : (.methodLink RX3 1 objectInit : Cond) ∈ WA := tb_1 (List.mem_of_getElem? (i := 19) rfl) rfl
theorem wd_20 : (.instanceMethod objectInit : Cond) ∈ WA := tb_1 (List.mem_of_getElem? (i := 20) rfl) rfl
theorem wd_21 : (.code objectInit ⟨#[0xb1]⟩ 1 none : Cond) ∈ WA := tb_1 (List.mem_of_getElem? (i := 21) rfl) rfl
theorem wd_22 : (.classLink RX3 7 "MailFollower$Server" : Cond) ∈ WA := tb_1 (List.mem_of_getElem? (i := 22) rfl) rfl
theorem wd_23 : (.instantiable RX2 7 : Cond) ∈ WA := tb_1 (List.mem_of_getElem? (i := 23) rfl) rfl
theorem wd_24 : (.methodLink RX3 9 yX2_init : Cond) ∈ WA := tb_1 (List.mem_of_getElem? (i := 24) rfl) rfl
theorem wd_25 : (.instanceMethod yX2_init : Cond) ∈ WA := tb_1 (List.mem_of_getElem? (i := 25) rfl) rfl
theorem wd_26 : (.code yX2_init cX2_init 1 none : Cond) ∈ WA := tb_1 (List.mem_of_getElem? (i := 26) rfl) rfl
theorem wd_27 : (.methodLink RX2 3 objectInit : Cond) ∈ WA := tb_1 (List.mem_of_getElem? (i := 27) rfl) rfl
theorem wd_28 : (.classLink RX2 27 "MailFollower$Changes" : Cond) ∈ WA := tb_1 (List.mem_of_getElem? (i := 28) rfl) rfl
theorem wd_29 : (.instantiable RX0 5 : Cond) ∈ WA := tb_1 (List.mem_of_getElem? (i := 29) rfl) rfl
theorem wd_30 : (.methodLink RX2 29 yX0_init : Cond) ∈ WA := tb_1 (List.mem_of_getElem? (i := 30) rfl) rfl
theorem wd_31 : (.instanceMethod yX0_init : Cond) ∈ WA := tb_1 (List.mem_of_getElem? (i := 31) rfl) rfl
theorem wd_32 : (.code yX0_init cX0_init 1 none : Cond) ∈ WA := tb_1 (List.mem_of_getElem? (i := 32) rfl) rfl
theorem wd_33 : (.methodLink RX0 3 objectInit : Cond) ∈ WA := tb_1 (List.mem_of_getElem? (i := 33) rfl) rfl
theorem wd_34 : (.fieldLink RX0 9 "MailFollower$Changes" "mailRow" "[I" : Cond) ∈ WA := tb_1 (List.mem_of_getElem? (i := 34) rfl) rfl
theorem wd_35 : (.fieldLink RX0 15 "MailFollower$Changes" "boxesBefore" "[I" : Cond) ∈ WA := tb_1 (List.mem_of_getElem? (i := 35) rfl) rfl
theorem wd_36 : (.fieldLink RX0 18 "MailFollower$Changes" "keywordsBefore" "[I" : Cond) ∈ WA := tb_1 (List.mem_of_getElem? (i := 36) rfl) rfl
theorem wd_37 : (.fieldLink RX0 21 "MailFollower$Changes" "keywordsAfter" "[I" : Cond) ∈ WA := tb_1 (List.mem_of_getElem? (i := 37) rfl) rfl
theorem wd_38 : (.fieldLink RX0 30 "MailFollower$Changes" "latest" "I" : Cond) ∈ WA := tb_1 (List.mem_of_getElem? (i := 38) rfl) rfl
theorem wd_41 : (.laysFinal RX0 "MailFollower$Changes" "mailRow" "[I" : Cond) ∈ WA := tb_1 (List.mem_of_getElem? (i := 41) rfl) rfl
theorem wd_43 : (.laysFinal RX0 "MailFollower$Changes" "boxesBefore" "[I" : Cond) ∈ WA := tb_1 (List.mem_of_getElem? (i := 43) rfl) rfl
theorem wd_45 : (.laysFinal RX0 "MailFollower$Changes" "keywordsBefore" "[I" : Cond) ∈ WA := tb_1 (List.mem_of_getElem? (i := 45) rfl) rfl
theorem wd_47 : (.laysFinal RX0 "MailFollower$Changes" "keywordsAfter" "[I" : Cond) ∈ WA := tb_1 (List.mem_of_getElem? (i := 47) rfl) rfl
theorem wd_49 : (.lays RX0 "MailFollower$Changes" "latest" "I" : Cond) ∈ WA := tb_1 (List.mem_of_getElem? (i := 49) rfl) rfl
theorem wd_51 : (.superclass RX0 "java/lang/Object" : Cond) ∈ WA := tb_1 (List.mem_of_getElem? (i := 51) rfl) rfl
theorem wd_52 : (.arrayClass .int : Cond) ∈ WA := tb_1 (List.mem_of_getElem? (i := 52) rfl) rfl
theorem wd_53 : (.fieldLink RX2 9 "MailFollower$Server" "times" "[I" : Cond) ∈ WA := tb_1 (List.mem_of_getElem? (i := 53) rfl) rfl
theorem wd_54 : (.fieldLink RX2 15 "MailFollower$Server" "threads" "[I" : Cond) ∈ WA := tb_1 (List.mem_of_getElem? (i := 54) rfl) rfl
theorem wd_55 : (.fieldLink RX2 18 "MailFollower$Server" "boxRow" "[I" : Cond) ∈ WA := tb_1 (List.mem_of_getElem? (i := 55) rfl) rfl
theorem wd_56 : (.fieldLink RX2 21 "MailFollower$Server" "keywordRow" "[I" : Cond) ∈ WA := tb_1 (List.mem_of_getElem? (i := 56) rfl) rfl
theorem wd_57 : (.fieldLink RX2 24 "MailFollower$Server" "order" "[I" : Cond) ∈ WA := tb_1 (List.mem_of_getElem? (i := 57) rfl) rfl
theorem wd_58 : (.fieldLink RX2 30 "MailFollower$Server" "changes" "LMailFollower$Changes;" : Cond) ∈ WA := tb_1 (List.mem_of_getElem? (i := 58) rfl) rfl
theorem wd_62 : (.fieldLink RX2 42 "MailFollower$Server" "come" "I" : Cond) ∈ WA := tb_1 (List.mem_of_getElem? (i := 62) rfl) rfl
theorem wd_63 : (.laysFinal RX2 "MailFollower$Server" "times" "[I" : Cond) ∈ WA := tb_1 (List.mem_of_getElem? (i := 63) rfl) rfl
theorem wd_65 : (.laysFinal RX2 "MailFollower$Server" "threads" "[I" : Cond) ∈ WA := tb_1 (List.mem_of_getElem? (i := 65) rfl) rfl
theorem wd_67 : (.laysFinal RX2 "MailFollower$Server" "boxRow" "[I" : Cond) ∈ WA := tb_1 (List.mem_of_getElem? (i := 67) rfl) rfl
theorem wd_69 : (.laysFinal RX2 "MailFollower$Server" "keywordRow" "[I" : Cond) ∈ WA := tb_1 (List.mem_of_getElem? (i := 69) rfl) rfl
theorem wd_71 : (.laysFinal RX2 "MailFollower$Server" "order" "[I" : Cond) ∈ WA := tb_1 (List.mem_of_getElem? (i := 71) rfl) rfl
theorem wd_73 : (.laysFinal RX2 "MailFollower$Server" "changes" "LMailFollower$Changes;" : Cond) ∈ WA := tb_1 (List.mem_of_getElem? (i := 73) rfl) rfl
theorem wd_75 : (.lays RX2 "MailFollower$Server" "come" "I" : Cond) ∈ WA := tb_1 (List.mem_of_getElem? (i := 75) rfl) rfl
theorem wd_77 : (.superclass RX2 "java/lang/Object" : Cond) ∈ WA := tb_1 (List.mem_of_getElem? (i := 77) rfl) rfl
theorem wd_78 : (.classLink RX3 16 "MailFollower$Client" : Cond) ∈ WA := tb_1 (List.mem_of_getElem? (i := 78) rfl) rfl
theorem wd_79 : (.instantiable RX1 11 : Cond) ∈ WA := tb_1 (List.mem_of_getElem? (i := 79) rfl) rfl
theorem wd_80 : (.methodLink RX3 18 yX1_init : Cond) ∈ WA := tb_1 (List.mem_of_getElem? (i := 80) rfl) rfl
theorem wd_81 : (.instanceMethod yX1_init : Cond) ∈ WA := tb_1 (List.mem_of_getElem? (i := 81) rfl) rfl
theorem wd_82 : (.code yX1_init cX1_init 1 none : Cond) ∈ WA := tb_1 (List.mem_of_getElem? (i := 82) rfl) rfl
theorem wd_83 : (.methodLink RX1 3 objectInit : Cond) ∈ WA := tb_1 (List.mem_of_getElem? (i := 83) rfl) rfl
theorem wd_84 : (.fieldLink RX1 82 "MailFollower$Client" "box" "I" : Cond) ∈ WA := tb_1 (List.mem_of_getElem? (i := 84) rfl) rfl
theorem wd_86 : (.fieldLink RX1 9 "MailFollower$Client" "width" "I" : Cond) ∈ WA := tb_1 (List.mem_of_getElem? (i := 86) rfl) rfl
theorem wd_88 : (.fieldLink RX1 63 "MailFollower$Client" "syncState" "I" : Cond) ∈ WA := tb_1 (List.mem_of_getElem? (i := 88) rfl) rfl
theorem wd_91 : (.fieldLink RX1 15 "MailFollower$Client" "windowMails" "[I" : Cond) ∈ WA := tb_1 (List.mem_of_getElem? (i := 91) rfl) rfl
theorem wd_93 : (.fieldLink RX1 19 "MailFollower$Client" "windowKeywords" "[I" : Cond) ∈ WA := tb_1 (List.mem_of_getElem? (i := 93) rfl) rfl
theorem wd_95 : (.fieldLink RX1 32 "MailFollower$Client" "windowSize" "I" : Cond) ∈ WA := tb_1 (List.mem_of_getElem? (i := 95) rfl) rfl
theorem wd_97 : (.fieldLink RX1 22 "MailFollower$Client" "flagMails" "[I" : Cond) ∈ WA := tb_1 (List.mem_of_getElem? (i := 97) rfl) rfl
theorem wd_98 : (.fieldLink RX1 25 "MailFollower$Client" "flagKeywords" "[I" : Cond) ∈ WA := tb_1 (List.mem_of_getElem? (i := 98) rfl) rfl
theorem wd_99 : (.fieldLink RX1 28 "MailFollower$Client" "flagSets" "[Z" : Cond) ∈ WA := tb_1 (List.mem_of_getElem? (i := 99) rfl) rfl
theorem wd_100 : (.fieldLink RX1 47 "MailFollower$Client" "flags" "I" : Cond) ∈ WA := tb_1 (List.mem_of_getElem? (i := 100) rfl) rfl
theorem wd_102 : (.lays RX1 "MailFollower$Client" "box" "I" : Cond) ∈ WA := tb_1 (List.mem_of_getElem? (i := 102) rfl) rfl
theorem wd_104 : (.lays RX1 "MailFollower$Client" "width" "I" : Cond) ∈ WA := tb_1 (List.mem_of_getElem? (i := 104) rfl) rfl
theorem wd_106 : (.lays RX1 "MailFollower$Client" "syncState" "I" : Cond) ∈ WA := tb_1 (List.mem_of_getElem? (i := 106) rfl) rfl
theorem wd_108 : (.lays RX1 "MailFollower$Client" "loads" "I" : Cond) ∈ WA := tb_1 (List.mem_of_getElem? (i := 108) rfl) rfl
theorem wd_110 : (.laysFinal RX1 "MailFollower$Client" "windowMails" "[I" : Cond) ∈ WA := tb_1 (List.mem_of_getElem? (i := 110) rfl) rfl
theorem wd_112 : (.laysFinal RX1 "MailFollower$Client" "windowKeywords" "[I" : Cond) ∈ WA := tb_1 (List.mem_of_getElem? (i := 112) rfl) rfl
theorem wd_114 : (.lays RX1 "MailFollower$Client" "windowSize" "I" : Cond) ∈ WA := tb_1 (List.mem_of_getElem? (i := 114) rfl) rfl
theorem wd_116 : (.laysFinal RX1 "MailFollower$Client" "flagMails" "[I" : Cond) ∈ WA := tb_1 (List.mem_of_getElem? (i := 116) rfl) rfl
theorem wd_118 : (.laysFinal RX1 "MailFollower$Client" "flagKeywords" "[I" : Cond) ∈ WA := tb_1 (List.mem_of_getElem? (i := 118) rfl) rfl
theorem wd_120 : (.laysFinal RX1 "MailFollower$Client" "flagSets" "[Z" : Cond) ∈ WA := tb_1 (List.mem_of_getElem? (i := 120) rfl) rfl
theorem wd_122 : (.lays RX1 "MailFollower$Client" "flags" "I" : Cond) ∈ WA := tb_1 (List.mem_of_getElem? (i := 122) rfl) rfl
theorem wd_124 : (.superclass RX1 "java/lang/Object" : Cond) ∈ WA := tb_1 (List.mem_of_getElem? (i := 124) rfl) rfl
theorem wd_125 : (.arrayClass .boolean : Cond) ∈ WA := tb_1 (List.mem_of_getElem? (i := 125) rfl) rfl
theorem wd_126 : (.fieldLink RX3 10 "MailFollower" "server" "LMailFollower$Server;" : Cond) ∈ WA := tb_1 (List.mem_of_getElem? (i := 126) rfl) rfl
theorem wd_127 : (.fieldLink RX3 19 "MailFollower" "firstClient" "LMailFollower$Client;" : Cond) ∈ WA := tb_1 (List.mem_of_getElem? (i := 127) rfl) rfl
theorem wd_128 : (.fieldLink RX3 23 "MailFollower" "secondClient" "LMailFollower$Client;" : Cond) ∈ WA := tb_1 (List.mem_of_getElem? (i := 128) rfl) rfl
theorem wd_129 : (.laysFinal RX3 "MailFollower" "server" "LMailFollower$Server;" : Cond) ∈ WA := tb_1 (List.mem_of_getElem? (i := 129) rfl) rfl
theorem wd_131 : (.laysFinal RX3 "MailFollower" "firstClient" "LMailFollower$Client;" : Cond) ∈ WA := tb_1 (List.mem_of_getElem? (i := 131) rfl) rfl
theorem wd_133 : (.laysFinal RX3 "MailFollower" "secondClient" "LMailFollower$Client;" : Cond) ∈ WA := tb_1 (List.mem_of_getElem? (i := 133) rfl) rfl
theorem wd_135 : (.superclass RX3 "java/lang/Object" : Cond) ∈ WA := tb_1 (List.mem_of_getElem? (i := 135) rfl) rfl
theorem wd_136 : (.methodLink RL 126 yX3_state : Cond) ∈ WA := tb_1 (List.mem_of_getElem? (i := 136) rfl) rfl
theorem wd_137 : (.instanceMethod yX3_state : Cond) ∈ WA := tb_1 (List.mem_of_getElem? (i := 137) rfl) rfl
theorem wd_138 : (.selects RX3 yX3_state yX3_state : Cond) ∈ WA := tb_1 (List.mem_of_getElem? (i := 138) rfl) rfl
theorem wd_139 : (.code yX3_state cX3_state 1 (some .int) : Cond) ∈ WA := tb_1 (List.mem_of_getElem? (i := 139) rfl) rfl
theorem wd_140 : (.methodLink RL 130 yX3_mails : Cond) ∈ WA := tb_1 (List.mem_of_getElem? (i := 140) rfl) rfl
theorem wd_141 : (.instanceMethod yX3_mails : Cond) ∈ WA := tb_1 (List.mem_of_getElem? (i := 141) rfl) rfl
theorem wd_142 : (.selects RX3 yX3_mails yX3_mails : Cond) ∈ WA := tb_1 (List.mem_of_getElem? (i := 142) rfl) rfl
theorem wd_143 : (.code yX3_mails cX3_mails 1 (some .int) : Cond) ∈ WA := tb_1 (List.mem_of_getElem? (i := 143) rfl) rfl
theorem wd_144 : (.methodLink RX3 96 yX2_matching : Cond) ∈ WA := tb_1 (List.mem_of_getElem? (i := 144) rfl) rfl
theorem wd_145 : (.instanceMethod yX2_matching : Cond) ∈ WA := tb_1 (List.mem_of_getElem? (i := 145) rfl) rfl
theorem wd_146 : (.selects RX2 yX2_matching yX2_matching : Cond) ∈ WA := tb_1 (List.mem_of_getElem? (i := 146) rfl) rfl
theorem wd_147 : (.code yX2_matching cX2_matching 6 (some .long) : Cond) ∈ WA := tb_1 (List.mem_of_getElem? (i := 147) rfl) rfl
theorem wd_149 : (.static yX3_matches : Cond) ∈ WA := tb_1 (List.mem_of_getElem? (i := 149) rfl) rfl
theorem wd_150 : (.code yX3_matches cX3_matches 4 (some .boolean) : Cond) ∈ WA := tb_1 (List.mem_of_getElem? (i := 150) rfl) rfl
theorem wd_152 : (.static yX3_with : Cond) ∈ WA := tb_1 (List.mem_of_getElem? (i := 152) rfl) rfl
theorem wd_153 : (.code yX3_with cX3_with 4 (some .long) : Cond) ∈ WA := tb_1 (List.mem_of_getElem? (i := 153) rfl) rfl
theorem wd_154 : (.constantLong RX3 161 (-1) : Cond) ∈ WA := tb_1 (List.mem_of_getElem? (i := 154) rfl) rfl
theorem wd_155 : (.methodLink RX3 100 yJ13_bitCount_95d88 : Cond) ∈ WA := tb_1 (List.mem_of_getElem? (i := 155) rfl) rfl
theorem wd_156 : (.static yJ13_bitCount_95d88 : Cond) ∈ WA := tb_1 (List.mem_of_getElem? (i := 156) rfl) rfl
theorem wd_157 : (.code yJ13_bitCount_95d88 cJ13_bitCount_95d88 2 (some .int) : Cond) ∈ WA := tb_1 (List.mem_of_getElem? (i := 157) rfl) rfl
theorem wd_158 : (.constantLong RJ13 314 (6148914691236517205) : Cond) ∈ WA := tb_1 (List.mem_of_getElem? (i := 158) rfl) rfl
theorem wd_159 : (.constantLong RJ13 316 (3689348814741910323) : Cond) ∈ WA := tb_1 (List.mem_of_getElem? (i := 159) rfl) rfl
theorem wd_160 : (.constantLong RJ13 318 (1085102592571150095) : Cond) ∈ WA := tb_1 (List.mem_of_getElem? (i := 160) rfl) rfl
theorem wd_161 : (.methodLink RL 100 yL_add : Cond) ∈ WA := tb_1 (List.mem_of_getElem? (i := 161) rfl) rfl
theorem wd_162 : (.static yL_add : Cond) ∈ WA := tb_1 (List.mem_of_getElem? (i := 162) rfl) rfl
theorem wd_163 : (.codeWith yL_add cL_add 6 (some .int) [(0, 12, 15, 13), (0, 12, 19, 15)] : Cond) ∈ WA := tb_1 (List.mem_of_getElem? (i := 163) rfl) rfl
theorem wd_164 : (.classLink RL 13 "java/lang/IllegalArgumentException" : Cond) ∈ WA := tb_1 (List.mem_of_getElem? (i := 164) rfl) rfl
theorem wd_165 : (.classLink RL 15 "java/lang/IllegalStateException" : Cond) ∈ WA := tb_1 (List.mem_of_getElem? (i := 165) rfl) rfl
theorem wd_166 : (.methodLink RL 7 yX3_add : Cond) ∈ WA := tb_1 (List.mem_of_getElem? (i := 166) rfl) rfl
theorem wd_167 : (.instanceMethod yX3_add : Cond) ∈ WA := tb_1 (List.mem_of_getElem? (i := 167) rfl) rfl
theorem wd_168 : (.selects RX3 yX3_add yX3_add : Cond) ∈ WA := tb_1 (List.mem_of_getElem? (i := 168) rfl) rfl
theorem wd_169 : (.code yX3_add cX3_add 4 (some .int) : Cond) ∈ WA := tb_1 (List.mem_of_getElem? (i := 169) rfl) rfl
theorem wd_170 : (.methodLink RX3 26 yX3_isWithin : Cond) ∈ WA := tb_1 (List.mem_of_getElem? (i := 170) rfl) rfl
theorem wd_171 : (.static yX3_isWithin : Cond) ∈ WA := tb_1 (List.mem_of_getElem? (i := 171) rfl) rfl
theorem wd_172 : (.code yX3_isWithin cX3_isWithin 3 (some .boolean) : Cond) ∈ WA := tb_1 (List.mem_of_getElem? (i := 172) rfl) rfl
theorem wd_173 : (.methodLink RX3 30 yX3_isBoxSet : Cond) ∈ WA := tb_1 (List.mem_of_getElem? (i := 173) rfl) rfl
theorem wd_174 : (.static yX3_isBoxSet : Cond) ∈ WA := tb_1 (List.mem_of_getElem? (i := 174) rfl) rfl
theorem wd_175 : (.code yX3_isBoxSet cX3_isBoxSet 1 (some .boolean) : Cond) ∈ WA := tb_1 (List.mem_of_getElem? (i := 175) rfl) rfl
theorem wd_176 : (.methodLink RX3 34 yX3_isThread : Cond) ∈ WA := tb_1 (List.mem_of_getElem? (i := 176) rfl) rfl
theorem wd_177 : (.static yX3_isThread : Cond) ∈ WA := tb_1 (List.mem_of_getElem? (i := 177) rfl) rfl
theorem wd_178 : (.code yX3_isThread cX3_isThread 1 (some .boolean) : Cond) ∈ WA := tb_1 (List.mem_of_getElem? (i := 178) rfl) rfl
theorem wd_179 : (.classLink RX3 37 "java/lang/IllegalArgumentException" : Cond) ∈ WA := tb_1 (List.mem_of_getElem? (i := 179) rfl) rfl
theorem wd_180 : (.instantiable "java/lang/IllegalArgumentException" 6 : Cond) ∈ WA := tb_1 (List.mem_of_getElem? (i := 180) rfl) rfl
theorem wd_188 : (.selects "java/lang/IllegalArgumentException" ⟨"java/lang/Throwable", "fillInStackTrace", "(I)Ljava/lang/Throwable;"⟩ ⟨"java/lang/Throwable", "fillInStackTrace", "(I)Ljava/lang/Throwable;"⟩ : Cond) ∈ WA := tb_1 (List.mem_of_getElem? (i := 188) rfl) rfl
theorem wd_189 : (.selects "java/lang/IllegalArgumentException" ⟨"java/lang/Throwable", "fillInStackTrace", "()Ljava/lang/Throwable;"⟩ ⟨"java/lang/Throwable", "fillInStackTrace", "()Ljava/lang/Throwable;"⟩ : Cond) ∈ WA := tb_1 (List.mem_of_getElem? (i := 189) rfl) rfl
theorem wd_190 : (.lays "java/lang/IllegalArgumentException" "java/lang/Throwable" "cause" "Ljava/lang/Throwable;" : Cond) ∈ WA := tb_1 (List.mem_of_getElem? (i := 190) rfl) rfl
theorem wd_191 : (.lays "java/lang/Throwable" "java/lang/Throwable" "cause" "Ljava/lang/Throwable;" : Cond) ∈ WA := tb_1 (List.mem_of_getElem? (i := 191) rfl) rfl
theorem wd_192 : (.lays "java/lang/IllegalArgumentException" "java/lang/Throwable" "stackTrace" "[Ljava/lang/StackTraceElement;" : Cond) ∈ WA := tb_1 (List.mem_of_getElem? (i := 192) rfl) rfl
theorem wd_193 : (.lays "java/lang/Throwable" "java/lang/Throwable" "stackTrace" "[Ljava/lang/StackTraceElement;" : Cond) ∈ WA := tb_1 (List.mem_of_getElem? (i := 193) rfl) rfl
theorem wd_194 : (.lays "java/lang/IllegalArgumentException" "java/lang/Throwable" "suppressedExceptions" "Ljava/util/List;" : Cond) ∈ WA := tb_1 (List.mem_of_getElem? (i := 194) rfl) rfl
theorem wd_195 : (.lays "java/lang/Throwable" "java/lang/Throwable" "suppressedExceptions" "Ljava/util/List;" : Cond) ∈ WA := tb_1 (List.mem_of_getElem? (i := 195) rfl) rfl
theorem wd_196 : (.lays "java/lang/IllegalArgumentException" "java/lang/Throwable" "detailMessage" "Ljava/lang/String;" : Cond) ∈ WA := tb_1 (List.mem_of_getElem? (i := 196) rfl) rfl
theorem wd_197 : (.lays "java/lang/Throwable" "java/lang/Throwable" "detailMessage" "Ljava/lang/String;" : Cond) ∈ WA := tb_1 (List.mem_of_getElem? (i := 197) rfl) rfl
theorem wd_198 : (.lays "java/lang/IllegalArgumentException" "java/lang/Throwable" "backtrace" "Ljava/lang/Object;" : Cond) ∈ WA := tb_1 (List.mem_of_getElem? (i := 198) rfl) rfl
theorem wd_199 : (.lays "java/lang/Throwable" "java/lang/Throwable" "backtrace" "Ljava/lang/Object;" : Cond) ∈ WA := tb_1 (List.mem_of_getElem? (i := 199) rfl) rfl
theorem wd_200 : (.fieldLink "java/lang/Throwable" 198 "java/lang/Throwable" "backtrace" "Ljava/lang/Object;" : Cond) ∈ WA := tb_1 (List.mem_of_getElem? (i := 200) rfl) rfl
theorem wd_201 : (.superclass "java/lang/Throwable" "java/lang/Object" : Cond) ∈ WA := tb_1 (List.mem_of_getElem? (i := 201) rfl) rfl
theorem wd_202 : (.instanceMethod ⟨"java/lang/Throwable", "<init>", "()V"⟩ : Cond) ∈ WA := tb_1 (List.mem_of_getElem? (i := 202) rfl) rfl
theorem wd_204 : (.methodLink "java/lang/Throwable" 1 objectInit : Cond) ∈ WA := tb_1 (List.mem_of_getElem? (i := 204) rfl) rfl
theorem wd_205 : (.fieldLink "java/lang/Throwable" 13 "java/lang/Throwable" "UNASSIGNED_STACK" "[Ljava/lang/StackTraceElement;" : Cond) ∈ WA := tb_1 (List.mem_of_getElem? (i := 205) rfl) rfl
theorem wd_207 : (.fieldLink "java/lang/Throwable" 20 "java/lang/Throwable" "SUPPRESSED_SENTINEL" "Ljava/util/List;" : Cond) ∈ WA := tb_1 (List.mem_of_getElem? (i := 207) rfl) rfl
theorem wd_209 : (.methodLink "java/lang/Throwable" 27 ⟨"java/lang/Throwable", "fillInStackTrace", "()Ljava/lang/Throwable;"⟩ : Cond) ∈ WA := tb_1 (List.mem_of_getElem? (i := 209) rfl) rfl
theorem wd_210 : (.instanceMethod ⟨"java/lang/Throwable", "fillInStackTrace", "()Ljava/lang/Throwable;"⟩ : Cond) ∈ WA := tb_1 (List.mem_of_getElem? (i := 210) rfl) rfl
theorem wd_211 : (.sameMethod "java/lang/Throwable" "java/lang/Throwable" "fillInStackTrace" "()Ljava/lang/Throwable;" : Cond) ∈ WA := tb_1 (List.mem_of_getElem? (i := 211) rfl) rfl
theorem wd_212 : (.selects "java/lang/IllegalStateException" ⟨"java/lang/Throwable", "fillInStackTrace", "()Ljava/lang/Throwable;"⟩ ⟨"java/lang/Throwable", "fillInStackTrace", "()Ljava/lang/Throwable;"⟩ : Cond) ∈ WA := tb_1 (List.mem_of_getElem? (i := 212) rfl) rfl
theorem wd_213 : (.selects "java/lang/IndexOutOfBoundsException" ⟨"java/lang/Throwable", "fillInStackTrace", "()Ljava/lang/Throwable;"⟩ ⟨"java/lang/Throwable", "fillInStackTrace", "()Ljava/lang/Throwable;"⟩ : Cond) ∈ WA := tb_1 (List.mem_of_getElem? (i := 213) rfl) rfl
theorem wd_215 : (.methodLink "java/lang/Throwable" 202 ⟨"java/lang/Throwable", "fillInStackTrace", "(I)Ljava/lang/Throwable;"⟩ : Cond) ∈ WA := tb_1 (List.mem_of_getElem? (i := 215) rfl) rfl
theorem wd_217 : (.instanceMethod ⟨"java/lang/Throwable", "fillInStackTrace", "(I)Ljava/lang/Throwable;"⟩ : Cond) ∈ WA := tb_1 (List.mem_of_getElem? (i := 217) rfl) rfl
theorem wd_218 : (.instantiable "java/lang/Throwable" 6 : Cond) ∈ WA := tb_1 (List.mem_of_getElem? (i := 218) rfl) rfl
theorem wd_221 : (.methodLink RX3 41 ⟨"java/lang/IllegalArgumentException", "<init>", "(Ljava/lang/String;)V"⟩ : Cond) ∈ WA := tb_1 (List.mem_of_getElem? (i := 221) rfl) rfl
theorem wd_222 : (.instanceMethod ⟨"java/lang/IllegalArgumentException", "<init>", "(Ljava/lang/String;)V"⟩ : Cond) ∈ WA := tb_1 (List.mem_of_getElem? (i := 222) rfl) rfl
theorem wd_224 : (.methodLink "java/lang/IllegalArgumentException" 7 ⟨"java/lang/RuntimeException", "<init>", "(Ljava/lang/String;)V"⟩ : Cond) ∈ WA := tb_1 (List.mem_of_getElem? (i := 224) rfl) rfl
theorem wd_225 : (.instanceMethod ⟨"java/lang/RuntimeException", "<init>", "(Ljava/lang/String;)V"⟩ : Cond) ∈ WA := tb_1 (List.mem_of_getElem? (i := 225) rfl) rfl
theorem wd_227 : (.methodLink "java/lang/RuntimeException" 7 ⟨"java/lang/Exception", "<init>", "(Ljava/lang/String;)V"⟩ : Cond) ∈ WA := tb_1 (List.mem_of_getElem? (i := 227) rfl) rfl
theorem wd_228 : (.instanceMethod ⟨"java/lang/Exception", "<init>", "(Ljava/lang/String;)V"⟩ : Cond) ∈ WA := tb_1 (List.mem_of_getElem? (i := 228) rfl) rfl
theorem wd_230 : (.methodLink "java/lang/Exception" 7 ⟨"java/lang/Throwable", "<init>", "(Ljava/lang/String;)V"⟩ : Cond) ∈ WA := tb_1 (List.mem_of_getElem? (i := 230) rfl) rfl
theorem wd_231 : (.instanceMethod ⟨"java/lang/Throwable", "<init>", "(Ljava/lang/String;)V"⟩ : Cond) ∈ WA := tb_1 (List.mem_of_getElem? (i := 231) rfl) rfl
theorem wd_234 : (.fieldLink "java/lang/Throwable" 31 "java/lang/Throwable" "detailMessage" "Ljava/lang/String;" : Cond) ∈ WA := tb_1 (List.mem_of_getElem? (i := 234) rfl) rfl
theorem wd_235 : (.fieldLink "java/lang/Throwable" 7 "java/lang/Throwable" "cause" "Ljava/lang/Throwable;" : Cond) ∈ WA := tb_1 (List.mem_of_getElem? (i := 235) rfl) rfl
theorem wd_236 : (.fieldLink "java/lang/Throwable" 17 "java/lang/Throwable" "stackTrace" "[Ljava/lang/StackTraceElement;" : Cond) ∈ WA := tb_1 (List.mem_of_getElem? (i := 236) rfl) rfl
theorem wd_237 : (.fieldLink "java/lang/Throwable" 24 "java/lang/Throwable" "suppressedExceptions" "Ljava/util/List;" : Cond) ∈ WA := tb_1 (List.mem_of_getElem? (i := 237) rfl) rfl
theorem wd_242 : (.lays "java/lang/IllegalArgumentException" "java/lang/Throwable" "depth" "I" : Cond) ∈ WA := tb_2 (List.mem_of_getElem? (i := 2) rfl) rfl
theorem wd_245 : (.superclass "java/lang/IllegalArgumentException" "java/lang/RuntimeException" : Cond) ∈ WA := tb_2 (List.mem_of_getElem? (i := 5) rfl) rfl
theorem wd_246 : (.arrayClass .byte : Cond) ∈ WA := tb_2 (List.mem_of_getElem? (i := 6) rfl) rfl
theorem wd_247 : (.classLink RX3 48 "java/lang/IllegalStateException" : Cond) ∈ WA := tb_2 (List.mem_of_getElem? (i := 7) rfl) rfl
theorem wd_248 : (.instantiable "java/lang/IllegalStateException" 6 : Cond) ∈ WA := tb_2 (List.mem_of_getElem? (i := 8) rfl) rfl
theorem wd_250 : (.selects "java/lang/IllegalStateException" ⟨"java/lang/Throwable", "fillInStackTrace", "(I)Ljava/lang/Throwable;"⟩ ⟨"java/lang/Throwable", "fillInStackTrace", "(I)Ljava/lang/Throwable;"⟩ : Cond) ∈ WA := tb_2 (List.mem_of_getElem? (i := 10) rfl) rfl
theorem wd_251 : (.lays "java/lang/IllegalStateException" "java/lang/Throwable" "cause" "Ljava/lang/Throwable;" : Cond) ∈ WA := tb_2 (List.mem_of_getElem? (i := 11) rfl) rfl
theorem wd_252 : (.lays "java/lang/IllegalStateException" "java/lang/Throwable" "stackTrace" "[Ljava/lang/StackTraceElement;" : Cond) ∈ WA := tb_2 (List.mem_of_getElem? (i := 12) rfl) rfl
theorem wd_253 : (.lays "java/lang/IllegalStateException" "java/lang/Throwable" "suppressedExceptions" "Ljava/util/List;" : Cond) ∈ WA := tb_2 (List.mem_of_getElem? (i := 13) rfl) rfl
theorem wd_254 : (.lays "java/lang/IllegalStateException" "java/lang/Throwable" "detailMessage" "Ljava/lang/String;" : Cond) ∈ WA := tb_2 (List.mem_of_getElem? (i := 14) rfl) rfl
theorem wd_255 : (.lays "java/lang/IllegalStateException" "java/lang/Throwable" "backtrace" "Ljava/lang/Object;" : Cond) ∈ WA := tb_2 (List.mem_of_getElem? (i := 15) rfl) rfl
theorem wd_257 : (.methodLink RX3 52 ⟨"java/lang/IllegalStateException", "<init>", "(Ljava/lang/String;)V"⟩ : Cond) ∈ WA := tb_2 (List.mem_of_getElem? (i := 17) rfl) rfl
theorem wd_258 : (.instanceMethod ⟨"java/lang/IllegalStateException", "<init>", "(Ljava/lang/String;)V"⟩ : Cond) ∈ WA := tb_2 (List.mem_of_getElem? (i := 18) rfl) rfl
theorem wd_260 : (.methodLink "java/lang/IllegalStateException" 7 ⟨"java/lang/RuntimeException", "<init>", "(Ljava/lang/String;)V"⟩ : Cond) ∈ WA := tb_2 (List.mem_of_getElem? (i := 20) rfl) rfl
theorem wd_261 : (.lays "java/lang/IllegalStateException" "java/lang/Throwable" "depth" "I" : Cond) ∈ WA := tb_2 (List.mem_of_getElem? (i := 21) rfl) rfl
theorem wd_262 : (.superclass "java/lang/IllegalStateException" "java/lang/RuntimeException" : Cond) ∈ WA := tb_2 (List.mem_of_getElem? (i := 22) rfl) rfl
theorem wd_263 : (.methodLink RX3 53 yX2_letCome : Cond) ∈ WA := tb_2 (List.mem_of_getElem? (i := 23) rfl) rfl
theorem wd_264 : (.instanceMethod yX2_letCome : Cond) ∈ WA := tb_2 (List.mem_of_getElem? (i := 24) rfl) rfl
theorem wd_265 : (.selects RX2 yX2_letCome yX2_letCome : Cond) ∈ WA := tb_2 (List.mem_of_getElem? (i := 25) rfl) rfl
theorem wd_266 : (.code yX2_letCome cX2_letCome 5 (some .int) : Cond) ∈ WA := tb_2 (List.mem_of_getElem? (i := 26) rfl) rfl
theorem wd_267 : (.methodLink RX2 46 yX2_putInOrder : Cond) ∈ WA := tb_2 (List.mem_of_getElem? (i := 27) rfl) rfl
theorem wd_269 : (.instanceMethod yX2_putInOrder : Cond) ∈ WA := tb_2 (List.mem_of_getElem? (i := 29) rfl) rfl
theorem wd_270 : (.code yX2_putInOrder cX2_putInOrder 4 none : Cond) ∈ WA := tb_2 (List.mem_of_getElem? (i := 30) rfl) rfl
theorem wd_271 : (.methodLink RX2 53 yJ9_min_7cf53 : Cond) ∈ WA := tb_2 (List.mem_of_getElem? (i := 31) rfl) rfl
theorem wd_272 : (.static yJ9_min_7cf53 : Cond) ∈ WA := tb_2 (List.mem_of_getElem? (i := 32) rfl) rfl
theorem wd_273 : (.code yJ9_min_7cf53 cJ9_min_7cf53 2 (some .int) : Cond) ∈ WA := tb_2 (List.mem_of_getElem? (i := 33) rfl) rfl
theorem wd_274 : (.methodLink RX2 59 yX2_timeOf : Cond) ∈ WA := tb_2 (List.mem_of_getElem? (i := 34) rfl) rfl
theorem wd_276 : (.instanceMethod yX2_timeOf : Cond) ∈ WA := tb_2 (List.mem_of_getElem? (i := 36) rfl) rfl
theorem wd_277 : (.code yX2_timeOf cX2_timeOf 2 (some .int) : Cond) ∈ WA := tb_2 (List.mem_of_getElem? (i := 37) rfl) rfl
theorem wd_279 : (.methodLink RX2 50 yX2_change : Cond) ∈ WA := tb_2 (List.mem_of_getElem? (i := 39) rfl) rfl
theorem wd_280 : (.instanceMethod yX2_change : Cond) ∈ WA := tb_2 (List.mem_of_getElem? (i := 40) rfl) rfl
theorem wd_281 : (.selects RX2 yX2_change yX2_change : Cond) ∈ WA := tb_2 (List.mem_of_getElem? (i := 41) rfl) rfl
theorem wd_282 : (.code yX2_change cX2_change 4 (some .boolean) : Cond) ∈ WA := tb_2 (List.mem_of_getElem? (i := 42) rfl) rfl
theorem wd_283 : (.methodLink RX2 69 yX0_keep : Cond) ∈ WA := tb_2 (List.mem_of_getElem? (i := 43) rfl) rfl
theorem wd_284 : (.instanceMethod yX0_keep : Cond) ∈ WA := tb_2 (List.mem_of_getElem? (i := 44) rfl) rfl
theorem wd_285 : (.selects RX0 yX0_keep yX0_keep : Cond) ∈ WA := tb_2 (List.mem_of_getElem? (i := 45) rfl) rfl
theorem wd_286 : (.code yX0_keep cX0_keep 6 none : Cond) ∈ WA := tb_2 (List.mem_of_getElem? (i := 46) rfl) rfl
theorem wd_287 : (.methodLink RX0 34 yX0_slotOf : Cond) ∈ WA := tb_2 (List.mem_of_getElem? (i := 47) rfl) rfl
theorem wd_288 : (.static yX0_slotOf : Cond) ∈ WA := tb_2 (List.mem_of_getElem? (i := 48) rfl) rfl
theorem wd_289 : (.code yX0_slotOf cX0_slotOf 1 (some .int) : Cond) ∈ WA := tb_2 (List.mem_of_getElem? (i := 49) rfl) rfl
theorem wd_290 : (.methodLink RX0 24 yJ9_floorMod_7cf53 : Cond) ∈ WA := tb_2 (List.mem_of_getElem? (i := 50) rfl) rfl
theorem wd_291 : (.static yJ9_floorMod_7cf53 : Cond) ∈ WA := tb_2 (List.mem_of_getElem? (i := 51) rfl) rfl
theorem wd_292 : (.code yJ9_floorMod_7cf53 cJ9_floorMod_7cf53 3 (some .int) : Cond) ∈ WA := tb_2 (List.mem_of_getElem? (i := 52) rfl) rfl
theorem wd_293 : (.methodLink RL 110 yL_move : Cond) ∈ WA := tb_2 (List.mem_of_getElem? (i := 53) rfl) rfl
theorem wd_294 : (.static yL_move : Cond) ∈ WA := tb_2 (List.mem_of_getElem? (i := 54) rfl) rfl
theorem wd_295 : (.codeWith yL_move cL_move 5 (some .int) [(0, 10, 13, 21), (0, 10, 17, 13)] : Cond) ∈ WA := tb_2 (List.mem_of_getElem? (i := 55) rfl) rfl
theorem wd_296 : (.classLink RL 21 "java/lang/IndexOutOfBoundsException" : Cond) ∈ WA := tb_2 (List.mem_of_getElem? (i := 56) rfl) rfl
theorem wd_297 : (.methodLink RL 17 yX3_move : Cond) ∈ WA := tb_2 (List.mem_of_getElem? (i := 57) rfl) rfl
theorem wd_298 : (.instanceMethod yX3_move : Cond) ∈ WA := tb_2 (List.mem_of_getElem? (i := 58) rfl) rfl
theorem wd_299 : (.selects RX3 yX3_move yX3_move : Cond) ∈ WA := tb_2 (List.mem_of_getElem? (i := 59) rfl) rfl
theorem wd_300 : (.code yX3_move cX3_move 4 (some .int) : Cond) ∈ WA := tb_2 (List.mem_of_getElem? (i := 60) rfl) rfl
theorem wd_301 : (.methodLink RX3 57 yX2_isThere : Cond) ∈ WA := tb_2 (List.mem_of_getElem? (i := 61) rfl) rfl
theorem wd_302 : (.instanceMethod yX2_isThere : Cond) ∈ WA := tb_2 (List.mem_of_getElem? (i := 62) rfl) rfl
theorem wd_303 : (.selects RX2 yX2_isThere yX2_isThere : Cond) ∈ WA := tb_2 (List.mem_of_getElem? (i := 63) rfl) rfl
theorem wd_304 : (.code yX2_isThere cX2_isThere 2 (some .boolean) : Cond) ∈ WA := tb_2 (List.mem_of_getElem? (i := 64) rfl) rfl
theorem wd_305 : (.methodLink RX2 38 yX2_boxesOf : Cond) ∈ WA := tb_2 (List.mem_of_getElem? (i := 65) rfl) rfl
theorem wd_306 : (.instanceMethod yX2_boxesOf : Cond) ∈ WA := tb_2 (List.mem_of_getElem? (i := 66) rfl) rfl
theorem wd_307 : (.selects RX2 yX2_boxesOf yX2_boxesOf : Cond) ∈ WA := tb_2 (List.mem_of_getElem? (i := 67) rfl) rfl
theorem wd_308 : (.code yX2_boxesOf cX2_boxesOf 2 (some .int) : Cond) ∈ WA := tb_2 (List.mem_of_getElem? (i := 68) rfl) rfl
theorem wd_309 : (.methodLink RX3 60 yX3_requireMail : Cond) ∈ WA := tb_2 (List.mem_of_getElem? (i := 69) rfl) rfl
theorem wd_310 : (.static yX3_requireMail : Cond) ∈ WA := tb_2 (List.mem_of_getElem? (i := 70) rfl) rfl
theorem wd_311 : (.code yX3_requireMail cX3_requireMail 1 none : Cond) ∈ WA := tb_2 (List.mem_of_getElem? (i := 71) rfl) rfl
theorem wd_312 : (.classLink RX3 220 "java/lang/IndexOutOfBoundsException" : Cond) ∈ WA := tb_2 (List.mem_of_getElem? (i := 72) rfl) rfl
theorem wd_313 : (.instantiable "java/lang/IndexOutOfBoundsException" 6 : Cond) ∈ WA := tb_2 (List.mem_of_getElem? (i := 73) rfl) rfl
theorem wd_315 : (.selects "java/lang/IndexOutOfBoundsException" ⟨"java/lang/Throwable", "fillInStackTrace", "(I)Ljava/lang/Throwable;"⟩ ⟨"java/lang/Throwable", "fillInStackTrace", "(I)Ljava/lang/Throwable;"⟩ : Cond) ∈ WA := tb_2 (List.mem_of_getElem? (i := 75) rfl) rfl
theorem wd_316 : (.lays "java/lang/IndexOutOfBoundsException" "java/lang/Throwable" "cause" "Ljava/lang/Throwable;" : Cond) ∈ WA := tb_2 (List.mem_of_getElem? (i := 76) rfl) rfl
theorem wd_317 : (.lays "java/lang/IndexOutOfBoundsException" "java/lang/Throwable" "stackTrace" "[Ljava/lang/StackTraceElement;" : Cond) ∈ WA := tb_2 (List.mem_of_getElem? (i := 77) rfl) rfl
theorem wd_318 : (.lays "java/lang/IndexOutOfBoundsException" "java/lang/Throwable" "suppressedExceptions" "Ljava/util/List;" : Cond) ∈ WA := tb_2 (List.mem_of_getElem? (i := 78) rfl) rfl
theorem wd_319 : (.lays "java/lang/IndexOutOfBoundsException" "java/lang/Throwable" "detailMessage" "Ljava/lang/String;" : Cond) ∈ WA := tb_2 (List.mem_of_getElem? (i := 79) rfl) rfl
theorem wd_320 : (.lays "java/lang/IndexOutOfBoundsException" "java/lang/Throwable" "backtrace" "Ljava/lang/Object;" : Cond) ∈ WA := tb_2 (List.mem_of_getElem? (i := 80) rfl) rfl
theorem wd_322 : (.methodLink RX3 224 ⟨"java/lang/IndexOutOfBoundsException", "<init>", "(Ljava/lang/String;)V"⟩ : Cond) ∈ WA := tb_2 (List.mem_of_getElem? (i := 82) rfl) rfl
theorem wd_323 : (.instanceMethod ⟨"java/lang/IndexOutOfBoundsException", "<init>", "(Ljava/lang/String;)V"⟩ : Cond) ∈ WA := tb_2 (List.mem_of_getElem? (i := 83) rfl) rfl
theorem wd_325 : (.methodLink "java/lang/IndexOutOfBoundsException" 7 ⟨"java/lang/RuntimeException", "<init>", "(Ljava/lang/String;)V"⟩ : Cond) ∈ WA := tb_2 (List.mem_of_getElem? (i := 85) rfl) rfl
theorem wd_326 : (.lays "java/lang/IndexOutOfBoundsException" "java/lang/Throwable" "depth" "I" : Cond) ∈ WA := tb_2 (List.mem_of_getElem? (i := 86) rfl) rfl
theorem wd_327 : (.superclass "java/lang/IndexOutOfBoundsException" "java/lang/RuntimeException" : Cond) ∈ WA := tb_2 (List.mem_of_getElem? (i := 87) rfl) rfl
theorem wd_329 : (.methodLink RX3 66 yX2_boxesOf : Cond) ∈ WA := tb_2 (List.mem_of_getElem? (i := 89) rfl) rfl
theorem wd_330 : (.methodLink RX3 70 yX2_keywordsOf : Cond) ∈ WA := tb_2 (List.mem_of_getElem? (i := 90) rfl) rfl
theorem wd_331 : (.instanceMethod yX2_keywordsOf : Cond) ∈ WA := tb_2 (List.mem_of_getElem? (i := 91) rfl) rfl
theorem wd_332 : (.selects RX2 yX2_keywordsOf yX2_keywordsOf : Cond) ∈ WA := tb_2 (List.mem_of_getElem? (i := 92) rfl) rfl
theorem wd_333 : (.code yX2_keywordsOf cX2_keywordsOf 2 (some .int) : Cond) ∈ WA := tb_2 (List.mem_of_getElem? (i := 93) rfl) rfl
theorem wd_334 : (.methodLink RX3 73 yX2_change : Cond) ∈ WA := tb_2 (List.mem_of_getElem? (i := 94) rfl) rfl
theorem wd_335 : (.methodLink RL 114 yL_flag : Cond) ∈ WA := tb_2 (List.mem_of_getElem? (i := 95) rfl) rfl
theorem wd_336 : (.static yL_flag : Cond) ∈ WA := tb_2 (List.mem_of_getElem? (i := 96) rfl) rfl
theorem wd_337 : (.codeWith yL_flag cL_flag 6 (some .int) [(0, 19, 22, 21), (0, 19, 26, 13)] : Cond) ∈ WA := tb_2 (List.mem_of_getElem? (i := 97) rfl) rfl
theorem wd_338 : (.methodLink RL 23 yX3_flag : Cond) ∈ WA := tb_2 (List.mem_of_getElem? (i := 98) rfl) rfl
theorem wd_339 : (.instanceMethod yX3_flag : Cond) ∈ WA := tb_2 (List.mem_of_getElem? (i := 99) rfl) rfl
theorem wd_340 : (.selects RX3 yX3_flag yX3_flag : Cond) ∈ WA := tb_2 (List.mem_of_getElem? (i := 100) rfl) rfl
theorem wd_341 : (.code yX3_flag cX3_flag 4 (some .boolean) : Cond) ∈ WA := tb_2 (List.mem_of_getElem? (i := 101) rfl) rfl
theorem wd_342 : (.methodLink RX3 76 yX3_isKeyword : Cond) ∈ WA := tb_2 (List.mem_of_getElem? (i := 102) rfl) rfl
theorem wd_343 : (.static yX3_isKeyword : Cond) ∈ WA := tb_2 (List.mem_of_getElem? (i := 103) rfl) rfl
theorem wd_344 : (.code yX3_isKeyword cX3_isKeyword 1 (some .boolean) : Cond) ∈ WA := tb_2 (List.mem_of_getElem? (i := 104) rfl) rfl
theorem wd_346 : (.methodLink RX3 81 yX2_setKeyword : Cond) ∈ WA := tb_2 (List.mem_of_getElem? (i := 106) rfl) rfl
theorem wd_347 : (.instanceMethod yX2_setKeyword : Cond) ∈ WA := tb_2 (List.mem_of_getElem? (i := 107) rfl) rfl
theorem wd_348 : (.selects RX2 yX2_setKeyword yX2_setKeyword : Cond) ∈ WA := tb_2 (List.mem_of_getElem? (i := 108) rfl) rfl
theorem wd_349 : (.code yX2_setKeyword cX2_setKeyword 4 (some .boolean) : Cond) ∈ WA := tb_2 (List.mem_of_getElem? (i := 109) rfl) rfl
theorem wd_350 : (.methodLink RX2 62 yX2_keywordsOf : Cond) ∈ WA := tb_2 (List.mem_of_getElem? (i := 110) rfl) rfl
theorem wd_351 : (.methodLink RL 118 yL_flagIf : Cond) ∈ WA := tb_2 (List.mem_of_getElem? (i := 111) rfl) rfl
theorem wd_352 : (.static yL_flagIf : Cond) ∈ WA := tb_2 (List.mem_of_getElem? (i := 112) rfl) rfl
theorem wd_353 : (.codeWith yL_flagIf cL_flagIf 7 (some .int) [(0, 21, 24, 21), (0, 21, 28, 13), (0, 21, 32, 15)] : Cond) ∈ WA := tb_2 (List.mem_of_getElem? (i := 113) rfl) rfl
theorem wd_354 : (.methodLink RL 27 yX3_flagIf : Cond) ∈ WA := tb_2 (List.mem_of_getElem? (i := 114) rfl) rfl
theorem wd_355 : (.instanceMethod yX3_flagIf : Cond) ∈ WA := tb_2 (List.mem_of_getElem? (i := 115) rfl) rfl
theorem wd_356 : (.selects RX3 yX3_flagIf yX3_flagIf : Cond) ∈ WA := tb_2 (List.mem_of_getElem? (i := 116) rfl) rfl
theorem wd_357 : (.code yX3_flagIf cX3_flagIf 5 (some .boolean) : Cond) ∈ WA := tb_2 (List.mem_of_getElem? (i := 117) rfl) rfl
theorem wd_359 : (.methodLink RL 122 yL_destroy : Cond) ∈ WA := tb_2 (List.mem_of_getElem? (i := 119) rfl) rfl
theorem wd_360 : (.static yL_destroy : Cond) ∈ WA := tb_2 (List.mem_of_getElem? (i := 120) rfl) rfl
theorem wd_361 : (.codeWith yL_destroy cL_destroy 4 (some .int) [(0, 9, 12, 21)] : Cond) ∈ WA := tb_2 (List.mem_of_getElem? (i := 121) rfl) rfl
theorem wd_362 : (.methodLink RL 31 yX3_destroy : Cond) ∈ WA := tb_2 (List.mem_of_getElem? (i := 122) rfl) rfl
theorem wd_363 : (.instanceMethod yX3_destroy : Cond) ∈ WA := tb_2 (List.mem_of_getElem? (i := 123) rfl) rfl
theorem wd_364 : (.selects RX3 yX3_destroy yX3_destroy : Cond) ∈ WA := tb_2 (List.mem_of_getElem? (i := 124) rfl) rfl
theorem wd_365 : (.code yX3_destroy cX3_destroy 2 (some .int) : Cond) ∈ WA := tb_2 (List.mem_of_getElem? (i := 125) rfl) rfl
theorem wd_366 : (.methodLink RL 134 yL_keywords : Cond) ∈ WA := tb_2 (List.mem_of_getElem? (i := 126) rfl) rfl
theorem wd_367 : (.static yL_keywords : Cond) ∈ WA := tb_2 (List.mem_of_getElem? (i := 127) rfl) rfl
theorem wd_368 : (.codeWith yL_keywords cL_keywords 4 (some .int) [(0, 9, 12, 21)] : Cond) ∈ WA := tb_2 (List.mem_of_getElem? (i := 128) rfl) rfl
theorem wd_369 : (.methodLink RL 35 yX3_keywords : Cond) ∈ WA := tb_2 (List.mem_of_getElem? (i := 129) rfl) rfl
theorem wd_370 : (.instanceMethod yX3_keywords : Cond) ∈ WA := tb_2 (List.mem_of_getElem? (i := 130) rfl) rfl
theorem wd_371 : (.selects RX3 yX3_keywords yX3_keywords : Cond) ∈ WA := tb_2 (List.mem_of_getElem? (i := 131) rfl) rfl
theorem wd_372 : (.code yX3_keywords cX3_keywords 2 (some .int) : Cond) ∈ WA := tb_2 (List.mem_of_getElem? (i := 132) rfl) rfl
theorem wd_373 : (.methodLink RL 137 yL_inThread : Cond) ∈ WA := tb_2 (List.mem_of_getElem? (i := 133) rfl) rfl
theorem wd_374 : (.static yL_inThread : Cond) ∈ WA := tb_2 (List.mem_of_getElem? (i := 134) rfl) rfl
theorem wd_375 : (.codeWith yL_inThread cL_inThread 4 (some .int) [(0, 9, 12, 13)] : Cond) ∈ WA := tb_2 (List.mem_of_getElem? (i := 135) rfl) rfl
theorem wd_376 : (.methodLink RL 38 yX3_inThread : Cond) ∈ WA := tb_2 (List.mem_of_getElem? (i := 136) rfl) rfl
theorem wd_377 : (.instanceMethod yX3_inThread : Cond) ∈ WA := tb_2 (List.mem_of_getElem? (i := 137) rfl) rfl
theorem wd_378 : (.selects RX3 yX3_inThread yX3_inThread : Cond) ∈ WA := tb_2 (List.mem_of_getElem? (i := 138) rfl) rfl
theorem wd_379 : (.code yX3_inThread cX3_inThread 2 (some .int) : Cond) ∈ WA := tb_2 (List.mem_of_getElem? (i := 139) rfl) rfl
theorem wd_381 : (.methodLink RX3 108 yX2_countThread : Cond) ∈ WA := tb_2 (List.mem_of_getElem? (i := 141) rfl) rfl
theorem wd_382 : (.instanceMethod yX2_countThread : Cond) ∈ WA := tb_2 (List.mem_of_getElem? (i := 142) rfl) rfl
theorem wd_383 : (.selects RX2 yX2_countThread yX2_countThread : Cond) ∈ WA := tb_2 (List.mem_of_getElem? (i := 143) rfl) rfl
theorem wd_384 : (.code yX2_countThread cX2_countThread 4 (some .int) : Cond) ∈ WA := tb_2 (List.mem_of_getElem? (i := 144) rfl) rfl
theorem wd_385 : (.methodLink RX2 73 yX2_isThere : Cond) ∈ WA := tb_2 (List.mem_of_getElem? (i := 145) rfl) rfl
theorem wd_386 : (.methodLink RL 140 yL_share : Cond) ∈ WA := tb_2 (List.mem_of_getElem? (i := 146) rfl) rfl
theorem wd_387 : (.static yL_share : Cond) ∈ WA := tb_2 (List.mem_of_getElem? (i := 147) rfl) rfl
theorem wd_388 : (.codeWith yL_share cL_share 5 (some .int) [(0, 10, 13, 13)] : Cond) ∈ WA := tb_2 (List.mem_of_getElem? (i := 148) rfl) rfl
theorem wd_389 : (.methodLink RL 41 yX3_share : Cond) ∈ WA := tb_2 (List.mem_of_getElem? (i := 149) rfl) rfl
theorem wd_390 : (.instanceMethod yX3_share : Cond) ∈ WA := tb_2 (List.mem_of_getElem? (i := 150) rfl) rfl
theorem wd_391 : (.selects RX3 yX3_share yX3_share : Cond) ∈ WA := tb_2 (List.mem_of_getElem? (i := 151) rfl) rfl
theorem wd_392 : (.code yX3_share cX3_share 5 (some .float) : Cond) ∈ WA := tb_2 (List.mem_of_getElem? (i := 152) rfl) rfl
theorem wd_393 : (.methodLink RX3 111 yX3_isBox : Cond) ∈ WA := tb_2 (List.mem_of_getElem? (i := 153) rfl) rfl
theorem wd_394 : (.static yX3_isBox : Cond) ∈ WA := tb_2 (List.mem_of_getElem? (i := 154) rfl) rfl
theorem wd_395 : (.code yX3_isBox cX3_isBox 1 (some .boolean) : Cond) ∈ WA := tb_2 (List.mem_of_getElem? (i := 155) rfl) rfl
theorem wd_397 : (.methodLink RL 144 yL_canTell : Cond) ∈ WA := tb_2 (List.mem_of_getElem? (i := 157) rfl) rfl
theorem wd_398 : (.static yL_canTell : Cond) ∈ WA := tb_2 (List.mem_of_getElem? (i := 158) rfl) rfl
theorem wd_399 : (.codeWith yL_canTell cL_canTell 4 (some .int) [(0, 16, 19, 13)] : Cond) ∈ WA := tb_2 (List.mem_of_getElem? (i := 159) rfl) rfl
theorem wd_400 : (.methodLink RL 45 yX3_canTell : Cond) ∈ WA := tb_2 (List.mem_of_getElem? (i := 160) rfl) rfl
theorem wd_401 : (.instanceMethod yX3_canTell : Cond) ∈ WA := tb_2 (List.mem_of_getElem? (i := 161) rfl) rfl
theorem wd_402 : (.selects RX3 yX3_canTell yX3_canTell : Cond) ∈ WA := tb_2 (List.mem_of_getElem? (i := 162) rfl) rfl
theorem wd_403 : (.code yX3_canTell cX3_canTell 2 (some .boolean) : Cond) ∈ WA := tb_2 (List.mem_of_getElem? (i := 163) rfl) rfl
theorem wd_404 : (.methodLink RX3 116 yX3_isState : Cond) ∈ WA := tb_2 (List.mem_of_getElem? (i := 164) rfl) rfl
theorem wd_406 : (.instanceMethod yX3_isState : Cond) ∈ WA := tb_2 (List.mem_of_getElem? (i := 166) rfl) rfl
theorem wd_407 : (.code yX3_isState cX3_isState 2 (some .boolean) : Cond) ∈ WA := tb_2 (List.mem_of_getElem? (i := 167) rfl) rfl
theorem wd_409 : (.methodLink RX3 121 yX0_reachBackTo : Cond) ∈ WA := tb_2 (List.mem_of_getElem? (i := 169) rfl) rfl
theorem wd_410 : (.instanceMethod yX0_reachBackTo : Cond) ∈ WA := tb_2 (List.mem_of_getElem? (i := 170) rfl) rfl
theorem wd_411 : (.selects RX0 yX0_reachBackTo yX0_reachBackTo : Cond) ∈ WA := tb_2 (List.mem_of_getElem? (i := 171) rfl) rfl
theorem wd_412 : (.code yX0_reachBackTo cX0_reachBackTo 2 (some .boolean) : Cond) ∈ WA := tb_2 (List.mem_of_getElem? (i := 172) rfl) rfl
theorem wd_413 : (.methodLink RL 147 yL_changed : Cond) ∈ WA := tb_2 (List.mem_of_getElem? (i := 173) rfl) rfl
theorem wd_414 : (.static yL_changed : Cond) ∈ WA := tb_2 (List.mem_of_getElem? (i := 174) rfl) rfl
theorem wd_415 : (.codeWith yL_changed cL_changed 5 (some .int) [(0, 10, 13, 13), (0, 10, 17, 15)] : Cond) ∈ WA := tb_2 (List.mem_of_getElem? (i := 175) rfl) rfl
theorem wd_416 : (.methodLink RL 49 yX3_changed : Cond) ∈ WA := tb_2 (List.mem_of_getElem? (i := 176) rfl) rfl
theorem wd_417 : (.instanceMethod yX3_changed : Cond) ∈ WA := tb_2 (List.mem_of_getElem? (i := 177) rfl) rfl
theorem wd_418 : (.selects RX3 yX3_changed yX3_changed : Cond) ∈ WA := tb_2 (List.mem_of_getElem? (i := 178) rfl) rfl
theorem wd_419 : (.code yX3_changed cX3_changed 3 (some .int) : Cond) ∈ WA := tb_2 (List.mem_of_getElem? (i := 179) rfl) rfl
theorem wd_420 : (.methodLink RX3 124 yX3_isWay : Cond) ∈ WA := tb_2 (List.mem_of_getElem? (i := 180) rfl) rfl
theorem wd_421 : (.static yX3_isWay : Cond) ∈ WA := tb_2 (List.mem_of_getElem? (i := 181) rfl) rfl
theorem wd_422 : (.code yX3_isWay cX3_isWay 1 (some .boolean) : Cond) ∈ WA := tb_2 (List.mem_of_getElem? (i := 182) rfl) rfl
theorem wd_424 : (.methodLink RX3 129 yX3_requireTelling : Cond) ∈ WA := tb_2 (List.mem_of_getElem? (i := 184) rfl) rfl
theorem wd_426 : (.instanceMethod yX3_requireTelling : Cond) ∈ WA := tb_2 (List.mem_of_getElem? (i := 186) rfl) rfl
theorem wd_427 : (.code yX3_requireTelling cX3_requireTelling 2 none : Cond) ∈ WA := tb_2 (List.mem_of_getElem? (i := 187) rfl) rfl
theorem wd_429 : (.methodLink RX3 133 yX2_changedSince : Cond) ∈ WA := tb_2 (List.mem_of_getElem? (i := 189) rfl) rfl
theorem wd_430 : (.instanceMethod yX2_changedSince : Cond) ∈ WA := tb_2 (List.mem_of_getElem? (i := 190) rfl) rfl
theorem wd_431 : (.selects RX2 yX2_changedSince yX2_changedSince : Cond) ∈ WA := tb_2 (List.mem_of_getElem? (i := 191) rfl) rfl
theorem wd_432 : (.code yX2_changedSince cX2_changedSince 7 (some .long) : Cond) ∈ WA := tb_2 (List.mem_of_getElem? (i := 192) rfl) rfl
theorem wd_433 : (.methodLink RX2 81 yX2_matching : Cond) ∈ WA := tb_2 (List.mem_of_getElem? (i := 193) rfl) rfl
theorem wd_434 : (.methodLink RX2 89 yX2_matchingAt : Cond) ∈ WA := tb_2 (List.mem_of_getElem? (i := 194) rfl) rfl
theorem wd_435 : (.instanceMethod yX2_matchingAt : Cond) ∈ WA := tb_2 (List.mem_of_getElem? (i := 195) rfl) rfl
theorem wd_436 : (.selects RX2 yX2_matchingAt yX2_matchingAt : Cond) ∈ WA := tb_2 (List.mem_of_getElem? (i := 196) rfl) rfl
theorem wd_437 : (.code yX2_matchingAt cX2_matchingAt 4 (some .long) : Cond) ∈ WA := tb_2 (List.mem_of_getElem? (i := 197) rfl) rfl
theorem wd_438 : (.methodLink RX2 85 yX0_undo : Cond) ∈ WA := tb_2 (List.mem_of_getElem? (i := 198) rfl) rfl
theorem wd_439 : (.instanceMethod yX0_undo : Cond) ∈ WA := tb_2 (List.mem_of_getElem? (i := 199) rfl) rfl
theorem wd_440 : (.selects RX0 yX0_undo yX0_undo : Cond) ∈ WA := tb_2 (List.mem_of_getElem? (i := 200) rfl) rfl
theorem wd_441 : (.code yX0_undo cX0_undo 12 (some .long) : Cond) ∈ WA := tb_2 (List.mem_of_getElem? (i := 201) rfl) rfl
theorem wd_442 : (.methodLink RX0 41 yX0_countBehind : Cond) ∈ WA := tb_2 (List.mem_of_getElem? (i := 202) rfl) rfl
theorem wd_444 : (.instanceMethod yX0_countBehind : Cond) ∈ WA := tb_2 (List.mem_of_getElem? (i := 204) rfl) rfl
theorem wd_445 : (.code yX0_countBehind cX0_countBehind 2 (some .int) : Cond) ∈ WA := tb_2 (List.mem_of_getElem? (i := 205) rfl) rfl
theorem wd_446 : (.methodLink RX0 38 yJ9_min_7cf53 : Cond) ∈ WA := tb_2 (List.mem_of_getElem? (i := 206) rfl) rfl
theorem wd_449 : (.constantLong RX2 93 (-1) : Cond) ∈ WA := tb_2 (List.mem_of_getElem? (i := 209) rfl) rfl
theorem wd_450 : (.methodLink RX2 95 yX0_touched : Cond) ∈ WA := tb_2 (List.mem_of_getElem? (i := 210) rfl) rfl
theorem wd_451 : (.instanceMethod yX0_touched : Cond) ∈ WA := tb_2 (List.mem_of_getElem? (i := 211) rfl) rfl
theorem wd_452 : (.selects RX0 yX0_touched yX0_touched : Cond) ∈ WA := tb_2 (List.mem_of_getElem? (i := 212) rfl) rfl
theorem wd_453 : (.code yX0_touched cX0_touched 6 (some .long) : Cond) ∈ WA := tb_2 (List.mem_of_getElem? (i := 213) rfl) rfl
theorem wd_454 : (.methodLink RL 150 yL_changedAt : Cond) ∈ WA := tb_2 (List.mem_of_getElem? (i := 214) rfl) rfl
theorem wd_455 : (.static yL_changedAt : Cond) ∈ WA := tb_2 (List.mem_of_getElem? (i := 215) rfl) rfl
theorem wd_456 : (.codeWith yL_changedAt cL_changedAt 6 (some .int) [(0, 12, 15, 13), (0, 12, 19, 15), (0, 12, 23, 21)] : Cond) ∈ WA := tb_2 (List.mem_of_getElem? (i := 216) rfl) rfl
theorem wd_457 : (.methodLink RL 52 yX3_changedAt : Cond) ∈ WA := tb_2 (List.mem_of_getElem? (i := 217) rfl) rfl
theorem wd_458 : (.instanceMethod yX3_changedAt : Cond) ∈ WA := tb_2 (List.mem_of_getElem? (i := 218) rfl) rfl
theorem wd_459 : (.selects RX3 yX3_changedAt yX3_changedAt : Cond) ∈ WA := tb_2 (List.mem_of_getElem? (i := 219) rfl) rfl
theorem wd_460 : (.code yX3_changedAt cX3_changedAt 5 (some .int) : Cond) ∈ WA := tb_2 (List.mem_of_getElem? (i := 220) rfl) rfl
theorem wd_461 : (.methodLink RX3 136 yX3_lowestAt : Cond) ∈ WA := tb_2 (List.mem_of_getElem? (i := 221) rfl) rfl
theorem wd_462 : (.static yX3_lowestAt : Cond) ∈ WA := tb_2 (List.mem_of_getElem? (i := 222) rfl) rfl
theorem wd_463 : (.code yX3_lowestAt cX3_lowestAt 5 (some .int) : Cond) ∈ WA := tb_2 (List.mem_of_getElem? (i := 223) rfl) rfl
theorem wd_464 : (.methodLink RX3 236 yX3_holds : Cond) ∈ WA := tb_2 (List.mem_of_getElem? (i := 224) rfl) rfl
theorem wd_465 : (.static yX3_holds : Cond) ∈ WA := tb_2 (List.mem_of_getElem? (i := 225) rfl) rfl
theorem wd_466 : (.code yX3_holds cX3_holds 3 (some .boolean) : Cond) ∈ WA := tb_2 (List.mem_of_getElem? (i := 226) rfl) rfl
theorem wd_467 : (.methodLink RL 153 yL_page : Cond) ∈ WA := tb_2 (List.mem_of_getElem? (i := 227) rfl) rfl
theorem wd_468 : (.static yL_page : Cond) ∈ WA := tb_2 (List.mem_of_getElem? (i := 228) rfl) rfl
theorem wd_469 : (.codeWith yL_page cL_page 5 (some .int) [(0, 10, 13, 13), (0, 10, 17, 15)] : Cond) ∈ WA := tb_2 (List.mem_of_getElem? (i := 229) rfl) rfl
theorem wd_470 : (.methodLink RL 55 yX3_page : Cond) ∈ WA := tb_2 (List.mem_of_getElem? (i := 230) rfl) rfl
theorem wd_471 : (.instanceMethod yX3_page : Cond) ∈ WA := tb_2 (List.mem_of_getElem? (i := 231) rfl) rfl
theorem wd_472 : (.selects RX3 yX3_page yX3_page : Cond) ∈ WA := tb_2 (List.mem_of_getElem? (i := 232) rfl) rfl
theorem wd_473 : (.code yX3_page cX3_page 3 (some .int) : Cond) ∈ WA := tb_2 (List.mem_of_getElem? (i := 233) rfl) rfl
theorem wd_475 : (.methodLink RX3 142 yX0_endOfPage : Cond) ∈ WA := tb_2 (List.mem_of_getElem? (i := 235) rfl) rfl
theorem wd_476 : (.instanceMethod yX0_endOfPage : Cond) ∈ WA := tb_2 (List.mem_of_getElem? (i := 236) rfl) rfl
theorem wd_477 : (.selects RX0 yX0_endOfPage yX0_endOfPage : Cond) ∈ WA := tb_2 (List.mem_of_getElem? (i := 237) rfl) rfl
theorem wd_478 : (.code yX0_endOfPage cX0_endOfPage 8 (some .int) : Cond) ∈ WA := tb_2 (List.mem_of_getElem? (i := 238) rfl) rfl
theorem wd_480 : (.methodLink RX0 56 yJ13_bitCount_95d88 : Cond) ∈ WA := tb_3 (List.mem_of_getElem? (i := 0) rfl) rfl
theorem wd_481 : (.methodLink RL 156 yL_found : Cond) ∈ WA := tb_3 (List.mem_of_getElem? (i := 1) rfl) rfl
theorem wd_482 : (.static yL_found : Cond) ∈ WA := tb_3 (List.mem_of_getElem? (i := 2) rfl) rfl
theorem wd_483 : (.codeWith yL_found cL_found 5 (some .int) [(0, 10, 13, 13)] : Cond) ∈ WA := tb_3 (List.mem_of_getElem? (i := 3) rfl) rfl
theorem wd_484 : (.methodLink RL 58 yX3_found : Cond) ∈ WA := tb_3 (List.mem_of_getElem? (i := 4) rfl) rfl
theorem wd_485 : (.instanceMethod yX3_found : Cond) ∈ WA := tb_3 (List.mem_of_getElem? (i := 5) rfl) rfl
theorem wd_486 : (.selects RX3 yX3_found yX3_found : Cond) ∈ WA := tb_3 (List.mem_of_getElem? (i := 6) rfl) rfl
theorem wd_487 : (.code yX3_found cX3_found 3 (some .int) : Cond) ∈ WA := tb_3 (List.mem_of_getElem? (i := 7) rfl) rfl
theorem wd_488 : (.methodLink RX3 146 yX3_isQueryKeyword : Cond) ∈ WA := tb_3 (List.mem_of_getElem? (i := 8) rfl) rfl
theorem wd_489 : (.static yX3_isQueryKeyword : Cond) ∈ WA := tb_3 (List.mem_of_getElem? (i := 9) rfl) rfl
theorem wd_490 : (.code yX3_isQueryKeyword cX3_isQueryKeyword 1 (some .boolean) : Cond) ∈ WA := tb_3 (List.mem_of_getElem? (i := 10) rfl) rfl
theorem wd_491 : (.methodLink RX3 149 yX3_asked : Cond) ∈ WA := tb_3 (List.mem_of_getElem? (i := 11) rfl) rfl
theorem wd_492 : (.static yX3_asked : Cond) ∈ WA := tb_3 (List.mem_of_getElem? (i := 12) rfl) rfl
theorem wd_493 : (.code yX3_asked cX3_asked 1 (some .int) : Cond) ∈ WA := tb_3 (List.mem_of_getElem? (i := 13) rfl) rfl
theorem wd_494 : (.methodLink RL 159 yL_foundAt : Cond) ∈ WA := tb_3 (List.mem_of_getElem? (i := 14) rfl) rfl
theorem wd_495 : (.static yL_foundAt : Cond) ∈ WA := tb_3 (List.mem_of_getElem? (i := 15) rfl) rfl
theorem wd_496 : (.codeWith yL_foundAt cL_foundAt 6 (some .int) [(0, 12, 15, 13), (0, 12, 19, 21)] : Cond) ∈ WA := tb_3 (List.mem_of_getElem? (i := 16) rfl) rfl
theorem wd_497 : (.methodLink RL 61 yX3_foundAt : Cond) ∈ WA := tb_3 (List.mem_of_getElem? (i := 17) rfl) rfl
theorem wd_498 : (.instanceMethod yX3_foundAt : Cond) ∈ WA := tb_3 (List.mem_of_getElem? (i := 18) rfl) rfl
theorem wd_499 : (.selects RX3 yX3_foundAt yX3_foundAt : Cond) ∈ WA := tb_3 (List.mem_of_getElem? (i := 19) rfl) rfl
theorem wd_500 : (.code yX3_foundAt cX3_foundAt 5 (some .int) : Cond) ∈ WA := tb_3 (List.mem_of_getElem? (i := 20) rfl) rfl
theorem wd_501 : (.methodLink RX3 152 yX2_latestAt : Cond) ∈ WA := tb_3 (List.mem_of_getElem? (i := 21) rfl) rfl
theorem wd_502 : (.instanceMethod yX2_latestAt : Cond) ∈ WA := tb_3 (List.mem_of_getElem? (i := 22) rfl) rfl
theorem wd_503 : (.selects RX2 yX2_latestAt yX2_latestAt : Cond) ∈ WA := tb_3 (List.mem_of_getElem? (i := 23) rfl) rfl
theorem wd_504 : (.code yX2_latestAt cX2_latestAt 6 (some .int) : Cond) ∈ WA := tb_3 (List.mem_of_getElem? (i := 24) rfl) rfl
theorem wd_506 : (.methodLink RL 162 yL_removed : Cond) ∈ WA := tb_3 (List.mem_of_getElem? (i := 26) rfl) rfl
theorem wd_507 : (.static yL_removed : Cond) ∈ WA := tb_3 (List.mem_of_getElem? (i := 27) rfl) rfl
theorem wd_508 : (.codeWith yL_removed cL_removed 6 (some .int) [(0, 12, 15, 13), (0, 12, 19, 15)] : Cond) ∈ WA := tb_3 (List.mem_of_getElem? (i := 28) rfl) rfl
theorem wd_509 : (.methodLink RL 64 yX3_removed : Cond) ∈ WA := tb_3 (List.mem_of_getElem? (i := 29) rfl) rfl
theorem wd_510 : (.instanceMethod yX3_removed : Cond) ∈ WA := tb_3 (List.mem_of_getElem? (i := 30) rfl) rfl
theorem wd_511 : (.selects RX3 yX3_removed yX3_removed : Cond) ∈ WA := tb_3 (List.mem_of_getElem? (i := 31) rfl) rfl
theorem wd_512 : (.code yX3_removed cX3_removed 6 (some .int) : Cond) ∈ WA := tb_3 (List.mem_of_getElem? (i := 32) rfl) rfl
theorem wd_514 : (.methodLink RX3 157 yX2_matchingAt : Cond) ∈ WA := tb_3 (List.mem_of_getElem? (i := 34) rfl) rfl
theorem wd_515 : (.methodLink RL 165 yL_added : Cond) ∈ WA := tb_3 (List.mem_of_getElem? (i := 35) rfl) rfl
theorem wd_516 : (.static yL_added : Cond) ∈ WA := tb_3 (List.mem_of_getElem? (i := 36) rfl) rfl
theorem wd_517 : (.codeWith yL_added cL_added 6 (some .int) [(0, 12, 15, 13), (0, 12, 19, 15)] : Cond) ∈ WA := tb_3 (List.mem_of_getElem? (i := 37) rfl) rfl
theorem wd_518 : (.methodLink RL 67 yX3_added : Cond) ∈ WA := tb_3 (List.mem_of_getElem? (i := 38) rfl) rfl
theorem wd_519 : (.instanceMethod yX3_added : Cond) ∈ WA := tb_3 (List.mem_of_getElem? (i := 39) rfl) rfl
theorem wd_520 : (.selects RX3 yX3_added yX3_added : Cond) ∈ WA := tb_3 (List.mem_of_getElem? (i := 40) rfl) rfl
theorem wd_521 : (.code yX3_added cX3_added 6 (some .int) : Cond) ∈ WA := tb_3 (List.mem_of_getElem? (i := 41) rfl) rfl
theorem wd_522 : (.methodLink RL 168 yL_watch : Cond) ∈ WA := tb_3 (List.mem_of_getElem? (i := 42) rfl) rfl
theorem wd_523 : (.static yL_watch : Cond) ∈ WA := tb_3 (List.mem_of_getElem? (i := 43) rfl) rfl
theorem wd_524 : (.codeWith yL_watch cL_watch 5 (some .int) [(0, 7, 10, 13)] : Cond) ∈ WA := tb_3 (List.mem_of_getElem? (i := 44) rfl) rfl
theorem wd_525 : (.methodLink RL 70 yX3_watch : Cond) ∈ WA := tb_3 (List.mem_of_getElem? (i := 45) rfl) rfl
theorem wd_526 : (.instanceMethod yX3_watch : Cond) ∈ WA := tb_3 (List.mem_of_getElem? (i := 46) rfl) rfl
theorem wd_527 : (.selects RX3 yX3_watch yX3_watch : Cond) ∈ WA := tb_3 (List.mem_of_getElem? (i := 47) rfl) rfl
theorem wd_528 : (.code yX3_watch cX3_watch 5 none : Cond) ∈ WA := tb_3 (List.mem_of_getElem? (i := 48) rfl) rfl
theorem wd_529 : (.methodLink RX3 163 yX3_isClient : Cond) ∈ WA := tb_3 (List.mem_of_getElem? (i := 49) rfl) rfl
theorem wd_530 : (.static yX3_isClient : Cond) ∈ WA := tb_3 (List.mem_of_getElem? (i := 50) rfl) rfl
theorem wd_531 : (.code yX3_isClient cX3_isClient 1 (some .boolean) : Cond) ∈ WA := tb_3 (List.mem_of_getElem? (i := 51) rfl) rfl
theorem wd_533 : (.methodLink RX3 168 yX3_clientOf : Cond) ∈ WA := tb_3 (List.mem_of_getElem? (i := 53) rfl) rfl
theorem wd_535 : (.instanceMethod yX3_clientOf : Cond) ∈ WA := tb_3 (List.mem_of_getElem? (i := 55) rfl) rfl
theorem wd_536 : (.code yX3_clientOf cX3_clientOf 2 (some (.object "MailFollower$Client")) : Cond) ∈ WA := tb_3 (List.mem_of_getElem? (i := 56) rfl) rfl
theorem wd_537 : (.methodLink RL 172 yL_flagOffline : Cond) ∈ WA := tb_3 (List.mem_of_getElem? (i := 57) rfl) rfl
theorem wd_538 : (.static yL_flagOffline : Cond) ∈ WA := tb_3 (List.mem_of_getElem? (i := 58) rfl) rfl
theorem wd_539 : (.codeWith yL_flagOffline cL_flagOffline 7 (some .int) [(0, 14, 17, 13), (0, 14, 21, 15)] : Cond) ∈ WA := tb_3 (List.mem_of_getElem? (i := 59) rfl) rfl
theorem wd_540 : (.methodLink RL 74 yX3_flagOffline : Cond) ∈ WA := tb_3 (List.mem_of_getElem? (i := 60) rfl) rfl
theorem wd_541 : (.instanceMethod yX3_flagOffline : Cond) ∈ WA := tb_3 (List.mem_of_getElem? (i := 61) rfl) rfl
theorem wd_542 : (.selects RX3 yX3_flagOffline yX3_flagOffline : Cond) ∈ WA := tb_3 (List.mem_of_getElem? (i := 62) rfl) rfl
theorem wd_543 : (.code yX3_flagOffline cX3_flagOffline 7 (some .int) : Cond) ∈ WA := tb_3 (List.mem_of_getElem? (i := 63) rfl) rfl
theorem wd_545 : (.methodLink RX3 180 yX1_placeOf : Cond) ∈ WA := tb_3 (List.mem_of_getElem? (i := 65) rfl) rfl
theorem wd_546 : (.instanceMethod yX1_placeOf : Cond) ∈ WA := tb_3 (List.mem_of_getElem? (i := 66) rfl) rfl
theorem wd_547 : (.selects RX1 yX1_placeOf yX1_placeOf : Cond) ∈ WA := tb_3 (List.mem_of_getElem? (i := 67) rfl) rfl
theorem wd_548 : (.code yX1_placeOf cX1_placeOf 3 (some .int) : Cond) ∈ WA := tb_3 (List.mem_of_getElem? (i := 68) rfl) rfl
theorem wd_551 : (.methodLink RX3 190 yX1_note : Cond) ∈ WA := tb_3 (List.mem_of_getElem? (i := 71) rfl) rfl
theorem wd_552 : (.instanceMethod yX1_note : Cond) ∈ WA := tb_3 (List.mem_of_getElem? (i := 72) rfl) rfl
theorem wd_553 : (.selects RX1 yX1_note yX1_note : Cond) ∈ WA := tb_3 (List.mem_of_getElem? (i := 73) rfl) rfl
theorem wd_554 : (.code yX1_note cX1_note 4 none : Cond) ∈ WA := tb_3 (List.mem_of_getElem? (i := 74) rfl) rfl
theorem wd_555 : (.methodLink RX1 35 yX1_hasPlace : Cond) ∈ WA := tb_3 (List.mem_of_getElem? (i := 75) rfl) rfl
theorem wd_556 : (.instanceMethod yX1_hasPlace : Cond) ∈ WA := tb_3 (List.mem_of_getElem? (i := 76) rfl) rfl
theorem wd_557 : (.selects RX1 yX1_hasPlace yX1_hasPlace : Cond) ∈ WA := tb_3 (List.mem_of_getElem? (i := 77) rfl) rfl
theorem wd_558 : (.code yX1_hasPlace cX1_hasPlace 2 (some .boolean) : Cond) ∈ WA := tb_3 (List.mem_of_getElem? (i := 78) rfl) rfl
theorem wd_560 : (.methodLink RX1 43 yX1_list : Cond) ∈ WA := tb_3 (List.mem_of_getElem? (i := 80) rfl) rfl
theorem wd_562 : (.instanceMethod yX1_list : Cond) ∈ WA := tb_3 (List.mem_of_getElem? (i := 82) rfl) rfl
theorem wd_563 : (.code yX1_list cX1_list 4 none : Cond) ∈ WA := tb_3 (List.mem_of_getElem? (i := 83) rfl) rfl
theorem wd_564 : (.methodLink RL 176 yL_sync : Cond) ∈ WA := tb_3 (List.mem_of_getElem? (i := 84) rfl) rfl
theorem wd_565 : (.static yL_sync : Cond) ∈ WA := tb_3 (List.mem_of_getElem? (i := 85) rfl) rfl
theorem wd_566 : (.codeWith yL_sync cL_sync 4 (some .int) [(0, 9, 12, 13)] : Cond) ∈ WA := tb_3 (List.mem_of_getElem? (i := 86) rfl) rfl
theorem wd_567 : (.methodLink RL 78 yX3_sync : Cond) ∈ WA := tb_3 (List.mem_of_getElem? (i := 87) rfl) rfl
theorem wd_568 : (.instanceMethod yX3_sync : Cond) ∈ WA := tb_3 (List.mem_of_getElem? (i := 88) rfl) rfl
theorem wd_569 : (.selects RX3 yX3_sync yX3_sync : Cond) ∈ WA := tb_3 (List.mem_of_getElem? (i := 89) rfl) rfl
theorem wd_570 : (.code yX3_sync cX3_sync 4 (some .int) : Cond) ∈ WA := tb_3 (List.mem_of_getElem? (i := 90) rfl) rfl
theorem wd_571 : (.methodLink RX3 194 yX3_requireClient : Cond) ∈ WA := tb_3 (List.mem_of_getElem? (i := 91) rfl) rfl
theorem wd_572 : (.static yX3_requireClient : Cond) ∈ WA := tb_3 (List.mem_of_getElem? (i := 92) rfl) rfl
theorem wd_573 : (.code yX3_requireClient cX3_requireClient 1 none : Cond) ∈ WA := tb_3 (List.mem_of_getElem? (i := 93) rfl) rfl
theorem wd_575 : (.methodLink RX3 203 yX1_leaveOutConflicts : Cond) ∈ WA := tb_3 (List.mem_of_getElem? (i := 95) rfl) rfl
theorem wd_576 : (.instanceMethod yX1_leaveOutConflicts : Cond) ∈ WA := tb_3 (List.mem_of_getElem? (i := 96) rfl) rfl
theorem wd_577 : (.selects RX1 yX1_leaveOutConflicts yX1_leaveOutConflicts : Cond) ∈ WA := tb_3 (List.mem_of_getElem? (i := 97) rfl) rfl
theorem wd_578 : (.code yX1_leaveOutConflicts cX1_leaveOutConflicts 4 (some .int) : Cond) ∈ WA := tb_3 (List.mem_of_getElem? (i := 98) rfl) rfl
theorem wd_579 : (.methodLink RX1 50 yX1_isConflict : Cond) ∈ WA := tb_3 (List.mem_of_getElem? (i := 99) rfl) rfl
theorem wd_581 : (.instanceMethod yX1_isConflict : Cond) ∈ WA := tb_3 (List.mem_of_getElem? (i := 101) rfl) rfl
theorem wd_582 : (.code yX1_isConflict cX1_isConflict 6 (some .boolean) : Cond) ∈ WA := tb_3 (List.mem_of_getElem? (i := 102) rfl) rfl
theorem wd_583 : (.methodLink RX1 54 yX2_isThere : Cond) ∈ WA := tb_3 (List.mem_of_getElem? (i := 103) rfl) rfl
theorem wd_584 : (.methodLink RX1 66 yX0_reachBackTo : Cond) ∈ WA := tb_3 (List.mem_of_getElem? (i := 104) rfl) rfl
theorem wd_585 : (.methodLink RX1 71 yX0_contradict : Cond) ∈ WA := tb_3 (List.mem_of_getElem? (i := 105) rfl) rfl
theorem wd_586 : (.instanceMethod yX0_contradict : Cond) ∈ WA := tb_3 (List.mem_of_getElem? (i := 106) rfl) rfl
theorem wd_587 : (.selects RX0 yX0_contradict yX0_contradict : Cond) ∈ WA := tb_3 (List.mem_of_getElem? (i := 107) rfl) rfl
theorem wd_588 : (.code yX0_contradict cX0_contradict 8 (some .boolean) : Cond) ∈ WA := tb_3 (List.mem_of_getElem? (i := 108) rfl) rfl
theorem wd_589 : (.methodLink RX3 207 yX1_replay : Cond) ∈ WA := tb_3 (List.mem_of_getElem? (i := 109) rfl) rfl
theorem wd_590 : (.instanceMethod yX1_replay : Cond) ∈ WA := tb_3 (List.mem_of_getElem? (i := 110) rfl) rfl
theorem wd_591 : (.selects RX1 yX1_replay yX1_replay : Cond) ∈ WA := tb_3 (List.mem_of_getElem? (i := 111) rfl) rfl
theorem wd_592 : (.code yX1_replay cX1_replay 3 none : Cond) ∈ WA := tb_3 (List.mem_of_getElem? (i := 112) rfl) rfl
theorem wd_593 : (.methodLink RX1 75 yX2_setKeyword : Cond) ∈ WA := tb_3 (List.mem_of_getElem? (i := 113) rfl) rfl
theorem wd_594 : (.methodLink RX3 211 yX1_load : Cond) ∈ WA := tb_3 (List.mem_of_getElem? (i := 114) rfl) rfl
theorem wd_595 : (.instanceMethod yX1_load : Cond) ∈ WA := tb_3 (List.mem_of_getElem? (i := 115) rfl) rfl
theorem wd_596 : (.selects RX1 yX1_load yX1_load : Cond) ∈ WA := tb_3 (List.mem_of_getElem? (i := 116) rfl) rfl
theorem wd_597 : (.code yX1_load cX1_load 6 none : Cond) ∈ WA := tb_3 (List.mem_of_getElem? (i := 117) rfl) rfl
theorem wd_598 : (.methodLink RX1 85 yX2_matching : Cond) ∈ WA := tb_3 (List.mem_of_getElem? (i := 118) rfl) rfl
theorem wd_599 : (.methodLink RX1 89 yJ13_bitCount_95d88 : Cond) ∈ WA := tb_3 (List.mem_of_getElem? (i := 119) rfl) rfl
theorem wd_600 : (.methodLink RX1 95 yJ9_min_7cf53 : Cond) ∈ WA := tb_3 (List.mem_of_getElem? (i := 120) rfl) rfl
theorem wd_601 : (.methodLink RX1 101 yX2_latestAt : Cond) ∈ WA := tb_3 (List.mem_of_getElem? (i := 121) rfl) rfl
theorem wd_602 : (.methodLink RX1 105 yX2_keywordsOf : Cond) ∈ WA := tb_3 (List.mem_of_getElem? (i := 122) rfl) rfl
theorem wd_603 : (.methodLink RL 179 yL_stateOf : Cond) ∈ WA := tb_3 (List.mem_of_getElem? (i := 123) rfl) rfl
theorem wd_604 : (.static yL_stateOf : Cond) ∈ WA := tb_3 (List.mem_of_getElem? (i := 124) rfl) rfl
theorem wd_605 : (.codeWith yL_stateOf cL_stateOf 4 (some .int) [(0, 9, 12, 13)] : Cond) ∈ WA := tb_3 (List.mem_of_getElem? (i := 125) rfl) rfl
theorem wd_606 : (.methodLink RL 81 yX3_stateOf : Cond) ∈ WA := tb_3 (List.mem_of_getElem? (i := 126) rfl) rfl
theorem wd_607 : (.instanceMethod yX3_stateOf : Cond) ∈ WA := tb_3 (List.mem_of_getElem? (i := 127) rfl) rfl
theorem wd_608 : (.selects RX3 yX3_stateOf yX3_stateOf : Cond) ∈ WA := tb_3 (List.mem_of_getElem? (i := 128) rfl) rfl
theorem wd_609 : (.code yX3_stateOf cX3_stateOf 2 (some .int) : Cond) ∈ WA := tb_3 (List.mem_of_getElem? (i := 129) rfl) rfl
theorem wd_610 : (.methodLink RL 182 yL_window : Cond) ∈ WA := tb_3 (List.mem_of_getElem? (i := 130) rfl) rfl
theorem wd_611 : (.static yL_window : Cond) ∈ WA := tb_3 (List.mem_of_getElem? (i := 131) rfl) rfl
theorem wd_612 : (.codeWith yL_window cL_window 4 (some .int) [(0, 9, 12, 13)] : Cond) ∈ WA := tb_3 (List.mem_of_getElem? (i := 132) rfl) rfl
theorem wd_613 : (.methodLink RL 84 yX3_window : Cond) ∈ WA := tb_3 (List.mem_of_getElem? (i := 133) rfl) rfl
theorem wd_614 : (.instanceMethod yX3_window : Cond) ∈ WA := tb_3 (List.mem_of_getElem? (i := 134) rfl) rfl
theorem wd_615 : (.selects RX3 yX3_window yX3_window : Cond) ∈ WA := tb_3 (List.mem_of_getElem? (i := 135) rfl) rfl
theorem wd_616 : (.code yX3_window cX3_window 2 (some .int) : Cond) ∈ WA := tb_3 (List.mem_of_getElem? (i := 136) rfl) rfl
theorem wd_617 : (.methodLink RL 185 yL_windowAt : Cond) ∈ WA := tb_3 (List.mem_of_getElem? (i := 137) rfl) rfl
theorem wd_618 : (.static yL_windowAt : Cond) ∈ WA := tb_3 (List.mem_of_getElem? (i := 138) rfl) rfl
theorem wd_619 : (.codeWith yL_windowAt cL_windowAt 5 (some .int) [(0, 10, 13, 13), (0, 10, 17, 21)] : Cond) ∈ WA := tb_3 (List.mem_of_getElem? (i := 139) rfl) rfl
theorem wd_620 : (.methodLink RL 87 yX3_windowAt : Cond) ∈ WA := tb_3 (List.mem_of_getElem? (i := 140) rfl) rfl
theorem wd_621 : (.instanceMethod yX3_windowAt : Cond) ∈ WA := tb_3 (List.mem_of_getElem? (i := 141) rfl) rfl
theorem wd_622 : (.selects RX3 yX3_windowAt yX3_windowAt : Cond) ∈ WA := tb_3 (List.mem_of_getElem? (i := 142) rfl) rfl
theorem wd_623 : (.code yX3_windowAt cX3_windowAt 4 (some .int) : Cond) ∈ WA := tb_3 (List.mem_of_getElem? (i := 143) rfl) rfl
theorem wd_624 : (.methodLink RX3 217 yX1_hasPlace : Cond) ∈ WA := tb_3 (List.mem_of_getElem? (i := 144) rfl) rfl
theorem wd_625 : (.methodLink RL 188 yL_known : Cond) ∈ WA := tb_3 (List.mem_of_getElem? (i := 145) rfl) rfl
theorem wd_626 : (.static yL_known : Cond) ∈ WA := tb_3 (List.mem_of_getElem? (i := 146) rfl) rfl
theorem wd_627 : (.codeWith yL_known cL_known 5 (some .int) [(0, 10, 13, 13), (0, 10, 17, 21)] : Cond) ∈ WA := tb_3 (List.mem_of_getElem? (i := 147) rfl) rfl
theorem wd_628 : (.methodLink RL 90 yX3_known : Cond) ∈ WA := tb_3 (List.mem_of_getElem? (i := 148) rfl) rfl
theorem wd_629 : (.instanceMethod yX3_known : Cond) ∈ WA := tb_3 (List.mem_of_getElem? (i := 149) rfl) rfl
theorem wd_630 : (.selects RX3 yX3_known yX3_known : Cond) ∈ WA := tb_3 (List.mem_of_getElem? (i := 150) rfl) rfl
theorem wd_631 : (.code yX3_known cX3_known 4 (some .int) : Cond) ∈ WA := tb_3 (List.mem_of_getElem? (i := 151) rfl) rfl
theorem wd_632 : (.methodLink RL 191 yL_freshLoads : Cond) ∈ WA := tb_3 (List.mem_of_getElem? (i := 152) rfl) rfl
theorem wd_633 : (.static yL_freshLoads : Cond) ∈ WA := tb_3 (List.mem_of_getElem? (i := 153) rfl) rfl
theorem wd_634 : (.codeWith yL_freshLoads cL_freshLoads 4 (some .int) [(0, 9, 12, 13)] : Cond) ∈ WA := tb_3 (List.mem_of_getElem? (i := 154) rfl) rfl
theorem wd_635 : (.methodLink RL 93 yX3_freshLoads : Cond) ∈ WA := tb_3 (List.mem_of_getElem? (i := 155) rfl) rfl
theorem wd_636 : (.instanceMethod yX3_freshLoads : Cond) ∈ WA := tb_3 (List.mem_of_getElem? (i := 156) rfl) rfl
theorem wd_637 : (.selects RX3 yX3_freshLoads yX3_freshLoads : Cond) ∈ WA := tb_3 (List.mem_of_getElem? (i := 157) rfl) rfl
theorem wd_638 : (.code yX3_freshLoads cX3_freshLoads 2 (some .int) : Cond) ∈ WA := tb_3 (List.mem_of_getElem? (i := 158) rfl) rfl
theorem wd_639 : (.classLink RL 97 "MailFollowerModel" : Cond) ∈ WA := tb_3 (List.mem_of_getElem? (i := 159) rfl) rfl
theorem wd_640 : (.instantiable RX4 26 : Cond) ∈ WA := tb_3 (List.mem_of_getElem? (i := 160) rfl) rfl
theorem wd_641 : (.methodLink RL 99 yX4_init : Cond) ∈ WA := tb_3 (List.mem_of_getElem? (i := 161) rfl) rfl
theorem wd_642 : (.instanceMethod yX4_init : Cond) ∈ WA := tb_3 (List.mem_of_getElem? (i := 162) rfl) rfl
theorem wd_643 : (.code yX4_init cX4_init 1 none : Cond) ∈ WA := tb_3 (List.mem_of_getElem? (i := 163) rfl) rfl
theorem wd_644 : (.methodLink RX4 1 objectInit : Cond) ∈ WA := tb_3 (List.mem_of_getElem? (i := 164) rfl) rfl
theorem wd_645 : (.fieldLink RX4 7 "MailFollowerModel" "time" "[I" : Cond) ∈ WA := tb_3 (List.mem_of_getElem? (i := 165) rfl) rfl
theorem wd_646 : (.fieldLink RX4 13 "MailFollowerModel" "boxes" "[I" : Cond) ∈ WA := tb_3 (List.mem_of_getElem? (i := 166) rfl) rfl
theorem wd_647 : (.fieldLink RX4 16 "MailFollowerModel" "words" "[I" : Cond) ∈ WA := tb_3 (List.mem_of_getElem? (i := 167) rfl) rfl
theorem wd_648 : (.fieldLink RX4 19 "MailFollowerModel" "thread" "[I" : Cond) ∈ WA := tb_3 (List.mem_of_getElem? (i := 168) rfl) rfl
theorem wd_649 : (.fieldLink RX4 22 "MailFollowerModel" "came" "[I" : Cond) ∈ WA := tb_3 (List.mem_of_getElem? (i := 169) rfl) rfl
theorem wd_650 : (.fieldLink RX4 25 "MailFollowerModel" "gone" "[I" : Cond) ∈ WA := tb_3 (List.mem_of_getElem? (i := 170) rfl) rfl
theorem wd_651 : (.fieldLink RX4 84 "MailFollowerModel" "mails" "I" : Cond) ∈ WA := tb_3 (List.mem_of_getElem? (i := 171) rfl) rfl
theorem wd_652 : (.fieldLink RX4 28 "MailFollowerModel" "kind" "[I" : Cond) ∈ WA := tb_3 (List.mem_of_getElem? (i := 172) rfl) rfl
theorem wd_653 : (.fieldLink RX4 31 "MailFollowerModel" "of" "[I" : Cond) ∈ WA := tb_3 (List.mem_of_getElem? (i := 173) rfl) rfl
theorem wd_654 : (.fieldLink RX4 34 "MailFollowerModel" "boxesBefore" "[I" : Cond) ∈ WA := tb_3 (List.mem_of_getElem? (i := 174) rfl) rfl
theorem wd_655 : (.fieldLink RX4 37 "MailFollowerModel" "wordsBefore" "[I" : Cond) ∈ WA := tb_3 (List.mem_of_getElem? (i := 175) rfl) rfl
theorem wd_656 : (.fieldLink RX4 40 "MailFollowerModel" "keyword" "[I" : Cond) ∈ WA := tb_3 (List.mem_of_getElem? (i := 176) rfl) rfl
theorem wd_657 : (.fieldLink RX4 43 "MailFollowerModel" "isSet" "[Z" : Cond) ∈ WA := tb_3 (List.mem_of_getElem? (i := 177) rfl) rfl
theorem wd_658 : (.fieldLink RX4 91 "MailFollowerModel" "state" "I" : Cond) ∈ WA := tb_3 (List.mem_of_getElem? (i := 178) rfl) rfl
theorem wd_659 : (.fieldLink RX4 47 "MailFollowerModel" "box" "[I" : Cond) ∈ WA := tb_3 (List.mem_of_getElem? (i := 179) rfl) rfl
theorem wd_660 : (.fieldLink RX4 50 "MailFollowerModel" "width" "[I" : Cond) ∈ WA := tb_3 (List.mem_of_getElem? (i := 180) rfl) rfl
theorem wd_661 : (.fieldLink RX4 53 "MailFollowerModel" "stateOf" "[I" : Cond) ∈ WA := tb_3 (List.mem_of_getElem? (i := 181) rfl) rfl
theorem wd_662 : (.fieldLink RX4 56 "MailFollowerModel" "windows" "[I" : Cond) ∈ WA := tb_3 (List.mem_of_getElem? (i := 182) rfl) rfl
theorem wd_663 : (.fieldLink RX4 59 "MailFollowerModel" "windowMail" "[I" : Cond) ∈ WA := tb_3 (List.mem_of_getElem? (i := 183) rfl) rfl
theorem wd_664 : (.fieldLink RX4 62 "MailFollowerModel" "windowWords" "[I" : Cond) ∈ WA := tb_3 (List.mem_of_getElem? (i := 184) rfl) rfl
theorem wd_665 : (.fieldLink RX4 65 "MailFollowerModel" "flags" "[I" : Cond) ∈ WA := tb_3 (List.mem_of_getElem? (i := 185) rfl) rfl
theorem wd_666 : (.fieldLink RX4 68 "MailFollowerModel" "flagMail" "[I" : Cond) ∈ WA := tb_3 (List.mem_of_getElem? (i := 186) rfl) rfl
theorem wd_667 : (.fieldLink RX4 71 "MailFollowerModel" "flagWord" "[I" : Cond) ∈ WA := tb_3 (List.mem_of_getElem? (i := 187) rfl) rfl
theorem wd_668 : (.fieldLink RX4 74 "MailFollowerModel" "flagSet" "[Z" : Cond) ∈ WA := tb_3 (List.mem_of_getElem? (i := 188) rfl) rfl
theorem wd_669 : (.fieldLink RX4 77 "MailFollowerModel" "fresh" "[I" : Cond) ∈ WA := tb_3 (List.mem_of_getElem? (i := 189) rfl) rfl
theorem wd_670 : (.fieldLink RX4 80 "MailFollowerModel" "thrown" "I" : Cond) ∈ WA := tb_3 (List.mem_of_getElem? (i := 190) rfl) rfl
theorem wd_671 : (.laysFinal RX4 "MailFollowerModel" "time" "[I" : Cond) ∈ WA := tb_3 (List.mem_of_getElem? (i := 191) rfl) rfl
theorem wd_673 : (.laysFinal RX4 "MailFollowerModel" "boxes" "[I" : Cond) ∈ WA := tb_3 (List.mem_of_getElem? (i := 193) rfl) rfl
theorem wd_675 : (.laysFinal RX4 "MailFollowerModel" "words" "[I" : Cond) ∈ WA := tb_3 (List.mem_of_getElem? (i := 195) rfl) rfl
theorem wd_677 : (.laysFinal RX4 "MailFollowerModel" "thread" "[I" : Cond) ∈ WA := tb_3 (List.mem_of_getElem? (i := 197) rfl) rfl
theorem wd_679 : (.laysFinal RX4 "MailFollowerModel" "came" "[I" : Cond) ∈ WA := tb_3 (List.mem_of_getElem? (i := 199) rfl) rfl
theorem wd_681 : (.laysFinal RX4 "MailFollowerModel" "gone" "[I" : Cond) ∈ WA := tb_3 (List.mem_of_getElem? (i := 201) rfl) rfl
theorem wd_683 : (.lays RX4 "MailFollowerModel" "mails" "I" : Cond) ∈ WA := tb_3 (List.mem_of_getElem? (i := 203) rfl) rfl
theorem wd_685 : (.laysFinal RX4 "MailFollowerModel" "kind" "[I" : Cond) ∈ WA := tb_3 (List.mem_of_getElem? (i := 205) rfl) rfl
theorem wd_687 : (.laysFinal RX4 "MailFollowerModel" "of" "[I" : Cond) ∈ WA := tb_3 (List.mem_of_getElem? (i := 207) rfl) rfl
theorem wd_689 : (.laysFinal RX4 "MailFollowerModel" "boxesBefore" "[I" : Cond) ∈ WA := tb_3 (List.mem_of_getElem? (i := 209) rfl) rfl
theorem wd_691 : (.laysFinal RX4 "MailFollowerModel" "wordsBefore" "[I" : Cond) ∈ WA := tb_3 (List.mem_of_getElem? (i := 211) rfl) rfl
theorem wd_693 : (.laysFinal RX4 "MailFollowerModel" "keyword" "[I" : Cond) ∈ WA := tb_3 (List.mem_of_getElem? (i := 213) rfl) rfl
theorem wd_695 : (.laysFinal RX4 "MailFollowerModel" "isSet" "[Z" : Cond) ∈ WA := tb_3 (List.mem_of_getElem? (i := 215) rfl) rfl
theorem wd_697 : (.lays RX4 "MailFollowerModel" "state" "I" : Cond) ∈ WA := tb_3 (List.mem_of_getElem? (i := 217) rfl) rfl
theorem wd_699 : (.laysFinal RX4 "MailFollowerModel" "box" "[I" : Cond) ∈ WA := tb_3 (List.mem_of_getElem? (i := 219) rfl) rfl
theorem wd_701 : (.laysFinal RX4 "MailFollowerModel" "width" "[I" : Cond) ∈ WA := tb_3 (List.mem_of_getElem? (i := 221) rfl) rfl
theorem wd_703 : (.laysFinal RX4 "MailFollowerModel" "stateOf" "[I" : Cond) ∈ WA := tb_3 (List.mem_of_getElem? (i := 223) rfl) rfl
theorem wd_705 : (.laysFinal RX4 "MailFollowerModel" "windows" "[I" : Cond) ∈ WA := tb_3 (List.mem_of_getElem? (i := 225) rfl) rfl
theorem wd_707 : (.laysFinal RX4 "MailFollowerModel" "windowMail" "[I" : Cond) ∈ WA := tb_3 (List.mem_of_getElem? (i := 227) rfl) rfl
theorem wd_709 : (.laysFinal RX4 "MailFollowerModel" "windowWords" "[I" : Cond) ∈ WA := tb_3 (List.mem_of_getElem? (i := 229) rfl) rfl
theorem wd_711 : (.laysFinal RX4 "MailFollowerModel" "flags" "[I" : Cond) ∈ WA := tb_3 (List.mem_of_getElem? (i := 231) rfl) rfl
theorem wd_713 : (.laysFinal RX4 "MailFollowerModel" "flagMail" "[I" : Cond) ∈ WA := tb_3 (List.mem_of_getElem? (i := 233) rfl) rfl
theorem wd_715 : (.laysFinal RX4 "MailFollowerModel" "flagWord" "[I" : Cond) ∈ WA := tb_3 (List.mem_of_getElem? (i := 235) rfl) rfl
theorem wd_717 : (.laysFinal RX4 "MailFollowerModel" "flagSet" "[Z" : Cond) ∈ WA := tb_3 (List.mem_of_getElem? (i := 237) rfl) rfl
theorem wd_719 : (.laysFinal RX4 "MailFollowerModel" "fresh" "[I" : Cond) ∈ WA := tb_3 (List.mem_of_getElem? (i := 239) rfl) rfl
theorem wd_721 : (.lays RX4 "MailFollowerModel" "thrown" "I" : Cond) ∈ WA := tb_4 (List.mem_of_getElem? (i := 1) rfl) rfl
theorem wd_723 : (.superclass RX4 "java/lang/Object" : Cond) ∈ WA := tb_4 (List.mem_of_getElem? (i := 3) rfl) rfl
theorem wd_724 : (.methodLink RL 106 yX4_thrown : Cond) ∈ WA := tb_4 (List.mem_of_getElem? (i := 4) rfl) rfl
theorem wd_725 : (.instanceMethod yX4_thrown : Cond) ∈ WA := tb_4 (List.mem_of_getElem? (i := 5) rfl) rfl
theorem wd_726 : (.selects RX4 yX4_thrown yX4_thrown : Cond) ∈ WA := tb_4 (List.mem_of_getElem? (i := 6) rfl) rfl
theorem wd_727 : (.code yX4_thrown cX4_thrown 1 (some .int) : Cond) ∈ WA := tb_4 (List.mem_of_getElem? (i := 7) rfl) rfl
theorem wd_728 : (.methodLink RL 105 yX4_add : Cond) ∈ WA := tb_4 (List.mem_of_getElem? (i := 8) rfl) rfl
theorem wd_729 : (.instanceMethod yX4_add : Cond) ∈ WA := tb_4 (List.mem_of_getElem? (i := 9) rfl) rfl
theorem wd_730 : (.selects RX4 yX4_add yX4_add : Cond) ∈ WA := tb_4 (List.mem_of_getElem? (i := 10) rfl) rfl
theorem wd_731 : (.code yX4_add cX4_add 4 (some .int) : Cond) ∈ WA := tb_4 (List.mem_of_getElem? (i := 11) rfl) rfl
theorem wd_732 : (.methodLink RX4 87 yX4_in : Cond) ∈ WA := tb_4 (List.mem_of_getElem? (i := 12) rfl) rfl
theorem wd_733 : (.static yX4_in : Cond) ∈ WA := tb_4 (List.mem_of_getElem? (i := 13) rfl) rfl
theorem wd_734 : (.code yX4_in cX4_in 3 (some .boolean) : Cond) ∈ WA := tb_4 (List.mem_of_getElem? (i := 14) rfl) rfl
theorem wd_735 : (.methodLink RX4 94 yX4_isFine : Cond) ∈ WA := tb_4 (List.mem_of_getElem? (i := 15) rfl) rfl
theorem wd_737 : (.instanceMethod yX4_isFine : Cond) ∈ WA := tb_4 (List.mem_of_getElem? (i := 17) rfl) rfl
theorem wd_738 : (.code yX4_isFine cX4_isFine 2 (some .boolean) : Cond) ∈ WA := tb_4 (List.mem_of_getElem? (i := 18) rfl) rfl
theorem wd_739 : (.methodLink RX4 98 yX4_notes : Cond) ∈ WA := tb_4 (List.mem_of_getElem? (i := 19) rfl) rfl
theorem wd_741 : (.instanceMethod yX4_notes : Cond) ∈ WA := tb_4 (List.mem_of_getElem? (i := 21) rfl) rfl
theorem wd_742 : (.code yX4_notes cX4_notes 5 none : Cond) ∈ WA := tb_4 (List.mem_of_getElem? (i := 22) rfl) rfl
theorem wd_743 : (.methodLink RL 113 yX4_move : Cond) ∈ WA := tb_4 (List.mem_of_getElem? (i := 23) rfl) rfl
theorem wd_744 : (.instanceMethod yX4_move : Cond) ∈ WA := tb_4 (List.mem_of_getElem? (i := 24) rfl) rfl
theorem wd_745 : (.selects RX4 yX4_move yX4_move : Cond) ∈ WA := tb_4 (List.mem_of_getElem? (i := 25) rfl) rfl
theorem wd_746 : (.code yX4_move cX4_move 4 (some .int) : Cond) ∈ WA := tb_4 (List.mem_of_getElem? (i := 26) rfl) rfl
theorem wd_747 : (.methodLink RX4 102 yX4_isThere : Cond) ∈ WA := tb_4 (List.mem_of_getElem? (i := 27) rfl) rfl
theorem wd_749 : (.instanceMethod yX4_isThere : Cond) ∈ WA := tb_4 (List.mem_of_getElem? (i := 29) rfl) rfl
theorem wd_750 : (.code yX4_isThere cX4_isThere 2 (some .boolean) : Cond) ∈ WA := tb_4 (List.mem_of_getElem? (i := 30) rfl) rfl
theorem wd_751 : (.methodLink RL 117 yX4_flag : Cond) ∈ WA := tb_4 (List.mem_of_getElem? (i := 31) rfl) rfl
theorem wd_752 : (.instanceMethod yX4_flag : Cond) ∈ WA := tb_4 (List.mem_of_getElem? (i := 32) rfl) rfl
theorem wd_753 : (.selects RX4 yX4_flag yX4_flag : Cond) ∈ WA := tb_4 (List.mem_of_getElem? (i := 33) rfl) rfl
theorem wd_754 : (.code yX4_flag cX4_flag 4 (some .boolean) : Cond) ∈ WA := tb_4 (List.mem_of_getElem? (i := 34) rfl) rfl
theorem wd_755 : (.methodLink RX4 109 yX4_flags : Cond) ∈ WA := tb_4 (List.mem_of_getElem? (i := 35) rfl) rfl
theorem wd_757 : (.instanceMethod yX4_flags : Cond) ∈ WA := tb_4 (List.mem_of_getElem? (i := 37) rfl) rfl
theorem wd_758 : (.code yX4_flags cX4_flags 4 (some .boolean) : Cond) ∈ WA := tb_4 (List.mem_of_getElem? (i := 38) rfl) rfl
theorem wd_759 : (.methodLink RX4 105 yX4_has : Cond) ∈ WA := tb_4 (List.mem_of_getElem? (i := 39) rfl) rfl
theorem wd_760 : (.static yX4_has : Cond) ∈ WA := tb_4 (List.mem_of_getElem? (i := 40) rfl) rfl
theorem wd_761 : (.code yX4_has cX4_has 2 (some .boolean) : Cond) ∈ WA := tb_4 (List.mem_of_getElem? (i := 41) rfl) rfl
theorem wd_762 : (.methodLink RL 121 yX4_flagIf : Cond) ∈ WA := tb_4 (List.mem_of_getElem? (i := 42) rfl) rfl
theorem wd_763 : (.instanceMethod yX4_flagIf : Cond) ∈ WA := tb_4 (List.mem_of_getElem? (i := 43) rfl) rfl
theorem wd_764 : (.selects RX4 yX4_flagIf yX4_flagIf : Cond) ∈ WA := tb_4 (List.mem_of_getElem? (i := 44) rfl) rfl
theorem wd_765 : (.code yX4_flagIf cX4_flagIf 6 (some .boolean) : Cond) ∈ WA := tb_4 (List.mem_of_getElem? (i := 45) rfl) rfl
theorem wd_766 : (.methodLink RL 125 yX4_destroy : Cond) ∈ WA := tb_4 (List.mem_of_getElem? (i := 46) rfl) rfl
theorem wd_767 : (.instanceMethod yX4_destroy : Cond) ∈ WA := tb_4 (List.mem_of_getElem? (i := 47) rfl) rfl
theorem wd_768 : (.selects RX4 yX4_destroy yX4_destroy : Cond) ∈ WA := tb_4 (List.mem_of_getElem? (i := 48) rfl) rfl
theorem wd_769 : (.code yX4_destroy cX4_destroy 2 (some .int) : Cond) ∈ WA := tb_4 (List.mem_of_getElem? (i := 49) rfl) rfl
theorem wd_770 : (.methodLink RL 129 yX4_state : Cond) ∈ WA := tb_4 (List.mem_of_getElem? (i := 50) rfl) rfl
theorem wd_771 : (.instanceMethod yX4_state : Cond) ∈ WA := tb_4 (List.mem_of_getElem? (i := 51) rfl) rfl
theorem wd_772 : (.selects RX4 yX4_state yX4_state : Cond) ∈ WA := tb_4 (List.mem_of_getElem? (i := 52) rfl) rfl
theorem wd_773 : (.code yX4_state cX4_state 1 (some .int) : Cond) ∈ WA := tb_4 (List.mem_of_getElem? (i := 53) rfl) rfl
theorem wd_774 : (.methodLink RL 133 yX4_mails : Cond) ∈ WA := tb_4 (List.mem_of_getElem? (i := 54) rfl) rfl
theorem wd_775 : (.instanceMethod yX4_mails : Cond) ∈ WA := tb_4 (List.mem_of_getElem? (i := 55) rfl) rfl
theorem wd_776 : (.selects RX4 yX4_mails yX4_mails : Cond) ∈ WA := tb_4 (List.mem_of_getElem? (i := 56) rfl) rfl
theorem wd_777 : (.code yX4_mails cX4_mails 3 (some .int) : Cond) ∈ WA := tb_4 (List.mem_of_getElem? (i := 57) rfl) rfl
theorem wd_778 : (.methodLink RL 136 yX4_keywords : Cond) ∈ WA := tb_4 (List.mem_of_getElem? (i := 58) rfl) rfl
theorem wd_779 : (.instanceMethod yX4_keywords : Cond) ∈ WA := tb_4 (List.mem_of_getElem? (i := 59) rfl) rfl
theorem wd_780 : (.selects RX4 yX4_keywords yX4_keywords : Cond) ∈ WA := tb_4 (List.mem_of_getElem? (i := 60) rfl) rfl
theorem wd_781 : (.code yX4_keywords cX4_keywords 2 (some .int) : Cond) ∈ WA := tb_4 (List.mem_of_getElem? (i := 61) rfl) rfl
theorem wd_782 : (.methodLink RL 139 yX4_inThread : Cond) ∈ WA := tb_4 (List.mem_of_getElem? (i := 62) rfl) rfl
theorem wd_783 : (.instanceMethod yX4_inThread : Cond) ∈ WA := tb_4 (List.mem_of_getElem? (i := 63) rfl) rfl
theorem wd_784 : (.selects RX4 yX4_inThread yX4_inThread : Cond) ∈ WA := tb_4 (List.mem_of_getElem? (i := 64) rfl) rfl
theorem wd_785 : (.code yX4_inThread cX4_inThread 4 (some .int) : Cond) ∈ WA := tb_4 (List.mem_of_getElem? (i := 65) rfl) rfl
theorem wd_786 : (.methodLink RL 143 yX4_share : Cond) ∈ WA := tb_4 (List.mem_of_getElem? (i := 66) rfl) rfl
theorem wd_787 : (.instanceMethod yX4_share : Cond) ∈ WA := tb_4 (List.mem_of_getElem? (i := 67) rfl) rfl
theorem wd_788 : (.selects RX4 yX4_share yX4_share : Cond) ∈ WA := tb_4 (List.mem_of_getElem? (i := 68) rfl) rfl
theorem wd_789 : (.code yX4_share cX4_share 4 (some .float) : Cond) ∈ WA := tb_4 (List.mem_of_getElem? (i := 69) rfl) rfl
theorem wd_790 : (.methodLink RX4 115 yX4_count : Cond) ∈ WA := tb_4 (List.mem_of_getElem? (i := 70) rfl) rfl
theorem wd_792 : (.instanceMethod yX4_count : Cond) ∈ WA := tb_4 (List.mem_of_getElem? (i := 72) rfl) rfl
theorem wd_793 : (.code yX4_count cX4_count 5 (some .int) : Cond) ∈ WA := tb_4 (List.mem_of_getElem? (i := 73) rfl) rfl
theorem wd_794 : (.methodLink RX4 112 yX4_isFound : Cond) ∈ WA := tb_4 (List.mem_of_getElem? (i := 74) rfl) rfl
theorem wd_796 : (.instanceMethod yX4_isFound : Cond) ∈ WA := tb_4 (List.mem_of_getElem? (i := 76) rfl) rfl
theorem wd_797 : (.code yX4_isFound cX4_isFound 4 (some .boolean) : Cond) ∈ WA := tb_4 (List.mem_of_getElem? (i := 77) rfl) rfl
theorem wd_798 : (.methodLink RL 146 yX4_canTell : Cond) ∈ WA := tb_4 (List.mem_of_getElem? (i := 78) rfl) rfl
theorem wd_799 : (.instanceMethod yX4_canTell : Cond) ∈ WA := tb_4 (List.mem_of_getElem? (i := 79) rfl) rfl
theorem wd_800 : (.selects RX4 yX4_canTell yX4_canTell : Cond) ∈ WA := tb_4 (List.mem_of_getElem? (i := 80) rfl) rfl
theorem wd_801 : (.code yX4_canTell cX4_canTell 2 (some .boolean) : Cond) ∈ WA := tb_4 (List.mem_of_getElem? (i := 81) rfl) rfl
theorem wd_802 : (.methodLink RX4 119 yX4_isState : Cond) ∈ WA := tb_4 (List.mem_of_getElem? (i := 82) rfl) rfl
theorem wd_804 : (.instanceMethod yX4_isState : Cond) ∈ WA := tb_4 (List.mem_of_getElem? (i := 84) rfl) rfl
theorem wd_805 : (.code yX4_isState cX4_isState 2 (some .boolean) : Cond) ∈ WA := tb_4 (List.mem_of_getElem? (i := 85) rfl) rfl
theorem wd_806 : (.methodLink RX4 122 yX4_tells : Cond) ∈ WA := tb_4 (List.mem_of_getElem? (i := 86) rfl) rfl
theorem wd_808 : (.instanceMethod yX4_tells : Cond) ∈ WA := tb_4 (List.mem_of_getElem? (i := 88) rfl) rfl
theorem wd_809 : (.code yX4_tells cX4_tells 2 (some .boolean) : Cond) ∈ WA := tb_4 (List.mem_of_getElem? (i := 89) rfl) rfl
theorem wd_810 : (.methodLink RL 149 yX4_changed : Cond) ∈ WA := tb_4 (List.mem_of_getElem? (i := 90) rfl) rfl
theorem wd_811 : (.instanceMethod yX4_changed : Cond) ∈ WA := tb_4 (List.mem_of_getElem? (i := 91) rfl) rfl
theorem wd_812 : (.selects RX4 yX4_changed yX4_changed : Cond) ∈ WA := tb_4 (List.mem_of_getElem? (i := 92) rfl) rfl
theorem wd_813 : (.code yX4_changed cX4_changed 3 (some .int) : Cond) ∈ WA := tb_4 (List.mem_of_getElem? (i := 93) rfl) rfl
theorem wd_814 : (.methodLink RX4 134 yX4_placeOf : Cond) ∈ WA := tb_4 (List.mem_of_getElem? (i := 94) rfl) rfl
theorem wd_816 : (.instanceMethod yX4_placeOf : Cond) ∈ WA := tb_4 (List.mem_of_getElem? (i := 96) rfl) rfl
theorem wd_817 : (.code yX4_placeOf cX4_placeOf 3 (some .int) : Cond) ∈ WA := tb_4 (List.mem_of_getElem? (i := 97) rfl) rfl
theorem wd_818 : (.methodLink RX4 137 yX4_countChanged : Cond) ∈ WA := tb_4 (List.mem_of_getElem? (i := 98) rfl) rfl
theorem wd_820 : (.instanceMethod yX4_countChanged : Cond) ∈ WA := tb_4 (List.mem_of_getElem? (i := 100) rfl) rfl
theorem wd_821 : (.code yX4_countChanged cX4_countChanged 5 (some .int) : Cond) ∈ WA := tb_4 (List.mem_of_getElem? (i := 101) rfl) rfl
theorem wd_822 : (.methodLink RX4 131 yX4_changedSo : Cond) ∈ WA := tb_4 (List.mem_of_getElem? (i := 102) rfl) rfl
theorem wd_824 : (.instanceMethod yX4_changedSo : Cond) ∈ WA := tb_4 (List.mem_of_getElem? (i := 104) rfl) rfl
theorem wd_825 : (.code yX4_changedSo cX4_changedSo 6 (some .boolean) : Cond) ∈ WA := tb_4 (List.mem_of_getElem? (i := 105) rfl) rfl
theorem wd_826 : (.methodLink RX4 125 yX4_wasThere : Cond) ∈ WA := tb_4 (List.mem_of_getElem? (i := 106) rfl) rfl
theorem wd_828 : (.instanceMethod yX4_wasThere : Cond) ∈ WA := tb_4 (List.mem_of_getElem? (i := 108) rfl) rfl
theorem wd_829 : (.code yX4_wasThere cX4_wasThere 3 (some .boolean) : Cond) ∈ WA := tb_4 (List.mem_of_getElem? (i := 109) rfl) rfl
theorem wd_830 : (.methodLink RX4 128 yX4_isChanged : Cond) ∈ WA := tb_4 (List.mem_of_getElem? (i := 110) rfl) rfl
theorem wd_832 : (.instanceMethod yX4_isChanged : Cond) ∈ WA := tb_4 (List.mem_of_getElem? (i := 112) rfl) rfl
theorem wd_833 : (.code yX4_isChanged cX4_isChanged 5 (some .boolean) : Cond) ∈ WA := tb_4 (List.mem_of_getElem? (i := 113) rfl) rfl
theorem wd_834 : (.methodLink RL 152 yX4_changedAt : Cond) ∈ WA := tb_4 (List.mem_of_getElem? (i := 114) rfl) rfl
theorem wd_835 : (.instanceMethod yX4_changedAt : Cond) ∈ WA := tb_4 (List.mem_of_getElem? (i := 115) rfl) rfl
theorem wd_836 : (.selects RX4 yX4_changedAt yX4_changedAt : Cond) ∈ WA := tb_4 (List.mem_of_getElem? (i := 116) rfl) rfl
theorem wd_837 : (.code yX4_changedAt cX4_changedAt 7 (some .int) : Cond) ∈ WA := tb_4 (List.mem_of_getElem? (i := 117) rfl) rfl
theorem wd_838 : (.methodLink RL 155 yX4_page : Cond) ∈ WA := tb_4 (List.mem_of_getElem? (i := 118) rfl) rfl
theorem wd_839 : (.instanceMethod yX4_page : Cond) ∈ WA := tb_4 (List.mem_of_getElem? (i := 119) rfl) rfl
theorem wd_840 : (.selects RX4 yX4_page yX4_page : Cond) ∈ WA := tb_4 (List.mem_of_getElem? (i := 120) rfl) rfl
theorem wd_841 : (.code yX4_page cX4_page 7 (some .int) : Cond) ∈ WA := tb_4 (List.mem_of_getElem? (i := 121) rfl) rfl
theorem wd_842 : (.methodLink RL 158 yX4_found : Cond) ∈ WA := tb_4 (List.mem_of_getElem? (i := 122) rfl) rfl
theorem wd_843 : (.instanceMethod yX4_found : Cond) ∈ WA := tb_4 (List.mem_of_getElem? (i := 123) rfl) rfl
theorem wd_844 : (.selects RX4 yX4_found yX4_found : Cond) ∈ WA := tb_4 (List.mem_of_getElem? (i := 124) rfl) rfl
theorem wd_845 : (.code yX4_found cX4_found 3 (some .int) : Cond) ∈ WA := tb_4 (List.mem_of_getElem? (i := 125) rfl) rfl
theorem wd_846 : (.methodLink RX4 140 yX4_isQuery : Cond) ∈ WA := tb_4 (List.mem_of_getElem? (i := 126) rfl) rfl
theorem wd_847 : (.static yX4_isQuery : Cond) ∈ WA := tb_4 (List.mem_of_getElem? (i := 127) rfl) rfl
theorem wd_848 : (.code yX4_isQuery cX4_isQuery 2 (some .boolean) : Cond) ∈ WA := tb_4 (List.mem_of_getElem? (i := 128) rfl) rfl
theorem wd_849 : (.methodLink RL 161 yX4_foundAt : Cond) ∈ WA := tb_4 (List.mem_of_getElem? (i := 129) rfl) rfl
theorem wd_850 : (.instanceMethod yX4_foundAt : Cond) ∈ WA := tb_4 (List.mem_of_getElem? (i := 130) rfl) rfl
theorem wd_851 : (.selects RX4 yX4_foundAt yX4_foundAt : Cond) ∈ WA := tb_4 (List.mem_of_getElem? (i := 131) rfl) rfl
theorem wd_852 : (.code yX4_foundAt cX4_foundAt 5 (some .int) : Cond) ∈ WA := tb_4 (List.mem_of_getElem? (i := 132) rfl) rfl
theorem wd_853 : (.methodLink RX4 143 yX4_foundOne : Cond) ∈ WA := tb_4 (List.mem_of_getElem? (i := 133) rfl) rfl
theorem wd_855 : (.instanceMethod yX4_foundOne : Cond) ∈ WA := tb_4 (List.mem_of_getElem? (i := 135) rfl) rfl
theorem wd_856 : (.code yX4_foundOne cX4_foundOne 8 (some .int) : Cond) ∈ WA := tb_4 (List.mem_of_getElem? (i := 136) rfl) rfl
theorem wd_857 : (.methodLink RL 164 yX4_removed : Cond) ∈ WA := tb_4 (List.mem_of_getElem? (i := 137) rfl) rfl
theorem wd_858 : (.instanceMethod yX4_removed : Cond) ∈ WA := tb_4 (List.mem_of_getElem? (i := 138) rfl) rfl
theorem wd_859 : (.selects RX4 yX4_removed yX4_removed : Cond) ∈ WA := tb_4 (List.mem_of_getElem? (i := 139) rfl) rfl
theorem wd_860 : (.code yX4_removed cX4_removed 6 (some .int) : Cond) ∈ WA := tb_4 (List.mem_of_getElem? (i := 140) rfl) rfl
theorem wd_861 : (.methodLink RX4 147 yX4_wasFound : Cond) ∈ WA := tb_4 (List.mem_of_getElem? (i := 141) rfl) rfl
theorem wd_863 : (.instanceMethod yX4_wasFound : Cond) ∈ WA := tb_4 (List.mem_of_getElem? (i := 143) rfl) rfl
theorem wd_864 : (.code yX4_wasFound cX4_wasFound 8 (some .boolean) : Cond) ∈ WA := tb_4 (List.mem_of_getElem? (i := 144) rfl) rfl
theorem wd_865 : (.methodLink RL 167 yX4_added : Cond) ∈ WA := tb_4 (List.mem_of_getElem? (i := 145) rfl) rfl
theorem wd_866 : (.instanceMethod yX4_added : Cond) ∈ WA := tb_4 (List.mem_of_getElem? (i := 146) rfl) rfl
theorem wd_867 : (.selects RX4 yX4_added yX4_added : Cond) ∈ WA := tb_4 (List.mem_of_getElem? (i := 147) rfl) rfl
theorem wd_868 : (.code yX4_added cX4_added 6 (some .int) : Cond) ∈ WA := tb_4 (List.mem_of_getElem? (i := 148) rfl) rfl
theorem wd_869 : (.methodLink RL 171 yX4_watch : Cond) ∈ WA := tb_4 (List.mem_of_getElem? (i := 149) rfl) rfl
theorem wd_870 : (.instanceMethod yX4_watch : Cond) ∈ WA := tb_4 (List.mem_of_getElem? (i := 150) rfl) rfl
theorem wd_871 : (.selects RX4 yX4_watch yX4_watch : Cond) ∈ WA := tb_4 (List.mem_of_getElem? (i := 151) rfl) rfl
theorem wd_872 : (.code yX4_watch cX4_watch 4 none : Cond) ∈ WA := tb_4 (List.mem_of_getElem? (i := 152) rfl) rfl
theorem wd_873 : (.methodLink RX4 151 yX4_isClient : Cond) ∈ WA := tb_4 (List.mem_of_getElem? (i := 153) rfl) rfl
theorem wd_874 : (.static yX4_isClient : Cond) ∈ WA := tb_4 (List.mem_of_getElem? (i := 154) rfl) rfl
theorem wd_875 : (.code yX4_isClient cX4_isClient 1 (some .boolean) : Cond) ∈ WA := tb_4 (List.mem_of_getElem? (i := 155) rfl) rfl
theorem wd_876 : (.methodLink RL 175 yX4_flagOffline : Cond) ∈ WA := tb_4 (List.mem_of_getElem? (i := 156) rfl) rfl
theorem wd_877 : (.instanceMethod yX4_flagOffline : Cond) ∈ WA := tb_4 (List.mem_of_getElem? (i := 157) rfl) rfl
theorem wd_878 : (.selects RX4 yX4_flagOffline yX4_flagOffline : Cond) ∈ WA := tb_4 (List.mem_of_getElem? (i := 158) rfl) rfl
theorem wd_879 : (.code yX4_flagOffline cX4_flagOffline 8 (some .int) : Cond) ∈ WA := tb_4 (List.mem_of_getElem? (i := 159) rfl) rfl
theorem wd_880 : (.methodLink RX4 154 yX4_windowPlace : Cond) ∈ WA := tb_4 (List.mem_of_getElem? (i := 160) rfl) rfl
theorem wd_882 : (.instanceMethod yX4_windowPlace : Cond) ∈ WA := tb_4 (List.mem_of_getElem? (i := 162) rfl) rfl
theorem wd_883 : (.code yX4_windowPlace cX4_windowPlace 5 (some .int) : Cond) ∈ WA := tb_4 (List.mem_of_getElem? (i := 163) rfl) rfl
theorem wd_884 : (.methodLink RL 178 yX4_sync : Cond) ∈ WA := tb_4 (List.mem_of_getElem? (i := 164) rfl) rfl
theorem wd_885 : (.instanceMethod yX4_sync : Cond) ∈ WA := tb_4 (List.mem_of_getElem? (i := 165) rfl) rfl
theorem wd_886 : (.selects RX4 yX4_sync yX4_sync : Cond) ∈ WA := tb_4 (List.mem_of_getElem? (i := 166) rfl) rfl
theorem wd_887 : (.code yX4_sync cX4_sync 8 (some .int) : Cond) ∈ WA := tb_4 (List.mem_of_getElem? (i := 167) rfl) rfl
theorem wd_888 : (.methodLink RX4 157 yX4_isOtherwise : Cond) ∈ WA := tb_4 (List.mem_of_getElem? (i := 168) rfl) rfl
theorem wd_890 : (.instanceMethod yX4_isOtherwise : Cond) ∈ WA := tb_4 (List.mem_of_getElem? (i := 170) rfl) rfl
theorem wd_891 : (.code yX4_isOtherwise cX4_isOtherwise 8 (some .boolean) : Cond) ∈ WA := tb_4 (List.mem_of_getElem? (i := 171) rfl) rfl
theorem wd_892 : (.methodLink RX4 161 yX4_takes : Cond) ∈ WA := tb_4 (List.mem_of_getElem? (i := 172) rfl) rfl
theorem wd_894 : (.instanceMethod yX4_takes : Cond) ∈ WA := tb_4 (List.mem_of_getElem? (i := 174) rfl) rfl
theorem wd_895 : (.code yX4_takes cX4_takes 4 none : Cond) ∈ WA := tb_4 (List.mem_of_getElem? (i := 175) rfl) rfl
theorem wd_896 : (.methodLink RL 181 yX4_stateOf : Cond) ∈ WA := tb_4 (List.mem_of_getElem? (i := 176) rfl) rfl
theorem wd_897 : (.instanceMethod yX4_stateOf : Cond) ∈ WA := tb_4 (List.mem_of_getElem? (i := 177) rfl) rfl
theorem wd_898 : (.selects RX4 yX4_stateOf yX4_stateOf : Cond) ∈ WA := tb_4 (List.mem_of_getElem? (i := 178) rfl) rfl
theorem wd_899 : (.code yX4_stateOf cX4_stateOf 2 (some .int) : Cond) ∈ WA := tb_4 (List.mem_of_getElem? (i := 179) rfl) rfl
theorem wd_900 : (.methodLink RL 184 yX4_window : Cond) ∈ WA := tb_4 (List.mem_of_getElem? (i := 180) rfl) rfl
theorem wd_901 : (.instanceMethod yX4_window : Cond) ∈ WA := tb_4 (List.mem_of_getElem? (i := 181) rfl) rfl
theorem wd_902 : (.selects RX4 yX4_window yX4_window : Cond) ∈ WA := tb_4 (List.mem_of_getElem? (i := 182) rfl) rfl
theorem wd_903 : (.code yX4_window cX4_window 2 (some .int) : Cond) ∈ WA := tb_4 (List.mem_of_getElem? (i := 183) rfl) rfl
theorem wd_904 : (.methodLink RL 187 yX4_windowAt : Cond) ∈ WA := tb_4 (List.mem_of_getElem? (i := 184) rfl) rfl
theorem wd_905 : (.instanceMethod yX4_windowAt : Cond) ∈ WA := tb_4 (List.mem_of_getElem? (i := 185) rfl) rfl
theorem wd_906 : (.selects RX4 yX4_windowAt yX4_windowAt : Cond) ∈ WA := tb_4 (List.mem_of_getElem? (i := 186) rfl) rfl
theorem wd_907 : (.code yX4_windowAt cX4_windowAt 4 (some .int) : Cond) ∈ WA := tb_4 (List.mem_of_getElem? (i := 187) rfl) rfl
theorem wd_908 : (.methodLink RL 190 yX4_known : Cond) ∈ WA := tb_4 (List.mem_of_getElem? (i := 188) rfl) rfl
theorem wd_909 : (.instanceMethod yX4_known : Cond) ∈ WA := tb_4 (List.mem_of_getElem? (i := 189) rfl) rfl
theorem wd_910 : (.selects RX4 yX4_known yX4_known : Cond) ∈ WA := tb_4 (List.mem_of_getElem? (i := 190) rfl) rfl
theorem wd_911 : (.code yX4_known cX4_known 4 (some .int) : Cond) ∈ WA := tb_4 (List.mem_of_getElem? (i := 191) rfl) rfl
theorem wd_912 : (.methodLink RL 193 yX4_freshLoads : Cond) ∈ WA := tb_4 (List.mem_of_getElem? (i := 192) rfl) rfl
theorem wd_913 : (.instanceMethod yX4_freshLoads : Cond) ∈ WA := tb_4 (List.mem_of_getElem? (i := 193) rfl) rfl
theorem wd_914 : (.selects RX4 yX4_freshLoads yX4_freshLoads : Cond) ∈ WA := tb_4 (List.mem_of_getElem? (i := 194) rfl) rfl
theorem wd_915 : (.code yX4_freshLoads cX4_freshLoads 2 (some .int) : Cond) ∈ WA := tb_4 (List.mem_of_getElem? (i := 195) rfl) rfl
theorem wd_916 : (.arrayClass .long : Cond) ∈ WA := tb_4 (List.mem_of_getElem? (i := 196) rfl) rfl
theorem wd_917 : (.arrayClass .double : Cond) ∈ WA := tb_4 (List.mem_of_getElem? (i := 197) rfl) rfl
theorem wd_918 : (.sameMethod "java/lang/Throwable" "java/lang/Throwable" "fillInStackTrace" "(I)Ljava/lang/Throwable;" : Cond) ∈ WA := tb_4 (List.mem_of_getElem? (i := 198) rfl) rfl
theorem wp_1 : (.selects RX2 yX2_putInOrder yX2_putInOrder : Cond) ∈ WA := tb_p (List.mem_of_getElem? (i := 1) rfl) rfl
theorem wp_2 : (.selects RX2 yX2_timeOf yX2_timeOf : Cond) ∈ WA := tb_p (List.mem_of_getElem? (i := 2) rfl) rfl
theorem wp_3 : (.selects RX3 yX3_isState yX3_isState : Cond) ∈ WA := tb_p (List.mem_of_getElem? (i := 3) rfl) rfl
theorem wp_4 : (.selects RX3 yX3_requireTelling yX3_requireTelling : Cond) ∈ WA := tb_p (List.mem_of_getElem? (i := 4) rfl) rfl
theorem wp_5 : (.selects RX0 yX0_countBehind yX0_countBehind : Cond) ∈ WA := tb_p (List.mem_of_getElem? (i := 5) rfl) rfl
theorem wp_6 : (.selects RX3 yX3_clientOf yX3_clientOf : Cond) ∈ WA := tb_p (List.mem_of_getElem? (i := 6) rfl) rfl
theorem wp_7 : (.selects RX1 yX1_list yX1_list : Cond) ∈ WA := tb_p (List.mem_of_getElem? (i := 7) rfl) rfl
theorem wp_8 : (.selects RX1 yX1_isConflict yX1_isConflict : Cond) ∈ WA := tb_p (List.mem_of_getElem? (i := 8) rfl) rfl
theorem wp_9 : (.selects RX4 yX4_isFine yX4_isFine : Cond) ∈ WA := tb_p (List.mem_of_getElem? (i := 9) rfl) rfl
theorem wp_10 : (.selects RX4 yX4_notes yX4_notes : Cond) ∈ WA := tb_p (List.mem_of_getElem? (i := 10) rfl) rfl
theorem wp_11 : (.selects RX4 yX4_isThere yX4_isThere : Cond) ∈ WA := tb_p (List.mem_of_getElem? (i := 11) rfl) rfl
theorem wp_12 : (.selects RX4 yX4_flags yX4_flags : Cond) ∈ WA := tb_p (List.mem_of_getElem? (i := 12) rfl) rfl
theorem wp_13 : (.selects RX4 yX4_count yX4_count : Cond) ∈ WA := tb_p (List.mem_of_getElem? (i := 13) rfl) rfl
theorem wp_14 : (.selects RX4 yX4_isFound yX4_isFound : Cond) ∈ WA := tb_p (List.mem_of_getElem? (i := 14) rfl) rfl
theorem wp_15 : (.selects RX4 yX4_isState yX4_isState : Cond) ∈ WA := tb_p (List.mem_of_getElem? (i := 15) rfl) rfl
theorem wp_16 : (.selects RX4 yX4_tells yX4_tells : Cond) ∈ WA := tb_p (List.mem_of_getElem? (i := 16) rfl) rfl
theorem wp_17 : (.selects RX4 yX4_placeOf yX4_placeOf : Cond) ∈ WA := tb_p (List.mem_of_getElem? (i := 17) rfl) rfl
theorem wp_18 : (.selects RX4 yX4_countChanged yX4_countChanged : Cond) ∈ WA := tb_p (List.mem_of_getElem? (i := 18) rfl) rfl
theorem wp_19 : (.selects RX4 yX4_changedSo yX4_changedSo : Cond) ∈ WA := tb_p (List.mem_of_getElem? (i := 19) rfl) rfl
theorem wp_20 : (.selects RX4 yX4_wasThere yX4_wasThere : Cond) ∈ WA := tb_p (List.mem_of_getElem? (i := 20) rfl) rfl
theorem wp_21 : (.selects RX4 yX4_isChanged yX4_isChanged : Cond) ∈ WA := tb_p (List.mem_of_getElem? (i := 21) rfl) rfl
theorem wp_22 : (.selects RX4 yX4_foundOne yX4_foundOne : Cond) ∈ WA := tb_p (List.mem_of_getElem? (i := 22) rfl) rfl
theorem wp_23 : (.selects RX4 yX4_wasFound yX4_wasFound : Cond) ∈ WA := tb_p (List.mem_of_getElem? (i := 23) rfl) rfl
theorem wp_24 : (.selects RX4 yX4_windowPlace yX4_windowPlace : Cond) ∈ WA := tb_p (List.mem_of_getElem? (i := 24) rfl) rfl
theorem wp_25 : (.selects RX4 yX4_isOtherwise yX4_isOtherwise : Cond) ∈ WA := tb_p (List.mem_of_getElem? (i := 25) rfl) rfl
theorem wp_26 : (.selects RX4 yX4_takes yX4_takes : Cond) ∈ WA := tb_p (List.mem_of_getElem? (i := 26) rfl) rfl
theorem wl_X0_0 : u_lay RX0 TX0 0 ∈ WA := tb_1 (List.mem_of_getElem? (i := 41) rfl) rfl
theorem wl_X0_1 : u_lay RX0 TX0 1 ∈ WA := tb_1 (List.mem_of_getElem? (i := 43) rfl) rfl
theorem wl_X0_2 : u_lay RX0 TX0 2 ∈ WA := tb_1 (List.mem_of_getElem? (i := 45) rfl) rfl
theorem wl_X0_3 : u_lay RX0 TX0 3 ∈ WA := tb_1 (List.mem_of_getElem? (i := 47) rfl) rfl
theorem wl_X0_4 : u_lay RX0 TX0 4 ∈ WA := tb_1 (List.mem_of_getElem? (i := 49) rfl) rfl
theorem uwX0 : ∀ w ∈ u_ws RX0 TX0 5, w ∈ WA := by
  intro w hw
  obtain ⟨k, hk, rfl⟩ := List.mem_map.mp hw
  have hk := List.mem_range.mp hk
  match k, hk with
  | 0, _ => exact wl_X0_0
  | 1, _ => exact wl_X0_1
  | 2, _ => exact wl_X0_2
  | 3, _ => exact wl_X0_3
  | 4, _ => exact wl_X0_4
  | k + 5, hk => exact absurd hk (by omega)
theorem wl_X1_0 : u_lay RX1 TX1 0 ∈ WA := tb_1 (List.mem_of_getElem? (i := 102) rfl) rfl
theorem wl_X1_1 : u_lay RX1 TX1 1 ∈ WA := tb_1 (List.mem_of_getElem? (i := 104) rfl) rfl
theorem wl_X1_2 : u_lay RX1 TX1 2 ∈ WA := tb_1 (List.mem_of_getElem? (i := 106) rfl) rfl
theorem wl_X1_3 : u_lay RX1 TX1 3 ∈ WA := tb_1 (List.mem_of_getElem? (i := 108) rfl) rfl
theorem wl_X1_4 : u_lay RX1 TX1 4 ∈ WA := tb_1 (List.mem_of_getElem? (i := 110) rfl) rfl
theorem wl_X1_5 : u_lay RX1 TX1 5 ∈ WA := tb_1 (List.mem_of_getElem? (i := 112) rfl) rfl
theorem wl_X1_6 : u_lay RX1 TX1 6 ∈ WA := tb_1 (List.mem_of_getElem? (i := 114) rfl) rfl
theorem wl_X1_7 : u_lay RX1 TX1 7 ∈ WA := tb_1 (List.mem_of_getElem? (i := 116) rfl) rfl
theorem wl_X1_8 : u_lay RX1 TX1 8 ∈ WA := tb_1 (List.mem_of_getElem? (i := 118) rfl) rfl
theorem wl_X1_9 : u_lay RX1 TX1 9 ∈ WA := tb_1 (List.mem_of_getElem? (i := 120) rfl) rfl
theorem wl_X1_10 : u_lay RX1 TX1 10 ∈ WA := tb_1 (List.mem_of_getElem? (i := 122) rfl) rfl
theorem uwX1 : ∀ w ∈ u_ws RX1 TX1 11, w ∈ WA := by
  intro w hw
  obtain ⟨k, hk, rfl⟩ := List.mem_map.mp hw
  have hk := List.mem_range.mp hk
  match k, hk with
  | 0, _ => exact wl_X1_0
  | 1, _ => exact wl_X1_1
  | 2, _ => exact wl_X1_2
  | 3, _ => exact wl_X1_3
  | 4, _ => exact wl_X1_4
  | 5, _ => exact wl_X1_5
  | 6, _ => exact wl_X1_6
  | 7, _ => exact wl_X1_7
  | 8, _ => exact wl_X1_8
  | 9, _ => exact wl_X1_9
  | 10, _ => exact wl_X1_10
  | k + 11, hk => exact absurd hk (by omega)
theorem wl_X2_0 : u_lay RX2 TX2 0 ∈ WA := tb_1 (List.mem_of_getElem? (i := 63) rfl) rfl
theorem wl_X2_1 : u_lay RX2 TX2 1 ∈ WA := tb_1 (List.mem_of_getElem? (i := 65) rfl) rfl
theorem wl_X2_2 : u_lay RX2 TX2 2 ∈ WA := tb_1 (List.mem_of_getElem? (i := 67) rfl) rfl
theorem wl_X2_3 : u_lay RX2 TX2 3 ∈ WA := tb_1 (List.mem_of_getElem? (i := 69) rfl) rfl
theorem wl_X2_4 : u_lay RX2 TX2 4 ∈ WA := tb_1 (List.mem_of_getElem? (i := 71) rfl) rfl
theorem wl_X2_5 : u_lay RX2 TX2 5 ∈ WA := tb_1 (List.mem_of_getElem? (i := 73) rfl) rfl
theorem wl_X2_6 : u_lay RX2 TX2 6 ∈ WA := tb_1 (List.mem_of_getElem? (i := 75) rfl) rfl
theorem uwX2 : ∀ w ∈ u_ws RX2 TX2 7, w ∈ WA := by
  intro w hw
  obtain ⟨k, hk, rfl⟩ := List.mem_map.mp hw
  have hk := List.mem_range.mp hk
  match k, hk with
  | 0, _ => exact wl_X2_0
  | 1, _ => exact wl_X2_1
  | 2, _ => exact wl_X2_2
  | 3, _ => exact wl_X2_3
  | 4, _ => exact wl_X2_4
  | 5, _ => exact wl_X2_5
  | 6, _ => exact wl_X2_6
  | k + 7, hk => exact absurd hk (by omega)
theorem wl_X3_0 : u_lay RX3 TX3 0 ∈ WA := tb_1 (List.mem_of_getElem? (i := 129) rfl) rfl
theorem wl_X3_1 : u_lay RX3 TX3 1 ∈ WA := tb_1 (List.mem_of_getElem? (i := 131) rfl) rfl
theorem wl_X3_2 : u_lay RX3 TX3 2 ∈ WA := tb_1 (List.mem_of_getElem? (i := 133) rfl) rfl
theorem uwX3 : ∀ w ∈ u_ws RX3 TX3 3, w ∈ WA := by
  intro w hw
  obtain ⟨k, hk, rfl⟩ := List.mem_map.mp hw
  have hk := List.mem_range.mp hk
  match k, hk with
  | 0, _ => exact wl_X3_0
  | 1, _ => exact wl_X3_1
  | 2, _ => exact wl_X3_2
  | k + 3, hk => exact absurd hk (by omega)
theorem wl_X4_0 : u_lay RX4 TX4 0 ∈ WA := tb_3 (List.mem_of_getElem? (i := 191) rfl) rfl
theorem wl_X4_1 : u_lay RX4 TX4 1 ∈ WA := tb_3 (List.mem_of_getElem? (i := 193) rfl) rfl
theorem wl_X4_2 : u_lay RX4 TX4 2 ∈ WA := tb_3 (List.mem_of_getElem? (i := 195) rfl) rfl
theorem wl_X4_3 : u_lay RX4 TX4 3 ∈ WA := tb_3 (List.mem_of_getElem? (i := 197) rfl) rfl
theorem wl_X4_4 : u_lay RX4 TX4 4 ∈ WA := tb_3 (List.mem_of_getElem? (i := 199) rfl) rfl
theorem wl_X4_5 : u_lay RX4 TX4 5 ∈ WA := tb_3 (List.mem_of_getElem? (i := 201) rfl) rfl
theorem wl_X4_6 : u_lay RX4 TX4 6 ∈ WA := tb_3 (List.mem_of_getElem? (i := 203) rfl) rfl
theorem wl_X4_7 : u_lay RX4 TX4 7 ∈ WA := tb_3 (List.mem_of_getElem? (i := 205) rfl) rfl
theorem wl_X4_8 : u_lay RX4 TX4 8 ∈ WA := tb_3 (List.mem_of_getElem? (i := 207) rfl) rfl
theorem wl_X4_9 : u_lay RX4 TX4 9 ∈ WA := tb_3 (List.mem_of_getElem? (i := 209) rfl) rfl
theorem wl_X4_10 : u_lay RX4 TX4 10 ∈ WA := tb_3 (List.mem_of_getElem? (i := 211) rfl) rfl
theorem wl_X4_11 : u_lay RX4 TX4 11 ∈ WA := tb_3 (List.mem_of_getElem? (i := 213) rfl) rfl
theorem wl_X4_12 : u_lay RX4 TX4 12 ∈ WA := tb_3 (List.mem_of_getElem? (i := 215) rfl) rfl
theorem wl_X4_13 : u_lay RX4 TX4 13 ∈ WA := tb_3 (List.mem_of_getElem? (i := 217) rfl) rfl
theorem wl_X4_14 : u_lay RX4 TX4 14 ∈ WA := tb_3 (List.mem_of_getElem? (i := 219) rfl) rfl
theorem wl_X4_15 : u_lay RX4 TX4 15 ∈ WA := tb_3 (List.mem_of_getElem? (i := 221) rfl) rfl
theorem wl_X4_16 : u_lay RX4 TX4 16 ∈ WA := tb_3 (List.mem_of_getElem? (i := 223) rfl) rfl
theorem wl_X4_17 : u_lay RX4 TX4 17 ∈ WA := tb_3 (List.mem_of_getElem? (i := 225) rfl) rfl
theorem wl_X4_18 : u_lay RX4 TX4 18 ∈ WA := tb_3 (List.mem_of_getElem? (i := 227) rfl) rfl
theorem wl_X4_19 : u_lay RX4 TX4 19 ∈ WA := tb_3 (List.mem_of_getElem? (i := 229) rfl) rfl
theorem wl_X4_20 : u_lay RX4 TX4 20 ∈ WA := tb_3 (List.mem_of_getElem? (i := 231) rfl) rfl
theorem wl_X4_21 : u_lay RX4 TX4 21 ∈ WA := tb_3 (List.mem_of_getElem? (i := 233) rfl) rfl
theorem wl_X4_22 : u_lay RX4 TX4 22 ∈ WA := tb_3 (List.mem_of_getElem? (i := 235) rfl) rfl
theorem wl_X4_23 : u_lay RX4 TX4 23 ∈ WA := tb_3 (List.mem_of_getElem? (i := 237) rfl) rfl
theorem wl_X4_24 : u_lay RX4 TX4 24 ∈ WA := tb_3 (List.mem_of_getElem? (i := 239) rfl) rfl
theorem wl_X4_25 : u_lay RX4 TX4 25 ∈ WA := tb_4 (List.mem_of_getElem? (i := 1) rfl) rfl
theorem uwX4 : ∀ w ∈ u_ws RX4 TX4 26, w ∈ WA := by
  intro w hw
  obtain ⟨k, hk, rfl⟩ := List.mem_map.mp hw
  have hk := List.mem_range.mp hk
  match k, hk with
  | 0, _ => exact wl_X4_0
  | 1, _ => exact wl_X4_1
  | 2, _ => exact wl_X4_2
  | 3, _ => exact wl_X4_3
  | 4, _ => exact wl_X4_4
  | 5, _ => exact wl_X4_5
  | 6, _ => exact wl_X4_6
  | 7, _ => exact wl_X4_7
  | 8, _ => exact wl_X4_8
  | 9, _ => exact wl_X4_9
  | 10, _ => exact wl_X4_10
  | 11, _ => exact wl_X4_11
  | 12, _ => exact wl_X4_12
  | 13, _ => exact wl_X4_13
  | 14, _ => exact wl_X4_14
  | 15, _ => exact wl_X4_15
  | 16, _ => exact wl_X4_16
  | 17, _ => exact wl_X4_17
  | 18, _ => exact wl_X4_18
  | 19, _ => exact wl_X4_19
  | 20, _ => exact wl_X4_20
  | 21, _ => exact wl_X4_21
  | 22, _ => exact wl_X4_22
  | 23, _ => exact wl_X4_23
  | 24, _ => exact wl_X4_24
  | 25, _ => exact wl_X4_25
  | k + 26, hk => exact absurd hk (by omega)
theorem exA0 : ∀ w ∈ (vx_atS RX3 41 "java/lang/IllegalArgumentException" ["java/lang/RuntimeException", "java/lang/Exception"]).filter goodWord, w ∈ lw_tbl := by decide +kernel
theorem exA : ∀ w ∈ (vx_atS RX3 41 "java/lang/IllegalArgumentException" ["java/lang/RuntimeException", "java/lang/Exception"]).filter goodWord, w ∈ WA := fun w h => List.mem_filter.mpr ⟨exA0 w h, (List.mem_filter.mp h).2⟩
theorem exS0 : ∀ w ∈ (vx_atS RX3 52 "java/lang/IllegalStateException" ["java/lang/RuntimeException", "java/lang/Exception"]).filter goodWord, w ∈ lw_tbl := by decide +kernel
theorem exS : ∀ w ∈ (vx_atS RX3 52 "java/lang/IllegalStateException" ["java/lang/RuntimeException", "java/lang/Exception"]).filter goodWord, w ∈ WA := fun w h => List.mem_filter.mpr ⟨exS0 w h, (List.mem_filter.mp h).2⟩
theorem exI0 : ∀ w ∈ (vx_atS RX3 224 "java/lang/IndexOutOfBoundsException" ["java/lang/RuntimeException", "java/lang/Exception"]).filter goodWord, w ∈ lw_tbl := by decide +kernel
theorem exI : ∀ w ∈ (vx_atS RX3 224 "java/lang/IndexOutOfBoundsException" ["java/lang/RuntimeException", "java/lang/Exception"]).filter goodWord, w ∈ WA := fun w h => List.mem_filter.mpr ⟨exI0 w h, (List.mem_filter.mp h).2⟩
theorem wa_good : ∀ w ∈ WA, (w.onTables && w.keeps) = true ∨ ∃ ty, w = .arrayClass ty := fun w h => good_of_word (List.mem_filter.mp h).2
theorem wa_tbl : ∀ w ∈ WA, w ∈ lw_tbl := fun w h => (List.mem_filter.mp h).1
theorem gd_c {c : Cond} (h : c ∈ WA) : GoodIn WA (c :: WA) := fun w hw => (List.mem_cons.mp hw).elim (fun e => by rw [e]; exact ⟨h, wa_good _ h⟩) (fun h => ⟨h, wa_good _ h⟩)
theorem gd_a {a b : List Cond} (h1 : ∀ w ∈ a, w ∈ WA) (h2 : GoodIn WA b) : GoodIn WA (a ++ b) := fun w hw => (List.mem_append.mp hw).elim (fun h => ⟨h1 w h, wa_good _ (h1 w h)⟩) (h2 w)
theorem gdV {own C : String} {idx : Nat} {y : MethodName} {c : Cond} (h1 : Cond.methodLink own idx y ∈ WA) (h2 : Cond.instanceMethod y ∈ WA) (h3 : Cond.selects C y y ∈ WA) (h4 : Cond.initialized C ∈ WA) (h5 : c ∈ WA) : GoodIn WA (wsV own idx C y (c :: WA)) := gd_a (List.forall_mem_cons.mpr ⟨h1, List.forall_mem_cons.mpr ⟨h2, List.forall_mem_cons.mpr ⟨h3, List.forall_mem_cons.mpr ⟨h4, fun _ h => nomatch h⟩⟩⟩⟩) (gd_c h5)
theorem gdS {own : String} {idx : Nat} {y : MethodName} {c : Cond} (h1 : Cond.methodLink own idx y ∈ WA) (h2 : Cond.static y ∈ WA) (h4 : Cond.initialized y.cls ∈ WA) (h5 : c ∈ WA) : GoodIn WA (va_wsS own idx y (c :: WA)) := gd_a (List.forall_mem_cons.mpr ⟨h1, List.forall_mem_cons.mpr ⟨h2, List.forall_mem_cons.mpr ⟨h4, fun _ h => nomatch h⟩⟩⟩) (gd_c h5)
