def RX0 : String := "MailFollower$Changes"
def TX0 : u_T := fun k => match k with
  | 0 => ("MailFollower$Changes", "mailRow", "[I", true)
  | 1 => ("MailFollower$Changes", "boxesBefore", "[I", true)
  | 2 => ("MailFollower$Changes", "keywordsBefore", "[I", true)
  | 3 => ("MailFollower$Changes", "keywordsAfter", "[I", true)
  | _ => ("MailFollower$Changes", "latest", "I", false)
def tyX0 : Nat → FieldType := fun k => match k with
  | 0 => .array .int
  | 1 => .array .int
  | 2 => .array .int
  | 3 => .array .int
  | _ => .int
abbrev wsX00 : List Cond := u_ws RX0 TX0 5
theorem nmX0 : ∀ a, a < 5 → ∀ b, b < 5 → a ≠ b → (TX0 a).2.1 ≠ (TX0 b).2.1 := by decide +kernel
theorem tyX0_ok : ∀ k, k < 5 → parseFieldDescriptor (TX0 k).2.2.1 = some (tyX0 k) := by decide +kernel
abbrev cX0_init : ByteArray := prog_2_method_1_code
def yX0_init : MethodName := ⟨RX0, "<init>", "()V"⟩
abbrev cX0_slotOf : ByteArray := prog_2_method_2_code
def yX0_slotOf : MethodName := ⟨RX0, "slotOf", "(I)I"⟩
abbrev cX0_keep : ByteArray := prog_2_method_3_code
def yX0_keep : MethodName := ⟨RX0, "keep", "(IIII)V"⟩
abbrev cX0_reachBackTo : ByteArray := prog_2_method_4_code
def yX0_reachBackTo : MethodName := ⟨RX0, "reachBackTo", "(I)Z"⟩
abbrev cX0_countBehind : ByteArray := prog_2_method_5_code
def yX0_countBehind : MethodName := ⟨RX0, "countBehind", "(I)I"⟩
abbrev cX0_undo : ByteArray := prog_2_method_6_code
def yX0_undo : MethodName := ⟨RX0, "undo", "(IJII)J"⟩
abbrev cX0_touched : ByteArray := prog_2_method_7_code
def yX0_touched : MethodName := ⟨RX0, "touched", "(I)J"⟩
abbrev cX0_endOfPage : ByteArray := prog_2_method_8_code
def yX0_endOfPage : MethodName := ⟨RX0, "endOfPage", "(II)I"⟩
abbrev cX0_contradict : ByteArray := prog_2_method_9_code
def yX0_contradict : MethodName := ⟨RX0, "contradict", "(IIIZ)Z"⟩
def RX1 : String := "MailFollower$Client"
def TX1 : u_T := fun k => match k with
  | 0 => ("MailFollower$Client", "box", "I", false)
  | 1 => ("MailFollower$Client", "width", "I", false)
  | 2 => ("MailFollower$Client", "syncState", "I", false)
  | 3 => ("MailFollower$Client", "loads", "I", false)
  | 4 => ("MailFollower$Client", "windowMails", "[I", true)
  | 5 => ("MailFollower$Client", "windowKeywords", "[I", true)
  | 6 => ("MailFollower$Client", "windowSize", "I", false)
  | 7 => ("MailFollower$Client", "flagMails", "[I", true)
  | 8 => ("MailFollower$Client", "flagKeywords", "[I", true)
  | 9 => ("MailFollower$Client", "flagSets", "[Z", true)
  | _ => ("MailFollower$Client", "flags", "I", false)
def tyX1 : Nat → FieldType := fun k => match k with
  | 0 => .int
  | 1 => .int
  | 2 => .int
  | 3 => .int
  | 4 => .array .int
  | 5 => .array .int
  | 6 => .int
  | 7 => .array .int
  | 8 => .array .int
  | 9 => .array .boolean
  | _ => .int
abbrev wsX10 : List Cond := u_ws RX1 TX1 11
theorem nmX1 : ∀ a, a < 11 → ∀ b, b < 11 → a ≠ b → (TX1 a).2.1 ≠ (TX1 b).2.1 := by decide +kernel
theorem tyX1_ok : ∀ k, k < 11 → parseFieldDescriptor (TX1 k).2.2.1 = some (tyX1 k) := by decide +kernel
abbrev cX1_init : ByteArray := prog_3_method_1_code
def yX1_init : MethodName := ⟨RX1, "<init>", "()V"⟩
abbrev cX1_hasPlace : ByteArray := prog_3_method_2_code
def yX1_hasPlace : MethodName := ⟨RX1, "hasPlace", "(I)Z"⟩
abbrev cX1_placeOf : ByteArray := prog_3_method_3_code
def yX1_placeOf : MethodName := ⟨RX1, "placeOf", "(I)I"⟩
abbrev cX1_note : ByteArray := prog_3_method_4_code
def yX1_note : MethodName := ⟨RX1, "note", "(IIZ)V"⟩
abbrev cX1_list : ByteArray := prog_3_method_5_code
def yX1_list : MethodName := ⟨RX1, "list", "(IIZ)V"⟩
abbrev cX1_leaveOutConflicts : ByteArray := prog_3_method_6_code
def yX1_leaveOutConflicts : MethodName := ⟨RX1, "leaveOutConflicts", "(LMailFollower$Server;)I"⟩
abbrev cX1_isConflict : ByteArray := prog_3_method_7_code
def yX1_isConflict : MethodName := ⟨RX1, "isConflict", "(LMailFollower$Server;IIZ)Z"⟩
abbrev cX1_replay : ByteArray := prog_3_method_8_code
def yX1_replay : MethodName := ⟨RX1, "replay", "(LMailFollower$Server;)V"⟩
abbrev cX1_load : ByteArray := prog_3_method_9_code
def yX1_load : MethodName := ⟨RX1, "load", "(LMailFollower$Server;)V"⟩
def RX2 : String := "MailFollower$Server"
def TX2 : u_T := fun k => match k with
  | 0 => ("MailFollower$Server", "times", "[I", true)
  | 1 => ("MailFollower$Server", "threads", "[I", true)
  | 2 => ("MailFollower$Server", "boxRow", "[I", true)
  | 3 => ("MailFollower$Server", "keywordRow", "[I", true)
  | 4 => ("MailFollower$Server", "order", "[I", true)
  | 5 => ("MailFollower$Server", "changes", "LMailFollower$Changes;", true)
  | _ => ("MailFollower$Server", "come", "I", false)
def tyX2 : Nat → FieldType := fun k => match k with
  | 0 => .array .int
  | 1 => .array .int
  | 2 => .array .int
  | 3 => .array .int
  | 4 => .array .int
  | 5 => .object "MailFollower$Changes"
  | _ => .int
abbrev wsX20 : List Cond := u_ws RX2 TX2 7
theorem nmX2 : ∀ a, a < 7 → ∀ b, b < 7 → a ≠ b → (TX2 a).2.1 ≠ (TX2 b).2.1 := by decide +kernel
theorem tyX2_ok : ∀ k, k < 7 → parseFieldDescriptor (TX2 k).2.2.1 = some (tyX2 k) := by decide +kernel
abbrev cX2_init : ByteArray := prog_4_method_1_code
def yX2_init : MethodName := ⟨RX2, "<init>", "()V"⟩
abbrev cX2_boxesOf : ByteArray := prog_4_method_2_code
def yX2_boxesOf : MethodName := ⟨RX2, "boxesOf", "(I)I"⟩
abbrev cX2_keywordsOf : ByteArray := prog_4_method_3_code
def yX2_keywordsOf : MethodName := ⟨RX2, "keywordsOf", "(I)I"⟩
abbrev cX2_timeOf : ByteArray := prog_4_method_4_code
def yX2_timeOf : MethodName := ⟨RX2, "timeOf", "(I)I"⟩
abbrev cX2_isThere : ByteArray := prog_4_method_5_code
def yX2_isThere : MethodName := ⟨RX2, "isThere", "(I)Z"⟩
abbrev cX2_letCome : ByteArray := prog_4_method_6_code
def yX2_letCome : MethodName := ⟨RX2, "letCome", "(III)I"⟩
abbrev cX2_putInOrder : ByteArray := prog_4_method_7_code
def yX2_putInOrder : MethodName := ⟨RX2, "putInOrder", "(II)V"⟩
abbrev cX2_setKeyword : ByteArray := prog_4_method_8_code
def yX2_setKeyword : MethodName := ⟨RX2, "setKeyword", "(IIZ)Z"⟩
abbrev cX2_change : ByteArray := prog_4_method_9_code
def yX2_change : MethodName := ⟨RX2, "change", "(III)Z"⟩
abbrev cX2_matching : ByteArray := prog_4_method_11_code
def yX2_matching : MethodName := ⟨RX2, "matching", "(II)J"⟩
abbrev cX2_matchingAt : ByteArray := prog_4_method_12_code
def yX2_matchingAt : MethodName := ⟨RX2, "matchingAt", "(III)J"⟩
abbrev cX2_changedSince : ByteArray := prog_4_method_13_code
def yX2_changedSince : MethodName := ⟨RX2, "changedSince", "(II)J"⟩
abbrev cX2_latestAt : ByteArray := prog_4_method_14_code
def yX2_latestAt : MethodName := ⟨RX2, "latestAt", "(JI)I"⟩
def RX3 : String := "MailFollower"
def TX3 : u_T := fun k => match k with
  | 0 => ("MailFollower", "server", "LMailFollower$Server;", true)
  | 1 => ("MailFollower", "firstClient", "LMailFollower$Client;", true)
  | _ => ("MailFollower", "secondClient", "LMailFollower$Client;", true)
def tyX3 : Nat → FieldType := fun k => match k with
  | 0 => .object "MailFollower$Server"
  | 1 => .object "MailFollower$Client"
  | _ => .object "MailFollower$Client"
abbrev wsX30 : List Cond := u_ws RX3 TX3 3
theorem nmX3 : ∀ a, a < 3 → ∀ b, b < 3 → a ≠ b → (TX3 a).2.1 ≠ (TX3 b).2.1 := by decide +kernel
theorem tyX3_ok : ∀ k, k < 3 → parseFieldDescriptor (TX3 k).2.2.1 = some (tyX3 k) := by decide +kernel
abbrev cX3_init : ByteArray := prog_1_method_1_code
def yX3_init : MethodName := ⟨RX3, "<init>", "()V"⟩
abbrev cX3_add : ByteArray := prog_1_method_2_code
def yX3_add : MethodName := ⟨RX3, "add", "(III)I"⟩
abbrev cX3_move : ByteArray := prog_1_method_3_code
def yX3_move : MethodName := ⟨RX3, "move", "(II)I"⟩
abbrev cX3_flag : ByteArray := prog_1_method_4_code
def yX3_flag : MethodName := ⟨RX3, "flag", "(IIZ)Z"⟩
abbrev cX3_flagIf : ByteArray := prog_1_method_5_code
def yX3_flagIf : MethodName := ⟨RX3, "flagIf", "(IIZI)Z"⟩
abbrev cX3_destroy : ByteArray := prog_1_method_6_code
def yX3_destroy : MethodName := ⟨RX3, "destroy", "(I)I"⟩
abbrev cX3_state : ByteArray := prog_1_method_7_code
def yX3_state : MethodName := ⟨RX3, "state", "()I"⟩
abbrev cX3_mails : ByteArray := prog_1_method_8_code
def yX3_mails : MethodName := ⟨RX3, "mails", "()I"⟩
abbrev cX3_keywords : ByteArray := prog_1_method_9_code
def yX3_keywords : MethodName := ⟨RX3, "keywords", "(I)I"⟩
abbrev cX3_canTell : ByteArray := prog_1_method_12_code
def yX3_canTell : MethodName := ⟨RX3, "canTell", "(I)Z"⟩
abbrev cX3_changed : ByteArray := prog_1_method_13_code
def yX3_changed : MethodName := ⟨RX3, "changed", "(II)I"⟩
abbrev cX3_page : ByteArray := prog_1_method_15_code
def yX3_page : MethodName := ⟨RX3, "page", "(II)I"⟩
abbrev cX3_found : ByteArray := prog_1_method_16_code
def yX3_found : MethodName := ⟨RX3, "found", "(II)I"⟩
abbrev cX3_foundAt : ByteArray := prog_1_method_17_code
def yX3_foundAt : MethodName := ⟨RX3, "foundAt", "(III)I"⟩
abbrev cX3_removed : ByteArray := prog_1_method_18_code
def yX3_removed : MethodName := ⟨RX3, "removed", "(III)I"⟩
abbrev cX3_added : ByteArray := prog_1_method_19_code
def yX3_added : MethodName := ⟨RX3, "added", "(III)I"⟩
abbrev cX3_watch : ByteArray := prog_1_method_20_code
def yX3_watch : MethodName := ⟨RX3, "watch", "(III)V"⟩
abbrev cX3_flagOffline : ByteArray := prog_1_method_21_code
def yX3_flagOffline : MethodName := ⟨RX3, "flagOffline", "(IIIZ)I"⟩
abbrev cX3_sync : ByteArray := prog_1_method_22_code
def yX3_sync : MethodName := ⟨RX3, "sync", "(I)I"⟩
abbrev cX3_stateOf : ByteArray := prog_1_method_23_code
def yX3_stateOf : MethodName := ⟨RX3, "stateOf", "(I)I"⟩
abbrev cX3_window : ByteArray := prog_1_method_24_code
def yX3_window : MethodName := ⟨RX3, "window", "(I)I"⟩
abbrev cX3_windowAt : ByteArray := prog_1_method_25_code
def yX3_windowAt : MethodName := ⟨RX3, "windowAt", "(II)I"⟩
abbrev cX3_known : ByteArray := prog_1_method_26_code
def yX3_known : MethodName := ⟨RX3, "known", "(II)I"⟩
abbrev cX3_isWithin : ByteArray := prog_1_method_28_code
def yX3_isWithin : MethodName := ⟨RX3, "isWithin", "(III)Z"⟩
abbrev cX3_isBox : ByteArray := prog_1_method_29_code
def yX3_isBox : MethodName := ⟨RX3, "isBox", "(I)Z"⟩
abbrev cX3_isBoxSet : ByteArray := prog_1_method_30_code
def yX3_isBoxSet : MethodName := ⟨RX3, "isBoxSet", "(I)Z"⟩
abbrev cX3_isThread : ByteArray := prog_1_method_31_code
def yX3_isThread : MethodName := ⟨RX3, "isThread", "(I)Z"⟩
abbrev cX3_isKeyword : ByteArray := prog_1_method_32_code
def yX3_isKeyword : MethodName := ⟨RX3, "isKeyword", "(I)Z"⟩
abbrev cX3_isQueryKeyword : ByteArray := prog_1_method_33_code
def yX3_isQueryKeyword : MethodName := ⟨RX3, "isQueryKeyword", "(I)Z"⟩
abbrev cX3_isWay : ByteArray := prog_1_method_34_code
def yX3_isWay : MethodName := ⟨RX3, "isWay", "(I)Z"⟩
abbrev cX3_isClient : ByteArray := prog_1_method_35_code
def yX3_isClient : MethodName := ⟨RX3, "isClient", "(I)Z"⟩
abbrev cX3_requireClient : ByteArray := prog_1_method_36_code
def yX3_requireClient : MethodName := ⟨RX3, "requireClient", "(I)V"⟩
abbrev cX3_requireMail : ByteArray := prog_1_method_37_code
def yX3_requireMail : MethodName := ⟨RX3, "requireMail", "(Z)V"⟩
abbrev cX3_requireTelling : ByteArray := prog_1_method_38_code
def yX3_requireTelling : MethodName := ⟨RX3, "requireTelling", "(I)V"⟩
abbrev cX3_isState : ByteArray := prog_1_method_39_code
def yX3_isState : MethodName := ⟨RX3, "isState", "(I)Z"⟩
abbrev cX3_clientOf : ByteArray := prog_1_method_40_code
def yX3_clientOf : MethodName := ⟨RX3, "clientOf", "(I)LMailFollower$Client;"⟩
abbrev cX3_asked : ByteArray := prog_1_method_41_code
def yX3_asked : MethodName := ⟨RX3, "asked", "(I)I"⟩
abbrev cX3_holds : ByteArray := prog_1_method_42_code
def yX3_holds : MethodName := ⟨RX3, "holds", "(JI)Z"⟩
abbrev cX3_with : ByteArray := prog_1_method_43_code
def yX3_with : MethodName := ⟨RX3, "with", "(JIZ)J"⟩
abbrev cX3_matches : ByteArray := prog_1_method_45_code
def yX3_matches : MethodName := ⟨RX3, "matches", "(IIII)Z"⟩
def RX4 : String := "MailFollowerModel"
def TX4 : u_T := fun k => match k with
  | _ => ("", "", "", false)
def tyX4 : Nat → FieldType := fun k => match k with
  | _ => .int
abbrev wsX40 : List Cond := u_ws RX4 TX4 0
theorem nmX4 : ∀ a, a < 0 → ∀ b, b < 0 → a ≠ b → (TX4 a).2.1 ≠ (TX4 b).2.1 := by decide +kernel
theorem tyX4_ok : ∀ k, k < 0 → parseFieldDescriptor (TX4 k).2.2.1 = some (tyX4 k) := by decide +kernel
def RJ13 : String := "java/lang/Long"
def TJ13 : u_T := fun k => match k with
  | _ => ("", "", "", false)
def tyJ13 : Nat → FieldType := fun k => match k with
  | _ => .int
abbrev wsJ130 : List Cond := u_ws RJ13 TJ13 0
theorem nmJ13 : ∀ a, a < 0 → ∀ b, b < 0 → a ≠ b → (TJ13 a).2.1 ≠ (TJ13 b).2.1 := by decide +kernel
theorem tyJ13_ok : ∀ k, k < 0 → parseFieldDescriptor (TJ13 k).2.2.1 = some (tyJ13 k) := by decide +kernel
abbrev cJ13_bitCount_95d88 : ByteArray := prog_11_method_50_code
def yJ13_bitCount_95d88 : MethodName := ⟨RJ13, "bitCount", "(J)I"⟩
def RJ9 : String := "java/lang/Math"
def TJ9 : u_T := fun k => match k with
  | _ => ("", "", "", false)
def tyJ9 : Nat → FieldType := fun k => match k with
  | _ => .int
abbrev wsJ90 : List Cond := u_ws RJ9 TJ9 0
theorem nmJ9 : ∀ a, a < 0 → ∀ b, b < 0 → a ≠ b → (TJ9 a).2.1 ≠ (TJ9 b).2.1 := by decide +kernel
theorem tyJ9_ok : ∀ k, k < 0 → parseFieldDescriptor (TJ9 k).2.2.1 = some (tyJ9 k) := by decide +kernel
abbrev cJ9_floorMod_7cf53 : ByteArray := prog_12_method_50_code
def yJ9_floorMod_7cf53 : MethodName := ⟨RJ9, "floorMod", "(II)I"⟩
abbrev cJ9_min_7cf53 : ByteArray := prog_12_method_69_code
def yJ9_min_7cf53 : MethodName := ⟨RJ9, "min", "(II)I"⟩
def RJ0 : String := "java/lang/String"
def TJ0 : u_T := fun k => match k with
  | _ => ("", "", "", false)
def tyJ0 : Nat → FieldType := fun k => match k with
  | _ => .int
abbrev wsJ00 : List Cond := u_ws RJ0 TJ0 0
theorem nmJ0 : ∀ a, a < 0 → ∀ b, b < 0 → a ≠ b → (TJ0 a).2.1 ≠ (TJ0 b).2.1 := by decide +kernel
theorem tyJ0_ok : ∀ k, k < 0 → parseFieldDescriptor (TJ0 k).2.2.1 = some (tyJ0 k) := by decide +kernel
def RL : String := "MailFollowerLaw"
abbrev cL_told : ByteArray := method_2_code
def yL_told : MethodName := ⟨RL, "told", "([II)I"⟩
abbrev cL_there : ByteArray := method_3_code
def yL_there : MethodName := ⟨RL, "there", "([III)I"⟩
abbrev cL_isFresh : ByteArray := method_4_code
def yL_isFresh : MethodName := ⟨RL, "isFresh", "(LMailFollower;III)Z"⟩
abbrev cL_isTold : ByteArray := method_5_code
def yL_isTold : MethodName := ⟨RL, "isTold", "(LMailFollower;IIII)Z"⟩
abbrev cL_law : ByteArray := code
def yL_law : MethodName := ⟨RL, "law", "([I)Z"⟩
abbrev vwCl : List vw_C := [(RX0, TX0, 5), (RX1, TX1, 11), (RX2, TX2, 7), (RX3, TX3, 3)]
/-! words: the good ones of the tables, one list for every method -/
def WA : List Cond := lw_tbl.filter goodWord
theorem tb_1 {w : Cond} (h : w ∈ tables_1_1) (hg : goodWord w = true) : w ∈ WA := List.mem_filter.mpr ⟨List.mem_append_right _ (show w ∈ tables_1_1 ++ (tables_1_2 ++ tables_1_3) from List.mem_append_left _ h), hg⟩
theorem tb_2 {w : Cond} (h : w ∈ tables_1_2) (hg : goodWord w = true) : w ∈ WA := List.mem_filter.mpr ⟨List.mem_append_right _ (show w ∈ tables_1_1 ++ (tables_1_2 ++ tables_1_3) from List.mem_append_right _ (List.mem_append_left _ h)), hg⟩
theorem tb_3 {w : Cond} (h : w ∈ tables_1_3) (hg : goodWord w = true) : w ∈ WA := List.mem_filter.mpr ⟨List.mem_append_right _ (show w ∈ tables_1_1 ++ (tables_1_2 ++ tables_1_3) from List.mem_append_right _ (List.mem_append_right _ h)), hg⟩
theorem tb_p {w : Cond} (h : w ∈ k2_sels lw_privs) (hg : goodWord w = true) : w ∈ WA := List.mem_filter.mpr ⟨List.mem_append_left _ h, hg⟩
theorem wd_0 : (.initialized RL : Cond) ∈ WA := tb_1 (List.mem_of_getElem? (i := 0) rfl) rfl
theorem wd_1 : (.initialized RX3 : Cond) ∈ WA := tb_1 (List.mem_of_getElem? (i := 1) rfl) rfl
theorem wd_2 : (.initialized RX2 : Cond) ∈ WA := tb_1 (List.mem_of_getElem? (i := 2) rfl) rfl
theorem wd_3 : (.initialized RX0 : Cond) ∈ WA := tb_1 (List.mem_of_getElem? (i := 3) rfl) rfl
theorem wd_4 : (.initialized RX1 : Cond) ∈ WA := tb_1 (List.mem_of_getElem? (i := 4) rfl) rfl
theorem wd_5 : (.initialized "java/lang/Throwable" : Cond) ∈ WA := tb_1 (List.mem_of_getElem? (i := 5) rfl) rfl
theorem wd_6 : (.initialized "java/lang/Exception" : Cond) ∈ WA := tb_1 (List.mem_of_getElem? (i := 6) rfl) rfl
theorem wd_7 : (.initialized "java/lang/RuntimeException" : Cond) ∈ WA := tb_1 (List.mem_of_getElem? (i := 7) rfl) rfl
theorem wd_8 : (.initialized "java/lang/IllegalArgumentException" : Cond) ∈ WA := tb_1 (List.mem_of_getElem? (i := 8) rfl) rfl
theorem wd_9 : (.initialized "java/lang/IllegalStateException" : Cond) ∈ WA := tb_1 (List.mem_of_getElem? (i := 9) rfl) rfl
theorem wd_10 : (.initialized RJ9 : Cond) ∈ WA := tb_1 (List.mem_of_getElem? (i := 10) rfl) rfl
theorem wd_11 : (.initialized "java/lang/IndexOutOfBoundsException" : Cond) ∈ WA := tb_1 (List.mem_of_getElem? (i := 11) rfl) rfl
theorem wd_12 : (.initialized RJ13 : Cond) ∈ WA := tb_1 (List.mem_of_getElem? (i := 12) rfl) rfl
theorem wd_13 : (.classLink RL 9 "MailFollower" : Cond) ∈ WA := tb_1 (List.mem_of_getElem? (i := 13) rfl) rfl
theorem wd_14 : (.instantiable RX3 3 : Cond) ∈ WA := tb_1 (List.mem_of_getElem? (i := 14) rfl) rfl
theorem wd_15 : (.methodLink RL 57 yX3_init : Cond) ∈ WA := tb_1 (List.mem_of_getElem? (i := 15) rfl) rfl
theorem wd_16 : (.instanceMethod yX3_init : Cond) ∈ WA := tb_1 (List.mem_of_getElem? (i := 16) rfl) rfl
theorem wd_17 : (.code yX3_init cX3_init 1 none : Cond) ∈ WA := tb_1 (List.mem_of_getElem? (i := 17) rfl) rfl
theorem wd_18 : (.methodLink RX3 1 objectInit : Cond) ∈ WA := tb_1 (List.mem_of_getElem? (i := 18) rfl) rfl
theorem wd_19 : (.instanceMethod objectInit : Cond) ∈ WA := tb_1 (List.mem_of_getElem? (i := 19) rfl) rfl
theorem wd_20 : (.code objectInit ⟨#[0xb1]⟩ 1 none : Cond) ∈ WA := tb_1 (List.mem_of_getElem? (i := 20) rfl) rfl
theorem wd_21 : (.classLink RX3 7 "MailFollower$Server" : Cond) ∈ WA := tb_1 (List.mem_of_getElem? (i := 21) rfl) rfl
theorem wd_22 : (.instantiable RX2 7 : Cond) ∈ WA := tb_1 (List.mem_of_getElem? (i := 22) rfl) rfl
theorem wd_23 : (.methodLink RX3 9 yX2_init : Cond) ∈ WA := tb_1 (List.mem_of_getElem? (i := 23) rfl) rfl
theorem wd_24 : (.instanceMethod yX2_init : Cond) ∈ WA := tb_1 (List.mem_of_getElem? (i := 24) rfl) rfl
theorem wd_25 : (.code yX2_init cX2_init 1 none : Cond) ∈ WA := tb_1 (List.mem_of_getElem? (i := 25) rfl) rfl
theorem wd_26 : (.methodLink RX2 3 objectInit : Cond) ∈ WA := tb_1 (List.mem_of_getElem? (i := 26) rfl) rfl
theorem wd_27 : (.classLink RX2 27 "MailFollower$Changes" : Cond) ∈ WA := tb_1 (List.mem_of_getElem? (i := 27) rfl) rfl
theorem wd_28 : (.instantiable RX0 5 : Cond) ∈ WA := tb_1 (List.mem_of_getElem? (i := 28) rfl) rfl
theorem wd_29 : (.methodLink RX2 29 yX0_init : Cond) ∈ WA := tb_1 (List.mem_of_getElem? (i := 29) rfl) rfl
theorem wd_30 : (.instanceMethod yX0_init : Cond) ∈ WA := tb_1 (List.mem_of_getElem? (i := 30) rfl) rfl
theorem wd_31 : (.code yX0_init cX0_init 1 none : Cond) ∈ WA := tb_1 (List.mem_of_getElem? (i := 31) rfl) rfl
theorem wd_32 : (.methodLink RX0 3 objectInit : Cond) ∈ WA := tb_1 (List.mem_of_getElem? (i := 32) rfl) rfl
theorem wd_33 : (.fieldLink RX0 9 "MailFollower$Changes" "mailRow" "[I" : Cond) ∈ WA := tb_1 (List.mem_of_getElem? (i := 33) rfl) rfl
theorem wd_34 : (.fieldLink RX0 15 "MailFollower$Changes" "boxesBefore" "[I" : Cond) ∈ WA := tb_1 (List.mem_of_getElem? (i := 34) rfl) rfl
theorem wd_35 : (.fieldLink RX0 18 "MailFollower$Changes" "keywordsBefore" "[I" : Cond) ∈ WA := tb_1 (List.mem_of_getElem? (i := 35) rfl) rfl
theorem wd_36 : (.fieldLink RX0 21 "MailFollower$Changes" "keywordsAfter" "[I" : Cond) ∈ WA := tb_1 (List.mem_of_getElem? (i := 36) rfl) rfl
theorem wd_37 : (.fieldLink RX0 30 "MailFollower$Changes" "latest" "I" : Cond) ∈ WA := tb_1 (List.mem_of_getElem? (i := 37) rfl) rfl
theorem wd_40 : (.laysFinal RX0 "MailFollower$Changes" "mailRow" "[I" : Cond) ∈ WA := tb_1 (List.mem_of_getElem? (i := 40) rfl) rfl
theorem wd_42 : (.laysFinal RX0 "MailFollower$Changes" "boxesBefore" "[I" : Cond) ∈ WA := tb_1 (List.mem_of_getElem? (i := 42) rfl) rfl
theorem wd_44 : (.laysFinal RX0 "MailFollower$Changes" "keywordsBefore" "[I" : Cond) ∈ WA := tb_1 (List.mem_of_getElem? (i := 44) rfl) rfl
theorem wd_46 : (.laysFinal RX0 "MailFollower$Changes" "keywordsAfter" "[I" : Cond) ∈ WA := tb_1 (List.mem_of_getElem? (i := 46) rfl) rfl
theorem wd_48 : (.lays RX0 "MailFollower$Changes" "latest" "I" : Cond) ∈ WA := tb_1 (List.mem_of_getElem? (i := 48) rfl) rfl
theorem wd_50 : (.superclass RX0 "java/lang/Object" : Cond) ∈ WA := tb_1 (List.mem_of_getElem? (i := 50) rfl) rfl
theorem wd_51 : (.arrayClass .int : Cond) ∈ WA := tb_1 (List.mem_of_getElem? (i := 51) rfl) rfl
theorem wd_52 : (.fieldLink RX2 9 "MailFollower$Server" "times" "[I" : Cond) ∈ WA := tb_1 (List.mem_of_getElem? (i := 52) rfl) rfl
theorem wd_53 : (.fieldLink RX2 15 "MailFollower$Server" "threads" "[I" : Cond) ∈ WA := tb_1 (List.mem_of_getElem? (i := 53) rfl) rfl
theorem wd_54 : (.fieldLink RX2 18 "MailFollower$Server" "boxRow" "[I" : Cond) ∈ WA := tb_1 (List.mem_of_getElem? (i := 54) rfl) rfl
theorem wd_55 : (.fieldLink RX2 21 "MailFollower$Server" "keywordRow" "[I" : Cond) ∈ WA := tb_1 (List.mem_of_getElem? (i := 55) rfl) rfl
theorem wd_56 : (.fieldLink RX2 24 "MailFollower$Server" "order" "[I" : Cond) ∈ WA := tb_1 (List.mem_of_getElem? (i := 56) rfl) rfl
theorem wd_57 : (.fieldLink RX2 30 "MailFollower$Server" "changes" "LMailFollower$Changes;" : Cond) ∈ WA := tb_1 (List.mem_of_getElem? (i := 57) rfl) rfl
theorem wd_61 : (.fieldLink RX2 42 "MailFollower$Server" "come" "I" : Cond) ∈ WA := tb_1 (List.mem_of_getElem? (i := 61) rfl) rfl
theorem wd_62 : (.laysFinal RX2 "MailFollower$Server" "times" "[I" : Cond) ∈ WA := tb_1 (List.mem_of_getElem? (i := 62) rfl) rfl
theorem wd_64 : (.laysFinal RX2 "MailFollower$Server" "threads" "[I" : Cond) ∈ WA := tb_1 (List.mem_of_getElem? (i := 64) rfl) rfl
theorem wd_66 : (.laysFinal RX2 "MailFollower$Server" "boxRow" "[I" : Cond) ∈ WA := tb_1 (List.mem_of_getElem? (i := 66) rfl) rfl
theorem wd_68 : (.laysFinal RX2 "MailFollower$Server" "keywordRow" "[I" : Cond) ∈ WA := tb_1 (List.mem_of_getElem? (i := 68) rfl) rfl
theorem wd_70 : (.laysFinal RX2 "MailFollower$Server" "order" "[I" : Cond) ∈ WA := tb_1 (List.mem_of_getElem? (i := 70) rfl) rfl
theorem wd_72 : (.laysFinal RX2 "MailFollower$Server" "changes" "LMailFollower$Changes;" : Cond) ∈ WA := tb_1 (List.mem_of_getElem? (i := 72) rfl) rfl
theorem wd_74 : (.lays RX2 "MailFollower$Server" "come" "I" : Cond) ∈ WA := tb_1 (List.mem_of_getElem? (i := 74) rfl) rfl
theorem wd_76 : (.superclass RX2 "java/lang/Object" : Cond) ∈ WA := tb_1 (List.mem_of_getElem? (i := 76) rfl) rfl
theorem wd_77 : (.classLink RX3 16 "MailFollower$Client" : Cond) ∈ WA := tb_1 (List.mem_of_getElem? (i := 77) rfl) rfl
theorem wd_78 : (.instantiable RX1 11 : Cond) ∈ WA := tb_1 (List.mem_of_getElem? (i := 78) rfl) rfl
theorem wd_79 : (.methodLink RX3 18 yX1_init : Cond) ∈ WA := tb_1 (List.mem_of_getElem? (i := 79) rfl) rfl
theorem wd_80 : (.instanceMethod yX1_init : Cond) ∈ WA := tb_1 (List.mem_of_getElem? (i := 80) rfl) rfl
theorem wd_81 : (.code yX1_init cX1_init 1 none : Cond) ∈ WA := tb_1 (List.mem_of_getElem? (i := 81) rfl) rfl
theorem wd_82 : (.methodLink RX1 3 objectInit : Cond) ∈ WA := tb_1 (List.mem_of_getElem? (i := 82) rfl) rfl
theorem wd_83 : (.fieldLink RX1 82 "MailFollower$Client" "box" "I" : Cond) ∈ WA := tb_1 (List.mem_of_getElem? (i := 83) rfl) rfl
theorem wd_85 : (.fieldLink RX1 9 "MailFollower$Client" "width" "I" : Cond) ∈ WA := tb_1 (List.mem_of_getElem? (i := 85) rfl) rfl
theorem wd_87 : (.fieldLink RX1 63 "MailFollower$Client" "syncState" "I" : Cond) ∈ WA := tb_1 (List.mem_of_getElem? (i := 87) rfl) rfl
theorem wd_90 : (.fieldLink RX1 15 "MailFollower$Client" "windowMails" "[I" : Cond) ∈ WA := tb_1 (List.mem_of_getElem? (i := 90) rfl) rfl
theorem wd_92 : (.fieldLink RX1 19 "MailFollower$Client" "windowKeywords" "[I" : Cond) ∈ WA := tb_1 (List.mem_of_getElem? (i := 92) rfl) rfl
theorem wd_94 : (.fieldLink RX1 32 "MailFollower$Client" "windowSize" "I" : Cond) ∈ WA := tb_1 (List.mem_of_getElem? (i := 94) rfl) rfl
theorem wd_96 : (.fieldLink RX1 22 "MailFollower$Client" "flagMails" "[I" : Cond) ∈ WA := tb_1 (List.mem_of_getElem? (i := 96) rfl) rfl
theorem wd_97 : (.fieldLink RX1 25 "MailFollower$Client" "flagKeywords" "[I" : Cond) ∈ WA := tb_1 (List.mem_of_getElem? (i := 97) rfl) rfl
theorem wd_98 : (.fieldLink RX1 28 "MailFollower$Client" "flagSets" "[Z" : Cond) ∈ WA := tb_1 (List.mem_of_getElem? (i := 98) rfl) rfl
theorem wd_99 : (.fieldLink RX1 47 "MailFollower$Client" "flags" "I" : Cond) ∈ WA := tb_1 (List.mem_of_getElem? (i := 99) rfl) rfl
theorem wd_101 : (.lays RX1 "MailFollower$Client" "box" "I" : Cond) ∈ WA := tb_1 (List.mem_of_getElem? (i := 101) rfl) rfl
theorem wd_103 : (.lays RX1 "MailFollower$Client" "width" "I" : Cond) ∈ WA := tb_1 (List.mem_of_getElem? (i := 103) rfl) rfl
theorem wd_105 : (.lays RX1 "MailFollower$Client" "syncState" "I" : Cond) ∈ WA := tb_1 (List.mem_of_getElem? (i := 105) rfl) rfl
theorem wd_107 : (.lays RX1 "MailFollower$Client" "loads" "I" : Cond) ∈ WA := tb_1 (List.mem_of_getElem? (i := 107) rfl) rfl
theorem wd_109 : (.laysFinal RX1 "MailFollower$Client" "windowMails" "[I" : Cond) ∈ WA := tb_1 (List.mem_of_getElem? (i := 109) rfl) rfl
theorem wd_111 : (.laysFinal RX1 "MailFollower$Client" "windowKeywords" "[I" : Cond) ∈ WA := tb_1 (List.mem_of_getElem? (i := 111) rfl) rfl
theorem wd_113 : (.lays RX1 "MailFollower$Client" "windowSize" "I" : Cond) ∈ WA := tb_1 (List.mem_of_getElem? (i := 113) rfl) rfl
theorem wd_115 : (.laysFinal RX1 "MailFollower$Client" "flagMails" "[I" : Cond) ∈ WA := tb_1 (List.mem_of_getElem? (i := 115) rfl) rfl
theorem wd_117 : (.laysFinal RX1 "MailFollower$Client" "flagKeywords" "[I" : Cond) ∈ WA := tb_1 (List.mem_of_getElem? (i := 117) rfl) rfl
theorem wd_119 : (.laysFinal RX1 "MailFollower$Client" "flagSets" "[Z" : Cond) ∈ WA := tb_1 (List.mem_of_getElem? (i := 119) rfl) rfl
theorem wd_121 : (.lays RX1 "MailFollower$Client" "flags" "I" : Cond) ∈ WA := tb_1 (List.mem_of_getElem? (i := 121) rfl) rfl
theorem wd_123 : (.superclass RX1 "java/lang/Object" : Cond) ∈ WA := tb_1 (List.mem_of_getElem? (i := 123) rfl) rfl
theorem wd_124 : (.arrayClass .boolean : Cond) ∈ WA := tb_1 (List.mem_of_getElem? (i := 124) rfl) rfl
theorem wd_125 : (.fieldLink RX3 10 "MailFollower" "server" "LMailFollower$Server;" : Cond) ∈ WA := tb_1 (List.mem_of_getElem? (i := 125) rfl) rfl
theorem wd_126 : (.fieldLink RX3 19 "MailFollower" "firstClient" "LMailFollower$Client;" : Cond) ∈ WA := tb_1 (List.mem_of_getElem? (i := 126) rfl) rfl
theorem wd_127 : (.fieldLink RX3 23 "MailFollower" "secondClient" "LMailFollower$Client;" : Cond) ∈ WA := tb_1 (List.mem_of_getElem? (i := 127) rfl) rfl
theorem wd_128 : (.laysFinal RX3 "MailFollower" "server" "LMailFollower$Server;" : Cond) ∈ WA := tb_1 (List.mem_of_getElem? (i := 128) rfl) rfl
theorem wd_130 : (.laysFinal RX3 "MailFollower" "firstClient" "LMailFollower$Client;" : Cond) ∈ WA := tb_1 (List.mem_of_getElem? (i := 130) rfl) rfl
theorem wd_132 : (.laysFinal RX3 "MailFollower" "secondClient" "LMailFollower$Client;" : Cond) ∈ WA := tb_1 (List.mem_of_getElem? (i := 132) rfl) rfl
theorem wd_134 : (.superclass RX3 "java/lang/Object" : Cond) ∈ WA := tb_1 (List.mem_of_getElem? (i := 134) rfl) rfl
theorem wd_135 : (.methodLink RL 68 yX3_add : Cond) ∈ WA := tb_1 (List.mem_of_getElem? (i := 135) rfl) rfl
theorem wd_136 : (.instanceMethod yX3_add : Cond) ∈ WA := tb_1 (List.mem_of_getElem? (i := 136) rfl) rfl
theorem wd_137 : (.selects RX3 yX3_add yX3_add : Cond) ∈ WA := tb_1 (List.mem_of_getElem? (i := 137) rfl) rfl
theorem wd_138 : (.code yX3_add cX3_add 4 (some .int) : Cond) ∈ WA := tb_1 (List.mem_of_getElem? (i := 138) rfl) rfl
theorem wd_139 : (.methodLink RX3 26 yX3_isWithin : Cond) ∈ WA := tb_1 (List.mem_of_getElem? (i := 139) rfl) rfl
theorem wd_140 : (.static yX3_isWithin : Cond) ∈ WA := tb_1 (List.mem_of_getElem? (i := 140) rfl) rfl
theorem wd_141 : (.code yX3_isWithin cX3_isWithin 3 (some .boolean) : Cond) ∈ WA := tb_1 (List.mem_of_getElem? (i := 141) rfl) rfl
theorem wd_142 : (.methodLink RX3 30 yX3_isBoxSet : Cond) ∈ WA := tb_1 (List.mem_of_getElem? (i := 142) rfl) rfl
theorem wd_143 : (.static yX3_isBoxSet : Cond) ∈ WA := tb_1 (List.mem_of_getElem? (i := 143) rfl) rfl
theorem wd_144 : (.code yX3_isBoxSet cX3_isBoxSet 1 (some .boolean) : Cond) ∈ WA := tb_1 (List.mem_of_getElem? (i := 144) rfl) rfl
theorem wd_145 : (.methodLink RX3 34 yX3_isThread : Cond) ∈ WA := tb_1 (List.mem_of_getElem? (i := 145) rfl) rfl
theorem wd_146 : (.static yX3_isThread : Cond) ∈ WA := tb_1 (List.mem_of_getElem? (i := 146) rfl) rfl
theorem wd_147 : (.code yX3_isThread cX3_isThread 1 (some .boolean) : Cond) ∈ WA := tb_1 (List.mem_of_getElem? (i := 147) rfl) rfl
theorem wd_148 : (.classLink RX3 37 "java/lang/IllegalArgumentException" : Cond) ∈ WA := tb_1 (List.mem_of_getElem? (i := 148) rfl) rfl
theorem wd_149 : (.instantiable "java/lang/IllegalArgumentException" 6 : Cond) ∈ WA := tb_1 (List.mem_of_getElem? (i := 149) rfl) rfl
theorem wd_157 : (.selects "java/lang/IllegalArgumentException" ⟨"java/lang/Throwable", "fillInStackTrace", "(I)Ljava/lang/Throwable;"⟩ ⟨"java/lang/Throwable", "fillInStackTrace", "(I)Ljava/lang/Throwable;"⟩ : Cond) ∈ WA := tb_1 (List.mem_of_getElem? (i := 157) rfl) rfl
theorem wd_158 : (.selects "java/lang/IllegalArgumentException" ⟨"java/lang/Throwable", "fillInStackTrace", "()Ljava/lang/Throwable;"⟩ ⟨"java/lang/Throwable", "fillInStackTrace", "()Ljava/lang/Throwable;"⟩ : Cond) ∈ WA := tb_1 (List.mem_of_getElem? (i := 158) rfl) rfl
theorem wd_159 : (.lays "java/lang/IllegalArgumentException" "java/lang/Throwable" "cause" "Ljava/lang/Throwable;" : Cond) ∈ WA := tb_1 (List.mem_of_getElem? (i := 159) rfl) rfl
theorem wd_160 : (.lays "java/lang/Throwable" "java/lang/Throwable" "cause" "Ljava/lang/Throwable;" : Cond) ∈ WA := tb_1 (List.mem_of_getElem? (i := 160) rfl) rfl
theorem wd_161 : (.lays "java/lang/IllegalArgumentException" "java/lang/Throwable" "stackTrace" "[Ljava/lang/StackTraceElement;" : Cond) ∈ WA := tb_1 (List.mem_of_getElem? (i := 161) rfl) rfl
theorem wd_162 : (.lays "java/lang/Throwable" "java/lang/Throwable" "stackTrace" "[Ljava/lang/StackTraceElement;" : Cond) ∈ WA := tb_1 (List.mem_of_getElem? (i := 162) rfl) rfl
theorem wd_163 : (.lays "java/lang/IllegalArgumentException" "java/lang/Throwable" "suppressedExceptions" "Ljava/util/List;" : Cond) ∈ WA := tb_1 (List.mem_of_getElem? (i := 163) rfl) rfl
theorem wd_164 : (.lays "java/lang/Throwable" "java/lang/Throwable" "suppressedExceptions" "Ljava/util/List;" : Cond) ∈ WA := tb_1 (List.mem_of_getElem? (i := 164) rfl) rfl
theorem wd_165 : (.lays "java/lang/IllegalArgumentException" "java/lang/Throwable" "detailMessage" "Ljava/lang/String;" : Cond) ∈ WA := tb_1 (List.mem_of_getElem? (i := 165) rfl) rfl
theorem wd_166 : (.lays "java/lang/Throwable" "java/lang/Throwable" "detailMessage" "Ljava/lang/String;" : Cond) ∈ WA := tb_1 (List.mem_of_getElem? (i := 166) rfl) rfl
theorem wd_167 : (.lays "java/lang/IllegalArgumentException" "java/lang/Throwable" "backtrace" "Ljava/lang/Object;" : Cond) ∈ WA := tb_1 (List.mem_of_getElem? (i := 167) rfl) rfl
theorem wd_168 : (.lays "java/lang/Throwable" "java/lang/Throwable" "backtrace" "Ljava/lang/Object;" : Cond) ∈ WA := tb_1 (List.mem_of_getElem? (i := 168) rfl) rfl
theorem wd_169 : (.fieldLink "java/lang/Throwable" 198 "java/lang/Throwable" "backtrace" "Ljava/lang/Object;" : Cond) ∈ WA := tb_1 (List.mem_of_getElem? (i := 169) rfl) rfl
theorem wd_170 : (.superclass "java/lang/Throwable" "java/lang/Object" : Cond) ∈ WA := tb_1 (List.mem_of_getElem? (i := 170) rfl) rfl
theorem wd_171 : (.instanceMethod ⟨"java/lang/Throwable", "<init>", "()V"⟩ : Cond) ∈ WA := tb_1 (List.mem_of_getElem? (i := 171) rfl) rfl
theorem wd_173 : (.methodLink "java/lang/Throwable" 1 objectInit : Cond) ∈ WA := tb_1 (List.mem_of_getElem? (i := 173) rfl) rfl
theorem wd_174 : (.fieldLink "java/lang/Throwable" 13 "java/lang/Throwable" "UNASSIGNED_STACK" "[Ljava/lang/StackTraceElement;" : Cond) ∈ WA := tb_1 (List.mem_of_getElem? (i := 174) rfl) rfl
theorem wd_176 : (.fieldLink "java/lang/Throwable" 20 "java/lang/Throwable" "SUPPRESSED_SENTINEL" "Ljava/util/List;" : Cond) ∈ WA := tb_1 (List.mem_of_getElem? (i := 176) rfl) rfl
theorem wd_178 : (.methodLink "java/lang/Throwable" 27 ⟨"java/lang/Throwable", "fillInStackTrace", "()Ljava/lang/Throwable;"⟩ : Cond) ∈ WA := tb_1 (List.mem_of_getElem? (i := 178) rfl) rfl
theorem wd_179 : (.instanceMethod ⟨"java/lang/Throwable", "fillInStackTrace", "()Ljava/lang/Throwable;"⟩ : Cond) ∈ WA := tb_1 (List.mem_of_getElem? (i := 179) rfl) rfl
theorem wd_180 : (.sameMethod "java/lang/Throwable" "java/lang/Throwable" "fillInStackTrace" "()Ljava/lang/Throwable;" : Cond) ∈ WA := tb_1 (List.mem_of_getElem? (i := 180) rfl) rfl
theorem wd_181 : (.selects "java/lang/IllegalStateException" ⟨"java/lang/Throwable", "fillInStackTrace", "()Ljava/lang/Throwable;"⟩ ⟨"java/lang/Throwable", "fillInStackTrace", "()Ljava/lang/Throwable;"⟩ : Cond) ∈ WA := tb_1 (List.mem_of_getElem? (i := 181) rfl) rfl
theorem wd_182 : (.selects "java/lang/IndexOutOfBoundsException" ⟨"java/lang/Throwable", "fillInStackTrace", "()Ljava/lang/Throwable;"⟩ ⟨"java/lang/Throwable", "fillInStackTrace", "()Ljava/lang/Throwable;"⟩ : Cond) ∈ WA := tb_1 (List.mem_of_getElem? (i := 182) rfl) rfl
theorem wd_184 : (.methodLink "java/lang/Throwable" 202 ⟨"java/lang/Throwable", "fillInStackTrace", "(I)Ljava/lang/Throwable;"⟩ : Cond) ∈ WA := tb_1 (List.mem_of_getElem? (i := 184) rfl) rfl
theorem wd_186 : (.instanceMethod ⟨"java/lang/Throwable", "fillInStackTrace", "(I)Ljava/lang/Throwable;"⟩ : Cond) ∈ WA := tb_1 (List.mem_of_getElem? (i := 186) rfl) rfl
theorem wd_187 : (.instantiable "java/lang/Throwable" 6 : Cond) ∈ WA := tb_1 (List.mem_of_getElem? (i := 187) rfl) rfl
theorem wd_190 : (.methodLink RX3 41 ⟨"java/lang/IllegalArgumentException", "<init>", "(Ljava/lang/String;)V"⟩ : Cond) ∈ WA := tb_1 (List.mem_of_getElem? (i := 190) rfl) rfl
theorem wd_191 : (.instanceMethod ⟨"java/lang/IllegalArgumentException", "<init>", "(Ljava/lang/String;)V"⟩ : Cond) ∈ WA := tb_1 (List.mem_of_getElem? (i := 191) rfl) rfl
theorem wd_193 : (.methodLink "java/lang/IllegalArgumentException" 7 ⟨"java/lang/RuntimeException", "<init>", "(Ljava/lang/String;)V"⟩ : Cond) ∈ WA := tb_1 (List.mem_of_getElem? (i := 193) rfl) rfl
theorem wd_194 : (.instanceMethod ⟨"java/lang/RuntimeException", "<init>", "(Ljava/lang/String;)V"⟩ : Cond) ∈ WA := tb_1 (List.mem_of_getElem? (i := 194) rfl) rfl
theorem wd_196 : (.methodLink "java/lang/RuntimeException" 7 ⟨"java/lang/Exception", "<init>", "(Ljava/lang/String;)V"⟩ : Cond) ∈ WA := tb_1 (List.mem_of_getElem? (i := 196) rfl) rfl
theorem wd_197 : (.instanceMethod ⟨"java/lang/Exception", "<init>", "(Ljava/lang/String;)V"⟩ : Cond) ∈ WA := tb_1 (List.mem_of_getElem? (i := 197) rfl) rfl
theorem wd_199 : (.methodLink "java/lang/Exception" 7 ⟨"java/lang/Throwable", "<init>", "(Ljava/lang/String;)V"⟩ : Cond) ∈ WA := tb_1 (List.mem_of_getElem? (i := 199) rfl) rfl
theorem wd_200 : (.instanceMethod ⟨"java/lang/Throwable", "<init>", "(Ljava/lang/String;)V"⟩ : Cond) ∈ WA := tb_1 (List.mem_of_getElem? (i := 200) rfl) rfl
theorem wd_203 : (.fieldLink "java/lang/Throwable" 31 "java/lang/Throwable" "detailMessage" "Ljava/lang/String;" : Cond) ∈ WA := tb_1 (List.mem_of_getElem? (i := 203) rfl) rfl
theorem wd_204 : (.fieldLink "java/lang/Throwable" 7 "java/lang/Throwable" "cause" "Ljava/lang/Throwable;" : Cond) ∈ WA := tb_1 (List.mem_of_getElem? (i := 204) rfl) rfl
theorem wd_205 : (.fieldLink "java/lang/Throwable" 17 "java/lang/Throwable" "stackTrace" "[Ljava/lang/StackTraceElement;" : Cond) ∈ WA := tb_1 (List.mem_of_getElem? (i := 205) rfl) rfl
theorem wd_206 : (.fieldLink "java/lang/Throwable" 24 "java/lang/Throwable" "suppressedExceptions" "Ljava/util/List;" : Cond) ∈ WA := tb_1 (List.mem_of_getElem? (i := 206) rfl) rfl
theorem wd_211 : (.lays "java/lang/IllegalArgumentException" "java/lang/Throwable" "depth" "I" : Cond) ∈ WA := tb_1 (List.mem_of_getElem? (i := 211) rfl) rfl
theorem wd_214 : (.superclass "java/lang/IllegalArgumentException" "java/lang/RuntimeException" : Cond) ∈ WA := tb_1 (List.mem_of_getElem? (i := 214) rfl) rfl
theorem wd_215 : (.arrayClass .byte : Cond) ∈ WA := tb_1 (List.mem_of_getElem? (i := 215) rfl) rfl
theorem wd_216 : (.classLink RX3 48 "java/lang/IllegalStateException" : Cond) ∈ WA := tb_1 (List.mem_of_getElem? (i := 216) rfl) rfl
theorem wd_217 : (.instantiable "java/lang/IllegalStateException" 6 : Cond) ∈ WA := tb_1 (List.mem_of_getElem? (i := 217) rfl) rfl
theorem wd_219 : (.selects "java/lang/IllegalStateException" ⟨"java/lang/Throwable", "fillInStackTrace", "(I)Ljava/lang/Throwable;"⟩ ⟨"java/lang/Throwable", "fillInStackTrace", "(I)Ljava/lang/Throwable;"⟩ : Cond) ∈ WA := tb_1 (List.mem_of_getElem? (i := 219) rfl) rfl
theorem wd_220 : (.lays "java/lang/IllegalStateException" "java/lang/Throwable" "cause" "Ljava/lang/Throwable;" : Cond) ∈ WA := tb_1 (List.mem_of_getElem? (i := 220) rfl) rfl
theorem wd_221 : (.lays "java/lang/IllegalStateException" "java/lang/Throwable" "stackTrace" "[Ljava/lang/StackTraceElement;" : Cond) ∈ WA := tb_1 (List.mem_of_getElem? (i := 221) rfl) rfl
theorem wd_222 : (.lays "java/lang/IllegalStateException" "java/lang/Throwable" "suppressedExceptions" "Ljava/util/List;" : Cond) ∈ WA := tb_1 (List.mem_of_getElem? (i := 222) rfl) rfl
theorem wd_223 : (.lays "java/lang/IllegalStateException" "java/lang/Throwable" "detailMessage" "Ljava/lang/String;" : Cond) ∈ WA := tb_1 (List.mem_of_getElem? (i := 223) rfl) rfl
theorem wd_224 : (.lays "java/lang/IllegalStateException" "java/lang/Throwable" "backtrace" "Ljava/lang/Object;" : Cond) ∈ WA := tb_1 (List.mem_of_getElem? (i := 224) rfl) rfl
theorem wd_226 : (.methodLink RX3 52 ⟨"java/lang/IllegalStateException", "<init>", "(Ljava/lang/String;)V"⟩ : Cond) ∈ WA := tb_1 (List.mem_of_getElem? (i := 226) rfl) rfl
theorem wd_227 : (.instanceMethod ⟨"java/lang/IllegalStateException", "<init>", "(Ljava/lang/String;)V"⟩ : Cond) ∈ WA := tb_1 (List.mem_of_getElem? (i := 227) rfl) rfl
theorem wd_229 : (.methodLink "java/lang/IllegalStateException" 7 ⟨"java/lang/RuntimeException", "<init>", "(Ljava/lang/String;)V"⟩ : Cond) ∈ WA := tb_1 (List.mem_of_getElem? (i := 229) rfl) rfl
theorem wd_230 : (.lays "java/lang/IllegalStateException" "java/lang/Throwable" "depth" "I" : Cond) ∈ WA := tb_1 (List.mem_of_getElem? (i := 230) rfl) rfl
theorem wd_231 : (.superclass "java/lang/IllegalStateException" "java/lang/RuntimeException" : Cond) ∈ WA := tb_1 (List.mem_of_getElem? (i := 231) rfl) rfl
theorem wd_232 : (.methodLink RX3 53 yX2_letCome : Cond) ∈ WA := tb_1 (List.mem_of_getElem? (i := 232) rfl) rfl
theorem wd_233 : (.instanceMethod yX2_letCome : Cond) ∈ WA := tb_1 (List.mem_of_getElem? (i := 233) rfl) rfl
theorem wd_234 : (.selects RX2 yX2_letCome yX2_letCome : Cond) ∈ WA := tb_1 (List.mem_of_getElem? (i := 234) rfl) rfl
theorem wd_235 : (.code yX2_letCome cX2_letCome 5 (some .int) : Cond) ∈ WA := tb_1 (List.mem_of_getElem? (i := 235) rfl) rfl
theorem wd_236 : (.methodLink RX2 46 yX2_putInOrder : Cond) ∈ WA := tb_1 (List.mem_of_getElem? (i := 236) rfl) rfl
theorem wd_238 : (.instanceMethod yX2_putInOrder : Cond) ∈ WA := tb_1 (List.mem_of_getElem? (i := 238) rfl) rfl
theorem wd_239 : (.code yX2_putInOrder cX2_putInOrder 4 none : Cond) ∈ WA := tb_1 (List.mem_of_getElem? (i := 239) rfl) rfl
theorem wd_240 : (.methodLink RX2 53 yJ9_min_7cf53 : Cond) ∈ WA := tb_2 (List.mem_of_getElem? (i := 0) rfl) rfl
theorem wd_241 : (.static yJ9_min_7cf53 : Cond) ∈ WA := tb_2 (List.mem_of_getElem? (i := 1) rfl) rfl
theorem wd_242 : (.code yJ9_min_7cf53 cJ9_min_7cf53 2 (some .int) : Cond) ∈ WA := tb_2 (List.mem_of_getElem? (i := 2) rfl) rfl
theorem wd_243 : (.methodLink RX2 59 yX2_timeOf : Cond) ∈ WA := tb_2 (List.mem_of_getElem? (i := 3) rfl) rfl
theorem wd_245 : (.instanceMethod yX2_timeOf : Cond) ∈ WA := tb_2 (List.mem_of_getElem? (i := 5) rfl) rfl
theorem wd_246 : (.code yX2_timeOf cX2_timeOf 2 (some .int) : Cond) ∈ WA := tb_2 (List.mem_of_getElem? (i := 6) rfl) rfl
theorem wd_248 : (.methodLink RX2 50 yX2_change : Cond) ∈ WA := tb_2 (List.mem_of_getElem? (i := 8) rfl) rfl
theorem wd_249 : (.instanceMethod yX2_change : Cond) ∈ WA := tb_2 (List.mem_of_getElem? (i := 9) rfl) rfl
theorem wd_250 : (.selects RX2 yX2_change yX2_change : Cond) ∈ WA := tb_2 (List.mem_of_getElem? (i := 10) rfl) rfl
theorem wd_251 : (.code yX2_change cX2_change 4 (some .boolean) : Cond) ∈ WA := tb_2 (List.mem_of_getElem? (i := 11) rfl) rfl
theorem wd_252 : (.methodLink RX2 69 yX0_keep : Cond) ∈ WA := tb_2 (List.mem_of_getElem? (i := 12) rfl) rfl
theorem wd_253 : (.instanceMethod yX0_keep : Cond) ∈ WA := tb_2 (List.mem_of_getElem? (i := 13) rfl) rfl
theorem wd_254 : (.selects RX0 yX0_keep yX0_keep : Cond) ∈ WA := tb_2 (List.mem_of_getElem? (i := 14) rfl) rfl
theorem wd_255 : (.code yX0_keep cX0_keep 6 none : Cond) ∈ WA := tb_2 (List.mem_of_getElem? (i := 15) rfl) rfl
theorem wd_256 : (.methodLink RX0 34 yX0_slotOf : Cond) ∈ WA := tb_2 (List.mem_of_getElem? (i := 16) rfl) rfl
theorem wd_257 : (.static yX0_slotOf : Cond) ∈ WA := tb_2 (List.mem_of_getElem? (i := 17) rfl) rfl
theorem wd_258 : (.code yX0_slotOf cX0_slotOf 1 (some .int) : Cond) ∈ WA := tb_2 (List.mem_of_getElem? (i := 18) rfl) rfl
theorem wd_259 : (.methodLink RX0 24 yJ9_floorMod_7cf53 : Cond) ∈ WA := tb_2 (List.mem_of_getElem? (i := 19) rfl) rfl
theorem wd_260 : (.static yJ9_floorMod_7cf53 : Cond) ∈ WA := tb_2 (List.mem_of_getElem? (i := 20) rfl) rfl
theorem wd_261 : (.code yJ9_floorMod_7cf53 cJ9_floorMod_7cf53 3 (some .int) : Cond) ∈ WA := tb_2 (List.mem_of_getElem? (i := 21) rfl) rfl
theorem wd_262 : (.methodLink RL 71 yX3_move : Cond) ∈ WA := tb_2 (List.mem_of_getElem? (i := 22) rfl) rfl
theorem wd_263 : (.instanceMethod yX3_move : Cond) ∈ WA := tb_2 (List.mem_of_getElem? (i := 23) rfl) rfl
theorem wd_264 : (.selects RX3 yX3_move yX3_move : Cond) ∈ WA := tb_2 (List.mem_of_getElem? (i := 24) rfl) rfl
theorem wd_265 : (.code yX3_move cX3_move 4 (some .int) : Cond) ∈ WA := tb_2 (List.mem_of_getElem? (i := 25) rfl) rfl
theorem wd_266 : (.methodLink RX3 57 yX2_isThere : Cond) ∈ WA := tb_2 (List.mem_of_getElem? (i := 26) rfl) rfl
theorem wd_267 : (.instanceMethod yX2_isThere : Cond) ∈ WA := tb_2 (List.mem_of_getElem? (i := 27) rfl) rfl
theorem wd_268 : (.selects RX2 yX2_isThere yX2_isThere : Cond) ∈ WA := tb_2 (List.mem_of_getElem? (i := 28) rfl) rfl
theorem wd_269 : (.code yX2_isThere cX2_isThere 2 (some .boolean) : Cond) ∈ WA := tb_2 (List.mem_of_getElem? (i := 29) rfl) rfl
theorem wd_270 : (.methodLink RX2 38 yX2_boxesOf : Cond) ∈ WA := tb_2 (List.mem_of_getElem? (i := 30) rfl) rfl
theorem wd_271 : (.instanceMethod yX2_boxesOf : Cond) ∈ WA := tb_2 (List.mem_of_getElem? (i := 31) rfl) rfl
theorem wd_272 : (.selects RX2 yX2_boxesOf yX2_boxesOf : Cond) ∈ WA := tb_2 (List.mem_of_getElem? (i := 32) rfl) rfl
theorem wd_273 : (.code yX2_boxesOf cX2_boxesOf 2 (some .int) : Cond) ∈ WA := tb_2 (List.mem_of_getElem? (i := 33) rfl) rfl
theorem wd_274 : (.methodLink RX3 60 yX3_requireMail : Cond) ∈ WA := tb_2 (List.mem_of_getElem? (i := 34) rfl) rfl
theorem wd_275 : (.static yX3_requireMail : Cond) ∈ WA := tb_2 (List.mem_of_getElem? (i := 35) rfl) rfl
theorem wd_276 : (.code yX3_requireMail cX3_requireMail 1 none : Cond) ∈ WA := tb_2 (List.mem_of_getElem? (i := 36) rfl) rfl
theorem wd_277 : (.classLink RX3 220 "java/lang/IndexOutOfBoundsException" : Cond) ∈ WA := tb_2 (List.mem_of_getElem? (i := 37) rfl) rfl
theorem wd_278 : (.instantiable "java/lang/IndexOutOfBoundsException" 6 : Cond) ∈ WA := tb_2 (List.mem_of_getElem? (i := 38) rfl) rfl
theorem wd_280 : (.selects "java/lang/IndexOutOfBoundsException" ⟨"java/lang/Throwable", "fillInStackTrace", "(I)Ljava/lang/Throwable;"⟩ ⟨"java/lang/Throwable", "fillInStackTrace", "(I)Ljava/lang/Throwable;"⟩ : Cond) ∈ WA := tb_2 (List.mem_of_getElem? (i := 40) rfl) rfl
theorem wd_281 : (.lays "java/lang/IndexOutOfBoundsException" "java/lang/Throwable" "cause" "Ljava/lang/Throwable;" : Cond) ∈ WA := tb_2 (List.mem_of_getElem? (i := 41) rfl) rfl
theorem wd_282 : (.lays "java/lang/IndexOutOfBoundsException" "java/lang/Throwable" "stackTrace" "[Ljava/lang/StackTraceElement;" : Cond) ∈ WA := tb_2 (List.mem_of_getElem? (i := 42) rfl) rfl
theorem wd_283 : (.lays "java/lang/IndexOutOfBoundsException" "java/lang/Throwable" "suppressedExceptions" "Ljava/util/List;" : Cond) ∈ WA := tb_2 (List.mem_of_getElem? (i := 43) rfl) rfl
theorem wd_284 : (.lays "java/lang/IndexOutOfBoundsException" "java/lang/Throwable" "detailMessage" "Ljava/lang/String;" : Cond) ∈ WA := tb_2 (List.mem_of_getElem? (i := 44) rfl) rfl
theorem wd_285 : (.lays "java/lang/IndexOutOfBoundsException" "java/lang/Throwable" "backtrace" "Ljava/lang/Object;" : Cond) ∈ WA := tb_2 (List.mem_of_getElem? (i := 45) rfl) rfl
theorem wd_287 : (.methodLink RX3 224 ⟨"java/lang/IndexOutOfBoundsException", "<init>", "(Ljava/lang/String;)V"⟩ : Cond) ∈ WA := tb_2 (List.mem_of_getElem? (i := 47) rfl) rfl
theorem wd_288 : (.instanceMethod ⟨"java/lang/IndexOutOfBoundsException", "<init>", "(Ljava/lang/String;)V"⟩ : Cond) ∈ WA := tb_2 (List.mem_of_getElem? (i := 48) rfl) rfl
theorem wd_290 : (.methodLink "java/lang/IndexOutOfBoundsException" 7 ⟨"java/lang/RuntimeException", "<init>", "(Ljava/lang/String;)V"⟩ : Cond) ∈ WA := tb_2 (List.mem_of_getElem? (i := 50) rfl) rfl
theorem wd_291 : (.lays "java/lang/IndexOutOfBoundsException" "java/lang/Throwable" "depth" "I" : Cond) ∈ WA := tb_2 (List.mem_of_getElem? (i := 51) rfl) rfl
theorem wd_292 : (.superclass "java/lang/IndexOutOfBoundsException" "java/lang/RuntimeException" : Cond) ∈ WA := tb_2 (List.mem_of_getElem? (i := 52) rfl) rfl
theorem wd_294 : (.methodLink RX3 66 yX2_boxesOf : Cond) ∈ WA := tb_2 (List.mem_of_getElem? (i := 54) rfl) rfl
theorem wd_295 : (.methodLink RX3 70 yX2_keywordsOf : Cond) ∈ WA := tb_2 (List.mem_of_getElem? (i := 55) rfl) rfl
theorem wd_296 : (.instanceMethod yX2_keywordsOf : Cond) ∈ WA := tb_2 (List.mem_of_getElem? (i := 56) rfl) rfl
theorem wd_297 : (.selects RX2 yX2_keywordsOf yX2_keywordsOf : Cond) ∈ WA := tb_2 (List.mem_of_getElem? (i := 57) rfl) rfl
theorem wd_298 : (.code yX2_keywordsOf cX2_keywordsOf 2 (some .int) : Cond) ∈ WA := tb_2 (List.mem_of_getElem? (i := 58) rfl) rfl
theorem wd_299 : (.methodLink RX3 73 yX2_change : Cond) ∈ WA := tb_2 (List.mem_of_getElem? (i := 59) rfl) rfl
theorem wd_300 : (.methodLink RL 74 yX3_flag : Cond) ∈ WA := tb_2 (List.mem_of_getElem? (i := 60) rfl) rfl
theorem wd_301 : (.instanceMethod yX3_flag : Cond) ∈ WA := tb_2 (List.mem_of_getElem? (i := 61) rfl) rfl
theorem wd_302 : (.selects RX3 yX3_flag yX3_flag : Cond) ∈ WA := tb_2 (List.mem_of_getElem? (i := 62) rfl) rfl
theorem wd_303 : (.code yX3_flag cX3_flag 4 (some .boolean) : Cond) ∈ WA := tb_2 (List.mem_of_getElem? (i := 63) rfl) rfl
theorem wd_304 : (.methodLink RX3 76 yX3_isKeyword : Cond) ∈ WA := tb_2 (List.mem_of_getElem? (i := 64) rfl) rfl
theorem wd_305 : (.static yX3_isKeyword : Cond) ∈ WA := tb_2 (List.mem_of_getElem? (i := 65) rfl) rfl
theorem wd_306 : (.code yX3_isKeyword cX3_isKeyword 1 (some .boolean) : Cond) ∈ WA := tb_2 (List.mem_of_getElem? (i := 66) rfl) rfl
theorem wd_308 : (.methodLink RX3 81 yX2_setKeyword : Cond) ∈ WA := tb_2 (List.mem_of_getElem? (i := 68) rfl) rfl
theorem wd_309 : (.instanceMethod yX2_setKeyword : Cond) ∈ WA := tb_2 (List.mem_of_getElem? (i := 69) rfl) rfl
theorem wd_310 : (.selects RX2 yX2_setKeyword yX2_setKeyword : Cond) ∈ WA := tb_2 (List.mem_of_getElem? (i := 70) rfl) rfl
theorem wd_311 : (.code yX2_setKeyword cX2_setKeyword 4 (some .boolean) : Cond) ∈ WA := tb_2 (List.mem_of_getElem? (i := 71) rfl) rfl
theorem wd_312 : (.methodLink RX2 62 yX2_keywordsOf : Cond) ∈ WA := tb_2 (List.mem_of_getElem? (i := 72) rfl) rfl
theorem wd_314 : (.static yX3_with : Cond) ∈ WA := tb_2 (List.mem_of_getElem? (i := 74) rfl) rfl
theorem wd_315 : (.code yX3_with cX3_with 4 (some .long) : Cond) ∈ WA := tb_2 (List.mem_of_getElem? (i := 75) rfl) rfl
theorem wd_316 : (.constantLong RX3 161 (-1) : Cond) ∈ WA := tb_2 (List.mem_of_getElem? (i := 76) rfl) rfl
theorem wd_317 : (.methodLink RL 78 yX3_flagIf : Cond) ∈ WA := tb_2 (List.mem_of_getElem? (i := 77) rfl) rfl
theorem wd_318 : (.instanceMethod yX3_flagIf : Cond) ∈ WA := tb_2 (List.mem_of_getElem? (i := 78) rfl) rfl
theorem wd_319 : (.selects RX3 yX3_flagIf yX3_flagIf : Cond) ∈ WA := tb_2 (List.mem_of_getElem? (i := 79) rfl) rfl
theorem wd_320 : (.code yX3_flagIf cX3_flagIf 5 (some .boolean) : Cond) ∈ WA := tb_2 (List.mem_of_getElem? (i := 80) rfl) rfl
theorem wd_322 : (.methodLink RL 82 yX3_destroy : Cond) ∈ WA := tb_2 (List.mem_of_getElem? (i := 82) rfl) rfl
theorem wd_323 : (.instanceMethod yX3_destroy : Cond) ∈ WA := tb_2 (List.mem_of_getElem? (i := 83) rfl) rfl
theorem wd_324 : (.selects RX3 yX3_destroy yX3_destroy : Cond) ∈ WA := tb_2 (List.mem_of_getElem? (i := 84) rfl) rfl
theorem wd_325 : (.code yX3_destroy cX3_destroy 2 (some .int) : Cond) ∈ WA := tb_2 (List.mem_of_getElem? (i := 85) rfl) rfl
theorem wd_326 : (.methodLink RL 18 yX3_state : Cond) ∈ WA := tb_2 (List.mem_of_getElem? (i := 86) rfl) rfl
theorem wd_327 : (.instanceMethod yX3_state : Cond) ∈ WA := tb_2 (List.mem_of_getElem? (i := 87) rfl) rfl
theorem wd_328 : (.selects RX3 yX3_state yX3_state : Cond) ∈ WA := tb_2 (List.mem_of_getElem? (i := 88) rfl) rfl
theorem wd_329 : (.code yX3_state cX3_state 1 (some .int) : Cond) ∈ WA := tb_2 (List.mem_of_getElem? (i := 89) rfl) rfl
theorem wd_330 : (.methodLink RL 42 yX3_mails : Cond) ∈ WA := tb_2 (List.mem_of_getElem? (i := 90) rfl) rfl
theorem wd_331 : (.instanceMethod yX3_mails : Cond) ∈ WA := tb_2 (List.mem_of_getElem? (i := 91) rfl) rfl
theorem wd_332 : (.selects RX3 yX3_mails yX3_mails : Cond) ∈ WA := tb_2 (List.mem_of_getElem? (i := 92) rfl) rfl
theorem wd_333 : (.code yX3_mails cX3_mails 1 (some .int) : Cond) ∈ WA := tb_2 (List.mem_of_getElem? (i := 93) rfl) rfl
theorem wd_334 : (.methodLink RX3 96 yX2_matching : Cond) ∈ WA := tb_2 (List.mem_of_getElem? (i := 94) rfl) rfl
theorem wd_335 : (.instanceMethod yX2_matching : Cond) ∈ WA := tb_2 (List.mem_of_getElem? (i := 95) rfl) rfl
theorem wd_336 : (.selects RX2 yX2_matching yX2_matching : Cond) ∈ WA := tb_2 (List.mem_of_getElem? (i := 96) rfl) rfl
theorem wd_337 : (.code yX2_matching cX2_matching 6 (some .long) : Cond) ∈ WA := tb_2 (List.mem_of_getElem? (i := 97) rfl) rfl
theorem wd_339 : (.static yX3_matches : Cond) ∈ WA := tb_2 (List.mem_of_getElem? (i := 99) rfl) rfl
theorem wd_340 : (.code yX3_matches cX3_matches 4 (some .boolean) : Cond) ∈ WA := tb_2 (List.mem_of_getElem? (i := 100) rfl) rfl
theorem wd_341 : (.methodLink RX3 100 yJ13_bitCount_95d88 : Cond) ∈ WA := tb_2 (List.mem_of_getElem? (i := 101) rfl) rfl
theorem wd_342 : (.static yJ13_bitCount_95d88 : Cond) ∈ WA := tb_2 (List.mem_of_getElem? (i := 102) rfl) rfl
theorem wd_343 : (.code yJ13_bitCount_95d88 cJ13_bitCount_95d88 2 (some .int) : Cond) ∈ WA := tb_2 (List.mem_of_getElem? (i := 103) rfl) rfl
theorem wd_344 : (.constantLong RJ13 314 (6148914691236517205) : Cond) ∈ WA := tb_2 (List.mem_of_getElem? (i := 104) rfl) rfl
theorem wd_345 : (.constantLong RJ13 316 (3689348814741910323) : Cond) ∈ WA := tb_2 (List.mem_of_getElem? (i := 105) rfl) rfl
theorem wd_346 : (.constantLong RJ13 318 (1085102592571150095) : Cond) ∈ WA := tb_2 (List.mem_of_getElem? (i := 106) rfl) rfl
theorem wd_347 : (.methodLink RL 8 yX3_found : Cond) ∈ WA := tb_2 (List.mem_of_getElem? (i := 107) rfl) rfl
theorem wd_348 : (.instanceMethod yX3_found : Cond) ∈ WA := tb_2 (List.mem_of_getElem? (i := 108) rfl) rfl
theorem wd_349 : (.selects RX3 yX3_found yX3_found : Cond) ∈ WA := tb_2 (List.mem_of_getElem? (i := 109) rfl) rfl
theorem wd_350 : (.code yX3_found cX3_found 3 (some .int) : Cond) ∈ WA := tb_2 (List.mem_of_getElem? (i := 110) rfl) rfl
theorem wd_351 : (.methodLink RX3 111 yX3_isBox : Cond) ∈ WA := tb_2 (List.mem_of_getElem? (i := 111) rfl) rfl
theorem wd_352 : (.static yX3_isBox : Cond) ∈ WA := tb_2 (List.mem_of_getElem? (i := 112) rfl) rfl
theorem wd_353 : (.code yX3_isBox cX3_isBox 1 (some .boolean) : Cond) ∈ WA := tb_2 (List.mem_of_getElem? (i := 113) rfl) rfl
theorem wd_354 : (.methodLink RX3 146 yX3_isQueryKeyword : Cond) ∈ WA := tb_2 (List.mem_of_getElem? (i := 114) rfl) rfl
theorem wd_355 : (.static yX3_isQueryKeyword : Cond) ∈ WA := tb_2 (List.mem_of_getElem? (i := 115) rfl) rfl
theorem wd_356 : (.code yX3_isQueryKeyword cX3_isQueryKeyword 1 (some .boolean) : Cond) ∈ WA := tb_2 (List.mem_of_getElem? (i := 116) rfl) rfl
theorem wd_358 : (.methodLink RX3 149 yX3_asked : Cond) ∈ WA := tb_2 (List.mem_of_getElem? (i := 118) rfl) rfl
theorem wd_359 : (.static yX3_asked : Cond) ∈ WA := tb_2 (List.mem_of_getElem? (i := 119) rfl) rfl
theorem wd_360 : (.code yX3_asked cX3_asked 1 (some .int) : Cond) ∈ WA := tb_2 (List.mem_of_getElem? (i := 120) rfl) rfl
theorem wd_361 : (.methodLink RL 96 yX3_watch : Cond) ∈ WA := tb_2 (List.mem_of_getElem? (i := 121) rfl) rfl
theorem wd_362 : (.instanceMethod yX3_watch : Cond) ∈ WA := tb_2 (List.mem_of_getElem? (i := 122) rfl) rfl
theorem wd_363 : (.selects RX3 yX3_watch yX3_watch : Cond) ∈ WA := tb_2 (List.mem_of_getElem? (i := 123) rfl) rfl
theorem wd_364 : (.code yX3_watch cX3_watch 5 none : Cond) ∈ WA := tb_2 (List.mem_of_getElem? (i := 124) rfl) rfl
theorem wd_365 : (.methodLink RX3 163 yX3_isClient : Cond) ∈ WA := tb_2 (List.mem_of_getElem? (i := 125) rfl) rfl
theorem wd_366 : (.static yX3_isClient : Cond) ∈ WA := tb_2 (List.mem_of_getElem? (i := 126) rfl) rfl
theorem wd_367 : (.code yX3_isClient cX3_isClient 1 (some .boolean) : Cond) ∈ WA := tb_2 (List.mem_of_getElem? (i := 127) rfl) rfl
theorem wd_369 : (.methodLink RX3 168 yX3_clientOf : Cond) ∈ WA := tb_2 (List.mem_of_getElem? (i := 129) rfl) rfl
theorem wd_371 : (.instanceMethod yX3_clientOf : Cond) ∈ WA := tb_2 (List.mem_of_getElem? (i := 131) rfl) rfl
theorem wd_372 : (.code yX3_clientOf cX3_clientOf 2 (some (.object "MailFollower$Client")) : Cond) ∈ WA := tb_2 (List.mem_of_getElem? (i := 132) rfl) rfl
theorem wd_373 : (.methodLink RL 85 yX3_flagOffline : Cond) ∈ WA := tb_2 (List.mem_of_getElem? (i := 133) rfl) rfl
theorem wd_374 : (.instanceMethod yX3_flagOffline : Cond) ∈ WA := tb_2 (List.mem_of_getElem? (i := 134) rfl) rfl
theorem wd_375 : (.selects RX3 yX3_flagOffline yX3_flagOffline : Cond) ∈ WA := tb_2 (List.mem_of_getElem? (i := 135) rfl) rfl
theorem wd_376 : (.code yX3_flagOffline cX3_flagOffline 7 (some .int) : Cond) ∈ WA := tb_2 (List.mem_of_getElem? (i := 136) rfl) rfl
theorem wd_378 : (.methodLink RX3 180 yX1_placeOf : Cond) ∈ WA := tb_2 (List.mem_of_getElem? (i := 138) rfl) rfl
theorem wd_379 : (.instanceMethod yX1_placeOf : Cond) ∈ WA := tb_2 (List.mem_of_getElem? (i := 139) rfl) rfl
theorem wd_380 : (.selects RX1 yX1_placeOf yX1_placeOf : Cond) ∈ WA := tb_2 (List.mem_of_getElem? (i := 140) rfl) rfl
theorem wd_381 : (.code yX1_placeOf cX1_placeOf 3 (some .int) : Cond) ∈ WA := tb_2 (List.mem_of_getElem? (i := 141) rfl) rfl
theorem wd_384 : (.methodLink RX3 190 yX1_note : Cond) ∈ WA := tb_2 (List.mem_of_getElem? (i := 144) rfl) rfl
theorem wd_385 : (.instanceMethod yX1_note : Cond) ∈ WA := tb_2 (List.mem_of_getElem? (i := 145) rfl) rfl
theorem wd_386 : (.selects RX1 yX1_note yX1_note : Cond) ∈ WA := tb_2 (List.mem_of_getElem? (i := 146) rfl) rfl
theorem wd_387 : (.code yX1_note cX1_note 4 none : Cond) ∈ WA := tb_2 (List.mem_of_getElem? (i := 147) rfl) rfl
theorem wd_388 : (.methodLink RX1 35 yX1_hasPlace : Cond) ∈ WA := tb_2 (List.mem_of_getElem? (i := 148) rfl) rfl
theorem wd_389 : (.instanceMethod yX1_hasPlace : Cond) ∈ WA := tb_2 (List.mem_of_getElem? (i := 149) rfl) rfl
theorem wd_390 : (.selects RX1 yX1_hasPlace yX1_hasPlace : Cond) ∈ WA := tb_2 (List.mem_of_getElem? (i := 150) rfl) rfl
theorem wd_391 : (.code yX1_hasPlace cX1_hasPlace 2 (some .boolean) : Cond) ∈ WA := tb_2 (List.mem_of_getElem? (i := 151) rfl) rfl
theorem wd_393 : (.methodLink RX1 43 yX1_list : Cond) ∈ WA := tb_2 (List.mem_of_getElem? (i := 153) rfl) rfl
theorem wd_395 : (.instanceMethod yX1_list : Cond) ∈ WA := tb_2 (List.mem_of_getElem? (i := 155) rfl) rfl
theorem wd_396 : (.code yX1_list cX1_list 4 none : Cond) ∈ WA := tb_2 (List.mem_of_getElem? (i := 156) rfl) rfl
theorem wd_397 : (.methodLink RL 89 yX3_sync : Cond) ∈ WA := tb_2 (List.mem_of_getElem? (i := 157) rfl) rfl
theorem wd_398 : (.instanceMethod yX3_sync : Cond) ∈ WA := tb_2 (List.mem_of_getElem? (i := 158) rfl) rfl
theorem wd_399 : (.selects RX3 yX3_sync yX3_sync : Cond) ∈ WA := tb_2 (List.mem_of_getElem? (i := 159) rfl) rfl
theorem wd_400 : (.code yX3_sync cX3_sync 4 (some .int) : Cond) ∈ WA := tb_2 (List.mem_of_getElem? (i := 160) rfl) rfl
theorem wd_401 : (.methodLink RX3 194 yX3_requireClient : Cond) ∈ WA := tb_2 (List.mem_of_getElem? (i := 161) rfl) rfl
theorem wd_402 : (.static yX3_requireClient : Cond) ∈ WA := tb_2 (List.mem_of_getElem? (i := 162) rfl) rfl
theorem wd_403 : (.code yX3_requireClient cX3_requireClient 1 none : Cond) ∈ WA := tb_2 (List.mem_of_getElem? (i := 163) rfl) rfl
theorem wd_405 : (.methodLink RX3 121 yX0_reachBackTo : Cond) ∈ WA := tb_2 (List.mem_of_getElem? (i := 165) rfl) rfl
theorem wd_406 : (.instanceMethod yX0_reachBackTo : Cond) ∈ WA := tb_2 (List.mem_of_getElem? (i := 166) rfl) rfl
theorem wd_407 : (.selects RX0 yX0_reachBackTo yX0_reachBackTo : Cond) ∈ WA := tb_2 (List.mem_of_getElem? (i := 167) rfl) rfl
theorem wd_408 : (.code yX0_reachBackTo cX0_reachBackTo 2 (some .boolean) : Cond) ∈ WA := tb_2 (List.mem_of_getElem? (i := 168) rfl) rfl
theorem wd_409 : (.methodLink RX3 203 yX1_leaveOutConflicts : Cond) ∈ WA := tb_2 (List.mem_of_getElem? (i := 169) rfl) rfl
theorem wd_410 : (.instanceMethod yX1_leaveOutConflicts : Cond) ∈ WA := tb_2 (List.mem_of_getElem? (i := 170) rfl) rfl
theorem wd_411 : (.selects RX1 yX1_leaveOutConflicts yX1_leaveOutConflicts : Cond) ∈ WA := tb_2 (List.mem_of_getElem? (i := 171) rfl) rfl
theorem wd_412 : (.code yX1_leaveOutConflicts cX1_leaveOutConflicts 4 (some .int) : Cond) ∈ WA := tb_2 (List.mem_of_getElem? (i := 172) rfl) rfl
theorem wd_413 : (.methodLink RX1 50 yX1_isConflict : Cond) ∈ WA := tb_2 (List.mem_of_getElem? (i := 173) rfl) rfl
theorem wd_415 : (.instanceMethod yX1_isConflict : Cond) ∈ WA := tb_2 (List.mem_of_getElem? (i := 175) rfl) rfl
theorem wd_416 : (.code yX1_isConflict cX1_isConflict 6 (some .boolean) : Cond) ∈ WA := tb_2 (List.mem_of_getElem? (i := 176) rfl) rfl
theorem wd_417 : (.methodLink RX1 54 yX2_isThere : Cond) ∈ WA := tb_2 (List.mem_of_getElem? (i := 177) rfl) rfl
theorem wd_418 : (.methodLink RX1 66 yX0_reachBackTo : Cond) ∈ WA := tb_2 (List.mem_of_getElem? (i := 178) rfl) rfl
theorem wd_419 : (.methodLink RX1 71 yX0_contradict : Cond) ∈ WA := tb_2 (List.mem_of_getElem? (i := 179) rfl) rfl
theorem wd_420 : (.instanceMethod yX0_contradict : Cond) ∈ WA := tb_2 (List.mem_of_getElem? (i := 180) rfl) rfl
theorem wd_421 : (.selects RX0 yX0_contradict yX0_contradict : Cond) ∈ WA := tb_2 (List.mem_of_getElem? (i := 181) rfl) rfl
theorem wd_422 : (.code yX0_contradict cX0_contradict 8 (some .boolean) : Cond) ∈ WA := tb_2 (List.mem_of_getElem? (i := 182) rfl) rfl
theorem wd_423 : (.methodLink RX0 41 yX0_countBehind : Cond) ∈ WA := tb_2 (List.mem_of_getElem? (i := 183) rfl) rfl
theorem wd_425 : (.instanceMethod yX0_countBehind : Cond) ∈ WA := tb_2 (List.mem_of_getElem? (i := 185) rfl) rfl
theorem wd_426 : (.code yX0_countBehind cX0_countBehind 2 (some .int) : Cond) ∈ WA := tb_2 (List.mem_of_getElem? (i := 186) rfl) rfl
theorem wd_427 : (.methodLink RX0 38 yJ9_min_7cf53 : Cond) ∈ WA := tb_2 (List.mem_of_getElem? (i := 187) rfl) rfl
theorem wd_429 : (.static yX3_holds : Cond) ∈ WA := tb_2 (List.mem_of_getElem? (i := 189) rfl) rfl
theorem wd_430 : (.code yX3_holds cX3_holds 3 (some .boolean) : Cond) ∈ WA := tb_2 (List.mem_of_getElem? (i := 190) rfl) rfl
theorem wd_431 : (.methodLink RX3 207 yX1_replay : Cond) ∈ WA := tb_2 (List.mem_of_getElem? (i := 191) rfl) rfl
theorem wd_432 : (.instanceMethod yX1_replay : Cond) ∈ WA := tb_2 (List.mem_of_getElem? (i := 192) rfl) rfl
theorem wd_433 : (.selects RX1 yX1_replay yX1_replay : Cond) ∈ WA := tb_2 (List.mem_of_getElem? (i := 193) rfl) rfl
theorem wd_434 : (.code yX1_replay cX1_replay 3 none : Cond) ∈ WA := tb_2 (List.mem_of_getElem? (i := 194) rfl) rfl
theorem wd_435 : (.methodLink RX1 75 yX2_setKeyword : Cond) ∈ WA := tb_2 (List.mem_of_getElem? (i := 195) rfl) rfl
theorem wd_436 : (.methodLink RX3 211 yX1_load : Cond) ∈ WA := tb_2 (List.mem_of_getElem? (i := 196) rfl) rfl
theorem wd_437 : (.instanceMethod yX1_load : Cond) ∈ WA := tb_2 (List.mem_of_getElem? (i := 197) rfl) rfl
theorem wd_438 : (.selects RX1 yX1_load yX1_load : Cond) ∈ WA := tb_2 (List.mem_of_getElem? (i := 198) rfl) rfl
theorem wd_439 : (.code yX1_load cX1_load 6 none : Cond) ∈ WA := tb_2 (List.mem_of_getElem? (i := 199) rfl) rfl
theorem wd_440 : (.methodLink RX1 85 yX2_matching : Cond) ∈ WA := tb_2 (List.mem_of_getElem? (i := 200) rfl) rfl
theorem wd_441 : (.methodLink RX1 89 yJ13_bitCount_95d88 : Cond) ∈ WA := tb_2 (List.mem_of_getElem? (i := 201) rfl) rfl
theorem wd_442 : (.methodLink RX1 95 yJ9_min_7cf53 : Cond) ∈ WA := tb_2 (List.mem_of_getElem? (i := 202) rfl) rfl
theorem wd_443 : (.methodLink RX1 101 yX2_latestAt : Cond) ∈ WA := tb_2 (List.mem_of_getElem? (i := 203) rfl) rfl
theorem wd_444 : (.instanceMethod yX2_latestAt : Cond) ∈ WA := tb_2 (List.mem_of_getElem? (i := 204) rfl) rfl
theorem wd_445 : (.selects RX2 yX2_latestAt yX2_latestAt : Cond) ∈ WA := tb_2 (List.mem_of_getElem? (i := 205) rfl) rfl
theorem wd_446 : (.code yX2_latestAt cX2_latestAt 6 (some .int) : Cond) ∈ WA := tb_2 (List.mem_of_getElem? (i := 206) rfl) rfl
theorem wd_448 : (.methodLink RX1 105 yX2_keywordsOf : Cond) ∈ WA := tb_2 (List.mem_of_getElem? (i := 208) rfl) rfl
theorem wd_449 : (.methodLink RL 22 yX3_window : Cond) ∈ WA := tb_2 (List.mem_of_getElem? (i := 209) rfl) rfl
theorem wd_450 : (.instanceMethod yX3_window : Cond) ∈ WA := tb_2 (List.mem_of_getElem? (i := 210) rfl) rfl
theorem wd_451 : (.selects RX3 yX3_window yX3_window : Cond) ∈ WA := tb_2 (List.mem_of_getElem? (i := 211) rfl) rfl
theorem wd_452 : (.code yX3_window cX3_window 2 (some .int) : Cond) ∈ WA := tb_2 (List.mem_of_getElem? (i := 212) rfl) rfl
theorem wd_453 : (.methodLink RL 25 yX3_windowAt : Cond) ∈ WA := tb_2 (List.mem_of_getElem? (i := 213) rfl) rfl
theorem wd_454 : (.instanceMethod yX3_windowAt : Cond) ∈ WA := tb_2 (List.mem_of_getElem? (i := 214) rfl) rfl
theorem wd_455 : (.selects RX3 yX3_windowAt yX3_windowAt : Cond) ∈ WA := tb_2 (List.mem_of_getElem? (i := 215) rfl) rfl
theorem wd_456 : (.code yX3_windowAt cX3_windowAt 4 (some .int) : Cond) ∈ WA := tb_2 (List.mem_of_getElem? (i := 216) rfl) rfl
theorem wd_457 : (.methodLink RX3 217 yX1_hasPlace : Cond) ∈ WA := tb_2 (List.mem_of_getElem? (i := 217) rfl) rfl
theorem wd_458 : (.methodLink RL 32 yX3_known : Cond) ∈ WA := tb_2 (List.mem_of_getElem? (i := 218) rfl) rfl
theorem wd_459 : (.instanceMethod yX3_known : Cond) ∈ WA := tb_2 (List.mem_of_getElem? (i := 219) rfl) rfl
theorem wd_460 : (.selects RX3 yX3_known yX3_known : Cond) ∈ WA := tb_2 (List.mem_of_getElem? (i := 220) rfl) rfl
theorem wd_461 : (.code yX3_known cX3_known 4 (some .int) : Cond) ∈ WA := tb_2 (List.mem_of_getElem? (i := 221) rfl) rfl
theorem wd_462 : (.methodLink RL 58 yL_told : Cond) ∈ WA := tb_2 (List.mem_of_getElem? (i := 222) rfl) rfl
theorem wd_463 : (.static yL_told : Cond) ∈ WA := tb_2 (List.mem_of_getElem? (i := 223) rfl) rfl
theorem wd_464 : (.code yL_told cL_told 2 (some .int) : Cond) ∈ WA := tb_2 (List.mem_of_getElem? (i := 224) rfl) rfl
theorem wd_466 : (.methodLink RL 64 yL_there : Cond) ∈ WA := tb_2 (List.mem_of_getElem? (i := 226) rfl) rfl
theorem wd_467 : (.static yL_there : Cond) ∈ WA := tb_2 (List.mem_of_getElem? (i := 227) rfl) rfl
theorem wd_468 : (.code yL_there cL_there 4 (some .int) : Cond) ∈ WA := tb_2 (List.mem_of_getElem? (i := 228) rfl) rfl
theorem wd_469 : (.methodLink RL 92 yL_isFresh : Cond) ∈ WA := tb_2 (List.mem_of_getElem? (i := 229) rfl) rfl
theorem wd_470 : (.static yL_isFresh : Cond) ∈ WA := tb_2 (List.mem_of_getElem? (i := 230) rfl) rfl
theorem wd_471 : (.code yL_isFresh cL_isFresh 7 (some .boolean) : Cond) ∈ WA := tb_2 (List.mem_of_getElem? (i := 231) rfl) rfl
theorem wd_472 : (.methodLink RL 14 yX3_stateOf : Cond) ∈ WA := tb_2 (List.mem_of_getElem? (i := 232) rfl) rfl
theorem wd_473 : (.instanceMethod yX3_stateOf : Cond) ∈ WA := tb_2 (List.mem_of_getElem? (i := 233) rfl) rfl
theorem wd_474 : (.selects RX3 yX3_stateOf yX3_stateOf : Cond) ∈ WA := tb_2 (List.mem_of_getElem? (i := 234) rfl) rfl
theorem wd_475 : (.code yX3_stateOf cX3_stateOf 2 (some .int) : Cond) ∈ WA := tb_2 (List.mem_of_getElem? (i := 235) rfl) rfl
theorem wd_476 : (.methodLink RL 28 yX3_foundAt : Cond) ∈ WA := tb_2 (List.mem_of_getElem? (i := 236) rfl) rfl
theorem wd_477 : (.instanceMethod yX3_foundAt : Cond) ∈ WA := tb_2 (List.mem_of_getElem? (i := 237) rfl) rfl
theorem wd_478 : (.selects RX3 yX3_foundAt yX3_foundAt : Cond) ∈ WA := tb_2 (List.mem_of_getElem? (i := 238) rfl) rfl
theorem wd_479 : (.code yX3_foundAt cX3_foundAt 5 (some .int) : Cond) ∈ WA := tb_2 (List.mem_of_getElem? (i := 239) rfl) rfl
theorem wd_480 : (.methodLink RX3 152 yX2_latestAt : Cond) ∈ WA := tb_3 (List.mem_of_getElem? (i := 0) rfl) rfl
theorem wd_481 : (.methodLink RL 35 yX3_keywords : Cond) ∈ WA := tb_3 (List.mem_of_getElem? (i := 1) rfl) rfl
theorem wd_482 : (.instanceMethod yX3_keywords : Cond) ∈ WA := tb_3 (List.mem_of_getElem? (i := 2) rfl) rfl
theorem wd_483 : (.selects RX3 yX3_keywords yX3_keywords : Cond) ∈ WA := tb_3 (List.mem_of_getElem? (i := 3) rfl) rfl
theorem wd_484 : (.code yX3_keywords cX3_keywords 2 (some .int) : Cond) ∈ WA := tb_3 (List.mem_of_getElem? (i := 4) rfl) rfl
theorem wd_485 : (.methodLink RL 100 yL_isTold : Cond) ∈ WA := tb_3 (List.mem_of_getElem? (i := 5) rfl) rfl
theorem wd_486 : (.static yL_isTold : Cond) ∈ WA := tb_3 (List.mem_of_getElem? (i := 6) rfl) rfl
theorem wd_487 : (.code yL_isTold cL_isTold 9 (some .boolean) : Cond) ∈ WA := tb_3 (List.mem_of_getElem? (i := 7) rfl) rfl
theorem wd_488 : (.methodLink RL 38 yX3_canTell : Cond) ∈ WA := tb_3 (List.mem_of_getElem? (i := 8) rfl) rfl
theorem wd_489 : (.instanceMethod yX3_canTell : Cond) ∈ WA := tb_3 (List.mem_of_getElem? (i := 9) rfl) rfl
theorem wd_490 : (.selects RX3 yX3_canTell yX3_canTell : Cond) ∈ WA := tb_3 (List.mem_of_getElem? (i := 10) rfl) rfl
theorem wd_491 : (.code yX3_canTell cX3_canTell 2 (some .boolean) : Cond) ∈ WA := tb_3 (List.mem_of_getElem? (i := 11) rfl) rfl
theorem wd_492 : (.methodLink RX3 116 yX3_isState : Cond) ∈ WA := tb_3 (List.mem_of_getElem? (i := 12) rfl) rfl
theorem wd_494 : (.instanceMethod yX3_isState : Cond) ∈ WA := tb_3 (List.mem_of_getElem? (i := 14) rfl) rfl
theorem wd_495 : (.code yX3_isState cX3_isState 2 (some .boolean) : Cond) ∈ WA := tb_3 (List.mem_of_getElem? (i := 15) rfl) rfl
theorem wd_497 : (.methodLink RL 45 yX3_changed : Cond) ∈ WA := tb_3 (List.mem_of_getElem? (i := 17) rfl) rfl
theorem wd_498 : (.instanceMethod yX3_changed : Cond) ∈ WA := tb_3 (List.mem_of_getElem? (i := 18) rfl) rfl
theorem wd_499 : (.selects RX3 yX3_changed yX3_changed : Cond) ∈ WA := tb_3 (List.mem_of_getElem? (i := 19) rfl) rfl
theorem wd_500 : (.code yX3_changed cX3_changed 3 (some .int) : Cond) ∈ WA := tb_3 (List.mem_of_getElem? (i := 20) rfl) rfl
theorem wd_501 : (.methodLink RX3 124 yX3_isWay : Cond) ∈ WA := tb_3 (List.mem_of_getElem? (i := 21) rfl) rfl
theorem wd_502 : (.static yX3_isWay : Cond) ∈ WA := tb_3 (List.mem_of_getElem? (i := 22) rfl) rfl
theorem wd_503 : (.code yX3_isWay cX3_isWay 1 (some .boolean) : Cond) ∈ WA := tb_3 (List.mem_of_getElem? (i := 23) rfl) rfl
theorem wd_505 : (.methodLink RX3 129 yX3_requireTelling : Cond) ∈ WA := tb_3 (List.mem_of_getElem? (i := 25) rfl) rfl
theorem wd_507 : (.instanceMethod yX3_requireTelling : Cond) ∈ WA := tb_3 (List.mem_of_getElem? (i := 27) rfl) rfl
theorem wd_508 : (.code yX3_requireTelling cX3_requireTelling 2 none : Cond) ∈ WA := tb_3 (List.mem_of_getElem? (i := 28) rfl) rfl
theorem wd_510 : (.methodLink RX3 133 yX2_changedSince : Cond) ∈ WA := tb_3 (List.mem_of_getElem? (i := 30) rfl) rfl
theorem wd_511 : (.instanceMethod yX2_changedSince : Cond) ∈ WA := tb_3 (List.mem_of_getElem? (i := 31) rfl) rfl
theorem wd_512 : (.selects RX2 yX2_changedSince yX2_changedSince : Cond) ∈ WA := tb_3 (List.mem_of_getElem? (i := 32) rfl) rfl
theorem wd_513 : (.code yX2_changedSince cX2_changedSince 7 (some .long) : Cond) ∈ WA := tb_3 (List.mem_of_getElem? (i := 33) rfl) rfl
theorem wd_514 : (.methodLink RX2 81 yX2_matching : Cond) ∈ WA := tb_3 (List.mem_of_getElem? (i := 34) rfl) rfl
theorem wd_515 : (.methodLink RX2 89 yX2_matchingAt : Cond) ∈ WA := tb_3 (List.mem_of_getElem? (i := 35) rfl) rfl
theorem wd_516 : (.instanceMethod yX2_matchingAt : Cond) ∈ WA := tb_3 (List.mem_of_getElem? (i := 36) rfl) rfl
theorem wd_517 : (.selects RX2 yX2_matchingAt yX2_matchingAt : Cond) ∈ WA := tb_3 (List.mem_of_getElem? (i := 37) rfl) rfl
theorem wd_518 : (.code yX2_matchingAt cX2_matchingAt 4 (some .long) : Cond) ∈ WA := tb_3 (List.mem_of_getElem? (i := 38) rfl) rfl
theorem wd_519 : (.methodLink RX2 85 yX0_undo : Cond) ∈ WA := tb_3 (List.mem_of_getElem? (i := 39) rfl) rfl
theorem wd_520 : (.instanceMethod yX0_undo : Cond) ∈ WA := tb_3 (List.mem_of_getElem? (i := 40) rfl) rfl
theorem wd_521 : (.selects RX0 yX0_undo yX0_undo : Cond) ∈ WA := tb_3 (List.mem_of_getElem? (i := 41) rfl) rfl
theorem wd_522 : (.code yX0_undo cX0_undo 12 (some .long) : Cond) ∈ WA := tb_3 (List.mem_of_getElem? (i := 42) rfl) rfl
theorem wd_525 : (.constantLong RX2 93 (-1) : Cond) ∈ WA := tb_3 (List.mem_of_getElem? (i := 45) rfl) rfl
theorem wd_526 : (.methodLink RX2 95 yX0_touched : Cond) ∈ WA := tb_3 (List.mem_of_getElem? (i := 46) rfl) rfl
theorem wd_527 : (.instanceMethod yX0_touched : Cond) ∈ WA := tb_3 (List.mem_of_getElem? (i := 47) rfl) rfl
theorem wd_528 : (.selects RX0 yX0_touched yX0_touched : Cond) ∈ WA := tb_3 (List.mem_of_getElem? (i := 48) rfl) rfl
theorem wd_529 : (.code yX0_touched cX0_touched 6 (some .long) : Cond) ∈ WA := tb_3 (List.mem_of_getElem? (i := 49) rfl) rfl
theorem wd_530 : (.methodLink RL 48 yX3_added : Cond) ∈ WA := tb_3 (List.mem_of_getElem? (i := 50) rfl) rfl
theorem wd_531 : (.instanceMethod yX3_added : Cond) ∈ WA := tb_3 (List.mem_of_getElem? (i := 51) rfl) rfl
theorem wd_532 : (.selects RX3 yX3_added yX3_added : Cond) ∈ WA := tb_3 (List.mem_of_getElem? (i := 52) rfl) rfl
theorem wd_533 : (.code yX3_added cX3_added 6 (some .int) : Cond) ∈ WA := tb_3 (List.mem_of_getElem? (i := 53) rfl) rfl
theorem wd_535 : (.methodLink RX3 157 yX2_matchingAt : Cond) ∈ WA := tb_3 (List.mem_of_getElem? (i := 55) rfl) rfl
theorem wd_536 : (.methodLink RL 51 yX3_removed : Cond) ∈ WA := tb_3 (List.mem_of_getElem? (i := 56) rfl) rfl
theorem wd_537 : (.instanceMethod yX3_removed : Cond) ∈ WA := tb_3 (List.mem_of_getElem? (i := 57) rfl) rfl
theorem wd_538 : (.selects RX3 yX3_removed yX3_removed : Cond) ∈ WA := tb_3 (List.mem_of_getElem? (i := 58) rfl) rfl
theorem wd_539 : (.code yX3_removed cX3_removed 6 (some .int) : Cond) ∈ WA := tb_3 (List.mem_of_getElem? (i := 59) rfl) rfl
theorem wd_540 : (.methodLink RL 54 yX3_page : Cond) ∈ WA := tb_3 (List.mem_of_getElem? (i := 60) rfl) rfl
theorem wd_541 : (.instanceMethod yX3_page : Cond) ∈ WA := tb_3 (List.mem_of_getElem? (i := 61) rfl) rfl
theorem wd_542 : (.selects RX3 yX3_page yX3_page : Cond) ∈ WA := tb_3 (List.mem_of_getElem? (i := 62) rfl) rfl
theorem wd_543 : (.code yX3_page cX3_page 3 (some .int) : Cond) ∈ WA := tb_3 (List.mem_of_getElem? (i := 63) rfl) rfl
theorem wd_545 : (.methodLink RX3 142 yX0_endOfPage : Cond) ∈ WA := tb_3 (List.mem_of_getElem? (i := 65) rfl) rfl
theorem wd_546 : (.instanceMethod yX0_endOfPage : Cond) ∈ WA := tb_3 (List.mem_of_getElem? (i := 66) rfl) rfl
theorem wd_547 : (.selects RX0 yX0_endOfPage yX0_endOfPage : Cond) ∈ WA := tb_3 (List.mem_of_getElem? (i := 67) rfl) rfl
theorem wd_548 : (.code yX0_endOfPage cX0_endOfPage 8 (some .int) : Cond) ∈ WA := tb_3 (List.mem_of_getElem? (i := 68) rfl) rfl
theorem wd_549 : (.methodLink RX0 56 yJ13_bitCount_95d88 : Cond) ∈ WA := tb_3 (List.mem_of_getElem? (i := 69) rfl) rfl
theorem wd_550 : (.sameMethod "java/lang/Throwable" "java/lang/Throwable" "fillInStackTrace" "(I)Ljava/lang/Throwable;" : Cond) ∈ WA := tb_3 (List.mem_of_getElem? (i := 70) rfl) rfl
theorem wp_1 : (.selects RX2 yX2_putInOrder yX2_putInOrder : Cond) ∈ WA := tb_p (List.mem_of_getElem? (i := 1) rfl) rfl
theorem wp_2 : (.selects RX2 yX2_timeOf yX2_timeOf : Cond) ∈ WA := tb_p (List.mem_of_getElem? (i := 2) rfl) rfl
theorem wp_3 : (.selects RX3 yX3_clientOf yX3_clientOf : Cond) ∈ WA := tb_p (List.mem_of_getElem? (i := 3) rfl) rfl
theorem wp_4 : (.selects RX1 yX1_list yX1_list : Cond) ∈ WA := tb_p (List.mem_of_getElem? (i := 4) rfl) rfl
theorem wp_5 : (.selects RX1 yX1_isConflict yX1_isConflict : Cond) ∈ WA := tb_p (List.mem_of_getElem? (i := 5) rfl) rfl
theorem wp_6 : (.selects RX0 yX0_countBehind yX0_countBehind : Cond) ∈ WA := tb_p (List.mem_of_getElem? (i := 6) rfl) rfl
theorem wp_7 : (.selects RX3 yX3_isState yX3_isState : Cond) ∈ WA := tb_p (List.mem_of_getElem? (i := 7) rfl) rfl
theorem wp_8 : (.selects RX3 yX3_requireTelling yX3_requireTelling : Cond) ∈ WA := tb_p (List.mem_of_getElem? (i := 8) rfl) rfl
theorem wl_X0_0 : u_lay RX0 TX0 0 ∈ WA := tb_1 (List.mem_of_getElem? (i := 40) rfl) rfl
theorem wl_X0_1 : u_lay RX0 TX0 1 ∈ WA := tb_1 (List.mem_of_getElem? (i := 42) rfl) rfl
theorem wl_X0_2 : u_lay RX0 TX0 2 ∈ WA := tb_1 (List.mem_of_getElem? (i := 44) rfl) rfl
theorem wl_X0_3 : u_lay RX0 TX0 3 ∈ WA := tb_1 (List.mem_of_getElem? (i := 46) rfl) rfl
theorem wl_X0_4 : u_lay RX0 TX0 4 ∈ WA := tb_1 (List.mem_of_getElem? (i := 48) rfl) rfl
theorem uwX0 : ∀ w ∈ u_ws RX0 TX0 5, w ∈ WA := by
  intro w hw
  obtain ⟨k, hk, rfl⟩ := List.mem_map.mp hw
  have hk := List.mem_range.mp hk
  match k, hk with
  | 0, _ => exact wl_X0_0
  | 1, _ => exact wl_X0_1
  | 2, _ => exact wl_X0_2
  | 3, _ => exact wl_X0_3
  | 4, _ => exact wl_X0_4
  | k + 5, hk => exact absurd hk (by omega)
theorem wl_X1_0 : u_lay RX1 TX1 0 ∈ WA := tb_1 (List.mem_of_getElem? (i := 101) rfl) rfl
theorem wl_X1_1 : u_lay RX1 TX1 1 ∈ WA := tb_1 (List.mem_of_getElem? (i := 103) rfl) rfl
theorem wl_X1_2 : u_lay RX1 TX1 2 ∈ WA := tb_1 (List.mem_of_getElem? (i := 105) rfl) rfl
theorem wl_X1_3 : u_lay RX1 TX1 3 ∈ WA := tb_1 (List.mem_of_getElem? (i := 107) rfl) rfl
theorem wl_X1_4 : u_lay RX1 TX1 4 ∈ WA := tb_1 (List.mem_of_getElem? (i := 109) rfl) rfl
theorem wl_X1_5 : u_lay RX1 TX1 5 ∈ WA := tb_1 (List.mem_of_getElem? (i := 111) rfl) rfl
theorem wl_X1_6 : u_lay RX1 TX1 6 ∈ WA := tb_1 (List.mem_of_getElem? (i := 113) rfl) rfl
theorem wl_X1_7 : u_lay RX1 TX1 7 ∈ WA := tb_1 (List.mem_of_getElem? (i := 115) rfl) rfl
theorem wl_X1_8 : u_lay RX1 TX1 8 ∈ WA := tb_1 (List.mem_of_getElem? (i := 117) rfl) rfl
theorem wl_X1_9 : u_lay RX1 TX1 9 ∈ WA := tb_1 (List.mem_of_getElem? (i := 119) rfl) rfl
theorem wl_X1_10 : u_lay RX1 TX1 10 ∈ WA := tb_1 (List.mem_of_getElem? (i := 121) rfl) rfl
theorem uwX1 : ∀ w ∈ u_ws RX1 TX1 11, w ∈ WA := by
  intro w hw
  obtain ⟨k, hk, rfl⟩ := List.mem_map.mp hw
  have hk := List.mem_range.mp hk
  match k, hk with
  | 0, _ => exact wl_X1_0
  | 1, _ => exact wl_X1_1
  | 2, _ => exact wl_X1_2
  | 3, _ => exact wl_X1_3
  | 4, _ => exact wl_X1_4
  | 5, _ => exact wl_X1_5
  | 6, _ => exact wl_X1_6
  | 7, _ => exact wl_X1_7
  | 8, _ => exact wl_X1_8
  | 9, _ => exact wl_X1_9
  | 10, _ => exact wl_X1_10
  | k + 11, hk => exact absurd hk (by omega)
theorem wl_X2_0 : u_lay RX2 TX2 0 ∈ WA := tb_1 (List.mem_of_getElem? (i := 62) rfl) rfl
theorem wl_X2_1 : u_lay RX2 TX2 1 ∈ WA := tb_1 (List.mem_of_getElem? (i := 64) rfl) rfl
theorem wl_X2_2 : u_lay RX2 TX2 2 ∈ WA := tb_1 (List.mem_of_getElem? (i := 66) rfl) rfl
theorem wl_X2_3 : u_lay RX2 TX2 3 ∈ WA := tb_1 (List.mem_of_getElem? (i := 68) rfl) rfl
theorem wl_X2_4 : u_lay RX2 TX2 4 ∈ WA := tb_1 (List.mem_of_getElem? (i := 70) rfl) rfl
theorem wl_X2_5 : u_lay RX2 TX2 5 ∈ WA := tb_1 (List.mem_of_getElem? (i := 72) rfl) rfl
theorem wl_X2_6 : u_lay RX2 TX2 6 ∈ WA := tb_1 (List.mem_of_getElem? (i := 74) rfl) rfl
theorem uwX2 : ∀ w ∈ u_ws RX2 TX2 7, w ∈ WA := by
  intro w hw
  obtain ⟨k, hk, rfl⟩ := List.mem_map.mp hw
  have hk := List.mem_range.mp hk
  match k, hk with
  | 0, _ => exact wl_X2_0
  | 1, _ => exact wl_X2_1
  | 2, _ => exact wl_X2_2
  | 3, _ => exact wl_X2_3
  | 4, _ => exact wl_X2_4
  | 5, _ => exact wl_X2_5
  | 6, _ => exact wl_X2_6
  | k + 7, hk => exact absurd hk (by omega)
theorem wl_X3_0 : u_lay RX3 TX3 0 ∈ WA := tb_1 (List.mem_of_getElem? (i := 128) rfl) rfl
theorem wl_X3_1 : u_lay RX3 TX3 1 ∈ WA := tb_1 (List.mem_of_getElem? (i := 130) rfl) rfl
theorem wl_X3_2 : u_lay RX3 TX3 2 ∈ WA := tb_1 (List.mem_of_getElem? (i := 132) rfl) rfl
theorem uwX3 : ∀ w ∈ u_ws RX3 TX3 3, w ∈ WA := by
  intro w hw
  obtain ⟨k, hk, rfl⟩ := List.mem_map.mp hw
  have hk := List.mem_range.mp hk
  match k, hk with
  | 0, _ => exact wl_X3_0
  | 1, _ => exact wl_X3_1
  | 2, _ => exact wl_X3_2
  | k + 3, hk => exact absurd hk (by omega)
theorem wa_good : ∀ w ∈ WA, (w.onTables && w.keeps) = true ∨ ∃ ty, w = .arrayClass ty := fun w h => good_of_word (List.mem_filter.mp h).2
theorem wa_tbl : ∀ w ∈ WA, w ∈ lw_tbl := fun w h => (List.mem_filter.mp h).1
theorem gd_c {c : Cond} (h : c ∈ WA) : GoodIn WA (c :: WA) := fun w hw => (List.mem_cons.mp hw).elim (fun e => by rw [e]; exact ⟨h, wa_good _ h⟩) (fun h => ⟨h, wa_good _ h⟩)
theorem gd_a {a b : List Cond} (h1 : ∀ w ∈ a, w ∈ WA) (h2 : GoodIn WA b) : GoodIn WA (a ++ b) := fun w hw => (List.mem_append.mp hw).elim (fun h => ⟨h1 w h, wa_good _ (h1 w h)⟩) (h2 w)
theorem gdV {own C : String} {idx : Nat} {y : MethodName} {c : Cond} (h1 : Cond.methodLink own idx y ∈ WA) (h2 : Cond.instanceMethod y ∈ WA) (h3 : Cond.selects C y y ∈ WA) (h4 : Cond.initialized C ∈ WA) (h5 : c ∈ WA) : GoodIn WA (wsV own idx C y (c :: WA)) := gd_a (List.forall_mem_cons.mpr ⟨h1, List.forall_mem_cons.mpr ⟨h2, List.forall_mem_cons.mpr ⟨h3, List.forall_mem_cons.mpr ⟨h4, fun _ h => nomatch h⟩⟩⟩⟩) (gd_c h5)
theorem gdS {own : String} {idx : Nat} {y : MethodName} {c : Cond} (h1 : Cond.methodLink own idx y ∈ WA) (h2 : Cond.static y ∈ WA) (h4 : Cond.initialized y.cls ∈ WA) (h5 : c ∈ WA) : GoodIn WA (va_wsS own idx y (c :: WA)) := gd_a (List.forall_mem_cons.mpr ⟨h1, List.forall_mem_cons.mpr ⟨h2, List.forall_mem_cons.mpr ⟨h4, fun _ h => nomatch h⟩⟩⟩) (gd_c h5)
