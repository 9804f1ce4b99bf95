/-! what the tables say beyond the good words, in one bundle -/
def EX_0 (sa : Nat → Nat) (U : State) : Prop := (va_Nw (.fieldLinkNest RX3 89 "MailFollower$Changes" "latest" "I" "MailFollower") U) ∧ (va_Nw (.fieldLinkNest RX1 79 "MailFollower$Changes" "latest" "I" "MailFollower") U) ∧ (va_Nw (.fieldLinkNest RX3 85 "MailFollower$Server" "changes" "LMailFollower$Changes;" "MailFollower") U) ∧ (va_Nw (.fieldLinkNest RX1 59 "MailFollower$Server" "changes" "LMailFollower$Changes;" "MailFollower") U) ∧ (va_Nw (.fieldLinkNest RX3 44 "MailFollower$Server" "come" "I" "MailFollower") U) ∧ (va_Nw (.fieldLinkNest RX3 172 "MailFollower$Client" "box" "I" "MailFollower") U) ∧ (va_Nw (.fieldLinkNest RX3 175 "MailFollower$Client" "width" "I" "MailFollower") U) ∧ (va_Nw (.fieldLinkNest RX3 197 "MailFollower$Client" "syncState" "I" "MailFollower") U) ∧ (va_Nw (.fieldLinkNest RX3 200 "MailFollower$Client" "loads" "I" "MailFollower") U)
def EX_1 (sa : Nat → Nat) (U : State) : Prop := (va_Nw (.fieldLinkNest RX3 225 "MailFollower$Client" "windowMails" "[I" "MailFollower") U) ∧ (va_Nw (.fieldLinkNest RX3 229 "MailFollower$Client" "windowKeywords" "[I" "MailFollower") U) ∧ (va_Nw (.fieldLinkNest RX3 214 "MailFollower$Client" "windowSize" "I" "MailFollower") U) ∧ (va_Nw (.fieldLinkNest RX3 185 "MailFollower$Client" "flags" "I" "MailFollower") U) ∧ (va_Nw (.methodLinkNest RX2 77 yX3_matches "MailFollower") U) ∧ (va_Nw (.methodLinkNest RX2 65 yX3_with "MailFollower") U) ∧ (va_Nw (.methodLinkNest RX2 34 yX3_isWithin "MailFollower") U) ∧ (va_Nw (.methodLinkNest RX0 44 yX3_matches "MailFollower") U) ∧ (va_Nw (.methodLinkNest RX0 48 yX3_with "MailFollower") U)
def EX_2 (sa : Nat → Nat) (U : State) : Prop := (va_Nw (.methodLinkNest RX0 52 yX3_holds "MailFollower") U) ∧ (va_Nw (.methodLinkNest RX2 99 yX3_holds "MailFollower") U) ∧ (va_Nw (.methodLinkNest RX1 39 yX3_with "MailFollower") U) ∧ (va_Nw (.castable "java/lang/IllegalArgumentException" "java/lang/IllegalArgumentException") U) ∧ (va_Nw (.castable "java/lang/IllegalStateException" "java/lang/IllegalStateException") U) ∧ (va_Nw (.castable "java/lang/IndexOutOfBoundsException" "java/lang/IndexOutOfBoundsException") U) ∧ (vk_R RX3 39 "time, boxes or thread is out of range" (sa 0) U) ∧ (vk_R RX3 50 "all mails have come" (sa 1) U) ∧ (vk_R RX3 222 "there is no such mail" (sa 2) U)
def EX_3 (sa : Nat → Nat) (U : State) : Prop := (vk_R RX3 64 "boxes is out of range" (sa 3) U) ∧ (vk_R RX3 79 "keyword is out of range" (sa 4) U) ∧ (vk_R RX3 94 "the state is another one" (sa 5) U) ∧ (vk_R RX3 106 "thread is out of range" (sa 6) U) ∧ (vk_R RX3 114 "box or keyword is out of range" (sa 7) U) ∧ (vk_R RX3 119 "state is out of range" (sa 8) U) ∧ (vk_R RX3 127 "state or way is out of range" (sa 9) U) ∧ (vk_R RX3 234 "the server cannot tell what changed" (sa 10) U) ∧ (vk_R RX3 140 "state or places is out of range" (sa 11) U)
def EX_4 (sa : Nat → Nat) (U : State) : Prop := (vk_R RX3 155 "state, box or keyword is out of range" (sa 12) U) ∧ (vk_R RX3 166 "client, box or width is out of range" (sa 13) U) ∧ (vk_R RX3 178 "client or keyword is out of range" (sa 14) U) ∧ (vk_R RX3 183 "the mail is not in the window" (sa 15) U) ∧ (vk_R RX3 188 "the list is full" (sa 16) U) ∧ (vk_R RX3 232 "client is out of range" (sa 17) U) ∧ (va_Nw (.declares ⟨"java/lang/RuntimeException", "<init>", "(Ljava/lang/String;)V"⟩) U) ∧ (va_Nw (.declares ⟨"java/lang/Exception", "<init>", "(Ljava/lang/String;)V"⟩) U) ∧ (va_Nw (.declares ⟨"java/lang/Throwable", "<init>", "(Ljava/lang/String;)V"⟩) U)
def EX_5 (sa : Nat → Nat) (U : State) : Prop := (va_Nc "java/lang/IllegalArgumentException" "java/lang/IllegalStateException" U) ∧ (va_Nc "java/lang/IllegalArgumentException" "java/lang/IndexOutOfBoundsException" U) ∧ (va_Nc "java/lang/IllegalStateException" "java/lang/IllegalArgumentException" U) ∧ (va_Nc "java/lang/IllegalStateException" "java/lang/IndexOutOfBoundsException" U) ∧ (va_Nc "java/lang/IndexOutOfBoundsException" "java/lang/IllegalArgumentException" U) ∧ (va_Nc "java/lang/IndexOutOfBoundsException" "java/lang/IllegalStateException" U)
def EX (sa : Nat → Nat) (U : State) : Prop := EX_0 sa U ∧ EX_1 sa U ∧ EX_2 sa U ∧ EX_3 sa U ∧ EX_4 sa U ∧ EX_5 sa U
theorem EX_0.warm {sa : Nat → Nat} {s U : State} (hW : s.WarmedH U.vm) (h : EX_0 sa s) : EX_0 sa U := by
  obtain ⟨h0, h1, h2, h3, h4, h5, h6, h7, h8⟩ := h
  exact ⟨va_Nw.warmF hW h0, va_Nw.warmF hW h1, va_Nw.warmF hW h2, va_Nw.warmF hW h3, va_Nw.warmF hW h4, va_Nw.warmF hW h5, va_Nw.warmF hW h6, va_Nw.warmF hW h7, va_Nw.warmF hW h8⟩
theorem EX_0.same {sa : Nat → Nat} {s U : State} (hv : s.vm = U.vm) (h : EX_0 sa s) : EX_0 sa U := by
  obtain ⟨h0, h1, h2, h3, h4, h5, h6, h7, h8⟩ := h
  exact ⟨va_Nw.same rfl hv h0, va_Nw.same rfl hv h1, va_Nw.same rfl hv h2, va_Nw.same rfl hv h3, va_Nw.same rfl hv h4, va_Nw.same rfl hv h5, va_Nw.same rfl hv h6, va_Nw.same rfl hv h7, va_Nw.same rfl hv h8⟩
theorem EX_1.warm {sa : Nat → Nat} {s U : State} (hW : s.WarmedH U.vm) (h : EX_1 sa s) : EX_1 sa U := by
  obtain ⟨h0, h1, h2, h3, h4, h5, h6, h7, h8⟩ := h
  exact ⟨va_Nw.warmF hW h0, va_Nw.warmF hW h1, va_Nw.warmF hW h2, va_Nw.warmF hW h3, va_Nw.warmM hW h4, va_Nw.warmM hW h5, va_Nw.warmM hW h6, va_Nw.warmM hW h7, va_Nw.warmM hW h8⟩
theorem EX_1.same {sa : Nat → Nat} {s U : State} (hv : s.vm = U.vm) (h : EX_1 sa s) : EX_1 sa U := by
  obtain ⟨h0, h1, h2, h3, h4, h5, h6, h7, h8⟩ := h
  exact ⟨va_Nw.same rfl hv h0, va_Nw.same rfl hv h1, va_Nw.same rfl hv h2, va_Nw.same rfl hv h3, va_Nw.same rfl hv h4, va_Nw.same rfl hv h5, va_Nw.same rfl hv h6, va_Nw.same rfl hv h7, va_Nw.same rfl hv h8⟩
theorem EX_2.warm {sa : Nat → Nat} {s U : State} (hW : s.WarmedH U.vm) (h : EX_2 sa s) : EX_2 sa U := by
  obtain ⟨h0, h1, h2, h3, h4, h5, h6, h7, h8⟩ := h
  exact ⟨va_Nw.warmM hW h0, va_Nw.warmM hW h1, va_Nw.warmM hW h2, va_Nw.warmC hW h3, va_Nw.warmC hW h4, va_Nw.warmC hW h5, vk_R.warm hW h6, vk_R.warm hW h7, vk_R.warm hW h8⟩
theorem EX_2.same {sa : Nat → Nat} {s U : State} (hv : s.vm = U.vm) (h : EX_2 sa s) : EX_2 sa U := by
  obtain ⟨h0, h1, h2, h3, h4, h5, h6, h7, h8⟩ := h
  exact ⟨va_Nw.same rfl hv h0, va_Nw.same rfl hv h1, va_Nw.same rfl hv h2, va_Nw.same rfl hv h3, va_Nw.same rfl hv h4, va_Nw.same rfl hv h5, vk_R.same hv.symm h6, vk_R.same hv.symm h7, vk_R.same hv.symm h8⟩
theorem EX_3.warm {sa : Nat → Nat} {s U : State} (hW : s.WarmedH U.vm) (h : EX_3 sa s) : EX_3 sa U := by
  obtain ⟨h0, h1, h2, h3, h4, h5, h6, h7, h8⟩ := h
  exact ⟨vk_R.warm hW h0, vk_R.warm hW h1, vk_R.warm hW h2, vk_R.warm hW h3, vk_R.warm hW h4, vk_R.warm hW h5, vk_R.warm hW h6, vk_R.warm hW h7, vk_R.warm hW h8⟩
theorem EX_3.same {sa : Nat → Nat} {s U : State} (hv : s.vm = U.vm) (h : EX_3 sa s) : EX_3 sa U := by
  obtain ⟨h0, h1, h2, h3, h4, h5, h6, h7, h8⟩ := h
  exact ⟨vk_R.same hv.symm h0, vk_R.same hv.symm h1, vk_R.same hv.symm h2, vk_R.same hv.symm h3, vk_R.same hv.symm h4, vk_R.same hv.symm h5, vk_R.same hv.symm h6, vk_R.same hv.symm h7, vk_R.same hv.symm h8⟩
theorem EX_4.warm {sa : Nat → Nat} {s U : State} (hW : s.WarmedH U.vm) (h : EX_4 sa s) : EX_4 sa U := by
  obtain ⟨h0, h1, h2, h3, h4, h5, h6, h7, h8⟩ := h
  exact ⟨vk_R.warm hW h0, vk_R.warm hW h1, vk_R.warm hW h2, vk_R.warm hW h3, vk_R.warm hW h4, vk_R.warm hW h5, va_Nw.warmD hW h6, va_Nw.warmD hW h7, va_Nw.warmD hW h8⟩
theorem EX_4.same {sa : Nat → Nat} {s U : State} (hv : s.vm = U.vm) (h : EX_4 sa s) : EX_4 sa U := by
  obtain ⟨h0, h1, h2, h3, h4, h5, h6, h7, h8⟩ := h
  exact ⟨vk_R.same hv.symm h0, vk_R.same hv.symm h1, vk_R.same hv.symm h2, vk_R.same hv.symm h3, vk_R.same hv.symm h4, vk_R.same hv.symm h5, va_Nw.same rfl hv h6, va_Nw.same rfl hv h7, va_Nw.same rfl hv h8⟩
theorem EX_5.warm {sa : Nat → Nat} {s U : State} (hW : s.WarmedH U.vm) (h : EX_5 sa s) : EX_5 sa U := by
  obtain ⟨h0, h1, h2, h3, h4, h5⟩ := h
  exact ⟨va_Nc.moved hW.alike h0, va_Nc.moved hW.alike h1, va_Nc.moved hW.alike h2, va_Nc.moved hW.alike h3, va_Nc.moved hW.alike h4, va_Nc.moved hW.alike h5⟩
theorem EX_5.same {sa : Nat → Nat} {s U : State} (hv : s.vm = U.vm) (h : EX_5 sa s) : EX_5 sa U := by
  obtain ⟨h0, h1, h2, h3, h4, h5⟩ := h
  exact ⟨va_Nc.moved (hv ▸ Vm.Alike.refl _) h0, va_Nc.moved (hv ▸ Vm.Alike.refl _) h1, va_Nc.moved (hv ▸ Vm.Alike.refl _) h2, va_Nc.moved (hv ▸ Vm.Alike.refl _) h3, va_Nc.moved (hv ▸ Vm.Alike.refl _) h4, va_Nc.moved (hv ▸ Vm.Alike.refl _) h5⟩
theorem EX.warm {sa : Nat → Nat} {s U : State} (hW : s.WarmedH U.vm) (h : EX sa s) : EX sa U := by
  obtain ⟨h0, h1, h2, h3, h4, h5⟩ := h
  exact ⟨EX_0.warm hW h0, EX_1.warm hW h1, EX_2.warm hW h2, EX_3.warm hW h3, EX_4.warm hW h4, EX_5.warm hW h5⟩
theorem EX.same {sa : Nat → Nat} {s U : State} (hv : s.vm = U.vm) (h : EX sa s) : EX sa U := by
  obtain ⟨h0, h1, h2, h3, h4, h5⟩ := h
  exact ⟨EX_0.same hv h0, EX_1.same hv h1, EX_2.same hv h2, EX_3.same hv h3, EX_4.same hv h4, EX_5.same hv h5⟩
theorem ex_RX3_89 {sa : Nat → Nat} {U : State} (h : EX sa U) : va_Nw (.fieldLinkNest RX3 89 "MailFollower$Changes" "latest" "I" "MailFollower") U := h.1.1
theorem ex_RX1_79 {sa : Nat → Nat} {U : State} (h : EX sa U) : va_Nw (.fieldLinkNest RX1 79 "MailFollower$Changes" "latest" "I" "MailFollower") U := h.1.2.1
theorem ex_RX3_85 {sa : Nat → Nat} {U : State} (h : EX sa U) : va_Nw (.fieldLinkNest RX3 85 "MailFollower$Server" "changes" "LMailFollower$Changes;" "MailFollower") U := h.1.2.2.1
theorem ex_RX1_59 {sa : Nat → Nat} {U : State} (h : EX sa U) : va_Nw (.fieldLinkNest RX1 59 "MailFollower$Server" "changes" "LMailFollower$Changes;" "MailFollower") U := h.1.2.2.2.1
theorem ex_RX3_44 {sa : Nat → Nat} {U : State} (h : EX sa U) : va_Nw (.fieldLinkNest RX3 44 "MailFollower$Server" "come" "I" "MailFollower") U := h.1.2.2.2.2.1
theorem ex_RX3_172 {sa : Nat → Nat} {U : State} (h : EX sa U) : va_Nw (.fieldLinkNest RX3 172 "MailFollower$Client" "box" "I" "MailFollower") U := h.1.2.2.2.2.2.1
theorem ex_RX3_175 {sa : Nat → Nat} {U : State} (h : EX sa U) : va_Nw (.fieldLinkNest RX3 175 "MailFollower$Client" "width" "I" "MailFollower") U := h.1.2.2.2.2.2.2.1
theorem ex_RX3_197 {sa : Nat → Nat} {U : State} (h : EX sa U) : va_Nw (.fieldLinkNest RX3 197 "MailFollower$Client" "syncState" "I" "MailFollower") U := h.1.2.2.2.2.2.2.2.1
theorem ex_RX3_200 {sa : Nat → Nat} {U : State} (h : EX sa U) : va_Nw (.fieldLinkNest RX3 200 "MailFollower$Client" "loads" "I" "MailFollower") U := h.1.2.2.2.2.2.2.2.2
theorem ex_RX3_225 {sa : Nat → Nat} {U : State} (h : EX sa U) : va_Nw (.fieldLinkNest RX3 225 "MailFollower$Client" "windowMails" "[I" "MailFollower") U := h.2.1.1
theorem ex_RX3_229 {sa : Nat → Nat} {U : State} (h : EX sa U) : va_Nw (.fieldLinkNest RX3 229 "MailFollower$Client" "windowKeywords" "[I" "MailFollower") U := h.2.1.2.1
theorem ex_RX3_214 {sa : Nat → Nat} {U : State} (h : EX sa U) : va_Nw (.fieldLinkNest RX3 214 "MailFollower$Client" "windowSize" "I" "MailFollower") U := h.2.1.2.2.1
theorem ex_RX3_185 {sa : Nat → Nat} {U : State} (h : EX sa U) : va_Nw (.fieldLinkNest RX3 185 "MailFollower$Client" "flags" "I" "MailFollower") U := h.2.1.2.2.2.1
theorem ex_RX2_77 {sa : Nat → Nat} {U : State} (h : EX sa U) : va_Nw (.methodLinkNest RX2 77 yX3_matches "MailFollower") U := h.2.1.2.2.2.2.1
theorem ex_RX2_65 {sa : Nat → Nat} {U : State} (h : EX sa U) : va_Nw (.methodLinkNest RX2 65 yX3_with "MailFollower") U := h.2.1.2.2.2.2.2.1
theorem ex_RX2_34 {sa : Nat → Nat} {U : State} (h : EX sa U) : va_Nw (.methodLinkNest RX2 34 yX3_isWithin "MailFollower") U := h.2.1.2.2.2.2.2.2.1
theorem ex_RX0_44 {sa : Nat → Nat} {U : State} (h : EX sa U) : va_Nw (.methodLinkNest RX0 44 yX3_matches "MailFollower") U := h.2.1.2.2.2.2.2.2.2.1
theorem ex_RX0_48 {sa : Nat → Nat} {U : State} (h : EX sa U) : va_Nw (.methodLinkNest RX0 48 yX3_with "MailFollower") U := h.2.1.2.2.2.2.2.2.2.2
theorem ex_RX0_52 {sa : Nat → Nat} {U : State} (h : EX sa U) : va_Nw (.methodLinkNest RX0 52 yX3_holds "MailFollower") U := h.2.2.1.1
theorem ex_RX2_99 {sa : Nat → Nat} {U : State} (h : EX sa U) : va_Nw (.methodLinkNest RX2 99 yX3_holds "MailFollower") U := h.2.2.1.2.1
theorem ex_RX1_39 {sa : Nat → Nat} {U : State} (h : EX sa U) : va_Nw (.methodLinkNest RX1 39 yX3_with "MailFollower") U := h.2.2.1.2.2.1
theorem ex_cA {sa : Nat → Nat} {U : State} (h : EX sa U) : va_Nw (.castable "java/lang/IllegalArgumentException" "java/lang/IllegalArgumentException") U := h.2.2.1.2.2.2.1
theorem ex_cS {sa : Nat → Nat} {U : State} (h : EX sa U) : va_Nw (.castable "java/lang/IllegalStateException" "java/lang/IllegalStateException") U := h.2.2.1.2.2.2.2.1
theorem ex_cI {sa : Nat → Nat} {U : State} (h : EX sa U) : va_Nw (.castable "java/lang/IndexOutOfBoundsException" "java/lang/IndexOutOfBoundsException") U := h.2.2.1.2.2.2.2.2.1
theorem ex_s39 {sa : Nat → Nat} {U : State} (h : EX sa U) : vk_R RX3 39 "time, boxes or thread is out of range" (sa 0) U := h.2.2.1.2.2.2.2.2.2.1
theorem ex_s50 {sa : Nat → Nat} {U : State} (h : EX sa U) : vk_R RX3 50 "all mails have come" (sa 1) U := h.2.2.1.2.2.2.2.2.2.2.1
theorem ex_s222 {sa : Nat → Nat} {U : State} (h : EX sa U) : vk_R RX3 222 "there is no such mail" (sa 2) U := h.2.2.1.2.2.2.2.2.2.2.2
theorem ex_s64 {sa : Nat → Nat} {U : State} (h : EX sa U) : vk_R RX3 64 "boxes is out of range" (sa 3) U := h.2.2.2.1.1
theorem ex_s79 {sa : Nat → Nat} {U : State} (h : EX sa U) : vk_R RX3 79 "keyword is out of range" (sa 4) U := h.2.2.2.1.2.1
theorem ex_s94 {sa : Nat → Nat} {U : State} (h : EX sa U) : vk_R RX3 94 "the state is another one" (sa 5) U := h.2.2.2.1.2.2.1
theorem ex_s106 {sa : Nat → Nat} {U : State} (h : EX sa U) : vk_R RX3 106 "thread is out of range" (sa 6) U := h.2.2.2.1.2.2.2.1
theorem ex_s114 {sa : Nat → Nat} {U : State} (h : EX sa U) : vk_R RX3 114 "box or keyword is out of range" (sa 7) U := h.2.2.2.1.2.2.2.2.1
theorem ex_s119 {sa : Nat → Nat} {U : State} (h : EX sa U) : vk_R RX3 119 "state is out of range" (sa 8) U := h.2.2.2.1.2.2.2.2.2.1
theorem ex_s127 {sa : Nat → Nat} {U : State} (h : EX sa U) : vk_R RX3 127 "state or way is out of range" (sa 9) U := h.2.2.2.1.2.2.2.2.2.2.1
theorem ex_s234 {sa : Nat → Nat} {U : State} (h : EX sa U) : vk_R RX3 234 "the server cannot tell what changed" (sa 10) U := h.2.2.2.1.2.2.2.2.2.2.2.1
theorem ex_s140 {sa : Nat → Nat} {U : State} (h : EX sa U) : vk_R RX3 140 "state or places is out of range" (sa 11) U := h.2.2.2.1.2.2.2.2.2.2.2.2
theorem ex_s155 {sa : Nat → Nat} {U : State} (h : EX sa U) : vk_R RX3 155 "state, box or keyword is out of range" (sa 12) U := h.2.2.2.2.1.1
theorem ex_s166 {sa : Nat → Nat} {U : State} (h : EX sa U) : vk_R RX3 166 "client, box or width is out of range" (sa 13) U := h.2.2.2.2.1.2.1
theorem ex_s178 {sa : Nat → Nat} {U : State} (h : EX sa U) : vk_R RX3 178 "client or keyword is out of range" (sa 14) U := h.2.2.2.2.1.2.2.1
theorem ex_s183 {sa : Nat → Nat} {U : State} (h : EX sa U) : vk_R RX3 183 "the mail is not in the window" (sa 15) U := h.2.2.2.2.1.2.2.2.1
theorem ex_s188 {sa : Nat → Nat} {U : State} (h : EX sa U) : vk_R RX3 188 "the list is full" (sa 16) U := h.2.2.2.2.1.2.2.2.2.1
theorem ex_s232 {sa : Nat → Nat} {U : State} (h : EX sa U) : vk_R RX3 232 "client is out of range" (sa 17) U := h.2.2.2.2.1.2.2.2.2.2.1
theorem ex_d0 {sa : Nat → Nat} {U : State} (h : EX sa U) : va_Nw (.declares ⟨"java/lang/RuntimeException", "<init>", "(Ljava/lang/String;)V"⟩) U := h.2.2.2.2.1.2.2.2.2.2.2.1
theorem ex_d1 {sa : Nat → Nat} {U : State} (h : EX sa U) : va_Nw (.declares ⟨"java/lang/Exception", "<init>", "(Ljava/lang/String;)V"⟩) U := h.2.2.2.2.1.2.2.2.2.2.2.2.1
theorem ex_d2 {sa : Nat → Nat} {U : State} (h : EX sa U) : va_Nw (.declares ⟨"java/lang/Throwable", "<init>", "(Ljava/lang/String;)V"⟩) U := h.2.2.2.2.1.2.2.2.2.2.2.2.2
theorem ex_nAS {sa : Nat → Nat} {U : State} (h : EX sa U) : va_Nc "java/lang/IllegalArgumentException" "java/lang/IllegalStateException" U := h.2.2.2.2.2.1
theorem ex_nAI {sa : Nat → Nat} {U : State} (h : EX sa U) : va_Nc "java/lang/IllegalArgumentException" "java/lang/IndexOutOfBoundsException" U := h.2.2.2.2.2.2.1
theorem ex_nSA {sa : Nat → Nat} {U : State} (h : EX sa U) : va_Nc "java/lang/IllegalStateException" "java/lang/IllegalArgumentException" U := h.2.2.2.2.2.2.2.1
theorem ex_nSI {sa : Nat → Nat} {U : State} (h : EX sa U) : va_Nc "java/lang/IllegalStateException" "java/lang/IndexOutOfBoundsException" U := h.2.2.2.2.2.2.2.2.1
theorem ex_nIA {sa : Nat → Nat} {U : State} (h : EX sa U) : va_Nc "java/lang/IndexOutOfBoundsException" "java/lang/IllegalArgumentException" U := h.2.2.2.2.2.2.2.2.2.1
theorem ex_nIS {sa : Nat → Nat} {U : State} (h : EX sa U) : va_Nc "java/lang/IndexOutOfBoundsException" "java/lang/IllegalStateException" U := h.2.2.2.2.2.2.2.2.2.2
