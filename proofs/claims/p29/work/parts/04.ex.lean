/-! what the tables say beyond the good words, in one bundle -/
def EX_0 (sa : Nat → Nat) (U : State) : Prop := (va_Nw (.fieldLinkNest RX3 89 "MailFollower$Changes" "latest" "I" "MailFollower") U) ∧ (va_Nw (.fieldLinkNest RX1 79 "MailFollower$Changes" "latest" "I" "MailFollower") U) ∧ (va_Nw (.fieldLinkNest RX3 85 "MailFollower$Server" "changes" "LMailFollower$Changes;" "MailFollower") U) ∧ (va_Nw (.fieldLinkNest RX1 59 "MailFollower$Server" "changes" "LMailFollower$Changes;" "MailFollower") U) ∧ (va_Nw (.fieldLinkNest RX3 44 "MailFollower$Server" "come" "I" "MailFollower") U) ∧ (va_Nw (.fieldLinkNest RX3 172 "MailFollower$Client" "box" "I" "MailFollower") U) ∧ (va_Nw (.fieldLinkNest RX3 175 "MailFollower$Client" "width" "I" "MailFollower") U) ∧ (va_Nw (.fieldLinkNest RX3 197 "MailFollower$Client" "syncState" "I" "MailFollower") U) ∧ (va_Nw (.fieldLinkNest RX3 200 "MailFollower$Client" "loads" "I" "MailFollower") U)
def EX_1 (sa : Nat → Nat) (U : State) : Prop := (va_Nw (.fieldLinkNest RX3 225 "MailFollower$Client" "windowMails" "[I" "MailFollower") U) ∧ (va_Nw (.fieldLinkNest RX3 229 "MailFollower$Client" "windowKeywords" "[I" "MailFollower") U) ∧ (va_Nw (.fieldLinkNest RX3 214 "MailFollower$Client" "windowSize" "I" "MailFollower") U) ∧ (va_Nw (.fieldLinkNest RX3 185 "MailFollower$Client" "flags" "I" "MailFollower") U) ∧ (va_Nw (.methodLinkNest RX2 34 yX3_isWithin "MailFollower") U) ∧ (va_Nw (.methodLinkNest RX2 65 yX3_with "MailFollower") U) ∧ (va_Nw (.methodLinkNest RX2 77 yX3_matches "MailFollower") U) ∧ (va_Nw (.methodLinkNest RX1 39 yX3_with "MailFollower") U) ∧ (va_Nw (.methodLinkNest RX0 52 yX3_holds "MailFollower") U)
def EX_2 (sa : Nat → Nat) (U : State) : Prop := (va_Nw (.methodLinkNest RX2 99 yX3_holds "MailFollower") U) ∧ (va_Nw (.methodLinkNest RX0 44 yX3_matches "MailFollower") U) ∧ (va_Nw (.methodLinkNest RX0 48 yX3_with "MailFollower") U)
def EX (sa : Nat → Nat) (U : State) : Prop := EX_0 sa U ∧ EX_1 sa U ∧ EX_2 sa U
theorem EX_0.warm {sa : Nat → Nat} {s U : State} (hW : s.WarmedH U.vm) (h : EX_0 sa s) : EX_0 sa U := by
  obtain ⟨h0, h1, h2, h3, h4, h5, h6, h7, h8⟩ := h
  exact ⟨va_Nw.warmF hW h0, va_Nw.warmF hW h1, va_Nw.warmF hW h2, va_Nw.warmF hW h3, va_Nw.warmF hW h4, va_Nw.warmF hW h5, va_Nw.warmF hW h6, va_Nw.warmF hW h7, va_Nw.warmF hW h8⟩
theorem EX_0.same {sa : Nat → Nat} {s U : State} (hv : s.vm = U.vm) (h : EX_0 sa s) : EX_0 sa U := by
  obtain ⟨h0, h1, h2, h3, h4, h5, h6, h7, h8⟩ := h
  exact ⟨va_Nw.same rfl hv h0, va_Nw.same rfl hv h1, va_Nw.same rfl hv h2, va_Nw.same rfl hv h3, va_Nw.same rfl hv h4, va_Nw.same rfl hv h5, va_Nw.same rfl hv h6, va_Nw.same rfl hv h7, va_Nw.same rfl hv h8⟩
theorem EX_1.warm {sa : Nat → Nat} {s U : State} (hW : s.WarmedH U.vm) (h : EX_1 sa s) : EX_1 sa U := by
  obtain ⟨h0, h1, h2, h3, h4, h5, h6, h7, h8⟩ := h
  exact ⟨va_Nw.warmF hW h0, va_Nw.warmF hW h1, va_Nw.warmF hW h2, va_Nw.warmF hW h3, va_Nw.warmM hW h4, va_Nw.warmM hW h5, va_Nw.warmM hW h6, va_Nw.warmM hW h7, va_Nw.warmM hW h8⟩
theorem EX_1.same {sa : Nat → Nat} {s U : State} (hv : s.vm = U.vm) (h : EX_1 sa s) : EX_1 sa U := by
  obtain ⟨h0, h1, h2, h3, h4, h5, h6, h7, h8⟩ := h
  exact ⟨va_Nw.same rfl hv h0, va_Nw.same rfl hv h1, va_Nw.same rfl hv h2, va_Nw.same rfl hv h3, va_Nw.same rfl hv h4, va_Nw.same rfl hv h5, va_Nw.same rfl hv h6, va_Nw.same rfl hv h7, va_Nw.same rfl hv h8⟩
theorem EX_2.warm {sa : Nat → Nat} {s U : State} (hW : s.WarmedH U.vm) (h : EX_2 sa s) : EX_2 sa U := by
  obtain ⟨h0, h1, h2⟩ := h
  exact ⟨va_Nw.warmM hW h0, va_Nw.warmM hW h1, va_Nw.warmM hW h2⟩
theorem EX_2.same {sa : Nat → Nat} {s U : State} (hv : s.vm = U.vm) (h : EX_2 sa s) : EX_2 sa U := by
  obtain ⟨h0, h1, h2⟩ := h
  exact ⟨va_Nw.same rfl hv h0, va_Nw.same rfl hv h1, va_Nw.same rfl hv h2⟩
theorem EX.warm {sa : Nat → Nat} {s U : State} (hW : s.WarmedH U.vm) (h : EX sa s) : EX sa U := by
  obtain ⟨h0, h1, h2⟩ := h
  exact ⟨EX_0.warm hW h0, EX_1.warm hW h1, EX_2.warm hW h2⟩
theorem EX.same {sa : Nat → Nat} {s U : State} (hv : s.vm = U.vm) (h : EX sa s) : EX sa U := by
  obtain ⟨h0, h1, h2⟩ := h
  exact ⟨EX_0.same hv h0, EX_1.same hv h1, EX_2.same hv h2⟩
theorem ex_RX3_89 {sa : Nat → Nat} {U : State} (h : EX sa U) : va_Nw (.fieldLinkNest RX3 89 "MailFollower$Changes" "latest" "I" "MailFollower") U := h.1.1
theorem ex_RX1_79 {sa : Nat → Nat} {U : State} (h : EX sa U) : va_Nw (.fieldLinkNest RX1 79 "MailFollower$Changes" "latest" "I" "MailFollower") U := h.1.2.1
theorem ex_RX3_85 {sa : Nat → Nat} {U : State} (h : EX sa U) : va_Nw (.fieldLinkNest RX3 85 "MailFollower$Server" "changes" "LMailFollower$Changes;" "MailFollower") U := h.1.2.2.1
theorem ex_RX1_59 {sa : Nat → Nat} {U : State} (h : EX sa U) : va_Nw (.fieldLinkNest RX1 59 "MailFollower$Server" "changes" "LMailFollower$Changes;" "MailFollower") U := h.1.2.2.2.1
theorem ex_RX3_44 {sa : Nat → Nat} {U : State} (h : EX sa U) : va_Nw (.fieldLinkNest RX3 44 "MailFollower$Server" "come" "I" "MailFollower") U := h.1.2.2.2.2.1
theorem ex_RX3_172 {sa : Nat → Nat} {U : State} (h : EX sa U) : va_Nw (.fieldLinkNest RX3 172 "MailFollower$Client" "box" "I" "MailFollower") U := h.1.2.2.2.2.2.1
theorem ex_RX3_175 {sa : Nat → Nat} {U : State} (h : EX sa U) : va_Nw (.fieldLinkNest RX3 175 "MailFollower$Client" "width" "I" "MailFollower") U := h.1.2.2.2.2.2.2.1
theorem ex_RX3_197 {sa : Nat → Nat} {U : State} (h : EX sa U) : va_Nw (.fieldLinkNest RX3 197 "MailFollower$Client" "syncState" "I" "MailFollower") U := h.1.2.2.2.2.2.2.2.1
theorem ex_RX3_200 {sa : Nat → Nat} {U : State} (h : EX sa U) : va_Nw (.fieldLinkNest RX3 200 "MailFollower$Client" "loads" "I" "MailFollower") U := h.1.2.2.2.2.2.2.2.2
theorem ex_RX3_225 {sa : Nat → Nat} {U : State} (h : EX sa U) : va_Nw (.fieldLinkNest RX3 225 "MailFollower$Client" "windowMails" "[I" "MailFollower") U := h.2.1.1
theorem ex_RX3_229 {sa : Nat → Nat} {U : State} (h : EX sa U) : va_Nw (.fieldLinkNest RX3 229 "MailFollower$Client" "windowKeywords" "[I" "MailFollower") U := h.2.1.2.1
theorem ex_RX3_214 {sa : Nat → Nat} {U : State} (h : EX sa U) : va_Nw (.fieldLinkNest RX3 214 "MailFollower$Client" "windowSize" "I" "MailFollower") U := h.2.1.2.2.1
theorem ex_RX3_185 {sa : Nat → Nat} {U : State} (h : EX sa U) : va_Nw (.fieldLinkNest RX3 185 "MailFollower$Client" "flags" "I" "MailFollower") U := h.2.1.2.2.2.1
theorem ex_RX2_34 {sa : Nat → Nat} {U : State} (h : EX sa U) : va_Nw (.methodLinkNest RX2 34 yX3_isWithin "MailFollower") U := h.2.1.2.2.2.2.1
theorem ex_RX2_65 {sa : Nat → Nat} {U : State} (h : EX sa U) : va_Nw (.methodLinkNest RX2 65 yX3_with "MailFollower") U := h.2.1.2.2.2.2.2.1
theorem ex_RX2_77 {sa : Nat → Nat} {U : State} (h : EX sa U) : va_Nw (.methodLinkNest RX2 77 yX3_matches "MailFollower") U := h.2.1.2.2.2.2.2.2.1
theorem ex_RX1_39 {sa : Nat → Nat} {U : State} (h : EX sa U) : va_Nw (.methodLinkNest RX1 39 yX3_with "MailFollower") U := h.2.1.2.2.2.2.2.2.2.1
theorem ex_RX0_52 {sa : Nat → Nat} {U : State} (h : EX sa U) : va_Nw (.methodLinkNest RX0 52 yX3_holds "MailFollower") U := h.2.1.2.2.2.2.2.2.2.2
theorem ex_RX2_99 {sa : Nat → Nat} {U : State} (h : EX sa U) : va_Nw (.methodLinkNest RX2 99 yX3_holds "MailFollower") U := h.2.2.1
theorem ex_RX0_44 {sa : Nat → Nat} {U : State} (h : EX sa U) : va_Nw (.methodLinkNest RX0 44 yX3_matches "MailFollower") U := h.2.2.2.1
theorem ex_RX0_48 {sa : Nat → Nat} {U : State} (h : EX sa U) : va_Nw (.methodLinkNest RX0 48 yX3_with "MailFollower") U := h.2.2.2.2
