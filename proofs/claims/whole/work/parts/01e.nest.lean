/-! the words of private members across the nest: by program out of the Statement -/
def nestW : List Cond := [Cond.fieldLinkNest "WideningArray" 102 "WideningArray$Marks" "widened" "Z" "WideningArray", Cond.fieldLinkNest "WideningArray" 110 "WideningArray$Marks" "done" "I" "WideningArray", Cond.fieldLinkNest "WideningArray" 113 "WideningArray$Marks" "stashed" "Z" "WideningArray", Cond.fieldLinkNest "WideningArray" 197 "WideningArray$Marks" "number" "I" "WideningArray", Cond.fieldLinkNest "WideningArray" 246 "WideningArray$Disk" "waiting" "I" "WideningArray", Cond.fieldLinkNest "WideningArray" 58 "WideningArray$Marks" "width" "I" "WideningArray", Cond.fieldLinkNest "WideningArray$Disk" 47 "WideningArray$Marks" "number" "I" "WideningArray", Cond.methodLinkNest "WideningArray" 17 ⟨"WideningArray$Marks", "<init>", "()V"⟩ "WideningArray", Cond.methodLinkNest "WideningArray" 36 ⟨"WideningArray$Disk", "<init>", "()V"⟩ "WideningArray", Cond.methodLinkNest "WideningArray$Disk" 17 ⟨"WideningArray$Marks", "<init>", "()V"⟩ "WideningArray"]
theorem nestW_tab : ∀ w ∈ nestW, w.onTables = true := by decide +kernel
theorem nestW_tbl : ∀ w ∈ nestW, w ∈ lw_tbl := by decide +kernel
theorem nestW_warm {s U : State} (hW : s.WarmedH U.vm) (h : ∀ w ∈ nestW, va_Nw w s) : ∀ w ∈ nestW, va_Nw w U := by
  intro w hw
  have h9 := h w hw
  simp only [nestW, List.mem_cons, List.not_mem_nil, or_false] at hw
  rcases hw with rfl | rfl | rfl | rfl | rfl | rfl | rfl | rfl | rfl | rfl
  · exact va_Nw.warmF hW h9
  · exact va_Nw.warmF hW h9
  · exact va_Nw.warmF hW h9
  · exact va_Nw.warmF hW h9
  · exact va_Nw.warmF hW h9
  · exact va_Nw.warmF hW h9
  · exact va_Nw.warmF hW h9
  · exact va_Nw.warmM hW h9
  · exact va_Nw.warmM hW h9
  · exact va_Nw.warmM hW h9
