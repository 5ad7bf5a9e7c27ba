/-! the words of throws that are no good words, and the texts: by program out of the Statement -/
def thrW : List Cond := [Cond.castable "java/lang/IllegalStateException" "java/lang/IllegalStateException", Cond.castable "java/lang/IndexOutOfBoundsException" "java/lang/IndexOutOfBoundsException", Cond.castable "java/lang/UnsupportedOperationException" "java/lang/UnsupportedOperationException", Cond.castable "java/lang/IllegalArgumentException" "java/lang/IllegalArgumentException", Cond.declares ⟨"java/lang/RuntimeException", "<init>", "(Ljava/lang/String;)V"⟩, Cond.declares ⟨"java/lang/Exception", "<init>", "(Ljava/lang/String;)V"⟩, Cond.declares ⟨"java/lang/Throwable", "<init>", "(Ljava/lang/String;)V"⟩]
theorem thrW_tab : ∀ w ∈ thrW, w.onTables = true := by decide +kernel
theorem thrW_tbl : ∀ w ∈ thrW, w ∈ lw_tbl := by decide +kernel
theorem thrW_warm {s U : State} (hW : s.WarmedH U.vm) (h : ∀ w ∈ thrW, va_Nw w s) : ∀ w ∈ thrW, va_Nw w U := by
  intro w hw
  have h9 := h w hw
  simp only [thrW, List.mem_cons, List.not_mem_nil, or_false] at hw
  rcases hw with rfl | rfl | rfl | rfl | rfl | rfl | rfl
  · exact va_Nw.warmC hW h9
  · exact va_Nw.warmC hW h9
  · exact va_Nw.warmC hW h9
  · exact va_Nw.warmC hW h9
  · exact va_Nw.warmD hW h9
  · exact va_Nw.warmD hW h9
  · exact va_Nw.warmD hW h9
def strW : List (Nat × String) := [(39, "an array has 3 to 6 disks"), (108, "can't be made wider now"), (119, "not widened"), (136, "no disk can be lost now"), (138, "no disk is lost"), (140, "no disk is replaced"), (152, "power can't be made to fail so"), (159, "power has not failed"), (174, "no such data row"), (181, "the row can't be judged now"), (186, "no such row or word"), (191, "no such place"), (200, "no array, or no power"), (202, "no such block or word"), (204, "no such disk"), (208, "power failed")]
