/-! ===== the environment at the law's start: words ===== -/
section EN3
set_option maxRecDepth 100000
theorem nw_tab {w : Cond} (h : isNestW w = true) : w.onTables = true := by
  cases w <;> first | rfl | cases h
theorem nw_ok {s : State} {args : Array Value} (hts : ∀ w ∈ lw_tbl, w.before args s = true) : ∀ w ∈ lw_nest, va_Nw w s := by
  intro w hw
  obtain ⟨h1, h2⟩ := List.mem_filter.mp hw
  exact va_tabs (nw_tab h2) rfl (hts w h1)
theorem aa_in : Cond.arrayOver (.array .int) ∈ lw_tbl := by decide +kernel
theorem ao_ok {s : State} {args : Array Value} (hts : ∀ w ∈ lw_tbl, w.before args s = true) : va_AO "TruceLine$Mark" s ∧ va_AO "TruceLine$Sheet" s ∧ va_AOA .int s := ⟨va_AO.of (hts _ ac_in.2.2.2.2.1), va_AO.of (hts _ ac_in.2.2.2.2.2), va_AOA.of (hts _ aa_in)⟩
theorem st_l : Cond.laysStatic "TruceLine$Mark" "UNDER" "[I" ∈ lw_tbl ∧ Cond.laysStatic "TruceLine$Mark" "EARS" "[I" ∈ lw_tbl ∧ Cond.laysStatic "TruceLine$Incidents" "LOUDNESS" "[I" ∈ lw_tbl ∧ Cond.laysStatic "java/lang/String" "COMPACT_STRINGS" "Z" ∈ lw_tbl ∧ Cond.laysStatic "jdk/internal/util/Preconditions" "SIOOBE_FORMATTER" "Ljava/util/function/BiFunction;" ∈ lw_tbl := ⟨by decide +kernel, by decide +kernel, by decide +kernel, by decide +kernel, by decide +kernel⟩
end EN3
