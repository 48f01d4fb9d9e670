/-! ===== the environment at the law's start, together ===== -/
section EN6
set_option maxRecDepth 100000
theorem sf_0 {s : State} {args : Array Value} (h : (Jvm.Cond.and given_1 narrow_1).before args s = true) : ∃ v : Value, (Term.static "jdk/internal/util/Preconditions" "SIOOBE_FORMATTER" "Ljava/util/function/BiFunction;").eval args s none [] s = some v ∧ (v = .null ∨ ∃ a, v = .ref a) := by
  have hs := flat_of_before _ h
  have hr : (Cond.isRef (.static "jdk/internal/util/Preconditions" "SIOOBE_FORMATTER" "Ljava/util/function/BiFunction;")).before args s = true := hs _ (by decide +kernel)
  cases hv : (Term.static "jdk/internal/util/Preconditions" "SIOOBE_FORMATTER" "Ljava/util/function/BiFunction;").eval args s none [] s with
  | none => simp [Cond.before, Cond.holds, Cond.value, hv] at hr
  | some w =>
    refine ⟨w, rfl, ?_⟩
    simp only [Cond.before, Cond.holds, Cond.value, hv] at hr
    cases w with
    | null => exact Or.inl rfl
    | ref a => exact Or.inr ⟨a, rfl⟩
    | _ => simp at hr
theorem sr_in : ∀ k, k < 12 → Cond.stringRef ((ksL.map (fun q => if q.1 = 9 then RX9 else RX6)).getD k "") ((ksL.map (fun q => q.2.1)).getD k 0) (ksT.getD k "") ∈ lw_tbl := by decide +kernel
theorem env_0 {s : State} {l : Launch} {b : Nat} (hts : ∀ w ∈ lw_tbl, w.before #[Value.ref b] s = true) (h : (Jvm.Cond.and given_1 narrow_1).before #[Value.ref b] s = true) : ∃ G : cG, gL G = l ∧ gB G = s.heap.size ∧ gH G = s.heap ∧ gA G 1060 = b ∧ EnvOK G s := by
  obtain ⟨D, C, hK⟩ := vk_0 hts
  obtain ⟨t0, u0, T0⟩ := su_0 h
  obtain ⟨t1, u1, T1⟩ := se_0 h
  obtain ⟨t2, u2', T2⟩ := sl_0 h
  obtain ⟨adK, adV, hS, hSe⟩ := ss_0 h
  obtain ⟨v, hv, hv2⟩ := sf_0 h
  have hA : ∀ a : Nat, a < s.heap.size → ¬ s.heap.size ≤ a := fun a h => Nat.not_le.mpr h
  obtain ⟨f, hf⟩ : ∃ f : Nat, v = .null ∨ v = .ref f := by
    rcases hv2 with h | ⟨a, h⟩
    · exact ⟨0, Or.inl h⟩
    · exact ⟨a, Or.inr h⟩
  refine ⟨(l, D, C, s.heap.size, s.heap, fun a => if a = 1000 then t0 else if a = 1001 then t1 else if a = 1002 then t2 else if a = 1050 then f else if a = 1060 then b else if a < 1030 then adK (a - 1010) else adV (a - 1030)), rfl, rfl, rfl, rfl, hK, nw_ok hts, ⟨va_Zof (hts _ st_l.1) (hts _ in_l.1) u0 hA, va_Zof (hts _ st_l.2.1) (hts _ in_l.1) u1 hA, va_Zof (hts _ st_l.2.2.1) (hts _ in_l.2.1) u2' hA⟩, fun k hk => ?_, fun k hk => ?_, (ao_ok hts).1, (ao_ok hts).2.1, (ao_ok hts).2.2, ?_, va_Zof (hts _ st_l.2.2.2.1) (hts _ in_l.2.2.1) (sc_0 h) hA, ?_⟩
  · match k, hk with
    | 0, _ => exact T0
    | 1, _ => exact T1
    | 2, _ => exact T2
  · have e : gA (l, D, C, s.heap.size, s.heap, fun a => if a = 1000 then t0 else if a = 1001 then t1 else if a = 1002 then t2 else if a = 1050 then f else if a = 1060 then b else if a < 1030 then adK (a - 1010) else adV (a - 1030)) (1010 + k) = adK k := by
      show (if _ then _ else _) = _
      rw [if_neg (by omega), if_neg (by omega), if_neg (by omega), if_neg (by omega), if_neg (by omega), if_pos (by omega), show 1010 + k - 1010 = k by omega]
    refine ⟨by have q := hts _ (sr_in k hk); unfold va_Nw Cond.before Cond.holds Cond.value at *; exact q, ?_⟩
    rw [e]
    exact hSe k hk
  · have e1 : ∀ k, k < 12 → gA (l, D, C, s.heap.size, s.heap, fun a => if a = 1000 then t0 else if a = 1001 then t1 else if a = 1002 then t2 else if a = 1050 then f else if a = 1060 then b else if a < 1030 then adK (a - 1010) else adV (a - 1030)) (1010 + k) = adK k := fun k hk => by
      show (if _ then _ else _) = _
      rw [if_neg (by omega), if_neg (by omega), if_neg (by omega), if_neg (by omega), if_neg (by omega), if_pos (by omega), show 1010 + k - 1010 = k by omega]
    have e2 : ∀ k, k < 12 → gA (l, D, C, s.heap.size, s.heap, fun a => if a = 1000 then t0 else if a = 1001 then t1 else if a = 1002 then t2 else if a = 1050 then f else if a = 1060 then b else if a < 1030 then adK (a - 1010) else adV (a - 1030)) (1030 + k) = adV k := fun k hk => by
      show (if _ then _ else _) = _
      rw [if_neg (by omega), if_neg (by omega), if_neg (by omega), if_neg (by omega), if_neg (by omega), if_neg (by omega), show 1030 + k - 1030 = k by omega]
    refine ⟨fun i hi => ?_, fun i j hi hj q => ?_⟩
    · dsimp only
      rw [e1 i hi, e2 i hi]
      exact hS.1 i hi
    · dsimp only at q
      rw [e1 i hi, e1 j hj] at q
      exact hS.2 i j hi hj q
  · rcases hf with rfl | rfl
    · exact Or.inl (va_Zof (hts _ st_l.2.2.2.2) (hts _ in_l.2.2.2) hv hA)
    · exact Or.inr (va_Zof (hts _ st_l.2.2.2.2) (hts _ in_l.2.2.2) hv hA)
end EN6
