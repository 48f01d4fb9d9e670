/-! ===== the environment at the law's start: classes and arrays together, statics ===== -/
section EN4
set_option maxRecDepth 100000
theorem ar_oa {s : State} {args : Array Value} {t : FieldType} (h : (Cond.arrayOver (.array t)).before args s = true) : ∃ cA, AR s cA (.array t) := by
  obtain ⟨comp, cA, kA, h1, h2, h3, h4⟩ := Cond.arrayOver_specA h
  exact ⟨cA, fun n z => ⟨fun k h => (by cases h), kA, h2, comp, h3⟩, h4⟩
theorem vk_0 {s : State} {args : Array Value} (hts : ∀ w ∈ lw_tbl, w.before args s = true) : ∃ (D : va_G) (C : Nat → ClassId), va_K D vwCl [(C 0, .int), (C 1, .byte), (C 2, .boolean), (C 3, .long), (C 4, .object "TruceLine$Mark"), (C 5, .object "TruceLine$Sheet"), (C 6, .array .int)] s := by
  obtain ⟨D, hD⟩ := cl_kn hts
  obtain ⟨c0, h0⟩ := ar_cl (hts _ ac_in.1) (fun _ => by simp)
  obtain ⟨c1, h1⟩ := ar_cl (hts _ ac_in.2.1) (fun _ => by simp)
  obtain ⟨c2, h2⟩ := ar_cl (hts _ ac_in.2.2.1) (fun _ => by simp)
  obtain ⟨c3, h3⟩ := ar_cl (hts _ ac_in.2.2.2.1) (fun _ => by simp)
  obtain ⟨c4, h4⟩ := ar_ov (hts _ ac_in.2.2.2.2.1)
  obtain ⟨c5, h5⟩ := ar_ov (hts _ ac_in.2.2.2.2.2)
  obtain ⟨c6, h6⟩ := ar_oa (hts _ aa_in)
  refine ⟨(fun k => (D k).1, fun k => (D k).2), fun k => ([c0, c1, c2, c3, c4, c5, c6] : List ClassId).getD k c0, fun k q h => hD k q h, fun k q h => ?_⟩
  match k, h with
  | 0, h => cases h; exact h0
  | 1, h => cases h; exact h1
  | 2, h => cases h; exact h2
  | 3, h => cases h; exact h3
  | 4, h => cases h; exact h4
  | 5, h => cases h; exact h5
  | 6, h => cases h; exact h6
  | (k + 7), h => cases h
theorem su_0 {s : State} {args : Array Value} (h : (Jvm.Cond.and given_1 narrow_1).before args s = true) : ∃ t : Nat, (Term.static "TruceLine$Mark" "UNDER" "[I").eval args s none [] s = some (.ref t) ∧ va_T .int t 6 (fun j => .int (sI 1000 j)) (fun q => s.heap.size ≤ q) s s.heap := by
  have hs := flat_of_before _ h
  exact va_Tof (tm := .static "TruceLine$Mark" "UNDER" "[I") (ty := .int) (N := 6) (f := fun j => .int (sI 1000 j)) (A := fun q => s.heap.size ≤ q) (by decide) (hs _ (by decide +kernel)) (va_eqt (hs _ (by decide +kernel))) (fun j hj => va_eqt (hs _ (by revert hj; revert j; decide +kernel))) (fun a h => Nat.not_le.mpr h)
end EN4
