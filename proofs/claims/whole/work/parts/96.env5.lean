/-! ===== the environment at the law's start: statics and texts ===== -/
section EN5
set_option maxRecDepth 100000
theorem se_0 {s : State} {args : Array Value} (h : (Jvm.Cond.and given_1 narrow_1).before args s = true) : ∃ t : Nat, (Term.static "TruceLine$Mark" "EARS" "[I").eval args s none [] s = some (.ref t) ∧ va_T .int t 6 (fun j => .int (sI 1001 j)) (fun q => s.heap.size ≤ q) s s.heap := by
  have hs := flat_of_before _ h
  exact va_Tof (tm := .static "TruceLine$Mark" "EARS" "[I") (ty := .int) (N := 6) (f := fun j => .int (sI 1001 j)) (A := fun q => s.heap.size ≤ q) (by decide) (hs _ (by decide +kernel)) (va_eqt (hs _ (by decide +kernel))) (fun j hj => va_eqt (hs _ (by revert hj; revert j; decide +kernel))) (fun a h => Nat.not_le.mpr h)
theorem sl_0 {s : State} {args : Array Value} (h : (Jvm.Cond.and given_1 narrow_1).before args s = true) : ∃ t : Nat, (Term.static "TruceLine$Incidents" "LOUDNESS" "[I").eval args s none [] s = some (.ref t) ∧ va_T .int t 4 (fun j => .int (sI 1002 j)) (fun q => s.heap.size ≤ q) s s.heap := by
  have hs := flat_of_before _ h
  exact va_Tof (tm := .static "TruceLine$Incidents" "LOUDNESS" "[I") (ty := .int) (N := 4) (f := fun j => .int (sI 1002 j)) (A := fun q => s.heap.size ≤ q) (by decide) (hs _ (by decide +kernel)) (va_eqt (hs _ (by decide +kernel))) (fun j hj => va_eqt (hs _ (by revert hj; revert j; decide +kernel))) (fun a h => Nat.not_le.mpr h)
theorem in_l : Cond.initialized "TruceLine$Mark" ∈ lw_tbl ∧ Cond.initialized "TruceLine$Incidents" ∈ lw_tbl ∧ Cond.initialized "java/lang/String" ∈ lw_tbl ∧ Cond.initialized "jdk/internal/util/Preconditions" ∈ lw_tbl := ⟨by decide +kernel, by decide +kernel, by decide +kernel, by decide +kernel⟩
def tmK (k : Nat) : Term := Term.string ((ksL.map (fun q => if q.1 = 9 then RX9 else RX6)).getD k "") ((ksL.map (fun q => q.2.1)).getD k 0)
theorem ss_0 {s : State} {args : Array Value} (h : (Jvm.Cond.and given_1 narrow_1).before args s = true) : ∃ adK adV : Nat → Nat, vk_S 12 ksN ksB adK adV (fun q => s.heap.size ≤ q) s s.heap ∧ ∀ i : Nat, i < 12 → (tmK i).eval args s none [] s = some (.ref (adK i)) := by
  have hs := flat_of_before _ h
  have key : ∀ i, i < 12 → ∀ j, j < 12 → i < j → (Cond.not (Cond.eq (tmK i) (tmK j))).before args s = true := fun i hi j hj q => hs _ (by revert q; revert hj; revert j; revert hi; revert i; decide +kernel)
  refine vk_Sof (N := 12) (tm := tmK) (len := ksN) (byt := ksB) (A := fun q => s.heap.size ≤ q) (by decide +kernel) (fun i hi => hs _ (by revert hi; revert i; decide +kernel)) (fun i hi => hs _ (by revert hi; revert i; decide +kernel)) (fun i hi => hs _ (by revert hi; revert i; decide +kernel)) (fun i hi => hs _ (by revert hi; revert i; decide +kernel)) (fun i hi j hj => hs _ (by revert hj; revert j; revert hi; revert i; decide +kernel)) (fun i j hi hj hne => ?_) (fun a h => Nat.not_le.mpr h)
  rcases Nat.lt_or_gt_of_ne hne with q | q
  · exact Or.inl (key i hi j hj q)
  · exact Or.inr (key j hj i hi q)
theorem sc_0 {s : State} {args : Array Value} (h : (Jvm.Cond.and given_1 narrow_1).before args s = true) : (Term.static "java/lang/String" "COMPACT_STRINGS" "Z").eval args s none [] s = some (.int 1) := by
  have hs := flat_of_before _ h
  exact va_eqt (hs _ (by decide +kernel))
end EN5
