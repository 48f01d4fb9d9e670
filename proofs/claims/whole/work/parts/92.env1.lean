/-! ===== the environment at the law's start: the classes ===== -/
section EN1
set_option maxRecDepth 100000
theorem cl_in (k : Nat) (q : vw_C) (h : vwCl[k]? = some q) : (∀ w ∈ u_ws q.1 q.2.1 q.2.2, w ∈ lw_tbl) ∧ Cond.instantiable q.1 q.2.2 ∈ lw_tbl := by
  match k, h with
  | 0, h => cases h; exact ⟨by decide +kernel, by decide +kernel⟩
  | 1, h => cases h; exact ⟨by decide +kernel, by decide +kernel⟩
  | 2, h => cases h; exact ⟨by decide +kernel, by decide +kernel⟩
  | 3, h => cases h; exact ⟨by decide +kernel, by decide +kernel⟩
  | 4, h => cases h; exact ⟨by decide +kernel, by decide +kernel⟩
  | 5, h => cases h; exact ⟨by decide +kernel, by decide +kernel⟩
  | 6, h => cases h; exact ⟨by decide +kernel, by decide +kernel⟩
  | 7, h => cases h; exact ⟨by decide +kernel, by decide +kernel⟩
  | 8, h => cases h; exact ⟨by decide +kernel, by decide +kernel⟩
  | 9, h => cases h; exact ⟨by decide +kernel, by decide +kernel⟩
  | 10, h => cases h; exact ⟨by decide +kernel, by decide +kernel⟩
  | 11, h => cases h; exact ⟨by decide +kernel, by decide +kernel⟩
  | 12, h => cases h; exact ⟨by decide +kernel, by decide +kernel⟩
  | (k + 13), h => cases h
theorem cl_kn {s : State} {args : Array Value} (hts : ∀ w ∈ lw_tbl, w.before args s = true) : ∃ D : Nat → ClassId × (Nat → Nat), ∀ (k : Nat) (q : vw_C), vwCl[k]? = some q → u_Kn s q.1 q.2.1 q.2.2 (D k).1 (D k).2 := by
  have h0 : ∀ k : Nat, ∃ D : ClassId × (Nat → Nat), ∀ q : vw_C, vwCl[k]? = some q → u_Kn s q.1 q.2.1 q.2.2 D.1 D.2 := by
    intro k
    by_cases h : ∃ q, vwCl[k]? = some q
    · obtain ⟨q, hq⟩ := h
      obtain ⟨c, i, hk⟩ := u_known (C := q.1) (T := q.2.1) (N := q.2.2) (n := q.2.2) hts (cl_in k q hq).1 (hts _ (cl_in k q hq).2)
      exact ⟨(c, i), fun q2 h2 => by
        rw [hq] at h2
        cases h2
        exact hk⟩
    · exact ⟨(0, fun _ => 0), fun q hq => absurd ⟨q, hq⟩ h⟩
  exact Classical.axiomOfChoice h0
end EN1
