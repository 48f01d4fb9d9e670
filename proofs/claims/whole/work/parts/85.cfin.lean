/-! ===== both sides as they are made ===== -/
section CFI
set_option maxRecDepth 20000
set_option maxHeartbeats 1000000
theorem rRL_c : ∀ q ∈ rRL, q.1 < 145 ∧ q.2.1 < 67 := by decide +kernel
theorem kK_hi {a : Nat} (h : 145 ≤ a) : (kK a).1 ≠ 10 := by
  unfold kK
  split
  · rw [List.getElem?_eq_none (by show 145 ≤ a; exact h)]
    decide
  · split
    · decide
    · split
      · decide
      · split
        · decide
        · split
          · show 20 ≠ 10
            decide
          · decide
theorem rR_out {c a j : Nat} (ha : 145 ≤ a) : rR c a j = none := by
  have hk := kK_hi ha
  unfold rR
  rw [if_neg (by omega), if_neg (by omega), if_neg (by omega), if_neg (by omega), if_neg (fun q => hk (by rw [q])), if_neg (fun q => hk (by rw [q])), find_no (fun q hq => by
    have := rRL_c q hq
    rw [show (q.1 == a) = false from beq_false_of_ne (by omega), Bool.false_and])]
  rfl
theorem rR_97 {c j : Nat} (hj : 67 ≤ j) : rR c 97 j = none := by
  unfold rR
  rw [if_neg (by omega), if_neg (by omega), if_neg (by omega), if_neg (by omega), if_neg (by decide +kernel), if_neg (by decide +kernel), find_no (fun q hq => by
    have := rRL_c q hq
    rw [show (q.2.1 == j) = false from beq_false_of_ne (by omega), Bool.and_false])]
  rfl
theorem rF_k1 : ∀ a, a < 97 → ∀ j, j < 17 → mR0 oR a j = rR 1 a j := by decide +kernel
theorem rF_k2 : ∀ j, j < 67 → mR0 oR 97 j = rR 1 97 j := by decide +kernel
theorem rF_k3 : ∀ a, a < 145 → 97 < a → ∀ j, j < 17 → rR 1 a j = none := by decide +kernel
theorem rQ_hi {c a j : Nat} (h : 58 ≤ a) : rQ false c a j = none := if_pos (Or.inr h)
theorem rF_hi {a j : Nat} (h : 97 < a) : mR0 oR a j = none := by
  unfold mR0 oR
  repeat rw [u2_ne (by omega)]
  exact if_pos (Or.inr (by omega))
theorem rF_j {a j : Nat} (ha : a < 97) (h : 17 ≤ j) : mR0 oR a j = none := by
  unfold mR0
  repeat rw [u2_ne (by omega)]
  unfold oR
  repeat rw [u2_no (by omega)]
  show (if _ then none else rR 1 a j) = none
  rw [rR_hi (by omega) h]
  exact ite_self none
theorem rF_97 {j : Nat} (h : 67 ≤ j) : mR0 oR 97 j = none := by
  unfold mR0
  repeat rw [u2_no (by omega)]
  unfold oR
  repeat rw [u2_ne (by omega)]
  exact rQ_hi (by decide)
theorem R_fin : mR0 oR = rR 1 := by
  funext a j
  by_cases h1 : a < 97
  · by_cases h2 : j < 17
    · exact rF_k1 a h1 j h2
    · rw [rF_j h1 (by omega), rR_hi (by omega) (by omega)]
  · by_cases h3 : a = 97
    · subst h3
      by_cases h2 : j < 67
      · exact rF_k2 j h2
      · rw [rF_97 (by omega), rR_97 (by omega)]
    · rw [rF_hi (by omega)]
      by_cases h4 : 145 ≤ a
      · exact (rR_out h4).symm
      · by_cases h5 : j < 17
        · exact (rF_k3 a (by omega) (by omega) j h5).symm
        · exact (rR_hi (by omega) (by omega)).symm
end CFI
