/-! ===== the two sides are alike as they are made ===== -/
section CST
set_option maxRecDepth 20000
set_option maxHeartbeats 1000000
def fI0 (I : MI) : MI := mB (feN (mA I) 99 8 4)
def A0 : MI := fI0 (fun _ _ => 0)
def X0 : MI := sh4 (u2 (u2 oI 38 1 1) 38 2 0)
theorem u2_cg {f g : MI} {a k b j : Nat} {v : Int32} (h : f b j = g b j) : u2 f a k v b j = u2 g a k v b j := by
  unfold u2
  rw [h]
theorem feN_cg {f g : MI} {a k b j : Nat} {v : Int32} (h : f b j = g b j) : feN f a k v b j = feN g a k v b j := by
  unfold feN
  rw [h]
theorem fI0_cg {f g : MI} {b j : Nat} (h : f b j = g b j) : fI0 f b j = fI0 g b j := by
  unfold fI0 mB mA
  repeat refine u2_cg ?_
  refine feN_cg ?_
  repeat refine u2_cg ?_
  exact h
theorem fI0_lo {f : MI} {b j : Nat} (h : b < 97) : fI0 f b j = f b j := by
  unfold fI0 mB mA
  repeat rw [u2_ne (by omega)]
  unfold feN
  rw [if_neg (by omega)]
  repeat rw [u2_ne (by omega)]
theorem sh4_hi {J : MI} (hJ : TX J oI) {a j : Nat} (h : 97 ≤ a) : sh4 J a j = 0 := by
  unfold sh4
  rw [u2_ne (by omega), u2_ne (by omega), u2_ne (by omega), u2_ne (by omega), hJ.2.2.2.1 a (by omega) (by omega) (by omega) (by omega) (by omega) (by omega) (by omega)]
  exact oI_f a j (by omega)
theorem sh4_lo {J : MI} (hJ : TX J oI) {a j : Nat} (h : a ≠ 40 ∧ a ≠ 42 ∧ a ≠ 43 ∧ a ≠ 55 ∧ a ≠ 56 ∧ a ≠ 57) : sh4 J a j = X0 a j := by
  obtain ⟨h1, h2, h3, h4, -⟩ := hJ
  unfold X0 sh4
  repeat refine u2_cg ?_
  by_cases q : a = 38
  · subst q
    by_cases q2 : j = 2
    · subst q2
      rw [u2_eq]
      exact h2
    · rw [u2_no (fun z => q2 z.2)]
      by_cases q1 : j = 1
      · subst q1
        rw [u2_eq]
        exact h1
      · rw [u2_no (fun z => q1 z.2)]
        exact h3 j q1 q2
  · rw [u2_ne q, u2_ne q, h4 a q h.1 h.2.1 h.2.2.1 h.2.2.2.1 h.2.2.2.2.1 h.2.2.2.2.2]
theorem a0_sr : ∀ k, k < 45 → ∀ i, i < lenK k → X0 (xl k i).1 (xl k i).2 = A0 (ml k i).1 (ml k i).2 := by decide +kernel
theorem a0_ap : ∀ k, k < 45 → ∀ i, i < lenK k → (xl k i).1 < 97 ∧ (xl k i).1 ≠ 40 ∧ (xl k i).1 ≠ 42 ∧ (xl k i).1 ≠ 43 ∧ (xl k i).1 ≠ 55 ∧ (xl k i).1 ≠ 56 ∧ (xl k i).1 ≠ 57 := by decide +kernel
theorem a0_ear : ∀ m, m < 16 → X0 (6 + 2 * m) 3 = earF (A0 100 m) := by decide +kernel
theorem a0_n : A0 97 14 = 0 ∧ A0 97 15 = 1 ∧ A0 97 38 = 0 ∧ A0 110 0 = 9 ∧ A0 110 1 = 3 := by decide +kernel
theorem a0_c0 : ∀ i, i < 9 → A0 111 (160 * 0 + i) = ([10002, 0, 10000, -4, -2, 10001, 0, -4, -1] : List Int32).getD i 0 := by decide +kernel
theorem a0_c1 : ∀ i, i < 3 → A0 111 (160 * 1 + i) = ([0, 10005, -4] : List Int32).getD i 0 := by decide +kernel
theorem a0_131 : ∀ r, r < 24 → A0 131 r = 0 := by decide +kernel
theorem a0_109 : ∀ r, r < 3 → A0 109 r = 0 := by decide +kernel
theorem a0_104 : ∀ r, r < 16 → A0 104 r = 0 := by decide +kernel
theorem nn01 : nn 0 = 0 ∧ nn 1 = 1 ∧ nn 9 = 9 ∧ nn 3 = 3 := by decide +kernel
theorem xr0 {J : MI} (hJ : TX J oI) : XRel (fI0 (sh4 J)) A0 := by
  obtain ⟨n1, n2, n3, n4, n5⟩ := a0_n
  obtain ⟨m0, m1, m9, m3⟩ := nn01
  refine ⟨fun k hk i hi => ?_, fun m hm => ?_, fun i hi => ?_, fun p hp => ?_, fun r hr => ?_, ?_⟩
  · obtain ⟨q0, q⟩ := a0_ap k hk i hi
    rw [fI0_lo q0, sh4_lo hJ q]
    exact a0_sr k hk i hi
  · rw [fI0_lo (by omega), sh4_lo hJ (by omega)]
    exact a0_ear m hm
  · rw [n1, m0] at hi
    exact absurd hi (Nat.not_lt_zero _)
  · rw [n2, m1] at hp
    have e : ∀ a j, a < 97 → a ≠ 89 → a ≠ 91 → a ≠ 93 → a ≠ 95 → fI0 (sh4 J) a j = J a j := fun a j w1 w2 w3 w4 w5 => by
      rw [fI0_lo w1]
      unfold sh4
      rw [u2_ne (by omega), u2_ne (by omega), u2_ne (by omega), u2_ne (by omega)]
    obtain ⟨-, -, -, -, c1, c2, c3, c4⟩ := hJ
    rcases (show p = 0 ∨ p = 1 by omega) with rfl | rfl
    · rw [n4, m9]
      refine ⟨fun k hk => ?_, ?_⟩
      · rw [e _ _ (by omega) (by omega) (by omega) (by omega) (by omega), a0_c0 k hk]
        exact c1 k hk
      · rw [e _ _ (by omega) (by omega) (by omega) (by omega) (by omega)]
        exact c2
    · rw [n5, m3]
      refine ⟨fun k hk => ?_, ?_⟩
      · rw [e _ _ (by omega) (by omega) (by omega) (by omega) (by omega), a0_c1 k hk]
        exact c3 k hk
      · rw [e _ _ (by omega) (by omega) (by omega) (by omega) (by omega)]
        exact c4
  · have e : fI0 (sh4 J) 60 11 = 0 := by
      rw [fI0_lo (by omega), sh4_lo hJ (by omega)]
      decide +kernel
    have k : ∀ r, r < 24 → ¬ ¬ (0 : Int32) >>> (nI r &&& 31) &&& 1 = 0 := by decide +kernel
    unfold bkB
    rw [e, a0_131 r hr]
    exact ⟨fun z => absurd z (k r hr), fun z => absurd rfl z⟩
  · have e : fI0 (sh4 J) 60 11 = 0 := by
      rw [fI0_lo (by omega), sh4_lo hJ (by omega)]
      decide +kernel
    rw [e]
    unfold bd
    decide +kernel
theorem mr0 {J : MI} (hJ : TX J oI) : MRel (fI0 (sh4 J)) A0 := by
  intro a j h
  have ha : 97 ≤ a := by
    unfold nsB at h
    simp only [Bool.and_eq_true, decide_eq_true_eq] at h
    exact h.1.1
  exact fI0_cg (sh4_hi hJ ha)
theorem bi0 : BI A0 := by
  unfold BI bdK bd
  decide +kernel
theorem ai0 : AI A0 := by
  obtain ⟨n1, n2, n3, n4, n5⟩ := a0_n
  obtain ⟨m0, m1, m9, m3⟩ := nn01
  have hE := mkE_ok (t := tx0) (n := 56) (by omega)
  rw [mE0_e] at hE
  obtain ⟨-, ⟨g1, g2⟩, -⟩ := part_ok (by decide) hE pt0.1
  obtain ⟨-, ⟨g3, g4⟩, -⟩ := part_ok (by decide) hE pt0.2
  refine ⟨⟨bi0, by rw [n2, m1]; exact Nat.le_refl _, fun k hk => by rw [a0_109 k hk, n2, m0, m1]; exact Nat.one_pos, fun r hr => ⟨Or.inl (a0_131 r hr), fun _ => a0_131 r hr⟩, fun p hp => ?_⟩, fun i hi => ?_, fun m hm _ => a0_104 m hm⟩
  · rw [n2, m1] at hp
    rcases (show p = 0 ∨ p = 1 by omega) with rfl | rfl
    · rw [n4, m9]
      refine ⟨by unfold bd; decide +kernel, fun k hk => ?_, okC_cong 9 1 (fun i hi => (a0_c0 i hi).symm) g2⟩
      rw [a0_c0 k hk]
      have : ∀ k, k < 9 → ([10002, 0, 10000, -4, -2, 10001, 0, -4, -1] : List Int32).getD k 0 ∈ ([10002, 0, 10000, -4, -2, 10001, 0, -4, -1] : List Int32) := by decide +kernel
      exact g1 _ (this k hk)
    · rw [n5, m3]
      refine ⟨by unfold bd; decide +kernel, fun k hk => ?_, okC_cong 3 1 (fun i hi => (a0_c1 i hi).symm) g4⟩
      rw [a0_c1 k hk]
      have : ∀ k, k < 3 → ([0, 10005, -4] : List Int32).getD k 0 ∈ ([0, 10005, -4] : List Int32) := by decide +kernel
      exact g3 _ (this k hk)
  · rw [n1, m0] at hi
    exact absurd hi (Nat.not_lt_zero _)
theorem li0 {J : MI} (hJ : TX J oI) : LI (fI0 (sh4 J)) (fun _ _ => 0) 1 := ⟨A0, by omega, xr0 hJ, mr0 hJ, ai0, rfl⟩
end CST
