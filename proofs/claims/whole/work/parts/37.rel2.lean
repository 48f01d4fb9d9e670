theorem i01 : ((0 : Int32) = 1) = False := eq_false (by decide)
def XN (I0 I A : MI) : Prop := XRel I A ∧ nn (A 97 15) ≤ 6 ∧ sameM I I0
theorem XN.st {I A : MI} (hX : XRel I A) (hA : AInv A) : XN I I A := ⟨hX, nn_ml hA, sameM.rf⟩
theorem XN.upd {I0 I A : MI} (h : XN I0 I A) (k i : Nat) (hk : k < 45) (hi : i < lenK k) (h5 : k ≠ 5 ∧ k ≠ 13 ∧ k ≠ 14) (v : Int32) : XN I0 (u2 I (xl k i).1 (xl k i).2 v) (u2 A (ml k i).1 (ml k i).2 v) := by
  refine ⟨h.1.upd h.2.1 hk hi h5 v, ?_, (sameM_u2 (xl_apart k hk i hi).1).tr h.2.2⟩
  obtain ⟨-, -, -, -, -, -, -, y, -⟩ := ml_apart k hk i hi
  rw [u2_no (fun z => h5.2.1 (y z.1.symm z.2.symm))]
  exact h.2.1
theorem XN.up12 {I0 I A : MI} (h : XN I0 I A) {m c : Nat} (hm : m < 16) (hc : c < 6) (v : Int32) : XN I0 (u2 I (mkS m) c v) (u2 A 105 (6 * m + c) v) := by
  have z := h.upd 12 (6 * m + c) (by decide) (show 6 * m + c < 96 by omega) (by decide) v
  have e1 : (xl 12 (6 * m + c)).1 = mkS m := by
    show 7 + 2 * ((6 * m + c) / 6) = mkS m
    unfold mkS
    omega
  have e2 : (xl 12 (6 * m + c)).2 = c := by
    show (6 * m + c) % 6 = c
    omega
  rw [e1, e2] at z
  exact z
theorem XN.up44 {I0 I A : MI} (h : XN I0 I A) {m c : Nat} (hm : m < 4) (hc : c < 40) (v : Int32) : XN I0 (u2 I (itC m) c v) (u2 A 143 (40 * m + c) v) := by
  have z := h.upd 44 (40 * m + c) (by decide) (show 40 * m + c < 160 by omega) (by decide) v
  have e1 : (xl 44 (40 * m + c)).1 = itC m := by
    show 90 + 2 * ((40 * m + c) / 40) = itC m
    unfold itC
    omega
  have e2 : (xl 44 (40 * m + c)).2 = c := by
    show (40 * m + c) % 40 = c
    omega
  rw [e1, e2] at z
  exact z
/-- a kind and its ear -/
theorem XN.kind {I0 I A : MI} (h : XN I0 I A) {m : Nat} (hm : m < 16) (v : Int32) : XN I0 (u2 (u2 I (mkC m) 0 v) (mkC m) 3 (earF v)) (u2 A 100 m v) := by
  obtain ⟨⟨h1, h2, h3, h4, h5⟩, h6, h7⟩ := h
  have hx := fun k hk i hi => xl_apart k hk i hi
  refine ⟨⟨fun k hk i hi => ?_, fun m' hm' => ?_, fun i hi => ?_, fun p hp => ?_, ?_⟩, ?_, ?_⟩
  · have e3 : u2 (u2 I (mkC m) 0 v) (mkC m) 3 (earF v) (xl k i).1 (xl k i).2 = u2 I (xl 5 m).1 (xl 5 m).2 v (xl k i).1 (xl k i).2 := by
      refine u2_no (fun z => (hx k hk i hi).2.2.2.2 ?_)
      have : (xl k i).1 = 6 + 2 * m := z.1
      omega
    rw [e3]
    exact h1.upd (k := 5) (i := m) (by decide) hm v k hk i hi
  · by_cases e : m' = m
    · subst e
      show u2 (u2 I (mkC m') 0 v) (mkC m') 3 (earF v) (mkC m') 3 = _
      rw [u2_eq, u2_eq]
    · have e1 : ¬ 6 + 2 * m' = mkC m := by unfold mkC; omega
      rw [u2_no (fun z => e1 z.1), u2_no (fun z => e1 z.1), u2_no (fun z => e z.2)]
      exact h2 m' hm'
  · have hi2 : i < nn (A 97 14) := by
      rw [u2_no (fun z => absurd z.1 (by decide))] at hi
      exact hi
    rw [u2_no (fun z => absurd z.1 (by unfold mkC; omega)), u2_no (fun z => absurd z.1 (by unfold mkC; omega)), u2_no (fun z => absurd z.1 (by decide))]
    exact h3 i hi2
  · rw [u2_no (fun z => absurd z.1 (by decide))] at hp
    refine ⟨fun k hk => ?_, ?_⟩
    · rw [u2_no (fun z => absurd z.1 (by decide))] at hk
      rw [u2_no (fun z => absurd z.1 (by unfold mkC; omega)), u2_no (fun z => absurd z.1 (by unfold mkC; omega)), u2_no (fun z => absurd z.1 (by decide))]
      exact (h4 p hp).1 k hk
    · rw [u2_no (fun z => absurd z.1 (by unfold mkC; omega)), u2_no (fun z => absurd z.1 (by unfold mkC; omega)), u2_no (fun z => absurd z.1 (by decide))]
      exact (h4 p hp).2
  · unfold bckR bkB
    rw [u2_no (fun z => absurd z.1 (by unfold mkC; omega)), u2_no (fun z => absurd z.1 (by unfold mkC; omega))]
    refine ⟨fun r hr => ?_, h5.2⟩
    rw [u2_no (fun z => absurd z.1 (by decide))]
    exact h5.1 r hr
  · rw [u2_no (fun z => absurd z.1 (by decide))]
    exact h6
  · exact (sameM_u2 (by unfold mkC; omega)).tr ((sameM_u2 (by unfold mkC; omega)).tr h7)
theorem u2_sw {f : MI} {a j b k : Nat} {v w : Int32} (h : ¬ (a = b ∧ j = k)) : u2 (u2 f a j v) b k w = u2 (u2 f b k w) a j v := by
  funext x y
  unfold u2
  by_cases h1 : x = b ∧ y = k
  · by_cases h2 : x = a ∧ y = j
    · exact absurd ⟨h2.1.symm.trans h1.1, h2.2.symm.trans h1.2⟩ h
    · rw [if_pos h1, if_neg h2, if_pos h1]
  · rw [if_neg h1, if_neg h1]
theorem XN.mk {I A : MI} (hX : XRel I A) (hA : AInv A) {j : Nat} {k s c n : Int32} (hj : j < 16) (ej : A 97 4 = nI j) : XN I (u2 (u2 (u2 (u2 (u2 (u2 I (mkC j) 0 k) (mkC j) 1 s) (mkC j) 6 c) (mkC j) 2 n) (mkC j) 3 (earF k)) 4 1 (nI (j + 1))) (mkA A k s c n) := by
  unfold mkA
  rw [ej, nn_nI (by omega), ← nI_succ]
  rw [u2_sw (a := mkC j) (j := 2) (b := mkC j) (k := 3) (fun z => absurd z.2 (by decide)), u2_sw (a := mkC j) (j := 6) (b := mkC j) (k := 3) (fun z => absurd z.2 (by decide)), u2_sw (a := mkC j) (j := 1) (b := mkC j) (k := 3) (fun z => absurd z.2 (by decide))]
  exact (((((XN.st hX hA).kind hj k).upd 6 j (by decide) hj (by decide) s).upd 7 j (by decide) hj (by decide) c).upd 8 j (by decide) hj (by decide) n).upd 4 0 (by decide) (by decide) (by decide) (nI (j + 1))
theorem has_k2 {j : Nat} {x : Int32} (hj : j < 30) (h0 : 0 ≤ x) (h1 : x ≤ nI j - 1) : ∃ k, k < j ∧ x = nI k := by
  have key : ∀ j, j < 30 → nI j - 1 = (if j = 0 then -1 else nI (j - 1)) := by decide +kernel
  rw [key j hj] at h1
  by_cases e : j = 0
  · rw [if_pos e] at h1
    exact absurd (Int32.le_trans h0 h1) (by decide)
  · rw [if_neg e] at h1
    obtain ⟨k, hk, rfl⟩ := nI_inx (by omega) ⟨h0, h1⟩
    exact ⟨k, by omega, rfl⟩
theorem ln_0 : ((0 : Int32) = 0) = True := eq_true rfl
theorem ln_0_1 : ((0 : Int32) = 1) = False := eq_false (by decide)
theorem ln_0_2 : ((0 : Int32) = 2) = False := eq_false (by decide)
theorem ln_0_3 : ((0 : Int32) = 3) = False := eq_false (by decide)
theorem ln_0_4 : ((0 : Int32) = 4) = False := eq_false (by decide)
theorem ln_0_5 : ((0 : Int32) = 5) = False := eq_false (by decide)
theorem ln_0_6 : ((0 : Int32) = 6) = False := eq_false (by decide)
theorem ln_0_7 : ((0 : Int32) = 7) = False := eq_false (by decide)
theorem ln_0_8 : ((0 : Int32) = 8) = False := eq_false (by decide)
theorem ln_0_9 : ((0 : Int32) = 9) = False := eq_false (by decide)
theorem ln_0_10 : ((0 : Int32) = 10) = False := eq_false (by decide)
theorem ln_0_11 : ((0 : Int32) = 11) = False := eq_false (by decide)
theorem ln_1_0 : ((1 : Int32) = 0) = False := eq_false (by decide)
theorem ln_1_2 : ((1 : Int32) = 2) = False := eq_false (by decide)
theorem ln_1_3 : ((1 : Int32) = 3) = False := eq_false (by decide)
theorem ln_1_4 : ((1 : Int32) = 4) = False := eq_false (by decide)
theorem ln_1_5 : ((1 : Int32) = 5) = False := eq_false (by decide)
theorem ln_1_6 : ((1 : Int32) = 6) = False := eq_false (by decide)
theorem ln_1_7 : ((1 : Int32) = 7) = False := eq_false (by decide)
theorem ln_1_8 : ((1 : Int32) = 8) = False := eq_false (by decide)
theorem ln_1_9 : ((1 : Int32) = 9) = False := eq_false (by decide)
theorem ln_1_10 : ((1 : Int32) = 10) = False := eq_false (by decide)
theorem ln_1_11 : ((1 : Int32) = 11) = False := eq_false (by decide)
theorem ln_2_0 : ((2 : Int32) = 0) = False := eq_false (by decide)
theorem ln_2_1 : ((2 : Int32) = 1) = False := eq_false (by decide)
theorem ln_2_3 : ((2 : Int32) = 3) = False := eq_false (by decide)
theorem ln_2_4 : ((2 : Int32) = 4) = False := eq_false (by decide)
theorem ln_2_5 : ((2 : Int32) = 5) = False := eq_false (by decide)
theorem ln_2_6 : ((2 : Int32) = 6) = False := eq_false (by decide)
theorem ln_2_7 : ((2 : Int32) = 7) = False := eq_false (by decide)
theorem ln_2_8 : ((2 : Int32) = 8) = False := eq_false (by decide)
theorem ln_2_9 : ((2 : Int32) = 9) = False := eq_false (by decide)
theorem ln_2_10 : ((2 : Int32) = 10) = False := eq_false (by decide)
theorem ln_2_11 : ((2 : Int32) = 11) = False := eq_false (by decide)
theorem ln_3_0 : ((3 : Int32) = 0) = False := eq_false (by decide)
theorem ln_3_1 : ((3 : Int32) = 1) = False := eq_false (by decide)
theorem ln_3_2 : ((3 : Int32) = 2) = False := eq_false (by decide)
theorem ln_3_4 : ((3 : Int32) = 4) = False := eq_false (by decide)
theorem ln_3_5 : ((3 : Int32) = 5) = False := eq_false (by decide)
theorem ln_3_6 : ((3 : Int32) = 6) = False := eq_false (by decide)
theorem ln_3_7 : ((3 : Int32) = 7) = False := eq_false (by decide)
theorem ln_3_8 : ((3 : Int32) = 8) = False := eq_false (by decide)
theorem ln_3_9 : ((3 : Int32) = 9) = False := eq_false (by decide)
theorem ln_3_10 : ((3 : Int32) = 10) = False := eq_false (by decide)
theorem ln_3_11 : ((3 : Int32) = 11) = False := eq_false (by decide)
theorem ln_4_0 : ((4 : Int32) = 0) = False := eq_false (by decide)
theorem ln_4_1 : ((4 : Int32) = 1) = False := eq_false (by decide)
theorem ln_4_2 : ((4 : Int32) = 2) = False := eq_false (by decide)
theorem ln_4_3 : ((4 : Int32) = 3) = False := eq_false (by decide)
theorem ln_4_5 : ((4 : Int32) = 5) = False := eq_false (by decide)
theorem ln_4_6 : ((4 : Int32) = 6) = False := eq_false (by decide)
theorem ln_4_7 : ((4 : Int32) = 7) = False := eq_false (by decide)
theorem ln_4_8 : ((4 : Int32) = 8) = False := eq_false (by decide)
theorem ln_4_9 : ((4 : Int32) = 9) = False := eq_false (by decide)
theorem ln_4_10 : ((4 : Int32) = 10) = False := eq_false (by decide)
theorem ln_4_11 : ((4 : Int32) = 11) = False := eq_false (by decide)
theorem ln_5_0 : ((5 : Int32) = 0) = False := eq_false (by decide)
theorem ln_5_1 : ((5 : Int32) = 1) = False := eq_false (by decide)
theorem ln_5_2 : ((5 : Int32) = 2) = False := eq_false (by decide)
theorem ln_5_3 : ((5 : Int32) = 3) = False := eq_false (by decide)
theorem ln_5_4 : ((5 : Int32) = 4) = False := eq_false (by decide)
theorem ln_5_6 : ((5 : Int32) = 6) = False := eq_false (by decide)
theorem ln_5_7 : ((5 : Int32) = 7) = False := eq_false (by decide)
theorem ln_5_8 : ((5 : Int32) = 8) = False := eq_false (by decide)
theorem ln_5_9 : ((5 : Int32) = 9) = False := eq_false (by decide)
theorem ln_5_10 : ((5 : Int32) = 10) = False := eq_false (by decide)
theorem ln_5_11 : ((5 : Int32) = 11) = False := eq_false (by decide)
theorem ln_6_0 : ((6 : Int32) = 0) = False := eq_false (by decide)
theorem ln_6_1 : ((6 : Int32) = 1) = False := eq_false (by decide)
theorem ln_6_2 : ((6 : Int32) = 2) = False := eq_false (by decide)
theorem ln_6_3 : ((6 : Int32) = 3) = False := eq_false (by decide)
theorem ln_6_4 : ((6 : Int32) = 4) = False := eq_false (by decide)
theorem ln_6_5 : ((6 : Int32) = 5) = False := eq_false (by decide)
theorem ln_6_7 : ((6 : Int32) = 7) = False := eq_false (by decide)
theorem ln_6_8 : ((6 : Int32) = 8) = False := eq_false (by decide)
theorem ln_6_9 : ((6 : Int32) = 9) = False := eq_false (by decide)
theorem ln_6_10 : ((6 : Int32) = 10) = False := eq_false (by decide)
theorem ln_6_11 : ((6 : Int32) = 11) = False := eq_false (by decide)
theorem ln_7_0 : ((7 : Int32) = 0) = False := eq_false (by decide)
theorem ln_7_1 : ((7 : Int32) = 1) = False := eq_false (by decide)
theorem ln_7_2 : ((7 : Int32) = 2) = False := eq_false (by decide)
theorem ln_7_3 : ((7 : Int32) = 3) = False := eq_false (by decide)
theorem ln_7_4 : ((7 : Int32) = 4) = False := eq_false (by decide)
theorem ln_7_5 : ((7 : Int32) = 5) = False := eq_false (by decide)
theorem ln_7_6 : ((7 : Int32) = 6) = False := eq_false (by decide)
theorem ln_7_8 : ((7 : Int32) = 8) = False := eq_false (by decide)
theorem ln_7_9 : ((7 : Int32) = 9) = False := eq_false (by decide)
theorem ln_7_10 : ((7 : Int32) = 10) = False := eq_false (by decide)
theorem ln_7_11 : ((7 : Int32) = 11) = False := eq_false (by decide)
theorem ln_8_0 : ((8 : Int32) = 0) = False := eq_false (by decide)
theorem ln_8_1 : ((8 : Int32) = 1) = False := eq_false (by decide)
theorem ln_8_2 : ((8 : Int32) = 2) = False := eq_false (by decide)
theorem ln_8_3 : ((8 : Int32) = 3) = False := eq_false (by decide)
theorem ln_8_4 : ((8 : Int32) = 4) = False := eq_false (by decide)
theorem ln_8_5 : ((8 : Int32) = 5) = False := eq_false (by decide)
theorem ln_8_6 : ((8 : Int32) = 6) = False := eq_false (by decide)
theorem ln_8_7 : ((8 : Int32) = 7) = False := eq_false (by decide)
theorem ln_8_9 : ((8 : Int32) = 9) = False := eq_false (by decide)
theorem ln_8_10 : ((8 : Int32) = 10) = False := eq_false (by decide)
theorem ln_8_11 : ((8 : Int32) = 11) = False := eq_false (by decide)
theorem ln_9_0 : ((9 : Int32) = 0) = False := eq_false (by decide)
theorem ln_9_1 : ((9 : Int32) = 1) = False := eq_false (by decide)
theorem ln_9_2 : ((9 : Int32) = 2) = False := eq_false (by decide)
theorem ln_9_3 : ((9 : Int32) = 3) = False := eq_false (by decide)
theorem ln_9_4 : ((9 : Int32) = 4) = False := eq_false (by decide)
theorem ln_9_5 : ((9 : Int32) = 5) = False := eq_false (by decide)
theorem ln_9_6 : ((9 : Int32) = 6) = False := eq_false (by decide)
theorem ln_9_7 : ((9 : Int32) = 7) = False := eq_false (by decide)
theorem ln_9_8 : ((9 : Int32) = 8) = False := eq_false (by decide)
theorem ln_9_10 : ((9 : Int32) = 10) = False := eq_false (by decide)
theorem ln_9_11 : ((9 : Int32) = 11) = False := eq_false (by decide)
theorem ln_10_0 : ((10 : Int32) = 0) = False := eq_false (by decide)
theorem ln_10_1 : ((10 : Int32) = 1) = False := eq_false (by decide)
theorem ln_10_2 : ((10 : Int32) = 2) = False := eq_false (by decide)
theorem ln_10_3 : ((10 : Int32) = 3) = False := eq_false (by decide)
theorem ln_10_4 : ((10 : Int32) = 4) = False := eq_false (by decide)
theorem ln_10_5 : ((10 : Int32) = 5) = False := eq_false (by decide)
theorem ln_10_6 : ((10 : Int32) = 6) = False := eq_false (by decide)
theorem ln_10_7 : ((10 : Int32) = 7) = False := eq_false (by decide)
theorem ln_10_8 : ((10 : Int32) = 8) = False := eq_false (by decide)
theorem ln_10_9 : ((10 : Int32) = 9) = False := eq_false (by decide)
theorem ln_10_11 : ((10 : Int32) = 11) = False := eq_false (by decide)
theorem ln_11_0 : ((11 : Int32) = 0) = False := eq_false (by decide)
theorem ln_11_1 : ((11 : Int32) = 1) = False := eq_false (by decide)
theorem ln_11_2 : ((11 : Int32) = 2) = False := eq_false (by decide)
theorem ln_11_3 : ((11 : Int32) = 3) = False := eq_false (by decide)
theorem ln_11_4 : ((11 : Int32) = 4) = False := eq_false (by decide)
theorem ln_11_5 : ((11 : Int32) = 5) = False := eq_false (by decide)
theorem ln_11_6 : ((11 : Int32) = 6) = False := eq_false (by decide)
theorem ln_11_7 : ((11 : Int32) = 7) = False := eq_false (by decide)
theorem ln_11_8 : ((11 : Int32) = 8) = False := eq_false (by decide)
theorem ln_11_9 : ((11 : Int32) = 9) = False := eq_false (by decide)
theorem ln_11_10 : ((11 : Int32) = 10) = False := eq_false (by decide)
theorem bb_id (p : Prop) [Decidable p] : bi (¬ bi p = 0) = bi p := by
  by_cases z : p
  · rw [bi_t z]
    exact bi_t (by decide)
  · rw [bi_f z]
    exact bi_f (by decide)
theorem s16_9999 : i16 9999 = 9999 := by decide +kernel
/-- a set of marks has no bit beyond them -/
theorem set_hi {x : Int32} {j : Nat} (hj : j < 25) (h : 0 ≤ x ∧ x < 1 <<< (nI j &&& 31)) : ∃ b, b < 2 ^ j ∧ x = nI b ∧ ∀ i, j ≤ i → bq x i = false := by
  have key : ∀ p, p < 25 → (1 : Int32) <<< (nI p &&& 31) = nI (2 ^ p) := by decide +kernel
  have hp : 2 ^ j ≤ 16777216 := Nat.pow_le_pow_right (n := 2) (by decide) (show j ≤ 24 by omega)
  obtain ⟨b, hb, rfl⟩ := nI_of (x := x) (Int32.not_lt.mpr h.1)
  have h2 := h.2
  rw [key j hj, nI_ltI (by omega) (by omega)] at h2
  refine ⟨b, h2, rfl, fun i hi => ?_⟩
  rw [bq_nat, show i32N (nI b) = b from pk_tn (by omega)]
  exact Nat.testBit_lt_two_pow (Nat.lt_of_lt_of_le h2 (Nat.pow_le_pow_right (by decide) hi))
theorem cd_ct {A : MI} (hA : AInv A) {x : Int32} (h : cdB A x) : ctN (bq x) (nn (A 97 4)) ≤ 7 := by
  obtain ⟨j, hj, ej⟩ := B4 hA
  obtain ⟨h1, h2, -⟩ := h
  rw [ej] at h1
  obtain ⟨b, hb, rfl, h3⟩ := set_hi (by omega) h1
  rw [ej, nn_nI (by omega)]
  rw [pcI_ct] at h2
  have hc := ctN_le (bq (nI b)) 32
  have h2' : nI (ctN (bq (nI b)) 32) ≤ nI 7 := h2
  rw [le_nI (by omega) (by omega), ctN_ext (n := j) (by omega) (fun i h4 _ => h3 i h4)] at h2'
  exact h2'
theorem bit_in (x : Int32) : (0 ≤ x ∧ x ≤ 1) = (x = 0 ∨ x = 1) := by
  apply propext
  constructor
  · intro h
    obtain ⟨k, hk, rfl⟩ := nI_inx (n := 1) (by decide) h
    rcases (show k = 0 ∨ k = 1 by omega) with rfl | rfl
    · exact Or.inl rfl
    · exact Or.inr rfl
  · rintro (rfl | rfl) <;> decide
