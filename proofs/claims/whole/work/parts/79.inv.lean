/-! ===== what every call keeps ===== -/
def Z4 (A : MI) : Prop := ∀ m, m < 16 → nn (A 97 4) ≤ m → A 104 m = 0
def AI (A : MI) : Prop := AInv A ∧ TI A ∧ Z4 A
def kp2 (A' A : MI) : Prop := A' 97 14 = A 97 14 ∧ (∀ i, A' 108 i = A 108 i) ∧ A' 97 4 = A 97 4 ∧ ∀ m, A' 104 m = A 104 m
theorem TI.of {A A' : MI} (h : TI A) (h1 : A' 97 14 = A 97 14) (h2 : ∀ i, A' 108 i = A 108 i) : TI A' := by
  intro i hi
  rw [h1] at hi
  unfold tpF
  rw [h2]
  exact h i hi
theorem AI.of {A A' : MI} (h : AI A) (h2 : AInv A') (hk : kp2 A' A) : AI A' := ⟨h2, h.2.1.of hk.1 hk.2.1, fun m hm h3 => by rw [hk.2.2.1] at h3; rw [hk.2.2.2]; exact h.2.2 m hm h3⟩
theorem kp2.rf {A : MI} : kp2 A A := ⟨rfl, fun _ => rfl, rfl, fun _ => rfl⟩
theorem kp2.u {A' A : MI} {a j : Nat} {v : Int32} (h : kp2 A' A) (h1 : a ≠ 104) (h2 : a ≠ 108) (h3 : ¬ (a = 97 ∧ (j = 4 ∨ j = 14))) : kp2 (u2 A' a j v) A := ⟨(u2_no (by omega)).trans h.1, fun i => (u2_no (by omega)).trans (h.2.1 i), (u2_no (by omega)).trans h.2.2.1, fun m => (u2_no (by omega)).trans (h.2.2.2 m)⟩
theorem ml_sp : ∀ k, k < 45 → ∀ i, i < lenK k → ((ml k i).1 = 104 → k = 9) ∧ ((ml k i).1 = 97 → (ml k i).2 = 4 → k = 4) ∧ ((ml k i).1 = 97 → (ml k i).2 = 15 → k = 13) ∧ ((ml k i).1 = 97 → (ml k i).2 = 38 → k = 17) ∧ ((ml k i).1 = 109 → k = 15) ∧ ((ml k i).1 = 141 → k = 42) ∧ ((ml k i).1 = 142 → k = 43) ∧ ((ml k i).1 = 143 → k = 44) := by
  have h1 : ∀ k, k < 45 → ∀ i, i < lenK k → (ml k i).1 = 104 → k = 9 := by decide +kernel
  have h2 : ∀ k, k < 45 → ∀ i, i < lenK k → (ml k i).1 = 97 → (ml k i).2 = 4 → k = 4 := by decide +kernel
  have h3 : ∀ k, k < 45 → ∀ i, i < lenK k → (ml k i).1 = 97 → (ml k i).2 = 15 → k = 13 := by decide +kernel
  have h4 : ∀ k, k < 45 → ∀ i, i < lenK k → (ml k i).1 = 97 → (ml k i).2 = 38 → k = 17 := by decide +kernel
  have h5 : ∀ k, k < 45 → ∀ i, i < lenK k → (ml k i).1 = 109 → k = 15 := by decide +kernel
  have h6 : ∀ k, k < 45 → ∀ i, i < lenK k → (ml k i).1 = 141 → k = 42 := by decide +kernel
  have h7 : ∀ k, k < 45 → ∀ i, i < lenK k → (ml k i).1 = 142 → k = 43 := by decide +kernel
  have h8 : ∀ k, k < 45 → ∀ i, i < lenK k → (ml k i).1 = 143 → k = 44 := by decide +kernel
  exact fun k hk i hi => ⟨h1 k hk i hi, h2 k hk i hi, h3 k hk i hi, h4 k hk i hi, h5 k hk i hi, h6 k hk i hi, h7 k hk i hi, h8 k hk i hi⟩
theorem AI.up {A : MI} (h : AI A) {k i : Nat} (hk : k < 45) (hi : i < lenK k) (h5 : k ≠ 13 ∧ k ≠ 15 ∧ k ≠ 17 ∧ k ≠ 4 ∧ k ≠ 9 ∧ k ≠ 14) {v : Int32} (hv : bdK k v) : AI (u2 A (ml k i).1 (ml k i).2 v) := by
  obtain ⟨-, y1, -, -, -, -, y14, -⟩ := ml_apart k hk i hi
  obtain ⟨z1, z2, -⟩ := ml_sp k hk i hi
  refine h.of (h.1.upd hk hi ⟨h5.1, h5.2.1, h5.2.2.1⟩ hv) (kp2.rf.u (fun w => h5.2.2.2.2.1 (z1 w)) y1 (fun w => ?_))
  rcases w.2 with q | q
  · exact h5.2.2.2.1 (z2 w.1 q)
  · exact h5.2.2.2.2.2 (y14 w.1 q)
theorem bd_in {x : Int32} {n : Nat} (hn : n ≤ 2 ^ 29) (h : 0 ≤ x ∧ x ≤ nI n) : bd x (n + 1) := by
  obtain ⟨k, hk, rfl⟩ := nI_inx (by omega) h
  exact bd_nI (by omega) (by omega)
theorem bd_01 {x : Int32} (h : x = 0 ∨ x = 1) : bd x 2 := by
  rcases h with rfl | rfl
  · exact bd_nI (k := 0) (by decide) (by decide)
  · exact bd_nI (k := 1) (by decide) (by decide)
theorem bd_su {j n : Nat} (h : j + 1 < n) (hn : n ≤ 2 ^ 30) : bd (nI j + 1) n := by
  rw [← nI_succ]
  exact bd_nI h hn
theorem in_nn {x : Int32} {n : Nat} (hn : n ≤ 2 ^ 29) (h : 0 ≤ x ∧ x ≤ nI n) : nn x ≤ n := by
  obtain ⟨k, hk, rfl⟩ := nI_inx (by omega) h
  rw [nn_nI (by omega)]
  exact hk
theorem in_hk {A : MI} {a b j : Nat} {x : Int32} (ej : A a b = nI j) (hj : j < 30) (h : 0 ≤ x ∧ x ≤ A a b - 1) : ∃ k, k < j ∧ x = nI k := has_k2 hj h.1 (by rw [← ej]; exact h.2)
theorem lt_su {A : MI} {a b j n : Nat} (ej : A a b = nI j) (hj : j < 2 ^ 20) (hn : n < 2 ^ 20) (h : A a b < nI n) : j < n := by
  rw [ej, nI_ltI (by omega) (by omega)] at h
  exact h
theorem v_108 {A : MI} (h : AI A) (c n : Int32) : AI (g108 A c n) := by
  unfold g108
  split
  · rename_i w
    have := in_nn (n := 63) (by decide) w.1
    exact h.up (k := 0) (i := nn c) (by decide) (show nn c < 64 by omega) (by decide) (Or.inl (bd_in (n := 9) (by decide) w.2))
  · exact h
theorem v_109 {A : MI} (h : AI A) (c n : Int32) : AI (g109 A c n) := by
  unfold g109
  split
  · rename_i w
    have := in_nn (n := 7) (by decide) w.1
    exact h.up (k := 1) (i := nn c) (by decide) (show nn c < 8 by omega) (by decide) (Or.inl (bd_in (n := 8) (by decide) w.2))
  · exact h
theorem v_110 {A : MI} (h : AI A) (c n : Int32) : AI (g110 A c n) := by
  unfold g110
  split
  · rename_i w
    exact h.up (k := 2) (i := 0) (by decide) (by decide) (by decide) (Or.inl (bd_in (n := 4) (by decide) w.2))
  · split
    · rename_i w
      exact h.up (k := 3) (i := 0) (by decide) (by decide) (by decide) (Or.inl (bd_in (n := 5) (by decide) w.2))
    · exact h
theorem v_112 {A : MI} (h : AI A) (k s c n : Int32) : AI (g112 A k s c n) := by
  unfold g112
  split
  · rename_i w
    obtain ⟨w1, w2, w3, w4⟩ := w
    split
    · rename_i z
      obtain ⟨j, hj, ej⟩ := B4 h.1
      have hj2 := lt_su (n := 16) ej (by omega) (by decide) z
      unfold mkA
      have nj : nn (A 97 4) = j := by rw [ej, nn_nI (by omega)]
      rw [nj, ej]
      have q := (((h.up (k := 5) (i := j) (by decide) hj2 (by decide) (Or.inl (bd_in (n := 5) (by decide) w1))).up (k := 6) (i := j) (by decide) hj2 (by decide) (Or.inl (bd_in (n := 2) (by decide) w2))).up (k := 7) (i := j) (by decide) hj2 (by decide) (Or.inl (bd_in (n := 63) (by decide) w3))).up (k := 8) (i := j) (by decide) hj2 (by decide) (Or.inl (bd_in (n := 99) (by decide) w4))
      have q4 : u2 (u2 (u2 (u2 A 100 j k) 101 j s) 102 j c) 103 j n 97 4 = nI j := by
        rw [u2_no (by omega), u2_no (by omega), u2_no (by omega), u2_no (by omega)]
        exact ej
      refine ⟨q.1.upd (k := 4) (i := 0) (by decide) (by decide) (by decide) (Or.inl (bd_su (n := 17) (by omega) (by decide))), q.2.1.of (u2_no (by omega)) (fun i => u2_no (by omega)), fun m hm h3 => ?_⟩
      rw [u2_eq, ← nI_succ, nn_nI (by omega)] at h3
      rw [u2_no (by omega)]
      exact q.2.2 m hm (by show nn (u2 (u2 (u2 (u2 A 100 j k) 101 j s) 102 j c) 103 j n 97 4) ≤ m; rw [q4, nn_nI (by omega)]; omega)
    · exact h
  · exact h
theorem v_113 {A : MI} (h : AI A) (m c : Int32) : AI (g113 A m c) := by
  unfold g113
  split
  · rename_i w
    split
    · split
      · rename_i z
        obtain ⟨j, hj, ej⟩ := B4 h.1
        obtain ⟨k, hk, rfl⟩ := in_hk ej (by omega) w.1
        rw [nn_nI (by omega)] at z ⊢
        obtain ⟨q, hq, eq⟩ := B9 h.1 (i := k) (by omega)
        have hq6 := lt_su (n := 6) eq (by omega) (by decide) z
        rw [eq, nn_nI (by omega)]
        have h1 : AI (u2 A 104 k (nI q + 1)) := by
          refine ⟨h.1.upd (k := 9) (i := k) (by decide) (show k < 16 by omega) (by decide) (Or.inl (bd_su (n := 7) (by omega) (by decide))), h.2.1.of (u2_no (by omega)) (fun i => u2_no (by omega)), fun m hm h3 => ?_⟩
          rw [u2_no (by omega), ej, nn_nI (by omega)] at h3
          rw [u2_no (by omega)]
          exact h.2.2 m hm (by rw [ej, nn_nI (by omega)]; exact h3)
        exact h1.up (k := 12) (i := 6 * k + q) (by decide) (show 6 * k + q < 96 by omega) (by decide) (Or.inl (bd_in (n := 63) (by decide) w.2))
      · exact h
    · exact h
  · exact h
theorem v_114 {A : MI} (h : AI A) (m y : Int32) : AI (g114 A m y) := by
  unfold g114
  split
  · rename_i w
    obtain ⟨j, hj, ej⟩ := B4 h.1
    obtain ⟨k, hk, rfl⟩ := in_hk ej (by omega) w.1
    rw [nn_nI (by omega)]
    exact h.up (k := 10) (i := k) (by decide) (show k < 16 by omega) (by decide) (Or.inl (bd_01 w.2))
  · exact h
theorem v_137 {A : MI} (h : AI A) (m y : Int32) : AI (g137 A m y) := by
  unfold g137
  split
  · rename_i w
    obtain ⟨j, hj, ej⟩ := B4 h.1
    obtain ⟨k, hk, rfl⟩ := in_hk ej (by omega) w.1
    rw [nn_nI (by omega)]
    exact h.up (k := 11) (i := k) (by decide) (show k < 16 by omega) (by decide) (Or.inl (bd_01 w.2))
  · exact h
theorem byte_sx {x : Int32} (h : x.toInt8.toInt32 = x) : x = sx (nn (x &&& 255)) := by
  have key : ∀ n, n < 256 → (Int8.ofBitVec (BitVec.ofNat 8 n)).toInt32 = sx (nn ((Int8.ofBitVec (BitVec.ofNat 8 n)).toInt32 &&& 255)) := by decide +kernel
  have e : x.toInt8 = Int8.ofBitVec (BitVec.ofNat 8 x.toInt8.toBitVec.toNat) := by
    apply Int8.toBitVec_inj.mp
    show x.toInt8.toBitVec = BitVec.ofNat 8 x.toInt8.toBitVec.toNat
    rw [BitVec.ofNat_toNat, BitVec.setWidth_eq]
  have k2 := key x.toInt8.toBitVec.toNat x.toInt8.toBitVec.isLt
  rw [← e, h] at k2
  exact k2
theorem AInv.u108 {A : MI} (h : AInv A) {j : Nat} {v : Int32} : AInv (u2 A 108 j v) := by
  obtain ⟨h1, h2, h3, h4, h5⟩ := h
  have e : ∀ a k, a ≠ 108 → u2 A 108 j v a k = A a k := fun a k w => u2_no (fun z => w z.1)
  refine ⟨fun k hk i hi => ?_, by rw [e _ _ (by decide)]; exact h2, fun k hk => by rw [e _ _ (by decide), e _ _ (by decide)]; exact h3 k hk, fun r hr => by rw [e _ _ (by decide), e _ _ (by decide)]; exact h4 r hr, fun p hp => ?_⟩
  · rw [e _ _ (ml_apart k hk i hi).2.1]
    exact h1 k hk i hi
  · rw [e _ _ (by decide)] at hp
    have e1 : ∀ q, u2 A 108 j v 110 q = A 110 q := fun q => e _ _ (by decide)
    have e2 : ∀ q, u2 A 108 j v 111 q = A 111 q := fun q => e _ _ (by decide)
    simp only [e1, e2]
    exact h5 p hp
theorem v_120 {A : MI} (h : AI A) (n : Int32) (w : Int64) : AI (g120 A n w) := by
  unfold g120
  split
  · rename_i p1
    split
    · exact h
    · rename_i p2
      obtain ⟨t, ht, et⟩ := B14 h.1
      obtain ⟨k, hk, rfl⟩ := nI_inx (n := 8) (by decide) ⟨Int32.le_trans (by decide) p1.1, p1.2⟩
      have hle : t + k ≤ 160 := by
        rw [et, nI_add] at p2
        by_cases q : t + k ≤ 160
        · exact q
        · exact absurd ((nI_ltI (a := 160) (by omega) (by omega)).mpr (by omega)) p2
      rw [nn_nI (by omega)]
      have key : ∀ m, m ≤ k → AI (fdA A w m) ∧ fdA A w m 97 14 = nI (t + m) := by
        intro m
        induction m with
        | zero => exact fun _ => ⟨h, et⟩
        | succ m ih =>
          intro hm
          obtain ⟨i1, i2⟩ := ih (by omega)
          have e0 : fdA A w (m + 1) = u2 (u2 (fdA A w m) 108 (t + m) (btF w m)) 97 14 (nI (t + (m + 1))) := by
            show u2 (u2 (fdA A w m) 108 (nn (A 97 14) + m) (btF w m)) 97 14 (nI (nn (A 97 14) + (m + 1))) = _
            rw [et, nn_nI (by omega)]
          rw [e0]
          refine ⟨⟨(i1.1.u108).upd (k := 14) (i := 0) (by decide) (by decide) (by decide) (Or.inl (bd_nI (show t + (m + 1) < 161 by omega) (by decide))), fun i hi => ?_, fun q hq h3 => ?_⟩, u2_eq⟩
          · rw [u2_eq, nn_nI (by omega)] at hi
            unfold tpF
            rw [u2_no (by omega)]
            by_cases q : i = t + m
            · rw [q, u2_eq]
              refine byte_sx ?_
              unfold btF
              rw [Int8.toInt8_toInt32]
            · rw [u2_no (by omega)]
              exact i1.2.1 i (by rw [i2, nn_nI (by omega)]; omega)
          · rw [u2_no (by omega), u2_no (by omega)] at h3
            rw [u2_no (by omega), u2_no (by omega)]
            exact i1.2.2 q hq h3
      exact (key k (Nat.le_refl _)).1
  · exact h
theorem gT_AI {A A' : MI} (h : AI A) (hg : gT A A') : AI A' := by
  have h1 := gT_inv h.1 hg
  unfold gT at hg
  split at hg
  · obtain ⟨⟨k1, k2, k3, k4⟩, -⟩ := hg
    refine ⟨h1, fun i hi => ?_, fun m hm h3 => ?_⟩
    · rw [k4] at hi
      exact absurd hi (Nat.not_lt_zero _)
    · rw [k1 _ _ (by omega) (by omega) (by omega)] at h3
      rw [k1 _ _ (by omega) (by omega) (by omega)]
      exact h.2.2 m hm h3
  · rw [hg]
    exact h
theorem v_122 {A : MI} (h : AI A) (w t : Int32) : AI (g122 A w t) := by
  unfold g122
  split
  · rename_i p
    obtain ⟨j, hj, ej⟩ := B13 h.1
    have hw := in_nn (n := 2) (by decide) p.1
    obtain ⟨k, hk, rfl⟩ := in_hk ej (by omega) p.2
    refine h.of ?_ (kp2.rf.u (by decide) (by decide) (by omega))
    obtain ⟨h1, h2, h3, h4, h5⟩ := h.1
    have e : ∀ a q, a ≠ 109 → u2 A 109 (nn w) (nI k) a q = A a q := fun a q w => u2_no (fun z => w z.1)
    refine ⟨h1.upd (k := 15) (i := nn w) (by decide) (show nn w < 3 by omega) (Or.inl (bd_nI (show k < 6 by omega) (by decide))), by rw [e _ _ (by decide)]; exact h2, fun q hq => ?_, fun r hr => by rw [e _ _ (by decide), e _ _ (by decide)]; exact h4 r hr, fun p hp => ?_⟩
    · rw [e 97 15 (by decide)]
      by_cases z : q = nn w
      · rw [z, u2_eq, ej, nn_nI (by omega), nn_nI (by omega)]
        exact hk
      · rw [u2_no (by omega)]
        exact h3 q hq
    · rw [e _ _ (by decide)] at hp
      have e1 : ∀ q, u2 A 109 (nn w) (nI k) 110 q = A 110 q := fun q => e _ _ (by decide)
      have e2 : ∀ q, u2 A 109 (nn w) (nI k) 111 q = A 111 q := fun q => e _ _ (by decide)
      simp only [e1, e2]
      exact h5 p hp
  · exact h
theorem v_126 {A : MI} (h : AI A) (p f t s u : Int32) : AI (g126 A p f t s u) := by
  unfold g126
  split
  · rename_i w
    obtain ⟨w1, w2, w3, w4, w5, -⟩ := w
    split
    · rename_i z
      obtain ⟨j, hj, ej⟩ := B31 h.1
      have hj2 := lt_su (n := 12) ej (by omega) (by decide) z
      rw [ej, nn_nI (by omega)]
      exact (((((h.up (k := 32) (i := j) (by decide) hj2 (by decide) (Or.inl (bd_in (n := 99) (by decide) w1))).up (k := 33) (i := j) (by decide) hj2 (by decide) (Or.inl (bd_in (n := 7) (by decide) w2))).up (k := 34) (i := j) (by decide) hj2 (by decide) (Or.inl (bd_in (n := 7) (by decide) ⟨Int32.le_trans w2.1 w3.1, w3.2⟩))).up (k := 35) (i := j) (by decide) hj2 (by decide) (Or.inl (bd_in (n := 999) (by decide) w4))).up (k := 36) (i := j) (by decide) hj2 (by decide) (Or.inl (bd_in (n := 999) (by decide) w5))).up (k := 31) (i := 0) (by decide) (by decide) (by decide) (Or.inl (bd_su (n := 13) (by omega) (by decide)))
    · exact h
  · exact h
theorem v_128 {A : MI} (h : AI A) (s c u : Int32) : AI (g128 A s c u) := by
  unfold g128
  split
  · rename_i w
    obtain ⟨w1, w2, w3⟩ := w
    split
    · rename_i z
      obtain ⟨j, hj, ej⟩ := B16 h.1
      have hj2 := lt_su (n := 12) ej (by omega) (by decide) z
      rw [ej, nn_nI (by omega)]
      exact (((h.up (k := 19) (i := j) (by decide) hj2 (by decide) (Or.inl (bd_in (n := 3) (by decide) w1))).up (k := 20) (i := j) (by decide) hj2 (by decide) (Or.inl (bd_in (n := 63) (by decide) w2))).up (k := 21) (i := j) (by decide) hj2 (by decide) (Or.inl (bd_in (n := 999) (by decide) w3))).up (k := 16) (i := 0) (by decide) (by decide) (by decide) (Or.inl (bd_su (n := 13) (by omega) (by decide)))
    · exact h
  · exact h
theorem v_129 {A : MI} (h : AI A) (m u w y : Int32) : AI (g129 A m u w y) := by
  unfold g129
  split
  · rename_i p
    obtain ⟨w1, w2, w3, w4⟩ := p
    split
    · rename_i z
      obtain ⟨i, hi, ei⟩ := B4 h.1
      obtain ⟨k, hk, rfl⟩ := in_hk ei (by omega) w1
      obtain ⟨j, hj, ej⟩ := B17 h.1
      have hj2 := lt_su (n := 24) ej (by omega) (by decide) z
      rw [ej, nn_nI (by omega)]
      have q := (((h.up (k := 22) (i := j) (by decide) hj2 (by decide) (Or.inl (bd_nI (show k < 16 by omega) (by decide)))).up (k := 23) (i := j) (by decide) hj2 (by decide) (Or.inl (bd_in (n := 999) (by decide) w2))).up (k := 24) (i := j) (by decide) hj2 (by decide) (Or.inl (bd_01 w3))).up (k := 25) (i := j) (by decide) hj2 (by decide) (Or.inl (bd_01 w4))
      have q38 : u2 (u2 (u2 (u2 A 124 j (nI k)) 125 j u) 126 j w) 127 j y 97 38 = nI j := by
        rw [u2_no (by omega), u2_no (by omega), u2_no (by omega), u2_no (by omega)]
        exact ej
      rw [show (ml 22 j) = (124, j) from rfl, show (ml 23 j) = (125, j) from rfl, show (ml 24 j) = (126, j) from rfl, show (ml 25 j) = (127, j) from rfl] at q
      dsimp only at q
      generalize u2 (u2 (u2 (u2 A 124 j (nI k)) 125 j u) 126 j w) 127 j y = B at *
      refine q.of ?_ (kp2.rf.u (by decide) (by decide) (by omega))
      obtain ⟨h1, h2, h3, h4, h5⟩ := q.1
      have e : ∀ a q, ¬ (a = 97 ∧ q = 38) → u2 B 97 38 (nI j + 1) a q = B a q := fun a q w => u2_no w
      refine ⟨h1.upd (k := 17) (i := 0) (by decide) (by decide) (Or.inl (bd_su (n := 25) (by omega) (by decide))), by rw [e _ _ (by omega)]; exact h2, fun q hq => by rw [e _ _ (by omega), e _ _ (by omega)]; exact h3 q hq, fun r hr => ?_, fun p hp => ?_⟩
      · rw [e 131 r (by omega), u2_eq, ← nI_succ, nn_nI (by omega)]
        have g := h4 r hr
        rw [q38, nn_nI (by omega)] at g
        exact ⟨g.1, fun w => g.2 (by omega)⟩
      · rw [e _ _ (by omega)] at hp
        have e1 : ∀ q, u2 B 97 38 (nI j + 1) 110 q = B 110 q := fun q => e _ _ (by omega)
        have e2 : ∀ q, u2 B 97 38 (nI j + 1) 111 q = B 111 q := fun q => e _ _ (by omega)
        simp only [e1, e2]
        exact h5 p hp
    · exact h
  · exact h
theorem v_130 {A : MI} (h : AI A) (r : Int32) : AI (g130 A r) := by
  unfold g130
  split
  · rename_i p
    split
    · obtain ⟨j, hj, ej⟩ := B17 h.1
      obtain ⟨k, hk, rfl⟩ := in_hk ej (by omega) p
      rw [nn_nI (by omega)]
      refine h.of ?_ (kp2.rf.u (by decide) (by decide) (by omega))
      obtain ⟨h1, h2, h3, h4, h5⟩ := h.1
      have e : ∀ a q, a ≠ 131 → u2 A 131 k 1 a q = A a q := fun a q w => u2_no (fun z => w z.1)
      refine ⟨fun q hq i hi => by rw [e _ _ (ml_apart q hq i hi).2.2.2.2.1]; exact h1 q hq i hi, by rw [e _ _ (by decide)]; exact h2, fun q hq => by rw [e _ _ (by decide), e _ _ (by decide)]; exact h3 q hq, fun r hr => ?_, fun p hp => ?_⟩
      · rw [e 97 38 (by decide)]
        by_cases z : r = k
        · rw [z, u2_eq, ej, nn_nI (by omega)]
          exact ⟨Or.inr rfl, fun w => by omega⟩
        · rw [u2_no (by omega)]
          exact h4 r hr
      · rw [e _ _ (by decide)] at hp
        have e1 : ∀ q, u2 A 131 k 1 110 q = A 110 q := fun q => e _ _ (by decide)
        have e2 : ∀ q, u2 A 131 k 1 111 q = A 111 q := fun q => e _ _ (by decide)
        simp only [e1, e2]
        exact h5 p hp
    · exact h
  · exact h
theorem set_bd {j n : Nat} {x : Int32} (hj : j < 25) (hn : 2 ^ j ≤ n) (hn2 : n ≤ 2 ^ 30) (h : 0 ≤ x ∧ x < 1 <<< (nI j &&& 31)) : bd x n := by
  obtain ⟨b, hb, rfl, -⟩ := set_hi hj h
  have key : ∀ p, p < 25 → (1 : Int32) <<< (nI p &&& 31) = nI (2 ^ p) := by decide +kernel
  have h2 := h.2
  have h24 : 2 ^ j ≤ 2 ^ 24 := Nat.pow_le_pow_right (by decide) (by omega)
  rw [key j hj, nI_ltI (by omega) (by omega)] at h2
  exact bd_nI (by omega) hn2
theorem v_135 {A : MI} (h : AI A) (k x y : Int32) : AI (g135 A k x y) := by
  unfold g135
  split
  · rename_i p
    obtain ⟨w1, w2, w3⟩ := p
    split
    · rename_i z
      obtain ⟨i, hi, ei⟩ := B16 h.1
      obtain ⟨q, hq, rfl⟩ := in_hk ei (by omega) w1
      obtain ⟨l, hl, el⟩ := B17 h.1
      obtain ⟨j, hj, ej⟩ := B18 h.1
      have hj2 := lt_su (n := 10) ej (by omega) (by decide) z
      rw [el] at w2
      rw [ej] at w3 ⊢
      rw [nn_nI (by omega)]
      have b1 : bd x 16777216 := set_bd (by omega) (show 2 ^ l ≤ 2 ^ 24 from Nat.pow_le_pow_right (by decide) (by omega)) (by decide) w2
      have b2 : bd y 1024 := set_bd (by omega) (show 2 ^ j ≤ 2 ^ 10 from Nat.pow_le_pow_right (by decide) (by omega)) (by decide) w3
      exact (((h.up (k := 26) (i := j) (by decide) hj2 (by decide) (Or.inl (bd_nI (show q < 12 by omega) (by decide)))).up (k := 27) (i := j) (by decide) hj2 (by decide) (Or.inl b1)).up (k := 28) (i := j) (by decide) hj2 (by decide) (Or.inl b2)).up (k := 18) (i := 0) (by decide) (by decide) (by decide) (Or.inl (bd_su (n := 11) (by omega) (by decide)))
    · exact h
  · exact h
theorem v_140 {A : MI} (h : AI A) (c : Int32) : AI (g140 A c) := by
  unfold g140
  split
  · rename_i w
    split
    · rename_i z
      obtain ⟨j, hj, ej⟩ := B29 h.1
      have hj2 := lt_su (n := 10) ej (by omega) (by decide) z
      rw [ej, nn_nI (by omega)]
      exact (h.up (k := 29) (i := 0) (by decide) (by decide) (by decide) (Or.inl (bd_su (n := 11) (by omega) (by decide)))).up (k := 30) (i := j) (by decide) hj2 (by decide) (Or.inl (bd_in (n := 63) (by decide) w))
    · exact h
  · exact h
theorem v_144 {A : MI} (h : AI A) (s u a : Int32) : AI (g144 A s u a) := by
  unfold g144
  split
  · rename_i w
    obtain ⟨w1, w2, w3⟩ := w
    split
    · rename_i z
      obtain ⟨j, hj, ej⟩ := B37 h.1
      have hj2 := lt_su (n := 20) ej (by omega) (by decide) z
      rw [ej, nn_nI (by omega)]
      exact ((((h.up (k := 38) (i := j) (by decide) hj2 (by decide) (Or.inl (bd_01 w1))).up (k := 39) (i := j) (by decide) hj2 (by decide) (Or.inl (bd_in (n := 999) (by decide) w2))).up (k := 40) (i := j) (by decide) hj2 (by decide) (Or.inl (bd_in (n := 999) (by decide) ⟨w3.1, Int32.le_trans w3.2 w2.2⟩))).up (k := 41) (i := j) (by decide) hj2 (by decide) (Or.inr (Or.inl ⟨Or.inl rfl, rfl⟩))).up (k := 37) (i := 0) (by decide) (by decide) (by decide) (Or.inl (bd_su (n := 21) (by omega) (by decide)))
    · exact h
  · exact h
theorem v_145 {A : MI} (h : AI A) (p u : Int32) : AI (g145 A p u) := by
  unfold g145
  split
  · rename_i w
    split
    · obtain ⟨j, hj, ej⟩ := B37 h.1
      obtain ⟨k, hk, rfl⟩ := in_hk ej (by omega) w.1
      rw [nn_nI (by omega)]
      exact h.up (k := 41) (i := k) (by decide) (show k < 20 by omega) (by decide) (Or.inl (bd_in (n := 999) (by decide) w.2.1))
    · exact h
  · exact h
/-- only rows of sheets changed -/
theorem AI.sh {A A' : MI} (h : AI A) (he : ∀ a j, a ≠ 141 → a ≠ 142 → a ≠ 143 → A' a j = A a j) (h1 : ∀ i, i < 4 → bdK 42 (A' 141 i)) (h2 : ∀ i, i < 4 → bdK 43 (A' 142 i)) : AI A' := by
  obtain ⟨⟨b1, b2, b3, b4, b5⟩, t1, z1⟩ := h
  refine ⟨⟨fun k hk i hi => ?_, by rw [he _ _ (by decide) (by decide) (by decide)]; exact b2, fun q hq => by rw [he _ _ (by decide) (by decide) (by decide), he _ _ (by decide) (by decide) (by decide)]; exact b3 q hq, fun r hr => by rw [he _ _ (by decide) (by decide) (by decide), he _ _ (by decide) (by decide) (by decide)]; exact b4 r hr, fun p hp => ?_⟩, t1.of (he _ _ (by decide) (by decide) (by decide)) (fun i => he _ _ (by decide) (by decide) (by decide)), fun m hm h3 => ?_⟩
  · obtain ⟨-, -, -, -, -, s1, s2, s3⟩ := ml_sp k hk i hi
    by_cases q1 : k = 42
    · subst q1
      exact h1 i hi
    · by_cases q2 : k = 43
      · subst q2
        exact h2 i hi
      · by_cases q3 : k = 44
        · exact Or.inr (Or.inr q3)
        · rw [he _ _ (fun w => q1 (s1 w)) (fun w => q2 (s2 w)) (fun w => q3 (s3 w))]
          exact b1 k hk i hi
  · rw [he _ _ (by decide) (by decide) (by decide)] at hp
    have e1 : ∀ q, A' 110 q = A 110 q := fun q => he _ _ (by decide) (by decide) (by decide)
    have e2 : ∀ q, A' 111 q = A 111 q := fun q => he _ _ (by decide) (by decide) (by decide)
    simp only [e1, e2]
    exact b5 p hp
  · rw [he _ _ (by decide) (by decide) (by decide)] at h3
    rw [he _ _ (by decide) (by decide) (by decide)]
    exact z1 m hm h3
theorem sh_bd {A : MI} (h : AI A) {s : Nat} {t n : Int32} (ht : bdK 42 t) (hn : bdK 43 n) : AI (shA A s t n) := by
  refine h.sh (fun a j h1 h2 h3 => ?_) (fun i hi => ?_) (fun i hi => ?_)
  · unfold shA
    rw [if_neg (by omega), if_neg (by omega), if_neg (by omega)]
  · unfold shA
    by_cases q : i = s
    · rw [if_pos ⟨rfl, q⟩]
      exact ht
    · rw [if_neg (by omega), if_neg (by omega), if_neg (by omega)]
      exact h.1.1 42 (by decide) i hi
  · unfold shA
    by_cases q : i = s
    · rw [if_neg (by omega), if_pos ⟨rfl, q⟩]
      exact hn
    · rw [if_neg (by omega), if_neg (by omega), if_neg (by omega)]
      exact h.1.1 43 (by decide) i hi
theorem v_151 {A : MI} (h : AI A) (s t n : Int32) : AI (g151 A s t n) := by
  unfold g151
  split
  · rename_i w
    split
    · exact sh_bd h (Or.inr (Or.inl ⟨Or.inr rfl, rfl⟩)) (Or.inl (bd_nI (k := 0) (by decide) (by decide)))
    · rename_i q
      split
      · exact h
      · rename_i q2
        split
        · exact h
        · rename_i q3
          exact sh_bd h (Or.inl (bd_in (n := 2) (by decide) ⟨m1_pos w.2.1 q, w.2.2⟩)) (Or.inl (bd_in (n := 40) (by decide) ⟨Int32.not_lt.mp q3, Int32.not_lt.mp q2⟩))
  · exact h
theorem v_152 {A : MI} (h : AI A) (s i v : Int32) : AI (g152 A s i v) := by
  unfold g152
  split
  · rename_i w
    split
    · exact h
    · split
      · rename_i z
        obtain ⟨k, hk, rfl⟩ := nI_inx (n := 3) (by decide) w
        rw [nn_nI (by omega)] at z ⊢
        obtain ⟨l, hl, el⟩ := B43 h.1 (i := k) (by omega)
        obtain ⟨q, hq, rfl⟩ : ∃ q, q < 40 ∧ i = nI q := by
          obtain ⟨q, hq, eq⟩ := nI_of (x := i) (Int32.not_lt.mpr z.1)
          have h4 := z.2
          rw [el] at h4
          cases l with
          | zero => exact absurd (Int32.le_trans z.1 h4) (by decide)
          | succ l =>
            rw [nn1, eq, le_nI hq (by omega)] at h4
            exact ⟨q, by omega, eq⟩
        rw [nn_nI (by omega)]
        exact h.up (k := 44) (i := 40 * k + q) (by decide) (show 40 * k + q < 160 by omega) (by decide) (Or.inr (Or.inr rfl))
      · exact h
  · exact h
theorem v_153 {A : MI} (h : AI A) (s i o j n : Int32) : AI (g153 A s i o j n) := by
  unfold g153
  split
  · split
    · exact h
    · split
      · exact h
      · split
        · refine h.sh (fun a j h1 h2 h3 => ?_) (fun q hq => ?_) (fun q hq => ?_)
          · unfold cpA
            rw [if_neg (by omega)]
          · unfold cpA
            rw [if_neg (by omega)]
            exact h.1.1 42 (by decide) q hq
          · unfold cpA
            rw [if_neg (by omega)]
            exact h.1.1 43 (by decide) q hq
        · exact h
  · exact h
theorem v_154 {A : MI} (h : AI A) (r s t b n : Int32) : AI (g154 A r s t b n) := by
  unfold g154
  split
  · rename_i w
    split
    · exact h
    · split
      · exact h
      · have hr := in_nn (n := 7) (by decide) w.1
        have hn := in_nn (n := 8) (by decide) w.2.2.2
        refine h.of (hg_inv h.1 (by omega) _ hn) ⟨congrFun (hg_k (by decide) _) _, fun i => congrFun (hg_k (by decide) _) _, congrFun (hg_k (by decide) _) _, fun m => congrFun (hg_k (by decide) _) _⟩
  · exact h
