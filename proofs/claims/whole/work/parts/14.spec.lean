/-! ===== numbers ===== -/
theorem cl_nI {k : Nat} (h : k < 2147483648) : (nI k).toNatClampNeg = k := nI_clamp h
theorem nn_nI {k : Nat} (h : k < 2147483648) : nn (nI k) = k := nI_clamp h
theorem vp_nI {k N : Nat} (h : k < N) (hN : N < 2147483648) : vp_in (nI k) N = True := eq_true (vp_in_nI h hN)
theorem lt_nI {a b : Nat} (ha : a < 2147483648) (hb : b < 2147483648) : (nI a < nI b) = (a < b) := propext (nI_ltI ha hb)
theorem le_nI {a b : Nat} (ha : a < 2147483648) (hb : b < 2147483648) : (nI a ≤ nI b) = (a ≤ b) := propext (nI_leI ha hb)
theorem eq_nI {a b : Nat} (ha : a < 2147483648) (hb : b < 2147483648) : (nI a = nI b) = (a = b) := propext (nI_eq ha hb)
theorem dv_nI {a : Nat} (ha : a < 2147483648) (d : Nat) (h0 : 0 < d) (hd : d < 2147483648) : nI a / nI d = nI (a / d) := pk_div ha h0 hd
theorem rm_nI {a : Nat} (ha : a < 2147483648) (d : Nat) (h0 : 0 < d) (hd : d < 2147483648) : rmI (nI a) (nI d) = nI (a % d) := pk_rem ha h0 hd
theorem dv8 {a : Nat} (ha : a < 2147483648) : nI a / 8 = nI (a / 8) := dv_nI ha 8 (by decide) (by decide)
theorem rm8 {a : Nat} (ha : a < 2147483648) : rmI (nI a) 8 = nI (a % 8) := rm_nI ha 8 (by decide) (by decide)
theorem rm24 {a : Nat} (ha : a < 2147483648) : rmI (nI a) 24 = nI (a % 24) := rm_nI ha 24 (by decide) (by decide)
theorem nI_inx {x : Int32} {n : Nat} (hn : n ≤ 2147483647) (h : 0 ≤ x ∧ x ≤ nI n) : ∃ k, k ≤ n ∧ x = nI k := by
  obtain ⟨j, hj, rfl⟩ := nI_of (x := x) (Int32.not_lt.mpr h.1)
  refine ⟨j, ?_, rfl⟩
  have := h.2
  rwa [le_nI hj (by omega)] at this
/-! ===== what the document says, over the reference's cells ===== -/
def sdF (A : MI) (c : Nat) : Int32 := if nI (c % 8) < A 99 (c / 8) then 0 else 1
def frF (A : MI) (c : Nat) : Int32 := if nI (c % 8) < A 99 (c / 8) then A 99 (c / 8) - 1 - nI (c % 8) else nI (c % 8) - A 99 (c / 8)
def ngt (h : Nat) : Prop := h % 24 < 6 ∨ 19 < h % 24
def hiP (A : MI) (c : Nat) : Prop := 5 ≤ A 98 c
/-- sight by kind, from a height of 5 or above, by night -/
def sgB (k : Nat) (hi ng : Bool) : Nat := match k with
  | 1 => (if hi = true then 4 else 3) - (if ng = true then 1 else 0)
  | 3 => (if hi = true then 4 else 3) - 1 - (if ng = true then 1 else 0)
  | 4 => if ng = true then (if hi = true then 4 else 3) else (if hi = true then 4 else 3) - 1
  | 5 => 1
  | _ => 0
theorem sgB_le (k : Nat) (hi ng : Bool) : sgB k hi ng ≤ 4 := by
  unfold sgB
  split <;> cases hi <;> cases ng <;> decide
def sgF (A : MI) (k c h : Nat) : Nat := sgB k (decide (5 ≤ A 98 c)) (decide (h % 24 < 6 ∨ 19 < h % 24)) - nn (A 97 3)
theorem sgF_le (A : MI) (k c h : Nat) : sgF A k c h ≤ 4 := Nat.le_trans (Nat.sub_le _ _) (sgB_le _ _ _)
def clF (A : MI) (m h : Nat) : Nat := if nn (A 104 m) = 0 then nn (A 102 m) else nn (A 105 (6 * m + h % nn (A 104 m)))
def apN (a b : Nat) : Nat := nn (apI (nI a) (nI b))
/-- along one axis, k n-ths on the way from x to y -/
def axI (x y : Int32) (n k : Int32) : Int32 := x + (y - x) * k / n
def axN (x y n k : Nat) : Nat := nn (axI (nI x) (nI y) (nI n) (nI k))
def btN (a b n k : Nat) : Nat := 8 * axN (a / 8) (b / 8) n k + axN (a % 8) (b % 8) n k
def clrP (A : MI) (a b : Nat) (j : Nat) : Prop := ∀ k, 1 ≤ k → k < j → ¬ (A 98 a < A 98 (btN a b (apN a b) k) ∧ A 98 b < A 98 (btN a b (apN a b) k))
noncomputable def seB (A : MI) (a s b : Nat) : Bool := by classical exact decide (apN a b ≤ s ∧ clrP A a b (apN a b))
/-- a set of longs' bits -/
def b1L (k : Nat) : Int64 := 1 <<< ((nI k).toInt64 &&& 63)
def btL (p : Nat → Bool) : Nat → Int64
  | 0 => 0
  | k + 1 => if p k = true then btL p k ||| b1L k else btL p k
def b1I (k : Nat) : Int32 := 1 <<< (nI k &&& 31)
def btI (p : Nat → Bool) : Nat → Int32
  | 0 => 0
  | k + 1 => if p k = true then btI p k ||| b1I k else btI p k
noncomputable def snF (A : MI) (a s : Nat) : Int64 := btL (seB A a s) 64
noncomputable def sbF (A : MI) (m h : Nat) : Int64 := if A 106 m = 0 then snF A (clF A m h) (sgF A (nn (A 100 m)) (clF A m h) h) else 0
noncomputable def vwF (A : MI) (s h : Nat) : Nat → Int64
  | 0 => 0
  | k + 1 => if A 101 k = nI s then vwF A s h k ||| sbF A k h else vwF A s h k
theorem apI_ok : ∀ a, a < 64 → ∀ b, b < 64 → bd (apI (nI a) (nI b)) 8 := by unfold bd; decide +kernel
theorem apN_lt {a b : Nat} (ha : a < 64) (hb : b < 64) : apN a b < 8 := (apI_ok a ha b hb).2
theorem apI_nI {a b : Nat} (ha : a < 64) (hb : b < 64) : apI (nI a) (nI b) = nI (apN a b) := (apI_ok a ha b hb).1
def axC (x y : Nat) : Bool := (List.range 8).all (fun n => (List.range n).all (fun k => !(decide (y ≤ x + n) && decide (x ≤ y + n)) || (decide (axI (nI x) (nI y) (nI n) (nI k) = nI (nn (axI (nI x) (nI y) (nI n) (nI k)))) && decide (nn (axI (nI x) (nI y) (nI n) (nI k)) < 8))))
theorem axC_ok : ∀ x, x < 8 → ∀ y, y < 8 → axC x y = true := by decide +kernel
theorem axI_ok {x y n k : Nat} (hx : x < 8) (hy : y < 8) (hn : n < 8) (hk : k < n) (h1 : y ≤ x + n) (h2 : x ≤ y + n) : bd (axI (nI x) (nI y) (nI n) (nI k)) 8 := by
  have h := axC_ok x hx y hy
  unfold axC at h
  have h3 := List.all_eq_true.mp (List.all_eq_true.mp h n (List.mem_range.mpr hn)) k (List.mem_range.mpr hk)
  simp only [Bool.or_eq_true, Bool.not_eq_true', Bool.and_eq_false_iff, decide_eq_false_iff_not, Bool.and_eq_true, decide_eq_true_eq] at h3
  rcases h3 with (q | q) | q
  · exact absurd h1 q
  · exact absurd h2 q
  · exact q
theorem ap_ax : ∀ a, a < 64 → ∀ b, b < 64 → b / 8 ≤ a / 8 + apN a b ∧ a / 8 ≤ b / 8 + apN a b ∧ b % 8 ≤ a % 8 + apN a b ∧ a % 8 ≤ b % 8 + apN a b := by decide +kernel
theorem frF_ok : ∀ k, k < 8 → ∀ j, j < 9 → (nI k - nI j < 0 ↔ nI k < nI j) ∧ (nI k < nI j → -(nI k - nI j) - 1 = nI j - 1 - nI k) := by decide +kernel
theorem btN_lt {a b k : Nat} (ha : a < 64) (hb : b < 64) (hk : k < apN a b) : btN a b (apN a b) k < 64 := by
  obtain ⟨h1, h2, h3, h4⟩ := ap_ax a ha b hb
  have hl := apN_lt ha hb
  have x1 := (axI_ok (x := a / 8) (y := b / 8) (by omega) (by omega) hl hk h1 h2).2
  have x2 := (axI_ok (x := a % 8) (y := b % 8) (by omega) (by omega) hl hk h3 h4).2
  unfold btN axN
  omega
theorem bt_I {a b k : Nat} (ha : a < 64) (hb : b < 64) (hk : k < apN a b) : axI (nI (a / 8)) (nI (b / 8)) (nI (apN a b)) (nI k) = nI (axN (a / 8) (b / 8) (apN a b) k) ∧ axI (nI (a % 8)) (nI (b % 8)) (nI (apN a b)) (nI k) = nI (axN (a % 8) (b % 8) (apN a b) k) ∧ axN (a / 8) (b / 8) (apN a b) k < 8 ∧ axN (a % 8) (b % 8) (apN a b) k < 8 := by
  obtain ⟨h1, h2, h3, h4⟩ := ap_ax a ha b hb
  have hl := apN_lt ha hb
  obtain ⟨x1, x3⟩ := axI_ok (x := a / 8) (y := b / 8) (by omega) (by omega) hl hk h1 h2
  obtain ⟨x2, x4⟩ := axI_ok (x := a % 8) (y := b % 8) (by omega) (by omega) hl hk h3 h4
  exact ⟨x1, x2, x3, x4⟩
/-! places and bounds, one by one -/
def mkC (m : Nat) : Nat := 6 + 2 * m
def mkS (m : Nat) : Nat := 7 + 2 * m
def shC (m : Nat) : Nat := 89 + 2 * m
def itC (m : Nat) : Nat := 90 + 2 * m
def cdC (m : Nat) : Nat := 42 + m
theorem S0 {I A : MI} (h : XRel I A) {i : Nat} (hi : i < 64) : I 2 i = A 98 i := h.1 0 (by decide) i (by exact hi)
theorem B0 {A : MI} (h : AInv A) {i : Nat} (hi : i < 64) : ∃ k, k < 10 ∧ A 98 i = nI k := ⟨_, (h.1.at (k := 0) (i := i) (by decide) (by exact hi)).2, (h.1.at (k := 0) (i := i) (by decide) (by exact hi)).1⟩
theorem S1 {I A : MI} (h : XRel I A) {i : Nat} (hi : i < 8) : I 3 i = A 99 i := h.1 1 (by decide) i (by exact hi)
theorem B1 {A : MI} (h : AInv A) {i : Nat} (hi : i < 8) : ∃ k, k < 9 ∧ A 99 i = nI k := ⟨_, (h.1.at (k := 1) (i := i) (by decide) (by exact hi)).2, (h.1.at (k := 1) (i := i) (by decide) (by exact hi)).1⟩
theorem S2 {I A : MI} (h : XRel I A) : I 1 2 = A 97 2 := h.1 2 (by decide) 0 (by decide)
theorem B2 {A : MI} (h : AInv A) : ∃ k, k < 5 ∧ A 97 2 = nI k := ⟨_, (h.1.at (k := 2) (i := 0) (by decide) (by decide)).2, (h.1.at (k := 2) (i := 0) (by decide) (by decide)).1⟩
theorem S3 {I A : MI} (h : XRel I A) : I 1 3 = A 97 3 := h.1 3 (by decide) 0 (by decide)
theorem B3 {A : MI} (h : AInv A) : ∃ k, k < 6 ∧ A 97 3 = nI k := ⟨_, (h.1.at (k := 3) (i := 0) (by decide) (by decide)).2, (h.1.at (k := 3) (i := 0) (by decide) (by decide)).1⟩
theorem S4 {I A : MI} (h : XRel I A) : I 4 1 = A 97 4 := h.1 4 (by decide) 0 (by decide)
theorem B4 {A : MI} (h : AInv A) : ∃ k, k < 17 ∧ A 97 4 = nI k := ⟨_, (h.1.at (k := 4) (i := 0) (by decide) (by decide)).2, (h.1.at (k := 4) (i := 0) (by decide) (by decide)).1⟩
theorem S5 {I A : MI} (h : XRel I A) {i : Nat} (hi : i < 16) : I (mkC i) 0 = A 100 i := h.1 5 (by decide) i (by exact hi)
theorem B5 {A : MI} (h : AInv A) {i : Nat} (hi : i < 16) : ∃ k, k < 6 ∧ A 100 i = nI k := ⟨_, (h.1.at (k := 5) (i := i) (by decide) (by exact hi)).2, (h.1.at (k := 5) (i := i) (by decide) (by exact hi)).1⟩
theorem S6 {I A : MI} (h : XRel I A) {i : Nat} (hi : i < 16) : I (mkC i) 1 = A 101 i := h.1 6 (by decide) i (by exact hi)
theorem B6 {A : MI} (h : AInv A) {i : Nat} (hi : i < 16) : ∃ k, k < 3 ∧ A 101 i = nI k := ⟨_, (h.1.at (k := 6) (i := i) (by decide) (by exact hi)).2, (h.1.at (k := 6) (i := i) (by decide) (by exact hi)).1⟩
theorem S7 {I A : MI} (h : XRel I A) {i : Nat} (hi : i < 16) : I (mkC i) 6 = A 102 i := h.1 7 (by decide) i (by exact hi)
theorem B7 {A : MI} (h : AInv A) {i : Nat} (hi : i < 16) : ∃ k, k < 64 ∧ A 102 i = nI k := ⟨_, (h.1.at (k := 7) (i := i) (by decide) (by exact hi)).2, (h.1.at (k := 7) (i := i) (by decide) (by exact hi)).1⟩
theorem S8 {I A : MI} (h : XRel I A) {i : Nat} (hi : i < 16) : I (mkC i) 2 = A 103 i := h.1 8 (by decide) i (by exact hi)
theorem B8 {A : MI} (h : AInv A) {i : Nat} (hi : i < 16) : ∃ k, k < 100 ∧ A 103 i = nI k := ⟨_, (h.1.at (k := 8) (i := i) (by decide) (by exact hi)).2, (h.1.at (k := 8) (i := i) (by decide) (by exact hi)).1⟩
theorem S9 {I A : MI} (h : XRel I A) {i : Nat} (hi : i < 16) : I (mkC i) 8 = A 104 i := h.1 9 (by decide) i (by exact hi)
theorem B9 {A : MI} (h : AInv A) {i : Nat} (hi : i < 16) : ∃ k, k < 7 ∧ A 104 i = nI k := ⟨_, (h.1.at (k := 9) (i := i) (by decide) (by exact hi)).2, (h.1.at (k := 9) (i := i) (by decide) (by exact hi)).1⟩
theorem S10 {I A : MI} (h : XRel I A) {i : Nat} (hi : i < 16) : I (mkC i) 4 = A 106 i := h.1 10 (by decide) i (by exact hi)
theorem B10 {A : MI} (h : AInv A) {i : Nat} (hi : i < 16) : ∃ k, k < 2 ∧ A 106 i = nI k := ⟨_, (h.1.at (k := 10) (i := i) (by decide) (by exact hi)).2, (h.1.at (k := 10) (i := i) (by decide) (by exact hi)).1⟩
theorem S11 {I A : MI} (h : XRel I A) {i : Nat} (hi : i < 16) : I (mkC i) 5 = A 107 i := h.1 11 (by decide) i (by exact hi)
theorem B11 {A : MI} (h : AInv A) {i : Nat} (hi : i < 16) : ∃ k, k < 2 ∧ A 107 i = nI k := ⟨_, (h.1.at (k := 11) (i := i) (by decide) (by exact hi)).2, (h.1.at (k := 11) (i := i) (by decide) (by exact hi)).1⟩
theorem S12 {I A : MI} (h : XRel I A) {m i : Nat} (hm : m < 16) (hi : i < 6) : I (mkS m) i = A 105 (6 * m + i) := by
  have h1 := h.1 12 (by decide) (6 * m + i) (by show 6 * m + i < 96; omega)
  have h2 : I (7 + 2 * ((6 * m + i) / 6)) ((6 * m + i) % 6) = A 105 (6 * m + i) := h1
  rwa [show (6 * m + i) / 6 = m by omega, show (6 * m + i) % 6 = i by omega] at h2
theorem B12 {A : MI} (h : AInv A) {i : Nat} (hi : i < 96) : ∃ k, k < 64 ∧ A 105 i = nI k := ⟨_, (h.1.at (k := 12) (i := i) (by decide) (by exact hi)).2, (h.1.at (k := 12) (i := i) (by decide) (by exact hi)).1⟩
theorem S13 {I A : MI} (h : XRel I A) : I 38 1 = A 97 15 := h.1 13 (by decide) 0 (by decide)
theorem B13 {A : MI} (h : AInv A) : ∃ k, k < 7 ∧ A 97 15 = nI k := ⟨_, (h.1.at (k := 13) (i := 0) (by decide) (by decide)).2, (h.1.at (k := 13) (i := 0) (by decide) (by decide)).1⟩
theorem S14 {I A : MI} (h : XRel I A) : I 38 2 = A 97 14 := h.1 14 (by decide) 0 (by decide)
theorem B14 {A : MI} (h : AInv A) : ∃ k, k < 161 ∧ A 97 14 = nI k := ⟨_, (h.1.at (k := 14) (i := 0) (by decide) (by decide)).2, (h.1.at (k := 14) (i := 0) (by decide) (by decide)).1⟩
theorem S15 {I A : MI} (h : XRel I A) {i : Nat} (hi : i < 3) : I 39 i = A 109 i := h.1 15 (by decide) i (by exact hi)
theorem B15 {A : MI} (h : AInv A) {i : Nat} (hi : i < 3) : ∃ k, k < 6 ∧ A 109 i = nI k := ⟨_, (h.1.at (k := 15) (i := i) (by decide) (by exact hi)).2, (h.1.at (k := 15) (i := i) (by decide) (by exact hi)).1⟩
theorem S16 {I A : MI} (h : XRel I A) : I 60 0 = A 97 37 := h.1 16 (by decide) 0 (by decide)
theorem B16 {A : MI} (h : AInv A) : ∃ k, k < 13 ∧ A 97 37 = nI k := ⟨_, (h.1.at (k := 16) (i := 0) (by decide) (by decide)).2, (h.1.at (k := 16) (i := 0) (by decide) (by decide)).1⟩
theorem S17 {I A : MI} (h : XRel I A) : I 60 1 = A 97 38 := h.1 17 (by decide) 0 (by decide)
theorem B17 {A : MI} (h : AInv A) : ∃ k, k < 25 ∧ A 97 38 = nI k := ⟨_, (h.1.at (k := 17) (i := 0) (by decide) (by decide)).2, (h.1.at (k := 17) (i := 0) (by decide) (by decide)).1⟩
theorem S18 {I A : MI} (h : XRel I A) : I 60 2 = A 97 39 := h.1 18 (by decide) 0 (by decide)
theorem B18 {A : MI} (h : AInv A) : ∃ k, k < 11 ∧ A 97 39 = nI k := ⟨_, (h.1.at (k := 18) (i := 0) (by decide) (by decide)).2, (h.1.at (k := 18) (i := 0) (by decide) (by decide)).1⟩
theorem S19 {I A : MI} (h : XRel I A) {i : Nat} (hi : i < 12) : I 61 i = A 121 i := h.1 19 (by decide) i (by exact hi)
theorem B19 {A : MI} (h : AInv A) {i : Nat} (hi : i < 12) : ∃ k, k < 4 ∧ A 121 i = nI k := ⟨_, (h.1.at (k := 19) (i := i) (by decide) (by exact hi)).2, (h.1.at (k := 19) (i := i) (by decide) (by exact hi)).1⟩
theorem S20 {I A : MI} (h : XRel I A) {i : Nat} (hi : i < 12) : I 62 i = A 122 i := h.1 20 (by decide) i (by exact hi)
theorem B20 {A : MI} (h : AInv A) {i : Nat} (hi : i < 12) : ∃ k, k < 64 ∧ A 122 i = nI k := ⟨_, (h.1.at (k := 20) (i := i) (by decide) (by exact hi)).2, (h.1.at (k := 20) (i := i) (by decide) (by exact hi)).1⟩
theorem S21 {I A : MI} (h : XRel I A) {i : Nat} (hi : i < 12) : I 63 i = A 123 i := h.1 21 (by decide) i (by exact hi)
theorem B21 {A : MI} (h : AInv A) {i : Nat} (hi : i < 12) : ∃ k, k < 1000 ∧ A 123 i = nI k := ⟨_, (h.1.at (k := 21) (i := i) (by decide) (by exact hi)).2, (h.1.at (k := 21) (i := i) (by decide) (by exact hi)).1⟩
theorem S22 {I A : MI} (h : XRel I A) {i : Nat} (hi : i < 24) : I 64 i = A 124 i := h.1 22 (by decide) i (by exact hi)
theorem B22 {A : MI} (h : AInv A) {i : Nat} (hi : i < 24) : ∃ k, k < 16 ∧ A 124 i = nI k := ⟨_, (h.1.at (k := 22) (i := i) (by decide) (by exact hi)).2, (h.1.at (k := 22) (i := i) (by decide) (by exact hi)).1⟩
theorem S23 {I A : MI} (h : XRel I A) {i : Nat} (hi : i < 24) : I 65 i = A 125 i := h.1 23 (by decide) i (by exact hi)
theorem B23 {A : MI} (h : AInv A) {i : Nat} (hi : i < 24) : ∃ k, k < 1000 ∧ A 125 i = nI k := ⟨_, (h.1.at (k := 23) (i := i) (by decide) (by exact hi)).2, (h.1.at (k := 23) (i := i) (by decide) (by exact hi)).1⟩
theorem S24 {I A : MI} (h : XRel I A) {i : Nat} (hi : i < 24) : I 66 i = A 126 i := h.1 24 (by decide) i (by exact hi)
theorem B24 {A : MI} (h : AInv A) {i : Nat} (hi : i < 24) : ∃ k, k < 2 ∧ A 126 i = nI k := ⟨_, (h.1.at (k := 24) (i := i) (by decide) (by exact hi)).2, (h.1.at (k := 24) (i := i) (by decide) (by exact hi)).1⟩
theorem S25 {I A : MI} (h : XRel I A) {i : Nat} (hi : i < 24) : I 67 i = A 127 i := h.1 25 (by decide) i (by exact hi)
theorem B25 {A : MI} (h : AInv A) {i : Nat} (hi : i < 24) : ∃ k, k < 2 ∧ A 127 i = nI k := ⟨_, (h.1.at (k := 25) (i := i) (by decide) (by exact hi)).2, (h.1.at (k := 25) (i := i) (by decide) (by exact hi)).1⟩
theorem S26 {I A : MI} (h : XRel I A) {i : Nat} (hi : i < 10) : I 68 i = A 128 i := h.1 26 (by decide) i (by exact hi)
theorem B26 {A : MI} (h : AInv A) {i : Nat} (hi : i < 10) : ∃ k, k < 12 ∧ A 128 i = nI k := ⟨_, (h.1.at (k := 26) (i := i) (by decide) (by exact hi)).2, (h.1.at (k := 26) (i := i) (by decide) (by exact hi)).1⟩
theorem S27 {I A : MI} (h : XRel I A) {i : Nat} (hi : i < 10) : I 69 i = A 129 i := h.1 27 (by decide) i (by exact hi)
theorem B27 {A : MI} (h : AInv A) {i : Nat} (hi : i < 10) : ∃ k, k < 16777216 ∧ A 129 i = nI k := ⟨_, (h.1.at (k := 27) (i := i) (by decide) (by exact hi)).2, (h.1.at (k := 27) (i := i) (by decide) (by exact hi)).1⟩
theorem S28 {I A : MI} (h : XRel I A) {i : Nat} (hi : i < 10) : I 70 i = A 130 i := h.1 28 (by decide) i (by exact hi)
theorem B28 {A : MI} (h : AInv A) {i : Nat} (hi : i < 10) : ∃ k, k < 1024 ∧ A 130 i = nI k := ⟨_, (h.1.at (k := 28) (i := i) (by decide) (by exact hi)).2, (h.1.at (k := 28) (i := i) (by decide) (by exact hi)).1⟩
theorem S29 {I A : MI} (h : XRel I A) : I 72 0 = A 97 51 := h.1 29 (by decide) 0 (by decide)
theorem B29 {A : MI} (h : AInv A) : ∃ k, k < 11 ∧ A 97 51 = nI k := ⟨_, (h.1.at (k := 29) (i := 0) (by decide) (by decide)).2, (h.1.at (k := 29) (i := 0) (by decide) (by decide)).1⟩
theorem S30 {I A : MI} (h : XRel I A) {i : Nat} (hi : i < 10) : I 73 i = A 132 i := h.1 30 (by decide) i (by exact hi)
theorem B30 {A : MI} (h : AInv A) {i : Nat} (hi : i < 10) : ∃ k, k < 64 ∧ A 132 i = nI k := ⟨_, (h.1.at (k := 30) (i := i) (by decide) (by exact hi)).2, (h.1.at (k := 30) (i := i) (by decide) (by exact hi)).1⟩
theorem S31 {I A : MI} (h : XRel I A) : I 77 0 = A 97 31 := h.1 31 (by decide) 0 (by decide)
theorem B31 {A : MI} (h : AInv A) : ∃ k, k < 13 ∧ A 97 31 = nI k := ⟨_, (h.1.at (k := 31) (i := 0) (by decide) (by decide)).2, (h.1.at (k := 31) (i := 0) (by decide) (by decide)).1⟩
theorem S32 {I A : MI} (h : XRel I A) {i : Nat} (hi : i < 12) : I 80 i = A 116 i := h.1 32 (by decide) i (by exact hi)
theorem B32 {A : MI} (h : AInv A) {i : Nat} (hi : i < 12) : ∃ k, k < 100 ∧ A 116 i = nI k := ⟨_, (h.1.at (k := 32) (i := i) (by decide) (by exact hi)).2, (h.1.at (k := 32) (i := i) (by decide) (by exact hi)).1⟩
theorem S33 {I A : MI} (h : XRel I A) {i : Nat} (hi : i < 12) : I 81 i = A 117 i := h.1 33 (by decide) i (by exact hi)
theorem B33 {A : MI} (h : AInv A) {i : Nat} (hi : i < 12) : ∃ k, k < 8 ∧ A 117 i = nI k := ⟨_, (h.1.at (k := 33) (i := i) (by decide) (by exact hi)).2, (h.1.at (k := 33) (i := i) (by decide) (by exact hi)).1⟩
theorem S34 {I A : MI} (h : XRel I A) {i : Nat} (hi : i < 12) : I 82 i = A 118 i := h.1 34 (by decide) i (by exact hi)
theorem B34 {A : MI} (h : AInv A) {i : Nat} (hi : i < 12) : ∃ k, k < 8 ∧ A 118 i = nI k := ⟨_, (h.1.at (k := 34) (i := i) (by decide) (by exact hi)).2, (h.1.at (k := 34) (i := i) (by decide) (by exact hi)).1⟩
theorem S35 {I A : MI} (h : XRel I A) {i : Nat} (hi : i < 12) : I 83 i = A 119 i := h.1 35 (by decide) i (by exact hi)
theorem B35 {A : MI} (h : AInv A) {i : Nat} (hi : i < 12) : ∃ k, k < 1000 ∧ A 119 i = nI k := ⟨_, (h.1.at (k := 35) (i := i) (by decide) (by exact hi)).2, (h.1.at (k := 35) (i := i) (by decide) (by exact hi)).1⟩
theorem S36 {I A : MI} (h : XRel I A) {i : Nat} (hi : i < 12) : I 84 i = A 120 i := h.1 36 (by decide) i (by exact hi)
theorem B36 {A : MI} (h : AInv A) {i : Nat} (hi : i < 12) : ∃ k, k < 1000 ∧ A 120 i = nI k := ⟨_, (h.1.at (k := 36) (i := i) (by decide) (by exact hi)).2, (h.1.at (k := 36) (i := i) (by decide) (by exact hi)).1⟩
theorem S37 {I A : MI} (h : XRel I A) : I 77 1 = A 97 57 := h.1 37 (by decide) 0 (by decide)
theorem B37 {A : MI} (h : AInv A) : ∃ k, k < 21 ∧ A 97 57 = nI k := ⟨_, (h.1.at (k := 37) (i := 0) (by decide) (by decide)).2, (h.1.at (k := 37) (i := 0) (by decide) (by decide)).1⟩
theorem S38 {I A : MI} (h : XRel I A) {i : Nat} (hi : i < 20) : I 85 i = A 136 i := h.1 38 (by decide) i (by exact hi)
theorem B38 {A : MI} (h : AInv A) {i : Nat} (hi : i < 20) : ∃ k, k < 2 ∧ A 136 i = nI k := ⟨_, (h.1.at (k := 38) (i := i) (by decide) (by exact hi)).2, (h.1.at (k := 38) (i := i) (by decide) (by exact hi)).1⟩
theorem S39 {I A : MI} (h : XRel I A) {i : Nat} (hi : i < 20) : I 78 i = A 137 i := h.1 39 (by decide) i (by exact hi)
theorem B39 {A : MI} (h : AInv A) {i : Nat} (hi : i < 20) : ∃ k, k < 1000 ∧ A 137 i = nI k := ⟨_, (h.1.at (k := 39) (i := i) (by decide) (by exact hi)).2, (h.1.at (k := 39) (i := i) (by decide) (by exact hi)).1⟩
theorem S40 {I A : MI} (h : XRel I A) {i : Nat} (hi : i < 20) : I 86 i = A 138 i := h.1 40 (by decide) i (by exact hi)
theorem B40 {A : MI} (h : AInv A) {i : Nat} (hi : i < 20) : ∃ k, k < 1000 ∧ A 138 i = nI k := ⟨_, (h.1.at (k := 40) (i := i) (by decide) (by exact hi)).2, (h.1.at (k := 40) (i := i) (by decide) (by exact hi)).1⟩
theorem S41 {I A : MI} (h : XRel I A) {i : Nat} (hi : i < 20) : I 87 i = A 139 i := h.1 41 (by decide) i (by exact hi)
theorem B41 {A : MI} (h : AInv A) {i : Nat} (hi : i < 20) : (∃ k, k < 1000 ∧ A 139 i = nI k) ∨ A 139 i = -1 := by
  rcases h.1 41 (by decide) i (by exact hi) with q | ⟨-, q⟩ | q
  · exact Or.inl ⟨_, q.2, q.1⟩
  · exact Or.inr q
  · omega
theorem S42 {I A : MI} (h : XRel I A) {i : Nat} (hi : i < 4) : I (shC i) 0 = A 141 i := h.1 42 (by decide) i (by exact hi)
theorem B42 {A : MI} (h : AInv A) {i : Nat} (hi : i < 4) : (∃ k, k < 3 ∧ A 141 i = nI k) ∨ A 141 i = -1 := by
  rcases h.1 42 (by decide) i (by exact hi) with q | ⟨-, q⟩ | q
  · exact Or.inl ⟨_, q.2, q.1⟩
  · exact Or.inr q
  · omega
theorem S43 {I A : MI} (h : XRel I A) {i : Nat} (hi : i < 4) : I (shC i) 2 = A 142 i := h.1 43 (by decide) i (by exact hi)
theorem B43 {A : MI} (h : AInv A) {i : Nat} (hi : i < 4) : ∃ k, k < 41 ∧ A 142 i = nI k := ⟨_, (h.1.at (k := 43) (i := i) (by decide) (by exact hi)).2, (h.1.at (k := 43) (i := i) (by decide) (by exact hi)).1⟩
theorem S44 {I A : MI} (h : XRel I A) {m i : Nat} (hm : m < 4) (hi : i < 40) : I (itC m) i = A 143 (40 * m + i) := by
  have h1 := h.1 44 (by decide) (40 * m + i) (by show 40 * m + i < 160; omega)
  have h2 : I (90 + 2 * ((40 * m + i) / 40)) ((40 * m + i) % 40) = A 143 (40 * m + i) := h1
  rwa [show (40 * m + i) / 40 = m by omega, show (40 * m + i) % 40 = i by omega] at h2
theorem S45 {I A : MI} (h : XRel I A) {m : Nat} (hm : m < 16) : I (mkC m) 3 = earF (A 100 m) := h.2.1 m hm
theorem rR_mk (c : Nat) {m : Nat} (h : m < 16) : rR c 5 m = some (mkC m) := rR_row c h
theorem rR_st (c : Nat) {m : Nat} (h : m < 16) : rR c (mkC m) 7 = some (mkS m) := by
  unfold mkC mkS
  rw [rR_steps c h]
  congr 1
  omega
theorem rR_cd (c : Nat) {m : Nat} (h : m < 12) : rR c 41 m = some (cdC m) := rR_codes c h
theorem rR_co (c : Nat) : rR c 55 7 = some (cdC c) := rR_code c
theorem rR_sh (c : Nat) {m : Nat} (h : m < 4) : rR c 88 m = some (shC m) := rR_sheets c h
theorem rR_it (c : Nat) {m : Nat} (h : m < 4) : rR c (shC m) 1 = some (itC m) := by
  unfold shC itC
  rw [rR_items c h]
  congr 1
  omega
theorem kK_mk {m : Nat} (h : m < 16) : kK (mkC m) = (10, 2) := kK_mark m h
theorem kK_st {m : Nat} (h : m < 16) : kK (mkS m) = (0, 6) := kK_steps m h
theorem kK_cd {m : Nat} (h : m < 12) : kK (cdC m) = (0, 161) := kK_code m h
theorem kK_sh {m : Nat} (h : m < 4) : kK (shC m) = (10, 7) := kK_sheet m h
theorem kK_it {m : Nat} (h : m < 4) : kK (itC m) = (0, 40) := kK_items m h
theorem lt_mk {m : Nat} (h : m < 16) : (mkC m < 145) = True := eq_true (by unfold mkC; omega)
theorem lt_st {m : Nat} (h : m < 16) : (mkS m < 145) = True := eq_true (by unfold mkS; omega)
theorem lt_sh {m : Nat} (h : m < 4) : (shC m < 145) = True := eq_true (by unfold shC; omega)
theorem lt_it {m : Nat} (h : m < 4) : (itC m < 145) = True := eq_true (by unfold itC; omega)
theorem lt_cd {m : Nat} (h : m < 12) : (cdC m < 145) = True := eq_true (by unfold cdC; omega)
theorem clF_lt {A : MI} (h : AInv A) {m : Nat} (hm : m < 16) (hr : Nat) : clF A m hr < 64 := by
  unfold clF
  obtain ⟨n, hn, en⟩ := B9 h hm
  rw [en, nn_nI (by omega)]
  split
  · obtain ⟨k, hk, ek⟩ := B7 h hm
    rw [ek, nn_nI (by omega)]
    exact hk
  · have := Nat.mod_lt hr (show 0 < n by omega)
    obtain ⟨k, hk, ek⟩ := B12 h (i := 6 * m + hr % n) (by omega)
    rw [ek, nn_nI (by omega)]
    exact hk
