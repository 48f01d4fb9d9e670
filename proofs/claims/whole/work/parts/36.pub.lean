/-! what each call answers, and what it leaves; the lists' longs stand in l -/
def mkA (A : MI) (k s c n : Int32) : MI := u2 (u2 (u2 (u2 (u2 A 100 (nn (A 97 4)) k) 101 (nn (A 97 4)) s) 102 (nn (A 97 4)) c) 103 (nn (A 97 4)) n) 97 4 (A 97 4 + 1)
def shA (A : MI) (s : Nat) (t n : Int32) : MI := fun a j => if a = 141 ∧ j = s then t else if a = 142 ∧ j = s then n else if a = 143 ∧ 40 * s ≤ j ∧ j < 40 * s + 40 then 0 else A a j
def rnP (A : MI) (s : Nat) (i n : Int32) : Prop := 0 ≤ i ∧ (0 ≤ n ∧ n ≤ A 142 s) ∧ i ≤ A 142 s - n
def cpA (A : MI) (i j n : Nat) : MI := fun a k => if a = 143 ∧ j ≤ k ∧ k < j + n then A 143 (i + (k - j)) else A a k
/-- heights told so far: the answer if it ends here, whether it goes on, what stands then -/
def hgF (A : MI) (r s : Nat) (b : Int32) : Nat → Int32 × Bool × MI
  | 0 => (0, true, A)
  | k + 1 => if (hgF A r s b k).2.1 = true then (if 0 ≤ b + nI k ∧ b + nI k ≤ A 142 s - 1 then (if 0 ≤ A 143 (40 * s + nn (b + nI k)) ∧ A 143 (40 * s + nn (b + nI k)) ≤ 9 then ((hgF A r s b k).1 + 1, true, u2 (hgF A r s b k).2.2 98 (8 * r + k) (A 143 (40 * s + nn (b + nI k)))) else hgF A r s b k) else (-12, false, (hgF A r s b k).2.2)) else hgF A r s b k

noncomputable def f108 (A : MI) (c n : Int32) : Int32 := by classical exact if (0 ≤ c ∧ c ≤ 63) ∧ (0 ≤ n ∧ n ≤ 9) then A 98 (nn c) else -2
noncomputable def g108 (A : MI) (c n : Int32) : MI := by classical exact if (0 ≤ c ∧ c ≤ 63) ∧ (0 ≤ n ∧ n ≤ 9) then u2 A 98 (nn c) n else A
noncomputable def f109 (A : MI) (r n : Int32) : Int32 := by classical exact if (0 ≤ r ∧ r ≤ 7) ∧ (0 ≤ n ∧ n ≤ 8) then A 99 (nn r) else -2
noncomputable def g109 (A : MI) (r n : Int32) : MI := by classical exact if (0 ≤ r ∧ r ≤ 7) ∧ (0 ≤ n ∧ n ≤ 8) then u2 A 99 (nn r) n else A
noncomputable def f110 (A : MI) (w n : Int32) : Int32 := by classical exact if w = 0 ∧ (0 ≤ n ∧ n ≤ 4) then A 97 2 else if w = 1 ∧ (0 ≤ n ∧ n ≤ 5) then A 97 3 else -2
noncomputable def g110 (A : MI) (w n : Int32) : MI := by classical exact if w = 0 ∧ (0 ≤ n ∧ n ≤ 4) then u2 A 97 2 n else if w = 1 ∧ (0 ≤ n ∧ n ≤ 5) then u2 A 97 3 n else A
noncomputable def f111 (A : MI) (c w : Int32) : Int32 := by classical exact if (0 ≤ c ∧ c ≤ 63) then (if w = 0 then A 98 (nn c) else if w = 1 then sdF A (nn c) else if w = 2 then frF A (nn c) else if w = 3 then bi (frF A (nn c) < A 97 2) else -2) else -2
noncomputable def f112 (A : MI) (k s c n : Int32) : Int32 := by classical exact if (0 ≤ k ∧ k ≤ 5) ∧ (0 ≤ s ∧ s ≤ 2) ∧ (0 ≤ c ∧ c ≤ 63) ∧ (0 ≤ n ∧ n ≤ 99) then (if A 97 4 < 16 then A 97 4 else -4) else -2
noncomputable def g112 (A : MI) (k s c n : Int32) : MI := by classical exact if (0 ≤ k ∧ k ≤ 5) ∧ (0 ≤ s ∧ s ≤ 2) ∧ (0 ≤ c ∧ c ≤ 63) ∧ (0 ≤ n ∧ n ≤ 99) then (if A 97 4 < 16 then mkA A k s c n else A) else A
noncomputable def f113 (A : MI) (m c : Int32) : Int32 := by classical exact if (0 ≤ m ∧ m ≤ A 97 4 - 1) ∧ (0 ≤ c ∧ c ≤ 63) then (if unF (nn (A 100 (nn m))) 3 = true then (if A 104 (nn m) < 6 then A 104 (nn m) + 1 else -4) else -13) else -2
noncomputable def g113 (A : MI) (m c : Int32) : MI := by classical exact if (0 ≤ m ∧ m ≤ A 97 4 - 1) ∧ (0 ≤ c ∧ c ≤ 63) then (if unF (nn (A 100 (nn m))) 3 = true then (if A 104 (nn m) < 6 then u2 (u2 A 104 (nn m) (A 104 (nn m) + 1)) 105 (6 * nn m + nn (A 104 (nn m))) c else A) else A) else A
noncomputable def f114 (A : MI) (m y : Int32) : Int32 := by classical exact if (0 ≤ m ∧ m ≤ A 97 4 - 1) ∧ (y = 0 ∨ y = 1) then A 106 (nn m) else -2
noncomputable def g114 (A : MI) (m y : Int32) : MI := by classical exact if (0 ≤ m ∧ m ≤ A 97 4 - 1) ∧ (y = 0 ∨ y = 1) then u2 A 106 (nn m) y else A
noncomputable def f115 (A : MI) (m w : Int32) : Int32 := by classical exact if (0 ≤ m ∧ m ≤ A 97 4 - 1) then (if w = 0 then A 100 (nn m) else if w = 1 then A 101 (nn m) else if w = 2 then A 103 (nn m) else if w = 3 then A 106 (nn m) else if w = 4 then earF (A 100 (nn m)) else if w = 5 then A 107 (nn m) else -2) else -2
noncomputable def f116 (A : MI) (m h : Int32) : Int32 := by classical exact if (0 ≤ m ∧ m ≤ A 97 4 - 1) ∧ (0 ≤ h ∧ h ≤ 999) then nI (clF A (nn m) (nn h)) else -2
noncomputable def f117 (A : MI) (m h : Int32) : Int32 := by classical exact if (0 ≤ m ∧ m ≤ A 97 4 - 1) ∧ (0 ≤ h ∧ h ≤ 999) then nI (sgF A (nn (A 100 (nn m))) (clF A (nn m) (nn h)) (nn h)) else -2
noncomputable def f118 (A : MI) (m h : Int32) : Int64 := by classical exact if (0 ≤ m ∧ m ≤ A 97 4 - 1) ∧ (0 ≤ h ∧ h ≤ 999) then sbF A (nn m) (nn h) else -4611686018427387904
noncomputable def f119 (A : MI) (s h : Int32) : Int64 := by classical exact if (0 ≤ s ∧ s ≤ 2) ∧ (0 ≤ h ∧ h ≤ 999) then vwF A (nn s) (nn h) (nn (A 97 4)) else -4611686018427387904
noncomputable def f122 (A : MI) (w t : Int32) : Int32 := by classical exact if (0 ≤ w ∧ w ≤ 2) ∧ (0 ≤ t ∧ t ≤ A 97 15 - 1) then A 109 (nn w) else -2
noncomputable def g122 (A : MI) (w t : Int32) : MI := by classical exact if (0 ≤ w ∧ w ≤ 2) ∧ (0 ≤ t ∧ t ≤ A 97 15 - 1) then u2 A 109 (nn w) t else A
noncomputable def f123 (A : MI) (m h q e : Int32) : Int64 := by classical exact if (0 ≤ m ∧ m ≤ A 97 4 - 1) ∧ (0 ≤ h ∧ h ≤ 999) ∧ (0 ≤ q ∧ q ≤ 1) ∧ (0 ≤ e ∧ e ≤ 99) then (vlF A (nn m) (nn h) (nn q) e).toInt64 else -4611686018427387904
noncomputable def f124 (A : MI) (s h : Int32) : Int32 := by classical exact if (-1 ≤ s ∧ s ≤ 2) ∧ (0 ≤ h ∧ h ≤ 999) then (if s = -1 then btI (brB A (nn h)) (nn (A 97 4)) else btI (kbB A (nn s) (nn h) (nn (A 97 4))) (nn (A 97 4))) else -2
noncomputable def f125 (A : MI) (h : Int32) : Int32 := by classical exact if (0 ≤ h ∧ h ≤ 999) then btI (asB A (nn h)) (nn (A 97 4)) else -2
noncomputable def f126 (A : MI) (p f t s u : Int32) : Int32 := by classical exact if (0 ≤ p ∧ p ≤ 99) ∧ (0 ≤ f ∧ f ≤ 7) ∧ (f ≤ t ∧ t ≤ 7) ∧ (0 ≤ s ∧ s ≤ 999) ∧ (0 ≤ u ∧ u ≤ 999) ∧ s < u then (if A 97 31 < 12 then A 97 31 else -4) else -2
noncomputable def g126 (A : MI) (p f t s u : Int32) : MI := by classical exact if (0 ≤ p ∧ p ≤ 99) ∧ (0 ≤ f ∧ f ≤ 7) ∧ (f ≤ t ∧ t ≤ 7) ∧ (0 ≤ s ∧ s ≤ 999) ∧ (0 ≤ u ∧ u ≤ 999) ∧ s < u then (if A 97 31 < 12 then u2 (u2 (u2 (u2 (u2 (u2 A 116 (nn (A 97 31)) p) 117 (nn (A 97 31)) f) 118 (nn (A 97 31)) t) 119 (nn (A 97 31)) s) 120 (nn (A 97 31)) u) 97 31 (A 97 31 + 1) else A) else A
noncomputable def f127 (A : MI) (p c h : Int32) : Int32 := by classical exact if (0 ≤ p ∧ p ≤ 99) ∧ (0 ≤ c ∧ c ≤ 63) ∧ (0 ≤ h ∧ h ≤ 999) then fstI (pmB A p (nI (nn c / 8)) h) (nn (A 97 31)) else -2
noncomputable def f128 (A : MI) (s c h : Int32) : Int32 := by classical exact if (0 ≤ s ∧ s ≤ 3) ∧ (0 ≤ c ∧ c ≤ 63) ∧ (0 ≤ h ∧ h ≤ 999) then (if A 97 37 < 12 then A 97 37 else -4) else -2
noncomputable def g128 (A : MI) (s c h : Int32) : MI := by classical exact if (0 ≤ s ∧ s ≤ 3) ∧ (0 ≤ c ∧ c ≤ 63) ∧ (0 ≤ h ∧ h ≤ 999) then (if A 97 37 < 12 then u2 (u2 (u2 (u2 A 121 (nn (A 97 37)) s) 122 (nn (A 97 37)) c) 123 (nn (A 97 37)) h) 97 37 (A 97 37 + 1) else A) else A
noncomputable def f129 (A : MI) (m h w y : Int32) : Int32 := by classical exact if (0 ≤ m ∧ m ≤ A 97 4 - 1) ∧ (0 ≤ h ∧ h ≤ 999) ∧ (w = 0 ∨ w = 1) ∧ (y = 0 ∨ y = 1) then (if A 97 38 < 24 then A 97 38 else -4) else -2
noncomputable def g129 (A : MI) (m h w y : Int32) : MI := by classical exact if (0 ≤ m ∧ m ≤ A 97 4 - 1) ∧ (0 ≤ h ∧ h ≤ 999) ∧ (w = 0 ∨ w = 1) ∧ (y = 0 ∨ y = 1) then (if A 97 38 < 24 then u2 (u2 (u2 (u2 (u2 A 124 (nn (A 97 38)) m) 125 (nn (A 97 38)) h) 126 (nn (A 97 38)) w) 127 (nn (A 97 38)) y) 97 38 (A 97 38 + 1) else A) else A
noncomputable def f130 (A : MI) (r : Int32) : Int32 := by classical exact if (0 ≤ r ∧ r ≤ A 97 38 - 1) then (if A 131 (nn r) = 0 then nI (ctN (fun k => decide (u2 A 131 (nn r) 1 131 k = 0)) (nn (A 97 38))) else -3) else -2
noncomputable def g130 (A : MI) (r : Int32) : MI := by classical exact if (0 ≤ r ∧ r ≤ A 97 38 - 1) then (if A 131 (nn r) = 0 then u2 A 131 (nn r) 1 else A) else A
noncomputable def f131 (A : MI) (r k : Int32) : Int32 := by classical exact if (0 ≤ r ∧ r ≤ A 97 38 - 1) ∧ (0 ≤ k ∧ k ≤ A 97 37 - 1) then bi (ltB A (nn k) (nn r) = true) else -2
noncomputable def f132 (A : MI) : Int32 := by classical exact lfF A
noncomputable def f133 (A : MI) (m h w : Int32) : Int32 := by classical exact if (0 ≤ m ∧ m ≤ A 97 4 - 1) ∧ A 106 (nn m) = 0 ∧ (0 ≤ h ∧ h ≤ 999) ∧ (w = 0 ∨ w = 1) then wsF A (nn m) (nn h) w (lfF A) else -2
noncomputable def f134 (A : MI) (h : Int32) : Int32 := by classical exact if (0 ≤ h ∧ h ≤ 999) then (lkF A (nn h) (lfF A) (2 * nn (A 97 4))).1 else -2
noncomputable def f135 (A : MI) (k x y : Int32) : Int32 := by classical exact if (0 ≤ k ∧ k ≤ A 97 37 - 1) ∧ (0 ≤ x ∧ x < 1 <<< (A 97 38 &&& 31)) ∧ (0 ≤ y ∧ y < 1 <<< (A 97 39 &&& 31)) then (if A 97 39 < 10 then A 97 39 else -4) else -2
noncomputable def g135 (A : MI) (k x y : Int32) : MI := by classical exact if (0 ≤ k ∧ k ≤ A 97 37 - 1) ∧ (0 ≤ x ∧ x < 1 <<< (A 97 38 &&& 31)) ∧ (0 ≤ y ∧ y < 1 <<< (A 97 39 &&& 31)) then (if A 97 39 < 10 then u2 (u2 (u2 (u2 A 128 (nn (A 97 39)) k) 129 (nn (A 97 39)) x) 130 (nn (A 97 39)) y) 97 39 (A 97 39 + 1) else A) else A
noncomputable def f136 (A : MI) : Int32 := by classical exact sdgF A (nn (A 97 39))
noncomputable def f137 (A : MI) (m y : Int32) : Int32 := by classical exact if (0 ≤ m ∧ m ≤ A 97 4 - 1) ∧ (y = 0 ∨ y = 1) then A 107 (nn m) else -2
noncomputable def g137 (A : MI) (m y : Int32) : MI := by classical exact if (0 ≤ m ∧ m ≤ A 97 4 - 1) ∧ (y = 0 ∨ y = 1) then u2 A 107 (nn m) y else A
noncomputable def f138 (A : MI) (m h n : Int32) : Int32 := by classical exact if (0 ≤ m ∧ m ≤ A 97 4 - 1 ∧ (A 101 (nn m) = 0 ∨ A 101 (nn m) = 1)) ∧ (0 ≤ h ∧ h ≤ 999) ∧ (0 ≤ n ∧ n ≤ 24) then shF A (nn m) (nn h) (btI (heB A) (nn (A 97 4))) (nn n) else -2
noncomputable def f139 (A : MI) (m h t n : Int32) : Int32 := by classical exact if (0 ≤ m ∧ m ≤ A 97 4 - 1 ∧ (A 101 (nn m) = 0 ∨ A 101 (nn m) = 1)) ∧ (0 ≤ h ∧ h ≤ 999) ∧ (0 ≤ t ∧ t < 1 <<< (A 97 4 &&& 31)) ∧ pcI t ≤ 6 ∧ (1 ≤ n ∧ n ≤ 24) then cmF A (nn m) (nn h) (nn n) (nn t) (nn t + 1) else -2
noncomputable def f140 (A : MI) (c : Int32) : Int32 := by classical exact if (0 ≤ c ∧ c ≤ 63) then (if A 97 51 < 10 then A 97 51 + 1 else -4) else -2
noncomputable def g140 (A : MI) (c : Int32) : MI := by classical exact if (0 ≤ c ∧ c ≤ 63) then (if A 97 51 < 10 then u2 (u2 A 97 51 (A 97 51 + 1)) 132 (nn (A 97 51)) c else A) else A
noncomputable def f141 (A : MI) (n h w : Int32) : Int32 := by classical exact if (0 ≤ n ∧ n ≤ 10) ∧ (0 ≤ h ∧ h ≤ 999) ∧ (w = 0 ∨ w = 1) then (if A 97 51 < n then -1 else if w = 0 then cbF A (nn h) n (2 ^ nn (A 97 51)) else cvN A (nn h) (cbF A (nn h) n (2 ^ nn (A 97 51)))) else -2
noncomputable def f142 (A : MI) (x p i : Int32) : Int32 := by classical exact if cdB A x ∧ (0 ≤ p ∧ p ≤ 9999) then dbF A x p i else -2
noncomputable def f143 (A : MI) (s : Int32) : Int32 := by classical exact if (0 ≤ s ∧ s ≤ 2) then stF A s (nn (A 97 4)) else -2
noncomputable def f144 (A : MI) (s h a : Int32) : Int32 := by classical exact if (s = 0 ∨ s = 1) ∧ (0 ≤ h ∧ h ≤ 999) ∧ (0 ≤ a ∧ a ≤ h) then (if A 97 57 < 20 then A 97 57 else -4) else -2
noncomputable def g144 (A : MI) (s h a : Int32) : MI := by classical exact if (s = 0 ∨ s = 1) ∧ (0 ≤ h ∧ h ≤ 999) ∧ (0 ≤ a ∧ a ≤ h) then (if A 97 57 < 20 then u2 (u2 (u2 (u2 (u2 A 136 (nn (A 97 57)) s) 137 (nn (A 97 57)) h) 138 (nn (A 97 57)) a) 139 (nn (A 97 57)) (-1)) 97 57 (A 97 57 + 1) else A) else A
noncomputable def f145 (A : MI) (p h : Int32) : Int32 := by classical exact if (0 ≤ p ∧ p ≤ A 97 57 - 1) ∧ (0 ≤ h ∧ h ≤ 999) ∧ A 137 (nn p) ≤ h then (if A 139 (nn p) = -1 then h - A 137 (nn p) else -3) else -2
noncomputable def g145 (A : MI) (p h : Int32) : MI := by classical exact if (0 ≤ p ∧ p ≤ A 97 57 - 1) ∧ (0 ≤ h ∧ h ≤ 999) ∧ A 137 (nn p) ≤ h then (if A 139 (nn p) = -1 then u2 A 139 (nn p) h else A) else A
noncomputable def f146 (A : MI) (h : Int32) : Int32 := by classical exact if (0 ≤ h ∧ h ≤ 999) then btI (lpB A (nn h)) (nn (A 97 57)) else -2
noncomputable def f147 (A : MI) (p : Int32) : Int32 := by classical exact if (0 ≤ p ∧ p ≤ A 97 57 - 1) then fstI (bmB A (nn p)) (nn (A 97 57)) else -2
noncomputable def f150 (A : MI) (w : Int32) : Int32 := by classical exact if w = 0 then A 97 4 else if w = 1 then A 97 31 else if w = 2 then A 97 37 else if w = 3 then A 97 38 else if w = 4 then A 97 39 else if w = 5 then A 97 57 else if w = 6 then A 97 51 else if w = 7 then A 97 15 else if w = 8 then A 97 14 else if w = 9 then A 109 0 else if w = 10 then A 109 1 else if w = 11 then A 109 2 else -2
noncomputable def f151 (A : MI) (s t n : Int32) : Int32 := by classical exact if (0 ≤ s ∧ s ≤ 3) ∧ (-1 ≤ t ∧ t ≤ 2) then (if t = -1 then 1 else if 40 < n then -2 else if n < 0 then -14 else 1) else -2
noncomputable def g151 (A : MI) (s t n : Int32) : MI := by classical exact if (0 ≤ s ∧ s ≤ 3) ∧ (-1 ≤ t ∧ t ≤ 2) then (if t = -1 then shA A (nn s) (-1) 0 else if 40 < n then A else if n < 0 then A else shA A (nn s) t n) else A
noncomputable def f152 (A : MI) (s i v : Int32) : Int32 := by classical exact if (0 ≤ s ∧ s ≤ 3) then (if A 141 (nn s) = -1 then -11 else if 0 ≤ i ∧ i ≤ A 142 (nn s) - 1 then 1 else -12) else -2
noncomputable def g152 (A : MI) (s i v : Int32) : MI := by classical exact if (0 ≤ s ∧ s ≤ 3) then (if A 141 (nn s) = -1 then A else if 0 ≤ i ∧ i ≤ A 142 (nn s) - 1 then u2 A 143 (40 * nn s + nn i) (if A 141 (nn s) = 0 then v.toInt8.toInt32 else if A 141 (nn s) = 1 then v.toInt16.toInt32 else v) else A) else A
noncomputable def f153 (A : MI) (s i o j n : Int32) : Int32 := by classical exact if (0 ≤ s ∧ s ≤ 3) ∧ (0 ≤ o ∧ o ≤ 3) then (if A 141 (nn s) = -1 ∨ A 141 (nn o) = -1 then -11 else if ¬ A 141 (nn s) = A 141 (nn o) then -13 else if rnP A (nn s) i n ∧ rnP A (nn o) j n then n else -12) else -2
noncomputable def g153 (A : MI) (s i o j n : Int32) : MI := by classical exact if (0 ≤ s ∧ s ≤ 3) ∧ (0 ≤ o ∧ o ≤ 3) then (if A 141 (nn s) = -1 ∨ A 141 (nn o) = -1 then A else if ¬ A 141 (nn s) = A 141 (nn o) then A else if rnP A (nn s) i n ∧ rnP A (nn o) j n then cpA A (40 * nn s + nn i) (40 * nn o + nn j) (nn n) else A) else A
noncomputable def f154 (A : MI) (r s t b n : Int32) : Int32 := by classical exact if (0 ≤ r ∧ r ≤ 7) ∧ (0 ≤ s ∧ s ≤ 3) ∧ (0 ≤ t ∧ t ≤ 2) ∧ (0 ≤ n ∧ n ≤ 8) then (if ¬ A 141 (nn s) = -1 ∧ ¬ A 141 (nn s) = t then -13 else if A 141 (nn s) = -1 then -11 else (hgF A (nn r) (nn s) b (nn n)).1) else -2
noncomputable def g154 (A : MI) (r s t b n : Int32) : MI := by classical exact if (0 ≤ r ∧ r ≤ 7) ∧ (0 ≤ s ∧ s ≤ 3) ∧ (0 ≤ t ∧ t ≤ 2) ∧ (0 ≤ n ∧ n ≤ 8) then (if ¬ A 141 (nn s) = -1 ∧ ¬ A 141 (nn s) = t then A else if A 141 (nn s) = -1 then A else (hgF A (nn r) (nn s) b (nn n)).2.2) else A
noncomputable def f155 (A : MI) (m k : Int32) : Int32 := by classical exact if (0 ≤ k ∧ k ≤ 5) then (if 0 ≤ m ∧ m ≤ A 97 4 - 1 then (if unF (nn (A 100 (nn m))) (nn k) = true then A 103 (nn m) else -13) else -11) else -2
noncomputable def f148 (l : Nat → Int64) (s p y : Int32) : Int32 := by classical exact if (s = 0 ∨ s = 1) ∧ (0 ≤ p ∧ p ≤ 63) ∧ (y = 0 ∨ y = 1) then bi (¬ l (nn s) &&& b1L (nn p) = 0) else -2
noncomputable def g148 (l : Nat → Int64) (s p y : Int32) : Nat → Int64 := by classical exact if (s = 0 ∨ s = 1) ∧ (0 ≤ p ∧ p ≤ 63) ∧ (y = 0 ∨ y = 1) then (fun k => if k = nn s then (if y = 1 then l (nn s) ||| b1L (nn p) else l (nn s) &&& (b1L (nn p) ^^^ (-1))) else l k) else l
def f149 (l : Nat → Int64) (s : Int32) : Int64 := if s = -1 then l 0 ^^^ l 1 else if s = 0 then l 0 &&& (l 1 ^^^ (-1)) else if s = 1 then l 1 &&& (l 0 ^^^ (-1)) else -4611686018427387904
/-- what a store of one place in the state does to the relation -/
theorem hupd {I A : MI} (hX : XRel I A) (hA : AInv A) {k i : Nat} (hk : k < 45) (hi : i < lenK k) (h5 : k ≠ 5 ∧ k ≠ 13 ∧ k ≠ 14) (v : Int32) : XRel (u2 I (xl k i).1 (xl k i).2 v) (u2 A (ml k i).1 (ml k i).2 v) ∧ sameM (u2 I (xl k i).1 (xl k i).2 v) I := ⟨hX.upd (nn_ml hA) hk hi h5 v, sameM_u2 (xl_apart k hk i hi).1⟩
