/-! how many bits -/
def popN : Nat → Nat → Nat
  | 0, _ => 0
  | n + 1, x => x % 2 + popN n (x / 2)
def ctN (p : Nat → Bool) : Nat → Nat
  | 0 => 0
  | n + 1 => if p n = true then ctN p n + 1 else ctN p n
theorem ctN_le (p : Nat → Bool) : ∀ n, ctN p n ≤ n := by
  intro n
  induction n with
  | zero => exact Nat.le_refl _
  | succ n ih =>
    unfold ctN
    split <;> omega
theorem ctN_cong {p q : Nat → Bool} : ∀ n, (∀ i, i < n → p i = q i) → ctN p n = ctN q n := by
  intro n
  induction n with
  | zero => exact fun _ => rfl
  | succ n ih =>
    intro h
    unfold ctN
    rw [h n (by omega), ih (fun i hi => h i (by omega))]
theorem ctN_0 {p : Nat → Bool} : ∀ n, (∀ i, i < n → p i = false) → ctN p n = 0 := by
  intro n
  induction n with
  | zero => exact fun _ => rfl
  | succ n ih =>
    intro h
    unfold ctN
    rw [h n (by omega), if_neg (by decide), ih (fun i hi => h i (by omega))]
theorem ctN_add (p : Nat → Bool) (n : Nat) : ∀ m, ctN p (n + m) = ctN p n + ctN (fun k => p (n + k)) m := by
  intro m
  induction m with
  | zero => rfl
  | succ m ih =>
    show (if p (n + m) = true then ctN p (n + m) + 1 else ctN p (n + m)) = ctN p n + (if p (n + m) = true then ctN (fun k => p (n + k)) m + 1 else ctN (fun k => p (n + k)) m)
    rw [ih]
    split <;> omega
theorem ctN_ext {p : Nat → Bool} {n m : Nat} (h : n ≤ m) (h0 : ∀ i, n ≤ i → i < m → p i = false) : ctN p m = ctN p n := by
  obtain ⟨r, rfl⟩ : ∃ r, m = n + r := ⟨m - n, by omega⟩
  rw [ctN_add, ctN_0 r (fun i hi => h0 _ (by omega) (by omega))]
  omega
theorem ctN_test : ∀ n x, ctN (fun i => x.testBit i) n = popN n x := by
  intro n
  induction n with
  | zero => exact fun _ => rfl
  | succ n ih =>
    intro x
    rw [Nat.add_comm n 1, ctN_add]
    show _ = popN (1 + n) x
    rw [Nat.add_comm 1 n]
    unfold popN
    rw [← ih (x / 2)]
    congr 1
    · show (if x.testBit 0 = true then 0 + 1 else 0) = x % 2
      rw [Nat.testBit_zero]
      by_cases h : x % 2 = 1
      · rw [decide_eq_true h, if_pos rfl, h]
      · rw [decide_eq_false h, if_neg (by decide)]
        omega
    · refine ctN_cong n (fun i _ => ?_)
      rw [Nat.add_comm 1 i, Nat.testBit_succ]
theorem popN_0 : ∀ n, popN n 0 = 0 := by
  intro n
  induction n with
  | zero => rfl
  | succ n ih =>
    unfold popN
    rw [Nat.zero_div, ih]
theorem popN_le : ∀ n x, popN n x ≤ n := by
  intro n
  induction n with
  | zero => exact fun _ => Nat.le_refl _
  | succ n ih =>
    intro x
    unfold popN
    have := ih (x / 2)
    omega
/-- a set loses one by 'and' with the number before it -/
theorem popN_and : ∀ n x, x < 2 ^ n → 0 < x → popN n x = popN n (x &&& (x - 1)) + 1 := by
  intro n
  induction n with
  | zero =>
    intro x h h0
    rw [Nat.pow_zero] at h
    omega
  | succ n ih =>
    intro x h h0
    rw [Nat.pow_succ] at h
    unfold popN
    have d1 : (x &&& (x - 1)) / 2 = x / 2 &&& (x - 1) / 2 := by
      have := Nat.and_div_two_pow (a := x) (b := x - 1) (n := 1)
      simpa using this
    have d2 : (x &&& (x - 1)) % 2 = 0 := by
      have := Nat.and_mod_two_pow (a := x) (b := x - 1) (n := 1)
      rw [Nat.pow_one] at this
      rw [this]
      rcases Nat.mod_two_eq_zero_or_one x with e | e
      · rw [e, Nat.zero_and]
      · rw [show (x - 1) % 2 = 0 by omega, Nat.and_zero]
    rw [d1, d2]
    rcases Nat.mod_two_eq_zero_or_one x with e | e
    · rw [e, show (x - 1) / 2 = x / 2 - 1 by omega, ih (x / 2) (by omega) (by omega)]
      omega
    · rw [e, show (x - 1) / 2 = x / 2 by omega, Nat.and_self]
      omega
/-! the machine's own way: in pairs, in fours, in eights -/
def mkN (c : Nat) : Nat → Nat
  | 0 => 0
  | n + 1 => 256 * mkN c n + c
def t1N (M x : Nat) : Nat := x - (x / 2 &&& M)
def t2N (M y : Nat) : Nat := (y &&& M) + (y / 4 &&& M)
def t3N (M z : Nat) : Nat := (z + z / 16) &&& M
def byN : Nat → Nat → Nat
  | 0, _ => 0
  | n + 1, x => 256 * byN n (x / 256) + popN 8 (x % 256)
theorem and256 {q r m c : Nat} (hr : r < 256) (hc : c < 256) : (256 * q + r) &&& (256 * m + c) = 256 * (q &&& m) + (r &&& c) := by
  have h1 := Nat.and_div_two_pow (a := 256 * q + r) (b := 256 * m + c) (n := 8)
  have h2 := Nat.and_mod_two_pow (a := 256 * q + r) (b := 256 * m + c) (n := 8)
  rw [show (2 : Nat) ^ 8 = 256 from rfl] at h1 h2
  rw [show (256 * q + r) / 256 = q by omega, show (256 * m + c) / 256 = m by omega] at h1
  rw [show (256 * q + r) % 256 = r by omega, show (256 * m + c) % 256 = c by omega] at h2
  rw [← h1, ← h2]
  omega
theorem t1_b : ∀ r, r < 256 → ∀ b, b < 2 → ((128 * b + r / 2) &&& 85) = (r / 2 &&& 85) ∧ (r / 2 &&& 85) ≤ r := by decide +kernel
theorem t1_s {q r M : Nat} (hr : r < 256) (hq : (q / 2 &&& M) ≤ q) : t1N (256 * M + 85) (256 * q + r) = 256 * t1N M q + t1N 85 r := by
  unfold t1N
  have e : (256 * q + r) / 2 = 256 * (q / 2) + (128 * (q % 2) + r / 2) := by omega
  obtain ⟨h1, h2⟩ := t1_b r hr (q % 2) (by omega)
  rw [e, and256 (by omega) (by decide), h1]
  omega
theorem t1_le : ∀ n x, (x / 2 &&& mkN 85 n) ≤ x := fun n x => Nat.le_trans Nat.and_le_left (by omega)
theorem t2_b : ∀ r, r < 256 → ∀ b, b < 4 → ((64 * b + r / 4) &&& 51) = (r / 4 &&& 51) := by decide +kernel
theorem t2_s {q r M : Nat} (hr : r < 256) : t2N (256 * M + 51) (256 * q + r) = 256 * t2N M q + t2N 51 r := by
  unfold t2N
  have e : (256 * q + r) / 4 = 256 * (q / 4) + (64 * (q % 4) + r / 4) := by omega
  rw [e, and256 hr (by decide), and256 (by omega) (by decide), t2_b r hr (q % 4) (by omega)]
  omega
theorem t12_b : ∀ r, r < 256 → t1N 85 r < 256 ∧ t2N 51 (t1N 85 r) < 256 ∧ t2N 51 (t1N 85 r) % 16 ≤ 4 ∧ t2N 51 (t1N 85 r) / 16 ≤ 4 ∧ t3N 15 (t2N 51 (t1N 85 r)) = popN 8 r := by decide +kernel
theorem t3_b : ∀ r, r < 256 → r % 16 ≤ 4 → r / 16 ≤ 4 → ∀ b, b < 5 → ((16 * b + r + r / 16) < 256 ∧ ((16 * b + r + r / 16) &&& 15) = ((r + r / 16) &&& 15)) := by decide +kernel
theorem t3_s {q r M : Nat} (hr : r < 256) (h1 : r % 16 ≤ 4) (h2 : r / 16 ≤ 4) (hq : q % 16 ≤ 4) : t3N (256 * M + 15) (256 * q + r) = 256 * t3N M q + t3N 15 r := by
  unfold t3N
  obtain ⟨h3, h4⟩ := t3_b r hr h1 h2 (q % 16) (by omega)
  have e : 256 * q + r + (256 * q + r) / 16 = 256 * (q + q / 16) + (16 * (q % 16) + r + r / 16) := by omega
  rw [e, and256 h3 (by decide), h4]
theorem t_all : ∀ n x, x < 256 ^ n → t3N (mkN 15 n) (t2N (mkN 51 n) (t1N (mkN 85 n) x)) = byN n x ∧ t2N (mkN 51 n) (t1N (mkN 85 n) x) % 16 ≤ 4 := by
  intro n
  induction n with
  | zero =>
    intro x h
    rw [Nat.pow_zero] at h
    obtain rfl : x = 0 := by omega
    decide
  | succ n ih =>
    intro x h
    rw [Nat.pow_succ] at h
    obtain ⟨i1, i2⟩ := ih (x / 256) (by omega)
    have hr : x % 256 < 256 := Nat.mod_lt _ (by decide)
    obtain ⟨b1, b2, b3, b4, b5⟩ := t12_b (x % 256) hr
    have e : x = 256 * (x / 256) + x % 256 := by omega
    unfold mkN
    rw [e, t1_s hr (t1_le n _), t2_s b1, t3_s b2 b3 b4 i2]
    refine ⟨?_, by omega⟩
    rw [i1, b5]
    show _ = 256 * byN n ((256 * (x / 256) + x % 256) / 256) + popN 8 ((256 * (x / 256) + x % 256) % 256)
    rw [show (256 * (x / 256) + x % 256) / 256 = x / 256 by omega, show (256 * (x / 256) + x % 256) % 256 = x % 256 by omega]
theorem popN_add : ∀ m n x, popN (m + n) x = popN m (x % 2 ^ m) + popN n (x / 2 ^ m) := by
  intro m
  induction m with
  | zero =>
    intro n x
    rw [Nat.zero_add, Nat.pow_zero, Nat.div_one]
    show _ = 0 + _
    rw [Nat.zero_add]
  | succ m ih =>
    intro n x
    rw [show m + 1 + n = (m + n) + 1 by omega]
    have ps : ∀ n x, popN (n + 1) x = x % 2 + popN n (x / 2) := fun _ _ => rfl
    rw [ps, ps, ih n (x / 2), Nat.pow_succ, Nat.mul_comm (2 ^ m) 2, Nat.mod_mul, ← Nat.div_div_eq_div_mul]
    have e1 : (x % 2 + 2 * (x / 2 % 2 ^ m)) % 2 = x % 2 := by omega
    have e2 : (x % 2 + 2 * (x / 2 % 2 ^ m)) / 2 = x / 2 % 2 ^ m := by omega
    rw [e1, e2]
    omega
theorem byN_4 (x : Nat) : byN 4 x = popN 8 (x % 256) + 256 * popN 8 (x / 256 % 256) + 65536 * popN 8 (x / 256 / 256 % 256) + 16777216 * popN 8 (x / 256 / 256 / 256 % 256) := by
  have bs : ∀ n x, byN (n + 1) x = 256 * byN n (x / 256) + popN 8 (x % 256) := fun _ _ => rfl
  rw [bs, bs, bs, bs]
  show 256 * (256 * (256 * (256 * 0 + _) + _) + _) + _ = _
  omega
theorem byN_8 (x : Nat) : byN 8 x = byN 4 x + 4294967296 * byN 4 (x / 4294967296) := by
  have bs : ∀ n x, byN (n + 1) x = 256 * byN n (x / 256) + popN 8 (x % 256) := fun _ _ => rfl
  rw [bs, bs, bs, bs]
  rw [show x / 256 / 256 / 256 / 256 = x / 4294967296 by omega, byN_4 x]
  omega
theorem popN_32 (x : Nat) : popN 32 x = popN 8 (x % 256) + popN 8 (x / 256 % 256) + popN 8 (x / 256 / 256 % 256) + popN 8 (x / 256 / 256 / 256 % 256) := by
  have e : ∀ y, popN 8 (y % 256 % 256) = popN 8 (y % 256) := fun y => by rw [Nat.mod_mod]
  have h1 := popN_add 8 24 x
  have h2 := popN_add 8 16 (x / 256)
  have h3 := popN_add 8 8 (x / 256 / 256)
  have h4 : popN 8 (x / 256 / 256 / 256) = popN 8 (x / 256 / 256 / 256 % 256) := by
    have h5 := popN_add 8 0 (x / 256 / 256 / 256)
    exact h5
  simp only [show (2 : Nat) ^ 8 = 256 from rfl, show 8 + 24 = 32 from rfl, show 8 + 16 = 24 from rfl, show 8 + 8 = 16 from rfl] at h1 h2 h3
  omega
theorem popN_64 (x : Nat) : popN 64 x = popN 32 (x % 4294967296) + popN 32 (x / 4294967296) := popN_add 32 32 x
theorem byN_mod (x : Nat) : byN 4 (x % 4294967296) = byN 4 x := by
  rw [byN_4, byN_4]
  rw [show x % 4294967296 % 256 = x % 256 by omega, show x % 4294967296 / 256 % 256 = x / 256 % 256 by omega, show x % 4294967296 / 256 / 256 % 256 = x / 256 / 256 % 256 by omega, show x % 4294967296 / 256 / 256 / 256 % 256 = x / 256 / 256 / 256 % 256 by omega]
theorem popN_m32 (x : Nat) : popN 32 (x % 4294967296) = popN 32 x := by
  rw [popN_32, popN_32]
  rw [show x % 4294967296 % 256 = x % 256 by omega, show x % 4294967296 / 256 % 256 = x / 256 % 256 by omega, show x % 4294967296 / 256 / 256 % 256 = x / 256 / 256 % 256 by omega, show x % 4294967296 / 256 / 256 / 256 % 256 = x / 256 / 256 / 256 % 256 by omega]
def usI (x s : Int32) : Int32 := (x.toUInt32 >>> (s.toUInt32 &&& Int32.toUInt32 31)).toInt32
def pcI (x : Int32) : Int32 :=
  let a := x - (usI x 1 &&& 1431655765)
  let b := (a &&& 858993459) + (usI a 2 &&& 858993459)
  let c := (b + usI b 4) &&& 252645135
  let e := c + usI c 8
  let f := e + usI e 16
  f &&& 63
def usL (x : Int64) (s : Int32) : Int64 := ((x.toUInt64 >>> (s.toInt64.toUInt64 &&& Int64.toUInt64 63)).toInt64)
def pcL (x : Int64) : Int32 :=
  let a := x - (usL x 1 &&& 6148914691236517205)
  let b := (a &&& 3689348814741910323) + (usL a 2 &&& 3689348814741910323)
  let c := (b + usL b 4) &&& 1085102592571150095
  let e := c + usL c 8
  let f := e + usL e 16
  let g := f + usL f 32
  g.toInt32 &&& 127
def i32N (x : Int32) : Nat := x.toBitVec.toNat
theorem i32_lt (x : Int32) : i32N x < 4294967296 := x.toBitVec.isLt
theorem i32_us (x s : Int32) (k : Nat) (hs : ((s.toUInt32 &&& Int32.toUInt32 31).toBitVec % 32).toNat = k) : i32N (usI x s) = i32N x / 2 ^ k := pk_ushr x s k hs
theorem i32_and (x y : Int32) : i32N (x &&& y) = i32N x &&& i32N y := by
  unfold i32N
  rw [Int32.toBitVec_and, BitVec.toNat_and]
theorem i32_add {x y : Int32} (h : i32N x + i32N y < 4294967296) : i32N (x + y) = i32N x + i32N y := by
  unfold i32N at *
  rw [Int32.toBitVec_add, BitVec.toNat_add]
  exact Nat.mod_eq_of_lt h
theorem i32_sub {x y : Int32} (h : i32N y ≤ i32N x) : i32N (x - y) = i32N x - i32N y := by
  have hx := i32_lt x
  have hy := i32_lt y
  unfold i32N at *
  rw [Int32.toBitVec_sub, BitVec.toNat_sub]
  omega
theorem dvk {a b k : Nat} (h : a < k) : (a + k * b) / k = b := by
  rw [Nat.add_mul_div_left _ _ (by omega), Nat.div_eq_of_lt h, Nat.zero_add]
theorem mod_128 (k : Nat) : k % 4294967296 % 128 = k % 128 := by omega
theorem dvl {a b k x : Nat} (h : a < k) (e : x = a + k * b) : x / k = b := by
  subst e
  exact dvk h
theorem sum4 {w0 w1 w2 w3 c f g : Nat} (p0 : w0 ≤ 8) (p1 : w1 ≤ 8) (p2 : w2 ≤ 8) (p3 : w3 ≤ 8) (q3 : c = w0 + 256 * w1 + 65536 * w2 + 16777216 * w3) (q4 : f = c + c / 256) (q5 : g = f + f / 65536) : g % 64 = w0 + w1 + w2 + w3 := by
  have d1 : w0 + 256 * w1 + 65536 * w2 + 16777216 * w3 = w0 + 256 * (w1 + 256 * w2 + 65536 * w3) := by clear q3 q4 q5; omega
  have d2 : (w0 + 256 * w1 + 65536 * w2 + 16777216 * w3) + (w1 + 256 * w2 + 65536 * w3) = ((w0 + w1) + 256 * (w1 + w2)) + 65536 * ((w2 + w3) + 256 * w3) := by clear q3 q4 q5; omega
  have d3 : ((w0 + w1) + 256 * (w1 + w2)) + 65536 * ((w2 + w3) + 256 * w3) + ((w2 + w3) + 256 * w3) = (w0 + w1 + w2 + w3) + 64 * (4 * (w1 + w2 + w3) + 1024 * (w2 + w3) + 262144 * w3) := by clear q3 q4 q5; omega
  have l1 : w0 < 256 := by clear q3 q4 q5; omega
  have l2 : (w0 + w1) + 256 * (w1 + w2) < 65536 := by clear q3 q4 q5; omega
  have l3 : w0 + w1 + w2 + w3 < 64 := by clear q3 q4 q5; omega
  rw [dvl l1 (q3.trans d1), q3, d2] at q4
  rw [dvl l2 q4, q4, d3] at q5
  rw [q5, Nat.add_mul_mod_self_left]
  exact Nat.mod_eq_of_lt l3
theorem sum8_l1 {w0 w1 w2 w3 w4 w5 w6 w7 : Nat} (p0 : w0 ≤ 8) (p1 : w1 ≤ 8) (p2 : w2 ≤ 8) (p3 : w3 ≤ 8) (p4 : w4 ≤ 8) (p5 : w5 ≤ 8) (p6 : w6 ≤ 8) (p7 : w7 ≤ 8) : w0 < 256 := by omega
theorem sum8_l2 {w0 w1 w2 w3 w4 w5 w6 w7 : Nat} (p0 : w0 ≤ 8) (p1 : w1 ≤ 8) (p2 : w2 ≤ 8) (p3 : w3 ≤ 8) (p4 : w4 ≤ 8) (p5 : w5 ≤ 8) (p6 : w6 ≤ 8) (p7 : w7 ≤ 8) : (w0 + w1) + 256 * (w1 + w2) < 65536 := by omega
theorem sum8_l3 {w0 w1 w2 w3 w4 w5 w6 w7 : Nat} (p0 : w0 ≤ 8) (p1 : w1 ≤ 8) (p2 : w2 ≤ 8) (p3 : w3 ≤ 8) (p4 : w4 ≤ 8) (p5 : w5 ≤ 8) (p6 : w6 ≤ 8) (p7 : w7 ≤ 8) : (w0 + w1 + (w2 + w3)) + 256 * (w1 + w2 + (w3 + w4)) + 65536 * (w2 + w3 + (w4 + w5)) + 16777216 * (w3 + w4 + (w5 + w6)) < 4294967296 := by omega
theorem sum8_l4 {w0 w1 w2 w3 w4 w5 w6 w7 : Nat} (p0 : w0 ≤ 8) (p1 : w1 ≤ 8) (p2 : w2 ≤ 8) (p3 : w3 ≤ 8) (p4 : w4 ≤ 8) (p5 : w5 ≤ 8) (p6 : w6 ≤ 8) (p7 : w7 ≤ 8) : w0 + w1 + w2 + w3 + (w4 + w5 + w6 + w7) < 128 := by omega
theorem sum8_d1 (w0 w1 w2 w3 w4 w5 w6 w7 : Nat) : w0 + 256 * w1 + 65536 * w2 + 16777216 * w3 + 4294967296 * (w4 + 256 * w5 + 65536 * w6 + 16777216 * w7) = w0 + 256 * (w1 + 256 * w2 + 65536 * w3 + 16777216 * w4 + 4294967296 * (w5 + 256 * w6 + 65536 * w7)) := by omega
theorem sum8_d2 (w0 w1 w2 w3 w4 w5 w6 w7 : Nat) : w0 + 256 * w1 + 65536 * w2 + 16777216 * w3 + 4294967296 * (w4 + 256 * w5 + 65536 * w6 + 16777216 * w7) + (w1 + 256 * w2 + 65536 * w3 + 16777216 * w4 + 4294967296 * (w5 + 256 * w6 + 65536 * w7)) = ((w0 + w1) + 256 * (w1 + w2)) + 65536 * ((w2 + w3) + 256 * (w3 + w4) + 65536 * (w4 + w5) + 16777216 * (w5 + w6) + 4294967296 * ((w6 + w7) + 256 * w7)) := by omega
theorem sum8_d3 (w0 w1 w2 w3 w4 w5 w6 w7 : Nat) : ((w0 + w1) + 256 * (w1 + w2)) + 65536 * ((w2 + w3) + 256 * (w3 + w4) + 65536 * (w4 + w5) + 16777216 * (w5 + w6) + 4294967296 * ((w6 + w7) + 256 * w7)) + ((w2 + w3) + 256 * (w3 + w4) + 65536 * (w4 + w5) + 16777216 * (w5 + w6) + 4294967296 * ((w6 + w7) + 256 * w7)) = ((w0 + w1 + (w2 + w3)) + 256 * (w1 + w2 + (w3 + w4)) + 65536 * (w2 + w3 + (w4 + w5)) + 16777216 * (w3 + w4 + (w5 + w6))) + 4294967296 * ((w4 + w5 + (w6 + w7)) + 256 * (w5 + w6 + w7) + 65536 * (w6 + w7) + 16777216 * w7) := by omega
theorem sum8_d4 (w0 w1 w2 w3 w4 w5 w6 w7 : Nat) : ((w0 + w1 + (w2 + w3)) + 256 * (w1 + w2 + (w3 + w4)) + 65536 * (w2 + w3 + (w4 + w5)) + 16777216 * (w3 + w4 + (w5 + w6))) + 4294967296 * ((w4 + w5 + (w6 + w7)) + 256 * (w5 + w6 + w7) + 65536 * (w6 + w7) + 16777216 * w7) + ((w4 + w5 + (w6 + w7)) + 256 * (w5 + w6 + w7) + 65536 * (w6 + w7) + 16777216 * w7) = (w0 + w1 + w2 + w3 + (w4 + w5 + w6 + w7)) + 128 * (2 * (w1 + w2 + (w3 + w4)) + 512 * (w2 + w3 + (w4 + w5)) + 131072 * (w3 + w4 + (w5 + w6)) + 33554432 * ((w4 + w5 + (w6 + w7)) + 256 * (w5 + w6 + w7) + 65536 * (w6 + w7) + 16777216 * w7) + 2 * (w5 + w6 + w7) + 512 * (w6 + w7) + 131072 * w7) := by omega
theorem sum8 {w0 w1 w2 w3 w4 w5 w6 w7 c f g k : Nat} (p0 : w0 ≤ 8) (p1 : w1 ≤ 8) (p2 : w2 ≤ 8) (p3 : w3 ≤ 8) (p4 : w4 ≤ 8) (p5 : w5 ≤ 8) (p6 : w6 ≤ 8) (p7 : w7 ≤ 8) (q3 : c = w0 + 256 * w1 + 65536 * w2 + 16777216 * w3 + 4294967296 * (w4 + 256 * w5 + 65536 * w6 + 16777216 * w7)) (q4 : f = c + c / 256) (q5 : g = f + f / 65536) (q6 : k = g + g / 4294967296) : k % 4294967296 % 128 = w0 + w1 + w2 + w3 + (w4 + w5 + w6 + w7) := by
  have l4 := sum8_l4 p0 p1 p2 p3 p4 p5 p6 p7
  have l3 := sum8_l3 p0 p1 p2 p3 p4 p5 p6 p7
  have l2 := sum8_l2 p0 p1 p2 p3 p4 p5 p6 p7
  have l1 := sum8_l1 p0 p1 p2 p3 p4 p5 p6 p7
  have d1 := sum8_d1 w0 w1 w2 w3 w4 w5 w6 w7
  have d2 := sum8_d2 w0 w1 w2 w3 w4 w5 w6 w7
  have d3 := sum8_d3 w0 w1 w2 w3 w4 w5 w6 w7
  have d4 := sum8_d4 w0 w1 w2 w3 w4 w5 w6 w7
  rw [dvl l1 (q3.trans d1), q3, d2] at q4
  rw [dvl l2 q4, q4, d3] at q5
  rw [dvl l3 q5, q5, d4] at q6
  rw [mod_128, q6, Nat.add_mul_mod_self_left]
  exact Nat.mod_eq_of_lt l4
theorem pcI_ok (x : Int32) : pcI x = nI (popN 32 (i32N x)) := by
  have hx := i32_lt x
  obtain ⟨h1, -⟩ := t_all 4 (i32N x) hx
  have m1 : i32N 1431655765 = mkN 85 4 := by decide +kernel
  have m2 : i32N 858993459 = mkN 51 4 := by decide +kernel
  have m3 : i32N 252645135 = mkN 15 4 := by decide +kernel
  have l2 : mkN 51 4 = 858993459 := by decide +kernel
  unfold pcI
  simp only []
  have q1 : i32N (x - (usI x 1 &&& 1431655765)) = t1N (mkN 85 4) (i32N x) := by
    have e : i32N (usI x 1 &&& 1431655765) = i32N x / 2 &&& mkN 85 4 := by rw [i32_and, i32_us x 1 1 (by decide), m1, Nat.pow_one]
    rw [i32_sub (by rw [e]; exact t1_le 4 _), e]
    rfl
  generalize x - (usI x 1 &&& 1431655765) = a at q1 ⊢
  have q2 : i32N ((a &&& 858993459) + (usI a 2 &&& 858993459)) = t2N (mkN 51 4) (t1N (mkN 85 4) (i32N x)) := by
    have e1 : i32N (a &&& 858993459) = i32N a &&& mkN 51 4 := by rw [i32_and, m2]
    have e2 : i32N (usI a 2 &&& 858993459) = i32N a / 4 &&& mkN 51 4 := by rw [i32_and, i32_us a 2 2 (by decide), m2]
    have b1 : i32N a &&& mkN 51 4 ≤ mkN 51 4 := Nat.and_le_right
    have b2 : i32N a / 4 &&& mkN 51 4 ≤ mkN 51 4 := Nat.and_le_right
    rw [i32_add (by rw [e1, e2]; omega), e1, e2, q1]
    rfl
  have b2 : t2N (mkN 51 4) (t1N (mkN 85 4) (i32N x)) ≤ 1717986918 := by
    unfold t2N
    have b1 : t1N (mkN 85 4) (i32N x) &&& mkN 51 4 ≤ mkN 51 4 := Nat.and_le_right
    have b2 : t1N (mkN 85 4) (i32N x) / 4 &&& mkN 51 4 ≤ mkN 51 4 := Nat.and_le_right
    omega
  generalize (a &&& 858993459) + (usI a 2 &&& 858993459) = b at q2 ⊢
  have q3 : i32N ((b + usI b 4) &&& 252645135) = byN 4 (i32N x) := by
    rw [i32_and, m3, ← h1]
    have e : i32N (usI b 4) = i32N b / 16 := i32_us b 4 4 (by decide)
    rw [i32_add (by rw [e, q2]; omega), e, q2]
    rfl
  generalize (b + usI b 4) &&& 252645135 = c at q3 ⊢
  rw [byN_4] at q3
  have p0 := popN_le 8 (i32N x % 256)
  have p1 := popN_le 8 (i32N x / 256 % 256)
  have p2 := popN_le 8 (i32N x / 256 / 256 % 256)
  have p3 := popN_le 8 (i32N x / 256 / 256 / 256 % 256)
  rw [popN_32]
  generalize popN 8 (i32N x % 256) = w0 at *
  generalize popN 8 (i32N x / 256 % 256) = w1 at *
  generalize popN 8 (i32N x / 256 / 256 % 256) = w2 at *
  generalize popN 8 (i32N x / 256 / 256 / 256 % 256) = w3 at *
  have q4 : i32N (c + usI c 8) = i32N c + i32N c / 256 := by
    have e : i32N (usI c 8) = i32N c / 256 := i32_us c 8 8 (by decide)
    rw [i32_add (by rw [e]; omega), e]
  generalize c + usI c 8 = f at q4 ⊢
  have q5 : i32N (f + usI f 16) = i32N f + i32N f / 65536 := by
    have e : i32N (usI f 16) = i32N f / 65536 := i32_us f 16 16 (by decide)
    rw [i32_add (by rw [e]; omega), e]
  generalize f + usI f 16 = g at q5 ⊢
  rw [pk_and g (m := 63) 6 (by decide)]
  congr 1
  show i32N g % 64 = _
  exact sum4 p0 p1 p2 p3 q3 q4 q5
def i64N (x : Int64) : Nat := x.toBitVec.toNat
theorem i64_lt (x : Int64) : i64N x < 18446744073709551616 := x.toBitVec.isLt
theorem i64_us (x : Int64) (s : Int32) (k : Nat) (hs : ((s.toInt64.toUInt64 &&& Int64.toUInt64 63).toBitVec % 64).toNat = k) : i64N (usL x s) = i64N x / 2 ^ k := by
  unfold i64N usL
  show (x.toUInt64 >>> (s.toInt64.toUInt64 &&& Int64.toUInt64 63)).toBitVec.toNat = x.toUInt64.toBitVec.toNat / 2 ^ k
  rw [UInt64.toBitVec_shiftRight]
  show (x.toUInt64.toBitVec >>> (((s.toInt64.toUInt64 &&& Int64.toUInt64 63).toBitVec % 64).toNat)).toNat = _
  rw [hs, BitVec.toNat_ushiftRight, Nat.shiftRight_eq_div_pow]
theorem i64_and (x y : Int64) : i64N (x &&& y) = i64N x &&& i64N y := by
  unfold i64N
  rw [Int64.toBitVec_and, BitVec.toNat_and]
theorem i64_add {x y : Int64} (h : i64N x + i64N y < 18446744073709551616) : i64N (x + y) = i64N x + i64N y := by
  unfold i64N at *
  rw [Int64.toBitVec_add, BitVec.toNat_add]
  exact Nat.mod_eq_of_lt h
theorem i64_sub {x y : Int64} (h : i64N y ≤ i64N x) : i64N (x - y) = i64N x - i64N y := by
  have hx := i64_lt x
  have hy := i64_lt y
  unfold i64N at *
  rw [Int64.toBitVec_sub, BitVec.toNat_sub]
  omega
theorem pcL_ok (x : Int64) : pcL x = nI (popN 64 (i64N x)) := by
  have hx := i64_lt x
  obtain ⟨h1, -⟩ := t_all 8 (i64N x) hx
  have m1 : i64N 6148914691236517205 = mkN 85 8 := by decide +kernel
  have m2 : i64N 3689348814741910323 = mkN 51 8 := by decide +kernel
  have m3 : i64N 1085102592571150095 = mkN 15 8 := by decide +kernel
  have l2 : mkN 51 8 = 3689348814741910323 := by decide +kernel
  unfold pcL
  simp only []
  have q1 : i64N (x - (usL x 1 &&& 6148914691236517205)) = t1N (mkN 85 8) (i64N x) := by
    have e : i64N (usL x 1 &&& 6148914691236517205) = i64N x / 2 &&& mkN 85 8 := by rw [i64_and, i64_us x 1 1 (by decide), m1, Nat.pow_one]
    rw [i64_sub (by rw [e]; exact t1_le 8 _), e]
    rfl
  generalize x - (usL x 1 &&& 6148914691236517205) = a at q1 ⊢
  have q2 : i64N ((a &&& 3689348814741910323) + (usL a 2 &&& 3689348814741910323)) = t2N (mkN 51 8) (t1N (mkN 85 8) (i64N x)) := by
    have e1 : i64N (a &&& 3689348814741910323) = i64N a &&& mkN 51 8 := by rw [i64_and, m2]
    have e2 : i64N (usL a 2 &&& 3689348814741910323) = i64N a / 4 &&& mkN 51 8 := by rw [i64_and, i64_us a 2 2 (by decide), m2]
    have b1 : i64N a &&& mkN 51 8 ≤ mkN 51 8 := Nat.and_le_right
    have b2 : i64N a / 4 &&& mkN 51 8 ≤ mkN 51 8 := Nat.and_le_right
    rw [i64_add (by rw [e1, e2]; omega), e1, e2, q1]
    rfl
  have b2 : t2N (mkN 51 8) (t1N (mkN 85 8) (i64N x)) ≤ 7378697629483820646 := by
    unfold t2N
    have b1 : t1N (mkN 85 8) (i64N x) &&& mkN 51 8 ≤ mkN 51 8 := Nat.and_le_right
    have b2 : t1N (mkN 85 8) (i64N x) / 4 &&& mkN 51 8 ≤ mkN 51 8 := Nat.and_le_right
    omega
  generalize (a &&& 3689348814741910323) + (usL a 2 &&& 3689348814741910323) = b at q2 ⊢
  have q3 : i64N ((b + usL b 4) &&& 1085102592571150095) = byN 8 (i64N x) := by
    rw [i64_and, m3, ← h1]
    have e : i64N (usL b 4) = i64N b / 16 := i64_us b 4 4 (by decide)
    rw [i64_add (by rw [e, q2]; omega), e, q2]
    rfl
  generalize (b + usL b 4) &&& 1085102592571150095 = c at q3 ⊢
  rw [byN_8, byN_4, byN_4] at q3
  rw [popN_64, popN_m32, popN_32, popN_32]
  generalize i64N x / 4294967296 = y at *
  have p0 := popN_le 8 (i64N x % 256)
  have p1 := popN_le 8 (i64N x / 256 % 256)
  have p2 := popN_le 8 (i64N x / 256 / 256 % 256)
  have p3 := popN_le 8 (i64N x / 256 / 256 / 256 % 256)
  have p4 := popN_le 8 (y % 256)
  have p5 := popN_le 8 (y / 256 % 256)
  have p6 := popN_le 8 (y / 256 / 256 % 256)
  have p7 := popN_le 8 (y / 256 / 256 / 256 % 256)
  generalize popN 8 (i64N x % 256) = w0 at *
  generalize popN 8 (i64N x / 256 % 256) = w1 at *
  generalize popN 8 (i64N x / 256 / 256 % 256) = w2 at *
  generalize popN 8 (i64N x / 256 / 256 / 256 % 256) = w3 at *
  generalize popN 8 (y % 256) = w4 at *
  generalize popN 8 (y / 256 % 256) = w5 at *
  generalize popN 8 (y / 256 / 256 % 256) = w6 at *
  generalize popN 8 (y / 256 / 256 / 256 % 256) = w7 at *
  have q4 : i64N (c + usL c 8) = i64N c + i64N c / 256 := by
    have e : i64N (usL c 8) = i64N c / 256 := i64_us c 8 8 (by decide)
    rw [i64_add (by rw [e]; omega), e]
  generalize c + usL c 8 = f at q4 ⊢
  have q5 : i64N (f + usL f 16) = i64N f + i64N f / 65536 := by
    have e : i64N (usL f 16) = i64N f / 65536 := i64_us f 16 16 (by decide)
    rw [i64_add (by rw [e]; omega), e]
  generalize f + usL f 16 = g at q5 ⊢
  have q6 : i64N (g + usL g 32) = i64N g + i64N g / 4294967296 := by
    have e : i64N (usL g 32) = i64N g / 4294967296 := i64_us g 32 32 (by decide)
    rw [i64_add (by rw [e]; omega), e]
  generalize g + usL g 32 = k at q6 ⊢
  rw [pk_and _ (m := 127) 7 (by decide)]
  congr 1
  have e : k.toInt32.toBitVec.toNat = i64N k % 4294967296 := by
    unfold i64N
    rw [Int64.toBitVec_toInt32, BitVec.signExtend_eq_setWidth_of_le _ (by decide), BitVec.toNat_setWidth]
  rw [e]
  show i64N k % 4294967296 % 128 = _
  exact sum8 p0 p1 p2 p3 p4 p5 p6 p7 q3 q4 q5 q6
theorem bq_nat (x : Int32) (i : Nat) : bq x i = (i32N x).testBit i := rfl
theorem pcI_ct (x : Int32) : pcI x = nI (ctN (bq x) 32) := by
  rw [pcI_ok, ← ctN_test]
  rfl
section XB
set_option maxRecDepth 8000
variable {G : cG} {d c0 : Nat} {I A : MI} {L : ML} {K : tQ}
theorem x_268 {x : Int32} (h : K (some (.int (pcI x))) 145 I L (rR c0)) : CK G (d + 4) 268 [.int x] 145 I L (rR c0) K := by
  refine CK_go (b := true) 80 [] (by decide) (pF_ok _ _) ?_
  simp (maxSteps := 4000000) (disch := omega) only [dJ6_bitCount_0f7a4_0, dJ6_bitCount_0f7a4_1, dJ6_bitCount_0f7a4_2, c32_1, dJ6_bitCount_0f7a4_3, dJ6_bitCount_0f7a4_4, ki_14_265, dJ6_bitCount_0f7a4_7, dJ6_bitCount_0f7a4_8, dJ6_bitCount_0f7a4_9, dJ6_bitCount_0f7a4_10, dJ6_bitCount_0f7a4_11, ki_14_266, dJ6_bitCount_0f7a4_14, dJ6_bitCount_0f7a4_15, dJ6_bitCount_0f7a4_16, c32_2, dJ6_bitCount_0f7a4_17, dJ6_bitCount_0f7a4_18, dJ6_bitCount_0f7a4_21, dJ6_bitCount_0f7a4_22, dJ6_bitCount_0f7a4_23, dJ6_bitCount_0f7a4_24, dJ6_bitCount_0f7a4_25, dJ6_bitCount_0f7a4_26, c32_4, dJ6_bitCount_0f7a4_27, dJ6_bitCount_0f7a4_28, dJ6_bitCount_0f7a4_29, ki_14_267, dJ6_bitCount_0f7a4_32, dJ6_bitCount_0f7a4_33, dJ6_bitCount_0f7a4_34, dJ6_bitCount_0f7a4_35, dJ6_bitCount_0f7a4_36, i8_8, dJ6_bitCount_0f7a4_38, dJ6_bitCount_0f7a4_39, dJ6_bitCount_0f7a4_40, dJ6_bitCount_0f7a4_41, dJ6_bitCount_0f7a4_42, dJ6_bitCount_0f7a4_43, i8_16, dJ6_bitCount_0f7a4_45, dJ6_bitCount_0f7a4_46, dJ6_bitCount_0f7a4_47, dJ6_bitCount_0f7a4_48, dJ6_bitCount_0f7a4_49, i8_63, dJ6_bitCount_0f7a4_51, dJ6_bitCount_0f7a4_52, mcc_268, mci_268, mnl_268, mrt_268, mal_268, ↓sq_iconst, il_iconst, ↓sq_bipush, il_bipush, ↓sq_sipush, il_sipush, ↓sq_lconst, il_lconst, ↓sq_iload_n, il_iload_n, ↓sq_iload, il_iload, ↓sq_lload_n, il_lload_n, ↓sq_lload, il_lload, ↓sq_aload_n, il_aload_n, ↓sq_aload, il_aload, ↓sq_istore_n, il_istore_n, ↓sq_istore, il_istore, ↓sq_astore_n, il_astore_n, ↓sq_astore, il_astore, ↓sq_lstore_n, il_lstore_n, ↓sq_lstore, il_lstore, ↓sq_iinc, il_iinc, ↓sq_iadd, il_iadd, ↓sq_isub, il_isub, ↓sq_imul, il_imul, ↓sq_iand, il_iand, ↓sq_ior, il_ior, ↓sq_ixor, il_ixor, ↓sq_ishl, il_ishl, ↓sq_ishr, il_ishr, ↓sq_iushr, il_iushr, ↓sq_idiv, il_idiv, ↓sq_irem, il_irem, ↓sq_ineg, il_ineg, ↓sq_i2b, il_i2b, ↓sq_i2s, il_i2s, ↓sq_i2l, il_i2l, ↓sq_l2i, il_l2i, ↓sq_ladd, il_ladd, ↓sq_lsub, il_lsub, ↓sq_land, il_land, ↓sq_lor, il_lor, ↓sq_lxor, il_lxor, ↓sq_lshl, il_lshl, ↓sq_lshr, il_lshr, ↓sq_lushr, il_lushr, ↓sq_lcmp, il_lcmp, ↓sq_dup, il_dup, ↓sq_pop, il_pop, ↓sq_dup_x1, il_dup_x1, ↓sq_dup2, il_dup2, ↓sq_ifCond_eq, il_ifCond_eq, ↓sq_ifCond_ne, il_ifCond_ne, ↓sq_ifCond_lt, il_ifCond_lt, ↓sq_ifCond_ge, il_ifCond_ge, ↓sq_ifCond_gt, il_ifCond_gt, ↓sq_ifCond_le, il_ifCond_le, ↓sq_if_icmp_eq, il_if_icmp_eq, ↓sq_if_icmp_ne, il_if_icmp_ne, ↓sq_if_icmp_lt, il_if_icmp_lt, ↓sq_if_icmp_ge, il_if_icmp_ge, ↓sq_if_icmp_gt, il_if_icmp_gt, ↓sq_if_icmp_le, il_if_icmp_le, ↓sq_goto, il_goto, ↓sq_tableswitch, il_tableswitch, ↓sq_lookupswitch, il_lookupswitch, ↓sq_getfield, il_getfield, ↓sq_putfield, il_putfield, ↓sq_iaload, il_iaload, ↓sq_baload, il_baload, ↓sq_laload, il_laload, ↓sq_aaload, il_aaload, ↓sq_arraylength, il_arraylength, ↓sq_iastore, il_iastore, ↓sq_bastore, il_bastore, ↓sq_lastore, il_lastore, ↓sq_getstatic, il_getstatic, ↓sq_ldc2_w, il_ldc2_w, ↓sq_ldc_w, il_ldc_w, ↓sq_ldc, il_ldc, ↓sq_invokevirtual, il_invokevirtual, ↓sq_invokestatic, il_invokestatic, ↓sq_invokespecial, il_invokespecial, ↓sq_return_, il_return_, ↓sq_ireturn, il_ireturn, ↓sq_lreturn, il_lreturn, ↓sq_multianewarray, il_multianewarray, ↓sq_new, il_new, ↓sq_newarray, il_newarray, ↓sq_anewarray, il_anewarray, ↓sq_aastore, il_aastore, wp_s, wpB, gW, inC, ↓sI1, ↓sI2, ↓sL1, ↓sL2, ↓sLI, ↓sR1, ↓sV1, ↓sV2, ↓sIR, ↓sIIR, ↓sLIR, ↓sP, ↓lI, ↓lL, ↓lR, lG, lS, okS, ↓callP, spl, cOK, okM, slN, cS, ↓retP, ↓nF, ↓cpS, vR, fI, eL, bi_0, bi_1, em_l, Value.category, List.length_cons, List.length_nil, List.replicate_succ, List.replicate_zero, true_and, and_true, ↓swL, ↓lkL, Option.toList, List.cons_append, List.nil_append, Classical.not_not, Nat.add_zero, Nat.zero_add, Nat.le_refl, Nat.reduceAdd, Nat.reduceSub, Nat.reduceMul, Nat.reduceLT, Nat.reduceLeDiff, Nat.reduceEqDiff, Nat.reduceBEq, ↓reduceIte, fv_0, fv_1, fv_2, fv_3, fw_0, fw_1, Bool.false_eq_true, Nat.reduceGT, Int.reduceLE, Int.reduceLT, Int.reduceAdd, Int.reduceSub, Int.reduceNeg, Int.reduceToNat, List.size_toArray, Nat.lt_irrefl, or_true, true_or, or_false, false_or, Option.some.injEq, reduceCtorEq, and_self, ite_true, ite_false, true_implies, false_implies, implies_true, not_true_eq_false, not_false_eq_true, dv8, rm8, rm24, cl_nI, vp_nI, n8_0, n24_0, kK_mk, kK_st, kK_cd, kK_sh, kK_it, rR_mk, rR_st, rR_cd, rR_co, rR_sh, rR_it, lt_mk, lt_st, lt_sh, lt_it, lt_cd, kK_0, kK_1, kK_2, kK_3, kK_4, kK_5, kK_6, kK_7, kK_8, kK_9, kK_10, kK_11, kK_12, kK_13, kK_14, kK_15, kK_16, kK_17, kK_18, kK_19, kK_20, kK_21, kK_22, kK_23, kK_24, kK_25, kK_26, kK_27, kK_28, kK_29, kK_30, kK_31, kK_32, kK_33, kK_34, kK_35, kK_36, kK_37, kK_38, kK_39, kK_40, kK_41, kK_42, kK_43, kK_44, kK_45, kK_46, kK_47, kK_48, kK_49, kK_50, kK_51, kK_52, kK_53, kK_54, kK_55, kK_56, kK_57, kK_58, kK_59, kK_60, kK_61, kK_62, kK_63, kK_64, kK_65, kK_66, kK_67, kK_68, kK_69, kK_70, kK_71, kK_72, kK_73, kK_74, kK_75, kK_76, kK_77, kK_78, kK_79, kK_80, kK_81, kK_82, kK_83, kK_84, kK_85, kK_86, kK_87, kK_88, kK_89, kK_90, kK_91, kK_92, kK_93, kK_94, kK_95, kK_96, kK_97, kK_98, kK_99, kK_100, kK_101, kK_102, kK_103, kK_104, kK_105, kK_106, kK_107, kK_108, kK_109, kK_110, kK_111, kK_112, kK_113, kK_114, kK_115, kK_116, kK_117, kK_118, kK_119, kK_120, kK_121, kK_122, kK_123, kK_124, kK_125, kK_126, kK_127, kK_128, kK_129, kK_130, kK_131, kK_132, kK_133, kK_134, kK_135, kK_136, kK_137, kK_138, kK_139, kK_140, kK_141, kK_142, kK_143, kK_144, kK_1000, kK_1001, kK_1002, kK_1010, kK_1011, kK_1012, kK_1013, kK_1014, kK_1015, kK_1016, kK_1017, kK_1018, kK_1019, kK_1020, kK_1021, rR_0_0, rR_0_1, rR_0_2, rR_0_3, rR_0_4, rR_0_5, rR_0_6, rR_0_7, rR_0_8, rR_1_0, rR_1_1, rR_4_0, rR_4_2, rR_38_0, rR_38_3, rR_38_4, rR_38_5, rR_38_6, rR_55_0, rR_55_2, rR_55_3, rR_58_0, rR_58_1, rR_58_2, rR_58_3, rR_60_3, rR_60_4, rR_60_5, rR_60_6, rR_60_7, rR_60_8, rR_60_9, rR_60_10, rR_60_12, rR_60_13, rR_60_14, rR_71_0, rR_71_1, rR_72_1, rR_72_2, rR_72_3, rR_72_4, rR_72_5, rR_72_7, rR_77_2, rR_77_3, rR_77_4, rR_77_5, rR_77_6, rR_77_7, rR_77_8, rR_77_9, rR_77_10, rR_77_11, rR_97_0, rR_97_1, rR_97_5, rR_97_6, rR_97_7, rR_97_8, rR_97_9, rR_97_10, rR_97_11, rR_97_12, rR_97_13, rR_97_16, rR_97_17, rR_97_18, rR_97_23, rR_97_24, rR_97_29, rR_97_30, rR_97_32, rR_97_33, rR_97_34, rR_97_35, rR_97_36, rR_97_40, rR_97_41, rR_97_42, rR_97_43, rR_97_44, rR_97_45, rR_97_46, rR_97_47, rR_97_48, rR_97_49, rR_97_50, rR_97_52, rR_97_53, rR_97_54, rR_97_56, rR_97_58, rR_97_59, rR_97_60, rR_97_61, rR_97_62, rR_97_63, rR_97_64, rR_97_65, rR_97_66]
  exact h
theorem x_269 {x : Int64} (h : K (some (.int (pcL x))) 145 I L (rR c0)) : CK G (d + 4) 269 [.long x] 145 I L (rR c0) K := by
  refine CK_go (b := true) 80 [] (by decide) (pF_ok _ _) ?_
  simp (maxSteps := 4000000) (disch := omega) only [dJ13_bitCount_95d88_0, dJ13_bitCount_95d88_1, dJ13_bitCount_95d88_2, c32_1, dJ13_bitCount_95d88_3, dJ13_bitCount_95d88_4, kl_15_314, dJ13_bitCount_95d88_7, dJ13_bitCount_95d88_8, dJ13_bitCount_95d88_9, dJ13_bitCount_95d88_10, dJ13_bitCount_95d88_11, kl_15_316, dJ13_bitCount_95d88_14, dJ13_bitCount_95d88_15, dJ13_bitCount_95d88_16, c32_2, dJ13_bitCount_95d88_17, dJ13_bitCount_95d88_18, dJ13_bitCount_95d88_21, dJ13_bitCount_95d88_22, dJ13_bitCount_95d88_23, dJ13_bitCount_95d88_24, dJ13_bitCount_95d88_25, dJ13_bitCount_95d88_26, c32_4, dJ13_bitCount_95d88_27, dJ13_bitCount_95d88_28, dJ13_bitCount_95d88_29, kl_15_318, dJ13_bitCount_95d88_32, dJ13_bitCount_95d88_33, dJ13_bitCount_95d88_34, dJ13_bitCount_95d88_35, dJ13_bitCount_95d88_36, i8_8, dJ13_bitCount_95d88_38, dJ13_bitCount_95d88_39, dJ13_bitCount_95d88_40, dJ13_bitCount_95d88_41, dJ13_bitCount_95d88_42, dJ13_bitCount_95d88_43, i8_16, dJ13_bitCount_95d88_45, dJ13_bitCount_95d88_46, dJ13_bitCount_95d88_47, dJ13_bitCount_95d88_48, dJ13_bitCount_95d88_49, dJ13_bitCount_95d88_50, i8_32, dJ13_bitCount_95d88_52, dJ13_bitCount_95d88_53, dJ13_bitCount_95d88_54, dJ13_bitCount_95d88_55, dJ13_bitCount_95d88_56, dJ13_bitCount_95d88_57, i8_127, dJ13_bitCount_95d88_59, dJ13_bitCount_95d88_60, mcc_269, mci_269, mnl_269, mrt_269, mal_269, ↓sq_iconst, il_iconst, ↓sq_bipush, il_bipush, ↓sq_sipush, il_sipush, ↓sq_lconst, il_lconst, ↓sq_iload_n, il_iload_n, ↓sq_iload, il_iload, ↓sq_lload_n, il_lload_n, ↓sq_lload, il_lload, ↓sq_aload_n, il_aload_n, ↓sq_aload, il_aload, ↓sq_istore_n, il_istore_n, ↓sq_istore, il_istore, ↓sq_astore_n, il_astore_n, ↓sq_astore, il_astore, ↓sq_lstore_n, il_lstore_n, ↓sq_lstore, il_lstore, ↓sq_iinc, il_iinc, ↓sq_iadd, il_iadd, ↓sq_isub, il_isub, ↓sq_imul, il_imul, ↓sq_iand, il_iand, ↓sq_ior, il_ior, ↓sq_ixor, il_ixor, ↓sq_ishl, il_ishl, ↓sq_ishr, il_ishr, ↓sq_iushr, il_iushr, ↓sq_idiv, il_idiv, ↓sq_irem, il_irem, ↓sq_ineg, il_ineg, ↓sq_i2b, il_i2b, ↓sq_i2s, il_i2s, ↓sq_i2l, il_i2l, ↓sq_l2i, il_l2i, ↓sq_ladd, il_ladd, ↓sq_lsub, il_lsub, ↓sq_land, il_land, ↓sq_lor, il_lor, ↓sq_lxor, il_lxor, ↓sq_lshl, il_lshl, ↓sq_lshr, il_lshr, ↓sq_lushr, il_lushr, ↓sq_lcmp, il_lcmp, ↓sq_dup, il_dup, ↓sq_pop, il_pop, ↓sq_dup_x1, il_dup_x1, ↓sq_dup2, il_dup2, ↓sq_ifCond_eq, il_ifCond_eq, ↓sq_ifCond_ne, il_ifCond_ne, ↓sq_ifCond_lt, il_ifCond_lt, ↓sq_ifCond_ge, il_ifCond_ge, ↓sq_ifCond_gt, il_ifCond_gt, ↓sq_ifCond_le, il_ifCond_le, ↓sq_if_icmp_eq, il_if_icmp_eq, ↓sq_if_icmp_ne, il_if_icmp_ne, ↓sq_if_icmp_lt, il_if_icmp_lt, ↓sq_if_icmp_ge, il_if_icmp_ge, ↓sq_if_icmp_gt, il_if_icmp_gt, ↓sq_if_icmp_le, il_if_icmp_le, ↓sq_goto, il_goto, ↓sq_tableswitch, il_tableswitch, ↓sq_lookupswitch, il_lookupswitch, ↓sq_getfield, il_getfield, ↓sq_putfield, il_putfield, ↓sq_iaload, il_iaload, ↓sq_baload, il_baload, ↓sq_laload, il_laload, ↓sq_aaload, il_aaload, ↓sq_arraylength, il_arraylength, ↓sq_iastore, il_iastore, ↓sq_bastore, il_bastore, ↓sq_lastore, il_lastore, ↓sq_getstatic, il_getstatic, ↓sq_ldc2_w, il_ldc2_w, ↓sq_ldc_w, il_ldc_w, ↓sq_ldc, il_ldc, ↓sq_invokevirtual, il_invokevirtual, ↓sq_invokestatic, il_invokestatic, ↓sq_invokespecial, il_invokespecial, ↓sq_return_, il_return_, ↓sq_ireturn, il_ireturn, ↓sq_lreturn, il_lreturn, ↓sq_multianewarray, il_multianewarray, ↓sq_new, il_new, ↓sq_newarray, il_newarray, ↓sq_anewarray, il_anewarray, ↓sq_aastore, il_aastore, wp_s, wpB, gW, inC, ↓sI1, ↓sI2, ↓sL1, ↓sL2, ↓sLI, ↓sR1, ↓sV1, ↓sV2, ↓sIR, ↓sIIR, ↓sLIR, ↓sP, ↓lI, ↓lL, ↓lR, lG, lS, okS, ↓callP, spl, cOK, okM, slN, cS, ↓retP, ↓nF, ↓cpS, vR, fI, eL, bi_0, bi_1, em_l, Value.category, List.length_cons, List.length_nil, List.replicate_succ, List.replicate_zero, true_and, and_true, ↓swL, ↓lkL, Option.toList, List.cons_append, List.nil_append, Classical.not_not, Nat.add_zero, Nat.zero_add, Nat.le_refl, Nat.reduceAdd, Nat.reduceSub, Nat.reduceMul, Nat.reduceLT, Nat.reduceLeDiff, Nat.reduceEqDiff, Nat.reduceBEq, ↓reduceIte, fv_0, fv_1, fv_2, fv_3, fw_0, fw_1, Bool.false_eq_true, Nat.reduceGT, Int.reduceLE, Int.reduceLT, Int.reduceAdd, Int.reduceSub, Int.reduceNeg, Int.reduceToNat, List.size_toArray, Nat.lt_irrefl, or_true, true_or, or_false, false_or, Option.some.injEq, reduceCtorEq, and_self, ite_true, ite_false, true_implies, false_implies, implies_true, not_true_eq_false, not_false_eq_true, dv8, rm8, rm24, cl_nI, vp_nI, n8_0, n24_0, kK_mk, kK_st, kK_cd, kK_sh, kK_it, rR_mk, rR_st, rR_cd, rR_co, rR_sh, rR_it, lt_mk, lt_st, lt_sh, lt_it, lt_cd, kK_0, kK_1, kK_2, kK_3, kK_4, kK_5, kK_6, kK_7, kK_8, kK_9, kK_10, kK_11, kK_12, kK_13, kK_14, kK_15, kK_16, kK_17, kK_18, kK_19, kK_20, kK_21, kK_22, kK_23, kK_24, kK_25, kK_26, kK_27, kK_28, kK_29, kK_30, kK_31, kK_32, kK_33, kK_34, kK_35, kK_36, kK_37, kK_38, kK_39, kK_40, kK_41, kK_42, kK_43, kK_44, kK_45, kK_46, kK_47, kK_48, kK_49, kK_50, kK_51, kK_52, kK_53, kK_54, kK_55, kK_56, kK_57, kK_58, kK_59, kK_60, kK_61, kK_62, kK_63, kK_64, kK_65, kK_66, kK_67, kK_68, kK_69, kK_70, kK_71, kK_72, kK_73, kK_74, kK_75, kK_76, kK_77, kK_78, kK_79, kK_80, kK_81, kK_82, kK_83, kK_84, kK_85, kK_86, kK_87, kK_88, kK_89, kK_90, kK_91, kK_92, kK_93, kK_94, kK_95, kK_96, kK_97, kK_98, kK_99, kK_100, kK_101, kK_102, kK_103, kK_104, kK_105, kK_106, kK_107, kK_108, kK_109, kK_110, kK_111, kK_112, kK_113, kK_114, kK_115, kK_116, kK_117, kK_118, kK_119, kK_120, kK_121, kK_122, kK_123, kK_124, kK_125, kK_126, kK_127, kK_128, kK_129, kK_130, kK_131, kK_132, kK_133, kK_134, kK_135, kK_136, kK_137, kK_138, kK_139, kK_140, kK_141, kK_142, kK_143, kK_144, kK_1000, kK_1001, kK_1002, kK_1010, kK_1011, kK_1012, kK_1013, kK_1014, kK_1015, kK_1016, kK_1017, kK_1018, kK_1019, kK_1020, kK_1021, rR_0_0, rR_0_1, rR_0_2, rR_0_3, rR_0_4, rR_0_5, rR_0_6, rR_0_7, rR_0_8, rR_1_0, rR_1_1, rR_4_0, rR_4_2, rR_38_0, rR_38_3, rR_38_4, rR_38_5, rR_38_6, rR_55_0, rR_55_2, rR_55_3, rR_58_0, rR_58_1, rR_58_2, rR_58_3, rR_60_3, rR_60_4, rR_60_5, rR_60_6, rR_60_7, rR_60_8, rR_60_9, rR_60_10, rR_60_12, rR_60_13, rR_60_14, rR_71_0, rR_71_1, rR_72_1, rR_72_2, rR_72_3, rR_72_4, rR_72_5, rR_72_7, rR_77_2, rR_77_3, rR_77_4, rR_77_5, rR_77_6, rR_77_7, rR_77_8, rR_77_9, rR_77_10, rR_77_11, rR_97_0, rR_97_1, rR_97_5, rR_97_6, rR_97_7, rR_97_8, rR_97_9, rR_97_10, rR_97_11, rR_97_12, rR_97_13, rR_97_16, rR_97_17, rR_97_18, rR_97_23, rR_97_24, rR_97_29, rR_97_30, rR_97_32, rR_97_33, rR_97_34, rR_97_35, rR_97_36, rR_97_40, rR_97_41, rR_97_42, rR_97_43, rR_97_44, rR_97_45, rR_97_46, rR_97_47, rR_97_48, rR_97_49, rR_97_50, rR_97_52, rR_97_53, rR_97_54, rR_97_56, rR_97_58, rR_97_59, rR_97_60, rR_97_61, rR_97_62, rR_97_63, rR_97_64, rR_97_65, rR_97_66]
  exact h
end XB
theorem u2c {α : Type} {f : Nat → Nat → α} {a j a' j' : Nat} {v : α} (h : ¬ a' = a) : u2 f a j v a' j' = f a' j' := if_neg (fun z => h z.1)
theorem u2s {α : Type} {f : Nat → Nat → α} {a j j' : Nat} {v : α} (h : ¬ j' = j) : u2 f a j v a j' = f a j' := if_neg (fun z => h z.2)
theorem i10 : ((1 : Int32) = 0) = False := eq_false (by decide)
theorem lgz (x : Int64) : (lg_cmp x (Int64.ofNat 0) = 0) = (x = 0) := propext (lg_cmp_eq _ _)
theorem bi_tr {h : Decidable True} : @bi True h = 1 := bi_t trivial
