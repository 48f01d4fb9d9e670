/-! ===== tokens of a tape: t its bytes, n how many ===== -/
def qLt (v : Nat) : Bool := decide (97 ≤ v ∧ v ≤ 122)
def qDg (v : Nat) : Bool := decide (48 ≤ v ∧ v ≤ 57)
def qBl (v : Nat) : Bool := decide (v = 32 ∨ v = 10)
def qSg (v : Nat) : Bool := decide (v = 40 ∨ v = 41 ∨ v = 59 ∨ v = 43 ∨ v = 45 ∨ v = 42 ∨ v = 60 ∨ v = 61)
def runF (q : Nat → Bool) : Nat → Nat → Nat
  | 0, i => i
  | m + 1, i => if q i = true then runF q m (i + 1) else i
theorem run_b {q : Nat → Bool} : ∀ m i, i ≤ runF q m i ∧ runF q m i ≤ i + m := by
  intro m
  induction m with
  | zero => exact fun i => ⟨Nat.le_refl _, Nat.le_refl _⟩
  | succ m ih =>
    intro i
    unfold runF
    by_cases h : q i = true
    · rw [if_pos h]
      have := ih (i + 1)
      omega
    · rw [if_neg h]
      omega
theorem run_in {q : Nat → Bool} : ∀ m i j, i ≤ j → j < runF q m i → q j = true := by
  intro m
  induction m with
  | zero =>
    intro i j h1 h2
    have h3 : j < i := h2
    omega
  | succ m ih =>
    intro i j h1 h2
    unfold runF at h2
    by_cases h : q i = true
    · rw [if_pos h] at h2
      by_cases e : i = j
      · rw [← e]
        exact h
      · exact ih (i + 1) j (by omega) h2
    · rw [if_neg h] at h2
      omega
theorem run_at {q : Nat → Bool} : ∀ m i, runF q m i < i + m → q (runF q m i) = false := by
  intro m
  induction m with
  | zero =>
    intro i h
    have h3 : i < i + 0 := h
    omega
  | succ m ih =>
    intro i h
    unfold runF at h ⊢
    by_cases e : q i = true
    · rw [if_pos e] at h ⊢
      exact ih (i + 1) (by omega)
    · rw [if_neg e]
      exact Bool.not_eq_true _ ▸ e
/-- one step -/
theorem run_s {q : Nat → Bool} {n i : Nat} (h : i < n) : runF q (n - i) i = if q i = true then runF q (n - (i + 1)) (i + 1) else i := by
  rw [show n - i = (n - (i + 1)) + 1 by omega]
  rfl
theorem run_e {q : Nat → Bool} {n : Nat} : runF q (n - n) n = n := by
  rw [Nat.sub_self]
  rfl
def skN (t : Nat → Nat) (n i : Nat) : Nat := runF (fun j => qBl (t j)) (n - i) i
def enN (t : Nat → Nat) (n i : Nat) : Nat := if qLt (t i) = true then runF (fun j => qLt (t j)) (n - (i + 1)) (i + 1) else if qDg (t i) = true then runF (fun j => qDg (t j)) (n - (i + 1)) (i + 1) else i + 1
theorem sk_b {t : Nat → Nat} {n i : Nat} (h : i ≤ n) : i ≤ skN t n i ∧ skN t n i ≤ n := by
  have := run_b (q := fun j => qBl (t j)) (n - i) i
  unfold skN
  omega
theorem en_b {t : Nat → Nat} {n i : Nat} (h : i < n) : i + 1 ≤ enN t n i ∧ enN t n i ≤ n := by
  have h1 := run_b (q := fun j => qLt (t j)) (n - (i + 1)) (i + 1)
  have h2 := run_b (q := fun j => qDg (t j)) (n - (i + 1)) (i + 1)
  unfold enN
  by_cases a : qLt (t i) = true
  · rw [if_pos a]
    omega
  · rw [if_neg a]
    by_cases b : qDg (t i) = true
    · rw [if_pos b]
      omega
    · rw [if_neg b]
      omega
theorem sk_nb {t : Nat → Nat} {n i : Nat} (h : i ≤ n) (h2 : skN t n i < n) : qBl (t (skN t n i)) = false := by
  unfold skN at h2 ⊢
  exact run_at (q := fun j => qBl (t j)) (n - i) i (by omega)
theorem sk_id {t : Nat → Nat} {n i : Nat} (h : i < n) (h2 : qBl (t i) = false) : skN t n i = i := by
  unfold skN
  rw [run_s h, if_neg (by rw [h2]; decide)]
theorem sk_st {t : Nat → Nat} {n i : Nat} (h : i < n) (h2 : qBl (t i) = true) : skN t n i = skN t n (i + 1) := by
  unfold skN
  rw [run_s h, if_pos h2]
theorem sk_n {t : Nat → Nat} {n : Nat} : skN t n n = n := run_e
def psN (t : Nat → Nat) (n : Nat) : Nat → Nat
  | 0 => skN t n 0
  | k + 1 => if psN t n k < n then skN t n (enN t n (psN t n k)) else n
theorem ps_s {t : Nat → Nat} {n k : Nat} : psN t n (k + 1) = if psN t n k < n then skN t n (enN t n (psN t n k)) else n := rfl
theorem ps_le {t : Nat → Nat} {n : Nat} : ∀ k, psN t n k ≤ n := by
  intro k
  cases k with
  | zero => exact (sk_b (Nat.zero_le _)).2
  | succ k =>
    rw [ps_s]
    by_cases h : psN t n k < n
    · rw [if_pos h]
      exact (sk_b (en_b h).2).2
    · rw [if_neg h]
      exact Nat.le_refl _
theorem ps_nb {t : Nat → Nat} {n : Nat} : ∀ k, psN t n k < n → qBl (t (psN t n k)) = false := by
  intro k
  cases k with
  | zero => exact fun h => sk_nb (Nat.zero_le _) h
  | succ k =>
    intro h
    rw [ps_s] at h ⊢
    by_cases q : psN t n k < n
    · rw [if_pos q] at h ⊢
      exact sk_nb (en_b q).2 h
    · rw [if_neg q] at h
      omega
theorem ps_lt {t : Nat → Nat} {n k : Nat} (h : psN t n k < n) : psN t n k < psN t n (k + 1) := by
  rw [ps_s, if_pos h]
  have h1 := en_b (t := t) h
  have h2 := sk_b (t := t) h1.2
  omega
theorem ps_ge {t : Nat → Nat} {n : Nat} : ∀ k, k ≤ n → k ≤ psN t n k := by
  intro k
  induction k with
  | zero => exact fun _ => Nat.zero_le _
  | succ k ih =>
    intro h
    have h1 := ih (by omega)
    by_cases q : psN t n k < n
    · have := ps_lt q
      omega
    · rw [ps_s, if_neg q]
      exact h
def cnN (t : Nat → Nat) (n : Nat) : Nat := runF (fun k => decide (psN t n k < n)) n 0
theorem cn_le {t : Nat → Nat} {n : Nat} : cnN t n ≤ n := by
  have := (run_b (q := fun k => decide (psN t n k < n)) n 0).2
  unfold cnN
  omega
theorem cn_at {t : Nat → Nat} {n : Nat} : psN t n (cnN t n) = n := by
  have h := ps_le (t := t) (n := n) (cnN t n)
  by_cases q : cnN t n < n
  · have := run_at (q := fun k => decide (psN t n k < n)) n 0 (by unfold cnN at q; omega)
    have h2 : decide (psN t n (cnN t n) < n) = false := this
    have h3 := of_decide_eq_false h2
    omega
  · have h1 := cn_le (t := t) (n := n)
    have h2 := ps_ge (t := t) (n := n) (cnN t n) h1
    omega
theorem cn_in {t : Nat → Nat} {n k : Nat} (h : k < cnN t n) : psN t n k < n := by
  have := run_in (q := fun k => decide (psN t n k < n)) n 0 k (Nat.zero_le _) h
  exact of_decide_eq_true this
theorem cn_out {t : Nat → Nat} {n : Nat} : ∀ r, psN t n (cnN t n + r) = n := by
  intro r
  induction r with
  | zero => exact cn_at
  | succ r ih =>
    rw [show cnN t n + (r + 1) = cnN t n + r + 1 from rfl, ps_s, if_neg (by omega)]
theorem cn_iff {t : Nat → Nat} {n k : Nat} : k < cnN t n ↔ psN t n k < n := by
  constructor
  · exact cn_in
  · intro h
    by_cases q : k < cnN t n
    · exact q
    · have := cn_out (t := t) (n := n) (k - cnN t n)
      rw [show cnN t n + (k - cnN t n) = k by omega] at this
      omega
/-- a place holds this word -/
def spB (t : Nat → Nat) (p e : Nat) (w : List Nat) : Bool := decide (e = p + w.length) && (List.range w.length).all (fun i => decide (t (p + i) = w.getD i 0))
def wdN (t : Nat → Nat) (p e : Nat) : Nat :=
  if spB t p e [115, 105, 122, 101] = true then 3 else if spB t p e [102, 97, 114] = true then 4 else if spB t p e [115, 116, 114, 105, 112] = true then 5 else if spB t p e [104, 111, 117, 114] = true then 6 else if spB t p e [107, 105, 110, 100] = true then 7 else if spB t p e [104, 101, 97, 114, 100] = true then 8 else if spB t p e [98, 114, 101, 97, 99, 104] = true then 9 else if spB t p e [115, 104, 111, 111, 116] = true then 10 else if spB t p e [111, 114] = true then 11 else if spB t p e [97, 110, 100] = true then 12 else if spB t p e [110, 111, 116] = true then 13 else 2
def tkN (t : Nat → Nat) (n p : Nat) : Nat := if qLt (t p) = true then wdN t p (enN t n p) else if qDg (t p) = true then (if enN t n p - p ≤ 4 then 1 else 2) else if qSg (t p) = true then t p else 2
def dgN (t : Nat → Nat) (p : Nat) : Nat → Nat
  | 0 => 0
  | m + 1 => dgN t p m * 10 + (t (p + m) - 48)
def mkE (t : Nat → Nat) (n : Nat) : tE := (cnN t n, (fun k => if psN t n k < n then tkN t n (psN t n k) else 0), psN t n, fun k => nI (dgN t (psN t n k) (enN t n (psN t n k) - psN t n k)))
theorem wd_c {t : Nat → Nat} {p e : Nat} : 2 ≤ wdN t p e ∧ wdN t p e ≤ 13 := by
  unfold wdN
  repeat' split
  all_goals omega
theorem tk_c {t : Nat → Nat} {n p : Nat} : (1 ≤ tkN t n p ∧ tkN t n p ≤ 13) ∨ (qLt (t p) = false ∧ qDg (t p) = false ∧ qSg (t p) = true ∧ tkN t n p = t p) := by
  unfold tkN
  by_cases a : qLt (t p) = true
  · rw [if_pos a]
    have := wd_c (t := t) (p := p) (e := enN t n p)
    omega
  · rw [if_neg a]
    by_cases b : qDg (t p) = true
    · rw [if_pos b]
      left
      split <;> omega
    · rw [if_neg b]
      by_cases c : qSg (t p) = true
      · rw [if_pos c]
        rw [Bool.not_eq_true] at a b
        exact Or.inr ⟨a, b, c, rfl⟩
      · rw [if_neg c]
        omega
theorem sg_v {v : Nat} (h : qSg v = true) : v = 40 ∨ v = 41 ∨ v = 59 ∨ v = 43 ∨ v = 45 ∨ v = 42 ∨ v = 60 ∨ v = 61 := of_decide_eq_true h
theorem dg_lt {t : Nat → Nat} {p : Nat} : ∀ m, (∀ i, i < m → qDg (t (p + i)) = true) → dgN t p m < 10 ^ m := by
  intro m
  induction m with
  | zero => exact fun _ => (by decide : 0 < 10 ^ 0)
  | succ m ih =>
    intro h
    have h1 := ih (fun i hi => h i (by omega))
    have h2 := of_decide_eq_true (h m (by omega))
    show dgN t p m * 10 + (t (p + m) - 48) < 10 ^ (m + 1)
    rw [Nat.pow_succ]
    omega
theorem dg_in {t : Nat → Nat} {n p : Nat} (hp : p < n) (h : qDg (t p) = true) : ∀ i, i < enN t n p - p → qDg (t (p + i)) = true := by
  intro i hi
  cases i with
  | zero => exact h
  | succ i =>
    have hl : ¬ qLt (t p) = true := by
      intro w
      have w1 := of_decide_eq_true w
      have w2 := of_decide_eq_true h
      omega
    have e : enN t n p = runF (fun j => qDg (t j)) (n - (p + 1)) (p + 1) := by
      unfold enN
      rw [if_neg hl, if_pos h]
    rw [e] at hi
    exact run_in (q := fun j => qDg (t j)) (n - (p + 1)) (p + 1) (p + (i + 1)) (by omega) (by omega)
theorem mkE_ok {t : Nat → Nat} {n : Nat} (hn : n ≤ 160) : eOK (mkE t n) := by
  have hc := cn_le (t := t) (n := n)
  refine ⟨show cnN t n ≤ 160 by omega, fun k hk => ?_, fun k hk => ?_, fun k hk => ?_⟩
  · show (if psN t n k < n then tkN t n (psN t n k) else 0) ≠ 0
    rw [if_pos (cn_in hk)]
    rcases tk_c (t := t) (n := n) (p := psN t n k) with h | ⟨-, -, h1, h2⟩
    · omega
    · rw [h2]
      rcases sg_v h1 with h | h | h | h | h | h | h | h <;> omega
  · show (if psN t n k < n then tkN t n (psN t n k) else 0) = 0
    rw [if_neg (fun w => absurd (cn_iff.mpr w) (by have : cnN t n ≤ k := hk; omega))]
  · have h1 : (if psN t n k < n then tkN t n (psN t n k) else 0) = 1 := hk
    by_cases q : psN t n k < n
    · rw [if_pos q] at h1
      have hd : qDg (t (psN t n k)) = true ∧ enN t n (psN t n k) - psN t n k ≤ 4 := by
        unfold tkN at h1
        by_cases a : qLt (t (psN t n k)) = true
        · rw [if_pos a] at h1
          have := wd_c (t := t) (p := psN t n k) (e := enN t n (psN t n k))
          omega
        · rw [if_neg a] at h1
          by_cases b : qDg (t (psN t n k)) = true
          · rw [if_pos b] at h1
            refine ⟨b, ?_⟩
            by_cases c : enN t n (psN t n k) - psN t n k ≤ 4
            · exact c
            · rw [if_neg c] at h1
              omega
          · rw [if_neg b] at h1
            by_cases c : qSg (t (psN t n k)) = true
            · rw [if_pos c] at h1
              rcases sg_v c with h | h | h | h | h | h | h | h <;> omega
            · rw [if_neg c] at h1
              omega
      have hl := dg_lt _ (dg_in q hd.1)
      have h10 : 10 ^ (enN t n (psN t n k) - psN t n k) ≤ 10 ^ 4 := Nat.pow_le_pow_right (by decide) hd.2
      show 0 ≤ nI (dgN t (psN t n k) (enN t n (psN t n k) - psN t n k)) ∧ nI (dgN t (psN t n k) (enN t n (psN t n k) - psN t n k)) ≤ 9999
      have h4 : (10 : Nat) ^ 4 = 10000 := by decide
      exact ⟨nI_pos' (by omega), nI_le (b := 9999) (by omega) (by omega)⟩
    · rw [if_neg q] at h1
      omega
theorem mk_tok {t : Nat → Nat} {n k : Nat} (h : psN t n k < n) : (mkE t n).2.1 k = tkN t n (psN t n k) := if_pos h
theorem mk_lt {t : Nat → Nat} {n : Nat} (ht : ∀ i, t i < 256) (k : Nat) : (mkE t n).2.1 k < 256 := by
  show (if psN t n k < n then tkN t n (psN t n k) else 0) < 256
  by_cases q : psN t n k < n
  · rw [if_pos q]
    rcases tk_c (t := t) (n := n) (p := psN t n k) with h | ⟨-, -, h1, h2⟩
    · omega
    · rw [h2]
      exact ht _
  · rw [if_neg q]
    omega
