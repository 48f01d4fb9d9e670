/-! a text's part worked out: how many numbers lie on the pile, and which -/
def upN (f : Nat → Int32) (i : Nat) (v : Int32) : Nat → Int32 := fun j => if j = i then v else f j
def evS (x : Int32) (fc : Nat → Int32) (q : Nat × (Nat → Int32)) : Nat × (Nat → Int32) := if 0 ≤ x then (q.1 + 1, upN q.2 q.1 (if 10000 ≤ x then fc (nn (x - 10000)) else x)) else if x = -3 ∨ x = -9 then (q.1, upN q.2 (q.1 - 1) (w1F (-(encX x)) (q.2 (q.1 - 1)))) else (q.1 - 1, upN q.2 (q.1 - 2) (w2F (-(encX x)) (q.2 (q.1 - 2)) (q.2 (q.1 - 1))))
def evN (c : Nat → Int32) (fc : Nat → Int32) : Nat → Nat × (Nat → Int32)
  | 0 => (0, fun _ => 0)
  | k + 1 => evS (c k) fc (evN c fc k)
def evF (A : MI) (p : Nat) (fc : Nat → Int32) : Int32 := (evN (fun k => A 111 (160 * p + k)) fc (nn (A 110 p))).2 0
theorem evN_n (c fc : Nat → Int32) : ∀ k n, okC c k n → (evN c fc k).1 = n := by
  intro k
  induction k with
  | zero =>
    intro n h
    exact (show n = 0 from h).symm
  | succ k ih =>
    intro n h
    obtain ⟨m, h1, h2, h3⟩ := h
    have e := ih m h1
    show (evS (c k) fc (evN c fc k)).1 = n
    unfold evS
    unfold dpS at h3
    unfold ndS at h2
    by_cases z : 0 ≤ c k
    · rw [if_pos z] at h3 ⊢
      show (evN c fc k).1 + 1 = n
      omega
    · rw [if_neg z] at h3 h2 ⊢
      by_cases y : c k = -3 ∨ c k = -9
      · rw [if_pos y] at h3 ⊢
        show (evN c fc k).1 = n
        omega
      · rw [if_neg y] at h3 h2 ⊢
        show (evN c fc k).1 - 1 = n
        omega
theorem okC_le (c : Nat → Int32) : ∀ k n, okC c k n → n ≤ k := by
  intro k
  induction k with
  | zero =>
    intro n h
    exact Nat.le_of_eq h
  | succ k ih =>
    intro n h
    obtain ⟨m, h1, h2, h3⟩ := h
    have e := ih m h1
    unfold dpS at h3
    split at h3
    · omega
    · split at h3 <;> omega
theorem okC_dn (c : Nat → Int32) : ∀ j k n, okC c (k + j) n → ∃ m, okC c k m := by
  intro j
  induction j with
  | zero => exact fun k n h => ⟨n, h⟩
  | succ j ih =>
    intro k n h
    obtain ⟨m, h1, -⟩ := (show okC c (k + j + 1) n from h)
    exact ih k m h1
