/-! ===== the abstract state: the reference's own cells (97 ..), scratch cells out ===== -/
def nn (x : Int32) : Nat := x.toNatClampNeg
def scrF (j : Nat) : Bool := (19 ≤ j && j ≤ 22) || (25 ≤ j && j ≤ 28) || j == 55
def scrC (a : Nat) : Bool := (112 ≤ a && a ≤ 115) || a == 134 || a == 135 || a == 144
def mP (I : MI) : MI := fun a j => if a < 97 then 0 else if scrC a = true then 0 else if a = 97 then (if scrF j = true then 0 else I 97 j) else I a j
/-- the class's cells that hold the state: how many, where, and where the reference has them -/
def lenK (k : Nat) : Nat := (([64, 8, 1, 1, 1, 16, 16, 16, 16, 16, 16, 16, 96, 1, 1, 3, 1, 1, 1, 12, 12, 12, 24, 24, 24, 24, 10, 10, 10, 1, 10, 1, 12, 12, 12, 12, 12, 1, 20, 20, 20, 20, 4, 4, 160] : List Nat)[k]?).getD 0
def xl (k i : Nat) : Nat × Nat := match k with
  | 0 => (2, i)
  | 1 => (3, i)
  | 2 => (1, 2)
  | 3 => (1, 3)
  | 4 => (4, 1)
  | 5 => (6 + 2 * i, 0)
  | 6 => (6 + 2 * i, 1)
  | 7 => (6 + 2 * i, 6)
  | 8 => (6 + 2 * i, 2)
  | 9 => (6 + 2 * i, 8)
  | 10 => (6 + 2 * i, 4)
  | 11 => (6 + 2 * i, 5)
  | 12 => (7 + 2 * (i / 6), i % 6)
  | 13 => (38, 1)
  | 14 => (38, 2)
  | 15 => (39, i)
  | 16 => (60, 0)
  | 17 => (60, 1)
  | 18 => (60, 2)
  | 29 => (72, 0)
  | 30 => (73, i)
  | 31 => (77, 0)
  | 37 => (77, 1)
  | 38 => (85, i)
  | 39 => (78, i)
  | 40 => (86, i)
  | 41 => (87, i)
  | 42 => (89 + 2 * i, 0)
  | 43 => (89 + 2 * i, 2)
  | 44 => (90 + 2 * (i / 40), i % 40)
  | k => if k < 29 then (k + 42, i) else (k + 48, i)
def ml (k i : Nat) : Nat × Nat := match k with
  | 0 => (98, i)
  | 1 => (99, i)
  | 2 => (97, 2)
  | 3 => (97, 3)
  | 4 => (97, 4)
  | 5 => (100, i)
  | 6 => (101, i)
  | 7 => (102, i)
  | 8 => (103, i)
  | 9 => (104, i)
  | 10 => (106, i)
  | 11 => (107, i)
  | 12 => (105, i)
  | 13 => (97, 15)
  | 14 => (97, 14)
  | 15 => (109, i)
  | 16 => (97, 37)
  | 17 => (97, 38)
  | 18 => (97, 39)
  | 29 => (97, 51)
  | 30 => (132, i)
  | 31 => (97, 31)
  | 37 => (97, 57)
  | 38 => (136, i)
  | 39 => (137, i)
  | 40 => (138, i)
  | 41 => (139, i)
  | 42 => (141, i)
  | 43 => (142, i)
  | 44 => (143, i)
  | k => if k < 29 then (k + 102, i) else (k + 84, i)
def xi (c s : Nat) : Nat × Nat :=
  if c = 2 then (0, s) else if c = 3 then (1, s) else if c = 1 then (if s = 2 then (2, 0) else (3, 0)) else if c = 4 then (4, 0)
  else if 6 ≤ c ∧ c ≤ 37 then (if c % 2 = 0 then ((([5, 6, 8, 99, 10, 11, 7, 99, 9] : List Nat)[s]?).getD 99, (c - 6) / 2) else (12, 6 * ((c - 7) / 2) + s))
  else if c = 38 then (if s = 1 then (13, 0) else (14, 0)) else if c = 39 then (15, s) else if c = 60 then (16 + s, 0) else if 61 ≤ c ∧ c ≤ 70 then (c - 42, s)
  else if c = 72 then (29, 0) else if c = 73 then (30, s) else if c = 77 then (if s = 0 then (31, 0) else (37, 0)) else if 80 ≤ c ∧ c ≤ 84 then (c - 48, s)
  else if c = 85 then (38, s) else if c = 78 then (39, s) else if c = 86 then (40, s) else if c = 87 then (41, s)
  else if 89 ≤ c ∧ c ≤ 96 then (if c % 2 = 1 then (if s = 0 then (42, (c - 89) / 2) else (43, (c - 89) / 2)) else (44, 40 * ((c - 90) / 2) + s)) else (99, 0)
def mv (c s : Nat) : Nat × Nat :=
  if c = 98 then (0, s) else if c = 99 then (1, s) else if c = 97 then ((([99, 99, 2, 3, 4, 99, 99, 99, 99, 99, 99, 99, 99, 99, 14, 13, 99, 99, 99, 99, 99, 99, 99, 99, 99, 99, 99, 99, 99, 99, 99, 31, 99, 99, 99, 99, 99, 16, 17, 18, 99, 99, 99, 99, 99, 99, 99, 99, 99, 99, 99, 29, 99, 99, 99, 99, 99, 37] : List Nat)[s]?).getD 99, 0)
  else if c = 100 then (5, s) else if c = 101 then (6, s) else if c = 102 then (7, s) else if c = 103 then (8, s) else if c = 104 then (9, s) else if c = 106 then (10, s) else if c = 107 then (11, s) else if c = 105 then (12, s)
  else if c = 109 then (15, s) else if 121 ≤ c ∧ c ≤ 130 then (c - 102, s) else if c = 132 then (30, s) else if 116 ≤ c ∧ c ≤ 120 then (c - 84, s) else if 136 ≤ c ∧ c ≤ 139 then (c - 98, s) else if 141 ≤ c ∧ c ≤ 143 then (c - 99, s) else (99, 0)
theorem xi_ok : ∀ k, k < 45 → ∀ i, i < lenK k → xi (xl k i).1 (xl k i).2 = (k, i) := by decide +kernel
theorem mv_ok : ∀ k, k < 45 → ∀ i, i < lenK k → mv (ml k i).1 (ml k i).2 = (k, i) := by decide +kernel
theorem xl_inj {k i k' i' : Nat} (hk : k < 45) (hi : i < lenK k) (hk' : k' < 45) (hi' : i' < lenK k') (h : xl k i = xl k' i') : k = k' ∧ i = i' := by
  have h1 := xi_ok k hk i hi
  rw [h, xi_ok k' hk' i' hi'] at h1
  cases h1
  exact ⟨rfl, rfl⟩
theorem ml_inj {k i k' i' : Nat} (hk : k < 45) (hi : i < lenK k) (hk' : k' < 45) (hi' : i' < lenK k') (h : ml k i = ml k' i') : k = k' ∧ i = i' := by
  have h1 := mv_ok k hk i hi
  rw [h, mv_ok k' hk' i' hi'] at h1
  cases h1
  exact ⟨rfl, rfl⟩
def SR (I A : MI) : Prop := ∀ k, k < 45 → ∀ i, i < lenK k → I (xl k i).1 (xl k i).2 = A (ml k i).1 (ml k i).2
theorem u2_eq {α : Type} {f : Nat → Nat → α} {a j : Nat} {v : α} : u2 f a j v a j = v := if_pos ⟨rfl, rfl⟩
theorem u2_no {α : Type} {f : Nat → Nat → α} {a j a' j' : Nat} {v : α} (h : ¬ (a' = a ∧ j' = j)) : u2 f a j v a' j' = f a' j' := if_neg h
theorem SR.upd {I A : MI} (h : SR I A) {k i : Nat} (hk : k < 45) (hi : i < lenK k) (v : Int32) : SR (u2 I (xl k i).1 (xl k i).2 v) (u2 A (ml k i).1 (ml k i).2 v) := by
  intro k' hk' i' hi'
  by_cases e : xl k' i' = xl k i
  · obtain ⟨rfl, rfl⟩ := xl_inj hk' hi' hk hi e
    rw [u2_eq, u2_eq]
  · have e1 : ¬ ((xl k' i').1 = (xl k i).1 ∧ (xl k' i').2 = (xl k i).2) := fun z => e (Prod.ext z.1 z.2)
    have e2 : ¬ ((ml k' i').1 = (ml k i).1 ∧ (ml k' i').2 = (ml k i).2) := fun z => by
      obtain ⟨rfl, rfl⟩ := ml_inj hk' hi' hk hi (Prod.ext z.1 z.2)
      exact e rfl
    rw [u2_no e1, u2_no e2]
    exact h k' hk' i' hi'
/-! numbers within -/
def bd (x : Int32) (n : Nat) : Prop := x = nI (nn x) ∧ nn x < n
theorem bd_nI {k n : Nat} (h : k < n) (hn : n ≤ 2 ^ 30) : bd (nI k) n := by
  have : nn (nI k) = k := nI_clamp (by omega)
  exact ⟨by rw [this], by rw [this]; exact h⟩
def bnd (k : Nat) : Nat := (([10, 9, 5, 6, 17, 6, 3, 64, 100, 7, 2, 2, 64, 7, 161, 6, 13, 25, 11, 4, 64, 1000, 16, 1000, 2, 2, 12, 16777216, 1024, 11, 64, 13, 100, 8, 8, 1000, 1000, 21, 2, 1000, 1000, 1000, 3, 41, 0] : List Nat)[k]?).getD 0
def bdK (k : Nat) (x : Int32) : Prop := bd x (bnd k) ∨ ((k = 41 ∨ k = 42) ∧ x = -1) ∨ k = 44
def BI (A : MI) : Prop := ∀ k, k < 45 → ∀ i, i < lenK k → bdK k (A (ml k i).1 (ml k i).2)
theorem BI.upd {A : MI} (h : BI A) {k i : Nat} (hk : k < 45) (hi : i < lenK k) {v : Int32} (hv : bdK k v) : BI (u2 A (ml k i).1 (ml k i).2 v) := by
  intro k' hk' i' hi'
  by_cases e : ml k' i' = ml k i
  · obtain ⟨rfl, rfl⟩ := ml_inj hk' hi' hk hi e
    rw [u2_eq]
    exact hv
  · rw [u2_no (fun z => e (Prod.ext z.1 z.2))]
    exact h k' hk' i' hi'
theorem BI.at {A : MI} (h : BI A) {k i : Nat} (hk : k < 41 ∨ k = 43) (hi : i < lenK k) : bd (A (ml k i).1 (ml k i).2) (bnd k) := by
  rcases h k (by omega) i hi with q | ⟨q, -⟩ | q
  · exact q
  · omega
  · omega
/-! the parts of the relation that aren't one place for one place -/
def earF (x : Int32) : Int32 := if x = 1 then 4 else if x = 3 then 5 else if x = 4 then 10 else if x = 5 then 2 else 0
/-- a step of a part: the reference's number, the class's -/
def encX (x : Int32) : Int32 := if 10000 ≤ x then -(x - 10000 + 3) else if x = -1 then -11 else if x = -2 then -12 else if x = -3 then -13 else if x = -4 then -60 else if x = -5 then -61 else if x = -6 then -43 else if x = -7 then -45 else if x = -8 then -42 else if x = -9 then -14 else x
def earR (I A : MI) : Prop := ∀ m, m < 16 → I (6 + 2 * m) 3 = earF (A 100 m)
def tapR (I A : MI) : Prop := ∀ i, i < nn (A 97 14) → I 40 i = A 108 i &&& 255
def codR (I A : MI) : Prop := ∀ p, p < 2 * nn (A 97 15) → (∀ k, k < nn (A 110 p) → I (42 + p) k = encX (A 111 (160 * p + k))) ∧ I (42 + p) (nn (A 110 p)) = -1
def bkB (I : MI) (r : Nat) : Prop := ¬ I 60 11 >>> (nI r &&& 31) &&& 1 = 0
def bckR (I A : MI) : Prop := (∀ r, r < 24 → (bkB I r ↔ ¬ A 131 r = 0)) ∧ bd (I 60 11) 16777216
def XRel (I A : MI) : Prop := SR I A ∧ earR I A ∧ tapR I A ∧ codR I A ∧ bckR I A
theorem xl_apart : ∀ k, k < 45 → ∀ i, i < lenK k → (xl k i).1 < 97 ∧ (xl k i).1 ≠ 40 ∧ ¬ (42 ≤ (xl k i).1 ∧ (xl k i).1 ≤ 53) ∧ ¬ ((xl k i).1 = 60 ∧ (xl k i).2 = 11) ∧ ¬ (6 ≤ (xl k i).1 ∧ (xl k i).1 ≤ 37 ∧ (xl k i).1 % 2 = 0 ∧ (xl k i).2 = 3) := by decide +kernel
theorem ml_apart : ∀ k, k < 45 → ∀ i, i < lenK k → 97 ≤ (ml k i).1 ∧ (ml k i).1 ≠ 108 ∧ (ml k i).1 ≠ 110 ∧ (ml k i).1 ≠ 111 ∧ (ml k i).1 ≠ 131 ∧ ((ml k i).1 = 100 → k = 5) ∧ ((ml k i).1 = 97 → (ml k i).2 = 14 → k = 14) ∧ ((ml k i).1 = 97 → (ml k i).2 = 15 → k = 13) ∧ scrC (ml k i).1 = false ∧ ((ml k i).1 = 97 → scrF (ml k i).2 = false) := by
  have h1 : ∀ k, k < 45 → ∀ i, i < lenK k → 97 ≤ (ml k i).1 ∧ (ml k i).1 ≠ 108 ∧ (ml k i).1 ≠ 110 ∧ (ml k i).1 ≠ 111 ∧ (ml k i).1 ≠ 131 := by decide +kernel
  have h2 : ∀ k, k < 45 → ∀ i, i < lenK k → ((ml k i).1 = 100 → k = 5) ∧ ((ml k i).1 = 97 → (ml k i).2 = 14 → k = 14) ∧ ((ml k i).1 = 97 → (ml k i).2 = 15 → k = 13) := by decide +kernel
  have h3 : ∀ k, k < 45 → ∀ i, i < lenK k → scrC (ml k i).1 = false ∧ ((ml k i).1 = 97 → scrF (ml k i).2 = false) := by decide +kernel
  intro k hk i hi
  obtain ⟨a1, a2, a3, a4, a5⟩ := h1 k hk i hi
  obtain ⟨b1, b2, b3⟩ := h2 k hk i hi
  obtain ⟨c1, c2⟩ := h3 k hk i hi
  exact ⟨a1, a2, a3, a4, a5, b1, b2, b3, c1, c2⟩
theorem earR.upd {I A : MI} (h : earR I A) {k i : Nat} (hk : k < 45) (hi : i < lenK k) (h5 : k ≠ 5) (v : Int32) : earR (u2 I (xl k i).1 (xl k i).2 v) (u2 A (ml k i).1 (ml k i).2 v) := by
  intro m hm
  obtain ⟨-, -, -, -, x5⟩ := xl_apart k hk i hi
  obtain ⟨-, -, -, -, -, y, -⟩ := ml_apart k hk i hi
  rw [u2_no (fun z => x5 (by omega)), u2_no (fun z => h5 (y z.1.symm))]
  exact h m hm
theorem tapR.upd {I A : MI} (h : tapR I A) {k i : Nat} (hk : k < 45) (hi : i < lenK k) (h5 : k ≠ 14) (v : Int32) : tapR (u2 I (xl k i).1 (xl k i).2 v) (u2 A (ml k i).1 (ml k i).2 v) := by
  obtain ⟨-, x2, -⟩ := xl_apart k hk i hi
  obtain ⟨-, y1, -, -, -, -, y, -⟩ := ml_apart k hk i hi
  intro j hj
  rw [u2_no (fun z => h5 (y z.1.symm z.2.symm))] at hj
  rw [u2_no (fun z => x2 z.1.symm), u2_no (fun z => y1 z.1.symm)]
  exact h j hj
theorem codR.upd {I A : MI} (h : codR I A) {k i : Nat} (hk : k < 45) (hi : i < lenK k) (h5 : k ≠ 13) (hn : nn (A 97 15) ≤ 6) (v : Int32) : codR (u2 I (xl k i).1 (xl k i).2 v) (u2 A (ml k i).1 (ml k i).2 v) := by
  obtain ⟨-, -, x3, -⟩ := xl_apart k hk i hi
  obtain ⟨-, -, y1, y2, -, -, -, y, -⟩ := ml_apart k hk i hi
  intro p hp
  rw [u2_no (fun z => h5 (y z.1.symm z.2.symm))] at hp
  rw [u2_no (a' := 110) (fun z => y1 z.1.symm)]
  obtain ⟨h1, h2⟩ := h p hp
  refine ⟨fun q hq => ?_, ?_⟩
  · rw [u2_no (fun z => x3 (by omega)), u2_no (fun z => y2 z.1.symm)]
    exact h1 q hq
  · rw [u2_no (fun z => x3 (by omega))]
    exact h2
theorem bckR.upd {I A : MI} (h : bckR I A) {k i : Nat} (hk : k < 45) (hi : i < lenK k) (v : Int32) : bckR (u2 I (xl k i).1 (xl k i).2 v) (u2 A (ml k i).1 (ml k i).2 v) := by
  obtain ⟨-, -, -, x4, -⟩ := xl_apart k hk i hi
  obtain ⟨-, -, -, -, y1, -⟩ := ml_apart k hk i hi
  unfold bckR bkB
  rw [u2_no (a' := 60) (j' := 11) (fun z => x4 ⟨z.1.symm, z.2.symm⟩)]
  refine ⟨fun r hr => ?_, h.2⟩
  rw [u2_no (a' := 131) (fun z => y1 z.1.symm)]
  exact h.1 r hr
theorem XRel.upd {I A : MI} (h : XRel I A) (hn : nn (A 97 15) ≤ 6) {k i : Nat} (hk : k < 45) (hi : i < lenK k) (h5 : k ≠ 5 ∧ k ≠ 13 ∧ k ≠ 14) (v : Int32) : XRel (u2 I (xl k i).1 (xl k i).2 v) (u2 A (ml k i).1 (ml k i).2 v) :=
  ⟨h.1.upd hk hi v, h.2.1.upd hk hi h5.1 v, h.2.2.1.upd hk hi h5.2.2 v, h.2.2.2.1.upd hk hi h5.2.1 hn v, h.2.2.2.2.upd hk hi v⟩
/-! a part of a text is in order: behind each step, how many numbers lie on the pile -/
def dpS (x : Int32) : Int := if 0 ≤ x then 1 else if x = -3 ∨ x = -9 then 0 else -1
def ndS (x : Int32) : Nat := if 0 ≤ x then 0 else if x = -3 ∨ x = -9 then 1 else 2
def okC (c : Nat → Int32) : Nat → Nat → Prop
  | 0, n => n = 0
  | k + 1, n => ∃ m, okC c k m ∧ ndS (c k) ≤ m ∧ (n : Int) = m + dpS (c k)
def stp (x : Int32) : Prop := (0 ≤ x ∧ x ≤ 9999) ∨ (10000 ≤ x ∧ x ≤ 10005) ∨ (-9 ≤ x ∧ x ≤ -1)
def codI (A : MI) : Prop := ∀ p, p < 2 * nn (A 97 15) → bd (A 110 p) 161 ∧ (∀ k, k < nn (A 110 p) → stp (A 111 (160 * p + k))) ∧ okC (fun k => A 111 (160 * p + k)) (nn (A 110 p)) 1
def AInv (A : MI) : Prop := BI A ∧ (1 ≤ nn (A 97 15)) ∧ (∀ k, k < 3 → nn (A 109 k) < nn (A 97 15)) ∧ (∀ r, r < 24 → (A 131 r = 0 ∨ A 131 r = 1) ∧ (nn (A 97 38) ≤ r → A 131 r = 0)) ∧ codI A
theorem AInv.upd {A : MI} (h : AInv A) {k i : Nat} (hk : k < 45) (hi : i < lenK k) (h5 : k ≠ 13 ∧ k ≠ 15 ∧ k ≠ 17) {v : Int32} (hv : bdK k v) : AInv (u2 A (ml k i).1 (ml k i).2 v) := by
  obtain ⟨h1, h2, h3, h4, h6⟩ := h
  obtain ⟨-, -, y1, y2, y3, -, -, y, -⟩ := ml_apart k hk i hi
  have e15 : u2 A (ml k i).1 (ml k i).2 v 97 15 = A 97 15 := u2_no (fun z => h5.1 (y z.1.symm z.2.symm))
  have n109 : ∀ q, u2 A (ml k i).1 (ml k i).2 v 109 q = A 109 q := fun q => u2_no (fun z => by
    have : ∀ k, k < 45 → ∀ i, i < lenK k → (ml k i).1 = 109 → k = 15 := by decide +kernel
    exact h5.2.1 (this k hk i hi z.1.symm))
  have n38 : u2 A (ml k i).1 (ml k i).2 v 97 38 = A 97 38 := u2_no (fun z => by
    have : ∀ k, k < 45 → ∀ i, i < lenK k → (ml k i).1 = 97 → (ml k i).2 = 38 → k = 17 := by decide +kernel
    exact h5.2.2 (this k hk i hi z.1.symm z.2.symm))
  refine ⟨h1.upd hk hi hv, by rw [e15]; exact h2, fun q hq => by rw [e15, n109]; exact h3 q hq, fun r hr => ?_, fun p hp => ?_⟩
  · rw [u2_no (a' := 131) (fun z => y3 z.1.symm), n38]
    exact h4 r hr
  · rw [e15] at hp
    have e1 : ∀ q, u2 A (ml k i).1 (ml k i).2 v 110 q = A 110 q := fun q => u2_no (fun z => y1 z.1.symm)
    have e2 : ∀ q, u2 A (ml k i).1 (ml k i).2 v 111 q = A 111 q := fun q => u2_no (fun z => y2 z.1.symm)
    simp only [e1, e2]
    exact h6 p hp
/-! what is kept of the cells of the other side -/
def sameM (I' I : MI) : Prop := ∀ a, 97 ≤ a → I' a = I a
def sameX (I' I : MI) : Prop := ∀ a, a < 97 → I' a = I a
theorem mP_same {I' I : MI} (h : sameM I' I) : mP I' = mP I := by
  funext a j
  unfold mP
  by_cases q : a < 97
  · rw [if_pos q, if_pos q]
  · rw [if_neg q, if_neg q, h a (by omega), h 97 (by omega)]
theorem XRel.same {I I' A : MI} (h : XRel I A) (hs : sameX I' I) (hn : nn (A 97 15) ≤ 6) : XRel I' A := by
  obtain ⟨h1, h2, h3, h4, h5⟩ := h
  refine ⟨fun k hk i hi => ?_, fun m hm => ?_, fun i hi => ?_, fun p hp => ?_, ?_⟩
  · rw [hs _ (xl_apart k hk i hi).1]
    exact h1 k hk i hi
  · rw [hs _ (by omega)]
    exact h2 m hm
  · rw [hs _ (by omega)]
    exact h3 i hi
  · rw [hs _ (by omega)]
    exact h4 p hp
  · unfold bckR bkB
    rw [hs 60 (by omega)]
    exact h5
theorem mP_u2 {I : MI} {k i : Nat} (hk : k < 45) (hi : i < lenK k) (v : Int32) : mP (u2 I (ml k i).1 (ml k i).2 v) = u2 (mP I) (ml k i).1 (ml k i).2 v := by
  obtain ⟨y0, -, -, -, -, -, -, -, y8, y9⟩ := ml_apart k hk i hi
  generalize ml k i = q at *
  obtain ⟨b, s⟩ := q
  funext a j
  unfold mP u2
  dsimp only at *
  by_cases e : a = b ∧ j = s
  · obtain ⟨rfl, rfl⟩ := e
    rw [if_neg (show ¬ a < 97 by omega), if_neg (show ¬ scrC a = true by rw [y8]; decide)]
    by_cases z : a = 97
    · rw [if_pos z, if_neg (show ¬ scrF j = true by rw [y9 z]; decide), if_pos (show 97 = a ∧ j = j from ⟨z.symm, rfl⟩), if_pos (show a = a ∧ j = j from ⟨rfl, rfl⟩)]
    · rw [if_neg z, if_pos (show a = a ∧ j = j from ⟨rfl, rfl⟩), if_pos (show a = a ∧ j = j from ⟨rfl, rfl⟩)]
  · rw [if_neg e, if_neg e]
    by_cases z1 : a < 97
    · rw [if_pos z1, if_pos z1]
    · rw [if_neg z1, if_neg z1]
      by_cases z2 : scrC a = true
      · rw [if_pos z2, if_pos z2]
      · rw [if_neg z2, if_neg z2]
        by_cases z3 : a = 97
        · rw [if_pos z3, if_pos z3]
          by_cases z4 : scrF j = true
          · rw [if_pos z4, if_pos z4]
          · rw [if_neg z4, if_neg z4, if_neg (fun z => e ⟨z3.trans z.1, z.2⟩)]
        · rw [if_neg z3, if_neg z3]
theorem sameX_u2 {I : MI} {a j : Nat} {v : Int32} (h : 97 ≤ a) : sameX (u2 I a j v) I := fun b hb => u2_ne (by omega)
theorem sameM_u2 {I : MI} {a j : Nat} {v : Int32} (h : a < 97) : sameM (u2 I a j v) I := fun b hb => u2_ne (by omega)
theorem sameX.tr {I I' I'' : MI} (h : sameX I'' I') (h2 : sameX I' I) : sameX I'' I := fun a ha => (h a ha).trans (h2 a ha)
theorem sameM.tr {I I' I'' : MI} (h : sameM I'' I') (h2 : sameM I' I) : sameM I'' I := fun a ha => (h a ha).trans (h2 a ha)
theorem sameX.rf {I : MI} : sameX I I := fun _ _ => rfl
theorem sameM.rf {I : MI} : sameM I I := fun _ _ => rfl
