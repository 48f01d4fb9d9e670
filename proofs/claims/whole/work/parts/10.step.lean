
/-! ===== one instruction as a condition on the rest ===== -/
abbrev tK : Type := Nat → List (Option Value) → List Value → Nat → MI → ML → MR → Prop
abbrev tQ : Type := Option Value → Nat → MI → ML → MR → Prop
def bi (p : Prop) [Decidable p] : Int32 := if p then 1 else 0
theorem bi_0 (p : Prop) [Decidable p] : (bi p = 0) = ¬ p := by
  unfold bi
  by_cases h : p <;> simp [h]
theorem bi_01 (p : Prop) [Decidable p] : (bi p = 0 ∨ bi p = 1) = True := by
  unfold bi
  by_cases h : p <;> simp [h]
theorem bi_t {p : Prop} [Decidable p] (h : p) : bi p = 1 := if_pos h
theorem bi_f {p : Prop} [Decidable p] (h : ¬ p) : bi p = 0 := if_neg h
theorem bi_c {p q : Prop} [Decidable p] [Decidable q] (h : p ↔ q) : bi p = bi q := by
  unfold bi
  by_cases z : p
  · rw [if_pos z, if_pos (h.mp z)]
  · rw [if_neg z, if_neg (fun y => z (h.mpr y))]
def jK (pc : Nat) (off : Int) (K : Nat → Prop) : Prop := 0 ≤ (pc : Int) + off ∧ K ((pc : Int) + off).toNat
theorem jK_eq {pc t : Nat} {off : Int} {K : Nat → Prop} (h : (pc : Int) + off = (t : Int)) : jK pc off K = K t := by
  unfold jK
  rw [h]
  simp
def sI1 (st : List Value) (K : Int32 → List Value → Prop) : Prop := match st with | .int x :: r => K x r | _ => False
def sI2 (st : List Value) (K : Int32 → Int32 → List Value → Prop) : Prop := match st with | .int y :: .int x :: r => K x y r | _ => False
def sL1 (st : List Value) (K : Int64 → List Value → Prop) : Prop := match st with | .long x :: r => K x r | _ => False
def sL2 (st : List Value) (K : Int64 → Int64 → List Value → Prop) : Prop := match st with | .long y :: .long x :: r => K x y r | _ => False
def sLI (st : List Value) (K : Int64 → Int32 → List Value → Prop) : Prop := match st with | .int y :: .long x :: r => K x y r | _ => False
def sR1 (st : List Value) (K : Nat → List Value → Prop) : Prop := match st with | .ref x :: r => K x r | _ => False
def sV1 (st : List Value) (K : Value → List Value → Prop) : Prop := match st with | v :: r => K v r | _ => False
def sV2 (st : List Value) (K : Value → Value → List Value → Prop) : Prop := match st with | v :: w :: r => K v w r | _ => False
def sIR (st : List Value) (K : Int32 → Nat → List Value → Prop) : Prop := match st with | .int i :: .ref a :: r => K i a r | _ => False
def sIIR (st : List Value) (K : Int32 → Int32 → Nat → List Value → Prop) : Prop := match st with | .int x :: .int i :: .ref a :: r => K x i a r | _ => False
def sLIR (st : List Value) (K : Int64 → Int32 → Nat → List Value → Prop) : Prop := match st with | .long x :: .int i :: .ref a :: r => K x i a r | _ => False
def sP (st : List Value) (KI : Int32 → Nat → List Value → Prop) (KR : Nat → Nat → List Value → Prop) : Prop := match st with | .int x :: .ref a :: r => KI x a r | .ref b :: .ref a :: r => KR b a r | _ => False
def lI (ls : List (Option Value)) (j : Nat) (K : Int32 → Prop) : Prop := match lG ls j with | some (.int x) => K x | _ => False
def lL (ls : List (Option Value)) (j : Nat) (K : Int64 → Prop) : Prop := match lG ls j with | some (.long x) => K x | _ => False
def lR (ls : List (Option Value)) (j : Nat) (K : Nat → Prop) : Prop := match lG ls j with | some (.ref x) => K x | _ => False
def spl : Nat → List Value → List Value → Option (List Value × List Value)
  | 0, acc, st => some (acc, st)
  | _ + 1, _, [] => none
  | n + 1, acc, v :: st => spl n (v :: acc) st
def swL (x : Int32) : Int → List Int → (Int → Prop) → Prop
  | _, [], _ => True
  | lo, o :: l, K => (x = Int32.ofInt lo → K o) ∧ swL x (lo + 1) l K
def lkL (x : Int32) : List (Int × Int) → Prop → (Int → Prop) → Prop
  | [], D, _ => D
  | q :: l, D, K => (x = Int32.ofInt q.1 → K q.2) ∧ (¬ x = Int32.ofInt q.1 → lkL x l D K)


/-! pure methods: no state is read -/
def abI (x : Int32) : Int32 := if 0 ≤ x then x else 0 - x
def mxI (x y : Int32) : Int32 := if x < y then y else x
def mnI (x y : Int32) : Int32 := if y < x then y else x
def rmI (x y : Int32) : Int32 := x - x / y * y
def apI (a b : Int32) : Int32 := mxI (abI (rmI a 8 - rmI b 8)) (abI (a / 8 - b / 8))
def ngtI (h : Int32) : Prop := rmI h 24 < 6 ∨ 19 < rmI h 24

def pFv (mj : Nat) (as : List Value) : Option Value := if mj = 157 then (match as with | [.int n, .int a, .int b] => some (.int (bi (a ≤ n ∧ n ≤ b))) | _ => none) else if mj = 158 then (match as with | [.int n] => some (.int (bi (0 ≤ n ∧ n ≤ 63))) | _ => none) else if mj = 159 then (match as with | [.int n] => some (.int (bi (0 ≤ n ∧ n ≤ 999))) | _ => none) else if mj = 160 then (match as with | [.int n] => some (.int (bi (0 ≤ n ∧ n ≤ 2))) | _ => none) else if mj = 163 then (match as with | [.int n] => some (.int (bi (0 ≤ n ∧ n ≤ 5))) | _ => none) else if mj = 164 then (match as with | [.int n] => some (.int (bi (0 ≤ n ∧ n ≤ 3))) | _ => none) else if mj = 161 then (match as with | [.int n] => some (.int (bi (n = 0 ∨ n = 1))) | _ => none) else if mj = 162 then (match as with | [.int n] => some (.int (bi (n = 0 ∨ n = 1))) | _ => none) else if mj = 165 then (match as with | [.int n, .int a] => some (.int (bi (0 ≤ n ∧ n < 1 <<< (a &&& 31)))) | _ => none) else if mj = 166 then (match as with | [.int n, .int a] => some (.int (bi (¬ n >>> (a &&& 31) &&& 1 = 0))) | _ => none) else if mj = 167 then (match as with | [.int n] => some (.int (bi (¬ n = 0))) | _ => none) else if mj = 168 then (match as with | [.int n, .int a] => some (.int (apI n a)) | _ => none) else if mj = 169 then (match as with | [.int n] => some (.int (bi (rmI n 24 < 6 ∨ 19 < rmI n 24))) | _ => none) else if mj = 170 then (match as with | [.ref _, .int n, .int a, .int b] => some (.int (bi (a ≤ n ∧ n ≤ b))) | _ => none) else if mj = 172 then (match as with | [.ref _, .int n] => some (.int (bi (0 ≤ n ∧ n ≤ 63))) | _ => none) else if mj = 173 then (match as with | [.ref _, .int n] => some (.int (bi (0 ≤ n ∧ n ≤ 999))) | _ => none) else if mj = 262 then (match as with | [.ref _, .int n] => some (.int (bi (0 ≤ n ∧ n ≤ 3))) | _ => none) else if mj = 180 then (match as with | [.ref _, .int n] => some (.int (abI n)) | _ => none) else if mj = 181 then (match as with | [.ref _, .int n, .int a] => some (.int (apI n a)) | _ => none) else if mj = 182 then (match as with | [.ref _, .int n] => some (.int (bi (rmI n 24 < 6 ∨ 19 < rmI n 24))) | _ => none) else if mj = 59 then (match as with | [.int n] => some (.int (bi (3 ≤ n ∧ n ≤ 8))) | _ => none) else if mj = 67 then (match as with | [.int n] => some (.int (bi (97 ≤ n ∧ n ≤ 122))) | _ => none) else if mj = 68 then (match as with | [.int n] => some (.int (bi (48 ≤ n ∧ n ≤ 57))) | _ => none) else if mj = 202 then (match as with | [.ref _, .int n] => some (.int (bi (97 ≤ n ∧ n ≤ 122))) | _ => none) else if mj = 203 then (match as with | [.ref _, .int n] => some (.int (bi (48 ≤ n ∧ n ≤ 57))) | _ => none) else none
def pF (mj : Nat) (as : List Value) (K : Value → Prop) : Prop := match pFv mj as with | some v => K v | none => False
theorem pF_157 (n a b : Int32) (K : Value → Prop) : pF 157 [.int n, .int a, .int b] K = K (.int (bi (a ≤ n ∧ n ≤ b))) := rfl
theorem pF_158 (n : Int32) (K : Value → Prop) : pF 158 [.int n] K = K (.int (bi (0 ≤ n ∧ n ≤ 63))) := rfl
theorem pF_159 (n : Int32) (K : Value → Prop) : pF 159 [.int n] K = K (.int (bi (0 ≤ n ∧ n ≤ 999))) := rfl
theorem pF_160 (n : Int32) (K : Value → Prop) : pF 160 [.int n] K = K (.int (bi (0 ≤ n ∧ n ≤ 2))) := rfl
theorem pF_163 (n : Int32) (K : Value → Prop) : pF 163 [.int n] K = K (.int (bi (0 ≤ n ∧ n ≤ 5))) := rfl
theorem pF_164 (n : Int32) (K : Value → Prop) : pF 164 [.int n] K = K (.int (bi (0 ≤ n ∧ n ≤ 3))) := rfl
theorem pF_161 (n : Int32) (K : Value → Prop) : pF 161 [.int n] K = K (.int (bi (n = 0 ∨ n = 1))) := rfl
theorem pF_162 (n : Int32) (K : Value → Prop) : pF 162 [.int n] K = K (.int (bi (n = 0 ∨ n = 1))) := rfl
theorem pF_165 (n a : Int32) (K : Value → Prop) : pF 165 [.int n, .int a] K = K (.int (bi (0 ≤ n ∧ n < 1 <<< (a &&& 31)))) := rfl
theorem pF_166 (n a : Int32) (K : Value → Prop) : pF 166 [.int n, .int a] K = K (.int (bi (¬ n >>> (a &&& 31) &&& 1 = 0))) := rfl
theorem pF_167 (n : Int32) (K : Value → Prop) : pF 167 [.int n] K = K (.int (bi (¬ n = 0))) := rfl
theorem pF_168 (n a : Int32) (K : Value → Prop) : pF 168 [.int n, .int a] K = K (.int (apI n a)) := rfl
theorem pF_169 (n : Int32) (K : Value → Prop) : pF 169 [.int n] K = K (.int (bi (rmI n 24 < 6 ∨ 19 < rmI n 24))) := rfl
theorem pF_170 (n a b : Int32) (q : Nat) (K : Value → Prop) : pF 170 [.ref q, .int n, .int a, .int b] K = K (.int (bi (a ≤ n ∧ n ≤ b))) := rfl
theorem pF_172 (n : Int32) (q : Nat) (K : Value → Prop) : pF 172 [.ref q, .int n] K = K (.int (bi (0 ≤ n ∧ n ≤ 63))) := rfl
theorem pF_173 (n : Int32) (q : Nat) (K : Value → Prop) : pF 173 [.ref q, .int n] K = K (.int (bi (0 ≤ n ∧ n ≤ 999))) := rfl
theorem pF_262 (n : Int32) (q : Nat) (K : Value → Prop) : pF 262 [.ref q, .int n] K = K (.int (bi (0 ≤ n ∧ n ≤ 3))) := rfl
theorem pF_180 (n : Int32) (q : Nat) (K : Value → Prop) : pF 180 [.ref q, .int n] K = K (.int (abI n)) := rfl
theorem pF_181 (n a : Int32) (q : Nat) (K : Value → Prop) : pF 181 [.ref q, .int n, .int a] K = K (.int (apI n a)) := rfl
theorem pF_182 (n : Int32) (q : Nat) (K : Value → Prop) : pF 182 [.ref q, .int n] K = K (.int (bi (rmI n 24 < 6 ∨ 19 < rmI n 24))) := rfl
theorem pF_59 (n : Int32) (K : Value → Prop) : pF 59 [.int n] K = K (.int (bi (3 ≤ n ∧ n ≤ 8))) := rfl
theorem pF_67 (n : Int32) (K : Value → Prop) : pF 67 [.int n] K = K (.int (bi (97 ≤ n ∧ n ≤ 122))) := rfl
theorem pF_68 (n : Int32) (K : Value → Prop) : pF 68 [.int n] K = K (.int (bi (48 ≤ n ∧ n ≤ 57))) := rfl
theorem pF_202 (n : Int32) (q : Nat) (K : Value → Prop) : pF 202 [.ref q, .int n] K = K (.int (bi (97 ≤ n ∧ n ≤ 122))) := rfl
theorem pF_203 (n : Int32) (q : Nat) (K : Value → Prop) : pF 203 [.ref q, .int n] K = K (.int (bi (48 ≤ n ∧ n ≤ 57))) := rfl
def puL : List Nat := [157, 158, 159, 160, 163, 164, 161, 162, 165, 166, 167, 168, 169, 170, 172, 173, 262, 180, 181, 182, 59, 67, 68, 202, 203]

/-- natives: Math.abs, max, min -/
def nF (mj : Nat) (st : List Value) (K : Int32 → List Value → Prop) : Prop := if mj = 270 then sI1 st (fun x r => K (abI x) r) else if mj = 271 then sI2 st (fun x y r => K (mxI x y) r) else if mj = 272 then sI2 st (fun x y r => K (mnI x y) r) else False
def okM (mj : Nat) : Prop := mj < 268 ∨ mj = 268 ∨ mj = 269 ∨ mj = 273 ∨ mj = 274 ∨ mj = 283
/-- a call's conditions: the receiver's class, words, room -/
def cOK (mj na mode n : Nat) (as rest : List Value) : Prop := okM mj ∧ slN as ≤ mnl mj ∧ cS rest ≤ 8 ∧ (mode = 1 ∧ as.length = na ∨ mode = 2 ∧ (match as with | .ref _ :: as' => as'.length = na ∧ mrt mj = none | _ => False) ∨ mode = 0 ∧ (match as with | .ref a :: as' => as'.length = na ∧ a < n ∧ kK a = (10, mci mj) | _ => False))
def kont (k : tK) (pc : Nat) (ls : List (Option Value)) (rest : List Value) : tQ := fun v n I L R => k pc ls (v.toList ++ rest) n I L R
def CK (G : cG) (d mj : Nat) (as : List Value) (n : Nat) (I : MI) (L : ML) (R : MR) (Kt : tQ) : Prop := V G d mj (n + mal mj) 0 (eL as (mnl mj)) [] n I L R Kt
/-- which calls are taken by pF: 0 none, 1 those of puL -/
def uC (I : MI) (a b : Nat) (i j k : Int32) : MI := fun x y => if x = b ∧ j.toNatClampNeg ≤ y ∧ y < j.toNatClampNeg + k.toNatClampNeg then I a (i.toNatClampNeg + (y - j.toNatClampNeg)) else I x y
def uM (R : MR) (a k : Nat) : MR := fun x j => if x = a ∧ j < k then some (a + 1 + j) else R x j
def cpS (st : List Value) (K : Int32 → Int32 → Nat → Int32 → Nat → List Value → Prop) : Prop := match st with | .int k :: .int j :: .ref b :: .int i :: .ref a :: r => K k j b i a r | _ => False
def callP (G : cG) (d : Nat) (b : Bool) (ci n1 ix md pc : Nat) (ls : List (Option Value)) (st : List Value) (n : Nat) (I : MI) (L : ML) (R : MR) (k : tK) : Prop := match mr ci ix with
  | some (mj, na, mode) => mode = md ∧ (if mj = 999 then sR1 st (fun _ r => cS r ≤ 8 ∧ k (pc + 3) ls r n I L R) else if mj = 998 then md = 1 ∧ cpS st (fun x j b i a r => a < n ∧ b < n ∧ (kK a).1 = 0 ∧ (kK b).1 = 0 ∧ ¬ i < 0 ∧ ¬ j < 0 ∧ ¬ x < 0 ∧ i.toNatClampNeg + x.toNatClampNeg ≤ (kK a).2 ∧ j.toNatClampNeg + x.toNatClampNeg ≤ (kK b).2 ∧ cS r ≤ 8 ∧ k (pc + 3) ls r n (uC I a b i j x) L R) else if 270 ≤ mj ∧ mj ≤ 272 then nF mj st (fun x r => cS r ≤ 8 ∧ k (pc + 3) ls (.int x :: r) n I L R) else match spl (if md = 1 then na else na + 1) [] st with
    | some (as, rest) => cOK mj na md n as rest ∧ (if b = true ∧ mj ∈ puL then pF mj as (fun v => k (pc + 3) ls (v :: rest) n I L R) else n + mal mj ≤ n1 ∧ CK G d mj as n I L R (kont k (pc + 3) ls rest))
    | none => False)
  | none => False
def retP (rt : Option FieldType) (n1 : Nat) (Q : tQ) (i : Instr) (st : List Value) (n : Nat) (I : MI) (L : ML) (R : MR) : Prop := match i, st with
  | .return_, [] => n = n1 ∧ rt = none ∧ Q none n I L R
  | .ireturn, [.int x] => n = n1 ∧ (rt = some .int ∨ rt = some .boolean ∧ (x = 0 ∨ x = 1)) ∧ Q (some (.int x)) n I L R
  | .lreturn, [.long x] => n = n1 ∧ rt = some .long ∧ Q (some (.long x)) n I L R
  | _, _ => False



theorem sI1_e {st : List Value} {K : Int32 → List Value → Prop} (h : sI1 st K) : ∃ x r, st = .int x :: r ∧ K x r := by
  unfold sI1 at h
  split at h
  · exact ⟨_, _, rfl, h⟩
  · exact h.elim
theorem sL1_e {st : List Value} {K : Int64 → List Value → Prop} (h : sL1 st K) : ∃ x r, st = .long x :: r ∧ K x r := by
  unfold sL1 at h
  split at h
  · exact ⟨_, _, rfl, h⟩
  · exact h.elim
theorem sR1_e {st : List Value} {K : Nat → List Value → Prop} (h : sR1 st K) : ∃ x r, st = .ref x :: r ∧ K x r := by
  unfold sR1 at h
  split at h
  · exact ⟨_, _, rfl, h⟩
  · exact h.elim
theorem sV1_e {st : List Value} {K : Value → List Value → Prop} (h : sV1 st K) : ∃ x r, st = x :: r ∧ K x r := by
  unfold sV1 at h
  split at h
  · exact ⟨_, _, rfl, h⟩
  · exact h.elim
theorem sV2_e {st : List Value} {K : Value → Value → List Value → Prop} (h : sV2 st K) : ∃ x y r, st = x :: y :: r ∧ K x y r := by
  unfold sV2 at h
  split at h
  · exact ⟨_, _, _, rfl, h⟩
  · exact h.elim
theorem sI2_e {st : List Value} {K : Int32 → Int32 → List Value → Prop} (h : sI2 st K) : ∃ x y r, st = .int y :: .int x :: r ∧ K x y r := by
  unfold sI2 at h
  split at h
  · exact ⟨_, _, _, rfl, h⟩
  · exact h.elim
theorem sL2_e {st : List Value} {K : Int64 → Int64 → List Value → Prop} (h : sL2 st K) : ∃ x y r, st = .long y :: .long x :: r ∧ K x y r := by
  unfold sL2 at h
  split at h
  · exact ⟨_, _, _, rfl, h⟩
  · exact h.elim
theorem sLI_e {st : List Value} {K : Int64 → Int32 → List Value → Prop} (h : sLI st K) : ∃ x y r, st = .int y :: .long x :: r ∧ K x y r := by
  unfold sLI at h
  split at h
  · exact ⟨_, _, _, rfl, h⟩
  · exact h.elim
theorem sIR_e {st : List Value} {K : Int32 → Nat → List Value → Prop} (h : sIR st K) : ∃ i a r, st = .int i :: .ref a :: r ∧ K i a r := by
  unfold sIR at h
  split at h
  · exact ⟨_, _, _, rfl, h⟩
  · exact h.elim
theorem sIIR_e {st : List Value} {K : Int32 → Int32 → Nat → List Value → Prop} (h : sIIR st K) : ∃ x i a r, st = .int x :: .int i :: .ref a :: r ∧ K x i a r := by
  unfold sIIR at h
  split at h
  · exact ⟨_, _, _, _, rfl, h⟩
  · exact h.elim
theorem sLIR_e {st : List Value} {K : Int64 → Int32 → Nat → List Value → Prop} (h : sLIR st K) : ∃ x i a r, st = .long x :: .int i :: .ref a :: r ∧ K x i a r := by
  unfold sLIR at h
  split at h
  · exact ⟨_, _, _, _, rfl, h⟩
  · exact h.elim
theorem sP_e {st : List Value} {KI : Int32 → Nat → List Value → Prop} {KR : Nat → Nat → List Value → Prop} (h : sP st KI KR) : (∃ x a r, st = .int x :: .ref a :: r ∧ KI x a r) ∨ (∃ b a r, st = .ref b :: .ref a :: r ∧ KR b a r) := by
  unfold sP at h
  split at h
  · exact Or.inl ⟨_, _, _, rfl, h⟩
  · exact Or.inr ⟨_, _, _, rfl, h⟩
  · exact h.elim
theorem lI_e {ls : List (Option Value)} {j : Nat} {K : Int32 → Prop} (h : lI ls j K) : ∃ x, lG ls j = some (.int x) ∧ K x := by
  unfold lI at h
  split at h
  · rename_i q; exact ⟨_, q, h⟩
  · exact h.elim
theorem lL_e {ls : List (Option Value)} {j : Nat} {K : Int64 → Prop} (h : lL ls j K) : ∃ x, lG ls j = some (.long x) ∧ K x := by
  unfold lL at h
  split at h
  · rename_i q; exact ⟨_, q, h⟩
  · exact h.elim
theorem lR_e {ls : List (Option Value)} {j : Nat} {K : Nat → Prop} (h : lR ls j K) : ∃ x, lG ls j = some (.ref x) ∧ K x := by
  unfold lR at h
  split at h
  · rename_i q; exact ⟨_, q, h⟩
  · exact h.elim
theorem cpS_e {st : List Value} {K : Int32 → Int32 → Nat → Int32 → Nat → List Value → Prop} (h : cpS st K) : ∃ k j b i a r, st = .int k :: .int j :: .ref b :: .int i :: .ref a :: r ∧ K k j b i a r := by
  unfold cpS at h
  split at h
  · exact ⟨_, _, _, _, _, _, rfl, h⟩
  · exact h.elim
theorem spl_e : ∀ (k : Nat) (acc st as rest : List Value), spl k acc st = some (as, rest) → acc.reverse ++ st = as.reverse ++ rest ∧ as.length = acc.length + k := by
  intro k
  induction k with
  | zero =>
    intro acc st as rest h
    cases h
    exact ⟨rfl, rfl⟩
  | succ k ih =>
    intro acc st as rest h
    cases st with
    | nil => cases h
    | cons v st =>
      obtain ⟨h1, h2⟩ := ih (v :: acc) st as rest h
      refine ⟨?_, by rw [h2, List.length_cons]; omega⟩
      rw [← h1]
      simp
def fFL : List (List Bool) := [[false, false, false, true, true, true, true, true, true, true, true, false, true, true, true], [true, true, true, true], [false, false, false, false, false, false, false, true, false], [true, false, true], [false, false, true, true, true, true, true, true, true, true, true, true], [false, true, true, true, true, true, false, true], [true, false, true, true, false, false, false, false, false], [false, true, false], [true, true], [true, false, false, true, true, true, true], [true, true, false, false], [true, true, true, true, true, true, true, true, true], [true, true, false, false, false, true, true, true, true, true, true, true, true, true, false, false, true, true, true, false, false, false, false, true, true, false, false, false, false, true, true, false, true, true, true, true, true, false, false, false, true, true, true, true, true, true, true, true, true, true, true, false, true, true, true, false, true, false, true, true, true, true, true, true, true, true, true]]
/-- whether a field is final -/
def fFn (ci k : Nat) : Bool := (((fFL[ci]?).getD [])[k]?).getD true
def pRok (mi c2 k2 : Nat) : Prop := fK c2 k2 = 2 ∧ (fFn c2 k2 = false ∨ (my mi).name = "<init>" ∧ mci mi = c2)
def isRf (t : FieldType) : Bool := match t with
  | .object _ => true
  | .array _ => true
  | _ => false
def vwR (q : vw_C) (ci : Nat) : Bool := (List.range q.2.2).all (fun k => (q.2.1 k).2.2.2 == fFn ci k && ((q.2.1 k).1 == cnm ci) && (if fK ci k = 2 then isRf (fTy q.2.1 k) else true))
set_option maxRecDepth 100000 in
theorem vwR_ok : (List.range 13).all (fun ci => match vwCl[ci]? with | some q => vwR q ci && decide (q.1 = cnm ci) | none => false) = true := by decide +kernel
theorem vwR_facts {ci k : Nat} {C : String} {T : u_T} {N : Nat} (h : vwCl[ci]? = some (C, T, N)) (hk : k < N) : (T k).2.2.2 = fFn ci k ∧ (T k).1 = cnm ci ∧ (fK ci k = 2 → isRf (fTy T k) = true) ∧ C = cnm ci := by
  have hlt : ci < 13 := (List.getElem?_eq_some_iff.mp h).1
  have h1 := List.all_eq_true.mp vwR_ok ci (List.mem_range.mpr hlt)
  rw [h] at h1
  simp only [Bool.and_eq_true, decide_eq_true_eq] at h1
  have h2 := List.all_eq_true.mp h1.1 k (List.mem_range.mpr hk)
  simp only [Bool.and_eq_true, beq_iff_eq] at h2
  refine ⟨h2.1.1, h2.1.2, fun q => ?_, h1.2⟩
  have := h2.2
  rw [if_pos q] at this
  exact this
theorem rf_fits {t : FieldType} (h : isRf t = true) (a : Nat) : narrow t (.ref a) = .ref a ∧ fits t (.ref a) = true ∧ defaultValue t = .null := by
  cases t <;> first | exact ⟨rfl, rfl, rfl⟩ | cases h
theorem ent_Rset {G : cG} {I : MI} {L : ML} {R : MR} {a c2 k b : Nat} (hk : kK a = (10, c2)) (hf : fK c2 k = 2) : ent G I L (u2 R a k (some b)) a = .inr (c2, (entF G I R a c2).set k (.ref (ad G b))) := by
  rw [ent_o hk, entF_setR hf]
  rfl
section KMORE
variable {G : cG} {mi : Nat} {p : Program} {e : Env} {Rm : Room} {s : State} {m : MethodId} {args : Array Value} {below : List Frame} {meth : Method} {c : Code} {n0 : Nat} {Z : State → Prop} {pc : Nat} {ls : List (Option Value)} {st : List Value} {n : Nat} {I : MI} {L : ML} {R : MR}
theorem K_putR (F : FrOK G mi p s m meth c args) (hm : mi < 286) {ix ci k a b : Nat} (hd : decode (mcc mi) pc = .ok (.putfield ix, 3)) (hf : fr (mci mi) ix = some (ci, k)) (ha : a < n) (hb : b < n) (hk : kK a = (10, ci)) (hx : pRok mi ci k) (kk : KK G p e Rm s m args below meth c n0 Z (pc + 3) ls st n I L (u2 R a k (some b))) : KK G p e Rm s m args below meth c n0 Z pc ls (.ref b :: .ref a :: st) n I L R := by
  intro H locs arr h1 h2 h3 h4
  obtain ⟨h5, h6⟩ := hx
  have han : a < 1000 := Nat.lt_of_lt_of_le ha h2.2.1
  obtain ⟨C, T, N, hv, hN, hkn, hl⟩ := fr_facts hf
  obtain ⟨g1, g2, g3, g4⟩ := vwR_facts hv hkn
  obtain ⟨f1, f2, f3⟩ := rf_fits (g3 h5) (ad G b)
  have fin : ∀ (H1 : Heap) (j : Nat), H1.size = H.size → (∀ q, q ≠ ad G a → H1[q]? = H[q]?) → va_at (gD G) vwCl (ad G a, .inr (ci, (entF G I R a ci).set k (.ref (ad G b)))) H1 → W p (gL G) e Rm s m args below meth c H1 (locs ++ [⟨ad G a, j⟩]) (n - n0) (szL n - szL n0) Z (F0 m (pc + 3) arr (st.map (cv G))) := fun H1 j z o q =>
    kk H1 _ arr h1 (h2.upd ha z o (fun b hb => ent_uR hb) (by rw [ent_Rset hk h5]; exact q)) (locs_ok h3 han) h4
  rcases h6 with h6 | ⟨h6, h7⟩
  · exact put_core F hm h2 hd hf ha hk (fun C' T' N' hv' => by
      have : (C, T, N) = (C', T', N') := Option.some.inj (hv.symm.trans hv')
      cases this
      exact ⟨g1.trans h6, f1, f2⟩) fin
  · by_cases hff : fFn ci k = false
    · exact put_core F hm h2 hd hf ha hk (fun C' T' N' hv' => by
        have : (C, T, N) = (C', T', N') := Option.some.inj (hv.symm.trans hv')
        cases this
        exact ⟨g1.trans hff, f1, f2⟩) fin
    · have hft : (T k).2.2.2 = true := by
        rw [g1]
        cases z : fFn ci k with
        | true => rfl
        | false => exact absurd z hff
      subst hN
      obtain ⟨hin, hty, hnm⟩ := vw_facts hv
      have hts := F.2.2.2.2.2.2.2.1
      have hK := F.2.2.2.2.2.2.2.2.1.1
      have hown := mi_own F hm
      have hap := va_apart (own := cnm (mci mi)) hts hin (fTy T) hty hnm hK hv
      have hP := h2.P1 ha (ent_o hk)
      obtain ⟨r, r1, cell, q1, q2, q3, q4⟩ := hP 0 _ rfl
      have hr : r = (C, T, fN ci) := Option.some.inj (r1.symm.trans hv)
      subst hr
      obtain ⟨hS, hfc, kC, hkC, hkind⟩ := hK.1 ci _ hv
      obtain ⟨cf, kf, fi, f, hi, hsl⟩ := hS k hkn
      have hlay := hts _ (hin _ (u_in_lay hkn))
      unfold u_lay at hlay
      rw [if_pos hft] at hlay
      have hst := (u_facts hfc hkC (u_lays hts hin hkn) hi).1
      have hcf : m.cls = cf := by
        obtain ⟨_, _, c', _, _, _, -, -, hf', -, -, -, hown2, -⟩ := Cond.laysFinal_spec hlay
        have e1 : c' = cf := by have := hi.symm.trans hf'; simp at this; exact this.1.symm
        rw [g2, ← h7] at hown2
        rw [← e1]; exact Option.some.inj (hown.symm.trans hown2)
      have h8 := u_fits hfc hkC hkind (Or.inr hlay) hi (hty k hkn) f1 f2
      have hinit : meth.name = "<init>" := F.2.2.2.2.2.1.trans h6
      refine W.putFinK F.1 F.2.1 hown (hts _ hl) hi hst hcf hinit (by rw [q2]; exact h8) q1 q3 (by rw [hsl]; exact k2_hasslot (q4 k hkn)) rfl rfl hd fun H' e1 e2 e3 => ?_
      rw [hsl] at e1 ⊢
      exact fin H' _ e2 e3 ⟨_, hv, t_OB.to (V := updV (vp_V (entF G I R a ci)) k (.ref (ad G b))) ⟨_, e1, q2, q3, t_set q4 hap hkn _⟩ (fun j _ => vp_updV_set (by simp [entF]; exact hkn) _ j)⟩
theorem K_aast (F : FrOK G mi p s m meth c args) {a b N t cb : Nat} {i : Int32} (hd : decode (mcc mi) pc = .ok (.aastore, 1)) (ha : a < n) (hb : b < n) (hk : kK a = (t, N)) (ht : t = 4 ∧ cb = 2 ∨ t = 5 ∧ cb = 7) (hkb : kK b = (10, cb)) (hi : vp_in i N) (kk : KK G p e Rm s m args below meth c n0 Z (pc + 1) ls st n I L (u2 R a i.toNatClampNeg (some b))) : KK G p e Rm s m args below meth c n0 Z pc ls (.ref b :: .int i :: .ref a :: st) n I L R := by
  intro H locs arr h1 h2 h3 h4
  have ht6 : 4 ≤ t ∧ t ≤ 6 := by omega
  have hP := h2.P1 ha (ent_q hk ht6)
  have hPb := h2.P1 hb (ent_o hkb)
  have hK := F.2.2.2.2.2.2.2.2.1.1
  have han : a < 1000 := Nat.lt_of_lt_of_le ha h2.2.1
  have hlt : i.toNatClampNeg < N := Nat.not_le.mp fun q => hi (Or.inr q)
  have h0 : ¬ i < 0 := fun q => hi (Or.inl q)
  obtain ⟨r, r1, cellV, g1, g2, g3, -⟩ := hPb 0 _ rfl
  have hcl : (tysG G)[t]? = some (gC G t, .object r.1) := by
    rcases ht with ⟨rfl, rfl⟩ | ⟨rfl, rfl⟩ <;> (cases r1; rfl)
  have hcls := (hK.1 cb r r1).2
  obtain ⟨kA, comp, k1, k2, k3, -⟩ := (hK.2 t _ hcl).2
  have hcomp : comp = (gD G).1 cb := Option.some.inj (k3.symm.trans hcls.1)
  subst hcomp
  obtain ⟨kC, hkC, -⟩ := hcls.2
  refine W.aast F.1 F.2.1 (hP 0 _ rfl) (fun q h => by cases h) (fun h => by cases h) k1 k2 rfl hkC ⟨h0, by show _ < (arrV _ _ _).slots.size; rw [arrV_size]; exact hlt⟩ g1 (fun q h => by rw [g3] at h; cases h) (by rw [g2]; exact hkC) (by rw [g2]; exact va_assign hcls) rfl rfl hd fun H1 q z oq => ?_
  refine kk H1 _ arr h1 (h2.upd ha z oq (fun b hb => ent_uR hb) ?_) (locs_ok h3 han) h4
  rw [ent_q hk ht6]
  show H1[ad G a]? = some (vp_cell _ _)
  rw [q]
  rw [vp_cell_q, vp_cell_q, arrV_store]
  congr 2
  funext x
  by_cases hq : x = i.toNatClampNeg
  · subst hq
    simp [updV, u2, va_rf]
  · simp [updV, u2, hq]
theorem WD.push {H : Heap} (h : WD G n I L R H) {H1 : Heap} (hz : H1.size = H.size + 1) (ho : ∀ q, q < H.size → H1[q]? = H[q]?) (hn : n + 1 ≤ 1000) (hc : va_at (gD G) vwCl (ad G n, ent G I L R n) H1) : WD G (n + 1) I L R H1 := by
  obtain ⟨h1, h2, h3, h4⟩ := h
  refine ⟨by rw [hz, h1]; omega, hn, fun q hq => ?_, fun a ha => ?_⟩
  · rw [ho q (by omega)]
    exact h3 q hq
  · by_cases he : a = n
    · rw [he]; exact hc
    · exact (h4 a (by omega)).kept (ho _ (by rw [ad_lt (by omega)]; omega))
def nrI : List Nat := [2150, 2131, 1066, 1059, 3012, 2219, 1148, 3060, 2206, 1140, 1032, 1024, 5229]
def nrC (q : Nat × Nat × Nat × Nat) : Bool := if q.2.2.1 < 13 then decide (wd q.2.2.2 = some (.classLink (cnm q.1) q.2.1 (cnm q.2.2.1))) && decide (wd ((nrI[q.2.2.1]?).getD 0) = some (.instantiable (cnm q.2.2.1) (fN q.2.2.1))) && decide (Cond.initialized (cnm q.2.2.1) ∈ tables_1_1) else decide (wd q.2.2.2 = some (.classLink (cnm q.1) q.2.1 (if q.2.2.1 = 104 then "TruceLine$Mark" else if q.2.2.1 = 105 then "TruceLine$Sheet" else "[[I")))
set_option maxRecDepth 100000 in
theorem nrC_ok : nrL.all nrC = true := by decide +kernel
theorem nr_facts {ci ix c2 : Nat} (h : nr ci ix = some c2) : (c2 < 13 → Cond.classLink (cnm ci) ix (cnm c2) ∈ lw_good ∧ Cond.instantiable (cnm c2) (fN c2) ∈ lw_good ∧ Cond.initialized (cnm c2) ∈ lw_good) ∧ (¬ c2 < 13 → Cond.classLink (cnm ci) ix (if c2 = 104 then "TruceLine$Mark" else if c2 = 105 then "TruceLine$Sheet" else "[[I") ∈ lw_good) := by
  unfold nr at h
  cases hf : nrL.find? (fun q => q.1 == ci && q.2.1 == ix) with
  | none => rw [hf] at h; cases h
  | some q =>
    rw [hf] at h
    cases h
    have h1 := List.all_eq_true.mp nrC_ok q (List.mem_of_find?_eq_some hf)
    have h2 := List.find?_some hf
    simp only [Bool.and_eq_true, beq_iff_eq] at h2
    unfold nrC at h1
    rw [← h2.1, ← h2.2]
    refine ⟨fun z => ?_, fun z => ?_⟩
    · rw [if_pos z] at h1
      simp only [Bool.and_eq_true, decide_eq_true_eq] at h1
      exact ⟨lw_mem h1.1.1 rfl, lw_mem h1.1.2 rfl, List.mem_filter.mpr ⟨tbK_in (k := 1) h1.2, rfl⟩⟩
    · rw [if_neg z] at h1
      exact lw_mem (of_decide_eq_true h1) rfl
theorem szL_10 {n c2 : Nat} (h : kK n = (10, c2)) : szL (n + 1) = szL n + fN c2 := by
  show szL n + _ = _
  rw [h]
  rfl
theorem szL_a {n t N : Nat} (h : kK n = (t, N)) (ht : t < 7) : szL (n + 1) = szL n + N := by
  show szL n + _ = _
  rw [h, if_neg (by show ¬ t = 10; omega)]
theorem K_new (F : FrOK G mi p s m meth c args) (hm : mi < 286) {ix c2 d n1 : Nat} (hd : decode (mcc mi) pc = .ok (.new ix, 3)) (hf : nr (mci mi) ix = some c2) (hc : c2 < 13) (hk : kK n = (10, c2)) (hn : n + 1 ≤ n1) (hn9 : n + 1 ≤ 1000) (hI : ∀ j, I n j = 0) (hR : ∀ j, R n j = none) (hrm : RmOK Rm d n0 n1) (kk : KK G p e Rm s m args below meth c n0 Z (pc + 3) ls (.ref n :: st) (n + 1) I L R) : KK G p e Rm s m args below meth c n0 Z pc ls st n I L R := by
  intro H locs arr h1 h2 h3 h4
  obtain ⟨w1, w2, w3⟩ := (nr_facts hf).1 hc
  have hv : ∃ q, vwCl[c2]? = some q := ⟨_, List.getElem?_eq_getElem (by exact hc)⟩
  obtain ⟨⟨C, T, N⟩, hv⟩ := hv
  obtain ⟨hin, hty, hnm⟩ := vw_facts hv
  have hts := F.2.2.2.2.2.2.2.1
  have hK := F.2.2.2.2.2.2.2.2.1.1
  have hKn := hK.1 c2 _ hv
  have hlt : c2 < 13 := hc
  have hN : N = fN c2 := by
    have h1 := List.all_eq_true.mp vwI_ok c2 (List.mem_range.mpr hlt)
    rw [hv] at h1
    simp only [Bool.and_eq_true, decide_eq_true_eq] at h1
    exact h1.2
  have hC : C = cnm c2 := by
    have h1 := List.all_eq_true.mp vwR_ok c2 (List.mem_range.mpr hlt)
    rw [hv] at h1
    simp only [Bool.and_eq_true, decide_eq_true_eq] at h1
    exact h1.2
  subst hN
  subst hC
  obtain ⟨r1, r2, r3, r4⟩ := hrm
  have e1 := szL_10 hk
  have e2 := szL_mono h4
  have e3 := szL_mono hn
  refine W.newcK F.1 F.2.1 (mi_own F hm) (hts _ w1) (hts _ w2) (hts _ w3) rfl hd (by omega) (by omega) hKn.2.1 h2.1 fun H1 kC hkC g1 g2 g3 => ?_
  have hb := u_born (fTy T) hts hin hKn hkC g1 hty
  have hw : WD G (n + 1) I L R H1 := by
    refine h2.push (by rw [g2, h2.1]) (fun q hq => g3 q (by rw [← h2.1]; exact hq)) hn9 ?_
    rw [ent_o hk]
    refine ⟨_, hv, ?_⟩
    rw [ad_lt (by omega)]
    refine hb.to fun k hk => ?_
    have hg := entF_get (G := G) (I := I) (R := R) (a := n) hk
    unfold vp_V
    rw [List.getD_eq_getElem?_getD, hg, hI, hR]
    show _ = cv G (if fK c2 k = 2 then vR none else .int 0)
    by_cases z : fK c2 k = 2
    · rw [if_pos z]
      exact (rf_fits ((vwR_facts hv hk).2.2.1 z) 0).2.2
    · rw [if_neg z, (vwI_facts hv hk z).2]
      by_cases y : fK c2 k = 0
      · rw [if_pos y]; rfl
      · rw [if_neg y]; rfl
  have k9 := kk H1 locs arr h1 hw h3 (by omega)
  rw [show n + 1 - n0 = n - n0 + 1 by omega, show szL (n + 1) - szL n0 = szL n - szL n0 + fN c2 by omega] at k9
  rw [List.map_cons] at k9
  rw [show cv G (.ref n) = .ref (gB G + n) from congrArg Value.ref (ad_lt (by omega))] at k9
  exact k9
def aTag (t : ArrayType) : Nat := match t with
  | .int => 0
  | .byte => 1
  | .boolean => 2
  | .long => 3
  | _ => 9
theorem K_newarr (F : FrOK G mi p s m meth c args) {atype : ArrayType} {x : Int32} {N d n1 : Nat} (hd : decode (mcc mi) pc = .ok (.newarray atype, 2)) (ht : aTag atype < 4) (hx : ¬ x < 0) (hN : x.toNatClampNeg = N) (hN9 : N ≤ 4000) (hk : kK n = (aTag atype, N)) (hn : n + 1 ≤ n1) (hn9 : n + 1 ≤ 1000) (hI : ∀ j, I n j = 0) (hL : ∀ j, L n j = 0) (hrm : RmOK Rm d n0 n1) (kk : KK G p e Rm s m args below meth c n0 Z (pc + 2) ls (.ref n :: st) (n + 1) I L R) : KK G p e Rm s m args below meth c n0 Z pc ls (.int x :: st) n I L R := by
  intro H locs arr h1 h2 h3 h4
  have hts := F.2.2.2.2.2.2.2.1
  have hK := F.2.2.2.2.2.2.2.2.1.1
  obtain ⟨r1, r2, r3, r4⟩ := hrm
  have e1 := szL_a hk (by omega)
  have e2 := szL_mono h4
  have e3 := szL_mono hn
  have harr : Cond.arrayClass (newarray.typeOf atype) ∈ lw_good := by
    cases atype <;> first | (exact List.mem_filter.mpr ⟨by decide +kernel, rfl⟩) | (exact absurd ht (by decide))
  have hb : N * componentBytes (newarray.typeOf atype) ≤ 536870912 := by
    cases atype <;> first | (show N * 4 ≤ _; omega) | (show N * 1 ≤ _; omega) | (show N * 8 ≤ _; omega) | (exact absurd ht (by decide))
  refine va_newaK F.1 F.2.1 (hts _ harr) rfl hd rfl hx hN hb (by omega) (by omega) h2.1 fun H1 cA g1 g2 g3 g4 g5 => ?_
  have hcA : cA = gC G (aTag atype) := by
    have h6 := (hK.2 (aTag atype) _ (tys_at (by omega))).2
    cases atype <;> first | exact Option.some.inj (g5.symm.trans h6) | (exact absurd ht (by decide))
  have hw : WD G (n + 1) I L R H1 := by
    refine h2.push (by rw [g2, h2.1]) (fun q hq => g3 q (by rw [← h2.1]; exact hq)) hn9 ?_
    have hz : ent G I L R n = .inl (gC G (aTag atype), N, if aTag atype ≤ 2 then .inl (I n) else .inr (.inl (L n))) := by
      by_cases z : aTag atype ≤ 2
      · rw [if_pos z]; exact ent_i hk z
      · rw [if_neg z]
        have z3 : aTag atype = 3 := by omega
        rw [z3] at hk ⊢
        exact ent_l hk
    rw [hz]
    show H1[ad G n]? = some (vp_cell _ _)
    rw [ad_lt (by omega), g1, hcA]
    congr 1
    have i0 : I n = fun _ => 0 := funext hI
    have l0 : L n = fun _ => 0 := funext hL
    rw [i0, l0]
    cases atype <;> first | rfl | (exact absurd ht (by decide))
  have k9 := kk H1 locs arr h1 hw h3 (by omega)
  rw [show n + 1 - n0 = n - n0 + 1 by omega, show szL (n + 1) - szL n0 = szL n - szL n0 + N by omega] at k9
  rw [List.map_cons] at k9
  rw [show cv G (.ref n) = .ref (gB G + n) from congrArg Value.ref (ad_lt (by omega))] at k9
  exact k9
theorem K_anew (F : FrOK G mi p s m meth c args) (hm : mi < 286) {ix t : Nat} {x : Int32} {N d n1 : Nat} (hd : decode (mcc mi) pc = .ok (.anewarray ix, 3)) (hf : nr (mci mi) ix = some (100 + t)) (ht : t = 4 ∨ t = 5) (hx : ¬ x < 0) (hN : x.toNatClampNeg = N) (hN9 : N ≤ 4000) (hk : kK n = (t, N)) (hn : n + 1 ≤ n1) (hn9 : n + 1 ≤ 1000) (hR : ∀ j, R n j = none) (hrm : RmOK Rm d n0 n1) (kk : KK G p e Rm s m args below meth c n0 Z (pc + 3) ls (.ref n :: st) (n + 1) I L R) : KK G p e Rm s m args below meth c n0 Z pc ls (.int x :: st) n I L R := by
  intro H locs arr h1 h2 h3 h4
  have hts := F.2.2.2.2.2.2.2.1
  have hE := F.2.2.2.2.2.2.2.2.1
  have hK := hE.1
  obtain ⟨r1, r2, r3, r4⟩ := hrm
  have e1 := szL_a hk (by omega)
  have e2 := szL_mono h4
  have e3 := szL_mono hn
  have w1 := (nr_facts hf).2 (by omega)
  obtain ⟨C, hC, hcl, hov⟩ : ∃ C, (if 100 + t = 104 then "TruceLine$Mark" else if 100 + t = 105 then "TruceLine$Sheet" else "[[I") = C ∧ (tysG G)[t]? = some (gC G t, .object C) ∧ va_AO C s := by
    rcases ht with rfl | rfl
    · exact ⟨_, rfl, rfl, hE.2.2.2.2.2.1⟩
    · exact ⟨_, rfl, rfl, hE.2.2.2.2.2.2.1⟩
  rw [hC] at w1
  subst hN
  refine W.anew F.1 F.2.1 (mi_own F hm) (hts _ w1) (va_AO.use hov) rfl hd rfl hx (by omega) (by omega) (by omega) fun cA kA comp f1 f2 f3 f4 => ?_
  generalize hH1 : H.push ({ cls := cA, slots := Array.replicate x.toNatClampNeg .null, vm := .none } : Cell) = H1
  have z1 : H1.size = H.size + 1 := by rw [← hH1, Array.size_push]
  have g1 : H1[H.size]? = some (arrV cA x.toNatClampNeg (fun _ => .null)) := by rw [← hH1, Array.getElem?_push_size, ← arrV_new]
  have o1 : ∀ q : Nat, q < H.size → H1[q]? = H[q]? := fun q hq => by rw [← hH1, Array.getElem?_push, if_neg (Nat.ne_of_lt hq)]
  have hcA : cA = gC G t := by
    obtain ⟨-, -, -, -, -, h6⟩ := (hK.2 t _ hcl).2
    exact Option.some.inj (f1.symm.trans h6)
  have hw : WD G (n + 1) I L R H1 := by
    refine h2.push z1 o1 hn9 ?_
    rw [ent_q hk (by omega)]
    show H1[ad G n]? = some (vp_cell _ _)
    rw [ad_lt (by omega), ← h2.1, g1, hcA, vp_cell_q]
    congr 2
    funext j
    rw [hR]
    rfl
  have k9 := kk H1 locs arr h1 hw h3 (by omega)
  rw [show n + 1 - n0 = n - n0 + 1 by omega, show szL (n + 1) - szL n0 = szL n - szL n0 + x.toNatClampNeg by omega] at k9
  rw [List.map_cons] at k9
  rw [show cv G (.ref n) = .ref H.size from congrArg Value.ref ((ad_lt (by omega)).trans h2.1.symm)] at k9
  exact k9
theorem K_siald (F : FrOK G mi p s m meth c args) {a : Nat} {j : Int32} (hd : decode (mcc mi) pc = .ok (.iaload, 1)) (h9 : 1000 ≤ a) (h8 : a < 1003) (hi : vp_in j (kK a).2) (kk : KK G p e Rm s m args below meth c n0 Z (pc + 1) ls (.int (sI a j.toNatClampNeg) :: st) n I L R) : KK G p e Rm s m args below meth c n0 Z pc ls (.int j :: .ref a :: st) n I L R := by
  intro H locs arr h1 h2 h3 h4
  have hE := F.2.2.2.2.2.2.2.2.1
  have hT := hE.2.2.2.1 (a - 1000) (by omega)
  rw [show 1000 + (a - 1000) = a by omega] at hT
  have k9 := kk H locs arr h1 h2 h3 h4
  obtain ⟨cell, b1, b2, b3, b4, b5, b6, b7⟩ := hT
  have hlt : j.toNatClampNeg < (kK a).2 := Nat.not_le.mp fun q => hi (Or.inr q)
  have hcell : H[ad G a]? = some cell := by
    have : ad G a = gA G a := if_neg (by omega)
    rw [this, h2.2.2.1 _ (by omega)]
    exact b1
  exact W.iald (v := .int (sI a j.toNatClampNeg)) F.1 F.2.1 hcell b2 b3 (fun q => q.elim (fun z => hi (Or.inl z)) (fun z => by omega)) (b6 _ hlt) rfl rfl hd k9
theorem K_salen (F : FrOK G mi p s m meth c args) {a : Nat} (hd : decode (mcc mi) pc = .ok (.arraylength, 1)) (h9 : 1000 ≤ a) (h8 : a < 1003) (kk : KK G p e Rm s m args below meth c n0 Z (pc + 1) ls (.int (Int32.ofNat (kK a).2) :: st) n I L R) : KK G p e Rm s m args below meth c n0 Z pc ls (.ref a :: st) n I L R := by
  intro H locs arr h1 h2 h3 h4
  have hE := F.2.2.2.2.2.2.2.2.1
  have hT := hE.2.2.2.1 (a - 1000) (by omega)
  rw [show 1000 + (a - 1000) = a by omega] at hT
  have k9 := kk H locs arr h1 h2 h3 h4
  obtain ⟨cell, b1, b2, b3, b4, b5, b6, b7⟩ := hT
  have hcell : H[ad G a]? = some cell := by
    have : ad G a = gA G a := if_neg (by omega)
    rw [this, h2.2.2.1 _ (by omega)]
    exact b1
  exact W.alen (n := Int32.ofNat (kK a).2) F.1 F.2.1 hcell b2 b5 rfl rfl hd k9
theorem szL_rows {n K N : Nat} (h : ∀ i, i < N → kK (n + 1 + i) = (0, K)) : szL (n + 1 + N) = szL (n + 1) + N * K := by
  induction N with
  | zero => simp
  | succ N ih =>
    have h1 := ih (fun i hi => h i (by omega))
    have h2 := szL_a (h N (by omega)) (by omega)
    rw [show n + 1 + (N + 1) = n + 1 + N + 1 by omega, h2, h1, Nat.succ_mul]
    omega
theorem K_multi (F : FrOK G mi p s m meth c args) (hm : mi < 286) {ix : Nat} {x y : Int32} {N M d n1 : Nat} (hd : decode (mcc mi) pc = .ok (.multianewarray ix 2, 4)) (hf : nr (mci mi) ix = some 106) (hx : ¬ x < 0) (hy : ¬ y < 0) (hN9 : x.toNatClampNeg ≤ 100) (hM9 : y.toNatClampNeg ≤ 4000) (hN : x.toNatClampNeg = N) (hM : y.toNatClampNeg = M) (hk : kK n = (6, x.toNatClampNeg)) (hkr : ∀ i, i < x.toNatClampNeg → kK (n + 1 + i) = (0, y.toNatClampNeg)) (hn : n + 1 + x.toNatClampNeg ≤ n1) (hn9 : n + 1 + x.toNatClampNeg ≤ 1000) (hI : ∀ i, i < x.toNatClampNeg → ∀ j, I (n + 1 + i) j = 0) (hR : ∀ j, R n j = none) (hrm : RmOK Rm d n0 n1) (kk : KK G p e Rm s m args below meth c n0 Z (pc + 4) ls (.ref n :: st) (n + 1 + x.toNatClampNeg) I L (uM R n x.toNatClampNeg)) : KK G p e Rm s m args below meth c n0 Z pc ls (.int y :: .int x :: st) n I L R := by
  intro H locs arr h1 h2 h3 h4
  rw [hN] at hN9 hk hkr hn hn9 hI kk
  rw [hM] at hM9 hkr
  have hts := F.2.2.2.2.2.2.2.1
  have hE := F.2.2.2.2.2.2.2.2.1
  have hK := hE.1
  obtain ⟨r1, r2, r3, r4⟩ := hrm
  have e1 := szL_a hk (by omega)
  have e4 := szL_rows hkr
  have e2 := szL_mono h4
  have e3 := szL_mono hn
  have hNM : N * M ≤ 400000 := Nat.le_trans (Nat.mul_le_mul hN9 hM9) (by decide)
  have w1 := (nr_facts hf).2 (by omega)
  have w1 : Cond.classLink (cnm (mci mi)) ix "[[I" ∈ lw_good := w1
  have harr : Cond.arrayClass FieldType.int ∈ lw_good := List.mem_filter.mpr ⟨by decide +kernel, rfl⟩
  intro T hT Xs
  obtain ⟨vm₁, cA, comp, -, fA, fC, hO, -, X', step⟩ := Xs.multianewarray2F F.1 (mi_own F hm) (ty := .int) (hts _ w1) (va_AOA.use hE.2.2.2.2.2.2.2.1) (hts _ harr) (g := F0 m pc arr (.int y :: .int x :: st.map (cv G))) rfl (by rw [F.2.1]; exact hd) rfl hx hy (by omega) (by rw [hM]; show M * 4 ≤ _; omega) (by omega) rfl rfl (by omega) (by rw [hN, hM]; omega)
  have hcA : cA = gC G 6 := by
    have h6 : s.vm.findClass ("[" ++ (FieldType.array .int).toString) = some (gC G 6) := (hK.2 6 _ (tys_at (by omega))).2
    exact Option.some.inj (fA.symm.trans h6)
  have hcC : comp = gC G 0 := by
    have h6 : s.vm.findClass ("[" ++ FieldType.int.toString) = some (gC G 0) := (hK.2 0 _ (tys_at (by omega))).2
    have e9 : (FieldType.array .int).toString = "[" ++ FieldType.int.toString := by decide +kernel
    rw [e9] at fC
    exact Option.some.inj (fC.symm.trans h6)
  rw [hN, hM] at X' step
  generalize hF : Jvm.Free.Multi.fill (T.setVm vm₁) cA comp N M (defaultValue .int) N = U at X' step
  have hTh : (T.setVm vm₁).heap = H := hT
  obtain ⟨f1, f2, -, -⟩ := Jvm.Free.Multi.fill_facts (T.setVm vm₁) cA comp N M (defaultValue .int) N
  rw [hF, hTh] at f1 f2
  have hold : ∀ q : Nat, q < H.size → U.heap[q]? = H[q]? := fun q hq => by
    have := Jvm.Free.Multi.fill_old (T.setVm vm₁) cA comp N M (defaultValue .int) (a := q) (by rw [hTh]; exact hq) N
    rw [hF, hTh] at this
    exact this
  have hrow : ∀ j : Nat, j < N → U.heap[H.size + 1 + j]? = some (Jvm.Free.Multi.innerC comp M (defaultValue .int)) := fun j hj => by
    have := Jvm.Free.Multi.fill_inner (T.setVm vm₁) cA comp N M (defaultValue .int) N j hj
    rw [hF, hTh] at this
    exact this
  obtain ⟨z1, z2, z3, z4⟩ := h2
  have hw : WD G (n + 1 + N) I L (uM R n N) U.heap := by
    refine ⟨by rw [f1, z1]; omega, hn9, fun q hq => ?_, fun a ha => ?_⟩
    · rw [hold q (by omega)]
      exact z3 q hq
    · by_cases q1 : a < n
      · have he : ent G I L (uM R n N) a = ent G I L R a := by
          have : uM R n N a = R a := by funext j; unfold uM; rw [if_neg (fun z => by omega)]
          unfold ent entF
          rw [this]
        rw [he]
        exact (z4 a q1).kept (hold _ (by rw [ad_lt (by omega)]; omega))
      · by_cases q2 : a = n
        · subst q2
          rw [ent_q hk (by omega)]
          show U.heap[ad G a]? = some (vp_cell _ _)
          rw [ad_lt (by omega), ← z1, f2, hcA, vp_cell_q, vr_outer]
          congr 2
          funext j
          unfold uM
          by_cases q3 : j < N
          · rw [if_pos q3, if_pos ⟨rfl, q3⟩]
            show va_rf (some (H.size + 1 + j)) = va_rf (some (ad G (a + 1 + j)))
            rw [ad_lt (by omega), z1]
            congr 2
            omega
          · rw [if_neg q3, if_neg (fun z => q3 z.2), hR]
            rfl
        · obtain ⟨i, rfl⟩ : ∃ i, a = n + 1 + i := ⟨a - n - 1, by omega⟩
          rw [ent_i (hkr i (by omega)) (by omega)]
          show U.heap[ad G (n + 1 + i)]? = some (vp_cell _ _)
          rw [ad_lt (by omega), show gB G + (n + 1 + i) = H.size + 1 + i by omega, hrow i (by omega), hcC]
          rw [vp_cell_i]
          congr 1
          have : I (n + 1 + i) = fun _ => 0 := funext (hI i (by omega))
          rw [this]
          exact arrV_new _ _ _
  have k9 := kk U.heap locs arr h1 hw h3 (by omega)
  rw [show n + 1 + N - n0 = n - n0 + 1 + N by omega, show szL (n + 1 + N) - szL n0 = szL n - szL n0 + N + N * M by omega] at k9
  rw [List.map_cons, show cv G (.ref n) = .ref T.heap.size from congrArg Value.ref ((ad_lt (by omega)).trans (by rw [hT]; exact z1.symm))] at k9
  obtain ⟨t, a1, b1⟩ := k9 U rfl X'
  exact ⟨t, step t a1, b1⟩
theorem ent_uC {G : cG} {I : MI} {L : ML} {R : MR} {a b q : Nat} {i j k : Int32} (h : q ≠ b) : ent G (uC I a b i j k) L R q = ent G I L R q := by
  have : uC I a b i j k q = I q := by
    funext y
    unfold uC
    rw [if_neg (fun z => h z.1)]
  unfold ent entF
  rw [this]
def mrY (q : Nat × Nat × Nat × Nat × Nat × Nat × Nat) : Bool := if q.2.2.1 = 998 then decide (wd q.2.2.2.2.2.1 = some (.methodLink (cnm q.1) q.2.1 arraycopyName)) else true
set_option maxRecDepth 100000 in
theorem mrY_ok : mrL.all mrY = true := by decide +kernel
set_option maxRecDepth 100000 in
theorem ac_nat : Cond.native arraycopyName ∈ lw_good := List.mem_filter.mpr ⟨tbK_in (k := 5) (List.mem_of_getElem? (i := 215) rfl), rfl⟩
set_option maxRecDepth 100000 in
theorem ac_stat : Cond.static arraycopyName ∈ lw_good := List.mem_filter.mpr ⟨tbK_in (k := 5) (List.mem_of_getElem? (i := 214) rfl), rfl⟩
set_option maxRecDepth 100000 in
theorem ac_ini : Cond.initialized "java/lang/System" ∈ lw_good := List.mem_filter.mpr ⟨tbK_in (k := 1) (List.mem_of_getElem? (i := 22) rfl), rfl⟩
theorem ac_words : nativeFrameWords "java/lang/System" "arraycopy" 5 + 11 ≤ 32 := by decide +kernel
theorem K_copy (F : FrOK G mi p s m meth c args) (hm : mi < 286) {ix na mode d n1 a b : Nat} {i j x : Int32} {rest : List Value} (hrm : RmOK Rm d n0 n1) (hd : decode (mcc mi) pc = .ok (.invokestatic ix, 3)) (hr : mr (mci mi) ix = some (998, na, mode)) (ha : a < n) (hb : b < n) (hka : (kK a).1 = 0) (hkb : (kK b).1 = 0) (hi : ¬ i < 0) (hj : ¬ j < 0) (hx : ¬ x < 0) (g1 : i.toNatClampNeg + x.toNatClampNeg ≤ (kK a).2) (g2 : j.toNatClampNeg + x.toNatClampNeg ≤ (kK b).2) (hcs : cS rest ≤ 8) (kk : KK G p e Rm s m args below meth c n0 Z (pc + 3) ls rest n (uC I a b i j x) L R) : KK G p e Rm s m args below meth c n0 Z pc ls (.int x :: .int j :: .ref b :: .int i :: .ref a :: rest) n I L R := by
  intro H locs arr h1 h2 h3 h4
  unfold mr at hr
  cases hf : mrL.find? (fun q => q.1 == mci mi && q.2.1 == ix) with
  | none => rw [hf] at hr; cases hr
  | some q =>
    rw [hf] at hr
    have hq : (q.2.2.1, q.2.2.2.1, q.2.2.2.2.1) = (998, na, mode) := Option.some.inj hr
    have q1 : q.2.2.1 = 998 := congrArg Prod.fst hq
    have y1 := List.all_eq_true.mp mrY_ok q (List.mem_of_find?_eq_some hf)
    have y2 := List.find?_some hf
    simp only [Bool.and_eq_true, beq_iff_eq] at y2
    unfold mrY at y1
    rw [if_pos q1] at y1
    have hl := lw_mem (of_decide_eq_true y1) rfl
    rw [y2.1, y2.2] at hl
    have hts := F.2.2.2.2.2.2.2.1
    have hK := F.2.2.2.2.2.2.2.2.1.1
    obtain ⟨r1, r2, -, -⟩ := hrm
    have han : a < 1000 := Nat.lt_of_lt_of_le ha h2.2.1
    have hbn : b < 1000 := Nat.lt_of_lt_of_le hb h2.2.1
    have eka : kK a = (0, (kK a).2) := Prod.ext hka rfl
    have ekb : kK b = (0, (kK b).2) := Prod.ext hkb rfl
    have hPa : H[ad G a]? = some (vp_cell (gC G 0) ((kK a).2, .inl (I a))) := h2.P1 ha (ent_i eka (by omega)) 0 _ rfl
    have hPb : H[ad G b]? = some (vp_cell (gC G 0) ((kK b).2, .inl (I b))) := h2.P1 hb (ent_i ekb (by omega)) 0 _ rfl
    have nn : ∀ z : Int32, ¬ z < 0 → z.toInt = (z.toNatClampNeg : Int) := by
      intro z hz
      have hz0 : (0 : Int) ≤ z.toInt := by
        have := Int32.not_lt.mp hz
        simpa using Int32.le_iff_toInt_le.mp this
      show z.toInt = ((z.toInt.toNat : Nat) : Int)
      omega
    obtain ⟨-, k0, hk0, cm0, hkk0⟩ := (hK.2 0 _ (tys_at (by omega))).1 (kK a).2 (fun j => .int (I a j))
    intro T hT X
    obtain ⟨vm', X', step⟩ := X.arraycopy F.1 (mi_own F hm) (hts _ hl) (hts _ ac_nat) (hts _ ac_stat) (hts _ ac_ini) (src := ad G a) (dst := ad G b) (cs := vp_cell (gC G 0) ((kK a).2, .inl (I a))) (cd := vp_cell (gC G 0) ((kK b).2, .inl (I b))) (srcPos := i) (destPos := j) (n := x) (by rw [hT]; exact hPa) (by rw [hT]; exact hPb)
      (fun _ h => by cases h) (fun _ h => by cases h) (fun h => by cases h) (fun h => by cases h) hk0 hk0 hkk0 hkk0 (by simp [refKind]) hi hj hx
      (by rw [nn i hi, nn x hx]; show ¬ _ > ((arrV (gC G 0) (kK a).2 (fun j => .int (I a j))).slots.size : Int); rw [arrV_size]; omega)
      (by rw [nn j hj, nn x hx]; show ¬ _ > ((arrV (gC G 0) (kK b).2 (fun j => .int (I b j))).slots.size : Int); rw [arrV_size]; omega)
      (fun vm₁ _ q hq => by
        have e : (vp_cell (gC G 0) ((kK a).2, .inl (I a))).slots.getD (i.toNatClampNeg + q) .null = .int (I a (i.toNatClampNeg + q)) := by
          show (arrV (gC G 0) (kK a).2 (fun j => .int (I a j))).slots.getD _ _ = _
          rw [Array.getD_eq_getD_getElem?, arrV_read _ _ (by omega)]
          rfl
        refine ⟨?_, ?_⟩
        · rw [e]
          rfl
        · rw [e]
          exact trivial)
      (g := F0 m pc arr ((Value.int x :: .int j :: .ref b :: .int i :: .ref a :: rest).map (cv G))) rfl h1.1 (rest := rest.map (cv G)) rfl (by rw [F.2.1]; exact hd) (by omega) (by
        have := cS_cat G rest
        show 2 * 0 + _ + _ ≤ _
        rw [this]
        have h9 : nativeFrameWords "java/lang/System" "arraycopy" 5 + 11 ≤ 32 := ac_words
        omega)
    have e1 : copied (vp_cell (gC G 0) ((kK a).2, .inl (I a))) (vp_cell (gC G 0) ((kK b).2, .inl (I b))) i j x = vp_cell (gC G 0) ((kK b).2, .inl (va_cpy (I a) (I b) i.toNatClampNeg j.toNatClampNeg x.toNatClampNeg)) := va_copied (fun z => .int z) (gC G 0) (gC G 0) (I a) (I b) g1
    rw [e1] at X' step
    have hlt : ad G b < H.size := (Array.getElem?_eq_some_iff.mp hPb).1
    have hheap : ((T.setVm vm').setCell (ad G b) (vp_cell (gC G 0) ((kK b).2, .inl (va_cpy (I a) (I b) i.toNatClampNeg j.toNatClampNeg x.toNatClampNeg)))).heap = H.setIfInBounds (ad G b) (vp_cell (gC G 0) ((kK b).2, .inl (va_cpy (I a) (I b) i.toNatClampNeg j.toNatClampNeg x.toNatClampNeg))) := by rw [← hT]; rfl
    have hw : WD G n (uC I a b i j x) L R (H.setIfInBounds (ad G b) (vp_cell (gC G 0) ((kK b).2, .inl (va_cpy (I a) (I b) i.toNatClampNeg j.toNatClampNeg x.toNatClampNeg)))) := by
      refine h2.upd hb (by simp) (fun q hq => by simp [Array.getElem?_setIfInBounds, Ne.symm hq]) (fun q hq => ent_uC hq) ?_
      rw [ent_i ekb (by omega)]
      show (H.setIfInBounds (ad G b) _)[ad G b]? = some _
      have hfe : uC I a b i j x b = va_cpy (I a) (I b) i.toNatClampNeg j.toNatClampNeg x.toNatClampNeg := by
        funext y
        unfold uC va_cpy
        by_cases q : j.toNatClampNeg ≤ y ∧ y < j.toNatClampNeg + x.toNatClampNeg
        · rw [if_pos ⟨rfl, q.1, q.2⟩, if_pos q]
        · rw [if_neg (fun z => q z.2), if_neg q]
      rw [hfe]
      simp [Array.getElem?_setIfInBounds, hlt]
    have k9 := fun (Lc : List Loc) (hLc : ∀ q ∈ Lc, q.base = ad G b) => kk (H.setIfInBounds (ad G b) (vp_cell (gC G 0) ((kK b).2, .inl (va_cpy (I a) (I b) i.toNatClampNeg j.toNatClampNeg x.toNatClampNeg)))) (locs ++ Lc) arr h1 hw (fun q hq => by
      rcases List.mem_append.mp hq with h | h
      · exact h3 q h
      · rw [hLc q h, ad_lt hbn]
        omega) h4
    obtain ⟨t, a1, b1⟩ := k9 _ (by
      intro q hq
      obtain ⟨z, -, hz⟩ := List.mem_map.mp hq
      rw [← hz]) _ hheap X'
    exact ⟨t, step t a1, b1⟩
def grC (q : Nat × Nat × Nat × Nat) : Bool := decide (wd q.2.2.2 = some (if q.2.2.1 = 1000 then .fieldLink (cnm q.1) q.2.1 "TruceLine$Mark" "UNDER" "[I" else if q.2.2.1 = 1001 then .fieldLink (cnm q.1) q.2.1 "TruceLine$Mark" "EARS" "[I" else .fieldLink (cnm q.1) q.2.1 "TruceLine$Incidents" "LOUDNESS" "[I")) && decide (q.2.2.1 = 1000 ∨ q.2.2.1 = 1001 ∨ q.2.2.1 = 1002)
theorem grC_ok : grL.all grC = true := by decide +kernel
theorem K_gets (F : FrOK G mi p s m meth c args) (hm : mi < 286) {ix a : Nat} (hd : decode (mcc mi) pc = .ok (.getstatic ix, 3)) (hf : gr (mci mi) ix = some a) (kk : KK G p e Rm s m args below meth c n0 Z (pc + 3) ls (.ref a :: st) n I L R) : KK G p e Rm s m args below meth c n0 Z pc ls st n I L R := by
  intro H locs arr h1 h2 h3 h4
  unfold gr at hf
  cases hq : grL.find? (fun q => q.1 == mci mi && q.2.1 == ix) with
  | none => rw [hq] at hf; cases hf
  | some q =>
    rw [hq] at hf
    cases hf
    have g1 := List.all_eq_true.mp grC_ok q (List.mem_of_find?_eq_some hq)
    have g2 := List.find?_some hq
    simp only [Bool.and_eq_true, beq_iff_eq] at g2
    unfold grC at g1
    simp only [Bool.and_eq_true, decide_eq_true_eq] at g1
    have k9 := kk H locs arr h1 h2 h3 h4
    have hts := F.2.2.2.2.2.2.2.1
    have hE := F.2.2.2.2.2.2.2.2.1
    have hlk := lw_mem g1.1 (by
      rcases g1.2 with z | z | z
      · rw [if_pos z]; rfl
      · rw [if_neg (by omega), if_pos z]; rfl
      · rw [if_neg (by omega), if_neg (by omega)]; rfl)
    have hlt : 1000 ≤ q.2.2.1 := by omega
    have fin : ∀ (C nm : String), va_Z C nm "[I" (.ref (gA G q.2.2.1)) (fun q => gB G ≤ q) s (gH G) → Cond.fieldLink (cnm (mci mi)) ix C nm "[I" ∈ lw_good → W p (gL G) e Rm s m args below meth c H locs (n - n0) (szL n - szL n0) Z (F0 m pc arr (st.map (cv G))) := by
      intro C nm hZ hl
      obtain ⟨cf, kf, fi, f, a, cell, b1, b2, b3, b4, b5, b6, b7, b8⟩ := hZ
      have hcell : H[a]? = some cell := by rw [h2.2.2.1 _ (by omega)]; exact b5
      refine W.gets F.1 F.2.1 (mi_own F hm) (hts _ hl) b1 b2 b3 b4 hcell (fun e => by rw [e] at b6; cases b6) b7 rfl hd ?_
      rw [List.map_cons, show cv G (.ref q.2.2.1) = .ref (gA G q.2.2.1) from congrArg Value.ref (if_neg (by omega))] at k9
      exact k9
    rw [g2.1, g2.2] at hlk
    rcases g1.2 with z | z | z
    · rw [if_pos z] at hlk
      exact fin _ _ (by rw [z]; exact hE.2.2.1.1) hlk
    · rw [if_neg (by omega), if_pos z] at hlk
      exact fin _ _ (by rw [z]; exact hE.2.2.1.2.1) hlk
    · rw [if_neg (by omega), if_neg (by omega)] at hlk
      exact fin _ _ (by rw [z]; exact hE.2.2.1.2.2) hlk
def klC (q : Nat × Nat × Int64 × Nat) : Bool := decide (wd q.2.2.2 = some (.constantLong (cnm q.1) q.2.1 q.2.2.1))
theorem klC_ok : klL.all klC = true := by decide +kernel
theorem K_ldc2 (F : FrOK G mi p s m meth c args) (hm : mi < 286) {ix : Nat} {x : Int64} (hd : decode (mcc mi) pc = .ok (.ldc2_w ix, 3)) (hf : kl (mci mi) ix = some x) (kk : KK G p e Rm s m args below meth c n0 Z (pc + 3) ls (.long x :: st) n I L R) : KK G p e Rm s m args below meth c n0 Z pc ls st n I L R := by
  intro H locs arr h1 h2 h3 h4
  unfold kl at hf
  cases hq : klL.find? (fun q => q.1 == mci mi && q.2.1 == ix) with
  | none => rw [hq] at hf; cases hf
  | some q =>
    rw [hq] at hf
    cases hf
    have g1 := List.all_eq_true.mp klC_ok q (List.mem_of_find?_eq_some hq)
    have g2 := List.find?_some hq
    simp only [Bool.and_eq_true, beq_iff_eq] at g2
    unfold klC at g1
    have hl := lw_mem (of_decide_eq_true g1) rfl
    rw [g2.1, g2.2] at hl
    exact lv_ldc2 F.1 F.2.1 (mi_own F hm) (F.2.2.2.2.2.2.2.1 _ hl) hd (kk H locs arr h1 h2 h3 h4)
def kiC (q : Nat × Nat × Int32 × Nat) : Bool := decide (wd q.2.2.2 = some (.constant (cnm q.1) q.2.1 q.2.2.1))
theorem kiC_ok : kiL.all kiC = true := by decide +kernel
theorem K_ldcw (F : FrOK G mi p s m meth c args) (hm : mi < 286) {ix : Nat} {x : Int32} (hd : decode (mcc mi) pc = .ok (.ldc_w ix, 3)) (hf : ki (mci mi) ix = some x) (kk : KK G p e Rm s m args below meth c n0 Z (pc + 3) ls (.int x :: st) n I L R) : KK G p e Rm s m args below meth c n0 Z pc ls st n I L R := by
  intro H locs arr h1 h2 h3 h4
  unfold ki at hf
  cases hq : kiL.find? (fun q => q.1 == mci mi && q.2.1 == ix) with
  | none => rw [hq] at hf; cases hf
  | some q =>
    rw [hq] at hf
    cases hf
    have g1 := List.all_eq_true.mp kiC_ok q (List.mem_of_find?_eq_some hq)
    have g2 := List.find?_some hq
    simp only [Bool.and_eq_true, beq_iff_eq] at g2
    unfold kiC at g1
    have hl := lw_mem (of_decide_eq_true g1) rfl
    rw [g2.1, g2.2] at hl
    exact lv_ldcw F.1 F.2.1 (mi_own F hm) (F.2.2.2.2.2.2.2.1 _ hl) hd (kk H locs arr h1 h2 h3 h4)
theorem ks_tab : ∀ k, k < 12 → ∃ q, ksL[k]? = some q ∧ q.2.2.1 = 1010 + k ∧ (ksL.map (fun q => if q.1 = 9 then RX9 else RX6)).getD k "" = cnm q.1 ∧ (ksL.map (fun q => q.2.1)).getD k 0 = q.2.1 := by
  intro k hk
  have : ∀ k, k < 12 → (ksL[k]?).any (fun q => q.2.2.1 == 1010 + k && (ksL.map (fun q => if q.1 = 9 then RX9 else RX6)).getD k "" == cnm q.1 && (ksL.map (fun q => q.2.1)).getD k 0 == q.2.1) = true := by decide +kernel
  have h := this k hk
  cases hq : ksL[k]? with
  | none => rw [hq] at h; cases h
  | some q =>
    rw [hq] at h
    simp only [Option.any_some, Bool.and_eq_true, beq_iff_eq] at h
    exact ⟨q, rfl, h.1.1, h.1.2, h.2⟩
theorem K_ldcs (F : FrOK G mi p s m meth c args) (hm : mi < 286) {ix a : Nat} (hd : decode (mcc mi) pc = .ok (.ldc ix, 2)) (hf : ks (mci mi) ix = some a) (kk : KK G p e Rm s m args below meth c n0 Z (pc + 2) ls (.ref a :: st) n I L R) : KK G p e Rm s m args below meth c n0 Z pc ls st n I L R := by
  intro H locs arr h1 h2 h3 h4
  unfold ks at hf
  cases hq : ksL.find? (fun q => q.1 == mci mi && q.2.1 == ix) with
  | none => rw [hq] at hf; cases hf
  | some q =>
    rw [hq] at hf
    cases hf
    have g2 := List.find?_some hq
    simp only [Bool.and_eq_true, beq_iff_eq] at g2
    obtain ⟨k, hk⟩ := List.getElem?_of_mem (List.mem_of_find?_eq_some hq)
    have hk12 : k < 12 := (List.getElem?_eq_some_iff.mp hk).1
    obtain ⟨q', e0, e1, e2, e3⟩ := ks_tab k hk12
    have : q' = q := Option.some.inj (e0.symm.trans hk)
    subst this
    have hE := F.2.2.2.2.2.2.2.2.1
    obtain ⟨z1, z2⟩ := hE.2.2.2.2.1 k hk12
    have hZ : vk_R _ _ _ _ s := ⟨z1, z2⟩
    rw [e2, e3, g2.1, g2.2] at hZ
    have k9 := kk H locs arr h1 h2 h3 h4
    rw [List.map_cons, show cv G (.ref q'.2.2.1) = .ref (gA G (1010 + k)) from congrArg Value.ref ((congrArg (ad G) e1).trans (if_neg (by omega)))] at k9
    exact va_ldcS F.1 F.2.1 (mi_own F hm) hZ hd k9
theorem jT_e {pc : Nat} {off : Int} (h : 0 ≤ (pc : Int) + off) : (pc : Int) + off = ((((pc : Int) + off).toNat : Nat) : Int) := by omega
theorem swL_at {x : Int32} {K : Int → Prop} : ∀ (l : List Int) (lo : Int), swL x lo l K → ∀ (i : Nat) (o : Int), l[i]? = some o → x = Int32.ofInt (lo + i) → K o := by
  intro l
  induction l with
  | nil => intro lo h i o ho; cases ho
  | cons a l ih =>
    intro lo h i o ho hx
    cases i with
    | zero =>
      cases ho
      exact h.1 (by rw [hx]; congr 1; omega)
    | succ i => exact ih (lo + 1) h.2 i o ho (by rw [hx]; congr 1; omega)
theorem ofInt_toInt' {x : Int32} {z : Int} (h : x.toInt = z) : x = Int32.ofInt z := by rw [← h]; exact (Int32.ofInt_toInt x).symm
theorem ofInt_val {z : Int} (h1 : -2147483648 ≤ z) (h2 : z ≤ 2147483647) : (Int32.ofInt z).toInt = z := Int32.toInt_ofInt_of_le (by exact h1) (by show z < 2147483648; omega)
theorem K_table2 (F : FrOK G mi p s m meth c args) {x : Int32} {df lo hi : Int} {offs : Array Int} {len : Nat} {Kt : Nat → Prop} (hd : decode (mcc mi) pc = .ok (.tableswitch df lo hi offs, len)) (h0 : -2147483648 ≤ lo ∧ hi ≤ 2147483647 ∧ (hi - lo + 1).toNat = offs.size ∧ lo ≤ hi) (h1 : swL x lo offs.toList (fun off => jK pc off Kt)) (h2 : (x < Int32.ofInt lo ∨ Int32.ofInt hi < x) → jK pc df Kt) (kk : ∀ t, Kt t → KK G p e Rm s m args below meth c n0 Z t ls st n I L R) : KK G p e Rm s m args below meth c n0 Z pc ls (.int x :: st) n I L R := by
  intro H locs arr a1 a2 a3 a4
  by_cases q : x.toInt < lo ∨ hi < x.toInt
  · have := h2 (by
      rcases q with q | q
      · exact Or.inl (Int32.lt_iff_toInt_lt.mpr (by rw [ofInt_val h0.1 (by omega)]; exact q))
      · exact Or.inr (Int32.lt_iff_toInt_lt.mpr (by rw [ofInt_val (by omega) h0.2.1]; exact q)))
    exact lv_tableOut (tgt := ((pc : Int) + df).toNat) F.1 F.2.1 hd q (jT_e this.1) (kk _ this.2 H locs arr a1 a2 a3 a4)
  · have q1 : ¬ x.toInt < lo := fun z => q (Or.inl z)
    have q2 : ¬ hi < x.toInt := fun z => q (Or.inr z)
    have hlt : (x.toInt - lo).toNat < offs.size := by omega
    have ho : offs[(x.toInt - lo).toNat]? = some offs[(x.toInt - lo).toNat] := Array.getElem?_eq_getElem hlt
    have := swL_at _ _ h1 (x.toInt - lo).toNat offs[(x.toInt - lo).toNat] (by rw [Array.getElem?_toList]; exact ho) (ofInt_toInt' (by omega))
    exact lv_tableIn (tgt := ((pc : Int) + offs[(x.toInt - lo).toNat]).toNat) F.1 F.2.1 hd q1 q2 ho (jT_e this.1) (kk _ this.2 H locs arr a1 a2 a3 a4)
theorem lkL_off {x : Int32} {D : Prop} {K : Int → Prop} {df : Int} : ∀ (l : List (Int × Int)), l.all (fun q => decide (-2147483648 ≤ q.1 ∧ q.1 ≤ 2147483647)) = true → lkL x l D K → (D → K df) → K (Op.lookupswitch.offset l df x.toInt) := by
  intro l
  induction l with
  | nil => intro _ h hD; exact hD h
  | cons q l ih =>
    intro hr h hD
    simp only [List.all_cons, Bool.and_eq_true, decide_eq_true_eq] at hr
    show K (if q.1 = x.toInt then q.2 else Op.lookupswitch.offset l df x.toInt)
    by_cases z : x = Int32.ofInt q.1
    · have hz : q.1 = x.toInt := by rw [z]; exact (ofInt_val hr.1.1 hr.1.2).symm
      rw [if_pos hz]
      exact h.1 z
    · have hz : ¬ q.1 = x.toInt := fun y => z (ofInt_toInt' y.symm)
      rw [if_neg hz]
      exact ih hr.2 (h.2 z) hD
theorem K_lookup2 (F : FrOK G mi p s m meth c args) {x : Int32} {df : Int} {ps : Array (Int × Int)} {len : Nat} {Kt : Nat → Prop} (hd : decode (mcc mi) pc = .ok (.lookupswitch df ps, len)) (h0 : (ps.toList.zip (ps.toList.drop 1)).all (fun (a, next) => a.1 < next.1) = true) (h1 : ps.toList.all (fun q => decide (-2147483648 ≤ q.1 ∧ q.1 ≤ 2147483647)) = true) (h2 : lkL x ps.toList (jK pc df Kt) (fun off => jK pc off Kt)) (kk : ∀ t, Kt t → KK G p e Rm s m args below meth c n0 Z t ls st n I L R) : KK G p e Rm s m args below meth c n0 Z pc ls (.int x :: st) n I L R := by
  have := lkL_off (df := df) _ h1 h2 id
  exact K_lookup F (tgt := ((pc : Int) + Op.lookupswitch.offset ps.toList df x.toInt).toNat) hd h0 (jT_e this.1) (kk _ this.2)
theorem pF_mono {mj : Nat} {as : List Value} {K K' : Value → Prop} (hk : ∀ v, K v → K' v) (h : pF mj as K) : pF mj as K' := by
  unfold pF at h ⊢
  split at h
  · exact hk _ h
  · exact h.elim
def mrO (q : Nat × Nat × Nat × Nat × Nat × Nat × Nat) : Bool := if q.2.2.1 = 999 then decide (wd q.2.2.2.2.2.1 = some (.methodLink (cnm q.1) q.2.1 Lib.objectInit)) && decide (q.2.2.2.2.1 = 2) else true
theorem oi_inst : Cond.instanceMethod Lib.objectInit ∈ lw_tbl := tbK_in (k := 1) (List.mem_of_getElem? (i := 29) rfl)
theorem oi_code : Cond.code Lib.objectInit ⟨#[0xb1]⟩ 1 none ∈ lw_tbl := tbK_in (k := 1) (List.mem_of_getElem? (i := 30) rfl)
set_option maxRecDepth 100000 in
theorem nat_s0 : Cond.static Lib.Math.abs.name ∈ lw_good := List.mem_filter.mpr ⟨tbK_in (k := 4) (List.mem_of_getElem? (i := 3) rfl), rfl⟩
set_option maxRecDepth 100000 in
theorem nat_c0 : Cond.code Lib.Math.abs.name Lib.Math.abs.code 1 (some .int) ∈ lw_good := List.mem_filter.mpr ⟨tbK_in (k := 4) (List.mem_of_getElem? (i := 4) rfl), rfl⟩
set_option maxRecDepth 100000 in
theorem nat_s1 : Cond.static Lib.Math.max.name ∈ lw_good := List.mem_filter.mpr ⟨tbK_in (k := 3) (List.mem_of_getElem? (i := 222) rfl), rfl⟩
set_option maxRecDepth 100000 in
theorem nat_c1 : Cond.code Lib.Math.max.name Lib.Math.max.code 2 (some .int) ∈ lw_good := List.mem_filter.mpr ⟨tbK_in (k := 3) (List.mem_of_getElem? (i := 223) rfl), rfl⟩
set_option maxRecDepth 100000 in
theorem nat_s2 : Cond.static Lib.Math.min.name ∈ lw_good := List.mem_filter.mpr ⟨tbK_in (k := 1) (List.mem_of_getElem? (i := 193) rfl), rfl⟩
set_option maxRecDepth 100000 in
theorem nat_c2 : Cond.code Lib.Math.min.name Lib.Math.min.code 2 (some .int) ∈ lw_good := List.mem_filter.mpr ⟨tbK_in (k := 1) (List.mem_of_getElem? (i := 194) rfl), rfl⟩
theorem nat_i : Cond.initialized "java/lang/Math" ∈ lw_good := List.mem_filter.mpr ⟨tbK_in (k := 1) (List.mem_of_getElem? (i := 9) rfl), rfl⟩
set_option maxRecDepth 100000 in
theorem nest_math : lw_tbl.all (fun w => match w with | .methodLinkNest _ _ y _ => decide (y.cls ≠ "java/lang/Math") | _ => true) = true := by decide +kernel
set_option maxRecDepth 100000 in
theorem mrO_0 : mrL_0.all mrO = true := by decide +kernel
set_option maxRecDepth 100000 in
theorem mrO_1 : mrL_1.all mrO = true := by decide +kernel
set_option maxRecDepth 100000 in
theorem mrO_2 : mrL_2.all mrO = true := by decide +kernel
set_option maxRecDepth 100000 in
theorem mrO_3 : mrL_3.all mrO = true := by decide +kernel
set_option maxRecDepth 100000 in
theorem mrO_4 : mrL_4.all mrO = true := by decide +kernel
set_option maxRecDepth 100000 in
theorem mrO_5 : mrL_5.all mrO = true := by decide +kernel
set_option maxRecDepth 100000 in
theorem mrO_6 : mrL_6.all mrO = true := by decide +kernel
theorem mrO_ok : mrL.all mrO = true := by
  unfold mrL
  simp only [List.all_append, mrO_0, mrO_1, mrO_2, mrO_3, mrO_4, mrO_5, mrO_6, Bool.and_self]
theorem K_oinit (F : FrOK G mi p s m meth c args) (hm : mi < 286) {ix a na mode d n1 : Nat} {rest : List Value} (hrm : RmOK Rm d n0 n1) (hd : decode (mcc mi) pc = .ok (if mode = 0 then .invokevirtual ix else if mode = 1 then .invokestatic ix else .invokespecial ix, 3)) (hr : mr (mci mi) ix = some (999, na, mode)) (hcs : cS rest ≤ 8) (kk : KK G p e Rm s m args below meth c n0 Z (pc + 3) ls rest n I L R) : KK G p e Rm s m args below meth c n0 Z pc ls (.ref a :: rest) n I L R := by
  intro H locs arr h1 h2 h3 h4
  unfold mr at hr
  cases hf : mrL.find? (fun q => q.1 == mci mi && q.2.1 == ix) with
  | none => rw [hf] at hr; cases hr
  | some q =>
    rw [hf] at hr
    have hq : (q.2.2.1, q.2.2.2.1, q.2.2.2.2.1) = (999, na, mode) := Option.some.inj hr
    have q1 : q.2.2.1 = 999 := congrArg Prod.fst hq
    have q2 : q.2.2.2.2.1 = mode := congrArg (fun x => x.2.2) hq
    have g1 := List.all_eq_true.mp mrO_ok q (List.mem_of_find?_eq_some hf)
    have g2 := List.find?_some hf
    simp only [Bool.and_eq_true, beq_iff_eq] at g2
    unfold mrO at g1
    rw [if_pos q1] at g1
    simp only [Bool.and_eq_true, decide_eq_true_eq] at g1
    have hl := lw_mem g1.1 rfl
    rw [g2.1, g2.2] at hl
    have hts := F.2.2.2.2.2.2.2.1
    have hmode : mode = 2 := by rw [← q2]; exact g1.2
    subst hmode
    obtain ⟨r1, r2, -, -⟩ := hrm
    have hsz : (F0 m pc arr ((Value.ref a :: rest).map (cv G))).locals.size = c.maxLocals := h1.1
    refine W.objInit F.1 F.2.1 (mi_own F hm) (hts _ hl) (hts (.instanceMethod Lib.objectInit) (List.mem_filter.mpr ⟨oi_inst, rfl⟩)) (hts _ (List.mem_filter.mpr ⟨oi_code, rfl⟩)) rfl hsz rfl hd (by omega) ?_ ?_
    · have := lv_room (m := m) (pc := pc) (ls := arr) (rest := (Value.ref a :: rest).map (cv G)) (st := rest.map (cv G)) (by rw [cS_cat]; exact hcs)
      omega
    · exact kk H locs arr h1 h2 h3 h4
theorem K_nat (F : FrOK G mi p s m meth c args) (hm : mi < 286) {ix mj na mode d n1 : Nat} {Kn : Int32 → List Value → Prop} (hrm : RmOK Rm d n0 n1) (hn1 : n ≤ n1) (hd : decode (mcc mi) pc = .ok (if mode = 0 then .invokevirtual ix else if mode = 1 then .invokestatic ix else .invokespecial ix, 3)) (hr : mr (mci mi) ix = some (mj, na, mode)) (hnat : 270 ≤ mj ∧ mj ≤ 272) (h : nF mj st (fun x r => cS r ≤ 8 ∧ Kn x r)) (kk : ∀ x r, Kn x r → KK G p e Rm s m args below meth c n0 Z (pc + 3) ls (.int x :: r) n I L R) : KK G p e Rm s m args below meth c n0 Z pc ls st n I L R := by
  intro H locs arr h1 h2 h3 h4
  obtain ⟨x, hx, x1, x2, x3, x4, hlink⟩ := mr_facts hr (by omega)
  have hk1 : ∀ i, i < 3 → (mpL[270 + i]?).map (fun x => x.2.2.2.2.1) = some 1 := by decide +kernel
  have h5 := hk1 (mj - 270) (by omega)
  rw [show 270 + (mj - 270) = mj by omega] at h5
  rw [hx] at h5
  have hm1 : mode = 1 := by
    by_cases z : mode = 1
    · exact z
    · rw [if_neg z] at x2
      have : x.2.2.2.2.1 = 1 := Option.some.inj h5
      omega
  subst hm1
  have hts := F.2.2.2.2.2.2.2.1
  obtain ⟨r1, r2, r3, r4⟩ := hrm
  have e2 := szL_mono h4
  have e3 := szL_mono hn1
  have hnn : ∀ host, Cond.methodLinkNest (cnm (mci mi)) ix (my mj) host ∈ lw_nest → False := fun host hh => by
    have hz := (List.mem_filter.mp hh).1
    have : lw_tbl.all (fun w => match w with | .methodLinkNest _ _ y _ => decide (y.cls ≠ "java/lang/Math") | _ => true) = true := nest_math
    have h6 := List.all_eq_true.mp this _ hz
    have h7 : (my mj).cls = "java/lang/Math" := by
      rcases (show mj = 270 ∨ mj = 271 ∨ mj = 272 by omega) with rfl | rfl | rfl <;> rfl
    simp [h7] at h6
  have hl : Cond.methodLink (cnm (mci mi)) ix (my mj) ∈ lw_good := by
    rcases hlink with q | ⟨host, q⟩
    · exact q
    · exact (hnn host q).elim
  unfold nF at h
  rcases (show mj = 270 ∨ mj = 271 ∨ mj = 272 by omega) with rfl | rfl | rfl
  · rw [if_pos rfl] at h
    obtain ⟨x, r, rfl, hcs, h⟩ := sI1_e h
    refine va_mabs F.1 F.2.1 h1.1.symm (mi_own F hm) (hts (.methodLink _ _ Lib.Math.abs.name) hl) (hts (.static Lib.Math.abs.name) nat_s0) (hts (.initialized "java/lang/Math") nat_i) (hts (.code Lib.Math.abs.name Lib.Math.abs.code 1 (some .int)) nat_c0) (by omega) (by rw [cS_cat]; omega) (by omega) (by omega) hd ?_
    exact kk _ _ h H locs arr h1 h2 h3 h4
  · rw [if_neg (by decide), if_pos rfl] at h
    obtain ⟨x, y, r, rfl, hcs, h⟩ := sI2_e h
    refine va_mmax F.1 F.2.1 h1.1.symm (mi_own F hm) (hts (.methodLink _ _ Lib.Math.max.name) hl) (hts (.static Lib.Math.max.name) nat_s1) (hts (.initialized "java/lang/Math") nat_i) (hts (.code Lib.Math.max.name Lib.Math.max.code 2 (some .int)) nat_c1) (by omega) (by rw [cS_cat]; omega) (by omega) (by omega) hd ?_
    exact kk _ _ h H locs arr h1 h2 h3 h4
  · rw [if_neg (by decide), if_neg (by decide), if_pos rfl] at h
    obtain ⟨x, y, r, rfl, hcs, h⟩ := sI2_e h
    refine va_mmin F.1 F.2.1 h1.1.symm (mi_own F hm) (hts (.methodLink _ _ Lib.Math.min.name) hl) (hts (.static Lib.Math.min.name) nat_s2) (hts (.initialized "java/lang/Math") nat_i) (hts (.code Lib.Math.min.name Lib.Math.min.code 2 (some .int)) nat_c2) (by omega) (by rw [cS_cat]; omega) (by omega) (by omega) hd ?_
    exact kk _ _ h H locs arr h1 h2 h3 h4
theorem mwI_264 : ∀ i, i < 268 → 264 ≤ i → i ∈ [264, 265, 266, 267] := by decide +kernel
theorem mwI_240 : ∀ i, i < 264 → 240 ≤ i → i ∈ [240, 241, 242, 243, 244, 245, 246, 247, 248, 249, 250, 251, 252, 253, 254, 255, 256, 257, 258, 259, 260, 261, 262, 263] := by decide +kernel
theorem mwI_216 : ∀ i, i < 240 → 216 ≤ i → i ∈ [216, 217, 218, 219, 220, 221, 222, 223, 224, 225, 226, 227, 228, 229, 230, 231, 232, 233, 234, 235, 236, 237, 238, 239] := by decide +kernel
theorem mwI_192 : ∀ i, i < 216 → 192 ≤ i → i ∈ [192, 193, 194, 195, 196, 197, 198, 199, 200, 201, 202, 203, 204, 205, 206, 207, 208, 209, 210, 211, 212, 213, 214, 215] := by decide +kernel
theorem mwI_168 : ∀ i, i < 192 → 168 ≤ i → i ∈ [168, 169, 170, 171, 172, 173, 174, 175, 176, 177, 178, 179, 180, 181, 182, 183, 184, 185, 186, 187, 188, 189, 190, 191] := by decide +kernel
theorem mwI_144 : ∀ i, i < 168 → 144 ≤ i → i ∈ [144, 145, 146, 147, 148, 149, 150, 151, 152, 153, 154, 155, 156, 157, 158, 159, 160, 161, 162, 163, 164, 165, 166, 167] := by decide +kernel
theorem mwI_120 : ∀ i, i < 144 → 120 ≤ i → i ∈ [120, 121, 122, 123, 124, 125, 126, 127, 128, 129, 130, 131, 132, 133, 134, 135, 136, 137, 138, 139, 140, 141, 142, 143] := by decide +kernel
theorem mwI_96 : ∀ i, i < 120 → 96 ≤ i → i ∈ [96, 97, 98, 99, 100, 101, 102, 103, 104, 105, 106, 107, 108, 109, 110, 111, 112, 113, 114, 115, 116, 117, 118, 119] := by decide +kernel
theorem mwI_72 : ∀ i, i < 96 → 72 ≤ i → i ∈ [72, 73, 74, 75, 76, 77, 78, 79, 80, 81, 82, 83, 84, 85, 86, 87, 88, 89, 90, 91, 92, 93, 94, 95] := by decide +kernel
theorem mwI_48 : ∀ i, i < 72 → 48 ≤ i → i ∈ [48, 49, 50, 51, 52, 53, 54, 55, 56, 57, 58, 59, 60, 61, 62, 63, 64, 65, 66, 67, 68, 69, 70, 71] := by decide +kernel
theorem mwI_24 : ∀ i, i < 48 → 24 ≤ i → i ∈ [24, 25, 26, 27, 28, 29, 30, 31, 32, 33, 34, 35, 36, 37, 38, 39, 40, 41, 42, 43, 44, 45, 46, 47] := by decide +kernel
theorem mwI_0 : ∀ i, i < 24 → 0 ≤ i → i ∈ [0, 1, 2, 3, 4, 5, 6, 7, 8, 9, 10, 11, 12, 13, 14, 15, 16, 17, 18, 19, 20, 21, 22, 23] := by decide +kernel
theorem mwA_0 : ∀ i ∈ [0, 1, 2, 3, 4, 5, 6, 7, 8, 9, 10, 11, 12, 13, 14, 15, 16, 17, 18, 19, 20, 21, 22, 23], Cond.code (my i) (mcc i) (mnl i) (mrt i) ∈ lw_tbl := List.forall_mem_cons.mpr ⟨mw_0, List.forall_mem_cons.mpr ⟨mw_1, List.forall_mem_cons.mpr ⟨mw_2, List.forall_mem_cons.mpr ⟨mw_3, List.forall_mem_cons.mpr ⟨mw_4, List.forall_mem_cons.mpr ⟨mw_5, List.forall_mem_cons.mpr ⟨mw_6, List.forall_mem_cons.mpr ⟨mw_7, List.forall_mem_cons.mpr ⟨mw_8, List.forall_mem_cons.mpr ⟨mw_9, List.forall_mem_cons.mpr ⟨mw_10, List.forall_mem_cons.mpr ⟨mw_11, List.forall_mem_cons.mpr ⟨mw_12, List.forall_mem_cons.mpr ⟨mw_13, List.forall_mem_cons.mpr ⟨mw_14, List.forall_mem_cons.mpr ⟨mw_15, List.forall_mem_cons.mpr ⟨mw_16, List.forall_mem_cons.mpr ⟨mw_17, List.forall_mem_cons.mpr ⟨mw_18, List.forall_mem_cons.mpr ⟨mw_19, List.forall_mem_cons.mpr ⟨mw_20, List.forall_mem_cons.mpr ⟨mw_21, List.forall_mem_cons.mpr ⟨mw_22, List.forall_mem_cons.mpr ⟨mw_23, fun _ h => absurd h List.not_mem_nil⟩⟩⟩⟩⟩⟩⟩⟩⟩⟩⟩⟩⟩⟩⟩⟩⟩⟩⟩⟩⟩⟩⟩⟩
theorem mwA_24 : ∀ i ∈ [24, 25, 26, 27, 28, 29, 30, 31, 32, 33, 34, 35, 36, 37, 38, 39, 40, 41, 42, 43, 44, 45, 46, 47], Cond.code (my i) (mcc i) (mnl i) (mrt i) ∈ lw_tbl := List.forall_mem_cons.mpr ⟨mw_24, List.forall_mem_cons.mpr ⟨mw_25, List.forall_mem_cons.mpr ⟨mw_26, List.forall_mem_cons.mpr ⟨mw_27, List.forall_mem_cons.mpr ⟨mw_28, List.forall_mem_cons.mpr ⟨mw_29, List.forall_mem_cons.mpr ⟨mw_30, List.forall_mem_cons.mpr ⟨mw_31, List.forall_mem_cons.mpr ⟨mw_32, List.forall_mem_cons.mpr ⟨mw_33, List.forall_mem_cons.mpr ⟨mw_34, List.forall_mem_cons.mpr ⟨mw_35, List.forall_mem_cons.mpr ⟨mw_36, List.forall_mem_cons.mpr ⟨mw_37, List.forall_mem_cons.mpr ⟨mw_38, List.forall_mem_cons.mpr ⟨mw_39, List.forall_mem_cons.mpr ⟨mw_40, List.forall_mem_cons.mpr ⟨mw_41, List.forall_mem_cons.mpr ⟨mw_42, List.forall_mem_cons.mpr ⟨mw_43, List.forall_mem_cons.mpr ⟨mw_44, List.forall_mem_cons.mpr ⟨mw_45, List.forall_mem_cons.mpr ⟨mw_46, List.forall_mem_cons.mpr ⟨mw_47, fun _ h => absurd h List.not_mem_nil⟩⟩⟩⟩⟩⟩⟩⟩⟩⟩⟩⟩⟩⟩⟩⟩⟩⟩⟩⟩⟩⟩⟩⟩
theorem mwA_48 : ∀ i ∈ [48, 49, 50, 51, 52, 53, 54, 55, 56, 57, 58, 59, 60, 61, 62, 63, 64, 65, 66, 67, 68, 69, 70, 71], Cond.code (my i) (mcc i) (mnl i) (mrt i) ∈ lw_tbl := List.forall_mem_cons.mpr ⟨mw_48, List.forall_mem_cons.mpr ⟨mw_49, List.forall_mem_cons.mpr ⟨mw_50, List.forall_mem_cons.mpr ⟨mw_51, List.forall_mem_cons.mpr ⟨mw_52, List.forall_mem_cons.mpr ⟨mw_53, List.forall_mem_cons.mpr ⟨mw_54, List.forall_mem_cons.mpr ⟨mw_55, List.forall_mem_cons.mpr ⟨mw_56, List.forall_mem_cons.mpr ⟨mw_57, List.forall_mem_cons.mpr ⟨mw_58, List.forall_mem_cons.mpr ⟨mw_59, List.forall_mem_cons.mpr ⟨mw_60, List.forall_mem_cons.mpr ⟨mw_61, List.forall_mem_cons.mpr ⟨mw_62, List.forall_mem_cons.mpr ⟨mw_63, List.forall_mem_cons.mpr ⟨mw_64, List.forall_mem_cons.mpr ⟨mw_65, List.forall_mem_cons.mpr ⟨mw_66, List.forall_mem_cons.mpr ⟨mw_67, List.forall_mem_cons.mpr ⟨mw_68, List.forall_mem_cons.mpr ⟨mw_69, List.forall_mem_cons.mpr ⟨mw_70, List.forall_mem_cons.mpr ⟨mw_71, fun _ h => absurd h List.not_mem_nil⟩⟩⟩⟩⟩⟩⟩⟩⟩⟩⟩⟩⟩⟩⟩⟩⟩⟩⟩⟩⟩⟩⟩⟩
theorem mwA_72 : ∀ i ∈ [72, 73, 74, 75, 76, 77, 78, 79, 80, 81, 82, 83, 84, 85, 86, 87, 88, 89, 90, 91, 92, 93, 94, 95], Cond.code (my i) (mcc i) (mnl i) (mrt i) ∈ lw_tbl := List.forall_mem_cons.mpr ⟨mw_72, List.forall_mem_cons.mpr ⟨mw_73, List.forall_mem_cons.mpr ⟨mw_74, List.forall_mem_cons.mpr ⟨mw_75, List.forall_mem_cons.mpr ⟨mw_76, List.forall_mem_cons.mpr ⟨mw_77, List.forall_mem_cons.mpr ⟨mw_78, List.forall_mem_cons.mpr ⟨mw_79, List.forall_mem_cons.mpr ⟨mw_80, List.forall_mem_cons.mpr ⟨mw_81, List.forall_mem_cons.mpr ⟨mw_82, List.forall_mem_cons.mpr ⟨mw_83, List.forall_mem_cons.mpr ⟨mw_84, List.forall_mem_cons.mpr ⟨mw_85, List.forall_mem_cons.mpr ⟨mw_86, List.forall_mem_cons.mpr ⟨mw_87, List.forall_mem_cons.mpr ⟨mw_88, List.forall_mem_cons.mpr ⟨mw_89, List.forall_mem_cons.mpr ⟨mw_90, List.forall_mem_cons.mpr ⟨mw_91, List.forall_mem_cons.mpr ⟨mw_92, List.forall_mem_cons.mpr ⟨mw_93, List.forall_mem_cons.mpr ⟨mw_94, List.forall_mem_cons.mpr ⟨mw_95, fun _ h => absurd h List.not_mem_nil⟩⟩⟩⟩⟩⟩⟩⟩⟩⟩⟩⟩⟩⟩⟩⟩⟩⟩⟩⟩⟩⟩⟩⟩
theorem mwA_96 : ∀ i ∈ [96, 97, 98, 99, 100, 101, 102, 103, 104, 105, 106, 107, 108, 109, 110, 111, 112, 113, 114, 115, 116, 117, 118, 119], Cond.code (my i) (mcc i) (mnl i) (mrt i) ∈ lw_tbl := List.forall_mem_cons.mpr ⟨mw_96, List.forall_mem_cons.mpr ⟨mw_97, List.forall_mem_cons.mpr ⟨mw_98, List.forall_mem_cons.mpr ⟨mw_99, List.forall_mem_cons.mpr ⟨mw_100, List.forall_mem_cons.mpr ⟨mw_101, List.forall_mem_cons.mpr ⟨mw_102, List.forall_mem_cons.mpr ⟨mw_103, List.forall_mem_cons.mpr ⟨mw_104, List.forall_mem_cons.mpr ⟨mw_105, List.forall_mem_cons.mpr ⟨mw_106, List.forall_mem_cons.mpr ⟨mw_107, List.forall_mem_cons.mpr ⟨mw_108, List.forall_mem_cons.mpr ⟨mw_109, List.forall_mem_cons.mpr ⟨mw_110, List.forall_mem_cons.mpr ⟨mw_111, List.forall_mem_cons.mpr ⟨mw_112, List.forall_mem_cons.mpr ⟨mw_113, List.forall_mem_cons.mpr ⟨mw_114, List.forall_mem_cons.mpr ⟨mw_115, List.forall_mem_cons.mpr ⟨mw_116, List.forall_mem_cons.mpr ⟨mw_117, List.forall_mem_cons.mpr ⟨mw_118, List.forall_mem_cons.mpr ⟨mw_119, fun _ h => absurd h List.not_mem_nil⟩⟩⟩⟩⟩⟩⟩⟩⟩⟩⟩⟩⟩⟩⟩⟩⟩⟩⟩⟩⟩⟩⟩⟩
theorem mwA_120 : ∀ i ∈ [120, 121, 122, 123, 124, 125, 126, 127, 128, 129, 130, 131, 132, 133, 134, 135, 136, 137, 138, 139, 140, 141, 142, 143], Cond.code (my i) (mcc i) (mnl i) (mrt i) ∈ lw_tbl := List.forall_mem_cons.mpr ⟨mw_120, List.forall_mem_cons.mpr ⟨mw_121, List.forall_mem_cons.mpr ⟨mw_122, List.forall_mem_cons.mpr ⟨mw_123, List.forall_mem_cons.mpr ⟨mw_124, List.forall_mem_cons.mpr ⟨mw_125, List.forall_mem_cons.mpr ⟨mw_126, List.forall_mem_cons.mpr ⟨mw_127, List.forall_mem_cons.mpr ⟨mw_128, List.forall_mem_cons.mpr ⟨mw_129, List.forall_mem_cons.mpr ⟨mw_130, List.forall_mem_cons.mpr ⟨mw_131, List.forall_mem_cons.mpr ⟨mw_132, List.forall_mem_cons.mpr ⟨mw_133, List.forall_mem_cons.mpr ⟨mw_134, List.forall_mem_cons.mpr ⟨mw_135, List.forall_mem_cons.mpr ⟨mw_136, List.forall_mem_cons.mpr ⟨mw_137, List.forall_mem_cons.mpr ⟨mw_138, List.forall_mem_cons.mpr ⟨mw_139, List.forall_mem_cons.mpr ⟨mw_140, List.forall_mem_cons.mpr ⟨mw_141, List.forall_mem_cons.mpr ⟨mw_142, List.forall_mem_cons.mpr ⟨mw_143, fun _ h => absurd h List.not_mem_nil⟩⟩⟩⟩⟩⟩⟩⟩⟩⟩⟩⟩⟩⟩⟩⟩⟩⟩⟩⟩⟩⟩⟩⟩
theorem mwA_144 : ∀ i ∈ [144, 145, 146, 147, 148, 149, 150, 151, 152, 153, 154, 155, 156, 157, 158, 159, 160, 161, 162, 163, 164, 165, 166, 167], Cond.code (my i) (mcc i) (mnl i) (mrt i) ∈ lw_tbl := List.forall_mem_cons.mpr ⟨mw_144, List.forall_mem_cons.mpr ⟨mw_145, List.forall_mem_cons.mpr ⟨mw_146, List.forall_mem_cons.mpr ⟨mw_147, List.forall_mem_cons.mpr ⟨mw_148, List.forall_mem_cons.mpr ⟨mw_149, List.forall_mem_cons.mpr ⟨mw_150, List.forall_mem_cons.mpr ⟨mw_151, List.forall_mem_cons.mpr ⟨mw_152, List.forall_mem_cons.mpr ⟨mw_153, List.forall_mem_cons.mpr ⟨mw_154, List.forall_mem_cons.mpr ⟨mw_155, List.forall_mem_cons.mpr ⟨mw_156, List.forall_mem_cons.mpr ⟨mw_157, List.forall_mem_cons.mpr ⟨mw_158, List.forall_mem_cons.mpr ⟨mw_159, List.forall_mem_cons.mpr ⟨mw_160, List.forall_mem_cons.mpr ⟨mw_161, List.forall_mem_cons.mpr ⟨mw_162, List.forall_mem_cons.mpr ⟨mw_163, List.forall_mem_cons.mpr ⟨mw_164, List.forall_mem_cons.mpr ⟨mw_165, List.forall_mem_cons.mpr ⟨mw_166, List.forall_mem_cons.mpr ⟨mw_167, fun _ h => absurd h List.not_mem_nil⟩⟩⟩⟩⟩⟩⟩⟩⟩⟩⟩⟩⟩⟩⟩⟩⟩⟩⟩⟩⟩⟩⟩⟩
theorem mwA_168 : ∀ i ∈ [168, 169, 170, 171, 172, 173, 174, 175, 176, 177, 178, 179, 180, 181, 182, 183, 184, 185, 186, 187, 188, 189, 190, 191], Cond.code (my i) (mcc i) (mnl i) (mrt i) ∈ lw_tbl := List.forall_mem_cons.mpr ⟨mw_168, List.forall_mem_cons.mpr ⟨mw_169, List.forall_mem_cons.mpr ⟨mw_170, List.forall_mem_cons.mpr ⟨mw_171, List.forall_mem_cons.mpr ⟨mw_172, List.forall_mem_cons.mpr ⟨mw_173, List.forall_mem_cons.mpr ⟨mw_174, List.forall_mem_cons.mpr ⟨mw_175, List.forall_mem_cons.mpr ⟨mw_176, List.forall_mem_cons.mpr ⟨mw_177, List.forall_mem_cons.mpr ⟨mw_178, List.forall_mem_cons.mpr ⟨mw_179, List.forall_mem_cons.mpr ⟨mw_180, List.forall_mem_cons.mpr ⟨mw_181, List.forall_mem_cons.mpr ⟨mw_182, List.forall_mem_cons.mpr ⟨mw_183, List.forall_mem_cons.mpr ⟨mw_184, List.forall_mem_cons.mpr ⟨mw_185, List.forall_mem_cons.mpr ⟨mw_186, List.forall_mem_cons.mpr ⟨mw_187, List.forall_mem_cons.mpr ⟨mw_188, List.forall_mem_cons.mpr ⟨mw_189, List.forall_mem_cons.mpr ⟨mw_190, List.forall_mem_cons.mpr ⟨mw_191, fun _ h => absurd h List.not_mem_nil⟩⟩⟩⟩⟩⟩⟩⟩⟩⟩⟩⟩⟩⟩⟩⟩⟩⟩⟩⟩⟩⟩⟩⟩
theorem mwA_192 : ∀ i ∈ [192, 193, 194, 195, 196, 197, 198, 199, 200, 201, 202, 203, 204, 205, 206, 207, 208, 209, 210, 211, 212, 213, 214, 215], Cond.code (my i) (mcc i) (mnl i) (mrt i) ∈ lw_tbl := List.forall_mem_cons.mpr ⟨mw_192, List.forall_mem_cons.mpr ⟨mw_193, List.forall_mem_cons.mpr ⟨mw_194, List.forall_mem_cons.mpr ⟨mw_195, List.forall_mem_cons.mpr ⟨mw_196, List.forall_mem_cons.mpr ⟨mw_197, List.forall_mem_cons.mpr ⟨mw_198, List.forall_mem_cons.mpr ⟨mw_199, List.forall_mem_cons.mpr ⟨mw_200, List.forall_mem_cons.mpr ⟨mw_201, List.forall_mem_cons.mpr ⟨mw_202, List.forall_mem_cons.mpr ⟨mw_203, List.forall_mem_cons.mpr ⟨mw_204, List.forall_mem_cons.mpr ⟨mw_205, List.forall_mem_cons.mpr ⟨mw_206, List.forall_mem_cons.mpr ⟨mw_207, List.forall_mem_cons.mpr ⟨mw_208, List.forall_mem_cons.mpr ⟨mw_209, List.forall_mem_cons.mpr ⟨mw_210, List.forall_mem_cons.mpr ⟨mw_211, List.forall_mem_cons.mpr ⟨mw_212, List.forall_mem_cons.mpr ⟨mw_213, List.forall_mem_cons.mpr ⟨mw_214, List.forall_mem_cons.mpr ⟨mw_215, fun _ h => absurd h List.not_mem_nil⟩⟩⟩⟩⟩⟩⟩⟩⟩⟩⟩⟩⟩⟩⟩⟩⟩⟩⟩⟩⟩⟩⟩⟩
theorem mwA_216 : ∀ i ∈ [216, 217, 218, 219, 220, 221, 222, 223, 224, 225, 226, 227, 228, 229, 230, 231, 232, 233, 234, 235, 236, 237, 238, 239], Cond.code (my i) (mcc i) (mnl i) (mrt i) ∈ lw_tbl := List.forall_mem_cons.mpr ⟨mw_216, List.forall_mem_cons.mpr ⟨mw_217, List.forall_mem_cons.mpr ⟨mw_218, List.forall_mem_cons.mpr ⟨mw_219, List.forall_mem_cons.mpr ⟨mw_220, List.forall_mem_cons.mpr ⟨mw_221, List.forall_mem_cons.mpr ⟨mw_222, List.forall_mem_cons.mpr ⟨mw_223, List.forall_mem_cons.mpr ⟨mw_224, List.forall_mem_cons.mpr ⟨mw_225, List.forall_mem_cons.mpr ⟨mw_226, List.forall_mem_cons.mpr ⟨mw_227, List.forall_mem_cons.mpr ⟨mw_228, List.forall_mem_cons.mpr ⟨mw_229, List.forall_mem_cons.mpr ⟨mw_230, List.forall_mem_cons.mpr ⟨mw_231, List.forall_mem_cons.mpr ⟨mw_232, List.forall_mem_cons.mpr ⟨mw_233, List.forall_mem_cons.mpr ⟨mw_234, List.forall_mem_cons.mpr ⟨mw_235, List.forall_mem_cons.mpr ⟨mw_236, List.forall_mem_cons.mpr ⟨mw_237, List.forall_mem_cons.mpr ⟨mw_238, List.forall_mem_cons.mpr ⟨mw_239, fun _ h => absurd h List.not_mem_nil⟩⟩⟩⟩⟩⟩⟩⟩⟩⟩⟩⟩⟩⟩⟩⟩⟩⟩⟩⟩⟩⟩⟩⟩
theorem mwA_240 : ∀ i ∈ [240, 241, 242, 243, 244, 245, 246, 247, 248, 249, 250, 251, 252, 253, 254, 255, 256, 257, 258, 259, 260, 261, 262, 263], Cond.code (my i) (mcc i) (mnl i) (mrt i) ∈ lw_tbl := List.forall_mem_cons.mpr ⟨mw_240, List.forall_mem_cons.mpr ⟨mw_241, List.forall_mem_cons.mpr ⟨mw_242, List.forall_mem_cons.mpr ⟨mw_243, List.forall_mem_cons.mpr ⟨mw_244, List.forall_mem_cons.mpr ⟨mw_245, List.forall_mem_cons.mpr ⟨mw_246, List.forall_mem_cons.mpr ⟨mw_247, List.forall_mem_cons.mpr ⟨mw_248, List.forall_mem_cons.mpr ⟨mw_249, List.forall_mem_cons.mpr ⟨mw_250, List.forall_mem_cons.mpr ⟨mw_251, List.forall_mem_cons.mpr ⟨mw_252, List.forall_mem_cons.mpr ⟨mw_253, List.forall_mem_cons.mpr ⟨mw_254, List.forall_mem_cons.mpr ⟨mw_255, List.forall_mem_cons.mpr ⟨mw_256, List.forall_mem_cons.mpr ⟨mw_257, List.forall_mem_cons.mpr ⟨mw_258, List.forall_mem_cons.mpr ⟨mw_259, List.forall_mem_cons.mpr ⟨mw_260, List.forall_mem_cons.mpr ⟨mw_261, List.forall_mem_cons.mpr ⟨mw_262, List.forall_mem_cons.mpr ⟨mw_263, fun _ h => absurd h List.not_mem_nil⟩⟩⟩⟩⟩⟩⟩⟩⟩⟩⟩⟩⟩⟩⟩⟩⟩⟩⟩⟩⟩⟩⟩⟩
theorem mwA_264 : ∀ i ∈ [264, 265, 266, 267], Cond.code (my i) (mcc i) (mnl i) (mrt i) ∈ lw_tbl := List.forall_mem_cons.mpr ⟨mw_264, List.forall_mem_cons.mpr ⟨mw_265, List.forall_mem_cons.mpr ⟨mw_266, List.forall_mem_cons.mpr ⟨mw_267, fun _ h => absurd h List.not_mem_nil⟩⟩⟩⟩
theorem MP_all (i : Nat) (h : i < 268) : MP i := by
  rcases (show (0 ≤ i ∧ i < 24) ∨ (24 ≤ i ∧ i < 48) ∨ (48 ≤ i ∧ i < 72) ∨ (72 ≤ i ∧ i < 96) ∨ (96 ≤ i ∧ i < 120) ∨ (120 ≤ i ∧ i < 144) ∨ (144 ≤ i ∧ i < 168) ∨ (168 ≤ i ∧ i < 192) ∨ (192 ≤ i ∧ i < 216) ∨ (216 ≤ i ∧ i < 240) ∨ (240 ≤ i ∧ i < 264) ∨ (264 ≤ i ∧ i < 268) by omega) with ⟨a, b⟩ | ⟨a, b⟩ | ⟨a, b⟩ | ⟨a, b⟩ | ⟨a, b⟩ | ⟨a, b⟩ | ⟨a, b⟩ | ⟨a, b⟩ | ⟨a, b⟩ | ⟨a, b⟩ | ⟨a, b⟩ | ⟨a, b⟩
  · exact ⟨mwA_0 i (mwI_0 i b a), List.all_eq_true.mp mpC_0 i (List.mem_range'_1.mpr ⟨a, by omega⟩)⟩
  · exact ⟨mwA_24 i (mwI_24 i b a), List.all_eq_true.mp mpC_24 i (List.mem_range'_1.mpr ⟨a, by omega⟩)⟩
  · exact ⟨mwA_48 i (mwI_48 i b a), List.all_eq_true.mp mpC_48 i (List.mem_range'_1.mpr ⟨a, by omega⟩)⟩
  · exact ⟨mwA_72 i (mwI_72 i b a), List.all_eq_true.mp mpC_72 i (List.mem_range'_1.mpr ⟨a, by omega⟩)⟩
  · exact ⟨mwA_96 i (mwI_96 i b a), List.all_eq_true.mp mpC_96 i (List.mem_range'_1.mpr ⟨a, by omega⟩)⟩
  · exact ⟨mwA_120 i (mwI_120 i b a), List.all_eq_true.mp mpC_120 i (List.mem_range'_1.mpr ⟨a, by omega⟩)⟩
  · exact ⟨mwA_144 i (mwI_144 i b a), List.all_eq_true.mp mpC_144 i (List.mem_range'_1.mpr ⟨a, by omega⟩)⟩
  · exact ⟨mwA_168 i (mwI_168 i b a), List.all_eq_true.mp mpC_168 i (List.mem_range'_1.mpr ⟨a, by omega⟩)⟩
  · exact ⟨mwA_192 i (mwI_192 i b a), List.all_eq_true.mp mpC_192 i (List.mem_range'_1.mpr ⟨a, by omega⟩)⟩
  · exact ⟨mwA_216 i (mwI_216 i b a), List.all_eq_true.mp mpC_216 i (List.mem_range'_1.mpr ⟨a, by omega⟩)⟩
  · exact ⟨mwA_240 i (mwI_240 i b a), List.all_eq_true.mp mpC_240 i (List.mem_range'_1.mpr ⟨a, by omega⟩)⟩
  · exact ⟨mwA_264 i (mwI_264 i b a), List.all_eq_true.mp mpC_264 i (List.mem_range'_1.mpr ⟨a, by omega⟩)⟩
theorem okM_MP {mj : Nat} (h : okM mj) : MP mj := by
  rcases h with h | rfl | rfl | rfl | rfl | rfl
  · exact MP_all mj h
  · exact ⟨mw_268, mpC_j268⟩
  · exact ⟨mw_269, mpC_j269⟩
  · exact ⟨mw_273, mpC_j273⟩
  · exact ⟨mw_274, mpC_j274⟩
  · exact ⟨mw_283, mpC_j283⟩
def K_pF (G : cG) (d : Nat) (b : Bool) : Prop := b = true → ∀ (mj : Nat) (as : List Value) (n : Nat) (I : MI) (L : ML) (R : MR) (Q : tQ), mj ∈ puL → (mj < 170 ∨ ∃ a l, as = .ref a :: l ∧ a < n ∧ kK a = (10, 12)) → pF mj as (fun v => Q (some v) n I L R) → V G d mj n 0 (eL as (mnl mj)) [] n I L R Q
theorem nl20 : ∀ i, i < 286 → mnl i ≤ 20 := by decide +kernel
def puC (q : Nat × Nat × Nat × Nat × Nat × Nat × Nat) : Bool := decide (q.2.2.1 ∈ puL → q.2.2.1 < 170 ∨ q.2.2.2.2.1 = 0 ∧ mci q.2.2.1 = 12)
set_option maxRecDepth 100000 in
theorem puC_ok : mrL.all puC = true := by decide +kernel
theorem pu_facts {ci ix mj na mode : Nat} (h : mr ci ix = some (mj, na, mode)) (hm : mj ∈ puL) : mj < 170 ∨ mode = 0 ∧ mci mj = 12 := by
  unfold mr at h
  cases hf : mrL.find? (fun q => q.1 == ci && q.2.1 == ix) with
  | none => rw [hf] at h; cases h
  | some q =>
    rw [hf] at h
    cases h
    have h1 := List.all_eq_true.mp puC_ok q (List.mem_of_find?_eq_some hf)
    unfold puC at h1
    exact of_decide_eq_true h1 hm
theorem callP_sound (F : FrOK G mi p s m meth c args) (hm : mi < 286) {ci ix md d n1 : Nat} {b : Bool} {k : tK} (hci : mci mi = ci) (hrm : RmOK Rm d n0 n1) (hpF : K_pF G d b) (hn1 : n ≤ n1) (hd : decode (mcc mi) pc = .ok (if md = 0 then .invokevirtual ix else if md = 1 then .invokestatic ix else .invokespecial ix, 3)) (h : callP G d b ci n1 ix md pc ls st n I L R k) (hk : ∀ pc' ls' st' n' I' L' R', k pc' ls' st' n' I' L' R' → KK G p e Rm s m args below meth c n0 Z pc' ls' st' n' I' L' R') : KK G p e Rm s m args below meth c n0 Z pc ls st n I L R := by
  unfold callP at h
  cases hr : mr ci ix with
  | none => rw [hr] at h; exact h.elim
  | some q =>
    obtain ⟨mj, na, mode⟩ := q
    rw [hr] at h
    obtain ⟨rfl, h⟩ := h
    subst hci
    by_cases h999 : mj = 999
    · rw [if_pos h999] at h
      obtain ⟨a, r, rfl, hcs, h⟩ := sR1_e h
      exact K_oinit F hm hrm hd (h999 ▸ hr) hcs (hk _ _ _ _ _ _ _ h)
    rw [if_neg h999] at h
    by_cases h998 : mj = 998
    · rw [if_pos h998] at h
      obtain ⟨rfl, h⟩ := h
      obtain ⟨x, j, b, i, a, r, rfl, b1, b2, b3, b4, b5, b6, b7, b8, b9, b10, h⟩ := cpS_e h
      exact K_copy F hm hrm hd (h998 ▸ hr) b1 b2 b3 b4 b5 b6 b7 b8 b9 b10 (hk _ _ _ _ _ _ _ h)
    rw [if_neg h998] at h
    by_cases hnat : 270 ≤ mj ∧ mj ≤ 272
    · rw [if_pos hnat] at h
      exact K_nat F hm hrm hn1 hd hr hnat h (fun x r h => hk _ _ _ _ _ _ _ h)
    rw [if_neg hnat] at h
    cases hs : spl (if mode = 1 then na else na + 1) [] st with
    | none => rw [hs] at h; exact h.elim
    | some q =>
      obtain ⟨as, rest⟩ := q
      rw [hs] at h
      obtain ⟨⟨o1, o2, o3, o4⟩, h⟩ := h
      obtain ⟨e1, e2⟩ := spl_e _ _ _ _ _ hs
      have hst : st = as.reverse ++ rest := e1
      subst hst
      have hMP := okM_MP o1
      have hj : mj < 286 := by unfold okM at o1; omega
      have hmode : mode = 1 ∧ as.length = na ∨ mode = 2 ∧ (∃ a as', as = .ref a :: as' ∧ as'.length = na) ∧ mrt mj = none ∨ mode = 0 ∧ ∃ a as', as = .ref a :: as' ∧ as'.length = na ∧ a < n ∧ kK a = (10, mci mj) := by
        rcases o4 with q | ⟨q, z⟩ | ⟨q, z⟩
        · exact Or.inl q
        · cases as with
          | nil => exact z.elim
          | cons v as' =>
            cases v <;> first | exact z.elim | exact Or.inr (Or.inl ⟨q, ⟨_, _, rfl, z.1⟩, z.2⟩)
        · cases as with
          | nil => exact z.elim
          | cons v as' =>
            cases v <;> first | exact z.elim | exact Or.inr (Or.inr ⟨q, _, _, rfl, z.1, z.2.1, z.2.2⟩)
      by_cases hb : b = true ∧ mj ∈ puL
      · rw [if_pos hb] at h
        have hpq : mj < 170 ∨ ∃ a l, as = .ref a :: l ∧ a < n ∧ kK a = (10, 12) := by
          rcases pu_facts hr hb.2 with z | ⟨z1, z2⟩
          · exact Or.inl z
          · rcases hmode with ⟨q, -⟩ | ⟨q, -⟩ | ⟨-, a, as', e, -, q1, q2⟩
            · omega
            · omega
            · exact Or.inr ⟨a, as', e, q1, by rw [q2, z2]⟩
        have hV := hpF hb.1 mj as n I L R (fun v n' I' L' R' => (∃ w, v = some w) ∧ n' = n ∧ I' = I ∧ L' = L ∧ R' = R ∧ ∀ w, v = some w → k (pc + 3) ls (w :: rest) n I L R) hb.2 hpq (pF_mono (fun v hv => ⟨⟨v, rfl⟩, rfl, rfl, rfl, rfl, fun w hw => by cases hw; exact hv⟩) h)
        refine K_call F hm hd hr hj hMP o2 (nl20 mj hj) hrm (Nat.le_refl n) hn1 o3 hmode hV (fun v I' L' R' hq => ?_)
        obtain ⟨⟨w, rfl⟩, -, rfl, rfl, rfl, hw⟩ := hq
        exact hk _ _ _ _ _ _ _ (hw w rfl)
      · rw [if_neg hb] at h
        obtain ⟨hle, h⟩ := h
        exact K_call F hm hd hr hj hMP o2 (nl20 mj hj) hrm (Nat.le_add_right _ _) hle o3 hmode h (fun v I' L' R' hq => hk _ _ _ _ _ _ _ hq)
end KMORE
/-- how long an instruction is -/
def iLen (i : Instr) (len : Nat) : Prop := match i with
  | .iconst _ => len = 1
  | .bipush _ => len = 2
  | .sipush _ => len = 3
  | .lconst _ => len = 1
  | .iload_n _ => len = 1
  | .iload _ => len = 2
  | .lload_n _ => len = 1
  | .lload _ => len = 2
  | .aload_n _ => len = 1
  | .aload _ => len = 2
  | .istore_n _ => len = 1
  | .istore _ => len = 2
  | .astore_n _ => len = 1
  | .astore _ => len = 2
  | .lstore_n _ => len = 1
  | .lstore _ => len = 2
  | .iinc _ _ => len = 3
  | .iadd => len = 1
  | .isub => len = 1
  | .imul => len = 1
  | .iand => len = 1
  | .ior => len = 1
  | .ixor => len = 1
  | .ishl => len = 1
  | .ishr => len = 1
  | .iushr => len = 1
  | .idiv => len = 1
  | .irem => len = 1
  | .ineg => len = 1
  | .i2b => len = 1
  | .i2s => len = 1
  | .i2l => len = 1
  | .l2i => len = 1
  | .ladd => len = 1
  | .lsub => len = 1
  | .land => len = 1
  | .lor => len = 1
  | .lxor => len = 1
  | .lshl => len = 1
  | .lshr => len = 1
  | .lushr => len = 1
  | .lcmp => len = 1
  | .dup => len = 1
  | .pop => len = 1
  | .dup_x1 => len = 1
  | .dup2 => len = 1
  | .ifCond .eq _ => len = 3
  | .ifCond .ne _ => len = 3
  | .ifCond .lt _ => len = 3
  | .ifCond .ge _ => len = 3
  | .ifCond .gt _ => len = 3
  | .ifCond .le _ => len = 3
  | .if_icmp .eq _ => len = 3
  | .if_icmp .ne _ => len = 3
  | .if_icmp .lt _ => len = 3
  | .if_icmp .ge _ => len = 3
  | .if_icmp .gt _ => len = 3
  | .if_icmp .le _ => len = 3
  | .goto _ => len = 3
  | .tableswitch _ _ _ _ => True
  | .lookupswitch _ _ => True
  | .getfield _ => len = 3
  | .putfield _ => len = 3
  | .iaload => len = 1
  | .baload => len = 1
  | .laload => len = 1
  | .aaload => len = 1
  | .arraylength => len = 1
  | .iastore => len = 1
  | .bastore => len = 1
  | .lastore => len = 1
  | .getstatic _ => len = 3
  | .ldc2_w _ => len = 3
  | .ldc_w _ => len = 3
  | .ldc _ => len = 2
  | .invokevirtual _ => len = 3
  | .invokestatic _ => len = 3
  | .invokespecial _ => len = 3
  | .return_ => len = 1
  | .ireturn => len = 1
  | .lreturn => len = 1
  | .multianewarray _ dm => len = 4
  | .new _ => len = 3
  | .newarray _ => len = 2
  | .anewarray _ => len = 3
  | .aastore => len = 1
  | _ => True
def stepP (G : cG) (d : Nat) (b : Bool) (mi ci nl : Nat) (rt : Option FieldType) (n1 : Nat) (Q : tQ) (i : Instr) (pc : Nat) (ls : List (Option Value)) (st : List Value) (n : Nat) (I : MI) (L : ML) (R : MR) (k : tK) : Prop := match i with
  | .iconst c => k (pc + 1) ls (.int (Int32.ofInt c) :: st) n I L R
  | .bipush c => k (pc + 2) ls (.int (i8 c) :: st) n I L R
  | .sipush c => k (pc + 3) ls (.int (i16 c) :: st) n I L R
  | .lconst c => k (pc + 1) ls (.long (Int64.ofNat c) :: st) n I L R
  | .iload_n j => lI ls j (fun x => k (pc + 1) ls (.int x :: st) n I L R)
  | .iload j => lI ls j (fun x => k (pc + 2) ls (.int x :: st) n I L R)
  | .lload_n j => lL ls j (fun x => k (pc + 1) ls (.long x :: st) n I L R)
  | .lload j => lL ls j (fun x => k (pc + 2) ls (.long x :: st) n I L R)
  | .aload_n j => lR ls j (fun x => k (pc + 1) ls (.ref x :: st) n I L R)
  | .aload j => lR ls j (fun x => k (pc + 2) ls (.ref x :: st) n I L R)
  | .istore_n j => sI1 st (fun x r => (j : Nat) < nl ∧ okS ls (j : Nat) ∧ k (pc + 1) (lS ls (j : Nat) (some (.int x))) r n I L R)
  | .istore j => sI1 st (fun x r => j < nl ∧ okS ls j ∧ k (pc + 2) (lS ls j (some (.int x))) r n I L R)
  | .astore_n j => sR1 st (fun x r => (j : Nat) < nl ∧ okS ls (j : Nat) ∧ k (pc + 1) (lS ls (j : Nat) (some (.ref x))) r n I L R)
  | .astore j => sR1 st (fun x r => j < nl ∧ okS ls j ∧ k (pc + 2) (lS ls j (some (.ref x))) r n I L R)
  | .lstore_n j => sL1 st (fun x r => (j : Nat) + 1 < nl ∧ okS ls (j : Nat) ∧ k (pc + 1) (lS (lS ls (j : Nat) (some (.long x))) ((j : Nat) + 1) none) r n I L R)
  | .lstore j => sL1 st (fun x r => j + 1 < nl ∧ okS ls j ∧ k (pc + 2) (lS (lS ls j (some (.long x))) (j + 1) none) r n I L R)
  | .iinc j c => lI ls j (fun x => j < nl ∧ okS ls j ∧ k (pc + 3) (lS ls j (some (.int (x + Int32.ofInt c)))) st n I L R)
  | .iadd => sI2 st (fun x y r => k (pc + 1) ls (.int (x + y) :: r) n I L R)
  | .isub => sI2 st (fun x y r => k (pc + 1) ls (.int (x - y) :: r) n I L R)
  | .imul => sI2 st (fun x y r => k (pc + 1) ls (.int (x * y) :: r) n I L R)
  | .iand => sI2 st (fun x y r => k (pc + 1) ls (.int (x &&& y) :: r) n I L R)
  | .ior => sI2 st (fun x y r => k (pc + 1) ls (.int (x ||| y) :: r) n I L R)
  | .ixor => sI2 st (fun x y r => k (pc + 1) ls (.int (x ^^^ y) :: r) n I L R)
  | .ishl => sI2 st (fun x y r => k (pc + 1) ls (.int (x <<< (y &&& 31)) :: r) n I L R)
  | .ishr => sI2 st (fun x y r => k (pc + 1) ls (.int (x >>> (y &&& 31)) :: r) n I L R)
  | .iushr => sI2 st (fun x y r => k (pc + 1) ls (.int ((x.toUInt32 >>> (y.toUInt32 &&& Int32.toUInt32 31)).toInt32) :: r) n I L R)
  | .idiv => sI2 st (fun x y r => ¬ y = 0 ∧ k (pc + 1) ls (.int (x / y) :: r) n I L R)
  | .irem => sI2 st (fun x y r => ¬ y = 0 ∧ k (pc + 1) ls (.int (rmI x y) :: r) n I L R)
  | .ineg => sI1 st (fun x r => k (pc + 1) ls (.int (-x) :: r) n I L R)
  | .i2b => sI1 st (fun x r => k (pc + 1) ls (.int (x.toInt8.toInt32) :: r) n I L R)
  | .i2s => sI1 st (fun x r => k (pc + 1) ls (.int (x.toInt16.toInt32) :: r) n I L R)
  | .i2l => sI1 st (fun x r => k (pc + 1) ls (.long x.toInt64 :: r) n I L R)
  | .l2i => sL1 st (fun x r => k (pc + 1) ls (.int x.toInt32 :: r) n I L R)
  | .ladd => sL2 st (fun x y r => k (pc + 1) ls (.long (x + y) :: r) n I L R)
  | .lsub => sL2 st (fun x y r => k (pc + 1) ls (.long (x - y) :: r) n I L R)
  | .land => sL2 st (fun x y r => k (pc + 1) ls (.long (x &&& y) :: r) n I L R)
  | .lor => sL2 st (fun x y r => k (pc + 1) ls (.long (x ||| y) :: r) n I L R)
  | .lxor => sL2 st (fun x y r => k (pc + 1) ls (.long (x ^^^ y) :: r) n I L R)
  | .lshl => sLI st (fun x y r => k (pc + 1) ls (.long (x <<< (y.toInt64 &&& 63)) :: r) n I L R)
  | .lshr => sLI st (fun x y r => k (pc + 1) ls (.long (x >>> (y.toInt64 &&& 63)) :: r) n I L R)
  | .lushr => sLI st (fun x y r => k (pc + 1) ls (.long ((x.toUInt64 >>> (y.toInt64.toUInt64 &&& Int64.toUInt64 63)).toInt64) :: r) n I L R)
  | .lcmp => sL2 st (fun x y r => k (pc + 1) ls (.int (lg_cmp x y) :: r) n I L R)
  | .dup => sV1 st (fun v r => v.category = 1 ∧ k (pc + 1) ls (v :: v :: r) n I L R)
  | .pop => sV1 st (fun v r => v.category = 1 ∧ k (pc + 1) ls r n I L R)
  | .dup_x1 => sV2 st (fun v w r => v.category = 1 ∧ w.category = 1 ∧ k (pc + 1) ls (v :: w :: v :: r) n I L R)
  | .dup2 => sV2 st (fun v w r => v.category = 1 ∧ w.category = 1 ∧ k (pc + 1) ls (v :: w :: v :: w :: r) n I L R)
  | .ifCond .eq off => sI1 st (fun x r => jK pc off (fun t => (x = 0 → k t ls r n I L R) ∧ (¬ x = 0 → k (pc + 3) ls r n I L R)))
  | .ifCond .ne off => sI1 st (fun x r => jK pc off (fun t => (¬ x = 0 → k t ls r n I L R) ∧ (x = 0 → k (pc + 3) ls r n I L R)))
  | .ifCond .lt off => sI1 st (fun x r => jK pc off (fun t => (x < 0 → k t ls r n I L R) ∧ (¬ x < 0 → k (pc + 3) ls r n I L R)))
  | .ifCond .ge off => sI1 st (fun x r => jK pc off (fun t => (0 ≤ x → k t ls r n I L R) ∧ (¬ 0 ≤ x → k (pc + 3) ls r n I L R)))
  | .ifCond .gt off => sI1 st (fun x r => jK pc off (fun t => (0 < x → k t ls r n I L R) ∧ (¬ 0 < x → k (pc + 3) ls r n I L R)))
  | .ifCond .le off => sI1 st (fun x r => jK pc off (fun t => (x ≤ 0 → k t ls r n I L R) ∧ (¬ x ≤ 0 → k (pc + 3) ls r n I L R)))
  | .if_icmp .eq off => sI2 st (fun x y r => jK pc off (fun t => (x = y → k t ls r n I L R) ∧ (¬ x = y → k (pc + 3) ls r n I L R)))
  | .if_icmp .ne off => sI2 st (fun x y r => jK pc off (fun t => (¬ x = y → k t ls r n I L R) ∧ (x = y → k (pc + 3) ls r n I L R)))
  | .if_icmp .lt off => sI2 st (fun x y r => jK pc off (fun t => (x < y → k t ls r n I L R) ∧ (¬ x < y → k (pc + 3) ls r n I L R)))
  | .if_icmp .ge off => sI2 st (fun x y r => jK pc off (fun t => (y ≤ x → k t ls r n I L R) ∧ (¬ y ≤ x → k (pc + 3) ls r n I L R)))
  | .if_icmp .gt off => sI2 st (fun x y r => jK pc off (fun t => (y < x → k t ls r n I L R) ∧ (¬ y < x → k (pc + 3) ls r n I L R)))
  | .if_icmp .le off => sI2 st (fun x y r => jK pc off (fun t => (x ≤ y → k t ls r n I L R) ∧ (¬ x ≤ y → k (pc + 3) ls r n I L R)))
  | .goto off => jK pc off (fun t => k t ls st n I L R)
  | .tableswitch df lo hi offs => sI1 st (fun x r => (-2147483648 ≤ lo ∧ hi ≤ 2147483647 ∧ (hi - lo + 1).toNat = offs.size ∧ lo ≤ hi) ∧ swL x lo offs.toList (fun off => jK pc off (fun t => k t ls r n I L R)) ∧ ((x < Int32.ofInt lo ∨ Int32.ofInt hi < x) → jK pc df (fun t => k t ls r n I L R)))
  | .lookupswitch df ps => sI1 st (fun x r => ((ps.toList.zip (ps.toList.drop 1)).all (fun (a, next) => a.1 < next.1) = true ∧ ps.toList.all (fun q => decide (-2147483648 ≤ q.1 ∧ q.1 ≤ 2147483647)) = true) ∧ lkL x ps.toList (jK pc df (fun t => k t ls r n I L R)) (fun off => jK pc off (fun t => k t ls r n I L R)))
  | .getfield ix => sR1 st (fun a r => match fr ci ix with | some (c2, k2) => a < n ∧ kK a = (10, c2) ∧ k (pc + 3) ls ((if fK c2 k2 = 2 then vR (R a k2) else .int (I a k2)) :: r) n I L R | none => False)
  | .putfield ix => match fr ci ix with | some (c2, k2) => sP st (fun x a r => a < n ∧ kK a = (10, c2) ∧ fI c2 k2 x ∧ k (pc + 3) ls r n (u2 I a k2 x) L R) (fun b a r => a < n ∧ b < n ∧ kK a = (10, c2) ∧ pRok mi c2 k2 ∧ k (pc + 3) ls r n I L (u2 R a k2 (some b))) | none => False
  | .iaload => sIR st (fun j a r => if (kK a).1 = 7 then 1000 ≤ a ∧ a < 1003 ∧ vp_in j (kK a).2 ∧ k (pc + 1) ls (.int (sI a j.toNatClampNeg) :: r) n I L R else a < n ∧ (kK a).1 = 0 ∧ vp_in j (kK a).2 ∧ k (pc + 1) ls (.int (I a j.toNatClampNeg) :: r) n I L R)
  | .baload => sIR st (fun j a r => a < n ∧ ((kK a).1 = 1 ∨ (kK a).1 = 2) ∧ vp_in j (kK a).2 ∧ k (pc + 1) ls (.int (I a j.toNatClampNeg) :: r) n I L R)
  | .laload => sIR st (fun j a r => a < n ∧ (kK a).1 = 3 ∧ vp_in j (kK a).2 ∧ k (pc + 1) ls (.long (L a j.toNatClampNeg) :: r) n I L R)
  | .aaload => sIR st (fun j a r => a < n ∧ (4 ≤ (kK a).1 ∧ (kK a).1 ≤ 6) ∧ vp_in j (kK a).2 ∧ k (pc + 1) ls (vR (R a j.toNatClampNeg) :: r) n I L R)
  | .arraylength => sR1 st (fun a r => if (kK a).1 = 7 then 1000 ≤ a ∧ a < 1003 ∧ k (pc + 1) ls (.int (Int32.ofNat (kK a).2) :: r) n I L R else a < n ∧ (kK a).1 < 7 ∧ k (pc + 1) ls (.int (Int32.ofNat (kK a).2) :: r) n I L R)
  | .iastore => sIIR st (fun x j a r => a < n ∧ (kK a).1 = 0 ∧ vp_in j (kK a).2 ∧ k (pc + 1) ls r n (u2 I a j.toNatClampNeg x) L R)
  | .bastore => sIIR st (fun x j a r => a < n ∧ ((kK a).1 = 1 ∨ (kK a).1 = 2) ∧ vp_in j (kK a).2 ∧ k (pc + 1) ls r n (u2 I a j.toNatClampNeg (if (kK a).1 = 1 then vp_nar .byte x else vp_nar .boolean x)) L R)
  | .lastore => sLIR st (fun x j a r => a < n ∧ (kK a).1 = 3 ∧ vp_in j (kK a).2 ∧ k (pc + 1) ls r n I (u2 L a j.toNatClampNeg x) R)
  | .getstatic ix => match gr ci ix with | some a => k (pc + 3) ls (.ref a :: st) n I L R | none => False
  | .ldc2_w ix => match kl ci ix with | some x => k (pc + 3) ls (.long x :: st) n I L R | none => False
  | .ldc_w ix => match ki ci ix with | some x => k (pc + 3) ls (.int x :: st) n I L R | none => False
  | .ldc ix => match ks ci ix with | some a => k (pc + 2) ls (.ref a :: st) n I L R | none => False
  | .invokevirtual ix => callP G d b ci n1 ix 0 pc ls st n I L R k
  | .invokestatic ix => callP G d b ci n1 ix 1 pc ls st n I L R k
  | .invokespecial ix => callP G d b ci n1 ix 2 pc ls st n I L R k
  | .return_ => retP rt n1 Q .return_ st n I L R
  | .ireturn => retP rt n1 Q .ireturn st n I L R
  | .lreturn => retP rt n1 Q .lreturn st n I L R
  | .multianewarray ix dm => match st with | .int y :: .int x :: r => dm = 2 ∧ nr ci ix = some 106 ∧ ¬ x < 0 ∧ ¬ y < 0 ∧ x.toNatClampNeg ≤ 100 ∧ y.toNatClampNeg ≤ 4000 ∧ kK n = (6, x.toNatClampNeg) ∧ (∀ i, i < x.toNatClampNeg → kK (n + 1 + i) = (0, y.toNatClampNeg)) ∧ n + 1 + x.toNatClampNeg ≤ n1 ∧ n + 1 + x.toNatClampNeg ≤ 1000 ∧ (∀ i, i < x.toNatClampNeg → ∀ j, I (n + 1 + i) j = 0) ∧ (∀ j, R n j = none) ∧ k (pc + 4) ls (.ref n :: r) (n + 1 + x.toNatClampNeg) I L (uM R n x.toNatClampNeg) | _ => False
  | .new ix => match nr ci ix with | some c2 => c2 < 13 ∧ kK n = (10, c2) ∧ n + 1 ≤ n1 ∧ n + 1 ≤ 1000 ∧ (∀ j, I n j = 0) ∧ (∀ j, R n j = none) ∧ k (pc + 3) ls (.ref n :: st) (n + 1) I L R | none => False
  | .newarray ty => sI1 st (fun x r => aTag ty < 4 ∧ ¬ x < 0 ∧ x.toNatClampNeg ≤ 4000 ∧ kK n = (aTag ty, x.toNatClampNeg) ∧ n + 1 ≤ n1 ∧ n + 1 ≤ 1000 ∧ (∀ j, I n j = 0) ∧ (∀ j, L n j = 0) ∧ k (pc + 2) ls (.ref n :: r) (n + 1) I L R)
  | .anewarray ix => sI1 st (fun x r => (nr ci ix = some 104 ∧ (kK n).1 = 4 ∨ nr ci ix = some 105 ∧ (kK n).1 = 5) ∧ ¬ x < 0 ∧ x.toNatClampNeg ≤ 4000 ∧ (kK n).2 = x.toNatClampNeg ∧ n + 1 ≤ n1 ∧ n + 1 ≤ 1000 ∧ (∀ j, R n j = none) ∧ k (pc + 3) ls (.ref n :: r) (n + 1) I L R)
  | .aastore => match st with | .ref b :: .int j :: .ref a :: r => a < n ∧ b < n ∧ ((kK a).1 = 4 ∧ kK b = (10, 2) ∨ (kK a).1 = 5 ∧ kK b = (10, 7)) ∧ vp_in j (kK a).2 ∧ k (pc + 1) ls r n I L (u2 R a j.toNatClampNeg (some b)) | _ => False
  | _ => False
section STEP
variable {G : cG} {mi : Nat} {p : Program} {e : Env} {Rm : Room} {s : State} {m : MethodId} {args : Array Value} {below : List Frame} {meth : Method} {c : Code} {n0 : Nat} {Z : State → Prop} {pc : Nat} {ls : List (Option Value)} {st : List Value} {n : Nat} {I : MI} {L : ML} {R : MR}
set_option maxHeartbeats 4000000 in
theorem stepP_sound (F : FrOK G mi p s m meth c args) (hm : mi < 286) {d n1 nl ci len : Nat} {b : Bool} {rt : Option FieldType} {Q : tQ} {k : tK} {i : Instr} (hnl : nl = mnl mi) (hci : mci mi = ci) (hrm : RmOK Rm d n0 n1) (hpF : K_pF G d b) (hn1 : n ≤ n1)
    (hret : ∀ (i : Instr) (pc : Nat) (ls : List (Option Value)) (st : List Value) (n : Nat) (I : MI) (L : ML) (R : MR), decode (mcc mi) pc = .ok (i, 1) → retP rt n1 Q i st n I L R → KK G p e Rm s m args below meth c n0 Z pc ls st n I L R)
    (hd : decode (mcc mi) pc = .ok (i, len)) (hlen : iLen i len) (h : stepP G d b mi ci nl rt n1 Q i pc ls st n I L R k) (hk : ∀ pc' ls' st' n' I' L' R', k pc' ls' st' n' I' L' R' → KK G p e Rm s m args below meth c n0 Z pc' ls' st' n' I' L' R') : KK G p e Rm s m args below meth c n0 Z pc ls st n I L R := by
  unfold stepP at h
  split at h
  · (obtain rfl : len = _ := hlen); exact K_iconst F hd (hk _ _ _ _ _ _ _ h)
  · (obtain rfl : len = _ := hlen); exact K_bipush F hd (hk _ _ _ _ _ _ _ h)
  · (obtain rfl : len = _ := hlen); exact K_sipush F hd (hk _ _ _ _ _ _ _ h)
  · (obtain rfl : len = _ := hlen); exact K_lconst F hd (hk _ _ _ _ _ _ _ h)
  · (obtain rfl : len = _ := hlen); obtain ⟨x, hl, h⟩ := lI_e h; exact K_iload_n F hd hl (hk _ _ _ _ _ _ _ h)
  · (obtain rfl : len = _ := hlen); obtain ⟨x, hl, h⟩ := lI_e h; exact K_iload F hd hl (hk _ _ _ _ _ _ _ h)
  · (obtain rfl : len = _ := hlen); obtain ⟨x, hl, h⟩ := lL_e h; exact K_lload_n F hd hl (hk _ _ _ _ _ _ _ h)
  · (obtain rfl : len = _ := hlen); obtain ⟨x, hl, h⟩ := lL_e h; exact K_lload F hd hl (hk _ _ _ _ _ _ _ h)
  · (obtain rfl : len = _ := hlen); obtain ⟨x, hl, h⟩ := lR_e h; exact K_aload_n F hd hl (hk _ _ _ _ _ _ _ h)
  · (obtain rfl : len = _ := hlen); obtain ⟨x, hl, h⟩ := lR_e h; exact K_aload F hd hl (hk _ _ _ _ _ _ _ h)
  · (obtain rfl : len = _ := hlen); obtain ⟨x, r, rfl, h1, h2, h⟩ := sI1_e h; exact K_istore_n F hd (hnl ▸ h1) h2 (hk _ _ _ _ _ _ _ h)
  · (obtain rfl : len = _ := hlen); obtain ⟨x, r, rfl, h1, h2, h⟩ := sI1_e h; exact K_istore F hd (hnl ▸ h1) h2 (hk _ _ _ _ _ _ _ h)
  · (obtain rfl : len = _ := hlen); obtain ⟨x, r, rfl, h1, h2, h⟩ := sR1_e h; exact K_astore_n F hd (hnl ▸ h1) h2 (hk _ _ _ _ _ _ _ h)
  · (obtain rfl : len = _ := hlen); obtain ⟨x, r, rfl, h1, h2, h⟩ := sR1_e h; exact K_astore F hd (hnl ▸ h1) h2 (hk _ _ _ _ _ _ _ h)
  · (obtain rfl : len = _ := hlen); obtain ⟨x, r, rfl, h1, h2, h⟩ := sL1_e h; exact K_lstore_n F hd (hnl ▸ h1) h2 (hk _ _ _ _ _ _ _ h)
  · (obtain rfl : len = _ := hlen); obtain ⟨x, r, rfl, h1, h2, h⟩ := sL1_e h; exact K_lstore F hd (hnl ▸ h1) h2 (hk _ _ _ _ _ _ _ h)
  · (obtain rfl : len = _ := hlen); obtain ⟨x, hl, h1, h2, h⟩ := lI_e h; exact K_iinc F hd hl (hnl ▸ h1) h2 (hk _ _ _ _ _ _ _ h)
  · (obtain rfl : len = _ := hlen); obtain ⟨x, y, r, rfl, h⟩ := sI2_e h; exact K_iadd F hd (hk _ _ _ _ _ _ _ h)
  · (obtain rfl : len = _ := hlen); obtain ⟨x, y, r, rfl, h⟩ := sI2_e h; exact K_isub F hd (hk _ _ _ _ _ _ _ h)
  · (obtain rfl : len = _ := hlen); obtain ⟨x, y, r, rfl, h⟩ := sI2_e h; exact K_imul F hd (hk _ _ _ _ _ _ _ h)
  · (obtain rfl : len = _ := hlen); obtain ⟨x, y, r, rfl, h⟩ := sI2_e h; exact K_iand F hd (hk _ _ _ _ _ _ _ h)
  · (obtain rfl : len = _ := hlen); obtain ⟨x, y, r, rfl, h⟩ := sI2_e h; exact K_ior F hd (hk _ _ _ _ _ _ _ h)
  · (obtain rfl : len = _ := hlen); obtain ⟨x, y, r, rfl, h⟩ := sI2_e h; exact K_ixor F hd (hk _ _ _ _ _ _ _ h)
  · (obtain rfl : len = _ := hlen); obtain ⟨x, y, r, rfl, h⟩ := sI2_e h; exact K_ishl F hd (hk _ _ _ _ _ _ _ h)
  · (obtain rfl : len = _ := hlen); obtain ⟨x, y, r, rfl, h⟩ := sI2_e h; exact K_ishr F hd (hk _ _ _ _ _ _ _ h)
  · (obtain rfl : len = _ := hlen); obtain ⟨x, y, r, rfl, h⟩ := sI2_e h; exact K_iushr F hd (hk _ _ _ _ _ _ _ h)
  · (obtain rfl : len = _ := hlen); obtain ⟨x, y, r, rfl, h1, h⟩ := sI2_e h; exact K_idiv F hd h1 (hk _ _ _ _ _ _ _ h)
  · (obtain rfl : len = _ := hlen); obtain ⟨x, y, r, rfl, h1, h⟩ := sI2_e h; exact K_irem F hd h1 (hk _ _ _ _ _ _ _ h)
  · (obtain rfl : len = _ := hlen); obtain ⟨x, r, rfl, h⟩ := sI1_e h; exact K_ineg F hd (hk _ _ _ _ _ _ _ h)
  · (obtain rfl : len = _ := hlen); obtain ⟨x, r, rfl, h⟩ := sI1_e h; exact K_i2b F hd (hk _ _ _ _ _ _ _ h)
  · (obtain rfl : len = _ := hlen); obtain ⟨x, r, rfl, h⟩ := sI1_e h; exact K_i2s F hd (hk _ _ _ _ _ _ _ h)
  · (obtain rfl : len = _ := hlen); obtain ⟨x, r, rfl, h⟩ := sI1_e h; exact K_i2l F hd (hk _ _ _ _ _ _ _ h)
  · (obtain rfl : len = _ := hlen); obtain ⟨x, r, rfl, h⟩ := sL1_e h; exact K_l2i F hd (hk _ _ _ _ _ _ _ h)
  · (obtain rfl : len = _ := hlen); obtain ⟨x, y, r, rfl, h⟩ := sL2_e h; exact K_ladd F hd (hk _ _ _ _ _ _ _ h)
  · (obtain rfl : len = _ := hlen); obtain ⟨x, y, r, rfl, h⟩ := sL2_e h; exact K_lsub F hd (hk _ _ _ _ _ _ _ h)
  · (obtain rfl : len = _ := hlen); obtain ⟨x, y, r, rfl, h⟩ := sL2_e h; exact K_land F hd (hk _ _ _ _ _ _ _ h)
  · (obtain rfl : len = _ := hlen); obtain ⟨x, y, r, rfl, h⟩ := sL2_e h; exact K_lor F hd (hk _ _ _ _ _ _ _ h)
  · (obtain rfl : len = _ := hlen); obtain ⟨x, y, r, rfl, h⟩ := sL2_e h; exact K_lxor F hd (hk _ _ _ _ _ _ _ h)
  · (obtain rfl : len = _ := hlen); obtain ⟨x, y, r, rfl, h⟩ := sLI_e h; exact K_lshl F hd (hk _ _ _ _ _ _ _ h)
  · (obtain rfl : len = _ := hlen); obtain ⟨x, y, r, rfl, h⟩ := sLI_e h; exact K_lshr F hd (hk _ _ _ _ _ _ _ h)
  · (obtain rfl : len = _ := hlen); obtain ⟨x, y, r, rfl, h⟩ := sLI_e h; exact K_lushr F hd (hk _ _ _ _ _ _ _ h)
  · (obtain rfl : len = _ := hlen); obtain ⟨x, y, r, rfl, h⟩ := sL2_e h; exact K_lcmp F hd (hk _ _ _ _ _ _ _ h)
  · (obtain rfl : len = _ := hlen); obtain ⟨v, r, rfl, h1, h⟩ := sV1_e h; exact K_dup F hd h1 (hk _ _ _ _ _ _ _ h)
  · (obtain rfl : len = _ := hlen); obtain ⟨v, r, rfl, h1, h⟩ := sV1_e h; exact K_pop F hd h1 (hk _ _ _ _ _ _ _ h)
  · (obtain rfl : len = _ := hlen); obtain ⟨v, w, r, rfl, h1, h2, h⟩ := sV2_e h; exact K_dup_x1 F hd h1 h2 (hk _ _ _ _ _ _ _ h)
  · (obtain rfl : len = _ := hlen); obtain ⟨v, w, r, rfl, h1, h2, h⟩ := sV2_e h; exact K_dup2 F hd h1 h2 (hk _ _ _ _ _ _ _ h)
  · (obtain rfl : len = _ := hlen); obtain ⟨x, r, rfl, h0, h1, h2⟩ := sI1_e h; exact K_if_eq F hd (jT_e h0) (fun q => hk _ _ _ _ _ _ _ (h1 q)) (fun q => hk _ _ _ _ _ _ _ (h2 q))
  · (obtain rfl : len = _ := hlen); obtain ⟨x, r, rfl, h0, h1, h2⟩ := sI1_e h; exact K_if_ne F hd (jT_e h0) (fun q => hk _ _ _ _ _ _ _ (h1 q)) (fun q => hk _ _ _ _ _ _ _ (h2 q))
  · (obtain rfl : len = _ := hlen); obtain ⟨x, r, rfl, h0, h1, h2⟩ := sI1_e h; exact K_if_lt F hd (jT_e h0) (fun q => hk _ _ _ _ _ _ _ (h1 q)) (fun q => hk _ _ _ _ _ _ _ (h2 q))
  · (obtain rfl : len = _ := hlen); obtain ⟨x, r, rfl, h0, h1, h2⟩ := sI1_e h; exact K_if_ge F hd (jT_e h0) (fun q => hk _ _ _ _ _ _ _ (h1 q)) (fun q => hk _ _ _ _ _ _ _ (h2 q))
  · (obtain rfl : len = _ := hlen); obtain ⟨x, r, rfl, h0, h1, h2⟩ := sI1_e h; exact K_if_gt F hd (jT_e h0) (fun q => hk _ _ _ _ _ _ _ (h1 q)) (fun q => hk _ _ _ _ _ _ _ (h2 q))
  · (obtain rfl : len = _ := hlen); obtain ⟨x, r, rfl, h0, h1, h2⟩ := sI1_e h; exact K_if_le F hd (jT_e h0) (fun q => hk _ _ _ _ _ _ _ (h1 q)) (fun q => hk _ _ _ _ _ _ _ (h2 q))
  · (obtain rfl : len = _ := hlen); obtain ⟨x, y, r, rfl, h0, h1, h2⟩ := sI2_e h; exact K_icmp_eq F hd (jT_e h0) (fun q => hk _ _ _ _ _ _ _ (h1 q)) (fun q => hk _ _ _ _ _ _ _ (h2 q))
  · (obtain rfl : len = _ := hlen); obtain ⟨x, y, r, rfl, h0, h1, h2⟩ := sI2_e h; exact K_icmp_ne F hd (jT_e h0) (fun q => hk _ _ _ _ _ _ _ (h1 q)) (fun q => hk _ _ _ _ _ _ _ (h2 q))
  · (obtain rfl : len = _ := hlen); obtain ⟨x, y, r, rfl, h0, h1, h2⟩ := sI2_e h; exact K_icmp_lt F hd (jT_e h0) (fun q => hk _ _ _ _ _ _ _ (h1 q)) (fun q => hk _ _ _ _ _ _ _ (h2 q))
  · (obtain rfl : len = _ := hlen); obtain ⟨x, y, r, rfl, h0, h1, h2⟩ := sI2_e h; exact K_icmp_ge F hd (jT_e h0) (fun q => hk _ _ _ _ _ _ _ (h1 q)) (fun q => hk _ _ _ _ _ _ _ (h2 q))
  · (obtain rfl : len = _ := hlen); obtain ⟨x, y, r, rfl, h0, h1, h2⟩ := sI2_e h; exact K_icmp_gt F hd (jT_e h0) (fun q => hk _ _ _ _ _ _ _ (h1 q)) (fun q => hk _ _ _ _ _ _ _ (h2 q))
  · (obtain rfl : len = _ := hlen); obtain ⟨x, y, r, rfl, h0, h1, h2⟩ := sI2_e h; exact K_icmp_le F hd (jT_e h0) (fun q => hk _ _ _ _ _ _ _ (h1 q)) (fun q => hk _ _ _ _ _ _ _ (h2 q))
  · (obtain rfl : len = _ := hlen); obtain ⟨h0, h⟩ := h; exact K_goto F hd (jT_e h0) (hk _ _ _ _ _ _ _ h)
  · obtain ⟨x, r, rfl, h0, h1, h2⟩ := sI1_e h; exact K_table2 F hd h0 h1 h2 (fun t h => hk _ _ _ _ _ _ _ h)
  · obtain ⟨x, r, rfl, ⟨h0, h1⟩, h2⟩ := sI1_e h; exact K_lookup2 F hd h0 h1 h2 (fun t h => hk _ _ _ _ _ _ _ h)
  · obtain rfl : len = _ := hlen
    obtain ⟨a, r, rfl, h9⟩ := sR1_e h
    split at h9
    · rename_i c2 k2 hf
      obtain ⟨h1, h2, h9⟩ := h9
      exact K_getfield F hm hd (by rw [hci]; exact hf) h1 h2 (hk _ _ _ _ _ _ _ h9)
    · exact h9.elim
  · obtain rfl : len = _ := hlen
    have h9 := h
    split at h9
    · rename_i c2 k2 hf
      rcases sP_e h9 with ⟨x, a, r, rfl, h1, h2, h3, h8⟩ | ⟨b, a, r, rfl, h1, h2, h3, h4, h8⟩
      · exact K_putI F hm hd (by rw [hci]; exact hf) h1 h2 h3 (hk _ _ _ _ _ _ _ h8)
      · exact K_putR F hm hd (by rw [hci]; exact hf) h1 h2 h3 h4 (hk _ _ _ _ _ _ _ h8)
    · exact h9.elim
  · obtain rfl : len = _ := hlen
    obtain ⟨j, a, r, rfl, h9⟩ := sIR_e h
    by_cases h7 : (kK a).1 = 7
    · rw [if_pos h7] at h9
      obtain ⟨h1, h2, h3, h9⟩ := h9
      exact K_siald F hd h1 h2 h3 (hk _ _ _ _ _ _ _ h9)
    · rw [if_neg h7] at h9
      obtain ⟨h1, h2, h3, h9⟩ := h9
      exact K_iald F hd h1 (Prod.ext h2 rfl) h3 (hk _ _ _ _ _ _ _ h9)
  · obtain rfl : len = _ := hlen
    obtain ⟨j, a, r, rfl, h1, h2 | h2, h3, h⟩ := sIR_e h
    · exact K_bald F hd h1 (Prod.ext h2 rfl) h3 (hk _ _ _ _ _ _ _ h)
    · exact K_zald F hd h1 (Prod.ext h2 rfl) h3 (hk _ _ _ _ _ _ _ h)
  · (obtain rfl : len = _ := hlen); obtain ⟨j, a, r, rfl, h1, h2, h3, h⟩ := sIR_e h; exact K_lald F hd h1 (Prod.ext h2 rfl) h3 (hk _ _ _ _ _ _ _ h)
  · (obtain rfl : len = _ := hlen); obtain ⟨j, a, r, rfl, h1, h2, h3, h⟩ := sIR_e h; exact K_aald F hd h1 rfl h2 h3 (hk _ _ _ _ _ _ _ h)
  · obtain rfl : len = _ := hlen
    obtain ⟨a, r, rfl, h9⟩ := sR1_e h
    by_cases h7 : (kK a).1 = 7
    · rw [if_pos h7] at h9
      obtain ⟨h1, h2, h9⟩ := h9
      exact K_salen F hd h1 h2 (hk _ _ _ _ _ _ _ h9)
    · rw [if_neg h7] at h9
      obtain ⟨h1, h2, h9⟩ := h9
      exact K_alen F hd h1 rfl h2 (hk _ _ _ _ _ _ _ h9)
  · (obtain rfl : len = _ := hlen); obtain ⟨x, j, a, r, rfl, h1, h2, h3, h⟩ := sIIR_e h; exact K_iast F hd h1 (Prod.ext h2 rfl) h3 (hk _ _ _ _ _ _ _ h)
  · obtain rfl : len = _ := hlen
    obtain ⟨x, j, a, r, rfl, h1, h2 | h2, h3, h9⟩ := sIIR_e h
    · rw [if_pos h2] at h9; exact K_bast F hd h1 (Prod.ext h2 rfl) h3 (hk _ _ _ _ _ _ _ h9)
    · rw [if_neg (by rw [h2]; decide)] at h9; exact K_zast F hd h1 (Prod.ext h2 rfl) h3 (hk _ _ _ _ _ _ _ h9)
  · (obtain rfl : len = _ := hlen); obtain ⟨x, j, a, r, rfl, h1, h2, h3, h⟩ := sLIR_e h; exact K_last F hd h1 (Prod.ext h2 rfl) h3 (hk _ _ _ _ _ _ _ h)
  · obtain rfl : len = _ := hlen
    have h9 := h
    split at h9
    · rename_i a hg
      exact K_gets F hm hd (by rw [hci]; exact hg) (hk _ _ _ _ _ _ _ h9)
    · exact h9.elim
  · obtain rfl : len = _ := hlen
    have h9 := h
    split at h9
    · rename_i a hg
      exact K_ldc2 F hm hd (by rw [hci]; exact hg) (hk _ _ _ _ _ _ _ h9)
    · exact h9.elim
  · obtain rfl : len = _ := hlen
    have h9 := h
    split at h9
    · rename_i a hg
      exact K_ldcw F hm hd (by rw [hci]; exact hg) (hk _ _ _ _ _ _ _ h9)
    · exact h9.elim
  · obtain rfl : len = _ := hlen
    have h9 := h
    split at h9
    · rename_i a hg
      exact K_ldcs F hm hd (by rw [hci]; exact hg) (hk _ _ _ _ _ _ _ h9)
    · exact h9.elim
  · (obtain rfl : len = _ := hlen); exact callP_sound (md := 0) F hm hci hrm hpF hn1 hd h hk
  · (obtain rfl : len = _ := hlen); exact callP_sound (md := 1) F hm hci hrm hpF hn1 hd h hk
  · (obtain rfl : len = _ := hlen); exact callP_sound (md := 2) F hm hci hrm hpF hn1 hd h hk
  · (obtain rfl : len = _ := hlen); exact hret _ _ _ _ _ _ _ _ hd h
  · (obtain rfl : len = _ := hlen); exact hret _ _ _ _ _ _ _ _ hd h
  · (obtain rfl : len = _ := hlen); exact hret _ _ _ _ _ _ _ _ hd h
  · obtain rfl : len = _ := hlen
    split at h
    · obtain ⟨rfl, a1, a2, a3, a4, a5, a6, a7, a8, a9, a10, a11, h⟩ := h
      exact K_multi F hm hd (by rw [hci]; exact a1) a2 a3 a4 a5 rfl rfl a6 a7 a8 a9 a10 a11 hrm (hk _ _ _ _ _ _ _ h)
    · exact h.elim
  · obtain rfl : len = _ := hlen
    have h9 := h
    split at h9
    · rename_i c2 hf
      obtain ⟨a1, a2, a3, a4, a5, a6, h9⟩ := h9
      exact K_new F hm hd (by rw [hci]; exact hf) a1 a2 a3 a4 a5 a6 hrm (hk _ _ _ _ _ _ _ h9)
    · exact h9.elim
  · (obtain rfl : len = _ := hlen); obtain ⟨x, r, rfl, a0, a1, a2, a3, a4, a5, a6, a7, h⟩ := sI1_e h; exact K_newarr F hd a0 a1 rfl a2 a3 a4 a5 a6 a7 hrm (hk _ _ _ _ _ _ _ h)
  · obtain rfl : len = _ := hlen
    obtain ⟨x, r, rfl, a0, a1, a2, a3, a4, a5, a6, h⟩ := sI1_e h
    rcases a0 with ⟨b1, b2⟩ | ⟨b1, b2⟩
    · exact K_anew (t := 4) F hm hd (by rw [hci]; exact b1) (Or.inl rfl) a1 rfl a2 (Prod.ext b2 a3) a4 a5 a6 hrm (hk _ _ _ _ _ _ _ h)
    · exact K_anew (t := 5) F hm hd (by rw [hci]; exact b1) (Or.inr rfl) a1 rfl a2 (Prod.ext b2 a3) a4 a5 a6 hrm (hk _ _ _ _ _ _ _ h)
  · obtain rfl : len = _ := hlen
    split at h
    · obtain ⟨a1, a2, a3, a4, h⟩ := h
      rcases a3 with ⟨b1, b2⟩ | ⟨b1, b2⟩
      · exact K_aast F hd a1 a2 (Prod.ext b1 rfl) (Or.inl ⟨rfl, rfl⟩) b2 a4 (hk _ _ _ _ _ _ _ h)
      · exact K_aast F hd a1 a2 (Prod.ext b1 rfl) (Or.inr ⟨rfl, rfl⟩) b2 a4 (hk _ _ _ _ _ _ _ h)
    · exact h.elim
  · exact h.elim
end STEP
