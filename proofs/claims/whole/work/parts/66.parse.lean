/-! ===== reading a text, purely: tokens by number, the class's descent, the reference's steps ===== -/
/-- how many tokens, which, where, what a number comes to -/
abbrev tE : Type := Nat × (Nat → Nat) × (Nat → Nat) × (Nat → Int32)
/-- next token, fault, steps -/
abbrev tS : Type := Nat × Option Nat × List Int32
def opV (w : Nat) : Int32 := -(nI w)
def sgN (a : Nat) : Nat := if a = 11 then 1 else if a = 12 then 2 else if a = 60 then 4 else if a = 61 then 5 else if a = 43 then 6 else if a = 45 then 7 else if a = 42 then 8 else 0
def rkF (w : Nat) : Nat := if w = 1 then 1 else if w = 2 then 2 else if w = 3 then 3 else if w = 4 ∨ w = 5 then 4 else if w = 6 ∨ w = 7 then 5 else if w = 8 then 6 else if w = 9 then 7 else 0
def pW (v : Int32) (s : tS) : tS := if s.2.2.length < 160 then (s.1, s.2.1, s.2.2 ++ [v]) else s
def pK (e : tE) (s : tS) : tS := if s.1 < e.1 then (s.1 + 1, s.2.1, s.2.2) else s
def pX (e : tE) (s : tS) : tS := if s.2.1 = none then (s.1, some (e.2.2.1 s.1), s.2.2) else s
def pN (e : tE) (a : Nat) (s : tS) : Bool := s.2.1.isNone && decide (e.2.1 s.1 = a)
def pE (e : tE) (a : Nat) (s : tS) : tS := if pN e a s = true then pK e s else pX e s
def pT (e : tE) (l : Nat) (s : tS) : Bool := s.2.1.isNone && decide (rkF (sgN (e.2.1 s.1)) = l)
def pB (e : tE) (X : tS → tS) (s : tS) : tS := pW (opV (sgN (e.2.1 s.1))) (X (pK e s))
def pL (e : tE) (l : Nat) (X : tS → tS) : Nat → tS → tS
  | 0, s => s
  | m + 1, s => if pT e l s = true then pL e l X m (pB e X s) else s
def lpF (e : tE) (l : Nat) (X : tS → tS) (s : tS) : tS := pL e l X e.1 (X s)
def vlN (e : tE) (k : Nat) : Int32 := if e.2.1 k = 1 then e.2.2.2 k else 10000 + nI (e.2.1 k - 3)
def oneF (e : tE) (f : Nat) (d1 d3 : tS → tS) (s : tS) : tS :=
  if s.2.1 ≠ none then s
  else if e.2.1 s.1 = 1 ∨ (3 ≤ e.2.1 s.1 ∧ e.2.1 s.1 ≤ 8) then pK e (pW (vlN e s.1) s)
  else if e.2.1 s.1 = 45 ∧ 0 < f then pW (opV 9) (d1 (pK e s))
  else if e.2.1 s.1 = 40 ∧ 0 < f then pE e 41 (d3 (pK e s))
  else pX e s
def cmpF (e : tE) (X : tS → tS) (s : tS) : tS := if pT e 4 (X s) = true then pB e X (X s) else X s
def notF (e : tE) (f : Nat) (d2 Y : tS → tS) (s : tS) : tS := if pN e 13 s = true then (if 0 < f then pW (opV 3) (d2 (pK e s)) else pX e s) else Y s
def trL (e : tE) (f : Nat) (g : (tS → tS) × (tS → tS) × (tS → tS)) : (tS → tS) × (tS → tS) × (tS → tS) :=
  (oneF e f g.1 g.2.2, notF e f g.2.1 (cmpF e (lpF e 5 (lpF e 6 (oneF e f g.1 g.2.2)))), lpF e 1 (lpF e 2 (notF e f g.2.1 (cmpF e (lpF e 5 (lpF e 6 (oneF e f g.1 g.2.2)))))))
def lvF (e : tE) : Nat → (tS → tS) × (tS → tS) × (tS → tS)
  | 0 => trL e 0 (id, id, id)
  | f + 1 => trL e (f + 1) (lvF e f)
def partF (e : tE) (a : Nat) (s : tS) : tS := pE e 59 ((lvF e 5).2.2 (pE e a (s.1, s.2.1, [])))
/-! the reference: place, wants, begin, what waits, brackets, open, compared, steps -/
abbrev tR : Type := Nat × Bool × Bool × List Nat × Nat × Nat × (Nat → Bool) × List Int32
def stl (l : Nat) : List Nat → List Int32 → Nat → List Nat × List Int32 × Nat
  | [], C, o => ([], C, o)
  | w :: W, C, o => if l ≤ rkF w then stl l W (C ++ [opV w]) (if w = 3 ∨ w = 9 then o - 1 else o) else (w :: W, C, o)
def upB (f : Nat → Bool) (i : Nat) (v : Bool) : Nat → Bool := fun j => if j = i then v else f j
def rS (e : tE) : tR → tR ⊕ (Bool × List Int32)
  | (k, true, ib, W, b, o, cm, C) =>
    if e.2.1 k = 1 ∨ (3 ≤ e.2.1 k ∧ e.2.1 k ≤ 8) then .inl (k + 1, false, ib, (stl 7 W (C ++ [vlN e k]) o).1, b, (stl 7 W (C ++ [vlN e k]) o).2.2, cm, (stl 7 W (C ++ [vlN e k]) o).2.1)
    else if o = 5 then .inr (false, C)
    else if e.2.1 k = 13 then (if ib = true then .inl (k + 1, true, ib, 3 :: W, b, o + 1, cm, C) else .inr (false, C))
    else if e.2.1 k = 45 then .inl (k + 1, true, false, 9 :: W, b, o + 1, cm, C)
    else if e.2.1 k = 40 then .inl (k + 1, true, true, 10 :: W, b + 1, o + 1, upB cm (b + 1) false, C)
    else .inr (false, C)
  | (k, false, ib, W, b, o, cm, C) =>
    if e.2.1 k = 59 then .inr (decide (b = 0), (stl 1 W C o).2.1)
    else if e.2.1 k = 41 then (if b = 0 then .inr (false, C) else .inl (k + 1, false, ib, (stl 7 (stl 1 W C o).1.tail (stl 1 W C o).2.1 ((stl 1 W C o).2.2 - 1)).1, b - 1, (stl 7 (stl 1 W C o).1.tail (stl 1 W C o).2.1 ((stl 1 W C o).2.2 - 1)).2.2, cm, (stl 7 (stl 1 W C o).1.tail (stl 1 W C o).2.1 ((stl 1 W C o).2.2 - 1)).2.1))
    else if sgN (e.2.1 k) = 0 ∨ (rkF (sgN (e.2.1 k)) = 4 ∧ cm b = true) then .inr (false, C)
    else .inl (k + 1, true, decide (rkF (sgN (e.2.1 k)) < 3), sgN (e.2.1 k) :: (stl (rkF (sgN (e.2.1 k))) W C o).1, b, (stl (rkF (sgN (e.2.1 k))) W C o).2.2, upB cm b (decide (rkF (sgN (e.2.1 k)) = 4) || (decide (2 < rkF (sgN (e.2.1 k))) && cm b)), (stl (rkF (sgN (e.2.1 k))) W C o).2.1)
def rRun (e : tE) : Nat → tR → Option tR
  | 0, T => some T
  | m + 1, T => match rS e T with
    | .inl T1 => rRun e m T1
    | .inr _ => none
def Rch (e : tE) (T T' : tR) : Prop := ∃ m, rRun e m T = some T'
def pBad (e : tE) (T : tR) (p : Nat) : Prop := ∃ T' C, Rch e T T' ∧ rS e T' = .inr (false, C) ∧ e.2.2.1 T'.1 = p
theorem Rch.rf {e : tE} {T : tR} : Rch e T T := ⟨0, rfl⟩
theorem Rch.st {e : tE} {T T1 T' : tR} (h : rS e T = .inl T1) (h2 : Rch e T1 T') : Rch e T T' := by
  obtain ⟨m, hm⟩ := h2
  refine ⟨m + 1, ?_⟩
  unfold rRun
  rw [h]
  exact hm
theorem Rch.tr {e : tE} {T T1 T' : tR} (h : Rch e T T1) (h2 : Rch e T1 T') : Rch e T T' := by
  obtain ⟨m, hm⟩ := h
  induction m generalizing T with
  | zero =>
    cases hm
    exact h2
  | succ m ih =>
    unfold rRun at hm
    cases hs : rS e T with
    | inl T2 =>
      rw [hs] at hm
      exact Rch.st hs (ih hm)
    | inr v =>
      rw [hs] at hm
      cases hm
theorem pBad.tr {e : tE} {T T1 : tR} {p : Nat} (h : Rch e T T1) (h2 : pBad e T1 p) : pBad e T p := by
  obtain ⟨T', C, a, b, c⟩ := h2
  exact ⟨T', C, h.tr a, b, c⟩
/-! ranks -/
theorem sg_cases (a : Nat) : (a = 11 ∧ sgN a = 1) ∨ (a = 12 ∧ sgN a = 2) ∨ (a = 60 ∧ sgN a = 4) ∨ (a = 61 ∧ sgN a = 5) ∨ (a = 43 ∧ sgN a = 6) ∨ (a = 45 ∧ sgN a = 7) ∨ (a = 42 ∧ sgN a = 8) ∨ (sgN a = 0 ∧ ¬ (a = 11 ∨ a = 12 ∨ a = 60 ∨ a = 61 ∨ a = 43 ∨ a = 45 ∨ a = 42)) := by
  by_cases h : a = 11 ∨ a = 12 ∨ a = 60 ∨ a = 61 ∨ a = 43 ∨ a = 45 ∨ a = 42
  · rcases h with rfl | rfl | rfl | rfl | rfl | rfl | rfl <;> decide
  · refine Or.inr (Or.inr (Or.inr (Or.inr (Or.inr (Or.inr (Or.inr ⟨?_, h⟩))))))
    unfold sgN
    rw [if_neg (by omega), if_neg (by omega), if_neg (by omega), if_neg (by omega), if_neg (by omega), if_neg (by omega), if_neg (by omega)]
theorem rk_sg (a : Nat) : (a = 11 ∧ rkF (sgN a) = 1) ∨ (a = 12 ∧ rkF (sgN a) = 2) ∨ (a = 60 ∧ rkF (sgN a) = 4) ∨ (a = 61 ∧ rkF (sgN a) = 4) ∨ (a = 43 ∧ rkF (sgN a) = 5) ∨ (a = 45 ∧ rkF (sgN a) = 5) ∨ (a = 42 ∧ rkF (sgN a) = 6) ∨ (rkF (sgN a) = 0 ∧ sgN a = 0 ∧ ¬ (a = 11 ∨ a = 12 ∨ a = 60 ∨ a = 61 ∨ a = 43 ∨ a = 45 ∨ a = 42)) := by
  rcases sg_cases a with ⟨h, e⟩ | ⟨h, e⟩ | ⟨h, e⟩ | ⟨h, e⟩ | ⟨h, e⟩ | ⟨h, e⟩ | ⟨h, e⟩ | ⟨e, h⟩ <;> rw [e]
  · exact Or.inl ⟨h, rfl⟩
  · exact Or.inr (Or.inl ⟨h, rfl⟩)
  · exact Or.inr (Or.inr (Or.inl ⟨h, rfl⟩))
  · exact Or.inr (Or.inr (Or.inr (Or.inl ⟨h, rfl⟩)))
  · exact Or.inr (Or.inr (Or.inr (Or.inr (Or.inl ⟨h, rfl⟩))))
  · exact Or.inr (Or.inr (Or.inr (Or.inr (Or.inr (Or.inl ⟨h, rfl⟩)))))
  · exact Or.inr (Or.inr (Or.inr (Or.inr (Or.inr (Or.inr (Or.inl ⟨h, rfl⟩))))))
  · exact Or.inr (Or.inr (Or.inr (Or.inr (Or.inr (Or.inr (Or.inr ⟨rfl, rfl, h⟩))))))
/-- what a sign that has a rank is -/
theorem sg_ok {a l : Nat} (h : rkF (sgN a) = l) (hl : 0 < l) : sgN a ≠ 0 ∧ a ≠ 0 ∧ a ≠ 59 ∧ a ≠ 41 ∧ sgN a ≠ 3 ∧ sgN a ≠ 9 ∧ sgN a ≠ 10 ∧ rkF (sgN a) = l ∧ stp (opV (sgN a)) ∧ ndS (opV (sgN a)) = 2 ∧ dpS (opV (sgN a)) = -1 := by
  rcases sg_cases a with ⟨h1, e⟩ | ⟨h1, e⟩ | ⟨h1, e⟩ | ⟨h1, e⟩ | ⟨h1, e⟩ | ⟨h1, e⟩ | ⟨h1, e⟩ | ⟨e, h1⟩ <;> rw [e] at h ⊢
  · exact ⟨by decide, by omega, by omega, by omega, by decide, by decide, by decide, h, by unfold stp; decide, by decide, by decide⟩
  · exact ⟨by decide, by omega, by omega, by omega, by decide, by decide, by decide, h, by unfold stp; decide, by decide, by decide⟩
  · exact ⟨by decide, by omega, by omega, by omega, by decide, by decide, by decide, h, by unfold stp; decide, by decide, by decide⟩
  · exact ⟨by decide, by omega, by omega, by omega, by decide, by decide, by decide, h, by unfold stp; decide, by decide, by decide⟩
  · exact ⟨by decide, by omega, by omega, by omega, by decide, by decide, by decide, h, by unfold stp; decide, by decide, by decide⟩
  · exact ⟨by decide, by omega, by omega, by omega, by decide, by decide, by decide, h, by unfold stp; decide, by decide, by decide⟩
  · exact ⟨by decide, by omega, by omega, by omega, by decide, by decide, by decide, h, by unfold stp; decide, by decide, by decide⟩
  · have h2 : 0 = l := h
    omega
/-! what waits -/
def bsW (l : Nat) (W : List Nat) : Prop := ∀ w V, W = w :: V → rkF w < (if l = 3 then 4 else l)
def opn : List Nat → Nat
  | [] => 0
  | w :: W => if w = 3 ∨ w = 9 then opn W + 1 else opn W
theorem opn_s {w : Nat} {P : List Nat} : opn (w :: P) = if w = 3 ∨ w = 9 then opn P + 1 else opn P := rfl
theorem stl_s {l w o : Nat} {W : List Nat} {C : List Int32} : stl l (w :: W) C o = if l ≤ rkF w then stl l W (C ++ [opV w]) (if w = 3 ∨ w = 9 then o - 1 else o) else (w :: W, C, o) := rfl
theorem stl_app {l : Nat} : ∀ (P W : List Nat) (C : List Int32) (o : Nat), (∀ w ∈ P, l ≤ rkF w) → stl l (P ++ W) C (o + opn P) = stl l W (C ++ P.map opV) o := by
  intro P
  induction P with
  | nil =>
    intro W C o _
    simp [opn]
  | cons w P ih =>
    intro W C o h
    have h1 : l ≤ rkF w := h w List.mem_cons_self
    have e : (if w = 3 ∨ w = 9 then o + opn (w :: P) - 1 else o + opn (w :: P)) = o + opn P := by
      rw [opn_s]
      by_cases q : w = 3 ∨ w = 9
      · rw [if_pos q, if_pos q]
        omega
      · rw [if_neg q, if_neg q]
    rw [List.cons_append, stl_s, if_pos h1, e, ih W (C ++ [opV w]) o (fun v hv => h v (List.mem_cons_of_mem _ hv)), List.map_cons, List.append_assoc]
    rfl
theorem stl_bs {l : Nat} {W : List Nat} {C : List Int32} {o : Nat} (h : ∀ w V, W = w :: V → rkF w < l) : stl l W C o = (W, C, o) := by
  cases W with
  | nil => rfl
  | cons w V =>
    unfold stl
    rw [if_neg (by have := h w V rfl; omega)]
theorem opn_app (P Q : List Nat) : opn (P ++ Q) = opn P + opn Q := by
  induction P with
  | nil => simp [opn]
  | cons w P ih =>
    rw [List.cons_append, opn_s, opn_s, ih]
    by_cases q : w = 3 ∨ w = 9
    · rw [if_pos q, if_pos q]
      omega
    · rw [if_neg q, if_neg q]
/-! steps in order -/
def gd (C : List Int32) (m : Nat) : Prop := (∀ v ∈ C, stp v) ∧ okC (fun i => C.getD i 0) C.length m
theorem okC_cong {c c' : Nat → Int32} : ∀ n m, (∀ i, i < n → c i = c' i) → okC c n m → okC c' n m := by
  intro n
  induction n with
  | zero => exact fun m _ h => h
  | succ n ih =>
    intro m h ho
    obtain ⟨q, h1, h2, h3⟩ := ho
    refine ⟨q, ih q (fun i hi => h i (by omega)) h1, ?_, ?_⟩
    · rw [← h n (by omega)]
      exact h2
    · rw [← h n (by omega)]
      exact h3
theorem gd.snoc {C : List Int32} {m m' : Nat} {v : Int32} (h : gd C m) (hv : stp v) (h2 : ndS v ≤ m) (h3 : (m' : Int) = m + dpS v) : gd (C ++ [v]) m' := by
  refine ⟨fun w hw => ?_, ?_⟩
  · rcases List.mem_append.mp hw with q | q
    · exact h.1 w q
    · rw [List.mem_singleton.mp q]
      exact hv
  · rw [List.length_append]
    show okC _ (C.length + 1) m'
    refine ⟨m, okC_cong _ _ (fun i hi => ?_) h.2, ?_, ?_⟩
    · show C.getD i 0 = (C ++ [v]).getD i 0
      rw [List.getD_eq_getElem?_getD, List.getD_eq_getElem?_getD, List.getElem?_append_left hi]
    · show ndS ((C ++ [v]).getD C.length 0) ≤ m
      rw [List.getD_eq_getElem?_getD, List.getElem?_append_right (Nat.le_refl _), Nat.sub_self]
      exact h2
    · show (m' : Int) = m + dpS ((C ++ [v]).getD C.length 0)
      rw [List.getD_eq_getElem?_getD, List.getElem?_append_right (Nat.le_refl _), Nat.sub_self]
      exact h3
