def nx (l : Nat) (cm : Nat → Bool) (b a : Nat) : Prop := rkF (sgN a) < l ∨ (l ≤ 4 ∧ rkF (sgN a) = 4 ∧ cm b = true)
def eOK (e : tE) : Prop := e.1 ≤ 160 ∧ (∀ k, k < e.1 → e.2.1 k ≠ 0) ∧ (∀ k, e.1 ≤ k → e.2.1 k = 0) ∧ ∀ k, e.2.1 k = 1 → 0 ≤ e.2.2.2 k ∧ e.2.2.2 k ≤ 9999
theorem eOK.lt {e : tE} (h : eOK e) {k : Nat} (hk : e.2.1 k ≠ 0) : k < e.1 := by
  by_cases q : k < e.1
  · exact q
  · exact absurd (h.2.2.1 k (by omega)) hk
/-- the class's X from here, and the reference from here, come to the same -/
def Ag (e : tE) (l f : Nat) (X : tS → tS) : Prop := ∀ (k : Nat) (ib : Bool) (W : List Nat) (b o : Nat) (cm : Nat → Bool) (C : List Int32), o + f = 5 → bsW l W → C.length + W.length ≤ k → k ≤ e.1 → (l ≤ 3 → ib = true) → (3 < l → ib = true → e.2.1 k ≠ 13) → (l ≤ 4 → cm b = false) →
  (∃ k' p C', X (k, none, C) = (k', some p, C') ∧ pBad e (k, true, ib, W, b, o, cm, C) p) ∨
  (∃ k' ib' P cm' C1 C', X (k, none, C) = (k', none, C') ∧ Rch e (k, true, ib, W, b, o, cm, C) (k', false, ib', P ++ W, b, o + opn P, cm', C1) ∧ (∀ w ∈ P, l ≤ rkF w) ∧ C1 ++ P.map opV = C' ∧ nx l cm' b (e.2.1 k') ∧ (∀ i, i < b ∨ (4 < l ∧ i = b) → cm' i = cm i) ∧ C'.length + W.length ≤ k' ∧ k' ≤ e.1 ∧ k < k' ∧ ∀ m, gd C m → gd C' (m + 1))
def Ag7 (e : tE) (f : Nat) (X : tS → tS) : Prop := ∀ (k : Nat) (ib : Bool) (W : List Nat) (b o : Nat) (cm : Nat → Bool) (C : List Int32), o + f = 5 → C.length + W.length ≤ k → k ≤ e.1 → (ib = true → e.2.1 k ≠ 13) →
  (∃ k' p C', X (k, none, C) = (k', some p, C') ∧ pBad e (k, true, ib, W, b, o, cm, C) p) ∨
  (∃ k' ib' cm' C', X (k, none, C) = (k', none, C') ∧ Rch e (k, true, ib, W, b, o, cm, C) (k', false, ib', (stl 7 W C' o).1, b, (stl 7 W C' o).2.2, cm', (stl 7 W C' o).2.1) ∧ (∀ i, i ≤ b → cm' i = cm i) ∧ C'.length + W.length ≤ k' ∧ k' ≤ e.1 ∧ k < k' ∧ ∀ m, gd C m → gd C' (m + 1))
theorem pW_f {v : Int32} {k p : Nat} {C : List Int32} : ∃ C', pW v (k, some p, C) = (k, some p, C') := by
  unfold pW
  by_cases h : C.length < 160
  · exact ⟨C ++ [v], by rw [if_pos h]⟩
  · exact ⟨C, by rw [if_neg h]⟩
theorem pW_o {v : Int32} {k : Nat} {C : List Int32} (h : C.length < 160) : pW v (k, none, C) = (k, none, C ++ [v]) := by
  unfold pW
  rw [if_pos h]
theorem pK_o {e : tE} {k : Nat} {q : Option Nat} {C : List Int32} (h : k < e.1) : pK e (k, q, C) = (k + 1, q, C) := by
  unfold pK
  rw [if_pos h]
theorem pT_f {e : tE} {l k p : Nat} {C : List Int32} : pT e l (k, some p, C) = false := rfl
theorem pT_o {e : tE} {l k : Nat} {C : List Int32} : pT e l (k, none, C) = decide (rkF (sgN (e.2.1 k)) = l) := rfl
theorem pL_f {e : tE} {l : Nat} {X : tS → tS} {k p : Nat} {C : List Int32} : ∀ m, pL e l X m (k, some p, C) = (k, some p, C) := by
  intro m
  cases m with
  | zero => rfl
  | succ m =>
    unfold pL
    rw [if_neg (by rw [pT_f]; decide)]
theorem pL_n {e : tE} {l : Nat} {X : tS → tS} {k : Nat} {C : List Int32} (h : ¬ rkF (sgN (e.2.1 k)) = l) : ∀ m, pL e l X m (k, none, C) = (k, none, C) := by
  intro m
  cases m with
  | zero => rfl
  | succ m =>
    unfold pL
    rw [if_neg (by rw [pT_o, decide_eq_false h]; decide)]
theorem pL_s {e : tE} {l : Nat} {X : tS → tS} {m k : Nat} {C : List Int32} (h : rkF (sgN (e.2.1 k)) = l) : pL e l X (m + 1) (k, none, C) = pL e l X m (pB e X (k, none, C)) := by
  show (if pT e l (k, none, C) = true then pL e l X m (pB e X (k, none, C)) else (k, none, C)) = _
  rw [if_pos (by rw [pT_o, decide_eq_true h])]
theorem rk_le (a : Nat) : rkF (sgN a) < 7 ∧ rkF (sgN a) ≠ 3 := by
  rcases rk_sg a with ⟨-, e⟩ | ⟨-, e⟩ | ⟨-, e⟩ | ⟨-, e⟩ | ⟨-, e⟩ | ⟨-, e⟩ | ⟨-, e⟩ | ⟨e, -⟩ <;> omega
theorem rk_0 : rkF (sgN 0) = 0 := by decide
/-- the reference takes a sign of rank l -/
theorem rS_sign {e : tE} {k l b o : Nat} {ib : Bool} {P W : List Nat} {cm : Nat → Bool} {C1 C' : List Int32} (hr : rkF (sgN (e.2.1 k)) = l) (hl : 0 < l) (hc : ¬ (l = 4 ∧ cm b = true)) (hP : ∀ w ∈ P, l ≤ rkF w) (hW : ∀ w V, W = w :: V → rkF w < l) (hC : C1 ++ P.map opV = C') : rS e (k, false, ib, P ++ W, b, o + opn P, cm, C1) = .inl (k + 1, true, decide (l < 3), sgN (e.2.1 k) :: W, b, o, upB cm b (decide (l = 4) || (decide (2 < l) && cm b)), C') := by
  obtain ⟨h0, -, h1, h2, -⟩ := sg_ok hr hl
  have hs : stl l (P ++ W) C1 (o + opn P) = (W, C', o) := by
    rw [stl_app P W C1 o hP, hC, stl_bs hW]
  unfold rS
  dsimp only
  rw [if_neg h1, if_neg h2, hr, if_neg (fun w => w.elim h0 hc), hs]
theorem Ag_lp {e : tE} {l f : Nat} {X : tS → tS} (hE : eOK e) (hl : l = 1 ∨ l = 2 ∨ l = 5 ∨ l = 6) (hX : Ag e (l + 1) f X) : Ag e l f (lpF e l X) := by
  intro k ib W b o cm C hof hW hlen hk hib h13 hcm
  have hW0 : ∀ w V, W = w :: V → rkF w < l := fun w V h => by
    have := hW w V h
    rw [if_neg (by omega)] at this
    exact this
  have hW1 : bsW (l + 1) W := fun w V h => by
    have := hW0 w V h
    split <;> omega
  have loop : ∀ m k' ib' P cm' C1 C', e.1 ≤ k' + m → Rch e (k, true, ib, W, b, o, cm, C) (k', false, ib', P ++ W, b, o + opn P, cm', C1) → (∀ w ∈ P, l ≤ rkF w) → C1 ++ P.map opV = C' → nx (l + 1) cm' b (e.2.1 k') → (∀ i, i < b ∨ (4 < l ∧ i = b) → cm' i = cm i) → C'.length + W.length ≤ k' → k' ≤ e.1 → k < k' → (∀ m, gd C m → gd C' (m + 1)) →
      (∃ k1 p C2, pL e l X m (k', none, C') = (k1, some p, C2) ∧ pBad e (k, true, ib, W, b, o, cm, C) p) ∨
      (∃ k1 ib1 P1 cm1 C11 C2, pL e l X m (k', none, C') = (k1, none, C2) ∧ Rch e (k, true, ib, W, b, o, cm, C) (k1, false, ib1, P1 ++ W, b, o + opn P1, cm1, C11) ∧ (∀ w ∈ P1, l ≤ rkF w) ∧ C11 ++ P1.map opV = C2 ∧ nx l cm1 b (e.2.1 k1) ∧ (∀ i, i < b ∨ (4 < l ∧ i = b) → cm1 i = cm i) ∧ C2.length + W.length ≤ k1 ∧ k1 ≤ e.1 ∧ k < k1 ∧ ∀ m, gd C m → gd C2 (m + 1)) := by
    intro m
    induction m with
    | zero =>
      intro k' ib' P cm' C1 C' hm hR hP hC hn hag hle hke hkk hgd
      refine Or.inr ⟨k', ib', P, cm', C1, C', rfl, hR, hP, hC, Or.inl ?_, hag, hle, hke, hkk, hgd⟩
      rw [hE.2.2.1 k' (by omega), rk_0]
      omega
    | succ m ih =>
      intro k' ib' P cm' C1 C' hm hR hP hC hn hag hle hke hkk hgd
      by_cases hr : rkF (sgN (e.2.1 k')) = l
      · obtain ⟨g0, g1, -, -, g3, g9, -, -, gs, gn, gp⟩ := sg_ok hr (by omega)
        have hlt := hE.lt g1
        have hst := rS_sign (ib := ib') (o := o) (C' := C') hr (by omega) (show ¬ (l = 4 ∧ cm' b = true) by omega) hP hW0 hC
        have hR1 := hR.tr (Rch.st hst Rch.rf)
        rw [pL_s hr]
        have hin := hX (k' + 1) (decide (l < 3)) (sgN (e.2.1 k') :: W) b o (upB cm' b (decide (l = 4) || (decide (2 < l) && cm' b))) C' hof (fun w V h => by
          cases h
          rw [hr]
          split <;> omega) (by rw [List.length_cons]; omega) (by omega) (fun h => decide_eq_true (by omega)) (fun h1 h2 => absurd (of_decide_eq_true h2) (by omega)) (fun h => by
          unfold upB
          rw [if_pos rfl, decide_eq_false (by omega), decide_eq_false (by omega)]
          rfl)
        have hpb : pB e X (k', none, C') = pW (opV (sgN (e.2.1 k'))) (X (k' + 1, none, C')) := by
          unfold pB
          rw [pK_o hlt]
        rw [hpb]
        rcases hin with ⟨k2, p, C2, h1, h2⟩ | ⟨k2, ib2, P2, cm2, C12, C2, h1, h2, h3, h4, h5, h6, h7, h8, h9, h10⟩
        · rw [h1]
          obtain ⟨C3, h3⟩ := pW_f (v := opV (sgN (e.2.1 k'))) (k := k2) (p := p) (C := C2)
          rw [h3, pL_f]
          exact Or.inl ⟨k2, p, C3, rfl, pBad.tr hR1 h2⟩
        · rw [List.length_cons] at h7
          rw [h1, pW_o (by have := hE.1; omega)]
          refine ih k2 ib2 (P2 ++ [sgN (e.2.1 k')]) cm2 C12 (C2 ++ [opV (sgN (e.2.1 k'))]) (by omega) ?_ (fun w hw => ?_) ?_ h5 (fun i hi => ?_) ?_ h8 (by omega) (fun q hq => ?_)
          · rw [opn_app, show opn [sgN (e.2.1 k')] = 0 from by unfold opn; rw [if_neg (by omega)]; rfl, Nat.add_zero, List.append_assoc]
            exact hR1.tr h2
          · rcases List.mem_append.mp hw with q | q
            · have := h3 w q
              omega
            · rw [List.mem_singleton.mp q, hr]
              exact Nat.le_refl _
          · rw [List.map_append, ← List.append_assoc, h4]
            rfl
          · have h6' := h6 i (by omega)
            rw [h6']
            unfold upB
            by_cases q : i = b
            · rw [if_pos q, decide_eq_false (by omega), decide_eq_true (by omega), Bool.false_or, Bool.true_and, q]
              exact hag b (by omega)
            · rw [if_neg q]
              exact hag i (by omega)
          · rw [List.length_append, List.length_singleton]
            omega
          · exact (h10 (q + 1) (hgd q hq)).snoc gs (by rw [gn]; omega) (by rw [gp]; omega)
      · rw [pL_n hr]
        refine Or.inr ⟨k', ib', P, cm', C1, C', rfl, hR, hP, hC, ?_, hag, hle, hke, hkk, hgd⟩
        rcases hn with h | ⟨h1, h2, h3⟩
        · exact Or.inl (by omega)
        · exact Or.inr ⟨by omega, h2, h3⟩
  unfold lpF
  rcases hX k ib W b o cm C hof hW1 hlen hk (fun h => hib (by omega)) (fun h => h13 (by omega)) (fun h => hcm (by omega)) with ⟨k', p, C', h1, h2⟩ | ⟨k', ib', P, cm', C1, C', h1, h2, h3, h4, h5, h6, h7, h8, h9, h10⟩
  · rw [h1, pL_f]
    exact Or.inl ⟨k', p, C', rfl, h2⟩
  · rw [h1]
    exact loop e.1 k' ib' P cm' C1 C' (by omega) h2 (fun w hw => by have := h3 w hw; omega) h4 h5 (fun i hi => h6 i (by omega)) h7 h8 h9 h10
theorem Ag_cmp {e : tE} {f : Nat} {X : tS → tS} (hE : eOK e) (hX : Ag e 5 f X) : Ag e 4 f (cmpF e X) := by
  intro k ib W b o cm C hof hW hlen hk hib h13 hcm
  have hW0 : ∀ w V, W = w :: V → rkF w < 4 := fun w V h => by
    have := hW w V h
    rw [if_neg (by omega)] at this
    exact this
  have hc0 := hcm (Nat.le_refl _)
  unfold cmpF
  rcases hX k ib W b o cm C hof (fun w V h => by have := hW0 w V h; rw [if_neg (by omega)]; omega) hlen hk (fun h => absurd h (by omega)) (fun h => h13 (by omega)) (fun h => absurd h (by omega)) with ⟨k', p, C', h1, h2⟩ | ⟨k', ib', P, cm', C1, C', h1, h2, h3, h4, h5, h6, h7, h8, h9, h10⟩
  · rw [h1, if_neg (by rw [pT_f]; decide)]
    exact Or.inl ⟨k', p, C', rfl, h2⟩
  · rw [h1, pT_o]
    have hcb : cm' b = false := (h6 b (by omega)).trans hc0
    by_cases hr : rkF (sgN (e.2.1 k')) = 4
    · rw [if_pos (decide_eq_true hr)]
      obtain ⟨g0, g1, -, -, g3, g9, -, -, gs, gn, gp⟩ := sg_ok hr (by omega)
      have hlt := hE.lt g1
      have hst := rS_sign (ib := ib') (o := o) (C' := C') (b := b) (cm := cm') hr (by omega) (fun w => by rw [hcb] at w; exact absurd w.2 (by decide)) (fun w hw => by have := h3 w hw; omega) hW0 h4
      have hR1 := h2.tr (Rch.st hst Rch.rf)
      have hpb : pB e X (k', none, C') = pW (opV (sgN (e.2.1 k'))) (X (k' + 1, none, C')) := by
        unfold pB
        rw [pK_o hlt]
      rw [hpb]
      rcases hX (k' + 1) (decide (4 < 3)) (sgN (e.2.1 k') :: W) b o (upB cm' b (decide (4 = 4) || (decide (2 < 4) && cm' b))) C' hof (fun w V h => by
          cases h
          rw [hr]
          split <;> omega) (by rw [List.length_cons]; omega) (by omega) (fun h => absurd h (by omega)) (fun h1 h2 => absurd (of_decide_eq_true h2) (by omega)) (fun h => absurd h (by omega)) with ⟨k2, p, C2, a1, a2⟩ | ⟨k2, ib2, P2, cm2, C12, C2, a1, a2, a3, a4, a5, a6, a7, a8, a9, a10⟩
      · rw [a1]
        obtain ⟨C3, h3⟩ := pW_f (v := opV (sgN (e.2.1 k'))) (k := k2) (p := p) (C := C2)
        rw [h3]
        exact Or.inl ⟨k2, p, C3, rfl, pBad.tr hR1 a2⟩
      · rw [List.length_cons] at a7
        rw [a1, pW_o (by have := hE.1; omega)]
        refine Or.inr ⟨k2, ib2, P2 ++ [sgN (e.2.1 k')], cm2, C12, C2 ++ [opV (sgN (e.2.1 k'))], rfl, ?_, fun w hw => ?_, ?_, ?_, fun i hi => ?_, ?_, a8, by omega, fun q hq => ?_⟩
        · rw [opn_app, show opn [sgN (e.2.1 k')] = 0 from by unfold opn; rw [if_neg (by omega)]; rfl, Nat.add_zero, List.append_assoc]
          exact hR1.tr a2
        · rcases List.mem_append.mp hw with q | q
          · have := a3 w q
            omega
          · rw [List.mem_singleton.mp q, hr]
            exact Nat.le_refl _
        · rw [List.map_append, ← List.append_assoc, a4]
          rfl
        · rcases a5 with q | ⟨q, -⟩
          · by_cases z : rkF (sgN (e.2.1 k2)) = 4
            · refine Or.inr ⟨Nat.le_refl _, z, ?_⟩
              rw [a6 b (by omega)]
              unfold upB
              rw [if_pos rfl]
              rfl
            · exact Or.inl (by omega)
          · omega
        · rw [a6 i (by omega)]
          unfold upB
          rw [if_neg (by omega)]
          exact h6 i (by omega)
        · rw [List.length_append, List.length_singleton]
          omega
        · exact (a10 (q + 1) (h10 q hq)).snoc gs (by rw [gn]; omega) (by rw [gp]; omega)
    · rw [if_neg (by rw [decide_eq_false hr]; decide)]
      refine Or.inr ⟨k', ib', P, cm', C1, C', rfl, h2, fun w hw => by have := h3 w hw; omega, h4, ?_, fun i hi => h6 i (by omega), h7, h8, h9, h10⟩
      rcases h5 with q | ⟨q, -⟩
      · exact Or.inl (by omega)
      · omega
theorem pN_o {e : tE} {a k : Nat} {C : List Int32} : pN e a (k, none, C) = decide (e.2.1 k = a) := rfl
theorem pN_f {e : tE} {a k p : Nat} {C : List Int32} : pN e a (k, some p, C) = false := rfl
theorem pX_o {e : tE} {k : Nat} {C : List Int32} : pX e (k, none, C) = (k, some (e.2.2.1 k), C) := rfl
theorem pX_f {e : tE} {k p : Nat} {C : List Int32} : pX e (k, some p, C) = (k, some p, C) := rfl
theorem pE_f {e : tE} {a k p : Nat} {C : List Int32} : pE e a (k, some p, C) = (k, some p, C) := rfl
theorem Ag_not {e : tE} {f : Nat} {d2 Y : tS → tS} (hE : eOK e) (hd : 0 < f → Ag e 3 (f - 1) d2) (hY : Ag e 4 f Y) : Ag e 3 f (notF e f d2 Y) := by
  intro k ib W b o cm C hof hW hlen hk hib h13 hcm
  have hW0 : ∀ w V, W = w :: V → rkF w < 4 := fun w V h => by
    have := hW w V h
    rw [if_pos rfl] at this
    exact this
  have hi := hib (Nat.le_refl _)
  unfold notF
  rw [pN_o]
  by_cases t : e.2.1 k = 13
  · rw [if_pos (decide_eq_true t)]
    by_cases hf : 0 < f
    · rw [if_pos hf, pK_o (hE.lt (by omega))]
      have hst : rS e (k, true, ib, W, b, o, cm, C) = .inl (k + 1, true, ib, 3 :: W, b, o + 1, cm, C) := by
        unfold rS
        dsimp only
        rw [t, if_neg (by omega), if_neg (by omega), if_pos rfl, if_pos hi]
      have hlt := hE.lt (k := k) (by omega)
      rcases hd hf (k + 1) ib (3 :: W) b (o + 1) cm C (by omega) (fun w V h => by cases h; decide) (by rw [List.length_cons]; omega) (by omega) (fun _ => hi) (fun h => absurd h (by omega)) (fun h => hcm (by omega)) with ⟨k2, p, C2, a1, a2⟩ | ⟨k2, ib2, P2, cm2, C12, C2, a1, a2, a3, a4, a5, a6, a7, a8, a9, a10⟩
      · rw [a1]
        obtain ⟨C3, h3⟩ := pW_f (v := opV 3) (k := k2) (p := p) (C := C2)
        rw [h3]
        exact Or.inl ⟨k2, p, C3, rfl, pBad.tr (Rch.st hst Rch.rf) a2⟩
      · rw [List.length_cons] at a7
        rw [a1, pW_o (by have := hE.1; omega)]
        refine Or.inr ⟨k2, ib2, P2 ++ [3], cm2, C12, C2 ++ [opV 3], rfl, ?_, fun w hw => ?_, ?_, a5, a6, ?_, a8, by omega, fun q hq => ?_⟩
        · rw [opn_app, show opn [3] = 1 from rfl, List.append_assoc, show o + (opn P2 + 1) = o + 1 + opn P2 by omega]
          exact Rch.st hst a2
        · rcases List.mem_append.mp hw with q | q
          · exact a3 w q
          · rw [List.mem_singleton.mp q]
            decide
        · rw [List.map_append, ← List.append_assoc, a4]
          rfl
        · rw [List.length_append, List.length_singleton]
          omega
        · exact (a10 q hq).snoc (by unfold stp; decide) (by show 1 ≤ q + 1; omega) (by show ((q + 1 : Nat) : Int) = ((q + 1 : Nat) : Int) + 0; omega)
    · rw [if_neg hf, pX_o]
      refine Or.inl ⟨k, e.2.2.1 k, C, rfl, _, C, Rch.rf, ?_, rfl⟩
      unfold rS
      dsimp only
      rw [t, if_neg (by omega), if_pos (by omega)]
  · rw [if_neg (by rw [decide_eq_false t]; decide)]
    rcases hY k ib W b o cm C hof (fun w V h => by have := hW0 w V h; rw [if_neg (by omega)]; exact this) hlen hk (fun h => absurd h (by omega)) (fun _ _ => t) (fun _ => hcm (by omega)) with h | ⟨k', ib', P, cm', C1, C', h1, h2, h3, h4, h5, h6, h7, h8, h9, h10⟩
    · exact Or.inl h
    · refine Or.inr ⟨k', ib', P, cm', C1, C', h1, h2, fun w hw => by have := h3 w hw; omega, h4, ?_, fun i hi => h6 i (by omega), h7, h8, h9, h10⟩
      rcases h5 with q | ⟨q, q2, q3⟩
      · have := (rk_le (e.2.1 k')).2
        exact Or.inl (by omega)
      · exact Or.inr ⟨by omega, q2, q3⟩
theorem vl_ok {e : tE} (hE : eOK e) {k : Nat} (h : e.2.1 k = 1 ∨ (3 ≤ e.2.1 k ∧ e.2.1 k ≤ 8)) : stp (vlN e k) ∧ ndS (vlN e k) = 0 ∧ dpS (vlN e k) = 1 := by
  have key : ∀ a, a < 6 → stp (10000 + nI a) ∧ ndS (10000 + nI a) = 0 ∧ dpS (10000 + nI a) = 1 := by
    intro a ha
    unfold stp
    rcases (show a = 0 ∨ a = 1 ∨ a = 2 ∨ a = 3 ∨ a = 4 ∨ a = 5 by omega) with rfl | rfl | rfl | rfl | rfl | rfl <;> decide
  unfold vlN
  by_cases q : e.2.1 k = 1
  · rw [if_pos q]
    have h1 := hE.2.2.2 k q
    refine ⟨Or.inl h1, ?_, ?_⟩
    · unfold ndS
      rw [if_pos h1.1]
    · unfold dpS
      rw [if_pos h1.1]
  · rw [if_neg q]
    exact key _ (by omega)
theorem Ag_one {e : tE} {f : Nat} {d1 d3 : tS → tS} (hE : eOK e) (h1 : 0 < f → Ag7 e (f - 1) d1) (h3 : 0 < f → Ag e 1 (f - 1) d3) : Ag7 e f (oneF e f d1 d3) := by
  intro k ib W b o cm C hof hlen hk h13
  unfold oneF
  dsimp only
  rw [if_neg (fun w => w rfl)]
  by_cases t1 : e.2.1 k = 1 ∨ (3 ≤ e.2.1 k ∧ e.2.1 k ≤ 8)
  · have hlt := hE.lt (k := k) (by omega)
    rw [if_pos t1, pW_o (by have := hE.1; omega), pK_o hlt]
    obtain ⟨v1, v2, v3⟩ := vl_ok hE t1
    refine Or.inr ⟨k + 1, ib, cm, C ++ [vlN e k], rfl, Rch.st ?_ Rch.rf, fun i _ => rfl, ?_, by omega, by omega, fun m hm => hm.snoc v1 (by rw [v2]; omega) (by rw [v3]; omega)⟩
    · unfold rS
      dsimp only
      rw [if_pos t1]
    · rw [List.length_append, List.length_singleton]
      omega
  · rw [if_neg t1]
    by_cases t2 : e.2.1 k = 45 ∧ 0 < f
    · have hlt := hE.lt (k := k) (by omega)
      rw [if_pos t2, pK_o hlt]
      have hst : rS e (k, true, ib, W, b, o, cm, C) = .inl (k + 1, true, false, 9 :: W, b, o + 1, cm, C) := by
        unfold rS
        dsimp only
        rw [if_neg t1, if_neg (by omega), if_neg (by omega), if_pos t2.1]
      rcases h1 t2.2 (k + 1) false (9 :: W) b (o + 1) cm C (by omega) (by rw [List.length_cons]; omega) (by omega) (fun h => absurd h (by decide)) with ⟨k2, p, C2, a1, a2⟩ | ⟨k2, ib2, cm2, C2, a1, a2, a6, a7, a8, a9, a10⟩
      · rw [a1]
        obtain ⟨C3, h3⟩ := pW_f (v := opV 9) (k := k2) (p := p) (C := C2)
        rw [h3]
        exact Or.inl ⟨k2, p, C3, rfl, pBad.tr (Rch.st hst Rch.rf) a2⟩
      · rw [List.length_cons] at a7
        rw [a1, pW_o (by have := hE.1; omega)]
        have hs : stl 7 (9 :: W) C2 (o + 1) = stl 7 W (C2 ++ [opV 9]) o := rfl
        rw [hs] at a2
        refine Or.inr ⟨k2, ib2, cm2, C2 ++ [opV 9], rfl, Rch.st hst a2, a6, ?_, a8, by omega, fun q hq => ?_⟩
        · rw [List.length_append, List.length_singleton]
          omega
        · exact (a10 q hq).snoc (by unfold stp; decide) (by show 1 ≤ q + 1; omega) (by show ((q + 1 : Nat) : Int) = ((q + 1 : Nat) : Int) + 0; omega)
    · rw [if_neg t2]
      by_cases t3 : e.2.1 k = 40 ∧ 0 < f
      · have hlt := hE.lt (k := k) (by omega)
        rw [if_pos t3, pK_o hlt]
        have hst : rS e (k, true, ib, W, b, o, cm, C) = .inl (k + 1, true, true, 10 :: W, b + 1, o + 1, upB cm (b + 1) false, C) := by
          unfold rS
          dsimp only
          rw [if_neg t1, if_neg (by omega), if_neg (by omega), if_neg (by omega), if_pos t3.1]
        rcases h3 t3.2 (k + 1) true (10 :: W) (b + 1) (o + 1) (upB cm (b + 1) false) C (by omega) (fun w V h => by cases h; decide) (by rw [List.length_cons]; omega) (by omega) (fun _ => rfl) (fun h => absurd h (by omega)) (fun _ => by unfold upB; rw [if_pos rfl]) with ⟨k2, p, C2, a1, a2⟩ | ⟨k2, ib2, P2, cm2, C12, C2, a1, a2, a3, a4, a5, a6, a7, a8, a9, a10⟩
        · rw [a1, pE_f]
          exact Or.inl ⟨k2, p, C2, rfl, pBad.tr (Rch.st hst Rch.rf) a2⟩
        · rw [List.length_cons] at a7
          rw [a1]
          have hR := Rch.st hst a2
          have hs : stl 1 (P2 ++ 10 :: W) C12 (o + 1 + opn P2) = (10 :: W, C2, o + 1) := by
            rw [stl_app P2 _ C12 (o + 1) a3, a4, stl_bs (fun w V h => by cases h; decide)]
          unfold pE
          rw [pN_o]
          by_cases t4 : e.2.1 k2 = 41
          · have hlt2 := hE.lt (k := k2) (by omega)
            rw [if_pos (decide_eq_true t4), pK_o hlt2]
            refine Or.inr ⟨k2 + 1, ib2, cm2, C2, rfl, hR.tr (Rch.st ?_ Rch.rf), fun i hi => ?_, by omega, by omega, by omega, a10⟩
            · unfold rS
              dsimp only
              rw [t4, if_neg (by omega), if_pos rfl, if_neg (by omega), hs]
              rfl
            · rw [a6 i (by omega)]
              unfold upB
              rw [if_neg (by omega)]
          · rw [if_neg (by rw [decide_eq_false t4]; decide), pX_o]
            refine Or.inl ⟨k2, e.2.2.1 k2, C2, rfl, ?_⟩
            by_cases t5 : e.2.1 k2 = 59
            · refine ⟨_, C2, hR, ?_, rfl⟩
              unfold rS
              dsimp only
              rw [if_pos t5, hs]
              rfl
            · refine ⟨_, C12, hR, ?_, rfl⟩
              unfold rS
              dsimp only
              rw [if_neg t5, if_neg t4, if_pos]
              rcases a5 with q | ⟨-, q2, q3⟩
              · left
                rcases rk_sg (e.2.1 k2) with ⟨-, g⟩ | ⟨-, g⟩ | ⟨-, g⟩ | ⟨-, g⟩ | ⟨-, g⟩ | ⟨-, g⟩ | ⟨-, g⟩ | ⟨-, g, -⟩
                all_goals first | exact g | omega
              · exact Or.inr ⟨q2, q3⟩
      · rw [if_neg t3, pX_o]
        refine Or.inl ⟨k, e.2.2.1 k, C, rfl, _, C, Rch.rf, ?_, rfl⟩
        unfold rS
        dsimp only
        rw [if_neg t1]
        by_cases t4 : o = 5
        · rw [if_pos t4]
        · rw [if_neg t4]
          by_cases t5 : e.2.1 k = 13
          · rw [if_pos t5, if_neg (fun w => h13 w t5)]
          · rw [if_neg t5, if_neg (fun w => t2 ⟨w, by omega⟩), if_neg (fun w => t3 ⟨w, by omega⟩)]
theorem Ag_77 {e : tE} {f : Nat} {X : tS → tS} (h : Ag7 e f X) : Ag e 7 f X := by
  intro k ib W b o cm C hof hW hlen hk hib h13 hcm
  have hs : ∀ C o, stl 7 W C o = (W, C, o) := fun C o => stl_bs (fun w V h => by
    have := hW w V h
    rw [if_neg (by omega)] at this
    exact this)
  rcases h k ib W b o cm C hof hlen hk (h13 (by omega)) with q | ⟨k2, ib2, cm2, C2, a1, a2, a6, a7, a8, a9, a10⟩
  · exact Or.inl q
  · rw [hs] at a2
    exact Or.inr ⟨k2, ib2, [], cm2, C2, C2, a1, a2, fun w hw => absurd hw List.not_mem_nil, List.append_nil _, Or.inl (rk_le _).1, fun i hi => a6 i (by omega), a7, a8, a9, a10⟩
theorem Ag_all {e : tE} (hE : eOK e) : ∀ f, Ag7 e f (lvF e f).1 ∧ Ag e 3 f (lvF e f).2.1 ∧ Ag e 1 f (lvF e f).2.2 := by
  have mk : ∀ f g, (0 < f → Ag7 e (f - 1) g.1) → (0 < f → Ag e 3 (f - 1) g.2.1) → (0 < f → Ag e 1 (f - 1) g.2.2) → Ag7 e f (trL e f g).1 ∧ Ag e 3 f (trL e f g).2.1 ∧ Ag e 1 f (trL e f g).2.2 := by
    intro f g h1 h2 h3
    have a1 := Ag_one hE h1 h3
    have a2 := Ag_not hE h2 (Ag_cmp hE (Ag_lp (l := 5) hE (by omega) (Ag_lp (l := 6) hE (by omega) (Ag_77 a1))))
    exact ⟨a1, a2, Ag_lp (l := 1) hE (by omega) (Ag_lp (l := 2) hE (by omega) a2)⟩
  intro f
  induction f with
  | zero => exact mk 0 _ (fun h => absurd h (by omega)) (fun h => absurd h (by omega)) (fun h => absurd h (by omega))
  | succ f ih => exact mk (f + 1) _ (fun _ => ih.1) (fun _ => ih.2.1) (fun _ => ih.2.2)
