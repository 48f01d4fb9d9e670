/-! ===== rows of the law's own body ===== -/
section LWK
variable {G : cG} {mi : Nat} {p : Program} {e : Env} {Rm : Room} {s : State} {m : MethodId} {args : Array Value} {below : List Frame} {meth : Method} {c : Code} {n0 : Nat} {Z : State → Prop} {pc : Nat} {ls : List (Option Value)} {st : List Value} {n : Nat} {I : MI} {L : ML} {R : MR} {N : Nat} {xs : Nat → Int32}
/-- the script, beyond what the run makes -/
def ScOK (G : cG) (s : State) (N : Nat) (xs : Nat → Int32) : Prop := va_X (gA G 1060) N xs s s.heap ∧ gA G 1060 < gB G ∧ N ≤ 3072
theorem K_sld (F : FrOK G mi p s m meth c args) (hX : ScOK G s N xs) {i : Int32} (hin : vp_in i N) (hd : decode (mcc mi) pc = .ok (.iaload, 1)) (kk : KK G p e Rm s m args below meth c n0 Z (pc + 1) ls (.int (xs i.toNatClampNeg) :: st) n I L R) : KK G p e Rm s m args below meth c n0 Z pc ls (.int i :: .ref 1060 :: st) n I L R := by
  intro H locs arr h1 h2 h3 h4
  have k9 := kk H locs arr h1 h2 h3 h4
  obtain ⟨⟨scr, x1, x2, x3, x4, x5⟩, hb, -⟩ := hX
  have hcell : H[ad G 1060]? = some scr := by
    rw [ad_hi (by omega), h2.2.2.1 _ hb, ← F.2.2.2.2.2.2.2.2.2.1 _ hb]
    exact x1
  have hlt : i.toNatClampNeg < N := Nat.not_le.mp fun q => hin (Or.inr q)
  exact W.iald (v := .int (xs i.toNatClampNeg)) F.1 F.2.1 hcell x2 x3 (by rw [x4]; exact hin) (x5 _ hlt) rfl rfl hd k9
theorem K_slen (F : FrOK G mi p s m meth c args) (hX : ScOK G s N xs) (hd : decode (mcc mi) pc = .ok (.arraylength, 1)) (kk : KK G p e Rm s m args below meth c n0 Z (pc + 1) ls (.int (nI N) :: st) n I L R) : KK G p e Rm s m args below meth c n0 Z pc ls (.ref 1060 :: st) n I L R := by
  intro H locs arr h1 h2 h3 h4
  have k9 := kk H locs arr h1 h2 h3 h4
  obtain ⟨⟨scr, x1, x2, x3, x4, x5⟩, hb, -⟩ := hX
  have hcell : H[ad G 1060]? = some scr := by
    rw [ad_hi (by omega), h2.2.2.1 _ hb, ← F.2.2.2.2.2.2.2.2.2.1 _ hb]
    exact x1
  exact W.alen (n := nI N) F.1 F.2.1 hcell x2 (by rw [x4]; rfl) rfl rfl hd k9
theorem nI_ad {i k : Nat} : nI i + nI k = nI (i + k) := by
  induction k with
  | zero => show nI i + 0 = nI i; exact Int32.add_zero _
  | succ k ih => rw [← Nat.add_assoc, nI_succ, nI_succ, ← ih, Int32.add_assoc]
theorem K_arg (F : FrOK G mi p s m meth c args) (hX : ScOK G s N xs) {i k : Nat} {ki : Int} (hik : i + k < N) (hki : Int32.ofInt ki = nI k) (l0 : lG ls 0 = some (.ref 1060)) (l3 : lG ls 3 = some (.int (nI i))) (d0 : decode (mcc mi) pc = .ok (.aload_n 0, 1)) (d1 : decode (mcc mi) (pc + 1) = .ok (.iload_n 3, 1)) (d2 : decode (mcc mi) (pc + 2) = .ok (.iconst ki, 1)) (d3 : decode (mcc mi) (pc + 3) = .ok (.iadd, 1)) (d4 : decode (mcc mi) (pc + 4) = .ok (.iaload, 1)) (kk : KK G p e Rm s m args below meth c n0 Z (pc + 5) ls (.int (xs (i + k)) :: st) n I L R) : KK G p e Rm s m args below meth c n0 Z pc ls st n I L R := by
  have hN := hX.2.2
  refine K_aload_n F (k := 0) d0 l0 (K_iload_n F (k := 3) d1 l3 (K_iconst F d2 (K_iadd F d3 ?_)))
  rw [hki, nI_ad]
  refine K_sld F hX (vp_nI (by omega) (by omega) |>.mpr trivial) d4 ?_
  rw [cl_nI (by omega)]
  exact kk
end LWK
section LWO
variable {G : cG} {p : Program} {e : Env} {Rm : Room} {s : State} {m : MethodId} {args : Array Value} {below : List Frame} {meth : Method} {c : Code} {Z : State → Prop} {xs : Nat → Int32}
def lwL (x : Int32) : List (Option Value) := [some (.ref 1060), some (.ref 0), some (.ref 97), some (.int x)]
/-- at pc, both sides alike, the law comes to its end -/
def GO (G : cG) (p : Program) (e : Env) (Rm : Room) (s : State) (m : MethodId) (args : Array Value) (below : List Frame) (meth : Method) (c : Code) (Z : State → Prop) (pc i : Nat) : Prop := ∀ (I : MI) (L : ML) (c0 : Nat), LI I L c0 → KK G p e Rm s m args below meth c 0 Z pc (lwL (nI i)) [] 145 I L (rR c0)
/-- a call on the class's side or the reference's -/
theorem K_cl (F : FrOK G 285 p s m meth c args) (hrm : RmOK Rm 100 0 145) {pc ix mj na a : Nat} {as rest : List Value} {n : Nat} {I : MI} {L : ML} {R : MR} {Q : tQ} {y0 : Int32} (hn : n = 145) (hd : decode (mcc 285) pc = .ok (.invokevirtual ix, 3)) (hr : mr (mci 285) ix = some (mj, na, 0)) (hj : mj < 268) (hsl : slN (.ref a :: as) ≤ mnl mj) (hnl : mnl mj ≤ 20) (hmal : mal mj = 0) (hcs : cS rest ≤ 8) (hna : as.length = na) (ha : a < 145) (hk : kK a = (10, mci mj)) (hV : CK G 100 mj (.ref a :: as) n I L R Q) (kk : ∀ (v : Option Value) (I' : MI) (L' : ML) (R' : MR), Q v 145 I' L' R' → KK G p e Rm s m args below meth c 0 Z (pc + 3) (lwL y0) (v.toList ++ rest) 145 I' L' R') : KK G p e Rm s m args below meth c 0 Z pc (lwL y0) ((.ref a :: as).reverse ++ rest) n I L R := by
  subst hn
  have hV2 : V G 100 mj 145 0 (eL (.ref a :: as) (mnl mj)) [] 145 I L R Q := by
    have h := hV
    unfold CK at h
    rw [hmal] at h
    exact h
  exact K_call (d := 100) (mode := 0) (n1 := 145) (N1 := 145) (as := .ref a :: as) F (by decide) hd hr (by omega) (MP_all mj hj) hsl hnl hrm (Nat.le_refl _) (Nat.le_refl _) hcs (Or.inr (Or.inr ⟨rfl, a, as, rfl, hna, ha, hk⟩)) hV2 kk
end LWO
