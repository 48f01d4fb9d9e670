
/-! words of a method, by program -/
def mpC (i : Nat) : Bool := match mpL[i]? with
  | some (p, pk, ps, pi, k, na) => decide (wd pi = some (.initialized (my i).cls)) &&
      (if k = 1 then decide (wd pk = some (.static (my i))) else decide (wd pk = some (.instanceMethod (my i))) && ((my i).name == "<init>" || decide (wd ps = some (.selects (my i).cls (my i) (my i))))) &&
      decide ((my i).cls ≠ "java/lang/invoke/MethodHandle") && decide ((my i).cls ≠ "java/lang/invoke/VarHandle") && decide ((parseMethodDescriptor (my i).desc).map (fun d => d.parameters.length) = some na) && plainName (my i).cls
  | none => false

theorem mpC_j268 : mpC 268 = true := by decide +kernel
theorem mpC_j269 : mpC 269 = true := by decide +kernel
theorem mpC_j273 : mpC 273 = true := by decide +kernel
theorem mpC_j274 : mpC 274 = true := by decide +kernel
theorem mpC_j275 : mpC 275 = true := by decide +kernel
theorem mpC_j276 : mpC 276 = true := by decide +kernel
theorem mpC_j277 : mpC 277 = true := by decide +kernel
theorem mpC_j278 : mpC 278 = true := by decide +kernel
theorem mpC_j283 : mpC 283 = true := by decide +kernel
theorem mpC_j284 : mpC 284 = true := by decide +kernel
set_option maxRecDepth 100000 in
theorem mpC_0 : (List.range' 0 24).all mpC = true := by decide +kernel
set_option maxRecDepth 100000 in
theorem mpC_24 : (List.range' 24 24).all mpC = true := by decide +kernel
set_option maxRecDepth 100000 in
theorem mpC_48 : (List.range' 48 24).all mpC = true := by decide +kernel
set_option maxRecDepth 100000 in
theorem mpC_72 : (List.range' 72 24).all mpC = true := by decide +kernel
set_option maxRecDepth 100000 in
theorem mpC_96 : (List.range' 96 24).all mpC = true := by decide +kernel
set_option maxRecDepth 100000 in
theorem mpC_120 : (List.range' 120 24).all mpC = true := by decide +kernel
set_option maxRecDepth 100000 in
theorem mpC_144 : (List.range' 144 24).all mpC = true := by decide +kernel
set_option maxRecDepth 100000 in
theorem mpC_168 : (List.range' 168 24).all mpC = true := by decide +kernel
set_option maxRecDepth 100000 in
theorem mpC_192 : (List.range' 192 24).all mpC = true := by decide +kernel
set_option maxRecDepth 100000 in
theorem mpC_216 : (List.range' 216 24).all mpC = true := by decide +kernel
set_option maxRecDepth 100000 in
theorem mpC_240 : (List.range' 240 24).all mpC = true := by decide +kernel
set_option maxRecDepth 100000 in
theorem mpC_264 : (List.range' 264 4).all mpC = true := by decide +kernel

def MP (i : Nat) : Prop := Cond.code (my i) (mcc i) (mnl i) (mrt i) ∈ lw_tbl ∧ mpC i = true
theorem mp_facts {i : Nat} (hh : MP i) : ∃ p pk ps pi k na, mpL[i]? = some (p, pk, ps, pi, k, na) ∧ Cond.code (my i) (mcc i) (mnl i) (mrt i) ∈ lw_good ∧ Cond.initialized (my i).cls ∈ lw_good ∧ (k = 1 → Cond.static (my i) ∈ lw_good) ∧ (k ≠ 1 → Cond.instanceMethod (my i) ∈ lw_good ∧ ((my i).name ≠ "<init>" → Cond.selects (my i).cls (my i) (my i) ∈ lw_good)) ∧ ((my i).cls ≠ "java/lang/invoke/MethodHandle" ∧ (my i).cls ≠ "java/lang/invoke/VarHandle") ∧ (parseMethodDescriptor (my i).desc).map (fun d => d.parameters.length) = some na ∧ plainName (my i).cls = true := by
  obtain ⟨hcd, h⟩ := hh
  unfold mpC at h
  cases hv : mpL[i]? with
  | none => rw [hv] at h; cases h
  | some x =>
    obtain ⟨p, pk, ps, pi, k, na⟩ := x
    rw [hv] at h
    simp only [Bool.and_eq_true, decide_eq_true_eq] at h
    obtain ⟨⟨⟨⟨⟨h2, h3⟩, h4⟩, h5⟩, h6⟩, h7⟩ := h
    refine ⟨p, pk, ps, pi, k, na, rfl, List.mem_filter.mpr ⟨hcd, rfl⟩, lw_mem h2 rfl, fun hk => ?_, fun hk => ?_, ⟨h4, h5⟩, h6, h7⟩
    · rw [if_pos hk] at h3
      exact lw_mem (of_decide_eq_true h3) rfl
    · rw [if_neg hk] at h3
      simp only [Bool.and_eq_true, Bool.or_eq_true, decide_eq_true_eq] at h3
      refine ⟨lw_mem h3.1 rfl, fun hn => ?_⟩
      rcases h3.2 with q | q
      · exact absurd (beq_iff_eq.mp q) hn
      · exact lw_mem q rfl
/-- arguments as locals -/
def eL : List Value → Nat → List (Option Value)
  | [], n => List.replicate n none
  | .long x :: l, n + 2 => some (.long x) :: none :: eL l n
  | .int x :: l, n + 1 => some (.int x) :: eL l n
  | .ref x :: l, n + 1 => some (.ref x) :: eL l n
  | _ :: _, _ => []
theorem eL_args (G : cG) : ∀ (vs : List Value) (n k i : Nat) (v : Value), lG (eL vs n) i = some v → (k + i, cv G v) ∈ lv_args k (vs.map (cv G)) := by
  intro vs
  induction vs with
  | nil =>
    intro n k i v h
    exfalso
    have : ∀ (n i : Nat), lG (List.replicate n (none : Option Value)) i = none := by
      intro n
      induction n with
      | zero => intro i; rfl
      | succ n ih =>
        intro i
        cases i with
        | zero => rfl
        | succ i => exact ih i
    rw [show eL [] n = List.replicate n none from rfl, this] at h
    cases h
  | cons x l ih =>
    intro n k i v h
    cases x with
    | int x =>
      cases n with
      | zero => cases h
      | succ n =>
        cases i with
        | zero => cases h; exact List.mem_cons_self
        | succ i =>
          have := ih n (k + 1) i v h
          rw [show k + (i + 1) = k + 1 + i by omega]
          exact List.mem_cons_of_mem _ this
    | ref x =>
      cases n with
      | zero => cases h
      | succ n =>
        cases i with
        | zero => cases h; exact List.mem_cons_self
        | succ i =>
          have := ih n (k + 1) i v h
          rw [show k + (i + 1) = k + 1 + i by omega]
          exact List.mem_cons_of_mem _ this
    | long x =>
      match n with
      | 0 => cases h
      | 1 => cases h
      | n + 2 =>
        match i with
        | 0 => cases h; exact List.mem_cons_self
        | 1 => cases h
        | i + 2 =>
          have := ih n (k + 2) i v h
          rw [show k + (i + 2) = k + 2 + i by omega]
          exact List.mem_cons_of_mem _ this
    | float x => cases n <;> cases h
    | double x => cases n <;> cases h
    | null => cases n <;> cases h
    | retAddr x => cases n <;> cases h
def slN : List Value → Nat
  | [] => 0
  | .long _ :: l => 2 + slN l
  | .double _ :: l => 2 + slN l
  | _ :: l => 1 + slN l
theorem slN_lg (G : cG) : ∀ vs : List Value, (lg_sl (vs.map (cv G))).length = slN vs := by
  intro vs
  induction vs with
  | nil => rfl
  | cons x l ih =>
    have : lg_sl ((x :: l).map (cv G)) = (if (cv G x).category = 2 then [Slot.val (cv G x), .second] else [.val (cv G x)]) ++ lg_sl (l.map (cv G)) := rfl
    rw [this, List.length_append, ih]
    cases x <;> rfl
theorem EnvOK.warm {G : cG} {s U : State} (hW : s.WarmedH U.vm) (h : EnvOK G s) : EnvOK G U := by
  obtain ⟨h1, h2, ⟨a1, a2, a3⟩, h4, h5, h6, h7, h8, h9⟩ := h
  refine ⟨h1.moved hW.alike, fun w hw => ?_, ⟨a1.moved hW.alike, a2.moved hW.alike, a3.moved hW.alike⟩, fun k hk => (h4 k hk).moved hW.alike, fun k hk => ?_, h6.moved hW.alike, h7.moved hW.alike, ?_, h9.moved hW.alike⟩
  · have hn := (List.mem_filter.mp hw).2
    have hz := h2 w hw
    cases w <;> simp [isNestW] at hn
    exact va_Nw.warmM hW hz
  · obtain ⟨z1, z2⟩ := h5 k hk
    have := vk_R.warm hW (⟨z1, z2⟩ : vk_R _ _ _ _ s)
    exact this
  · have h := (Cond.arrayOver_setVmC (args := #[]) hW.alike (.array .int)).trans h8
    exact h
theorem EnvOK.calling {G : cG} {U : State} {g : JFrame} {mk : MethodId} {a : Array Value} (h : EnvOK G U) : EnvOK G (U.calling g mk a) := by
  obtain ⟨h1, h2, ⟨a1, a2, a3⟩, h4, h5, h6, h7, h8, h9⟩ := h
  have hv : U.vm.Alike (U.calling g mk a).vm := Vm.Alike.refl U.vm
  refine ⟨h1.moved hv, fun w hw => ?_, ⟨a1.moved hv, a2.moved hv, a3.moved hv⟩, fun k hk => (h4 k hk).moved hv, fun k hk => ?_, h6.moved hv, h7.moved hv, ?_, h9.moved hv⟩
  · have hn := (List.mem_filter.mp hw).2
    have hz := h2 w hw
    cases w <;> simp [isNestW] at hn
    exact va_Nw.same rfl rfl hz
  · obtain ⟨z1, z2⟩ := h5 k hk
    have := vk_R.same (U := U.calling g mk a) rfl (⟨z1, z2⟩ : vk_R _ _ _ _ U)
    exact this
  · exact h8
/-! the contract's form, and the judgement inside a method -/
def rmV (d k w : Nat) : Room := { frames := d, cells := k, slots := w, locals := 40 * d }
def QV (G : cG) (n1 : Nat) (Q : Option Value → Nat → MI → ML → MR → Prop) : Array Value → State → Outcome → State → Prop := fun _ _ o t => ∃ (v : Option Value) (I : MI) (L : ML) (R : MR), o = .returned (v.map (cv G)) ∧ Q v n1 I L R ∧ WD G n1 I L R t.heap
def V (G : cG) (d mi n1 pc : Nat) (ls : List (Option Value)) (st : List Value) (n : Nat) (I : MI) (L : ML) (R : MR) (Q : Option Value → Nat → MI → ML → MR → Prop) : Prop :=
  ∀ (p : Program) (e : Env) (s : State) (m : MethodId) (args : Array Value) (below : List Frame) (meth : Method) (c : Code) (n0 : Nat), FrOK G mi p s m meth c args → s.heap.size = gB G + n0 → n0 ≤ n1 →
    KK G p e (rmV d (n1 - n0) (szL n1 - szL n0)) s m args below meth c n0 (MQ below (QV G n1 Q) args s (n1 - n0) (szL n1 - szL n0) (fun q => gB G ≤ q)) pc ls st n I L R
theorem szL_mono {a b : Nat} (h : a ≤ b) : szL a ≤ szL b := by
  induction b with
  | zero => rw [show a = 0 by omega]; exact Nat.le_refl _
  | succ b ih =>
    by_cases q : a = b + 1
    · rw [q]; exact Nat.le_refl _
    · exact Nat.le_trans (ih (by omega)) (Nat.le_add_right _ _)
def cS : List Value → Nat
  | [] => 0
  | .long _ :: l => 2 + cS l
  | .double _ :: l => 2 + cS l
  | _ :: l => 1 + cS l
theorem cS_cat (G : cG) : ∀ l : List Value, ((l.map (cv G)).map fun v => v.category).sum = cS l := by
  intro l
  induction l with
  | nil => rfl
  | cons x l ih =>
    rw [List.map_cons, List.map_cons, List.sum_cons, ih]
    cases x <;> rfl
theorem Met_of_V {G : cG} {d mj n1 n : Nat} {args : List Value} {I : MI} {L : ML} {R : MR} {Q : Option Value → Nat → MI → ML → MR → Prop} (hc : MP mj) (hsl : slN args ≤ mnl mj) (hn : n ≤ n1)
    (hV : V G d mj n1 0 (eL args (mnl mj)) [] n I L R Q) :
    Met (gL G) (my mj) (.code (my mj) (mcc mj) (mnl mj) (mrt mj) :: lw_good) (rmV d (n1 - n) (szL n1 - szL n)) (va_Pc (args.map (cv G)) (fun U => EnvOK G U ∧ WD G n I L R U.heap)) (QV G n1 Q) (n1 - n) (szL n1 - szL n) (fun q => gB G ≤ q) := by
  obtain ⟨p, pk, ps, pi, k, na, -, hcode, hini, hst, hin, hcls, hna, hpl⟩ := mp_facts hc
  refine Met.ofW (cc := mcc mj) (maxL := mnl mj) (ret := mrt mj) hpl rfl ?_
  intro p e s m as below meth c s₁ B hml hv
  obtain ⟨rfl, hE, hWD⟩ := hv
  have hts := atoms_spec B.pre
  have hown : s.vm.findClass (my mj).cls = some m.cls := findClass_of_methodNamed B.named
  have hnm : meth.name = (my mj).name := (name_of_methodNamed B.named B.method).1
  have F : FrOK G mj p s m meth c (args.map (cv G)).toArray := ⟨B.exec, B.bytes, hml, B.returns, B.notSynchronized, hnm, hown, fun w hw => hts w (List.mem_cons_of_mem _ hw), hE, hWD.2.2.1, by rw [hWD.1]; exact Nat.le_add_right _ _⟩
  have hl := lv_entry (args.map (cv G)) (n := mnl mj) (by rw [slN_lg]; exact hsl)
  rw [lg_entry_eq]
  have h1 : lvR G ((lg_sl (args.map (cv G)) ++ List.replicate (mnl mj - (lg_sl (args.map (cv G))).length) Slot.unset).toArray) c.maxLocals (eL args (mnl mj)) := by
    refine ⟨by rw [hml]; exact hl.1, hl.2.1, fun i v hi => ?_⟩
    have := eL_args G args (mnl mj) 0 i v hi
    rw [Nat.zero_add] at this
    exact hl.2.2 _ this
  have := hV p e s m (args.map (cv G)).toArray below meth c n F hWD.1 hn s.heap [] _ h1 hWD (fun q h => by cases h) (Nat.le_refl _)
  rw [Nat.sub_self, Nat.sub_self] at this
  exact this
section KCALL
variable {G : cG} {mi : Nat} {p : Program} {e : Env} {Rm : Room} {s : State} {m : MethodId} {args : Array Value} {below : List Frame} {meth : Method} {c : Code} {n0 : Nat} {Z : State → Prop} {pc : Nat} {ls : List (Option Value)} {st : List Value} {n : Nat} {I : MI} {L : ML} {R : MR}
def RmOK (Rm : Room) (d n0 N1 : Nat) : Prop := d + 1 ≤ Rm.frames ∧ 40 * d + 40 ≤ Rm.locals ∧ N1 - n0 ≤ Rm.cells ∧ szL N1 - szL n0 ≤ Rm.slots
theorem run_K {mc ms : Nat} {rest : List Value} {n1 : Nat} {Q : Option Value → Nat → MI → ML → MR → Prop} {as : Array Value} {H : Heap} {locs : List Loc} {arr : Array Slot} {st0 : List Value} (hmc : mc = n1 - n) (hms : ms = szL n1 - szL n) (hn : n ≤ n1) (hn0 : n0 ≤ n) (h1 : lvR G arr c.maxLocals ls) (h3 : ∀ q ∈ locs, gB G ≤ q.base)
    (hr : va_Run p (gL G) e Rm s m args below meth c H locs (n - n0) (szL n - szL n0) mc ms (F0 m pc arr st0) (rest.map (cv G)) (QV G n1 Q as) (fun q => gB G ≤ q))
    (kk : ∀ (v : Option Value) (I' : MI) (L' : ML) (R' : MR), Q v n1 I' L' R' → KK G p e Rm s m args below meth c n0 Z (pc + 3) ls (v.toList ++ rest) n1 I' L' R') : W p (gL G) e Rm s m args below meth c H locs (n - n0) (szL n - szL n0) Z (F0 m pc arr st0) := by
  intro T hT X
  obtain ⟨v, st₀, t, T', Lc, g0, X', hL, e1, e2, ⟨v0, I', L', R', hv, hq, hw⟩, step⟩ := hr T hT X
  cases hv
  have h5 : n - n0 + mc = n1 - n0 := by omega
  have h6 : szL n - szL n0 + ms = szL n1 - szL n0 := by
    have := szL_mono hn
    have := szL_mono hn0
    omega
  rw [h5, h6] at X'
  have h7 : (v0.toList ++ rest).map (cv G) = (v0.map (cv G)).toList ++ rest.map (cv G) := by cases v0 <;> rfl
  have k9 := kk v0 I' L' R' hq T'.heap (locs ++ Lc) arr h1 (by rw [e1]; exact hw) (fun q hq => by
    rcases List.mem_append.mp hq with z | z
    · exact h3 q z
    · exact hL q z) (by omega)
  rw [h7] at k9
  obtain ⟨t2, a1, b1⟩ := k9 T' rfl X'
  exact ⟨t2, step t2 a1, b1⟩
def mrC (q : Nat × Nat × Nat × Nat × Nat × Nat × Nat) : Bool := (if q.2.2.1 = 999 ∨ q.2.2.1 = 998 then true else match mpL[q.2.2.1]? with
  | some x => decide (x.2.2.2.2.2 = q.2.2.2.1) && decide (x.2.2.2.2.1 = if q.2.2.2.2.1 = 1 then 1 else 0) && decide (q.2.2.2.2.1 < 3) && decide (q.2.2.2.2.1 = 2 ↔ (my q.2.2.1).name = "<init>") &&
     (if q.2.2.2.2.2.2 = 0 then decide (wd q.2.2.2.2.2.1 = some (.methodLink (cnm q.1) q.2.1 (my q.2.2.1))) else (wd q.2.2.2.2.2.1).any (fun w => match w with | .methodLinkNest a b y _ => decide (a = cnm q.1 ∧ b = q.2.1 ∧ y = my q.2.2.1) | _ => false))
  | none => false)
set_option maxRecDepth 100000 in
theorem mrC_0 : mrL_0.all mrC = true := by decide +kernel
set_option maxRecDepth 100000 in
theorem mrC_1 : mrL_1.all mrC = true := by decide +kernel
set_option maxRecDepth 100000 in
theorem mrC_2 : mrL_2.all mrC = true := by decide +kernel
set_option maxRecDepth 100000 in
theorem mrC_3 : mrL_3.all mrC = true := by decide +kernel
set_option maxRecDepth 100000 in
theorem mrC_4 : mrL_4.all mrC = true := by decide +kernel
set_option maxRecDepth 100000 in
theorem mrC_5 : mrL_5.all mrC = true := by decide +kernel
set_option maxRecDepth 100000 in
theorem mrC_6 : mrL_6.all mrC = true := by decide +kernel
theorem mrC_ok : mrL.all mrC = true := by
  unfold mrL
  simp only [List.all_append, mrC_0, mrC_1, mrC_2, mrC_3, mrC_4, mrC_5, mrC_6, Bool.and_self]
theorem mr_facts {ci ix mj na mode : Nat} (h : mr ci ix = some (mj, na, mode)) (h9 : mj < 286) : ∃ x, mpL[mj]? = some x ∧ x.2.2.2.2.2 = na ∧ (x.2.2.2.2.1 = if mode = 1 then 1 else 0) ∧ mode < 3 ∧ (mode = 2 ↔ (my mj).name = "<init>") ∧ (Cond.methodLink (cnm ci) ix (my mj) ∈ lw_good ∨ ∃ host, Cond.methodLinkNest (cnm ci) ix (my mj) host ∈ lw_nest) := by
  unfold mr at h
  cases hf : mrL.find? (fun q => q.1 == ci && q.2.1 == ix) with
  | none => rw [hf] at h; cases h
  | some q =>
    rw [hf] at h
    cases h
    have h1 := List.all_eq_true.mp mrC_ok q (List.mem_of_find?_eq_some hf)
    have h2 := List.find?_some hf
    simp only [Bool.and_eq_true, beq_iff_eq] at h2
    unfold mrC at h1
    rw [if_neg (by omega)] at h1
    cases hv : mpL[q.2.2.1]? with
    | none => rw [hv] at h1; cases h1
    | some x =>
      rw [hv] at h1
      simp only [Bool.and_eq_true, decide_eq_true_eq] at h1
      obtain ⟨⟨⟨⟨b1, b2⟩, b3⟩, b4⟩, b5⟩ := h1
      refine ⟨x, rfl, b1, b2, b3, b4, ?_⟩
      rw [← h2.1, ← h2.2]
      by_cases z : q.2.2.2.2.2.2 = 0
      · rw [if_pos z] at b5
        exact Or.inl (lw_mem (of_decide_eq_true b5) rfl)
      · rw [if_neg z] at b5
        cases hw : wd q.2.2.2.2.2.1 with
        | none => rw [hw] at b5; cases b5
        | some w =>
          rw [hw] at b5
          cases w <;> simp at b5
          obtain ⟨rfl, rfl, rfl⟩ := b5
          exact Or.inr ⟨_, List.mem_filter.mpr ⟨wd_in hw, rfl⟩⟩
theorem K_call (F : FrOK G mi p s m meth c args) (hm : mi < 286) {ix mj na mode d n1 N1 : Nat} {as rest : List Value} {Q : Option Value → Nat → MI → ML → MR → Prop} (hd : decode (mcc mi) pc = .ok (if mode = 0 then .invokevirtual ix else if mode = 1 then .invokestatic ix else .invokespecial ix, 3)) (hr : mr (mci mi) ix = some (mj, na, mode)) (hj : mj < 286) (hc : MP mj) (hsl : slN as ≤ mnl mj) (hnl : mnl mj ≤ 20) (hrm : RmOK Rm d n0 N1) (hn : n ≤ n1) (hn1 : n1 ≤ N1) (hcs : cS rest ≤ 8)
    (hmode : mode = 1 ∧ as.length = na ∨ mode = 2 ∧ (∃ a as', as = .ref a :: as' ∧ as'.length = na) ∧ mrt mj = none ∨ mode = 0 ∧ ∃ a as', as = .ref a :: as' ∧ as'.length = na ∧ a < n ∧ kK a = (10, mci mj))
    (hV : V G d mj n1 0 (eL as (mnl mj)) [] n I L R Q) (kk : ∀ (v : Option Value) (I' : MI) (L' : ML) (R' : MR), Q v n1 I' L' R' → KK G p e Rm s m args below meth c n0 Z (pc + 3) ls (v.toList ++ rest) n1 I' L' R') : KK G p e Rm s m args below meth c n0 Z pc ls (as.reverse ++ rest) n I L R := by
  intro H locs arr h1 h2 h3 h4
  obtain ⟨pp, pk, ps, pi, k, na', hmp, hcode, hini, hstat, hinst, hcls, hna, hpl⟩ := mp_facts hc
  obtain ⟨x, hx, x1, x2, x3, x4, hlink⟩ := mr_facts hr hj
  have : x = (pp, pk, ps, pi, k, na') := Option.some.inj (hx.symm.trans hmp)
  subst this
  dsimp only at x1 x2
  subst x1
  have hts := F.2.2.2.2.2.2.2.1
  have hE := F.2.2.2.2.2.2.2.2.1
  have hM := Met_of_V hc hsl hn hV
  have hbl : FrameBlind (va_Pc (as.map (cv G)) (fun U => EnvOK G U ∧ WD G n I L R U.heap)) := fun a U g mk q => ⟨q.1, q.2.1.calling, q.2.2⟩
  have hpre : ∀ U : State, U.heap = H → s.WarmedH U.vm → va_Pc (as.map (cv G)) (fun U => EnvOK G U ∧ WD G n I L R U.heap) (as.map (cv G)).toArray U := fun U hU hW => ⟨rfl, hE.warm hW, by rw [hU]; exact h2⟩
  have hG : GoodIn lw_good (.code (my mj) (mcc mj) (mnl mj) (mrt mj) :: lw_good) := by
    intro w hw
    have hm : w ∈ lw_good := by
      rcases List.mem_cons.mp hw with rfl | hw
      · exact hcode
      · exact hw
    exact ⟨hm, good_of_word (List.mem_filter.mp hm).2⟩
  have hroom : (rmV d (n1 - n) (szL n1 - szL n)).frames + 1 ≤ Rm.frames ∧ 8 + (mnl mj + 11) + (rmV d (n1 - n) (szL n1 - szL n)).locals ≤ Rm.locals := by
    obtain ⟨r1, r2, -, -⟩ := hrm
    refine ⟨r1, ?_⟩
    show 8 + (mnl mj + 11) + 40 * d ≤ _
    omega
  have hcells : n - n0 + (n1 - n) ≤ Rm.cells ∧ szL n - szL n0 + (szL n1 - szL n) ≤ Rm.slots := by
    obtain ⟨-, -, r3, r4⟩ := hrm
    have a1 := szL_mono hn
    have a2 := szL_mono h4
    have a3 := szL_mono hn1
    omega
  have own := mi_own F hm
  have hS : CallFix p m c (mcc mi) c.maxLocals s args lw_good (cnm (mci mi)) := ⟨F.1, F.2.1, rfl, own, hts⟩
  have hcs2 : 2 * (F0 m pc arr ((as.reverse ++ rest).map (cv G))).monitorRoom + ((rest.map (cv G)).map fun v => v.category).sum ≤ 8 := lv_room (by rw [cS_cat]; exact hcs)
  have hst : (as.reverse ++ rest).map (cv G) = (as.map (cv G)).reverse ++ rest.map (cv G) := by rw [List.map_append, List.map_reverse]
  have hcn : ∀ host, Cond.methodLinkNest (cnm (mci mi)) ix (my mj) host ∈ lw_nest → va_CN Rm s args (cnm (mci mi)) ix (my mj) host (mcc mj) (mnl mj) (mrt mj) (.code (my mj) (mcc mj) (mnl mj) (mrt mj) :: lw_good) (rmV d (n1 - n) (szL n1 - szL n)) (n1 - n) (szL n1 - szL n) na' := fun host h => va_cnB na' hts hG rfl rfl rfl (hE.2.1 _ h) (hts _ hini) ⟨hcls.1, hcls.2, hna⟩ hroom
  have hcb : Cond.methodLink (cnm (mci mi)) ix (my mj) ∈ lw_good → CallB Rm s args (cnm (mci mi)) ix (my mj) (mcc mj) (mnl mj) (mrt mj) (.code (my mj) (mcc mj) (mnl mj) (mrt mj) :: lw_good) (rmV d (n1 - n) (szL n1 - szL n)) (n1 - n) (szL n1 - szL n) na' := fun h => callB_of na' hts hG rfl rfl rfl (hts _ hini) (hts _ h) ⟨hcls.1, hcls.2, hna⟩ hroom
  rcases hmode with ⟨rfl, hlen⟩ | ⟨rfl, ⟨a, as', rfl, hlen⟩, hrt⟩ | ⟨rfl, a, as', rfl, hlen, han, hka⟩
  · have hss := hts _ (hstat x2)
    rcases hlink with h | ⟨host, h⟩
    · exact run_K rfl rfl hn h4 h1 h3 (va_runS (As := as.map (cv G)) (rest := rest.map (cv G)) hS hM ⟨hcb h, hss⟩ ⟨hbl, hpre⟩ rfl (by rw [List.length_map]; exact hlen) h1.1 hst hcs2 hd hcells) kk
    · exact run_K rfl rfl hn h4 h1 h3 (va_runSN (As := as.map (cv G)) (rest := rest.map (cv G)) hS hM ⟨hcn host h, hss, trivial⟩ ⟨hbl, hpre⟩ rfl (by rw [List.length_map]; exact hlen) h1.1 hst hcs2 hd hcells) kk
  · obtain ⟨hin, -⟩ := hinst (by rw [x2]; decide)
    have hnm := x4.mp rfl
    have hst2 : (F0 m pc arr (((Value.ref a :: as').reverse ++ rest).map (cv G))).stack = (as'.map (cv G)).reverse ++ .ref (ad G a) :: rest.map (cv G) := by
      show ((Value.ref a :: as').reverse ++ rest).map (cv G) = _
      rw [hst]
      simp [cv]
    rw [hrt] at hM hG
    rcases hlink with h | ⟨host, h⟩
    · have := hcb h
      rw [hrt] at this
      exact run_K rfl rfl hn h4 h1 h3 (va_runI (As := as'.map (cv G)) (rest := rest.map (cv G)) (b := ad G a) hS hM ⟨this, hnm, hts _ hin⟩ ⟨hbl, hpre⟩ rfl (by rw [List.length_map]; exact hlen) h1.1 hst2 hcs2 hd hcells) kk
    · have := hcn host h
      rw [hrt] at this
      exact run_K rfl rfl hn h4 h1 h3 (va_runIN (As := as'.map (cv G)) (rest := rest.map (cv G)) (b := ad G a) hS hM ⟨this, hnm, hts _ hin⟩ ⟨hbl, hpre⟩ rfl (by rw [List.length_map]; exact hlen) h1.1 hst2 hcs2 hd hcells) kk
  · have hne : (my mj).name ≠ "<init>" := fun z => by have := x4.mpr z; cases this
    obtain ⟨hin, hsel⟩ := hinst (by rw [x2]; decide)
    have hse := hts _ (hsel hne)
    have hst2 : (F0 m pc arr (((Value.ref a :: as').reverse ++ rest).map (cv G))).stack = (as'.map (cv G)).reverse ++ .ref (ad G a) :: rest.map (cv G) := by
      show ((Value.ref a :: as').reverse ++ rest).map (cv G) = _
      rw [hst]
      simp [cv]
    have hrecv : ∃ cellB : Cell, H[ad G a]? = some cellB ∧ cellB.vm.isStatics = false ∧ s.vm.findClass (my mj).cls = some cellB.cls := by
      have hlt : mci mj < 13 := by
        have hv : ∃ q, vwCl[mci mj]? = some q := by
          obtain ⟨r, r1, -⟩ := h2.P1 han (ent_o hka) 0 _ rfl
          exact ⟨r, r1⟩
        obtain ⟨q, hq⟩ := hv
        exact (List.getElem?_eq_some_iff.mp hq).1
      have hcn : vwCl[mci mj]?.map (fun q => q.1) = some (cnm (mci mj)) := by
        have : ∀ i, i < 13 → vwCl[i]?.map (fun q => q.1) = some (cnm i) := by decide +kernel
        exact this _ hlt
      cases hv : vwCl[mci mj]? with
      | none => rw [hv] at hcn; cases hcn
      | some q =>
        rw [hv] at hcn
        have hq : q.1 = cnm (mci mj) := Option.some.inj hcn
        obtain ⟨cell, c1, c2, c3⟩ := va_recv hE.1 (h2.P1 han (ent_o hka)) hv (q0 := 0) rfl
        exact ⟨cell, c1, c2, by rw [my_cls mj (by omega), ← hq]; exact c3⟩
    rcases hlink with h | ⟨host, h⟩
    · exact run_K rfl rfl hn h4 h1 h3 (va_runV (As := as'.map (cv G)) (rest := rest.map (cv G)) (b := ad G a) hS hM ⟨hcb h, hts _ hin, hse⟩ ⟨hbl, hrecv, hpre⟩ rfl (by rw [List.length_map]; exact hlen) h1.1 hst2 hcs2 hd hcells) kk
    · exact run_K rfl rfl hn h4 h1 h3 (va_runVN (As := as'.map (cv G)) (rest := rest.map (cv G)) (b := ad G a) hS hM ⟨hcn host h, hts _ hin, hse⟩ ⟨hbl, hrecv, hpre⟩ rfl (by rw [List.length_map]; exact hlen) h1.1 hst2 hcs2 hd hcells) kk
theorem V_ret {d n1 : Nat} {Q : Option Value → Nat → MI → ML → MR → Prop} (hd : decode (mcc mi) pc = .ok (.return_, 1)) (ht : mrt mi = none) (hn : n = n1) (hq : Q none n I L R) : V G d mi n1 pc ls [] n I L R Q := by
  intro p e s m args below meth c n0 F hs hle H locs arr h1 h2 h3 h4
  subst hn
  have hlocks := F.2.2.2.2.1
  exact W.vret F.1 F.2.1 (F.2.2.2.1.trans ht) (fun t ht hW => ⟨none, I, L, R, rfl, hq, by rw [ht]; exact h2⟩) h3 hd
theorem V_iret {d n1 : Nat} {x : Int32} {Q : Option Value → Nat → MI → ML → MR → Prop} (hd : decode (mcc mi) pc = .ok (.ireturn, 1)) (ht : mrt mi = some .int ∨ mrt mi = some .boolean ∧ (x = 0 ∨ x = 1)) (hn : n = n1) (hq : Q (some (.int x)) n I L R) : V G d mi n1 pc ls [.int x] n I L R Q := by
  intro p e s m args below meth c n0 F hs hle H locs arr h1 h2 h3 h4
  subst hn
  have hlocks := F.2.2.2.2.1
  rcases ht with ht | ⟨ht, hx⟩
  · exact W.iret F.1 F.2.1 (F.2.2.2.1.trans ht) (fun t ht hW => ⟨some (.int x), I, L, R, rfl, hq, by rw [ht]; exact h2⟩) h3 hd
  · exact W.zret F.1 F.2.1 (F.2.2.2.1.trans ht) (narrow_z01 hx).1 (fun t ht hW => ⟨some (.int x), I, L, R, rfl, hq, by rw [ht]; exact h2⟩) h3 hd
theorem V_lret {d n1 : Nat} {x : Int64} {Q : Option Value → Nat → MI → ML → MR → Prop} (hd : decode (mcc mi) pc = .ok (.lreturn, 1)) (ht : mrt mi = some .long) (hn : n = n1) (hq : Q (some (.long x)) n I L R) : V G d mi n1 pc ls [.long x] n I L R Q := by
  intro p e s m args below meth c n0 F hs hle H locs arr h1 h2 h3 h4
  subst hn
  have hlocks := F.2.2.2.2.1
  exact W.lret F.1 F.2.1 (F.2.2.2.1.trans ht) (fun t ht hW => ⟨some (.long x), I, L, R, rfl, hq, by rw [ht]; exact h2⟩) h3 hd
end KCALL

