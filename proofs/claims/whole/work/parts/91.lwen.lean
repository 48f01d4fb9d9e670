/-! ===== the law's own end, and what holds at its entry ===== -/
def R_law : String := "TruceLineLaw"
def lw_P (b : Addr) (xs : List Int32) (args : Array Value) (s : State) : Prop := args = #[.ref b] ∧ s.IntsAt b xs ∧ xs.length ≤ 3072 ∧ (Jvm.Cond.and given_1 narrow_1).before args s = true
def lw_Q (_ : Array Value) (s : State) (o : Outcome) (t : State) : Prop := o = .returned (some (.int 1)) ∧ Framed s o t [] 600000 7302249
def lw_Z (below : List Frame) (a : Array Value) (s : State) : State → Prop := fun t => ∃ o, t.status = .running ∧ Ended t below o ∧ lw_Q a s o t
/-- the law's own end, with 1 on the stack, nothing written that was there before, its room as the claim has it -/
theorem lw_ret {p : Program} {l : Launch} {e : Env} {s : State} {m : MethodId} {below : List Frame} {meth : Method} {c : Code} {b : Nat} (hx : p.tables.exec = Jvm.exec) (hb : c.code = code) (hr : meth.sig.returnType = ret) (hlocks : meth.locks = false) {pc : Nat} {H : Heap} {ls : Array Slot} (hdg : decode code pc = .ok (.ireturn, 1)) : W p l e room_1 s m #[Value.ref b] below meth c H [] 600000 7302249 (lw_Z below #[Value.ref b] s) (F0 m pc ls [.int 1]) := by
  intro T hT X
  obtain ⟨fs, hret, hrun, hended, hW, hframe⟩ := X.leave (v := some (.int 1)) (hlocks := hlocks) (fun h => by rw [hr] at h; cases h)
  have hmeth' : T.vm.method? m = some meth := X.method'
  refine ⟨T.setFrames fs, ?_, .returned (some (.int 1)), hrun, hended, rfl, ⟨_, rfl⟩, hW, hframe⟩
  jvm_step X.here [X.here.top, hx, hb, hdg, hmeth', hr, ret, narrow_b1]
  (try refine ⟨rfl, ?_⟩); (try refine ⟨rfl, ?_⟩)
  first | (intro acts; rw [hret _ acts rfl rfl rfl]) | rw [hret _ _ rfl rfl rfl]
  exact Steps.refl _
/-- what holds at the law's entry: the machine, the code, the tables' words (any of lw_tbl by 'hts w (by decide +kernel)'), the script of L ints xs at the cell b, what the Statement gives of the start (any of its parts by flat_of_before) -/
def lw_At (p : Program) (s : State) (m : MethodId) (meth : Method) (c : Code) (b L : Nat) (xs : Nat → Int32) : Prop :=
  p.tables.exec = Jvm.exec ∧ c.code = code ∧ meth.sig.returnType = ret ∧ c.maxLocals = 4 ∧ s.vm.findClass R_law = some m.cls ∧ (∀ w ∈ lw_tbl, w.before #[Value.ref b] s = true) ∧ va_X b L xs s s.heap ∧ b < s.heap.size ∧ meth.locks = false ∧ (Jvm.Cond.and given_1 narrow_1).before #[Value.ref b] s = true ∧ meth.name = (my 285).name

section LWE
theorem lw_end {G : cG} {p : Program} {e : Env} {s : State} {m : MethodId} {below : List Frame} {meth : Method} {c : Code} {b : Nat} (F : FrOK G 285 p s m meth c #[Value.ref b]) (hs : s.heap.size = gB G) : ∀ i, GO G p e room_1 s m #[Value.ref b] below meth c (lw_Z below #[Value.ref b] s) 1994 i := by
  intro i I L c0 h
  refine K_iconst F dL_law_1994 ?_
  intro H locs arr h1 h2 h3 h4
  refine va_forget (fun q hq => by rw [hs]; exact h3 q hq) ?_
  refine W.widen (k := 600000) (n := 7302249) (by decide) (Nat.le_of_ble_eq_true (by decide +kernel)) ?_
  exact lw_ret F.1 F.2.1 F.2.2.2.1 F.2.2.2.2.1 dL_law_1995
theorem rm_ok : RmOK room_1 100 0 145 := ⟨by decide, by decide, by decide, Nat.le_of_ble_eq_true (by decide +kernel)⟩
/-- the law out of the environment's facts -/
theorem lw_env {G : cG} {p : Program} {e : Env} {s : State} {m : MethodId} {below : List Frame} {meth : Method} {c : Code} {b N : Nat} {xs : Nat → Int32} (hL : N ≤ 3072) (C0 : lw_At p s m meth c b N xs) (hB : gB G = s.heap.size) (hH : gH G = s.heap) (hb : gA G 1060 = b) (hE : EnvOK G s) : W p (gL G) e room_1 s m #[Value.ref b] below meth c s.heap [] 0 0 (lw_Z below #[Value.ref b] s) (entryFrame m ([Value.ref b] : List Value).toArray 4) := by
  obtain ⟨hx, hbb, hr, hml, hown, hts, hX, hbl, hlocks, hgv, hname⟩ := C0
  have F : FrOK G 285 p s m meth c #[Value.ref b] := ⟨hx, hbb, hml, hr, hlocks, hname, hown, fun w hw => hts w (List.mem_filter.mp hw).1, hE, fun q _ => by rw [hH], by rw [hB]; exact Nat.le_refl _⟩
  have hSc : ScOK G s N xs := ⟨by rw [hb]; exact hX, by rw [hb, hB]; exact hbl, hL⟩
  have hK := lw_beg (e := e) (below := below) (Z := lw_Z below #[Value.ref b] s) F rm_ok hSc (lw_end F hB.symm)
  have hl := lv_entry ([.ref b]) (n := 4) (Nat.le_of_ble_eq_true rfl)
  rw [lg_entry_eq]
  generalize (lg_sl ([.ref b]) ++ List.replicate (4 - (lg_sl ([.ref b])).length) Slot.unset).toArray = arr at hl ⊢
  have hl : lv_has arr 4 [(0, .ref b)] := hl
  have hR : lvR G arr c.maxLocals [some (.ref 1060), none, none, none] := by
    rw [hml]
    refine ⟨hl.1, hl.2.1, fun i v hv => ?_⟩
    match i, hv with
    | 0, hv =>
      cases hv
      have := hl.2.2 (0, .ref b) List.mem_cons_self
      rw [show cv G (.ref 1060) = .ref b from congrArg Value.ref ((ad_hi (by omega)).trans hb)]
      exact this
    | 1, hv => cases hv
    | 2, hv => cases hv
    | 3, hv => cases hv
    | (i + 4), hv => cases hv
  exact hK s.heap [] arr hR ⟨by rw [hB]; rfl, by omega, fun q _ => by rw [hH], fun a ha => absurd ha (Nat.not_lt_zero _)⟩ (fun q hq => absurd hq List.not_mem_nil) (Nat.le_refl 0)
end LWE
