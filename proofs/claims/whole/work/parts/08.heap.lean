
def cnm (ci : Nat) : String := (["TruceLine$Incidents", "TruceLine$Law", "TruceLine$Mark", "TruceLine$Marks", "TruceLine$Papers", "TruceLine$Plans", "TruceLine$Reader", "TruceLine$Sheet", "TruceLine$Shooting", "TruceLine$Texts", "TruceLine$Zone", "TruceLine", "TruceLineModel", "TruceLineLaw", "java/lang/Integer", "java/lang/Long", "java/lang/Math", "java/util/Arrays", "java/lang/String", "java/lang/StringLatin1", "java/lang/StringUTF16", "jdk/internal/util/Preconditions", "java/lang/System"] : List String).getD ci ""
set_option maxRecDepth 100000 in
theorem my_cls : ∀ i, i < 286 → (my i).cls = cnm (mci i) := by decide +kernel
def frC (q : Nat × Nat × Nat × Nat × Nat) : Bool := match vwCl[q.2.2.1]? with
  | some (C, T, N) => decide (N = fN q.2.2.1) && decide (q.2.2.2.1 < N) && decide (wd q.2.2.2.2 = some (.fieldLink (cnm q.1) q.2.1 (T q.2.2.2.1).1 (T q.2.2.2.1).2.1 (T q.2.2.2.1).2.2.1))
  | none => false
set_option maxRecDepth 100000 in
theorem frC_ok : frL.all frC = true := by decide +kernel
def vwC (q : vw_C) : Bool := (u_ws q.1 q.2.1 q.2.2).all (fun w => decide (w ∈ lw_tbl) && goodWord w) && (List.range q.2.2).all (fun k => (parseFieldDescriptor (q.2.1 k).2.2.1).isSome) && (List.range q.2.2).all (fun a => (List.range q.2.2).all (fun b => a == b || decide ((q.2.1 a).2.1 ≠ (q.2.1 b).2.1)))
set_option maxRecDepth 100000 in
theorem vwC_ok : vwCl.all vwC = true := by decide +kernel
/-- the type of a field -/
def fTy (T : u_T) (k : Nat) : FieldType := (parseFieldDescriptor (T k).2.2.1).getD .int
theorem vw_facts {ci : Nat} {q : vw_C} (h : vwCl[ci]? = some q) : (∀ w ∈ u_ws q.1 q.2.1 q.2.2, w ∈ lw_good) ∧ (∀ k, k < q.2.2 → parseFieldDescriptor (q.2.1 k).2.2.1 = some (fTy q.2.1 k)) ∧ (∀ a, a < q.2.2 → ∀ b, b < q.2.2 → a ≠ b → (q.2.1 a).2.1 ≠ (q.2.1 b).2.1) := by
  have h1 := List.all_eq_true.mp vwC_ok q (List.mem_of_getElem? h)
  unfold vwC at h1
  simp only [Bool.and_eq_true, List.all_eq_true, decide_eq_true_eq, List.mem_range] at h1
  refine ⟨fun w hw => List.mem_filter.mpr (h1.1.1 w hw), fun k hk => ?_, fun a ha b hb hab => ?_⟩
  · have := h1.1.2 k hk
    unfold fTy
    cases e : parseFieldDescriptor (q.2.1 k).2.2.1 with
    | none => rw [e] at this; cases this
    | some t => rfl
  · have := h1.2 a ha b hb
    simp only [Bool.or_eq_true, beq_iff_eq, decide_eq_true_eq] at this
    rcases this with e | e
    · exact absurd e hab
    · exact e
theorem fr_facts {ci ix c2 k : Nat} (h : fr ci ix = some (c2, k)) : ∃ C T N, vwCl[c2]? = some (C, T, N) ∧ N = fN c2 ∧ k < N ∧ Cond.fieldLink (cnm ci) ix (T k).1 (T k).2.1 (T k).2.2.1 ∈ lw_good := by
  unfold fr at h
  cases hf : frL.find? (fun q => q.1 == ci && q.2.1 == ix) with
  | none => rw [hf] at h; cases h
  | some q =>
    rw [hf] at h
    cases h
    have h1 := List.all_eq_true.mp frC_ok q (List.mem_of_find?_eq_some hf)
    have h2 := List.find?_some hf
    simp only [Bool.and_eq_true, beq_iff_eq] at h2
    unfold frC at h1
    cases hv : vwCl[q.2.2.1]? with
    | none => rw [hv] at h1; cases h1
    | some x =>
      obtain ⟨C, T, N⟩ := x
      rw [hv] at h1
      simp only [Bool.and_eq_true, decide_eq_true_eq] at h1
      refine ⟨C, T, N, rfl, h1.1.1, h1.1.2, ?_⟩
      rw [← h2.1, ← h2.2]
      exact lw_mem h1.2 rfl
theorem mi_own {G : cG} {mi : Nat} {p : Program} {s : State} {m : MethodId} {meth : Method} {c : Code} {args : Array Value} (F : FrOK G mi p s m meth c args) (h : mi < 286) : s.vm.findClass (cnm (mci mi)) = some m.cls := by
  rw [← my_cls mi h]
  exact F.2.2.2.2.2.2.1
theorem WD.P1 {G : cG} {n : Nat} {I : MI} {L : ML} {R : MR} {H : Heap} (h : WD G n I L R H) {a : Nat} (ha : a < n) {x : va_E} (he : ent G I L R a = x) : va_P (gD G) vwCl [(ad G a, x)] H := by
  intro k q hq
  cases k with
  | zero => cases hq; rw [← he]; exact h.2.2.2 a ha
  | succ k => cases hq
theorem ad_inj {G : cG} {a b : Nat} (ha : a < 1000) (hb : b < 1000) (h : ad G a = ad G b) : a = b := by
  rw [ad_lt ha, ad_lt hb] at h
  omega
theorem WD.upd {G : cG} {n a : Nat} {I I' : MI} {L L' : ML} {R R' : MR} {H H1 : Heap} (h : WD G n I L R H) (ha : a < n) (hz : H1.size = H.size) (ho : ∀ q, q ≠ ad G a → H1[q]? = H[q]?) (he : ∀ b, b ≠ a → ent G I' L' R' b = ent G I L R b) (hc : va_at (gD G) vwCl (ad G a, ent G I' L' R' a) H1) : WD G n I' L' R' H1 := by
  obtain ⟨h1, h2, h3, h4⟩ := h
  refine ⟨hz.trans h1, h2, fun q hq => ?_, fun b hb => ?_⟩
  · rw [ho q (by rw [ad_lt (by omega)]; omega)]
    exact h3 q hq
  · by_cases hba : b = a
    · subst hba
      exact hc
    · rw [he b hba]
      exact (h4 b hb).kept (ho _ (fun z => hba (ad_inj (by omega) (by omega) z)))
theorem u2_ne {α : Type} {f : Nat → Nat → α} {a b j : Nat} {v : α} (h : b ≠ a) : u2 f a j v b = f b := by
  funext k
  simp [u2, h]
theorem ent_uI {G : cG} {I : MI} {L : ML} {R : MR} {a b j : Nat} {v : Int32} (h : b ≠ a) : ent G (u2 I a j v) L R b = ent G I L R b := by
  unfold ent entF
  rw [u2_ne h]
theorem ent_uL {G : cG} {I : MI} {L : ML} {R : MR} {a b j : Nat} {v : Int64} (h : b ≠ a) : ent G I (u2 L a j v) R b = ent G I L R b := by
  unfold ent
  rw [u2_ne h]
theorem ent_uR {G : cG} {I : MI} {L : ML} {R : MR} {a b j : Nat} {v : Option Nat} (h : b ≠ a) : ent G I L (u2 R a j v) b = ent G I L R b := by
  unfold ent entF
  rw [u2_ne h]
theorem ent_o {G : cG} {I : MI} {L : ML} {R : MR} {a ci : Nat} (h : kK a = (10, ci)) : ent G I L R a = .inr (ci, entF G I R a ci) := by
  unfold ent
  rw [h]
  rfl
theorem ent_i {G : cG} {I : MI} {L : ML} {R : MR} {a t n : Nat} (h : kK a = (t, n)) (ht : t ≤ 2) : ent G I L R a = .inl (gC G t, n, .inl (I a)) := by
  unfold ent
  rw [h]
  rw [if_neg (by show ¬ t = 10; omega), if_pos ht]
theorem ent_l {G : cG} {I : MI} {L : ML} {R : MR} {a n : Nat} (h : kK a = (3, n)) : ent G I L R a = .inl (gC G 3, n, .inr (.inl (L a))) := by
  unfold ent
  rw [h]
  rfl
theorem ent_q {G : cG} {I : MI} {L : ML} {R : MR} {a t n : Nat} (h : kK a = (t, n)) (ht : 4 ≤ t ∧ t ≤ 6) : ent G I L R a = .inl (gC G t, n, .inr (.inr (.inr (.inr (fun j => (R a j).map (ad G)))))) := by
  unfold ent
  rw [h]
  rw [if_neg (by show ¬ t = 10; omega), if_neg (by show ¬ t ≤ 2; omega), if_neg (by show ¬ t = 3; omega)]
theorem entF_get {G : cG} {I : MI} {R : MR} {a ci k : Nat} (h : k < fN ci) : (entF G I R a ci)[k]? = some (cv G (if fK ci k = 2 then vR (R a k) else .int (I a k))) := by
  unfold entF
  rw [List.getElem?_map, List.getElem?_range h]
  show some (if fK ci k = 2 then rv G (R a k) else Value.int (I a k)) = _
  by_cases q : fK ci k = 2
  · rw [if_pos q, if_pos q, cv_vR]
  · rw [if_neg q, if_neg q]
    rfl
theorem entF_setI {G : cG} {I : MI} {R : MR} {a ci k : Nat} {x : Int32} (hf : fK ci k ≠ 2) : entF G (u2 I a k x) R a ci = (entF G I R a ci).set k (.int x) := by
  unfold entF
  apply List.ext_getElem?
  intro j
  rw [List.getElem?_set, List.getElem?_map, List.getElem?_map, List.length_map, List.length_range]
  by_cases hj : j < fN ci
  · rw [List.getElem?_range hj]
    by_cases e : k = j
    · subst e
      rw [if_pos rfl, if_pos hj]
      show some (if fK ci k = 2 then rv G (R a k) else Value.int (u2 I a k x a k)) = some _
      rw [if_neg hf]
      simp [u2]
    · rw [if_neg e]
      show some (if fK ci j = 2 then rv G (R a j) else Value.int (u2 I a k x a j)) = some (if fK ci j = 2 then rv G (R a j) else Value.int (I a j))
      rw [show u2 I a k x a j = I a j from if_neg (fun z => e z.2.symm)]
  · rw [List.getElem?_eq_none (by rw [List.length_range]; omega)]
    by_cases e : k = j
    · rw [if_pos e, if_neg (by omega)]
      rfl
    · rw [if_neg e]
      rfl
theorem entF_setR {G : cG} {I : MI} {R : MR} {a ci k : Nat} {x : Option Nat} (hf : fK ci k = 2) : entF G I (u2 R a k x) a ci = (entF G I R a ci).set k (rv G x) := by
  unfold entF
  apply List.ext_getElem?
  intro j
  rw [List.getElem?_set, List.getElem?_map, List.getElem?_map, List.length_map, List.length_range]
  by_cases hj : j < fN ci
  · rw [List.getElem?_range hj]
    by_cases e : k = j
    · subst e
      rw [if_pos rfl, if_pos hj]
      show some (if fK ci k = 2 then rv G (u2 R a k x a k) else Value.int (I a k)) = some _
      rw [if_pos hf]
      simp [u2]
    · rw [if_neg e]
      show some (if fK ci j = 2 then rv G (u2 R a k x a j) else Value.int (I a j)) = some (if fK ci j = 2 then rv G (R a j) else Value.int (I a j))
      rw [show u2 R a k x a j = R a j from if_neg (fun z => e z.2.symm)]
  · rw [List.getElem?_eq_none (by rw [List.length_range]; omega)]
    by_cases e : k = j
    · rw [if_pos e, if_neg (by omega)]
      rfl
    · rw [if_neg e]
      rfl
section KHEAP
variable {G : cG} {mi : Nat} {p : Program} {e : Env} {Rm : Room} {s : State} {m : MethodId} {args : Array Value} {below : List Frame} {meth : Method} {c : Code} {n0 : Nat} {Z : State → Prop} {pc : Nat} {ls : List (Option Value)} {st : List Value} {n : Nat} {I : MI} {L : ML} {R : MR}
theorem tys_at {G : cG} {t : Nat} (h : t < 7) : (tysG G)[t]? = some (gC G t, kT.getD t .int) := by
  match t, h with
  | 0, _ => rfl
  | 1, _ => rfl
  | 2, _ => rfl
  | 3, _ => rfl
  | 4, _ => rfl
  | 5, _ => rfl
  | 6, _ => rfl
theorem K_getfield (F : FrOK G mi p s m meth c args) (hm : mi < 286) {ix ci k a : Nat} (hd : decode (mcc mi) pc = .ok (.getfield ix, 3)) (hf : fr (mci mi) ix = some (ci, k)) (ha : a < n) (hk : kK a = (10, ci)) (kk : KK G p e Rm s m args below meth c n0 Z (pc + 3) ls ((if fK ci k = 2 then vR (R a k) else .int (I a k)) :: st) n I L R) : KK G p e Rm s m args below meth c n0 Z pc ls (.ref a :: st) n I L R := by
  intro H locs arr h1 h2 h3 h4
  obtain ⟨C, T, N, hv, rfl, hkn, hl⟩ := fr_facts hf
  have hts := F.2.2.2.2.2.2.2.1
  have hK := F.2.2.2.2.2.2.2.2.1.1
  exact va_get (C := C) (T := T) (N := fN ci) (ci := ci) (v := cv G (if fK ci k = 2 then vR (R a k) else .int (I a k))) F.1 F.2.1 hts (vw_facts hv).1 (mi_own F hm) hK (h2.P1 ha (ent_o hk)) 0 rfl hv k hkn (hts _ hl) (fun _ h => h) (entF_get hkn) hd (kk H locs arr h1 h2 h3 h4)
theorem put_core (F : FrOK G mi p s m meth c args) (hm : mi < 286) {H : Heap} {locs : List Loc} {arr : Array Slot} (h2 : WD G n I L R H) {ix ci k a cells slots : Nat} {v : Value} {rest : List Value} (hd : decode (mcc mi) pc = .ok (.putfield ix, 3)) (hf : fr (mci mi) ix = some (ci, k)) (ha : a < n) (hk : kK a = (10, ci)) (hfin : ∀ C T N, vwCl[ci]? = some (C, T, N) → (T k).2.2.2 = false ∧ narrow (fTy T k) v = v ∧ fits (fTy T k) v = true)
    (kk : ∀ (H1 : Heap) (j : Nat), H1.size = H.size → (∀ q, q ≠ ad G a → H1[q]? = H[q]?) → va_at (gD G) vwCl (ad G a, .inr (ci, (entF G I R a ci).set k v)) H1 → W p (gL G) e Rm s m args below meth c H1 (locs ++ [⟨ad G a, j⟩]) cells slots Z (F0 m (pc + 3) arr rest)) : W p (gL G) e Rm s m args below meth c H locs cells slots Z (F0 m pc arr (v :: .ref (ad G a) :: rest)) := by
  obtain ⟨C, T, N, hv, rfl, hkn, hl⟩ := fr_facts hf
  obtain ⟨hin, hty, hnm⟩ := vw_facts hv
  have hts := F.2.2.2.2.2.2.2.1
  have hK := F.2.2.2.2.2.2.2.2.1.1
  have hown := mi_own F hm
  obtain ⟨hff, hn, hfit⟩ := hfin _ _ _ hv
  have hap := va_apart (own := cnm (mci mi)) hts hin (fTy T) hty hnm hK hv
  have hP := h2.P1 ha (ent_o hk)
  obtain ⟨r, r1, cell, q1, q2, q3, q4⟩ := hP 0 _ rfl
  have hr : r = (C, T, fN ci) := Option.some.inj (r1.symm.trans hv)
  subst hr
  obtain ⟨hS, hfc, kC, hkC, hkind⟩ := hK.1 ci _ hv
  obtain ⟨cf, kf, fi, f, hi, hsl⟩ := hS k hkn
  have hlay := hts _ (hin _ (u_in_lay hkn))
  unfold u_lay at hlay
  rw [if_neg (by rw [hff]; decide)] at hlay
  have hst := (u_facts hfc hkC (u_lays hts hin hkn) hi).1
  have h6 := u_store hfc hkC hkind hlay hi (hty k hkn) hn hfit
  refine W.putK F.1 F.2.1 (f := f) ⟨hown, hts _ hl, ⟨_, _, _, hi⟩, hst⟩ (by rw [q2]; exact h6) q1 q3 (by rw [hsl]; exact k2_hasslot (q4 k hkn)) rfl rfl hd fun H' e1 e2 e3 => ?_
  rw [hsl] at e1 ⊢
  refine kk H' _ e2 e3 ⟨_, hv, t_OB.to (V := updV (vp_V (entF G I R a ci)) k v) ⟨_, e1, q2, q3, t_set q4 hap hkn v⟩ (fun j _ => vp_updV_set (by simp [entF]; exact hkn) v j)⟩
def fI (ci k : Nat) (x : Int32) : Prop := fK ci k = 0 ∨ fK ci k = 1 ∧ (x = 0 ∨ x = 1)
/-- a field that isn't a reference is not final, and its type is int or boolean -/
def vwI (q : vw_C) (ci : Nat) : Bool := (List.range q.2.2).all (fun k => (fK ci k == 2) || ((q.2.1 k).2.2.2 == false && decide (fTy q.2.1 k = if fK ci k = 0 then .int else .boolean)))
set_option maxRecDepth 100000 in
theorem vwI_ok : (List.range 13).all (fun ci => match vwCl[ci]? with | some q => vwI q ci && decide (q.2.2 = fN ci) | none => false) = true := by decide +kernel
theorem vwI_facts {ci k : Nat} {C : String} {T : u_T} {N : Nat} (h : vwCl[ci]? = some (C, T, N)) (hk : k < N) (hf : fK ci k ≠ 2) : (T k).2.2.2 = false ∧ fTy T k = if fK ci k = 0 then .int else .boolean := by
  have hlt : ci < 13 := (List.getElem?_eq_some_iff.mp h).1
  have h1 := List.all_eq_true.mp vwI_ok ci (List.mem_range.mpr hlt)
  rw [h] at h1
  simp only [Bool.and_eq_true] at h1
  have h2 := List.all_eq_true.mp h1.1 k (List.mem_range.mpr hk)
  simp only [Bool.or_eq_true, Bool.and_eq_true, beq_iff_eq, decide_eq_true_eq] at h2
  rcases h2 with q | q
  · exact absurd q hf
  · exact q
theorem narrow_z01 {x : Int32} (h : x = 0 ∨ x = 1) : narrow .boolean (.int x) = .int x ∧ fits .boolean (.int x) = true := by
  rcases h with rfl | rfl <;> decide +kernel
theorem K_putI (F : FrOK G mi p s m meth c args) (hm : mi < 286) {ix ci k a : Nat} {x : Int32} (hd : decode (mcc mi) pc = .ok (.putfield ix, 3)) (hf : fr (mci mi) ix = some (ci, k)) (ha : a < n) (hk : kK a = (10, ci)) (hx : fI ci k x) (kk : KK G p e Rm s m args below meth c n0 Z (pc + 3) ls st n (u2 I a k x) L R) : KK G p e Rm s m args below meth c n0 Z pc ls (.int x :: .ref a :: st) n I L R := by
  intro H locs arr h1 h2 h3 h4
  have hne : fK ci k ≠ 2 := by
    rcases hx with q | q
    · omega
    · omega
  have han : a < 1000 := Nat.lt_of_lt_of_le ha h2.2.1
  refine put_core F hm h2 hd hf ha hk (fun C T N hv => ?_) (fun H1 j z o q => ?_)
  · obtain ⟨C', T', N', hv', hN, hkn, -⟩ := fr_facts hf
    have : (C', T', N') = (C, T, N) := Option.some.inj (hv'.symm.trans hv)
    cases this
    obtain ⟨a1, a2⟩ := vwI_facts hv hkn hne
    refine ⟨a1, ?_⟩
    rw [a2]
    rcases hx with q | ⟨q, q2⟩
    · rw [if_pos q]
      exact ⟨rfl, rfl⟩
    · rw [if_neg (by omega)]
      exact narrow_z01 q2
  · refine kk H1 _ arr h1 (h2.upd ha z o (fun b hb => ent_uI hb) (by rw [ent_o hk, entF_setI hne]; exact q)) (fun l hl => ?_) h4
    rcases List.mem_append.mp hl with r | r
    · exact h3 l r
    · rw [List.mem_singleton.mp r]
      show gB G ≤ ad G a
      rw [ad_lt han]
      omega

theorem K_iald (F : FrOK G mi p s m meth c args) {a N : Nat} {i : Int32} (hd : decode (mcc mi) pc = .ok (.iaload, 1)) (ha : a < n) (hk : kK a = (0, N)) (hi : vp_in i N) (kk : KK G p e Rm s m args below meth c n0 Z (pc + 1) ls (.int (I a i.toNatClampNeg) :: st) n I L R) : KK G p e Rm s m args below meth c n0 Z pc ls (.int i :: .ref a :: st) n I L R :=
  fun H locs arr h1 h2 h3 h4 => va_iald (ws := [(ad G a, .inl (gC G 0, N, .inl (I a)))]) F.1 F.2.1 F.2.2.2.2.2.2.2.2.1.1 (h2.P1 ha (ent_i hk (by omega))) 0 0 rfl (tys_at (by omega)) hi hd (kk H locs arr h1 h2 h3 h4)
theorem K_bald (F : FrOK G mi p s m meth c args) {a N : Nat} {i : Int32} (hd : decode (mcc mi) pc = .ok (.baload, 1)) (ha : a < n) (hk : kK a = (1, N)) (hi : vp_in i N) (kk : KK G p e Rm s m args below meth c n0 Z (pc + 1) ls (.int (I a i.toNatClampNeg) :: st) n I L R) : KK G p e Rm s m args below meth c n0 Z pc ls (.int i :: .ref a :: st) n I L R :=
  fun H locs arr h1 h2 h3 h4 => va_bald (ws := [(ad G a, .inl (gC G 1, N, .inl (I a)))]) F.1 F.2.1 F.2.2.2.2.2.2.2.2.1.1 (h2.P1 ha (ent_i hk (by omega))) 0 1 rfl (tys_at (by omega)) hi hd (kk H locs arr h1 h2 h3 h4)
theorem K_zald (F : FrOK G mi p s m meth c args) {a N : Nat} {i : Int32} (hd : decode (mcc mi) pc = .ok (.baload, 1)) (ha : a < n) (hk : kK a = (2, N)) (hi : vp_in i N) (kk : KK G p e Rm s m args below meth c n0 Z (pc + 1) ls (.int (I a i.toNatClampNeg) :: st) n I L R) : KK G p e Rm s m args below meth c n0 Z pc ls (.int i :: .ref a :: st) n I L R :=
  fun H locs arr h1 h2 h3 h4 => va_zald (ws := [(ad G a, .inl (gC G 2, N, .inl (I a)))]) F.1 F.2.1 F.2.2.2.2.2.2.2.2.1.1 (h2.P1 ha (ent_i hk (by omega))) 0 2 rfl (tys_at (by omega)) hi hd (kk H locs arr h1 h2 h3 h4)
theorem K_lald (F : FrOK G mi p s m meth c args) {a N : Nat} {i : Int32} (hd : decode (mcc mi) pc = .ok (.laload, 1)) (ha : a < n) (hk : kK a = (3, N)) (hi : vp_in i N) (kk : KK G p e Rm s m args below meth c n0 Z (pc + 1) ls (.long (L a i.toNatClampNeg) :: st) n I L R) : KK G p e Rm s m args below meth c n0 Z pc ls (.int i :: .ref a :: st) n I L R :=
  fun H locs arr h1 h2 h3 h4 => va_lald (ws := [(ad G a, .inl (gC G 3, N, .inr (.inl (L a))))]) F.1 F.2.1 F.2.2.2.2.2.2.2.2.1.1 (h2.P1 ha (ent_l hk)) 0 3 rfl (tys_at (by omega)) hi hd (kk H locs arr h1 h2 h3 h4)
theorem va_rf_map (G : cG) (r : Option Nat) : va_rf (r.map (ad G)) = cv G (vR r) := (cv_vR G r).symm
theorem K_aald (F : FrOK G mi p s m meth c args) {a N t : Nat} {i : Int32} (hd : decode (mcc mi) pc = .ok (.aaload, 1)) (ha : a < n) (hk : kK a = (t, N)) (ht : 4 ≤ t ∧ t ≤ 6) (hi : vp_in i N) (kk : KK G p e Rm s m args below meth c n0 Z (pc + 1) ls (vR (R a i.toNatClampNeg) :: st) n I L R) : KK G p e Rm s m args below meth c n0 Z pc ls (.int i :: .ref a :: st) n I L R := by
  intro H locs arr h1 h2 h3 h4
  have hP := h2.P1 ha (ent_q hk ht)
  have hK := F.2.2.2.2.2.2.2.2.1.1
  have hlt : i.toNatClampNeg < N := Nat.not_le.mp fun q => hi (Or.inr q)
  have k9 := kk H locs arr h1 h2 h3 h4
  refine W.aald (v := cv G (vR (R a i.toNatClampNeg))) (ty := kT.getD t .int) F.1 F.2.1 (hP 0 _ rfl) ((hK.2 t _ (tys_at (by omega))).1 N (fun j => va_rf ((R a j).map (ad G)))) ?_ (fun q => by cases q) (by show ¬ (i < 0 ∨ (arrV _ _ _).slots.size ≤ _); rw [arrV_size]; exact hi) (by show (arrV _ _ _).slots[_]? = _; rw [arrV_read _ _ hlt, va_rf_map]) rfl rfl hd k9
  rcases (show t = 4 ∨ t = 5 ∨ t = 6 by omega) with rfl | rfl | rfl <;> rfl
theorem K_alen (F : FrOK G mi p s m meth c args) {a N t : Nat} (hd : decode (mcc mi) pc = .ok (.arraylength, 1)) (ha : a < n) (hk : kK a = (t, N)) (ht : t < 7) (kk : KK G p e Rm s m args below meth c n0 Z (pc + 1) ls (.int (Int32.ofNat N) :: st) n I L R) : KK G p e Rm s m args below meth c n0 Z pc ls (.ref a :: st) n I L R := by
  intro H locs arr h1 h2 h3 h4
  have k9 := kk H locs arr h1 h2 h3 h4
  have hK := F.2.2.2.2.2.2.2.2.1.1
  rcases (show t ≤ 2 ∨ t = 3 ∨ 4 ≤ t by omega) with q | rfl | q
  · exact va_alen F.1 F.2.1 hK (h2.P1 ha (ent_i hk q)) 0 t rfl (tys_at ht) rfl hd k9
  · exact va_alen F.1 F.2.1 hK (h2.P1 ha (ent_l hk)) 0 3 rfl (tys_at ht) rfl hd k9
  · exact va_alen F.1 F.2.1 hK (h2.P1 ha (ent_q hk ⟨q, by omega⟩)) 0 t rfl (tys_at ht) rfl hd k9
theorem locs_ok {G : cG} {locs : List Loc} {a j : Nat} (h3 : ∀ q ∈ locs, gB G ≤ q.base) (ha : a < 1000) : ∀ q ∈ locs ++ [⟨ad G a, j⟩], gB G ≤ q.base := by
  intro l hl
  rcases List.mem_append.mp hl with r | r
  · exact h3 l r
  · rw [List.mem_singleton.mp r]
    show gB G ≤ ad G a
    rw [ad_lt ha]
    omega
theorem K_iast (F : FrOK G mi p s m meth c args) {a N : Nat} {i x : Int32} (hd : decode (mcc mi) pc = .ok (.iastore, 1)) (ha : a < n) (hk : kK a = (0, N)) (hi : vp_in i N) (kk : KK G p e Rm s m args below meth c n0 Z (pc + 1) ls st n (u2 I a i.toNatClampNeg x) L R) : KK G p e Rm s m args below meth c n0 Z pc ls (.int x :: .int i :: .ref a :: st) n I L R := by
  intro H locs arr h1 h2 h3 h4
  have hP := h2.P1 ha (ent_i hk (by omega))
  have hK := F.2.2.2.2.2.2.2.2.1.1
  have han : a < 1000 := Nat.lt_of_lt_of_le ha h2.2.1
  refine W.iast F.1 F.2.1 (hP 0 _ rfl) ((hK.2 0 _ (tys_at (by omega))).1 N (fun j => .int (I a j))) (fun q => by cases q) (by show ¬ (i < 0 ∨ (arrV _ _ _).slots.size ≤ _); rw [arrV_size]; exact hi) rfl rfl hd fun H1 q z oq => ?_
  refine kk H1 _ arr h1 (h2.upd ha z oq (fun b hb => ent_uI hb) ?_) (locs_ok h3 han) h4
  rw [ent_i hk (by omega)]
  show H1[ad G a]? = some (vp_cell _ _)
  rw [q]
  rw [vp_cell_i, vp_cell_i, arrV_store]
  congr 2
  funext k
  by_cases hq : k = i.toNatClampNeg
  · subst hq
    simp [updV, u2, vp_nar]
    try rfl
  · simp [updV, u2, hq]
theorem K_bast (F : FrOK G mi p s m meth c args) {a N : Nat} {i x : Int32} (hd : decode (mcc mi) pc = .ok (.bastore, 1)) (ha : a < n) (hk : kK a = (1, N)) (hi : vp_in i N) (kk : KK G p e Rm s m args below meth c n0 Z (pc + 1) ls st n (u2 I a i.toNatClampNeg (vp_nar .byte x)) L R) : KK G p e Rm s m args below meth c n0 Z pc ls (.int x :: .int i :: .ref a :: st) n I L R := by
  intro H locs arr h1 h2 h3 h4
  have hP := h2.P1 ha (ent_i hk (by omega))
  have hK := F.2.2.2.2.2.2.2.2.1.1
  have han : a < 1000 := Nat.lt_of_lt_of_le ha h2.2.1
  refine W.bast F.1 F.2.1 (hP 0 _ rfl) ((hK.2 1 _ (tys_at (by omega))).1 N (fun j => .int (I a j))) (fun q => by cases q) (by show ¬ (i < 0 ∨ (arrV _ _ _).slots.size ≤ _); rw [arrV_size]; exact hi) rfl rfl hd fun H1 q z oq => ?_
  refine kk H1 _ arr h1 (h2.upd ha z oq (fun b hb => ent_uI hb) ?_) (locs_ok h3 han) h4
  rw [ent_i hk (by omega)]
  show H1[ad G a]? = some (vp_cell _ _)
  rw [q]
  rw [vp_cell_i, vp_cell_i, arrV_store]
  congr 2
  funext k
  by_cases hq : k = i.toNatClampNeg
  · subst hq
    simp [updV, u2, vp_nar]
    try rfl
  · simp [updV, u2, hq]
theorem K_zast (F : FrOK G mi p s m meth c args) {a N : Nat} {i x : Int32} (hd : decode (mcc mi) pc = .ok (.bastore, 1)) (ha : a < n) (hk : kK a = (2, N)) (hi : vp_in i N) (kk : KK G p e Rm s m args below meth c n0 Z (pc + 1) ls st n (u2 I a i.toNatClampNeg (vp_nar .boolean x)) L R) : KK G p e Rm s m args below meth c n0 Z pc ls (.int x :: .int i :: .ref a :: st) n I L R := by
  intro H locs arr h1 h2 h3 h4
  have hP := h2.P1 ha (ent_i hk (by omega))
  have hK := F.2.2.2.2.2.2.2.2.1.1
  have han : a < 1000 := Nat.lt_of_lt_of_le ha h2.2.1
  refine W.zast F.1 F.2.1 (hP 0 _ rfl) ((hK.2 2 _ (tys_at (by omega))).1 N (fun j => .int (I a j))) (fun q => by cases q) (by show ¬ (i < 0 ∨ (arrV _ _ _).slots.size ≤ _); rw [arrV_size]; exact hi) rfl rfl hd fun H1 q z oq => ?_
  refine kk H1 _ arr h1 (h2.upd ha z oq (fun b hb => ent_uI hb) ?_) (locs_ok h3 han) h4
  rw [ent_i hk (by omega)]
  show H1[ad G a]? = some (vp_cell _ _)
  rw [q]
  rw [vp_cell_i, vp_cell_i, arrV_store]
  congr 2
  funext k
  by_cases hq : k = i.toNatClampNeg
  · subst hq
    simp [updV, u2, vp_nar]
    try rfl
  · simp [updV, u2, hq]
theorem K_last (F : FrOK G mi p s m meth c args) {a N : Nat} {i : Int32} {x : Int64} (hd : decode (mcc mi) pc = .ok (.lastore, 1)) (ha : a < n) (hk : kK a = (3, N)) (hi : vp_in i N) (kk : KK G p e Rm s m args below meth c n0 Z (pc + 1) ls st n I (u2 L a i.toNatClampNeg x) R) : KK G p e Rm s m args below meth c n0 Z pc ls (.long x :: .int i :: .ref a :: st) n I L R := by
  intro H locs arr h1 h2 h3 h4
  have hP := h2.P1 ha (ent_l hk)
  have hK := F.2.2.2.2.2.2.2.2.1.1
  have han : a < 1000 := Nat.lt_of_lt_of_le ha h2.2.1
  refine W.last F.1 F.2.1 (hP 0 _ rfl) ((hK.2 3 _ (tys_at (by omega))).1 N (fun j => .long (L a j))) (fun q => by cases q) (by show ¬ (i < 0 ∨ (arrV _ _ _).slots.size ≤ _); rw [arrV_size]; exact hi) rfl rfl hd fun H1 q z oq => ?_
  refine kk H1 _ arr h1 (h2.upd ha z oq (fun b hb => ent_uL hb) ?_) (locs_ok h3 han) h4
  rw [ent_l hk]
  show H1[ad G a]? = some (vp_cell _ _)
  rw [q]
  rw [vp_cell_l, vp_cell_l, arrV_store]
  congr 2
  funext k
  by_cases hq : k = i.toNatClampNeg
  · subst hq
    simp [updV, u2]
  · simp [updV, u2, hq]
end KHEAP
