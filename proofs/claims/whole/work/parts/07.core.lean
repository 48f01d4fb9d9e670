
/-! ===== the abstract machine: cells by number, ints, longs and references by (cell, place) ===== -/
abbrev MI : Type := Nat → Nat → Int32
abbrev ML : Type := Nat → Nat → Int64
abbrev MR : Type := Nat → Nat → Option Nat
/-- what stays for the whole run: launch, classes' numbers and slots, classes of the arrays, the first address, the heap at the start, addresses of what stood before (statics' arrays, texts) -/
abbrev cG : Type := Launch × va_G × (Nat → ClassId) × Nat × Heap × (Nat → Nat)
abbrev gL (G : cG) : Launch := G.1
abbrev gD (G : cG) : va_G := G.2.1
abbrev gC (G : cG) : Nat → ClassId := G.2.2.1
abbrev gB (G : cG) : Nat := G.2.2.2.1
abbrev gH (G : cG) : Heap := G.2.2.2.2.1
abbrev gA (G : cG) : Nat → Nat := G.2.2.2.2.2
def ad (G : cG) (a : Nat) : Nat := if a < 1000 then gB G + a else gA G a
def rv (G : cG) (r : Option Nat) : Value := va_rf (r.map (ad G))
def cv (G : cG) (v : Value) : Value := match v with
  | .ref a => .ref (ad G a)
  | w => w
theorem cv_cat (G : cG) (v : Value) : (cv G v).category = v.category := by cases v <;> rfl
theorem ad_lt {G : cG} {a : Nat} (h : a < 1000) : ad G a = gB G + a := if_pos h
def u2 {α : Type} (f : Nat → Nat → α) (a j : Nat) (v : α) : Nat → Nat → α := fun a' j' => if a' = a ∧ j' = j then v else f a' j'
def vR (r : Option Nat) : Value := match r with
  | none => .null
  | some a => .ref a
theorem cv_vR (G : cG) (r : Option Nat) : cv G (vR r) = rv G r := by cases r <;> rfl
def entF (G : cG) (I : MI) (R : MR) (a ci : Nat) : List Value := (List.range (fN ci)).map (fun k => if fK ci k = 2 then rv G (R a k) else .int (I a k))
def ent (G : cG) (I : MI) (L : ML) (R : MR) (a : Nat) : va_E :=
  if (kK a).1 = 10 then .inr ((kK a).2, entF G I R a (kK a).2)
  else .inl (gC G (kK a).1, (kK a).2, if (kK a).1 ≤ 2 then .inl (I a) else if (kK a).1 = 3 then .inr (.inl (L a)) else .inr (.inr (.inr (.inr (fun j => (R a j).map (ad G))))))
def kT : List FieldType := [.int, .byte, .boolean, .long, .object "TruceLine$Mark", .object "TruceLine$Sheet", .array .int]
def tysG (G : cG) : List (ClassId × FieldType) := [(gC G 0, .int), (gC G 1, .byte), (gC G 2, .boolean), (gC G 3, .long), (gC G 4, .object "TruceLine$Mark"), (gC G 5, .object "TruceLine$Sheet"), (gC G 6, .array .int)]
/-- the world: n cells made; what stood before stays -/
def WD (G : cG) (n : Nat) (I : MI) (L : ML) (R : MR) (H : Heap) : Prop := H.size = gB G + n ∧ n ≤ 1000 ∧ (∀ q, q < gB G → H[q]? = (gH G)[q]?) ∧ ∀ a, a < n → va_at (gD G) vwCl (ad G a, ent G I L R a) H
def sI (a j : Nat) : Int32 := if a = 1000 then ([-1, 0, 0, 1, 3, 2] : List Int32).getD j 0 else if a = 1001 then ([0, 4, 0, 5, 10, 2] : List Int32).getD j 0 else ([4, 3, 1, 99] : List Int32).getD j 0
def lw_good : List Cond := lw_tbl.filter goodWord
def isNestW : Cond → Bool
  | .methodLinkNest _ _ _ _ => true
  | _ => false
def lw_nest : List Cond := lw_tbl.filter isNestW
theorem lw_mem {p : Nat} {w : Cond} (h : wd p = some w) (hg : goodWord w = true) : w ∈ lw_good := List.mem_filter.mpr ⟨wd_in h, hg⟩
theorem lw_goodIn {y : MethodName} {cc : ByteArray} {n : Nat} {r : Option FieldType} {y' : MethodName} {cc' : ByteArray} {n' : Nat} {r' : Option FieldType} (h : Cond.code y' cc' n' r' ∈ lw_good) : GoodIn (.code y cc n r :: lw_good) (.code y' cc' n' r' :: lw_good) := by
  intro w hw
  have hm : w ∈ lw_good := by
    rcases List.mem_cons.mp hw with rfl | hw
    · exact h
    · exact hw
  exact ⟨List.mem_cons_of_mem _ hm, good_of_word (List.mem_filter.mp hm).2⟩
def ksN : List Nat := [56, 4, 3, 5, 4, 4, 5, 6, 5, 2, 3, 3]
def ksB : List (List Int32) := [[98, 114, 101, 97, 99, 104, 32, 115, 116, 114, 105, 112, 32, 97, 110, 100, 32, 48, 32, 60, 32, 115, 105, 122, 101, 32, 111, 114, 32, 102, 97, 114, 32, 60, 32, 48, 32, 59, 32, 115, 104, 111, 111, 116, 32, 48, 32, 60, 32, 104, 101, 97, 114, 100, 32, 59], [115, 105, 122, 101], [102, 97, 114], [115, 116, 114, 105, 112], [104, 111, 117, 114], [107, 105, 110, 100], [104, 101, 97, 114, 100], [98, 114, 101, 97, 99, 104], [115, 104, 111, 111, 116], [111, 114], [97, 110, 100], [110, 111, 116]]
/-- the string constants' objects, and what the members of String read -/
def StrOK (G : cG) (s : State) : Prop :=
  vk_S 12 ksN ksB (fun k => gA G (1010 + k)) (fun k => gA G (1030 + k)) (fun q => gB G ≤ q) s (gH G) ∧ va_Z "java/lang/String" "COMPACT_STRINGS" "Z" (.int 1) (fun q => gB G ≤ q) s (gH G) ∧ (va_Z "jdk/internal/util/Preconditions" "SIOOBE_FORMATTER" "Ljava/util/function/BiFunction;" .null (fun q => gB G ≤ q) s (gH G) ∨ va_Z "jdk/internal/util/Preconditions" "SIOOBE_FORMATTER" "Ljava/util/function/BiFunction;" (.ref (gA G 1050)) (fun q => gB G ≤ q) s (gH G))
theorem StrOK.moved {G : cG} {s U : State} (hv : s.vm.Alike U.vm) (h : StrOK G s) : StrOK G U := by
  obtain ⟨h1, h2, h3⟩ := h
  exact ⟨h1.moved hv, h2.moved hv, h3.elim (fun q => Or.inl (q.moved hv)) (fun q => Or.inr (q.moved hv))⟩
/-- a machine's facts that every call keeps -/
def EnvOK (G : cG) (s : State) : Prop :=
  va_K (gD G) vwCl (tysG G) s ∧ (∀ w ∈ lw_nest, va_Nw w s) ∧
  (va_Z "TruceLine$Mark" "UNDER" "[I" (.ref (gA G 1000)) (fun q => gB G ≤ q) s (gH G) ∧ va_Z "TruceLine$Mark" "EARS" "[I" (.ref (gA G 1001)) (fun q => gB G ≤ q) s (gH G) ∧ va_Z "TruceLine$Incidents" "LOUDNESS" "[I" (.ref (gA G 1002)) (fun q => gB G ≤ q) s (gH G)) ∧
  (∀ k, k < 3 → va_T .int (gA G (1000 + k)) (kK (1000 + k)).2 (fun j => .int (sI (1000 + k) j)) (fun q => gB G ≤ q) s (gH G)) ∧
  (∀ k, k < 12 → va_Nw (.stringRef ((ksL.map (fun q => if q.1 = 9 then RX9 else RX6)).getD k "") ((ksL.map (fun q => q.2.1)).getD k 0) (ksT.getD k "")) s ∧ (Term.string ((ksL.map (fun q => if q.1 = 9 then RX9 else RX6)).getD k "") ((ksL.map (fun q => q.2.1)).getD k 0)).eval #[] s none [] s = some (.ref (gA G (1010 + k)))) ∧
  va_AO "TruceLine$Mark" s ∧ va_AO "TruceLine$Sheet" s ∧ va_AOA .int s ∧ StrOK G s
def FrOK (G : cG) (mi : Nat) (p : Program) (s : State) (m : MethodId) (meth : Method) (c : Code) (args : Array Value) : Prop :=
  p.tables.exec = Jvm.exec ∧ c.code = mcc mi ∧ c.maxLocals = mnl mi ∧ meth.sig.returnType = mrt mi ∧ meth.locks = false ∧ meth.name = (my mi).name ∧ s.vm.findClass (my mi).cls = some m.cls ∧ (∀ w ∈ lw_good, w.before args s = true) ∧ EnvOK G s ∧ (∀ q, q < gB G → s.heap[q]? = (gH G)[q]?) ∧ gB G ≤ s.heap.size
/-! locals by place -/
def lG : List (Option Value) → Nat → Option Value
  | [], _ => none
  | a :: _, 0 => a
  | _ :: l, n + 1 => lG l n
def lS : List (Option Value) → Nat → Option Value → List (Option Value)
  | [], _, _ => []
  | _ :: l, 0, v => v :: l
  | a :: l, n + 1, v => a :: lS l n v
def okS (ls : List (Option Value)) (i : Nat) : Prop := match i with
  | 0 => True
  | j + 1 => match lG ls j with
    | some (.long _) => False
    | some (.double _) => False
    | _ => True
def toL (G : cG) (ls : List (Option Value)) : List (Nat × Value) := (List.range ls.length).filterMap (fun j => (lG ls j).map (fun w => (j, cv G w)))
def lvR (G : cG) (arr : Array Slot) (nL : Nat) (ls : List (Option Value)) : Prop := arr.size = nL ∧ lv_wf arr ∧ ∀ i v, lG ls i = some v → arr[i]? = some (.val (cv G v))
theorem lG_lt {ls : List (Option Value)} {i : Nat} {v : Value} (h : lG ls i = some v) : i < ls.length := by
  induction ls generalizing i with
  | nil => cases h
  | cons a l ih =>
    cases i with
    | zero => exact Nat.succ_pos _
    | succ n => exact Nat.succ_lt_succ (ih h)
theorem lG_lS {ls : List (Option Value)} {i j : Nat} {x : Option Value} {w : Value} (h : lG (lS ls i x) j = some w) : (j = i ∧ x = some w) ∨ (j ≠ i ∧ lG ls j = some w) := by
  induction ls generalizing i j with
  | nil => cases h
  | cons a l ih =>
    cases i with
    | zero =>
      cases j with
      | zero => exact Or.inl ⟨rfl, h⟩
      | succ n => exact Or.inr ⟨by omega, h⟩
    | succ k =>
      cases j with
      | zero => exact Or.inr ⟨by omega, h⟩
      | succ n =>
        rcases ih (i := k) (j := n) h with ⟨e, h1⟩ | ⟨e, h1⟩
        · exact Or.inl ⟨by omega, h1⟩
        · exact Or.inr ⟨by omega, h1⟩
theorem mem_toL {G : cG} {ls : List (Option Value)} {i : Nat} {w : Value} (h : lG ls i = some w) : (i, cv G w) ∈ toL G ls := by
  unfold toL
  exact List.mem_filterMap.mpr ⟨i, List.mem_range.mpr (lG_lt h), by rw [h]; rfl⟩
theorem lvR.has {G : cG} {arr : Array Slot} {nL : Nat} {ls : List (Option Value)} (h : lvR G arr nL ls) : lv_has arr nL (toL G ls) := by
  refine ⟨h.1, h.2.1, fun q hq => ?_⟩
  unfold toL at hq
  obtain ⟨j, -, hj⟩ := List.mem_filterMap.mp hq
  cases hg : lG ls j with
  | none => rw [hg] at hj; cases hj
  | some w =>
    rw [hg] at hj
    cases hj
    exact h.2.2 j w hg
theorem okS_cat {ls : List (Option Value)} {i j : Nat} {w : Value} (h : okS ls i) (hj : j + 1 = i) (hw : lG ls j = some w) : ¬ w.category = 2 := by
  subst hj
  unfold okS at h
  simp only [hw] at h
  cases w <;> simp_all [Value.category]
theorem lvR.st1 {G : cG} {arr' : Array Slot} {nL i : Nat} {ls : List (Option Value)} {v : Value} (h : lv_has arr' nL ((i, cv G v) :: (toL G ls).filter (fun q => !(q.1 == i) && !(q.1 + 1 == i && q.2.category == 2)))) (hok : okS ls i) : lvR G arr' nL (lS ls i (some v)) := by
  refine ⟨h.1, h.2.1, fun j w hw => ?_⟩
  rcases lG_lS hw with ⟨rfl, e⟩ | ⟨hne, hw⟩
  · cases e
    exact h.2.2 (j, cv G v) List.mem_cons_self
  · refine h.2.2 (j, cv G w) (List.mem_cons_of_mem _ (List.mem_filter.mpr ⟨mem_toL hw, ?_⟩))
    have : ¬ (j + 1 = i ∧ w.category = 2) := fun q => okS_cat hok q.1 hw q.2
    simp only [cv_cat]
    simp [hne]
    omega
theorem lvR.st2 {G : cG} {arr' : Array Slot} {nL i : Nat} {ls : List (Option Value)} {v : Value} (h : lv_has arr' nL ((i, cv G v) :: (toL G ls).filter (fun q => !(q.1 == i) && (!(q.1 == i + 1) && !(q.1 + 1 == i && q.2.category == 2))))) (hok : okS ls i) : lvR G arr' nL (lS (lS ls i (some v)) (i + 1) none) := by
  refine ⟨h.1, h.2.1, fun j w hw => ?_⟩
  rcases lG_lS hw with ⟨rfl, e⟩ | ⟨hne1, hw⟩
  · cases e
  rcases lG_lS hw with ⟨rfl, e⟩ | ⟨hne, hw⟩
  · cases e
    exact h.2.2 (j, cv G v) List.mem_cons_self
  · refine h.2.2 (j, cv G w) (List.mem_cons_of_mem _ (List.mem_filter.mpr ⟨mem_toL hw, ?_⟩))
    have : ¬ (j + 1 = i ∧ w.category = 2) := fun q => okS_cat hok q.1 hw q.2
    simp only [cv_cat]
    simp [hne, hne1]
    omega
theorem lvR.weak {G : cG} {arr : Array Slot} {nL : Nat} {ls ls' : List (Option Value)} (h : lvR G arr nL ls) (hw : ∀ i v, lG ls' i = some v → lG ls i = some v) : lvR G arr nL ls' := ⟨h.1, h.2.1, fun i v q => h.2.2 i v (hw i v q)⟩
/-! the judgement: from here the machine comes to Z -/
def KK (G : cG) (p : Program) (e : Env) (Rm : Room) (s : State) (m : MethodId) (args : Array Value) (below : List Frame) (meth : Method) (c : Code) (n0 : Nat) (Z : State → Prop) (pc : Nat) (ls : List (Option Value)) (st : List Value) (n : Nat) (I : MI) (L : ML) (R : MR) : Prop :=
  ∀ (H : Heap) (locs : List Loc) (arr : Array Slot), lvR G arr c.maxLocals ls → WD G n I L R H → (∀ q ∈ locs, gB G ≤ q.base) → n0 ≤ n → W p (gL G) e Rm s m args below meth c H locs (n - n0) (szL n - szL n0) Z (F0 m pc arr (st.map (cv G)))
theorem KK.weak {G : cG} {p : Program} {e : Env} {Rm : Room} {s : State} {m : MethodId} {args : Array Value} {below : List Frame} {meth : Method} {c : Code} {n0 : Nat} {Z : State → Prop} {pc : Nat} {ls ls' : List (Option Value)} {st : List Value} {n : Nat} {I : MI} {L : ML} {R : MR} (k : KK G p e Rm s m args below meth c n0 Z pc ls' st n I L R) (hw : ∀ i v, lG ls' i = some v → lG ls i = some v) : KK G p e Rm s m args below meth c n0 Z pc ls st n I L R :=
  fun H locs arr h1 h2 h3 h4 => k H locs arr (h1.weak hw) h2 h3 h4
section KROWS
variable {G : cG} {mi : Nat} {p : Program} {e : Env} {Rm : Room} {s : State} {m : MethodId} {args : Array Value} {below : List Frame} {meth : Method} {c : Code} {n0 : Nat} {Z : State → Prop} {pc : Nat} {ls : List (Option Value)} {st : List Value} {n : Nat} {I : MI} {L : ML} {R : MR}
theorem K_iconst (F : FrOK G mi p s m meth c args) {k : Int} (hd : decode (mcc mi) pc = .ok (.iconst k, 1)) (kk : KK G p e Rm s m args below meth c n0 Z (pc + 1) ls (.int (Int32.ofInt k) :: st) n I L R) : KK G p e Rm s m args below meth c n0 Z pc ls st n I L R :=
  fun H locs arr h1 h2 h3 h4 => lv_iconst F.1 F.2.1 hd rfl (kk H locs arr h1 h2 h3 h4)
def i8 (k : Int) : Int32 := (Int8.ofInt k).toInt32
def i16 (k : Int) : Int32 := (Int16.ofInt k).toInt32
theorem K_bipush (F : FrOK G mi p s m meth c args) {k : Int} (hd : decode (mcc mi) pc = .ok (.bipush k, 2)) (kk : KK G p e Rm s m args below meth c n0 Z (pc + 2) ls (.int (i8 k) :: st) n I L R) : KK G p e Rm s m args below meth c n0 Z pc ls st n I L R :=
  fun H locs arr h1 h2 h3 h4 => lv_bipush F.1 F.2.1 hd rfl (kk H locs arr h1 h2 h3 h4)
theorem K_sipush (F : FrOK G mi p s m meth c args) {k : Int} (hd : decode (mcc mi) pc = .ok (.sipush k, 3)) (kk : KK G p e Rm s m args below meth c n0 Z (pc + 3) ls (.int (i16 k) :: st) n I L R) : KK G p e Rm s m args below meth c n0 Z pc ls st n I L R :=
  fun H locs arr h1 h2 h3 h4 => lv_sipush F.1 F.2.1 hd rfl (kk H locs arr h1 h2 h3 h4)

theorem K_iload_n (F : FrOK G mi p s m meth c args) {k : Fin 4} {x : Int32} (hd : decode (mcc mi) pc = .ok (.iload_n k, 1)) (hl : lG ls k = some (.int x)) (kk : KK G p e Rm s m args below meth c n0 Z (pc + 1) ls (.int x :: st) n I L R) : KK G p e Rm s m args below meth c n0 Z pc ls st n I L R :=
  fun H locs arr h1 h2 h3 h4 => lv_iload_n F.1 F.2.1 hd rfl (h1.2.2 _ _ hl) (kk H locs arr h1 h2 h3 h4)
theorem K_iload (F : FrOK G mi p s m meth c args) {k : Nat} {x : Int32} (hd : decode (mcc mi) pc = .ok (.iload k, 2)) (hl : lG ls k = some (.int x)) (kk : KK G p e Rm s m args below meth c n0 Z (pc + 2) ls (.int x :: st) n I L R) : KK G p e Rm s m args below meth c n0 Z pc ls st n I L R :=
  fun H locs arr h1 h2 h3 h4 => lv_iload F.1 F.2.1 hd (h1.2.2 _ _ hl) (kk H locs arr h1 h2 h3 h4)
theorem K_lload_n (F : FrOK G mi p s m meth c args) {k : Fin 4} {x : Int64} (hd : decode (mcc mi) pc = .ok (.lload_n k, 1)) (hl : lG ls k = some (.long x)) (kk : KK G p e Rm s m args below meth c n0 Z (pc + 1) ls (.long x :: st) n I L R) : KK G p e Rm s m args below meth c n0 Z pc ls st n I L R :=
  fun H locs arr h1 h2 h3 h4 => lv_lload_n F.1 F.2.1 hd rfl (h1.2.2 _ _ hl) (kk H locs arr h1 h2 h3 h4)
theorem K_lload (F : FrOK G mi p s m meth c args) {k : Nat} {x : Int64} (hd : decode (mcc mi) pc = .ok (.lload k, 2)) (hl : lG ls k = some (.long x)) (kk : KK G p e Rm s m args below meth c n0 Z (pc + 2) ls (.long x :: st) n I L R) : KK G p e Rm s m args below meth c n0 Z pc ls st n I L R :=
  fun H locs arr h1 h2 h3 h4 => lv_lload F.1 F.2.1 hd (h1.2.2 _ _ hl) (kk H locs arr h1 h2 h3 h4)
theorem K_aload_n (F : FrOK G mi p s m meth c args) {k : Fin 4} {x : Nat} (hd : decode (mcc mi) pc = .ok (.aload_n k, 1)) (hl : lG ls k = some (.ref x)) (kk : KK G p e Rm s m args below meth c n0 Z (pc + 1) ls (.ref x :: st) n I L R) : KK G p e Rm s m args below meth c n0 Z pc ls st n I L R :=
  fun H locs arr h1 h2 h3 h4 => lv_aload_n F.1 F.2.1 hd rfl (h1.2.2 _ _ hl) (kk H locs arr h1 h2 h3 h4)
theorem K_aload (F : FrOK G mi p s m meth c args) {k : Nat} {x : Nat} (hd : decode (mcc mi) pc = .ok (.aload k, 2)) (hl : lG ls k = some (.ref x)) (kk : KK G p e Rm s m args below meth c n0 Z (pc + 2) ls (.ref x :: st) n I L R) : KK G p e Rm s m args below meth c n0 Z pc ls st n I L R :=
  fun H locs arr h1 h2 h3 h4 => lv_aload F.1 F.2.1 hd (h1.2.2 _ _ hl) (kk H locs arr h1 h2 h3 h4)
theorem K_istore_n (F : FrOK G mi p s m meth c args) {k : Fin 4} {x : Int32} (hd : decode (mcc mi) pc = .ok (.istore_n k, 1)) (hn : (k : Nat) < mnl mi) (hok : okS ls k) (kk : KK G p e Rm s m args below meth c n0 Z (pc + 1) (lS ls k (some (.int x))) st n I L R) : KK G p e Rm s m args below meth c n0 Z pc ls (.int x :: st) n I L R :=
  fun H locs arr h1 h2 h3 h4 => lv_istore_n (lv := toL G ls) F.1 F.2.1 hd rfl h1.has (by rw [F.2.2.1]; exact hn) rfl (fun ls2 hl => kk H locs ls2 (lvR.st1 (v := .int x) hl hok) h2 h3 h4)
theorem K_istore (F : FrOK G mi p s m meth c args) {k : Nat} {x : Int32} (hd : decode (mcc mi) pc = .ok (.istore k, 2)) (hn : (k : Nat) < mnl mi) (hok : okS ls k) (kk : KK G p e Rm s m args below meth c n0 Z (pc + 2) (lS ls k (some (.int x))) st n I L R) : KK G p e Rm s m args below meth c n0 Z pc ls (.int x :: st) n I L R :=
  fun H locs arr h1 h2 h3 h4 => lv_istore (lv := toL G ls) F.1 F.2.1 hd h1.has (by rw [F.2.2.1]; exact hn) rfl (fun ls2 hl => kk H locs ls2 (lvR.st1 (v := .int x) hl hok) h2 h3 h4)
theorem K_lstore_n (F : FrOK G mi p s m meth c args) {k : Fin 4} {x : Int64} (hd : decode (mcc mi) pc = .ok (.lstore_n k, 1)) (hn : (k : Nat) + 1 < mnl mi) (hok : okS ls k) (kk : KK G p e Rm s m args below meth c n0 Z (pc + 1) (lS (lS ls k (some (.long x))) (k + 1) none) st n I L R) : KK G p e Rm s m args below meth c n0 Z pc ls (.long x :: st) n I L R :=
  fun H locs arr h1 h2 h3 h4 => lv_lstore_n (lv := toL G ls) F.1 F.2.1 hd rfl h1.has (by rw [F.2.2.1]; exact hn) rfl (fun ls2 hl => kk H locs ls2 (lvR.st2 (v := .long x) hl hok) h2 h3 h4)
theorem K_lstore (F : FrOK G mi p s m meth c args) {k : Nat} {x : Int64} (hd : decode (mcc mi) pc = .ok (.lstore k, 2)) (hn : (k : Nat) + 1 < mnl mi) (hok : okS ls k) (kk : KK G p e Rm s m args below meth c n0 Z (pc + 2) (lS (lS ls k (some (.long x))) (k + 1) none) st n I L R) : KK G p e Rm s m args below meth c n0 Z pc ls (.long x :: st) n I L R :=
  fun H locs arr h1 h2 h3 h4 => lv_lstore (lv := toL G ls) F.1 F.2.1 hd h1.has (by rw [F.2.2.1]; exact hn) rfl (fun ls2 hl => kk H locs ls2 (lvR.st2 (v := .long x) hl hok) h2 h3 h4)
theorem K_astore_n (F : FrOK G mi p s m meth c args) {k : Fin 4} {x : Nat} (hd : decode (mcc mi) pc = .ok (.astore_n k, 1)) (hn : (k : Nat) < mnl mi) (hok : okS ls k) (kk : KK G p e Rm s m args below meth c n0 Z (pc + 1) (lS ls k (some (.ref x))) st n I L R) : KK G p e Rm s m args below meth c n0 Z pc ls (.ref x :: st) n I L R :=
  fun H locs arr h1 h2 h3 h4 => lv_astore_n (lv := toL G ls) F.1 F.2.1 hd rfl h1.has (by rw [F.2.2.1]; exact hn) rfl (fun ls2 hl => kk H locs ls2 (lvR.st1 (v := .ref x) hl hok) h2 h3 h4)
theorem K_astore (F : FrOK G mi p s m meth c args) {k : Nat} {x : Nat} (hd : decode (mcc mi) pc = .ok (.astore k, 2)) (hn : (k : Nat) < mnl mi) (hok : okS ls k) (kk : KK G p e Rm s m args below meth c n0 Z (pc + 2) (lS ls k (some (.ref x))) st n I L R) : KK G p e Rm s m args below meth c n0 Z pc ls (.ref x :: st) n I L R :=
  fun H locs arr h1 h2 h3 h4 => lv_astore (lv := toL G ls) F.1 F.2.1 hd h1.has (by rw [F.2.2.1]; exact hn) rfl (fun ls2 hl => kk H locs ls2 (lvR.st1 (v := .ref x) hl hok) h2 h3 h4)
theorem K_iinc (F : FrOK G mi p s m meth c args) {i : Nat} {k : Int} {x : Int32} (hd : decode (mcc mi) pc = .ok (.iinc i k, 3)) (hl : lG ls i = some (.int x)) (hn : i < mnl mi) (hok : okS ls i) (kk : KK G p e Rm s m args below meth c n0 Z (pc + 3) (lS ls i (some (.int (x + Int32.ofInt k)))) st n I L R) : KK G p e Rm s m args below meth c n0 Z pc ls st n I L R := by
  intro H locs arr h1 h2 h3 h4
  obtain ⟨j, hj⟩ := List.getElem?_of_mem (mem_toL (G := G) hl)
  exact lv_iinc (k := j) (x := x) (lv := toL G ls) F.1 F.2.1 hd h1.has hj rfl (by rw [F.2.2.1]; exact hn) rfl (fun ls2 hl2 => kk H locs ls2 (lvR.st1 (v := .int (x + Int32.ofInt k)) hl2 hok) h2 h3 h4)
theorem K_iadd (F : FrOK G mi p s m meth c args) {x y : Int32} (hd : decode (mcc mi) pc = .ok (.iadd, 1))  (kk : KK G p e Rm s m args below meth c n0 Z (pc + 1) ls (.int (x + y) :: st) n I L R) : KK G p e Rm s m args below meth c n0 Z pc ls (.int y :: .int x :: st) n I L R :=
  fun H locs arr h1 h2 h3 h4 => lv_iadd F.1 F.2.1 hd (kk H locs arr h1 h2 h3 h4)
theorem K_isub (F : FrOK G mi p s m meth c args) {x y : Int32} (hd : decode (mcc mi) pc = .ok (.isub, 1))  (kk : KK G p e Rm s m args below meth c n0 Z (pc + 1) ls (.int (x - y) :: st) n I L R) : KK G p e Rm s m args below meth c n0 Z pc ls (.int y :: .int x :: st) n I L R :=
  fun H locs arr h1 h2 h3 h4 => lv_isub F.1 F.2.1 hd (kk H locs arr h1 h2 h3 h4)
theorem K_imul (F : FrOK G mi p s m meth c args) {x y : Int32} (hd : decode (mcc mi) pc = .ok (.imul, 1))  (kk : KK G p e Rm s m args below meth c n0 Z (pc + 1) ls (.int (x * y) :: st) n I L R) : KK G p e Rm s m args below meth c n0 Z pc ls (.int y :: .int x :: st) n I L R :=
  fun H locs arr h1 h2 h3 h4 => lv_imul F.1 F.2.1 hd (kk H locs arr h1 h2 h3 h4)
theorem K_iand (F : FrOK G mi p s m meth c args) {x y : Int32} (hd : decode (mcc mi) pc = .ok (.iand, 1))  (kk : KK G p e Rm s m args below meth c n0 Z (pc + 1) ls (.int (x &&& y) :: st) n I L R) : KK G p e Rm s m args below meth c n0 Z pc ls (.int y :: .int x :: st) n I L R :=
  fun H locs arr h1 h2 h3 h4 => lv_iand F.1 F.2.1 hd (kk H locs arr h1 h2 h3 h4)
theorem K_ior (F : FrOK G mi p s m meth c args) {x y : Int32} (hd : decode (mcc mi) pc = .ok (.ior, 1))  (kk : KK G p e Rm s m args below meth c n0 Z (pc + 1) ls (.int (x ||| y) :: st) n I L R) : KK G p e Rm s m args below meth c n0 Z pc ls (.int y :: .int x :: st) n I L R :=
  fun H locs arr h1 h2 h3 h4 => lv_ior F.1 F.2.1 hd (kk H locs arr h1 h2 h3 h4)
theorem K_ixor (F : FrOK G mi p s m meth c args) {x y : Int32} (hd : decode (mcc mi) pc = .ok (.ixor, 1))  (kk : KK G p e Rm s m args below meth c n0 Z (pc + 1) ls (.int (x ^^^ y) :: st) n I L R) : KK G p e Rm s m args below meth c n0 Z pc ls (.int y :: .int x :: st) n I L R :=
  fun H locs arr h1 h2 h3 h4 => lv_ixor F.1 F.2.1 hd (kk H locs arr h1 h2 h3 h4)
theorem K_ishl (F : FrOK G mi p s m meth c args) {x y : Int32} (hd : decode (mcc mi) pc = .ok (.ishl, 1))  (kk : KK G p e Rm s m args below meth c n0 Z (pc + 1) ls (.int (x <<< (y &&& 31)) :: st) n I L R) : KK G p e Rm s m args below meth c n0 Z pc ls (.int y :: .int x :: st) n I L R :=
  fun H locs arr h1 h2 h3 h4 => lv_ishl F.1 F.2.1 hd (kk H locs arr h1 h2 h3 h4)
theorem K_ishr (F : FrOK G mi p s m meth c args) {x y : Int32} (hd : decode (mcc mi) pc = .ok (.ishr, 1))  (kk : KK G p e Rm s m args below meth c n0 Z (pc + 1) ls (.int (x >>> (y &&& 31)) :: st) n I L R) : KK G p e Rm s m args below meth c n0 Z pc ls (.int y :: .int x :: st) n I L R :=
  fun H locs arr h1 h2 h3 h4 => lv_ishr F.1 F.2.1 hd (kk H locs arr h1 h2 h3 h4)
theorem K_iushr (F : FrOK G mi p s m meth c args) {x y : Int32} (hd : decode (mcc mi) pc = .ok (.iushr, 1))  (kk : KK G p e Rm s m args below meth c n0 Z (pc + 1) ls (.int (x.toUInt32 >>> (y.toUInt32 &&& Int32.toUInt32 31)).toInt32 :: st) n I L R) : KK G p e Rm s m args below meth c n0 Z pc ls (.int y :: .int x :: st) n I L R :=
  fun H locs arr h1 h2 h3 h4 => lv_iushr F.1 F.2.1 hd rfl (kk H locs arr h1 h2 h3 h4)
theorem K_idiv (F : FrOK G mi p s m meth c args) {x y : Int32} (hd : decode (mcc mi) pc = .ok (.idiv, 1)) (hy : ¬ y = 0) (kk : KK G p e Rm s m args below meth c n0 Z (pc + 1) ls (.int (x / y) :: st) n I L R) : KK G p e Rm s m args below meth c n0 Z pc ls (.int y :: .int x :: st) n I L R :=
  fun H locs arr h1 h2 h3 h4 => lv_idiv F.1 F.2.1 hd hy (kk H locs arr h1 h2 h3 h4)
theorem K_irem (F : FrOK G mi p s m meth c args) {x y : Int32} (hd : decode (mcc mi) pc = .ok (.irem, 1)) (hy : ¬ y = 0) (kk : KK G p e Rm s m args below meth c n0 Z (pc + 1) ls (.int (x - x / y * y) :: st) n I L R) : KK G p e Rm s m args below meth c n0 Z pc ls (.int y :: .int x :: st) n I L R :=
  fun H locs arr h1 h2 h3 h4 => lv_irem F.1 F.2.1 hd hy (kk H locs arr h1 h2 h3 h4)
theorem K_ineg (F : FrOK G mi p s m meth c args) {x : Int32} (hd : decode (mcc mi) pc = .ok (.ineg, 1))  (kk : KK G p e Rm s m args below meth c n0 Z (pc + 1) ls (.int (-x) :: st) n I L R) : KK G p e Rm s m args below meth c n0 Z pc ls (.int x :: st) n I L R :=
  fun H locs arr h1 h2 h3 h4 => lv_ineg F.1 F.2.1 hd (kk H locs arr h1 h2 h3 h4)
theorem K_i2b (F : FrOK G mi p s m meth c args) {x : Int32} (hd : decode (mcc mi) pc = .ok (.i2b, 1))  (kk : KK G p e Rm s m args below meth c n0 Z (pc + 1) ls (.int (x.toInt8.toInt32) :: st) n I L R) : KK G p e Rm s m args below meth c n0 Z pc ls (.int x :: st) n I L R :=
  fun H locs arr h1 h2 h3 h4 => lv_i2b F.1 F.2.1 hd rfl (kk H locs arr h1 h2 h3 h4)
theorem K_i2s (F : FrOK G mi p s m meth c args) {x : Int32} (hd : decode (mcc mi) pc = .ok (.i2s, 1))  (kk : KK G p e Rm s m args below meth c n0 Z (pc + 1) ls (.int (x.toInt16.toInt32) :: st) n I L R) : KK G p e Rm s m args below meth c n0 Z pc ls (.int x :: st) n I L R :=
  fun H locs arr h1 h2 h3 h4 => lv_i2s F.1 F.2.1 hd rfl (kk H locs arr h1 h2 h3 h4)
theorem K_i2l (F : FrOK G mi p s m meth c args) {x : Int32} (hd : decode (mcc mi) pc = .ok (.i2l, 1))  (kk : KK G p e Rm s m args below meth c n0 Z (pc + 1) ls (.long x.toInt64 :: st) n I L R) : KK G p e Rm s m args below meth c n0 Z pc ls (.int x :: st) n I L R :=
  fun H locs arr h1 h2 h3 h4 => lv_i2l F.1 F.2.1 hd rfl (kk H locs arr h1 h2 h3 h4)
theorem K_l2i (F : FrOK G mi p s m meth c args) {x : Int64} (hd : decode (mcc mi) pc = .ok (.l2i, 1))  (kk : KK G p e Rm s m args below meth c n0 Z (pc + 1) ls (.int x.toInt32 :: st) n I L R) : KK G p e Rm s m args below meth c n0 Z pc ls (.long x :: st) n I L R :=
  fun H locs arr h1 h2 h3 h4 => lv_l2i F.1 F.2.1 hd rfl (kk H locs arr h1 h2 h3 h4)
theorem K_ladd (F : FrOK G mi p s m meth c args) {x y : Int64} (hd : decode (mcc mi) pc = .ok (.ladd, 1))  (kk : KK G p e Rm s m args below meth c n0 Z (pc + 1) ls (.long (x + y) :: st) n I L R) : KK G p e Rm s m args below meth c n0 Z pc ls (.long y :: .long x :: st) n I L R :=
  fun H locs arr h1 h2 h3 h4 => lv_ladd F.1 F.2.1 hd (kk H locs arr h1 h2 h3 h4)
theorem K_lsub (F : FrOK G mi p s m meth c args) {x y : Int64} (hd : decode (mcc mi) pc = .ok (.lsub, 1))  (kk : KK G p e Rm s m args below meth c n0 Z (pc + 1) ls (.long (x - y) :: st) n I L R) : KK G p e Rm s m args below meth c n0 Z pc ls (.long y :: .long x :: st) n I L R :=
  fun H locs arr h1 h2 h3 h4 => lv_lsub F.1 F.2.1 hd (kk H locs arr h1 h2 h3 h4)
theorem K_land (F : FrOK G mi p s m meth c args) {x y : Int64} (hd : decode (mcc mi) pc = .ok (.land, 1))  (kk : KK G p e Rm s m args below meth c n0 Z (pc + 1) ls (.long (x &&& y) :: st) n I L R) : KK G p e Rm s m args below meth c n0 Z pc ls (.long y :: .long x :: st) n I L R :=
  fun H locs arr h1 h2 h3 h4 => lv_land F.1 F.2.1 hd (kk H locs arr h1 h2 h3 h4)
theorem K_lor (F : FrOK G mi p s m meth c args) {x y : Int64} (hd : decode (mcc mi) pc = .ok (.lor, 1))  (kk : KK G p e Rm s m args below meth c n0 Z (pc + 1) ls (.long (x ||| y) :: st) n I L R) : KK G p e Rm s m args below meth c n0 Z pc ls (.long y :: .long x :: st) n I L R :=
  fun H locs arr h1 h2 h3 h4 => lv_lor F.1 F.2.1 hd (kk H locs arr h1 h2 h3 h4)
theorem K_lxor (F : FrOK G mi p s m meth c args) {x y : Int64} (hd : decode (mcc mi) pc = .ok (.lxor, 1))  (kk : KK G p e Rm s m args below meth c n0 Z (pc + 1) ls (.long (x ^^^ y) :: st) n I L R) : KK G p e Rm s m args below meth c n0 Z pc ls (.long y :: .long x :: st) n I L R :=
  fun H locs arr h1 h2 h3 h4 => lv_lxor F.1 F.2.1 hd (kk H locs arr h1 h2 h3 h4)
theorem K_lshl (F : FrOK G mi p s m meth c args) {x : Int64} {y : Int32} (hd : decode (mcc mi) pc = .ok (.lshl, 1))  (kk : KK G p e Rm s m args below meth c n0 Z (pc + 1) ls (.long (x <<< (y.toInt64 &&& 63)) :: st) n I L R) : KK G p e Rm s m args below meth c n0 Z pc ls (.int y :: .long x :: st) n I L R :=
  fun H locs arr h1 h2 h3 h4 => lv_lshl F.1 F.2.1 hd rfl (kk H locs arr h1 h2 h3 h4)
theorem K_lshr (F : FrOK G mi p s m meth c args) {x : Int64} {y : Int32} (hd : decode (mcc mi) pc = .ok (.lshr, 1))  (kk : KK G p e Rm s m args below meth c n0 Z (pc + 1) ls (.long (x >>> (y.toInt64 &&& 63)) :: st) n I L R) : KK G p e Rm s m args below meth c n0 Z pc ls (.int y :: .long x :: st) n I L R :=
  fun H locs arr h1 h2 h3 h4 => lv_lshr F.1 F.2.1 hd rfl (kk H locs arr h1 h2 h3 h4)
theorem K_lushr (F : FrOK G mi p s m meth c args) {x : Int64} {y : Int32} (hd : decode (mcc mi) pc = .ok (.lushr, 1))  (kk : KK G p e Rm s m args below meth c n0 Z (pc + 1) ls (.long ((x.toUInt64 >>> (y.toInt64.toUInt64 &&& Int64.toUInt64 63)).toInt64) :: st) n I L R) : KK G p e Rm s m args below meth c n0 Z pc ls (.int y :: .long x :: st) n I L R :=
  fun H locs arr h1 h2 h3 h4 => lv_lushr F.1 F.2.1 hd rfl (kk H locs arr h1 h2 h3 h4)
theorem K_lcmp (F : FrOK G mi p s m meth c args) {x y : Int64} (hd : decode (mcc mi) pc = .ok (.lcmp, 1))  (kk : KK G p e Rm s m args below meth c n0 Z (pc + 1) ls (.int (lg_cmp x y) :: st) n I L R) : KK G p e Rm s m args below meth c n0 Z pc ls (.long y :: .long x :: st) n I L R :=
  fun H locs arr h1 h2 h3 h4 => W.lcmp F.1 F.2.1 hd (kk H locs arr h1 h2 h3 h4)
theorem K_lconst (F : FrOK G mi p s m meth c args) {k : Fin 2} (hd : decode (mcc mi) pc = .ok (.lconst k, 1))  (kk : KK G p e Rm s m args below meth c n0 Z (pc + 1) ls (.long (Int64.ofNat k) :: st) n I L R) : KK G p e Rm s m args below meth c n0 Z pc ls st n I L R :=
  fun H locs arr h1 h2 h3 h4 => lv_lconst F.1 F.2.1 hd rfl (kk H locs arr h1 h2 h3 h4)
theorem K_dup (F : FrOK G mi p s m meth c args) {v : Value} (hd : decode (mcc mi) pc = .ok (.dup, 1)) (hv : v.category = 1) (kk : KK G p e Rm s m args below meth c n0 Z (pc + 1) ls (v :: v :: st) n I L R) : KK G p e Rm s m args below meth c n0 Z pc ls (v :: st) n I L R :=
  fun H locs arr h1 h2 h3 h4 => lv_dup F.1 F.2.1 hd (by rw [cv_cat]; exact hv) (kk H locs arr h1 h2 h3 h4)
theorem K_pop (F : FrOK G mi p s m meth c args) {v : Value} (hd : decode (mcc mi) pc = .ok (.pop, 1)) (hv : v.category = 1) (kk : KK G p e Rm s m args below meth c n0 Z (pc + 1) ls st n I L R) : KK G p e Rm s m args below meth c n0 Z pc ls (v :: st) n I L R :=
  fun H locs arr h1 h2 h3 h4 => lv_pop F.1 F.2.1 hd (by rw [cv_cat]; exact hv) (kk H locs arr h1 h2 h3 h4)
theorem K_dup_x1 (F : FrOK G mi p s m meth c args) {v w : Value} (hd : decode (mcc mi) pc = .ok (.dup_x1, 1)) (hv : v.category = 1) (hw : w.category = 1) (kk : KK G p e Rm s m args below meth c n0 Z (pc + 1) ls (v :: w :: v :: st) n I L R) : KK G p e Rm s m args below meth c n0 Z pc ls (v :: w :: st) n I L R :=
  fun H locs arr h1 h2 h3 h4 => lv_dup_x1 F.1 F.2.1 hd (by rw [cv_cat]; exact hv) (by rw [cv_cat]; exact hw) (kk H locs arr h1 h2 h3 h4)
theorem K_dup2 (F : FrOK G mi p s m meth c args) {v w : Value} (hd : decode (mcc mi) pc = .ok (.dup2, 1)) (hv : v.category = 1) (hw : w.category = 1) (kk : KK G p e Rm s m args below meth c n0 Z (pc + 1) ls (v :: w :: v :: w :: st) n I L R) : KK G p e Rm s m args below meth c n0 Z pc ls (v :: w :: st) n I L R :=
  fun H locs arr h1 h2 h3 h4 => lv_dup2_11 F.1 F.2.1 hd (by rw [cv_cat]; exact hv) (by rw [cv_cat]; exact hw) (kk H locs arr h1 h2 h3 h4)
theorem K_if_eq (F : FrOK G mi p s m meth c args) {x : Int32} {off : Int} {tgt : Nat} (hd : decode (mcc mi) pc = .ok (.ifCond .eq off, 3)) (ht : (pc : Int) + off = (tgt : Int)) (kt : x = 0 → KK G p e Rm s m args below meth c n0 Z tgt ls st n I L R) (kf : ¬ x = 0 → KK G p e Rm s m args below meth c n0 Z (pc + 3) ls st n I L R) : KK G p e Rm s m args below meth c n0 Z pc ls (.int x :: st) n I L R :=
  fun H locs arr h1 h2 h3 h4 => lv_if_eq F.1 F.2.1 hd ht (fun q => kt q H locs arr h1 h2 h3 h4) (fun q => kf q H locs arr h1 h2 h3 h4)
theorem K_if_ne (F : FrOK G mi p s m meth c args) {x : Int32} {off : Int} {tgt : Nat} (hd : decode (mcc mi) pc = .ok (.ifCond .ne off, 3)) (ht : (pc : Int) + off = (tgt : Int)) (kt : ¬ x = 0 → KK G p e Rm s m args below meth c n0 Z tgt ls st n I L R) (kf : x = 0 → KK G p e Rm s m args below meth c n0 Z (pc + 3) ls st n I L R) : KK G p e Rm s m args below meth c n0 Z pc ls (.int x :: st) n I L R :=
  fun H locs arr h1 h2 h3 h4 => lv_if_ne F.1 F.2.1 hd ht (fun q => kt q H locs arr h1 h2 h3 h4) (fun q => kf q H locs arr h1 h2 h3 h4)
theorem K_if_lt (F : FrOK G mi p s m meth c args) {x : Int32} {off : Int} {tgt : Nat} (hd : decode (mcc mi) pc = .ok (.ifCond .lt off, 3)) (ht : (pc : Int) + off = (tgt : Int)) (kt : x < 0 → KK G p e Rm s m args below meth c n0 Z tgt ls st n I L R) (kf : ¬ x < 0 → KK G p e Rm s m args below meth c n0 Z (pc + 3) ls st n I L R) : KK G p e Rm s m args below meth c n0 Z pc ls (.int x :: st) n I L R :=
  fun H locs arr h1 h2 h3 h4 => lv_if_lt F.1 F.2.1 hd ht (fun q => kt q H locs arr h1 h2 h3 h4) (fun q => kf q H locs arr h1 h2 h3 h4)
theorem K_if_ge (F : FrOK G mi p s m meth c args) {x : Int32} {off : Int} {tgt : Nat} (hd : decode (mcc mi) pc = .ok (.ifCond .ge off, 3)) (ht : (pc : Int) + off = (tgt : Int)) (kt : 0 ≤ x → KK G p e Rm s m args below meth c n0 Z tgt ls st n I L R) (kf : ¬ 0 ≤ x → KK G p e Rm s m args below meth c n0 Z (pc + 3) ls st n I L R) : KK G p e Rm s m args below meth c n0 Z pc ls (.int x :: st) n I L R :=
  fun H locs arr h1 h2 h3 h4 => lv_if_ge F.1 F.2.1 hd ht (fun q => kt q H locs arr h1 h2 h3 h4) (fun q => kf q H locs arr h1 h2 h3 h4)
theorem K_if_gt (F : FrOK G mi p s m meth c args) {x : Int32} {off : Int} {tgt : Nat} (hd : decode (mcc mi) pc = .ok (.ifCond .gt off, 3)) (ht : (pc : Int) + off = (tgt : Int)) (kt : 0 < x → KK G p e Rm s m args below meth c n0 Z tgt ls st n I L R) (kf : ¬ 0 < x → KK G p e Rm s m args below meth c n0 Z (pc + 3) ls st n I L R) : KK G p e Rm s m args below meth c n0 Z pc ls (.int x :: st) n I L R :=
  fun H locs arr h1 h2 h3 h4 => lv_if_gt F.1 F.2.1 hd ht (fun q => kt q H locs arr h1 h2 h3 h4) (fun q => kf q H locs arr h1 h2 h3 h4)
theorem K_if_le (F : FrOK G mi p s m meth c args) {x : Int32} {off : Int} {tgt : Nat} (hd : decode (mcc mi) pc = .ok (.ifCond .le off, 3)) (ht : (pc : Int) + off = (tgt : Int)) (kt : x ≤ 0 → KK G p e Rm s m args below meth c n0 Z tgt ls st n I L R) (kf : ¬ x ≤ 0 → KK G p e Rm s m args below meth c n0 Z (pc + 3) ls st n I L R) : KK G p e Rm s m args below meth c n0 Z pc ls (.int x :: st) n I L R :=
  fun H locs arr h1 h2 h3 h4 => lv_if_le F.1 F.2.1 hd ht (fun q => kt q H locs arr h1 h2 h3 h4) (fun q => kf q H locs arr h1 h2 h3 h4)
theorem K_icmp_eq (F : FrOK G mi p s m meth c args) {x y : Int32} {off : Int} {tgt : Nat} (hd : decode (mcc mi) pc = .ok (.if_icmp .eq off, 3)) (ht : (pc : Int) + off = (tgt : Int)) (kt : x = y → KK G p e Rm s m args below meth c n0 Z tgt ls st n I L R) (kf : ¬ x = y → KK G p e Rm s m args below meth c n0 Z (pc + 3) ls st n I L R) : KK G p e Rm s m args below meth c n0 Z pc ls (.int y :: .int x :: st) n I L R :=
  fun H locs arr h1 h2 h3 h4 => lv_icmp_eq F.1 F.2.1 hd ht (fun q => kt q H locs arr h1 h2 h3 h4) (fun q => kf q H locs arr h1 h2 h3 h4)
theorem K_icmp_ne (F : FrOK G mi p s m meth c args) {x y : Int32} {off : Int} {tgt : Nat} (hd : decode (mcc mi) pc = .ok (.if_icmp .ne off, 3)) (ht : (pc : Int) + off = (tgt : Int)) (kt : ¬ x = y → KK G p e Rm s m args below meth c n0 Z tgt ls st n I L R) (kf : x = y → KK G p e Rm s m args below meth c n0 Z (pc + 3) ls st n I L R) : KK G p e Rm s m args below meth c n0 Z pc ls (.int y :: .int x :: st) n I L R :=
  fun H locs arr h1 h2 h3 h4 => lv_icmp_ne F.1 F.2.1 hd ht (fun q => kt q H locs arr h1 h2 h3 h4) (fun q => kf q H locs arr h1 h2 h3 h4)
theorem K_icmp_lt (F : FrOK G mi p s m meth c args) {x y : Int32} {off : Int} {tgt : Nat} (hd : decode (mcc mi) pc = .ok (.if_icmp .lt off, 3)) (ht : (pc : Int) + off = (tgt : Int)) (kt : x < y → KK G p e Rm s m args below meth c n0 Z tgt ls st n I L R) (kf : ¬ x < y → KK G p e Rm s m args below meth c n0 Z (pc + 3) ls st n I L R) : KK G p e Rm s m args below meth c n0 Z pc ls (.int y :: .int x :: st) n I L R :=
  fun H locs arr h1 h2 h3 h4 => lv_icmp_lt F.1 F.2.1 hd ht (fun q => kt q H locs arr h1 h2 h3 h4) (fun q => kf q H locs arr h1 h2 h3 h4)
theorem K_icmp_ge (F : FrOK G mi p s m meth c args) {x y : Int32} {off : Int} {tgt : Nat} (hd : decode (mcc mi) pc = .ok (.if_icmp .ge off, 3)) (ht : (pc : Int) + off = (tgt : Int)) (kt : y ≤ x → KK G p e Rm s m args below meth c n0 Z tgt ls st n I L R) (kf : ¬ y ≤ x → KK G p e Rm s m args below meth c n0 Z (pc + 3) ls st n I L R) : KK G p e Rm s m args below meth c n0 Z pc ls (.int y :: .int x :: st) n I L R :=
  fun H locs arr h1 h2 h3 h4 => lv_icmp_ge F.1 F.2.1 hd ht (fun q => kt q H locs arr h1 h2 h3 h4) (fun q => kf q H locs arr h1 h2 h3 h4)
theorem K_icmp_gt (F : FrOK G mi p s m meth c args) {x y : Int32} {off : Int} {tgt : Nat} (hd : decode (mcc mi) pc = .ok (.if_icmp .gt off, 3)) (ht : (pc : Int) + off = (tgt : Int)) (kt : y < x → KK G p e Rm s m args below meth c n0 Z tgt ls st n I L R) (kf : ¬ y < x → KK G p e Rm s m args below meth c n0 Z (pc + 3) ls st n I L R) : KK G p e Rm s m args below meth c n0 Z pc ls (.int y :: .int x :: st) n I L R :=
  fun H locs arr h1 h2 h3 h4 => lv_icmp_gt F.1 F.2.1 hd ht (fun q => kt q H locs arr h1 h2 h3 h4) (fun q => kf q H locs arr h1 h2 h3 h4)
theorem K_icmp_le (F : FrOK G mi p s m meth c args) {x y : Int32} {off : Int} {tgt : Nat} (hd : decode (mcc mi) pc = .ok (.if_icmp .le off, 3)) (ht : (pc : Int) + off = (tgt : Int)) (kt : x ≤ y → KK G p e Rm s m args below meth c n0 Z tgt ls st n I L R) (kf : ¬ x ≤ y → KK G p e Rm s m args below meth c n0 Z (pc + 3) ls st n I L R) : KK G p e Rm s m args below meth c n0 Z pc ls (.int y :: .int x :: st) n I L R :=
  fun H locs arr h1 h2 h3 h4 => lv_icmp_le F.1 F.2.1 hd ht (fun q => kt q H locs arr h1 h2 h3 h4) (fun q => kf q H locs arr h1 h2 h3 h4)
theorem K_goto (F : FrOK G mi p s m meth c args) {off : Int} {tgt : Nat} (hd : decode (mcc mi) pc = .ok (.goto off, 3)) (ht : (pc : Int) + off = (tgt : Int)) (kk : KK G p e Rm s m args below meth c n0 Z tgt ls st n I L R) : KK G p e Rm s m args below meth c n0 Z pc ls st n I L R :=
  fun H locs arr h1 h2 h3 h4 => lv_goto F.1 F.2.1 hd ht (kk H locs arr h1 h2 h3 h4)
theorem K_table (F : FrOK G mi p s m meth c args) {x : Int32} {df lo hi : Int} {offs : Array Int} {len : Nat} (hd : decode (mcc mi) pc = .ok (.tableswitch df lo hi offs, len)) (kk : ∀ (off : Int) (tgt : Nat), ((x.toInt < lo ∨ hi < x.toInt) ∧ off = df ∨ ¬ x.toInt < lo ∧ ¬ hi < x.toInt ∧ offs[(x.toInt - lo).toNat]? = some off) → (pc : Int) + off = (tgt : Int) → KK G p e Rm s m args below meth c n0 Z tgt ls st n I L R) (h9 : (∀ off : Int, (off = df ∨ ∃ i : Nat, offs[i]? = some off) → 0 ≤ (pc : Int) + off) ∧ (hi - lo + 1).toNat ≤ offs.size) : KK G p e Rm s m args below meth c n0 Z pc ls (.int x :: st) n I L R := by
  intro H locs arr h1 h2 h3 h4
  by_cases q : x.toInt < lo ∨ hi < x.toInt
  · have ht := h9.1 df (Or.inl rfl)
    exact lv_tableOut (tgt := ((pc : Int) + df).toNat) F.1 F.2.1 hd q (by omega) (kk df _ (Or.inl ⟨q, rfl⟩) (by omega) H locs arr h1 h2 h3 h4)
  · have q1 : ¬ x.toInt < lo := fun z => q (Or.inl z)
    have q2 : ¬ hi < x.toInt := fun z => q (Or.inr z)
    have hlt : (x.toInt - lo).toNat < offs.size := by omega
    have ho : offs[(x.toInt - lo).toNat]? = some offs[(x.toInt - lo).toNat] := Array.getElem?_eq_getElem hlt
    have ht := h9.1 _ (Or.inr ⟨_, ho⟩)
    exact lv_tableIn (tgt := ((pc : Int) + offs[(x.toInt - lo).toNat]).toNat) F.1 F.2.1 hd q1 q2 ho (by omega) (kk _ _ (Or.inr ⟨q1, q2, ho⟩) (by omega) H locs arr h1 h2 h3 h4)
theorem K_lookup (F : FrOK G mi p s m meth c args) {x : Int32} {df : Int} {ps : Array (Int × Int)} {len tgt : Nat} (hd : decode (mcc mi) pc = .ok (.lookupswitch df ps, len)) (hp : (ps.toList.zip (ps.toList.drop 1)).all (fun (a, next) => a.1 < next.1) = true) (ht : (pc : Int) + Op.lookupswitch.offset ps.toList df x.toInt = (tgt : Int)) (kk : KK G p e Rm s m args below meth c n0 Z tgt ls st n I L R) : KK G p e Rm s m args below meth c n0 Z pc ls (.int x :: st) n I L R :=
  fun H locs arr h1 h2 h3 h4 => lv_lookup F.1 F.2.1 hd hp rfl ht (kk H locs arr h1 h2 h3 h4)
end KROWS
