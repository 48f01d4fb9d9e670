/-! ===== String.length and String.charAt of the constants ===== -/
theorem wS_val : Cond.fieldLink "java/lang/String" 9 "java/lang/String" "value" "[B" ∈ lw_good := lw_mem (p := 8121) (by decide +kernel) rfl
theorem wS_cod : Cond.fieldLink "java/lang/String" 15 "java/lang/String" "coder" "B" ∈ lw_good := lw_mem (p := 8122) (by decide +kernel) rfl
theorem wS_cmp : Cond.fieldLink "java/lang/String" 38 "java/lang/String" "COMPACT_STRINGS" "Z" ∈ lw_good := lw_mem (p := 1190) (by decide +kernel) rfl
theorem wS_fmt : Cond.fieldLink "java/lang/String" 1053 "jdk/internal/util/Preconditions" "SIOOBE_FORMATTER" "Ljava/util/function/BiFunction;" ∈ lw_good := lw_mem (p := 1209) (by decide +kernel) rfl
theorem cn18 {mi : Nat} (h : mci mi = 18) : cnm (mci mi) = "java/lang/String" := by rw [h]; rfl
theorem ad_hi {G : cG} {a : Nat} (h : 1000 ≤ a) : ad G a = gA G a := if_neg (by omega)
section KSTR
variable {G : cG} {mi : Nat} {p : Program} {e : Env} {Rm : Room} {s : State} {m : MethodId} {args : Array Value} {below : List Frame} {meth : Method} {c : Code} {n0 : Nat} {Z : State → Prop} {pc : Nat} {ls : List (Option Value)} {st : List Value} {n : Nat} {I : MI} {L : ML} {R : MR}
theorem F_str (F : FrOK G mi p s m meth c args) : StrOK G s := F.2.2.2.2.2.2.2.2.1.2.2.2.2.2.2.2.2
theorem K_strval (F : FrOK G mi p s m meth c args) (hm : mi < 286) (hci : mci mi = 18) {k : Nat} (hk : k < 12) (hd : decode (mcc mi) pc = .ok (.getfield 9, 3)) (kk : KK G p e Rm s m args below meth c n0 Z (pc + 3) ls (.ref (1030 + k) :: st) n I L R) : KK G p e Rm s m args below meth c n0 Z pc ls (.ref (1010 + k) :: st) n I L R := by
  intro H locs arr h1 h2 h3 h4
  have k9 := kk H locs arr h1 h2 h3 h4
  have hts := F.2.2.2.2.2.2.2.1
  obtain ⟨-, -, ⟨cf, kc, i, f, cell, b1, b2, b3, b4, b5, b6⟩, -⟩ := (F_str F).1.1 k hk
  have hcell : H[ad G (1010 + k)]? = some cell := by
    rw [ad_hi (by omega), h2.2.2.1 _ (by have w := b6; dsimp only at w; omega)]
    exact b3
  have hown := mi_own F hm
  rw [cn18 hci] at hown
  rw [List.map_cons, show cv G (.ref (1030 + k)) = .ref (gA G (1030 + k)) from congrArg Value.ref (ad_hi (by omega))] at k9
  exact W.getf F.1 F.2.1 hown (hts _ wS_val) b1 b2 hcell b4 b5 rfl rfl hd k9
theorem K_strcod (F : FrOK G mi p s m meth c args) (hm : mi < 286) (hci : mci mi = 18) {k : Nat} (hk : k < 12) (hd : decode (mcc mi) pc = .ok (.getfield 15, 3)) (kk : KK G p e Rm s m args below meth c n0 Z (pc + 3) ls (.int 0 :: st) n I L R) : KK G p e Rm s m args below meth c n0 Z pc ls (.ref (1010 + k) :: st) n I L R := by
  intro H locs arr h1 h2 h3 h4
  have k9 := kk H locs arr h1 h2 h3 h4
  have hts := F.2.2.2.2.2.2.2.1
  obtain ⟨-, ⟨cf, kc, i, f, cell, b1, b2, b3, b4, b5, b6⟩, -, -⟩ := (F_str F).1.1 k hk
  have hcell : H[ad G (1010 + k)]? = some cell := by
    rw [ad_hi (by omega), h2.2.2.1 _ (by have w := b6; dsimp only at w; omega)]
    exact b3
  have hown := mi_own F hm
  rw [cn18 hci] at hown
  exact W.getf F.1 F.2.1 hown (hts _ wS_cod) b1 b2 hcell b4 b5 rfl rfl hd k9
theorem K_svlen (F : FrOK G mi p s m meth c args) {k : Nat} (hk : k < 12) (hd : decode (mcc mi) pc = .ok (.arraylength, 1)) (kk : KK G p e Rm s m args below meth c n0 Z (pc + 1) ls (.int (nI (ksN.getD k 0)) :: st) n I L R) : KK G p e Rm s m args below meth c n0 Z pc ls (.ref (1030 + k) :: st) n I L R := by
  intro H locs arr h1 h2 h3 h4
  have k9 := kk H locs arr h1 h2 h3 h4
  obtain ⟨-, -, -, ⟨cell, b1, b2, b3, b4, b5, b6, b7⟩⟩ := (F_str F).1.1 k hk
  have hcell : H[ad G (1030 + k)]? = some cell := by
    rw [ad_hi (by omega), h2.2.2.1 _ (by have w := b7; dsimp only at w; omega)]
    exact b1
  exact W.alen (n := nI (ksN.getD k 0)) F.1 F.2.1 hcell b2 b5 rfl rfl hd k9
theorem K_svget (F : FrOK G mi p s m meth c args) {k j : Nat} (hk : k < 12) (hj : j < ksN.getD k 0) (hd : decode (mcc mi) pc = .ok (.baload, 1)) (kk : KK G p e Rm s m args below meth c n0 Z (pc + 1) ls (.int ((ksB.getD k []).getD j 0) :: st) n I L R) : KK G p e Rm s m args below meth c n0 Z pc ls (.int (nI j) :: .ref (1030 + k) :: st) n I L R := by
  intro H locs arr h1 h2 h3 h4
  have k9 := kk H locs arr h1 h2 h3 h4
  have hl : ∀ k, k < 12 → ksN.getD k 0 < 100 := by decide +kernel
  have hl := hl k hk
  obtain ⟨-, -, -, ⟨cell, b1, b2, b3, b4, b5, b6, b7⟩⟩ := (F_str F).1.1 k hk
  have hcell : H[ad G (1030 + k)]? = some cell := by
    rw [ad_hi (by omega), h2.2.2.1 _ (by have w := b7; dsimp only at w; omega)]
    exact b1
  have ej : (nI j).toNatClampNeg = j := cl_nI (by omega)
  exact W.bald (v := .int ((ksB.getD k []).getD j 0)) F.1 F.2.1 hcell b2 b3 (fun q => q.elim (fun z => nI_pos (by omega) z) (fun z => by rw [ej] at z; omega)) (by rw [ej]; exact b6 j hj) rfl rfl hd k9
theorem K_scmp (F : FrOK G mi p s m meth c args) (hm : mi < 286) (hci : mci mi = 18) (hd : decode (mcc mi) pc = .ok (.getstatic 38, 3)) (kk : KK G p e Rm s m args below meth c n0 Z (pc + 3) ls (.int 1 :: st) n I L R) : KK G p e Rm s m args below meth c n0 Z pc ls st n I L R := by
  intro H locs arr h1 h2 h3 h4
  have k9 := kk H locs arr h1 h2 h3 h4
  have hts := F.2.2.2.2.2.2.2.1
  obtain ⟨cf, kf, fi, f, a, cell, b1, b2, b3, b4, b5, b6, b7, b8⟩ := (F_str F).2.1
  have hcell : H[a]? = some cell := by rw [h2.2.2.1 _ (by omega)]; exact b5
  have hown := mi_own F hm
  rw [cn18 hci] at hown
  exact W.gets F.1 F.2.1 hown (hts _ wS_cmp) b1 b2 b3 b4 hcell (fun e => by rw [e] at b6; cases b6) b7 rfl hd k9
theorem K_sfmt (F : FrOK G mi p s m meth c args) (hm : mi < 286) (hci : mci mi = 18) (hd : decode (mcc mi) pc = .ok (.getstatic 1053, 3)) (kk : ∀ v, v = .null ∨ v = .ref 1050 → KK G p e Rm s m args below meth c n0 Z (pc + 3) ls (v :: st) n I L R) : KK G p e Rm s m args below meth c n0 Z pc ls st n I L R := by
  intro H locs arr h1 h2 h3 h4
  have hts := F.2.2.2.2.2.2.2.1
  have hown := mi_own F hm
  rw [cn18 hci] at hown
  rcases (F_str F).2.2 with ⟨cf, kf, fi, f, a, cell, b1, b2, b3, b4, b5, b6, b7, b8⟩ | ⟨cf, kf, fi, f, a, cell, b1, b2, b3, b4, b5, b6, b7, b8⟩
  · have hcell : H[a]? = some cell := by rw [h2.2.2.1 _ (by omega)]; exact b5
    exact W.gets F.1 F.2.1 hown (hts _ wS_fmt) b1 b2 b3 b4 hcell (fun e => by rw [e] at b6; cases b6) b7 rfl hd (kk .null (Or.inl rfl) H locs arr h1 h2 h3 h4)
  · have hcell : H[a]? = some cell := by rw [h2.2.2.1 _ (by omega)]; exact b5
    have k9 := kk (.ref 1050) (Or.inr rfl) H locs arr h1 h2 h3 h4
    rw [List.map_cons, show cv G (.ref 1050) = .ref (gA G 1050) from congrArg Value.ref (ad_hi (by omega))] at k9
    exact W.gets F.1 F.2.1 hown (hts _ wS_fmt) b1 b2 b3 b4 hcell (fun e => by rw [e] at b6; cases b6) b7 rfl hd k9
theorem K_i2c (F : FrOK G mi p s m meth c args) {x v : Int32} (hv : (x.toUInt32 % 65536).toInt32 = v) (hd : decode (mcc mi) pc = .ok (.i2c, 1)) (kk : KK G p e Rm s m args below meth c n0 Z (pc + 1) ls (.int v :: st) n I L R) : KK G p e Rm s m args below meth c n0 Z pc ls (.int x :: st) n I L R :=
  fun H locs arr h1 h2 h3 h4 => lv_i2c F.1 F.2.1 hd hv (kk H locs arr h1 h2 h3 h4)
theorem V_nret {d n1 : Nat} {x : Int32} {ty : FieldType} {Q : Option Value → Nat → MI → ML → MR → Prop} (hd : decode (mcc mi) pc = .ok (.ireturn, 1)) (ht : mrt mi = some ty) (hx : narrow ty (.int x) = .int x) (hn : n = n1) (hq : Q (some (.int x)) n I L R) : V G d mi n1 pc ls [.int x] n I L R Q := by
  intro p e s m args below meth c n0 F hs hle H locs arr h1 h2 h3 h4
  subst hn
  have hlocks := F.2.2.2.2.1
  exact W.zret F.1 F.2.1 (F.2.2.2.1.trans ht) hx (fun t ht hW => ⟨some (.int x), I, L, R, rfl, hq, by rw [ht]; exact h2⟩) h3 hd
theorem K_callStr (F : FrOK G mi p s m meth c args) (hm : mi < 286) {ix mj na d n1 N1 k : Nat} {as rest : List Value} {Q : Option Value → Nat → MI → ML → MR → Prop} (hd : decode (mcc mi) pc = .ok (.invokevirtual ix, 3)) (hr : mr (mci mi) ix = some (mj, na, 0)) (hj : mj < 286) (hc : MP mj) (hsl : slN (.ref (1010 + k) :: as) ≤ mnl mj) (hnl : mnl mj ≤ 20) (hrm : RmOK Rm d n0 N1) (hn : n ≤ n1) (hn1 : n1 ≤ N1) (hcs : cS rest ≤ 8) (hk : k < 12) (hna : as.length = na) (hcj : mci mj = 18)
    (hV : V G d mj n1 0 (eL (.ref (1010 + k) :: as) (mnl mj)) [] n I L R Q) (kk : ∀ (v : Option Value) (I' : MI) (L' : ML) (R' : MR), Q v n1 I' L' R' → KK G p e Rm s m args below meth c n0 Z (pc + 3) ls (v.toList ++ rest) n1 I' L' R') : KK G p e Rm s m args below meth c n0 Z pc ls ((.ref (1010 + k) :: as).reverse ++ rest) n I L R := by
  intro H locs arr h1 h2 h3 h4
  obtain ⟨pp, pk, ps, pi, k9, na', hmp, hcode, hini, hstat, hinst, hcls, hna', hpl⟩ := mp_facts hc
  obtain ⟨x, hx, x1, x2, x3, x4, hlink⟩ := mr_facts hr hj
  have : x = (pp, pk, ps, pi, k9, na') := Option.some.inj (hx.symm.trans hmp)
  subst this
  dsimp only at x1 x2
  subst x1
  have hts := F.2.2.2.2.2.2.2.1
  have hE := F.2.2.2.2.2.2.2.2.1
  have hM := Met_of_V hc hsl hn hV
  have hbl : FrameBlind (va_Pc ((.ref (1010 + k) :: as).map (cv G)) (fun U => EnvOK G U ∧ WD G n I L R U.heap)) := fun a U g mk q => ⟨q.1, q.2.1.calling, q.2.2⟩
  have hpre : ∀ U : State, U.heap = H → s.WarmedH U.vm → va_Pc ((.ref (1010 + k) :: as).map (cv G)) (fun U => EnvOK G U ∧ WD G n I L R U.heap) ((.ref (1010 + k) :: as).map (cv G)).toArray U := fun U hU hW => ⟨rfl, hE.warm hW, by rw [hU]; exact h2⟩
  have hG : GoodIn lw_good (.code (my mj) (mcc mj) (mnl mj) (mrt mj) :: lw_good) := by
    intro w hw
    have hm : w ∈ lw_good := by
      rcases List.mem_cons.mp hw with rfl | hw
      · exact hcode
      · exact hw
    exact ⟨hm, good_of_word (List.mem_filter.mp hm).2⟩
  have hroom : (rmV d (n1 - n) (szL n1 - szL n)).frames + 1 ≤ Rm.frames ∧ 8 + (mnl mj + 11) + (rmV d (n1 - n) (szL n1 - szL n)).locals ≤ Rm.locals := by
    obtain ⟨r1, r2, -, -⟩ := hrm
    refine ⟨r1, ?_⟩
    show 8 + (mnl mj + 11) + 40 * d ≤ _
    omega
  have hcells : n - n0 + (n1 - n) ≤ Rm.cells ∧ szL n - szL n0 + (szL n1 - szL n) ≤ Rm.slots := by
    obtain ⟨-, -, r3, r4⟩ := hrm
    have a1 := szL_mono hn
    have a2 := szL_mono h4
    have a3 := szL_mono hn1
    omega
  have own := mi_own F hm
  have hS : CallFix p m c (mcc mi) c.maxLocals s args lw_good (cnm (mci mi)) := ⟨F.1, F.2.1, rfl, own, hts⟩
  have hcs2 : 2 * (F0 m pc arr (((.ref (1010 + k) :: as).reverse ++ rest).map (cv G))).monitorRoom + ((rest.map (cv G)).map fun v => v.category).sum ≤ 8 := lv_room (by rw [cS_cat]; exact hcs)
  have hcn : ∀ host, Cond.methodLinkNest (cnm (mci mi)) ix (my mj) host ∈ lw_nest → va_CN Rm s args (cnm (mci mi)) ix (my mj) host (mcc mj) (mnl mj) (mrt mj) (.code (my mj) (mcc mj) (mnl mj) (mrt mj) :: lw_good) (rmV d (n1 - n) (szL n1 - szL n)) (n1 - n) (szL n1 - szL n) na' := fun host h => va_cnB na' hts hG rfl rfl rfl (hE.2.1 _ h) (hts _ hini) ⟨hcls.1, hcls.2, hna'⟩ hroom
  have hcb : Cond.methodLink (cnm (mci mi)) ix (my mj) ∈ lw_good → CallB Rm s args (cnm (mci mi)) ix (my mj) (mcc mj) (mnl mj) (mrt mj) (.code (my mj) (mcc mj) (mnl mj) (mrt mj) :: lw_good) (rmV d (n1 - n) (szL n1 - szL n)) (n1 - n) (szL n1 - szL n) na' := fun h => callB_of na' hts hG rfl rfl rfl (hts _ hini) (hts _ h) ⟨hcls.1, hcls.2, hna'⟩ hroom
  have hne : (my mj).name ≠ "<init>" := fun z => by have := x4.mpr z; cases this
  obtain ⟨hin, hsel⟩ := hinst (by rw [x2]; decide)
  have hse := hts _ (hsel hne)
  have hst2 : (F0 m pc arr (((.ref (1010 + k) :: as).reverse ++ rest).map (cv G))).stack = (as.map (cv G)).reverse ++ .ref (ad G (1010 + k)) :: rest.map (cv G) := by
    show ((Value.ref (1010 + k) :: as).reverse ++ rest).map (cv G) = _
    rw [List.map_append, List.map_reverse]
    simp [cv]
  have hrecv : ∃ cellB : Cell, H[ad G (1010 + k)]? = some cellB ∧ cellB.vm.isStatics = false ∧ s.vm.findClass (my mj).cls = some cellB.cls := by
    obtain ⟨⟨cell, b1, b2, b3, b4⟩, -⟩ := (F_str F).1.1 k hk
    refine ⟨cell, ?_, b2, ?_⟩
    · rw [ad_hi (by omega), h2.2.2.1 _ (by have w := b4; dsimp only at w; omega)]
      exact b1
    · rw [my_cls mj hj, cn18 hcj]
      exact b3
  rcases hlink with h | ⟨host, h⟩
  · exact run_K rfl rfl hn h4 h1 h3 (va_runV (As := as.map (cv G)) (rest := rest.map (cv G)) (b := ad G (1010 + k)) hS hM ⟨hcb h, hts _ hin, hse⟩ ⟨hbl, hrecv, hpre⟩ rfl (by rw [List.length_map]; exact hna) h1.1 hst2 hcs2 hd hcells) kk
  · exact run_K rfl rfl hn h4 h1 h3 (va_runVN (As := as.map (cv G)) (rest := rest.map (cv G)) (b := ad G (1010 + k)) hS hM ⟨hcn host h, hts _ hin, hse⟩ ⟨hbl, hrecv, hpre⟩ rfl (by rw [List.length_map]; exact hna) h1.1 hst2 hcs2 hd hcells) kk
end KSTR
section VSTR9
variable {G : cG} {d n : Nat} {I : MI} {L : ML} {R : MR} {Q : tQ} {k j : Nat}
theorem rm_of {d n0 n1 N : Nat} (h : n1 ≤ N) : RmOK (rmV (d + 1) (N - n0) (szL N - szL n0)) d n0 n1 := by
  refine ⟨Nat.le_refl _, by show 40 * d + 40 ≤ 40 * (d + 1); omega, by show n1 - n0 ≤ N - n0; omega, ?_⟩
  have := szL_mono h
  show szL n1 - szL n0 ≤ szL N - szL n0
  omega
theorem s_cod (hk : k < 12) (hQ : Q (some (.int 0)) n I L R) : V G d 275 n 0 (eL [.ref (1010 + k)] (mnl 275)) [] n I L R Q := by
  have hr : V G d 275 n 14 (eL [.ref (1010 + k)] (mnl 275)) [.int 0] n I L R Q := V_nret dJ0_coder_7d493_14 (ty := .byte) rfl rfl rfl hQ
  intro p e s m args below meth c n0 F hs hle
  refine K_scmp F (by decide) rfl dJ0_coder_7d493_0 (K_if_eq F (tgt := 13) dJ0_coder_7d493_3 (by decide) (fun z => absurd z (by decide)) (fun _ => ?_))
  refine K_aload_n F (x := 1010 + k) dJ0_coder_7d493_6 rfl (K_strcod F (by decide) rfl hk dJ0_coder_7d493_7 (K_goto F (tgt := 14) dJ0_coder_7d493_10 (by decide) ?_))
  exact hr p e s m args below meth c n0 F hs hle
theorem s_lat (hk : k < 12) (hQ : Q (some (.int 1)) n I L R) : V G d 276 n 0 (eL [.ref (1010 + k)] (mnl 276)) [] n I L R Q := by
  have hr : V G d 276 n 18 (eL [.ref (1010 + k)] (mnl 276)) [.int 1] n I L R Q := V_nret dJ0_isLatin1_aae02_18 (ty := .boolean) rfl (by decide +kernel) rfl hQ
  intro p e s m args below meth c n0 F hs hle
  refine K_scmp F (by decide) rfl dJ0_isLatin1_aae02_0 (K_if_eq F (tgt := 17) dJ0_isLatin1_aae02_3 (by decide) (fun z => absurd z (by decide)) (fun _ => ?_))
  refine K_aload_n F (x := 1010 + k) dJ0_isLatin1_aae02_6 rfl (K_strcod F (by decide) rfl hk dJ0_isLatin1_aae02_7 (K_if_ne F (tgt := 17) dJ0_isLatin1_aae02_10 (by decide) (fun z => absurd rfl z) (fun _ => ?_)))
  refine K_iconst F dJ0_isLatin1_aae02_13 (K_goto F (tgt := 18) dJ0_isLatin1_aae02_14 (by decide) ?_)
  exact hr p e s m args below meth c n0 F hs hle
theorem s_len (hk : k < 12) (hQ : Q (some (.int (nI (ksN.getD k 0)))) n I L R) : V G (d + 1) 273 n 0 (eL [.ref (1010 + k)] (mnl 273)) [] n I L R Q := by
  have key : ∀ k, k < 12 → nI (ksN.getD k 0) >>> ((0 : Int32) &&& 31) = nI (ksN.getD k 0) := by decide +kernel
  have hr : V G (d + 1) 273 n 10 (eL [.ref (1010 + k)] (mnl 273)) [.int (nI (ksN.getD k 0))] n I L R Q := V_nret dJ0_length_8abf5_10 (ty := .int) rfl rfl rfl hQ
  intro p e s m args below meth c n0 F hs hle
  refine K_aload_n F (x := 1010 + k) dJ0_length_8abf5_0 rfl (K_strval F (by decide) rfl hk dJ0_length_8abf5_1 (K_svlen F hk dJ0_length_8abf5_4 (K_aload_n F (x := 1010 + k) dJ0_length_8abf5_5 rfl ?_)))
  refine K_callStr (d := d) (n1 := n) (as := []) (rest := [.int (nI (ksN.getD k 0))]) F (by decide) dJ0_length_8abf5_6 mr_18_335 (by decide) ⟨mw_275, mpC_j275⟩ (Nat.le_refl 1) (by decide) (rm_of (Nat.le_refl _)) (Nat.le_refl _) (Nat.le_refl _) (show (1 : Nat) ≤ 8 by decide) hk rfl rfl (s_cod (Q := fun v n' I' L' R' => v = some (.int 0) ∧ n' = n ∧ I' = I ∧ L' = L ∧ R' = R) hk ⟨rfl, rfl, rfl, rfl, rfl⟩) (fun v I' L' R' hq => ?_)
  obtain ⟨rfl, -, rfl, rfl, rfl⟩ := hq
  refine K_ishr F dJ0_length_8abf5_9 ?_
  rw [key k hk]
  exact hr p e s m args below meth c n0 F hs hle
theorem s_pre {v : Value} {l : Nat} (hj : j < l) (hl : l < 100) (hQ : Q (some (.int (nI j))) n I L R) : V G d 284 n 0 (eL [.int (nI j), .int (nI l), v] (mnl 284)) [] n I L R Q := by
  have hr : ∀ ls, V G d 284 n 17 ls [.int (nI j)] n I L R Q := fun ls => V_nret dJ3_checkIndex_8e157_17 (ty := .int) rfl rfl rfl hQ
  intro p e s m args below meth c n0 F hs hle
  refine K_iload_n F (x := nI j) dJ3_checkIndex_8e157_0 rfl (K_if_lt F (tgt := 9) dJ3_checkIndex_8e157_1 (by decide) (fun z => absurd z (nI_pos (by omega))) (fun _ => ?_))
  refine K_iload_n F (x := nI j) dJ3_checkIndex_8e157_4 rfl (K_iload_n F (x := nI l) dJ3_checkIndex_8e157_5 rfl (K_icmp_lt F (tgt := 16) dJ3_checkIndex_8e157_6 (by decide) (fun _ => ?_) (fun z => absurd ((nI_ltI (by omega) (by omega)).mpr hj) z)))
  refine K_iload_n F (x := nI j) dJ3_checkIndex_8e157_16 rfl ?_
  exact hr _ p e s m args below meth c n0 F hs hle
theorem s_chk {l : Nat} (hj : j < l) (hl : l < 100) (hQ : Q none n I L R) : V G (d + 1) 277 n 0 (eL [.int (nI j), .int (nI l)] (mnl 277)) [] n I L R Q := by
  have hr : ∀ ls, V G (d + 1) 277 n 9 ls [] n I L R Q := fun ls => V_ret dJ0_checkIndex_df160_9 rfl rfl hQ
  intro p e s m args below meth c n0 F hs hle
  refine K_iload_n F (x := nI j) dJ0_checkIndex_df160_0 rfl (K_iload_n F (x := nI l) dJ0_checkIndex_df160_1 rfl (K_sfmt F (by decide) rfl dJ0_checkIndex_df160_2 (fun v hv => ?_)))
  have hcat : v.category = 1 := by rcases hv with rfl | rfl <;> rfl
  have hsl : slN [.int (nI j), .int (nI l), v] ≤ mnl 284 := by rcases hv with rfl | rfl <;> exact Nat.le_refl 3
  refine K_call (d := d) (n1 := n) (mode := 1) (as := [.int (nI j), .int (nI l), v]) (rest := []) F (by decide) dJ0_checkIndex_df160_5 mr_18_1059 (by decide) ⟨mw_284, mpC_j284⟩ hsl (by decide) (rm_of (Nat.le_refl _)) (Nat.le_refl _) (Nat.le_refl _) (by decide) (Or.inl ⟨rfl, rfl⟩) (s_pre (Q := fun v n' I' L' R' => v = some (.int (nI j)) ∧ n' = n ∧ I' = I ∧ L' = L ∧ R' = R) hj hl ⟨rfl, rfl, rfl, rfl, rfl⟩) (fun v I' L' R' hq => ?_)
  obtain ⟨rfl, -, rfl, rfl, rfl⟩ := hq
  refine K_pop F dJ0_checkIndex_df160_8 rfl ?_
  exact hr _ p e s m args below meth c n0 F hs hle
theorem s_lch (hk : k < 12) (hj : j < ksN.getD k 0) (hQ : Q (some (.int ((ksB.getD k []).getD j 0))) n I L R) : V G (d + 2) 278 n 0 (eL [.ref (1030 + k), .int (nI j)] (mnl 278)) [] n I L R Q := by
  have key : ∀ k, k < 12 → ∀ j, j < ksN.getD k 0 → (((ksB.getD k []).getD j 0 &&& 255).toUInt32 % 65536).toInt32 = (ksB.getD k []).getD j 0 ∧ narrow .char (.int ((ksB.getD k []).getD j 0)) = .int ((ksB.getD k []).getD j 0) ∧ ksN.getD k 0 < 100 := by decide +kernel
  obtain ⟨k1, k2, k3⟩ := key k hk j hj
  have hr : ∀ ls, V G (d + 2) 278 n 14 ls [.int ((ksB.getD k []).getD j 0)] n I L R Q := fun ls => V_nret dJ1_charAt_3b067_14 (ty := .char) rfl k2 rfl hQ
  intro p e s m args below meth c n0 F hs hle
  refine K_iload_n F (x := nI j) dJ1_charAt_3b067_0 rfl (K_aload_n F (x := 1030 + k) dJ1_charAt_3b067_1 rfl (K_svlen F hk dJ1_charAt_3b067_2 ?_))
  refine K_call (d := d + 1) (n1 := n) (mode := 1) (as := [.int (nI j), .int (nI (ksN.getD k 0))]) (rest := []) F (by decide) dJ1_charAt_3b067_3 mr_19_9 (by decide) ⟨mw_277, mpC_j277⟩ (Nat.le_refl 2) (by decide) (rm_of (Nat.le_refl _)) (Nat.le_refl _) (Nat.le_refl _) (by decide) (Or.inl ⟨rfl, rfl⟩) (s_chk (Q := fun v n' I' L' R' => v = none ∧ n' = n ∧ I' = I ∧ L' = L ∧ R' = R) hj k3 ⟨rfl, rfl, rfl, rfl, rfl⟩) (fun v I' L' R' hq => ?_)
  obtain ⟨rfl, -, rfl, rfl, rfl⟩ := hq
  refine K_aload_n F (x := 1030 + k) dJ1_charAt_3b067_6 rfl (K_iload_n F (x := nI j) dJ1_charAt_3b067_7 rfl (K_svget F hk hj dJ1_charAt_3b067_8 (K_sipush F dJ1_charAt_3b067_9 (K_iand F dJ1_charAt_3b067_12 (K_i2c F k1 dJ1_charAt_3b067_13 ?_)))))
  exact hr _ p e s m args below meth c n0 F hs hle
theorem s_chr (hk : k < 12) (hj : j < ksN.getD k 0) (hQ : Q (some (.int ((ksB.getD k []).getD j 0))) n I L R) : V G (d + 3) 274 n 0 (eL [.ref (1010 + k), .int (nI j)] (mnl 274)) [] n I L R Q := by
  have key : ∀ k, k < 12 → ∀ j, j < ksN.getD k 0 → narrow .char (.int ((ksB.getD k []).getD j 0)) = .int ((ksB.getD k []).getD j 0) := by decide +kernel
  have hr : ∀ ls, V G (d + 3) 274 n 15 ls [.int ((ksB.getD k []).getD j 0)] n I L R Q := fun ls => V_nret dJ0_charAt_5068e_15 (ty := .char) rfl (key k hk j hj) rfl hQ
  intro p e s m args below meth c n0 F hs hle
  refine K_aload_n F (x := 1010 + k) dJ0_charAt_5068e_0 rfl ?_
  refine K_callStr (d := d + 2) (n1 := n) (as := []) (rest := []) F (by decide) dJ0_charAt_5068e_1 mr_18_492 (by decide) ⟨mw_276, mpC_j276⟩ (Nat.le_refl 1) (by decide) (rm_of (Nat.le_refl _)) (Nat.le_refl _) (Nat.le_refl _) (by decide) hk rfl rfl (s_lat (Q := fun v n' I' L' R' => v = some (.int 1) ∧ n' = n ∧ I' = I ∧ L' = L ∧ R' = R) hk ⟨rfl, rfl, rfl, rfl, rfl⟩) (fun v I' L' R' hq => ?_)
  obtain ⟨rfl, -, rfl, rfl, rfl⟩ := hq
  refine K_if_eq F (tgt := 16) dJ0_charAt_5068e_4 (by decide) (fun z => absurd z (by decide)) (fun _ => ?_)
  refine K_aload_n F (x := 1010 + k) dJ0_charAt_5068e_7 rfl (K_strval F (by decide) rfl hk dJ0_charAt_5068e_8 (K_iload_n F (x := nI j) dJ0_charAt_5068e_11 rfl ?_))
  refine K_call (d := d + 2) (n1 := n) (mode := 1) (as := [.ref (1030 + k), .int (nI j)]) (rest := []) F (by decide) dJ0_charAt_5068e_12 mr_18_495 (by decide) ⟨mw_278, mpC_j278⟩ (Nat.le_refl 2) (by decide) (rm_of (Nat.le_refl _)) (Nat.le_refl _) (Nat.le_refl _) (by decide) (Or.inl ⟨rfl, rfl⟩) (s_lch (Q := fun v n' I2 L2 R2 => v = some (.int ((ksB.getD k []).getD j 0)) ∧ n' = n ∧ I2 = I' ∧ L2 = L' ∧ R2 = R') hk hj ⟨rfl, rfl, rfl, rfl, rfl⟩) (fun v I2 L2 R2 hq => ?_)
  obtain ⟨rfl, -, rfl, rfl, rfl⟩ := hq
  exact hr _ p e s m args below meth c n0 F hs hle
/-- the calls of length and charAt, as steps of a method of ours -/
theorem V_len {mi pc ix : Nat} {ls : List (Option Value)} {st : List Value} {n1 : Nat} (hm : mi < 286) (hd : decode (mcc mi) pc = .ok (.invokevirtual ix, 3)) (hr : mr (mci mi) ix = some (273, 0, 0)) (hn : n ≤ n1) (hk : k < 12) (hcs : cS st ≤ 8) (kk : V G (d + 2) mi n1 (pc + 3) ls (.int (nI (ksN.getD k 0)) :: st) n I L R Q) : V G (d + 2) mi n1 pc ls (.ref (1010 + k) :: st) n I L R Q := by
  intro p e s m args below meth c n0 F hs hle
  refine K_callStr (d := d + 1) (n1 := n) (as := []) (rest := st) F hm hd hr (by decide) ⟨mw_273, mpC_j273⟩ (Nat.le_refl 1) (by decide) (rm_of (Nat.le_refl _)) (Nat.le_refl _) hn hcs hk rfl rfl (s_len (Q := fun v n' I' L' R' => v = some (.int (nI (ksN.getD k 0))) ∧ n' = n ∧ I' = I ∧ L' = L ∧ R' = R) hk ⟨rfl, rfl, rfl, rfl, rfl⟩) (fun v I' L' R' hq => ?_)
  obtain ⟨rfl, -, rfl, rfl, rfl⟩ := hq
  exact kk p e s m args below meth c n0 F hs hle
theorem V_chr {mi pc ix : Nat} {ls : List (Option Value)} {st : List Value} {n1 : Nat} (hm : mi < 286) (hd : decode (mcc mi) pc = .ok (.invokevirtual ix, 3)) (hr : mr (mci mi) ix = some (274, 1, 0)) (hn : n ≤ n1) (hk : k < 12) (hj : j < ksN.getD k 0) (hcs : cS st ≤ 8) (kk : V G (d + 4) mi n1 (pc + 3) ls (.int ((ksB.getD k []).getD j 0) :: st) n I L R Q) : V G (d + 4) mi n1 pc ls (.int (nI j) :: .ref (1010 + k) :: st) n I L R Q := by
  intro p e s m args below meth c n0 F hs hle
  refine K_callStr (d := d + 3) (n1 := n) (as := [.int (nI j)]) (rest := st) F hm hd hr (by decide) ⟨mw_274, mpC_j274⟩ (Nat.le_refl 2) (by decide) (rm_of (Nat.le_refl _)) (Nat.le_refl _) hn hcs hk rfl rfl (s_chr (Q := fun v n' I' L' R' => v = some (.int ((ksB.getD k []).getD j 0)) ∧ n' = n ∧ I' = I ∧ L' = L ∧ R' = R) hk hj ⟨rfl, rfl, rfl, rfl, rfl⟩) (fun v I' L' R' hq => ?_)
  obtain ⟨rfl, -, rfl, rfl, rfl⟩ := hq
  exact kk p e s m args below meth c n0 F hs hle
end VSTR9
/-! the class's Reader reads twice: as the object is made (58 cells then), and later -/
def rQ : Bool → Nat → MR
  | true, c => rR c
  | false, c => fun a j => if (a = 0 ∧ 2 ≤ j) ∨ 58 ≤ a then none else rR c a j
def nQ : Bool → Nat
  | true => 145
  | false => 58
theorem rQ_in {b : Bool} {c a j : Nat} (h : ¬ ((a = 0 ∧ 2 ≤ j) ∨ 58 ≤ a)) : rQ b c a j = rR c a j := by
  cases b
  · exact if_neg h
  · rfl
theorem rQ_55_0 (b : Bool) (c : Nat) : rQ b c 55 0 = some 40 := (rQ_in (by omega)).trans (rR_55_0 c)
theorem rQ_55_2 (b : Bool) (c : Nat) : rQ b c 55 2 = some 56 := (rQ_in (by omega)).trans (rR_55_2 c)
theorem rQ_55_3 (b : Bool) (c : Nat) : rQ b c 55 3 = some 57 := (rQ_in (by omega)).trans (rR_55_3 c)
theorem rQ_co (b : Bool) (c : Nat) : rQ b c 55 7 = some (cdC c) := (rQ_in (by omega)).trans (rR_co c)
theorem nq_lt {b : Bool} {a : Nat} (h : a < 58) : (a < nQ b) = True := eq_true (by
  cases b
  · exact h
  · exact Nat.lt_of_lt_of_le h (by decide))
theorem nq_40 (b : Bool) : (40 < nQ b) = True := nq_lt (by decide)
theorem nq_55 (b : Bool) : (55 < nQ b) = True := nq_lt (by decide)
theorem nq_56 (b : Bool) : (56 < nQ b) = True := nq_lt (by decide)
theorem nq_57 (b : Bool) : (57 < nQ b) = True := nq_lt (by decide)
theorem nq_cd {m : Nat} (b : Bool) (h : m < 12) : (cdC m < nQ b) = True := nq_lt (by unfold cdC; omega)
