/-! ===== the class's marks and texts as they are made ===== -/
section CTX
set_option maxRecDepth 20000
set_option maxHeartbeats 1000000
variable {G : cG} {d c0 : Nat} {L : ML} {K : tQ}
/-- an array of references, where the class's own index is a new's too -/
theorem K_anew2 {mi : Nat} {p : Program} {e : Env} {Rm : Room} {s : State} {m : MethodId} {args : Array Value} {below : List Frame} {meth : Method} {c : Code} {n0 : Nat} {Z : State → Prop} {pc : Nat} {ls : List (Option Value)} {st : List Value} {n : Nat} {I : MI} {R : MR} (F : FrOK G mi p s m meth c args) (hm : mi < 286) {ix t : Nat} {x : Int32} {N d n1 : Nat} {C : String} (hd : decode (mcc mi) pc = .ok (.anewarray ix, 3)) (hf : Cond.classLink (cnm (mci mi)) ix C ∈ lw_good) (ht : t = 4 ∧ C = "TruceLine$Mark" ∨ t = 5 ∧ C = "TruceLine$Sheet") (hx : ¬ x < 0) (hN : x.toNatClampNeg = N) (hN9 : N ≤ 4000) (hk : kK n = (t, N)) (hn : n + 1 ≤ n1) (hn9 : n + 1 ≤ 1000) (hR : ∀ j, R n j = none) (hrm : RmOK Rm d n0 n1) (kk : KK G p e Rm s m args below meth c n0 Z (pc + 3) ls (.ref n :: st) (n + 1) I L R) : KK G p e Rm s m args below meth c n0 Z pc ls (.int x :: st) n I L R := by
  intro H locs arr h1 h2 h3 h4
  have hts := F.2.2.2.2.2.2.2.1
  have hE := F.2.2.2.2.2.2.2.2.1
  have hK := hE.1
  obtain ⟨r1, r2, r3, r4⟩ := hrm
  have e1 := szL_a hk (by omega)
  have e2 := szL_mono h4
  have e3 := szL_mono hn
  obtain ⟨hcl, hov⟩ : (tysG G)[t]? = some (gC G t, .object C) ∧ va_AO C s := by
    rcases ht with ⟨rfl, rfl⟩ | ⟨rfl, rfl⟩
    · exact ⟨rfl, hE.2.2.2.2.2.1⟩
    · exact ⟨rfl, hE.2.2.2.2.2.2.1⟩
  subst hN
  refine W.anew F.1 F.2.1 (mi_own F hm) (hts _ hf) (va_AO.use hov) rfl hd rfl hx (by omega) (by omega) (by omega) fun cA kA comp f1 f2 f3 f4 => ?_
  generalize hH1 : H.push ({ cls := cA, slots := Array.replicate x.toNatClampNeg .null, vm := .none } : Cell) = H1
  have z1 : H1.size = H.size + 1 := by rw [← hH1, Array.size_push]
  have g1 : H1[H.size]? = some (arrV cA x.toNatClampNeg (fun _ => .null)) := by rw [← hH1, Array.getElem?_push_size, ← arrV_new]
  have o1 : ∀ q : Nat, q < H.size → H1[q]? = H[q]? := fun q hq => by rw [← hH1, Array.getElem?_push, if_neg (Nat.ne_of_lt hq)]
  have hcA : cA = gC G t := by
    obtain ⟨-, -, -, -, -, h6⟩ := (hK.2 t _ hcl).2
    exact Option.some.inj (f1.symm.trans h6)
  have hw : WD G (n + 1) I L R H1 := by
    refine h2.push z1 o1 hn9 ?_
    rw [ent_q hk (by omega)]
    show H1[ad G n]? = some (vp_cell _ _)
    rw [ad_lt (by omega), ← h2.1, g1, hcA, vp_cell_q]
    congr 2
    funext j
    rw [hR]
    rfl
  have k9 := kk H1 locs arr h1 hw h3 (by omega)
  rw [show n + 1 - n0 = n - n0 + 1 by omega, show szL (n + 1) - szL n0 = szL n - szL n0 + x.toNatClampNeg by omega] at k9
  rw [List.map_cons] at k9
  rw [show cv G (.ref n) = .ref H.size from congrArg Value.ref ((ad_lt (by omega)).trans h2.1.symm)] at k9
  exact k9
theorem V_anew {mi pc ix t N n n1 : Nat} {x : Int32} {C : String} {ls : List (Option Value)} {st : List Value} {I : MI} {R : MR} (hm : mi < 286) (hd : decode (mcc mi) pc = .ok (.anewarray ix, 3)) (hf : Cond.classLink (cnm (mci mi)) ix C ∈ lw_good) (ht : t = 4 ∧ C = "TruceLine$Mark" ∨ t = 5 ∧ C = "TruceLine$Sheet") (hx : ¬ x < 0) (hN : x.toNatClampNeg = N) (hN9 : N ≤ 4000) (hk : kK n = (t, N)) (hn : n + 1 ≤ n1) (hn9 : n + 1 ≤ 1000) (hR : ∀ j, R n j = none) (kk : V G (d + 1) mi n1 (pc + 3) ls (.ref n :: st) (n + 1) I L R K) : V G (d + 1) mi n1 pc ls (.int x :: st) n I L R K := by
  intro p e s m args below meth c n0 F hs hle
  exact K_anew2 F hm hd hf ht hx hN hN9 hk hn hn9 hR (rm_of (Nat.le_refl _)) (kk p e s m args below meth c n0 F hs hle)
theorem k_mk : ∀ k, k < 16 → kK (6 + 2 * k) = (10, 2) ∧ kK (6 + 2 * k + 1) = (0, 6) ∧ (∀ q ∈ rRL, q.1 ≠ 6 + 2 * k + 1) := by decide +kernel
theorem r_mk {c k : Nat} (hk : k < 16) (j : Nat) : rR c (6 + 2 * k) j = if j = 7 then some (6 + 2 * k + 1) else none := by
  obtain ⟨h1, -, -⟩ := k_mk k hk
  unfold rR
  rw [if_neg (by omega), if_neg (by omega), if_neg (by omega), if_neg (by omega), if_pos h1]
theorem find_no {l : List (Nat × Nat × Nat)} {p : Nat × Nat × Nat → Bool} (h : ∀ q ∈ l, p q = false) : l.find? p = none := by
  rw [List.find?_eq_none]
  intro q hq
  rw [h q hq]
  decide
theorem r_st {c k : Nat} (hk : k < 16) (j : Nat) : rR c (6 + 2 * k + 1) j = none := by
  obtain ⟨-, h2, h3⟩ := k_mk k hk
  unfold rR
  rw [if_neg (by omega), if_neg (by omega), if_neg (by omega), if_neg (by omega), if_neg (by rw [h2]; decide), if_neg (by rw [h2]; decide), find_no (fun q hq => by rw [show (q.1 == 6 + 2 * k + 1) = false from beq_false_of_ne (h3 q hq)]; rfl)]
  rfl
theorem r_5 {c j : Nat} (hj : j < 16) : rR c 5 j = some (6 + 2 * j) := by
  unfold rR
  rw [if_pos rfl, if_pos hj]
theorem mkR_s {R : MR} {k : Nat} (hk : k < 16) (h1 : ∀ a j, 6 ≤ a → R a j = none) : u2 (u2 (mkR R k) (6 + 2 * k) 7 (some (6 + 2 * k + 1))) 5 k (some (6 + 2 * k)) = mkR R (k + 1) := by
  funext a j
  by_cases q5 : a = 5
  · subst q5
    by_cases qj : j = k
    · subst qj
      rw [u2_eq]
      unfold mkR
      rw [if_neg (by omega), if_pos (by omega), r_5 hk]
    · rw [u2_no (fun w => qj w.2), u2_ne (by omega)]
      unfold mkR
      by_cases w : j < k
      · rw [if_neg (by omega), if_pos ⟨rfl, w⟩, if_neg (by omega), if_pos ⟨rfl, by omega⟩]
      · rw [if_neg (by omega), if_neg (fun z => w z.2), if_neg (by omega), if_neg (fun z => by omega)]
  · rw [u2_ne q5]
    by_cases q6 : a = 6 + 2 * k
    · subst q6
      by_cases qj : j = 7
      · subst qj
        rw [u2_eq]
        unfold mkR
        rw [if_pos (by omega), r_mk hk, if_pos rfl]
      · rw [u2_no (fun w => qj w.2)]
        unfold mkR
        rw [if_neg (by omega), if_neg (by omega), if_pos (by omega), r_mk hk, if_neg qj]
        exact h1 _ _ (by omega)
    · rw [u2_ne q6]
      unfold mkR
      by_cases q7 : a = 6 + 2 * k + 1
      · subst q7
        rw [if_neg (by omega), if_neg (by omega), if_pos (by omega), r_st hk]
        exact h1 _ _ (by omega)
      · by_cases w : 6 ≤ a ∧ a < 6 + 2 * k
        · rw [if_pos w, if_pos (by omega)]
        · rw [if_neg w, if_neg (fun z => q5 z.1), if_neg (by omega), if_neg (fun z => q5 z.1)]
theorem mkR_0 {R : MR} : mkR R 0 = R := by
  funext a j
  unfold mkR
  rw [if_neg (by omega), if_neg (by omega)]
theorem l26 {I : MI} {R : MR} (h4 : R 4 0 = some 5) (hI : ∀ a j, 5 ≤ a → I a j = 0) (hL : ∀ a j, 5 ≤ a → L a j = 0) (hR : ∀ a j, 6 ≤ a → R a j = none) (hK : K none 38 I L (mkR R 16)) : ∀ m k, k + m = 16 → V G (d + 5) 26 38 20 [some (.ref 4), none, some (.int (nI k))] [] (6 + 2 * k) I L (mkR R k) K := by
  intro m
  induction m with
  | zero =>
    intro k hk
    obtain rfl : k = 16 := by omega
    refine V_wp (b := true) [] (by decide) (pF_ok _ _) 60 ?_
    have e : (16 ≤ nI 16) = True := eq_true (by decide)
    simp (maxSteps := 4000000) (disch := omega) only [dX3_init_0, dX3_init_1, mr_3_3, dX3_init_4, dX3_init_5, i8_16, dX3_init_7, nr_3_11, dX3_init_10, fr_3_13, fK_3_0, dX3_init_13, dX3_init_14, dX3_init_15, fr_3_17, fK_3_2, dX3_init_18, c32_0, dX3_init_19, dX3_init_20, dX3_init_21, dX3_init_23, ↓jK_23_22, dX3_init_26, dX3_init_27, dX3_init_30, dX3_init_31, dX3_init_34, dX3_init_35, mr_3_21, mnl_20, mal_20, mci_20, mrt_20, dX3_init_38, dX3_init_39, c32_1, dX3_init_42, ↓jK_42_m22, dX3_init_45, mcc_26, mci_26, mnl_26, mrt_26, mal_26, pu_20, ↓sq_iconst, il_iconst, ↓sq_bipush, il_bipush, ↓sq_sipush, il_sipush, ↓sq_lconst, il_lconst, ↓sq_iload_n, il_iload_n, ↓sq_iload, il_iload, ↓sq_lload_n, il_lload_n, ↓sq_lload, il_lload, ↓sq_aload_n, il_aload_n, ↓sq_aload, il_aload, ↓sq_istore_n, il_istore_n, ↓sq_istore, il_istore, ↓sq_astore_n, il_astore_n, ↓sq_astore, il_astore, ↓sq_lstore_n, il_lstore_n, ↓sq_lstore, il_lstore, ↓sq_iinc, il_iinc, ↓sq_iadd, il_iadd, ↓sq_isub, il_isub, ↓sq_imul, il_imul, ↓sq_iand, il_iand, ↓sq_ior, il_ior, ↓sq_ixor, il_ixor, ↓sq_ishl, il_ishl, ↓sq_ishr, il_ishr, ↓sq_iushr, il_iushr, ↓sq_idiv, il_idiv, ↓sq_irem, il_irem, ↓sq_ineg, il_ineg, ↓sq_i2b, il_i2b, ↓sq_i2s, il_i2s, ↓sq_i2l, il_i2l, ↓sq_l2i, il_l2i, ↓sq_ladd, il_ladd, ↓sq_lsub, il_lsub, ↓sq_land, il_land, ↓sq_lor, il_lor, ↓sq_lxor, il_lxor, ↓sq_lshl, il_lshl, ↓sq_lshr, il_lshr, ↓sq_lushr, il_lushr, ↓sq_lcmp, il_lcmp, ↓sq_dup, il_dup, ↓sq_pop, il_pop, ↓sq_dup_x1, il_dup_x1, ↓sq_dup2, il_dup2, ↓sq_ifCond_eq, il_ifCond_eq, ↓sq_ifCond_ne, il_ifCond_ne, ↓sq_ifCond_lt, il_ifCond_lt, ↓sq_ifCond_ge, il_ifCond_ge, ↓sq_ifCond_gt, il_ifCond_gt, ↓sq_ifCond_le, il_ifCond_le, ↓sq_if_icmp_eq, il_if_icmp_eq, ↓sq_if_icmp_ne, il_if_icmp_ne, ↓sq_if_icmp_lt, il_if_icmp_lt, ↓sq_if_icmp_ge, il_if_icmp_ge, ↓sq_if_icmp_gt, il_if_icmp_gt, ↓sq_if_icmp_le, il_if_icmp_le, ↓sq_goto, il_goto, ↓sq_tableswitch, il_tableswitch, ↓sq_lookupswitch, il_lookupswitch, ↓sq_getfield, il_getfield, ↓sq_putfield, il_putfield, ↓sq_iaload, il_iaload, ↓sq_baload, il_baload, ↓sq_laload, il_laload, ↓sq_aaload, il_aaload, ↓sq_arraylength, il_arraylength, ↓sq_iastore, il_iastore, ↓sq_bastore, il_bastore, ↓sq_lastore, il_lastore, ↓sq_getstatic, il_getstatic, ↓sq_ldc2_w, il_ldc2_w, ↓sq_ldc_w, il_ldc_w, ↓sq_ldc, il_ldc, ↓sq_invokevirtual, il_invokevirtual, ↓sq_invokestatic, il_invokestatic, ↓sq_invokespecial, il_invokespecial, ↓sq_return_, il_return_, ↓sq_ireturn, il_ireturn, ↓sq_lreturn, il_lreturn, ↓sq_multianewarray, il_multianewarray, ↓sq_new, il_new, ↓sq_newarray, il_newarray, ↓sq_anewarray, il_anewarray, ↓sq_aastore, il_aastore, wp_s, wpB, gW, inC, ↓sI1, ↓sI2, ↓sL1, ↓sL2, ↓sLI, ↓sR1, ↓sV1, ↓sV2, ↓sIR, ↓sIIR, ↓sLIR, ↓sP, ↓lI, ↓lL, ↓lR, lG, lS, okS, ↓callP, spl, cOK, okM, slN, cS, ↓retP, ↓nF, ↓cpS, vR, fI, eL, bi_0, bi_1, em_l, Value.category, List.length_cons, List.length_nil, List.replicate_succ, List.replicate_zero, true_and, and_true, ↓swL, ↓lkL, Option.toList, List.cons_append, List.nil_append, Classical.not_not, Nat.add_zero, Nat.zero_add, Nat.le_refl, Nat.reduceAdd, Nat.reduceSub, Nat.reduceMul, Nat.reduceLT, Nat.reduceLeDiff, Nat.reduceEqDiff, Nat.reduceBEq, ↓reduceIte, fv_0, fv_1, fv_2, fv_3, fw_0, fw_1, Bool.false_eq_true, Nat.reduceGT, Int.reduceLE, Int.reduceLT, Int.reduceAdd, Int.reduceSub, Int.reduceNeg, Int.reduceToNat, List.size_toArray, Nat.lt_irrefl, or_true, true_or, or_false, false_or, Option.some.injEq, reduceCtorEq, and_self, ite_true, ite_false, true_implies, false_implies, implies_true, not_true_eq_false, not_false_eq_true, dv8, rm8, rm24, cl_nI, vp_nI, n8_0, n24_0, kK_mk, kK_st, kK_cd, kK_sh, kK_it, rR_mk, rR_st, rR_cd, rR_co, rR_sh, rR_it, lt_mk, lt_st, lt_sh, lt_it, lt_cd, u2_eq, u2c, u2s, bi_F, bi_T, lgz, bi_tr, i10, i01, false_and, and_false, kK_0, kK_1, kK_2, kK_3, kK_4, kK_5, kK_6, kK_7, kK_8, kK_9, kK_10, kK_11, kK_12, kK_13, kK_14, kK_15, kK_16, kK_17, kK_18, kK_19, kK_20, kK_21, kK_22, kK_23, kK_24, kK_25, kK_26, kK_27, kK_28, kK_29, kK_30, kK_31, kK_32, kK_33, kK_34, kK_35, kK_36, kK_37, kK_38, kK_39, kK_40, kK_41, kK_42, kK_43, kK_44, kK_45, kK_46, kK_47, kK_48, kK_49, kK_50, kK_51, kK_52, kK_53, kK_54, kK_55, kK_56, kK_57, kK_58, kK_59, kK_60, kK_61, kK_62, kK_63, kK_64, kK_65, kK_66, kK_67, kK_68, kK_69, kK_70, kK_71, kK_72, kK_73, kK_74, kK_75, kK_76, kK_77, kK_78, kK_79, kK_80, kK_81, kK_82, kK_83, kK_84, kK_85, kK_86, kK_87, kK_88, kK_89, kK_90, kK_91, kK_92, kK_93, kK_94, kK_95, kK_96, kK_97, kK_98, kK_99, kK_100, kK_101, kK_102, kK_103, kK_104, kK_105, kK_106, kK_107, kK_108, kK_109, kK_110, kK_111, kK_112, kK_113, kK_114, kK_115, kK_116, kK_117, kK_118, kK_119, kK_120, kK_121, kK_122, kK_123, kK_124, kK_125, kK_126, kK_127, kK_128, kK_129, kK_130, kK_131, kK_132, kK_133, kK_134, kK_135, kK_136, kK_137, kK_138, kK_139, kK_140, kK_141, kK_142, kK_143, kK_144, kK_1000, kK_1001, kK_1002, kK_1010, kK_1011, kK_1012, kK_1013, kK_1014, kK_1015, kK_1016, kK_1017, kK_1018, kK_1019, kK_1020, kK_1021, rR_0_0, rR_0_1, rR_0_2, rR_0_3, rR_0_4, rR_0_5, rR_0_6, rR_0_7, rR_0_8, rR_1_0, rR_1_1, rR_4_0, rR_4_2, rR_38_0, rR_38_3, rR_38_4, rR_38_5, rR_38_6, rR_55_0, rR_55_2, rR_55_3, rR_58_0, rR_58_1, rR_58_2, rR_58_3, rR_60_3, rR_60_4, rR_60_5, rR_60_6, rR_60_7, rR_60_8, rR_60_9, rR_60_10, rR_60_12, rR_60_13, rR_60_14, rR_71_0, rR_71_1, rR_72_1, rR_72_2, rR_72_3, rR_72_4, rR_72_5, rR_72_7, rR_77_2, rR_77_3, rR_77_4, rR_77_5, rR_77_6, rR_77_7, rR_77_8, rR_77_9, rR_77_10, rR_77_11, rR_97_0, rR_97_1, rR_97_5, rR_97_6, rR_97_7, rR_97_8, rR_97_9, rR_97_10, rR_97_11, rR_97_12, rR_97_13, rR_97_16, rR_97_17, rR_97_18, rR_97_23, rR_97_24, rR_97_29, rR_97_30, rR_97_32, rR_97_33, rR_97_34, rR_97_35, rR_97_36, rR_97_40, rR_97_41, rR_97_42, rR_97_43, rR_97_44, rR_97_45, rR_97_46, rR_97_47, rR_97_48, rR_97_49, rR_97_50, rR_97_52, rR_97_53, rR_97_54, rR_97_56, rR_97_58, rR_97_59, rR_97_60, rR_97_61, rR_97_62, rR_97_63, rR_97_64, rR_97_65, rR_97_66, e]
    exact hK
  | succ m ih =>
    intro k hk
    have hi := ih (k + 1) (by omega)
    rw [nI_succ, ← mkR_s (by omega) hR, show 6 + 2 * (k + 1) = 6 + 2 * k + 1 + 1 by omega] at hi
    obtain ⟨q1, q2, -⟩ := k_mk k (by omega)
    have r1 : mkR R k 4 0 = some 5 := by
      unfold mkR
      rw [if_neg (by omega), if_neg (by omega)]
      exact h4
    have r2 : (∀ j, mkR R k (6 + 2 * k) j = none) = True := eq_true (fun j => by
      unfold mkR
      rw [if_neg (by omega), if_neg (by omega)]
      exact hR _ _ (by omega))
    have hN : 6 + 2 * k < 38 := by omega
    generalize mkR R k = R1 at *
    generalize hNN : 6 + 2 * k = N at *
    have e : (16 ≤ nI k) = False := eq_false (nI_ge (b := 16) (by omega) (by omega))
    have v1 : vp_in (nI k) 16 = True := vp_nI (by omega) (by omega)
    have v2 : (nI k).toNatClampNeg = k := cl_nI (by omega)
    have l4 : (4 < N) = True := eq_true (by omega)
    have l4b : (4 < N + 1) = True := eq_true (by omega)
    have l5b : (5 < N + 1 + 1) = True := eq_true (by omega)
    have lb : (N < N + 1) = True := eq_true (by omega)
    have lc : (N < N + 1 + 1) = True := eq_true (by omega)
    have ld : (N + 1 ≤ 38) = True := eq_true (by omega)
    have le : (N + 1 ≤ 1000) = True := eq_true (by omega)
    have lf : (N + 1 + 1 ≤ 38) = True := eq_true (by omega)
    have lg : (N ≤ 38) = True := eq_true (by omega)
    have i0 : (∀ j, I N j = 0) = True := eq_true (fun j => hI _ _ (by omega))
    refine V_wp (b := true) [20] (by decide) (pF_ok _ _) 60 ?_
    simp (maxSteps := 4000000) (disch := omega) only [dX3_init_0, dX3_init_1, mr_3_3, dX3_init_4, dX3_init_5, i8_16, dX3_init_7, nr_3_11, dX3_init_10, fr_3_13, fK_3_0, dX3_init_13, dX3_init_14, dX3_init_15, fr_3_17, fK_3_2, dX3_init_18, c32_0, dX3_init_19, dX3_init_20, dX3_init_21, dX3_init_23, ↓jK_23_22, dX3_init_26, dX3_init_27, dX3_init_30, dX3_init_31, dX3_init_34, dX3_init_35, mr_3_21, mnl_20, mal_20, mci_20, mrt_20, dX3_init_38, dX3_init_39, c32_1, dX3_init_42, ↓jK_42_m22, dX3_init_45, mcc_26, mci_26, mnl_26, mrt_26, mal_26, pu_20, ↓sq_iconst, il_iconst, ↓sq_bipush, il_bipush, ↓sq_sipush, il_sipush, ↓sq_lconst, il_lconst, ↓sq_iload_n, il_iload_n, ↓sq_iload, il_iload, ↓sq_lload_n, il_lload_n, ↓sq_lload, il_lload, ↓sq_aload_n, il_aload_n, ↓sq_aload, il_aload, ↓sq_istore_n, il_istore_n, ↓sq_istore, il_istore, ↓sq_astore_n, il_astore_n, ↓sq_astore, il_astore, ↓sq_lstore_n, il_lstore_n, ↓sq_lstore, il_lstore, ↓sq_iinc, il_iinc, ↓sq_iadd, il_iadd, ↓sq_isub, il_isub, ↓sq_imul, il_imul, ↓sq_iand, il_iand, ↓sq_ior, il_ior, ↓sq_ixor, il_ixor, ↓sq_ishl, il_ishl, ↓sq_ishr, il_ishr, ↓sq_iushr, il_iushr, ↓sq_idiv, il_idiv, ↓sq_irem, il_irem, ↓sq_ineg, il_ineg, ↓sq_i2b, il_i2b, ↓sq_i2s, il_i2s, ↓sq_i2l, il_i2l, ↓sq_l2i, il_l2i, ↓sq_ladd, il_ladd, ↓sq_lsub, il_lsub, ↓sq_land, il_land, ↓sq_lor, il_lor, ↓sq_lxor, il_lxor, ↓sq_lshl, il_lshl, ↓sq_lshr, il_lshr, ↓sq_lushr, il_lushr, ↓sq_lcmp, il_lcmp, ↓sq_dup, il_dup, ↓sq_pop, il_pop, ↓sq_dup_x1, il_dup_x1, ↓sq_dup2, il_dup2, ↓sq_ifCond_eq, il_ifCond_eq, ↓sq_ifCond_ne, il_ifCond_ne, ↓sq_ifCond_lt, il_ifCond_lt, ↓sq_ifCond_ge, il_ifCond_ge, ↓sq_ifCond_gt, il_ifCond_gt, ↓sq_ifCond_le, il_ifCond_le, ↓sq_if_icmp_eq, il_if_icmp_eq, ↓sq_if_icmp_ne, il_if_icmp_ne, ↓sq_if_icmp_lt, il_if_icmp_lt, ↓sq_if_icmp_ge, il_if_icmp_ge, ↓sq_if_icmp_gt, il_if_icmp_gt, ↓sq_if_icmp_le, il_if_icmp_le, ↓sq_goto, il_goto, ↓sq_tableswitch, il_tableswitch, ↓sq_lookupswitch, il_lookupswitch, ↓sq_getfield, il_getfield, ↓sq_putfield, il_putfield, ↓sq_iaload, il_iaload, ↓sq_baload, il_baload, ↓sq_laload, il_laload, ↓sq_aaload, il_aaload, ↓sq_arraylength, il_arraylength, ↓sq_iastore, il_iastore, ↓sq_bastore, il_bastore, ↓sq_lastore, il_lastore, ↓sq_getstatic, il_getstatic, ↓sq_ldc2_w, il_ldc2_w, ↓sq_ldc_w, il_ldc_w, ↓sq_ldc, il_ldc, ↓sq_invokevirtual, il_invokevirtual, ↓sq_invokestatic, il_invokestatic, ↓sq_invokespecial, il_invokespecial, ↓sq_return_, il_return_, ↓sq_ireturn, il_ireturn, ↓sq_lreturn, il_lreturn, ↓sq_multianewarray, il_multianewarray, ↓sq_new, il_new, ↓sq_newarray, il_newarray, ↓sq_anewarray, il_anewarray, ↓sq_aastore, il_aastore, wp_s, wpB, gW, inC, ↓sI1, ↓sI2, ↓sL1, ↓sL2, ↓sLI, ↓sR1, ↓sV1, ↓sV2, ↓sIR, ↓sIIR, ↓sLIR, ↓sP, ↓lI, ↓lL, ↓lR, lG, lS, okS, ↓callP, spl, cOK, okM, slN, cS, ↓retP, ↓nF, ↓cpS, vR, fI, eL, bi_0, bi_1, em_l, Value.category, List.length_cons, List.length_nil, List.replicate_succ, List.replicate_zero, true_and, and_true, ↓swL, ↓lkL, Option.toList, List.cons_append, List.nil_append, Classical.not_not, Nat.add_zero, Nat.zero_add, Nat.le_refl, Nat.reduceAdd, Nat.reduceSub, Nat.reduceMul, Nat.reduceLT, Nat.reduceLeDiff, Nat.reduceEqDiff, Nat.reduceBEq, ↓reduceIte, fv_0, fv_1, fv_2, fv_3, fw_0, fw_1, Bool.false_eq_true, Nat.reduceGT, Int.reduceLE, Int.reduceLT, Int.reduceAdd, Int.reduceSub, Int.reduceNeg, Int.reduceToNat, List.size_toArray, Nat.lt_irrefl, or_true, true_or, or_false, false_or, Option.some.injEq, reduceCtorEq, and_self, ite_true, ite_false, true_implies, false_implies, implies_true, not_true_eq_false, not_false_eq_true, dv8, rm8, rm24, cl_nI, vp_nI, n8_0, n24_0, kK_mk, kK_st, kK_cd, kK_sh, kK_it, rR_mk, rR_st, rR_cd, rR_co, rR_sh, rR_it, lt_mk, lt_st, lt_sh, lt_it, lt_cd, u2_eq, u2c, u2s, bi_F, bi_T, lgz, bi_tr, i10, i01, false_and, and_false, kK_0, kK_1, kK_2, kK_3, kK_4, kK_5, kK_6, kK_7, kK_8, kK_9, kK_10, kK_11, kK_12, kK_13, kK_14, kK_15, kK_16, kK_17, kK_18, kK_19, kK_20, kK_21, kK_22, kK_23, kK_24, kK_25, kK_26, kK_27, kK_28, kK_29, kK_30, kK_31, kK_32, kK_33, kK_34, kK_35, kK_36, kK_37, kK_38, kK_39, kK_40, kK_41, kK_42, kK_43, kK_44, kK_45, kK_46, kK_47, kK_48, kK_49, kK_50, kK_51, kK_52, kK_53, kK_54, kK_55, kK_56, kK_57, kK_58, kK_59, kK_60, kK_61, kK_62, kK_63, kK_64, kK_65, kK_66, kK_67, kK_68, kK_69, kK_70, kK_71, kK_72, kK_73, kK_74, kK_75, kK_76, kK_77, kK_78, kK_79, kK_80, kK_81, kK_82, kK_83, kK_84, kK_85, kK_86, kK_87, kK_88, kK_89, kK_90, kK_91, kK_92, kK_93, kK_94, kK_95, kK_96, kK_97, kK_98, kK_99, kK_100, kK_101, kK_102, kK_103, kK_104, kK_105, kK_106, kK_107, kK_108, kK_109, kK_110, kK_111, kK_112, kK_113, kK_114, kK_115, kK_116, kK_117, kK_118, kK_119, kK_120, kK_121, kK_122, kK_123, kK_124, kK_125, kK_126, kK_127, kK_128, kK_129, kK_130, kK_131, kK_132, kK_133, kK_134, kK_135, kK_136, kK_137, kK_138, kK_139, kK_140, kK_141, kK_142, kK_143, kK_144, kK_1000, kK_1001, kK_1002, kK_1010, kK_1011, kK_1012, kK_1013, kK_1014, kK_1015, kK_1016, kK_1017, kK_1018, kK_1019, kK_1020, kK_1021, rR_0_0, rR_0_1, rR_0_2, rR_0_3, rR_0_4, rR_0_5, rR_0_6, rR_0_7, rR_0_8, rR_1_0, rR_1_1, rR_4_0, rR_4_2, rR_38_0, rR_38_3, rR_38_4, rR_38_5, rR_38_6, rR_55_0, rR_55_2, rR_55_3, rR_58_0, rR_58_1, rR_58_2, rR_58_3, rR_60_3, rR_60_4, rR_60_5, rR_60_6, rR_60_7, rR_60_8, rR_60_9, rR_60_10, rR_60_12, rR_60_13, rR_60_14, rR_71_0, rR_71_1, rR_72_1, rR_72_2, rR_72_3, rR_72_4, rR_72_5, rR_72_7, rR_77_2, rR_77_3, rR_77_4, rR_77_5, rR_77_6, rR_77_7, rR_77_8, rR_77_9, rR_77_10, rR_77_11, rR_97_0, rR_97_1, rR_97_5, rR_97_6, rR_97_7, rR_97_8, rR_97_9, rR_97_10, rR_97_11, rR_97_12, rR_97_13, rR_97_16, rR_97_17, rR_97_18, rR_97_23, rR_97_24, rR_97_29, rR_97_30, rR_97_32, rR_97_33, rR_97_34, rR_97_35, rR_97_36, rR_97_40, rR_97_41, rR_97_42, rR_97_43, rR_97_44, rR_97_45, rR_97_46, rR_97_47, rR_97_48, rR_97_49, rR_97_50, rR_97_52, rR_97_53, rR_97_54, rR_97_56, rR_97_58, rR_97_59, rR_97_60, rR_97_61, rR_97_62, rR_97_63, rR_97_64, rR_97_65, rR_97_66, e, r1, r2, v1, v2, q1, q2, l4, l4b, l5b, lb, lc, ld, le, lf, lg, i0, eq_self]
    refine x_20 q1 q2 (by omega) (fun b j hb => hI b j (by omega)) (fun b j hb => hL b j (by omega)) ?_
    have lh : (N ≤ 36) = True := eq_true (by omega)
    simp (maxSteps := 4000000) (disch := omega) only [dX3_init_0, dX3_init_1, mr_3_3, dX3_init_4, dX3_init_5, i8_16, dX3_init_7, nr_3_11, dX3_init_10, fr_3_13, fK_3_0, dX3_init_13, dX3_init_14, dX3_init_15, fr_3_17, fK_3_2, dX3_init_18, c32_0, dX3_init_19, dX3_init_20, dX3_init_21, dX3_init_23, ↓jK_23_22, dX3_init_26, dX3_init_27, dX3_init_30, dX3_init_31, dX3_init_34, dX3_init_35, mr_3_21, mnl_20, mal_20, mci_20, mrt_20, dX3_init_38, dX3_init_39, c32_1, dX3_init_42, ↓jK_42_m22, dX3_init_45, mcc_26, mci_26, mnl_26, mrt_26, mal_26, pu_20, ↓sq_iconst, il_iconst, ↓sq_bipush, il_bipush, ↓sq_sipush, il_sipush, ↓sq_lconst, il_lconst, ↓sq_iload_n, il_iload_n, ↓sq_iload, il_iload, ↓sq_lload_n, il_lload_n, ↓sq_lload, il_lload, ↓sq_aload_n, il_aload_n, ↓sq_aload, il_aload, ↓sq_istore_n, il_istore_n, ↓sq_istore, il_istore, ↓sq_astore_n, il_astore_n, ↓sq_astore, il_astore, ↓sq_lstore_n, il_lstore_n, ↓sq_lstore, il_lstore, ↓sq_iinc, il_iinc, ↓sq_iadd, il_iadd, ↓sq_isub, il_isub, ↓sq_imul, il_imul, ↓sq_iand, il_iand, ↓sq_ior, il_ior, ↓sq_ixor, il_ixor, ↓sq_ishl, il_ishl, ↓sq_ishr, il_ishr, ↓sq_iushr, il_iushr, ↓sq_idiv, il_idiv, ↓sq_irem, il_irem, ↓sq_ineg, il_ineg, ↓sq_i2b, il_i2b, ↓sq_i2s, il_i2s, ↓sq_i2l, il_i2l, ↓sq_l2i, il_l2i, ↓sq_ladd, il_ladd, ↓sq_lsub, il_lsub, ↓sq_land, il_land, ↓sq_lor, il_lor, ↓sq_lxor, il_lxor, ↓sq_lshl, il_lshl, ↓sq_lshr, il_lshr, ↓sq_lushr, il_lushr, ↓sq_lcmp, il_lcmp, ↓sq_dup, il_dup, ↓sq_pop, il_pop, ↓sq_dup_x1, il_dup_x1, ↓sq_dup2, il_dup2, ↓sq_ifCond_eq, il_ifCond_eq, ↓sq_ifCond_ne, il_ifCond_ne, ↓sq_ifCond_lt, il_ifCond_lt, ↓sq_ifCond_ge, il_ifCond_ge, ↓sq_ifCond_gt, il_ifCond_gt, ↓sq_ifCond_le, il_ifCond_le, ↓sq_if_icmp_eq, il_if_icmp_eq, ↓sq_if_icmp_ne, il_if_icmp_ne, ↓sq_if_icmp_lt, il_if_icmp_lt, ↓sq_if_icmp_ge, il_if_icmp_ge, ↓sq_if_icmp_gt, il_if_icmp_gt, ↓sq_if_icmp_le, il_if_icmp_le, ↓sq_goto, il_goto, ↓sq_tableswitch, il_tableswitch, ↓sq_lookupswitch, il_lookupswitch, ↓sq_getfield, il_getfield, ↓sq_putfield, il_putfield, ↓sq_iaload, il_iaload, ↓sq_baload, il_baload, ↓sq_laload, il_laload, ↓sq_aaload, il_aaload, ↓sq_arraylength, il_arraylength, ↓sq_iastore, il_iastore, ↓sq_bastore, il_bastore, ↓sq_lastore, il_lastore, ↓sq_getstatic, il_getstatic, ↓sq_ldc2_w, il_ldc2_w, ↓sq_ldc_w, il_ldc_w, ↓sq_ldc, il_ldc, ↓sq_invokevirtual, il_invokevirtual, ↓sq_invokestatic, il_invokestatic, ↓sq_invokespecial, il_invokespecial, ↓sq_return_, il_return_, ↓sq_ireturn, il_ireturn, ↓sq_lreturn, il_lreturn, ↓sq_multianewarray, il_multianewarray, ↓sq_new, il_new, ↓sq_newarray, il_newarray, ↓sq_anewarray, il_anewarray, ↓sq_aastore, il_aastore, wp_s, wpB, gW, inC, ↓sI1, ↓sI2, ↓sL1, ↓sL2, ↓sLI, ↓sR1, ↓sV1, ↓sV2, ↓sIR, ↓sIIR, ↓sLIR, ↓sP, ↓lI, ↓lL, ↓lR, lG, lS, okS, ↓callP, spl, cOK, okM, slN, cS, ↓retP, ↓nF, ↓cpS, vR, fI, eL, bi_0, bi_1, em_l, Value.category, List.length_cons, List.length_nil, List.replicate_succ, List.replicate_zero, true_and, and_true, ↓swL, ↓lkL, Option.toList, List.cons_append, List.nil_append, Classical.not_not, Nat.add_zero, Nat.zero_add, Nat.le_refl, Nat.reduceAdd, Nat.reduceSub, Nat.reduceMul, Nat.reduceLT, Nat.reduceLeDiff, Nat.reduceEqDiff, Nat.reduceBEq, ↓reduceIte, fv_0, fv_1, fv_2, fv_3, fw_0, fw_1, Bool.false_eq_true, Nat.reduceGT, Int.reduceLE, Int.reduceLT, Int.reduceAdd, Int.reduceSub, Int.reduceNeg, Int.reduceToNat, List.size_toArray, Nat.lt_irrefl, or_true, true_or, or_false, false_or, Option.some.injEq, reduceCtorEq, and_self, ite_true, ite_false, true_implies, false_implies, implies_true, not_true_eq_false, not_false_eq_true, dv8, rm8, rm24, cl_nI, vp_nI, n8_0, n24_0, kK_mk, kK_st, kK_cd, kK_sh, kK_it, rR_mk, rR_st, rR_cd, rR_co, rR_sh, rR_it, lt_mk, lt_st, lt_sh, lt_it, lt_cd, u2_eq, u2c, u2s, bi_F, bi_T, lgz, bi_tr, i10, i01, false_and, and_false, kK_0, kK_1, kK_2, kK_3, kK_4, kK_5, kK_6, kK_7, kK_8, kK_9, kK_10, kK_11, kK_12, kK_13, kK_14, kK_15, kK_16, kK_17, kK_18, kK_19, kK_20, kK_21, kK_22, kK_23, kK_24, kK_25, kK_26, kK_27, kK_28, kK_29, kK_30, kK_31, kK_32, kK_33, kK_34, kK_35, kK_36, kK_37, kK_38, kK_39, kK_40, kK_41, kK_42, kK_43, kK_44, kK_45, kK_46, kK_47, kK_48, kK_49, kK_50, kK_51, kK_52, kK_53, kK_54, kK_55, kK_56, kK_57, kK_58, kK_59, kK_60, kK_61, kK_62, kK_63, kK_64, kK_65, kK_66, kK_67, kK_68, kK_69, kK_70, kK_71, kK_72, kK_73, kK_74, kK_75, kK_76, kK_77, kK_78, kK_79, kK_80, kK_81, kK_82, kK_83, kK_84, kK_85, kK_86, kK_87, kK_88, kK_89, kK_90, kK_91, kK_92, kK_93, kK_94, kK_95, kK_96, kK_97, kK_98, kK_99, kK_100, kK_101, kK_102, kK_103, kK_104, kK_105, kK_106, kK_107, kK_108, kK_109, kK_110, kK_111, kK_112, kK_113, kK_114, kK_115, kK_116, kK_117, kK_118, kK_119, kK_120, kK_121, kK_122, kK_123, kK_124, kK_125, kK_126, kK_127, kK_128, kK_129, kK_130, kK_131, kK_132, kK_133, kK_134, kK_135, kK_136, kK_137, kK_138, kK_139, kK_140, kK_141, kK_142, kK_143, kK_144, kK_1000, kK_1001, kK_1002, kK_1010, kK_1011, kK_1012, kK_1013, kK_1014, kK_1015, kK_1016, kK_1017, kK_1018, kK_1019, kK_1020, kK_1021, rR_0_0, rR_0_1, rR_0_2, rR_0_3, rR_0_4, rR_0_5, rR_0_6, rR_0_7, rR_0_8, rR_1_0, rR_1_1, rR_4_0, rR_4_2, rR_38_0, rR_38_3, rR_38_4, rR_38_5, rR_38_6, rR_55_0, rR_55_2, rR_55_3, rR_58_0, rR_58_1, rR_58_2, rR_58_3, rR_60_3, rR_60_4, rR_60_5, rR_60_6, rR_60_7, rR_60_8, rR_60_9, rR_60_10, rR_60_12, rR_60_13, rR_60_14, rR_71_0, rR_71_1, rR_72_1, rR_72_2, rR_72_3, rR_72_4, rR_72_5, rR_72_7, rR_77_2, rR_77_3, rR_77_4, rR_77_5, rR_77_6, rR_77_7, rR_77_8, rR_77_9, rR_77_10, rR_77_11, rR_97_0, rR_97_1, rR_97_5, rR_97_6, rR_97_7, rR_97_8, rR_97_9, rR_97_10, rR_97_11, rR_97_12, rR_97_13, rR_97_16, rR_97_17, rR_97_18, rR_97_23, rR_97_24, rR_97_29, rR_97_30, rR_97_32, rR_97_33, rR_97_34, rR_97_35, rR_97_36, rR_97_40, rR_97_41, rR_97_42, rR_97_43, rR_97_44, rR_97_45, rR_97_46, rR_97_47, rR_97_48, rR_97_49, rR_97_50, rR_97_52, rR_97_53, rR_97_54, rR_97_56, rR_97_58, rR_97_59, rR_97_60, rR_97_61, rR_97_62, rR_97_63, rR_97_64, rR_97_65, rR_97_66, kont, v1, v2, q1, l5b, lc, lh, eq_self]
    exact hi
theorem x_26 {I : MI} {R : MR} (hI : ∀ a j, 5 ≤ a → I a j = 0) (hL : ∀ a j, 5 ≤ a → L a j = 0) (hR : ∀ a j, 5 ≤ a → R a j = none) (hK : K none 38 I L (mkR (u2 (u2 R 4 0 (some 5)) 4 2 (some 1)) 16)) : CK G (d + 5) 26 [.ref 4, .ref 1] 5 I L R K := by
  refine CK_go (b := true) 160 [7, 20] (by decide) (pF_ok _ _) ?_
  simp (maxSteps := 4000000) (disch := omega) only [dX3_init_0, dX3_init_1, mr_3_3, dX3_init_4, dX3_init_5, i8_16, dX3_init_7, nr_3_11, dX3_init_10, fr_3_13, fK_3_0, dX3_init_13, dX3_init_14, dX3_init_15, fr_3_17, fK_3_2, dX3_init_18, c32_0, dX3_init_19, dX3_init_20, dX3_init_21, dX3_init_23, ↓jK_23_22, dX3_init_26, dX3_init_27, dX3_init_30, dX3_init_31, dX3_init_34, dX3_init_35, mr_3_21, mnl_20, mal_20, mci_20, mrt_20, dX3_init_38, dX3_init_39, c32_1, dX3_init_42, ↓jK_42_m22, dX3_init_45, mcc_26, mci_26, mnl_26, mrt_26, mal_26, pu_20, ↓sq_iconst, il_iconst, ↓sq_bipush, il_bipush, ↓sq_sipush, il_sipush, ↓sq_lconst, il_lconst, ↓sq_iload_n, il_iload_n, ↓sq_iload, il_iload, ↓sq_lload_n, il_lload_n, ↓sq_lload, il_lload, ↓sq_aload_n, il_aload_n, ↓sq_aload, il_aload, ↓sq_istore_n, il_istore_n, ↓sq_istore, il_istore, ↓sq_astore_n, il_astore_n, ↓sq_astore, il_astore, ↓sq_lstore_n, il_lstore_n, ↓sq_lstore, il_lstore, ↓sq_iinc, il_iinc, ↓sq_iadd, il_iadd, ↓sq_isub, il_isub, ↓sq_imul, il_imul, ↓sq_iand, il_iand, ↓sq_ior, il_ior, ↓sq_ixor, il_ixor, ↓sq_ishl, il_ishl, ↓sq_ishr, il_ishr, ↓sq_iushr, il_iushr, ↓sq_idiv, il_idiv, ↓sq_irem, il_irem, ↓sq_ineg, il_ineg, ↓sq_i2b, il_i2b, ↓sq_i2s, il_i2s, ↓sq_i2l, il_i2l, ↓sq_l2i, il_l2i, ↓sq_ladd, il_ladd, ↓sq_lsub, il_lsub, ↓sq_land, il_land, ↓sq_lor, il_lor, ↓sq_lxor, il_lxor, ↓sq_lshl, il_lshl, ↓sq_lshr, il_lshr, ↓sq_lushr, il_lushr, ↓sq_lcmp, il_lcmp, ↓sq_dup, il_dup, ↓sq_pop, il_pop, ↓sq_dup_x1, il_dup_x1, ↓sq_dup2, il_dup2, ↓sq_ifCond_eq, il_ifCond_eq, ↓sq_ifCond_ne, il_ifCond_ne, ↓sq_ifCond_lt, il_ifCond_lt, ↓sq_ifCond_ge, il_ifCond_ge, ↓sq_ifCond_gt, il_ifCond_gt, ↓sq_ifCond_le, il_ifCond_le, ↓sq_if_icmp_eq, il_if_icmp_eq, ↓sq_if_icmp_ne, il_if_icmp_ne, ↓sq_if_icmp_lt, il_if_icmp_lt, ↓sq_if_icmp_ge, il_if_icmp_ge, ↓sq_if_icmp_gt, il_if_icmp_gt, ↓sq_if_icmp_le, il_if_icmp_le, ↓sq_goto, il_goto, ↓sq_tableswitch, il_tableswitch, ↓sq_lookupswitch, il_lookupswitch, ↓sq_getfield, il_getfield, ↓sq_putfield, il_putfield, ↓sq_iaload, il_iaload, ↓sq_baload, il_baload, ↓sq_laload, il_laload, ↓sq_aaload, il_aaload, ↓sq_arraylength, il_arraylength, ↓sq_iastore, il_iastore, ↓sq_bastore, il_bastore, ↓sq_lastore, il_lastore, ↓sq_getstatic, il_getstatic, ↓sq_ldc2_w, il_ldc2_w, ↓sq_ldc_w, il_ldc_w, ↓sq_ldc, il_ldc, ↓sq_invokevirtual, il_invokevirtual, ↓sq_invokestatic, il_invokestatic, ↓sq_invokespecial, il_invokespecial, ↓sq_return_, il_return_, ↓sq_ireturn, il_ireturn, ↓sq_lreturn, il_lreturn, ↓sq_multianewarray, il_multianewarray, ↓sq_new, il_new, ↓sq_newarray, il_newarray, ↓sq_anewarray, il_anewarray, ↓sq_aastore, il_aastore, wp_s, wpB, gW, inC, ↓sI1, ↓sI2, ↓sL1, ↓sL2, ↓sLI, ↓sR1, ↓sV1, ↓sV2, ↓sIR, ↓sIIR, ↓sLIR, ↓sP, ↓lI, ↓lL, ↓lR, lG, lS, okS, ↓callP, spl, cOK, okM, slN, cS, ↓retP, ↓nF, ↓cpS, vR, fI, eL, bi_0, bi_1, em_l, Value.category, List.length_cons, List.length_nil, List.replicate_succ, List.replicate_zero, true_and, and_true, ↓swL, ↓lkL, Option.toList, List.cons_append, List.nil_append, Classical.not_not, Nat.add_zero, Nat.zero_add, Nat.le_refl, Nat.reduceAdd, Nat.reduceSub, Nat.reduceMul, Nat.reduceLT, Nat.reduceLeDiff, Nat.reduceEqDiff, Nat.reduceBEq, ↓reduceIte, fv_0, fv_1, fv_2, fv_3, fw_0, fw_1, Bool.false_eq_true, Nat.reduceGT, Int.reduceLE, Int.reduceLT, Int.reduceAdd, Int.reduceSub, Int.reduceNeg, Int.reduceToNat, List.size_toArray, Nat.lt_irrefl, or_true, true_or, or_false, false_or, Option.some.injEq, reduceCtorEq, and_self, ite_true, ite_false, true_implies, false_implies, implies_true, not_true_eq_false, not_false_eq_true, dv8, rm8, rm24, cl_nI, vp_nI, n8_0, n24_0, kK_mk, kK_st, kK_cd, kK_sh, kK_it, rR_mk, rR_st, rR_cd, rR_co, rR_sh, rR_it, lt_mk, lt_st, lt_sh, lt_it, lt_cd, u2_eq, u2c, u2s, bi_F, bi_T, lgz, bi_tr, i10, i01, false_and, and_false, kK_0, kK_1, kK_2, kK_3, kK_4, kK_5, kK_6, kK_7, kK_8, kK_9, kK_10, kK_11, kK_12, kK_13, kK_14, kK_15, kK_16, kK_17, kK_18, kK_19, kK_20, kK_21, kK_22, kK_23, kK_24, kK_25, kK_26, kK_27, kK_28, kK_29, kK_30, kK_31, kK_32, kK_33, kK_34, kK_35, kK_36, kK_37, kK_38, kK_39, kK_40, kK_41, kK_42, kK_43, kK_44, kK_45, kK_46, kK_47, kK_48, kK_49, kK_50, kK_51, kK_52, kK_53, kK_54, kK_55, kK_56, kK_57, kK_58, kK_59, kK_60, kK_61, kK_62, kK_63, kK_64, kK_65, kK_66, kK_67, kK_68, kK_69, kK_70, kK_71, kK_72, kK_73, kK_74, kK_75, kK_76, kK_77, kK_78, kK_79, kK_80, kK_81, kK_82, kK_83, kK_84, kK_85, kK_86, kK_87, kK_88, kK_89, kK_90, kK_91, kK_92, kK_93, kK_94, kK_95, kK_96, kK_97, kK_98, kK_99, kK_100, kK_101, kK_102, kK_103, kK_104, kK_105, kK_106, kK_107, kK_108, kK_109, kK_110, kK_111, kK_112, kK_113, kK_114, kK_115, kK_116, kK_117, kK_118, kK_119, kK_120, kK_121, kK_122, kK_123, kK_124, kK_125, kK_126, kK_127, kK_128, kK_129, kK_130, kK_131, kK_132, kK_133, kK_134, kK_135, kK_136, kK_137, kK_138, kK_139, kK_140, kK_141, kK_142, kK_143, kK_144, kK_1000, kK_1001, kK_1002, kK_1010, kK_1011, kK_1012, kK_1013, kK_1014, kK_1015, kK_1016, kK_1017, kK_1018, kK_1019, kK_1020, kK_1021, rR_0_0, rR_0_1, rR_0_2, rR_0_3, rR_0_4, rR_0_5, rR_0_6, rR_0_7, rR_0_8, rR_1_0, rR_1_1, rR_4_0, rR_4_2, rR_38_0, rR_38_3, rR_38_4, rR_38_5, rR_38_6, rR_55_0, rR_55_2, rR_55_3, rR_58_0, rR_58_1, rR_58_2, rR_58_3, rR_60_3, rR_60_4, rR_60_5, rR_60_6, rR_60_7, rR_60_8, rR_60_9, rR_60_10, rR_60_12, rR_60_13, rR_60_14, rR_71_0, rR_71_1, rR_72_1, rR_72_2, rR_72_3, rR_72_4, rR_72_5, rR_72_7, rR_77_2, rR_77_3, rR_77_4, rR_77_5, rR_77_6, rR_77_7, rR_77_8, rR_77_9, rR_77_10, rR_77_11, rR_97_0, rR_97_1, rR_97_5, rR_97_6, rR_97_7, rR_97_8, rR_97_9, rR_97_10, rR_97_11, rR_97_12, rR_97_13, rR_97_16, rR_97_17, rR_97_18, rR_97_23, rR_97_24, rR_97_29, rR_97_30, rR_97_32, rR_97_33, rR_97_34, rR_97_35, rR_97_36, rR_97_40, rR_97_41, rR_97_42, rR_97_43, rR_97_44, rR_97_45, rR_97_46, rR_97_47, rR_97_48, rR_97_49, rR_97_50, rR_97_52, rR_97_53, rR_97_54, rR_97_56, rR_97_58, rR_97_59, rR_97_60, rR_97_61, rR_97_62, rR_97_63, rR_97_64, rR_97_65, rR_97_66, hI, hL, hR, eq_self, vsz, aTg, pk_26_3_0, pk_26_3_2]
  refine V_anew (d := d + 4) (t := 4) (N := 16) (by decide) dX3_init_7 ((nr_facts nr_3_11).1 (by decide)).1 (Or.inl ⟨rfl, rfl⟩) (by decide) (by decide) (by decide) (by decide +kernel) (by decide) (by decide) (fun j => hR 5 j (by decide)) ?_
  refine V_wp (b := true) [20] (by decide) (pF_ok _ _) 60 ?_
  simp (maxSteps := 4000000) (disch := omega) only [dX3_init_0, dX3_init_1, mr_3_3, dX3_init_4, dX3_init_5, i8_16, dX3_init_7, nr_3_11, dX3_init_10, fr_3_13, fK_3_0, dX3_init_13, dX3_init_14, dX3_init_15, fr_3_17, fK_3_2, dX3_init_18, c32_0, dX3_init_19, dX3_init_20, dX3_init_21, dX3_init_23, ↓jK_23_22, dX3_init_26, dX3_init_27, dX3_init_30, dX3_init_31, dX3_init_34, dX3_init_35, mr_3_21, mnl_20, mal_20, mci_20, mrt_20, dX3_init_38, dX3_init_39, c32_1, dX3_init_42, ↓jK_42_m22, dX3_init_45, mcc_26, mci_26, mnl_26, mrt_26, mal_26, pu_20, ↓sq_iconst, il_iconst, ↓sq_bipush, il_bipush, ↓sq_sipush, il_sipush, ↓sq_lconst, il_lconst, ↓sq_iload_n, il_iload_n, ↓sq_iload, il_iload, ↓sq_lload_n, il_lload_n, ↓sq_lload, il_lload, ↓sq_aload_n, il_aload_n, ↓sq_aload, il_aload, ↓sq_istore_n, il_istore_n, ↓sq_istore, il_istore, ↓sq_astore_n, il_astore_n, ↓sq_astore, il_astore, ↓sq_lstore_n, il_lstore_n, ↓sq_lstore, il_lstore, ↓sq_iinc, il_iinc, ↓sq_iadd, il_iadd, ↓sq_isub, il_isub, ↓sq_imul, il_imul, ↓sq_iand, il_iand, ↓sq_ior, il_ior, ↓sq_ixor, il_ixor, ↓sq_ishl, il_ishl, ↓sq_ishr, il_ishr, ↓sq_iushr, il_iushr, ↓sq_idiv, il_idiv, ↓sq_irem, il_irem, ↓sq_ineg, il_ineg, ↓sq_i2b, il_i2b, ↓sq_i2s, il_i2s, ↓sq_i2l, il_i2l, ↓sq_l2i, il_l2i, ↓sq_ladd, il_ladd, ↓sq_lsub, il_lsub, ↓sq_land, il_land, ↓sq_lor, il_lor, ↓sq_lxor, il_lxor, ↓sq_lshl, il_lshl, ↓sq_lshr, il_lshr, ↓sq_lushr, il_lushr, ↓sq_lcmp, il_lcmp, ↓sq_dup, il_dup, ↓sq_pop, il_pop, ↓sq_dup_x1, il_dup_x1, ↓sq_dup2, il_dup2, ↓sq_ifCond_eq, il_ifCond_eq, ↓sq_ifCond_ne, il_ifCond_ne, ↓sq_ifCond_lt, il_ifCond_lt, ↓sq_ifCond_ge, il_ifCond_ge, ↓sq_ifCond_gt, il_ifCond_gt, ↓sq_ifCond_le, il_ifCond_le, ↓sq_if_icmp_eq, il_if_icmp_eq, ↓sq_if_icmp_ne, il_if_icmp_ne, ↓sq_if_icmp_lt, il_if_icmp_lt, ↓sq_if_icmp_ge, il_if_icmp_ge, ↓sq_if_icmp_gt, il_if_icmp_gt, ↓sq_if_icmp_le, il_if_icmp_le, ↓sq_goto, il_goto, ↓sq_tableswitch, il_tableswitch, ↓sq_lookupswitch, il_lookupswitch, ↓sq_getfield, il_getfield, ↓sq_putfield, il_putfield, ↓sq_iaload, il_iaload, ↓sq_baload, il_baload, ↓sq_laload, il_laload, ↓sq_aaload, il_aaload, ↓sq_arraylength, il_arraylength, ↓sq_iastore, il_iastore, ↓sq_bastore, il_bastore, ↓sq_lastore, il_lastore, ↓sq_getstatic, il_getstatic, ↓sq_ldc2_w, il_ldc2_w, ↓sq_ldc_w, il_ldc_w, ↓sq_ldc, il_ldc, ↓sq_invokevirtual, il_invokevirtual, ↓sq_invokestatic, il_invokestatic, ↓sq_invokespecial, il_invokespecial, ↓sq_return_, il_return_, ↓sq_ireturn, il_ireturn, ↓sq_lreturn, il_lreturn, ↓sq_multianewarray, il_multianewarray, ↓sq_new, il_new, ↓sq_newarray, il_newarray, ↓sq_anewarray, il_anewarray, ↓sq_aastore, il_aastore, wp_s, wpB, gW, inC, ↓sI1, ↓sI2, ↓sL1, ↓sL2, ↓sLI, ↓sR1, ↓sV1, ↓sV2, ↓sIR, ↓sIIR, ↓sLIR, ↓sP, ↓lI, ↓lL, ↓lR, lG, lS, okS, ↓callP, spl, cOK, okM, slN, cS, ↓retP, ↓nF, ↓cpS, vR, fI, eL, bi_0, bi_1, em_l, Value.category, List.length_cons, List.length_nil, List.replicate_succ, List.replicate_zero, true_and, and_true, ↓swL, ↓lkL, Option.toList, List.cons_append, List.nil_append, Classical.not_not, Nat.add_zero, Nat.zero_add, Nat.le_refl, Nat.reduceAdd, Nat.reduceSub, Nat.reduceMul, Nat.reduceLT, Nat.reduceLeDiff, Nat.reduceEqDiff, Nat.reduceBEq, ↓reduceIte, fv_0, fv_1, fv_2, fv_3, fw_0, fw_1, Bool.false_eq_true, Nat.reduceGT, Int.reduceLE, Int.reduceLT, Int.reduceAdd, Int.reduceSub, Int.reduceNeg, Int.reduceToNat, List.size_toArray, Nat.lt_irrefl, or_true, true_or, or_false, false_or, Option.some.injEq, reduceCtorEq, and_self, ite_true, ite_false, true_implies, false_implies, implies_true, not_true_eq_false, not_false_eq_true, dv8, rm8, rm24, cl_nI, vp_nI, n8_0, n24_0, kK_mk, kK_st, kK_cd, kK_sh, kK_it, rR_mk, rR_st, rR_cd, rR_co, rR_sh, rR_it, lt_mk, lt_st, lt_sh, lt_it, lt_cd, u2_eq, u2c, u2s, bi_F, bi_T, lgz, bi_tr, i10, i01, false_and, and_false, kK_0, kK_1, kK_2, kK_3, kK_4, kK_5, kK_6, kK_7, kK_8, kK_9, kK_10, kK_11, kK_12, kK_13, kK_14, kK_15, kK_16, kK_17, kK_18, kK_19, kK_20, kK_21, kK_22, kK_23, kK_24, kK_25, kK_26, kK_27, kK_28, kK_29, kK_30, kK_31, kK_32, kK_33, kK_34, kK_35, kK_36, kK_37, kK_38, kK_39, kK_40, kK_41, kK_42, kK_43, kK_44, kK_45, kK_46, kK_47, kK_48, kK_49, kK_50, kK_51, kK_52, kK_53, kK_54, kK_55, kK_56, kK_57, kK_58, kK_59, kK_60, kK_61, kK_62, kK_63, kK_64, kK_65, kK_66, kK_67, kK_68, kK_69, kK_70, kK_71, kK_72, kK_73, kK_74, kK_75, kK_76, kK_77, kK_78, kK_79, kK_80, kK_81, kK_82, kK_83, kK_84, kK_85, kK_86, kK_87, kK_88, kK_89, kK_90, kK_91, kK_92, kK_93, kK_94, kK_95, kK_96, kK_97, kK_98, kK_99, kK_100, kK_101, kK_102, kK_103, kK_104, kK_105, kK_106, kK_107, kK_108, kK_109, kK_110, kK_111, kK_112, kK_113, kK_114, kK_115, kK_116, kK_117, kK_118, kK_119, kK_120, kK_121, kK_122, kK_123, kK_124, kK_125, kK_126, kK_127, kK_128, kK_129, kK_130, kK_131, kK_132, kK_133, kK_134, kK_135, kK_136, kK_137, kK_138, kK_139, kK_140, kK_141, kK_142, kK_143, kK_144, kK_1000, kK_1001, kK_1002, kK_1010, kK_1011, kK_1012, kK_1013, kK_1014, kK_1015, kK_1016, kK_1017, kK_1018, kK_1019, kK_1020, kK_1021, rR_0_0, rR_0_1, rR_0_2, rR_0_3, rR_0_4, rR_0_5, rR_0_6, rR_0_7, rR_0_8, rR_1_0, rR_1_1, rR_4_0, rR_4_2, rR_38_0, rR_38_3, rR_38_4, rR_38_5, rR_38_6, rR_55_0, rR_55_2, rR_55_3, rR_58_0, rR_58_1, rR_58_2, rR_58_3, rR_60_3, rR_60_4, rR_60_5, rR_60_6, rR_60_7, rR_60_8, rR_60_9, rR_60_10, rR_60_12, rR_60_13, rR_60_14, rR_71_0, rR_71_1, rR_72_1, rR_72_2, rR_72_3, rR_72_4, rR_72_5, rR_72_7, rR_77_2, rR_77_3, rR_77_4, rR_77_5, rR_77_6, rR_77_7, rR_77_8, rR_77_9, rR_77_10, rR_77_11, rR_97_0, rR_97_1, rR_97_5, rR_97_6, rR_97_7, rR_97_8, rR_97_9, rR_97_10, rR_97_11, rR_97_12, rR_97_13, rR_97_16, rR_97_17, rR_97_18, rR_97_23, rR_97_24, rR_97_29, rR_97_30, rR_97_32, rR_97_33, rR_97_34, rR_97_35, rR_97_36, rR_97_40, rR_97_41, rR_97_42, rR_97_43, rR_97_44, rR_97_45, rR_97_46, rR_97_47, rR_97_48, rR_97_49, rR_97_50, rR_97_52, rR_97_53, rR_97_54, rR_97_56, rR_97_58, rR_97_59, rR_97_60, rR_97_61, rR_97_62, rR_97_63, rR_97_64, rR_97_65, rR_97_66, hI, hL, hR, eq_self, vsz, aTg, pk_26_3_0, pk_26_3_2]
  have h := l26 (G := G) (d := d) (K := K) (L := L) (I := I) (R := u2 (u2 R 4 0 (some 5)) 4 2 (some 1)) rfl hI hL (fun a j h => by rw [u2_ne (by omega), u2_ne (by omega)]; exact hR a j (by omega)) hK 16 0 (by omega)
  rw [mkR_0] at h
  exact V_weak h (leL_e ⟨rfl, rfl, trivial⟩)
/-! the text it begins with -/
def tx0 (i : Nat) : Nat := ([98, 114, 101, 97, 99, 104, 32, 115, 116, 114, 105, 112, 32, 97, 110, 100, 32, 48, 32, 60, 32, 115, 105, 122, 101, 32, 111, 114, 32, 102, 97, 114, 32, 60, 32, 48, 32, 59, 32, 115, 104, 111, 111, 116, 32, 48, 32, 60, 32, 104, 101, 97, 114, 100, 32, 59] : List Nat).getD i 0
def ps0 (k : Nat) : Nat := ([0, 7, 13, 17, 19, 21, 26, 29, 33, 35, 37, 39, 45, 47, 49, 55] : List Nat).getD k 56
theorem ps0_0 : psN tx0 56 0 = 0 := by decide +kernel
theorem ps0_1 : psN tx0 56 1 = 7 := by rw [ps_s, ps0_0]; decide +kernel
theorem ps0_2 : psN tx0 56 2 = 13 := by rw [ps_s, ps0_1]; decide +kernel
theorem ps0_3 : psN tx0 56 3 = 17 := by rw [ps_s, ps0_2]; decide +kernel
theorem ps0_4 : psN tx0 56 4 = 19 := by rw [ps_s, ps0_3]; decide +kernel
theorem ps0_5 : psN tx0 56 5 = 21 := by rw [ps_s, ps0_4]; decide +kernel
theorem ps0_6 : psN tx0 56 6 = 26 := by rw [ps_s, ps0_5]; decide +kernel
theorem ps0_7 : psN tx0 56 7 = 29 := by rw [ps_s, ps0_6]; decide +kernel
theorem ps0_8 : psN tx0 56 8 = 33 := by rw [ps_s, ps0_7]; decide +kernel
theorem ps0_9 : psN tx0 56 9 = 35 := by rw [ps_s, ps0_8]; decide +kernel
theorem ps0_10 : psN tx0 56 10 = 37 := by rw [ps_s, ps0_9]; decide +kernel
theorem ps0_11 : psN tx0 56 11 = 39 := by rw [ps_s, ps0_10]; decide +kernel
theorem ps0_12 : psN tx0 56 12 = 45 := by rw [ps_s, ps0_11]; decide +kernel
theorem ps0_13 : psN tx0 56 13 = 47 := by rw [ps_s, ps0_12]; decide +kernel
theorem ps0_14 : psN tx0 56 14 = 49 := by rw [ps_s, ps0_13]; decide +kernel
theorem ps0_15 : psN tx0 56 15 = 55 := by rw [ps_s, ps0_14]; decide +kernel
theorem ps0_16 : psN tx0 56 16 = 56 := by rw [ps_s, ps0_15]; decide +kernel
theorem ps0_w : ∀ m, psN tx0 56 (16 + m) = 56 := by
  intro m
  induction m with
  | zero => exact ps0_16
  | succ m ih => rw [show 16 + (m + 1) = (16 + m) + 1 from rfl, ps_s, ih]; rfl
theorem ps0_e : psN tx0 56 = ps0 := by
  funext k
  by_cases q : 16 ≤ k
  · obtain ⟨m, rfl⟩ := Nat.le.dest q
    rw [ps0_w]
    unfold ps0
    rw [List.getD_eq_getElem?_getD, List.getElem?_eq_none (by simp only [List.length_cons, List.length_nil]; omega)]
    rfl
  · match k, q with
    | 0, _ => exact ps0_0
    | 1, _ => exact ps0_1
    | 2, _ => exact ps0_2
    | 3, _ => exact ps0_3
    | 4, _ => exact ps0_4
    | 5, _ => exact ps0_5
    | 6, _ => exact ps0_6
    | 7, _ => exact ps0_7
    | 8, _ => exact ps0_8
    | 9, _ => exact ps0_9
    | 10, _ => exact ps0_10
    | 11, _ => exact ps0_11
    | 12, _ => exact ps0_12
    | 13, _ => exact ps0_13
    | 14, _ => exact ps0_14
    | 15, _ => exact ps0_15
    | (j + 16), q => exact absurd (by omega) q
theorem cn0 : cnN tx0 56 = 16 := by
  unfold cnN
  rw [ps0_e]
  decide +kernel
def mE0 : tE := (16, (fun k => if ps0 k < 56 then tkN tx0 56 (ps0 k) else 0), ps0, fun k => nI (dgN tx0 (ps0 k) (enN tx0 56 (ps0 k) - ps0 k)))
theorem mE0_e : mkE tx0 56 = mE0 := by
  unfold mkE mE0
  rw [ps0_e, cn0]
theorem pt0 : partF mE0 9 (0, none, []) = (11, none, [10002, 0, 10000, -4, -2, 10001, 0, -4, -1]) ∧ partF mE0 10 (11, none, []) = (16, none, [0, 10005, -4]) := by decide +kernel
end CTX
