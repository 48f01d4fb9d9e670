/-! ===== text, the reference's side; what a text leaves is in order ===== -/
def TI (A : MI) : Prop := ∀ i, i < nn (A 97 14) → A 108 i = sx (tpF A i)
theorem part_ok {e : tE} {a k k1 : Nat} {C1 : List Int32} (ha : a ≠ 0) (hE : eOK e) (h : partF e a (k, none, []) = (k1, none, C1)) : C1.length ≤ 160 ∧ gd C1 1 ∧ k1 ≤ e.1 := by
  unfold partF at h
  have hp : pE e a ((k, none, []) : tS) = (k + 1, none, []) ∧ k < e.1 := by
    unfold pE at h ⊢
    rw [pN_o] at h ⊢
    by_cases q : e.2.1 k = a
    · have hl := hE.lt (k := k) (by omega)
      rw [if_pos (decide_eq_true q), pK_o hl]
      exact ⟨rfl, hl⟩
    · exfalso
      rw [if_neg (c := decide (e.2.1 k = a) = true) (by rw [decide_eq_false q]; decide), pX_o, lv_id] at h
      rw [if_neg (by rw [pN_f]; decide), pX_f] at h
      cases h
  rw [hp.1] at h
  have hg0 : gd [] 0 := ⟨fun v hv => absurd hv List.not_mem_nil, rfl⟩
  rcases (Ag_all hE 5).2.2 (k + 1) true [] 0 0 (fun _ => false) [] (by omega) (fun w V h => by cases h) (Nat.zero_le _) hp.2 (fun _ => rfl) (fun h => absurd h (by omega)) (fun _ => rfl) with ⟨k', p, C', h1, -⟩ | ⟨k', ib', P, cm', C2, C', h1, -, -, -, -, -, h7, h8, -, h10⟩
  · rw [h1, pE_f] at h
    cases h
  · rw [h1] at h
    have hl : C'.length ≤ 160 := by
      have := hE.1
      rw [List.length_nil] at h7
      omega
    have hg := h10 0 hg0
    unfold pE at h
    rw [pN_o] at h
    by_cases q : e.2.1 k' = 59
    · rw [if_pos (decide_eq_true q), pK_o (hE.lt (by omega))] at h
      cases h
      exact ⟨hl, hg, hE.lt (by omega)⟩
    · rw [if_neg (by rw [decide_eq_false q]; decide), pX_o] at h
      cases h
theorem part_n {e : tE} {a k : Nat} {q : Option Nat} (h : (partF e a (k, q, [])).2.1 = none) : q = none := by
  cases q with
  | none => rfl
  | some p =>
    rw [part_f] at h
    cases h
theorem pE_n {e : tE} {a : Nat} {s : tS} (h : (pE e a s).2.1 = none) : s.2.1 = none := by
  obtain ⟨k, q, C⟩ := s
  cases q with
  | none => rfl
  | some p =>
    rw [pE_f] at h
    cases h
theorem t3_ok {A : MI} (hA : AInv A) (h : (t3F A).2.1 = none) : ((t1F A).2.2.length ≤ 160 ∧ gd (t1F A).2.2 1) ∧ (t2F A).2.2.length ≤ 160 ∧ gd (t2F A).2.2 1 := by
  obtain ⟨n, hn, en⟩ := B14 hA
  have hE : eOK (teF A) := by
    unfold teF
    rw [en, nn_nI (by omega)]
    exact mkE_ok (by omega)
  have h2 : (t2F A).2.1 = none := pE_n h
  have h1 : (t1F A).2.1 = none := part_n h2
  have e1 : partF (teF A) 9 (0, none, []) = ((t1F A).1, none, (t1F A).2.2) := by
    have e0 : partF (teF A) 9 (0, none, []) = t1F A := rfl
    rw [e0]
    exact Prod.ext rfl (Prod.ext h1 rfl)
  have e2 : partF (teF A) 10 ((t1F A).1, none, []) = ((t2F A).1, none, (t2F A).2.2) := by
    have e3 : partF (teF A) 10 ((t1F A).1, (t1F A).2.1, []) = t2F A := rfl
    rw [h1] at e3
    rw [e3, ← h2]
  obtain ⟨a1, a2, -⟩ := part_ok (by omega) hE e1
  obtain ⟨b1, b2, -⟩ := part_ok (by omega) hE e2
  exact ⟨⟨a1, a2⟩, b1, b2⟩
theorem gT_inv {A A' : MI} (hA : AInv A) (hg : gT A A') : AInv A' := by
  obtain ⟨T, hT, eT⟩ := B13 hA
  have zT : (A 97 15 < 6) = (T < 6) := by
    rw [eT]
    exact lt_nI (b := 6) (by omega) (by omega)
  unfold gT at hg
  by_cases y : T < 6
  · rw [if_pos (by rw [zT]; exact y), eT, nn_nI (by omega)] at hg
    obtain ⟨⟨k1, k2, k3, k4⟩, hg2⟩ := hg
    obtain ⟨i1, i2, i3, i4, i5⟩ := hA
    have n15 : nn (A 97 15) = T := by rw [eT, nn_nI (by omega)]
    have hT' : ∃ T', A' 97 15 = nI T' ∧ T ≤ T' ∧ T' < 7 ∧ ∀ p, p < 2 * T' → 2 * T ≤ p → bd (A' 110 p) 161 ∧ (∀ k, k < nn (A' 110 p) → stp (A' 111 (160 * p + k))) ∧ okC (fun k => A' 111 (160 * p + k)) (nn (A' 110 p)) 1 := by
      by_cases f : (t3F A).2.1 = none
      · rw [if_pos f] at hg2
        obtain ⟨m1, m2, m3, m4, m5⟩ := hg2
        obtain ⟨⟨c1, d1⟩, c2, d2⟩ := t3_ok ⟨i1, i2, i3, i4, i5⟩ f
        have row : ∀ p (C : List Int32), C.length ≤ 160 → gd C 1 → A' 110 p = nI C.length → (∀ i, i < C.length → A' 111 (160 * p + i) = C.getD i 0) → bd (A' 110 p) 161 ∧ (∀ k, k < nn (A' 110 p) → stp (A' 111 (160 * p + k))) ∧ okC (fun k => A' 111 (160 * p + k)) (nn (A' 110 p)) 1 := by
          intro p C hl hd e1 e2
          rw [e1, nn_nI (by omega)]
          refine ⟨bd_nI (by omega) (by decide), fun k hk => ?_, okC_cong _ _ (fun i hi => (e2 i hi).symm) hd.2⟩
          rw [e2 k hk, List.getD_eq_getElem?_getD, List.getElem?_eq_getElem hk]
          exact hd.1 _ (List.getElem_mem hk)
        refine ⟨T + 1, by rw [m1, nI_succ], by omega, by omega, fun p h1 h2 => ?_⟩
        rcases (show p = 2 * T ∨ p = 2 * T + 1 by omega) with rfl | rfl
        · exact row _ _ c1 d1 m2 (fun i hi => by rw [show 160 * (2 * T) + i = 320 * T + i by omega]; exact m3 i hi)
        · exact row _ _ c2 d2 m4 (fun i hi => by rw [show 160 * (2 * T + 1) + i = 320 * T + 160 + i by omega]; exact m5 i hi)
      · rw [if_neg f] at hg2
        exact ⟨T, hg2, Nat.le_refl _, hT, fun p h1 h2 => by omega⟩
    obtain ⟨T', e', t1, t2, hrow⟩ := hT'
    have n' : nn (A' 97 15) = T' := by rw [e', nn_nI (by omega)]
    refine ⟨fun k hk i hi => ?_, by rw [n']; omega, fun k hk => ?_, fun r hr => ?_, fun p hp => ?_⟩
    · obtain ⟨-, -, y2, y3, -, -, y14, y15, -⟩ := ml_apart k hk i hi
      by_cases q13 : k = 13
      · subst q13
        have hi0 : i < 1 := hi
        obtain rfl : i = 0 := by omega
        left
        show bd (A' 97 15) 7
        rw [e']
        exact bd_nI t2 (by decide)
      · by_cases q14 : k = 14
        · subst q14
          have hi0 : i < 1 := hi
          obtain rfl : i = 0 := by omega
          left
          show bd (A' 97 14) 161
          rw [k4]
          exact bd_nI (k := 0) (by decide) (by decide)
        · rw [k1 _ _ y2 y3 (fun w => by
            rcases w.2 with w2 | w2
            · exact q14 (y14 w.1 w2)
            · exact q13 (y15 w.1 w2))]
          exact i1 k hk i hi
    · rw [n', k1 109 k (by omega) (by omega) (by omega)]
      have := i3 k hk
      omega
    · rw [k1 131 r (by omega) (by omega) (by omega), k1 97 38 (by omega) (by omega) (by omega)]
      exact i4 r hr
    · rw [n'] at hp
      by_cases q : p < 2 * T
      · rw [k2 p q]
        obtain ⟨b1, b2, b3⟩ := i5 p (by rw [n15]; exact q)
        have hb := b1.2
        refine ⟨b1, fun k hk => ?_, okC_cong _ _ (fun i hi => (k3 _ (by omega)).symm) b3⟩
        rw [k3 _ (by omega)]
        exact b2 k hk
      · exact hrow p hp (by omega)
  · rw [if_neg (by rw [zT]; exact y)] at hg
    rw [hg]
    exact hA
section ZTX
set_option maxRecDepth 8000
set_option maxHeartbeats 400000
variable {G : cG} {d c0 : Nat} {A : MI} {L : ML} {K : tQ}
theorem z_121 {I : MI} (hM : MRel I A) (hA : AInv A) (hTI : TI A) (hK : ∀ J A', MRel J A' → gT A A' → sameX J I → K (some (.int (f121 A))) 145 J L (rR c0)) : CK G (d + 9) 217 [.ref 97] 145 I L (rR c0) K := by
  obtain ⟨T, hT, eT⟩ := B13 hA
  obtain ⟨n, hn, en⟩ := B14 hA
  have s1 := (MF_15 hM).trans eT
  have s2 := (MF_14 hM).trans en
  have zT : (A 97 15 < 6) = (T < 6) := by
    rw [eT]
    exact lt_nI (b := 6) (by omega) (by omega)
  have nT : nn (A 97 15) = T := by rw [eT, nn_nI (by omega)]
  refine CK_go (b := true) 80 [] (by decide) (pF_ok _ _) ?_
  unfold f121 at hK
  by_cases y : T < 6
  · have e0 : (nI T = 6) = False := eq_false (fun w => by
      have w2 : nI T = nI 6 := w
      rw [eq_nI (by omega) (by omega)] at w2
      omega)
    rw [if_pos (by rw [zT]; exact y)] at hK
    have hdT : dT (tpF A) n I := ⟨s2, by omega, fun i hi => by
      rw [MC_108 hM i]
      exact hTI i (by rw [en, nn_nI (by omega)]; exact hi), fun i => (tp_lt A i).2⟩
    have f1 : t1F A = partF (mkE (tpF A) n) 9 (0, none, []) := by
      unfold t1F teF
      rw [en, nn_nI (by omega)]
    have f2 : t2F A = partF (mkE (tpF A) n) 10 ((t1F A).1, (t1F A).2.1, []) := by
      unfold t2F teF
      rw [en, nn_nI (by omega)]
    have f3 : t3F A = pE (mkE (tpF A) n) 0 (t2F A) := by
      unfold t3F teF
      rw [en, nn_nI (by omega)]
    have same : ∀ J, gF T J I → ∀ a j, nsB a j = true → a ≠ 110 → a ≠ 111 → J a j = A a j := by
      intro J hg a j hb h1 h2
      have hb2 := hb
      unfold nsB at hb2
      simp only [Bool.and_eq_true, Bool.or_eq_true, Bool.not_eq_true', decide_eq_true_eq, decide_eq_false_iff_not] at hb2
      obtain ⟨⟨q1, q2⟩, q3⟩ := hb2
      rw [hg a j (fun w => ?_) (fun w => ?_) (fun w => ?_) (by omega) (by omega)]
      · exact hM a j hb
      · rcases q3 with q3 | q3
        · exact q3 w.1
        · unfold scrF at q3
          rw [Bool.or_eq_false_iff, Bool.or_eq_false_iff, Bool.and_eq_false_iff, Bool.and_eq_false_iff, decide_eq_false_iff_not, decide_eq_false_iff_not, decide_eq_false_iff_not, decide_eq_false_iff_not] at q3
          omega
      · rw [w] at q2
        exact absurd q2 (by decide)
      · rw [w] at q2
        exact absurd q2 (by decide)
    have sx97 : ∀ J, gF T J I → sameX J I := fun J hg a ha => funext (fun j => hg a j (by omega) (by omega) (by omega) (by omega) (by omega))
    have hT15 : ∀ J, gF T J I → J 97 15 = nI T := fun J hg => (hg _ _ (by omega) (by omega) (by omega) (by omega) (by omega)).trans s1
    simp (maxSteps := 4000000) (disch := omega) only [dX12_text_0, dX12_text_1, fr_12_58, fK_12_15, dX12_text_4, i8_6, dX12_text_6, ↓jK_6_6, dX12_text_9, i8_m4, dX12_text_11, dX12_text_12, dX12_text_13, mr_12_350, mnl_216, mal_216, mci_216, mrt_216, dX12_text_16, dX12_text_17, dX12_text_18, fr_12_79, fK_12_22, dX12_text_21, dX12_text_22, dX12_text_23, c32_0, dX12_text_24, fr_12_55, fK_12_14, dX12_text_27, dX12_text_28, ↓jK_28_8, dX12_text_31, i8_m100, dX12_text_33, dX12_text_34, dX12_text_35, dX12_text_36, dX12_text_37, dX12_text_38, dX12_text_41, c32_1, dX12_text_42, dX12_text_43, dX12_text_46, dX12_text_47, dX12_text_50, dX12_text_51, dX12_text_52, mcc_217, mci_217, mnl_217, mrt_217, mal_217, pu_216, ↓sq_iconst, il_iconst, ↓sq_bipush, il_bipush, ↓sq_sipush, il_sipush, ↓sq_lconst, il_lconst, ↓sq_iload_n, il_iload_n, ↓sq_iload, il_iload, ↓sq_lload_n, il_lload_n, ↓sq_lload, il_lload, ↓sq_aload_n, il_aload_n, ↓sq_aload, il_aload, ↓sq_istore_n, il_istore_n, ↓sq_istore, il_istore, ↓sq_astore_n, il_astore_n, ↓sq_astore, il_astore, ↓sq_lstore_n, il_lstore_n, ↓sq_lstore, il_lstore, ↓sq_iinc, il_iinc, ↓sq_iadd, il_iadd, ↓sq_isub, il_isub, ↓sq_imul, il_imul, ↓sq_iand, il_iand, ↓sq_ior, il_ior, ↓sq_ixor, il_ixor, ↓sq_ishl, il_ishl, ↓sq_ishr, il_ishr, ↓sq_iushr, il_iushr, ↓sq_idiv, il_idiv, ↓sq_irem, il_irem, ↓sq_ineg, il_ineg, ↓sq_i2b, il_i2b, ↓sq_i2s, il_i2s, ↓sq_i2l, il_i2l, ↓sq_l2i, il_l2i, ↓sq_ladd, il_ladd, ↓sq_lsub, il_lsub, ↓sq_land, il_land, ↓sq_lor, il_lor, ↓sq_lxor, il_lxor, ↓sq_lshl, il_lshl, ↓sq_lshr, il_lshr, ↓sq_lushr, il_lushr, ↓sq_lcmp, il_lcmp, ↓sq_dup, il_dup, ↓sq_pop, il_pop, ↓sq_dup_x1, il_dup_x1, ↓sq_dup2, il_dup2, ↓sq_ifCond_eq, il_ifCond_eq, ↓sq_ifCond_ne, il_ifCond_ne, ↓sq_ifCond_lt, il_ifCond_lt, ↓sq_ifCond_ge, il_ifCond_ge, ↓sq_ifCond_gt, il_ifCond_gt, ↓sq_ifCond_le, il_ifCond_le, ↓sq_if_icmp_eq, il_if_icmp_eq, ↓sq_if_icmp_ne, il_if_icmp_ne, ↓sq_if_icmp_lt, il_if_icmp_lt, ↓sq_if_icmp_ge, il_if_icmp_ge, ↓sq_if_icmp_gt, il_if_icmp_gt, ↓sq_if_icmp_le, il_if_icmp_le, ↓sq_goto, il_goto, ↓sq_tableswitch, il_tableswitch, ↓sq_lookupswitch, il_lookupswitch, ↓sq_getfield, il_getfield, ↓sq_putfield, il_putfield, ↓sq_iaload, il_iaload, ↓sq_baload, il_baload, ↓sq_laload, il_laload, ↓sq_aaload, il_aaload, ↓sq_arraylength, il_arraylength, ↓sq_iastore, il_iastore, ↓sq_bastore, il_bastore, ↓sq_lastore, il_lastore, ↓sq_getstatic, il_getstatic, ↓sq_ldc2_w, il_ldc2_w, ↓sq_ldc_w, il_ldc_w, ↓sq_ldc, il_ldc, ↓sq_invokevirtual, il_invokevirtual, ↓sq_invokestatic, il_invokestatic, ↓sq_invokespecial, il_invokespecial, ↓sq_return_, il_return_, ↓sq_ireturn, il_ireturn, ↓sq_lreturn, il_lreturn, ↓sq_multianewarray, il_multianewarray, ↓sq_new, il_new, ↓sq_newarray, il_newarray, ↓sq_anewarray, il_anewarray, ↓sq_aastore, il_aastore, wp_s, wpB, gW, inC, ↓sI1, ↓sI2, ↓sL1, ↓sL2, ↓sLI, ↓sR1, ↓sV1, ↓sV2, ↓sIR, ↓sIIR, ↓sLIR, ↓sP, ↓lI, ↓lL, ↓lR, lG, lS, okS, ↓callP, spl, cOK, okM, slN, cS, ↓retP, ↓nF, ↓cpS, vR, fI, eL, bi_0, bi_1, em_l, Value.category, List.length_cons, List.length_nil, List.replicate_succ, List.replicate_zero, true_and, and_true, ↓swL, ↓lkL, Option.toList, List.cons_append, List.nil_append, Classical.not_not, Nat.add_zero, Nat.zero_add, Nat.le_refl, Nat.reduceAdd, Nat.reduceSub, Nat.reduceMul, Nat.reduceLT, Nat.reduceLeDiff, Nat.reduceEqDiff, Nat.reduceBEq, ↓reduceIte, fv_0, fv_1, fv_2, fv_3, fw_0, fw_1, Bool.false_eq_true, Nat.reduceGT, Int.reduceLE, Int.reduceLT, Int.reduceAdd, Int.reduceSub, Int.reduceNeg, Int.reduceToNat, List.size_toArray, Nat.lt_irrefl, or_true, true_or, or_false, false_or, Option.some.injEq, reduceCtorEq, and_self, ite_true, ite_false, true_implies, false_implies, implies_true, not_true_eq_false, not_false_eq_true, dv8, rm8, rm24, cl_nI, vp_nI, n8_0, n24_0, kK_mk, kK_st, kK_cd, kK_sh, kK_it, rR_mk, rR_st, rR_cd, rR_co, rR_sh, rR_it, lt_mk, lt_st, lt_sh, lt_it, lt_cd, u2_eq, u2c, u2s, bi_F, bi_T, lgz, bi_tr, i10, i01, false_and, and_false, kK_0, kK_1, kK_2, kK_3, kK_4, kK_5, kK_6, kK_7, kK_8, kK_9, kK_10, kK_11, kK_12, kK_13, kK_14, kK_15, kK_16, kK_17, kK_18, kK_19, kK_20, kK_21, kK_22, kK_23, kK_24, kK_25, kK_26, kK_27, kK_28, kK_29, kK_30, kK_31, kK_32, kK_33, kK_34, kK_35, kK_36, kK_37, kK_38, kK_39, kK_40, kK_41, kK_42, kK_43, kK_44, kK_45, kK_46, kK_47, kK_48, kK_49, kK_50, kK_51, kK_52, kK_53, kK_54, kK_55, kK_56, kK_57, kK_58, kK_59, kK_60, kK_61, kK_62, kK_63, kK_64, kK_65, kK_66, kK_67, kK_68, kK_69, kK_70, kK_71, kK_72, kK_73, kK_74, kK_75, kK_76, kK_77, kK_78, kK_79, kK_80, kK_81, kK_82, kK_83, kK_84, kK_85, kK_86, kK_87, kK_88, kK_89, kK_90, kK_91, kK_92, kK_93, kK_94, kK_95, kK_96, kK_97, kK_98, kK_99, kK_100, kK_101, kK_102, kK_103, kK_104, kK_105, kK_106, kK_107, kK_108, kK_109, kK_110, kK_111, kK_112, kK_113, kK_114, kK_115, kK_116, kK_117, kK_118, kK_119, kK_120, kK_121, kK_122, kK_123, kK_124, kK_125, kK_126, kK_127, kK_128, kK_129, kK_130, kK_131, kK_132, kK_133, kK_134, kK_135, kK_136, kK_137, kK_138, kK_139, kK_140, kK_141, kK_142, kK_143, kK_144, kK_1000, kK_1001, kK_1002, kK_1010, kK_1011, kK_1012, kK_1013, kK_1014, kK_1015, kK_1016, kK_1017, kK_1018, kK_1019, kK_1020, kK_1021, rR_0_0, rR_0_1, rR_0_2, rR_0_3, rR_0_4, rR_0_5, rR_0_6, rR_0_7, rR_0_8, rR_1_0, rR_1_1, rR_4_0, rR_4_2, rR_38_0, rR_38_3, rR_38_4, rR_38_5, rR_38_6, rR_55_0, rR_55_2, rR_55_3, rR_58_0, rR_58_1, rR_58_2, rR_58_3, rR_60_3, rR_60_4, rR_60_5, rR_60_6, rR_60_7, rR_60_8, rR_60_9, rR_60_10, rR_60_12, rR_60_13, rR_60_14, rR_71_0, rR_71_1, rR_72_1, rR_72_2, rR_72_3, rR_72_4, rR_72_5, rR_72_7, rR_77_2, rR_77_3, rR_77_4, rR_77_5, rR_77_6, rR_77_7, rR_77_8, rR_77_9, rR_77_10, rR_77_11, rR_97_0, rR_97_1, rR_97_5, rR_97_6, rR_97_7, rR_97_8, rR_97_9, rR_97_10, rR_97_11, rR_97_12, rR_97_13, rR_97_16, rR_97_17, rR_97_18, rR_97_23, rR_97_24, rR_97_29, rR_97_30, rR_97_32, rR_97_33, rR_97_34, rR_97_35, rR_97_36, rR_97_40, rR_97_41, rR_97_42, rR_97_43, rR_97_44, rR_97_45, rR_97_46, rR_97_47, rR_97_48, rR_97_49, rR_97_50, rR_97_52, rR_97_53, rR_97_54, rR_97_56, rR_97_58, rR_97_59, rR_97_60, rR_97_61, rR_97_62, rR_97_63, rR_97_64, rR_97_65, rR_97_66, s1, e0]
    refine m_216 (d := d) (T := T) hdT s1 y (fun J p h1 h2 h3 => ?_) (fun J k1 C1 k2 C2 h1 h2 h3 h4 h5 h6 h7 h8 => ?_)
    · rw [← f1, ← f2, ← f3] at h3
      rw [h3, if_neg (fun w => by cases w)] at hK
      have t0 : ((0 : Int32) = 0) = True := eq_true rfl
      simp (maxSteps := 4000000) (disch := omega) only [dX12_text_0, dX12_text_1, fr_12_58, fK_12_15, dX12_text_4, i8_6, dX12_text_6, ↓jK_6_6, dX12_text_9, i8_m4, dX12_text_11, dX12_text_12, dX12_text_13, mr_12_350, mnl_216, mal_216, mci_216, mrt_216, dX12_text_16, dX12_text_17, dX12_text_18, fr_12_79, fK_12_22, dX12_text_21, dX12_text_22, dX12_text_23, c32_0, dX12_text_24, fr_12_55, fK_12_14, dX12_text_27, dX12_text_28, ↓jK_28_8, dX12_text_31, i8_m100, dX12_text_33, dX12_text_34, dX12_text_35, dX12_text_36, dX12_text_37, dX12_text_38, dX12_text_41, c32_1, dX12_text_42, dX12_text_43, dX12_text_46, dX12_text_47, dX12_text_50, dX12_text_51, dX12_text_52, mcc_217, mci_217, mnl_217, mrt_217, mal_217, pu_216, ↓sq_iconst, il_iconst, ↓sq_bipush, il_bipush, ↓sq_sipush, il_sipush, ↓sq_lconst, il_lconst, ↓sq_iload_n, il_iload_n, ↓sq_iload, il_iload, ↓sq_lload_n, il_lload_n, ↓sq_lload, il_lload, ↓sq_aload_n, il_aload_n, ↓sq_aload, il_aload, ↓sq_istore_n, il_istore_n, ↓sq_istore, il_istore, ↓sq_astore_n, il_astore_n, ↓sq_astore, il_astore, ↓sq_lstore_n, il_lstore_n, ↓sq_lstore, il_lstore, ↓sq_iinc, il_iinc, ↓sq_iadd, il_iadd, ↓sq_isub, il_isub, ↓sq_imul, il_imul, ↓sq_iand, il_iand, ↓sq_ior, il_ior, ↓sq_ixor, il_ixor, ↓sq_ishl, il_ishl, ↓sq_ishr, il_ishr, ↓sq_iushr, il_iushr, ↓sq_idiv, il_idiv, ↓sq_irem, il_irem, ↓sq_ineg, il_ineg, ↓sq_i2b, il_i2b, ↓sq_i2s, il_i2s, ↓sq_i2l, il_i2l, ↓sq_l2i, il_l2i, ↓sq_ladd, il_ladd, ↓sq_lsub, il_lsub, ↓sq_land, il_land, ↓sq_lor, il_lor, ↓sq_lxor, il_lxor, ↓sq_lshl, il_lshl, ↓sq_lshr, il_lshr, ↓sq_lushr, il_lushr, ↓sq_lcmp, il_lcmp, ↓sq_dup, il_dup, ↓sq_pop, il_pop, ↓sq_dup_x1, il_dup_x1, ↓sq_dup2, il_dup2, ↓sq_ifCond_eq, il_ifCond_eq, ↓sq_ifCond_ne, il_ifCond_ne, ↓sq_ifCond_lt, il_ifCond_lt, ↓sq_ifCond_ge, il_ifCond_ge, ↓sq_ifCond_gt, il_ifCond_gt, ↓sq_ifCond_le, il_ifCond_le, ↓sq_if_icmp_eq, il_if_icmp_eq, ↓sq_if_icmp_ne, il_if_icmp_ne, ↓sq_if_icmp_lt, il_if_icmp_lt, ↓sq_if_icmp_ge, il_if_icmp_ge, ↓sq_if_icmp_gt, il_if_icmp_gt, ↓sq_if_icmp_le, il_if_icmp_le, ↓sq_goto, il_goto, ↓sq_tableswitch, il_tableswitch, ↓sq_lookupswitch, il_lookupswitch, ↓sq_getfield, il_getfield, ↓sq_putfield, il_putfield, ↓sq_iaload, il_iaload, ↓sq_baload, il_baload, ↓sq_laload, il_laload, ↓sq_aaload, il_aaload, ↓sq_arraylength, il_arraylength, ↓sq_iastore, il_iastore, ↓sq_bastore, il_bastore, ↓sq_lastore, il_lastore, ↓sq_getstatic, il_getstatic, ↓sq_ldc2_w, il_ldc2_w, ↓sq_ldc_w, il_ldc_w, ↓sq_ldc, il_ldc, ↓sq_invokevirtual, il_invokevirtual, ↓sq_invokestatic, il_invokestatic, ↓sq_invokespecial, il_invokespecial, ↓sq_return_, il_return_, ↓sq_ireturn, il_ireturn, ↓sq_lreturn, il_lreturn, ↓sq_multianewarray, il_multianewarray, ↓sq_new, il_new, ↓sq_newarray, il_newarray, ↓sq_anewarray, il_anewarray, ↓sq_aastore, il_aastore, wp_s, wpB, gW, inC, ↓sI1, ↓sI2, ↓sL1, ↓sL2, ↓sLI, ↓sR1, ↓sV1, ↓sV2, ↓sIR, ↓sIIR, ↓sLIR, ↓sP, ↓lI, ↓lL, ↓lR, lG, lS, okS, ↓callP, spl, cOK, okM, slN, cS, ↓retP, ↓nF, ↓cpS, vR, fI, eL, bi_0, bi_1, em_l, Value.category, List.length_cons, List.length_nil, List.replicate_succ, List.replicate_zero, true_and, and_true, ↓swL, ↓lkL, Option.toList, List.cons_append, List.nil_append, Classical.not_not, Nat.add_zero, Nat.zero_add, Nat.le_refl, Nat.reduceAdd, Nat.reduceSub, Nat.reduceMul, Nat.reduceLT, Nat.reduceLeDiff, Nat.reduceEqDiff, Nat.reduceBEq, ↓reduceIte, fv_0, fv_1, fv_2, fv_3, fw_0, fw_1, Bool.false_eq_true, Nat.reduceGT, Int.reduceLE, Int.reduceLT, Int.reduceAdd, Int.reduceSub, Int.reduceNeg, Int.reduceToNat, List.size_toArray, Nat.lt_irrefl, or_true, true_or, or_false, false_or, Option.some.injEq, reduceCtorEq, and_self, ite_true, ite_false, true_implies, false_implies, implies_true, not_true_eq_false, not_false_eq_true, dv8, rm8, rm24, cl_nI, vp_nI, n8_0, n24_0, kK_mk, kK_st, kK_cd, kK_sh, kK_it, rR_mk, rR_st, rR_cd, rR_co, rR_sh, rR_it, lt_mk, lt_st, lt_sh, lt_it, lt_cd, u2_eq, u2c, u2s, bi_F, bi_T, lgz, bi_tr, i10, i01, false_and, and_false, kK_0, kK_1, kK_2, kK_3, kK_4, kK_5, kK_6, kK_7, kK_8, kK_9, kK_10, kK_11, kK_12, kK_13, kK_14, kK_15, kK_16, kK_17, kK_18, kK_19, kK_20, kK_21, kK_22, kK_23, kK_24, kK_25, kK_26, kK_27, kK_28, kK_29, kK_30, kK_31, kK_32, kK_33, kK_34, kK_35, kK_36, kK_37, kK_38, kK_39, kK_40, kK_41, kK_42, kK_43, kK_44, kK_45, kK_46, kK_47, kK_48, kK_49, kK_50, kK_51, kK_52, kK_53, kK_54, kK_55, kK_56, kK_57, kK_58, kK_59, kK_60, kK_61, kK_62, kK_63, kK_64, kK_65, kK_66, kK_67, kK_68, kK_69, kK_70, kK_71, kK_72, kK_73, kK_74, kK_75, kK_76, kK_77, kK_78, kK_79, kK_80, kK_81, kK_82, kK_83, kK_84, kK_85, kK_86, kK_87, kK_88, kK_89, kK_90, kK_91, kK_92, kK_93, kK_94, kK_95, kK_96, kK_97, kK_98, kK_99, kK_100, kK_101, kK_102, kK_103, kK_104, kK_105, kK_106, kK_107, kK_108, kK_109, kK_110, kK_111, kK_112, kK_113, kK_114, kK_115, kK_116, kK_117, kK_118, kK_119, kK_120, kK_121, kK_122, kK_123, kK_124, kK_125, kK_126, kK_127, kK_128, kK_129, kK_130, kK_131, kK_132, kK_133, kK_134, kK_135, kK_136, kK_137, kK_138, kK_139, kK_140, kK_141, kK_142, kK_143, kK_144, kK_1000, kK_1001, kK_1002, kK_1010, kK_1011, kK_1012, kK_1013, kK_1014, kK_1015, kK_1016, kK_1017, kK_1018, kK_1019, kK_1020, kK_1021, rR_0_0, rR_0_1, rR_0_2, rR_0_3, rR_0_4, rR_0_5, rR_0_6, rR_0_7, rR_0_8, rR_1_0, rR_1_1, rR_4_0, rR_4_2, rR_38_0, rR_38_3, rR_38_4, rR_38_5, rR_38_6, rR_55_0, rR_55_2, rR_55_3, rR_58_0, rR_58_1, rR_58_2, rR_58_3, rR_60_3, rR_60_4, rR_60_5, rR_60_6, rR_60_7, rR_60_8, rR_60_9, rR_60_10, rR_60_12, rR_60_13, rR_60_14, rR_71_0, rR_71_1, rR_72_1, rR_72_2, rR_72_3, rR_72_4, rR_72_5, rR_72_7, rR_77_2, rR_77_3, rR_77_4, rR_77_5, rR_77_6, rR_77_7, rR_77_8, rR_77_9, rR_77_10, rR_77_11, rR_97_0, rR_97_1, rR_97_5, rR_97_6, rR_97_7, rR_97_8, rR_97_9, rR_97_10, rR_97_11, rR_97_12, rR_97_13, rR_97_16, rR_97_17, rR_97_18, rR_97_23, rR_97_24, rR_97_29, rR_97_30, rR_97_32, rR_97_33, rR_97_34, rR_97_35, rR_97_36, rR_97_40, rR_97_41, rR_97_42, rR_97_43, rR_97_44, rR_97_45, rR_97_46, rR_97_47, rR_97_48, rR_97_49, rR_97_50, rR_97_52, rR_97_53, rR_97_54, rR_97_56, rR_97_58, rR_97_59, rR_97_60, rR_97_61, rR_97_62, rR_97_63, rR_97_64, rR_97_65, rR_97_66, kont, h2, t0]
      refine hK _ (fun a j => if a = 110 ∨ a = 111 ∨ (a = 97 ∧ (j = 14 ∨ j = 15)) then u2 J 97 14 0 a j else A a j) (fun a j hb => ?_) ?_ ((sameX_u2 (by decide)).tr (sx97 J h1))
      · dsimp only
        by_cases q : a = 110 ∨ a = 111 ∨ (a = 97 ∧ (j = 14 ∨ j = 15))
        · rw [if_pos q]
        · rw [if_neg q, u2_no (by omega)]
          exact same J h1 a j hb (by omega) (by omega)
      · unfold gT
        rw [if_pos (by rw [zT]; exact y), nT, if_neg (by rw [h3]; exact fun w => by cases w)]
        refine ⟨⟨fun a j w1 w2 w3 => ?_, fun p hp => ?_, fun j hj => ?_, ?_⟩, ?_⟩
        · exact if_neg (fun w => w.elim w1 (fun w => w.elim w2 w3))
        · show (if _ then _ else _) = _
          rw [if_pos (Or.inl rfl), u2_no (by omega), h1 _ _ (by omega) (by omega) (by omega) (by omega) (by omega)]
          exact MC_110 hM p
        · show (if _ then _ else _) = _
          rw [if_pos (Or.inr (Or.inl rfl)), u2_no (by omega), h1 _ _ (by omega) (by omega) (by omega) (by omega) (by omega)]
          exact MC_111 hM j
        · show (if _ then _ else _) = _
          rw [if_pos (Or.inr (Or.inr ⟨rfl, Or.inl rfl⟩)), u2_eq]
        · show (if _ then _ else _) = _
          rw [if_pos (Or.inr (Or.inr ⟨rfl, Or.inr rfl⟩)), u2_no (by omega), hT15 J h1, eT]
    · have g1 : t1F A = (k1, none, C1) := f1.trans h2
      have g2 : t2F A = (k2, none, C2) := by
        rw [f2, g1]
        exact h3
      have g3 : (t3F A).2.1 = none := by
        rw [f3, g2]
        exact h4
      rw [if_pos g3] at hK
      have t1 : ((1 : Int32) = 0) = False := eq_false (by decide)
      have j15 := hT15 J h1
      have es : nI T + 1 - 1 = A 97 15 := by
        rw [← nI_succ, nn1, eT]
      simp (maxSteps := 4000000) (disch := omega) only [dX12_text_0, dX12_text_1, fr_12_58, fK_12_15, dX12_text_4, i8_6, dX12_text_6, ↓jK_6_6, dX12_text_9, i8_m4, dX12_text_11, dX12_text_12, dX12_text_13, mr_12_350, mnl_216, mal_216, mci_216, mrt_216, dX12_text_16, dX12_text_17, dX12_text_18, fr_12_79, fK_12_22, dX12_text_21, dX12_text_22, dX12_text_23, c32_0, dX12_text_24, fr_12_55, fK_12_14, dX12_text_27, dX12_text_28, ↓jK_28_8, dX12_text_31, i8_m100, dX12_text_33, dX12_text_34, dX12_text_35, dX12_text_36, dX12_text_37, dX12_text_38, dX12_text_41, c32_1, dX12_text_42, dX12_text_43, dX12_text_46, dX12_text_47, dX12_text_50, dX12_text_51, dX12_text_52, mcc_217, mci_217, mnl_217, mrt_217, mal_217, pu_216, ↓sq_iconst, il_iconst, ↓sq_bipush, il_bipush, ↓sq_sipush, il_sipush, ↓sq_lconst, il_lconst, ↓sq_iload_n, il_iload_n, ↓sq_iload, il_iload, ↓sq_lload_n, il_lload_n, ↓sq_lload, il_lload, ↓sq_aload_n, il_aload_n, ↓sq_aload, il_aload, ↓sq_istore_n, il_istore_n, ↓sq_istore, il_istore, ↓sq_astore_n, il_astore_n, ↓sq_astore, il_astore, ↓sq_lstore_n, il_lstore_n, ↓sq_lstore, il_lstore, ↓sq_iinc, il_iinc, ↓sq_iadd, il_iadd, ↓sq_isub, il_isub, ↓sq_imul, il_imul, ↓sq_iand, il_iand, ↓sq_ior, il_ior, ↓sq_ixor, il_ixor, ↓sq_ishl, il_ishl, ↓sq_ishr, il_ishr, ↓sq_iushr, il_iushr, ↓sq_idiv, il_idiv, ↓sq_irem, il_irem, ↓sq_ineg, il_ineg, ↓sq_i2b, il_i2b, ↓sq_i2s, il_i2s, ↓sq_i2l, il_i2l, ↓sq_l2i, il_l2i, ↓sq_ladd, il_ladd, ↓sq_lsub, il_lsub, ↓sq_land, il_land, ↓sq_lor, il_lor, ↓sq_lxor, il_lxor, ↓sq_lshl, il_lshl, ↓sq_lshr, il_lshr, ↓sq_lushr, il_lushr, ↓sq_lcmp, il_lcmp, ↓sq_dup, il_dup, ↓sq_pop, il_pop, ↓sq_dup_x1, il_dup_x1, ↓sq_dup2, il_dup2, ↓sq_ifCond_eq, il_ifCond_eq, ↓sq_ifCond_ne, il_ifCond_ne, ↓sq_ifCond_lt, il_ifCond_lt, ↓sq_ifCond_ge, il_ifCond_ge, ↓sq_ifCond_gt, il_ifCond_gt, ↓sq_ifCond_le, il_ifCond_le, ↓sq_if_icmp_eq, il_if_icmp_eq, ↓sq_if_icmp_ne, il_if_icmp_ne, ↓sq_if_icmp_lt, il_if_icmp_lt, ↓sq_if_icmp_ge, il_if_icmp_ge, ↓sq_if_icmp_gt, il_if_icmp_gt, ↓sq_if_icmp_le, il_if_icmp_le, ↓sq_goto, il_goto, ↓sq_tableswitch, il_tableswitch, ↓sq_lookupswitch, il_lookupswitch, ↓sq_getfield, il_getfield, ↓sq_putfield, il_putfield, ↓sq_iaload, il_iaload, ↓sq_baload, il_baload, ↓sq_laload, il_laload, ↓sq_aaload, il_aaload, ↓sq_arraylength, il_arraylength, ↓sq_iastore, il_iastore, ↓sq_bastore, il_bastore, ↓sq_lastore, il_lastore, ↓sq_getstatic, il_getstatic, ↓sq_ldc2_w, il_ldc2_w, ↓sq_ldc_w, il_ldc_w, ↓sq_ldc, il_ldc, ↓sq_invokevirtual, il_invokevirtual, ↓sq_invokestatic, il_invokestatic, ↓sq_invokespecial, il_invokespecial, ↓sq_return_, il_return_, ↓sq_ireturn, il_ireturn, ↓sq_lreturn, il_lreturn, ↓sq_multianewarray, il_multianewarray, ↓sq_new, il_new, ↓sq_newarray, il_newarray, ↓sq_anewarray, il_anewarray, ↓sq_aastore, il_aastore, wp_s, wpB, gW, inC, ↓sI1, ↓sI2, ↓sL1, ↓sL2, ↓sLI, ↓sR1, ↓sV1, ↓sV2, ↓sIR, ↓sIIR, ↓sLIR, ↓sP, ↓lI, ↓lL, ↓lR, lG, lS, okS, ↓callP, spl, cOK, okM, slN, cS, ↓retP, ↓nF, ↓cpS, vR, fI, eL, bi_0, bi_1, em_l, Value.category, List.length_cons, List.length_nil, List.replicate_succ, List.replicate_zero, true_and, and_true, ↓swL, ↓lkL, Option.toList, List.cons_append, List.nil_append, Classical.not_not, Nat.add_zero, Nat.zero_add, Nat.le_refl, Nat.reduceAdd, Nat.reduceSub, Nat.reduceMul, Nat.reduceLT, Nat.reduceLeDiff, Nat.reduceEqDiff, Nat.reduceBEq, ↓reduceIte, fv_0, fv_1, fv_2, fv_3, fw_0, fw_1, Bool.false_eq_true, Nat.reduceGT, Int.reduceLE, Int.reduceLT, Int.reduceAdd, Int.reduceSub, Int.reduceNeg, Int.reduceToNat, List.size_toArray, Nat.lt_irrefl, or_true, true_or, or_false, false_or, Option.some.injEq, reduceCtorEq, and_self, ite_true, ite_false, true_implies, false_implies, implies_true, not_true_eq_false, not_false_eq_true, dv8, rm8, rm24, cl_nI, vp_nI, n8_0, n24_0, kK_mk, kK_st, kK_cd, kK_sh, kK_it, rR_mk, rR_st, rR_cd, rR_co, rR_sh, rR_it, lt_mk, lt_st, lt_sh, lt_it, lt_cd, u2_eq, u2c, u2s, bi_F, bi_T, lgz, bi_tr, i10, i01, false_and, and_false, kK_0, kK_1, kK_2, kK_3, kK_4, kK_5, kK_6, kK_7, kK_8, kK_9, kK_10, kK_11, kK_12, kK_13, kK_14, kK_15, kK_16, kK_17, kK_18, kK_19, kK_20, kK_21, kK_22, kK_23, kK_24, kK_25, kK_26, kK_27, kK_28, kK_29, kK_30, kK_31, kK_32, kK_33, kK_34, kK_35, kK_36, kK_37, kK_38, kK_39, kK_40, kK_41, kK_42, kK_43, kK_44, kK_45, kK_46, kK_47, kK_48, kK_49, kK_50, kK_51, kK_52, kK_53, kK_54, kK_55, kK_56, kK_57, kK_58, kK_59, kK_60, kK_61, kK_62, kK_63, kK_64, kK_65, kK_66, kK_67, kK_68, kK_69, kK_70, kK_71, kK_72, kK_73, kK_74, kK_75, kK_76, kK_77, kK_78, kK_79, kK_80, kK_81, kK_82, kK_83, kK_84, kK_85, kK_86, kK_87, kK_88, kK_89, kK_90, kK_91, kK_92, kK_93, kK_94, kK_95, kK_96, kK_97, kK_98, kK_99, kK_100, kK_101, kK_102, kK_103, kK_104, kK_105, kK_106, kK_107, kK_108, kK_109, kK_110, kK_111, kK_112, kK_113, kK_114, kK_115, kK_116, kK_117, kK_118, kK_119, kK_120, kK_121, kK_122, kK_123, kK_124, kK_125, kK_126, kK_127, kK_128, kK_129, kK_130, kK_131, kK_132, kK_133, kK_134, kK_135, kK_136, kK_137, kK_138, kK_139, kK_140, kK_141, kK_142, kK_143, kK_144, kK_1000, kK_1001, kK_1002, kK_1010, kK_1011, kK_1012, kK_1013, kK_1014, kK_1015, kK_1016, kK_1017, kK_1018, kK_1019, kK_1020, kK_1021, rR_0_0, rR_0_1, rR_0_2, rR_0_3, rR_0_4, rR_0_5, rR_0_6, rR_0_7, rR_0_8, rR_1_0, rR_1_1, rR_4_0, rR_4_2, rR_38_0, rR_38_3, rR_38_4, rR_38_5, rR_38_6, rR_55_0, rR_55_2, rR_55_3, rR_58_0, rR_58_1, rR_58_2, rR_58_3, rR_60_3, rR_60_4, rR_60_5, rR_60_6, rR_60_7, rR_60_8, rR_60_9, rR_60_10, rR_60_12, rR_60_13, rR_60_14, rR_71_0, rR_71_1, rR_72_1, rR_72_2, rR_72_3, rR_72_4, rR_72_5, rR_72_7, rR_77_2, rR_77_3, rR_77_4, rR_77_5, rR_77_6, rR_77_7, rR_77_8, rR_77_9, rR_77_10, rR_77_11, rR_97_0, rR_97_1, rR_97_5, rR_97_6, rR_97_7, rR_97_8, rR_97_9, rR_97_10, rR_97_11, rR_97_12, rR_97_13, rR_97_16, rR_97_17, rR_97_18, rR_97_23, rR_97_24, rR_97_29, rR_97_30, rR_97_32, rR_97_33, rR_97_34, rR_97_35, rR_97_36, rR_97_40, rR_97_41, rR_97_42, rR_97_43, rR_97_44, rR_97_45, rR_97_46, rR_97_47, rR_97_48, rR_97_49, rR_97_50, rR_97_52, rR_97_53, rR_97_54, rR_97_56, rR_97_58, rR_97_59, rR_97_60, rR_97_61, rR_97_62, rR_97_63, rR_97_64, rR_97_65, rR_97_66, kont, t1, j15, es]
      refine hK _ (fun a j => if a = 110 ∨ a = 111 ∨ (a = 97 ∧ (j = 14 ∨ j = 15)) then u2 (u2 J 97 14 0) 97 15 (nI T + 1) a j else A a j) (fun a j hb => ?_) ?_ (((sameX_u2 (by decide)).tr (sameX_u2 (by decide))).tr (sx97 J h1))
      · dsimp only
        by_cases q : a = 110 ∨ a = 111 ∨ (a = 97 ∧ (j = 14 ∨ j = 15))
        · rw [if_pos q]
        · rw [if_neg q, u2_no (by omega), u2_no (by omega)]
          exact same J h1 a j hb (by omega) (by omega)
      · unfold gT
        rw [if_pos (by rw [zT]; exact y), nT, if_pos g3, g1, g2]
        refine ⟨⟨fun a j w1 w2 w3 => ?_, fun p hp => ?_, fun j hj => ?_, ?_⟩, ?_, ?_, fun i hi => ?_, ?_, fun i hi => ?_⟩
        · exact if_neg (fun w => w.elim w1 (fun w => w.elim w2 w3))
        · show (if _ then _ else _) = _
          rw [if_pos (Or.inl rfl), u2_no (by omega), u2_no (by omega), h1 _ _ (by omega) (by omega) (by omega) (by omega) (by omega)]
          exact MC_110 hM p
        · show (if _ then _ else _) = _
          rw [if_pos (Or.inr (Or.inl rfl)), u2_no (by omega), u2_no (by omega), h1 _ _ (by omega) (by omega) (by omega) (by omega) (by omega)]
          exact MC_111 hM j
        · show (if _ then _ else _) = _
          rw [if_pos (Or.inr (Or.inr ⟨rfl, Or.inl rfl⟩)), u2_no (by omega), u2_eq]
        · show (if _ then _ else _) = _
          rw [if_pos (Or.inr (Or.inr ⟨rfl, Or.inr rfl⟩)), u2_eq, eT]
        · show (if _ then _ else _) = _
          rw [if_pos (Or.inl rfl), u2_no (by omega), u2_no (by omega)]
          exact h5
        · show (if _ then _ else _) = _
          rw [if_pos (Or.inr (Or.inl rfl)), u2_no (by omega), u2_no (by omega)]
          exact h6 i hi
        · show (if _ then _ else _) = _
          rw [if_pos (Or.inl rfl), u2_no (by omega), u2_no (by omega)]
          exact h7
        · show (if _ then _ else _) = _
          rw [if_pos (Or.inr (Or.inl rfl)), u2_no (by omega), u2_no (by omega)]
          exact h8 i hi
  · have e0 : (nI T = 6) = True := eq_true (by rw [show T = 6 by omega]; rfl)
    rw [if_neg (by rw [zT]; exact y)] at hK
    simp (maxSteps := 4000000) (disch := omega) only [dX12_text_0, dX12_text_1, fr_12_58, fK_12_15, dX12_text_4, i8_6, dX12_text_6, ↓jK_6_6, dX12_text_9, i8_m4, dX12_text_11, dX12_text_12, dX12_text_13, mr_12_350, mnl_216, mal_216, mci_216, mrt_216, dX12_text_16, dX12_text_17, dX12_text_18, fr_12_79, fK_12_22, dX12_text_21, dX12_text_22, dX12_text_23, c32_0, dX12_text_24, fr_12_55, fK_12_14, dX12_text_27, dX12_text_28, ↓jK_28_8, dX12_text_31, i8_m100, dX12_text_33, dX12_text_34, dX12_text_35, dX12_text_36, dX12_text_37, dX12_text_38, dX12_text_41, c32_1, dX12_text_42, dX12_text_43, dX12_text_46, dX12_text_47, dX12_text_50, dX12_text_51, dX12_text_52, mcc_217, mci_217, mnl_217, mrt_217, mal_217, pu_216, ↓sq_iconst, il_iconst, ↓sq_bipush, il_bipush, ↓sq_sipush, il_sipush, ↓sq_lconst, il_lconst, ↓sq_iload_n, il_iload_n, ↓sq_iload, il_iload, ↓sq_lload_n, il_lload_n, ↓sq_lload, il_lload, ↓sq_aload_n, il_aload_n, ↓sq_aload, il_aload, ↓sq_istore_n, il_istore_n, ↓sq_istore, il_istore, ↓sq_astore_n, il_astore_n, ↓sq_astore, il_astore, ↓sq_lstore_n, il_lstore_n, ↓sq_lstore, il_lstore, ↓sq_iinc, il_iinc, ↓sq_iadd, il_iadd, ↓sq_isub, il_isub, ↓sq_imul, il_imul, ↓sq_iand, il_iand, ↓sq_ior, il_ior, ↓sq_ixor, il_ixor, ↓sq_ishl, il_ishl, ↓sq_ishr, il_ishr, ↓sq_iushr, il_iushr, ↓sq_idiv, il_idiv, ↓sq_irem, il_irem, ↓sq_ineg, il_ineg, ↓sq_i2b, il_i2b, ↓sq_i2s, il_i2s, ↓sq_i2l, il_i2l, ↓sq_l2i, il_l2i, ↓sq_ladd, il_ladd, ↓sq_lsub, il_lsub, ↓sq_land, il_land, ↓sq_lor, il_lor, ↓sq_lxor, il_lxor, ↓sq_lshl, il_lshl, ↓sq_lshr, il_lshr, ↓sq_lushr, il_lushr, ↓sq_lcmp, il_lcmp, ↓sq_dup, il_dup, ↓sq_pop, il_pop, ↓sq_dup_x1, il_dup_x1, ↓sq_dup2, il_dup2, ↓sq_ifCond_eq, il_ifCond_eq, ↓sq_ifCond_ne, il_ifCond_ne, ↓sq_ifCond_lt, il_ifCond_lt, ↓sq_ifCond_ge, il_ifCond_ge, ↓sq_ifCond_gt, il_ifCond_gt, ↓sq_ifCond_le, il_ifCond_le, ↓sq_if_icmp_eq, il_if_icmp_eq, ↓sq_if_icmp_ne, il_if_icmp_ne, ↓sq_if_icmp_lt, il_if_icmp_lt, ↓sq_if_icmp_ge, il_if_icmp_ge, ↓sq_if_icmp_gt, il_if_icmp_gt, ↓sq_if_icmp_le, il_if_icmp_le, ↓sq_goto, il_goto, ↓sq_tableswitch, il_tableswitch, ↓sq_lookupswitch, il_lookupswitch, ↓sq_getfield, il_getfield, ↓sq_putfield, il_putfield, ↓sq_iaload, il_iaload, ↓sq_baload, il_baload, ↓sq_laload, il_laload, ↓sq_aaload, il_aaload, ↓sq_arraylength, il_arraylength, ↓sq_iastore, il_iastore, ↓sq_bastore, il_bastore, ↓sq_lastore, il_lastore, ↓sq_getstatic, il_getstatic, ↓sq_ldc2_w, il_ldc2_w, ↓sq_ldc_w, il_ldc_w, ↓sq_ldc, il_ldc, ↓sq_invokevirtual, il_invokevirtual, ↓sq_invokestatic, il_invokestatic, ↓sq_invokespecial, il_invokespecial, ↓sq_return_, il_return_, ↓sq_ireturn, il_ireturn, ↓sq_lreturn, il_lreturn, ↓sq_multianewarray, il_multianewarray, ↓sq_new, il_new, ↓sq_newarray, il_newarray, ↓sq_anewarray, il_anewarray, ↓sq_aastore, il_aastore, wp_s, wpB, gW, inC, ↓sI1, ↓sI2, ↓sL1, ↓sL2, ↓sLI, ↓sR1, ↓sV1, ↓sV2, ↓sIR, ↓sIIR, ↓sLIR, ↓sP, ↓lI, ↓lL, ↓lR, lG, lS, okS, ↓callP, spl, cOK, okM, slN, cS, ↓retP, ↓nF, ↓cpS, vR, fI, eL, bi_0, bi_1, em_l, Value.category, List.length_cons, List.length_nil, List.replicate_succ, List.replicate_zero, true_and, and_true, ↓swL, ↓lkL, Option.toList, List.cons_append, List.nil_append, Classical.not_not, Nat.add_zero, Nat.zero_add, Nat.le_refl, Nat.reduceAdd, Nat.reduceSub, Nat.reduceMul, Nat.reduceLT, Nat.reduceLeDiff, Nat.reduceEqDiff, Nat.reduceBEq, ↓reduceIte, fv_0, fv_1, fv_2, fv_3, fw_0, fw_1, Bool.false_eq_true, Nat.reduceGT, Int.reduceLE, Int.reduceLT, Int.reduceAdd, Int.reduceSub, Int.reduceNeg, Int.reduceToNat, List.size_toArray, Nat.lt_irrefl, or_true, true_or, or_false, false_or, Option.some.injEq, reduceCtorEq, and_self, ite_true, ite_false, true_implies, false_implies, implies_true, not_true_eq_false, not_false_eq_true, dv8, rm8, rm24, cl_nI, vp_nI, n8_0, n24_0, kK_mk, kK_st, kK_cd, kK_sh, kK_it, rR_mk, rR_st, rR_cd, rR_co, rR_sh, rR_it, lt_mk, lt_st, lt_sh, lt_it, lt_cd, u2_eq, u2c, u2s, bi_F, bi_T, lgz, bi_tr, i10, i01, false_and, and_false, kK_0, kK_1, kK_2, kK_3, kK_4, kK_5, kK_6, kK_7, kK_8, kK_9, kK_10, kK_11, kK_12, kK_13, kK_14, kK_15, kK_16, kK_17, kK_18, kK_19, kK_20, kK_21, kK_22, kK_23, kK_24, kK_25, kK_26, kK_27, kK_28, kK_29, kK_30, kK_31, kK_32, kK_33, kK_34, kK_35, kK_36, kK_37, kK_38, kK_39, kK_40, kK_41, kK_42, kK_43, kK_44, kK_45, kK_46, kK_47, kK_48, kK_49, kK_50, kK_51, kK_52, kK_53, kK_54, kK_55, kK_56, kK_57, kK_58, kK_59, kK_60, kK_61, kK_62, kK_63, kK_64, kK_65, kK_66, kK_67, kK_68, kK_69, kK_70, kK_71, kK_72, kK_73, kK_74, kK_75, kK_76, kK_77, kK_78, kK_79, kK_80, kK_81, kK_82, kK_83, kK_84, kK_85, kK_86, kK_87, kK_88, kK_89, kK_90, kK_91, kK_92, kK_93, kK_94, kK_95, kK_96, kK_97, kK_98, kK_99, kK_100, kK_101, kK_102, kK_103, kK_104, kK_105, kK_106, kK_107, kK_108, kK_109, kK_110, kK_111, kK_112, kK_113, kK_114, kK_115, kK_116, kK_117, kK_118, kK_119, kK_120, kK_121, kK_122, kK_123, kK_124, kK_125, kK_126, kK_127, kK_128, kK_129, kK_130, kK_131, kK_132, kK_133, kK_134, kK_135, kK_136, kK_137, kK_138, kK_139, kK_140, kK_141, kK_142, kK_143, kK_144, kK_1000, kK_1001, kK_1002, kK_1010, kK_1011, kK_1012, kK_1013, kK_1014, kK_1015, kK_1016, kK_1017, kK_1018, kK_1019, kK_1020, kK_1021, rR_0_0, rR_0_1, rR_0_2, rR_0_3, rR_0_4, rR_0_5, rR_0_6, rR_0_7, rR_0_8, rR_1_0, rR_1_1, rR_4_0, rR_4_2, rR_38_0, rR_38_3, rR_38_4, rR_38_5, rR_38_6, rR_55_0, rR_55_2, rR_55_3, rR_58_0, rR_58_1, rR_58_2, rR_58_3, rR_60_3, rR_60_4, rR_60_5, rR_60_6, rR_60_7, rR_60_8, rR_60_9, rR_60_10, rR_60_12, rR_60_13, rR_60_14, rR_71_0, rR_71_1, rR_72_1, rR_72_2, rR_72_3, rR_72_4, rR_72_5, rR_72_7, rR_77_2, rR_77_3, rR_77_4, rR_77_5, rR_77_6, rR_77_7, rR_77_8, rR_77_9, rR_77_10, rR_77_11, rR_97_0, rR_97_1, rR_97_5, rR_97_6, rR_97_7, rR_97_8, rR_97_9, rR_97_10, rR_97_11, rR_97_12, rR_97_13, rR_97_16, rR_97_17, rR_97_18, rR_97_23, rR_97_24, rR_97_29, rR_97_30, rR_97_32, rR_97_33, rR_97_34, rR_97_35, rR_97_36, rR_97_40, rR_97_41, rR_97_42, rR_97_43, rR_97_44, rR_97_45, rR_97_46, rR_97_47, rR_97_48, rR_97_49, rR_97_50, rR_97_52, rR_97_53, rR_97_54, rR_97_56, rR_97_58, rR_97_59, rR_97_60, rR_97_61, rR_97_62, rR_97_63, rR_97_64, rR_97_65, rR_97_66, s1, e0]
    refine hK I A hM ?_ sameX.rf
    unfold gT
    rw [if_neg (by rw [zT]; exact y)]
end ZTX
