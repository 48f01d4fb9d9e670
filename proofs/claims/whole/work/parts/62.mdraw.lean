/-- the marks of a set of told ones -/
def mkP (x s : Int32) (m : Nat) : Bool := bq x m && bq s (ctN (bq x) m)
def mkF (f : Nat → Int32) (s : Int32) : Nat → Int32
  | 0 => 0
  | t + 1 => if bq s t = true then mkF f s t ||| 1 <<< (f t &&& 31) else mkF f s t
theorem gS_s {x : Int32} {m : Nat} : gS x (m + 1) = if bq x m = true then ((gS x m).1 + 1, upN (gS x m).2 (gS x m).1 (nI m)) else gS x m := rfl
theorem gS_pre {x : Int32} {m : Nat} : ∀ r t, t < (gS x m).1 → (gS x (m + r)).2 t = (gS x m).2 t := by
  intro r
  induction r with
  | zero => exact fun t _ => rfl
  | succ r ih =>
    intro t ht
    rw [show m + (r + 1) = m + r + 1 from rfl, gS_s]
    by_cases q : bq x (m + r) = true
    · rw [if_pos q]
      have h1 : (gS x m).1 ≤ (gS x (m + r)).1 := by
        rw [gS_n, gS_n]
        exact ctN_mono _ _ _
      show upN (gS x (m + r)).2 (gS x (m + r)).1 (nI (m + r)) t = _
      rw [upN_ne (by omega)]
      exact ih t ht
    · rw [if_neg q]
      exact ih t ht
theorem mkF_cong {f g : Nat → Int32} {s : Int32} : ∀ c, (∀ t, t < c → f t = g t) → mkF f s c = mkF g s c := by
  intro c
  induction c with
  | zero => exact fun _ => rfl
  | succ c ih =>
    intro h
    unfold mkF
    rw [ih (fun t ht => h t (by omega)), h c (by omega)]
theorem ldT_cong {A : MI} {f g : Nat → Int32} {s : Int32} : ∀ c, (∀ t, t < c → f t = g t) → ldT A f s c = ldT A g s c := by
  intro c
  induction c with
  | zero => exact fun _ => rfl
  | succ c ih =>
    intro h
    unfold ldT
    rw [ih (fun t ht => h t (by omega)), h c (by omega)]
theorem mkF_bt {x s : Int32} : ∀ n, mkF (gS x n).2 s (gS x n).1 = btI (mkP x s) n := by
  intro n
  induction n with
  | zero => rfl
  | succ n ih =>
    rw [btI_s, gS_s]
    by_cases q : bq x n = true
    · rw [if_pos q]
      show (if bq s (gS x n).1 = true then mkF (upN (gS x n).2 (gS x n).1 (nI n)) s (gS x n).1 ||| 1 <<< (upN (gS x n).2 (gS x n).1 (nI n) (gS x n).1 &&& 31) else mkF (upN (gS x n).2 (gS x n).1 (nI n)) s (gS x n).1) = _
      rw [mkF_cong (f := upN (gS x n).2 (gS x n).1 (nI n)) (g := (gS x n).2) (gS x n).1 (fun t ht => upN_ne (by omega)), ih, upN_eq]
      have e : mkP x s n = bq s (gS x n).1 := by
        unfold mkP
        rw [q, Bool.true_and, gS_n]
      rw [e]
    · rw [if_neg q]
      have e : mkP x s n = false := by
        unfold mkP
        rw [Bool.not_eq_true] at q
        rw [q, Bool.false_and]
      rw [e, if_neg (by decide)]
      exact ih
/-- strength without a set: the lead less the set's own lead -/
theorem stW_ld {A : MI} {x s wo : Int32} {j : Nat} (hj : j < 17) (hg : ∀ m, m < j → bq x m = true → gunB A m = true ∧ (A 101 m = 0 ∨ A 101 m = 1)) (hw : ∀ m, m < j → bq wo m = mkP x s m) : ∀ n, n ≤ j → stW A 0 wo n - stW A 1 wo n = (stF A 0 n - stF A 1 n) - ldT A (gS x n).2 s (gS x n).1 := by
  intro n
  induction n with
  | zero =>
    intro _
    show (0 : Int32) - 0 = 0 - 0 - 0
    decide
  | succ n ih =>
    intro hn
    have h0 := ih (by omega)
    have hwn := hw n (by omega)
    have w0 : stW A 0 wo (n + 1) = if gunB A n = true ∧ A 101 n = 0 ∧ bq wo n = false then stW A 0 wo n + A 103 n else stW A 0 wo n := rfl
    have w1 : stW A 1 wo (n + 1) = if gunB A n = true ∧ A 101 n = 1 ∧ bq wo n = false then stW A 1 wo n + A 103 n else stW A 1 wo n := rfl
    have f0 : stF A 0 (n + 1) = if gunB A n = true ∧ A 101 n = 0 then stF A 0 n + A 103 n else stF A 0 n := rfl
    have f1 : stF A 1 (n + 1) = if gunB A n = true ∧ A 101 n = 1 then stF A 1 n + A 103 n else stF A 1 n := rfl
    have ne01 : ∀ y : Int32, y = 0 → ¬ y = 1 := fun y h z => by rw [h] at z; exact absurd z (by decide)
    have ne10 : ∀ y : Int32, y = 1 → ¬ y = 0 := fun y h z => by rw [h] at z; exact absurd z (by decide)
    have sw : ∀ a b c d l e : Int32, a - b = c - d - l → (a + e - b = c + e - d - l) ∧ (a - (b + e) = c - (d + e) - l) ∧ (a - b = c + e - d - (l + e)) ∧ (a - b = c - (d + e) - (l + -e)) := by
      intro a b c d l e h
      have r : ∀ y : Int32, y + (e + -e) = y := fun y => by rw [Int32.add_right_neg, Int32.add_zero]
      simp only [Int32.sub_eq_add_neg, Int32.neg_add, Int32.neg_neg] at h ⊢
      refine ⟨?_, ?_, ?_, ?_⟩
      · rw [show a + e + -b = a + -b + e by ac_rfl, h]
        ac_rfl
      · rw [show a + (-b + -e) = a + -b + -e by ac_rfl, h]
        ac_rfl
      · rw [h, show c + e + -d + (-l + -e) = c + -d + -l + (e + -e) by ac_rfl, r]
      · rw [h, show c + (-d + -e) + (-l + e) = c + -d + -l + (e + -e) by ac_rfl, r]
    have hs := sw _ _ _ _ _ (A 103 n) h0
    rw [gS_s]
    by_cases q : bq x n = true
    · rw [if_pos q]
      have e : bq wo n = bq s (gS x n).1 := by
        rw [hwn]
        unfold mkP
        rw [q, Bool.true_and, gS_n]
      have el : ldT A (upN (gS x n).2 (gS x n).1 (nI n)) s ((gS x n).1 + 1) = if bq s (gS x n).1 = true then ldT A (gS x n).2 s (gS x n).1 + (if A 101 n = 0 then A 103 n else -A 103 n) else ldT A (gS x n).2 s (gS x n).1 := by
        show (if bq s (gS x n).1 = true then ldT A (upN (gS x n).2 (gS x n).1 (nI n)) s (gS x n).1 + (if A 101 (nn (upN (gS x n).2 (gS x n).1 (nI n) (gS x n).1)) = 0 then A 103 (nn (upN (gS x n).2 (gS x n).1 (nI n) (gS x n).1)) else -A 103 (nn (upN (gS x n).2 (gS x n).1 (nI n) (gS x n).1))) else ldT A (upN (gS x n).2 (gS x n).1 (nI n)) s (gS x n).1) = _
        rw [ldT_cong (f := upN (gS x n).2 (gS x n).1 (nI n)) (g := (gS x n).2) (gS x n).1 (fun t ht => upN_ne (by omega)), upN_eq, nn_nI (by omega)]
      show _ = _ - ldT A (upN (gS x n).2 (gS x n).1 (nI n)) s ((gS x n).1 + 1)
      rw [el, w0, w1, f0, f1, e]
      obtain ⟨g1, g2⟩ := hg n (by omega) q
      by_cases b : bq s (gS x n).1 = true
      · rw [if_pos b, if_neg (fun w => by rw [b] at w; exact absurd w.2.2 (by decide)), if_neg (fun w => by rw [b] at w; exact absurd w.2.2 (by decide))]
        rcases g2 with g2 | g2
        · rw [if_pos ⟨g1, g2⟩, if_neg (fun w => ne01 _ g2 w.2), if_pos g2]
          exact hs.2.2.1
        · rw [if_neg (fun w => ne10 _ g2 w.2), if_pos ⟨g1, g2⟩, if_neg (ne10 _ g2)]
          exact hs.2.2.2
      · rw [if_neg b]
        rw [Bool.not_eq_true] at b
        rcases g2 with g2 | g2
        · rw [if_pos ⟨g1, g2, b⟩, if_neg (fun w => ne01 _ g2 w.2.1), if_pos ⟨g1, g2⟩, if_neg (fun w => ne01 _ g2 w.2)]
          exact hs.1
        · rw [if_neg (fun w => ne10 _ g2 w.2.1), if_pos ⟨g1, g2, b⟩, if_neg (fun w => ne10 _ g2 w.2), if_pos ⟨g1, g2⟩]
          exact hs.2.1
    · rw [if_neg q]
      have e : bq wo n = false := by
        rw [hwn]
        unfold mkP
        rw [Bool.not_eq_true] at q
        rw [q, Bool.false_and]
      rw [w0, w1, f0, f1, e]
      by_cases g1 : gunB A n = true
      · by_cases g2 : A 101 n = 0
        · rw [if_pos ⟨g1, g2, rfl⟩, if_neg (fun w => ne01 _ g2 w.2.1), if_pos ⟨g1, g2⟩, if_neg (fun w => ne01 _ g2 w.2)]
          exact hs.1
        · by_cases g3 : A 101 n = 1
          · rw [if_neg (fun w => g2 w.2.1), if_pos ⟨g1, g3, rfl⟩, if_neg (fun w => g2 w.2), if_pos ⟨g1, g3⟩]
            exact hs.2.1
          · rw [if_neg (fun w => g2 w.2.1), if_neg (fun w => g3 w.2.1), if_neg (fun w => g2 w.2), if_neg (fun w => g3 w.2)]
            exact h0
      · rw [if_neg (fun w => g1 w.1), if_neg (fun w => g1 w.1), if_neg (fun w => g1 w.1), if_neg (fun w => g1 w.1)]
        exact h0
theorem faB_W {A : MI} {x ap : Int32} {j s : Nat} (hj : j < 17) (ej : A 97 4 = nI j) (hg : ∀ m, m < j → bq x m = true → gunB A m = true ∧ (A 101 m = 0 ∨ A 101 m = 1)) : faB A (gS x j).2 (gS x j).1 ap s = decide (abI (stW A 0 (mkF (gS x j).2 (nI s) (gS x j).1) j - stW A 1 (mkF (gS x j).2 (nI s) (gS x j).1) j) ≤ ap) := by
  unfold faB
  rw [ej, nn_nI (by omega), stW_ld (s := nI s) hj hg (fun m hm => by rw [mkF_bt, bq_btI _ j (by omega) m (by omega), decide_eq_true hm, Bool.true_and]) j (Nat.le_refl _)]
section MDR
set_option maxRecDepth 8000
set_option maxHeartbeats 400000
variable {G : cG} {d c0 : Nat} {I A : MI} {L : ML} {K : tQ}
theorem l253 {c : Nat} {s r1 : Int32} {f : Nat → Int32} (hc : c < 8) (hcnt : I 97 55 = nI c) (hf : ∀ t, t < c → I 134 t = f t) (hK : K (some (.int (mkF f s c))) 145 I L (rR c0)) : ∀ r t, t + r = c → V G (d + 4) 253 145 4 [some (.ref 97), some (.int s), some (.int (mkF f s t)), some (.int (nI t))] [] 145 I L (rR c0) K := by
  intro r
  induction r with
  | zero =>
    intro t ht
    obtain rfl : t = c := by omega
    refine V_wp (b := true) [] (by decide) (pF_ok _ _) 60 ?_
    have e : (nI t ≤ nI t) = True := eq_true (Int32.le_refl _)
    simp (maxSteps := 4000000) (disch := omega) only [dX12_marksOf_0, c32_0, dX12_marksOf_1, dX12_marksOf_2, dX12_marksOf_3, dX12_marksOf_4, dX12_marksOf_5, dX12_marksOf_6, fr_12_179, fK_12_55, dX12_marksOf_9, ↓jK_9_33, dX12_marksOf_12, dX12_marksOf_13, dX12_marksOf_14, dX12_marksOf_15, dX12_marksOf_16, c32_1, dX12_marksOf_17, dX12_marksOf_18, dX12_marksOf_19, ↓jK_19_14, dX12_marksOf_22, dX12_marksOf_23, dX12_marksOf_24, fr_12_176, fK_12_54, dX12_marksOf_27, dX12_marksOf_28, dX12_marksOf_29, dX12_marksOf_30, ↓jK_30_4, dX12_marksOf_33, dX12_marksOf_34, dX12_marksOf_35, dX12_marksOf_36, dX12_marksOf_39, ↓jK_39_m35, dX12_marksOf_42, dX12_marksOf_43, mcc_253, mci_253, mnl_253, mrt_253, mal_253, ↓sq_iconst, il_iconst, ↓sq_bipush, il_bipush, ↓sq_sipush, il_sipush, ↓sq_lconst, il_lconst, ↓sq_iload_n, il_iload_n, ↓sq_iload, il_iload, ↓sq_lload_n, il_lload_n, ↓sq_lload, il_lload, ↓sq_aload_n, il_aload_n, ↓sq_aload, il_aload, ↓sq_istore_n, il_istore_n, ↓sq_istore, il_istore, ↓sq_astore_n, il_astore_n, ↓sq_astore, il_astore, ↓sq_lstore_n, il_lstore_n, ↓sq_lstore, il_lstore, ↓sq_iinc, il_iinc, ↓sq_iadd, il_iadd, ↓sq_isub, il_isub, ↓sq_imul, il_imul, ↓sq_iand, il_iand, ↓sq_ior, il_ior, ↓sq_ixor, il_ixor, ↓sq_ishl, il_ishl, ↓sq_ishr, il_ishr, ↓sq_iushr, il_iushr, ↓sq_idiv, il_idiv, ↓sq_irem, il_irem, ↓sq_ineg, il_ineg, ↓sq_i2b, il_i2b, ↓sq_i2s, il_i2s, ↓sq_i2l, il_i2l, ↓sq_l2i, il_l2i, ↓sq_ladd, il_ladd, ↓sq_lsub, il_lsub, ↓sq_land, il_land, ↓sq_lor, il_lor, ↓sq_lxor, il_lxor, ↓sq_lshl, il_lshl, ↓sq_lshr, il_lshr, ↓sq_lushr, il_lushr, ↓sq_lcmp, il_lcmp, ↓sq_dup, il_dup, ↓sq_pop, il_pop, ↓sq_dup_x1, il_dup_x1, ↓sq_dup2, il_dup2, ↓sq_ifCond_eq, il_ifCond_eq, ↓sq_ifCond_ne, il_ifCond_ne, ↓sq_ifCond_lt, il_ifCond_lt, ↓sq_ifCond_ge, il_ifCond_ge, ↓sq_ifCond_gt, il_ifCond_gt, ↓sq_ifCond_le, il_ifCond_le, ↓sq_if_icmp_eq, il_if_icmp_eq, ↓sq_if_icmp_ne, il_if_icmp_ne, ↓sq_if_icmp_lt, il_if_icmp_lt, ↓sq_if_icmp_ge, il_if_icmp_ge, ↓sq_if_icmp_gt, il_if_icmp_gt, ↓sq_if_icmp_le, il_if_icmp_le, ↓sq_goto, il_goto, ↓sq_tableswitch, il_tableswitch, ↓sq_lookupswitch, il_lookupswitch, ↓sq_getfield, il_getfield, ↓sq_putfield, il_putfield, ↓sq_iaload, il_iaload, ↓sq_baload, il_baload, ↓sq_laload, il_laload, ↓sq_aaload, il_aaload, ↓sq_arraylength, il_arraylength, ↓sq_iastore, il_iastore, ↓sq_bastore, il_bastore, ↓sq_lastore, il_lastore, ↓sq_getstatic, il_getstatic, ↓sq_ldc2_w, il_ldc2_w, ↓sq_ldc_w, il_ldc_w, ↓sq_ldc, il_ldc, ↓sq_invokevirtual, il_invokevirtual, ↓sq_invokestatic, il_invokestatic, ↓sq_invokespecial, il_invokespecial, ↓sq_return_, il_return_, ↓sq_ireturn, il_ireturn, ↓sq_lreturn, il_lreturn, ↓sq_multianewarray, il_multianewarray, ↓sq_new, il_new, ↓sq_newarray, il_newarray, ↓sq_anewarray, il_anewarray, ↓sq_aastore, il_aastore, wp_s, wpB, gW, inC, ↓sI1, ↓sI2, ↓sL1, ↓sL2, ↓sLI, ↓sR1, ↓sV1, ↓sV2, ↓sIR, ↓sIIR, ↓sLIR, ↓sP, ↓lI, ↓lL, ↓lR, lG, lS, okS, ↓callP, spl, cOK, okM, slN, cS, ↓retP, ↓nF, ↓cpS, vR, fI, eL, bi_0, bi_1, em_l, Value.category, List.length_cons, List.length_nil, List.replicate_succ, List.replicate_zero, true_and, and_true, ↓swL, ↓lkL, Option.toList, List.cons_append, List.nil_append, Classical.not_not, Nat.add_zero, Nat.zero_add, Nat.le_refl, Nat.reduceAdd, Nat.reduceSub, Nat.reduceMul, Nat.reduceLT, Nat.reduceLeDiff, Nat.reduceEqDiff, Nat.reduceBEq, ↓reduceIte, fv_0, fv_1, fv_2, fv_3, fw_0, fw_1, Bool.false_eq_true, Nat.reduceGT, Int.reduceLE, Int.reduceLT, Int.reduceAdd, Int.reduceSub, Int.reduceNeg, Int.reduceToNat, List.size_toArray, Nat.lt_irrefl, or_true, true_or, or_false, false_or, Option.some.injEq, reduceCtorEq, and_self, ite_true, ite_false, true_implies, false_implies, implies_true, not_true_eq_false, not_false_eq_true, dv8, rm8, rm24, cl_nI, vp_nI, n8_0, n24_0, kK_mk, kK_st, kK_cd, kK_sh, kK_it, rR_mk, rR_st, rR_cd, rR_co, rR_sh, rR_it, lt_mk, lt_st, lt_sh, lt_it, lt_cd, u2_eq, u2c, u2s, bi_F, bi_T, lgz, bi_tr, i10, i01, false_and, and_false, kK_0, kK_1, kK_2, kK_3, kK_4, kK_5, kK_6, kK_7, kK_8, kK_9, kK_10, kK_11, kK_12, kK_13, kK_14, kK_15, kK_16, kK_17, kK_18, kK_19, kK_20, kK_21, kK_22, kK_23, kK_24, kK_25, kK_26, kK_27, kK_28, kK_29, kK_30, kK_31, kK_32, kK_33, kK_34, kK_35, kK_36, kK_37, kK_38, kK_39, kK_40, kK_41, kK_42, kK_43, kK_44, kK_45, kK_46, kK_47, kK_48, kK_49, kK_50, kK_51, kK_52, kK_53, kK_54, kK_55, kK_56, kK_57, kK_58, kK_59, kK_60, kK_61, kK_62, kK_63, kK_64, kK_65, kK_66, kK_67, kK_68, kK_69, kK_70, kK_71, kK_72, kK_73, kK_74, kK_75, kK_76, kK_77, kK_78, kK_79, kK_80, kK_81, kK_82, kK_83, kK_84, kK_85, kK_86, kK_87, kK_88, kK_89, kK_90, kK_91, kK_92, kK_93, kK_94, kK_95, kK_96, kK_97, kK_98, kK_99, kK_100, kK_101, kK_102, kK_103, kK_104, kK_105, kK_106, kK_107, kK_108, kK_109, kK_110, kK_111, kK_112, kK_113, kK_114, kK_115, kK_116, kK_117, kK_118, kK_119, kK_120, kK_121, kK_122, kK_123, kK_124, kK_125, kK_126, kK_127, kK_128, kK_129, kK_130, kK_131, kK_132, kK_133, kK_134, kK_135, kK_136, kK_137, kK_138, kK_139, kK_140, kK_141, kK_142, kK_143, kK_144, kK_1000, kK_1001, kK_1002, kK_1010, kK_1011, kK_1012, kK_1013, kK_1014, kK_1015, kK_1016, kK_1017, kK_1018, kK_1019, kK_1020, kK_1021, rR_0_0, rR_0_1, rR_0_2, rR_0_3, rR_0_4, rR_0_5, rR_0_6, rR_0_7, rR_0_8, rR_1_0, rR_1_1, rR_4_0, rR_4_2, rR_38_0, rR_38_3, rR_38_4, rR_38_5, rR_38_6, rR_55_0, rR_55_2, rR_55_3, rR_58_0, rR_58_1, rR_58_2, rR_58_3, rR_60_3, rR_60_4, rR_60_5, rR_60_6, rR_60_7, rR_60_8, rR_60_9, rR_60_10, rR_60_12, rR_60_13, rR_60_14, rR_71_0, rR_71_1, rR_72_1, rR_72_2, rR_72_3, rR_72_4, rR_72_5, rR_72_7, rR_77_2, rR_77_3, rR_77_4, rR_77_5, rR_77_6, rR_77_7, rR_77_8, rR_77_9, rR_77_10, rR_77_11, rR_97_0, rR_97_1, rR_97_5, rR_97_6, rR_97_7, rR_97_8, rR_97_9, rR_97_10, rR_97_11, rR_97_12, rR_97_13, rR_97_16, rR_97_17, rR_97_18, rR_97_23, rR_97_24, rR_97_29, rR_97_30, rR_97_32, rR_97_33, rR_97_34, rR_97_35, rR_97_36, rR_97_40, rR_97_41, rR_97_42, rR_97_43, rR_97_44, rR_97_45, rR_97_46, rR_97_47, rR_97_48, rR_97_49, rR_97_50, rR_97_52, rR_97_53, rR_97_54, rR_97_56, rR_97_58, rR_97_59, rR_97_60, rR_97_61, rR_97_62, rR_97_63, rR_97_64, rR_97_65, rR_97_66, hcnt, e]
    exact hK
  | succ r ih =>
    intro t ht
    refine V_wp (b := true) [4] (by decide) (pF_ok _ _) 60 ?_
    have e : (nI c ≤ nI t) = False := eq_false (nI_ge (by omega) (by omega))
    have e2 := hf t (by omega)
    have e3 : vp_in (nI t) 7 = True := vp_nI (by omega) (by omega)
    have hi := ih (t + 1) (by omega)
    rw [nI_succ, show mkF f s (t + 1) = if bq s t = true then mkF f s t ||| 1 <<< (f t &&& 31) else mkF f s t from rfl] at hi
    by_cases z : s >>> (nI t &&& 31) &&& 1 = 1
    · have ez := eq_true z
      rw [bit_1 (by omega)] at z
      rw [if_pos z] at hi
      simp (maxSteps := 4000000) (disch := omega) only [dX12_marksOf_0, c32_0, dX12_marksOf_1, dX12_marksOf_2, dX12_marksOf_3, dX12_marksOf_4, dX12_marksOf_5, dX12_marksOf_6, fr_12_179, fK_12_55, dX12_marksOf_9, ↓jK_9_33, dX12_marksOf_12, dX12_marksOf_13, dX12_marksOf_14, dX12_marksOf_15, dX12_marksOf_16, c32_1, dX12_marksOf_17, dX12_marksOf_18, dX12_marksOf_19, ↓jK_19_14, dX12_marksOf_22, dX12_marksOf_23, dX12_marksOf_24, fr_12_176, fK_12_54, dX12_marksOf_27, dX12_marksOf_28, dX12_marksOf_29, dX12_marksOf_30, ↓jK_30_4, dX12_marksOf_33, dX12_marksOf_34, dX12_marksOf_35, dX12_marksOf_36, dX12_marksOf_39, ↓jK_39_m35, dX12_marksOf_42, dX12_marksOf_43, mcc_253, mci_253, mnl_253, mrt_253, mal_253, ↓sq_iconst, il_iconst, ↓sq_bipush, il_bipush, ↓sq_sipush, il_sipush, ↓sq_lconst, il_lconst, ↓sq_iload_n, il_iload_n, ↓sq_iload, il_iload, ↓sq_lload_n, il_lload_n, ↓sq_lload, il_lload, ↓sq_aload_n, il_aload_n, ↓sq_aload, il_aload, ↓sq_istore_n, il_istore_n, ↓sq_istore, il_istore, ↓sq_astore_n, il_astore_n, ↓sq_astore, il_astore, ↓sq_lstore_n, il_lstore_n, ↓sq_lstore, il_lstore, ↓sq_iinc, il_iinc, ↓sq_iadd, il_iadd, ↓sq_isub, il_isub, ↓sq_imul, il_imul, ↓sq_iand, il_iand, ↓sq_ior, il_ior, ↓sq_ixor, il_ixor, ↓sq_ishl, il_ishl, ↓sq_ishr, il_ishr, ↓sq_iushr, il_iushr, ↓sq_idiv, il_idiv, ↓sq_irem, il_irem, ↓sq_ineg, il_ineg, ↓sq_i2b, il_i2b, ↓sq_i2s, il_i2s, ↓sq_i2l, il_i2l, ↓sq_l2i, il_l2i, ↓sq_ladd, il_ladd, ↓sq_lsub, il_lsub, ↓sq_land, il_land, ↓sq_lor, il_lor, ↓sq_lxor, il_lxor, ↓sq_lshl, il_lshl, ↓sq_lshr, il_lshr, ↓sq_lushr, il_lushr, ↓sq_lcmp, il_lcmp, ↓sq_dup, il_dup, ↓sq_pop, il_pop, ↓sq_dup_x1, il_dup_x1, ↓sq_dup2, il_dup2, ↓sq_ifCond_eq, il_ifCond_eq, ↓sq_ifCond_ne, il_ifCond_ne, ↓sq_ifCond_lt, il_ifCond_lt, ↓sq_ifCond_ge, il_ifCond_ge, ↓sq_ifCond_gt, il_ifCond_gt, ↓sq_ifCond_le, il_ifCond_le, ↓sq_if_icmp_eq, il_if_icmp_eq, ↓sq_if_icmp_ne, il_if_icmp_ne, ↓sq_if_icmp_lt, il_if_icmp_lt, ↓sq_if_icmp_ge, il_if_icmp_ge, ↓sq_if_icmp_gt, il_if_icmp_gt, ↓sq_if_icmp_le, il_if_icmp_le, ↓sq_goto, il_goto, ↓sq_tableswitch, il_tableswitch, ↓sq_lookupswitch, il_lookupswitch, ↓sq_getfield, il_getfield, ↓sq_putfield, il_putfield, ↓sq_iaload, il_iaload, ↓sq_baload, il_baload, ↓sq_laload, il_laload, ↓sq_aaload, il_aaload, ↓sq_arraylength, il_arraylength, ↓sq_iastore, il_iastore, ↓sq_bastore, il_bastore, ↓sq_lastore, il_lastore, ↓sq_getstatic, il_getstatic, ↓sq_ldc2_w, il_ldc2_w, ↓sq_ldc_w, il_ldc_w, ↓sq_ldc, il_ldc, ↓sq_invokevirtual, il_invokevirtual, ↓sq_invokestatic, il_invokestatic, ↓sq_invokespecial, il_invokespecial, ↓sq_return_, il_return_, ↓sq_ireturn, il_ireturn, ↓sq_lreturn, il_lreturn, ↓sq_multianewarray, il_multianewarray, ↓sq_new, il_new, ↓sq_newarray, il_newarray, ↓sq_anewarray, il_anewarray, ↓sq_aastore, il_aastore, wp_s, wpB, gW, inC, ↓sI1, ↓sI2, ↓sL1, ↓sL2, ↓sLI, ↓sR1, ↓sV1, ↓sV2, ↓sIR, ↓sIIR, ↓sLIR, ↓sP, ↓lI, ↓lL, ↓lR, lG, lS, okS, ↓callP, spl, cOK, okM, slN, cS, ↓retP, ↓nF, ↓cpS, vR, fI, eL, bi_0, bi_1, em_l, Value.category, List.length_cons, List.length_nil, List.replicate_succ, List.replicate_zero, true_and, and_true, ↓swL, ↓lkL, Option.toList, List.cons_append, List.nil_append, Classical.not_not, Nat.add_zero, Nat.zero_add, Nat.le_refl, Nat.reduceAdd, Nat.reduceSub, Nat.reduceMul, Nat.reduceLT, Nat.reduceLeDiff, Nat.reduceEqDiff, Nat.reduceBEq, ↓reduceIte, fv_0, fv_1, fv_2, fv_3, fw_0, fw_1, Bool.false_eq_true, Nat.reduceGT, Int.reduceLE, Int.reduceLT, Int.reduceAdd, Int.reduceSub, Int.reduceNeg, Int.reduceToNat, List.size_toArray, Nat.lt_irrefl, or_true, true_or, or_false, false_or, Option.some.injEq, reduceCtorEq, and_self, ite_true, ite_false, true_implies, false_implies, implies_true, not_true_eq_false, not_false_eq_true, dv8, rm8, rm24, cl_nI, vp_nI, n8_0, n24_0, kK_mk, kK_st, kK_cd, kK_sh, kK_it, rR_mk, rR_st, rR_cd, rR_co, rR_sh, rR_it, lt_mk, lt_st, lt_sh, lt_it, lt_cd, u2_eq, u2c, u2s, bi_F, bi_T, lgz, bi_tr, i10, i01, false_and, and_false, kK_0, kK_1, kK_2, kK_3, kK_4, kK_5, kK_6, kK_7, kK_8, kK_9, kK_10, kK_11, kK_12, kK_13, kK_14, kK_15, kK_16, kK_17, kK_18, kK_19, kK_20, kK_21, kK_22, kK_23, kK_24, kK_25, kK_26, kK_27, kK_28, kK_29, kK_30, kK_31, kK_32, kK_33, kK_34, kK_35, kK_36, kK_37, kK_38, kK_39, kK_40, kK_41, kK_42, kK_43, kK_44, kK_45, kK_46, kK_47, kK_48, kK_49, kK_50, kK_51, kK_52, kK_53, kK_54, kK_55, kK_56, kK_57, kK_58, kK_59, kK_60, kK_61, kK_62, kK_63, kK_64, kK_65, kK_66, kK_67, kK_68, kK_69, kK_70, kK_71, kK_72, kK_73, kK_74, kK_75, kK_76, kK_77, kK_78, kK_79, kK_80, kK_81, kK_82, kK_83, kK_84, kK_85, kK_86, kK_87, kK_88, kK_89, kK_90, kK_91, kK_92, kK_93, kK_94, kK_95, kK_96, kK_97, kK_98, kK_99, kK_100, kK_101, kK_102, kK_103, kK_104, kK_105, kK_106, kK_107, kK_108, kK_109, kK_110, kK_111, kK_112, kK_113, kK_114, kK_115, kK_116, kK_117, kK_118, kK_119, kK_120, kK_121, kK_122, kK_123, kK_124, kK_125, kK_126, kK_127, kK_128, kK_129, kK_130, kK_131, kK_132, kK_133, kK_134, kK_135, kK_136, kK_137, kK_138, kK_139, kK_140, kK_141, kK_142, kK_143, kK_144, kK_1000, kK_1001, kK_1002, kK_1010, kK_1011, kK_1012, kK_1013, kK_1014, kK_1015, kK_1016, kK_1017, kK_1018, kK_1019, kK_1020, kK_1021, rR_0_0, rR_0_1, rR_0_2, rR_0_3, rR_0_4, rR_0_5, rR_0_6, rR_0_7, rR_0_8, rR_1_0, rR_1_1, rR_4_0, rR_4_2, rR_38_0, rR_38_3, rR_38_4, rR_38_5, rR_38_6, rR_55_0, rR_55_2, rR_55_3, rR_58_0, rR_58_1, rR_58_2, rR_58_3, rR_60_3, rR_60_4, rR_60_5, rR_60_6, rR_60_7, rR_60_8, rR_60_9, rR_60_10, rR_60_12, rR_60_13, rR_60_14, rR_71_0, rR_71_1, rR_72_1, rR_72_2, rR_72_3, rR_72_4, rR_72_5, rR_72_7, rR_77_2, rR_77_3, rR_77_4, rR_77_5, rR_77_6, rR_77_7, rR_77_8, rR_77_9, rR_77_10, rR_77_11, rR_97_0, rR_97_1, rR_97_5, rR_97_6, rR_97_7, rR_97_8, rR_97_9, rR_97_10, rR_97_11, rR_97_12, rR_97_13, rR_97_16, rR_97_17, rR_97_18, rR_97_23, rR_97_24, rR_97_29, rR_97_30, rR_97_32, rR_97_33, rR_97_34, rR_97_35, rR_97_36, rR_97_40, rR_97_41, rR_97_42, rR_97_43, rR_97_44, rR_97_45, rR_97_46, rR_97_47, rR_97_48, rR_97_49, rR_97_50, rR_97_52, rR_97_53, rR_97_54, rR_97_56, rR_97_58, rR_97_59, rR_97_60, rR_97_61, rR_97_62, rR_97_63, rR_97_64, rR_97_65, rR_97_66, hcnt, e, e2, e3, ez]
      exact hi
    · have ez := eq_false z
      rw [bit_1 (by omega)] at z
      rw [if_neg z] at hi
      have az : mkF f s t ||| 0 = mkF f s t := Int32.or_zero
      simp (maxSteps := 4000000) (disch := omega) only [dX12_marksOf_0, c32_0, dX12_marksOf_1, dX12_marksOf_2, dX12_marksOf_3, dX12_marksOf_4, dX12_marksOf_5, dX12_marksOf_6, fr_12_179, fK_12_55, dX12_marksOf_9, ↓jK_9_33, dX12_marksOf_12, dX12_marksOf_13, dX12_marksOf_14, dX12_marksOf_15, dX12_marksOf_16, c32_1, dX12_marksOf_17, dX12_marksOf_18, dX12_marksOf_19, ↓jK_19_14, dX12_marksOf_22, dX12_marksOf_23, dX12_marksOf_24, fr_12_176, fK_12_54, dX12_marksOf_27, dX12_marksOf_28, dX12_marksOf_29, dX12_marksOf_30, ↓jK_30_4, dX12_marksOf_33, dX12_marksOf_34, dX12_marksOf_35, dX12_marksOf_36, dX12_marksOf_39, ↓jK_39_m35, dX12_marksOf_42, dX12_marksOf_43, mcc_253, mci_253, mnl_253, mrt_253, mal_253, ↓sq_iconst, il_iconst, ↓sq_bipush, il_bipush, ↓sq_sipush, il_sipush, ↓sq_lconst, il_lconst, ↓sq_iload_n, il_iload_n, ↓sq_iload, il_iload, ↓sq_lload_n, il_lload_n, ↓sq_lload, il_lload, ↓sq_aload_n, il_aload_n, ↓sq_aload, il_aload, ↓sq_istore_n, il_istore_n, ↓sq_istore, il_istore, ↓sq_astore_n, il_astore_n, ↓sq_astore, il_astore, ↓sq_lstore_n, il_lstore_n, ↓sq_lstore, il_lstore, ↓sq_iinc, il_iinc, ↓sq_iadd, il_iadd, ↓sq_isub, il_isub, ↓sq_imul, il_imul, ↓sq_iand, il_iand, ↓sq_ior, il_ior, ↓sq_ixor, il_ixor, ↓sq_ishl, il_ishl, ↓sq_ishr, il_ishr, ↓sq_iushr, il_iushr, ↓sq_idiv, il_idiv, ↓sq_irem, il_irem, ↓sq_ineg, il_ineg, ↓sq_i2b, il_i2b, ↓sq_i2s, il_i2s, ↓sq_i2l, il_i2l, ↓sq_l2i, il_l2i, ↓sq_ladd, il_ladd, ↓sq_lsub, il_lsub, ↓sq_land, il_land, ↓sq_lor, il_lor, ↓sq_lxor, il_lxor, ↓sq_lshl, il_lshl, ↓sq_lshr, il_lshr, ↓sq_lushr, il_lushr, ↓sq_lcmp, il_lcmp, ↓sq_dup, il_dup, ↓sq_pop, il_pop, ↓sq_dup_x1, il_dup_x1, ↓sq_dup2, il_dup2, ↓sq_ifCond_eq, il_ifCond_eq, ↓sq_ifCond_ne, il_ifCond_ne, ↓sq_ifCond_lt, il_ifCond_lt, ↓sq_ifCond_ge, il_ifCond_ge, ↓sq_ifCond_gt, il_ifCond_gt, ↓sq_ifCond_le, il_ifCond_le, ↓sq_if_icmp_eq, il_if_icmp_eq, ↓sq_if_icmp_ne, il_if_icmp_ne, ↓sq_if_icmp_lt, il_if_icmp_lt, ↓sq_if_icmp_ge, il_if_icmp_ge, ↓sq_if_icmp_gt, il_if_icmp_gt, ↓sq_if_icmp_le, il_if_icmp_le, ↓sq_goto, il_goto, ↓sq_tableswitch, il_tableswitch, ↓sq_lookupswitch, il_lookupswitch, ↓sq_getfield, il_getfield, ↓sq_putfield, il_putfield, ↓sq_iaload, il_iaload, ↓sq_baload, il_baload, ↓sq_laload, il_laload, ↓sq_aaload, il_aaload, ↓sq_arraylength, il_arraylength, ↓sq_iastore, il_iastore, ↓sq_bastore, il_bastore, ↓sq_lastore, il_lastore, ↓sq_getstatic, il_getstatic, ↓sq_ldc2_w, il_ldc2_w, ↓sq_ldc_w, il_ldc_w, ↓sq_ldc, il_ldc, ↓sq_invokevirtual, il_invokevirtual, ↓sq_invokestatic, il_invokestatic, ↓sq_invokespecial, il_invokespecial, ↓sq_return_, il_return_, ↓sq_ireturn, il_ireturn, ↓sq_lreturn, il_lreturn, ↓sq_multianewarray, il_multianewarray, ↓sq_new, il_new, ↓sq_newarray, il_newarray, ↓sq_anewarray, il_anewarray, ↓sq_aastore, il_aastore, wp_s, wpB, gW, inC, ↓sI1, ↓sI2, ↓sL1, ↓sL2, ↓sLI, ↓sR1, ↓sV1, ↓sV2, ↓sIR, ↓sIIR, ↓sLIR, ↓sP, ↓lI, ↓lL, ↓lR, lG, lS, okS, ↓callP, spl, cOK, okM, slN, cS, ↓retP, ↓nF, ↓cpS, vR, fI, eL, bi_0, bi_1, em_l, Value.category, List.length_cons, List.length_nil, List.replicate_succ, List.replicate_zero, true_and, and_true, ↓swL, ↓lkL, Option.toList, List.cons_append, List.nil_append, Classical.not_not, Nat.add_zero, Nat.zero_add, Nat.le_refl, Nat.reduceAdd, Nat.reduceSub, Nat.reduceMul, Nat.reduceLT, Nat.reduceLeDiff, Nat.reduceEqDiff, Nat.reduceBEq, ↓reduceIte, fv_0, fv_1, fv_2, fv_3, fw_0, fw_1, Bool.false_eq_true, Nat.reduceGT, Int.reduceLE, Int.reduceLT, Int.reduceAdd, Int.reduceSub, Int.reduceNeg, Int.reduceToNat, List.size_toArray, Nat.lt_irrefl, or_true, true_or, or_false, false_or, Option.some.injEq, reduceCtorEq, and_self, ite_true, ite_false, true_implies, false_implies, implies_true, not_true_eq_false, not_false_eq_true, dv8, rm8, rm24, cl_nI, vp_nI, n8_0, n24_0, kK_mk, kK_st, kK_cd, kK_sh, kK_it, rR_mk, rR_st, rR_cd, rR_co, rR_sh, rR_it, lt_mk, lt_st, lt_sh, lt_it, lt_cd, u2_eq, u2c, u2s, bi_F, bi_T, lgz, bi_tr, i10, i01, false_and, and_false, kK_0, kK_1, kK_2, kK_3, kK_4, kK_5, kK_6, kK_7, kK_8, kK_9, kK_10, kK_11, kK_12, kK_13, kK_14, kK_15, kK_16, kK_17, kK_18, kK_19, kK_20, kK_21, kK_22, kK_23, kK_24, kK_25, kK_26, kK_27, kK_28, kK_29, kK_30, kK_31, kK_32, kK_33, kK_34, kK_35, kK_36, kK_37, kK_38, kK_39, kK_40, kK_41, kK_42, kK_43, kK_44, kK_45, kK_46, kK_47, kK_48, kK_49, kK_50, kK_51, kK_52, kK_53, kK_54, kK_55, kK_56, kK_57, kK_58, kK_59, kK_60, kK_61, kK_62, kK_63, kK_64, kK_65, kK_66, kK_67, kK_68, kK_69, kK_70, kK_71, kK_72, kK_73, kK_74, kK_75, kK_76, kK_77, kK_78, kK_79, kK_80, kK_81, kK_82, kK_83, kK_84, kK_85, kK_86, kK_87, kK_88, kK_89, kK_90, kK_91, kK_92, kK_93, kK_94, kK_95, kK_96, kK_97, kK_98, kK_99, kK_100, kK_101, kK_102, kK_103, kK_104, kK_105, kK_106, kK_107, kK_108, kK_109, kK_110, kK_111, kK_112, kK_113, kK_114, kK_115, kK_116, kK_117, kK_118, kK_119, kK_120, kK_121, kK_122, kK_123, kK_124, kK_125, kK_126, kK_127, kK_128, kK_129, kK_130, kK_131, kK_132, kK_133, kK_134, kK_135, kK_136, kK_137, kK_138, kK_139, kK_140, kK_141, kK_142, kK_143, kK_144, kK_1000, kK_1001, kK_1002, kK_1010, kK_1011, kK_1012, kK_1013, kK_1014, kK_1015, kK_1016, kK_1017, kK_1018, kK_1019, kK_1020, kK_1021, rR_0_0, rR_0_1, rR_0_2, rR_0_3, rR_0_4, rR_0_5, rR_0_6, rR_0_7, rR_0_8, rR_1_0, rR_1_1, rR_4_0, rR_4_2, rR_38_0, rR_38_3, rR_38_4, rR_38_5, rR_38_6, rR_55_0, rR_55_2, rR_55_3, rR_58_0, rR_58_1, rR_58_2, rR_58_3, rR_60_3, rR_60_4, rR_60_5, rR_60_6, rR_60_7, rR_60_8, rR_60_9, rR_60_10, rR_60_12, rR_60_13, rR_60_14, rR_71_0, rR_71_1, rR_72_1, rR_72_2, rR_72_3, rR_72_4, rR_72_5, rR_72_7, rR_77_2, rR_77_3, rR_77_4, rR_77_5, rR_77_6, rR_77_7, rR_77_8, rR_77_9, rR_77_10, rR_77_11, rR_97_0, rR_97_1, rR_97_5, rR_97_6, rR_97_7, rR_97_8, rR_97_9, rR_97_10, rR_97_11, rR_97_12, rR_97_13, rR_97_16, rR_97_17, rR_97_18, rR_97_23, rR_97_24, rR_97_29, rR_97_30, rR_97_32, rR_97_33, rR_97_34, rR_97_35, rR_97_36, rR_97_40, rR_97_41, rR_97_42, rR_97_43, rR_97_44, rR_97_45, rR_97_46, rR_97_47, rR_97_48, rR_97_49, rR_97_50, rR_97_52, rR_97_53, rR_97_54, rR_97_56, rR_97_58, rR_97_59, rR_97_60, rR_97_61, rR_97_62, rR_97_63, rR_97_64, rR_97_65, rR_97_66, hcnt, e, e2, e3, ez, az]
      exact hi
theorem m_253 {c : Nat} {s : Int32} {f : Nat → Int32} (hc : c < 8) (hcnt : I 97 55 = nI c) (hf : ∀ t, t < c → I 134 t = f t) (hK : K (some (.int (mkF f s c))) 145 I L (rR c0)) : CK G (d + 4) 253 [.ref 97, .int s] 145 I L (rR c0) K := by
  refine CK_go (b := true) 60 [4] (by decide) (pF_ok _ _) ?_
  simp (maxSteps := 4000000) (disch := omega) only [dX12_marksOf_0, c32_0, dX12_marksOf_1, dX12_marksOf_2, dX12_marksOf_3, dX12_marksOf_4, dX12_marksOf_5, dX12_marksOf_6, fr_12_179, fK_12_55, dX12_marksOf_9, ↓jK_9_33, dX12_marksOf_12, dX12_marksOf_13, dX12_marksOf_14, dX12_marksOf_15, dX12_marksOf_16, c32_1, dX12_marksOf_17, dX12_marksOf_18, dX12_marksOf_19, ↓jK_19_14, dX12_marksOf_22, dX12_marksOf_23, dX12_marksOf_24, fr_12_176, fK_12_54, dX12_marksOf_27, dX12_marksOf_28, dX12_marksOf_29, dX12_marksOf_30, ↓jK_30_4, dX12_marksOf_33, dX12_marksOf_34, dX12_marksOf_35, dX12_marksOf_36, dX12_marksOf_39, ↓jK_39_m35, dX12_marksOf_42, dX12_marksOf_43, mcc_253, mci_253, mnl_253, mrt_253, mal_253, ↓sq_iconst, il_iconst, ↓sq_bipush, il_bipush, ↓sq_sipush, il_sipush, ↓sq_lconst, il_lconst, ↓sq_iload_n, il_iload_n, ↓sq_iload, il_iload, ↓sq_lload_n, il_lload_n, ↓sq_lload, il_lload, ↓sq_aload_n, il_aload_n, ↓sq_aload, il_aload, ↓sq_istore_n, il_istore_n, ↓sq_istore, il_istore, ↓sq_astore_n, il_astore_n, ↓sq_astore, il_astore, ↓sq_lstore_n, il_lstore_n, ↓sq_lstore, il_lstore, ↓sq_iinc, il_iinc, ↓sq_iadd, il_iadd, ↓sq_isub, il_isub, ↓sq_imul, il_imul, ↓sq_iand, il_iand, ↓sq_ior, il_ior, ↓sq_ixor, il_ixor, ↓sq_ishl, il_ishl, ↓sq_ishr, il_ishr, ↓sq_iushr, il_iushr, ↓sq_idiv, il_idiv, ↓sq_irem, il_irem, ↓sq_ineg, il_ineg, ↓sq_i2b, il_i2b, ↓sq_i2s, il_i2s, ↓sq_i2l, il_i2l, ↓sq_l2i, il_l2i, ↓sq_ladd, il_ladd, ↓sq_lsub, il_lsub, ↓sq_land, il_land, ↓sq_lor, il_lor, ↓sq_lxor, il_lxor, ↓sq_lshl, il_lshl, ↓sq_lshr, il_lshr, ↓sq_lushr, il_lushr, ↓sq_lcmp, il_lcmp, ↓sq_dup, il_dup, ↓sq_pop, il_pop, ↓sq_dup_x1, il_dup_x1, ↓sq_dup2, il_dup2, ↓sq_ifCond_eq, il_ifCond_eq, ↓sq_ifCond_ne, il_ifCond_ne, ↓sq_ifCond_lt, il_ifCond_lt, ↓sq_ifCond_ge, il_ifCond_ge, ↓sq_ifCond_gt, il_ifCond_gt, ↓sq_ifCond_le, il_ifCond_le, ↓sq_if_icmp_eq, il_if_icmp_eq, ↓sq_if_icmp_ne, il_if_icmp_ne, ↓sq_if_icmp_lt, il_if_icmp_lt, ↓sq_if_icmp_ge, il_if_icmp_ge, ↓sq_if_icmp_gt, il_if_icmp_gt, ↓sq_if_icmp_le, il_if_icmp_le, ↓sq_goto, il_goto, ↓sq_tableswitch, il_tableswitch, ↓sq_lookupswitch, il_lookupswitch, ↓sq_getfield, il_getfield, ↓sq_putfield, il_putfield, ↓sq_iaload, il_iaload, ↓sq_baload, il_baload, ↓sq_laload, il_laload, ↓sq_aaload, il_aaload, ↓sq_arraylength, il_arraylength, ↓sq_iastore, il_iastore, ↓sq_bastore, il_bastore, ↓sq_lastore, il_lastore, ↓sq_getstatic, il_getstatic, ↓sq_ldc2_w, il_ldc2_w, ↓sq_ldc_w, il_ldc_w, ↓sq_ldc, il_ldc, ↓sq_invokevirtual, il_invokevirtual, ↓sq_invokestatic, il_invokestatic, ↓sq_invokespecial, il_invokespecial, ↓sq_return_, il_return_, ↓sq_ireturn, il_ireturn, ↓sq_lreturn, il_lreturn, ↓sq_multianewarray, il_multianewarray, ↓sq_new, il_new, ↓sq_newarray, il_newarray, ↓sq_anewarray, il_anewarray, ↓sq_aastore, il_aastore, wp_s, wpB, gW, inC, ↓sI1, ↓sI2, ↓sL1, ↓sL2, ↓sLI, ↓sR1, ↓sV1, ↓sV2, ↓sIR, ↓sIIR, ↓sLIR, ↓sP, ↓lI, ↓lL, ↓lR, lG, lS, okS, ↓callP, spl, cOK, okM, slN, cS, ↓retP, ↓nF, ↓cpS, vR, fI, eL, bi_0, bi_1, em_l, Value.category, List.length_cons, List.length_nil, List.replicate_succ, List.replicate_zero, true_and, and_true, ↓swL, ↓lkL, Option.toList, List.cons_append, List.nil_append, Classical.not_not, Nat.add_zero, Nat.zero_add, Nat.le_refl, Nat.reduceAdd, Nat.reduceSub, Nat.reduceMul, Nat.reduceLT, Nat.reduceLeDiff, Nat.reduceEqDiff, Nat.reduceBEq, ↓reduceIte, fv_0, fv_1, fv_2, fv_3, fw_0, fw_1, Bool.false_eq_true, Nat.reduceGT, Int.reduceLE, Int.reduceLT, Int.reduceAdd, Int.reduceSub, Int.reduceNeg, Int.reduceToNat, List.size_toArray, Nat.lt_irrefl, or_true, true_or, or_false, false_or, Option.some.injEq, reduceCtorEq, and_self, ite_true, ite_false, true_implies, false_implies, implies_true, not_true_eq_false, not_false_eq_true, dv8, rm8, rm24, cl_nI, vp_nI, n8_0, n24_0, kK_mk, kK_st, kK_cd, kK_sh, kK_it, rR_mk, rR_st, rR_cd, rR_co, rR_sh, rR_it, lt_mk, lt_st, lt_sh, lt_it, lt_cd, u2_eq, u2c, u2s, bi_F, bi_T, lgz, bi_tr, i10, i01, false_and, and_false, kK_0, kK_1, kK_2, kK_3, kK_4, kK_5, kK_6, kK_7, kK_8, kK_9, kK_10, kK_11, kK_12, kK_13, kK_14, kK_15, kK_16, kK_17, kK_18, kK_19, kK_20, kK_21, kK_22, kK_23, kK_24, kK_25, kK_26, kK_27, kK_28, kK_29, kK_30, kK_31, kK_32, kK_33, kK_34, kK_35, kK_36, kK_37, kK_38, kK_39, kK_40, kK_41, kK_42, kK_43, kK_44, kK_45, kK_46, kK_47, kK_48, kK_49, kK_50, kK_51, kK_52, kK_53, kK_54, kK_55, kK_56, kK_57, kK_58, kK_59, kK_60, kK_61, kK_62, kK_63, kK_64, kK_65, kK_66, kK_67, kK_68, kK_69, kK_70, kK_71, kK_72, kK_73, kK_74, kK_75, kK_76, kK_77, kK_78, kK_79, kK_80, kK_81, kK_82, kK_83, kK_84, kK_85, kK_86, kK_87, kK_88, kK_89, kK_90, kK_91, kK_92, kK_93, kK_94, kK_95, kK_96, kK_97, kK_98, kK_99, kK_100, kK_101, kK_102, kK_103, kK_104, kK_105, kK_106, kK_107, kK_108, kK_109, kK_110, kK_111, kK_112, kK_113, kK_114, kK_115, kK_116, kK_117, kK_118, kK_119, kK_120, kK_121, kK_122, kK_123, kK_124, kK_125, kK_126, kK_127, kK_128, kK_129, kK_130, kK_131, kK_132, kK_133, kK_134, kK_135, kK_136, kK_137, kK_138, kK_139, kK_140, kK_141, kK_142, kK_143, kK_144, kK_1000, kK_1001, kK_1002, kK_1010, kK_1011, kK_1012, kK_1013, kK_1014, kK_1015, kK_1016, kK_1017, kK_1018, kK_1019, kK_1020, kK_1021, rR_0_0, rR_0_1, rR_0_2, rR_0_3, rR_0_4, rR_0_5, rR_0_6, rR_0_7, rR_0_8, rR_1_0, rR_1_1, rR_4_0, rR_4_2, rR_38_0, rR_38_3, rR_38_4, rR_38_5, rR_38_6, rR_55_0, rR_55_2, rR_55_3, rR_58_0, rR_58_1, rR_58_2, rR_58_3, rR_60_3, rR_60_4, rR_60_5, rR_60_6, rR_60_7, rR_60_8, rR_60_9, rR_60_10, rR_60_12, rR_60_13, rR_60_14, rR_71_0, rR_71_1, rR_72_1, rR_72_2, rR_72_3, rR_72_4, rR_72_5, rR_72_7, rR_77_2, rR_77_3, rR_77_4, rR_77_5, rR_77_6, rR_77_7, rR_77_8, rR_77_9, rR_77_10, rR_77_11, rR_97_0, rR_97_1, rR_97_5, rR_97_6, rR_97_7, rR_97_8, rR_97_9, rR_97_10, rR_97_11, rR_97_12, rR_97_13, rR_97_16, rR_97_17, rR_97_18, rR_97_23, rR_97_24, rR_97_29, rR_97_30, rR_97_32, rR_97_33, rR_97_34, rR_97_35, rR_97_36, rR_97_40, rR_97_41, rR_97_42, rR_97_43, rR_97_44, rR_97_45, rR_97_46, rR_97_47, rR_97_48, rR_97_49, rR_97_50, rR_97_52, rR_97_53, rR_97_54, rR_97_56, rR_97_58, rR_97_59, rR_97_60, rR_97_61, rR_97_62, rR_97_63, rR_97_64, rR_97_65, rR_97_66]
  exact l253 (r1 := 0) hc hcnt hf hK c 0 (Nat.zero_add _)
end MDR
