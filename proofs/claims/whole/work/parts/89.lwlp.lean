/-! ===== feed, the switch, the loop ===== -/
section LWF
set_option maxRecDepth 8000
variable {G : cG} {p : Program} {e : Env} {Rm : Room} {s : State} {m : MethodId} {args : Array Value} {below : List Frame} {meth : Method} {c : Code} {Z : State → Prop} {xs : Nat → Int32} {N i : Nat}
theorem lw_12 (F : FrOK G 285 p s m meth c args) (hrm : RmOK Rm 100 0 145) (hX : ScOK G s N xs) (hi : i + 5 < N) (hZ : GO G p e Rm s m args below meth c Z 1988 i) : GO G p e Rm s m args below meth c Z 658 i := by
  intro I L c0 h
  refine K_aload_n F (k := 1) (x := 0) dL_law_658 rfl ?_
  refine K_arg F hX (i := i) (k := 1) (by omega) (by decide) rfl rfl dL_law_659 dL_law_660 dL_law_661 dL_law_662 dL_law_663 ?_
  refine K_arg F hX (i := i) (k := 2) (by omega) (by decide) rfl rfl dL_law_664 dL_law_665 dL_law_666 dL_law_667 dL_law_668 ?_
  refine K_i2l F dL_law_669 (K_bipush F dL_law_670 (K_lshl F dL_law_672 ?_))
  refine K_arg F hX (i := i) (k := 3) (by omega) (by decide) rfl rfl dL_law_673 dL_law_674 dL_law_675 dL_law_676 dL_law_677 ?_
  refine K_i2l F dL_law_678 (K_ldc2 F (by decide) dL_law_679 kl_13_64 (K_land F dL_law_682 (K_lor F dL_law_683 ?_)))
  refine K_cl (a := 0) (as := [.int (xs (i + 1)), .long (((xs (i + 2)).toInt64 <<< ((i8 32).toInt64 &&& 63)) ||| ((xs (i + 3)).toInt64 &&& 4294967295))]) (rest := []) F hrm rfl dL_law_684 mr_13_66 (by decide) (Nat.le_of_ble_eq_true rfl) (by decide) rfl (Nat.le_of_ble_eq_true rfl) rfl (by decide) (by decide +kernel) (o_120 _ _ I L c0 h) (fun v I2 L2 R2 hq => ?_)
  obtain ⟨-, x, c1, rfl, rfl, h2⟩ := hq
  refine K_aload_n F (k := 2) (x := 97) dL_law_687 rfl ?_
  refine K_arg F hX (i := i) (k := 1) (by omega) (by decide) rfl rfl dL_law_688 dL_law_689 dL_law_690 dL_law_691 dL_law_692 ?_
  refine K_arg F hX (i := i) (k := 2) (by omega) (by decide) rfl rfl dL_law_693 dL_law_694 dL_law_695 dL_law_696 dL_law_697 ?_
  refine K_i2l F dL_law_698 (K_bipush F dL_law_699 (K_lshl F dL_law_701 ?_))
  refine K_arg F hX (i := i) (k := 3) (by omega) (by decide) rfl rfl dL_law_702 dL_law_703 dL_law_704 dL_law_705 dL_law_706 ?_
  refine K_i2l F dL_law_707 (K_ldc2 F (by decide) dL_law_708 kl_13_64 (K_land F dL_law_711 (K_lor F dL_law_712 ?_)))
  refine K_cl (a := 97) (as := [.int (xs (i + 1)), .long (((xs (i + 2)).toInt64 <<< ((i8 32).toInt64 &&& 63)) ||| ((xs (i + 3)).toInt64 &&& 4294967295))]) (rest := [.int x]) F hrm rfl dL_law_713 mr_13_70 (by decide) (Nat.le_of_ble_eq_true rfl) (by decide) rfl (Nat.le_of_ble_eq_true rfl) rfl (by decide) (by decide +kernel) h2 (fun v I3 L3 R3 hq => ?_)
  obtain ⟨-, rfl, c2, rfl, h3⟩ := hq
  exact K_icmp_eq F (tgt := 1988) dL_law_716 (by decide) (fun _ => hZ _ _ _ h3) (fun z => absurd rfl z)
theorem lw_sw (F : FrOK G 285 p s m meth c args) (hrm : RmOK Rm 100 0 145) (hX : ScOK G s N xs) (hi : i + 5 < N) (hZ : GO G p e Rm s m args below meth c Z 1988 i) (q : Nat) (off : Int) (ho : (#[207, 240, 273, 306, 339, 392, 425, 458, 491, 524, 557, 591, 625, 688, 701, 734, 788, 821, 844, 907, 950, 993, 1046, 1069, 1102, 1115, 1158, 1181, 1224, 1237, 1270, 1313, 1366, 1389, 1432, 1475, 1498, 1541, 1574, 1597, 1620, 1663, 1687, 1710, 1753, 1796, 1859, 1922] : Array Int)[q]? = some off) (tgt : Nat) (ht : (33 : Int) + off = (tgt : Int)) : GO G p e Rm s m args below meth c Z tgt i := by
  match q, ho with
  | 0, ho =>
    obtain rfl : 207 = off := Option.some.inj ho
    obtain rfl : tgt = 240 := by omega
    exact lw_0 F hrm hX hi hZ
  | 1, ho =>
    obtain rfl : 240 = off := Option.some.inj ho
    obtain rfl : tgt = 273 := by omega
    exact lw_1 F hrm hX hi hZ
  | 2, ho =>
    obtain rfl : 273 = off := Option.some.inj ho
    obtain rfl : tgt = 306 := by omega
    exact lw_2 F hrm hX hi hZ
  | 3, ho =>
    obtain rfl : 306 = off := Option.some.inj ho
    obtain rfl : tgt = 339 := by omega
    exact lw_3 F hrm hX hi hZ
  | 4, ho =>
    obtain rfl : 339 = off := Option.some.inj ho
    obtain rfl : tgt = 372 := by omega
    exact lw_4 F hrm hX hi hZ
  | 5, ho =>
    obtain rfl : 392 = off := Option.some.inj ho
    obtain rfl : tgt = 425 := by omega
    exact lw_5 F hrm hX hi hZ
  | 6, ho =>
    obtain rfl : 425 = off := Option.some.inj ho
    obtain rfl : tgt = 458 := by omega
    exact lw_6 F hrm hX hi hZ
  | 7, ho =>
    obtain rfl : 458 = off := Option.some.inj ho
    obtain rfl : tgt = 491 := by omega
    exact lw_7 F hrm hX hi hZ
  | 8, ho =>
    obtain rfl : 491 = off := Option.some.inj ho
    obtain rfl : tgt = 524 := by omega
    exact lw_8 F hrm hX hi hZ
  | 9, ho =>
    obtain rfl : 524 = off := Option.some.inj ho
    obtain rfl : tgt = 557 := by omega
    exact lw_9 F hrm hX hi hZ
  | 10, ho =>
    obtain rfl : 557 = off := Option.some.inj ho
    obtain rfl : tgt = 590 := by omega
    exact lw_10 F hrm hX hi hZ
  | 11, ho =>
    obtain rfl : 591 = off := Option.some.inj ho
    obtain rfl : tgt = 624 := by omega
    exact lw_11 F hrm hX hi hZ
  | 12, ho =>
    obtain rfl : 625 = off := Option.some.inj ho
    obtain rfl : tgt = 658 := by omega
    exact lw_12 F hrm hX hi hZ
  | 13, ho =>
    obtain rfl : 688 = off := Option.some.inj ho
    obtain rfl : tgt = 721 := by omega
    exact lw_13 F hrm hX hi hZ
  | 14, ho =>
    obtain rfl : 701 = off := Option.some.inj ho
    obtain rfl : tgt = 734 := by omega
    exact lw_14 F hrm hX hi hZ
  | 15, ho =>
    obtain rfl : 734 = off := Option.some.inj ho
    obtain rfl : tgt = 767 := by omega
    exact lw_15 F hrm hX hi hZ
  | 16, ho =>
    obtain rfl : 788 = off := Option.some.inj ho
    obtain rfl : tgt = 821 := by omega
    exact lw_16 F hrm hX hi hZ
  | 17, ho =>
    obtain rfl : 821 = off := Option.some.inj ho
    obtain rfl : tgt = 854 := by omega
    exact lw_17 F hrm hX hi hZ
  | 18, ho =>
    obtain rfl : 844 = off := Option.some.inj ho
    obtain rfl : tgt = 877 := by omega
    exact lw_18 F hrm hX hi hZ
  | 19, ho =>
    obtain rfl : 907 = off := Option.some.inj ho
    obtain rfl : tgt = 940 := by omega
    exact lw_19 F hrm hX hi hZ
  | 20, ho =>
    obtain rfl : 950 = off := Option.some.inj ho
    obtain rfl : tgt = 983 := by omega
    exact lw_20 F hrm hX hi hZ
  | 21, ho =>
    obtain rfl : 993 = off := Option.some.inj ho
    obtain rfl : tgt = 1026 := by omega
    exact lw_21 F hrm hX hi hZ
  | 22, ho =>
    obtain rfl : 1046 = off := Option.some.inj ho
    obtain rfl : tgt = 1079 := by omega
    exact lw_22 F hrm hX hi hZ
  | 23, ho =>
    obtain rfl : 1069 = off := Option.some.inj ho
    obtain rfl : tgt = 1102 := by omega
    exact lw_23 F hrm hX hi hZ
  | 24, ho =>
    obtain rfl : 1102 = off := Option.some.inj ho
    obtain rfl : tgt = 1135 := by omega
    exact lw_24 F hrm hX hi hZ
  | 25, ho =>
    obtain rfl : 1115 = off := Option.some.inj ho
    obtain rfl : tgt = 1148 := by omega
    exact lw_25 F hrm hX hi hZ
  | 26, ho =>
    obtain rfl : 1158 = off := Option.some.inj ho
    obtain rfl : tgt = 1191 := by omega
    exact lw_26 F hrm hX hi hZ
  | 27, ho =>
    obtain rfl : 1181 = off := Option.some.inj ho
    obtain rfl : tgt = 1214 := by omega
    exact lw_27 F hrm hX hi hZ
  | 28, ho =>
    obtain rfl : 1224 = off := Option.some.inj ho
    obtain rfl : tgt = 1257 := by omega
    exact lw_28 F hrm hX hi hZ
  | 29, ho =>
    obtain rfl : 1237 = off := Option.some.inj ho
    obtain rfl : tgt = 1270 := by omega
    exact lw_29 F hrm hX hi hZ
  | 30, ho =>
    obtain rfl : 1270 = off := Option.some.inj ho
    obtain rfl : tgt = 1303 := by omega
    exact lw_30 F hrm hX hi hZ
  | 31, ho =>
    obtain rfl : 1313 = off := Option.some.inj ho
    obtain rfl : tgt = 1346 := by omega
    exact lw_31 F hrm hX hi hZ
  | 32, ho =>
    obtain rfl : 1366 = off := Option.some.inj ho
    obtain rfl : tgt = 1399 := by omega
    exact lw_32 F hrm hX hi hZ
  | 33, ho =>
    obtain rfl : 1389 = off := Option.some.inj ho
    obtain rfl : tgt = 1422 := by omega
    exact lw_33 F hrm hX hi hZ
  | 34, ho =>
    obtain rfl : 1432 = off := Option.some.inj ho
    obtain rfl : tgt = 1465 := by omega
    exact lw_34 F hrm hX hi hZ
  | 35, ho =>
    obtain rfl : 1475 = off := Option.some.inj ho
    obtain rfl : tgt = 1508 := by omega
    exact lw_35 F hrm hX hi hZ
  | 36, ho =>
    obtain rfl : 1498 = off := Option.some.inj ho
    obtain rfl : tgt = 1531 := by omega
    exact lw_36 F hrm hX hi hZ
  | 37, ho =>
    obtain rfl : 1541 = off := Option.some.inj ho
    obtain rfl : tgt = 1574 := by omega
    exact lw_37 F hrm hX hi hZ
  | 38, ho =>
    obtain rfl : 1574 = off := Option.some.inj ho
    obtain rfl : tgt = 1607 := by omega
    exact lw_38 F hrm hX hi hZ
  | 39, ho =>
    obtain rfl : 1597 = off := Option.some.inj ho
    obtain rfl : tgt = 1630 := by omega
    exact lw_39 F hrm hX hi hZ
  | 40, ho =>
    obtain rfl : 1620 = off := Option.some.inj ho
    obtain rfl : tgt = 1653 := by omega
    exact lw_40 F hrm hX hi hZ
  | 41, ho =>
    obtain rfl : 1663 = off := Option.some.inj ho
    obtain rfl : tgt = 1696 := by omega
    exact lw_41 F hrm hX hi hZ
  | 42, ho =>
    obtain rfl : 1687 = off := Option.some.inj ho
    obtain rfl : tgt = 1720 := by omega
    exact lw_42 F hrm hX hi hZ
  | 43, ho =>
    obtain rfl : 1710 = off := Option.some.inj ho
    obtain rfl : tgt = 1743 := by omega
    exact lw_43 F hrm hX hi hZ
  | 44, ho =>
    obtain rfl : 1753 = off := Option.some.inj ho
    obtain rfl : tgt = 1786 := by omega
    exact lw_44 F hrm hX hi hZ
  | 45, ho =>
    obtain rfl : 1796 = off := Option.some.inj ho
    obtain rfl : tgt = 1829 := by omega
    exact lw_45 F hrm hX hi hZ
  | 46, ho =>
    obtain rfl : 1859 = off := Option.some.inj ho
    obtain rfl : tgt = 1892 := by omega
    exact lw_46 F hrm hX hi hZ
  | 47, ho =>
    obtain rfl : 1922 = off := Option.some.inj ho
    obtain rfl : tgt = 1955 := by omega
    exact lw_47 F hrm hX hi hZ
  | (q + 48), ho => cases ho
theorem lp_lt {N i : Nat} (hN : N ≤ 3072) (hi : i ≤ N) (h : ¬ nI N - i8 6 < nI i) : i + 6 ≤ N := by
  by_cases q : N < 6
  · have : ∀ N, N < 6 → ∀ i, i < 6 → nI N - i8 6 < nI i := by decide +kernel
    exact absurd (this N q i (by omega)) h
  · obtain ⟨M, rfl⟩ : ∃ M, N = M + 6 := ⟨N - 6, by omega⟩
    have e6 : i8 6 = nI 6 := by decide
    have e : nI (M + 6) - i8 6 = nI M := by
      rw [e6, ← nI_ad, Int32.add_sub_cancel]
    rw [e, nI_ltI (by omega) (by omega)] at h
    omega
theorem lw_back (F : FrOK G 285 p s m meth c args) (hrm : RmOK Rm 100 0 145) (hX : ScOK G s N xs) (h : GO G p e Rm s m args below meth c Z 18 (i + 6)) : GO G p e Rm s m args below meth c Z 1988 i := by
  intro I L c0 hL
  have k := h I L c0 hL
  rw [← nI_ad] at k
  refine K_iinc F (i := 3) dL_law_1988 rfl (by decide) trivial (K_goto F (tgt := 18) dL_law_1991 (by decide) ?_)
  exact k
theorem lw_loop (F : FrOK G 285 p s m meth c args) (hrm : RmOK Rm 100 0 145) (hX : ScOK G s N xs) (hend : ∀ i, GO G p e Rm s m args below meth c Z 1994 i) : ∀ r i, N ≤ i + r → i ≤ N → GO G p e Rm s m args below meth c Z 18 i := by
  intro r
  induction r with
  | zero =>
    intro i hr hi I L c0 h
    obtain rfl : i = N := by omega
    refine K_iload_n F (k := 3) dL_law_18 rfl (K_aload_n F (k := 0) dL_law_19 rfl (K_slen F hX dL_law_20 (K_bipush F dL_law_21 (K_isub F dL_law_23 ?_))))
    refine K_icmp_gt F (tgt := 1994) dL_law_24 (by decide) (fun _ => hend i I L c0 h) (fun z => ?_)
    have := lp_lt hX.2.2 (Nat.le_refl _) z
    omega
  | succ r ih =>
    intro i hr hi I L c0 h
    refine K_iload_n F (k := 3) dL_law_18 rfl (K_aload_n F (k := 0) dL_law_19 rfl (K_slen F hX dL_law_20 (K_bipush F dL_law_21 (K_isub F dL_law_23 ?_))))
    refine K_icmp_gt F (tgt := 1994) dL_law_24 (by decide) (fun _ => hend i I L c0 h) (fun z => ?_)
    have h6 := lp_lt hX.2.2 hi z
    have hb : GO G p e Rm s m args below meth c Z 1988 i := lw_back F hrm hX (ih (i + 6) (by omega) (by omega))
    have hN := hX.2.2
    refine K_aload_n F (k := 0) dL_law_27 rfl (K_iload_n F (k := 3) dL_law_28 rfl (K_sld F hX (vp_nI (by omega) (by omega) |>.mpr trivial) dL_law_29 (K_bipush F dL_law_30 (K_iand F dL_law_32 ?_))))
    refine K_table F dL_law_33 (fun off tgt hq ht => ?_) ⟨?_, by decide⟩
    · rcases hq with ⟨-, rfl⟩ | ⟨-, -, ho⟩
      · obtain rfl : tgt = 1988 := by omega
        exact hb I L c0 h
      · exact lw_sw F hrm hX (by omega) hb _ off ho tgt ht I L c0 h
    · intro off hq
      rcases hq with rfl | ⟨q, hq⟩
      · decide
      · have hq2 : (#[207, 240, 273, 306, 339, 392, 425, 458, 491, 524, 557, 591, 625, 688, 701, 734, 788, 821, 844, 907, 950, 993, 1046, 1069, 1102, 1115, 1158, 1181, 1224, 1237, 1270, 1313, 1366, 1389, 1432, 1475, 1498, 1541, 1574, 1597, 1620, 1663, 1687, 1710, 1753, 1796, 1859, 1922] : Array Int).toList[q]? = some off := by
          rw [Array.getElem?_toList]
          exact hq
        have hall : ∀ v ∈ (#[207, 240, 273, 306, 339, 392, 425, 458, 491, 524, 557, 591, 625, 688, 701, 734, 788, 821, 844, 907, 950, 993, 1046, 1069, 1102, 1115, 1158, 1181, 1224, 1237, 1270, 1313, 1366, 1389, 1432, 1475, 1498, 1541, 1574, 1597, 1620, 1663, 1687, 1710, 1753, 1796, 1859, 1922] : Array Int).toList, 0 ≤ (33 : Int) + v := by decide
        have hm := List.mem_of_getElem? hq2
        exact hall off hm
end LWF
