/-! ===== the law from its start ===== -/
section LWS
set_option maxRecDepth 8000
variable {G : cG} {p : Program} {e : Env} {Rm : Room} {s : State} {m : MethodId} {args : Array Value} {below : List Frame} {meth : Method} {c : Code} {Z : State → Prop} {xs : Nat → Int32} {N : Nat}
theorem lw_beg (F : FrOK G 285 p s m meth c args) (hrm : RmOK Rm 100 0 145) (hX : ScOK G s N xs) (hend : ∀ i, GO G p e Rm s m args below meth c Z 1994 i) : KK G p e Rm s m args below meth c 0 Z 0 [some (.ref 1060), none, none, none] [] 0 (fun _ _ => 0) (fun _ _ => 0) (fun _ _ => none) := by
  have r1 : RmOK Rm 100 0 1 := ⟨hrm.1, hrm.2.1, by have := hrm.2.2.1; omega, Nat.le_trans (by decide +kernel) hrm.2.2.2⟩
  refine K_new F (n1 := 145) (by decide) dL_law_0 (c2 := 11) (by decide +kernel) (by decide) (by decide +kernel) (by decide) (by decide) (fun _ => rfl) (fun _ => rfl) hrm (K_dup F dL_law_3 rfl ?_)
  have h107 : V G 100 107 97 0 (eL [.ref 0] (mnl 107)) [] 1 (fun _ _ => 0) (fun _ _ => 0) (fun _ _ => none) (fun v n' I' L' R' => v = none ∧ n' = 97 ∧ L' = (fun _ _ => 0) ∧ R' = oR ∧ ∃ J, TX J oI ∧ I' = sh4 J) := x_107 (d := 45) (fun _ _ _ => rfl) (fun J hJ => ⟨rfl, rfl, rfl, rfl, J, hJ, rfl⟩)
  refine K_call (d := 100) (mode := 2) (n1 := 97) (N1 := 145) (as := [.ref 0]) (rest := [.ref 0]) F (by decide) dL_law_4 mr_13_9 (by decide) (MP_all 107 (by decide)) (by decide) (by decide) hrm (by decide) (by decide) (show (1 : Nat) ≤ 8 by decide) (Or.inr (Or.inl ⟨rfl, ⟨0, [], rfl, rfl⟩, rfl⟩)) h107 (fun v I1 L1 R1 hq => ?_)
  obtain ⟨rfl, -, rfl, rfl, J, hJ, rfl⟩ := hq
  refine K_astore_n F (k := 1) dL_law_7 (by decide) trivial ?_
  have f97 : ∀ a j, 97 ≤ a → oR a j = none := fun a j h => by
    unfold oR
    repeat rw [u2_ne (by omega)]
    exact rQ_hi (by omega)
  refine K_new F (n1 := 145) (by decide) dL_law_8 (c2 := 12) (by decide +kernel) (by decide) (by decide +kernel) (by decide) (by decide) (fun j => sh4_hi hJ (Nat.le_refl _)) (fun j => f97 97 j (Nat.le_refl _)) hrm (K_dup F dL_law_11 rfl ?_)
  have h171 : V G 100 171 145 0 (eL [.ref 97] (mnl 171)) [] 98 (sh4 J) (fun _ _ => 0) oR (fun v n' I' L' R' => v = none ∧ n' = 145 ∧ L' = (fun _ _ => 0) ∧ R' = rR 1 ∧ I' = fI0 (sh4 J)) := x_171 (d := 95) (fun a j h => sh4_hi hJ (by omega)) (fun _ _ _ => rfl) (fun a j h => f97 a j (by omega)) ⟨rfl, rfl, rfl, R_fin, rfl⟩
  refine K_call (d := 100) (mode := 2) (n1 := 145) (N1 := 145) (as := [.ref 97]) (rest := [.ref 97]) F (by decide) dL_law_12 mr_13_12 (by decide) (MP_all 171 (by decide)) (by decide) (by decide) hrm (by decide) (by decide) (show (1 : Nat) ≤ 8 by decide) (Or.inr (Or.inl ⟨rfl, ⟨97, [], rfl, rfl⟩, rfl⟩)) h171 (fun v I2 L2 R2 hq => ?_)
  obtain ⟨rfl, -, rfl, rfl, rfl⟩ := hq
  refine K_astore_n F (k := 2) dL_law_15 (by decide) trivial ?_
  refine K_iconst F dL_law_16 (K_istore_n F (k := 3) dL_law_17 (by decide) trivial ?_)
  exact lw_loop F hrm hX hend N 0 (by omega) (Nat.zero_le _) _ _ _ (li0 hJ)
end LWS
