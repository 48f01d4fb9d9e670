/-! ===== each call, on both sides ===== -/
def LI (I : MI) (L : ML) (c : Nat) : Prop := ∃ A, c < 12 ∧ XRel I A ∧ MRel I A ∧ AI A ∧ L 79 = L 140
def opI (G : cG) (mx mm : Nat) (as : List Value) : Prop := ∀ (I : MI) (L : ML) (c : Nat), LI I L c → CK G 100 mx (.ref 0 :: as) 145 I L (rR c) (fun v n' I' L' R' => n' = 145 ∧ ∃ x c', v = some (.int x) ∧ R' = rR c' ∧ CK G 100 mm (.ref 97 :: as) 145 I' L' (rR c') (fun w n2 I2 L2 R2 => n2 = 145 ∧ w = some (.int x) ∧ ∃ c2, R2 = rR c2 ∧ LI I2 L2 c2))
def opL (G : cG) (mx mm : Nat) (as : List Value) : Prop := ∀ (I : MI) (L : ML) (c : Nat), LI I L c → CK G 100 mx (.ref 0 :: as) 145 I L (rR c) (fun v n' I' L' R' => n' = 145 ∧ ∃ x c', v = some (.long x) ∧ R' = rR c' ∧ CK G 100 mm (.ref 97 :: as) 145 I' L' (rR c') (fun w n2 I2 L2 R2 => n2 = 145 ∧ w = some (.long x) ∧ ∃ c2, R2 = rR c2 ∧ LI I2 L2 c2))
section OPS
variable {G : cG}
theorem o_108 (p0 p1 : Int32) : opI G 108 174 [.int p0, .int p1] := by
  intro I L c ⟨A, hc, hX, hM, hA, hL⟩
  refine y_108 (d := 96) hX hA.1 (fun J h1 s1 => ⟨rfl, _, c, rfl, rfl, ?_⟩)
  refine z_108 (d := 96) (hM.same s1) hA.1 (fun J2 h2 s2 => ⟨rfl, rfl, c, rfl, g108 A p0 p1, hc, ?_, h2, v_108 hA p0 p1, hL⟩)
  exact h1.same s2 (nn_ml (v_108 hA p0 p1).1)
theorem o_109 (p0 p1 : Int32) : opI G 109 175 [.int p0, .int p1] := by
  intro I L c ⟨A, hc, hX, hM, hA, hL⟩
  refine y_109 (d := 96) hX hA.1 (fun J h1 s1 => ⟨rfl, _, c, rfl, rfl, ?_⟩)
  refine z_109 (d := 96) (hM.same s1) hA.1 (fun J2 h2 s2 => ⟨rfl, rfl, c, rfl, g109 A p0 p1, hc, ?_, h2, v_109 hA p0 p1, hL⟩)
  exact h1.same s2 (nn_ml (v_109 hA p0 p1).1)
theorem o_110 (p0 p1 : Int32) : opI G 110 176 [.int p0, .int p1] := by
  intro I L c ⟨A, hc, hX, hM, hA, hL⟩
  refine y_110 (d := 96) hX hA.1 (fun J h1 s1 => ⟨rfl, _, c, rfl, rfl, ?_⟩)
  refine z_110 (d := 96) (hM.same s1) hA.1 (fun J2 h2 s2 => ⟨rfl, rfl, c, rfl, g110 A p0 p1, hc, ?_, h2, v_110 hA p0 p1, hL⟩)
  exact h1.same s2 (nn_ml (v_110 hA p0 p1).1)
theorem o_111 (p0 p1 : Int32) : opI G 111 179 [.int p0, .int p1] := by
  intro I L c ⟨A, hc, hX, hM, hA, hL⟩
  refine y_111 (d := 94) hX hA.1 (fun J h1 s1 => ⟨rfl, _, c, rfl, rfl, ?_⟩)
  refine z_111 (d := 94) (hM.same s1) hA.1 (fun J2 h2 s2 => ⟨rfl, rfl, c, rfl, A, hc, ?_, h2, hA, hL⟩)
  exact h1.same s2 (nn_ml hA.1)
theorem o_112 (p0 p1 p2 p3 : Int32) : opI G 112 184 [.int p0, .int p1, .int p2, .int p3] := by
  intro I L c ⟨A, hc, hX, hM, hA, hL⟩
  refine y_112 (d := 94) hX hA.1 (fun J h1 s1 => ⟨rfl, _, c, rfl, rfl, ?_⟩)
  refine z_112 (d := 95) (hM.same s1) hA.1 hA.2.2 (fun J2 h2 s2 => ⟨rfl, rfl, c, rfl, g112 A p0 p1 p2 p3, hc, ?_, h2, v_112 hA p0 p1 p2 p3, hL⟩)
  exact h1.same s2 (nn_ml (v_112 hA p0 p1 p2 p3).1)
theorem o_113 (p0 p1 : Int32) : opI G 113 186 [.int p0, .int p1] := by
  intro I L c ⟨A, hc, hX, hM, hA, hL⟩
  refine y_113 (d := 93) hX hA.1 (fun J h1 s1 => ⟨rfl, _, c, rfl, rfl, ?_⟩)
  refine z_113 (d := 93) (hM.same s1) hA.1 (fun J2 h2 s2 => ⟨rfl, rfl, c, rfl, g113 A p0 p1, hc, ?_, h2, v_113 hA p0 p1, hL⟩)
  exact h1.same s2 (nn_ml (v_113 hA p0 p1).1)
theorem o_114 (p0 p1 : Int32) : opI G 114 187 [.int p0, .int p1] := by
  intro I L c ⟨A, hc, hX, hM, hA, hL⟩
  refine y_114 (d := 95) hX hA.1 (fun J h1 s1 => ⟨rfl, _, c, rfl, rfl, ?_⟩)
  refine z_114 (d := 95) (hM.same s1) hA.1 (fun J2 h2 s2 => ⟨rfl, rfl, c, rfl, g114 A p0 p1, hc, ?_, h2, v_114 hA p0 p1, hL⟩)
  exact h1.same s2 (nn_ml (v_114 hA p0 p1).1)
theorem o_115 (p0 p1 : Int32) : opI G 115 189 [.int p0, .int p1] := by
  intro I L c ⟨A, hc, hX, hM, hA, hL⟩
  refine y_115 (d := 95) hX hA.1 (fun J h1 s1 => ⟨rfl, _, c, rfl, rfl, ?_⟩)
  refine z_115 (d := 95) (hM.same s1) hA.1 (fun J2 h2 s2 => ⟨rfl, rfl, c, rfl, A, hc, ?_, h2, hA, hL⟩)
  exact h1.same s2 (nn_ml hA.1)
theorem o_116 (p0 p1 : Int32) : opI G 116 191 [.int p0, .int p1] := by
  intro I L c ⟨A, hc, hX, hM, hA, hL⟩
  refine y_116 (d := 94) hX hA.1 (fun J h1 s1 => ⟨rfl, _, c, rfl, rfl, ?_⟩)
  refine z_116 (d := 94) (hM.same s1) hA.1 (fun J2 h2 s2 => ⟨rfl, rfl, c, rfl, A, hc, ?_, h2, hA, hL⟩)
  exact h1.same s2 (nn_ml hA.1)
theorem o_117 (p0 p1 : Int32) : opI G 117 193 [.int p0, .int p1] := by
  intro I L c ⟨A, hc, hX, hM, hA, hL⟩
  refine y_117 (d := 93) hX hA.1 (fun J h1 s1 => ⟨rfl, _, c, rfl, rfl, ?_⟩)
  refine z_117 (d := 93) (hM.same s1) hA.1 (fun J2 h2 s2 => ⟨rfl, rfl, c, rfl, A, hc, ?_, h2, hA, hL⟩)
  exact h1.same s2 (nn_ml hA.1)
theorem o_118 (p0 p1 : Int32) : opL G 118 197 [.int p0, .int p1] := by
  intro I L c ⟨A, hc, hX, hM, hA, hL⟩
  refine y_118 (d := 92) hX hA.1 (fun J h1 s1 => ⟨rfl, _, c, rfl, rfl, ?_⟩)
  refine z_118 (d := 92) (hM.same s1) hA.1 (fun J2 h2 s2 => ⟨rfl, rfl, c, rfl, A, hc, ?_, h2, hA, hL⟩)
  exact h1.same s2 (nn_ml hA.1)
theorem o_119 (p0 p1 : Int32) : opL G 119 199 [.int p0, .int p1] := by
  intro I L c ⟨A, hc, hX, hM, hA, hL⟩
  refine y_119 (d := 91) hX hA.1 (fun J h1 s1 => ⟨rfl, _, c, rfl, rfl, ?_⟩)
  refine z_119 (d := 91) (hM.same s1) hA.1 (fun J2 h2 s2 => ⟨rfl, rfl, c, rfl, A, hc, ?_, h2, hA, hL⟩)
  exact h1.same s2 (nn_ml hA.1)
theorem o_120 (p0 : Int32) (p1 : Int64) : opI G 120 201 [.int p0, .long p1] := by
  intro I L c ⟨A, hc, hX, hM, hA, hL⟩
  refine y_120 (d := 94) hX hA.1 (fun J h1 s1 => ⟨rfl, _, c, rfl, rfl, ?_⟩)
  refine z_120 (d := 96) (hM.same s1) hA.1 (fun J2 h2 s2 => ⟨rfl, rfl, c, rfl, g120 A p0 p1, hc, ?_, h2, v_120 hA p0 p1, hL⟩)
  exact h1.same s2 (nn_ml (v_120 hA p0 p1).1)
theorem o_121  : opI G 121 217 [] := by
  intro I L c ⟨A, hc, hX, hM, hA, hL⟩
  refine y_121 (d := 46) hX hA.1 (fun J c2 h0 h1 s1 => ⟨rfl, _, c2, rfl, rfl, ?_⟩) hc
  refine z_121 (d := 91) (hM.same s1) hA.1 hA.2.1 (fun J2 A2 h2 h3 s2 => ⟨rfl, rfl, c2, rfl, A2, h0, ?_, h2, gT_AI hA h3, hL⟩)
  exact (h1 A2 h3).same s2 (nn_ml (gT_AI hA h3).1)
theorem o_122 (p0 p1 : Int32) : opI G 122 218 [.int p0, .int p1] := by
  intro I L c ⟨A, hc, hX, hM, hA, hL⟩
  refine y_122 (d := 95) hX hA.1 (fun J h1 s1 => ⟨rfl, _, c, rfl, rfl, ?_⟩)
  refine z_122 (d := 95) (hM.same s1) hA.1 (fun J2 h2 s2 => ⟨rfl, rfl, c, rfl, g122 A p0 p1, hc, ?_, h2, v_122 hA p0 p1, hL⟩)
  exact h1.same s2 (nn_ml (v_122 hA p0 p1).1)
theorem o_123 (p0 p1 p2 p3 : Int32) : opL G 123 222 [.int p0, .int p1, .int p2, .int p3] := by
  intro I L c ⟨A, hc, hX, hM, hA, hL⟩
  refine y_123 (d := 91) hX hA.1 (fun J h1 s1 => ⟨rfl, _, c, rfl, rfl, ?_⟩)
  refine z_123 (d := 91) (hM.same s1) hA.1 (fun J2 h2 s2 => ⟨rfl, rfl, c, rfl, A, hc, ?_, h2, hA, hL⟩)
  exact h1.same s2 (nn_ml hA.1)
theorem o_124 (p0 p1 : Int32) : opI G 124 223 [.int p0, .int p1] := by
  intro I L c ⟨A, hc, hX, hM, hA, hL⟩
  refine y_124 (d := 89) hX hA.1 (fun J h1 s1 => ⟨rfl, _, c, rfl, rfl, ?_⟩)
  refine z_124 (d := 89) (hM.same s1) hA.1 (fun J2 h2 s2 => ⟨rfl, rfl, c, rfl, A, hc, ?_, h2, hA, hL⟩)
  exact h1.same s2 (nn_ml hA.1)
theorem o_125 (p0 : Int32) : opI G 125 224 [.int p0] := by
  intro I L c ⟨A, hc, hX, hM, hA, hL⟩
  refine y_125 (d := 93) hX hA.1 (fun J h1 s1 => ⟨rfl, _, c, rfl, rfl, ?_⟩)
  refine z_125 (d := 93) (hM.same s1) hA.1 (fun J2 h2 s2 => ⟨rfl, rfl, c, rfl, A, hc, ?_, h2, hA, hL⟩)
  exact h1.same s2 (nn_ml hA.1)
theorem o_126 (p0 p1 p2 p3 p4 : Int32) : opI G 126 225 [.int p0, .int p1, .int p2, .int p3, .int p4] := by
  intro I L c ⟨A, hc, hX, hM, hA, hL⟩
  refine y_126 (d := 95) hX hA.1 (fun J h1 s1 => ⟨rfl, _, c, rfl, rfl, ?_⟩)
  refine z_126 (d := 95) (hM.same s1) hA.1 (fun J2 h2 s2 => ⟨rfl, rfl, c, rfl, g126 A p0 p1 p2 p3 p4, hc, ?_, h2, v_126 hA p0 p1 p2 p3 p4, hL⟩)
  exact h1.same s2 (nn_ml (v_126 hA p0 p1 p2 p3 p4).1)
theorem o_127 (p0 p1 p2 : Int32) : opI G 127 226 [.int p0, .int p1, .int p2] := by
  intro I L c ⟨A, hc, hX, hM, hA, hL⟩
  refine y_127 (d := 95) hX hA.1 (fun J h1 s1 => ⟨rfl, _, c, rfl, rfl, ?_⟩)
  refine z_127 (d := 95) (hM.same s1) hA.1 (fun J2 h2 s2 => ⟨rfl, rfl, c, rfl, A, hc, ?_, h2, hA, hL⟩)
  exact h1.same s2 (nn_ml hA.1)
theorem o_128 (p0 p1 p2 : Int32) : opI G 128 228 [.int p0, .int p1, .int p2] := by
  intro I L c ⟨A, hc, hX, hM, hA, hL⟩
  refine y_128 (d := 95) hX hA.1 (fun J h1 s1 => ⟨rfl, _, c, rfl, rfl, ?_⟩)
  refine z_128 (d := 95) (hM.same s1) hA.1 (fun J2 h2 s2 => ⟨rfl, rfl, c, rfl, g128 A p0 p1 p2, hc, ?_, h2, v_128 hA p0 p1 p2, hL⟩)
  exact h1.same s2 (nn_ml (v_128 hA p0 p1 p2).1)
theorem o_129 (p0 p1 p2 p3 : Int32) : opI G 129 231 [.int p0, .int p1, .int p2, .int p3] := by
  intro I L c ⟨A, hc, hX, hM, hA, hL⟩
  refine y_129 (d := 94) hX hA.1 (fun J h1 s1 => ⟨rfl, _, c, rfl, rfl, ?_⟩)
  refine z_129 (d := 94) (hM.same s1) hA.1 (fun J2 h2 s2 => ⟨rfl, rfl, c, rfl, g129 A p0 p1 p2 p3, hc, ?_, h2, v_129 hA p0 p1 p2 p3, hL⟩)
  exact h1.same s2 (nn_ml (v_129 hA p0 p1 p2 p3).1)
theorem o_130 (p0 : Int32) : opI G 130 232 [.int p0] := by
  intro I L c ⟨A, hc, hX, hM, hA, hL⟩
  refine y_130 (d := 94) hX hA.1 (fun J h1 s1 => ⟨rfl, _, c, rfl, rfl, ?_⟩)
  refine z_130 (d := 94) (hM.same s1) hA.1 (fun J2 h2 s2 => ⟨rfl, rfl, c, rfl, g130 A p0, hc, ?_, h2, v_130 hA p0, hL⟩)
  exact h1.same s2 (nn_ml (v_130 hA p0).1)
theorem o_131 (p0 p1 : Int32) : opI G 131 234 [.int p0, .int p1] := by
  intro I L c ⟨A, hc, hX, hM, hA, hL⟩
  refine y_131 (d := 91) hX hA.1 (fun J h1 s1 => ⟨rfl, _, c, rfl, rfl, ?_⟩)
  refine z_131 (d := 91) (hM.same s1) hA.1 (fun J2 h2 s2 => ⟨rfl, rfl, c, rfl, A, hc, ?_, h2, hA, hL⟩)
  exact h1.same s2 (nn_ml hA.1)
theorem o_132  : opI G 132 235 [] := by
  intro I L c ⟨A, hc, hX, hM, hA, hL⟩
  refine y_132 (d := 89) hX hA.1 (fun J h1 s1 => ⟨rfl, _, c, rfl, rfl, ?_⟩)
  exact m_235 (d := 91) (hM.same s1) hA.1 ⟨rfl, rfl, c, rfl, A, hc, h1, hM.same s1, hA, hL⟩
theorem o_133 (p0 p1 p2 : Int32) : opI G 133 237 [.int p0, .int p1, .int p2] := by
  intro I L c ⟨A, hc, hX, hM, hA, hL⟩
  refine y_133 (d := 89) hX hA.1 (fun J h1 s1 => ⟨rfl, _, c, rfl, rfl, ?_⟩)
  refine z_133 (d := 89) (hM.same s1) hA.1 (fun J2 h2 s2 => ⟨rfl, rfl, c, rfl, A, hc, ?_, h2, hA, hL⟩)
  exact h1.same s2 (nn_ml hA.1)
theorem o_134 (p0 : Int32) : opI G 134 238 [.int p0] := by
  intro I L c ⟨A, hc, hX, hM, hA, hL⟩
  refine y_134 (d := 89) hX hA.1 (fun J h1 s1 => ⟨rfl, _, c, rfl, rfl, ?_⟩)
  refine z_134 (d := 89) (hM.same s1) hA.1 (fun J2 h2 s2 => ⟨rfl, rfl, c, rfl, A, hc, ?_, h2, hA, hL⟩)
  exact h1.same s2 (nn_ml hA.1)
theorem o_135 (p0 p1 p2 : Int32) : opI G 135 239 [.int p0, .int p1, .int p2] := by
  intro I L c ⟨A, hc, hX, hM, hA, hL⟩
  refine y_135 (d := 95) hX hA.1 (fun J h1 s1 => ⟨rfl, _, c, rfl, rfl, ?_⟩)
  refine z_135 (d := 94) (hM.same s1) hA.1 (fun J2 h2 s2 => ⟨rfl, rfl, c, rfl, g135 A p0 p1 p2, hc, ?_, h2, v_135 hA p0 p1 p2, hL⟩)
  exact h1.same s2 (nn_ml (v_135 hA p0 p1 p2).1)
theorem o_136  : opI G 136 240 [] := by
  intro I L c ⟨A, hc, hX, hM, hA, hL⟩
  refine y_136 (d := 89) hX hA.1 (fun J h1 s1 => ⟨rfl, _, c, rfl, rfl, ?_⟩)
  refine z_136 (d := 91) (hM.same s1) hA.1 (fun J2 h2 s2 => ⟨rfl, rfl, c, rfl, A, hc, ?_, h2, hA, hL⟩)
  exact h1.same s2 (nn_ml hA.1)
theorem o_137 (p0 p1 : Int32) : opI G 137 241 [.int p0, .int p1] := by
  intro I L c ⟨A, hc, hX, hM, hA, hL⟩
  refine y_137 (d := 95) hX hA.1 (fun J h1 s1 => ⟨rfl, _, c, rfl, rfl, ?_⟩)
  refine z_137 (d := 95) (hM.same s1) hA.1 (fun J2 h2 s2 => ⟨rfl, rfl, c, rfl, g137 A p0 p1, hc, ?_, h2, v_137 hA p0 p1, hL⟩)
  exact h1.same s2 (nn_ml (v_137 hA p0 p1).1)
theorem o_138 (p0 p1 p2 : Int32) : opI G 138 244 [.int p0, .int p1, .int p2] := by
  intro I L c ⟨A, hc, hX, hM, hA, hL⟩
  refine y_138 (d := 89) hX hA.1 (fun J h1 s1 => ⟨rfl, _, c, rfl, rfl, ?_⟩)
  refine z_138 (d := 91) (hM.same s1) hA.1 (fun J2 h2 s2 => ⟨rfl, rfl, c, rfl, A, hc, ?_, h2, hA, hL⟩)
  exact h1.same s2 (nn_ml hA.1)
theorem o_139 (p0 p1 p2 p3 : Int32) : opI G 139 246 [.int p0, .int p1, .int p2, .int p3] := by
  intro I L c ⟨A, hc, hX, hM, hA, hL⟩
  refine y_139 (d := 88) hX hA.1 (fun J h1 s1 => ⟨rfl, _, c, rfl, rfl, ?_⟩)
  refine z_139 (d := 91) (hM.same s1) hA.1 (fun J2 h2 s2 => ⟨rfl, rfl, c, rfl, A, hc, ?_, h2, hA, hL⟩)
  exact h1.same s2 (nn_ml hA.1)
theorem o_140 (p0 : Int32) : opI G 140 247 [.int p0] := by
  intro I L c ⟨A, hc, hX, hM, hA, hL⟩
  refine y_140 (d := 95) hX hA.1 (fun J h1 s1 => ⟨rfl, _, c, rfl, rfl, ?_⟩)
  refine z_140 (d := 94) (hM.same s1) hA.1 (fun J2 h2 s2 => ⟨rfl, rfl, c, rfl, g140 A p0, hc, ?_, h2, v_140 hA p0, hL⟩)
  exact h1.same s2 (nn_ml (v_140 hA p0).1)
theorem o_141 (p0 p1 p2 : Int32) : opI G 141 250 [.int p0, .int p1, .int p2] := by
  intro I L c ⟨A, hc, hX, hM, hA, hL⟩
  refine y_141 (d := 92) hX hA.1 (fun L1 h1 => ⟨rfl, _, c, rfl, rfl, ?_⟩)
  refine z_141 (d := 94) hM hA.1 (fun L2 h2 => ⟨rfl, rfl, c, rfl, A, hc, hX, hM, hA, ?_⟩)
  rw [h2 79 (by decide), h2 140 (by decide), h1 79 (by decide), h1 140 (by decide)]
  exact hL
theorem o_142 (p0 p1 p2 : Int32) : opI G 142 254 [.int p0, .int p1, .int p2] := by
  intro I L c ⟨A, hc, hX, hM, hA, hL⟩
  refine y_142 (d := 91) hX hA.1 (fun J h1 s1 => ⟨rfl, _, c, rfl, rfl, ?_⟩)
  refine z_142 (d := 92) (hM.same s1) hA.1 (fun J2 h2 s2 => ⟨rfl, rfl, c, rfl, A, hc, ?_, h2, hA, hL⟩)
  exact h1.same s2 (nn_ml hA.1)
theorem o_143 (p0 : Int32) : opI G 143 252 [.int p0] := by
  intro I L c ⟨A, hc, hX, hM, hA, hL⟩
  refine y_143 (d := 93) hX hA.1 (fun J h1 s1 => ⟨rfl, _, c, rfl, rfl, ?_⟩)
  refine z_143 (d := 94) (hM.same s1) hA.1 (fun J2 h2 s2 => ⟨rfl, rfl, c, rfl, A, hc, ?_, h2, hA, hL⟩)
  exact h1.same s2 (nn_ml hA.1)
theorem o_144 (p0 p1 p2 : Int32) : opI G 144 255 [.int p0, .int p1, .int p2] := by
  intro I L c ⟨A, hc, hX, hM, hA, hL⟩
  refine y_144 (d := 95) hX hA.1 (fun J h1 s1 => ⟨rfl, _, c, rfl, rfl, ?_⟩)
  refine z_144 (d := 95) (hM.same s1) hA.1 (fun J2 h2 s2 => ⟨rfl, rfl, c, rfl, g144 A p0 p1 p2, hc, ?_, h2, v_144 hA p0 p1 p2, hL⟩)
  exact h1.same s2 (nn_ml (v_144 hA p0 p1 p2).1)
theorem o_145 (p0 p1 : Int32) : opI G 145 256 [.int p0, .int p1] := by
  intro I L c ⟨A, hc, hX, hM, hA, hL⟩
  refine y_145 (d := 95) hX hA.1 (fun J h1 s1 => ⟨rfl, _, c, rfl, rfl, ?_⟩)
  refine z_145 (d := 95) (hM.same s1) hA.1 (fun J2 h2 s2 => ⟨rfl, rfl, c, rfl, g145 A p0 p1, hc, ?_, h2, v_145 hA p0 p1, hL⟩)
  exact h1.same s2 (nn_ml (v_145 hA p0 p1).1)
theorem o_146 (p0 : Int32) : opI G 146 257 [.int p0] := by
  intro I L c ⟨A, hc, hX, hM, hA, hL⟩
  refine y_146 (d := 95) hX hA.1 (fun J h1 s1 => ⟨rfl, _, c, rfl, rfl, ?_⟩)
  refine z_146 (d := 95) (hM.same s1) hA.1 (fun J2 h2 s2 => ⟨rfl, rfl, c, rfl, A, hc, ?_, h2, hA, hL⟩)
  exact h1.same s2 (nn_ml hA.1)
theorem o_147 (p0 : Int32) : opI G 147 258 [.int p0] := by
  intro I L c ⟨A, hc, hX, hM, hA, hL⟩
  refine y_147 (d := 95) hX hA.1 (fun J h1 s1 => ⟨rfl, _, c, rfl, rfl, ?_⟩)
  refine z_147 (d := 95) (hM.same s1) hA.1 (fun J2 h2 s2 => ⟨rfl, rfl, c, rfl, A, hc, ?_, h2, hA, hL⟩)
  exact h1.same s2 (nn_ml hA.1)
theorem o_148 (p0 p1 p2 : Int32) : opI G 148 259 [.int p0, .int p1, .int p2] := by
  intro I L c ⟨A, hc, hX, hM, hA, hL⟩
  refine y_148 (d := 95) ⟨rfl, _, c, rfl, rfl, ?_⟩
  have e : (fun k => if (140 : Nat) = 79 then g148 (L 79) p0 p1 p2 k else L 140 k) = L 79 := by
    funext k
    rw [hL]
    exact if_neg (by decide)
  refine z_148 (d := 95) ⟨rfl, by rw [e], c, rfl, A, hc, hX, hM, hA, ?_⟩
  simp only [e]
  funext k
  rw [if_neg (by decide), if_pos trivial, if_pos trivial]
theorem o_149 (p0 : Int32) : opL G 149 260 [.int p0] := by
  intro I L c ⟨A, hc, hX, hM, hA, hL⟩
  refine y_149 (d := 96) ⟨rfl, _, c, rfl, rfl, ?_⟩
  refine z_149 (d := 95) ⟨rfl, by rw [hL], c, rfl, A, hc, hX, hM, hA, hL⟩
theorem o_150 (p0 : Int32) : opI G 150 261 [.int p0] := by
  intro I L c ⟨A, hc, hX, hM, hA, hL⟩
  refine y_150 (d := 96) hX hA.1 (fun J h1 s1 => ⟨rfl, _, c, rfl, rfl, ?_⟩)
  refine z_150 (d := 96) (hM.same s1) hA.1 (fun J2 h2 s2 => ⟨rfl, rfl, c, rfl, A, hc, ?_, h2, hA, hL⟩)
  exact h1.same s2 (nn_ml hA.1)
theorem o_151 (p0 p1 p2 : Int32) : opI G 151 263 [.int p0, .int p1, .int p2] := by
  intro I L c ⟨A, hc, hX, hM, hA, hL⟩
  refine y_151 (d := 94) hX hA.1 (fun J h1 s1 => ⟨rfl, _, c, rfl, rfl, ?_⟩)
  refine z_151 (d := 94) (hM.same s1) hA.1 (fun J2 h2 s2 => ⟨rfl, rfl, c, rfl, g151 A p0 p1 p2, hc, ?_, h2, v_151 hA p0 p1 p2, hL⟩)
  exact h1.same s2 (nn_ml (v_151 hA p0 p1 p2).1)
theorem o_152 (p0 p1 p2 : Int32) : opI G 152 264 [.int p0, .int p1, .int p2] := by
  intro I L c ⟨A, hc, hX, hM, hA, hL⟩
  refine y_152 (d := 94) hX hA.1 (fun J h1 s1 => ⟨rfl, _, c, rfl, rfl, ?_⟩)
  refine z_152 (d := 94) (hM.same s1) hA.1 (fun J2 h2 s2 => ⟨rfl, rfl, c, rfl, g152 A p0 p1 p2, hc, ?_, h2, v_152 hA p0 p1 p2, hL⟩)
  exact h1.same s2 (nn_ml (v_152 hA p0 p1 p2).1)
theorem o_153 (p0 p1 p2 p3 p4 : Int32) : opI G 153 265 [.int p0, .int p1, .int p2, .int p3, .int p4] := by
  intro I L c ⟨A, hc, hX, hM, hA, hL⟩
  refine y_153 (d := 94) hX hA.1 (fun J h1 s1 => ⟨rfl, _, c, rfl, rfl, ?_⟩)
  refine z_153 (d := 94) (hM.same s1) hA.1 (fun J2 h2 s2 => ⟨rfl, rfl, c, rfl, g153 A p0 p1 p2 p3 p4, hc, ?_, h2, v_153 hA p0 p1 p2 p3 p4, hL⟩)
  exact h1.same s2 (nn_ml (v_153 hA p0 p1 p2 p3 p4).1)
theorem o_154 (p0 p1 p2 p3 p4 : Int32) : opI G 154 266 [.int p0, .int p1, .int p2, .int p3, .int p4] := by
  intro I L c ⟨A, hc, hX, hM, hA, hL⟩
  refine y_154 (d := 94) hX hA.1 (fun J h1 s1 => ⟨rfl, _, c, rfl, rfl, ?_⟩)
  refine z_154 (d := 94) (hM.same s1) hA.1 (fun J2 h2 s2 => ⟨rfl, rfl, c, rfl, g154 A p0 p1 p2 p3 p4, hc, ?_, h2, v_154 hA p0 p1 p2 p3 p4, hL⟩)
  exact h1.same s2 (nn_ml (v_154 hA p0 p1 p2 p3 p4).1)
theorem o_155 (p0 p1 : Int32) : opI G 155 267 [.int p0, .int p1] := by
  intro I L c ⟨A, hc, hX, hM, hA, hL⟩
  refine y_155 (d := 93) hX hA.1 (fun J h1 s1 => ⟨rfl, _, c, rfl, rfl, ?_⟩)
  refine z_155 (d := 93) (hM.same s1) hA.1 (fun J2 h2 s2 => ⟨rfl, rfl, c, rfl, A, hc, ?_, h2, hA, hL⟩)
  exact h1.same s2 (nn_ml hA.1)
end OPS
