theorem en_iv {N : Nat} {ad : Nat → Nat} {lo hi : Int} {x : Int32} (h1 : lo ≤ x.toInt) (h2 : x.toInt ≤ hi) : en_v N ad (.inl (lo, hi)) (.int x) := ⟨x, rfl, h1, h2⟩
theorem pr_register (l : Launch) (x1 x2 : Int32) : ∃ (κa κb : en_K) (box : List en_V), lw_ck tW_39 0 84 13 17 2 κa κb box = true ∧ en_ok l κa ∧ en_ok l κb ∧ ∀ (N : Nat) (ad : Nat → Nat), en_vs N ad box [.int x1, .int x2] := by
  have r1 := fb_rng x1
  have r2 := fb_rng x2
  by_cases h0 : x1.toInt ≤ (-1)
  · exact ⟨kk_20, kk_22, [.inl ((-2147483648), (-1)), .inl ((-2147483648), 2147483647)], by decide +kernel, ok_20 l, ok_22 l, fun N ad => ⟨en_iv (by omega) (by omega), en_iv (by omega) (by omega), trivial⟩⟩
  by_cases h1 : 0 ≤ x1.toInt ∧ x1.toInt ≤ 7
  · exact ⟨kk_23, kk_25, [.inl (0, 7), .inl ((-2147483648), 2147483647)], by decide +kernel, ok_23 l, ok_25 l, fun N ad => ⟨en_iv (by omega) (by omega), en_iv (by omega) (by omega), trivial⟩⟩
  by_cases h2 : 8 ≤ x1.toInt
  · exact ⟨kk_26, kk_28, [.inl (8, 2147483647), .inl ((-2147483648), 2147483647)], by decide +kernel, ok_26 l, ok_28 l, fun N ad => ⟨en_iv (by omega) (by omega), en_iv (by omega) (by omega), trivial⟩⟩
  omega
theorem pr_poke (l : Launch) (x1 x2 : Int32) : ∃ (κa κb : en_K) (box : List en_V), lw_ck tW_39 0 84 18 21 2 κa κb box = true ∧ en_ok l κa ∧ en_ok l κb ∧ ∀ (N : Nat) (ad : Nat → Nat), en_vs N ad box [.int x1, .int x2] := by
  have r1 := fb_rng x1
  have r2 := fb_rng x2
  by_cases h0 : x1.toInt ≤ (-1)
  · exact ⟨kk_29, kk_31, [.inl ((-2147483648), (-1)), .inl ((-2147483648), 2147483647)], by decide +kernel, ok_29 l, ok_31 l, fun N ad => ⟨en_iv (by omega) (by omega), en_iv (by omega) (by omega), trivial⟩⟩
  by_cases h1 : 64 ≤ x1.toInt
  · exact ⟨kk_32, kk_34, [.inl (64, 2147483647), .inl ((-2147483648), 2147483647)], by decide +kernel, ok_32 l, ok_34 l, fun N ad => ⟨en_iv (by omega) (by omega), en_iv (by omega) (by omega), trivial⟩⟩
  by_cases h2 : 0 ≤ x1.toInt ∧ x1.toInt ≤ 63 ∧ x2.toInt ≤ (-1)
  · exact ⟨kk_35, kk_38, [.inl (0, 63), .inl ((-2147483648), (-1))], by decide +kernel, ok_35 l, ok_38 l, fun N ad => ⟨en_iv (by omega) (by omega), en_iv (by omega) (by omega), trivial⟩⟩
  by_cases h3 : 0 ≤ x1.toInt ∧ x1.toInt ≤ 63 ∧ 0 ≤ x2.toInt ∧ x2.toInt ≤ 255
  · exact ⟨kk_39, kk_41, [.inl (0, 63), .inl (0, 255)], by decide +kernel, ok_39 l, ok_41 l, fun N ad => ⟨en_iv (by omega) (by omega), en_iv (by omega) (by omega), trivial⟩⟩
  by_cases h4 : 0 ≤ x1.toInt ∧ x1.toInt ≤ 63 ∧ 256 ≤ x2.toInt
  · exact ⟨kk_42, kk_44, [.inl (0, 63), .inl (256, 2147483647)], by decide +kernel, ok_42 l, ok_44 l, fun N ad => ⟨en_iv (by omega) (by omega), en_iv (by omega) (by omega), trivial⟩⟩
  omega
theorem pr_feed (l : Launch) (x1 x2 x3 x4 x5 : Int32) : ∃ (κa κb : en_K) (box : List en_V), lw_ck tW_39 0 84 22 26 5 κa κb box = true ∧ en_ok l κa ∧ en_ok l κb ∧ ∀ (N : Nat) (ad : Nat → Nat), en_vs N ad box [.int x1, .int x2, .int x3, .int x4, .int x5] := by
  have r1 := fb_rng x1
  have r2 := fb_rng x2
  have r3 := fb_rng x3
  have r4 := fb_rng x4
  have r5 := fb_rng x5
  exact ⟨kk_50, kk_56, [.inl ((-2147483648), 2147483647), .inl ((-2147483648), 2147483647), .inl ((-2147483648), 2147483647), .inl ((-2147483648), 2147483647), .inl ((-2147483648), 2147483647)], by decide +kernel, ok_50 l, ok_56 l, fun N ad => ⟨en_iv (by omega) (by omega), en_iv (by omega) (by omega), en_iv (by omega) (by omega), en_iv (by omega) (by omega), en_iv (by omega) (by omega), trivial⟩⟩
theorem pr_law (l : Launch) (x1 : Int32) : ∃ (κa κb : en_K) (box : List en_V), lw_ck tW_39 0 84 27 31 1 κa κb box = true ∧ en_ok l κa ∧ en_ok l κb ∧ ∀ (N : Nat) (ad : Nat → Nat), en_vs N ad box [.int x1] := by
  have r1 := fb_rng x1
  by_cases h0 : x1.toInt ≤ 0
  · exact ⟨kk_57, kk_59, [.inl ((-2147483648), 0)], by decide +kernel, ok_57 l, ok_59 l, fun N ad => ⟨en_iv (by omega) (by omega), trivial⟩⟩
  by_cases h1 : 1 ≤ x1.toInt ∧ x1.toInt ≤ 240
  · exact ⟨kk_60, kk_62, [.inl (1, 240)], by decide +kernel, ok_60 l, ok_62 l, fun N ad => ⟨en_iv (by omega) (by omega), trivial⟩⟩
  by_cases h2 : 241 ≤ x1.toInt
  · exact ⟨kk_63, kk_65, [.inl (241, 2147483647)], by decide +kernel, ok_63 l, ok_65 l, fun N ad => ⟨en_iv (by omega) (by omega), trivial⟩⟩
  omega
theorem pr_program (l : Launch) (x1 : Int32) : ∃ (κa κb : en_K) (box : List en_V), lw_ck tW_39 0 84 32 35 1 κa κb box = true ∧ en_ok l κa ∧ en_ok l κb ∧ ∀ (N : Nat) (ad : Nat → Nat), en_vs N ad box [.int x1] := by
  have r1 := fb_rng x1
  by_cases h0 : x1.toInt ≤ 0
  · exact ⟨kk_66, kk_67, [.inl ((-2147483648), 0)], by decide +kernel, ok_66 l, ok_67 l, fun N ad => ⟨en_iv (by omega) (by omega), trivial⟩⟩
  by_cases h1 : 1 ≤ x1.toInt ∧ x1.toInt ≤ 240
  · exact ⟨kk_68, kk_69, [.inl (1, 240)], by decide +kernel, ok_68 l, ok_69 l, fun N ad => ⟨en_iv (by omega) (by omega), trivial⟩⟩
  by_cases h2 : 241 ≤ x1.toInt
  · exact ⟨kk_70, kk_71, [.inl (241, 2147483647)], by decide +kernel, ok_70 l, ok_71 l, fun N ad => ⟨en_iv (by omega) (by omega), trivial⟩⟩
  omega
theorem pr_run (l : Launch) (x1 : Int32) : ∃ (κa κb : en_K) (box : List en_V), lw_ck tW_39 0 84 36 39 1 κa κb box = true ∧ en_ok l κa ∧ en_ok l κb ∧ ∀ (N : Nat) (ad : Nat → Nat), en_vs N ad box [.int x1] := by
  have r1 := fb_rng x1
  by_cases h0 : x1.toInt ≤ 0
  · exact ⟨kk_73, kk_76, [.inl ((-2147483648), 0)], by decide +kernel, ok_73 l, ok_76 l, fun N ad => ⟨en_iv (by omega) (by omega), trivial⟩⟩
  by_cases h1 : 1 ≤ x1.toInt ∧ x1.toInt ≤ 4
  · exact ⟨kk_78, kk_81, [.inl (1, 4)], by decide +kernel, ok_78 l, ok_81 l, fun N ad => ⟨en_iv (by omega) (by omega), trivial⟩⟩
  by_cases h2 : 5 ≤ x1.toInt
  · exact ⟨kk_83, kk_86, [.inl (5, 2147483647)], by decide +kernel, ok_83 l, ok_86 l, fun N ad => ⟨en_iv (by omega) (by omega), trivial⟩⟩
  omega
theorem pr_tried (l : Launch) (x1 x2 : Int32) : ∃ (κa κb : en_K) (box : List en_V), lw_ck tW_39 0 84 40 44 2 κa κb box = true ∧ en_ok l κa ∧ en_ok l κb ∧ ∀ (N : Nat) (ad : Nat → Nat), en_vs N ad box [.int x1, .int x2] := by
  have r1 := fb_rng x1
  have r2 := fb_rng x2
  by_cases h0 : x1.toInt ≤ 0
  · exact ⟨kk_87, kk_91, [.inl ((-2147483648), 0), .inl ((-2147483648), 2147483647)], by decide +kernel, ok_87 l, ok_91 l, fun N ad => ⟨en_iv (by omega) (by omega), en_iv (by omega) (by omega), trivial⟩⟩
  by_cases h1 : 1 ≤ x1.toInt ∧ x1.toInt ≤ 4
  · exact ⟨kk_92, kk_93, [.inl (1, 4), .inl ((-2147483648), 2147483647)], by decide +kernel, ok_92 l, ok_93 l, fun N ad => ⟨en_iv (by omega) (by omega), en_iv (by omega) (by omega), trivial⟩⟩
  by_cases h2 : 5 ≤ x1.toInt
  · exact ⟨kk_94, kk_95, [.inl (5, 2147483647), .inl ((-2147483648), 2147483647)], by decide +kernel, ok_94 l, ok_95 l, fun N ad => ⟨en_iv (by omega) (by omega), en_iv (by omega) (by omega), trivial⟩⟩
  omega
theorem pr_lastRun (l : Launch) (x1 : Int32) : ∃ (κa κb : en_K) (box : List en_V), lw_ck tW_39 0 84 45 48 1 κa κb box = true ∧ en_ok l κa ∧ en_ok l κb ∧ ∀ (N : Nat) (ad : Nat → Nat), en_vs N ad box [.int x1] := by
  have r1 := fb_rng x1
  by_cases h0 : x1.toInt ≤ (-1)
  · exact ⟨kk_97, kk_99, [.inl ((-2147483648), (-1))], by decide +kernel, ok_97 l, ok_99 l, fun N ad => ⟨en_iv (by omega) (by omega), trivial⟩⟩
  by_cases h1 : 0 ≤ x1.toInt ∧ x1.toInt ≤ 5
  · exact ⟨kk_101, kk_103, [.inl (0, 5)], by decide +kernel, ok_101 l, ok_103 l, fun N ad => ⟨en_iv (by omega) (by omega), trivial⟩⟩
  by_cases h2 : 6 ≤ x1.toInt
  · exact ⟨kk_105, kk_107, [.inl (6, 2147483647)], by decide +kernel, ok_105 l, ok_107 l, fun N ad => ⟨en_iv (by omega) (by omega), trivial⟩⟩
  omega
theorem pr_opIs (l : Launch) (x1 x2 : Int32) : ∃ (κa κb : en_K) (box : List en_V), lw_ck tW_39 0 84 49 52 2 κa κb box = true ∧ en_ok l κa ∧ en_ok l κb ∧ ∀ (N : Nat) (ad : Nat → Nat), en_vs N ad box [.int x1, .int x2] := by
  have r1 := fb_rng x1
  have r2 := fb_rng x2
  by_cases h0 : x1.toInt ≤ (-1)
  · exact ⟨kk_109, kk_112, [.inl ((-2147483648), (-1)), .inl ((-2147483648), 2147483647)], by decide +kernel, ok_109 l, ok_112 l, fun N ad => ⟨en_iv (by omega) (by omega), en_iv (by omega) (by omega), trivial⟩⟩
  by_cases h1 : 0 ≤ x1.toInt
  · exact ⟨kk_114, kk_117, [.inl (0, 2147483647), .inl ((-2147483648), 2147483647)], by decide +kernel, ok_114 l, ok_117 l, fun N ad => ⟨en_iv (by omega) (by omega), en_iv (by omega) (by omega), trivial⟩⟩
  omega
theorem pr_source (l : Launch) (x1 x2 : Int32) : ∃ (κa κb : en_K) (box : List en_V), lw_ck tW_39 0 84 53 56 2 κa κb box = true ∧ en_ok l κa ∧ en_ok l κb ∧ ∀ (N : Nat) (ad : Nat → Nat), en_vs N ad box [.int x1, .int x2] := by
  have r1 := fb_rng x1
  have r2 := fb_rng x2
  by_cases h0 : x1.toInt ≤ (-1)
  · exact ⟨kk_118, kk_119, [.inl ((-2147483648), (-1)), .inl ((-2147483648), 2147483647)], by decide +kernel, ok_118 l, ok_119 l, fun N ad => ⟨en_iv (by omega) (by omega), en_iv (by omega) (by omega), trivial⟩⟩
  by_cases h1 : 0 ≤ x1.toInt
  · exact ⟨kk_120, kk_121, [.inl (0, 2147483647), .inl ((-2147483648), 2147483647)], by decide +kernel, ok_120 l, ok_121 l, fun N ad => ⟨en_iv (by omega) (by omega), en_iv (by omega) (by omega), trivial⟩⟩
  omega
theorem pr_now (l : Launch) (x1 : Int32) : ∃ (κa κb : en_K) (box : List en_V), lw_ck tW_39 0 84 57 60 1 κa κb box = true ∧ en_ok l κa ∧ en_ok l κb ∧ ∀ (N : Nat) (ad : Nat → Nat), en_vs N ad box [.int x1] := by
  have r1 := fb_rng x1
  by_cases h0 : x1.toInt ≤ (-1)
  · exact ⟨kk_124, kk_126, [.inl ((-2147483648), (-1))], by decide +kernel, ok_124 l, ok_126 l, fun N ad => ⟨en_iv (by omega) (by omega), trivial⟩⟩
  by_cases h1 : 0 ≤ x1.toInt ∧ x1.toInt ≤ 7
  · exact ⟨kk_128, kk_129, [.inl (0, 7)], by decide +kernel, ok_128 l, ok_129 l, fun N ad => ⟨en_iv (by omega) (by omega), trivial⟩⟩
  by_cases h2 : 8 ≤ x1.toInt ∧ x1.toInt ≤ 99
  · exact ⟨kk_132, kk_135, [.inl (8, 99)], by decide +kernel, ok_132 l, ok_135 l, fun N ad => ⟨en_iv (by omega) (by omega), trivial⟩⟩
  by_cases h3 : 100 ≤ x1.toInt ∧ x1.toInt ≤ 163
  · exact ⟨kk_138, kk_141, [.inl (100, 163)], by decide +kernel, ok_138 l, ok_141 l, fun N ad => ⟨en_iv (by omega) (by omega), trivial⟩⟩
  by_cases h4 : 164 ≤ x1.toInt
  · exact ⟨kk_144, kk_147, [.inl (164, 2147483647)], by decide +kernel, ok_144 l, ok_147 l, fun N ad => ⟨en_iv (by omega) (by omega), trivial⟩⟩
  omega
theorem pr_plain (l : Launch) (x1 : Int32) : ∃ (κa κb : en_K) (box : List en_V), lw_ck tW_39 0 84 61 64 1 κa κb box = true ∧ en_ok l κa ∧ en_ok l κb ∧ ∀ (N : Nat) (ad : Nat → Nat), en_vs N ad box [.int x1] := by
  have r1 := fb_rng x1
  by_cases h0 : x1.toInt ≤ (-1)
  · exact ⟨kk_148, kk_150, [.inl ((-2147483648), (-1))], by decide +kernel, ok_148 l, ok_150 l, fun N ad => ⟨en_iv (by omega) (by omega), trivial⟩⟩
  by_cases h1 : 0 ≤ x1.toInt ∧ x1.toInt ≤ 7
  · exact ⟨kk_155, kk_156, [.inl (0, 7)], by decide +kernel, ok_155 l, ok_156 l, fun N ad => ⟨en_iv (by omega) (by omega), trivial⟩⟩
  by_cases h2 : 8 ≤ x1.toInt ∧ x1.toInt ≤ 99
  · exact ⟨kk_157, kk_158, [.inl (8, 99)], by decide +kernel, ok_157 l, ok_158 l, fun N ad => ⟨en_iv (by omega) (by omega), trivial⟩⟩
  by_cases h3 : 100 ≤ x1.toInt ∧ x1.toInt ≤ 163
  · exact ⟨kk_159, kk_160, [.inl (100, 163)], by decide +kernel, ok_159 l, ok_160 l, fun N ad => ⟨en_iv (by omega) (by omega), trivial⟩⟩
  by_cases h4 : 164 ≤ x1.toInt
  · exact ⟨kk_161, kk_162, [.inl (164, 2147483647)], by decide +kernel, ok_161 l, ok_162 l, fun N ad => ⟨en_iv (by omega) (by omega), trivial⟩⟩
  omega
theorem pr_unlike (l : Launch) (x1 : Int32) : ∃ (κa κb : en_K) (box : List en_V), lw_ck tW_39 0 84 65 68 1 κa κb box = true ∧ en_ok l κa ∧ en_ok l κb ∧ ∀ (N : Nat) (ad : Nat → Nat), en_vs N ad box [.int x1] := by
  have r1 := fb_rng x1
  by_cases h0 : x1.toInt ≤ 0
  · exact ⟨kk_163, kk_164, [.inl ((-2147483648), 0)], by decide +kernel, ok_163 l, ok_164 l, fun N ad => ⟨en_iv (by omega) (by omega), trivial⟩⟩
  by_cases h1 : 1 ≤ x1.toInt ∧ x1.toInt ≤ 4
  · exact ⟨kk_165, kk_166, [.inl (1, 4)], by decide +kernel, ok_165 l, ok_166 l, fun N ad => ⟨en_iv (by omega) (by omega), trivial⟩⟩
  by_cases h2 : 5 ≤ x1.toInt
  · exact ⟨kk_167, kk_168, [.inl (5, 2147483647)], by decide +kernel, ok_167 l, ok_168 l, fun N ad => ⟨en_iv (by omega) (by omega), trivial⟩⟩
  omega
theorem pr_fastest (l : Launch) (x1 : Int32) : ∃ (κa κb : en_K) (box : List en_V), lw_ck tW_39 0 84 69 72 1 κa κb box = true ∧ en_ok l κa ∧ en_ok l κb ∧ ∀ (N : Nat) (ad : Nat → Nat), en_vs N ad box [.int x1] := by
  have r1 := fb_rng x1
  by_cases h0 : x1.toInt ≤ (-1)
  · exact ⟨kk_169, kk_171, [.inl ((-2147483648), (-1))], by decide +kernel, ok_169 l, ok_171 l, fun N ad => ⟨en_iv (by omega) (by omega), trivial⟩⟩
  by_cases h1 : 0 ≤ x1.toInt ∧ x1.toInt ≤ 1
  · exact ⟨kk_172, kk_174, [.inl (0, 1)], by decide +kernel, ok_172 l, ok_174 l, fun N ad => ⟨en_iv (by omega) (by omega), trivial⟩⟩
  by_cases h2 : 2 ≤ x1.toInt
  · exact ⟨kk_175, kk_177, [.inl (2, 2147483647)], by decide +kernel, ok_175 l, ok_177 l, fun N ad => ⟨en_iv (by omega) (by omega), trivial⟩⟩
  omega
theorem pr_cautious (l : Launch) (x1 x2 : Int32) : ∃ (κa κb : en_K) (box : List en_V), lw_ck tW_39 0 84 73 76 2 κa κb box = true ∧ en_ok l κa ∧ en_ok l κb ∧ ∀ (N : Nat) (ad : Nat → Nat), en_vs N ad box [.int x1, .int x2] := by
  have r1 := fb_rng x1
  have r2 := fb_rng x2
  by_cases h0 : x1.toInt ≤ 0
  · exact ⟨kk_178, kk_179, [.inl ((-2147483648), 0), .inl ((-2147483648), 2147483647)], by decide +kernel, ok_178 l, ok_179 l, fun N ad => ⟨en_iv (by omega) (by omega), en_iv (by omega) (by omega), trivial⟩⟩
  by_cases h1 : 1 ≤ x1.toInt ∧ x1.toInt ≤ 4
  · exact ⟨kk_180, kk_181, [.inl (1, 4), .inl ((-2147483648), 2147483647)], by decide +kernel, ok_180 l, ok_181 l, fun N ad => ⟨en_iv (by omega) (by omega), en_iv (by omega) (by omega), trivial⟩⟩
  by_cases h2 : 5 ≤ x1.toInt
  · exact ⟨kk_182, kk_183, [.inl (5, 2147483647), .inl ((-2147483648), 2147483647)], by decide +kernel, ok_182 l, ok_183 l, fun N ad => ⟨en_iv (by omega) (by omega), en_iv (by omega) (by omega), trivial⟩⟩
  omega
theorem pr_worst (l : Launch) (x1 : Int32) : ∃ (κa κb : en_K) (box : List en_V), lw_ck tW_39 0 84 77 80 1 κa κb box = true ∧ en_ok l κa ∧ en_ok l κb ∧ ∀ (N : Nat) (ad : Nat → Nat), en_vs N ad box [.int x1] := by
  have r1 := fb_rng x1
  by_cases h0 : x1.toInt ≤ (-1)
  · exact ⟨kk_184, kk_185, [.inl ((-2147483648), (-1))], by decide +kernel, ok_184 l, ok_185 l, fun N ad => ⟨en_iv (by omega) (by omega), trivial⟩⟩
  by_cases h1 : 0 ≤ x1.toInt ∧ x1.toInt ≤ 1
  · exact ⟨kk_186, kk_187, [.inl (0, 1)], by decide +kernel, ok_186 l, ok_187 l, fun N ad => ⟨en_iv (by omega) (by omega), trivial⟩⟩
  by_cases h2 : 2 ≤ x1.toInt
  · exact ⟨kk_188, kk_189, [.inl (2, 2147483647)], by decide +kernel, ok_188 l, ok_189 l, fun N ad => ⟨en_iv (by omega) (by omega), trivial⟩⟩
  omega
theorem pr_deep (l : Launch) : ∃ (κa κb : en_K) (box : List en_V), lw_ck tW_39 0 84 81 85 0 κa κb box = true ∧ en_ok l κa ∧ en_ok l κb ∧ ∀ (N : Nat) (ad : Nat → Nat), en_vs N ad box [] := by
  exact ⟨kk_190, kk_191, [], by decide +kernel, ok_190 l, ok_191 l, fun N ad => trivial⟩
theorem pr_mix (l : Launch) : ∃ (κa κb : en_K) (box : List en_V), lw_ck tW_39 0 84 86 89 0 κa κb box = true ∧ en_ok l κa ∧ en_ok l κb ∧ ∀ (N : Nat) (ad : Nat → Nat), en_vs N ad box [] := by
  exact ⟨kk_193, kk_194, [], by decide +kernel, ok_193 l, ok_194 l, fun N ad => trivial⟩
theorem pr_watch (l : Launch) (x1 x2 : Int32) : ∃ (κa κb : en_K) (box : List en_V), lw_ck tW_39 0 84 90 93 2 κa κb box = true ∧ en_ok l κa ∧ en_ok l κb ∧ ∀ (N : Nat) (ad : Nat → Nat), en_vs N ad box [.int x1, .int x2] := by
  have r1 := fb_rng x1
  have r2 := fb_rng x2
  by_cases h0 : x1.toInt ≤ (-1)
  · exact ⟨kk_195, kk_196, [.inl ((-2147483648), (-1)), .inl ((-2147483648), 2147483647)], by decide +kernel, ok_195 l, ok_196 l, fun N ad => ⟨en_iv (by omega) (by omega), en_iv (by omega) (by omega), trivial⟩⟩
  by_cases h1 : 2 ≤ x1.toInt
  · exact ⟨kk_197, kk_198, [.inl (2, 2147483647), .inl ((-2147483648), 2147483647)], by decide +kernel, ok_197 l, ok_198 l, fun N ad => ⟨en_iv (by omega) (by omega), en_iv (by omega) (by omega), trivial⟩⟩
  by_cases h2 : 0 ≤ x1.toInt ∧ x1.toInt ≤ 1 ∧ x2.toInt ≤ (-1)
  · exact ⟨kk_199, kk_200, [.inl (0, 1), .inl ((-2147483648), (-1))], by decide +kernel, ok_199 l, ok_200 l, fun N ad => ⟨en_iv (by omega) (by omega), en_iv (by omega) (by omega), trivial⟩⟩
  by_cases h3 : 0 ≤ x1.toInt ∧ x1.toInt ≤ 1 ∧ 0 ≤ x2.toInt
  · exact ⟨kk_201, kk_202, [.inl (0, 1), .inl (0, 2147483647)], by decide +kernel, ok_201 l, ok_202 l, fun N ad => ⟨en_iv (by omega) (by omega), en_iv (by omega) (by omega), trivial⟩⟩
  omega
theorem pr_watched (l : Launch) (x1 x2 x3 : Int32) : ∃ (κa κb : en_K) (box : List en_V), lw_ck tW_39 0 84 94 98 3 κa κb box = true ∧ en_ok l κa ∧ en_ok l κb ∧ ∀ (N : Nat) (ad : Nat → Nat), en_vs N ad box [.int x1, .int x2, .int x3] := by
  have r1 := fb_rng x1
  have r2 := fb_rng x2
  have r3 := fb_rng x3
  by_cases h0 : x1.toInt ≤ (-1)
  · exact ⟨kk_203, kk_204, [.inl ((-2147483648), (-1)), .inl ((-2147483648), 2147483647), .inl ((-2147483648), 2147483647)], by decide +kernel, ok_203 l, ok_204 l, fun N ad => ⟨en_iv (by omega) (by omega), en_iv (by omega) (by omega), en_iv (by omega) (by omega), trivial⟩⟩
  by_cases h1 : 2 ≤ x1.toInt
  · exact ⟨kk_205, kk_206, [.inl (2, 2147483647), .inl ((-2147483648), 2147483647), .inl ((-2147483648), 2147483647)], by decide +kernel, ok_205 l, ok_206 l, fun N ad => ⟨en_iv (by omega) (by omega), en_iv (by omega) (by omega), en_iv (by omega) (by omega), trivial⟩⟩
  by_cases h2 : 0 ≤ x1.toInt ∧ x1.toInt ≤ 1 ∧ x2.toInt ≤ (-1)
  · exact ⟨kk_207, kk_208, [.inl (0, 1), .inl ((-2147483648), (-1)), .inl ((-2147483648), 2147483647)], by decide +kernel, ok_207 l, ok_208 l, fun N ad => ⟨en_iv (by omega) (by omega), en_iv (by omega) (by omega), en_iv (by omega) (by omega), trivial⟩⟩
  by_cases h3 : 0 ≤ x1.toInt ∧ x1.toInt ≤ 1 ∧ 0 ≤ x2.toInt ∧ x3.toInt ≤ (-1)
  · exact ⟨kk_209, kk_211, [.inl (0, 1), .inl (0, 2147483647), .inl ((-2147483648), (-1))], by decide +kernel, ok_209 l, ok_211 l, fun N ad => ⟨en_iv (by omega) (by omega), en_iv (by omega) (by omega), en_iv (by omega) (by omega), trivial⟩⟩
  by_cases h4 : 0 ≤ x1.toInt ∧ x1.toInt ≤ 1 ∧ 0 ≤ x2.toInt ∧ 0 ≤ x3.toInt ∧ x3.toInt ≤ 6
  · exact ⟨kk_212, kk_214, [.inl (0, 1), .inl (0, 2147483647), .inl (0, 6)], by decide +kernel, ok_212 l, ok_214 l, fun N ad => ⟨en_iv (by omega) (by omega), en_iv (by omega) (by omega), en_iv (by omega) (by omega), trivial⟩⟩
  by_cases h5 : 0 ≤ x1.toInt ∧ x1.toInt ≤ 1 ∧ 0 ≤ x2.toInt ∧ 7 ≤ x3.toInt
  · exact ⟨kk_215, kk_217, [.inl (0, 1), .inl (0, 2147483647), .inl (7, 2147483647)], by decide +kernel, ok_215 l, ok_217 l, fun N ad => ⟨en_iv (by omega) (by omega), en_iv (by omega) (by omega), en_iv (by omega) (by omega), trivial⟩⟩
  omega
theorem pr_forget (l : Launch) : ∃ (κa κb : en_K) (box : List en_V), lw_ck tW_39 0 84 99 102 0 κa κb box = true ∧ en_ok l κa ∧ en_ok l κb ∧ ∀ (N : Nat) (ad : Nat → Nat), en_vs N ad box [] := by
  exact ⟨kk_221, kk_223, [], by decide +kernel, ok_221 l, ok_223 l, fun N ad => trivial⟩
theorem pr_seed (l : Launch) (x1 : Int32) : ∃ (κa κb : en_K) (box : List en_V), lw_ck tW_39 0 84 103 107 1 κa κb box = true ∧ en_ok l κa ∧ en_ok l κb ∧ ∀ (N : Nat) (ad : Nat → Nat), en_vs N ad box [.int x1] := by
  have r1 := fb_rng x1
  by_cases h0 : x1.toInt ≤ (-1)
  · exact ⟨kk_224, kk_226, [.inl ((-2147483648), (-1))], by decide +kernel, ok_224 l, ok_226 l, fun N ad => ⟨en_iv (by omega) (by omega), trivial⟩⟩
  by_cases h1 : 0 ≤ x1.toInt ∧ x1.toInt ≤ 65535
  · exact ⟨kk_227, kk_229, [.inl (0, 65535)], by decide +kernel, ok_227 l, ok_229 l, fun N ad => ⟨en_iv (by omega) (by omega), trivial⟩⟩
  by_cases h2 : 65536 ≤ x1.toInt
  · exact ⟨kk_230, kk_232, [.inl (65536, 2147483647)], by decide +kernel, ok_230 l, ok_232 l, fun N ad => ⟨en_iv (by omega) (by omega), trivial⟩⟩
  omega
theorem pr_keep (l : Launch) : ∃ (κa κb : en_K) (box : List en_V), lw_ck tW_39 0 84 108 111 0 κa κb box = true ∧ en_ok l κa ∧ en_ok l κb ∧ ∀ (N : Nat) (ad : Nat → Nat), en_vs N ad box [] := by
  exact ⟨kk_236, kk_237, [], by decide +kernel, ok_236 l, ok_237 l, fun N ad => trivial⟩
theorem pr_undo (l : Launch) : ∃ (κa κb : en_K) (box : List en_V), lw_ck tW_39 0 84 112 116 0 κa κb box = true ∧ en_ok l κa ∧ en_ok l κb ∧ ∀ (N : Nat) (ad : Nat → Nat), en_vs N ad box [] := by
  exact ⟨kk_238, kk_239, [], by decide +kernel, ok_238 l, ok_239 l, fun N ad => trivial⟩
theorem pr_check (l : Launch) (x1 : Int32) : ∃ (κa κb : en_K) (box : List en_V), lw_ck tW_39 0 84 117 120 1 κa κb box = true ∧ en_ok l κa ∧ en_ok l κb ∧ ∀ (N : Nat) (ad : Nat → Nat), en_vs N ad box [.int x1] := by
  have r1 := fb_rng x1
  by_cases h0 : x1.toInt ≤ (-1)
  · exact ⟨kk_240, kk_242, [.inl ((-2147483648), (-1))], by decide +kernel, ok_240 l, ok_242 l, fun N ad => ⟨en_iv (by omega) (by omega), trivial⟩⟩
  by_cases h1 : 0 ≤ x1.toInt ∧ x1.toInt ≤ 0
  · exact ⟨kk_244, kk_246, [.inl (0, 0)], by decide +kernel, ok_244 l, ok_246 l, fun N ad => ⟨en_iv (by omega) (by omega), trivial⟩⟩
  by_cases h2 : 1 ≤ x1.toInt ∧ x1.toInt ≤ 64
  · exact ⟨kk_247, kk_249, [.inl (1, 64)], by decide +kernel, ok_247 l, ok_249 l, fun N ad => ⟨en_iv (by omega) (by omega), trivial⟩⟩
  by_cases h3 : 65 ≤ x1.toInt
  · exact ⟨kk_250, kk_252, [.inl (65, 2147483647)], by decide +kernel, ok_250 l, ok_252 l, fun N ad => ⟨en_iv (by omega) (by omega), trivial⟩⟩
  omega
theorem pr_count (l : Launch) (x1 : Int32) : ∃ (κa κb : en_K) (box : List en_V), lw_ck tW_39 0 84 121 124 1 κa κb box = true ∧ en_ok l κa ∧ en_ok l κb ∧ ∀ (N : Nat) (ad : Nat → Nat), en_vs N ad box [.int x1] := by
  have r1 := fb_rng x1
  by_cases h0 : x1.toInt ≤ (-1)
  · exact ⟨kk_253, kk_254, [.inl ((-2147483648), (-1))], by decide +kernel, ok_253 l, ok_254 l, fun N ad => ⟨en_iv (by omega) (by omega), trivial⟩⟩
  by_cases h1 : 0 ≤ x1.toInt ∧ x1.toInt ≤ 0
  · exact ⟨kk_255, kk_256, [.inl (0, 0)], by decide +kernel, ok_255 l, ok_256 l, fun N ad => ⟨en_iv (by omega) (by omega), trivial⟩⟩
  by_cases h2 : 1 ≤ x1.toInt ∧ x1.toInt ≤ 1
  · exact ⟨kk_257, kk_258, [.inl (1, 1)], by decide +kernel, ok_257 l, ok_258 l, fun N ad => ⟨en_iv (by omega) (by omega), trivial⟩⟩
  by_cases h3 : 2 ≤ x1.toInt ∧ x1.toInt ≤ 2
  · exact ⟨kk_260, kk_262, [.inl (2, 2)], by decide +kernel, ok_260 l, ok_262 l, fun N ad => ⟨en_iv (by omega) (by omega), trivial⟩⟩
  by_cases h4 : 3 ≤ x1.toInt ∧ x1.toInt ≤ 3
  · exact ⟨kk_264, kk_266, [.inl (3, 3)], by decide +kernel, ok_264 l, ok_266 l, fun N ad => ⟨en_iv (by omega) (by omega), trivial⟩⟩
  by_cases h5 : 4 ≤ x1.toInt ∧ x1.toInt ≤ 4
  · exact ⟨kk_267, kk_268, [.inl (4, 4)], by decide +kernel, ok_267 l, ok_268 l, fun N ad => ⟨en_iv (by omega) (by omega), trivial⟩⟩
  by_cases h6 : 5 ≤ x1.toInt ∧ x1.toInt ≤ 5
  · exact ⟨kk_269, kk_270, [.inl (5, 5)], by decide +kernel, ok_269 l, ok_270 l, fun N ad => ⟨en_iv (by omega) (by omega), trivial⟩⟩
  by_cases h7 : 6 ≤ x1.toInt ∧ x1.toInt ≤ 6
  · exact ⟨kk_271, kk_272, [.inl (6, 6)], by decide +kernel, ok_271 l, ok_272 l, fun N ad => ⟨en_iv (by omega) (by omega), trivial⟩⟩
  by_cases h8 : 7 ≤ x1.toInt ∧ x1.toInt ≤ 7
  · exact ⟨kk_273, kk_274, [.inl (7, 7)], by decide +kernel, ok_273 l, ok_274 l, fun N ad => ⟨en_iv (by omega) (by omega), trivial⟩⟩
  by_cases h9 : 8 ≤ x1.toInt ∧ x1.toInt ≤ 8
  · exact ⟨kk_275, kk_276, [.inl (8, 8)], by decide +kernel, ok_275 l, ok_276 l, fun N ad => ⟨en_iv (by omega) (by omega), trivial⟩⟩
  by_cases h10 : 9 ≤ x1.toInt ∧ x1.toInt ≤ 9
  · exact ⟨kk_277, kk_278, [.inl (9, 9)], by decide +kernel, ok_277 l, ok_278 l, fun N ad => ⟨en_iv (by omega) (by omega), trivial⟩⟩
  by_cases h11 : 10 ≤ x1.toInt ∧ x1.toInt ≤ 10
  · exact ⟨kk_279, kk_280, [.inl (10, 10)], by decide +kernel, ok_279 l, ok_280 l, fun N ad => ⟨en_iv (by omega) (by omega), trivial⟩⟩
  by_cases h12 : 11 ≤ x1.toInt ∧ x1.toInt ≤ 11
  · exact ⟨kk_282, kk_284, [.inl (11, 11)], by decide +kernel, ok_282 l, ok_284 l, fun N ad => ⟨en_iv (by omega) (by omega), trivial⟩⟩
  by_cases h13 : 12 ≤ x1.toInt
  · exact ⟨kk_285, kk_286, [.inl (12, 2147483647)], by decide +kernel, ok_285 l, ok_286 l, fun N ad => ⟨en_iv (by omega) (by omega), trivial⟩⟩
  omega
