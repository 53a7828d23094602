def kq_119 : ek := (26, [.inr 3, .inl (44, 44)], [], [(1, 3), (1, 4)], [(some (.inl (0, 0)), []), (some (.inl (1, 1)), [((2, 1, 2), (1, 260), none), ((2, 1, 3), (1, 260), none)])], 1, 21)
/-- LoadsAhead.Tape accept -/
theorem qk_119 (l : Launch) : ek_ok l tQ iQ kq_119 := ek_good_ok (sp := sQ) (K := [kq_35, kq_36]) (SP := []) (HS := []) (N := 0) (fuel := 32) hIQ (List.forall_mem_cons.mpr ⟨qk_35 l, List.forall_mem_cons.mpr ⟨qk_36 l, fun _ h => absurd h List.not_mem_nil⟩⟩) (by decide +kernel)
def kq_120 : ek := (45, [.inr 3], [], [(1, 3), (1, 4)], [(some (.inl ((-1), (-1))), []), (some (.inl (0, 7)), [((2, 1, 2), (1, 260), none), ((2, 1, 3), (1, 260), none)])], 1, 21)
/-- LoadsAhead.Tape readRegister -/
theorem qk_120 (l : Launch) : ek_ok l tQ iQ kq_120 := ek_good_ok (sp := sQ) (K := [kq_35, kq_36]) (SP := []) (HS := []) (N := 0) (fuel := 44) hIQ (List.forall_mem_cons.mpr ⟨qk_35 l, List.forall_mem_cons.mpr ⟨qk_36 l, fun _ h => absurd h List.not_mem_nil⟩⟩) (by decide +kernel)
def kq_121 : ek := (44, [.inr 47, .inr 3, .inl (0, 19)], [], [(1, 3), (1, 4), (49, 999)], [(some (.inl (1, 1)), [((2, 1, 2), (1, 260), none), ((2, 1, 3), (1, 260), none)]), (some (.inl (0, 0)), [])], 2, 42)
/-- LoadsAhead.Program readGiven -/
theorem qk_121 (l : Launch) : ek_ok l tQ iQ kq_121 := ek_good_ok (sp := sQ) (K := [kq_120, kq_119]) (SP := []) (HS := []) (N := 0) (fuel := 46) hIQ (List.forall_mem_cons.mpr ⟨qk_120 l, List.forall_mem_cons.mpr ⟨qk_119 l, fun _ h => absurd h List.not_mem_nil⟩⟩) (by decide +kernel)
def kq_122 : ek := (28, [.inr 3, .inl (4, 4)], [], [(1, 3), (1, 4)], [(some (.inl ((-1), (-1))), []), (some (.inl ((-2147483648), 2147483647)), [])], 2, 40)
/-- LoadsAhead.Tape readDigits -/
theorem qk_122 (l : Launch) : ek_ok l tQ iQ kq_122 := ek_good_ok (sp := sQ) (K := [kq_41, kq_40, kq_35, kq_36]) (SP := []) (HS := [((4, [some (.inr 3, none), some (.inl (4, 4), none), some (.inl ((-2147483648), 2147483647), none), some (.inl (0, 4), none)], [], [], []), [(0, (0, 0, 0), 0), (1, (1, 3, 0), 4), (0, (0, 0, 0), 0)])]) (N := 3) (fuel := 66) hIQ (List.forall_mem_cons.mpr ⟨qk_41 l, List.forall_mem_cons.mpr ⟨qk_40 l, List.forall_mem_cons.mpr ⟨qk_35 l, List.forall_mem_cons.mpr ⟨qk_36 l, fun _ h => absurd h List.not_mem_nil⟩⟩⟩⟩) (by decide +kernel)
def kq_123 : ek := (46, [.inr 47, .inr 3, .inl (0, 19)], [], [(1, 3), (1, 4), (52, 999)], [(some (.inl (1, 1)), []), (some (.inl (0, 0)), [])], 3, 63)
/-- LoadsAhead.Program readNumber -/
theorem qk_123 (l : Launch) : ek_ok l tQ iQ kq_123 := ek_good_ok (sp := sQ) (K := [kq_122]) (SP := []) (HS := []) (N := 0) (fuel := 40) hIQ (List.forall_mem_cons.mpr ⟨qk_122 l, fun _ h => absurd h List.not_mem_nil⟩) (by decide +kernel)
def kq_124 : ek := (47, [.inr 47, .inr 3, .inl (0, 19)], [], [(1, 3), (1, 4), (49, 999), (50, 999), (51, 999)], [(some (.inl (0, 0)), []), (some (.inl (1, 1)), [((2, 1, 2), (1, 260), none), ((2, 1, 3), (1, 260), none)])], 3, 64)
/-- LoadsAhead.Program readReckoning -/
theorem qk_124 (l : Launch) : ek_ok l tQ iQ kq_124 := ek_good_ok (sp := sQ) (K := [kq_120, kq_119, kq_121]) (SP := []) (HS := []) (N := 0) (fuel := 80) hIQ (List.forall_mem_cons.mpr ⟨qk_120 l, List.forall_mem_cons.mpr ⟨qk_119 l, List.forall_mem_cons.mpr ⟨qk_121 l, fun _ h => absurd h List.not_mem_nil⟩⟩⟩) (by decide +kernel)
def kq_125 : ek := (26, [.inr 3, .inl (43, 43)], [], [(1, 3), (1, 4)], [(some (.inl (0, 0)), []), (some (.inl (1, 1)), [((2, 1, 2), (1, 260), none), ((2, 1, 3), (1, 260), none)])], 1, 21)
/-- LoadsAhead.Tape accept -/
theorem qk_125 (l : Launch) : ek_ok l tQ iQ kq_125 := ek_good_ok (sp := sQ) (K := [kq_35, kq_36]) (SP := []) (HS := []) (N := 0) (fuel := 32) hIQ (List.forall_mem_cons.mpr ⟨qk_35 l, List.forall_mem_cons.mpr ⟨qk_36 l, fun _ h => absurd h List.not_mem_nil⟩⟩) (by decide +kernel)
def kq_126 : ek := (49, [.inl ((-1), (-1))], [], [], [(some (.inl (0, 0)), [])], 0, 0)
/-- LoadsAhead.Program sizeOf -/
theorem qk_126 (l : Launch) : ek_ok l tQ iQ kq_126 := ek_good_ok (sp := sQ) (K := []) (SP := []) (HS := []) (N := 0) (fuel := 16) hIQ (fun _ h => absurd h List.not_mem_nil) (by decide +kernel)
def kq_127 : ek := (49, [.inl (0, 255)], [], [], [(some (.inl (0, 4)), [])], 0, 0)
/-- LoadsAhead.Program sizeOf -/
theorem qk_127 (l : Launch) : ek_ok l tQ iQ kq_127 := ek_good_ok (sp := sQ) (K := []) (SP := []) (HS := []) (N := 0) (fuel := 16) hIQ (fun _ h => absurd h List.not_mem_nil) (by decide +kernel)
def kq_128 : ek := (48, [.inr 47, .inr 3, .inl (0, 19)], [], [(1, 3), (1, 4), (48, 999), (49, 999), (50, 999), (51, 999), (52, 999)], [(some (.inl (0, 0)), []), (some (.inl (1, 1)), [((2, 1, 2), (1, 260), none)])], 4, 85)
/-- LoadsAhead.Program readMove -/
theorem qk_128 (l : Launch) : ek_ok l tQ iQ kq_128 := ek_good_ok (sp := sQ) (K := [kq_120, kq_36, kq_37, kq_126, kq_125, kq_35, kq_121, kq_123, kq_127]) (SP := []) (HS := []) (N := 0) (fuel := 138) hIQ (List.forall_mem_cons.mpr ⟨qk_120 l, List.forall_mem_cons.mpr ⟨qk_36 l, List.forall_mem_cons.mpr ⟨qk_37 l, List.forall_mem_cons.mpr ⟨qk_126 l, List.forall_mem_cons.mpr ⟨qk_125 l, List.forall_mem_cons.mpr ⟨qk_35 l, List.forall_mem_cons.mpr ⟨qk_121 l, List.forall_mem_cons.mpr ⟨qk_123 l, List.forall_mem_cons.mpr ⟨qk_127 l, fun _ h => absurd h List.not_mem_nil⟩⟩⟩⟩⟩⟩⟩⟩⟩) (by decide +kernel)
def kq_129 : ek := (42, [.inr 47, .inr 3, .inl (0, 19)], [], [(1, 3), (1, 4), (46, 999), (47, 999), (48, 999), (49, 999), (50, 999), (51, 999), (52, 999)], [(some (.inl (0, 0)), []), (some (.inl (1, 1)), [((2, 1, 2), (1, 260), none)])], 5, 107)
/-- LoadsAhead.Program readOp -/
theorem qk_129 (l : Launch) : ek_ok l tQ iQ kq_129 := ek_good_ok (sp := sQ) (K := [kq_36, kq_37, kq_117, kq_35, kq_124, kq_121, kq_123, kq_128, kq_118]) (SP := []) (HS := []) (N := 0) (fuel := 126) hIQ (List.forall_mem_cons.mpr ⟨qk_36 l, List.forall_mem_cons.mpr ⟨qk_37 l, List.forall_mem_cons.mpr ⟨qk_117 l, List.forall_mem_cons.mpr ⟨qk_35 l, List.forall_mem_cons.mpr ⟨qk_124 l, List.forall_mem_cons.mpr ⟨qk_121 l, List.forall_mem_cons.mpr ⟨qk_123 l, List.forall_mem_cons.mpr ⟨qk_128 l, List.forall_mem_cons.mpr ⟨qk_118 l, fun _ h => absurd h List.not_mem_nil⟩⟩⟩⟩⟩⟩⟩⟩⟩) (by decide +kernel)
def kq_130 : ek := (42, [.inr 47, .inr 3, .inl (20, 20)], [], [(1, 4)], [(some (.inl (0, 0)), [])], 1, 21)
/-- LoadsAhead.Program readOp -/
theorem qk_130 (l : Launch) : ek_ok l tQ iQ kq_130 := ek_good_ok (sp := sQ) (K := [kq_36, kq_117, kq_96, kq_35, kq_118]) (SP := []) (HS := []) (N := 0) (fuel := 40) hIQ (List.forall_mem_cons.mpr ⟨qk_36 l, List.forall_mem_cons.mpr ⟨qk_117 l, List.forall_mem_cons.mpr ⟨qk_96 l, List.forall_mem_cons.mpr ⟨qk_35 l, List.forall_mem_cons.mpr ⟨qk_118 l, fun _ h => absurd h List.not_mem_nil⟩⟩⟩⟩⟩) (by decide +kernel)
def kq_131 : ek := (52, [.inl ((-1), (-1))], [], [], [(some (.inl (0, 0)), [])], 0, 0)
/-- LoadsAhead isCell -/
theorem qk_131 (l : Launch) : ek_ok l tQ iQ kq_131 := ek_good_ok (sp := sQ) (K := []) (SP := []) (HS := []) (N := 0) (fuel := 16) hIQ (fun _ h => absurd h List.not_mem_nil) (by decide +kernel)
def kq_132 : ek := (52, [.inl (0, 7)], [], [], [(some (.inl (1, 1)), [])], 0, 0)
/-- LoadsAhead isCell -/
theorem qk_132 (l : Launch) : ek_ok l tQ iQ kq_132 := ek_good_ok (sp := sQ) (K := []) (SP := []) (HS := []) (N := 0) (fuel := 24) hIQ (fun _ h => absurd h List.not_mem_nil) (by decide +kernel)
def kq_133 : ek := (51, [.inr 47, .inl ((-1), 7)], [], [], [(some (.inl ((-1), 19)), []), (some (.inl ((-1), (-1))), [])], 1, 20)
/-- LoadsAhead.Program giverOfRegister -/
theorem qk_133 (l : Launch) : ek_ok l tQ iQ kq_133 := ek_good_ok (sp := sQ) (K := [kq_131, kq_132]) (SP := [(1, [(0, [(-1), 7])])]) (HS := []) (N := 0) (fuel := 26) hIQ (List.forall_mem_cons.mpr ⟨qk_131 l, List.forall_mem_cons.mpr ⟨qk_132 l, fun _ h => absurd h List.not_mem_nil⟩⟩) (by decide +kernel)
def kq_134 : ek := (53, [.inr 47, .inl ((-1), (-1))], [], [], [(some (.inl (0, 0)), [])], 0, 0)
/-- LoadsAhead.Program depthOf -/
theorem qk_134 (l : Launch) : ek_ok l tQ iQ kq_134 := ek_good_ok (sp := sQ) (K := []) (SP := []) (HS := []) (N := 0) (fuel := 16) hIQ (fun _ h => absurd h List.not_mem_nil) (by decide +kernel)
def kq_135 : ek := (53, [.inr 47, .inl ((-1), 19)], [], [], [(some (.inl ((-2147483648), 2147483647)), []), (some (.inl (0, 0)), [])], 0, 0)
/-- LoadsAhead.Program depthOf -/
theorem qk_135 (l : Launch) : ek_ok l tQ iQ kq_135 := ek_good_ok (sp := sQ) (K := []) (SP := []) (HS := []) (N := 0) (fuel := 30) hIQ (fun _ h => absurd h List.not_mem_nil) (by decide +kernel)
def kq_138 : ek := (54, [.inr 6, .inr 47], [], [(4, 11), (4, 12), (5, 999), (6, 999), (7, 999), (8, 999), (9, 999), (10, 999), (11, 999), (12, 999), (13, 999)], [(none, [])], 1, 65)
/-- LoadsAhead.Program copyFrom -/
theorem qk_138 (l : Launch) : ek_ok l tQ iQ kq_138 := ek_good_ok (sp := sQ) (K := []) (SP := []) (HS := []) (N := 0) (fuel := 170) hIQ (fun _ h => absurd h List.not_mem_nil) (by decide +kernel)
def kq_142 : ek := (44, [.inr 47, .inr 3, .inl (0, 0)], [], [(1, 3), (1, 4), (49, 999)], [(some (.inl (1, 1)), [((2, 1, 2), (1, 260), none), ((2, 1, 3), (1, 260), none)]), (some (.inl (0, 0)), [])], 2, 42)
/-- LoadsAhead.Program readGiven -/
theorem qk_142 (l : Launch) : ek_ok l tQ iQ kq_142 := ek_good_ok (sp := sQ) (K := [kq_120, kq_119]) (SP := []) (HS := []) (N := 0) (fuel := 46) hIQ (List.forall_mem_cons.mpr ⟨qk_120 l, List.forall_mem_cons.mpr ⟨qk_119 l, fun _ h => absurd h List.not_mem_nil⟩⟩) (by decide +kernel)
def kq_143 : ek := (46, [.inr 47, .inr 3, .inl (0, 0)], [], [(1, 3), (1, 4), (52, 999)], [(some (.inl (1, 1)), []), (some (.inl (0, 0)), [])], 3, 63)
/-- LoadsAhead.Program readNumber -/
theorem qk_143 (l : Launch) : ek_ok l tQ iQ kq_143 := ek_good_ok (sp := sQ) (K := [kq_122]) (SP := []) (HS := []) (N := 0) (fuel := 40) hIQ (List.forall_mem_cons.mpr ⟨qk_122 l, fun _ h => absurd h List.not_mem_nil⟩) (by decide +kernel)
def kq_144 : ek := (47, [.inr 47, .inr 3, .inl (0, 0)], [], [(1, 3), (1, 4), (49, 999), (50, 999), (51, 999)], [(some (.inl (0, 0)), []), (some (.inl (1, 1)), [((2, 1, 2), (1, 260), none), ((2, 1, 3), (1, 260), none)])], 3, 64)
/-- LoadsAhead.Program readReckoning -/
theorem qk_144 (l : Launch) : ek_ok l tQ iQ kq_144 := ek_good_ok (sp := sQ) (K := [kq_120, kq_142, kq_119]) (SP := []) (HS := []) (N := 0) (fuel := 80) hIQ (List.forall_mem_cons.mpr ⟨qk_120 l, List.forall_mem_cons.mpr ⟨qk_142 l, List.forall_mem_cons.mpr ⟨qk_119 l, fun _ h => absurd h List.not_mem_nil⟩⟩⟩) (by decide +kernel)
def kq_145 : ek := (48, [.inr 47, .inr 3, .inl (0, 0)], [], [(1, 3), (1, 4), (48, 999), (49, 999), (50, 999), (51, 999), (52, 999)], [(some (.inl (0, 0)), []), (some (.inl (1, 1)), [((2, 1, 2), (1, 260), none)])], 4, 85)
/-- LoadsAhead.Program readMove -/
theorem qk_145 (l : Launch) : ek_ok l tQ iQ kq_145 := ek_good_ok (sp := sQ) (K := [kq_120, kq_36, kq_37, kq_143, kq_126, kq_142, kq_125, kq_35, kq_127]) (SP := []) (HS := []) (N := 0) (fuel := 138) hIQ (List.forall_mem_cons.mpr ⟨qk_120 l, List.forall_mem_cons.mpr ⟨qk_36 l, List.forall_mem_cons.mpr ⟨qk_37 l, List.forall_mem_cons.mpr ⟨qk_143 l, List.forall_mem_cons.mpr ⟨qk_126 l, List.forall_mem_cons.mpr ⟨qk_142 l, List.forall_mem_cons.mpr ⟨qk_125 l, List.forall_mem_cons.mpr ⟨qk_35 l, List.forall_mem_cons.mpr ⟨qk_127 l, fun _ h => absurd h List.not_mem_nil⟩⟩⟩⟩⟩⟩⟩⟩⟩) (by decide +kernel)
def kq_146 : ek := (42, [.inr 47, .inr 3, .inl (0, 0)], [], [(1, 3), (1, 4), (46, 999), (47, 999), (48, 999), (49, 999), (50, 999), (51, 999), (52, 999)], [(some (.inl (0, 0)), []), (some (.inl (1, 1)), [((2, 1, 2), (1, 260), none)])], 5, 107)
/-- LoadsAhead.Program readOp -/
theorem qk_146 (l : Launch) : ek_ok l tQ iQ kq_146 := ek_good_ok (sp := sQ) (K := [kq_144, kq_36, kq_37, kq_117, kq_143, kq_142, kq_145, kq_35, kq_118]) (SP := []) (HS := []) (N := 0) (fuel := 126) hIQ (List.forall_mem_cons.mpr ⟨qk_144 l, List.forall_mem_cons.mpr ⟨qk_36 l, List.forall_mem_cons.mpr ⟨qk_37 l, List.forall_mem_cons.mpr ⟨qk_117 l, List.forall_mem_cons.mpr ⟨qk_143 l, List.forall_mem_cons.mpr ⟨qk_142 l, List.forall_mem_cons.mpr ⟨qk_145 l, List.forall_mem_cons.mpr ⟨qk_35 l, List.forall_mem_cons.mpr ⟨qk_118 l, fun _ h => absurd h List.not_mem_nil⟩⟩⟩⟩⟩⟩⟩⟩⟩) (by decide +kernel)
def kq_147 : ek := (44, [.inr 47, .inr 3, .inl (0, 1)], [], [(1, 3), (1, 4), (49, 999)], [(some (.inl (1, 1)), [((2, 1, 2), (1, 260), none), ((2, 1, 3), (1, 260), none)]), (some (.inl (0, 0)), [])], 2, 42)
/-- LoadsAhead.Program readGiven -/
theorem qk_147 (l : Launch) : ek_ok l tQ iQ kq_147 := ek_good_ok (sp := sQ) (K := [kq_120, kq_119]) (SP := []) (HS := []) (N := 0) (fuel := 46) hIQ (List.forall_mem_cons.mpr ⟨qk_120 l, List.forall_mem_cons.mpr ⟨qk_119 l, fun _ h => absurd h List.not_mem_nil⟩⟩) (by decide +kernel)
def kq_148 : ek := (46, [.inr 47, .inr 3, .inl (0, 1)], [], [(1, 3), (1, 4), (52, 999)], [(some (.inl (1, 1)), []), (some (.inl (0, 0)), [])], 3, 63)
/-- LoadsAhead.Program readNumber -/
theorem qk_148 (l : Launch) : ek_ok l tQ iQ kq_148 := ek_good_ok (sp := sQ) (K := [kq_122]) (SP := []) (HS := []) (N := 0) (fuel := 40) hIQ (List.forall_mem_cons.mpr ⟨qk_122 l, fun _ h => absurd h List.not_mem_nil⟩) (by decide +kernel)
def kq_149 : ek := (47, [.inr 47, .inr 3, .inl (0, 1)], [], [(1, 3), (1, 4), (49, 999), (50, 999), (51, 999)], [(some (.inl (0, 0)), []), (some (.inl (1, 1)), [((2, 1, 2), (1, 260), none), ((2, 1, 3), (1, 260), none)])], 3, 64)
/-- LoadsAhead.Program readReckoning -/
theorem qk_149 (l : Launch) : ek_ok l tQ iQ kq_149 := ek_good_ok (sp := sQ) (K := [kq_120, kq_119, kq_147]) (SP := []) (HS := []) (N := 0) (fuel := 80) hIQ (List.forall_mem_cons.mpr ⟨qk_120 l, List.forall_mem_cons.mpr ⟨qk_119 l, List.forall_mem_cons.mpr ⟨qk_147 l, fun _ h => absurd h List.not_mem_nil⟩⟩⟩) (by decide +kernel)
def kq_150 : ek := (48, [.inr 47, .inr 3, .inl (0, 1)], [], [(1, 3), (1, 4), (48, 999), (49, 999), (50, 999), (51, 999), (52, 999)], [(some (.inl (0, 0)), []), (some (.inl (1, 1)), [((2, 1, 2), (1, 260), none)])], 4, 85)
/-- LoadsAhead.Program readMove -/
theorem qk_150 (l : Launch) : ek_ok l tQ iQ kq_150 := ek_good_ok (sp := sQ) (K := [kq_120, kq_36, kq_37, kq_126, kq_125, kq_35, kq_147, kq_148, kq_127]) (SP := []) (HS := []) (N := 0) (fuel := 138) hIQ (List.forall_mem_cons.mpr ⟨qk_120 l, List.forall_mem_cons.mpr ⟨qk_36 l, List.forall_mem_cons.mpr ⟨qk_37 l, List.forall_mem_cons.mpr ⟨qk_126 l, List.forall_mem_cons.mpr ⟨qk_125 l, List.forall_mem_cons.mpr ⟨qk_35 l, List.forall_mem_cons.mpr ⟨qk_147 l, List.forall_mem_cons.mpr ⟨qk_148 l, List.forall_mem_cons.mpr ⟨qk_127 l, fun _ h => absurd h List.not_mem_nil⟩⟩⟩⟩⟩⟩⟩⟩⟩) (by decide +kernel)
def kq_151 : ek := (42, [.inr 47, .inr 3, .inl (0, 1)], [], [(1, 3), (1, 4), (46, 999), (47, 999), (48, 999), (49, 999), (50, 999), (51, 999), (52, 999)], [(some (.inl (0, 0)), []), (some (.inl (1, 1)), [((2, 1, 2), (1, 260), none)])], 5, 107)
/-- LoadsAhead.Program readOp -/
theorem qk_151 (l : Launch) : ek_ok l tQ iQ kq_151 := ek_good_ok (sp := sQ) (K := [kq_36, kq_37, kq_117, kq_35, kq_149, kq_147, kq_150, kq_148, kq_118]) (SP := []) (HS := []) (N := 0) (fuel := 126) hIQ (List.forall_mem_cons.mpr ⟨qk_36 l, List.forall_mem_cons.mpr ⟨qk_37 l, List.forall_mem_cons.mpr ⟨qk_117 l, List.forall_mem_cons.mpr ⟨qk_35 l, List.forall_mem_cons.mpr ⟨qk_149 l, List.forall_mem_cons.mpr ⟨qk_147 l, List.forall_mem_cons.mpr ⟨qk_150 l, List.forall_mem_cons.mpr ⟨qk_148 l, List.forall_mem_cons.mpr ⟨qk_118 l, fun _ h => absurd h List.not_mem_nil⟩⟩⟩⟩⟩⟩⟩⟩⟩) (by decide +kernel)
def kq_152 : ek := (44, [.inr 47, .inr 3, .inl (0, 3)], [], [(1, 3), (1, 4), (49, 999)], [(some (.inl (1, 1)), [((2, 1, 2), (1, 260), none), ((2, 1, 3), (1, 260), none)]), (some (.inl (0, 0)), [])], 2, 42)
/-- LoadsAhead.Program readGiven -/
theorem qk_152 (l : Launch) : ek_ok l tQ iQ kq_152 := ek_good_ok (sp := sQ) (K := [kq_120, kq_119]) (SP := []) (HS := []) (N := 0) (fuel := 46) hIQ (List.forall_mem_cons.mpr ⟨qk_120 l, List.forall_mem_cons.mpr ⟨qk_119 l, fun _ h => absurd h List.not_mem_nil⟩⟩) (by decide +kernel)
def kq_153 : ek := (46, [.inr 47, .inr 3, .inl (0, 3)], [], [(1, 3), (1, 4), (52, 999)], [(some (.inl (1, 1)), []), (some (.inl (0, 0)), [])], 3, 63)
/-- LoadsAhead.Program readNumber -/
theorem qk_153 (l : Launch) : ek_ok l tQ iQ kq_153 := ek_good_ok (sp := sQ) (K := [kq_122]) (SP := []) (HS := []) (N := 0) (fuel := 40) hIQ (List.forall_mem_cons.mpr ⟨qk_122 l, fun _ h => absurd h List.not_mem_nil⟩) (by decide +kernel)
def kq_154 : ek := (47, [.inr 47, .inr 3, .inl (0, 3)], [], [(1, 3), (1, 4), (49, 999), (50, 999), (51, 999)], [(some (.inl (0, 0)), []), (some (.inl (1, 1)), [((2, 1, 2), (1, 260), none), ((2, 1, 3), (1, 260), none)])], 3, 64)
/-- LoadsAhead.Program readReckoning -/
theorem qk_154 (l : Launch) : ek_ok l tQ iQ kq_154 := ek_good_ok (sp := sQ) (K := [kq_120, kq_119, kq_152]) (SP := []) (HS := []) (N := 0) (fuel := 80) hIQ (List.forall_mem_cons.mpr ⟨qk_120 l, List.forall_mem_cons.mpr ⟨qk_119 l, List.forall_mem_cons.mpr ⟨qk_152 l, fun _ h => absurd h List.not_mem_nil⟩⟩⟩) (by decide +kernel)
def kq_155 : ek := (48, [.inr 47, .inr 3, .inl (0, 3)], [], [(1, 3), (1, 4), (48, 999), (49, 999), (50, 999), (51, 999), (52, 999)], [(some (.inl (0, 0)), []), (some (.inl (1, 1)), [((2, 1, 2), (1, 260), none)])], 4, 85)
/-- LoadsAhead.Program readMove -/
theorem qk_155 (l : Launch) : ek_ok l tQ iQ kq_155 := ek_good_ok (sp := sQ) (K := [kq_120, kq_36, kq_37, kq_126, kq_125, kq_35, kq_153, kq_152, kq_127]) (SP := []) (HS := []) (N := 0) (fuel := 138) hIQ (List.forall_mem_cons.mpr ⟨qk_120 l, List.forall_mem_cons.mpr ⟨qk_36 l, List.forall_mem_cons.mpr ⟨qk_37 l, List.forall_mem_cons.mpr ⟨qk_126 l, List.forall_mem_cons.mpr ⟨qk_125 l, List.forall_mem_cons.mpr ⟨qk_35 l, List.forall_mem_cons.mpr ⟨qk_153 l, List.forall_mem_cons.mpr ⟨qk_152 l, List.forall_mem_cons.mpr ⟨qk_127 l, fun _ h => absurd h List.not_mem_nil⟩⟩⟩⟩⟩⟩⟩⟩⟩) (by decide +kernel)
def kq_156 : ek := (42, [.inr 47, .inr 3, .inl (0, 2)], [], [(1, 3), (1, 4), (46, 999), (47, 999), (48, 999), (49, 999), (50, 999), (51, 999), (52, 999)], [(some (.inl (0, 0)), []), (some (.inl (1, 1)), [((2, 1, 2), (1, 260), none)])], 5, 107)
/-- LoadsAhead.Program readOp -/
theorem qk_156 (l : Launch) : ek_ok l tQ iQ kq_156 := ek_good_ok (sp := sQ) (K := [kq_36, kq_37, kq_117, kq_35, kq_153, kq_154, kq_152, kq_155, kq_118]) (SP := []) (HS := []) (N := 0) (fuel := 126) hIQ (List.forall_mem_cons.mpr ⟨qk_36 l, List.forall_mem_cons.mpr ⟨qk_37 l, List.forall_mem_cons.mpr ⟨qk_117 l, List.forall_mem_cons.mpr ⟨qk_35 l, List.forall_mem_cons.mpr ⟨qk_153 l, List.forall_mem_cons.mpr ⟨qk_154 l, List.forall_mem_cons.mpr ⟨qk_152 l, List.forall_mem_cons.mpr ⟨qk_155 l, List.forall_mem_cons.mpr ⟨qk_118 l, fun _ h => absurd h List.not_mem_nil⟩⟩⟩⟩⟩⟩⟩⟩⟩) (by decide +kernel)
def kq_157 : ek := (42, [.inr 47, .inr 3, .inl (0, 3)], [], [(1, 3), (1, 4), (46, 999), (47, 999), (48, 999), (49, 999), (50, 999), (51, 999), (52, 999)], [(some (.inl (0, 0)), []), (some (.inl (1, 1)), [((2, 1, 2), (1, 260), none)])], 5, 107)
/-- LoadsAhead.Program readOp -/
theorem qk_157 (l : Launch) : ek_ok l tQ iQ kq_157 := ek_good_ok (sp := sQ) (K := [kq_36, kq_37, kq_117, kq_35, kq_153, kq_154, kq_152, kq_155, kq_118]) (SP := []) (HS := []) (N := 0) (fuel := 126) hIQ (List.forall_mem_cons.mpr ⟨qk_36 l, List.forall_mem_cons.mpr ⟨qk_37 l, List.forall_mem_cons.mpr ⟨qk_117 l, List.forall_mem_cons.mpr ⟨qk_35 l, List.forall_mem_cons.mpr ⟨qk_153 l, List.forall_mem_cons.mpr ⟨qk_154 l, List.forall_mem_cons.mpr ⟨qk_152 l, List.forall_mem_cons.mpr ⟨qk_155 l, List.forall_mem_cons.mpr ⟨qk_118 l, fun _ h => absurd h List.not_mem_nil⟩⟩⟩⟩⟩⟩⟩⟩⟩) (by decide +kernel)
def kq_158 : ek := (44, [.inr 47, .inr 3, .inl (0, 7)], [], [(1, 3), (1, 4), (49, 999)], [(some (.inl (1, 1)), [((2, 1, 2), (1, 260), none), ((2, 1, 3), (1, 260), none)]), (some (.inl (0, 0)), [])], 2, 42)
/-- LoadsAhead.Program readGiven -/
theorem qk_158 (l : Launch) : ek_ok l tQ iQ kq_158 := ek_good_ok (sp := sQ) (K := [kq_120, kq_119]) (SP := []) (HS := []) (N := 0) (fuel := 46) hIQ (List.forall_mem_cons.mpr ⟨qk_120 l, List.forall_mem_cons.mpr ⟨qk_119 l, fun _ h => absurd h List.not_mem_nil⟩⟩) (by decide +kernel)
def kq_159 : ek := (46, [.inr 47, .inr 3, .inl (0, 7)], [], [(1, 3), (1, 4), (52, 999)], [(some (.inl (1, 1)), []), (some (.inl (0, 0)), [])], 3, 63)
/-- LoadsAhead.Program readNumber -/
theorem qk_159 (l : Launch) : ek_ok l tQ iQ kq_159 := ek_good_ok (sp := sQ) (K := [kq_122]) (SP := []) (HS := []) (N := 0) (fuel := 40) hIQ (List.forall_mem_cons.mpr ⟨qk_122 l, fun _ h => absurd h List.not_mem_nil⟩) (by decide +kernel)
def kq_160 : ek := (47, [.inr 47, .inr 3, .inl (0, 7)], [], [(1, 3), (1, 4), (49, 999), (50, 999), (51, 999)], [(some (.inl (0, 0)), []), (some (.inl (1, 1)), [((2, 1, 2), (1, 260), none), ((2, 1, 3), (1, 260), none)])], 3, 64)
/-- LoadsAhead.Program readReckoning -/
theorem qk_160 (l : Launch) : ek_ok l tQ iQ kq_160 := ek_good_ok (sp := sQ) (K := [kq_120, kq_119, kq_158]) (SP := []) (HS := []) (N := 0) (fuel := 80) hIQ (List.forall_mem_cons.mpr ⟨qk_120 l, List.forall_mem_cons.mpr ⟨qk_119 l, List.forall_mem_cons.mpr ⟨qk_158 l, fun _ h => absurd h List.not_mem_nil⟩⟩⟩) (by decide +kernel)
def kq_161 : ek := (48, [.inr 47, .inr 3, .inl (0, 7)], [], [(1, 3), (1, 4), (48, 999), (49, 999), (50, 999), (51, 999), (52, 999)], [(some (.inl (0, 0)), []), (some (.inl (1, 1)), [((2, 1, 2), (1, 260), none)])], 4, 85)
/-- LoadsAhead.Program readMove -/
theorem qk_161 (l : Launch) : ek_ok l tQ iQ kq_161 := ek_good_ok (sp := sQ) (K := [kq_120, kq_36, kq_37, kq_126, kq_125, kq_35, kq_159, kq_158, kq_127]) (SP := []) (HS := []) (N := 0) (fuel := 138) hIQ (List.forall_mem_cons.mpr ⟨qk_120 l, List.forall_mem_cons.mpr ⟨qk_36 l, List.forall_mem_cons.mpr ⟨qk_37 l, List.forall_mem_cons.mpr ⟨qk_126 l, List.forall_mem_cons.mpr ⟨qk_125 l, List.forall_mem_cons.mpr ⟨qk_35 l, List.forall_mem_cons.mpr ⟨qk_159 l, List.forall_mem_cons.mpr ⟨qk_158 l, List.forall_mem_cons.mpr ⟨qk_127 l, fun _ h => absurd h List.not_mem_nil⟩⟩⟩⟩⟩⟩⟩⟩⟩) (by decide +kernel)
def kq_162 : ek := (42, [.inr 47, .inr 3, .inl (0, 4)], [], [(1, 3), (1, 4), (46, 999), (47, 999), (48, 999), (49, 999), (50, 999), (51, 999), (52, 999)], [(some (.inl (0, 0)), []), (some (.inl (1, 1)), [((2, 1, 2), (1, 260), none)])], 5, 107)
/-- LoadsAhead.Program readOp -/
theorem qk_162 (l : Launch) : ek_ok l tQ iQ kq_162 := ek_good_ok (sp := sQ) (K := [kq_36, kq_37, kq_117, kq_35, kq_161, kq_159, kq_160, kq_158, kq_118]) (SP := []) (HS := []) (N := 0) (fuel := 126) hIQ (List.forall_mem_cons.mpr ⟨qk_36 l, List.forall_mem_cons.mpr ⟨qk_37 l, List.forall_mem_cons.mpr ⟨qk_117 l, List.forall_mem_cons.mpr ⟨qk_35 l, List.forall_mem_cons.mpr ⟨qk_161 l, List.forall_mem_cons.mpr ⟨qk_159 l, List.forall_mem_cons.mpr ⟨qk_160 l, List.forall_mem_cons.mpr ⟨qk_158 l, List.forall_mem_cons.mpr ⟨qk_118 l, fun _ h => absurd h List.not_mem_nil⟩⟩⟩⟩⟩⟩⟩⟩⟩) (by decide +kernel)
def kq_163 : ek := (42, [.inr 47, .inr 3, .inl (0, 5)], [], [(1, 3), (1, 4), (46, 999), (47, 999), (48, 999), (49, 999), (50, 999), (51, 999), (52, 999)], [(some (.inl (0, 0)), []), (some (.inl (1, 1)), [((2, 1, 2), (1, 260), none)])], 5, 107)
/-- LoadsAhead.Program readOp -/
theorem qk_163 (l : Launch) : ek_ok l tQ iQ kq_163 := ek_good_ok (sp := sQ) (K := [kq_36, kq_37, kq_117, kq_35, kq_161, kq_159, kq_160, kq_158, kq_118]) (SP := []) (HS := []) (N := 0) (fuel := 126) hIQ (List.forall_mem_cons.mpr ⟨qk_36 l, List.forall_mem_cons.mpr ⟨qk_37 l, List.forall_mem_cons.mpr ⟨qk_117 l, List.forall_mem_cons.mpr ⟨qk_35 l, List.forall_mem_cons.mpr ⟨qk_161 l, List.forall_mem_cons.mpr ⟨qk_159 l, List.forall_mem_cons.mpr ⟨qk_160 l, List.forall_mem_cons.mpr ⟨qk_158 l, List.forall_mem_cons.mpr ⟨qk_118 l, fun _ h => absurd h List.not_mem_nil⟩⟩⟩⟩⟩⟩⟩⟩⟩) (by decide +kernel)
