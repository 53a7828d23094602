def kq_160 : ek := (42, [.inr 47, .inr 3, .inl (0, 3)], [], [(1, 3), (1, 4), (46, 999), (47, 999), (48, 999), (49, 999), (50, 999), (51, 999), (52, 999)], [(some (.inl (0, 0)), []), (some (.inl (1, 1)), [((2, 1, 2), (1, 260), none)])], 5, 107)
/-- LoadsAhead.Program readOp -/
theorem qk_160 (l : Launch) : ek_ok l tQ iQ kq_160 := ek_good_ok (sp := sQ) (K := [kq_35, kq_36, kq_117, kq_37, kq_156, kq_157, kq_155, kq_158, kq_118]) (SP := []) (HS := []) (N := 0) (fuel := 126) hIQ (List.forall_mem_cons.mpr ⟨qk_35 l, List.forall_mem_cons.mpr ⟨qk_36 l, List.forall_mem_cons.mpr ⟨qk_117 l, List.forall_mem_cons.mpr ⟨qk_37 l, List.forall_mem_cons.mpr ⟨qk_156 l, List.forall_mem_cons.mpr ⟨qk_157 l, List.forall_mem_cons.mpr ⟨qk_155 l, List.forall_mem_cons.mpr ⟨qk_158 l, List.forall_mem_cons.mpr ⟨qk_118 l, fun _ h => absurd h List.not_mem_nil⟩⟩⟩⟩⟩⟩⟩⟩⟩) (by decide +kernel)
def kq_161 : ek := (44, [.inr 47, .inr 3, .inl (0, 7)], [], [(1, 3), (1, 4), (49, 999)], [(some (.inl (1, 1)), [((2, 1, 2), (1, 260), none), ((2, 1, 3), (1, 260), none)]), (some (.inl (0, 0)), [])], 2, 42)
/-- LoadsAhead.Program readGiven -/
theorem qk_161 (l : Launch) : ek_ok l tQ iQ kq_161 := ek_good_ok (sp := sQ) (K := [kq_120, kq_119]) (SP := []) (HS := []) (N := 0) (fuel := 46) hIQ (List.forall_mem_cons.mpr ⟨qk_120 l, List.forall_mem_cons.mpr ⟨qk_119 l, fun _ h => absurd h List.not_mem_nil⟩⟩) (by decide +kernel)
def kq_162 : ek := (46, [.inr 47, .inr 3, .inl (0, 7)], [], [(1, 3), (1, 4), (52, 999)], [(some (.inl (1, 1)), []), (some (.inl (0, 0)), [])], 3, 63)
/-- LoadsAhead.Program readNumber -/
theorem qk_162 (l : Launch) : ek_ok l tQ iQ kq_162 := ek_good_ok (sp := sQ) (K := [kq_122]) (SP := []) (HS := []) (N := 0) (fuel := 40) hIQ (List.forall_mem_cons.mpr ⟨qk_122 l, fun _ h => absurd h List.not_mem_nil⟩) (by decide +kernel)
def kq_163 : ek := (47, [.inr 47, .inr 3, .inl (0, 7)], [], [(1, 3), (1, 4), (49, 999), (50, 999), (51, 999)], [(some (.inl (0, 0)), []), (some (.inl (1, 1)), [((2, 1, 2), (1, 260), none), ((2, 1, 3), (1, 260), none)])], 3, 64)
/-- LoadsAhead.Program readReckoning -/
theorem qk_163 (l : Launch) : ek_ok l tQ iQ kq_163 := ek_good_ok (sp := sQ) (K := [kq_120, kq_119, kq_161]) (SP := []) (HS := []) (N := 0) (fuel := 80) hIQ (List.forall_mem_cons.mpr ⟨qk_120 l, List.forall_mem_cons.mpr ⟨qk_119 l, List.forall_mem_cons.mpr ⟨qk_161 l, fun _ h => absurd h List.not_mem_nil⟩⟩⟩) (by decide +kernel)
def kq_164 : ek := (48, [.inr 47, .inr 3, .inl (0, 7)], [], [(1, 3), (1, 4), (48, 999), (49, 999), (50, 999), (51, 999), (52, 999)], [(some (.inl (0, 0)), []), (some (.inl (1, 1)), [((2, 1, 2), (1, 260), none)])], 4, 85)
/-- LoadsAhead.Program readMove -/
theorem qk_164 (l : Launch) : ek_ok l tQ iQ kq_164 := ek_good_ok (sp := sQ) (K := [kq_35, kq_125, kq_120, kq_36, kq_126, kq_37, kq_162, kq_161, kq_127]) (SP := []) (HS := []) (N := 0) (fuel := 138) hIQ (List.forall_mem_cons.mpr ⟨qk_35 l, List.forall_mem_cons.mpr ⟨qk_125 l, List.forall_mem_cons.mpr ⟨qk_120 l, List.forall_mem_cons.mpr ⟨qk_36 l, List.forall_mem_cons.mpr ⟨qk_126 l, List.forall_mem_cons.mpr ⟨qk_37 l, List.forall_mem_cons.mpr ⟨qk_162 l, List.forall_mem_cons.mpr ⟨qk_161 l, List.forall_mem_cons.mpr ⟨qk_127 l, fun _ h => absurd h List.not_mem_nil⟩⟩⟩⟩⟩⟩⟩⟩⟩) (by decide +kernel)
def kq_165 : ek := (42, [.inr 47, .inr 3, .inl (0, 4)], [], [(1, 3), (1, 4), (46, 999), (47, 999), (48, 999), (49, 999), (50, 999), (51, 999), (52, 999)], [(some (.inl (0, 0)), []), (some (.inl (1, 1)), [((2, 1, 2), (1, 260), none)])], 5, 107)
/-- LoadsAhead.Program readOp -/
theorem qk_165 (l : Launch) : ek_ok l tQ iQ kq_165 := ek_good_ok (sp := sQ) (K := [kq_35, kq_36, kq_117, kq_37, kq_162, kq_164, kq_163, kq_161, kq_118]) (SP := []) (HS := []) (N := 0) (fuel := 126) hIQ (List.forall_mem_cons.mpr ⟨qk_35 l, List.forall_mem_cons.mpr ⟨qk_36 l, List.forall_mem_cons.mpr ⟨qk_117 l, List.forall_mem_cons.mpr ⟨qk_37 l, List.forall_mem_cons.mpr ⟨qk_162 l, List.forall_mem_cons.mpr ⟨qk_164 l, List.forall_mem_cons.mpr ⟨qk_163 l, List.forall_mem_cons.mpr ⟨qk_161 l, List.forall_mem_cons.mpr ⟨qk_118 l, fun _ h => absurd h List.not_mem_nil⟩⟩⟩⟩⟩⟩⟩⟩⟩) (by decide +kernel)
def kq_166 : ek := (42, [.inr 47, .inr 3, .inl (0, 5)], [], [(1, 3), (1, 4), (46, 999), (47, 999), (48, 999), (49, 999), (50, 999), (51, 999), (52, 999)], [(some (.inl (0, 0)), []), (some (.inl (1, 1)), [((2, 1, 2), (1, 260), none)])], 5, 107)
/-- LoadsAhead.Program readOp -/
theorem qk_166 (l : Launch) : ek_ok l tQ iQ kq_166 := ek_good_ok (sp := sQ) (K := [kq_35, kq_36, kq_117, kq_37, kq_162, kq_164, kq_163, kq_161, kq_118]) (SP := []) (HS := []) (N := 0) (fuel := 126) hIQ (List.forall_mem_cons.mpr ⟨qk_35 l, List.forall_mem_cons.mpr ⟨qk_36 l, List.forall_mem_cons.mpr ⟨qk_117 l, List.forall_mem_cons.mpr ⟨qk_37 l, List.forall_mem_cons.mpr ⟨qk_162 l, List.forall_mem_cons.mpr ⟨qk_164 l, List.forall_mem_cons.mpr ⟨qk_163 l, List.forall_mem_cons.mpr ⟨qk_161 l, List.forall_mem_cons.mpr ⟨qk_118 l, fun _ h => absurd h List.not_mem_nil⟩⟩⟩⟩⟩⟩⟩⟩⟩) (by decide +kernel)
def kq_167 : ek := (42, [.inr 47, .inr 3, .inl (0, 6)], [], [(1, 3), (1, 4), (46, 999), (47, 999), (48, 999), (49, 999), (50, 999), (51, 999), (52, 999)], [(some (.inl (0, 0)), []), (some (.inl (1, 1)), [((2, 1, 2), (1, 260), none)])], 5, 107)
/-- LoadsAhead.Program readOp -/
theorem qk_167 (l : Launch) : ek_ok l tQ iQ kq_167 := ek_good_ok (sp := sQ) (K := [kq_35, kq_36, kq_117, kq_37, kq_162, kq_164, kq_163, kq_161, kq_118]) (SP := []) (HS := []) (N := 0) (fuel := 126) hIQ (List.forall_mem_cons.mpr ⟨qk_35 l, List.forall_mem_cons.mpr ⟨qk_36 l, List.forall_mem_cons.mpr ⟨qk_117 l, List.forall_mem_cons.mpr ⟨qk_37 l, List.forall_mem_cons.mpr ⟨qk_162 l, List.forall_mem_cons.mpr ⟨qk_164 l, List.forall_mem_cons.mpr ⟨qk_163 l, List.forall_mem_cons.mpr ⟨qk_161 l, List.forall_mem_cons.mpr ⟨qk_118 l, fun _ h => absurd h List.not_mem_nil⟩⟩⟩⟩⟩⟩⟩⟩⟩) (by decide +kernel)
def kq_168 : ek := (42, [.inr 47, .inr 3, .inl (0, 7)], [], [(1, 3), (1, 4), (46, 999), (47, 999), (48, 999), (49, 999), (50, 999), (51, 999), (52, 999)], [(some (.inl (0, 0)), []), (some (.inl (1, 1)), [((2, 1, 2), (1, 260), none)])], 5, 107)
/-- LoadsAhead.Program readOp -/
theorem qk_168 (l : Launch) : ek_ok l tQ iQ kq_168 := ek_good_ok (sp := sQ) (K := [kq_35, kq_36, kq_117, kq_37, kq_162, kq_164, kq_163, kq_161, kq_118]) (SP := []) (HS := []) (N := 0) (fuel := 126) hIQ (List.forall_mem_cons.mpr ⟨qk_35 l, List.forall_mem_cons.mpr ⟨qk_36 l, List.forall_mem_cons.mpr ⟨qk_117 l, List.forall_mem_cons.mpr ⟨qk_37 l, List.forall_mem_cons.mpr ⟨qk_162 l, List.forall_mem_cons.mpr ⟨qk_164 l, List.forall_mem_cons.mpr ⟨qk_163 l, List.forall_mem_cons.mpr ⟨qk_161 l, List.forall_mem_cons.mpr ⟨qk_118 l, fun _ h => absurd h List.not_mem_nil⟩⟩⟩⟩⟩⟩⟩⟩⟩) (by decide +kernel)
def kq_169 : ek := (44, [.inr 47, .inr 3, .inl (0, 15)], [], [(1, 3), (1, 4), (49, 999)], [(some (.inl (1, 1)), [((2, 1, 2), (1, 260), none), ((2, 1, 3), (1, 260), none)]), (some (.inl (0, 0)), [])], 2, 42)
/-- LoadsAhead.Program readGiven -/
theorem qk_169 (l : Launch) : ek_ok l tQ iQ kq_169 := ek_good_ok (sp := sQ) (K := [kq_120, kq_119]) (SP := []) (HS := []) (N := 0) (fuel := 46) hIQ (List.forall_mem_cons.mpr ⟨qk_120 l, List.forall_mem_cons.mpr ⟨qk_119 l, fun _ h => absurd h List.not_mem_nil⟩⟩) (by decide +kernel)
def kq_170 : ek := (46, [.inr 47, .inr 3, .inl (0, 15)], [], [(1, 3), (1, 4), (52, 999)], [(some (.inl (1, 1)), []), (some (.inl (0, 0)), [])], 3, 63)
/-- LoadsAhead.Program readNumber -/
theorem qk_170 (l : Launch) : ek_ok l tQ iQ kq_170 := ek_good_ok (sp := sQ) (K := [kq_122]) (SP := []) (HS := []) (N := 0) (fuel := 40) hIQ (List.forall_mem_cons.mpr ⟨qk_122 l, fun _ h => absurd h List.not_mem_nil⟩) (by decide +kernel)
def kq_171 : ek := (47, [.inr 47, .inr 3, .inl (0, 15)], [], [(1, 3), (1, 4), (49, 999), (50, 999), (51, 999)], [(some (.inl (0, 0)), []), (some (.inl (1, 1)), [((2, 1, 2), (1, 260), none), ((2, 1, 3), (1, 260), none)])], 3, 64)
/-- LoadsAhead.Program readReckoning -/
theorem qk_171 (l : Launch) : ek_ok l tQ iQ kq_171 := ek_good_ok (sp := sQ) (K := [kq_120, kq_119, kq_169]) (SP := []) (HS := []) (N := 0) (fuel := 80) hIQ (List.forall_mem_cons.mpr ⟨qk_120 l, List.forall_mem_cons.mpr ⟨qk_119 l, List.forall_mem_cons.mpr ⟨qk_169 l, fun _ h => absurd h List.not_mem_nil⟩⟩⟩) (by decide +kernel)
def kq_172 : ek := (48, [.inr 47, .inr 3, .inl (0, 15)], [], [(1, 3), (1, 4), (48, 999), (49, 999), (50, 999), (51, 999), (52, 999)], [(some (.inl (0, 0)), []), (some (.inl (1, 1)), [((2, 1, 2), (1, 260), none)])], 4, 85)
/-- LoadsAhead.Program readMove -/
theorem qk_172 (l : Launch) : ek_ok l tQ iQ kq_172 := ek_good_ok (sp := sQ) (K := [kq_35, kq_125, kq_120, kq_36, kq_126, kq_37, kq_169, kq_170, kq_127]) (SP := []) (HS := []) (N := 0) (fuel := 138) hIQ (List.forall_mem_cons.mpr ⟨qk_35 l, List.forall_mem_cons.mpr ⟨qk_125 l, List.forall_mem_cons.mpr ⟨qk_120 l, List.forall_mem_cons.mpr ⟨qk_36 l, List.forall_mem_cons.mpr ⟨qk_126 l, List.forall_mem_cons.mpr ⟨qk_37 l, List.forall_mem_cons.mpr ⟨qk_169 l, List.forall_mem_cons.mpr ⟨qk_170 l, List.forall_mem_cons.mpr ⟨qk_127 l, fun _ h => absurd h List.not_mem_nil⟩⟩⟩⟩⟩⟩⟩⟩⟩) (by decide +kernel)
def kq_173 : ek := (42, [.inr 47, .inr 3, .inl (0, 8)], [], [(1, 3), (1, 4), (46, 999), (47, 999), (48, 999), (49, 999), (50, 999), (51, 999), (52, 999)], [(some (.inl (0, 0)), []), (some (.inl (1, 1)), [((2, 1, 2), (1, 260), none)])], 5, 107)
/-- LoadsAhead.Program readOp -/
theorem qk_173 (l : Launch) : ek_ok l tQ iQ kq_173 := ek_good_ok (sp := sQ) (K := [kq_35, kq_36, kq_117, kq_37, kq_171, kq_169, kq_170, kq_172, kq_118]) (SP := []) (HS := []) (N := 0) (fuel := 126) hIQ (List.forall_mem_cons.mpr ⟨qk_35 l, List.forall_mem_cons.mpr ⟨qk_36 l, List.forall_mem_cons.mpr ⟨qk_117 l, List.forall_mem_cons.mpr ⟨qk_37 l, List.forall_mem_cons.mpr ⟨qk_171 l, List.forall_mem_cons.mpr ⟨qk_169 l, List.forall_mem_cons.mpr ⟨qk_170 l, List.forall_mem_cons.mpr ⟨qk_172 l, List.forall_mem_cons.mpr ⟨qk_118 l, fun _ h => absurd h List.not_mem_nil⟩⟩⟩⟩⟩⟩⟩⟩⟩) (by decide +kernel)
def kq_174 : ek := (42, [.inr 47, .inr 3, .inl (0, 9)], [], [(1, 3), (1, 4), (46, 999), (47, 999), (48, 999), (49, 999), (50, 999), (51, 999), (52, 999)], [(some (.inl (0, 0)), []), (some (.inl (1, 1)), [((2, 1, 2), (1, 260), none)])], 5, 107)
/-- LoadsAhead.Program readOp -/
theorem qk_174 (l : Launch) : ek_ok l tQ iQ kq_174 := ek_good_ok (sp := sQ) (K := [kq_35, kq_36, kq_117, kq_37, kq_171, kq_169, kq_170, kq_172, kq_118]) (SP := []) (HS := []) (N := 0) (fuel := 126) hIQ (List.forall_mem_cons.mpr ⟨qk_35 l, List.forall_mem_cons.mpr ⟨qk_36 l, List.forall_mem_cons.mpr ⟨qk_117 l, List.forall_mem_cons.mpr ⟨qk_37 l, List.forall_mem_cons.mpr ⟨qk_171 l, List.forall_mem_cons.mpr ⟨qk_169 l, List.forall_mem_cons.mpr ⟨qk_170 l, List.forall_mem_cons.mpr ⟨qk_172 l, List.forall_mem_cons.mpr ⟨qk_118 l, fun _ h => absurd h List.not_mem_nil⟩⟩⟩⟩⟩⟩⟩⟩⟩) (by decide +kernel)
def kq_175 : ek := (42, [.inr 47, .inr 3, .inl (0, 15)], [], [(1, 3), (1, 4), (46, 999), (47, 999), (48, 999), (49, 999), (50, 999), (51, 999), (52, 999)], [(some (.inl (0, 0)), []), (some (.inl (1, 1)), [((2, 1, 2), (1, 260), none)])], 5, 107)
/-- LoadsAhead.Program readOp -/
theorem qk_175 (l : Launch) : ek_ok l tQ iQ kq_175 := ek_good_ok (sp := sQ) (K := [kq_35, kq_36, kq_117, kq_37, kq_171, kq_169, kq_170, kq_172, kq_118]) (SP := []) (HS := []) (N := 0) (fuel := 126) hIQ (List.forall_mem_cons.mpr ⟨qk_35 l, List.forall_mem_cons.mpr ⟨qk_36 l, List.forall_mem_cons.mpr ⟨qk_117 l, List.forall_mem_cons.mpr ⟨qk_37 l, List.forall_mem_cons.mpr ⟨qk_171 l, List.forall_mem_cons.mpr ⟨qk_169 l, List.forall_mem_cons.mpr ⟨qk_170 l, List.forall_mem_cons.mpr ⟨qk_172 l, List.forall_mem_cons.mpr ⟨qk_118 l, fun _ h => absurd h List.not_mem_nil⟩⟩⟩⟩⟩⟩⟩⟩⟩) (by decide +kernel)
def kq_176 : ek := (42, [.inr 47, .inr 3, .inl (0, 16)], [], [(1, 3), (1, 4), (46, 999), (47, 999), (48, 999), (49, 999), (50, 999), (51, 999), (52, 999)], [(some (.inl (0, 0)), []), (some (.inl (1, 1)), [((2, 1, 2), (1, 260), none)])], 5, 107)
/-- LoadsAhead.Program readOp -/
theorem qk_176 (l : Launch) : ek_ok l tQ iQ kq_176 := ek_good_ok (sp := sQ) (K := [kq_35, kq_36, kq_117, kq_37, kq_121, kq_128, kq_123, kq_124, kq_118]) (SP := []) (HS := []) (N := 0) (fuel := 126) hIQ (List.forall_mem_cons.mpr ⟨qk_35 l, List.forall_mem_cons.mpr ⟨qk_36 l, List.forall_mem_cons.mpr ⟨qk_117 l, List.forall_mem_cons.mpr ⟨qk_37 l, List.forall_mem_cons.mpr ⟨qk_121 l, List.forall_mem_cons.mpr ⟨qk_128 l, List.forall_mem_cons.mpr ⟨qk_123 l, List.forall_mem_cons.mpr ⟨qk_124 l, List.forall_mem_cons.mpr ⟨qk_118 l, fun _ h => absurd h List.not_mem_nil⟩⟩⟩⟩⟩⟩⟩⟩⟩) (by decide +kernel)
def kq_177 : ek := (42, [.inr 47, .inr 3, .inl (0, 17)], [], [(1, 3), (1, 4), (46, 999), (47, 999), (48, 999), (49, 999), (50, 999), (51, 999), (52, 999)], [(some (.inl (0, 0)), []), (some (.inl (1, 1)), [((2, 1, 2), (1, 260), none)])], 5, 107)
/-- LoadsAhead.Program readOp -/
theorem qk_177 (l : Launch) : ek_ok l tQ iQ kq_177 := ek_good_ok (sp := sQ) (K := [kq_35, kq_36, kq_117, kq_37, kq_121, kq_128, kq_123, kq_124, kq_118]) (SP := []) (HS := []) (N := 0) (fuel := 126) hIQ (List.forall_mem_cons.mpr ⟨qk_35 l, List.forall_mem_cons.mpr ⟨qk_36 l, List.forall_mem_cons.mpr ⟨qk_117 l, List.forall_mem_cons.mpr ⟨qk_37 l, List.forall_mem_cons.mpr ⟨qk_121 l, List.forall_mem_cons.mpr ⟨qk_128 l, List.forall_mem_cons.mpr ⟨qk_123 l, List.forall_mem_cons.mpr ⟨qk_124 l, List.forall_mem_cons.mpr ⟨qk_118 l, fun _ h => absurd h List.not_mem_nil⟩⟩⟩⟩⟩⟩⟩⟩⟩) (by decide +kernel)
def kq_178 : ek := (42, [.inr 47, .inr 3, .inl (0, 18)], [], [(1, 3), (1, 4), (46, 999), (47, 999), (48, 999), (49, 999), (50, 999), (51, 999), (52, 999)], [(some (.inl (0, 0)), []), (some (.inl (1, 1)), [((2, 1, 2), (1, 260), none)])], 5, 107)
/-- LoadsAhead.Program readOp -/
theorem qk_178 (l : Launch) : ek_ok l tQ iQ kq_178 := ek_good_ok (sp := sQ) (K := [kq_35, kq_36, kq_117, kq_37, kq_121, kq_128, kq_123, kq_124, kq_118]) (SP := []) (HS := []) (N := 0) (fuel := 126) hIQ (List.forall_mem_cons.mpr ⟨qk_35 l, List.forall_mem_cons.mpr ⟨qk_36 l, List.forall_mem_cons.mpr ⟨qk_117 l, List.forall_mem_cons.mpr ⟨qk_37 l, List.forall_mem_cons.mpr ⟨qk_121 l, List.forall_mem_cons.mpr ⟨qk_128 l, List.forall_mem_cons.mpr ⟨qk_123 l, List.forall_mem_cons.mpr ⟨qk_124 l, List.forall_mem_cons.mpr ⟨qk_118 l, fun _ h => absurd h List.not_mem_nil⟩⟩⟩⟩⟩⟩⟩⟩⟩) (by decide +kernel)
def kq_179 : ek := (40, [.inr 2, .inl (241, 2147483647)], [], [], [(some (.inl ((-1), (-1))), [])], 0, 0)
/-- LoadsAhead program -/
theorem qk_179 (l : Launch) : ek_ok l tQ iQ kq_179 := ek_good_ok (sp := sQ) (K := []) (SP := []) (HS := []) (N := 0) (fuel := 24) hIQ (fun _ h => absurd h List.not_mem_nil) (by decide +kernel)
def kq_180 : ek := (137, [.inl ((-2147483648), 0), .inl (1, 1), .inl (240, 240)], [], [], [(some (.inl (0, 0)), [])], 0, 0)
/-- LoadsAheadModel in -/
theorem qk_180 (l : Launch) : ek_ok l tQ iQ kq_180 := ek_good_ok (sp := sQ) (K := []) (SP := []) (HS := []) (N := 0) (fuel := 18) hIQ (fun _ h => absurd h List.not_mem_nil) (by decide +kernel)
def kq_181 : ek := (163, [.inr 86, .inl ((-2147483648), 0)], [], [], [(some (.inl ((-1), (-1))), [])], 1, 22)
/-- LoadsAheadModel program -/
theorem qk_181 (l : Launch) : ek_ok l tQ iQ kq_181 := ek_good_ok (sp := sQ) (K := [kq_180]) (SP := [(5, [(2, [0, 240])])]) (HS := []) (N := 0) (fuel := 22) hIQ (List.forall_mem_cons.mpr ⟨qk_180 l, fun _ h => absurd h List.not_mem_nil⟩) (by decide +kernel)
def kq_182 : ek := (137, [.inl (1, 240), .inl (1, 1), .inl (240, 240)], [], [], [(some (.inl (1, 1)), [])], 0, 0)
/-- LoadsAheadModel in -/
theorem qk_182 (l : Launch) : ek_ok l tQ iQ kq_182 := ek_good_ok (sp := sQ) (K := []) (SP := []) (HS := []) (N := 0) (fuel := 26) hIQ (fun _ h => absurd h List.not_mem_nil) (by decide +kernel)
def kq_183 : ek := (142, [.inr 86, .inl (0, 240)], [], [(84, 19), (84, 20), (84, 24), (84, 26)], [(none, [((2, 84, 19), (0, 0), none), ((2, 84, 24), (0, 0), none), ((2, 84, 26), (0, 0), none)])], 0, 0)
/-- LoadsAheadModel beginsText -/
theorem qk_183 (l : Launch) : ek_ok l tQ iQ kq_183 := ek_good_ok (sp := sQ) (K := []) (SP := []) (HS := []) (N := 0) (fuel := 34) hIQ (fun _ h => absurd h List.not_mem_nil) (by decide +kernel)
def kq_184 : ek := (144, [.inr 86], [], [], [(some (.inl (0, 255)), [((2, 84, 19), (0, 239), none), ((2, 84, 20), (1, 240), none)]), (some (.inl ((-1), (-1))), [])], 0, 0)
/-- LoadsAheadModel here -/
theorem qk_184 (l : Launch) : ek_ok l tQ iQ kq_184 := ek_good_ok (sp := sQ) (K := []) (SP := []) (HS := []) (N := 0) (fuel := 36) hIQ (fun _ h => absurd h List.not_mem_nil) (by decide +kernel)
def kq_185 : ek := (145, [.inr 86, .inl (1, 1), .inl (0, 240)], [], [(84, 21)], [(some (.inl (0, 0)), [])], 0, 0)
/-- LoadsAheadModel wrongAt -/
theorem qk_185 (l : Launch) : ek_ok l tQ iQ kq_185 := ek_good_ok (sp := sQ) (K := []) (SP := []) (HS := []) (N := 0) (fuel := 26) hIQ (fun _ h => absurd h List.not_mem_nil) (by decide +kernel)
def kq_186 : ek := (162, [.inr 86, .inl (59, 59)], [], [(84, 19), (84, 21)], [(some (.inl (0, 0)), []), (some (.inl (1, 1)), [((2, 84, 19), (1, 240), none), ((2, 84, 20), (1, 240), none)])], 1, 22)
/-- LoadsAheadModel takes -/
theorem qk_186 (l : Launch) : ek_ok l tQ iQ kq_186 := ek_good_ok (sp := sQ) (K := [kq_184, kq_185]) (SP := []) (HS := []) (N := 0) (fuel := 32) hIQ (List.forall_mem_cons.mpr ⟨qk_184 l, List.forall_mem_cons.mpr ⟨qk_185 l, fun _ h => absurd h List.not_mem_nil⟩⟩) (by decide +kernel)
def kq_187 : ek := (162, [.inr 86, .inl (44, 44)], [], [(84, 19), (84, 21)], [(some (.inl (0, 0)), []), (some (.inl (1, 1)), [((2, 84, 19), (1, 240), none), ((2, 84, 20), (1, 240), none)])], 1, 22)
/-- LoadsAheadModel takes -/
theorem qk_187 (l : Launch) : ek_ok l tQ iQ kq_187 := ek_good_ok (sp := sQ) (K := [kq_184, kq_185]) (SP := []) (HS := []) (N := 0) (fuel := 32) hIQ (List.forall_mem_cons.mpr ⟨qk_184 l, List.forall_mem_cons.mpr ⟨qk_185 l, fun _ h => absurd h List.not_mem_nil⟩⟩) (by decide +kernel)
def kq_188 : ek := (165, [.inl ((-1), (-1))], [], [], [(some (.inl ((-1), (-1))), [])], 0, 0)
/-- LoadsAheadModel kindBy -/
theorem qk_188 (l : Launch) : ek_ok l tQ iQ kq_188 := ek_good_ok (sp := sQ) (K := []) (SP := []) (HS := []) (N := 0) (fuel := 16) hIQ (fun _ h => absurd h List.not_mem_nil) (by decide +kernel)
def kq_189 : ek := (165, [.inl (0, 255)], [], [], [(some (.inl ((-1), (-1))), []), (some (.inl (0, 3)), [])], 0, 0)
/-- LoadsAheadModel kindBy -/
theorem qk_189 (l : Launch) : ek_ok l tQ iQ kq_189 := ek_good_ok (sp := sQ) (K := []) (SP := []) (HS := []) (N := 0) (fuel := 16) hIQ (fun _ h => absurd h List.not_mem_nil) (by decide +kernel)
def kq_190 : ek := (166, [.inl ((-1), (-1))], [], [], [(some (.inl ((-1), (-1))), [])], 0, 0)
/-- LoadsAheadModel sizeBy -/
theorem qk_190 (l : Launch) : ek_ok l tQ iQ kq_190 := ek_good_ok (sp := sQ) (K := []) (SP := []) (HS := []) (N := 0) (fuel := 30) hIQ (fun _ h => absurd h List.not_mem_nil) (by decide +kernel)
def kq_191 : ek := (166, [.inl (0, 255)], [], [], [(some (.inl (1, 4)), []), (some (.inl ((-1), (-1))), [])], 0, 0)
/-- LoadsAheadModel sizeBy -/
theorem qk_191 (l : Launch) : ek_ok l tQ iQ kq_191 := ek_good_ok (sp := sQ) (K := []) (SP := []) (HS := []) (N := 0) (fuel := 32) hIQ (fun _ h => absurd h List.not_mem_nil) (by decide +kernel)
def kq_192 : ek := (162, [.inr 86, .inl (43, 43)], [], [(84, 19), (84, 21)], [(some (.inl (0, 0)), []), (some (.inl (1, 1)), [((2, 84, 19), (1, 240), none), ((2, 84, 20), (1, 240), none)])], 1, 22)
/-- LoadsAheadModel takes -/
theorem qk_192 (l : Launch) : ek_ok l tQ iQ kq_192 := ek_good_ok (sp := sQ) (K := [kq_184, kq_185]) (SP := []) (HS := []) (N := 0) (fuel := 32) hIQ (List.forall_mem_cons.mpr ⟨qk_184 l, List.forall_mem_cons.mpr ⟨qk_185 l, fun _ h => absurd h List.not_mem_nil⟩⟩) (by decide +kernel)
def kq_193 : ek := (145, [.inr 86, .inl (2, 2), .inl (0, 240)], [], [(84, 21)], [(some (.inl (0, 0)), [])], 0, 0)
/-- LoadsAheadModel wrongAt -/
theorem qk_193 (l : Launch) : ek_ok l tQ iQ kq_193 := ek_good_ok (sp := sQ) (K := []) (SP := []) (HS := []) (N := 0) (fuel := 26) hIQ (fun _ h => absurd h List.not_mem_nil) (by decide +kernel)
def kq_194 : ek := (149, [.inr 86], [], [], [(some (.inl (0, 0)), []), (some (.inl (1, 1)), [((2, 84, 19), (0, 239), none), ((2, 84, 20), (1, 240), none)])], 1, 20)
/-- LoadsAheadModel isDigit -/
theorem qk_194 (l : Launch) : ek_ok l tQ iQ kq_194 := ek_good_ok (sp := sQ) (K := [kq_184]) (SP := []) (HS := []) (N := 0) (fuel := 30) hIQ (List.forall_mem_cons.mpr ⟨qk_184 l, fun _ h => absurd h List.not_mem_nil⟩) (by decide +kernel)
def kq_195 : ek := (169, [.inr 86], [], [(84, 19), (84, 21), (84, 22)], [(some (.inl (0, 0)), []), (some (.inl (1, 1)), [])], 2, 40)
/-- LoadsAheadModel readsAmount -/
theorem qk_195 (l : Launch) : ek_ok l tQ iQ kq_195 := ek_good_ok (sp := sQ) (K := [kq_184, kq_194, kq_185, kq_193]) (SP := []) (HS := [((27, [some (.inr 86, none), some (.inl (0, 240), none)], [], [], []), [(0, (0, 0, 0), 0), (1, (2, 84, 19), 240), (0, (0, 0, 0), 0)])]) (N := 3) (fuel := 64) hIQ (List.forall_mem_cons.mpr ⟨qk_184 l, List.forall_mem_cons.mpr ⟨qk_194 l, List.forall_mem_cons.mpr ⟨qk_185 l, List.forall_mem_cons.mpr ⟨qk_193 l, fun _ h => absurd h List.not_mem_nil⟩⟩⟩⟩) (by decide +kernel)
def kq_222 : ek := (145, [.inr 86, .inl (4, 4), .inl (0, 240)], [], [(84, 21)], [(some (.inl (0, 0)), [])], 0, 0)
/-- LoadsAheadModel wrongAt -/
theorem qk_222 (l : Launch) : ek_ok l tQ iQ kq_222 := ek_good_ok (sp := sQ) (K := []) (SP := []) (HS := []) (N := 0) (fuel := 26) hIQ (fun _ h => absurd h List.not_mem_nil) (by decide +kernel)
def kq_223 : ek := (164, [.inr 86], [((2, 84, 41), (20, 20), none)], [(84, 21)], [(some (.inl (0, 0)), [((2, 84, 41), (20, 20), none)])], 1, 22)
/-- LoadsAheadModel readsOp -/
theorem qk_223 (l : Launch) : ek_ok l tQ iQ kq_223 := ek_good_ok (sp := sQ) (K := [kq_184, kq_188, kq_222, kq_185, kq_189]) (SP := []) (HS := []) (N := 0) (fuel := 42) hIQ (List.forall_mem_cons.mpr ⟨qk_184 l, List.forall_mem_cons.mpr ⟨qk_188 l, List.forall_mem_cons.mpr ⟨qk_222 l, List.forall_mem_cons.mpr ⟨qk_185 l, List.forall_mem_cons.mpr ⟨qk_189 l, fun _ h => absurd h List.not_mem_nil⟩⟩⟩⟩⟩) (by decide +kernel)
def kq_239 : ek := (137, [.inl (241, 2147483647), .inl (1, 1), .inl (240, 240)], [], [], [(some (.inl (0, 0)), [])], 0, 0)
/-- LoadsAheadModel in -/
theorem qk_239 (l : Launch) : ek_ok l tQ iQ kq_239 := ek_good_ok (sp := sQ) (K := []) (SP := []) (HS := []) (N := 0) (fuel := 24) hIQ (fun _ h => absurd h List.not_mem_nil) (by decide +kernel)
def kq_240 : ek := (163, [.inr 86, .inl (241, 2147483647)], [], [], [(some (.inl ((-1), (-1))), [])], 1, 22)
/-- LoadsAheadModel program -/
theorem qk_240 (l : Launch) : ek_ok l tQ iQ kq_240 := ek_good_ok (sp := sQ) (K := [kq_239]) (SP := [(5, [(2, [0, 240])])]) (HS := []) (N := 0) (fuel := 22) hIQ (List.forall_mem_cons.mpr ⟨qk_239 l, fun _ h => absurd h List.not_mem_nil⟩) (by decide +kernel)
def kq_241 : ek := (58, [.inr 2, .inl ((-2147483648), 0)], [], [], [(some (.inl (0, 0)), [])], 0, 0)
/-- LoadsAhead canRun -/
theorem qk_241 (l : Launch) : ek_ok l tQ iQ kq_241 := ek_good_ok (sp := sQ) (K := []) (SP := []) (HS := []) (N := 0) (fuel := 18) hIQ (fun _ h => absurd h List.not_mem_nil) (by decide +kernel)
def kq_242 : ek := (57, [.inr 2, .inl ((-2147483648), 0)], [], [], [(some (.inl ((-1), (-1))), [])], 1, 21)
/-- LoadsAhead run -/
theorem qk_242 (l : Launch) : ek_ok l tQ iQ kq_242 := ek_good_ok (sp := sQ) (K := [kq_241]) (SP := [(2, [(0, [0, 4])])]) (HS := []) (N := 0) (fuel := 20) hIQ (List.forall_mem_cons.mpr ⟨qk_241 l, fun _ h => absurd h List.not_mem_nil⟩) (by decide +kernel)
def kq_243 : ek := (58, [.inr 2, .inl (1, 4)], [], [], [(some (.inl (1, 1)), [((2, 4, 11), (1, 20), none)]), (some (.inl (0, 0)), [((2, 4, 11), (0, 0), none)])], 0, 0)
/-- LoadsAhead canRun -/
theorem qk_243 (l : Launch) : ek_ok l tQ iQ kq_243 := ek_good_ok (sp := sQ) (K := []) (SP := []) (HS := []) (N := 0) (fuel := 36) hIQ (fun _ h => absurd h List.not_mem_nil) (by decide +kernel)
def kq_244 : ek := (6, [.inr 41, .inl (0, 0)], [], [(39, 999)], [(none, [])], 0, 0)
/-- java/util/Arrays fill -/
theorem qk_244 (l : Launch) : ek_ok l tQ iQ kq_244 := ek_good_ok (sp := sQ) (K := []) (SP := []) (HS := [((5, [some (.inr 41, none), some (.inl (0, 0), none), some (.inl (0, 20), none), some (.inl (20, 20), none)], [], [], []), [(0, (0, 0, 0), 0), (1, (1, 2, 0), 20), (0, (0, 0, 0), 0)])]) (N := 3) (fuel := 28) hIQ (fun _ h => absurd h List.not_mem_nil) (by decide +kernel)
def kq_245 : ek := (62, [.inr 30, .inr 26], [], [(28, 4), (28, 5), (29, 999), (30, 999)], [(none, [])], 1, 65)
/-- LoadsAhead.State copyCellsFrom -/
theorem qk_245 (l : Launch) : ek_ok l tQ iQ kq_245 := ek_good_ok (sp := sQ) (K := []) (SP := []) (HS := []) (N := 0) (fuel := 58) hIQ (fun _ h => absurd h List.not_mem_nil) (by decide +kernel)
def kq_246 : ek := (63, [.inr 30, .inr 26], [], [(28, 3), (31, 999)], [(none, [])], 1, 65)
/-- LoadsAhead.State copySetsFrom -/
theorem qk_246 (l : Launch) : ek_ok l tQ iQ kq_246 := ek_good_ok (sp := sQ) (K := []) (SP := []) (HS := []) (N := 0) (fuel := 34) hIQ (fun _ h => absurd h List.not_mem_nil) (by decide +kernel)
def kq_247 : ek := (61, [.inr 30, .inr 26], [], [(28, 3), (28, 4), (28, 5), (29, 999), (30, 999), (31, 999)], [(none, [])], 2, 86)
/-- LoadsAhead.State copyFrom -/
theorem qk_247 (l : Launch) : ek_ok l tQ iQ kq_247 := ek_good_ok (sp := sQ) (K := [kq_246, kq_245]) (SP := []) (HS := []) (N := 0) (fuel := 22) hIQ (List.forall_mem_cons.mpr ⟨qk_246 l, List.forall_mem_cons.mpr ⟨qk_245 l, fun _ h => absurd h List.not_mem_nil⟩⟩) (by decide +kernel)
