def kq_119 : ek := (26, [.inr 3, .inl (44, 44)], [], [(1, 3), (1, 4)], [(some (.inl (0, 0)), []), (some (.inl (1, 1)), [((2, 1, 2), (1, 260), none), ((2, 1, 3), (1, 260), none)])], 1, 21)
/-- LoadsAhead.Tape accept -/
theorem qk_119 (l : Launch) : ek_ok l tQ iQ kq_119 := ek_good_ok (sp := sQ) (K := [kq_36, kq_35]) (SP := []) (HS := []) (N := 0) (fuel := 32) hIQ (List.forall_mem_cons.mpr ⟨qk_36 l, List.forall_mem_cons.mpr ⟨qk_35 l, fun _ h => absurd h List.not_mem_nil⟩⟩) (by decide +kernel)
def kq_120 : ek := (45, [.inr 3], [], [(1, 3), (1, 4)], [(some (.inl ((-1), (-1))), []), (some (.inl (0, 7)), [((2, 1, 2), (1, 260), none), ((2, 1, 3), (1, 260), none)])], 1, 21)
/-- LoadsAhead.Tape readRegister -/
theorem qk_120 (l : Launch) : ek_ok l tQ iQ kq_120 := ek_good_ok (sp := sQ) (K := [kq_36, kq_35]) (SP := []) (HS := []) (N := 0) (fuel := 44) hIQ (List.forall_mem_cons.mpr ⟨qk_36 l, List.forall_mem_cons.mpr ⟨qk_35 l, fun _ h => absurd h List.not_mem_nil⟩⟩) (by decide +kernel)
def kq_121 : ek := (44, [.inr 47, .inr 3, .inl (0, 19)], [], [(1, 3), (1, 4), (49, 999)], [(some (.inl (1, 1)), [((2, 1, 2), (1, 260), none), ((2, 1, 3), (1, 260), none)]), (some (.inl (0, 0)), [])], 2, 42)
/-- LoadsAhead.Program readGiven -/
theorem qk_121 (l : Launch) : ek_ok l tQ iQ kq_121 := ek_good_ok (sp := sQ) (K := [kq_120, kq_119]) (SP := []) (HS := []) (N := 0) (fuel := 46) hIQ (List.forall_mem_cons.mpr ⟨qk_120 l, List.forall_mem_cons.mpr ⟨qk_119 l, fun _ h => absurd h List.not_mem_nil⟩⟩) (by decide +kernel)
def kq_122 : ek := (28, [.inr 3, .inl (4, 4)], [], [(1, 3), (1, 4)], [(some (.inl ((-1), (-1))), []), (some (.inl ((-2147483648), 2147483647)), [])], 2, 40)
/-- LoadsAhead.Tape readDigits -/
theorem qk_122 (l : Launch) : ek_ok l tQ iQ kq_122 := ek_good_ok (sp := sQ) (K := [kq_41, kq_40, kq_36, kq_35]) (SP := []) (HS := [((4, [some (.inr 3, none), some (.inl (4, 4), none), some (.inl ((-2147483648), 2147483647), none), some (.inl (0, 4), none)], [], [], []), [(0, (0, 0, 0), 0), (1, (1, 3, 0), 4), (0, (0, 0, 0), 0)])]) (N := 3) (fuel := 66) hIQ (List.forall_mem_cons.mpr ⟨qk_41 l, List.forall_mem_cons.mpr ⟨qk_40 l, List.forall_mem_cons.mpr ⟨qk_36 l, List.forall_mem_cons.mpr ⟨qk_35 l, fun _ h => absurd h List.not_mem_nil⟩⟩⟩⟩) (by decide +kernel)
def kq_123 : ek := (46, [.inr 47, .inr 3, .inl (0, 19)], [], [(1, 3), (1, 4), (52, 999)], [(some (.inl (1, 1)), []), (some (.inl (0, 0)), [])], 3, 63)
/-- LoadsAhead.Program readNumber -/
theorem qk_123 (l : Launch) : ek_ok l tQ iQ kq_123 := ek_good_ok (sp := sQ) (K := [kq_122]) (SP := []) (HS := []) (N := 0) (fuel := 40) hIQ (List.forall_mem_cons.mpr ⟨qk_122 l, fun _ h => absurd h List.not_mem_nil⟩) (by decide +kernel)
def kq_124 : ek := (47, [.inr 47, .inr 3, .inl (0, 19)], [], [(1, 3), (1, 4), (49, 999), (50, 999), (51, 999)], [(some (.inl (0, 0)), []), (some (.inl (1, 1)), [((2, 1, 2), (1, 260), none), ((2, 1, 3), (1, 260), none)])], 3, 64)
/-- LoadsAhead.Program readReckoning -/
theorem qk_124 (l : Launch) : ek_ok l tQ iQ kq_124 := ek_good_ok (sp := sQ) (K := [kq_120, kq_119, kq_121]) (SP := []) (HS := []) (N := 0) (fuel := 80) hIQ (List.forall_mem_cons.mpr ⟨qk_120 l, List.forall_mem_cons.mpr ⟨qk_119 l, List.forall_mem_cons.mpr ⟨qk_121 l, fun _ h => absurd h List.not_mem_nil⟩⟩⟩) (by decide +kernel)
def kq_125 : ek := (26, [.inr 3, .inl (43, 43)], [], [(1, 3), (1, 4)], [(some (.inl (0, 0)), []), (some (.inl (1, 1)), [((2, 1, 2), (1, 260), none), ((2, 1, 3), (1, 260), none)])], 1, 21)
/-- LoadsAhead.Tape accept -/
theorem qk_125 (l : Launch) : ek_ok l tQ iQ kq_125 := ek_good_ok (sp := sQ) (K := [kq_36, kq_35]) (SP := []) (HS := []) (N := 0) (fuel := 32) hIQ (List.forall_mem_cons.mpr ⟨qk_36 l, List.forall_mem_cons.mpr ⟨qk_35 l, fun _ h => absurd h List.not_mem_nil⟩⟩) (by decide +kernel)
def kq_126 : ek := (49, [.inl ((-1), (-1))], [], [], [(some (.inl (0, 0)), [])], 0, 0)
/-- LoadsAhead.Program sizeOf -/
theorem qk_126 (l : Launch) : ek_ok l tQ iQ kq_126 := ek_good_ok (sp := sQ) (K := []) (SP := []) (HS := []) (N := 0) (fuel := 16) hIQ (fun _ h => absurd h List.not_mem_nil) (by decide +kernel)
def kq_127 : ek := (49, [.inl (0, 255)], [], [], [(some (.inl (0, 4)), [])], 0, 0)
/-- LoadsAhead.Program sizeOf -/
theorem qk_127 (l : Launch) : ek_ok l tQ iQ kq_127 := ek_good_ok (sp := sQ) (K := []) (SP := []) (HS := []) (N := 0) (fuel := 16) hIQ (fun _ h => absurd h List.not_mem_nil) (by decide +kernel)
def kq_128 : ek := (48, [.inr 47, .inr 3, .inl (0, 19)], [], [(1, 3), (1, 4), (48, 999), (49, 999), (50, 999), (51, 999), (52, 999)], [(some (.inl (0, 0)), []), (some (.inl (1, 1)), [((2, 1, 2), (1, 260), none)])], 4, 85)
/-- LoadsAhead.Program readMove -/
theorem qk_128 (l : Launch) : ek_ok l tQ iQ kq_128 := ek_good_ok (sp := sQ) (K := [kq_35, kq_125, kq_120, kq_36, kq_126, kq_37, kq_121, kq_123, kq_127]) (SP := []) (HS := []) (N := 0) (fuel := 138) hIQ (List.forall_mem_cons.mpr ⟨qk_35 l, List.forall_mem_cons.mpr ⟨qk_125 l, List.forall_mem_cons.mpr ⟨qk_120 l, List.forall_mem_cons.mpr ⟨qk_36 l, List.forall_mem_cons.mpr ⟨qk_126 l, List.forall_mem_cons.mpr ⟨qk_37 l, List.forall_mem_cons.mpr ⟨qk_121 l, List.forall_mem_cons.mpr ⟨qk_123 l, List.forall_mem_cons.mpr ⟨qk_127 l, fun _ h => absurd h List.not_mem_nil⟩⟩⟩⟩⟩⟩⟩⟩⟩) (by decide +kernel)
def kq_129 : ek := (42, [.inr 47, .inr 3, .inl (0, 19)], [], [(1, 3), (1, 4), (46, 999), (47, 999), (48, 999), (49, 999), (50, 999), (51, 999), (52, 999)], [(some (.inl (0, 0)), []), (some (.inl (1, 1)), [((2, 1, 2), (1, 260), none)])], 5, 107)
/-- LoadsAhead.Program readOp -/
theorem qk_129 (l : Launch) : ek_ok l tQ iQ kq_129 := ek_good_ok (sp := sQ) (K := [kq_35, kq_36, kq_117, kq_37, kq_121, kq_128, kq_123, kq_124, kq_118]) (SP := []) (HS := []) (N := 0) (fuel := 126) hIQ (List.forall_mem_cons.mpr ⟨qk_35 l, List.forall_mem_cons.mpr ⟨qk_36 l, List.forall_mem_cons.mpr ⟨qk_117 l, List.forall_mem_cons.mpr ⟨qk_37 l, List.forall_mem_cons.mpr ⟨qk_121 l, List.forall_mem_cons.mpr ⟨qk_128 l, List.forall_mem_cons.mpr ⟨qk_123 l, List.forall_mem_cons.mpr ⟨qk_124 l, List.forall_mem_cons.mpr ⟨qk_118 l, fun _ h => absurd h List.not_mem_nil⟩⟩⟩⟩⟩⟩⟩⟩⟩) (by decide +kernel)
def kq_130 : ek := (42, [.inr 47, .inr 3, .inl (20, 20)], [], [(1, 4)], [(some (.inl (0, 0)), [])], 1, 21)
/-- LoadsAhead.Program readOp -/
theorem qk_130 (l : Launch) : ek_ok l tQ iQ kq_130 := ek_good_ok (sp := sQ) (K := [kq_35, kq_96, kq_36, kq_117, kq_118]) (SP := []) (HS := []) (N := 0) (fuel := 40) hIQ (List.forall_mem_cons.mpr ⟨qk_35 l, List.forall_mem_cons.mpr ⟨qk_96 l, List.forall_mem_cons.mpr ⟨qk_36 l, List.forall_mem_cons.mpr ⟨qk_117 l, List.forall_mem_cons.mpr ⟨qk_118 l, fun _ h => absurd h List.not_mem_nil⟩⟩⟩⟩⟩) (by decide +kernel)
def kq_131 : ek := (52, [.inl ((-1), (-1))], [], [], [(some (.inl (0, 0)), [])], 0, 0)
/-- LoadsAhead isCell -/
theorem qk_131 (l : Launch) : ek_ok l tQ iQ kq_131 := ek_good_ok (sp := sQ) (K := []) (SP := []) (HS := []) (N := 0) (fuel := 16) hIQ (fun _ h => absurd h List.not_mem_nil) (by decide +kernel)
def kq_132 : ek := (52, [.inl (0, 7)], [], [], [(some (.inl (1, 1)), [])], 0, 0)
/-- LoadsAhead isCell -/
theorem qk_132 (l : Launch) : ek_ok l tQ iQ kq_132 := ek_good_ok (sp := sQ) (K := []) (SP := []) (HS := []) (N := 0) (fuel := 24) hIQ (fun _ h => absurd h List.not_mem_nil) (by decide +kernel)
def kq_133 : ek := (51, [.inr 47, .inl ((-1), 7)], [], [], [(some (.inl ((-1), 19)), []), (some (.inl ((-1), (-1))), [])], 1, 20)
/-- LoadsAhead.Program giverOfRegister -/
theorem qk_133 (l : Launch) : ek_ok l tQ iQ kq_133 := ek_good_ok (sp := sQ) (K := [kq_131, kq_132]) (SP := [(1, [(0, [(-1), 7])])]) (HS := []) (N := 0) (fuel := 26) hIQ (List.forall_mem_cons.mpr ⟨qk_131 l, List.forall_mem_cons.mpr ⟨qk_132 l, fun _ h => absurd h List.not_mem_nil⟩⟩) (by decide +kernel)
def kq_134 : ek := (53, [.inr 47, .inl ((-1), (-1))], [], [], [(some (.inl (0, 0)), [])], 0, 0)
/-- LoadsAhead.Program depthOf -/
theorem qk_134 (l : Launch) : ek_ok l tQ iQ kq_134 := ek_good_ok (sp := sQ) (K := []) (SP := []) (HS := []) (N := 0) (fuel := 16) hIQ (fun _ h => absurd h List.not_mem_nil) (by decide +kernel)
def kq_135 : ek := (53, [.inr 47, .inl ((-1), 19)], [], [], [(some (.inl ((-2147483648), 2147483647)), []), (some (.inl (0, 0)), [])], 0, 0)
/-- LoadsAhead.Program depthOf -/
theorem qk_135 (l : Launch) : ek_ok l tQ iQ kq_135 := ek_good_ok (sp := sQ) (K := []) (SP := []) (HS := []) (N := 0) (fuel := 30) hIQ (fun _ h => absurd h List.not_mem_nil) (by decide +kernel)
def kq_136 : ek := (6, [.inr 57, .inl ((-1), (-1))], [], [(55, 999)], [(none, [])], 0, 0)
/-- java/util/Arrays fill -/
theorem qk_136 (l : Launch) : ek_ok l tQ iQ kq_136 := ek_good_ok (sp := sQ) (K := []) (SP := []) (HS := [((5, [some (.inr 57, none), some (.inl ((-1), (-1)), none), some (.inl (0, 8), none), some (.inl (8, 8), none)], [], [], []), [(0, (0, 0, 0), 0), (1, (1, 2, 0), 8), (0, (0, 0, 0), 0)])]) (N := 3) (fuel := 28) hIQ (fun _ h => absurd h List.not_mem_nil) (by decide +kernel)
def kq_137 : ek := (50, [.inr 47], [], [(45, 12), (53, 999), (54, 999), (55, 999), (56, 999)], [(none, [])], 2, 41)
/-- LoadsAhead.Program findSources -/
theorem qk_137 (l : Launch) : ek_ok l tQ iQ kq_137 := ek_good_ok (sp := sQ) (K := [kq_134, kq_136, kq_131, kq_132, kq_133, kq_135]) (SP := [(115, [(0, [(-1), 7])])]) (HS := [((15, [some (.inr 47, none), some (.inl (0, 20), none)], [], [], []), [(0, (0, 0, 0), 0), (1, (1, 1, 0), 20), (0, (0, 0, 0), 0)])]) (N := 3) (fuel := 152) hIQ (List.forall_mem_cons.mpr ⟨qk_134 l, List.forall_mem_cons.mpr ⟨qk_136 l, List.forall_mem_cons.mpr ⟨qk_131 l, List.forall_mem_cons.mpr ⟨qk_132 l, List.forall_mem_cons.mpr ⟨qk_133 l, List.forall_mem_cons.mpr ⟨qk_135 l, fun _ h => absurd h List.not_mem_nil⟩⟩⟩⟩⟩⟩) (by decide +kernel)
def kq_138 : ek := (41, [.inr 47, .inr 3], [], [(1, 3), (1, 4), (45, 11), (45, 12), (46, 999), (47, 999), (48, 999), (49, 999), (50, 999), (51, 999), (52, 999), (53, 999), (54, 999), (55, 999), (56, 999)], [(some (.inl ((-2147483648), 2147483647)), []), (some (.inl (1, 20)), [((2, 1, 2), (1, 260), none), ((2, 1, 3), (0, 2147483647), none), ((2, 45, 11), (1, 20), none)])], 6, 131)
/-- LoadsAhead.Program readFrom -/
theorem qk_138 (l : Launch) : ek_ok l tQ iQ kq_138 := ek_good_ok (sp := sQ) (K := [kq_130, kq_98, kq_99, kq_100, kq_137, kq_129]) (SP := [(11, [(0, [19])])]) (HS := [((2, [some (.inr 47, none), some (.inr 3, none), some (.inl (0, 20), none)], [], [], []), [(0, (0, 0, 0), 0), (1, (1, 2, 0), 20), (0, (0, 0, 0), 0)])]) (N := 3) (fuel := 50) hIQ (List.forall_mem_cons.mpr ⟨qk_130 l, List.forall_mem_cons.mpr ⟨qk_98 l, List.forall_mem_cons.mpr ⟨qk_99 l, List.forall_mem_cons.mpr ⟨qk_100 l, List.forall_mem_cons.mpr ⟨qk_137 l, List.forall_mem_cons.mpr ⟨qk_129 l, fun _ h => absurd h List.not_mem_nil⟩⟩⟩⟩⟩⟩) (by decide +kernel)
def kq_139 : ek := (54, [.inr 6, .inr 47], [], [(4, 11), (4, 12), (5, 999), (6, 999), (7, 999), (8, 999), (9, 999), (10, 999), (11, 999), (12, 999), (13, 999)], [(none, [])], 1, 65)
/-- LoadsAhead.Program copyFrom -/
theorem qk_139 (l : Launch) : ek_ok l tQ iQ kq_139 := ek_good_ok (sp := sQ) (K := []) (SP := []) (HS := []) (N := 0) (fuel := 170) hIQ (fun _ h => absurd h List.not_mem_nil) (by decide +kernel)
def kq_140 : ek := (6, [.inr 29, .inl ((-1), (-1))], [], [(27, 999)], [(none, [])], 0, 0)
/-- java/util/Arrays fill -/
theorem qk_140 (l : Launch) : ek_ok l tQ iQ kq_140 := ek_good_ok (sp := sQ) (K := []) (SP := []) (HS := [((5, [some (.inr 29, none), some (.inl ((-1), (-1)), none), some (.inl (0, 20), none), some (.inl (20, 20), none)], [], [], []), [(0, (0, 0, 0), 0), (1, (1, 2, 0), 20), (0, (0, 0, 0), 0)])]) (N := 3) (fuel := 28) hIQ (fun _ h => absurd h List.not_mem_nil) (by decide +kernel)
def kq_141 : ek := (55, [.inr 26], [], [(27, 999)], [(none, [])], 1, 23)
/-- LoadsAhead.State dropSets -/
theorem qk_141 (l : Launch) : ek_ok l tQ iQ kq_141 := ek_good_ok (sp := sQ) (K := [kq_140]) (SP := []) (HS := []) (N := 0) (fuel := 18) hIQ (List.forall_mem_cons.mpr ⟨qk_140 l, fun _ h => absurd h List.not_mem_nil⟩) (by decide +kernel)
def kq_142 : ek := (6, [.inr 85, .inl (0, 0)], [], [(83, 999)], [(none, [])], 0, 0)
/-- java/util/Arrays fill -/
theorem qk_142 (l : Launch) : ek_ok l tQ iQ kq_142 := ek_good_ok (sp := sQ) (K := []) (SP := []) (HS := [((5, [some (.inr 85, none), some (.inl (0, 0), none), some (.inl (0, 2), none), some (.inl (2, 2), none)], [], [], []), [(0, (0, 0, 0), 0), (1, (1, 2, 0), 2), (0, (0, 0, 0), 0)])]) (N := 3) (fuel := 28) hIQ (fun _ h => absurd h List.not_mem_nil) (by decide +kernel)
def kq_143 : ek := (56, [.inr 84], [], [(83, 999)], [(none, [])], 1, 23)
/-- LoadsAhead.Rows clear -/
theorem qk_143 (l : Launch) : ek_ok l tQ iQ kq_143 := ek_good_ok (sp := sQ) (K := [kq_142]) (SP := []) (HS := []) (N := 0) (fuel := 18) hIQ (List.forall_mem_cons.mpr ⟨qk_142 l, fun _ h => absurd h List.not_mem_nil⟩) (by decide +kernel)
def kq_144 : ek := (40, [.inr 2, .inl (1, 240)], [], [(0, 8), (0, 10), (1, 1), (1, 2), (1, 3), (1, 4), (4, 11), (4, 12), (5, 999), (6, 999), (7, 999), (8, 999), (9, 999), (10, 999), (11, 999), (12, 999), (13, 999), (24, 3), (27, 999), (45, 11), (45, 12), (46, 999), (47, 999), (48, 999), (49, 999), (50, 999), (51, 999), (52, 999), (53, 999), (54, 999), (55, 999), (56, 999), (83, 999)], [(some (.inl ((-2147483648), (-1))), [((2, 1, 1), (0, 239), none)]), (some (.inl (0, 2147483647)), [((2, 0, 8), (0, 0), none), ((2, 0, 10), (1, 1), none), ((2, 1, 1), (0, 0), none), ((2, 1, 2), (0, 240), none), ((2, 24, 3), (0, 0), none)])], 7, 153)
/-- LoadsAhead program -/
theorem qk_144 (l : Launch) : ek_ok l tQ iQ kq_144 := ek_good_ok (sp := sQ) (K := [kq_139, kq_138, kq_143, kq_141, kq_103, kq_34]) (SP := []) (HS := []) (N := 0) (fuel := 112) hIQ (List.forall_mem_cons.mpr ⟨qk_139 l, List.forall_mem_cons.mpr ⟨qk_138 l, List.forall_mem_cons.mpr ⟨qk_143 l, List.forall_mem_cons.mpr ⟨qk_141 l, List.forall_mem_cons.mpr ⟨qk_103 l, List.forall_mem_cons.mpr ⟨qk_34 l, fun _ h => absurd h List.not_mem_nil⟩⟩⟩⟩⟩⟩) (by decide +kernel)
def kq_145 : ek := (44, [.inr 47, .inr 3, .inl (0, 0)], [], [(1, 3), (1, 4), (49, 999)], [(some (.inl (1, 1)), [((2, 1, 2), (1, 260), none), ((2, 1, 3), (1, 260), none)]), (some (.inl (0, 0)), [])], 2, 42)
/-- LoadsAhead.Program readGiven -/
theorem qk_145 (l : Launch) : ek_ok l tQ iQ kq_145 := ek_good_ok (sp := sQ) (K := [kq_120, kq_119]) (SP := []) (HS := []) (N := 0) (fuel := 46) hIQ (List.forall_mem_cons.mpr ⟨qk_120 l, List.forall_mem_cons.mpr ⟨qk_119 l, fun _ h => absurd h List.not_mem_nil⟩⟩) (by decide +kernel)
def kq_146 : ek := (46, [.inr 47, .inr 3, .inl (0, 0)], [], [(1, 3), (1, 4), (52, 999)], [(some (.inl (1, 1)), []), (some (.inl (0, 0)), [])], 3, 63)
/-- LoadsAhead.Program readNumber -/
theorem qk_146 (l : Launch) : ek_ok l tQ iQ kq_146 := ek_good_ok (sp := sQ) (K := [kq_122]) (SP := []) (HS := []) (N := 0) (fuel := 40) hIQ (List.forall_mem_cons.mpr ⟨qk_122 l, fun _ h => absurd h List.not_mem_nil⟩) (by decide +kernel)
def kq_147 : ek := (47, [.inr 47, .inr 3, .inl (0, 0)], [], [(1, 3), (1, 4), (49, 999), (50, 999), (51, 999)], [(some (.inl (0, 0)), []), (some (.inl (1, 1)), [((2, 1, 2), (1, 260), none), ((2, 1, 3), (1, 260), none)])], 3, 64)
/-- LoadsAhead.Program readReckoning -/
theorem qk_147 (l : Launch) : ek_ok l tQ iQ kq_147 := ek_good_ok (sp := sQ) (K := [kq_120, kq_119, kq_145]) (SP := []) (HS := []) (N := 0) (fuel := 80) hIQ (List.forall_mem_cons.mpr ⟨qk_120 l, List.forall_mem_cons.mpr ⟨qk_119 l, List.forall_mem_cons.mpr ⟨qk_145 l, fun _ h => absurd h List.not_mem_nil⟩⟩⟩) (by decide +kernel)
def kq_148 : ek := (48, [.inr 47, .inr 3, .inl (0, 0)], [], [(1, 3), (1, 4), (48, 999), (49, 999), (50, 999), (51, 999), (52, 999)], [(some (.inl (0, 0)), []), (some (.inl (1, 1)), [((2, 1, 2), (1, 260), none)])], 4, 85)
/-- LoadsAhead.Program readMove -/
theorem qk_148 (l : Launch) : ek_ok l tQ iQ kq_148 := ek_good_ok (sp := sQ) (K := [kq_145, kq_35, kq_146, kq_125, kq_120, kq_36, kq_126, kq_37, kq_127]) (SP := []) (HS := []) (N := 0) (fuel := 138) hIQ (List.forall_mem_cons.mpr ⟨qk_145 l, List.forall_mem_cons.mpr ⟨qk_35 l, List.forall_mem_cons.mpr ⟨qk_146 l, List.forall_mem_cons.mpr ⟨qk_125 l, List.forall_mem_cons.mpr ⟨qk_120 l, List.forall_mem_cons.mpr ⟨qk_36 l, List.forall_mem_cons.mpr ⟨qk_126 l, List.forall_mem_cons.mpr ⟨qk_37 l, List.forall_mem_cons.mpr ⟨qk_127 l, fun _ h => absurd h List.not_mem_nil⟩⟩⟩⟩⟩⟩⟩⟩⟩) (by decide +kernel)
def kq_149 : ek := (42, [.inr 47, .inr 3, .inl (0, 0)], [], [(1, 3), (1, 4), (46, 999), (47, 999), (48, 999), (49, 999), (50, 999), (51, 999), (52, 999)], [(some (.inl (0, 0)), []), (some (.inl (1, 1)), [((2, 1, 2), (1, 260), none)])], 5, 107)
/-- LoadsAhead.Program readOp -/
theorem qk_149 (l : Launch) : ek_ok l tQ iQ kq_149 := ek_good_ok (sp := sQ) (K := [kq_145, kq_35, kq_146, kq_148, kq_147, kq_36, kq_117, kq_37, kq_118]) (SP := []) (HS := []) (N := 0) (fuel := 126) hIQ (List.forall_mem_cons.mpr ⟨qk_145 l, List.forall_mem_cons.mpr ⟨qk_35 l, List.forall_mem_cons.mpr ⟨qk_146 l, List.forall_mem_cons.mpr ⟨qk_148 l, List.forall_mem_cons.mpr ⟨qk_147 l, List.forall_mem_cons.mpr ⟨qk_36 l, List.forall_mem_cons.mpr ⟨qk_117 l, List.forall_mem_cons.mpr ⟨qk_37 l, List.forall_mem_cons.mpr ⟨qk_118 l, fun _ h => absurd h List.not_mem_nil⟩⟩⟩⟩⟩⟩⟩⟩⟩) (by decide +kernel)
def kq_150 : ek := (44, [.inr 47, .inr 3, .inl (0, 1)], [], [(1, 3), (1, 4), (49, 999)], [(some (.inl (1, 1)), [((2, 1, 2), (1, 260), none), ((2, 1, 3), (1, 260), none)]), (some (.inl (0, 0)), [])], 2, 42)
/-- LoadsAhead.Program readGiven -/
theorem qk_150 (l : Launch) : ek_ok l tQ iQ kq_150 := ek_good_ok (sp := sQ) (K := [kq_120, kq_119]) (SP := []) (HS := []) (N := 0) (fuel := 46) hIQ (List.forall_mem_cons.mpr ⟨qk_120 l, List.forall_mem_cons.mpr ⟨qk_119 l, fun _ h => absurd h List.not_mem_nil⟩⟩) (by decide +kernel)
def kq_151 : ek := (46, [.inr 47, .inr 3, .inl (0, 1)], [], [(1, 3), (1, 4), (52, 999)], [(some (.inl (1, 1)), []), (some (.inl (0, 0)), [])], 3, 63)
/-- LoadsAhead.Program readNumber -/
theorem qk_151 (l : Launch) : ek_ok l tQ iQ kq_151 := ek_good_ok (sp := sQ) (K := [kq_122]) (SP := []) (HS := []) (N := 0) (fuel := 40) hIQ (List.forall_mem_cons.mpr ⟨qk_122 l, fun _ h => absurd h List.not_mem_nil⟩) (by decide +kernel)
def kq_152 : ek := (47, [.inr 47, .inr 3, .inl (0, 1)], [], [(1, 3), (1, 4), (49, 999), (50, 999), (51, 999)], [(some (.inl (0, 0)), []), (some (.inl (1, 1)), [((2, 1, 2), (1, 260), none), ((2, 1, 3), (1, 260), none)])], 3, 64)
/-- LoadsAhead.Program readReckoning -/
theorem qk_152 (l : Launch) : ek_ok l tQ iQ kq_152 := ek_good_ok (sp := sQ) (K := [kq_120, kq_119, kq_150]) (SP := []) (HS := []) (N := 0) (fuel := 80) hIQ (List.forall_mem_cons.mpr ⟨qk_120 l, List.forall_mem_cons.mpr ⟨qk_119 l, List.forall_mem_cons.mpr ⟨qk_150 l, fun _ h => absurd h List.not_mem_nil⟩⟩⟩) (by decide +kernel)
def kq_153 : ek := (48, [.inr 47, .inr 3, .inl (0, 1)], [], [(1, 3), (1, 4), (48, 999), (49, 999), (50, 999), (51, 999), (52, 999)], [(some (.inl (0, 0)), []), (some (.inl (1, 1)), [((2, 1, 2), (1, 260), none)])], 4, 85)
/-- LoadsAhead.Program readMove -/
theorem qk_153 (l : Launch) : ek_ok l tQ iQ kq_153 := ek_good_ok (sp := sQ) (K := [kq_35, kq_125, kq_120, kq_36, kq_126, kq_37, kq_151, kq_150, kq_127]) (SP := []) (HS := []) (N := 0) (fuel := 138) hIQ (List.forall_mem_cons.mpr ⟨qk_35 l, List.forall_mem_cons.mpr ⟨qk_125 l, List.forall_mem_cons.mpr ⟨qk_120 l, List.forall_mem_cons.mpr ⟨qk_36 l, List.forall_mem_cons.mpr ⟨qk_126 l, List.forall_mem_cons.mpr ⟨qk_37 l, List.forall_mem_cons.mpr ⟨qk_151 l, List.forall_mem_cons.mpr ⟨qk_150 l, List.forall_mem_cons.mpr ⟨qk_127 l, fun _ h => absurd h List.not_mem_nil⟩⟩⟩⟩⟩⟩⟩⟩⟩) (by decide +kernel)
def kq_154 : ek := (42, [.inr 47, .inr 3, .inl (0, 1)], [], [(1, 3), (1, 4), (46, 999), (47, 999), (48, 999), (49, 999), (50, 999), (51, 999), (52, 999)], [(some (.inl (0, 0)), []), (some (.inl (1, 1)), [((2, 1, 2), (1, 260), none)])], 5, 107)
/-- LoadsAhead.Program readOp -/
theorem qk_154 (l : Launch) : ek_ok l tQ iQ kq_154 := ek_good_ok (sp := sQ) (K := [kq_35, kq_36, kq_117, kq_37, kq_151, kq_152, kq_150, kq_153, kq_118]) (SP := []) (HS := []) (N := 0) (fuel := 126) hIQ (List.forall_mem_cons.mpr ⟨qk_35 l, List.forall_mem_cons.mpr ⟨qk_36 l, List.forall_mem_cons.mpr ⟨qk_117 l, List.forall_mem_cons.mpr ⟨qk_37 l, List.forall_mem_cons.mpr ⟨qk_151 l, List.forall_mem_cons.mpr ⟨qk_152 l, List.forall_mem_cons.mpr ⟨qk_150 l, List.forall_mem_cons.mpr ⟨qk_153 l, List.forall_mem_cons.mpr ⟨qk_118 l, fun _ h => absurd h List.not_mem_nil⟩⟩⟩⟩⟩⟩⟩⟩⟩) (by decide +kernel)
def kq_155 : ek := (44, [.inr 47, .inr 3, .inl (0, 3)], [], [(1, 3), (1, 4), (49, 999)], [(some (.inl (1, 1)), [((2, 1, 2), (1, 260), none), ((2, 1, 3), (1, 260), none)]), (some (.inl (0, 0)), [])], 2, 42)
/-- LoadsAhead.Program readGiven -/
theorem qk_155 (l : Launch) : ek_ok l tQ iQ kq_155 := ek_good_ok (sp := sQ) (K := [kq_120, kq_119]) (SP := []) (HS := []) (N := 0) (fuel := 46) hIQ (List.forall_mem_cons.mpr ⟨qk_120 l, List.forall_mem_cons.mpr ⟨qk_119 l, fun _ h => absurd h List.not_mem_nil⟩⟩) (by decide +kernel)
def kq_156 : ek := (46, [.inr 47, .inr 3, .inl (0, 3)], [], [(1, 3), (1, 4), (52, 999)], [(some (.inl (1, 1)), []), (some (.inl (0, 0)), [])], 3, 63)
/-- LoadsAhead.Program readNumber -/
theorem qk_156 (l : Launch) : ek_ok l tQ iQ kq_156 := ek_good_ok (sp := sQ) (K := [kq_122]) (SP := []) (HS := []) (N := 0) (fuel := 40) hIQ (List.forall_mem_cons.mpr ⟨qk_122 l, fun _ h => absurd h List.not_mem_nil⟩) (by decide +kernel)
def kq_157 : ek := (47, [.inr 47, .inr 3, .inl (0, 3)], [], [(1, 3), (1, 4), (49, 999), (50, 999), (51, 999)], [(some (.inl (0, 0)), []), (some (.inl (1, 1)), [((2, 1, 2), (1, 260), none), ((2, 1, 3), (1, 260), none)])], 3, 64)
/-- LoadsAhead.Program readReckoning -/
theorem qk_157 (l : Launch) : ek_ok l tQ iQ kq_157 := ek_good_ok (sp := sQ) (K := [kq_120, kq_119, kq_155]) (SP := []) (HS := []) (N := 0) (fuel := 80) hIQ (List.forall_mem_cons.mpr ⟨qk_120 l, List.forall_mem_cons.mpr ⟨qk_119 l, List.forall_mem_cons.mpr ⟨qk_155 l, fun _ h => absurd h List.not_mem_nil⟩⟩⟩) (by decide +kernel)
def kq_158 : ek := (48, [.inr 47, .inr 3, .inl (0, 3)], [], [(1, 3), (1, 4), (48, 999), (49, 999), (50, 999), (51, 999), (52, 999)], [(some (.inl (0, 0)), []), (some (.inl (1, 1)), [((2, 1, 2), (1, 260), none)])], 4, 85)
/-- LoadsAhead.Program readMove -/
theorem qk_158 (l : Launch) : ek_ok l tQ iQ kq_158 := ek_good_ok (sp := sQ) (K := [kq_35, kq_125, kq_120, kq_36, kq_126, kq_37, kq_156, kq_155, kq_127]) (SP := []) (HS := []) (N := 0) (fuel := 138) hIQ (List.forall_mem_cons.mpr ⟨qk_35 l, List.forall_mem_cons.mpr ⟨qk_125 l, List.forall_mem_cons.mpr ⟨qk_120 l, List.forall_mem_cons.mpr ⟨qk_36 l, List.forall_mem_cons.mpr ⟨qk_126 l, List.forall_mem_cons.mpr ⟨qk_37 l, List.forall_mem_cons.mpr ⟨qk_156 l, List.forall_mem_cons.mpr ⟨qk_155 l, List.forall_mem_cons.mpr ⟨qk_127 l, fun _ h => absurd h List.not_mem_nil⟩⟩⟩⟩⟩⟩⟩⟩⟩) (by decide +kernel)
def kq_159 : ek := (42, [.inr 47, .inr 3, .inl (0, 2)], [], [(1, 3), (1, 4), (46, 999), (47, 999), (48, 999), (49, 999), (50, 999), (51, 999), (52, 999)], [(some (.inl (0, 0)), []), (some (.inl (1, 1)), [((2, 1, 2), (1, 260), none)])], 5, 107)
/-- LoadsAhead.Program readOp -/
theorem qk_159 (l : Launch) : ek_ok l tQ iQ kq_159 := ek_good_ok (sp := sQ) (K := [kq_35, kq_36, kq_117, kq_37, kq_156, kq_157, kq_155, kq_158, kq_118]) (SP := []) (HS := []) (N := 0) (fuel := 126) hIQ (List.forall_mem_cons.mpr ⟨qk_35 l, List.forall_mem_cons.mpr ⟨qk_36 l, List.forall_mem_cons.mpr ⟨qk_117 l, List.forall_mem_cons.mpr ⟨qk_37 l, List.forall_mem_cons.mpr ⟨qk_156 l, List.forall_mem_cons.mpr ⟨qk_157 l, List.forall_mem_cons.mpr ⟨qk_155 l, List.forall_mem_cons.mpr ⟨qk_158 l, List.forall_mem_cons.mpr ⟨qk_118 l, fun _ h => absurd h List.not_mem_nil⟩⟩⟩⟩⟩⟩⟩⟩⟩) (by decide +kernel)
