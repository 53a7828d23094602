def kq_1023 : ek := (110, [.inr 2, .inl (8, 99)], [], [], [(some (.inl ((-100000), (-100000))), [])], 1, 20)
/-- LoadsAhead plain -/
theorem qk_1023 (l : Launch) : ek_ok l tQ iQ kq_1023 := ek_good_ok (sp := sQ) (K := [kq_997, kq_996]) (SP := [(1, [(0, [(-1), 7])]), (8, [(0, [99, 163])])]) (HS := []) (N := 0) (fuel := 24) hIQ (List.forall_mem_cons.mpr ⟨qk_997 l, List.forall_mem_cons.mpr ⟨qk_996 l, fun _ h => absurd h List.not_mem_nil⟩⟩) (by decide +kernel)
def kq_1024 : ek := (110, [.inr 2, .inl (100, 163)], [], [(66, 3), (66, 4), (66, 5), (67, 999), (68, 999), (69, 999), (70, 999)], [(some (.inl ((-2147483648), 2147483647)), [])], 4, 132)
/-- LoadsAhead plain -/
theorem qk_1024 (l : Launch) : ek_ok l tQ iQ kq_1024 := ek_good_ok (sp := sQ) (K := [kq_1021, kq_999, kq_898]) (SP := [(1, [(0, [(-1), 7])]), (8, [(0, [99, 163])]), (39, [(0, [(-1), 7])])]) (HS := []) (N := 0) (fuel := 62) hIQ (List.forall_mem_cons.mpr ⟨qk_1021 l, List.forall_mem_cons.mpr ⟨qk_999 l, List.forall_mem_cons.mpr ⟨qk_898 l, fun _ h => absurd h List.not_mem_nil⟩⟩⟩) (by decide +kernel)
def kq_1025 : ek := (110, [.inr 2, .inl (164, 2147483647)], [], [], [(some (.inl ((-100000), (-100000))), [])], 1, 20)
/-- LoadsAhead plain -/
theorem qk_1025 (l : Launch) : ek_ok l tQ iQ kq_1025 := ek_good_ok (sp := sQ) (K := [kq_1001, kq_902]) (SP := [(1, [(0, [(-1), 7])]), (8, [(0, [99, 163])])]) (HS := []) (N := 0) (fuel := 24) hIQ (List.forall_mem_cons.mpr ⟨qk_1001 l, List.forall_mem_cons.mpr ⟨qk_902 l, fun _ h => absurd h List.not_mem_nil⟩⟩) (by decide +kernel)
def kq_1026 : ek := (220, [.inr 86, .inl (0, 19)], [], [(140, 999), (141, 999), (142, 999)], [(none, [])], 1, 22)
/-- LoadsAheadModel doesPlain -/
theorem qk_1026 (l : Launch) : ek_ok l tQ iQ kq_1026 := ek_good_ok (sp := sQ) (K := [kq_438, kq_420]) (SP := []) (HS := [((128, [some (.inr 86, none), some (.inl (0, 19), none), some (.inl ((-2147483648), 2147483647), none), some (.inl ((-2147483648), 2147483647), none), some (.inl (0, 4), none), none], [], [], []), [(0, (0, 0, 0), 0), (1, (1, 4, 0), 4), (0, (0, 0, 0), 0)])]) (N := 3) (fuel := 92) hIQ (List.forall_mem_cons.mpr ⟨qk_438 l, List.forall_mem_cons.mpr ⟨qk_420 l, fun _ h => absurd h List.not_mem_nil⟩⟩) (by decide +kernel)
def kq_1027 : ek := (219, [.inr 86], [], [(140, 999), (141, 999), (142, 999)], [(none, [])], 2, 47)
/-- LoadsAheadModel goesPlain -/
theorem qk_1027 (l : Launch) : ek_ok l tQ iQ kq_1027 := ek_good_ok (sp := sQ) (K := [kq_1026]) (SP := []) (HS := [((2, [some (.inr 86, none), some (.inl (0, 8), none)], [], [], []), [(0, (0, 0, 0), 2), (1, (1, 1, 0), 8), (0, (0, 0, 0), 0)]), ((28, [some (.inr 86, none), some (.inl (0, 64), none)], [], [], []), [(0, (0, 0, 0), 1), (1, (1, 1, 0), 64), (0, (0, 0, 0), 0)]), ((54, [some (.inr 86, none), some (.inl (0, 20), none)], [], [], []), [(0, (0, 0, 0), 0), (1, (1, 1, 0), 20), (0, (0, 0, 0), 0)])]) (N := 3) (fuel := 36) hIQ (List.forall_mem_cons.mpr ⟨qk_1026 l, fun _ h => absurd h List.not_mem_nil⟩) (by decide +kernel)
def kq_1028 : ek := (218, [.inr 86, .inl ((-2147483648), (-1))], [], [(140, 999), (141, 999), (142, 999)], [(some (.inl ((-100000), (-100000))), [])], 3, 68)
/-- LoadsAheadModel plain -/
theorem qk_1028 (l : Launch) : ek_ok l tQ iQ kq_1028 := ek_good_ok (sp := sQ) (K := [kq_1027, kq_3, kq_1003]) (SP := [(8, [(2, [(-1), 7])]), (29, [(2, [99, 163])])]) (HS := []) (N := 0) (fuel := 36) hIQ (List.forall_mem_cons.mpr ⟨qk_1027 l, List.forall_mem_cons.mpr ⟨qk_3 l, List.forall_mem_cons.mpr ⟨qk_1003 l, fun _ h => absurd h List.not_mem_nil⟩⟩⟩) (by decide +kernel)
def kq_1029 : ek := (220, [.inr 86, .inl (0, 0)], [], [(140, 999), (141, 999), (142, 999)], [(none, [])], 1, 22)
/-- LoadsAheadModel doesPlain -/
theorem qk_1029 (l : Launch) : ek_ok l tQ iQ kq_1029 := ek_good_ok (sp := sQ) (K := [kq_438, kq_420]) (SP := []) (HS := [((128, [some (.inr 86, none), some (.inl (0, 0), none), some (.inl ((-2147483648), 2147483647), none), some (.inl ((-2147483648), 2147483647), none), some (.inl (0, 4), none), none], [], [], []), [(0, (0, 0, 0), 0), (1, (1, 4, 0), 4), (0, (0, 0, 0), 0)])]) (N := 3) (fuel := 92) hIQ (List.forall_mem_cons.mpr ⟨qk_438 l, List.forall_mem_cons.mpr ⟨qk_420 l, fun _ h => absurd h List.not_mem_nil⟩⟩) (by decide +kernel)
def kq_1030 : ek := (220, [.inr 86, .inl (0, 1)], [], [(140, 999), (141, 999), (142, 999)], [(none, [])], 1, 22)
/-- LoadsAheadModel doesPlain -/
theorem qk_1030 (l : Launch) : ek_ok l tQ iQ kq_1030 := ek_good_ok (sp := sQ) (K := [kq_438, kq_420]) (SP := []) (HS := [((128, [some (.inr 86, none), some (.inl (0, 1), none), some (.inl ((-2147483648), 2147483647), none), some (.inl ((-2147483648), 2147483647), none), some (.inl (0, 4), none), none], [], [], []), [(0, (0, 0, 0), 0), (1, (1, 4, 0), 4), (0, (0, 0, 0), 0)])]) (N := 3) (fuel := 92) hIQ (List.forall_mem_cons.mpr ⟨qk_438 l, List.forall_mem_cons.mpr ⟨qk_420 l, fun _ h => absurd h List.not_mem_nil⟩⟩) (by decide +kernel)
def kq_1031 : ek := (220, [.inr 86, .inl (0, 3)], [], [(140, 999), (141, 999), (142, 999)], [(none, [])], 1, 22)
/-- LoadsAheadModel doesPlain -/
theorem qk_1031 (l : Launch) : ek_ok l tQ iQ kq_1031 := ek_good_ok (sp := sQ) (K := [kq_438, kq_420]) (SP := []) (HS := [((128, [some (.inr 86, none), some (.inl (0, 3), none), some (.inl ((-2147483648), 2147483647), none), some (.inl ((-2147483648), 2147483647), none), some (.inl (0, 4), none), none], [], [], []), [(0, (0, 0, 0), 0), (1, (1, 4, 0), 4), (0, (0, 0, 0), 0)])]) (N := 3) (fuel := 92) hIQ (List.forall_mem_cons.mpr ⟨qk_438 l, List.forall_mem_cons.mpr ⟨qk_420 l, fun _ h => absurd h List.not_mem_nil⟩⟩) (by decide +kernel)
def kq_1032 : ek := (220, [.inr 86, .inl (0, 7)], [], [(140, 999), (141, 999), (142, 999)], [(none, [])], 1, 22)
/-- LoadsAheadModel doesPlain -/
theorem qk_1032 (l : Launch) : ek_ok l tQ iQ kq_1032 := ek_good_ok (sp := sQ) (K := [kq_438, kq_420]) (SP := []) (HS := [((128, [some (.inr 86, none), some (.inl (0, 7), none), some (.inl ((-2147483648), 2147483647), none), some (.inl ((-2147483648), 2147483647), none), some (.inl (0, 4), none), none], [], [], []), [(0, (0, 0, 0), 0), (1, (1, 4, 0), 4), (0, (0, 0, 0), 0)])]) (N := 3) (fuel := 92) hIQ (List.forall_mem_cons.mpr ⟨qk_438 l, List.forall_mem_cons.mpr ⟨qk_420 l, fun _ h => absurd h List.not_mem_nil⟩⟩) (by decide +kernel)
def kq_1033 : ek := (220, [.inr 86, .inl (0, 15)], [], [(140, 999), (141, 999), (142, 999)], [(none, [])], 1, 22)
/-- LoadsAheadModel doesPlain -/
theorem qk_1033 (l : Launch) : ek_ok l tQ iQ kq_1033 := ek_good_ok (sp := sQ) (K := [kq_438, kq_420]) (SP := []) (HS := [((128, [some (.inr 86, none), some (.inl (0, 15), none), some (.inl ((-2147483648), 2147483647), none), some (.inl ((-2147483648), 2147483647), none), some (.inl (0, 4), none), none], [], [], []), [(0, (0, 0, 0), 0), (1, (1, 4, 0), 4), (0, (0, 0, 0), 0)])]) (N := 3) (fuel := 92) hIQ (List.forall_mem_cons.mpr ⟨qk_438 l, List.forall_mem_cons.mpr ⟨qk_420 l, fun _ h => absurd h List.not_mem_nil⟩⟩) (by decide +kernel)
def kq_1034 : ek := (218, [.inr 86, .inl (0, 7)], [], [(140, 999), (141, 999), (142, 999)], [(some (.inl ((-2147483648), 2147483647)), [])], 3, 68)
/-- LoadsAheadModel plain -/
theorem qk_1034 (l : Launch) : ek_ok l tQ iQ kq_1034 := ek_good_ok (sp := sQ) (K := [kq_1027, kq_5]) (SP := [(8, [(2, [(-1), 7])])]) (HS := []) (N := 0) (fuel := 34) hIQ (List.forall_mem_cons.mpr ⟨qk_1027 l, List.forall_mem_cons.mpr ⟨qk_5 l, fun _ h => absurd h List.not_mem_nil⟩⟩) (by decide +kernel)
def kq_1035 : ek := (218, [.inr 86, .inl (8, 99)], [], [(140, 999), (141, 999), (142, 999)], [(some (.inl ((-100000), (-100000))), [])], 3, 68)
/-- LoadsAheadModel plain -/
theorem qk_1035 (l : Launch) : ek_ok l tQ iQ kq_1035 := ek_good_ok (sp := sQ) (K := [kq_1027, kq_1007, kq_1006]) (SP := [(8, [(2, [(-1), 7])]), (29, [(2, [99, 163])])]) (HS := []) (N := 0) (fuel := 36) hIQ (List.forall_mem_cons.mpr ⟨qk_1027 l, List.forall_mem_cons.mpr ⟨qk_1007 l, List.forall_mem_cons.mpr ⟨qk_1006 l, fun _ h => absurd h List.not_mem_nil⟩⟩⟩) (by decide +kernel)
def kq_1036 : ek := (218, [.inr 86, .inl (100, 163)], [], [(140, 999), (141, 999), (142, 999)], [(some (.inl ((-2147483648), 2147483647)), [])], 3, 68)
/-- LoadsAheadModel plain -/
theorem qk_1036 (l : Launch) : ek_ok l tQ iQ kq_1036 := ek_good_ok (sp := sQ) (K := [kq_1027, kq_1009, kq_936]) (SP := [(8, [(2, [(-1), 7])]), (29, [(2, [99, 163])])]) (HS := []) (N := 0) (fuel := 48) hIQ (List.forall_mem_cons.mpr ⟨qk_1027 l, List.forall_mem_cons.mpr ⟨qk_1009 l, List.forall_mem_cons.mpr ⟨qk_936 l, fun _ h => absurd h List.not_mem_nil⟩⟩⟩) (by decide +kernel)
def kq_1037 : ek := (218, [.inr 86, .inl (164, 2147483647)], [], [(140, 999), (141, 999), (142, 999)], [(some (.inl ((-100000), (-100000))), [])], 3, 68)
/-- LoadsAheadModel plain -/
theorem qk_1037 (l : Launch) : ek_ok l tQ iQ kq_1037 := ek_good_ok (sp := sQ) (K := [kq_1027, kq_940, kq_1011]) (SP := [(8, [(2, [(-1), 7])]), (29, [(2, [99, 163])])]) (HS := []) (N := 0) (fuel := 36) hIQ (List.forall_mem_cons.mpr ⟨qk_1027 l, List.forall_mem_cons.mpr ⟨qk_940 l, List.forall_mem_cons.mpr ⟨qk_1011 l, fun _ h => absurd h List.not_mem_nil⟩⟩⟩) (by decide +kernel)
def kq_1038 : ek := (114, [.inr 2, .inl ((-2147483648), 0)], [], [], [(some (.inl ((-1), (-1))), [])], 1, 21)
/-- LoadsAhead unlike -/
theorem qk_1038 (l : Launch) : ek_ok l tQ iQ kq_1038 := ek_good_ok (sp := sQ) (K := [kq_238]) (SP := [(2, [(0, [0, 4])])]) (HS := []) (N := 0) (fuel := 20) hIQ (List.forall_mem_cons.mpr ⟨qk_238 l, fun _ h => absurd h List.not_mem_nil⟩) (by decide +kernel)
def kq_1039 : ek := (115, [.inr 31, .inr 69], [], [], [(some (.inl ((-2147483648), 2147483647)), []), (some (.inl (0, 2147483647)), [])], 0, 0)
/-- LoadsAhead differing -/
theorem qk_1039 (l : Launch) : ek_ok l tQ iQ kq_1039 := ek_good_ok (sp := sQ) (K := []) (SP := []) (HS := [((4, [some (.inr 31, none), some (.inr 69, none), some (.inl ((-2147483648), 2147483647), none), some (.inl (0, 8), none)], [], [], []), [(0, (0, 0, 0), 0), (1, (1, 3, 0), 8), (0, (0, 0, 0), 0)])]) (N := 3) (fuel := 46) hIQ (fun _ h => absurd h List.not_mem_nil) (by decide +kernel)
def kq_1040 : ek := (115, [.inr 32, .inr 70], [], [], [(some (.inl ((-2147483648), 2147483647)), []), (some (.inl (0, 2147483647)), [])], 0, 0)
/-- LoadsAhead differing -/
theorem qk_1040 (l : Launch) : ek_ok l tQ iQ kq_1040 := ek_good_ok (sp := sQ) (K := []) (SP := []) (HS := [((4, [some (.inr 32, none), some (.inr 70, none), some (.inl ((-2147483648), 2147483647), none), some (.inl (0, 64), none)], [], [], []), [(0, (0, 0, 0), 0), (1, (1, 3, 0), 64), (0, (0, 0, 0), 0)])]) (N := 3) (fuel := 46) hIQ (fun _ h => absurd h List.not_mem_nil) (by decide +kernel)
def kq_1042 : ek := (114, [.inr 2, .inl (5, 2147483647)], [], [], [(some (.inl ((-1), (-1))), [])], 1, 21)
/-- LoadsAhead unlike -/
theorem qk_1042 (l : Launch) : ek_ok l tQ iQ kq_1042 := ek_good_ok (sp := sQ) (K := [kq_410]) (SP := [(2, [(0, [0, 4])])]) (HS := []) (N := 0) (fuel := 20) hIQ (List.forall_mem_cons.mpr ⟨qk_410 l, fun _ h => absurd h List.not_mem_nil⟩) (by decide +kernel)
def kq_1043 : ek := (221, [.inr 86, .inl ((-2147483648), 0)], [], [], [(some (.inl ((-1), (-1))), [])], 2, 43)
/-- LoadsAheadModel unlike -/
theorem qk_1043 (l : Launch) : ek_ok l tQ iQ kq_1043 := ek_good_ok (sp := sQ) (K := [kq_413]) (SP := [(2, [(0, [0, 4])])]) (HS := []) (N := 0) (fuel := 20) hIQ (List.forall_mem_cons.mpr ⟨qk_413 l, fun _ h => absurd h List.not_mem_nil⟩) (by decide +kernel)
def kq_1045 : ek := (221, [.inr 86, .inl (5, 2147483647)], [], [], [(some (.inl ((-1), (-1))), [])], 2, 43)
/-- LoadsAheadModel unlike -/
theorem qk_1045 (l : Launch) : ek_ok l tQ iQ kq_1045 := ek_good_ok (sp := sQ) (K := [kq_864]) (SP := [(2, [(0, [0, 4])])]) (HS := []) (N := 0) (fuel := 20) hIQ (List.forall_mem_cons.mpr ⟨qk_864 l, fun _ h => absurd h List.not_mem_nil⟩) (by decide +kernel)
def kq_1046 : ek := (116, [.inr 2, .inl ((-2147483648), (-1))], [], [], [(some (.inl ((-1), (-1))), [])], 0, 0)
/-- LoadsAhead fastest -/
theorem qk_1046 (l : Launch) : ek_ok l tQ iQ kq_1046 := ek_good_ok (sp := sQ) (K := []) (SP := []) (HS := []) (N := 0) (fuel := 16) hIQ (fun _ h => absurd h List.not_mem_nil) (by decide +kernel)
def kq_1052 : ek := (116, [.inr 2, .inl (2, 2147483647)], [], [], [(some (.inl ((-1), (-1))), [])], 0, 0)
/-- LoadsAhead fastest -/
theorem qk_1052 (l : Launch) : ek_ok l tQ iQ kq_1052 := ek_good_ok (sp := sQ) (K := []) (SP := []) (HS := []) (N := 0) (fuel := 22) hIQ (fun _ h => absurd h List.not_mem_nil) (by decide +kernel)
def kq_1053 : ek := (137, [.inl ((-2147483648), (-1)), .inl (0, 0), .inl (1, 1)], [], [], [(some (.inl (0, 0)), [])], 0, 0)
/-- LoadsAheadModel in -/
theorem qk_1053 (l : Launch) : ek_ok l tQ iQ kq_1053 := ek_good_ok (sp := sQ) (K := []) (SP := []) (HS := []) (N := 0) (fuel := 18) hIQ (fun _ h => absurd h List.not_mem_nil) (by decide +kernel)
def kq_1054 : ek := (215, [.inr 86, .inl ((-2147483648), (-1))], [], [], [(some (.inl ((-1), (-1))), [])], 1, 22)
/-- LoadsAheadModel fastest -/
theorem qk_1054 (l : Launch) : ek_ok l tQ iQ kq_1054 := ek_good_ok (sp := sQ) (K := [kq_1053]) (SP := [(3, [(2, [(-1), 1])])]) (HS := []) (N := 0) (fuel := 22) hIQ (List.forall_mem_cons.mpr ⟨qk_1053 l, fun _ h => absurd h List.not_mem_nil⟩) (by decide +kernel)
def kq_1055 : ek := (137, [.inl (0, 1), .inl (0, 0), .inl (1, 1)], [], [], [(some (.inl (1, 1)), [])], 0, 0)
/-- LoadsAheadModel in -/
theorem qk_1055 (l : Launch) : ek_ok l tQ iQ kq_1055 := ek_good_ok (sp := sQ) (K := []) (SP := []) (HS := []) (N := 0) (fuel := 26) hIQ (fun _ h => absurd h List.not_mem_nil) (by decide +kernel)
def kq_1072 : ek := (137, [.inl (2, 2147483647), .inl (0, 0), .inl (1, 1)], [], [], [(some (.inl (0, 0)), [])], 0, 0)
/-- LoadsAheadModel in -/
theorem qk_1072 (l : Launch) : ek_ok l tQ iQ kq_1072 := ek_good_ok (sp := sQ) (K := []) (SP := []) (HS := []) (N := 0) (fuel := 24) hIQ (fun _ h => absurd h List.not_mem_nil) (by decide +kernel)
def kq_1073 : ek := (215, [.inr 86, .inl (2, 2147483647)], [], [], [(some (.inl ((-1), (-1))), [])], 1, 22)
/-- LoadsAheadModel fastest -/
theorem qk_1073 (l : Launch) : ek_ok l tQ iQ kq_1073 := ek_good_ok (sp := sQ) (K := [kq_1072]) (SP := [(3, [(2, [(-1), 1])])]) (HS := []) (N := 0) (fuel := 22) hIQ (List.forall_mem_cons.mpr ⟨qk_1072 l, fun _ h => absurd h List.not_mem_nil⟩) (by decide +kernel)
def kq_1074 : ek := (117, [.inr 2, .inl ((-2147483648), 0), .inl ((-2147483648), 2147483647)], [], [], [(some (.inl ((-1), (-1))), [])], 1, 21)
/-- LoadsAhead cautious -/
theorem qk_1074 (l : Launch) : ek_ok l tQ iQ kq_1074 := ek_good_ok (sp := sQ) (K := [kq_238]) (SP := [(2, [(0, [0, 4])])]) (HS := []) (N := 0) (fuel := 20) hIQ (List.forall_mem_cons.mpr ⟨qk_238 l, fun _ h => absurd h List.not_mem_nil⟩) (by decide +kernel)
def kq_1075 : ek := (83, [.inr 5, .inl (0, 19), .inl (1, 1)], [], [], [(some (.inl (1, 1)), []), (some (.inl (0, 0)), [])], 0, 0)
/-- LoadsAhead.Machine mustWait -/
theorem qk_1075 (l : Launch) : ek_ok l tQ iQ kq_1075 := ek_good_ok (sp := sQ) (K := []) (SP := []) (HS := [((51, [some (.inr 5, none), some (.inl (0, 19), none), some (.inl (1, 1), none), some (.inl (0, 1), none), some (.inl ((-1), 15), none), some (.inl ((-1), 18), none)], [], [], []), [(0, (0, 0, 0), 0), (2, (1, 5, 0), (-1)), (0, (0, 0, 0), 0)])]) (N := 3) (fuel := 66) hIQ (fun _ h => absurd h List.not_mem_nil) (by decide +kernel)
def kq_1079 : ek := (83, [.inr 5, .inl (0, 15), .inl (1, 1)], [], [], [(some (.inl (1, 1)), []), (some (.inl (0, 0)), [])], 0, 0)
/-- LoadsAhead.Machine mustWait -/
theorem qk_1079 (l : Launch) : ek_ok l tQ iQ kq_1079 := ek_good_ok (sp := sQ) (K := []) (SP := []) (HS := [((51, [some (.inr 5, none), some (.inl (0, 15), none), some (.inl (1, 1), none), some (.inl (0, 1), none), some (.inl ((-1), 15), none), some (.inl ((-1), 14), none)], [], [], []), [(0, (0, 0, 0), 0), (2, (1, 5, 0), (-1)), (0, (0, 0, 0), 0)])]) (N := 3) (fuel := 66) hIQ (fun _ h => absurd h List.not_mem_nil) (by decide +kernel)
def kq_1080 : ek := (83, [.inr 5, .inl (0, 7), .inl (1, 1)], [], [], [(some (.inl (1, 1)), []), (some (.inl (0, 0)), [])], 0, 0)
/-- LoadsAhead.Machine mustWait -/
theorem qk_1080 (l : Launch) : ek_ok l tQ iQ kq_1080 := ek_good_ok (sp := sQ) (K := []) (SP := []) (HS := [((51, [some (.inr 5, none), some (.inl (0, 7), none), some (.inl (1, 1), none), some (.inl (0, 1), none), some (.inl ((-1), 15), none), some (.inl ((-1), 6), none)], [], [], []), [(0, (0, 0, 0), 0), (2, (1, 5, 0), (-1)), (0, (0, 0, 0), 0)])]) (N := 3) (fuel := 66) hIQ (fun _ h => absurd h List.not_mem_nil) (by decide +kernel)
def kq_1081 : ek := (83, [.inr 5, .inl (0, 3), .inl (1, 1)], [], [], [(some (.inl (1, 1)), []), (some (.inl (0, 0)), [])], 0, 0)
/-- LoadsAhead.Machine mustWait -/
theorem qk_1081 (l : Launch) : ek_ok l tQ iQ kq_1081 := ek_good_ok (sp := sQ) (K := []) (SP := []) (HS := [((51, [some (.inr 5, none), some (.inl (0, 3), none), some (.inl (1, 1), none), some (.inl (0, 1), none), some (.inl ((-1), 15), none), some (.inl ((-1), 2), none)], [], [], []), [(0, (0, 0, 0), 0), (2, (1, 5, 0), (-1)), (0, (0, 0, 0), 0)])]) (N := 3) (fuel := 66) hIQ (fun _ h => absurd h List.not_mem_nil) (by decide +kernel)
def kq_1082 : ek := (83, [.inr 5, .inl (0, 1), .inl (1, 1)], [], [], [(some (.inl (1, 1)), []), (some (.inl (0, 0)), [])], 0, 0)
/-- LoadsAhead.Machine mustWait -/
theorem qk_1082 (l : Launch) : ek_ok l tQ iQ kq_1082 := ek_good_ok (sp := sQ) (K := []) (SP := []) (HS := [((51, [some (.inr 5, none), some (.inl (0, 1), none), some (.inl (1, 1), none), some (.inl (0, 1), none), some (.inl ((-1), 15), none), some (.inl ((-1), 0), none)], [], [], []), [(0, (0, 0, 0), 0), (2, (1, 5, 0), (-1)), (0, (0, 0, 0), 0)])]) (N := 3) (fuel := 66) hIQ (fun _ h => absurd h List.not_mem_nil) (by decide +kernel)
def kq_1083 : ek := (83, [.inr 5, .inl (0, 0), .inl (1, 1)], [], [], [(some (.inl (0, 0)), [])], 0, 0)
/-- LoadsAhead.Machine mustWait -/
theorem qk_1083 (l : Launch) : ek_ok l tQ iQ kq_1083 := ek_good_ok (sp := sQ) (K := []) (SP := []) (HS := [((51, [some (.inr 5, none), some (.inl (0, 0), none), some (.inl (1, 1), none), some (.inl (0, 1), none), some (.inl ((-1), 15), none), some (.inl ((-1), (-1)), none)], [], [], []), [(0, (0, 0, 0), 0)])]) (N := 1) (fuel := 62) hIQ (fun _ h => absurd h List.not_mem_nil) (by decide +kernel)
def kq_1084 : ek := (117, [.inr 2, .inl (5, 2147483647), .inl ((-2147483648), 2147483647)], [], [], [(some (.inl ((-1), (-1))), [])], 1, 21)
/-- LoadsAhead cautious -/
theorem qk_1084 (l : Launch) : ek_ok l tQ iQ kq_1084 := ek_good_ok (sp := sQ) (K := [kq_410]) (SP := [(2, [(0, [0, 4])])]) (HS := []) (N := 0) (fuel := 20) hIQ (List.forall_mem_cons.mpr ⟨qk_410 l, fun _ h => absurd h List.not_mem_nil⟩) (by decide +kernel)
def kq_1085 : ek := (214, [.inr 86, .inl ((-2147483648), 0), .inl ((-2147483648), 2147483647)], [], [], [(some (.inl ((-1), (-1))), [])], 2, 43)
/-- LoadsAheadModel cautious -/
theorem qk_1085 (l : Launch) : ek_ok l tQ iQ kq_1085 := ek_good_ok (sp := sQ) (K := [kq_413]) (SP := [(2, [(0, [0, 4])])]) (HS := []) (N := 0) (fuel := 20) hIQ (List.forall_mem_cons.mpr ⟨qk_413 l, fun _ h => absurd h List.not_mem_nil⟩) (by decide +kernel)
def kq_1089 : ek := (214, [.inr 86, .inl (5, 2147483647), .inl ((-2147483648), 2147483647)], [], [], [(some (.inl ((-1), (-1))), [])], 2, 43)
/-- LoadsAheadModel cautious -/
theorem qk_1089 (l : Launch) : ek_ok l tQ iQ kq_1089 := ek_good_ok (sp := sQ) (K := [kq_864]) (SP := [(2, [(0, [0, 4])])]) (HS := []) (N := 0) (fuel := 20) hIQ (List.forall_mem_cons.mpr ⟨qk_864 l, fun _ h => absurd h List.not_mem_nil⟩) (by decide +kernel)
def kq_1090 : ek := (118, [.inr 2, .inl ((-2147483648), (-1))], [], [], [(some (.inl ((-1), (-1))), [])], 0, 0)
/-- LoadsAhead worst -/
theorem qk_1090 (l : Launch) : ek_ok l tQ iQ kq_1090 := ek_good_ok (sp := sQ) (K := []) (SP := []) (HS := []) (N := 0) (fuel := 16) hIQ (fun _ h => absurd h List.not_mem_nil) (by decide +kernel)
def kq_1091 : ek := (118, [.inr 2, .inl (0, 1)], [], [], [(some (.inl ((-2), (-2))), [((2, 0, 8), (0, 0), none)]), (some (.inl (0, 19)), []), (some (.inl ((-2147483648), 2147483647)), [])], 0, 0)
/-- LoadsAhead worst -/
theorem qk_1091 (l : Launch) : ek_ok l tQ iQ kq_1091 := ek_good_ok (sp := sQ) (K := []) (SP := []) (HS := [((25, [some (.inr 2, none), some (.inl (0, 1), none), some (.inl (0, 19), none), some (.inl (1, 20), none)], [], [], []), [(0, (0, 0, 0), 0), (1, (1, 3, 0), 20), (0, (0, 0, 0), 0)])]) (N := 3) (fuel := 52) hIQ (fun _ h => absurd h List.not_mem_nil) (by decide +kernel)
def kq_1092 : ek := (118, [.inr 2, .inl (2, 2147483647)], [], [], [(some (.inl ((-1), (-1))), [])], 0, 0)
/-- LoadsAhead worst -/
theorem qk_1092 (l : Launch) : ek_ok l tQ iQ kq_1092 := ek_good_ok (sp := sQ) (K := []) (SP := []) (HS := []) (N := 0) (fuel := 22) hIQ (fun _ h => absurd h List.not_mem_nil) (by decide +kernel)
def kq_1093 : ek := (228, [.inr 86, .inl ((-2147483648), (-1))], [], [], [(some (.inl ((-1), (-1))), [])], 1, 22)
/-- LoadsAheadModel worst -/
theorem qk_1093 (l : Launch) : ek_ok l tQ iQ kq_1093 := ek_good_ok (sp := sQ) (K := [kq_1053]) (SP := [(3, [(2, [(-1), 1])])]) (HS := []) (N := 0) (fuel := 22) hIQ (List.forall_mem_cons.mpr ⟨qk_1053 l, fun _ h => absurd h List.not_mem_nil⟩) (by decide +kernel)
def kq_1094 : ek := (229, [.inr 86], [], [], [(some (.inl (0, 19)), [])], 0, 0)
/-- LoadsAheadModel worstOp -/
theorem qk_1094 (l : Launch) : ek_ok l tQ iQ kq_1094 := ek_good_ok (sp := sQ) (K := []) (SP := []) (HS := [((4, [some (.inr 86, none), some (.inl (0, 19), none), some (.inl (1, 20), none)], [], [], []), [(0, (0, 0, 0), 0), (1, (1, 2, 0), 20), (0, (0, 0, 0), 0)])]) (N := 3) (fuel := 44) hIQ (fun _ h => absurd h List.not_mem_nil) (by decide +kernel)
def kq_1095 : ek := (228, [.inr 86, .inl (0, 1)], [], [], [(some (.inl ((-2), (-2))), [((2, 84, 75), (0, 0), none)]), (some (.inl (0, 19)), [((2, 84, 75), (1, 1), none)]), (some (.inl ((-2147483648), 2147483647)), [((2, 84, 75), (1, 1), none)])], 1, 22)
/-- LoadsAheadModel worst -/
theorem qk_1095 (l : Launch) : ek_ok l tQ iQ kq_1095 := ek_good_ok (sp := sQ) (K := [kq_1094, kq_1055]) (SP := [(3, [(2, [(-1), 1])])]) (HS := []) (N := 0) (fuel := 40) hIQ (List.forall_mem_cons.mpr ⟨qk_1094 l, List.forall_mem_cons.mpr ⟨qk_1055 l, fun _ h => absurd h List.not_mem_nil⟩⟩) (by decide +kernel)
def kq_1096 : ek := (228, [.inr 86, .inl (2, 2147483647)], [], [], [(some (.inl ((-1), (-1))), [])], 1, 22)
/-- LoadsAheadModel worst -/
theorem qk_1096 (l : Launch) : ek_ok l tQ iQ kq_1096 := ek_good_ok (sp := sQ) (K := [kq_1072]) (SP := [(3, [(2, [(-1), 1])])]) (HS := []) (N := 0) (fuel := 22) hIQ (List.forall_mem_cons.mpr ⟨qk_1072 l, fun _ h => absurd h List.not_mem_nil⟩) (by decide +kernel)
def kq_1097 : ek := (119, [.inr 2], [], [], [(some (.inl ((-2147483648), 2147483647)), [])], 0, 0)
/-- LoadsAhead deep -/
theorem qk_1097 (l : Launch) : ek_ok l tQ iQ kq_1097 := ek_good_ok (sp := sQ) (K := []) (SP := []) (HS := []) (N := 0) (fuel := 18) hIQ (fun _ h => absurd h List.not_mem_nil) (by decide +kernel)
def kq_1098 : ek := (195, [.inr 86, .inl (0, 19), .inl (0, 19)], [], [], [(some (.inl (1, 1)), []), (some (.inl (0, 0)), [])], 2, 45)
/-- LoadsAheadModel hasSource -/
theorem qk_1098 (l : Launch) : ek_ok l tQ iQ kq_1098 := ek_good_ok (sp := sQ) (K := [kq_431, kq_418]) (SP := []) (HS := [((2, [some (.inr 86, none), some (.inl (0, 19), none), some (.inl (0, 19), none), some (.inl (0, 8), none)], [], [], []), [(0, (0, 0, 0), 0), (1, (1, 3, 0), 8), (0, (0, 0, 0), 0)])]) (N := 3) (fuel := 42) hIQ (List.forall_mem_cons.mpr ⟨qk_431 l, List.forall_mem_cons.mpr ⟨qk_418 l, fun _ h => absurd h List.not_mem_nil⟩⟩) (by decide +kernel)
def kq_1099 : ek := (225, [.inl ((-2147483648), 2147483647), .inl ((-2147483648), 2147483647)], [], [], [(some (.inl ((-2147483648), 2147483647)), [])], 0, 0)
/-- LoadsAheadModel max -/
theorem qk_1099 (l : Launch) : ek_ok l tQ iQ kq_1099 := ek_good_ok (sp := sQ) (K := []) (SP := []) (HS := []) (N := 0) (fuel := 20) hIQ (fun _ h => absurd h List.not_mem_nil) (by decide +kernel)
def kq_1100 : ek := (225, [.inl (0, 2147483647), .inl ((-2147483648), 2147483647)], [], [], [(some (.inl (0, 2147483647)), [])], 0, 0)
/-- LoadsAheadModel max -/
theorem qk_1100 (l : Launch) : ek_ok l tQ iQ kq_1100 := ek_good_ok (sp := sQ) (K := []) (SP := []) (HS := []) (N := 0) (fuel := 20) hIQ (fun _ h => absurd h List.not_mem_nil) (by decide +kernel)
def kq_1101 : ek := (224, [.inr 86], [], [(143, 999)], [(some (.inl (0, 2147483647)), [])], 3, 68)
/-- LoadsAheadModel deep -/
theorem qk_1101 (l : Launch) : ek_ok l tQ iQ kq_1101 := ek_good_ok (sp := sQ) (K := [kq_1098, kq_1099, kq_1100]) (SP := []) (HS := [((4, [some (.inr 86, none), some (.inl (0, 2147483647), none), some (.inl (0, 20), none), none], [], [], []), [(0, (0, 0, 0), 0), (1, (1, 2, 0), 20), (0, (0, 0, 0), 1), (0, (0, 0, 0), 0), (0, (0, 0, 0), 0)]), ((21, [some (.inr 86, none), some (.inl (0, 2147483647), none), some (.inl (0, 19), none), some (.inl (0, 19), none)], [], [], []), [(0, (0, 0, 0), 0), (1, (1, 2, 0), 20), (0, (0, 0, 0), 0), (1, (1, 3, 0), 19), (0, (0, 0, 0), 0)])]) (N := 5) (fuel := 60) hIQ (List.forall_mem_cons.mpr ⟨qk_1098 l, List.forall_mem_cons.mpr ⟨qk_1099 l, List.forall_mem_cons.mpr ⟨qk_1100 l, fun _ h => absurd h List.not_mem_nil⟩⟩⟩) (by decide +kernel)
