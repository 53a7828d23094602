def kq_1089 : ek := (83, [.inr 5, .inl (0, 15), .inl (1, 1)], [], [], [(some (.inl (1, 1)), []), (some (.inl (0, 0)), [])], 0, 0)
/-- LoadsAhead.Machine mustWait -/
theorem qk_1089 (l : Launch) : ek_ok l tQ iQ kq_1089 := ek_good_ok (sp := sQ) (K := []) (SP := []) (HS := [((51, [some (.inr 5, none), some (.inl (0, 15), none), some (.inl (1, 1), none), some (.inl (0, 1), none), some (.inl ((-1), 15), none), some (.inl ((-1), 14), none)], [], [], []), [(0, (0, 0, 0), 0), (2, (1, 5, 0), (-1)), (0, (0, 0, 0), 0)])]) (N := 3) (fuel := 66) hIQ (fun _ h => absurd h List.not_mem_nil) (by decide +kernel)
def kq_1090 : ek := (83, [.inr 5, .inl (0, 7), .inl (1, 1)], [], [], [(some (.inl (1, 1)), []), (some (.inl (0, 0)), [])], 0, 0)
/-- LoadsAhead.Machine mustWait -/
theorem qk_1090 (l : Launch) : ek_ok l tQ iQ kq_1090 := ek_good_ok (sp := sQ) (K := []) (SP := []) (HS := [((51, [some (.inr 5, none), some (.inl (0, 7), none), some (.inl (1, 1), none), some (.inl (0, 1), none), some (.inl ((-1), 15), none), some (.inl ((-1), 6), none)], [], [], []), [(0, (0, 0, 0), 0), (2, (1, 5, 0), (-1)), (0, (0, 0, 0), 0)])]) (N := 3) (fuel := 66) hIQ (fun _ h => absurd h List.not_mem_nil) (by decide +kernel)
def kq_1091 : ek := (83, [.inr 5, .inl (0, 3), .inl (1, 1)], [], [], [(some (.inl (1, 1)), []), (some (.inl (0, 0)), [])], 0, 0)
/-- LoadsAhead.Machine mustWait -/
theorem qk_1091 (l : Launch) : ek_ok l tQ iQ kq_1091 := ek_good_ok (sp := sQ) (K := []) (SP := []) (HS := [((51, [some (.inr 5, none), some (.inl (0, 3), none), some (.inl (1, 1), none), some (.inl (0, 1), none), some (.inl ((-1), 15), none), some (.inl ((-1), 2), none)], [], [], []), [(0, (0, 0, 0), 0), (2, (1, 5, 0), (-1)), (0, (0, 0, 0), 0)])]) (N := 3) (fuel := 66) hIQ (fun _ h => absurd h List.not_mem_nil) (by decide +kernel)
def kq_1092 : ek := (83, [.inr 5, .inl (0, 1), .inl (1, 1)], [], [], [(some (.inl (1, 1)), []), (some (.inl (0, 0)), [])], 0, 0)
/-- LoadsAhead.Machine mustWait -/
theorem qk_1092 (l : Launch) : ek_ok l tQ iQ kq_1092 := ek_good_ok (sp := sQ) (K := []) (SP := []) (HS := [((51, [some (.inr 5, none), some (.inl (0, 1), none), some (.inl (1, 1), none), some (.inl (0, 1), none), some (.inl ((-1), 15), none), some (.inl ((-1), 0), none)], [], [], []), [(0, (0, 0, 0), 0), (2, (1, 5, 0), (-1)), (0, (0, 0, 0), 0)])]) (N := 3) (fuel := 66) hIQ (fun _ h => absurd h List.not_mem_nil) (by decide +kernel)
def kq_1093 : ek := (83, [.inr 5, .inl (0, 0), .inl (1, 1)], [], [], [(some (.inl (0, 0)), [])], 0, 0)
/-- LoadsAhead.Machine mustWait -/
theorem qk_1093 (l : Launch) : ek_ok l tQ iQ kq_1093 := ek_good_ok (sp := sQ) (K := []) (SP := []) (HS := [((51, [some (.inr 5, none), some (.inl (0, 0), none), some (.inl (1, 1), none), some (.inl (0, 1), none), some (.inl ((-1), 15), none), some (.inl ((-1), (-1)), none)], [], [], []), [(0, (0, 0, 0), 0)])]) (N := 1) (fuel := 62) hIQ (fun _ h => absurd h List.not_mem_nil) (by decide +kernel)
def kq_1094 : ek := (117, [.inr 2, .inl (5, 2147483647), .inl ((-2147483648), 2147483647)], [], [], [(some (.inl ((-1), (-1))), [])], 1, 21)
/-- LoadsAhead cautious -/
theorem qk_1094 (l : Launch) : ek_ok l tQ iQ kq_1094 := ek_good_ok (sp := sQ) (K := [kq_420]) (SP := [(2, [(0, [0, 4])])]) (HS := []) (N := 0) (fuel := 20) hIQ (List.forall_mem_cons.mpr ⟨qk_420 l, fun _ h => absurd h List.not_mem_nil⟩) (by decide +kernel)
def kq_1095 : ek := (214, [.inr 86, .inl ((-2147483648), 0), .inl ((-2147483648), 2147483647)], [], [], [(some (.inl ((-1), (-1))), [])], 2, 43)
/-- LoadsAheadModel cautious -/
theorem qk_1095 (l : Launch) : ek_ok l tQ iQ kq_1095 := ek_good_ok (sp := sQ) (K := [kq_423]) (SP := [(2, [(0, [0, 4])])]) (HS := []) (N := 0) (fuel := 20) hIQ (List.forall_mem_cons.mpr ⟨qk_423 l, fun _ h => absurd h List.not_mem_nil⟩) (by decide +kernel)
def kq_1099 : ek := (214, [.inr 86, .inl (5, 2147483647), .inl ((-2147483648), 2147483647)], [], [], [(some (.inl ((-1), (-1))), [])], 2, 43)
/-- LoadsAheadModel cautious -/
theorem qk_1099 (l : Launch) : ek_ok l tQ iQ kq_1099 := ek_good_ok (sp := sQ) (K := [kq_874]) (SP := [(2, [(0, [0, 4])])]) (HS := []) (N := 0) (fuel := 20) hIQ (List.forall_mem_cons.mpr ⟨qk_874 l, fun _ h => absurd h List.not_mem_nil⟩) (by decide +kernel)
def kq_1100 : ek := (118, [.inr 2, .inl ((-2147483648), (-1))], [], [], [(some (.inl ((-1), (-1))), [])], 0, 0)
/-- LoadsAhead worst -/
theorem qk_1100 (l : Launch) : ek_ok l tQ iQ kq_1100 := ek_good_ok (sp := sQ) (K := []) (SP := []) (HS := []) (N := 0) (fuel := 16) hIQ (fun _ h => absurd h List.not_mem_nil) (by decide +kernel)
def kq_1101 : ek := (118, [.inr 2, .inl (0, 1)], [], [], [(some (.inl ((-2), (-2))), [((2, 0, 8), (0, 0), none)]), (some (.inl (0, 19)), []), (some (.inl ((-2147483648), 2147483647)), [])], 0, 0)
/-- LoadsAhead worst -/
theorem qk_1101 (l : Launch) : ek_ok l tQ iQ kq_1101 := ek_good_ok (sp := sQ) (K := []) (SP := []) (HS := [((25, [some (.inr 2, none), some (.inl (0, 1), none), some (.inl (0, 19), none), some (.inl (1, 20), none)], [], [], []), [(0, (0, 0, 0), 0), (1, (1, 3, 0), 20), (0, (0, 0, 0), 0)])]) (N := 3) (fuel := 52) hIQ (fun _ h => absurd h List.not_mem_nil) (by decide +kernel)
def kq_1102 : ek := (118, [.inr 2, .inl (2, 2147483647)], [], [], [(some (.inl ((-1), (-1))), [])], 0, 0)
/-- LoadsAhead worst -/
theorem qk_1102 (l : Launch) : ek_ok l tQ iQ kq_1102 := ek_good_ok (sp := sQ) (K := []) (SP := []) (HS := []) (N := 0) (fuel := 22) hIQ (fun _ h => absurd h List.not_mem_nil) (by decide +kernel)
def kq_1103 : ek := (228, [.inr 86, .inl ((-2147483648), (-1))], [], [], [(some (.inl ((-1), (-1))), [])], 1, 22)
/-- LoadsAheadModel worst -/
theorem qk_1103 (l : Launch) : ek_ok l tQ iQ kq_1103 := ek_good_ok (sp := sQ) (K := [kq_1063]) (SP := [(3, [(2, [(-1), 1])])]) (HS := []) (N := 0) (fuel := 22) hIQ (List.forall_mem_cons.mpr ⟨qk_1063 l, fun _ h => absurd h List.not_mem_nil⟩) (by decide +kernel)
def kq_1104 : ek := (229, [.inr 86], [], [], [(some (.inl (0, 19)), [])], 0, 0)
/-- LoadsAheadModel worstOp -/
theorem qk_1104 (l : Launch) : ek_ok l tQ iQ kq_1104 := ek_good_ok (sp := sQ) (K := []) (SP := []) (HS := [((4, [some (.inr 86, none), some (.inl (0, 19), none), some (.inl (1, 20), none)], [], [], []), [(0, (0, 0, 0), 0), (1, (1, 2, 0), 20), (0, (0, 0, 0), 0)])]) (N := 3) (fuel := 44) hIQ (fun _ h => absurd h List.not_mem_nil) (by decide +kernel)
def kq_1105 : ek := (228, [.inr 86, .inl (0, 1)], [], [], [(some (.inl ((-2), (-2))), [((2, 84, 75), (0, 0), none)]), (some (.inl (0, 19)), [((2, 84, 75), (1, 1), none)]), (some (.inl ((-2147483648), 2147483647)), [((2, 84, 75), (1, 1), none)])], 1, 22)
/-- LoadsAheadModel worst -/
theorem qk_1105 (l : Launch) : ek_ok l tQ iQ kq_1105 := ek_good_ok (sp := sQ) (K := [kq_1104, kq_1065]) (SP := [(3, [(2, [(-1), 1])])]) (HS := []) (N := 0) (fuel := 40) hIQ (List.forall_mem_cons.mpr ⟨qk_1104 l, List.forall_mem_cons.mpr ⟨qk_1065 l, fun _ h => absurd h List.not_mem_nil⟩⟩) (by decide +kernel)
def kq_1106 : ek := (228, [.inr 86, .inl (2, 2147483647)], [], [], [(some (.inl ((-1), (-1))), [])], 1, 22)
/-- LoadsAheadModel worst -/
theorem qk_1106 (l : Launch) : ek_ok l tQ iQ kq_1106 := ek_good_ok (sp := sQ) (K := [kq_1082]) (SP := [(3, [(2, [(-1), 1])])]) (HS := []) (N := 0) (fuel := 22) hIQ (List.forall_mem_cons.mpr ⟨qk_1082 l, fun _ h => absurd h List.not_mem_nil⟩) (by decide +kernel)
def kq_1107 : ek := (119, [.inr 2], [], [], [(some (.inl ((-2147483648), 2147483647)), [])], 0, 0)
/-- LoadsAhead deep -/
theorem qk_1107 (l : Launch) : ek_ok l tQ iQ kq_1107 := ek_good_ok (sp := sQ) (K := []) (SP := []) (HS := []) (N := 0) (fuel := 18) hIQ (fun _ h => absurd h List.not_mem_nil) (by decide +kernel)
def kq_1108 : ek := (195, [.inr 86, .inl (0, 19), .inl (0, 19)], [], [], [(some (.inl (1, 1)), []), (some (.inl (0, 0)), [])], 2, 45)
/-- LoadsAheadModel hasSource -/
theorem qk_1108 (l : Launch) : ek_ok l tQ iQ kq_1108 := ek_good_ok (sp := sQ) (K := [kq_441, kq_428]) (SP := []) (HS := [((2, [some (.inr 86, none), some (.inl (0, 19), none), some (.inl (0, 19), none), some (.inl (0, 8), none)], [], [], []), [(0, (0, 0, 0), 0), (1, (1, 3, 0), 8), (0, (0, 0, 0), 0)])]) (N := 3) (fuel := 42) hIQ (List.forall_mem_cons.mpr ⟨qk_441 l, List.forall_mem_cons.mpr ⟨qk_428 l, fun _ h => absurd h List.not_mem_nil⟩⟩) (by decide +kernel)
def kq_1109 : ek := (225, [.inl ((-2147483648), 2147483647), .inl ((-2147483648), 2147483647)], [], [], [(some (.inl ((-2147483648), 2147483647)), [])], 0, 0)
/-- LoadsAheadModel max -/
theorem qk_1109 (l : Launch) : ek_ok l tQ iQ kq_1109 := ek_good_ok (sp := sQ) (K := []) (SP := []) (HS := []) (N := 0) (fuel := 20) hIQ (fun _ h => absurd h List.not_mem_nil) (by decide +kernel)
def kq_1110 : ek := (225, [.inl (0, 2147483647), .inl ((-2147483648), 2147483647)], [], [], [(some (.inl (0, 2147483647)), [])], 0, 0)
/-- LoadsAheadModel max -/
theorem qk_1110 (l : Launch) : ek_ok l tQ iQ kq_1110 := ek_good_ok (sp := sQ) (K := []) (SP := []) (HS := []) (N := 0) (fuel := 20) hIQ (fun _ h => absurd h List.not_mem_nil) (by decide +kernel)
def kq_1111 : ek := (224, [.inr 86], [], [(143, 999)], [(some (.inl (0, 2147483647)), [])], 3, 68)
/-- LoadsAheadModel deep -/
theorem qk_1111 (l : Launch) : ek_ok l tQ iQ kq_1111 := ek_good_ok (sp := sQ) (K := [kq_1108, kq_1110, kq_1109]) (SP := []) (HS := [((4, [some (.inr 86, none), some (.inl (0, 2147483647), none), some (.inl (0, 20), none), none], [], [], []), [(0, (0, 0, 0), 0), (1, (1, 2, 0), 20), (0, (0, 0, 0), 1), (0, (0, 0, 0), 0), (0, (0, 0, 0), 0)]), ((21, [some (.inr 86, none), some (.inl (0, 2147483647), none), some (.inl (0, 19), none), some (.inl (0, 19), none)], [], [], []), [(0, (0, 0, 0), 0), (1, (1, 2, 0), 20), (0, (0, 0, 0), 0), (1, (1, 3, 0), 19), (0, (0, 0, 0), 0)])]) (N := 5) (fuel := 60) hIQ (List.forall_mem_cons.mpr ⟨qk_1108 l, List.forall_mem_cons.mpr ⟨qk_1110 l, List.forall_mem_cons.mpr ⟨qk_1109 l, fun _ h => absurd h List.not_mem_nil⟩⟩⟩) (by decide +kernel)
def kq_1112 : ek := (225, [.inl (0, 0), .inl ((-2147483648), 2147483647)], [], [], [(some (.inl (0, 2147483647)), [])], 0, 0)
/-- LoadsAheadModel max -/
theorem qk_1112 (l : Launch) : ek_ok l tQ iQ kq_1112 := ek_good_ok (sp := sQ) (K := []) (SP := []) (HS := []) (N := 0) (fuel := 20) hIQ (fun _ h => absurd h List.not_mem_nil) (by decide +kernel)
def kq_1113 : ek := (172, [.inr 86, .inl (1, 1), .inl (0, 7)], [], [], [(some (.inl (1, 1)), []), (some (.inl (0, 0)), [])], 0, 0)
/-- LoadsAheadModel doesRead -/
theorem qk_1113 (l : Launch) : ek_ok l tQ iQ kq_1113 := ek_good_ok (sp := sQ) (K := []) (SP := []) (HS := []) (N := 0) (fuel := 48) hIQ (fun _ h => absurd h List.not_mem_nil) (by decide +kernel)
def kq_1114 : ek := (173, [.inr 86, .inl (1, 1), .inl (0, 7)], [], [], [(some (.inl (0, 0)), []), (some (.inl ((-1), (-1))), [])], 1, 22)
/-- LoadsAheadModel giverOf -/
theorem qk_1114 (l : Launch) : ek_ok l tQ iQ kq_1114 := ek_good_ok (sp := sQ) (K := [kq_483]) (SP := []) (HS := [((4, [some (.inr 86, none), some (.inl (1, 1), none), some (.inl (0, 7), none), some (.inl ((-1), 0), none)], [], [], []), [(0, (0, 0, 0), 0), (2, (1, 3, 0), (-1)), (0, (0, 0, 0), 0)])]) (N := 3) (fuel := 28) hIQ (List.forall_mem_cons.mpr ⟨qk_483 l, fun _ h => absurd h List.not_mem_nil⟩) (by decide +kernel)
def kq_1115 : ek := (195, [.inr 86, .inl (1, 1), .inl (0, 0)], [], [], [(some (.inl (1, 1)), []), (some (.inl (0, 0)), [])], 2, 45)
/-- LoadsAheadModel hasSource -/
theorem qk_1115 (l : Launch) : ek_ok l tQ iQ kq_1115 := ek_good_ok (sp := sQ) (K := [kq_1113, kq_1114]) (SP := []) (HS := [((2, [some (.inr 86, none), some (.inl (1, 1), none), some (.inl (0, 0), none), some (.inl (0, 8), none)], [], [], []), [(0, (0, 0, 0), 0), (1, (1, 3, 0), 8), (0, (0, 0, 0), 0)])]) (N := 3) (fuel := 42) hIQ (List.forall_mem_cons.mpr ⟨qk_1113 l, List.forall_mem_cons.mpr ⟨qk_1114 l, fun _ h => absurd h List.not_mem_nil⟩⟩) (by decide +kernel)
def kq_1116 : ek := (172, [.inr 86, .inl (1, 1), .inl (0, 0)], [], [], [(some (.inl (1, 1)), []), (some (.inl (0, 0)), [])], 0, 0)
/-- LoadsAheadModel doesRead -/
theorem qk_1116 (l : Launch) : ek_ok l tQ iQ kq_1116 := ek_good_ok (sp := sQ) (K := []) (SP := []) (HS := []) (N := 0) (fuel := 48) hIQ (fun _ h => absurd h List.not_mem_nil) (by decide +kernel)
def kq_1117 : ek := (172, [.inr 86, .inl (1, 1), .inl (0, 1)], [], [], [(some (.inl (1, 1)), []), (some (.inl (0, 0)), [])], 0, 0)
/-- LoadsAheadModel doesRead -/
theorem qk_1117 (l : Launch) : ek_ok l tQ iQ kq_1117 := ek_good_ok (sp := sQ) (K := []) (SP := []) (HS := []) (N := 0) (fuel := 48) hIQ (fun _ h => absurd h List.not_mem_nil) (by decide +kernel)
def kq_1118 : ek := (172, [.inr 86, .inl (1, 1), .inl (0, 3)], [], [], [(some (.inl (1, 1)), []), (some (.inl (0, 0)), [])], 0, 0)
/-- LoadsAheadModel doesRead -/
theorem qk_1118 (l : Launch) : ek_ok l tQ iQ kq_1118 := ek_good_ok (sp := sQ) (K := []) (SP := []) (HS := []) (N := 0) (fuel := 48) hIQ (fun _ h => absurd h List.not_mem_nil) (by decide +kernel)
def kq_1119 : ek := (173, [.inr 86, .inl (1, 1), .inl (0, 3)], [], [], [(some (.inl (0, 0)), []), (some (.inl ((-1), (-1))), [])], 1, 22)
/-- LoadsAheadModel giverOf -/
theorem qk_1119 (l : Launch) : ek_ok l tQ iQ kq_1119 := ek_good_ok (sp := sQ) (K := [kq_547]) (SP := []) (HS := [((4, [some (.inr 86, none), some (.inl (1, 1), none), some (.inl (0, 3), none), some (.inl ((-1), 0), none)], [], [], []), [(0, (0, 0, 0), 0), (2, (1, 3, 0), (-1)), (0, (0, 0, 0), 0)])]) (N := 3) (fuel := 28) hIQ (List.forall_mem_cons.mpr ⟨qk_547 l, fun _ h => absurd h List.not_mem_nil⟩) (by decide +kernel)
def kq_1120 : ek := (173, [.inr 86, .inl (1, 1), .inl (0, 1)], [], [], [(some (.inl (0, 0)), []), (some (.inl ((-1), (-1))), [])], 1, 22)
/-- LoadsAheadModel giverOf -/
theorem qk_1120 (l : Launch) : ek_ok l tQ iQ kq_1120 := ek_good_ok (sp := sQ) (K := [kq_549]) (SP := []) (HS := [((4, [some (.inr 86, none), some (.inl (1, 1), none), some (.inl (0, 1), none), some (.inl ((-1), 0), none)], [], [], []), [(0, (0, 0, 0), 0), (2, (1, 3, 0), (-1)), (0, (0, 0, 0), 0)])]) (N := 3) (fuel := 28) hIQ (List.forall_mem_cons.mpr ⟨qk_549 l, fun _ h => absurd h List.not_mem_nil⟩) (by decide +kernel)
def kq_1121 : ek := (173, [.inr 86, .inl (1, 1), .inl (0, 0)], [], [], [(some (.inl (0, 0)), []), (some (.inl ((-1), (-1))), [])], 1, 22)
/-- LoadsAheadModel giverOf -/
theorem qk_1121 (l : Launch) : ek_ok l tQ iQ kq_1121 := ek_good_ok (sp := sQ) (K := [kq_551]) (SP := []) (HS := [((4, [some (.inr 86, none), some (.inl (1, 1), none), some (.inl (0, 0), none), some (.inl ((-1), 0), none)], [], [], []), [(0, (0, 0, 0), 0), (2, (1, 3, 0), (-1)), (0, (0, 0, 0), 0)])]) (N := 3) (fuel := 28) hIQ (List.forall_mem_cons.mpr ⟨qk_551 l, fun _ h => absurd h List.not_mem_nil⟩) (by decide +kernel)
def kq_1122 : ek := (195, [.inr 86, .inl (0, 3), .inl (0, 1)], [], [], [(some (.inl (1, 1)), []), (some (.inl (0, 0)), [])], 2, 45)
/-- LoadsAheadModel hasSource -/
theorem qk_1122 (l : Launch) : ek_ok l tQ iQ kq_1122 := ek_good_ok (sp := sQ) (K := [kq_555, kq_497]) (SP := []) (HS := [((2, [some (.inr 86, none), some (.inl (0, 3), none), some (.inl (0, 1), none), some (.inl (0, 8), none)], [], [], []), [(0, (0, 0, 0), 0), (1, (1, 3, 0), 8), (0, (0, 0, 0), 0)])]) (N := 3) (fuel := 42) hIQ (List.forall_mem_cons.mpr ⟨qk_555 l, List.forall_mem_cons.mpr ⟨qk_497 l, fun _ h => absurd h List.not_mem_nil⟩⟩) (by decide +kernel)
def kq_1123 : ek := (195, [.inr 86, .inl (0, 3), .inl (0, 3)], [], [], [(some (.inl (1, 1)), []), (some (.inl (0, 0)), [])], 2, 45)
/-- LoadsAheadModel hasSource -/
theorem qk_1123 (l : Launch) : ek_ok l tQ iQ kq_1123 := ek_good_ok (sp := sQ) (K := [kq_555, kq_497]) (SP := []) (HS := [((2, [some (.inr 86, none), some (.inl (0, 3), none), some (.inl (0, 3), none), some (.inl (0, 8), none)], [], [], []), [(0, (0, 0, 0), 0), (1, (1, 3, 0), 8), (0, (0, 0, 0), 0)])]) (N := 3) (fuel := 42) hIQ (List.forall_mem_cons.mpr ⟨qk_555 l, List.forall_mem_cons.mpr ⟨qk_497 l, fun _ h => absurd h List.not_mem_nil⟩⟩) (by decide +kernel)
def kq_1124 : ek := (195, [.inr 86, .inl (0, 7), .inl (0, 3)], [], [], [(some (.inl (1, 1)), []), (some (.inl (0, 0)), [])], 2, 45)
/-- LoadsAheadModel hasSource -/
theorem qk_1124 (l : Launch) : ek_ok l tQ iQ kq_1124 := ek_good_ok (sp := sQ) (K := [kq_509, kq_568]) (SP := []) (HS := [((2, [some (.inr 86, none), some (.inl (0, 7), none), some (.inl (0, 3), none), some (.inl (0, 8), none)], [], [], []), [(0, (0, 0, 0), 0), (1, (1, 3, 0), 8), (0, (0, 0, 0), 0)])]) (N := 3) (fuel := 42) hIQ (List.forall_mem_cons.mpr ⟨qk_509 l, List.forall_mem_cons.mpr ⟨qk_568 l, fun _ h => absurd h List.not_mem_nil⟩⟩) (by decide +kernel)
def kq_1125 : ek := (195, [.inr 86, .inl (0, 7), .inl (0, 7)], [], [], [(some (.inl (1, 1)), []), (some (.inl (0, 0)), [])], 2, 45)
/-- LoadsAheadModel hasSource -/
theorem qk_1125 (l : Launch) : ek_ok l tQ iQ kq_1125 := ek_good_ok (sp := sQ) (K := [kq_509, kq_568]) (SP := []) (HS := [((2, [some (.inr 86, none), some (.inl (0, 7), none), some (.inl (0, 7), none), some (.inl (0, 8), none)], [], [], []), [(0, (0, 0, 0), 0), (1, (1, 3, 0), 8), (0, (0, 0, 0), 0)])]) (N := 3) (fuel := 42) hIQ (List.forall_mem_cons.mpr ⟨qk_509 l, List.forall_mem_cons.mpr ⟨qk_568 l, fun _ h => absurd h List.not_mem_nil⟩⟩) (by decide +kernel)
def kq_1126 : ek := (195, [.inr 86, .inl (0, 15), .inl (0, 7)], [], [], [(some (.inl (1, 1)), []), (some (.inl (0, 0)), [])], 2, 45)
/-- LoadsAheadModel hasSource -/
theorem qk_1126 (l : Launch) : ek_ok l tQ iQ kq_1126 := ek_good_ok (sp := sQ) (K := [kq_581, kq_520]) (SP := []) (HS := [((2, [some (.inr 86, none), some (.inl (0, 15), none), some (.inl (0, 7), none), some (.inl (0, 8), none)], [], [], []), [(0, (0, 0, 0), 0), (1, (1, 3, 0), 8), (0, (0, 0, 0), 0)])]) (N := 3) (fuel := 42) hIQ (List.forall_mem_cons.mpr ⟨qk_581 l, List.forall_mem_cons.mpr ⟨qk_520 l, fun _ h => absurd h List.not_mem_nil⟩⟩) (by decide +kernel)
def kq_1127 : ek := (195, [.inr 86, .inl (0, 15), .inl (0, 15)], [], [], [(some (.inl (1, 1)), []), (some (.inl (0, 0)), [])], 2, 45)
/-- LoadsAheadModel hasSource -/
theorem qk_1127 (l : Launch) : ek_ok l tQ iQ kq_1127 := ek_good_ok (sp := sQ) (K := [kq_581, kq_520]) (SP := []) (HS := [((2, [some (.inr 86, none), some (.inl (0, 15), none), some (.inl (0, 15), none), some (.inl (0, 8), none)], [], [], []), [(0, (0, 0, 0), 0), (1, (1, 3, 0), 8), (0, (0, 0, 0), 0)])]) (N := 3) (fuel := 42) hIQ (List.forall_mem_cons.mpr ⟨qk_581 l, List.forall_mem_cons.mpr ⟨qk_520 l, fun _ h => absurd h List.not_mem_nil⟩⟩) (by decide +kernel)
def kq_1128 : ek := (195, [.inr 86, .inl (0, 19), .inl (0, 15)], [], [], [(some (.inl (1, 1)), []), (some (.inl (0, 0)), [])], 2, 45)
/-- LoadsAheadModel hasSource -/
theorem qk_1128 (l : Launch) : ek_ok l tQ iQ kq_1128 := ek_good_ok (sp := sQ) (K := [kq_441, kq_428]) (SP := []) (HS := [((2, [some (.inr 86, none), some (.inl (0, 19), none), some (.inl (0, 15), none), some (.inl (0, 8), none)], [], [], []), [(0, (0, 0, 0), 0), (1, (1, 3, 0), 8), (0, (0, 0, 0), 0)])]) (N := 3) (fuel := 42) hIQ (List.forall_mem_cons.mpr ⟨qk_441 l, List.forall_mem_cons.mpr ⟨qk_428 l, fun _ h => absurd h List.not_mem_nil⟩⟩) (by decide +kernel)
def kq_1129 : ek := (70, [.inl ((-2147483648), 2147483647), .inl (0, 4), .inl ((-2147483648), 2147483647)], [], [], [(some (.inl (1, 1)), []), (some (.inl (0, 0)), [])], 0, 0)
/-- LoadsAhead covers -/
theorem qk_1129 (l : Launch) : ek_ok l tQ iQ kq_1129 := ek_good_ok (sp := sQ) (K := []) (SP := []) (HS := []) (N := 0) (fuel := 28) hIQ (fun _ h => absurd h List.not_mem_nil) (by decide +kernel)
def kq_1130 : ek := (122, [.inr 67, .inr 6, .inl (0, 19), .inl (0, 19)], [], [], [(some (.inl (0, 0)), []), (some (.inl (1, 1)), [])], 1, 22)
/-- LoadsAhead.Plain meet -/
theorem qk_1130 (l : Launch) : ek_ok l tQ iQ kq_1130 := ek_good_ok (sp := sQ) (K := [kq_1129]) (SP := []) (HS := []) (N := 0) (fuel := 70) hIQ (List.forall_mem_cons.mpr ⟨qk_1129 l, fun _ h => absurd h List.not_mem_nil⟩) (by decide +kernel)
def kq_1131 : ek := (121, [.inr 67, .inr 6], [], [], [(some (.inl ((-2147483648), 2147483647)), []), (some (.inl (0, 0)), [((2, 4, 11), (0, 1), none)])], 2, 45)
/-- LoadsAhead.Plain sharedBytes -/
theorem qk_1131 (l : Launch) : ek_ok l tQ iQ kq_1131 := ek_good_ok (sp := sQ) (K := [kq_1130]) (SP := []) (HS := [((4, [some (.inr 67, none), some (.inr 6, none), some (.inl ((-2147483648), 2147483647), none), some (.inl (0, 20), none), none], [], [], []), [(0, (0, 0, 0), 0), (1, (1, 3, 0), 20), (0, (0, 0, 0), 1), (0, (0, 0, 0), 0), (0, (0, 0, 0), 0)]), ((15, [some (.inr 67, none), some (.inr 6, none), some (.inl ((-2147483648), 2147483647), none), some (.inl (0, 19), none), some (.inl (0, 19), none)], [], [], []), [(0, (0, 0, 0), 0), (1, (1, 3, 0), 20), (0, (0, 0, 0), 0), (1, (1, 4, 0), 19), (0, (0, 0, 0), 0)])]) (N := 5) (fuel := 58) hIQ (List.forall_mem_cons.mpr ⟨qk_1130 l, fun _ h => absurd h List.not_mem_nil⟩) (by decide +kernel)
def kq_1132 : ek := (120, [.inr 2], [], [(66, 3), (66, 4), (66, 5), (67, 999), (68, 999), (69, 999), (70, 999)], [(some (.inl (0, 0)), [((2, 4, 11), (0, 1), none)]), (some (.inl ((-2147483648), 2147483647)), [])], 4, 132)
/-- LoadsAhead mix -/
theorem qk_1132 (l : Launch) : ek_ok l tQ iQ kq_1132 := ek_good_ok (sp := sQ) (K := [kq_1031, kq_1131]) (SP := []) (HS := []) (N := 0) (fuel := 40) hIQ (List.forall_mem_cons.mpr ⟨qk_1031 l, List.forall_mem_cons.mpr ⟨qk_1131 l, fun _ h => absurd h List.not_mem_nil⟩⟩) (by decide +kernel)
def kq_1133 : ek := (122, [.inr 67, .inr 6, .inl (1, 1), .inl (0, 0)], [], [], [(some (.inl (0, 0)), []), (some (.inl (1, 1)), [])], 1, 22)
/-- LoadsAhead.Plain meet -/
theorem qk_1133 (l : Launch) : ek_ok l tQ iQ kq_1133 := ek_good_ok (sp := sQ) (K := [kq_1129]) (SP := []) (HS := []) (N := 0) (fuel := 70) hIQ (List.forall_mem_cons.mpr ⟨qk_1129 l, fun _ h => absurd h List.not_mem_nil⟩) (by decide +kernel)
def kq_1134 : ek := (122, [.inr 67, .inr 6, .inl (0, 3), .inl (0, 1)], [], [], [(some (.inl (0, 0)), []), (some (.inl (1, 1)), [])], 1, 22)
/-- LoadsAhead.Plain meet -/
theorem qk_1134 (l : Launch) : ek_ok l tQ iQ kq_1134 := ek_good_ok (sp := sQ) (K := [kq_1129]) (SP := []) (HS := []) (N := 0) (fuel := 70) hIQ (List.forall_mem_cons.mpr ⟨qk_1129 l, fun _ h => absurd h List.not_mem_nil⟩) (by decide +kernel)
def kq_1135 : ek := (122, [.inr 67, .inr 6, .inl (0, 3), .inl (0, 3)], [], [], [(some (.inl (0, 0)), []), (some (.inl (1, 1)), [])], 1, 22)
/-- LoadsAhead.Plain meet -/
theorem qk_1135 (l : Launch) : ek_ok l tQ iQ kq_1135 := ek_good_ok (sp := sQ) (K := [kq_1129]) (SP := []) (HS := []) (N := 0) (fuel := 70) hIQ (List.forall_mem_cons.mpr ⟨qk_1129 l, fun _ h => absurd h List.not_mem_nil⟩) (by decide +kernel)
def kq_1136 : ek := (122, [.inr 67, .inr 6, .inl (0, 7), .inl (0, 3)], [], [], [(some (.inl (0, 0)), []), (some (.inl (1, 1)), [])], 1, 22)
/-- LoadsAhead.Plain meet -/
theorem qk_1136 (l : Launch) : ek_ok l tQ iQ kq_1136 := ek_good_ok (sp := sQ) (K := [kq_1129]) (SP := []) (HS := []) (N := 0) (fuel := 70) hIQ (List.forall_mem_cons.mpr ⟨qk_1129 l, fun _ h => absurd h List.not_mem_nil⟩) (by decide +kernel)
def kq_1137 : ek := (122, [.inr 67, .inr 6, .inl (0, 7), .inl (0, 7)], [], [], [(some (.inl (0, 0)), []), (some (.inl (1, 1)), [])], 1, 22)
/-- LoadsAhead.Plain meet -/
theorem qk_1137 (l : Launch) : ek_ok l tQ iQ kq_1137 := ek_good_ok (sp := sQ) (K := [kq_1129]) (SP := []) (HS := []) (N := 0) (fuel := 70) hIQ (List.forall_mem_cons.mpr ⟨qk_1129 l, fun _ h => absurd h List.not_mem_nil⟩) (by decide +kernel)
def kq_1138 : ek := (122, [.inr 67, .inr 6, .inl (0, 15), .inl (0, 7)], [], [], [(some (.inl (0, 0)), []), (some (.inl (1, 1)), [])], 1, 22)
/-- LoadsAhead.Plain meet -/
theorem qk_1138 (l : Launch) : ek_ok l tQ iQ kq_1138 := ek_good_ok (sp := sQ) (K := [kq_1129]) (SP := []) (HS := []) (N := 0) (fuel := 70) hIQ (List.forall_mem_cons.mpr ⟨qk_1129 l, fun _ h => absurd h List.not_mem_nil⟩) (by decide +kernel)
def kq_1139 : ek := (122, [.inr 67, .inr 6, .inl (0, 15), .inl (0, 15)], [], [], [(some (.inl (0, 0)), []), (some (.inl (1, 1)), [])], 1, 22)
/-- LoadsAhead.Plain meet -/
theorem qk_1139 (l : Launch) : ek_ok l tQ iQ kq_1139 := ek_good_ok (sp := sQ) (K := [kq_1129]) (SP := []) (HS := []) (N := 0) (fuel := 70) hIQ (List.forall_mem_cons.mpr ⟨qk_1129 l, fun _ h => absurd h List.not_mem_nil⟩) (by decide +kernel)
def kq_1140 : ek := (122, [.inr 67, .inr 6, .inl (0, 19), .inl (0, 15)], [], [], [(some (.inl (0, 0)), []), (some (.inl (1, 1)), [])], 1, 22)
/-- LoadsAhead.Plain meet -/
theorem qk_1140 (l : Launch) : ek_ok l tQ iQ kq_1140 := ek_good_ok (sp := sQ) (K := [kq_1129]) (SP := []) (HS := []) (N := 0) (fuel := 70) hIQ (List.forall_mem_cons.mpr ⟨qk_1129 l, fun _ h => absurd h List.not_mem_nil⟩) (by decide +kernel)
def kq_1141 : ek := (223, [.inr 86, .inl (0, 19), .inl (0, 19)], [], [], [(some (.inl (1, 1)), []), (some (.inl (0, 0)), [])], 0, 0)
/-- LoadsAheadModel haveByte -/
theorem qk_1141 (l : Launch) : ek_ok l tQ iQ kq_1141 := ek_good_ok (sp := sQ) (K := []) (SP := []) (HS := [((2, [some (.inr 86, none), some (.inl (0, 19), none), some (.inl (0, 19), none), some (.inl (0, 4), none)], [], [], []), [(0, (0, 0, 0), 0), (1, (1, 3, 0), 4), (0, (0, 0, 0), 0)])]) (N := 3) (fuel := 62) hIQ (fun _ h => absurd h List.not_mem_nil) (by decide +kernel)
def kq_1142 : ek := (222, [.inr 86], [], [(140, 999), (141, 999), (142, 999)], [(some (.inl ((-2147483648), 2147483647)), []), (some (.inl (0, 0)), [((2, 84, 2), (0, 1), none)])], 3, 68)
/-- LoadsAheadModel mix -/
theorem qk_1142 (l : Launch) : ek_ok l tQ iQ kq_1142 := ek_good_ok (sp := sQ) (K := [kq_1037, kq_1141]) (SP := []) (HS := [((8, [some (.inr 86, none), some (.inl ((-2147483648), 2147483647), none), some (.inl (0, 20), none), none], [], [], []), [(0, (0, 0, 0), 0), (1, (1, 2, 0), 20), (0, (0, 0, 0), 1), (0, (0, 0, 0), 0), (0, (0, 0, 0), 0)]), ((18, [some (.inr 86, none), some (.inl ((-2147483648), 2147483647), none), some (.inl (0, 19), none), some (.inl (0, 19), none)], [], [], []), [(0, (0, 0, 0), 0), (1, (1, 2, 0), 20), (0, (0, 0, 0), 0), (1, (1, 3, 0), 19), (0, (0, 0, 0), 0)])]) (N := 5) (fuel := 62) hIQ (List.forall_mem_cons.mpr ⟨qk_1037 l, List.forall_mem_cons.mpr ⟨qk_1141 l, fun _ h => absurd h List.not_mem_nil⟩⟩) (by decide +kernel)
def kq_1143 : ek := (223, [.inr 86, .inl (1, 1), .inl (0, 0)], [], [], [(some (.inl (1, 1)), []), (some (.inl (0, 0)), [])], 0, 0)
/-- LoadsAheadModel haveByte -/
theorem qk_1143 (l : Launch) : ek_ok l tQ iQ kq_1143 := ek_good_ok (sp := sQ) (K := []) (SP := []) (HS := [((2, [some (.inr 86, none), some (.inl (1, 1), none), some (.inl (0, 0), none), some (.inl (0, 4), none)], [], [], []), [(0, (0, 0, 0), 0), (1, (1, 3, 0), 4), (0, (0, 0, 0), 0)])]) (N := 3) (fuel := 62) hIQ (fun _ h => absurd h List.not_mem_nil) (by decide +kernel)
def kq_1144 : ek := (223, [.inr 86, .inl (0, 3), .inl (0, 1)], [], [], [(some (.inl (1, 1)), []), (some (.inl (0, 0)), [])], 0, 0)
/-- LoadsAheadModel haveByte -/
theorem qk_1144 (l : Launch) : ek_ok l tQ iQ kq_1144 := ek_good_ok (sp := sQ) (K := []) (SP := []) (HS := [((2, [some (.inr 86, none), some (.inl (0, 3), none), some (.inl (0, 1), none), some (.inl (0, 4), none)], [], [], []), [(0, (0, 0, 0), 0), (1, (1, 3, 0), 4), (0, (0, 0, 0), 0)])]) (N := 3) (fuel := 62) hIQ (fun _ h => absurd h List.not_mem_nil) (by decide +kernel)
def kq_1145 : ek := (223, [.inr 86, .inl (0, 3), .inl (0, 3)], [], [], [(some (.inl (1, 1)), []), (some (.inl (0, 0)), [])], 0, 0)
/-- LoadsAheadModel haveByte -/
theorem qk_1145 (l : Launch) : ek_ok l tQ iQ kq_1145 := ek_good_ok (sp := sQ) (K := []) (SP := []) (HS := [((2, [some (.inr 86, none), some (.inl (0, 3), none), some (.inl (0, 3), none), some (.inl (0, 4), none)], [], [], []), [(0, (0, 0, 0), 0), (1, (1, 3, 0), 4), (0, (0, 0, 0), 0)])]) (N := 3) (fuel := 62) hIQ (fun _ h => absurd h List.not_mem_nil) (by decide +kernel)
def kq_1146 : ek := (223, [.inr 86, .inl (0, 7), .inl (0, 3)], [], [], [(some (.inl (1, 1)), []), (some (.inl (0, 0)), [])], 0, 0)
/-- LoadsAheadModel haveByte -/
theorem qk_1146 (l : Launch) : ek_ok l tQ iQ kq_1146 := ek_good_ok (sp := sQ) (K := []) (SP := []) (HS := [((2, [some (.inr 86, none), some (.inl (0, 7), none), some (.inl (0, 3), none), some (.inl (0, 4), none)], [], [], []), [(0, (0, 0, 0), 0), (1, (1, 3, 0), 4), (0, (0, 0, 0), 0)])]) (N := 3) (fuel := 62) hIQ (fun _ h => absurd h List.not_mem_nil) (by decide +kernel)
