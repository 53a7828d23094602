def kq_957 : ek := (212, [.inr 86, .inl (5, 2147483647), .inl (100, 163)], [], [], [(some (.inl ((-1), (-1))), [])], 2, 43)
/-- LoadsAheadModel tried -/
theorem qk_957 (l : Launch) : ek_ok l tQ iQ kq_957 := ek_good_ok (sp := sQ) (K := [kq_935, kq_934, kq_936, kq_864]) (SP := [(3, [(2, [(-1), 5])]), (14, [(2, [9, 17])]), (26, [(2, [99, 163])]), (40, [(0, [0, 4])])]) (HS := []) (N := 0) (fuel := 56) hIQ (List.forall_mem_cons.mpr ⟨qk_935 l, List.forall_mem_cons.mpr ⟨qk_934 l, List.forall_mem_cons.mpr ⟨qk_936 l, List.forall_mem_cons.mpr ⟨qk_864 l, fun _ h => absurd h List.not_mem_nil⟩⟩⟩⟩) (by decide +kernel)
def kq_958 : ek := (212, [.inr 86, .inl (5, 2147483647), .inl (164, 2147483647)], [], [], [(some (.inl ((-1), (-1))), [])], 2, 43)
/-- LoadsAheadModel tried -/
theorem qk_958 (l : Launch) : ek_ok l tQ iQ kq_958 := ek_good_ok (sp := sQ) (K := [kq_864, kq_939, kq_940, kq_938]) (SP := [(3, [(2, [(-1), 5])]), (14, [(2, [9, 17])]), (26, [(2, [99, 163])]), (40, [(0, [0, 4])])]) (HS := []) (N := 0) (fuel := 54) hIQ (List.forall_mem_cons.mpr ⟨qk_864 l, List.forall_mem_cons.mpr ⟨qk_939 l, List.forall_mem_cons.mpr ⟨qk_940 l, List.forall_mem_cons.mpr ⟨qk_938 l, fun _ h => absurd h List.not_mem_nil⟩⟩⟩⟩) (by decide +kernel)
def kq_959 : ek := (100, [.inl ((-2147483648), (-1))], [], [], [(some (.inl (0, 0)), [])], 0, 0)
/-- LoadsAhead isTotal -/
theorem qk_959 (l : Launch) : ek_ok l tQ iQ kq_959 := ek_good_ok (sp := sQ) (K := []) (SP := []) (HS := []) (N := 0) (fuel := 16) hIQ (fun _ h => absurd h List.not_mem_nil) (by decide +kernel)
def kq_960 : ek := (102, [.inr 2, .inl ((-2147483648), (-1))], [], [], [(some (.inl ((-1), (-1))), [])], 1, 20)
/-- LoadsAhead lastRun -/
theorem qk_960 (l : Launch) : ek_ok l tQ iQ kq_960 := ek_good_ok (sp := sQ) (K := [kq_959]) (SP := [(1, [(0, [(-1), 5])])]) (HS := []) (N := 0) (fuel := 18) hIQ (List.forall_mem_cons.mpr ⟨qk_959 l, fun _ h => absurd h List.not_mem_nil⟩) (by decide +kernel)
def kq_961 : ek := (102, [.inr 2, .inl (0, 5)], [], [], [(some (.inl ((-2147483648), 2147483647)), [((2, 0, 8), (1, 1), none)]), (some (.inl ((-2), (-2))), [((2, 0, 8), (0, 0), none)])], 1, 20)
/-- LoadsAhead lastRun -/
theorem qk_961 (l : Launch) : ek_ok l tQ iQ kq_961 := ek_good_ok (sp := sQ) (K := [kq_882]) (SP := [(1, [(0, [(-1), 5])])]) (HS := []) (N := 0) (fuel := 34) hIQ (List.forall_mem_cons.mpr ⟨qk_882 l, fun _ h => absurd h List.not_mem_nil⟩) (by decide +kernel)
def kq_962 : ek := (100, [.inl (6, 2147483647)], [], [], [(some (.inl (0, 0)), [])], 0, 0)
/-- LoadsAhead isTotal -/
theorem qk_962 (l : Launch) : ek_ok l tQ iQ kq_962 := ek_good_ok (sp := sQ) (K := []) (SP := []) (HS := []) (N := 0) (fuel := 22) hIQ (fun _ h => absurd h List.not_mem_nil) (by decide +kernel)
def kq_963 : ek := (102, [.inr 2, .inl (6, 2147483647)], [], [], [(some (.inl ((-1), (-1))), [])], 1, 20)
/-- LoadsAhead lastRun -/
theorem qk_963 (l : Launch) : ek_ok l tQ iQ kq_963 := ek_good_ok (sp := sQ) (K := [kq_962]) (SP := [(1, [(0, [(-1), 5])])]) (HS := []) (N := 0) (fuel := 18) hIQ (List.forall_mem_cons.mpr ⟨qk_962 l, fun _ h => absurd h List.not_mem_nil⟩) (by decide +kernel)
def kq_964 : ek := (137, [.inl ((-2147483648), (-1)), .inl (0, 0), .inl (5, 5)], [], [], [(some (.inl (0, 0)), [])], 0, 0)
/-- LoadsAheadModel in -/
theorem qk_964 (l : Launch) : ek_ok l tQ iQ kq_964 := ek_good_ok (sp := sQ) (K := []) (SP := []) (HS := []) (N := 0) (fuel := 18) hIQ (fun _ h => absurd h List.not_mem_nil) (by decide +kernel)
def kq_965 : ek := (216, [.inr 86, .inl ((-2147483648), (-1))], [], [], [(some (.inl ((-1), (-1))), [])], 1, 22)
/-- LoadsAheadModel lastRun -/
theorem qk_965 (l : Launch) : ek_ok l tQ iQ kq_965 := ek_good_ok (sp := sQ) (K := [kq_964]) (SP := [(3, [(2, [(-1), 5])])]) (HS := []) (N := 0) (fuel := 22) hIQ (List.forall_mem_cons.mpr ⟨qk_964 l, fun _ h => absurd h List.not_mem_nil⟩) (by decide +kernel)
def kq_966 : ek := (216, [.inr 86, .inl (0, 5)], [], [], [(some (.inl ((-2147483648), 2147483647)), [((2, 84, 75), (1, 1), none)]), (some (.inl ((-2), (-2))), [((2, 84, 75), (0, 0), none)])], 1, 22)
/-- LoadsAheadModel lastRun -/
theorem qk_966 (l : Launch) : ek_ok l tQ iQ kq_966 := ek_good_ok (sp := sQ) (K := [kq_921]) (SP := [(3, [(2, [(-1), 5])])]) (HS := []) (N := 0) (fuel := 36) hIQ (List.forall_mem_cons.mpr ⟨qk_921 l, fun _ h => absurd h List.not_mem_nil⟩) (by decide +kernel)
def kq_967 : ek := (137, [.inl (6, 2147483647), .inl (0, 0), .inl (5, 5)], [], [], [(some (.inl (0, 0)), [])], 0, 0)
/-- LoadsAheadModel in -/
theorem qk_967 (l : Launch) : ek_ok l tQ iQ kq_967 := ek_good_ok (sp := sQ) (K := []) (SP := []) (HS := []) (N := 0) (fuel := 24) hIQ (fun _ h => absurd h List.not_mem_nil) (by decide +kernel)
def kq_968 : ek := (216, [.inr 86, .inl (6, 2147483647)], [], [], [(some (.inl ((-1), (-1))), [])], 1, 22)
/-- LoadsAheadModel lastRun -/
theorem qk_968 (l : Launch) : ek_ok l tQ iQ kq_968 := ek_good_ok (sp := sQ) (K := [kq_967]) (SP := [(3, [(2, [(-1), 5])])]) (HS := []) (N := 0) (fuel := 22) hIQ (List.forall_mem_cons.mpr ⟨qk_967 l, fun _ h => absurd h List.not_mem_nil⟩) (by decide +kernel)
def kq_969 : ek := (104, [.inr 2, .inl ((-2147483648), (-1))], [], [], [(some (.inl (0, 0)), [])], 0, 0)
/-- LoadsAhead isOp -/
theorem qk_969 (l : Launch) : ek_ok l tQ iQ kq_969 := ek_good_ok (sp := sQ) (K := []) (SP := []) (HS := []) (N := 0) (fuel := 16) hIQ (fun _ h => absurd h List.not_mem_nil) (by decide +kernel)
def kq_970 : ek := (103, [.inr 2, .inl ((-2147483648), (-1)), .inl ((-2147483648), 2147483647)], [], [], [(some (.inl ((-100000), (-100000))), [])], 1, 21)
/-- LoadsAhead opIs -/
theorem qk_970 (l : Launch) : ek_ok l tQ iQ kq_970 := ek_good_ok (sp := sQ) (K := [kq_969]) (SP := [(2, [(0, [(-1), 19])])]) (HS := []) (N := 0) (fuel := 20) hIQ (List.forall_mem_cons.mpr ⟨qk_969 l, fun _ h => absurd h List.not_mem_nil⟩) (by decide +kernel)
def kq_971 : ek := (104, [.inr 2, .inl (0, 19)], [], [], [(some (.inl (1, 1)), [((2, 4, 11), (1, 20), none)]), (some (.inl (0, 0)), [((2, 4, 11), (0, 19), none)])], 0, 0)
/-- LoadsAhead isOp -/
theorem qk_971 (l : Launch) : ek_ok l tQ iQ kq_971 := ek_good_ok (sp := sQ) (K := []) (SP := []) (HS := []) (N := 0) (fuel := 30) hIQ (fun _ h => absurd h List.not_mem_nil) (by decide +kernel)
def kq_972 : ek := (104, [.inr 2, .inl (20, 2147483647)], [], [], [(some (.inl (0, 0)), [])], 0, 0)
/-- LoadsAhead isOp -/
theorem qk_972 (l : Launch) : ek_ok l tQ iQ kq_972 := ek_good_ok (sp := sQ) (K := []) (SP := []) (HS := []) (N := 0) (fuel := 28) hIQ (fun _ h => absurd h List.not_mem_nil) (by decide +kernel)
def kq_973 : ek := (106, [.inl ((-1), 19)], [], [], [(some (.inl ((-2), (-2))), []), (some (.inl (0, 19)), [])], 0, 0)
/-- LoadsAhead orAbsent -/
theorem qk_973 (l : Launch) : ek_ok l tQ iQ kq_973 := ek_good_ok (sp := sQ) (K := []) (SP := []) (HS := []) (N := 0) (fuel := 20) hIQ (fun _ h => absurd h List.not_mem_nil) (by decide +kernel)
def kq_974 : ek := (105, [.inr 2, .inl (0, 19), .inl (0, 2147483637)], [], [], [(some (.inl ((-4), (-2))), []), (some (.inl (0, 19)), [((2, 0, 8), (1, 1), none)])], 1, 20)
/-- LoadsAhead giverOf -/
theorem qk_974 (l : Launch) : ek_ok l tQ iQ kq_974 := ek_good_ok (sp := sQ) (K := [kq_973]) (SP := []) (HS := []) (N := 0) (fuel := 70) hIQ (List.forall_mem_cons.mpr ⟨qk_973 l, fun _ h => absurd h List.not_mem_nil⟩) (by decide +kernel)
def kq_975 : ek := (106, [.inl ((-1), 15)], [], [], [(some (.inl ((-2), (-2))), []), (some (.inl (0, 15)), [])], 0, 0)
/-- LoadsAhead orAbsent -/
theorem qk_975 (l : Launch) : ek_ok l tQ iQ kq_975 := ek_good_ok (sp := sQ) (K := []) (SP := []) (HS := []) (N := 0) (fuel := 20) hIQ (fun _ h => absurd h List.not_mem_nil) (by decide +kernel)
def kq_976 : ek := (107, [.inr 6, .inl (0, 19)], [], [], [(some (.inl (1, 1)), []), (some (.inl (0, 0)), [])], 0, 0)
/-- LoadsAhead.Program moves -/
theorem qk_976 (l : Launch) : ek_ok l tQ iQ kq_976 := ek_good_ok (sp := sQ) (K := []) (SP := []) (HS := []) (N := 0) (fuel := 38) hIQ (fun _ h => absurd h List.not_mem_nil) (by decide +kernel)
def kq_977 : ek := (103, [.inr 2, .inl (0, 2147483647), .inl ((-2147483648), 2147483647)], [], [], [(some (.inl ((-100000), (-2))), []), (some (.inl (0, 19)), [((2, 4, 11), (1, 20), none)]), (some (.inl ((-2147483648), 2147483647)), [((2, 0, 8), (1, 1), none), ((2, 4, 11), (1, 20), none)])], 2, 42)
/-- LoadsAhead opIs -/
theorem qk_977 (l : Launch) : ek_ok l tQ iQ kq_977 := ek_good_ok (sp := sQ) (K := [kq_975, kq_976, kq_971, kq_972, kq_974]) (SP := [(2, [(0, [(-1), 19])])]) (HS := []) (N := 0) (fuel := 78) hIQ (List.forall_mem_cons.mpr ⟨qk_975 l, List.forall_mem_cons.mpr ⟨qk_976 l, List.forall_mem_cons.mpr ⟨qk_971 l, List.forall_mem_cons.mpr ⟨qk_972 l, List.forall_mem_cons.mpr ⟨qk_974 l, fun _ h => absurd h List.not_mem_nil⟩⟩⟩⟩⟩) (by decide +kernel)
def kq_978 : ek := (137, [.inl ((-2147483648), (-1)), .inl (0, 0), .inl ((-1), 19)], [], [], [(some (.inl (0, 0)), [])], 0, 0)
/-- LoadsAheadModel in -/
theorem qk_978 (l : Launch) : ek_ok l tQ iQ kq_978 := ek_good_ok (sp := sQ) (K := []) (SP := []) (HS := []) (N := 0) (fuel := 18) hIQ (fun _ h => absurd h List.not_mem_nil) (by decide +kernel)
def kq_979 : ek := (171, [.inr 86, .inl ((-2147483648), (-1))], [], [], [(some (.inl (0, 0)), [])], 1, 22)
/-- LoadsAheadModel isOp -/
theorem qk_979 (l : Launch) : ek_ok l tQ iQ kq_979 := ek_good_ok (sp := sQ) (K := [kq_978]) (SP := [(8, [(2, [(-1)])])]) (HS := []) (N := 0) (fuel := 24) hIQ (List.forall_mem_cons.mpr ⟨qk_978 l, fun _ h => absurd h List.not_mem_nil⟩) (by decide +kernel)
def kq_980 : ek := (226, [.inr 86, .inl ((-2147483648), (-1)), .inl ((-2147483648), 2147483647)], [], [], [(some (.inl ((-100000), (-100000))), [])], 2, 43)
/-- LoadsAheadModel opIs -/
theorem qk_980 (l : Launch) : ek_ok l tQ iQ kq_980 := ek_good_ok (sp := sQ) (K := [kq_979]) (SP := [(2, [(0, [(-1), 19])])]) (HS := []) (N := 0) (fuel := 20) hIQ (List.forall_mem_cons.mpr ⟨qk_979 l, fun _ h => absurd h List.not_mem_nil⟩) (by decide +kernel)
def kq_981 : ek := (137, [.inl (0, 19), .inl (0, 0), .inl ((-1), 19)], [], [], [(some (.inl (1, 1)), []), (some (.inl (0, 0)), [])], 0, 0)
/-- LoadsAheadModel in -/
theorem qk_981 (l : Launch) : ek_ok l tQ iQ kq_981 := ek_good_ok (sp := sQ) (K := []) (SP := []) (HS := []) (N := 0) (fuel := 26) hIQ (fun _ h => absurd h List.not_mem_nil) (by decide +kernel)
def kq_982 : ek := (171, [.inr 86, .inl (0, 19)], [], [], [(some (.inl (0, 0)), []), (some (.inl (1, 1)), [])], 1, 22)
/-- LoadsAheadModel isOp -/
theorem qk_982 (l : Launch) : ek_ok l tQ iQ kq_982 := ek_good_ok (sp := sQ) (K := [kq_981]) (SP := [(8, [(2, [(-1)])])]) (HS := []) (N := 0) (fuel := 24) hIQ (List.forall_mem_cons.mpr ⟨qk_981 l, fun _ h => absurd h List.not_mem_nil⟩) (by decide +kernel)
def kq_983 : ek := (137, [.inl (20, 2147483647), .inl (0, 0), .inl ((-1), 19)], [], [], [(some (.inl (0, 0)), [])], 0, 0)
/-- LoadsAheadModel in -/
theorem qk_983 (l : Launch) : ek_ok l tQ iQ kq_983 := ek_good_ok (sp := sQ) (K := []) (SP := []) (HS := []) (N := 0) (fuel := 24) hIQ (fun _ h => absurd h List.not_mem_nil) (by decide +kernel)
def kq_984 : ek := (171, [.inr 86, .inl (20, 2147483647)], [], [], [(some (.inl (0, 0)), [])], 1, 22)
/-- LoadsAheadModel isOp -/
theorem qk_984 (l : Launch) : ek_ok l tQ iQ kq_984 := ek_good_ok (sp := sQ) (K := [kq_983]) (SP := [(8, [(2, [(-1)])])]) (HS := []) (N := 0) (fuel := 24) hIQ (List.forall_mem_cons.mpr ⟨qk_983 l, fun _ h => absurd h List.not_mem_nil⟩) (by decide +kernel)
def kq_985 : ek := (227, [.inr 86, .inl (0, 19), .inl (0, 7)], [], [], [(some (.inl (0, 15)), []), (some (.inl ((-2), (-2))), []), (some (.inl ((-2147483648), 2147483647)), [((2, 84, 75), (1, 1), none)])], 0, 0)
/-- LoadsAheadModel toldOfOp -/
theorem qk_985 (l : Launch) : ek_ok l tQ iQ kq_985 := ek_good_ok (sp := sQ) (K := []) (SP := []) (HS := []) (N := 0) (fuel := 50) hIQ (fun _ h => absurd h List.not_mem_nil) (by decide +kernel)
def kq_986 : ek := (226, [.inr 86, .inl (0, 2147483647), .inl ((-2147483648), 2147483647)], [], [], [(some (.inl ((-100000), (-2))), []), (some (.inl ((-2147483648), 2147483647)), [((2, 84, 75), (1, 1), none)]), (some (.inl (0, 15)), [])], 2, 43)
/-- LoadsAheadModel opIs -/
theorem qk_986 (l : Launch) : ek_ok l tQ iQ kq_986 := ek_good_ok (sp := sQ) (K := [kq_921, kq_982, kq_985, kq_964, kq_967, kq_984]) (SP := [(2, [(0, [(-1), 19])]), (11, [(2, [(-1), 5])])]) (HS := []) (N := 0) (fuel := 114) hIQ (List.forall_mem_cons.mpr ⟨qk_921 l, List.forall_mem_cons.mpr ⟨qk_982 l, List.forall_mem_cons.mpr ⟨qk_985 l, List.forall_mem_cons.mpr ⟨qk_964 l, List.forall_mem_cons.mpr ⟨qk_967 l, List.forall_mem_cons.mpr ⟨qk_984 l, fun _ h => absurd h List.not_mem_nil⟩⟩⟩⟩⟩⟩) (by decide +kernel)
def kq_987 : ek := (108, [.inr 2, .inl ((-2147483648), (-1)), .inl ((-2147483648), 2147483647)], [], [], [(some (.inl ((-1), (-1))), [])], 1, 21)
/-- LoadsAhead source -/
theorem qk_987 (l : Launch) : ek_ok l tQ iQ kq_987 := ek_good_ok (sp := sQ) (K := [kq_969]) (SP := [(2, [(0, [(-1), 19])])]) (HS := []) (N := 0) (fuel := 20) hIQ (List.forall_mem_cons.mpr ⟨qk_969 l, fun _ h => absurd h List.not_mem_nil⟩) (by decide +kernel)
def kq_988 : ek := (52, [.inl ((-2147483648), (-1))], [], [], [(some (.inl (0, 0)), [])], 0, 0)
/-- LoadsAhead isCell -/
theorem qk_988 (l : Launch) : ek_ok l tQ iQ kq_988 := ek_good_ok (sp := sQ) (K := []) (SP := []) (HS := []) (N := 0) (fuel := 16) hIQ (fun _ h => absurd h List.not_mem_nil) (by decide +kernel)
def kq_989 : ek := (52, [.inl (8, 2147483647)], [], [], [(some (.inl (0, 0)), [])], 0, 0)
/-- LoadsAhead isCell -/
theorem qk_989 (l : Launch) : ek_ok l tQ iQ kq_989 := ek_good_ok (sp := sQ) (K := []) (SP := []) (HS := []) (N := 0) (fuel := 22) hIQ (fun _ h => absurd h List.not_mem_nil) (by decide +kernel)
def kq_990 : ek := (108, [.inr 2, .inl (0, 2147483647), .inl ((-2147483648), 2147483647)], [], [], [(some (.inl ((-2), (-1))), []), (some (.inl (0, 19)), [((2, 4, 11), (1, 20), none)])], 1, 21)
/-- LoadsAhead source -/
theorem qk_990 (l : Launch) : ek_ok l tQ iQ kq_990 := ek_good_ok (sp := sQ) (K := [kq_132, kq_971, kq_973, kq_972, kq_988, kq_989]) (SP := [(2, [(0, [(-1), 19])]), (9, [(0, [(-1), 7])])]) (HS := []) (N := 0) (fuel := 70) hIQ (List.forall_mem_cons.mpr ⟨qk_132 l, List.forall_mem_cons.mpr ⟨qk_971 l, List.forall_mem_cons.mpr ⟨qk_973 l, List.forall_mem_cons.mpr ⟨qk_972 l, List.forall_mem_cons.mpr ⟨qk_988 l, List.forall_mem_cons.mpr ⟨qk_989 l, fun _ h => absurd h List.not_mem_nil⟩⟩⟩⟩⟩⟩) (by decide +kernel)
def kq_991 : ek := (170, [.inr 86, .inl ((-2147483648), (-1)), .inl ((-2147483648), 2147483647)], [], [], [(some (.inl ((-1), (-1))), [])], 2, 43)
/-- LoadsAheadModel source -/
theorem qk_991 (l : Launch) : ek_ok l tQ iQ kq_991 := ek_good_ok (sp := sQ) (K := [kq_979]) (SP := [(2, [(0, [(-1), 19])])]) (HS := []) (N := 0) (fuel := 20) hIQ (List.forall_mem_cons.mpr ⟨qk_979 l, fun _ h => absurd h List.not_mem_nil⟩) (by decide +kernel)
def kq_992 : ek := (170, [.inr 86, .inl (0, 2147483647), .inl ((-2147483648), 2147483647)], [], [], [(some (.inl ((-2), (-1))), []), (some (.inl (0, 18)), [])], 2, 45)
/-- LoadsAheadModel source -/
theorem qk_992 (l : Launch) : ek_ok l tQ iQ kq_992 := ek_good_ok (sp := sQ) (K := [kq_5, kq_982, kq_431, kq_418, kq_3, kq_7, kq_984]) (SP := [(2, [(0, [(-1), 19])]), (12, [(2, [(-1), 7])])]) (HS := []) (N := 0) (fuel := 60) hIQ (List.forall_mem_cons.mpr ⟨qk_5 l, List.forall_mem_cons.mpr ⟨qk_982 l, List.forall_mem_cons.mpr ⟨qk_431 l, List.forall_mem_cons.mpr ⟨qk_418 l, List.forall_mem_cons.mpr ⟨qk_3 l, List.forall_mem_cons.mpr ⟨qk_7 l, List.forall_mem_cons.mpr ⟨qk_984 l, fun _ h => absurd h List.not_mem_nil⟩⟩⟩⟩⟩⟩⟩) (by decide +kernel)
def kq_993 : ek := (101, [.inl ((-2147483648), (-1))], [], [], [(some (.inl (0, 0)), [])], 0, 0)
/-- LoadsAhead isByte -/
theorem qk_993 (l : Launch) : ek_ok l tQ iQ kq_993 := ek_good_ok (sp := sQ) (K := []) (SP := []) (HS := []) (N := 0) (fuel := 18) hIQ (fun _ h => absurd h List.not_mem_nil) (by decide +kernel)
def kq_994 : ek := (109, [.inr 2, .inl ((-2147483648), (-1))], [], [], [(some (.inl ((-100000), (-100000))), [])], 1, 20)
/-- LoadsAhead now -/
theorem qk_994 (l : Launch) : ek_ok l tQ iQ kq_994 := ek_good_ok (sp := sQ) (K := [kq_988, kq_993]) (SP := [(1, [(0, [(-1), 7])]), (21, [(0, [99, 163])])]) (HS := []) (N := 0) (fuel := 24) hIQ (List.forall_mem_cons.mpr ⟨qk_988 l, List.forall_mem_cons.mpr ⟨qk_993 l, fun _ h => absurd h List.not_mem_nil⟩⟩) (by decide +kernel)
def kq_995 : ek := (109, [.inr 2, .inl (0, 7)], [], [], [(some (.inl ((-2147483648), 2147483647)), [])], 1, 20)
/-- LoadsAhead now -/
theorem qk_995 (l : Launch) : ek_ok l tQ iQ kq_995 := ek_good_ok (sp := sQ) (K := [kq_132]) (SP := [(1, [(0, [(-1), 7])])]) (HS := []) (N := 0) (fuel := 28) hIQ (List.forall_mem_cons.mpr ⟨qk_132 l, fun _ h => absurd h List.not_mem_nil⟩) (by decide +kernel)
def kq_996 : ek := (101, [.inl (8, 99)], [], [], [(some (.inl (0, 0)), [])], 0, 0)
/-- LoadsAhead isByte -/
theorem qk_996 (l : Launch) : ek_ok l tQ iQ kq_996 := ek_good_ok (sp := sQ) (K := []) (SP := []) (HS := []) (N := 0) (fuel := 18) hIQ (fun _ h => absurd h List.not_mem_nil) (by decide +kernel)
def kq_997 : ek := (52, [.inl (8, 99)], [], [], [(some (.inl (0, 0)), [])], 0, 0)
/-- LoadsAhead isCell -/
theorem qk_997 (l : Launch) : ek_ok l tQ iQ kq_997 := ek_good_ok (sp := sQ) (K := []) (SP := []) (HS := []) (N := 0) (fuel := 22) hIQ (fun _ h => absurd h List.not_mem_nil) (by decide +kernel)
def kq_998 : ek := (109, [.inr 2, .inl (8, 99)], [], [], [(some (.inl ((-100000), (-100000))), [])], 1, 20)
/-- LoadsAhead now -/
theorem qk_998 (l : Launch) : ek_ok l tQ iQ kq_998 := ek_good_ok (sp := sQ) (K := [kq_997, kq_996]) (SP := [(1, [(0, [(-1), 7])]), (21, [(0, [99, 163])])]) (HS := []) (N := 0) (fuel := 24) hIQ (List.forall_mem_cons.mpr ⟨qk_997 l, List.forall_mem_cons.mpr ⟨qk_996 l, fun _ h => absurd h List.not_mem_nil⟩⟩) (by decide +kernel)
def kq_999 : ek := (52, [.inl (100, 163)], [], [], [(some (.inl (0, 0)), [])], 0, 0)
/-- LoadsAhead isCell -/
theorem qk_999 (l : Launch) : ek_ok l tQ iQ kq_999 := ek_good_ok (sp := sQ) (K := []) (SP := []) (HS := []) (N := 0) (fuel := 22) hIQ (fun _ h => absurd h List.not_mem_nil) (by decide +kernel)
def kq_1000 : ek := (109, [.inr 2, .inl (100, 163)], [], [], [(some (.inl ((-2147483648), 2147483647)), [])], 1, 20)
/-- LoadsAhead now -/
theorem qk_1000 (l : Launch) : ek_ok l tQ iQ kq_1000 := ek_good_ok (sp := sQ) (K := [kq_999, kq_898]) (SP := [(1, [(0, [(-1), 7])]), (21, [(0, [99, 163])])]) (HS := []) (N := 0) (fuel := 40) hIQ (List.forall_mem_cons.mpr ⟨qk_999 l, List.forall_mem_cons.mpr ⟨qk_898 l, fun _ h => absurd h List.not_mem_nil⟩⟩) (by decide +kernel)
def kq_1001 : ek := (52, [.inl (164, 2147483647)], [], [], [(some (.inl (0, 0)), [])], 0, 0)
/-- LoadsAhead isCell -/
theorem qk_1001 (l : Launch) : ek_ok l tQ iQ kq_1001 := ek_good_ok (sp := sQ) (K := []) (SP := []) (HS := []) (N := 0) (fuel := 22) hIQ (fun _ h => absurd h List.not_mem_nil) (by decide +kernel)
def kq_1002 : ek := (109, [.inr 2, .inl (164, 2147483647)], [], [], [(some (.inl ((-100000), (-100000))), [])], 1, 20)
/-- LoadsAhead now -/
theorem qk_1002 (l : Launch) : ek_ok l tQ iQ kq_1002 := ek_good_ok (sp := sQ) (K := [kq_1001, kq_902]) (SP := [(1, [(0, [(-1), 7])]), (21, [(0, [99, 163])])]) (HS := []) (N := 0) (fuel := 24) hIQ (List.forall_mem_cons.mpr ⟨qk_1001 l, List.forall_mem_cons.mpr ⟨qk_902 l, fun _ h => absurd h List.not_mem_nil⟩⟩) (by decide +kernel)
def kq_1003 : ek := (137, [.inl ((-2147483648), (-1)), .inl (100, 100), .inl (163, 163)], [], [], [(some (.inl (0, 0)), [])], 0, 0)
/-- LoadsAheadModel in -/
theorem qk_1003 (l : Launch) : ek_ok l tQ iQ kq_1003 := ek_good_ok (sp := sQ) (K := []) (SP := []) (HS := []) (N := 0) (fuel := 18) hIQ (fun _ h => absurd h List.not_mem_nil) (by decide +kernel)
def kq_1004 : ek := (217, [.inr 86, .inl ((-2147483648), (-1))], [], [], [(some (.inl ((-100000), (-100000))), [])], 1, 22)
/-- LoadsAheadModel now -/
theorem qk_1004 (l : Launch) : ek_ok l tQ iQ kq_1004 := ek_good_ok (sp := sQ) (K := [kq_3, kq_1003]) (SP := [(4, [(2, [(-1), 7])]), (25, [(2, [99, 163])])]) (HS := []) (N := 0) (fuel := 32) hIQ (List.forall_mem_cons.mpr ⟨qk_3 l, List.forall_mem_cons.mpr ⟨qk_1003 l, fun _ h => absurd h List.not_mem_nil⟩⟩) (by decide +kernel)
def kq_1005 : ek := (217, [.inr 86, .inl (0, 7)], [], [], [(some (.inl ((-2147483648), 2147483647)), [])], 1, 22)
/-- LoadsAheadModel now -/
theorem qk_1005 (l : Launch) : ek_ok l tQ iQ kq_1005 := ek_good_ok (sp := sQ) (K := [kq_5]) (SP := [(4, [(2, [(-1), 7])])]) (HS := []) (N := 0) (fuel := 30) hIQ (List.forall_mem_cons.mpr ⟨qk_5 l, fun _ h => absurd h List.not_mem_nil⟩) (by decide +kernel)
def kq_1006 : ek := (137, [.inl (8, 99), .inl (0, 0), .inl (7, 7)], [], [], [(some (.inl (0, 0)), [])], 0, 0)
/-- LoadsAheadModel in -/
theorem qk_1006 (l : Launch) : ek_ok l tQ iQ kq_1006 := ek_good_ok (sp := sQ) (K := []) (SP := []) (HS := []) (N := 0) (fuel := 24) hIQ (fun _ h => absurd h List.not_mem_nil) (by decide +kernel)
def kq_1007 : ek := (137, [.inl (8, 99), .inl (100, 100), .inl (163, 163)], [], [], [(some (.inl (0, 0)), [])], 0, 0)
/-- LoadsAheadModel in -/
theorem qk_1007 (l : Launch) : ek_ok l tQ iQ kq_1007 := ek_good_ok (sp := sQ) (K := []) (SP := []) (HS := []) (N := 0) (fuel := 18) hIQ (fun _ h => absurd h List.not_mem_nil) (by decide +kernel)
def kq_1008 : ek := (217, [.inr 86, .inl (8, 99)], [], [], [(some (.inl ((-100000), (-100000))), [])], 1, 22)
/-- LoadsAheadModel now -/
theorem qk_1008 (l : Launch) : ek_ok l tQ iQ kq_1008 := ek_good_ok (sp := sQ) (K := [kq_1007, kq_1006]) (SP := [(4, [(2, [(-1), 7])]), (25, [(2, [99, 163])])]) (HS := []) (N := 0) (fuel := 32) hIQ (List.forall_mem_cons.mpr ⟨qk_1007 l, List.forall_mem_cons.mpr ⟨qk_1006 l, fun _ h => absurd h List.not_mem_nil⟩⟩) (by decide +kernel)
def kq_1009 : ek := (137, [.inl (100, 163), .inl (0, 0), .inl (7, 7)], [], [], [(some (.inl (0, 0)), [])], 0, 0)
/-- LoadsAheadModel in -/
theorem qk_1009 (l : Launch) : ek_ok l tQ iQ kq_1009 := ek_good_ok (sp := sQ) (K := []) (SP := []) (HS := []) (N := 0) (fuel := 24) hIQ (fun _ h => absurd h List.not_mem_nil) (by decide +kernel)
def kq_1010 : ek := (217, [.inr 86, .inl (100, 163)], [], [], [(some (.inl ((-2147483648), 2147483647)), [])], 1, 22)
/-- LoadsAheadModel now -/
theorem qk_1010 (l : Launch) : ek_ok l tQ iQ kq_1010 := ek_good_ok (sp := sQ) (K := [kq_1009, kq_936]) (SP := [(4, [(2, [(-1), 7])]), (25, [(2, [99, 163])])]) (HS := []) (N := 0) (fuel := 44) hIQ (List.forall_mem_cons.mpr ⟨qk_1009 l, List.forall_mem_cons.mpr ⟨qk_936 l, fun _ h => absurd h List.not_mem_nil⟩⟩) (by decide +kernel)
def kq_1011 : ek := (137, [.inl (164, 2147483647), .inl (0, 0), .inl (7, 7)], [], [], [(some (.inl (0, 0)), [])], 0, 0)
/-- LoadsAheadModel in -/
theorem qk_1011 (l : Launch) : ek_ok l tQ iQ kq_1011 := ek_good_ok (sp := sQ) (K := []) (SP := []) (HS := []) (N := 0) (fuel := 24) hIQ (fun _ h => absurd h List.not_mem_nil) (by decide +kernel)
def kq_1012 : ek := (217, [.inr 86, .inl (164, 2147483647)], [], [], [(some (.inl ((-100000), (-100000))), [])], 1, 22)
/-- LoadsAheadModel now -/
theorem qk_1012 (l : Launch) : ek_ok l tQ iQ kq_1012 := ek_good_ok (sp := sQ) (K := [kq_940, kq_1011]) (SP := [(4, [(2, [(-1), 7])]), (25, [(2, [99, 163])])]) (HS := []) (N := 0) (fuel := 32) hIQ (List.forall_mem_cons.mpr ⟨qk_940 l, List.forall_mem_cons.mpr ⟨qk_1011 l, fun _ h => absurd h List.not_mem_nil⟩⟩) (by decide +kernel)
def kq_1013 : ek := (110, [.inr 2, .inl ((-2147483648), (-1))], [], [], [(some (.inl ((-100000), (-100000))), [])], 1, 20)
/-- LoadsAhead plain -/
theorem qk_1013 (l : Launch) : ek_ok l tQ iQ kq_1013 := ek_good_ok (sp := sQ) (K := [kq_988, kq_993]) (SP := [(1, [(0, [(-1), 7])]), (8, [(0, [99, 163])])]) (HS := []) (N := 0) (fuel := 24) hIQ (List.forall_mem_cons.mpr ⟨qk_988 l, List.forall_mem_cons.mpr ⟨qk_993 l, fun _ h => absurd h List.not_mem_nil⟩⟩) (by decide +kernel)
def kq_1014 : ek := (112, [.inr 67, .inl ((-1), 7)], [], [], [(some (.inl ((-2147483648), 2147483647)), []), (some (.inl (0, 0)), [])], 1, 20)
/-- LoadsAhead.Plain valueIn -/
theorem qk_1014 (l : Launch) : ek_ok l tQ iQ kq_1014 := ek_good_ok (sp := sQ) (K := [kq_131, kq_132]) (SP := [(1, [(0, [(-1), 7])])]) (HS := []) (N := 0) (fuel := 28) hIQ (List.forall_mem_cons.mpr ⟨qk_131 l, List.forall_mem_cons.mpr ⟨qk_132 l, fun _ h => absurd h List.not_mem_nil⟩⟩) (by decide +kernel)
def kq_1015 : ek := (113, [.inr 67, .inl (0, 63), .inl (0, 7)], [], [], [(some (.inl ((-2147483648), 2147483647)), []), (some (.inl (0, 0)), [])], 0, 0)
/-- LoadsAhead.Plain loaded -/
theorem qk_1015 (l : Launch) : ek_ok l tQ iQ kq_1015 := ek_good_ok (sp := sQ) (K := []) (SP := []) (HS := [((5, [some (.inr 67, none), some (.inl (0, 63), none), some (.inl (0, 7), none), some (.inl ((-2147483648), 2147483647), none), some (.inl (0, 7), none)], [], [], []), [(0, (0, 0, 0), 0), (1, (1, 4, 0), 7), (0, (0, 0, 0), 0)])]) (N := 3) (fuel := 52) hIQ (fun _ h => absurd h List.not_mem_nil) (by decide +kernel)
def kq_1016 : ek := (62, [.inr 68, .inr 26], [], [(66, 4), (66, 5), (67, 999), (68, 999)], [(none, [])], 1, 65)
/-- LoadsAhead.State copyCellsFrom -/
theorem qk_1016 (l : Launch) : ek_ok l tQ iQ kq_1016 := ek_good_ok (sp := sQ) (K := []) (SP := []) (HS := []) (N := 0) (fuel := 58) hIQ (fun _ h => absurd h List.not_mem_nil) (by decide +kernel)
def kq_1017 : ek := (63, [.inr 68, .inr 26], [], [(66, 3), (69, 999)], [(none, [])], 1, 65)
/-- LoadsAhead.State copySetsFrom -/
theorem qk_1017 (l : Launch) : ek_ok l tQ iQ kq_1017 := ek_good_ok (sp := sQ) (K := []) (SP := []) (HS := []) (N := 0) (fuel := 34) hIQ (fun _ h => absurd h List.not_mem_nil) (by decide +kernel)
def kq_1018 : ek := (61, [.inr 68, .inr 26], [], [(66, 3), (66, 4), (66, 5), (67, 999), (68, 999), (69, 999)], [(none, [])], 2, 86)
/-- LoadsAhead.State copyFrom -/
theorem qk_1018 (l : Launch) : ek_ok l tQ iQ kq_1018 := ek_good_ok (sp := sQ) (K := [kq_1017, kq_1016]) (SP := []) (HS := []) (N := 0) (fuel := 22) hIQ (List.forall_mem_cons.mpr ⟨qk_1017 l, List.forall_mem_cons.mpr ⟨qk_1016 l, fun _ h => absurd h List.not_mem_nil⟩⟩) (by decide +kernel)
def kq_1019 : ek := (95, [.inr 68, .inl (0, 63), .inl (0, 7), .inl ((-2147483648), 2147483647)], [], [(68, 999)], [(none, [])], 0, 0)
/-- LoadsAhead.State putBytes -/
theorem qk_1019 (l : Launch) : ek_ok l tQ iQ kq_1019 := ek_good_ok (sp := sQ) (K := []) (SP := []) (HS := [((3, [some (.inr 68, none), some (.inl (0, 63), none), some (.inl (0, 7), none), some (.inl ((-2147483648), 2147483647), none), some (.inl (0, 7), none)], [], [], []), [(0, (0, 0, 0), 0), (1, (1, 4, 0), 7), (0, (0, 0, 0), 0)])]) (N := 3) (fuel := 50) hIQ (fun _ h => absurd h List.not_mem_nil) (by decide +kernel)
def kq_1020 : ek := (95, [.inr 68, .inl (0, 63), .inl (0, 7), .inl (0, 0)], [], [(68, 999)], [(none, [])], 0, 0)
/-- LoadsAhead.State putBytes -/
theorem qk_1020 (l : Launch) : ek_ok l tQ iQ kq_1020 := ek_good_ok (sp := sQ) (K := []) (SP := []) (HS := [((3, [some (.inr 68, none), some (.inl (0, 63), none), some (.inl (0, 7), none), some (.inl (0, 0), none), some (.inl (0, 7), none)], [], [], []), [(0, (0, 0, 0), 0), (1, (1, 4, 0), 7), (0, (0, 0, 0), 0)])]) (N := 3) (fuel := 50) hIQ (fun _ h => absurd h List.not_mem_nil) (by decide +kernel)
def kq_1021 : ek := (111, [.inr 67, .inr 6, .inr 26], [], [(66, 3), (66, 4), (66, 5), (67, 999), (68, 999), (69, 999), (70, 999)], [(none, [])], 3, 107)
/-- LoadsAhead.Plain go -/
theorem qk_1021 (l : Launch) : ek_ok l tQ iQ kq_1021 := ek_good_ok (sp := sQ) (K := [kq_131, kq_1018, kq_132, kq_1014, kq_248, kq_265, kq_1020, kq_1015, kq_247, kq_263, kq_264, kq_1019, kq_262]) (SP := [(95, [(0, [(-1), 7])])]) (HS := [((10, [some (.inr 67, none), some (.inr 6, none), some (.inr 26, none), some (.inl (0, 20), none), none, none], [], [], []), [(0, (0, 0, 0), 0), (1, (1, 3, 0), 20), (0, (0, 0, 0), 0)])]) (N := 3) (fuel := 140) hIQ (List.forall_mem_cons.mpr ⟨qk_131 l, List.forall_mem_cons.mpr ⟨qk_1018 l, List.forall_mem_cons.mpr ⟨qk_132 l, List.forall_mem_cons.mpr ⟨qk_1014 l, List.forall_mem_cons.mpr ⟨qk_248 l, List.forall_mem_cons.mpr ⟨qk_265 l, List.forall_mem_cons.mpr ⟨qk_1020 l, List.forall_mem_cons.mpr ⟨qk_1015 l, List.forall_mem_cons.mpr ⟨qk_247 l, List.forall_mem_cons.mpr ⟨qk_263 l, List.forall_mem_cons.mpr ⟨qk_264 l, List.forall_mem_cons.mpr ⟨qk_1019 l, List.forall_mem_cons.mpr ⟨qk_262 l, fun _ h => absurd h List.not_mem_nil⟩⟩⟩⟩⟩⟩⟩⟩⟩⟩⟩⟩⟩) (by decide +kernel)
def kq_1022 : ek := (110, [.inr 2, .inl (0, 7)], [], [(66, 3), (66, 4), (66, 5), (67, 999), (68, 999), (69, 999), (70, 999)], [(some (.inl ((-2147483648), 2147483647)), [])], 4, 132)
/-- LoadsAhead plain -/
theorem qk_1022 (l : Launch) : ek_ok l tQ iQ kq_1022 := ek_good_ok (sp := sQ) (K := [kq_1021, kq_132]) (SP := [(1, [(0, [(-1), 7])]), (39, [(0, [(-1), 7])])]) (HS := []) (N := 0) (fuel := 54) hIQ (List.forall_mem_cons.mpr ⟨qk_1021 l, List.forall_mem_cons.mpr ⟨qk_132 l, fun _ h => absurd h List.not_mem_nil⟩⟩) (by decide +kernel)
