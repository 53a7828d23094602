def kq_937 : ek := (137, [.inl (10, 17), .inl (0, 0), .inl (5, 5)], [], [], [(some (.inl (0, 0)), [])], 0, 0)
/-- LoadsAheadModel in -/
theorem qk_937 (l : Launch) : ek_ok l tQ iQ kq_937 := ek_good_ok (sp := sQ) (K := []) (SP := []) (HS := []) (N := 0) (fuel := 24) hIQ (fun _ h => absurd h List.not_mem_nil) (by decide +kernel)
def kq_938 : ek := (137, [.inl (10, 17), .inl (10, 10), .inl (17, 17)], [], [], [(some (.inl (1, 1)), [])], 0, 0)
/-- LoadsAheadModel in -/
theorem qk_938 (l : Launch) : ek_ok l tQ iQ kq_938 := ek_good_ok (sp := sQ) (K := []) (SP := []) (HS := []) (N := 0) (fuel := 26) hIQ (fun _ h => absurd h List.not_mem_nil) (by decide +kernel)
def kq_939 : ek := (212, [.inr 86, .inl ((-2147483648), 0), .inl (10, 17)], [], [], [(some (.inl ((-1), (-1))), [])], 2, 43)
/-- LoadsAheadModel tried -/
theorem qk_939 (l : Launch) : ek_ok l tQ iQ kq_939 := ek_good_ok (sp := sQ) (K := [kq_938, kq_937, kq_423]) (SP := [(3, [(2, [(-1), 5])]), (14, [(2, [9, 17])]), (40, [(0, [0, 4])])]) (HS := []) (N := 0) (fuel := 46) hIQ (List.forall_mem_cons.mpr ⟨qk_938 l, List.forall_mem_cons.mpr ⟨qk_937 l, List.forall_mem_cons.mpr ⟨qk_423 l, fun _ h => absurd h List.not_mem_nil⟩⟩⟩) (by decide +kernel)
def kq_940 : ek := (137, [.inl (18, 99), .inl (0, 0), .inl (5, 5)], [], [], [(some (.inl (0, 0)), [])], 0, 0)
/-- LoadsAheadModel in -/
theorem qk_940 (l : Launch) : ek_ok l tQ iQ kq_940 := ek_good_ok (sp := sQ) (K := []) (SP := []) (HS := []) (N := 0) (fuel := 24) hIQ (fun _ h => absurd h List.not_mem_nil) (by decide +kernel)
def kq_941 : ek := (137, [.inl (18, 99), .inl (10, 10), .inl (17, 17)], [], [], [(some (.inl (0, 0)), [])], 0, 0)
/-- LoadsAheadModel in -/
theorem qk_941 (l : Launch) : ek_ok l tQ iQ kq_941 := ek_good_ok (sp := sQ) (K := []) (SP := []) (HS := []) (N := 0) (fuel := 24) hIQ (fun _ h => absurd h List.not_mem_nil) (by decide +kernel)
def kq_942 : ek := (137, [.inl (18, 99), .inl (100, 100), .inl (163, 163)], [], [], [(some (.inl (0, 0)), [])], 0, 0)
/-- LoadsAheadModel in -/
theorem qk_942 (l : Launch) : ek_ok l tQ iQ kq_942 := ek_good_ok (sp := sQ) (K := []) (SP := []) (HS := []) (N := 0) (fuel := 18) hIQ (fun _ h => absurd h List.not_mem_nil) (by decide +kernel)
def kq_943 : ek := (212, [.inr 86, .inl ((-2147483648), 0), .inl (18, 99)], [], [], [(some (.inl ((-1), (-1))), [])], 2, 43)
/-- LoadsAheadModel tried -/
theorem qk_943 (l : Launch) : ek_ok l tQ iQ kq_943 := ek_good_ok (sp := sQ) (K := [kq_942, kq_941, kq_940, kq_423]) (SP := [(3, [(2, [(-1), 5])]), (14, [(2, [9, 17])]), (26, [(2, [99, 163])]), (40, [(0, [0, 4])])]) (HS := []) (N := 0) (fuel := 54) hIQ (List.forall_mem_cons.mpr ⟨qk_942 l, List.forall_mem_cons.mpr ⟨qk_941 l, List.forall_mem_cons.mpr ⟨qk_940 l, List.forall_mem_cons.mpr ⟨qk_423 l, fun _ h => absurd h List.not_mem_nil⟩⟩⟩⟩) (by decide +kernel)
def kq_944 : ek := (137, [.inl (100, 163), .inl (0, 0), .inl (5, 5)], [], [], [(some (.inl (0, 0)), [])], 0, 0)
/-- LoadsAheadModel in -/
theorem qk_944 (l : Launch) : ek_ok l tQ iQ kq_944 := ek_good_ok (sp := sQ) (K := []) (SP := []) (HS := []) (N := 0) (fuel := 24) hIQ (fun _ h => absurd h List.not_mem_nil) (by decide +kernel)
def kq_945 : ek := (137, [.inl (100, 163), .inl (10, 10), .inl (17, 17)], [], [], [(some (.inl (0, 0)), [])], 0, 0)
/-- LoadsAheadModel in -/
theorem qk_945 (l : Launch) : ek_ok l tQ iQ kq_945 := ek_good_ok (sp := sQ) (K := []) (SP := []) (HS := []) (N := 0) (fuel := 24) hIQ (fun _ h => absurd h List.not_mem_nil) (by decide +kernel)
def kq_946 : ek := (137, [.inl (100, 163), .inl (100, 100), .inl (163, 163)], [], [], [(some (.inl (1, 1)), [])], 0, 0)
/-- LoadsAheadModel in -/
theorem qk_946 (l : Launch) : ek_ok l tQ iQ kq_946 := ek_good_ok (sp := sQ) (K := []) (SP := []) (HS := []) (N := 0) (fuel := 26) hIQ (fun _ h => absurd h List.not_mem_nil) (by decide +kernel)
def kq_947 : ek := (212, [.inr 86, .inl ((-2147483648), 0), .inl (100, 163)], [], [], [(some (.inl ((-1), (-1))), [])], 2, 43)
/-- LoadsAheadModel tried -/
theorem qk_947 (l : Launch) : ek_ok l tQ iQ kq_947 := ek_good_ok (sp := sQ) (K := [kq_946, kq_945, kq_944, kq_423]) (SP := [(3, [(2, [(-1), 5])]), (14, [(2, [9, 17])]), (26, [(2, [99, 163])]), (40, [(0, [0, 4])])]) (HS := []) (N := 0) (fuel := 56) hIQ (List.forall_mem_cons.mpr ⟨qk_946 l, List.forall_mem_cons.mpr ⟨qk_945 l, List.forall_mem_cons.mpr ⟨qk_944 l, List.forall_mem_cons.mpr ⟨qk_423 l, fun _ h => absurd h List.not_mem_nil⟩⟩⟩⟩) (by decide +kernel)
def kq_948 : ek := (137, [.inl (164, 2147483647), .inl (0, 0), .inl (5, 5)], [], [], [(some (.inl (0, 0)), [])], 0, 0)
/-- LoadsAheadModel in -/
theorem qk_948 (l : Launch) : ek_ok l tQ iQ kq_948 := ek_good_ok (sp := sQ) (K := []) (SP := []) (HS := []) (N := 0) (fuel := 24) hIQ (fun _ h => absurd h List.not_mem_nil) (by decide +kernel)
def kq_949 : ek := (137, [.inl (164, 2147483647), .inl (10, 10), .inl (17, 17)], [], [], [(some (.inl (0, 0)), [])], 0, 0)
/-- LoadsAheadModel in -/
theorem qk_949 (l : Launch) : ek_ok l tQ iQ kq_949 := ek_good_ok (sp := sQ) (K := []) (SP := []) (HS := []) (N := 0) (fuel := 24) hIQ (fun _ h => absurd h List.not_mem_nil) (by decide +kernel)
def kq_950 : ek := (137, [.inl (164, 2147483647), .inl (100, 100), .inl (163, 163)], [], [], [(some (.inl (0, 0)), [])], 0, 0)
/-- LoadsAheadModel in -/
theorem qk_950 (l : Launch) : ek_ok l tQ iQ kq_950 := ek_good_ok (sp := sQ) (K := []) (SP := []) (HS := []) (N := 0) (fuel := 24) hIQ (fun _ h => absurd h List.not_mem_nil) (by decide +kernel)
def kq_951 : ek := (212, [.inr 86, .inl ((-2147483648), 0), .inl (164, 2147483647)], [], [], [(some (.inl ((-1), (-1))), [])], 2, 43)
/-- LoadsAheadModel tried -/
theorem qk_951 (l : Launch) : ek_ok l tQ iQ kq_951 := ek_good_ok (sp := sQ) (K := [kq_950, kq_948, kq_949, kq_423]) (SP := [(3, [(2, [(-1), 5])]), (14, [(2, [9, 17])]), (26, [(2, [99, 163])]), (40, [(0, [0, 4])])]) (HS := []) (N := 0) (fuel := 54) hIQ (List.forall_mem_cons.mpr ⟨qk_950 l, List.forall_mem_cons.mpr ⟨qk_948 l, List.forall_mem_cons.mpr ⟨qk_949 l, List.forall_mem_cons.mpr ⟨qk_423 l, fun _ h => absurd h List.not_mem_nil⟩⟩⟩⟩) (by decide +kernel)
def kq_952 : ek := (212, [.inr 86, .inl (1, 4), .inl ((-2147483648), (-2147483639))], [], [], [(some (.inl ((-1), (-1))), [])], 2, 43)
/-- LoadsAheadModel tried -/
theorem qk_952 (l : Launch) : ek_ok l tQ iQ kq_952 := ek_good_ok (sp := sQ) (K := [kq_426, kq_925, kq_924, kq_923]) (SP := [(3, [(2, [(-1), 5])]), (14, [(2, [9, 17])]), (26, [(2, [99, 163])]), (40, [(0, [0, 4])])]) (HS := []) (N := 0) (fuel := 58) hIQ (List.forall_mem_cons.mpr ⟨qk_426 l, List.forall_mem_cons.mpr ⟨qk_925 l, List.forall_mem_cons.mpr ⟨qk_924 l, List.forall_mem_cons.mpr ⟨qk_923 l, fun _ h => absurd h List.not_mem_nil⟩⟩⟩⟩) (by decide +kernel)
def kq_953 : ek := (212, [.inr 86, .inl (1, 4), .inl ((-2147483638), (-1))], [], [], [(some (.inl ((-1), (-1))), [])], 2, 43)
/-- LoadsAheadModel tried -/
theorem qk_953 (l : Launch) : ek_ok l tQ iQ kq_953 := ek_good_ok (sp := sQ) (K := [kq_426, kq_928, kq_929, kq_927]) (SP := [(3, [(2, [(-1), 5])]), (14, [(2, [9, 17])]), (26, [(2, [99, 163])]), (40, [(0, [0, 4])])]) (HS := []) (N := 0) (fuel := 58) hIQ (List.forall_mem_cons.mpr ⟨qk_426 l, List.forall_mem_cons.mpr ⟨qk_928 l, List.forall_mem_cons.mpr ⟨qk_929 l, List.forall_mem_cons.mpr ⟨qk_927 l, fun _ h => absurd h List.not_mem_nil⟩⟩⟩⟩) (by decide +kernel)
def kq_956 : ek := (212, [.inr 86, .inl (1, 4), .inl (6, 9)], [], [], [(some (.inl ((-1), (-1))), [])], 2, 43)
/-- LoadsAheadModel tried -/
theorem qk_956 (l : Launch) : ek_ok l tQ iQ kq_956 := ek_good_ok (sp := sQ) (K := [kq_933, kq_426, kq_935, kq_934]) (SP := [(3, [(2, [(-1), 5])]), (14, [(2, [9, 17])]), (26, [(2, [99, 163])]), (40, [(0, [0, 4])])]) (HS := []) (N := 0) (fuel := 58) hIQ (List.forall_mem_cons.mpr ⟨qk_933 l, List.forall_mem_cons.mpr ⟨qk_426 l, List.forall_mem_cons.mpr ⟨qk_935 l, List.forall_mem_cons.mpr ⟨qk_934 l, fun _ h => absurd h List.not_mem_nil⟩⟩⟩⟩) (by decide +kernel)
def kq_958 : ek := (212, [.inr 86, .inl (1, 4), .inl (18, 99)], [], [], [(some (.inl ((-1), (-1))), [])], 2, 43)
/-- LoadsAheadModel tried -/
theorem qk_958 (l : Launch) : ek_ok l tQ iQ kq_958 := ek_good_ok (sp := sQ) (K := [kq_426, kq_942, kq_941, kq_940]) (SP := [(3, [(2, [(-1), 5])]), (14, [(2, [9, 17])]), (26, [(2, [99, 163])]), (40, [(0, [0, 4])])]) (HS := []) (N := 0) (fuel := 58) hIQ (List.forall_mem_cons.mpr ⟨qk_426 l, List.forall_mem_cons.mpr ⟨qk_942 l, List.forall_mem_cons.mpr ⟨qk_941 l, List.forall_mem_cons.mpr ⟨qk_940 l, fun _ h => absurd h List.not_mem_nil⟩⟩⟩⟩) (by decide +kernel)
def kq_960 : ek := (212, [.inr 86, .inl (1, 4), .inl (164, 2147483647)], [], [], [(some (.inl ((-1), (-1))), [])], 2, 43)
/-- LoadsAheadModel tried -/
theorem qk_960 (l : Launch) : ek_ok l tQ iQ kq_960 := ek_good_ok (sp := sQ) (K := [kq_426, kq_950, kq_948, kq_949]) (SP := [(3, [(2, [(-1), 5])]), (14, [(2, [9, 17])]), (26, [(2, [99, 163])]), (40, [(0, [0, 4])])]) (HS := []) (N := 0) (fuel := 58) hIQ (List.forall_mem_cons.mpr ⟨qk_426 l, List.forall_mem_cons.mpr ⟨qk_950 l, List.forall_mem_cons.mpr ⟨qk_948 l, List.forall_mem_cons.mpr ⟨qk_949 l, fun _ h => absurd h List.not_mem_nil⟩⟩⟩⟩) (by decide +kernel)
def kq_961 : ek := (212, [.inr 86, .inl (5, 2147483647), .inl ((-2147483648), (-2147483639))], [], [], [(some (.inl ((-1), (-1))), [])], 2, 43)
/-- LoadsAheadModel tried -/
theorem qk_961 (l : Launch) : ek_ok l tQ iQ kq_961 := ek_good_ok (sp := sQ) (K := [kq_925, kq_924, kq_923, kq_874]) (SP := [(3, [(2, [(-1), 5])]), (14, [(2, [9, 17])]), (26, [(2, [99, 163])]), (40, [(0, [0, 4])])]) (HS := []) (N := 0) (fuel := 54) hIQ (List.forall_mem_cons.mpr ⟨qk_925 l, List.forall_mem_cons.mpr ⟨qk_924 l, List.forall_mem_cons.mpr ⟨qk_923 l, List.forall_mem_cons.mpr ⟨qk_874 l, fun _ h => absurd h List.not_mem_nil⟩⟩⟩⟩) (by decide +kernel)
def kq_962 : ek := (212, [.inr 86, .inl (5, 2147483647), .inl ((-2147483638), (-1))], [], [], [(some (.inl ((-1), (-1))), [])], 2, 43)
/-- LoadsAheadModel tried -/
theorem qk_962 (l : Launch) : ek_ok l tQ iQ kq_962 := ek_good_ok (sp := sQ) (K := [kq_928, kq_929, kq_927, kq_874]) (SP := [(3, [(2, [(-1), 5])]), (14, [(2, [9, 17])]), (26, [(2, [99, 163])]), (40, [(0, [0, 4])])]) (HS := []) (N := 0) (fuel := 54) hIQ (List.forall_mem_cons.mpr ⟨qk_928 l, List.forall_mem_cons.mpr ⟨qk_929 l, List.forall_mem_cons.mpr ⟨qk_927 l, List.forall_mem_cons.mpr ⟨qk_874 l, fun _ h => absurd h List.not_mem_nil⟩⟩⟩⟩) (by decide +kernel)
def kq_963 : ek := (212, [.inr 86, .inl (5, 2147483647), .inl (0, 5)], [], [], [(some (.inl ((-1), (-1))), [])], 2, 43)
/-- LoadsAheadModel tried -/
theorem qk_963 (l : Launch) : ek_ok l tQ iQ kq_963 := ek_good_ok (sp := sQ) (K := [kq_931, kq_874]) (SP := [(3, [(2, [(-1), 5])]), (40, [(0, [0, 4])])]) (HS := []) (N := 0) (fuel := 36) hIQ (List.forall_mem_cons.mpr ⟨qk_931 l, List.forall_mem_cons.mpr ⟨qk_874 l, fun _ h => absurd h List.not_mem_nil⟩⟩) (by decide +kernel)
def kq_964 : ek := (212, [.inr 86, .inl (5, 2147483647), .inl (6, 9)], [], [], [(some (.inl ((-1), (-1))), [])], 2, 43)
/-- LoadsAheadModel tried -/
theorem qk_964 (l : Launch) : ek_ok l tQ iQ kq_964 := ek_good_ok (sp := sQ) (K := [kq_933, kq_935, kq_934, kq_874]) (SP := [(3, [(2, [(-1), 5])]), (14, [(2, [9, 17])]), (26, [(2, [99, 163])]), (40, [(0, [0, 4])])]) (HS := []) (N := 0) (fuel := 54) hIQ (List.forall_mem_cons.mpr ⟨qk_933 l, List.forall_mem_cons.mpr ⟨qk_935 l, List.forall_mem_cons.mpr ⟨qk_934 l, List.forall_mem_cons.mpr ⟨qk_874 l, fun _ h => absurd h List.not_mem_nil⟩⟩⟩⟩) (by decide +kernel)
def kq_965 : ek := (212, [.inr 86, .inl (5, 2147483647), .inl (10, 17)], [], [], [(some (.inl ((-1), (-1))), [])], 2, 43)
/-- LoadsAheadModel tried -/
theorem qk_965 (l : Launch) : ek_ok l tQ iQ kq_965 := ek_good_ok (sp := sQ) (K := [kq_938, kq_937, kq_874]) (SP := [(3, [(2, [(-1), 5])]), (14, [(2, [9, 17])]), (40, [(0, [0, 4])])]) (HS := []) (N := 0) (fuel := 46) hIQ (List.forall_mem_cons.mpr ⟨qk_938 l, List.forall_mem_cons.mpr ⟨qk_937 l, List.forall_mem_cons.mpr ⟨qk_874 l, fun _ h => absurd h List.not_mem_nil⟩⟩⟩) (by decide +kernel)
def kq_966 : ek := (212, [.inr 86, .inl (5, 2147483647), .inl (18, 99)], [], [], [(some (.inl ((-1), (-1))), [])], 2, 43)
/-- LoadsAheadModel tried -/
theorem qk_966 (l : Launch) : ek_ok l tQ iQ kq_966 := ek_good_ok (sp := sQ) (K := [kq_942, kq_941, kq_940, kq_874]) (SP := [(3, [(2, [(-1), 5])]), (14, [(2, [9, 17])]), (26, [(2, [99, 163])]), (40, [(0, [0, 4])])]) (HS := []) (N := 0) (fuel := 54) hIQ (List.forall_mem_cons.mpr ⟨qk_942 l, List.forall_mem_cons.mpr ⟨qk_941 l, List.forall_mem_cons.mpr ⟨qk_940 l, List.forall_mem_cons.mpr ⟨qk_874 l, fun _ h => absurd h List.not_mem_nil⟩⟩⟩⟩) (by decide +kernel)
def kq_967 : ek := (212, [.inr 86, .inl (5, 2147483647), .inl (100, 163)], [], [], [(some (.inl ((-1), (-1))), [])], 2, 43)
/-- LoadsAheadModel tried -/
theorem qk_967 (l : Launch) : ek_ok l tQ iQ kq_967 := ek_good_ok (sp := sQ) (K := [kq_946, kq_945, kq_944, kq_874]) (SP := [(3, [(2, [(-1), 5])]), (14, [(2, [9, 17])]), (26, [(2, [99, 163])]), (40, [(0, [0, 4])])]) (HS := []) (N := 0) (fuel := 56) hIQ (List.forall_mem_cons.mpr ⟨qk_946 l, List.forall_mem_cons.mpr ⟨qk_945 l, List.forall_mem_cons.mpr ⟨qk_944 l, List.forall_mem_cons.mpr ⟨qk_874 l, fun _ h => absurd h List.not_mem_nil⟩⟩⟩⟩) (by decide +kernel)
def kq_968 : ek := (212, [.inr 86, .inl (5, 2147483647), .inl (164, 2147483647)], [], [], [(some (.inl ((-1), (-1))), [])], 2, 43)
/-- LoadsAheadModel tried -/
theorem qk_968 (l : Launch) : ek_ok l tQ iQ kq_968 := ek_good_ok (sp := sQ) (K := [kq_950, kq_948, kq_949, kq_874]) (SP := [(3, [(2, [(-1), 5])]), (14, [(2, [9, 17])]), (26, [(2, [99, 163])]), (40, [(0, [0, 4])])]) (HS := []) (N := 0) (fuel := 54) hIQ (List.forall_mem_cons.mpr ⟨qk_950 l, List.forall_mem_cons.mpr ⟨qk_948 l, List.forall_mem_cons.mpr ⟨qk_949 l, List.forall_mem_cons.mpr ⟨qk_874 l, fun _ h => absurd h List.not_mem_nil⟩⟩⟩⟩) (by decide +kernel)
def kq_969 : ek := (100, [.inl ((-2147483648), (-1))], [], [], [(some (.inl (0, 0)), [])], 0, 0)
/-- LoadsAhead isTotal -/
theorem qk_969 (l : Launch) : ek_ok l tQ iQ kq_969 := ek_good_ok (sp := sQ) (K := []) (SP := []) (HS := []) (N := 0) (fuel := 16) hIQ (fun _ h => absurd h List.not_mem_nil) (by decide +kernel)
def kq_970 : ek := (102, [.inr 2, .inl ((-2147483648), (-1))], [], [], [(some (.inl ((-1), (-1))), [])], 1, 20)
/-- LoadsAhead lastRun -/
theorem qk_970 (l : Launch) : ek_ok l tQ iQ kq_970 := ek_good_ok (sp := sQ) (K := [kq_969]) (SP := [(1, [(0, [(-1), 5])])]) (HS := []) (N := 0) (fuel := 18) hIQ (List.forall_mem_cons.mpr ⟨qk_969 l, fun _ h => absurd h List.not_mem_nil⟩) (by decide +kernel)
def kq_971 : ek := (102, [.inr 2, .inl (0, 5)], [], [], [(some (.inl ((-2147483648), 2147483647)), [((2, 0, 8), (1, 1), none)]), (some (.inl ((-2), (-2))), [((2, 0, 8), (0, 0), none)])], 1, 20)
/-- LoadsAhead lastRun -/
theorem qk_971 (l : Launch) : ek_ok l tQ iQ kq_971 := ek_good_ok (sp := sQ) (K := [kq_892]) (SP := [(1, [(0, [(-1), 5])])]) (HS := []) (N := 0) (fuel := 34) hIQ (List.forall_mem_cons.mpr ⟨qk_892 l, fun _ h => absurd h List.not_mem_nil⟩) (by decide +kernel)
def kq_972 : ek := (100, [.inl (6, 2147483647)], [], [], [(some (.inl (0, 0)), [])], 0, 0)
/-- LoadsAhead isTotal -/
theorem qk_972 (l : Launch) : ek_ok l tQ iQ kq_972 := ek_good_ok (sp := sQ) (K := []) (SP := []) (HS := []) (N := 0) (fuel := 22) hIQ (fun _ h => absurd h List.not_mem_nil) (by decide +kernel)
def kq_973 : ek := (102, [.inr 2, .inl (6, 2147483647)], [], [], [(some (.inl ((-1), (-1))), [])], 1, 20)
/-- LoadsAhead lastRun -/
theorem qk_973 (l : Launch) : ek_ok l tQ iQ kq_973 := ek_good_ok (sp := sQ) (K := [kq_972]) (SP := [(1, [(0, [(-1), 5])])]) (HS := []) (N := 0) (fuel := 18) hIQ (List.forall_mem_cons.mpr ⟨qk_972 l, fun _ h => absurd h List.not_mem_nil⟩) (by decide +kernel)
def kq_974 : ek := (137, [.inl ((-2147483648), (-1)), .inl (0, 0), .inl (5, 5)], [], [], [(some (.inl (0, 0)), [])], 0, 0)
/-- LoadsAheadModel in -/
theorem qk_974 (l : Launch) : ek_ok l tQ iQ kq_974 := ek_good_ok (sp := sQ) (K := []) (SP := []) (HS := []) (N := 0) (fuel := 18) hIQ (fun _ h => absurd h List.not_mem_nil) (by decide +kernel)
def kq_975 : ek := (216, [.inr 86, .inl ((-2147483648), (-1))], [], [], [(some (.inl ((-1), (-1))), [])], 1, 22)
/-- LoadsAheadModel lastRun -/
theorem qk_975 (l : Launch) : ek_ok l tQ iQ kq_975 := ek_good_ok (sp := sQ) (K := [kq_974]) (SP := [(3, [(2, [(-1), 5])])]) (HS := []) (N := 0) (fuel := 22) hIQ (List.forall_mem_cons.mpr ⟨qk_974 l, fun _ h => absurd h List.not_mem_nil⟩) (by decide +kernel)
def kq_976 : ek := (216, [.inr 86, .inl (0, 5)], [], [], [(some (.inl ((-2147483648), 2147483647)), [((2, 84, 75), (1, 1), none)]), (some (.inl ((-2), (-2))), [((2, 84, 75), (0, 0), none)])], 1, 22)
/-- LoadsAheadModel lastRun -/
theorem qk_976 (l : Launch) : ek_ok l tQ iQ kq_976 := ek_good_ok (sp := sQ) (K := [kq_931]) (SP := [(3, [(2, [(-1), 5])])]) (HS := []) (N := 0) (fuel := 36) hIQ (List.forall_mem_cons.mpr ⟨qk_931 l, fun _ h => absurd h List.not_mem_nil⟩) (by decide +kernel)
def kq_977 : ek := (137, [.inl (6, 2147483647), .inl (0, 0), .inl (5, 5)], [], [], [(some (.inl (0, 0)), [])], 0, 0)
/-- LoadsAheadModel in -/
theorem qk_977 (l : Launch) : ek_ok l tQ iQ kq_977 := ek_good_ok (sp := sQ) (K := []) (SP := []) (HS := []) (N := 0) (fuel := 24) hIQ (fun _ h => absurd h List.not_mem_nil) (by decide +kernel)
def kq_978 : ek := (216, [.inr 86, .inl (6, 2147483647)], [], [], [(some (.inl ((-1), (-1))), [])], 1, 22)
/-- LoadsAheadModel lastRun -/
theorem qk_978 (l : Launch) : ek_ok l tQ iQ kq_978 := ek_good_ok (sp := sQ) (K := [kq_977]) (SP := [(3, [(2, [(-1), 5])])]) (HS := []) (N := 0) (fuel := 22) hIQ (List.forall_mem_cons.mpr ⟨qk_977 l, fun _ h => absurd h List.not_mem_nil⟩) (by decide +kernel)
def kq_979 : ek := (104, [.inr 2, .inl ((-2147483648), (-1))], [], [], [(some (.inl (0, 0)), [])], 0, 0)
/-- LoadsAhead isOp -/
theorem qk_979 (l : Launch) : ek_ok l tQ iQ kq_979 := ek_good_ok (sp := sQ) (K := []) (SP := []) (HS := []) (N := 0) (fuel := 16) hIQ (fun _ h => absurd h List.not_mem_nil) (by decide +kernel)
def kq_980 : ek := (103, [.inr 2, .inl ((-2147483648), (-1)), .inl ((-2147483648), 2147483647)], [], [], [(some (.inl ((-100000), (-100000))), [])], 1, 21)
/-- LoadsAhead opIs -/
theorem qk_980 (l : Launch) : ek_ok l tQ iQ kq_980 := ek_good_ok (sp := sQ) (K := [kq_979]) (SP := [(2, [(0, [(-1), 19])])]) (HS := []) (N := 0) (fuel := 20) hIQ (List.forall_mem_cons.mpr ⟨qk_979 l, fun _ h => absurd h List.not_mem_nil⟩) (by decide +kernel)
def kq_981 : ek := (104, [.inr 2, .inl (0, 19)], [], [], [(some (.inl (1, 1)), [((2, 4, 11), (1, 20), none)]), (some (.inl (0, 0)), [((2, 4, 11), (0, 19), none)])], 0, 0)
/-- LoadsAhead isOp -/
theorem qk_981 (l : Launch) : ek_ok l tQ iQ kq_981 := ek_good_ok (sp := sQ) (K := []) (SP := []) (HS := []) (N := 0) (fuel := 30) hIQ (fun _ h => absurd h List.not_mem_nil) (by decide +kernel)
def kq_982 : ek := (104, [.inr 2, .inl (20, 2147483647)], [], [], [(some (.inl (0, 0)), [])], 0, 0)
/-- LoadsAhead isOp -/
theorem qk_982 (l : Launch) : ek_ok l tQ iQ kq_982 := ek_good_ok (sp := sQ) (K := []) (SP := []) (HS := []) (N := 0) (fuel := 28) hIQ (fun _ h => absurd h List.not_mem_nil) (by decide +kernel)
def kq_983 : ek := (106, [.inl ((-1), 19)], [], [], [(some (.inl ((-2), (-2))), []), (some (.inl (0, 19)), [])], 0, 0)
/-- LoadsAhead orAbsent -/
theorem qk_983 (l : Launch) : ek_ok l tQ iQ kq_983 := ek_good_ok (sp := sQ) (K := []) (SP := []) (HS := []) (N := 0) (fuel := 20) hIQ (fun _ h => absurd h List.not_mem_nil) (by decide +kernel)
def kq_984 : ek := (105, [.inr 2, .inl (0, 19), .inl (0, 2147483637)], [], [], [(some (.inl ((-4), (-2))), []), (some (.inl (0, 19)), [((2, 0, 8), (1, 1), none)])], 1, 20)
/-- LoadsAhead giverOf -/
theorem qk_984 (l : Launch) : ek_ok l tQ iQ kq_984 := ek_good_ok (sp := sQ) (K := [kq_983]) (SP := []) (HS := []) (N := 0) (fuel := 70) hIQ (List.forall_mem_cons.mpr ⟨qk_983 l, fun _ h => absurd h List.not_mem_nil⟩) (by decide +kernel)
def kq_985 : ek := (106, [.inl ((-1), 15)], [], [], [(some (.inl ((-2), (-2))), []), (some (.inl (0, 15)), [])], 0, 0)
/-- LoadsAhead orAbsent -/
theorem qk_985 (l : Launch) : ek_ok l tQ iQ kq_985 := ek_good_ok (sp := sQ) (K := []) (SP := []) (HS := []) (N := 0) (fuel := 20) hIQ (fun _ h => absurd h List.not_mem_nil) (by decide +kernel)
def kq_986 : ek := (107, [.inr 6, .inl (0, 19)], [], [], [(some (.inl (1, 1)), []), (some (.inl (0, 0)), [])], 0, 0)
/-- LoadsAhead.Program moves -/
theorem qk_986 (l : Launch) : ek_ok l tQ iQ kq_986 := ek_good_ok (sp := sQ) (K := []) (SP := []) (HS := []) (N := 0) (fuel := 38) hIQ (fun _ h => absurd h List.not_mem_nil) (by decide +kernel)
def kq_987 : ek := (103, [.inr 2, .inl (0, 2147483647), .inl ((-2147483648), 2147483647)], [], [], [(some (.inl ((-100000), (-2))), []), (some (.inl (0, 19)), [((2, 4, 11), (1, 20), none)]), (some (.inl ((-2147483648), 2147483647)), [((2, 0, 8), (1, 1), none), ((2, 4, 11), (1, 20), none)])], 2, 42)
/-- LoadsAhead opIs -/
theorem qk_987 (l : Launch) : ek_ok l tQ iQ kq_987 := ek_good_ok (sp := sQ) (K := [kq_985, kq_981, kq_986, kq_982, kq_984]) (SP := [(2, [(0, [(-1), 19])])]) (HS := []) (N := 0) (fuel := 78) hIQ (List.forall_mem_cons.mpr ⟨qk_985 l, List.forall_mem_cons.mpr ⟨qk_981 l, List.forall_mem_cons.mpr ⟨qk_986 l, List.forall_mem_cons.mpr ⟨qk_982 l, List.forall_mem_cons.mpr ⟨qk_984 l, fun _ h => absurd h List.not_mem_nil⟩⟩⟩⟩⟩) (by decide +kernel)
def kq_988 : ek := (137, [.inl ((-2147483648), (-1)), .inl (0, 0), .inl ((-1), 19)], [], [], [(some (.inl (0, 0)), [])], 0, 0)
/-- LoadsAheadModel in -/
theorem qk_988 (l : Launch) : ek_ok l tQ iQ kq_988 := ek_good_ok (sp := sQ) (K := []) (SP := []) (HS := []) (N := 0) (fuel := 18) hIQ (fun _ h => absurd h List.not_mem_nil) (by decide +kernel)
def kq_989 : ek := (171, [.inr 86, .inl ((-2147483648), (-1))], [], [], [(some (.inl (0, 0)), [])], 1, 22)
/-- LoadsAheadModel isOp -/
theorem qk_989 (l : Launch) : ek_ok l tQ iQ kq_989 := ek_good_ok (sp := sQ) (K := [kq_988]) (SP := [(8, [(2, [(-1)])])]) (HS := []) (N := 0) (fuel := 24) hIQ (List.forall_mem_cons.mpr ⟨qk_988 l, fun _ h => absurd h List.not_mem_nil⟩) (by decide +kernel)
def kq_990 : ek := (226, [.inr 86, .inl ((-2147483648), (-1)), .inl ((-2147483648), 2147483647)], [], [], [(some (.inl ((-100000), (-100000))), [])], 2, 43)
/-- LoadsAheadModel opIs -/
theorem qk_990 (l : Launch) : ek_ok l tQ iQ kq_990 := ek_good_ok (sp := sQ) (K := [kq_989]) (SP := [(2, [(0, [(-1), 19])])]) (HS := []) (N := 0) (fuel := 20) hIQ (List.forall_mem_cons.mpr ⟨qk_989 l, fun _ h => absurd h List.not_mem_nil⟩) (by decide +kernel)
def kq_991 : ek := (137, [.inl (0, 19), .inl (0, 0), .inl ((-1), 19)], [], [], [(some (.inl (1, 1)), []), (some (.inl (0, 0)), [])], 0, 0)
/-- LoadsAheadModel in -/
theorem qk_991 (l : Launch) : ek_ok l tQ iQ kq_991 := ek_good_ok (sp := sQ) (K := []) (SP := []) (HS := []) (N := 0) (fuel := 26) hIQ (fun _ h => absurd h List.not_mem_nil) (by decide +kernel)
def kq_992 : ek := (171, [.inr 86, .inl (0, 19)], [], [], [(some (.inl (0, 0)), []), (some (.inl (1, 1)), [])], 1, 22)
/-- LoadsAheadModel isOp -/
theorem qk_992 (l : Launch) : ek_ok l tQ iQ kq_992 := ek_good_ok (sp := sQ) (K := [kq_991]) (SP := [(8, [(2, [(-1)])])]) (HS := []) (N := 0) (fuel := 24) hIQ (List.forall_mem_cons.mpr ⟨qk_991 l, fun _ h => absurd h List.not_mem_nil⟩) (by decide +kernel)
def kq_993 : ek := (137, [.inl (20, 2147483647), .inl (0, 0), .inl ((-1), 19)], [], [], [(some (.inl (0, 0)), [])], 0, 0)
/-- LoadsAheadModel in -/
theorem qk_993 (l : Launch) : ek_ok l tQ iQ kq_993 := ek_good_ok (sp := sQ) (K := []) (SP := []) (HS := []) (N := 0) (fuel := 24) hIQ (fun _ h => absurd h List.not_mem_nil) (by decide +kernel)
def kq_994 : ek := (171, [.inr 86, .inl (20, 2147483647)], [], [], [(some (.inl (0, 0)), [])], 1, 22)
/-- LoadsAheadModel isOp -/
theorem qk_994 (l : Launch) : ek_ok l tQ iQ kq_994 := ek_good_ok (sp := sQ) (K := [kq_993]) (SP := [(8, [(2, [(-1)])])]) (HS := []) (N := 0) (fuel := 24) hIQ (List.forall_mem_cons.mpr ⟨qk_993 l, fun _ h => absurd h List.not_mem_nil⟩) (by decide +kernel)
def kq_995 : ek := (227, [.inr 86, .inl (0, 19), .inl (0, 7)], [], [], [(some (.inl (0, 15)), []), (some (.inl ((-2), (-2))), []), (some (.inl ((-2147483648), 2147483647)), [((2, 84, 75), (1, 1), none)])], 0, 0)
/-- LoadsAheadModel toldOfOp -/
theorem qk_995 (l : Launch) : ek_ok l tQ iQ kq_995 := ek_good_ok (sp := sQ) (K := []) (SP := []) (HS := []) (N := 0) (fuel := 50) hIQ (fun _ h => absurd h List.not_mem_nil) (by decide +kernel)
def kq_996 : ek := (226, [.inr 86, .inl (0, 2147483647), .inl ((-2147483648), 2147483647)], [], [], [(some (.inl ((-100000), (-2))), []), (some (.inl ((-2147483648), 2147483647)), [((2, 84, 75), (1, 1), none)]), (some (.inl (0, 15)), [])], 2, 43)
/-- LoadsAheadModel opIs -/
theorem qk_996 (l : Launch) : ek_ok l tQ iQ kq_996 := ek_good_ok (sp := sQ) (K := [kq_931, kq_992, kq_995, kq_994, kq_977, kq_974]) (SP := [(2, [(0, [(-1), 19])]), (11, [(2, [(-1), 5])])]) (HS := []) (N := 0) (fuel := 114) hIQ (List.forall_mem_cons.mpr ⟨qk_931 l, List.forall_mem_cons.mpr ⟨qk_992 l, List.forall_mem_cons.mpr ⟨qk_995 l, List.forall_mem_cons.mpr ⟨qk_994 l, List.forall_mem_cons.mpr ⟨qk_977 l, List.forall_mem_cons.mpr ⟨qk_974 l, fun _ h => absurd h List.not_mem_nil⟩⟩⟩⟩⟩⟩) (by decide +kernel)
def kq_997 : ek := (108, [.inr 2, .inl ((-2147483648), (-1)), .inl ((-2147483648), 2147483647)], [], [], [(some (.inl ((-1), (-1))), [])], 1, 21)
/-- LoadsAhead source -/
theorem qk_997 (l : Launch) : ek_ok l tQ iQ kq_997 := ek_good_ok (sp := sQ) (K := [kq_979]) (SP := [(2, [(0, [(-1), 19])])]) (HS := []) (N := 0) (fuel := 20) hIQ (List.forall_mem_cons.mpr ⟨qk_979 l, fun _ h => absurd h List.not_mem_nil⟩) (by decide +kernel)
def kq_998 : ek := (52, [.inl ((-2147483648), (-1))], [], [], [(some (.inl (0, 0)), [])], 0, 0)
/-- LoadsAhead isCell -/
theorem qk_998 (l : Launch) : ek_ok l tQ iQ kq_998 := ek_good_ok (sp := sQ) (K := []) (SP := []) (HS := []) (N := 0) (fuel := 16) hIQ (fun _ h => absurd h List.not_mem_nil) (by decide +kernel)
def kq_999 : ek := (52, [.inl (8, 2147483647)], [], [], [(some (.inl (0, 0)), [])], 0, 0)
/-- LoadsAhead isCell -/
theorem qk_999 (l : Launch) : ek_ok l tQ iQ kq_999 := ek_good_ok (sp := sQ) (K := []) (SP := []) (HS := []) (N := 0) (fuel := 22) hIQ (fun _ h => absurd h List.not_mem_nil) (by decide +kernel)
def kq_1000 : ek := (108, [.inr 2, .inl (0, 2147483647), .inl ((-2147483648), 2147483647)], [], [], [(some (.inl ((-2), (-1))), []), (some (.inl (0, 19)), [((2, 4, 11), (1, 20), none)])], 1, 21)
/-- LoadsAhead source -/
theorem qk_1000 (l : Launch) : ek_ok l tQ iQ kq_1000 := ek_good_ok (sp := sQ) (K := [kq_132, kq_981, kq_983, kq_982, kq_999, kq_998]) (SP := [(2, [(0, [(-1), 19])]), (9, [(0, [(-1), 7])])]) (HS := []) (N := 0) (fuel := 70) hIQ (List.forall_mem_cons.mpr ⟨qk_132 l, List.forall_mem_cons.mpr ⟨qk_981 l, List.forall_mem_cons.mpr ⟨qk_983 l, List.forall_mem_cons.mpr ⟨qk_982 l, List.forall_mem_cons.mpr ⟨qk_999 l, List.forall_mem_cons.mpr ⟨qk_998 l, fun _ h => absurd h List.not_mem_nil⟩⟩⟩⟩⟩⟩) (by decide +kernel)
def kq_1001 : ek := (170, [.inr 86, .inl ((-2147483648), (-1)), .inl ((-2147483648), 2147483647)], [], [], [(some (.inl ((-1), (-1))), [])], 2, 43)
/-- LoadsAheadModel source -/
theorem qk_1001 (l : Launch) : ek_ok l tQ iQ kq_1001 := ek_good_ok (sp := sQ) (K := [kq_989]) (SP := [(2, [(0, [(-1), 19])])]) (HS := []) (N := 0) (fuel := 20) hIQ (List.forall_mem_cons.mpr ⟨qk_989 l, fun _ h => absurd h List.not_mem_nil⟩) (by decide +kernel)
def kq_1002 : ek := (170, [.inr 86, .inl (0, 2147483647), .inl ((-2147483648), 2147483647)], [], [], [(some (.inl ((-2), (-1))), []), (some (.inl (0, 18)), [])], 2, 45)
/-- LoadsAheadModel source -/
theorem qk_1002 (l : Launch) : ek_ok l tQ iQ kq_1002 := ek_good_ok (sp := sQ) (K := [kq_5, kq_992, kq_441, kq_428, kq_994, kq_7, kq_3]) (SP := [(2, [(0, [(-1), 19])]), (12, [(2, [(-1), 7])])]) (HS := []) (N := 0) (fuel := 60) hIQ (List.forall_mem_cons.mpr ⟨qk_5 l, List.forall_mem_cons.mpr ⟨qk_992 l, List.forall_mem_cons.mpr ⟨qk_441 l, List.forall_mem_cons.mpr ⟨qk_428 l, List.forall_mem_cons.mpr ⟨qk_994 l, List.forall_mem_cons.mpr ⟨qk_7 l, List.forall_mem_cons.mpr ⟨qk_3 l, fun _ h => absurd h List.not_mem_nil⟩⟩⟩⟩⟩⟩⟩) (by decide +kernel)
def kq_1003 : ek := (101, [.inl ((-2147483648), (-1))], [], [], [(some (.inl (0, 0)), [])], 0, 0)
/-- LoadsAhead isByte -/
theorem qk_1003 (l : Launch) : ek_ok l tQ iQ kq_1003 := ek_good_ok (sp := sQ) (K := []) (SP := []) (HS := []) (N := 0) (fuel := 18) hIQ (fun _ h => absurd h List.not_mem_nil) (by decide +kernel)
def kq_1004 : ek := (109, [.inr 2, .inl ((-2147483648), (-1))], [], [], [(some (.inl ((-100000), (-100000))), [])], 1, 20)
/-- LoadsAhead now -/
theorem qk_1004 (l : Launch) : ek_ok l tQ iQ kq_1004 := ek_good_ok (sp := sQ) (K := [kq_998, kq_1003]) (SP := [(1, [(0, [(-1), 7])]), (21, [(0, [99, 163])])]) (HS := []) (N := 0) (fuel := 24) hIQ (List.forall_mem_cons.mpr ⟨qk_998 l, List.forall_mem_cons.mpr ⟨qk_1003 l, fun _ h => absurd h List.not_mem_nil⟩⟩) (by decide +kernel)
def kq_1005 : ek := (109, [.inr 2, .inl (0, 7)], [], [], [(some (.inl ((-2147483648), 2147483647)), [])], 1, 20)
/-- LoadsAhead now -/
theorem qk_1005 (l : Launch) : ek_ok l tQ iQ kq_1005 := ek_good_ok (sp := sQ) (K := [kq_132]) (SP := [(1, [(0, [(-1), 7])])]) (HS := []) (N := 0) (fuel := 28) hIQ (List.forall_mem_cons.mpr ⟨qk_132 l, fun _ h => absurd h List.not_mem_nil⟩) (by decide +kernel)
def kq_1006 : ek := (101, [.inl (8, 99)], [], [], [(some (.inl (0, 0)), [])], 0, 0)
/-- LoadsAhead isByte -/
theorem qk_1006 (l : Launch) : ek_ok l tQ iQ kq_1006 := ek_good_ok (sp := sQ) (K := []) (SP := []) (HS := []) (N := 0) (fuel := 18) hIQ (fun _ h => absurd h List.not_mem_nil) (by decide +kernel)
def kq_1007 : ek := (52, [.inl (8, 99)], [], [], [(some (.inl (0, 0)), [])], 0, 0)
/-- LoadsAhead isCell -/
theorem qk_1007 (l : Launch) : ek_ok l tQ iQ kq_1007 := ek_good_ok (sp := sQ) (K := []) (SP := []) (HS := []) (N := 0) (fuel := 22) hIQ (fun _ h => absurd h List.not_mem_nil) (by decide +kernel)
def kq_1008 : ek := (109, [.inr 2, .inl (8, 99)], [], [], [(some (.inl ((-100000), (-100000))), [])], 1, 20)
/-- LoadsAhead now -/
theorem qk_1008 (l : Launch) : ek_ok l tQ iQ kq_1008 := ek_good_ok (sp := sQ) (K := [kq_1006, kq_1007]) (SP := [(1, [(0, [(-1), 7])]), (21, [(0, [99, 163])])]) (HS := []) (N := 0) (fuel := 24) hIQ (List.forall_mem_cons.mpr ⟨qk_1006 l, List.forall_mem_cons.mpr ⟨qk_1007 l, fun _ h => absurd h List.not_mem_nil⟩⟩) (by decide +kernel)
def kq_1009 : ek := (52, [.inl (100, 163)], [], [], [(some (.inl (0, 0)), [])], 0, 0)
/-- LoadsAhead isCell -/
theorem qk_1009 (l : Launch) : ek_ok l tQ iQ kq_1009 := ek_good_ok (sp := sQ) (K := []) (SP := []) (HS := []) (N := 0) (fuel := 22) hIQ (fun _ h => absurd h List.not_mem_nil) (by decide +kernel)
def kq_1010 : ek := (109, [.inr 2, .inl (100, 163)], [], [], [(some (.inl ((-2147483648), 2147483647)), [])], 1, 20)
/-- LoadsAhead now -/
theorem qk_1010 (l : Launch) : ek_ok l tQ iQ kq_1010 := ek_good_ok (sp := sQ) (K := [kq_1009, kq_908]) (SP := [(1, [(0, [(-1), 7])]), (21, [(0, [99, 163])])]) (HS := []) (N := 0) (fuel := 40) hIQ (List.forall_mem_cons.mpr ⟨qk_1009 l, List.forall_mem_cons.mpr ⟨qk_908 l, fun _ h => absurd h List.not_mem_nil⟩⟩) (by decide +kernel)
def kq_1011 : ek := (52, [.inl (164, 2147483647)], [], [], [(some (.inl (0, 0)), [])], 0, 0)
/-- LoadsAhead isCell -/
theorem qk_1011 (l : Launch) : ek_ok l tQ iQ kq_1011 := ek_good_ok (sp := sQ) (K := []) (SP := []) (HS := []) (N := 0) (fuel := 22) hIQ (fun _ h => absurd h List.not_mem_nil) (by decide +kernel)
