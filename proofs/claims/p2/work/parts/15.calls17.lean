def kq_1236 : ek := (239, [.inr 86, .inl (7, 7)], [], [], [(some (.inl (0, 9999)), [])], 0, 0)
/-- LoadsAheadModel count -/
theorem qk_1236 (l : Launch) : ek_ok l tQ iQ kq_1236 := ek_good_ok (sp := sQ) (K := []) (SP := []) (HS := []) (N := 0) (fuel := 18) hIQ (fun _ h => absurd h List.not_mem_nil) (by decide +kernel)
def kq_1237 : ek := (239, [.inr 86, .inl (8, 8)], [], [], [(some (.inl (0, 2147483647)), []), (some (.inl ((-2147483648), 2147483647)), [])], 1, 22)
/-- LoadsAheadModel count -/
theorem qk_1237 (l : Launch) : ek_ok l tQ iQ kq_1237 := ek_good_ok (sp := sQ) (K := [kq_1169]) (SP := []) (HS := []) (N := 0) (fuel := 18) hIQ (List.forall_mem_cons.mpr ⟨qk_1169 l, fun _ h => absurd h List.not_mem_nil⟩) (by decide +kernel)
def kq_1238 : ek := (239, [.inr 86, .inl (9, 9)], [], [], [(some (.inl (0, 15)), [])], 0, 0)
/-- LoadsAheadModel count -/
theorem qk_1238 (l : Launch) : ek_ok l tQ iQ kq_1238 := ek_good_ok (sp := sQ) (K := []) (SP := []) (HS := []) (N := 0) (fuel := 18) hIQ (fun _ h => absurd h List.not_mem_nil) (by decide +kernel)
def kq_1239 : ek := (239, [.inr 86, .inl (10, 10)], [], [], [(some (.inl (0, 16)), [])], 0, 0)
/-- LoadsAheadModel count -/
theorem qk_1239 (l : Launch) : ek_ok l tQ iQ kq_1239 := ek_good_ok (sp := sQ) (K := []) (SP := []) (HS := []) (N := 0) (fuel := 32) hIQ (fun _ h => absurd h List.not_mem_nil) (by decide +kernel)
def kq_1240 : ek := (241, [.inr 86], [], [], [(some (.inl ((-2147483648), 2147483647)), []), (some (.inl (0, 2147483647)), [])], 0, 0)
/-- LoadsAheadModel bytesThere -/
theorem qk_1240 (l : Launch) : ek_ok l tQ iQ kq_1240 := ek_good_ok (sp := sQ) (K := []) (SP := []) (HS := [((4, [some (.inr 86, none), some (.inl ((-2147483648), 2147483647), none), some (.inl (0, 64), none)], [], [], []), [(0, (0, 0, 0), 0), (1, (1, 2, 0), 64), (0, (0, 0, 0), 0)])]) (N := 3) (fuel := 38) hIQ (fun _ h => absurd h List.not_mem_nil) (by decide +kernel)
def kq_1241 : ek := (239, [.inr 86, .inl (11, 11)], [], [], [(some (.inl (0, 2147483647)), []), (some (.inl ((-2147483648), 2147483647)), [])], 1, 22)
/-- LoadsAheadModel count -/
theorem qk_1241 (l : Launch) : ek_ok l tQ iQ kq_1241 := ek_good_ok (sp := sQ) (K := [kq_1240]) (SP := []) (HS := []) (N := 0) (fuel := 18) hIQ (List.forall_mem_cons.mpr ⟨qk_1240 l, fun _ h => absurd h List.not_mem_nil⟩) (by decide +kernel)
def kq_1242 : ek := (239, [.inr 86, .inl (12, 2147483647)], [], [], [(some (.inl ((-1), (-1))), [])], 0, 0)
/-- LoadsAheadModel count -/
theorem qk_1242 (l : Launch) : ek_ok l tQ iQ kq_1242 := ek_good_ok (sp := sQ) (K := []) (SP := []) (HS := []) (N := 0) (fuel := 16) hIQ (fun _ h => absurd h List.not_mem_nil) (by decide +kernel)
