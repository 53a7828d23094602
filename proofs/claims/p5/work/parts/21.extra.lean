def kq_3000 : ek := (145, [.inr 86, .inl (5, 5), .inl (0, 240)], [], [(84, 21)], [(some (.inl (0, 0)), [])], 0, 0)
/-- LoadsAheadModel wrongAt -/
theorem qk_3000 (l : Launch) : ek_ok l tQ iQ kq_3000 := ek_good_ok (sp := sQ) (K := []) (SP := []) (HS := []) (N := 0) (fuel := 26) hIQ (fun _ h => absurd h List.not_mem_nil) (by decide +kernel)
def kq_3001 : ek := (152, [.inl ((-1), (-1))], [], [], [(some (.inl ((-1), (-1))), [])], 0, 0)
/-- LoadsAheadModel factOf -/
theorem qk_3001 (l : Launch) : ek_ok l tQ iQ kq_3001 := ek_good_ok (sp := sQ) (K := []) (SP := []) (HS := []) (N := 0) (fuel := 16) hIQ (fun _ h => absurd h List.not_mem_nil) (by decide +kernel)
def kq_3002 : ek := (152, [.inl (0, 255)], [], [], [(some (.inl ((-1), (-1))), []), (some (.inl (0, 6)), [])], 0, 0)
/-- LoadsAheadModel factOf -/
theorem qk_3002 (l : Launch) : ek_ok l tQ iQ kq_3002 := ek_good_ok (sp := sQ) (K := []) (SP := []) (HS := []) (N := 0) (fuel := 16) hIQ (fun _ h => absurd h List.not_mem_nil) (by decide +kernel)
def kq_3003 : ek := (153, [.inl ((-1), (-1))], [], [], [(some (.inl ((-1), (-1))), [])], 0, 0)
/-- LoadsAheadModel sumSign -/
theorem qk_3003 (l : Launch) : ek_ok l tQ iQ kq_3003 := ek_good_ok (sp := sQ) (K := []) (SP := []) (HS := []) (N := 0) (fuel := 42) hIQ (fun _ h => absurd h List.not_mem_nil) (by decide +kernel)
def kq_3004 : ek := (153, [.inl (0, 255)], [], [], [(some (.inl (2, 6)), []), (some (.inl ((-1), (-1))), [])], 0, 0)
/-- LoadsAheadModel sumSign -/
theorem qk_3004 (l : Launch) : ek_ok l tQ iQ kq_3004 := ek_good_ok (sp := sQ) (K := []) (SP := []) (HS := []) (N := 0) (fuel := 44) hIQ (fun _ h => absurd h List.not_mem_nil) (by decide +kernel)
