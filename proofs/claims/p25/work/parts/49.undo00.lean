def kq_2331 : ek := (130, [.inr 2], [((2, 0, 9), (0, 0), none)], [], [(some (.inl (0, 0)), [((2, 0, 9), (0, 0), none)])], 0, 0)
/-- LoadsAhead undo -/
theorem qk_2331 (l : Launch) : ek_ok l tQ iG kq_2331 := ek_good_ok (sp := sG) (K := []) (SP := []) (HS := []) (N := 0) (fuel := 18) iG_hI (fun _ h => absurd h List.not_mem_nil) (by decide +kernel)
def kq_2332 : ek := (236, [.inr 86], [((2, 84, 88), (0, 0), none)], [], [(some (.inl (0, 0)), [((2, 84, 88), (0, 0), none)])], 0, 0)
/-- LoadsAheadModel undo -/
theorem qk_2332 (l : Launch) : ek_ok l tQ iG kq_2332 := ek_good_ok (sp := sG) (K := []) (SP := []) (HS := []) (N := 0) (fuel := 18) iG_hI (fun _ h => absurd h List.not_mem_nil) (by decide +kernel)
def kq_2333 : ek := (130, [.inr 2], [((2, 0, 9), (1, 1), none)], [(24, 3), (24, 4), (24, 5), (25, 999), (26, 999), (27, 999)], [(some (.inl (1, 1)), [((2, 0, 9), (1, 1), none)])], 2, 86)
/-- LoadsAhead undo -/
theorem qk_2333 (l : Launch) : ek_ok l tQ iG kq_2333 := ek_good_ok (sp := sG) (K := [kq_1195, kq_1196]) (SP := []) (HS := []) (N := 0) (fuel := 48) iG_hI (List.forall_mem_cons.mpr ⟨(ek_upS iG_hI (fun _ _ => trivial) rfl (qk_1195 l)), List.forall_mem_cons.mpr ⟨(ek_upS iG_hI (fun _ _ => trivial) rfl (qk_1196 l)), fun _ h => absurd h List.not_mem_nil⟩⟩) (by decide +kernel)
def kq_2334 : ek := (236, [.inr 86], [((2, 84, 88), (1, 1), none)], [(84, 0), (84, 1), (84, 3), (85, 999), (86, 999), (87, 999)], [(some (.inl (1, 1)), [])], 0, 0)
/-- LoadsAheadModel undo -/
theorem qk_2334 (l : Launch) : ek_ok l tQ iG kq_2334 := ek_good_ok (sp := sG) (K := []) (SP := []) (HS := [((27, [some (.inr 86, none), some (.inl (0, 8), none)], [], [], []), [(0, (0, 0, 0), 2), (1, (1, 1, 0), 8), (0, (0, 0, 0), 0)]), ((53, [some (.inr 86, none), some (.inl (0, 64), none)], [], [], []), [(0, (0, 0, 0), 1), (1, (1, 1, 0), 64), (0, (0, 0, 0), 0)]), ((100, [some (.inr 86, none), some (.inl (0, 20), none)], [], [], []), [(0, (0, 0, 0), 0), (1, (1, 1, 0), 20), (0, (0, 0, 0), 0)])]) (N := 3) (fuel := 38) iG_hI (fun _ h => absurd h List.not_mem_nil) (by decide +kernel)
def kq_2335 : ek := (235, [.inr 86], [((2, 84, 88), (0, 1), none)], [(84, 88), (84, 89), (84, 90), (84, 91), (84, 92), (146, 999), (147, 999), (148, 999)], [(some (.inl (0, 9999)), [((2, 84, 88), (1, 1), none)])], 0, 0)
/-- LoadsAheadModel keep -/
theorem qk_2335 (l : Launch) : ek_ok l tQ iG kq_2335 := ek_good_ok (sp := sG) (K := []) (SP := []) (HS := [((39, [some (.inr 86, none), some (.inl (0, 8), none)], [], [((2, 84, 88), (1, 1), none)], []), [(0, (0, 0, 0), 2), (1, (1, 1, 0), 8), (0, (0, 0, 0), 0)]), ((65, [some (.inr 86, none), some (.inl (0, 64), none)], [], [((2, 84, 88), (1, 1), none)], []), [(0, (0, 0, 0), 1), (1, (1, 1, 0), 64), (0, (0, 0, 0), 0)]), ((91, [some (.inr 86, none), some (.inl (0, 20), none)], [], [((2, 84, 88), (1, 1), none)], []), [(0, (0, 0, 0), 0), (1, (1, 1, 0), 20), (0, (0, 0, 0), 0)])]) (N := 3) (fuel := 52) iG_hI (fun _ h => absurd h List.not_mem_nil) (by decide +kernel)
