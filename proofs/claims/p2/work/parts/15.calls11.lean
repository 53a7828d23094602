def kq_777 : ek := (201, [.inr 86, .inl (0, 19), .inl (0, 240), .inl (0, 15)], [], [(109, 999)], [(none, [])], 0, 0)
/-- LoadsAheadModel feels -/
theorem qk_777 (l : Launch) : ek_ok l tQ iQ kq_777 := ek_good_ok (sp := sQ) (K := []) (SP := []) (HS := []) (N := 0) (fuel := 120) hIQ (fun _ h => absurd h List.not_mem_nil) (by decide +kernel)
def kq_779 : ek := (201, [.inr 86, .inl (0, 19), .inl (0, 240), .inl (0, 0)], [], [(109, 999)], [(none, [])], 0, 0)
/-- LoadsAheadModel feels -/
theorem qk_779 (l : Launch) : ek_ok l tQ iQ kq_779 := ek_good_ok (sp := sQ) (K := []) (SP := []) (HS := []) (N := 0) (fuel := 120) hIQ (fun _ h => absurd h List.not_mem_nil) (by decide +kernel)
def kq_787 : ek := (201, [.inr 86, .inl (0, 0), .inl (0, 240), .inl (0, 15)], [], [(109, 999)], [(none, [])], 0, 0)
/-- LoadsAheadModel feels -/
theorem qk_787 (l : Launch) : ek_ok l tQ iQ kq_787 := ek_good_ok (sp := sQ) (K := []) (SP := []) (HS := []) (N := 0) (fuel := 120) hIQ (fun _ h => absurd h List.not_mem_nil) (by decide +kernel)
def kq_789 : ek := (201, [.inr 86, .inl (0, 15), .inl (0, 240), .inl (0, 15)], [], [(109, 999)], [(none, [])], 0, 0)
/-- LoadsAheadModel feels -/
theorem qk_789 (l : Launch) : ek_ok l tQ iQ kq_789 := ek_good_ok (sp := sQ) (K := []) (SP := []) (HS := []) (N := 0) (fuel := 120) hIQ (fun _ h => absurd h List.not_mem_nil) (by decide +kernel)
def kq_791 : ek := (201, [.inr 86, .inl (0, 7), .inl (0, 240), .inl (0, 15)], [], [(109, 999)], [(none, [])], 0, 0)
/-- LoadsAheadModel feels -/
theorem qk_791 (l : Launch) : ek_ok l tQ iQ kq_791 := ek_good_ok (sp := sQ) (K := []) (SP := []) (HS := []) (N := 0) (fuel := 120) hIQ (fun _ h => absurd h List.not_mem_nil) (by decide +kernel)
def kq_793 : ek := (201, [.inr 86, .inl (0, 3), .inl (0, 240), .inl (0, 15)], [], [(109, 999)], [(none, [])], 0, 0)
/-- LoadsAheadModel feels -/
theorem qk_793 (l : Launch) : ek_ok l tQ iQ kq_793 := ek_good_ok (sp := sQ) (K := []) (SP := []) (HS := []) (N := 0) (fuel := 120) hIQ (fun _ h => absurd h List.not_mem_nil) (by decide +kernel)
def kq_795 : ek := (201, [.inr 86, .inl (0, 1), .inl (0, 240), .inl (0, 15)], [], [(109, 999)], [(none, [])], 0, 0)
/-- LoadsAheadModel feels -/
theorem qk_795 (l : Launch) : ek_ok l tQ iQ kq_795 := ek_good_ok (sp := sQ) (K := []) (SP := []) (HS := []) (N := 0) (fuel := 120) hIQ (fun _ h => absurd h List.not_mem_nil) (by decide +kernel)
def kq_798 : ek := (201, [.inr 86, .inl (0, 19), .inl (0, 255), .inl (0, 15)], [], [(109, 999)], [(none, [])], 0, 0)
/-- LoadsAheadModel feels -/
theorem qk_798 (l : Launch) : ek_ok l tQ iQ kq_798 := ek_good_ok (sp := sQ) (K := []) (SP := []) (HS := []) (N := 0) (fuel := 120) hIQ (fun _ h => absurd h List.not_mem_nil) (by decide +kernel)
def kq_800 : ek := (201, [.inr 86, .inl (0, 19), .inl (0, 255), .inl (0, 0)], [], [(109, 999)], [(none, [])], 0, 0)
/-- LoadsAheadModel feels -/
theorem qk_800 (l : Launch) : ek_ok l tQ iQ kq_800 := ek_good_ok (sp := sQ) (K := []) (SP := []) (HS := []) (N := 0) (fuel := 120) hIQ (fun _ h => absurd h List.not_mem_nil) (by decide +kernel)
def kq_808 : ek := (201, [.inr 86, .inl (0, 0), .inl (0, 255), .inl (0, 15)], [], [(109, 999)], [(none, [])], 0, 0)
/-- LoadsAheadModel feels -/
theorem qk_808 (l : Launch) : ek_ok l tQ iQ kq_808 := ek_good_ok (sp := sQ) (K := []) (SP := []) (HS := []) (N := 0) (fuel := 120) hIQ (fun _ h => absurd h List.not_mem_nil) (by decide +kernel)
def kq_810 : ek := (201, [.inr 86, .inl (0, 15), .inl (0, 255), .inl (0, 15)], [], [(109, 999)], [(none, [])], 0, 0)
/-- LoadsAheadModel feels -/
theorem qk_810 (l : Launch) : ek_ok l tQ iQ kq_810 := ek_good_ok (sp := sQ) (K := []) (SP := []) (HS := []) (N := 0) (fuel := 120) hIQ (fun _ h => absurd h List.not_mem_nil) (by decide +kernel)
def kq_812 : ek := (201, [.inr 86, .inl (0, 7), .inl (0, 255), .inl (0, 15)], [], [(109, 999)], [(none, [])], 0, 0)
/-- LoadsAheadModel feels -/
theorem qk_812 (l : Launch) : ek_ok l tQ iQ kq_812 := ek_good_ok (sp := sQ) (K := []) (SP := []) (HS := []) (N := 0) (fuel := 120) hIQ (fun _ h => absurd h List.not_mem_nil) (by decide +kernel)
def kq_814 : ek := (201, [.inr 86, .inl (0, 3), .inl (0, 255), .inl (0, 15)], [], [(109, 999)], [(none, [])], 0, 0)
/-- LoadsAheadModel feels -/
theorem qk_814 (l : Launch) : ek_ok l tQ iQ kq_814 := ek_good_ok (sp := sQ) (K := []) (SP := []) (HS := []) (N := 0) (fuel := 120) hIQ (fun _ h => absurd h List.not_mem_nil) (by decide +kernel)
def kq_816 : ek := (201, [.inr 86, .inl (0, 1), .inl (0, 255), .inl (0, 15)], [], [(109, 999)], [(none, [])], 0, 0)
/-- LoadsAheadModel feels -/
theorem qk_816 (l : Launch) : ek_ok l tQ iQ kq_816 := ek_good_ok (sp := sQ) (K := []) (SP := []) (HS := []) (N := 0) (fuel := 120) hIQ (fun _ h => absurd h List.not_mem_nil) (by decide +kernel)
def kq_819 : ek := (201, [.inr 86, .inl (0, 19), .inl (0, 260), .inl (0, 15)], [], [(109, 999)], [(none, [])], 0, 0)
/-- LoadsAheadModel feels -/
theorem qk_819 (l : Launch) : ek_ok l tQ iQ kq_819 := ek_good_ok (sp := sQ) (K := []) (SP := []) (HS := []) (N := 0) (fuel := 120) hIQ (fun _ h => absurd h List.not_mem_nil) (by decide +kernel)
def kq_821 : ek := (201, [.inr 86, .inl (0, 19), .inl (0, 260), .inl (0, 0)], [], [(109, 999)], [(none, [])], 0, 0)
/-- LoadsAheadModel feels -/
theorem qk_821 (l : Launch) : ek_ok l tQ iQ kq_821 := ek_good_ok (sp := sQ) (K := []) (SP := []) (HS := []) (N := 0) (fuel := 120) hIQ (fun _ h => absurd h List.not_mem_nil) (by decide +kernel)
def kq_829 : ek := (201, [.inr 86, .inl (0, 0), .inl (0, 260), .inl (0, 15)], [], [(109, 999)], [(none, [])], 0, 0)
/-- LoadsAheadModel feels -/
theorem qk_829 (l : Launch) : ek_ok l tQ iQ kq_829 := ek_good_ok (sp := sQ) (K := []) (SP := []) (HS := []) (N := 0) (fuel := 120) hIQ (fun _ h => absurd h List.not_mem_nil) (by decide +kernel)
def kq_831 : ek := (201, [.inr 86, .inl (0, 15), .inl (0, 260), .inl (0, 15)], [], [(109, 999)], [(none, [])], 0, 0)
/-- LoadsAheadModel feels -/
theorem qk_831 (l : Launch) : ek_ok l tQ iQ kq_831 := ek_good_ok (sp := sQ) (K := []) (SP := []) (HS := []) (N := 0) (fuel := 120) hIQ (fun _ h => absurd h List.not_mem_nil) (by decide +kernel)
def kq_833 : ek := (201, [.inr 86, .inl (0, 7), .inl (0, 260), .inl (0, 15)], [], [(109, 999)], [(none, [])], 0, 0)
/-- LoadsAheadModel feels -/
theorem qk_833 (l : Launch) : ek_ok l tQ iQ kq_833 := ek_good_ok (sp := sQ) (K := []) (SP := []) (HS := []) (N := 0) (fuel := 120) hIQ (fun _ h => absurd h List.not_mem_nil) (by decide +kernel)
def kq_835 : ek := (201, [.inr 86, .inl (0, 3), .inl (0, 260), .inl (0, 15)], [], [(109, 999)], [(none, [])], 0, 0)
/-- LoadsAheadModel feels -/
theorem qk_835 (l : Launch) : ek_ok l tQ iQ kq_835 := ek_good_ok (sp := sQ) (K := []) (SP := []) (HS := []) (N := 0) (fuel := 120) hIQ (fun _ h => absurd h List.not_mem_nil) (by decide +kernel)
def kq_837 : ek := (201, [.inr 86, .inl (0, 1), .inl (0, 260), .inl (0, 15)], [], [(109, 999)], [(none, [])], 0, 0)
/-- LoadsAheadModel feels -/
theorem qk_837 (l : Launch) : ek_ok l tQ iQ kq_837 := ek_good_ok (sp := sQ) (K := []) (SP := []) (HS := []) (N := 0) (fuel := 120) hIQ (fun _ h => absurd h List.not_mem_nil) (by decide +kernel)
def kq_844 : ek := (201, [.inr 86, .inl (0, 0), .inl (0, 2000), .inl (0, 15)], [], [(109, 999)], [(none, [])], 0, 0)
/-- LoadsAheadModel feels -/
theorem qk_844 (l : Launch) : ek_ok l tQ iQ kq_844 := ek_good_ok (sp := sQ) (K := []) (SP := []) (HS := []) (N := 0) (fuel := 120) hIQ (fun _ h => absurd h List.not_mem_nil) (by decide +kernel)
def kq_846 : ek := (201, [.inr 86, .inl (0, 15), .inl (0, 2000), .inl (0, 15)], [], [(109, 999)], [(none, [])], 0, 0)
/-- LoadsAheadModel feels -/
theorem qk_846 (l : Launch) : ek_ok l tQ iQ kq_846 := ek_good_ok (sp := sQ) (K := []) (SP := []) (HS := []) (N := 0) (fuel := 120) hIQ (fun _ h => absurd h List.not_mem_nil) (by decide +kernel)
def kq_848 : ek := (201, [.inr 86, .inl (0, 7), .inl (0, 2000), .inl (0, 15)], [], [(109, 999)], [(none, [])], 0, 0)
/-- LoadsAheadModel feels -/
theorem qk_848 (l : Launch) : ek_ok l tQ iQ kq_848 := ek_good_ok (sp := sQ) (K := []) (SP := []) (HS := []) (N := 0) (fuel := 120) hIQ (fun _ h => absurd h List.not_mem_nil) (by decide +kernel)
def kq_850 : ek := (201, [.inr 86, .inl (0, 3), .inl (0, 2000), .inl (0, 15)], [], [(109, 999)], [(none, [])], 0, 0)
/-- LoadsAheadModel feels -/
theorem qk_850 (l : Launch) : ek_ok l tQ iQ kq_850 := ek_good_ok (sp := sQ) (K := []) (SP := []) (HS := []) (N := 0) (fuel := 120) hIQ (fun _ h => absurd h List.not_mem_nil) (by decide +kernel)
def kq_852 : ek := (201, [.inr 86, .inl (0, 1), .inl (0, 2000), .inl (0, 15)], [], [(109, 999)], [(none, [])], 0, 0)
/-- LoadsAheadModel feels -/
theorem qk_852 (l : Launch) : ek_ok l tQ iQ kq_852 := ek_good_ok (sp := sQ) (K := []) (SP := []) (HS := []) (N := 0) (fuel := 120) hIQ (fun _ h => absurd h List.not_mem_nil) (by decide +kernel)
def kq_854 : ek := (173, [.inr 86, .inl (0, 20), .inl (0, 0)], [], [], [(some (.inl (0, 19)), []), (some (.inl ((-1), (-1))), [])], 1, 22)
/-- LoadsAheadModel giverOf -/
theorem qk_854 (l : Launch) : ek_ok l tQ iQ kq_854 := ek_good_ok (sp := sQ) (K := [kq_591]) (SP := []) (HS := [((4, [some (.inr 86, none), some (.inl (0, 20), none), some (.inl (0, 0), none), some (.inl ((-1), 19), none)], [], [], []), [(0, (0, 0, 0), 0), (2, (1, 3, 0), (-1)), (0, (0, 0, 0), 0)])]) (N := 3) (fuel := 28) hIQ (List.forall_mem_cons.mpr ⟨qk_591 l, fun _ h => absurd h List.not_mem_nil⟩) (by decide +kernel)
def kq_855 : ek := (180, [.inr 86, .inl (0, 20), .inl (0, 0)], [], [], [(some (.inl ((-2147483648), 2147483647)), [])], 2, 45)
/-- LoadsAheadModel readBy -/
theorem qk_855 (l : Launch) : ek_ok l tQ iQ kq_855 := ek_good_ok (sp := sQ) (K := [kq_854]) (SP := []) (HS := []) (N := 0) (fuel := 36) hIQ (List.forall_mem_cons.mpr ⟨qk_854 l, fun _ h => absurd h List.not_mem_nil⟩) (by decide +kernel)
def kq_856 : ek := (173, [.inr 86, .inl (0, 20), .inl (0, 1)], [], [], [(some (.inl (0, 19)), []), (some (.inl ((-1), (-1))), [])], 1, 22)
/-- LoadsAheadModel giverOf -/
theorem qk_856 (l : Launch) : ek_ok l tQ iQ kq_856 := ek_good_ok (sp := sQ) (K := [kq_589]) (SP := []) (HS := [((4, [some (.inr 86, none), some (.inl (0, 20), none), some (.inl (0, 1), none), some (.inl ((-1), 19), none)], [], [], []), [(0, (0, 0, 0), 0), (2, (1, 3, 0), (-1)), (0, (0, 0, 0), 0)])]) (N := 3) (fuel := 28) hIQ (List.forall_mem_cons.mpr ⟨qk_589 l, fun _ h => absurd h List.not_mem_nil⟩) (by decide +kernel)
def kq_857 : ek := (180, [.inr 86, .inl (0, 20), .inl (0, 1)], [], [], [(some (.inl ((-2147483648), 2147483647)), [])], 2, 45)
/-- LoadsAheadModel readBy -/
theorem qk_857 (l : Launch) : ek_ok l tQ iQ kq_857 := ek_good_ok (sp := sQ) (K := [kq_856]) (SP := []) (HS := []) (N := 0) (fuel := 36) hIQ (List.forall_mem_cons.mpr ⟨qk_856 l, fun _ h => absurd h List.not_mem_nil⟩) (by decide +kernel)
def kq_858 : ek := (173, [.inr 86, .inl (0, 20), .inl (0, 3)], [], [], [(some (.inl (0, 19)), []), (some (.inl ((-1), (-1))), [])], 1, 22)
/-- LoadsAheadModel giverOf -/
theorem qk_858 (l : Launch) : ek_ok l tQ iQ kq_858 := ek_good_ok (sp := sQ) (K := [kq_587]) (SP := []) (HS := [((4, [some (.inr 86, none), some (.inl (0, 20), none), some (.inl (0, 3), none), some (.inl ((-1), 19), none)], [], [], []), [(0, (0, 0, 0), 0), (2, (1, 3, 0), (-1)), (0, (0, 0, 0), 0)])]) (N := 3) (fuel := 28) hIQ (List.forall_mem_cons.mpr ⟨qk_587 l, fun _ h => absurd h List.not_mem_nil⟩) (by decide +kernel)
def kq_859 : ek := (180, [.inr 86, .inl (0, 20), .inl (0, 3)], [], [], [(some (.inl ((-2147483648), 2147483647)), [])], 2, 45)
/-- LoadsAheadModel readBy -/
theorem qk_859 (l : Launch) : ek_ok l tQ iQ kq_859 := ek_good_ok (sp := sQ) (K := [kq_858]) (SP := []) (HS := []) (N := 0) (fuel := 36) hIQ (List.forall_mem_cons.mpr ⟨qk_858 l, fun _ h => absurd h List.not_mem_nil⟩) (by decide +kernel)
def kq_860 : ek := (211, [.inr 86, .inl (0, 0)], [], [], [(some (.inl ((-2147483648), 2147483647)), [])], 0, 0)
/-- LoadsAheadModel toldOf -/
theorem qk_860 (l : Launch) : ek_ok l tQ iQ kq_860 := ek_good_ok (sp := sQ) (K := []) (SP := []) (HS := []) (N := 0) (fuel := 18) hIQ (fun _ h => absurd h List.not_mem_nil) (by decide +kernel)
def kq_861 : ek := (211, [.inr 86, .inl (0, 1)], [], [], [(some (.inl ((-2147483648), 2147483647)), [])], 0, 0)
/-- LoadsAheadModel toldOf -/
theorem qk_861 (l : Launch) : ek_ok l tQ iQ kq_861 := ek_good_ok (sp := sQ) (K := []) (SP := []) (HS := []) (N := 0) (fuel := 18) hIQ (fun _ h => absurd h List.not_mem_nil) (by decide +kernel)
def kq_862 : ek := (211, [.inr 86, .inl (0, 3)], [], [], [(some (.inl ((-2147483648), 2147483647)), [])], 0, 0)
/-- LoadsAheadModel toldOf -/
theorem qk_862 (l : Launch) : ek_ok l tQ iQ kq_862 := ek_good_ok (sp := sQ) (K := []) (SP := []) (HS := []) (N := 0) (fuel := 18) hIQ (fun _ h => absurd h List.not_mem_nil) (by decide +kernel)
def kq_863 : ek := (137, [.inl (5, 2147483647), .inl (1, 1), .inl (4, 4)], [], [], [(some (.inl (0, 0)), [])], 0, 0)
/-- LoadsAheadModel in -/
theorem qk_863 (l : Launch) : ek_ok l tQ iQ kq_863 := ek_good_ok (sp := sQ) (K := []) (SP := []) (HS := []) (N := 0) (fuel := 24) hIQ (fun _ h => absurd h List.not_mem_nil) (by decide +kernel)
def kq_864 : ek := (176, [.inr 86, .inl (5, 2147483647)], [], [], [(some (.inl (0, 0)), [])], 1, 22)
/-- LoadsAheadModel canRun -/
theorem qk_864 (l : Launch) : ek_ok l tQ iQ kq_864 := ek_good_ok (sp := sQ) (K := [kq_863]) (SP := [(3, [(2, [0, 4])])]) (HS := []) (N := 0) (fuel := 22) hIQ (List.forall_mem_cons.mpr ⟨qk_863 l, fun _ h => absurd h List.not_mem_nil⟩) (by decide +kernel)
def kq_865 : ek := (175, [.inr 86, .inl (5, 2147483647)], [], [], [(some (.inl ((-1), (-1))), [])], 2, 43)
/-- LoadsAheadModel run -/
theorem qk_865 (l : Launch) : ek_ok l tQ iQ kq_865 := ek_good_ok (sp := sQ) (K := [kq_864]) (SP := [(2, [(0, [0, 4])])]) (HS := []) (N := 0) (fuel := 20) hIQ (List.forall_mem_cons.mpr ⟨qk_864 l, fun _ h => absurd h List.not_mem_nil⟩) (by decide +kernel)
def kq_866 : ek := (99, [.inr 2, .inl ((-2147483648), 0), .inl ((-2147483648), (-2147483639))], [], [], [(some (.inl ((-1), (-1))), [])], 1, 21)
/-- LoadsAhead tried -/
theorem qk_866 (l : Launch) : ek_ok l tQ iQ kq_866 := ek_good_ok (sp := sQ) (K := [kq_238]) (SP := [(2, [(0, [0, 4])])]) (HS := []) (N := 0) (fuel := 20) hIQ (List.forall_mem_cons.mpr ⟨qk_238 l, fun _ h => absurd h List.not_mem_nil⟩) (by decide +kernel)
def kq_867 : ek := (99, [.inr 2, .inl ((-2147483648), 0), .inl ((-2147483638), (-1))], [], [], [(some (.inl ((-1), (-1))), [])], 1, 21)
/-- LoadsAhead tried -/
theorem qk_867 (l : Launch) : ek_ok l tQ iQ kq_867 := ek_good_ok (sp := sQ) (K := [kq_238]) (SP := [(2, [(0, [0, 4])])]) (HS := []) (N := 0) (fuel := 20) hIQ (List.forall_mem_cons.mpr ⟨qk_238 l, fun _ h => absurd h List.not_mem_nil⟩) (by decide +kernel)
def kq_868 : ek := (99, [.inr 2, .inl ((-2147483648), 0), .inl (0, 5)], [], [], [(some (.inl ((-1), (-1))), [])], 1, 21)
/-- LoadsAhead tried -/
theorem qk_868 (l : Launch) : ek_ok l tQ iQ kq_868 := ek_good_ok (sp := sQ) (K := [kq_238]) (SP := [(2, [(0, [0, 4])])]) (HS := []) (N := 0) (fuel := 20) hIQ (List.forall_mem_cons.mpr ⟨qk_238 l, fun _ h => absurd h List.not_mem_nil⟩) (by decide +kernel)
def kq_869 : ek := (99, [.inr 2, .inl ((-2147483648), 0), .inl (6, 9)], [], [], [(some (.inl ((-1), (-1))), [])], 1, 21)
/-- LoadsAhead tried -/
theorem qk_869 (l : Launch) : ek_ok l tQ iQ kq_869 := ek_good_ok (sp := sQ) (K := [kq_238]) (SP := [(2, [(0, [0, 4])])]) (HS := []) (N := 0) (fuel := 20) hIQ (List.forall_mem_cons.mpr ⟨qk_238 l, fun _ h => absurd h List.not_mem_nil⟩) (by decide +kernel)
def kq_870 : ek := (99, [.inr 2, .inl ((-2147483648), 0), .inl (10, 17)], [], [], [(some (.inl ((-1), (-1))), [])], 1, 21)
/-- LoadsAhead tried -/
theorem qk_870 (l : Launch) : ek_ok l tQ iQ kq_870 := ek_good_ok (sp := sQ) (K := [kq_238]) (SP := [(2, [(0, [0, 4])])]) (HS := []) (N := 0) (fuel := 20) hIQ (List.forall_mem_cons.mpr ⟨qk_238 l, fun _ h => absurd h List.not_mem_nil⟩) (by decide +kernel)
