def kq_854 : ek := (201, [.inr 86, .inl (0, 0), .inl (0, 2000), .inl (0, 15)], [], [(109, 999)], [(none, [])], 0, 0)
/-- LoadsAheadModel feels -/
theorem qk_854 (l : Launch) : ek_ok l tQ iQ kq_854 := ek_good_ok (sp := sQ) (K := []) (SP := []) (HS := []) (N := 0) (fuel := 120) hIQ (fun _ h => absurd h List.not_mem_nil) (by decide +kernel)
def kq_856 : ek := (201, [.inr 86, .inl (0, 15), .inl (0, 2000), .inl (0, 15)], [], [(109, 999)], [(none, [])], 0, 0)
/-- LoadsAheadModel feels -/
theorem qk_856 (l : Launch) : ek_ok l tQ iQ kq_856 := ek_good_ok (sp := sQ) (K := []) (SP := []) (HS := []) (N := 0) (fuel := 120) hIQ (fun _ h => absurd h List.not_mem_nil) (by decide +kernel)
def kq_858 : ek := (201, [.inr 86, .inl (0, 7), .inl (0, 2000), .inl (0, 15)], [], [(109, 999)], [(none, [])], 0, 0)
/-- LoadsAheadModel feels -/
theorem qk_858 (l : Launch) : ek_ok l tQ iQ kq_858 := ek_good_ok (sp := sQ) (K := []) (SP := []) (HS := []) (N := 0) (fuel := 120) hIQ (fun _ h => absurd h List.not_mem_nil) (by decide +kernel)
def kq_860 : ek := (201, [.inr 86, .inl (0, 3), .inl (0, 2000), .inl (0, 15)], [], [(109, 999)], [(none, [])], 0, 0)
/-- LoadsAheadModel feels -/
theorem qk_860 (l : Launch) : ek_ok l tQ iQ kq_860 := ek_good_ok (sp := sQ) (K := []) (SP := []) (HS := []) (N := 0) (fuel := 120) hIQ (fun _ h => absurd h List.not_mem_nil) (by decide +kernel)
def kq_862 : ek := (201, [.inr 86, .inl (0, 1), .inl (0, 2000), .inl (0, 15)], [], [(109, 999)], [(none, [])], 0, 0)
/-- LoadsAheadModel feels -/
theorem qk_862 (l : Launch) : ek_ok l tQ iQ kq_862 := ek_good_ok (sp := sQ) (K := []) (SP := []) (HS := []) (N := 0) (fuel := 120) hIQ (fun _ h => absurd h List.not_mem_nil) (by decide +kernel)
def kq_864 : ek := (173, [.inr 86, .inl (0, 20), .inl (0, 0)], [], [], [(some (.inl (0, 19)), []), (some (.inl ((-1), (-1))), [])], 1, 22)
/-- LoadsAheadModel giverOf -/
theorem qk_864 (l : Launch) : ek_ok l tQ iQ kq_864 := ek_good_ok (sp := sQ) (K := [kq_601]) (SP := []) (HS := [((4, [some (.inr 86, none), some (.inl (0, 20), none), some (.inl (0, 0), none), some (.inl ((-1), 19), none)], [], [], []), [(0, (0, 0, 0), 0), (2, (1, 3, 0), (-1)), (0, (0, 0, 0), 0)])]) (N := 3) (fuel := 28) hIQ (List.forall_mem_cons.mpr ⟨qk_601 l, fun _ h => absurd h List.not_mem_nil⟩) (by decide +kernel)
def kq_865 : ek := (180, [.inr 86, .inl (0, 20), .inl (0, 0)], [], [], [(some (.inl ((-2147483648), 2147483647)), [])], 2, 45)
/-- LoadsAheadModel readBy -/
theorem qk_865 (l : Launch) : ek_ok l tQ iQ kq_865 := ek_good_ok (sp := sQ) (K := [kq_864]) (SP := []) (HS := []) (N := 0) (fuel := 36) hIQ (List.forall_mem_cons.mpr ⟨qk_864 l, fun _ h => absurd h List.not_mem_nil⟩) (by decide +kernel)
def kq_866 : ek := (173, [.inr 86, .inl (0, 20), .inl (0, 1)], [], [], [(some (.inl (0, 19)), []), (some (.inl ((-1), (-1))), [])], 1, 22)
/-- LoadsAheadModel giverOf -/
theorem qk_866 (l : Launch) : ek_ok l tQ iQ kq_866 := ek_good_ok (sp := sQ) (K := [kq_599]) (SP := []) (HS := [((4, [some (.inr 86, none), some (.inl (0, 20), none), some (.inl (0, 1), none), some (.inl ((-1), 19), none)], [], [], []), [(0, (0, 0, 0), 0), (2, (1, 3, 0), (-1)), (0, (0, 0, 0), 0)])]) (N := 3) (fuel := 28) hIQ (List.forall_mem_cons.mpr ⟨qk_599 l, fun _ h => absurd h List.not_mem_nil⟩) (by decide +kernel)
def kq_867 : ek := (180, [.inr 86, .inl (0, 20), .inl (0, 1)], [], [], [(some (.inl ((-2147483648), 2147483647)), [])], 2, 45)
/-- LoadsAheadModel readBy -/
theorem qk_867 (l : Launch) : ek_ok l tQ iQ kq_867 := ek_good_ok (sp := sQ) (K := [kq_866]) (SP := []) (HS := []) (N := 0) (fuel := 36) hIQ (List.forall_mem_cons.mpr ⟨qk_866 l, fun _ h => absurd h List.not_mem_nil⟩) (by decide +kernel)
def kq_868 : ek := (173, [.inr 86, .inl (0, 20), .inl (0, 3)], [], [], [(some (.inl (0, 19)), []), (some (.inl ((-1), (-1))), [])], 1, 22)
/-- LoadsAheadModel giverOf -/
theorem qk_868 (l : Launch) : ek_ok l tQ iQ kq_868 := ek_good_ok (sp := sQ) (K := [kq_597]) (SP := []) (HS := [((4, [some (.inr 86, none), some (.inl (0, 20), none), some (.inl (0, 3), none), some (.inl ((-1), 19), none)], [], [], []), [(0, (0, 0, 0), 0), (2, (1, 3, 0), (-1)), (0, (0, 0, 0), 0)])]) (N := 3) (fuel := 28) hIQ (List.forall_mem_cons.mpr ⟨qk_597 l, fun _ h => absurd h List.not_mem_nil⟩) (by decide +kernel)
def kq_869 : ek := (180, [.inr 86, .inl (0, 20), .inl (0, 3)], [], [], [(some (.inl ((-2147483648), 2147483647)), [])], 2, 45)
/-- LoadsAheadModel readBy -/
theorem qk_869 (l : Launch) : ek_ok l tQ iQ kq_869 := ek_good_ok (sp := sQ) (K := [kq_868]) (SP := []) (HS := []) (N := 0) (fuel := 36) hIQ (List.forall_mem_cons.mpr ⟨qk_868 l, fun _ h => absurd h List.not_mem_nil⟩) (by decide +kernel)
def kq_870 : ek := (211, [.inr 86, .inl (0, 0)], [], [], [(some (.inl ((-2147483648), 2147483647)), [])], 0, 0)
/-- LoadsAheadModel toldOf -/
theorem qk_870 (l : Launch) : ek_ok l tQ iQ kq_870 := ek_good_ok (sp := sQ) (K := []) (SP := []) (HS := []) (N := 0) (fuel := 18) hIQ (fun _ h => absurd h List.not_mem_nil) (by decide +kernel)
def kq_871 : ek := (211, [.inr 86, .inl (0, 1)], [], [], [(some (.inl ((-2147483648), 2147483647)), [])], 0, 0)
/-- LoadsAheadModel toldOf -/
theorem qk_871 (l : Launch) : ek_ok l tQ iQ kq_871 := ek_good_ok (sp := sQ) (K := []) (SP := []) (HS := []) (N := 0) (fuel := 18) hIQ (fun _ h => absurd h List.not_mem_nil) (by decide +kernel)
def kq_872 : ek := (211, [.inr 86, .inl (0, 3)], [], [], [(some (.inl ((-2147483648), 2147483647)), [])], 0, 0)
/-- LoadsAheadModel toldOf -/
theorem qk_872 (l : Launch) : ek_ok l tQ iQ kq_872 := ek_good_ok (sp := sQ) (K := []) (SP := []) (HS := []) (N := 0) (fuel := 18) hIQ (fun _ h => absurd h List.not_mem_nil) (by decide +kernel)
def kq_873 : ek := (137, [.inl (5, 2147483647), .inl (1, 1), .inl (4, 4)], [], [], [(some (.inl (0, 0)), [])], 0, 0)
/-- LoadsAheadModel in -/
theorem qk_873 (l : Launch) : ek_ok l tQ iQ kq_873 := ek_good_ok (sp := sQ) (K := []) (SP := []) (HS := []) (N := 0) (fuel := 24) hIQ (fun _ h => absurd h List.not_mem_nil) (by decide +kernel)
def kq_874 : ek := (176, [.inr 86, .inl (5, 2147483647)], [], [], [(some (.inl (0, 0)), [])], 1, 22)
/-- LoadsAheadModel canRun -/
theorem qk_874 (l : Launch) : ek_ok l tQ iQ kq_874 := ek_good_ok (sp := sQ) (K := [kq_873]) (SP := [(3, [(2, [0, 4])])]) (HS := []) (N := 0) (fuel := 22) hIQ (List.forall_mem_cons.mpr ⟨qk_873 l, fun _ h => absurd h List.not_mem_nil⟩) (by decide +kernel)
def kq_875 : ek := (175, [.inr 86, .inl (5, 2147483647)], [], [], [(some (.inl ((-1), (-1))), [])], 2, 43)
/-- LoadsAheadModel run -/
theorem qk_875 (l : Launch) : ek_ok l tQ iQ kq_875 := ek_good_ok (sp := sQ) (K := [kq_874]) (SP := [(2, [(0, [0, 4])])]) (HS := []) (N := 0) (fuel := 20) hIQ (List.forall_mem_cons.mpr ⟨qk_874 l, fun _ h => absurd h List.not_mem_nil⟩) (by decide +kernel)
def kq_876 : ek := (99, [.inr 2, .inl ((-2147483648), 0), .inl ((-2147483648), (-2147483639))], [], [], [(some (.inl ((-1), (-1))), [])], 1, 21)
/-- LoadsAhead tried -/
theorem qk_876 (l : Launch) : ek_ok l tQ iQ kq_876 := ek_good_ok (sp := sQ) (K := [kq_241]) (SP := [(2, [(0, [0, 4])])]) (HS := []) (N := 0) (fuel := 20) hIQ (List.forall_mem_cons.mpr ⟨qk_241 l, fun _ h => absurd h List.not_mem_nil⟩) (by decide +kernel)
def kq_877 : ek := (99, [.inr 2, .inl ((-2147483648), 0), .inl ((-2147483638), (-1))], [], [], [(some (.inl ((-1), (-1))), [])], 1, 21)
/-- LoadsAhead tried -/
theorem qk_877 (l : Launch) : ek_ok l tQ iQ kq_877 := ek_good_ok (sp := sQ) (K := [kq_241]) (SP := [(2, [(0, [0, 4])])]) (HS := []) (N := 0) (fuel := 20) hIQ (List.forall_mem_cons.mpr ⟨qk_241 l, fun _ h => absurd h List.not_mem_nil⟩) (by decide +kernel)
def kq_878 : ek := (99, [.inr 2, .inl ((-2147483648), 0), .inl (0, 5)], [], [], [(some (.inl ((-1), (-1))), [])], 1, 21)
/-- LoadsAhead tried -/
theorem qk_878 (l : Launch) : ek_ok l tQ iQ kq_878 := ek_good_ok (sp := sQ) (K := [kq_241]) (SP := [(2, [(0, [0, 4])])]) (HS := []) (N := 0) (fuel := 20) hIQ (List.forall_mem_cons.mpr ⟨qk_241 l, fun _ h => absurd h List.not_mem_nil⟩) (by decide +kernel)
def kq_879 : ek := (99, [.inr 2, .inl ((-2147483648), 0), .inl (6, 9)], [], [], [(some (.inl ((-1), (-1))), [])], 1, 21)
/-- LoadsAhead tried -/
theorem qk_879 (l : Launch) : ek_ok l tQ iQ kq_879 := ek_good_ok (sp := sQ) (K := [kq_241]) (SP := [(2, [(0, [0, 4])])]) (HS := []) (N := 0) (fuel := 20) hIQ (List.forall_mem_cons.mpr ⟨qk_241 l, fun _ h => absurd h List.not_mem_nil⟩) (by decide +kernel)
def kq_880 : ek := (99, [.inr 2, .inl ((-2147483648), 0), .inl (10, 17)], [], [], [(some (.inl ((-1), (-1))), [])], 1, 21)
/-- LoadsAhead tried -/
theorem qk_880 (l : Launch) : ek_ok l tQ iQ kq_880 := ek_good_ok (sp := sQ) (K := [kq_241]) (SP := [(2, [(0, [0, 4])])]) (HS := []) (N := 0) (fuel := 20) hIQ (List.forall_mem_cons.mpr ⟨qk_241 l, fun _ h => absurd h List.not_mem_nil⟩) (by decide +kernel)
def kq_881 : ek := (99, [.inr 2, .inl ((-2147483648), 0), .inl (18, 99)], [], [], [(some (.inl ((-1), (-1))), [])], 1, 21)
/-- LoadsAhead tried -/
theorem qk_881 (l : Launch) : ek_ok l tQ iQ kq_881 := ek_good_ok (sp := sQ) (K := [kq_241]) (SP := [(2, [(0, [0, 4])])]) (HS := []) (N := 0) (fuel := 20) hIQ (List.forall_mem_cons.mpr ⟨qk_241 l, fun _ h => absurd h List.not_mem_nil⟩) (by decide +kernel)
def kq_882 : ek := (99, [.inr 2, .inl ((-2147483648), 0), .inl (100, 163)], [], [], [(some (.inl ((-1), (-1))), [])], 1, 21)
/-- LoadsAhead tried -/
theorem qk_882 (l : Launch) : ek_ok l tQ iQ kq_882 := ek_good_ok (sp := sQ) (K := [kq_241]) (SP := [(2, [(0, [0, 4])])]) (HS := []) (N := 0) (fuel := 20) hIQ (List.forall_mem_cons.mpr ⟨qk_241 l, fun _ h => absurd h List.not_mem_nil⟩) (by decide +kernel)
def kq_883 : ek := (99, [.inr 2, .inl ((-2147483648), 0), .inl (164, 2147483647)], [], [], [(some (.inl ((-1), (-1))), [])], 1, 21)
/-- LoadsAhead tried -/
theorem qk_883 (l : Launch) : ek_ok l tQ iQ kq_883 := ek_good_ok (sp := sQ) (K := [kq_241]) (SP := [(2, [(0, [0, 4])])]) (HS := []) (N := 0) (fuel := 20) hIQ (List.forall_mem_cons.mpr ⟨qk_241 l, fun _ h => absurd h List.not_mem_nil⟩) (by decide +kernel)
def kq_884 : ek := (100, [.inl ((-2147483648), (-2147483639))], [], [], [(some (.inl (0, 0)), [])], 0, 0)
/-- LoadsAhead isTotal -/
theorem qk_884 (l : Launch) : ek_ok l tQ iQ kq_884 := ek_good_ok (sp := sQ) (K := []) (SP := []) (HS := []) (N := 0) (fuel := 16) hIQ (fun _ h => absurd h List.not_mem_nil) (by decide +kernel)
def kq_885 : ek := (101, [.inl ((-2147483648), (-2147483639))], [], [], [(some (.inl (0, 0)), [])], 0, 0)
/-- LoadsAhead isByte -/
theorem qk_885 (l : Launch) : ek_ok l tQ iQ kq_885 := ek_good_ok (sp := sQ) (K := []) (SP := []) (HS := []) (N := 0) (fuel := 18) hIQ (fun _ h => absurd h List.not_mem_nil) (by decide +kernel)
def kq_886 : ek := (52, [.inl (2147483638, 2147483647)], [], [], [(some (.inl (0, 0)), [])], 0, 0)
/-- LoadsAhead isCell -/
theorem qk_886 (l : Launch) : ek_ok l tQ iQ kq_886 := ek_good_ok (sp := sQ) (K := []) (SP := []) (HS := []) (N := 0) (fuel := 22) hIQ (fun _ h => absurd h List.not_mem_nil) (by decide +kernel)
def kq_887 : ek := (99, [.inr 2, .inl (1, 4), .inl ((-2147483648), (-2147483639))], [], [], [(some (.inl ((-1), (-1))), [])], 1, 21)
/-- LoadsAhead tried -/
theorem qk_887 (l : Launch) : ek_ok l tQ iQ kq_887 := ek_good_ok (sp := sQ) (K := [kq_243, kq_884, kq_886, kq_885]) (SP := [(2, [(0, [0, 4])]), (9, [(0, [(-1), 5])]), (19, [(0, [(-1), 7])]), (26, [(0, [99, 163])])]) (HS := []) (N := 0) (fuel := 42) hIQ (List.forall_mem_cons.mpr ⟨qk_243 l, List.forall_mem_cons.mpr ⟨qk_884 l, List.forall_mem_cons.mpr ⟨qk_886 l, List.forall_mem_cons.mpr ⟨qk_885 l, fun _ h => absurd h List.not_mem_nil⟩⟩⟩⟩) (by decide +kernel)
def kq_888 : ek := (100, [.inl ((-2147483638), (-1))], [], [], [(some (.inl (0, 0)), [])], 0, 0)
/-- LoadsAhead isTotal -/
theorem qk_888 (l : Launch) : ek_ok l tQ iQ kq_888 := ek_good_ok (sp := sQ) (K := []) (SP := []) (HS := []) (N := 0) (fuel := 16) hIQ (fun _ h => absurd h List.not_mem_nil) (by decide +kernel)
def kq_889 : ek := (101, [.inl ((-2147483638), (-1))], [], [], [(some (.inl (0, 0)), [])], 0, 0)
/-- LoadsAhead isByte -/
theorem qk_889 (l : Launch) : ek_ok l tQ iQ kq_889 := ek_good_ok (sp := sQ) (K := []) (SP := []) (HS := []) (N := 0) (fuel := 18) hIQ (fun _ h => absurd h List.not_mem_nil) (by decide +kernel)
def kq_890 : ek := (52, [.inl ((-2147483648), (-11))], [], [], [(some (.inl (0, 0)), [])], 0, 0)
/-- LoadsAhead isCell -/
theorem qk_890 (l : Launch) : ek_ok l tQ iQ kq_890 := ek_good_ok (sp := sQ) (K := []) (SP := []) (HS := []) (N := 0) (fuel := 16) hIQ (fun _ h => absurd h List.not_mem_nil) (by decide +kernel)
def kq_891 : ek := (99, [.inr 2, .inl (1, 4), .inl ((-2147483638), (-1))], [], [], [(some (.inl ((-1), (-1))), [])], 1, 21)
/-- LoadsAhead tried -/
theorem qk_891 (l : Launch) : ek_ok l tQ iQ kq_891 := ek_good_ok (sp := sQ) (K := [kq_243, kq_890, kq_889, kq_888]) (SP := [(2, [(0, [0, 4])]), (9, [(0, [(-1), 5])]), (19, [(0, [(-1), 7])]), (26, [(0, [99, 163])])]) (HS := []) (N := 0) (fuel := 42) hIQ (List.forall_mem_cons.mpr ⟨qk_243 l, List.forall_mem_cons.mpr ⟨qk_890 l, List.forall_mem_cons.mpr ⟨qk_889 l, List.forall_mem_cons.mpr ⟨qk_888 l, fun _ h => absurd h List.not_mem_nil⟩⟩⟩⟩) (by decide +kernel)
def kq_892 : ek := (100, [.inl (0, 5)], [], [], [(some (.inl (1, 1)), [])], 0, 0)
/-- LoadsAhead isTotal -/
theorem qk_892 (l : Launch) : ek_ok l tQ iQ kq_892 := ek_good_ok (sp := sQ) (K := []) (SP := []) (HS := []) (N := 0) (fuel := 24) hIQ (fun _ h => absurd h List.not_mem_nil) (by decide +kernel)
def kq_893 : ek := (101, [.inl (0, 5)], [], [], [(some (.inl (0, 0)), [])], 0, 0)
/-- LoadsAhead isByte -/
theorem qk_893 (l : Launch) : ek_ok l tQ iQ kq_893 := ek_good_ok (sp := sQ) (K := []) (SP := []) (HS := []) (N := 0) (fuel := 18) hIQ (fun _ h => absurd h List.not_mem_nil) (by decide +kernel)
def kq_894 : ek := (52, [.inl ((-10), (-5))], [], [], [(some (.inl (0, 0)), [])], 0, 0)
/-- LoadsAhead isCell -/
theorem qk_894 (l : Launch) : ek_ok l tQ iQ kq_894 := ek_good_ok (sp := sQ) (K := []) (SP := []) (HS := []) (N := 0) (fuel := 16) hIQ (fun _ h => absurd h List.not_mem_nil) (by decide +kernel)
def kq_896 : ek := (100, [.inl (6, 9)], [], [], [(some (.inl (0, 0)), [])], 0, 0)
/-- LoadsAhead isTotal -/
theorem qk_896 (l : Launch) : ek_ok l tQ iQ kq_896 := ek_good_ok (sp := sQ) (K := []) (SP := []) (HS := []) (N := 0) (fuel := 22) hIQ (fun _ h => absurd h List.not_mem_nil) (by decide +kernel)
def kq_897 : ek := (101, [.inl (6, 9)], [], [], [(some (.inl (0, 0)), [])], 0, 0)
/-- LoadsAhead isByte -/
theorem qk_897 (l : Launch) : ek_ok l tQ iQ kq_897 := ek_good_ok (sp := sQ) (K := []) (SP := []) (HS := []) (N := 0) (fuel := 18) hIQ (fun _ h => absurd h List.not_mem_nil) (by decide +kernel)
def kq_898 : ek := (52, [.inl ((-4), (-1))], [], [], [(some (.inl (0, 0)), [])], 0, 0)
/-- LoadsAhead isCell -/
theorem qk_898 (l : Launch) : ek_ok l tQ iQ kq_898 := ek_good_ok (sp := sQ) (K := []) (SP := []) (HS := []) (N := 0) (fuel := 16) hIQ (fun _ h => absurd h List.not_mem_nil) (by decide +kernel)
def kq_899 : ek := (99, [.inr 2, .inl (1, 4), .inl (6, 9)], [], [], [(some (.inl ((-1), (-1))), [])], 1, 21)
/-- LoadsAhead tried -/
theorem qk_899 (l : Launch) : ek_ok l tQ iQ kq_899 := ek_good_ok (sp := sQ) (K := [kq_896, kq_897, kq_898, kq_243]) (SP := [(2, [(0, [0, 4])]), (9, [(0, [(-1), 5])]), (19, [(0, [(-1), 7])]), (26, [(0, [99, 163])])]) (HS := []) (N := 0) (fuel := 42) hIQ (List.forall_mem_cons.mpr ⟨qk_896 l, List.forall_mem_cons.mpr ⟨qk_897 l, List.forall_mem_cons.mpr ⟨qk_898 l, List.forall_mem_cons.mpr ⟨qk_243 l, fun _ h => absurd h List.not_mem_nil⟩⟩⟩⟩) (by decide +kernel)
def kq_900 : ek := (100, [.inl (10, 17)], [], [], [(some (.inl (0, 0)), [])], 0, 0)
/-- LoadsAhead isTotal -/
theorem qk_900 (l : Launch) : ek_ok l tQ iQ kq_900 := ek_good_ok (sp := sQ) (K := []) (SP := []) (HS := []) (N := 0) (fuel := 22) hIQ (fun _ h => absurd h List.not_mem_nil) (by decide +kernel)
def kq_901 : ek := (101, [.inl (10, 17)], [], [], [(some (.inl (0, 0)), [])], 0, 0)
/-- LoadsAhead isByte -/
theorem qk_901 (l : Launch) : ek_ok l tQ iQ kq_901 := ek_good_ok (sp := sQ) (K := []) (SP := []) (HS := []) (N := 0) (fuel := 18) hIQ (fun _ h => absurd h List.not_mem_nil) (by decide +kernel)
def kq_903 : ek := (100, [.inl (18, 99)], [], [], [(some (.inl (0, 0)), [])], 0, 0)
/-- LoadsAhead isTotal -/
theorem qk_903 (l : Launch) : ek_ok l tQ iQ kq_903 := ek_good_ok (sp := sQ) (K := []) (SP := []) (HS := []) (N := 0) (fuel := 22) hIQ (fun _ h => absurd h List.not_mem_nil) (by decide +kernel)
def kq_904 : ek := (101, [.inl (18, 99)], [], [], [(some (.inl (0, 0)), [])], 0, 0)
/-- LoadsAhead isByte -/
theorem qk_904 (l : Launch) : ek_ok l tQ iQ kq_904 := ek_good_ok (sp := sQ) (K := []) (SP := []) (HS := []) (N := 0) (fuel := 18) hIQ (fun _ h => absurd h List.not_mem_nil) (by decide +kernel)
def kq_905 : ek := (52, [.inl (8, 89)], [], [], [(some (.inl (0, 0)), [])], 0, 0)
/-- LoadsAhead isCell -/
theorem qk_905 (l : Launch) : ek_ok l tQ iQ kq_905 := ek_good_ok (sp := sQ) (K := []) (SP := []) (HS := []) (N := 0) (fuel := 22) hIQ (fun _ h => absurd h List.not_mem_nil) (by decide +kernel)
def kq_906 : ek := (99, [.inr 2, .inl (1, 4), .inl (18, 99)], [], [], [(some (.inl ((-1), (-1))), [])], 1, 21)
/-- LoadsAhead tried -/
theorem qk_906 (l : Launch) : ek_ok l tQ iQ kq_906 := ek_good_ok (sp := sQ) (K := [kq_243, kq_905, kq_904, kq_903]) (SP := [(2, [(0, [0, 4])]), (9, [(0, [(-1), 5])]), (19, [(0, [(-1), 7])]), (26, [(0, [99, 163])])]) (HS := []) (N := 0) (fuel := 42) hIQ (List.forall_mem_cons.mpr ⟨qk_243 l, List.forall_mem_cons.mpr ⟨qk_905 l, List.forall_mem_cons.mpr ⟨qk_904 l, List.forall_mem_cons.mpr ⟨qk_903 l, fun _ h => absurd h List.not_mem_nil⟩⟩⟩⟩) (by decide +kernel)
def kq_907 : ek := (100, [.inl (100, 163)], [], [], [(some (.inl (0, 0)), [])], 0, 0)
/-- LoadsAhead isTotal -/
theorem qk_907 (l : Launch) : ek_ok l tQ iQ kq_907 := ek_good_ok (sp := sQ) (K := []) (SP := []) (HS := []) (N := 0) (fuel := 22) hIQ (fun _ h => absurd h List.not_mem_nil) (by decide +kernel)
def kq_908 : ek := (101, [.inl (100, 163)], [], [], [(some (.inl (1, 1)), [])], 0, 0)
/-- LoadsAhead isByte -/
theorem qk_908 (l : Launch) : ek_ok l tQ iQ kq_908 := ek_good_ok (sp := sQ) (K := []) (SP := []) (HS := []) (N := 0) (fuel := 26) hIQ (fun _ h => absurd h List.not_mem_nil) (by decide +kernel)
def kq_909 : ek := (52, [.inl (90, 153)], [], [], [(some (.inl (0, 0)), [])], 0, 0)
/-- LoadsAhead isCell -/
theorem qk_909 (l : Launch) : ek_ok l tQ iQ kq_909 := ek_good_ok (sp := sQ) (K := []) (SP := []) (HS := []) (N := 0) (fuel := 22) hIQ (fun _ h => absurd h List.not_mem_nil) (by decide +kernel)
def kq_911 : ek := (100, [.inl (164, 2147483647)], [], [], [(some (.inl (0, 0)), [])], 0, 0)
/-- LoadsAhead isTotal -/
theorem qk_911 (l : Launch) : ek_ok l tQ iQ kq_911 := ek_good_ok (sp := sQ) (K := []) (SP := []) (HS := []) (N := 0) (fuel := 22) hIQ (fun _ h => absurd h List.not_mem_nil) (by decide +kernel)
def kq_912 : ek := (101, [.inl (164, 2147483647)], [], [], [(some (.inl (0, 0)), [])], 0, 0)
/-- LoadsAhead isByte -/
theorem qk_912 (l : Launch) : ek_ok l tQ iQ kq_912 := ek_good_ok (sp := sQ) (K := []) (SP := []) (HS := []) (N := 0) (fuel := 24) hIQ (fun _ h => absurd h List.not_mem_nil) (by decide +kernel)
def kq_913 : ek := (52, [.inl (154, 2147483637)], [], [], [(some (.inl (0, 0)), [])], 0, 0)
/-- LoadsAhead isCell -/
theorem qk_913 (l : Launch) : ek_ok l tQ iQ kq_913 := ek_good_ok (sp := sQ) (K := []) (SP := []) (HS := []) (N := 0) (fuel := 22) hIQ (fun _ h => absurd h List.not_mem_nil) (by decide +kernel)
def kq_914 : ek := (99, [.inr 2, .inl (1, 4), .inl (164, 2147483647)], [], [], [(some (.inl ((-1), (-1))), [])], 1, 21)
/-- LoadsAhead tried -/
theorem qk_914 (l : Launch) : ek_ok l tQ iQ kq_914 := ek_good_ok (sp := sQ) (K := [kq_243, kq_912, kq_913, kq_911]) (SP := [(2, [(0, [0, 4])]), (9, [(0, [(-1), 5])]), (19, [(0, [(-1), 7])]), (26, [(0, [99, 163])])]) (HS := []) (N := 0) (fuel := 42) hIQ (List.forall_mem_cons.mpr ⟨qk_243 l, List.forall_mem_cons.mpr ⟨qk_912 l, List.forall_mem_cons.mpr ⟨qk_913 l, List.forall_mem_cons.mpr ⟨qk_911 l, fun _ h => absurd h List.not_mem_nil⟩⟩⟩⟩) (by decide +kernel)
def kq_915 : ek := (99, [.inr 2, .inl (5, 2147483647), .inl ((-2147483648), (-2147483639))], [], [], [(some (.inl ((-1), (-1))), [])], 1, 21)
/-- LoadsAhead tried -/
theorem qk_915 (l : Launch) : ek_ok l tQ iQ kq_915 := ek_good_ok (sp := sQ) (K := [kq_420]) (SP := [(2, [(0, [0, 4])])]) (HS := []) (N := 0) (fuel := 20) hIQ (List.forall_mem_cons.mpr ⟨qk_420 l, fun _ h => absurd h List.not_mem_nil⟩) (by decide +kernel)
def kq_916 : ek := (99, [.inr 2, .inl (5, 2147483647), .inl ((-2147483638), (-1))], [], [], [(some (.inl ((-1), (-1))), [])], 1, 21)
/-- LoadsAhead tried -/
theorem qk_916 (l : Launch) : ek_ok l tQ iQ kq_916 := ek_good_ok (sp := sQ) (K := [kq_420]) (SP := [(2, [(0, [0, 4])])]) (HS := []) (N := 0) (fuel := 20) hIQ (List.forall_mem_cons.mpr ⟨qk_420 l, fun _ h => absurd h List.not_mem_nil⟩) (by decide +kernel)
def kq_917 : ek := (99, [.inr 2, .inl (5, 2147483647), .inl (0, 5)], [], [], [(some (.inl ((-1), (-1))), [])], 1, 21)
/-- LoadsAhead tried -/
theorem qk_917 (l : Launch) : ek_ok l tQ iQ kq_917 := ek_good_ok (sp := sQ) (K := [kq_420]) (SP := [(2, [(0, [0, 4])])]) (HS := []) (N := 0) (fuel := 20) hIQ (List.forall_mem_cons.mpr ⟨qk_420 l, fun _ h => absurd h List.not_mem_nil⟩) (by decide +kernel)
def kq_918 : ek := (99, [.inr 2, .inl (5, 2147483647), .inl (6, 9)], [], [], [(some (.inl ((-1), (-1))), [])], 1, 21)
/-- LoadsAhead tried -/
theorem qk_918 (l : Launch) : ek_ok l tQ iQ kq_918 := ek_good_ok (sp := sQ) (K := [kq_420]) (SP := [(2, [(0, [0, 4])])]) (HS := []) (N := 0) (fuel := 20) hIQ (List.forall_mem_cons.mpr ⟨qk_420 l, fun _ h => absurd h List.not_mem_nil⟩) (by decide +kernel)
def kq_919 : ek := (99, [.inr 2, .inl (5, 2147483647), .inl (10, 17)], [], [], [(some (.inl ((-1), (-1))), [])], 1, 21)
/-- LoadsAhead tried -/
theorem qk_919 (l : Launch) : ek_ok l tQ iQ kq_919 := ek_good_ok (sp := sQ) (K := [kq_420]) (SP := [(2, [(0, [0, 4])])]) (HS := []) (N := 0) (fuel := 20) hIQ (List.forall_mem_cons.mpr ⟨qk_420 l, fun _ h => absurd h List.not_mem_nil⟩) (by decide +kernel)
def kq_920 : ek := (99, [.inr 2, .inl (5, 2147483647), .inl (18, 99)], [], [], [(some (.inl ((-1), (-1))), [])], 1, 21)
/-- LoadsAhead tried -/
theorem qk_920 (l : Launch) : ek_ok l tQ iQ kq_920 := ek_good_ok (sp := sQ) (K := [kq_420]) (SP := [(2, [(0, [0, 4])])]) (HS := []) (N := 0) (fuel := 20) hIQ (List.forall_mem_cons.mpr ⟨qk_420 l, fun _ h => absurd h List.not_mem_nil⟩) (by decide +kernel)
def kq_921 : ek := (99, [.inr 2, .inl (5, 2147483647), .inl (100, 163)], [], [], [(some (.inl ((-1), (-1))), [])], 1, 21)
/-- LoadsAhead tried -/
theorem qk_921 (l : Launch) : ek_ok l tQ iQ kq_921 := ek_good_ok (sp := sQ) (K := [kq_420]) (SP := [(2, [(0, [0, 4])])]) (HS := []) (N := 0) (fuel := 20) hIQ (List.forall_mem_cons.mpr ⟨qk_420 l, fun _ h => absurd h List.not_mem_nil⟩) (by decide +kernel)
def kq_922 : ek := (99, [.inr 2, .inl (5, 2147483647), .inl (164, 2147483647)], [], [], [(some (.inl ((-1), (-1))), [])], 1, 21)
/-- LoadsAhead tried -/
theorem qk_922 (l : Launch) : ek_ok l tQ iQ kq_922 := ek_good_ok (sp := sQ) (K := [kq_420]) (SP := [(2, [(0, [0, 4])])]) (HS := []) (N := 0) (fuel := 20) hIQ (List.forall_mem_cons.mpr ⟨qk_420 l, fun _ h => absurd h List.not_mem_nil⟩) (by decide +kernel)
def kq_923 : ek := (137, [.inl ((-2147483648), (-2147483639)), .inl (0, 0), .inl (5, 5)], [], [], [(some (.inl (0, 0)), [])], 0, 0)
/-- LoadsAheadModel in -/
theorem qk_923 (l : Launch) : ek_ok l tQ iQ kq_923 := ek_good_ok (sp := sQ) (K := []) (SP := []) (HS := []) (N := 0) (fuel := 18) hIQ (fun _ h => absurd h List.not_mem_nil) (by decide +kernel)
def kq_924 : ek := (137, [.inl ((-2147483648), (-2147483639)), .inl (10, 10), .inl (17, 17)], [], [], [(some (.inl (0, 0)), [])], 0, 0)
/-- LoadsAheadModel in -/
theorem qk_924 (l : Launch) : ek_ok l tQ iQ kq_924 := ek_good_ok (sp := sQ) (K := []) (SP := []) (HS := []) (N := 0) (fuel := 18) hIQ (fun _ h => absurd h List.not_mem_nil) (by decide +kernel)
def kq_925 : ek := (137, [.inl ((-2147483648), (-2147483639)), .inl (100, 100), .inl (163, 163)], [], [], [(some (.inl (0, 0)), [])], 0, 0)
/-- LoadsAheadModel in -/
theorem qk_925 (l : Launch) : ek_ok l tQ iQ kq_925 := ek_good_ok (sp := sQ) (K := []) (SP := []) (HS := []) (N := 0) (fuel := 18) hIQ (fun _ h => absurd h List.not_mem_nil) (by decide +kernel)
def kq_926 : ek := (212, [.inr 86, .inl ((-2147483648), 0), .inl ((-2147483648), (-2147483639))], [], [], [(some (.inl ((-1), (-1))), [])], 2, 43)
/-- LoadsAheadModel tried -/
theorem qk_926 (l : Launch) : ek_ok l tQ iQ kq_926 := ek_good_ok (sp := sQ) (K := [kq_925, kq_924, kq_923, kq_423]) (SP := [(3, [(2, [(-1), 5])]), (14, [(2, [9, 17])]), (26, [(2, [99, 163])]), (40, [(0, [0, 4])])]) (HS := []) (N := 0) (fuel := 54) hIQ (List.forall_mem_cons.mpr ⟨qk_925 l, List.forall_mem_cons.mpr ⟨qk_924 l, List.forall_mem_cons.mpr ⟨qk_923 l, List.forall_mem_cons.mpr ⟨qk_423 l, fun _ h => absurd h List.not_mem_nil⟩⟩⟩⟩) (by decide +kernel)
def kq_927 : ek := (137, [.inl ((-2147483638), (-1)), .inl (0, 0), .inl (5, 5)], [], [], [(some (.inl (0, 0)), [])], 0, 0)
/-- LoadsAheadModel in -/
theorem qk_927 (l : Launch) : ek_ok l tQ iQ kq_927 := ek_good_ok (sp := sQ) (K := []) (SP := []) (HS := []) (N := 0) (fuel := 18) hIQ (fun _ h => absurd h List.not_mem_nil) (by decide +kernel)
def kq_928 : ek := (137, [.inl ((-2147483638), (-1)), .inl (10, 10), .inl (17, 17)], [], [], [(some (.inl (0, 0)), [])], 0, 0)
/-- LoadsAheadModel in -/
theorem qk_928 (l : Launch) : ek_ok l tQ iQ kq_928 := ek_good_ok (sp := sQ) (K := []) (SP := []) (HS := []) (N := 0) (fuel := 18) hIQ (fun _ h => absurd h List.not_mem_nil) (by decide +kernel)
def kq_929 : ek := (137, [.inl ((-2147483638), (-1)), .inl (100, 100), .inl (163, 163)], [], [], [(some (.inl (0, 0)), [])], 0, 0)
/-- LoadsAheadModel in -/
theorem qk_929 (l : Launch) : ek_ok l tQ iQ kq_929 := ek_good_ok (sp := sQ) (K := []) (SP := []) (HS := []) (N := 0) (fuel := 18) hIQ (fun _ h => absurd h List.not_mem_nil) (by decide +kernel)
def kq_930 : ek := (212, [.inr 86, .inl ((-2147483648), 0), .inl ((-2147483638), (-1))], [], [], [(some (.inl ((-1), (-1))), [])], 2, 43)
/-- LoadsAheadModel tried -/
theorem qk_930 (l : Launch) : ek_ok l tQ iQ kq_930 := ek_good_ok (sp := sQ) (K := [kq_928, kq_929, kq_927, kq_423]) (SP := [(3, [(2, [(-1), 5])]), (14, [(2, [9, 17])]), (26, [(2, [99, 163])]), (40, [(0, [0, 4])])]) (HS := []) (N := 0) (fuel := 54) hIQ (List.forall_mem_cons.mpr ⟨qk_928 l, List.forall_mem_cons.mpr ⟨qk_929 l, List.forall_mem_cons.mpr ⟨qk_927 l, List.forall_mem_cons.mpr ⟨qk_423 l, fun _ h => absurd h List.not_mem_nil⟩⟩⟩⟩) (by decide +kernel)
def kq_931 : ek := (137, [.inl (0, 5), .inl (0, 0), .inl (5, 5)], [], [], [(some (.inl (1, 1)), [])], 0, 0)
/-- LoadsAheadModel in -/
theorem qk_931 (l : Launch) : ek_ok l tQ iQ kq_931 := ek_good_ok (sp := sQ) (K := []) (SP := []) (HS := []) (N := 0) (fuel := 26) hIQ (fun _ h => absurd h List.not_mem_nil) (by decide +kernel)
def kq_932 : ek := (212, [.inr 86, .inl ((-2147483648), 0), .inl (0, 5)], [], [], [(some (.inl ((-1), (-1))), [])], 2, 43)
/-- LoadsAheadModel tried -/
theorem qk_932 (l : Launch) : ek_ok l tQ iQ kq_932 := ek_good_ok (sp := sQ) (K := [kq_931, kq_423]) (SP := [(3, [(2, [(-1), 5])]), (40, [(0, [0, 4])])]) (HS := []) (N := 0) (fuel := 36) hIQ (List.forall_mem_cons.mpr ⟨qk_931 l, List.forall_mem_cons.mpr ⟨qk_423 l, fun _ h => absurd h List.not_mem_nil⟩⟩) (by decide +kernel)
def kq_933 : ek := (137, [.inl (6, 9), .inl (0, 0), .inl (5, 5)], [], [], [(some (.inl (0, 0)), [])], 0, 0)
/-- LoadsAheadModel in -/
theorem qk_933 (l : Launch) : ek_ok l tQ iQ kq_933 := ek_good_ok (sp := sQ) (K := []) (SP := []) (HS := []) (N := 0) (fuel := 24) hIQ (fun _ h => absurd h List.not_mem_nil) (by decide +kernel)
def kq_934 : ek := (137, [.inl (6, 9), .inl (10, 10), .inl (17, 17)], [], [], [(some (.inl (0, 0)), [])], 0, 0)
/-- LoadsAheadModel in -/
theorem qk_934 (l : Launch) : ek_ok l tQ iQ kq_934 := ek_good_ok (sp := sQ) (K := []) (SP := []) (HS := []) (N := 0) (fuel := 18) hIQ (fun _ h => absurd h List.not_mem_nil) (by decide +kernel)
def kq_935 : ek := (137, [.inl (6, 9), .inl (100, 100), .inl (163, 163)], [], [], [(some (.inl (0, 0)), [])], 0, 0)
/-- LoadsAheadModel in -/
theorem qk_935 (l : Launch) : ek_ok l tQ iQ kq_935 := ek_good_ok (sp := sQ) (K := []) (SP := []) (HS := []) (N := 0) (fuel := 18) hIQ (fun _ h => absurd h List.not_mem_nil) (by decide +kernel)
def kq_936 : ek := (212, [.inr 86, .inl ((-2147483648), 0), .inl (6, 9)], [], [], [(some (.inl ((-1), (-1))), [])], 2, 43)
/-- LoadsAheadModel tried -/
theorem qk_936 (l : Launch) : ek_ok l tQ iQ kq_936 := ek_good_ok (sp := sQ) (K := [kq_933, kq_935, kq_934, kq_423]) (SP := [(3, [(2, [(-1), 5])]), (14, [(2, [9, 17])]), (26, [(2, [99, 163])]), (40, [(0, [0, 4])])]) (HS := []) (N := 0) (fuel := 54) hIQ (List.forall_mem_cons.mpr ⟨qk_933 l, List.forall_mem_cons.mpr ⟨qk_935 l, List.forall_mem_cons.mpr ⟨qk_934 l, List.forall_mem_cons.mpr ⟨qk_423 l, fun _ h => absurd h List.not_mem_nil⟩⟩⟩⟩) (by decide +kernel)
