def kq_871 : ek := (99, [.inr 2, .inl ((-2147483648), 0), .inl (18, 99)], [], [], [(some (.inl ((-1), (-1))), [])], 1, 21)
/-- LoadsAhead tried -/
theorem qk_871 (l : Launch) : ek_ok l tQ iQ kq_871 := ek_good_ok (sp := sQ) (K := [kq_238]) (SP := [(2, [(0, [0, 4])])]) (HS := []) (N := 0) (fuel := 20) hIQ (List.forall_mem_cons.mpr ⟨qk_238 l, fun _ h => absurd h List.not_mem_nil⟩) (by decide +kernel)
def kq_872 : ek := (99, [.inr 2, .inl ((-2147483648), 0), .inl (100, 163)], [], [], [(some (.inl ((-1), (-1))), [])], 1, 21)
/-- LoadsAhead tried -/
theorem qk_872 (l : Launch) : ek_ok l tQ iQ kq_872 := ek_good_ok (sp := sQ) (K := [kq_238]) (SP := [(2, [(0, [0, 4])])]) (HS := []) (N := 0) (fuel := 20) hIQ (List.forall_mem_cons.mpr ⟨qk_238 l, fun _ h => absurd h List.not_mem_nil⟩) (by decide +kernel)
def kq_873 : ek := (99, [.inr 2, .inl ((-2147483648), 0), .inl (164, 2147483647)], [], [], [(some (.inl ((-1), (-1))), [])], 1, 21)
/-- LoadsAhead tried -/
theorem qk_873 (l : Launch) : ek_ok l tQ iQ kq_873 := ek_good_ok (sp := sQ) (K := [kq_238]) (SP := [(2, [(0, [0, 4])])]) (HS := []) (N := 0) (fuel := 20) hIQ (List.forall_mem_cons.mpr ⟨qk_238 l, fun _ h => absurd h List.not_mem_nil⟩) (by decide +kernel)
def kq_874 : ek := (100, [.inl ((-2147483648), (-2147483639))], [], [], [(some (.inl (0, 0)), [])], 0, 0)
/-- LoadsAhead isTotal -/
theorem qk_874 (l : Launch) : ek_ok l tQ iQ kq_874 := ek_good_ok (sp := sQ) (K := []) (SP := []) (HS := []) (N := 0) (fuel := 16) hIQ (fun _ h => absurd h List.not_mem_nil) (by decide +kernel)
def kq_875 : ek := (101, [.inl ((-2147483648), (-2147483639))], [], [], [(some (.inl (0, 0)), [])], 0, 0)
/-- LoadsAhead isByte -/
theorem qk_875 (l : Launch) : ek_ok l tQ iQ kq_875 := ek_good_ok (sp := sQ) (K := []) (SP := []) (HS := []) (N := 0) (fuel := 18) hIQ (fun _ h => absurd h List.not_mem_nil) (by decide +kernel)
def kq_876 : ek := (52, [.inl (2147483638, 2147483647)], [], [], [(some (.inl (0, 0)), [])], 0, 0)
/-- LoadsAhead isCell -/
theorem qk_876 (l : Launch) : ek_ok l tQ iQ kq_876 := ek_good_ok (sp := sQ) (K := []) (SP := []) (HS := []) (N := 0) (fuel := 22) hIQ (fun _ h => absurd h List.not_mem_nil) (by decide +kernel)
def kq_877 : ek := (99, [.inr 2, .inl (1, 4), .inl ((-2147483648), (-2147483639))], [], [], [(some (.inl ((-1), (-1))), [])], 1, 21)
/-- LoadsAhead tried -/
theorem qk_877 (l : Launch) : ek_ok l tQ iQ kq_877 := ek_good_ok (sp := sQ) (K := [kq_240, kq_875, kq_876, kq_874]) (SP := [(2, [(0, [0, 4])]), (9, [(0, [(-1), 5])]), (19, [(0, [(-1), 7])]), (26, [(0, [99, 163])])]) (HS := []) (N := 0) (fuel := 42) hIQ (List.forall_mem_cons.mpr ⟨qk_240 l, List.forall_mem_cons.mpr ⟨qk_875 l, List.forall_mem_cons.mpr ⟨qk_876 l, List.forall_mem_cons.mpr ⟨qk_874 l, fun _ h => absurd h List.not_mem_nil⟩⟩⟩⟩) (by decide +kernel)
def kq_878 : ek := (100, [.inl ((-2147483638), (-1))], [], [], [(some (.inl (0, 0)), [])], 0, 0)
/-- LoadsAhead isTotal -/
theorem qk_878 (l : Launch) : ek_ok l tQ iQ kq_878 := ek_good_ok (sp := sQ) (K := []) (SP := []) (HS := []) (N := 0) (fuel := 16) hIQ (fun _ h => absurd h List.not_mem_nil) (by decide +kernel)
def kq_879 : ek := (101, [.inl ((-2147483638), (-1))], [], [], [(some (.inl (0, 0)), [])], 0, 0)
/-- LoadsAhead isByte -/
theorem qk_879 (l : Launch) : ek_ok l tQ iQ kq_879 := ek_good_ok (sp := sQ) (K := []) (SP := []) (HS := []) (N := 0) (fuel := 18) hIQ (fun _ h => absurd h List.not_mem_nil) (by decide +kernel)
def kq_880 : ek := (52, [.inl ((-2147483648), (-11))], [], [], [(some (.inl (0, 0)), [])], 0, 0)
/-- LoadsAhead isCell -/
theorem qk_880 (l : Launch) : ek_ok l tQ iQ kq_880 := ek_good_ok (sp := sQ) (K := []) (SP := []) (HS := []) (N := 0) (fuel := 16) hIQ (fun _ h => absurd h List.not_mem_nil) (by decide +kernel)
def kq_881 : ek := (99, [.inr 2, .inl (1, 4), .inl ((-2147483638), (-1))], [], [], [(some (.inl ((-1), (-1))), [])], 1, 21)
/-- LoadsAhead tried -/
theorem qk_881 (l : Launch) : ek_ok l tQ iQ kq_881 := ek_good_ok (sp := sQ) (K := [kq_240, kq_878, kq_879, kq_880]) (SP := [(2, [(0, [0, 4])]), (9, [(0, [(-1), 5])]), (19, [(0, [(-1), 7])]), (26, [(0, [99, 163])])]) (HS := []) (N := 0) (fuel := 42) hIQ (List.forall_mem_cons.mpr ⟨qk_240 l, List.forall_mem_cons.mpr ⟨qk_878 l, List.forall_mem_cons.mpr ⟨qk_879 l, List.forall_mem_cons.mpr ⟨qk_880 l, fun _ h => absurd h List.not_mem_nil⟩⟩⟩⟩) (by decide +kernel)
def kq_882 : ek := (100, [.inl (0, 5)], [], [], [(some (.inl (1, 1)), [])], 0, 0)
/-- LoadsAhead isTotal -/
theorem qk_882 (l : Launch) : ek_ok l tQ iQ kq_882 := ek_good_ok (sp := sQ) (K := []) (SP := []) (HS := []) (N := 0) (fuel := 24) hIQ (fun _ h => absurd h List.not_mem_nil) (by decide +kernel)
def kq_883 : ek := (101, [.inl (0, 5)], [], [], [(some (.inl (0, 0)), [])], 0, 0)
/-- LoadsAhead isByte -/
theorem qk_883 (l : Launch) : ek_ok l tQ iQ kq_883 := ek_good_ok (sp := sQ) (K := []) (SP := []) (HS := []) (N := 0) (fuel := 18) hIQ (fun _ h => absurd h List.not_mem_nil) (by decide +kernel)
def kq_884 : ek := (52, [.inl ((-10), (-5))], [], [], [(some (.inl (0, 0)), [])], 0, 0)
/-- LoadsAhead isCell -/
theorem qk_884 (l : Launch) : ek_ok l tQ iQ kq_884 := ek_good_ok (sp := sQ) (K := []) (SP := []) (HS := []) (N := 0) (fuel := 16) hIQ (fun _ h => absurd h List.not_mem_nil) (by decide +kernel)
def kq_886 : ek := (100, [.inl (6, 9)], [], [], [(some (.inl (0, 0)), [])], 0, 0)
/-- LoadsAhead isTotal -/
theorem qk_886 (l : Launch) : ek_ok l tQ iQ kq_886 := ek_good_ok (sp := sQ) (K := []) (SP := []) (HS := []) (N := 0) (fuel := 22) hIQ (fun _ h => absurd h List.not_mem_nil) (by decide +kernel)
def kq_887 : ek := (101, [.inl (6, 9)], [], [], [(some (.inl (0, 0)), [])], 0, 0)
/-- LoadsAhead isByte -/
theorem qk_887 (l : Launch) : ek_ok l tQ iQ kq_887 := ek_good_ok (sp := sQ) (K := []) (SP := []) (HS := []) (N := 0) (fuel := 18) hIQ (fun _ h => absurd h List.not_mem_nil) (by decide +kernel)
def kq_888 : ek := (52, [.inl ((-4), (-1))], [], [], [(some (.inl (0, 0)), [])], 0, 0)
/-- LoadsAhead isCell -/
theorem qk_888 (l : Launch) : ek_ok l tQ iQ kq_888 := ek_good_ok (sp := sQ) (K := []) (SP := []) (HS := []) (N := 0) (fuel := 16) hIQ (fun _ h => absurd h List.not_mem_nil) (by decide +kernel)
def kq_889 : ek := (99, [.inr 2, .inl (1, 4), .inl (6, 9)], [], [], [(some (.inl ((-1), (-1))), [])], 1, 21)
/-- LoadsAhead tried -/
theorem qk_889 (l : Launch) : ek_ok l tQ iQ kq_889 := ek_good_ok (sp := sQ) (K := [kq_240, kq_886, kq_888, kq_887]) (SP := [(2, [(0, [0, 4])]), (9, [(0, [(-1), 5])]), (19, [(0, [(-1), 7])]), (26, [(0, [99, 163])])]) (HS := []) (N := 0) (fuel := 42) hIQ (List.forall_mem_cons.mpr ⟨qk_240 l, List.forall_mem_cons.mpr ⟨qk_886 l, List.forall_mem_cons.mpr ⟨qk_888 l, List.forall_mem_cons.mpr ⟨qk_887 l, fun _ h => absurd h List.not_mem_nil⟩⟩⟩⟩) (by decide +kernel)
def kq_890 : ek := (100, [.inl (10, 17)], [], [], [(some (.inl (0, 0)), [])], 0, 0)
/-- LoadsAhead isTotal -/
theorem qk_890 (l : Launch) : ek_ok l tQ iQ kq_890 := ek_good_ok (sp := sQ) (K := []) (SP := []) (HS := []) (N := 0) (fuel := 22) hIQ (fun _ h => absurd h List.not_mem_nil) (by decide +kernel)
def kq_891 : ek := (101, [.inl (10, 17)], [], [], [(some (.inl (0, 0)), [])], 0, 0)
/-- LoadsAhead isByte -/
theorem qk_891 (l : Launch) : ek_ok l tQ iQ kq_891 := ek_good_ok (sp := sQ) (K := []) (SP := []) (HS := []) (N := 0) (fuel := 18) hIQ (fun _ h => absurd h List.not_mem_nil) (by decide +kernel)
def kq_893 : ek := (100, [.inl (18, 99)], [], [], [(some (.inl (0, 0)), [])], 0, 0)
/-- LoadsAhead isTotal -/
theorem qk_893 (l : Launch) : ek_ok l tQ iQ kq_893 := ek_good_ok (sp := sQ) (K := []) (SP := []) (HS := []) (N := 0) (fuel := 22) hIQ (fun _ h => absurd h List.not_mem_nil) (by decide +kernel)
def kq_894 : ek := (101, [.inl (18, 99)], [], [], [(some (.inl (0, 0)), [])], 0, 0)
/-- LoadsAhead isByte -/
theorem qk_894 (l : Launch) : ek_ok l tQ iQ kq_894 := ek_good_ok (sp := sQ) (K := []) (SP := []) (HS := []) (N := 0) (fuel := 18) hIQ (fun _ h => absurd h List.not_mem_nil) (by decide +kernel)
def kq_895 : ek := (52, [.inl (8, 89)], [], [], [(some (.inl (0, 0)), [])], 0, 0)
/-- LoadsAhead isCell -/
theorem qk_895 (l : Launch) : ek_ok l tQ iQ kq_895 := ek_good_ok (sp := sQ) (K := []) (SP := []) (HS := []) (N := 0) (fuel := 22) hIQ (fun _ h => absurd h List.not_mem_nil) (by decide +kernel)
def kq_896 : ek := (99, [.inr 2, .inl (1, 4), .inl (18, 99)], [], [], [(some (.inl ((-1), (-1))), [])], 1, 21)
/-- LoadsAhead tried -/
theorem qk_896 (l : Launch) : ek_ok l tQ iQ kq_896 := ek_good_ok (sp := sQ) (K := [kq_240, kq_894, kq_893, kq_895]) (SP := [(2, [(0, [0, 4])]), (9, [(0, [(-1), 5])]), (19, [(0, [(-1), 7])]), (26, [(0, [99, 163])])]) (HS := []) (N := 0) (fuel := 42) hIQ (List.forall_mem_cons.mpr ⟨qk_240 l, List.forall_mem_cons.mpr ⟨qk_894 l, List.forall_mem_cons.mpr ⟨qk_893 l, List.forall_mem_cons.mpr ⟨qk_895 l, fun _ h => absurd h List.not_mem_nil⟩⟩⟩⟩) (by decide +kernel)
def kq_897 : ek := (100, [.inl (100, 163)], [], [], [(some (.inl (0, 0)), [])], 0, 0)
/-- LoadsAhead isTotal -/
theorem qk_897 (l : Launch) : ek_ok l tQ iQ kq_897 := ek_good_ok (sp := sQ) (K := []) (SP := []) (HS := []) (N := 0) (fuel := 22) hIQ (fun _ h => absurd h List.not_mem_nil) (by decide +kernel)
def kq_898 : ek := (101, [.inl (100, 163)], [], [], [(some (.inl (1, 1)), [])], 0, 0)
/-- LoadsAhead isByte -/
theorem qk_898 (l : Launch) : ek_ok l tQ iQ kq_898 := ek_good_ok (sp := sQ) (K := []) (SP := []) (HS := []) (N := 0) (fuel := 26) hIQ (fun _ h => absurd h List.not_mem_nil) (by decide +kernel)
def kq_899 : ek := (52, [.inl (90, 153)], [], [], [(some (.inl (0, 0)), [])], 0, 0)
/-- LoadsAhead isCell -/
theorem qk_899 (l : Launch) : ek_ok l tQ iQ kq_899 := ek_good_ok (sp := sQ) (K := []) (SP := []) (HS := []) (N := 0) (fuel := 22) hIQ (fun _ h => absurd h List.not_mem_nil) (by decide +kernel)
def kq_901 : ek := (100, [.inl (164, 2147483647)], [], [], [(some (.inl (0, 0)), [])], 0, 0)
/-- LoadsAhead isTotal -/
theorem qk_901 (l : Launch) : ek_ok l tQ iQ kq_901 := ek_good_ok (sp := sQ) (K := []) (SP := []) (HS := []) (N := 0) (fuel := 22) hIQ (fun _ h => absurd h List.not_mem_nil) (by decide +kernel)
def kq_902 : ek := (101, [.inl (164, 2147483647)], [], [], [(some (.inl (0, 0)), [])], 0, 0)
/-- LoadsAhead isByte -/
theorem qk_902 (l : Launch) : ek_ok l tQ iQ kq_902 := ek_good_ok (sp := sQ) (K := []) (SP := []) (HS := []) (N := 0) (fuel := 24) hIQ (fun _ h => absurd h List.not_mem_nil) (by decide +kernel)
def kq_903 : ek := (52, [.inl (154, 2147483637)], [], [], [(some (.inl (0, 0)), [])], 0, 0)
/-- LoadsAhead isCell -/
theorem qk_903 (l : Launch) : ek_ok l tQ iQ kq_903 := ek_good_ok (sp := sQ) (K := []) (SP := []) (HS := []) (N := 0) (fuel := 22) hIQ (fun _ h => absurd h List.not_mem_nil) (by decide +kernel)
def kq_904 : ek := (99, [.inr 2, .inl (1, 4), .inl (164, 2147483647)], [], [], [(some (.inl ((-1), (-1))), [])], 1, 21)
/-- LoadsAhead tried -/
theorem qk_904 (l : Launch) : ek_ok l tQ iQ kq_904 := ek_good_ok (sp := sQ) (K := [kq_240, kq_901, kq_902, kq_903]) (SP := [(2, [(0, [0, 4])]), (9, [(0, [(-1), 5])]), (19, [(0, [(-1), 7])]), (26, [(0, [99, 163])])]) (HS := []) (N := 0) (fuel := 42) hIQ (List.forall_mem_cons.mpr ⟨qk_240 l, List.forall_mem_cons.mpr ⟨qk_901 l, List.forall_mem_cons.mpr ⟨qk_902 l, List.forall_mem_cons.mpr ⟨qk_903 l, fun _ h => absurd h List.not_mem_nil⟩⟩⟩⟩) (by decide +kernel)
def kq_905 : ek := (99, [.inr 2, .inl (5, 2147483647), .inl ((-2147483648), (-2147483639))], [], [], [(some (.inl ((-1), (-1))), [])], 1, 21)
/-- LoadsAhead tried -/
theorem qk_905 (l : Launch) : ek_ok l tQ iQ kq_905 := ek_good_ok (sp := sQ) (K := [kq_410]) (SP := [(2, [(0, [0, 4])])]) (HS := []) (N := 0) (fuel := 20) hIQ (List.forall_mem_cons.mpr ⟨qk_410 l, fun _ h => absurd h List.not_mem_nil⟩) (by decide +kernel)
def kq_906 : ek := (99, [.inr 2, .inl (5, 2147483647), .inl ((-2147483638), (-1))], [], [], [(some (.inl ((-1), (-1))), [])], 1, 21)
/-- LoadsAhead tried -/
theorem qk_906 (l : Launch) : ek_ok l tQ iQ kq_906 := ek_good_ok (sp := sQ) (K := [kq_410]) (SP := [(2, [(0, [0, 4])])]) (HS := []) (N := 0) (fuel := 20) hIQ (List.forall_mem_cons.mpr ⟨qk_410 l, fun _ h => absurd h List.not_mem_nil⟩) (by decide +kernel)
def kq_907 : ek := (99, [.inr 2, .inl (5, 2147483647), .inl (0, 5)], [], [], [(some (.inl ((-1), (-1))), [])], 1, 21)
/-- LoadsAhead tried -/
theorem qk_907 (l : Launch) : ek_ok l tQ iQ kq_907 := ek_good_ok (sp := sQ) (K := [kq_410]) (SP := [(2, [(0, [0, 4])])]) (HS := []) (N := 0) (fuel := 20) hIQ (List.forall_mem_cons.mpr ⟨qk_410 l, fun _ h => absurd h List.not_mem_nil⟩) (by decide +kernel)
def kq_908 : ek := (99, [.inr 2, .inl (5, 2147483647), .inl (6, 9)], [], [], [(some (.inl ((-1), (-1))), [])], 1, 21)
/-- LoadsAhead tried -/
theorem qk_908 (l : Launch) : ek_ok l tQ iQ kq_908 := ek_good_ok (sp := sQ) (K := [kq_410]) (SP := [(2, [(0, [0, 4])])]) (HS := []) (N := 0) (fuel := 20) hIQ (List.forall_mem_cons.mpr ⟨qk_410 l, fun _ h => absurd h List.not_mem_nil⟩) (by decide +kernel)
def kq_909 : ek := (99, [.inr 2, .inl (5, 2147483647), .inl (10, 17)], [], [], [(some (.inl ((-1), (-1))), [])], 1, 21)
/-- LoadsAhead tried -/
theorem qk_909 (l : Launch) : ek_ok l tQ iQ kq_909 := ek_good_ok (sp := sQ) (K := [kq_410]) (SP := [(2, [(0, [0, 4])])]) (HS := []) (N := 0) (fuel := 20) hIQ (List.forall_mem_cons.mpr ⟨qk_410 l, fun _ h => absurd h List.not_mem_nil⟩) (by decide +kernel)
def kq_910 : ek := (99, [.inr 2, .inl (5, 2147483647), .inl (18, 99)], [], [], [(some (.inl ((-1), (-1))), [])], 1, 21)
/-- LoadsAhead tried -/
theorem qk_910 (l : Launch) : ek_ok l tQ iQ kq_910 := ek_good_ok (sp := sQ) (K := [kq_410]) (SP := [(2, [(0, [0, 4])])]) (HS := []) (N := 0) (fuel := 20) hIQ (List.forall_mem_cons.mpr ⟨qk_410 l, fun _ h => absurd h List.not_mem_nil⟩) (by decide +kernel)
def kq_911 : ek := (99, [.inr 2, .inl (5, 2147483647), .inl (100, 163)], [], [], [(some (.inl ((-1), (-1))), [])], 1, 21)
/-- LoadsAhead tried -/
theorem qk_911 (l : Launch) : ek_ok l tQ iQ kq_911 := ek_good_ok (sp := sQ) (K := [kq_410]) (SP := [(2, [(0, [0, 4])])]) (HS := []) (N := 0) (fuel := 20) hIQ (List.forall_mem_cons.mpr ⟨qk_410 l, fun _ h => absurd h List.not_mem_nil⟩) (by decide +kernel)
def kq_912 : ek := (99, [.inr 2, .inl (5, 2147483647), .inl (164, 2147483647)], [], [], [(some (.inl ((-1), (-1))), [])], 1, 21)
/-- LoadsAhead tried -/
theorem qk_912 (l : Launch) : ek_ok l tQ iQ kq_912 := ek_good_ok (sp := sQ) (K := [kq_410]) (SP := [(2, [(0, [0, 4])])]) (HS := []) (N := 0) (fuel := 20) hIQ (List.forall_mem_cons.mpr ⟨qk_410 l, fun _ h => absurd h List.not_mem_nil⟩) (by decide +kernel)
def kq_913 : ek := (137, [.inl ((-2147483648), (-2147483639)), .inl (0, 0), .inl (5, 5)], [], [], [(some (.inl (0, 0)), [])], 0, 0)
/-- LoadsAheadModel in -/
theorem qk_913 (l : Launch) : ek_ok l tQ iQ kq_913 := ek_good_ok (sp := sQ) (K := []) (SP := []) (HS := []) (N := 0) (fuel := 18) hIQ (fun _ h => absurd h List.not_mem_nil) (by decide +kernel)
def kq_914 : ek := (137, [.inl ((-2147483648), (-2147483639)), .inl (10, 10), .inl (17, 17)], [], [], [(some (.inl (0, 0)), [])], 0, 0)
/-- LoadsAheadModel in -/
theorem qk_914 (l : Launch) : ek_ok l tQ iQ kq_914 := ek_good_ok (sp := sQ) (K := []) (SP := []) (HS := []) (N := 0) (fuel := 18) hIQ (fun _ h => absurd h List.not_mem_nil) (by decide +kernel)
def kq_915 : ek := (137, [.inl ((-2147483648), (-2147483639)), .inl (100, 100), .inl (163, 163)], [], [], [(some (.inl (0, 0)), [])], 0, 0)
/-- LoadsAheadModel in -/
theorem qk_915 (l : Launch) : ek_ok l tQ iQ kq_915 := ek_good_ok (sp := sQ) (K := []) (SP := []) (HS := []) (N := 0) (fuel := 18) hIQ (fun _ h => absurd h List.not_mem_nil) (by decide +kernel)
def kq_916 : ek := (212, [.inr 86, .inl ((-2147483648), 0), .inl ((-2147483648), (-2147483639))], [], [], [(some (.inl ((-1), (-1))), [])], 2, 43)
/-- LoadsAheadModel tried -/
theorem qk_916 (l : Launch) : ek_ok l tQ iQ kq_916 := ek_good_ok (sp := sQ) (K := [kq_915, kq_913, kq_914, kq_413]) (SP := [(3, [(2, [(-1), 5])]), (14, [(2, [9, 17])]), (26, [(2, [99, 163])]), (40, [(0, [0, 4])])]) (HS := []) (N := 0) (fuel := 54) hIQ (List.forall_mem_cons.mpr ⟨qk_915 l, List.forall_mem_cons.mpr ⟨qk_913 l, List.forall_mem_cons.mpr ⟨qk_914 l, List.forall_mem_cons.mpr ⟨qk_413 l, fun _ h => absurd h List.not_mem_nil⟩⟩⟩⟩) (by decide +kernel)
def kq_917 : ek := (137, [.inl ((-2147483638), (-1)), .inl (0, 0), .inl (5, 5)], [], [], [(some (.inl (0, 0)), [])], 0, 0)
/-- LoadsAheadModel in -/
theorem qk_917 (l : Launch) : ek_ok l tQ iQ kq_917 := ek_good_ok (sp := sQ) (K := []) (SP := []) (HS := []) (N := 0) (fuel := 18) hIQ (fun _ h => absurd h List.not_mem_nil) (by decide +kernel)
def kq_918 : ek := (137, [.inl ((-2147483638), (-1)), .inl (10, 10), .inl (17, 17)], [], [], [(some (.inl (0, 0)), [])], 0, 0)
/-- LoadsAheadModel in -/
theorem qk_918 (l : Launch) : ek_ok l tQ iQ kq_918 := ek_good_ok (sp := sQ) (K := []) (SP := []) (HS := []) (N := 0) (fuel := 18) hIQ (fun _ h => absurd h List.not_mem_nil) (by decide +kernel)
def kq_919 : ek := (137, [.inl ((-2147483638), (-1)), .inl (100, 100), .inl (163, 163)], [], [], [(some (.inl (0, 0)), [])], 0, 0)
/-- LoadsAheadModel in -/
theorem qk_919 (l : Launch) : ek_ok l tQ iQ kq_919 := ek_good_ok (sp := sQ) (K := []) (SP := []) (HS := []) (N := 0) (fuel := 18) hIQ (fun _ h => absurd h List.not_mem_nil) (by decide +kernel)
def kq_920 : ek := (212, [.inr 86, .inl ((-2147483648), 0), .inl ((-2147483638), (-1))], [], [], [(some (.inl ((-1), (-1))), [])], 2, 43)
/-- LoadsAheadModel tried -/
theorem qk_920 (l : Launch) : ek_ok l tQ iQ kq_920 := ek_good_ok (sp := sQ) (K := [kq_917, kq_919, kq_413, kq_918]) (SP := [(3, [(2, [(-1), 5])]), (14, [(2, [9, 17])]), (26, [(2, [99, 163])]), (40, [(0, [0, 4])])]) (HS := []) (N := 0) (fuel := 54) hIQ (List.forall_mem_cons.mpr ⟨qk_917 l, List.forall_mem_cons.mpr ⟨qk_919 l, List.forall_mem_cons.mpr ⟨qk_413 l, List.forall_mem_cons.mpr ⟨qk_918 l, fun _ h => absurd h List.not_mem_nil⟩⟩⟩⟩) (by decide +kernel)
def kq_921 : ek := (137, [.inl (0, 5), .inl (0, 0), .inl (5, 5)], [], [], [(some (.inl (1, 1)), [])], 0, 0)
/-- LoadsAheadModel in -/
theorem qk_921 (l : Launch) : ek_ok l tQ iQ kq_921 := ek_good_ok (sp := sQ) (K := []) (SP := []) (HS := []) (N := 0) (fuel := 26) hIQ (fun _ h => absurd h List.not_mem_nil) (by decide +kernel)
def kq_922 : ek := (212, [.inr 86, .inl ((-2147483648), 0), .inl (0, 5)], [], [], [(some (.inl ((-1), (-1))), [])], 2, 43)
/-- LoadsAheadModel tried -/
theorem qk_922 (l : Launch) : ek_ok l tQ iQ kq_922 := ek_good_ok (sp := sQ) (K := [kq_921, kq_413]) (SP := [(3, [(2, [(-1), 5])]), (40, [(0, [0, 4])])]) (HS := []) (N := 0) (fuel := 36) hIQ (List.forall_mem_cons.mpr ⟨qk_921 l, List.forall_mem_cons.mpr ⟨qk_413 l, fun _ h => absurd h List.not_mem_nil⟩⟩) (by decide +kernel)
def kq_923 : ek := (137, [.inl (6, 9), .inl (0, 0), .inl (5, 5)], [], [], [(some (.inl (0, 0)), [])], 0, 0)
/-- LoadsAheadModel in -/
theorem qk_923 (l : Launch) : ek_ok l tQ iQ kq_923 := ek_good_ok (sp := sQ) (K := []) (SP := []) (HS := []) (N := 0) (fuel := 24) hIQ (fun _ h => absurd h List.not_mem_nil) (by decide +kernel)
def kq_924 : ek := (137, [.inl (6, 9), .inl (10, 10), .inl (17, 17)], [], [], [(some (.inl (0, 0)), [])], 0, 0)
/-- LoadsAheadModel in -/
theorem qk_924 (l : Launch) : ek_ok l tQ iQ kq_924 := ek_good_ok (sp := sQ) (K := []) (SP := []) (HS := []) (N := 0) (fuel := 18) hIQ (fun _ h => absurd h List.not_mem_nil) (by decide +kernel)
def kq_925 : ek := (137, [.inl (6, 9), .inl (100, 100), .inl (163, 163)], [], [], [(some (.inl (0, 0)), [])], 0, 0)
/-- LoadsAheadModel in -/
theorem qk_925 (l : Launch) : ek_ok l tQ iQ kq_925 := ek_good_ok (sp := sQ) (K := []) (SP := []) (HS := []) (N := 0) (fuel := 18) hIQ (fun _ h => absurd h List.not_mem_nil) (by decide +kernel)
def kq_926 : ek := (212, [.inr 86, .inl ((-2147483648), 0), .inl (6, 9)], [], [], [(some (.inl ((-1), (-1))), [])], 2, 43)
/-- LoadsAheadModel tried -/
theorem qk_926 (l : Launch) : ek_ok l tQ iQ kq_926 := ek_good_ok (sp := sQ) (K := [kq_925, kq_924, kq_923, kq_413]) (SP := [(3, [(2, [(-1), 5])]), (14, [(2, [9, 17])]), (26, [(2, [99, 163])]), (40, [(0, [0, 4])])]) (HS := []) (N := 0) (fuel := 54) hIQ (List.forall_mem_cons.mpr ⟨qk_925 l, List.forall_mem_cons.mpr ⟨qk_924 l, List.forall_mem_cons.mpr ⟨qk_923 l, List.forall_mem_cons.mpr ⟨qk_413 l, fun _ h => absurd h List.not_mem_nil⟩⟩⟩⟩) (by decide +kernel)
def kq_927 : ek := (137, [.inl (10, 17), .inl (0, 0), .inl (5, 5)], [], [], [(some (.inl (0, 0)), [])], 0, 0)
/-- LoadsAheadModel in -/
theorem qk_927 (l : Launch) : ek_ok l tQ iQ kq_927 := ek_good_ok (sp := sQ) (K := []) (SP := []) (HS := []) (N := 0) (fuel := 24) hIQ (fun _ h => absurd h List.not_mem_nil) (by decide +kernel)
def kq_928 : ek := (137, [.inl (10, 17), .inl (10, 10), .inl (17, 17)], [], [], [(some (.inl (1, 1)), [])], 0, 0)
/-- LoadsAheadModel in -/
theorem qk_928 (l : Launch) : ek_ok l tQ iQ kq_928 := ek_good_ok (sp := sQ) (K := []) (SP := []) (HS := []) (N := 0) (fuel := 26) hIQ (fun _ h => absurd h List.not_mem_nil) (by decide +kernel)
def kq_929 : ek := (212, [.inr 86, .inl ((-2147483648), 0), .inl (10, 17)], [], [], [(some (.inl ((-1), (-1))), [])], 2, 43)
/-- LoadsAheadModel tried -/
theorem qk_929 (l : Launch) : ek_ok l tQ iQ kq_929 := ek_good_ok (sp := sQ) (K := [kq_927, kq_928, kq_413]) (SP := [(3, [(2, [(-1), 5])]), (14, [(2, [9, 17])]), (40, [(0, [0, 4])])]) (HS := []) (N := 0) (fuel := 46) hIQ (List.forall_mem_cons.mpr ⟨qk_927 l, List.forall_mem_cons.mpr ⟨qk_928 l, List.forall_mem_cons.mpr ⟨qk_413 l, fun _ h => absurd h List.not_mem_nil⟩⟩⟩) (by decide +kernel)
def kq_930 : ek := (137, [.inl (18, 99), .inl (0, 0), .inl (5, 5)], [], [], [(some (.inl (0, 0)), [])], 0, 0)
/-- LoadsAheadModel in -/
theorem qk_930 (l : Launch) : ek_ok l tQ iQ kq_930 := ek_good_ok (sp := sQ) (K := []) (SP := []) (HS := []) (N := 0) (fuel := 24) hIQ (fun _ h => absurd h List.not_mem_nil) (by decide +kernel)
def kq_931 : ek := (137, [.inl (18, 99), .inl (10, 10), .inl (17, 17)], [], [], [(some (.inl (0, 0)), [])], 0, 0)
/-- LoadsAheadModel in -/
theorem qk_931 (l : Launch) : ek_ok l tQ iQ kq_931 := ek_good_ok (sp := sQ) (K := []) (SP := []) (HS := []) (N := 0) (fuel := 24) hIQ (fun _ h => absurd h List.not_mem_nil) (by decide +kernel)
def kq_932 : ek := (137, [.inl (18, 99), .inl (100, 100), .inl (163, 163)], [], [], [(some (.inl (0, 0)), [])], 0, 0)
/-- LoadsAheadModel in -/
theorem qk_932 (l : Launch) : ek_ok l tQ iQ kq_932 := ek_good_ok (sp := sQ) (K := []) (SP := []) (HS := []) (N := 0) (fuel := 18) hIQ (fun _ h => absurd h List.not_mem_nil) (by decide +kernel)
def kq_933 : ek := (212, [.inr 86, .inl ((-2147483648), 0), .inl (18, 99)], [], [], [(some (.inl ((-1), (-1))), [])], 2, 43)
/-- LoadsAheadModel tried -/
theorem qk_933 (l : Launch) : ek_ok l tQ iQ kq_933 := ek_good_ok (sp := sQ) (K := [kq_932, kq_931, kq_930, kq_413]) (SP := [(3, [(2, [(-1), 5])]), (14, [(2, [9, 17])]), (26, [(2, [99, 163])]), (40, [(0, [0, 4])])]) (HS := []) (N := 0) (fuel := 54) hIQ (List.forall_mem_cons.mpr ⟨qk_932 l, List.forall_mem_cons.mpr ⟨qk_931 l, List.forall_mem_cons.mpr ⟨qk_930 l, List.forall_mem_cons.mpr ⟨qk_413 l, fun _ h => absurd h List.not_mem_nil⟩⟩⟩⟩) (by decide +kernel)
def kq_934 : ek := (137, [.inl (100, 163), .inl (0, 0), .inl (5, 5)], [], [], [(some (.inl (0, 0)), [])], 0, 0)
/-- LoadsAheadModel in -/
theorem qk_934 (l : Launch) : ek_ok l tQ iQ kq_934 := ek_good_ok (sp := sQ) (K := []) (SP := []) (HS := []) (N := 0) (fuel := 24) hIQ (fun _ h => absurd h List.not_mem_nil) (by decide +kernel)
def kq_935 : ek := (137, [.inl (100, 163), .inl (10, 10), .inl (17, 17)], [], [], [(some (.inl (0, 0)), [])], 0, 0)
/-- LoadsAheadModel in -/
theorem qk_935 (l : Launch) : ek_ok l tQ iQ kq_935 := ek_good_ok (sp := sQ) (K := []) (SP := []) (HS := []) (N := 0) (fuel := 24) hIQ (fun _ h => absurd h List.not_mem_nil) (by decide +kernel)
def kq_936 : ek := (137, [.inl (100, 163), .inl (100, 100), .inl (163, 163)], [], [], [(some (.inl (1, 1)), [])], 0, 0)
/-- LoadsAheadModel in -/
theorem qk_936 (l : Launch) : ek_ok l tQ iQ kq_936 := ek_good_ok (sp := sQ) (K := []) (SP := []) (HS := []) (N := 0) (fuel := 26) hIQ (fun _ h => absurd h List.not_mem_nil) (by decide +kernel)
def kq_937 : ek := (212, [.inr 86, .inl ((-2147483648), 0), .inl (100, 163)], [], [], [(some (.inl ((-1), (-1))), [])], 2, 43)
/-- LoadsAheadModel tried -/
theorem qk_937 (l : Launch) : ek_ok l tQ iQ kq_937 := ek_good_ok (sp := sQ) (K := [kq_935, kq_934, kq_936, kq_413]) (SP := [(3, [(2, [(-1), 5])]), (14, [(2, [9, 17])]), (26, [(2, [99, 163])]), (40, [(0, [0, 4])])]) (HS := []) (N := 0) (fuel := 56) hIQ (List.forall_mem_cons.mpr ⟨qk_935 l, List.forall_mem_cons.mpr ⟨qk_934 l, List.forall_mem_cons.mpr ⟨qk_936 l, List.forall_mem_cons.mpr ⟨qk_413 l, fun _ h => absurd h List.not_mem_nil⟩⟩⟩⟩) (by decide +kernel)
def kq_938 : ek := (137, [.inl (164, 2147483647), .inl (0, 0), .inl (5, 5)], [], [], [(some (.inl (0, 0)), [])], 0, 0)
/-- LoadsAheadModel in -/
theorem qk_938 (l : Launch) : ek_ok l tQ iQ kq_938 := ek_good_ok (sp := sQ) (K := []) (SP := []) (HS := []) (N := 0) (fuel := 24) hIQ (fun _ h => absurd h List.not_mem_nil) (by decide +kernel)
def kq_939 : ek := (137, [.inl (164, 2147483647), .inl (10, 10), .inl (17, 17)], [], [], [(some (.inl (0, 0)), [])], 0, 0)
/-- LoadsAheadModel in -/
theorem qk_939 (l : Launch) : ek_ok l tQ iQ kq_939 := ek_good_ok (sp := sQ) (K := []) (SP := []) (HS := []) (N := 0) (fuel := 24) hIQ (fun _ h => absurd h List.not_mem_nil) (by decide +kernel)
def kq_940 : ek := (137, [.inl (164, 2147483647), .inl (100, 100), .inl (163, 163)], [], [], [(some (.inl (0, 0)), [])], 0, 0)
/-- LoadsAheadModel in -/
theorem qk_940 (l : Launch) : ek_ok l tQ iQ kq_940 := ek_good_ok (sp := sQ) (K := []) (SP := []) (HS := []) (N := 0) (fuel := 24) hIQ (fun _ h => absurd h List.not_mem_nil) (by decide +kernel)
def kq_941 : ek := (212, [.inr 86, .inl ((-2147483648), 0), .inl (164, 2147483647)], [], [], [(some (.inl ((-1), (-1))), [])], 2, 43)
/-- LoadsAheadModel tried -/
theorem qk_941 (l : Launch) : ek_ok l tQ iQ kq_941 := ek_good_ok (sp := sQ) (K := [kq_413, kq_939, kq_940, kq_938]) (SP := [(3, [(2, [(-1), 5])]), (14, [(2, [9, 17])]), (26, [(2, [99, 163])]), (40, [(0, [0, 4])])]) (HS := []) (N := 0) (fuel := 54) hIQ (List.forall_mem_cons.mpr ⟨qk_413 l, List.forall_mem_cons.mpr ⟨qk_939 l, List.forall_mem_cons.mpr ⟨qk_940 l, List.forall_mem_cons.mpr ⟨qk_938 l, fun _ h => absurd h List.not_mem_nil⟩⟩⟩⟩) (by decide +kernel)
def kq_942 : ek := (212, [.inr 86, .inl (1, 4), .inl ((-2147483648), (-2147483639))], [], [], [(some (.inl ((-1), (-1))), [])], 2, 43)
/-- LoadsAheadModel tried -/
theorem qk_942 (l : Launch) : ek_ok l tQ iQ kq_942 := ek_good_ok (sp := sQ) (K := [kq_416, kq_915, kq_913, kq_914]) (SP := [(3, [(2, [(-1), 5])]), (14, [(2, [9, 17])]), (26, [(2, [99, 163])]), (40, [(0, [0, 4])])]) (HS := []) (N := 0) (fuel := 58) hIQ (List.forall_mem_cons.mpr ⟨qk_416 l, List.forall_mem_cons.mpr ⟨qk_915 l, List.forall_mem_cons.mpr ⟨qk_913 l, List.forall_mem_cons.mpr ⟨qk_914 l, fun _ h => absurd h List.not_mem_nil⟩⟩⟩⟩) (by decide +kernel)
def kq_943 : ek := (212, [.inr 86, .inl (1, 4), .inl ((-2147483638), (-1))], [], [], [(some (.inl ((-1), (-1))), [])], 2, 43)
/-- LoadsAheadModel tried -/
theorem qk_943 (l : Launch) : ek_ok l tQ iQ kq_943 := ek_good_ok (sp := sQ) (K := [kq_416, kq_917, kq_919, kq_918]) (SP := [(3, [(2, [(-1), 5])]), (14, [(2, [9, 17])]), (26, [(2, [99, 163])]), (40, [(0, [0, 4])])]) (HS := []) (N := 0) (fuel := 58) hIQ (List.forall_mem_cons.mpr ⟨qk_416 l, List.forall_mem_cons.mpr ⟨qk_917 l, List.forall_mem_cons.mpr ⟨qk_919 l, List.forall_mem_cons.mpr ⟨qk_918 l, fun _ h => absurd h List.not_mem_nil⟩⟩⟩⟩) (by decide +kernel)
def kq_946 : ek := (212, [.inr 86, .inl (1, 4), .inl (6, 9)], [], [], [(some (.inl ((-1), (-1))), [])], 2, 43)
/-- LoadsAheadModel tried -/
theorem qk_946 (l : Launch) : ek_ok l tQ iQ kq_946 := ek_good_ok (sp := sQ) (K := [kq_925, kq_416, kq_924, kq_923]) (SP := [(3, [(2, [(-1), 5])]), (14, [(2, [9, 17])]), (26, [(2, [99, 163])]), (40, [(0, [0, 4])])]) (HS := []) (N := 0) (fuel := 58) hIQ (List.forall_mem_cons.mpr ⟨qk_925 l, List.forall_mem_cons.mpr ⟨qk_416 l, List.forall_mem_cons.mpr ⟨qk_924 l, List.forall_mem_cons.mpr ⟨qk_923 l, fun _ h => absurd h List.not_mem_nil⟩⟩⟩⟩) (by decide +kernel)
def kq_948 : ek := (212, [.inr 86, .inl (1, 4), .inl (18, 99)], [], [], [(some (.inl ((-1), (-1))), [])], 2, 43)
/-- LoadsAheadModel tried -/
theorem qk_948 (l : Launch) : ek_ok l tQ iQ kq_948 := ek_good_ok (sp := sQ) (K := [kq_416, kq_932, kq_931, kq_930]) (SP := [(3, [(2, [(-1), 5])]), (14, [(2, [9, 17])]), (26, [(2, [99, 163])]), (40, [(0, [0, 4])])]) (HS := []) (N := 0) (fuel := 58) hIQ (List.forall_mem_cons.mpr ⟨qk_416 l, List.forall_mem_cons.mpr ⟨qk_932 l, List.forall_mem_cons.mpr ⟨qk_931 l, List.forall_mem_cons.mpr ⟨qk_930 l, fun _ h => absurd h List.not_mem_nil⟩⟩⟩⟩) (by decide +kernel)
def kq_950 : ek := (212, [.inr 86, .inl (1, 4), .inl (164, 2147483647)], [], [], [(some (.inl ((-1), (-1))), [])], 2, 43)
/-- LoadsAheadModel tried -/
theorem qk_950 (l : Launch) : ek_ok l tQ iQ kq_950 := ek_good_ok (sp := sQ) (K := [kq_416, kq_939, kq_940, kq_938]) (SP := [(3, [(2, [(-1), 5])]), (14, [(2, [9, 17])]), (26, [(2, [99, 163])]), (40, [(0, [0, 4])])]) (HS := []) (N := 0) (fuel := 58) hIQ (List.forall_mem_cons.mpr ⟨qk_416 l, List.forall_mem_cons.mpr ⟨qk_939 l, List.forall_mem_cons.mpr ⟨qk_940 l, List.forall_mem_cons.mpr ⟨qk_938 l, fun _ h => absurd h List.not_mem_nil⟩⟩⟩⟩) (by decide +kernel)
def kq_951 : ek := (212, [.inr 86, .inl (5, 2147483647), .inl ((-2147483648), (-2147483639))], [], [], [(some (.inl ((-1), (-1))), [])], 2, 43)
/-- LoadsAheadModel tried -/
theorem qk_951 (l : Launch) : ek_ok l tQ iQ kq_951 := ek_good_ok (sp := sQ) (K := [kq_915, kq_913, kq_914, kq_864]) (SP := [(3, [(2, [(-1), 5])]), (14, [(2, [9, 17])]), (26, [(2, [99, 163])]), (40, [(0, [0, 4])])]) (HS := []) (N := 0) (fuel := 54) hIQ (List.forall_mem_cons.mpr ⟨qk_915 l, List.forall_mem_cons.mpr ⟨qk_913 l, List.forall_mem_cons.mpr ⟨qk_914 l, List.forall_mem_cons.mpr ⟨qk_864 l, fun _ h => absurd h List.not_mem_nil⟩⟩⟩⟩) (by decide +kernel)
def kq_952 : ek := (212, [.inr 86, .inl (5, 2147483647), .inl ((-2147483638), (-1))], [], [], [(some (.inl ((-1), (-1))), [])], 2, 43)
/-- LoadsAheadModel tried -/
theorem qk_952 (l : Launch) : ek_ok l tQ iQ kq_952 := ek_good_ok (sp := sQ) (K := [kq_917, kq_919, kq_864, kq_918]) (SP := [(3, [(2, [(-1), 5])]), (14, [(2, [9, 17])]), (26, [(2, [99, 163])]), (40, [(0, [0, 4])])]) (HS := []) (N := 0) (fuel := 54) hIQ (List.forall_mem_cons.mpr ⟨qk_917 l, List.forall_mem_cons.mpr ⟨qk_919 l, List.forall_mem_cons.mpr ⟨qk_864 l, List.forall_mem_cons.mpr ⟨qk_918 l, fun _ h => absurd h List.not_mem_nil⟩⟩⟩⟩) (by decide +kernel)
def kq_953 : ek := (212, [.inr 86, .inl (5, 2147483647), .inl (0, 5)], [], [], [(some (.inl ((-1), (-1))), [])], 2, 43)
/-- LoadsAheadModel tried -/
theorem qk_953 (l : Launch) : ek_ok l tQ iQ kq_953 := ek_good_ok (sp := sQ) (K := [kq_921, kq_864]) (SP := [(3, [(2, [(-1), 5])]), (40, [(0, [0, 4])])]) (HS := []) (N := 0) (fuel := 36) hIQ (List.forall_mem_cons.mpr ⟨qk_921 l, List.forall_mem_cons.mpr ⟨qk_864 l, fun _ h => absurd h List.not_mem_nil⟩⟩) (by decide +kernel)
def kq_954 : ek := (212, [.inr 86, .inl (5, 2147483647), .inl (6, 9)], [], [], [(some (.inl ((-1), (-1))), [])], 2, 43)
/-- LoadsAheadModel tried -/
theorem qk_954 (l : Launch) : ek_ok l tQ iQ kq_954 := ek_good_ok (sp := sQ) (K := [kq_925, kq_924, kq_923, kq_864]) (SP := [(3, [(2, [(-1), 5])]), (14, [(2, [9, 17])]), (26, [(2, [99, 163])]), (40, [(0, [0, 4])])]) (HS := []) (N := 0) (fuel := 54) hIQ (List.forall_mem_cons.mpr ⟨qk_925 l, List.forall_mem_cons.mpr ⟨qk_924 l, List.forall_mem_cons.mpr ⟨qk_923 l, List.forall_mem_cons.mpr ⟨qk_864 l, fun _ h => absurd h List.not_mem_nil⟩⟩⟩⟩) (by decide +kernel)
def kq_955 : ek := (212, [.inr 86, .inl (5, 2147483647), .inl (10, 17)], [], [], [(some (.inl ((-1), (-1))), [])], 2, 43)
/-- LoadsAheadModel tried -/
theorem qk_955 (l : Launch) : ek_ok l tQ iQ kq_955 := ek_good_ok (sp := sQ) (K := [kq_927, kq_928, kq_864]) (SP := [(3, [(2, [(-1), 5])]), (14, [(2, [9, 17])]), (40, [(0, [0, 4])])]) (HS := []) (N := 0) (fuel := 46) hIQ (List.forall_mem_cons.mpr ⟨qk_927 l, List.forall_mem_cons.mpr ⟨qk_928 l, List.forall_mem_cons.mpr ⟨qk_864 l, fun _ h => absurd h List.not_mem_nil⟩⟩⟩) (by decide +kernel)
def kq_956 : ek := (212, [.inr 86, .inl (5, 2147483647), .inl (18, 99)], [], [], [(some (.inl ((-1), (-1))), [])], 2, 43)
/-- LoadsAheadModel tried -/
theorem qk_956 (l : Launch) : ek_ok l tQ iQ kq_956 := ek_good_ok (sp := sQ) (K := [kq_932, kq_931, kq_930, kq_864]) (SP := [(3, [(2, [(-1), 5])]), (14, [(2, [9, 17])]), (26, [(2, [99, 163])]), (40, [(0, [0, 4])])]) (HS := []) (N := 0) (fuel := 54) hIQ (List.forall_mem_cons.mpr ⟨qk_932 l, List.forall_mem_cons.mpr ⟨qk_931 l, List.forall_mem_cons.mpr ⟨qk_930 l, List.forall_mem_cons.mpr ⟨qk_864 l, fun _ h => absurd h List.not_mem_nil⟩⟩⟩⟩) (by decide +kernel)
