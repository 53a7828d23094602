def kq_674 : ek := (201, [.inr 86, .inl (0, 19), .inl (0, 15), .inl (0, 0)], [], [(109, 999)], [(none, [])], 0, 0)
/-- LoadsAheadModel feels -/
theorem qk_674 (l : Launch) : ek_ok l tQ iQ kq_674 := ek_good_ok (sp := sQ) (K := []) (SP := []) (HS := []) (N := 0) (fuel := 120) hIQ (fun _ h => absurd h List.not_mem_nil) (by decide +kernel)
def kq_682 : ek := (201, [.inr 86, .inl (0, 0), .inl (0, 15), .inl (0, 15)], [], [(109, 999)], [(none, [])], 0, 0)
/-- LoadsAheadModel feels -/
theorem qk_682 (l : Launch) : ek_ok l tQ iQ kq_682 := ek_good_ok (sp := sQ) (K := []) (SP := []) (HS := []) (N := 0) (fuel := 120) hIQ (fun _ h => absurd h List.not_mem_nil) (by decide +kernel)
def kq_684 : ek := (201, [.inr 86, .inl (0, 15), .inl (0, 15), .inl (0, 15)], [], [(109, 999)], [(none, [])], 0, 0)
/-- LoadsAheadModel feels -/
theorem qk_684 (l : Launch) : ek_ok l tQ iQ kq_684 := ek_good_ok (sp := sQ) (K := []) (SP := []) (HS := []) (N := 0) (fuel := 120) hIQ (fun _ h => absurd h List.not_mem_nil) (by decide +kernel)
def kq_686 : ek := (201, [.inr 86, .inl (0, 7), .inl (0, 15), .inl (0, 15)], [], [(109, 999)], [(none, [])], 0, 0)
/-- LoadsAheadModel feels -/
theorem qk_686 (l : Launch) : ek_ok l tQ iQ kq_686 := ek_good_ok (sp := sQ) (K := []) (SP := []) (HS := []) (N := 0) (fuel := 120) hIQ (fun _ h => absurd h List.not_mem_nil) (by decide +kernel)
def kq_688 : ek := (201, [.inr 86, .inl (0, 3), .inl (0, 15), .inl (0, 15)], [], [(109, 999)], [(none, [])], 0, 0)
/-- LoadsAheadModel feels -/
theorem qk_688 (l : Launch) : ek_ok l tQ iQ kq_688 := ek_good_ok (sp := sQ) (K := []) (SP := []) (HS := []) (N := 0) (fuel := 120) hIQ (fun _ h => absurd h List.not_mem_nil) (by decide +kernel)
def kq_690 : ek := (201, [.inr 86, .inl (0, 1), .inl (0, 15), .inl (0, 15)], [], [(109, 999)], [(none, [])], 0, 0)
/-- LoadsAheadModel feels -/
theorem qk_690 (l : Launch) : ek_ok l tQ iQ kq_690 := ek_good_ok (sp := sQ) (K := []) (SP := []) (HS := []) (N := 0) (fuel := 120) hIQ (fun _ h => absurd h List.not_mem_nil) (by decide +kernel)
def kq_693 : ek := (201, [.inr 86, .inl (0, 19), .inl (0, 19), .inl (0, 15)], [], [(109, 999)], [(none, [])], 0, 0)
/-- LoadsAheadModel feels -/
theorem qk_693 (l : Launch) : ek_ok l tQ iQ kq_693 := ek_good_ok (sp := sQ) (K := []) (SP := []) (HS := []) (N := 0) (fuel := 120) hIQ (fun _ h => absurd h List.not_mem_nil) (by decide +kernel)
def kq_695 : ek := (201, [.inr 86, .inl (0, 19), .inl (0, 19), .inl (0, 0)], [], [(109, 999)], [(none, [])], 0, 0)
/-- LoadsAheadModel feels -/
theorem qk_695 (l : Launch) : ek_ok l tQ iQ kq_695 := ek_good_ok (sp := sQ) (K := []) (SP := []) (HS := []) (N := 0) (fuel := 120) hIQ (fun _ h => absurd h List.not_mem_nil) (by decide +kernel)
def kq_703 : ek := (201, [.inr 86, .inl (0, 0), .inl (0, 19), .inl (0, 15)], [], [(109, 999)], [(none, [])], 0, 0)
/-- LoadsAheadModel feels -/
theorem qk_703 (l : Launch) : ek_ok l tQ iQ kq_703 := ek_good_ok (sp := sQ) (K := []) (SP := []) (HS := []) (N := 0) (fuel := 120) hIQ (fun _ h => absurd h List.not_mem_nil) (by decide +kernel)
def kq_705 : ek := (201, [.inr 86, .inl (0, 15), .inl (0, 19), .inl (0, 15)], [], [(109, 999)], [(none, [])], 0, 0)
/-- LoadsAheadModel feels -/
theorem qk_705 (l : Launch) : ek_ok l tQ iQ kq_705 := ek_good_ok (sp := sQ) (K := []) (SP := []) (HS := []) (N := 0) (fuel := 120) hIQ (fun _ h => absurd h List.not_mem_nil) (by decide +kernel)
def kq_707 : ek := (201, [.inr 86, .inl (0, 7), .inl (0, 19), .inl (0, 15)], [], [(109, 999)], [(none, [])], 0, 0)
/-- LoadsAheadModel feels -/
theorem qk_707 (l : Launch) : ek_ok l tQ iQ kq_707 := ek_good_ok (sp := sQ) (K := []) (SP := []) (HS := []) (N := 0) (fuel := 120) hIQ (fun _ h => absurd h List.not_mem_nil) (by decide +kernel)
def kq_709 : ek := (201, [.inr 86, .inl (0, 3), .inl (0, 19), .inl (0, 15)], [], [(109, 999)], [(none, [])], 0, 0)
/-- LoadsAheadModel feels -/
theorem qk_709 (l : Launch) : ek_ok l tQ iQ kq_709 := ek_good_ok (sp := sQ) (K := []) (SP := []) (HS := []) (N := 0) (fuel := 120) hIQ (fun _ h => absurd h List.not_mem_nil) (by decide +kernel)
def kq_711 : ek := (201, [.inr 86, .inl (0, 1), .inl (0, 19), .inl (0, 15)], [], [(109, 999)], [(none, [])], 0, 0)
/-- LoadsAheadModel feels -/
theorem qk_711 (l : Launch) : ek_ok l tQ iQ kq_711 := ek_good_ok (sp := sQ) (K := []) (SP := []) (HS := []) (N := 0) (fuel := 120) hIQ (fun _ h => absurd h List.not_mem_nil) (by decide +kernel)
def kq_714 : ek := (201, [.inr 86, .inl (0, 19), .inl (0, 20), .inl (0, 15)], [], [(109, 999)], [(none, [])], 0, 0)
/-- LoadsAheadModel feels -/
theorem qk_714 (l : Launch) : ek_ok l tQ iQ kq_714 := ek_good_ok (sp := sQ) (K := []) (SP := []) (HS := []) (N := 0) (fuel := 120) hIQ (fun _ h => absurd h List.not_mem_nil) (by decide +kernel)
def kq_716 : ek := (201, [.inr 86, .inl (0, 19), .inl (0, 20), .inl (0, 0)], [], [(109, 999)], [(none, [])], 0, 0)
/-- LoadsAheadModel feels -/
theorem qk_716 (l : Launch) : ek_ok l tQ iQ kq_716 := ek_good_ok (sp := sQ) (K := []) (SP := []) (HS := []) (N := 0) (fuel := 120) hIQ (fun _ h => absurd h List.not_mem_nil) (by decide +kernel)
def kq_724 : ek := (201, [.inr 86, .inl (0, 0), .inl (0, 20), .inl (0, 15)], [], [(109, 999)], [(none, [])], 0, 0)
/-- LoadsAheadModel feels -/
theorem qk_724 (l : Launch) : ek_ok l tQ iQ kq_724 := ek_good_ok (sp := sQ) (K := []) (SP := []) (HS := []) (N := 0) (fuel := 120) hIQ (fun _ h => absurd h List.not_mem_nil) (by decide +kernel)
def kq_726 : ek := (201, [.inr 86, .inl (0, 15), .inl (0, 20), .inl (0, 15)], [], [(109, 999)], [(none, [])], 0, 0)
/-- LoadsAheadModel feels -/
theorem qk_726 (l : Launch) : ek_ok l tQ iQ kq_726 := ek_good_ok (sp := sQ) (K := []) (SP := []) (HS := []) (N := 0) (fuel := 120) hIQ (fun _ h => absurd h List.not_mem_nil) (by decide +kernel)
def kq_728 : ek := (201, [.inr 86, .inl (0, 7), .inl (0, 20), .inl (0, 15)], [], [(109, 999)], [(none, [])], 0, 0)
/-- LoadsAheadModel feels -/
theorem qk_728 (l : Launch) : ek_ok l tQ iQ kq_728 := ek_good_ok (sp := sQ) (K := []) (SP := []) (HS := []) (N := 0) (fuel := 120) hIQ (fun _ h => absurd h List.not_mem_nil) (by decide +kernel)
def kq_730 : ek := (201, [.inr 86, .inl (0, 3), .inl (0, 20), .inl (0, 15)], [], [(109, 999)], [(none, [])], 0, 0)
/-- LoadsAheadModel feels -/
theorem qk_730 (l : Launch) : ek_ok l tQ iQ kq_730 := ek_good_ok (sp := sQ) (K := []) (SP := []) (HS := []) (N := 0) (fuel := 120) hIQ (fun _ h => absurd h List.not_mem_nil) (by decide +kernel)
def kq_732 : ek := (201, [.inr 86, .inl (0, 1), .inl (0, 20), .inl (0, 15)], [], [(109, 999)], [(none, [])], 0, 0)
/-- LoadsAheadModel feels -/
theorem qk_732 (l : Launch) : ek_ok l tQ iQ kq_732 := ek_good_ok (sp := sQ) (K := []) (SP := []) (HS := []) (N := 0) (fuel := 120) hIQ (fun _ h => absurd h List.not_mem_nil) (by decide +kernel)
def kq_735 : ek := (201, [.inr 86, .inl (0, 19), .inl (0, 63), .inl (0, 15)], [], [(109, 999)], [(none, [])], 0, 0)
/-- LoadsAheadModel feels -/
theorem qk_735 (l : Launch) : ek_ok l tQ iQ kq_735 := ek_good_ok (sp := sQ) (K := []) (SP := []) (HS := []) (N := 0) (fuel := 120) hIQ (fun _ h => absurd h List.not_mem_nil) (by decide +kernel)
def kq_737 : ek := (201, [.inr 86, .inl (0, 19), .inl (0, 63), .inl (0, 0)], [], [(109, 999)], [(none, [])], 0, 0)
/-- LoadsAheadModel feels -/
theorem qk_737 (l : Launch) : ek_ok l tQ iQ kq_737 := ek_good_ok (sp := sQ) (K := []) (SP := []) (HS := []) (N := 0) (fuel := 120) hIQ (fun _ h => absurd h List.not_mem_nil) (by decide +kernel)
def kq_745 : ek := (201, [.inr 86, .inl (0, 0), .inl (0, 63), .inl (0, 15)], [], [(109, 999)], [(none, [])], 0, 0)
/-- LoadsAheadModel feels -/
theorem qk_745 (l : Launch) : ek_ok l tQ iQ kq_745 := ek_good_ok (sp := sQ) (K := []) (SP := []) (HS := []) (N := 0) (fuel := 120) hIQ (fun _ h => absurd h List.not_mem_nil) (by decide +kernel)
def kq_747 : ek := (201, [.inr 86, .inl (0, 15), .inl (0, 63), .inl (0, 15)], [], [(109, 999)], [(none, [])], 0, 0)
/-- LoadsAheadModel feels -/
theorem qk_747 (l : Launch) : ek_ok l tQ iQ kq_747 := ek_good_ok (sp := sQ) (K := []) (SP := []) (HS := []) (N := 0) (fuel := 120) hIQ (fun _ h => absurd h List.not_mem_nil) (by decide +kernel)
def kq_749 : ek := (201, [.inr 86, .inl (0, 7), .inl (0, 63), .inl (0, 15)], [], [(109, 999)], [(none, [])], 0, 0)
/-- LoadsAheadModel feels -/
theorem qk_749 (l : Launch) : ek_ok l tQ iQ kq_749 := ek_good_ok (sp := sQ) (K := []) (SP := []) (HS := []) (N := 0) (fuel := 120) hIQ (fun _ h => absurd h List.not_mem_nil) (by decide +kernel)
def kq_751 : ek := (201, [.inr 86, .inl (0, 3), .inl (0, 63), .inl (0, 15)], [], [(109, 999)], [(none, [])], 0, 0)
/-- LoadsAheadModel feels -/
theorem qk_751 (l : Launch) : ek_ok l tQ iQ kq_751 := ek_good_ok (sp := sQ) (K := []) (SP := []) (HS := []) (N := 0) (fuel := 120) hIQ (fun _ h => absurd h List.not_mem_nil) (by decide +kernel)
def kq_753 : ek := (201, [.inr 86, .inl (0, 1), .inl (0, 63), .inl (0, 15)], [], [(109, 999)], [(none, [])], 0, 0)
/-- LoadsAheadModel feels -/
theorem qk_753 (l : Launch) : ek_ok l tQ iQ kq_753 := ek_good_ok (sp := sQ) (K := []) (SP := []) (HS := []) (N := 0) (fuel := 120) hIQ (fun _ h => absurd h List.not_mem_nil) (by decide +kernel)
def kq_756 : ek := (201, [.inr 86, .inl (0, 19), .inl (0, 64), .inl (0, 15)], [], [(109, 999)], [(none, [])], 0, 0)
/-- LoadsAheadModel feels -/
theorem qk_756 (l : Launch) : ek_ok l tQ iQ kq_756 := ek_good_ok (sp := sQ) (K := []) (SP := []) (HS := []) (N := 0) (fuel := 120) hIQ (fun _ h => absurd h List.not_mem_nil) (by decide +kernel)
def kq_758 : ek := (201, [.inr 86, .inl (0, 19), .inl (0, 64), .inl (0, 0)], [], [(109, 999)], [(none, [])], 0, 0)
/-- LoadsAheadModel feels -/
theorem qk_758 (l : Launch) : ek_ok l tQ iQ kq_758 := ek_good_ok (sp := sQ) (K := []) (SP := []) (HS := []) (N := 0) (fuel := 120) hIQ (fun _ h => absurd h List.not_mem_nil) (by decide +kernel)
def kq_766 : ek := (201, [.inr 86, .inl (0, 0), .inl (0, 64), .inl (0, 15)], [], [(109, 999)], [(none, [])], 0, 0)
/-- LoadsAheadModel feels -/
theorem qk_766 (l : Launch) : ek_ok l tQ iQ kq_766 := ek_good_ok (sp := sQ) (K := []) (SP := []) (HS := []) (N := 0) (fuel := 120) hIQ (fun _ h => absurd h List.not_mem_nil) (by decide +kernel)
def kq_768 : ek := (201, [.inr 86, .inl (0, 15), .inl (0, 64), .inl (0, 15)], [], [(109, 999)], [(none, [])], 0, 0)
/-- LoadsAheadModel feels -/
theorem qk_768 (l : Launch) : ek_ok l tQ iQ kq_768 := ek_good_ok (sp := sQ) (K := []) (SP := []) (HS := []) (N := 0) (fuel := 120) hIQ (fun _ h => absurd h List.not_mem_nil) (by decide +kernel)
def kq_770 : ek := (201, [.inr 86, .inl (0, 7), .inl (0, 64), .inl (0, 15)], [], [(109, 999)], [(none, [])], 0, 0)
/-- LoadsAheadModel feels -/
theorem qk_770 (l : Launch) : ek_ok l tQ iQ kq_770 := ek_good_ok (sp := sQ) (K := []) (SP := []) (HS := []) (N := 0) (fuel := 120) hIQ (fun _ h => absurd h List.not_mem_nil) (by decide +kernel)
def kq_772 : ek := (201, [.inr 86, .inl (0, 3), .inl (0, 64), .inl (0, 15)], [], [(109, 999)], [(none, [])], 0, 0)
/-- LoadsAheadModel feels -/
theorem qk_772 (l : Launch) : ek_ok l tQ iQ kq_772 := ek_good_ok (sp := sQ) (K := []) (SP := []) (HS := []) (N := 0) (fuel := 120) hIQ (fun _ h => absurd h List.not_mem_nil) (by decide +kernel)
def kq_774 : ek := (201, [.inr 86, .inl (0, 1), .inl (0, 64), .inl (0, 15)], [], [(109, 999)], [(none, [])], 0, 0)
/-- LoadsAheadModel feels -/
theorem qk_774 (l : Launch) : ek_ok l tQ iQ kq_774 := ek_good_ok (sp := sQ) (K := []) (SP := []) (HS := []) (N := 0) (fuel := 120) hIQ (fun _ h => absurd h List.not_mem_nil) (by decide +kernel)
