def kq_747 : ek := (201, [.inr 86, .inl (0, 19), .inl (0, 63), .inl (0, 0)], [], [(109, 999)], [(none, [])], 0, 0)
/-- LoadsAheadModel feels -/
theorem qk_747 (l : Launch) : ek_ok l tQ iQ kq_747 := ek_good_ok (sp := sQ) (K := []) (SP := []) (HS := []) (N := 0) (fuel := 120) hIQ (fun _ h => absurd h List.not_mem_nil) (by decide +kernel)
def kq_755 : ek := (201, [.inr 86, .inl (0, 0), .inl (0, 63), .inl (0, 15)], [], [(109, 999)], [(none, [])], 0, 0)
/-- LoadsAheadModel feels -/
theorem qk_755 (l : Launch) : ek_ok l tQ iQ kq_755 := ek_good_ok (sp := sQ) (K := []) (SP := []) (HS := []) (N := 0) (fuel := 120) hIQ (fun _ h => absurd h List.not_mem_nil) (by decide +kernel)
def kq_757 : ek := (201, [.inr 86, .inl (0, 15), .inl (0, 63), .inl (0, 15)], [], [(109, 999)], [(none, [])], 0, 0)
/-- LoadsAheadModel feels -/
theorem qk_757 (l : Launch) : ek_ok l tQ iQ kq_757 := ek_good_ok (sp := sQ) (K := []) (SP := []) (HS := []) (N := 0) (fuel := 120) hIQ (fun _ h => absurd h List.not_mem_nil) (by decide +kernel)
def kq_759 : ek := (201, [.inr 86, .inl (0, 7), .inl (0, 63), .inl (0, 15)], [], [(109, 999)], [(none, [])], 0, 0)
/-- LoadsAheadModel feels -/
theorem qk_759 (l : Launch) : ek_ok l tQ iQ kq_759 := ek_good_ok (sp := sQ) (K := []) (SP := []) (HS := []) (N := 0) (fuel := 120) hIQ (fun _ h => absurd h List.not_mem_nil) (by decide +kernel)
def kq_761 : ek := (201, [.inr 86, .inl (0, 3), .inl (0, 63), .inl (0, 15)], [], [(109, 999)], [(none, [])], 0, 0)
/-- LoadsAheadModel feels -/
theorem qk_761 (l : Launch) : ek_ok l tQ iQ kq_761 := ek_good_ok (sp := sQ) (K := []) (SP := []) (HS := []) (N := 0) (fuel := 120) hIQ (fun _ h => absurd h List.not_mem_nil) (by decide +kernel)
def kq_763 : ek := (201, [.inr 86, .inl (0, 1), .inl (0, 63), .inl (0, 15)], [], [(109, 999)], [(none, [])], 0, 0)
/-- LoadsAheadModel feels -/
theorem qk_763 (l : Launch) : ek_ok l tQ iQ kq_763 := ek_good_ok (sp := sQ) (K := []) (SP := []) (HS := []) (N := 0) (fuel := 120) hIQ (fun _ h => absurd h List.not_mem_nil) (by decide +kernel)
def kq_766 : ek := (201, [.inr 86, .inl (0, 19), .inl (0, 64), .inl (0, 15)], [], [(109, 999)], [(none, [])], 0, 0)
/-- LoadsAheadModel feels -/
theorem qk_766 (l : Launch) : ek_ok l tQ iQ kq_766 := ek_good_ok (sp := sQ) (K := []) (SP := []) (HS := []) (N := 0) (fuel := 120) hIQ (fun _ h => absurd h List.not_mem_nil) (by decide +kernel)
def kq_768 : ek := (201, [.inr 86, .inl (0, 19), .inl (0, 64), .inl (0, 0)], [], [(109, 999)], [(none, [])], 0, 0)
/-- LoadsAheadModel feels -/
theorem qk_768 (l : Launch) : ek_ok l tQ iQ kq_768 := ek_good_ok (sp := sQ) (K := []) (SP := []) (HS := []) (N := 0) (fuel := 120) hIQ (fun _ h => absurd h List.not_mem_nil) (by decide +kernel)
def kq_776 : ek := (201, [.inr 86, .inl (0, 0), .inl (0, 64), .inl (0, 15)], [], [(109, 999)], [(none, [])], 0, 0)
/-- LoadsAheadModel feels -/
theorem qk_776 (l : Launch) : ek_ok l tQ iQ kq_776 := ek_good_ok (sp := sQ) (K := []) (SP := []) (HS := []) (N := 0) (fuel := 120) hIQ (fun _ h => absurd h List.not_mem_nil) (by decide +kernel)
def kq_778 : ek := (201, [.inr 86, .inl (0, 15), .inl (0, 64), .inl (0, 15)], [], [(109, 999)], [(none, [])], 0, 0)
/-- LoadsAheadModel feels -/
theorem qk_778 (l : Launch) : ek_ok l tQ iQ kq_778 := ek_good_ok (sp := sQ) (K := []) (SP := []) (HS := []) (N := 0) (fuel := 120) hIQ (fun _ h => absurd h List.not_mem_nil) (by decide +kernel)
def kq_780 : ek := (201, [.inr 86, .inl (0, 7), .inl (0, 64), .inl (0, 15)], [], [(109, 999)], [(none, [])], 0, 0)
/-- LoadsAheadModel feels -/
theorem qk_780 (l : Launch) : ek_ok l tQ iQ kq_780 := ek_good_ok (sp := sQ) (K := []) (SP := []) (HS := []) (N := 0) (fuel := 120) hIQ (fun _ h => absurd h List.not_mem_nil) (by decide +kernel)
def kq_782 : ek := (201, [.inr 86, .inl (0, 3), .inl (0, 64), .inl (0, 15)], [], [(109, 999)], [(none, [])], 0, 0)
/-- LoadsAheadModel feels -/
theorem qk_782 (l : Launch) : ek_ok l tQ iQ kq_782 := ek_good_ok (sp := sQ) (K := []) (SP := []) (HS := []) (N := 0) (fuel := 120) hIQ (fun _ h => absurd h List.not_mem_nil) (by decide +kernel)
def kq_784 : ek := (201, [.inr 86, .inl (0, 1), .inl (0, 64), .inl (0, 15)], [], [(109, 999)], [(none, [])], 0, 0)
/-- LoadsAheadModel feels -/
theorem qk_784 (l : Launch) : ek_ok l tQ iQ kq_784 := ek_good_ok (sp := sQ) (K := []) (SP := []) (HS := []) (N := 0) (fuel := 120) hIQ (fun _ h => absurd h List.not_mem_nil) (by decide +kernel)
def kq_787 : ek := (201, [.inr 86, .inl (0, 19), .inl (0, 240), .inl (0, 15)], [], [(109, 999)], [(none, [])], 0, 0)
/-- LoadsAheadModel feels -/
theorem qk_787 (l : Launch) : ek_ok l tQ iQ kq_787 := ek_good_ok (sp := sQ) (K := []) (SP := []) (HS := []) (N := 0) (fuel := 120) hIQ (fun _ h => absurd h List.not_mem_nil) (by decide +kernel)
def kq_789 : ek := (201, [.inr 86, .inl (0, 19), .inl (0, 240), .inl (0, 0)], [], [(109, 999)], [(none, [])], 0, 0)
/-- LoadsAheadModel feels -/
theorem qk_789 (l : Launch) : ek_ok l tQ iQ kq_789 := ek_good_ok (sp := sQ) (K := []) (SP := []) (HS := []) (N := 0) (fuel := 120) hIQ (fun _ h => absurd h List.not_mem_nil) (by decide +kernel)
def kq_797 : ek := (201, [.inr 86, .inl (0, 0), .inl (0, 240), .inl (0, 15)], [], [(109, 999)], [(none, [])], 0, 0)
/-- LoadsAheadModel feels -/
theorem qk_797 (l : Launch) : ek_ok l tQ iQ kq_797 := ek_good_ok (sp := sQ) (K := []) (SP := []) (HS := []) (N := 0) (fuel := 120) hIQ (fun _ h => absurd h List.not_mem_nil) (by decide +kernel)
def kq_799 : ek := (201, [.inr 86, .inl (0, 15), .inl (0, 240), .inl (0, 15)], [], [(109, 999)], [(none, [])], 0, 0)
/-- LoadsAheadModel feels -/
theorem qk_799 (l : Launch) : ek_ok l tQ iQ kq_799 := ek_good_ok (sp := sQ) (K := []) (SP := []) (HS := []) (N := 0) (fuel := 120) hIQ (fun _ h => absurd h List.not_mem_nil) (by decide +kernel)
def kq_801 : ek := (201, [.inr 86, .inl (0, 7), .inl (0, 240), .inl (0, 15)], [], [(109, 999)], [(none, [])], 0, 0)
/-- LoadsAheadModel feels -/
theorem qk_801 (l : Launch) : ek_ok l tQ iQ kq_801 := ek_good_ok (sp := sQ) (K := []) (SP := []) (HS := []) (N := 0) (fuel := 120) hIQ (fun _ h => absurd h List.not_mem_nil) (by decide +kernel)
def kq_803 : ek := (201, [.inr 86, .inl (0, 3), .inl (0, 240), .inl (0, 15)], [], [(109, 999)], [(none, [])], 0, 0)
/-- LoadsAheadModel feels -/
theorem qk_803 (l : Launch) : ek_ok l tQ iQ kq_803 := ek_good_ok (sp := sQ) (K := []) (SP := []) (HS := []) (N := 0) (fuel := 120) hIQ (fun _ h => absurd h List.not_mem_nil) (by decide +kernel)
def kq_805 : ek := (201, [.inr 86, .inl (0, 1), .inl (0, 240), .inl (0, 15)], [], [(109, 999)], [(none, [])], 0, 0)
/-- LoadsAheadModel feels -/
theorem qk_805 (l : Launch) : ek_ok l tQ iQ kq_805 := ek_good_ok (sp := sQ) (K := []) (SP := []) (HS := []) (N := 0) (fuel := 120) hIQ (fun _ h => absurd h List.not_mem_nil) (by decide +kernel)
def kq_808 : ek := (201, [.inr 86, .inl (0, 19), .inl (0, 255), .inl (0, 15)], [], [(109, 999)], [(none, [])], 0, 0)
/-- LoadsAheadModel feels -/
theorem qk_808 (l : Launch) : ek_ok l tQ iQ kq_808 := ek_good_ok (sp := sQ) (K := []) (SP := []) (HS := []) (N := 0) (fuel := 120) hIQ (fun _ h => absurd h List.not_mem_nil) (by decide +kernel)
def kq_810 : ek := (201, [.inr 86, .inl (0, 19), .inl (0, 255), .inl (0, 0)], [], [(109, 999)], [(none, [])], 0, 0)
/-- LoadsAheadModel feels -/
theorem qk_810 (l : Launch) : ek_ok l tQ iQ kq_810 := ek_good_ok (sp := sQ) (K := []) (SP := []) (HS := []) (N := 0) (fuel := 120) hIQ (fun _ h => absurd h List.not_mem_nil) (by decide +kernel)
def kq_818 : ek := (201, [.inr 86, .inl (0, 0), .inl (0, 255), .inl (0, 15)], [], [(109, 999)], [(none, [])], 0, 0)
/-- LoadsAheadModel feels -/
theorem qk_818 (l : Launch) : ek_ok l tQ iQ kq_818 := ek_good_ok (sp := sQ) (K := []) (SP := []) (HS := []) (N := 0) (fuel := 120) hIQ (fun _ h => absurd h List.not_mem_nil) (by decide +kernel)
def kq_820 : ek := (201, [.inr 86, .inl (0, 15), .inl (0, 255), .inl (0, 15)], [], [(109, 999)], [(none, [])], 0, 0)
/-- LoadsAheadModel feels -/
theorem qk_820 (l : Launch) : ek_ok l tQ iQ kq_820 := ek_good_ok (sp := sQ) (K := []) (SP := []) (HS := []) (N := 0) (fuel := 120) hIQ (fun _ h => absurd h List.not_mem_nil) (by decide +kernel)
def kq_822 : ek := (201, [.inr 86, .inl (0, 7), .inl (0, 255), .inl (0, 15)], [], [(109, 999)], [(none, [])], 0, 0)
/-- LoadsAheadModel feels -/
theorem qk_822 (l : Launch) : ek_ok l tQ iQ kq_822 := ek_good_ok (sp := sQ) (K := []) (SP := []) (HS := []) (N := 0) (fuel := 120) hIQ (fun _ h => absurd h List.not_mem_nil) (by decide +kernel)
def kq_824 : ek := (201, [.inr 86, .inl (0, 3), .inl (0, 255), .inl (0, 15)], [], [(109, 999)], [(none, [])], 0, 0)
/-- LoadsAheadModel feels -/
theorem qk_824 (l : Launch) : ek_ok l tQ iQ kq_824 := ek_good_ok (sp := sQ) (K := []) (SP := []) (HS := []) (N := 0) (fuel := 120) hIQ (fun _ h => absurd h List.not_mem_nil) (by decide +kernel)
def kq_826 : ek := (201, [.inr 86, .inl (0, 1), .inl (0, 255), .inl (0, 15)], [], [(109, 999)], [(none, [])], 0, 0)
/-- LoadsAheadModel feels -/
theorem qk_826 (l : Launch) : ek_ok l tQ iQ kq_826 := ek_good_ok (sp := sQ) (K := []) (SP := []) (HS := []) (N := 0) (fuel := 120) hIQ (fun _ h => absurd h List.not_mem_nil) (by decide +kernel)
def kq_829 : ek := (201, [.inr 86, .inl (0, 19), .inl (0, 260), .inl (0, 15)], [], [(109, 999)], [(none, [])], 0, 0)
/-- LoadsAheadModel feels -/
theorem qk_829 (l : Launch) : ek_ok l tQ iQ kq_829 := ek_good_ok (sp := sQ) (K := []) (SP := []) (HS := []) (N := 0) (fuel := 120) hIQ (fun _ h => absurd h List.not_mem_nil) (by decide +kernel)
def kq_831 : ek := (201, [.inr 86, .inl (0, 19), .inl (0, 260), .inl (0, 0)], [], [(109, 999)], [(none, [])], 0, 0)
/-- LoadsAheadModel feels -/
theorem qk_831 (l : Launch) : ek_ok l tQ iQ kq_831 := ek_good_ok (sp := sQ) (K := []) (SP := []) (HS := []) (N := 0) (fuel := 120) hIQ (fun _ h => absurd h List.not_mem_nil) (by decide +kernel)
def kq_839 : ek := (201, [.inr 86, .inl (0, 0), .inl (0, 260), .inl (0, 15)], [], [(109, 999)], [(none, [])], 0, 0)
/-- LoadsAheadModel feels -/
theorem qk_839 (l : Launch) : ek_ok l tQ iQ kq_839 := ek_good_ok (sp := sQ) (K := []) (SP := []) (HS := []) (N := 0) (fuel := 120) hIQ (fun _ h => absurd h List.not_mem_nil) (by decide +kernel)
def kq_841 : ek := (201, [.inr 86, .inl (0, 15), .inl (0, 260), .inl (0, 15)], [], [(109, 999)], [(none, [])], 0, 0)
/-- LoadsAheadModel feels -/
theorem qk_841 (l : Launch) : ek_ok l tQ iQ kq_841 := ek_good_ok (sp := sQ) (K := []) (SP := []) (HS := []) (N := 0) (fuel := 120) hIQ (fun _ h => absurd h List.not_mem_nil) (by decide +kernel)
def kq_843 : ek := (201, [.inr 86, .inl (0, 7), .inl (0, 260), .inl (0, 15)], [], [(109, 999)], [(none, [])], 0, 0)
/-- LoadsAheadModel feels -/
theorem qk_843 (l : Launch) : ek_ok l tQ iQ kq_843 := ek_good_ok (sp := sQ) (K := []) (SP := []) (HS := []) (N := 0) (fuel := 120) hIQ (fun _ h => absurd h List.not_mem_nil) (by decide +kernel)
def kq_845 : ek := (201, [.inr 86, .inl (0, 3), .inl (0, 260), .inl (0, 15)], [], [(109, 999)], [(none, [])], 0, 0)
/-- LoadsAheadModel feels -/
theorem qk_845 (l : Launch) : ek_ok l tQ iQ kq_845 := ek_good_ok (sp := sQ) (K := []) (SP := []) (HS := []) (N := 0) (fuel := 120) hIQ (fun _ h => absurd h List.not_mem_nil) (by decide +kernel)
def kq_847 : ek := (201, [.inr 86, .inl (0, 1), .inl (0, 260), .inl (0, 15)], [], [(109, 999)], [(none, [])], 0, 0)
/-- LoadsAheadModel feels -/
theorem qk_847 (l : Launch) : ek_ok l tQ iQ kq_847 := ek_good_ok (sp := sQ) (K := []) (SP := []) (HS := []) (N := 0) (fuel := 120) hIQ (fun _ h => absurd h List.not_mem_nil) (by decide +kernel)
