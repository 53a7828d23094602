def kq_2000 : ek := (24, [.inr 59, .inr 3, .inl (6, 6)], [], [(1, 3), (1, 4), (57, 8), (61, 999), (62, 999)], [(some (.inl (1, 1)), [((2, 1, 2), (1, 260), none)]), (some (.inl (0, 0)), [])], 6, 200)
/-- LoadsAhead.Law readFactor -/
theorem qk_2000 (l : Launch) {P : (Nat → Int) → (Nat → Int) → Int → Prop} (hP : pC P) : ek_ok l tQ (cP P) kq_2000 := by
  refine hk_ek (J := fun _ _ w => cP P w) (I' := cP P) ?_ (fun w h => h) (fun i x w w' _ _ h => h)
  refine hk_ok_of (o := 0) (r := (yX0_readFactor, prog_2_method_12_code, 5, some .boolean)) rfl rfl (by decide +kernel) (by decide) rfl (fun p e s m args below meth c D tys aK aV b0 ad w0 C hret => ?_)
  refine hv_go C cP_hI (ek_wr kq_2000) [kq_35, kq_36, kq_37, kq_39, kq_40, kq_42, (kA (-1, 255) (0, 6)), (kA (48, 48) ((-2147483648), 2147483647))] (6, 200) [] [(44, [none, none, none, none, none], [(.inl (0, 0), ev_nt)], [], []), (44, [none, none, none, none, none], [(.inl (1, 1), ev_nt)], [((2, 1, 2), (1, 260), none)], []), (79, [none, none, none, none, none], [(.inl (0, 0), ev_nt)], [], []), (79, [none, none, none, none, none], [(.inl (1, 1), ev_nt)], [((2, 1, 2), (1, 260), none)], []), (108, [none, none, none, none, none], [(.inl (0, 0), ev_nt)], [], []), (89, [some (.inr 59, none), some (.inr 3, none), some (.inl (6, 6), none), some (.inl (-1, 255), none), none], [], [((2, 1, 2), (1, 260), none)], [])] 80 ⟨rfl, rfl⟩ (by decide +kernel) ⟨(ek_upS cP_hI (fun _ _ => trivial) rfl (qk_35 l)), (ek_upS cP_hI (fun _ _ => trivial) rfl (qk_36 l)), (ek_upS cP_hI (fun _ _ => trivial) rfl (qk_37 l)), (ek_upS cP_hI (fun _ _ => trivial) rfl (qk_39 l)), (ek_upS cP_hI (fun _ _ => trivial) rfl (qk_40 l)), (ek_upS cP_hI (fun _ _ => trivial) rfl (qk_42 l)), (aK_1 l hP), (aK_0 l hP), trivial⟩ ⟨?_, ?_, ?_, ?_, ?_, ?_, trivial⟩
  · exact hs_iret C (i := 1) (fun ls w x _ _ _ hI hx _ => hI) hret rfl rfl rfl (by decide) rfl rfl rfl (by decide +kernel)
  · exact hs_iret C (i := 0) (fun ls w x _ _ _ hI hx _ => hI) hret rfl rfl rfl (by decide) rfl rfl rfl (by decide +kernel)
  · exact hs_iret C (i := 1) (fun ls w x _ _ _ hI hx _ => hI) hret rfl rfl rfl (by decide) rfl rfl rfl (by decide +kernel)
  · exact hs_iret C (i := 0) (fun ls w x _ _ _ hI hx _ => hI) hret rfl rfl rfl (by decide) rfl rfl rfl (by decide +kernel)
  · exact hs_iret C (i := 1) (fun ls w x _ _ _ hI hx _ => hI) hret rfl rfl rfl (by decide) rfl rfl rfl (by decide +kernel)
  · refine hs_idx C rfl (by decide) (by decide) ?_
    refine hv_go C cP_hI (ek_wr kq_2000) [kq_35, kq_36, kq_37, kq_39, kq_40, kq_42, (kA (-1, 255) (0, 6)), (kA (48, 48) ((-2147483648), 2147483647))] (6, 200) [] [(108, [none, none, none, none, none], [(.inl (0, 0), ev_nt)], [], []), (123, [none, none, none, none, none], [(.inl (1, 1), ev_nt)], [((2, 1, 2), (1, 260), none)], [])] 80 ⟨rfl, rfl⟩ (by decide +kernel) ⟨(ek_upS cP_hI (fun _ _ => trivial) rfl (qk_35 l)), (ek_upS cP_hI (fun _ _ => trivial) rfl (qk_36 l)), (ek_upS cP_hI (fun _ _ => trivial) rfl (qk_37 l)), (ek_upS cP_hI (fun _ _ => trivial) rfl (qk_39 l)), (ek_upS cP_hI (fun _ _ => trivial) rfl (qk_40 l)), (ek_upS cP_hI (fun _ _ => trivial) rfl (qk_42 l)), (aK_1 l hP), (aK_0 l hP), trivial⟩ ⟨?_, ?_, trivial⟩
    · exact hs_iret C (i := 1) (fun ls w x _ _ _ hI hx _ => hI) hret rfl rfl rfl (by decide) rfl rfl rfl (by decide +kernel)
    · exact hs_iret C (i := 0) (fun ls w x _ _ _ hI hx _ => hI) hret rfl rfl rfl (by decide) rfl rfl rfl (by decide +kernel)
def kq_2001 : ek := (23, [.inr 59, .inr 3, .inl (6, 6)], [], [(1, 3), (1, 4), (57, 8), (61, 999), (62, 999)], [(some (.inl (0, 0)), []), (some (.inl (1, 1)), [])], 7, 224)
/-- LoadsAhead.Law readProduct -/
theorem qk_2001 (l : Launch) {P : (Nat → Int) → (Nat → Int) → Int → Prop} (hP : pC P) : ek_ok l tQ (cP P) kq_2001 := ek_good_ok (sp := sC) (K := [kq_35, kq_37, kq_2000, kq_44, kq_45, (kA (-1, 255) (0, 6))]) (SP := []) (HS := [((13, [some (.inr 59, none), some (.inr 3, none), some (.inl (6, 6), none), some (.inl (0, 240), none), none], [], [], []), [(0, (0, 0, 0), 0), (1, (1, 3, 0), 240), (0, (0, 0, 0), 0)])]) (N := 3) (fuel := 64) cP_hI (List.forall_mem_cons.mpr ⟨(ek_upS cP_hI (fun _ _ => trivial) rfl (qk_35 l)), List.forall_mem_cons.mpr ⟨(ek_upS cP_hI (fun _ _ => trivial) rfl (qk_37 l)), List.forall_mem_cons.mpr ⟨(qk_2000 l hP), List.forall_mem_cons.mpr ⟨(ek_upS cP_hI (fun _ _ => trivial) rfl (qk_44 l)), List.forall_mem_cons.mpr ⟨(ek_upS cP_hI (fun _ _ => trivial) rfl (qk_45 l)), List.forall_mem_cons.mpr ⟨(aK_1 l hP), fun _ h => absurd h List.not_mem_nil⟩⟩⟩⟩⟩⟩) (by decide +kernel)
def kq_2002 : ek := (22, [.inr 59, .inr 3, .inl (6, 6)], [], [(1, 3), (1, 4), (57, 8), (61, 999), (62, 999)], [(some (.inl (1, 1)), []), (some (.inl (0, 0)), [])], 8, 248)
/-- LoadsAhead.Law readSum -/
theorem qk_2002 (l : Launch) {P : (Nat → Int) → (Nat → Int) → Int → Prop} (hP : pC P) : ek_ok l tQ (cP P) kq_2002 := ek_good_ok (sp := sC) (K := [kq_35, kq_37, kq_2001, kq_47, kq_48, (kA (-1, 255) (0, 6))]) (SP := []) (HS := [((13, [some (.inr 59, none), some (.inr 3, none), some (.inl (6, 6), none), some (.inl (0, 240), none), none], [], [], []), [(0, (0, 0, 0), 0), (1, (1, 3, 0), 240), (0, (0, 0, 0), 0)])]) (N := 3) (fuel := 64) cP_hI (List.forall_mem_cons.mpr ⟨(ek_upS cP_hI (fun _ _ => trivial) rfl (qk_35 l)), List.forall_mem_cons.mpr ⟨(ek_upS cP_hI (fun _ _ => trivial) rfl (qk_37 l)), List.forall_mem_cons.mpr ⟨(qk_2001 l hP), List.forall_mem_cons.mpr ⟨(ek_upS cP_hI (fun _ _ => trivial) rfl (qk_47 l)), List.forall_mem_cons.mpr ⟨(ek_upS cP_hI (fun _ _ => trivial) rfl (qk_48 l)), List.forall_mem_cons.mpr ⟨(aK_1 l hP), fun _ h => absurd h List.not_mem_nil⟩⟩⟩⟩⟩⟩) (by decide +kernel)
def kq_2003 : ek := (24, [.inr 59, .inr 3, .inl (5, 5)], [], [(1, 3), (1, 4), (57, 8), (61, 999), (62, 999)], [(some (.inl (1, 1)), [((2, 1, 2), (1, 260), none)]), (some (.inl (0, 0)), [])], 9, 272)
/-- LoadsAhead.Law readFactor -/
theorem qk_2003 (l : Launch) {P : (Nat → Int) → (Nat → Int) → Int → Prop} (hP : pC P) : ek_ok l tQ (cP P) kq_2003 := by
  refine hk_ek (J := fun _ _ w => cP P w) (I' := cP P) ?_ (fun w h => h) (fun i x w w' _ _ h => h)
  refine hk_ok_of (o := 0) (r := (yX0_readFactor, prog_2_method_12_code, 5, some .boolean)) rfl rfl (by decide +kernel) (by decide) rfl (fun p e s m args below meth c D tys aK aV b0 ad w0 C hret => ?_)
  refine hv_go C cP_hI (ek_wr kq_2003) [kq_35, kq_36, kq_37, kq_2002, kq_50, kq_51, kq_40, kq_42, (kA (-1, 255) (0, 6)), (kA (48, 48) ((-2147483648), 2147483647))] (9, 272) [] [(44, [none, none, none, none, none], [(.inl (0, 0), ev_nt)], [], []), (44, [none, none, none, none, none], [(.inl (1, 1), ev_nt)], [((2, 1, 2), (1, 260), none)], []), (79, [none, none, none, none, none], [(.inl (0, 0), ev_nt)], [], []), (79, [none, none, none, none, none], [(.inl (1, 1), ev_nt)], [((2, 1, 2), (1, 260), none)], []), (108, [none, none, none, none, none], [(.inl (0, 0), ev_nt)], [], []), (89, [some (.inr 59, none), some (.inr 3, none), some (.inl (5, 5), none), some (.inl (-1, 255), none), none], [], [((2, 1, 2), (1, 260), none)], [])] 80 ⟨rfl, rfl⟩ (by decide +kernel) ⟨(ek_upS cP_hI (fun _ _ => trivial) rfl (qk_35 l)), (ek_upS cP_hI (fun _ _ => trivial) rfl (qk_36 l)), (ek_upS cP_hI (fun _ _ => trivial) rfl (qk_37 l)), (qk_2002 l hP), (ek_upS cP_hI (fun _ _ => trivial) rfl (qk_50 l)), (ek_upS cP_hI (fun _ _ => trivial) rfl (qk_51 l)), (ek_upS cP_hI (fun _ _ => trivial) rfl (qk_40 l)), (ek_upS cP_hI (fun _ _ => trivial) rfl (qk_42 l)), (aK_1 l hP), (aK_0 l hP), trivial⟩ ⟨?_, ?_, ?_, ?_, ?_, ?_, trivial⟩
  · exact hs_iret C (i := 1) (fun ls w x _ _ _ hI hx _ => hI) hret rfl rfl rfl (by decide) rfl rfl rfl (by decide +kernel)
  · exact hs_iret C (i := 0) (fun ls w x _ _ _ hI hx _ => hI) hret rfl rfl rfl (by decide) rfl rfl rfl (by decide +kernel)
  · exact hs_iret C (i := 1) (fun ls w x _ _ _ hI hx _ => hI) hret rfl rfl rfl (by decide) rfl rfl rfl (by decide +kernel)
  · exact hs_iret C (i := 0) (fun ls w x _ _ _ hI hx _ => hI) hret rfl rfl rfl (by decide) rfl rfl rfl (by decide +kernel)
  · exact hs_iret C (i := 1) (fun ls w x _ _ _ hI hx _ => hI) hret rfl rfl rfl (by decide) rfl rfl rfl (by decide +kernel)
  · refine hs_idx C rfl (by decide) (by decide) ?_
    refine hv_go C cP_hI (ek_wr kq_2003) [kq_35, kq_36, kq_37, kq_2002, kq_50, kq_51, kq_40, kq_42, (kA (-1, 255) (0, 6)), (kA (48, 48) ((-2147483648), 2147483647))] (9, 272) [] [(108, [none, none, none, none, none], [(.inl (0, 0), ev_nt)], [], []), (123, [none, none, none, none, none], [(.inl (1, 1), ev_nt)], [((2, 1, 2), (1, 260), none)], [])] 80 ⟨rfl, rfl⟩ (by decide +kernel) ⟨(ek_upS cP_hI (fun _ _ => trivial) rfl (qk_35 l)), (ek_upS cP_hI (fun _ _ => trivial) rfl (qk_36 l)), (ek_upS cP_hI (fun _ _ => trivial) rfl (qk_37 l)), (qk_2002 l hP), (ek_upS cP_hI (fun _ _ => trivial) rfl (qk_50 l)), (ek_upS cP_hI (fun _ _ => trivial) rfl (qk_51 l)), (ek_upS cP_hI (fun _ _ => trivial) rfl (qk_40 l)), (ek_upS cP_hI (fun _ _ => trivial) rfl (qk_42 l)), (aK_1 l hP), (aK_0 l hP), trivial⟩ ⟨?_, ?_, trivial⟩
    · exact hs_iret C (i := 1) (fun ls w x _ _ _ hI hx _ => hI) hret rfl rfl rfl (by decide) rfl rfl rfl (by decide +kernel)
    · exact hs_iret C (i := 0) (fun ls w x _ _ _ hI hx _ => hI) hret rfl rfl rfl (by decide) rfl rfl rfl (by decide +kernel)
def kq_2004 : ek := (23, [.inr 59, .inr 3, .inl (5, 5)], [], [(1, 3), (1, 4), (57, 8), (61, 999), (62, 999)], [(some (.inl (0, 0)), []), (some (.inl (1, 1)), [])], 10, 296)
/-- LoadsAhead.Law readProduct -/
theorem qk_2004 (l : Launch) {P : (Nat → Int) → (Nat → Int) → Int → Prop} (hP : pC P) : ek_ok l tQ (cP P) kq_2004 := ek_good_ok (sp := sC) (K := [kq_35, kq_37, kq_2003, kq_44, kq_45, (kA (-1, 255) (0, 6))]) (SP := []) (HS := [((13, [some (.inr 59, none), some (.inr 3, none), some (.inl (5, 5), none), some (.inl (0, 240), none), none], [], [], []), [(0, (0, 0, 0), 0), (1, (1, 3, 0), 240), (0, (0, 0, 0), 0)])]) (N := 3) (fuel := 64) cP_hI (List.forall_mem_cons.mpr ⟨(ek_upS cP_hI (fun _ _ => trivial) rfl (qk_35 l)), List.forall_mem_cons.mpr ⟨(ek_upS cP_hI (fun _ _ => trivial) rfl (qk_37 l)), List.forall_mem_cons.mpr ⟨(qk_2003 l hP), List.forall_mem_cons.mpr ⟨(ek_upS cP_hI (fun _ _ => trivial) rfl (qk_44 l)), List.forall_mem_cons.mpr ⟨(ek_upS cP_hI (fun _ _ => trivial) rfl (qk_45 l)), List.forall_mem_cons.mpr ⟨(aK_1 l hP), fun _ h => absurd h List.not_mem_nil⟩⟩⟩⟩⟩⟩) (by decide +kernel)
def kq_2005 : ek := (22, [.inr 59, .inr 3, .inl (5, 5)], [], [(1, 3), (1, 4), (57, 8), (61, 999), (62, 999)], [(some (.inl (1, 1)), []), (some (.inl (0, 0)), [])], 11, 320)
/-- LoadsAhead.Law readSum -/
theorem qk_2005 (l : Launch) {P : (Nat → Int) → (Nat → Int) → Int → Prop} (hP : pC P) : ek_ok l tQ (cP P) kq_2005 := ek_good_ok (sp := sC) (K := [kq_35, kq_37, kq_2004, kq_47, kq_48, (kA (-1, 255) (0, 6))]) (SP := []) (HS := [((13, [some (.inr 59, none), some (.inr 3, none), some (.inl (5, 5), none), some (.inl (0, 240), none), none], [], [], []), [(0, (0, 0, 0), 0), (1, (1, 3, 0), 240), (0, (0, 0, 0), 0)])]) (N := 3) (fuel := 64) cP_hI (List.forall_mem_cons.mpr ⟨(ek_upS cP_hI (fun _ _ => trivial) rfl (qk_35 l)), List.forall_mem_cons.mpr ⟨(ek_upS cP_hI (fun _ _ => trivial) rfl (qk_37 l)), List.forall_mem_cons.mpr ⟨(qk_2004 l hP), List.forall_mem_cons.mpr ⟨(ek_upS cP_hI (fun _ _ => trivial) rfl (qk_47 l)), List.forall_mem_cons.mpr ⟨(ek_upS cP_hI (fun _ _ => trivial) rfl (qk_48 l)), List.forall_mem_cons.mpr ⟨(aK_1 l hP), fun _ h => absurd h List.not_mem_nil⟩⟩⟩⟩⟩⟩) (by decide +kernel)
def kq_2006 : ek := (24, [.inr 59, .inr 3, .inl (4, 4)], [], [(1, 3), (1, 4), (57, 8), (61, 999), (62, 999)], [(some (.inl (1, 1)), [((2, 1, 2), (1, 260), none)]), (some (.inl (0, 0)), [])], 12, 344)
/-- LoadsAhead.Law readFactor -/
theorem qk_2006 (l : Launch) {P : (Nat → Int) → (Nat → Int) → Int → Prop} (hP : pC P) : ek_ok l tQ (cP P) kq_2006 := by
  refine hk_ek (J := fun _ _ w => cP P w) (I' := cP P) ?_ (fun w h => h) (fun i x w w' _ _ h => h)
  refine hk_ok_of (o := 0) (r := (yX0_readFactor, prog_2_method_12_code, 5, some .boolean)) rfl rfl (by decide +kernel) (by decide) rfl (fun p e s m args below meth c D tys aK aV b0 ad w0 C hret => ?_)
  refine hv_go C cP_hI (ek_wr kq_2006) [kq_35, kq_36, kq_37, kq_2005, kq_55, kq_51, kq_40, kq_42, (kA (-1, 255) (0, 6)), (kA (48, 48) ((-2147483648), 2147483647))] (12, 344) [] [(44, [none, none, none, none, none], [(.inl (0, 0), ev_nt)], [], []), (44, [none, none, none, none, none], [(.inl (1, 1), ev_nt)], [((2, 1, 2), (1, 260), none)], []), (79, [none, none, none, none, none], [(.inl (0, 0), ev_nt)], [], []), (79, [none, none, none, none, none], [(.inl (1, 1), ev_nt)], [((2, 1, 2), (1, 260), none)], []), (108, [none, none, none, none, none], [(.inl (0, 0), ev_nt)], [], []), (89, [some (.inr 59, none), some (.inr 3, none), some (.inl (4, 4), none), some (.inl (-1, 255), none), none], [], [((2, 1, 2), (1, 260), none)], [])] 80 ⟨rfl, rfl⟩ (by decide +kernel) ⟨(ek_upS cP_hI (fun _ _ => trivial) rfl (qk_35 l)), (ek_upS cP_hI (fun _ _ => trivial) rfl (qk_36 l)), (ek_upS cP_hI (fun _ _ => trivial) rfl (qk_37 l)), (qk_2005 l hP), (ek_upS cP_hI (fun _ _ => trivial) rfl (qk_55 l)), (ek_upS cP_hI (fun _ _ => trivial) rfl (qk_51 l)), (ek_upS cP_hI (fun _ _ => trivial) rfl (qk_40 l)), (ek_upS cP_hI (fun _ _ => trivial) rfl (qk_42 l)), (aK_1 l hP), (aK_0 l hP), trivial⟩ ⟨?_, ?_, ?_, ?_, ?_, ?_, trivial⟩
  · exact hs_iret C (i := 1) (fun ls w x _ _ _ hI hx _ => hI) hret rfl rfl rfl (by decide) rfl rfl rfl (by decide +kernel)
  · exact hs_iret C (i := 0) (fun ls w x _ _ _ hI hx _ => hI) hret rfl rfl rfl (by decide) rfl rfl rfl (by decide +kernel)
  · exact hs_iret C (i := 1) (fun ls w x _ _ _ hI hx _ => hI) hret rfl rfl rfl (by decide) rfl rfl rfl (by decide +kernel)
  · exact hs_iret C (i := 0) (fun ls w x _ _ _ hI hx _ => hI) hret rfl rfl rfl (by decide) rfl rfl rfl (by decide +kernel)
  · exact hs_iret C (i := 1) (fun ls w x _ _ _ hI hx _ => hI) hret rfl rfl rfl (by decide) rfl rfl rfl (by decide +kernel)
  · refine hs_idx C rfl (by decide) (by decide) ?_
    refine hv_go C cP_hI (ek_wr kq_2006) [kq_35, kq_36, kq_37, kq_2005, kq_55, kq_51, kq_40, kq_42, (kA (-1, 255) (0, 6)), (kA (48, 48) ((-2147483648), 2147483647))] (12, 344) [] [(108, [none, none, none, none, none], [(.inl (0, 0), ev_nt)], [], []), (123, [none, none, none, none, none], [(.inl (1, 1), ev_nt)], [((2, 1, 2), (1, 260), none)], [])] 80 ⟨rfl, rfl⟩ (by decide +kernel) ⟨(ek_upS cP_hI (fun _ _ => trivial) rfl (qk_35 l)), (ek_upS cP_hI (fun _ _ => trivial) rfl (qk_36 l)), (ek_upS cP_hI (fun _ _ => trivial) rfl (qk_37 l)), (qk_2005 l hP), (ek_upS cP_hI (fun _ _ => trivial) rfl (qk_55 l)), (ek_upS cP_hI (fun _ _ => trivial) rfl (qk_51 l)), (ek_upS cP_hI (fun _ _ => trivial) rfl (qk_40 l)), (ek_upS cP_hI (fun _ _ => trivial) rfl (qk_42 l)), (aK_1 l hP), (aK_0 l hP), trivial⟩ ⟨?_, ?_, trivial⟩
    · exact hs_iret C (i := 1) (fun ls w x _ _ _ hI hx _ => hI) hret rfl rfl rfl (by decide) rfl rfl rfl (by decide +kernel)
    · exact hs_iret C (i := 0) (fun ls w x _ _ _ hI hx _ => hI) hret rfl rfl rfl (by decide) rfl rfl rfl (by decide +kernel)
def kq_2007 : ek := (23, [.inr 59, .inr 3, .inl (4, 4)], [], [(1, 3), (1, 4), (57, 8), (61, 999), (62, 999)], [(some (.inl (0, 0)), []), (some (.inl (1, 1)), [])], 13, 368)
/-- LoadsAhead.Law readProduct -/
theorem qk_2007 (l : Launch) {P : (Nat → Int) → (Nat → Int) → Int → Prop} (hP : pC P) : ek_ok l tQ (cP P) kq_2007 := ek_good_ok (sp := sC) (K := [kq_35, kq_37, kq_2006, kq_44, kq_45, (kA (-1, 255) (0, 6))]) (SP := []) (HS := [((13, [some (.inr 59, none), some (.inr 3, none), some (.inl (4, 4), none), some (.inl (0, 240), none), none], [], [], []), [(0, (0, 0, 0), 0), (1, (1, 3, 0), 240), (0, (0, 0, 0), 0)])]) (N := 3) (fuel := 64) cP_hI (List.forall_mem_cons.mpr ⟨(ek_upS cP_hI (fun _ _ => trivial) rfl (qk_35 l)), List.forall_mem_cons.mpr ⟨(ek_upS cP_hI (fun _ _ => trivial) rfl (qk_37 l)), List.forall_mem_cons.mpr ⟨(qk_2006 l hP), List.forall_mem_cons.mpr ⟨(ek_upS cP_hI (fun _ _ => trivial) rfl (qk_44 l)), List.forall_mem_cons.mpr ⟨(ek_upS cP_hI (fun _ _ => trivial) rfl (qk_45 l)), List.forall_mem_cons.mpr ⟨(aK_1 l hP), fun _ h => absurd h List.not_mem_nil⟩⟩⟩⟩⟩⟩) (by decide +kernel)
def kq_2008 : ek := (22, [.inr 59, .inr 3, .inl (4, 4)], [], [(1, 3), (1, 4), (57, 8), (61, 999), (62, 999)], [(some (.inl (1, 1)), []), (some (.inl (0, 0)), [])], 14, 392)
/-- LoadsAhead.Law readSum -/
theorem qk_2008 (l : Launch) {P : (Nat → Int) → (Nat → Int) → Int → Prop} (hP : pC P) : ek_ok l tQ (cP P) kq_2008 := ek_good_ok (sp := sC) (K := [kq_35, kq_37, kq_2007, kq_47, kq_48, (kA (-1, 255) (0, 6))]) (SP := []) (HS := [((13, [some (.inr 59, none), some (.inr 3, none), some (.inl (4, 4), none), some (.inl (0, 240), none), none], [], [], []), [(0, (0, 0, 0), 0), (1, (1, 3, 0), 240), (0, (0, 0, 0), 0)])]) (N := 3) (fuel := 64) cP_hI (List.forall_mem_cons.mpr ⟨(ek_upS cP_hI (fun _ _ => trivial) rfl (qk_35 l)), List.forall_mem_cons.mpr ⟨(ek_upS cP_hI (fun _ _ => trivial) rfl (qk_37 l)), List.forall_mem_cons.mpr ⟨(qk_2007 l hP), List.forall_mem_cons.mpr ⟨(ek_upS cP_hI (fun _ _ => trivial) rfl (qk_47 l)), List.forall_mem_cons.mpr ⟨(ek_upS cP_hI (fun _ _ => trivial) rfl (qk_48 l)), List.forall_mem_cons.mpr ⟨(aK_1 l hP), fun _ h => absurd h List.not_mem_nil⟩⟩⟩⟩⟩⟩) (by decide +kernel)
def kq_2009 : ek := (24, [.inr 59, .inr 3, .inl (3, 3)], [], [(1, 3), (1, 4), (57, 8), (61, 999), (62, 999)], [(some (.inl (1, 1)), [((2, 1, 2), (1, 260), none)]), (some (.inl (0, 0)), [])], 15, 416)
/-- LoadsAhead.Law readFactor -/
theorem qk_2009 (l : Launch) {P : (Nat → Int) → (Nat → Int) → Int → Prop} (hP : pC P) : ek_ok l tQ (cP P) kq_2009 := by
  refine hk_ek (J := fun _ _ w => cP P w) (I' := cP P) ?_ (fun w h => h) (fun i x w w' _ _ h => h)
  refine hk_ok_of (o := 0) (r := (yX0_readFactor, prog_2_method_12_code, 5, some .boolean)) rfl rfl (by decide +kernel) (by decide) rfl (fun p e s m args below meth c D tys aK aV b0 ad w0 C hret => ?_)
  refine hv_go C cP_hI (ek_wr kq_2009) [kq_35, kq_36, kq_37, kq_2008, kq_59, kq_51, kq_40, kq_42, (kA (-1, 255) (0, 6)), (kA (48, 48) ((-2147483648), 2147483647))] (15, 416) [] [(44, [none, none, none, none, none], [(.inl (0, 0), ev_nt)], [], []), (44, [none, none, none, none, none], [(.inl (1, 1), ev_nt)], [((2, 1, 2), (1, 260), none)], []), (79, [none, none, none, none, none], [(.inl (0, 0), ev_nt)], [], []), (79, [none, none, none, none, none], [(.inl (1, 1), ev_nt)], [((2, 1, 2), (1, 260), none)], []), (108, [none, none, none, none, none], [(.inl (0, 0), ev_nt)], [], []), (89, [some (.inr 59, none), some (.inr 3, none), some (.inl (3, 3), none), some (.inl (-1, 255), none), none], [], [((2, 1, 2), (1, 260), none)], [])] 80 ⟨rfl, rfl⟩ (by decide +kernel) ⟨(ek_upS cP_hI (fun _ _ => trivial) rfl (qk_35 l)), (ek_upS cP_hI (fun _ _ => trivial) rfl (qk_36 l)), (ek_upS cP_hI (fun _ _ => trivial) rfl (qk_37 l)), (qk_2008 l hP), (ek_upS cP_hI (fun _ _ => trivial) rfl (qk_59 l)), (ek_upS cP_hI (fun _ _ => trivial) rfl (qk_51 l)), (ek_upS cP_hI (fun _ _ => trivial) rfl (qk_40 l)), (ek_upS cP_hI (fun _ _ => trivial) rfl (qk_42 l)), (aK_1 l hP), (aK_0 l hP), trivial⟩ ⟨?_, ?_, ?_, ?_, ?_, ?_, trivial⟩
  · exact hs_iret C (i := 1) (fun ls w x _ _ _ hI hx _ => hI) hret rfl rfl rfl (by decide) rfl rfl rfl (by decide +kernel)
  · exact hs_iret C (i := 0) (fun ls w x _ _ _ hI hx _ => hI) hret rfl rfl rfl (by decide) rfl rfl rfl (by decide +kernel)
  · exact hs_iret C (i := 1) (fun ls w x _ _ _ hI hx _ => hI) hret rfl rfl rfl (by decide) rfl rfl rfl (by decide +kernel)
  · exact hs_iret C (i := 0) (fun ls w x _ _ _ hI hx _ => hI) hret rfl rfl rfl (by decide) rfl rfl rfl (by decide +kernel)
  · exact hs_iret C (i := 1) (fun ls w x _ _ _ hI hx _ => hI) hret rfl rfl rfl (by decide) rfl rfl rfl (by decide +kernel)
  · refine hs_idx C rfl (by decide) (by decide) ?_
    refine hv_go C cP_hI (ek_wr kq_2009) [kq_35, kq_36, kq_37, kq_2008, kq_59, kq_51, kq_40, kq_42, (kA (-1, 255) (0, 6)), (kA (48, 48) ((-2147483648), 2147483647))] (15, 416) [] [(108, [none, none, none, none, none], [(.inl (0, 0), ev_nt)], [], []), (123, [none, none, none, none, none], [(.inl (1, 1), ev_nt)], [((2, 1, 2), (1, 260), none)], [])] 80 ⟨rfl, rfl⟩ (by decide +kernel) ⟨(ek_upS cP_hI (fun _ _ => trivial) rfl (qk_35 l)), (ek_upS cP_hI (fun _ _ => trivial) rfl (qk_36 l)), (ek_upS cP_hI (fun _ _ => trivial) rfl (qk_37 l)), (qk_2008 l hP), (ek_upS cP_hI (fun _ _ => trivial) rfl (qk_59 l)), (ek_upS cP_hI (fun _ _ => trivial) rfl (qk_51 l)), (ek_upS cP_hI (fun _ _ => trivial) rfl (qk_40 l)), (ek_upS cP_hI (fun _ _ => trivial) rfl (qk_42 l)), (aK_1 l hP), (aK_0 l hP), trivial⟩ ⟨?_, ?_, trivial⟩
    · exact hs_iret C (i := 1) (fun ls w x _ _ _ hI hx _ => hI) hret rfl rfl rfl (by decide) rfl rfl rfl (by decide +kernel)
    · exact hs_iret C (i := 0) (fun ls w x _ _ _ hI hx _ => hI) hret rfl rfl rfl (by decide) rfl rfl rfl (by decide +kernel)
def kq_2010 : ek := (23, [.inr 59, .inr 3, .inl (3, 3)], [], [(1, 3), (1, 4), (57, 8), (61, 999), (62, 999)], [(some (.inl (0, 0)), []), (some (.inl (1, 1)), [])], 16, 440)
/-- LoadsAhead.Law readProduct -/
theorem qk_2010 (l : Launch) {P : (Nat → Int) → (Nat → Int) → Int → Prop} (hP : pC P) : ek_ok l tQ (cP P) kq_2010 := ek_good_ok (sp := sC) (K := [kq_35, kq_37, kq_2009, kq_44, kq_45, (kA (-1, 255) (0, 6))]) (SP := []) (HS := [((13, [some (.inr 59, none), some (.inr 3, none), some (.inl (3, 3), none), some (.inl (0, 240), none), none], [], [], []), [(0, (0, 0, 0), 0), (1, (1, 3, 0), 240), (0, (0, 0, 0), 0)])]) (N := 3) (fuel := 64) cP_hI (List.forall_mem_cons.mpr ⟨(ek_upS cP_hI (fun _ _ => trivial) rfl (qk_35 l)), List.forall_mem_cons.mpr ⟨(ek_upS cP_hI (fun _ _ => trivial) rfl (qk_37 l)), List.forall_mem_cons.mpr ⟨(qk_2009 l hP), List.forall_mem_cons.mpr ⟨(ek_upS cP_hI (fun _ _ => trivial) rfl (qk_44 l)), List.forall_mem_cons.mpr ⟨(ek_upS cP_hI (fun _ _ => trivial) rfl (qk_45 l)), List.forall_mem_cons.mpr ⟨(aK_1 l hP), fun _ h => absurd h List.not_mem_nil⟩⟩⟩⟩⟩⟩) (by decide +kernel)
def kq_2011 : ek := (22, [.inr 59, .inr 3, .inl (3, 3)], [], [(1, 3), (1, 4), (57, 8), (61, 999), (62, 999)], [(some (.inl (1, 1)), []), (some (.inl (0, 0)), [])], 17, 464)
/-- LoadsAhead.Law readSum -/
theorem qk_2011 (l : Launch) {P : (Nat → Int) → (Nat → Int) → Int → Prop} (hP : pC P) : ek_ok l tQ (cP P) kq_2011 := ek_good_ok (sp := sC) (K := [kq_35, kq_37, kq_2010, kq_47, kq_48, (kA (-1, 255) (0, 6))]) (SP := []) (HS := [((13, [some (.inr 59, none), some (.inr 3, none), some (.inl (3, 3), none), some (.inl (0, 240), none), none], [], [], []), [(0, (0, 0, 0), 0), (1, (1, 3, 0), 240), (0, (0, 0, 0), 0)])]) (N := 3) (fuel := 64) cP_hI (List.forall_mem_cons.mpr ⟨(ek_upS cP_hI (fun _ _ => trivial) rfl (qk_35 l)), List.forall_mem_cons.mpr ⟨(ek_upS cP_hI (fun _ _ => trivial) rfl (qk_37 l)), List.forall_mem_cons.mpr ⟨(qk_2010 l hP), List.forall_mem_cons.mpr ⟨(ek_upS cP_hI (fun _ _ => trivial) rfl (qk_47 l)), List.forall_mem_cons.mpr ⟨(ek_upS cP_hI (fun _ _ => trivial) rfl (qk_48 l)), List.forall_mem_cons.mpr ⟨(aK_1 l hP), fun _ h => absurd h List.not_mem_nil⟩⟩⟩⟩⟩⟩) (by decide +kernel)
def kq_2012 : ek := (24, [.inr 59, .inr 3, .inl (2, 2)], [], [(1, 3), (1, 4), (57, 8), (61, 999), (62, 999)], [(some (.inl (1, 1)), [((2, 1, 2), (1, 260), none)]), (some (.inl (0, 0)), [])], 18, 488)
/-- LoadsAhead.Law readFactor -/
theorem qk_2012 (l : Launch) {P : (Nat → Int) → (Nat → Int) → Int → Prop} (hP : pC P) : ek_ok l tQ (cP P) kq_2012 := by
  refine hk_ek (J := fun _ _ w => cP P w) (I' := cP P) ?_ (fun w h => h) (fun i x w w' _ _ h => h)
  refine hk_ok_of (o := 0) (r := (yX0_readFactor, prog_2_method_12_code, 5, some .boolean)) rfl rfl (by decide +kernel) (by decide) rfl (fun p e s m args below meth c D tys aK aV b0 ad w0 C hret => ?_)
  refine hv_go C cP_hI (ek_wr kq_2012) [kq_35, kq_36, kq_37, kq_2011, kq_63, kq_51, kq_40, kq_42, (kA (-1, 255) (0, 6)), (kA (48, 48) ((-2147483648), 2147483647))] (18, 488) [] [(44, [none, none, none, none, none], [(.inl (0, 0), ev_nt)], [], []), (44, [none, none, none, none, none], [(.inl (1, 1), ev_nt)], [((2, 1, 2), (1, 260), none)], []), (79, [none, none, none, none, none], [(.inl (0, 0), ev_nt)], [], []), (79, [none, none, none, none, none], [(.inl (1, 1), ev_nt)], [((2, 1, 2), (1, 260), none)], []), (108, [none, none, none, none, none], [(.inl (0, 0), ev_nt)], [], []), (89, [some (.inr 59, none), some (.inr 3, none), some (.inl (2, 2), none), some (.inl (-1, 255), none), none], [], [((2, 1, 2), (1, 260), none)], [])] 80 ⟨rfl, rfl⟩ (by decide +kernel) ⟨(ek_upS cP_hI (fun _ _ => trivial) rfl (qk_35 l)), (ek_upS cP_hI (fun _ _ => trivial) rfl (qk_36 l)), (ek_upS cP_hI (fun _ _ => trivial) rfl (qk_37 l)), (qk_2011 l hP), (ek_upS cP_hI (fun _ _ => trivial) rfl (qk_63 l)), (ek_upS cP_hI (fun _ _ => trivial) rfl (qk_51 l)), (ek_upS cP_hI (fun _ _ => trivial) rfl (qk_40 l)), (ek_upS cP_hI (fun _ _ => trivial) rfl (qk_42 l)), (aK_1 l hP), (aK_0 l hP), trivial⟩ ⟨?_, ?_, ?_, ?_, ?_, ?_, trivial⟩
  · exact hs_iret C (i := 1) (fun ls w x _ _ _ hI hx _ => hI) hret rfl rfl rfl (by decide) rfl rfl rfl (by decide +kernel)
  · exact hs_iret C (i := 0) (fun ls w x _ _ _ hI hx _ => hI) hret rfl rfl rfl (by decide) rfl rfl rfl (by decide +kernel)
  · exact hs_iret C (i := 1) (fun ls w x _ _ _ hI hx _ => hI) hret rfl rfl rfl (by decide) rfl rfl rfl (by decide +kernel)
  · exact hs_iret C (i := 0) (fun ls w x _ _ _ hI hx _ => hI) hret rfl rfl rfl (by decide) rfl rfl rfl (by decide +kernel)
  · exact hs_iret C (i := 1) (fun ls w x _ _ _ hI hx _ => hI) hret rfl rfl rfl (by decide) rfl rfl rfl (by decide +kernel)
  · refine hs_idx C rfl (by decide) (by decide) ?_
    refine hv_go C cP_hI (ek_wr kq_2012) [kq_35, kq_36, kq_37, kq_2011, kq_63, kq_51, kq_40, kq_42, (kA (-1, 255) (0, 6)), (kA (48, 48) ((-2147483648), 2147483647))] (18, 488) [] [(108, [none, none, none, none, none], [(.inl (0, 0), ev_nt)], [], []), (123, [none, none, none, none, none], [(.inl (1, 1), ev_nt)], [((2, 1, 2), (1, 260), none)], [])] 80 ⟨rfl, rfl⟩ (by decide +kernel) ⟨(ek_upS cP_hI (fun _ _ => trivial) rfl (qk_35 l)), (ek_upS cP_hI (fun _ _ => trivial) rfl (qk_36 l)), (ek_upS cP_hI (fun _ _ => trivial) rfl (qk_37 l)), (qk_2011 l hP), (ek_upS cP_hI (fun _ _ => trivial) rfl (qk_63 l)), (ek_upS cP_hI (fun _ _ => trivial) rfl (qk_51 l)), (ek_upS cP_hI (fun _ _ => trivial) rfl (qk_40 l)), (ek_upS cP_hI (fun _ _ => trivial) rfl (qk_42 l)), (aK_1 l hP), (aK_0 l hP), trivial⟩ ⟨?_, ?_, trivial⟩
    · exact hs_iret C (i := 1) (fun ls w x _ _ _ hI hx _ => hI) hret rfl rfl rfl (by decide) rfl rfl rfl (by decide +kernel)
    · exact hs_iret C (i := 0) (fun ls w x _ _ _ hI hx _ => hI) hret rfl rfl rfl (by decide) rfl rfl rfl (by decide +kernel)
def kq_2013 : ek := (23, [.inr 59, .inr 3, .inl (2, 2)], [], [(1, 3), (1, 4), (57, 8), (61, 999), (62, 999)], [(some (.inl (0, 0)), []), (some (.inl (1, 1)), [])], 19, 512)
/-- LoadsAhead.Law readProduct -/
theorem qk_2013 (l : Launch) {P : (Nat → Int) → (Nat → Int) → Int → Prop} (hP : pC P) : ek_ok l tQ (cP P) kq_2013 := ek_good_ok (sp := sC) (K := [kq_35, kq_37, kq_2012, kq_44, kq_45, (kA (-1, 255) (0, 6))]) (SP := []) (HS := [((13, [some (.inr 59, none), some (.inr 3, none), some (.inl (2, 2), none), some (.inl (0, 240), none), none], [], [], []), [(0, (0, 0, 0), 0), (1, (1, 3, 0), 240), (0, (0, 0, 0), 0)])]) (N := 3) (fuel := 64) cP_hI (List.forall_mem_cons.mpr ⟨(ek_upS cP_hI (fun _ _ => trivial) rfl (qk_35 l)), List.forall_mem_cons.mpr ⟨(ek_upS cP_hI (fun _ _ => trivial) rfl (qk_37 l)), List.forall_mem_cons.mpr ⟨(qk_2012 l hP), List.forall_mem_cons.mpr ⟨(ek_upS cP_hI (fun _ _ => trivial) rfl (qk_44 l)), List.forall_mem_cons.mpr ⟨(ek_upS cP_hI (fun _ _ => trivial) rfl (qk_45 l)), List.forall_mem_cons.mpr ⟨(aK_1 l hP), fun _ h => absurd h List.not_mem_nil⟩⟩⟩⟩⟩⟩) (by decide +kernel)
def kq_2014 : ek := (22, [.inr 59, .inr 3, .inl (2, 2)], [], [(1, 3), (1, 4), (57, 8), (61, 999), (62, 999)], [(some (.inl (1, 1)), []), (some (.inl (0, 0)), [])], 20, 536)
/-- LoadsAhead.Law readSum -/
theorem qk_2014 (l : Launch) {P : (Nat → Int) → (Nat → Int) → Int → Prop} (hP : pC P) : ek_ok l tQ (cP P) kq_2014 := ek_good_ok (sp := sC) (K := [kq_35, kq_37, kq_2013, kq_47, kq_48, (kA (-1, 255) (0, 6))]) (SP := []) (HS := [((13, [some (.inr 59, none), some (.inr 3, none), some (.inl (2, 2), none), some (.inl (0, 240), none), none], [], [], []), [(0, (0, 0, 0), 0), (1, (1, 3, 0), 240), (0, (0, 0, 0), 0)])]) (N := 3) (fuel := 64) cP_hI (List.forall_mem_cons.mpr ⟨(ek_upS cP_hI (fun _ _ => trivial) rfl (qk_35 l)), List.forall_mem_cons.mpr ⟨(ek_upS cP_hI (fun _ _ => trivial) rfl (qk_37 l)), List.forall_mem_cons.mpr ⟨(qk_2013 l hP), List.forall_mem_cons.mpr ⟨(ek_upS cP_hI (fun _ _ => trivial) rfl (qk_47 l)), List.forall_mem_cons.mpr ⟨(ek_upS cP_hI (fun _ _ => trivial) rfl (qk_48 l)), List.forall_mem_cons.mpr ⟨(aK_1 l hP), fun _ h => absurd h List.not_mem_nil⟩⟩⟩⟩⟩⟩) (by decide +kernel)
def kq_2015 : ek := (24, [.inr 59, .inr 3, .inl (1, 1)], [], [(1, 3), (1, 4), (57, 8), (61, 999), (62, 999)], [(some (.inl (1, 1)), [((2, 1, 2), (1, 260), none)]), (some (.inl (0, 0)), [])], 21, 560)
/-- LoadsAhead.Law readFactor -/
theorem qk_2015 (l : Launch) {P : (Nat → Int) → (Nat → Int) → Int → Prop} (hP : pC P) : ek_ok l tQ (cP P) kq_2015 := by
  refine hk_ek (J := fun _ _ w => cP P w) (I' := cP P) ?_ (fun w h => h) (fun i x w w' _ _ h => h)
  refine hk_ok_of (o := 0) (r := (yX0_readFactor, prog_2_method_12_code, 5, some .boolean)) rfl rfl (by decide +kernel) (by decide) rfl (fun p e s m args below meth c D tys aK aV b0 ad w0 C hret => ?_)
  refine hv_go C cP_hI (ek_wr kq_2015) [kq_35, kq_36, kq_37, kq_2014, kq_67, kq_51, kq_40, kq_42, (kA (-1, 255) (0, 6)), (kA (48, 48) ((-2147483648), 2147483647))] (21, 560) [] [(44, [none, none, none, none, none], [(.inl (0, 0), ev_nt)], [], []), (44, [none, none, none, none, none], [(.inl (1, 1), ev_nt)], [((2, 1, 2), (1, 260), none)], []), (79, [none, none, none, none, none], [(.inl (0, 0), ev_nt)], [], []), (79, [none, none, none, none, none], [(.inl (1, 1), ev_nt)], [((2, 1, 2), (1, 260), none)], []), (108, [none, none, none, none, none], [(.inl (0, 0), ev_nt)], [], []), (89, [some (.inr 59, none), some (.inr 3, none), some (.inl (1, 1), none), some (.inl (-1, 255), none), none], [], [((2, 1, 2), (1, 260), none)], [])] 80 ⟨rfl, rfl⟩ (by decide +kernel) ⟨(ek_upS cP_hI (fun _ _ => trivial) rfl (qk_35 l)), (ek_upS cP_hI (fun _ _ => trivial) rfl (qk_36 l)), (ek_upS cP_hI (fun _ _ => trivial) rfl (qk_37 l)), (qk_2014 l hP), (ek_upS cP_hI (fun _ _ => trivial) rfl (qk_67 l)), (ek_upS cP_hI (fun _ _ => trivial) rfl (qk_51 l)), (ek_upS cP_hI (fun _ _ => trivial) rfl (qk_40 l)), (ek_upS cP_hI (fun _ _ => trivial) rfl (qk_42 l)), (aK_1 l hP), (aK_0 l hP), trivial⟩ ⟨?_, ?_, ?_, ?_, ?_, ?_, trivial⟩
  · exact hs_iret C (i := 1) (fun ls w x _ _ _ hI hx _ => hI) hret rfl rfl rfl (by decide) rfl rfl rfl (by decide +kernel)
  · exact hs_iret C (i := 0) (fun ls w x _ _ _ hI hx _ => hI) hret rfl rfl rfl (by decide) rfl rfl rfl (by decide +kernel)
  · exact hs_iret C (i := 1) (fun ls w x _ _ _ hI hx _ => hI) hret rfl rfl rfl (by decide) rfl rfl rfl (by decide +kernel)
  · exact hs_iret C (i := 0) (fun ls w x _ _ _ hI hx _ => hI) hret rfl rfl rfl (by decide) rfl rfl rfl (by decide +kernel)
  · exact hs_iret C (i := 1) (fun ls w x _ _ _ hI hx _ => hI) hret rfl rfl rfl (by decide) rfl rfl rfl (by decide +kernel)
  · refine hs_idx C rfl (by decide) (by decide) ?_
    refine hv_go C cP_hI (ek_wr kq_2015) [kq_35, kq_36, kq_37, kq_2014, kq_67, kq_51, kq_40, kq_42, (kA (-1, 255) (0, 6)), (kA (48, 48) ((-2147483648), 2147483647))] (21, 560) [] [(108, [none, none, none, none, none], [(.inl (0, 0), ev_nt)], [], []), (123, [none, none, none, none, none], [(.inl (1, 1), ev_nt)], [((2, 1, 2), (1, 260), none)], [])] 80 ⟨rfl, rfl⟩ (by decide +kernel) ⟨(ek_upS cP_hI (fun _ _ => trivial) rfl (qk_35 l)), (ek_upS cP_hI (fun _ _ => trivial) rfl (qk_36 l)), (ek_upS cP_hI (fun _ _ => trivial) rfl (qk_37 l)), (qk_2014 l hP), (ek_upS cP_hI (fun _ _ => trivial) rfl (qk_67 l)), (ek_upS cP_hI (fun _ _ => trivial) rfl (qk_51 l)), (ek_upS cP_hI (fun _ _ => trivial) rfl (qk_40 l)), (ek_upS cP_hI (fun _ _ => trivial) rfl (qk_42 l)), (aK_1 l hP), (aK_0 l hP), trivial⟩ ⟨?_, ?_, trivial⟩
    · exact hs_iret C (i := 1) (fun ls w x _ _ _ hI hx _ => hI) hret rfl rfl rfl (by decide) rfl rfl rfl (by decide +kernel)
    · exact hs_iret C (i := 0) (fun ls w x _ _ _ hI hx _ => hI) hret rfl rfl rfl (by decide) rfl rfl rfl (by decide +kernel)
def kq_2016 : ek := (23, [.inr 59, .inr 3, .inl (1, 1)], [], [(1, 3), (1, 4), (57, 8), (61, 999), (62, 999)], [(some (.inl (0, 0)), []), (some (.inl (1, 1)), [])], 22, 584)
/-- LoadsAhead.Law readProduct -/
theorem qk_2016 (l : Launch) {P : (Nat → Int) → (Nat → Int) → Int → Prop} (hP : pC P) : ek_ok l tQ (cP P) kq_2016 := ek_good_ok (sp := sC) (K := [kq_35, kq_37, kq_2015, kq_44, kq_45, (kA (-1, 255) (0, 6))]) (SP := []) (HS := [((13, [some (.inr 59, none), some (.inr 3, none), some (.inl (1, 1), none), some (.inl (0, 240), none), none], [], [], []), [(0, (0, 0, 0), 0), (1, (1, 3, 0), 240), (0, (0, 0, 0), 0)])]) (N := 3) (fuel := 64) cP_hI (List.forall_mem_cons.mpr ⟨(ek_upS cP_hI (fun _ _ => trivial) rfl (qk_35 l)), List.forall_mem_cons.mpr ⟨(ek_upS cP_hI (fun _ _ => trivial) rfl (qk_37 l)), List.forall_mem_cons.mpr ⟨(qk_2015 l hP), List.forall_mem_cons.mpr ⟨(ek_upS cP_hI (fun _ _ => trivial) rfl (qk_44 l)), List.forall_mem_cons.mpr ⟨(ek_upS cP_hI (fun _ _ => trivial) rfl (qk_45 l)), List.forall_mem_cons.mpr ⟨(aK_1 l hP), fun _ h => absurd h List.not_mem_nil⟩⟩⟩⟩⟩⟩) (by decide +kernel)
def kq_2017 : ek := (22, [.inr 59, .inr 3, .inl (1, 1)], [], [(1, 3), (1, 4), (57, 8), (61, 999), (62, 999)], [(some (.inl (1, 1)), []), (some (.inl (0, 0)), [])], 23, 608)
/-- LoadsAhead.Law readSum -/
theorem qk_2017 (l : Launch) {P : (Nat → Int) → (Nat → Int) → Int → Prop} (hP : pC P) : ek_ok l tQ (cP P) kq_2017 := ek_good_ok (sp := sC) (K := [kq_35, kq_37, kq_2016, kq_47, kq_48, (kA (-1, 255) (0, 6))]) (SP := []) (HS := [((13, [some (.inr 59, none), some (.inr 3, none), some (.inl (1, 1), none), some (.inl (0, 240), none), none], [], [], []), [(0, (0, 0, 0), 0), (1, (1, 3, 0), 240), (0, (0, 0, 0), 0)])]) (N := 3) (fuel := 64) cP_hI (List.forall_mem_cons.mpr ⟨(ek_upS cP_hI (fun _ _ => trivial) rfl (qk_35 l)), List.forall_mem_cons.mpr ⟨(ek_upS cP_hI (fun _ _ => trivial) rfl (qk_37 l)), List.forall_mem_cons.mpr ⟨(qk_2016 l hP), List.forall_mem_cons.mpr ⟨(ek_upS cP_hI (fun _ _ => trivial) rfl (qk_47 l)), List.forall_mem_cons.mpr ⟨(ek_upS cP_hI (fun _ _ => trivial) rfl (qk_48 l)), List.forall_mem_cons.mpr ⟨(aK_1 l hP), fun _ h => absurd h List.not_mem_nil⟩⟩⟩⟩⟩⟩) (by decide +kernel)
def kq_2018 : ek := (24, [.inr 59, .inr 3, .inl (0, 0)], [], [(1, 3), (1, 4), (57, 8), (61, 999), (62, 999)], [(some (.inl (1, 1)), [((2, 1, 2), (1, 260), none)]), (some (.inl (0, 0)), [])], 24, 632)
/-- LoadsAhead.Law readFactor -/
theorem qk_2018 (l : Launch) {P : (Nat → Int) → (Nat → Int) → Int → Prop} (hP : pC P) : ek_ok l tQ (cP P) kq_2018 := by
  refine hk_ek (J := fun _ _ w => cP P w) (I' := cP P) ?_ (fun w h => h) (fun i x w w' _ _ h => h)
  refine hk_ok_of (o := 0) (r := (yX0_readFactor, prog_2_method_12_code, 5, some .boolean)) rfl rfl (by decide +kernel) (by decide) rfl (fun p e s m args below meth c D tys aK aV b0 ad w0 C hret => ?_)
  refine hv_go C cP_hI (ek_wr kq_2018) [kq_35, kq_36, kq_37, kq_2017, kq_71, kq_51, kq_40, kq_42, (kA (-1, 255) (0, 6)), (kA (48, 48) ((-2147483648), 2147483647))] (24, 632) [] [(44, [none, none, none, none, none], [(.inl (0, 0), ev_nt)], [], []), (44, [none, none, none, none, none], [(.inl (1, 1), ev_nt)], [((2, 1, 2), (1, 260), none)], []), (79, [none, none, none, none, none], [(.inl (0, 0), ev_nt)], [], []), (79, [none, none, none, none, none], [(.inl (1, 1), ev_nt)], [((2, 1, 2), (1, 260), none)], []), (108, [none, none, none, none, none], [(.inl (0, 0), ev_nt)], [], []), (89, [some (.inr 59, none), some (.inr 3, none), some (.inl (0, 0), none), some (.inl (-1, 255), none), none], [], [((2, 1, 2), (1, 260), none)], [])] 80 ⟨rfl, rfl⟩ (by decide +kernel) ⟨(ek_upS cP_hI (fun _ _ => trivial) rfl (qk_35 l)), (ek_upS cP_hI (fun _ _ => trivial) rfl (qk_36 l)), (ek_upS cP_hI (fun _ _ => trivial) rfl (qk_37 l)), (qk_2017 l hP), (ek_upS cP_hI (fun _ _ => trivial) rfl (qk_71 l)), (ek_upS cP_hI (fun _ _ => trivial) rfl (qk_51 l)), (ek_upS cP_hI (fun _ _ => trivial) rfl (qk_40 l)), (ek_upS cP_hI (fun _ _ => trivial) rfl (qk_42 l)), (aK_1 l hP), (aK_0 l hP), trivial⟩ ⟨?_, ?_, ?_, ?_, ?_, ?_, trivial⟩
  · exact hs_iret C (i := 1) (fun ls w x _ _ _ hI hx _ => hI) hret rfl rfl rfl (by decide) rfl rfl rfl (by decide +kernel)
  · exact hs_iret C (i := 0) (fun ls w x _ _ _ hI hx _ => hI) hret rfl rfl rfl (by decide) rfl rfl rfl (by decide +kernel)
  · exact hs_iret C (i := 1) (fun ls w x _ _ _ hI hx _ => hI) hret rfl rfl rfl (by decide) rfl rfl rfl (by decide +kernel)
  · exact hs_iret C (i := 0) (fun ls w x _ _ _ hI hx _ => hI) hret rfl rfl rfl (by decide) rfl rfl rfl (by decide +kernel)
  · exact hs_iret C (i := 1) (fun ls w x _ _ _ hI hx _ => hI) hret rfl rfl rfl (by decide) rfl rfl rfl (by decide +kernel)
  · refine hs_idx C rfl (by decide) (by decide) ?_
    refine hv_go C cP_hI (ek_wr kq_2018) [kq_35, kq_36, kq_37, kq_2017, kq_71, kq_51, kq_40, kq_42, (kA (-1, 255) (0, 6)), (kA (48, 48) ((-2147483648), 2147483647))] (24, 632) [] [(108, [none, none, none, none, none], [(.inl (0, 0), ev_nt)], [], []), (123, [none, none, none, none, none], [(.inl (1, 1), ev_nt)], [((2, 1, 2), (1, 260), none)], [])] 80 ⟨rfl, rfl⟩ (by decide +kernel) ⟨(ek_upS cP_hI (fun _ _ => trivial) rfl (qk_35 l)), (ek_upS cP_hI (fun _ _ => trivial) rfl (qk_36 l)), (ek_upS cP_hI (fun _ _ => trivial) rfl (qk_37 l)), (qk_2017 l hP), (ek_upS cP_hI (fun _ _ => trivial) rfl (qk_71 l)), (ek_upS cP_hI (fun _ _ => trivial) rfl (qk_51 l)), (ek_upS cP_hI (fun _ _ => trivial) rfl (qk_40 l)), (ek_upS cP_hI (fun _ _ => trivial) rfl (qk_42 l)), (aK_1 l hP), (aK_0 l hP), trivial⟩ ⟨?_, ?_, trivial⟩
    · exact hs_iret C (i := 1) (fun ls w x _ _ _ hI hx _ => hI) hret rfl rfl rfl (by decide) rfl rfl rfl (by decide +kernel)
    · exact hs_iret C (i := 0) (fun ls w x _ _ _ hI hx _ => hI) hret rfl rfl rfl (by decide) rfl rfl rfl (by decide +kernel)
def kq_2019 : ek := (23, [.inr 59, .inr 3, .inl (0, 0)], [], [(1, 3), (1, 4), (57, 8), (61, 999), (62, 999)], [(some (.inl (0, 0)), []), (some (.inl (1, 1)), [])], 25, 656)
/-- LoadsAhead.Law readProduct -/
theorem qk_2019 (l : Launch) {P : (Nat → Int) → (Nat → Int) → Int → Prop} (hP : pC P) : ek_ok l tQ (cP P) kq_2019 := ek_good_ok (sp := sC) (K := [kq_35, kq_37, kq_2018, kq_44, kq_45, (kA (-1, 255) (0, 6))]) (SP := []) (HS := [((13, [some (.inr 59, none), some (.inr 3, none), some (.inl (0, 0), none), some (.inl (0, 240), none), none], [], [], []), [(0, (0, 0, 0), 0), (1, (1, 3, 0), 240), (0, (0, 0, 0), 0)])]) (N := 3) (fuel := 64) cP_hI (List.forall_mem_cons.mpr ⟨(ek_upS cP_hI (fun _ _ => trivial) rfl (qk_35 l)), List.forall_mem_cons.mpr ⟨(ek_upS cP_hI (fun _ _ => trivial) rfl (qk_37 l)), List.forall_mem_cons.mpr ⟨(qk_2018 l hP), List.forall_mem_cons.mpr ⟨(ek_upS cP_hI (fun _ _ => trivial) rfl (qk_44 l)), List.forall_mem_cons.mpr ⟨(ek_upS cP_hI (fun _ _ => trivial) rfl (qk_45 l)), List.forall_mem_cons.mpr ⟨(aK_1 l hP), fun _ h => absurd h List.not_mem_nil⟩⟩⟩⟩⟩⟩) (by decide +kernel)
def kq_2020 : ek := (22, [.inr 59, .inr 3, .inl (0, 0)], [], [(1, 3), (1, 4), (57, 8), (61, 999), (62, 999)], [(some (.inl (1, 1)), []), (some (.inl (0, 0)), [])], 26, 680)
/-- LoadsAhead.Law readSum -/
theorem qk_2020 (l : Launch) {P : (Nat → Int) → (Nat → Int) → Int → Prop} (hP : pC P) : ek_ok l tQ (cP P) kq_2020 := ek_good_ok (sp := sC) (K := [kq_35, kq_37, kq_2019, kq_47, kq_48, (kA (-1, 255) (0, 6))]) (SP := []) (HS := [((13, [some (.inr 59, none), some (.inr 3, none), some (.inl (0, 0), none), some (.inl (0, 240), none), none], [], [], []), [(0, (0, 0, 0), 0), (1, (1, 3, 0), 240), (0, (0, 0, 0), 0)])]) (N := 3) (fuel := 64) cP_hI (List.forall_mem_cons.mpr ⟨(ek_upS cP_hI (fun _ _ => trivial) rfl (qk_35 l)), List.forall_mem_cons.mpr ⟨(ek_upS cP_hI (fun _ _ => trivial) rfl (qk_37 l)), List.forall_mem_cons.mpr ⟨(qk_2019 l hP), List.forall_mem_cons.mpr ⟨(ek_upS cP_hI (fun _ _ => trivial) rfl (qk_47 l)), List.forall_mem_cons.mpr ⟨(ek_upS cP_hI (fun _ _ => trivial) rfl (qk_48 l)), List.forall_mem_cons.mpr ⟨(aK_1 l hP), fun _ h => absurd h List.not_mem_nil⟩⟩⟩⟩⟩⟩) (by decide +kernel)
def kq_2021 : ek := (34, [.inr 59, .inr 3, .inl (6, 6)], [], [(1, 3), (1, 4), (57, 8), (61, 999), (62, 999)], [(some (.inl (0, 0)), []), (some (.inl (1, 1)), [((2, 1, 2), (1, 260), none)])], 9, 272)
/-- LoadsAhead.Law readTest -/
theorem qk_2021 (l : Launch) {P : (Nat → Int) → (Nat → Int) → Int → Prop} (hP : pC P) : ek_ok l tQ (cP P) kq_2021 := ek_good_ok (sp := sC) (K := [kq_35, kq_36, kq_37, kq_2002, kq_39, (kA (-1, 255) (0, 6))]) (SP := []) (HS := []) (N := 0) (fuel := 86) cP_hI (List.forall_mem_cons.mpr ⟨(ek_upS cP_hI (fun _ _ => trivial) rfl (qk_35 l)), List.forall_mem_cons.mpr ⟨(ek_upS cP_hI (fun _ _ => trivial) rfl (qk_36 l)), List.forall_mem_cons.mpr ⟨(ek_upS cP_hI (fun _ _ => trivial) rfl (qk_37 l)), List.forall_mem_cons.mpr ⟨(qk_2002 l hP), List.forall_mem_cons.mpr ⟨(ek_upS cP_hI (fun _ _ => trivial) rfl (qk_39 l)), List.forall_mem_cons.mpr ⟨(aK_1 l hP), fun _ h => absurd h List.not_mem_nil⟩⟩⟩⟩⟩⟩) (by decide +kernel)
def kq_2022 : ek := (33, [.inr 59, .inr 3, .inl (6, 6)], [], [(1, 3), (1, 4), (57, 8), (61, 999), (62, 999)], [(some (.inl (0, 0)), []), (some (.inl (1, 1)), [])], 10, 295)
/-- LoadsAhead.Law readBoth -/
theorem qk_2022 (l : Launch) {P : (Nat → Int) → (Nat → Int) → Int → Prop} (hP : pC P) : ek_ok l tQ (cP P) kq_2022 := by
  refine hk_ek (J := fun _ _ w => cP P w) (I' := cP P) ?_ (fun w h => h) (fun i x w w' _ _ h => h)
  refine hk_ok_of (o := 0) (r := (yX0_readBoth, prog_2_method_6_code, 5, some .boolean)) rfl rfl (by decide +kernel) (by decide) rfl (fun p e s m args below meth c D tys aK aV b0 ad w0 C hret => ?_)
  have hloop : ∀ (n : Nat) (γ : Nat → Int), (240 - γ 1).toNat = n → ev_go p l e (ek_rm kq_2022) s m args below meth c (MQ below (hk_qc D tys tQ (fun _ _ w => cP P w) b0 ad w0 kq_2022 true) args s 0 0 (fun q => b0 ≤ q)) D tys tQ (cP P) b0 5 ad w0 (ek_wr kq_2022) γ (13, [some (.inr 59, none), some (.inr 3, none), some (.inl (6, 6), none), some (.inl (0, 240), some (1, 0)), none], [], [], []) := by
    intro n
    induction n using Nat.strongRecOn with
    | _ n ih =>
      intro γ hn
      refine hv_go C cP_hI (ek_wr kq_2022) [kq_35, kq_37] (10, 295) [] [(66, [none, none, none, none, none], [(.inl (1, 1), ev_nt)], [], []), (37, [some (.inr 59, none), some (.inr 3, none), some (.inl (6, 6), none), some (.inl (0, 239), some (1, 0)), none], [(.inl (0, 0), ev_nt), (.inl (38, 38), ev_nt), (.inr 59, ev_nt)], [], [])] 60 ⟨rfl, rfl⟩ (by decide +kernel) ⟨(ek_upS cP_hI (fun _ _ => trivial) rfl (qk_35 l)), (ek_upS cP_hI (fun _ _ => trivial) rfl (qk_37 l)), trivial⟩ ⟨?_, ?_, trivial⟩
      · exact hs_iret C (i := 1) (fun ls w x _ _ _ hI hx _ => hI) hret rfl rfl rfl (by decide) rfl rfl rfl (by decide +kernel)
      · refine hs_callV C (A := [(.inl (0, 0), ev_nt), (.inl (38, 38), ev_nt)]) (S := []) (j := 57) (i := 88) (mi := 29) (n := 2) (ci := 0) (E := fun _ => True) (aX_38 l hP) (fun w h => ⟨h, trivial⟩) (fun _ _ _ h => h) (by decide +kernel) rfl rfl rfl (by decide) rfl (by decide) rfl rfl rfl (by decide) (by decide) (by decide) (by decide +kernel) (fun i u x hu hx => ?_)
        match i, hu with
        | 0, hu =>
          cases hu
          refine ev_go_mono (I' := cP (cX P x)) (fun w h => h.1) ?_
          refine ev_op_ok C (cP_hI (P := cX P x)) (K := []) (rm := (10, 295)) (fun _ h => absurd h List.not_mem_nil) ⟨rfl, rfl⟩ (op := .istore 4) (len := 2) (by decide +kernel) rfl (fun st hst => ?_)
          rw [List.mem_singleton.mp hst]
          refine ev_go_gv 0 x rfl ?_
          refine ev_go_mark (i := 4) (n := 0) (q' := (-1, 239)) (v := x) rfl hx rfl ?_
          refine hv_go C (cP_hI (P := cX P x)) (ek_wr kq_2022) [kq_2021] (10, 295) [] [(51, [none, none, none, none, none], [], [], []), (56, [some (.inr 59, none), some (.inr 3, none), some (.inl (6, 6), none), some (.inl (0, 239), some (1, 0)), some (.inl (-1, 239), some (0, 0))], [(.inl (-1, 239), (1, 4, 0, 0)), (.inr 59, ev_nt)], [], [])] 60 (st := (42, [some (.inr 59, none), some (.inr 3, none), some (.inl (6, 6), none), some (.inl (0, 239), some (1, 0)), some (.inl (-1, 239), some (0, 0))], [], [], [])) ⟨rfl, rfl⟩ (by decide +kernel) ⟨qk_2021 l (cX_ok hP x), trivial⟩ ⟨?_, ?_, trivial⟩
          · refine ev_go_mono (I' := cP P) (fun w h => h.1) ?_
            refine hv_go C cP_hI (ek_wr kq_2022) [] (10, 295) [] [(52, [none, none, none, none, none], [(.inl (0, 0), ev_nt)], [], [])] 60 ⟨rfl, rfl⟩ (by decide +kernel) trivial ⟨?_, trivial⟩
            exact hs_iret C (i := 0) (fun ls w x _ _ _ hI hx _ => hI) hret rfl rfl rfl (by decide) rfl rfl rfl (by decide +kernel)
          · refine ev_go_top (q' := (x, x)) (t' := ev_nt) (fun ls w y _ hl _ _ hy ty => ⟨?_, ev_tag0⟩) ?_
            · obtain ⟨u, g1, g2⟩ := tag_l ty
              have g3 : u.toInt = x + 0 := lo_mark (i := 4) hl rfl g1
              exact ⟨by show x ≤ y.toInt; omega, by show y.toInt ≤ x; omega⟩
            · refine hs_callV C (A := [(.inl (x, x), ev_nt)]) (S := []) (j := 57) (i := 92) (mi := 35) (n := 1) (ci := 0) (E := fun _ => True) (sX l hP x ⟨hx.1, by have := hx.2; omega⟩) (fun w h => ⟨h, trivial⟩) (fun _ _ _ h => h) (by decide +kernel) rfl rfl rfl (by simp [en_all2, en_le, kS]) rfl (fun q hq => (by decide : ∀ q ∈ [((62 : Nat), (999 : Nat))], q ∈ ek_wr kq_2022) q hq) rfl rfl rfl (Nat.le_of_ble_eq_true rfl) (Nat.le_of_ble_eq_true rfl) (by decide) (by decide +kernel) (fun i u y hu hy => ?_)
              match i, hu with
              | 0, hu =>
                cases hu
                refine ev_go_mono (I' := cP P) (fun w h => h.1) ?_
                refine ev_go_lo (i := 3) (n := 1) (q := (0, 239)) (d := 0) rfl (fun h1 h2 => ?_)
                refine hv_go C cP_hI (ek_wr kq_2022) [] (10, 295) [] [(13, [some (.inr 59, none), some (.inr 3, none), some (.inl (6, 6), none), some (.inl (0, 240), some (1, 1)), none], [], [], [])] 60 (st := (59, [some (.inr 59, none), some (.inr 3, none), some (.inl (6, 6), none), some (.inl (0, 239), some (1, 0)), some (.inl (-1, 239), some (0, 0))], [], [], [])) ⟨rfl, rfl⟩ (by decide +kernel) trivial ⟨?_, trivial⟩
                refine ev_go_re (i := 3) (n := 1) (d := 1) (γ' := fun _ => γ 1 + 1) rfl rfl rfl ?_
                have h3 : ev_gu 0 x γ 1 = γ 1 := rfl
                rw [h3] at h2
                exact ih (240 - (γ 1 + 1)).toNat (by dsimp only at h2; omega) (fun _ => γ 1 + 1) rfl
  refine hv_go C cP_hI (ek_wr kq_2022) [kq_2021] (10, 295) [] [(10, [none, none, none, none, none], [(.inl (0, 0), ev_nt)], [], []), (13, [some (.inr 59, none), some (.inr 3, none), some (.inl (6, 6), none), some (.inl (0, 0), none), none], [], [], [])] 60 ⟨rfl, rfl⟩ (by decide +kernel) ⟨qk_2021 l hP, trivial⟩ ⟨?_, ?_, trivial⟩
  · exact hs_iret C (i := 0) (fun ls w x _ _ _ hI hx _ => hI) hret rfl rfl rfl (by decide) rfl rfl rfl (by decide +kernel)
  · refine ev_go_gv 1 0 rfl ?_
    exact ev_go_mark (i := 3) (n := 1) (q' := (0, 240)) (v := 0) rfl (by decide) rfl (hloop _ _ rfl)
def kq_2023 : ek := (32, [.inr 59, .inr 3, .inl (6, 6)], [], [(1, 3), (1, 4), (57, 8), (61, 999), (62, 999)], [(some (.inl (0, 0)), []), (some (.inl (1, 1)), [])], 11, 319)
/-- LoadsAhead.Law readEither -/
theorem qk_2023 (l : Launch) {P : (Nat → Int) → (Nat → Int) → Int → Prop} (hP : pC P) : ek_ok l tQ (cP P) kq_2023 := by
  refine hk_ek (J := fun _ _ w => cP P w) (I' := cP P) ?_ (fun w h => h) (fun i x w w' _ _ h => h)
  refine hk_ok_of (o := 0) (r := (yX0_readEither, prog_2_method_5_code, 5, some .boolean)) rfl rfl (by decide +kernel) (by decide) rfl (fun p e s m args below meth c D tys aK aV b0 ad w0 C hret => ?_)
  have hloop : ∀ (n : Nat) (γ : Nat → Int), (240 - γ 1).toNat = n → ev_go p l e (ek_rm kq_2023) s m args below meth c (MQ below (hk_qc D tys tQ (fun _ _ w => cP P w) b0 ad w0 kq_2023 true) args s 0 0 (fun q => b0 ≤ q)) D tys tQ (cP P) b0 5 ad w0 (ek_wr kq_2023) γ (13, [some (.inr 59, none), some (.inr 3, none), some (.inl (6, 6), none), some (.inl (0, 240), some (1, 0)), none], [], [], []) := by
    intro n
    induction n using Nat.strongRecOn with
    | _ n ih =>
      intro γ hn
      refine hv_go C cP_hI (ek_wr kq_2023) [kq_35, kq_37] (11, 319) [] [(66, [none, none, none, none, none], [(.inl (1, 1), ev_nt)], [], []), (37, [some (.inr 59, none), some (.inr 3, none), some (.inl (6, 6), none), some (.inl (0, 239), some (1, 0)), none], [(.inl (0, 0), ev_nt), (.inl (124, 124), ev_nt), (.inr 59, ev_nt)], [], [])] 60 ⟨rfl, rfl⟩ (by decide +kernel) ⟨(ek_upS cP_hI (fun _ _ => trivial) rfl (qk_35 l)), (ek_upS cP_hI (fun _ _ => trivial) rfl (qk_37 l)), trivial⟩ ⟨?_, ?_, trivial⟩
      · exact hs_iret C (i := 1) (fun ls w x _ _ _ hI hx _ => hI) hret rfl rfl rfl (by decide) rfl rfl rfl (by decide +kernel)
      · refine hs_callV C (A := [(.inl (0, 0), ev_nt), (.inl (124, 124), ev_nt)]) (S := []) (j := 57) (i := 88) (mi := 29) (n := 2) (ci := 0) (E := fun _ => True) (aX_124 l hP) (fun w h => ⟨h, trivial⟩) (fun _ _ _ h => h) (by decide +kernel) rfl rfl rfl (by decide) rfl (by decide) rfl rfl rfl (by decide) (by decide) (by decide) (by decide +kernel) (fun i u x hu hx => ?_)
        match i, hu with
        | 0, hu =>
          cases hu
          refine ev_go_mono (I' := cP (cX P x)) (fun w h => h.1) ?_
          refine ev_op_ok C (cP_hI (P := cX P x)) (K := []) (rm := (11, 319)) (fun _ h => absurd h List.not_mem_nil) ⟨rfl, rfl⟩ (op := .istore 4) (len := 2) (by decide +kernel) rfl (fun st hst => ?_)
          rw [List.mem_singleton.mp hst]
          refine ev_go_gv 0 x rfl ?_
          refine ev_go_mark (i := 4) (n := 0) (q' := (-1, 239)) (v := x) rfl hx rfl ?_
          refine hv_go C (cP_hI (P := cX P x)) (ek_wr kq_2023) [kq_2022] (11, 319) [] [(51, [none, none, none, none, none], [], [], []), (56, [some (.inr 59, none), some (.inr 3, none), some (.inl (6, 6), none), some (.inl (0, 239), some (1, 0)), some (.inl (-1, 239), some (0, 0))], [(.inl (-1, 239), (1, 4, 0, 0)), (.inr 59, ev_nt)], [], [])] 60 (st := (42, [some (.inr 59, none), some (.inr 3, none), some (.inl (6, 6), none), some (.inl (0, 239), some (1, 0)), some (.inl (-1, 239), some (0, 0))], [], [], [])) ⟨rfl, rfl⟩ (by decide +kernel) ⟨qk_2022 l (cX_ok hP x), trivial⟩ ⟨?_, ?_, trivial⟩
          · refine ev_go_mono (I' := cP P) (fun w h => h.1) ?_
            refine hv_go C cP_hI (ek_wr kq_2023) [] (11, 319) [] [(52, [none, none, none, none, none], [(.inl (0, 0), ev_nt)], [], [])] 60 ⟨rfl, rfl⟩ (by decide +kernel) trivial ⟨?_, trivial⟩
            exact hs_iret C (i := 0) (fun ls w x _ _ _ hI hx _ => hI) hret rfl rfl rfl (by decide) rfl rfl rfl (by decide +kernel)
          · refine ev_go_top (q' := (x, x)) (t' := ev_nt) (fun ls w y _ hl _ _ hy ty => ⟨?_, ev_tag0⟩) ?_
            · obtain ⟨u, g1, g2⟩ := tag_l ty
              have g3 : u.toInt = x + 0 := lo_mark (i := 4) hl rfl g1
              exact ⟨by show x ≤ y.toInt; omega, by show y.toInt ≤ x; omega⟩
            · refine hs_callV C (A := [(.inl (x, x), ev_nt)]) (S := []) (j := 57) (i := 92) (mi := 35) (n := 1) (ci := 0) (E := fun _ => True) (sX l hP x ⟨hx.1, by have := hx.2; omega⟩) (fun w h => ⟨h, trivial⟩) (fun _ _ _ h => h) (by decide +kernel) rfl rfl rfl (by simp [en_all2, en_le, kS]) rfl (fun q hq => (by decide : ∀ q ∈ [((62 : Nat), (999 : Nat))], q ∈ ek_wr kq_2023) q hq) rfl rfl rfl (Nat.le_of_ble_eq_true rfl) (Nat.le_of_ble_eq_true rfl) (by decide) (by decide +kernel) (fun i u y hu hy => ?_)
              match i, hu with
              | 0, hu =>
                cases hu
                refine ev_go_mono (I' := cP P) (fun w h => h.1) ?_
                refine ev_go_lo (i := 3) (n := 1) (q := (0, 239)) (d := 0) rfl (fun h1 h2 => ?_)
                refine hv_go C cP_hI (ek_wr kq_2023) [] (11, 319) [] [(13, [some (.inr 59, none), some (.inr 3, none), some (.inl (6, 6), none), some (.inl (0, 240), some (1, 1)), none], [], [], [])] 60 (st := (59, [some (.inr 59, none), some (.inr 3, none), some (.inl (6, 6), none), some (.inl (0, 239), some (1, 0)), some (.inl (-1, 239), some (0, 0))], [], [], [])) ⟨rfl, rfl⟩ (by decide +kernel) trivial ⟨?_, trivial⟩
                refine ev_go_re (i := 3) (n := 1) (d := 1) (γ' := fun _ => γ 1 + 1) rfl rfl rfl ?_
                have h3 : ev_gu 0 x γ 1 = γ 1 := rfl
                rw [h3] at h2
                exact ih (240 - (γ 1 + 1)).toNat (by dsimp only at h2; omega) (fun _ => γ 1 + 1) rfl
  refine hv_go C cP_hI (ek_wr kq_2023) [kq_2022] (11, 319) [] [(10, [none, none, none, none, none], [(.inl (0, 0), ev_nt)], [], []), (13, [some (.inr 59, none), some (.inr 3, none), some (.inl (6, 6), none), some (.inl (0, 0), none), none], [], [], [])] 60 ⟨rfl, rfl⟩ (by decide +kernel) ⟨qk_2022 l hP, trivial⟩ ⟨?_, ?_, trivial⟩
  · exact hs_iret C (i := 0) (fun ls w x _ _ _ hI hx _ => hI) hret rfl rfl rfl (by decide) rfl rfl rfl (by decide +kernel)
  · refine ev_go_gv 1 0 rfl ?_
    exact ev_go_mark (i := 3) (n := 1) (q' := (0, 240)) (v := 0) rfl (by decide) rfl (hloop _ _ rfl)
def kq_2024 : ek := (34, [.inr 59, .inr 3, .inl (5, 5)], [], [(1, 3), (1, 4), (57, 8), (61, 999), (62, 999)], [(some (.inl (0, 0)), []), (some (.inl (1, 1)), [((2, 1, 2), (1, 260), none)])], 12, 344)
/-- LoadsAhead.Law readTest -/
theorem qk_2024 (l : Launch) {P : (Nat → Int) → (Nat → Int) → Int → Prop} (hP : pC P) : ek_ok l tQ (cP P) kq_2024 := ek_good_ok (sp := sC) (K := [kq_35, kq_36, kq_37, kq_2005, kq_50, kq_76, kq_2023, kq_2021, (kA (-1, 255) (0, 6))]) (SP := []) (HS := []) (N := 0) (fuel := 86) cP_hI (List.forall_mem_cons.mpr ⟨(ek_upS cP_hI (fun _ _ => trivial) rfl (qk_35 l)), List.forall_mem_cons.mpr ⟨(ek_upS cP_hI (fun _ _ => trivial) rfl (qk_36 l)), List.forall_mem_cons.mpr ⟨(ek_upS cP_hI (fun _ _ => trivial) rfl (qk_37 l)), List.forall_mem_cons.mpr ⟨(qk_2005 l hP), List.forall_mem_cons.mpr ⟨(ek_upS cP_hI (fun _ _ => trivial) rfl (qk_50 l)), List.forall_mem_cons.mpr ⟨(ek_upS cP_hI (fun _ _ => trivial) rfl (qk_76 l)), List.forall_mem_cons.mpr ⟨(qk_2023 l hP), List.forall_mem_cons.mpr ⟨(qk_2021 l hP), List.forall_mem_cons.mpr ⟨(aK_1 l hP), fun _ h => absurd h List.not_mem_nil⟩⟩⟩⟩⟩⟩⟩⟩⟩) (by decide +kernel)
def kq_2025 : ek := (33, [.inr 59, .inr 3, .inl (5, 5)], [], [(1, 3), (1, 4), (57, 8), (61, 999), (62, 999)], [(some (.inl (0, 0)), []), (some (.inl (1, 1)), [])], 13, 367)
/-- LoadsAhead.Law readBoth -/
theorem qk_2025 (l : Launch) {P : (Nat → Int) → (Nat → Int) → Int → Prop} (hP : pC P) : ek_ok l tQ (cP P) kq_2025 := by
  refine hk_ek (J := fun _ _ w => cP P w) (I' := cP P) ?_ (fun w h => h) (fun i x w w' _ _ h => h)
  refine hk_ok_of (o := 0) (r := (yX0_readBoth, prog_2_method_6_code, 5, some .boolean)) rfl rfl (by decide +kernel) (by decide) rfl (fun p e s m args below meth c D tys aK aV b0 ad w0 C hret => ?_)
  have hloop : ∀ (n : Nat) (γ : Nat → Int), (240 - γ 1).toNat = n → ev_go p l e (ek_rm kq_2025) s m args below meth c (MQ below (hk_qc D tys tQ (fun _ _ w => cP P w) b0 ad w0 kq_2025 true) args s 0 0 (fun q => b0 ≤ q)) D tys tQ (cP P) b0 5 ad w0 (ek_wr kq_2025) γ (13, [some (.inr 59, none), some (.inr 3, none), some (.inl (5, 5), none), some (.inl (0, 240), some (1, 0)), none], [], [], []) := by
    intro n
    induction n using Nat.strongRecOn with
    | _ n ih =>
      intro γ hn
      refine hv_go C cP_hI (ek_wr kq_2025) [kq_35, kq_37] (13, 367) [] [(66, [none, none, none, none, none], [(.inl (1, 1), ev_nt)], [], []), (37, [some (.inr 59, none), some (.inr 3, none), some (.inl (5, 5), none), some (.inl (0, 239), some (1, 0)), none], [(.inl (0, 0), ev_nt), (.inl (38, 38), ev_nt), (.inr 59, ev_nt)], [], [])] 60 ⟨rfl, rfl⟩ (by decide +kernel) ⟨(ek_upS cP_hI (fun _ _ => trivial) rfl (qk_35 l)), (ek_upS cP_hI (fun _ _ => trivial) rfl (qk_37 l)), trivial⟩ ⟨?_, ?_, trivial⟩
      · exact hs_iret C (i := 1) (fun ls w x _ _ _ hI hx _ => hI) hret rfl rfl rfl (by decide) rfl rfl rfl (by decide +kernel)
      · refine hs_callV C (A := [(.inl (0, 0), ev_nt), (.inl (38, 38), ev_nt)]) (S := []) (j := 57) (i := 88) (mi := 29) (n := 2) (ci := 0) (E := fun _ => True) (aX_38 l hP) (fun w h => ⟨h, trivial⟩) (fun _ _ _ h => h) (by decide +kernel) rfl rfl rfl (by decide) rfl (by decide) rfl rfl rfl (by decide) (by decide) (by decide) (by decide +kernel) (fun i u x hu hx => ?_)
        match i, hu with
        | 0, hu =>
          cases hu
          refine ev_go_mono (I' := cP (cX P x)) (fun w h => h.1) ?_
          refine ev_op_ok C (cP_hI (P := cX P x)) (K := []) (rm := (13, 367)) (fun _ h => absurd h List.not_mem_nil) ⟨rfl, rfl⟩ (op := .istore 4) (len := 2) (by decide +kernel) rfl (fun st hst => ?_)
          rw [List.mem_singleton.mp hst]
          refine ev_go_gv 0 x rfl ?_
          refine ev_go_mark (i := 4) (n := 0) (q' := (-1, 239)) (v := x) rfl hx rfl ?_
          refine hv_go C (cP_hI (P := cX P x)) (ek_wr kq_2025) [kq_2024] (13, 367) [] [(51, [none, none, none, none, none], [], [], []), (56, [some (.inr 59, none), some (.inr 3, none), some (.inl (5, 5), none), some (.inl (0, 239), some (1, 0)), some (.inl (-1, 239), some (0, 0))], [(.inl (-1, 239), (1, 4, 0, 0)), (.inr 59, ev_nt)], [], [])] 60 (st := (42, [some (.inr 59, none), some (.inr 3, none), some (.inl (5, 5), none), some (.inl (0, 239), some (1, 0)), some (.inl (-1, 239), some (0, 0))], [], [], [])) ⟨rfl, rfl⟩ (by decide +kernel) ⟨qk_2024 l (cX_ok hP x), trivial⟩ ⟨?_, ?_, trivial⟩
          · refine ev_go_mono (I' := cP P) (fun w h => h.1) ?_
            refine hv_go C cP_hI (ek_wr kq_2025) [] (13, 367) [] [(52, [none, none, none, none, none], [(.inl (0, 0), ev_nt)], [], [])] 60 ⟨rfl, rfl⟩ (by decide +kernel) trivial ⟨?_, trivial⟩
            exact hs_iret C (i := 0) (fun ls w x _ _ _ hI hx _ => hI) hret rfl rfl rfl (by decide) rfl rfl rfl (by decide +kernel)
          · refine ev_go_top (q' := (x, x)) (t' := ev_nt) (fun ls w y _ hl _ _ hy ty => ⟨?_, ev_tag0⟩) ?_
            · obtain ⟨u, g1, g2⟩ := tag_l ty
              have g3 : u.toInt = x + 0 := lo_mark (i := 4) hl rfl g1
              exact ⟨by show x ≤ y.toInt; omega, by show y.toInt ≤ x; omega⟩
            · refine hs_callV C (A := [(.inl (x, x), ev_nt)]) (S := []) (j := 57) (i := 92) (mi := 35) (n := 1) (ci := 0) (E := fun _ => True) (sX l hP x ⟨hx.1, by have := hx.2; omega⟩) (fun w h => ⟨h, trivial⟩) (fun _ _ _ h => h) (by decide +kernel) rfl rfl rfl (by simp [en_all2, en_le, kS]) rfl (fun q hq => (by decide : ∀ q ∈ [((62 : Nat), (999 : Nat))], q ∈ ek_wr kq_2025) q hq) rfl rfl rfl (Nat.le_of_ble_eq_true rfl) (Nat.le_of_ble_eq_true rfl) (by decide) (by decide +kernel) (fun i u y hu hy => ?_)
              match i, hu with
              | 0, hu =>
                cases hu
                refine ev_go_mono (I' := cP P) (fun w h => h.1) ?_
                refine ev_go_lo (i := 3) (n := 1) (q := (0, 239)) (d := 0) rfl (fun h1 h2 => ?_)
                refine hv_go C cP_hI (ek_wr kq_2025) [] (13, 367) [] [(13, [some (.inr 59, none), some (.inr 3, none), some (.inl (5, 5), none), some (.inl (0, 240), some (1, 1)), none], [], [], [])] 60 (st := (59, [some (.inr 59, none), some (.inr 3, none), some (.inl (5, 5), none), some (.inl (0, 239), some (1, 0)), some (.inl (-1, 239), some (0, 0))], [], [], [])) ⟨rfl, rfl⟩ (by decide +kernel) trivial ⟨?_, trivial⟩
                refine ev_go_re (i := 3) (n := 1) (d := 1) (γ' := fun _ => γ 1 + 1) rfl rfl rfl ?_
                have h3 : ev_gu 0 x γ 1 = γ 1 := rfl
                rw [h3] at h2
                exact ih (240 - (γ 1 + 1)).toNat (by dsimp only at h2; omega) (fun _ => γ 1 + 1) rfl
  refine hv_go C cP_hI (ek_wr kq_2025) [kq_2024] (13, 367) [] [(10, [none, none, none, none, none], [(.inl (0, 0), ev_nt)], [], []), (13, [some (.inr 59, none), some (.inr 3, none), some (.inl (5, 5), none), some (.inl (0, 0), none), none], [], [], [])] 60 ⟨rfl, rfl⟩ (by decide +kernel) ⟨qk_2024 l hP, trivial⟩ ⟨?_, ?_, trivial⟩
  · exact hs_iret C (i := 0) (fun ls w x _ _ _ hI hx _ => hI) hret rfl rfl rfl (by decide) rfl rfl rfl (by decide +kernel)
  · refine ev_go_gv 1 0 rfl ?_
    exact ev_go_mark (i := 3) (n := 1) (q' := (0, 240)) (v := 0) rfl (by decide) rfl (hloop _ _ rfl)
def kq_2026 : ek := (32, [.inr 59, .inr 3, .inl (5, 5)], [], [(1, 3), (1, 4), (57, 8), (61, 999), (62, 999)], [(some (.inl (0, 0)), []), (some (.inl (1, 1)), [])], 14, 391)
/-- LoadsAhead.Law readEither -/
theorem qk_2026 (l : Launch) {P : (Nat → Int) → (Nat → Int) → Int → Prop} (hP : pC P) : ek_ok l tQ (cP P) kq_2026 := by
  refine hk_ek (J := fun _ _ w => cP P w) (I' := cP P) ?_ (fun w h => h) (fun i x w w' _ _ h => h)
  refine hk_ok_of (o := 0) (r := (yX0_readEither, prog_2_method_5_code, 5, some .boolean)) rfl rfl (by decide +kernel) (by decide) rfl (fun p e s m args below meth c D tys aK aV b0 ad w0 C hret => ?_)
  have hloop : ∀ (n : Nat) (γ : Nat → Int), (240 - γ 1).toNat = n → ev_go p l e (ek_rm kq_2026) s m args below meth c (MQ below (hk_qc D tys tQ (fun _ _ w => cP P w) b0 ad w0 kq_2026 true) args s 0 0 (fun q => b0 ≤ q)) D tys tQ (cP P) b0 5 ad w0 (ek_wr kq_2026) γ (13, [some (.inr 59, none), some (.inr 3, none), some (.inl (5, 5), none), some (.inl (0, 240), some (1, 0)), none], [], [], []) := by
    intro n
    induction n using Nat.strongRecOn with
    | _ n ih =>
      intro γ hn
      refine hv_go C cP_hI (ek_wr kq_2026) [kq_35, kq_37] (14, 391) [] [(66, [none, none, none, none, none], [(.inl (1, 1), ev_nt)], [], []), (37, [some (.inr 59, none), some (.inr 3, none), some (.inl (5, 5), none), some (.inl (0, 239), some (1, 0)), none], [(.inl (0, 0), ev_nt), (.inl (124, 124), ev_nt), (.inr 59, ev_nt)], [], [])] 60 ⟨rfl, rfl⟩ (by decide +kernel) ⟨(ek_upS cP_hI (fun _ _ => trivial) rfl (qk_35 l)), (ek_upS cP_hI (fun _ _ => trivial) rfl (qk_37 l)), trivial⟩ ⟨?_, ?_, trivial⟩
      · exact hs_iret C (i := 1) (fun ls w x _ _ _ hI hx _ => hI) hret rfl rfl rfl (by decide) rfl rfl rfl (by decide +kernel)
      · refine hs_callV C (A := [(.inl (0, 0), ev_nt), (.inl (124, 124), ev_nt)]) (S := []) (j := 57) (i := 88) (mi := 29) (n := 2) (ci := 0) (E := fun _ => True) (aX_124 l hP) (fun w h => ⟨h, trivial⟩) (fun _ _ _ h => h) (by decide +kernel) rfl rfl rfl (by decide) rfl (by decide) rfl rfl rfl (by decide) (by decide) (by decide) (by decide +kernel) (fun i u x hu hx => ?_)
        match i, hu with
        | 0, hu =>
          cases hu
          refine ev_go_mono (I' := cP (cX P x)) (fun w h => h.1) ?_
          refine ev_op_ok C (cP_hI (P := cX P x)) (K := []) (rm := (14, 391)) (fun _ h => absurd h List.not_mem_nil) ⟨rfl, rfl⟩ (op := .istore 4) (len := 2) (by decide +kernel) rfl (fun st hst => ?_)
          rw [List.mem_singleton.mp hst]
          refine ev_go_gv 0 x rfl ?_
          refine ev_go_mark (i := 4) (n := 0) (q' := (-1, 239)) (v := x) rfl hx rfl ?_
          refine hv_go C (cP_hI (P := cX P x)) (ek_wr kq_2026) [kq_2025] (14, 391) [] [(51, [none, none, none, none, none], [], [], []), (56, [some (.inr 59, none), some (.inr 3, none), some (.inl (5, 5), none), some (.inl (0, 239), some (1, 0)), some (.inl (-1, 239), some (0, 0))], [(.inl (-1, 239), (1, 4, 0, 0)), (.inr 59, ev_nt)], [], [])] 60 (st := (42, [some (.inr 59, none), some (.inr 3, none), some (.inl (5, 5), none), some (.inl (0, 239), some (1, 0)), some (.inl (-1, 239), some (0, 0))], [], [], [])) ⟨rfl, rfl⟩ (by decide +kernel) ⟨qk_2025 l (cX_ok hP x), trivial⟩ ⟨?_, ?_, trivial⟩
          · refine ev_go_mono (I' := cP P) (fun w h => h.1) ?_
            refine hv_go C cP_hI (ek_wr kq_2026) [] (14, 391) [] [(52, [none, none, none, none, none], [(.inl (0, 0), ev_nt)], [], [])] 60 ⟨rfl, rfl⟩ (by decide +kernel) trivial ⟨?_, trivial⟩
            exact hs_iret C (i := 0) (fun ls w x _ _ _ hI hx _ => hI) hret rfl rfl rfl (by decide) rfl rfl rfl (by decide +kernel)
          · refine ev_go_top (q' := (x, x)) (t' := ev_nt) (fun ls w y _ hl _ _ hy ty => ⟨?_, ev_tag0⟩) ?_
            · obtain ⟨u, g1, g2⟩ := tag_l ty
              have g3 : u.toInt = x + 0 := lo_mark (i := 4) hl rfl g1
              exact ⟨by show x ≤ y.toInt; omega, by show y.toInt ≤ x; omega⟩
            · refine hs_callV C (A := [(.inl (x, x), ev_nt)]) (S := []) (j := 57) (i := 92) (mi := 35) (n := 1) (ci := 0) (E := fun _ => True) (sX l hP x ⟨hx.1, by have := hx.2; omega⟩) (fun w h => ⟨h, trivial⟩) (fun _ _ _ h => h) (by decide +kernel) rfl rfl rfl (by simp [en_all2, en_le, kS]) rfl (fun q hq => (by decide : ∀ q ∈ [((62 : Nat), (999 : Nat))], q ∈ ek_wr kq_2026) q hq) rfl rfl rfl (Nat.le_of_ble_eq_true rfl) (Nat.le_of_ble_eq_true rfl) (by decide) (by decide +kernel) (fun i u y hu hy => ?_)
              match i, hu with
              | 0, hu =>
                cases hu
                refine ev_go_mono (I' := cP P) (fun w h => h.1) ?_
                refine ev_go_lo (i := 3) (n := 1) (q := (0, 239)) (d := 0) rfl (fun h1 h2 => ?_)
                refine hv_go C cP_hI (ek_wr kq_2026) [] (14, 391) [] [(13, [some (.inr 59, none), some (.inr 3, none), some (.inl (5, 5), none), some (.inl (0, 240), some (1, 1)), none], [], [], [])] 60 (st := (59, [some (.inr 59, none), some (.inr 3, none), some (.inl (5, 5), none), some (.inl (0, 239), some (1, 0)), some (.inl (-1, 239), some (0, 0))], [], [], [])) ⟨rfl, rfl⟩ (by decide +kernel) trivial ⟨?_, trivial⟩
                refine ev_go_re (i := 3) (n := 1) (d := 1) (γ' := fun _ => γ 1 + 1) rfl rfl rfl ?_
                have h3 : ev_gu 0 x γ 1 = γ 1 := rfl
                rw [h3] at h2
                exact ih (240 - (γ 1 + 1)).toNat (by dsimp only at h2; omega) (fun _ => γ 1 + 1) rfl
  refine hv_go C cP_hI (ek_wr kq_2026) [kq_2025] (14, 391) [] [(10, [none, none, none, none, none], [(.inl (0, 0), ev_nt)], [], []), (13, [some (.inr 59, none), some (.inr 3, none), some (.inl (5, 5), none), some (.inl (0, 0), none), none], [], [], [])] 60 ⟨rfl, rfl⟩ (by decide +kernel) ⟨qk_2025 l hP, trivial⟩ ⟨?_, ?_, trivial⟩
  · exact hs_iret C (i := 0) (fun ls w x _ _ _ hI hx _ => hI) hret rfl rfl rfl (by decide) rfl rfl rfl (by decide +kernel)
  · refine ev_go_gv 1 0 rfl ?_
    exact ev_go_mark (i := 3) (n := 1) (q' := (0, 240)) (v := 0) rfl (by decide) rfl (hloop _ _ rfl)
def kq_2027 : ek := (34, [.inr 59, .inr 3, .inl (4, 4)], [], [(1, 3), (1, 4), (57, 8), (61, 999), (62, 999)], [(some (.inl (0, 0)), []), (some (.inl (1, 1)), [((2, 1, 2), (1, 260), none)])], 15, 416)
/-- LoadsAhead.Law readTest -/
theorem qk_2027 (l : Launch) {P : (Nat → Int) → (Nat → Int) → Int → Prop} (hP : pC P) : ek_ok l tQ (cP P) kq_2027 := ek_good_ok (sp := sC) (K := [kq_35, kq_36, kq_37, kq_2008, kq_55, kq_76, kq_2026, kq_2024, (kA (-1, 255) (0, 6))]) (SP := []) (HS := []) (N := 0) (fuel := 86) cP_hI (List.forall_mem_cons.mpr ⟨(ek_upS cP_hI (fun _ _ => trivial) rfl (qk_35 l)), List.forall_mem_cons.mpr ⟨(ek_upS cP_hI (fun _ _ => trivial) rfl (qk_36 l)), List.forall_mem_cons.mpr ⟨(ek_upS cP_hI (fun _ _ => trivial) rfl (qk_37 l)), List.forall_mem_cons.mpr ⟨(qk_2008 l hP), List.forall_mem_cons.mpr ⟨(ek_upS cP_hI (fun _ _ => trivial) rfl (qk_55 l)), List.forall_mem_cons.mpr ⟨(ek_upS cP_hI (fun _ _ => trivial) rfl (qk_76 l)), List.forall_mem_cons.mpr ⟨(qk_2026 l hP), List.forall_mem_cons.mpr ⟨(qk_2024 l hP), List.forall_mem_cons.mpr ⟨(aK_1 l hP), fun _ h => absurd h List.not_mem_nil⟩⟩⟩⟩⟩⟩⟩⟩⟩) (by decide +kernel)
def kq_2028 : ek := (33, [.inr 59, .inr 3, .inl (4, 4)], [], [(1, 3), (1, 4), (57, 8), (61, 999), (62, 999)], [(some (.inl (0, 0)), []), (some (.inl (1, 1)), [])], 16, 439)
/-- LoadsAhead.Law readBoth -/
theorem qk_2028 (l : Launch) {P : (Nat → Int) → (Nat → Int) → Int → Prop} (hP : pC P) : ek_ok l tQ (cP P) kq_2028 := by
  refine hk_ek (J := fun _ _ w => cP P w) (I' := cP P) ?_ (fun w h => h) (fun i x w w' _ _ h => h)
  refine hk_ok_of (o := 0) (r := (yX0_readBoth, prog_2_method_6_code, 5, some .boolean)) rfl rfl (by decide +kernel) (by decide) rfl (fun p e s m args below meth c D tys aK aV b0 ad w0 C hret => ?_)
  have hloop : ∀ (n : Nat) (γ : Nat → Int), (240 - γ 1).toNat = n → ev_go p l e (ek_rm kq_2028) s m args below meth c (MQ below (hk_qc D tys tQ (fun _ _ w => cP P w) b0 ad w0 kq_2028 true) args s 0 0 (fun q => b0 ≤ q)) D tys tQ (cP P) b0 5 ad w0 (ek_wr kq_2028) γ (13, [some (.inr 59, none), some (.inr 3, none), some (.inl (4, 4), none), some (.inl (0, 240), some (1, 0)), none], [], [], []) := by
    intro n
    induction n using Nat.strongRecOn with
    | _ n ih =>
      intro γ hn
      refine hv_go C cP_hI (ek_wr kq_2028) [kq_35, kq_37] (16, 439) [] [(66, [none, none, none, none, none], [(.inl (1, 1), ev_nt)], [], []), (37, [some (.inr 59, none), some (.inr 3, none), some (.inl (4, 4), none), some (.inl (0, 239), some (1, 0)), none], [(.inl (0, 0), ev_nt), (.inl (38, 38), ev_nt), (.inr 59, ev_nt)], [], [])] 60 ⟨rfl, rfl⟩ (by decide +kernel) ⟨(ek_upS cP_hI (fun _ _ => trivial) rfl (qk_35 l)), (ek_upS cP_hI (fun _ _ => trivial) rfl (qk_37 l)), trivial⟩ ⟨?_, ?_, trivial⟩
      · exact hs_iret C (i := 1) (fun ls w x _ _ _ hI hx _ => hI) hret rfl rfl rfl (by decide) rfl rfl rfl (by decide +kernel)
      · refine hs_callV C (A := [(.inl (0, 0), ev_nt), (.inl (38, 38), ev_nt)]) (S := []) (j := 57) (i := 88) (mi := 29) (n := 2) (ci := 0) (E := fun _ => True) (aX_38 l hP) (fun w h => ⟨h, trivial⟩) (fun _ _ _ h => h) (by decide +kernel) rfl rfl rfl (by decide) rfl (by decide) rfl rfl rfl (by decide) (by decide) (by decide) (by decide +kernel) (fun i u x hu hx => ?_)
        match i, hu with
        | 0, hu =>
          cases hu
          refine ev_go_mono (I' := cP (cX P x)) (fun w h => h.1) ?_
          refine ev_op_ok C (cP_hI (P := cX P x)) (K := []) (rm := (16, 439)) (fun _ h => absurd h List.not_mem_nil) ⟨rfl, rfl⟩ (op := .istore 4) (len := 2) (by decide +kernel) rfl (fun st hst => ?_)
          rw [List.mem_singleton.mp hst]
          refine ev_go_gv 0 x rfl ?_
          refine ev_go_mark (i := 4) (n := 0) (q' := (-1, 239)) (v := x) rfl hx rfl ?_
          refine hv_go C (cP_hI (P := cX P x)) (ek_wr kq_2028) [kq_2027] (16, 439) [] [(51, [none, none, none, none, none], [], [], []), (56, [some (.inr 59, none), some (.inr 3, none), some (.inl (4, 4), none), some (.inl (0, 239), some (1, 0)), some (.inl (-1, 239), some (0, 0))], [(.inl (-1, 239), (1, 4, 0, 0)), (.inr 59, ev_nt)], [], [])] 60 (st := (42, [some (.inr 59, none), some (.inr 3, none), some (.inl (4, 4), none), some (.inl (0, 239), some (1, 0)), some (.inl (-1, 239), some (0, 0))], [], [], [])) ⟨rfl, rfl⟩ (by decide +kernel) ⟨qk_2027 l (cX_ok hP x), trivial⟩ ⟨?_, ?_, trivial⟩
          · refine ev_go_mono (I' := cP P) (fun w h => h.1) ?_
            refine hv_go C cP_hI (ek_wr kq_2028) [] (16, 439) [] [(52, [none, none, none, none, none], [(.inl (0, 0), ev_nt)], [], [])] 60 ⟨rfl, rfl⟩ (by decide +kernel) trivial ⟨?_, trivial⟩
            exact hs_iret C (i := 0) (fun ls w x _ _ _ hI hx _ => hI) hret rfl rfl rfl (by decide) rfl rfl rfl (by decide +kernel)
          · refine ev_go_top (q' := (x, x)) (t' := ev_nt) (fun ls w y _ hl _ _ hy ty => ⟨?_, ev_tag0⟩) ?_
            · obtain ⟨u, g1, g2⟩ := tag_l ty
              have g3 : u.toInt = x + 0 := lo_mark (i := 4) hl rfl g1
              exact ⟨by show x ≤ y.toInt; omega, by show y.toInt ≤ x; omega⟩
            · refine hs_callV C (A := [(.inl (x, x), ev_nt)]) (S := []) (j := 57) (i := 92) (mi := 35) (n := 1) (ci := 0) (E := fun _ => True) (sX l hP x ⟨hx.1, by have := hx.2; omega⟩) (fun w h => ⟨h, trivial⟩) (fun _ _ _ h => h) (by decide +kernel) rfl rfl rfl (by simp [en_all2, en_le, kS]) rfl (fun q hq => (by decide : ∀ q ∈ [((62 : Nat), (999 : Nat))], q ∈ ek_wr kq_2028) q hq) rfl rfl rfl (Nat.le_of_ble_eq_true rfl) (Nat.le_of_ble_eq_true rfl) (by decide) (by decide +kernel) (fun i u y hu hy => ?_)
              match i, hu with
              | 0, hu =>
                cases hu
                refine ev_go_mono (I' := cP P) (fun w h => h.1) ?_
                refine ev_go_lo (i := 3) (n := 1) (q := (0, 239)) (d := 0) rfl (fun h1 h2 => ?_)
                refine hv_go C cP_hI (ek_wr kq_2028) [] (16, 439) [] [(13, [some (.inr 59, none), some (.inr 3, none), some (.inl (4, 4), none), some (.inl (0, 240), some (1, 1)), none], [], [], [])] 60 (st := (59, [some (.inr 59, none), some (.inr 3, none), some (.inl (4, 4), none), some (.inl (0, 239), some (1, 0)), some (.inl (-1, 239), some (0, 0))], [], [], [])) ⟨rfl, rfl⟩ (by decide +kernel) trivial ⟨?_, trivial⟩
                refine ev_go_re (i := 3) (n := 1) (d := 1) (γ' := fun _ => γ 1 + 1) rfl rfl rfl ?_
                have h3 : ev_gu 0 x γ 1 = γ 1 := rfl
                rw [h3] at h2
                exact ih (240 - (γ 1 + 1)).toNat (by dsimp only at h2; omega) (fun _ => γ 1 + 1) rfl
  refine hv_go C cP_hI (ek_wr kq_2028) [kq_2027] (16, 439) [] [(10, [none, none, none, none, none], [(.inl (0, 0), ev_nt)], [], []), (13, [some (.inr 59, none), some (.inr 3, none), some (.inl (4, 4), none), some (.inl (0, 0), none), none], [], [], [])] 60 ⟨rfl, rfl⟩ (by decide +kernel) ⟨qk_2027 l hP, trivial⟩ ⟨?_, ?_, trivial⟩
  · exact hs_iret C (i := 0) (fun ls w x _ _ _ hI hx _ => hI) hret rfl rfl rfl (by decide) rfl rfl rfl (by decide +kernel)
  · refine ev_go_gv 1 0 rfl ?_
    exact ev_go_mark (i := 3) (n := 1) (q' := (0, 240)) (v := 0) rfl (by decide) rfl (hloop _ _ rfl)
def kq_2029 : ek := (32, [.inr 59, .inr 3, .inl (4, 4)], [], [(1, 3), (1, 4), (57, 8), (61, 999), (62, 999)], [(some (.inl (0, 0)), []), (some (.inl (1, 1)), [])], 17, 463)
/-- LoadsAhead.Law readEither -/
theorem qk_2029 (l : Launch) {P : (Nat → Int) → (Nat → Int) → Int → Prop} (hP : pC P) : ek_ok l tQ (cP P) kq_2029 := by
  refine hk_ek (J := fun _ _ w => cP P w) (I' := cP P) ?_ (fun w h => h) (fun i x w w' _ _ h => h)
  refine hk_ok_of (o := 0) (r := (yX0_readEither, prog_2_method_5_code, 5, some .boolean)) rfl rfl (by decide +kernel) (by decide) rfl (fun p e s m args below meth c D tys aK aV b0 ad w0 C hret => ?_)
  have hloop : ∀ (n : Nat) (γ : Nat → Int), (240 - γ 1).toNat = n → ev_go p l e (ek_rm kq_2029) s m args below meth c (MQ below (hk_qc D tys tQ (fun _ _ w => cP P w) b0 ad w0 kq_2029 true) args s 0 0 (fun q => b0 ≤ q)) D tys tQ (cP P) b0 5 ad w0 (ek_wr kq_2029) γ (13, [some (.inr 59, none), some (.inr 3, none), some (.inl (4, 4), none), some (.inl (0, 240), some (1, 0)), none], [], [], []) := by
    intro n
    induction n using Nat.strongRecOn with
    | _ n ih =>
      intro γ hn
      refine hv_go C cP_hI (ek_wr kq_2029) [kq_35, kq_37] (17, 463) [] [(66, [none, none, none, none, none], [(.inl (1, 1), ev_nt)], [], []), (37, [some (.inr 59, none), some (.inr 3, none), some (.inl (4, 4), none), some (.inl (0, 239), some (1, 0)), none], [(.inl (0, 0), ev_nt), (.inl (124, 124), ev_nt), (.inr 59, ev_nt)], [], [])] 60 ⟨rfl, rfl⟩ (by decide +kernel) ⟨(ek_upS cP_hI (fun _ _ => trivial) rfl (qk_35 l)), (ek_upS cP_hI (fun _ _ => trivial) rfl (qk_37 l)), trivial⟩ ⟨?_, ?_, trivial⟩
      · exact hs_iret C (i := 1) (fun ls w x _ _ _ hI hx _ => hI) hret rfl rfl rfl (by decide) rfl rfl rfl (by decide +kernel)
      · refine hs_callV C (A := [(.inl (0, 0), ev_nt), (.inl (124, 124), ev_nt)]) (S := []) (j := 57) (i := 88) (mi := 29) (n := 2) (ci := 0) (E := fun _ => True) (aX_124 l hP) (fun w h => ⟨h, trivial⟩) (fun _ _ _ h => h) (by decide +kernel) rfl rfl rfl (by decide) rfl (by decide) rfl rfl rfl (by decide) (by decide) (by decide) (by decide +kernel) (fun i u x hu hx => ?_)
        match i, hu with
        | 0, hu =>
          cases hu
          refine ev_go_mono (I' := cP (cX P x)) (fun w h => h.1) ?_
          refine ev_op_ok C (cP_hI (P := cX P x)) (K := []) (rm := (17, 463)) (fun _ h => absurd h List.not_mem_nil) ⟨rfl, rfl⟩ (op := .istore 4) (len := 2) (by decide +kernel) rfl (fun st hst => ?_)
          rw [List.mem_singleton.mp hst]
          refine ev_go_gv 0 x rfl ?_
          refine ev_go_mark (i := 4) (n := 0) (q' := (-1, 239)) (v := x) rfl hx rfl ?_
          refine hv_go C (cP_hI (P := cX P x)) (ek_wr kq_2029) [kq_2028] (17, 463) [] [(51, [none, none, none, none, none], [], [], []), (56, [some (.inr 59, none), some (.inr 3, none), some (.inl (4, 4), none), some (.inl (0, 239), some (1, 0)), some (.inl (-1, 239), some (0, 0))], [(.inl (-1, 239), (1, 4, 0, 0)), (.inr 59, ev_nt)], [], [])] 60 (st := (42, [some (.inr 59, none), some (.inr 3, none), some (.inl (4, 4), none), some (.inl (0, 239), some (1, 0)), some (.inl (-1, 239), some (0, 0))], [], [], [])) ⟨rfl, rfl⟩ (by decide +kernel) ⟨qk_2028 l (cX_ok hP x), trivial⟩ ⟨?_, ?_, trivial⟩
          · refine ev_go_mono (I' := cP P) (fun w h => h.1) ?_
            refine hv_go C cP_hI (ek_wr kq_2029) [] (17, 463) [] [(52, [none, none, none, none, none], [(.inl (0, 0), ev_nt)], [], [])] 60 ⟨rfl, rfl⟩ (by decide +kernel) trivial ⟨?_, trivial⟩
            exact hs_iret C (i := 0) (fun ls w x _ _ _ hI hx _ => hI) hret rfl rfl rfl (by decide) rfl rfl rfl (by decide +kernel)
          · refine ev_go_top (q' := (x, x)) (t' := ev_nt) (fun ls w y _ hl _ _ hy ty => ⟨?_, ev_tag0⟩) ?_
            · obtain ⟨u, g1, g2⟩ := tag_l ty
              have g3 : u.toInt = x + 0 := lo_mark (i := 4) hl rfl g1
              exact ⟨by show x ≤ y.toInt; omega, by show y.toInt ≤ x; omega⟩
            · refine hs_callV C (A := [(.inl (x, x), ev_nt)]) (S := []) (j := 57) (i := 92) (mi := 35) (n := 1) (ci := 0) (E := fun _ => True) (sX l hP x ⟨hx.1, by have := hx.2; omega⟩) (fun w h => ⟨h, trivial⟩) (fun _ _ _ h => h) (by decide +kernel) rfl rfl rfl (by simp [en_all2, en_le, kS]) rfl (fun q hq => (by decide : ∀ q ∈ [((62 : Nat), (999 : Nat))], q ∈ ek_wr kq_2029) q hq) rfl rfl rfl (Nat.le_of_ble_eq_true rfl) (Nat.le_of_ble_eq_true rfl) (by decide) (by decide +kernel) (fun i u y hu hy => ?_)
              match i, hu with
              | 0, hu =>
                cases hu
                refine ev_go_mono (I' := cP P) (fun w h => h.1) ?_
                refine ev_go_lo (i := 3) (n := 1) (q := (0, 239)) (d := 0) rfl (fun h1 h2 => ?_)
                refine hv_go C cP_hI (ek_wr kq_2029) [] (17, 463) [] [(13, [some (.inr 59, none), some (.inr 3, none), some (.inl (4, 4), none), some (.inl (0, 240), some (1, 1)), none], [], [], [])] 60 (st := (59, [some (.inr 59, none), some (.inr 3, none), some (.inl (4, 4), none), some (.inl (0, 239), some (1, 0)), some (.inl (-1, 239), some (0, 0))], [], [], [])) ⟨rfl, rfl⟩ (by decide +kernel) trivial ⟨?_, trivial⟩
                refine ev_go_re (i := 3) (n := 1) (d := 1) (γ' := fun _ => γ 1 + 1) rfl rfl rfl ?_
                have h3 : ev_gu 0 x γ 1 = γ 1 := rfl
                rw [h3] at h2
                exact ih (240 - (γ 1 + 1)).toNat (by dsimp only at h2; omega) (fun _ => γ 1 + 1) rfl
  refine hv_go C cP_hI (ek_wr kq_2029) [kq_2028] (17, 463) [] [(10, [none, none, none, none, none], [(.inl (0, 0), ev_nt)], [], []), (13, [some (.inr 59, none), some (.inr 3, none), some (.inl (4, 4), none), some (.inl (0, 0), none), none], [], [], [])] 60 ⟨rfl, rfl⟩ (by decide +kernel) ⟨qk_2028 l hP, trivial⟩ ⟨?_, ?_, trivial⟩
  · exact hs_iret C (i := 0) (fun ls w x _ _ _ hI hx _ => hI) hret rfl rfl rfl (by decide) rfl rfl rfl (by decide +kernel)
  · refine ev_go_gv 1 0 rfl ?_
    exact ev_go_mark (i := 3) (n := 1) (q' := (0, 240)) (v := 0) rfl (by decide) rfl (hloop _ _ rfl)
def kq_2030 : ek := (34, [.inr 59, .inr 3, .inl (3, 3)], [], [(1, 3), (1, 4), (57, 8), (61, 999), (62, 999)], [(some (.inl (0, 0)), []), (some (.inl (1, 1)), [((2, 1, 2), (1, 260), none)])], 18, 488)
/-- LoadsAhead.Law readTest -/
theorem qk_2030 (l : Launch) {P : (Nat → Int) → (Nat → Int) → Int → Prop} (hP : pC P) : ek_ok l tQ (cP P) kq_2030 := ek_good_ok (sp := sC) (K := [kq_35, kq_36, kq_37, kq_2011, kq_59, kq_76, kq_2029, kq_2027, (kA (-1, 255) (0, 6))]) (SP := []) (HS := []) (N := 0) (fuel := 86) cP_hI (List.forall_mem_cons.mpr ⟨(ek_upS cP_hI (fun _ _ => trivial) rfl (qk_35 l)), List.forall_mem_cons.mpr ⟨(ek_upS cP_hI (fun _ _ => trivial) rfl (qk_36 l)), List.forall_mem_cons.mpr ⟨(ek_upS cP_hI (fun _ _ => trivial) rfl (qk_37 l)), List.forall_mem_cons.mpr ⟨(qk_2011 l hP), List.forall_mem_cons.mpr ⟨(ek_upS cP_hI (fun _ _ => trivial) rfl (qk_59 l)), List.forall_mem_cons.mpr ⟨(ek_upS cP_hI (fun _ _ => trivial) rfl (qk_76 l)), List.forall_mem_cons.mpr ⟨(qk_2029 l hP), List.forall_mem_cons.mpr ⟨(qk_2027 l hP), List.forall_mem_cons.mpr ⟨(aK_1 l hP), fun _ h => absurd h List.not_mem_nil⟩⟩⟩⟩⟩⟩⟩⟩⟩) (by decide +kernel)
def kq_2031 : ek := (33, [.inr 59, .inr 3, .inl (3, 3)], [], [(1, 3), (1, 4), (57, 8), (61, 999), (62, 999)], [(some (.inl (0, 0)), []), (some (.inl (1, 1)), [])], 19, 511)
/-- LoadsAhead.Law readBoth -/
theorem qk_2031 (l : Launch) {P : (Nat → Int) → (Nat → Int) → Int → Prop} (hP : pC P) : ek_ok l tQ (cP P) kq_2031 := by
  refine hk_ek (J := fun _ _ w => cP P w) (I' := cP P) ?_ (fun w h => h) (fun i x w w' _ _ h => h)
  refine hk_ok_of (o := 0) (r := (yX0_readBoth, prog_2_method_6_code, 5, some .boolean)) rfl rfl (by decide +kernel) (by decide) rfl (fun p e s m args below meth c D tys aK aV b0 ad w0 C hret => ?_)
  have hloop : ∀ (n : Nat) (γ : Nat → Int), (240 - γ 1).toNat = n → ev_go p l e (ek_rm kq_2031) s m args below meth c (MQ below (hk_qc D tys tQ (fun _ _ w => cP P w) b0 ad w0 kq_2031 true) args s 0 0 (fun q => b0 ≤ q)) D tys tQ (cP P) b0 5 ad w0 (ek_wr kq_2031) γ (13, [some (.inr 59, none), some (.inr 3, none), some (.inl (3, 3), none), some (.inl (0, 240), some (1, 0)), none], [], [], []) := by
    intro n
    induction n using Nat.strongRecOn with
    | _ n ih =>
      intro γ hn
      refine hv_go C cP_hI (ek_wr kq_2031) [kq_35, kq_37] (19, 511) [] [(66, [none, none, none, none, none], [(.inl (1, 1), ev_nt)], [], []), (37, [some (.inr 59, none), some (.inr 3, none), some (.inl (3, 3), none), some (.inl (0, 239), some (1, 0)), none], [(.inl (0, 0), ev_nt), (.inl (38, 38), ev_nt), (.inr 59, ev_nt)], [], [])] 60 ⟨rfl, rfl⟩ (by decide +kernel) ⟨(ek_upS cP_hI (fun _ _ => trivial) rfl (qk_35 l)), (ek_upS cP_hI (fun _ _ => trivial) rfl (qk_37 l)), trivial⟩ ⟨?_, ?_, trivial⟩
      · exact hs_iret C (i := 1) (fun ls w x _ _ _ hI hx _ => hI) hret rfl rfl rfl (by decide) rfl rfl rfl (by decide +kernel)
      · refine hs_callV C (A := [(.inl (0, 0), ev_nt), (.inl (38, 38), ev_nt)]) (S := []) (j := 57) (i := 88) (mi := 29) (n := 2) (ci := 0) (E := fun _ => True) (aX_38 l hP) (fun w h => ⟨h, trivial⟩) (fun _ _ _ h => h) (by decide +kernel) rfl rfl rfl (by decide) rfl (by decide) rfl rfl rfl (by decide) (by decide) (by decide) (by decide +kernel) (fun i u x hu hx => ?_)
        match i, hu with
        | 0, hu =>
          cases hu
          refine ev_go_mono (I' := cP (cX P x)) (fun w h => h.1) ?_
          refine ev_op_ok C (cP_hI (P := cX P x)) (K := []) (rm := (19, 511)) (fun _ h => absurd h List.not_mem_nil) ⟨rfl, rfl⟩ (op := .istore 4) (len := 2) (by decide +kernel) rfl (fun st hst => ?_)
          rw [List.mem_singleton.mp hst]
          refine ev_go_gv 0 x rfl ?_
          refine ev_go_mark (i := 4) (n := 0) (q' := (-1, 239)) (v := x) rfl hx rfl ?_
          refine hv_go C (cP_hI (P := cX P x)) (ek_wr kq_2031) [kq_2030] (19, 511) [] [(51, [none, none, none, none, none], [], [], []), (56, [some (.inr 59, none), some (.inr 3, none), some (.inl (3, 3), none), some (.inl (0, 239), some (1, 0)), some (.inl (-1, 239), some (0, 0))], [(.inl (-1, 239), (1, 4, 0, 0)), (.inr 59, ev_nt)], [], [])] 60 (st := (42, [some (.inr 59, none), some (.inr 3, none), some (.inl (3, 3), none), some (.inl (0, 239), some (1, 0)), some (.inl (-1, 239), some (0, 0))], [], [], [])) ⟨rfl, rfl⟩ (by decide +kernel) ⟨qk_2030 l (cX_ok hP x), trivial⟩ ⟨?_, ?_, trivial⟩
          · refine ev_go_mono (I' := cP P) (fun w h => h.1) ?_
            refine hv_go C cP_hI (ek_wr kq_2031) [] (19, 511) [] [(52, [none, none, none, none, none], [(.inl (0, 0), ev_nt)], [], [])] 60 ⟨rfl, rfl⟩ (by decide +kernel) trivial ⟨?_, trivial⟩
            exact hs_iret C (i := 0) (fun ls w x _ _ _ hI hx _ => hI) hret rfl rfl rfl (by decide) rfl rfl rfl (by decide +kernel)
          · refine ev_go_top (q' := (x, x)) (t' := ev_nt) (fun ls w y _ hl _ _ hy ty => ⟨?_, ev_tag0⟩) ?_
            · obtain ⟨u, g1, g2⟩ := tag_l ty
              have g3 : u.toInt = x + 0 := lo_mark (i := 4) hl rfl g1
              exact ⟨by show x ≤ y.toInt; omega, by show y.toInt ≤ x; omega⟩
            · refine hs_callV C (A := [(.inl (x, x), ev_nt)]) (S := []) (j := 57) (i := 92) (mi := 35) (n := 1) (ci := 0) (E := fun _ => True) (sX l hP x ⟨hx.1, by have := hx.2; omega⟩) (fun w h => ⟨h, trivial⟩) (fun _ _ _ h => h) (by decide +kernel) rfl rfl rfl (by simp [en_all2, en_le, kS]) rfl (fun q hq => (by decide : ∀ q ∈ [((62 : Nat), (999 : Nat))], q ∈ ek_wr kq_2031) q hq) rfl rfl rfl (Nat.le_of_ble_eq_true rfl) (Nat.le_of_ble_eq_true rfl) (by decide) (by decide +kernel) (fun i u y hu hy => ?_)
              match i, hu with
              | 0, hu =>
                cases hu
                refine ev_go_mono (I' := cP P) (fun w h => h.1) ?_
                refine ev_go_lo (i := 3) (n := 1) (q := (0, 239)) (d := 0) rfl (fun h1 h2 => ?_)
                refine hv_go C cP_hI (ek_wr kq_2031) [] (19, 511) [] [(13, [some (.inr 59, none), some (.inr 3, none), some (.inl (3, 3), none), some (.inl (0, 240), some (1, 1)), none], [], [], [])] 60 (st := (59, [some (.inr 59, none), some (.inr 3, none), some (.inl (3, 3), none), some (.inl (0, 239), some (1, 0)), some (.inl (-1, 239), some (0, 0))], [], [], [])) ⟨rfl, rfl⟩ (by decide +kernel) trivial ⟨?_, trivial⟩
                refine ev_go_re (i := 3) (n := 1) (d := 1) (γ' := fun _ => γ 1 + 1) rfl rfl rfl ?_
                have h3 : ev_gu 0 x γ 1 = γ 1 := rfl
                rw [h3] at h2
                exact ih (240 - (γ 1 + 1)).toNat (by dsimp only at h2; omega) (fun _ => γ 1 + 1) rfl
  refine hv_go C cP_hI (ek_wr kq_2031) [kq_2030] (19, 511) [] [(10, [none, none, none, none, none], [(.inl (0, 0), ev_nt)], [], []), (13, [some (.inr 59, none), some (.inr 3, none), some (.inl (3, 3), none), some (.inl (0, 0), none), none], [], [], [])] 60 ⟨rfl, rfl⟩ (by decide +kernel) ⟨qk_2030 l hP, trivial⟩ ⟨?_, ?_, trivial⟩
  · exact hs_iret C (i := 0) (fun ls w x _ _ _ hI hx _ => hI) hret rfl rfl rfl (by decide) rfl rfl rfl (by decide +kernel)
  · refine ev_go_gv 1 0 rfl ?_
    exact ev_go_mark (i := 3) (n := 1) (q' := (0, 240)) (v := 0) rfl (by decide) rfl (hloop _ _ rfl)
def kq_2032 : ek := (32, [.inr 59, .inr 3, .inl (3, 3)], [], [(1, 3), (1, 4), (57, 8), (61, 999), (62, 999)], [(some (.inl (0, 0)), []), (some (.inl (1, 1)), [])], 20, 535)
/-- LoadsAhead.Law readEither -/
theorem qk_2032 (l : Launch) {P : (Nat → Int) → (Nat → Int) → Int → Prop} (hP : pC P) : ek_ok l tQ (cP P) kq_2032 := by
  refine hk_ek (J := fun _ _ w => cP P w) (I' := cP P) ?_ (fun w h => h) (fun i x w w' _ _ h => h)
  refine hk_ok_of (o := 0) (r := (yX0_readEither, prog_2_method_5_code, 5, some .boolean)) rfl rfl (by decide +kernel) (by decide) rfl (fun p e s m args below meth c D tys aK aV b0 ad w0 C hret => ?_)
  have hloop : ∀ (n : Nat) (γ : Nat → Int), (240 - γ 1).toNat = n → ev_go p l e (ek_rm kq_2032) s m args below meth c (MQ below (hk_qc D tys tQ (fun _ _ w => cP P w) b0 ad w0 kq_2032 true) args s 0 0 (fun q => b0 ≤ q)) D tys tQ (cP P) b0 5 ad w0 (ek_wr kq_2032) γ (13, [some (.inr 59, none), some (.inr 3, none), some (.inl (3, 3), none), some (.inl (0, 240), some (1, 0)), none], [], [], []) := by
    intro n
    induction n using Nat.strongRecOn with
    | _ n ih =>
      intro γ hn
      refine hv_go C cP_hI (ek_wr kq_2032) [kq_35, kq_37] (20, 535) [] [(66, [none, none, none, none, none], [(.inl (1, 1), ev_nt)], [], []), (37, [some (.inr 59, none), some (.inr 3, none), some (.inl (3, 3), none), some (.inl (0, 239), some (1, 0)), none], [(.inl (0, 0), ev_nt), (.inl (124, 124), ev_nt), (.inr 59, ev_nt)], [], [])] 60 ⟨rfl, rfl⟩ (by decide +kernel) ⟨(ek_upS cP_hI (fun _ _ => trivial) rfl (qk_35 l)), (ek_upS cP_hI (fun _ _ => trivial) rfl (qk_37 l)), trivial⟩ ⟨?_, ?_, trivial⟩
      · exact hs_iret C (i := 1) (fun ls w x _ _ _ hI hx _ => hI) hret rfl rfl rfl (by decide) rfl rfl rfl (by decide +kernel)
      · refine hs_callV C (A := [(.inl (0, 0), ev_nt), (.inl (124, 124), ev_nt)]) (S := []) (j := 57) (i := 88) (mi := 29) (n := 2) (ci := 0) (E := fun _ => True) (aX_124 l hP) (fun w h => ⟨h, trivial⟩) (fun _ _ _ h => h) (by decide +kernel) rfl rfl rfl (by decide) rfl (by decide) rfl rfl rfl (by decide) (by decide) (by decide) (by decide +kernel) (fun i u x hu hx => ?_)
        match i, hu with
        | 0, hu =>
          cases hu
          refine ev_go_mono (I' := cP (cX P x)) (fun w h => h.1) ?_
          refine ev_op_ok C (cP_hI (P := cX P x)) (K := []) (rm := (20, 535)) (fun _ h => absurd h List.not_mem_nil) ⟨rfl, rfl⟩ (op := .istore 4) (len := 2) (by decide +kernel) rfl (fun st hst => ?_)
          rw [List.mem_singleton.mp hst]
          refine ev_go_gv 0 x rfl ?_
          refine ev_go_mark (i := 4) (n := 0) (q' := (-1, 239)) (v := x) rfl hx rfl ?_
          refine hv_go C (cP_hI (P := cX P x)) (ek_wr kq_2032) [kq_2031] (20, 535) [] [(51, [none, none, none, none, none], [], [], []), (56, [some (.inr 59, none), some (.inr 3, none), some (.inl (3, 3), none), some (.inl (0, 239), some (1, 0)), some (.inl (-1, 239), some (0, 0))], [(.inl (-1, 239), (1, 4, 0, 0)), (.inr 59, ev_nt)], [], [])] 60 (st := (42, [some (.inr 59, none), some (.inr 3, none), some (.inl (3, 3), none), some (.inl (0, 239), some (1, 0)), some (.inl (-1, 239), some (0, 0))], [], [], [])) ⟨rfl, rfl⟩ (by decide +kernel) ⟨qk_2031 l (cX_ok hP x), trivial⟩ ⟨?_, ?_, trivial⟩
          · refine ev_go_mono (I' := cP P) (fun w h => h.1) ?_
            refine hv_go C cP_hI (ek_wr kq_2032) [] (20, 535) [] [(52, [none, none, none, none, none], [(.inl (0, 0), ev_nt)], [], [])] 60 ⟨rfl, rfl⟩ (by decide +kernel) trivial ⟨?_, trivial⟩
            exact hs_iret C (i := 0) (fun ls w x _ _ _ hI hx _ => hI) hret rfl rfl rfl (by decide) rfl rfl rfl (by decide +kernel)
          · refine ev_go_top (q' := (x, x)) (t' := ev_nt) (fun ls w y _ hl _ _ hy ty => ⟨?_, ev_tag0⟩) ?_
            · obtain ⟨u, g1, g2⟩ := tag_l ty
              have g3 : u.toInt = x + 0 := lo_mark (i := 4) hl rfl g1
              exact ⟨by show x ≤ y.toInt; omega, by show y.toInt ≤ x; omega⟩
            · refine hs_callV C (A := [(.inl (x, x), ev_nt)]) (S := []) (j := 57) (i := 92) (mi := 35) (n := 1) (ci := 0) (E := fun _ => True) (sX l hP x ⟨hx.1, by have := hx.2; omega⟩) (fun w h => ⟨h, trivial⟩) (fun _ _ _ h => h) (by decide +kernel) rfl rfl rfl (by simp [en_all2, en_le, kS]) rfl (fun q hq => (by decide : ∀ q ∈ [((62 : Nat), (999 : Nat))], q ∈ ek_wr kq_2032) q hq) rfl rfl rfl (Nat.le_of_ble_eq_true rfl) (Nat.le_of_ble_eq_true rfl) (by decide) (by decide +kernel) (fun i u y hu hy => ?_)
              match i, hu with
              | 0, hu =>
                cases hu
                refine ev_go_mono (I' := cP P) (fun w h => h.1) ?_
                refine ev_go_lo (i := 3) (n := 1) (q := (0, 239)) (d := 0) rfl (fun h1 h2 => ?_)
                refine hv_go C cP_hI (ek_wr kq_2032) [] (20, 535) [] [(13, [some (.inr 59, none), some (.inr 3, none), some (.inl (3, 3), none), some (.inl (0, 240), some (1, 1)), none], [], [], [])] 60 (st := (59, [some (.inr 59, none), some (.inr 3, none), some (.inl (3, 3), none), some (.inl (0, 239), some (1, 0)), some (.inl (-1, 239), some (0, 0))], [], [], [])) ⟨rfl, rfl⟩ (by decide +kernel) trivial ⟨?_, trivial⟩
                refine ev_go_re (i := 3) (n := 1) (d := 1) (γ' := fun _ => γ 1 + 1) rfl rfl rfl ?_
                have h3 : ev_gu 0 x γ 1 = γ 1 := rfl
                rw [h3] at h2
                exact ih (240 - (γ 1 + 1)).toNat (by dsimp only at h2; omega) (fun _ => γ 1 + 1) rfl
  refine hv_go C cP_hI (ek_wr kq_2032) [kq_2031] (20, 535) [] [(10, [none, none, none, none, none], [(.inl (0, 0), ev_nt)], [], []), (13, [some (.inr 59, none), some (.inr 3, none), some (.inl (3, 3), none), some (.inl (0, 0), none), none], [], [], [])] 60 ⟨rfl, rfl⟩ (by decide +kernel) ⟨qk_2031 l hP, trivial⟩ ⟨?_, ?_, trivial⟩
  · exact hs_iret C (i := 0) (fun ls w x _ _ _ hI hx _ => hI) hret rfl rfl rfl (by decide) rfl rfl rfl (by decide +kernel)
  · refine ev_go_gv 1 0 rfl ?_
    exact ev_go_mark (i := 3) (n := 1) (q' := (0, 240)) (v := 0) rfl (by decide) rfl (hloop _ _ rfl)
def kq_2033 : ek := (34, [.inr 59, .inr 3, .inl (2, 2)], [], [(1, 3), (1, 4), (57, 8), (61, 999), (62, 999)], [(some (.inl (0, 0)), []), (some (.inl (1, 1)), [((2, 1, 2), (1, 260), none)])], 21, 560)
/-- LoadsAhead.Law readTest -/
theorem qk_2033 (l : Launch) {P : (Nat → Int) → (Nat → Int) → Int → Prop} (hP : pC P) : ek_ok l tQ (cP P) kq_2033 := ek_good_ok (sp := sC) (K := [kq_35, kq_36, kq_37, kq_2014, kq_63, kq_76, kq_2032, kq_2030, (kA (-1, 255) (0, 6))]) (SP := []) (HS := []) (N := 0) (fuel := 86) cP_hI (List.forall_mem_cons.mpr ⟨(ek_upS cP_hI (fun _ _ => trivial) rfl (qk_35 l)), List.forall_mem_cons.mpr ⟨(ek_upS cP_hI (fun _ _ => trivial) rfl (qk_36 l)), List.forall_mem_cons.mpr ⟨(ek_upS cP_hI (fun _ _ => trivial) rfl (qk_37 l)), List.forall_mem_cons.mpr ⟨(qk_2014 l hP), List.forall_mem_cons.mpr ⟨(ek_upS cP_hI (fun _ _ => trivial) rfl (qk_63 l)), List.forall_mem_cons.mpr ⟨(ek_upS cP_hI (fun _ _ => trivial) rfl (qk_76 l)), List.forall_mem_cons.mpr ⟨(qk_2032 l hP), List.forall_mem_cons.mpr ⟨(qk_2030 l hP), List.forall_mem_cons.mpr ⟨(aK_1 l hP), fun _ h => absurd h List.not_mem_nil⟩⟩⟩⟩⟩⟩⟩⟩⟩) (by decide +kernel)
def kq_2034 : ek := (33, [.inr 59, .inr 3, .inl (2, 2)], [], [(1, 3), (1, 4), (57, 8), (61, 999), (62, 999)], [(some (.inl (0, 0)), []), (some (.inl (1, 1)), [])], 22, 583)
/-- LoadsAhead.Law readBoth -/
theorem qk_2034 (l : Launch) {P : (Nat → Int) → (Nat → Int) → Int → Prop} (hP : pC P) : ek_ok l tQ (cP P) kq_2034 := by
  refine hk_ek (J := fun _ _ w => cP P w) (I' := cP P) ?_ (fun w h => h) (fun i x w w' _ _ h => h)
  refine hk_ok_of (o := 0) (r := (yX0_readBoth, prog_2_method_6_code, 5, some .boolean)) rfl rfl (by decide +kernel) (by decide) rfl (fun p e s m args below meth c D tys aK aV b0 ad w0 C hret => ?_)
  have hloop : ∀ (n : Nat) (γ : Nat → Int), (240 - γ 1).toNat = n → ev_go p l e (ek_rm kq_2034) s m args below meth c (MQ below (hk_qc D tys tQ (fun _ _ w => cP P w) b0 ad w0 kq_2034 true) args s 0 0 (fun q => b0 ≤ q)) D tys tQ (cP P) b0 5 ad w0 (ek_wr kq_2034) γ (13, [some (.inr 59, none), some (.inr 3, none), some (.inl (2, 2), none), some (.inl (0, 240), some (1, 0)), none], [], [], []) := by
    intro n
    induction n using Nat.strongRecOn with
    | _ n ih =>
      intro γ hn
      refine hv_go C cP_hI (ek_wr kq_2034) [kq_35, kq_37] (22, 583) [] [(66, [none, none, none, none, none], [(.inl (1, 1), ev_nt)], [], []), (37, [some (.inr 59, none), some (.inr 3, none), some (.inl (2, 2), none), some (.inl (0, 239), some (1, 0)), none], [(.inl (0, 0), ev_nt), (.inl (38, 38), ev_nt), (.inr 59, ev_nt)], [], [])] 60 ⟨rfl, rfl⟩ (by decide +kernel) ⟨(ek_upS cP_hI (fun _ _ => trivial) rfl (qk_35 l)), (ek_upS cP_hI (fun _ _ => trivial) rfl (qk_37 l)), trivial⟩ ⟨?_, ?_, trivial⟩
      · exact hs_iret C (i := 1) (fun ls w x _ _ _ hI hx _ => hI) hret rfl rfl rfl (by decide) rfl rfl rfl (by decide +kernel)
      · refine hs_callV C (A := [(.inl (0, 0), ev_nt), (.inl (38, 38), ev_nt)]) (S := []) (j := 57) (i := 88) (mi := 29) (n := 2) (ci := 0) (E := fun _ => True) (aX_38 l hP) (fun w h => ⟨h, trivial⟩) (fun _ _ _ h => h) (by decide +kernel) rfl rfl rfl (by decide) rfl (by decide) rfl rfl rfl (by decide) (by decide) (by decide) (by decide +kernel) (fun i u x hu hx => ?_)
        match i, hu with
        | 0, hu =>
          cases hu
          refine ev_go_mono (I' := cP (cX P x)) (fun w h => h.1) ?_
          refine ev_op_ok C (cP_hI (P := cX P x)) (K := []) (rm := (22, 583)) (fun _ h => absurd h List.not_mem_nil) ⟨rfl, rfl⟩ (op := .istore 4) (len := 2) (by decide +kernel) rfl (fun st hst => ?_)
          rw [List.mem_singleton.mp hst]
          refine ev_go_gv 0 x rfl ?_
          refine ev_go_mark (i := 4) (n := 0) (q' := (-1, 239)) (v := x) rfl hx rfl ?_
          refine hv_go C (cP_hI (P := cX P x)) (ek_wr kq_2034) [kq_2033] (22, 583) [] [(51, [none, none, none, none, none], [], [], []), (56, [some (.inr 59, none), some (.inr 3, none), some (.inl (2, 2), none), some (.inl (0, 239), some (1, 0)), some (.inl (-1, 239), some (0, 0))], [(.inl (-1, 239), (1, 4, 0, 0)), (.inr 59, ev_nt)], [], [])] 60 (st := (42, [some (.inr 59, none), some (.inr 3, none), some (.inl (2, 2), none), some (.inl (0, 239), some (1, 0)), some (.inl (-1, 239), some (0, 0))], [], [], [])) ⟨rfl, rfl⟩ (by decide +kernel) ⟨qk_2033 l (cX_ok hP x), trivial⟩ ⟨?_, ?_, trivial⟩
          · refine ev_go_mono (I' := cP P) (fun w h => h.1) ?_
            refine hv_go C cP_hI (ek_wr kq_2034) [] (22, 583) [] [(52, [none, none, none, none, none], [(.inl (0, 0), ev_nt)], [], [])] 60 ⟨rfl, rfl⟩ (by decide +kernel) trivial ⟨?_, trivial⟩
            exact hs_iret C (i := 0) (fun ls w x _ _ _ hI hx _ => hI) hret rfl rfl rfl (by decide) rfl rfl rfl (by decide +kernel)
          · refine ev_go_top (q' := (x, x)) (t' := ev_nt) (fun ls w y _ hl _ _ hy ty => ⟨?_, ev_tag0⟩) ?_
            · obtain ⟨u, g1, g2⟩ := tag_l ty
              have g3 : u.toInt = x + 0 := lo_mark (i := 4) hl rfl g1
              exact ⟨by show x ≤ y.toInt; omega, by show y.toInt ≤ x; omega⟩
            · refine hs_callV C (A := [(.inl (x, x), ev_nt)]) (S := []) (j := 57) (i := 92) (mi := 35) (n := 1) (ci := 0) (E := fun _ => True) (sX l hP x ⟨hx.1, by have := hx.2; omega⟩) (fun w h => ⟨h, trivial⟩) (fun _ _ _ h => h) (by decide +kernel) rfl rfl rfl (by simp [en_all2, en_le, kS]) rfl (fun q hq => (by decide : ∀ q ∈ [((62 : Nat), (999 : Nat))], q ∈ ek_wr kq_2034) q hq) rfl rfl rfl (Nat.le_of_ble_eq_true rfl) (Nat.le_of_ble_eq_true rfl) (by decide) (by decide +kernel) (fun i u y hu hy => ?_)
              match i, hu with
              | 0, hu =>
                cases hu
                refine ev_go_mono (I' := cP P) (fun w h => h.1) ?_
                refine ev_go_lo (i := 3) (n := 1) (q := (0, 239)) (d := 0) rfl (fun h1 h2 => ?_)
                refine hv_go C cP_hI (ek_wr kq_2034) [] (22, 583) [] [(13, [some (.inr 59, none), some (.inr 3, none), some (.inl (2, 2), none), some (.inl (0, 240), some (1, 1)), none], [], [], [])] 60 (st := (59, [some (.inr 59, none), some (.inr 3, none), some (.inl (2, 2), none), some (.inl (0, 239), some (1, 0)), some (.inl (-1, 239), some (0, 0))], [], [], [])) ⟨rfl, rfl⟩ (by decide +kernel) trivial ⟨?_, trivial⟩
                refine ev_go_re (i := 3) (n := 1) (d := 1) (γ' := fun _ => γ 1 + 1) rfl rfl rfl ?_
                have h3 : ev_gu 0 x γ 1 = γ 1 := rfl
                rw [h3] at h2
                exact ih (240 - (γ 1 + 1)).toNat (by dsimp only at h2; omega) (fun _ => γ 1 + 1) rfl
  refine hv_go C cP_hI (ek_wr kq_2034) [kq_2033] (22, 583) [] [(10, [none, none, none, none, none], [(.inl (0, 0), ev_nt)], [], []), (13, [some (.inr 59, none), some (.inr 3, none), some (.inl (2, 2), none), some (.inl (0, 0), none), none], [], [], [])] 60 ⟨rfl, rfl⟩ (by decide +kernel) ⟨qk_2033 l hP, trivial⟩ ⟨?_, ?_, trivial⟩
  · exact hs_iret C (i := 0) (fun ls w x _ _ _ hI hx _ => hI) hret rfl rfl rfl (by decide) rfl rfl rfl (by decide +kernel)
  · refine ev_go_gv 1 0 rfl ?_
    exact ev_go_mark (i := 3) (n := 1) (q' := (0, 240)) (v := 0) rfl (by decide) rfl (hloop _ _ rfl)
def kq_2035 : ek := (32, [.inr 59, .inr 3, .inl (2, 2)], [], [(1, 3), (1, 4), (57, 8), (61, 999), (62, 999)], [(some (.inl (0, 0)), []), (some (.inl (1, 1)), [])], 23, 607)
/-- LoadsAhead.Law readEither -/
theorem qk_2035 (l : Launch) {P : (Nat → Int) → (Nat → Int) → Int → Prop} (hP : pC P) : ek_ok l tQ (cP P) kq_2035 := by
  refine hk_ek (J := fun _ _ w => cP P w) (I' := cP P) ?_ (fun w h => h) (fun i x w w' _ _ h => h)
  refine hk_ok_of (o := 0) (r := (yX0_readEither, prog_2_method_5_code, 5, some .boolean)) rfl rfl (by decide +kernel) (by decide) rfl (fun p e s m args below meth c D tys aK aV b0 ad w0 C hret => ?_)
  have hloop : ∀ (n : Nat) (γ : Nat → Int), (240 - γ 1).toNat = n → ev_go p l e (ek_rm kq_2035) s m args below meth c (MQ below (hk_qc D tys tQ (fun _ _ w => cP P w) b0 ad w0 kq_2035 true) args s 0 0 (fun q => b0 ≤ q)) D tys tQ (cP P) b0 5 ad w0 (ek_wr kq_2035) γ (13, [some (.inr 59, none), some (.inr 3, none), some (.inl (2, 2), none), some (.inl (0, 240), some (1, 0)), none], [], [], []) := by
    intro n
    induction n using Nat.strongRecOn with
    | _ n ih =>
      intro γ hn
      refine hv_go C cP_hI (ek_wr kq_2035) [kq_35, kq_37] (23, 607) [] [(66, [none, none, none, none, none], [(.inl (1, 1), ev_nt)], [], []), (37, [some (.inr 59, none), some (.inr 3, none), some (.inl (2, 2), none), some (.inl (0, 239), some (1, 0)), none], [(.inl (0, 0), ev_nt), (.inl (124, 124), ev_nt), (.inr 59, ev_nt)], [], [])] 60 ⟨rfl, rfl⟩ (by decide +kernel) ⟨(ek_upS cP_hI (fun _ _ => trivial) rfl (qk_35 l)), (ek_upS cP_hI (fun _ _ => trivial) rfl (qk_37 l)), trivial⟩ ⟨?_, ?_, trivial⟩
      · exact hs_iret C (i := 1) (fun ls w x _ _ _ hI hx _ => hI) hret rfl rfl rfl (by decide) rfl rfl rfl (by decide +kernel)
      · refine hs_callV C (A := [(.inl (0, 0), ev_nt), (.inl (124, 124), ev_nt)]) (S := []) (j := 57) (i := 88) (mi := 29) (n := 2) (ci := 0) (E := fun _ => True) (aX_124 l hP) (fun w h => ⟨h, trivial⟩) (fun _ _ _ h => h) (by decide +kernel) rfl rfl rfl (by decide) rfl (by decide) rfl rfl rfl (by decide) (by decide) (by decide) (by decide +kernel) (fun i u x hu hx => ?_)
        match i, hu with
        | 0, hu =>
          cases hu
          refine ev_go_mono (I' := cP (cX P x)) (fun w h => h.1) ?_
          refine ev_op_ok C (cP_hI (P := cX P x)) (K := []) (rm := (23, 607)) (fun _ h => absurd h List.not_mem_nil) ⟨rfl, rfl⟩ (op := .istore 4) (len := 2) (by decide +kernel) rfl (fun st hst => ?_)
          rw [List.mem_singleton.mp hst]
          refine ev_go_gv 0 x rfl ?_
          refine ev_go_mark (i := 4) (n := 0) (q' := (-1, 239)) (v := x) rfl hx rfl ?_
          refine hv_go C (cP_hI (P := cX P x)) (ek_wr kq_2035) [kq_2034] (23, 607) [] [(51, [none, none, none, none, none], [], [], []), (56, [some (.inr 59, none), some (.inr 3, none), some (.inl (2, 2), none), some (.inl (0, 239), some (1, 0)), some (.inl (-1, 239), some (0, 0))], [(.inl (-1, 239), (1, 4, 0, 0)), (.inr 59, ev_nt)], [], [])] 60 (st := (42, [some (.inr 59, none), some (.inr 3, none), some (.inl (2, 2), none), some (.inl (0, 239), some (1, 0)), some (.inl (-1, 239), some (0, 0))], [], [], [])) ⟨rfl, rfl⟩ (by decide +kernel) ⟨qk_2034 l (cX_ok hP x), trivial⟩ ⟨?_, ?_, trivial⟩
          · refine ev_go_mono (I' := cP P) (fun w h => h.1) ?_
            refine hv_go C cP_hI (ek_wr kq_2035) [] (23, 607) [] [(52, [none, none, none, none, none], [(.inl (0, 0), ev_nt)], [], [])] 60 ⟨rfl, rfl⟩ (by decide +kernel) trivial ⟨?_, trivial⟩
            exact hs_iret C (i := 0) (fun ls w x _ _ _ hI hx _ => hI) hret rfl rfl rfl (by decide) rfl rfl rfl (by decide +kernel)
          · refine ev_go_top (q' := (x, x)) (t' := ev_nt) (fun ls w y _ hl _ _ hy ty => ⟨?_, ev_tag0⟩) ?_
            · obtain ⟨u, g1, g2⟩ := tag_l ty
              have g3 : u.toInt = x + 0 := lo_mark (i := 4) hl rfl g1
              exact ⟨by show x ≤ y.toInt; omega, by show y.toInt ≤ x; omega⟩
            · refine hs_callV C (A := [(.inl (x, x), ev_nt)]) (S := []) (j := 57) (i := 92) (mi := 35) (n := 1) (ci := 0) (E := fun _ => True) (sX l hP x ⟨hx.1, by have := hx.2; omega⟩) (fun w h => ⟨h, trivial⟩) (fun _ _ _ h => h) (by decide +kernel) rfl rfl rfl (by simp [en_all2, en_le, kS]) rfl (fun q hq => (by decide : ∀ q ∈ [((62 : Nat), (999 : Nat))], q ∈ ek_wr kq_2035) q hq) rfl rfl rfl (Nat.le_of_ble_eq_true rfl) (Nat.le_of_ble_eq_true rfl) (by decide) (by decide +kernel) (fun i u y hu hy => ?_)
              match i, hu with
              | 0, hu =>
                cases hu
                refine ev_go_mono (I' := cP P) (fun w h => h.1) ?_
                refine ev_go_lo (i := 3) (n := 1) (q := (0, 239)) (d := 0) rfl (fun h1 h2 => ?_)
                refine hv_go C cP_hI (ek_wr kq_2035) [] (23, 607) [] [(13, [some (.inr 59, none), some (.inr 3, none), some (.inl (2, 2), none), some (.inl (0, 240), some (1, 1)), none], [], [], [])] 60 (st := (59, [some (.inr 59, none), some (.inr 3, none), some (.inl (2, 2), none), some (.inl (0, 239), some (1, 0)), some (.inl (-1, 239), some (0, 0))], [], [], [])) ⟨rfl, rfl⟩ (by decide +kernel) trivial ⟨?_, trivial⟩
                refine ev_go_re (i := 3) (n := 1) (d := 1) (γ' := fun _ => γ 1 + 1) rfl rfl rfl ?_
                have h3 : ev_gu 0 x γ 1 = γ 1 := rfl
                rw [h3] at h2
                exact ih (240 - (γ 1 + 1)).toNat (by dsimp only at h2; omega) (fun _ => γ 1 + 1) rfl
  refine hv_go C cP_hI (ek_wr kq_2035) [kq_2034] (23, 607) [] [(10, [none, none, none, none, none], [(.inl (0, 0), ev_nt)], [], []), (13, [some (.inr 59, none), some (.inr 3, none), some (.inl (2, 2), none), some (.inl (0, 0), none), none], [], [], [])] 60 ⟨rfl, rfl⟩ (by decide +kernel) ⟨qk_2034 l hP, trivial⟩ ⟨?_, ?_, trivial⟩
  · exact hs_iret C (i := 0) (fun ls w x _ _ _ hI hx _ => hI) hret rfl rfl rfl (by decide) rfl rfl rfl (by decide +kernel)
  · refine ev_go_gv 1 0 rfl ?_
    exact ev_go_mark (i := 3) (n := 1) (q' := (0, 240)) (v := 0) rfl (by decide) rfl (hloop _ _ rfl)
def kq_2036 : ek := (34, [.inr 59, .inr 3, .inl (1, 1)], [], [(1, 3), (1, 4), (57, 8), (61, 999), (62, 999)], [(some (.inl (0, 0)), []), (some (.inl (1, 1)), [((2, 1, 2), (1, 260), none)])], 24, 632)
/-- LoadsAhead.Law readTest -/
theorem qk_2036 (l : Launch) {P : (Nat → Int) → (Nat → Int) → Int → Prop} (hP : pC P) : ek_ok l tQ (cP P) kq_2036 := ek_good_ok (sp := sC) (K := [kq_35, kq_36, kq_37, kq_2017, kq_67, kq_76, kq_2035, kq_2033, (kA (-1, 255) (0, 6))]) (SP := []) (HS := []) (N := 0) (fuel := 86) cP_hI (List.forall_mem_cons.mpr ⟨(ek_upS cP_hI (fun _ _ => trivial) rfl (qk_35 l)), List.forall_mem_cons.mpr ⟨(ek_upS cP_hI (fun _ _ => trivial) rfl (qk_36 l)), List.forall_mem_cons.mpr ⟨(ek_upS cP_hI (fun _ _ => trivial) rfl (qk_37 l)), List.forall_mem_cons.mpr ⟨(qk_2017 l hP), List.forall_mem_cons.mpr ⟨(ek_upS cP_hI (fun _ _ => trivial) rfl (qk_67 l)), List.forall_mem_cons.mpr ⟨(ek_upS cP_hI (fun _ _ => trivial) rfl (qk_76 l)), List.forall_mem_cons.mpr ⟨(qk_2035 l hP), List.forall_mem_cons.mpr ⟨(qk_2033 l hP), List.forall_mem_cons.mpr ⟨(aK_1 l hP), fun _ h => absurd h List.not_mem_nil⟩⟩⟩⟩⟩⟩⟩⟩⟩) (by decide +kernel)
def kq_2037 : ek := (33, [.inr 59, .inr 3, .inl (1, 1)], [], [(1, 3), (1, 4), (57, 8), (61, 999), (62, 999)], [(some (.inl (0, 0)), []), (some (.inl (1, 1)), [])], 25, 655)
/-- LoadsAhead.Law readBoth -/
theorem qk_2037 (l : Launch) {P : (Nat → Int) → (Nat → Int) → Int → Prop} (hP : pC P) : ek_ok l tQ (cP P) kq_2037 := by
  refine hk_ek (J := fun _ _ w => cP P w) (I' := cP P) ?_ (fun w h => h) (fun i x w w' _ _ h => h)
  refine hk_ok_of (o := 0) (r := (yX0_readBoth, prog_2_method_6_code, 5, some .boolean)) rfl rfl (by decide +kernel) (by decide) rfl (fun p e s m args below meth c D tys aK aV b0 ad w0 C hret => ?_)
  have hloop : ∀ (n : Nat) (γ : Nat → Int), (240 - γ 1).toNat = n → ev_go p l e (ek_rm kq_2037) s m args below meth c (MQ below (hk_qc D tys tQ (fun _ _ w => cP P w) b0 ad w0 kq_2037 true) args s 0 0 (fun q => b0 ≤ q)) D tys tQ (cP P) b0 5 ad w0 (ek_wr kq_2037) γ (13, [some (.inr 59, none), some (.inr 3, none), some (.inl (1, 1), none), some (.inl (0, 240), some (1, 0)), none], [], [], []) := by
    intro n
    induction n using Nat.strongRecOn with
    | _ n ih =>
      intro γ hn
      refine hv_go C cP_hI (ek_wr kq_2037) [kq_35, kq_37] (25, 655) [] [(66, [none, none, none, none, none], [(.inl (1, 1), ev_nt)], [], []), (37, [some (.inr 59, none), some (.inr 3, none), some (.inl (1, 1), none), some (.inl (0, 239), some (1, 0)), none], [(.inl (0, 0), ev_nt), (.inl (38, 38), ev_nt), (.inr 59, ev_nt)], [], [])] 60 ⟨rfl, rfl⟩ (by decide +kernel) ⟨(ek_upS cP_hI (fun _ _ => trivial) rfl (qk_35 l)), (ek_upS cP_hI (fun _ _ => trivial) rfl (qk_37 l)), trivial⟩ ⟨?_, ?_, trivial⟩
      · exact hs_iret C (i := 1) (fun ls w x _ _ _ hI hx _ => hI) hret rfl rfl rfl (by decide) rfl rfl rfl (by decide +kernel)
      · refine hs_callV C (A := [(.inl (0, 0), ev_nt), (.inl (38, 38), ev_nt)]) (S := []) (j := 57) (i := 88) (mi := 29) (n := 2) (ci := 0) (E := fun _ => True) (aX_38 l hP) (fun w h => ⟨h, trivial⟩) (fun _ _ _ h => h) (by decide +kernel) rfl rfl rfl (by decide) rfl (by decide) rfl rfl rfl (by decide) (by decide) (by decide) (by decide +kernel) (fun i u x hu hx => ?_)
        match i, hu with
        | 0, hu =>
          cases hu
          refine ev_go_mono (I' := cP (cX P x)) (fun w h => h.1) ?_
          refine ev_op_ok C (cP_hI (P := cX P x)) (K := []) (rm := (25, 655)) (fun _ h => absurd h List.not_mem_nil) ⟨rfl, rfl⟩ (op := .istore 4) (len := 2) (by decide +kernel) rfl (fun st hst => ?_)
          rw [List.mem_singleton.mp hst]
          refine ev_go_gv 0 x rfl ?_
          refine ev_go_mark (i := 4) (n := 0) (q' := (-1, 239)) (v := x) rfl hx rfl ?_
          refine hv_go C (cP_hI (P := cX P x)) (ek_wr kq_2037) [kq_2036] (25, 655) [] [(51, [none, none, none, none, none], [], [], []), (56, [some (.inr 59, none), some (.inr 3, none), some (.inl (1, 1), none), some (.inl (0, 239), some (1, 0)), some (.inl (-1, 239), some (0, 0))], [(.inl (-1, 239), (1, 4, 0, 0)), (.inr 59, ev_nt)], [], [])] 60 (st := (42, [some (.inr 59, none), some (.inr 3, none), some (.inl (1, 1), none), some (.inl (0, 239), some (1, 0)), some (.inl (-1, 239), some (0, 0))], [], [], [])) ⟨rfl, rfl⟩ (by decide +kernel) ⟨qk_2036 l (cX_ok hP x), trivial⟩ ⟨?_, ?_, trivial⟩
          · refine ev_go_mono (I' := cP P) (fun w h => h.1) ?_
            refine hv_go C cP_hI (ek_wr kq_2037) [] (25, 655) [] [(52, [none, none, none, none, none], [(.inl (0, 0), ev_nt)], [], [])] 60 ⟨rfl, rfl⟩ (by decide +kernel) trivial ⟨?_, trivial⟩
            exact hs_iret C (i := 0) (fun ls w x _ _ _ hI hx _ => hI) hret rfl rfl rfl (by decide) rfl rfl rfl (by decide +kernel)
          · refine ev_go_top (q' := (x, x)) (t' := ev_nt) (fun ls w y _ hl _ _ hy ty => ⟨?_, ev_tag0⟩) ?_
            · obtain ⟨u, g1, g2⟩ := tag_l ty
              have g3 : u.toInt = x + 0 := lo_mark (i := 4) hl rfl g1
              exact ⟨by show x ≤ y.toInt; omega, by show y.toInt ≤ x; omega⟩
            · refine hs_callV C (A := [(.inl (x, x), ev_nt)]) (S := []) (j := 57) (i := 92) (mi := 35) (n := 1) (ci := 0) (E := fun _ => True) (sX l hP x ⟨hx.1, by have := hx.2; omega⟩) (fun w h => ⟨h, trivial⟩) (fun _ _ _ h => h) (by decide +kernel) rfl rfl rfl (by simp [en_all2, en_le, kS]) rfl (fun q hq => (by decide : ∀ q ∈ [((62 : Nat), (999 : Nat))], q ∈ ek_wr kq_2037) q hq) rfl rfl rfl (Nat.le_of_ble_eq_true rfl) (Nat.le_of_ble_eq_true rfl) (by decide) (by decide +kernel) (fun i u y hu hy => ?_)
              match i, hu with
              | 0, hu =>
                cases hu
                refine ev_go_mono (I' := cP P) (fun w h => h.1) ?_
                refine ev_go_lo (i := 3) (n := 1) (q := (0, 239)) (d := 0) rfl (fun h1 h2 => ?_)
                refine hv_go C cP_hI (ek_wr kq_2037) [] (25, 655) [] [(13, [some (.inr 59, none), some (.inr 3, none), some (.inl (1, 1), none), some (.inl (0, 240), some (1, 1)), none], [], [], [])] 60 (st := (59, [some (.inr 59, none), some (.inr 3, none), some (.inl (1, 1), none), some (.inl (0, 239), some (1, 0)), some (.inl (-1, 239), some (0, 0))], [], [], [])) ⟨rfl, rfl⟩ (by decide +kernel) trivial ⟨?_, trivial⟩
                refine ev_go_re (i := 3) (n := 1) (d := 1) (γ' := fun _ => γ 1 + 1) rfl rfl rfl ?_
                have h3 : ev_gu 0 x γ 1 = γ 1 := rfl
                rw [h3] at h2
                exact ih (240 - (γ 1 + 1)).toNat (by dsimp only at h2; omega) (fun _ => γ 1 + 1) rfl
  refine hv_go C cP_hI (ek_wr kq_2037) [kq_2036] (25, 655) [] [(10, [none, none, none, none, none], [(.inl (0, 0), ev_nt)], [], []), (13, [some (.inr 59, none), some (.inr 3, none), some (.inl (1, 1), none), some (.inl (0, 0), none), none], [], [], [])] 60 ⟨rfl, rfl⟩ (by decide +kernel) ⟨qk_2036 l hP, trivial⟩ ⟨?_, ?_, trivial⟩
  · exact hs_iret C (i := 0) (fun ls w x _ _ _ hI hx _ => hI) hret rfl rfl rfl (by decide) rfl rfl rfl (by decide +kernel)
  · refine ev_go_gv 1 0 rfl ?_
    exact ev_go_mark (i := 3) (n := 1) (q' := (0, 240)) (v := 0) rfl (by decide) rfl (hloop _ _ rfl)
def kq_2038 : ek := (32, [.inr 59, .inr 3, .inl (1, 1)], [], [(1, 3), (1, 4), (57, 8), (61, 999), (62, 999)], [(some (.inl (0, 0)), []), (some (.inl (1, 1)), [])], 26, 679)
/-- LoadsAhead.Law readEither -/
theorem qk_2038 (l : Launch) {P : (Nat → Int) → (Nat → Int) → Int → Prop} (hP : pC P) : ek_ok l tQ (cP P) kq_2038 := by
  refine hk_ek (J := fun _ _ w => cP P w) (I' := cP P) ?_ (fun w h => h) (fun i x w w' _ _ h => h)
  refine hk_ok_of (o := 0) (r := (yX0_readEither, prog_2_method_5_code, 5, some .boolean)) rfl rfl (by decide +kernel) (by decide) rfl (fun p e s m args below meth c D tys aK aV b0 ad w0 C hret => ?_)
  have hloop : ∀ (n : Nat) (γ : Nat → Int), (240 - γ 1).toNat = n → ev_go p l e (ek_rm kq_2038) s m args below meth c (MQ below (hk_qc D tys tQ (fun _ _ w => cP P w) b0 ad w0 kq_2038 true) args s 0 0 (fun q => b0 ≤ q)) D tys tQ (cP P) b0 5 ad w0 (ek_wr kq_2038) γ (13, [some (.inr 59, none), some (.inr 3, none), some (.inl (1, 1), none), some (.inl (0, 240), some (1, 0)), none], [], [], []) := by
    intro n
    induction n using Nat.strongRecOn with
    | _ n ih =>
      intro γ hn
      refine hv_go C cP_hI (ek_wr kq_2038) [kq_35, kq_37] (26, 679) [] [(66, [none, none, none, none, none], [(.inl (1, 1), ev_nt)], [], []), (37, [some (.inr 59, none), some (.inr 3, none), some (.inl (1, 1), none), some (.inl (0, 239), some (1, 0)), none], [(.inl (0, 0), ev_nt), (.inl (124, 124), ev_nt), (.inr 59, ev_nt)], [], [])] 60 ⟨rfl, rfl⟩ (by decide +kernel) ⟨(ek_upS cP_hI (fun _ _ => trivial) rfl (qk_35 l)), (ek_upS cP_hI (fun _ _ => trivial) rfl (qk_37 l)), trivial⟩ ⟨?_, ?_, trivial⟩
      · exact hs_iret C (i := 1) (fun ls w x _ _ _ hI hx _ => hI) hret rfl rfl rfl (by decide) rfl rfl rfl (by decide +kernel)
      · refine hs_callV C (A := [(.inl (0, 0), ev_nt), (.inl (124, 124), ev_nt)]) (S := []) (j := 57) (i := 88) (mi := 29) (n := 2) (ci := 0) (E := fun _ => True) (aX_124 l hP) (fun w h => ⟨h, trivial⟩) (fun _ _ _ h => h) (by decide +kernel) rfl rfl rfl (by decide) rfl (by decide) rfl rfl rfl (by decide) (by decide) (by decide) (by decide +kernel) (fun i u x hu hx => ?_)
        match i, hu with
        | 0, hu =>
          cases hu
          refine ev_go_mono (I' := cP (cX P x)) (fun w h => h.1) ?_
          refine ev_op_ok C (cP_hI (P := cX P x)) (K := []) (rm := (26, 679)) (fun _ h => absurd h List.not_mem_nil) ⟨rfl, rfl⟩ (op := .istore 4) (len := 2) (by decide +kernel) rfl (fun st hst => ?_)
          rw [List.mem_singleton.mp hst]
          refine ev_go_gv 0 x rfl ?_
          refine ev_go_mark (i := 4) (n := 0) (q' := (-1, 239)) (v := x) rfl hx rfl ?_
          refine hv_go C (cP_hI (P := cX P x)) (ek_wr kq_2038) [kq_2037] (26, 679) [] [(51, [none, none, none, none, none], [], [], []), (56, [some (.inr 59, none), some (.inr 3, none), some (.inl (1, 1), none), some (.inl (0, 239), some (1, 0)), some (.inl (-1, 239), some (0, 0))], [(.inl (-1, 239), (1, 4, 0, 0)), (.inr 59, ev_nt)], [], [])] 60 (st := (42, [some (.inr 59, none), some (.inr 3, none), some (.inl (1, 1), none), some (.inl (0, 239), some (1, 0)), some (.inl (-1, 239), some (0, 0))], [], [], [])) ⟨rfl, rfl⟩ (by decide +kernel) ⟨qk_2037 l (cX_ok hP x), trivial⟩ ⟨?_, ?_, trivial⟩
          · refine ev_go_mono (I' := cP P) (fun w h => h.1) ?_
            refine hv_go C cP_hI (ek_wr kq_2038) [] (26, 679) [] [(52, [none, none, none, none, none], [(.inl (0, 0), ev_nt)], [], [])] 60 ⟨rfl, rfl⟩ (by decide +kernel) trivial ⟨?_, trivial⟩
            exact hs_iret C (i := 0) (fun ls w x _ _ _ hI hx _ => hI) hret rfl rfl rfl (by decide) rfl rfl rfl (by decide +kernel)
          · refine ev_go_top (q' := (x, x)) (t' := ev_nt) (fun ls w y _ hl _ _ hy ty => ⟨?_, ev_tag0⟩) ?_
            · obtain ⟨u, g1, g2⟩ := tag_l ty
              have g3 : u.toInt = x + 0 := lo_mark (i := 4) hl rfl g1
              exact ⟨by show x ≤ y.toInt; omega, by show y.toInt ≤ x; omega⟩
            · refine hs_callV C (A := [(.inl (x, x), ev_nt)]) (S := []) (j := 57) (i := 92) (mi := 35) (n := 1) (ci := 0) (E := fun _ => True) (sX l hP x ⟨hx.1, by have := hx.2; omega⟩) (fun w h => ⟨h, trivial⟩) (fun _ _ _ h => h) (by decide +kernel) rfl rfl rfl (by simp [en_all2, en_le, kS]) rfl (fun q hq => (by decide : ∀ q ∈ [((62 : Nat), (999 : Nat))], q ∈ ek_wr kq_2038) q hq) rfl rfl rfl (Nat.le_of_ble_eq_true rfl) (Nat.le_of_ble_eq_true rfl) (by decide) (by decide +kernel) (fun i u y hu hy => ?_)
              match i, hu with
              | 0, hu =>
                cases hu
                refine ev_go_mono (I' := cP P) (fun w h => h.1) ?_
                refine ev_go_lo (i := 3) (n := 1) (q := (0, 239)) (d := 0) rfl (fun h1 h2 => ?_)
                refine hv_go C cP_hI (ek_wr kq_2038) [] (26, 679) [] [(13, [some (.inr 59, none), some (.inr 3, none), some (.inl (1, 1), none), some (.inl (0, 240), some (1, 1)), none], [], [], [])] 60 (st := (59, [some (.inr 59, none), some (.inr 3, none), some (.inl (1, 1), none), some (.inl (0, 239), some (1, 0)), some (.inl (-1, 239), some (0, 0))], [], [], [])) ⟨rfl, rfl⟩ (by decide +kernel) trivial ⟨?_, trivial⟩
                refine ev_go_re (i := 3) (n := 1) (d := 1) (γ' := fun _ => γ 1 + 1) rfl rfl rfl ?_
                have h3 : ev_gu 0 x γ 1 = γ 1 := rfl
                rw [h3] at h2
                exact ih (240 - (γ 1 + 1)).toNat (by dsimp only at h2; omega) (fun _ => γ 1 + 1) rfl
  refine hv_go C cP_hI (ek_wr kq_2038) [kq_2037] (26, 679) [] [(10, [none, none, none, none, none], [(.inl (0, 0), ev_nt)], [], []), (13, [some (.inr 59, none), some (.inr 3, none), some (.inl (1, 1), none), some (.inl (0, 0), none), none], [], [], [])] 60 ⟨rfl, rfl⟩ (by decide +kernel) ⟨qk_2037 l hP, trivial⟩ ⟨?_, ?_, trivial⟩
  · exact hs_iret C (i := 0) (fun ls w x _ _ _ hI hx _ => hI) hret rfl rfl rfl (by decide) rfl rfl rfl (by decide +kernel)
  · refine ev_go_gv 1 0 rfl ?_
    exact ev_go_mark (i := 3) (n := 1) (q' := (0, 240)) (v := 0) rfl (by decide) rfl (hloop _ _ rfl)
def kq_2039 : ek := (18, [.inr 59, .inr 3, .inl (0, 15)], [], [(1, 3), (1, 4), (57, 8), (58, 999), (59, 999), (60, 999), (61, 999), (62, 999)], [(some (.inl (0, 0)), []), (some (.inl (1, 1)), [((2, 1, 2), (1, 260), none), ((2, 1, 3), (1, 260), none)])], 27, 704)
/-- LoadsAhead.Law readRule -/
theorem qk_2039 (l : Launch) {P : (Nat → Int) → (Nat → Int) → Int → Prop} (hP : pC P) : ek_ok l tQ (cP P) kq_2039 := ek_good_ok (sp := sC) (K := [kq_35, kq_36, kq_37, kq_2020, kq_75, kq_76, kq_2038]) (SP := []) (HS := []) (N := 0) (fuel := 126) cP_hI (List.forall_mem_cons.mpr ⟨(ek_upS cP_hI (fun _ _ => trivial) rfl (qk_35 l)), List.forall_mem_cons.mpr ⟨(ek_upS cP_hI (fun _ _ => trivial) rfl (qk_36 l)), List.forall_mem_cons.mpr ⟨(ek_upS cP_hI (fun _ _ => trivial) rfl (qk_37 l)), List.forall_mem_cons.mpr ⟨(qk_2020 l hP), List.forall_mem_cons.mpr ⟨(ek_upS cP_hI (fun _ _ => trivial) rfl (qk_75 l)), List.forall_mem_cons.mpr ⟨(ek_upS cP_hI (fun _ _ => trivial) rfl (qk_76 l)), List.forall_mem_cons.mpr ⟨(qk_2038 l hP), fun _ h => absurd h List.not_mem_nil⟩⟩⟩⟩⟩⟩⟩) (by decide +kernel)
def kq_2042 : ek := (18, [.inr 59, .inr 3, .inl (0, 0)], [], [(1, 3), (1, 4), (57, 8), (58, 999), (59, 999), (60, 999), (61, 999), (62, 999)], [(some (.inl (0, 0)), []), (some (.inl (1, 1)), [((2, 1, 2), (1, 260), none), ((2, 1, 3), (1, 260), none)])], 27, 704)
/-- LoadsAhead.Law readRule -/
theorem qk_2042 (l : Launch) {P : (Nat → Int) → (Nat → Int) → Int → Prop} (hP : pC P) : ek_ok l tQ (cP P) kq_2042 := ek_good_ok (sp := sC) (K := [kq_35, kq_36, kq_37, kq_2020, kq_75, kq_76, kq_2038]) (SP := []) (HS := []) (N := 0) (fuel := 126) cP_hI (List.forall_mem_cons.mpr ⟨(ek_upS cP_hI (fun _ _ => trivial) rfl (qk_35 l)), List.forall_mem_cons.mpr ⟨(ek_upS cP_hI (fun _ _ => trivial) rfl (qk_36 l)), List.forall_mem_cons.mpr ⟨(ek_upS cP_hI (fun _ _ => trivial) rfl (qk_37 l)), List.forall_mem_cons.mpr ⟨(qk_2020 l hP), List.forall_mem_cons.mpr ⟨(ek_upS cP_hI (fun _ _ => trivial) rfl (qk_75 l)), List.forall_mem_cons.mpr ⟨(ek_upS cP_hI (fun _ _ => trivial) rfl (qk_76 l)), List.forall_mem_cons.mpr ⟨(qk_2038 l hP), fun _ h => absurd h List.not_mem_nil⟩⟩⟩⟩⟩⟩⟩) (by decide +kernel)
def kq_2043 : ek := (18, [.inr 59, .inr 3, .inl (0, 1)], [], [(1, 3), (1, 4), (57, 8), (58, 999), (59, 999), (60, 999), (61, 999), (62, 999)], [(some (.inl (0, 0)), []), (some (.inl (1, 1)), [((2, 1, 2), (1, 260), none), ((2, 1, 3), (1, 260), none)])], 27, 704)
/-- LoadsAhead.Law readRule -/
theorem qk_2043 (l : Launch) {P : (Nat → Int) → (Nat → Int) → Int → Prop} (hP : pC P) : ek_ok l tQ (cP P) kq_2043 := ek_good_ok (sp := sC) (K := [kq_35, kq_36, kq_37, kq_2020, kq_75, kq_76, kq_2038]) (SP := []) (HS := []) (N := 0) (fuel := 126) cP_hI (List.forall_mem_cons.mpr ⟨(ek_upS cP_hI (fun _ _ => trivial) rfl (qk_35 l)), List.forall_mem_cons.mpr ⟨(ek_upS cP_hI (fun _ _ => trivial) rfl (qk_36 l)), List.forall_mem_cons.mpr ⟨(ek_upS cP_hI (fun _ _ => trivial) rfl (qk_37 l)), List.forall_mem_cons.mpr ⟨(qk_2020 l hP), List.forall_mem_cons.mpr ⟨(ek_upS cP_hI (fun _ _ => trivial) rfl (qk_75 l)), List.forall_mem_cons.mpr ⟨(ek_upS cP_hI (fun _ _ => trivial) rfl (qk_76 l)), List.forall_mem_cons.mpr ⟨(qk_2038 l hP), fun _ h => absurd h List.not_mem_nil⟩⟩⟩⟩⟩⟩⟩) (by decide +kernel)
def kq_2044 : ek := (18, [.inr 59, .inr 3, .inl (0, 2)], [], [(1, 3), (1, 4), (57, 8), (58, 999), (59, 999), (60, 999), (61, 999), (62, 999)], [(some (.inl (0, 0)), []), (some (.inl (1, 1)), [((2, 1, 2), (1, 260), none), ((2, 1, 3), (1, 260), none)])], 27, 704)
/-- LoadsAhead.Law readRule -/
theorem qk_2044 (l : Launch) {P : (Nat → Int) → (Nat → Int) → Int → Prop} (hP : pC P) : ek_ok l tQ (cP P) kq_2044 := ek_good_ok (sp := sC) (K := [kq_35, kq_36, kq_37, kq_2020, kq_75, kq_76, kq_2038]) (SP := []) (HS := []) (N := 0) (fuel := 126) cP_hI (List.forall_mem_cons.mpr ⟨(ek_upS cP_hI (fun _ _ => trivial) rfl (qk_35 l)), List.forall_mem_cons.mpr ⟨(ek_upS cP_hI (fun _ _ => trivial) rfl (qk_36 l)), List.forall_mem_cons.mpr ⟨(ek_upS cP_hI (fun _ _ => trivial) rfl (qk_37 l)), List.forall_mem_cons.mpr ⟨(qk_2020 l hP), List.forall_mem_cons.mpr ⟨(ek_upS cP_hI (fun _ _ => trivial) rfl (qk_75 l)), List.forall_mem_cons.mpr ⟨(ek_upS cP_hI (fun _ _ => trivial) rfl (qk_76 l)), List.forall_mem_cons.mpr ⟨(qk_2038 l hP), fun _ h => absurd h List.not_mem_nil⟩⟩⟩⟩⟩⟩⟩) (by decide +kernel)
def kq_2045 : ek := (18, [.inr 59, .inr 3, .inl (0, 3)], [], [(1, 3), (1, 4), (57, 8), (58, 999), (59, 999), (60, 999), (61, 999), (62, 999)], [(some (.inl (0, 0)), []), (some (.inl (1, 1)), [((2, 1, 2), (1, 260), none), ((2, 1, 3), (1, 260), none)])], 27, 704)
/-- LoadsAhead.Law readRule -/
theorem qk_2045 (l : Launch) {P : (Nat → Int) → (Nat → Int) → Int → Prop} (hP : pC P) : ek_ok l tQ (cP P) kq_2045 := ek_good_ok (sp := sC) (K := [kq_35, kq_36, kq_37, kq_2020, kq_75, kq_76, kq_2038]) (SP := []) (HS := []) (N := 0) (fuel := 126) cP_hI (List.forall_mem_cons.mpr ⟨(ek_upS cP_hI (fun _ _ => trivial) rfl (qk_35 l)), List.forall_mem_cons.mpr ⟨(ek_upS cP_hI (fun _ _ => trivial) rfl (qk_36 l)), List.forall_mem_cons.mpr ⟨(ek_upS cP_hI (fun _ _ => trivial) rfl (qk_37 l)), List.forall_mem_cons.mpr ⟨(qk_2020 l hP), List.forall_mem_cons.mpr ⟨(ek_upS cP_hI (fun _ _ => trivial) rfl (qk_75 l)), List.forall_mem_cons.mpr ⟨(ek_upS cP_hI (fun _ _ => trivial) rfl (qk_76 l)), List.forall_mem_cons.mpr ⟨(qk_2038 l hP), fun _ h => absurd h List.not_mem_nil⟩⟩⟩⟩⟩⟩⟩) (by decide +kernel)
def kq_2046 : ek := (18, [.inr 59, .inr 3, .inl (0, 4)], [], [(1, 3), (1, 4), (57, 8), (58, 999), (59, 999), (60, 999), (61, 999), (62, 999)], [(some (.inl (0, 0)), []), (some (.inl (1, 1)), [((2, 1, 2), (1, 260), none), ((2, 1, 3), (1, 260), none)])], 27, 704)
/-- LoadsAhead.Law readRule -/
theorem qk_2046 (l : Launch) {P : (Nat → Int) → (Nat → Int) → Int → Prop} (hP : pC P) : ek_ok l tQ (cP P) kq_2046 := ek_good_ok (sp := sC) (K := [kq_35, kq_36, kq_37, kq_2020, kq_75, kq_76, kq_2038]) (SP := []) (HS := []) (N := 0) (fuel := 126) cP_hI (List.forall_mem_cons.mpr ⟨(ek_upS cP_hI (fun _ _ => trivial) rfl (qk_35 l)), List.forall_mem_cons.mpr ⟨(ek_upS cP_hI (fun _ _ => trivial) rfl (qk_36 l)), List.forall_mem_cons.mpr ⟨(ek_upS cP_hI (fun _ _ => trivial) rfl (qk_37 l)), List.forall_mem_cons.mpr ⟨(qk_2020 l hP), List.forall_mem_cons.mpr ⟨(ek_upS cP_hI (fun _ _ => trivial) rfl (qk_75 l)), List.forall_mem_cons.mpr ⟨(ek_upS cP_hI (fun _ _ => trivial) rfl (qk_76 l)), List.forall_mem_cons.mpr ⟨(qk_2038 l hP), fun _ h => absurd h List.not_mem_nil⟩⟩⟩⟩⟩⟩⟩) (by decide +kernel)
def kq_2047 : ek := (18, [.inr 59, .inr 3, .inl (0, 5)], [], [(1, 3), (1, 4), (57, 8), (58, 999), (59, 999), (60, 999), (61, 999), (62, 999)], [(some (.inl (0, 0)), []), (some (.inl (1, 1)), [((2, 1, 2), (1, 260), none), ((2, 1, 3), (1, 260), none)])], 27, 704)
/-- LoadsAhead.Law readRule -/
theorem qk_2047 (l : Launch) {P : (Nat → Int) → (Nat → Int) → Int → Prop} (hP : pC P) : ek_ok l tQ (cP P) kq_2047 := ek_good_ok (sp := sC) (K := [kq_35, kq_36, kq_37, kq_2020, kq_75, kq_76, kq_2038]) (SP := []) (HS := []) (N := 0) (fuel := 126) cP_hI (List.forall_mem_cons.mpr ⟨(ek_upS cP_hI (fun _ _ => trivial) rfl (qk_35 l)), List.forall_mem_cons.mpr ⟨(ek_upS cP_hI (fun _ _ => trivial) rfl (qk_36 l)), List.forall_mem_cons.mpr ⟨(ek_upS cP_hI (fun _ _ => trivial) rfl (qk_37 l)), List.forall_mem_cons.mpr ⟨(qk_2020 l hP), List.forall_mem_cons.mpr ⟨(ek_upS cP_hI (fun _ _ => trivial) rfl (qk_75 l)), List.forall_mem_cons.mpr ⟨(ek_upS cP_hI (fun _ _ => trivial) rfl (qk_76 l)), List.forall_mem_cons.mpr ⟨(qk_2038 l hP), fun _ h => absurd h List.not_mem_nil⟩⟩⟩⟩⟩⟩⟩) (by decide +kernel)
def kq_2048 : ek := (18, [.inr 59, .inr 3, .inl (0, 6)], [], [(1, 3), (1, 4), (57, 8), (58, 999), (59, 999), (60, 999), (61, 999), (62, 999)], [(some (.inl (0, 0)), []), (some (.inl (1, 1)), [((2, 1, 2), (1, 260), none), ((2, 1, 3), (1, 260), none)])], 27, 704)
/-- LoadsAhead.Law readRule -/
theorem qk_2048 (l : Launch) {P : (Nat → Int) → (Nat → Int) → Int → Prop} (hP : pC P) : ek_ok l tQ (cP P) kq_2048 := ek_good_ok (sp := sC) (K := [kq_35, kq_36, kq_37, kq_2020, kq_75, kq_76, kq_2038]) (SP := []) (HS := []) (N := 0) (fuel := 126) cP_hI (List.forall_mem_cons.mpr ⟨(ek_upS cP_hI (fun _ _ => trivial) rfl (qk_35 l)), List.forall_mem_cons.mpr ⟨(ek_upS cP_hI (fun _ _ => trivial) rfl (qk_36 l)), List.forall_mem_cons.mpr ⟨(ek_upS cP_hI (fun _ _ => trivial) rfl (qk_37 l)), List.forall_mem_cons.mpr ⟨(qk_2020 l hP), List.forall_mem_cons.mpr ⟨(ek_upS cP_hI (fun _ _ => trivial) rfl (qk_75 l)), List.forall_mem_cons.mpr ⟨(ek_upS cP_hI (fun _ _ => trivial) rfl (qk_76 l)), List.forall_mem_cons.mpr ⟨(qk_2038 l hP), fun _ h => absurd h List.not_mem_nil⟩⟩⟩⟩⟩⟩⟩) (by decide +kernel)
def kq_2049 : ek := (18, [.inr 59, .inr 3, .inl (0, 7)], [], [(1, 3), (1, 4), (57, 8), (58, 999), (59, 999), (60, 999), (61, 999), (62, 999)], [(some (.inl (0, 0)), []), (some (.inl (1, 1)), [((2, 1, 2), (1, 260), none), ((2, 1, 3), (1, 260), none)])], 27, 704)
/-- LoadsAhead.Law readRule -/
theorem qk_2049 (l : Launch) {P : (Nat → Int) → (Nat → Int) → Int → Prop} (hP : pC P) : ek_ok l tQ (cP P) kq_2049 := ek_good_ok (sp := sC) (K := [kq_35, kq_36, kq_37, kq_2020, kq_75, kq_76, kq_2038]) (SP := []) (HS := []) (N := 0) (fuel := 126) cP_hI (List.forall_mem_cons.mpr ⟨(ek_upS cP_hI (fun _ _ => trivial) rfl (qk_35 l)), List.forall_mem_cons.mpr ⟨(ek_upS cP_hI (fun _ _ => trivial) rfl (qk_36 l)), List.forall_mem_cons.mpr ⟨(ek_upS cP_hI (fun _ _ => trivial) rfl (qk_37 l)), List.forall_mem_cons.mpr ⟨(qk_2020 l hP), List.forall_mem_cons.mpr ⟨(ek_upS cP_hI (fun _ _ => trivial) rfl (qk_75 l)), List.forall_mem_cons.mpr ⟨(ek_upS cP_hI (fun _ _ => trivial) rfl (qk_76 l)), List.forall_mem_cons.mpr ⟨(qk_2038 l hP), fun _ h => absurd h List.not_mem_nil⟩⟩⟩⟩⟩⟩⟩) (by decide +kernel)
def kq_2050 : ek := (18, [.inr 59, .inr 3, .inl (0, 8)], [], [(1, 3), (1, 4), (57, 8), (58, 999), (59, 999), (60, 999), (61, 999), (62, 999)], [(some (.inl (0, 0)), []), (some (.inl (1, 1)), [((2, 1, 2), (1, 260), none), ((2, 1, 3), (1, 260), none)])], 27, 704)
/-- LoadsAhead.Law readRule -/
theorem qk_2050 (l : Launch) {P : (Nat → Int) → (Nat → Int) → Int → Prop} (hP : pC P) : ek_ok l tQ (cP P) kq_2050 := ek_good_ok (sp := sC) (K := [kq_35, kq_36, kq_37, kq_2020, kq_75, kq_76, kq_2038]) (SP := []) (HS := []) (N := 0) (fuel := 126) cP_hI (List.forall_mem_cons.mpr ⟨(ek_upS cP_hI (fun _ _ => trivial) rfl (qk_35 l)), List.forall_mem_cons.mpr ⟨(ek_upS cP_hI (fun _ _ => trivial) rfl (qk_36 l)), List.forall_mem_cons.mpr ⟨(ek_upS cP_hI (fun _ _ => trivial) rfl (qk_37 l)), List.forall_mem_cons.mpr ⟨(qk_2020 l hP), List.forall_mem_cons.mpr ⟨(ek_upS cP_hI (fun _ _ => trivial) rfl (qk_75 l)), List.forall_mem_cons.mpr ⟨(ek_upS cP_hI (fun _ _ => trivial) rfl (qk_76 l)), List.forall_mem_cons.mpr ⟨(qk_2038 l hP), fun _ h => absurd h List.not_mem_nil⟩⟩⟩⟩⟩⟩⟩) (by decide +kernel)
def kq_2051 : ek := (18, [.inr 59, .inr 3, .inl (0, 9)], [], [(1, 3), (1, 4), (57, 8), (58, 999), (59, 999), (60, 999), (61, 999), (62, 999)], [(some (.inl (0, 0)), []), (some (.inl (1, 1)), [((2, 1, 2), (1, 260), none), ((2, 1, 3), (1, 260), none)])], 27, 704)
/-- LoadsAhead.Law readRule -/
theorem qk_2051 (l : Launch) {P : (Nat → Int) → (Nat → Int) → Int → Prop} (hP : pC P) : ek_ok l tQ (cP P) kq_2051 := ek_good_ok (sp := sC) (K := [kq_35, kq_36, kq_37, kq_2020, kq_75, kq_76, kq_2038]) (SP := []) (HS := []) (N := 0) (fuel := 126) cP_hI (List.forall_mem_cons.mpr ⟨(ek_upS cP_hI (fun _ _ => trivial) rfl (qk_35 l)), List.forall_mem_cons.mpr ⟨(ek_upS cP_hI (fun _ _ => trivial) rfl (qk_36 l)), List.forall_mem_cons.mpr ⟨(ek_upS cP_hI (fun _ _ => trivial) rfl (qk_37 l)), List.forall_mem_cons.mpr ⟨(qk_2020 l hP), List.forall_mem_cons.mpr ⟨(ek_upS cP_hI (fun _ _ => trivial) rfl (qk_75 l)), List.forall_mem_cons.mpr ⟨(ek_upS cP_hI (fun _ _ => trivial) rfl (qk_76 l)), List.forall_mem_cons.mpr ⟨(qk_2038 l hP), fun _ h => absurd h List.not_mem_nil⟩⟩⟩⟩⟩⟩⟩) (by decide +kernel)
