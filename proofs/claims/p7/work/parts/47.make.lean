/-- LoadsAhead.Tape (making) -/
theorem ok_0 (l : Launch) : en_ok l kk_0 := en_good_ok (K := []) (fun _ h => absurd h List.not_mem_nil) (fuel := 9) (by decide +kernel)
/-- LoadsAhead.Program (making) -/
theorem ok_1 (l : Launch) : en_ok l kk_1 := en_good_ok (K := []) (fun _ h => absurd h List.not_mem_nil) (fuel := 49) (by decide +kernel)
/-- LoadsAhead.Law (making) -/
theorem ok_2 (l : Launch) : en_ok l kk_2 := en_lawmake l (L := [some (.inr 18)]) (S := [.inr 18]) (T := tW_40) (cs := 5) (sl := 529) rfl (by decide +kernel) (by decide +kernel) (by decide +kernel)
/-- java/util/Arrays fill -/
theorem ok_3 (l : Launch) : en_ok l kk_3 := en_fill l (T := tW_6) (j := 27) (n := 20) (b := (0, 0)) (v := ((-1), (-1))) (by decide +kernel) (by decide +kernel)
/-- LoadsAhead.State (making) -/
theorem ok_4 (l : Launch) : en_ok l kk_4 := en_good_ok (K := [kk_3]) (List.forall_mem_cons.mpr ⟨ok_3 l, fun _ h => absurd h List.not_mem_nil⟩) (fuel := 30) (by decide +kernel)
/-- java/util/Arrays fill -/
theorem ok_5 (l : Launch) : en_ok l kk_5 := en_fill l (T := tW_10) (j := 31) (n := 20) (b := (0, 0)) (v := ((-1), (-1))) (by decide +kernel) (by decide +kernel)
/-- LoadsAhead.State (making) -/
theorem ok_6 (l : Launch) : en_ok l kk_6 := en_good_ok (K := [kk_5]) (List.forall_mem_cons.mpr ⟨ok_5 l, fun _ h => absurd h List.not_mem_nil⟩) (fuel := 30) (by decide +kernel)
/-- LoadsAhead.Report (making) -/
theorem ok_7 (l : Launch) : en_ok l kk_7 := en_good_ok (K := []) (fun _ h => absurd h List.not_mem_nil) (fuel := 29) (by decide +kernel)
/-- LoadsAhead.Machine (making) -/
theorem ok_8 (l : Launch) : en_ok l kk_8 := en_good_ok (K := [kk_1, kk_2, kk_4, kk_6, kk_7]) (List.forall_mem_cons.mpr ⟨ok_1 l, List.forall_mem_cons.mpr ⟨ok_2 l, List.forall_mem_cons.mpr ⟨ok_4 l, List.forall_mem_cons.mpr ⟨ok_6 l, List.forall_mem_cons.mpr ⟨ok_7 l, fun _ h => absurd h List.not_mem_nil⟩⟩⟩⟩⟩) (fuel := 54) (by decide +kernel)
/-- LoadsAhead.Program (making) -/
theorem ok_9 (l : Launch) : en_ok l kk_9 := en_good_ok (K := []) (fun _ h => absurd h List.not_mem_nil) (fuel := 49) (by decide +kernel)
/-- LoadsAhead.Law (making) -/
theorem ok_10 (l : Launch) : en_ok l kk_10 := en_lawmake l (L := [some (.inr 59)]) (S := [.inr 59]) (T := tW_41) (cs := 5) (sl := 529) rfl (by decide +kernel) (by decide +kernel) (by decide +kernel)
/-- java/util/Arrays fill -/
theorem ok_11 (l : Launch) : en_ok l kk_11 := en_fill l (T := tW_22) (j := 69) (n := 20) (b := (0, 0)) (v := ((-1), (-1))) (by decide +kernel) (by decide +kernel)
/-- LoadsAhead.State (making) -/
theorem ok_12 (l : Launch) : en_ok l kk_12 := en_good_ok (K := [kk_11]) (List.forall_mem_cons.mpr ⟨ok_11 l, fun _ h => absurd h List.not_mem_nil⟩) (fuel := 30) (by decide +kernel)
/-- LoadsAhead.Plain (making) -/
theorem ok_13 (l : Launch) : en_ok l kk_13 := en_good_ok (K := [kk_12]) (List.forall_mem_cons.mpr ⟨ok_12 l, fun _ h => absurd h List.not_mem_nil⟩) (fuel := 14) (by decide +kernel)
/-- LoadsAhead.Report (making) -/
theorem ok_14 (l : Launch) : en_ok l kk_14 := en_good_ok (K := []) (fun _ h => absurd h List.not_mem_nil) (fuel := 29) (by decide +kernel)
/-- java/util/Arrays fill -/
theorem ok_15 (l : Launch) : en_ok l kk_15 := en_fill l (T := tW_30) (j := 81) (n := 20) (b := (0, 0)) (v := ((-1), (-1))) (by decide +kernel) (by decide +kernel)
/-- LoadsAhead.State (making) -/
theorem ok_16 (l : Launch) : en_ok l kk_16 := en_good_ok (K := [kk_15]) (List.forall_mem_cons.mpr ⟨ok_15 l, fun _ h => absurd h List.not_mem_nil⟩) (fuel := 30) (by decide +kernel)
/-- LoadsAhead.Rows (making) -/
theorem ok_17 (l : Launch) : en_ok l kk_17 := eg_rowsmake l (L := [some (.inr 84)]) (S := [.inr 84]) (T := tW_34) (cs := 0) (sl := 0) rfl (by decide +kernel) (by decide +kernel) (by decide +kernel)
/-- LoadsAhead (making) -/
theorem ok_18 (l : Launch) : en_ok l kk_18 := en_good_ok (K := [kk_0, kk_8, kk_9, kk_10, kk_13, kk_14, kk_16, kk_17]) (List.forall_mem_cons.mpr ⟨ok_0 l, List.forall_mem_cons.mpr ⟨ok_8 l, List.forall_mem_cons.mpr ⟨ok_9 l, List.forall_mem_cons.mpr ⟨ok_10 l, List.forall_mem_cons.mpr ⟨ok_13 l, List.forall_mem_cons.mpr ⟨ok_14 l, List.forall_mem_cons.mpr ⟨ok_16 l, List.forall_mem_cons.mpr ⟨ok_17 l, fun _ h => absurd h List.not_mem_nil⟩⟩⟩⟩⟩⟩⟩⟩) (fuel := 54) (by decide +kernel)
/-- LoadsAheadModel (making) -/
theorem ok_19 (l : Launch) : en_ok l kk_19 := en_good_ok (K := []) (fun _ h => absurd h List.not_mem_nil) (fuel := 264) (by decide +kernel)
