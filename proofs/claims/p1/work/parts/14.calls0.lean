/-- LoadsAhead register -/
theorem ok_20 (l : Launch) : en_ok l kk_20 := en_good_ok (K := []) (fun _ h => absurd h List.not_mem_nil) (fuel := 6) (by decide +kernel)
/-- LoadsAheadModel in -/
theorem ok_21 (l : Launch) : en_ok l kk_21 := en_good_ok (K := []) (fun _ h => absurd h List.not_mem_nil) (fuel := 7) (by decide +kernel)
/-- LoadsAheadModel register -/
theorem ok_22 (l : Launch) : en_ok l kk_22 := en_good_ok (K := [kk_21]) (List.forall_mem_cons.mpr ⟨ok_21 l, fun _ h => absurd h List.not_mem_nil⟩) (fuel := 9) (by decide +kernel)
/-- LoadsAhead register -/
theorem ok_23 (l : Launch) : en_ok l kk_23 := en_good_ok (K := []) (fun _ h => absurd h List.not_mem_nil) (fuel := 16) (by decide +kernel)
/-- LoadsAheadModel in -/
theorem ok_24 (l : Launch) : en_ok l kk_24 := en_good_ok (K := []) (fun _ h => absurd h List.not_mem_nil) (fuel := 11) (by decide +kernel)
/-- LoadsAheadModel register -/
theorem ok_25 (l : Launch) : en_ok l kk_25 := en_good_ok (K := [kk_24]) (List.forall_mem_cons.mpr ⟨ok_24 l, fun _ h => absurd h List.not_mem_nil⟩) (fuel := 14) (by decide +kernel)
/-- LoadsAhead register -/
theorem ok_26 (l : Launch) : en_ok l kk_26 := en_good_ok (K := []) (fun _ h => absurd h List.not_mem_nil) (fuel := 9) (by decide +kernel)
/-- LoadsAheadModel in -/
theorem ok_27 (l : Launch) : en_ok l kk_27 := en_good_ok (K := []) (fun _ h => absurd h List.not_mem_nil) (fuel := 10) (by decide +kernel)
/-- LoadsAheadModel register -/
theorem ok_28 (l : Launch) : en_ok l kk_28 := en_good_ok (K := [kk_27]) (List.forall_mem_cons.mpr ⟨ok_27 l, fun _ h => absurd h List.not_mem_nil⟩) (fuel := 9) (by decide +kernel)
/-- LoadsAhead poke -/
theorem ok_29 (l : Launch) : en_ok l kk_29 := en_good_ok (K := []) (fun _ h => absurd h List.not_mem_nil) (fuel := 6) (by decide +kernel)
/-- LoadsAheadModel in -/
theorem ok_30 (l : Launch) : en_ok l kk_30 := en_good_ok (K := []) (fun _ h => absurd h List.not_mem_nil) (fuel := 7) (by decide +kernel)
/-- LoadsAheadModel poke -/
theorem ok_31 (l : Launch) : en_ok l kk_31 := en_good_ok (K := [kk_30]) (List.forall_mem_cons.mpr ⟨ok_30 l, fun _ h => absurd h List.not_mem_nil⟩) (fuel := 9) (by decide +kernel)
/-- LoadsAhead poke -/
theorem ok_32 (l : Launch) : en_ok l kk_32 := en_good_ok (K := []) (fun _ h => absurd h List.not_mem_nil) (fuel := 9) (by decide +kernel)
/-- LoadsAheadModel in -/
theorem ok_33 (l : Launch) : en_ok l kk_33 := en_good_ok (K := []) (fun _ h => absurd h List.not_mem_nil) (fuel := 10) (by decide +kernel)
/-- LoadsAheadModel poke -/
theorem ok_34 (l : Launch) : en_ok l kk_34 := en_good_ok (K := [kk_33]) (List.forall_mem_cons.mpr ⟨ok_33 l, fun _ h => absurd h List.not_mem_nil⟩) (fuel := 9) (by decide +kernel)
/-- LoadsAhead poke -/
theorem ok_35 (l : Launch) : en_ok l kk_35 := en_good_ok (K := []) (fun _ h => absurd h List.not_mem_nil) (fuel := 11) (by decide +kernel)
/-- LoadsAheadModel in -/
theorem ok_36 (l : Launch) : en_ok l kk_36 := en_good_ok (K := []) (fun _ h => absurd h List.not_mem_nil) (fuel := 11) (by decide +kernel)
/-- LoadsAheadModel in -/
theorem ok_37 (l : Launch) : en_ok l kk_37 := en_good_ok (K := []) (fun _ h => absurd h List.not_mem_nil) (fuel := 7) (by decide +kernel)
/-- LoadsAheadModel poke -/
theorem ok_38 (l : Launch) : en_ok l kk_38 := en_good_ok (K := [kk_36, kk_37]) (List.forall_mem_cons.mpr ⟨ok_36 l, List.forall_mem_cons.mpr ⟨ok_37 l, fun _ h => absurd h List.not_mem_nil⟩⟩) (fuel := 14) (by decide +kernel)
/-- LoadsAhead poke -/
theorem ok_39 (l : Launch) : en_ok l kk_39 := en_good_ok (K := []) (fun _ h => absurd h List.not_mem_nil) (fuel := 21) (by decide +kernel)
/-- LoadsAheadModel in -/
theorem ok_40 (l : Launch) : en_ok l kk_40 := en_good_ok (K := []) (fun _ h => absurd h List.not_mem_nil) (fuel := 11) (by decide +kernel)
/-- LoadsAheadModel poke -/
theorem ok_41 (l : Launch) : en_ok l kk_41 := en_good_ok (K := [kk_36, kk_40]) (List.forall_mem_cons.mpr ⟨ok_36 l, List.forall_mem_cons.mpr ⟨ok_40 l, fun _ h => absurd h List.not_mem_nil⟩⟩) (fuel := 19) (by decide +kernel)
/-- LoadsAhead poke -/
theorem ok_42 (l : Launch) : en_ok l kk_42 := en_good_ok (K := []) (fun _ h => absurd h List.not_mem_nil) (fuel := 14) (by decide +kernel)
/-- LoadsAheadModel in -/
theorem ok_43 (l : Launch) : en_ok l kk_43 := en_good_ok (K := []) (fun _ h => absurd h List.not_mem_nil) (fuel := 10) (by decide +kernel)
/-- LoadsAheadModel poke -/
theorem ok_44 (l : Launch) : en_ok l kk_44 := en_good_ok (K := [kk_36, kk_43]) (List.forall_mem_cons.mpr ⟨ok_36 l, List.forall_mem_cons.mpr ⟨ok_43 l, fun _ h => absurd h List.not_mem_nil⟩⟩) (fuel := 14) (by decide +kernel)
/-- LoadsAhead.Tape add -/
theorem ok_45 (l : Launch) : en_ok l kk_45 := en_good_ok (K := []) (fun _ h => absurd h List.not_mem_nil) (fuel := 103) (by decide +kernel)
/-- LoadsAhead.Tape add -/
theorem ok_46 (l : Launch) : en_ok l kk_46 := en_good_ok (K := []) (fun _ h => absurd h List.not_mem_nil) (fuel := 103) (by decide +kernel)
/-- LoadsAhead.Tape add -/
theorem ok_47 (l : Launch) : en_ok l kk_47 := en_good_ok (K := []) (fun _ h => absurd h List.not_mem_nil) (fuel := 103) (by decide +kernel)
/-- LoadsAhead.Tape add -/
theorem ok_48 (l : Launch) : en_ok l kk_48 := en_good_ok (K := []) (fun _ h => absurd h List.not_mem_nil) (fuel := 103) (by decide +kernel)
/-- LoadsAhead.Tape add -/
theorem ok_49 (l : Launch) : en_ok l kk_49 := en_good_ok (K := []) (fun _ h => absurd h List.not_mem_nil) (fuel := 103) (by decide +kernel)
/-- LoadsAhead feed -/
theorem ok_50 (l : Launch) : en_ok l kk_50 := en_good_ok (K := [kk_45, kk_46, kk_47, kk_48, kk_49]) (List.forall_mem_cons.mpr ⟨ok_45 l, List.forall_mem_cons.mpr ⟨ok_46 l, List.forall_mem_cons.mpr ⟨ok_47 l, List.forall_mem_cons.mpr ⟨ok_48 l, List.forall_mem_cons.mpr ⟨ok_49 l, fun _ h => absurd h List.not_mem_nil⟩⟩⟩⟩⟩) (fuel := 33) (by decide +kernel)
/-- LoadsAheadModel types -/
theorem ok_51 (l : Launch) : en_ok l kk_51 := en_good_ok (K := []) (fun _ h => absurd h List.not_mem_nil) (fuel := 91) (by decide +kernel)
/-- LoadsAheadModel types -/
theorem ok_52 (l : Launch) : en_ok l kk_52 := en_good_ok (K := []) (fun _ h => absurd h List.not_mem_nil) (fuel := 91) (by decide +kernel)
/-- LoadsAheadModel types -/
theorem ok_53 (l : Launch) : en_ok l kk_53 := en_good_ok (K := []) (fun _ h => absurd h List.not_mem_nil) (fuel := 91) (by decide +kernel)
/-- LoadsAheadModel types -/
theorem ok_54 (l : Launch) : en_ok l kk_54 := en_good_ok (K := []) (fun _ h => absurd h List.not_mem_nil) (fuel := 91) (by decide +kernel)
/-- LoadsAheadModel types -/
theorem ok_55 (l : Launch) : en_ok l kk_55 := en_good_ok (K := []) (fun _ h => absurd h List.not_mem_nil) (fuel := 91) (by decide +kernel)
/-- LoadsAheadModel feed -/
theorem ok_56 (l : Launch) : en_ok l kk_56 := en_good_ok (K := [kk_51, kk_52, kk_53, kk_54, kk_55]) (List.forall_mem_cons.mpr ⟨ok_51 l, List.forall_mem_cons.mpr ⟨ok_52 l, List.forall_mem_cons.mpr ⟨ok_53 l, List.forall_mem_cons.mpr ⟨ok_54 l, List.forall_mem_cons.mpr ⟨ok_55 l, fun _ h => absurd h List.not_mem_nil⟩⟩⟩⟩⟩) (fuel := 26) (by decide +kernel)
/-- LoadsAhead law -/
theorem ok_57 (l : Launch) : en_ok l kk_57 := en_good_ok (K := []) (fun _ h => absurd h List.not_mem_nil) (fuel := 7) (by decide +kernel)
/-- LoadsAheadModel in -/
theorem ok_58 (l : Launch) : en_ok l kk_58 := en_good_ok (K := []) (fun _ h => absurd h List.not_mem_nil) (fuel := 7) (by decide +kernel)
/-- LoadsAheadModel law -/
theorem ok_59 (l : Launch) : en_ok l kk_59 := en_good_ok (K := [kk_58]) (List.forall_mem_cons.mpr ⟨ok_58 l, fun _ h => absurd h List.not_mem_nil⟩) (fuel := 9) (by decide +kernel)
/-- LoadsAhead law -/
theorem ok_60 (l : Launch) : en_ok l kk_60 := en_good_ok (K := []) (fun _ h => absurd h List.not_mem_nil) (fuel := 15) (by decide +kernel)
/-- LoadsAheadModel in -/
theorem ok_61 (l : Launch) : en_ok l kk_61 := en_good_ok (K := []) (fun _ h => absurd h List.not_mem_nil) (fuel := 11) (by decide +kernel)
/-- LoadsAheadModel law -/
theorem ok_62 (l : Launch) : en_ok l kk_62 := en_good_ok (K := [kk_61]) (List.forall_mem_cons.mpr ⟨ok_61 l, fun _ h => absurd h List.not_mem_nil⟩) (fuel := 13) (by decide +kernel)
/-- LoadsAhead law -/
theorem ok_63 (l : Launch) : en_ok l kk_63 := en_good_ok (K := []) (fun _ h => absurd h List.not_mem_nil) (fuel := 10) (by decide +kernel)
/-- LoadsAheadModel in -/
theorem ok_64 (l : Launch) : en_ok l kk_64 := en_good_ok (K := []) (fun _ h => absurd h List.not_mem_nil) (fuel := 10) (by decide +kernel)
/-- LoadsAheadModel law -/
theorem ok_65 (l : Launch) : en_ok l kk_65 := en_good_ok (K := [kk_64]) (List.forall_mem_cons.mpr ⟨ok_64 l, fun _ h => absurd h List.not_mem_nil⟩) (fuel := 9) (by decide +kernel)
/-- LoadsAhead program -/
theorem ok_66 (l : Launch) : en_ok l kk_66 := en_good_ok (K := []) (fun _ h => absurd h List.not_mem_nil) (fuel := 7) (by decide +kernel)
/-- LoadsAheadModel program -/
theorem ok_67 (l : Launch) : en_ok l kk_67 := en_good_ok (K := [kk_58]) (List.forall_mem_cons.mpr ⟨ok_58 l, fun _ h => absurd h List.not_mem_nil⟩) (fuel := 9) (by decide +kernel)
/-- LoadsAhead program -/
theorem ok_68 (l : Launch) : en_ok l kk_68 := en_good_ok (K := []) (fun _ h => absurd h List.not_mem_nil) (fuel := 15) (by decide +kernel)
/-- LoadsAheadModel program -/
theorem ok_69 (l : Launch) : en_ok l kk_69 := en_good_ok (K := [kk_61]) (List.forall_mem_cons.mpr ⟨ok_61 l, fun _ h => absurd h List.not_mem_nil⟩) (fuel := 13) (by decide +kernel)
/-- LoadsAhead program -/
theorem ok_70 (l : Launch) : en_ok l kk_70 := en_good_ok (K := []) (fun _ h => absurd h List.not_mem_nil) (fuel := 10) (by decide +kernel)
/-- LoadsAheadModel program -/
theorem ok_71 (l : Launch) : en_ok l kk_71 := en_good_ok (K := [kk_64]) (List.forall_mem_cons.mpr ⟨ok_64 l, fun _ h => absurd h List.not_mem_nil⟩) (fuel := 9) (by decide +kernel)
/-- LoadsAhead canRun -/
theorem ok_72 (l : Launch) : en_ok l kk_72 := en_good_ok (K := []) (fun _ h => absurd h List.not_mem_nil) (fuel := 7) (by decide +kernel)
/-- LoadsAhead run -/
theorem ok_73 (l : Launch) : en_ok l kk_73 := en_good_ok (K := [kk_72]) (List.forall_mem_cons.mpr ⟨ok_72 l, fun _ h => absurd h List.not_mem_nil⟩) (fuel := 8) (by decide +kernel)
/-- LoadsAheadModel in -/
theorem ok_74 (l : Launch) : en_ok l kk_74 := en_good_ok (K := []) (fun _ h => absurd h List.not_mem_nil) (fuel := 7) (by decide +kernel)
/-- LoadsAheadModel canRun -/
theorem ok_75 (l : Launch) : en_ok l kk_75 := en_good_ok (K := [kk_74]) (List.forall_mem_cons.mpr ⟨ok_74 l, fun _ h => absurd h List.not_mem_nil⟩) (fuel := 9) (by decide +kernel)
/-- LoadsAheadModel run -/
theorem ok_76 (l : Launch) : en_ok l kk_76 := en_good_ok (K := [kk_75]) (List.forall_mem_cons.mpr ⟨ok_75 l, fun _ h => absurd h List.not_mem_nil⟩) (fuel := 8) (by decide +kernel)
/-- LoadsAhead canRun -/
theorem ok_77 (l : Launch) : en_ok l kk_77 := en_good_ok (K := []) (fun _ h => absurd h List.not_mem_nil) (fuel := 15) (by decide +kernel)
/-- LoadsAhead run -/
theorem ok_78 (l : Launch) : en_ok l kk_78 := en_good_ok (K := [kk_77]) (List.forall_mem_cons.mpr ⟨ok_77 l, fun _ h => absurd h List.not_mem_nil⟩) (fuel := 8) (by decide +kernel)
/-- LoadsAheadModel in -/
theorem ok_79 (l : Launch) : en_ok l kk_79 := en_good_ok (K := []) (fun _ h => absurd h List.not_mem_nil) (fuel := 11) (by decide +kernel)
/-- LoadsAheadModel canRun -/
theorem ok_80 (l : Launch) : en_ok l kk_80 := en_good_ok (K := [kk_79]) (List.forall_mem_cons.mpr ⟨ok_79 l, fun _ h => absurd h List.not_mem_nil⟩) (fuel := 12) (by decide +kernel)
/-- LoadsAheadModel run -/
theorem ok_81 (l : Launch) : en_ok l kk_81 := en_good_ok (K := [kk_80]) (List.forall_mem_cons.mpr ⟨ok_80 l, fun _ h => absurd h List.not_mem_nil⟩) (fuel := 8) (by decide +kernel)
/-- LoadsAhead canRun -/
theorem ok_82 (l : Launch) : en_ok l kk_82 := en_good_ok (K := []) (fun _ h => absurd h List.not_mem_nil) (fuel := 10) (by decide +kernel)
/-- LoadsAhead run -/
theorem ok_83 (l : Launch) : en_ok l kk_83 := en_good_ok (K := [kk_82]) (List.forall_mem_cons.mpr ⟨ok_82 l, fun _ h => absurd h List.not_mem_nil⟩) (fuel := 8) (by decide +kernel)
/-- LoadsAheadModel in -/
theorem ok_84 (l : Launch) : en_ok l kk_84 := en_good_ok (K := []) (fun _ h => absurd h List.not_mem_nil) (fuel := 10) (by decide +kernel)
/-- LoadsAheadModel canRun -/
theorem ok_85 (l : Launch) : en_ok l kk_85 := en_good_ok (K := [kk_84]) (List.forall_mem_cons.mpr ⟨ok_84 l, fun _ h => absurd h List.not_mem_nil⟩) (fuel := 9) (by decide +kernel)
/-- LoadsAheadModel run -/
theorem ok_86 (l : Launch) : en_ok l kk_86 := en_good_ok (K := [kk_85]) (List.forall_mem_cons.mpr ⟨ok_85 l, fun _ h => absurd h List.not_mem_nil⟩) (fuel := 8) (by decide +kernel)
/-- LoadsAhead tried -/
theorem ok_87 (l : Launch) : en_ok l kk_87 := en_good_ok (K := [kk_72]) (List.forall_mem_cons.mpr ⟨ok_72 l, fun _ h => absurd h List.not_mem_nil⟩) (fuel := 8) (by decide +kernel)
/-- LoadsAheadModel in -/
theorem ok_88 (l : Launch) : en_ok l kk_88 := en_good_ok (K := []) (fun _ h => absurd h List.not_mem_nil) (fuel := 11) (by decide +kernel)
/-- LoadsAheadModel in -/
theorem ok_89 (l : Launch) : en_ok l kk_89 := en_good_ok (K := []) (fun _ h => absurd h List.not_mem_nil) (fuel := 11) (by decide +kernel)
