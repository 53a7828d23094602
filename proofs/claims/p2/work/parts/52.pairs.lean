def le_eq (κa κb : ek) (v : Int) : Bool := (ek_out κa).all (fun u => decide (u.1 = some (.inl (v, v)))) && (ek_out κb).all (fun u => decide (u.1 = some (.inl (v, v))))
theorem pe_register (l : Launch) (x1 x2 : Int32) : ∃ (κa κb : ek) (box : List en_V), le_ck 0 13 2 κa box = true ∧ le_ck 84 17 2 κb box = true ∧ ek_ok l tQ iG κa ∧ ek_ok l tQ iG κb ∧ (∀ (N : Nat) (ad : Nat → Nat), en_vs N ad box [.int x1, .int x2]) ∧ ∃ v, le_eq κa κb v = true := by
  have r1 := fb_rng x1
  have r2 := fb_rng x2
  by_cases h0 : x1.toInt ≤ (-1)
  · exact ⟨kq_0, kq_4, [.inl ((-2147483648), (-1)), .inl ((-2147483648), 2147483647)], by decide +kernel, by decide +kernel, ek_upS iG_hI (fun _ _ => trivial) rfl (qk_0 l), ek_upS iG_hI (fun _ _ => trivial) rfl (qk_4 l), fun N ad => ⟨le_iv (by omega) (by omega), le_iv (by omega) (by omega), trivial⟩, 0, by decide +kernel⟩
  by_cases h1 : 0 ≤ x1.toInt ∧ x1.toInt ≤ 7
  · exact ⟨kq_1, kq_6, [.inl (0, 7), .inl ((-2147483648), 2147483647)], by decide +kernel, by decide +kernel, ek_upS iG_hI (fun _ _ => trivial) rfl (qk_1 l), ek_upS iG_hI (fun _ _ => trivial) rfl (qk_6 l), fun N ad => ⟨le_iv (by omega) (by omega), le_iv (by omega) (by omega), trivial⟩, 1, by decide +kernel⟩
  by_cases h2 : 8 ≤ x1.toInt
  · exact ⟨kq_2, kq_8, [.inl (8, 2147483647), .inl ((-2147483648), 2147483647)], by decide +kernel, by decide +kernel, ek_upS iG_hI (fun _ _ => trivial) rfl (qk_2 l), ek_upS iG_hI (fun _ _ => trivial) rfl (qk_8 l), fun N ad => ⟨le_iv (by omega) (by omega), le_iv (by omega) (by omega), trivial⟩, 0, by decide +kernel⟩
  omega
theorem pe_poke (l : Launch) (x1 x2 : Int32) : ∃ (κa κb : ek) (box : List en_V), le_ck 0 18 2 κa box = true ∧ le_ck 84 21 2 κb box = true ∧ ek_ok l tQ iG κa ∧ ek_ok l tQ iG κb ∧ (∀ (N : Nat) (ad : Nat → Nat), en_vs N ad box [.int x1, .int x2]) := by
  have r1 := fb_rng x1
  have r2 := fb_rng x2
  by_cases h0 : x1.toInt ≤ (-1)
  · exact ⟨kq_9, kq_15, [.inl ((-2147483648), (-1)), .inl ((-2147483648), 2147483647)], by decide +kernel, by decide +kernel, ek_upS iG_hI (fun _ _ => trivial) rfl (qk_9 l), ek_upS iG_hI (fun _ _ => trivial) rfl (qk_15 l), fun N ad => ⟨le_iv (by omega) (by omega), le_iv (by omega) (by omega), trivial⟩⟩
  by_cases h1 : 64 ≤ x1.toInt
  · exact ⟨kq_10, kq_17, [.inl (64, 2147483647), .inl ((-2147483648), 2147483647)], by decide +kernel, by decide +kernel, ek_upS iG_hI (fun _ _ => trivial) rfl (qk_10 l), ek_upS iG_hI (fun _ _ => trivial) rfl (qk_17 l), fun N ad => ⟨le_iv (by omega) (by omega), le_iv (by omega) (by omega), trivial⟩⟩
  by_cases h2 : 0 ≤ x1.toInt ∧ x1.toInt ≤ 63 ∧ x2.toInt ≤ (-1)
  · exact ⟨kq_11, kq_20, [.inl (0, 63), .inl ((-2147483648), (-1))], by decide +kernel, by decide +kernel, ek_upS iG_hI (fun _ _ => trivial) rfl (qk_11 l), ek_upS iG_hI (fun _ _ => trivial) rfl (qk_20 l), fun N ad => ⟨le_iv (by omega) (by omega), le_iv (by omega) (by omega), trivial⟩⟩
  by_cases h3 : 0 ≤ x1.toInt ∧ x1.toInt ≤ 63 ∧ 0 ≤ x2.toInt ∧ x2.toInt ≤ 255
  · exact ⟨kq_12, kq_22, [.inl (0, 63), .inl (0, 255)], by decide +kernel, by decide +kernel, ek_upS iG_hI (fun _ _ => trivial) rfl (qk_12 l), ek_upS iG_hI (fun _ _ => trivial) rfl (qk_22 l), fun N ad => ⟨le_iv (by omega) (by omega), le_iv (by omega) (by omega), trivial⟩⟩
  by_cases h4 : 0 ≤ x1.toInt ∧ x1.toInt ≤ 63 ∧ 256 ≤ x2.toInt
  · exact ⟨kq_13, kq_24, [.inl (0, 63), .inl (256, 2147483647)], by decide +kernel, by decide +kernel, ek_upS iG_hI (fun _ _ => trivial) rfl (qk_13 l), ek_upS iG_hI (fun _ _ => trivial) rfl (qk_24 l), fun N ad => ⟨le_iv (by omega) (by omega), le_iv (by omega) (by omega), trivial⟩⟩
  omega
theorem pe_feed (l : Launch) (x1 x2 x3 x4 x5 : Int32) : ∃ (κa κb : ek) (box : List en_V), le_ck 0 22 5 κa box = true ∧ le_ck 84 26 5 κb box = true ∧ ek_ok l tQ iG κa ∧ ek_ok l tQ iG κb ∧ (∀ (N : Nat) (ad : Nat → Nat), en_vs N ad box [.int x1, .int x2, .int x3, .int x4, .int x5]) := by
  have r1 := fb_rng x1
  have r2 := fb_rng x2
  have r3 := fb_rng x3
  have r4 := fb_rng x4
  have r5 := fb_rng x5
  exact ⟨kq_26, kq_32, [.inl ((-2147483648), 2147483647), .inl ((-2147483648), 2147483647), .inl ((-2147483648), 2147483647), .inl ((-2147483648), 2147483647), .inl ((-2147483648), 2147483647)], by decide +kernel, by decide +kernel, ek_upS iG_hI (fun _ _ => trivial) rfl (qk_26 l), ek_upS iG_hI (fun _ _ => trivial) rfl (qk_32 l), fun N ad => ⟨le_iv (by omega) (by omega), le_iv (by omega) (by omega), le_iv (by omega) (by omega), le_iv (by omega) (by omega), le_iv (by omega) (by omega), trivial⟩⟩
theorem pe_law (l : Launch) (x1 : Int32) : ∃ (κa κb : ek) (box : List en_V), le_ck 0 27 1 κa box = true ∧ le_ck 84 31 1 κb box = true ∧ ek_ok l tQ iG κa ∧ ek_ok l tQ iG κb ∧ (∀ (N : Nat) (ad : Nat → Nat), en_vs N ad box [.int x1]) := by
  have r1 := fb_rng x1
  by_cases h0 : x1.toInt ≤ 0
  · exact ⟨kq_33, kLwn, [.inl ((-2147483648), 0)], by decide +kernel, by decide +kernel, ek_upS iG_hI (fun _ _ => trivial) rfl (qk_33 l), lw_n l, fun N ad => ⟨le_iv (by omega) (by omega), trivial⟩⟩
  by_cases h1 : 1 ≤ x1.toInt ∧ x1.toInt ≤ 240
  · exact ⟨kq_2041, kLw, [.inl (1, 240)], by decide +kernel, by decide +kernel, qk_2041 l, lw l, fun N ad => ⟨le_iv (by omega) (by omega), trivial⟩⟩
  by_cases h2 : 241 ≤ x1.toInt
  · exact ⟨kq_115, kLwp, [.inl (241, 2147483647)], by decide +kernel, by decide +kernel, ek_upS iG_hI (fun _ _ => trivial) rfl (qk_115 l), lw_p l, fun N ad => ⟨le_iv (by omega) (by omega), trivial⟩⟩
  omega
theorem pe_program (l : Launch) (x1 : Int32) : ∃ (κa κb : ek) (box : List en_V), le_ck 0 32 1 κa box = true ∧ le_ck 84 35 1 κb box = true ∧ ek_ok l tQ iG κa ∧ ek_ok l tQ iG κb ∧ (∀ (N : Nat) (ad : Nat → Nat), en_vs N ad box [.int x1]) := by
  have r1 := fb_rng x1
  by_cases h0 : x1.toInt ≤ 0
  · exact ⟨kq_116, kq_181, [.inl ((-2147483648), 0)], by decide +kernel, by decide +kernel, ek_upS iG_hI (fun _ _ => trivial) rfl (qk_116 l), ek_upS iG_hI (fun _ _ => trivial) rfl (qk_181 l), fun N ad => ⟨le_iv (by omega) (by omega), trivial⟩⟩
  by_cases h1 : 1 ≤ x1.toInt ∧ x1.toInt ≤ 240
  · exact ⟨kq_144, kq_2092, [.inl (1, 240)], by decide +kernel, by decide +kernel, ek_upS iG_hI (fun _ _ => trivial) rfl (qk_144 l), qk_2092 l, fun N ad => ⟨le_iv (by omega) (by omega), trivial⟩⟩
  by_cases h2 : 241 ≤ x1.toInt
  · exact ⟨kq_179, kq_240, [.inl (241, 2147483647)], by decide +kernel, by decide +kernel, ek_upS iG_hI (fun _ _ => trivial) rfl (qk_179 l), ek_upS iG_hI (fun _ _ => trivial) rfl (qk_240 l), fun N ad => ⟨le_iv (by omega) (by omega), trivial⟩⟩
  omega
theorem pe_run (l : Launch) (x1 : Int32) : ∃ (κa κb : ek) (box : List en_V), le_ck 0 36 1 κa box = true ∧ le_ck 84 39 1 κb box = true ∧ ek_ok l tQ iG κa ∧ ek_ok l tQ iG κb ∧ (∀ (N : Nat) (ad : Nat → Nat), en_vs N ad box [.int x1]) := by
  have r1 := fb_rng x1
  by_cases h0 : x1.toInt ≤ 0
  · exact ⟨kq_242, kq_424, [.inl ((-2147483648), 0)], by decide +kernel, by decide +kernel, ek_upS iG_hI (fun _ _ => trivial) rfl (qk_242 l), ek_upS iG_hI (fun _ _ => trivial) rfl (qk_424 l), fun N ad => ⟨le_iv (by omega) (by omega), trivial⟩⟩
  by_cases h1 : 1 ≤ x1.toInt ∧ x1.toInt ≤ 4
  · exact ⟨kq_2100, kq_2111, [.inl (1, 4)], by decide +kernel, by decide +kernel, qk_2100 l, qk_2111 l, fun N ad => ⟨le_iv (by omega) (by omega), trivial⟩⟩
  by_cases h2 : 5 ≤ x1.toInt
  · exact ⟨kq_421, kq_875, [.inl (5, 2147483647)], by decide +kernel, by decide +kernel, ek_upS iG_hI (fun _ _ => trivial) rfl (qk_421 l), ek_upS iG_hI (fun _ _ => trivial) rfl (qk_875 l), fun N ad => ⟨le_iv (by omega) (by omega), trivial⟩⟩
  omega
theorem pe_tried (l : Launch) (x1 x2 : Int32) : ∃ (κa κb : ek) (box : List en_V), le_ck 0 40 2 κa box = true ∧ le_ck 84 44 2 κb box = true ∧ ek_ok l tQ iG κa ∧ ek_ok l tQ iG κb ∧ (∀ (N : Nat) (ad : Nat → Nat), en_vs N ad box [.int x1, .int x2]) := by
  have r1 := fb_rng x1
  have r2 := fb_rng x2
  by_cases h0 : x1.toInt ≤ 0 ∧ x2.toInt ≤ (-2147483639)
  · exact ⟨kq_876, kq_926, [.inl ((-2147483648), 0), .inl ((-2147483648), (-2147483639))], by decide +kernel, by decide +kernel, ek_upS iG_hI (fun _ _ => trivial) rfl (qk_876 l), ek_upS iG_hI (fun _ _ => trivial) rfl (qk_926 l), fun N ad => ⟨le_iv (by omega) (by omega), le_iv (by omega) (by omega), trivial⟩⟩
  by_cases h1 : x1.toInt ≤ 0 ∧ (-2147483638) ≤ x2.toInt ∧ x2.toInt ≤ (-1)
  · exact ⟨kq_877, kq_930, [.inl ((-2147483648), 0), .inl ((-2147483638), (-1))], by decide +kernel, by decide +kernel, ek_upS iG_hI (fun _ _ => trivial) rfl (qk_877 l), ek_upS iG_hI (fun _ _ => trivial) rfl (qk_930 l), fun N ad => ⟨le_iv (by omega) (by omega), le_iv (by omega) (by omega), trivial⟩⟩
  by_cases h2 : x1.toInt ≤ 0 ∧ 0 ≤ x2.toInt ∧ x2.toInt ≤ 5
  · exact ⟨kq_878, kq_932, [.inl ((-2147483648), 0), .inl (0, 5)], by decide +kernel, by decide +kernel, ek_upS iG_hI (fun _ _ => trivial) rfl (qk_878 l), ek_upS iG_hI (fun _ _ => trivial) rfl (qk_932 l), fun N ad => ⟨le_iv (by omega) (by omega), le_iv (by omega) (by omega), trivial⟩⟩
  by_cases h3 : x1.toInt ≤ 0 ∧ 6 ≤ x2.toInt ∧ x2.toInt ≤ 9
  · exact ⟨kq_879, kq_936, [.inl ((-2147483648), 0), .inl (6, 9)], by decide +kernel, by decide +kernel, ek_upS iG_hI (fun _ _ => trivial) rfl (qk_879 l), ek_upS iG_hI (fun _ _ => trivial) rfl (qk_936 l), fun N ad => ⟨le_iv (by omega) (by omega), le_iv (by omega) (by omega), trivial⟩⟩
  by_cases h4 : x1.toInt ≤ 0 ∧ 10 ≤ x2.toInt ∧ x2.toInt ≤ 17
  · exact ⟨kq_880, kq_939, [.inl ((-2147483648), 0), .inl (10, 17)], by decide +kernel, by decide +kernel, ek_upS iG_hI (fun _ _ => trivial) rfl (qk_880 l), ek_upS iG_hI (fun _ _ => trivial) rfl (qk_939 l), fun N ad => ⟨le_iv (by omega) (by omega), le_iv (by omega) (by omega), trivial⟩⟩
  by_cases h5 : x1.toInt ≤ 0 ∧ 18 ≤ x2.toInt ∧ x2.toInt ≤ 99
  · exact ⟨kq_881, kq_943, [.inl ((-2147483648), 0), .inl (18, 99)], by decide +kernel, by decide +kernel, ek_upS iG_hI (fun _ _ => trivial) rfl (qk_881 l), ek_upS iG_hI (fun _ _ => trivial) rfl (qk_943 l), fun N ad => ⟨le_iv (by omega) (by omega), le_iv (by omega) (by omega), trivial⟩⟩
  by_cases h6 : x1.toInt ≤ 0 ∧ 100 ≤ x2.toInt ∧ x2.toInt ≤ 163
  · exact ⟨kq_882, kq_947, [.inl ((-2147483648), 0), .inl (100, 163)], by decide +kernel, by decide +kernel, ek_upS iG_hI (fun _ _ => trivial) rfl (qk_882 l), ek_upS iG_hI (fun _ _ => trivial) rfl (qk_947 l), fun N ad => ⟨le_iv (by omega) (by omega), le_iv (by omega) (by omega), trivial⟩⟩
  by_cases h7 : x1.toInt ≤ 0 ∧ 164 ≤ x2.toInt
  · exact ⟨kq_883, kq_951, [.inl ((-2147483648), 0), .inl (164, 2147483647)], by decide +kernel, by decide +kernel, ek_upS iG_hI (fun _ _ => trivial) rfl (qk_883 l), ek_upS iG_hI (fun _ _ => trivial) rfl (qk_951 l), fun N ad => ⟨le_iv (by omega) (by omega), le_iv (by omega) (by omega), trivial⟩⟩
  by_cases h8 : 1 ≤ x1.toInt ∧ x1.toInt ≤ 4 ∧ x2.toInt ≤ (-2147483639)
  · exact ⟨kq_887, kq_952, [.inl (1, 4), .inl ((-2147483648), (-2147483639))], by decide +kernel, by decide +kernel, ek_upS iG_hI (fun _ _ => trivial) rfl (qk_887 l), ek_upS iG_hI (fun _ _ => trivial) rfl (qk_952 l), fun N ad => ⟨le_iv (by omega) (by omega), le_iv (by omega) (by omega), trivial⟩⟩
  by_cases h9 : 1 ≤ x1.toInt ∧ x1.toInt ≤ 4 ∧ (-2147483638) ≤ x2.toInt ∧ x2.toInt ≤ (-1)
  · exact ⟨kq_891, kq_953, [.inl (1, 4), .inl ((-2147483638), (-1))], by decide +kernel, by decide +kernel, ek_upS iG_hI (fun _ _ => trivial) rfl (qk_891 l), ek_upS iG_hI (fun _ _ => trivial) rfl (qk_953 l), fun N ad => ⟨le_iv (by omega) (by omega), le_iv (by omega) (by omega), trivial⟩⟩
  by_cases h10 : 1 ≤ x1.toInt ∧ x1.toInt ≤ 4 ∧ 0 ≤ x2.toInt ∧ x2.toInt ≤ 5
  · exact ⟨kq_2295, kq_2299, [.inl (1, 4), .inl (0, 5)], by decide +kernel, by decide +kernel, qk_2295 l, qk_2299 l, fun N ad => ⟨le_iv (by omega) (by omega), le_iv (by omega) (by omega), trivial⟩⟩
  by_cases h11 : 1 ≤ x1.toInt ∧ x1.toInt ≤ 4 ∧ 6 ≤ x2.toInt ∧ x2.toInt ≤ 9
  · exact ⟨kq_899, kq_956, [.inl (1, 4), .inl (6, 9)], by decide +kernel, by decide +kernel, ek_upS iG_hI (fun _ _ => trivial) rfl (qk_899 l), ek_upS iG_hI (fun _ _ => trivial) rfl (qk_956 l), fun N ad => ⟨le_iv (by omega) (by omega), le_iv (by omega) (by omega), trivial⟩⟩
  by_cases h12 : 1 ≤ x1.toInt ∧ x1.toInt ≤ 4 ∧ 10 ≤ x2.toInt ∧ x2.toInt ≤ 17
  · exact ⟨kq_2296, kq_2300, [.inl (1, 4), .inl (10, 17)], by decide +kernel, by decide +kernel, qk_2296 l, qk_2300 l, fun N ad => ⟨le_iv (by omega) (by omega), le_iv (by omega) (by omega), trivial⟩⟩
  by_cases h13 : 1 ≤ x1.toInt ∧ x1.toInt ≤ 4 ∧ 18 ≤ x2.toInt ∧ x2.toInt ≤ 99
  · exact ⟨kq_906, kq_958, [.inl (1, 4), .inl (18, 99)], by decide +kernel, by decide +kernel, ek_upS iG_hI (fun _ _ => trivial) rfl (qk_906 l), ek_upS iG_hI (fun _ _ => trivial) rfl (qk_958 l), fun N ad => ⟨le_iv (by omega) (by omega), le_iv (by omega) (by omega), trivial⟩⟩
  by_cases h14 : 1 ≤ x1.toInt ∧ x1.toInt ≤ 4 ∧ 100 ≤ x2.toInt ∧ x2.toInt ≤ 163
  · exact ⟨kq_2297, kq_2301, [.inl (1, 4), .inl (100, 163)], by decide +kernel, by decide +kernel, qk_2297 l, qk_2301 l, fun N ad => ⟨le_iv (by omega) (by omega), le_iv (by omega) (by omega), trivial⟩⟩
  by_cases h15 : 1 ≤ x1.toInt ∧ x1.toInt ≤ 4 ∧ 164 ≤ x2.toInt
  · exact ⟨kq_914, kq_960, [.inl (1, 4), .inl (164, 2147483647)], by decide +kernel, by decide +kernel, ek_upS iG_hI (fun _ _ => trivial) rfl (qk_914 l), ek_upS iG_hI (fun _ _ => trivial) rfl (qk_960 l), fun N ad => ⟨le_iv (by omega) (by omega), le_iv (by omega) (by omega), trivial⟩⟩
  by_cases h16 : 5 ≤ x1.toInt ∧ x2.toInt ≤ (-2147483639)
  · exact ⟨kq_915, kq_961, [.inl (5, 2147483647), .inl ((-2147483648), (-2147483639))], by decide +kernel, by decide +kernel, ek_upS iG_hI (fun _ _ => trivial) rfl (qk_915 l), ek_upS iG_hI (fun _ _ => trivial) rfl (qk_961 l), fun N ad => ⟨le_iv (by omega) (by omega), le_iv (by omega) (by omega), trivial⟩⟩
  by_cases h17 : 5 ≤ x1.toInt ∧ (-2147483638) ≤ x2.toInt ∧ x2.toInt ≤ (-1)
  · exact ⟨kq_916, kq_962, [.inl (5, 2147483647), .inl ((-2147483638), (-1))], by decide +kernel, by decide +kernel, ek_upS iG_hI (fun _ _ => trivial) rfl (qk_916 l), ek_upS iG_hI (fun _ _ => trivial) rfl (qk_962 l), fun N ad => ⟨le_iv (by omega) (by omega), le_iv (by omega) (by omega), trivial⟩⟩
  by_cases h18 : 5 ≤ x1.toInt ∧ 0 ≤ x2.toInt ∧ x2.toInt ≤ 5
  · exact ⟨kq_917, kq_963, [.inl (5, 2147483647), .inl (0, 5)], by decide +kernel, by decide +kernel, ek_upS iG_hI (fun _ _ => trivial) rfl (qk_917 l), ek_upS iG_hI (fun _ _ => trivial) rfl (qk_963 l), fun N ad => ⟨le_iv (by omega) (by omega), le_iv (by omega) (by omega), trivial⟩⟩
  by_cases h19 : 5 ≤ x1.toInt ∧ 6 ≤ x2.toInt ∧ x2.toInt ≤ 9
  · exact ⟨kq_918, kq_964, [.inl (5, 2147483647), .inl (6, 9)], by decide +kernel, by decide +kernel, ek_upS iG_hI (fun _ _ => trivial) rfl (qk_918 l), ek_upS iG_hI (fun _ _ => trivial) rfl (qk_964 l), fun N ad => ⟨le_iv (by omega) (by omega), le_iv (by omega) (by omega), trivial⟩⟩
  by_cases h20 : 5 ≤ x1.toInt ∧ 10 ≤ x2.toInt ∧ x2.toInt ≤ 17
  · exact ⟨kq_919, kq_965, [.inl (5, 2147483647), .inl (10, 17)], by decide +kernel, by decide +kernel, ek_upS iG_hI (fun _ _ => trivial) rfl (qk_919 l), ek_upS iG_hI (fun _ _ => trivial) rfl (qk_965 l), fun N ad => ⟨le_iv (by omega) (by omega), le_iv (by omega) (by omega), trivial⟩⟩
  by_cases h21 : 5 ≤ x1.toInt ∧ 18 ≤ x2.toInt ∧ x2.toInt ≤ 99
  · exact ⟨kq_920, kq_966, [.inl (5, 2147483647), .inl (18, 99)], by decide +kernel, by decide +kernel, ek_upS iG_hI (fun _ _ => trivial) rfl (qk_920 l), ek_upS iG_hI (fun _ _ => trivial) rfl (qk_966 l), fun N ad => ⟨le_iv (by omega) (by omega), le_iv (by omega) (by omega), trivial⟩⟩
  by_cases h22 : 5 ≤ x1.toInt ∧ 100 ≤ x2.toInt ∧ x2.toInt ≤ 163
  · exact ⟨kq_921, kq_967, [.inl (5, 2147483647), .inl (100, 163)], by decide +kernel, by decide +kernel, ek_upS iG_hI (fun _ _ => trivial) rfl (qk_921 l), ek_upS iG_hI (fun _ _ => trivial) rfl (qk_967 l), fun N ad => ⟨le_iv (by omega) (by omega), le_iv (by omega) (by omega), trivial⟩⟩
  by_cases h23 : 5 ≤ x1.toInt ∧ 164 ≤ x2.toInt
  · exact ⟨kq_922, kq_968, [.inl (5, 2147483647), .inl (164, 2147483647)], by decide +kernel, by decide +kernel, ek_upS iG_hI (fun _ _ => trivial) rfl (qk_922 l), ek_upS iG_hI (fun _ _ => trivial) rfl (qk_968 l), fun N ad => ⟨le_iv (by omega) (by omega), le_iv (by omega) (by omega), trivial⟩⟩
  omega
theorem pe_lastRun (l : Launch) (x1 : Int32) : ∃ (κa κb : ek) (box : List en_V), le_ck 0 45 1 κa box = true ∧ le_ck 84 48 1 κb box = true ∧ ek_ok l tQ iG κa ∧ ek_ok l tQ iG κb ∧ (∀ (N : Nat) (ad : Nat → Nat), en_vs N ad box [.int x1]) := by
  have r1 := fb_rng x1
  by_cases h0 : x1.toInt ≤ (-1)
  · exact ⟨kq_970, kq_975, [.inl ((-2147483648), (-1))], by decide +kernel, by decide +kernel, ek_upS iG_hI (fun _ _ => trivial) rfl (qk_970 l), ek_upS iG_hI (fun _ _ => trivial) rfl (qk_975 l), fun N ad => ⟨le_iv (by omega) (by omega), trivial⟩⟩
  by_cases h1 : 0 ≤ x1.toInt ∧ x1.toInt ≤ 5
  · exact ⟨kq_971, kq_976, [.inl (0, 5)], by decide +kernel, by decide +kernel, ek_upS iG_hI (fun _ _ => trivial) rfl (qk_971 l), ek_upS iG_hI (fun _ _ => trivial) rfl (qk_976 l), fun N ad => ⟨le_iv (by omega) (by omega), trivial⟩⟩
  by_cases h2 : 6 ≤ x1.toInt
  · exact ⟨kq_973, kq_978, [.inl (6, 2147483647)], by decide +kernel, by decide +kernel, ek_upS iG_hI (fun _ _ => trivial) rfl (qk_973 l), ek_upS iG_hI (fun _ _ => trivial) rfl (qk_978 l), fun N ad => ⟨le_iv (by omega) (by omega), trivial⟩⟩
  omega
theorem pe_opIs (l : Launch) (x1 x2 : Int32) : ∃ (κa κb : ek) (box : List en_V), le_ck 0 49 2 κa box = true ∧ le_ck 84 52 2 κb box = true ∧ ek_ok l tQ iG κa ∧ ek_ok l tQ iG κb ∧ (∀ (N : Nat) (ad : Nat → Nat), en_vs N ad box [.int x1, .int x2]) := by
  have r1 := fb_rng x1
  have r2 := fb_rng x2
  by_cases h0 : x1.toInt ≤ (-1)
  · exact ⟨kq_980, kq_990, [.inl ((-2147483648), (-1)), .inl ((-2147483648), 2147483647)], by decide +kernel, by decide +kernel, ek_upS iG_hI (fun _ _ => trivial) rfl (qk_980 l), ek_upS iG_hI (fun _ _ => trivial) rfl (qk_990 l), fun N ad => ⟨le_iv (by omega) (by omega), le_iv (by omega) (by omega), trivial⟩⟩
  by_cases h1 : 0 ≤ x1.toInt
  · exact ⟨kq_987, kq_996, [.inl (0, 2147483647), .inl ((-2147483648), 2147483647)], by decide +kernel, by decide +kernel, ek_upS iG_hI (fun _ _ => trivial) rfl (qk_987 l), ek_upS iG_hI (fun _ _ => trivial) rfl (qk_996 l), fun N ad => ⟨le_iv (by omega) (by omega), le_iv (by omega) (by omega), trivial⟩⟩
  omega
theorem pe_source (l : Launch) (x1 x2 : Int32) : ∃ (κa κb : ek) (box : List en_V), le_ck 0 53 2 κa box = true ∧ le_ck 84 56 2 κb box = true ∧ ek_ok l tQ iG κa ∧ ek_ok l tQ iG κb ∧ (∀ (N : Nat) (ad : Nat → Nat), en_vs N ad box [.int x1, .int x2]) := by
  have r1 := fb_rng x1
  have r2 := fb_rng x2
  by_cases h0 : x1.toInt ≤ (-1)
  · exact ⟨kq_997, kq_1001, [.inl ((-2147483648), (-1)), .inl ((-2147483648), 2147483647)], by decide +kernel, by decide +kernel, ek_upS iG_hI (fun _ _ => trivial) rfl (qk_997 l), ek_upS iG_hI (fun _ _ => trivial) rfl (qk_1001 l), fun N ad => ⟨le_iv (by omega) (by omega), le_iv (by omega) (by omega), trivial⟩⟩
  by_cases h1 : 0 ≤ x1.toInt
  · exact ⟨kq_1000, kq_1002, [.inl (0, 2147483647), .inl ((-2147483648), 2147483647)], by decide +kernel, by decide +kernel, ek_upS iG_hI (fun _ _ => trivial) rfl (qk_1000 l), ek_upS iG_hI (fun _ _ => trivial) rfl (qk_1002 l), fun N ad => ⟨le_iv (by omega) (by omega), le_iv (by omega) (by omega), trivial⟩⟩
  omega
theorem pe_now (l : Launch) (x1 : Int32) : ∃ (κa κb : ek) (box : List en_V), le_ck 0 57 1 κa box = true ∧ le_ck 84 60 1 κb box = true ∧ ek_ok l tQ iG κa ∧ ek_ok l tQ iG κb ∧ (∀ (N : Nat) (ad : Nat → Nat), en_vs N ad box [.int x1]) := by
  have r1 := fb_rng x1
  by_cases h0 : x1.toInt ≤ (-1)
  · exact ⟨kq_1004, kq_1014, [.inl ((-2147483648), (-1))], by decide +kernel, by decide +kernel, ek_upS iG_hI (fun _ _ => trivial) rfl (qk_1004 l), ek_upS iG_hI (fun _ _ => trivial) rfl (qk_1014 l), fun N ad => ⟨le_iv (by omega) (by omega), trivial⟩⟩
  by_cases h1 : 0 ≤ x1.toInt ∧ x1.toInt ≤ 7
  · exact ⟨kq_1005, kq_1015, [.inl (0, 7)], by decide +kernel, by decide +kernel, ek_upS iG_hI (fun _ _ => trivial) rfl (qk_1005 l), ek_upS iG_hI (fun _ _ => trivial) rfl (qk_1015 l), fun N ad => ⟨le_iv (by omega) (by omega), trivial⟩⟩
  by_cases h2 : 8 ≤ x1.toInt ∧ x1.toInt ≤ 99
  · exact ⟨kq_1008, kq_1018, [.inl (8, 99)], by decide +kernel, by decide +kernel, ek_upS iG_hI (fun _ _ => trivial) rfl (qk_1008 l), ek_upS iG_hI (fun _ _ => trivial) rfl (qk_1018 l), fun N ad => ⟨le_iv (by omega) (by omega), trivial⟩⟩
  by_cases h3 : 100 ≤ x1.toInt ∧ x1.toInt ≤ 163
  · exact ⟨kq_1010, kq_1020, [.inl (100, 163)], by decide +kernel, by decide +kernel, ek_upS iG_hI (fun _ _ => trivial) rfl (qk_1010 l), ek_upS iG_hI (fun _ _ => trivial) rfl (qk_1020 l), fun N ad => ⟨le_iv (by omega) (by omega), trivial⟩⟩
  by_cases h4 : 164 ≤ x1.toInt
  · exact ⟨kq_1012, kq_1022, [.inl (164, 2147483647)], by decide +kernel, by decide +kernel, ek_upS iG_hI (fun _ _ => trivial) rfl (qk_1012 l), ek_upS iG_hI (fun _ _ => trivial) rfl (qk_1022 l), fun N ad => ⟨le_iv (by omega) (by omega), trivial⟩⟩
  omega
theorem pe_plain (l : Launch) (x1 : Int32) : ∃ (κa κb : ek) (box : List en_V), le_ck 0 61 1 κa box = true ∧ le_ck 84 64 1 κb box = true ∧ ek_ok l tQ iG κa ∧ ek_ok l tQ iG κb ∧ (∀ (N : Nat) (ad : Nat → Nat), en_vs N ad box [.int x1]) := by
  have r1 := fb_rng x1
  by_cases h0 : x1.toInt ≤ (-1)
  · exact ⟨kq_1023, kq_1038, [.inl ((-2147483648), (-1))], by decide +kernel, by decide +kernel, ek_upS iG_hI (fun _ _ => trivial) rfl (qk_1023 l), ek_upS iG_hI (fun _ _ => trivial) rfl (qk_1038 l), fun N ad => ⟨le_iv (by omega) (by omega), trivial⟩⟩
  by_cases h1 : 0 ≤ x1.toInt ∧ x1.toInt ≤ 7
  · exact ⟨kq_1032, kq_1044, [.inl (0, 7)], by decide +kernel, by decide +kernel, ek_upS iG_hI (fun _ _ => trivial) rfl (qk_1032 l), ek_upS iG_hI (fun _ _ => trivial) rfl (qk_1044 l), fun N ad => ⟨le_iv (by omega) (by omega), trivial⟩⟩
  by_cases h2 : 8 ≤ x1.toInt ∧ x1.toInt ≤ 99
  · exact ⟨kq_1033, kq_1045, [.inl (8, 99)], by decide +kernel, by decide +kernel, ek_upS iG_hI (fun _ _ => trivial) rfl (qk_1033 l), ek_upS iG_hI (fun _ _ => trivial) rfl (qk_1045 l), fun N ad => ⟨le_iv (by omega) (by omega), trivial⟩⟩
  by_cases h3 : 100 ≤ x1.toInt ∧ x1.toInt ≤ 163
  · exact ⟨kq_1034, kq_1046, [.inl (100, 163)], by decide +kernel, by decide +kernel, ek_upS iG_hI (fun _ _ => trivial) rfl (qk_1034 l), ek_upS iG_hI (fun _ _ => trivial) rfl (qk_1046 l), fun N ad => ⟨le_iv (by omega) (by omega), trivial⟩⟩
  by_cases h4 : 164 ≤ x1.toInt
  · exact ⟨kq_1035, kq_1047, [.inl (164, 2147483647)], by decide +kernel, by decide +kernel, ek_upS iG_hI (fun _ _ => trivial) rfl (qk_1035 l), ek_upS iG_hI (fun _ _ => trivial) rfl (qk_1047 l), fun N ad => ⟨le_iv (by omega) (by omega), trivial⟩⟩
  omega
theorem pe_unlike (l : Launch) (x1 : Int32) : ∃ (κa κb : ek) (box : List en_V), le_ck 0 65 1 κa box = true ∧ le_ck 84 68 1 κb box = true ∧ ek_ok l tQ iG κa ∧ ek_ok l tQ iG κb ∧ (∀ (N : Nat) (ad : Nat → Nat), en_vs N ad box [.int x1]) := by
  have r1 := fb_rng x1
  by_cases h0 : x1.toInt ≤ 0
  · exact ⟨kq_1048, kq_1053, [.inl ((-2147483648), 0)], by decide +kernel, by decide +kernel, ek_upS iG_hI (fun _ _ => trivial) rfl (qk_1048 l), ek_upS iG_hI (fun _ _ => trivial) rfl (qk_1053 l), fun N ad => ⟨le_iv (by omega) (by omega), trivial⟩⟩
  by_cases h1 : 1 ≤ x1.toInt ∧ x1.toInt ≤ 4
  · exact ⟨kq_2302, kq_2303, [.inl (1, 4)], by decide +kernel, by decide +kernel, qk_2302 l, qk_2303 l, fun N ad => ⟨le_iv (by omega) (by omega), trivial⟩⟩
  by_cases h2 : 5 ≤ x1.toInt
  · exact ⟨kq_1052, kq_1055, [.inl (5, 2147483647)], by decide +kernel, by decide +kernel, ek_upS iG_hI (fun _ _ => trivial) rfl (qk_1052 l), ek_upS iG_hI (fun _ _ => trivial) rfl (qk_1055 l), fun N ad => ⟨le_iv (by omega) (by omega), trivial⟩⟩
  omega
theorem pe_fastest (l : Launch) (x1 : Int32) : ∃ (κa κb : ek) (box : List en_V), le_ck 0 69 1 κa box = true ∧ le_ck 84 72 1 κb box = true ∧ ek_ok l tQ iG κa ∧ ek_ok l tQ iG κb ∧ (∀ (N : Nat) (ad : Nat → Nat), en_vs N ad box [.int x1]) := by
  have r1 := fb_rng x1
  by_cases h0 : x1.toInt ≤ (-1)
  · exact ⟨kq_1056, kq_1064, [.inl ((-2147483648), (-1))], by decide +kernel, by decide +kernel, ek_upS iG_hI (fun _ _ => trivial) rfl (qk_1056 l), ek_upS iG_hI (fun _ _ => trivial) rfl (qk_1064 l), fun N ad => ⟨le_iv (by omega) (by omega), trivial⟩⟩
  by_cases h1 : 0 ≤ x1.toInt ∧ x1.toInt ≤ 1
  · exact ⟨kq_2304, kq_2309, [.inl (0, 1)], by decide +kernel, by decide +kernel, qk_2304 l, qk_2309 l, fun N ad => ⟨le_iv (by omega) (by omega), trivial⟩⟩
  by_cases h2 : 2 ≤ x1.toInt
  · exact ⟨kq_1062, kq_1083, [.inl (2, 2147483647)], by decide +kernel, by decide +kernel, ek_upS iG_hI (fun _ _ => trivial) rfl (qk_1062 l), ek_upS iG_hI (fun _ _ => trivial) rfl (qk_1083 l), fun N ad => ⟨le_iv (by omega) (by omega), trivial⟩⟩
  omega
theorem pe_cautious (l : Launch) (x1 x2 : Int32) : ∃ (κa κb : ek) (box : List en_V), le_ck 0 73 2 κa box = true ∧ le_ck 84 76 2 κb box = true ∧ ek_ok l tQ iG κa ∧ ek_ok l tQ iG κb ∧ (∀ (N : Nat) (ad : Nat → Nat), en_vs N ad box [.int x1, .int x2]) := by
  have r1 := fb_rng x1
  have r2 := fb_rng x2
  by_cases h0 : x1.toInt ≤ 0
  · exact ⟨kq_1084, kq_1095, [.inl ((-2147483648), 0), .inl ((-2147483648), 2147483647)], by decide +kernel, by decide +kernel, ek_upS iG_hI (fun _ _ => trivial) rfl (qk_1084 l), ek_upS iG_hI (fun _ _ => trivial) rfl (qk_1095 l), fun N ad => ⟨le_iv (by omega) (by omega), le_iv (by omega) (by omega), trivial⟩⟩
  by_cases h1 : 1 ≤ x1.toInt ∧ x1.toInt ≤ 4
  · exact ⟨kq_2327, kq_2330, [.inl (1, 4), .inl ((-2147483648), 2147483647)], by decide +kernel, by decide +kernel, qk_2327 l, qk_2330 l, fun N ad => ⟨le_iv (by omega) (by omega), le_iv (by omega) (by omega), trivial⟩⟩
  by_cases h2 : 5 ≤ x1.toInt
  · exact ⟨kq_1094, kq_1099, [.inl (5, 2147483647), .inl ((-2147483648), 2147483647)], by decide +kernel, by decide +kernel, ek_upS iG_hI (fun _ _ => trivial) rfl (qk_1094 l), ek_upS iG_hI (fun _ _ => trivial) rfl (qk_1099 l), fun N ad => ⟨le_iv (by omega) (by omega), le_iv (by omega) (by omega), trivial⟩⟩
  omega
theorem pe_worst (l : Launch) (x1 : Int32) : ∃ (κa κb : ek) (box : List en_V), le_ck 0 77 1 κa box = true ∧ le_ck 84 80 1 κb box = true ∧ ek_ok l tQ iG κa ∧ ek_ok l tQ iG κb ∧ (∀ (N : Nat) (ad : Nat → Nat), en_vs N ad box [.int x1]) := by
  have r1 := fb_rng x1
  by_cases h0 : x1.toInt ≤ (-1)
  · exact ⟨kq_1100, kq_1103, [.inl ((-2147483648), (-1))], by decide +kernel, by decide +kernel, ek_upS iG_hI (fun _ _ => trivial) rfl (qk_1100 l), ek_upS iG_hI (fun _ _ => trivial) rfl (qk_1103 l), fun N ad => ⟨le_iv (by omega) (by omega), trivial⟩⟩
  by_cases h1 : 0 ≤ x1.toInt ∧ x1.toInt ≤ 1
  · exact ⟨kq_1101, kq_1105, [.inl (0, 1)], by decide +kernel, by decide +kernel, ek_upS iG_hI (fun _ _ => trivial) rfl (qk_1101 l), ek_upS iG_hI (fun _ _ => trivial) rfl (qk_1105 l), fun N ad => ⟨le_iv (by omega) (by omega), trivial⟩⟩
  by_cases h2 : 2 ≤ x1.toInt
  · exact ⟨kq_1102, kq_1106, [.inl (2, 2147483647)], by decide +kernel, by decide +kernel, ek_upS iG_hI (fun _ _ => trivial) rfl (qk_1102 l), ek_upS iG_hI (fun _ _ => trivial) rfl (qk_1106 l), fun N ad => ⟨le_iv (by omega) (by omega), trivial⟩⟩
  omega
theorem pe_deep (l : Launch) : ∃ (κa κb : ek) (box : List en_V), le_ck 0 81 0 κa box = true ∧ le_ck 84 85 0 κb box = true ∧ ek_ok l tQ iG κa ∧ ek_ok l tQ iG κb ∧ (∀ (N : Nat) (ad : Nat → Nat), en_vs N ad box []) := by
  exact ⟨kq_1107, kq_1111, [], by decide +kernel, by decide +kernel, ek_upS iG_hI (fun _ _ => trivial) rfl (qk_1107 l), ek_upS iG_hI (fun _ _ => trivial) rfl (qk_1111 l), fun N ad => trivial⟩
theorem pe_mix (l : Launch) : ∃ (κa κb : ek) (box : List en_V), le_ck 0 86 0 κa box = true ∧ le_ck 84 89 0 κb box = true ∧ ek_ok l tQ iG κa ∧ ek_ok l tQ iG κb ∧ (∀ (N : Nat) (ad : Nat → Nat), en_vs N ad box []) := by
  exact ⟨kq_1132, kq_1142, [], by decide +kernel, by decide +kernel, ek_upS iG_hI (fun _ _ => trivial) rfl (qk_1132 l), ek_upS iG_hI (fun _ _ => trivial) rfl (qk_1142 l), fun N ad => trivial⟩
theorem pe_watch (l : Launch) (x1 x2 : Int32) : ∃ (κa κb : ek) (box : List en_V), le_ck 0 90 2 κa box = true ∧ le_ck 84 93 2 κb box = true ∧ ek_ok l tQ iG κa ∧ ek_ok l tQ iG κb ∧ (∀ (N : Nat) (ad : Nat → Nat), en_vs N ad box [.int x1, .int x2]) := by
  have r1 := fb_rng x1
  have r2 := fb_rng x2
  by_cases h0 : x1.toInt ≤ (-1)
  · exact ⟨kq_1151, kq_1157, [.inl ((-2147483648), (-1)), .inl ((-2147483648), 2147483647)], by decide +kernel, by decide +kernel, ek_upS iG_hI (fun _ _ => trivial) rfl (qk_1151 l), ek_upS iG_hI (fun _ _ => trivial) rfl (qk_1157 l), fun N ad => ⟨le_iv (by omega) (by omega), le_iv (by omega) (by omega), trivial⟩⟩
  by_cases h1 : 2 ≤ x1.toInt
  · exact ⟨kq_1152, kq_1158, [.inl (2, 2147483647), .inl ((-2147483648), 2147483647)], by decide +kernel, by decide +kernel, ek_upS iG_hI (fun _ _ => trivial) rfl (qk_1152 l), ek_upS iG_hI (fun _ _ => trivial) rfl (qk_1158 l), fun N ad => ⟨le_iv (by omega) (by omega), le_iv (by omega) (by omega), trivial⟩⟩
  by_cases h2 : 0 ≤ x1.toInt ∧ x1.toInt ≤ 1 ∧ x2.toInt ≤ (-1)
  · exact ⟨kq_1153, kq_1159, [.inl (0, 1), .inl ((-2147483648), (-1))], by decide +kernel, by decide +kernel, ek_upS iG_hI (fun _ _ => trivial) rfl (qk_1153 l), ek_upS iG_hI (fun _ _ => trivial) rfl (qk_1159 l), fun N ad => ⟨le_iv (by omega) (by omega), le_iv (by omega) (by omega), trivial⟩⟩
  by_cases h3 : 0 ≤ x1.toInt ∧ x1.toInt ≤ 1 ∧ 0 ≤ x2.toInt
  · exact ⟨kq_1156, kq_1160, [.inl (0, 1), .inl (0, 2147483647)], by decide +kernel, by decide +kernel, ek_upS iG_hI (fun _ _ => trivial) rfl (qk_1156 l), ek_upS iG_hI (fun _ _ => trivial) rfl (qk_1160 l), fun N ad => ⟨le_iv (by omega) (by omega), le_iv (by omega) (by omega), trivial⟩⟩
  omega
theorem pe_watched (l : Launch) (x1 x2 x3 : Int32) : ∃ (κa κb : ek) (box : List en_V), le_ck 0 94 3 κa box = true ∧ le_ck 84 98 3 κb box = true ∧ ek_ok l tQ iG κa ∧ ek_ok l tQ iG κb ∧ (∀ (N : Nat) (ad : Nat → Nat), en_vs N ad box [.int x1, .int x2, .int x3]) := by
  have r1 := fb_rng x1
  have r2 := fb_rng x2
  have r3 := fb_rng x3
  by_cases h0 : x1.toInt ≤ (-1)
  · exact ⟨kq_1161, kq_1168, [.inl ((-2147483648), (-1)), .inl ((-2147483648), 2147483647), .inl ((-2147483648), 2147483647)], by decide +kernel, by decide +kernel, ek_upS iG_hI (fun _ _ => trivial) rfl (qk_1161 l), ek_upS iG_hI (fun _ _ => trivial) rfl (qk_1168 l), fun N ad => ⟨le_iv (by omega) (by omega), le_iv (by omega) (by omega), le_iv (by omega) (by omega), trivial⟩⟩
  by_cases h1 : 2 ≤ x1.toInt
  · exact ⟨kq_1162, kq_1169, [.inl (2, 2147483647), .inl ((-2147483648), 2147483647), .inl ((-2147483648), 2147483647)], by decide +kernel, by decide +kernel, ek_upS iG_hI (fun _ _ => trivial) rfl (qk_1162 l), ek_upS iG_hI (fun _ _ => trivial) rfl (qk_1169 l), fun N ad => ⟨le_iv (by omega) (by omega), le_iv (by omega) (by omega), le_iv (by omega) (by omega), trivial⟩⟩
  by_cases h2 : 0 ≤ x1.toInt ∧ x1.toInt ≤ 1 ∧ x2.toInt ≤ (-1)
  · exact ⟨kq_1163, kq_1170, [.inl (0, 1), .inl ((-2147483648), (-1)), .inl ((-2147483648), 2147483647)], by decide +kernel, by decide +kernel, ek_upS iG_hI (fun _ _ => trivial) rfl (qk_1163 l), ek_upS iG_hI (fun _ _ => trivial) rfl (qk_1170 l), fun N ad => ⟨le_iv (by omega) (by omega), le_iv (by omega) (by omega), le_iv (by omega) (by omega), trivial⟩⟩
  by_cases h3 : 0 ≤ x1.toInt ∧ x1.toInt ≤ 1 ∧ 0 ≤ x2.toInt ∧ x3.toInt ≤ (-1)
  · exact ⟨kq_1164, kq_1172, [.inl (0, 1), .inl (0, 2147483647), .inl ((-2147483648), (-1))], by decide +kernel, by decide +kernel, ek_upS iG_hI (fun _ _ => trivial) rfl (qk_1164 l), ek_upS iG_hI (fun _ _ => trivial) rfl (qk_1172 l), fun N ad => ⟨le_iv (by omega) (by omega), le_iv (by omega) (by omega), le_iv (by omega) (by omega), trivial⟩⟩
  by_cases h4 : 0 ≤ x1.toInt ∧ x1.toInt ≤ 1 ∧ 0 ≤ x2.toInt ∧ 0 ≤ x3.toInt ∧ x3.toInt ≤ 6
  · exact ⟨kq_1166, kq_1174, [.inl (0, 1), .inl (0, 2147483647), .inl (0, 6)], by decide +kernel, by decide +kernel, ek_upS iG_hI (fun _ _ => trivial) rfl (qk_1166 l), ek_upS iG_hI (fun _ _ => trivial) rfl (qk_1174 l), fun N ad => ⟨le_iv (by omega) (by omega), le_iv (by omega) (by omega), le_iv (by omega) (by omega), trivial⟩⟩
  by_cases h5 : 0 ≤ x1.toInt ∧ x1.toInt ≤ 1 ∧ 0 ≤ x2.toInt ∧ 7 ≤ x3.toInt
  · exact ⟨kq_1167, kq_1176, [.inl (0, 1), .inl (0, 2147483647), .inl (7, 2147483647)], by decide +kernel, by decide +kernel, ek_upS iG_hI (fun _ _ => trivial) rfl (qk_1167 l), ek_upS iG_hI (fun _ _ => trivial) rfl (qk_1176 l), fun N ad => ⟨le_iv (by omega) (by omega), le_iv (by omega) (by omega), le_iv (by omega) (by omega), trivial⟩⟩
  omega
theorem pe_forget (l : Launch) : ∃ (κa κb : ek) (box : List en_V), le_ck 0 99 0 κa box = true ∧ le_ck 84 102 0 κb box = true ∧ ek_ok l tQ iG κa ∧ ek_ok l tQ iG κb ∧ (∀ (N : Nat) (ad : Nat → Nat), en_vs N ad box []) := by
  exact ⟨kq_1178, kq_1180, [], by decide +kernel, by decide +kernel, ek_upS iG_hI (fun _ _ => trivial) rfl (qk_1178 l), ek_upS iG_hI (fun _ _ => trivial) rfl (qk_1180 l), fun N ad => trivial⟩
theorem pe_seed (l : Launch) (x1 : Int32) : ∃ (κa κb : ek) (box : List en_V), le_ck 0 103 1 κa box = true ∧ le_ck 84 107 1 κb box = true ∧ ek_ok l tQ iG κa ∧ ek_ok l tQ iG κb ∧ (∀ (N : Nat) (ad : Nat → Nat), en_vs N ad box [.int x1]) := by
  have r1 := fb_rng x1
  by_cases h0 : x1.toInt ≤ (-1)
  · exact ⟨kq_1181, kq_1185, [.inl ((-2147483648), (-1))], by decide +kernel, by decide +kernel, ek_upS iG_hI (fun _ _ => trivial) rfl (qk_1181 l), ek_upS iG_hI (fun _ _ => trivial) rfl (qk_1185 l), fun N ad => ⟨le_iv (by omega) (by omega), trivial⟩⟩
  by_cases h1 : 0 ≤ x1.toInt ∧ x1.toInt ≤ 65535
  · exact ⟨kq_1182, kq_1187, [.inl (0, 65535)], by decide +kernel, by decide +kernel, ek_upS iG_hI (fun _ _ => trivial) rfl (qk_1182 l), ek_upS iG_hI (fun _ _ => trivial) rfl (qk_1187 l), fun N ad => ⟨le_iv (by omega) (by omega), trivial⟩⟩
  by_cases h2 : 65536 ≤ x1.toInt
  · exact ⟨kq_1183, kq_1189, [.inl (65536, 2147483647)], by decide +kernel, by decide +kernel, ek_upS iG_hI (fun _ _ => trivial) rfl (qk_1183 l), ek_upS iG_hI (fun _ _ => trivial) rfl (qk_1189 l), fun N ad => ⟨le_iv (by omega) (by omega), trivial⟩⟩
  omega
theorem pe_keep (l : Launch) : ∃ (κa κb : ek) (box : List en_V), le_ck 0 108 0 κa box = true ∧ le_ck 84 111 0 κb box = true ∧ ek_ok l tQ iG κa ∧ ek_ok l tQ iG κb ∧ (∀ (N : Nat) (ad : Nat → Nat), en_vs N ad box []) := by
  exact ⟨kq_1193, kq_1194, [], by decide +kernel, by decide +kernel, ek_upS iG_hI (fun _ _ => trivial) rfl (qk_1193 l), ek_upS iG_hI (fun _ _ => trivial) rfl (qk_1194 l), fun N ad => trivial⟩
theorem pe_undo (l : Launch) : ∃ (κa κb : ek) (box : List en_V), le_ck 0 112 0 κa box = true ∧ le_ck 84 116 0 κb box = true ∧ ek_ok l tQ iG κa ∧ ek_ok l tQ iG κb ∧ (∀ (N : Nat) (ad : Nat → Nat), en_vs N ad box []) := by
  exact ⟨kq_1197, kq_1198, [], by decide +kernel, by decide +kernel, ek_upS iG_hI (fun _ _ => trivial) rfl (qk_1197 l), ek_upS iG_hI (fun _ _ => trivial) rfl (qk_1198 l), fun N ad => trivial⟩
theorem pe_check (l : Launch) (x1 : Int32) : ∃ (κa κb : ek) (box : List en_V), le_ck 0 117 1 κa box = true ∧ le_ck 84 120 1 κb box = true ∧ ek_ok l tQ iG κa ∧ ek_ok l tQ iG κb ∧ (∀ (N : Nat) (ad : Nat → Nat), en_vs N ad box [.int x1]) := by
  have r1 := fb_rng x1
  by_cases h0 : x1.toInt ≤ (-1)
  · exact ⟨kq_1199, kq_1204, [.inl ((-2147483648), (-1))], by decide +kernel, by decide +kernel, ek_upS iG_hI (fun _ _ => trivial) rfl (qk_1199 l), ek_upS iG_hI (fun _ _ => trivial) rfl (qk_1204 l), fun N ad => ⟨le_iv (by omega) (by omega), trivial⟩⟩
  by_cases h1 : 0 ≤ x1.toInt ∧ x1.toInt ≤ 0
  · exact ⟨kq_1200, kq_1206, [.inl (0, 0)], by decide +kernel, by decide +kernel, ek_upS iG_hI (fun _ _ => trivial) rfl (qk_1200 l), ek_upS iG_hI (fun _ _ => trivial) rfl (qk_1206 l), fun N ad => ⟨le_iv (by omega) (by omega), trivial⟩⟩
  by_cases h2 : 1 ≤ x1.toInt ∧ x1.toInt ≤ 64
  · exact ⟨kq_1201, kq_1209, [.inl (1, 64)], by decide +kernel, by decide +kernel, ek_upS iG_hI (fun _ _ => trivial) rfl (qk_1201 l), ek_upS iG_hI (fun _ _ => trivial) rfl (qk_1209 l), fun N ad => ⟨le_iv (by omega) (by omega), trivial⟩⟩
  by_cases h3 : 65 ≤ x1.toInt
  · exact ⟨kq_1202, kq_1218, [.inl (65, 2147483647)], by decide +kernel, by decide +kernel, ek_upS iG_hI (fun _ _ => trivial) rfl (qk_1202 l), ek_upS iG_hI (fun _ _ => trivial) rfl (qk_1218 l), fun N ad => ⟨le_iv (by omega) (by omega), trivial⟩⟩
  omega
theorem pe_count (l : Launch) (x1 : Int32) : ∃ (κa κb : ek) (box : List en_V), le_ck 0 121 1 κa box = true ∧ le_ck 84 124 1 κb box = true ∧ ek_ok l tQ iG κa ∧ ek_ok l tQ iG κb ∧ (∀ (N : Nat) (ad : Nat → Nat), en_vs N ad box [.int x1]) := by
  have r1 := fb_rng x1
  by_cases h0 : x1.toInt ≤ (-1)
  · exact ⟨kq_1219, kq_1236, [.inl ((-2147483648), (-1))], by decide +kernel, by decide +kernel, ek_upS iG_hI (fun _ _ => trivial) rfl (qk_1219 l), ek_upS iG_hI (fun _ _ => trivial) rfl (qk_1236 l), fun N ad => ⟨le_iv (by omega) (by omega), trivial⟩⟩
  by_cases h1 : 0 ≤ x1.toInt ∧ x1.toInt ≤ 0
  · exact ⟨kq_1220, kq_1237, [.inl (0, 0)], by decide +kernel, by decide +kernel, ek_upS iG_hI (fun _ _ => trivial) rfl (qk_1220 l), ek_upS iG_hI (fun _ _ => trivial) rfl (qk_1237 l), fun N ad => ⟨le_iv (by omega) (by omega), trivial⟩⟩
  by_cases h2 : 1 ≤ x1.toInt ∧ x1.toInt ≤ 1
  · exact ⟨kq_1221, kq_1238, [.inl (1, 1)], by decide +kernel, by decide +kernel, ek_upS iG_hI (fun _ _ => trivial) rfl (qk_1221 l), ek_upS iG_hI (fun _ _ => trivial) rfl (qk_1238 l), fun N ad => ⟨le_iv (by omega) (by omega), trivial⟩⟩
  by_cases h3 : 2 ≤ x1.toInt ∧ x1.toInt ≤ 2
  · exact ⟨kq_1223, kq_1240, [.inl (2, 2)], by decide +kernel, by decide +kernel, ek_upS iG_hI (fun _ _ => trivial) rfl (qk_1223 l), ek_upS iG_hI (fun _ _ => trivial) rfl (qk_1240 l), fun N ad => ⟨le_iv (by omega) (by omega), trivial⟩⟩
  by_cases h4 : 3 ≤ x1.toInt ∧ x1.toInt ≤ 3
  · exact ⟨kq_1225, kq_1242, [.inl (3, 3)], by decide +kernel, by decide +kernel, ek_upS iG_hI (fun _ _ => trivial) rfl (qk_1225 l), ek_upS iG_hI (fun _ _ => trivial) rfl (qk_1242 l), fun N ad => ⟨le_iv (by omega) (by omega), trivial⟩⟩
  by_cases h5 : 4 ≤ x1.toInt ∧ x1.toInt ≤ 4
  · exact ⟨kq_1226, kq_1243, [.inl (4, 4)], by decide +kernel, by decide +kernel, ek_upS iG_hI (fun _ _ => trivial) rfl (qk_1226 l), ek_upS iG_hI (fun _ _ => trivial) rfl (qk_1243 l), fun N ad => ⟨le_iv (by omega) (by omega), trivial⟩⟩
  by_cases h6 : 5 ≤ x1.toInt ∧ x1.toInt ≤ 5
  · exact ⟨kq_1227, kq_1244, [.inl (5, 5)], by decide +kernel, by decide +kernel, ek_upS iG_hI (fun _ _ => trivial) rfl (qk_1227 l), ek_upS iG_hI (fun _ _ => trivial) rfl (qk_1244 l), fun N ad => ⟨le_iv (by omega) (by omega), trivial⟩⟩
  by_cases h7 : 6 ≤ x1.toInt ∧ x1.toInt ≤ 6
  · exact ⟨kq_1228, kq_1245, [.inl (6, 6)], by decide +kernel, by decide +kernel, ek_upS iG_hI (fun _ _ => trivial) rfl (qk_1228 l), ek_upS iG_hI (fun _ _ => trivial) rfl (qk_1245 l), fun N ad => ⟨le_iv (by omega) (by omega), trivial⟩⟩
  by_cases h8 : 7 ≤ x1.toInt ∧ x1.toInt ≤ 7
  · exact ⟨kq_1229, kq_1246, [.inl (7, 7)], by decide +kernel, by decide +kernel, ek_upS iG_hI (fun _ _ => trivial) rfl (qk_1229 l), ek_upS iG_hI (fun _ _ => trivial) rfl (qk_1246 l), fun N ad => ⟨le_iv (by omega) (by omega), trivial⟩⟩
  by_cases h9 : 8 ≤ x1.toInt ∧ x1.toInt ≤ 8
  · exact ⟨kq_1230, kq_1247, [.inl (8, 8)], by decide +kernel, by decide +kernel, ek_upS iG_hI (fun _ _ => trivial) rfl (qk_1230 l), ek_upS iG_hI (fun _ _ => trivial) rfl (qk_1247 l), fun N ad => ⟨le_iv (by omega) (by omega), trivial⟩⟩
  by_cases h10 : 9 ≤ x1.toInt ∧ x1.toInt ≤ 9
  · exact ⟨kq_1231, kq_1248, [.inl (9, 9)], by decide +kernel, by decide +kernel, ek_upS iG_hI (fun _ _ => trivial) rfl (qk_1231 l), ek_upS iG_hI (fun _ _ => trivial) rfl (qk_1248 l), fun N ad => ⟨le_iv (by omega) (by omega), trivial⟩⟩
  by_cases h11 : 10 ≤ x1.toInt ∧ x1.toInt ≤ 10
  · exact ⟨kq_1232, kq_1249, [.inl (10, 10)], by decide +kernel, by decide +kernel, ek_upS iG_hI (fun _ _ => trivial) rfl (qk_1232 l), ek_upS iG_hI (fun _ _ => trivial) rfl (qk_1249 l), fun N ad => ⟨le_iv (by omega) (by omega), trivial⟩⟩
  by_cases h12 : 11 ≤ x1.toInt ∧ x1.toInt ≤ 11
  · exact ⟨kq_1234, kq_1251, [.inl (11, 11)], by decide +kernel, by decide +kernel, ek_upS iG_hI (fun _ _ => trivial) rfl (qk_1234 l), ek_upS iG_hI (fun _ _ => trivial) rfl (qk_1251 l), fun N ad => ⟨le_iv (by omega) (by omega), trivial⟩⟩
  by_cases h13 : 12 ≤ x1.toInt
  · exact ⟨kq_1235, kq_1252, [.inl (12, 2147483647)], by decide +kernel, by decide +kernel, ek_upS iG_hI (fun _ _ => trivial) rfl (qk_1235 l), ek_upS iG_hI (fun _ _ => trivial) rfl (qk_1252 l), fun N ad => ⟨le_iv (by omega) (by omega), trivial⟩⟩
  omega
