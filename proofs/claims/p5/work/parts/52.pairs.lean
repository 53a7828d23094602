theorem gq_0 (l : Launch) : ek_ok l tQ iG kq_0 := ek_upS iG_hI (fun _ _ => trivial) (by decide +kernel) (qk_0 l)
theorem gq_4 (l : Launch) : ek_ok l tQ iG kq_4 := ek_upS iG_hI (fun _ _ => trivial) (by decide +kernel) (qk_4 l)
theorem pl_register_0 (l : Launch) : (le_ck 0 13 2 kq_0 [.inl ((-2147483648), (-1)), .inl ((-2147483648), 2147483647)] = true ∧ le_ck 84 17 2 kq_4 [.inl ((-2147483648), (-1)), .inl ((-2147483648), 2147483647)] = true ∧ lj_fc kq_0 kq_4 = true) ∧ ek_ok l tQ iG kq_0 ∧ ek_ok l tQ iG kq_4 := ⟨⟨by decide +kernel, by decide +kernel, by decide +kernel⟩, gq_0 l, gq_4 l⟩
theorem gq_1 (l : Launch) : ek_ok l tQ iG kq_1 := ek_upS iG_hI (fun _ _ => trivial) (by decide +kernel) (qk_1 l)
theorem gq_6 (l : Launch) : ek_ok l tQ iG kq_6 := ek_upS iG_hI (fun _ _ => trivial) (by decide +kernel) (qk_6 l)
theorem pl_register_1 (l : Launch) : (le_ck 0 13 2 kq_1 [.inl (0, 7), .inl ((-2147483648), 2147483647)] = true ∧ le_ck 84 17 2 kq_6 [.inl (0, 7), .inl ((-2147483648), 2147483647)] = true ∧ lj_fc kq_1 kq_6 = true) ∧ ek_ok l tQ iG kq_1 ∧ ek_ok l tQ iG kq_6 := ⟨⟨by decide +kernel, by decide +kernel, by decide +kernel⟩, gq_1 l, gq_6 l⟩
theorem gq_2 (l : Launch) : ek_ok l tQ iG kq_2 := ek_upS iG_hI (fun _ _ => trivial) (by decide +kernel) (qk_2 l)
theorem gq_8 (l : Launch) : ek_ok l tQ iG kq_8 := ek_upS iG_hI (fun _ _ => trivial) (by decide +kernel) (qk_8 l)
theorem pl_register_2 (l : Launch) : (le_ck 0 13 2 kq_2 [.inl (8, 2147483647), .inl ((-2147483648), 2147483647)] = true ∧ le_ck 84 17 2 kq_8 [.inl (8, 2147483647), .inl ((-2147483648), 2147483647)] = true ∧ lj_fc kq_2 kq_8 = true) ∧ ek_ok l tQ iG kq_2 ∧ ek_ok l tQ iG kq_8 := ⟨⟨by decide +kernel, by decide +kernel, by decide +kernel⟩, gq_2 l, gq_8 l⟩
theorem pf_register (l : Launch) {tys : List (ClassId × FieldType)} {ad : Nat → Nat} {ws : va_W} (hw : ev_w tys tQ ad ws) (hI : iG ws) (hJ : jR ws) (x1 x2 : Int32) : ∃ (κa κb : ek) (box : List en_V), le_ck 0 13 2 κa box = true ∧ le_ck 84 17 2 κb box = true ∧ ek_ok l tQ iG κa ∧ ek_ok l tQ iG κb ∧ (∀ (N : Nat) (ad : Nat → Nat), en_vs N ad box [.int x1, .int x2]) ∧ lj tys ad false ws κa κb := by
  have r1 := fb_rng x1
  have r2 := fb_rng x2
  rcases (show (x1.toInt ≤ (-1)) ∨ (0 ≤ x1.toInt ∧ x1.toInt ≤ 7) ∨ (8 ≤ x1.toInt) from by omega) with g0 | g0 | g0
  ·
    exact ⟨kq_0, kq_4, [.inl ((-2147483648), (-1)), .inl ((-2147483648), 2147483647)], (pl_register_0 l).1.1, (pl_register_0 l).1.2.1, (pl_register_0 l).2.1, (pl_register_0 l).2.2, fun N ad => ⟨le_iv (by omega) (by omega), le_iv (by omega) (by omega), trivial⟩, lj_fr hw hJ (pl_register_0 l).1.2.2⟩
  ·
    exact ⟨kq_1, kq_6, [.inl (0, 7), .inl ((-2147483648), 2147483647)], (pl_register_1 l).1.1, (pl_register_1 l).1.2.1, (pl_register_1 l).2.1, (pl_register_1 l).2.2, fun N ad => ⟨le_iv (by omega) (by omega), le_iv (by omega) (by omega), trivial⟩, lj_fr hw hJ (pl_register_1 l).1.2.2⟩
  ·
    exact ⟨kq_2, kq_8, [.inl (8, 2147483647), .inl ((-2147483648), 2147483647)], (pl_register_2 l).1.1, (pl_register_2 l).1.2.1, (pl_register_2 l).2.1, (pl_register_2 l).2.2, fun N ad => ⟨le_iv (by omega) (by omega), le_iv (by omega) (by omega), trivial⟩, lj_fr hw hJ (pl_register_2 l).1.2.2⟩
theorem pe_register (l : Launch) {tys : List (ClassId × FieldType)} {ad : Nat → Nat} {ws : va_W} (hw : ev_w tys tQ ad ws) (hI : iG ws) (hJ : jR ws) (x1 x2 : Int32) : ∃ (κa κb : ek) (box : List en_V), le_ck 0 13 2 κa box = true ∧ le_ck 84 17 2 κb box = true ∧ (∀ (N : Nat) (ad : Nat → Nat), en_vs N ad box [.int x1, .int x2]) ∧ lq l tys ad false ws κa κb [.int x1, .int x2] := by
  obtain ⟨κa, κb, box, h1, h2, h3, h4, h5, h6⟩ := pf_register l hw hI hJ x1 x2
  exact ⟨κa, κb, box, h1, h2, h5, lq_of h1 h2 h3 h4 (h5 _ _) hw hI h6⟩
theorem gq_9 (l : Launch) : ek_ok l tQ iG kq_9 := ek_upS iG_hI (fun _ _ => trivial) (by decide +kernel) (qk_9 l)
theorem gq_15 (l : Launch) : ek_ok l tQ iG kq_15 := ek_upS iG_hI (fun _ _ => trivial) (by decide +kernel) (qk_15 l)
theorem pl_poke_0 (l : Launch) : (le_ck 0 18 2 kq_9 [.inl ((-2147483648), (-1)), .inl ((-2147483648), 2147483647)] = true ∧ le_ck 84 21 2 kq_15 [.inl ((-2147483648), (-1)), .inl ((-2147483648), 2147483647)] = true ∧ lj_fc kq_9 kq_15 = true) ∧ ek_ok l tQ iG kq_9 ∧ ek_ok l tQ iG kq_15 := ⟨⟨by decide +kernel, by decide +kernel, by decide +kernel⟩, gq_9 l, gq_15 l⟩
theorem gq_10 (l : Launch) : ek_ok l tQ iG kq_10 := ek_upS iG_hI (fun _ _ => trivial) (by decide +kernel) (qk_10 l)
theorem gq_17 (l : Launch) : ek_ok l tQ iG kq_17 := ek_upS iG_hI (fun _ _ => trivial) (by decide +kernel) (qk_17 l)
theorem pl_poke_1 (l : Launch) : (le_ck 0 18 2 kq_10 [.inl (64, 2147483647), .inl ((-2147483648), 2147483647)] = true ∧ le_ck 84 21 2 kq_17 [.inl (64, 2147483647), .inl ((-2147483648), 2147483647)] = true ∧ lj_fc kq_10 kq_17 = true) ∧ ek_ok l tQ iG kq_10 ∧ ek_ok l tQ iG kq_17 := ⟨⟨by decide +kernel, by decide +kernel, by decide +kernel⟩, gq_10 l, gq_17 l⟩
theorem gq_11 (l : Launch) : ek_ok l tQ iG kq_11 := ek_upS iG_hI (fun _ _ => trivial) (by decide +kernel) (qk_11 l)
theorem gq_20 (l : Launch) : ek_ok l tQ iG kq_20 := ek_upS iG_hI (fun _ _ => trivial) (by decide +kernel) (qk_20 l)
theorem pl_poke_2 (l : Launch) : (le_ck 0 18 2 kq_11 [.inl (0, 63), .inl ((-2147483648), (-1))] = true ∧ le_ck 84 21 2 kq_20 [.inl (0, 63), .inl ((-2147483648), (-1))] = true ∧ lj_fc kq_11 kq_20 = true) ∧ ek_ok l tQ iG kq_11 ∧ ek_ok l tQ iG kq_20 := ⟨⟨by decide +kernel, by decide +kernel, by decide +kernel⟩, gq_11 l, gq_20 l⟩
theorem gq_12 (l : Launch) : ek_ok l tQ iG kq_12 := ek_upS iG_hI (fun _ _ => trivial) (by decide +kernel) (qk_12 l)
theorem gq_22 (l : Launch) : ek_ok l tQ iG kq_22 := ek_upS iG_hI (fun _ _ => trivial) (by decide +kernel) (qk_22 l)
theorem pl_poke_3 (l : Launch) : (le_ck 0 18 2 kq_12 [.inl (0, 63), .inl (0, 255)] = true ∧ le_ck 84 21 2 kq_22 [.inl (0, 63), .inl (0, 255)] = true ∧ lj_fc kq_12 kq_22 = true) ∧ ek_ok l tQ iG kq_12 ∧ ek_ok l tQ iG kq_22 := ⟨⟨by decide +kernel, by decide +kernel, by decide +kernel⟩, gq_12 l, gq_22 l⟩
theorem gq_13 (l : Launch) : ek_ok l tQ iG kq_13 := ek_upS iG_hI (fun _ _ => trivial) (by decide +kernel) (qk_13 l)
theorem gq_24 (l : Launch) : ek_ok l tQ iG kq_24 := ek_upS iG_hI (fun _ _ => trivial) (by decide +kernel) (qk_24 l)
theorem pl_poke_4 (l : Launch) : (le_ck 0 18 2 kq_13 [.inl (0, 63), .inl (256, 2147483647)] = true ∧ le_ck 84 21 2 kq_24 [.inl (0, 63), .inl (256, 2147483647)] = true ∧ lj_fc kq_13 kq_24 = true) ∧ ek_ok l tQ iG kq_13 ∧ ek_ok l tQ iG kq_24 := ⟨⟨by decide +kernel, by decide +kernel, by decide +kernel⟩, gq_13 l, gq_24 l⟩
theorem pf_poke (l : Launch) {tys : List (ClassId × FieldType)} {ad : Nat → Nat} {ws : va_W} (hw : ev_w tys tQ ad ws) (hI : iG ws) (hJ : jR ws) (x1 x2 : Int32) : ∃ (κa κb : ek) (box : List en_V), le_ck 0 18 2 κa box = true ∧ le_ck 84 21 2 κb box = true ∧ ek_ok l tQ iG κa ∧ ek_ok l tQ iG κb ∧ (∀ (N : Nat) (ad : Nat → Nat), en_vs N ad box [.int x1, .int x2]) ∧ lj tys ad false ws κa κb := by
  have r1 := fb_rng x1
  have r2 := fb_rng x2
  rcases (show (x1.toInt ≤ (-1)) ∨ (64 ≤ x1.toInt) ∨ (0 ≤ x1.toInt ∧ x1.toInt ≤ 63 ∧ x2.toInt ≤ (-1)) ∨ (0 ≤ x1.toInt ∧ x1.toInt ≤ 63 ∧ 0 ≤ x2.toInt ∧ x2.toInt ≤ 255) ∨ (0 ≤ x1.toInt ∧ x1.toInt ≤ 63 ∧ 256 ≤ x2.toInt) from by omega) with g | g | g | g | g
  · exact ⟨kq_9, kq_15, [.inl ((-2147483648), (-1)), .inl ((-2147483648), 2147483647)], (pl_poke_0 l).1.1, (pl_poke_0 l).1.2.1, (pl_poke_0 l).2.1, (pl_poke_0 l).2.2, fun N ad => ⟨le_iv (by omega) (by omega), le_iv (by omega) (by omega), trivial⟩, lj_fr hw hJ (pl_poke_0 l).1.2.2⟩
  · exact ⟨kq_10, kq_17, [.inl (64, 2147483647), .inl ((-2147483648), 2147483647)], (pl_poke_1 l).1.1, (pl_poke_1 l).1.2.1, (pl_poke_1 l).2.1, (pl_poke_1 l).2.2, fun N ad => ⟨le_iv (by omega) (by omega), le_iv (by omega) (by omega), trivial⟩, lj_fr hw hJ (pl_poke_1 l).1.2.2⟩
  · exact ⟨kq_11, kq_20, [.inl (0, 63), .inl ((-2147483648), (-1))], (pl_poke_2 l).1.1, (pl_poke_2 l).1.2.1, (pl_poke_2 l).2.1, (pl_poke_2 l).2.2, fun N ad => ⟨le_iv (by omega) (by omega), le_iv (by omega) (by omega), trivial⟩, lj_fr hw hJ (pl_poke_2 l).1.2.2⟩
  · exact ⟨kq_12, kq_22, [.inl (0, 63), .inl (0, 255)], (pl_poke_3 l).1.1, (pl_poke_3 l).1.2.1, (pl_poke_3 l).2.1, (pl_poke_3 l).2.2, fun N ad => ⟨le_iv (by omega) (by omega), le_iv (by omega) (by omega), trivial⟩, lj_fr hw hJ (pl_poke_3 l).1.2.2⟩
  · exact ⟨kq_13, kq_24, [.inl (0, 63), .inl (256, 2147483647)], (pl_poke_4 l).1.1, (pl_poke_4 l).1.2.1, (pl_poke_4 l).2.1, (pl_poke_4 l).2.2, fun N ad => ⟨le_iv (by omega) (by omega), le_iv (by omega) (by omega), trivial⟩, lj_fr hw hJ (pl_poke_4 l).1.2.2⟩
theorem pe_poke (l : Launch) {tys : List (ClassId × FieldType)} {ad : Nat → Nat} {ws : va_W} (hw : ev_w tys tQ ad ws) (hI : iG ws) (hJ : jR ws) (x1 x2 : Int32) : ∃ (κa κb : ek) (box : List en_V), le_ck 0 18 2 κa box = true ∧ le_ck 84 21 2 κb box = true ∧ (∀ (N : Nat) (ad : Nat → Nat), en_vs N ad box [.int x1, .int x2]) ∧ lq l tys ad false ws κa κb [.int x1, .int x2] := by
  obtain ⟨κa, κb, box, h1, h2, h3, h4, h5, h6⟩ := pf_poke l hw hI hJ x1 x2
  exact ⟨κa, κb, box, h1, h2, h5, lq_of h1 h2 h3 h4 (h5 _ _) hw hI h6⟩
theorem gq_26 (l : Launch) : ek_ok l tQ iG kq_26 := ek_upS iG_hI (fun _ _ => trivial) (by decide +kernel) (qk_26 l)
theorem gq_32 (l : Launch) : ek_ok l tQ iG kq_32 := ek_upS iG_hI (fun _ _ => trivial) (by decide +kernel) (qk_32 l)
theorem pl_feed_0 (l : Launch) : (le_ck 0 22 5 kq_26 [.inl ((-2147483648), 2147483647), .inl ((-2147483648), 2147483647), .inl ((-2147483648), 2147483647), .inl ((-2147483648), 2147483647), .inl ((-2147483648), 2147483647)] = true ∧ le_ck 84 26 5 kq_32 [.inl ((-2147483648), 2147483647), .inl ((-2147483648), 2147483647), .inl ((-2147483648), 2147483647), .inl ((-2147483648), 2147483647), .inl ((-2147483648), 2147483647)] = true ∧ jx_ck kq_26 kq_32 = true ∧ le_ck 0 22 5 (kx kq_26 1) [.inl ((-2147483648), 2147483647), .inl ((-2147483648), 2147483647), .inl ((-2147483648), 2147483647), .inl ((-2147483648), 2147483647), .inl ((-2147483648), 2147483647)] = true ∧ le_ck 84 26 5 (kx kq_32 1) [.inl ((-2147483648), 2147483647), .inl ((-2147483648), 2147483647), .inl ((-2147483648), 2147483647), .inl ((-2147483648), 2147483647), .inl ((-2147483648), 2147483647)] = true) ∧ ek_ok l tQ iG kq_26 ∧ ek_ok l tQ iG kq_32 := ⟨⟨by decide +kernel, by decide +kernel, by decide +kernel, by decide +kernel, by decide +kernel⟩, gq_26 l, gq_32 l⟩
theorem pe_feed (l : Launch) {tys : List (ClassId × FieldType)} {ad : Nat → Nat} {ws : va_W} (hw : ev_w tys tQ ad ws) (hI : iG ws) (hJ : jR ws) (x1 x2 x3 x4 x5 : Int32) : ∃ (κa κb : ek) (box : List en_V), le_ck 0 22 5 κa box = true ∧ le_ck 84 26 5 κb box = true ∧ (∀ (N : Nat) (ad : Nat → Nat), en_vs N ad box [.int x1, .int x2, .int x3, .int x4, .int x5]) ∧ lq l tys ad false ws κa κb [.int x1, .int x2, .int x3, .int x4, .int x5] := by
  have r1 := fb_rng x1
  have r2 := fb_rng x2
  have r3 := fb_rng x3
  have r4 := fb_rng x4
  have r5 := fb_rng x5
  exact ⟨kx kq_26 1, kx kq_32 1, [.inl ((-2147483648), 2147483647), .inl ((-2147483648), 2147483647), .inl ((-2147483648), 2147483647), .inl ((-2147483648), 2147483647), .inl ((-2147483648), 2147483647)], (pl_feed_0 l).1.2.2.2.1, (pl_feed_0 l).1.2.2.2.2, fun N ad => ⟨le_iv (by omega) (by omega), le_iv (by omega) (by omega), le_iv (by omega) (by omega), le_iv (by omega) (by omega), le_iv (by omega) (by omega), trivial⟩, lq_ls (F := f_X_feed_0 x1.toInt x2.toInt x3.toInt x4.toInt x5.toInt) (G := f_M_feed_84 x1.toInt x2.toInt x3.toInt x4.toInt x5.toInt) (fun σ τ h => by obtain ⟨v, σ1, τ1, q1, q2, q3⟩ := rel_feed x1.toInt x2.toInt x3.toInt x4.toInt x5.toInt h; exact ⟨v, v, σ1, τ1, q1, q2, q3, fun _ => rfl⟩) (fun h => ok_X_feed_0 h) (fun h => ok_M_feed_84 h) (pl_feed_0 l).1.1 (pl_feed_0 l).1.2.1 (pl_feed_0 l).2.1 (pl_feed_0 l).2.2 (⟨le_iv (by omega) (by omega), le_iv (by omega) (by omega), le_iv (by omega) (by omega), le_iv (by omega) (by omega), le_iv (by omega) (by omega), trivial⟩) ⟨pe_r tq0, pe_i rfl, pe_i rfl, pe_i rfl, pe_i rfl, pe_i rfl, trivial⟩ ⟨pe_r tq84, pe_i rfl, pe_i rfl, pe_i rfl, pe_i rfl, pe_i rfl, trivial⟩ hw hI hJ (pl_feed_0 l).1.2.2.1⟩
theorem gq_33 (l : Launch) : ek_ok l tQ iG kq_33 := ek_upS iG_hI (fun _ _ => trivial) (by decide +kernel) (qk_33 l)
theorem pl_law_0 (l : Launch) : (le_ck 0 27 1 kq_33 [.inl ((-2147483648), 0)] = true ∧ le_ck 84 31 1 kLwn [.inl ((-2147483648), 0)] = true ∧ jx_ck kq_33 kLwn = true ∧ le_ck 0 27 1 (kx kq_33 88) [.inl ((-2147483648), 0)] = true ∧ le_ck 84 31 1 (kx kLwn 8) [.inl ((-2147483648), 0)] = true) ∧ ek_ok l tQ iG kq_33 ∧ ek_ok l tQ iG kLwn := ⟨⟨by decide +kernel, by decide +kernel, by decide +kernel, by decide +kernel, by decide +kernel⟩, gq_33 l, lw_n l⟩
theorem pl_law_1 (l : Launch) : (le_ck 0 27 1 kq_2041 [.inl (1, 240)] = true ∧ le_ck 84 31 1 kLw [.inl (1, 240)] = true ∧ jx_ck kq_2041 kLw = true ∧ le_ck 0 27 1 (kx kq_2041 88) [.inl (1, 240)] = true ∧ le_ck 84 31 1 (kx kLw 8) [.inl (1, 240)] = true) ∧ ek_ok l tQ iG kq_2041 ∧ ek_ok l tQ iG kLw := ⟨⟨by decide +kernel, by decide +kernel, by decide +kernel, by decide +kernel, by decide +kernel⟩, qk_2041 l, lw l⟩
theorem gq_115 (l : Launch) : ek_ok l tQ iG kq_115 := ek_upS iG_hI (fun _ _ => trivial) (by decide +kernel) (qk_115 l)
theorem pl_law_2 (l : Launch) : (le_ck 0 27 1 kq_115 [.inl (241, 2147483647)] = true ∧ le_ck 84 31 1 kLwp [.inl (241, 2147483647)] = true ∧ jx_ck kq_115 kLwp = true ∧ le_ck 0 27 1 (kx kq_115 88) [.inl (241, 2147483647)] = true ∧ le_ck 84 31 1 (kx kLwp 8) [.inl (241, 2147483647)] = true) ∧ ek_ok l tQ iG kq_115 ∧ ek_ok l tQ iG kLwp := ⟨⟨by decide +kernel, by decide +kernel, by decide +kernel, by decide +kernel, by decide +kernel⟩, gq_115 l, lw_p l⟩
theorem pe_law (l : Launch) {tys : List (ClassId × FieldType)} {ad : Nat → Nat} {ws : va_W} (hw : ev_w tys tQ ad ws) (hI : iG ws) (hJ : jR ws) (x1 : Int32) : ∃ (κa κb : ek) (box : List en_V), le_ck 0 27 1 κa box = true ∧ le_ck 84 31 1 κb box = true ∧ (∀ (N : Nat) (ad : Nat → Nat), en_vs N ad box [.int x1]) ∧ lq l tys ad true ws κa κb [.int x1] := by
  have r1 := fb_rng x1
  rcases (show (x1.toInt ≤ 0) ∨ (1 ≤ x1.toInt ∧ x1.toInt ≤ 240) ∨ (241 ≤ x1.toInt) from by omega) with g0 | g0 | g0
  ·
    exact ⟨kx kq_33 88, kx kLwn 8, [.inl ((-2147483648), 0)], (pl_law_0 l).1.2.2.2.1, (pl_law_0 l).1.2.2.2.2, fun N ad => ⟨le_iv (by omega) (by omega), trivial⟩, lq_ls (F := f_X_law_0 x1.toInt) (G := f_M_law_84 x1.toInt) (fun σ τ h => by obtain ⟨v, σ1, τ1, q1, q2, q3⟩ := rel_law x1.toInt h; exact ⟨v, v, σ1, τ1, q1, q2, q3, fun _ => rfl⟩) (fun h => ok_X_law_0 h) (fun h => ok_M_law_84 h) (pl_law_0 l).1.1 (pl_law_0 l).1.2.1 (pl_law_0 l).2.1 (pl_law_0 l).2.2 (⟨le_iv (by omega) (by omega), trivial⟩) ⟨pe_r tq0, pe_i rfl, trivial⟩ ⟨pe_r tq84, pe_i rfl, trivial⟩ hw hI hJ (pl_law_0 l).1.2.2.1⟩
  ·
    exact ⟨kx kq_2041 88, kx kLw 8, [.inl (1, 240)], (pl_law_1 l).1.2.2.2.1, (pl_law_1 l).1.2.2.2.2, fun N ad => ⟨le_iv (by omega) (by omega), trivial⟩, lq_ls (F := f_X_law_0 x1.toInt) (G := f_M_law_84 x1.toInt) (fun σ τ h => by obtain ⟨v, σ1, τ1, q1, q2, q3⟩ := rel_law x1.toInt h; exact ⟨v, v, σ1, τ1, q1, q2, q3, fun _ => rfl⟩) (fun h => ok_X_law_0 h) (fun h => ok_M_law_84 h) (pl_law_1 l).1.1 (pl_law_1 l).1.2.1 (pl_law_1 l).2.1 (pl_law_1 l).2.2 (⟨le_iv (by omega) (by omega), trivial⟩) ⟨pe_r tq0, pe_i rfl, trivial⟩ ⟨pe_r tq84, pe_i rfl, trivial⟩ hw hI hJ (pl_law_1 l).1.2.2.1⟩
  ·
    exact ⟨kx kq_115 88, kx kLwp 8, [.inl (241, 2147483647)], (pl_law_2 l).1.2.2.2.1, (pl_law_2 l).1.2.2.2.2, fun N ad => ⟨le_iv (by omega) (by omega), trivial⟩, lq_ls (F := f_X_law_0 x1.toInt) (G := f_M_law_84 x1.toInt) (fun σ τ h => by obtain ⟨v, σ1, τ1, q1, q2, q3⟩ := rel_law x1.toInt h; exact ⟨v, v, σ1, τ1, q1, q2, q3, fun _ => rfl⟩) (fun h => ok_X_law_0 h) (fun h => ok_M_law_84 h) (pl_law_2 l).1.1 (pl_law_2 l).1.2.1 (pl_law_2 l).2.1 (pl_law_2 l).2.2 (⟨le_iv (by omega) (by omega), trivial⟩) ⟨pe_r tq0, pe_i rfl, trivial⟩ ⟨pe_r tq84, pe_i rfl, trivial⟩ hw hI hJ (pl_law_2 l).1.2.2.1⟩
theorem gq_116 (l : Launch) : ek_ok l tQ iG kq_116 := ek_upS iG_hI (fun _ _ => trivial) (by decide +kernel) (qk_116 l)
theorem gq_181 (l : Launch) : ek_ok l tQ iG kq_181 := ek_upS iG_hI (fun _ _ => trivial) (by decide +kernel) (qk_181 l)
theorem pl_program_0 (l : Launch) : (le_ck 0 32 1 kq_116 [.inl ((-2147483648), 0)] = true ∧ le_ck 84 35 1 kq_181 [.inl ((-2147483648), 0)] = true ∧ jx_ck kq_116 kq_181 = true ∧ le_ck 0 32 1 (kx kq_116 7) [.inl ((-2147483648), 0)] = true ∧ le_ck 84 35 1 (kx kq_181 5) [.inl ((-2147483648), 0)] = true) ∧ ek_ok l tQ iG kq_116 ∧ ek_ok l tQ iG kq_181 := ⟨⟨by decide +kernel, by decide +kernel, by decide +kernel, by decide +kernel, by decide +kernel⟩, gq_116 l, gq_181 l⟩
theorem gq_144 (l : Launch) : ek_ok l tQ iG kq_144 := ek_upS iG_hI (fun _ _ => trivial) (by decide +kernel) (qk_144 l)
theorem pl_program_1 (l : Launch) : (le_ck 0 32 1 kq_144 [.inl (1, 240)] = true ∧ le_ck 84 35 1 kq_2092 [.inl (1, 240)] = true ∧ jx_ck kq_144 kq_2092 = true ∧ le_ck 0 32 1 (kx kq_144 7) [.inl (1, 240)] = true ∧ le_ck 84 35 1 (kx kq_2092 5) [.inl (1, 240)] = true) ∧ ek_ok l tQ iG kq_144 ∧ ek_ok l tQ iG kq_2092 := ⟨⟨by decide +kernel, by decide +kernel, by decide +kernel, by decide +kernel, by decide +kernel⟩, gq_144 l, qk_2092 l⟩
theorem gq_179 (l : Launch) : ek_ok l tQ iG kq_179 := ek_upS iG_hI (fun _ _ => trivial) (by decide +kernel) (qk_179 l)
theorem gq_240 (l : Launch) : ek_ok l tQ iG kq_240 := ek_upS iG_hI (fun _ _ => trivial) (by decide +kernel) (qk_240 l)
theorem pl_program_2 (l : Launch) : (le_ck 0 32 1 kq_179 [.inl (241, 2147483647)] = true ∧ le_ck 84 35 1 kq_240 [.inl (241, 2147483647)] = true ∧ jx_ck kq_179 kq_240 = true ∧ le_ck 0 32 1 (kx kq_179 7) [.inl (241, 2147483647)] = true ∧ le_ck 84 35 1 (kx kq_240 5) [.inl (241, 2147483647)] = true) ∧ ek_ok l tQ iG kq_179 ∧ ek_ok l tQ iG kq_240 := ⟨⟨by decide +kernel, by decide +kernel, by decide +kernel, by decide +kernel, by decide +kernel⟩, gq_179 l, gq_240 l⟩
theorem pe_program (l : Launch) {tys : List (ClassId × FieldType)} {ad : Nat → Nat} {ws : va_W} (hw : ev_w tys tQ ad ws) (hI : iG ws) (hJ : jR ws) (x1 : Int32) : ∃ (κa κb : ek) (box : List en_V), le_ck 0 32 1 κa box = true ∧ le_ck 84 35 1 κb box = true ∧ (∀ (N : Nat) (ad : Nat → Nat), en_vs N ad box [.int x1]) ∧ lq l tys ad false ws κa κb [.int x1] := by
  have r1 := fb_rng x1
  rcases (show (x1.toInt ≤ 0) ∨ (1 ≤ x1.toInt ∧ x1.toInt ≤ 240) ∨ (241 ≤ x1.toInt) from by omega) with g0 | g0 | g0
  ·
    exact ⟨kx kq_116 7, kx kq_181 5, [.inl ((-2147483648), 0)], (pl_program_0 l).1.2.2.2.1, (pl_program_0 l).1.2.2.2.2, fun N ad => ⟨le_iv (by omega) (by omega), trivial⟩, lq_ls (F := f_X_program_0 x1.toInt) (G := f_M_program_84 x1.toInt) (fun σ τ h => by obtain ⟨v, σ1, τ1, q1, q2, q3⟩ := rel_program x1.toInt h; exact ⟨v, v, σ1, τ1, q1, q2, q3, fun _ => rfl⟩) (fun h => ok_X_program_0 h) (fun h => ok_M_program_84 h) (pl_program_0 l).1.1 (pl_program_0 l).1.2.1 (pl_program_0 l).2.1 (pl_program_0 l).2.2 (⟨le_iv (by omega) (by omega), trivial⟩) ⟨pe_r tq0, pe_i rfl, trivial⟩ ⟨pe_r tq84, pe_i rfl, trivial⟩ hw hI hJ (pl_program_0 l).1.2.2.1⟩
  ·
    exact ⟨kx kq_144 7, kx kq_2092 5, [.inl (1, 240)], (pl_program_1 l).1.2.2.2.1, (pl_program_1 l).1.2.2.2.2, fun N ad => ⟨le_iv (by omega) (by omega), trivial⟩, lq_ls (F := f_X_program_0 x1.toInt) (G := f_M_program_84 x1.toInt) (fun σ τ h => by obtain ⟨v, σ1, τ1, q1, q2, q3⟩ := rel_program x1.toInt h; exact ⟨v, v, σ1, τ1, q1, q2, q3, fun _ => rfl⟩) (fun h => ok_X_program_0 h) (fun h => ok_M_program_84 h) (pl_program_1 l).1.1 (pl_program_1 l).1.2.1 (pl_program_1 l).2.1 (pl_program_1 l).2.2 (⟨le_iv (by omega) (by omega), trivial⟩) ⟨pe_r tq0, pe_i rfl, trivial⟩ ⟨pe_r tq84, pe_i rfl, trivial⟩ hw hI hJ (pl_program_1 l).1.2.2.1⟩
  ·
    exact ⟨kx kq_179 7, kx kq_240 5, [.inl (241, 2147483647)], (pl_program_2 l).1.2.2.2.1, (pl_program_2 l).1.2.2.2.2, fun N ad => ⟨le_iv (by omega) (by omega), trivial⟩, lq_ls (F := f_X_program_0 x1.toInt) (G := f_M_program_84 x1.toInt) (fun σ τ h => by obtain ⟨v, σ1, τ1, q1, q2, q3⟩ := rel_program x1.toInt h; exact ⟨v, v, σ1, τ1, q1, q2, q3, fun _ => rfl⟩) (fun h => ok_X_program_0 h) (fun h => ok_M_program_84 h) (pl_program_2 l).1.1 (pl_program_2 l).1.2.1 (pl_program_2 l).2.1 (pl_program_2 l).2.2 (⟨le_iv (by omega) (by omega), trivial⟩) ⟨pe_r tq0, pe_i rfl, trivial⟩ ⟨pe_r tq84, pe_i rfl, trivial⟩ hw hI hJ (pl_program_2 l).1.2.2.1⟩
theorem gq_242 (l : Launch) : ek_ok l tQ iG kq_242 := ek_upS iG_hI (fun _ _ => trivial) (by decide +kernel) (qk_242 l)
theorem gq_424 (l : Launch) : ek_ok l tQ iG kq_424 := ek_upS iG_hI (fun _ _ => trivial) (by decide +kernel) (qk_424 l)
theorem pl_run_0 (l : Launch) : (le_ck 0 36 1 kq_242 [.inl ((-2147483648), 0)] = true ∧ le_ck 84 39 1 kq_424 [.inl ((-2147483648), 0)] = true ∧ lj_fc kq_242 kq_424 = true) ∧ ek_ok l tQ iG kq_242 ∧ ek_ok l tQ iG kq_424 := ⟨⟨by decide +kernel, by decide +kernel, by decide +kernel⟩, gq_242 l, gq_424 l⟩
theorem pl_run_1 (l : Launch) : (le_ck 0 36 1 kq_2100 [.inl (1, 4)] = true ∧ le_ck 84 39 1 kq_2111 [.inl (1, 4)] = true ∧ lj_fc kq_2100 kq_2111 = true) ∧ ek_ok l tQ iG kq_2100 ∧ ek_ok l tQ iG kq_2111 := ⟨⟨by decide +kernel, by decide +kernel, by decide +kernel⟩, qk_2100 l, qk_2111 l⟩
theorem gq_421 (l : Launch) : ek_ok l tQ iG kq_421 := ek_upS iG_hI (fun _ _ => trivial) (by decide +kernel) (qk_421 l)
theorem gq_875 (l : Launch) : ek_ok l tQ iG kq_875 := ek_upS iG_hI (fun _ _ => trivial) (by decide +kernel) (qk_875 l)
theorem pl_run_2 (l : Launch) : (le_ck 0 36 1 kq_421 [.inl (5, 2147483647)] = true ∧ le_ck 84 39 1 kq_875 [.inl (5, 2147483647)] = true ∧ lj_fc kq_421 kq_875 = true) ∧ ek_ok l tQ iG kq_421 ∧ ek_ok l tQ iG kq_875 := ⟨⟨by decide +kernel, by decide +kernel, by decide +kernel⟩, gq_421 l, gq_875 l⟩
theorem pf_run (l : Launch) {tys : List (ClassId × FieldType)} {ad : Nat → Nat} {ws : va_W} (hw : ev_w tys tQ ad ws) (hI : iG ws) (hJ : jR ws) (x1 : Int32) : ∃ (κa κb : ek) (box : List en_V), le_ck 0 36 1 κa box = true ∧ le_ck 84 39 1 κb box = true ∧ ek_ok l tQ iG κa ∧ ek_ok l tQ iG κb ∧ (∀ (N : Nat) (ad : Nat → Nat), en_vs N ad box [.int x1]) ∧ lj tys ad false ws κa κb := by
  have r1 := fb_rng x1
  rcases (show (x1.toInt ≤ 0) ∨ (1 ≤ x1.toInt ∧ x1.toInt ≤ 4) ∨ (5 ≤ x1.toInt) from by omega) with g0 | g0 | g0
  ·
    exact ⟨kq_242, kq_424, [.inl ((-2147483648), 0)], (pl_run_0 l).1.1, (pl_run_0 l).1.2.1, (pl_run_0 l).2.1, (pl_run_0 l).2.2, fun N ad => ⟨le_iv (by omega) (by omega), trivial⟩, lj_fr hw hJ (pl_run_0 l).1.2.2⟩
  ·
    exact ⟨kq_2100, kq_2111, [.inl (1, 4)], (pl_run_1 l).1.1, (pl_run_1 l).1.2.1, (pl_run_1 l).2.1, (pl_run_1 l).2.2, fun N ad => ⟨le_iv (by omega) (by omega), trivial⟩, lj_fr hw hJ (pl_run_1 l).1.2.2⟩
  ·
    exact ⟨kq_421, kq_875, [.inl (5, 2147483647)], (pl_run_2 l).1.1, (pl_run_2 l).1.2.1, (pl_run_2 l).2.1, (pl_run_2 l).2.2, fun N ad => ⟨le_iv (by omega) (by omega), trivial⟩, lj_fr hw hJ (pl_run_2 l).1.2.2⟩
theorem pe_run (l : Launch) {tys : List (ClassId × FieldType)} {ad : Nat → Nat} {ws : va_W} (hw : ev_w tys tQ ad ws) (hI : iG ws) (hJ : jR ws) (x1 : Int32) : ∃ (κa κb : ek) (box : List en_V), le_ck 0 36 1 κa box = true ∧ le_ck 84 39 1 κb box = true ∧ (∀ (N : Nat) (ad : Nat → Nat), en_vs N ad box [.int x1]) ∧ lq l tys ad false ws κa κb [.int x1] := by
  obtain ⟨κa, κb, box, h1, h2, h3, h4, h5, h6⟩ := pf_run l hw hI hJ x1
  exact ⟨κa, κb, box, h1, h2, h5, lq_of h1 h2 h3 h4 (h5 _ _) hw hI h6⟩
theorem gq_876 (l : Launch) : ek_ok l tQ iG kq_876 := ek_upS iG_hI (fun _ _ => trivial) (by decide +kernel) (qk_876 l)
theorem gq_926 (l : Launch) : ek_ok l tQ iG kq_926 := ek_upS iG_hI (fun _ _ => trivial) (by decide +kernel) (qk_926 l)
theorem pl_tried_0 (l : Launch) : (le_ck 0 40 2 kq_876 [.inl ((-2147483648), 0), .inl ((-2147483648), (-2147483639))] = true ∧ le_ck 84 44 2 kq_926 [.inl ((-2147483648), 0), .inl ((-2147483648), (-2147483639))] = true ∧ lj_fc kq_876 kq_926 = true) ∧ ek_ok l tQ iG kq_876 ∧ ek_ok l tQ iG kq_926 := ⟨⟨by decide +kernel, by decide +kernel, by decide +kernel⟩, gq_876 l, gq_926 l⟩
theorem gq_877 (l : Launch) : ek_ok l tQ iG kq_877 := ek_upS iG_hI (fun _ _ => trivial) (by decide +kernel) (qk_877 l)
theorem gq_930 (l : Launch) : ek_ok l tQ iG kq_930 := ek_upS iG_hI (fun _ _ => trivial) (by decide +kernel) (qk_930 l)
theorem pl_tried_1 (l : Launch) : (le_ck 0 40 2 kq_877 [.inl ((-2147483648), 0), .inl ((-2147483638), (-1))] = true ∧ le_ck 84 44 2 kq_930 [.inl ((-2147483648), 0), .inl ((-2147483638), (-1))] = true ∧ lj_fc kq_877 kq_930 = true) ∧ ek_ok l tQ iG kq_877 ∧ ek_ok l tQ iG kq_930 := ⟨⟨by decide +kernel, by decide +kernel, by decide +kernel⟩, gq_877 l, gq_930 l⟩
theorem gq_878 (l : Launch) : ek_ok l tQ iG kq_878 := ek_upS iG_hI (fun _ _ => trivial) (by decide +kernel) (qk_878 l)
theorem gq_932 (l : Launch) : ek_ok l tQ iG kq_932 := ek_upS iG_hI (fun _ _ => trivial) (by decide +kernel) (qk_932 l)
theorem pl_tried_2 (l : Launch) : (le_ck 0 40 2 kq_878 [.inl ((-2147483648), 0), .inl (0, 5)] = true ∧ le_ck 84 44 2 kq_932 [.inl ((-2147483648), 0), .inl (0, 5)] = true ∧ lj_fc kq_878 kq_932 = true) ∧ ek_ok l tQ iG kq_878 ∧ ek_ok l tQ iG kq_932 := ⟨⟨by decide +kernel, by decide +kernel, by decide +kernel⟩, gq_878 l, gq_932 l⟩
theorem gq_879 (l : Launch) : ek_ok l tQ iG kq_879 := ek_upS iG_hI (fun _ _ => trivial) (by decide +kernel) (qk_879 l)
theorem gq_936 (l : Launch) : ek_ok l tQ iG kq_936 := ek_upS iG_hI (fun _ _ => trivial) (by decide +kernel) (qk_936 l)
theorem pl_tried_3 (l : Launch) : (le_ck 0 40 2 kq_879 [.inl ((-2147483648), 0), .inl (6, 9)] = true ∧ le_ck 84 44 2 kq_936 [.inl ((-2147483648), 0), .inl (6, 9)] = true ∧ lj_fc kq_879 kq_936 = true) ∧ ek_ok l tQ iG kq_879 ∧ ek_ok l tQ iG kq_936 := ⟨⟨by decide +kernel, by decide +kernel, by decide +kernel⟩, gq_879 l, gq_936 l⟩
theorem gq_880 (l : Launch) : ek_ok l tQ iG kq_880 := ek_upS iG_hI (fun _ _ => trivial) (by decide +kernel) (qk_880 l)
theorem gq_939 (l : Launch) : ek_ok l tQ iG kq_939 := ek_upS iG_hI (fun _ _ => trivial) (by decide +kernel) (qk_939 l)
theorem pl_tried_4 (l : Launch) : (le_ck 0 40 2 kq_880 [.inl ((-2147483648), 0), .inl (10, 17)] = true ∧ le_ck 84 44 2 kq_939 [.inl ((-2147483648), 0), .inl (10, 17)] = true ∧ lj_fc kq_880 kq_939 = true) ∧ ek_ok l tQ iG kq_880 ∧ ek_ok l tQ iG kq_939 := ⟨⟨by decide +kernel, by decide +kernel, by decide +kernel⟩, gq_880 l, gq_939 l⟩
theorem gq_881 (l : Launch) : ek_ok l tQ iG kq_881 := ek_upS iG_hI (fun _ _ => trivial) (by decide +kernel) (qk_881 l)
theorem gq_943 (l : Launch) : ek_ok l tQ iG kq_943 := ek_upS iG_hI (fun _ _ => trivial) (by decide +kernel) (qk_943 l)
theorem pl_tried_5 (l : Launch) : (le_ck 0 40 2 kq_881 [.inl ((-2147483648), 0), .inl (18, 99)] = true ∧ le_ck 84 44 2 kq_943 [.inl ((-2147483648), 0), .inl (18, 99)] = true ∧ lj_fc kq_881 kq_943 = true) ∧ ek_ok l tQ iG kq_881 ∧ ek_ok l tQ iG kq_943 := ⟨⟨by decide +kernel, by decide +kernel, by decide +kernel⟩, gq_881 l, gq_943 l⟩
theorem gq_882 (l : Launch) : ek_ok l tQ iG kq_882 := ek_upS iG_hI (fun _ _ => trivial) (by decide +kernel) (qk_882 l)
theorem gq_947 (l : Launch) : ek_ok l tQ iG kq_947 := ek_upS iG_hI (fun _ _ => trivial) (by decide +kernel) (qk_947 l)
theorem pl_tried_6 (l : Launch) : (le_ck 0 40 2 kq_882 [.inl ((-2147483648), 0), .inl (100, 163)] = true ∧ le_ck 84 44 2 kq_947 [.inl ((-2147483648), 0), .inl (100, 163)] = true ∧ lj_fc kq_882 kq_947 = true) ∧ ek_ok l tQ iG kq_882 ∧ ek_ok l tQ iG kq_947 := ⟨⟨by decide +kernel, by decide +kernel, by decide +kernel⟩, gq_882 l, gq_947 l⟩
theorem gq_883 (l : Launch) : ek_ok l tQ iG kq_883 := ek_upS iG_hI (fun _ _ => trivial) (by decide +kernel) (qk_883 l)
theorem gq_951 (l : Launch) : ek_ok l tQ iG kq_951 := ek_upS iG_hI (fun _ _ => trivial) (by decide +kernel) (qk_951 l)
theorem pl_tried_7 (l : Launch) : (le_ck 0 40 2 kq_883 [.inl ((-2147483648), 0), .inl (164, 2147483647)] = true ∧ le_ck 84 44 2 kq_951 [.inl ((-2147483648), 0), .inl (164, 2147483647)] = true ∧ lj_fc kq_883 kq_951 = true) ∧ ek_ok l tQ iG kq_883 ∧ ek_ok l tQ iG kq_951 := ⟨⟨by decide +kernel, by decide +kernel, by decide +kernel⟩, gq_883 l, gq_951 l⟩
theorem gq_887 (l : Launch) : ek_ok l tQ iG kq_887 := ek_upS iG_hI (fun _ _ => trivial) (by decide +kernel) (qk_887 l)
theorem gq_952 (l : Launch) : ek_ok l tQ iG kq_952 := ek_upS iG_hI (fun _ _ => trivial) (by decide +kernel) (qk_952 l)
theorem pl_tried_8 (l : Launch) : (le_ck 0 40 2 kq_887 [.inl (1, 4), .inl ((-2147483648), (-2147483639))] = true ∧ le_ck 84 44 2 kq_952 [.inl (1, 4), .inl ((-2147483648), (-2147483639))] = true ∧ lj_fc kq_887 kq_952 = true) ∧ ek_ok l tQ iG kq_887 ∧ ek_ok l tQ iG kq_952 := ⟨⟨by decide +kernel, by decide +kernel, by decide +kernel⟩, gq_887 l, gq_952 l⟩
theorem gq_891 (l : Launch) : ek_ok l tQ iG kq_891 := ek_upS iG_hI (fun _ _ => trivial) (by decide +kernel) (qk_891 l)
theorem gq_953 (l : Launch) : ek_ok l tQ iG kq_953 := ek_upS iG_hI (fun _ _ => trivial) (by decide +kernel) (qk_953 l)
theorem pl_tried_9 (l : Launch) : (le_ck 0 40 2 kq_891 [.inl (1, 4), .inl ((-2147483638), (-1))] = true ∧ le_ck 84 44 2 kq_953 [.inl (1, 4), .inl ((-2147483638), (-1))] = true ∧ lj_fc kq_891 kq_953 = true) ∧ ek_ok l tQ iG kq_891 ∧ ek_ok l tQ iG kq_953 := ⟨⟨by decide +kernel, by decide +kernel, by decide +kernel⟩, gq_891 l, gq_953 l⟩
theorem pl_tried_10 (l : Launch) : (le_ck 0 40 2 kq_2295 [.inl (1, 4), .inl (0, 5)] = true ∧ le_ck 84 44 2 kq_2299 [.inl (1, 4), .inl (0, 5)] = true ∧ lj_fc kq_2295 kq_2299 = true) ∧ ek_ok l tQ iG kq_2295 ∧ ek_ok l tQ iG kq_2299 := ⟨⟨by decide +kernel, by decide +kernel, by decide +kernel⟩, qk_2295 l, qk_2299 l⟩
theorem gq_899 (l : Launch) : ek_ok l tQ iG kq_899 := ek_upS iG_hI (fun _ _ => trivial) (by decide +kernel) (qk_899 l)
theorem gq_956 (l : Launch) : ek_ok l tQ iG kq_956 := ek_upS iG_hI (fun _ _ => trivial) (by decide +kernel) (qk_956 l)
theorem pl_tried_11 (l : Launch) : (le_ck 0 40 2 kq_899 [.inl (1, 4), .inl (6, 9)] = true ∧ le_ck 84 44 2 kq_956 [.inl (1, 4), .inl (6, 9)] = true ∧ lj_fc kq_899 kq_956 = true) ∧ ek_ok l tQ iG kq_899 ∧ ek_ok l tQ iG kq_956 := ⟨⟨by decide +kernel, by decide +kernel, by decide +kernel⟩, gq_899 l, gq_956 l⟩
theorem pl_tried_12 (l : Launch) : (le_ck 0 40 2 kq_2296 [.inl (1, 4), .inl (10, 17)] = true ∧ le_ck 84 44 2 kq_2300 [.inl (1, 4), .inl (10, 17)] = true ∧ lj_fc kq_2296 kq_2300 = true) ∧ ek_ok l tQ iG kq_2296 ∧ ek_ok l tQ iG kq_2300 := ⟨⟨by decide +kernel, by decide +kernel, by decide +kernel⟩, qk_2296 l, qk_2300 l⟩
theorem gq_906 (l : Launch) : ek_ok l tQ iG kq_906 := ek_upS iG_hI (fun _ _ => trivial) (by decide +kernel) (qk_906 l)
theorem gq_958 (l : Launch) : ek_ok l tQ iG kq_958 := ek_upS iG_hI (fun _ _ => trivial) (by decide +kernel) (qk_958 l)
theorem pl_tried_13 (l : Launch) : (le_ck 0 40 2 kq_906 [.inl (1, 4), .inl (18, 99)] = true ∧ le_ck 84 44 2 kq_958 [.inl (1, 4), .inl (18, 99)] = true ∧ lj_fc kq_906 kq_958 = true) ∧ ek_ok l tQ iG kq_906 ∧ ek_ok l tQ iG kq_958 := ⟨⟨by decide +kernel, by decide +kernel, by decide +kernel⟩, gq_906 l, gq_958 l⟩
theorem pl_tried_14 (l : Launch) : (le_ck 0 40 2 kq_2297 [.inl (1, 4), .inl (100, 163)] = true ∧ le_ck 84 44 2 kq_2301 [.inl (1, 4), .inl (100, 163)] = true ∧ lj_fc kq_2297 kq_2301 = true) ∧ ek_ok l tQ iG kq_2297 ∧ ek_ok l tQ iG kq_2301 := ⟨⟨by decide +kernel, by decide +kernel, by decide +kernel⟩, qk_2297 l, qk_2301 l⟩
theorem gq_914 (l : Launch) : ek_ok l tQ iG kq_914 := ek_upS iG_hI (fun _ _ => trivial) (by decide +kernel) (qk_914 l)
theorem gq_960 (l : Launch) : ek_ok l tQ iG kq_960 := ek_upS iG_hI (fun _ _ => trivial) (by decide +kernel) (qk_960 l)
theorem pl_tried_15 (l : Launch) : (le_ck 0 40 2 kq_914 [.inl (1, 4), .inl (164, 2147483647)] = true ∧ le_ck 84 44 2 kq_960 [.inl (1, 4), .inl (164, 2147483647)] = true ∧ lj_fc kq_914 kq_960 = true) ∧ ek_ok l tQ iG kq_914 ∧ ek_ok l tQ iG kq_960 := ⟨⟨by decide +kernel, by decide +kernel, by decide +kernel⟩, gq_914 l, gq_960 l⟩
theorem gq_915 (l : Launch) : ek_ok l tQ iG kq_915 := ek_upS iG_hI (fun _ _ => trivial) (by decide +kernel) (qk_915 l)
theorem gq_961 (l : Launch) : ek_ok l tQ iG kq_961 := ek_upS iG_hI (fun _ _ => trivial) (by decide +kernel) (qk_961 l)
theorem pl_tried_16 (l : Launch) : (le_ck 0 40 2 kq_915 [.inl (5, 2147483647), .inl ((-2147483648), (-2147483639))] = true ∧ le_ck 84 44 2 kq_961 [.inl (5, 2147483647), .inl ((-2147483648), (-2147483639))] = true ∧ lj_fc kq_915 kq_961 = true) ∧ ek_ok l tQ iG kq_915 ∧ ek_ok l tQ iG kq_961 := ⟨⟨by decide +kernel, by decide +kernel, by decide +kernel⟩, gq_915 l, gq_961 l⟩
theorem gq_916 (l : Launch) : ek_ok l tQ iG kq_916 := ek_upS iG_hI (fun _ _ => trivial) (by decide +kernel) (qk_916 l)
theorem gq_962 (l : Launch) : ek_ok l tQ iG kq_962 := ek_upS iG_hI (fun _ _ => trivial) (by decide +kernel) (qk_962 l)
theorem pl_tried_17 (l : Launch) : (le_ck 0 40 2 kq_916 [.inl (5, 2147483647), .inl ((-2147483638), (-1))] = true ∧ le_ck 84 44 2 kq_962 [.inl (5, 2147483647), .inl ((-2147483638), (-1))] = true ∧ lj_fc kq_916 kq_962 = true) ∧ ek_ok l tQ iG kq_916 ∧ ek_ok l tQ iG kq_962 := ⟨⟨by decide +kernel, by decide +kernel, by decide +kernel⟩, gq_916 l, gq_962 l⟩
theorem gq_917 (l : Launch) : ek_ok l tQ iG kq_917 := ek_upS iG_hI (fun _ _ => trivial) (by decide +kernel) (qk_917 l)
theorem gq_963 (l : Launch) : ek_ok l tQ iG kq_963 := ek_upS iG_hI (fun _ _ => trivial) (by decide +kernel) (qk_963 l)
theorem pl_tried_18 (l : Launch) : (le_ck 0 40 2 kq_917 [.inl (5, 2147483647), .inl (0, 5)] = true ∧ le_ck 84 44 2 kq_963 [.inl (5, 2147483647), .inl (0, 5)] = true ∧ lj_fc kq_917 kq_963 = true) ∧ ek_ok l tQ iG kq_917 ∧ ek_ok l tQ iG kq_963 := ⟨⟨by decide +kernel, by decide +kernel, by decide +kernel⟩, gq_917 l, gq_963 l⟩
theorem gq_918 (l : Launch) : ek_ok l tQ iG kq_918 := ek_upS iG_hI (fun _ _ => trivial) (by decide +kernel) (qk_918 l)
theorem gq_964 (l : Launch) : ek_ok l tQ iG kq_964 := ek_upS iG_hI (fun _ _ => trivial) (by decide +kernel) (qk_964 l)
theorem pl_tried_19 (l : Launch) : (le_ck 0 40 2 kq_918 [.inl (5, 2147483647), .inl (6, 9)] = true ∧ le_ck 84 44 2 kq_964 [.inl (5, 2147483647), .inl (6, 9)] = true ∧ lj_fc kq_918 kq_964 = true) ∧ ek_ok l tQ iG kq_918 ∧ ek_ok l tQ iG kq_964 := ⟨⟨by decide +kernel, by decide +kernel, by decide +kernel⟩, gq_918 l, gq_964 l⟩
theorem gq_919 (l : Launch) : ek_ok l tQ iG kq_919 := ek_upS iG_hI (fun _ _ => trivial) (by decide +kernel) (qk_919 l)
theorem gq_965 (l : Launch) : ek_ok l tQ iG kq_965 := ek_upS iG_hI (fun _ _ => trivial) (by decide +kernel) (qk_965 l)
theorem pl_tried_20 (l : Launch) : (le_ck 0 40 2 kq_919 [.inl (5, 2147483647), .inl (10, 17)] = true ∧ le_ck 84 44 2 kq_965 [.inl (5, 2147483647), .inl (10, 17)] = true ∧ lj_fc kq_919 kq_965 = true) ∧ ek_ok l tQ iG kq_919 ∧ ek_ok l tQ iG kq_965 := ⟨⟨by decide +kernel, by decide +kernel, by decide +kernel⟩, gq_919 l, gq_965 l⟩
theorem gq_920 (l : Launch) : ek_ok l tQ iG kq_920 := ek_upS iG_hI (fun _ _ => trivial) (by decide +kernel) (qk_920 l)
theorem gq_966 (l : Launch) : ek_ok l tQ iG kq_966 := ek_upS iG_hI (fun _ _ => trivial) (by decide +kernel) (qk_966 l)
theorem pl_tried_21 (l : Launch) : (le_ck 0 40 2 kq_920 [.inl (5, 2147483647), .inl (18, 99)] = true ∧ le_ck 84 44 2 kq_966 [.inl (5, 2147483647), .inl (18, 99)] = true ∧ lj_fc kq_920 kq_966 = true) ∧ ek_ok l tQ iG kq_920 ∧ ek_ok l tQ iG kq_966 := ⟨⟨by decide +kernel, by decide +kernel, by decide +kernel⟩, gq_920 l, gq_966 l⟩
theorem gq_921 (l : Launch) : ek_ok l tQ iG kq_921 := ek_upS iG_hI (fun _ _ => trivial) (by decide +kernel) (qk_921 l)
theorem gq_967 (l : Launch) : ek_ok l tQ iG kq_967 := ek_upS iG_hI (fun _ _ => trivial) (by decide +kernel) (qk_967 l)
theorem pl_tried_22 (l : Launch) : (le_ck 0 40 2 kq_921 [.inl (5, 2147483647), .inl (100, 163)] = true ∧ le_ck 84 44 2 kq_967 [.inl (5, 2147483647), .inl (100, 163)] = true ∧ lj_fc kq_921 kq_967 = true) ∧ ek_ok l tQ iG kq_921 ∧ ek_ok l tQ iG kq_967 := ⟨⟨by decide +kernel, by decide +kernel, by decide +kernel⟩, gq_921 l, gq_967 l⟩
theorem gq_922 (l : Launch) : ek_ok l tQ iG kq_922 := ek_upS iG_hI (fun _ _ => trivial) (by decide +kernel) (qk_922 l)
theorem gq_968 (l : Launch) : ek_ok l tQ iG kq_968 := ek_upS iG_hI (fun _ _ => trivial) (by decide +kernel) (qk_968 l)
theorem pl_tried_23 (l : Launch) : (le_ck 0 40 2 kq_922 [.inl (5, 2147483647), .inl (164, 2147483647)] = true ∧ le_ck 84 44 2 kq_968 [.inl (5, 2147483647), .inl (164, 2147483647)] = true ∧ lj_fc kq_922 kq_968 = true) ∧ ek_ok l tQ iG kq_922 ∧ ek_ok l tQ iG kq_968 := ⟨⟨by decide +kernel, by decide +kernel, by decide +kernel⟩, gq_922 l, gq_968 l⟩
theorem pf_tried (l : Launch) {tys : List (ClassId × FieldType)} {ad : Nat → Nat} {ws : va_W} (hw : ev_w tys tQ ad ws) (hI : iG ws) (hJ : jR ws) (x1 x2 : Int32) : ∃ (κa κb : ek) (box : List en_V), le_ck 0 40 2 κa box = true ∧ le_ck 84 44 2 κb box = true ∧ ek_ok l tQ iG κa ∧ ek_ok l tQ iG κb ∧ (∀ (N : Nat) (ad : Nat → Nat), en_vs N ad box [.int x1, .int x2]) ∧ lj tys ad false ws κa κb := by
  have r1 := fb_rng x1
  have r2 := fb_rng x2
  rcases (show (x1.toInt ≤ 0) ∨ (1 ≤ x1.toInt ∧ x1.toInt ≤ 4) ∨ (5 ≤ x1.toInt) from by omega) with g0 | g0 | g0
  ·
    rcases (show (x2.toInt ≤ (-2147483639)) ∨ ((-2147483638) ≤ x2.toInt ∧ x2.toInt ≤ (-1)) ∨ (0 ≤ x2.toInt ∧ x2.toInt ≤ 5) ∨ (6 ≤ x2.toInt ∧ x2.toInt ≤ 9) ∨ (10 ≤ x2.toInt ∧ x2.toInt ≤ 17) ∨ (18 ≤ x2.toInt ∧ x2.toInt ≤ 99) ∨ (100 ≤ x2.toInt ∧ x2.toInt ≤ 163) ∨ (164 ≤ x2.toInt) from by omega) with g1 | g1 | g1 | g1 | g1 | g1 | g1 | g1
    ·
      exact ⟨kq_876, kq_926, [.inl ((-2147483648), 0), .inl ((-2147483648), (-2147483639))], (pl_tried_0 l).1.1, (pl_tried_0 l).1.2.1, (pl_tried_0 l).2.1, (pl_tried_0 l).2.2, fun N ad => ⟨le_iv (by omega) (by omega), le_iv (by omega) (by omega), trivial⟩, lj_fr hw hJ (pl_tried_0 l).1.2.2⟩
    ·
      exact ⟨kq_877, kq_930, [.inl ((-2147483648), 0), .inl ((-2147483638), (-1))], (pl_tried_1 l).1.1, (pl_tried_1 l).1.2.1, (pl_tried_1 l).2.1, (pl_tried_1 l).2.2, fun N ad => ⟨le_iv (by omega) (by omega), le_iv (by omega) (by omega), trivial⟩, lj_fr hw hJ (pl_tried_1 l).1.2.2⟩
    ·
      exact ⟨kq_878, kq_932, [.inl ((-2147483648), 0), .inl (0, 5)], (pl_tried_2 l).1.1, (pl_tried_2 l).1.2.1, (pl_tried_2 l).2.1, (pl_tried_2 l).2.2, fun N ad => ⟨le_iv (by omega) (by omega), le_iv (by omega) (by omega), trivial⟩, lj_fr hw hJ (pl_tried_2 l).1.2.2⟩
    ·
      exact ⟨kq_879, kq_936, [.inl ((-2147483648), 0), .inl (6, 9)], (pl_tried_3 l).1.1, (pl_tried_3 l).1.2.1, (pl_tried_3 l).2.1, (pl_tried_3 l).2.2, fun N ad => ⟨le_iv (by omega) (by omega), le_iv (by omega) (by omega), trivial⟩, lj_fr hw hJ (pl_tried_3 l).1.2.2⟩
    ·
      exact ⟨kq_880, kq_939, [.inl ((-2147483648), 0), .inl (10, 17)], (pl_tried_4 l).1.1, (pl_tried_4 l).1.2.1, (pl_tried_4 l).2.1, (pl_tried_4 l).2.2, fun N ad => ⟨le_iv (by omega) (by omega), le_iv (by omega) (by omega), trivial⟩, lj_fr hw hJ (pl_tried_4 l).1.2.2⟩
    ·
      exact ⟨kq_881, kq_943, [.inl ((-2147483648), 0), .inl (18, 99)], (pl_tried_5 l).1.1, (pl_tried_5 l).1.2.1, (pl_tried_5 l).2.1, (pl_tried_5 l).2.2, fun N ad => ⟨le_iv (by omega) (by omega), le_iv (by omega) (by omega), trivial⟩, lj_fr hw hJ (pl_tried_5 l).1.2.2⟩
    ·
      exact ⟨kq_882, kq_947, [.inl ((-2147483648), 0), .inl (100, 163)], (pl_tried_6 l).1.1, (pl_tried_6 l).1.2.1, (pl_tried_6 l).2.1, (pl_tried_6 l).2.2, fun N ad => ⟨le_iv (by omega) (by omega), le_iv (by omega) (by omega), trivial⟩, lj_fr hw hJ (pl_tried_6 l).1.2.2⟩
    ·
      exact ⟨kq_883, kq_951, [.inl ((-2147483648), 0), .inl (164, 2147483647)], (pl_tried_7 l).1.1, (pl_tried_7 l).1.2.1, (pl_tried_7 l).2.1, (pl_tried_7 l).2.2, fun N ad => ⟨le_iv (by omega) (by omega), le_iv (by omega) (by omega), trivial⟩, lj_fr hw hJ (pl_tried_7 l).1.2.2⟩
  ·
    rcases (show (x2.toInt ≤ (-2147483639)) ∨ ((-2147483638) ≤ x2.toInt ∧ x2.toInt ≤ (-1)) ∨ (0 ≤ x2.toInt ∧ x2.toInt ≤ 5) ∨ (6 ≤ x2.toInt ∧ x2.toInt ≤ 9) ∨ (10 ≤ x2.toInt ∧ x2.toInt ≤ 17) ∨ (18 ≤ x2.toInt ∧ x2.toInt ≤ 99) ∨ (100 ≤ x2.toInt ∧ x2.toInt ≤ 163) ∨ (164 ≤ x2.toInt) from by omega) with g1 | g1 | g1 | g1 | g1 | g1 | g1 | g1
    ·
      exact ⟨kq_887, kq_952, [.inl (1, 4), .inl ((-2147483648), (-2147483639))], (pl_tried_8 l).1.1, (pl_tried_8 l).1.2.1, (pl_tried_8 l).2.1, (pl_tried_8 l).2.2, fun N ad => ⟨le_iv (by omega) (by omega), le_iv (by omega) (by omega), trivial⟩, lj_fr hw hJ (pl_tried_8 l).1.2.2⟩
    ·
      exact ⟨kq_891, kq_953, [.inl (1, 4), .inl ((-2147483638), (-1))], (pl_tried_9 l).1.1, (pl_tried_9 l).1.2.1, (pl_tried_9 l).2.1, (pl_tried_9 l).2.2, fun N ad => ⟨le_iv (by omega) (by omega), le_iv (by omega) (by omega), trivial⟩, lj_fr hw hJ (pl_tried_9 l).1.2.2⟩
    ·
      exact ⟨kq_2295, kq_2299, [.inl (1, 4), .inl (0, 5)], (pl_tried_10 l).1.1, (pl_tried_10 l).1.2.1, (pl_tried_10 l).2.1, (pl_tried_10 l).2.2, fun N ad => ⟨le_iv (by omega) (by omega), le_iv (by omega) (by omega), trivial⟩, lj_fr hw hJ (pl_tried_10 l).1.2.2⟩
    ·
      exact ⟨kq_899, kq_956, [.inl (1, 4), .inl (6, 9)], (pl_tried_11 l).1.1, (pl_tried_11 l).1.2.1, (pl_tried_11 l).2.1, (pl_tried_11 l).2.2, fun N ad => ⟨le_iv (by omega) (by omega), le_iv (by omega) (by omega), trivial⟩, lj_fr hw hJ (pl_tried_11 l).1.2.2⟩
    ·
      exact ⟨kq_2296, kq_2300, [.inl (1, 4), .inl (10, 17)], (pl_tried_12 l).1.1, (pl_tried_12 l).1.2.1, (pl_tried_12 l).2.1, (pl_tried_12 l).2.2, fun N ad => ⟨le_iv (by omega) (by omega), le_iv (by omega) (by omega), trivial⟩, lj_fr hw hJ (pl_tried_12 l).1.2.2⟩
    ·
      exact ⟨kq_906, kq_958, [.inl (1, 4), .inl (18, 99)], (pl_tried_13 l).1.1, (pl_tried_13 l).1.2.1, (pl_tried_13 l).2.1, (pl_tried_13 l).2.2, fun N ad => ⟨le_iv (by omega) (by omega), le_iv (by omega) (by omega), trivial⟩, lj_fr hw hJ (pl_tried_13 l).1.2.2⟩
    ·
      exact ⟨kq_2297, kq_2301, [.inl (1, 4), .inl (100, 163)], (pl_tried_14 l).1.1, (pl_tried_14 l).1.2.1, (pl_tried_14 l).2.1, (pl_tried_14 l).2.2, fun N ad => ⟨le_iv (by omega) (by omega), le_iv (by omega) (by omega), trivial⟩, lj_fr hw hJ (pl_tried_14 l).1.2.2⟩
    ·
      exact ⟨kq_914, kq_960, [.inl (1, 4), .inl (164, 2147483647)], (pl_tried_15 l).1.1, (pl_tried_15 l).1.2.1, (pl_tried_15 l).2.1, (pl_tried_15 l).2.2, fun N ad => ⟨le_iv (by omega) (by omega), le_iv (by omega) (by omega), trivial⟩, lj_fr hw hJ (pl_tried_15 l).1.2.2⟩
  ·
    rcases (show (x2.toInt ≤ (-2147483639)) ∨ ((-2147483638) ≤ x2.toInt ∧ x2.toInt ≤ (-1)) ∨ (0 ≤ x2.toInt ∧ x2.toInt ≤ 5) ∨ (6 ≤ x2.toInt ∧ x2.toInt ≤ 9) ∨ (10 ≤ x2.toInt ∧ x2.toInt ≤ 17) ∨ (18 ≤ x2.toInt ∧ x2.toInt ≤ 99) ∨ (100 ≤ x2.toInt ∧ x2.toInt ≤ 163) ∨ (164 ≤ x2.toInt) from by omega) with g1 | g1 | g1 | g1 | g1 | g1 | g1 | g1
    ·
      exact ⟨kq_915, kq_961, [.inl (5, 2147483647), .inl ((-2147483648), (-2147483639))], (pl_tried_16 l).1.1, (pl_tried_16 l).1.2.1, (pl_tried_16 l).2.1, (pl_tried_16 l).2.2, fun N ad => ⟨le_iv (by omega) (by omega), le_iv (by omega) (by omega), trivial⟩, lj_fr hw hJ (pl_tried_16 l).1.2.2⟩
    ·
      exact ⟨kq_916, kq_962, [.inl (5, 2147483647), .inl ((-2147483638), (-1))], (pl_tried_17 l).1.1, (pl_tried_17 l).1.2.1, (pl_tried_17 l).2.1, (pl_tried_17 l).2.2, fun N ad => ⟨le_iv (by omega) (by omega), le_iv (by omega) (by omega), trivial⟩, lj_fr hw hJ (pl_tried_17 l).1.2.2⟩
    ·
      exact ⟨kq_917, kq_963, [.inl (5, 2147483647), .inl (0, 5)], (pl_tried_18 l).1.1, (pl_tried_18 l).1.2.1, (pl_tried_18 l).2.1, (pl_tried_18 l).2.2, fun N ad => ⟨le_iv (by omega) (by omega), le_iv (by omega) (by omega), trivial⟩, lj_fr hw hJ (pl_tried_18 l).1.2.2⟩
    ·
      exact ⟨kq_918, kq_964, [.inl (5, 2147483647), .inl (6, 9)], (pl_tried_19 l).1.1, (pl_tried_19 l).1.2.1, (pl_tried_19 l).2.1, (pl_tried_19 l).2.2, fun N ad => ⟨le_iv (by omega) (by omega), le_iv (by omega) (by omega), trivial⟩, lj_fr hw hJ (pl_tried_19 l).1.2.2⟩
    ·
      exact ⟨kq_919, kq_965, [.inl (5, 2147483647), .inl (10, 17)], (pl_tried_20 l).1.1, (pl_tried_20 l).1.2.1, (pl_tried_20 l).2.1, (pl_tried_20 l).2.2, fun N ad => ⟨le_iv (by omega) (by omega), le_iv (by omega) (by omega), trivial⟩, lj_fr hw hJ (pl_tried_20 l).1.2.2⟩
    ·
      exact ⟨kq_920, kq_966, [.inl (5, 2147483647), .inl (18, 99)], (pl_tried_21 l).1.1, (pl_tried_21 l).1.2.1, (pl_tried_21 l).2.1, (pl_tried_21 l).2.2, fun N ad => ⟨le_iv (by omega) (by omega), le_iv (by omega) (by omega), trivial⟩, lj_fr hw hJ (pl_tried_21 l).1.2.2⟩
    ·
      exact ⟨kq_921, kq_967, [.inl (5, 2147483647), .inl (100, 163)], (pl_tried_22 l).1.1, (pl_tried_22 l).1.2.1, (pl_tried_22 l).2.1, (pl_tried_22 l).2.2, fun N ad => ⟨le_iv (by omega) (by omega), le_iv (by omega) (by omega), trivial⟩, lj_fr hw hJ (pl_tried_22 l).1.2.2⟩
    ·
      exact ⟨kq_922, kq_968, [.inl (5, 2147483647), .inl (164, 2147483647)], (pl_tried_23 l).1.1, (pl_tried_23 l).1.2.1, (pl_tried_23 l).2.1, (pl_tried_23 l).2.2, fun N ad => ⟨le_iv (by omega) (by omega), le_iv (by omega) (by omega), trivial⟩, lj_fr hw hJ (pl_tried_23 l).1.2.2⟩
theorem pe_tried (l : Launch) {tys : List (ClassId × FieldType)} {ad : Nat → Nat} {ws : va_W} (hw : ev_w tys tQ ad ws) (hI : iG ws) (hJ : jR ws) (x1 x2 : Int32) : ∃ (κa κb : ek) (box : List en_V), le_ck 0 40 2 κa box = true ∧ le_ck 84 44 2 κb box = true ∧ (∀ (N : Nat) (ad : Nat → Nat), en_vs N ad box [.int x1, .int x2]) ∧ lq l tys ad false ws κa κb [.int x1, .int x2] := by
  obtain ⟨κa, κb, box, h1, h2, h3, h4, h5, h6⟩ := pf_tried l hw hI hJ x1 x2
  exact ⟨κa, κb, box, h1, h2, h5, lq_of h1 h2 h3 h4 (h5 _ _) hw hI h6⟩
theorem gq_970 (l : Launch) : ek_ok l tQ iG kq_970 := ek_upS iG_hI (fun _ _ => trivial) (by decide +kernel) (qk_970 l)
theorem gq_975 (l : Launch) : ek_ok l tQ iG kq_975 := ek_upS iG_hI (fun _ _ => trivial) (by decide +kernel) (qk_975 l)
theorem pl_lastRun_0 (l : Launch) : (le_ck 0 45 1 kq_970 [.inl ((-2147483648), (-1))] = true ∧ le_ck 84 48 1 kq_975 [.inl ((-2147483648), (-1))] = true ∧ lj_fc kq_970 kq_975 = true) ∧ ek_ok l tQ iG kq_970 ∧ ek_ok l tQ iG kq_975 := ⟨⟨by decide +kernel, by decide +kernel, by decide +kernel⟩, gq_970 l, gq_975 l⟩
theorem gq_971 (l : Launch) : ek_ok l tQ iG kq_971 := ek_upS iG_hI (fun _ _ => trivial) (by decide +kernel) (qk_971 l)
theorem gq_976 (l : Launch) : ek_ok l tQ iG kq_976 := ek_upS iG_hI (fun _ _ => trivial) (by decide +kernel) (qk_976 l)
theorem pl_lastRun_1 (l : Launch) : (le_ck 0 45 1 kq_971 [.inl (0, 5)] = true ∧ le_ck 84 48 1 kq_976 [.inl (0, 5)] = true ∧ lj_fc kq_971 kq_976 = true) ∧ ek_ok l tQ iG kq_971 ∧ ek_ok l tQ iG kq_976 := ⟨⟨by decide +kernel, by decide +kernel, by decide +kernel⟩, gq_971 l, gq_976 l⟩
theorem gq_973 (l : Launch) : ek_ok l tQ iG kq_973 := ek_upS iG_hI (fun _ _ => trivial) (by decide +kernel) (qk_973 l)
theorem gq_978 (l : Launch) : ek_ok l tQ iG kq_978 := ek_upS iG_hI (fun _ _ => trivial) (by decide +kernel) (qk_978 l)
theorem pl_lastRun_2 (l : Launch) : (le_ck 0 45 1 kq_973 [.inl (6, 2147483647)] = true ∧ le_ck 84 48 1 kq_978 [.inl (6, 2147483647)] = true ∧ lj_fc kq_973 kq_978 = true) ∧ ek_ok l tQ iG kq_973 ∧ ek_ok l tQ iG kq_978 := ⟨⟨by decide +kernel, by decide +kernel, by decide +kernel⟩, gq_973 l, gq_978 l⟩
theorem pf_lastRun (l : Launch) {tys : List (ClassId × FieldType)} {ad : Nat → Nat} {ws : va_W} (hw : ev_w tys tQ ad ws) (hI : iG ws) (hJ : jR ws) (x1 : Int32) : ∃ (κa κb : ek) (box : List en_V), le_ck 0 45 1 κa box = true ∧ le_ck 84 48 1 κb box = true ∧ ek_ok l tQ iG κa ∧ ek_ok l tQ iG κb ∧ (∀ (N : Nat) (ad : Nat → Nat), en_vs N ad box [.int x1]) ∧ lj tys ad false ws κa κb := by
  have r1 := fb_rng x1
  rcases (show (x1.toInt ≤ (-1)) ∨ (0 ≤ x1.toInt ∧ x1.toInt ≤ 5) ∨ (6 ≤ x1.toInt) from by omega) with g0 | g0 | g0
  ·
    exact ⟨kq_970, kq_975, [.inl ((-2147483648), (-1))], (pl_lastRun_0 l).1.1, (pl_lastRun_0 l).1.2.1, (pl_lastRun_0 l).2.1, (pl_lastRun_0 l).2.2, fun N ad => ⟨le_iv (by omega) (by omega), trivial⟩, lj_fr hw hJ (pl_lastRun_0 l).1.2.2⟩
  ·
    exact ⟨kq_971, kq_976, [.inl (0, 5)], (pl_lastRun_1 l).1.1, (pl_lastRun_1 l).1.2.1, (pl_lastRun_1 l).2.1, (pl_lastRun_1 l).2.2, fun N ad => ⟨le_iv (by omega) (by omega), trivial⟩, lj_fr hw hJ (pl_lastRun_1 l).1.2.2⟩
  ·
    exact ⟨kq_973, kq_978, [.inl (6, 2147483647)], (pl_lastRun_2 l).1.1, (pl_lastRun_2 l).1.2.1, (pl_lastRun_2 l).2.1, (pl_lastRun_2 l).2.2, fun N ad => ⟨le_iv (by omega) (by omega), trivial⟩, lj_fr hw hJ (pl_lastRun_2 l).1.2.2⟩
theorem pe_lastRun (l : Launch) {tys : List (ClassId × FieldType)} {ad : Nat → Nat} {ws : va_W} (hw : ev_w tys tQ ad ws) (hI : iG ws) (hJ : jR ws) (x1 : Int32) : ∃ (κa κb : ek) (box : List en_V), le_ck 0 45 1 κa box = true ∧ le_ck 84 48 1 κb box = true ∧ (∀ (N : Nat) (ad : Nat → Nat), en_vs N ad box [.int x1]) ∧ lq l tys ad false ws κa κb [.int x1] := by
  obtain ⟨κa, κb, box, h1, h2, h3, h4, h5, h6⟩ := pf_lastRun l hw hI hJ x1
  exact ⟨κa, κb, box, h1, h2, h5, lq_of h1 h2 h3 h4 (h5 _ _) hw hI h6⟩
theorem gq_980 (l : Launch) : ek_ok l tQ iG kq_980 := ek_upS iG_hI (fun _ _ => trivial) (by decide +kernel) (qk_980 l)
theorem gq_990 (l : Launch) : ek_ok l tQ iG kq_990 := ek_upS iG_hI (fun _ _ => trivial) (by decide +kernel) (qk_990 l)
theorem pl_opIs_0 (l : Launch) : (le_ck 0 49 2 kq_980 [.inl ((-2147483648), (-1)), .inl ((-2147483648), 2147483647)] = true ∧ le_ck 84 52 2 kq_990 [.inl ((-2147483648), (-1)), .inl ((-2147483648), 2147483647)] = true ∧ lj_fc kq_980 kq_990 = true) ∧ ek_ok l tQ iG kq_980 ∧ ek_ok l tQ iG kq_990 := ⟨⟨by decide +kernel, by decide +kernel, by decide +kernel⟩, gq_980 l, gq_990 l⟩
theorem gq_987 (l : Launch) : ek_ok l tQ iG kq_987 := ek_upS iG_hI (fun _ _ => trivial) (by decide +kernel) (qk_987 l)
theorem gq_996 (l : Launch) : ek_ok l tQ iG kq_996 := ek_upS iG_hI (fun _ _ => trivial) (by decide +kernel) (qk_996 l)
theorem pl_opIs_1 (l : Launch) : (le_ck 0 49 2 kq_987 [.inl (0, 2147483647), .inl ((-2147483648), 2147483647)] = true ∧ le_ck 84 52 2 kq_996 [.inl (0, 2147483647), .inl ((-2147483648), 2147483647)] = true ∧ lj_fc kq_987 kq_996 = true) ∧ ek_ok l tQ iG kq_987 ∧ ek_ok l tQ iG kq_996 := ⟨⟨by decide +kernel, by decide +kernel, by decide +kernel⟩, gq_987 l, gq_996 l⟩
theorem pf_opIs (l : Launch) {tys : List (ClassId × FieldType)} {ad : Nat → Nat} {ws : va_W} (hw : ev_w tys tQ ad ws) (hI : iG ws) (hJ : jR ws) (x1 x2 : Int32) : ∃ (κa κb : ek) (box : List en_V), le_ck 0 49 2 κa box = true ∧ le_ck 84 52 2 κb box = true ∧ ek_ok l tQ iG κa ∧ ek_ok l tQ iG κb ∧ (∀ (N : Nat) (ad : Nat → Nat), en_vs N ad box [.int x1, .int x2]) ∧ lj tys ad false ws κa κb := by
  have r1 := fb_rng x1
  have r2 := fb_rng x2
  rcases (show (x1.toInt ≤ (-1)) ∨ (0 ≤ x1.toInt) from by omega) with g0 | g0
  ·
    exact ⟨kq_980, kq_990, [.inl ((-2147483648), (-1)), .inl ((-2147483648), 2147483647)], (pl_opIs_0 l).1.1, (pl_opIs_0 l).1.2.1, (pl_opIs_0 l).2.1, (pl_opIs_0 l).2.2, fun N ad => ⟨le_iv (by omega) (by omega), le_iv (by omega) (by omega), trivial⟩, lj_fr hw hJ (pl_opIs_0 l).1.2.2⟩
  ·
    exact ⟨kq_987, kq_996, [.inl (0, 2147483647), .inl ((-2147483648), 2147483647)], (pl_opIs_1 l).1.1, (pl_opIs_1 l).1.2.1, (pl_opIs_1 l).2.1, (pl_opIs_1 l).2.2, fun N ad => ⟨le_iv (by omega) (by omega), le_iv (by omega) (by omega), trivial⟩, lj_fr hw hJ (pl_opIs_1 l).1.2.2⟩
theorem pe_opIs (l : Launch) {tys : List (ClassId × FieldType)} {ad : Nat → Nat} {ws : va_W} (hw : ev_w tys tQ ad ws) (hI : iG ws) (hJ : jR ws) (x1 x2 : Int32) : ∃ (κa κb : ek) (box : List en_V), le_ck 0 49 2 κa box = true ∧ le_ck 84 52 2 κb box = true ∧ (∀ (N : Nat) (ad : Nat → Nat), en_vs N ad box [.int x1, .int x2]) ∧ lq l tys ad false ws κa κb [.int x1, .int x2] := by
  obtain ⟨κa, κb, box, h1, h2, h3, h4, h5, h6⟩ := pf_opIs l hw hI hJ x1 x2
  exact ⟨κa, κb, box, h1, h2, h5, lq_of h1 h2 h3 h4 (h5 _ _) hw hI h6⟩
theorem gq_997 (l : Launch) : ek_ok l tQ iG kq_997 := ek_upS iG_hI (fun _ _ => trivial) (by decide +kernel) (qk_997 l)
theorem gq_1001 (l : Launch) : ek_ok l tQ iG kq_1001 := ek_upS iG_hI (fun _ _ => trivial) (by decide +kernel) (qk_1001 l)
theorem pl_source_0 (l : Launch) : (le_ck 0 53 2 kq_997 [.inl ((-2147483648), (-1)), .inl ((-2147483648), 2147483647)] = true ∧ le_ck 84 56 2 kq_1001 [.inl ((-2147483648), (-1)), .inl ((-2147483648), 2147483647)] = true ∧ lj_fc kq_997 kq_1001 = true) ∧ ek_ok l tQ iG kq_997 ∧ ek_ok l tQ iG kq_1001 := ⟨⟨by decide +kernel, by decide +kernel, by decide +kernel⟩, gq_997 l, gq_1001 l⟩
theorem gq_1000 (l : Launch) : ek_ok l tQ iG kq_1000 := ek_upS iG_hI (fun _ _ => trivial) (by decide +kernel) (qk_1000 l)
theorem gq_1002 (l : Launch) : ek_ok l tQ iG kq_1002 := ek_upS iG_hI (fun _ _ => trivial) (by decide +kernel) (qk_1002 l)
theorem pl_source_1 (l : Launch) : (le_ck 0 53 2 kq_1000 [.inl (0, 2147483647), .inl ((-2147483648), 2147483647)] = true ∧ le_ck 84 56 2 kq_1002 [.inl (0, 2147483647), .inl ((-2147483648), 2147483647)] = true ∧ lj_fc kq_1000 kq_1002 = true) ∧ ek_ok l tQ iG kq_1000 ∧ ek_ok l tQ iG kq_1002 := ⟨⟨by decide +kernel, by decide +kernel, by decide +kernel⟩, gq_1000 l, gq_1002 l⟩
theorem pf_source (l : Launch) {tys : List (ClassId × FieldType)} {ad : Nat → Nat} {ws : va_W} (hw : ev_w tys tQ ad ws) (hI : iG ws) (hJ : jR ws) (x1 x2 : Int32) : ∃ (κa κb : ek) (box : List en_V), le_ck 0 53 2 κa box = true ∧ le_ck 84 56 2 κb box = true ∧ ek_ok l tQ iG κa ∧ ek_ok l tQ iG κb ∧ (∀ (N : Nat) (ad : Nat → Nat), en_vs N ad box [.int x1, .int x2]) ∧ lj tys ad false ws κa κb := by
  have r1 := fb_rng x1
  have r2 := fb_rng x2
  rcases (show (x1.toInt ≤ (-1)) ∨ (0 ≤ x1.toInt) from by omega) with g0 | g0
  ·
    exact ⟨kq_997, kq_1001, [.inl ((-2147483648), (-1)), .inl ((-2147483648), 2147483647)], (pl_source_0 l).1.1, (pl_source_0 l).1.2.1, (pl_source_0 l).2.1, (pl_source_0 l).2.2, fun N ad => ⟨le_iv (by omega) (by omega), le_iv (by omega) (by omega), trivial⟩, lj_fr hw hJ (pl_source_0 l).1.2.2⟩
  ·
    exact ⟨kq_1000, kq_1002, [.inl (0, 2147483647), .inl ((-2147483648), 2147483647)], (pl_source_1 l).1.1, (pl_source_1 l).1.2.1, (pl_source_1 l).2.1, (pl_source_1 l).2.2, fun N ad => ⟨le_iv (by omega) (by omega), le_iv (by omega) (by omega), trivial⟩, lj_fr hw hJ (pl_source_1 l).1.2.2⟩
theorem pe_source (l : Launch) {tys : List (ClassId × FieldType)} {ad : Nat → Nat} {ws : va_W} (hw : ev_w tys tQ ad ws) (hI : iG ws) (hJ : jR ws) (x1 x2 : Int32) : ∃ (κa κb : ek) (box : List en_V), le_ck 0 53 2 κa box = true ∧ le_ck 84 56 2 κb box = true ∧ (∀ (N : Nat) (ad : Nat → Nat), en_vs N ad box [.int x1, .int x2]) ∧ lq l tys ad false ws κa κb [.int x1, .int x2] := by
  obtain ⟨κa, κb, box, h1, h2, h3, h4, h5, h6⟩ := pf_source l hw hI hJ x1 x2
  exact ⟨κa, κb, box, h1, h2, h5, lq_of h1 h2 h3 h4 (h5 _ _) hw hI h6⟩
theorem gq_1004 (l : Launch) : ek_ok l tQ iG kq_1004 := ek_upS iG_hI (fun _ _ => trivial) (by decide +kernel) (qk_1004 l)
theorem gq_1014 (l : Launch) : ek_ok l tQ iG kq_1014 := ek_upS iG_hI (fun _ _ => trivial) (by decide +kernel) (qk_1014 l)
theorem pl_now_0 (l : Launch) : (le_ck 0 57 1 kq_1004 [.inl ((-2147483648), (-1))] = true ∧ le_ck 84 60 1 kq_1014 [.inl ((-2147483648), (-1))] = true ∧ lj_fc kq_1004 kq_1014 = true) ∧ ek_ok l tQ iG kq_1004 ∧ ek_ok l tQ iG kq_1014 := ⟨⟨by decide +kernel, by decide +kernel, by decide +kernel⟩, gq_1004 l, gq_1014 l⟩
theorem gq_1005 (l : Launch) : ek_ok l tQ iG kq_1005 := ek_upS iG_hI (fun _ _ => trivial) (by decide +kernel) (qk_1005 l)
theorem gq_1015 (l : Launch) : ek_ok l tQ iG kq_1015 := ek_upS iG_hI (fun _ _ => trivial) (by decide +kernel) (qk_1015 l)
theorem pl_now_1 (l : Launch) : (le_ck 0 57 1 kq_1005 [.inl (0, 7)] = true ∧ le_ck 84 60 1 kq_1015 [.inl (0, 7)] = true ∧ lj_fc kq_1005 kq_1015 = true) ∧ ek_ok l tQ iG kq_1005 ∧ ek_ok l tQ iG kq_1015 := ⟨⟨by decide +kernel, by decide +kernel, by decide +kernel⟩, gq_1005 l, gq_1015 l⟩
theorem gq_1008 (l : Launch) : ek_ok l tQ iG kq_1008 := ek_upS iG_hI (fun _ _ => trivial) (by decide +kernel) (qk_1008 l)
theorem gq_1018 (l : Launch) : ek_ok l tQ iG kq_1018 := ek_upS iG_hI (fun _ _ => trivial) (by decide +kernel) (qk_1018 l)
theorem pl_now_2 (l : Launch) : (le_ck 0 57 1 kq_1008 [.inl (8, 99)] = true ∧ le_ck 84 60 1 kq_1018 [.inl (8, 99)] = true ∧ lj_fc kq_1008 kq_1018 = true) ∧ ek_ok l tQ iG kq_1008 ∧ ek_ok l tQ iG kq_1018 := ⟨⟨by decide +kernel, by decide +kernel, by decide +kernel⟩, gq_1008 l, gq_1018 l⟩
theorem gq_1010 (l : Launch) : ek_ok l tQ iG kq_1010 := ek_upS iG_hI (fun _ _ => trivial) (by decide +kernel) (qk_1010 l)
theorem gq_1020 (l : Launch) : ek_ok l tQ iG kq_1020 := ek_upS iG_hI (fun _ _ => trivial) (by decide +kernel) (qk_1020 l)
theorem pl_now_3 (l : Launch) : (le_ck 0 57 1 kq_1010 [.inl (100, 163)] = true ∧ le_ck 84 60 1 kq_1020 [.inl (100, 163)] = true ∧ lj_fc kq_1010 kq_1020 = true) ∧ ek_ok l tQ iG kq_1010 ∧ ek_ok l tQ iG kq_1020 := ⟨⟨by decide +kernel, by decide +kernel, by decide +kernel⟩, gq_1010 l, gq_1020 l⟩
theorem gq_1012 (l : Launch) : ek_ok l tQ iG kq_1012 := ek_upS iG_hI (fun _ _ => trivial) (by decide +kernel) (qk_1012 l)
theorem gq_1022 (l : Launch) : ek_ok l tQ iG kq_1022 := ek_upS iG_hI (fun _ _ => trivial) (by decide +kernel) (qk_1022 l)
theorem pl_now_4 (l : Launch) : (le_ck 0 57 1 kq_1012 [.inl (164, 2147483647)] = true ∧ le_ck 84 60 1 kq_1022 [.inl (164, 2147483647)] = true ∧ lj_fc kq_1012 kq_1022 = true) ∧ ek_ok l tQ iG kq_1012 ∧ ek_ok l tQ iG kq_1022 := ⟨⟨by decide +kernel, by decide +kernel, by decide +kernel⟩, gq_1012 l, gq_1022 l⟩
theorem pf_now (l : Launch) {tys : List (ClassId × FieldType)} {ad : Nat → Nat} {ws : va_W} (hw : ev_w tys tQ ad ws) (hI : iG ws) (hJ : jR ws) (x1 : Int32) : ∃ (κa κb : ek) (box : List en_V), le_ck 0 57 1 κa box = true ∧ le_ck 84 60 1 κb box = true ∧ ek_ok l tQ iG κa ∧ ek_ok l tQ iG κb ∧ (∀ (N : Nat) (ad : Nat → Nat), en_vs N ad box [.int x1]) ∧ lj tys ad false ws κa κb := by
  have r1 := fb_rng x1
  rcases (show (x1.toInt ≤ (-1)) ∨ (0 ≤ x1.toInt ∧ x1.toInt ≤ 7) ∨ (8 ≤ x1.toInt ∧ x1.toInt ≤ 99) ∨ (100 ≤ x1.toInt ∧ x1.toInt ≤ 163) ∨ (164 ≤ x1.toInt) from by omega) with g0 | g0 | g0 | g0 | g0
  ·
    exact ⟨kq_1004, kq_1014, [.inl ((-2147483648), (-1))], (pl_now_0 l).1.1, (pl_now_0 l).1.2.1, (pl_now_0 l).2.1, (pl_now_0 l).2.2, fun N ad => ⟨le_iv (by omega) (by omega), trivial⟩, lj_fr hw hJ (pl_now_0 l).1.2.2⟩
  ·
    exact ⟨kq_1005, kq_1015, [.inl (0, 7)], (pl_now_1 l).1.1, (pl_now_1 l).1.2.1, (pl_now_1 l).2.1, (pl_now_1 l).2.2, fun N ad => ⟨le_iv (by omega) (by omega), trivial⟩, lj_fr hw hJ (pl_now_1 l).1.2.2⟩
  ·
    exact ⟨kq_1008, kq_1018, [.inl (8, 99)], (pl_now_2 l).1.1, (pl_now_2 l).1.2.1, (pl_now_2 l).2.1, (pl_now_2 l).2.2, fun N ad => ⟨le_iv (by omega) (by omega), trivial⟩, lj_fr hw hJ (pl_now_2 l).1.2.2⟩
  ·
    exact ⟨kq_1010, kq_1020, [.inl (100, 163)], (pl_now_3 l).1.1, (pl_now_3 l).1.2.1, (pl_now_3 l).2.1, (pl_now_3 l).2.2, fun N ad => ⟨le_iv (by omega) (by omega), trivial⟩, lj_fr hw hJ (pl_now_3 l).1.2.2⟩
  ·
    exact ⟨kq_1012, kq_1022, [.inl (164, 2147483647)], (pl_now_4 l).1.1, (pl_now_4 l).1.2.1, (pl_now_4 l).2.1, (pl_now_4 l).2.2, fun N ad => ⟨le_iv (by omega) (by omega), trivial⟩, lj_fr hw hJ (pl_now_4 l).1.2.2⟩
theorem pe_now (l : Launch) {tys : List (ClassId × FieldType)} {ad : Nat → Nat} {ws : va_W} (hw : ev_w tys tQ ad ws) (hI : iG ws) (hJ : jR ws) (x1 : Int32) : ∃ (κa κb : ek) (box : List en_V), le_ck 0 57 1 κa box = true ∧ le_ck 84 60 1 κb box = true ∧ (∀ (N : Nat) (ad : Nat → Nat), en_vs N ad box [.int x1]) ∧ lq l tys ad false ws κa κb [.int x1] := by
  obtain ⟨κa, κb, box, h1, h2, h3, h4, h5, h6⟩ := pf_now l hw hI hJ x1
  exact ⟨κa, κb, box, h1, h2, h5, lq_of h1 h2 h3 h4 (h5 _ _) hw hI h6⟩
theorem gq_1023 (l : Launch) : ek_ok l tQ iG kq_1023 := ek_upS iG_hI (fun _ _ => trivial) (by decide +kernel) (qk_1023 l)
theorem gq_1038 (l : Launch) : ek_ok l tQ iG kq_1038 := ek_upS iG_hI (fun _ _ => trivial) (by decide +kernel) (qk_1038 l)
theorem pl_plain_0 (l : Launch) : (le_ck 0 61 1 kq_1023 [.inl ((-2147483648), (-1))] = true ∧ le_ck 84 64 1 kq_1038 [.inl ((-2147483648), (-1))] = true ∧ lj_fc kq_1023 kq_1038 = true) ∧ ek_ok l tQ iG kq_1023 ∧ ek_ok l tQ iG kq_1038 := ⟨⟨by decide +kernel, by decide +kernel, by decide +kernel⟩, gq_1023 l, gq_1038 l⟩
theorem gq_1032 (l : Launch) : ek_ok l tQ iG kq_1032 := ek_upS iG_hI (fun _ _ => trivial) (by decide +kernel) (qk_1032 l)
theorem gq_1044 (l : Launch) : ek_ok l tQ iG kq_1044 := ek_upS iG_hI (fun _ _ => trivial) (by decide +kernel) (qk_1044 l)
theorem pl_plain_1 (l : Launch) : (le_ck 0 61 1 kq_1032 [.inl (0, 7)] = true ∧ le_ck 84 64 1 kq_1044 [.inl (0, 7)] = true ∧ lj_fc kq_1032 kq_1044 = true) ∧ ek_ok l tQ iG kq_1032 ∧ ek_ok l tQ iG kq_1044 := ⟨⟨by decide +kernel, by decide +kernel, by decide +kernel⟩, gq_1032 l, gq_1044 l⟩
theorem gq_1033 (l : Launch) : ek_ok l tQ iG kq_1033 := ek_upS iG_hI (fun _ _ => trivial) (by decide +kernel) (qk_1033 l)
theorem gq_1045 (l : Launch) : ek_ok l tQ iG kq_1045 := ek_upS iG_hI (fun _ _ => trivial) (by decide +kernel) (qk_1045 l)
theorem pl_plain_2 (l : Launch) : (le_ck 0 61 1 kq_1033 [.inl (8, 99)] = true ∧ le_ck 84 64 1 kq_1045 [.inl (8, 99)] = true ∧ lj_fc kq_1033 kq_1045 = true) ∧ ek_ok l tQ iG kq_1033 ∧ ek_ok l tQ iG kq_1045 := ⟨⟨by decide +kernel, by decide +kernel, by decide +kernel⟩, gq_1033 l, gq_1045 l⟩
theorem gq_1034 (l : Launch) : ek_ok l tQ iG kq_1034 := ek_upS iG_hI (fun _ _ => trivial) (by decide +kernel) (qk_1034 l)
theorem gq_1046 (l : Launch) : ek_ok l tQ iG kq_1046 := ek_upS iG_hI (fun _ _ => trivial) (by decide +kernel) (qk_1046 l)
theorem pl_plain_3 (l : Launch) : (le_ck 0 61 1 kq_1034 [.inl (100, 163)] = true ∧ le_ck 84 64 1 kq_1046 [.inl (100, 163)] = true ∧ lj_fc kq_1034 kq_1046 = true) ∧ ek_ok l tQ iG kq_1034 ∧ ek_ok l tQ iG kq_1046 := ⟨⟨by decide +kernel, by decide +kernel, by decide +kernel⟩, gq_1034 l, gq_1046 l⟩
theorem gq_1035 (l : Launch) : ek_ok l tQ iG kq_1035 := ek_upS iG_hI (fun _ _ => trivial) (by decide +kernel) (qk_1035 l)
theorem gq_1047 (l : Launch) : ek_ok l tQ iG kq_1047 := ek_upS iG_hI (fun _ _ => trivial) (by decide +kernel) (qk_1047 l)
theorem pl_plain_4 (l : Launch) : (le_ck 0 61 1 kq_1035 [.inl (164, 2147483647)] = true ∧ le_ck 84 64 1 kq_1047 [.inl (164, 2147483647)] = true ∧ lj_fc kq_1035 kq_1047 = true) ∧ ek_ok l tQ iG kq_1035 ∧ ek_ok l tQ iG kq_1047 := ⟨⟨by decide +kernel, by decide +kernel, by decide +kernel⟩, gq_1035 l, gq_1047 l⟩
theorem pf_plain (l : Launch) {tys : List (ClassId × FieldType)} {ad : Nat → Nat} {ws : va_W} (hw : ev_w tys tQ ad ws) (hI : iG ws) (hJ : jR ws) (x1 : Int32) : ∃ (κa κb : ek) (box : List en_V), le_ck 0 61 1 κa box = true ∧ le_ck 84 64 1 κb box = true ∧ ek_ok l tQ iG κa ∧ ek_ok l tQ iG κb ∧ (∀ (N : Nat) (ad : Nat → Nat), en_vs N ad box [.int x1]) ∧ lj tys ad false ws κa κb := by
  have r1 := fb_rng x1
  rcases (show (x1.toInt ≤ (-1)) ∨ (0 ≤ x1.toInt ∧ x1.toInt ≤ 7) ∨ (8 ≤ x1.toInt ∧ x1.toInt ≤ 99) ∨ (100 ≤ x1.toInt ∧ x1.toInt ≤ 163) ∨ (164 ≤ x1.toInt) from by omega) with g0 | g0 | g0 | g0 | g0
  ·
    exact ⟨kq_1023, kq_1038, [.inl ((-2147483648), (-1))], (pl_plain_0 l).1.1, (pl_plain_0 l).1.2.1, (pl_plain_0 l).2.1, (pl_plain_0 l).2.2, fun N ad => ⟨le_iv (by omega) (by omega), trivial⟩, lj_fr hw hJ (pl_plain_0 l).1.2.2⟩
  ·
    exact ⟨kq_1032, kq_1044, [.inl (0, 7)], (pl_plain_1 l).1.1, (pl_plain_1 l).1.2.1, (pl_plain_1 l).2.1, (pl_plain_1 l).2.2, fun N ad => ⟨le_iv (by omega) (by omega), trivial⟩, lj_fr hw hJ (pl_plain_1 l).1.2.2⟩
  ·
    exact ⟨kq_1033, kq_1045, [.inl (8, 99)], (pl_plain_2 l).1.1, (pl_plain_2 l).1.2.1, (pl_plain_2 l).2.1, (pl_plain_2 l).2.2, fun N ad => ⟨le_iv (by omega) (by omega), trivial⟩, lj_fr hw hJ (pl_plain_2 l).1.2.2⟩
  ·
    exact ⟨kq_1034, kq_1046, [.inl (100, 163)], (pl_plain_3 l).1.1, (pl_plain_3 l).1.2.1, (pl_plain_3 l).2.1, (pl_plain_3 l).2.2, fun N ad => ⟨le_iv (by omega) (by omega), trivial⟩, lj_fr hw hJ (pl_plain_3 l).1.2.2⟩
  ·
    exact ⟨kq_1035, kq_1047, [.inl (164, 2147483647)], (pl_plain_4 l).1.1, (pl_plain_4 l).1.2.1, (pl_plain_4 l).2.1, (pl_plain_4 l).2.2, fun N ad => ⟨le_iv (by omega) (by omega), trivial⟩, lj_fr hw hJ (pl_plain_4 l).1.2.2⟩
theorem pe_plain (l : Launch) {tys : List (ClassId × FieldType)} {ad : Nat → Nat} {ws : va_W} (hw : ev_w tys tQ ad ws) (hI : iG ws) (hJ : jR ws) (x1 : Int32) : ∃ (κa κb : ek) (box : List en_V), le_ck 0 61 1 κa box = true ∧ le_ck 84 64 1 κb box = true ∧ (∀ (N : Nat) (ad : Nat → Nat), en_vs N ad box [.int x1]) ∧ lq l tys ad false ws κa κb [.int x1] := by
  obtain ⟨κa, κb, box, h1, h2, h3, h4, h5, h6⟩ := pf_plain l hw hI hJ x1
  exact ⟨κa, κb, box, h1, h2, h5, lq_of h1 h2 h3 h4 (h5 _ _) hw hI h6⟩
theorem gq_1048 (l : Launch) : ek_ok l tQ iG kq_1048 := ek_upS iG_hI (fun _ _ => trivial) (by decide +kernel) (qk_1048 l)
theorem gq_1053 (l : Launch) : ek_ok l tQ iG kq_1053 := ek_upS iG_hI (fun _ _ => trivial) (by decide +kernel) (qk_1053 l)
theorem pl_unlike_0 (l : Launch) : (le_ck 0 65 1 kq_1048 [.inl ((-2147483648), 0)] = true ∧ le_ck 84 68 1 kq_1053 [.inl ((-2147483648), 0)] = true ∧ lj_fc kq_1048 kq_1053 = true) ∧ ek_ok l tQ iG kq_1048 ∧ ek_ok l tQ iG kq_1053 := ⟨⟨by decide +kernel, by decide +kernel, by decide +kernel⟩, gq_1048 l, gq_1053 l⟩
theorem pl_unlike_1 (l : Launch) : (le_ck 0 65 1 kq_2302 [.inl (1, 4)] = true ∧ le_ck 84 68 1 kq_2303 [.inl (1, 4)] = true ∧ lj_fc kq_2302 kq_2303 = true) ∧ ek_ok l tQ iG kq_2302 ∧ ek_ok l tQ iG kq_2303 := ⟨⟨by decide +kernel, by decide +kernel, by decide +kernel⟩, qk_2302 l, qk_2303 l⟩
theorem gq_1052 (l : Launch) : ek_ok l tQ iG kq_1052 := ek_upS iG_hI (fun _ _ => trivial) (by decide +kernel) (qk_1052 l)
theorem gq_1055 (l : Launch) : ek_ok l tQ iG kq_1055 := ek_upS iG_hI (fun _ _ => trivial) (by decide +kernel) (qk_1055 l)
theorem pl_unlike_2 (l : Launch) : (le_ck 0 65 1 kq_1052 [.inl (5, 2147483647)] = true ∧ le_ck 84 68 1 kq_1055 [.inl (5, 2147483647)] = true ∧ lj_fc kq_1052 kq_1055 = true) ∧ ek_ok l tQ iG kq_1052 ∧ ek_ok l tQ iG kq_1055 := ⟨⟨by decide +kernel, by decide +kernel, by decide +kernel⟩, gq_1052 l, gq_1055 l⟩
theorem pf_unlike (l : Launch) {tys : List (ClassId × FieldType)} {ad : Nat → Nat} {ws : va_W} (hw : ev_w tys tQ ad ws) (hI : iG ws) (hJ : jR ws) (x1 : Int32) : ∃ (κa κb : ek) (box : List en_V), le_ck 0 65 1 κa box = true ∧ le_ck 84 68 1 κb box = true ∧ ek_ok l tQ iG κa ∧ ek_ok l tQ iG κb ∧ (∀ (N : Nat) (ad : Nat → Nat), en_vs N ad box [.int x1]) ∧ lj tys ad false ws κa κb := by
  have r1 := fb_rng x1
  rcases (show (x1.toInt ≤ 0) ∨ (1 ≤ x1.toInt ∧ x1.toInt ≤ 4) ∨ (5 ≤ x1.toInt) from by omega) with g0 | g0 | g0
  ·
    exact ⟨kq_1048, kq_1053, [.inl ((-2147483648), 0)], (pl_unlike_0 l).1.1, (pl_unlike_0 l).1.2.1, (pl_unlike_0 l).2.1, (pl_unlike_0 l).2.2, fun N ad => ⟨le_iv (by omega) (by omega), trivial⟩, lj_fr hw hJ (pl_unlike_0 l).1.2.2⟩
  ·
    exact ⟨kq_2302, kq_2303, [.inl (1, 4)], (pl_unlike_1 l).1.1, (pl_unlike_1 l).1.2.1, (pl_unlike_1 l).2.1, (pl_unlike_1 l).2.2, fun N ad => ⟨le_iv (by omega) (by omega), trivial⟩, lj_fr hw hJ (pl_unlike_1 l).1.2.2⟩
  ·
    exact ⟨kq_1052, kq_1055, [.inl (5, 2147483647)], (pl_unlike_2 l).1.1, (pl_unlike_2 l).1.2.1, (pl_unlike_2 l).2.1, (pl_unlike_2 l).2.2, fun N ad => ⟨le_iv (by omega) (by omega), trivial⟩, lj_fr hw hJ (pl_unlike_2 l).1.2.2⟩
theorem pe_unlike (l : Launch) {tys : List (ClassId × FieldType)} {ad : Nat → Nat} {ws : va_W} (hw : ev_w tys tQ ad ws) (hI : iG ws) (hJ : jR ws) (x1 : Int32) : ∃ (κa κb : ek) (box : List en_V), le_ck 0 65 1 κa box = true ∧ le_ck 84 68 1 κb box = true ∧ (∀ (N : Nat) (ad : Nat → Nat), en_vs N ad box [.int x1]) ∧ lq l tys ad false ws κa κb [.int x1] := by
  obtain ⟨κa, κb, box, h1, h2, h3, h4, h5, h6⟩ := pf_unlike l hw hI hJ x1
  exact ⟨κa, κb, box, h1, h2, h5, lq_of h1 h2 h3 h4 (h5 _ _) hw hI h6⟩
theorem gq_1056 (l : Launch) : ek_ok l tQ iG kq_1056 := ek_upS iG_hI (fun _ _ => trivial) (by decide +kernel) (qk_1056 l)
theorem gq_1064 (l : Launch) : ek_ok l tQ iG kq_1064 := ek_upS iG_hI (fun _ _ => trivial) (by decide +kernel) (qk_1064 l)
theorem pl_fastest_0 (l : Launch) : (le_ck 0 69 1 kq_1056 [.inl ((-2147483648), (-1))] = true ∧ le_ck 84 72 1 kq_1064 [.inl ((-2147483648), (-1))] = true ∧ lj_fc kq_1056 kq_1064 = true) ∧ ek_ok l tQ iG kq_1056 ∧ ek_ok l tQ iG kq_1064 := ⟨⟨by decide +kernel, by decide +kernel, by decide +kernel⟩, gq_1056 l, gq_1064 l⟩
theorem pl_fastest_1 (l : Launch) : (le_ck 0 69 1 kq_2304 [.inl (0, 1)] = true ∧ le_ck 84 72 1 kq_2309 [.inl (0, 1)] = true ∧ lj_fc kq_2304 kq_2309 = true) ∧ ek_ok l tQ iG kq_2304 ∧ ek_ok l tQ iG kq_2309 := ⟨⟨by decide +kernel, by decide +kernel, by decide +kernel⟩, qk_2304 l, qk_2309 l⟩
theorem gq_1062 (l : Launch) : ek_ok l tQ iG kq_1062 := ek_upS iG_hI (fun _ _ => trivial) (by decide +kernel) (qk_1062 l)
theorem gq_1083 (l : Launch) : ek_ok l tQ iG kq_1083 := ek_upS iG_hI (fun _ _ => trivial) (by decide +kernel) (qk_1083 l)
theorem pl_fastest_2 (l : Launch) : (le_ck 0 69 1 kq_1062 [.inl (2, 2147483647)] = true ∧ le_ck 84 72 1 kq_1083 [.inl (2, 2147483647)] = true ∧ lj_fc kq_1062 kq_1083 = true) ∧ ek_ok l tQ iG kq_1062 ∧ ek_ok l tQ iG kq_1083 := ⟨⟨by decide +kernel, by decide +kernel, by decide +kernel⟩, gq_1062 l, gq_1083 l⟩
theorem pf_fastest (l : Launch) {tys : List (ClassId × FieldType)} {ad : Nat → Nat} {ws : va_W} (hw : ev_w tys tQ ad ws) (hI : iG ws) (hJ : jR ws) (x1 : Int32) : ∃ (κa κb : ek) (box : List en_V), le_ck 0 69 1 κa box = true ∧ le_ck 84 72 1 κb box = true ∧ ek_ok l tQ iG κa ∧ ek_ok l tQ iG κb ∧ (∀ (N : Nat) (ad : Nat → Nat), en_vs N ad box [.int x1]) ∧ lj tys ad false ws κa κb := by
  have r1 := fb_rng x1
  rcases (show (x1.toInt ≤ (-1)) ∨ (0 ≤ x1.toInt ∧ x1.toInt ≤ 1) ∨ (2 ≤ x1.toInt) from by omega) with g0 | g0 | g0
  ·
    exact ⟨kq_1056, kq_1064, [.inl ((-2147483648), (-1))], (pl_fastest_0 l).1.1, (pl_fastest_0 l).1.2.1, (pl_fastest_0 l).2.1, (pl_fastest_0 l).2.2, fun N ad => ⟨le_iv (by omega) (by omega), trivial⟩, lj_fr hw hJ (pl_fastest_0 l).1.2.2⟩
  ·
    exact ⟨kq_2304, kq_2309, [.inl (0, 1)], (pl_fastest_1 l).1.1, (pl_fastest_1 l).1.2.1, (pl_fastest_1 l).2.1, (pl_fastest_1 l).2.2, fun N ad => ⟨le_iv (by omega) (by omega), trivial⟩, lj_fr hw hJ (pl_fastest_1 l).1.2.2⟩
  ·
    exact ⟨kq_1062, kq_1083, [.inl (2, 2147483647)], (pl_fastest_2 l).1.1, (pl_fastest_2 l).1.2.1, (pl_fastest_2 l).2.1, (pl_fastest_2 l).2.2, fun N ad => ⟨le_iv (by omega) (by omega), trivial⟩, lj_fr hw hJ (pl_fastest_2 l).1.2.2⟩
theorem pe_fastest (l : Launch) {tys : List (ClassId × FieldType)} {ad : Nat → Nat} {ws : va_W} (hw : ev_w tys tQ ad ws) (hI : iG ws) (hJ : jR ws) (x1 : Int32) : ∃ (κa κb : ek) (box : List en_V), le_ck 0 69 1 κa box = true ∧ le_ck 84 72 1 κb box = true ∧ (∀ (N : Nat) (ad : Nat → Nat), en_vs N ad box [.int x1]) ∧ lq l tys ad false ws κa κb [.int x1] := by
  obtain ⟨κa, κb, box, h1, h2, h3, h4, h5, h6⟩ := pf_fastest l hw hI hJ x1
  exact ⟨κa, κb, box, h1, h2, h5, lq_of h1 h2 h3 h4 (h5 _ _) hw hI h6⟩
theorem gq_1084 (l : Launch) : ek_ok l tQ iG kq_1084 := ek_upS iG_hI (fun _ _ => trivial) (by decide +kernel) (qk_1084 l)
theorem gq_1095 (l : Launch) : ek_ok l tQ iG kq_1095 := ek_upS iG_hI (fun _ _ => trivial) (by decide +kernel) (qk_1095 l)
theorem pl_cautious_0 (l : Launch) : (le_ck 0 73 2 kq_1084 [.inl ((-2147483648), 0), .inl ((-2147483648), 2147483647)] = true ∧ le_ck 84 76 2 kq_1095 [.inl ((-2147483648), 0), .inl ((-2147483648), 2147483647)] = true ∧ lj_fc kq_1084 kq_1095 = true) ∧ ek_ok l tQ iG kq_1084 ∧ ek_ok l tQ iG kq_1095 := ⟨⟨by decide +kernel, by decide +kernel, by decide +kernel⟩, gq_1084 l, gq_1095 l⟩
theorem pl_cautious_1 (l : Launch) : (le_ck 0 73 2 kq_2327 [.inl (1, 4), .inl ((-2147483648), 2147483647)] = true ∧ le_ck 84 76 2 kq_2330 [.inl (1, 4), .inl ((-2147483648), 2147483647)] = true ∧ lj_fc kq_2327 kq_2330 = true) ∧ ek_ok l tQ iG kq_2327 ∧ ek_ok l tQ iG kq_2330 := ⟨⟨by decide +kernel, by decide +kernel, by decide +kernel⟩, qk_2327 l, qk_2330 l⟩
theorem gq_1094 (l : Launch) : ek_ok l tQ iG kq_1094 := ek_upS iG_hI (fun _ _ => trivial) (by decide +kernel) (qk_1094 l)
theorem gq_1099 (l : Launch) : ek_ok l tQ iG kq_1099 := ek_upS iG_hI (fun _ _ => trivial) (by decide +kernel) (qk_1099 l)
theorem pl_cautious_2 (l : Launch) : (le_ck 0 73 2 kq_1094 [.inl (5, 2147483647), .inl ((-2147483648), 2147483647)] = true ∧ le_ck 84 76 2 kq_1099 [.inl (5, 2147483647), .inl ((-2147483648), 2147483647)] = true ∧ lj_fc kq_1094 kq_1099 = true) ∧ ek_ok l tQ iG kq_1094 ∧ ek_ok l tQ iG kq_1099 := ⟨⟨by decide +kernel, by decide +kernel, by decide +kernel⟩, gq_1094 l, gq_1099 l⟩
theorem pf_cautious (l : Launch) {tys : List (ClassId × FieldType)} {ad : Nat → Nat} {ws : va_W} (hw : ev_w tys tQ ad ws) (hI : iG ws) (hJ : jR ws) (x1 x2 : Int32) : ∃ (κa κb : ek) (box : List en_V), le_ck 0 73 2 κa box = true ∧ le_ck 84 76 2 κb box = true ∧ ek_ok l tQ iG κa ∧ ek_ok l tQ iG κb ∧ (∀ (N : Nat) (ad : Nat → Nat), en_vs N ad box [.int x1, .int x2]) ∧ lj tys ad false ws κa κb := by
  have r1 := fb_rng x1
  have r2 := fb_rng x2
  rcases (show (x1.toInt ≤ 0) ∨ (1 ≤ x1.toInt ∧ x1.toInt ≤ 4) ∨ (5 ≤ x1.toInt) from by omega) with g0 | g0 | g0
  ·
    exact ⟨kq_1084, kq_1095, [.inl ((-2147483648), 0), .inl ((-2147483648), 2147483647)], (pl_cautious_0 l).1.1, (pl_cautious_0 l).1.2.1, (pl_cautious_0 l).2.1, (pl_cautious_0 l).2.2, fun N ad => ⟨le_iv (by omega) (by omega), le_iv (by omega) (by omega), trivial⟩, lj_fr hw hJ (pl_cautious_0 l).1.2.2⟩
  ·
    exact ⟨kq_2327, kq_2330, [.inl (1, 4), .inl ((-2147483648), 2147483647)], (pl_cautious_1 l).1.1, (pl_cautious_1 l).1.2.1, (pl_cautious_1 l).2.1, (pl_cautious_1 l).2.2, fun N ad => ⟨le_iv (by omega) (by omega), le_iv (by omega) (by omega), trivial⟩, lj_fr hw hJ (pl_cautious_1 l).1.2.2⟩
  ·
    exact ⟨kq_1094, kq_1099, [.inl (5, 2147483647), .inl ((-2147483648), 2147483647)], (pl_cautious_2 l).1.1, (pl_cautious_2 l).1.2.1, (pl_cautious_2 l).2.1, (pl_cautious_2 l).2.2, fun N ad => ⟨le_iv (by omega) (by omega), le_iv (by omega) (by omega), trivial⟩, lj_fr hw hJ (pl_cautious_2 l).1.2.2⟩
theorem pe_cautious (l : Launch) {tys : List (ClassId × FieldType)} {ad : Nat → Nat} {ws : va_W} (hw : ev_w tys tQ ad ws) (hI : iG ws) (hJ : jR ws) (x1 x2 : Int32) : ∃ (κa κb : ek) (box : List en_V), le_ck 0 73 2 κa box = true ∧ le_ck 84 76 2 κb box = true ∧ (∀ (N : Nat) (ad : Nat → Nat), en_vs N ad box [.int x1, .int x2]) ∧ lq l tys ad false ws κa κb [.int x1, .int x2] := by
  obtain ⟨κa, κb, box, h1, h2, h3, h4, h5, h6⟩ := pf_cautious l hw hI hJ x1 x2
  exact ⟨κa, κb, box, h1, h2, h5, lq_of h1 h2 h3 h4 (h5 _ _) hw hI h6⟩
theorem gq_1100 (l : Launch) : ek_ok l tQ iG kq_1100 := ek_upS iG_hI (fun _ _ => trivial) (by decide +kernel) (qk_1100 l)
theorem gq_1103 (l : Launch) : ek_ok l tQ iG kq_1103 := ek_upS iG_hI (fun _ _ => trivial) (by decide +kernel) (qk_1103 l)
theorem pl_worst_0 (l : Launch) : (le_ck 0 77 1 kq_1100 [.inl ((-2147483648), (-1))] = true ∧ le_ck 84 80 1 kq_1103 [.inl ((-2147483648), (-1))] = true ∧ lj_fc kq_1100 kq_1103 = true) ∧ ek_ok l tQ iG kq_1100 ∧ ek_ok l tQ iG kq_1103 := ⟨⟨by decide +kernel, by decide +kernel, by decide +kernel⟩, gq_1100 l, gq_1103 l⟩
theorem gq_1101 (l : Launch) : ek_ok l tQ iG kq_1101 := ek_upS iG_hI (fun _ _ => trivial) (by decide +kernel) (qk_1101 l)
theorem gq_1105 (l : Launch) : ek_ok l tQ iG kq_1105 := ek_upS iG_hI (fun _ _ => trivial) (by decide +kernel) (qk_1105 l)
theorem pl_worst_1 (l : Launch) : (le_ck 0 77 1 kq_1101 [.inl (0, 1)] = true ∧ le_ck 84 80 1 kq_1105 [.inl (0, 1)] = true ∧ lj_fc kq_1101 kq_1105 = true) ∧ ek_ok l tQ iG kq_1101 ∧ ek_ok l tQ iG kq_1105 := ⟨⟨by decide +kernel, by decide +kernel, by decide +kernel⟩, gq_1101 l, gq_1105 l⟩
theorem gq_1102 (l : Launch) : ek_ok l tQ iG kq_1102 := ek_upS iG_hI (fun _ _ => trivial) (by decide +kernel) (qk_1102 l)
theorem gq_1106 (l : Launch) : ek_ok l tQ iG kq_1106 := ek_upS iG_hI (fun _ _ => trivial) (by decide +kernel) (qk_1106 l)
theorem pl_worst_2 (l : Launch) : (le_ck 0 77 1 kq_1102 [.inl (2, 2147483647)] = true ∧ le_ck 84 80 1 kq_1106 [.inl (2, 2147483647)] = true ∧ lj_fc kq_1102 kq_1106 = true) ∧ ek_ok l tQ iG kq_1102 ∧ ek_ok l tQ iG kq_1106 := ⟨⟨by decide +kernel, by decide +kernel, by decide +kernel⟩, gq_1102 l, gq_1106 l⟩
theorem pf_worst (l : Launch) {tys : List (ClassId × FieldType)} {ad : Nat → Nat} {ws : va_W} (hw : ev_w tys tQ ad ws) (hI : iG ws) (hJ : jR ws) (x1 : Int32) : ∃ (κa κb : ek) (box : List en_V), le_ck 0 77 1 κa box = true ∧ le_ck 84 80 1 κb box = true ∧ ek_ok l tQ iG κa ∧ ek_ok l tQ iG κb ∧ (∀ (N : Nat) (ad : Nat → Nat), en_vs N ad box [.int x1]) ∧ lj tys ad false ws κa κb := by
  have r1 := fb_rng x1
  rcases (show (x1.toInt ≤ (-1)) ∨ (0 ≤ x1.toInt ∧ x1.toInt ≤ 1) ∨ (2 ≤ x1.toInt) from by omega) with g0 | g0 | g0
  ·
    exact ⟨kq_1100, kq_1103, [.inl ((-2147483648), (-1))], (pl_worst_0 l).1.1, (pl_worst_0 l).1.2.1, (pl_worst_0 l).2.1, (pl_worst_0 l).2.2, fun N ad => ⟨le_iv (by omega) (by omega), trivial⟩, lj_fr hw hJ (pl_worst_0 l).1.2.2⟩
  ·
    exact ⟨kq_1101, kq_1105, [.inl (0, 1)], (pl_worst_1 l).1.1, (pl_worst_1 l).1.2.1, (pl_worst_1 l).2.1, (pl_worst_1 l).2.2, fun N ad => ⟨le_iv (by omega) (by omega), trivial⟩, lj_fr hw hJ (pl_worst_1 l).1.2.2⟩
  ·
    exact ⟨kq_1102, kq_1106, [.inl (2, 2147483647)], (pl_worst_2 l).1.1, (pl_worst_2 l).1.2.1, (pl_worst_2 l).2.1, (pl_worst_2 l).2.2, fun N ad => ⟨le_iv (by omega) (by omega), trivial⟩, lj_fr hw hJ (pl_worst_2 l).1.2.2⟩
theorem pe_worst (l : Launch) {tys : List (ClassId × FieldType)} {ad : Nat → Nat} {ws : va_W} (hw : ev_w tys tQ ad ws) (hI : iG ws) (hJ : jR ws) (x1 : Int32) : ∃ (κa κb : ek) (box : List en_V), le_ck 0 77 1 κa box = true ∧ le_ck 84 80 1 κb box = true ∧ (∀ (N : Nat) (ad : Nat → Nat), en_vs N ad box [.int x1]) ∧ lq l tys ad false ws κa κb [.int x1] := by
  obtain ⟨κa, κb, box, h1, h2, h3, h4, h5, h6⟩ := pf_worst l hw hI hJ x1
  exact ⟨κa, κb, box, h1, h2, h5, lq_of h1 h2 h3 h4 (h5 _ _) hw hI h6⟩
theorem gq_1107 (l : Launch) : ek_ok l tQ iG kq_1107 := ek_upS iG_hI (fun _ _ => trivial) (by decide +kernel) (qk_1107 l)
theorem gq_1111 (l : Launch) : ek_ok l tQ iG kq_1111 := ek_upS iG_hI (fun _ _ => trivial) (by decide +kernel) (qk_1111 l)
theorem pl_deep_0 (l : Launch) : (le_ck 0 81 0 kq_1107 [] = true ∧ le_ck 84 85 0 kq_1111 [] = true ∧ lj_fc kq_1107 kq_1111 = true) ∧ ek_ok l tQ iG kq_1107 ∧ ek_ok l tQ iG kq_1111 := ⟨⟨by decide +kernel, by decide +kernel, by decide +kernel⟩, gq_1107 l, gq_1111 l⟩
theorem pf_deep (l : Launch) {tys : List (ClassId × FieldType)} {ad : Nat → Nat} {ws : va_W} (hw : ev_w tys tQ ad ws) (hI : iG ws) (hJ : jR ws) : ∃ (κa κb : ek) (box : List en_V), le_ck 0 81 0 κa box = true ∧ le_ck 84 85 0 κb box = true ∧ ek_ok l tQ iG κa ∧ ek_ok l tQ iG κb ∧ (∀ (N : Nat) (ad : Nat → Nat), en_vs N ad box []) ∧ lj tys ad false ws κa κb := by
  exact ⟨kq_1107, kq_1111, [], (pl_deep_0 l).1.1, (pl_deep_0 l).1.2.1, (pl_deep_0 l).2.1, (pl_deep_0 l).2.2, fun N ad => trivial, lj_fr hw hJ (pl_deep_0 l).1.2.2⟩
theorem pe_deep (l : Launch) {tys : List (ClassId × FieldType)} {ad : Nat → Nat} {ws : va_W} (hw : ev_w tys tQ ad ws) (hI : iG ws) (hJ : jR ws) : ∃ (κa κb : ek) (box : List en_V), le_ck 0 81 0 κa box = true ∧ le_ck 84 85 0 κb box = true ∧ (∀ (N : Nat) (ad : Nat → Nat), en_vs N ad box []) ∧ lq l tys ad false ws κa κb [] := by
  obtain ⟨κa, κb, box, h1, h2, h3, h4, h5, h6⟩ := pf_deep l hw hI hJ
  exact ⟨κa, κb, box, h1, h2, h5, lq_of h1 h2 h3 h4 (h5 _ _) hw hI h6⟩
theorem gq_1132 (l : Launch) : ek_ok l tQ iG kq_1132 := ek_upS iG_hI (fun _ _ => trivial) (by decide +kernel) (qk_1132 l)
theorem gq_1142 (l : Launch) : ek_ok l tQ iG kq_1142 := ek_upS iG_hI (fun _ _ => trivial) (by decide +kernel) (qk_1142 l)
theorem pl_mix_0 (l : Launch) : (le_ck 0 86 0 kq_1132 [] = true ∧ le_ck 84 89 0 kq_1142 [] = true ∧ lj_fc kq_1132 kq_1142 = true) ∧ ek_ok l tQ iG kq_1132 ∧ ek_ok l tQ iG kq_1142 := ⟨⟨by decide +kernel, by decide +kernel, by decide +kernel⟩, gq_1132 l, gq_1142 l⟩
theorem pf_mix (l : Launch) {tys : List (ClassId × FieldType)} {ad : Nat → Nat} {ws : va_W} (hw : ev_w tys tQ ad ws) (hI : iG ws) (hJ : jR ws) : ∃ (κa κb : ek) (box : List en_V), le_ck 0 86 0 κa box = true ∧ le_ck 84 89 0 κb box = true ∧ ek_ok l tQ iG κa ∧ ek_ok l tQ iG κb ∧ (∀ (N : Nat) (ad : Nat → Nat), en_vs N ad box []) ∧ lj tys ad false ws κa κb := by
  exact ⟨kq_1132, kq_1142, [], (pl_mix_0 l).1.1, (pl_mix_0 l).1.2.1, (pl_mix_0 l).2.1, (pl_mix_0 l).2.2, fun N ad => trivial, lj_fr hw hJ (pl_mix_0 l).1.2.2⟩
theorem pe_mix (l : Launch) {tys : List (ClassId × FieldType)} {ad : Nat → Nat} {ws : va_W} (hw : ev_w tys tQ ad ws) (hI : iG ws) (hJ : jR ws) : ∃ (κa κb : ek) (box : List en_V), le_ck 0 86 0 κa box = true ∧ le_ck 84 89 0 κb box = true ∧ (∀ (N : Nat) (ad : Nat → Nat), en_vs N ad box []) ∧ lq l tys ad false ws κa κb [] := by
  obtain ⟨κa, κb, box, h1, h2, h3, h4, h5, h6⟩ := pf_mix l hw hI hJ
  exact ⟨κa, κb, box, h1, h2, h5, lq_of h1 h2 h3 h4 (h5 _ _) hw hI h6⟩
theorem gq_1151 (l : Launch) : ek_ok l tQ iG kq_1151 := ek_upS iG_hI (fun _ _ => trivial) (by decide +kernel) (qk_1151 l)
theorem gq_1157 (l : Launch) : ek_ok l tQ iG kq_1157 := ek_upS iG_hI (fun _ _ => trivial) (by decide +kernel) (qk_1157 l)
theorem pl_watch_0 (l : Launch) : (le_ck 0 90 2 kq_1151 [.inl ((-2147483648), (-1)), .inl ((-2147483648), 2147483647)] = true ∧ le_ck 84 93 2 kq_1157 [.inl ((-2147483648), (-1)), .inl ((-2147483648), 2147483647)] = true ∧ lj_fc kq_1151 kq_1157 = true) ∧ ek_ok l tQ iG kq_1151 ∧ ek_ok l tQ iG kq_1157 := ⟨⟨by decide +kernel, by decide +kernel, by decide +kernel⟩, gq_1151 l, gq_1157 l⟩
theorem gq_1152 (l : Launch) : ek_ok l tQ iG kq_1152 := ek_upS iG_hI (fun _ _ => trivial) (by decide +kernel) (qk_1152 l)
theorem gq_1158 (l : Launch) : ek_ok l tQ iG kq_1158 := ek_upS iG_hI (fun _ _ => trivial) (by decide +kernel) (qk_1158 l)
theorem pl_watch_1 (l : Launch) : (le_ck 0 90 2 kq_1152 [.inl (2, 2147483647), .inl ((-2147483648), 2147483647)] = true ∧ le_ck 84 93 2 kq_1158 [.inl (2, 2147483647), .inl ((-2147483648), 2147483647)] = true ∧ lj_fc kq_1152 kq_1158 = true) ∧ ek_ok l tQ iG kq_1152 ∧ ek_ok l tQ iG kq_1158 := ⟨⟨by decide +kernel, by decide +kernel, by decide +kernel⟩, gq_1152 l, gq_1158 l⟩
theorem gq_1153 (l : Launch) : ek_ok l tQ iG kq_1153 := ek_upS iG_hI (fun _ _ => trivial) (by decide +kernel) (qk_1153 l)
theorem gq_1159 (l : Launch) : ek_ok l tQ iG kq_1159 := ek_upS iG_hI (fun _ _ => trivial) (by decide +kernel) (qk_1159 l)
theorem pl_watch_2 (l : Launch) : (le_ck 0 90 2 kq_1153 [.inl (0, 1), .inl ((-2147483648), (-1))] = true ∧ le_ck 84 93 2 kq_1159 [.inl (0, 1), .inl ((-2147483648), (-1))] = true ∧ lj_fc kq_1153 kq_1159 = true) ∧ ek_ok l tQ iG kq_1153 ∧ ek_ok l tQ iG kq_1159 := ⟨⟨by decide +kernel, by decide +kernel, by decide +kernel⟩, gq_1153 l, gq_1159 l⟩
theorem gq_1156 (l : Launch) : ek_ok l tQ iG kq_1156 := ek_upS iG_hI (fun _ _ => trivial) (by decide +kernel) (qk_1156 l)
theorem gq_1160 (l : Launch) : ek_ok l tQ iG kq_1160 := ek_upS iG_hI (fun _ _ => trivial) (by decide +kernel) (qk_1160 l)
theorem pl_watch_3 (l : Launch) : (le_ck 0 90 2 kq_1156 [.inl (0, 1), .inl (0, 2147483647)] = true ∧ le_ck 84 93 2 kq_1160 [.inl (0, 1), .inl (0, 2147483647)] = true ∧ lj_fc kq_1156 kq_1160 = true) ∧ ek_ok l tQ iG kq_1156 ∧ ek_ok l tQ iG kq_1160 := ⟨⟨by decide +kernel, by decide +kernel, by decide +kernel⟩, gq_1156 l, gq_1160 l⟩
theorem pf_watch (l : Launch) {tys : List (ClassId × FieldType)} {ad : Nat → Nat} {ws : va_W} (hw : ev_w tys tQ ad ws) (hI : iG ws) (hJ : jR ws) (x1 x2 : Int32) : ∃ (κa κb : ek) (box : List en_V), le_ck 0 90 2 κa box = true ∧ le_ck 84 93 2 κb box = true ∧ ek_ok l tQ iG κa ∧ ek_ok l tQ iG κb ∧ (∀ (N : Nat) (ad : Nat → Nat), en_vs N ad box [.int x1, .int x2]) ∧ lj tys ad false ws κa κb := by
  have r1 := fb_rng x1
  have r2 := fb_rng x2
  rcases (show (x1.toInt ≤ (-1)) ∨ (2 ≤ x1.toInt) ∨ (0 ≤ x1.toInt ∧ x1.toInt ≤ 1 ∧ x2.toInt ≤ (-1)) ∨ (0 ≤ x1.toInt ∧ x1.toInt ≤ 1 ∧ 0 ≤ x2.toInt) from by omega) with g | g | g | g
  · exact ⟨kq_1151, kq_1157, [.inl ((-2147483648), (-1)), .inl ((-2147483648), 2147483647)], (pl_watch_0 l).1.1, (pl_watch_0 l).1.2.1, (pl_watch_0 l).2.1, (pl_watch_0 l).2.2, fun N ad => ⟨le_iv (by omega) (by omega), le_iv (by omega) (by omega), trivial⟩, lj_fr hw hJ (pl_watch_0 l).1.2.2⟩
  · exact ⟨kq_1152, kq_1158, [.inl (2, 2147483647), .inl ((-2147483648), 2147483647)], (pl_watch_1 l).1.1, (pl_watch_1 l).1.2.1, (pl_watch_1 l).2.1, (pl_watch_1 l).2.2, fun N ad => ⟨le_iv (by omega) (by omega), le_iv (by omega) (by omega), trivial⟩, lj_fr hw hJ (pl_watch_1 l).1.2.2⟩
  · exact ⟨kq_1153, kq_1159, [.inl (0, 1), .inl ((-2147483648), (-1))], (pl_watch_2 l).1.1, (pl_watch_2 l).1.2.1, (pl_watch_2 l).2.1, (pl_watch_2 l).2.2, fun N ad => ⟨le_iv (by omega) (by omega), le_iv (by omega) (by omega), trivial⟩, lj_fr hw hJ (pl_watch_2 l).1.2.2⟩
  · exact ⟨kq_1156, kq_1160, [.inl (0, 1), .inl (0, 2147483647)], (pl_watch_3 l).1.1, (pl_watch_3 l).1.2.1, (pl_watch_3 l).2.1, (pl_watch_3 l).2.2, fun N ad => ⟨le_iv (by omega) (by omega), le_iv (by omega) (by omega), trivial⟩, lj_fr hw hJ (pl_watch_3 l).1.2.2⟩
theorem pe_watch (l : Launch) {tys : List (ClassId × FieldType)} {ad : Nat → Nat} {ws : va_W} (hw : ev_w tys tQ ad ws) (hI : iG ws) (hJ : jR ws) (x1 x2 : Int32) : ∃ (κa κb : ek) (box : List en_V), le_ck 0 90 2 κa box = true ∧ le_ck 84 93 2 κb box = true ∧ (∀ (N : Nat) (ad : Nat → Nat), en_vs N ad box [.int x1, .int x2]) ∧ lq l tys ad false ws κa κb [.int x1, .int x2] := by
  obtain ⟨κa, κb, box, h1, h2, h3, h4, h5, h6⟩ := pf_watch l hw hI hJ x1 x2
  exact ⟨κa, κb, box, h1, h2, h5, lq_of h1 h2 h3 h4 (h5 _ _) hw hI h6⟩
theorem gq_1161 (l : Launch) : ek_ok l tQ iG kq_1161 := ek_upS iG_hI (fun _ _ => trivial) (by decide +kernel) (qk_1161 l)
theorem gq_1168 (l : Launch) : ek_ok l tQ iG kq_1168 := ek_upS iG_hI (fun _ _ => trivial) (by decide +kernel) (qk_1168 l)
theorem pl_watched_0 (l : Launch) : (le_ck 0 94 3 kq_1161 [.inl ((-2147483648), (-1)), .inl ((-2147483648), 2147483647), .inl ((-2147483648), 2147483647)] = true ∧ le_ck 84 98 3 kq_1168 [.inl ((-2147483648), (-1)), .inl ((-2147483648), 2147483647), .inl ((-2147483648), 2147483647)] = true ∧ lj_fc kq_1161 kq_1168 = true) ∧ ek_ok l tQ iG kq_1161 ∧ ek_ok l tQ iG kq_1168 := ⟨⟨by decide +kernel, by decide +kernel, by decide +kernel⟩, gq_1161 l, gq_1168 l⟩
theorem gq_1162 (l : Launch) : ek_ok l tQ iG kq_1162 := ek_upS iG_hI (fun _ _ => trivial) (by decide +kernel) (qk_1162 l)
theorem gq_1169 (l : Launch) : ek_ok l tQ iG kq_1169 := ek_upS iG_hI (fun _ _ => trivial) (by decide +kernel) (qk_1169 l)
theorem pl_watched_1 (l : Launch) : (le_ck 0 94 3 kq_1162 [.inl (2, 2147483647), .inl ((-2147483648), 2147483647), .inl ((-2147483648), 2147483647)] = true ∧ le_ck 84 98 3 kq_1169 [.inl (2, 2147483647), .inl ((-2147483648), 2147483647), .inl ((-2147483648), 2147483647)] = true ∧ lj_fc kq_1162 kq_1169 = true) ∧ ek_ok l tQ iG kq_1162 ∧ ek_ok l tQ iG kq_1169 := ⟨⟨by decide +kernel, by decide +kernel, by decide +kernel⟩, gq_1162 l, gq_1169 l⟩
theorem gq_1163 (l : Launch) : ek_ok l tQ iG kq_1163 := ek_upS iG_hI (fun _ _ => trivial) (by decide +kernel) (qk_1163 l)
theorem gq_1170 (l : Launch) : ek_ok l tQ iG kq_1170 := ek_upS iG_hI (fun _ _ => trivial) (by decide +kernel) (qk_1170 l)
theorem pl_watched_2 (l : Launch) : (le_ck 0 94 3 kq_1163 [.inl (0, 1), .inl ((-2147483648), (-1)), .inl ((-2147483648), 2147483647)] = true ∧ le_ck 84 98 3 kq_1170 [.inl (0, 1), .inl ((-2147483648), (-1)), .inl ((-2147483648), 2147483647)] = true ∧ lj_fc kq_1163 kq_1170 = true) ∧ ek_ok l tQ iG kq_1163 ∧ ek_ok l tQ iG kq_1170 := ⟨⟨by decide +kernel, by decide +kernel, by decide +kernel⟩, gq_1163 l, gq_1170 l⟩
theorem gq_1164 (l : Launch) : ek_ok l tQ iG kq_1164 := ek_upS iG_hI (fun _ _ => trivial) (by decide +kernel) (qk_1164 l)
theorem gq_1172 (l : Launch) : ek_ok l tQ iG kq_1172 := ek_upS iG_hI (fun _ _ => trivial) (by decide +kernel) (qk_1172 l)
theorem pl_watched_3 (l : Launch) : (le_ck 0 94 3 kq_1164 [.inl (0, 1), .inl (0, 2147483647), .inl ((-2147483648), (-1))] = true ∧ le_ck 84 98 3 kq_1172 [.inl (0, 1), .inl (0, 2147483647), .inl ((-2147483648), (-1))] = true ∧ lj_fc kq_1164 kq_1172 = true) ∧ ek_ok l tQ iG kq_1164 ∧ ek_ok l tQ iG kq_1172 := ⟨⟨by decide +kernel, by decide +kernel, by decide +kernel⟩, gq_1164 l, gq_1172 l⟩
theorem gq_1166 (l : Launch) : ek_ok l tQ iG kq_1166 := ek_upS iG_hI (fun _ _ => trivial) (by decide +kernel) (qk_1166 l)
theorem gq_1174 (l : Launch) : ek_ok l tQ iG kq_1174 := ek_upS iG_hI (fun _ _ => trivial) (by decide +kernel) (qk_1174 l)
theorem pl_watched_4 (l : Launch) : (le_ck 0 94 3 kq_1166 [.inl (0, 1), .inl (0, 2147483647), .inl (0, 6)] = true ∧ le_ck 84 98 3 kq_1174 [.inl (0, 1), .inl (0, 2147483647), .inl (0, 6)] = true ∧ lj_fc kq_1166 kq_1174 = true) ∧ ek_ok l tQ iG kq_1166 ∧ ek_ok l tQ iG kq_1174 := ⟨⟨by decide +kernel, by decide +kernel, by decide +kernel⟩, gq_1166 l, gq_1174 l⟩
theorem gq_1167 (l : Launch) : ek_ok l tQ iG kq_1167 := ek_upS iG_hI (fun _ _ => trivial) (by decide +kernel) (qk_1167 l)
theorem gq_1176 (l : Launch) : ek_ok l tQ iG kq_1176 := ek_upS iG_hI (fun _ _ => trivial) (by decide +kernel) (qk_1176 l)
theorem pl_watched_5 (l : Launch) : (le_ck 0 94 3 kq_1167 [.inl (0, 1), .inl (0, 2147483647), .inl (7, 2147483647)] = true ∧ le_ck 84 98 3 kq_1176 [.inl (0, 1), .inl (0, 2147483647), .inl (7, 2147483647)] = true ∧ lj_fc kq_1167 kq_1176 = true) ∧ ek_ok l tQ iG kq_1167 ∧ ek_ok l tQ iG kq_1176 := ⟨⟨by decide +kernel, by decide +kernel, by decide +kernel⟩, gq_1167 l, gq_1176 l⟩
theorem pf_watched (l : Launch) {tys : List (ClassId × FieldType)} {ad : Nat → Nat} {ws : va_W} (hw : ev_w tys tQ ad ws) (hI : iG ws) (hJ : jR ws) (x1 x2 x3 : Int32) : ∃ (κa κb : ek) (box : List en_V), le_ck 0 94 3 κa box = true ∧ le_ck 84 98 3 κb box = true ∧ ek_ok l tQ iG κa ∧ ek_ok l tQ iG κb ∧ (∀ (N : Nat) (ad : Nat → Nat), en_vs N ad box [.int x1, .int x2, .int x3]) ∧ lj tys ad false ws κa κb := by
  have r1 := fb_rng x1
  have r2 := fb_rng x2
  have r3 := fb_rng x3
  rcases (show (x1.toInt ≤ (-1)) ∨ (2 ≤ x1.toInt) ∨ (0 ≤ x1.toInt ∧ x1.toInt ≤ 1 ∧ x2.toInt ≤ (-1)) ∨ (0 ≤ x1.toInt ∧ x1.toInt ≤ 1 ∧ 0 ≤ x2.toInt ∧ x3.toInt ≤ (-1)) ∨ (0 ≤ x1.toInt ∧ x1.toInt ≤ 1 ∧ 0 ≤ x2.toInt ∧ 0 ≤ x3.toInt ∧ x3.toInt ≤ 6) ∨ (0 ≤ x1.toInt ∧ x1.toInt ≤ 1 ∧ 0 ≤ x2.toInt ∧ 7 ≤ x3.toInt) from by omega) with g | g | g | g | g | g
  · exact ⟨kq_1161, kq_1168, [.inl ((-2147483648), (-1)), .inl ((-2147483648), 2147483647), .inl ((-2147483648), 2147483647)], (pl_watched_0 l).1.1, (pl_watched_0 l).1.2.1, (pl_watched_0 l).2.1, (pl_watched_0 l).2.2, fun N ad => ⟨le_iv (by omega) (by omega), le_iv (by omega) (by omega), le_iv (by omega) (by omega), trivial⟩, lj_fr hw hJ (pl_watched_0 l).1.2.2⟩
  · exact ⟨kq_1162, kq_1169, [.inl (2, 2147483647), .inl ((-2147483648), 2147483647), .inl ((-2147483648), 2147483647)], (pl_watched_1 l).1.1, (pl_watched_1 l).1.2.1, (pl_watched_1 l).2.1, (pl_watched_1 l).2.2, fun N ad => ⟨le_iv (by omega) (by omega), le_iv (by omega) (by omega), le_iv (by omega) (by omega), trivial⟩, lj_fr hw hJ (pl_watched_1 l).1.2.2⟩
  · exact ⟨kq_1163, kq_1170, [.inl (0, 1), .inl ((-2147483648), (-1)), .inl ((-2147483648), 2147483647)], (pl_watched_2 l).1.1, (pl_watched_2 l).1.2.1, (pl_watched_2 l).2.1, (pl_watched_2 l).2.2, fun N ad => ⟨le_iv (by omega) (by omega), le_iv (by omega) (by omega), le_iv (by omega) (by omega), trivial⟩, lj_fr hw hJ (pl_watched_2 l).1.2.2⟩
  · exact ⟨kq_1164, kq_1172, [.inl (0, 1), .inl (0, 2147483647), .inl ((-2147483648), (-1))], (pl_watched_3 l).1.1, (pl_watched_3 l).1.2.1, (pl_watched_3 l).2.1, (pl_watched_3 l).2.2, fun N ad => ⟨le_iv (by omega) (by omega), le_iv (by omega) (by omega), le_iv (by omega) (by omega), trivial⟩, lj_fr hw hJ (pl_watched_3 l).1.2.2⟩
  · exact ⟨kq_1166, kq_1174, [.inl (0, 1), .inl (0, 2147483647), .inl (0, 6)], (pl_watched_4 l).1.1, (pl_watched_4 l).1.2.1, (pl_watched_4 l).2.1, (pl_watched_4 l).2.2, fun N ad => ⟨le_iv (by omega) (by omega), le_iv (by omega) (by omega), le_iv (by omega) (by omega), trivial⟩, lj_fr hw hJ (pl_watched_4 l).1.2.2⟩
  · exact ⟨kq_1167, kq_1176, [.inl (0, 1), .inl (0, 2147483647), .inl (7, 2147483647)], (pl_watched_5 l).1.1, (pl_watched_5 l).1.2.1, (pl_watched_5 l).2.1, (pl_watched_5 l).2.2, fun N ad => ⟨le_iv (by omega) (by omega), le_iv (by omega) (by omega), le_iv (by omega) (by omega), trivial⟩, lj_fr hw hJ (pl_watched_5 l).1.2.2⟩
theorem pe_watched (l : Launch) {tys : List (ClassId × FieldType)} {ad : Nat → Nat} {ws : va_W} (hw : ev_w tys tQ ad ws) (hI : iG ws) (hJ : jR ws) (x1 x2 x3 : Int32) : ∃ (κa κb : ek) (box : List en_V), le_ck 0 94 3 κa box = true ∧ le_ck 84 98 3 κb box = true ∧ (∀ (N : Nat) (ad : Nat → Nat), en_vs N ad box [.int x1, .int x2, .int x3]) ∧ lq l tys ad false ws κa κb [.int x1, .int x2, .int x3] := by
  obtain ⟨κa, κb, box, h1, h2, h3, h4, h5, h6⟩ := pf_watched l hw hI hJ x1 x2 x3
  exact ⟨κa, κb, box, h1, h2, h5, lq_of h1 h2 h3 h4 (h5 _ _) hw hI h6⟩
theorem gq_1178 (l : Launch) : ek_ok l tQ iG kq_1178 := ek_upS iG_hI (fun _ _ => trivial) (by decide +kernel) (qk_1178 l)
theorem gq_1180 (l : Launch) : ek_ok l tQ iG kq_1180 := ek_upS iG_hI (fun _ _ => trivial) (by decide +kernel) (qk_1180 l)
theorem pl_forget_0 (l : Launch) : (le_ck 0 99 0 kq_1178 [] = true ∧ le_ck 84 102 0 kq_1180 [] = true ∧ lj_fc kq_1178 kq_1180 = true) ∧ ek_ok l tQ iG kq_1178 ∧ ek_ok l tQ iG kq_1180 := ⟨⟨by decide +kernel, by decide +kernel, by decide +kernel⟩, gq_1178 l, gq_1180 l⟩
theorem pf_forget (l : Launch) {tys : List (ClassId × FieldType)} {ad : Nat → Nat} {ws : va_W} (hw : ev_w tys tQ ad ws) (hI : iG ws) (hJ : jR ws) : ∃ (κa κb : ek) (box : List en_V), le_ck 0 99 0 κa box = true ∧ le_ck 84 102 0 κb box = true ∧ ek_ok l tQ iG κa ∧ ek_ok l tQ iG κb ∧ (∀ (N : Nat) (ad : Nat → Nat), en_vs N ad box []) ∧ lj tys ad false ws κa κb := by
  exact ⟨kq_1178, kq_1180, [], (pl_forget_0 l).1.1, (pl_forget_0 l).1.2.1, (pl_forget_0 l).2.1, (pl_forget_0 l).2.2, fun N ad => trivial, lj_fr hw hJ (pl_forget_0 l).1.2.2⟩
theorem pe_forget (l : Launch) {tys : List (ClassId × FieldType)} {ad : Nat → Nat} {ws : va_W} (hw : ev_w tys tQ ad ws) (hI : iG ws) (hJ : jR ws) : ∃ (κa κb : ek) (box : List en_V), le_ck 0 99 0 κa box = true ∧ le_ck 84 102 0 κb box = true ∧ (∀ (N : Nat) (ad : Nat → Nat), en_vs N ad box []) ∧ lq l tys ad false ws κa κb [] := by
  obtain ⟨κa, κb, box, h1, h2, h3, h4, h5, h6⟩ := pf_forget l hw hI hJ
  exact ⟨κa, κb, box, h1, h2, h5, lq_of h1 h2 h3 h4 (h5 _ _) hw hI h6⟩
theorem gq_1181 (l : Launch) : ek_ok l tQ iG kq_1181 := ek_upS iG_hI (fun _ _ => trivial) (by decide +kernel) (qk_1181 l)
theorem gq_1185 (l : Launch) : ek_ok l tQ iG kq_1185 := ek_upS iG_hI (fun _ _ => trivial) (by decide +kernel) (qk_1185 l)
theorem pl_seed_0 (l : Launch) : (le_ck 0 103 1 kq_1181 [.inl ((-2147483648), (-1))] = true ∧ le_ck 84 107 1 kq_1185 [.inl ((-2147483648), (-1))] = true ∧ lj_fc kq_1181 kq_1185 = true) ∧ ek_ok l tQ iG kq_1181 ∧ ek_ok l tQ iG kq_1185 := ⟨⟨by decide +kernel, by decide +kernel, by decide +kernel⟩, gq_1181 l, gq_1185 l⟩
theorem gq_1182 (l : Launch) : ek_ok l tQ iG kq_1182 := ek_upS iG_hI (fun _ _ => trivial) (by decide +kernel) (qk_1182 l)
theorem gq_1187 (l : Launch) : ek_ok l tQ iG kq_1187 := ek_upS iG_hI (fun _ _ => trivial) (by decide +kernel) (qk_1187 l)
theorem pl_seed_1 (l : Launch) : (le_ck 0 103 1 kq_1182 [.inl (0, 65535)] = true ∧ le_ck 84 107 1 kq_1187 [.inl (0, 65535)] = true ∧ lj_fc kq_1182 kq_1187 = true) ∧ ek_ok l tQ iG kq_1182 ∧ ek_ok l tQ iG kq_1187 := ⟨⟨by decide +kernel, by decide +kernel, by decide +kernel⟩, gq_1182 l, gq_1187 l⟩
theorem gq_1183 (l : Launch) : ek_ok l tQ iG kq_1183 := ek_upS iG_hI (fun _ _ => trivial) (by decide +kernel) (qk_1183 l)
theorem gq_1189 (l : Launch) : ek_ok l tQ iG kq_1189 := ek_upS iG_hI (fun _ _ => trivial) (by decide +kernel) (qk_1189 l)
theorem pl_seed_2 (l : Launch) : (le_ck 0 103 1 kq_1183 [.inl (65536, 2147483647)] = true ∧ le_ck 84 107 1 kq_1189 [.inl (65536, 2147483647)] = true ∧ lj_fc kq_1183 kq_1189 = true) ∧ ek_ok l tQ iG kq_1183 ∧ ek_ok l tQ iG kq_1189 := ⟨⟨by decide +kernel, by decide +kernel, by decide +kernel⟩, gq_1183 l, gq_1189 l⟩
theorem pf_seed (l : Launch) {tys : List (ClassId × FieldType)} {ad : Nat → Nat} {ws : va_W} (hw : ev_w tys tQ ad ws) (hI : iG ws) (hJ : jR ws) (x1 : Int32) : ∃ (κa κb : ek) (box : List en_V), le_ck 0 103 1 κa box = true ∧ le_ck 84 107 1 κb box = true ∧ ek_ok l tQ iG κa ∧ ek_ok l tQ iG κb ∧ (∀ (N : Nat) (ad : Nat → Nat), en_vs N ad box [.int x1]) ∧ lj tys ad false ws κa κb := by
  have r1 := fb_rng x1
  rcases (show (x1.toInt ≤ (-1)) ∨ (0 ≤ x1.toInt ∧ x1.toInt ≤ 65535) ∨ (65536 ≤ x1.toInt) from by omega) with g0 | g0 | g0
  ·
    exact ⟨kq_1181, kq_1185, [.inl ((-2147483648), (-1))], (pl_seed_0 l).1.1, (pl_seed_0 l).1.2.1, (pl_seed_0 l).2.1, (pl_seed_0 l).2.2, fun N ad => ⟨le_iv (by omega) (by omega), trivial⟩, lj_fr hw hJ (pl_seed_0 l).1.2.2⟩
  ·
    exact ⟨kq_1182, kq_1187, [.inl (0, 65535)], (pl_seed_1 l).1.1, (pl_seed_1 l).1.2.1, (pl_seed_1 l).2.1, (pl_seed_1 l).2.2, fun N ad => ⟨le_iv (by omega) (by omega), trivial⟩, lj_fr hw hJ (pl_seed_1 l).1.2.2⟩
  ·
    exact ⟨kq_1183, kq_1189, [.inl (65536, 2147483647)], (pl_seed_2 l).1.1, (pl_seed_2 l).1.2.1, (pl_seed_2 l).2.1, (pl_seed_2 l).2.2, fun N ad => ⟨le_iv (by omega) (by omega), trivial⟩, lj_fr hw hJ (pl_seed_2 l).1.2.2⟩
theorem pe_seed (l : Launch) {tys : List (ClassId × FieldType)} {ad : Nat → Nat} {ws : va_W} (hw : ev_w tys tQ ad ws) (hI : iG ws) (hJ : jR ws) (x1 : Int32) : ∃ (κa κb : ek) (box : List en_V), le_ck 0 103 1 κa box = true ∧ le_ck 84 107 1 κb box = true ∧ (∀ (N : Nat) (ad : Nat → Nat), en_vs N ad box [.int x1]) ∧ lq l tys ad false ws κa κb [.int x1] := by
  obtain ⟨κa, κb, box, h1, h2, h3, h4, h5, h6⟩ := pf_seed l hw hI hJ x1
  exact ⟨κa, κb, box, h1, h2, h5, lq_of h1 h2 h3 h4 (h5 _ _) hw hI h6⟩
theorem gq_1193 (l : Launch) : ek_ok l tQ iG kq_1193 := ek_upS iG_hI (fun _ _ => trivial) (by decide +kernel) (qk_1193 l)
theorem gq_1194 (l : Launch) : ek_ok l tQ iG kq_1194 := ek_upS iG_hI (fun _ _ => trivial) (by decide +kernel) (qk_1194 l)
theorem pl_keep_0 (l : Launch) : (le_ck 0 108 0 kq_1193 [] = true ∧ le_ck 84 111 0 kq_1194 [] = true ∧ lj_fc kq_1193 kq_1194 = true) ∧ ek_ok l tQ iG kq_1193 ∧ ek_ok l tQ iG kq_1194 := ⟨⟨by decide +kernel, by decide +kernel, by decide +kernel⟩, gq_1193 l, gq_1194 l⟩
theorem pf_keep (l : Launch) {tys : List (ClassId × FieldType)} {ad : Nat → Nat} {ws : va_W} (hw : ev_w tys tQ ad ws) (hI : iG ws) (hJ : jR ws) : ∃ (κa κb : ek) (box : List en_V), le_ck 0 108 0 κa box = true ∧ le_ck 84 111 0 κb box = true ∧ ek_ok l tQ iG κa ∧ ek_ok l tQ iG κb ∧ (∀ (N : Nat) (ad : Nat → Nat), en_vs N ad box []) ∧ lj tys ad false ws κa κb := by
  exact ⟨kq_1193, kq_1194, [], (pl_keep_0 l).1.1, (pl_keep_0 l).1.2.1, (pl_keep_0 l).2.1, (pl_keep_0 l).2.2, fun N ad => trivial, lj_fr hw hJ (pl_keep_0 l).1.2.2⟩
theorem pe_keep (l : Launch) {tys : List (ClassId × FieldType)} {ad : Nat → Nat} {ws : va_W} (hw : ev_w tys tQ ad ws) (hI : iG ws) (hJ : jR ws) : ∃ (κa κb : ek) (box : List en_V), le_ck 0 108 0 κa box = true ∧ le_ck 84 111 0 κb box = true ∧ (∀ (N : Nat) (ad : Nat → Nat), en_vs N ad box []) ∧ lq l tys ad false ws κa κb [] := by
  obtain ⟨κa, κb, box, h1, h2, h3, h4, h5, h6⟩ := pf_keep l hw hI hJ
  exact ⟨κa, κb, box, h1, h2, h5, lq_of h1 h2 h3 h4 (h5 _ _) hw hI h6⟩
theorem gq_1197 (l : Launch) : ek_ok l tQ iG kq_1197 := ek_upS iG_hI (fun _ _ => trivial) (by decide +kernel) (qk_1197 l)
theorem gq_1198 (l : Launch) : ek_ok l tQ iG kq_1198 := ek_upS iG_hI (fun _ _ => trivial) (by decide +kernel) (qk_1198 l)
theorem pl_undo_0 (l : Launch) : (le_ck 0 112 0 kq_1197 [] = true ∧ le_ck 84 116 0 kq_1198 [] = true ∧ lj_fc kq_1197 kq_1198 = true) ∧ ek_ok l tQ iG kq_1197 ∧ ek_ok l tQ iG kq_1198 := ⟨⟨by decide +kernel, by decide +kernel, by decide +kernel⟩, gq_1197 l, gq_1198 l⟩
theorem pf_undo (l : Launch) {tys : List (ClassId × FieldType)} {ad : Nat → Nat} {ws : va_W} (hw : ev_w tys tQ ad ws) (hI : iG ws) (hJ : jR ws) : ∃ (κa κb : ek) (box : List en_V), le_ck 0 112 0 κa box = true ∧ le_ck 84 116 0 κb box = true ∧ ek_ok l tQ iG κa ∧ ek_ok l tQ iG κb ∧ (∀ (N : Nat) (ad : Nat → Nat), en_vs N ad box []) ∧ lj tys ad false ws κa κb := by
  exact ⟨kq_1197, kq_1198, [], (pl_undo_0 l).1.1, (pl_undo_0 l).1.2.1, (pl_undo_0 l).2.1, (pl_undo_0 l).2.2, fun N ad => trivial, lj_fr hw hJ (pl_undo_0 l).1.2.2⟩
theorem pe_undo (l : Launch) {tys : List (ClassId × FieldType)} {ad : Nat → Nat} {ws : va_W} (hw : ev_w tys tQ ad ws) (hI : iG ws) (hJ : jR ws) : ∃ (κa κb : ek) (box : List en_V), le_ck 0 112 0 κa box = true ∧ le_ck 84 116 0 κb box = true ∧ (∀ (N : Nat) (ad : Nat → Nat), en_vs N ad box []) ∧ lq l tys ad false ws κa κb [] := by
  obtain ⟨κa, κb, box, h1, h2, h3, h4, h5, h6⟩ := pf_undo l hw hI hJ
  exact ⟨κa, κb, box, h1, h2, h5, lq_of h1 h2 h3 h4 (h5 _ _) hw hI h6⟩
theorem gq_1199 (l : Launch) : ek_ok l tQ iG kq_1199 := ek_upS iG_hI (fun _ _ => trivial) (by decide +kernel) (qk_1199 l)
theorem gq_1204 (l : Launch) : ek_ok l tQ iG kq_1204 := ek_upS iG_hI (fun _ _ => trivial) (by decide +kernel) (qk_1204 l)
theorem pl_check_0 (l : Launch) : (le_ck 0 117 1 kq_1199 [.inl ((-2147483648), (-1))] = true ∧ le_ck 84 120 1 kq_1204 [.inl ((-2147483648), (-1))] = true ∧ jx_ck kq_1199 kq_1204 = true ∧ le_ck 0 117 1 (kx kq_1199 1) [.inl ((-2147483648), (-1))] = true ∧ le_ck 84 120 1 (kx kq_1204 1) [.inl ((-2147483648), (-1))] = true) ∧ ek_ok l tQ iG kq_1199 ∧ ek_ok l tQ iG kq_1204 := ⟨⟨by decide +kernel, by decide +kernel, by decide +kernel, by decide +kernel, by decide +kernel⟩, gq_1199 l, gq_1204 l⟩
theorem gq_1200 (l : Launch) : ek_ok l tQ iG kq_1200 := ek_upS iG_hI (fun _ _ => trivial) (by decide +kernel) (qk_1200 l)
theorem gq_1206 (l : Launch) : ek_ok l tQ iG kq_1206 := ek_upS iG_hI (fun _ _ => trivial) (by decide +kernel) (qk_1206 l)
theorem pl_check_1 (l : Launch) : (le_ck 0 117 1 kq_1200 [.inl (0, 0)] = true ∧ le_ck 84 120 1 kq_1206 [.inl (0, 0)] = true ∧ jx_ck kq_1200 kq_1206 = true ∧ le_ck 0 117 1 (kx kq_1200 1) [.inl (0, 0)] = true ∧ le_ck 84 120 1 (kx kq_1206 1) [.inl (0, 0)] = true) ∧ ek_ok l tQ iG kq_1200 ∧ ek_ok l tQ iG kq_1206 := ⟨⟨by decide +kernel, by decide +kernel, by decide +kernel, by decide +kernel, by decide +kernel⟩, gq_1200 l, gq_1206 l⟩
theorem gq_1201 (l : Launch) : ek_ok l tQ iG kq_1201 := ek_upS iG_hI (fun _ _ => trivial) (by decide +kernel) (qk_1201 l)
theorem gq_1209 (l : Launch) : ek_ok l tQ iG kq_1209 := ek_upS iG_hI (fun _ _ => trivial) (by decide +kernel) (qk_1209 l)
theorem pl_check_2 (l : Launch) : (le_ck 0 117 1 kq_1201 [.inl (1, 64)] = true ∧ le_ck 84 120 1 kq_1209 [.inl (1, 64)] = true ∧ jx_ck kq_1201 kq_1209 = true ∧ le_ck 0 117 1 (kx kq_1201 1) [.inl (1, 64)] = true ∧ le_ck 84 120 1 (kx kq_1209 1) [.inl (1, 64)] = true) ∧ ek_ok l tQ iG kq_1201 ∧ ek_ok l tQ iG kq_1209 := ⟨⟨by decide +kernel, by decide +kernel, by decide +kernel, by decide +kernel, by decide +kernel⟩, gq_1201 l, gq_1209 l⟩
theorem gq_1202 (l : Launch) : ek_ok l tQ iG kq_1202 := ek_upS iG_hI (fun _ _ => trivial) (by decide +kernel) (qk_1202 l)
theorem gq_1218 (l : Launch) : ek_ok l tQ iG kq_1218 := ek_upS iG_hI (fun _ _ => trivial) (by decide +kernel) (qk_1218 l)
theorem pl_check_3 (l : Launch) : (le_ck 0 117 1 kq_1202 [.inl (65, 2147483647)] = true ∧ le_ck 84 120 1 kq_1218 [.inl (65, 2147483647)] = true ∧ jx_ck kq_1202 kq_1218 = true ∧ le_ck 0 117 1 (kx kq_1202 1) [.inl (65, 2147483647)] = true ∧ le_ck 84 120 1 (kx kq_1218 1) [.inl (65, 2147483647)] = true) ∧ ek_ok l tQ iG kq_1202 ∧ ek_ok l tQ iG kq_1218 := ⟨⟨by decide +kernel, by decide +kernel, by decide +kernel, by decide +kernel, by decide +kernel⟩, gq_1202 l, gq_1218 l⟩
theorem pe_check (l : Launch) {tys : List (ClassId × FieldType)} {ad : Nat → Nat} {ws : va_W} (hw : ev_w tys tQ ad ws) (hI : iG ws) (hJ : jR ws) (x1 : Int32) : ∃ (κa κb : ek) (box : List en_V), le_ck 0 117 1 κa box = true ∧ le_ck 84 120 1 κb box = true ∧ (∀ (N : Nat) (ad : Nat → Nat), en_vs N ad box [.int x1]) ∧ lq l tys ad false ws κa κb [.int x1] := by
  have r1 := fb_rng x1
  rcases (show (x1.toInt ≤ (-1)) ∨ (0 ≤ x1.toInt ∧ x1.toInt ≤ 0) ∨ (1 ≤ x1.toInt ∧ x1.toInt ≤ 64) ∨ (65 ≤ x1.toInt) from by omega) with g0 | g0 | g0 | g0
  ·
    exact ⟨kx kq_1199 1, kx kq_1204 1, [.inl ((-2147483648), (-1))], (pl_check_0 l).1.2.2.2.1, (pl_check_0 l).1.2.2.2.2, fun N ad => ⟨le_iv (by omega) (by omega), trivial⟩, lq_ls (F := f_X_check_0 x1.toInt) (G := f_M_check_84 x1.toInt) (fun σ τ h => by obtain ⟨v, w, σ1, τ1, q1, q2, q3⟩ := rel_check x1.toInt h; exact ⟨v, w, σ1, τ1, q1, q2, q3, fun hc => by cases hc⟩) (fun h => ok_X_check_0 h) (fun h => ok_M_check_84 h) (pl_check_0 l).1.1 (pl_check_0 l).1.2.1 (pl_check_0 l).2.1 (pl_check_0 l).2.2 (⟨le_iv (by omega) (by omega), trivial⟩) ⟨pe_r tq0, pe_i rfl, trivial⟩ ⟨pe_r tq84, pe_i rfl, trivial⟩ hw hI hJ (pl_check_0 l).1.2.2.1⟩
  ·
    exact ⟨kx kq_1200 1, kx kq_1206 1, [.inl (0, 0)], (pl_check_1 l).1.2.2.2.1, (pl_check_1 l).1.2.2.2.2, fun N ad => ⟨le_iv (by omega) (by omega), trivial⟩, lq_ls (F := f_X_check_0 x1.toInt) (G := f_M_check_84 x1.toInt) (fun σ τ h => by obtain ⟨v, w, σ1, τ1, q1, q2, q3⟩ := rel_check x1.toInt h; exact ⟨v, w, σ1, τ1, q1, q2, q3, fun hc => by cases hc⟩) (fun h => ok_X_check_0 h) (fun h => ok_M_check_84 h) (pl_check_1 l).1.1 (pl_check_1 l).1.2.1 (pl_check_1 l).2.1 (pl_check_1 l).2.2 (⟨le_iv (by omega) (by omega), trivial⟩) ⟨pe_r tq0, pe_i rfl, trivial⟩ ⟨pe_r tq84, pe_i rfl, trivial⟩ hw hI hJ (pl_check_1 l).1.2.2.1⟩
  ·
    exact ⟨kx kq_1201 1, kx kq_1209 1, [.inl (1, 64)], (pl_check_2 l).1.2.2.2.1, (pl_check_2 l).1.2.2.2.2, fun N ad => ⟨le_iv (by omega) (by omega), trivial⟩, lq_ls (F := f_X_check_0 x1.toInt) (G := f_M_check_84 x1.toInt) (fun σ τ h => by obtain ⟨v, w, σ1, τ1, q1, q2, q3⟩ := rel_check x1.toInt h; exact ⟨v, w, σ1, τ1, q1, q2, q3, fun hc => by cases hc⟩) (fun h => ok_X_check_0 h) (fun h => ok_M_check_84 h) (pl_check_2 l).1.1 (pl_check_2 l).1.2.1 (pl_check_2 l).2.1 (pl_check_2 l).2.2 (⟨le_iv (by omega) (by omega), trivial⟩) ⟨pe_r tq0, pe_i rfl, trivial⟩ ⟨pe_r tq84, pe_i rfl, trivial⟩ hw hI hJ (pl_check_2 l).1.2.2.1⟩
  ·
    exact ⟨kx kq_1202 1, kx kq_1218 1, [.inl (65, 2147483647)], (pl_check_3 l).1.2.2.2.1, (pl_check_3 l).1.2.2.2.2, fun N ad => ⟨le_iv (by omega) (by omega), trivial⟩, lq_ls (F := f_X_check_0 x1.toInt) (G := f_M_check_84 x1.toInt) (fun σ τ h => by obtain ⟨v, w, σ1, τ1, q1, q2, q3⟩ := rel_check x1.toInt h; exact ⟨v, w, σ1, τ1, q1, q2, q3, fun hc => by cases hc⟩) (fun h => ok_X_check_0 h) (fun h => ok_M_check_84 h) (pl_check_3 l).1.1 (pl_check_3 l).1.2.1 (pl_check_3 l).2.1 (pl_check_3 l).2.2 (⟨le_iv (by omega) (by omega), trivial⟩) ⟨pe_r tq0, pe_i rfl, trivial⟩ ⟨pe_r tq84, pe_i rfl, trivial⟩ hw hI hJ (pl_check_3 l).1.2.2.1⟩
theorem gq_1219 (l : Launch) : ek_ok l tQ iG kq_1219 := ek_upS iG_hI (fun _ _ => trivial) (by decide +kernel) (qk_1219 l)
theorem gq_1236 (l : Launch) : ek_ok l tQ iG kq_1236 := ek_upS iG_hI (fun _ _ => trivial) (by decide +kernel) (qk_1236 l)
theorem pl_count_0 (l : Launch) : (le_ck 0 121 1 kq_1219 [.inl ((-2147483648), (-1))] = true ∧ le_ck 84 124 1 kq_1236 [.inl ((-2147483648), (-1))] = true ∧ lj_fc kq_1219 kq_1236 = true) ∧ ek_ok l tQ iG kq_1219 ∧ ek_ok l tQ iG kq_1236 := ⟨⟨by decide +kernel, by decide +kernel, by decide +kernel⟩, gq_1219 l, gq_1236 l⟩
theorem gq_1220 (l : Launch) : ek_ok l tQ iG kq_1220 := ek_upS iG_hI (fun _ _ => trivial) (by decide +kernel) (qk_1220 l)
theorem gq_1237 (l : Launch) : ek_ok l tQ iG kq_1237 := ek_upS iG_hI (fun _ _ => trivial) (by decide +kernel) (qk_1237 l)
theorem pl_count_1 (l : Launch) : (le_ck 0 121 1 kq_1220 [.inl (0, 0)] = true ∧ le_ck 84 124 1 kq_1237 [.inl (0, 0)] = true ∧ lj_fc kq_1220 kq_1237 = true) ∧ ek_ok l tQ iG kq_1220 ∧ ek_ok l tQ iG kq_1237 := ⟨⟨by decide +kernel, by decide +kernel, by decide +kernel⟩, gq_1220 l, gq_1237 l⟩
theorem gq_1221 (l : Launch) : ek_ok l tQ iG kq_1221 := ek_upS iG_hI (fun _ _ => trivial) (by decide +kernel) (qk_1221 l)
theorem gq_1238 (l : Launch) : ek_ok l tQ iG kq_1238 := ek_upS iG_hI (fun _ _ => trivial) (by decide +kernel) (qk_1238 l)
theorem pl_count_2 (l : Launch) : (le_ck 0 121 1 kq_1221 [.inl (1, 1)] = true ∧ le_ck 84 124 1 kq_1238 [.inl (1, 1)] = true ∧ lj_fc kq_1221 kq_1238 = true) ∧ ek_ok l tQ iG kq_1221 ∧ ek_ok l tQ iG kq_1238 := ⟨⟨by decide +kernel, by decide +kernel, by decide +kernel⟩, gq_1221 l, gq_1238 l⟩
theorem gq_1223 (l : Launch) : ek_ok l tQ iG kq_1223 := ek_upS iG_hI (fun _ _ => trivial) (by decide +kernel) (qk_1223 l)
theorem gq_1240 (l : Launch) : ek_ok l tQ iG kq_1240 := ek_upS iG_hI (fun _ _ => trivial) (by decide +kernel) (qk_1240 l)
theorem pl_count_3 (l : Launch) : (le_ck 0 121 1 kq_1223 [.inl (2, 2)] = true ∧ le_ck 84 124 1 kq_1240 [.inl (2, 2)] = true ∧ lj_fc kq_1223 kq_1240 = true) ∧ ek_ok l tQ iG kq_1223 ∧ ek_ok l tQ iG kq_1240 := ⟨⟨by decide +kernel, by decide +kernel, by decide +kernel⟩, gq_1223 l, gq_1240 l⟩
theorem gq_1225 (l : Launch) : ek_ok l tQ iG kq_1225 := ek_upS iG_hI (fun _ _ => trivial) (by decide +kernel) (qk_1225 l)
theorem gq_1242 (l : Launch) : ek_ok l tQ iG kq_1242 := ek_upS iG_hI (fun _ _ => trivial) (by decide +kernel) (qk_1242 l)
theorem pl_count_4 (l : Launch) : (le_ck 0 121 1 kq_1225 [.inl (3, 3)] = true ∧ le_ck 84 124 1 kq_1242 [.inl (3, 3)] = true ∧ lj_fc kq_1225 kq_1242 = true) ∧ ek_ok l tQ iG kq_1225 ∧ ek_ok l tQ iG kq_1242 := ⟨⟨by decide +kernel, by decide +kernel, by decide +kernel⟩, gq_1225 l, gq_1242 l⟩
theorem gq_1226 (l : Launch) : ek_ok l tQ iG kq_1226 := ek_upS iG_hI (fun _ _ => trivial) (by decide +kernel) (qk_1226 l)
theorem gq_1243 (l : Launch) : ek_ok l tQ iG kq_1243 := ek_upS iG_hI (fun _ _ => trivial) (by decide +kernel) (qk_1243 l)
theorem pl_count_5 (l : Launch) : (le_ck 0 121 1 kq_1226 [.inl (4, 4)] = true ∧ le_ck 84 124 1 kq_1243 [.inl (4, 4)] = true ∧ lj_fc kq_1226 kq_1243 = true) ∧ ek_ok l tQ iG kq_1226 ∧ ek_ok l tQ iG kq_1243 := ⟨⟨by decide +kernel, by decide +kernel, by decide +kernel⟩, gq_1226 l, gq_1243 l⟩
theorem gq_1227 (l : Launch) : ek_ok l tQ iG kq_1227 := ek_upS iG_hI (fun _ _ => trivial) (by decide +kernel) (qk_1227 l)
theorem gq_1244 (l : Launch) : ek_ok l tQ iG kq_1244 := ek_upS iG_hI (fun _ _ => trivial) (by decide +kernel) (qk_1244 l)
theorem pl_count_6 (l : Launch) : (le_ck 0 121 1 kq_1227 [.inl (5, 5)] = true ∧ le_ck 84 124 1 kq_1244 [.inl (5, 5)] = true ∧ lj_fc kq_1227 kq_1244 = true) ∧ ek_ok l tQ iG kq_1227 ∧ ek_ok l tQ iG kq_1244 := ⟨⟨by decide +kernel, by decide +kernel, by decide +kernel⟩, gq_1227 l, gq_1244 l⟩
theorem gq_1228 (l : Launch) : ek_ok l tQ iG kq_1228 := ek_upS iG_hI (fun _ _ => trivial) (by decide +kernel) (qk_1228 l)
theorem gq_1245 (l : Launch) : ek_ok l tQ iG kq_1245 := ek_upS iG_hI (fun _ _ => trivial) (by decide +kernel) (qk_1245 l)
theorem pl_count_7 (l : Launch) : (le_ck 0 121 1 kq_1228 [.inl (6, 6)] = true ∧ le_ck 84 124 1 kq_1245 [.inl (6, 6)] = true ∧ lj_fc kq_1228 kq_1245 = true) ∧ ek_ok l tQ iG kq_1228 ∧ ek_ok l tQ iG kq_1245 := ⟨⟨by decide +kernel, by decide +kernel, by decide +kernel⟩, gq_1228 l, gq_1245 l⟩
theorem gq_1229 (l : Launch) : ek_ok l tQ iG kq_1229 := ek_upS iG_hI (fun _ _ => trivial) (by decide +kernel) (qk_1229 l)
theorem gq_1246 (l : Launch) : ek_ok l tQ iG kq_1246 := ek_upS iG_hI (fun _ _ => trivial) (by decide +kernel) (qk_1246 l)
theorem pl_count_8 (l : Launch) : (le_ck 0 121 1 kq_1229 [.inl (7, 7)] = true ∧ le_ck 84 124 1 kq_1246 [.inl (7, 7)] = true ∧ lj_fc kq_1229 kq_1246 = true) ∧ ek_ok l tQ iG kq_1229 ∧ ek_ok l tQ iG kq_1246 := ⟨⟨by decide +kernel, by decide +kernel, by decide +kernel⟩, gq_1229 l, gq_1246 l⟩
theorem gq_1230 (l : Launch) : ek_ok l tQ iG kq_1230 := ek_upS iG_hI (fun _ _ => trivial) (by decide +kernel) (qk_1230 l)
theorem gq_1247 (l : Launch) : ek_ok l tQ iG kq_1247 := ek_upS iG_hI (fun _ _ => trivial) (by decide +kernel) (qk_1247 l)
theorem pl_count_9 (l : Launch) : (le_ck 0 121 1 kq_1230 [.inl (8, 8)] = true ∧ le_ck 84 124 1 kq_1247 [.inl (8, 8)] = true ∧ lj_fc kq_1230 kq_1247 = true) ∧ ek_ok l tQ iG kq_1230 ∧ ek_ok l tQ iG kq_1247 := ⟨⟨by decide +kernel, by decide +kernel, by decide +kernel⟩, gq_1230 l, gq_1247 l⟩
theorem gq_1231 (l : Launch) : ek_ok l tQ iG kq_1231 := ek_upS iG_hI (fun _ _ => trivial) (by decide +kernel) (qk_1231 l)
theorem gq_1248 (l : Launch) : ek_ok l tQ iG kq_1248 := ek_upS iG_hI (fun _ _ => trivial) (by decide +kernel) (qk_1248 l)
theorem pl_count_10 (l : Launch) : (le_ck 0 121 1 kq_1231 [.inl (9, 9)] = true ∧ le_ck 84 124 1 kq_1248 [.inl (9, 9)] = true ∧ lj_fc kq_1231 kq_1248 = true) ∧ ek_ok l tQ iG kq_1231 ∧ ek_ok l tQ iG kq_1248 := ⟨⟨by decide +kernel, by decide +kernel, by decide +kernel⟩, gq_1231 l, gq_1248 l⟩
theorem gq_1232 (l : Launch) : ek_ok l tQ iG kq_1232 := ek_upS iG_hI (fun _ _ => trivial) (by decide +kernel) (qk_1232 l)
theorem gq_1249 (l : Launch) : ek_ok l tQ iG kq_1249 := ek_upS iG_hI (fun _ _ => trivial) (by decide +kernel) (qk_1249 l)
theorem pl_count_11 (l : Launch) : (le_ck 0 121 1 kq_1232 [.inl (10, 10)] = true ∧ le_ck 84 124 1 kq_1249 [.inl (10, 10)] = true ∧ lj_fc kq_1232 kq_1249 = true) ∧ ek_ok l tQ iG kq_1232 ∧ ek_ok l tQ iG kq_1249 := ⟨⟨by decide +kernel, by decide +kernel, by decide +kernel⟩, gq_1232 l, gq_1249 l⟩
theorem gq_1234 (l : Launch) : ek_ok l tQ iG kq_1234 := ek_upS iG_hI (fun _ _ => trivial) (by decide +kernel) (qk_1234 l)
theorem gq_1251 (l : Launch) : ek_ok l tQ iG kq_1251 := ek_upS iG_hI (fun _ _ => trivial) (by decide +kernel) (qk_1251 l)
theorem pl_count_12 (l : Launch) : (le_ck 0 121 1 kq_1234 [.inl (11, 11)] = true ∧ le_ck 84 124 1 kq_1251 [.inl (11, 11)] = true ∧ lj_fc kq_1234 kq_1251 = true) ∧ ek_ok l tQ iG kq_1234 ∧ ek_ok l tQ iG kq_1251 := ⟨⟨by decide +kernel, by decide +kernel, by decide +kernel⟩, gq_1234 l, gq_1251 l⟩
theorem gq_1235 (l : Launch) : ek_ok l tQ iG kq_1235 := ek_upS iG_hI (fun _ _ => trivial) (by decide +kernel) (qk_1235 l)
theorem gq_1252 (l : Launch) : ek_ok l tQ iG kq_1252 := ek_upS iG_hI (fun _ _ => trivial) (by decide +kernel) (qk_1252 l)
theorem pl_count_13 (l : Launch) : (le_ck 0 121 1 kq_1235 [.inl (12, 2147483647)] = true ∧ le_ck 84 124 1 kq_1252 [.inl (12, 2147483647)] = true ∧ lj_fc kq_1235 kq_1252 = true) ∧ ek_ok l tQ iG kq_1235 ∧ ek_ok l tQ iG kq_1252 := ⟨⟨by decide +kernel, by decide +kernel, by decide +kernel⟩, gq_1235 l, gq_1252 l⟩
theorem pf_count (l : Launch) {tys : List (ClassId × FieldType)} {ad : Nat → Nat} {ws : va_W} (hw : ev_w tys tQ ad ws) (hI : iG ws) (hJ : jR ws) (x1 : Int32) : ∃ (κa κb : ek) (box : List en_V), le_ck 0 121 1 κa box = true ∧ le_ck 84 124 1 κb box = true ∧ ek_ok l tQ iG κa ∧ ek_ok l tQ iG κb ∧ (∀ (N : Nat) (ad : Nat → Nat), en_vs N ad box [.int x1]) ∧ lj tys ad false ws κa κb := by
  have r1 := fb_rng x1
  rcases (show (x1.toInt ≤ (-1)) ∨ (0 ≤ x1.toInt ∧ x1.toInt ≤ 0) ∨ (1 ≤ x1.toInt ∧ x1.toInt ≤ 1) ∨ (2 ≤ x1.toInt ∧ x1.toInt ≤ 2) ∨ (3 ≤ x1.toInt ∧ x1.toInt ≤ 3) ∨ (4 ≤ x1.toInt ∧ x1.toInt ≤ 4) ∨ (5 ≤ x1.toInt ∧ x1.toInt ≤ 5) ∨ (6 ≤ x1.toInt ∧ x1.toInt ≤ 6) ∨ (7 ≤ x1.toInt ∧ x1.toInt ≤ 7) ∨ (8 ≤ x1.toInt ∧ x1.toInt ≤ 8) ∨ (9 ≤ x1.toInt ∧ x1.toInt ≤ 9) ∨ (10 ≤ x1.toInt ∧ x1.toInt ≤ 10) ∨ (11 ≤ x1.toInt ∧ x1.toInt ≤ 11) ∨ (12 ≤ x1.toInt) from by omega) with g0 | g0 | g0 | g0 | g0 | g0 | g0 | g0 | g0 | g0 | g0 | g0 | g0 | g0
  ·
    exact ⟨kq_1219, kq_1236, [.inl ((-2147483648), (-1))], (pl_count_0 l).1.1, (pl_count_0 l).1.2.1, (pl_count_0 l).2.1, (pl_count_0 l).2.2, fun N ad => ⟨le_iv (by omega) (by omega), trivial⟩, lj_fr hw hJ (pl_count_0 l).1.2.2⟩
  ·
    exact ⟨kq_1220, kq_1237, [.inl (0, 0)], (pl_count_1 l).1.1, (pl_count_1 l).1.2.1, (pl_count_1 l).2.1, (pl_count_1 l).2.2, fun N ad => ⟨le_iv (by omega) (by omega), trivial⟩, lj_fr hw hJ (pl_count_1 l).1.2.2⟩
  ·
    exact ⟨kq_1221, kq_1238, [.inl (1, 1)], (pl_count_2 l).1.1, (pl_count_2 l).1.2.1, (pl_count_2 l).2.1, (pl_count_2 l).2.2, fun N ad => ⟨le_iv (by omega) (by omega), trivial⟩, lj_fr hw hJ (pl_count_2 l).1.2.2⟩
  ·
    exact ⟨kq_1223, kq_1240, [.inl (2, 2)], (pl_count_3 l).1.1, (pl_count_3 l).1.2.1, (pl_count_3 l).2.1, (pl_count_3 l).2.2, fun N ad => ⟨le_iv (by omega) (by omega), trivial⟩, lj_fr hw hJ (pl_count_3 l).1.2.2⟩
  ·
    exact ⟨kq_1225, kq_1242, [.inl (3, 3)], (pl_count_4 l).1.1, (pl_count_4 l).1.2.1, (pl_count_4 l).2.1, (pl_count_4 l).2.2, fun N ad => ⟨le_iv (by omega) (by omega), trivial⟩, lj_fr hw hJ (pl_count_4 l).1.2.2⟩
  ·
    exact ⟨kq_1226, kq_1243, [.inl (4, 4)], (pl_count_5 l).1.1, (pl_count_5 l).1.2.1, (pl_count_5 l).2.1, (pl_count_5 l).2.2, fun N ad => ⟨le_iv (by omega) (by omega), trivial⟩, lj_fr hw hJ (pl_count_5 l).1.2.2⟩
  ·
    exact ⟨kq_1227, kq_1244, [.inl (5, 5)], (pl_count_6 l).1.1, (pl_count_6 l).1.2.1, (pl_count_6 l).2.1, (pl_count_6 l).2.2, fun N ad => ⟨le_iv (by omega) (by omega), trivial⟩, lj_fr hw hJ (pl_count_6 l).1.2.2⟩
  ·
    exact ⟨kq_1228, kq_1245, [.inl (6, 6)], (pl_count_7 l).1.1, (pl_count_7 l).1.2.1, (pl_count_7 l).2.1, (pl_count_7 l).2.2, fun N ad => ⟨le_iv (by omega) (by omega), trivial⟩, lj_fr hw hJ (pl_count_7 l).1.2.2⟩
  ·
    exact ⟨kq_1229, kq_1246, [.inl (7, 7)], (pl_count_8 l).1.1, (pl_count_8 l).1.2.1, (pl_count_8 l).2.1, (pl_count_8 l).2.2, fun N ad => ⟨le_iv (by omega) (by omega), trivial⟩, lj_fr hw hJ (pl_count_8 l).1.2.2⟩
  ·
    exact ⟨kq_1230, kq_1247, [.inl (8, 8)], (pl_count_9 l).1.1, (pl_count_9 l).1.2.1, (pl_count_9 l).2.1, (pl_count_9 l).2.2, fun N ad => ⟨le_iv (by omega) (by omega), trivial⟩, lj_fr hw hJ (pl_count_9 l).1.2.2⟩
  ·
    exact ⟨kq_1231, kq_1248, [.inl (9, 9)], (pl_count_10 l).1.1, (pl_count_10 l).1.2.1, (pl_count_10 l).2.1, (pl_count_10 l).2.2, fun N ad => ⟨le_iv (by omega) (by omega), trivial⟩, lj_fr hw hJ (pl_count_10 l).1.2.2⟩
  ·
    exact ⟨kq_1232, kq_1249, [.inl (10, 10)], (pl_count_11 l).1.1, (pl_count_11 l).1.2.1, (pl_count_11 l).2.1, (pl_count_11 l).2.2, fun N ad => ⟨le_iv (by omega) (by omega), trivial⟩, lj_fr hw hJ (pl_count_11 l).1.2.2⟩
  ·
    exact ⟨kq_1234, kq_1251, [.inl (11, 11)], (pl_count_12 l).1.1, (pl_count_12 l).1.2.1, (pl_count_12 l).2.1, (pl_count_12 l).2.2, fun N ad => ⟨le_iv (by omega) (by omega), trivial⟩, lj_fr hw hJ (pl_count_12 l).1.2.2⟩
  ·
    exact ⟨kq_1235, kq_1252, [.inl (12, 2147483647)], (pl_count_13 l).1.1, (pl_count_13 l).1.2.1, (pl_count_13 l).2.1, (pl_count_13 l).2.2, fun N ad => ⟨le_iv (by omega) (by omega), trivial⟩, lj_fr hw hJ (pl_count_13 l).1.2.2⟩
theorem pe_count (l : Launch) {tys : List (ClassId × FieldType)} {ad : Nat → Nat} {ws : va_W} (hw : ev_w tys tQ ad ws) (hI : iG ws) (hJ : jR ws) (x1 : Int32) : ∃ (κa κb : ek) (box : List en_V), le_ck 0 121 1 κa box = true ∧ le_ck 84 124 1 κb box = true ∧ (∀ (N : Nat) (ad : Nat → Nat), en_vs N ad box [.int x1]) ∧ lq l tys ad false ws κa κb [.int x1] := by
  obtain ⟨κa, κb, box, h1, h2, h3, h4, h5, h6⟩ := pf_count l hw hI hJ x1
  exact ⟨κa, κb, box, h1, h2, h5, lq_of h1 h2 h3 h4 (h5 _ _) hw hI h6⟩
