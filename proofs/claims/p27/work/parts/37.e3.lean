def en_sw : List Cond := [.initialized "java/lang/String", .initialized "java/lang/StringLatin1", .methodLink "LoadsAhead$Law" 119 yJ0_indexOf_0f7a4, .methodLink "java/lang/String" 633 yJ0_indexOf_7cf53, .methodLink "java/lang/String" 492 yJ0_isLatin1_aae02, .methodLink "java/lang/String" 505 yJ0_length_8abf5, .methodLink "java/lang/String" 335 yJ0_coder_7d493, .methodLink "java/lang/String" 637 yJ1_indexOf_4cfef, .methodLink "java/lang/StringLatin1" 88 yJ1_canEncode_9a6ad, .methodLink "java/lang/StringLatin1" 95 yJ1_indexOfChar_4cfef, .instanceMethod yJ0_indexOf_0f7a4, .selects "java/lang/String" yJ0_indexOf_0f7a4 yJ0_indexOf_0f7a4, .instanceMethod yJ0_indexOf_7cf53, .selects "java/lang/String" yJ0_indexOf_7cf53 yJ0_indexOf_7cf53, .instanceMethod yJ0_isLatin1_aae02, .selects "java/lang/String" yJ0_isLatin1_aae02 yJ0_isLatin1_aae02, .instanceMethod yJ0_length_8abf5, .selects "java/lang/String" yJ0_length_8abf5 yJ0_length_8abf5, .instanceMethod yJ0_coder_7d493, .selects "java/lang/String" yJ0_coder_7d493 yJ0_coder_7d493, .static yJ1_indexOf_4cfef, .static yJ1_canEncode_9a6ad, .static yJ1_indexOfChar_4cfef, .methodLink "java/lang/StringLatin1" 92 Lib.Math.max.name, .methodLink "java/lang/StringLatin1" 38 Lib.Math.min.name, .static Lib.Math.max.name, .static Lib.Math.min.name, .initialized "java/lang/Math", .fieldLink "java/lang/String" 38 "java/lang/String" "COMPACT_STRINGS" "Z", .fieldLink "java/lang/String" 9 "java/lang/String" "value" "[B", .fieldLink "java/lang/String" 15 "java/lang/String" "coder" "B"]
set_option maxRecDepth 100000 in
theorem en_sw_in : ∀ w ∈ en_sw, w ∈ en_ws := fun w h => by
  have hg := goodIn_r (big := lw_tbl) en_sw [121, 129, 567, 571, 575, 579, 252, 580, 583, 590, 568, 569, 572, 573, 576, 577, 249, 250, 253, 254, 581, 584, 591, 586, 589, 587, 511, 128, 256, 1798, 1799] (by decide +kernel) (by decide +kernel) w h
  exact en_ws_in hg.1 (by
    have : en_sw.all goodWord = true := by decide +kernel
    exact List.all_eq_true.mp this w h)
theorem en_sq {w : Cond} (i : Nat) (h : en_sw[i]? = some w) : w ∈ en_ws := en_sw_in w (List.mem_of_getElem? h)
theorem en_c_ix1 : Cond.code yJ0_indexOf_0f7a4 cJ0_indexOf_0f7a4 2 (some .int) ∈ en_ws := en_ws_in (en_sub_2 _ (List.mem_of_getElem? (i := 215) rfl)) rfl
theorem en_c_ix2 : Cond.code yJ0_indexOf_7cf53 cJ0_indexOf_7cf53 3 (some .int) ∈ en_ws := en_ws_in (en_sub_2 _ (List.mem_of_getElem? (i := 219) rfl)) rfl
theorem en_c_lat : Cond.code yJ0_isLatin1_aae02 cJ0_isLatin1_aae02 1 (some .boolean) ∈ en_ws := en_ws_in (en_sub_2 _ (List.mem_of_getElem? (i := 223) rfl)) rfl
theorem en_c_len : Cond.code yJ0_length_8abf5 cJ0_length_8abf5 1 (some .int) ∈ en_ws := en_ws_in (en_sub_1 _ (List.mem_of_getElem? (i := 136) rfl)) rfl
theorem en_c_cod : Cond.code yJ0_coder_7d493 cJ0_coder_7d493 1 (some .byte) ∈ en_ws := en_ws_in (en_sub_1 _ (List.mem_of_getElem? (i := 140) rfl)) rfl
theorem en_c_lix : Cond.code yJ1_indexOf_4cfef cJ1_indexOf_4cfef 4 (some .int) ∈ en_ws := en_ws_in (en_sub_2 _ (List.mem_of_getElem? (i := 227) rfl)) rfl
theorem en_c_can : Cond.code yJ1_canEncode_9a6ad cJ1_canEncode_9a6ad 1 (some .boolean) ∈ en_ws := en_ws_in (en_sub_2 _ (List.mem_of_getElem? (i := 230) rfl)) rfl
theorem en_c_chr : Cond.code yJ1_indexOfChar_4cfef cJ1_indexOfChar_4cfef 6 (some .int) ∈ en_ws := en_ws_in (en_sub_2 _ (List.mem_of_getElem? (i := 237) rfl)) rfl
theorem en_consG {w : Cond} (h : w ∈ en_ws) : GoodIn en_ws (w :: en_ws) := by
  intro w' hw
  rcases List.mem_cons.mp hw with rfl | hw
  · exact ⟨h, good_of_word (List.mem_filter.mp h).2⟩
  · exact ⟨hw, good_of_word (List.mem_filter.mp hw).2⟩
set_option maxHeartbeats 4000000 in
theorem en_coder (l : Launch) (b0 aK aV : Nat) : Met l yJ0_coder_7d493 (Cond.code yJ0_coder_7d493 cJ0_coder_7d493 1 (some .byte) :: en_ws) ({ frames := 0, cells := 0, slots := 0, locals := 0 }) (va_Pc [.ref aK] (fun U => b0 ≤ U.heap.size ∧ en_X b0 aK aV U)) (va_Qi (S := Unit) (fun r _ => r = 0) (fun _ _ => True) (fun q => b0 ≤ q)) 0 0 (fun q => b0 ≤ q) := by
  refine Met.ofW (cc := cJ0_coder_7d493) (maxL := 1) (ret := some .byte) (by decide) rfl ?_
  intro p e s m args below meth c s₁ B hml hv
  obtain ⟨rfl, hsz, hX⟩ := hv
  have hx := B.exec
  have hb := B.bytes
  have hr := B.returns
  have hts0 := atoms_spec (ws := Cond.code yJ0_coder_7d493 cJ0_coder_7d493 1 (some .byte) :: en_ws) B.pre
  have hts : ∀ w ∈ en_ws, w.before #[.ref aK] s = true := fun w hw => hts0 w (List.mem_cons_of_mem _ hw)
  have hown : s.vm.findClass "java/lang/String" = some m.cls := findClass_of_methodNamed B.named
  have hlocks := B.notSynchronized
  have hS : va_S (fun q => b0 ≤ q) s.heap s.heap [] := va_S.rf
  have hl := lv_entry ([.ref aK]) (n := 1) (Nat.le_of_ble_eq_true rfl)
  rw [lg_entry_eq]
  generalize (lg_sl ([.ref aK]) ++ List.replicate (1 - (lg_sl ([.ref aK])).length) Slot.unset).toArray = ls at hl ⊢
  have hE := hX.2.2.1.1 0 (by decide)
  have hl : lv_has ls 1 [(0, .ref aK)] := hl
  refine va_gets hx hb hX.2.2.2.1 hS hown (hts _ (en_sq 28 rfl)) (fun x h => h) (by decide +kernel : decode cJ0_coder_7d493 0 = .ok (.getstatic 38, 3)) ?_
  refine lv_if_eq (tgt := 13) hx hb (by decide +kernel : decode cJ0_coder_7d493 3 = .ok (.ifCond .eq 10, 3)) (by decide) (fun h => absurd h (by decide)) (fun _ => ?_)
  refine lv_aload_n hx hb (by decide +kernel : decode cJ0_coder_7d493 6 = .ok (.aload_n 0, 1)) rfl (lv_at hl 0 rfl) ?_
  refine vk_getf hx hb hE.2.1 hS hown (hts _ (en_sq 30 rfl)) (fun x h => h) (by decide +kernel : decode cJ0_coder_7d493 7 = .ok (.getfield 15, 3)) ?_
  refine lv_goto (tgt := 14) hx hb (by decide +kernel : decode cJ0_coder_7d493 10 = .ok (.goto 4, 3)) (by decide) ?_
  exact W.zret hx hb hr rfl (fun t ht _ => ⟨⟨0, (), rfl, rfl, trivial⟩, hS.F ht⟩) hS.2.2 (by decide +kernel : decode cJ0_coder_7d493 14 = .ok (.ireturn, 1))
set_option maxHeartbeats 4000000 in
theorem en_slen (l : Launch) (b0 aK aV : Nat) : Met l yJ0_length_8abf5 (Cond.code yJ0_length_8abf5 cJ0_length_8abf5 1 (some .int) :: en_ws) ({ frames := 1, cells := 0, slots := 0, locals := 20 }) (va_Pc [.ref aK] (fun U => b0 ≤ U.heap.size ∧ en_X b0 aK aV U)) (va_Qi (S := Unit) (fun r _ => r = 7) (fun _ _ => True) (fun q => b0 ≤ q)) 0 0 (fun q => b0 ≤ q) := by
  refine Met.ofW (cc := cJ0_length_8abf5) (maxL := 1) (ret := some .int) (by decide) rfl ?_
  intro p e s m args below meth c s₁ B hml hv
  obtain ⟨rfl, hsz, hX⟩ := hv
  have hx := B.exec
  have hb := B.bytes
  have hr := B.returns
  have hts0 := atoms_spec (ws := Cond.code yJ0_length_8abf5 cJ0_length_8abf5 1 (some .int) :: en_ws) B.pre
  have hts : ∀ w ∈ en_ws, w.before #[.ref aK] s = true := fun w hw => hts0 w (List.mem_cons_of_mem _ hw)
  have hown : s.vm.findClass "java/lang/String" = some m.cls := findClass_of_methodNamed B.named
  have hlocks := B.notSynchronized
  have hS : va_S (fun q => b0 ≤ q) s.heap s.heap [] := va_S.rf
  have hl := lv_entry ([.ref aK]) (n := 1) (Nat.le_of_ble_eq_true rfl)
  rw [lg_entry_eq]
  generalize (lg_sl ([.ref aK]) ++ List.replicate (1 - (lg_sl ([.ref aK])).length) Slot.unset).toArray = ls at hl ⊢
  have hE := hX.2.2.1.1 0 (by decide)
  have hl : lv_has ls 1 [(0, .ref aK)] := hl
  refine lv_aload_n hx hb (by decide +kernel : decode cJ0_length_8abf5 0 = .ok (.aload_n 0, 1)) rfl (lv_at hl 0 rfl) ?_
  refine vk_getf hx hb hE.2.2.1 hS hown (hts _ (en_sq 29 rfl)) (fun x h => h) (by decide +kernel : decode cJ0_length_8abf5 1 = .ok (.getfield 9, 3)) ?_
  refine va_tlen hx hb hE.2.2.2 hS (v := 7) rfl (by decide +kernel : decode cJ0_length_8abf5 4 = .ok (.arraylength, 1)) ?_
  refine lv_aload_n hx hb (by decide +kernel : decode cJ0_length_8abf5 5 = .ok (.aload_n 0, 1)) rfl (lv_at hl 0 rfl) ?_
  have hB6 := callB_of (own := "java/lang/String") (index := 335) (R := { frames := 1, cells := 0, slots := 0, locals := 20 }) (rm := { frames := 0, cells := 0, slots := 0, locals := 0 }) (mc := 0) (ms := 0) 0 hts (en_consG en_c_cod) rfl rfl rfl (hts _ (en_sq 0 rfl)) (hts _ (en_sq 6 rfl)) (by decide +kernel) ⟨by decide, by decide⟩
  refine va_calli (a := #[Value.ref aK]) (va_runV (C := "java/lang/String") (As := []) (rest := [.int 7]) ⟨hx, hb, hml, hown, hts⟩ (en_coder l b0 aK aV) ⟨hB6, (hts _ (en_sq 18 rfl)), (hts _ (en_sq 19 rfl))⟩ ⟨fun a U g mk q => ⟨q.1, q.2.1, q.2.2.call⟩, vk_recv (i := 0) hX.2.2.1 Nat.zero_lt_one hS, fun U hU hW => ⟨rfl, by rw [hU]; exact hsz, hX.go (Nat.le_refl _) hS hU hW⟩⟩ rfl rfl hl.1 rfl (lv_room (Nat.le_of_ble_eq_true rfl)) (by decide +kernel : decode cJ0_length_8abf5 6 = .ok (.invokevirtual 335, 3)) ⟨by decide, by decide⟩) hS (fun q _ h => h) (fun q h => h) (fun r u t H1 locs1 ht hvm hpost hB hsz1 hfr hS => ?_)
  subst hpost
  refine lv_ishr hx hb (by decide +kernel : decode cJ0_length_8abf5 9 = .ok (.ishr, 1)) ?_
  exact W.iret hx hb hr (fun t ht _ => ⟨⟨_, (), rfl, by decide, trivial⟩, hS.F ht⟩) hS.2.2 (by decide +kernel : decode cJ0_length_8abf5 10 = .ok (.ireturn, 1))
set_option maxHeartbeats 4000000 in
theorem en_lat (l : Launch) (b0 aK aV : Nat) : Met l yJ0_isLatin1_aae02 (Cond.code yJ0_isLatin1_aae02 cJ0_isLatin1_aae02 1 (some .boolean) :: en_ws) ({ frames := 0, cells := 0, slots := 0, locals := 0 }) (va_Pc [.ref aK] (fun U => b0 ≤ U.heap.size ∧ en_X b0 aK aV U)) (va_Qi (S := Unit) (fun r _ => r = 1) (fun _ _ => True) (fun q => b0 ≤ q)) 0 0 (fun q => b0 ≤ q) := by
  refine Met.ofW (cc := cJ0_isLatin1_aae02) (maxL := 1) (ret := some .boolean) (by decide) rfl ?_
  intro p e s m args below meth c s₁ B hml hv
  obtain ⟨rfl, hsz, hX⟩ := hv
  have hx := B.exec
  have hb := B.bytes
  have hr := B.returns
  have hts0 := atoms_spec (ws := Cond.code yJ0_isLatin1_aae02 cJ0_isLatin1_aae02 1 (some .boolean) :: en_ws) B.pre
  have hts : ∀ w ∈ en_ws, w.before #[.ref aK] s = true := fun w hw => hts0 w (List.mem_cons_of_mem _ hw)
  have hown : s.vm.findClass "java/lang/String" = some m.cls := findClass_of_methodNamed B.named
  have hlocks := B.notSynchronized
  have hS : va_S (fun q => b0 ≤ q) s.heap s.heap [] := va_S.rf
  have hl := lv_entry ([.ref aK]) (n := 1) (Nat.le_of_ble_eq_true rfl)
  rw [lg_entry_eq]
  generalize (lg_sl ([.ref aK]) ++ List.replicate (1 - (lg_sl ([.ref aK])).length) Slot.unset).toArray = ls at hl ⊢
  have hE := hX.2.2.1.1 0 (by decide)
  have hl : lv_has ls 1 [(0, .ref aK)] := hl
  refine va_gets hx hb hX.2.2.2.1 hS hown (hts _ (en_sq 28 rfl)) (fun x h => h) (by decide +kernel : decode cJ0_isLatin1_aae02 0 = .ok (.getstatic 38, 3)) ?_
  refine lv_if_eq (tgt := 17) hx hb (by decide +kernel : decode cJ0_isLatin1_aae02 3 = .ok (.ifCond .eq 14, 3)) (by decide) (fun h => absurd h (by decide)) (fun _ => ?_)
  refine lv_aload_n hx hb (by decide +kernel : decode cJ0_isLatin1_aae02 6 = .ok (.aload_n 0, 1)) rfl (lv_at hl 0 rfl) ?_
  refine vk_getf hx hb hE.2.1 hS hown (hts _ (en_sq 30 rfl)) (fun x h => h) (by decide +kernel : decode cJ0_isLatin1_aae02 7 = .ok (.getfield 15, 3)) ?_
  refine lv_if_ne (tgt := 17) hx hb (by decide +kernel : decode cJ0_isLatin1_aae02 10 = .ok (.ifCond .ne 7, 3)) (by decide) (fun h => absurd rfl h) (fun _ => ?_)
  refine lv_iconst (v := 1) hx hb (by decide +kernel : decode cJ0_isLatin1_aae02 13 = .ok (.iconst 1, 1)) (by decide) ?_
  refine lv_goto (tgt := 18) hx hb (by decide +kernel : decode cJ0_isLatin1_aae02 14 = .ok (.goto 4, 3)) (by decide) ?_
  exact W.zret hx hb hr rfl (fun t ht _ => ⟨⟨1, (), rfl, rfl, trivial⟩, hS.F ht⟩) hS.2.2 (by decide +kernel : decode cJ0_isLatin1_aae02 18 = .ok (.ireturn, 1))
set_option maxHeartbeats 4000000 in
theorem en_can (l : Launch) (b0 aK aV : Nat) (ch : Int32) : Met l yJ1_canEncode_9a6ad (Cond.code yJ1_canEncode_9a6ad cJ1_canEncode_9a6ad 1 (some .boolean) :: en_ws) ({ frames := 0, cells := 0, slots := 0, locals := 0 }) (va_Pc [.int ch] (fun U => b0 ≤ U.heap.size ∧ en_X b0 aK aV U)) (va_Qi (S := Unit) (fun r _ => True) (fun _ _ => True) (fun q => b0 ≤ q)) 0 0 (fun q => b0 ≤ q) := by
  refine Met.ofW (cc := cJ1_canEncode_9a6ad) (maxL := 1) (ret := some .boolean) (by decide) rfl ?_
  intro p e s m args below meth c s₁ B hml hv
  obtain ⟨rfl, hsz, hX⟩ := hv
  have hx := B.exec
  have hb := B.bytes
  have hr := B.returns
  have hts0 := atoms_spec (ws := Cond.code yJ1_canEncode_9a6ad cJ1_canEncode_9a6ad 1 (some .boolean) :: en_ws) B.pre
  have hts : ∀ w ∈ en_ws, w.before #[.int ch] s = true := fun w hw => hts0 w (List.mem_cons_of_mem _ hw)
  have hown : s.vm.findClass "java/lang/StringLatin1" = some m.cls := findClass_of_methodNamed B.named
  have hlocks := B.notSynchronized
  have hS : va_S (fun q => b0 ≤ q) s.heap s.heap [] := va_S.rf
  have hl := lv_entry ([.int ch]) (n := 1) (Nat.le_of_ble_eq_true rfl)
  rw [lg_entry_eq]
  generalize (lg_sl ([.int ch]) ++ List.replicate (1 - (lg_sl ([.int ch])).length) Slot.unset).toArray = ls at hl ⊢
  have hE := hX.2.2.1.1 0 (by decide)
  have hl : lv_has ls 1 [(0, .int ch)] := hl
  have k0 : W p l e (headSpec (Cond.code yJ1_canEncode_9a6ad cJ1_canEncode_9a6ad 1 (some .boolean) :: en_ws) { frames := 0, cells := 0, slots := 0, locals := 0 }).room s m #[Value.int ch] below meth c s.heap [] 0 0 (MQ below (va_Qi (S := Unit) (fun r _ => True) (fun _ _ => True) (fun q => b0 ≤ q)) #[Value.int ch] s 0 0 (fun q => b0 ≤ q)) (F0 m 15 ls []) := by
    refine lv_iconst (v := 0) hx hb (by decide +kernel : decode cJ1_canEncode_9a6ad 15 = .ok (.iconst 0, 1)) (by decide) ?_
    exact W.zret hx hb hr rfl (fun t ht _ => ⟨⟨0, (), rfl, trivial, trivial⟩, hS.F ht⟩) hS.2.2 (by decide +kernel : decode cJ1_canEncode_9a6ad 16 = .ok (.ireturn, 1))
  refine lv_iload_n hx hb (by decide +kernel : decode cJ1_canEncode_9a6ad 0 = .ok (.iload_n 0, 1)) rfl (lv_at hl 0 rfl) ?_
  refine lv_if_lt (tgt := 15) hx hb (by decide +kernel : decode cJ1_canEncode_9a6ad 1 = .ok (.ifCond .lt 14, 3)) (by decide) (fun _ => k0) (fun _ => ?_)
  refine lv_iload_n hx hb (by decide +kernel : decode cJ1_canEncode_9a6ad 4 = .ok (.iload_n 0, 1)) rfl (lv_at hl 0 rfl) ?_
  refine lv_sipush (v := 255) hx hb (by decide +kernel : decode cJ1_canEncode_9a6ad 5 = .ok (.sipush 255, 3)) (by decide) ?_
  refine lv_icmp_gt (tgt := 15) hx hb (by decide +kernel : decode cJ1_canEncode_9a6ad 8 = .ok (.if_icmp .gt 7, 3)) (by decide) (fun _ => k0) (fun _ => ?_)
  refine lv_iconst (v := 1) hx hb (by decide +kernel : decode cJ1_canEncode_9a6ad 11 = .ok (.iconst 1, 1)) (by decide) ?_
  refine lv_goto (tgt := 16) hx hb (by decide +kernel : decode cJ1_canEncode_9a6ad 12 = .ok (.goto 4, 3)) (by decide) ?_
  exact W.zret hx hb hr rfl (fun t ht _ => ⟨⟨1, (), rfl, trivial, trivial⟩, hS.F ht⟩) hS.2.2 (by decide +kernel : decode cJ1_canEncode_9a6ad 16 = .ok (.ireturn, 1))
set_option maxHeartbeats 4000000 in
theorem en_chr (l : Launch) (b0 aK aV : Nat) (ch : Int32) : Met l yJ1_indexOfChar_4cfef (Cond.code yJ1_indexOfChar_4cfef cJ1_indexOfChar_4cfef 6 (some .int) :: en_ws) ({ frames := 0, cells := 0, slots := 0, locals := 0 }) (va_Pc [.ref aV, .int ch, .int 0, .int 7] (fun U => b0 ≤ U.heap.size ∧ en_X b0 aK aV U)) (va_Qi (S := Unit) (fun r _ => -1 ≤ r.toInt ∧ r.toInt ≤ 6) (fun _ _ => True) (fun q => b0 ≤ q)) 0 0 (fun q => b0 ≤ q) := by
  refine Met.ofW (cc := cJ1_indexOfChar_4cfef) (maxL := 6) (ret := some .int) (by decide) rfl ?_
  intro p e s m args below meth c s₁ B hml hv
  obtain ⟨rfl, hsz, hX⟩ := hv
  have hx := B.exec
  have hb := B.bytes
  have hr := B.returns
  have hts0 := atoms_spec (ws := Cond.code yJ1_indexOfChar_4cfef cJ1_indexOfChar_4cfef 6 (some .int) :: en_ws) B.pre
  have hts : ∀ w ∈ en_ws, w.before #[.ref aV, .int ch, .int 0, .int 7] s = true := fun w hw => hts0 w (List.mem_cons_of_mem _ hw)
  have hown : s.vm.findClass "java/lang/StringLatin1" = some m.cls := findClass_of_methodNamed B.named
  have hlocks := B.notSynchronized
  have hS : va_S (fun q => b0 ≤ q) s.heap s.heap [] := va_S.rf
  have hl := lv_entry ([.ref aV, .int ch, .int 0, .int 7]) (n := 6) (Nat.le_of_ble_eq_true rfl)
  rw [lg_entry_eq]
  generalize (lg_sl ([.ref aV, .int ch, .int 0, .int 7]) ++ List.replicate (6 - (lg_sl ([.ref aV, .int ch, .int 0, .int 7])).length) Slot.unset).toArray = ls at hl ⊢
  have hE := hX.2.2.1.1 0 (by decide)
  have hl : lv_has ls 6 [(0, .ref aV), (1, .int ch), (2, .int 0), (3, .int 7)] := hl
  have loop : ∀ (k i : Nat) (ls : Array Slot), i + k = 7 → lv_has ls 6 [(5, .int (nI i)), (4, .int ch.toInt8.toInt32), (0, .ref aV), (3, .int 7)] → W p l e (headSpec (Cond.code yJ1_indexOfChar_4cfef cJ1_indexOfChar_4cfef 6 (some .int) :: en_ws) { frames := 0, cells := 0, slots := 0, locals := 0 }).room s m #[Value.ref aV, .int ch, .int 0, .int 7] below meth c s.heap [] 0 0 (MQ below (va_Qi (S := Unit) (fun r _ => -1 ≤ r.toInt ∧ r.toInt ≤ 6) (fun _ _ => True) (fun q => b0 ≤ q)) #[Value.ref aV, .int ch, .int 0, .int 7] s 0 0 (fun q => b0 ≤ q)) (F0 m 7 ls []) := by
    intro k
    induction k with
    | zero =>
      intro i ls hi hl
      have e : i = 7 := by omega
      subst e
      refine lv_iload hx hb (by decide +kernel : decode cJ1_indexOfChar_4cfef 7 = .ok (.iload 5, 2)) (lv_at hl 0 rfl) ?_
      refine lv_iload_n hx hb (by decide +kernel : decode cJ1_indexOfChar_4cfef 9 = .ok (.iload_n 3, 1)) rfl (lv_at hl 3 rfl) ?_
      refine lv_icmp_ge (tgt := 31) hx hb (by decide +kernel : decode cJ1_indexOfChar_4cfef 10 = .ok (.if_icmp .ge 21, 3)) (by decide) (fun _ => ?_) (fun h => absurd (by decide) h)
      refine lv_iconst (v := -1) hx hb (by decide +kernel : decode cJ1_indexOfChar_4cfef 31 = .ok (.iconst (-1), 1)) (by decide) ?_
      exact W.iret hx hb hr (fun t ht _ => ⟨⟨-1, (), rfl, by decide, trivial⟩, hS.F ht⟩) hS.2.2 (by decide +kernel : decode cJ1_indexOfChar_4cfef 32 = .ok (.ireturn, 1))
    | succ k ih =>
      intro i ls hi hl
      refine lv_iload hx hb (by decide +kernel : decode cJ1_indexOfChar_4cfef 7 = .ok (.iload 5, 2)) (lv_at hl 0 rfl) ?_
      refine lv_iload_n hx hb (by decide +kernel : decode cJ1_indexOfChar_4cfef 9 = .ok (.iload_n 3, 1)) rfl (lv_at hl 3 rfl) ?_
      refine lv_icmp_ge (tgt := 31) hx hb (by decide +kernel : decode cJ1_indexOfChar_4cfef 10 = .ok (.if_icmp .ge 21, 3)) (by decide) (fun h => absurd h (nI_ge (a := i) (b := 7) (by omega) (by decide))) (fun _ => ?_)
      refine lv_aload_n hx hb (by decide +kernel : decode cJ1_indexOfChar_4cfef 13 = .ok (.aload_n 0, 1)) rfl (lv_at hl 2 rfl) ?_
      refine lv_iload hx hb (by decide +kernel : decode cJ1_indexOfChar_4cfef 14 = .ok (.iload 5, 2)) (lv_at hl 0 rfl) ?_
      refine va_tb hx hb hE.2.2.2 hS (vp_in_nI (by show i < 7; omega) (by decide)) rfl (by decide +kernel : decode cJ1_indexOfChar_4cfef 16 = .ok (.baload, 1)) ?_
      refine lv_iload hx hb (by decide +kernel : decode cJ1_indexOfChar_4cfef 17 = .ok (.iload 4, 2)) (lv_at hl 1 rfl) ?_
      refine lv_icmp_ne (tgt := 25) hx hb (by decide +kernel : decode cJ1_indexOfChar_4cfef 19 = .ok (.if_icmp .ne 6, 3)) (by decide) (fun _ => ?_) (fun _ => ?_)
      · refine lv_iinc (v := nI (i + 1)) (k := 0) (lv' := [(5, .int (nI (i + 1))), (4, .int ch.toInt8.toInt32), (0, .ref aV), (3, .int 7)]) hx hb (by decide +kernel : decode cJ1_indexOfChar_4cfef 25 = .ok (.iinc 5 1, 3)) hl rfl (by rw [nI_succ]; rfl) (by decide) rfl (fun ls hl => ?_)
        refine lv_goto (tgt := 7) hx hb (by decide +kernel : decode cJ1_indexOfChar_4cfef 28 = .ok (.goto (-21), 3)) (by decide) ?_
        exact ih (i + 1) ls (by omega) hl
      · refine lv_iload hx hb (by decide +kernel : decode cJ1_indexOfChar_4cfef 22 = .ok (.iload 5, 2)) (lv_at hl 0 rfl) ?_
        refine W.iret hx hb hr (fun t ht _ => ⟨⟨_, (), rfl, ?_, trivial⟩, hS.F ht⟩) hS.2.2 (by decide +kernel : decode cJ1_indexOfChar_4cfef 24 = .ok (.ireturn, 1))
        show -1 ≤ (nI i).toInt ∧ (nI i).toInt ≤ 6
        rw [nI_toInt (by omega)]
        omega
  refine lv_iload_n hx hb (by decide +kernel : decode cJ1_indexOfChar_4cfef 0 = .ok (.iload_n 1, 1)) rfl (lv_at hl 1 rfl) ?_
  refine lv_i2b hx hb (by decide +kernel : decode cJ1_indexOfChar_4cfef 1 = .ok (.i2b, 1)) rfl ?_
  refine lv_istore (lv' := [(4, .int ch.toInt8.toInt32), (0, .ref aV), (1, .int ch), (2, .int 0), (3, .int 7)]) hx hb (by decide +kernel : decode cJ1_indexOfChar_4cfef 2 = .ok (.istore 4, 2)) hl (by decide) rfl (fun ls hl => ?_)
  refine lv_iload_n hx hb (by decide +kernel : decode cJ1_indexOfChar_4cfef 4 = .ok (.iload_n 2, 1)) rfl (lv_at hl 3 rfl) ?_
  refine lv_istore (lv' := [(5, .int (nI 0)), (4, .int ch.toInt8.toInt32), (0, .ref aV), (1, .int ch), (2, .int 0), (3, .int 7)]) hx hb (by decide +kernel : decode cJ1_indexOfChar_4cfef 5 = .ok (.istore 5, 2)) hl (by decide) rfl (fun ls hl => ?_)
  exact loop 7 0 ls rfl (lv_sub hl [0, 1, 2, 5] rfl)
set_option maxHeartbeats 4000000 in
theorem en_lix (l : Launch) (b0 aK aV : Nat) (ch : Int32) : Met l yJ1_indexOf_4cfef (Cond.code yJ1_indexOf_4cfef cJ1_indexOf_4cfef 4 (some .int) :: en_ws) ({ frames := 1, cells := 0, slots := 0, locals := 40 }) (va_Pc [.ref aV, .int ch, .int 0, .int 7] (fun U => b0 ≤ U.heap.size ∧ en_X b0 aK aV U)) (va_Qi (S := Unit) (fun r _ => -1 ≤ r.toInt ∧ r.toInt ≤ 6) (fun _ _ => True) (fun q => b0 ≤ q)) 0 0 (fun q => b0 ≤ q) := by
  refine Met.ofW (cc := cJ1_indexOf_4cfef) (maxL := 4) (ret := some .int) (by decide) rfl ?_
  intro p e s m args below meth c s₁ B hml hv
  obtain ⟨rfl, hsz, hX⟩ := hv
  have hx := B.exec
  have hb := B.bytes
  have hr := B.returns
  have hts0 := atoms_spec (ws := Cond.code yJ1_indexOf_4cfef cJ1_indexOf_4cfef 4 (some .int) :: en_ws) B.pre
  have hts : ∀ w ∈ en_ws, w.before #[.ref aV, .int ch, .int 0, .int 7] s = true := fun w hw => hts0 w (List.mem_cons_of_mem _ hw)
  have hown : s.vm.findClass "java/lang/StringLatin1" = some m.cls := findClass_of_methodNamed B.named
  have hlocks := B.notSynchronized
  have hS : va_S (fun q => b0 ≤ q) s.heap s.heap [] := va_S.rf
  have hl := lv_entry ([.ref aV, .int ch, .int 0, .int 7]) (n := 4) (Nat.le_of_ble_eq_true rfl)
  rw [lg_entry_eq]
  generalize (lg_sl ([.ref aV, .int ch, .int 0, .int 7]) ++ List.replicate (4 - (lg_sl ([.ref aV, .int ch, .int 0, .int 7])).length) Slot.unset).toArray = ls at hl ⊢
  have hE := hX.2.2.1.1 0 (by decide)
  have hl : lv_has ls 4 [(0, .ref aV), (1, .int ch), (2, .int 0), (3, .int 7)] := hl
  refine lv_iload_n hx hb (by decide +kernel : decode cJ1_indexOf_4cfef 0 = .ok (.iload_n 1, 1)) rfl (lv_at hl 1 rfl) ?_
  have hB1 := callB_of (own := "java/lang/StringLatin1") (index := 88) (R := { frames := 1, cells := 0, slots := 0, locals := 40 }) (rm := { frames := 0, cells := 0, slots := 0, locals := 0 }) (mc := 0) (ms := 0) 1 hts (en_consG en_c_can) rfl rfl rfl (hts _ (en_sq 1 rfl)) (hts _ (en_sq 8 rfl)) (by decide +kernel) ⟨by decide, by decide⟩
  refine va_calli (a := #[.int ch]) (va_runS (As := [.int ch]) (rest := []) ⟨hx, hb, hml, hown, hts⟩ (en_can l b0 aK aV ch) ⟨hB1, (hts _ (en_sq 21 rfl))⟩ ⟨fun a U g mk q => ⟨q.1, q.2.1, q.2.2.call⟩, fun U hU hW => ⟨rfl, by rw [hU]; exact hsz, hX.go (Nat.le_refl _) hS hU hW⟩⟩ rfl rfl hl.1 rfl (lv_room (Nat.le_of_ble_eq_true rfl)) (by decide +kernel : decode cJ1_indexOf_4cfef 1 = .ok (.invokestatic 88, 3)) ⟨by decide, by decide⟩) hS (fun q _ h => h) (fun q h => h) (fun r u t H1 locs1 ht hvm hpost hB hsz1 hfr hS => ?_)
  have hT := hE.2.2.2
  refine lv_if_ne (tgt := 9) hx hb (by decide +kernel : decode cJ1_indexOf_4cfef 4 = .ok (.ifCond .ne 5, 3)) (by decide) (fun _ => ?_) (fun _ => ?_)
  · refine lv_iload_n hx hb (by decide +kernel : decode cJ1_indexOf_4cfef 9 = .ok (.iload_n 2, 1)) rfl (lv_at hl 2 rfl) ?_
    refine lv_iconst (v := 0) hx hb (by decide +kernel : decode cJ1_indexOf_4cfef 10 = .ok (.iconst 0, 1)) (by decide) ?_
    refine va_mmax hx hb (hml.trans hl.1.symm) hown (hts _ (en_sq 23 rfl)) (hts _ (en_sq 25 rfl)) (hts _ (en_sq 27 rfl)) (hts _ (en_codeW en_mt_30)) (by decide) (by decide) (Nat.zero_le _) (Nat.zero_le _) (by decide +kernel : decode cJ1_indexOf_4cfef 11 = .ok (.invokestatic 92, 3)) ?_
    rw [if_neg (by decide)]
    refine lv_istore_n (lv' := [(2, .int 0), (0, .ref aV), (1, .int ch), (3, .int 7)]) hx hb (by decide +kernel : decode cJ1_indexOf_4cfef 14 = .ok (.istore_n 2, 1)) rfl hl (by decide) rfl (fun ls hl => ?_)
    refine lv_iload_n hx hb (by decide +kernel : decode cJ1_indexOf_4cfef 15 = .ok (.iload_n 3, 1)) rfl (lv_at hl 3 rfl) ?_
    refine lv_aload_n hx hb (by decide +kernel : decode cJ1_indexOf_4cfef 16 = .ok (.aload_n 0, 1)) rfl (lv_at hl 1 rfl) ?_
    refine va_tlen hx hb hT hS (v := 7) rfl (by decide +kernel : decode cJ1_indexOf_4cfef 17 = .ok (.arraylength, 1)) ?_
    refine va_mmin hx hb (hml.trans hl.1.symm) hown (hts _ (en_sq 24 rfl)) (hts _ (en_sq 26 rfl)) (hts _ (en_sq 27 rfl)) (hts _ (en_codeW en_mt_16)) (by decide) (by decide) (Nat.zero_le _) (Nat.zero_le _) (by decide +kernel : decode cJ1_indexOf_4cfef 18 = .ok (.invokestatic 38, 3)) ?_
    rw [if_neg (by decide)]
    refine lv_istore_n (lv' := [(3, .int 7), (2, .int 0), (0, .ref aV), (1, .int ch)]) hx hb (by decide +kernel : decode cJ1_indexOf_4cfef 21 = .ok (.istore_n 3, 1)) rfl hl (by decide) rfl (fun ls hl => ?_)
    refine lv_iload_n hx hb (by decide +kernel : decode cJ1_indexOf_4cfef 22 = .ok (.iload_n 2, 1)) rfl (lv_at hl 1 rfl) ?_
    refine lv_iload_n hx hb (by decide +kernel : decode cJ1_indexOf_4cfef 23 = .ok (.iload_n 3, 1)) rfl (lv_at hl 0 rfl) ?_
    refine lv_icmp_lt (tgt := 29) hx hb (by decide +kernel : decode cJ1_indexOf_4cfef 24 = .ok (.if_icmp .lt 5, 3)) (by decide) (fun _ => ?_) (fun h => absurd (by decide) h)
    refine lv_aload_n hx hb (by decide +kernel : decode cJ1_indexOf_4cfef 29 = .ok (.aload_n 0, 1)) rfl (lv_at hl 2 rfl) ?_
    refine lv_iload_n hx hb (by decide +kernel : decode cJ1_indexOf_4cfef 30 = .ok (.iload_n 1, 1)) rfl (lv_at hl 3 rfl) ?_
    refine lv_iload_n hx hb (by decide +kernel : decode cJ1_indexOf_4cfef 31 = .ok (.iload_n 2, 1)) rfl (lv_at hl 1 rfl) ?_
    refine lv_iload_n hx hb (by decide +kernel : decode cJ1_indexOf_4cfef 32 = .ok (.iload_n 3, 1)) rfl (lv_at hl 0 rfl) ?_
    have hB33 := callB_of (own := "java/lang/StringLatin1") (index := 95) (R := { frames := 1, cells := 0, slots := 0, locals := 40 }) (rm := { frames := 0, cells := 0, slots := 0, locals := 0 }) (mc := 0) (ms := 0) 4 hts (en_consG en_c_chr) rfl rfl rfl (hts _ (en_sq 1 rfl)) (hts _ (en_sq 9 rfl)) (by decide +kernel) ⟨by decide, by decide⟩
    refine va_calli (a := #[.ref aV, .int ch, .int 0, .int 7]) (va_runS (As := [.ref aV, .int ch, .int 0, .int 7]) (rest := []) ⟨hx, hb, hml, hown, hts⟩ (en_chr l b0 aK aV ch) ⟨hB33, (hts _ (en_sq 22 rfl))⟩ ⟨fun a U g mk q => ⟨q.1, q.2.1, q.2.2.call⟩, fun U hU hW => ⟨rfl, by rw [hU]; exact Nat.le_trans hsz hS.1, hX.go (Nat.le_refl _) hS hU hW⟩⟩ rfl rfl hl.1 rfl (lv_room (Nat.le_of_ble_eq_true rfl)) (by decide +kernel : decode cJ1_indexOf_4cfef 33 = .ok (.invokestatic 95, 3)) ⟨by decide, by decide⟩) hS (fun q _ h => h) (fun q h => h) (fun r u t H1 locs1 ht hvm hpost hB hsz1 hfr hS => ?_)
    exact W.iret hx hb hr (fun t ht _ => ⟨⟨r, (), rfl, hpost, trivial⟩, hS.F ht⟩) hS.2.2 (by decide +kernel : decode cJ1_indexOf_4cfef 36 = .ok (.ireturn, 1))
  · refine lv_iconst (v := -1) hx hb (by decide +kernel : decode cJ1_indexOf_4cfef 7 = .ok (.iconst (-1), 1)) (by decide) ?_
    exact W.iret hx hb hr (fun t ht _ => ⟨⟨-1, (), rfl, by decide, trivial⟩, hS.F ht⟩) hS.2.2 (by decide +kernel : decode cJ1_indexOf_4cfef 8 = .ok (.ireturn, 1))
set_option maxHeartbeats 4000000 in
theorem en_ix2 (l : Launch) (b0 aK aV : Nat) (ch : Int32) : Met l yJ0_indexOf_7cf53 (Cond.code yJ0_indexOf_7cf53 cJ0_indexOf_7cf53 3 (some .int) :: en_ws) ({ frames := 2, cells := 0, slots := 0, locals := 80 }) (va_Pc [.ref aK, .int ch, .int 0] (fun U => b0 ≤ U.heap.size ∧ en_X b0 aK aV U)) (va_Qi (S := Unit) (fun r _ => -1 ≤ r.toInt ∧ r.toInt ≤ 6) (fun _ _ => True) (fun q => b0 ≤ q)) 0 0 (fun q => b0 ≤ q) := by
  refine Met.ofW (cc := cJ0_indexOf_7cf53) (maxL := 3) (ret := some .int) (by decide) rfl ?_
  intro p e s m args below meth c s₁ B hml hv
  obtain ⟨rfl, hsz, hX⟩ := hv
  have hx := B.exec
  have hb := B.bytes
  have hr := B.returns
  have hts0 := atoms_spec (ws := Cond.code yJ0_indexOf_7cf53 cJ0_indexOf_7cf53 3 (some .int) :: en_ws) B.pre
  have hts : ∀ w ∈ en_ws, w.before #[.ref aK, .int ch, .int 0] s = true := fun w hw => hts0 w (List.mem_cons_of_mem _ hw)
  have hown : s.vm.findClass "java/lang/String" = some m.cls := findClass_of_methodNamed B.named
  have hlocks := B.notSynchronized
  have hS : va_S (fun q => b0 ≤ q) s.heap s.heap [] := va_S.rf
  have hl := lv_entry ([.ref aK, .int ch, .int 0]) (n := 3) (Nat.le_of_ble_eq_true rfl)
  rw [lg_entry_eq]
  generalize (lg_sl ([.ref aK, .int ch, .int 0]) ++ List.replicate (3 - (lg_sl ([.ref aK, .int ch, .int 0])).length) Slot.unset).toArray = ls at hl ⊢
  have hE := hX.2.2.1.1 0 (by decide)
  have hl : lv_has ls 3 [(0, .ref aK), (1, .int ch), (2, .int 0)] := hl
  refine lv_aload_n hx hb (by decide +kernel : decode cJ0_indexOf_7cf53 0 = .ok (.aload_n 0, 1)) rfl (lv_at hl 0 rfl) ?_
  have hB1 := callB_of (own := "java/lang/String") (index := 492) (R := { frames := 2, cells := 0, slots := 0, locals := 80 }) (rm := { frames := 0, cells := 0, slots := 0, locals := 0 }) (mc := 0) (ms := 0) 0 hts (en_consG en_c_lat) rfl rfl rfl (hts _ (en_sq 0 rfl)) (hts _ (en_sq 4 rfl)) (by decide +kernel) ⟨by decide, by decide⟩
  refine va_calli (a := #[Value.ref aK]) (va_runV (C := "java/lang/String") (As := []) (rest := []) ⟨hx, hb, hml, hown, hts⟩ (en_lat l b0 aK aV) ⟨hB1, (hts _ (en_sq 14 rfl)), (hts _ (en_sq 15 rfl))⟩ ⟨fun a U g mk q => ⟨q.1, q.2.1, q.2.2.call⟩, vk_recv (i := 0) hX.2.2.1 Nat.zero_lt_one hS, fun U hU hW => ⟨rfl, by rw [hU]; exact hsz, hX.go (Nat.le_refl _) hS hU hW⟩⟩ rfl rfl hl.1 rfl (lv_room (Nat.le_of_ble_eq_true rfl)) (by decide +kernel : decode cJ0_indexOf_7cf53 1 = .ok (.invokevirtual 492, 3)) ⟨by decide, by decide⟩) hS (fun q _ h => h) (fun q h => h) (fun r u t H1 locs1 ht hvm hpost hB hsz1 hfr hS => ?_)
  subst hpost
  refine lv_if_eq (tgt := 23) hx hb (by decide +kernel : decode cJ0_indexOf_7cf53 4 = .ok (.ifCond .eq 19, 3)) (by decide) (fun h => absurd h (by decide)) (fun _ => ?_)
  refine lv_aload_n hx hb (by decide +kernel : decode cJ0_indexOf_7cf53 7 = .ok (.aload_n 0, 1)) rfl (lv_at hl 0 rfl) ?_
  refine vk_getf hx hb hE.2.2.1 hS hown (hts _ (en_sq 29 rfl)) (fun x h => h) (by decide +kernel : decode cJ0_indexOf_7cf53 8 = .ok (.getfield 9, 3)) ?_
  refine lv_iload_n hx hb (by decide +kernel : decode cJ0_indexOf_7cf53 11 = .ok (.iload_n 1, 1)) rfl (lv_at hl 1 rfl) ?_
  refine lv_iload_n hx hb (by decide +kernel : decode cJ0_indexOf_7cf53 12 = .ok (.iload_n 2, 1)) rfl (lv_at hl 2 rfl) ?_
  refine lv_aload_n hx hb (by decide +kernel : decode cJ0_indexOf_7cf53 13 = .ok (.aload_n 0, 1)) rfl (lv_at hl 0 rfl) ?_
  have hB14 := callB_of (own := "java/lang/String") (index := 505) (R := { frames := 2, cells := 0, slots := 0, locals := 80 }) (rm := { frames := 1, cells := 0, slots := 0, locals := 20 }) (mc := 0) (ms := 0) 0 hts (en_consG en_c_len) rfl rfl rfl (hts _ (en_sq 0 rfl)) (hts _ (en_sq 5 rfl)) (by decide +kernel) ⟨by decide, by decide⟩
  refine va_calli (a := #[Value.ref aK]) (va_runV (C := "java/lang/String") (As := []) (rest := [.int 0, .int ch, .ref aV]) ⟨hx, hb, hml, hown, hts⟩ (en_slen l b0 aK aV) ⟨hB14, (hts _ (en_sq 16 rfl)), (hts _ (en_sq 17 rfl))⟩ ⟨fun a U g mk q => ⟨q.1, q.2.1, q.2.2.call⟩, vk_recv (i := 0) hX.2.2.1 Nat.zero_lt_one hS, fun U hU hW => ⟨rfl, by rw [hU]; exact Nat.le_trans hsz hS.1, hX.go (Nat.le_refl _) hS hU hW⟩⟩ rfl rfl hl.1 rfl (lv_room (Nat.le_of_ble_eq_true rfl)) (by decide +kernel : decode cJ0_indexOf_7cf53 14 = .ok (.invokevirtual 505, 3)) ⟨by decide, by decide⟩) hS (fun q _ h => h) (fun q h => h) (fun r u t H1 locs1 ht hvm hpost hB hsz1 hfr hS => ?_)
  subst hpost
  have hB17 := callB_of (own := "java/lang/String") (index := 637) (R := { frames := 2, cells := 0, slots := 0, locals := 80 }) (rm := { frames := 1, cells := 0, slots := 0, locals := 40 }) (mc := 0) (ms := 0) 4 hts (en_consG en_c_lix) rfl rfl rfl (hts _ (en_sq 1 rfl)) (hts _ (en_sq 7 rfl)) (by decide +kernel) ⟨by decide, by decide⟩
  refine va_calli (a := #[.ref aV, .int ch, .int 0, .int 7]) (va_runS (As := [.ref aV, .int ch, .int 0, .int 7]) (rest := []) ⟨hx, hb, hml, hown, hts⟩ (en_lix l b0 aK aV ch) ⟨hB17, (hts _ (en_sq 20 rfl))⟩ ⟨fun a U g mk q => ⟨q.1, q.2.1, q.2.2.call⟩, fun U hU hW => ⟨rfl, by rw [hU]; exact Nat.le_trans hsz hS.1, hX.go (Nat.le_refl _) hS hU hW⟩⟩ rfl rfl hl.1 rfl (lv_room (Nat.le_of_ble_eq_true rfl)) (by decide +kernel : decode cJ0_indexOf_7cf53 17 = .ok (.invokestatic 637, 3)) ⟨by decide, by decide⟩) hS (fun q _ h => h) (fun q h => h) (fun r u t H1 locs1 ht hvm hpost hB hsz1 hfr hS => ?_)
  refine lv_goto (tgt := 36) hx hb (by decide +kernel : decode cJ0_indexOf_7cf53 20 = .ok (.goto 16, 3)) (by decide) ?_
  exact W.iret hx hb hr (fun t ht _ => ⟨⟨r, (), rfl, hpost, trivial⟩, hS.F ht⟩) hS.2.2 (by decide +kernel : decode cJ0_indexOf_7cf53 36 = .ok (.ireturn, 1))
set_option maxHeartbeats 4000000 in
theorem en_ix1 (l : Launch) (b0 aK aV : Nat) (ch : Int32) : Met l yJ0_indexOf_0f7a4 (Cond.code yJ0_indexOf_0f7a4 cJ0_indexOf_0f7a4 2 (some .int) :: en_ws) ({ frames := 3, cells := 0, slots := 0, locals := 110 }) (va_Pc [.ref aK, .int ch] (fun U => b0 ≤ U.heap.size ∧ en_X b0 aK aV U)) (va_Qi (S := Unit) (fun r _ => -1 ≤ r.toInt ∧ r.toInt ≤ 6) (fun _ _ => True) (fun q => b0 ≤ q)) 0 0 (fun q => b0 ≤ q) := by
  refine Met.ofW (cc := cJ0_indexOf_0f7a4) (maxL := 2) (ret := some .int) (by decide) rfl ?_
  intro p e s m args below meth c s₁ B hml hv
  obtain ⟨rfl, hsz, hX⟩ := hv
  have hx := B.exec
  have hb := B.bytes
  have hr := B.returns
  have hts0 := atoms_spec (ws := Cond.code yJ0_indexOf_0f7a4 cJ0_indexOf_0f7a4 2 (some .int) :: en_ws) B.pre
  have hts : ∀ w ∈ en_ws, w.before #[.ref aK, .int ch] s = true := fun w hw => hts0 w (List.mem_cons_of_mem _ hw)
  have hown : s.vm.findClass "java/lang/String" = some m.cls := findClass_of_methodNamed B.named
  have hlocks := B.notSynchronized
  have hS : va_S (fun q => b0 ≤ q) s.heap s.heap [] := va_S.rf
  have hl := lv_entry ([.ref aK, .int ch]) (n := 2) (Nat.le_of_ble_eq_true rfl)
  rw [lg_entry_eq]
  generalize (lg_sl ([.ref aK, .int ch]) ++ List.replicate (2 - (lg_sl ([.ref aK, .int ch])).length) Slot.unset).toArray = ls at hl ⊢
  have hE := hX.2.2.1.1 0 (by decide)
  have hl : lv_has ls 2 [(0, .ref aK), (1, .int ch)] := hl
  refine lv_aload_n hx hb (by decide +kernel : decode cJ0_indexOf_0f7a4 0 = .ok (.aload_n 0, 1)) rfl (lv_at hl 0 rfl) ?_
  refine lv_iload_n hx hb (by decide +kernel : decode cJ0_indexOf_0f7a4 1 = .ok (.iload_n 1, 1)) rfl (lv_at hl 1 rfl) ?_
  refine lv_iconst (v := 0) hx hb (by decide +kernel : decode cJ0_indexOf_0f7a4 2 = .ok (.iconst 0, 1)) (by decide) ?_
  have hB3 := callB_of (own := "java/lang/String") (index := 633) (R := { frames := 3, cells := 0, slots := 0, locals := 110 }) (rm := { frames := 2, cells := 0, slots := 0, locals := 80 }) (mc := 0) (ms := 0) 2 hts (en_consG en_c_ix2) rfl rfl rfl (hts _ (en_sq 0 rfl)) (hts _ (en_sq 3 rfl)) (by decide +kernel) ⟨by decide, by decide⟩
  refine va_calli (a := #[Value.ref aK, .int ch, .int 0]) (va_runV (C := "java/lang/String") (As := [.int ch, .int 0]) (rest := []) ⟨hx, hb, hml, hown, hts⟩ (en_ix2 l b0 aK aV ch) ⟨hB3, (hts _ (en_sq 12 rfl)), (hts _ (en_sq 13 rfl))⟩ ⟨fun a U g mk q => ⟨q.1, q.2.1, q.2.2.call⟩, vk_recv (i := 0) hX.2.2.1 Nat.zero_lt_one hS, fun U hU hW => ⟨rfl, by rw [hU]; exact hsz, hX.go (Nat.le_refl _) hS hU hW⟩⟩ rfl rfl hl.1 rfl (lv_room (Nat.le_of_ble_eq_true rfl)) (by decide +kernel : decode cJ0_indexOf_0f7a4 3 = .ok (.invokevirtual 633, 3)) ⟨by decide, by decide⟩) hS (fun q _ h => h) (fun q h => h) (fun r u t H1 locs1 ht hvm hpost hB hsz1 hfr hS => ?_)
  exact W.iret hx hb hr (fun t ht _ => ⟨⟨r, (), rfl, hpost, trivial⟩, hS.F ht⟩) hS.2.2 (by decide +kernel : decode cJ0_indexOf_0f7a4 6 = .ok (.ireturn, 1))
set_option maxHeartbeats 4000000 in
theorem hs_idx {p : Program} {l : Launch} {e : Env} {R : Room} {s : State} {m : MethodId} {args : Array Value} {below : List Frame} {meth : Method} {c : Code} {Q : State → Prop} {D : va_G} {tys : List (ClassId × FieldType)} {T : en_T} {I : va_W → Prop} {aK aV b0 : Nat} {ad : Nat → Nat} {w0 : va_W} {Wr : List (Nat × Nat)} {γ : Nat → Int} {L : List ev_l} {FS : List ev_f} {RS : List ev_r} {q : Int × Int} {g : Option (Nat × Int)} (C : ev_cx p s m args meth c prog_2_method_12_code 5 0 D tys aK aV b0) (hL : L[3]? = some (some (.inl q, g))) (hfr : 4 ≤ R.frames) (hlo : 131 ≤ R.locals) (k : ev_go p l e R s m args below meth c Q D tys T I b0 5 ad w0 Wr γ (96, L, [(.inl (-1, 6), ev_nt)], FS, RS)) : ev_go p l e R s m args below meth c Q D tys T I b0 5 ad w0 Wr γ (89, L, [], FS, RS) := by
  intro H locs ls stk ws h
  dsimp only at h
  obtain ⟨hz, hl, hs, hF, hR, hw, hI, hP, hD, hS, hfr0⟩ := h
  cases stk with
  | cons a b => exact hs.elim
  | nil =>
    obtain ⟨x0, h3, ⟨x, rfl, hx⟩, -⟩ := hl 3 _ hL
    have hX := C.2.2.2.2.2.2.2.1
    have hts := C.2.2.2.2.1
    have hb0 := C.2.2.2.2.2.2.1
    refine va_ldcS C.1 C.2.1 C.2.2.2.1 hX.2.1 (by decide +kernel : decode prog_2_method_12_code 89 = .ok (.ldc 27, 2)) ?_
    refine lv_iload_n C.1 C.2.1 (by decide +kernel : decode prog_2_method_12_code 91 = .ok (.iload_n 3, 1)) rfl h3 ?_
    refine lv_i2c C.1 C.2.1 (by decide +kernel : decode prog_2_method_12_code 92 = .ok (.i2c, 1)) rfl ?_
    have hB := callB_of (own := en_nm 0) (index := 119) (R := R) (rm := { frames := 3, cells := 0, slots := 0, locals := 110 }) (mc := 0) (ms := 0) 1 hts (en_consG en_c_ix1) rfl rfl rfl (hts _ (en_sq 0 rfl)) (hts _ (en_sq 2 rfl)) (by decide +kernel) ⟨hfr, hlo⟩
    refine va_calli (a := #[Value.ref aK, .int _]) (va_runV (C := "java/lang/String") (As := [.int _]) (rest := []) ⟨C.1, C.2.1, C.2.2.1, C.2.2.2.1, hts⟩ (en_ix1 l H.size aK aV _) ⟨hB, (hts _ (en_sq 10 rfl)), (hts _ (en_sq 11 rfl))⟩ ⟨fun a U g mk q => ⟨q.1, q.2.1, q.2.2.call⟩, vk_recv (i := 0) hX.2.2.1 Nat.zero_lt_one hS, fun U hU hW => ⟨rfl, by rw [hU]; exact Nat.le_refl _, hX.go (Nat.le_trans hb0 hS.1) hS hU hW⟩⟩ rfl rfl hz.1 rfl (lv_room (Nat.le_of_ble_eq_true rfl)) (by decide +kernel : decode prog_2_method_12_code 93 = .ok (.invokevirtual 119, 3)) ⟨Nat.zero_le _, Nat.zero_le _⟩) hS (fun q h1 h2 => absurd h2 (by omega)) (fun q (h : H.size ≤ q) => by show b0 ≤ q; have := hS.1; omega) (fun r u t H1 locs1 ht hvm hpost hB hsz1 hfr hS1 => ?_)
    exact k H1 locs1 ls [.int r] ws ⟨hz, hl, ⟨⟨⟨r, rfl, hpost⟩, ev_tag0⟩, trivial⟩, hF, hR, hw, hI, hP.kept (fun k q hk => hfr q.1 ((hP k q hk).lt) (by show ¬ H.size ≤ q.1; have := (hP k q hk).lt; omega)), hD, hS1, hfr0⟩
def eg_W (D : va_G) (tys : List (ClassId × FieldType)) (A : Nat → Prop) (T : en_T) (ad : Nat → Nat) (H : Heap) : Prop :=
  ∃ ws : va_W, ws.length = T.length ∧ (∀ (k : Nat) (t : en_C), T[k]? = some t → ∃ e : va_E, ws[k]? = some (ad k, e) ∧ ev_c tys T.length ad t e) ∧ va_P D vwCl ws H ∧ va_D A ws
def eg_cle (a b : en_C) : Bool := match a, b with
  | .inl q, .inl r => q.1 == r.1 && q.2.1 == r.2.1 && decide (r.2.2.1 ≤ q.2.2.1) && decide (q.2.2.2 ≤ r.2.2.2) && (q.1 != 3 || decide (q = r))
  | .inr q, .inr r => q.1 == r.1 && en_all2 en_le q.2 r.2
  | _, _ => false
theorem ec_get {tys : List (ClassId × FieldType)} {N : Nat} {ad : Nat → Nat} {q : Nat × Nat × Int × Int} {e : va_E} (h3 : q.1 ≠ 3) (h : ev_c tys N ad (.inl q) e) : ∃ (cA : ClassId) (f : Nat → Int32), e = .inl (cA, q.2.1, .inl f) ∧ tys[q.1]? = some (cA, en_ty q.1) ∧ ∀ j, j < q.2.1 → q.2.2.1 ≤ (f j).toInt ∧ (f j).toInt ≤ q.2.2.2 := by
  unfold ev_c at h
  dsimp only at h
  rw [if_neg h3] at h
  exact h
theorem ec_arr {tys : List (ClassId × FieldType)} {N : Nat} {ad : Nat → Nat} {q : Nat × Nat × Int × Int} {e : va_E} (h3 : q.1 ≠ 3) (h : ∃ (cA : ClassId) (f : Nat → Int32), e = .inl (cA, q.2.1, .inl f) ∧ tys[q.1]? = some (cA, en_ty q.1) ∧ ∀ j, j < q.2.1 → q.2.2.1 ≤ (f j).toInt ∧ (f j).toInt ≤ q.2.2.2) : ev_c tys N ad (.inl q) e := by
  unfold ev_c
  dsimp only
  rw [if_neg h3]
  exact h
theorem eg_c_mono {tys : List (ClassId × FieldType)} {N M : Nat} {ad ad' : Nat → Nat} (hN : N ≤ M) (hq : ∀ k, k < N → ad' k = ad k) {t : en_C} {e : va_E} (h : ev_c tys N ad t e) : ev_c tys M ad' t e := by
  match t, h with
  | .inl q, h =>
    unfold ev_c at *
    dsimp only at *
    split at h
    · rename_i h3
      rw [if_pos h3]
      obtain ⟨cA, f, h1, h2, h4⟩ := h
      exact ⟨cA, f, h1, h2, fun j hj => by obtain ⟨a, b⟩ := h4 j hj; exact ⟨by rw [hq _ b]; exact a, by omega⟩⟩
    · rename_i h3
      rw [if_neg h3]
      exact h
  | .inr q, ⟨vs, h1, h2⟩ => exact ⟨vs, h1, en_vs_mono hN hq h2⟩
theorem eg_cle_ok {tys : List (ClassId × FieldType)} {N : Nat} {ad : Nat → Nat} {a b : en_C} {e : va_E} (h : eg_cle a b = true) (hx : ev_c tys N ad a e) : ev_c tys N ad b e := by
  match a, b, h with
  | .inl q, .inl r, h =>
    simp only [eg_cle, Bool.and_eq_true, Bool.or_eq_true, decide_eq_true_eq, beq_iff_eq, bne_iff_ne, ne_eq] at h
    obtain ⟨⟨⟨⟨h1, h2⟩, h3⟩, h4⟩, h5⟩ := h
    rcases h5 with h5 | h5
    · obtain ⟨cA, f, e1, e2, e3⟩ := ec_get h5 hx
      exact ec_arr (by rw [← h1]; exact h5) ⟨cA, f, by rw [← h2]; exact e1, by rw [← h1]; exact e2, fun j hj => by have := e3 j (by omega); omega⟩
    · rw [← h5]
      exact hx
  | .inr q, .inr r, h =>
    simp only [eg_cle, Bool.and_eq_true, beq_iff_eq] at h
    obtain ⟨vs, e1, e2⟩ := hx
    exact ⟨vs, by rw [← h.1]; exact e1, en_all2_vs h.2 e2⟩
section ENW
variable {D : va_G} {tys : List (ClassId × FieldType)} {A : Nat → Prop} {T T' : en_T} {ad ad' : Nat → Nat} {H H1 : Heap}
theorem eg_W.le (h : eg_W D tys A T ad H) (hT : en_all2 eg_cle T T' = true) : eg_W D tys A T' ad H := by
  obtain ⟨ws, h1, h2, h3, h4⟩ := h
  have hl := en_all2_len hT
  refine ⟨ws, h1.trans hl, fun k t hk => ?_, h3, h4⟩
  obtain ⟨a, g1, g2⟩ := en_all2_get hT hk
  obtain ⟨e, g3, g4⟩ := h2 k a g1
  exact ⟨e, g3, eg_cle_ok g2 (by rw [← hl]; exact g4)⟩
theorem eg_W.kept (h : eg_W D tys A T ad H) (hq : ∀ q : Nat, q < H.size → H1[q]? = H[q]?) : eg_W D tys A T ad H1 := by
  obtain ⟨ws, h1, h2, h3, h4⟩ := h
  exact ⟨ws, h1, h2, h3.kept (fun k q hk => hq q.1 ((h3 k q hk).lt)), h4⟩
theorem eg_W.put {ws : va_W} {k : Nat} {e : va_E} {t : en_C} (h1 : ws.length = T.length) (h2 : ∀ (k : Nat) (t : en_C), T[k]? = some t → ∃ e : va_E, ws[k]? = some (ad k, e) ∧ ev_c tys T.length ad t e)
    (hP : va_P D vwCl (ws.set k (ad k, e)) H1) (hD : va_D A (ws.set k (ad k, e))) (he : ev_c tys T.length ad t e) : eg_W D tys A (T.set k t) ad H1 := by
  refine ⟨ws.set k (ad k, e), by rw [List.length_set, List.length_set]; exact h1, fun j u hj => ?_, hP, hD⟩
  rw [List.length_set]
  by_cases hjk : j = k
  · subst hjk
    by_cases hl : j < T.length
    · rw [List.getElem?_set_self hl] at hj
      cases hj
      exact ⟨e, List.getElem?_set_self (by omega), he⟩
    · rw [List.getElem?_eq_none (by rw [List.length_set]; omega)] at hj
      cases hj
  · rw [List.getElem?_set_ne (Ne.symm hjk)] at hj
    rw [List.getElem?_set_ne (Ne.symm hjk)]
    exact h2 j u hj
theorem eg_W.push {ws : va_W} {q : Nat} {e : va_E} {t : en_C} (h1 : ws.length = T.length) (h2 : ∀ (k : Nat) (t : en_C), T[k]? = some t → ∃ e : va_E, ws[k]? = some (ad k, e) ∧ ev_c tys T.length ad t e)
    (hP : va_P D vwCl (ws ++ [(q, e)]) H1) (hD : va_D A (ws ++ [(q, e)])) (he : ev_c tys T.length ad t e) : eg_W D tys A (T ++ [t]) (en_up ad T.length q) H1 := by
  refine ⟨ws ++ [(q, e)], by rw [List.length_append, List.length_append, h1]; rfl, fun j u hj => ?_, hP, hD⟩
  rw [List.length_append]
  by_cases hl : j < T.length
  · rw [List.getElem?_append_left hl] at hj
    obtain ⟨e0, g1, g2⟩ := h2 j u hj
    refine ⟨e0, ?_, eg_c_mono (Nat.le_add_right _ _) (fun k hk => en_up_lt hk) g2⟩
    rw [List.getElem?_append_left (by omega), en_up_lt hl]
    exact g1
  · rw [List.getElem?_append_right (by omega)] at hj
    have hz : j - T.length < 1 := (List.getElem?_eq_some_iff.mp hj).1
    have hj0 : j = T.length := by omega
    subst hj0
    rw [Nat.sub_self] at hj
    cases hj
    refine ⟨e, ?_, eg_c_mono (Nat.le_add_right _ _) (fun k hk => en_up_lt hk) he⟩
    rw [List.getElem?_append_right (by omega), h1, Nat.sub_self, en_up_at]
    rfl
end ENW
abbrev en_K : Type := Nat × List en_V × en_T × Option en_V × en_T × Nat × Nat × Nat × Nat
def k_T0 (κ : en_K) : en_T := κ.2.2.1
def k_rv (κ : en_K) : Option en_V := κ.2.2.2.1
def k_T1 (κ : en_K) : en_T := κ.2.2.2.2.1
def k_fr (κ : en_K) : Nat := κ.2.2.2.2.2.1
def k_lo (κ : en_K) : Nat := κ.2.2.2.2.2.2.1
def k_mc (κ : en_K) : Nat := κ.2.2.2.2.2.2.2.1
def k_ms (κ : en_K) : Nat := κ.2.2.2.2.2.2.2.2
def en_rm (κ : en_K) : Room := { frames := k_fr κ, cells := k_mc κ, slots := k_ms κ, locals := k_lo κ }
def en_tok (tys : List (ClassId × FieldType)) : Prop := (∀ t, t < 3 → ∃ cA : ClassId, tys[t]? = some (cA, en_ty t)) ∧ ∃ cA : ClassId, tys[3]? = some (cA, .array .int)
def en_pc (D : va_G) (tys : List (ClassId × FieldType)) (aK aV b0 : Nat) (T : en_T) (ad : Nat → Nat) (as : List Value) : Array Value → State → Prop := va_Pc as (fun U => b0 ≤ U.heap.size ∧ eg_W D tys (fun q => b0 ≤ q) T ad U.heap ∧ va_K D vwCl tys U ∧ en_X b0 aK aV U)
def en_qc (D : va_G) (tys : List (ClassId × FieldType)) (b0 N0 : Nat) (ad : Nat → Nat) (rv : Option en_V) (T1 : en_T) : Array Value → State → Outcome → State → Prop := match rv with
  | some r => va_Qi (S := Nat → Nat) (fun x ad' => en_v T1.length ad' r (.int x) ∧ N0 ≤ T1.length ∧ ∀ k, k < N0 → ad' k = ad k) (fun ad' t => eg_W D tys (fun q => b0 ≤ q) T1 ad' t.heap) (fun q => b0 ≤ q)
  | none => va_Qv (S := Nat → Nat) (fun ad' => N0 ≤ T1.length ∧ ∀ k, k < N0 → ad' k = ad k) (fun ad' t => eg_W D tys (fun q => b0 ≤ q) T1 ad' t.heap) (fun q => b0 ≤ q)
def en_ok (l : Launch) (κ : en_K) : Prop := ∀ r, en_ms[κ.1]? = some r → ∀ (D : va_G) (tys : List (ClassId × FieldType)) (aK aV b0 : Nat), en_tok tys → ∀ (as : List Value) (ad : Nat → Nat), en_vs (k_T0 κ).length ad κ.2.1 as →
  Met l r.1 (Cond.code r.1 r.2.1 r.2.2.1 r.2.2.2 :: en_ws) (en_rm κ) (en_pc D tys aK aV b0 (k_T0 κ) ad as) (en_qc D tys b0 (k_T0 κ).length ad (k_rv κ) (k_T1 κ)) (k_mc κ) (k_ms κ) (fun q => b0 ≤ q)
theorem en_pc_blind {D : va_G} {tys : List (ClassId × FieldType)} {aK aV b0 : Nat} {T : en_T} {ad : Nat → Nat} {as : List Value} : FrameBlind (en_pc D tys aK aV b0 T ad as) := by
  intro a U g mk h
  obtain ⟨h1, h2, h3, h4, h5⟩ := h
  exact ⟨h1, h2, h3, va_K.moved (u := U) (U := U.calling g mk a) (Vm.Alike.refl U.vm) h4, h5.call⟩
def en_br (b : Bool × Bool) (t f : en_S) : List en_S := match b with
  | (true, true) => [t, f]
  | (true, false) => [t]
  | (false, true) => [f]
  | (false, false) => []
theorem en_br_t {b : Bool × Bool} {t f : en_S} (h : b.1 = true) : t ∈ en_br b t f := by
  obtain ⟨b1, b2⟩ := b
  cases h
  cases b2 <;> simp [en_br]
theorem en_br_f {b : Bool × Bool} {t f : en_S} (h : b.2 = true) : f ∈ en_br b t f := by
  obtain ⟨b1, b2⟩ := b
  cases h
  cases b1 <;> simp [en_br]
def en_cx (p : Program) (s : State) (m : MethodId) (args : Array Value) (meth : Method) (c : Code) (cc : ByteArray) (nL o : Nat) (D : va_G) (tys : List (ClassId × FieldType)) (aK aV b0 : Nat) : Prop :=
  p.tables.exec = Jvm.exec ∧ c.code = cc ∧ c.maxLocals = nL ∧ s.vm.findClass (en_nm o) = some m.cls ∧ (∀ w ∈ en_ws, w.before args s = true) ∧ va_K D vwCl tys s ∧ en_tok tys ∧ b0 ≤ s.heap.size ∧ en_X b0 aK aV s ∧ meth.locks = false
def en_at (s : State) (D : va_G) (tys : List (ClassId × FieldType)) (b0 nL N0 : Nat) (ad0 : Nat → Nat) (L : en_L) (S : List en_V) (T : en_T) (H : Heap) (locs : List Loc) (ls : Array Slot) (stk : List Value) (ad : Nat → Nat) : Prop :=
  en_l T.length ad L nL ls ∧ L.length = nL ∧ en_vs T.length ad S stk ∧ eg_W D tys (fun q => b0 ≤ q) T ad H ∧ va_S (fun q => b0 ≤ q) s.heap H locs ∧ N0 ≤ T.length ∧ ∀ k, k < N0 → ad k = ad0 k
def en_go (p : Program) (l : Launch) (e : Env) (R : Room) (s : State) (m : MethodId) (args : Array Value) (below : List Frame) (meth : Method) (c : Code) (Q : State → Prop) (D : va_G) (tys : List (ClassId × FieldType)) (b0 nL N0 : Nat) (ad0 : Nat → Nat) (st : en_S) : Prop :=
  ∀ (H : Heap) (locs : List Loc) (ls : Array Slot) (stk : List Value) (ad : Nat → Nat), en_at s D tys b0 nL N0 ad0 st.2.1 st.2.2.1 st.2.2.2.1 H locs ls stk ad → W p l e R s m args below meth c H locs st.2.2.2.2.1 st.2.2.2.2.2 Q (F0 m st.1 ls stk)
theorem en_vs_cons {N : Nat} {ad : Nat → Nat} {a : en_V} {as : List en_V} {xs : List Value} (h : en_vs N ad (a :: as) xs) : ∃ x ys, xs = x :: ys ∧ en_v N ad a x ∧ en_vs N ad as ys := by
  cases xs with
  | nil => exact h.elim
  | cons x ys => exact ⟨x, ys, rfl, h.1, h.2⟩
section ENI
variable {p : Program} {l : Launch} {e : Env} {R : Room} {s : State} {m : MethodId} {args : Array Value} {below : List Frame} {meth : Method} {c : Code} {Q : State → Prop} {cc : ByteArray} {D : va_G} {tys : List (ClassId × FieldType)} {aK aV b0 nL o N0 : Nat} {ad0 : Nat → Nat}
variable {pc : Nat} {L : en_L} {S : List en_V} {T : en_T} {cs sl : Nat}
theorem es_push {pc' : Nat} {v : Int32} {q : Int × Int} (hq : en_in q v) (row : ∀ (H : Heap) (locs : List Loc) (ls : Array Slot) (rest : List Value), W p l e R s m args below meth c H locs cs sl Q (F0 m pc' ls (.int v :: rest)) → W p l e R s m args below meth c H locs cs sl Q (F0 m pc ls rest))
    (k : en_go p l e R s m args below meth c Q D tys b0 nL N0 ad0 (pc', L, .inl q :: S, T, cs, sl)) : en_go p l e R s m args below meth c Q D tys b0 nL N0 ad0 (pc, L, S, T, cs, sl) := by
  intro H locs ls stk ad h
  dsimp only at h
  obtain ⟨hl, hn, hs, hr⟩ := h
  exact row H locs ls stk (k H locs ls (.int v :: stk) ad ⟨hl, hn, ⟨⟨v, rfl, hq⟩, hs⟩, hr⟩)
theorem es_iconst (C : en_cx p s m args meth c cc nL o D tys aK aV b0) {n : Int} (hd : decode cc pc = .ok (.iconst n, 1)) (k : en_go p l e R s m args below meth c Q D tys b0 nL N0 ad0 (pc + 1, L, .inl ((Int32.ofInt n).toInt, (Int32.ofInt n).toInt) :: S, T, cs, sl)) : en_go p l e R s m args below meth c Q D tys b0 nL N0 ad0 (pc, L, S, T, cs, sl) :=
  es_push (en_in_self _) (fun H locs ls rest k => lv_iconst C.1 C.2.1 hd rfl k) k
theorem es_bipush (C : en_cx p s m args meth c cc nL o D tys aK aV b0) {n : Int} (hd : decode cc pc = .ok (.bipush n, 2)) (k : en_go p l e R s m args below meth c Q D tys b0 nL N0 ad0 (pc + 2, L, .inl ((Int8.ofInt n).toInt32.toInt, (Int8.ofInt n).toInt32.toInt) :: S, T, cs, sl)) : en_go p l e R s m args below meth c Q D tys b0 nL N0 ad0 (pc, L, S, T, cs, sl) :=
  es_push (en_in_self _) (fun H locs ls rest k => lv_bipush C.1 C.2.1 hd rfl k) k
theorem es_sipush (C : en_cx p s m args meth c cc nL o D tys aK aV b0) {n : Int} (hd : decode cc pc = .ok (.sipush n, 3)) (k : en_go p l e R s m args below meth c Q D tys b0 nL N0 ad0 (pc + 3, L, .inl ((Int16.ofInt n).toInt32.toInt, (Int16.ofInt n).toInt32.toInt) :: S, T, cs, sl)) : en_go p l e R s m args below meth c Q D tys b0 nL N0 ad0 (pc, L, S, T, cs, sl) :=
  es_push (en_in_self _) (fun H locs ls rest k => lv_sipush C.1 C.2.1 hd rfl k) k
theorem es_ldc (C : en_cx p s m args meth c cc nL o D tys aK aV b0) {i : Nat} {v : Int} (hf : en_find o i en_kc = some v) (hd : decode cc pc = .ok (.ldc i, 2)) (k : en_go p l e R s m args below meth c Q D tys b0 nL N0 ad0 (pc + 2, L, .inl ((Int32.ofInt v).toInt, (Int32.ofInt v).toInt) :: S, T, cs, sl)) : en_go p l e R s m args below meth c Q D tys b0 nL N0 ad0 (pc, L, S, T, cs, sl) := by
  have hw : Cond.constant (en_nm o) i (Int32.ofInt v) ∈ en_ws := en_ws_in (en_kc_in _ (List.mem_map.mpr ⟨(o, i, v), en_find_mem hf, rfl⟩)) rfl
  exact es_push (en_in_self _) (fun H locs ls rest k => lv_ldc C.1 C.2.1 C.2.2.2.1 (C.2.2.2.2.1 _ hw) hd k) k
theorem es_ldcw (C : en_cx p s m args meth c cc nL o D tys aK aV b0) {i : Nat} {v : Int} (hf : en_find o i en_kc = some v) (hd : decode cc pc = .ok (.ldc_w i, 3)) (k : en_go p l e R s m args below meth c Q D tys b0 nL N0 ad0 (pc + 3, L, .inl ((Int32.ofInt v).toInt, (Int32.ofInt v).toInt) :: S, T, cs, sl)) : en_go p l e R s m args below meth c Q D tys b0 nL N0 ad0 (pc, L, S, T, cs, sl) := by
  have hw : Cond.constant (en_nm o) i (Int32.ofInt v) ∈ en_ws := en_ws_in (en_kc_in _ (List.mem_map.mpr ⟨(o, i, v), en_find_mem hf, rfl⟩)) rfl
  exact es_push (en_in_self _) (fun H locs ls rest k => lv_ldcw C.1 C.2.1 C.2.2.2.1 (C.2.2.2.2.1 _ hw) hd k) k
theorem es_load {pc' i : Nat} {q : Int × Int} (hL : L[i]? = some (some (.inl q))) (row : ∀ (H : Heap) (locs : List Loc) (ls : Array Slot) (rest : List Value) (v : Int32), ls[i]? = some (.val (.int v)) → W p l e R s m args below meth c H locs cs sl Q (F0 m pc' ls (.int v :: rest)) → W p l e R s m args below meth c H locs cs sl Q (F0 m pc ls rest))
    (k : en_go p l e R s m args below meth c Q D tys b0 nL N0 ad0 (pc', L, .inl q :: S, T, cs, sl)) : en_go p l e R s m args below meth c Q D tys b0 nL N0 ad0 (pc, L, S, T, cs, sl) := by
  intro H locs ls stk ad h
  dsimp only at h
  obtain ⟨hl, hn, hs, hr⟩ := h
  obtain ⟨x, h1, v, rfl, hv⟩ := hl.2.2 i _ hL
  exact row H locs ls stk v h1 (k H locs ls (.int v :: stk) ad ⟨hl, hn, ⟨⟨v, rfl, hv⟩, hs⟩, hr⟩)
theorem es_iload_n (C : en_cx p s m args meth c cc nL o D tys aK aV b0) {i : Fin 4} {q : Int × Int} (hL : L[(i : Nat)]? = some (some (.inl q))) (hd : decode cc pc = .ok (.iload_n i, 1)) (k : en_go p l e R s m args below meth c Q D tys b0 nL N0 ad0 (pc + 1, L, .inl q :: S, T, cs, sl)) : en_go p l e R s m args below meth c Q D tys b0 nL N0 ad0 (pc, L, S, T, cs, sl) :=
  es_load hL (fun H locs ls rest v h k => lv_iload_n C.1 C.2.1 hd rfl h k) k
theorem es_iload (C : en_cx p s m args meth c cc nL o D tys aK aV b0) {i : Nat} {q : Int × Int} (hL : L[i]? = some (some (.inl q))) (hd : decode cc pc = .ok (.iload i, 2)) (k : en_go p l e R s m args below meth c Q D tys b0 nL N0 ad0 (pc + 2, L, .inl q :: S, T, cs, sl)) : en_go p l e R s m args below meth c Q D tys b0 nL N0 ad0 (pc, L, S, T, cs, sl) :=
  es_load hL (fun H locs ls rest v h k => lv_iload C.1 C.2.1 hd h k) k
theorem es_loada {pc' i j : Nat} (hL : L[i]? = some (some (.inr (j + 2)))) (row : ∀ (H : Heap) (locs : List Loc) (ls : Array Slot) (rest : List Value) (v : Nat), ls[i]? = some (.val (.ref v)) → W p l e R s m args below meth c H locs cs sl Q (F0 m pc' ls (.ref v :: rest)) → W p l e R s m args below meth c H locs cs sl Q (F0 m pc ls rest))
    (k : en_go p l e R s m args below meth c Q D tys b0 nL N0 ad0 (pc', L, .inr (j + 2) :: S, T, cs, sl)) : en_go p l e R s m args below meth c Q D tys b0 nL N0 ad0 (pc, L, S, T, cs, sl) := by
  intro H locs ls stk ad h
  dsimp only at h
  obtain ⟨hl, hn, hs, hr⟩ := h
  obtain ⟨x, h1, h2⟩ := hl.2.2 i _ hL
  have h2 : x = .ref (ad j) ∧ j < T.length := h2
  obtain ⟨rfl, hv⟩ := h2
  exact row H locs ls stk (ad j) h1 (k H locs ls (.ref (ad j) :: stk) ad ⟨hl, hn, ⟨⟨rfl, hv⟩, hs⟩, hr⟩)
theorem es_aload_n (C : en_cx p s m args meth c cc nL o D tys aK aV b0) {i : Fin 4} {j : Nat} (hL : L[(i : Nat)]? = some (some (.inr (j + 2)))) (hd : decode cc pc = .ok (.aload_n i, 1)) (k : en_go p l e R s m args below meth c Q D tys b0 nL N0 ad0 (pc + 1, L, .inr (j + 2) :: S, T, cs, sl)) : en_go p l e R s m args below meth c Q D tys b0 nL N0 ad0 (pc, L, S, T, cs, sl) :=
  es_loada hL (fun H locs ls rest v h k => lv_aload_n C.1 C.2.1 hd rfl h k) k
theorem es_aload (C : en_cx p s m args meth c cc nL o D tys aK aV b0) {i j : Nat} (hL : L[i]? = some (some (.inr (j + 2)))) (hd : decode cc pc = .ok (.aload i, 2)) (k : en_go p l e R s m args below meth c Q D tys b0 nL N0 ad0 (pc + 2, L, .inr (j + 2) :: S, T, cs, sl)) : en_go p l e R s m args below meth c Q D tys b0 nL N0 ad0 (pc, L, S, T, cs, sl) :=
  es_loada hL (fun H locs ls rest v h k => lv_aload C.1 C.2.1 hd h k) k
theorem es_istore_n (C : en_cx p s m args meth c cc nL o D tys aK aV b0) {i : Fin 4} {q : Int × Int} (hi : (i : Nat) < L.length) (hd : decode cc pc = .ok (.istore_n i, 1)) (k : en_go p l e R s m args below meth c Q D tys b0 nL N0 ad0 (pc + 1, L.set i (some (.inl q)), S, T, cs, sl)) : en_go p l e R s m args below meth c Q D tys b0 nL N0 ad0 (pc, L, .inl q :: S, T, cs, sl) := by
  intro H locs ls stk ad h
  dsimp only at h
  obtain ⟨hl, hn, hs, hr⟩ := h
  obtain ⟨x, ys, rfl, ⟨v, rfl, hv⟩, hs1⟩ := en_vs_cons hs
  refine lv_istore_n C.1 C.2.1 hd rfl (en_lv_has hl.1 hl.2.1) (by omega) rfl (fun ls' hl' => ?_)
  exact k H locs ls' ys ad ⟨en_l_set hl ⟨v, rfl, hv⟩ hl', by rw [List.length_set]; exact hn, hs1, hr⟩
theorem es_istore (C : en_cx p s m args meth c cc nL o D tys aK aV b0) {i : Nat} {q : Int × Int} (hi : i < L.length) (hd : decode cc pc = .ok (.istore i, 2)) (k : en_go p l e R s m args below meth c Q D tys b0 nL N0 ad0 (pc + 2, L.set i (some (.inl q)), S, T, cs, sl)) : en_go p l e R s m args below meth c Q D tys b0 nL N0 ad0 (pc, L, .inl q :: S, T, cs, sl) := by
  intro H locs ls stk ad h
  dsimp only at h
  obtain ⟨hl, hn, hs, hr⟩ := h
  obtain ⟨x, ys, rfl, ⟨v, rfl, hv⟩, hs1⟩ := en_vs_cons hs
  refine lv_istore C.1 C.2.1 hd (en_lv_has hl.1 hl.2.1) (by omega) rfl (fun ls' hl' => ?_)
  exact k H locs ls' ys ad ⟨en_l_set hl ⟨v, rfl, hv⟩ hl', by rw [List.length_set]; exact hn, hs1, hr⟩
theorem es_astore_n (C : en_cx p s m args meth c cc nL o D tys aK aV b0) {i : Fin 4} {j : Nat} (hi : (i : Nat) < L.length) (hd : decode cc pc = .ok (.astore_n i, 1)) (k : en_go p l e R s m args below meth c Q D tys b0 nL N0 ad0 (pc + 1, L.set i (some (.inr (j + 2))), S, T, cs, sl)) : en_go p l e R s m args below meth c Q D tys b0 nL N0 ad0 (pc, L, .inr (j + 2) :: S, T, cs, sl) := by
  intro H locs ls stk ad h
  dsimp only at h
  obtain ⟨hl, hn, hs, hr⟩ := h
  obtain ⟨x, ys, rfl, hv, hs1⟩ := en_vs_cons hs
  obtain ⟨rfl, hv2⟩ : x = .ref (ad j) ∧ j < T.length := hv
  refine lv_astore_n C.1 C.2.1 hd rfl (en_lv_has hl.1 hl.2.1) (by omega) rfl (fun ls' hl' => ?_)
  exact k H locs ls' ys ad ⟨en_l_set hl (a := .inr (j + 2)) ⟨rfl, hv2⟩ hl', by rw [List.length_set]; exact hn, hs1, hr⟩
theorem es_astore (C : en_cx p s m args meth c cc nL o D tys aK aV b0) {i j : Nat} (hi : i < L.length) (hd : decode cc pc = .ok (.astore i, 2)) (k : en_go p l e R s m args below meth c Q D tys b0 nL N0 ad0 (pc + 2, L.set i (some (.inr (j + 2))), S, T, cs, sl)) : en_go p l e R s m args below meth c Q D tys b0 nL N0 ad0 (pc, L, .inr (j + 2) :: S, T, cs, sl) := by
  intro H locs ls stk ad h
  dsimp only at h
  obtain ⟨hl, hn, hs, hr⟩ := h
  obtain ⟨x, ys, rfl, hv, hs1⟩ := en_vs_cons hs
  obtain ⟨rfl, hv2⟩ : x = .ref (ad j) ∧ j < T.length := hv
  refine lv_astore C.1 C.2.1 hd (en_lv_has hl.1 hl.2.1) (by omega) rfl (fun ls' hl' => ?_)
  exact k H locs ls' ys ad ⟨en_l_set hl (a := .inr (j + 2)) ⟨rfl, hv2⟩ hl', by rw [List.length_set]; exact hn, hs1, hr⟩
theorem es_iinc (C : en_cx p s m args meth c cc nL o D tys aK aV b0) {i : Nat} {n : Int} {q : Int × Int} (hL : L[i]? = some (some (.inl q))) (hd : decode cc pc = .ok (.iinc i n, 3)) (k : en_go p l e R s m args below meth c Q D tys b0 nL N0 ad0 (pc + 3, L.set i (some (.inl (en_add q ((Int32.ofInt n).toInt, (Int32.ofInt n).toInt)))), S, T, cs, sl)) : en_go p l e R s m args below meth c Q D tys b0 nL N0 ad0 (pc, L, S, T, cs, sl) := by
  intro H locs ls stk ad h
  dsimp only at h
  obtain ⟨hl, hn, hs, hr⟩ := h
  obtain ⟨x, h1, v, rfl, hv⟩ := hl.2.2 i _ hL
  obtain ⟨j, hj⟩ := List.getElem?_of_mem (en_lv_mem.mpr h1)
  have hi : i < L.length := (List.getElem?_eq_some_iff.mp hL).1
  refine lv_iinc C.1 C.2.1 hd (en_lv_has hl.1 hl.2.1) hj rfl (by omega) rfl (fun ls' hl' => ?_)
  exact k H locs ls' stk ad ⟨en_l_set hl ⟨_, rfl, en_add_in hv (en_in_self _)⟩ hl', by rw [List.length_set]; exact hn, hs, hr⟩
theorem es_bin {pc' : Nat} (f : Int × Int → Int × Int → Int × Int) (g : Int32 → Int32 → Int32) (hfg : ∀ (q r : Int × Int) (x y : Int32), en_in q x → en_in r y → en_in (f q r) (g x y)) {q r : Int × Int}
    (row : ∀ (H : Heap) (locs : List Loc) (ls : Array Slot) (rest : List Value) (x y : Int32), W p l e R s m args below meth c H locs cs sl Q (F0 m pc' ls (.int (g x y) :: rest)) → W p l e R s m args below meth c H locs cs sl Q (F0 m pc ls (.int y :: .int x :: rest)))
    (k : en_go p l e R s m args below meth c Q D tys b0 nL N0 ad0 (pc', L, .inl (f q r) :: S, T, cs, sl)) : en_go p l e R s m args below meth c Q D tys b0 nL N0 ad0 (pc, L, .inl r :: .inl q :: S, T, cs, sl) := by
  intro H locs ls stk ad h
  dsimp only at h
  obtain ⟨hl, hn, hs, hr⟩ := h
  obtain ⟨y0, ys, rfl, ⟨y, rfl, hy⟩, hs1⟩ := en_vs_cons hs
  obtain ⟨x0, zs, rfl, ⟨x, rfl, hx⟩, hs2⟩ := en_vs_cons hs1
  exact row H locs ls zs x y (k H locs ls (.int (g x y) :: zs) ad ⟨hl, hn, ⟨⟨_, rfl, hfg q r x y hx hy⟩, hs2⟩, hr⟩)
theorem es_un {pc' : Nat} {q r : Int × Int} (g : Int32 → Int32) (hg : ∀ x, en_in q x → en_in r (g x))
    (row : ∀ (H : Heap) (locs : List Loc) (ls : Array Slot) (rest : List Value) (x : Int32), W p l e R s m args below meth c H locs cs sl Q (F0 m pc' ls (.int (g x) :: rest)) → W p l e R s m args below meth c H locs cs sl Q (F0 m pc ls (.int x :: rest)))
    (k : en_go p l e R s m args below meth c Q D tys b0 nL N0 ad0 (pc', L, .inl r :: S, T, cs, sl)) : en_go p l e R s m args below meth c Q D tys b0 nL N0 ad0 (pc, L, .inl q :: S, T, cs, sl) := by
  intro H locs ls stk ad h
  dsimp only at h
  obtain ⟨hl, hn, hs, hr⟩ := h
  obtain ⟨y0, ys, rfl, ⟨y, rfl, hy⟩, hs1⟩ := en_vs_cons hs
  exact row H locs ls ys y (k H locs ls (.int (g y) :: ys) ad ⟨hl, hn, ⟨⟨_, rfl, hg y hy⟩, hs1⟩, hr⟩)
theorem es_dup (C : en_cx p s m args meth c cc nL o D tys aK aV b0) {a : en_V} (hd : decode cc pc = .ok (.dup, 1)) (k : en_go p l e R s m args below meth c Q D tys b0 nL N0 ad0 (pc + 1, L, a :: a :: S, T, cs, sl)) : en_go p l e R s m args below meth c Q D tys b0 nL N0 ad0 (pc, L, a :: S, T, cs, sl) := by
  intro H locs ls stk ad h
  dsimp only at h
  obtain ⟨hl, hn, hs, hr⟩ := h
  obtain ⟨x, ys, rfl, hx, hs1⟩ := en_vs_cons hs
  exact lv_dup C.1 C.2.1 hd (en_v_cat hx) (k H locs ls (x :: x :: ys) ad ⟨hl, hn, ⟨hx, hx, hs1⟩, hr⟩)
theorem es_pop (C : en_cx p s m args meth c cc nL o D tys aK aV b0) {a : en_V} (hd : decode cc pc = .ok (.pop, 1)) (k : en_go p l e R s m args below meth c Q D tys b0 nL N0 ad0 (pc + 1, L, S, T, cs, sl)) : en_go p l e R s m args below meth c Q D tys b0 nL N0 ad0 (pc, L, a :: S, T, cs, sl) := by
  intro H locs ls stk ad h
  dsimp only at h
  obtain ⟨hl, hn, hs, hr⟩ := h
  obtain ⟨x, ys, rfl, hx, hs1⟩ := en_vs_cons hs
  exact lv_pop C.1 C.2.1 hd (en_v_cat hx) (k H locs ls ys ad ⟨hl, hn, hs1, hr⟩)
theorem es_goto (C : en_cx p s m args meth c cc nL o D tys aK aV b0) {off : Int} (ht : decide (0 ≤ (pc : Int) + off) = true) (hd : decode cc pc = .ok (.goto off, 3)) (k : en_go p l e R s m args below meth c Q D tys b0 nL N0 ad0 (((pc : Int) + off).toNat, L, S, T, cs, sl)) : en_go p l e R s m args below meth c Q D tys b0 nL N0 ad0 (pc, L, S, T, cs, sl) := by
  intro H locs ls stk ad h
  exact lv_goto C.1 C.2.1 hd (en_tgt ht) (k H locs ls stk ad h)
theorem es_icmp (C : en_cx p s m args meth c cc nL o D tys aK aV b0) {cd : Jvm.ClassFile.Cond} {off : Int} {q r : Int × Int} (ht : decide (0 ≤ (pc : Int) + off) = true) (hd : decode cc pc = .ok (.if_icmp cd off, 3))
    (k : ∀ st ∈ en_br (en_may cd q r) ((((pc : Int) + off).toNat, L, S, T, cs, sl) : en_S) (pc + 3, L, S, T, cs, sl), en_go p l e R s m args below meth c Q D tys b0 nL N0 ad0 st) : en_go p l e R s m args below meth c Q D tys b0 nL N0 ad0 (pc, L, .inl r :: .inl q :: S, T, cs, sl) := by
  intro H locs ls stk ad h
  dsimp only at h
  obtain ⟨hl, hn, hs, hr⟩ := h
  obtain ⟨y0, ys, rfl, ⟨y, rfl, hy⟩, hs1⟩ := en_vs_cons hs
  obtain ⟨x0, zs, rfl, ⟨x, rfl, hx⟩, hs2⟩ := en_vs_cons hs1
  have kt : (en_may cd q r).1 = true → W p l e R s m args below meth c H locs cs sl Q (F0 m ((pc : Int) + off).toNat ls zs) := fun h => k _ (en_br_t h) H locs ls zs ad ⟨hl, hn, hs2, hr⟩
  have kf : (en_may cd q r).2 = true → W p l e R s m args below meth c H locs cs sl Q (F0 m (pc + 3) ls zs) := fun h => k _ (en_br_f h) H locs ls zs ad ⟨hl, hn, hs2, hr⟩
  cases cd
  · refine lv_icmp_eq C.1 C.2.1 hd (en_tgt ht) (fun h => kt ?_) (fun h => kf ?_) <;> rw [fa_eq] at h <;> simp only [en_may, Bool.and_eq_true, Bool.not_eq_true', Bool.and_eq_false_iff, decide_eq_true_eq, decide_eq_false_iff_not] <;> omega
  · refine lv_icmp_ne C.1 C.2.1 hd (en_tgt ht) (fun h => kt ?_) (fun h => kf ?_) <;> rw [fa_eq] at h <;> simp only [en_may, Bool.and_eq_true, Bool.not_eq_true', Bool.and_eq_false_iff, decide_eq_true_eq, decide_eq_false_iff_not] <;> omega
  · refine lv_icmp_lt C.1 C.2.1 hd (en_tgt ht) (fun h => kt ?_) (fun h => kf ?_) <;> rw [fa_lt] at h <;> simp only [en_may, decide_eq_true_eq] <;> omega
  · refine lv_icmp_ge C.1 C.2.1 hd (en_tgt ht) (fun h => kt ?_) (fun h => kf ?_) <;> rw [fa_le] at h <;> simp only [en_may, decide_eq_true_eq] <;> omega
  · refine lv_icmp_gt C.1 C.2.1 hd (en_tgt ht) (fun h => kt ?_) (fun h => kf ?_) <;> rw [fa_lt] at h <;> simp only [en_may, decide_eq_true_eq] <;> omega
  · refine lv_icmp_le C.1 C.2.1 hd (en_tgt ht) (fun h => kt ?_) (fun h => kf ?_) <;> rw [fa_le] at h <;> simp only [en_may, decide_eq_true_eq] <;> omega
theorem es_if (C : en_cx p s m args meth c cc nL o D tys aK aV b0) {cd : Jvm.ClassFile.Cond} {off : Int} {q : Int × Int} (ht : decide (0 ≤ (pc : Int) + off) = true) (hd : decode cc pc = .ok (.ifCond cd off, 3))
    (k : ∀ st ∈ en_br (en_may cd q (0, 0)) ((((pc : Int) + off).toNat, L, S, T, cs, sl) : en_S) (pc + 3, L, S, T, cs, sl), en_go p l e R s m args below meth c Q D tys b0 nL N0 ad0 st) : en_go p l e R s m args below meth c Q D tys b0 nL N0 ad0 (pc, L, .inl q :: S, T, cs, sl) := by
  intro H locs ls stk ad h
  dsimp only at h
  obtain ⟨hl, hn, hs, hr⟩ := h
  obtain ⟨x0, zs, rfl, ⟨x, rfl, hx⟩, hs1⟩ := en_vs_cons hs
  have kt : (en_may cd q (0, 0)).1 = true → W p l e R s m args below meth c H locs cs sl Q (F0 m ((pc : Int) + off).toNat ls zs) := fun h => k _ (en_br_t h) H locs ls zs ad ⟨hl, hn, hs1, hr⟩
  have kf : (en_may cd q (0, 0)).2 = true → W p l e R s m args below meth c H locs cs sl Q (F0 m (pc + 3) ls zs) := fun h => k _ (en_br_f h) H locs ls zs ad ⟨hl, hn, hs1, hr⟩
  have z0 : (0 : Int32).toInt = 0 := rfl
  cases cd
  · refine lv_if_eq C.1 C.2.1 hd (en_tgt ht) (fun h => kt ?_) (fun h => kf ?_) <;> rw [fa_eq, z0] at h <;> simp only [en_may, Bool.and_eq_true, Bool.not_eq_true', Bool.and_eq_false_iff, decide_eq_true_eq, decide_eq_false_iff_not] <;> omega
  · refine lv_if_ne C.1 C.2.1 hd (en_tgt ht) (fun h => kt ?_) (fun h => kf ?_) <;> rw [fa_eq, z0] at h <;> simp only [en_may, Bool.and_eq_true, Bool.not_eq_true', Bool.and_eq_false_iff, decide_eq_true_eq, decide_eq_false_iff_not] <;> omega
  · refine lv_if_lt C.1 C.2.1 hd (en_tgt ht) (fun h => kt ?_) (fun h => kf ?_) <;> rw [fa_lt, z0] at h <;> simp only [en_may, decide_eq_true_eq] <;> omega
  · refine lv_if_ge C.1 C.2.1 hd (en_tgt ht) (fun h => kt ?_) (fun h => kf ?_) <;> rw [fa_le, z0] at h <;> simp only [en_may, decide_eq_true_eq] <;> omega
  · refine lv_if_gt C.1 C.2.1 hd (en_tgt ht) (fun h => kt ?_) (fun h => kf ?_) <;> rw [fa_lt, z0] at h <;> simp only [en_may, decide_eq_true_eq] <;> omega
  · refine lv_if_le C.1 C.2.1 hd (en_tgt ht) (fun h => kt ?_) (fun h => kf ?_) <;> rw [fa_le, z0] at h <;> simp only [en_may, decide_eq_true_eq] <;> omega
def en_tsw (pc : Nat) (d lo hi : Int) (offs : Array Int) (q : Int × Int) : Option Int := match decide (q.2 < lo) || decide (hi < q.1) with
  | true => some ((pc : Int) + d)
  | false => match decide (q.1 = q.2) && decide (lo ≤ q.1) && decide (q.1 ≤ hi) with
    | true => (offs[(q.1 - lo).toNat]?).map (fun off => (pc : Int) + off)
    | false => none
theorem es_tsw (C : en_cx p s m args meth c cc nL o D tys aK aV b0) {d lo hi : Int} {offs : Array Int} {len : Nat} {q : Int × Int} {t : Int} (hq : en_tsw pc d lo hi offs q = some t) (ht : decide (0 ≤ t) = true) (hd : decode cc pc = .ok (.tableswitch d lo hi offs, len))
    (k : en_go p l e R s m args below meth c Q D tys b0 nL N0 ad0 (t.toNat, L, S, T, cs, sl)) : en_go p l e R s m args below meth c Q D tys b0 nL N0 ad0 (pc, L, .inl q :: S, T, cs, sl) := by
  intro H locs ls stk ad h
  dsimp only at h
  obtain ⟨hl, hn, hs, hr⟩ := h
  obtain ⟨x0, zs, rfl, ⟨x, rfl, hx⟩, hs1⟩ := en_vs_cons hs
  have k := k H locs ls zs ad ⟨hl, hn, hs1, hr⟩
  simp only [decide_eq_true_eq] at ht
  unfold en_tsw at hq
  split at hq
  · rename_i hb
    simp only [Bool.or_eq_true, decide_eq_true_eq] at hb
    cases hq
    exact lv_tableOut C.1 C.2.1 hd (by omega) (by omega) k
  · split at hq
    · rename_i hb
      simp only [Bool.and_eq_true, decide_eq_true_eq] at hb
      have e : x.toInt = q.1 := by omega
      cases ho : offs[(q.1 - lo).toNat]? with
      | none => rw [ho] at hq; cases hq
      | some off =>
        rw [ho] at hq
        have hq2 : (pc : Int) + off = t := Option.some.inj hq
        exact lv_tableIn C.1 C.2.1 hd (by omega) (by omega) (off := off) (tgt := t.toNat) (by rw [e]; exact ho) (by omega) k
    · cases hq
end ENI
def en_hull (a b : Int × Int) : Int × Int := (if a.1 ≤ b.1 then a.1 else b.1, if a.2 ≤ b.2 then b.2 else a.2)
theorem en_hull_l {a b : Int × Int} {x : Int32} (h : en_in a x) : en_in (en_hull a b) x := by
  obtain ⟨h1, h2⟩ := h
  unfold en_hull en_in
  dsimp only
  constructor
  · split <;> omega
  · split <;> omega
theorem en_hull_r {a b : Int × Int} {x : Int32} (h : en_in b x) : en_in (en_hull a b) x := by
  obtain ⟨h1, h2⟩ := h
  unfold en_hull en_in
  dsimp only
  constructor
  · split <;> omega
  · split <;> omega
theorem en_upd_in {f : Nat → Int32} {a b : Int × Int} {n k : Nat} {x : Int32} (h : ∀ j, j < n → en_in a (f j)) (hx : en_in b x) : ∀ j, j < n → en_in (en_hull a b) (upd f k x j) := by
  intro j hj
  unfold upd
  split
  · exact en_hull_r hx
  · exact en_hull_l (h j hj)
section ENH
variable {p : Program} {l : Launch} {e : Env} {R : Room} {s : State} {m : MethodId} {args : Array Value} {below : List Frame} {meth : Method} {c : Code} {Q : State → Prop} {cc : ByteArray} {D : va_G} {tys : List (ClassId × FieldType)} {aK aV b0 nL o N0 : Nat} {ad0 : Nat → Nat}
variable {pc : Nat} {L : en_L} {S : List en_V} {T : en_T} {cs sl : Nat}
theorem es_alen (C : en_cx p s m args meth c cc nL o D tys aK aV b0) {j : Nat} {t : Nat × Nat × Int × Int} (h3 : t.1 ≠ 3) (ht : T[j]? = some (.inl t)) (hn : t.2.1 < 2147483648) (hd : decode cc pc = .ok (.arraylength, 1)) (k : en_go p l e R s m args below meth c Q D tys b0 nL N0 ad0 (pc + 1, L, .inl ((t.2.1 : Int), (t.2.1 : Int)) :: S, T, cs, sl)) : en_go p l e R s m args below meth c Q D tys b0 nL N0 ad0 (pc, L, .inr (j + 2) :: S, T, cs, sl) := by
  intro H locs ls stk ad h
  dsimp only at h
  obtain ⟨hl, hn0, hs, hW, hr⟩ := h
  obtain ⟨x, ys, rfl, hx, hs1⟩ := en_vs_cons hs
  obtain ⟨rfl, hj⟩ : x = .ref (ad j) ∧ j < T.length := hx
  have hW0 := hW
  obtain ⟨ws, w1, w2, w3, w4⟩ := hW
  obtain ⟨e0, g1, ge⟩ := w2 j _ ht
  obtain ⟨cA, f, rfl, g2, g3⟩ := ec_get h3 ge
  refine va_alen C.1 C.2.1 C.2.2.2.2.2.1 w3 j t.1 g1 g2 (v := nI t.2.1) rfl hd ?_
  exact k H locs ls (.int (nI t.2.1) :: ys) ad ⟨hl, hn0, ⟨⟨_, rfl, by rw [nI_toInt hn]; exact ⟨Int.le_refl _, Int.le_refl _⟩⟩, hs1⟩, hW0, hr⟩
theorem es_ald {j : Nat} {t : Nat × Nat × Int × Int} {q : Int × Int} (h3 : t.1 ≠ 3) (ht : T[j]? = some (.inl t)) (h0 : 0 ≤ q.1) (h1 : q.2 < t.2.1)
    (row : ∀ (H : Heap) (locs : List Loc) (ls : Array Slot) (rest : List Value) (ws : va_W) (a : Nat) (cA : ClassId) (f : Nat → Int32) (i : Int32), va_P D vwCl ws H → ws[j]? = some (a, .inl (cA, t.2.1, .inl f)) → tys[t.1]? = some (cA, en_ty t.1) → vp_in i t.2.1 → W p l e R s m args below meth c H locs cs sl Q (F0 m (pc + 1) ls (.int (f i.toNatClampNeg) :: rest)) → W p l e R s m args below meth c H locs cs sl Q (F0 m pc ls (.int i :: .ref a :: rest)))
    (k : en_go p l e R s m args below meth c Q D tys b0 nL N0 ad0 (pc + 1, L, .inl t.2.2 :: S, T, cs, sl)) : en_go p l e R s m args below meth c Q D tys b0 nL N0 ad0 (pc, L, .inl q :: .inr (j + 2) :: S, T, cs, sl) := by
  intro H locs ls stk ad h
  dsimp only at h
  obtain ⟨hl, hn0, hs, hW, hr⟩ := h
  obtain ⟨x0, ys, rfl, ⟨i, rfl, hi⟩, hs1⟩ := en_vs_cons hs
  obtain ⟨x, zs, rfl, hx, hs2⟩ := en_vs_cons hs1
  obtain ⟨rfl, hj⟩ : x = .ref (ad j) ∧ j < T.length := hx
  have hW0 := hW
  obtain ⟨ws, w1, w2, w3, w4⟩ := hW
  obtain ⟨e0, g1, ge⟩ := w2 j _ ht
  obtain ⟨cA, f, rfl, g2, g3⟩ := ec_get h3 ge
  have i0 : 0 ≤ i.toInt := by omega
  have i1 : i.toInt < t.2.1 := by omega
  exact row H locs ls zs ws (ad j) cA f i w3 g1 g2 (vp_in_iff.mpr ⟨i0, i1⟩) (k H locs ls (.int (f i.toNatClampNeg) :: zs) ad ⟨hl, hn0, ⟨⟨_, rfl, g3 _ (en_clamp i0 i1)⟩, hs2⟩, hW0, hr⟩)
theorem es_iald (C : en_cx p s m args meth c cc nL o D tys aK aV b0) {j : Nat} {t : Nat × Nat × Int × Int} {q : Int × Int} (ht : T[j]? = some (.inl t)) (ht0 : t.1 = 0) (h0 : 0 ≤ q.1) (h1 : q.2 < t.2.1) (hd : decode cc pc = .ok (.iaload, 1)) (k : en_go p l e R s m args below meth c Q D tys b0 nL N0 ad0 (pc + 1, L, .inl t.2.2 :: S, T, cs, sl)) : en_go p l e R s m args below meth c Q D tys b0 nL N0 ad0 (pc, L, .inl q :: .inr (j + 2) :: S, T, cs, sl) :=
  es_ald (by rw [ht0]; decide) ht h0 h1 (fun H locs ls rest ws a cA f i hP ha hty hin k => va_iald C.1 C.2.1 C.2.2.2.2.2.1 hP j t.1 ha (by rw [hty, ht0]; rfl) hin hd k) k
theorem es_zald (C : en_cx p s m args meth c cc nL o D tys aK aV b0) {j : Nat} {t : Nat × Nat × Int × Int} {q : Int × Int} (ht : T[j]? = some (.inl t)) (ht0 : t.1 = 1) (h0 : 0 ≤ q.1) (h1 : q.2 < t.2.1) (hd : decode cc pc = .ok (.baload, 1)) (k : en_go p l e R s m args below meth c Q D tys b0 nL N0 ad0 (pc + 1, L, .inl t.2.2 :: S, T, cs, sl)) : en_go p l e R s m args below meth c Q D tys b0 nL N0 ad0 (pc, L, .inl q :: .inr (j + 2) :: S, T, cs, sl) :=
  es_ald (by rw [ht0]; decide) ht h0 h1 (fun H locs ls rest ws a cA f i hP ha hty hin k => va_zald C.1 C.2.1 C.2.2.2.2.2.1 hP j t.1 ha (by rw [hty, ht0]; rfl) hin hd k) k
theorem es_bald (C : en_cx p s m args meth c cc nL o D tys aK aV b0) {j : Nat} {t : Nat × Nat × Int × Int} {q : Int × Int} (ht : T[j]? = some (.inl t)) (ht0 : t.1 = 2) (h0 : 0 ≤ q.1) (h1 : q.2 < t.2.1) (hd : decode cc pc = .ok (.baload, 1)) (k : en_go p l e R s m args below meth c Q D tys b0 nL N0 ad0 (pc + 1, L, .inl t.2.2 :: S, T, cs, sl)) : en_go p l e R s m args below meth c Q D tys b0 nL N0 ad0 (pc, L, .inl q :: .inr (j + 2) :: S, T, cs, sl) :=
  es_ald (by rw [ht0]; decide) ht h0 h1 (fun H locs ls rest ws a cA f i hP ha hty hin k => va_bald C.1 C.2.1 C.2.2.2.2.2.1 hP j t.1 ha (by rw [hty, ht0]; rfl) hin hd k) k
theorem es_ast {j : Nat} {t : Nat × Nat × Int × Int} {q v : Int × Int} (h3 : t.1 ≠ 3) (ht : T[j]? = some (.inl t)) (h0 : 0 ≤ q.1) (h1 : q.2 < t.2.1)
    (row : ∀ (H : Heap) (locs : List Loc) (ls : Array Slot) (rest : List Value) (ws : va_W) (a : Nat) (cA : ClassId) (f : Nat → Int32) (i x : Int32), en_in v x → va_P D vwCl ws H → va_D (fun q => b0 ≤ q) ws → va_S (fun q => b0 ≤ q) s.heap H locs → ws[j]? = some (a, .inl (cA, t.2.1, .inl f)) → tys[t.1]? = some (cA, en_ty t.1) → vp_in i t.2.1 →
      (∀ (H1 : Heap) (locs1 : List Loc), va_P D vwCl (ws.set j (a, .inl (cA, t.2.1, .inl (upd f i.toNatClampNeg x)))) H1 → va_D (fun q => b0 ≤ q) (ws.set j (a, .inl (cA, t.2.1, .inl (upd f i.toNatClampNeg x)))) → va_S (fun q => b0 ≤ q) s.heap H1 locs1 → W p l e R s m args below meth c H1 locs1 cs sl Q (F0 m (pc + 1) ls rest)) → W p l e R s m args below meth c H locs cs sl Q (F0 m pc ls (.int x :: .int i :: .ref a :: rest)))
    (k : en_go p l e R s m args below meth c Q D tys b0 nL N0 ad0 (pc + 1, L, S, T.set j (.inl (t.1, t.2.1, en_hull t.2.2 v)), cs, sl)) : en_go p l e R s m args below meth c Q D tys b0 nL N0 ad0 (pc, L, .inl v :: .inl q :: .inr (j + 2) :: S, T, cs, sl) := by
  intro H locs ls stk ad h
  dsimp only at h
  obtain ⟨hl, hn0, hs, hW, hS, hr⟩ := h
  obtain ⟨x9, us, rfl, ⟨v1, rfl, hv⟩, hs0⟩ := en_vs_cons hs
  obtain ⟨x0, ys, rfl, ⟨i, rfl, hi⟩, hs1⟩ := en_vs_cons hs0
  obtain ⟨x, zs, rfl, hx, hs2⟩ := en_vs_cons hs1
  obtain ⟨rfl, hj⟩ : x = .ref (ad j) ∧ j < T.length := hx
  obtain ⟨ws, w1, w2, w3, w4⟩ := hW
  obtain ⟨e0, g1, ge⟩ := w2 j _ ht
  obtain ⟨cA, f, rfl, g2, g3⟩ := ec_get h3 ge
  have i0 : 0 ≤ i.toInt := by omega
  have i1 : i.toInt < t.2.1 := by omega
  refine row H locs ls zs ws (ad j) cA f i v1 hv w3 w4 hS g1 g2 (vp_in_iff.mpr ⟨i0, i1⟩) (fun H1 locs1 hP hD hS1 => ?_)
  have hT : (T.set j (.inl (t.1, t.2.1, en_hull t.2.2 v))).length = T.length := List.length_set
  refine k H1 locs1 ls zs ad ⟨by dsimp only; rw [hT]; exact hl, hn0, by dsimp only; rw [hT]; exact hs2, eg_W.put w1 w2 hP hD (ec_arr h3 ⟨cA, _, rfl, g2, ?_⟩), hS1, by dsimp only; rw [hT]; exact hr⟩
  exact en_upd_in g3 hv
theorem es_iast (C : en_cx p s m args meth c cc nL o D tys aK aV b0) {j : Nat} {t : Nat × Nat × Int × Int} {q v : Int × Int} (ht : T[j]? = some (.inl t)) (ht0 : t.1 = 0) (h0 : 0 ≤ q.1) (h1 : q.2 < t.2.1) (hd : decode cc pc = .ok (.iastore, 1)) (k : en_go p l e R s m args below meth c Q D tys b0 nL N0 ad0 (pc + 1, L, S, T.set j (.inl (t.1, t.2.1, en_hull t.2.2 v)), cs, sl)) : en_go p l e R s m args below meth c Q D tys b0 nL N0 ad0 (pc, L, .inl v :: .inl q :: .inr (j + 2) :: S, T, cs, sl) :=
  es_ast (by rw [ht0]; decide) ht h0 h1 (fun H locs ls rest ws a cA f i x _ hP hD hS ha hty hin k => va_iast C.1 C.2.1 C.2.2.2.2.2.1 hP hD hS j t.1 ha (by rw [hty, ht0]; rfl) hin hd k) k
theorem es_bast (C : en_cx p s m args meth c cc nL o D tys aK aV b0) {j : Nat} {t : Nat × Nat × Int × Int} {q v : Int × Int} (ht : T[j]? = some (.inl t)) (ht0 : t.1 = 2) (h0 : 0 ≤ q.1) (h1 : q.2 < t.2.1) (hv0 : -128 ≤ v.1) (hv1 : v.2 ≤ 127) (hd : decode cc pc = .ok (.bastore, 1)) (k : en_go p l e R s m args below meth c Q D tys b0 nL N0 ad0 (pc + 1, L, S, T.set j (.inl (t.1, t.2.1, en_hull t.2.2 v)), cs, sl)) : en_go p l e R s m args below meth c Q D tys b0 nL N0 ad0 (pc, L, .inl v :: .inl q :: .inr (j + 2) :: S, T, cs, sl) :=
  es_ast (by rw [ht0]; decide) ht h0 h1 (fun H locs ls rest ws a cA f i x hx hP hD hS ha hty hin k => va_bast C.1 C.2.1 C.2.2.2.2.2.1 hP hD hS j t.1 ha (by rw [hty, ht0]; rfl) hin hd (by obtain ⟨hx1, hx2⟩ := hx; rw [en_nar_b (by omega) (by omega)]; exact k)) k
theorem es_zast (C : en_cx p s m args meth c cc nL o D tys aK aV b0) {j : Nat} {t : Nat × Nat × Int × Int} {q v : Int × Int} (ht : T[j]? = some (.inl t)) (ht0 : t.1 = 1) (h0 : 0 ≤ q.1) (h1 : q.2 < t.2.1) (hv0 : 0 ≤ v.1) (hv1 : v.2 ≤ 1) (hd : decode cc pc = .ok (.bastore, 1)) (k : en_go p l e R s m args below meth c Q D tys b0 nL N0 ad0 (pc + 1, L, S, T.set j (.inl (t.1, t.2.1, en_hull t.2.2 v)), cs, sl)) : en_go p l e R s m args below meth c Q D tys b0 nL N0 ad0 (pc, L, .inl v :: .inl q :: .inr (j + 2) :: S, T, cs, sl) :=
  es_ast (by rw [ht0]; decide) ht h0 h1 (fun H locs ls rest ws a cA f i x hx hP hD hS ha hty hin k => va_zast C.1 C.2.1 C.2.2.2.2.2.1 hP hD hS j t.1 ha (by rw [hty, ht0]; rfl) hin hd (by obtain ⟨hx1, hx2⟩ := hx; rw [en_vp_nar (en_nar_z (by omega) (by omega))]; exact k)) k
theorem es_getf (C : en_cx p s m args meth c cc nL o D tys aK aV b0) {i ci f j : Nat} {fs : List en_V} {a : en_V} {r : vw_C} (hf : en_find o i en_fl = some (ci, f)) (hr0 : vwCl[ci]? = some r) (hfN : f < r.2.2) (ht : T[j]? = some (.inr (ci, fs))) (ha : fs[f]? = some a) (hd : decode cc pc = .ok (.getfield i, 3)) (k : en_go p l e R s m args below meth c Q D tys b0 nL N0 ad0 (pc + 3, L, a :: S, T, cs, sl)) : en_go p l e R s m args below meth c Q D tys b0 nL N0 ad0 (pc, L, .inr (j + 2) :: S, T, cs, sl) := by
  intro H locs ls stk ad h
  dsimp only at h
  obtain ⟨hl, hn0, hs, hW, hr⟩ := h
  obtain ⟨x, ys, rfl, hx, hs1⟩ := en_vs_cons hs
  obtain ⟨rfl, hj⟩ : x = .ref (ad j) ∧ j < T.length := hx
  have hW0 := hW
  obtain ⟨ws, w1, w2, w3, w4⟩ := hW
  obtain ⟨e0, g1, vs, rfl, g2⟩ := w2 j _ ht
  obtain ⟨v, g3, g4⟩ := en_vs_get g2 ha
  refine va_get (C := r.1) (T := r.2.1) (N := r.2.2) C.1 C.2.1 C.2.2.2.2.1 (en_cls_ws hr0) C.2.2.2.1 C.2.2.2.2.2.1 w3 j g1 hr0 f hfN (C.2.2.2.2.1 _ (en_fl_w hf hr0)) (fun x h => h) g3 hd ?_
  exact k H locs ls (v :: ys) ad ⟨hl, hn0, ⟨g4, hs1⟩, hW0, hr⟩
theorem es_putf (C : en_cx p s m args meth c cc nL o D tys aK aV b0) {i ci f j : Nat} {fs : List en_V} {a : en_V} {r : vw_C} (hf : en_find o i en_fl = some (ci, f)) (hr0 : vwCl[ci]? = some r) (hfN : f < r.2.2) (ht : T[j]? = some (.inr (ci, fs))) (hlen : f < fs.length) (hput : en_put (en_tyX ci f) a = true)
    (hfin : (r.2.1 f).2.2.2 = false ∨ (meth.name = "<init>" ∧ (r.2.1 f).1 = en_nm o)) (hd : decode cc pc = .ok (.putfield i, 3)) (k : en_go p l e R s m args below meth c Q D tys b0 nL N0 ad0 (pc + 3, L, S, T.set j (.inr (ci, fs.set f a)), cs, sl)) : en_go p l e R s m args below meth c Q D tys b0 nL N0 ad0 (pc, L, a :: .inr (j + 2) :: S, T, cs, sl) := by
  intro H locs ls stk ad h
  dsimp only at h
  obtain ⟨hl, hn0, hs, hW, hS, hr⟩ := h
  obtain ⟨v, us, rfl, hv, hs0⟩ := en_vs_cons hs
  obtain ⟨x, ys, rfl, hx, hs1⟩ := en_vs_cons hs0
  obtain ⟨rfl, hj⟩ : x = .ref (ad j) ∧ j < T.length := hx
  obtain ⟨ws, w1, w2, w3, w4⟩ := hW
  obtain ⟨e0, g1, vs, rfl, g2⟩ := w2 j _ ht
  obtain ⟨q1, q2⟩ := en_put_ok hput hv
  have hc := en_cls ci r hr0
  have hT : (T.set j (.inr (ci, fs.set f a))).length = T.length := List.length_set
  have kk : ∀ (H1 : Heap) (locs1 : List Loc), va_P D vwCl (ws.set j (ad j, .inr (ci, vs.set f v))) H1 → va_D (fun q => b0 ≤ q) (ws.set j (ad j, .inr (ci, vs.set f v))) → va_S (fun q => b0 ≤ q) s.heap H1 locs1 → W p l e R s m args below meth c H1 locs1 cs sl Q (F0 m (pc + 3) ls ys) := fun H1 locs1 hP hD hS1 =>
    k H1 locs1 ls ys ad ⟨by dsimp only; rw [hT]; exact hl, hn0, by dsimp only; rw [hT]; exact hs1, eg_W.put w1 w2 hP hD ⟨_, rfl, en_vs_set hv f g2⟩, hS1, by dsimp only; rw [hT]; exact hr⟩
  have hle : f < vs.length := by rw [← en_vs_len g2]; exact hlen
  rcases hfin with hfin | ⟨h1, h2⟩
  · exact va_put (C := r.1) (T := r.2.1) (N := r.2.2) C.1 C.2.1 C.2.2.2.2.1 (en_cls_ws hr0) (en_tyX ci) hc.2.1 hc.2.2 C.2.2.2.1 C.2.2.2.2.2.1 w3 w4 hS j g1 hr0 f hfN (C.2.2.2.2.1 _ (en_fl_w hf hr0)) (fun x h => h) hfin (hc.2.1 f hfN) q1 q2 hle hd kk
  · cases hz : (r.2.1 f).2.2.2 with
    | false => exact va_put (C := r.1) (T := r.2.1) (N := r.2.2) C.1 C.2.1 C.2.2.2.2.1 (en_cls_ws hr0) (en_tyX ci) hc.2.1 hc.2.2 C.2.2.2.1 C.2.2.2.2.2.1 w3 w4 hS j g1 hr0 f hfN (C.2.2.2.2.1 _ (en_fl_w hf hr0)) (fun x h => h) hz (hc.2.1 f hfN) q1 q2 hle hd kk
    | true => exact va_putF (C := r.1) (T := r.2.1) (N := r.2.2) C.1 C.2.1 C.2.2.2.2.1 (en_cls_ws hr0) (en_tyX ci) hc.2.1 hc.2.2 C.2.2.2.1 C.2.2.2.2.2.1 w3 w4 hS j g1 hr0 f hfN (C.2.2.2.2.1 _ (en_fl_w hf hr0)) (fun x h => h) hz h1 h2 (hc.2.1 f hfN) q1 q2 hle hd kk
theorem en_map_vs {N : Nat} {ad : Nat → Nat} {α : Type} {f : α → en_V} {g : α → Value} : ∀ (xs : List α), (∀ x ∈ xs, en_v N ad (f x) (g x)) → en_vs N ad (xs.map f) (xs.map g)
  | [], _ => trivial
  | x :: xs, h => ⟨h x List.mem_cons_self, en_map_vs xs (fun y hy => h y (List.mem_cons_of_mem _ hy))⟩
theorem es_new (C : en_cx p s m args meth c cc nL o D tys aK aV b0) {i ci : Nat} {r : vw_C} (hf : en_find o i en_nw = some ci) (hr0 : vwCl[ci]? = some r) (hdk : (List.range r.2.2).all (fun j => en_dok (en_tyX ci j)) = true) (hc1 : cs + 1 ≤ R.cells) (hc2 : sl + r.2.2 ≤ R.slots) (hd : decode cc pc = .ok (.new i, 3))
    (k : en_go p l e R s m args below meth c Q D tys b0 nL N0 ad0 (pc + 3, L, .inr (T.length + 2) :: S, T ++ [.inr (ci, en_df ci r.2.2)], cs + 1, sl + r.2.2)) : en_go p l e R s m args below meth c Q D tys b0 nL N0 ad0 (pc, L, S, T, cs, sl) := by
  intro H locs ls stk ad h
  dsimp only at h
  obtain ⟨hl, hn0, hs, hW, hS, hr, hr2⟩ := h
  obtain ⟨ws, w1, w2, w3, w4⟩ := hW
  have hin := en_nw_in
  have hmem : ∀ w ∈ en_nww (o, i, ci), w ∈ lw_tbl := fun w hw => en_nw_in w (List.mem_flatMap.mpr ⟨(o, i, ci), en_find_mem hf, hw⟩)
  have hlist : en_nww (o, i, ci) = [.classLink (en_nm o) i r.1, .instantiable r.1 r.2.2, .initialized r.1] := by
    show (match vwCl[ci]? with
      | some r => _
      | none => _) = _
    rw [hr0]
  rw [hlist] at hmem
  have hA : ∀ q : Nat, s.heap.size ≤ q → (fun q : Nat => b0 ≤ q) q := fun q hq => Nat.le_trans C.2.2.2.2.2.2.2.1 hq
  have hdk1 : ∀ j, j < r.2.2 → en_dok (en_tyX ci j) = true := fun j hj => List.all_eq_true.mp hdk j (List.mem_range.mpr hj)
  refine va_new (C := r.1) (T := r.2.1) (N := r.2.2) (fs := (List.range r.2.2).map (fun j => defaultValue (en_tyX ci j))) C.1 C.2.1 C.2.2.2.2.1 (en_cls_ws hr0) (en_tyX ci) (en_cls ci r hr0).2.1 C.2.2.2.1 (C.2.2.2.2.1 _ (en_ws_in (hmem _ List.mem_cons_self) rfl)) (C.2.2.2.2.1 _ (en_ws_in (hmem _ (List.mem_cons_of_mem _ List.mem_cons_self)) rfl)) (C.2.2.2.2.1 _ (en_ws_in (hmem _ (List.mem_cons_of_mem _ (List.mem_cons_of_mem _ List.mem_cons_self))) rfl)) C.2.2.2.2.2.1 w3 w4 hS hA hr0 ?_ hc1 hc2 hd (fun q H1 hP hD hS1 => ?_)
  · intro j hj
    unfold vp_V
    rw [List.getD_eq_getElem?_getD, List.getElem?_map, List.getElem?_range hj]
    rfl
  · have hN : (T ++ [.inr (ci, en_df ci r.2.2)] : en_T).length = T.length + 1 := by rw [List.length_append]; rfl
    have hle : T.length ≤ T.length + 1 := Nat.le_succ _
    have hag : ∀ k, k < T.length → en_up ad T.length q k = ad k := fun k hk => en_up_lt hk
    refine k H1 locs ls (.ref q :: stk) (en_up ad T.length q) ⟨by dsimp only; rw [hN]; exact en_l_mono hle hag hl, hn0, by dsimp only; rw [hN]; exact ⟨⟨by rw [en_up_at], Nat.lt_succ_self _⟩, en_vs_mono hle hag hs⟩, eg_W.push w1 w2 hP hD ⟨_, rfl, ?_⟩, hS1, by dsimp only; rw [hN]; omega, fun k hk => by rw [hag k (by omega)]; exact hr2 k hk⟩
    exact en_map_vs _ (fun j hj => en_dv_ok (hdk1 j (List.mem_range.mp hj)))
theorem es_newa (C : en_cx p s m args meth c cc nL o D tys aK aV b0) {at0 : ArrayType} {t n : Nat} (hty : newarray.typeOf at0 = en_ty t) (ht : t < 3) (hn : n ≤ 100000) (hc1 : cs + 1 ≤ R.cells) (hc2 : sl + n ≤ R.slots) (hd : decode cc pc = .ok (.newarray at0, 2))
    (k : en_go p l e R s m args below meth c Q D tys b0 nL N0 ad0 (pc + 2, L, .inr (T.length + 2) :: S, T ++ [.inl (t, n, 0, 0)], cs + 1, sl + n)) : en_go p l e R s m args below meth c Q D tys b0 nL N0 ad0 (pc, L, .inl ((n : Int), (n : Int)) :: S, T, cs, sl) := by
  intro H locs ls stk ad h
  dsimp only at h
  obtain ⟨hl, hn0, hs, hW, hS, hr, hr2⟩ := h
  obtain ⟨ws, w1, w2, w3, w4⟩ := hW
  obtain ⟨x0, ys, rfl, ⟨i, rfl, hi⟩, hs1⟩ := en_vs_cons hs
  have hi0 : i.toInt = (n : Int) := by dsimp only at hi; omega
  have hA : ∀ q : Nat, s.heap.size ≤ q → (fun q : Nat => b0 ≤ q) q := fun q hq => Nat.le_trans C.2.2.2.2.2.2.2.1 hq
  have hK := C.2.2.2.2.2.1
  obtain ⟨cA0, hcA0⟩ := C.2.2.2.2.2.2.1.1 t ht
  have harr : (Cond.arrayClass (newarray.typeOf at0)).before args s = true := by
    rw [hty]
    refine C.2.2.2.2.1 _ (en_ws_in (en_arr_in _ ?_) rfl)
    match t, ht with
    | 0, _ => exact List.mem_cons_self
    | 1, _ => exact List.mem_cons_of_mem _ List.mem_cons_self
    | 2, _ => exact List.mem_cons_of_mem _ (List.mem_cons_of_mem _ List.mem_cons_self)
    | k + 3, h => omega
  have hdv : ∀ cA : ClassId, vp_cell cA (n, .inl (fun _ => 0)) = arrV cA n (fun _ => defaultValue (en_ty t)) := fun cA => by
    rw [vp_cell_i]
    match t, ht with
    | 0, _ => rfl
    | 1, _ => rfl
    | 2, _ => rfl
    | k + 3, h => omega
  have hcb : n * componentBytes (en_ty t) ≤ 536870912 := by
    have hb4 : componentBytes (en_ty t) ≤ 4 := by
      match t, ht with
      | 0, _ => decide
      | 1, _ => decide
      | 2, _ => decide
      | k + 3, h => omega
    exact Nat.le_trans (Nat.mul_le_mul hn hb4) (by decide)
  refine va_newa C.1 C.2.1 harr hty hK w3 w4 hS hA (N' := n) (a0 := (n, .inl (fun _ => 0))) hdv (by rw [fa_lt]; show ¬ i.toInt < 0; omega) (by show i.toInt.toNat = n; omega) hcb hc1 hc2 hd (fun q cA H1 hK1 hP hD hS1 => ?_)
  have hcA : tys[t]? = some (cA, en_ty t) := by
    have h1 := (hK.2 t _ hcA0).2
    have h2 := (hK1.2 tys.length (cA, en_ty t) (by rw [List.getElem?_append_right (Nat.le_refl _), Nat.sub_self]; rfl)).2
    have h3 : cA0 = cA := by
      match t, ht, h1, h2 with
      | 0, _, h1, h2 => exact Option.some.inj (h1.symm.trans h2)
      | 1, _, h1, h2 => exact Option.some.inj (h1.symm.trans h2)
      | 2, _, h1, h2 => exact Option.some.inj (h1.symm.trans h2)
      | k + 3, h, _, _ => omega
    rw [← h3]
    exact hcA0
  have hN : (T ++ [.inl (t, n, 0, 0)] : en_T).length = T.length + 1 := by rw [List.length_append]; rfl
  have hle : T.length ≤ T.length + 1 := Nat.le_succ _
  have hag : ∀ k, k < T.length → en_up ad T.length q k = ad k := fun k hk => en_up_lt hk
  exact k H1 locs ls (.ref q :: ys) (en_up ad T.length q) ⟨by dsimp only; rw [hN]; exact en_l_mono hle hag hl, hn0, by dsimp only; rw [hN]; exact ⟨⟨by rw [en_up_at], Nat.lt_succ_self _⟩, en_vs_mono hle hag hs1⟩, eg_W.push w1 w2 hP hD (ec_arr (show t ≠ 3 by omega) ⟨cA, _, rfl, hcA, fun j hj => ⟨Int.le_refl _, Int.le_refl _⟩⟩), hS1, by dsimp only; rw [hN]; omega, fun k hk => by rw [hag k (by omega)]; exact hr2 k hk⟩
theorem es_oi (C : en_cx p s m args meth c cc nL o D tys aK aV b0) {i j : Nat} (hf : (o, i) ∈ en_oi) (hfr : 1 ≤ R.frames) (hlo : S.length + 12 ≤ R.locals) (hd : decode cc pc = .ok (.invokespecial i, 3)) (k : en_go p l e R s m args below meth c Q D tys b0 nL N0 ad0 (pc + 3, L, S, T, cs, sl)) : en_go p l e R s m args below meth c Q D tys b0 nL N0 ad0 (pc, L, .inr (j + 2) :: S, T, cs, sl) := by
  intro H locs ls stk ad h
  dsimp only at h
  obtain ⟨hl, hn0, hs, hr⟩ := h
  obtain ⟨x, ys, rfl, hx, hs1⟩ := en_vs_cons hs
  obtain ⟨rfl, hj⟩ : x = .ref (ad j) ∧ j < T.length := hx
  have h1 : Cond.methodLink (en_nm o) i objectInit ∈ en_ws := en_ws_in (en_oi_in _ (List.mem_map.mpr ⟨(o, i), hf, rfl⟩)) rfl
  have h2 : Cond.instanceMethod objectInit ∈ en_ws := en_ws_in (en_oi_c _ List.mem_cons_self) rfl
  have h3 : Cond.code objectInit ⟨#[0xb1]⟩ 1 none ∈ en_ws := en_ws_in (en_oi_c _ (List.mem_cons_of_mem _ List.mem_cons_self)) rfl
  refine W.objInit C.1 C.2.1 C.2.2.2.1 (C.2.2.2.2.1 _ h1) (C.2.2.2.2.1 _ h2) (C.2.2.2.2.1 _ h3) (g := F0 m pc ls (.ref (ad j) :: ys)) rfl (hl.1.trans C.2.2.1.symm) rfl hd hfr ?_ ?_
  · rw [en_vs_cat hs1]
    show 2 * 0 + _ + 12 ≤ _
    omega
  · exact k H locs ls ys ad ⟨hl, hn0, hs1, hr⟩
def en_acb (t0 t1 : Nat × Nat × Int × Int) (n : Nat) : Int × Int := match n == t1.2.1 with
  | true => t0.2.2
  | false => en_hull t1.2.2 t0.2.2
theorem es_copy (C : en_cx p s m args meth c cc nL o D tys aK aV b0) {i j0 j1 n : Nat} {t0 t1 : Nat × Nat × Int × Int} (hf : (o, i) ∈ en_ac) (ht0 : T[j0]? = some (.inl t0)) (ht1 : T[j1]? = some (.inl t1)) (hy0 : t0.1 = 0) (hy1 : t1.1 = 0) (hn0 : n ≤ t0.2.1) (hn1 : n ≤ t1.2.1) (hn : n < 2147483648)
    (hfr : 1 ≤ R.frames) (hlo : S.length + (nativeFrameWords "java/lang/System" "arraycopy" 5 + 11) ≤ R.locals) (hd : decode cc pc = .ok (.invokestatic i, 3)) (k : en_go p l e R s m args below meth c Q D tys b0 nL N0 ad0 (pc + 3, L, S, T.set j1 (.inl (0, t1.2.1, en_acb t0 t1 n)), cs, sl)) :
    en_go p l e R s m args below meth c Q D tys b0 nL N0 ad0 (pc, L, .inl ((n : Int), (n : Int)) :: .inl (0, 0) :: .inr (j1 + 2) :: .inl (0, 0) :: .inr (j0 + 2) :: S, T, cs, sl) := by
  intro H locs ls stk ad h
  dsimp only at h
  obtain ⟨hl, hn9, hs, hW, hS, hr⟩ := h
  obtain ⟨x1, u1, rfl, ⟨nn, rfl, hnn⟩, hs1⟩ := en_vs_cons hs
  obtain ⟨x2, u2, rfl, ⟨dp, rfl, hdp⟩, hs2⟩ := en_vs_cons hs1
  obtain ⟨x3, u3, rfl, hx3, hs3⟩ := en_vs_cons hs2
  obtain ⟨rfl, hj1⟩ : x3 = .ref (ad j1) ∧ j1 < T.length := hx3
  obtain ⟨x4, u4, rfl, ⟨sp, rfl, hsp⟩, hs4⟩ := en_vs_cons hs3
  obtain ⟨x5, u5, rfl, hx5, hs5⟩ := en_vs_cons hs4
  obtain ⟨rfl, hj0⟩ : x5 = .ref (ad j0) ∧ j0 < T.length := hx5
  obtain ⟨ws, w1, w2, w3, w4⟩ := hW
  obtain ⟨e0, g1, ge⟩ := w2 j0 _ ht0
  obtain ⟨cA, f, rfl, g2, g3⟩ := ec_get (by rw [hy0]; decide) ge
  obtain ⟨e1, q1, qe⟩ := w2 j1 _ ht1
  obtain ⟨cB, g, rfl, q2, q3⟩ := ec_get (by rw [hy1]; decide) qe
  dsimp only at hnn hdp hsp
  have z1 : sp.toInt = 0 := by omega
  have z2 : dp.toInt = 0 := by omega
  have z3 : nn.toInt = (n : Int) := by omega
  have c1 : sp.toNatClampNeg = 0 := by show sp.toInt.toNat = 0; omega
  have c2 : dp.toNatClampNeg = 0 := by show dp.toInt.toNat = 0; omega
  have c3 : nn.toNatClampNeg = n := by show nn.toInt.toNat = n; omega
  have hw : ∀ w ∈ ([.native arraycopyName, .static arraycopyName, .initialized "java/lang/System"] : List Cond), w ∈ en_ws := fun w hw => en_ws_in (en_ac_c w hw) (by
    rcases List.mem_cons.mp hw with rfl | hw
    · rfl
    · rcases List.mem_cons.mp hw with rfl | hw
      · rfl
      · rw [List.mem_singleton.mp hw]; rfl)
  have hT : (T.set j1 (.inl (0, t1.2.1, en_acb t0 t1 n))).length = T.length := List.length_set
  refine va_copyi C.1 C.2.1 (C.2.2.1.trans hl.1.symm) C.2.2.2.1 (C.2.2.2.2.1 _ (en_ws_in (en_ac_in _ (List.mem_map.mpr ⟨(o, i), hf, rfl⟩)) rfl)) (C.2.2.2.2.1 _ (hw _ List.mem_cons_self)) (C.2.2.2.2.1 _ (hw _ (List.mem_cons_of_mem _ List.mem_cons_self))) (C.2.2.2.2.1 _ (hw _ (List.mem_cons_of_mem _ (List.mem_cons_of_mem _ List.mem_cons_self)))) C.2.2.2.2.2.1 w3 w4 hS j0 j1 t0.1 t1.1 g1 q1 (ty := .int) (by rw [g2, hy0]; rfl) (by rw [q2, hy1]; rfl) rfl
    (by rw [fa_lt]; show ¬ sp.toInt < 0; omega) (by rw [fa_lt]; show ¬ dp.toInt < 0; omega) (by rw [fa_lt]; show ¬ nn.toInt < 0; omega) (by omega) (by omega) (fun _ _ => rfl) hfr (by rw [en_vs_cat hs5]; exact hlo) hd (fun H1 locs1 hP hD hS1 => ?_)
  refine k H1 locs1 ls u5 ad ⟨by dsimp only; rw [hT]; exact hl, hn9, by dsimp only; rw [hT]; exact hs5, eg_W.put w1 w2 hP hD (ec_arr (show (0 : Nat) ≠ 3 by decide) ⟨cB, _, rfl, by rw [hy1] at q2; exact q2, fun j hj => ?_⟩), hS1, by dsimp only; rw [hT]; exact hr⟩
  show en_in (en_acb t0 t1 n) _
  rw [c1, c2, c3]
  have hj : j < t1.2.1 := hj
  unfold en_acb
  by_cases hjn : j < n
  · rw [pk_cpy_in (Nat.zero_le _) (by omega)]
    have := g3 (0 + (j - 0)) (by omega)
    split
    · exact this
    · exact en_hull_r this
  · rw [pk_cpy_out (Or.inr (by omega))]
    split
    · rename_i hb
      simp only [beq_iff_eq] at hb
      omega
    · exact en_hull_l (q3 j hj)
end ENH
section ENC
variable {p : Program} {l : Launch} {e : Env} {R : Room} {s : State} {m : MethodId} {args : Array Value} {below : List Frame} {meth : Method} {c : Code} {Q : State → Prop} {cc : ByteArray} {D : va_G} {tys : List (ClassId × FieldType)} {aK aV b0 nL o N0 : Nat} {ad0 : Nat → Nat}
variable {pc : Nat} {L : en_L} {S : List en_V} {T : en_T} {cs sl : Nat} {κ : en_K}
theorem es_after {H : Heap} {locs : List Loc} {ls : Array Slot} {stk rest : List Value} {ad : Nat → Nat} {av : Array Value} (hlen : T.length = (k_T0 κ).length) (hl : en_l T.length ad L nL ls) (hn : L.length = nL) (hs : en_vs T.length ad S rest) (hS : va_S (fun q => b0 ≤ q) s.heap H locs) (hr : N0 ≤ T.length) (hr2 : ∀ k, k < N0 → ad k = ad0 k)
    (hrun : va_Run p l e R s m args below meth c H locs cs sl (k_mc κ) (k_ms κ) (F0 m pc ls stk) rest (en_qc D tys b0 (k_T0 κ).length ad (k_rv κ) (k_T1 κ) av) (fun q => b0 ≤ q))
    (k : en_go p l e R s m args below meth c Q D tys b0 nL N0 ad0 (pc + 3, L, (k_rv κ).toList ++ S, k_T1 κ, cs + k_mc κ, sl + k_ms κ)) : W p l e R s m args below meth c H locs cs sl Q (F0 m pc ls stk) := by
  cases hrv : k_rv κ with
  | none =>
    rw [hrv] at hrun k
    refine va_callv (a := av) hrun hS (fun q _ h => h) (fun q h => h) (fun u t H1 locs1 ht _ hpost hB _ _ hS1 => ?_)
    obtain ⟨p1, p2⟩ := hpost
    subst ht
    exact k t.heap locs1 ls rest u ⟨en_l_mono (by dsimp only; omega) (fun k hk => p2 k (by omega)) hl, hn, en_vs_mono (by dsimp only; omega) (fun k hk => p2 k (by omega)) hs, hB, hS1, by dsimp only; omega, fun k hk => by rw [p2 k (by omega)]; exact hr2 k hk⟩
  | some r =>
    rw [hrv] at hrun k
    refine va_calli (a := av) hrun hS (fun q _ h => h) (fun q h => h) (fun x u t H1 locs1 ht _ hpost hB _ _ hS1 => ?_)
    obtain ⟨p0, p1, p2⟩ := hpost
    subst ht
    exact k t.heap locs1 ls (.int x :: rest) u ⟨en_l_mono (by dsimp only; omega) (fun k hk => p2 k (by omega)) hl, hn, ⟨p0, en_vs_mono (by dsimp only; omega) (fun k hk => p2 k (by omega)) hs⟩, hB, hS1, by dsimp only; omega, fun k hk => by rw [p2 k (by omega)]; exact hr2 k hk⟩
theorem es_afterP (C : en_cx p s m args meth c cc nL o D tys aK aV b0) {H : Heap} {locs : List Loc} {ls : Array Slot} {stk rest : List Value} {ad : Nat → Nat} {av : Array Value} {n0 : Nat} (hl : en_l T.length ad L nL ls) (hn : L.length = nL) (hs : en_vs T.length ad S rest) (hW : eg_W D tys (fun q => b0 ≤ q) T ad H) (hS : va_S (fun q => b0 ≤ q) s.heap H locs) (hr : N0 ≤ T.length) (hr2 : ∀ k, k < N0 → ad k = ad0 k)
    (hrun : va_Run p l e R s m args below meth c H locs cs sl (k_mc κ) (k_ms κ) (F0 m pc ls stk) rest (en_qc D tys H.size n0 ad (k_rv κ) (k_T1 κ) av) (fun q => H.size ≤ q))
    (k : en_go p l e R s m args below meth c Q D tys b0 nL N0 ad0 (pc + 3, L, (k_rv κ).toList ++ S, T, cs + k_mc κ, sl + k_ms κ)) : W p l e R s m args below meth c H locs cs sl Q (F0 m pc ls stk) := by
  have hsz := hS.1
  have hb := C.2.2.2.2.2.2.2.1
  cases hrv : k_rv κ with
  | none =>
    rw [hrv] at hrun k
    refine va_callv (a := av) hrun hS (fun q h1 h2 => absurd h2 (by omega)) (fun q (h : H.size ≤ q) => by show b0 ≤ q; omega) (fun u t H1 locs1 ht _ hpost hB _ hfr hS1 => ?_)
    exact k H1 locs1 ls rest ad ⟨hl, hn, hs, hW.kept (fun q hq => hfr q hq (by omega)), hS1, hr, hr2⟩
  | some r =>
    rw [hrv] at hrun k
    refine va_calli (a := av) hrun hS (fun q h1 h2 => absurd h2 (by omega)) (fun q (h : H.size ≤ q) => by show b0 ≤ q; omega) (fun x u t H1 locs1 ht _ hpost hB _ hfr hS1 => ?_)
    exact k H1 locs1 ls (.int x :: rest) ad ⟨hl, hn, ⟨en_v_int hpost.1, hs⟩, hW.kept (fun q hq => hfr q hq (by omega)), hS1, hr, hr2⟩
theorem en_pre (C : en_cx p s m args meth c cc nL o D tys aK aV b0) {H : Heap} {locs : List Loc} {ad : Nat → Nat} {as : List Value} (hW : eg_W D tys (fun q => b0 ≤ q) T ad H) (hS : va_S (fun q => b0 ≤ q) s.heap H locs) (hT : en_all2 eg_cle T (k_T0 κ) = true) : ∀ U : State, U.heap = H → s.WarmedH U.vm → en_pc D tys aK aV b0 (k_T0 κ) ad as as.toArray U := by
  intro U hU hw
  refine ⟨rfl, ?_, by rw [hU]; exact hW.le hT, va_K.moved hw.alike C.2.2.2.2.2.1, C.2.2.2.2.2.2.2.2.1.go (Nat.le_refl _) hS hU hw⟩
  rw [hU]
  exact Nat.le_trans C.2.2.2.2.2.2.2.1 hS.1
theorem en_preP (C : en_cx p s m args meth c cc nL o D tys aK aV b0) {H : Heap} {locs : List Loc} {ad : Nat → Nat} {as : List Value} (hS : va_S (fun q => b0 ≤ q) s.heap H locs) : ∀ U : State, U.heap = H → s.WarmedH U.vm → en_pc D tys aK aV H.size [] ad as as.toArray U := by
  intro U hU hw
  refine ⟨rfl, by rw [hU]; exact Nat.le_refl _, ⟨[], rfl, fun k t h => by simp at h, fun k q h => by simp at h, ⟨fun i j p q h => by simp at h, fun k q h => by simp at h⟩⟩, va_K.moved hw.alike C.2.2.2.2.2.1, C.2.2.2.2.2.2.2.2.1.go (Nat.le_trans C.2.2.2.2.2.2.2.1 hS.1) hS hU hw⟩
theorem en_args {N : Nat} {ad : Nat → Nat} {A B : List en_V} {xs : List Value} (h : en_vs N ad A xs) (hA : en_all2 en_le A.reverse B = true) : en_vs N ad B xs.reverse := en_all2_vs hA (en_vs_rev h)
theorem es_callV (C : en_cx p s m args meth c cc nL o D tys aK aV b0) {i mi n j ci : Nat} {r : MethodName × ByteArray × Nat × Option FieldType} {A fs : List en_V} {rc : vw_C} (hf : en_find o i en_cl = some (0, mi, n)) (hr : en_ms[mi]? = some r) (hκ : en_ok l κ) (hm : κ.1 = mi) (hA : A.length = n) (hav : en_all2 en_le (.inr (j + 2) :: A.reverse) κ.2.1 = true) (hT : en_all2 eg_cle T (k_T0 κ) = true)
    (hj : T[j]? = some (.inr (ci, fs))) (hrc : vwCl[ci]? = some rc) (hmo : en_mo[mi]? = some ci) (hfr : k_fr κ + 1 ≤ R.frames) (hlo : 8 + (r.2.2.1 + 11) + k_lo κ ≤ R.locals) (hc1 : cs + k_mc κ ≤ R.cells) (hc2 : sl + k_ms κ ≤ R.slots) (hS8 : S.length ≤ 8) (hd : decode cc pc = .ok (.invokevirtual i, 3))
    (k : en_go p l e R s m args below meth c Q D tys b0 nL N0 ad0 (pc + 3, L, (k_rv κ).toList ++ S, k_T1 κ, cs + k_mc κ, sl + k_ms κ)) : en_go p l e R s m args below meth c Q D tys b0 nL N0 ad0 (pc, L, A ++ .inr (j + 2) :: S, T, cs, sl) := by
  intro H locs ls stk ad h
  dsimp only at h
  obtain ⟨hl, hn0, hs, hW, hS, hr1, hr2⟩ := h
  obtain ⟨xs, us, rfl, hs1, hs2⟩ := en_vs_app hs
  obtain ⟨x, ys, rfl, hx, hs3⟩ := en_vs_cons hs2
  have hx0 := hx
  obtain ⟨rfl, hjl⟩ : x = .ref (ad j) ∧ j < T.length := hx
  subst hm
  have hlen := en_all2_len hT
  have hW0 := hW
  obtain ⟨ws, w1, w2, w3, w4⟩ := hW
  obtain ⟨e0, g1, vs, rfl, g2⟩ := w2 j _ hj
  have hM := hκ r hr D tys aK aV b0 C.2.2.2.2.2.2.1 (Value.ref (ad j) :: xs.reverse) ad (by rw [← hlen]; exact en_all2_vs hav ⟨hx0, en_vs_rev hs1⟩)
  have hD := (en_clD hf hr).1
  have hw := en_clW hf hr
  have hts := C.2.2.2.2.1
  have hB := callB_of (own := en_nm o) (index := i) (R := R) (rm := en_rm κ) (mc := k_mc κ) (ms := k_ms κ) n hts (en_codeG hr) rfl rfl rfl (hts _ (en_ws_in (hw (.initialized r.1.cls) (by simp)) rfl)) (hts _ (en_ws_in (hw (.methodLink (en_nm o) i r.1) (by simp)) rfl)) hD ⟨hfr, hlo⟩
  have hrecv := va_recv C.2.2.2.2.2.1 w3 hrc g1
  rw [(en_nm_cl hrc).trans (en_mo_ok hr hmo)] at hrecv
  refine es_after hlen hl hn0 hs3 hS hr1 hr2 (va_runV (C := r.1.cls) (As := xs.reverse) (rest := ys) ⟨C.1, C.2.1, C.2.2.1, C.2.2.2.1, hts⟩ hM ⟨hB, hts _ (en_ws_in (hw (.instanceMethod r.1) (by simp)) rfl), hts _ (en_ws_in (hw (.selects r.1.cls r.1 r.1) (by simp)) rfl)⟩ ⟨en_pc_blind, hrecv, en_pre C hW0 hS hT⟩ rfl (by rw [List.length_reverse, ← en_vs_len hs1]; exact hA) hl.1 (by rw [List.reverse_reverse]) (lv_room (by rw [en_vs_cat hs3]; exact hS8)) hd ⟨hc1, hc2⟩) k
theorem es_callI (C : en_cx p s m args meth c cc nL o D tys aK aV b0) {i mi n j kd : Nat} {r : MethodName × ByteArray × Nat × Option FieldType} {A : List en_V} (hf : en_find o i en_cl = some (kd, mi, n)) (hkd : kd = 3 ∨ kd = 4) (hr : en_ms[mi]? = some r) (hκ : en_ok l κ) (hm : κ.1 = mi) (hA : A.length = n) (hav : en_all2 en_le (.inr (j + 2) :: A.reverse) κ.2.1 = true) (hT : en_all2 eg_cle T (k_T0 κ) = true)
    (hfr : k_fr κ + 1 ≤ R.frames) (hlo : 8 + (r.2.2.1 + 11) + k_lo κ ≤ R.locals) (hc1 : cs + k_mc κ ≤ R.cells) (hc2 : sl + k_ms κ ≤ R.slots) (hS8 : S.length ≤ 8) (hd : decode cc pc = .ok (.invokespecial i, 3))
    (k : en_go p l e R s m args below meth c Q D tys b0 nL N0 ad0 (pc + 3, L, (k_rv κ).toList ++ S, k_T1 κ, cs + k_mc κ, sl + k_ms κ)) : en_go p l e R s m args below meth c Q D tys b0 nL N0 ad0 (pc, L, A ++ .inr (j + 2) :: S, T, cs, sl) := by
  intro H locs ls stk ad h
  dsimp only at h
  obtain ⟨hl, hn0, hs, hW, hS, hr1, hr2⟩ := h
  obtain ⟨xs, us, rfl, hs1, hs2⟩ := en_vs_app hs
  obtain ⟨x, ys, rfl, hx, hs3⟩ := en_vs_cons hs2
  have hx0 := hx
  obtain ⟨rfl, hjl⟩ : x = .ref (ad j) ∧ j < T.length := hx
  subst hm
  have hlen := en_all2_len hT
  have hM := hκ r hr D tys aK aV b0 C.2.2.2.2.2.2.1 (Value.ref (ad j) :: xs.reverse) ad (by rw [← hlen]; exact en_all2_vs hav ⟨hx0, en_vs_rev hs1⟩)
  have hD := (en_clD hf hr).1
  obtain ⟨hnm, hret⟩ := (en_clD hf hr).2 (by omega)
  have hw := en_clW hf hr
  have hts := C.2.2.2.2.1
  have hG := en_codeG hr
  obtain ⟨y, code, ml, rt⟩ := r
  dsimp only at hret hnm hM hD hw hG hlo
  subst hret
  rcases hkd with rfl | rfl
  · have hB := callB_of (own := en_nm o) (index := i) (R := R) (rm := en_rm κ) (mc := k_mc κ) (ms := k_ms κ) n hts hG rfl rfl rfl (hts _ (en_ws_in (hw (.initialized y.cls) (by simp)) rfl)) (hts _ (en_ws_in (hw (.methodLink (en_nm o) i y) (by simp)) rfl)) hD ⟨hfr, hlo⟩
    exact es_after hlen hl hn0 hs3 hS hr1 hr2 (va_runI (As := xs.reverse) (rest := ys) ⟨C.1, C.2.1, C.2.2.1, C.2.2.2.1, hts⟩ hM ⟨hB, hnm, hts _ (en_ws_in (hw (.instanceMethod y) (by simp)) rfl)⟩ ⟨en_pc_blind, en_pre C hW hS hT⟩ rfl (by rw [List.length_reverse, ← en_vs_len hs1]; exact hA) hl.1 (by rw [List.reverse_reverse]) (lv_room (by rw [en_vs_cat hs3]; exact hS8)) hd ⟨hc1, hc2⟩) k
  · have hB := va_cnB (own := en_nm o) (host := "LoadsAhead") (index := i) (R := R) (rm := en_rm κ) (mc := k_mc κ) (ms := k_ms κ) n hts hG rfl rfl rfl (C.2.2.2.2.2.2.2.2.1.1 _ (en_clN hf hr (Or.inr rfl))) (hts _ (en_ws_in (hw (.initialized y.cls) (by simp)) rfl)) hD ⟨hfr, hlo⟩
    exact es_after hlen hl hn0 hs3 hS hr1 hr2 (va_runIN (host := "LoadsAhead") (As := xs.reverse) (rest := ys) ⟨C.1, C.2.1, C.2.2.1, C.2.2.2.1, hts⟩ hM ⟨hB, hnm, hts _ (en_ws_in (hw (.instanceMethod y) (by simp)) rfl)⟩ ⟨en_pc_blind, en_pre C hW hS hT⟩ rfl (by rw [List.length_reverse, ← en_vs_len hs1]; exact hA) hl.1 (by rw [List.reverse_reverse]) (lv_room (by rw [en_vs_cat hs3]; exact hS8)) hd ⟨hc1, hc2⟩) k
theorem es_callS (C : en_cx p s m args meth c cc nL o D tys aK aV b0) {i mi n kd : Nat} {r : MethodName × ByteArray × Nat × Option FieldType} {A : List en_V} (hf : en_find o i en_cl = some (kd, mi, n)) (hkd : kd = 1 ∨ kd = 2) (hr : en_ms[mi]? = some r) (hκ : en_ok l κ) (hm : κ.1 = mi) (hA : A.length = n) (hav : en_all2 en_le A.reverse κ.2.1 = true) (hT : en_all2 eg_cle T (k_T0 κ) = true)
    (hfr : k_fr κ + 1 ≤ R.frames) (hlo : 8 + (r.2.2.1 + 11) + k_lo κ ≤ R.locals) (hc1 : cs + k_mc κ ≤ R.cells) (hc2 : sl + k_ms κ ≤ R.slots) (hS8 : S.length ≤ 8) (hd : decode cc pc = .ok (.invokestatic i, 3))
    (k : en_go p l e R s m args below meth c Q D tys b0 nL N0 ad0 (pc + 3, L, (k_rv κ).toList ++ S, k_T1 κ, cs + k_mc κ, sl + k_ms κ)) : en_go p l e R s m args below meth c Q D tys b0 nL N0 ad0 (pc, L, A ++ S, T, cs, sl) := by
  intro H locs ls stk ad h
  dsimp only at h
  obtain ⟨hl, hn0, hs, hW, hS, hr1, hr2⟩ := h
  obtain ⟨xs, ys, rfl, hs1, hs3⟩ := en_vs_app hs
  subst hm
  have hlen := en_all2_len hT
  have hM := hκ r hr D tys aK aV b0 C.2.2.2.2.2.2.1 xs.reverse ad (by rw [← hlen]; exact en_args hs1 hav)
  have hD := (en_clD hf hr).1
  have hw := en_clW hf hr
  have hts := C.2.2.2.2.1
  rcases hkd with rfl | rfl
  · have hB := callB_of (own := en_nm o) (index := i) (R := R) (rm := en_rm κ) (mc := k_mc κ) (ms := k_ms κ) n hts (en_codeG hr) rfl rfl rfl (hts _ (en_ws_in (hw (.initialized r.1.cls) (by simp)) rfl)) (hts _ (en_ws_in (hw (.methodLink (en_nm o) i r.1) (by simp)) rfl)) hD ⟨hfr, hlo⟩
    exact es_after hlen hl hn0 hs3 hS hr1 hr2 (va_runS (As := xs.reverse) (rest := ys) ⟨C.1, C.2.1, C.2.2.1, C.2.2.2.1, hts⟩ hM ⟨hB, hts _ (en_ws_in (hw (.static r.1) (by simp)) rfl)⟩ ⟨en_pc_blind, en_pre C hW hS hT⟩ rfl (by rw [List.length_reverse, ← en_vs_len hs1]; exact hA) hl.1 (by rw [List.reverse_reverse]) (lv_room (by rw [en_vs_cat hs3]; exact hS8)) hd ⟨hc1, hc2⟩) k
  · have hB := va_cnB (own := en_nm o) (host := "LoadsAhead") (index := i) (R := R) (rm := en_rm κ) (mc := k_mc κ) (ms := k_ms κ) n hts (en_codeG hr) rfl rfl rfl (C.2.2.2.2.2.2.2.2.1.1 _ (en_clN hf hr (Or.inl rfl))) (hts _ (en_ws_in (hw (.initialized r.1.cls) (by simp)) rfl)) hD ⟨hfr, hlo⟩
    exact es_after hlen hl hn0 hs3 hS hr1 hr2 (va_runSN (host := "LoadsAhead") (As := xs.reverse) (rest := ys) ⟨C.1, C.2.1, C.2.2.1, C.2.2.2.1, hts⟩ hM ⟨hB, hts _ (en_ws_in (hw (.static r.1) (by simp)) rfl), trivial⟩ ⟨en_pc_blind, en_pre C hW hS hT⟩ rfl (by rw [List.length_reverse, ← en_vs_len hs1]; exact hA) hl.1 (by rw [List.reverse_reverse]) (lv_room (by rw [en_vs_cat hs3]; exact hS8)) hd ⟨hc1, hc2⟩) k
theorem es_callP (C : en_cx p s m args meth c cc nL o D tys aK aV b0) {i mi n kd : Nat} {r : MethodName × ByteArray × Nat × Option FieldType} {A : List en_V} (hf : en_find o i en_cl = some (kd, mi, n)) (hkd : kd = 1 ∨ kd = 2) (hr : en_ms[mi]? = some r) (hκ : en_ok l κ) (hm : κ.1 = mi) (hA : A.length = n) (hav : en_all2 en_le A.reverse κ.2.1 = true) (hT : k_T0 κ = []) (hI : κ.2.1.all en_isI = true)
    (hfr : k_fr κ + 1 ≤ R.frames) (hlo : 8 + (r.2.2.1 + 11) + k_lo κ ≤ R.locals) (hc1 : cs + k_mc κ ≤ R.cells) (hc2 : sl + k_ms κ ≤ R.slots) (hS8 : S.length ≤ 8) (hd : decode cc pc = .ok (.invokestatic i, 3))
    (k : en_go p l e R s m args below meth c Q D tys b0 nL N0 ad0 (pc + 3, L, (k_rv κ).toList ++ S, T, cs + k_mc κ, sl + k_ms κ)) : en_go p l e R s m args below meth c Q D tys b0 nL N0 ad0 (pc, L, A ++ S, T, cs, sl) := by
  intro H locs ls stk ad h
  dsimp only at h
  obtain ⟨hl, hn0, hs, hW, hS, hr1, hr2⟩ := h
  obtain ⟨xs, ys, rfl, hs1, hs3⟩ := en_vs_app hs
  subst hm
  have hM := hκ r hr D tys aK aV H.size C.2.2.2.2.2.2.1 xs.reverse ad (en_vs_ints hI (en_args hs1 hav))
  have hD := (en_clD hf hr).1
  have hw := en_clW hf hr
  have hts := C.2.2.2.2.1
  rw [hT] at hM
  rcases hkd with rfl | rfl
  · have hB := callB_of (own := en_nm o) (index := i) (R := R) (rm := en_rm κ) (mc := k_mc κ) (ms := k_ms κ) n hts (en_codeG hr) rfl rfl rfl (hts _ (en_ws_in (hw (.initialized r.1.cls) (by simp)) rfl)) (hts _ (en_ws_in (hw (.methodLink (en_nm o) i r.1) (by simp)) rfl)) hD ⟨hfr, hlo⟩
    exact es_afterP C hl hn0 hs3 hW hS hr1 hr2 (va_runS (As := xs.reverse) (rest := ys) ⟨C.1, C.2.1, C.2.2.1, C.2.2.2.1, hts⟩ hM ⟨hB, hts _ (en_ws_in (hw (.static r.1) (by simp)) rfl)⟩ ⟨en_pc_blind, en_preP C hS⟩ rfl (by rw [List.length_reverse, ← en_vs_len hs1]; exact hA) hl.1 (by rw [List.reverse_reverse]) (lv_room (by rw [en_vs_cat hs3]; exact hS8)) hd ⟨hc1, hc2⟩) k
  · have hB := va_cnB (own := en_nm o) (host := "LoadsAhead") (index := i) (R := R) (rm := en_rm κ) (mc := k_mc κ) (ms := k_ms κ) n hts (en_codeG hr) rfl rfl rfl (C.2.2.2.2.2.2.2.2.1.1 _ (en_clN hf hr (Or.inl rfl))) (hts _ (en_ws_in (hw (.initialized r.1.cls) (by simp)) rfl)) hD ⟨hfr, hlo⟩
    exact es_afterP C hl hn0 hs3 hW hS hr1 hr2 (va_runSN (host := "LoadsAhead") (As := xs.reverse) (rest := ys) ⟨C.1, C.2.1, C.2.2.1, C.2.2.2.1, hts⟩ hM ⟨hB, hts _ (en_ws_in (hw (.static r.1) (by simp)) rfl), trivial⟩ ⟨en_pc_blind, en_preP C hS⟩ rfl (by rw [List.length_reverse, ← en_vs_len hs1]; exact hA) hl.1 (by rw [List.reverse_reverse]) (lv_room (by rw [en_vs_cat hs3]; exact hS8)) hd ⟨hc1, hc2⟩) k
end ENC
def en_pick (K : List en_K) (mi : Nat) (as : List en_V) (T : en_T) : Option en_K := K.find? (fun κ => κ.1 == mi && (en_all2 en_le as κ.2.1 && en_all2 eg_cle T (k_T0 κ)))
def en_pickP (K : List en_K) (mi : Nat) (as : List en_V) : Option en_K := K.find? (fun κ => κ.1 == mi && ((k_T0 κ).isEmpty && (en_all2 en_le as κ.2.1 && κ.2.1.all en_isI)))
def en_room (rm : Nat × Nat × Nat × Nat) (κ : en_K) (ml cs sl n : Nat) : Bool := decide (k_fr κ + 1 ≤ rm.1) && (decide (8 + (ml + 11) + k_lo κ ≤ rm.2.1) && (decide (cs + k_mc κ ≤ rm.2.2.1) && (decide (sl + k_ms κ ≤ rm.2.2.2) && decide (n ≤ 8))))
def en_cV (o : Nat) (K : List en_K) (rm : Nat × Nat × Nat × Nat) (i len pc : Nat) (L : en_L) (S : List en_V) (T : en_T) (cs sl : Nat) : Option (List en_S) := match en_find o i en_cl with
  | some (kd, mi, n) => match S.drop n with
    | .inr (j + 2) :: S' => match T[j]? with
      | some (.inr q) => match en_ms[mi]? with
        | some r => match en_mo[mi]? with
          | some ci => match vwCl[ci]? with
            | some _ => match en_pick K mi (.inr (j + 2) :: (S.take n).reverse) T with
              | some κ => en_g (kd == 0 && (len == 3 && (q.1 == ci && ((S.take n).length == n && en_room rm κ r.2.2.1 cs sl S'.length)))) (some [(pc + 3, L, (k_rv κ).toList ++ S', k_T1 κ, cs + k_mc κ, sl + k_ms κ)])
              | none => none
            | none => none
          | none => none
        | none => none
      | _ => none
    | _ => none
  | none => none
def en_cI (o : Nat) (K : List en_K) (rm : Nat × Nat × Nat × Nat) (i len pc : Nat) (L : en_L) (S : List en_V) (T : en_T) (cs sl : Nat) : Option (List en_S) := match en_find o i en_cl with
  | some (kd, mi, n) => match S.drop n with
    | .inr (j + 2) :: S' => match en_ms[mi]? with
      | some r => match en_pick K mi (.inr (j + 2) :: (S.take n).reverse) T with
        | some κ => en_g ((kd == 3 || kd == 4) && (len == 3 && ((S.take n).length == n && en_room rm κ r.2.2.1 cs sl S'.length))) (some [(pc + 3, L, (k_rv κ).toList ++ S', k_T1 κ, cs + k_mc κ, sl + k_ms κ)])
        | none => none
      | none => none
    | _ => none
  | none => match S with
    | .inr (_ + 2) :: S' => en_g (en_oi.contains (o, i) && (len == 3 && (decide (1 ≤ rm.1) && decide (S'.length + 12 ≤ rm.2.1)))) (some [(pc + 3, L, S', T, cs, sl)])
    | _ => none
def en_cS (o : Nat) (K : List en_K) (rm : Nat × Nat × Nat × Nat) (i len pc : Nat) (L : en_L) (S : List en_V) (T : en_T) (cs sl : Nat) : Option (List en_S) := match en_find o i en_cl with
  | some (kd, mi, n) => match en_ms[mi]? with
    | some r => match en_pickP K mi (S.take n).reverse with
      | some κ => en_g ((kd == 1 || kd == 2) && (len == 3 && ((S.take n).length == n && en_room rm κ r.2.2.1 cs sl (S.drop n).length))) (some [(pc + 3, L, (k_rv κ).toList ++ S.drop n, T, cs + k_mc κ, sl + k_ms κ)])
      | none => match en_pick K mi (S.take n).reverse T with
        | some κ => en_g ((kd == 1 || kd == 2) && (len == 3 && ((S.take n).length == n && en_room rm κ r.2.2.1 cs sl (S.drop n).length))) (some [(pc + 3, L, (k_rv κ).toList ++ S.drop n, k_T1 κ, cs + k_mc κ, sl + k_ms κ)])
        | none => none
    | none => none
  | none => match S with
    | .inl n :: .inl d :: .inr (j1 + 2) :: .inl a :: .inr (j0 + 2) :: S' => match T[j0]? with
      | some (.inl t0) => match T[j1]? with
        | some (.inl t1) => en_g (en_ac.contains (o, i) && (len == 3 && (decide (n.1 = n.2) && (decide (0 ≤ n.1) && (decide (d = (0, 0)) && (decide (a = (0, 0)) && (t0.1 == 0 && (t1.1 == 0 && (decide (n.1.toNat ≤ t0.2.1) && (decide (n.1.toNat ≤ t1.2.1) && (decide (n.1.toNat < 2147483648) && (decide (1 ≤ rm.1) && decide (S'.length + (nativeFrameWords "java/lang/System" "arraycopy" 5 + 11) ≤ rm.2.1))))))))))))) (some [(pc + 3, L, S', T.set j1 (.inl (0, t1.2.1, en_acb t0 t1 n.1.toNat)), cs, sl)])
        | _ => none
      | _ => none
    | _ => none
def en_bn (f : Int × Int → Int × Int → Int × Int) (len pc : Nat) (L : en_L) (S : List en_V) (T : en_T) (cs sl : Nat) : Option (List en_S) := match S with
  | .inl r :: .inl q :: S' => en_g (len == 1) (some [(pc + 1, L, .inl (f q r) :: S', T, cs, sl)])
  | _ => none
def en_st (k i len pc : Nat) (L : en_L) (S : List en_V) (T : en_T) (cs sl : Nat) : Option (List en_S) := match S with
  | .inl q :: S' => en_g (len == k && decide (i < L.length)) (some [(pc + k, L.set i (some (.inl q)), S', T, cs, sl)])
  | _ => none
def en_sa (k i len pc : Nat) (L : en_L) (S : List en_V) (T : en_T) (cs sl : Nat) : Option (List en_S) := match S with
  | .inr (j + 2) :: S' => en_g (len == k && decide (i < L.length)) (some [(pc + k, L.set i (some (.inr (j + 2))), S', T, cs, sl)])
  | _ => none
def en_ld (k i len pc : Nat) (L : en_L) (S : List en_V) (T : en_T) (cs sl : Nat) : Option (List en_S) := match L[i]? with
  | some (some (.inl q)) => en_g (len == k) (some [(pc + k, L, .inl q :: S, T, cs, sl)])
  | _ => none
def en_la (k i len pc : Nat) (L : en_L) (S : List en_V) (T : en_T) (cs sl : Nat) : Option (List en_S) := match L[i]? with
  | some (some (.inr (j + 2))) => en_g (len == k) (some [(pc + k, L, .inr (j + 2) :: S, T, cs, sl)])
  | _ => none
def en_kn (k : Nat) (v : Int32) (len pc : Nat) (L : en_L) (S : List en_V) (T : en_T) (cs sl : Nat) : Option (List en_S) := en_g (len == k) (some [(pc + k, L, .inl (v.toInt, v.toInt) :: S, T, cs, sl)])
def en_al (i0 i1 len pc : Nat) (L : en_L) (S : List en_V) (T : en_T) (cs sl : Nat) : Option (List en_S) := match S with
  | .inl q :: .inr (j + 2) :: S' => match T[j]? with
    | some (.inl t) => en_g ((t.1 == i0 || t.1 == i1) && (len == 1 && (decide (0 ≤ q.1) && decide (q.2 < t.2.1)))) (some [(pc + 1, L, .inl t.2.2 :: S', T, cs, sl)])
    | _ => none
  | _ => none
def en_as (b : Bool) (len pc : Nat) (L : en_L) (S : List en_V) (T : en_T) (cs sl : Nat) : Option (List en_S) := match S with
  | .inl v :: .inl q :: .inr (j + 2) :: S' => match T[j]? with
    | some (.inl t) => en_g ((match b with
        | true => t.1 == 0
        | false => (t.1 == 2 && (decide (-128 ≤ v.1) && decide (v.2 ≤ 127))) || (t.1 == 1 && (decide (0 ≤ v.1) && decide (v.2 ≤ 1)))) && (len == 1 && (decide (0 ≤ q.1) && decide (q.2 < t.2.1)))) (some [(pc + 1, L, S', T.set j (.inl (t.1, t.2.1, en_hull t.2.2 v)), cs, sl)])
    | _ => none
  | _ => none
def en_op (o : Nat) (K : List en_K) (rm : Nat × Nat × Nat × Nat) (ini : Bool) (op : Instr) (len pc : Nat) (L : en_L) (S : List en_V) (T : en_T) (cs sl : Nat) : Option (List en_S) := match op with
  | .iconst n => en_kn 1 (Int32.ofInt n) len pc L S T cs sl
  | .bipush n => en_kn 2 (Int8.ofInt n).toInt32 len pc L S T cs sl
  | .sipush n => en_kn 3 (Int16.ofInt n).toInt32 len pc L S T cs sl
  | .ldc i => match en_find o i en_kc with
    | some v => en_kn 2 (Int32.ofInt v) len pc L S T cs sl
    | none => none
  | .ldc_w i => match en_find o i en_kc with
    | some v => en_kn 3 (Int32.ofInt v) len pc L S T cs sl
    | none => none
  | .iload_n k => en_ld 1 k.val len pc L S T cs sl
  | .iload i => en_ld 2 i len pc L S T cs sl
  | .aload_n k => en_la 1 k.val len pc L S T cs sl
  | .aload i => en_la 2 i len pc L S T cs sl
  | .istore_n k => en_st 1 k.val len pc L S T cs sl
  | .istore i => en_st 2 i len pc L S T cs sl
  | .astore_n k => en_sa 1 k.val len pc L S T cs sl
  | .astore i => en_sa 2 i len pc L S T cs sl
  | .iinc i n => match L[i]? with
    | some (some (.inl q)) => en_g (len == 3) (some [(pc + 3, L.set i (some (.inl (en_add q ((Int32.ofInt n).toInt, (Int32.ofInt n).toInt)))), S, T, cs, sl)])
    | _ => none
  | .iadd => en_bn en_add len pc L S T cs sl
  | .isub => en_bn en_sub len pc L S T cs sl
  | .imul => en_bn en_mul len pc L S T cs sl
  | .iand => en_bn en_and len pc L S T cs sl
  | .ishr => en_bn (fun _ _ => en_full) len pc L S T cs sl
  | .iushr => en_bn (fun _ _ => en_full) len pc L S T cs sl
  | .i2b => match S with
    | .inl _ :: S' => en_g (len == 1) (some [(pc + 1, L, .inl (-128, 127) :: S', T, cs, sl)])
    | _ => none
  | .dup => match S with
    | a :: S' => en_g (len == 1) (some [(pc + 1, L, a :: a :: S', T, cs, sl)])
    | _ => none
  | .pop => match S with
    | _ :: S' => en_g (len == 1) (some [(pc + 1, L, S', T, cs, sl)])
    | _ => none
  | .goto off => en_g (len == 3 && decide (0 ≤ (pc : Int) + off)) (some [(((pc : Int) + off).toNat, L, S, T, cs, sl)])
  | .if_icmp cd off => match S with
    | .inl r :: .inl q :: S' => en_g (len == 3 && decide (0 ≤ (pc : Int) + off)) (some (en_br (en_may cd q r) (((pc : Int) + off).toNat, L, S', T, cs, sl) (pc + 3, L, S', T, cs, sl)))
    | _ => none
  | .ifCond cd off => match S with
    | .inl q :: S' => en_g (len == 3 && decide (0 ≤ (pc : Int) + off)) (some (en_br (en_may cd q (0, 0)) (((pc : Int) + off).toNat, L, S', T, cs, sl) (pc + 3, L, S', T, cs, sl)))
    | _ => none
  | .tableswitch d lo hi offs => match S with
    | .inl q :: S' => match en_tsw pc d lo hi offs q with
      | some t => en_g (decide (0 ≤ t)) (some [(t.toNat, L, S', T, cs, sl)])
      | none => none
    | _ => none
  | .arraylength => match S with
    | .inr (j + 2) :: S' => match T[j]? with
      | some (.inl t) => en_g (len == 1 && (t.1 != 3 && decide (t.2.1 < 2147483648))) (some [(pc + 1, L, .inl ((t.2.1 : Int), (t.2.1 : Int)) :: S', T, cs, sl)])
      | _ => none
    | _ => none
  | .iaload => en_al 0 0 len pc L S T cs sl
  | .baload => en_al 1 2 len pc L S T cs sl
  | .iastore => en_as true len pc L S T cs sl
  | .bastore => en_as false len pc L S T cs sl
  | .getfield i => match en_find o i en_fl with
    | some (ci, f) => match S with
      | .inr (j + 2) :: S' => match T[j]? with
        | some (.inr q) => match vwCl[ci]? with
          | some r => match q.2[f]? with
            | some a => en_g (len == 3 && (q.1 == ci && decide (f < r.2.2))) (some [(pc + 3, L, a :: S', T, cs, sl)])
            | none => none
          | none => none
        | _ => none
      | _ => none
    | none => none
  | .putfield i => match en_find o i en_fl with
    | some (ci, f) => match S with
      | a :: .inr (j + 2) :: S' => match T[j]? with
        | some (.inr q) => match vwCl[ci]? with
          | some r => en_g (len == 3 && (q.1 == ci && (decide (f < r.2.2) && (decide (f < q.2.length) && (en_put (en_tyX ci f) a && (!(r.2.1 f).2.2.2 || (ini && o == ci))))))) (some [(pc + 3, L, S', T.set j (.inr (ci, q.2.set f a)), cs, sl)])
          | none => none
        | _ => none
      | _ => none
    | none => none
  | .new i => match en_find o i en_nw with
    | some ci => match vwCl[ci]? with
      | some r => en_g (len == 3 && ((List.range r.2.2).all (fun j => en_dok (en_tyX ci j)) && (decide (cs + 1 ≤ rm.2.2.1) && decide (sl + r.2.2 ≤ rm.2.2.2)))) (some [(pc + 3, L, .inr (T.length + 2) :: S, T ++ [.inr (ci, en_df ci r.2.2)], cs + 1, sl + r.2.2)])
      | none => none
    | none => none
  | .newarray at0 => match S with
    | .inl q :: S' => match (match at0 with
        | .int => some 0
        | .boolean => some 1
        | .byte => some 2
        | _ => none : Option Nat) with
      | some t => en_g (len == 2 && (decide (q.1 = q.2) && (decide (0 ≤ q.1) && (decide (q.1.toNat ≤ 100000) && (decide (cs + 1 ≤ rm.2.2.1) && decide (sl + q.1.toNat ≤ rm.2.2.2)))))) (some [(pc + 2, L, .inr (T.length + 2) :: S', T ++ [.inl (t, q.1.toNat, 0, 0)], cs + 1, sl + q.1.toNat)])
      | none => none
    | _ => none
  | .invokevirtual i => en_cV o K rm i len pc L S T cs sl
  | .invokespecial i => en_cI o K rm i len pc L S T cs sl
  | .invokestatic i => en_cS o K rm i len pc L S T cs sl
  | _ => none
section END
variable {p : Program} {l : Launch} {e : Env} {R : Room} {s : State} {m : MethodId} {args : Array Value} {below : List Frame} {meth : Method} {c : Code} {Q : State → Prop} {cc : ByteArray} {D : va_G} {tys : List (ClassId × FieldType)} {aK aV b0 nL o N0 : Nat} {ad0 : Nat → Nat}
variable {pc len : Nat} {L : en_L} {S : List en_V} {T : en_T} {cs sl : Nat} {ss : List en_S} {K : List en_K} {rm : Nat × Nat × Nat × Nat} {ini : Bool}
theorem en_one {st : en_S} {x : Option (List en_S)} {b : Bool} (h : en_g b (some [st]) = some ss) (k : ∀ st ∈ ss, en_go p l e R s m args below meth c Q D tys b0 nL N0 ad0 st) : b = true ∧ en_go p l e R s m args below meth c Q D tys b0 nL N0 ad0 st := by
  obtain ⟨h1, h2⟩ := en_g_some h
  cases h2
  exact ⟨h1, k _ List.mem_cons_self⟩
theorem ok_kn {j : Nat} {v : Int32} (h : en_kn j v len pc L S T cs sl = some ss) (k : ∀ st ∈ ss, en_go p l e R s m args below meth c Q D tys b0 nL N0 ad0 st) : len = j ∧ en_go p l e R s m args below meth c Q D tys b0 nL N0 ad0 (pc + j, L, .inl (v.toInt, v.toInt) :: S, T, cs, sl) := by
  obtain ⟨h1, h2⟩ := en_one (x := none) h k
  exact ⟨by simpa using h1, h2⟩
theorem ok_ld {j i : Nat} (h : en_ld j i len pc L S T cs sl = some ss) (k : ∀ st ∈ ss, en_go p l e R s m args below meth c Q D tys b0 nL N0 ad0 st) : len = j ∧ ∃ q, L[i]? = some (some (.inl q)) ∧ en_go p l e R s m args below meth c Q D tys b0 nL N0 ad0 (pc + j, L, .inl q :: S, T, cs, sl) := by
  unfold en_ld at h
  split at h
  · rename_i q hq
    obtain ⟨h1, h2⟩ := en_one (x := none) h k
    exact ⟨by simpa using h1, q, hq, h2⟩
  · cases h
theorem ok_la {j i : Nat} (h : en_la j i len pc L S T cs sl = some ss) (k : ∀ st ∈ ss, en_go p l e R s m args below meth c Q D tys b0 nL N0 ad0 st) : len = j ∧ ∃ q, L[i]? = some (some (.inr (q + 2))) ∧ en_go p l e R s m args below meth c Q D tys b0 nL N0 ad0 (pc + j, L, .inr (q + 2) :: S, T, cs, sl) := by
  unfold en_la at h
  split at h
  · rename_i q hq
    obtain ⟨h1, h2⟩ := en_one (x := none) h k
    exact ⟨by simpa using h1, q, hq, h2⟩
  · cases h
theorem ok_st {j i : Nat} (h : en_st j i len pc L S T cs sl = some ss) (k : ∀ st ∈ ss, en_go p l e R s m args below meth c Q D tys b0 nL N0 ad0 st) : len = j ∧ i < L.length ∧ ∃ q S', S = .inl q :: S' ∧ en_go p l e R s m args below meth c Q D tys b0 nL N0 ad0 (pc + j, L.set i (some (.inl q)), S', T, cs, sl) := by
  unfold en_st at h
  split at h
  · rename_i q S'
    obtain ⟨h1, h2⟩ := en_one (x := none) h k
    simp only [Bool.and_eq_true, beq_iff_eq, decide_eq_true_eq] at h1
    exact ⟨h1.1, h1.2, q, S', rfl, h2⟩
  · cases h
theorem ok_sa {j i : Nat} (h : en_sa j i len pc L S T cs sl = some ss) (k : ∀ st ∈ ss, en_go p l e R s m args below meth c Q D tys b0 nL N0 ad0 st) : len = j ∧ i < L.length ∧ ∃ q S', S = .inr (q + 2) :: S' ∧ en_go p l e R s m args below meth c Q D tys b0 nL N0 ad0 (pc + j, L.set i (some (.inr (q + 2))), S', T, cs, sl) := by
  unfold en_sa at h
  split at h
  · rename_i q S'
    obtain ⟨h1, h2⟩ := en_one (x := none) h k
    simp only [Bool.and_eq_true, beq_iff_eq, decide_eq_true_eq] at h1
    exact ⟨h1.1, h1.2, q, S', rfl, h2⟩
  · cases h
theorem ok_bn {f : Int × Int → Int × Int → Int × Int} (h : en_bn f len pc L S T cs sl = some ss) (k : ∀ st ∈ ss, en_go p l e R s m args below meth c Q D tys b0 nL N0 ad0 st) : len = 1 ∧ ∃ r q S', S = .inl r :: .inl q :: S' ∧ en_go p l e R s m args below meth c Q D tys b0 nL N0 ad0 (pc + 1, L, .inl (f q r) :: S', T, cs, sl) := by
  unfold en_bn at h
  split at h
  · rename_i r q S'
    obtain ⟨h1, h2⟩ := en_one (x := none) h k
    exact ⟨by simpa using h1, r, q, S', rfl, h2⟩
  · cases h
theorem ok_al {i0 i1 : Nat} (h : en_al i0 i1 len pc L S T cs sl = some ss) (k : ∀ st ∈ ss, en_go p l e R s m args below meth c Q D tys b0 nL N0 ad0 st) : len = 1 ∧ ∃ q j S' t, S = .inl q :: .inr (j + 2) :: S' ∧ T[j]? = some (.inl t) ∧ (t.1 = i0 ∨ t.1 = i1) ∧ 0 ≤ q.1 ∧ q.2 < t.2.1 ∧ en_go p l e R s m args below meth c Q D tys b0 nL N0 ad0 (pc + 1, L, .inl t.2.2 :: S', T, cs, sl) := by
  unfold en_al at h
  split at h
  · rename_i q j S'
    split at h
    · rename_i t ht
      obtain ⟨h1, h2⟩ := en_one (x := none) h k
      simp only [Bool.and_eq_true, Bool.or_eq_true, beq_iff_eq, decide_eq_true_eq] at h1
      exact ⟨h1.2.1, q, j, S', t, rfl, ht, h1.1, h1.2.2.1, h1.2.2.2, h2⟩
    · cases h
  · cases h
theorem en_pick_ok {mi : Nat} {as : List en_V} {κ : en_K} (h : en_pick K mi as T = some κ) : κ ∈ K ∧ κ.1 = mi ∧ en_all2 en_le as κ.2.1 = true ∧ en_all2 eg_cle T (k_T0 κ) = true := by
  have h1 := List.find?_some h
  simp only [Bool.and_eq_true, beq_iff_eq] at h1
  exact ⟨List.mem_of_find?_eq_some h, h1.1, h1.2.1, h1.2.2⟩
theorem en_pickP_ok {mi : Nat} {as : List en_V} {κ : en_K} (h : en_pickP K mi as = some κ) : κ ∈ K ∧ κ.1 = mi ∧ k_T0 κ = [] ∧ en_all2 en_le as κ.2.1 = true ∧ κ.2.1.all en_isI = true := by
  have h1 := List.find?_some h
  simp only [Bool.and_eq_true, beq_iff_eq, List.isEmpty_iff] at h1
  exact ⟨List.mem_of_find?_eq_some h, h1.1, h1.2.1, h1.2.2.1, h1.2.2.2⟩
theorem en_room_ok {κ : en_K} {ml n : Nat} (h : en_room rm κ ml cs sl n = true) (hR : R.frames = rm.1 ∧ R.locals = rm.2.1 ∧ R.cells = rm.2.2.1 ∧ R.slots = rm.2.2.2) : k_fr κ + 1 ≤ R.frames ∧ 8 + (ml + 11) + k_lo κ ≤ R.locals ∧ cs + k_mc κ ≤ R.cells ∧ sl + k_ms κ ≤ R.slots ∧ n ≤ 8 := by
  unfold en_room at h
  simp only [Bool.and_eq_true, decide_eq_true_eq] at h
  obtain ⟨h1, h2, h3, h4⟩ := hR
  rw [h1, h2, h3, h4]
  exact h
theorem ok_cV (C : en_cx p s m args meth c cc nL o D tys aK aV b0) (hK : ∀ κ ∈ K, en_ok l κ) (hR : R.frames = rm.1 ∧ R.locals = rm.2.1 ∧ R.cells = rm.2.2.1 ∧ R.slots = rm.2.2.2) {i : Nat} (hd : decode cc pc = .ok (.invokevirtual i, len)) (h : en_cV o K rm i len pc L S T cs sl = some ss) (k : ∀ st ∈ ss, en_go p l e R s m args below meth c Q D tys b0 nL N0 ad0 st) : en_go p l e R s m args below meth c Q D tys b0 nL N0 ad0 (pc, L, S, T, cs, sl) := by
  unfold en_cV at h
  split at h
  · rename_i kd mi n hf
    split at h
    · rename_i j S' hdrop
      split at h
      · rename_i q hq
        split at h
        · rename_i r hr
          split at h
          · rename_i ci hmo
            split at h
            · rename_i rc hrc
              split at h
              · rename_i κ hκ
                obtain ⟨h1, h2⟩ := en_one (x := none) h k
                simp only [Bool.and_eq_true, beq_iff_eq] at h1
                obtain ⟨a1, a2, a3, a4, a5⟩ := h1
                subst a1
                subst a2
                obtain ⟨r1, r2, r3, r4, r5⟩ := en_room_ok a5 hR
                obtain ⟨p1, p2, p3, p4⟩ := en_pick_ok hκ
                have hS : S = S.take n ++ .inr (j + 2) :: S' := by rw [← hdrop, List.take_append_drop]
                rw [hS]
                obtain ⟨q1, q2⟩ := q
                dsimp only at a3
                subst a3
                exact es_callV C hf hr (hK κ p1) p2 a4 p3 p4 hq hrc hmo r1 r2 r3 r4 r5 hd h2
              · cases h
            · cases h
          · cases h
        · cases h
      · cases h
    · cases h
  · cases h
theorem ok_cI (C : en_cx p s m args meth c cc nL o D tys aK aV b0) (hK : ∀ κ ∈ K, en_ok l κ) (hR : R.frames = rm.1 ∧ R.locals = rm.2.1 ∧ R.cells = rm.2.2.1 ∧ R.slots = rm.2.2.2) {i : Nat} (hd : decode cc pc = .ok (.invokespecial i, len)) (h : en_cI o K rm i len pc L S T cs sl = some ss) (k : ∀ st ∈ ss, en_go p l e R s m args below meth c Q D tys b0 nL N0 ad0 st) : en_go p l e R s m args below meth c Q D tys b0 nL N0 ad0 (pc, L, S, T, cs, sl) := by
  unfold en_cI at h
  split at h
  · rename_i kd mi n hf
    split at h
    · rename_i j S' hdrop
      split at h
      · rename_i r hr
        split at h
        · rename_i κ hκ
          obtain ⟨h1, h2⟩ := en_one (x := none) h k
          simp only [Bool.and_eq_true, Bool.or_eq_true, beq_iff_eq] at h1
          obtain ⟨a1, a2, a4, a5⟩ := h1
          subst a2
          obtain ⟨r1, r2, r3, r4, r5⟩ := en_room_ok a5 hR
          obtain ⟨p1, p2, p3, p4⟩ := en_pick_ok hκ
          have hS : S = S.take n ++ .inr (j + 2) :: S' := by rw [← hdrop, List.take_append_drop]
          rw [hS]
          exact es_callI C hf a1 hr (hK κ p1) p2 a4 p3 p4 r1 r2 r3 r4 r5 hd h2
        · cases h
      · cases h
    · cases h
  · split at h
    · obtain ⟨h1, h2⟩ := en_one (x := none) h k
      simp only [Bool.and_eq_true, beq_iff_eq, decide_eq_true_eq, List.contains_iff_mem] at h1
      obtain ⟨a1, a2, a3, a4⟩ := h1
      subst a2
      exact es_oi C a1 (by rw [hR.1]; exact a3) (by rw [hR.2.1]; exact a4) hd h2
    · cases h
theorem ok_cS (C : en_cx p s m args meth c cc nL o D tys aK aV b0) (hK : ∀ κ ∈ K, en_ok l κ) (hR : R.frames = rm.1 ∧ R.locals = rm.2.1 ∧ R.cells = rm.2.2.1 ∧ R.slots = rm.2.2.2) {i : Nat} (hd : decode cc pc = .ok (.invokestatic i, len)) (h : en_cS o K rm i len pc L S T cs sl = some ss) (k : ∀ st ∈ ss, en_go p l e R s m args below meth c Q D tys b0 nL N0 ad0 st) : en_go p l e R s m args below meth c Q D tys b0 nL N0 ad0 (pc, L, S, T, cs, sl) := by
  unfold en_cS at h
  split at h
  · rename_i kd mi n hf
    split at h
    · rename_i r hr
      have hS : S = S.take n ++ S.drop n := (List.take_append_drop n S).symm
      split at h
      · rename_i κ hκ
        obtain ⟨h1, h2⟩ := en_one (x := none) h k
        simp only [Bool.and_eq_true, Bool.or_eq_true, beq_iff_eq] at h1
        obtain ⟨a1, a2, a4, a5⟩ := h1
        subst a2
        obtain ⟨r1, r2, r3, r4, r5⟩ := en_room_ok a5 hR
        obtain ⟨p1, p2, p3, p4, p5⟩ := en_pickP_ok hκ
        rw [hS]
        exact es_callP C hf a1 hr (hK κ p1) p2 a4 p4 p3 p5 r1 r2 r3 r4 r5 hd h2
      · split at h
        · rename_i κ hκ
          obtain ⟨h1, h2⟩ := en_one (x := none) h k
          simp only [Bool.and_eq_true, Bool.or_eq_true, beq_iff_eq] at h1
          obtain ⟨a1, a2, a4, a5⟩ := h1
          subst a2
          obtain ⟨r1, r2, r3, r4, r5⟩ := en_room_ok a5 hR
          obtain ⟨p1, p2, p3, p4⟩ := en_pick_ok hκ
          rw [hS]
          exact es_callS C hf a1 hr (hK κ p1) p2 a4 p3 p4 r1 r2 r3 r4 r5 hd h2
        · cases h
    · cases h
  · split at h
    · rename_i n d j1 a j0 S'
      split at h
      · rename_i t0 ht0
        split at h
        · rename_i t1 ht1
          obtain ⟨h1, h2⟩ := en_one (x := none) h k
          simp only [Bool.and_eq_true, beq_iff_eq, decide_eq_true_eq, List.contains_iff_mem] at h1
          obtain ⟨a1, a2, a3, a4, a5, a6, a7, a8, a9, b1, b2, b3, b4⟩ := h1
          subst a2
          subst a5
          subst a6
          have hn : n = ((n.1.toNat : Int), (n.1.toNat : Int)) := by
            obtain ⟨n1, n2⟩ := n
            dsimp only at a3 a4 ⊢
            subst a3
            have : n1 = (n1.toNat : Int) := by omega
            rw [← this]
          rw [hn]
          exact es_copy C a1 ht0 ht1 a7 a8 a9 b1 b2 (by rw [hR.1]; exact b3) (by rw [hR.2.1]; exact b4) hd h2
        · cases h
      · cases h
    · cases h
end END
theorem en_decl : ∀ (ci : Nat) (r : vw_C), vwCl[ci]? = some r → ∀ f, f < r.2.2 → (r.2.1 f).1 = en_nm ci := by
  intro ci r h
  match ci, h with
  | 0, h => cases h; exact (by decide +kernel : ∀ f, f < 9 → (TX0 f).1 = RX0)
  | 1, h => cases h; exact (by decide +kernel : ∀ f, f < 12 → (TX1 f).1 = RX1)
  | 2, h => cases h; exact (by decide +kernel : ∀ f, f < 2 → (TX2 f).1 = RX2)
  | 3, h => cases h; exact (by decide +kernel : ∀ f, f < 13 → (TX3 f).1 = RX3)
  | 4, h => cases h; exact (by decide +kernel : ∀ f, f < 6 → (TX4 f).1 = RX4)
  | 5, h => cases h; exact (by decide +kernel : ∀ f, f < 3 → (TX5 f).1 = RX5)
  | 6, h => cases h; exact (by decide +kernel : ∀ f, f < 6 → (TX6 f).1 = RX6)
  | 7, h => cases h; exact (by decide +kernel : ∀ f, f < 5 → (TX7 f).1 = RX7)
  | 8, h => cases h; exact (by decide +kernel : ∀ f, f < 11 → (TX8 f).1 = RX8)
  | 9, h => cases h; exact (by decide +kernel : ∀ f, f < 96 → (TX9 f).1 = RX9)
  | k + 10, h => simp [vwCl] at h
section ENO
variable {p : Program} {l : Launch} {e : Env} {R : Room} {s : State} {m : MethodId} {args : Array Value} {below : List Frame} {meth : Method} {c : Code} {Q : State → Prop} {cc : ByteArray} {D : va_G} {tys : List (ClassId × FieldType)} {aK aV b0 nL o N0 : Nat} {ad0 : Nat → Nat}
variable {pc len : Nat} {L : en_L} {S : List en_V} {T : en_T} {cs sl : Nat} {ss : List en_S} {K : List en_K} {rm : Nat × Nat × Nat × Nat} {ini : Bool}
set_option maxHeartbeats 4000000 in
theorem en_op_ok (C : en_cx p s m args meth c cc nL o D tys aK aV b0) (hK : ∀ κ ∈ K, en_ok l κ) (hR : R.frames = rm.1 ∧ R.locals = rm.2.1 ∧ R.cells = rm.2.2.1 ∧ R.slots = rm.2.2.2) (hini : ini = true → meth.name = "<init>") {op : Instr} (hd : decode cc pc = .ok (op, len)) (h : en_op o K rm ini op len pc L S T cs sl = some ss) (k : ∀ st ∈ ss, en_go p l e R s m args below meth c Q D tys b0 nL N0 ad0 st) : en_go p l e R s m args below meth c Q D tys b0 nL N0 ad0 (pc, L, S, T, cs, sl) := by
  cases op with
  | iconst n =>
    obtain ⟨rfl, h2⟩ := ok_kn (h : en_kn 1 (Int32.ofInt n) len pc L S T cs sl = some ss) k
    exact es_iconst C hd h2
  | bipush n =>
    obtain ⟨rfl, h2⟩ := ok_kn (h : en_kn 2 (Int8.ofInt n).toInt32 len pc L S T cs sl = some ss) k
    exact es_bipush C hd h2
  | sipush n =>
    obtain ⟨rfl, h2⟩ := ok_kn (h : en_kn 3 (Int16.ofInt n).toInt32 len pc L S T cs sl = some ss) k
    exact es_sipush C hd h2
  | ldc i =>
    dsimp only [en_op] at h
    split at h
    · rename_i v hv
      obtain ⟨rfl, h2⟩ := ok_kn h k
      exact es_ldc C hv hd h2
    · cases h
  | ldc_w i =>
    dsimp only [en_op] at h
    split at h
    · rename_i v hv
      obtain ⟨rfl, h2⟩ := ok_kn h k
      exact es_ldcw C hv hd h2
    · cases h
  | iload_n i =>
    obtain ⟨rfl, q, h1, h2⟩ := ok_ld (h : en_ld 1 i.val len pc L S T cs sl = some ss) k
    exact es_iload_n C h1 hd h2
  | iload i =>
    obtain ⟨rfl, q, h1, h2⟩ := ok_ld (h : en_ld 2 i len pc L S T cs sl = some ss) k
    exact es_iload C h1 hd h2
  | aload_n i =>
    obtain ⟨rfl, q, h1, h2⟩ := ok_la (h : en_la 1 i.val len pc L S T cs sl = some ss) k
    exact es_aload_n C h1 hd h2
  | aload i =>
    obtain ⟨rfl, q, h1, h2⟩ := ok_la (h : en_la 2 i len pc L S T cs sl = some ss) k
    exact es_aload C h1 hd h2
  | istore_n i =>
    obtain ⟨rfl, h1, q, S', rfl, h2⟩ := ok_st (h : en_st 1 i.val len pc L S T cs sl = some ss) k
    exact es_istore_n C h1 hd h2
  | istore i =>
    obtain ⟨rfl, h1, q, S', rfl, h2⟩ := ok_st (h : en_st 2 i len pc L S T cs sl = some ss) k
    exact es_istore C h1 hd h2
  | astore_n i =>
    obtain ⟨rfl, h1, q, S', rfl, h2⟩ := ok_sa (h : en_sa 1 i.val len pc L S T cs sl = some ss) k
    exact es_astore_n C h1 hd h2
  | astore i =>
    obtain ⟨rfl, h1, q, S', rfl, h2⟩ := ok_sa (h : en_sa 2 i len pc L S T cs sl = some ss) k
    exact es_astore C h1 hd h2
  | iinc i n =>
    dsimp only [en_op] at h
    split at h
    · rename_i q hq
      obtain ⟨h1, h2⟩ := en_one (x := none) h k
      simp only [beq_iff_eq] at h1
      subst h1
      exact es_iinc C hq hd h2
    · cases h
  | iadd =>
    obtain ⟨rfl, r, q, S', rfl, h2⟩ := ok_bn (h : en_bn en_add len pc L S T cs sl = some ss) k
    exact es_bin en_add (fun x y => x + y) (fun q r x y => en_add_in) (fun H locs ls rest x y k => lv_iadd C.1 C.2.1 hd k) h2
  | isub =>
    obtain ⟨rfl, r, q, S', rfl, h2⟩ := ok_bn (h : en_bn en_sub len pc L S T cs sl = some ss) k
    exact es_bin en_sub (fun x y => x - y) (fun q r x y => en_sub_in) (fun H locs ls rest x y k => lv_isub C.1 C.2.1 hd k) h2
  | imul =>
    obtain ⟨rfl, r, q, S', rfl, h2⟩ := ok_bn (h : en_bn en_mul len pc L S T cs sl = some ss) k
    exact es_bin en_mul (fun x y => x * y) (fun q r x y => en_mul_in) (fun H locs ls rest x y k => lv_imul C.1 C.2.1 hd k) h2
  | iand =>
    obtain ⟨rfl, r, q, S', rfl, h2⟩ := ok_bn (h : en_bn en_and len pc L S T cs sl = some ss) k
    exact es_bin en_and (fun x y => x &&& y) (fun q r x y => en_and_in) (fun H locs ls rest x y k => lv_iand C.1 C.2.1 hd k) h2
  | ishr =>
    obtain ⟨rfl, r, q, S', rfl, h2⟩ := ok_bn (h : en_bn (fun _ _ => en_full) len pc L S T cs sl = some ss) k
    exact es_bin (fun _ _ => en_full) (fun x y => x >>> (y &&& 31)) (fun q r x y _ _ => en_full_in _) (fun H locs ls rest x y k => lv_ishr C.1 C.2.1 hd k) h2
  | iushr =>
    obtain ⟨rfl, r, q, S', rfl, h2⟩ := ok_bn (h : en_bn (fun _ _ => en_full) len pc L S T cs sl = some ss) k
    exact es_bin (fun _ _ => en_full) (fun x y => (x.toUInt32 >>> (y.toUInt32 &&& Int32.toUInt32 31)).toInt32) (fun q r x y _ _ => en_full_in _) (fun H locs ls rest x y k => lv_iushr C.1 C.2.1 hd rfl k) h2
  | i2b =>
    dsimp only [en_op] at h
    split at h
    · obtain ⟨h1, h2⟩ := en_one (x := none) h k
      simp only [beq_iff_eq] at h1
      subst h1
      exact es_un (fun x => x.toInt8.toInt32) (fun x _ => en_i2b_in x) (fun H locs ls rest x k => lv_i2b C.1 C.2.1 hd rfl k) h2
    · cases h
  | dup =>
    dsimp only [en_op] at h
    split at h
    · obtain ⟨h1, h2⟩ := en_one (x := none) h k
      simp only [beq_iff_eq] at h1
      subst h1
      exact es_dup C hd h2
    · cases h
  | pop =>
    dsimp only [en_op] at h
    split at h
    · obtain ⟨h1, h2⟩ := en_one (x := none) h k
      simp only [beq_iff_eq] at h1
      subst h1
      exact es_pop C hd h2
    · cases h
  | goto off =>
    dsimp only [en_op] at h
    obtain ⟨h1, h2⟩ := en_one (x := none) h k
    simp only [Bool.and_eq_true, beq_iff_eq] at h1
    obtain ⟨rfl, h1⟩ := h1
    exact es_goto C h1 hd h2
  | if_icmp cd off =>
    dsimp only [en_op] at h
    split at h
    · obtain ⟨h1, h2⟩ := en_g_some h
      simp only [Bool.and_eq_true, beq_iff_eq] at h1
      obtain ⟨rfl, h1⟩ := h1
      cases h2
      exact es_icmp C h1 hd k
    · cases h
  | ifCond cd off =>
    dsimp only [en_op] at h
    split at h
    · obtain ⟨h1, h2⟩ := en_g_some h
      simp only [Bool.and_eq_true, beq_iff_eq] at h1
      obtain ⟨rfl, h1⟩ := h1
      cases h2
      exact es_if C h1 hd k
    · cases h
  | tableswitch d lo hi offs =>
    dsimp only [en_op] at h
    split at h
    · split at h
      · rename_i t ht
        obtain ⟨h1, h2⟩ := en_one (x := none) h k
        exact es_tsw C ht h1 hd h2
      · cases h
    · cases h
  | arraylength =>
    dsimp only [en_op] at h
    split at h
    · split at h
      · rename_i t ht
        obtain ⟨h1, h2⟩ := en_one (x := none) h k
        simp only [Bool.and_eq_true, beq_iff_eq, bne_iff_ne, ne_eq, decide_eq_true_eq] at h1
        obtain ⟨rfl, h3, h1⟩ := h1
        exact es_alen C h3 ht h1 hd h2
      · cases h
    · cases h
  | iaload =>
    obtain ⟨rfl, q, j, S', t, rfl, h1, h3, h4, h5, h2⟩ := ok_al (h : en_al 0 0 len pc L S T cs sl = some ss) k
    exact es_iald C h1 (h3.elim id id) h4 h5 hd h2
  | baload =>
    obtain ⟨rfl, q, j, S', t, rfl, h1, h3, h4, h5, h2⟩ := ok_al (h : en_al 1 2 len pc L S T cs sl = some ss) k
    rcases h3 with h3 | h3
    · exact es_zald C h1 h3 h4 h5 hd h2
    · exact es_bald C h1 h3 h4 h5 hd h2
  | iastore =>
    dsimp only [en_op] at h
    unfold en_as at h
    split at h
    · split at h
      · rename_i t ht
        obtain ⟨h1, h2⟩ := en_one (x := none) h k
        simp only [Bool.and_eq_true, beq_iff_eq, decide_eq_true_eq] at h1
        obtain ⟨h3, rfl, h4, h5⟩ := h1
        exact es_iast C ht h3 h4 h5 hd h2
      · cases h
    · cases h
  | bastore =>
    dsimp only [en_op] at h
    unfold en_as at h
    split at h
    · split at h
      · rename_i t ht
        obtain ⟨h1, h2⟩ := en_one (x := none) h k
        simp only [Bool.and_eq_true, Bool.or_eq_true, beq_iff_eq, decide_eq_true_eq] at h1
        obtain ⟨h3, rfl, h4, h5⟩ := h1
        rcases h3 with ⟨h3, h6, h7⟩ | ⟨h3, h6, h7⟩
        · exact es_bast C ht h3 h4 h5 h6 h7 hd h2
        · exact es_zast C ht h3 h4 h5 h6 h7 hd h2
      · cases h
    · cases h
  | getfield i =>
    dsimp only [en_op] at h
    split at h
    · rename_i ci f hf
      split at h
      · split at h
        · rename_i q hq
          split at h
          · rename_i r hr
            split at h
            · rename_i a ha
              obtain ⟨h1, h2⟩ := en_one (x := none) h k
              simp only [Bool.and_eq_true, beq_iff_eq, decide_eq_true_eq] at h1
              obtain ⟨rfl, h3, h4⟩ := h1
              obtain ⟨q1, q2⟩ := q
              dsimp only at h3 ha
              subst h3
              exact es_getf C hf hr h4 hq ha hd h2
            · cases h
          · cases h
        · cases h
      · cases h
    · cases h
  | putfield i =>
    dsimp only [en_op] at h
    split at h
    · rename_i ci f hf
      split at h
      · split at h
        · rename_i q hq
          split at h
          · rename_i r hr
            obtain ⟨h1, h2⟩ := en_one (x := none) h k
            simp only [Bool.and_eq_true, Bool.or_eq_true, Bool.not_eq_true', beq_iff_eq, decide_eq_true_eq] at h1
            obtain ⟨rfl, h3, h4, h5, h6, h7⟩ := h1
            obtain ⟨q1, q2⟩ := q
            dsimp only at h3 h5
            subst h3
            refine es_putf C hf hr h4 hq h5 h6 ?_ hd h2
            rcases h7 with h7 | ⟨h7, h8⟩
            · exact Or.inl h7
            · exact Or.inr ⟨hini h7, by rw [h8]; exact en_decl _ r hr f h4⟩
          · cases h
        · cases h
      · cases h
    · cases h
  | new i =>
    dsimp only [en_op] at h
    split at h
    · rename_i ci hf
      split at h
      · rename_i r hr
        obtain ⟨h1, h2⟩ := en_one (x := none) h k
        simp only [Bool.and_eq_true, beq_iff_eq, decide_eq_true_eq] at h1
        obtain ⟨rfl, h3, h4, h5⟩ := h1
        exact es_new C hf hr h3 (by rw [hR.2.2.1]; exact h4) (by rw [hR.2.2.2]; exact h5) hd h2
      · cases h
    · cases h
  | newarray at0 =>
    dsimp only [en_op] at h
    split at h
    · rename_i q S'
      split at h
      · rename_i t ht
        obtain ⟨h1, h2⟩ := en_one (x := none) h k
        simp only [Bool.and_eq_true, beq_iff_eq, decide_eq_true_eq] at h1
        obtain ⟨rfl, a3, a4, h5, h6, h7⟩ := h1
        have hn : q = ((q.1.toNat : Int), (q.1.toNat : Int)) := by
          obtain ⟨n1, n2⟩ := q
          dsimp only at a3 a4 ⊢
          subst a3
          have : n1 = (n1.toNat : Int) := by omega
          rw [← this]
        have hty : newarray.typeOf at0 = en_ty t ∧ t < 3 := by
          cases at0 <;> cases ht <;> exact ⟨rfl, by decide⟩
        rw [hn]
        exact es_newa C hty.1 hty.2 h5 (by rw [hR.2.2.1]; exact h6) (by rw [hR.2.2.2]; exact h7) hd h2
      · cases h
    · cases h
  | invokevirtual i => exact ok_cV C hK hR hd h k
  | invokespecial i => exact ok_cI C hK hR hd h k
  | invokestatic i => exact ok_cS C hK hR hd h k
  | _ => cases h
def en_lle (a b : Option en_V) : Bool := match b with
  | none => true
  | some y => match a with
    | some x => en_le x y
    | none => false
def en_sub2 (st x : en_S) : Bool := st.1 == x.1 && (en_all2 en_lle st.2.1 x.2.1 && (en_all2 en_le st.2.2.1 x.2.2.1 && (en_all2 eg_cle st.2.2.2.1 x.2.2.2.1 && (st.2.2.2.2.1 == x.2.2.2.2.1 && st.2.2.2.2.2 == x.2.2.2.2.2))))
theorem en_sub2_ok {st x : en_S} (h : en_sub2 st x = true) (k : en_go p l e R s m args below meth c Q D tys b0 nL N0 ad0 x) : en_go p l e R s m args below meth c Q D tys b0 nL N0 ad0 st := by
  unfold en_sub2 at h
  simp only [Bool.and_eq_true, beq_iff_eq] at h
  obtain ⟨h1, h2, h3, h4, h5, h6⟩ := h
  intro H locs ls stk ad hh
  obtain ⟨hl, hn, hs, hW, hS, hr, hr2⟩ := hh
  have hlen := en_all2_len h4
  have k := k H locs ls stk ad ⟨⟨hl.1, hl.2.1, fun i a hi => ?_⟩, by rw [← en_all2_len h2]; exact hn, by rw [← hlen]; exact en_all2_vs h3 hs, hW.le h4, hS, by rw [← hlen]; exact hr, hr2⟩
  · rw [h1, h5, h6]
    exact k
  · obtain ⟨b, g1, g2⟩ := en_all2_get h2 hi
    unfold en_lle at g2
    cases b with
    | none => cases g2
    | some y =>
      obtain ⟨x0, g3, g4⟩ := hl.2.2 i y g1
      exact ⟨x0, g3, by rw [← hlen]; exact en_le_ok g2 g4⟩
def en_chk (o : Nat) (cc : ByteArray) (K : List en_K) (rm : Nat × Nat × Nat × Nat) (ini : Bool) (ret : Option FieldType) (rv : Option en_V) (T1 : en_T) (xs : List en_S) : Nat → en_S → Bool
  | 0, _ => false
  | n + 1, (pc, L, S, T, cs, sl) => xs.any (fun x => en_sub2 (pc, L, S, T, cs, sl) x) || (match decode cc pc with
    | .ok (.ireturn, len) => (match S with
      | .inl q :: [] => (match rv with
        | some r => len == 1 && (en_rt ret q && (en_le (.inl q) r && (en_all2 eg_cle T T1 && (decide (cs ≤ rm.2.2.1) && decide (sl ≤ rm.2.2.2)))))
        | none => false)
      | _ => false)
    | .ok (.return_, len) => (match S with
      | [] => (match rv with
        | none => len == 1 && (ret.isNone && (en_all2 eg_cle T T1 && (decide (cs ≤ rm.2.2.1) && decide (sl ≤ rm.2.2.2))))
        | some _ => false)
      | _ => false)
    | .ok (op, len) => (match en_op o K rm ini op len pc L S T cs sl with
      | some ss => ss.all (en_chk o cc K rm ini ret rv T1 xs n)
      | none => false)
    | .error _ => false)
theorem en_chk_ok (C : en_cx p s m args meth c cc nL o D tys aK aV b0) (hK : ∀ κ ∈ K, en_ok l κ) (hR : R.frames = rm.1 ∧ R.locals = rm.2.1 ∧ R.cells = rm.2.2.1 ∧ R.slots = rm.2.2.2) (hini : ini = true → meth.name = "<init>") {ret : Option FieldType} (hret : meth.sig.returnType = ret) {rv : Option en_V} {T1 : en_T} {xs : List en_S} (hQ : Q = MQ below (en_qc D tys b0 N0 ad0 rv T1) args s rm.2.2.1 rm.2.2.2 (fun q => b0 ≤ q)) (hX : ∀ x ∈ xs, en_go p l e R s m args below meth c Q D tys b0 nL N0 ad0 x) :
    ∀ (n : Nat) (st : en_S), en_chk o cc K rm ini ret rv T1 xs n st = true → en_go p l e R s m args below meth c Q D tys b0 nL N0 ad0 st := by
  intro n
  induction n with
  | zero => intro st h; cases h
  | succ n ih =>
    intro st h
    obtain ⟨pc, L, S, T, cs, sl⟩ := st
    unfold en_chk at h
    rw [Bool.or_eq_true] at h
    rcases h with h | h
    · obtain ⟨x, h1, h2⟩ := List.any_eq_true.mp h
      exact en_sub2_ok h2 (hX x h1)
    · split at h
      · rename_i len hd
        split at h
        · rename_i q
          split at h
          · rename_i r
            simp only [Bool.and_eq_true, beq_iff_eq, decide_eq_true_eq] at h
            obtain ⟨rfl, h1, h2, h3, h4, h5⟩ := h
            intro H locs ls stk ad hh
            dsimp only at hh
            obtain ⟨hl, hn, hs, hW, hS, hr, hr2⟩ := hh
            obtain ⟨x0, ys, rfl, hv0, hs1⟩ := en_vs_cons hs
            have hv1 := hv0
            obtain ⟨v, rfl, hv⟩ := hv0
            cases ys with
            | cons a b => exact hs1.elim
            | nil =>
              have hlen := en_all2_len h3
              refine W.widen (k := rm.2.2.1) (n := rm.2.2.2) h4 h5 ?_
              subst hQ
              have hq : ∀ t : State, t.heap = H → s.WarmedH t.vm → en_qc D tys b0 N0 ad0 (some r) T1 args s (.returned (some (.int v))) t := fun t ht _ => ⟨⟨v, ad, rfl, ⟨by rw [← hlen]; exact en_le_ok h2 hv1, by rw [← hlen]; exact hr, hr2⟩, by show eg_W D tys (fun q => b0 ≤ q) T1 ad t.heap; rw [ht]; exact hW.le h3⟩, hS.F ht⟩
              have hlocks := C.2.2.2.2.2.2.2.2.2
              unfold en_rt at h1
              split at h1
              · exact W.iret C.1 C.2.1 hret hq hS.2.2 hd
              · simp only [Bool.and_eq_true, decide_eq_true_eq] at h1
                exact W.zret C.1 C.2.1 hret (en_nar_z (by omega) (by omega)) hq hS.2.2 hd
              · cases h1
          · cases h
        · cases h
      · rename_i len hd
        split at h
        · split at h
          · simp only [Bool.and_eq_true, beq_iff_eq, decide_eq_true_eq, Option.isNone_iff_eq_none] at h
            obtain ⟨rfl, h1, h3, h4, h5⟩ := h
            intro H locs ls stk ad hh
            dsimp only at hh
            obtain ⟨hl, hn, hs, hW, hS, hr, hr2⟩ := hh
            cases stk with
            | cons a b => exact hs.elim
            | nil =>
              have hlen := en_all2_len h3
              refine W.widen (k := rm.2.2.1) (n := rm.2.2.2) h4 h5 ?_
              subst hQ
              have hlocks := C.2.2.2.2.2.2.2.2.2
              exact W.vret C.1 C.2.1 (hret.trans h1) (fun t ht _ => ⟨⟨ad, rfl, ⟨by rw [← hlen]; exact hr, hr2⟩, by show eg_W D tys (fun q => b0 ≤ q) T1 ad t.heap; rw [ht]; exact hW.le h3⟩, hS.F ht⟩) hS.2.2 hd
          · cases h
        · cases h
      · rename_i op len _ _ hd
        split at h
        · rename_i ss hss
          exact en_op_ok C hK hR hini hd hss (fun st hst => ih st (List.all_eq_true.mp h st hst))
        · cases h
      · cases h
end ENO
def en_L0 (av : List en_V) (ml : Nat) : en_L := av.map some ++ List.replicate (ml - av.length) none
theorem en_L0_ok {N : Nat} {ad : Nat → Nat} {av : List en_V} {as : List Value} {ml : Nat} (h : en_vs N ad av as) (hm : av.length ≤ ml) : en_l N ad (en_L0 av ml) ml ((lg_sl as ++ List.replicate (ml - (lg_sl as).length) Slot.unset).toArray) ∧ (en_L0 av ml).length = ml := by
  have hl := lv_entry as (n := ml) (by rw [en_vs_sl h, ← en_vs_len h]; exact hm)
  refine ⟨⟨hl.1, hl.2.1, fun i a hi => ?_⟩, by unfold en_L0; rw [List.length_append, List.length_map, List.length_replicate]; omega⟩
  have hia : av[i]? = some a := by
    unfold en_L0 at hi
    by_cases hb : i < (av.map some).length
    · rw [List.getElem?_append_left hb, List.getElem?_map] at hi
      cases hz : av[i]? with
      | none => rw [hz] at hi; cases hi
      | some b => rw [hz] at hi; cases hi; rfl
    · rw [List.getElem?_append_right (by omega)] at hi
      have := List.mem_of_getElem? hi
      cases (List.mem_replicate.mp this).2
  obtain ⟨x, h1, h2⟩ := en_vs_args 0 h hia
  rw [Nat.zero_add] at h1
  exact ⟨x, hl.2.2 _ h1, h2⟩
def en_start (κ : en_K) (ml : Nat) : en_S := (0, en_L0 κ.2.1 ml, [], k_T0 κ, 0, 0)
/-- a contract out of a walk of its body that begins with the contract's start -/
theorem en_ok_of {l : Launch} {κ : en_K} {r : MethodName × ByteArray × Nat × Option FieldType} {o : Nat} (hr : en_ms[κ.1]? = some r) (ho : en_mo[κ.1]? = some o) (hp : Jvm.plainName r.1.cls = true) (hm : κ.2.1.length ≤ r.2.2.1)
    (body : ∀ (p : Program) (e : Env) (s : State) (m : MethodId) (args : Array Value) (below : List Frame) (meth : Method) (c : Code) (D : va_G) (tys : List (ClassId × FieldType)) (aK aV b0 : Nat) (ad : Nat → Nat), en_cx p s m args meth c r.2.1 r.2.2.1 o D tys aK aV b0 → meth.sig.returnType = r.2.2.2 → meth.name = r.1.name →
      en_go p l e (en_rm κ) s m args below meth c (MQ below (en_qc D tys b0 (k_T0 κ).length ad (k_rv κ) (k_T1 κ)) args s (k_mc κ) (k_ms κ) (fun q => b0 ≤ q)) D tys b0 r.2.2.1 (k_T0 κ).length ad (en_start κ r.2.2.1)) : en_ok l κ := by
  intro r' hr' D tys aK aV b0 htok as ad hargs
  rw [hr] at hr'
  cases hr'
  refine Met.ofW (cc := r.2.1) (maxL := r.2.2.1) (ret := r.2.2.2) hp rfl ?_
  intro p e s m args below meth c s₁ B hml hv
  obtain ⟨rfl, hsz, hW, hKs, hX⟩ := hv
  have hts := atoms_spec (ws := Cond.code r.1 r.2.1 r.2.2.1 r.2.2.2 :: en_ws) B.pre
  have hown : s.vm.findClass (en_nm o) = some m.cls := by rw [en_mo_ok hr ho]; exact findClass_of_methodNamed B.named
  have C : en_cx p s m as.toArray meth c r.2.1 r.2.2.1 o D tys aK aV b0 := ⟨B.exec, B.bytes, hml, hown, fun w hw => hts w (List.mem_cons_of_mem _ hw), hKs, htok, hsz, hX, B.notSynchronized⟩
  rw [lg_entry_eq]
  obtain ⟨h1, h2⟩ := en_L0_ok hargs hm
  exact body p e s m as.toArray below meth c D tys aK aV b0 ad C B.returns (name_of_methodNamed B.named B.method).1 s.heap [] _ [] ad ⟨h1, h2, trivial, hW, va_S.rf, Nat.le_refl _, fun _ _ => rfl⟩
def en_good (κ : en_K) (K : List en_K) (fuel : Nat) : Bool := match en_ms[κ.1]? with
  | some r => match en_mo[κ.1]? with
    | some o => Jvm.plainName r.1.cls && (decide (κ.2.1.length ≤ r.2.2.1) && en_chk o r.2.1 K (k_fr κ, k_lo κ, k_mc κ, k_ms κ) (decide (r.1.name = "<init>")) r.2.2.2 (k_rv κ) (k_T1 κ) [] fuel (en_start κ r.2.2.1))
    | none => false
  | none => false
theorem en_good_ok {l : Launch} {κ : en_K} {K : List en_K} {fuel : Nat} (hK : ∀ κ' ∈ K, en_ok l κ') (h : en_good κ K fuel = true) : en_ok l κ := by
  unfold en_good at h
  split at h
  · rename_i r hr
    split at h
    · rename_i o ho
      simp only [Bool.and_eq_true, decide_eq_true_eq] at h
      obtain ⟨h1, h2, h3⟩ := h
      refine en_ok_of hr ho h1 h2 (fun p e s m args below meth c D tys aK aV b0 ad C hret hnm => ?_)
      exact en_chk_ok (R := en_rm κ) C hK ⟨rfl, rfl, rfl, rfl⟩ (fun hi => by simp only [decide_eq_true_eq] at hi; rw [hnm]; exact hi) hret rfl (fun x hx => absurd hx List.not_mem_nil) fuel _ h3
    · cases h
  · cases h
theorem df_0 : decode prog_18_method_103_code 0 = .ok (.iconst 0, 1) := by decide +kernel
theorem df_1 : decode prog_18_method_103_code 1 = .ok (.istore_n 2, 1) := by decide +kernel
theorem df_2 : decode prog_18_method_103_code 2 = .ok (.aload_n 0, 1) := by decide +kernel
theorem df_3 : decode prog_18_method_103_code 3 = .ok (.arraylength, 1) := by decide +kernel
theorem df_4 : decode prog_18_method_103_code 4 = .ok (.istore_n 3, 1) := by decide +kernel
theorem df_5 : decode prog_18_method_103_code 5 = .ok (.iload_n 2, 1) := by decide +kernel
theorem df_6 : decode prog_18_method_103_code 6 = .ok (.iload_n 3, 1) := by decide +kernel
theorem df_7 : decode prog_18_method_103_code 7 = .ok (.if_icmp .ge 13, 3) := by decide +kernel
theorem df_10 : decode prog_18_method_103_code 10 = .ok (.aload_n 0, 1) := by decide +kernel
theorem df_11 : decode prog_18_method_103_code 11 = .ok (.iload_n 2, 1) := by decide +kernel
theorem df_12 : decode prog_18_method_103_code 12 = .ok (.iload_n 1, 1) := by decide +kernel
theorem df_13 : decode prog_18_method_103_code 13 = .ok (.iastore, 1) := by decide +kernel
theorem df_14 : decode prog_18_method_103_code 14 = .ok (.iinc 2 1, 3) := by decide +kernel
theorem df_17 : decode prog_18_method_103_code 17 = .ok (.goto (-12), 3) := by decide +kernel
theorem df_20 : decode prog_18_method_103_code 20 = .ok (.return_, 1) := by decide +kernel
theorem en_mt_6 : en_ms[6]? = some (yJ7_fill_53178, prog_18_method_103_code, 4, none) := rfl
theorem en_mo_6 : en_mo[6]? = some 10 := rfl
set_option maxHeartbeats 4000000 in
theorem en_fill (l : Launch) {T : en_T} {j n : Nat} {b v : Int × Int} (hj : T[j]? = some (.inl (0, n, b))) (hn : n < 2147483648) : en_ok l (6, [.inr (j + 2), .inl v], T, none, T.set j (.inl (0, n, v)), 0, 0, 0, 0) := by
  refine en_ok_of (r := (yJ7_fill_53178, prog_18_method_103_code, 4, none)) (o := 10) en_mt_6 en_mo_6 (by decide) (Nat.le_of_ble_eq_true rfl) ?_
  intro p e s m args below meth c D tys aK aV b0 ad C hret hnm
  intro H locs ls stk ad1 hh
  have hh : en_at s D tys b0 4 T.length ad [some (.inr (j + 2)), some (.inl v), none, none] [] T H locs ls stk ad1 := hh
  obtain ⟨hl, hn0, hs, hW, hS, hr, hr2⟩ := hh
  cases stk with
  | cons a b => exact hs.elim
  | nil =>
    obtain ⟨x0, h0, hx0⟩ := hl.2.2 0 (.inr (j + 2)) rfl
    obtain ⟨rfl, hjl⟩ : x0 = .ref (ad1 j) ∧ j < T.length := hx0
    obtain ⟨x1, h1, x, rfl, hx⟩ := hl.2.2 1 (.inl v) rfl
    obtain ⟨ws, w1, w2, w3, w4⟩ := hW
    obtain ⟨e0, g1, ge⟩ := w2 j _ hj
    obtain ⟨cA, f0, rfl, g2, g3⟩ := ec_get (show (0 : Nat) ≠ 3 by decide) ge
    dsimp only at g1 g2 g3
    have hl0 : lv_has ls 4 [(0, .ref (ad1 j)), (1, .int x)] := ⟨hl.1, hl.2.1, fun q hq => by
      rcases List.mem_cons.mp hq with rfl | hq
      · exact h0
      · rw [List.mem_singleton.mp hq]; exact h1⟩
    have hK := C.2.2.2.2.2.1
    have hlocks := C.2.2.2.2.2.2.2.2.2
    have loop : ∀ (k i : Nat) (f : Nat → Int32) (us : va_W) (H : Heap) (locs : List Loc) (ls : Array Slot), i ≤ n → n - i < k → (∀ q, q < i → en_in v (f q)) → us.length = ws.length → us[j]? = some (ad1 j, .inl (cA, n, .inl f)) → (∀ q, q ≠ j → us[q]? = ws[q]?) → va_P D vwCl us H → va_D (fun q => b0 ≤ q) us → va_S (fun q => b0 ≤ q) s.heap H locs → lv_has ls 4 [(0, .ref (ad1 j)), (1, .int x), (2, .int (nI i)), (3, .int (nI n))] →
        W p l e (en_rm (6, [.inr (j + 2), .inl v], T, none, T.set j (.inl (0, n, v)), 0, 0, 0, 0)) s m args below meth c H locs 0 0 (MQ below (en_qc D tys b0 T.length ad none (T.set j (.inl (0, n, v)))) args s 0 0 (fun q => b0 ≤ q)) (F0 m 5 ls []) := by
      intro k
      induction k with
      | zero => intro i f us H locs ls h1 h2; omega
      | succ k ih =>
        intro i f us H locs ls hi hk hf hul huj huo hP hD hS hl
        refine lv_iload_n C.1 C.2.1 df_5 rfl (lv_at hl 2 rfl) ?_
        refine lv_iload_n C.1 C.2.1 df_6 rfl (lv_at hl 3 rfl) ?_
        refine lv_icmp_ge (tgt := 20) C.1 C.2.1 df_7 (by decide) (fun hc => ?_) (fun hc => ?_)
        · have hin : i = n := by
            rcases Nat.lt_or_ge i n with q | q
            · exact absurd hc (nI_ge q hn)
            · omega
          subst hin
          refine W.vret C.1 C.2.1 hret (fun t ht _ => ⟨⟨ad1, rfl, ⟨by rw [List.length_set]; exact hr, hr2⟩, ?_⟩, hS.F ht⟩) hS.2.2 df_20
          show eg_W D tys (fun q => b0 ≤ q) (T.set j (.inl (0, i, v))) ad1 t.heap
          rw [ht]
          refine ⟨us, by rw [List.length_set, hul]; exact w1, fun q t hq => ?_, hP, hD⟩
          rw [List.length_set]
          by_cases hqj : q = j
          · subst hqj
            rw [List.getElem?_set_self hjl] at hq
            cases hq
            exact ⟨_, huj, ec_arr (show (0 : Nat) ≠ 3 by decide) ⟨cA, f, rfl, g2, hf⟩⟩
          · rw [List.getElem?_set_ne (Ne.symm hqj)] at hq
            rw [huo q hqj]
            exact w2 q t hq
        · have hlt : i < n := by
            rcases Nat.lt_or_ge i n with q | q
            · exact q
            · exact absurd (nI_le q (by omega)) hc
          refine lv_aload_n C.1 C.2.1 df_10 rfl (lv_at hl 0 rfl) ?_
          refine lv_iload_n C.1 C.2.1 df_11 rfl (lv_at hl 2 rfl) ?_
          refine lv_iload_n C.1 C.2.1 df_12 rfl (lv_at hl 1 rfl) ?_
          refine va_iast C.1 C.2.1 hK hP hD hS j 0 huj g2 (vp_in_nI hlt hn) df_13 (fun H1 locs1 hP1 hD1 hS1 => ?_)
          rw [nI_clamp (by omega)] at hP1 hD1
          refine lv_iinc (v := nI (i + 1)) (k := 2) (lv' := [(2, .int (nI (i + 1))), (0, .ref (ad1 j)), (1, .int x), (3, .int (nI n))]) C.1 C.2.1 df_14 hl rfl (by rw [nI_succ]; rfl) (by decide) rfl (fun ls hl => ?_)
          refine lv_goto (tgt := 5) C.1 C.2.1 df_17 (by decide) ?_
          have hjw : j < us.length := (List.getElem?_eq_some_iff.mp huj).1
          refine ih (i + 1) (upd f i x) _ H1 locs1 ls hlt (by omega) (fun q hq => ?_) (by rw [List.length_set]; exact hul) (List.getElem?_set_self hjw) (fun q hq => by rw [List.getElem?_set_ne (Ne.symm hq)]; exact huo q hq) hP1 hD1 hS1 (lv_sub hl [1, 2, 0, 3] rfl)
          unfold upd
          split
          · exact hx
          · exact hf q (by omega)
    refine lv_iconst (v := 0) C.1 C.2.1 df_0 (by decide) ?_
    refine lv_istore_n (lv' := [(2, .int 0), (0, .ref (ad1 j)), (1, .int x)]) C.1 C.2.1 df_1 rfl hl0 (by decide) rfl (fun ls hl => ?_)
    refine lv_aload_n C.1 C.2.1 df_2 rfl (lv_at hl 1 rfl) ?_
    refine va_alen C.1 C.2.1 hK w3 j 0 g1 g2 (v := nI n) rfl df_3 ?_
    refine lv_istore_n (lv' := [(3, .int (nI n)), (2, .int 0), (0, .ref (ad1 j)), (1, .int x)]) C.1 C.2.1 df_4 rfl hl (by decide) rfl (fun ls hl => ?_)
    exact loop (n + 1) 0 f0 ws H locs ls (Nat.zero_le _) (by omega) (fun q hq => by omega) rfl g1 (fun _ _ => rfl) w3 w4 hS (lv_sub hl [2, 3, 1, 0] rfl)
/-! the one text -/
theorem en_str_in : ∀ w ∈ ([.initialized "java/lang/String", .methodLink "LoadsAhead$Law" 29 yJ0_length_8abf5, .instanceMethod yJ0_length_8abf5, .selects "java/lang/String" yJ0_length_8abf5 yJ0_length_8abf5, .methodLink "java/lang/String" 335 yJ0_coder_7d493, .instanceMethod yJ0_coder_7d493, .selects "java/lang/String" yJ0_coder_7d493 yJ0_coder_7d493, .fieldLink "java/lang/String" 38 "java/lang/String" "COMPACT_STRINGS" "Z", .fieldLink "java/lang/String" 9 "java/lang/String" "value" "[B", .fieldLink "java/lang/String" 15 "java/lang/String" "coder" "B"] : List Cond), w ∈ en_ws := fun w h => by
  have hg := goodIn_r (big := lw_tbl) _ [121, 248, 249, 250, 252, 253, 254, 256, 1798, 1799] (by decide +kernel) (by decide +kernel) w h
  exact en_ws_in hg.1 (by
    have : ([.initialized "java/lang/String", .methodLink "LoadsAhead$Law" 29 yJ0_length_8abf5, .instanceMethod yJ0_length_8abf5, .selects "java/lang/String" yJ0_length_8abf5 yJ0_length_8abf5, .methodLink "java/lang/String" 335 yJ0_coder_7d493, .instanceMethod yJ0_coder_7d493, .selects "java/lang/String" yJ0_coder_7d493 yJ0_coder_7d493, .fieldLink "java/lang/String" 38 "java/lang/String" "COMPACT_STRINGS" "Z", .fieldLink "java/lang/String" 9 "java/lang/String" "value" "[B", .fieldLink "java/lang/String" 15 "java/lang/String" "coder" "B"] : List Cond).all goodWord = true := by decide +kernel
    exact List.all_eq_true.mp this w h)
theorem en_str_q {w : Cond} (i : Nat) (h : ([.initialized "java/lang/String", .methodLink "LoadsAhead$Law" 29 yJ0_length_8abf5, .instanceMethod yJ0_length_8abf5, .selects "java/lang/String" yJ0_length_8abf5 yJ0_length_8abf5, .methodLink "java/lang/String" 335 yJ0_coder_7d493, .instanceMethod yJ0_coder_7d493, .selects "java/lang/String" yJ0_coder_7d493 yJ0_coder_7d493, .fieldLink "java/lang/String" 38 "java/lang/String" "COMPACT_STRINGS" "Z", .fieldLink "java/lang/String" 9 "java/lang/String" "value" "[B", .fieldLink "java/lang/String" 15 "java/lang/String" "coder" "B"] : List Cond)[i]? = some w) : w ∈ en_ws := en_str_in w (List.mem_of_getElem? h)
theorem en_str_l : Cond.code yJ0_length_8abf5 cJ0_length_8abf5 1 (some .int) ∈ en_ws := en_ws_in (en_sub_1 _ (List.mem_of_getElem? (i := 136) rfl)) rfl
theorem en_str_c : Cond.code yJ0_coder_7d493 cJ0_coder_7d493 1 (some .byte) ∈ en_ws := en_ws_in (en_sub_1 _ (List.mem_of_getElem? (i := 140) rfl)) rfl
theorem dc_0 : decode cJ0_coder_7d493 0 = .ok (.getstatic 38, 3) := by decide +kernel
theorem dc_3 : decode cJ0_coder_7d493 3 = .ok (.ifCond .eq 10, 3) := by decide +kernel
theorem dc_6 : decode cJ0_coder_7d493 6 = .ok (.aload_n 0, 1) := by decide +kernel
theorem dc_7 : decode cJ0_coder_7d493 7 = .ok (.getfield 15, 3) := by decide +kernel
theorem dc_10 : decode cJ0_coder_7d493 10 = .ok (.goto 4, 3) := by decide +kernel
theorem dc_14 : decode cJ0_coder_7d493 14 = .ok (.ireturn, 1) := by decide +kernel
theorem dl_0 : decode cJ0_length_8abf5 0 = .ok (.aload_n 0, 1) := by decide +kernel
theorem dl_1 : decode cJ0_length_8abf5 1 = .ok (.getfield 9, 3) := by decide +kernel
theorem dl_4 : decode cJ0_length_8abf5 4 = .ok (.arraylength, 1) := by decide +kernel
theorem dl_5 : decode cJ0_length_8abf5 5 = .ok (.aload_n 0, 1) := by decide +kernel
theorem dl_6 : decode cJ0_length_8abf5 6 = .ok (.invokevirtual 335, 3) := by decide +kernel
theorem dl_9 : decode cJ0_length_8abf5 9 = .ok (.ishr, 1) := by decide +kernel
theorem dl_10 : decode cJ0_length_8abf5 10 = .ok (.ireturn, 1) := by decide +kernel
theorem en_mt_4 : en_ms[4]? = some (yX0_init, prog_2_method_1_code, 1, none) := rfl
theorem en_mo_4 : en_mo[4]? = some 0 := rfl
theorem en_mt_9 : en_ms[9]? = some (yX5_init, prog_7_method_1_code, 1, none) := rfl
theorem en_mo_9 : en_mo[9]? = some 5 := rfl
theorem dw_47 : decode prog_2_method_1_code 47 = .ok (.ldc 27, 2) := by decide +kernel
theorem dw_49 : decode prog_2_method_1_code 49 = .ok (.invokevirtual 29, 3) := by decide +kernel
set_option maxHeartbeats 4000000 in
theorem en_lawmake (l : Launch) {κ : en_K} {L : en_L} {S : List en_V} {T : en_T} {cs sl : Nat} (hm : κ.1 = 4) (hc : (decide (κ.2.1.length ≤ 1) && (decide (2 ≤ k_fr κ) && (decide (40 ≤ k_lo κ) && (decide (S.length ≤ 8) && (decide (cs ≤ k_mc κ) && decide (sl ≤ k_ms κ)))))) = true)
    (h1 : en_chk 0 prog_2_method_1_code [] (k_fr κ, k_lo κ, k_mc κ, k_ms κ) true none (k_rv κ) (k_T1 κ) [(47, L, S, T, cs, sl)] 100 (en_start κ 1) = true)
    (h2 : en_chk 0 prog_2_method_1_code [] (k_fr κ, k_lo κ, k_mc κ, k_ms κ) true none (k_rv κ) (k_T1 κ) [] 100 (52, L, .inl (7, 7) :: S, T, cs, sl) = true) : en_ok l κ := by
  simp only [Bool.and_eq_true, decide_eq_true_eq] at hc
  obtain ⟨c1, c2, c3, c4, c5, c6⟩ := hc
  refine en_ok_of (r := (yX0_init, prog_2_method_1_code, 1, none)) (o := 0) (by rw [hm]; exact en_mt_4) (by rw [hm]; exact en_mo_4) (by decide) c1 ?_
  intro p e s m args below meth c D tys aK aV b0 ad C hret hnm
  have hK0 : ∀ κ' ∈ ([] : List en_K), en_ok l κ' := fun _ h => absurd h List.not_mem_nil
  have k2 := en_chk_ok (Q := MQ below (en_qc D tys b0 (k_T0 κ).length ad (k_rv κ) (k_T1 κ)) args s (k_mc κ) (k_ms κ) (fun q => b0 ≤ q)) (R := en_rm κ) (p := p) (l := l) (e := e) (below := below) C hK0 ⟨rfl, rfl, rfl, rfl⟩ (fun _ => hnm) hret rfl (fun x hx => absurd hx List.not_mem_nil) 100 _ h2
  refine en_chk_ok (R := en_rm κ) C hK0 ⟨rfl, rfl, rfl, rfl⟩ (fun _ => hnm) hret rfl (fun x hx => ?_) 100 _ h1
  rw [List.mem_singleton.mp hx]
  intro H locs ls stk ad1 hh
  dsimp only at hh
  obtain ⟨hl, hn0, hs, hW, hS, hr, hr2⟩ := hh
  have hX := C.2.2.2.2.2.2.2.2.1
  have hts := C.2.2.2.2.1
  have hb0 := C.2.2.2.2.2.2.2.1
  have hsz := hS.1
  refine va_ldcS C.1 C.2.1 C.2.2.2.1 hX.2.1 dw_47 ?_
  have hB := callB_of (own := en_nm 0) (index := 29) (R := en_rm κ) (rm := { frames := 1, cells := 0, slots := 0, locals := 20 }) (mc := 0) (ms := 0) 0 hts (en_consG en_str_l) rfl rfl rfl (hts _ (en_str_q (w := .initialized yJ0_length_8abf5.cls) 0 rfl)) (hts _ (en_str_q 1 rfl)) (by decide +kernel) ⟨c2, c3⟩
  refine va_calli (a := #[Value.ref aK]) (va_runV (C := "java/lang/String") (As := []) (rest := stk) ⟨C.1, C.2.1, C.2.2.1, C.2.2.2.1, hts⟩ (en_slen l H.size aK aV) ⟨hB, hts _ (en_str_q 2 rfl), hts _ (en_str_q 3 rfl)⟩ ⟨fun a U g mk q => ⟨q.1, q.2.1, q.2.2.call⟩, vk_recv (i := 0) hX.2.2.1 Nat.zero_lt_one hS, fun U hU hW => ⟨rfl, by rw [hU]; exact Nat.le_refl _, hX.go (Nat.le_trans hb0 hsz) hS hU hW⟩⟩ rfl rfl hl.1 rfl (lv_room (by rw [en_vs_cat hs]; exact c4)) dw_49 ⟨c5, c6⟩) hS (fun q h1 h2 => absurd h2 (by omega)) (fun q (h : H.size ≤ q) => by show b0 ≤ q; omega) (fun r u t H1 locs1 ht hvm hpost hB hsz1 hfr hS1 => ?_)
  subst hpost
  exact k2 H1 locs1 ls (.int 7 :: stk) ad1 ⟨hl, hn0, ⟨⟨7, rfl, by decide, by decide⟩, hs⟩, hW.kept (fun q hq => hfr q hq (by omega)), hS1, hr, hr2⟩
theorem dr_8 : decode prog_7_method_1_code 8 = .ok (.multianewarray 9 2, 4) := by decide +kernel
theorem en_rows_in : ∀ w ∈ ([.classLink "LoadsAhead$Rows" 9 "[[I", .arrayOver (.array .int)] : List Cond), w ∈ lw_tbl := by
  have h : ([.classLink "LoadsAhead$Rows" 9 "[[I", .arrayOver (.array .int)] : List Cond) = ([438, 439] : List Nat).filterMap (fun i => lw_tbl[i]?) := by decide +kernel
  intro w hw
  rw [h] at hw
  obtain ⟨i, -, hi⟩ := List.mem_filterMap.mp hw
  exact List.mem_of_getElem? hi
