def en_sw : List Cond := [.initialized "java/lang/String", .initialized "java/lang/StringLatin1", .methodLink "LoadsAhead$Law" 119 yJ0_indexOf_0f7a4, .methodLink "java/lang/String" 633 yJ0_indexOf_7cf53, .methodLink "java/lang/String" 492 yJ0_isLatin1_aae02, .methodLink "java/lang/String" 505 yJ0_length_8abf5, .methodLink "java/lang/String" 335 yJ0_coder_7d493, .methodLink "java/lang/String" 637 yJ1_indexOf_4cfef, .methodLink "java/lang/StringLatin1" 88 yJ1_canEncode_9a6ad, .methodLink "java/lang/StringLatin1" 95 yJ1_indexOfChar_4cfef, .instanceMethod yJ0_indexOf_0f7a4, .selects "java/lang/String" yJ0_indexOf_0f7a4 yJ0_indexOf_0f7a4, .instanceMethod yJ0_indexOf_7cf53, .selects "java/lang/String" yJ0_indexOf_7cf53 yJ0_indexOf_7cf53, .instanceMethod yJ0_isLatin1_aae02, .selects "java/lang/String" yJ0_isLatin1_aae02 yJ0_isLatin1_aae02, .instanceMethod yJ0_length_8abf5, .selects "java/lang/String" yJ0_length_8abf5 yJ0_length_8abf5, .instanceMethod yJ0_coder_7d493, .selects "java/lang/String" yJ0_coder_7d493 yJ0_coder_7d493, .static yJ1_indexOf_4cfef, .static yJ1_canEncode_9a6ad, .static yJ1_indexOfChar_4cfef, .methodLink "java/lang/StringLatin1" 92 Lib.Math.max.name, .methodLink "java/lang/StringLatin1" 38 Lib.Math.min.name, .static Lib.Math.max.name, .static Lib.Math.min.name, .initialized "java/lang/Math", .fieldLink "java/lang/String" 38 "java/lang/String" "COMPACT_STRINGS" "Z", .fieldLink "java/lang/String" 9 "java/lang/String" "value" "[B", .fieldLink "java/lang/String" 15 "java/lang/String" "coder" "B"]
set_option maxRecDepth 100000 in
theorem en_sw_in : ∀ w ∈ en_sw, w ∈ en_ws := fun w h => by
  have hg := goodIn_r (big := lw_tbl) en_sw [121, 129, 567, 571, 575, 579, 252, 580, 583, 590, 568, 569, 572, 573, 576, 577, 249, 250, 253, 254, 581, 584, 591, 586, 589, 587, 511, 128, 256, 1798, 1799] (by decide +kernel) (by decide +kernel) w h
  exact en_ws_in hg.1 (by
    have : en_sw.all goodWord = true := by decide +kernel
    exact List.all_eq_true.mp this w h)
theorem en_sq {w : Cond} (i : Nat) (h : en_sw[i]? = some w) : w ∈ en_ws := en_sw_in w (List.mem_of_getElem? h)
theorem en_c_ix1 : Cond.code yJ0_indexOf_0f7a4 cJ0_indexOf_0f7a4 2 (some .int) ∈ en_ws := en_ws_in (en_sub_2 _ (List.mem_of_getElem? (i := 215) rfl)) rfl
theorem en_c_ix2 : Cond.code yJ0_indexOf_7cf53 cJ0_indexOf_7cf53 3 (some .int) ∈ en_ws := en_ws_in (en_sub_2 _ (List.mem_of_getElem? (i := 219) rfl)) rfl
theorem en_c_lat : Cond.code yJ0_isLatin1_aae02 cJ0_isLatin1_aae02 1 (some .boolean) ∈ en_ws := en_ws_in (en_sub_2 _ (List.mem_of_getElem? (i := 223) rfl)) rfl
theorem en_c_len : Cond.code yJ0_length_8abf5 cJ0_length_8abf5 1 (some .int) ∈ en_ws := en_ws_in (en_sub_1 _ (List.mem_of_getElem? (i := 136) rfl)) rfl
theorem en_c_cod : Cond.code yJ0_coder_7d493 cJ0_coder_7d493 1 (some .byte) ∈ en_ws := en_ws_in (en_sub_1 _ (List.mem_of_getElem? (i := 140) rfl)) rfl
theorem en_c_lix : Cond.code yJ1_indexOf_4cfef cJ1_indexOf_4cfef 4 (some .int) ∈ en_ws := en_ws_in (en_sub_2 _ (List.mem_of_getElem? (i := 227) rfl)) rfl
theorem en_c_can : Cond.code yJ1_canEncode_9a6ad cJ1_canEncode_9a6ad 1 (some .boolean) ∈ en_ws := en_ws_in (en_sub_2 _ (List.mem_of_getElem? (i := 230) rfl)) rfl
theorem en_c_chr : Cond.code yJ1_indexOfChar_4cfef cJ1_indexOfChar_4cfef 6 (some .int) ∈ en_ws := en_ws_in (en_sub_2 _ (List.mem_of_getElem? (i := 237) rfl)) rfl
theorem en_consG {w : Cond} (h : w ∈ en_ws) : GoodIn en_ws (w :: en_ws) := by
  intro w' hw
  rcases List.mem_cons.mp hw with rfl | hw
  · exact ⟨h, good_of_word (List.mem_filter.mp h).2⟩
  · exact ⟨hw, good_of_word (List.mem_filter.mp hw).2⟩
set_option maxHeartbeats 4000000 in
theorem en_coder (l : Launch) (b0 aK aV : Nat) : Met l yJ0_coder_7d493 (Cond.code yJ0_coder_7d493 cJ0_coder_7d493 1 (some .byte) :: en_ws) ({ frames := 0, cells := 0, slots := 0, locals := 0 }) (va_Pc [.ref aK] (fun U => b0 ≤ U.heap.size ∧ en_X b0 aK aV U)) (va_Qi (S := Unit) (fun r _ => r = 0) (fun _ _ => True) (fun q => b0 ≤ q)) 0 0 (fun q => b0 ≤ q) := by
  refine Met.ofW (cc := cJ0_coder_7d493) (maxL := 1) (ret := some .byte) (by decide) rfl ?_
  intro p e s m args below meth c s₁ B hml hv
  obtain ⟨rfl, hsz, hX⟩ := hv
  have hx := B.exec
  have hb := B.bytes
  have hr := B.returns
  have hts0 := atoms_spec (ws := Cond.code yJ0_coder_7d493 cJ0_coder_7d493 1 (some .byte) :: en_ws) B.pre
  have hts : ∀ w ∈ en_ws, w.before #[.ref aK] s = true := fun w hw => hts0 w (List.mem_cons_of_mem _ hw)
  have hown : s.vm.findClass "java/lang/String" = some m.cls := findClass_of_methodNamed B.named
  have hlocks := B.notSynchronized
  have hS : va_S (fun q => b0 ≤ q) s.heap s.heap [] := va_S.rf
  have hl := lv_entry ([.ref aK]) (n := 1) (Nat.le_of_ble_eq_true rfl)
  rw [lg_entry_eq]
  generalize (lg_sl ([.ref aK]) ++ List.replicate (1 - (lg_sl ([.ref aK])).length) Slot.unset).toArray = ls at hl ⊢
  have hE := hX.2.2.1.1 0 (by decide)
  have hl : lv_has ls 1 [(0, .ref aK)] := hl
  refine va_gets hx hb hX.2.2.2.1 hS hown (hts _ (en_sq 28 rfl)) (fun x h => h) (by decide +kernel : decode cJ0_coder_7d493 0 = .ok (.getstatic 38, 3)) ?_
  refine lv_if_eq (tgt := 13) hx hb (by decide +kernel : decode cJ0_coder_7d493 3 = .ok (.ifCond .eq 10, 3)) (by decide) (fun h => absurd h (by decide)) (fun _ => ?_)
  refine lv_aload_n hx hb (by decide +kernel : decode cJ0_coder_7d493 6 = .ok (.aload_n 0, 1)) rfl (lv_at hl 0 rfl) ?_
  refine vk_getf hx hb hE.2.1 hS hown (hts _ (en_sq 30 rfl)) (fun x h => h) (by decide +kernel : decode cJ0_coder_7d493 7 = .ok (.getfield 15, 3)) ?_
  refine lv_goto (tgt := 14) hx hb (by decide +kernel : decode cJ0_coder_7d493 10 = .ok (.goto 4, 3)) (by decide) ?_
  exact W.zret hx hb hr rfl (fun t ht _ => ⟨⟨0, (), rfl, rfl, trivial⟩, hS.F ht⟩) hS.2.2 (by decide +kernel : decode cJ0_coder_7d493 14 = .ok (.ireturn, 1))
set_option maxHeartbeats 4000000 in
theorem en_slen (l : Launch) (b0 aK aV : Nat) : Met l yJ0_length_8abf5 (Cond.code yJ0_length_8abf5 cJ0_length_8abf5 1 (some .int) :: en_ws) ({ frames := 1, cells := 0, slots := 0, locals := 20 }) (va_Pc [.ref aK] (fun U => b0 ≤ U.heap.size ∧ en_X b0 aK aV U)) (va_Qi (S := Unit) (fun r _ => r = 7) (fun _ _ => True) (fun q => b0 ≤ q)) 0 0 (fun q => b0 ≤ q) := by
  refine Met.ofW (cc := cJ0_length_8abf5) (maxL := 1) (ret := some .int) (by decide) rfl ?_
  intro p e s m args below meth c s₁ B hml hv
  obtain ⟨rfl, hsz, hX⟩ := hv
  have hx := B.exec
  have hb := B.bytes
  have hr := B.returns
  have hts0 := atoms_spec (ws := Cond.code yJ0_length_8abf5 cJ0_length_8abf5 1 (some .int) :: en_ws) B.pre
  have hts : ∀ w ∈ en_ws, w.before #[.ref aK] s = true := fun w hw => hts0 w (List.mem_cons_of_mem _ hw)
  have hown : s.vm.findClass "java/lang/String" = some m.cls := findClass_of_methodNamed B.named
  have hlocks := B.notSynchronized
  have hS : va_S (fun q => b0 ≤ q) s.heap s.heap [] := va_S.rf
  have hl := lv_entry ([.ref aK]) (n := 1) (Nat.le_of_ble_eq_true rfl)
  rw [lg_entry_eq]
  generalize (lg_sl ([.ref aK]) ++ List.replicate (1 - (lg_sl ([.ref aK])).length) Slot.unset).toArray = ls at hl ⊢
  have hE := hX.2.2.1.1 0 (by decide)
  have hl : lv_has ls 1 [(0, .ref aK)] := hl
  refine lv_aload_n hx hb (by decide +kernel : decode cJ0_length_8abf5 0 = .ok (.aload_n 0, 1)) rfl (lv_at hl 0 rfl) ?_
  refine vk_getf hx hb hE.2.2.1 hS hown (hts _ (en_sq 29 rfl)) (fun x h => h) (by decide +kernel : decode cJ0_length_8abf5 1 = .ok (.getfield 9, 3)) ?_
  refine va_tlen hx hb hE.2.2.2 hS (v := 7) rfl (by decide +kernel : decode cJ0_length_8abf5 4 = .ok (.arraylength, 1)) ?_
  refine lv_aload_n hx hb (by decide +kernel : decode cJ0_length_8abf5 5 = .ok (.aload_n 0, 1)) rfl (lv_at hl 0 rfl) ?_
  have hB6 := callB_of (own := "java/lang/String") (index := 335) (R := { frames := 1, cells := 0, slots := 0, locals := 20 }) (rm := { frames := 0, cells := 0, slots := 0, locals := 0 }) (mc := 0) (ms := 0) 0 hts (en_consG en_c_cod) rfl rfl rfl (hts _ (en_sq 0 rfl)) (hts _ (en_sq 6 rfl)) (by decide +kernel) ⟨by decide, by decide⟩
  refine va_calli (a := #[Value.ref aK]) (va_runV (C := "java/lang/String") (As := []) (rest := [.int 7]) ⟨hx, hb, hml, hown, hts⟩ (en_coder l b0 aK aV) ⟨hB6, (hts _ (en_sq 18 rfl)), (hts _ (en_sq 19 rfl))⟩ ⟨fun a U g mk q => ⟨q.1, q.2.1, q.2.2.call⟩, vk_recv (i := 0) hX.2.2.1 Nat.zero_lt_one hS, fun U hU hW => ⟨rfl, by rw [hU]; exact hsz, hX.go (Nat.le_refl _) hS hU hW⟩⟩ rfl rfl hl.1 rfl (lv_room (Nat.le_of_ble_eq_true rfl)) (by decide +kernel : decode cJ0_length_8abf5 6 = .ok (.invokevirtual 335, 3)) ⟨by decide, by decide⟩) hS (fun q _ h => h) (fun q h => h) (fun r u t H1 locs1 ht hvm hpost hB hsz1 hfr hS => ?_)
  subst hpost
  refine lv_ishr hx hb (by decide +kernel : decode cJ0_length_8abf5 9 = .ok (.ishr, 1)) ?_
  exact W.iret hx hb hr (fun t ht _ => ⟨⟨_, (), rfl, by decide, trivial⟩, hS.F ht⟩) hS.2.2 (by decide +kernel : decode cJ0_length_8abf5 10 = .ok (.ireturn, 1))
set_option maxHeartbeats 4000000 in
theorem en_lat (l : Launch) (b0 aK aV : Nat) : Met l yJ0_isLatin1_aae02 (Cond.code yJ0_isLatin1_aae02 cJ0_isLatin1_aae02 1 (some .boolean) :: en_ws) ({ frames := 0, cells := 0, slots := 0, locals := 0 }) (va_Pc [.ref aK] (fun U => b0 ≤ U.heap.size ∧ en_X b0 aK aV U)) (va_Qi (S := Unit) (fun r _ => r = 1) (fun _ _ => True) (fun q => b0 ≤ q)) 0 0 (fun q => b0 ≤ q) := by
  refine Met.ofW (cc := cJ0_isLatin1_aae02) (maxL := 1) (ret := some .boolean) (by decide) rfl ?_
  intro p e s m args below meth c s₁ B hml hv
  obtain ⟨rfl, hsz, hX⟩ := hv
  have hx := B.exec
  have hb := B.bytes
  have hr := B.returns
  have hts0 := atoms_spec (ws := Cond.code yJ0_isLatin1_aae02 cJ0_isLatin1_aae02 1 (some .boolean) :: en_ws) B.pre
  have hts : ∀ w ∈ en_ws, w.before #[.ref aK] s = true := fun w hw => hts0 w (List.mem_cons_of_mem _ hw)
  have hown : s.vm.findClass "java/lang/String" = some m.cls := findClass_of_methodNamed B.named
  have hlocks := B.notSynchronized
  have hS : va_S (fun q => b0 ≤ q) s.heap s.heap [] := va_S.rf
  have hl := lv_entry ([.ref aK]) (n := 1) (Nat.le_of_ble_eq_true rfl)
  rw [lg_entry_eq]
  generalize (lg_sl ([.ref aK]) ++ List.replicate (1 - (lg_sl ([.ref aK])).length) Slot.unset).toArray = ls at hl ⊢
  have hE := hX.2.2.1.1 0 (by decide)
  have hl : lv_has ls 1 [(0, .ref aK)] := hl
  refine va_gets hx hb hX.2.2.2.1 hS hown (hts _ (en_sq 28 rfl)) (fun x h => h) (by decide +kernel : decode cJ0_isLatin1_aae02 0 = .ok (.getstatic 38, 3)) ?_
  refine lv_if_eq (tgt := 17) hx hb (by decide +kernel : decode cJ0_isLatin1_aae02 3 = .ok (.ifCond .eq 14, 3)) (by decide) (fun h => absurd h (by decide)) (fun _ => ?_)
  refine lv_aload_n hx hb (by decide +kernel : decode cJ0_isLatin1_aae02 6 = .ok (.aload_n 0, 1)) rfl (lv_at hl 0 rfl) ?_
  refine vk_getf hx hb hE.2.1 hS hown (hts _ (en_sq 30 rfl)) (fun x h => h) (by decide +kernel : decode cJ0_isLatin1_aae02 7 = .ok (.getfield 15, 3)) ?_
  refine lv_if_ne (tgt := 17) hx hb (by decide +kernel : decode cJ0_isLatin1_aae02 10 = .ok (.ifCond .ne 7, 3)) (by decide) (fun h => absurd rfl h) (fun _ => ?_)
  refine lv_iconst (v := 1) hx hb (by decide +kernel : decode cJ0_isLatin1_aae02 13 = .ok (.iconst 1, 1)) (by decide) ?_
  refine lv_goto (tgt := 18) hx hb (by decide +kernel : decode cJ0_isLatin1_aae02 14 = .ok (.goto 4, 3)) (by decide) ?_
  exact W.zret hx hb hr rfl (fun t ht _ => ⟨⟨1, (), rfl, rfl, trivial⟩, hS.F ht⟩) hS.2.2 (by decide +kernel : decode cJ0_isLatin1_aae02 18 = .ok (.ireturn, 1))
set_option maxHeartbeats 4000000 in
theorem en_can (l : Launch) (b0 aK aV : Nat) (ch : Int32) : Met l yJ1_canEncode_9a6ad (Cond.code yJ1_canEncode_9a6ad cJ1_canEncode_9a6ad 1 (some .boolean) :: en_ws) ({ frames := 0, cells := 0, slots := 0, locals := 0 }) (va_Pc [.int ch] (fun U => b0 ≤ U.heap.size ∧ en_X b0 aK aV U)) (va_Qi (S := Unit) (fun r _ => True) (fun _ _ => True) (fun q => b0 ≤ q)) 0 0 (fun q => b0 ≤ q) := by
  refine Met.ofW (cc := cJ1_canEncode_9a6ad) (maxL := 1) (ret := some .boolean) (by decide) rfl ?_
  intro p e s m args below meth c s₁ B hml hv
  obtain ⟨rfl, hsz, hX⟩ := hv
  have hx := B.exec
  have hb := B.bytes
  have hr := B.returns
  have hts0 := atoms_spec (ws := Cond.code yJ1_canEncode_9a6ad cJ1_canEncode_9a6ad 1 (some .boolean) :: en_ws) B.pre
  have hts : ∀ w ∈ en_ws, w.before #[.int ch] s = true := fun w hw => hts0 w (List.mem_cons_of_mem _ hw)
  have hown : s.vm.findClass "java/lang/StringLatin1" = some m.cls := findClass_of_methodNamed B.named
  have hlocks := B.notSynchronized
  have hS : va_S (fun q => b0 ≤ q) s.heap s.heap [] := va_S.rf
  have hl := lv_entry ([.int ch]) (n := 1) (Nat.le_of_ble_eq_true rfl)
  rw [lg_entry_eq]
  generalize (lg_sl ([.int ch]) ++ List.replicate (1 - (lg_sl ([.int ch])).length) Slot.unset).toArray = ls at hl ⊢
  have hE := hX.2.2.1.1 0 (by decide)
  have hl : lv_has ls 1 [(0, .int ch)] := hl
  have k0 : W p l e (headSpec (Cond.code yJ1_canEncode_9a6ad cJ1_canEncode_9a6ad 1 (some .boolean) :: en_ws) { frames := 0, cells := 0, slots := 0, locals := 0 }).room s m #[Value.int ch] below meth c s.heap [] 0 0 (MQ below (va_Qi (S := Unit) (fun r _ => True) (fun _ _ => True) (fun q => b0 ≤ q)) #[Value.int ch] s 0 0 (fun q => b0 ≤ q)) (F0 m 15 ls []) := by
    refine lv_iconst (v := 0) hx hb (by decide +kernel : decode cJ1_canEncode_9a6ad 15 = .ok (.iconst 0, 1)) (by decide) ?_
    exact W.zret hx hb hr rfl (fun t ht _ => ⟨⟨0, (), rfl, trivial, trivial⟩, hS.F ht⟩) hS.2.2 (by decide +kernel : decode cJ1_canEncode_9a6ad 16 = .ok (.ireturn, 1))
  refine lv_iload_n hx hb (by decide +kernel : decode cJ1_canEncode_9a6ad 0 = .ok (.iload_n 0, 1)) rfl (lv_at hl 0 rfl) ?_
  refine lv_if_lt (tgt := 15) hx hb (by decide +kernel : decode cJ1_canEncode_9a6ad 1 = .ok (.ifCond .lt 14, 3)) (by decide) (fun _ => k0) (fun _ => ?_)
  refine lv_iload_n hx hb (by decide +kernel : decode cJ1_canEncode_9a6ad 4 = .ok (.iload_n 0, 1)) rfl (lv_at hl 0 rfl) ?_
  refine lv_sipush (v := 255) hx hb (by decide +kernel : decode cJ1_canEncode_9a6ad 5 = .ok (.sipush 255, 3)) (by decide) ?_
  refine lv_icmp_gt (tgt := 15) hx hb (by decide +kernel : decode cJ1_canEncode_9a6ad 8 = .ok (.if_icmp .gt 7, 3)) (by decide) (fun _ => k0) (fun _ => ?_)
  refine lv_iconst (v := 1) hx hb (by decide +kernel : decode cJ1_canEncode_9a6ad 11 = .ok (.iconst 1, 1)) (by decide) ?_
  refine lv_goto (tgt := 16) hx hb (by decide +kernel : decode cJ1_canEncode_9a6ad 12 = .ok (.goto 4, 3)) (by decide) ?_
  exact W.zret hx hb hr rfl (fun t ht _ => ⟨⟨1, (), rfl, trivial, trivial⟩, hS.F ht⟩) hS.2.2 (by decide +kernel : decode cJ1_canEncode_9a6ad 16 = .ok (.ireturn, 1))
set_option maxHeartbeats 4000000 in
theorem en_chr (l : Launch) (b0 aK aV : Nat) (ch : Int32) : Met l yJ1_indexOfChar_4cfef (Cond.code yJ1_indexOfChar_4cfef cJ1_indexOfChar_4cfef 6 (some .int) :: en_ws) ({ frames := 0, cells := 0, slots := 0, locals := 0 }) (va_Pc [.ref aV, .int ch, .int 0, .int 7] (fun U => b0 ≤ U.heap.size ∧ en_X b0 aK aV U)) (va_Qi (S := Unit) (fun r _ => -1 ≤ r.toInt ∧ r.toInt ≤ 6) (fun _ _ => True) (fun q => b0 ≤ q)) 0 0 (fun q => b0 ≤ q) := by
  refine Met.ofW (cc := cJ1_indexOfChar_4cfef) (maxL := 6) (ret := some .int) (by decide) rfl ?_
  intro p e s m args below meth c s₁ B hml hv
  obtain ⟨rfl, hsz, hX⟩ := hv
  have hx := B.exec
  have hb := B.bytes
  have hr := B.returns
  have hts0 := atoms_spec (ws := Cond.code yJ1_indexOfChar_4cfef cJ1_indexOfChar_4cfef 6 (some .int) :: en_ws) B.pre
  have hts : ∀ w ∈ en_ws, w.before #[.ref aV, .int ch, .int 0, .int 7] s = true := fun w hw => hts0 w (List.mem_cons_of_mem _ hw)
  have hown : s.vm.findClass "java/lang/StringLatin1" = some m.cls := findClass_of_methodNamed B.named
  have hlocks := B.notSynchronized
  have hS : va_S (fun q => b0 ≤ q) s.heap s.heap [] := va_S.rf
  have hl := lv_entry ([.ref aV, .int ch, .int 0, .int 7]) (n := 6) (Nat.le_of_ble_eq_true rfl)
  rw [lg_entry_eq]
  generalize (lg_sl ([.ref aV, .int ch, .int 0, .int 7]) ++ List.replicate (6 - (lg_sl ([.ref aV, .int ch, .int 0, .int 7])).length) Slot.unset).toArray = ls at hl ⊢
  have hE := hX.2.2.1.1 0 (by decide)
  have hl : lv_has ls 6 [(0, .ref aV), (1, .int ch), (2, .int 0), (3, .int 7)] := hl
  have loop : ∀ (k i : Nat) (ls : Array Slot), i + k = 7 → lv_has ls 6 [(5, .int (nI i)), (4, .int ch.toInt8.toInt32), (0, .ref aV), (3, .int 7)] → W p l e (headSpec (Cond.code yJ1_indexOfChar_4cfef cJ1_indexOfChar_4cfef 6 (some .int) :: en_ws) { frames := 0, cells := 0, slots := 0, locals := 0 }).room s m #[Value.ref aV, .int ch, .int 0, .int 7] below meth c s.heap [] 0 0 (MQ below (va_Qi (S := Unit) (fun r _ => -1 ≤ r.toInt ∧ r.toInt ≤ 6) (fun _ _ => True) (fun q => b0 ≤ q)) #[Value.ref aV, .int ch, .int 0, .int 7] s 0 0 (fun q => b0 ≤ q)) (F0 m 7 ls []) := by
    intro k
    induction k with
    | zero =>
      intro i ls hi hl
      have e : i = 7 := by omega
      subst e
      refine lv_iload hx hb (by decide +kernel : decode cJ1_indexOfChar_4cfef 7 = .ok (.iload 5, 2)) (lv_at hl 0 rfl) ?_
      refine lv_iload_n hx hb (by decide +kernel : decode cJ1_indexOfChar_4cfef 9 = .ok (.iload_n 3, 1)) rfl (lv_at hl 3 rfl) ?_
      refine lv_icmp_ge (tgt := 31) hx hb (by decide +kernel : decode cJ1_indexOfChar_4cfef 10 = .ok (.if_icmp .ge 21, 3)) (by decide) (fun _ => ?_) (fun h => absurd (by decide) h)
      refine lv_iconst (v := -1) hx hb (by decide +kernel : decode cJ1_indexOfChar_4cfef 31 = .ok (.iconst (-1), 1)) (by decide) ?_
      exact W.iret hx hb hr (fun t ht _ => ⟨⟨-1, (), rfl, by decide, trivial⟩, hS.F ht⟩) hS.2.2 (by decide +kernel : decode cJ1_indexOfChar_4cfef 32 = .ok (.ireturn, 1))
    | succ k ih =>
      intro i ls hi hl
      refine lv_iload hx hb (by decide +kernel : decode cJ1_indexOfChar_4cfef 7 = .ok (.iload 5, 2)) (lv_at hl 0 rfl) ?_
      refine lv_iload_n hx hb (by decide +kernel : decode cJ1_indexOfChar_4cfef 9 = .ok (.iload_n 3, 1)) rfl (lv_at hl 3 rfl) ?_
      refine lv_icmp_ge (tgt := 31) hx hb (by decide +kernel : decode cJ1_indexOfChar_4cfef 10 = .ok (.if_icmp .ge 21, 3)) (by decide) (fun h => absurd h (nI_ge (a := i) (b := 7) (by omega) (by decide))) (fun _ => ?_)
      refine lv_aload_n hx hb (by decide +kernel : decode cJ1_indexOfChar_4cfef 13 = .ok (.aload_n 0, 1)) rfl (lv_at hl 2 rfl) ?_
      refine lv_iload hx hb (by decide +kernel : decode cJ1_indexOfChar_4cfef 14 = .ok (.iload 5, 2)) (lv_at hl 0 rfl) ?_
      refine va_tb hx hb hE.2.2.2 hS (vp_in_nI (by show i < 7; omega) (by decide)) rfl (by decide +kernel : decode cJ1_indexOfChar_4cfef 16 = .ok (.baload, 1)) ?_
      refine lv_iload hx hb (by decide +kernel : decode cJ1_indexOfChar_4cfef 17 = .ok (.iload 4, 2)) (lv_at hl 1 rfl) ?_
      refine lv_icmp_ne (tgt := 25) hx hb (by decide +kernel : decode cJ1_indexOfChar_4cfef 19 = .ok (.if_icmp .ne 6, 3)) (by decide) (fun _ => ?_) (fun _ => ?_)
      · refine lv_iinc (v := nI (i + 1)) (k := 0) (lv' := [(5, .int (nI (i + 1))), (4, .int ch.toInt8.toInt32), (0, .ref aV), (3, .int 7)]) hx hb (by decide +kernel : decode cJ1_indexOfChar_4cfef 25 = .ok (.iinc 5 1, 3)) hl rfl (by rw [nI_succ]; rfl) (by decide) rfl (fun ls hl => ?_)
        refine lv_goto (tgt := 7) hx hb (by decide +kernel : decode cJ1_indexOfChar_4cfef 28 = .ok (.goto (-21), 3)) (by decide) ?_
        exact ih (i + 1) ls (by omega) hl
      · refine lv_iload hx hb (by decide +kernel : decode cJ1_indexOfChar_4cfef 22 = .ok (.iload 5, 2)) (lv_at hl 0 rfl) ?_
        refine W.iret hx hb hr (fun t ht _ => ⟨⟨_, (), rfl, ?_, trivial⟩, hS.F ht⟩) hS.2.2 (by decide +kernel : decode cJ1_indexOfChar_4cfef 24 = .ok (.ireturn, 1))
        show -1 ≤ (nI i).toInt ∧ (nI i).toInt ≤ 6
        rw [nI_toInt (by omega)]
        omega
  refine lv_iload_n hx hb (by decide +kernel : decode cJ1_indexOfChar_4cfef 0 = .ok (.iload_n 1, 1)) rfl (lv_at hl 1 rfl) ?_
  refine lv_i2b hx hb (by decide +kernel : decode cJ1_indexOfChar_4cfef 1 = .ok (.i2b, 1)) rfl ?_
  refine lv_istore (lv' := [(4, .int ch.toInt8.toInt32), (0, .ref aV), (1, .int ch), (2, .int 0), (3, .int 7)]) hx hb (by decide +kernel : decode cJ1_indexOfChar_4cfef 2 = .ok (.istore 4, 2)) hl (by decide) rfl (fun ls hl => ?_)
  refine lv_iload_n hx hb (by decide +kernel : decode cJ1_indexOfChar_4cfef 4 = .ok (.iload_n 2, 1)) rfl (lv_at hl 3 rfl) ?_
  refine lv_istore (lv' := [(5, .int (nI 0)), (4, .int ch.toInt8.toInt32), (0, .ref aV), (1, .int ch), (2, .int 0), (3, .int 7)]) hx hb (by decide +kernel : decode cJ1_indexOfChar_4cfef 5 = .ok (.istore 5, 2)) hl (by decide) rfl (fun ls hl => ?_)
  exact loop 7 0 ls rfl (lv_sub hl [0, 1, 2, 5] rfl)
set_option maxHeartbeats 4000000 in
theorem en_lix (l : Launch) (b0 aK aV : Nat) (ch : Int32) : Met l yJ1_indexOf_4cfef (Cond.code yJ1_indexOf_4cfef cJ1_indexOf_4cfef 4 (some .int) :: en_ws) ({ frames := 1, cells := 0, slots := 0, locals := 40 }) (va_Pc [.ref aV, .int ch, .int 0, .int 7] (fun U => b0 ≤ U.heap.size ∧ en_X b0 aK aV U)) (va_Qi (S := Unit) (fun r _ => -1 ≤ r.toInt ∧ r.toInt ≤ 6) (fun _ _ => True) (fun q => b0 ≤ q)) 0 0 (fun q => b0 ≤ q) := by
  refine Met.ofW (cc := cJ1_indexOf_4cfef) (maxL := 4) (ret := some .int) (by decide) rfl ?_
  intro p e s m args below meth c s₁ B hml hv
  obtain ⟨rfl, hsz, hX⟩ := hv
  have hx := B.exec
  have hb := B.bytes
  have hr := B.returns
  have hts0 := atoms_spec (ws := Cond.code yJ1_indexOf_4cfef cJ1_indexOf_4cfef 4 (some .int) :: en_ws) B.pre
  have hts : ∀ w ∈ en_ws, w.before #[.ref aV, .int ch, .int 0, .int 7] s = true := fun w hw => hts0 w (List.mem_cons_of_mem _ hw)
  have hown : s.vm.findClass "java/lang/StringLatin1" = some m.cls := findClass_of_methodNamed B.named
  have hlocks := B.notSynchronized
  have hS : va_S (fun q => b0 ≤ q) s.heap s.heap [] := va_S.rf
  have hl := lv_entry ([.ref aV, .int ch, .int 0, .int 7]) (n := 4) (Nat.le_of_ble_eq_true rfl)
  rw [lg_entry_eq]
  generalize (lg_sl ([.ref aV, .int ch, .int 0, .int 7]) ++ List.replicate (4 - (lg_sl ([.ref aV, .int ch, .int 0, .int 7])).length) Slot.unset).toArray = ls at hl ⊢
  have hE := hX.2.2.1.1 0 (by decide)
  have hl : lv_has ls 4 [(0, .ref aV), (1, .int ch), (2, .int 0), (3, .int 7)] := hl
  refine lv_iload_n hx hb (by decide +kernel : decode cJ1_indexOf_4cfef 0 = .ok (.iload_n 1, 1)) rfl (lv_at hl 1 rfl) ?_
  have hB1 := callB_of (own := "java/lang/StringLatin1") (index := 88) (R := { frames := 1, cells := 0, slots := 0, locals := 40 }) (rm := { frames := 0, cells := 0, slots := 0, locals := 0 }) (mc := 0) (ms := 0) 1 hts (en_consG en_c_can) rfl rfl rfl (hts _ (en_sq 1 rfl)) (hts _ (en_sq 8 rfl)) (by decide +kernel) ⟨by decide, by decide⟩
  refine va_calli (a := #[.int ch]) (va_runS (As := [.int ch]) (rest := []) ⟨hx, hb, hml, hown, hts⟩ (en_can l b0 aK aV ch) ⟨hB1, (hts _ (en_sq 21 rfl))⟩ ⟨fun a U g mk q => ⟨q.1, q.2.1, q.2.2.call⟩, fun U hU hW => ⟨rfl, by rw [hU]; exact hsz, hX.go (Nat.le_refl _) hS hU hW⟩⟩ rfl rfl hl.1 rfl (lv_room (Nat.le_of_ble_eq_true rfl)) (by decide +kernel : decode cJ1_indexOf_4cfef 1 = .ok (.invokestatic 88, 3)) ⟨by decide, by decide⟩) hS (fun q _ h => h) (fun q h => h) (fun r u t H1 locs1 ht hvm hpost hB hsz1 hfr hS => ?_)
  have hT := hE.2.2.2
  refine lv_if_ne (tgt := 9) hx hb (by decide +kernel : decode cJ1_indexOf_4cfef 4 = .ok (.ifCond .ne 5, 3)) (by decide) (fun _ => ?_) (fun _ => ?_)
  · refine lv_iload_n hx hb (by decide +kernel : decode cJ1_indexOf_4cfef 9 = .ok (.iload_n 2, 1)) rfl (lv_at hl 2 rfl) ?_
    refine lv_iconst (v := 0) hx hb (by decide +kernel : decode cJ1_indexOf_4cfef 10 = .ok (.iconst 0, 1)) (by decide) ?_
    refine va_mmax hx hb (hml.trans hl.1.symm) hown (hts _ (en_sq 23 rfl)) (hts _ (en_sq 25 rfl)) (hts _ (en_sq 27 rfl)) (hts _ (en_codeW en_mt_30)) (by decide) (by decide) (Nat.zero_le _) (Nat.zero_le _) (by decide +kernel : decode cJ1_indexOf_4cfef 11 = .ok (.invokestatic 92, 3)) ?_
    rw [if_neg (by decide)]
    refine lv_istore_n (lv' := [(2, .int 0), (0, .ref aV), (1, .int ch), (3, .int 7)]) hx hb (by decide +kernel : decode cJ1_indexOf_4cfef 14 = .ok (.istore_n 2, 1)) rfl hl (by decide) rfl (fun ls hl => ?_)
    refine lv_iload_n hx hb (by decide +kernel : decode cJ1_indexOf_4cfef 15 = .ok (.iload_n 3, 1)) rfl (lv_at hl 3 rfl) ?_
    refine lv_aload_n hx hb (by decide +kernel : decode cJ1_indexOf_4cfef 16 = .ok (.aload_n 0, 1)) rfl (lv_at hl 1 rfl) ?_
    refine va_tlen hx hb hT hS (v := 7) rfl (by decide +kernel : decode cJ1_indexOf_4cfef 17 = .ok (.arraylength, 1)) ?_
    refine va_mmin hx hb (hml.trans hl.1.symm) hown (hts _ (en_sq 24 rfl)) (hts _ (en_sq 26 rfl)) (hts _ (en_sq 27 rfl)) (hts _ (en_codeW en_mt_16)) (by decide) (by decide) (Nat.zero_le _) (Nat.zero_le _) (by decide +kernel : decode cJ1_indexOf_4cfef 18 = .ok (.invokestatic 38, 3)) ?_
    rw [if_neg (by decide)]
    refine lv_istore_n (lv' := [(3, .int 7), (2, .int 0), (0, .ref aV), (1, .int ch)]) hx hb (by decide +kernel : decode cJ1_indexOf_4cfef 21 = .ok (.istore_n 3, 1)) rfl hl (by decide) rfl (fun ls hl => ?_)
    refine lv_iload_n hx hb (by decide +kernel : decode cJ1_indexOf_4cfef 22 = .ok (.iload_n 2, 1)) rfl (lv_at hl 1 rfl) ?_
    refine lv_iload_n hx hb (by decide +kernel : decode cJ1_indexOf_4cfef 23 = .ok (.iload_n 3, 1)) rfl (lv_at hl 0 rfl) ?_
    refine lv_icmp_lt (tgt := 29) hx hb (by decide +kernel : decode cJ1_indexOf_4cfef 24 = .ok (.if_icmp .lt 5, 3)) (by decide) (fun _ => ?_) (fun h => absurd (by decide) h)
    refine lv_aload_n hx hb (by decide +kernel : decode cJ1_indexOf_4cfef 29 = .ok (.aload_n 0, 1)) rfl (lv_at hl 2 rfl) ?_
    refine lv_iload_n hx hb (by decide +kernel : decode cJ1_indexOf_4cfef 30 = .ok (.iload_n 1, 1)) rfl (lv_at hl 3 rfl) ?_
    refine lv_iload_n hx hb (by decide +kernel : decode cJ1_indexOf_4cfef 31 = .ok (.iload_n 2, 1)) rfl (lv_at hl 1 rfl) ?_
    refine lv_iload_n hx hb (by decide +kernel : decode cJ1_indexOf_4cfef 32 = .ok (.iload_n 3, 1)) rfl (lv_at hl 0 rfl) ?_
    have hB33 := callB_of (own := "java/lang/StringLatin1") (index := 95) (R := { frames := 1, cells := 0, slots := 0, locals := 40 }) (rm := { frames := 0, cells := 0, slots := 0, locals := 0 }) (mc := 0) (ms := 0) 4 hts (en_consG en_c_chr) rfl rfl rfl (hts _ (en_sq 1 rfl)) (hts _ (en_sq 9 rfl)) (by decide +kernel) ⟨by decide, by decide⟩
    refine va_calli (a := #[.ref aV, .int ch, .int 0, .int 7]) (va_runS (As := [.ref aV, .int ch, .int 0, .int 7]) (rest := []) ⟨hx, hb, hml, hown, hts⟩ (en_chr l b0 aK aV ch) ⟨hB33, (hts _ (en_sq 22 rfl))⟩ ⟨fun a U g mk q => ⟨q.1, q.2.1, q.2.2.call⟩, fun U hU hW => ⟨rfl, by rw [hU]; exact Nat.le_trans hsz hS.1, hX.go (Nat.le_refl _) hS hU hW⟩⟩ rfl rfl hl.1 rfl (lv_room (Nat.le_of_ble_eq_true rfl)) (by decide +kernel : decode cJ1_indexOf_4cfef 33 = .ok (.invokestatic 95, 3)) ⟨by decide, by decide⟩) hS (fun q _ h => h) (fun q h => h) (fun r u t H1 locs1 ht hvm hpost hB hsz1 hfr hS => ?_)
    exact W.iret hx hb hr (fun t ht _ => ⟨⟨r, (), rfl, hpost, trivial⟩, hS.F ht⟩) hS.2.2 (by decide +kernel : decode cJ1_indexOf_4cfef 36 = .ok (.ireturn, 1))
  · refine lv_iconst (v := -1) hx hb (by decide +kernel : decode cJ1_indexOf_4cfef 7 = .ok (.iconst (-1), 1)) (by decide) ?_
    exact W.iret hx hb hr (fun t ht _ => ⟨⟨-1, (), rfl, by decide, trivial⟩, hS.F ht⟩) hS.2.2 (by decide +kernel : decode cJ1_indexOf_4cfef 8 = .ok (.ireturn, 1))
set_option maxHeartbeats 4000000 in
theorem en_ix2 (l : Launch) (b0 aK aV : Nat) (ch : Int32) : Met l yJ0_indexOf_7cf53 (Cond.code yJ0_indexOf_7cf53 cJ0_indexOf_7cf53 3 (some .int) :: en_ws) ({ frames := 2, cells := 0, slots := 0, locals := 80 }) (va_Pc [.ref aK, .int ch, .int 0] (fun U => b0 ≤ U.heap.size ∧ en_X b0 aK aV U)) (va_Qi (S := Unit) (fun r _ => -1 ≤ r.toInt ∧ r.toInt ≤ 6) (fun _ _ => True) (fun q => b0 ≤ q)) 0 0 (fun q => b0 ≤ q) := by
  refine Met.ofW (cc := cJ0_indexOf_7cf53) (maxL := 3) (ret := some .int) (by decide) rfl ?_
  intro p e s m args below meth c s₁ B hml hv
  obtain ⟨rfl, hsz, hX⟩ := hv
  have hx := B.exec
  have hb := B.bytes
  have hr := B.returns
  have hts0 := atoms_spec (ws := Cond.code yJ0_indexOf_7cf53 cJ0_indexOf_7cf53 3 (some .int) :: en_ws) B.pre
  have hts : ∀ w ∈ en_ws, w.before #[.ref aK, .int ch, .int 0] s = true := fun w hw => hts0 w (List.mem_cons_of_mem _ hw)
  have hown : s.vm.findClass "java/lang/String" = some m.cls := findClass_of_methodNamed B.named
  have hlocks := B.notSynchronized
  have hS : va_S (fun q => b0 ≤ q) s.heap s.heap [] := va_S.rf
  have hl := lv_entry ([.ref aK, .int ch, .int 0]) (n := 3) (Nat.le_of_ble_eq_true rfl)
  rw [lg_entry_eq]
  generalize (lg_sl ([.ref aK, .int ch, .int 0]) ++ List.replicate (3 - (lg_sl ([.ref aK, .int ch, .int 0])).length) Slot.unset).toArray = ls at hl ⊢
  have hE := hX.2.2.1.1 0 (by decide)
  have hl : lv_has ls 3 [(0, .ref aK), (1, .int ch), (2, .int 0)] := hl
  refine lv_aload_n hx hb (by decide +kernel : decode cJ0_indexOf_7cf53 0 = .ok (.aload_n 0, 1)) rfl (lv_at hl 0 rfl) ?_
  have hB1 := callB_of (own := "java/lang/String") (index := 492) (R := { frames := 2, cells := 0, slots := 0, locals := 80 }) (rm := { frames := 0, cells := 0, slots := 0, locals := 0 }) (mc := 0) (ms := 0) 0 hts (en_consG en_c_lat) rfl rfl rfl (hts _ (en_sq 0 rfl)) (hts _ (en_sq 4 rfl)) (by decide +kernel) ⟨by decide, by decide⟩
  refine va_calli (a := #[Value.ref aK]) (va_runV (C := "java/lang/String") (As := []) (rest := []) ⟨hx, hb, hml, hown, hts⟩ (en_lat l b0 aK aV) ⟨hB1, (hts _ (en_sq 14 rfl)), (hts _ (en_sq 15 rfl))⟩ ⟨fun a U g mk q => ⟨q.1, q.2.1, q.2.2.call⟩, vk_recv (i := 0) hX.2.2.1 Nat.zero_lt_one hS, fun U hU hW => ⟨rfl, by rw [hU]; exact hsz, hX.go (Nat.le_refl _) hS hU hW⟩⟩ rfl rfl hl.1 rfl (lv_room (Nat.le_of_ble_eq_true rfl)) (by decide +kernel : decode cJ0_indexOf_7cf53 1 = .ok (.invokevirtual 492, 3)) ⟨by decide, by decide⟩) hS (fun q _ h => h) (fun q h => h) (fun r u t H1 locs1 ht hvm hpost hB hsz1 hfr hS => ?_)
  subst hpost
  refine lv_if_eq (tgt := 23) hx hb (by decide +kernel : decode cJ0_indexOf_7cf53 4 = .ok (.ifCond .eq 19, 3)) (by decide) (fun h => absurd h (by decide)) (fun _ => ?_)
  refine lv_aload_n hx hb (by decide +kernel : decode cJ0_indexOf_7cf53 7 = .ok (.aload_n 0, 1)) rfl (lv_at hl 0 rfl) ?_
  refine vk_getf hx hb hE.2.2.1 hS hown (hts _ (en_sq 29 rfl)) (fun x h => h) (by decide +kernel : decode cJ0_indexOf_7cf53 8 = .ok (.getfield 9, 3)) ?_
  refine lv_iload_n hx hb (by decide +kernel : decode cJ0_indexOf_7cf53 11 = .ok (.iload_n 1, 1)) rfl (lv_at hl 1 rfl) ?_
  refine lv_iload_n hx hb (by decide +kernel : decode cJ0_indexOf_7cf53 12 = .ok (.iload_n 2, 1)) rfl (lv_at hl 2 rfl) ?_
  refine lv_aload_n hx hb (by decide +kernel : decode cJ0_indexOf_7cf53 13 = .ok (.aload_n 0, 1)) rfl (lv_at hl 0 rfl) ?_
  have hB14 := callB_of (own := "java/lang/String") (index := 505) (R := { frames := 2, cells := 0, slots := 0, locals := 80 }) (rm := { frames := 1, cells := 0, slots := 0, locals := 20 }) (mc := 0) (ms := 0) 0 hts (en_consG en_c_len) rfl rfl rfl (hts _ (en_sq 0 rfl)) (hts _ (en_sq 5 rfl)) (by decide +kernel) ⟨by decide, by decide⟩
  refine va_calli (a := #[Value.ref aK]) (va_runV (C := "java/lang/String") (As := []) (rest := [.int 0, .int ch, .ref aV]) ⟨hx, hb, hml, hown, hts⟩ (en_slen l b0 aK aV) ⟨hB14, (hts _ (en_sq 16 rfl)), (hts _ (en_sq 17 rfl))⟩ ⟨fun a U g mk q => ⟨q.1, q.2.1, q.2.2.call⟩, vk_recv (i := 0) hX.2.2.1 Nat.zero_lt_one hS, fun U hU hW => ⟨rfl, by rw [hU]; exact Nat.le_trans hsz hS.1, hX.go (Nat.le_refl _) hS hU hW⟩⟩ rfl rfl hl.1 rfl (lv_room (Nat.le_of_ble_eq_true rfl)) (by decide +kernel : decode cJ0_indexOf_7cf53 14 = .ok (.invokevirtual 505, 3)) ⟨by decide, by decide⟩) hS (fun q _ h => h) (fun q h => h) (fun r u t H1 locs1 ht hvm hpost hB hsz1 hfr hS => ?_)
  subst hpost
  have hB17 := callB_of (own := "java/lang/String") (index := 637) (R := { frames := 2, cells := 0, slots := 0, locals := 80 }) (rm := { frames := 1, cells := 0, slots := 0, locals := 40 }) (mc := 0) (ms := 0) 4 hts (en_consG en_c_lix) rfl rfl rfl (hts _ (en_sq 1 rfl)) (hts _ (en_sq 7 rfl)) (by decide +kernel) ⟨by decide, by decide⟩
  refine va_calli (a := #[.ref aV, .int ch, .int 0, .int 7]) (va_runS (As := [.ref aV, .int ch, .int 0, .int 7]) (rest := []) ⟨hx, hb, hml, hown, hts⟩ (en_lix l b0 aK aV ch) ⟨hB17, (hts _ (en_sq 20 rfl))⟩ ⟨fun a U g mk q => ⟨q.1, q.2.1, q.2.2.call⟩, fun U hU hW => ⟨rfl, by rw [hU]; exact Nat.le_trans hsz hS.1, hX.go (Nat.le_refl _) hS hU hW⟩⟩ rfl rfl hl.1 rfl (lv_room (Nat.le_of_ble_eq_true rfl)) (by decide +kernel : decode cJ0_indexOf_7cf53 17 = .ok (.invokestatic 637, 3)) ⟨by decide, by decide⟩) hS (fun q _ h => h) (fun q h => h) (fun r u t H1 locs1 ht hvm hpost hB hsz1 hfr hS => ?_)
  refine lv_goto (tgt := 36) hx hb (by decide +kernel : decode cJ0_indexOf_7cf53 20 = .ok (.goto 16, 3)) (by decide) ?_
  exact W.iret hx hb hr (fun t ht _ => ⟨⟨r, (), rfl, hpost, trivial⟩, hS.F ht⟩) hS.2.2 (by decide +kernel : decode cJ0_indexOf_7cf53 36 = .ok (.ireturn, 1))
set_option maxHeartbeats 4000000 in
theorem en_ix1 (l : Launch) (b0 aK aV : Nat) (ch : Int32) : Met l yJ0_indexOf_0f7a4 (Cond.code yJ0_indexOf_0f7a4 cJ0_indexOf_0f7a4 2 (some .int) :: en_ws) ({ frames := 3, cells := 0, slots := 0, locals := 110 }) (va_Pc [.ref aK, .int ch] (fun U => b0 ≤ U.heap.size ∧ en_X b0 aK aV U)) (va_Qi (S := Unit) (fun r _ => -1 ≤ r.toInt ∧ r.toInt ≤ 6) (fun _ _ => True) (fun q => b0 ≤ q)) 0 0 (fun q => b0 ≤ q) := by
  refine Met.ofW (cc := cJ0_indexOf_0f7a4) (maxL := 2) (ret := some .int) (by decide) rfl ?_
  intro p e s m args below meth c s₁ B hml hv
  obtain ⟨rfl, hsz, hX⟩ := hv
  have hx := B.exec
  have hb := B.bytes
  have hr := B.returns
  have hts0 := atoms_spec (ws := Cond.code yJ0_indexOf_0f7a4 cJ0_indexOf_0f7a4 2 (some .int) :: en_ws) B.pre
  have hts : ∀ w ∈ en_ws, w.before #[.ref aK, .int ch] s = true := fun w hw => hts0 w (List.mem_cons_of_mem _ hw)
  have hown : s.vm.findClass "java/lang/String" = some m.cls := findClass_of_methodNamed B.named
  have hlocks := B.notSynchronized
  have hS : va_S (fun q => b0 ≤ q) s.heap s.heap [] := va_S.rf
  have hl := lv_entry ([.ref aK, .int ch]) (n := 2) (Nat.le_of_ble_eq_true rfl)
  rw [lg_entry_eq]
  generalize (lg_sl ([.ref aK, .int ch]) ++ List.replicate (2 - (lg_sl ([.ref aK, .int ch])).length) Slot.unset).toArray = ls at hl ⊢
  have hE := hX.2.2.1.1 0 (by decide)
  have hl : lv_has ls 2 [(0, .ref aK), (1, .int ch)] := hl
  refine lv_aload_n hx hb (by decide +kernel : decode cJ0_indexOf_0f7a4 0 = .ok (.aload_n 0, 1)) rfl (lv_at hl 0 rfl) ?_
  refine lv_iload_n hx hb (by decide +kernel : decode cJ0_indexOf_0f7a4 1 = .ok (.iload_n 1, 1)) rfl (lv_at hl 1 rfl) ?_
  refine lv_iconst (v := 0) hx hb (by decide +kernel : decode cJ0_indexOf_0f7a4 2 = .ok (.iconst 0, 1)) (by decide) ?_
  have hB3 := callB_of (own := "java/lang/String") (index := 633) (R := { frames := 3, cells := 0, slots := 0, locals := 110 }) (rm := { frames := 2, cells := 0, slots := 0, locals := 80 }) (mc := 0) (ms := 0) 2 hts (en_consG en_c_ix2) rfl rfl rfl (hts _ (en_sq 0 rfl)) (hts _ (en_sq 3 rfl)) (by decide +kernel) ⟨by decide, by decide⟩
  refine va_calli (a := #[Value.ref aK, .int ch, .int 0]) (va_runV (C := "java/lang/String") (As := [.int ch, .int 0]) (rest := []) ⟨hx, hb, hml, hown, hts⟩ (en_ix2 l b0 aK aV ch) ⟨hB3, (hts _ (en_sq 12 rfl)), (hts _ (en_sq 13 rfl))⟩ ⟨fun a U g mk q => ⟨q.1, q.2.1, q.2.2.call⟩, vk_recv (i := 0) hX.2.2.1 Nat.zero_lt_one hS, fun U hU hW => ⟨rfl, by rw [hU]; exact hsz, hX.go (Nat.le_refl _) hS hU hW⟩⟩ rfl rfl hl.1 rfl (lv_room (Nat.le_of_ble_eq_true rfl)) (by decide +kernel : decode cJ0_indexOf_0f7a4 3 = .ok (.invokevirtual 633, 3)) ⟨by decide, by decide⟩) hS (fun q _ h => h) (fun q h => h) (fun r u t H1 locs1 ht hvm hpost hB hsz1 hfr hS => ?_)
  exact W.iret hx hb hr (fun t ht _ => ⟨⟨r, (), rfl, hpost, trivial⟩, hS.F ht⟩) hS.2.2 (by decide +kernel : decode cJ0_indexOf_0f7a4 6 = .ok (.ireturn, 1))
set_option maxHeartbeats 4000000 in
theorem hs_idx {p : Program} {l : Launch} {e : Env} {R : Room} {s : State} {m : MethodId} {args : Array Value} {below : List Frame} {meth : Method} {c : Code} {Q : State → Prop} {D : va_G} {tys : List (ClassId × FieldType)} {T : en_T} {I : va_W → Prop} {aK aV b0 : Nat} {ad : Nat → Nat} {w0 : va_W} {Wr : List (Nat × Nat)} {γ : Nat → Int} {L : List ev_l} {FS : List ev_f} {RS : List ev_r} {q : Int × Int} {g : Option (Nat × Int)} (C : ev_cx p s m args meth c prog_2_method_12_code 5 0 D tys aK aV b0) (hL : L[3]? = some (some (.inl q, g))) (hfr : 4 ≤ R.frames) (hlo : 131 ≤ R.locals) (k : ev_go p l e R s m args below meth c Q D tys T I b0 5 ad w0 Wr γ (96, L, [(.inl (-1, 6), ev_nt)], FS, RS)) : ev_go p l e R s m args below meth c Q D tys T I b0 5 ad w0 Wr γ (89, L, [], FS, RS) := by
  intro H locs ls stk ws h
  dsimp only at h
  obtain ⟨hz, hl, hs, hF, hR, hw, hI, hP, hD, hS, hfr0⟩ := h
  cases stk with
  | cons a b => exact hs.elim
  | nil =>
    obtain ⟨x0, h3, ⟨x, rfl, hx⟩, -⟩ := hl 3 _ hL
    have hX := C.2.2.2.2.2.2.2.1
    have hts := C.2.2.2.2.1
    have hb0 := C.2.2.2.2.2.2.1
    refine va_ldcS C.1 C.2.1 C.2.2.2.1 hX.2.1 (by decide +kernel : decode prog_2_method_12_code 89 = .ok (.ldc 27, 2)) ?_
    refine lv_iload_n C.1 C.2.1 (by decide +kernel : decode prog_2_method_12_code 91 = .ok (.iload_n 3, 1)) rfl h3 ?_
    refine lv_i2c C.1 C.2.1 (by decide +kernel : decode prog_2_method_12_code 92 = .ok (.i2c, 1)) rfl ?_
    have hB := callB_of (own := en_nm 0) (index := 119) (R := R) (rm := { frames := 3, cells := 0, slots := 0, locals := 110 }) (mc := 0) (ms := 0) 1 hts (en_consG en_c_ix1) rfl rfl rfl (hts _ (en_sq 0 rfl)) (hts _ (en_sq 2 rfl)) (by decide +kernel) ⟨hfr, hlo⟩
    refine va_calli (a := #[Value.ref aK, .int _]) (va_runV (C := "java/lang/String") (As := [.int _]) (rest := []) ⟨C.1, C.2.1, C.2.2.1, C.2.2.2.1, hts⟩ (en_ix1 l H.size aK aV _) ⟨hB, (hts _ (en_sq 10 rfl)), (hts _ (en_sq 11 rfl))⟩ ⟨fun a U g mk q => ⟨q.1, q.2.1, q.2.2.call⟩, vk_recv (i := 0) hX.2.2.1 Nat.zero_lt_one hS, fun U hU hW => ⟨rfl, by rw [hU]; exact Nat.le_refl _, hX.go (Nat.le_trans hb0 hS.1) hS hU hW⟩⟩ rfl rfl hz.1 rfl (lv_room (Nat.le_of_ble_eq_true rfl)) (by decide +kernel : decode prog_2_method_12_code 93 = .ok (.invokevirtual 119, 3)) ⟨Nat.zero_le _, Nat.zero_le _⟩) hS (fun q h1 h2 => absurd h2 (by omega)) (fun q (h : H.size ≤ q) => by show b0 ≤ q; have := hS.1; omega) (fun r u t H1 locs1 ht hvm hpost hB hsz1 hfr hS1 => ?_)
    exact k H1 locs1 ls [.int r] ws ⟨hz, hl, ⟨⟨⟨r, rfl, hpost⟩, ev_tag0⟩, trivial⟩, hF, hR, hw, hI, hP.kept (fun k q hk => hfr q.1 ((hP k q hk).lt) (by show ¬ H.size ≤ q.1; have := (hP k q hk).lt; omega)), hD, hS1, hfr0⟩
