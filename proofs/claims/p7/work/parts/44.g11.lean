theorem df_0 : decode prog_18_method_103_code 0 = .ok (.iconst 0, 1) := by decide +kernel
theorem df_1 : decode prog_18_method_103_code 1 = .ok (.istore_n 2, 1) := by decide +kernel
theorem df_2 : decode prog_18_method_103_code 2 = .ok (.aload_n 0, 1) := by decide +kernel
theorem df_3 : decode prog_18_method_103_code 3 = .ok (.arraylength, 1) := by decide +kernel
theorem df_4 : decode prog_18_method_103_code 4 = .ok (.istore_n 3, 1) := by decide +kernel
theorem df_5 : decode prog_18_method_103_code 5 = .ok (.iload_n 2, 1) := by decide +kernel
theorem df_6 : decode prog_18_method_103_code 6 = .ok (.iload_n 3, 1) := by decide +kernel
theorem df_7 : decode prog_18_method_103_code 7 = .ok (.if_icmp .ge 13, 3) := by decide +kernel
theorem df_10 : decode prog_18_method_103_code 10 = .ok (.aload_n 0, 1) := by decide +kernel
theorem df_11 : decode prog_18_method_103_code 11 = .ok (.iload_n 2, 1) := by decide +kernel
theorem df_12 : decode prog_18_method_103_code 12 = .ok (.iload_n 1, 1) := by decide +kernel
theorem df_13 : decode prog_18_method_103_code 13 = .ok (.iastore, 1) := by decide +kernel
theorem df_14 : decode prog_18_method_103_code 14 = .ok (.iinc 2 1, 3) := by decide +kernel
theorem df_17 : decode prog_18_method_103_code 17 = .ok (.goto (-12), 3) := by decide +kernel
theorem df_20 : decode prog_18_method_103_code 20 = .ok (.return_, 1) := by decide +kernel
theorem en_mt_6 : en_ms[6]? = some (yJ7_fill_53178, prog_18_method_103_code, 4, none) := rfl
theorem en_mo_6 : en_mo[6]? = some 10 := rfl
set_option maxHeartbeats 4000000 in
theorem en_fill (l : Launch) {T : en_T} {j n : Nat} {b v : Int × Int} (hj : T[j]? = some (.inl (0, n, b))) (hn : n < 2147483648) : en_ok l (6, [.inr (j + 2), .inl v], T, none, T.set j (.inl (0, n, v)), 0, 0, 0, 0) := by
  refine en_ok_of (r := (yJ7_fill_53178, prog_18_method_103_code, 4, none)) (o := 10) en_mt_6 en_mo_6 (by decide) (Nat.le_of_ble_eq_true rfl) ?_
  intro p e s m args below meth c D tys aK aV b0 ad C hret hnm
  intro H locs ls stk ad1 hh
  have hh : en_at s D tys b0 4 T.length ad [some (.inr (j + 2)), some (.inl v), none, none] [] T H locs ls stk ad1 := hh
  obtain ⟨hl, hn0, hs, hW, hS, hr, hr2⟩ := hh
  cases stk with
  | cons a b => exact hs.elim
  | nil =>
    obtain ⟨x0, h0, hx0⟩ := hl.2.2 0 (.inr (j + 2)) rfl
    obtain ⟨rfl, hjl⟩ : x0 = .ref (ad1 j) ∧ j < T.length := hx0
    obtain ⟨x1, h1, x, rfl, hx⟩ := hl.2.2 1 (.inl v) rfl
    obtain ⟨ws, w1, w2, w3, w4⟩ := hW
    obtain ⟨e0, g1, ge⟩ := w2 j _ hj
    obtain ⟨cA, f0, rfl, g2, g3⟩ := ec_get (show (0 : Nat) ≠ 3 by decide) ge
    dsimp only at g1 g2 g3
    have hl0 : lv_has ls 4 [(0, .ref (ad1 j)), (1, .int x)] := ⟨hl.1, hl.2.1, fun q hq => by
      rcases List.mem_cons.mp hq with rfl | hq
      · exact h0
      · rw [List.mem_singleton.mp hq]; exact h1⟩
    have hK := C.2.2.2.2.2.1
    have hlocks := C.2.2.2.2.2.2.2.2.2
    have loop : ∀ (k i : Nat) (f : Nat → Int32) (us : va_W) (H : Heap) (locs : List Loc) (ls : Array Slot), i ≤ n → n - i < k → (∀ q, q < i → en_in v (f q)) → us.length = ws.length → us[j]? = some (ad1 j, .inl (cA, n, .inl f)) → (∀ q, q ≠ j → us[q]? = ws[q]?) → va_P D vwCl us H → va_D (fun q => b0 ≤ q) us → va_S (fun q => b0 ≤ q) s.heap H locs → lv_has ls 4 [(0, .ref (ad1 j)), (1, .int x), (2, .int (nI i)), (3, .int (nI n))] →
        W p l e (en_rm (6, [.inr (j + 2), .inl v], T, none, T.set j (.inl (0, n, v)), 0, 0, 0, 0)) s m args below meth c H locs 0 0 (MQ below (en_qc D tys b0 T.length ad none (T.set j (.inl (0, n, v)))) args s 0 0 (fun q => b0 ≤ q)) (F0 m 5 ls []) := by
      intro k
      induction k with
      | zero => intro i f us H locs ls h1 h2; omega
      | succ k ih =>
        intro i f us H locs ls hi hk hf hul huj huo hP hD hS hl
        refine lv_iload_n C.1 C.2.1 df_5 rfl (lv_at hl 2 rfl) ?_
        refine lv_iload_n C.1 C.2.1 df_6 rfl (lv_at hl 3 rfl) ?_
        refine lv_icmp_ge (tgt := 20) C.1 C.2.1 df_7 (by decide) (fun hc => ?_) (fun hc => ?_)
        · have hin : i = n := by
            rcases Nat.lt_or_ge i n with q | q
            · exact absurd hc (nI_ge q hn)
            · omega
          subst hin
          refine W.vret C.1 C.2.1 hret (fun t ht _ => ⟨⟨ad1, rfl, ⟨by rw [List.length_set]; exact hr, hr2⟩, ?_⟩, hS.F ht⟩) hS.2.2 df_20
          show eg_W D tys (fun q => b0 ≤ q) (T.set j (.inl (0, i, v))) ad1 t.heap
          rw [ht]
          refine ⟨us, by rw [List.length_set, hul]; exact w1, fun q t hq => ?_, hP, hD⟩
          rw [List.length_set]
          by_cases hqj : q = j
          · subst hqj
            rw [List.getElem?_set_self hjl] at hq
            cases hq
            exact ⟨_, huj, ec_arr (show (0 : Nat) ≠ 3 by decide) ⟨cA, f, rfl, g2, hf⟩⟩
          · rw [List.getElem?_set_ne (Ne.symm hqj)] at hq
            rw [huo q hqj]
            exact w2 q t hq
        · have hlt : i < n := by
            rcases Nat.lt_or_ge i n with q | q
            · exact q
            · exact absurd (nI_le q (by omega)) hc
          refine lv_aload_n C.1 C.2.1 df_10 rfl (lv_at hl 0 rfl) ?_
          refine lv_iload_n C.1 C.2.1 df_11 rfl (lv_at hl 2 rfl) ?_
          refine lv_iload_n C.1 C.2.1 df_12 rfl (lv_at hl 1 rfl) ?_
          refine va_iast C.1 C.2.1 hK hP hD hS j 0 huj g2 (vp_in_nI hlt hn) df_13 (fun H1 locs1 hP1 hD1 hS1 => ?_)
          rw [nI_clamp (by omega)] at hP1 hD1
          refine lv_iinc (v := nI (i + 1)) (k := 2) (lv' := [(2, .int (nI (i + 1))), (0, .ref (ad1 j)), (1, .int x), (3, .int (nI n))]) C.1 C.2.1 df_14 hl rfl (by rw [nI_succ]; rfl) (by decide) rfl (fun ls hl => ?_)
          refine lv_goto (tgt := 5) C.1 C.2.1 df_17 (by decide) ?_
          have hjw : j < us.length := (List.getElem?_eq_some_iff.mp huj).1
          refine ih (i + 1) (upd f i x) _ H1 locs1 ls hlt (by omega) (fun q hq => ?_) (by rw [List.length_set]; exact hul) (List.getElem?_set_self hjw) (fun q hq => by rw [List.getElem?_set_ne (Ne.symm hq)]; exact huo q hq) hP1 hD1 hS1 (lv_sub hl [1, 2, 0, 3] rfl)
          unfold upd
          split
          · exact hx
          · exact hf q (by omega)
    refine lv_iconst (v := 0) C.1 C.2.1 df_0 (by decide) ?_
    refine lv_istore_n (lv' := [(2, .int 0), (0, .ref (ad1 j)), (1, .int x)]) C.1 C.2.1 df_1 rfl hl0 (by decide) rfl (fun ls hl => ?_)
    refine lv_aload_n C.1 C.2.1 df_2 rfl (lv_at hl 1 rfl) ?_
    refine va_alen C.1 C.2.1 hK w3 j 0 g1 g2 (v := nI n) rfl df_3 ?_
    refine lv_istore_n (lv' := [(3, .int (nI n)), (2, .int 0), (0, .ref (ad1 j)), (1, .int x)]) C.1 C.2.1 df_4 rfl hl (by decide) rfl (fun ls hl => ?_)
    exact loop (n + 1) 0 f0 ws H locs ls (Nat.zero_le _) (by omega) (fun q hq => by omega) rfl g1 (fun _ _ => rfl) w3 w4 hS (lv_sub hl [2, 3, 1, 0] rfl)
/-! the one text -/
theorem en_str_in : ∀ w ∈ ([.initialized "java/lang/String", .methodLink "LoadsAhead$Law" 29 yJ0_length_8abf5, .instanceMethod yJ0_length_8abf5, .selects "java/lang/String" yJ0_length_8abf5 yJ0_length_8abf5, .methodLink "java/lang/String" 335 yJ0_coder_7d493, .instanceMethod yJ0_coder_7d493, .selects "java/lang/String" yJ0_coder_7d493 yJ0_coder_7d493, .fieldLink "java/lang/String" 38 "java/lang/String" "COMPACT_STRINGS" "Z", .fieldLink "java/lang/String" 9 "java/lang/String" "value" "[B", .fieldLink "java/lang/String" 15 "java/lang/String" "coder" "B"] : List Cond), w ∈ en_ws := fun w h => by
  have hg := goodIn_r (big := lw_tbl) _ [121, 248, 249, 250, 252, 253, 254, 256, 1798, 1799] (by decide +kernel) (by decide +kernel) w h
  exact en_ws_in hg.1 (by
    have : ([.initialized "java/lang/String", .methodLink "LoadsAhead$Law" 29 yJ0_length_8abf5, .instanceMethod yJ0_length_8abf5, .selects "java/lang/String" yJ0_length_8abf5 yJ0_length_8abf5, .methodLink "java/lang/String" 335 yJ0_coder_7d493, .instanceMethod yJ0_coder_7d493, .selects "java/lang/String" yJ0_coder_7d493 yJ0_coder_7d493, .fieldLink "java/lang/String" 38 "java/lang/String" "COMPACT_STRINGS" "Z", .fieldLink "java/lang/String" 9 "java/lang/String" "value" "[B", .fieldLink "java/lang/String" 15 "java/lang/String" "coder" "B"] : List Cond).all goodWord = true := by decide +kernel
    exact List.all_eq_true.mp this w h)
theorem en_str_q {w : Cond} (i : Nat) (h : ([.initialized "java/lang/String", .methodLink "LoadsAhead$Law" 29 yJ0_length_8abf5, .instanceMethod yJ0_length_8abf5, .selects "java/lang/String" yJ0_length_8abf5 yJ0_length_8abf5, .methodLink "java/lang/String" 335 yJ0_coder_7d493, .instanceMethod yJ0_coder_7d493, .selects "java/lang/String" yJ0_coder_7d493 yJ0_coder_7d493, .fieldLink "java/lang/String" 38 "java/lang/String" "COMPACT_STRINGS" "Z", .fieldLink "java/lang/String" 9 "java/lang/String" "value" "[B", .fieldLink "java/lang/String" 15 "java/lang/String" "coder" "B"] : List Cond)[i]? = some w) : w ∈ en_ws := en_str_in w (List.mem_of_getElem? h)
theorem en_str_l : Cond.code yJ0_length_8abf5 cJ0_length_8abf5 1 (some .int) ∈ en_ws := en_ws_in (en_sub_1 _ (List.mem_of_getElem? (i := 136) rfl)) rfl
theorem en_str_c : Cond.code yJ0_coder_7d493 cJ0_coder_7d493 1 (some .byte) ∈ en_ws := en_ws_in (en_sub_1 _ (List.mem_of_getElem? (i := 140) rfl)) rfl
theorem dc_0 : decode cJ0_coder_7d493 0 = .ok (.getstatic 38, 3) := by decide +kernel
theorem dc_3 : decode cJ0_coder_7d493 3 = .ok (.ifCond .eq 10, 3) := by decide +kernel
theorem dc_6 : decode cJ0_coder_7d493 6 = .ok (.aload_n 0, 1) := by decide +kernel
theorem dc_7 : decode cJ0_coder_7d493 7 = .ok (.getfield 15, 3) := by decide +kernel
theorem dc_10 : decode cJ0_coder_7d493 10 = .ok (.goto 4, 3) := by decide +kernel
theorem dc_14 : decode cJ0_coder_7d493 14 = .ok (.ireturn, 1) := by decide +kernel
theorem dl_0 : decode cJ0_length_8abf5 0 = .ok (.aload_n 0, 1) := by decide +kernel
theorem dl_1 : decode cJ0_length_8abf5 1 = .ok (.getfield 9, 3) := by decide +kernel
theorem dl_4 : decode cJ0_length_8abf5 4 = .ok (.arraylength, 1) := by decide +kernel
theorem dl_5 : decode cJ0_length_8abf5 5 = .ok (.aload_n 0, 1) := by decide +kernel
theorem dl_6 : decode cJ0_length_8abf5 6 = .ok (.invokevirtual 335, 3) := by decide +kernel
theorem dl_9 : decode cJ0_length_8abf5 9 = .ok (.ishr, 1) := by decide +kernel
theorem dl_10 : decode cJ0_length_8abf5 10 = .ok (.ireturn, 1) := by decide +kernel
theorem en_mt_4 : en_ms[4]? = some (yX0_init, prog_2_method_1_code, 1, none) := rfl
theorem en_mo_4 : en_mo[4]? = some 0 := rfl
theorem en_mt_9 : en_ms[9]? = some (yX5_init, prog_7_method_1_code, 1, none) := rfl
theorem en_mo_9 : en_mo[9]? = some 5 := rfl
theorem dw_47 : decode prog_2_method_1_code 47 = .ok (.ldc 27, 2) := by decide +kernel
theorem dw_49 : decode prog_2_method_1_code 49 = .ok (.invokevirtual 29, 3) := by decide +kernel
set_option maxHeartbeats 4000000 in
theorem en_lawmake (l : Launch) {κ : en_K} {L : en_L} {S : List en_V} {T : en_T} {cs sl : Nat} (hm : κ.1 = 4) (hc : (decide (κ.2.1.length ≤ 1) && (decide (2 ≤ k_fr κ) && (decide (40 ≤ k_lo κ) && (decide (S.length ≤ 8) && (decide (cs ≤ k_mc κ) && decide (sl ≤ k_ms κ)))))) = true)
    (h1 : en_chk 0 prog_2_method_1_code [] (k_fr κ, k_lo κ, k_mc κ, k_ms κ) true none (k_rv κ) (k_T1 κ) [(47, L, S, T, cs, sl)] 100 (en_start κ 1) = true)
    (h2 : en_chk 0 prog_2_method_1_code [] (k_fr κ, k_lo κ, k_mc κ, k_ms κ) true none (k_rv κ) (k_T1 κ) [] 100 (52, L, .inl (7, 7) :: S, T, cs, sl) = true) : en_ok l κ := by
  simp only [Bool.and_eq_true, decide_eq_true_eq] at hc
  obtain ⟨c1, c2, c3, c4, c5, c6⟩ := hc
  refine en_ok_of (r := (yX0_init, prog_2_method_1_code, 1, none)) (o := 0) (by rw [hm]; exact en_mt_4) (by rw [hm]; exact en_mo_4) (by decide) c1 ?_
  intro p e s m args below meth c D tys aK aV b0 ad C hret hnm
  have hK0 : ∀ κ' ∈ ([] : List en_K), en_ok l κ' := fun _ h => absurd h List.not_mem_nil
  have k2 := en_chk_ok (Q := MQ below (en_qc D tys b0 (k_T0 κ).length ad (k_rv κ) (k_T1 κ)) args s (k_mc κ) (k_ms κ) (fun q => b0 ≤ q)) (R := en_rm κ) (p := p) (l := l) (e := e) (below := below) C hK0 ⟨rfl, rfl, rfl, rfl⟩ (fun _ => hnm) hret rfl (fun x hx => absurd hx List.not_mem_nil) 100 _ h2
  refine en_chk_ok (R := en_rm κ) C hK0 ⟨rfl, rfl, rfl, rfl⟩ (fun _ => hnm) hret rfl (fun x hx => ?_) 100 _ h1
  rw [List.mem_singleton.mp hx]
  intro H locs ls stk ad1 hh
  dsimp only at hh
  obtain ⟨hl, hn0, hs, hW, hS, hr, hr2⟩ := hh
  have hX := C.2.2.2.2.2.2.2.2.1
  have hts := C.2.2.2.2.1
  have hb0 := C.2.2.2.2.2.2.2.1
  have hsz := hS.1
  refine va_ldcS C.1 C.2.1 C.2.2.2.1 hX.2.1 dw_47 ?_
  have hB := callB_of (own := en_nm 0) (index := 29) (R := en_rm κ) (rm := { frames := 1, cells := 0, slots := 0, locals := 20 }) (mc := 0) (ms := 0) 0 hts (en_consG en_str_l) rfl rfl rfl (hts _ (en_str_q (w := .initialized yJ0_length_8abf5.cls) 0 rfl)) (hts _ (en_str_q 1 rfl)) (by decide +kernel) ⟨c2, c3⟩
  refine va_calli (a := #[Value.ref aK]) (va_runV (C := "java/lang/String") (As := []) (rest := stk) ⟨C.1, C.2.1, C.2.2.1, C.2.2.2.1, hts⟩ (en_slen l H.size aK aV) ⟨hB, hts _ (en_str_q 2 rfl), hts _ (en_str_q 3 rfl)⟩ ⟨fun a U g mk q => ⟨q.1, q.2.1, q.2.2.call⟩, vk_recv (i := 0) hX.2.2.1 Nat.zero_lt_one hS, fun U hU hW => ⟨rfl, by rw [hU]; exact Nat.le_refl _, hX.go (Nat.le_trans hb0 hsz) hS hU hW⟩⟩ rfl rfl hl.1 rfl (lv_room (by rw [en_vs_cat hs]; exact c4)) dw_49 ⟨c5, c6⟩) hS (fun q h1 h2 => absurd h2 (by omega)) (fun q (h : H.size ≤ q) => by show b0 ≤ q; omega) (fun r u t H1 locs1 ht hvm hpost hB hsz1 hfr hS1 => ?_)
  subst hpost
  exact k2 H1 locs1 ls (.int 7 :: stk) ad1 ⟨hl, hn0, ⟨⟨7, rfl, by decide, by decide⟩, hs⟩, hW.kept (fun q hq => hfr q hq (by omega)), hS1, hr, hr2⟩
theorem dr_8 : decode prog_7_method_1_code 8 = .ok (.multianewarray 9 2, 4) := by decide +kernel
theorem en_rows_in : ∀ w ∈ ([.classLink "LoadsAhead$Rows" 9 "[[I", .arrayOver (.array .int)] : List Cond), w ∈ lw_tbl := by
  have h : ([.classLink "LoadsAhead$Rows" 9 "[[I", .arrayOver (.array .int)] : List Cond) = ([438, 439] : List Nat).filterMap (fun i => lw_tbl[i]?) := by decide +kernel
  intro w hw
  rw [h] at hw
  obtain ⟨i, -, hi⟩ := List.mem_filterMap.mp hw
  exact List.mem_of_getElem? hi
