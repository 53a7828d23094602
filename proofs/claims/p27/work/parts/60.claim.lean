section ENL
variable {p : Program} {l : Launch} {e : Env} {R : Room} {s : State} {m : MethodId} {args : Array Value} {below : List Frame} {meth : Method} {c : Code} {Q : State → Prop} {cc : ByteArray} {D : va_G} {tys : List (ClassId × FieldType)} {aK aV b0 nL o : Nat}
variable {pc : Nat} {T : en_T} {cs sl : Nat} {κ : en_K} {H : Heap} {locs : List Loc} {ls : Array Slot} {rest : List Value} {ad : Nat → Nat}
theorem eg_new (C : en_cx p s m args meth c cc nL o D tys aK aV b0) {i ci : Nat} {r : vw_C} (hf : en_find o i en_nw = some ci) (hr0 : vwCl[ci]? = some r) (hdk : (List.range r.2.2).all (fun j => en_dok (en_tyX ci j)) = true) (hc1 : cs + 1 ≤ R.cells) (hc2 : sl + r.2.2 ≤ R.slots) (hd : decode cc pc = .ok (.new i, 3)) (hW : eg_W D tys (fun q => b0 ≤ q) T ad H) (hS : va_S (fun q => b0 ≤ q) s.heap H locs)
    (k : ∀ (ad1 : Nat → Nat) (H1 : Heap), (∀ k, k < T.length → ad1 k = ad k) → eg_W D tys (fun q => b0 ≤ q) (T ++ [.inr (ci, en_df ci r.2.2)]) ad1 H1 → va_S (fun q => b0 ≤ q) s.heap H1 locs → W p l e R s m args below meth c H1 locs (cs + 1) (sl + r.2.2) Q (F0 m (pc + 3) ls (.ref (ad1 T.length) :: rest))) : W p l e R s m args below meth c H locs cs sl Q (F0 m pc ls rest) := by
  obtain ⟨ws, w1, w2, w3, w4⟩ := hW
  have hmem : ∀ w ∈ en_nww (o, i, ci), w ∈ lw_tbl := fun w hw => en_nw_in w (List.mem_flatMap.mpr ⟨(o, i, ci), en_find_mem hf, hw⟩)
  have hlist : en_nww (o, i, ci) = [.classLink (en_nm o) i r.1, .instantiable r.1 r.2.2, .initialized r.1] := by
    show (match vwCl[ci]? with
      | some r => _
      | none => _) = _
    rw [hr0]
  rw [hlist] at hmem
  have hA : ∀ q : Nat, s.heap.size ≤ q → (fun q : Nat => b0 ≤ q) q := fun q hq => Nat.le_trans C.2.2.2.2.2.2.2.1 hq
  have hdk1 : ∀ j, j < r.2.2 → en_dok (en_tyX ci j) = true := fun j hj => List.all_eq_true.mp hdk j (List.mem_range.mpr hj)
  refine va_new (C := r.1) (T := r.2.1) (N := r.2.2) (fs := (List.range r.2.2).map (fun j => defaultValue (en_tyX ci j))) C.1 C.2.1 C.2.2.2.2.1 (en_cls_ws hr0) (en_tyX ci) (en_cls ci r hr0).2.1 C.2.2.2.1 (C.2.2.2.2.1 _ (en_ws_in (hmem _ List.mem_cons_self) rfl)) (C.2.2.2.2.1 _ (en_ws_in (hmem _ (List.mem_cons_of_mem _ List.mem_cons_self)) rfl)) (C.2.2.2.2.1 _ (en_ws_in (hmem _ (List.mem_cons_of_mem _ (List.mem_cons_of_mem _ List.mem_cons_self))) rfl)) C.2.2.2.2.2.1 w3 w4 hS hA hr0 ?_ hc1 hc2 hd (fun q H1 hP hD hS1 => ?_)
  · intro j hj
    unfold vp_V
    rw [List.getD_eq_getElem?_getD, List.getElem?_map, List.getElem?_range hj]
    rfl
  · have h := k (en_up ad T.length q) H1 (fun k hk => en_up_lt hk) (eg_W.push w1 w2 hP hD ⟨_, rfl, en_map_vs _ (fun j hj => en_dv_ok (hdk1 j (List.mem_range.mp hj)))⟩) hS1
    rw [en_up_at] at h
    exact h
theorem eg_callI (C : en_cx p s m args meth c cc nL o D tys aK aV b0) {i mi j : Nat} {r : MethodName × ByteArray × Nat × Option FieldType} (hf : en_find o i en_cl = some (3, mi, 0)) (hr : en_ms[mi]? = some r) (hκ : en_ok l κ) (hm : κ.1 = mi) (hav : κ.2.1 = [.inr (j + 2)]) (hj : j < T.length) (hT : en_all2 eg_cle T (k_T0 κ) = true) (hrv : k_rv κ = none)
    (hfr : k_fr κ + 1 ≤ R.frames) (hlo : 8 + (r.2.2.1 + 11) + k_lo κ ≤ R.locals) (hc1 : cs + k_mc κ ≤ R.cells) (hc2 : sl + k_ms κ ≤ R.slots) (h8 : (rest.map fun v => v.category).sum ≤ 8) (hls : ls.size = nL) (hd : decode cc pc = .ok (.invokespecial i, 3)) (hW : eg_W D tys (fun q => b0 ≤ q) T ad H) (hS : va_S (fun q => b0 ≤ q) s.heap H locs)
    (k : ∀ (ad' : Nat → Nat) (H1 : Heap) (locs1 : List Loc), (∀ k, k < T.length → ad' k = ad k) → T.length ≤ (k_T1 κ).length → eg_W D tys (fun q => b0 ≤ q) (k_T1 κ) ad' H1 → va_S (fun q => b0 ≤ q) s.heap H1 locs1 → W p l e R s m args below meth c H1 locs1 (cs + k_mc κ) (sl + k_ms κ) Q (F0 m (pc + 3) ls rest)) : W p l e R s m args below meth c H locs cs sl Q (F0 m pc ls (.ref (ad j) :: rest)) := by
  subst hm
  have hlen := en_all2_len hT
  have hM := hκ r hr D tys aK aV b0 C.2.2.2.2.2.2.1 [Value.ref (ad j)] ad (by rw [hav, ← hlen]; exact ⟨⟨rfl, hj⟩, trivial⟩)
  have hD := (en_clD hf hr).1
  obtain ⟨hnm, hret⟩ := (en_clD hf hr).2 (by omega)
  have hw := en_clW hf hr
  have hts := C.2.2.2.2.1
  have hG := en_codeG hr
  obtain ⟨y, code, ml, rt⟩ := r
  dsimp only at hret hnm hM hD hw hG hlo
  subst hret
  have hB := callB_of (own := en_nm o) (index := i) (R := R) (rm := en_rm κ) (mc := k_mc κ) (ms := k_ms κ) 0 hts hG rfl rfl rfl (hts _ (en_ws_in (hw (.initialized y.cls) (by simp)) rfl)) (hts _ (en_ws_in (hw (.methodLink (en_nm o) i y) (by simp)) rfl)) hD ⟨hfr, hlo⟩
  have hrun := va_runI (H := H) (locs := locs) (cells := cs) (slots := sl) (g := F0 m pc ls (.ref (ad j) :: rest)) (e := e) (below := below) (meth := meth) (As := []) (rest := rest) ⟨C.1, C.2.1, C.2.2.1, C.2.2.2.1, hts⟩ hM ⟨hB, hnm, hts _ (en_ws_in (hw (.instanceMethod y) (by simp)) rfl)⟩ ⟨en_pc_blind, en_pre C hW hS hT⟩ rfl rfl hls rfl (lv_room h8) hd ⟨hc1, hc2⟩
  rw [hrv] at hrun
  refine va_callv (a := (Value.ref (ad j) :: []).toArray) hrun hS (fun q _ h => h) (fun q h => h) (fun u t H1 locs1 ht _ hpost hB _ _ hS1 => ?_)
  obtain ⟨p1, p2⟩ := hpost
  subst ht
  exact k u t.heap locs1 (fun k hk => p2 k (by omega)) (by omega) hB hS1
end ENL

theorem lw_arr {args : Array Value} {s : State} {ty : FieldType} (h : (Cond.arrayClass ty).before args s = true) (ht : ty = .int ∨ ty = .boolean ∨ ty = .byte) : ∃ cA : ClassId, ArrOfT s cA ty ∧ va_RA s cA ty := by
  obtain ⟨cA, k, comp, h1, h2, h3⟩ := Cond.arrayClass_spec (args := args) (first := s) (o := none) (s := s) (idx := []) h
  refine ⟨cA, fun n z => ⟨(fun q hq => by cases hq), k, h2, comp, h3⟩, ?_⟩
  rcases ht with rfl | rfl | rfl <;> exact h1
theorem lw_arr2 {args : Array Value} {s : State} (h : (Cond.arrayOver (.array .int)).before args s = true) : ∃ cA : ClassId, ArrOfT s cA (.array .int) ∧ va_RA s cA (.array .int) := by
  obtain ⟨comp, cA, k, h0, h1, h2, h3⟩ := Cond.arrayOver_specA (args := args) (first := s) (o := none) (s := s) (idx := []) h
  exact ⟨cA, fun n z => ⟨(fun q hq => by cases hq), k, h1, comp, h2⟩, h3⟩
set_option maxRecDepth 100000 in
set_option maxHeartbeats 4000000 in
theorem lw_cx {p : Program} {s : State} {m : MethodId} {meth : Method} {c : Code} {b L : Nat} {xs : Nat → Int32} (C0 : lw_At p s m meth c b L xs) : ∃ (D : va_G) (tys : List (ClassId × FieldType)) (aK aV : Nat), en_cx p s m #[Value.ref b] meth c code 4 13 D tys aK aV s.heap.size := by
  obtain ⟨hx, hb, hr, hml, hown, hts, hX, hbl, hlocks, hgv⟩ := C0
  obtain ⟨c0, i0, hk0⟩ := u_known (C := RX0) (T := TX0) (N := 9) (n := 9) hts inX0 (hts (.instantiable RX0 9) (List.mem_of_getElem? (i := 242) (by decide +kernel)))
  obtain ⟨c1, i1, hk1⟩ := u_known (C := RX1) (T := TX1) (N := 12) (n := 12) hts inX1 (hts (.instantiable RX1 12) (List.mem_of_getElem? (i := 168) (by decide +kernel)))
  obtain ⟨c2, i2, hk2⟩ := u_known (C := RX2) (T := TX2) (N := 2) (n := 2) hts inX2 (hts (.instantiable RX2 2) (List.mem_of_getElem? (i := 413) (by decide +kernel)))
  obtain ⟨c3, i3, hk3⟩ := u_known (C := RX3) (T := TX3) (N := 13) (n := 13) hts inX3 (hts (.instantiable RX3 13) (List.mem_of_getElem? (i := 174) (by decide +kernel)))
  obtain ⟨c4, i4, hk4⟩ := u_known (C := RX4) (T := TX4) (N := 6) (n := 6) hts inX4 (hts (.instantiable RX4 6) (List.mem_of_getElem? (i := 329) (by decide +kernel)))
  obtain ⟨c5, i5, hk5⟩ := u_known (C := RX5) (T := TX5) (N := 3) (n := 3) hts inX5 (hts (.instantiable RX5 3) (List.mem_of_getElem? (i := 433) (by decide +kernel)))
  obtain ⟨c6, i6, hk6⟩ := u_known (C := RX6) (T := TX6) (N := 6) (n := 6) hts inX6 (hts (.instantiable RX6 6) (List.mem_of_getElem? (i := 289) (by decide +kernel)))
  obtain ⟨c7, i7, hk7⟩ := u_known (C := RX7) (T := TX7) (N := 5) (n := 5) hts inX7 (hts (.instantiable RX7 5) (List.mem_of_getElem? (i := 143) (by decide +kernel)))
  obtain ⟨c8, i8, hk8⟩ := u_known (C := RX8) (T := TX8) (N := 11) (n := 11) hts inX8 (hts (.instantiable RX8 11) (List.mem_of_getElem? (i := 135) (by decide +kernel)))
  obtain ⟨c9, i9, hk9⟩ := u_known (C := RX9) (T := TX9) (N := 96) (n := 96) hts inX9 (hts (.instantiable RX9 96) (List.mem_of_getElem? (i := 1087) (by decide +kernel)))
  obtain ⟨dC, dI, hKc⟩ : ∃ (dC : Nat → ClassId) (dI : Nat → Nat → Nat), ∀ (k : Nat) (q : vw_C), vwCl[k]? = some q → u_Kn s q.1 q.2.1 q.2.2 (dC k) (dI k) := by
    refine ⟨fun k => match k with
      | 0 => c0
      | 1 => c1
      | 2 => c2
      | 3 => c3
      | 4 => c4
      | 5 => c5
      | 6 => c6
      | 7 => c7
      | 8 => c8
      | _ => c9, fun k => match k with
      | 0 => i0
      | 1 => i1
      | 2 => i2
      | 3 => i3
      | 4 => i4
      | 5 => i5
      | 6 => i6
      | 7 => i7
      | 8 => i8
      | _ => i9, ?_⟩
    intro k q hq
    match k, hq with
    | 0, hq => cases hq; exact hk0
    | 1, hq => cases hq; exact hk1
    | 2, hq => cases hq; exact hk2
    | 3, hq => cases hq; exact hk3
    | 4, hq => cases hq; exact hk4
    | 5, hq => cases hq; exact hk5
    | 6, hq => cases hq; exact hk6
    | 7, hq => cases hq; exact hk7
    | 8, hq => cases hq; exact hk8
    | 9, hq => cases hq; exact hk9
    | k + 10, hq => simp [vwCl] at hq
  obtain ⟨cI, hI1, hI2⟩ := lw_arr (hts _ (en_arr_in _ List.mem_cons_self)) (Or.inl rfl)
  obtain ⟨cZ, hZ1, hZ2⟩ := lw_arr (hts _ (en_arr_in _ (List.mem_cons_of_mem _ List.mem_cons_self))) (Or.inr (Or.inl rfl))
  obtain ⟨cB, hB1, hB2⟩ := lw_arr (hts _ (en_arr_in _ (List.mem_cons_of_mem _ (List.mem_cons_of_mem _ List.mem_cons_self)))) (Or.inr (Or.inr rfl))
  obtain ⟨cG, hG1, hG2⟩ := lw_arr2 (hts (.arrayOver (.array .int)) (List.mem_of_getElem? (i := 439) (by decide +kernel)))
  have hK : va_K (dC, dI) vwCl [(cI, .int), (cZ, .boolean), (cB, .byte), (cG, .array .int)] s := ⟨hKc, fun k q hq => by
    match k, hq with
    | 0, hq => cases hq; exact ⟨hI1, hI2⟩
    | 1, hq => cases hq; exact ⟨hZ1, hZ2⟩
    | 2, hq => cases hq; exact ⟨hB1, hB2⟩
    | 3, hq => cases hq; exact ⟨hG1, hG2⟩
    | k + 4, hq => simp at hq⟩
  have hA : ∀ a : Nat, a < s.heap.size → ¬ (fun q : Nat => s.heap.size ≤ q) a := fun a h => by show ¬ s.heap.size ≤ a; omega
  have hf := flat_of_before _ hgv
  obtain ⟨adK, adV, hSt, hev⟩ := vk_Sof (args := #[Value.ref b]) (s := s) (N := 1) (tm := fun _ => .string "LoadsAhead$Law" 27) (len := [7]) (byt := [[105, 107, 99, 115, 110, 114, 119]]) (A := fun q => s.heap.size ≤ q) (fun i hi => by
      have : i = 0 := by omega
      subst this
      decide) (fun i hi => hf _ (by decide +kernel)) (fun i hi => hf _ (by decide +kernel)) (fun i hi => hf _ (by decide +kernel)) (fun i hi => by
      have : i = 0 := by omega
      subst this
      exact hf _ (by decide +kernel)) (fun i hi j hj => by
      have : i = 0 := by omega
      subst this
      have hj : j < 7 := hj
      match j, hj with
      | 0, _ => exact hf _ (by decide +kernel)
      | 1, _ => exact hf _ (by decide +kernel)
      | 2, _ => exact hf _ (by decide +kernel)
      | 3, _ => exact hf _ (by decide +kernel)
      | 4, _ => exact hf _ (by decide +kernel)
      | 5, _ => exact hf _ (by decide +kernel)
      | 6, _ => exact hf _ (by decide +kernel)
      | k + 7, h => omega) (fun i j hi hj hij => by omega) hA
  have hX4 : va_Z "java/lang/String" "COMPACT_STRINGS" "Z" (.int 1) (fun q => s.heap.size ≤ q) s s.heap := va_Zof (hts (.laysStatic "java/lang/String" "COMPACT_STRINGS" "Z") (List.mem_of_getElem? (i := 257) (by decide +kernel))) (hts (.initialized "java/lang/String") (List.mem_of_getElem? (i := 121) (by decide +kernel))) (va_eqt (hf _ (by decide +kernel))) hA
  have hX2 : vk_R "LoadsAhead$Law" 27 "ikcsnrw" (adK 0) s := vk_R.of (A := #[Value.ref b]) (hts (.stringRef "LoadsAhead$Law" 27 "ikcsnrw") (List.mem_of_getElem? (i := 247) (by decide +kernel))) (hev 0 Nat.zero_lt_one)
  refine ⟨(dC, dI), [(cI, .int), (cZ, .boolean), (cB, .byte), (cG, .array .int)], adK 0, adV 0, hx, hb, hml, hown, fun w hw => hts w (List.mem_filter.mp hw).1, hK, ⟨fun t ht => ?_, cG, rfl⟩, Nat.le_refl _, ⟨fun w hw => ?_, hX2, ⟨fun i hi => ?_, fun i j hi hj _ => by omega⟩, hX4, ?_⟩, hlocks⟩
  · match t, ht with
    | 0, _ => exact ⟨cI, rfl⟩
    | 1, _ => exact ⟨cZ, rfl⟩
    | 2, _ => exact ⟨cB, rfl⟩
    | k + 3, h => omega
  · obtain ⟨a, i, x, t, rfl⟩ := en_nest_w hw
    exact va_Nw.of rfl (hts _ (en_nest_in _ hw))
  · have : i = 0 := by omega
    subst this
    exact hSt.1 0 hi
  · exact over_moved (Vm.Alike.refl s.vm) (hts (.arrayOver (.array .int)) (List.mem_of_getElem? (i := 439) (by decide +kernel)))
set_option maxHeartbeats 4000000 in
set_option maxRecDepth 100000 in
theorem whole_start {p : Program} {e : Env} {s : State} {m : MethodId} {below : List Frame} {meth : Method} {c : Code} (l : Launch) (hflags : l.flags = flags0) {b L : Nat} {xs : Nat → Int32} (hL : L ≤ 3072) (C0 : lw_At p s m meth c b L xs) : W p l e room_1 s m #[Value.ref b] below meth c s.heap [] 0 0 (lw_Z below #[Value.ref b] s) (entryFrame m ([Value.ref b] : List Value).toArray 4) := by
  obtain ⟨D, tys, aK, aV, C⟩ := lw_cx C0
  obtain ⟨hx, hb, hr, hml, hown, hts, hX, hbl, hlocks, hgv⟩ := C0
  have hS : va_S (fun q : Nat => s.heap.size ≤ q) s.heap s.heap [] := va_S.rf
  have hl := lv_entry ([.ref b]) (n := 4) (Nat.le_of_ble_eq_true rfl)
  rw [lg_entry_eq]
  generalize (lg_sl ([.ref b]) ++ List.replicate (4 - (lg_sl ([.ref b])).length) Slot.unset).toArray = ls at hl ⊢
  have hl : lv_has ls 4 [(0, .ref b)] := hl
  have hW : eg_W D tys (fun q : Nat => s.heap.size ≤ q) [] (fun _ => 0) s.heap := ⟨[], rfl, fun k t h => by simp at h, fun k q h => by simp at h, ⟨fun i j p q h => by simp at h, fun k q h => by simp at h⟩⟩
  refine eg_new (T := []) (ad := fun _ => 0) (ci := 8) (r := (RX8, TX8, 11)) C rfl rfl (by decide +kernel) (Nat.le_of_ble_eq_true rfl) (Nat.le_of_ble_eq_true rfl) dL_0 hW hS (fun ad1 H1 _ hW1 hS1 => ?_)
  refine lv_dup C.1 C.2.1 dL_3 rfl ?_
  refine eg_callI (T := [.inr (8, en_df 8 11)]) (κ := kk_18) (j := 0) C (by decide +kernel : en_find 13 9 en_cl = some (3, 0, 0)) (r := (yX8_init, prog_1_method_1_code, 1, none)) rfl (ok_18 l) rfl rfl Nat.zero_lt_one (by decide +kernel) rfl (Nat.le_of_ble_eq_true rfl) (Nat.le_of_ble_eq_true rfl) (Nat.le_of_ble_eq_true rfl) (Nat.le_of_ble_eq_true rfl) (Nat.le_of_ble_eq_true rfl) hl.1 dL_4 hW1 hS1 (fun ad2 H2 locs2 hag2 hlen2 hW2 hS2 => ?_)
  have e2 : ad1 ([] : en_T).length = ad2 0 := (hag2 0 Nat.zero_lt_one).symm
  rw [e2]
  refine lv_astore_n (lv' := [(1, .ref (ad2 0)), (0, .ref b)]) C.1 C.2.1 dL_7 rfl hl (by decide) rfl (fun ls hl => ?_)
  refine eg_new (T := k_T1 kk_18) (ad := ad2) (ci := 9) (r := (RX9, TX9, 96)) C rfl rfl (by decide +kernel) (Nat.le_of_ble_eq_true rfl) (Nat.le_of_ble_eq_true rfl) dL_8 hW2 hS2 (fun ad3 H3 hag3 hW3 hS3 => ?_)
  refine lv_dup C.1 C.2.1 dL_11 rfl ?_
  have hlen : (k_T1 kk_18).length = 87 := by decide +kernel
  have hlen3 : (k_T1 kk_18 ++ [.inr (9, en_df 9 96)] : en_T).length = 87 + 1 := by rw [List.length_append, hlen]; rfl
  rw [hlen]
  refine eg_callI (T := k_T1 kk_18 ++ [.inr (9, en_df 9 96)]) (κ := kk_19) (j := 87) C (by decide +kernel : en_find 13 12 en_cl = some (3, 135, 0)) (r := (yX9_init, prog_11_method_1_code, 1, none)) rfl (ok_19 l) rfl rfl (by rw [hlen3]; decide) (by decide +kernel) rfl (Nat.le_of_ble_eq_true rfl) (Nat.le_of_ble_eq_true rfl) (Nat.le_of_ble_eq_true rfl) (Nat.le_of_ble_eq_true rfl) (Nat.le_of_ble_eq_true rfl) hl.1 dL_12 hW3 hS3 (fun ad4 H4 locs4 hag4 hlen4 hW4 hS4 => ?_)
  have e3 : ad3 87 = ad4 87 := (hag4 87 (by rw [hlen3]; decide)).symm
  rw [e3]
  refine lv_astore_n (lv' := [(2, .ref (ad4 87)), (1, .ref (ad2 0)), (0, .ref b)]) C.1 C.2.1 dL_15 rfl hl (by decide) rfl (fun ls hl => ?_)
  refine lv_iconst (v := 0) C.1 C.2.1 dL_16 (by decide) ?_
  refine lv_istore_n (lv' := [(3, .int 0), (2, .ref (ad4 87)), (1, .ref (ad2 0)), (0, .ref b)]) C.1 C.2.1 dL_17 rfl hl (by decide) rfl (fun ls hl => ?_)
  have e4 : ad2 0 = ad4 0 := by rw [hag4 0 (by rw [hlen3]; decide), hag3 0 (by rw [hlen]; decide)]
  rw [e4] at hl
  obtain ⟨ws, hw, hJ, hP, hD⟩ := eg_beginW hW4
  have CE : ev_cx p s m #[Value.ref b] meth c code 4 13 D tys aK aV s.heap.size := ⟨C.1, C.2.1, C.2.2.1, C.2.2.2.1, C.2.2.2.2.1, C.2.2.2.2.2.1, C.2.2.2.2.2.2.2.1, C.2.2.2.2.2.2.2.2.1, C.2.2.2.2.2.2.2.2.2⟩
  have a0 : ad4 0 = (fun k => ad4 (eg_pP.getD k 0)) 0 := rfl
  have a84 : ad4 87 = (fun k => ad4 (eg_pP.getD k 0)) 84 := rfl
  have hl := lv_sub (l' := [(0, .ref b), (1, .ref (ad4 0)), (2, .ref (ad4 87)), (3, .int 0)]) hl [3, 2, 1, 0] rfl
  rw [a0, a84] at hl
  exact le_loop (ad := fun k => ad4 (eg_pP.getD k 0)) CE hr hX hbl hL (Nat.le_of_ble_eq_true rfl) (Nat.le_of_ble_eq_true rfl) 3080 0 ls ws H4 locs4 rfl (by decide) hl hw hJ hP hD hS4
set_option maxHeartbeats 4000000 in
theorem lw_walk (l : Launch) (hflags : l.flags = flags0) (b : Addr) (xs : List Int32) : MetFree l x (headSpec (Jvm.Cond.code x code maxLocals ret :: tables_1) room_1) (lw_P b xs) (fun _ _ _ _ _ => True) lw_Q := by
  refine MetFree.of_bodyS (code := code) (maxLocals := maxLocals) (ret := ret) (by decide) ?_ ?_
  · intro args s m h hn
    obtain ⟨meth, c, h1, h2, h3, h4, h5, h6, -, -⟩ := Cond.code_spec hn (atoms_spec (ws := Jvm.Cond.code x code maxLocals ret :: tables_1) h _ List.mem_cons_self)
    exact ⟨meth, c, h1, h2, h3, h4, h5, h6⟩
  · intro p e s m args below meth c s₁ B hml0 hP _
    obtain ⟨rfl, hx, hbd, hgv⟩ := hP
    obtain ⟨scr, harrAt, hlist, hof, hsmall⟩ := hx
    obtain ⟨hcb, hkn, -, -⟩ := State.arrayAt?_spec harrAt
    have hown : s.vm.findClass R_law = some m.cls := findClass_of_methodNamed B.named
    have hts0 : ∀ c ∈ (Jvm.Cond.code x code maxLocals ret :: tables_1), c.before #[Value.ref b] s = true := atoms_spec (ws := Jvm.Cond.code x code maxLocals ret :: tables_1) B.pre
    have hts : ∀ w ∈ lw_tbl, w.before #[Value.ref b] s = true := k2_hts_sels lw_privs (fun w hw => hts0 w (List.mem_cons_of_mem _ hw)) lw_privs_ok
    have hml : c.maxLocals = 4 := B.maxLocals_eq (hts0 _ List.mem_cons_self)
    have X₀ : Stand p l e room_1 s m #[Value.ref b] below meth c s₁ [] 0 0 := Stand.of_body B
    have hh0 : s₁.heap = s.heap := by rw [B.state]; rfl
    have hsz : scr.slots.size = xs.length := by rw [← Array.length_toList, hlist, List.length_map]
    have hval : ∀ j : Nat, j < xs.length → scr.slots[j]? = some (.int (xs.getD j 0)) := fun j hj => by
      rw [← Array.getElem?_toList, hlist]
      simp [hj]
    have hbl : b < s.heap.size := (Array.getElem?_eq_some_iff.mp hcb).1
    have hX : va_X b xs.length (fun j => xs.getD j 0) s s.heap := ⟨scr, hcb, hof, hkn, hsz, hval⟩
    have K : W p l e room_1 s m #[Value.ref b] below meth c s₁.heap [] 0 0 (lw_Z below #[Value.ref b] s) (entryFrame m ([Value.ref b] : List Value).toArray 4) := by
      rw [hh0]
      exact whole_start l hflags hbd ⟨B.exec, B.bytes, B.returns, hml, hown, hts, hX, hbl, B.notSynchronized, hgv⟩
    obtain ⟨t, a1, o, b1, b2, b3⟩ := K s₁ rfl X₀
    exact ⟨t, o, a1, b1, b2, b3⟩
theorem lw_pre_spec {args : Array Value} {s : State} (h : (Jvm.Cond.and given_1 narrow_1).before args s = true) (hr : rest_1_c.before args s = true) : ∃ (b : Addr) (xs : List Int32), lw_P b xs args s := by
  have hs := flat_of_before _ h
  have hq := flat_of_before _ hr
  have hc : (Cond.count 1).before args s = true := hs _ (by decide +kernel)
  have harr : (Cond.arrayOf (.arg 0) .int).before args s = true := hs _ (by decide +kernel)
  have hle : (Cond.le (.length (.arg 0)) (.int 3072)).before args s = true := hs _ (by decide +kernel)
  have hlen : (Cond.isInt (.length (.arg 0))).before args s = true := hq _ (by decide +kernel)
  have hall : (Cond.all (.arg 0) (.isInt (.elem (.arg 0) (.index 0)))).before args s = true := hq _ (by decide +kernel)
  obtain ⟨b, xs, hb, hx⟩ := State.ints_of_pre rfl harr hlen hall
  have hsm : xs.length < 2 ^ 31 := hx.choose_spec.2.2.2
  have hev : (Term.length (.arg 0)).eval args s none [] s = some (.int xs.length.toInt32) := hx.length_eval hb
  have hv := Cond.le_ints hev (show (Term.int 3072).eval args s none [] s = some (.int 3072) from rfl)
  have hd : xs.length.toInt32 ≤ 3072 := by
    simpa [Cond.before, Cond.holds, hv] using hle
  have hN : xs.length ≤ 3072 := (Int32.ofNat_le_ofNat hsm (by decide)).mp (show Int32.ofNat xs.length ≤ Int32.ofNat 3072 from hd)
  exact ⟨b, xs, Cond.one_arg hc (show args[0]? = some (.ref b) from hb), hx, hN, h⟩
theorem lw_comes (l : Launch) (hflags : l.flags = flags0) : Comes l x (Jvm.Cond.code x code maxLocals ret :: tables_1) room_1 (fun tb e args s => Calls_1 tb e args s ∧ rest_1 tb e args s ∧ Pre_1 tb e args s)
    (fun _ _ args s o t => lw_Q args s o t) := by
  intro p e ha hc hk s m args below hf hfit hheap happ hpre
  obtain ⟨b, xs, hP⟩ := lw_pre_spec hpre.2.2 hpre.2.1
  obtain ⟨k, o, h1, h2, h3, hQ⟩ := lw_walk l hflags b xs p e ha hc hk s m args below hf ((Spec.applies_iff_loose hf).mp happ).1 hP trivial
  exact ⟨k, o, h1, h2, h3, hQ⟩
theorem lw_frame {s t : State} {o : Outcome} {args : Array Value} (h : Framed s o t [] 600000 7302250) :
    Framed s o t (fieldLocs frame_1_writes args s ++ arrayLocs frame_1_arrays args s ++ staticLocs frame_1_statics s) 600000 7302250 := h
theorem lw_limb (L : Cond) (hL : ∀ (args : Array Value) (s t : State), L.after args s (.returned (some (.int 1))) t = true) :
    ArmFor flags0 classFile x code maxLocals ret World_1 tables_1 room_1 Calls_1 rest_1 Pre_1
      (fun tb e a s o t => postC L tb e a s o t ∧ Framed s o t (fieldLocs frame_1_writes a s ++ arrayLocs frame_1_arrays a s ++ staticLocs frame_1_statics s) 600000 7302250) := by
  intro l hflags _ _ p e ha hc hk s m args below hf hfit hheap happ hpre
  obtain ⟨k, o, h1, h2, h3, rfl, hF⟩ := lw_comes l hflags p e ha hc hk s m args below hf hfit hheap happ hpre
  exact ⟨k, _, h1, h2, h3, hL args s _, lw_frame hF⟩
theorem i_vc : Claimed_1_1 ∧ Claimed_1_2 := ⟨lw_limb limb_1_1 (fun args s t => by simp [limb_1_1, Cond.after, Cond.holds, Cond.value]), lw_limb limb_1_2 (fun args s t => Cond.after_iff.mpr (by
  first | (rw [show limb_1_2 = Cond.eq .result (.int 1) from rfl, Cond.eq_ints (x := 1) (y := 1) rfl rfl]; simp; done) | (simp [limb_1_2, Cond.value, Term.eval]; done)))⟩
