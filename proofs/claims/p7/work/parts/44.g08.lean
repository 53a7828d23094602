section ENC
variable {p : Program} {l : Launch} {e : Env} {R : Room} {s : State} {m : MethodId} {args : Array Value} {below : List Frame} {meth : Method} {c : Code} {Q : State → Prop} {cc : ByteArray} {D : va_G} {tys : List (ClassId × FieldType)} {aK aV b0 nL o N0 : Nat} {ad0 : Nat → Nat}
variable {pc : Nat} {L : en_L} {S : List en_V} {T : en_T} {cs sl : Nat} {κ : en_K}
theorem es_after {H : Heap} {locs : List Loc} {ls : Array Slot} {stk rest : List Value} {ad : Nat → Nat} {av : Array Value} (hlen : T.length = (k_T0 κ).length) (hl : en_l T.length ad L nL ls) (hn : L.length = nL) (hs : en_vs T.length ad S rest) (hS : va_S (fun q => b0 ≤ q) s.heap H locs) (hr : N0 ≤ T.length) (hr2 : ∀ k, k < N0 → ad k = ad0 k)
    (hrun : va_Run p l e R s m args below meth c H locs cs sl (k_mc κ) (k_ms κ) (F0 m pc ls stk) rest (en_qc D tys b0 (k_T0 κ).length ad (k_rv κ) (k_T1 κ) av) (fun q => b0 ≤ q))
    (k : en_go p l e R s m args below meth c Q D tys b0 nL N0 ad0 (pc + 3, L, (k_rv κ).toList ++ S, k_T1 κ, cs + k_mc κ, sl + k_ms κ)) : W p l e R s m args below meth c H locs cs sl Q (F0 m pc ls stk) := by
  cases hrv : k_rv κ with
  | none =>
    rw [hrv] at hrun k
    refine va_callv (a := av) hrun hS (fun q _ h => h) (fun q h => h) (fun u t H1 locs1 ht _ hpost hB _ _ hS1 => ?_)
    obtain ⟨p1, p2⟩ := hpost
    subst ht
    exact k t.heap locs1 ls rest u ⟨en_l_mono (by dsimp only; omega) (fun k hk => p2 k (by omega)) hl, hn, en_vs_mono (by dsimp only; omega) (fun k hk => p2 k (by omega)) hs, hB, hS1, by dsimp only; omega, fun k hk => by rw [p2 k (by omega)]; exact hr2 k hk⟩
  | some r =>
    rw [hrv] at hrun k
    refine va_calli (a := av) hrun hS (fun q _ h => h) (fun q h => h) (fun x u t H1 locs1 ht _ hpost hB _ _ hS1 => ?_)
    obtain ⟨p0, p1, p2⟩ := hpost
    subst ht
    exact k t.heap locs1 ls (.int x :: rest) u ⟨en_l_mono (by dsimp only; omega) (fun k hk => p2 k (by omega)) hl, hn, ⟨p0, en_vs_mono (by dsimp only; omega) (fun k hk => p2 k (by omega)) hs⟩, hB, hS1, by dsimp only; omega, fun k hk => by rw [p2 k (by omega)]; exact hr2 k hk⟩
theorem es_afterP (C : en_cx p s m args meth c cc nL o D tys aK aV b0) {H : Heap} {locs : List Loc} {ls : Array Slot} {stk rest : List Value} {ad : Nat → Nat} {av : Array Value} {n0 : Nat} (hl : en_l T.length ad L nL ls) (hn : L.length = nL) (hs : en_vs T.length ad S rest) (hW : eg_W D tys (fun q => b0 ≤ q) T ad H) (hS : va_S (fun q => b0 ≤ q) s.heap H locs) (hr : N0 ≤ T.length) (hr2 : ∀ k, k < N0 → ad k = ad0 k)
    (hrun : va_Run p l e R s m args below meth c H locs cs sl (k_mc κ) (k_ms κ) (F0 m pc ls stk) rest (en_qc D tys H.size n0 ad (k_rv κ) (k_T1 κ) av) (fun q => H.size ≤ q))
    (k : en_go p l e R s m args below meth c Q D tys b0 nL N0 ad0 (pc + 3, L, (k_rv κ).toList ++ S, T, cs + k_mc κ, sl + k_ms κ)) : W p l e R s m args below meth c H locs cs sl Q (F0 m pc ls stk) := by
  have hsz := hS.1
  have hb := C.2.2.2.2.2.2.2.1
  cases hrv : k_rv κ with
  | none =>
    rw [hrv] at hrun k
    refine va_callv (a := av) hrun hS (fun q h1 h2 => absurd h2 (by omega)) (fun q (h : H.size ≤ q) => by show b0 ≤ q; omega) (fun u t H1 locs1 ht _ hpost hB _ hfr hS1 => ?_)
    exact k H1 locs1 ls rest ad ⟨hl, hn, hs, hW.kept (fun q hq => hfr q hq (by omega)), hS1, hr, hr2⟩
  | some r =>
    rw [hrv] at hrun k
    refine va_calli (a := av) hrun hS (fun q h1 h2 => absurd h2 (by omega)) (fun q (h : H.size ≤ q) => by show b0 ≤ q; omega) (fun x u t H1 locs1 ht _ hpost hB _ hfr hS1 => ?_)
    exact k H1 locs1 ls (.int x :: rest) ad ⟨hl, hn, ⟨en_v_int hpost.1, hs⟩, hW.kept (fun q hq => hfr q hq (by omega)), hS1, hr, hr2⟩
theorem en_pre (C : en_cx p s m args meth c cc nL o D tys aK aV b0) {H : Heap} {locs : List Loc} {ad : Nat → Nat} {as : List Value} (hW : eg_W D tys (fun q => b0 ≤ q) T ad H) (hS : va_S (fun q => b0 ≤ q) s.heap H locs) (hT : en_all2 eg_cle T (k_T0 κ) = true) : ∀ U : State, U.heap = H → s.WarmedH U.vm → en_pc D tys aK aV b0 (k_T0 κ) ad as as.toArray U := by
  intro U hU hw
  refine ⟨rfl, ?_, by rw [hU]; exact hW.le hT, va_K.moved hw.alike C.2.2.2.2.2.1, C.2.2.2.2.2.2.2.2.1.go (Nat.le_refl _) hS hU hw⟩
  rw [hU]
  exact Nat.le_trans C.2.2.2.2.2.2.2.1 hS.1
theorem en_preP (C : en_cx p s m args meth c cc nL o D tys aK aV b0) {H : Heap} {locs : List Loc} {ad : Nat → Nat} {as : List Value} (hS : va_S (fun q => b0 ≤ q) s.heap H locs) : ∀ U : State, U.heap = H → s.WarmedH U.vm → en_pc D tys aK aV H.size [] ad as as.toArray U := by
  intro U hU hw
  refine ⟨rfl, by rw [hU]; exact Nat.le_refl _, ⟨[], rfl, fun k t h => by simp at h, fun k q h => by simp at h, ⟨fun i j p q h => by simp at h, fun k q h => by simp at h⟩⟩, va_K.moved hw.alike C.2.2.2.2.2.1, C.2.2.2.2.2.2.2.2.1.go (Nat.le_trans C.2.2.2.2.2.2.2.1 hS.1) hS hU hw⟩
theorem en_args {N : Nat} {ad : Nat → Nat} {A B : List en_V} {xs : List Value} (h : en_vs N ad A xs) (hA : en_all2 en_le A.reverse B = true) : en_vs N ad B xs.reverse := en_all2_vs hA (en_vs_rev h)
theorem es_callV (C : en_cx p s m args meth c cc nL o D tys aK aV b0) {i mi n j ci : Nat} {r : MethodName × ByteArray × Nat × Option FieldType} {A fs : List en_V} {rc : vw_C} (hf : en_find o i en_cl = some (0, mi, n)) (hr : en_ms[mi]? = some r) (hκ : en_ok l κ) (hm : κ.1 = mi) (hA : A.length = n) (hav : en_all2 en_le (.inr (j + 2) :: A.reverse) κ.2.1 = true) (hT : en_all2 eg_cle T (k_T0 κ) = true)
    (hj : T[j]? = some (.inr (ci, fs))) (hrc : vwCl[ci]? = some rc) (hmo : en_mo[mi]? = some ci) (hfr : k_fr κ + 1 ≤ R.frames) (hlo : 8 + (r.2.2.1 + 11) + k_lo κ ≤ R.locals) (hc1 : cs + k_mc κ ≤ R.cells) (hc2 : sl + k_ms κ ≤ R.slots) (hS8 : S.length ≤ 8) (hd : decode cc pc = .ok (.invokevirtual i, 3))
    (k : en_go p l e R s m args below meth c Q D tys b0 nL N0 ad0 (pc + 3, L, (k_rv κ).toList ++ S, k_T1 κ, cs + k_mc κ, sl + k_ms κ)) : en_go p l e R s m args below meth c Q D tys b0 nL N0 ad0 (pc, L, A ++ .inr (j + 2) :: S, T, cs, sl) := by
  intro H locs ls stk ad h
  dsimp only at h
  obtain ⟨hl, hn0, hs, hW, hS, hr1, hr2⟩ := h
  obtain ⟨xs, us, rfl, hs1, hs2⟩ := en_vs_app hs
  obtain ⟨x, ys, rfl, hx, hs3⟩ := en_vs_cons hs2
  have hx0 := hx
  obtain ⟨rfl, hjl⟩ : x = .ref (ad j) ∧ j < T.length := hx
  subst hm
  have hlen := en_all2_len hT
  have hW0 := hW
  obtain ⟨ws, w1, w2, w3, w4⟩ := hW
  obtain ⟨e0, g1, vs, rfl, g2⟩ := w2 j _ hj
  have hM := hκ r hr D tys aK aV b0 C.2.2.2.2.2.2.1 (Value.ref (ad j) :: xs.reverse) ad (by rw [← hlen]; exact en_all2_vs hav ⟨hx0, en_vs_rev hs1⟩)
  have hD := (en_clD hf hr).1
  have hw := en_clW hf hr
  have hts := C.2.2.2.2.1
  have hB := callB_of (own := en_nm o) (index := i) (R := R) (rm := en_rm κ) (mc := k_mc κ) (ms := k_ms κ) n hts (en_codeG hr) rfl rfl rfl (hts _ (en_ws_in (hw (.initialized r.1.cls) (by simp)) rfl)) (hts _ (en_ws_in (hw (.methodLink (en_nm o) i r.1) (by simp)) rfl)) hD ⟨hfr, hlo⟩
  have hrecv := va_recv C.2.2.2.2.2.1 w3 hrc g1
  rw [(en_nm_cl hrc).trans (en_mo_ok hr hmo)] at hrecv
  refine es_after hlen hl hn0 hs3 hS hr1 hr2 (va_runV (C := r.1.cls) (As := xs.reverse) (rest := ys) ⟨C.1, C.2.1, C.2.2.1, C.2.2.2.1, hts⟩ hM ⟨hB, hts _ (en_ws_in (hw (.instanceMethod r.1) (by simp)) rfl), hts _ (en_ws_in (hw (.selects r.1.cls r.1 r.1) (by simp)) rfl)⟩ ⟨en_pc_blind, hrecv, en_pre C hW0 hS hT⟩ rfl (by rw [List.length_reverse, ← en_vs_len hs1]; exact hA) hl.1 (by rw [List.reverse_reverse]) (lv_room (by rw [en_vs_cat hs3]; exact hS8)) hd ⟨hc1, hc2⟩) k
theorem es_callI (C : en_cx p s m args meth c cc nL o D tys aK aV b0) {i mi n j kd : Nat} {r : MethodName × ByteArray × Nat × Option FieldType} {A : List en_V} (hf : en_find o i en_cl = some (kd, mi, n)) (hkd : kd = 3 ∨ kd = 4) (hr : en_ms[mi]? = some r) (hκ : en_ok l κ) (hm : κ.1 = mi) (hA : A.length = n) (hav : en_all2 en_le (.inr (j + 2) :: A.reverse) κ.2.1 = true) (hT : en_all2 eg_cle T (k_T0 κ) = true)
    (hfr : k_fr κ + 1 ≤ R.frames) (hlo : 8 + (r.2.2.1 + 11) + k_lo κ ≤ R.locals) (hc1 : cs + k_mc κ ≤ R.cells) (hc2 : sl + k_ms κ ≤ R.slots) (hS8 : S.length ≤ 8) (hd : decode cc pc = .ok (.invokespecial i, 3))
    (k : en_go p l e R s m args below meth c Q D tys b0 nL N0 ad0 (pc + 3, L, (k_rv κ).toList ++ S, k_T1 κ, cs + k_mc κ, sl + k_ms κ)) : en_go p l e R s m args below meth c Q D tys b0 nL N0 ad0 (pc, L, A ++ .inr (j + 2) :: S, T, cs, sl) := by
  intro H locs ls stk ad h
  dsimp only at h
  obtain ⟨hl, hn0, hs, hW, hS, hr1, hr2⟩ := h
  obtain ⟨xs, us, rfl, hs1, hs2⟩ := en_vs_app hs
  obtain ⟨x, ys, rfl, hx, hs3⟩ := en_vs_cons hs2
  have hx0 := hx
  obtain ⟨rfl, hjl⟩ : x = .ref (ad j) ∧ j < T.length := hx
  subst hm
  have hlen := en_all2_len hT
  have hM := hκ r hr D tys aK aV b0 C.2.2.2.2.2.2.1 (Value.ref (ad j) :: xs.reverse) ad (by rw [← hlen]; exact en_all2_vs hav ⟨hx0, en_vs_rev hs1⟩)
  have hD := (en_clD hf hr).1
  obtain ⟨hnm, hret⟩ := (en_clD hf hr).2 (by omega)
  have hw := en_clW hf hr
  have hts := C.2.2.2.2.1
  have hG := en_codeG hr
  obtain ⟨y, code, ml, rt⟩ := r
  dsimp only at hret hnm hM hD hw hG hlo
  subst hret
  rcases hkd with rfl | rfl
  · have hB := callB_of (own := en_nm o) (index := i) (R := R) (rm := en_rm κ) (mc := k_mc κ) (ms := k_ms κ) n hts hG rfl rfl rfl (hts _ (en_ws_in (hw (.initialized y.cls) (by simp)) rfl)) (hts _ (en_ws_in (hw (.methodLink (en_nm o) i y) (by simp)) rfl)) hD ⟨hfr, hlo⟩
    exact es_after hlen hl hn0 hs3 hS hr1 hr2 (va_runI (As := xs.reverse) (rest := ys) ⟨C.1, C.2.1, C.2.2.1, C.2.2.2.1, hts⟩ hM ⟨hB, hnm, hts _ (en_ws_in (hw (.instanceMethod y) (by simp)) rfl)⟩ ⟨en_pc_blind, en_pre C hW hS hT⟩ rfl (by rw [List.length_reverse, ← en_vs_len hs1]; exact hA) hl.1 (by rw [List.reverse_reverse]) (lv_room (by rw [en_vs_cat hs3]; exact hS8)) hd ⟨hc1, hc2⟩) k
  · have hB := va_cnB (own := en_nm o) (host := "LoadsAhead") (index := i) (R := R) (rm := en_rm κ) (mc := k_mc κ) (ms := k_ms κ) n hts hG rfl rfl rfl (C.2.2.2.2.2.2.2.2.1.1 _ (en_clN hf hr (Or.inr rfl))) (hts _ (en_ws_in (hw (.initialized y.cls) (by simp)) rfl)) hD ⟨hfr, hlo⟩
    exact es_after hlen hl hn0 hs3 hS hr1 hr2 (va_runIN (host := "LoadsAhead") (As := xs.reverse) (rest := ys) ⟨C.1, C.2.1, C.2.2.1, C.2.2.2.1, hts⟩ hM ⟨hB, hnm, hts _ (en_ws_in (hw (.instanceMethod y) (by simp)) rfl)⟩ ⟨en_pc_blind, en_pre C hW hS hT⟩ rfl (by rw [List.length_reverse, ← en_vs_len hs1]; exact hA) hl.1 (by rw [List.reverse_reverse]) (lv_room (by rw [en_vs_cat hs3]; exact hS8)) hd ⟨hc1, hc2⟩) k
theorem es_callS (C : en_cx p s m args meth c cc nL o D tys aK aV b0) {i mi n kd : Nat} {r : MethodName × ByteArray × Nat × Option FieldType} {A : List en_V} (hf : en_find o i en_cl = some (kd, mi, n)) (hkd : kd = 1 ∨ kd = 2) (hr : en_ms[mi]? = some r) (hκ : en_ok l κ) (hm : κ.1 = mi) (hA : A.length = n) (hav : en_all2 en_le A.reverse κ.2.1 = true) (hT : en_all2 eg_cle T (k_T0 κ) = true)
    (hfr : k_fr κ + 1 ≤ R.frames) (hlo : 8 + (r.2.2.1 + 11) + k_lo κ ≤ R.locals) (hc1 : cs + k_mc κ ≤ R.cells) (hc2 : sl + k_ms κ ≤ R.slots) (hS8 : S.length ≤ 8) (hd : decode cc pc = .ok (.invokestatic i, 3))
    (k : en_go p l e R s m args below meth c Q D tys b0 nL N0 ad0 (pc + 3, L, (k_rv κ).toList ++ S, k_T1 κ, cs + k_mc κ, sl + k_ms κ)) : en_go p l e R s m args below meth c Q D tys b0 nL N0 ad0 (pc, L, A ++ S, T, cs, sl) := by
  intro H locs ls stk ad h
  dsimp only at h
  obtain ⟨hl, hn0, hs, hW, hS, hr1, hr2⟩ := h
  obtain ⟨xs, ys, rfl, hs1, hs3⟩ := en_vs_app hs
  subst hm
  have hlen := en_all2_len hT
  have hM := hκ r hr D tys aK aV b0 C.2.2.2.2.2.2.1 xs.reverse ad (by rw [← hlen]; exact en_args hs1 hav)
  have hD := (en_clD hf hr).1
  have hw := en_clW hf hr
  have hts := C.2.2.2.2.1
  rcases hkd with rfl | rfl
  · have hB := callB_of (own := en_nm o) (index := i) (R := R) (rm := en_rm κ) (mc := k_mc κ) (ms := k_ms κ) n hts (en_codeG hr) rfl rfl rfl (hts _ (en_ws_in (hw (.initialized r.1.cls) (by simp)) rfl)) (hts _ (en_ws_in (hw (.methodLink (en_nm o) i r.1) (by simp)) rfl)) hD ⟨hfr, hlo⟩
    exact es_after hlen hl hn0 hs3 hS hr1 hr2 (va_runS (As := xs.reverse) (rest := ys) ⟨C.1, C.2.1, C.2.2.1, C.2.2.2.1, hts⟩ hM ⟨hB, hts _ (en_ws_in (hw (.static r.1) (by simp)) rfl)⟩ ⟨en_pc_blind, en_pre C hW hS hT⟩ rfl (by rw [List.length_reverse, ← en_vs_len hs1]; exact hA) hl.1 (by rw [List.reverse_reverse]) (lv_room (by rw [en_vs_cat hs3]; exact hS8)) hd ⟨hc1, hc2⟩) k
  · have hB := va_cnB (own := en_nm o) (host := "LoadsAhead") (index := i) (R := R) (rm := en_rm κ) (mc := k_mc κ) (ms := k_ms κ) n hts (en_codeG hr) rfl rfl rfl (C.2.2.2.2.2.2.2.2.1.1 _ (en_clN hf hr (Or.inl rfl))) (hts _ (en_ws_in (hw (.initialized r.1.cls) (by simp)) rfl)) hD ⟨hfr, hlo⟩
    exact es_after hlen hl hn0 hs3 hS hr1 hr2 (va_runSN (host := "LoadsAhead") (As := xs.reverse) (rest := ys) ⟨C.1, C.2.1, C.2.2.1, C.2.2.2.1, hts⟩ hM ⟨hB, hts _ (en_ws_in (hw (.static r.1) (by simp)) rfl), trivial⟩ ⟨en_pc_blind, en_pre C hW hS hT⟩ rfl (by rw [List.length_reverse, ← en_vs_len hs1]; exact hA) hl.1 (by rw [List.reverse_reverse]) (lv_room (by rw [en_vs_cat hs3]; exact hS8)) hd ⟨hc1, hc2⟩) k
theorem es_callP (C : en_cx p s m args meth c cc nL o D tys aK aV b0) {i mi n kd : Nat} {r : MethodName × ByteArray × Nat × Option FieldType} {A : List en_V} (hf : en_find o i en_cl = some (kd, mi, n)) (hkd : kd = 1 ∨ kd = 2) (hr : en_ms[mi]? = some r) (hκ : en_ok l κ) (hm : κ.1 = mi) (hA : A.length = n) (hav : en_all2 en_le A.reverse κ.2.1 = true) (hT : k_T0 κ = []) (hI : κ.2.1.all en_isI = true)
    (hfr : k_fr κ + 1 ≤ R.frames) (hlo : 8 + (r.2.2.1 + 11) + k_lo κ ≤ R.locals) (hc1 : cs + k_mc κ ≤ R.cells) (hc2 : sl + k_ms κ ≤ R.slots) (hS8 : S.length ≤ 8) (hd : decode cc pc = .ok (.invokestatic i, 3))
    (k : en_go p l e R s m args below meth c Q D tys b0 nL N0 ad0 (pc + 3, L, (k_rv κ).toList ++ S, T, cs + k_mc κ, sl + k_ms κ)) : en_go p l e R s m args below meth c Q D tys b0 nL N0 ad0 (pc, L, A ++ S, T, cs, sl) := by
  intro H locs ls stk ad h
  dsimp only at h
  obtain ⟨hl, hn0, hs, hW, hS, hr1, hr2⟩ := h
  obtain ⟨xs, ys, rfl, hs1, hs3⟩ := en_vs_app hs
  subst hm
  have hM := hκ r hr D tys aK aV H.size C.2.2.2.2.2.2.1 xs.reverse ad (en_vs_ints hI (en_args hs1 hav))
  have hD := (en_clD hf hr).1
  have hw := en_clW hf hr
  have hts := C.2.2.2.2.1
  rw [hT] at hM
  rcases hkd with rfl | rfl
  · have hB := callB_of (own := en_nm o) (index := i) (R := R) (rm := en_rm κ) (mc := k_mc κ) (ms := k_ms κ) n hts (en_codeG hr) rfl rfl rfl (hts _ (en_ws_in (hw (.initialized r.1.cls) (by simp)) rfl)) (hts _ (en_ws_in (hw (.methodLink (en_nm o) i r.1) (by simp)) rfl)) hD ⟨hfr, hlo⟩
    exact es_afterP C hl hn0 hs3 hW hS hr1 hr2 (va_runS (As := xs.reverse) (rest := ys) ⟨C.1, C.2.1, C.2.2.1, C.2.2.2.1, hts⟩ hM ⟨hB, hts _ (en_ws_in (hw (.static r.1) (by simp)) rfl)⟩ ⟨en_pc_blind, en_preP C hS⟩ rfl (by rw [List.length_reverse, ← en_vs_len hs1]; exact hA) hl.1 (by rw [List.reverse_reverse]) (lv_room (by rw [en_vs_cat hs3]; exact hS8)) hd ⟨hc1, hc2⟩) k
  · have hB := va_cnB (own := en_nm o) (host := "LoadsAhead") (index := i) (R := R) (rm := en_rm κ) (mc := k_mc κ) (ms := k_ms κ) n hts (en_codeG hr) rfl rfl rfl (C.2.2.2.2.2.2.2.2.1.1 _ (en_clN hf hr (Or.inl rfl))) (hts _ (en_ws_in (hw (.initialized r.1.cls) (by simp)) rfl)) hD ⟨hfr, hlo⟩
    exact es_afterP C hl hn0 hs3 hW hS hr1 hr2 (va_runSN (host := "LoadsAhead") (As := xs.reverse) (rest := ys) ⟨C.1, C.2.1, C.2.2.1, C.2.2.2.1, hts⟩ hM ⟨hB, hts _ (en_ws_in (hw (.static r.1) (by simp)) rfl), trivial⟩ ⟨en_pc_blind, en_preP C hS⟩ rfl (by rw [List.length_reverse, ← en_vs_len hs1]; exact hA) hl.1 (by rw [List.reverse_reverse]) (lv_room (by rw [en_vs_cat hs3]; exact hS8)) hd ⟨hc1, hc2⟩) k
end ENC
