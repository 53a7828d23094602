def en_mo : List Nat := [8, 7, 1, 3, 0, 6, 10, 4, 2, 5, 8, 8, 8, 7, 8, 7, 11, 0, 0, 7, 7, 7, 0, 0, 0, 0, 7, 7, 7, 0, 11, 0, 0, 0, 0, 0, 7, 7, 0, 7, 8, 3, 3, 3, 3, 7, 3, 3, 3, 3, 3, 3, 8, 3, 3, 6, 5, 8, 8, 1, 1, 6, 6, 6, 4, 1, 1, 3, 1, 1, 8, 1, 3, 1, 1, 6, 1, 1, 1, 1, 3, 1, 1, 1, 6, 1, 0, 0, 0, 0, 0, 1, 1, 1, 0, 6, 1, 1, 4, 8, 8, 8, 8, 8, 8, 8, 8, 3, 8, 8, 8, 2, 2, 2, 8, 8, 8, 8, 8, 8, 8, 2, 2, 8, 5, 8, 8, 6, 8, 8, 8, 8, 8, 3, 6, 9, 9, 9, 9, 9, 9, 9, 9, 9, 9, 9, 9, 9, 9, 9, 9, 9, 9, 9, 9, 9, 9, 9, 9, 9, 9, 9, 9, 9, 9, 9, 9, 9, 9, 9, 9, 9, 9, 9, 9, 9, 9, 9, 9, 9, 9, 9, 9, 9, 9, 9, 9, 9, 9, 9, 9, 9, 9, 9, 9, 9, 9, 9, 9, 9, 9, 9, 9, 9, 9, 9, 9, 9, 9, 9, 9, 9, 9, 9, 9, 9, 9, 9, 9, 9, 9, 9, 9, 9, 9, 9, 9, 9, 9, 9, 9, 9, 9, 9, 9, 9, 9, 9, 9, 9, 9, 9]
theorem en_mo_all : en_ms.length = en_mo.length ∧ (en_ms.zip en_mo).all (fun q => decide (en_nm q.2 = q.1.1.cls)) = true := by decide +kernel
theorem en_mo_ok {i ci : Nat} {r : MethodName × ByteArray × Nat × Option FieldType} (hr : en_ms[i]? = some r) (hc : en_mo[i]? = some ci) : en_nm ci = r.1.cls := by
  have h := List.all_eq_true.mp en_mo_all.2 (r, ci) (List.mem_of_getElem? (i := i) (by rw [List.getElem?_zip_eq_some]; exact ⟨hr, hc⟩))
  simpa using h
theorem en_nm_cl {ci : Nat} {r : vw_C} (h : vwCl[ci]? = some r) : r.1 = en_nm ci := by
  match ci, h with
  | 0, h => cases h; rfl
  | 1, h => cases h; rfl
  | 2, h => cases h; rfl
  | 3, h => cases h; rfl
  | 4, h => cases h; rfl
  | 5, h => cases h; rfl
  | 6, h => cases h; rfl
  | 7, h => cases h; rfl
  | 8, h => cases h; rfl
  | 9, h => cases h; rfl
  | k + 10, h => simp [vwCl] at h
theorem en_v_int {N M : Nat} {ad ad' : Nat → Nat} {r : en_V} {x : Int32} (h : en_v N ad r (.int x)) : en_v M ad' r (.int x) := by
  match r, h with
  | .inl q, h => exact h
  | .inr 0, h => rcases h with h | ⟨a, h⟩ <;> cases h
  | .inr 1, h => cases h
  | .inr (k + 2), h => cases h.1
def en_isI (a : en_V) : Bool := match a with
  | .inl _ => true
  | _ => false
theorem en_vs_ints {N M : Nat} {ad ad' : Nat → Nat} : ∀ {as : List en_V} {xs : List Value}, as.all en_isI = true → en_vs N ad as xs → en_vs M ad' as xs
  | [], [], _, _ => trivial
  | a :: as, x :: xs, h, hx => by
    simp only [List.all_cons, Bool.and_eq_true] at h
    refine ⟨?_, en_vs_ints h.2 hx.2⟩
    match a, h.1, hx.1 with
    | .inl q, _, hx => exact hx
  | [], _ :: _, _, h => h.elim
  | _ :: _, [], _, h => h.elim
theorem en_codeG {mi : Nat} {r : MethodName × ByteArray × Nat × Option FieldType} (hr : en_ms[mi]? = some r) : GoodIn en_ws (Cond.code r.1 r.2.1 r.2.2.1 r.2.2.2 :: en_ws) := by
  intro w hw
  rcases List.mem_cons.mp hw with rfl | hw
  · exact ⟨en_ws_in (en_ms_in r (List.mem_of_getElem? hr)) rfl, good_of_word rfl⟩
  · exact ⟨hw, good_of_word (List.mem_filter.mp hw).2⟩
theorem en_clD {o i kd mi n : Nat} {r : MethodName × ByteArray × Nat × Option FieldType} (hf : en_find o i en_cl = some (kd, mi, n)) (hr : en_ms[mi]? = some r) : (r.1.cls ≠ "java/lang/invoke/MethodHandle" ∧ r.1.cls ≠ "java/lang/invoke/VarHandle" ∧ (parseMethodDescriptor r.1.desc).map (fun d => d.parameters.length) = some n) ∧ (3 ≤ kd → r.1.name = "<init>" ∧ r.2.2.2 = none) := by
  have h := en_cl_ok _ (en_find_mem hf)
  have e : en_cok (o, i, kd, mi, n) = (en_mok r && decide ((parseMethodDescriptor r.1.desc).map (fun d => d.parameters.length) = some n) && (decide (kd < 3) || (decide (r.1.name = "<init>") && decide (r.2.2.2 = none)))) := by
    show (match en_ms[mi]? with
      | some r => _
      | none => _) = _
    rw [hr]
  rw [e] at h
  simp only [en_mok, Bool.and_eq_true, Bool.or_eq_true, decide_eq_true_eq] at h
  obtain ⟨⟨⟨h1, h2⟩, h3⟩, h4⟩ := h
  exact ⟨⟨h1, h2, h3⟩, fun hk => by
    rcases h4 with h4 | h4
    · omega
    · exact h4⟩
theorem en_clW {o i kd mi n : Nat} {r : MethodName × ByteArray × Nat × Option FieldType} (hf : en_find o i en_cl = some (kd, mi, n)) (hr : en_ms[mi]? = some r) : ∀ w ∈ (match kd with
    | 0 => [.methodLink (en_nm o) i r.1, .instanceMethod r.1, .selects r.1.cls r.1 r.1, .initialized r.1.cls]
    | 1 => [.methodLink (en_nm o) i r.1, .static r.1, .initialized r.1.cls]
    | 2 => [.static r.1, .initialized r.1.cls]
    | 3 => [.methodLink (en_nm o) i r.1, .instanceMethod r.1, .initialized r.1.cls]
    | _ => [.instanceMethod r.1, .initialized r.1.cls] : List Cond), w ∈ lw_tbl := by
  intro w hw
  refine en_cl_in _ (en_find_mem hf) w ?_
  show w ∈ (match en_ms[mi]? with
      | some r => _
      | none => _)
  rw [hr]
  exact hw
theorem en_clN {o i kd mi n : Nat} {r : MethodName × ByteArray × Nat × Option FieldType} (hf : en_find o i en_cl = some (kd, mi, n)) (hr : en_ms[mi]? = some r) (hk : kd = 2 ∨ kd = 4) : Cond.methodLinkNest (en_nm o) i r.1 "LoadsAhead" ∈ en_nest := by
  unfold en_nest
  refine List.mem_flatMap.mpr ⟨(o, i, kd, mi, n), List.mem_filter.mpr ⟨en_find_mem hf, by rcases hk with rfl | rfl <;> rfl⟩, ?_⟩
  show _ ∈ (match en_ms[mi]? with
      | some r => _
      | none => _)
  rw [hr]
  exact List.mem_singleton.mpr rfl
section ENC
variable {p : Program} {l : Launch} {e : Env} {R : Room} {s : State} {m : MethodId} {args : Array Value} {below : List Frame} {meth : Method} {c : Code} {Q : State → Prop} {cc : ByteArray} {D : va_G} {tys : List (ClassId × FieldType)} {aK aV b0 nL o N0 : Nat} {ad0 : Nat → Nat}
variable {pc : Nat} {L : en_L} {S : List en_V} {T : en_T} {cs sl : Nat} {κ : en_K}
theorem es_after {H : Heap} {locs : List Loc} {ls : Array Slot} {stk rest : List Value} {ad : Nat → Nat} {av : Array Value} (hlen : T.length = (k_T0 κ).length) (hl : en_l T.length ad L nL ls) (hn : L.length = nL) (hs : en_vs T.length ad S rest) (hS : va_S (fun q => b0 ≤ q) s.heap H locs) (hr : N0 ≤ T.length) (hr2 : ∀ k, k < N0 → ad k = ad0 k)
    (hrun : va_Run p l e R s m args below meth c H locs cs sl (k_mc κ) (k_ms κ) (F0 m pc ls stk) rest (en_qc D tys b0 (k_T0 κ).length ad (k_rv κ) (k_T1 κ) av) (fun q => b0 ≤ q))
    (k : en_go p l e R s m args below meth c Q D tys b0 nL N0 ad0 (pc + 3, L, (k_rv κ).toList ++ S, k_T1 κ, cs + k_mc κ, sl + k_ms κ)) : W p l e R s m args below meth c H locs cs sl Q (F0 m pc ls stk) := by
  cases hrv : k_rv κ with
  | none =>
    rw [hrv] at hrun k
    refine va_callv (a := av) hrun hS (fun q _ h => h) (fun q h => h) (fun u t H1 locs1 ht _ hpost hB _ _ hS1 => ?_)
    obtain ⟨p1, p2⟩ := hpost
    subst ht
    exact k t.heap locs1 ls rest u ⟨en_l_mono (by dsimp only; omega) (fun k hk => p2 k (by omega)) hl, hn, en_vs_mono (by dsimp only; omega) (fun k hk => p2 k (by omega)) hs, hB, hS1, by dsimp only; omega, fun k hk => by rw [p2 k (by omega)]; exact hr2 k hk⟩
  | some r =>
    rw [hrv] at hrun k
    refine va_calli (a := av) hrun hS (fun q _ h => h) (fun q h => h) (fun x u t H1 locs1 ht _ hpost hB _ _ hS1 => ?_)
    obtain ⟨p0, p1, p2⟩ := hpost
    subst ht
    exact k t.heap locs1 ls (.int x :: rest) u ⟨en_l_mono (by dsimp only; omega) (fun k hk => p2 k (by omega)) hl, hn, ⟨p0, en_vs_mono (by dsimp only; omega) (fun k hk => p2 k (by omega)) hs⟩, hB, hS1, by dsimp only; omega, fun k hk => by rw [p2 k (by omega)]; exact hr2 k hk⟩
theorem es_afterP (C : en_cx p s m args meth c cc nL o D tys aK aV b0) {H : Heap} {locs : List Loc} {ls : Array Slot} {stk rest : List Value} {ad : Nat → Nat} {av : Array Value} {n0 : Nat} (hl : en_l T.length ad L nL ls) (hn : L.length = nL) (hs : en_vs T.length ad S rest) (hW : en_W D tys (fun q => b0 ≤ q) T ad H) (hS : va_S (fun q => b0 ≤ q) s.heap H locs) (hr : N0 ≤ T.length) (hr2 : ∀ k, k < N0 → ad k = ad0 k)
    (hrun : va_Run p l e R s m args below meth c H locs cs sl (k_mc κ) (k_ms κ) (F0 m pc ls stk) rest (en_qc D tys H.size n0 ad (k_rv κ) (k_T1 κ) av) (fun q => H.size ≤ q))
    (k : en_go p l e R s m args below meth c Q D tys b0 nL N0 ad0 (pc + 3, L, (k_rv κ).toList ++ S, T, cs + k_mc κ, sl + k_ms κ)) : W p l e R s m args below meth c H locs cs sl Q (F0 m pc ls stk) := by
  have hsz := hS.1
  have hb := C.2.2.2.2.2.2.2.1
  cases hrv : k_rv κ with
  | none =>
    rw [hrv] at hrun k
    refine va_callv (a := av) hrun hS (fun q h1 h2 => absurd h2 (by omega)) (fun q (h : H.size ≤ q) => by show b0 ≤ q; omega) (fun u t H1 locs1 ht _ hpost hB _ hfr hS1 => ?_)
    exact k H1 locs1 ls rest ad ⟨hl, hn, hs, hW.kept (fun q hq => hfr q hq (by omega)), hS1, hr, hr2⟩
  | some r =>
    rw [hrv] at hrun k
    refine va_calli (a := av) hrun hS (fun q h1 h2 => absurd h2 (by omega)) (fun q (h : H.size ≤ q) => by show b0 ≤ q; omega) (fun x u t H1 locs1 ht _ hpost hB _ hfr hS1 => ?_)
    exact k H1 locs1 ls (.int x :: rest) ad ⟨hl, hn, ⟨en_v_int hpost.1, hs⟩, hW.kept (fun q hq => hfr q hq (by omega)), hS1, hr, hr2⟩
theorem en_pre (C : en_cx p s m args meth c cc nL o D tys aK aV b0) {H : Heap} {locs : List Loc} {ad : Nat → Nat} {as : List Value} (hW : en_W D tys (fun q => b0 ≤ q) T ad H) (hS : va_S (fun q => b0 ≤ q) s.heap H locs) (hT : en_all2 en_cle T (k_T0 κ) = true) : ∀ U : State, U.heap = H → s.WarmedH U.vm → en_pc D tys aK aV b0 (k_T0 κ) ad as as.toArray U := by
  intro U hU hw
  refine ⟨rfl, ?_, by rw [hU]; exact hW.le hT, va_K.moved hw.alike C.2.2.2.2.2.1, C.2.2.2.2.2.2.2.2.1.go (Nat.le_refl _) hS hU hw⟩
  rw [hU]
  exact Nat.le_trans C.2.2.2.2.2.2.2.1 hS.1
theorem en_preP (C : en_cx p s m args meth c cc nL o D tys aK aV b0) {H : Heap} {locs : List Loc} {ad : Nat → Nat} {as : List Value} (hS : va_S (fun q => b0 ≤ q) s.heap H locs) : ∀ U : State, U.heap = H → s.WarmedH U.vm → en_pc D tys aK aV H.size [] ad as as.toArray U := by
  intro U hU hw
  refine ⟨rfl, by rw [hU]; exact Nat.le_refl _, ⟨[], rfl, fun k t h => by simp at h, fun k q h => by simp at h, ⟨fun i j p q h => by simp at h, fun k q h => by simp at h⟩⟩, va_K.moved hw.alike C.2.2.2.2.2.1, C.2.2.2.2.2.2.2.2.1.go (Nat.le_trans C.2.2.2.2.2.2.2.1 hS.1) hS hU hw⟩
theorem en_args {N : Nat} {ad : Nat → Nat} {A B : List en_V} {xs : List Value} (h : en_vs N ad A xs) (hA : en_all2 en_le A.reverse B = true) : en_vs N ad B xs.reverse := en_all2_vs hA (en_vs_rev h)
theorem es_callV (C : en_cx p s m args meth c cc nL o D tys aK aV b0) {i mi n j ci : Nat} {r : MethodName × ByteArray × Nat × Option FieldType} {A fs : List en_V} {rc : vw_C} (hf : en_find o i en_cl = some (0, mi, n)) (hr : en_ms[mi]? = some r) (hκ : en_ok l κ) (hm : κ.1 = mi) (hA : A.length = n) (hav : en_all2 en_le (.inr (j + 2) :: A.reverse) κ.2.1 = true) (hT : en_all2 en_cle T (k_T0 κ) = true)
    (hj : T[j]? = some (.inr (ci, fs))) (hrc : vwCl[ci]? = some rc) (hmo : en_mo[mi]? = some ci) (hfr : k_fr κ + 1 ≤ R.frames) (hlo : 8 + (r.2.2.1 + 11) + k_lo κ ≤ R.locals) (hc1 : cs + k_mc κ ≤ R.cells) (hc2 : sl + k_ms κ ≤ R.slots) (hS8 : S.length ≤ 8) (hd : decode cc pc = .ok (.invokevirtual i, 3))
    (k : en_go p l e R s m args below meth c Q D tys b0 nL N0 ad0 (pc + 3, L, (k_rv κ).toList ++ S, k_T1 κ, cs + k_mc κ, sl + k_ms κ)) : en_go p l e R s m args below meth c Q D tys b0 nL N0 ad0 (pc, L, A ++ .inr (j + 2) :: S, T, cs, sl) := by
  intro H locs ls stk ad h
  dsimp only at h
  obtain ⟨hl, hn0, hs, hW, hS, hr1, hr2⟩ := h
  obtain ⟨xs, us, rfl, hs1, hs2⟩ := en_vs_app hs
  obtain ⟨x, ys, rfl, hx, hs3⟩ := en_vs_cons hs2
  have hx0 := hx
  obtain ⟨rfl, hjl⟩ : x = .ref (ad j) ∧ j < T.length := hx
  subst hm
  have hlen := en_all2_len hT
  have hW0 := hW
  obtain ⟨ws, w1, w2, w3, w4⟩ := hW
  obtain ⟨e0, g1, vs, rfl, g2⟩ := w2 j _ hj
  have hM := hκ r hr D tys aK aV b0 C.2.2.2.2.2.2.1 (Value.ref (ad j) :: xs.reverse) ad (by rw [← hlen]; exact en_all2_vs hav ⟨hx0, en_vs_rev hs1⟩)
  have hD := (en_clD hf hr).1
  have hw := en_clW hf hr
  have hts := C.2.2.2.2.1
  have hB := callB_of (own := en_nm o) (index := i) (R := R) (rm := en_rm κ) (mc := k_mc κ) (ms := k_ms κ) n hts (en_codeG hr) rfl rfl rfl (hts _ (en_ws_in (hw (.initialized r.1.cls) (by simp)) rfl)) (hts _ (en_ws_in (hw (.methodLink (en_nm o) i r.1) (by simp)) rfl)) hD ⟨hfr, hlo⟩
  have hrecv := va_recv C.2.2.2.2.2.1 w3 hrc g1
  rw [(en_nm_cl hrc).trans (en_mo_ok hr hmo)] at hrecv
  refine es_after hlen hl hn0 hs3 hS hr1 hr2 (va_runV (C := r.1.cls) (As := xs.reverse) (rest := ys) ⟨C.1, C.2.1, C.2.2.1, C.2.2.2.1, hts⟩ hM ⟨hB, hts _ (en_ws_in (hw (.instanceMethod r.1) (by simp)) rfl), hts _ (en_ws_in (hw (.selects r.1.cls r.1 r.1) (by simp)) rfl)⟩ ⟨en_pc_blind, hrecv, en_pre C hW0 hS hT⟩ rfl (by rw [List.length_reverse, ← en_vs_len hs1]; exact hA) hl.1 (by rw [List.reverse_reverse]) (lv_room (by rw [en_vs_cat hs3]; exact hS8)) hd ⟨hc1, hc2⟩) k
theorem es_callI (C : en_cx p s m args meth c cc nL o D tys aK aV b0) {i mi n j kd : Nat} {r : MethodName × ByteArray × Nat × Option FieldType} {A : List en_V} (hf : en_find o i en_cl = some (kd, mi, n)) (hkd : kd = 3 ∨ kd = 4) (hr : en_ms[mi]? = some r) (hκ : en_ok l κ) (hm : κ.1 = mi) (hA : A.length = n) (hav : en_all2 en_le (.inr (j + 2) :: A.reverse) κ.2.1 = true) (hT : en_all2 en_cle T (k_T0 κ) = true)
    (hfr : k_fr κ + 1 ≤ R.frames) (hlo : 8 + (r.2.2.1 + 11) + k_lo κ ≤ R.locals) (hc1 : cs + k_mc κ ≤ R.cells) (hc2 : sl + k_ms κ ≤ R.slots) (hS8 : S.length ≤ 8) (hd : decode cc pc = .ok (.invokespecial i, 3))
    (k : en_go p l e R s m args below meth c Q D tys b0 nL N0 ad0 (pc + 3, L, (k_rv κ).toList ++ S, k_T1 κ, cs + k_mc κ, sl + k_ms κ)) : en_go p l e R s m args below meth c Q D tys b0 nL N0 ad0 (pc, L, A ++ .inr (j + 2) :: S, T, cs, sl) := by
  intro H locs ls stk ad h
  dsimp only at h
  obtain ⟨hl, hn0, hs, hW, hS, hr1, hr2⟩ := h
  obtain ⟨xs, us, rfl, hs1, hs2⟩ := en_vs_app hs
  obtain ⟨x, ys, rfl, hx, hs3⟩ := en_vs_cons hs2
  have hx0 := hx
  obtain ⟨rfl, hjl⟩ : x = .ref (ad j) ∧ j < T.length := hx
  subst hm
  have hlen := en_all2_len hT
  have hM := hκ r hr D tys aK aV b0 C.2.2.2.2.2.2.1 (Value.ref (ad j) :: xs.reverse) ad (by rw [← hlen]; exact en_all2_vs hav ⟨hx0, en_vs_rev hs1⟩)
  have hD := (en_clD hf hr).1
  obtain ⟨hnm, hret⟩ := (en_clD hf hr).2 (by omega)
  have hw := en_clW hf hr
  have hts := C.2.2.2.2.1
  have hG := en_codeG hr
  obtain ⟨y, code, ml, rt⟩ := r
  dsimp only at hret hnm hM hD hw hG hlo
  subst hret
  rcases hkd with rfl | rfl
  · have hB := callB_of (own := en_nm o) (index := i) (R := R) (rm := en_rm κ) (mc := k_mc κ) (ms := k_ms κ) n hts hG rfl rfl rfl (hts _ (en_ws_in (hw (.initialized y.cls) (by simp)) rfl)) (hts _ (en_ws_in (hw (.methodLink (en_nm o) i y) (by simp)) rfl)) hD ⟨hfr, hlo⟩
    exact es_after hlen hl hn0 hs3 hS hr1 hr2 (va_runI (As := xs.reverse) (rest := ys) ⟨C.1, C.2.1, C.2.2.1, C.2.2.2.1, hts⟩ hM ⟨hB, hnm, hts _ (en_ws_in (hw (.instanceMethod y) (by simp)) rfl)⟩ ⟨en_pc_blind, en_pre C hW hS hT⟩ rfl (by rw [List.length_reverse, ← en_vs_len hs1]; exact hA) hl.1 (by rw [List.reverse_reverse]) (lv_room (by rw [en_vs_cat hs3]; exact hS8)) hd ⟨hc1, hc2⟩) k
  · have hB := va_cnB (own := en_nm o) (host := "LoadsAhead") (index := i) (R := R) (rm := en_rm κ) (mc := k_mc κ) (ms := k_ms κ) n hts hG rfl rfl rfl (C.2.2.2.2.2.2.2.2.1.1 _ (en_clN hf hr (Or.inr rfl))) (hts _ (en_ws_in (hw (.initialized y.cls) (by simp)) rfl)) hD ⟨hfr, hlo⟩
    exact es_after hlen hl hn0 hs3 hS hr1 hr2 (va_runIN (host := "LoadsAhead") (As := xs.reverse) (rest := ys) ⟨C.1, C.2.1, C.2.2.1, C.2.2.2.1, hts⟩ hM ⟨hB, hnm, hts _ (en_ws_in (hw (.instanceMethod y) (by simp)) rfl)⟩ ⟨en_pc_blind, en_pre C hW hS hT⟩ rfl (by rw [List.length_reverse, ← en_vs_len hs1]; exact hA) hl.1 (by rw [List.reverse_reverse]) (lv_room (by rw [en_vs_cat hs3]; exact hS8)) hd ⟨hc1, hc2⟩) k
theorem es_callS (C : en_cx p s m args meth c cc nL o D tys aK aV b0) {i mi n kd : Nat} {r : MethodName × ByteArray × Nat × Option FieldType} {A : List en_V} (hf : en_find o i en_cl = some (kd, mi, n)) (hkd : kd = 1 ∨ kd = 2) (hr : en_ms[mi]? = some r) (hκ : en_ok l κ) (hm : κ.1 = mi) (hA : A.length = n) (hav : en_all2 en_le A.reverse κ.2.1 = true) (hT : en_all2 en_cle T (k_T0 κ) = true)
    (hfr : k_fr κ + 1 ≤ R.frames) (hlo : 8 + (r.2.2.1 + 11) + k_lo κ ≤ R.locals) (hc1 : cs + k_mc κ ≤ R.cells) (hc2 : sl + k_ms κ ≤ R.slots) (hS8 : S.length ≤ 8) (hd : decode cc pc = .ok (.invokestatic i, 3))
    (k : en_go p l e R s m args below meth c Q D tys b0 nL N0 ad0 (pc + 3, L, (k_rv κ).toList ++ S, k_T1 κ, cs + k_mc κ, sl + k_ms κ)) : en_go p l e R s m args below meth c Q D tys b0 nL N0 ad0 (pc, L, A ++ S, T, cs, sl) := by
  intro H locs ls stk ad h
  dsimp only at h
  obtain ⟨hl, hn0, hs, hW, hS, hr1, hr2⟩ := h
  obtain ⟨xs, ys, rfl, hs1, hs3⟩ := en_vs_app hs
  subst hm
  have hlen := en_all2_len hT
  have hM := hκ r hr D tys aK aV b0 C.2.2.2.2.2.2.1 xs.reverse ad (by rw [← hlen]; exact en_args hs1 hav)
  have hD := (en_clD hf hr).1
  have hw := en_clW hf hr
  have hts := C.2.2.2.2.1
  rcases hkd with rfl | rfl
  · have hB := callB_of (own := en_nm o) (index := i) (R := R) (rm := en_rm κ) (mc := k_mc κ) (ms := k_ms κ) n hts (en_codeG hr) rfl rfl rfl (hts _ (en_ws_in (hw (.initialized r.1.cls) (by simp)) rfl)) (hts _ (en_ws_in (hw (.methodLink (en_nm o) i r.1) (by simp)) rfl)) hD ⟨hfr, hlo⟩
    exact es_after hlen hl hn0 hs3 hS hr1 hr2 (va_runS (As := xs.reverse) (rest := ys) ⟨C.1, C.2.1, C.2.2.1, C.2.2.2.1, hts⟩ hM ⟨hB, hts _ (en_ws_in (hw (.static r.1) (by simp)) rfl)⟩ ⟨en_pc_blind, en_pre C hW hS hT⟩ rfl (by rw [List.length_reverse, ← en_vs_len hs1]; exact hA) hl.1 (by rw [List.reverse_reverse]) (lv_room (by rw [en_vs_cat hs3]; exact hS8)) hd ⟨hc1, hc2⟩) k
  · have hB := va_cnB (own := en_nm o) (host := "LoadsAhead") (index := i) (R := R) (rm := en_rm κ) (mc := k_mc κ) (ms := k_ms κ) n hts (en_codeG hr) rfl rfl rfl (C.2.2.2.2.2.2.2.2.1.1 _ (en_clN hf hr (Or.inl rfl))) (hts _ (en_ws_in (hw (.initialized r.1.cls) (by simp)) rfl)) hD ⟨hfr, hlo⟩
    exact es_after hlen hl hn0 hs3 hS hr1 hr2 (va_runSN (host := "LoadsAhead") (As := xs.reverse) (rest := ys) ⟨C.1, C.2.1, C.2.2.1, C.2.2.2.1, hts⟩ hM ⟨hB, hts _ (en_ws_in (hw (.static r.1) (by simp)) rfl), trivial⟩ ⟨en_pc_blind, en_pre C hW hS hT⟩ rfl (by rw [List.length_reverse, ← en_vs_len hs1]; exact hA) hl.1 (by rw [List.reverse_reverse]) (lv_room (by rw [en_vs_cat hs3]; exact hS8)) hd ⟨hc1, hc2⟩) k
theorem es_callP (C : en_cx p s m args meth c cc nL o D tys aK aV b0) {i mi n kd : Nat} {r : MethodName × ByteArray × Nat × Option FieldType} {A : List en_V} (hf : en_find o i en_cl = some (kd, mi, n)) (hkd : kd = 1 ∨ kd = 2) (hr : en_ms[mi]? = some r) (hκ : en_ok l κ) (hm : κ.1 = mi) (hA : A.length = n) (hav : en_all2 en_le A.reverse κ.2.1 = true) (hT : k_T0 κ = []) (hI : κ.2.1.all en_isI = true)
    (hfr : k_fr κ + 1 ≤ R.frames) (hlo : 8 + (r.2.2.1 + 11) + k_lo κ ≤ R.locals) (hc1 : cs + k_mc κ ≤ R.cells) (hc2 : sl + k_ms κ ≤ R.slots) (hS8 : S.length ≤ 8) (hd : decode cc pc = .ok (.invokestatic i, 3))
    (k : en_go p l e R s m args below meth c Q D tys b0 nL N0 ad0 (pc + 3, L, (k_rv κ).toList ++ S, T, cs + k_mc κ, sl + k_ms κ)) : en_go p l e R s m args below meth c Q D tys b0 nL N0 ad0 (pc, L, A ++ S, T, cs, sl) := by
  intro H locs ls stk ad h
  dsimp only at h
  obtain ⟨hl, hn0, hs, hW, hS, hr1, hr2⟩ := h
  obtain ⟨xs, ys, rfl, hs1, hs3⟩ := en_vs_app hs
  subst hm
  have hM := hκ r hr D tys aK aV H.size C.2.2.2.2.2.2.1 xs.reverse ad (en_vs_ints hI (en_args hs1 hav))
  have hD := (en_clD hf hr).1
  have hw := en_clW hf hr
  have hts := C.2.2.2.2.1
  rw [hT] at hM
  rcases hkd with rfl | rfl
  · have hB := callB_of (own := en_nm o) (index := i) (R := R) (rm := en_rm κ) (mc := k_mc κ) (ms := k_ms κ) n hts (en_codeG hr) rfl rfl rfl (hts _ (en_ws_in (hw (.initialized r.1.cls) (by simp)) rfl)) (hts _ (en_ws_in (hw (.methodLink (en_nm o) i r.1) (by simp)) rfl)) hD ⟨hfr, hlo⟩
    exact es_afterP C hl hn0 hs3 hW hS hr1 hr2 (va_runS (As := xs.reverse) (rest := ys) ⟨C.1, C.2.1, C.2.2.1, C.2.2.2.1, hts⟩ hM ⟨hB, hts _ (en_ws_in (hw (.static r.1) (by simp)) rfl)⟩ ⟨en_pc_blind, en_preP C hS⟩ rfl (by rw [List.length_reverse, ← en_vs_len hs1]; exact hA) hl.1 (by rw [List.reverse_reverse]) (lv_room (by rw [en_vs_cat hs3]; exact hS8)) hd ⟨hc1, hc2⟩) k
  · have hB := va_cnB (own := en_nm o) (host := "LoadsAhead") (index := i) (R := R) (rm := en_rm κ) (mc := k_mc κ) (ms := k_ms κ) n hts (en_codeG hr) rfl rfl rfl (C.2.2.2.2.2.2.2.2.1.1 _ (en_clN hf hr (Or.inl rfl))) (hts _ (en_ws_in (hw (.initialized r.1.cls) (by simp)) rfl)) hD ⟨hfr, hlo⟩
    exact es_afterP C hl hn0 hs3 hW hS hr1 hr2 (va_runSN (host := "LoadsAhead") (As := xs.reverse) (rest := ys) ⟨C.1, C.2.1, C.2.2.1, C.2.2.2.1, hts⟩ hM ⟨hB, hts _ (en_ws_in (hw (.static r.1) (by simp)) rfl), trivial⟩ ⟨en_pc_blind, en_preP C hS⟩ rfl (by rw [List.length_reverse, ← en_vs_len hs1]; exact hA) hl.1 (by rw [List.reverse_reverse]) (lv_room (by rw [en_vs_cat hs3]; exact hS8)) hd ⟨hc1, hc2⟩) k
end ENC
