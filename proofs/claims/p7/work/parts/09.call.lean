def en_mo : List Nat := [8, 7, 1, 3, 0, 6, 10, 4, 2, 5, 8, 8, 8, 7, 8, 7, 11, 0, 0, 7, 7, 7, 0, 0, 0, 0, 7, 7, 7, 0, 11, 0, 0, 0, 0, 0, 7, 7, 0, 7, 8, 3, 3, 3, 3, 7, 3, 3, 3, 3, 3, 3, 8, 3, 3, 6, 5, 8, 8, 1, 1, 6, 6, 6, 4, 1, 1, 3, 1, 1, 8, 1, 3, 1, 1, 6, 1, 1, 1, 1, 3, 1, 1, 1, 6, 1, 0, 0, 0, 0, 0, 1, 1, 1, 0, 6, 1, 1, 4, 8, 8, 8, 8, 8, 8, 8, 8, 3, 8, 8, 8, 2, 2, 2, 8, 8, 8, 8, 8, 8, 8, 2, 2, 8, 5, 8, 8, 6, 8, 8, 8, 8, 8, 3, 6, 9, 9, 9, 9, 9, 9, 9, 9, 9, 9, 9, 9, 9, 9, 9, 9, 9, 9, 9, 9, 9, 9, 9, 9, 9, 9, 9, 9, 9, 9, 9, 9, 9, 9, 9, 9, 9, 9, 9, 9, 9, 9, 9, 9, 9, 9, 9, 9, 9, 9, 9, 9, 9, 9, 9, 9, 9, 9, 9, 9, 9, 9, 9, 9, 9, 9, 9, 9, 9, 9, 9, 9, 9, 9, 9, 9, 9, 9, 9, 9, 9, 9, 9, 9, 9, 9, 9, 9, 9, 9, 9, 9, 9, 9, 9, 9, 9, 9, 9, 9, 9, 9, 9, 9, 9, 9, 9]
theorem en_mo_all : en_ms.length = en_mo.length ∧ (en_ms.zip en_mo).all (fun q => decide (en_nm q.2 = q.1.1.cls)) = true := by decide +kernel
theorem en_mo_ok {i ci : Nat} {r : MethodName × ByteArray × Nat × Option FieldType} (hr : en_ms[i]? = some r) (hc : en_mo[i]? = some ci) : en_nm ci = r.1.cls := by
  have h := List.all_eq_true.mp en_mo_all.2 (r, ci) (List.mem_of_getElem? (i := i) (by rw [List.getElem?_zip_eq_some]; exact ⟨hr, hc⟩))
  simpa using h
theorem en_nm_cl {ci : Nat} {r : vw_C} (h : vwCl[ci]? = some r) : r.1 = en_nm ci := by
  match ci, h with
  | 0, h => cases h; rfl
  | 1, h => cases h; rfl
  | 2, h => cases h; rfl
  | 3, h => cases h; rfl
  | 4, h => cases h; rfl
  | 5, h => cases h; rfl
  | 6, h => cases h; rfl
  | 7, h => cases h; rfl
  | 8, h => cases h; rfl
  | 9, h => cases h; rfl
  | k + 10, h => simp [vwCl] at h
theorem en_v_int {N M : Nat} {ad ad' : Nat → Nat} {r : en_V} {x : Int32} (h : en_v N ad r (.int x)) : en_v M ad' r (.int x) := by
  match r, h with
  | .inl q, h => exact h
  | .inr 0, h => rcases h with h | ⟨a, h⟩ <;> cases h
  | .inr 1, h => cases h
  | .inr (k + 2), h => cases h.1
def en_isI (a : en_V) : Bool := match a with
  | .inl _ => true
  | _ => false
theorem en_vs_ints {N M : Nat} {ad ad' : Nat → Nat} : ∀ {as : List en_V} {xs : List Value}, as.all en_isI = true → en_vs N ad as xs → en_vs M ad' as xs
  | [], [], _, _ => trivial
  | a :: as, x :: xs, h, hx => by
    simp only [List.all_cons, Bool.and_eq_true] at h
    refine ⟨?_, en_vs_ints h.2 hx.2⟩
    match a, h.1, hx.1 with
    | .inl q, _, hx => exact hx
  | [], _ :: _, _, h => h.elim
  | _ :: _, [], _, h => h.elim
theorem en_codeG {mi : Nat} {r : MethodName × ByteArray × Nat × Option FieldType} (hr : en_ms[mi]? = some r) : GoodIn en_ws (Cond.code r.1 r.2.1 r.2.2.1 r.2.2.2 :: en_ws) := by
  intro w hw
  rcases List.mem_cons.mp hw with rfl | hw
  · exact ⟨en_ws_in (en_ms_in r (List.mem_of_getElem? hr)) rfl, good_of_word rfl⟩
  · exact ⟨hw, good_of_word (List.mem_filter.mp hw).2⟩
theorem en_clD {o i kd mi n : Nat} {r : MethodName × ByteArray × Nat × Option FieldType} (hf : en_find o i en_cl = some (kd, mi, n)) (hr : en_ms[mi]? = some r) : (r.1.cls ≠ "java/lang/invoke/MethodHandle" ∧ r.1.cls ≠ "java/lang/invoke/VarHandle" ∧ (parseMethodDescriptor r.1.desc).map (fun d => d.parameters.length) = some n) ∧ (3 ≤ kd → r.1.name = "<init>" ∧ r.2.2.2 = none) := by
  have h := en_cl_ok _ (en_find_mem hf)
  have e : en_cok (o, i, kd, mi, n) = (en_mok r && decide ((parseMethodDescriptor r.1.desc).map (fun d => d.parameters.length) = some n) && (decide (kd < 3) || (decide (r.1.name = "<init>") && decide (r.2.2.2 = none)))) := by
    show (match en_ms[mi]? with
      | some r => _
      | none => _) = _
    rw [hr]
  rw [e] at h
  simp only [en_mok, Bool.and_eq_true, Bool.or_eq_true, decide_eq_true_eq] at h
  obtain ⟨⟨⟨h1, h2⟩, h3⟩, h4⟩ := h
  exact ⟨⟨h1, h2, h3⟩, fun hk => by
    rcases h4 with h4 | h4
    · omega
    · exact h4⟩
theorem en_clW {o i kd mi n : Nat} {r : MethodName × ByteArray × Nat × Option FieldType} (hf : en_find o i en_cl = some (kd, mi, n)) (hr : en_ms[mi]? = some r) : ∀ w ∈ (match kd with
    | 0 => [.methodLink (en_nm o) i r.1, .instanceMethod r.1, .selects r.1.cls r.1 r.1, .initialized r.1.cls]
    | 1 => [.methodLink (en_nm o) i r.1, .static r.1, .initialized r.1.cls]
    | 2 => [.static r.1, .initialized r.1.cls]
    | 3 => [.methodLink (en_nm o) i r.1, .instanceMethod r.1, .initialized r.1.cls]
    | _ => [.instanceMethod r.1, .initialized r.1.cls] : List Cond), w ∈ lw_tbl := by
  intro w hw
  refine en_cl_in _ (en_find_mem hf) w ?_
  show w ∈ (match en_ms[mi]? with
      | some r => _
      | none => _)
  rw [hr]
  exact hw
theorem en_clN {o i kd mi n : Nat} {r : MethodName × ByteArray × Nat × Option FieldType} (hf : en_find o i en_cl = some (kd, mi, n)) (hr : en_ms[mi]? = some r) (hk : kd = 2 ∨ kd = 4) : Cond.methodLinkNest (en_nm o) i r.1 "LoadsAhead" ∈ en_nest := by
  unfold en_nest
  refine List.mem_flatMap.mpr ⟨(o, i, kd, mi, n), List.mem_filter.mpr ⟨en_find_mem hf, by rcases hk with rfl | rfl <;> rfl⟩, ?_⟩
  show _ ∈ (match en_ms[mi]? with
      | some r => _
      | none => _)
  rw [hr]
  exact List.mem_singleton.mpr rfl
abbrev ek : Type := Nat × List en_V × List ev_f × List (Nat × Nat) × List (Option en_V × List ev_f) × Nat × Nat
def ek_pre (κ : ek) : List ev_f := κ.2.2.1
def ek_wr (κ : ek) : List (Nat × Nat) := κ.2.2.2.1
def ek_out (κ : ek) : List (Option en_V × List ev_f) := κ.2.2.2.2.1
def ek_fr (κ : ek) : Nat := κ.2.2.2.2.2.1
def ek_lo (κ : ek) : Nat := κ.2.2.2.2.2.2
def ek_rm (κ : ek) : Room := { frames := ek_fr κ, cells := 0, slots := 0, locals := ek_lo κ }
def ev_ff (w : va_W) (f : ev_f) : Prop := f.1.1 = 2 ∧ ev_fact (fun _ => 0) #[] w f
theorem ev_ff_use {w : va_W} {f : ev_f} {γ : Nat → Int} {ls : Array Slot} (h : ev_ff w f) : ∃ x : Int32, ev_loc ls w f.1 x ∧ en_in f.2.1 x := by
  obtain ⟨h1, x, h2, h3, -⟩ := h
  refine ⟨x, ?_, h3⟩
  obtain ⟨⟨k, a, b⟩, u, g⟩ := f
  dsimp only at h1
  subst h1
  exact h2
def ek_pc (D : va_G) (tys : List (ClassId × FieldType)) (aK aV b0 : Nat) (w0 : va_W) (as : List Value) : Array Value → State → Prop := va_Pc as (fun U => b0 ≤ U.heap.size ∧ va_P D vwCl w0 U.heap ∧ va_D (fun q => b0 ≤ q) w0 ∧ va_K D vwCl tys U ∧ en_X b0 aK aV U)
def ek_qc (D : va_G) (tys : List (ClassId × FieldType)) (T : en_T) (I : va_W → Prop) (b0 : Nat) (ad : Nat → Nat) (w0 : va_W) (κ : ek) (v : Bool) : Array Value → State → Outcome → State → Prop := match v with
  | true => va_Qi (S := va_W) (fun x w => ev_w tys T ad w ∧ I w ∧ ev_fr (ek_wr κ) w0 w ∧ ∃ u ∈ ek_out κ, (∃ a, u.1 = some a ∧ en_v T.length ad a (.int x)) ∧ ∀ f ∈ u.2, ev_ff w f) (fun w t => va_P D vwCl w t.heap ∧ va_D (fun q => b0 ≤ q) w) (fun q => b0 ≤ q)
  | false => va_Qv (S := va_W) (fun w => ev_w tys T ad w ∧ I w ∧ ev_fr (ek_wr κ) w0 w ∧ ∃ u ∈ ek_out κ, u.1 = none ∧ ∀ f ∈ u.2, ev_ff w f) (fun w t => va_P D vwCl w t.heap ∧ va_D (fun q => b0 ≤ q) w) (fun q => b0 ≤ q)
def ek_ok (l : Launch) (T : en_T) (I : va_W → Prop) (κ : ek) : Prop := ∀ r, en_ms[κ.1]? = some r → ∀ (D : va_G) (tys : List (ClassId × FieldType)) (aK aV b0 : Nat) (ad : Nat → Nat) (w0 : va_W) (as : List Value), en_vs T.length ad κ.2.1 as → ev_w tys T ad w0 → I w0 → (∀ f ∈ ek_pre κ, ev_ff w0 f) →
  Met l r.1 (Cond.code r.1 r.2.1 r.2.2.1 r.2.2.2 :: en_ws) (ek_rm κ) (ek_pc D tys aK aV b0 w0 as) (ek_qc D tys T I b0 ad w0 κ r.2.2.2.isSome) 0 0 (fun q => b0 ≤ q)
theorem ek_pc_blind {D : va_G} {tys : List (ClassId × FieldType)} {aK aV b0 : Nat} {w0 : va_W} {as : List Value} : FrameBlind (ek_pc D tys aK aV b0 w0 as) := by
  intro a U g mk h
  obtain ⟨h1, h2, h3, h4, h5, h6⟩ := h
  exact ⟨h1, h2, h3, h4, va_K.moved (u := U) (U := U.calling g mk a) (Vm.Alike.refl U.vm) h5, h6.call⟩
/-- the facts of an end, met with what is known -/
def ev_add (FS : List ev_f) : List ev_f → List ev_f
  | [] => FS
  | f :: fs => ev_rff (ev_add FS fs) f.1 f.2.1
theorem ev_add_ok {γ : Nat → Int} {ls : Array Slot} {ws : va_W} {FS : List ev_f} (hF : ∀ f ∈ FS, ev_fact γ ls ws f) : ∀ {gs : List ev_f}, (∀ f ∈ gs, ev_ff ws f) → ∀ f ∈ ev_add FS gs, ev_fact γ ls ws f
  | [], _ => hF
  | g :: gs, h => by
    obtain ⟨x, h1, h2⟩ := ev_ff_use (γ := γ) (ls := ls) (h g List.mem_cons_self)
    exact ev_rff_ok (ev_add_ok hF (fun f hf => h f (List.mem_cons_of_mem _ hf))) h1 h2
/-- a start's fact holds -/
def ev_has (T : en_T) (FS : List ev_f) (f : ev_f) : Bool := f.1.1 == 2 && (f.2.2.isNone && (match T[f.1.2.1]? with
  | some (.inr q) => match q.2[f.1.2.2]? with
    | some (.inl b) => decide (f.2.1.1 ≤ (ev_fq FS f.1 b).1) && decide ((ev_fq FS f.1 b).2 ≤ f.2.1.2)
    | _ => false
  | _ => false))
theorem ev_has_ok {γ : Nat → Int} {ls : Array Slot} {ws : va_W} {tys : List (ClassId × FieldType)} {T : en_T} {ad : Nat → Nat} {FS : List ev_f} {f : ev_f} (hF : ∀ f ∈ FS, ev_fact γ ls ws f) (hw : ev_w tys T ad ws) (h : ev_has T FS f = true) : ev_ff ws f := by
  obtain ⟨⟨k, a, b⟩, u, g⟩ := f
  unfold ev_has at h
  simp only [Bool.and_eq_true, beq_iff_eq, Option.isNone_iff_eq_none] at h
  obtain ⟨h1, h2, h3⟩ := h
  subst h1
  subst h2
  split at h3
  · rename_i q hq
    split at h3
    · rename_i c hc
      simp only [Bool.and_eq_true, decide_eq_true_eq] at h3
      obtain ⟨e0, g1, vs, rfl, g2⟩ := hw.2 a _ hq
      obtain ⟨v, g3, z, rfl, g4⟩ := en_vs_get g2 hc
      have hloc : ev_loc ls ws (2, a, b) z := ⟨_, _, _, g1, g3⟩
      have hb := ev_fq_ok hF hloc g4
      exact ⟨rfl, z, ⟨_, _, _, g1, g3⟩, ⟨Int.le_trans h3.1 hb.1, Int.le_trans hb.2 h3.2⟩, trivial⟩
    · cases h3
  · cases h3
theorem ev_stk_app {N : Nat} {ad : Nat → Nat} {ls : Array Slot} {ws : va_W} : ∀ {as bs : List ev_s} {zs : List Value}, ev_stk N ad ls ws (as ++ bs) zs → ∃ xs ys, zs = xs ++ ys ∧ en_vs N ad (as.map (fun a => a.1)) xs ∧ ev_stk N ad ls ws bs ys
  | [], bs, zs, h => ⟨[], zs, rfl, trivial, h⟩
  | a :: as, bs, z :: zs, h => by
    obtain ⟨xs, ys, h1, h2, h3⟩ := ev_stk_app (as := as) h.2
    exact ⟨z :: xs, ys, by rw [h1]; rfl, ⟨h.1.1, h2⟩, h3⟩
  | _ :: _, _, [], h => h.elim
theorem en_args2 {N : Nat} {ad : Nat → Nat} {A B : List en_V} {xs : List Value} (h : en_vs N ad A xs) (hA : en_all2 en_le A.reverse B = true) : en_vs N ad B xs.reverse := en_all2_vs hA (en_vs_rev h)
section EVC
variable {p : Program} {l : Launch} {e : Env} {R : Room} {s : State} {m : MethodId} {args : Array Value} {below : List Frame} {meth : Method} {c : Code} {Q : State → Prop} {cc : ByteArray} {D : va_G} {tys : List (ClassId × FieldType)} {T : en_T} {I : va_W → Prop} {sp : List (Nat × Nat)} {aK aV b0 nL o : Nat} {ad : Nat → Nat} {w0 : va_W} {Wr : List (Nat × Nat)} {γ : Nat → Int}
variable {pc : Nat} {L : List ev_l} {S : List ev_s} {FS : List ev_f} {RS : List ev_r} {κ : ek}
/-- behind a call: a state for each end -/
def ek_next (κ : ek) (pc : Nat) (L : List ev_l) (S : List ev_s) (FS : List ev_f) (RS : List ev_r) : List ev_S := (ek_out κ).map (fun u => (pc, L, (u.1.toList.map (fun a => (a, ev_nt))) ++ S.map (ev_hs (ek_wr κ)), ev_add (ev_hf (ek_wr κ) FS) u.2, RS))
theorem fs_after {H : Heap} {locs : List Loc} {ls : Array Slot} {stk rest : List Value} {ws : va_W} {av : Array Value} {v : Bool} (h : ev_at s D tys T I b0 nL ad w0 Wr γ L S FS RS H locs ls rest ws) (hwr : ∀ q ∈ ek_wr κ, q ∈ Wr)
    (hrun : va_Run p l e R s m args below meth c H locs 0 0 0 0 (F0 m pc ls stk) rest (ek_qc D tys T I b0 ad ws κ v av) (fun q => b0 ≤ q))
    (k : ∀ st ∈ ek_next κ (pc + 3) L S FS RS, ev_go p l e R s m args below meth c Q D tys T I b0 nL ad w0 Wr γ st) : W p l e R s m args below meth c H locs 0 0 Q (F0 m pc ls stk) := by
  obtain ⟨hz, hl, hs, hF, hR, hw, hI, hP, hD, hS, hfr⟩ := h
  cases v with
  | false =>
    refine va_callv (a := av) hrun hS (fun q _ h => h) (fun q h => h) (fun w t H1 locs1 ht _ hpost hB _ _ hS1 => ?_)
    obtain ⟨p1, p2, p3, u, hu, hu1, hu2⟩ := hpost
    subst ht
    refine k _ (List.mem_map.mpr ⟨u, hu, rfl⟩) t.heap locs1 ls rest w ⟨hz, hl, ?_, ev_add_ok (ev_hf_ok p3 hF) hu2, hR, p1, p2, hB.1, hB.2, hS1, hfr.tr p3 hwr⟩
    dsimp only
    rw [hu1]
    exact ev_hs_ok p3 hs
  | true =>
    refine va_calli (a := av) hrun hS (fun q _ h => h) (fun q h => h) (fun x w t H1 locs1 ht _ hpost hB _ _ hS1 => ?_)
    obtain ⟨p1, p2, p3, u, hu, ⟨a, hu1, hu3⟩, hu2⟩ := hpost
    subst ht
    refine k _ (List.mem_map.mpr ⟨u, hu, rfl⟩) t.heap locs1 ls (.int x :: rest) w ⟨hz, hl, ?_, ev_add_ok (ev_hf_ok p3 hF) hu2, hR, p1, p2, hB.1, hB.2, hS1, hfr.tr p3 hwr⟩
    dsimp only
    rw [hu1]
    exact ⟨⟨hu3, ev_tag0⟩, ev_hs_ok p3 hs⟩
theorem ek_pre_at (C : ev_cx p s m args meth c cc nL o D tys aK aV b0) {H : Heap} {locs : List Loc} {ws : va_W} {as : List Value} (hP : va_P D vwCl ws H) (hD : va_D (fun q => b0 ≤ q) ws) (hS : va_S (fun q => b0 ≤ q) s.heap H locs) : ∀ U : State, U.heap = H → s.WarmedH U.vm → ek_pc D tys aK aV b0 ws as as.toArray U := by
  intro U hU hw
  refine ⟨rfl, ?_, by rw [hU]; exact hP, hD, va_K.moved hw.alike C.2.2.2.2.2.1, C.2.2.2.2.2.2.2.1.go (Nat.le_refl _) hS hU hw⟩
  rw [hU]
  exact Nat.le_trans C.2.2.2.2.2.2.1 hS.1
theorem fs_callV (C : ev_cx p s m args meth c cc nL o D tys aK aV b0) {i mi n j ci : Nat} {r : MethodName × ByteArray × Nat × Option FieldType} {A : List ev_s} {fs : List en_V} {rc : vw_C} {tj : ev_t} (hf : en_find o i en_cl = some (0, mi, n)) (hr : en_ms[mi]? = some r) (hκ : ek_ok l T I κ) (hm : κ.1 = mi) (hA : A.length = n) (hav : en_all2 en_le (.inr (j + 2) :: (A.map (fun a => a.1)).reverse) κ.2.1 = true) (hpre : (ek_pre κ).all (ev_has T FS) = true) (hwr : ∀ q ∈ ek_wr κ, q ∈ Wr)
    (hj : T[j]? = some (.inr (ci, fs))) (hrc : vwCl[ci]? = some rc) (hmo : en_mo[mi]? = some ci) (hfr : ek_fr κ + 1 ≤ R.frames) (hlo : 8 + (r.2.2.1 + 11) + ek_lo κ ≤ R.locals) (hS8 : S.length ≤ 8) (hd : decode cc pc = .ok (.invokevirtual i, 3))
    (k : ∀ st ∈ ek_next κ (pc + 3) L S FS RS, ev_go p l e R s m args below meth c Q D tys T I b0 nL ad w0 Wr γ st) : ev_go p l e R s m args below meth c Q D tys T I b0 nL ad w0 Wr γ (pc, L, A ++ (.inr (j + 2), tj) :: S, FS, RS) := by
  intro H locs ls stk ws h
  dsimp only at h
  obtain ⟨hz, hl, hs, hF, hR, hw, hI, hP, hD, hS, hfr0⟩ := h
  obtain ⟨xs, us, rfl, hs1, hs2⟩ := ev_stk_app hs
  obtain ⟨x, ys, rfl, hx, -, hs3⟩ := ev_stk_cons hs2
  have hx0 := hx
  obtain ⟨rfl, hjl⟩ : x = .ref (ad j) ∧ j < T.length := hx
  subst hm
  obtain ⟨e0, g1, vs, rfl, g2⟩ := hw.2 j _ hj
  have hM := hκ r hr D tys aK aV b0 ad ws (Value.ref (ad j) :: xs.reverse) (en_all2_vs hav ⟨hx0, en_vs_rev hs1⟩) hw hI (fun f hf => ev_has_ok hF hw (List.all_eq_true.mp hpre f hf))
  have hDd := (en_clD hf hr).1
  have hww := en_clW hf hr
  have hts := C.2.2.2.2.1
  have hB := callB_of (own := en_nm o) (index := i) (R := R) (rm := ek_rm κ) (mc := 0) (ms := 0) n hts (en_codeG hr) rfl rfl rfl (hts _ (en_ws_in (hww (.initialized r.1.cls) (by simp)) rfl)) (hts _ (en_ws_in (hww (.methodLink (en_nm o) i r.1) (by simp)) rfl)) hDd ⟨hfr, hlo⟩
  have hrecv := va_recv C.2.2.2.2.2.1 hP hrc g1
  rw [(en_nm_cl hrc).trans (en_mo_ok hr hmo)] at hrecv
  exact fs_after ⟨hz, hl, hs3, hF, hR, hw, hI, hP, hD, hS, hfr0⟩ hwr (va_runV (C := r.1.cls) (As := xs.reverse) (rest := ys) ⟨C.1, C.2.1, C.2.2.1, C.2.2.2.1, hts⟩ hM ⟨hB, hts _ (en_ws_in (hww (.instanceMethod r.1) (by simp)) rfl), hts _ (en_ws_in (hww (.selects r.1.cls r.1 r.1) (by simp)) rfl)⟩ ⟨ek_pc_blind, hrecv, ek_pre_at C hP hD hS⟩ rfl (by rw [List.length_reverse, ← en_vs_len hs1, List.length_map]; exact hA) hz.1 (by rw [List.reverse_reverse]) (lv_room (by rw [ev_stk_len hs3]; exact hS8)) hd ⟨Nat.zero_le _, Nat.zero_le _⟩) k
theorem fs_callS (C : ev_cx p s m args meth c cc nL o D tys aK aV b0) {i mi n kd : Nat} {r : MethodName × ByteArray × Nat × Option FieldType} {A : List ev_s} (hf : en_find o i en_cl = some (kd, mi, n)) (hkd : kd = 1 ∨ kd = 2) (hr : en_ms[mi]? = some r) (hκ : ek_ok l T I κ) (hm : κ.1 = mi) (hA : A.length = n) (hav : en_all2 en_le (A.map (fun a => a.1)).reverse κ.2.1 = true) (hpre : (ek_pre κ).all (ev_has T FS) = true) (hwr : ∀ q ∈ ek_wr κ, q ∈ Wr)
    (hfr : ek_fr κ + 1 ≤ R.frames) (hlo : 8 + (r.2.2.1 + 11) + ek_lo κ ≤ R.locals) (hS8 : S.length ≤ 8) (hd : decode cc pc = .ok (.invokestatic i, 3))
    (k : ∀ st ∈ ek_next κ (pc + 3) L S FS RS, ev_go p l e R s m args below meth c Q D tys T I b0 nL ad w0 Wr γ st) : ev_go p l e R s m args below meth c Q D tys T I b0 nL ad w0 Wr γ (pc, L, A ++ S, FS, RS) := by
  intro H locs ls stk ws h
  dsimp only at h
  obtain ⟨hz, hl, hs, hF, hR, hw, hI, hP, hD, hS, hfr0⟩ := h
  obtain ⟨xs, ys, rfl, hs1, hs3⟩ := ev_stk_app hs
  subst hm
  have hM := hκ r hr D tys aK aV b0 ad ws xs.reverse (en_args2 hs1 hav) hw hI (fun f hf => ev_has_ok hF hw (List.all_eq_true.mp hpre f hf))
  have hDd := (en_clD hf hr).1
  have hww := en_clW hf hr
  have hts := C.2.2.2.2.1
  rcases hkd with rfl | rfl
  · have hB := callB_of (own := en_nm o) (index := i) (R := R) (rm := ek_rm κ) (mc := 0) (ms := 0) n hts (en_codeG hr) rfl rfl rfl (hts _ (en_ws_in (hww (.initialized r.1.cls) (by simp)) rfl)) (hts _ (en_ws_in (hww (.methodLink (en_nm o) i r.1) (by simp)) rfl)) hDd ⟨hfr, hlo⟩
    exact fs_after ⟨hz, hl, hs3, hF, hR, hw, hI, hP, hD, hS, hfr0⟩ hwr (va_runS (As := xs.reverse) (rest := ys) ⟨C.1, C.2.1, C.2.2.1, C.2.2.2.1, hts⟩ hM ⟨hB, hts _ (en_ws_in (hww (.static r.1) (by simp)) rfl)⟩ ⟨ek_pc_blind, ek_pre_at C hP hD hS⟩ rfl (by rw [List.length_reverse, ← en_vs_len hs1, List.length_map]; exact hA) hz.1 (by rw [List.reverse_reverse]) (lv_room (by rw [ev_stk_len hs3]; exact hS8)) hd ⟨Nat.zero_le _, Nat.zero_le _⟩) k
  · have hB := va_cnB (own := en_nm o) (host := "LoadsAhead") (index := i) (R := R) (rm := ek_rm κ) (mc := 0) (ms := 0) n hts (en_codeG hr) rfl rfl rfl (C.2.2.2.2.2.2.2.1.1 _ (en_clN hf hr (Or.inl rfl))) (hts _ (en_ws_in (hww (.initialized r.1.cls) (by simp)) rfl)) hDd ⟨hfr, hlo⟩
    exact fs_after ⟨hz, hl, hs3, hF, hR, hw, hI, hP, hD, hS, hfr0⟩ hwr (va_runSN (host := "LoadsAhead") (As := xs.reverse) (rest := ys) ⟨C.1, C.2.1, C.2.2.1, C.2.2.2.1, hts⟩ hM ⟨hB, hts _ (en_ws_in (hww (.static r.1) (by simp)) rfl), trivial⟩ ⟨ek_pc_blind, ek_pre_at C hP hD hS⟩ rfl (by rw [List.length_reverse, ← en_vs_len hs1, List.length_map]; exact hA) hz.1 (by rw [List.reverse_reverse]) (lv_room (by rw [ev_stk_len hs3]; exact hS8)) hd ⟨Nat.zero_le _, Nat.zero_le _⟩) k
theorem fs_copy (C : ev_cx p s m args meth c cc nL o D tys aK aV b0) (hI0 : ev_hI I sp) {i j0 j1 n : Nat} {t0 t1 : Nat × Nat × Int × Int} {u1 u2 u3 u4 u5 : ev_t} (hf : (o, i) ∈ en_ac) (ht0 : T[j0]? = some (.inl t0)) (ht1 : T[j1]? = some (.inl t1)) (hy0 : t0.1 = 0) (hy1 : t1.1 = 0) (hn0 : n ≤ t0.2.1) (hn1 : n ≤ t1.2.1) (hb0 : t1.2.2.1 ≤ t0.2.2.1) (hb1 : t0.2.2.2 ≤ t1.2.2.2) (hwr : (j1, 999) ∈ Wr) (hsp : (j1, 999) ∉ sp)
    (hfr : 1 ≤ R.frames) (hlo : S.length + (nativeFrameWords "java/lang/System" "arraycopy" 5 + 11) ≤ R.locals) (hd : decode cc pc = .ok (.invokestatic i, 3)) (k : ev_go p l e R s m args below meth c Q D tys T I b0 nL ad w0 Wr γ (pc + 3, L, S.map (ev_hs [(j1, 999)]), ev_hf [(j1, 999)] FS, RS)) :
    ev_go p l e R s m args below meth c Q D tys T I b0 nL ad w0 Wr γ (pc, L, (.inl ((n : Int), (n : Int)), u1) :: (.inl (0, 0), u2) :: (.inr (j1 + 2), u3) :: (.inl (0, 0), u4) :: (.inr (j0 + 2), u5) :: S, FS, RS) := by
  intro H locs ls stk ws h
  dsimp only at h
  obtain ⟨hz, hl, hs, hF, hR, hw, hI, hP, hD, hS, hfr0⟩ := h
  obtain ⟨x1, v1, rfl, ⟨nn, rfl, hnn⟩, -, hs1⟩ := ev_stk_cons hs
  obtain ⟨x2, v2, rfl, ⟨dp, rfl, hdp⟩, -, hs2⟩ := ev_stk_cons hs1
  obtain ⟨x3, v3, rfl, hx3, -, hs3⟩ := ev_stk_cons hs2
  obtain ⟨rfl, hj1⟩ : x3 = .ref (ad j1) ∧ j1 < T.length := hx3
  obtain ⟨x4, v4, rfl, ⟨sq, rfl, hsq⟩, -, hs4⟩ := ev_stk_cons hs3
  obtain ⟨x5, v5, rfl, hx5, -, hs5⟩ := ev_stk_cons hs4
  obtain ⟨rfl, hj0⟩ : x5 = .ref (ad j0) ∧ j0 < T.length := hx5
  obtain ⟨e0, g1, ge⟩ := hw.2 j0 _ ht0
  unfold ev_c at ge
  dsimp only at ge
  rw [if_neg (by rw [hy0]; decide)] at ge
  obtain ⟨cA, f, rfl, g2, g3⟩ := ge
  obtain ⟨e1, q1, qe⟩ := hw.2 j1 _ ht1
  unfold ev_c at qe
  dsimp only at qe
  rw [if_neg (by rw [hy1]; decide)] at qe
  obtain ⟨cB, g, rfl, q2, q3⟩ := qe
  dsimp only at hnn hdp hsq
  have z1 : sq.toInt = 0 := by omega
  have z2 : dp.toInt = 0 := by omega
  have z3 : nn.toInt = (n : Int) := by omega
  have c1 : sq.toNatClampNeg = 0 := by show sq.toInt.toNat = 0; omega
  have c2 : dp.toNatClampNeg = 0 := by show dp.toInt.toNat = 0; omega
  have c3 : nn.toNatClampNeg = n := by show nn.toInt.toNat = n; omega
  have hww : ∀ w ∈ ([.native arraycopyName, .static arraycopyName, .initialized "java/lang/System"] : List Cond), w ∈ en_ws := fun w hw => en_ws_in (en_ac_c w hw) (by
    rcases List.mem_cons.mp hw with rfl | hw
    · rfl
    · rcases List.mem_cons.mp hw with rfl | hw
      · rfl
      · rw [List.mem_singleton.mp hw]; rfl)
  refine va_copyi C.1 C.2.1 (C.2.2.1.trans hz.1.symm) C.2.2.2.1 (C.2.2.2.2.1 _ (en_ws_in (en_ac_in _ (List.mem_map.mpr ⟨(o, i), hf, rfl⟩)) rfl)) (C.2.2.2.2.1 _ (hww _ List.mem_cons_self)) (C.2.2.2.2.1 _ (hww _ (List.mem_cons_of_mem _ List.mem_cons_self))) (C.2.2.2.2.1 _ (hww _ (List.mem_cons_of_mem _ (List.mem_cons_of_mem _ List.mem_cons_self)))) C.2.2.2.2.2.1 hP hD hS j0 j1 t0.1 t1.1 g1 q1 (ty := .int) (by rw [g2, hy0]; rfl) (by rw [q2, hy1]; rfl) rfl
    (by rw [fa_lt]; show ¬ sq.toInt < 0; omega) (by rw [fa_lt]; show ¬ dp.toInt < 0; omega) (by rw [fa_lt]; show ¬ nn.toInt < 0; omega) (by omega) (by omega) (fun _ _ => rfl) hfr (by rw [ev_stk_len hs5]; exact hlo) hd (fun H1 locs1 hP1 hD1 hS1 => ?_)
  have hf1 : ev_fr [(j1, 999)] ws (ws.set j1 (ad j1, .inl (cB, t1.2.1, .inl (va_cpy f g sq.toNatClampNeg dp.toNatClampNeg nn.toNatClampNeg)))) := ev_fr_set q1 (Or.inl List.mem_cons_self)
  have hc : ev_c tys T.length ad (.inl t1) (.inl (cB, t1.2.1, .inl (va_cpy f g sq.toNatClampNeg dp.toNatClampNeg nn.toNatClampNeg))) := by
    unfold ev_c
    dsimp only
    rw [if_neg (by rw [hy1]; decide)]
    refine ⟨cB, _, rfl, q2, fun j hj => ?_⟩
    rw [c1, c2, c3]
    by_cases hjn : j < n
    · rw [pk_cpy_in (Nat.zero_le _) (by omega)]
      have h9 := g3 (0 + (j - 0)) (by omega)
      exact ⟨Int.le_trans hb0 h9.1, Int.le_trans h9.2 hb1⟩
    · rw [pk_cpy_out (Or.inr (by omega))]
      exact q3 j hj
  exact k H1 locs1 ls v5 _ ⟨hz, hl, ev_hs_ok hf1 hs5, ev_hf_ok hf1 hF, hR, ev_w_set hw ht1 hc, hI0 [(j1, 999)] _ _ (fun q hq => by rw [List.mem_singleton.mp hq]; exact hsp) hf1 hI, hP1, hD1, hS1, hfr0.tr hf1 (fun q hq => by rw [List.mem_singleton.mp hq]; exact hwr)⟩
end EVC
