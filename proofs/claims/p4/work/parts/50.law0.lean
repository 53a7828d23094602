def R_law : String := "LoadsAheadLaw"
def lw_P (b : Addr) (xs : List Int32) (args : Array Value) (s : State) : Prop := args = #[.ref b] ∧ s.IntsAt b xs ∧ xs.length ≤ 3072 ∧ (Jvm.Cond.and given_1 narrow_1).before args s = true
def lw_Q (_ : Array Value) (s : State) (o : Outcome) (t : State) : Prop := o = .returned (some (.int 1)) ∧ Framed s o t [] 600000 7302250
def lw_Z (below : List Frame) (a : Array Value) (s : State) : State → Prop := fun t => ∃ o, t.status = .running ∧ Ended t below o ∧ lw_Q a s o t
/-- the law's own end, with 1 on the stack, nothing written that was there before, its room as the claim has it -/
theorem lw_ret {p : Program} {l : Launch} {e : Env} {s : State} {m : MethodId} {below : List Frame} {meth : Method} {c : Code} {b : Nat} (hx : p.tables.exec = Jvm.exec) (hb : c.code = code) (hr : meth.sig.returnType = ret) (hlocks : meth.locks = false) {pc : Nat} {H : Heap} {ls : Array Slot} (hdg : decode code pc = .ok (.ireturn, 1)) : W p l e room_1 s m #[Value.ref b] below meth c H [] 600000 7302250 (lw_Z below #[Value.ref b] s) (F0 m pc ls [.int 1]) := by
  intro T hT X
  obtain ⟨fs, hret, hrun, hended, hW, hframe⟩ := X.leave (v := some (.int 1)) (hlocks := hlocks) (fun h => by rw [hr] at h; cases h)
  have hmeth' : T.vm.method? m = some meth := X.method'
  refine ⟨T.setFrames fs, ?_, .returned (some (.int 1)), hrun, hended, rfl, ⟨_, rfl⟩, hW, hframe⟩
  jvm_step X.here [X.here.top, hx, hb, hdg, hmeth', hr, ret, narrow_b1]
  (try refine ⟨rfl, ?_⟩); (try refine ⟨rfl, ?_⟩)
  first | (intro acts; rw [hret _ acts rfl rfl rfl]) | rw [hret _ _ rfl rfl rfl]
  exact Steps.refl _
/-- what holds at the law's entry: the machine, the code, the tables' words (any of lw_tbl by 'hts w (by decide +kernel)'), the script of L ints xs at the cell b, what the Statement gives of the start (any of its parts by flat_of_before) -/
def lw_At (p : Program) (s : State) (m : MethodId) (meth : Method) (c : Code) (b L : Nat) (xs : Nat → Int32) : Prop :=
  p.tables.exec = Jvm.exec ∧ c.code = code ∧ meth.sig.returnType = ret ∧ c.maxLocals = 4 ∧ s.vm.findClass R_law = some m.cls ∧ (∀ w ∈ lw_tbl, w.before #[Value.ref b] s = true) ∧ va_X b L xs s s.heap ∧ b < s.heap.size ∧ meth.locks = false ∧ (Jvm.Cond.and given_1 narrow_1).before #[Value.ref b] s = true
def lo (ad : Nat → Nat) (κ : ek) (x : Int32) (w : va_W) : Prop := ∃ u ∈ ek_out κ, (∃ a, u.1 = some a ∧ en_v tQ.length ad a (.int x)) ∧ ∀ f ∈ u.2, ev_ff w f
theorem ff_of {tys : List (ClassId × FieldType)} {T : en_T} {ad : Nat → Nat} {w : va_W} {j f ci : Nat} {fs : List en_V} {b : Int × Int} {v : Int} (hw : ev_w tys T ad w) (hj : T[j]? = some (.inr (ci, fs))) (hf : fs[f]? = some (.inl b)) (hv : gI w j f = v) : ev_ff w ((2, j, f), (v, v), none) := by
  obtain ⟨x, h1, h2⟩ := (gI_rng hw hj hf).2 #[]
  exact ⟨rfl, x, h1, ⟨by dsimp only; omega, by dsimp only; omega⟩, trivial⟩
theorem ff_gI {w : va_W} {j f : Nat} {v : Int} (h : ev_ff w ((2, j, f), (v, v), none)) : gI w j f = v := by
  obtain ⟨-, x, h1, h2, -⟩ := h
  have h3 := gI_loc h1
  obtain ⟨h4, h5⟩ := h2
  dsimp only at h4 h5
  omega
def lj_has (κ : ek) (j f : Nat) (v : Int) : Bool := (ek_out κ).all (fun u => decide (((2, j, f), (v, v), none) ∈ u.2))
theorem lo_ff {ad : Nat → Nat} {κ : ek} {x : Int32} {w : va_W} {j f : Nat} {v : Int} (h : lj_has κ j f v = true) (hlo : lo ad κ x w) : gI w j f = v := by
  obtain ⟨u, hu, -, hf⟩ := hlo
  exact ff_gI (hf _ (of_decide_eq_true (List.all_eq_true.mp h u hu)))
def le_eq (κa κb : ek) (v : Int) : Bool := (ek_out κa).all (fun u => decide (u.1 = some (.inl (v, v)))) && (ek_out κb).all (fun u => decide (u.1 = some (.inl (v, v))))
theorem lo_eq {ad : Nat → Nat} {κa κb : ek} {x y : Int32} {w1 w2 : va_W} {v : Int} (h : le_eq κa κb v = true) (hx : lo ad κa x w1) (hy : lo ad κb y w2) : x = y := by
  unfold le_eq at h
  rw [Bool.and_eq_true] at h
  obtain ⟨u, hu, ⟨a, hua, hux⟩, -⟩ := hx
  obtain ⟨w, hw9, ⟨a2, hwa, hwy⟩, -⟩ := hy
  have e1 := List.all_eq_true.mp h.1 u hu
  have e2 := List.all_eq_true.mp h.2 w hw9
  simp only [decide_eq_true_eq] at e1 e2
  rw [hua] at e1
  rw [hwa] at e2
  cases e1
  cases e2
  obtain ⟨x', ex, hx1, hx2⟩ := hux
  obtain ⟨y', ey, hy1, hy2⟩ := hwy
  cases ex
  cases ey
  rw [fa_eq]
  dsimp only at hx1 hx2 hy1 hy2
  omega
theorem nm_of {q : Nat × Nat} {W1 : List (Nat × Nat)} (h : W1.contains q = false) : q ∉ W1 := fun hm => by rw [List.contains_iff_mem.mpr hm] at h; cases h
def jT : List Int := [0, 20, 40, 60, 80, 100, 120, 140, 160, 180, 200, 220, 240, 260]
def jR (ws : va_W) : Prop := ∃ t ∈ jT, gI ws 1 1 = t ∧ gI ws 84 18 = t
def jS : List (Nat × Nat) := [(1, 1), (84, 18)]
theorem jR_hI : ev_hI jR jS := by
  intro W1 w w' h1 h2 h
  have a1 := gI_fr (j := 1) (f := 1) h2 (fun h => h1 _ h (by simp [jS]))
  have a2 := gI_fr (j := 84) (f := 18) h2 (fun h => h1 _ h (by simp [jS]))
  unfold jR at *
  rw [a1, a2]
  exact h
def lj (tys : List (ClassId × FieldType)) (ad : Nat → Nat) (cmp : Bool) (ws : va_W) (κa κb : ek) : Prop := (∀ f ∈ ek_pre κa, ev_ff ws f) ∧ ∀ (x : Int32) (w1 : va_W), ev_w tys tQ ad w1 → iG w1 → ev_fr (ek_wr κa) ws w1 → lo ad κa x w1 → (∀ f ∈ ek_pre κb, ev_ff w1 f) ∧ ∀ (y : Int32) (w2 : va_W), ev_w tys tQ ad w2 → iG w2 → ev_fr (ek_wr κb) w1 w2 → lo ad κb y w2 → jR w2 ∧ (cmp = true → x = y)
def lj_fc (κa κb : ek) : Bool := (ek_pre κa).isEmpty && ((ek_pre κb).isEmpty && ((ek_wr κa).all (fun q => !jS.contains q) && (ek_wr κb).all (fun q => !jS.contains q)))
theorem lj_dis {W1 : List (Nat × Nat)} {w w' : va_W} (h : W1.all (fun q => !jS.contains q) = true) (hf : ev_fr W1 w w') (hJ : jR w) : jR w' := jR_hI W1 w w' (fun q hq hm => by
    have h1 := List.all_eq_true.mp h q hq
    rw [List.contains_iff_mem.mpr hm] at h1
    cases h1) hf hJ
theorem lj_fr {tys : List (ClassId × FieldType)} {ad : Nat → Nat} {ws : va_W} {κa κb : ek} (hJ : jR ws) (h : lj_fc κa κb = true) : lj tys ad false ws κa κb := by
  simp only [lj_fc, Bool.and_eq_true, List.isEmpty_iff] at h
  obtain ⟨h1, h2, h3, h4⟩ := h
  refine ⟨fun f hf => by rw [h1] at hf; exact absurd hf List.not_mem_nil, fun x w1 _ _ f1 _ => ⟨fun f hf => by rw [h2] at hf; exact absurd hf List.not_mem_nil, fun y w2 _ _ f2 _ => ⟨lj_dis h4 f2 (lj_dis h3 f1 hJ), fun h => by cases h⟩⟩⟩
section LE0
variable {p : Program} {l : Launch} {e : Env} {R : Room} {s : State} {m : MethodId} {args : Array Value} {below : List Frame} {meth : Method} {c : Code} {Q : State → Prop} {cc : ByteArray} {D : va_G} {tys : List (ClassId × FieldType)} {aK aV b0 nL o : Nat} {pc : Nat} {T : en_T} {I : va_W → Prop} {cs sl : Nat} {κ : ek} {H : Heap} {locs : List Loc} {ls : Array Slot} {rest : List Value} {ad : Nat → Nat} {ws : va_W}
theorem le_call (C : ev_cx p s m args meth c cc nL o D tys aK aV b0) {i mi n j ci : Nat} {r : MethodName × ByteArray × Nat × Option FieldType} {fs : List en_V} {rc : vw_C} {As : List Value} (hf : en_find o i en_cl = some (0, mi, n)) (hr : en_ms[mi]? = some r) (hκ : ek_ok l T I κ) (hm : κ.1 = mi) (hsm : r.2.2.2.isSome = true) (hn : As.length = n) (hav : en_vs T.length ad κ.2.1 (.ref (ad j) :: As)) (hpre : ∀ f ∈ ek_pre κ, ev_ff ws f)
    (hj : T[j]? = some (.inr (ci, fs))) (hrc : vwCl[ci]? = some rc) (hmo : en_mo[mi]? = some ci) (hfr : ek_fr κ + 1 ≤ R.frames) (hlo : 8 + (r.2.2.1 + 11) + ek_lo κ ≤ R.locals) (hc1 : cs ≤ R.cells) (hc2 : sl ≤ R.slots) (h8 : (rest.map fun v => v.category).sum ≤ 8) (hls : ls.size = nL) (hd : decode cc pc = .ok (.invokevirtual i, 3)) (hw : ev_w tys T ad ws) (hI : I ws) (hP : va_P D vwCl ws H) (hD : va_D (fun q => b0 ≤ q) ws) (hS : va_S (fun q => b0 ≤ q) s.heap H locs)
    (k : ∀ (x : Int32) (ws1 : va_W) (H1 : Heap) (locs1 : List Loc), (∃ u ∈ ek_out κ, (∃ a, u.1 = some a ∧ en_v T.length ad a (.int x)) ∧ ∀ f ∈ u.2, ev_ff ws1 f) → ev_fr (ek_wr κ) ws ws1 → ev_w tys T ad ws1 → I ws1 → va_P D vwCl ws1 H1 → va_D (fun q => b0 ≤ q) ws1 → va_S (fun q => b0 ≤ q) s.heap H1 locs1 → W p l e R s m args below meth c H1 locs1 cs sl Q (F0 m (pc + 3) ls (.int x :: rest))) : W p l e R s m args below meth c H locs cs sl Q (F0 m pc ls (As.reverse ++ .ref (ad j) :: rest)) := by
  subst hm
  obtain ⟨e0, g1, vs, rfl, g2⟩ := hw.2 j _ hj
  have hM := hκ r hr D tys aK aV b0 ad ws (Value.ref (ad j) :: As) hav hw hI hpre
  have hDd := (en_clD hf hr).1
  have hww := en_clW hf hr
  have hts := C.2.2.2.2.1
  have hB := callB_of (own := en_nm o) (index := i) (R := R) (rm := ek_rm κ) (mc := 0) (ms := 0) n hts (en_codeG hr) rfl rfl rfl (hts _ (en_ws_in (hww (.initialized r.1.cls) (by simp)) rfl)) (hts _ (en_ws_in (hww (.methodLink (en_nm o) i r.1) (by simp)) rfl)) hDd ⟨hfr, hlo⟩
  have hrecv := va_recv C.2.2.2.2.2.1 hP hrc g1
  rw [(en_nm_cl hrc).trans (en_mo_ok hr hmo)] at hrecv
  have hrun := va_runV (H := H) (locs := locs) (cells := cs) (slots := sl) (g := F0 m pc ls (As.reverse ++ .ref (ad j) :: rest)) (e := e) (below := below) (meth := meth) (C := r.1.cls) (As := As) (rest := rest) ⟨C.1, C.2.1, C.2.2.1, C.2.2.2.1, hts⟩ hM ⟨hB, hts _ (en_ws_in (hww (.instanceMethod r.1) (by simp)) rfl), hts _ (en_ws_in (hww (.selects r.1.cls r.1 r.1) (by simp)) rfl)⟩ ⟨ek_pc_blind, hrecv, ek_pre_at C hP hD hS⟩ rfl hn hls rfl (lv_room h8) hd ⟨hc1, hc2⟩
  rw [hsm] at hrun
  refine va_calli (a := (Value.ref (ad j) :: As).toArray) hrun hS (fun q _ h => h) (fun q h => h) (fun x w t H1 locs1 ht _ hpost hB _ _ hS1 => ?_)
  obtain ⟨p1, p2, p3, u, hu, ⟨a, hu1, hu3⟩, hu2⟩ := hpost
  subst ht
  exact k x w t.heap locs1 ⟨u, hu, ⟨a, hu1, hu3⟩, hu2⟩ p3 p1 p2 hB.1 hB.2 hS1
end LE0
/-- what a contract must be for one call of the law -/
def le_ck (j i n : Nat) (κ : ek) (box : List en_V) : Bool := match en_find 13 i en_cl with
  | some (ka, ma, na) => match en_ms[ma]? with
    | some ra => match tQ[j]? with
      | some (.inr qa) => match vwCl[qa.1]? with
        | some _ => ka == 0 && (na == n && (κ.1 == ma && (ra.2.2.2.isSome && (en_all2 en_le (.inr (j + 2) :: box) κ.2.1 && ((en_mo[ma]? == some qa.1) && ( (decide (ek_fr κ + 1 ≤ 2048) && (decide (8 + (ra.2.2.1 + 11) + ek_lo κ ≤ 84000) && (box.length == n && (decide (j < tQ.length) && box.all en_isI))))))))))
        | none => false
      | _ => false
    | none => false
  | none => false
def le_go (p : Program) (l : Launch) (e : Env) (s : State) (m : MethodId) (args : Array Value) (below : List Frame) (meth : Method) (c : Code) (Q : State → Prop) (D : va_G) (tys : List (ClassId × FieldType)) (b0 : Nat) (ad : Nat → Nat) (ls : Array Slot) (cs sl pc : Nat) : Prop :=
  ∀ (ws : va_W) (H : Heap) (locs : List Loc), ev_w tys tQ ad ws → iG ws → jR ws → va_P D vwCl ws H → va_D (fun q => b0 ≤ q) ws → va_S (fun q => b0 ≤ q) s.heap H locs → W p l e room_1 s m args below meth c H locs cs sl Q (F0 m pc ls [])
section LE1
variable {p : Program} {l : Launch} {e : Env} {s : State} {m : MethodId} {args : Array Value} {below : List Frame} {meth : Method} {c : Code} {Q : State → Prop} {D : va_G} {tys : List (ClassId × FieldType)} {aK aV b0 cs sl b L i : Nat} {xs : Nat → Int32} {ls : Array Slot} {ad : Nat → Nat} {H : Heap} {locs : List Loc} {ws : va_W}
theorem le_one (C : ev_cx p s m args meth c code 4 13 D tys aK aV b0) {j ia n pa : Nat} {κ : ek} {box : List en_V} {As rest : List Value} (hck : le_ck j ia n κ box = true) (hpre : ∀ f ∈ ek_pre κ, ev_ff ws f) (hκ : ek_ok l tQ iG κ) (hbox : en_vs tQ.length ad box As) (hls : ls.size = 4) (hcs : cs ≤ 600000) (hsl : sl ≤ 7302250) (h8 : (rest.map fun v => v.category).sum ≤ 8) (da : decode code pa = .ok (.invokevirtual ia, 3)) (hw : ev_w tys tQ ad ws) (hI : iG ws) (hP : va_P D vwCl ws H) (hD : va_D (fun q => b0 ≤ q) ws) (hS : va_S (fun q => b0 ≤ q) s.heap H locs)
    (k : ∀ (x : Int32) (ws1 : va_W) (H1 : Heap) (locs1 : List Loc), lo ad κ x ws1 → ev_fr (ek_wr κ) ws ws1 → ev_w tys tQ ad ws1 → iG ws1 → va_P D vwCl ws1 H1 → va_D (fun q => b0 ≤ q) ws1 → va_S (fun q => b0 ≤ q) s.heap H1 locs1 → W p l e room_1 s m args below meth c H1 locs1 cs sl Q (F0 m (pa + 3) ls (.int x :: rest))) : W p l e room_1 s m args below meth c H locs cs sl Q (F0 m pa ls (As.reverse ++ .ref (ad j) :: rest)) := by
  unfold le_ck at hck
  split at hck
  case h_2 => cases hck
  rename_i ka ma na hfa
  split at hck
  case h_2 => cases hck
  rename_i ra hra
  split at hck
  case h_2 => cases hck
  rename_i qa hqa
  split at hck
  case h_2 => cases hck
  rename_i ca hca
  simp only [Bool.and_eq_true, beq_iff_eq, decide_eq_true_eq, List.isEmpty_iff] at hck
  obtain ⟨h1, h2, h3, h4, h5, h7, h9, h10, h11, h12, h13⟩ := hck
  subst h1
  subst h2
  exact le_call (R := room_1) C hfa hra hκ h3 h4 ((en_vs_len hbox).symm.trans h11) (en_all2_vs h5 ⟨⟨rfl, h12⟩, hbox⟩) hpre hqa hca h7 h9 h10 hcs hsl h8 hls da hw hI hP hD hS k
theorem le_nI {i k : Nat} (h : i + k < 2 ^ 31) : nI i + nI k = nI (i + k) := by
  rw [fa_eq, fb_addI (by rw [nI_toInt (by omega), nI_toInt (by omega)]; omega) (by rw [nI_toInt (by omega), nI_toInt (by omega)]; omega), nI_toInt (by omega), nI_toInt (by omega), nI_toInt (by omega)]
  omega
theorem le_arg (hx : p.tables.exec = Jvm.exec) (hb : c.code = code) (hX : va_X b L xs s s.heap) (hbl : b < s.heap.size) (hbA : ¬ b0 ≤ b) {rest : List Value} {pc k : Nat} {kI : Int} (hl0 : ls[0]? = some (.val (.ref b))) (hl3 : ls[3]? = some (.val (.int (nI i)))) (hk : Int32.ofInt kI = nI k) (hkL : i + k < L) (hL : L < 2 ^ 31) (hS : va_S (fun q => b0 ≤ q) s.heap H locs)
    (d0 : decode code pc = .ok (.aload_n 0, 1)) (d1 : decode code (pc + 1) = .ok (.iload_n 3, 1)) (d2 : decode code (pc + 2) = .ok (.iconst kI, 1)) (d3 : decode code (pc + 3) = .ok (.iadd, 1)) (d4 : decode code (pc + 4) = .ok (.iaload, 1))
    (kk : W p l e room_1 s m args below meth c H locs cs sl Q (F0 m (pc + 5) ls (.int (xs (i + k)) :: rest))) : W p l e room_1 s m args below meth c H locs cs sl Q (F0 m pc ls rest) := by
  refine lv_aload_n hx hb d0 rfl hl0 ?_
  refine lv_iload_n hx hb d1 rfl hl3 ?_
  refine lv_iconst hx hb d2 hk ?_
  refine lv_iadd hx hb d3 ?_
  rw [le_nI (by omega)]
  refine va_sld hx hb hX hbl hbA hS (vp_in_nI hkL hL) d4 ?_
  rw [nI_clamp (by omega)]
  exact kk
theorem le_iv {N : Nat} {lo hi : Int} {x : Int32} (h1 : lo ≤ x.toInt) (h2 : x.toInt ≤ hi) : en_v N ad (.inl (lo, hi)) (.int x) := ⟨x, rfl, h1, h2⟩
end LE1
