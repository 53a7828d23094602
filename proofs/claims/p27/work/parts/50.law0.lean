def R_law : String := "LoadsAheadLaw"
def lw_P (b : Addr) (xs : List Int32) (args : Array Value) (s : State) : Prop := args = #[.ref b] ∧ s.IntsAt b xs ∧ xs.length ≤ 3072 ∧ (Jvm.Cond.and given_1 narrow_1).before args s = true
def lw_Q (_ : Array Value) (s : State) (o : Outcome) (t : State) : Prop := o = .returned (some (.int 1)) ∧ Framed s o t [] 600000 7302250
def lw_Z (below : List Frame) (a : Array Value) (s : State) : State → Prop := fun t => ∃ o, t.status = .running ∧ Ended t below o ∧ lw_Q a s o t
/-- the law's own end, with 1 on the stack, nothing written that was there before, its room as the claim has it -/
theorem lw_ret {p : Program} {l : Launch} {e : Env} {s : State} {m : MethodId} {below : List Frame} {meth : Method} {c : Code} {b : Nat} (hx : p.tables.exec = Jvm.exec) (hb : c.code = code) (hr : meth.sig.returnType = ret) (hlocks : meth.locks = false) {pc : Nat} {H : Heap} {ls : Array Slot} (hdg : decode code pc = .ok (.ireturn, 1)) : W p l e room_1 s m #[Value.ref b] below meth c H [] 600000 7302250 (lw_Z below #[Value.ref b] s) (F0 m pc ls [.int 1]) := by
  intro T hT X
  obtain ⟨fs, hret, hrun, hended, hW, hframe⟩ := X.leave (v := some (.int 1)) (hlocks := hlocks) (fun h => by rw [hr] at h; cases h)
  have hmeth' : T.vm.method? m = some meth := X.method'
  refine ⟨T.setFrames fs, ?_, .returned (some (.int 1)), hrun, hended, rfl, ⟨_, rfl⟩, hW, hframe⟩
  jvm_step X.here [X.here.top, hx, hb, hdg, hmeth', hr, ret, narrow_b1]
  (try refine ⟨rfl, ?_⟩); (try refine ⟨rfl, ?_⟩)
  first | (intro acts; rw [hret _ acts rfl rfl rfl]) | rw [hret _ _ rfl rfl rfl]
  exact Steps.refl _
/-- what holds at the law's entry: the machine, the code, the tables' words (any of lw_tbl by 'hts w (by decide +kernel)'), the script of L ints xs at the cell b, what the Statement gives of the start (any of its parts by flat_of_before) -/
def lw_At (p : Program) (s : State) (m : MethodId) (meth : Method) (c : Code) (b L : Nat) (xs : Nat → Int32) : Prop :=
  p.tables.exec = Jvm.exec ∧ c.code = code ∧ meth.sig.returnType = ret ∧ c.maxLocals = 4 ∧ s.vm.findClass R_law = some m.cls ∧ (∀ w ∈ lw_tbl, w.before #[Value.ref b] s = true) ∧ va_X b L xs s s.heap ∧ b < s.heap.size ∧ meth.locks = false ∧ (Jvm.Cond.and given_1 narrow_1).before #[Value.ref b] s = true
section LE0
variable {p : Program} {l : Launch} {e : Env} {R : Room} {s : State} {m : MethodId} {args : Array Value} {below : List Frame} {meth : Method} {c : Code} {Q : State → Prop} {cc : ByteArray} {D : va_G} {tys : List (ClassId × FieldType)} {aK aV b0 nL o : Nat} {pc : Nat} {cs sl : Nat} {H : Heap} {locs : List Loc} {ls : Array Slot} {rest : List Value} {ad : Nat → Nat} {ws : va_W}
/-- a call by its exact contract -/
theorem lf_call (C : ev_cx p s m args meth c cc nL o D tys aK aV b0) {i mi n j ci fr : Nat} {r : MethodName × ByteArray × Nat × Option FieldType} {fs : List en_V} {rc : vw_C} {As : List Value} {as : List pV} {v : Int} {σ' : pS} (hf : en_find o i en_cl = some (0, mi, n)) (hr : en_ms[mi]? = some r) (hC : Con l fr mi as (sg ws) v σ') (ha : en_vs tF.length ad (as.map pe) (.ref (ad j) :: As)) (hsm : r.2.2.2.isSome = true) (hn : As.length = n)
    (hj : tF[j]? = some (.inr (ci, fs))) (hrc : vwCl[ci]? = some rc) (hmo : en_mo[mi]? = some ci) (hfr : fr + 1 ≤ R.frames) (hlo : 8 + (r.2.2.1 + 11) + 100 * fr ≤ R.locals) (hc1 : cs ≤ R.cells) (hc2 : sl ≤ R.slots) (h8 : (rest.map fun v => v.category).sum ≤ 8) (hls : ls.size = nL) (hd : decode cc pc = .ok (.invokevirtual i, 3)) (hw : ev_w tys tF ad ws) (hP : va_P D vwCl ws H) (hD : va_D (fun q => b0 ≤ q) ws) (hS : va_S (fun q => b0 ≤ q) s.heap H locs)
    (k : ∀ (x : Int32) (ws1 : va_W) (H1 : Heap) (locs1 : List Loc), sg ws1 = σ' → x.toInt = v → ev_w tys tF ad ws1 → va_P D vwCl ws1 H1 → va_D (fun q => b0 ≤ q) ws1 → va_S (fun q => b0 ≤ q) s.heap H1 locs1 → W p l e R s m args below meth c H1 locs1 cs sl Q (F0 m (pc + 3) ls (.int x :: rest))) : W p l e R s m args below meth c H locs cs sl Q (F0 m pc ls (As.reverse ++ .ref (ad j) :: rest)) := by
  obtain ⟨e0, g1, vs, rfl, g2⟩ := hw.2 j _ hj
  have hM : Met l r.1 (Cond.code r.1 r.2.1 r.2.2.1 r.2.2.2 :: en_ws) (px_rm fr) (ek_pc D tys aK aV b0 ws (.ref (ad j) :: As)) (va_Qi (S := va_W) (fun x w => ev_w tys tF ad w ∧ sg w = σ' ∧ x.toInt = v) (fun w t => va_P D vwCl w t.heap ∧ va_D (fun q => b0 ≤ q) w) (fun q => b0 ≤ q)) 0 0 (fun q => b0 ≤ q) := by
    have h := hC r hr D tys aK aV b0 ad ws _ ha hw rfl
    rw [hsm] at h
    exact h
  have hDd := (en_clD hf hr).1
  have hww := en_clW hf hr
  have hts := C.2.2.2.2.1
  have hB := callB_of (own := en_nm o) (index := i) (R := R) (rm := px_rm fr) (mc := 0) (ms := 0) n hts (en_codeG hr) rfl rfl rfl (hts _ (en_ws_in (hww (.initialized r.1.cls) (by simp)) rfl)) (hts _ (en_ws_in (hww (.methodLink (en_nm o) i r.1) (by simp)) rfl)) hDd ⟨hfr, hlo⟩
  have hrecv := va_recv C.2.2.2.2.2.1 hP hrc g1
  rw [(en_nm_cl hrc).trans (en_mo_ok hr hmo)] at hrecv
  have hrun := va_runV (H := H) (locs := locs) (cells := cs) (slots := sl) (g := F0 m pc ls (As.reverse ++ .ref (ad j) :: rest)) (e := e) (below := below) (meth := meth) (C := r.1.cls) (As := As) (rest := rest) ⟨C.1, C.2.1, C.2.2.1, C.2.2.2.1, hts⟩ hM ⟨hB, hts _ (en_ws_in (hww (.instanceMethod r.1) (by simp)) rfl), hts _ (en_ws_in (hww (.selects r.1.cls r.1 r.1) (by simp)) rfl)⟩ ⟨ek_pc_blind, hrecv, ek_pre_at C hP hD hS⟩ rfl hn hls rfl (lv_room h8) hd ⟨hc1, hc2⟩
  refine va_calli (a := (Value.ref (ad j) :: As).toArray) hrun hS (fun q _ h => h) (fun q h => h) (fun x w t H1 locs1 ht _ hpost hB _ _ hS1 => ?_)
  obtain ⟨p1, p2, p3⟩ := hpost
  subst ht
  exact k x w t.heap locs1 p2 p3 p1 hB.1 hB.2 hS1
end LE0
/-- what a method of the law's must be: j its receiver's cell, i its place in the law's pool, n its arguments, mi its number, fr its frames -/
def lf_ck (j i n mi fr : Nat) : Bool := match en_find 13 i en_cl with
  | some (ka, ma, na) => match en_ms[ma]? with
    | some ra => match tF[j]? with
      | some (.inr qa) => match vwCl[qa.1]? with
        | some _ => ka == 0 && (na == n && (mi == ma && (ra.2.2.2.isSome && ((en_mo[ma]? == some qa.1) && (decide (fr + 1 ≤ 2048) && decide (8 + (ra.2.2.1 + 11) + 100 * fr ≤ 84000))))))
        | none => false
      | _ => false
    | none => false
  | none => false
theorem tf0 : 0 < tF.length := by decide +kernel
theorem tf84 : 84 < tF.length := by decide +kernel
theorem wmA_r {k x : Nat} (h : wmA k x) : 84 ≤ k ∧ k ≤ 148 := by
  unfold wmA wmT wmP wmL wmS wmR wmK wmW at h
  omega
theorem wcA_r {k x : Nat} (h : wcA k x) : k < 84 ∨ 148 < k := by
  unfold wcA wcT wcP wcL wcS wcR wcK wcW at h
  omega
theorem WR.qm {N : Nat} {σ τ τ' : pS} (h : WR N σ τ) (h2 : EQc wmA τ τ') : WR N σ τ' := by
  obtain ⟨a1, a2, a3, a4, a5, a6, a7, a8⟩ := h
  refine ⟨a1.q (EQc.rf _ _) (fun k x z => h2 k x (Or.inl z)), a2.q (EQc.rf _ _) (fun k x z => h2 k x (Or.inr (Or.inl z))), a3.q (EQc.rf _ _) (fun k x z => h2 k x (Or.inr (Or.inr (Or.inl z)))), a4.q (EQc.rf _ _) (fun k x z => h2 k x (Or.inr (Or.inr (Or.inr (Or.inl z))))), a5.q (EQc.rf _ _) (fun k x z => h2 k x (Or.inr (Or.inr (Or.inr (Or.inr (Or.inl z)))))), a6.q (EQc.rf _ _) (fun k x z => h2 k x (Or.inr (Or.inr (Or.inr (Or.inr (Or.inr (Or.inl z))))))), a7.q (EQc.rf _ _) (fun k x z => h2 k x (Or.inr (Or.inr (Or.inr (Or.inr (Or.inr (Or.inr z))))))), ?_⟩
  unfold CNT at *
  rw [h2 84 5 (Or.inr (Or.inr (Or.inr (Or.inr (Or.inr (Or.inl (by unfold wmK; omega)))))))]
  exact a8
/-- both calls, one behind the other, over one store -/
theorem lw_two {N : Nat} {F G : pS → Option (Int × pS)} {cmp : Bool} {σ : pS} (hls : ∀ σ τ : pS, WR N σ τ → ∃ v w σ' τ', F σ = some (v, σ') ∧ G τ = some (w, τ') ∧ WS N σ τ σ' τ' ∧ (cmp = true → v = w)) (hJ : WR N σ σ) : ∃ v σ1 w τ1, F σ = some (v, σ1) ∧ G σ1 = some (w, τ1) ∧ WR (N + 1) τ1 τ1 ∧ (cmp = true → v = w) := by
  obtain ⟨v, w0, σ1, τ0, e1, -, ⟨-, e2, -⟩, -⟩ := hls σ σ hJ
  have h1 : WR N σ σ1 := hJ.qm (fun k x z => e2 k x (wmA_r z).1 (wmA_r z).2)
  obtain ⟨v', w, σ2, τ1, f1, f2, ⟨f3, -, f4⟩, f5⟩ := hls σ σ1 h1
  have e := Option.some.inj (e1.symm.trans f1)
  have ev : v = v' := congrArg Prod.fst e
  have es : σ1 = σ2 := congrArg Prod.snd e
  refine ⟨v, σ1, w, τ1, e1, f2, ?_, fun hc => ev.trans (f5 hc)⟩
  rw [← es] at f3
  exact f3.qc (fun k x z => f4 k x (wcA_r z))
def le_go (p : Program) (l : Launch) (e : Env) (s : State) (m : MethodId) (args : Array Value) (below : List Frame) (meth : Method) (c : Code) (Q : State → Prop) (D : va_G) (tys : List (ClassId × FieldType)) (b0 : Nat) (ad : Nat → Nat) (ls : Array Slot) (cs sl pc N : Nat) : Prop :=
  ∀ (ws : va_W) (H : Heap) (locs : List Loc), ev_w tys tF ad ws → WR N (sg ws) (sg ws) → va_P D vwCl ws H → va_D (fun q => b0 ≤ q) ws → va_S (fun q => b0 ≤ q) s.heap H locs → W p l e room_1 s m args below meth c H locs cs sl Q (F0 m pc ls [])
section LE1
variable {p : Program} {l : Launch} {e : Env} {s : State} {m : MethodId} {args : Array Value} {below : List Frame} {meth : Method} {c : Code} {Q : State → Prop} {D : va_G} {tys : List (ClassId × FieldType)} {aK aV b0 cs sl b L i : Nat} {xs : Nat → Int32} {ls : Array Slot} {ad : Nat → Nat} {H : Heap} {locs : List Loc} {ws : va_W}
theorem lf_one (C : ev_cx p s m args meth c code 4 13 D tys aK aV b0) {j ia n mi fr pa : Nat} {As rest : List Value} {as : List pV} {v : Int} {σ' : pS} (hck : lf_ck j ia n mi fr = true) (hC : Con l fr mi as (sg ws) v σ') (ha : en_vs tF.length ad (as.map pe) (.ref (ad j) :: As)) (hn : As.length = n) (hls : ls.size = 4) (hcs : cs ≤ 600000) (hsl : sl ≤ 7302250) (h8 : (rest.map fun v => v.category).sum ≤ 8) (da : decode code pa = .ok (.invokevirtual ia, 3)) (hw : ev_w tys tF ad ws) (hP : va_P D vwCl ws H) (hD : va_D (fun q => b0 ≤ q) ws) (hS : va_S (fun q => b0 ≤ q) s.heap H locs)
    (k : ∀ (x : Int32) (ws1 : va_W) (H1 : Heap) (locs1 : List Loc), sg ws1 = σ' → x.toInt = v → ev_w tys tF ad ws1 → va_P D vwCl ws1 H1 → va_D (fun q => b0 ≤ q) ws1 → va_S (fun q => b0 ≤ q) s.heap H1 locs1 → W p l e room_1 s m args below meth c H1 locs1 cs sl Q (F0 m (pa + 3) ls (.int x :: rest))) : W p l e room_1 s m args below meth c H locs cs sl Q (F0 m pa ls (As.reverse ++ .ref (ad j) :: rest)) := by
  unfold lf_ck at hck
  split at hck
  case h_2 => cases hck
  rename_i ka ma na hfa
  split at hck
  case h_2 => cases hck
  rename_i ra hra
  split at hck
  case h_2 => cases hck
  rename_i qa hqa
  split at hck
  case h_2 => cases hck
  rename_i ca hca
  simp only [Bool.and_eq_true, beq_iff_eq, decide_eq_true_eq] at hck
  obtain ⟨h1, h2, h3, h4, h7, h9, h10⟩ := hck
  subst h1
  subst h2
  subst h3
  exact lf_call (R := room_1) C hfa hra hC ha h4 hn hqa hca h7 h9 h10 hcs hsl h8 hls da hw hP hD hS k
theorem le_nI {i k : Nat} (h : i + k < 2 ^ 31) : nI i + nI k = nI (i + k) := by
  rw [fa_eq, fb_addI (by rw [nI_toInt (by omega), nI_toInt (by omega)]; omega) (by rw [nI_toInt (by omega), nI_toInt (by omega)]; omega), nI_toInt (by omega), nI_toInt (by omega), nI_toInt (by omega)]
  omega
theorem le_arg (hx : p.tables.exec = Jvm.exec) (hb : c.code = code) (hX : va_X b L xs s s.heap) (hbl : b < s.heap.size) (hbA : ¬ b0 ≤ b) {rest : List Value} {pc k : Nat} {kI : Int} (hl0 : ls[0]? = some (.val (.ref b))) (hl3 : ls[3]? = some (.val (.int (nI i)))) (hk : Int32.ofInt kI = nI k) (hkL : i + k < L) (hL : L < 2 ^ 31) (hS : va_S (fun q => b0 ≤ q) s.heap H locs)
    (d0 : decode code pc = .ok (.aload_n 0, 1)) (d1 : decode code (pc + 1) = .ok (.iload_n 3, 1)) (d2 : decode code (pc + 2) = .ok (.iconst kI, 1)) (d3 : decode code (pc + 3) = .ok (.iadd, 1)) (d4 : decode code (pc + 4) = .ok (.iaload, 1))
    (kk : W p l e room_1 s m args below meth c H locs cs sl Q (F0 m (pc + 5) ls (.int (xs (i + k)) :: rest))) : W p l e room_1 s m args below meth c H locs cs sl Q (F0 m pc ls rest) := by
  refine lv_aload_n hx hb d0 rfl hl0 ?_
  refine lv_iload_n hx hb d1 rfl hl3 ?_
  refine lv_iconst hx hb d2 hk ?_
  refine lv_iadd hx hb d3 ?_
  rw [le_nI (by omega)]
  refine va_sld hx hb hX hbl hbA hS (vp_in_nI hkL hL) d4 ?_
  rw [nI_clamp (by omega)]
  exact kk
theorem le_iv {N : Nat} {lo hi : Int} {x : Int32} (h1 : lo ≤ x.toInt) (h2 : x.toInt ≤ hi) : en_v N ad (.inl (lo, hi)) (.int x) := ⟨x, rfl, h1, h2⟩
end LE1
