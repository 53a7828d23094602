def R_law : String := "LoadsAheadLaw"
def lw_P (b : Addr) (xs : List Int32) (args : Array Value) (s : State) : Prop := args = #[.ref b] ∧ s.IntsAt b xs ∧ xs.length ≤ 6 ∧ (Jvm.Cond.and given_1 narrow_1).before args s = true
def lw_Q (_ : Array Value) (s : State) (o : Outcome) (t : State) : Prop := o = .returned (some (.int 1)) ∧ Framed s o t [] 600000 7302250
def lw_Z (below : List Frame) (a : Array Value) (s : State) : State → Prop := fun t => ∃ o, t.status = .running ∧ Ended t below o ∧ lw_Q a s o t
/-- the law's own end, with 1 on the stack, nothing written that was there before, its room as the claim has it -/
theorem lw_ret {p : Program} {l : Launch} {e : Env} {s : State} {m : MethodId} {below : List Frame} {meth : Method} {c : Code} {b : Nat} (hx : p.tables.exec = Jvm.exec) (hb : c.code = code) (hr : meth.sig.returnType = ret) (hlocks : meth.locks = false) {pc : Nat} {H : Heap} {ls : Array Slot} (hdg : decode code pc = .ok (.ireturn, 1)) : W p l e room_1 s m #[Value.ref b] below meth c H [] 600000 7302250 (lw_Z below #[Value.ref b] s) (F0 m pc ls [.int 1]) := by
  intro T hT X
  obtain ⟨fs, hret, hrun, hended, hW, hframe⟩ := X.leave (v := some (.int 1)) (hlocks := hlocks) (fun h => by rw [hr] at h; cases h)
  have hmeth' : T.vm.method? m = some meth := X.method'
  refine ⟨T.setFrames fs, ?_, .returned (some (.int 1)), hrun, hended, rfl, ⟨_, rfl⟩, hW, hframe⟩
  jvm_step X.here [X.here.top, hx, hb, hdg, hmeth', hr, ret, narrow_b1]
  (try refine ⟨rfl, ?_⟩); (try refine ⟨rfl, ?_⟩)
  first | (intro acts; rw [hret _ acts rfl rfl rfl]) | rw [hret _ _ rfl rfl rfl]
  exact Steps.refl _
/-- what holds at the law's entry: the machine, the code, the tables' words (any of lw_tbl by 'hts w (by decide +kernel)'), the script of L ints xs at the cell b, what the Statement gives of the start (any of its parts by flat_of_before) -/
def lw_At (p : Program) (s : State) (m : MethodId) (meth : Method) (c : Code) (b L : Nat) (xs : Nat → Int32) : Prop :=
  p.tables.exec = Jvm.exec ∧ c.code = code ∧ meth.sig.returnType = ret ∧ c.maxLocals = 4 ∧ s.vm.findClass R_law = some m.cls ∧ (∀ w ∈ lw_tbl, w.before #[Value.ref b] s = true) ∧ va_X b L xs s s.heap ∧ b < s.heap.size ∧ meth.locks = false ∧ (Jvm.Cond.and given_1 narrow_1).before #[Value.ref b] s = true
section ENL
variable {p : Program} {l : Launch} {e : Env} {R : Room} {s : State} {m : MethodId} {args : Array Value} {below : List Frame} {meth : Method} {c : Code} {Q : State → Prop} {cc : ByteArray} {D : va_G} {tys : List (ClassId × FieldType)} {aK aV b0 nL o : Nat}
variable {pc : Nat} {T : en_T} {cs sl : Nat} {κ : en_K} {H : Heap} {locs : List Loc} {ls : Array Slot} {rest : List Value} {ad : Nat → Nat}
theorem lw_new (C : en_cx p s m args meth c cc nL o D tys aK aV b0) {i ci : Nat} {r : vw_C} (hf : en_find o i en_nw = some ci) (hr0 : vwCl[ci]? = some r) (hdk : (List.range r.2.2).all (fun j => en_dok (en_tyX ci j)) = true) (hc1 : cs + 1 ≤ R.cells) (hc2 : sl + r.2.2 ≤ R.slots) (hd : decode cc pc = .ok (.new i, 3)) (hW : en_W D tys (fun q => b0 ≤ q) T ad H) (hS : va_S (fun q => b0 ≤ q) s.heap H locs)
    (k : ∀ (ad1 : Nat → Nat) (H1 : Heap), (∀ k, k < T.length → ad1 k = ad k) → en_W D tys (fun q => b0 ≤ q) (T ++ [.inr (ci, en_df ci r.2.2)]) ad1 H1 → va_S (fun q => b0 ≤ q) s.heap H1 locs → W p l e R s m args below meth c H1 locs (cs + 1) (sl + r.2.2) Q (F0 m (pc + 3) ls (.ref (ad1 T.length) :: rest))) : W p l e R s m args below meth c H locs cs sl Q (F0 m pc ls rest) := by
  obtain ⟨ws, w1, w2, w3, w4⟩ := hW
  have hmem : ∀ w ∈ en_nww (o, i, ci), w ∈ lw_tbl := fun w hw => en_nw_in w (List.mem_flatMap.mpr ⟨(o, i, ci), en_find_mem hf, hw⟩)
  have hlist : en_nww (o, i, ci) = [.classLink (en_nm o) i r.1, .instantiable r.1 r.2.2, .initialized r.1] := by
    show (match vwCl[ci]? with
      | some r => _
      | none => _) = _
    rw [hr0]
  rw [hlist] at hmem
  have hA : ∀ q : Nat, s.heap.size ≤ q → (fun q : Nat => b0 ≤ q) q := fun q hq => Nat.le_trans C.2.2.2.2.2.2.2.1 hq
  have hdk1 : ∀ j, j < r.2.2 → en_dok (en_tyX ci j) = true := fun j hj => List.all_eq_true.mp hdk j (List.mem_range.mpr hj)
  refine va_new (C := r.1) (T := r.2.1) (N := r.2.2) (fs := (List.range r.2.2).map (fun j => defaultValue (en_tyX ci j))) C.1 C.2.1 C.2.2.2.2.1 (en_cls_ws hr0) (en_tyX ci) (en_cls ci r hr0).2.1 C.2.2.2.1 (C.2.2.2.2.1 _ (en_ws_in (hmem _ List.mem_cons_self) rfl)) (C.2.2.2.2.1 _ (en_ws_in (hmem _ (List.mem_cons_of_mem _ List.mem_cons_self)) rfl)) (C.2.2.2.2.1 _ (en_ws_in (hmem _ (List.mem_cons_of_mem _ (List.mem_cons_of_mem _ List.mem_cons_self))) rfl)) C.2.2.2.2.2.1 w3 w4 hS hA hr0 ?_ hc1 hc2 hd (fun q H1 hP hD hS1 => ?_)
  · intro j hj
    unfold vp_V
    rw [List.getD_eq_getElem?_getD, List.getElem?_map, List.getElem?_range hj]
    rfl
  · have h := k (en_up ad T.length q) H1 (fun k hk => en_up_lt hk) (en_W.push w1 w2 hP hD ⟨_, rfl, en_map_vs _ (fun j hj => en_dv_ok (hdk1 j (List.mem_range.mp hj)))⟩) hS1
    rw [en_up_at] at h
    exact h
theorem lw_callI (C : en_cx p s m args meth c cc nL o D tys aK aV b0) {i mi j : Nat} {r : MethodName × ByteArray × Nat × Option FieldType} (hf : en_find o i en_cl = some (3, mi, 0)) (hr : en_ms[mi]? = some r) (hκ : en_ok l κ) (hm : κ.1 = mi) (hav : κ.2.1 = [.inr (j + 2)]) (hj : j < T.length) (hT : en_all2 en_cle T (k_T0 κ) = true) (hrv : k_rv κ = none)
    (hfr : k_fr κ + 1 ≤ R.frames) (hlo : 8 + (r.2.2.1 + 11) + k_lo κ ≤ R.locals) (hc1 : cs + k_mc κ ≤ R.cells) (hc2 : sl + k_ms κ ≤ R.slots) (h8 : (rest.map fun v => v.category).sum ≤ 8) (hls : ls.size = nL) (hd : decode cc pc = .ok (.invokespecial i, 3)) (hW : en_W D tys (fun q => b0 ≤ q) T ad H) (hS : va_S (fun q => b0 ≤ q) s.heap H locs)
    (k : ∀ (ad' : Nat → Nat) (H1 : Heap) (locs1 : List Loc), (∀ k, k < T.length → ad' k = ad k) → T.length ≤ (k_T1 κ).length → en_W D tys (fun q => b0 ≤ q) (k_T1 κ) ad' H1 → va_S (fun q => b0 ≤ q) s.heap H1 locs1 → W p l e R s m args below meth c H1 locs1 (cs + k_mc κ) (sl + k_ms κ) Q (F0 m (pc + 3) ls rest)) : W p l e R s m args below meth c H locs cs sl Q (F0 m pc ls (.ref (ad j) :: rest)) := by
  subst hm
  have hlen := en_all2_len hT
  have hM := hκ r hr D tys aK aV b0 C.2.2.2.2.2.2.1 [Value.ref (ad j)] ad (by rw [hav, ← hlen]; exact ⟨⟨rfl, hj⟩, trivial⟩)
  have hD := (en_clD hf hr).1
  obtain ⟨hnm, hret⟩ := (en_clD hf hr).2 (by omega)
  have hw := en_clW hf hr
  have hts := C.2.2.2.2.1
  have hG := en_codeG hr
  obtain ⟨y, code, ml, rt⟩ := r
  dsimp only at hret hnm hM hD hw hG hlo
  subst hret
  have hB := callB_of (own := en_nm o) (index := i) (R := R) (rm := en_rm κ) (mc := k_mc κ) (ms := k_ms κ) 0 hts hG rfl rfl rfl (hts _ (en_ws_in (hw (.initialized y.cls) (by simp)) rfl)) (hts _ (en_ws_in (hw (.methodLink (en_nm o) i y) (by simp)) rfl)) hD ⟨hfr, hlo⟩
  have hrun := va_runI (H := H) (locs := locs) (cells := cs) (slots := sl) (g := F0 m pc ls (.ref (ad j) :: rest)) (e := e) (below := below) (meth := meth) (As := []) (rest := rest) ⟨C.1, C.2.1, C.2.2.1, C.2.2.2.1, hts⟩ hM ⟨hB, hnm, hts _ (en_ws_in (hw (.instanceMethod y) (by simp)) rfl)⟩ ⟨en_pc_blind, en_pre C hW hS hT⟩ rfl rfl hls rfl (lv_room h8) hd ⟨hc1, hc2⟩
  rw [hrv] at hrun
  refine va_callv (a := (Value.ref (ad j) :: []).toArray) hrun hS (fun q _ h => h) (fun q h => h) (fun u t H1 locs1 ht _ hpost hB _ _ hS1 => ?_)
  obtain ⟨p1, p2⟩ := hpost
  subst ht
  exact k u t.heap locs1 (fun k hk => p2 k (by omega)) (by omega) hB hS1
theorem lw_callV (C : en_cx p s m args meth c cc nL o D tys aK aV b0) {i mi n j ci : Nat} {r : MethodName × ByteArray × Nat × Option FieldType} {fs : List en_V} {rc : vw_C} {As : List Value} {q : Int × Int} (hf : en_find o i en_cl = some (0, mi, n)) (hr : en_ms[mi]? = some r) (hκ : en_ok l κ) (hm : κ.1 = mi) (hn : As.length = n) (hav : en_vs T.length ad κ.2.1 (.ref (ad j) :: As)) (hT : en_all2 en_cle T (k_T0 κ) = true)
    (hj : T[j]? = some (.inr (ci, fs))) (hrc : vwCl[ci]? = some rc) (hmo : en_mo[mi]? = some ci) (hrv : k_rv κ = some (.inl q)) (hfr : k_fr κ + 1 ≤ R.frames) (hlo : 8 + (r.2.2.1 + 11) + k_lo κ ≤ R.locals) (hc1 : cs + k_mc κ ≤ R.cells) (hc2 : sl + k_ms κ ≤ R.slots) (h8 : (rest.map fun v => v.category).sum ≤ 8) (hls : ls.size = nL) (hd : decode cc pc = .ok (.invokevirtual i, 3)) (hW : en_W D tys (fun q => b0 ≤ q) T ad H) (hS : va_S (fun q => b0 ≤ q) s.heap H locs)
    (k : ∀ (x : Int32) (ad' : Nat → Nat) (H1 : Heap) (locs1 : List Loc), en_in q x → (∀ k, k < T.length → ad' k = ad k) → T.length ≤ (k_T1 κ).length → en_W D tys (fun q => b0 ≤ q) (k_T1 κ) ad' H1 → va_S (fun q => b0 ≤ q) s.heap H1 locs1 → W p l e R s m args below meth c H1 locs1 (cs + k_mc κ) (sl + k_ms κ) Q (F0 m (pc + 3) ls (.int x :: rest))) : W p l e R s m args below meth c H locs cs sl Q (F0 m pc ls (As.reverse ++ .ref (ad j) :: rest)) := by
  subst hm
  have hlen := en_all2_len hT
  have hW0 := hW
  obtain ⟨ws, w1, w2, w3, w4⟩ := hW
  obtain ⟨e0, g1, vs, rfl, g2⟩ := w2 j _ hj
  have hM := hκ r hr D tys aK aV b0 C.2.2.2.2.2.2.1 (Value.ref (ad j) :: As) ad (by rw [← hlen]; exact hav)
  have hD := (en_clD hf hr).1
  have hw := en_clW hf hr
  have hts := C.2.2.2.2.1
  have hB := callB_of (own := en_nm o) (index := i) (R := R) (rm := en_rm κ) (mc := k_mc κ) (ms := k_ms κ) n hts (en_codeG hr) rfl rfl rfl (hts _ (en_ws_in (hw (.initialized r.1.cls) (by simp)) rfl)) (hts _ (en_ws_in (hw (.methodLink (en_nm o) i r.1) (by simp)) rfl)) hD ⟨hfr, hlo⟩
  have hrecv := va_recv C.2.2.2.2.2.1 w3 hrc g1
  rw [(en_nm_cl hrc).trans (en_mo_ok hr hmo)] at hrecv
  have hrun := va_runV (H := H) (locs := locs) (cells := cs) (slots := sl) (g := F0 m pc ls (As.reverse ++ .ref (ad j) :: rest)) (e := e) (below := below) (meth := meth) (C := r.1.cls) (As := As) (rest := rest) ⟨C.1, C.2.1, C.2.2.1, C.2.2.2.1, hts⟩ hM ⟨hB, hts _ (en_ws_in (hw (.instanceMethod r.1) (by simp)) rfl), hts _ (en_ws_in (hw (.selects r.1.cls r.1 r.1) (by simp)) rfl)⟩ ⟨en_pc_blind, hrecv, en_pre C hW0 hS hT⟩ rfl hn hls rfl (lv_room h8) hd ⟨hc1, hc2⟩
  rw [hrv] at hrun
  refine va_calli (a := (Value.ref (ad j) :: As).toArray) hrun hS (fun q _ h => h) (fun q h => h) (fun x u t H1 locs1 ht _ hpost hB _ _ hS1 => ?_)
  obtain ⟨p0, p1, p2⟩ := hpost
  subst ht
  obtain ⟨x', ex, hx'⟩ := p0
  cases ex
  exact k x u t.heap locs1 hx' (fun k hk => p2 k (by omega)) (by omega) hB hS1
end ENL
/-- what two contracts, of the system and of the other, must be for one call of the law -/
def lw_ck (T : en_T) (j0 j1 ia ib n : Nat) (κa κb : en_K) (box : List en_V) : Bool := match en_find 13 ia en_cl with
  | some (ka, ma, na) => match en_find 13 ib en_cl with
    | some (kb, mb, nb) => match en_ms[ma]? with
      | some ra => match en_ms[mb]? with
        | some rb => match T[j0]? with
          | some (.inr qa) => match (k_T1 κa)[j1]? with
            | some (.inr qb) => match vwCl[qa.1]? with
              | some _ => match vwCl[qb.1]? with
                | some _ => match k_rv κa with
                  | some (.inl ya) => match k_rv κb with
                    | some (.inl yb) => ka == 0 && (kb == 0 && (na == n && (nb == n && (κa.1 == ma && (κb.1 == mb && (en_all2 en_cle T (k_T0 κa) && (en_all2 en_cle (k_T1 κa) (k_T0 κb) && (en_all2 en_le (.inr (j0 + 2) :: box) κa.2.1 && (en_all2 en_le (.inr (j1 + 2) :: box) κb.2.1 && (en_mo[ma]? == some qa.1 && (en_mo[mb]? == some qb.1 && (decide (ya.1 = ya.2) && (decide (yb.1 = yb.2) && (decide (ya.1 = yb.1) && (decide (k_fr κa + 1 ≤ 2048) && (decide (k_fr κb + 1 ≤ 2048) && (decide (8 + (ra.2.2.1 + 11) + k_lo κa ≤ 84000) && (decide (8 + (rb.2.2.1 + 11) + k_lo κb ≤ 84000) && (k_mc κa == 0 && (k_ms κa == 0 && (k_mc κb == 0 && (k_ms κb == 0 && (box.length == n && (decide (j0 < T.length) && (decide (j1 < T.length) && box.all en_isI)))))))))))))))))))))))))
                    | _ => false
                  | _ => false
                | none => false
              | none => false
            | _ => false
          | _ => false
        | none => false
      | none => false
    | none => false
  | none => false
section ENL2
variable {p : Program} {l : Launch} {e : Env} {s : State} {m : MethodId} {args : Array Value} {below : List Frame} {meth : Method} {c : Code} {Q : State → Prop} {D : va_G} {tys : List (ClassId × FieldType)} {aK aV b0 : Nat}
variable {T : en_T} {cs sl : Nat}
def lw_go (p : Program) (l : Launch) (e : Env) (s : State) (m : MethodId) (args : Array Value) (below : List Frame) (meth : Method) (c : Code) (Q : State → Prop) (D : va_G) (tys : List (ClassId × FieldType)) (b0 : Nat) (ls : Array Slot) (cs sl pc : Nat) : Prop :=
  ∀ (T : en_T) (ad : Nat → Nat) (H : Heap) (locs : List Loc), en_W D tys (fun q => b0 ≤ q) T ad H → va_S (fun q => b0 ≤ q) s.heap H locs → W p l e room_1 s m args below meth c H locs cs sl Q (F0 m pc ls [])
/-- both calls: 'push' lays the numbers on the stack, for each of the two -/
theorem lw_two (C : en_cx p s m args meth c code 4 13 D tys aK aV b0) {j0 j1 ia ib n : Nat} {κa κb : en_K} {box : List en_V} {As : List Value} {ls : Array Slot} {H : Heap} {locs : List Loc} {ad : Nat → Nat} {pa pb pe : Nat} (hck : lw_ck T j0 j1 ia ib n κa κb box = true) (hκa : en_ok l κa) (hκb : en_ok l κb) (hbox : en_vs T.length ad box As) (hls : ls.size = 4) (hcs : cs ≤ 600000) (hsl : sl ≤ 7302250)
    (da : decode code pa = .ok (.invokevirtual ia, 3)) (db : decode code pb = .ok (.invokevirtual ib, 3)) {off : Int} (dq : decode code (pb + 3) = .ok (.if_icmp .eq off, 3)) (hoff : ((pb + 3 : Nat) : Int) + off = (pe : Int)) (hW : en_W D tys (fun q => b0 ≤ q) T ad H) (hS : va_S (fun q => b0 ≤ q) s.heap H locs)
    (push : ∀ (H : Heap) (locs : List Loc) (x : Int32), va_S (fun q => b0 ≤ q) s.heap H locs → W p l e room_1 s m args below meth c H locs cs sl Q (F0 m pb ls (As.reverse ++ .ref (ad j1) :: [.int x])) → W p l e room_1 s m args below meth c H locs cs sl Q (F0 m (pa + 3) ls [.int x]))
    (k : lw_go p l e s m args below meth c Q D tys b0 ls cs sl pe) : W p l e room_1 s m args below meth c H locs cs sl Q (F0 m pa ls (As.reverse ++ .ref (ad j0) :: [])) := by
  unfold lw_ck at hck
  split at hck
  case h_2 => cases hck
  rename_i ka ma na hfa
  split at hck
  case h_2 => cases hck
  rename_i kb mb nb hfb
  split at hck
  case h_2 => cases hck
  rename_i ra hra
  split at hck
  case h_2 => cases hck
  rename_i rb hrb
  split at hck
  case h_2 => cases hck
  rename_i qa hqa
  split at hck
  case h_2 => cases hck
  rename_i qb hqb
  split at hck
  case h_2 => cases hck
  rename_i ca hca
  split at hck
  case h_2 => cases hck
  rename_i cb hcb
  split at hck
  case h_2 => cases hck
  rename_i ya hya
  split at hck
  case h_2 => cases hck
  rename_i yb hyb
  simp only [Bool.and_eq_true, beq_iff_eq, decide_eq_true_eq] at hck
  obtain ⟨h1, h2, h3, h4, h5, h6, h7, h8, h9, h10, h11, h12, h13, h14, h15, h16, h17, h18, h19, h20, h21, h22, h23, h24, h25, h26, h27⟩ := hck
  subst h1; subst h2; subst h3; subst h4
  have hlenA := (en_vs_len hbox).symm.trans h24
  refine lw_callV C hfa hra hκa h5 hlenA (en_all2_vs h9 ⟨⟨rfl, h25⟩, hbox⟩) h7 hqa hca h11 hya h16 h18 (by rw [h20]; exact hcs) (by rw [h21]; exact hsl) (by simp) hls da hW hS (fun x ad1 H1 locs1 hx hag hlen hW1 hS1 => ?_)
  rw [h20, h21]
  show W p l e room_1 s m args below meth c H1 locs1 cs sl Q (F0 m (pa + 3) ls [.int x])
  refine push H1 locs1 x hS1 ?_
  rw [← hag j1 h26]
  refine lw_callV C hfb hrb hκb h6 hlenA (en_all2_vs h10 ⟨⟨rfl, by omega⟩, en_vs_ints h27 hbox⟩) h8 hqb hcb h12 hyb h17 h19 (by rw [h22]; exact hcs) (by rw [h23]; exact hsl) (by simp [Value.category]) hls db hW1 hS1 (fun y ad2 H2 locs2 hy _ _ hW2 hS2 => ?_)
  rw [h22, h23]
  have hxy : x = y := by
    rw [fa_eq]
    obtain ⟨a1, a2⟩ := hx
    obtain ⟨a3, a4⟩ := hy
    omega
  refine lv_icmp_eq (tgt := pe) C.1 C.2.1 dq hoff (fun _ => ?_) (fun hne => absurd hxy hne)
  exact k _ ad2 H2 locs2 hW2 hS2
theorem lw_arg (hx : p.tables.exec = Jvm.exec) (hb : c.code = code) {b L : Nat} {xs : Nat → Int32} (hX : va_X b L xs s s.heap) (hbl : b < s.heap.size) (hbA : ¬ b0 ≤ b) {ls : Array Slot} {H : Heap} {locs : List Loc} {rest : List Value} {pc k : Nat} {kI : Int} (hl0 : ls[0]? = some (.val (.ref b))) (hl3 : ls[3]? = some (.val (.int 0))) (hk : Int32.ofInt kI = nI k) (hkL : k < L) (hL : L < 2 ^ 31) (hS : va_S (fun q => b0 ≤ q) s.heap H locs)
    (d0 : decode code pc = .ok (.aload_n 0, 1)) (d1 : decode code (pc + 1) = .ok (.iload_n 3, 1)) (d2 : decode code (pc + 2) = .ok (.iconst kI, 1)) (d3 : decode code (pc + 3) = .ok (.iadd, 1)) (d4 : decode code (pc + 4) = .ok (.iaload, 1))
    (kk : W p l e room_1 s m args below meth c H locs cs sl Q (F0 m (pc + 5) ls (.int (xs k) :: rest))) : W p l e room_1 s m args below meth c H locs cs sl Q (F0 m pc ls rest) := by
  refine lv_aload_n hx hb d0 rfl hl0 ?_
  refine lv_iload_n hx hb d1 rfl hl3 ?_
  refine lv_iconst hx hb d2 hk ?_
  refine lv_iadd hx hb d3 ?_
  have e : (0 : Int32) + nI k = nI k := by rw [Int32.zero_add]
  rw [e]
  refine va_sld hx hb hX hbl hbA hS (vp_in_nI hkL hL) d4 ?_
  rw [nI_clamp (by omega)]
  exact kk
end ENL2
