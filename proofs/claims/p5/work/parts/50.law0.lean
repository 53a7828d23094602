def R_law : String := "LoadsAheadLaw"
def lw_P (b : Addr) (xs : List Int32) (args : Array Value) (s : State) : Prop := args = #[.ref b] ∧ s.IntsAt b xs ∧ xs.length ≤ 3072 ∧ (Jvm.Cond.and given_1 narrow_1).before args s = true
def lw_Q (_ : Array Value) (s : State) (o : Outcome) (t : State) : Prop := o = .returned (some (.int 1)) ∧ Framed s o t [] 600000 7302250
def lw_Z (below : List Frame) (a : Array Value) (s : State) : State → Prop := fun t => ∃ o, t.status = .running ∧ Ended t below o ∧ lw_Q a s o t
/-- the law's own end, with 1 on the stack, nothing written that was there before, its room as the claim has it -/
theorem lw_ret {p : Program} {l : Launch} {e : Env} {s : State} {m : MethodId} {below : List Frame} {meth : Method} {c : Code} {b : Nat} (hx : p.tables.exec = Jvm.exec) (hb : c.code = code) (hr : meth.sig.returnType = ret) (hlocks : meth.locks = false) {pc : Nat} {H : Heap} {ls : Array Slot} (hdg : decode code pc = .ok (.ireturn, 1)) : W p l e room_1 s m #[Value.ref b] below meth c H [] 600000 7302250 (lw_Z below #[Value.ref b] s) (F0 m pc ls [.int 1]) := by
  intro T hT X
  obtain ⟨fs, hret, hrun, hended, hW, hframe⟩ := X.leave (v := some (.int 1)) (hlocks := hlocks) (fun h => by rw [hr] at h; cases h)
  have hmeth' : T.vm.method? m = some meth := X.method'
  refine ⟨T.setFrames fs, ?_, .returned (some (.int 1)), hrun, hended, rfl, ⟨_, rfl⟩, hW, hframe⟩
  jvm_step X.here [X.here.top, hx, hb, hdg, hmeth', hr, ret, narrow_b1]
  (try refine ⟨rfl, ?_⟩); (try refine ⟨rfl, ?_⟩)
  first | (intro acts; rw [hret _ acts rfl rfl rfl]) | rw [hret _ _ rfl rfl rfl]
  exact Steps.refl _
/-- what holds at the law's entry: the machine, the code, the tables' words (any of lw_tbl by 'hts w (by decide +kernel)'), the script of L ints xs at the cell b, what the Statement gives of the start (any of its parts by flat_of_before) -/
def lw_At (p : Program) (s : State) (m : MethodId) (meth : Method) (c : Code) (b L : Nat) (xs : Nat → Int32) : Prop :=
  p.tables.exec = Jvm.exec ∧ c.code = code ∧ meth.sig.returnType = ret ∧ c.maxLocals = 4 ∧ s.vm.findClass R_law = some m.cls ∧ (∀ w ∈ lw_tbl, w.before #[Value.ref b] s = true) ∧ va_X b L xs s s.heap ∧ b < s.heap.size ∧ meth.locks = false ∧ (Jvm.Cond.and given_1 narrow_1).before #[Value.ref b] s = true
def lo (ad : Nat → Nat) (κ : ek) (x : Int32) (w : va_W) : Prop := ∃ u ∈ ek_out κ, (∃ a, u.1 = some a ∧ en_v tQ.length ad a (.int x)) ∧ ∀ f ∈ u.2, ev_ff w f
theorem ff_of {tys : List (ClassId × FieldType)} {T : en_T} {ad : Nat → Nat} {w : va_W} {j f ci : Nat} {fs : List en_V} {b : Int × Int} {v : Int} (hw : ev_w tys T ad w) (hj : T[j]? = some (.inr (ci, fs))) (hf : fs[f]? = some (.inl b)) (hv : gI w j f = v) : ev_ff w ((2, j, f), (v, v), none) := by
  obtain ⟨x, h1, h2⟩ := (gI_rng hw hj hf).2 #[]
  exact ⟨rfl, x, h1, ⟨by dsimp only; omega, by dsimp only; omega⟩, trivial⟩
theorem ff_gI {w : va_W} {j f : Nat} {v : Int} (h : ev_ff w ((2, j, f), (v, v), none)) : gI w j f = v := by
  obtain ⟨-, x, h1, h2, -⟩ := h
  have h3 := gI_loc h1
  obtain ⟨h4, h5⟩ := h2
  dsimp only at h4 h5
  omega
def lj_has (κ : ek) (j f : Nat) (v : Int) : Bool := (ek_out κ).all (fun u => decide (((2, j, f), (v, v), none) ∈ u.2))
theorem lo_ff {ad : Nat → Nat} {κ : ek} {x : Int32} {w : va_W} {j f : Nat} {v : Int} (h : lj_has κ j f v = true) (hlo : lo ad κ x w) : gI w j f = v := by
  obtain ⟨u, hu, -, hf⟩ := hlo
  exact ff_gI (hf _ (of_decide_eq_true (List.all_eq_true.mp h u hu)))
def le_eq (κa κb : ek) (v : Int) : Bool := (ek_out κa).all (fun u => decide (u.1 = some (.inl (v, v)))) && (ek_out κb).all (fun u => decide (u.1 = some (.inl (v, v))))
theorem lo_eq {ad : Nat → Nat} {κa κb : ek} {x y : Int32} {w1 w2 : va_W} {v : Int} (h : le_eq κa κb v = true) (hx : lo ad κa x w1) (hy : lo ad κb y w2) : x = y := by
  unfold le_eq at h
  rw [Bool.and_eq_true] at h
  obtain ⟨u, hu, ⟨a, hua, hux⟩, -⟩ := hx
  obtain ⟨w, hw9, ⟨a2, hwa, hwy⟩, -⟩ := hy
  have e1 := List.all_eq_true.mp h.1 u hu
  have e2 := List.all_eq_true.mp h.2 w hw9
  simp only [decide_eq_true_eq] at e1 e2
  rw [hua] at e1
  rw [hwa] at e2
  cases e1
  cases e2
  obtain ⟨x', ex, hx1, hx2⟩ := hux
  obtain ⟨y', ey, hy1, hy2⟩ := hwy
  cases ex
  cases ey
  rw [fa_eq]
  dsimp only at hx1 hx2 hy1 hy2
  omega
theorem nm_of {q : Nat × Nat} {W1 : List (Nat × Nat)} (h : W1.contains q = false) : q ∉ W1 := fun hm => by rw [List.contains_iff_mem.mpr hm] at h; cases h
def jS : List (Nat × Nat) := [(1, 1), (2, 999), (84, 18), (96, 999), (4, 11), (4, 12), (5, 999), (6, 999), (7, 999), (8, 999), (9, 999), (10, 999), (11, 999), (12, 999), (13, 999), (84, 2), (88, 999), (89, 999), (90, 999), (91, 999), (92, 999), (93, 999), (94, 999), (95, 999)]
def jNo (A W1 : List (Nat × Nat)) : Bool := W1.all (fun q => !A.contains q)
theorem jNo_ok {A W1 : List (Nat × Nat)} (h : jNo A W1 = true) {q : Nat × Nat} (hq : A.contains q = true) : q ∉ W1 := fun hm => by
  have h1 := List.all_eq_true.mp h q hm
  rw [hq] at h1
  cases h1
theorem jNo_sub {A B W1 : List (Nat × Nat)} (h : jNo A W1 = true) (hs : B.all (fun q => A.contains q) = true) : jNo B W1 = true := by
  refine List.all_eq_true.mpr (fun q hq => ?_)
  cases hb : B.contains q with
  | false => rfl
  | true => exact absurd hq (jNo_ok h (List.all_eq_true.mp hs q (List.contains_iff_mem.mp hb)))
theorem sgO {tys : List (ClassId × FieldType)} {ad : Nat → Nat} {w : va_W} {k f : Nat} {q : Nat × List en_V} (hw : ev_w tys tQ ad w) (hk : tQ[k]? = some (.inr q)) : sg w k f = gI w k f := by
  obtain ⟨e, g1, vs, rfl, -⟩ := hw.2 k _ hk
  unfold sg gI
  rw [g1]
  rfl
theorem sg_kO {tys : List (ClassId × FieldType)} {ad : Nat → Nat} {W1 : List (Nat × Nat)} {w w' : va_W} {k f : Nat} {q : Nat × List en_V} (hw : ev_w tys tQ ad w) (hk : tQ[k]? = some (.inr q)) (hf : ev_fr W1 w w') (hn : (k, f) ∉ W1) : sg w' k f = sg w k f := by
  obtain ⟨e, g1, vs, rfl, -⟩ := hw.2 k _ hk
  have hlt : k < w'.length := by
    have := (List.getElem?_eq_some_iff.mp g1).1
    have := hf.1
    omega
  have g2 : w'[k]? = some w'[k] := List.getElem?_eq_getElem hlt
  obtain ⟨e1, e2⟩ := hf.2 k _ w'[k] g1 g2
  cases hc : w'[k] with
  | mk a1 e =>
    rw [hc] at e2 g2
    cases e with
    | inl y => exact e2.elim
    | inr y =>
      obtain ⟨ci, ys⟩ := y
      obtain ⟨e3, e4, e5⟩ := e2
      have e6 := e5 f hn
      dsimp only at e6
      rw [sg_obj g2, sg_obj g1, e6]
theorem sg_kA {tys : List (ClassId × FieldType)} {ad : Nat → Nat} {W1 : List (Nat × Nat)} {w w' : va_W} {k : Nat} {q : Nat × Nat × Int × Int} (hw : ev_w tys tQ ad w) (hk : tQ[k]? = some (.inl q)) (hf : ev_fr W1 w w') (hn : (k, 999) ∉ W1) (x : Nat) : sg w' k x = sg w k x := by
  obtain ⟨e, g1, g3⟩ := hw.2 k _ hk
  have hlt : k < w'.length := by
    have := (List.getElem?_eq_some_iff.mp g1).1
    have := hf.1
    omega
  have g2 : w'[k]? = some w'[k] := List.getElem?_eq_getElem hlt
  obtain ⟨e1, e2⟩ := hf.2 k _ w'[k] g1 g2
  cases hc : w'[k] with
  | mk a1 e' =>
    rw [hc] at e2 g2
    cases e with
    | inr v =>
      unfold ev_c at g3
      dsimp only at g3
      split at g3 <;> obtain ⟨_, _, h, _⟩ := g3 <;> cases h
    | inl y =>
      cases e' with
      | inr v => exact e2.elim
      | inl z =>
        rcases e2 with e2 | e2
        · exact absurd e2 hn
        · subst e2
          rw [hc] at e1
          have e1 : ad k = a1 := e1
          unfold sg
          rw [g1, g2, e1]
def isArr (c : Option en_C) : Bool := match c with
  | some (.inl _) => true
  | _ => false
theorem isArr_ok {c : Option en_C} (h : isArr c = true) : ∃ q, c = some (.inl q) := by
  match c, h with
  | some (.inl q), _ => exact ⟨q, rfl⟩
theorem sg_off {tys : List (ClassId × FieldType)} {ad : Nat → Nat} {W1 : List (Nat × Nat)} {w w' : va_W} (hw : ev_w tys tQ ad w) (hf : ev_fr W1 w w') {k : Nat} (hk : ∀ q ∈ W1, q.1 ≠ k) (x : Nat) : sg w' k x = sg w k x := by
  cases ht : tQ[k]? with
  | none =>
    have h1 := List.getElem?_eq_none_iff.mp ht
    have e1 : w[k]? = none := List.getElem?_eq_none_iff.mpr (by rw [hw.1]; exact h1)
    have e2 : w'[k]? = none := List.getElem?_eq_none_iff.mpr (by rw [← hf.1, hw.1]; exact h1)
    unfold sg
    rw [e1, e2]
  | some t =>
    match t, ht with
    | .inl q, ht => exact sg_kA hw ht hf (fun h => hk _ h rfl) x
    | .inr q, ht => exact sg_kO hw ht hf (fun h => hk _ h rfl)
def wLo (W1 : List (Nat × Nat)) : Bool := W1.all (fun q => decide (q.1 < 84))
def wHi (W1 : List (Nat × Nat)) : Bool := W1.all (fun q => decide (84 ≤ q.1))
section FRS
variable {tys : List (ClassId × FieldType)} {ad : Nat → Nat} {W1 : List (Nat × Nat)} {w w' : va_W}
theorem sg_lo (hw : ev_w tys tQ ad w) (h : wLo W1 = true) (hf : ev_fr W1 w w') (k x : Nat) (hk : 84 ≤ k) : sg w' k x = sg w k x := sg_off hw hf (fun q hq => by have := of_decide_eq_true (List.all_eq_true.mp h q hq); omega) x
theorem sg_hi (hw : ev_w tys tQ ad w) (h : wHi W1 = true) (hf : ev_fr W1 w w') (k x : Nat) (hk : k < 84) : sg w' k x = sg w k x := sg_off hw hf (fun q hq => by have := of_decide_eq_true (List.all_eq_true.mp h q hq); omega) x
def jPm (c : Bool) (k : Nat) : Bool := isArr (tQ[k]?) && jS.contains (k, 999)
theorem jS_a : ∀ k : Nat, k < 96 → ((5 ≤ k ∧ k ≤ 13) ∨ 88 ≤ k) → (isArr (tQ[k]?) && jS.contains (k, 999)) = true := by decide +kernel
theorem PRG.jf (hw : ev_w tys tQ ad w) (h : jNo jS W1 = true) (hf : ev_fr W1 w w') (hp : PRG (sg w) (sg w)) : PRG (sg w') (sg w') := by
  have hA : ∀ k x, k < 96 → ((5 ≤ k ∧ k ≤ 13) ∨ 88 ≤ k) → sg w' k x = sg w k x := fun k x h0 h1 => by
    have hk := jS_a k h0 h1
    rw [Bool.and_eq_true] at hk
    obtain ⟨q, hq⟩ := isArr_ok hk.1
    exact sg_kA hw hq hf (jNo_ok h hk.2) x
  exact hp.mv (sg_kO (k := 4) (f := 11) hw rfl hf (jNo_ok h (by decide))) (sg_kO (k := 4) (f := 12) hw rfl hf (jNo_ok h (by decide))) (fun k x h1 h2 => hA k x (by omega) (Or.inl ⟨h1, h2⟩)) (sg_kO (k := 84) (f := 2) hw rfl hf (jNo_ok h (by decide))) (fun k x h1 h2 => hA k x (by omega) (Or.inr h1))
theorem TR.jf (hw : ev_w tys tQ ad w) (h : jNo jS W1 = true) (hf : ev_fr W1 w w') (hp : TR (sg w) (sg w)) : TR (sg w') (sg w') := by
  obtain ⟨a1, a2, a3⟩ := hp
  have e1 := sg_kO (k := 1) (f := 1) hw rfl hf (jNo_ok h (by decide))
  have e2 := sg_kO (k := 84) (f := 18) hw rfl hf (jNo_ok h (by decide))
  unfold TR
  rw [e1, e2]
  exact ⟨a1, a2, fun i hi => by rw [sg_kA (k := 2) hw rfl hf (jNo_ok h (by decide)) i, sg_kA (k := 96) hw rfl hf (jNo_ok h (by decide)) i]; exact a3 i hi⟩
end FRS
def jR (ws : va_W) : Prop := REL (sg ws) (sg ws)
theorem lj_dis {tys : List (ClassId × FieldType)} {ad : Nat → Nat} {W1 : List (Nat × Nat)} {w w' : va_W} (hw : ev_w tys tQ ad w) (h : W1.all (fun q => !jS.contains q) = true) (hf : ev_fr W1 w w') (hJ : jR w) : jR w' := ⟨TR.jf hw h hf hJ.1, PRG.jf hw h hf hJ.2⟩
def lj (tys : List (ClassId × FieldType)) (ad : Nat → Nat) (cmp : Bool) (ws : va_W) (κa κb : ek) : Prop := (∀ f ∈ ek_pre κa, ev_ff ws f) ∧ ∀ (x : Int32) (w1 : va_W), ev_w tys tQ ad w1 → iG w1 → ev_fr (ek_wr κa) ws w1 → lo ad κa x w1 → (∀ f ∈ ek_pre κb, ev_ff w1 f) ∧ ∀ (y : Int32) (w2 : va_W), ev_w tys tQ ad w2 → iG w2 → ev_fr (ek_wr κb) w1 w2 → lo ad κb y w2 → jR w2 ∧ (cmp = true → x = y)
def lj_fc (κa κb : ek) : Bool := (ek_pre κa).isEmpty && ((ek_pre κb).isEmpty && ((ek_wr κa).all (fun q => !jS.contains q) && (ek_wr κb).all (fun q => !jS.contains q)))
theorem lj_fr {tys : List (ClassId × FieldType)} {ad : Nat → Nat} {ws : va_W} {κa κb : ek} (hw : ev_w tys tQ ad ws) (hJ : jR ws) (h : lj_fc κa κb = true) : lj tys ad false ws κa κb := by
  simp only [lj_fc, Bool.and_eq_true, List.isEmpty_iff] at h
  obtain ⟨h1, h2, h3, h4⟩ := h
  refine ⟨fun f hf => by rw [h1] at hf; exact absurd hf List.not_mem_nil, fun x w1 hw1 _ f1 _ => ⟨fun f hf => by rw [h2] at hf; exact absurd hf List.not_mem_nil, fun y w2 _ _ f2 _ => ⟨lj_dis hw1 h4 f2 (lj_dis hw h3 f1 hJ), fun h => by cases h⟩⟩⟩
def lc_ok (l : Launch) (tys : List (ClassId × FieldType)) (ad : Nat → Nat) (ws : va_W) (κ : ek) (vs : List Value) (P : Int32 → va_W → Prop) : Prop := ∀ r, en_ms[κ.1]? = some r → r.2.2.2.isSome = true → ∀ (D : va_G) (aK aV b0 : Nat), Met l r.1 (Cond.code r.1 r.2.1 r.2.2.1 r.2.2.2 :: en_ws) (ek_rm κ) (ek_pc D tys aK aV b0 ws vs) (va_Qi (S := va_W) (fun x w => (ev_w tys tQ ad w ∧ iG w ∧ ev_fr (ek_wr κ) ws w ∧ lo ad κ x w) ∧ P x w) (fun w t => va_P D vwCl w t.heap ∧ va_D (fun q => b0 ≤ q) w) (fun q => b0 ≤ q)) 0 0 (fun q => b0 ≤ q)
theorem lc_of {l : Launch} {tys : List (ClassId × FieldType)} {ad : Nat → Nat} {ws : va_W} {κ : ek} {vs : List Value} (hκ : ek_ok l tQ iG κ) (hav : en_vs tQ.length ad κ.2.1 vs) (hw : ev_w tys tQ ad ws) (hI : iG ws) (hpre : ∀ f ∈ ek_pre κ, ev_ff ws f) : lc_ok l tys ad ws κ vs (fun _ _ => True) := by
  intro r hr hsm D aK aV b0
  have hA := hκ r hr D tys aK aV b0 ad ws vs hav hw hI hpre
  rw [hsm] at hA
  intro p e he hc hk s m args below hf happ hp hK
  obtain ⟨n, o, w1, w2, w3, w4, w5⟩ := hA p e he hc hk s m args below hf happ hp hK
  refine ⟨n, o, w1, w2, w3, ?_, w5⟩
  obtain ⟨⟨x, w, rfl, q, p5⟩, p6⟩ := w4
  exact ⟨⟨x, w, rfl, ⟨q, trivial⟩, p5⟩, p6⟩
def kx (κ : ek) (fr : Nat) : ek := (κ.1, κ.2.1, ek_pre κ, ek_wr κ, ek_out κ, ek_fr κ + fr, ek_lo κ + 100 * fr)
theorem lc_con {l : Launch} {tys : List (ClassId × FieldType)} {ad : Nat → Nat} {ws : va_W} {κ : ek} {vs : List Value} {fr : Nat} {as : List pV} {v : Int} {σ' : pS} (hκ : ek_ok l tQ iG κ) (hav : en_vs tQ.length ad κ.2.1 vs) (hw : ev_w tys tQ ad ws) (hI : iG ws) (hpre : ∀ f ∈ ek_pre κ, ev_ff ws f) (hC : Con l fr κ.1 as (sg ws) v σ') (h2 : en_vs tQ.length ad (as.map pe) vs) : lc_ok l tys ad ws (kx κ fr) vs (fun x w => sg w = σ' ∧ x.toInt = v) := by
  intro r hr hsm D aK aV b0
  have hA := ek_con (D := D) (aK := aK) (aV := aV) (b0 := b0) hκ hr hsm hav hw hI hpre hC h2
  intro p e he hc hk s m args below hf happ hp hK
  obtain ⟨n, o, w1, w2, w3, w4, w5⟩ := hA p e he hc hk s m args below hf happ hp hK
  refine ⟨n, o, w1, w2, w3, ?_, w5⟩
  obtain ⟨⟨x, w, rfl, ⟨a1, a2, a3, a4, a5⟩, p5⟩, p6⟩ := w4
  exact ⟨⟨x, w, rfl, ⟨⟨a1, a2, a3, a4⟩, a5⟩, p5⟩, p6⟩
section LE0
variable {p : Program} {l : Launch} {e : Env} {R : Room} {s : State} {m : MethodId} {args : Array Value} {below : List Frame} {meth : Method} {c : Code} {Q : State → Prop} {cc : ByteArray} {D : va_G} {tys : List (ClassId × FieldType)} {aK aV b0 nL o : Nat} {pc : Nat} {T : en_T} {I : va_W → Prop} {cs sl : Nat} {κ : ek} {H : Heap} {locs : List Loc} {ls : Array Slot} {rest : List Value} {ad : Nat → Nat} {ws : va_W}
theorem le_call (C : ev_cx p s m args meth c cc nL o D tys aK aV b0) {i mi n j ci : Nat} {r : MethodName × ByteArray × Nat × Option FieldType} {fs : List en_V} {rc : vw_C} {As : List Value} {P1 : Int32 → va_W → Prop} (hf : en_find o i en_cl = some (0, mi, n)) (hr : en_ms[mi]? = some r) (hκ : lc_ok l tys ad ws κ (.ref (ad j) :: As) P1) (hm : κ.1 = mi) (hsm : r.2.2.2.isSome = true) (hn : As.length = n)
    (hj : tQ[j]? = some (.inr (ci, fs))) (hrc : vwCl[ci]? = some rc) (hmo : en_mo[mi]? = some ci) (hfr : ek_fr κ + 1 ≤ R.frames) (hlo : 8 + (r.2.2.1 + 11) + ek_lo κ ≤ R.locals) (hc1 : cs ≤ R.cells) (hc2 : sl ≤ R.slots) (h8 : (rest.map fun v => v.category).sum ≤ 8) (hls : ls.size = nL) (hd : decode cc pc = .ok (.invokevirtual i, 3)) (hw : ev_w tys tQ ad ws) (hP : va_P D vwCl ws H) (hD : va_D (fun q => b0 ≤ q) ws) (hS : va_S (fun q => b0 ≤ q) s.heap H locs)
    (k : ∀ (x : Int32) (ws1 : va_W) (H1 : Heap) (locs1 : List Loc), lo ad κ x ws1 → P1 x ws1 → ev_fr (ek_wr κ) ws ws1 → ev_w tys tQ ad ws1 → iG ws1 → va_P D vwCl ws1 H1 → va_D (fun q => b0 ≤ q) ws1 → va_S (fun q => b0 ≤ q) s.heap H1 locs1 → W p l e R s m args below meth c H1 locs1 cs sl Q (F0 m (pc + 3) ls (.int x :: rest))) : W p l e R s m args below meth c H locs cs sl Q (F0 m pc ls (As.reverse ++ .ref (ad j) :: rest)) := by
  subst hm
  obtain ⟨e0, g1, vs, rfl, g2⟩ := hw.2 j _ hj
  have hM := hκ r hr hsm D aK aV b0
  have hDd := (en_clD hf hr).1
  have hww := en_clW hf hr
  have hts := C.2.2.2.2.1
  have hB := callB_of (own := en_nm o) (index := i) (R := R) (rm := ek_rm κ) (mc := 0) (ms := 0) n hts (en_codeG hr) rfl rfl rfl (hts _ (en_ws_in (hww (.initialized r.1.cls) (by simp)) rfl)) (hts _ (en_ws_in (hww (.methodLink (en_nm o) i r.1) (by simp)) rfl)) hDd ⟨hfr, hlo⟩
  have hrecv := va_recv C.2.2.2.2.2.1 hP hrc g1
  rw [(en_nm_cl hrc).trans (en_mo_ok hr hmo)] at hrecv
  have hrun := va_runV (H := H) (locs := locs) (cells := cs) (slots := sl) (g := F0 m pc ls (As.reverse ++ .ref (ad j) :: rest)) (e := e) (below := below) (meth := meth) (C := r.1.cls) (As := As) (rest := rest) ⟨C.1, C.2.1, C.2.2.1, C.2.2.2.1, hts⟩ hM ⟨hB, hts _ (en_ws_in (hww (.instanceMethod r.1) (by simp)) rfl), hts _ (en_ws_in (hww (.selects r.1.cls r.1 r.1) (by simp)) rfl)⟩ ⟨ek_pc_blind, hrecv, ek_pre_at C hP hD hS⟩ rfl hn hls rfl (lv_room h8) hd ⟨hc1, hc2⟩
  refine va_calli (a := (Value.ref (ad j) :: As).toArray) hrun hS (fun q _ h => h) (fun q h => h) (fun x w t H1 locs1 ht _ hpost hB _ _ hS1 => ?_)
  obtain ⟨⟨p1, p2, p3, p4⟩, p5⟩ := hpost
  subst ht
  exact k x w t.heap locs1 p4 p5 p3 p1 p2 hB.1 hB.2 hS1
end LE0
/-- what a contract must be for one call of the law -/
def le_ck (j i n : Nat) (κ : ek) (box : List en_V) : Bool := match en_find 13 i en_cl with
  | some (ka, ma, na) => match en_ms[ma]? with
    | some ra => match tQ[j]? with
      | some (.inr qa) => match vwCl[qa.1]? with
        | some _ => ka == 0 && (na == n && (κ.1 == ma && (ra.2.2.2.isSome && (en_all2 en_le (.inr (j + 2) :: box) κ.2.1 && ((en_mo[ma]? == some qa.1) && ( (decide (ek_fr κ + 1 ≤ 2048) && (decide (8 + (ra.2.2.1 + 11) + ek_lo κ ≤ 84000) && (box.length == n && (decide (j < tQ.length) && box.all en_isI))))))))))
        | none => false
      | _ => false
    | none => false
  | none => false
theorem le_vs {j i n : Nat} {κ : ek} {box : List en_V} {As : List Value} {ad : Nat → Nat} (hck : le_ck j i n κ box = true) (hbox : en_vs tQ.length ad box As) : en_vs tQ.length ad κ.2.1 (.ref (ad j) :: As) := by
  unfold le_ck at hck
  split at hck
  case h_2 => cases hck
  split at hck
  case h_2 => cases hck
  split at hck
  case h_2 => cases hck
  split at hck
  case h_2 => cases hck
  simp only [Bool.and_eq_true, beq_iff_eq, decide_eq_true_eq, List.isEmpty_iff] at hck
  obtain ⟨h1, h2, h3, h4, h5, h7, h9, h10, h11, h12, h13⟩ := hck
  exact en_all2_vs h5 ⟨⟨rfl, h12⟩, hbox⟩
def lq (l : Launch) (tys : List (ClassId × FieldType)) (ad : Nat → Nat) (cmp : Bool) (ws : va_W) (κa κb : ek) (As : List Value) : Prop := ∃ P1 : Int32 → va_W → Prop, lc_ok l tys ad ws κa (.ref (ad 0) :: As) P1 ∧ ∀ (x : Int32) (w1 : va_W), ev_w tys tQ ad w1 → iG w1 → ev_fr (ek_wr κa) ws w1 → lo ad κa x w1 → P1 x w1 → ∃ P2 : Int32 → va_W → Prop, lc_ok l tys ad w1 κb (.ref (ad 84) :: As) P2 ∧ ∀ (y : Int32) (w2 : va_W), ev_w tys tQ ad w2 → iG w2 → ev_fr (ek_wr κb) w1 w2 → lo ad κb y w2 → P2 y w2 → jR w2 ∧ (cmp = true → x = y)
theorem lq_of {l : Launch} {tys : List (ClassId × FieldType)} {ad : Nat → Nat} {cmp : Bool} {ws : va_W} {κa κb : ek} {As : List Value} {box : List en_V} {i1 i2 n : Nat} (h1 : le_ck 0 i1 n κa box = true) (h2 : le_ck 84 i2 n κb box = true) (h3 : ek_ok l tQ iG κa) (h4 : ek_ok l tQ iG κb) (h5 : en_vs tQ.length ad box As) (hw : ev_w tys tQ ad ws) (hI : iG ws) (h6 : lj tys ad cmp ws κa κb) : lq l tys ad cmp ws κa κb As := by
  refine ⟨fun _ _ => True, lc_of h3 (le_vs h1 h5) hw hI h6.1, fun x w1 hw1 hI1 hf1 hx _ => ?_⟩
  obtain ⟨q1, q2⟩ := h6.2 x w1 hw1 hI1 hf1 hx
  exact ⟨fun _ _ => True, lc_of h4 (le_vs h2 h5) hw1 hI1 q1, fun y w2 hw2 hI2 hf2 hy _ => q2 y w2 hw2 hI2 hf2 hy⟩
theorem tq0 : 0 < tQ.length := by decide +kernel
theorem tq84 : 84 < tQ.length := by decide +kernel
section LQX
variable {l : Launch} {tys : List (ClassId × FieldType)} {ad : Nat → Nat} {cmp : Bool} {ws : va_W} {κa κb : ek} {As : List Value} {box : List en_V} {i1 i2 n f1 f2 : Nat} {as bs : List pV} {F G : pS → Option (Int × pS)}
def jx_ck (κa κb : ek) : Bool := (ek_pre κa).isEmpty && ((ek_pre κb).isEmpty && (wLo (ek_wr κa) && wHi (ek_wr κb)))
/-- a call that keeps the relation -/
theorem lq_ls (hls : ∀ σ τ : pS, REL σ τ → ∃ v w σ' τ', F σ = some (v, σ') ∧ G τ = some (w, τ') ∧ REL σ' τ' ∧ (cmp = true → v = w)) (hF : ∀ {σ : pS} {v : Int} {σ' : pS}, F σ = some (v, σ') → Con l f1 κa.1 as σ v σ') (hG : ∀ {σ : pS} {v : Int} {σ' : pS}, G σ = some (v, σ') → Con l f2 κb.1 bs σ v σ') (h1 : le_ck 0 i1 n κa box = true) (h2 : le_ck 84 i2 n κb box = true) (h3 : ek_ok l tQ iG κa) (h4 : ek_ok l tQ iG κb) (h5 : en_vs tQ.length ad box As) (ha : en_vs tQ.length ad (as.map pe) (.ref (ad 0) :: As)) (hb : en_vs tQ.length ad (bs.map pe) (.ref (ad 84) :: As)) (hw : ev_w tys tQ ad ws) (hI : iG ws) (hJ : jR ws) (hck : jx_ck κa κb = true) : lq l tys ad cmp ws (kx κa f1) (kx κb f2) As := by
  simp only [jx_ck, Bool.and_eq_true, List.isEmpty_iff] at hck
  obtain ⟨c1, c2, c3, c4⟩ := hck
  obtain ⟨v, w0, σ', τ0, e1, -, -, -⟩ := hls _ _ hJ
  refine ⟨fun x w => sg w = σ' ∧ x.toInt = v, lc_con h3 (le_vs h1 h5) hw hI (fun f hf => by rw [c1] at hf; exact absurd hf List.not_mem_nil) (hF e1) ha, fun x w1 hw1 hI1 hf1 hx hp => ?_⟩
  have hf1 : ev_fr (ek_wr κa) ws w1 := hf1
  obtain ⟨v2, w2, σ2, τ', e2, e3, e4, e5⟩ := hls (sg ws) (sg w1) (hJ.x (fun _ _ _ => rfl) (sg_lo hw c3 hf1))
  have e := Option.some.inj (e2.symm.trans e1)
  have ev : v2 = v := congrArg Prod.fst e
  have es : σ2 = σ' := congrArg Prod.snd e
  subst ev
  subst es
  refine ⟨fun y w => sg w = τ' ∧ y.toInt = w2, lc_con h4 (le_vs h2 h5) hw1 hI1 (fun f hf => by rw [c2] at hf; exact absurd hf List.not_mem_nil) (hG e3) hb, fun y w3 hw3 hI3 hf3 hy hq => ⟨?_, fun hc => ?_⟩⟩
  · have hf3 : ev_fr (ek_wr κb) w1 w3 := hf3
    rw [← hp.1, ← hq.1] at e4
    exact e4.x (sg_hi hw1 c4 hf3) (fun _ _ _ => rfl)
  · rw [fa_eq, hp.2, hq.2]
    exact e5 hc
end LQX
def le_go (p : Program) (l : Launch) (e : Env) (s : State) (m : MethodId) (args : Array Value) (below : List Frame) (meth : Method) (c : Code) (Q : State → Prop) (D : va_G) (tys : List (ClassId × FieldType)) (b0 : Nat) (ad : Nat → Nat) (ls : Array Slot) (cs sl pc : Nat) : Prop :=
  ∀ (ws : va_W) (H : Heap) (locs : List Loc), ev_w tys tQ ad ws → iG ws → jR ws → va_P D vwCl ws H → va_D (fun q => b0 ≤ q) ws → va_S (fun q => b0 ≤ q) s.heap H locs → W p l e room_1 s m args below meth c H locs cs sl Q (F0 m pc ls [])
section LE1
variable {p : Program} {l : Launch} {e : Env} {s : State} {m : MethodId} {args : Array Value} {below : List Frame} {meth : Method} {c : Code} {Q : State → Prop} {D : va_G} {tys : List (ClassId × FieldType)} {aK aV b0 cs sl b L i : Nat} {xs : Nat → Int32} {ls : Array Slot} {ad : Nat → Nat} {H : Heap} {locs : List Loc} {ws : va_W}
theorem le_one (C : ev_cx p s m args meth c code 4 13 D tys aK aV b0) {j ia n pa : Nat} {κ : ek} {box : List en_V} {As rest : List Value} (hck : le_ck j ia n κ box = true) {P1 : Int32 → va_W → Prop} (hκ : lc_ok l tys ad ws κ (.ref (ad j) :: As) P1) (hbox : en_vs tQ.length ad box As) (hls : ls.size = 4) (hcs : cs ≤ 600000) (hsl : sl ≤ 7302250) (h8 : (rest.map fun v => v.category).sum ≤ 8) (da : decode code pa = .ok (.invokevirtual ia, 3)) (hw : ev_w tys tQ ad ws) (hP : va_P D vwCl ws H) (hD : va_D (fun q => b0 ≤ q) ws) (hS : va_S (fun q => b0 ≤ q) s.heap H locs)
    (k : ∀ (x : Int32) (ws1 : va_W) (H1 : Heap) (locs1 : List Loc), lo ad κ x ws1 → P1 x ws1 → ev_fr (ek_wr κ) ws ws1 → ev_w tys tQ ad ws1 → iG ws1 → va_P D vwCl ws1 H1 → va_D (fun q => b0 ≤ q) ws1 → va_S (fun q => b0 ≤ q) s.heap H1 locs1 → W p l e room_1 s m args below meth c H1 locs1 cs sl Q (F0 m (pa + 3) ls (.int x :: rest))) : W p l e room_1 s m args below meth c H locs cs sl Q (F0 m pa ls (As.reverse ++ .ref (ad j) :: rest)) := by
  unfold le_ck at hck
  split at hck
  case h_2 => cases hck
  rename_i ka ma na hfa
  split at hck
  case h_2 => cases hck
  rename_i ra hra
  split at hck
  case h_2 => cases hck
  rename_i qa hqa
  split at hck
  case h_2 => cases hck
  rename_i ca hca
  simp only [Bool.and_eq_true, beq_iff_eq, decide_eq_true_eq, List.isEmpty_iff] at hck
  obtain ⟨h1, h2, h3, h4, h5, h7, h9, h10, h11, h12, h13⟩ := hck
  subst h1
  subst h2
  exact le_call (R := room_1) C hfa hra hκ h3 h4 ((en_vs_len hbox).symm.trans h11) hqa hca h7 h9 h10 hcs hsl h8 hls da hw hP hD hS k
theorem le_nI {i k : Nat} (h : i + k < 2 ^ 31) : nI i + nI k = nI (i + k) := by
  rw [fa_eq, fb_addI (by rw [nI_toInt (by omega), nI_toInt (by omega)]; omega) (by rw [nI_toInt (by omega), nI_toInt (by omega)]; omega), nI_toInt (by omega), nI_toInt (by omega), nI_toInt (by omega)]
  omega
theorem le_arg (hx : p.tables.exec = Jvm.exec) (hb : c.code = code) (hX : va_X b L xs s s.heap) (hbl : b < s.heap.size) (hbA : ¬ b0 ≤ b) {rest : List Value} {pc k : Nat} {kI : Int} (hl0 : ls[0]? = some (.val (.ref b))) (hl3 : ls[3]? = some (.val (.int (nI i)))) (hk : Int32.ofInt kI = nI k) (hkL : i + k < L) (hL : L < 2 ^ 31) (hS : va_S (fun q => b0 ≤ q) s.heap H locs)
    (d0 : decode code pc = .ok (.aload_n 0, 1)) (d1 : decode code (pc + 1) = .ok (.iload_n 3, 1)) (d2 : decode code (pc + 2) = .ok (.iconst kI, 1)) (d3 : decode code (pc + 3) = .ok (.iadd, 1)) (d4 : decode code (pc + 4) = .ok (.iaload, 1))
    (kk : W p l e room_1 s m args below meth c H locs cs sl Q (F0 m (pc + 5) ls (.int (xs (i + k)) :: rest))) : W p l e room_1 s m args below meth c H locs cs sl Q (F0 m pc ls rest) := by
  refine lv_aload_n hx hb d0 rfl hl0 ?_
  refine lv_iload_n hx hb d1 rfl hl3 ?_
  refine lv_iconst hx hb d2 hk ?_
  refine lv_iadd hx hb d3 ?_
  rw [le_nI (by omega)]
  refine va_sld hx hb hX hbl hbA hS (vp_in_nI hkL hL) d4 ?_
  rw [nI_clamp (by omega)]
  exact kk
theorem le_iv {N : Nat} {lo hi : Int} {x : Int32} (h1 : lo ≤ x.toInt) (h2 : x.toInt ≤ hi) : en_v N ad (.inl (lo, hi)) (.int x) := ⟨x, rfl, h1, h2⟩
end LE1
