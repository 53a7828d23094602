theorem en_clamp {i : Int32} {n : Nat} (h0 : 0 ≤ i.toInt) (h : i.toInt < n) : i.toNatClampNeg < n := by
  show i.toInt.toNat < n
  omega
theorem en_vp_nar {ty : FieldType} {x : Int32} (h : narrow ty (.int x) = .int x) : vp_nar ty x = x := by
  unfold vp_nar
  rw [h]
theorem en_nar_z {x : Int32} (h1 : 0 ≤ x.toInt) (h2 : x.toInt ≤ 1) : narrow .boolean (.int x) = .int x := by
  rcases (show x.toInt = 0 ∨ x.toInt = 1 by omega) with q | q
  · rw [show x = 0 from (fa_eq _ _).mpr q]; rfl
  · rw [show x = 1 from (fa_eq _ _).mpr q]; rfl
theorem en_nar_b {x : Int32} (h1 : -128 ≤ x.toInt) (h2 : x.toInt ≤ 127) : vp_nar .byte x = x := by
  rw [vp_nar_byte, fa_eq]
  have e : (x.toInt8.toInt32).toInt = x.toInt8.toInt := by simp
  rw [e]
  have e2 : x.toInt8.toInt = x.toInt.bmod (2 ^ 8) := by simp
  rw [e2]
  exact Int.bmod_eq_of_le (by omega) (by omega)
theorem en_fl_w {o i ci f : Nat} {r : vw_C} (h : en_find o i en_fl = some (ci, f)) (hr : vwCl[ci]? = some r) : Cond.fieldLink (en_nm o) i (r.2.1 f).1 (r.2.1 f).2.1 (r.2.1 f).2.2.1 ∈ en_ws := by
  have h1 := en_fl_in _ (List.mem_map.mpr ⟨(o, i, ci, f), en_find_mem h, rfl⟩)
  have h2 : en_fw (o, i, ci, f) = Cond.fieldLink (en_nm o) i (r.2.1 f).1 (r.2.1 f).2.1 (r.2.1 f).2.2.1 := by
    show (match vwCl[ci]? with
      | some r => _
      | none => _) = _
    rw [hr]
  rw [h2] at h1
  exact en_ws_in h1 rfl
theorem en_lay_good (C : String) (F : u_T) (k : Nat) : goodWord (u_lay C F k) = true := by
  unfold u_lay
  split <;> rfl
theorem en_cls_ws {ci : Nat} {r : vw_C} (h : vwCl[ci]? = some r) : ∀ w ∈ u_ws r.1 r.2.1 r.2.2, w ∈ en_ws := fun w hw => en_ws_in ((en_cls ci r h).1 w hw) (by
  obtain ⟨k, -, rfl⟩ := List.mem_map.mp hw
  exact en_lay_good _ _ _)
def ev_hs (W1 : List (Nat × Nat)) (a : ev_s) : ev_s := match ev_hit W1 (a.2.1, a.2.2.1, a.2.2.2.1) with
  | true => (a.1, ev_nt)
  | false => a
def ev_hf (W1 : List (Nat × Nat)) (FS : List ev_f) : List ev_f := FS.filter (fun f => !ev_hit W1 f.1)
theorem ev_hs_ok {N : Nat} {ad : Nat → Nat} {ls : Array Slot} {w w' : va_W} {W1 : List (Nat × Nat)} (hw : ev_fr W1 w w') : ∀ {as : List ev_s} {xs : List Value}, ev_stk N ad ls w as xs → ev_stk N ad ls w' (as.map (ev_hs W1)) xs
  | [], [], _ => trivial
  | a :: as, x :: xs, h => by
    refine ⟨?_, ev_hs_ok hw h.2⟩
    unfold ev_hs
    split
    · exact ⟨h.1.1, ev_tag0⟩
    · rename_i hq
      refine ⟨h.1.1, ?_⟩
      rcases h.1.2 with h0 | ⟨u, y, e1, e2, e3⟩
      · exact Or.inl h0
      · exact Or.inr ⟨u, y, e1, ev_loc_fr hw hq e2, e3⟩
  | [], _ :: _, h => h.elim
  | _ :: _, [], h => h.elim
theorem ev_hf_ok {γ : Nat → Int} {ls : Array Slot} {w w' : va_W} {W1 : List (Nat × Nat)} (hw : ev_fr W1 w w') {FS : List ev_f} (h : ∀ f ∈ FS, ev_fact γ ls w f) : ∀ f ∈ ev_hf W1 FS, ev_fact γ ls w' f := by
  intro f hf
  obtain ⟨h1, h2⟩ := List.mem_filter.mp hf
  obtain ⟨x, h3, h4⟩ := h f h1
  exact ⟨x, ev_loc_fr hw (by simpa using h2) h3, h4⟩
def ev_fq (FS : List ev_f) (q : Nat × Nat × Nat) (b : Int × Int) : Int × Int := match ev_lk FS q with
  | some u => ev_meet b u.1
  | none => b
theorem ev_fq_ok {γ : Nat → Int} {ls : Array Slot} {ws : va_W} {FS : List ev_f} {q : Nat × Nat × Nat} {b : Int × Int} {x : Int32} (hf : ∀ f ∈ FS, ev_fact γ ls ws f) (hx : ev_loc ls ws q x) (hb : en_in b x) : en_in (ev_fq FS q b) x := by
  unfold ev_fq
  split
  · rename_i u hu
    obtain ⟨y, g1, g2, -⟩ := ev_lk_ok hf hu
    have e := ev_loc_one g1 hx
    subst e
    exact ev_meet_in hb g2
  · exact hb
theorem ev_vs_fe {N : Nat} {ad : Nat → Nat} : ∀ {as : List en_V} {xs : List Value} {f : Nat} {a : en_V} {x : Value}, en_vs N ad as xs → as[f]? = some a → en_v N ad a x → en_vs N ad as (xs.set f x)
  | [], [], _, _, _, _, hf, _ => by simp at hf
  | a0 :: as, x0 :: xs, 0, a, x, h, hf, hx => by
    rw [List.getElem?_cons_zero] at hf
    cases hf
    exact ⟨hx, h.2⟩
  | a0 :: as, x0 :: xs, f + 1, a, x, h, hf, hx => by
    rw [List.getElem?_cons_succ] at hf
    exact ⟨h.1, ev_vs_fe h.2 hf hx⟩
  | [], _ :: _, _, _, _, h, _, _ => h.elim
  | _ :: _, [], _, _, _, h, _, _ => h.elim
/-- one cell is written as its type allows -/
theorem ev_w_set {tys : List (ClassId × FieldType)} {T : en_T} {ad : Nat → Nat} {ws : va_W} {j : Nat} {t : en_C} {e : va_E} (h : ev_w tys T ad ws) (hj : T[j]? = some t) (he : ev_c tys T.length ad t e) : ev_w tys T ad (ws.set j (ad j, e)) := by
  obtain ⟨h1, h2⟩ := h
  refine ⟨by rw [List.length_set]; exact h1, fun k u hk => ?_⟩
  by_cases hkj : k = j
  · subst hkj
    rw [hj] at hk
    cases hk
    have hlt := (List.getElem?_eq_some_iff.mp hj).1
    exact ⟨e, List.getElem?_set_self (by omega), he⟩
  · rw [List.getElem?_set_ne (Ne.symm hkj)]
    exact h2 k u hk
theorem ev_fr_set {W1 : List (Nat × Nat)} {ws : va_W} {j a : Nat} {e0 e : va_E} (h0 : ws[j]? = some (a, e0)) (he : ev_fe W1 j e0 e) : ev_fr W1 ws (ws.set j (a, e)) := by
  refine ⟨List.length_set.symm, fun k q0 q hq0 hq => ?_⟩
  by_cases hkj : k = j
  · subst hkj
    rw [List.getElem?_set_self (List.getElem?_eq_some_iff.mp h0).1] at hq
    cases hq
    rw [h0] at hq0
    cases hq0
    exact ⟨rfl, he⟩
  · rw [List.getElem?_set_ne (Ne.symm hkj), hq0] at hq
    cases hq
    exact ⟨rfl, ev_fe.rf _ _ _⟩
def ev_hI (I : va_W → Prop) (sp : List (Nat × Nat)) : Prop := ∀ (W1 : List (Nat × Nat)) (w w' : va_W), (∀ q ∈ W1, q ∉ sp) → ev_fr W1 w w' → I w → I w'
section EVH
variable {p : Program} {l : Launch} {e : Env} {R : Room} {s : State} {m : MethodId} {args : Array Value} {below : List Frame} {meth : Method} {c : Code} {Q : State → Prop} {cc : ByteArray} {D : va_G} {tys : List (ClassId × FieldType)} {T : en_T} {I : va_W → Prop} {sp : List (Nat × Nat)} {aK aV b0 nL o : Nat} {ad : Nat → Nat} {w0 : va_W} {Wr : List (Nat × Nat)} {γ : Nat → Int}
variable {pc : Nat} {L : List ev_l} {S : List ev_s} {FS : List ev_f} {RS : List ev_r}
theorem fs_geti (C : ev_cx p s m args meth c cc nL o D tys aK aV b0) {i ci f j : Nat} {fs : List en_V} {b : Int × Int} {r : vw_C} (hf : en_find o i en_fl = some (ci, f)) (hr0 : vwCl[ci]? = some r) (hfN : f < r.2.2) (ht : T[j]? = some (.inr (ci, fs))) (ha : fs[f]? = some (.inl b)) {t : ev_t} (hd : decode cc pc = .ok (.getfield i, 3)) (k : ev_go p l e R s m args below meth c Q D tys T I b0 nL ad w0 Wr γ (pc + 3, L, (.inl (ev_fq FS (2, j, f) b), (2, j, f, 0)) :: S, FS, RS)) : ev_go p l e R s m args below meth c Q D tys T I b0 nL ad w0 Wr γ (pc, L, (.inr (j + 2), t) :: S, FS, RS) := by
  intro H locs ls stk ws h
  dsimp only at h
  obtain ⟨h0, hl, hs, hF, hR, hw, hI, hP, hD, hS, hfr⟩ := h
  obtain ⟨x, ys, rfl, hx, -, hs1⟩ := ev_stk_cons hs
  obtain ⟨rfl, hj⟩ : x = .ref (ad j) ∧ j < T.length := hx
  obtain ⟨e0, g1, vs, rfl, g2⟩ := hw.2 j _ ht
  obtain ⟨v, g3, z, rfl, g4⟩ := en_vs_get g2 ha
  have hloc : ev_loc ls ws (2, j, f) z := ⟨_, _, _, g1, g3⟩
  refine va_get (C := r.1) (T := r.2.1) (N := r.2.2) C.1 C.2.1 C.2.2.2.2.1 (en_cls_ws hr0) C.2.2.2.1 C.2.2.2.2.2.1 hP j g1 hr0 f hfN (C.2.2.2.2.1 _ (en_fl_w hf hr0)) (fun x h => h) g3 hd ?_
  exact k H locs ls (.int z :: ys) ws ⟨h0, hl, ⟨⟨⟨z, rfl, ev_fq_ok hF hloc g4⟩, Or.inr ⟨z, z, rfl, hloc, by dsimp only; omega⟩⟩, hs1⟩, hF, hR, hw, hI, hP, hD, hS, hfr⟩
theorem fs_getr (C : ev_cx p s m args meth c cc nL o D tys aK aV b0) {i ci f j n : Nat} {fs : List en_V} {r : vw_C} (hf : en_find o i en_fl = some (ci, f)) (hr0 : vwCl[ci]? = some r) (hfN : f < r.2.2) (ht : T[j]? = some (.inr (ci, fs))) (ha : fs[f]? = some (.inr n)) {t : ev_t} (hd : decode cc pc = .ok (.getfield i, 3)) (k : ev_go p l e R s m args below meth c Q D tys T I b0 nL ad w0 Wr γ (pc + 3, L, (.inr n, ev_nt) :: S, FS, RS)) : ev_go p l e R s m args below meth c Q D tys T I b0 nL ad w0 Wr γ (pc, L, (.inr (j + 2), t) :: S, FS, RS) := by
  intro H locs ls stk ws h
  dsimp only at h
  obtain ⟨h0, hl, hs, hF, hR, hw, hI, hP, hD, hS, hfr⟩ := h
  obtain ⟨x, ys, rfl, hx, -, hs1⟩ := ev_stk_cons hs
  obtain ⟨rfl, hj⟩ : x = .ref (ad j) ∧ j < T.length := hx
  obtain ⟨e0, g1, vs, rfl, g2⟩ := hw.2 j _ ht
  obtain ⟨v, g3, g4⟩ := en_vs_get g2 ha
  refine va_get (C := r.1) (T := r.2.1) (N := r.2.2) C.1 C.2.1 C.2.2.2.2.1 (en_cls_ws hr0) C.2.2.2.1 C.2.2.2.2.2.1 hP j g1 hr0 f hfN (C.2.2.2.2.1 _ (en_fl_w hf hr0)) (fun x h => h) g3 hd ?_
  exact k H locs ls (v :: ys) ws ⟨h0, hl, ⟨⟨g4, ev_tag0⟩, hs1⟩, hF, hR, hw, hI, hP, hD, hS, hfr⟩
/-- what is known of a field behind a write -/
def ev_pg (FS : List ev_f) (j f : Nat) (t : ev_t) : Option (Nat × Int) := match t.1 == 2 && (t.2.1 == j && t.2.2.1 == f) with
  | true => match ev_lk FS (2, j, f) with
    | some u => ev_gs u.2 t.2.2.2
    | none => none
  | false => none
theorem fs_puti (C : ev_cx p s m args meth c cc nL o D tys aK aV b0) (hI0 : ev_hI I sp) {i ci f j : Nat} {fs : List en_V} {b v : Int × Int} {r : vw_C} (hf : en_find o i en_fl = some (ci, f)) (hr0 : vwCl[ci]? = some r) (hfN : f < r.2.2) (ht : T[j]? = some (.inr (ci, fs))) (ha : fs[f]? = some (.inl b)) (hle : en_le (.inl v) (.inl b) = true) (hput : en_put (en_tyX ci f) (.inl v) = true) (hfin : (r.2.1 f).2.2.2 = false) (hwr : (j, f) ∈ Wr) (hsp : (j, f) ∉ sp) {t tv : ev_t} (hd : decode cc pc = .ok (.putfield i, 3))
    (k : ev_go p l e R s m args below meth c Q D tys T I b0 nL ad w0 Wr γ (pc + 3, L, S.map (ev_hs [(j, f)]), ((2, j, f), v, ev_pg FS j f tv) :: ev_hf [(j, f)] FS, RS)) : ev_go p l e R s m args below meth c Q D tys T I b0 nL ad w0 Wr γ (pc, L, (.inl v, tv) :: (.inr (j + 2), t) :: S, FS, RS) := by
  intro H locs ls stk ws h
  dsimp only at h
  obtain ⟨h0, hl, hs, hF, hR, hw, hI, hP, hD, hS, hfr⟩ := h
  obtain ⟨v0, us, rfl, hv, htv, hs0⟩ := ev_stk_cons hs
  obtain ⟨x, ys, rfl, hx, -, hs1⟩ := ev_stk_cons hs0
  obtain ⟨rfl, hj⟩ : x = .ref (ad j) ∧ j < T.length := hx
  obtain ⟨e0, g1, vs, rfl, g2⟩ := hw.2 j _ ht
  obtain ⟨old, g3, zo, rfl, g4⟩ := en_vs_get g2 ha
  obtain ⟨q1, q2⟩ := en_put_ok hput hv
  have hc := en_cls ci r hr0
  have hlen : f < vs.length := (List.getElem?_eq_some_iff.mp g3).1
  have hvb := en_le_ok hle hv
  obtain ⟨z, rfl, hz⟩ := hv
  refine va_put (C := r.1) (T := r.2.1) (N := r.2.2) C.1 C.2.1 C.2.2.2.2.1 (en_cls_ws hr0) (en_tyX ci) hc.2.1 hc.2.2 C.2.2.2.1 C.2.2.2.2.2.1 hP hD hS j g1 hr0 f hfN (C.2.2.2.2.1 _ (en_fl_w hf hr0)) (fun x h => h) hfin (hc.2.1 f hfN) q1 q2 hlen hd (fun H1 locs1 hP1 hD1 hS1 => ?_)
  have hfe : ev_fe [(j, f)] j (.inr (ci, vs)) (.inr (ci, vs.set f (.int z))) := ⟨rfl, by dsimp only; rw [List.length_set], fun f' hf' => by
    have hne : f' ≠ f := fun e => hf' (by rw [e]; exact List.mem_cons_self)
    dsimp only
    rw [List.getElem?_set_ne (Ne.symm hne)]⟩
  have hf1 := ev_fr_set g1 hfe
  refine k H1 locs1 ls ys _ ⟨h0, hl, ev_hs_ok hf1 hs1, fun g hg => ?_, hR, ev_w_set hw ht ⟨_, rfl, ev_vs_fe g2 ha hvb⟩, hI0 [(j, f)] _ _ (fun q hq => by rw [List.mem_singleton.mp hq]; exact hsp) hf1 hI, hP1, hD1, hS1, hfr.tr hf1 (fun q hq => by rw [List.mem_singleton.mp hq]; exact hwr)⟩
  rcases List.mem_cons.mp hg with rfl | hg
  · refine ⟨z, ⟨_, _, _, List.getElem?_set_self (List.getElem?_eq_some_iff.mp g1).1, List.getElem?_set_self hlen⟩, hz, ?_⟩
    dsimp only
    unfold ev_pg
    split
    · rename_i hb
      simp only [Bool.and_eq_true, beq_iff_eq] at hb
      split
      · rename_i u hu
        rcases htv with h9 | ⟨i1, y1, e1, e2, e3⟩
        · dsimp only at h9
          rw [hb.1] at h9
          cases h9
        · cases e1
          dsimp only at e2 e3
          rw [hb.1, hb.2.1, hb.2.2] at e2
          obtain ⟨y2, d1, d2, d3⟩ := ev_lk_ok hF hu
          have e := ev_loc_one d1 e2
          subst e
          exact ev_gs_ok d3 e3
      · trivial
    · trivial
  · exact ev_hf_ok hf1 hF g hg
def ev_ix (t : ev_t) : Option Nat := match t.1 == 1 && decide (t.2.2.2 = 0) with
  | true => some t.2.1
  | false => none
def ev_rq (FS : List ev_f) (j : Nat) (t : ev_t) (b : Int × Int) : ev_s := match ev_ix t with
  | some i => (.inl (ev_fq FS (3, j, i) b), (3, j, i, 0))
  | none => (.inl b, ev_nt)
theorem ev_ix_ok {ls : Array Slot} {ws : va_W} {t : ev_t} {i : Nat} {y : Int32} (h : ev_ix t = some i) (ht : ev_tag ls ws t (.int y)) : ls[i]? = some (.val (.int y)) := by
  unfold ev_ix at h
  split at h
  · rename_i hb
    simp only [Bool.and_eq_true, beq_iff_eq, decide_eq_true_eq] at hb
    cases h
    rcases ht with h0 | ⟨u, z, e1, e2, e3⟩
    · rw [hb.1] at h0; cases h0
    · cases e1
      rw [hb.1] at e2
      have e2 : ls[t.2.1]? = some (.val (.int z)) := e2
      have e : y = z := (fa_eq _ _).mpr (by omega)
      rw [e]
      exact e2
  · cases h
theorem fs_ald {j : Nat} {t : Nat × Nat × Int × Int} {q : Int × Int} {tq ta : ev_t} (ht : T[j]? = some (.inl t)) (h3 : t.1 ≠ 3) (h0 : 0 ≤ q.1) (h1 : q.2 < t.2.1)
    (row : ∀ (H : Heap) (locs : List Loc) (ls : Array Slot) (rest : List Value) (ws : va_W) (a : Nat) (cA : ClassId) (f : Nat → Int32) (i : Int32), va_P D vwCl ws H → ws[j]? = some (a, .inl (cA, t.2.1, .inl f)) → tys[t.1]? = some (cA, en_ty t.1) → vp_in i t.2.1 → W p l e R s m args below meth c H locs 0 0 Q (F0 m (pc + 1) ls (.int (f i.toNatClampNeg) :: rest)) → W p l e R s m args below meth c H locs 0 0 Q (F0 m pc ls (.int i :: .ref a :: rest)))
    (k : ev_go p l e R s m args below meth c Q D tys T I b0 nL ad w0 Wr γ (pc + 1, L, ev_rq FS j tq t.2.2 :: S, FS, RS)) : ev_go p l e R s m args below meth c Q D tys T I b0 nL ad w0 Wr γ (pc, L, (.inl q, tq) :: (.inr (j + 2), ta) :: S, FS, RS) := by
  intro H locs ls stk ws h
  dsimp only at h
  obtain ⟨hz, hl, hs, hF, hR, hw, hI, hP, hD, hS, hfr⟩ := h
  obtain ⟨x0, ys, rfl, ⟨i, rfl, hi⟩, hti, hs1⟩ := ev_stk_cons hs
  obtain ⟨x, zs, rfl, hx, -, hs2⟩ := ev_stk_cons hs1
  obtain ⟨rfl, hj⟩ : x = .ref (ad j) ∧ j < T.length := hx
  obtain ⟨e0, g1, ge⟩ := hw.2 j _ ht
  unfold ev_c at ge
  dsimp only at ge
  rw [if_neg h3] at ge
  obtain ⟨cA, f, rfl, g2, g3⟩ := ge
  have i0 : 0 ≤ i.toInt := by have := hi.1; omega
  have i1 : i.toInt < t.2.1 := by have := hi.2; omega
  refine row H locs ls zs ws (ad j) cA f i hP g1 g2 (vp_in_iff.mpr ⟨i0, i1⟩) (k H locs ls (.int (f i.toNatClampNeg) :: zs) ws ⟨hz, hl, ⟨?_, hs2⟩, hF, hR, hw, hI, hP, hD, hS, hfr⟩)
  unfold ev_rq
  split
  · rename_i b hb
    have hloc : ev_loc ls ws (3, j, b) (f i.toNatClampNeg) := ⟨_, _, _, _, i, g1, ev_ix_ok hb hti, i0, i1, rfl⟩
    exact ⟨⟨_, rfl, ev_fq_ok hF hloc (g3 _ (en_clamp i0 i1))⟩, Or.inr ⟨_, _, rfl, hloc, by dsimp only; omega⟩⟩
  · exact ⟨⟨_, rfl, g3 _ (en_clamp i0 i1)⟩, ev_tag0⟩
def ev_sf (FS : List ev_f) (j : Nat) (t : ev_t) (v : Int × Int) : List ev_f := match ev_ix t with
  | some i => ((3, j, i), v, none) :: ev_hf [(j, 999)] FS
  | none => ev_hf [(j, 999)] FS
theorem fs_ast (hI0 : ev_hI I sp) {j : Nat} {t : Nat × Nat × Int × Int} {q v : Int × Int} {tv tq ta : ev_t} (ht : T[j]? = some (.inl t)) (h3 : t.1 ≠ 3) (h0 : 0 ≤ q.1) (h1 : q.2 < t.2.1) (hv0 : t.2.2.1 ≤ v.1) (hv1 : v.2 ≤ t.2.2.2) (hwr : (j, 999) ∈ Wr) (hsp : (j, 999) ∉ sp)
    (row : ∀ (H : Heap) (locs : List Loc) (ls : Array Slot) (rest : List Value) (ws : va_W) (a : Nat) (cA : ClassId) (f : Nat → Int32) (i x : Int32), en_in v x → va_P D vwCl ws H → va_D (fun q => b0 ≤ q) ws → va_S (fun q => b0 ≤ q) s.heap H locs → ws[j]? = some (a, .inl (cA, t.2.1, .inl f)) → tys[t.1]? = some (cA, en_ty t.1) → vp_in i t.2.1 →
      (∀ (H1 : Heap) (locs1 : List Loc), va_P D vwCl (ws.set j (a, .inl (cA, t.2.1, .inl (upd f i.toNatClampNeg x)))) H1 → va_D (fun q => b0 ≤ q) (ws.set j (a, .inl (cA, t.2.1, .inl (upd f i.toNatClampNeg x)))) → va_S (fun q => b0 ≤ q) s.heap H1 locs1 → W p l e R s m args below meth c H1 locs1 0 0 Q (F0 m (pc + 1) ls rest)) → W p l e R s m args below meth c H locs 0 0 Q (F0 m pc ls (.int x :: .int i :: .ref a :: rest)))
    (k : ev_go p l e R s m args below meth c Q D tys T I b0 nL ad w0 Wr γ (pc + 1, L, S.map (ev_hs [(j, 999)]), ev_sf FS j tq v, RS)) : ev_go p l e R s m args below meth c Q D tys T I b0 nL ad w0 Wr γ (pc, L, (.inl v, tv) :: (.inl q, tq) :: (.inr (j + 2), ta) :: S, FS, RS) := by
  intro H locs ls stk ws h
  dsimp only at h
  obtain ⟨hz, hl, hs, hF, hR, hw, hI, hP, hD, hS, hfr⟩ := h
  obtain ⟨x9, us, rfl, ⟨x, rfl, hx⟩, -, hs0⟩ := ev_stk_cons hs
  obtain ⟨x0, ys, rfl, ⟨i, rfl, hi⟩, hti, hs1⟩ := ev_stk_cons hs0
  obtain ⟨xa, zs, rfl, hxa, -, hs2⟩ := ev_stk_cons hs1
  obtain ⟨rfl, hj⟩ : xa = .ref (ad j) ∧ j < T.length := hxa
  obtain ⟨e0, g1, ge⟩ := hw.2 j _ ht
  have ge0 := ge
  unfold ev_c at ge
  dsimp only at ge
  rw [if_neg h3] at ge
  obtain ⟨cA, f, rfl, g2, g3⟩ := ge
  have i0 : 0 ≤ i.toInt := by have := hi.1; omega
  have i1 : i.toInt < t.2.1 := by have := hi.2; omega
  refine row H locs ls zs ws (ad j) cA f i x hx hP hD hS g1 g2 (vp_in_iff.mpr ⟨i0, i1⟩) (fun H1 locs1 hP1 hD1 hS1 => ?_)
  have hf1 : ev_fr [(j, 999)] ws (ws.set j (ad j, .inl (cA, t.2.1, .inl (upd f i.toNatClampNeg x)))) := ev_fr_set g1 (Or.inl List.mem_cons_self)
  have hc : ev_c tys T.length ad (.inl t) (.inl (cA, t.2.1, .inl (upd f i.toNatClampNeg x))) := by
    unfold ev_c
    dsimp only
    rw [if_neg h3]
    refine ⟨cA, _, rfl, g2, fun k hk => ?_⟩
    unfold upd
    split
    · exact ⟨by have := hx.1; omega, by have := hx.2; omega⟩
    · exact g3 k hk
  refine k H1 locs1 ls zs _ ⟨hz, hl, ev_hs_ok hf1 hs2, fun g hg => ?_, hR, ev_w_set hw ht hc, hI0 [(j, 999)] _ _ (fun q hq => by rw [List.mem_singleton.mp hq]; exact hsp) hf1 hI, hP1, hD1, hS1, hfr.tr hf1 (fun q hq => by rw [List.mem_singleton.mp hq]; exact hwr)⟩
  dsimp only at hg
  unfold ev_sf at hg
  split at hg
  · rename_i b hb
    rcases List.mem_cons.mp hg with rfl | hg
    · refine ⟨x, ⟨_, _, _, _, i, List.getElem?_set_self (List.getElem?_eq_some_iff.mp g1).1, ev_ix_ok hb hti, i0, i1, ?_⟩, hx, trivial⟩
      unfold upd
      rw [if_pos rfl]
    · exact ev_hf_ok hf1 hF g hg
  · exact ev_hf_ok hf1 hF g hg
theorem fs_alen (C : ev_cx p s m args meth c cc nL o D tys aK aV b0) {j : Nat} {t : Nat × Nat × Int × Int} {ta : ev_t} (ht : T[j]? = some (.inl t)) (h3 : t.1 ≠ 3) (hn : t.2.1 < 2147483648) (hd : decode cc pc = .ok (.arraylength, 1)) (k : ev_go p l e R s m args below meth c Q D tys T I b0 nL ad w0 Wr γ (pc + 1, L, (.inl ((t.2.1 : Int), (t.2.1 : Int)), ev_nt) :: S, FS, RS)) : ev_go p l e R s m args below meth c Q D tys T I b0 nL ad w0 Wr γ (pc, L, (.inr (j + 2), ta) :: S, FS, RS) := by
  intro H locs ls stk ws h
  dsimp only at h
  obtain ⟨hz, hl, hs, hF, hR, hw, hI, hP, hD, hS, hfr⟩ := h
  obtain ⟨x, ys, rfl, hx, -, hs1⟩ := ev_stk_cons hs
  obtain ⟨rfl, hj⟩ : x = .ref (ad j) ∧ j < T.length := hx
  obtain ⟨e0, g1, ge⟩ := hw.2 j _ ht
  unfold ev_c at ge
  dsimp only at ge
  rw [if_neg h3] at ge
  obtain ⟨cA, f, rfl, g2, g3⟩ := ge
  refine va_alen C.1 C.2.1 C.2.2.2.2.2.1 hP j t.1 g1 g2 (v := nI t.2.1) rfl hd ?_
  exact k H locs ls (.int (nI t.2.1) :: ys) ws ⟨hz, hl, ⟨⟨⟨_, rfl, by rw [nI_toInt hn]; exact ⟨Int.le_refl _, Int.le_refl _⟩⟩, ev_tag0⟩, hs1⟩, hF, hR, hw, hI, hP, hD, hS, hfr⟩
theorem fs_aald (C : ev_cx p s m args meth c cc nL o D tys aK aV b0) {j n : Nat} {t : Nat × Nat × Int × Int} {ti ta : ev_t} (ht : T[j]? = some (.inl t)) (h3 : t.1 = 3) (hn : n < t.2.1) (hd : decode cc pc = .ok (.aaload, 1)) (k : ev_go p l e R s m args below meth c Q D tys T I b0 nL ad w0 Wr γ (pc + 1, L, (.inr (t.2.2.1.toNat + n + 2), ev_nt) :: S, FS, RS)) : ev_go p l e R s m args below meth c Q D tys T I b0 nL ad w0 Wr γ (pc, L, (.inl ((n : Int), (n : Int)), ti) :: (.inr (j + 2), ta) :: S, FS, RS) := by
  intro H locs ls stk ws h
  dsimp only at h
  obtain ⟨hz, hl, hs, hF, hR, hw, hI, hP, hD, hS, hfr⟩ := h
  obtain ⟨x0, ys, rfl, ⟨i, rfl, hi⟩, hti, hs1⟩ := ev_stk_cons hs
  obtain ⟨x, zs, rfl, hx, -, hs2⟩ := ev_stk_cons hs1
  obtain ⟨rfl, hj⟩ : x = .ref (ad j) ∧ j < T.length := hx
  obtain ⟨e0, g1, ge⟩ := hw.2 j _ ht
  unfold ev_c at ge
  dsimp only at ge
  rw [if_pos h3] at ge
  obtain ⟨cA, f, rfl, g2, g3⟩ := ge
  have hi1 : (n : Int) ≤ i.toInt := hi.1
  have hi2 : i.toInt ≤ (n : Int) := hi.2
  have hin : vp_in i t.2.1 := vp_in_iff.mpr ⟨by omega, by omega⟩
  have hc : i.toNatClampNeg = n := by show i.toInt.toNat = n; omega
  obtain ⟨e1, e2⟩ := g3 n hn
  have hlt : i.toNatClampNeg < t.2.1 := by omega
  refine W.aald (v := va_rf (f i.toNatClampNeg)) (ty := .array .int) C.1 C.2.1 (hP j _ g1) ((C.2.2.2.2.2.1.2 3 _ g2).1 t.2.1 (fun j => va_rf (f j))) rfl (fun q => by cases q) (by show ¬ (i < 0 ∨ (arrV _ _ _).slots.size ≤ _); rw [arrV_size]; exact hin) (by show (arrV _ _ _).slots[_]? = _; rw [arrV_read _ _ hlt]) rfl rfl hd ?_
  rw [hc, e1]
  exact k H locs ls (.ref (ad (t.2.2.1.toNat + n)) :: zs) ws ⟨hz, hl, ⟨⟨⟨rfl, e2⟩, ev_tag0⟩, hs2⟩, hF, hR, hw, hI, hP, hD, hS, hfr⟩
/-- a split: once for each piece -/
theorem fs_split {n : Nat} {q : Int × Int} {t : ev_t} {cuts : List Int} (hn : S[n]? = some (.inl q, t)) (k : ∀ u ∈ ev_cut q cuts, ev_go p l e R s m args below meth c Q D tys T I b0 nL ad w0 Wr γ (pc, (ev_rf L FS t u).1, S.set n (.inl u, t), (ev_rf L FS t u).2, RS)) : ev_go p l e R s m args below meth c Q D tys T I b0 nL ad w0 Wr γ (pc, L, S, FS, RS) := by
  intro H locs ls stk ws h
  dsimp only at h
  obtain ⟨⟨z1, z2, z3⟩, hl, hs, hF, hR, hr⟩ := h
  have key : ∀ (n : Nat) (S : List ev_s) (stk : List Value), ev_stk T.length ad ls ws S stk → S[n]? = some (.inl q, t) → ∃ x : Int32, en_in q x ∧ ev_tag ls ws t (.int x) ∧ ∀ u : Int × Int, en_in u x → ev_stk T.length ad ls ws (S.set n (.inl u, t)) stk := by
    intro n
    induction n with
    | zero =>
      intro S stk hs hn
      cases S with
      | nil => simp at hn
      | cons a S =>
        rw [List.getElem?_cons_zero] at hn
        cases hn
        obtain ⟨x, ys, rfl, ⟨v, rfl, hv⟩, tv, hs1⟩ := ev_stk_cons hs
        exact ⟨v, hv, tv, fun u hu => ⟨⟨⟨v, rfl, hu⟩, tv⟩, hs1⟩⟩
    | succ n ih =>
      intro S stk hs hn
      cases S with
      | nil => simp at hn
      | cons a S =>
        rw [List.getElem?_cons_succ] at hn
        obtain ⟨x, ys, rfl, hx, tx, hs1⟩ := ev_stk_cons hs
        obtain ⟨v, hv, tv, hk⟩ := ih S ys hs1 hn
        exact ⟨v, hv, tv, fun u hu => ⟨⟨hx, tx⟩, hk u hu⟩⟩
  obtain ⟨v, hv, tv, hk⟩ := key n S stk hs hn
  obtain ⟨u, hu, huv⟩ := ev_cut_ok (cs := cuts) hv
  obtain ⟨a1, a2, a3⟩ := ev_rf_ok hl hF tv huv
  exact k u hu H locs ls stk ws ⟨⟨z1, z2, by dsimp only; rw [a1]; exact z3⟩, a2, hk u huv, a3, hR, hr⟩
end EVH
