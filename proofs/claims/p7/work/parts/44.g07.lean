def en_hull (a b : Int × Int) : Int × Int := (if a.1 ≤ b.1 then a.1 else b.1, if a.2 ≤ b.2 then b.2 else a.2)
theorem en_hull_l {a b : Int × Int} {x : Int32} (h : en_in a x) : en_in (en_hull a b) x := by
  obtain ⟨h1, h2⟩ := h
  unfold en_hull en_in
  dsimp only
  constructor
  · split <;> omega
  · split <;> omega
theorem en_hull_r {a b : Int × Int} {x : Int32} (h : en_in b x) : en_in (en_hull a b) x := by
  obtain ⟨h1, h2⟩ := h
  unfold en_hull en_in
  dsimp only
  constructor
  · split <;> omega
  · split <;> omega
theorem en_upd_in {f : Nat → Int32} {a b : Int × Int} {n k : Nat} {x : Int32} (h : ∀ j, j < n → en_in a (f j)) (hx : en_in b x) : ∀ j, j < n → en_in (en_hull a b) (upd f k x j) := by
  intro j hj
  unfold upd
  split
  · exact en_hull_r hx
  · exact en_hull_l (h j hj)
section ENH
variable {p : Program} {l : Launch} {e : Env} {R : Room} {s : State} {m : MethodId} {args : Array Value} {below : List Frame} {meth : Method} {c : Code} {Q : State → Prop} {cc : ByteArray} {D : va_G} {tys : List (ClassId × FieldType)} {aK aV b0 nL o N0 : Nat} {ad0 : Nat → Nat}
variable {pc : Nat} {L : en_L} {S : List en_V} {T : en_T} {cs sl : Nat}
theorem es_alen (C : en_cx p s m args meth c cc nL o D tys aK aV b0) {j : Nat} {t : Nat × Nat × Int × Int} (h3 : t.1 ≠ 3) (ht : T[j]? = some (.inl t)) (hn : t.2.1 < 2147483648) (hd : decode cc pc = .ok (.arraylength, 1)) (k : en_go p l e R s m args below meth c Q D tys b0 nL N0 ad0 (pc + 1, L, .inl ((t.2.1 : Int), (t.2.1 : Int)) :: S, T, cs, sl)) : en_go p l e R s m args below meth c Q D tys b0 nL N0 ad0 (pc, L, .inr (j + 2) :: S, T, cs, sl) := by
  intro H locs ls stk ad h
  dsimp only at h
  obtain ⟨hl, hn0, hs, hW, hr⟩ := h
  obtain ⟨x, ys, rfl, hx, hs1⟩ := en_vs_cons hs
  obtain ⟨rfl, hj⟩ : x = .ref (ad j) ∧ j < T.length := hx
  have hW0 := hW
  obtain ⟨ws, w1, w2, w3, w4⟩ := hW
  obtain ⟨e0, g1, ge⟩ := w2 j _ ht
  obtain ⟨cA, f, rfl, g2, g3⟩ := ec_get h3 ge
  refine va_alen C.1 C.2.1 C.2.2.2.2.2.1 w3 j t.1 g1 g2 (v := nI t.2.1) rfl hd ?_
  exact k H locs ls (.int (nI t.2.1) :: ys) ad ⟨hl, hn0, ⟨⟨_, rfl, by rw [nI_toInt hn]; exact ⟨Int.le_refl _, Int.le_refl _⟩⟩, hs1⟩, hW0, hr⟩
theorem es_ald {j : Nat} {t : Nat × Nat × Int × Int} {q : Int × Int} (h3 : t.1 ≠ 3) (ht : T[j]? = some (.inl t)) (h0 : 0 ≤ q.1) (h1 : q.2 < t.2.1)
    (row : ∀ (H : Heap) (locs : List Loc) (ls : Array Slot) (rest : List Value) (ws : va_W) (a : Nat) (cA : ClassId) (f : Nat → Int32) (i : Int32), va_P D vwCl ws H → ws[j]? = some (a, .inl (cA, t.2.1, .inl f)) → tys[t.1]? = some (cA, en_ty t.1) → vp_in i t.2.1 → W p l e R s m args below meth c H locs cs sl Q (F0 m (pc + 1) ls (.int (f i.toNatClampNeg) :: rest)) → W p l e R s m args below meth c H locs cs sl Q (F0 m pc ls (.int i :: .ref a :: rest)))
    (k : en_go p l e R s m args below meth c Q D tys b0 nL N0 ad0 (pc + 1, L, .inl t.2.2 :: S, T, cs, sl)) : en_go p l e R s m args below meth c Q D tys b0 nL N0 ad0 (pc, L, .inl q :: .inr (j + 2) :: S, T, cs, sl) := by
  intro H locs ls stk ad h
  dsimp only at h
  obtain ⟨hl, hn0, hs, hW, hr⟩ := h
  obtain ⟨x0, ys, rfl, ⟨i, rfl, hi⟩, hs1⟩ := en_vs_cons hs
  obtain ⟨x, zs, rfl, hx, hs2⟩ := en_vs_cons hs1
  obtain ⟨rfl, hj⟩ : x = .ref (ad j) ∧ j < T.length := hx
  have hW0 := hW
  obtain ⟨ws, w1, w2, w3, w4⟩ := hW
  obtain ⟨e0, g1, ge⟩ := w2 j _ ht
  obtain ⟨cA, f, rfl, g2, g3⟩ := ec_get h3 ge
  have i0 : 0 ≤ i.toInt := by omega
  have i1 : i.toInt < t.2.1 := by omega
  exact row H locs ls zs ws (ad j) cA f i w3 g1 g2 (vp_in_iff.mpr ⟨i0, i1⟩) (k H locs ls (.int (f i.toNatClampNeg) :: zs) ad ⟨hl, hn0, ⟨⟨_, rfl, g3 _ (en_clamp i0 i1)⟩, hs2⟩, hW0, hr⟩)
theorem es_iald (C : en_cx p s m args meth c cc nL o D tys aK aV b0) {j : Nat} {t : Nat × Nat × Int × Int} {q : Int × Int} (ht : T[j]? = some (.inl t)) (ht0 : t.1 = 0) (h0 : 0 ≤ q.1) (h1 : q.2 < t.2.1) (hd : decode cc pc = .ok (.iaload, 1)) (k : en_go p l e R s m args below meth c Q D tys b0 nL N0 ad0 (pc + 1, L, .inl t.2.2 :: S, T, cs, sl)) : en_go p l e R s m args below meth c Q D tys b0 nL N0 ad0 (pc, L, .inl q :: .inr (j + 2) :: S, T, cs, sl) :=
  es_ald (by rw [ht0]; decide) ht h0 h1 (fun H locs ls rest ws a cA f i hP ha hty hin k => va_iald C.1 C.2.1 C.2.2.2.2.2.1 hP j t.1 ha (by rw [hty, ht0]; rfl) hin hd k) k
theorem es_zald (C : en_cx p s m args meth c cc nL o D tys aK aV b0) {j : Nat} {t : Nat × Nat × Int × Int} {q : Int × Int} (ht : T[j]? = some (.inl t)) (ht0 : t.1 = 1) (h0 : 0 ≤ q.1) (h1 : q.2 < t.2.1) (hd : decode cc pc = .ok (.baload, 1)) (k : en_go p l e R s m args below meth c Q D tys b0 nL N0 ad0 (pc + 1, L, .inl t.2.2 :: S, T, cs, sl)) : en_go p l e R s m args below meth c Q D tys b0 nL N0 ad0 (pc, L, .inl q :: .inr (j + 2) :: S, T, cs, sl) :=
  es_ald (by rw [ht0]; decide) ht h0 h1 (fun H locs ls rest ws a cA f i hP ha hty hin k => va_zald C.1 C.2.1 C.2.2.2.2.2.1 hP j t.1 ha (by rw [hty, ht0]; rfl) hin hd k) k
theorem es_bald (C : en_cx p s m args meth c cc nL o D tys aK aV b0) {j : Nat} {t : Nat × Nat × Int × Int} {q : Int × Int} (ht : T[j]? = some (.inl t)) (ht0 : t.1 = 2) (h0 : 0 ≤ q.1) (h1 : q.2 < t.2.1) (hd : decode cc pc = .ok (.baload, 1)) (k : en_go p l e R s m args below meth c Q D tys b0 nL N0 ad0 (pc + 1, L, .inl t.2.2 :: S, T, cs, sl)) : en_go p l e R s m args below meth c Q D tys b0 nL N0 ad0 (pc, L, .inl q :: .inr (j + 2) :: S, T, cs, sl) :=
  es_ald (by rw [ht0]; decide) ht h0 h1 (fun H locs ls rest ws a cA f i hP ha hty hin k => va_bald C.1 C.2.1 C.2.2.2.2.2.1 hP j t.1 ha (by rw [hty, ht0]; rfl) hin hd k) k
theorem es_ast {j : Nat} {t : Nat × Nat × Int × Int} {q v : Int × Int} (h3 : t.1 ≠ 3) (ht : T[j]? = some (.inl t)) (h0 : 0 ≤ q.1) (h1 : q.2 < t.2.1)
    (row : ∀ (H : Heap) (locs : List Loc) (ls : Array Slot) (rest : List Value) (ws : va_W) (a : Nat) (cA : ClassId) (f : Nat → Int32) (i x : Int32), en_in v x → va_P D vwCl ws H → va_D (fun q => b0 ≤ q) ws → va_S (fun q => b0 ≤ q) s.heap H locs → ws[j]? = some (a, .inl (cA, t.2.1, .inl f)) → tys[t.1]? = some (cA, en_ty t.1) → vp_in i t.2.1 →
      (∀ (H1 : Heap) (locs1 : List Loc), va_P D vwCl (ws.set j (a, .inl (cA, t.2.1, .inl (upd f i.toNatClampNeg x)))) H1 → va_D (fun q => b0 ≤ q) (ws.set j (a, .inl (cA, t.2.1, .inl (upd f i.toNatClampNeg x)))) → va_S (fun q => b0 ≤ q) s.heap H1 locs1 → W p l e R s m args below meth c H1 locs1 cs sl Q (F0 m (pc + 1) ls rest)) → W p l e R s m args below meth c H locs cs sl Q (F0 m pc ls (.int x :: .int i :: .ref a :: rest)))
    (k : en_go p l e R s m args below meth c Q D tys b0 nL N0 ad0 (pc + 1, L, S, T.set j (.inl (t.1, t.2.1, en_hull t.2.2 v)), cs, sl)) : en_go p l e R s m args below meth c Q D tys b0 nL N0 ad0 (pc, L, .inl v :: .inl q :: .inr (j + 2) :: S, T, cs, sl) := by
  intro H locs ls stk ad h
  dsimp only at h
  obtain ⟨hl, hn0, hs, hW, hS, hr⟩ := h
  obtain ⟨x9, us, rfl, ⟨v1, rfl, hv⟩, hs0⟩ := en_vs_cons hs
  obtain ⟨x0, ys, rfl, ⟨i, rfl, hi⟩, hs1⟩ := en_vs_cons hs0
  obtain ⟨x, zs, rfl, hx, hs2⟩ := en_vs_cons hs1
  obtain ⟨rfl, hj⟩ : x = .ref (ad j) ∧ j < T.length := hx
  obtain ⟨ws, w1, w2, w3, w4⟩ := hW
  obtain ⟨e0, g1, ge⟩ := w2 j _ ht
  obtain ⟨cA, f, rfl, g2, g3⟩ := ec_get h3 ge
  have i0 : 0 ≤ i.toInt := by omega
  have i1 : i.toInt < t.2.1 := by omega
  refine row H locs ls zs ws (ad j) cA f i v1 hv w3 w4 hS g1 g2 (vp_in_iff.mpr ⟨i0, i1⟩) (fun H1 locs1 hP hD hS1 => ?_)
  have hT : (T.set j (.inl (t.1, t.2.1, en_hull t.2.2 v))).length = T.length := List.length_set
  refine k H1 locs1 ls zs ad ⟨by dsimp only; rw [hT]; exact hl, hn0, by dsimp only; rw [hT]; exact hs2, eg_W.put w1 w2 hP hD (ec_arr h3 ⟨cA, _, rfl, g2, ?_⟩), hS1, by dsimp only; rw [hT]; exact hr⟩
  exact en_upd_in g3 hv
theorem es_iast (C : en_cx p s m args meth c cc nL o D tys aK aV b0) {j : Nat} {t : Nat × Nat × Int × Int} {q v : Int × Int} (ht : T[j]? = some (.inl t)) (ht0 : t.1 = 0) (h0 : 0 ≤ q.1) (h1 : q.2 < t.2.1) (hd : decode cc pc = .ok (.iastore, 1)) (k : en_go p l e R s m args below meth c Q D tys b0 nL N0 ad0 (pc + 1, L, S, T.set j (.inl (t.1, t.2.1, en_hull t.2.2 v)), cs, sl)) : en_go p l e R s m args below meth c Q D tys b0 nL N0 ad0 (pc, L, .inl v :: .inl q :: .inr (j + 2) :: S, T, cs, sl) :=
  es_ast (by rw [ht0]; decide) ht h0 h1 (fun H locs ls rest ws a cA f i x _ hP hD hS ha hty hin k => va_iast C.1 C.2.1 C.2.2.2.2.2.1 hP hD hS j t.1 ha (by rw [hty, ht0]; rfl) hin hd k) k
theorem es_bast (C : en_cx p s m args meth c cc nL o D tys aK aV b0) {j : Nat} {t : Nat × Nat × Int × Int} {q v : Int × Int} (ht : T[j]? = some (.inl t)) (ht0 : t.1 = 2) (h0 : 0 ≤ q.1) (h1 : q.2 < t.2.1) (hv0 : -128 ≤ v.1) (hv1 : v.2 ≤ 127) (hd : decode cc pc = .ok (.bastore, 1)) (k : en_go p l e R s m args below meth c Q D tys b0 nL N0 ad0 (pc + 1, L, S, T.set j (.inl (t.1, t.2.1, en_hull t.2.2 v)), cs, sl)) : en_go p l e R s m args below meth c Q D tys b0 nL N0 ad0 (pc, L, .inl v :: .inl q :: .inr (j + 2) :: S, T, cs, sl) :=
  es_ast (by rw [ht0]; decide) ht h0 h1 (fun H locs ls rest ws a cA f i x hx hP hD hS ha hty hin k => va_bast C.1 C.2.1 C.2.2.2.2.2.1 hP hD hS j t.1 ha (by rw [hty, ht0]; rfl) hin hd (by obtain ⟨hx1, hx2⟩ := hx; rw [en_nar_b (by omega) (by omega)]; exact k)) k
theorem es_zast (C : en_cx p s m args meth c cc nL o D tys aK aV b0) {j : Nat} {t : Nat × Nat × Int × Int} {q v : Int × Int} (ht : T[j]? = some (.inl t)) (ht0 : t.1 = 1) (h0 : 0 ≤ q.1) (h1 : q.2 < t.2.1) (hv0 : 0 ≤ v.1) (hv1 : v.2 ≤ 1) (hd : decode cc pc = .ok (.bastore, 1)) (k : en_go p l e R s m args below meth c Q D tys b0 nL N0 ad0 (pc + 1, L, S, T.set j (.inl (t.1, t.2.1, en_hull t.2.2 v)), cs, sl)) : en_go p l e R s m args below meth c Q D tys b0 nL N0 ad0 (pc, L, .inl v :: .inl q :: .inr (j + 2) :: S, T, cs, sl) :=
  es_ast (by rw [ht0]; decide) ht h0 h1 (fun H locs ls rest ws a cA f i x hx hP hD hS ha hty hin k => va_zast C.1 C.2.1 C.2.2.2.2.2.1 hP hD hS j t.1 ha (by rw [hty, ht0]; rfl) hin hd (by obtain ⟨hx1, hx2⟩ := hx; rw [en_vp_nar (en_nar_z (by omega) (by omega))]; exact k)) k
theorem es_getf (C : en_cx p s m args meth c cc nL o D tys aK aV b0) {i ci f j : Nat} {fs : List en_V} {a : en_V} {r : vw_C} (hf : en_find o i en_fl = some (ci, f)) (hr0 : vwCl[ci]? = some r) (hfN : f < r.2.2) (ht : T[j]? = some (.inr (ci, fs))) (ha : fs[f]? = some a) (hd : decode cc pc = .ok (.getfield i, 3)) (k : en_go p l e R s m args below meth c Q D tys b0 nL N0 ad0 (pc + 3, L, a :: S, T, cs, sl)) : en_go p l e R s m args below meth c Q D tys b0 nL N0 ad0 (pc, L, .inr (j + 2) :: S, T, cs, sl) := by
  intro H locs ls stk ad h
  dsimp only at h
  obtain ⟨hl, hn0, hs, hW, hr⟩ := h
  obtain ⟨x, ys, rfl, hx, hs1⟩ := en_vs_cons hs
  obtain ⟨rfl, hj⟩ : x = .ref (ad j) ∧ j < T.length := hx
  have hW0 := hW
  obtain ⟨ws, w1, w2, w3, w4⟩ := hW
  obtain ⟨e0, g1, vs, rfl, g2⟩ := w2 j _ ht
  obtain ⟨v, g3, g4⟩ := en_vs_get g2 ha
  refine va_get (C := r.1) (T := r.2.1) (N := r.2.2) C.1 C.2.1 C.2.2.2.2.1 (en_cls_ws hr0) C.2.2.2.1 C.2.2.2.2.2.1 w3 j g1 hr0 f hfN (C.2.2.2.2.1 _ (en_fl_w hf hr0)) (fun x h => h) g3 hd ?_
  exact k H locs ls (v :: ys) ad ⟨hl, hn0, ⟨g4, hs1⟩, hW0, hr⟩
theorem es_putf (C : en_cx p s m args meth c cc nL o D tys aK aV b0) {i ci f j : Nat} {fs : List en_V} {a : en_V} {r : vw_C} (hf : en_find o i en_fl = some (ci, f)) (hr0 : vwCl[ci]? = some r) (hfN : f < r.2.2) (ht : T[j]? = some (.inr (ci, fs))) (hlen : f < fs.length) (hput : en_put (en_tyX ci f) a = true)
    (hfin : (r.2.1 f).2.2.2 = false ∨ (meth.name = "<init>" ∧ (r.2.1 f).1 = en_nm o)) (hd : decode cc pc = .ok (.putfield i, 3)) (k : en_go p l e R s m args below meth c Q D tys b0 nL N0 ad0 (pc + 3, L, S, T.set j (.inr (ci, fs.set f a)), cs, sl)) : en_go p l e R s m args below meth c Q D tys b0 nL N0 ad0 (pc, L, a :: .inr (j + 2) :: S, T, cs, sl) := by
  intro H locs ls stk ad h
  dsimp only at h
  obtain ⟨hl, hn0, hs, hW, hS, hr⟩ := h
  obtain ⟨v, us, rfl, hv, hs0⟩ := en_vs_cons hs
  obtain ⟨x, ys, rfl, hx, hs1⟩ := en_vs_cons hs0
  obtain ⟨rfl, hj⟩ : x = .ref (ad j) ∧ j < T.length := hx
  obtain ⟨ws, w1, w2, w3, w4⟩ := hW
  obtain ⟨e0, g1, vs, rfl, g2⟩ := w2 j _ ht
  obtain ⟨q1, q2⟩ := en_put_ok hput hv
  have hc := en_cls ci r hr0
  have hT : (T.set j (.inr (ci, fs.set f a))).length = T.length := List.length_set
  have kk : ∀ (H1 : Heap) (locs1 : List Loc), va_P D vwCl (ws.set j (ad j, .inr (ci, vs.set f v))) H1 → va_D (fun q => b0 ≤ q) (ws.set j (ad j, .inr (ci, vs.set f v))) → va_S (fun q => b0 ≤ q) s.heap H1 locs1 → W p l e R s m args below meth c H1 locs1 cs sl Q (F0 m (pc + 3) ls ys) := fun H1 locs1 hP hD hS1 =>
    k H1 locs1 ls ys ad ⟨by dsimp only; rw [hT]; exact hl, hn0, by dsimp only; rw [hT]; exact hs1, eg_W.put w1 w2 hP hD ⟨_, rfl, en_vs_set hv f g2⟩, hS1, by dsimp only; rw [hT]; exact hr⟩
  have hle : f < vs.length := by rw [← en_vs_len g2]; exact hlen
  rcases hfin with hfin | ⟨h1, h2⟩
  · exact va_put (C := r.1) (T := r.2.1) (N := r.2.2) C.1 C.2.1 C.2.2.2.2.1 (en_cls_ws hr0) (en_tyX ci) hc.2.1 hc.2.2 C.2.2.2.1 C.2.2.2.2.2.1 w3 w4 hS j g1 hr0 f hfN (C.2.2.2.2.1 _ (en_fl_w hf hr0)) (fun x h => h) hfin (hc.2.1 f hfN) q1 q2 hle hd kk
  · cases hz : (r.2.1 f).2.2.2 with
    | false => exact va_put (C := r.1) (T := r.2.1) (N := r.2.2) C.1 C.2.1 C.2.2.2.2.1 (en_cls_ws hr0) (en_tyX ci) hc.2.1 hc.2.2 C.2.2.2.1 C.2.2.2.2.2.1 w3 w4 hS j g1 hr0 f hfN (C.2.2.2.2.1 _ (en_fl_w hf hr0)) (fun x h => h) hz (hc.2.1 f hfN) q1 q2 hle hd kk
    | true => exact va_putF (C := r.1) (T := r.2.1) (N := r.2.2) C.1 C.2.1 C.2.2.2.2.1 (en_cls_ws hr0) (en_tyX ci) hc.2.1 hc.2.2 C.2.2.2.1 C.2.2.2.2.2.1 w3 w4 hS j g1 hr0 f hfN (C.2.2.2.2.1 _ (en_fl_w hf hr0)) (fun x h => h) hz h1 h2 (hc.2.1 f hfN) q1 q2 hle hd kk
theorem en_map_vs {N : Nat} {ad : Nat → Nat} {α : Type} {f : α → en_V} {g : α → Value} : ∀ (xs : List α), (∀ x ∈ xs, en_v N ad (f x) (g x)) → en_vs N ad (xs.map f) (xs.map g)
  | [], _ => trivial
  | x :: xs, h => ⟨h x List.mem_cons_self, en_map_vs xs (fun y hy => h y (List.mem_cons_of_mem _ hy))⟩
theorem es_new (C : en_cx p s m args meth c cc nL o D tys aK aV b0) {i ci : Nat} {r : vw_C} (hf : en_find o i en_nw = some ci) (hr0 : vwCl[ci]? = some r) (hdk : (List.range r.2.2).all (fun j => en_dok (en_tyX ci j)) = true) (hc1 : cs + 1 ≤ R.cells) (hc2 : sl + r.2.2 ≤ R.slots) (hd : decode cc pc = .ok (.new i, 3))
    (k : en_go p l e R s m args below meth c Q D tys b0 nL N0 ad0 (pc + 3, L, .inr (T.length + 2) :: S, T ++ [.inr (ci, en_df ci r.2.2)], cs + 1, sl + r.2.2)) : en_go p l e R s m args below meth c Q D tys b0 nL N0 ad0 (pc, L, S, T, cs, sl) := by
  intro H locs ls stk ad h
  dsimp only at h
  obtain ⟨hl, hn0, hs, hW, hS, hr, hr2⟩ := h
  obtain ⟨ws, w1, w2, w3, w4⟩ := hW
  have hin := en_nw_in
  have hmem : ∀ w ∈ en_nww (o, i, ci), w ∈ lw_tbl := fun w hw => en_nw_in w (List.mem_flatMap.mpr ⟨(o, i, ci), en_find_mem hf, hw⟩)
  have hlist : en_nww (o, i, ci) = [.classLink (en_nm o) i r.1, .instantiable r.1 r.2.2, .initialized r.1] := by
    show (match vwCl[ci]? with
      | some r => _
      | none => _) = _
    rw [hr0]
  rw [hlist] at hmem
  have hA : ∀ q : Nat, s.heap.size ≤ q → (fun q : Nat => b0 ≤ q) q := fun q hq => Nat.le_trans C.2.2.2.2.2.2.2.1 hq
  have hdk1 : ∀ j, j < r.2.2 → en_dok (en_tyX ci j) = true := fun j hj => List.all_eq_true.mp hdk j (List.mem_range.mpr hj)
  refine va_new (C := r.1) (T := r.2.1) (N := r.2.2) (fs := (List.range r.2.2).map (fun j => defaultValue (en_tyX ci j))) C.1 C.2.1 C.2.2.2.2.1 (en_cls_ws hr0) (en_tyX ci) (en_cls ci r hr0).2.1 C.2.2.2.1 (C.2.2.2.2.1 _ (en_ws_in (hmem _ List.mem_cons_self) rfl)) (C.2.2.2.2.1 _ (en_ws_in (hmem _ (List.mem_cons_of_mem _ List.mem_cons_self)) rfl)) (C.2.2.2.2.1 _ (en_ws_in (hmem _ (List.mem_cons_of_mem _ (List.mem_cons_of_mem _ List.mem_cons_self))) rfl)) C.2.2.2.2.2.1 w3 w4 hS hA hr0 ?_ hc1 hc2 hd (fun q H1 hP hD hS1 => ?_)
  · intro j hj
    unfold vp_V
    rw [List.getD_eq_getElem?_getD, List.getElem?_map, List.getElem?_range hj]
    rfl
  · have hN : (T ++ [.inr (ci, en_df ci r.2.2)] : en_T).length = T.length + 1 := by rw [List.length_append]; rfl
    have hle : T.length ≤ T.length + 1 := Nat.le_succ _
    have hag : ∀ k, k < T.length → en_up ad T.length q k = ad k := fun k hk => en_up_lt hk
    refine k H1 locs ls (.ref q :: stk) (en_up ad T.length q) ⟨by dsimp only; rw [hN]; exact en_l_mono hle hag hl, hn0, by dsimp only; rw [hN]; exact ⟨⟨by rw [en_up_at], Nat.lt_succ_self _⟩, en_vs_mono hle hag hs⟩, eg_W.push w1 w2 hP hD ⟨_, rfl, ?_⟩, hS1, by dsimp only; rw [hN]; omega, fun k hk => by rw [hag k (by omega)]; exact hr2 k hk⟩
    exact en_map_vs _ (fun j hj => en_dv_ok (hdk1 j (List.mem_range.mp hj)))
theorem es_newa (C : en_cx p s m args meth c cc nL o D tys aK aV b0) {at0 : ArrayType} {t n : Nat} (hty : newarray.typeOf at0 = en_ty t) (ht : t < 3) (hn : n ≤ 100000) (hc1 : cs + 1 ≤ R.cells) (hc2 : sl + n ≤ R.slots) (hd : decode cc pc = .ok (.newarray at0, 2))
    (k : en_go p l e R s m args below meth c Q D tys b0 nL N0 ad0 (pc + 2, L, .inr (T.length + 2) :: S, T ++ [.inl (t, n, 0, 0)], cs + 1, sl + n)) : en_go p l e R s m args below meth c Q D tys b0 nL N0 ad0 (pc, L, .inl ((n : Int), (n : Int)) :: S, T, cs, sl) := by
  intro H locs ls stk ad h
  dsimp only at h
  obtain ⟨hl, hn0, hs, hW, hS, hr, hr2⟩ := h
  obtain ⟨ws, w1, w2, w3, w4⟩ := hW
  obtain ⟨x0, ys, rfl, ⟨i, rfl, hi⟩, hs1⟩ := en_vs_cons hs
  have hi0 : i.toInt = (n : Int) := by dsimp only at hi; omega
  have hA : ∀ q : Nat, s.heap.size ≤ q → (fun q : Nat => b0 ≤ q) q := fun q hq => Nat.le_trans C.2.2.2.2.2.2.2.1 hq
  have hK := C.2.2.2.2.2.1
  obtain ⟨cA0, hcA0⟩ := C.2.2.2.2.2.2.1.1 t ht
  have harr : (Cond.arrayClass (newarray.typeOf at0)).before args s = true := by
    rw [hty]
    refine C.2.2.2.2.1 _ (en_ws_in (en_arr_in _ ?_) rfl)
    match t, ht with
    | 0, _ => exact List.mem_cons_self
    | 1, _ => exact List.mem_cons_of_mem _ List.mem_cons_self
    | 2, _ => exact List.mem_cons_of_mem _ (List.mem_cons_of_mem _ List.mem_cons_self)
    | k + 3, h => omega
  have hdv : ∀ cA : ClassId, vp_cell cA (n, .inl (fun _ => 0)) = arrV cA n (fun _ => defaultValue (en_ty t)) := fun cA => by
    rw [vp_cell_i]
    match t, ht with
    | 0, _ => rfl
    | 1, _ => rfl
    | 2, _ => rfl
    | k + 3, h => omega
  have hcb : n * componentBytes (en_ty t) ≤ 536870912 := by
    have hb4 : componentBytes (en_ty t) ≤ 4 := by
      match t, ht with
      | 0, _ => decide
      | 1, _ => decide
      | 2, _ => decide
      | k + 3, h => omega
    exact Nat.le_trans (Nat.mul_le_mul hn hb4) (by decide)
  refine va_newa C.1 C.2.1 harr hty hK w3 w4 hS hA (N' := n) (a0 := (n, .inl (fun _ => 0))) hdv (by rw [fa_lt]; show ¬ i.toInt < 0; omega) (by show i.toInt.toNat = n; omega) hcb hc1 hc2 hd (fun q cA H1 hK1 hP hD hS1 => ?_)
  have hcA : tys[t]? = some (cA, en_ty t) := by
    have h1 := (hK.2 t _ hcA0).2
    have h2 := (hK1.2 tys.length (cA, en_ty t) (by rw [List.getElem?_append_right (Nat.le_refl _), Nat.sub_self]; rfl)).2
    have h3 : cA0 = cA := by
      match t, ht, h1, h2 with
      | 0, _, h1, h2 => exact Option.some.inj (h1.symm.trans h2)
      | 1, _, h1, h2 => exact Option.some.inj (h1.symm.trans h2)
      | 2, _, h1, h2 => exact Option.some.inj (h1.symm.trans h2)
      | k + 3, h, _, _ => omega
    rw [← h3]
    exact hcA0
  have hN : (T ++ [.inl (t, n, 0, 0)] : en_T).length = T.length + 1 := by rw [List.length_append]; rfl
  have hle : T.length ≤ T.length + 1 := Nat.le_succ _
  have hag : ∀ k, k < T.length → en_up ad T.length q k = ad k := fun k hk => en_up_lt hk
  exact k H1 locs ls (.ref q :: ys) (en_up ad T.length q) ⟨by dsimp only; rw [hN]; exact en_l_mono hle hag hl, hn0, by dsimp only; rw [hN]; exact ⟨⟨by rw [en_up_at], Nat.lt_succ_self _⟩, en_vs_mono hle hag hs1⟩, eg_W.push w1 w2 hP hD (ec_arr (show t ≠ 3 by omega) ⟨cA, _, rfl, hcA, fun j hj => ⟨Int.le_refl _, Int.le_refl _⟩⟩), hS1, by dsimp only; rw [hN]; omega, fun k hk => by rw [hag k (by omega)]; exact hr2 k hk⟩
theorem es_oi (C : en_cx p s m args meth c cc nL o D tys aK aV b0) {i j : Nat} (hf : (o, i) ∈ en_oi) (hfr : 1 ≤ R.frames) (hlo : S.length + 12 ≤ R.locals) (hd : decode cc pc = .ok (.invokespecial i, 3)) (k : en_go p l e R s m args below meth c Q D tys b0 nL N0 ad0 (pc + 3, L, S, T, cs, sl)) : en_go p l e R s m args below meth c Q D tys b0 nL N0 ad0 (pc, L, .inr (j + 2) :: S, T, cs, sl) := by
  intro H locs ls stk ad h
  dsimp only at h
  obtain ⟨hl, hn0, hs, hr⟩ := h
  obtain ⟨x, ys, rfl, hx, hs1⟩ := en_vs_cons hs
  obtain ⟨rfl, hj⟩ : x = .ref (ad j) ∧ j < T.length := hx
  have h1 : Cond.methodLink (en_nm o) i objectInit ∈ en_ws := en_ws_in (en_oi_in _ (List.mem_map.mpr ⟨(o, i), hf, rfl⟩)) rfl
  have h2 : Cond.instanceMethod objectInit ∈ en_ws := en_ws_in (en_oi_c _ List.mem_cons_self) rfl
  have h3 : Cond.code objectInit ⟨#[0xb1]⟩ 1 none ∈ en_ws := en_ws_in (en_oi_c _ (List.mem_cons_of_mem _ List.mem_cons_self)) rfl
  refine W.objInit C.1 C.2.1 C.2.2.2.1 (C.2.2.2.2.1 _ h1) (C.2.2.2.2.1 _ h2) (C.2.2.2.2.1 _ h3) (g := F0 m pc ls (.ref (ad j) :: ys)) rfl (hl.1.trans C.2.2.1.symm) rfl hd hfr ?_ ?_
  · rw [en_vs_cat hs1]
    show 2 * 0 + _ + 12 ≤ _
    omega
  · exact k H locs ls ys ad ⟨hl, hn0, hs1, hr⟩
def en_acb (t0 t1 : Nat × Nat × Int × Int) (n : Nat) : Int × Int := match n == t1.2.1 with
  | true => t0.2.2
  | false => en_hull t1.2.2 t0.2.2
theorem es_copy (C : en_cx p s m args meth c cc nL o D tys aK aV b0) {i j0 j1 n : Nat} {t0 t1 : Nat × Nat × Int × Int} (hf : (o, i) ∈ en_ac) (ht0 : T[j0]? = some (.inl t0)) (ht1 : T[j1]? = some (.inl t1)) (hy0 : t0.1 = 0) (hy1 : t1.1 = 0) (hn0 : n ≤ t0.2.1) (hn1 : n ≤ t1.2.1) (hn : n < 2147483648)
    (hfr : 1 ≤ R.frames) (hlo : S.length + (nativeFrameWords "java/lang/System" "arraycopy" 5 + 11) ≤ R.locals) (hd : decode cc pc = .ok (.invokestatic i, 3)) (k : en_go p l e R s m args below meth c Q D tys b0 nL N0 ad0 (pc + 3, L, S, T.set j1 (.inl (0, t1.2.1, en_acb t0 t1 n)), cs, sl)) :
    en_go p l e R s m args below meth c Q D tys b0 nL N0 ad0 (pc, L, .inl ((n : Int), (n : Int)) :: .inl (0, 0) :: .inr (j1 + 2) :: .inl (0, 0) :: .inr (j0 + 2) :: S, T, cs, sl) := by
  intro H locs ls stk ad h
  dsimp only at h
  obtain ⟨hl, hn9, hs, hW, hS, hr⟩ := h
  obtain ⟨x1, u1, rfl, ⟨nn, rfl, hnn⟩, hs1⟩ := en_vs_cons hs
  obtain ⟨x2, u2, rfl, ⟨dp, rfl, hdp⟩, hs2⟩ := en_vs_cons hs1
  obtain ⟨x3, u3, rfl, hx3, hs3⟩ := en_vs_cons hs2
  obtain ⟨rfl, hj1⟩ : x3 = .ref (ad j1) ∧ j1 < T.length := hx3
  obtain ⟨x4, u4, rfl, ⟨sp, rfl, hsp⟩, hs4⟩ := en_vs_cons hs3
  obtain ⟨x5, u5, rfl, hx5, hs5⟩ := en_vs_cons hs4
  obtain ⟨rfl, hj0⟩ : x5 = .ref (ad j0) ∧ j0 < T.length := hx5
  obtain ⟨ws, w1, w2, w3, w4⟩ := hW
  obtain ⟨e0, g1, ge⟩ := w2 j0 _ ht0
  obtain ⟨cA, f, rfl, g2, g3⟩ := ec_get (by rw [hy0]; decide) ge
  obtain ⟨e1, q1, qe⟩ := w2 j1 _ ht1
  obtain ⟨cB, g, rfl, q2, q3⟩ := ec_get (by rw [hy1]; decide) qe
  dsimp only at hnn hdp hsp
  have z1 : sp.toInt = 0 := by omega
  have z2 : dp.toInt = 0 := by omega
  have z3 : nn.toInt = (n : Int) := by omega
  have c1 : sp.toNatClampNeg = 0 := by show sp.toInt.toNat = 0; omega
  have c2 : dp.toNatClampNeg = 0 := by show dp.toInt.toNat = 0; omega
  have c3 : nn.toNatClampNeg = n := by show nn.toInt.toNat = n; omega
  have hw : ∀ w ∈ ([.native arraycopyName, .static arraycopyName, .initialized "java/lang/System"] : List Cond), w ∈ en_ws := fun w hw => en_ws_in (en_ac_c w hw) (by
    rcases List.mem_cons.mp hw with rfl | hw
    · rfl
    · rcases List.mem_cons.mp hw with rfl | hw
      · rfl
      · rw [List.mem_singleton.mp hw]; rfl)
  have hT : (T.set j1 (.inl (0, t1.2.1, en_acb t0 t1 n))).length = T.length := List.length_set
  refine va_copyi C.1 C.2.1 (C.2.2.1.trans hl.1.symm) C.2.2.2.1 (C.2.2.2.2.1 _ (en_ws_in (en_ac_in _ (List.mem_map.mpr ⟨(o, i), hf, rfl⟩)) rfl)) (C.2.2.2.2.1 _ (hw _ List.mem_cons_self)) (C.2.2.2.2.1 _ (hw _ (List.mem_cons_of_mem _ List.mem_cons_self))) (C.2.2.2.2.1 _ (hw _ (List.mem_cons_of_mem _ (List.mem_cons_of_mem _ List.mem_cons_self)))) C.2.2.2.2.2.1 w3 w4 hS j0 j1 t0.1 t1.1 g1 q1 (ty := .int) (by rw [g2, hy0]; rfl) (by rw [q2, hy1]; rfl) rfl
    (by rw [fa_lt]; show ¬ sp.toInt < 0; omega) (by rw [fa_lt]; show ¬ dp.toInt < 0; omega) (by rw [fa_lt]; show ¬ nn.toInt < 0; omega) (by omega) (by omega) (fun _ _ => rfl) hfr (by rw [en_vs_cat hs5]; exact hlo) hd (fun H1 locs1 hP hD hS1 => ?_)
  refine k H1 locs1 ls u5 ad ⟨by dsimp only; rw [hT]; exact hl, hn9, by dsimp only; rw [hT]; exact hs5, eg_W.put w1 w2 hP hD (ec_arr (show (0 : Nat) ≠ 3 by decide) ⟨cB, _, rfl, by rw [hy1] at q2; exact q2, fun j hj => ?_⟩), hS1, by dsimp only; rw [hT]; exact hr⟩
  show en_in (en_acb t0 t1 n) _
  rw [c1, c2, c3]
  have hj : j < t1.2.1 := hj
  unfold en_acb
  by_cases hjn : j < n
  · rw [pk_cpy_in (Nat.zero_le _) (by omega)]
    have := g3 (0 + (j - 0)) (by omega)
    split
    · exact this
    · exact en_hull_r this
  · rw [pk_cpy_out (Or.inr (by omega))]
    split
    · rename_i hb
      simp only [beq_iff_eq] at hb
      omega
    · exact en_hull_l (q3 j hj)
end ENH
