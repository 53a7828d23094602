def en_cx (p : Program) (s : State) (m : MethodId) (args : Array Value) (meth : Method) (c : Code) (cc : ByteArray) (nL o : Nat) (D : va_G) (tys : List (ClassId × FieldType)) (aK aV b0 : Nat) : Prop :=
  p.tables.exec = Jvm.exec ∧ c.code = cc ∧ c.maxLocals = nL ∧ s.vm.findClass (en_nm o) = some m.cls ∧ (∀ w ∈ en_ws, w.before args s = true) ∧ va_K D vwCl tys s ∧ en_tok tys ∧ b0 ≤ s.heap.size ∧ en_X b0 aK aV s ∧ meth.locks = false
def en_at (s : State) (D : va_G) (tys : List (ClassId × FieldType)) (b0 nL N0 : Nat) (ad0 : Nat → Nat) (L : en_L) (S : List en_V) (T : en_T) (H : Heap) (locs : List Loc) (ls : Array Slot) (stk : List Value) (ad : Nat → Nat) : Prop :=
  en_l T.length ad L nL ls ∧ L.length = nL ∧ en_vs T.length ad S stk ∧ eg_W D tys (fun q => b0 ≤ q) T ad H ∧ va_S (fun q => b0 ≤ q) s.heap H locs ∧ N0 ≤ T.length ∧ ∀ k, k < N0 → ad k = ad0 k
def en_go (p : Program) (l : Launch) (e : Env) (R : Room) (s : State) (m : MethodId) (args : Array Value) (below : List Frame) (meth : Method) (c : Code) (Q : State → Prop) (D : va_G) (tys : List (ClassId × FieldType)) (b0 nL N0 : Nat) (ad0 : Nat → Nat) (st : en_S) : Prop :=
  ∀ (H : Heap) (locs : List Loc) (ls : Array Slot) (stk : List Value) (ad : Nat → Nat), en_at s D tys b0 nL N0 ad0 st.2.1 st.2.2.1 st.2.2.2.1 H locs ls stk ad → W p l e R s m args below meth c H locs st.2.2.2.2.1 st.2.2.2.2.2 Q (F0 m st.1 ls stk)
theorem en_vs_cons {N : Nat} {ad : Nat → Nat} {a : en_V} {as : List en_V} {xs : List Value} (h : en_vs N ad (a :: as) xs) : ∃ x ys, xs = x :: ys ∧ en_v N ad a x ∧ en_vs N ad as ys := by
  cases xs with
  | nil => exact h.elim
  | cons x ys => exact ⟨x, ys, rfl, h.1, h.2⟩
section ENI
variable {p : Program} {l : Launch} {e : Env} {R : Room} {s : State} {m : MethodId} {args : Array Value} {below : List Frame} {meth : Method} {c : Code} {Q : State → Prop} {cc : ByteArray} {D : va_G} {tys : List (ClassId × FieldType)} {aK aV b0 nL o N0 : Nat} {ad0 : Nat → Nat}
variable {pc : Nat} {L : en_L} {S : List en_V} {T : en_T} {cs sl : Nat}
theorem es_push {pc' : Nat} {v : Int32} {q : Int × Int} (hq : en_in q v) (row : ∀ (H : Heap) (locs : List Loc) (ls : Array Slot) (rest : List Value), W p l e R s m args below meth c H locs cs sl Q (F0 m pc' ls (.int v :: rest)) → W p l e R s m args below meth c H locs cs sl Q (F0 m pc ls rest))
    (k : en_go p l e R s m args below meth c Q D tys b0 nL N0 ad0 (pc', L, .inl q :: S, T, cs, sl)) : en_go p l e R s m args below meth c Q D tys b0 nL N0 ad0 (pc, L, S, T, cs, sl) := by
  intro H locs ls stk ad h
  dsimp only at h
  obtain ⟨hl, hn, hs, hr⟩ := h
  exact row H locs ls stk (k H locs ls (.int v :: stk) ad ⟨hl, hn, ⟨⟨v, rfl, hq⟩, hs⟩, hr⟩)
theorem es_iconst (C : en_cx p s m args meth c cc nL o D tys aK aV b0) {n : Int} (hd : decode cc pc = .ok (.iconst n, 1)) (k : en_go p l e R s m args below meth c Q D tys b0 nL N0 ad0 (pc + 1, L, .inl ((Int32.ofInt n).toInt, (Int32.ofInt n).toInt) :: S, T, cs, sl)) : en_go p l e R s m args below meth c Q D tys b0 nL N0 ad0 (pc, L, S, T, cs, sl) :=
  es_push (en_in_self _) (fun H locs ls rest k => lv_iconst C.1 C.2.1 hd rfl k) k
theorem es_bipush (C : en_cx p s m args meth c cc nL o D tys aK aV b0) {n : Int} (hd : decode cc pc = .ok (.bipush n, 2)) (k : en_go p l e R s m args below meth c Q D tys b0 nL N0 ad0 (pc + 2, L, .inl ((Int8.ofInt n).toInt32.toInt, (Int8.ofInt n).toInt32.toInt) :: S, T, cs, sl)) : en_go p l e R s m args below meth c Q D tys b0 nL N0 ad0 (pc, L, S, T, cs, sl) :=
  es_push (en_in_self _) (fun H locs ls rest k => lv_bipush C.1 C.2.1 hd rfl k) k
theorem es_sipush (C : en_cx p s m args meth c cc nL o D tys aK aV b0) {n : Int} (hd : decode cc pc = .ok (.sipush n, 3)) (k : en_go p l e R s m args below meth c Q D tys b0 nL N0 ad0 (pc + 3, L, .inl ((Int16.ofInt n).toInt32.toInt, (Int16.ofInt n).toInt32.toInt) :: S, T, cs, sl)) : en_go p l e R s m args below meth c Q D tys b0 nL N0 ad0 (pc, L, S, T, cs, sl) :=
  es_push (en_in_self _) (fun H locs ls rest k => lv_sipush C.1 C.2.1 hd rfl k) k
theorem es_ldc (C : en_cx p s m args meth c cc nL o D tys aK aV b0) {i : Nat} {v : Int} (hf : en_find o i en_kc = some v) (hd : decode cc pc = .ok (.ldc i, 2)) (k : en_go p l e R s m args below meth c Q D tys b0 nL N0 ad0 (pc + 2, L, .inl ((Int32.ofInt v).toInt, (Int32.ofInt v).toInt) :: S, T, cs, sl)) : en_go p l e R s m args below meth c Q D tys b0 nL N0 ad0 (pc, L, S, T, cs, sl) := by
  have hw : Cond.constant (en_nm o) i (Int32.ofInt v) ∈ en_ws := en_ws_in (en_kc_in _ (List.mem_map.mpr ⟨(o, i, v), en_find_mem hf, rfl⟩)) rfl
  exact es_push (en_in_self _) (fun H locs ls rest k => lv_ldc C.1 C.2.1 C.2.2.2.1 (C.2.2.2.2.1 _ hw) hd k) k
theorem es_ldcw (C : en_cx p s m args meth c cc nL o D tys aK aV b0) {i : Nat} {v : Int} (hf : en_find o i en_kc = some v) (hd : decode cc pc = .ok (.ldc_w i, 3)) (k : en_go p l e R s m args below meth c Q D tys b0 nL N0 ad0 (pc + 3, L, .inl ((Int32.ofInt v).toInt, (Int32.ofInt v).toInt) :: S, T, cs, sl)) : en_go p l e R s m args below meth c Q D tys b0 nL N0 ad0 (pc, L, S, T, cs, sl) := by
  have hw : Cond.constant (en_nm o) i (Int32.ofInt v) ∈ en_ws := en_ws_in (en_kc_in _ (List.mem_map.mpr ⟨(o, i, v), en_find_mem hf, rfl⟩)) rfl
  exact es_push (en_in_self _) (fun H locs ls rest k => lv_ldcw C.1 C.2.1 C.2.2.2.1 (C.2.2.2.2.1 _ hw) hd k) k
theorem es_load {pc' i : Nat} {q : Int × Int} (hL : L[i]? = some (some (.inl q))) (row : ∀ (H : Heap) (locs : List Loc) (ls : Array Slot) (rest : List Value) (v : Int32), ls[i]? = some (.val (.int v)) → W p l e R s m args below meth c H locs cs sl Q (F0 m pc' ls (.int v :: rest)) → W p l e R s m args below meth c H locs cs sl Q (F0 m pc ls rest))
    (k : en_go p l e R s m args below meth c Q D tys b0 nL N0 ad0 (pc', L, .inl q :: S, T, cs, sl)) : en_go p l e R s m args below meth c Q D tys b0 nL N0 ad0 (pc, L, S, T, cs, sl) := by
  intro H locs ls stk ad h
  dsimp only at h
  obtain ⟨hl, hn, hs, hr⟩ := h
  obtain ⟨x, h1, v, rfl, hv⟩ := hl.2.2 i _ hL
  exact row H locs ls stk v h1 (k H locs ls (.int v :: stk) ad ⟨hl, hn, ⟨⟨v, rfl, hv⟩, hs⟩, hr⟩)
theorem es_iload_n (C : en_cx p s m args meth c cc nL o D tys aK aV b0) {i : Fin 4} {q : Int × Int} (hL : L[(i : Nat)]? = some (some (.inl q))) (hd : decode cc pc = .ok (.iload_n i, 1)) (k : en_go p l e R s m args below meth c Q D tys b0 nL N0 ad0 (pc + 1, L, .inl q :: S, T, cs, sl)) : en_go p l e R s m args below meth c Q D tys b0 nL N0 ad0 (pc, L, S, T, cs, sl) :=
  es_load hL (fun H locs ls rest v h k => lv_iload_n C.1 C.2.1 hd rfl h k) k
theorem es_iload (C : en_cx p s m args meth c cc nL o D tys aK aV b0) {i : Nat} {q : Int × Int} (hL : L[i]? = some (some (.inl q))) (hd : decode cc pc = .ok (.iload i, 2)) (k : en_go p l e R s m args below meth c Q D tys b0 nL N0 ad0 (pc + 2, L, .inl q :: S, T, cs, sl)) : en_go p l e R s m args below meth c Q D tys b0 nL N0 ad0 (pc, L, S, T, cs, sl) :=
  es_load hL (fun H locs ls rest v h k => lv_iload C.1 C.2.1 hd h k) k
theorem es_loada {pc' i j : Nat} (hL : L[i]? = some (some (.inr (j + 2)))) (row : ∀ (H : Heap) (locs : List Loc) (ls : Array Slot) (rest : List Value) (v : Nat), ls[i]? = some (.val (.ref v)) → W p l e R s m args below meth c H locs cs sl Q (F0 m pc' ls (.ref v :: rest)) → W p l e R s m args below meth c H locs cs sl Q (F0 m pc ls rest))
    (k : en_go p l e R s m args below meth c Q D tys b0 nL N0 ad0 (pc', L, .inr (j + 2) :: S, T, cs, sl)) : en_go p l e R s m args below meth c Q D tys b0 nL N0 ad0 (pc, L, S, T, cs, sl) := by
  intro H locs ls stk ad h
  dsimp only at h
  obtain ⟨hl, hn, hs, hr⟩ := h
  obtain ⟨x, h1, h2⟩ := hl.2.2 i _ hL
  have h2 : x = .ref (ad j) ∧ j < T.length := h2
  obtain ⟨rfl, hv⟩ := h2
  exact row H locs ls stk (ad j) h1 (k H locs ls (.ref (ad j) :: stk) ad ⟨hl, hn, ⟨⟨rfl, hv⟩, hs⟩, hr⟩)
theorem es_aload_n (C : en_cx p s m args meth c cc nL o D tys aK aV b0) {i : Fin 4} {j : Nat} (hL : L[(i : Nat)]? = some (some (.inr (j + 2)))) (hd : decode cc pc = .ok (.aload_n i, 1)) (k : en_go p l e R s m args below meth c Q D tys b0 nL N0 ad0 (pc + 1, L, .inr (j + 2) :: S, T, cs, sl)) : en_go p l e R s m args below meth c Q D tys b0 nL N0 ad0 (pc, L, S, T, cs, sl) :=
  es_loada hL (fun H locs ls rest v h k => lv_aload_n C.1 C.2.1 hd rfl h k) k
theorem es_aload (C : en_cx p s m args meth c cc nL o D tys aK aV b0) {i j : Nat} (hL : L[i]? = some (some (.inr (j + 2)))) (hd : decode cc pc = .ok (.aload i, 2)) (k : en_go p l e R s m args below meth c Q D tys b0 nL N0 ad0 (pc + 2, L, .inr (j + 2) :: S, T, cs, sl)) : en_go p l e R s m args below meth c Q D tys b0 nL N0 ad0 (pc, L, S, T, cs, sl) :=
  es_loada hL (fun H locs ls rest v h k => lv_aload C.1 C.2.1 hd h k) k
theorem es_istore_n (C : en_cx p s m args meth c cc nL o D tys aK aV b0) {i : Fin 4} {q : Int × Int} (hi : (i : Nat) < L.length) (hd : decode cc pc = .ok (.istore_n i, 1)) (k : en_go p l e R s m args below meth c Q D tys b0 nL N0 ad0 (pc + 1, L.set i (some (.inl q)), S, T, cs, sl)) : en_go p l e R s m args below meth c Q D tys b0 nL N0 ad0 (pc, L, .inl q :: S, T, cs, sl) := by
  intro H locs ls stk ad h
  dsimp only at h
  obtain ⟨hl, hn, hs, hr⟩ := h
  obtain ⟨x, ys, rfl, ⟨v, rfl, hv⟩, hs1⟩ := en_vs_cons hs
  refine lv_istore_n C.1 C.2.1 hd rfl (en_lv_has hl.1 hl.2.1) (by omega) rfl (fun ls' hl' => ?_)
  exact k H locs ls' ys ad ⟨en_l_set hl ⟨v, rfl, hv⟩ hl', by rw [List.length_set]; exact hn, hs1, hr⟩
theorem es_istore (C : en_cx p s m args meth c cc nL o D tys aK aV b0) {i : Nat} {q : Int × Int} (hi : i < L.length) (hd : decode cc pc = .ok (.istore i, 2)) (k : en_go p l e R s m args below meth c Q D tys b0 nL N0 ad0 (pc + 2, L.set i (some (.inl q)), S, T, cs, sl)) : en_go p l e R s m args below meth c Q D tys b0 nL N0 ad0 (pc, L, .inl q :: S, T, cs, sl) := by
  intro H locs ls stk ad h
  dsimp only at h
  obtain ⟨hl, hn, hs, hr⟩ := h
  obtain ⟨x, ys, rfl, ⟨v, rfl, hv⟩, hs1⟩ := en_vs_cons hs
  refine lv_istore C.1 C.2.1 hd (en_lv_has hl.1 hl.2.1) (by omega) rfl (fun ls' hl' => ?_)
  exact k H locs ls' ys ad ⟨en_l_set hl ⟨v, rfl, hv⟩ hl', by rw [List.length_set]; exact hn, hs1, hr⟩
theorem es_astore_n (C : en_cx p s m args meth c cc nL o D tys aK aV b0) {i : Fin 4} {j : Nat} (hi : (i : Nat) < L.length) (hd : decode cc pc = .ok (.astore_n i, 1)) (k : en_go p l e R s m args below meth c Q D tys b0 nL N0 ad0 (pc + 1, L.set i (some (.inr (j + 2))), S, T, cs, sl)) : en_go p l e R s m args below meth c Q D tys b0 nL N0 ad0 (pc, L, .inr (j + 2) :: S, T, cs, sl) := by
  intro H locs ls stk ad h
  dsimp only at h
  obtain ⟨hl, hn, hs, hr⟩ := h
  obtain ⟨x, ys, rfl, hv, hs1⟩ := en_vs_cons hs
  obtain ⟨rfl, hv2⟩ : x = .ref (ad j) ∧ j < T.length := hv
  refine lv_astore_n C.1 C.2.1 hd rfl (en_lv_has hl.1 hl.2.1) (by omega) rfl (fun ls' hl' => ?_)
  exact k H locs ls' ys ad ⟨en_l_set hl (a := .inr (j + 2)) ⟨rfl, hv2⟩ hl', by rw [List.length_set]; exact hn, hs1, hr⟩
theorem es_astore (C : en_cx p s m args meth c cc nL o D tys aK aV b0) {i j : Nat} (hi : i < L.length) (hd : decode cc pc = .ok (.astore i, 2)) (k : en_go p l e R s m args below meth c Q D tys b0 nL N0 ad0 (pc + 2, L.set i (some (.inr (j + 2))), S, T, cs, sl)) : en_go p l e R s m args below meth c Q D tys b0 nL N0 ad0 (pc, L, .inr (j + 2) :: S, T, cs, sl) := by
  intro H locs ls stk ad h
  dsimp only at h
  obtain ⟨hl, hn, hs, hr⟩ := h
  obtain ⟨x, ys, rfl, hv, hs1⟩ := en_vs_cons hs
  obtain ⟨rfl, hv2⟩ : x = .ref (ad j) ∧ j < T.length := hv
  refine lv_astore C.1 C.2.1 hd (en_lv_has hl.1 hl.2.1) (by omega) rfl (fun ls' hl' => ?_)
  exact k H locs ls' ys ad ⟨en_l_set hl (a := .inr (j + 2)) ⟨rfl, hv2⟩ hl', by rw [List.length_set]; exact hn, hs1, hr⟩
theorem es_iinc (C : en_cx p s m args meth c cc nL o D tys aK aV b0) {i : Nat} {n : Int} {q : Int × Int} (hL : L[i]? = some (some (.inl q))) (hd : decode cc pc = .ok (.iinc i n, 3)) (k : en_go p l e R s m args below meth c Q D tys b0 nL N0 ad0 (pc + 3, L.set i (some (.inl (en_add q ((Int32.ofInt n).toInt, (Int32.ofInt n).toInt)))), S, T, cs, sl)) : en_go p l e R s m args below meth c Q D tys b0 nL N0 ad0 (pc, L, S, T, cs, sl) := by
  intro H locs ls stk ad h
  dsimp only at h
  obtain ⟨hl, hn, hs, hr⟩ := h
  obtain ⟨x, h1, v, rfl, hv⟩ := hl.2.2 i _ hL
  obtain ⟨j, hj⟩ := List.getElem?_of_mem (en_lv_mem.mpr h1)
  have hi : i < L.length := (List.getElem?_eq_some_iff.mp hL).1
  refine lv_iinc C.1 C.2.1 hd (en_lv_has hl.1 hl.2.1) hj rfl (by omega) rfl (fun ls' hl' => ?_)
  exact k H locs ls' stk ad ⟨en_l_set hl ⟨_, rfl, en_add_in hv (en_in_self _)⟩ hl', by rw [List.length_set]; exact hn, hs, hr⟩
theorem es_bin {pc' : Nat} (f : Int × Int → Int × Int → Int × Int) (g : Int32 → Int32 → Int32) (hfg : ∀ (q r : Int × Int) (x y : Int32), en_in q x → en_in r y → en_in (f q r) (g x y)) {q r : Int × Int}
    (row : ∀ (H : Heap) (locs : List Loc) (ls : Array Slot) (rest : List Value) (x y : Int32), W p l e R s m args below meth c H locs cs sl Q (F0 m pc' ls (.int (g x y) :: rest)) → W p l e R s m args below meth c H locs cs sl Q (F0 m pc ls (.int y :: .int x :: rest)))
    (k : en_go p l e R s m args below meth c Q D tys b0 nL N0 ad0 (pc', L, .inl (f q r) :: S, T, cs, sl)) : en_go p l e R s m args below meth c Q D tys b0 nL N0 ad0 (pc, L, .inl r :: .inl q :: S, T, cs, sl) := by
  intro H locs ls stk ad h
  dsimp only at h
  obtain ⟨hl, hn, hs, hr⟩ := h
  obtain ⟨y0, ys, rfl, ⟨y, rfl, hy⟩, hs1⟩ := en_vs_cons hs
  obtain ⟨x0, zs, rfl, ⟨x, rfl, hx⟩, hs2⟩ := en_vs_cons hs1
  exact row H locs ls zs x y (k H locs ls (.int (g x y) :: zs) ad ⟨hl, hn, ⟨⟨_, rfl, hfg q r x y hx hy⟩, hs2⟩, hr⟩)
theorem es_un {pc' : Nat} {q r : Int × Int} (g : Int32 → Int32) (hg : ∀ x, en_in q x → en_in r (g x))
    (row : ∀ (H : Heap) (locs : List Loc) (ls : Array Slot) (rest : List Value) (x : Int32), W p l e R s m args below meth c H locs cs sl Q (F0 m pc' ls (.int (g x) :: rest)) → W p l e R s m args below meth c H locs cs sl Q (F0 m pc ls (.int x :: rest)))
    (k : en_go p l e R s m args below meth c Q D tys b0 nL N0 ad0 (pc', L, .inl r :: S, T, cs, sl)) : en_go p l e R s m args below meth c Q D tys b0 nL N0 ad0 (pc, L, .inl q :: S, T, cs, sl) := by
  intro H locs ls stk ad h
  dsimp only at h
  obtain ⟨hl, hn, hs, hr⟩ := h
  obtain ⟨y0, ys, rfl, ⟨y, rfl, hy⟩, hs1⟩ := en_vs_cons hs
  exact row H locs ls ys y (k H locs ls (.int (g y) :: ys) ad ⟨hl, hn, ⟨⟨_, rfl, hg y hy⟩, hs1⟩, hr⟩)
theorem es_dup (C : en_cx p s m args meth c cc nL o D tys aK aV b0) {a : en_V} (hd : decode cc pc = .ok (.dup, 1)) (k : en_go p l e R s m args below meth c Q D tys b0 nL N0 ad0 (pc + 1, L, a :: a :: S, T, cs, sl)) : en_go p l e R s m args below meth c Q D tys b0 nL N0 ad0 (pc, L, a :: S, T, cs, sl) := by
  intro H locs ls stk ad h
  dsimp only at h
  obtain ⟨hl, hn, hs, hr⟩ := h
  obtain ⟨x, ys, rfl, hx, hs1⟩ := en_vs_cons hs
  exact lv_dup C.1 C.2.1 hd (en_v_cat hx) (k H locs ls (x :: x :: ys) ad ⟨hl, hn, ⟨hx, hx, hs1⟩, hr⟩)
theorem es_pop (C : en_cx p s m args meth c cc nL o D tys aK aV b0) {a : en_V} (hd : decode cc pc = .ok (.pop, 1)) (k : en_go p l e R s m args below meth c Q D tys b0 nL N0 ad0 (pc + 1, L, S, T, cs, sl)) : en_go p l e R s m args below meth c Q D tys b0 nL N0 ad0 (pc, L, a :: S, T, cs, sl) := by
  intro H locs ls stk ad h
  dsimp only at h
  obtain ⟨hl, hn, hs, hr⟩ := h
  obtain ⟨x, ys, rfl, hx, hs1⟩ := en_vs_cons hs
  exact lv_pop C.1 C.2.1 hd (en_v_cat hx) (k H locs ls ys ad ⟨hl, hn, hs1, hr⟩)
theorem es_goto (C : en_cx p s m args meth c cc nL o D tys aK aV b0) {off : Int} (ht : decide (0 ≤ (pc : Int) + off) = true) (hd : decode cc pc = .ok (.goto off, 3)) (k : en_go p l e R s m args below meth c Q D tys b0 nL N0 ad0 (((pc : Int) + off).toNat, L, S, T, cs, sl)) : en_go p l e R s m args below meth c Q D tys b0 nL N0 ad0 (pc, L, S, T, cs, sl) := by
  intro H locs ls stk ad h
  exact lv_goto C.1 C.2.1 hd (en_tgt ht) (k H locs ls stk ad h)
theorem es_icmp (C : en_cx p s m args meth c cc nL o D tys aK aV b0) {cd : Jvm.ClassFile.Cond} {off : Int} {q r : Int × Int} (ht : decide (0 ≤ (pc : Int) + off) = true) (hd : decode cc pc = .ok (.if_icmp cd off, 3))
    (k : ∀ st ∈ en_br (en_may cd q r) ((((pc : Int) + off).toNat, L, S, T, cs, sl) : en_S) (pc + 3, L, S, T, cs, sl), en_go p l e R s m args below meth c Q D tys b0 nL N0 ad0 st) : en_go p l e R s m args below meth c Q D tys b0 nL N0 ad0 (pc, L, .inl r :: .inl q :: S, T, cs, sl) := by
  intro H locs ls stk ad h
  dsimp only at h
  obtain ⟨hl, hn, hs, hr⟩ := h
  obtain ⟨y0, ys, rfl, ⟨y, rfl, hy⟩, hs1⟩ := en_vs_cons hs
  obtain ⟨x0, zs, rfl, ⟨x, rfl, hx⟩, hs2⟩ := en_vs_cons hs1
  have kt : (en_may cd q r).1 = true → W p l e R s m args below meth c H locs cs sl Q (F0 m ((pc : Int) + off).toNat ls zs) := fun h => k _ (en_br_t h) H locs ls zs ad ⟨hl, hn, hs2, hr⟩
  have kf : (en_may cd q r).2 = true → W p l e R s m args below meth c H locs cs sl Q (F0 m (pc + 3) ls zs) := fun h => k _ (en_br_f h) H locs ls zs ad ⟨hl, hn, hs2, hr⟩
  cases cd
  · refine lv_icmp_eq C.1 C.2.1 hd (en_tgt ht) (fun h => kt ?_) (fun h => kf ?_) <;> rw [fa_eq] at h <;> simp only [en_may, Bool.and_eq_true, Bool.not_eq_true', Bool.and_eq_false_iff, decide_eq_true_eq, decide_eq_false_iff_not] <;> omega
  · refine lv_icmp_ne C.1 C.2.1 hd (en_tgt ht) (fun h => kt ?_) (fun h => kf ?_) <;> rw [fa_eq] at h <;> simp only [en_may, Bool.and_eq_true, Bool.not_eq_true', Bool.and_eq_false_iff, decide_eq_true_eq, decide_eq_false_iff_not] <;> omega
  · refine lv_icmp_lt C.1 C.2.1 hd (en_tgt ht) (fun h => kt ?_) (fun h => kf ?_) <;> rw [fa_lt] at h <;> simp only [en_may, decide_eq_true_eq] <;> omega
  · refine lv_icmp_ge C.1 C.2.1 hd (en_tgt ht) (fun h => kt ?_) (fun h => kf ?_) <;> rw [fa_le] at h <;> simp only [en_may, decide_eq_true_eq] <;> omega
  · refine lv_icmp_gt C.1 C.2.1 hd (en_tgt ht) (fun h => kt ?_) (fun h => kf ?_) <;> rw [fa_lt] at h <;> simp only [en_may, decide_eq_true_eq] <;> omega
  · refine lv_icmp_le C.1 C.2.1 hd (en_tgt ht) (fun h => kt ?_) (fun h => kf ?_) <;> rw [fa_le] at h <;> simp only [en_may, decide_eq_true_eq] <;> omega
theorem es_if (C : en_cx p s m args meth c cc nL o D tys aK aV b0) {cd : Jvm.ClassFile.Cond} {off : Int} {q : Int × Int} (ht : decide (0 ≤ (pc : Int) + off) = true) (hd : decode cc pc = .ok (.ifCond cd off, 3))
    (k : ∀ st ∈ en_br (en_may cd q (0, 0)) ((((pc : Int) + off).toNat, L, S, T, cs, sl) : en_S) (pc + 3, L, S, T, cs, sl), en_go p l e R s m args below meth c Q D tys b0 nL N0 ad0 st) : en_go p l e R s m args below meth c Q D tys b0 nL N0 ad0 (pc, L, .inl q :: S, T, cs, sl) := by
  intro H locs ls stk ad h
  dsimp only at h
  obtain ⟨hl, hn, hs, hr⟩ := h
  obtain ⟨x0, zs, rfl, ⟨x, rfl, hx⟩, hs1⟩ := en_vs_cons hs
  have kt : (en_may cd q (0, 0)).1 = true → W p l e R s m args below meth c H locs cs sl Q (F0 m ((pc : Int) + off).toNat ls zs) := fun h => k _ (en_br_t h) H locs ls zs ad ⟨hl, hn, hs1, hr⟩
  have kf : (en_may cd q (0, 0)).2 = true → W p l e R s m args below meth c H locs cs sl Q (F0 m (pc + 3) ls zs) := fun h => k _ (en_br_f h) H locs ls zs ad ⟨hl, hn, hs1, hr⟩
  have z0 : (0 : Int32).toInt = 0 := rfl
  cases cd
  · refine lv_if_eq C.1 C.2.1 hd (en_tgt ht) (fun h => kt ?_) (fun h => kf ?_) <;> rw [fa_eq, z0] at h <;> simp only [en_may, Bool.and_eq_true, Bool.not_eq_true', Bool.and_eq_false_iff, decide_eq_true_eq, decide_eq_false_iff_not] <;> omega
  · refine lv_if_ne C.1 C.2.1 hd (en_tgt ht) (fun h => kt ?_) (fun h => kf ?_) <;> rw [fa_eq, z0] at h <;> simp only [en_may, Bool.and_eq_true, Bool.not_eq_true', Bool.and_eq_false_iff, decide_eq_true_eq, decide_eq_false_iff_not] <;> omega
  · refine lv_if_lt C.1 C.2.1 hd (en_tgt ht) (fun h => kt ?_) (fun h => kf ?_) <;> rw [fa_lt, z0] at h <;> simp only [en_may, decide_eq_true_eq] <;> omega
  · refine lv_if_ge C.1 C.2.1 hd (en_tgt ht) (fun h => kt ?_) (fun h => kf ?_) <;> rw [fa_le, z0] at h <;> simp only [en_may, decide_eq_true_eq] <;> omega
  · refine lv_if_gt C.1 C.2.1 hd (en_tgt ht) (fun h => kt ?_) (fun h => kf ?_) <;> rw [fa_lt, z0] at h <;> simp only [en_may, decide_eq_true_eq] <;> omega
  · refine lv_if_le C.1 C.2.1 hd (en_tgt ht) (fun h => kt ?_) (fun h => kf ?_) <;> rw [fa_le, z0] at h <;> simp only [en_may, decide_eq_true_eq] <;> omega
def en_tsw (pc : Nat) (d lo hi : Int) (offs : Array Int) (q : Int × Int) : Option Int := match decide (q.2 < lo) || decide (hi < q.1) with
  | true => some ((pc : Int) + d)
  | false => match decide (q.1 = q.2) && decide (lo ≤ q.1) && decide (q.1 ≤ hi) with
    | true => (offs[(q.1 - lo).toNat]?).map (fun off => (pc : Int) + off)
    | false => none
theorem es_tsw (C : en_cx p s m args meth c cc nL o D tys aK aV b0) {d lo hi : Int} {offs : Array Int} {len : Nat} {q : Int × Int} {t : Int} (hq : en_tsw pc d lo hi offs q = some t) (ht : decide (0 ≤ t) = true) (hd : decode cc pc = .ok (.tableswitch d lo hi offs, len))
    (k : en_go p l e R s m args below meth c Q D tys b0 nL N0 ad0 (t.toNat, L, S, T, cs, sl)) : en_go p l e R s m args below meth c Q D tys b0 nL N0 ad0 (pc, L, .inl q :: S, T, cs, sl) := by
  intro H locs ls stk ad h
  dsimp only at h
  obtain ⟨hl, hn, hs, hr⟩ := h
  obtain ⟨x0, zs, rfl, ⟨x, rfl, hx⟩, hs1⟩ := en_vs_cons hs
  have k := k H locs ls zs ad ⟨hl, hn, hs1, hr⟩
  simp only [decide_eq_true_eq] at ht
  unfold en_tsw at hq
  split at hq
  · rename_i hb
    simp only [Bool.or_eq_true, decide_eq_true_eq] at hb
    cases hq
    exact lv_tableOut C.1 C.2.1 hd (by omega) (by omega) k
  · split at hq
    · rename_i hb
      simp only [Bool.and_eq_true, decide_eq_true_eq] at hb
      have e : x.toInt = q.1 := by omega
      cases ho : offs[(q.1 - lo).toNat]? with
      | none => rw [ho] at hq; cases hq
      | some off =>
        rw [ho] at hq
        have hq2 : (pc : Int) + off = t := Option.some.inj hq
        exact lv_tableIn C.1 C.2.1 hd (by omega) (by omega) (off := off) (tgt := t.toNat) (by rw [e]; exact ho) (by omega) k
    · cases hq
end ENI
