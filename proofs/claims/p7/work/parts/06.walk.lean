def ev_cx (p : Program) (s : State) (m : MethodId) (args : Array Value) (meth : Method) (c : Code) (cc : ByteArray) (nL o : Nat) (D : va_G) (tys : List (ClassId × FieldType)) (aK aV b0 : Nat) : Prop :=
  p.tables.exec = Jvm.exec ∧ c.code = cc ∧ c.maxLocals = nL ∧ s.vm.findClass (en_nm o) = some m.cls ∧ (∀ w ∈ en_ws, w.before args s = true) ∧ va_K D vwCl tys s ∧ b0 ≤ s.heap.size ∧ en_X b0 aK aV s ∧ meth.locks = false
def ev_wd (s : State) (D : va_G) (tys : List (ClassId × FieldType)) (T : en_T) (I : va_W → Prop) (b0 : Nat) (ad : Nat → Nat) (w0 : va_W) (Wr : List (Nat × Nat)) (H : Heap) (locs : List Loc) (ws : va_W) : Prop :=
  ev_w tys T ad ws ∧ I ws ∧ va_P D vwCl ws H ∧ va_D (fun q => b0 ≤ q) ws ∧ va_S (fun q => b0 ≤ q) s.heap H locs ∧ ev_fr Wr w0 ws
def ev_lo (N : Nat) (ad : Nat → Nat) (γ : Nat → Int) (L : List ev_l) (ls : Array Slot) : Prop := ∀ (i : Nat) (q : en_V × Option (Nat × Int)), L[i]? = some (some q) → ∃ x : Value, ls[i]? = some (.val x) ∧ en_v N ad q.1 x ∧ ev_gt γ q.2 x
def ev_at (s : State) (D : va_G) (tys : List (ClassId × FieldType)) (T : en_T) (I : va_W → Prop) (b0 nL : Nat) (ad : Nat → Nat) (w0 : va_W) (Wr : List (Nat × Nat)) (γ : Nat → Int) (L : List ev_l) (S : List ev_s) (FS : List ev_f) (RS : List ev_r) (H : Heap) (locs : List Loc) (ls : Array Slot) (stk : List Value) (ws : va_W) : Prop :=
  (ls.size = nL ∧ lv_wf ls ∧ L.length = nL) ∧ ev_lo T.length ad γ L ls ∧ ev_stk T.length ad ls ws S stk ∧ (∀ f ∈ FS, ev_fact γ ls ws f) ∧ (∀ r ∈ RS, ev_rel ls r) ∧ ev_wd s D tys T I b0 ad w0 Wr H locs ws
def ev_go (p : Program) (l : Launch) (e : Env) (R : Room) (s : State) (m : MethodId) (args : Array Value) (below : List Frame) (meth : Method) (c : Code) (Q : State → Prop) (D : va_G) (tys : List (ClassId × FieldType)) (T : en_T) (I : va_W → Prop) (b0 nL : Nat) (ad : Nat → Nat) (w0 : va_W) (Wr : List (Nat × Nat)) (γ : Nat → Int) (st : ev_S) : Prop :=
  ∀ (H : Heap) (locs : List Loc) (ls : Array Slot) (stk : List Value) (ws : va_W), ev_at s D tys T I b0 nL ad w0 Wr γ st.2.1 st.2.2.1 st.2.2.2.1 st.2.2.2.2 H locs ls stk ws → W p l e R s m args below meth c H locs 0 0 Q (F0 m st.1 ls stk)
theorem ev_stk_cons {N : Nat} {ad : Nat → Nat} {ls : Array Slot} {ws : va_W} {a : ev_s} {as : List ev_s} {xs : List Value} (h : ev_stk N ad ls ws (a :: as) xs) : ∃ x ys, xs = x :: ys ∧ en_v N ad a.1 x ∧ ev_tag ls ws a.2 x ∧ ev_stk N ad ls ws as ys := by
  cases xs with
  | nil => exact h.elim
  | cons x ys => exact ⟨x, ys, rfl, h.1.1, h.1.2, h.2⟩
theorem ev_stk_len {N : Nat} {ad : Nat → Nat} {ls : Array Slot} {ws : va_W} : ∀ {as : List ev_s} {xs : List Value}, ev_stk N ad ls ws as xs → (xs.map fun v => v.category).sum = as.length
  | [], [], _ => rfl
  | _ :: _, _ :: _, h => by rw [List.map_cons, List.sum_cons, ev_stk_len h.2, en_v_cat h.1.1, List.length_cons, Nat.add_comm]
  | [], _ :: _, h => h.elim
  | _ :: _, [], h => h.elim
theorem ev_tag0 {ls : Array Slot} {ws : va_W} {x : Value} : ev_tag ls ws ev_nt x := Or.inl rfl
/-- a local is written: what speaks of it goes -/
def ev_on (i : Nat) (q : Nat × Nat × Nat) : Bool := (q.1 == 1 && q.2.1 == i) || (q.1 == 3 && q.2.2 == i)
def ev_kt (i : Nat) (a : ev_s) : ev_s := match ev_on i (a.2.1, a.2.2.1, a.2.2.2.1) with
  | true => (a.1, ev_nt)
  | false => a
def ev_kf (i : Nat) (FS : List ev_f) : List ev_f := FS.filter (fun f => !ev_on i f.1)
def ev_kr (i : Nat) (RS : List ev_r) : List ev_r := RS.filter (fun r => !(r.1 == i) && !(r.2.1 == i))
def ev_sr (i : Nat) (n : Int) (RS : List ev_r) : List ev_r := RS.map (fun r => (r.1, r.2.1, r.2.2 + (if r.1 = i then n else 0) - (if r.2.1 = i then n else 0)))
theorem ev_loc_set {ls ls' : Array Slot} {ws : va_W} {i : Nat} (hk : ∀ (j : Nat) (v : Value), j ≠ i → ls[j]? = some (.val v) → v.category = 1 → ls'[j]? = some (.val v)) {q : Nat × Nat × Nat} (hq : ev_on i q = false) {x : Int32} (h : ev_loc ls ws q x) : ev_loc ls' ws q x := by
  obtain ⟨k, a, b⟩ := q
  match k, hq, h with
  | 1, hq, h =>
    have ha : a ≠ i := fun e => by subst e; simp [ev_on] at hq
    exact hk a _ ha h rfl
  | 2, _, h => exact h
  | 3, hq, ⟨a0, cA, n, f, y, h1, h2, h3⟩ =>
    have hb : b ≠ i := fun e => by subst e; simp [ev_on] at hq
    exact ⟨a0, cA, n, f, y, h1, hk b _ hb h2 rfl, h3⟩
theorem ev_kt_ok {N : Nat} {ad : Nat → Nat} {ls ls' : Array Slot} {ws : va_W} {i : Nat} (hk : ∀ (j : Nat) (v : Value), j ≠ i → ls[j]? = some (.val v) → v.category = 1 → ls'[j]? = some (.val v)) : ∀ {as : List ev_s} {xs : List Value}, ev_stk N ad ls ws as xs → ev_stk N ad ls' ws (as.map (ev_kt i)) xs
  | [], [], _ => trivial
  | a :: as, x :: xs, h => by
    refine ⟨?_, ev_kt_ok hk h.2⟩
    unfold ev_kt
    split
    · exact ⟨h.1.1, ev_tag0⟩
    · rename_i hq
      refine ⟨h.1.1, ?_⟩
      rcases h.1.2 with h0 | ⟨u, y, e1, e2, e3⟩
      · exact Or.inl h0
      · exact Or.inr ⟨u, y, e1, ev_loc_set hk hq e2, e3⟩
  | [], _ :: _, h => h.elim
  | _ :: _, [], h => h.elim
theorem ev_kf_ok {γ : Nat → Int} {ls ls' : Array Slot} {ws : va_W} {i : Nat} (hk : ∀ (j : Nat) (v : Value), j ≠ i → ls[j]? = some (.val v) → v.category = 1 → ls'[j]? = some (.val v)) {FS : List ev_f} (h : ∀ f ∈ FS, ev_fact γ ls ws f) : ∀ f ∈ ev_kf i FS, ev_fact γ ls' ws f := by
  intro f hf
  obtain ⟨h1, h2⟩ := List.mem_filter.mp hf
  obtain ⟨x, h3, h4⟩ := h f h1
  exact ⟨x, ev_loc_set hk (by simpa using h2) h3, h4⟩
theorem ev_kr_ok {ls ls' : Array Slot} {i : Nat} (hk : ∀ (j : Nat) (v : Value), j ≠ i → ls[j]? = some (.val v) → v.category = 1 → ls'[j]? = some (.val v)) {RS : List ev_r} (h : ∀ r ∈ RS, ev_rel ls r) : ∀ r ∈ ev_kr i RS, ev_rel ls' r := by
  intro r hr
  obtain ⟨h1, h2⟩ := List.mem_filter.mp hr
  simp only [Bool.and_eq_true, Bool.not_eq_true', beq_eq_false_iff_ne, ne_eq] at h2
  obtain ⟨x, y, h3, h4, h5⟩ := h r h1
  exact ⟨x, y, hk _ _ h2.1 h3 rfl, hk _ _ h2.2 h4 rfl, h5⟩
theorem ev_sr_ok {ls ls' : Array Slot} {i : Nat} {n : Int} {x0 x1 : Int32} (hk : ∀ (j : Nat) (v : Value), j ≠ i → ls[j]? = some (.val v) → v.category = 1 → ls'[j]? = some (.val v)) (h0 : ls[i]? = some (.val (.int x0))) (h1 : ls'[i]? = some (.val (.int x1))) (hn : x1.toInt = x0.toInt + n) {RS : List ev_r} (h : ∀ r ∈ RS, ev_rel ls r) : ∀ r ∈ ev_sr i n RS, ev_rel ls' r := by
  intro r hr
  obtain ⟨q, hq, rfl⟩ := List.mem_map.mp hr
  obtain ⟨x, y, h3, h4, h5⟩ := h q hq
  by_cases ha : q.1 = i <;> by_cases hb : q.2.1 = i
  · rw [ha] at h3
    rw [hb] at h4
    have e1 : x = x0 := Value.int.inj (Slot.val.inj (Option.some.inj (h3.symm.trans h0)))
    have e2 : y = x0 := Value.int.inj (Slot.val.inj (Option.some.inj (h4.symm.trans h0)))
    subst e1
    subst e2
    exact ⟨x1, x1, by dsimp only; rw [ha]; exact h1, by dsimp only; rw [hb]; exact h1, by dsimp only; rw [if_pos ha, if_pos hb]; omega⟩
  · rw [ha] at h3
    have e1 : x = x0 := Value.int.inj (Slot.val.inj (Option.some.inj (h3.symm.trans h0)))
    subst e1
    exact ⟨x1, y, by dsimp only; rw [ha]; exact h1, hk _ _ hb h4 rfl, by dsimp only; rw [if_pos ha, if_neg hb]; omega⟩
  · rw [hb] at h4
    have e2 : y = x0 := Value.int.inj (Slot.val.inj (Option.some.inj (h4.symm.trans h0)))
    subst e2
    exact ⟨x, x1, hk _ _ ha h3 rfl, by dsimp only; rw [hb]; exact h1, by dsimp only; rw [if_neg ha, if_pos hb]; omega⟩
  · exact ⟨x, y, hk _ _ ha h3 rfl, hk _ _ hb h4 rfl, by dsimp only; rw [if_neg ha, if_neg hb]; omega⟩
theorem ev_lo_set {N : Nat} {ad : Nat → Nat} {γ : Nat → Int} {L : List ev_l} {ls ls' : Array Slot} {i : Nat} {a : en_V} {g : Option (Nat × Int)} {x : Value} (hk : ∀ (j : Nat) (v : Value), j ≠ i → ls[j]? = some (.val v) → v.category = 1 → ls'[j]? = some (.val v)) (hi : ls'[i]? = some (.val x)) (hx : en_v N ad a x) (hg : ev_gt γ g x) (h : ev_lo N ad γ L ls) : ev_lo N ad γ (L.set i (some (a, g))) ls' := by
  intro j q hj
  by_cases hji : j = i
  · subst hji
    by_cases hl : j < L.length
    · rw [List.getElem?_set_self hl] at hj
      cases hj
      exact ⟨x, hi, hx, hg⟩
    · rw [List.getElem?_eq_none (by rw [List.length_set]; omega)] at hj
      cases hj
  · rw [List.getElem?_set_ne (Ne.symm hji)] at hj
    obtain ⟨y, h1, h2, h3⟩ := h j q hj
    exact ⟨y, hk j y hji h1 (en_v_cat h2), h2, h3⟩
theorem ev_keep {ls ls' : Array Slot} {nL i : Nat} {x : Value} (h' : lv_has ls' nL ((i, x) :: (en_lv ls).filter (fun q => !(q.1 == i) && !(q.1 + 1 == i && q.2.category == 2)))) : ls'[i]? = some (.val x) ∧ ∀ (j : Nat) (v : Value), j ≠ i → ls[j]? = some (.val v) → v.category = 1 → ls'[j]? = some (.val v) :=
  ⟨h'.2.2 (i, x) List.mem_cons_self, fun j v hj hv hc => h'.2.2 (j, v) (List.mem_cons_of_mem _ (List.mem_filter.mpr ⟨en_lv_mem.mpr hv, by simp [hj, hc]⟩))⟩
def ev_gs (g : Option (Nat × Int)) (n : Int) : Option (Nat × Int) := g.map (fun q => (q.1, q.2 + n))
theorem ev_gs_ok {γ : Nat → Int} {g : Option (Nat × Int)} {x y : Int32} {n : Int} (h : ev_gt γ g (.int x)) (hn : y.toInt = x.toInt + n) : ev_gt γ (ev_gs g n) (.int y) := by
  cases g with
  | none => trivial
  | some q =>
    obtain ⟨i, e, h⟩ := h
    cases e
    exact ⟨y, rfl, by show _ = γ q.1 + (q.2 + n); omega⟩
section EVI
variable {p : Program} {l : Launch} {e : Env} {R : Room} {s : State} {m : MethodId} {args : Array Value} {below : List Frame} {meth : Method} {c : Code} {Q : State → Prop} {cc : ByteArray} {D : va_G} {tys : List (ClassId × FieldType)} {T : en_T} {I : va_W → Prop} {aK aV b0 nL o : Nat} {ad : Nat → Nat} {w0 : va_W} {Wr : List (Nat × Nat)} {γ : Nat → Int}
variable {pc : Nat} {L : List ev_l} {S : List ev_s} {FS : List ev_f} {RS : List ev_r}
theorem fs_push {pc' : Nat} {v : Int32} {q : Int × Int} (hq : en_in q v) (row : ∀ (H : Heap) (locs : List Loc) (ls : Array Slot) (rest : List Value), W p l e R s m args below meth c H locs 0 0 Q (F0 m pc' ls (.int v :: rest)) → W p l e R s m args below meth c H locs 0 0 Q (F0 m pc ls rest))
    (k : ev_go p l e R s m args below meth c Q D tys T I b0 nL ad w0 Wr γ (pc', L, (.inl q, ev_nt) :: S, FS, RS)) : ev_go p l e R s m args below meth c Q D tys T I b0 nL ad w0 Wr γ (pc, L, S, FS, RS) := by
  intro H locs ls stk ws h
  dsimp only at h
  obtain ⟨h0, hl, hs, hr⟩ := h
  exact row H locs ls stk (k H locs ls (.int v :: stk) ws ⟨h0, hl, ⟨⟨⟨v, rfl, hq⟩, ev_tag0⟩, hs⟩, hr⟩)
theorem en_in_self (v : Int32) : en_in (v.toInt, v.toInt) v := ⟨Int.le_refl _, Int.le_refl _⟩
def ev_lq (L : List ev_l) (i : Nat) (q : Int × Int) : List ev_r → Int × Int
  | [] => q
  | r :: rs => match r.1 == i with
    | true => match L[r.2.1]? with
      | some (some (.inl u, _)) => ((ev_lq L i q rs).1, if u.2 + r.2.2 ≤ (ev_lq L i q rs).2 then u.2 + r.2.2 else (ev_lq L i q rs).2)
      | _ => ev_lq L i q rs
    | false => ev_lq L i q rs
theorem ev_lq_ok {ls : Array Slot} {i : Nat} {q : Int × Int} {x : Int32} (hl : ev_lo T.length ad γ L ls) (hi : ls[i]? = some (.val (.int x))) (hq : en_in q x) : ∀ {RS : List ev_r}, (∀ r ∈ RS, ev_rel ls r) → en_in (ev_lq L i q RS) x
  | [], _ => hq
  | r :: rs, h => by
    have ih := ev_lq_ok hl hi hq (fun r hr => h r (List.mem_cons_of_mem _ hr))
    unfold ev_lq
    split
    · rename_i hr
      simp only [beq_iff_eq] at hr
      split
      · rename_i u g hu
        obtain ⟨a, b, h1, h2, h3⟩ := h r List.mem_cons_self
        rw [hr, hi] at h1
        cases h1
        obtain ⟨y, g1, ⟨z, rfl, g2⟩, -⟩ := hl r.2.1 _ hu
        rw [h2] at g1
        cases g1
        refine ⟨ih.1, ?_⟩
        dsimp only
        split
        · have := g2.2
          omega
        · exact ih.2
      · exact ih
    · exact ih
theorem fs_iload {pc' i : Nat} {q : Int × Int} {g : Option (Nat × Int)} (hL : L[i]? = some (some (.inl q, g))) (row : ∀ (H : Heap) (locs : List Loc) (ls : Array Slot) (rest : List Value) (v : Int32), ls[i]? = some (.val (.int v)) → W p l e R s m args below meth c H locs 0 0 Q (F0 m pc' ls (.int v :: rest)) → W p l e R s m args below meth c H locs 0 0 Q (F0 m pc ls rest))
    (k : ev_go p l e R s m args below meth c Q D tys T I b0 nL ad w0 Wr γ (pc', L, (.inl (ev_lq L i q RS), (1, i, 0, 0)) :: S, FS, RS)) : ev_go p l e R s m args below meth c Q D tys T I b0 nL ad w0 Wr γ (pc, L, S, FS, RS) := by
  intro H locs ls stk ws h
  dsimp only at h
  obtain ⟨h0, hl, hs, hf, hR, hr⟩ := h
  obtain ⟨x, h1, ⟨v, rfl, hv⟩, hg⟩ := hl i _ hL
  exact row H locs ls stk v h1 (k H locs ls (.int v :: stk) ws ⟨h0, hl, ⟨⟨⟨v, rfl, ev_lq_ok hl h1 hv hR⟩, Or.inr ⟨v, v, rfl, h1, by dsimp only; omega⟩⟩, hs⟩, hf, hR, hr⟩)
theorem fs_aload {pc' i j : Nat} {g : Option (Nat × Int)} (hL : L[i]? = some (some (.inr (j + 2), g))) (row : ∀ (H : Heap) (locs : List Loc) (ls : Array Slot) (rest : List Value) (v : Nat), ls[i]? = some (.val (.ref v)) → W p l e R s m args below meth c H locs 0 0 Q (F0 m pc' ls (.ref v :: rest)) → W p l e R s m args below meth c H locs 0 0 Q (F0 m pc ls rest))
    (k : ev_go p l e R s m args below meth c Q D tys T I b0 nL ad w0 Wr γ (pc', L, (.inr (j + 2), ev_nt) :: S, FS, RS)) : ev_go p l e R s m args below meth c Q D tys T I b0 nL ad w0 Wr γ (pc, L, S, FS, RS) := by
  intro H locs ls stk ws h
  dsimp only at h
  obtain ⟨h0, hl, hs, hr⟩ := h
  obtain ⟨x, h1, h2, -⟩ := hl i _ hL
  obtain ⟨rfl, hv⟩ : x = .ref (ad j) ∧ j < T.length := h2
  exact row H locs ls stk (ad j) h1 (k H locs ls (.ref (ad j) :: stk) ws ⟨h0, hl, ⟨⟨⟨rfl, hv⟩, ev_tag0⟩, hs⟩, hr⟩)
/-- storing: a number of its own place, moved, keeps what is known of the place -/
def ev_self (i : Nat) (t : ev_t) : Bool := t.1 == 1 && t.2.1 == i
def ev_sg (L : List ev_l) (i : Nat) (t : ev_t) : Option (Nat × Int) := match ev_self i t with
  | true => match L[i]? with
    | some (some q) => ev_gs q.2 t.2.2.2
    | _ => none
  | false => none
def ev_sR (RS : List ev_r) (i : Nat) (t : ev_t) : List ev_r := match ev_self i t with
  | true => ev_sr i t.2.2.2 RS
  | false => ev_kr i RS
theorem fs_store {pc' i : Nat} {a : en_V} {t : ev_t} (hi : i < L.length) (row : ∀ (H : Heap) (locs : List Loc) (ls : Array Slot) (rest : List Value) (x : Value), en_v T.length ad a x → ls.size = nL → lv_wf ls → (∀ ls' : Array Slot, lv_has ls' nL ((i, x) :: (en_lv ls).filter (fun q => !(q.1 == i) && !(q.1 + 1 == i && q.2.category == 2))) → W p l e R s m args below meth c H locs 0 0 Q (F0 m pc' ls' rest)) → W p l e R s m args below meth c H locs 0 0 Q (F0 m pc ls (x :: rest)))
    (k : ev_go p l e R s m args below meth c Q D tys T I b0 nL ad w0 Wr γ (pc', L.set i (some (a, ev_sg L i t)), S.map (ev_kt i), ev_kf i FS, ev_sR RS i t)) : ev_go p l e R s m args below meth c Q D tys T I b0 nL ad w0 Wr γ (pc, L, (a, t) :: S, FS, RS) := by
  intro H locs ls stk ws h
  dsimp only at h
  obtain ⟨⟨z1, z2, z3⟩, hl, hs, hf, hR, hr⟩ := h
  obtain ⟨x, ys, rfl, hx, ht, hs1⟩ := ev_stk_cons hs
  dsimp only at hx ht
  refine row H locs ls ys x hx z1 z2 (fun ls' h' => ?_)
  obtain ⟨k1, k2⟩ := ev_keep h'
  have hself : ev_self i t = true → ∃ (u y : Int32), x = .int u ∧ ls[i]? = some (.val (.int y)) ∧ u.toInt = y.toInt + t.2.2.2 := by
    intro hb
    unfold ev_self at hb
    simp only [Bool.and_eq_true, beq_iff_eq] at hb
    rcases ht with h0 | ⟨u, y, e1, e2, e3⟩
    · rw [hb.1] at h0; cases h0
    · rw [hb.1, hb.2] at e2
      exact ⟨u, y, e1, e2, e3⟩
  refine k H locs ls' ys ws ⟨⟨h'.1, h'.2.1, by dsimp only; rw [List.length_set]; exact z3⟩, ev_lo_set k2 k1 hx ?_ hl, ev_kt_ok k2 hs1, ev_kf_ok k2 hf, ?_, hr⟩
  · unfold ev_sg
    split
    · rename_i hb
      obtain ⟨u, y, rfl, h1, h2⟩ := hself hb
      split
      · rename_i q hq
        obtain ⟨z, g1, g2, g3⟩ := hl i q hq
        rw [h1] at g1
        cases g1
        exact ev_gs_ok g3 h2
      · trivial
    · trivial
  · dsimp only
    unfold ev_sR
    split
    · rename_i hb
      obtain ⟨u, y, rfl, h1, h2⟩ := hself hb
      exact ev_sr_ok k2 h1 k1 h2 hR
    · exact ev_kr_ok k2 hR
def ev_ex (q : Int × Int) (n : Int) : Bool := decide (-2147483648 ≤ q.1 + n) && decide (q.2 + n ≤ 2147483647)
theorem ev_ex_ok {q : Int × Int} {n : Int32} {x : Int32} (h : ev_ex q n.toInt = true) (hx : en_in q x) : (x + n).toInt = x.toInt + n.toInt := by
  unfold ev_ex at h
  simp only [Bool.and_eq_true, decide_eq_true_eq] at h
  obtain ⟨h1, h2⟩ := hx
  exact fb_addI (by omega) (by omega)
theorem fs_iinc (C : ev_cx p s m args meth c cc nL o D tys aK aV b0) {i : Nat} {n : Int} {q : Int × Int} {g : Option (Nat × Int)} (hL : L[i]? = some (some (.inl q, g))) (hex : ev_ex (ev_lq L i q RS) (Int32.ofInt n).toInt = true) (hd : decode cc pc = .ok (.iinc i n, 3))
    (k : ev_go p l e R s m args below meth c Q D tys T I b0 nL ad w0 Wr γ (pc + 3, L.set i (some (.inl (en_add (ev_lq L i q RS) ((Int32.ofInt n).toInt, (Int32.ofInt n).toInt)), ev_gs g (Int32.ofInt n).toInt)), S.map (ev_kt i), ev_kf i FS, ev_sr i (Int32.ofInt n).toInt RS)) : ev_go p l e R s m args below meth c Q D tys T I b0 nL ad w0 Wr γ (pc, L, S, FS, RS) := by
  intro H locs ls stk ws h
  dsimp only at h
  obtain ⟨⟨z1, z2, z3⟩, hl, hs, hf, hR, hr⟩ := h
  obtain ⟨x, h1, ⟨v, rfl, hv⟩, hg⟩ := hl i _ hL
  obtain ⟨j, hj⟩ := List.getElem?_of_mem (en_lv_mem.mpr h1)
  have hi : i < L.length := (List.getElem?_eq_some_iff.mp hL).1
  have hv2 := ev_lq_ok hl h1 hv hR
  refine lv_iinc C.1 C.2.1 hd (en_lv_has z1 z2) hj rfl (by omega) rfl (fun ls' h' => ?_)
  obtain ⟨k1, k2⟩ := ev_keep h'
  have he := ev_ex_ok hex hv2
  exact k H locs ls' stk ws ⟨⟨h'.1, h'.2.1, by dsimp only; rw [List.length_set]; exact z3⟩, ev_lo_set k2 k1 ⟨_, rfl, en_add_in hv2 (en_in_self _)⟩ (ev_gs_ok hg he) hl, ev_kt_ok k2 hs, ev_kf_ok k2 hf, ev_sr_ok k2 h1 k1 he hR, hr⟩
end EVI
