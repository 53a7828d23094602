def en_ws : List Cond := lw_tbl.filter goodWord
theorem en_ws_in {w : Cond} (h : w ∈ lw_tbl) (hg : goodWord w = true) : w ∈ en_ws := List.mem_filter.mpr ⟨h, hg⟩
theorem en_ws_good (big : List Cond) (h : ∀ w ∈ en_ws, w ∈ big) : GoodIn big en_ws := fun w hw => ⟨h w hw, good_of_word (List.mem_filter.mp hw).2⟩
def en_X (b0 aK aV : Nat) (U : State) : Prop := (∀ w ∈ en_nest, va_Nw w U) ∧ vk_R "LoadsAhead$Law" 27 "ikcsnrw" aK U ∧ vk_S 1 [7] [[105, 107, 99, 115, 110, 114, 119]] (fun _ => aK) (fun _ => aV) (fun q => b0 ≤ q) U U.heap ∧ va_Z "java/lang/String" "COMPACT_STRINGS" "Z" (.int 1) (fun q => b0 ≤ q) U U.heap ∧ (Cond.arrayOver (.array .int)).before #[] U = true
theorem en_nest_w {w : Cond} (h : w ∈ en_nest) : ∃ (a : String) (i : Nat) (x : MethodName) (t : String), w = .methodLinkNest a i x t := by
  unfold en_nest at h
  obtain ⟨q, -, hq⟩ := List.mem_flatMap.mp h
  split at hq
  · rw [List.mem_singleton] at hq
    exact ⟨_, _, _, _, hq⟩
  · exact absurd hq List.not_mem_nil
theorem en_X.call {b0 aK aV : Nat} {U : State} {g : JFrame} {mk : MethodId} {a : Array Value} (h : en_X b0 aK aV U) : en_X b0 aK aV (U.calling g mk a) := by
  obtain ⟨h1, h2, h3, h4, h5⟩ := h
  refine ⟨fun w hw => ?_, vk_R.same rfl h2, ?_, ?_, over_moved (u := U) (Vm.Alike.refl U.vm) h5⟩
  · obtain ⟨a0, i, x, t, e⟩ := en_nest_w hw
    subst e
    exact va_Nw.same (u := U) rfl rfl (h1 _ hw)
  · exact vk_S.moved (u := U) (Vm.Alike.refl U.vm) h3
  · exact va_Z.moved (u := U) (Vm.Alike.refl U.vm) h4
theorem en_X.go {b0 b1 aK aV : Nat} {s U : State} {H : Heap} {locs : List Loc} (hb : b0 ≤ b1) (h : en_X b0 aK aV s) (hS : va_S (fun q => b0 ≤ q) s.heap H locs) (hU : U.heap = H) (hW : s.WarmedH U.vm) : en_X b1 aK aV U := by
  obtain ⟨h1, h2, h3, h4, h5⟩ := h
  refine ⟨fun w hw => ?_, vk_R.warm hW h2, ?_, ?_, over_moved hW.alike h5⟩
  · obtain ⟨a0, i, x, t, e⟩ := en_nest_w hw
    subst e
    exact va_Nw.warmM hW (h1 _ hw)
  · rw [hU]
    exact ((h3.kept hS.2.1).moved hW.alike).narrow (fun q hq => Nat.le_trans hb hq)
  · rw [hU]
    exact ((h4.kept hS.2.1).moved hW.alike).narrow (fun q hq => Nat.le_trans hb hq)
def en_g {α : Type} (b : Bool) (x : Option α) : Option α := match b with
  | true => x
  | false => none
theorem en_g_some {α : Type} {b : Bool} {x : Option α} {y : α} (h : en_g b x = some y) : b = true ∧ x = some y := by
  cases b
  · cases h
  · exact ⟨rfl, h⟩
def en_find {β : Type} (o i : Nat) : List (Nat × Nat × β) → Option β
  | [] => none
  | q :: r => match q.1 == o && q.2.1 == i with
    | true => some q.2.2
    | false => en_find o i r
theorem en_find_mem {β : Type} {o i : Nat} {b : β} : ∀ {t : List (Nat × Nat × β)}, en_find o i t = some b → (o, i, b) ∈ t
  | [], h => by cases h
  | q :: r, h => by
    unfold en_find at h
    split at h
    · rename_i hq
      simp only [Bool.and_eq_true, beq_iff_eq] at hq
      cases h
      obtain ⟨h1, h2⟩ := hq
      subst h1
      subst h2
      exact List.mem_cons_self
    · exact List.mem_cons_of_mem _ (en_find_mem h)
def en_full : Int × Int := (-2147483648, 2147483647)
def en_clip (a b : Int) : Int × Int := match decide (-2147483648 ≤ a) && decide (b ≤ 2147483647) with
  | true => (a, b)
  | false => en_full
def en_add (q r : Int × Int) : Int × Int := en_clip (q.1 + r.1) (q.2 + r.2)
def en_sub (q r : Int × Int) : Int × Int := en_clip (q.1 - r.2) (q.2 - r.1)
def en_mul (q r : Int × Int) : Int × Int := match decide (0 ≤ q.1) && decide (0 ≤ r.1) with
  | true => en_clip (q.1 * r.1) (q.2 * r.2)
  | false => en_full
def en_and (q r : Int × Int) : Int × Int := match decide (0 ≤ r.1) with
  | true => (0, r.2)
  | false => match decide (0 ≤ q.1) with
    | true => (0, q.2)
    | false => en_full
def en_in (q : Int × Int) (x : Int32) : Prop := q.1 ≤ x.toInt ∧ x.toInt ≤ q.2
theorem en_full_in (x : Int32) : en_in en_full x := by
  have := fb_rng x
  exact ⟨this.1, by show x.toInt ≤ 2147483647; omega⟩
theorem en_add_in {q r : Int × Int} {x y : Int32} (hx : en_in q x) (hy : en_in r y) : en_in (en_add q r) (x + y) := by
  unfold en_add en_clip
  split
  · rename_i h
    simp only [Bool.and_eq_true, decide_eq_true_eq] at h
    obtain ⟨h1, h2⟩ := hx
    obtain ⟨h3, h4⟩ := hy
    have e := fb_addI (x := x) (y := y) (by omega) (by omega)
    exact ⟨by rw [e]; show q.1 + r.1 ≤ _; omega, by rw [e]; show _ ≤ q.2 + r.2; omega⟩
  · exact en_full_in _
theorem en_sub_in {q r : Int × Int} {x y : Int32} (hx : en_in q x) (hy : en_in r y) : en_in (en_sub q r) (x - y) := by
  unfold en_sub en_clip
  split
  · rename_i h
    simp only [Bool.and_eq_true, decide_eq_true_eq] at h
    obtain ⟨h1, h2⟩ := hx
    obtain ⟨h3, h4⟩ := hy
    have e := fb_subI (x := x) (y := y) (by omega) (by omega)
    exact ⟨by rw [e]; show q.1 - r.2 ≤ _; omega, by rw [e]; show _ ≤ q.2 - r.1; omega⟩
  · exact en_full_in _
theorem en_mul_in {q r : Int × Int} {x y : Int32} (hx : en_in q x) (hy : en_in r y) : en_in (en_mul q r) (x * y) := by
  unfold en_mul en_clip
  split
  · rename_i h0
    split
    · rename_i h
      simp only [Bool.and_eq_true, decide_eq_true_eq] at h h0
      obtain ⟨h1, h2⟩ := hx
      obtain ⟨h3, h4⟩ := hy
      have a1 : q.1 * r.1 ≤ x.toInt * y.toInt := Int.mul_le_mul h1 h3 h0.2 (Int.le_trans h0.1 h1)
      have a2 : x.toInt * y.toInt ≤ q.2 * r.2 := Int.mul_le_mul h2 h4 (Int.le_trans h0.2 h3) (Int.le_trans (Int.le_trans h0.1 h1) h2)
      have e := fb_mulI (x := x) (y := y) (by omega) (by omega)
      exact ⟨by rw [e]; exact a1, by rw [e]; exact a2⟩
    · exact en_full_in _
  · exact en_full_in _
theorem en_and_r (x y : Int32) (h : 0 ≤ y.toInt) : 0 ≤ (x &&& y).toInt ∧ (x &&& y).toInt ≤ y.toInt := by
  have e : (x &&& y).toBitVec = x.toBitVec &&& y.toBitVec := rfl
  have hy : y.toInt = (y.toBitVec.toNat : Int) := by
    have h1 : y.toInt = y.toBitVec.toInt := rfl
    rw [h1, BitVec.toInt_eq_toNat_cond] at h ⊢
    split at h
    · rename_i h2
      rw [if_pos h2]
    · have := y.toBitVec.isLt
      omega
  have hle : (x &&& y).toBitVec.toNat ≤ y.toBitVec.toNat := by
    rw [e, BitVec.toNat_and]
    exact Nat.and_le_right
  have hylt : 2 * y.toBitVec.toNat < 2 ^ 32 := by
    have := fb_rng y
    omega
  have h2 : (x &&& y).toInt = ((x &&& y).toBitVec.toNat : Int) := by
    show (x &&& y).toBitVec.toInt = _
    rw [BitVec.toInt_eq_toNat_cond, if_pos (by omega)]
  rw [h2, hy]
  omega
theorem en_and_in {q r : Int × Int} {x y : Int32} (hx : en_in q x) (hy : en_in r y) : en_in (en_and q r) (x &&& y) := by
  obtain ⟨h1, h2⟩ := hx
  obtain ⟨h3, h4⟩ := hy
  unfold en_and
  split
  · rename_i h
    simp only [decide_eq_true_eq] at h
    have := en_and_r x y (by omega)
    exact ⟨this.1, by show _ ≤ r.2; omega⟩
  · split
    · rename_i h
      simp only [decide_eq_true_eq] at h
      have := en_and_r y x (by omega)
      rw [Int32.and_comm] at this
      exact ⟨this.1, by show _ ≤ q.2; omega⟩
    · exact en_full_in _
theorem en_i2b_in (x : Int32) : en_in (-128, 127) (x.toInt8.toInt32) := by
  have e : (x.toInt8.toInt32).toInt = x.toInt8.toInt := by simp
  have h1 := x.toInt8.le_toInt
  have h2 := x.toInt8.toInt_lt
  exact ⟨by rw [e]; show -128 ≤ _; omega, by rw [e]; show _ ≤ 127; omega⟩
def en_may (cd : Jvm.ClassFile.Cond) (q r : Int × Int) : Bool × Bool := match cd with
  | .lt => (decide (q.1 < r.2), decide (r.1 ≤ q.2))
  | .ge => (decide (r.1 ≤ q.2), decide (q.1 < r.2))
  | .gt => (decide (r.1 < q.2), decide (q.1 ≤ r.2))
  | .le => (decide (q.1 ≤ r.2), decide (r.1 < q.2))
  | .eq => (decide (q.1 ≤ r.2) && decide (r.1 ≤ q.2), !(decide (q.1 = q.2) && decide (r.1 = r.2) && decide (q.1 = r.1)))
  | .ne => (!(decide (q.1 = q.2) && decide (r.1 = r.2) && decide (q.1 = r.1)), decide (q.1 ≤ r.2) && decide (r.1 ≤ q.2))
def en_put (ty : FieldType) (a : en_V) : Bool := match ty, a with
  | .int, .inl _ => true
  | .boolean, .inl q => decide (0 ≤ q.1) && decide (q.2 ≤ 1)
  | .object _, .inr _ => true
  | .array _, .inr _ => true
  | _, _ => false
theorem en_put_ok {N : Nat} {ad : Nat → Nat} {ty : FieldType} {a : en_V} {x : Value} (h : en_put ty a = true) (hx : en_v N ad a x) : narrow ty x = x ∧ fits ty x = true := by
  unfold en_put at h
  split at h
  · obtain ⟨i, e, -⟩ := hx
    subst e
    exact ⟨rfl, rfl⟩
  · obtain ⟨i, e, h1, h2⟩ := hx
    subst e
    simp only [Bool.and_eq_true, decide_eq_true_eq] at h
    have hi : i = 0 ∨ i = 1 := by
      rcases (show i.toInt = 0 ∨ i.toInt = 1 by omega) with q | q
      · exact Or.inl ((fa_eq _ _).mpr q)
      · exact Or.inr ((fa_eq _ _).mpr q)
    rcases hi with rfl | rfl <;> exact ⟨rfl, rfl⟩
  · rcases en_v_r hx with rfl | ⟨a, rfl⟩ <;> exact ⟨rfl, rfl⟩
  · rcases en_v_r hx with rfl | ⟨a, rfl⟩ <;> exact ⟨rfl, rfl⟩
  · cases h
def en_dv (ty : FieldType) : en_V := match ty with
  | .object _ => .inr 1
  | .array _ => .inr 1
  | _ => .inl (0, 0)
def en_dok (ty : FieldType) : Bool := match ty with
  | .object _ => true
  | .array _ => true
  | .int => true
  | .boolean => true
  | _ => false
theorem en_dv_ok {N : Nat} {ad : Nat → Nat} {ty : FieldType} (h : en_dok ty = true) : en_v N ad (en_dv ty) (defaultValue ty) := by
  unfold en_dok at h
  split at h
  · exact rfl
  · exact rfl
  · exact ⟨0, rfl, by decide, by decide⟩
  · exact ⟨0, rfl, by decide, by decide⟩
  · cases h
def en_df (ci n : Nat) : List en_V := (List.range n).map (fun j => en_dv (en_tyX ci j))
abbrev ev_t : Type := Nat × Nat × Nat × Int
abbrev ev_s : Type := en_V × ev_t
abbrev ev_l : Type := Option (en_V × Option (Nat × Int))
abbrev ev_f : Type := (Nat × Nat × Nat) × (Int × Int) × Option (Nat × Int)
abbrev ev_r : Type := Nat × Nat × Int
abbrev ev_S : Type := Nat × List ev_l × List ev_s × List ev_f × List ev_r
def ev_nt : ev_t := (0, 0, 0, 0)
/-- a cell's type: an array of numbers; with 3 a row of cells, from the cell of that number on; an object -/
def ev_c (tys : List (ClassId × FieldType)) (N : Nat) (ad : Nat → Nat) (t : en_C) (e : va_E) : Prop := match t with
  | .inl q => if q.1 = 3 then ∃ (cA : ClassId) (f : Nat → Option Nat), e = .inl (cA, q.2.1, .inr (.inr (.inr (.inr f)))) ∧ tys[3]? = some (cA, .array .int) ∧ ∀ j, j < q.2.1 → f j = some (ad (q.2.2.1.toNat + j)) ∧ q.2.2.1.toNat + j < N
    else ∃ (cA : ClassId) (f : Nat → Int32), e = .inl (cA, q.2.1, .inl f) ∧ tys[q.1]? = some (cA, en_ty q.1) ∧ ∀ j, j < q.2.1 → en_in q.2.2 (f j)
  | .inr q => ∃ vs : List Value, e = .inr (q.1, vs) ∧ en_vs N ad q.2 vs
def ev_w (tys : List (ClassId × FieldType)) (T : en_T) (ad : Nat → Nat) (ws : va_W) : Prop :=
  ws.length = T.length ∧ ∀ (k : Nat) (t : en_C), T[k]? = some t → ∃ e : va_E, ws[k]? = some (ad k, e) ∧ ev_c tys T.length ad t e
/-- the value at a place: a local's; a field's (cell, slot); an element's (cell, the local that holds the index) -/
def ev_loc (ls : Array Slot) (ws : va_W) (q : Nat × Nat × Nat) (x : Int32) : Prop := match q.1 with
  | 1 => ls[q.2.1]? = some (.val (.int x))
  | 2 => ∃ (a ci : Nat) (vs : List Value), ws[q.2.1]? = some (a, .inr (ci, vs)) ∧ vs[q.2.2]? = some (.int x)
  | 3 => ∃ (a : Nat) (cA : ClassId) (n : Nat) (f : Nat → Int32) (y : Int32), ws[q.2.1]? = some (a, .inl (cA, n, .inl f)) ∧ ls[q.2.2]? = some (.val (.int y)) ∧ 0 ≤ y.toInt ∧ y.toInt < n ∧ f y.toNatClampNeg = x
  | _ => False
theorem ev_loc_one {ls : Array Slot} {ws : va_W} {q : Nat × Nat × Nat} {x y : Int32} (hx : ev_loc ls ws q x) (hy : ev_loc ls ws q y) : x = y := by
  obtain ⟨k, a, b⟩ := q
  match k, hx, hy with
  | 1, hx, hy => exact Value.int.inj (Slot.val.inj (Option.some.inj ((hx : ls[a]? = _).symm.trans hy)))
  | 2, ⟨_, _, vs, h1, h2⟩, ⟨_, _, us, h3, h4⟩ =>
    have e := h1.symm.trans h3
    cases e
    exact Value.int.inj (Option.some.inj (h2.symm.trans h4))
  | 3, ⟨_, _, _, f, i, h1, h2, _, _, h5⟩, ⟨_, _, _, g, j, h6, h7, _, _, h10⟩ =>
    have e := h1.symm.trans h6
    cases e
    have e2 := h2.symm.trans h7
    cases e2
    exact h5.symm.trans h10
def ev_gt (γ : Nat → Int) (g : Option (Nat × Int)) (x : Value) : Prop := match g with
  | none => True
  | some q => ∃ i : Int32, x = .int i ∧ i.toInt = γ q.1 + q.2
def ev_tag (ls : Array Slot) (ws : va_W) (t : ev_t) (x : Value) : Prop := t.1 = 0 ∨ ∃ (i y : Int32), x = .int i ∧ ev_loc ls ws (t.1, t.2.1, t.2.2.1) y ∧ i.toInt = y.toInt + t.2.2.2
def ev_fact (γ : Nat → Int) (ls : Array Slot) (ws : va_W) (f : ev_f) : Prop := ∃ x : Int32, ev_loc ls ws f.1 x ∧ en_in f.2.1 x ∧ ev_gt γ f.2.2 (.int x)
def ev_rel (ls : Array Slot) (r : ev_r) : Prop := ∃ x y : Int32, ls[r.1]? = some (.val (.int x)) ∧ ls[r.2.1]? = some (.val (.int y)) ∧ x.toInt ≤ y.toInt + r.2.2
def ev_stk (N : Nat) (ad : Nat → Nat) (ls : Array Slot) (ws : va_W) : List ev_s → List Value → Prop
  | [], [] => True
  | a :: as, x :: xs => (en_v N ad a.1 x ∧ ev_tag ls ws a.2 x) ∧ ev_stk N ad ls ws as xs
  | _, _ => False
/-- what may have been written: (cell, slot) of objects, (cell, 999) of arrays -/
def ev_fe (Wr : List (Nat × Nat)) (k : Nat) (e0 e : va_E) : Prop := match e0, e with
  | .inl a, .inl b => (k, 999) ∈ Wr ∨ a = b
  | .inr a, .inr b => a.1 = b.1 ∧ a.2.length = b.2.length ∧ ∀ f, (k, f) ∉ Wr → a.2[f]? = b.2[f]?
  | _, _ => False
def ev_fr (Wr : List (Nat × Nat)) (w0 w : va_W) : Prop := w0.length = w.length ∧ ∀ (k : Nat) (q0 q : Nat × va_E), w0[k]? = some q0 → w[k]? = some q → q0.1 = q.1 ∧ ev_fe Wr k q0.2 q.2
theorem ev_fe.rf (Wr : List (Nat × Nat)) (k : Nat) : ∀ e : va_E, ev_fe Wr k e e
  | .inl _ => Or.inr rfl
  | .inr _ => ⟨rfl, rfl, fun _ _ => rfl⟩
theorem ev_fr.rf (Wr : List (Nat × Nat)) (w : va_W) : ev_fr Wr w w := ⟨rfl, fun k q0 q h0 h => by
  rw [h0] at h
  cases h
  exact ⟨rfl, ev_fe.rf Wr k _⟩⟩
theorem ev_fe.tr {W1 W2 : List (Nat × Nat)} (hs : ∀ q ∈ W2, q ∈ W1) {k : Nat} : ∀ {a b c : va_E}, ev_fe W1 k a b → ev_fe W2 k b c → ev_fe W1 k a c
  | .inl a, .inl b, .inl c, h1, h2 => by
    rcases h1 with h1 | h1
    · exact Or.inl h1
    · rcases h2 with h2 | h2
      · exact Or.inl (hs _ h2)
      · exact Or.inr (h1.trans h2)
  | .inr a, .inr b, .inr c, h1, h2 => ⟨h1.1.trans h2.1, h1.2.1.trans h2.2.1, fun f hf => (h1.2.2 f hf).trans (h2.2.2 f (fun h => hf (hs _ h)))⟩
  | .inl _, .inr _, _, h1, _ => h1.elim
  | .inr _, .inl _, _, h1, _ => h1.elim
  | .inl _, .inl _, .inr _, _, h2 => h2.elim
  | .inr _, .inr _, .inl _, _, h2 => h2.elim
theorem ev_fr.tr {W1 W2 : List (Nat × Nat)} {a b c : va_W} (h1 : ev_fr W1 a b) (h2 : ev_fr W2 b c) (hs : ∀ q ∈ W2, q ∈ W1) : ev_fr W1 a c := by
  refine ⟨h1.1.trans h2.1, fun k q0 q h0 h => ?_⟩
  have hk : k < b.length := by
    have := (List.getElem?_eq_some_iff.mp h0).1
    have := h1.1
    omega
  obtain ⟨e1, e2⟩ := h1.2 k q0 b[k] h0 (List.getElem?_eq_getElem hk)
  obtain ⟨e3, e4⟩ := h2.2 k b[k] q (List.getElem?_eq_getElem hk) h
  exact ⟨e1.trans e3, ev_fe.tr hs e2 e4⟩
/-- a place that was not written has its value still -/
def ev_hit (Wr : List (Nat × Nat)) (q : Nat × Nat × Nat) : Bool := match q.1 with
  | 2 => Wr.contains (q.2.1, q.2.2)
  | 3 => Wr.contains (q.2.1, 999)
  | _ => false
theorem ev_loc_fr {Wr : List (Nat × Nat)} {w0 w : va_W} {ls : Array Slot} {q : Nat × Nat × Nat} {x : Int32} (h : ev_fr Wr w0 w) (hq : ev_hit Wr q = false) (hx : ev_loc ls w0 q x) : ev_loc ls w q x := by
  obtain ⟨k, a, b⟩ := q
  match k, hq, hx with
  | 1, _, hx => exact hx
  | 2, hq, ⟨a0, ci, vs, h1, h2⟩ =>
    dsimp only at h1 h2
    have hk : a < w.length := by
      have := (List.getElem?_eq_some_iff.mp h1).1
      have := h.1
      omega
    obtain ⟨e1, e2⟩ := h.2 a _ w[a] h1 (List.getElem?_eq_getElem hk)
    have hw : w[a]? = some w[a] := List.getElem?_eq_getElem hk
    cases hc : w[a] with
    | mk a1 ee =>
      rw [hc] at e1 e2 hw
      cases ee with
      | inl z => exact e2.elim
      | inr z =>
        obtain ⟨c1, us⟩ := z
        obtain ⟨e3, e4, e5⟩ := e2
        refine ⟨a1, c1, us, hw, ?_⟩
        have hn : (a, b) ∉ Wr := fun hm => by
          have : Wr.contains (a, b) = true := List.contains_iff_mem.mpr hm
          rw [show ev_hit Wr (2, a, b) = Wr.contains (a, b) from rfl, this] at hq
          cases hq
        rw [← e5 b hn]
        exact h2
  | 3, hq, ⟨a0, cA, n, f, y, h1, h2, h3, h4, h5⟩ =>
    dsimp only at h1 h2
    have hk : a < w.length := by
      have := (List.getElem?_eq_some_iff.mp h1).1
      have := h.1
      omega
    obtain ⟨e1, e2⟩ := h.2 a _ w[a] h1 (List.getElem?_eq_getElem hk)
    have hw : w[a]? = some w[a] := List.getElem?_eq_getElem hk
    cases hc : w[a] with
    | mk a1 ee =>
      rw [hc] at e1 e2 hw
      cases ee with
      | inr z => exact e2.elim
      | inl z =>
        have hn : (a, 999) ∉ Wr := fun hm => by
          have : Wr.contains (a, 999) = true := List.contains_iff_mem.mpr hm
          rw [show ev_hit Wr (3, a, b) = Wr.contains (a, 999) from rfl, this] at hq
          cases hq
        rcases e2 with e2 | e2
        · exact absurd e2 hn
        · exact ⟨a1, cA, n, f, y, by rw [hw, ← e2], h2, h3, h4, h5⟩
def ev_cx (p : Program) (s : State) (m : MethodId) (args : Array Value) (meth : Method) (c : Code) (cc : ByteArray) (nL o : Nat) (D : va_G) (tys : List (ClassId × FieldType)) (aK aV b0 : Nat) : Prop :=
  p.tables.exec = Jvm.exec ∧ c.code = cc ∧ c.maxLocals = nL ∧ s.vm.findClass (en_nm o) = some m.cls ∧ (∀ w ∈ en_ws, w.before args s = true) ∧ va_K D vwCl tys s ∧ b0 ≤ s.heap.size ∧ en_X b0 aK aV s ∧ meth.locks = false
def ev_wd (s : State) (D : va_G) (tys : List (ClassId × FieldType)) (T : en_T) (I : va_W → Prop) (b0 : Nat) (ad : Nat → Nat) (w0 : va_W) (Wr : List (Nat × Nat)) (H : Heap) (locs : List Loc) (ws : va_W) : Prop :=
  ev_w tys T ad ws ∧ I ws ∧ va_P D vwCl ws H ∧ va_D (fun q => b0 ≤ q) ws ∧ va_S (fun q => b0 ≤ q) s.heap H locs ∧ ev_fr Wr w0 ws
def ev_lo (N : Nat) (ad : Nat → Nat) (γ : Nat → Int) (L : List ev_l) (ls : Array Slot) : Prop := ∀ (i : Nat) (q : en_V × Option (Nat × Int)), L[i]? = some (some q) → ∃ x : Value, ls[i]? = some (.val x) ∧ en_v N ad q.1 x ∧ ev_gt γ q.2 x
def ev_at (s : State) (D : va_G) (tys : List (ClassId × FieldType)) (T : en_T) (I : va_W → Prop) (b0 nL : Nat) (ad : Nat → Nat) (w0 : va_W) (Wr : List (Nat × Nat)) (γ : Nat → Int) (L : List ev_l) (S : List ev_s) (FS : List ev_f) (RS : List ev_r) (H : Heap) (locs : List Loc) (ls : Array Slot) (stk : List Value) (ws : va_W) : Prop :=
  (ls.size = nL ∧ lv_wf ls ∧ L.length = nL) ∧ ev_lo T.length ad γ L ls ∧ ev_stk T.length ad ls ws S stk ∧ (∀ f ∈ FS, ev_fact γ ls ws f) ∧ (∀ r ∈ RS, ev_rel ls r) ∧ ev_wd s D tys T I b0 ad w0 Wr H locs ws
def ev_go (p : Program) (l : Launch) (e : Env) (R : Room) (s : State) (m : MethodId) (args : Array Value) (below : List Frame) (meth : Method) (c : Code) (Q : State → Prop) (D : va_G) (tys : List (ClassId × FieldType)) (T : en_T) (I : va_W → Prop) (b0 nL : Nat) (ad : Nat → Nat) (w0 : va_W) (Wr : List (Nat × Nat)) (γ : Nat → Int) (st : ev_S) : Prop :=
  ∀ (H : Heap) (locs : List Loc) (ls : Array Slot) (stk : List Value) (ws : va_W), ev_at s D tys T I b0 nL ad w0 Wr γ st.2.1 st.2.2.1 st.2.2.2.1 st.2.2.2.2 H locs ls stk ws → W p l e R s m args below meth c H locs 0 0 Q (F0 m st.1 ls stk)
theorem ev_stk_cons {N : Nat} {ad : Nat → Nat} {ls : Array Slot} {ws : va_W} {a : ev_s} {as : List ev_s} {xs : List Value} (h : ev_stk N ad ls ws (a :: as) xs) : ∃ x ys, xs = x :: ys ∧ en_v N ad a.1 x ∧ ev_tag ls ws a.2 x ∧ ev_stk N ad ls ws as ys := by
  cases xs with
  | nil => exact h.elim
  | cons x ys => exact ⟨x, ys, rfl, h.1.1, h.1.2, h.2⟩
theorem ev_stk_len {N : Nat} {ad : Nat → Nat} {ls : Array Slot} {ws : va_W} : ∀ {as : List ev_s} {xs : List Value}, ev_stk N ad ls ws as xs → (xs.map fun v => v.category).sum = as.length
  | [], [], _ => rfl
  | _ :: _, _ :: _, h => by rw [List.map_cons, List.sum_cons, ev_stk_len h.2, en_v_cat h.1.1, List.length_cons, Nat.add_comm]
  | [], _ :: _, h => h.elim
  | _ :: _, [], h => h.elim
theorem ev_tag0 {ls : Array Slot} {ws : va_W} {x : Value} : ev_tag ls ws ev_nt x := Or.inl rfl
/-- a local is written: what speaks of it goes -/
def ev_on (i : Nat) (q : Nat × Nat × Nat) : Bool := (q.1 == 1 && q.2.1 == i) || (q.1 == 3 && q.2.2 == i)
def ev_kt (i : Nat) (a : ev_s) : ev_s := match ev_on i (a.2.1, a.2.2.1, a.2.2.2.1) with
  | true => (a.1, ev_nt)
  | false => a
def ev_kf (i : Nat) (FS : List ev_f) : List ev_f := FS.filter (fun f => !ev_on i f.1)
def ev_kr (i : Nat) (RS : List ev_r) : List ev_r := RS.filter (fun r => !(r.1 == i) && !(r.2.1 == i))
def ev_sr (i : Nat) (n : Int) (RS : List ev_r) : List ev_r := RS.map (fun r => (r.1, r.2.1, r.2.2 + (if r.1 = i then n else 0) - (if r.2.1 = i then n else 0)))
theorem ev_loc_set {ls ls' : Array Slot} {ws : va_W} {i : Nat} (hk : ∀ (j : Nat) (v : Value), j ≠ i → ls[j]? = some (.val v) → v.category = 1 → ls'[j]? = some (.val v)) {q : Nat × Nat × Nat} (hq : ev_on i q = false) {x : Int32} (h : ev_loc ls ws q x) : ev_loc ls' ws q x := by
  obtain ⟨k, a, b⟩ := q
  match k, hq, h with
  | 1, hq, h =>
    have ha : a ≠ i := fun e => by subst e; simp [ev_on] at hq
    exact hk a _ ha h rfl
  | 2, _, h => exact h
  | 3, hq, ⟨a0, cA, n, f, y, h1, h2, h3⟩ =>
    have hb : b ≠ i := fun e => by subst e; simp [ev_on] at hq
    exact ⟨a0, cA, n, f, y, h1, hk b _ hb h2 rfl, h3⟩
theorem ev_kt_ok {N : Nat} {ad : Nat → Nat} {ls ls' : Array Slot} {ws : va_W} {i : Nat} (hk : ∀ (j : Nat) (v : Value), j ≠ i → ls[j]? = some (.val v) → v.category = 1 → ls'[j]? = some (.val v)) : ∀ {as : List ev_s} {xs : List Value}, ev_stk N ad ls ws as xs → ev_stk N ad ls' ws (as.map (ev_kt i)) xs
  | [], [], _ => trivial
  | a :: as, x :: xs, h => by
    refine ⟨?_, ev_kt_ok hk h.2⟩
    unfold ev_kt
    split
    · exact ⟨h.1.1, ev_tag0⟩
    · rename_i hq
      refine ⟨h.1.1, ?_⟩
      rcases h.1.2 with h0 | ⟨u, y, e1, e2, e3⟩
      · exact Or.inl h0
      · exact Or.inr ⟨u, y, e1, ev_loc_set hk hq e2, e3⟩
  | [], _ :: _, h => h.elim
  | _ :: _, [], h => h.elim
theorem ev_kf_ok {γ : Nat → Int} {ls ls' : Array Slot} {ws : va_W} {i : Nat} (hk : ∀ (j : Nat) (v : Value), j ≠ i → ls[j]? = some (.val v) → v.category = 1 → ls'[j]? = some (.val v)) {FS : List ev_f} (h : ∀ f ∈ FS, ev_fact γ ls ws f) : ∀ f ∈ ev_kf i FS, ev_fact γ ls' ws f := by
  intro f hf
  obtain ⟨h1, h2⟩ := List.mem_filter.mp hf
  obtain ⟨x, h3, h4⟩ := h f h1
  exact ⟨x, ev_loc_set hk (by simpa using h2) h3, h4⟩
theorem ev_kr_ok {ls ls' : Array Slot} {i : Nat} (hk : ∀ (j : Nat) (v : Value), j ≠ i → ls[j]? = some (.val v) → v.category = 1 → ls'[j]? = some (.val v)) {RS : List ev_r} (h : ∀ r ∈ RS, ev_rel ls r) : ∀ r ∈ ev_kr i RS, ev_rel ls' r := by
  intro r hr
  obtain ⟨h1, h2⟩ := List.mem_filter.mp hr
  simp only [Bool.and_eq_true, Bool.not_eq_true', beq_eq_false_iff_ne, ne_eq] at h2
  obtain ⟨x, y, h3, h4, h5⟩ := h r h1
  exact ⟨x, y, hk _ _ h2.1 h3 rfl, hk _ _ h2.2 h4 rfl, h5⟩
theorem ev_sr_ok {ls ls' : Array Slot} {i : Nat} {n : Int} {x0 x1 : Int32} (hk : ∀ (j : Nat) (v : Value), j ≠ i → ls[j]? = some (.val v) → v.category = 1 → ls'[j]? = some (.val v)) (h0 : ls[i]? = some (.val (.int x0))) (h1 : ls'[i]? = some (.val (.int x1))) (hn : x1.toInt = x0.toInt + n) {RS : List ev_r} (h : ∀ r ∈ RS, ev_rel ls r) : ∀ r ∈ ev_sr i n RS, ev_rel ls' r := by
  intro r hr
  obtain ⟨q, hq, rfl⟩ := List.mem_map.mp hr
  obtain ⟨x, y, h3, h4, h5⟩ := h q hq
  by_cases ha : q.1 = i <;> by_cases hb : q.2.1 = i
  · rw [ha] at h3
    rw [hb] at h4
    have e1 : x = x0 := Value.int.inj (Slot.val.inj (Option.some.inj (h3.symm.trans h0)))
    have e2 : y = x0 := Value.int.inj (Slot.val.inj (Option.some.inj (h4.symm.trans h0)))
    subst e1
    subst e2
    exact ⟨x1, x1, by dsimp only; rw [ha]; exact h1, by dsimp only; rw [hb]; exact h1, by dsimp only; rw [if_pos ha, if_pos hb]; omega⟩
  · rw [ha] at h3
    have e1 : x = x0 := Value.int.inj (Slot.val.inj (Option.some.inj (h3.symm.trans h0)))
    subst e1
    exact ⟨x1, y, by dsimp only; rw [ha]; exact h1, hk _ _ hb h4 rfl, by dsimp only; rw [if_pos ha, if_neg hb]; omega⟩
  · rw [hb] at h4
    have e2 : y = x0 := Value.int.inj (Slot.val.inj (Option.some.inj (h4.symm.trans h0)))
    subst e2
    exact ⟨x, x1, hk _ _ ha h3 rfl, by dsimp only; rw [hb]; exact h1, by dsimp only; rw [if_neg ha, if_pos hb]; omega⟩
  · exact ⟨x, y, hk _ _ ha h3 rfl, hk _ _ hb h4 rfl, by dsimp only; rw [if_neg ha, if_neg hb]; omega⟩
theorem ev_lo_set {N : Nat} {ad : Nat → Nat} {γ : Nat → Int} {L : List ev_l} {ls ls' : Array Slot} {i : Nat} {a : en_V} {g : Option (Nat × Int)} {x : Value} (hk : ∀ (j : Nat) (v : Value), j ≠ i → ls[j]? = some (.val v) → v.category = 1 → ls'[j]? = some (.val v)) (hi : ls'[i]? = some (.val x)) (hx : en_v N ad a x) (hg : ev_gt γ g x) (h : ev_lo N ad γ L ls) : ev_lo N ad γ (L.set i (some (a, g))) ls' := by
  intro j q hj
  by_cases hji : j = i
  · subst hji
    by_cases hl : j < L.length
    · rw [List.getElem?_set_self hl] at hj
      cases hj
      exact ⟨x, hi, hx, hg⟩
    · rw [List.getElem?_eq_none (by rw [List.length_set]; omega)] at hj
      cases hj
  · rw [List.getElem?_set_ne (Ne.symm hji)] at hj
    obtain ⟨y, h1, h2, h3⟩ := h j q hj
    exact ⟨y, hk j y hji h1 (en_v_cat h2), h2, h3⟩
theorem ev_keep {ls ls' : Array Slot} {nL i : Nat} {x : Value} (h' : lv_has ls' nL ((i, x) :: (en_lv ls).filter (fun q => !(q.1 == i) && !(q.1 + 1 == i && q.2.category == 2)))) : ls'[i]? = some (.val x) ∧ ∀ (j : Nat) (v : Value), j ≠ i → ls[j]? = some (.val v) → v.category = 1 → ls'[j]? = some (.val v) :=
  ⟨h'.2.2 (i, x) List.mem_cons_self, fun j v hj hv hc => h'.2.2 (j, v) (List.mem_cons_of_mem _ (List.mem_filter.mpr ⟨en_lv_mem.mpr hv, by simp [hj, hc]⟩))⟩
def ev_gs (g : Option (Nat × Int)) (n : Int) : Option (Nat × Int) := g.map (fun q => (q.1, q.2 + n))
theorem ev_gs_ok {γ : Nat → Int} {g : Option (Nat × Int)} {x y : Int32} {n : Int} (h : ev_gt γ g (.int x)) (hn : y.toInt = x.toInt + n) : ev_gt γ (ev_gs g n) (.int y) := by
  cases g with
  | none => trivial
  | some q =>
    obtain ⟨i, e, h⟩ := h
    cases e
    exact ⟨y, rfl, by show _ = γ q.1 + (q.2 + n); omega⟩
section EVI
variable {p : Program} {l : Launch} {e : Env} {R : Room} {s : State} {m : MethodId} {args : Array Value} {below : List Frame} {meth : Method} {c : Code} {Q : State → Prop} {cc : ByteArray} {D : va_G} {tys : List (ClassId × FieldType)} {T : en_T} {I : va_W → Prop} {aK aV b0 nL o : Nat} {ad : Nat → Nat} {w0 : va_W} {Wr : List (Nat × Nat)} {γ : Nat → Int}
variable {pc : Nat} {L : List ev_l} {S : List ev_s} {FS : List ev_f} {RS : List ev_r}
theorem fs_push {pc' : Nat} {v : Int32} {q : Int × Int} (hq : en_in q v) (row : ∀ (H : Heap) (locs : List Loc) (ls : Array Slot) (rest : List Value), W p l e R s m args below meth c H locs 0 0 Q (F0 m pc' ls (.int v :: rest)) → W p l e R s m args below meth c H locs 0 0 Q (F0 m pc ls rest))
    (k : ev_go p l e R s m args below meth c Q D tys T I b0 nL ad w0 Wr γ (pc', L, (.inl q, ev_nt) :: S, FS, RS)) : ev_go p l e R s m args below meth c Q D tys T I b0 nL ad w0 Wr γ (pc, L, S, FS, RS) := by
  intro H locs ls stk ws h
  dsimp only at h
  obtain ⟨h0, hl, hs, hr⟩ := h
  exact row H locs ls stk (k H locs ls (.int v :: stk) ws ⟨h0, hl, ⟨⟨⟨v, rfl, hq⟩, ev_tag0⟩, hs⟩, hr⟩)
theorem en_in_self (v : Int32) : en_in (v.toInt, v.toInt) v := ⟨Int.le_refl _, Int.le_refl _⟩
def ev_lq (L : List ev_l) (i : Nat) (q : Int × Int) : List ev_r → Int × Int
  | [] => q
  | r :: rs => match r.1 == i with
    | true => match L[r.2.1]? with
      | some (some (.inl u, _)) => ((ev_lq L i q rs).1, if u.2 + r.2.2 ≤ (ev_lq L i q rs).2 then u.2 + r.2.2 else (ev_lq L i q rs).2)
      | _ => ev_lq L i q rs
    | false => ev_lq L i q rs
theorem ev_lq_ok {ls : Array Slot} {i : Nat} {q : Int × Int} {x : Int32} (hl : ev_lo T.length ad γ L ls) (hi : ls[i]? = some (.val (.int x))) (hq : en_in q x) : ∀ {RS : List ev_r}, (∀ r ∈ RS, ev_rel ls r) → en_in (ev_lq L i q RS) x
  | [], _ => hq
  | r :: rs, h => by
    have ih := ev_lq_ok hl hi hq (fun r hr => h r (List.mem_cons_of_mem _ hr))
    unfold ev_lq
    split
    · rename_i hr
      simp only [beq_iff_eq] at hr
      split
      · rename_i u g hu
        obtain ⟨a, b, h1, h2, h3⟩ := h r List.mem_cons_self
        rw [hr, hi] at h1
        cases h1
        obtain ⟨y, g1, ⟨z, rfl, g2⟩, -⟩ := hl r.2.1 _ hu
        rw [h2] at g1
        cases g1
        refine ⟨ih.1, ?_⟩
        dsimp only
        split
        · have := g2.2
          omega
        · exact ih.2
      · exact ih
    · exact ih
theorem fs_iload {pc' i : Nat} {q : Int × Int} {g : Option (Nat × Int)} (hL : L[i]? = some (some (.inl q, g))) (row : ∀ (H : Heap) (locs : List Loc) (ls : Array Slot) (rest : List Value) (v : Int32), ls[i]? = some (.val (.int v)) → W p l e R s m args below meth c H locs 0 0 Q (F0 m pc' ls (.int v :: rest)) → W p l e R s m args below meth c H locs 0 0 Q (F0 m pc ls rest))
    (k : ev_go p l e R s m args below meth c Q D tys T I b0 nL ad w0 Wr γ (pc', L, (.inl (ev_lq L i q RS), (1, i, 0, 0)) :: S, FS, RS)) : ev_go p l e R s m args below meth c Q D tys T I b0 nL ad w0 Wr γ (pc, L, S, FS, RS) := by
  intro H locs ls stk ws h
  dsimp only at h
  obtain ⟨h0, hl, hs, hf, hR, hr⟩ := h
  obtain ⟨x, h1, ⟨v, rfl, hv⟩, hg⟩ := hl i _ hL
  exact row H locs ls stk v h1 (k H locs ls (.int v :: stk) ws ⟨h0, hl, ⟨⟨⟨v, rfl, ev_lq_ok hl h1 hv hR⟩, Or.inr ⟨v, v, rfl, h1, by dsimp only; omega⟩⟩, hs⟩, hf, hR, hr⟩)
theorem fs_aload {pc' i j : Nat} {g : Option (Nat × Int)} (hL : L[i]? = some (some (.inr (j + 2), g))) (row : ∀ (H : Heap) (locs : List Loc) (ls : Array Slot) (rest : List Value) (v : Nat), ls[i]? = some (.val (.ref v)) → W p l e R s m args below meth c H locs 0 0 Q (F0 m pc' ls (.ref v :: rest)) → W p l e R s m args below meth c H locs 0 0 Q (F0 m pc ls rest))
    (k : ev_go p l e R s m args below meth c Q D tys T I b0 nL ad w0 Wr γ (pc', L, (.inr (j + 2), ev_nt) :: S, FS, RS)) : ev_go p l e R s m args below meth c Q D tys T I b0 nL ad w0 Wr γ (pc, L, S, FS, RS) := by
  intro H locs ls stk ws h
  dsimp only at h
  obtain ⟨h0, hl, hs, hr⟩ := h
  obtain ⟨x, h1, h2, -⟩ := hl i _ hL
  obtain ⟨rfl, hv⟩ : x = .ref (ad j) ∧ j < T.length := h2
  exact row H locs ls stk (ad j) h1 (k H locs ls (.ref (ad j) :: stk) ws ⟨h0, hl, ⟨⟨⟨rfl, hv⟩, ev_tag0⟩, hs⟩, hr⟩)
/-- storing: a number of its own place, moved, keeps what is known of the place -/
def ev_self (i : Nat) (t : ev_t) : Bool := t.1 == 1 && t.2.1 == i
def ev_sg (L : List ev_l) (i : Nat) (t : ev_t) : Option (Nat × Int) := match ev_self i t with
  | true => match L[i]? with
    | some (some q) => ev_gs q.2 t.2.2.2
    | _ => none
  | false => none
def ev_sR (RS : List ev_r) (i : Nat) (t : ev_t) : List ev_r := match ev_self i t with
  | true => ev_sr i t.2.2.2 RS
  | false => ev_kr i RS
theorem fs_store {pc' i : Nat} {a : en_V} {t : ev_t} (hi : i < L.length) (row : ∀ (H : Heap) (locs : List Loc) (ls : Array Slot) (rest : List Value) (x : Value), en_v T.length ad a x → ls.size = nL → lv_wf ls → (∀ ls' : Array Slot, lv_has ls' nL ((i, x) :: (en_lv ls).filter (fun q => !(q.1 == i) && !(q.1 + 1 == i && q.2.category == 2))) → W p l e R s m args below meth c H locs 0 0 Q (F0 m pc' ls' rest)) → W p l e R s m args below meth c H locs 0 0 Q (F0 m pc ls (x :: rest)))
    (k : ev_go p l e R s m args below meth c Q D tys T I b0 nL ad w0 Wr γ (pc', L.set i (some (a, ev_sg L i t)), S.map (ev_kt i), ev_kf i FS, ev_sR RS i t)) : ev_go p l e R s m args below meth c Q D tys T I b0 nL ad w0 Wr γ (pc, L, (a, t) :: S, FS, RS) := by
  intro H locs ls stk ws h
  dsimp only at h
  obtain ⟨⟨z1, z2, z3⟩, hl, hs, hf, hR, hr⟩ := h
  obtain ⟨x, ys, rfl, hx, ht, hs1⟩ := ev_stk_cons hs
  dsimp only at hx ht
  refine row H locs ls ys x hx z1 z2 (fun ls' h' => ?_)
  obtain ⟨k1, k2⟩ := ev_keep h'
  have hself : ev_self i t = true → ∃ (u y : Int32), x = .int u ∧ ls[i]? = some (.val (.int y)) ∧ u.toInt = y.toInt + t.2.2.2 := by
    intro hb
    unfold ev_self at hb
    simp only [Bool.and_eq_true, beq_iff_eq] at hb
    rcases ht with h0 | ⟨u, y, e1, e2, e3⟩
    · rw [hb.1] at h0; cases h0
    · rw [hb.1, hb.2] at e2
      exact ⟨u, y, e1, e2, e3⟩
  refine k H locs ls' ys ws ⟨⟨h'.1, h'.2.1, by dsimp only; rw [List.length_set]; exact z3⟩, ev_lo_set k2 k1 hx ?_ hl, ev_kt_ok k2 hs1, ev_kf_ok k2 hf, ?_, hr⟩
  · unfold ev_sg
    split
    · rename_i hb
      obtain ⟨u, y, rfl, h1, h2⟩ := hself hb
      split
      · rename_i q hq
        obtain ⟨z, g1, g2, g3⟩ := hl i q hq
        rw [h1] at g1
        cases g1
        exact ev_gs_ok g3 h2
      · trivial
    · trivial
  · dsimp only
    unfold ev_sR
    split
    · rename_i hb
      obtain ⟨u, y, rfl, h1, h2⟩ := hself hb
      exact ev_sr_ok k2 h1 k1 h2 hR
    · exact ev_kr_ok k2 hR
def ev_ex (q : Int × Int) (n : Int) : Bool := decide (-2147483648 ≤ q.1 + n) && decide (q.2 + n ≤ 2147483647)
theorem ev_ex_ok {q : Int × Int} {n : Int32} {x : Int32} (h : ev_ex q n.toInt = true) (hx : en_in q x) : (x + n).toInt = x.toInt + n.toInt := by
  unfold ev_ex at h
  simp only [Bool.and_eq_true, decide_eq_true_eq] at h
  obtain ⟨h1, h2⟩ := hx
  exact fb_addI (by omega) (by omega)
theorem fs_iinc (C : ev_cx p s m args meth c cc nL o D tys aK aV b0) {i : Nat} {n : Int} {q : Int × Int} {g : Option (Nat × Int)} (hL : L[i]? = some (some (.inl q, g))) (hex : ev_ex (ev_lq L i q RS) (Int32.ofInt n).toInt = true) (hd : decode cc pc = .ok (.iinc i n, 3))
    (k : ev_go p l e R s m args below meth c Q D tys T I b0 nL ad w0 Wr γ (pc + 3, L.set i (some (.inl (en_add (ev_lq L i q RS) ((Int32.ofInt n).toInt, (Int32.ofInt n).toInt)), ev_gs g (Int32.ofInt n).toInt)), S.map (ev_kt i), ev_kf i FS, ev_sr i (Int32.ofInt n).toInt RS)) : ev_go p l e R s m args below meth c Q D tys T I b0 nL ad w0 Wr γ (pc, L, S, FS, RS) := by
  intro H locs ls stk ws h
  dsimp only at h
  obtain ⟨⟨z1, z2, z3⟩, hl, hs, hf, hR, hr⟩ := h
  obtain ⟨x, h1, ⟨v, rfl, hv⟩, hg⟩ := hl i _ hL
  obtain ⟨j, hj⟩ := List.getElem?_of_mem (en_lv_mem.mpr h1)
  have hi : i < L.length := (List.getElem?_eq_some_iff.mp hL).1
  have hv2 := ev_lq_ok hl h1 hv hR
  refine lv_iinc C.1 C.2.1 hd (en_lv_has z1 z2) hj rfl (by omega) rfl (fun ls' h' => ?_)
  obtain ⟨k1, k2⟩ := ev_keep h'
  have he := ev_ex_ok hex hv2
  exact k H locs ls' stk ws ⟨⟨h'.1, h'.2.1, by dsimp only; rw [List.length_set]; exact z3⟩, ev_lo_set k2 k1 ⟨_, rfl, en_add_in hv2 (en_in_self _)⟩ (ev_gs_ok hg he) hl, ev_kt_ok k2 hs, ev_kf_ok k2 hf, ev_sr_ok k2 h1 k1 he hR, hr⟩
end EVI
def ev_sh (t : ev_t) (n : Int) : ev_t := match t.1 == 0 with
  | true => ev_nt
  | false => (t.1, t.2.1, t.2.2.1, t.2.2.2 + n)
theorem ev_sh_ok {ls : Array Slot} {ws : va_W} {t : ev_t} {n : Int} {x y : Int32} (h : ev_tag ls ws t (.int x)) (hn : y.toInt = x.toInt + n) : ev_tag ls ws (ev_sh t n) (.int y) := by
  unfold ev_sh
  split
  · exact ev_tag0
  · rename_i hb
    simp only [beq_eq_false_iff_ne, ne_eq] at hb
    rcases h with h | ⟨u, z, e1, e2, e3⟩
    · exact absurd h hb
    · cases e1
      exact Or.inr ⟨y, z, rfl, e2, by dsimp only; omega⟩
def ev_fit (a b : Int) : Bool := decide (-2147483648 ≤ a) && decide (b ≤ 2147483647)
def ev_ta (q r : Int × Int) (tq tr : ev_t) : ev_t := match ev_fit (q.1 + r.1) (q.2 + r.2) with
  | true => match decide (r.1 = r.2) with
    | true => ev_sh tq r.1
    | false => match decide (q.1 = q.2) with
      | true => ev_sh tr q.1
      | false => ev_nt
  | false => ev_nt
def ev_ts (q r : Int × Int) (tq : ev_t) : ev_t := match ev_fit (q.1 - r.2) (q.2 - r.1) && decide (r.1 = r.2) with
  | true => ev_sh tq (-r.1)
  | false => ev_nt
def ev_sub (q r : Int × Int) : Int × Int := match decide (q.2 - r.1 < -2147483648) with
  | true => (q.1 - r.2 + 4294967296, q.2 - r.1 + 4294967296)
  | false => en_sub q r
theorem fb_subW {x y : Int32} (h : x.toInt - y.toInt < -2147483648) : (x - y).toInt = x.toInt - y.toInt + 4294967296 := by
  have h1 := fb_rng x
  have h2 := fb_rng y
  rw [Int32.toInt_sub, ← fb_bmod (z := x.toInt - y.toInt + 4294967296) (by omega) (by omega)]
  exact (Int.add_bmod_right (x.toInt - y.toInt) (2 ^ 32)).symm
theorem ev_sub_in {q r : Int × Int} {x y : Int32} (hx : en_in q x) (hy : en_in r y) : en_in (ev_sub q r) (x - y) := by
  unfold ev_sub
  split
  · rename_i h
    simp only [decide_eq_true_eq] at h
    obtain ⟨a1, a2⟩ := hx
    obtain ⟨a3, a4⟩ := hy
    have e := fb_subW (x := x) (y := y) (by omega)
    exact ⟨by rw [e]; dsimp only; omega, by rw [e]; dsimp only; omega⟩
  · exact en_sub_in hx hy
def ev_rem (q r : Int × Int) : Int × Int := (if 0 ≤ q.1 then 0 else -(r.2 - 1), if q.2 ≤ 0 then 0 else r.2 - 1)
def ev_max (a b : Int) : Int := if a ≤ b then b else a
def ev_min (a b : Int) : Int := if a ≤ b then a else b
theorem ev_max_le {a b c : Int} (h1 : a ≤ c) (h2 : b ≤ c) : ev_max a b ≤ c := by unfold ev_max; split <;> assumption
theorem ev_le_min {a b c : Int} (h1 : c ≤ a) (h2 : c ≤ b) : c ≤ ev_min a b := by unfold ev_min; split <;> assumption
/-- what is known of a place -/
def ev_lk (FS : List ev_f) (q : Nat × Nat × Nat) : Option ((Int × Int) × Option (Nat × Int)) := match FS with
  | [] => none
  | f :: fs => match f.1 == q with
    | true => some f.2
    | false => ev_lk fs q
theorem ev_lk_ok {γ : Nat → Int} {ls : Array Slot} {ws : va_W} {q : Nat × Nat × Nat} {u : (Int × Int) × Option (Nat × Int)} : ∀ {FS : List ev_f}, (∀ f ∈ FS, ev_fact γ ls ws f) → ev_lk FS q = some u → ∃ x : Int32, ev_loc ls ws q x ∧ en_in u.1 x ∧ ev_gt γ u.2 (.int x)
  | [], _, h => by cases h
  | f :: fs, hf, h => by
    unfold ev_lk at h
    split at h
    · rename_i hb
      simp only [beq_iff_eq] at hb
      cases h
      have h1 := hf f List.mem_cons_self
      unfold ev_fact at h1
      rw [hb] at h1
      exact h1
    · exact ev_lk_ok (fun g hg => hf g (List.mem_cons_of_mem _ hg)) h
def ev_meet (a b : Int × Int) : Int × Int := (ev_max a.1 b.1, ev_min a.2 b.2)
theorem ev_meet_in {a b : Int × Int} {x : Int32} (h1 : en_in a x) (h2 : en_in b x) : en_in (ev_meet a b) x := ⟨ev_max_le h1.1 h2.1, ev_le_min h1.2 h2.2⟩
/-- the value with a tag is within bounds -/
def ev_rfl (L : List ev_l) (a : Nat) (b : Int × Int) : List ev_l := match L[a]? with
  | some (some (.inl q, g)) => L.set a (some (.inl (ev_meet q b), g))
  | _ => L
def ev_rff (FS : List ev_f) (q : Nat × Nat × Nat) (b : Int × Int) : List ev_f := match ev_lk FS q with
  | some u => (q, ev_meet u.1 b, u.2) :: FS
  | none => (q, b, none) :: FS
def ev_rf (L : List ev_l) (FS : List ev_f) (t : ev_t) (b : Int × Int) : List ev_l × List ev_f := match t.1 with
  | 0 => (L, FS)
  | 1 => (ev_rfl L t.2.1 (b.1 - t.2.2.2, b.2 - t.2.2.2), FS)
  | k + 2 => (L, ev_rff FS (k + 2, t.2.1, t.2.2.1) (b.1 - t.2.2.2, b.2 - t.2.2.2))
theorem ev_rfl_ok {N : Nat} {ad : Nat → Nat} {γ : Nat → Int} {L : List ev_l} {ls : Array Slot} {a : Nat} {b : Int × Int} {y : Int32} (hl : ev_lo N ad γ L ls) (e2 : ls[a]? = some (.val (.int y))) (hy : en_in b y) : (ev_rfl L a b).length = L.length ∧ ev_lo N ad γ (ev_rfl L a b) ls := by
  unfold ev_rfl
  split
  · rename_i q g hq
    refine ⟨List.length_set, fun j u hj => ?_⟩
    by_cases hja : j = a
    · subst hja
      rw [List.getElem?_set_self (List.getElem?_eq_some_iff.mp hq).1] at hj
      cases hj
      obtain ⟨x, g1, ⟨z, rfl, g2⟩, g3⟩ := hl j _ hq
      have ezy : z = y := Value.int.inj (Slot.val.inj (Option.some.inj (g1.symm.trans e2)))
      subst ezy
      exact ⟨_, g1, ⟨z, rfl, ev_meet_in g2 hy⟩, g3⟩
    · rw [List.getElem?_set_ne (Ne.symm hja)] at hj
      exact hl j u hj
  · exact ⟨rfl, hl⟩
theorem ev_rff_ok {γ : Nat → Int} {FS : List ev_f} {ls : Array Slot} {ws : va_W} {q : Nat × Nat × Nat} {b : Int × Int} {y : Int32} (hf : ∀ f ∈ FS, ev_fact γ ls ws f) (e2 : ev_loc ls ws q y) (hy : en_in b y) : ∀ f ∈ ev_rff FS q b, ev_fact γ ls ws f := by
  intro f hf1
  unfold ev_rff at hf1
  split at hf1
  · rename_i u hu
    rcases List.mem_cons.mp hf1 with rfl | hf1
    · obtain ⟨x, g1, g2, g3⟩ := ev_lk_ok hf hu
      have exy : x = y := ev_loc_one g1 e2
      subst exy
      exact ⟨x, g1, ev_meet_in g2 hy, g3⟩
    · exact hf f hf1
  · rcases List.mem_cons.mp hf1 with rfl | hf1
    · exact ⟨y, e2, hy, trivial⟩
    · exact hf f hf1
theorem ev_rf_ok {N : Nat} {ad : Nat → Nat} {γ : Nat → Int} {L : List ev_l} {FS : List ev_f} {ls : Array Slot} {ws : va_W} {t : ev_t} {b : Int × Int} {v : Int32} (hl : ev_lo N ad γ L ls) (hf : ∀ f ∈ FS, ev_fact γ ls ws f) (ht : ev_tag ls ws t (.int v)) (hv : en_in b v) : (ev_rf L FS t b).1.length = L.length ∧ ev_lo N ad γ (ev_rf L FS t b).1 ls ∧ ∀ f ∈ (ev_rf L FS t b).2, ev_fact γ ls ws f := by
  obtain ⟨k, a, i, off⟩ := t
  have hv1 := hv.1
  have hv2 := hv.2
  match k, ht with
  | 0, ht => exact ⟨rfl, hl, hf⟩
  | 1, ht =>
    rcases ht with h0 | ⟨u, y, e1, e2, e3⟩
    · cases h0
    · cases e1
      have e3 : v.toInt = y.toInt + off := e3
      have h := ev_rfl_ok (b := (b.1 - off, b.2 - off)) hl (e2 : ls[a]? = some (.val (.int y))) ⟨by dsimp only; omega, by dsimp only; omega⟩
      exact ⟨h.1, h.2, hf⟩
  | k + 2, ht =>
    rcases ht with h0 | ⟨u, y, e1, e2, e3⟩
    · cases h0
    · cases e1
      have e3 : v.toInt = y.toInt + off := e3
      exact ⟨rfl, hl, ev_rff_ok (b := (b.1 - off, b.2 - off)) hf e2 ⟨by dsimp only; omega, by dsimp only; omega⟩⟩
def ev_cmp (cd : Jvm.ClassFile.Cond) (q r : Int × Int) : (Int × Int) × (Int × Int) := match cd with
  | .lt => ((q.1, ev_min q.2 (r.2 - 1)), (ev_max r.1 (q.1 + 1), r.2))
  | .ge => ((ev_max q.1 r.1, q.2), (r.1, ev_min r.2 q.2))
  | .gt => ((ev_max q.1 (r.1 + 1), q.2), (r.1, ev_min r.2 (q.2 - 1)))
  | .le => ((q.1, ev_min q.2 r.2), (ev_max r.1 q.1, r.2))
  | .eq => (ev_meet q r, ev_meet q r)
  | .ne => ((if r.1 = r.2 ∧ q.1 = r.1 then q.1 + 1 else q.1, if r.1 = r.2 ∧ q.2 = r.1 then q.2 - 1 else q.2), (if q.1 = q.2 ∧ r.1 = q.1 then r.1 + 1 else r.1, if q.1 = q.2 ∧ r.2 = q.1 then r.2 - 1 else r.2))
def ev_cd (cd : Jvm.ClassFile.Cond) (x y : Int) : Prop := match cd with
  | .lt => x < y
  | .ge => y ≤ x
  | .gt => y < x
  | .le => x ≤ y
  | .eq => x = y
  | .ne => x ≠ y
theorem ev_cmp_ok {cd : Jvm.ClassFile.Cond} {q r : Int × Int} {x y : Int32} (hx : en_in q x) (hy : en_in r y) (h : ev_cd cd x.toInt y.toInt) : en_in (ev_cmp cd q r).1 x ∧ en_in (ev_cmp cd q r).2 y := by
  obtain ⟨h1, h2⟩ := hx
  obtain ⟨h3, h4⟩ := hy
  cases cd
  · have h : x.toInt = y.toInt := h
    exact ⟨ev_meet_in ⟨h1, h2⟩ ⟨by omega, by omega⟩, ev_meet_in ⟨by omega, by omega⟩ ⟨h3, h4⟩⟩
  · have h : x.toInt ≠ y.toInt := h
    refine ⟨⟨?_, ?_⟩, ⟨?_, ?_⟩⟩ <;> dsimp only [ev_cmp] <;> split <;> omega
  · have h : x.toInt < y.toInt := h
    exact ⟨⟨h1, ev_le_min h2 (by omega)⟩, ⟨ev_max_le h3 (by omega), h4⟩⟩
  · have h : y.toInt ≤ x.toInt := h
    exact ⟨⟨ev_max_le h1 (by omega), h2⟩, ⟨h3, ev_le_min h4 (by omega)⟩⟩
  · have h : y.toInt < x.toInt := h
    exact ⟨⟨ev_max_le h1 (by omega), h2⟩, ⟨h3, ev_le_min h4 (by omega)⟩⟩
  · have h : x.toInt ≤ y.toInt := h
    exact ⟨⟨h1, ev_le_min h2 (by omega)⟩, ⟨ev_max_le h3 (by omega), h4⟩⟩
def ev_neg (cd : Jvm.ClassFile.Cond) : Jvm.ClassFile.Cond := match cd with
  | .lt => .ge
  | .ge => .lt
  | .gt => .le
  | .le => .gt
  | .eq => .ne
  | .ne => .eq
theorem ev_neg_ok {cd : Jvm.ClassFile.Cond} {x y : Int} (h : ¬ ev_cd cd x y) : ev_cd (ev_neg cd) x y := by
  cases cd <;> simp only [ev_cd, ev_neg, ne_eq, Decidable.not_not] at h ⊢ <;> omega
/-- one side of a branch -/
def ev_side (cd : Jvm.ClassFile.Cond) (q r : Int × Int) (tq tr : ev_t) (pc : Nat) (L : List ev_l) (S : List ev_s) (FS : List ev_f) (RS : List ev_r) : List ev_S := match decide ((ev_cmp cd q r).1.1 ≤ (ev_cmp cd q r).1.2) && decide ((ev_cmp cd q r).2.1 ≤ (ev_cmp cd q r).2.2) with
  | true => [(pc, (ev_rf (ev_rf L FS tq (ev_cmp cd q r).1).1 (ev_rf L FS tq (ev_cmp cd q r).1).2 tr (ev_cmp cd q r).2).1, S, (ev_rf (ev_rf L FS tq (ev_cmp cd q r).1).1 (ev_rf L FS tq (ev_cmp cd q r).1).2 tr (ev_cmp cd q r).2).2, RS)]
  | false => []
/-- 'not 0', split where 0 lies within -/
def ev_sides (cd : Jvm.ClassFile.Cond) (q r : Int × Int) (tq tr : ev_t) (pc : Nat) (L : List ev_l) (S : List ev_s) (FS : List ev_f) (RS : List ev_r) : List ev_S := match decide (cd = .ne) && (decide (r = (0, 0)) && (decide (q.1 < 0) && decide (0 < q.2))) with
  | true => ev_side .ne (q.1, -1) r tq tr pc L S FS RS ++ ev_side .ne (1, q.2) r tq tr pc L S FS RS
  | false => ev_side cd q r tq tr pc L S FS RS
section EVB
variable {p : Program} {l : Launch} {e : Env} {R : Room} {s : State} {m : MethodId} {args : Array Value} {below : List Frame} {meth : Method} {c : Code} {Q : State → Prop} {cc : ByteArray} {D : va_G} {tys : List (ClassId × FieldType)} {T : en_T} {I : va_W → Prop} {aK aV b0 nL o : Nat} {ad : Nat → Nat} {w0 : va_W} {Wr : List (Nat × Nat)} {γ : Nat → Int}
variable {pc : Nat} {L : List ev_l} {S : List ev_s} {FS : List ev_f} {RS : List ev_r}
theorem ev_side_ok {cd : Jvm.ClassFile.Cond} {q r : Int × Int} {tq tr : ev_t} {pc' : Nat} {x y : Int32} {H : Heap} {locs : List Loc} {ls : Array Slot} {stk : List Value} {ws : va_W} (h : ev_at s D tys T I b0 nL ad w0 Wr γ L S FS RS H locs ls stk ws) (hx : en_in q x) (hy : en_in r y) (tx : ev_tag ls ws tq (.int x)) (ty : ev_tag ls ws tr (.int y)) (hc : ev_cd cd x.toInt y.toInt)
    (k : ∀ st ∈ ev_side cd q r tq tr pc' L S FS RS, ev_go p l e R s m args below meth c Q D tys T I b0 nL ad w0 Wr γ st) : W p l e R s m args below meth c H locs 0 0 Q (F0 m pc' ls stk) := by
  obtain ⟨h1, h2⟩ := ev_cmp_ok hx hy hc
  unfold ev_side at k
  have hb : (decide ((ev_cmp cd q r).1.1 ≤ (ev_cmp cd q r).1.2) && decide ((ev_cmp cd q r).2.1 ≤ (ev_cmp cd q r).2.2)) = true := by
    simp only [Bool.and_eq_true, decide_eq_true_eq]
    exact ⟨Int.le_trans h1.1 h1.2, Int.le_trans h2.1 h2.2⟩
  rw [hb] at k
  obtain ⟨⟨z1, z2, z3⟩, hl, hs, hf, hR, hr⟩ := h
  obtain ⟨a1, a2, a3⟩ := ev_rf_ok hl hf tx h1
  obtain ⟨c1, c2, c3⟩ := ev_rf_ok a2 a3 ty h2
  exact k _ List.mem_cons_self H locs ls stk ws ⟨⟨z1, z2, by dsimp only; rw [c1, a1]; exact z3⟩, c2, hs, c3, hR, hr⟩
theorem ev_sides_ok {cd : Jvm.ClassFile.Cond} {q r : Int × Int} {tq tr : ev_t} {pc' : Nat} {x y : Int32} {H : Heap} {locs : List Loc} {ls : Array Slot} {stk : List Value} {ws : va_W} (h : ev_at s D tys T I b0 nL ad w0 Wr γ L S FS RS H locs ls stk ws) (hx : en_in q x) (hy : en_in r y) (tx : ev_tag ls ws tq (.int x)) (ty : ev_tag ls ws tr (.int y)) (hc : ev_cd cd x.toInt y.toInt)
    (k : ∀ st ∈ ev_sides cd q r tq tr pc' L S FS RS, ev_go p l e R s m args below meth c Q D tys T I b0 nL ad w0 Wr γ st) : W p l e R s m args below meth c H locs 0 0 Q (F0 m pc' ls stk) := by
  unfold ev_sides at k
  split at k
  · rename_i hb
    simp only [Bool.and_eq_true, decide_eq_true_eq] at hb
    obtain ⟨b1, b2, b3, b4⟩ := hb
    subst b1
    subst b2
    have hc2 : x.toInt ≠ y.toInt := hc
    have h0 : y.toInt = 0 := by
      obtain ⟨e1, e2⟩ := hy
      dsimp only at e1 e2
      omega
    obtain ⟨e3, e4⟩ := hx
    rcases (show x.toInt ≤ -1 ∨ 1 ≤ x.toInt by omega) with hz | hz
    · exact ev_side_ok h (q := (q.1, -1)) ⟨e3, hz⟩ hy tx ty hc (fun st hst => k st (List.mem_append_left _ hst))
    · exact ev_side_ok h (q := (1, q.2)) ⟨hz, e4⟩ hy tx ty hc (fun st hst => k st (List.mem_append_right _ hst))
  · exact ev_side_ok h hx hy tx ty hc k
theorem en_tgt {pc : Nat} {off : Int} (h : decide (0 ≤ (pc : Int) + off) = true) : (pc : Int) + off = ((((pc : Int) + off).toNat : Nat) : Int) := by
  simp only [decide_eq_true_eq] at h
  omega
theorem fs_icmp (C : ev_cx p s m args meth c cc nL o D tys aK aV b0) {cd : Jvm.ClassFile.Cond} {off : Int} {q r : Int × Int} {tq tr : ev_t} (ht : decide (0 ≤ (pc : Int) + off) = true) (hd : decode cc pc = .ok (.if_icmp cd off, 3))
    (k : ∀ st ∈ ev_sides cd q r tq tr ((pc : Int) + off).toNat L S FS RS ++ ev_sides (ev_neg cd) q r tq tr (pc + 3) L S FS RS, ev_go p l e R s m args below meth c Q D tys T I b0 nL ad w0 Wr γ st) : ev_go p l e R s m args below meth c Q D tys T I b0 nL ad w0 Wr γ (pc, L, (.inl r, tr) :: (.inl q, tq) :: S, FS, RS) := by
  intro H locs ls stk ws h
  dsimp only at h
  obtain ⟨h0, hl, hs, hr⟩ := h
  obtain ⟨y0, ys, rfl, ⟨y, rfl, hy⟩, ty, hs1⟩ := ev_stk_cons hs
  obtain ⟨x0, zs, rfl, ⟨x, rfl, hx⟩, tx, hs2⟩ := ev_stk_cons hs1
  have kt : ev_cd cd x.toInt y.toInt → W p l e R s m args below meth c H locs 0 0 Q (F0 m ((pc : Int) + off).toNat ls zs) := fun hc => ev_sides_ok ⟨h0, hl, hs2, hr⟩ hx hy tx ty hc (fun st hst => k st (List.mem_append_left _ hst))
  have kf : ¬ ev_cd cd x.toInt y.toInt → W p l e R s m args below meth c H locs 0 0 Q (F0 m (pc + 3) ls zs) := fun hc => ev_sides_ok ⟨h0, hl, hs2, hr⟩ hx hy tx ty (ev_neg_ok hc) (fun st hst => k st (List.mem_append_right _ hst))
  cases cd
  · exact lv_icmp_eq C.1 C.2.1 hd (en_tgt ht) (fun h => kt ((fa_eq _ _).mp h)) (fun h => kf (fun h2 => h ((fa_eq _ _).mpr h2)))
  · exact lv_icmp_ne C.1 C.2.1 hd (en_tgt ht) (fun h => kt (fun h2 => h ((fa_eq _ _).mpr h2))) (fun h => kf (fun h2 => h2 ((fa_eq _ _).mp h)))
  · exact lv_icmp_lt C.1 C.2.1 hd (en_tgt ht) (fun h => kt ((fa_lt _ _).mp h)) (fun h => kf (fun h2 => h ((fa_lt _ _).mpr h2)))
  · exact lv_icmp_ge C.1 C.2.1 hd (en_tgt ht) (fun h => kt ((fa_le _ _).mp h)) (fun h => kf (fun h2 => h ((fa_le _ _).mpr h2)))
  · exact lv_icmp_gt C.1 C.2.1 hd (en_tgt ht) (fun h => kt ((fa_lt _ _).mp h)) (fun h => kf (fun h2 => h ((fa_lt _ _).mpr h2)))
  · exact lv_icmp_le C.1 C.2.1 hd (en_tgt ht) (fun h => kt ((fa_le _ _).mp h)) (fun h => kf (fun h2 => h ((fa_le _ _).mpr h2)))
theorem fs_if (C : ev_cx p s m args meth c cc nL o D tys aK aV b0) {cd : Jvm.ClassFile.Cond} {off : Int} {q : Int × Int} {tq : ev_t} (ht : decide (0 ≤ (pc : Int) + off) = true) (hd : decode cc pc = .ok (.ifCond cd off, 3))
    (k : ∀ st ∈ ev_sides cd q (0, 0) tq ev_nt ((pc : Int) + off).toNat L S FS RS ++ ev_sides (ev_neg cd) q (0, 0) tq ev_nt (pc + 3) L S FS RS, ev_go p l e R s m args below meth c Q D tys T I b0 nL ad w0 Wr γ st) : ev_go p l e R s m args below meth c Q D tys T I b0 nL ad w0 Wr γ (pc, L, (.inl q, tq) :: S, FS, RS) := by
  intro H locs ls stk ws h
  dsimp only at h
  obtain ⟨h0, hl, hs, hr⟩ := h
  obtain ⟨x0, zs, rfl, ⟨x, rfl, hx⟩, tx, hs2⟩ := ev_stk_cons hs
  have z0 : (0 : Int32).toInt = 0 := rfl
  have hy : en_in (0, 0) (0 : Int32) := ⟨by decide, by decide⟩
  have kt : ev_cd cd x.toInt (0 : Int32).toInt → W p l e R s m args below meth c H locs 0 0 Q (F0 m ((pc : Int) + off).toNat ls zs) := fun hc => ev_sides_ok ⟨h0, hl, hs2, hr⟩ hx hy tx ev_tag0 hc (fun st hst => k st (List.mem_append_left _ hst))
  have kf : ¬ ev_cd cd x.toInt (0 : Int32).toInt → W p l e R s m args below meth c H locs 0 0 Q (F0 m (pc + 3) ls zs) := fun hc => ev_sides_ok ⟨h0, hl, hs2, hr⟩ hx hy tx ev_tag0 (ev_neg_ok hc) (fun st hst => k st (List.mem_append_right _ hst))
  cases cd
  · exact lv_if_eq C.1 C.2.1 hd (en_tgt ht) (fun h => kt ((fa_eq _ _).mp h)) (fun h => kf (fun h2 => h ((fa_eq _ _).mpr h2)))
  · exact lv_if_ne C.1 C.2.1 hd (en_tgt ht) (fun h => kt (fun h2 => h ((fa_eq _ _).mpr h2))) (fun h => kf (fun h2 => h2 ((fa_eq _ _).mp h)))
  · exact lv_if_lt C.1 C.2.1 hd (en_tgt ht) (fun h => kt ((fa_lt _ _).mp h)) (fun h => kf (fun h2 => h ((fa_lt _ _).mpr h2)))
  · exact lv_if_ge C.1 C.2.1 hd (en_tgt ht) (fun h => kt ((fa_le _ _).mp h)) (fun h => kf (fun h2 => h ((fa_le _ _).mpr h2)))
  · exact lv_if_gt C.1 C.2.1 hd (en_tgt ht) (fun h => kt ((fa_lt _ _).mp h)) (fun h => kf (fun h2 => h ((fa_lt _ _).mpr h2)))
  · exact lv_if_le C.1 C.2.1 hd (en_tgt ht) (fun h => kt ((fa_le _ _).mp h)) (fun h => kf (fun h2 => h ((fa_le _ _).mpr h2)))
theorem fs_bin {pc' : Nat} (g : Int32 → Int32 → Int32) {q r u : Int × Int} {tq tr tu : ev_t} (hfg : ∀ (ls : Array Slot) (ws : va_W) (x y : Int32), en_in q x → en_in r y → ev_tag ls ws tq (.int x) → ev_tag ls ws tr (.int y) → en_in u (g x y) ∧ ev_tag ls ws tu (.int (g x y)))
    (row : ∀ (H : Heap) (locs : List Loc) (ls : Array Slot) (rest : List Value) (x y : Int32), en_in q x → en_in r y → W p l e R s m args below meth c H locs 0 0 Q (F0 m pc' ls (.int (g x y) :: rest)) → W p l e R s m args below meth c H locs 0 0 Q (F0 m pc ls (.int y :: .int x :: rest)))
    (k : ev_go p l e R s m args below meth c Q D tys T I b0 nL ad w0 Wr γ (pc', L, (.inl u, tu) :: S, FS, RS)) : ev_go p l e R s m args below meth c Q D tys T I b0 nL ad w0 Wr γ (pc, L, (.inl r, tr) :: (.inl q, tq) :: S, FS, RS) := by
  intro H locs ls stk ws h
  dsimp only at h
  obtain ⟨h0, hl, hs, hr⟩ := h
  obtain ⟨y0, ys, rfl, ⟨y, rfl, hy⟩, ty, hs1⟩ := ev_stk_cons hs
  obtain ⟨x0, zs, rfl, ⟨x, rfl, hx⟩, tx, hs2⟩ := ev_stk_cons hs1
  obtain ⟨e1, e2⟩ := hfg ls ws x y hx hy tx ty
  exact row H locs ls zs x y hx hy (k H locs ls (.int (g x y) :: zs) ws ⟨h0, hl, ⟨⟨⟨_, rfl, e1⟩, e2⟩, hs2⟩, hr⟩)
theorem ev_ta_ok {ls : Array Slot} {ws : va_W} {q r : Int × Int} {tq tr : ev_t} {x y : Int32} (hx : en_in q x) (hy : en_in r y) (tx : ev_tag ls ws tq (.int x)) (ty : ev_tag ls ws tr (.int y)) : ev_tag ls ws (ev_ta q r tq tr) (.int (x + y)) := by
  obtain ⟨h1, h2⟩ := hx
  obtain ⟨h3, h4⟩ := hy
  unfold ev_ta
  split
  · rename_i hb
    unfold ev_fit at hb
    simp only [Bool.and_eq_true, decide_eq_true_eq] at hb
    have e := fb_addI (x := x) (y := y) (by omega) (by omega)
    split
    · rename_i hc
      simp only [decide_eq_true_eq] at hc
      exact ev_sh_ok tx (by omega)
    · split
      · rename_i hc
        simp only [decide_eq_true_eq] at hc
        exact ev_sh_ok ty (by omega)
      · exact ev_tag0
  · exact ev_tag0
theorem ev_ts_ok {ls : Array Slot} {ws : va_W} {q r : Int × Int} {tq : ev_t} {x y : Int32} (hx : en_in q x) (hy : en_in r y) (tx : ev_tag ls ws tq (.int x)) : ev_tag ls ws (ev_ts q r tq) (.int (x - y)) := by
  obtain ⟨h1, h2⟩ := hx
  obtain ⟨h3, h4⟩ := hy
  unfold ev_ts
  split
  · rename_i hb
    unfold ev_fit at hb
    simp only [Bool.and_eq_true, decide_eq_true_eq] at hb
    have e := fb_subI (x := x) (y := y) (by omega) (by omega)
    exact ev_sh_ok tx (by omega)
  · exact ev_tag0
theorem fs_dup (C : ev_cx p s m args meth c cc nL o D tys aK aV b0) {a : ev_s} (hd : decode cc pc = .ok (.dup, 1)) (k : ev_go p l e R s m args below meth c Q D tys T I b0 nL ad w0 Wr γ (pc + 1, L, a :: a :: S, FS, RS)) : ev_go p l e R s m args below meth c Q D tys T I b0 nL ad w0 Wr γ (pc, L, a :: S, FS, RS) := by
  intro H locs ls stk ws h
  dsimp only at h
  obtain ⟨h0, hl, hs, hr⟩ := h
  obtain ⟨x, ys, rfl, hx, tx, hs1⟩ := ev_stk_cons hs
  exact lv_dup C.1 C.2.1 hd (en_v_cat hx) (k H locs ls (x :: x :: ys) ws ⟨h0, hl, ⟨⟨hx, tx⟩, ⟨hx, tx⟩, hs1⟩, hr⟩)
theorem fs_dup2 (C : ev_cx p s m args meth c cc nL o D tys aK aV b0) {a b : ev_s} (hd : decode cc pc = .ok (.dup2, 1)) (k : ev_go p l e R s m args below meth c Q D tys T I b0 nL ad w0 Wr γ (pc + 1, L, a :: b :: a :: b :: S, FS, RS)) : ev_go p l e R s m args below meth c Q D tys T I b0 nL ad w0 Wr γ (pc, L, a :: b :: S, FS, RS) := by
  intro H locs ls stk ws h
  dsimp only at h
  obtain ⟨h0, hl, hs, hr⟩ := h
  obtain ⟨x, ys, rfl, hx, tx, hs1⟩ := ev_stk_cons hs
  obtain ⟨y, zs, rfl, hy, ty, hs2⟩ := ev_stk_cons hs1
  exact lv_dup2_11 C.1 C.2.1 hd (en_v_cat hx) (en_v_cat hy) (k H locs ls (x :: y :: x :: y :: zs) ws ⟨h0, hl, ⟨⟨hx, tx⟩, ⟨hy, ty⟩, ⟨hx, tx⟩, ⟨hy, ty⟩, hs2⟩, hr⟩)
theorem fs_pop (C : ev_cx p s m args meth c cc nL o D tys aK aV b0) {a : ev_s} (hd : decode cc pc = .ok (.pop, 1)) (k : ev_go p l e R s m args below meth c Q D tys T I b0 nL ad w0 Wr γ (pc + 1, L, S, FS, RS)) : ev_go p l e R s m args below meth c Q D tys T I b0 nL ad w0 Wr γ (pc, L, a :: S, FS, RS) := by
  intro H locs ls stk ws h
  dsimp only at h
  obtain ⟨h0, hl, hs, hr⟩ := h
  obtain ⟨x, ys, rfl, hx, tx, hs1⟩ := ev_stk_cons hs
  exact lv_pop C.1 C.2.1 hd (en_v_cat hx) (k H locs ls ys ws ⟨h0, hl, hs1, hr⟩)
theorem fs_un {pc' : Nat} {q r : Int × Int} {tq tr : ev_t} (g : Int32 → Int32) (hg : ∀ x, en_in q x → en_in r (g x)) (ht : tr = ev_nt)
    (row : ∀ (H : Heap) (locs : List Loc) (ls : Array Slot) (rest : List Value) (x : Int32), W p l e R s m args below meth c H locs 0 0 Q (F0 m pc' ls (.int (g x) :: rest)) → W p l e R s m args below meth c H locs 0 0 Q (F0 m pc ls (.int x :: rest)))
    (k : ev_go p l e R s m args below meth c Q D tys T I b0 nL ad w0 Wr γ (pc', L, (.inl r, tr) :: S, FS, RS)) : ev_go p l e R s m args below meth c Q D tys T I b0 nL ad w0 Wr γ (pc, L, (.inl q, tq) :: S, FS, RS) := by
  intro H locs ls stk ws h
  dsimp only at h
  obtain ⟨h0, hl, hs, hr⟩ := h
  obtain ⟨y0, ys, rfl, ⟨y, rfl, hy⟩, ty, hs1⟩ := ev_stk_cons hs
  exact row H locs ls ys y (k H locs ls (.int (g y) :: ys) ws ⟨h0, hl, ⟨⟨⟨_, rfl, hg y hy⟩, by rw [ht]; exact ev_tag0⟩, hs1⟩, hr⟩)
theorem fs_goto (C : ev_cx p s m args meth c cc nL o D tys aK aV b0) {off : Int} (ht : decide (0 ≤ (pc : Int) + off) = true) (hd : decode cc pc = .ok (.goto off, 3)) (k : ev_go p l e R s m args below meth c Q D tys T I b0 nL ad w0 Wr γ (((pc : Int) + off).toNat, L, S, FS, RS)) : ev_go p l e R s m args below meth c Q D tys T I b0 nL ad w0 Wr γ (pc, L, S, FS, RS) := by
  intro H locs ls stk ws h
  exact lv_goto C.1 C.2.1 hd (en_tgt ht) (k H locs ls stk ws h)
/-- a value is split at cuts: the state once for each piece -/
def ev_cut (q : Int × Int) : List Int → List (Int × Int)
  | [] => [q]
  | c :: cs => match decide (q.1 ≤ c) && decide (c < q.2) with
    | true => (q.1, c) :: ev_cut (c + 1, q.2) cs
    | false => ev_cut q cs
theorem ev_cut_ok {x : Int32} : ∀ {cs : List Int} {q : Int × Int}, en_in q x → ∃ u ∈ ev_cut q cs, en_in u x
  | [], q, h => ⟨q, List.mem_cons_self, h⟩
  | c :: cs, q, h => by
    unfold ev_cut
    split
    · rcases Int.lt_or_le c x.toInt with hc | hc
      · obtain ⟨u, h1, h2⟩ := ev_cut_ok (cs := cs) (q := (c + 1, q.2)) ⟨hc, h.2⟩
        exact ⟨u, List.mem_cons_of_mem _ h1, h2⟩
      · exact ⟨(q.1, c), List.mem_cons_self, ⟨h.1, hc⟩⟩
    · exact ev_cut_ok h
end EVB
theorem en_clamp {i : Int32} {n : Nat} (h0 : 0 ≤ i.toInt) (h : i.toInt < n) : i.toNatClampNeg < n := by
  show i.toInt.toNat < n
  omega
theorem en_vp_nar {ty : FieldType} {x : Int32} (h : narrow ty (.int x) = .int x) : vp_nar ty x = x := by
  unfold vp_nar
  rw [h]
theorem en_nar_z {x : Int32} (h1 : 0 ≤ x.toInt) (h2 : x.toInt ≤ 1) : narrow .boolean (.int x) = .int x := by
  rcases (show x.toInt = 0 ∨ x.toInt = 1 by omega) with q | q
  · rw [show x = 0 from (fa_eq _ _).mpr q]; rfl
  · rw [show x = 1 from (fa_eq _ _).mpr q]; rfl
theorem en_nar_b {x : Int32} (h1 : -128 ≤ x.toInt) (h2 : x.toInt ≤ 127) : vp_nar .byte x = x := by
  rw [vp_nar_byte, fa_eq]
  have e : (x.toInt8.toInt32).toInt = x.toInt8.toInt := by simp
  rw [e]
  have e2 : x.toInt8.toInt = x.toInt.bmod (2 ^ 8) := by simp
  rw [e2]
  exact Int.bmod_eq_of_le (by omega) (by omega)
theorem en_fl_w {o i ci f : Nat} {r : vw_C} (h : en_find o i en_fl = some (ci, f)) (hr : vwCl[ci]? = some r) : Cond.fieldLink (en_nm o) i (r.2.1 f).1 (r.2.1 f).2.1 (r.2.1 f).2.2.1 ∈ en_ws := by
  have h1 := en_fl_in _ (List.mem_map.mpr ⟨(o, i, ci, f), en_find_mem h, rfl⟩)
  have h2 : en_fw (o, i, ci, f) = Cond.fieldLink (en_nm o) i (r.2.1 f).1 (r.2.1 f).2.1 (r.2.1 f).2.2.1 := by
    show (match vwCl[ci]? with
      | some r => _
      | none => _) = _
    rw [hr]
  rw [h2] at h1
  exact en_ws_in h1 rfl
theorem en_lay_good (C : String) (F : u_T) (k : Nat) : goodWord (u_lay C F k) = true := by
  unfold u_lay
  split <;> rfl
theorem en_cls_ws {ci : Nat} {r : vw_C} (h : vwCl[ci]? = some r) : ∀ w ∈ u_ws r.1 r.2.1 r.2.2, w ∈ en_ws := fun w hw => en_ws_in ((en_cls ci r h).1 w hw) (by
  obtain ⟨k, -, rfl⟩ := List.mem_map.mp hw
  exact en_lay_good _ _ _)
def ev_hs (W1 : List (Nat × Nat)) (a : ev_s) : ev_s := match ev_hit W1 (a.2.1, a.2.2.1, a.2.2.2.1) with
  | true => (a.1, ev_nt)
  | false => a
def ev_hf (W1 : List (Nat × Nat)) (FS : List ev_f) : List ev_f := FS.filter (fun f => !ev_hit W1 f.1)
theorem ev_hs_ok {N : Nat} {ad : Nat → Nat} {ls : Array Slot} {w w' : va_W} {W1 : List (Nat × Nat)} (hw : ev_fr W1 w w') : ∀ {as : List ev_s} {xs : List Value}, ev_stk N ad ls w as xs → ev_stk N ad ls w' (as.map (ev_hs W1)) xs
  | [], [], _ => trivial
  | a :: as, x :: xs, h => by
    refine ⟨?_, ev_hs_ok hw h.2⟩
    unfold ev_hs
    split
    · exact ⟨h.1.1, ev_tag0⟩
    · rename_i hq
      refine ⟨h.1.1, ?_⟩
      rcases h.1.2 with h0 | ⟨u, y, e1, e2, e3⟩
      · exact Or.inl h0
      · exact Or.inr ⟨u, y, e1, ev_loc_fr hw hq e2, e3⟩
  | [], _ :: _, h => h.elim
  | _ :: _, [], h => h.elim
theorem ev_hf_ok {γ : Nat → Int} {ls : Array Slot} {w w' : va_W} {W1 : List (Nat × Nat)} (hw : ev_fr W1 w w') {FS : List ev_f} (h : ∀ f ∈ FS, ev_fact γ ls w f) : ∀ f ∈ ev_hf W1 FS, ev_fact γ ls w' f := by
  intro f hf
  obtain ⟨h1, h2⟩ := List.mem_filter.mp hf
  obtain ⟨x, h3, h4⟩ := h f h1
  exact ⟨x, ev_loc_fr hw (by simpa using h2) h3, h4⟩
def ev_fq (FS : List ev_f) (q : Nat × Nat × Nat) (b : Int × Int) : Int × Int := match ev_lk FS q with
  | some u => ev_meet b u.1
  | none => b
theorem ev_fq_ok {γ : Nat → Int} {ls : Array Slot} {ws : va_W} {FS : List ev_f} {q : Nat × Nat × Nat} {b : Int × Int} {x : Int32} (hf : ∀ f ∈ FS, ev_fact γ ls ws f) (hx : ev_loc ls ws q x) (hb : en_in b x) : en_in (ev_fq FS q b) x := by
  unfold ev_fq
  split
  · rename_i u hu
    obtain ⟨y, g1, g2, -⟩ := ev_lk_ok hf hu
    have e := ev_loc_one g1 hx
    subst e
    exact ev_meet_in hb g2
  · exact hb
theorem ev_vs_fe {N : Nat} {ad : Nat → Nat} : ∀ {as : List en_V} {xs : List Value} {f : Nat} {a : en_V} {x : Value}, en_vs N ad as xs → as[f]? = some a → en_v N ad a x → en_vs N ad as (xs.set f x)
  | [], [], _, _, _, _, hf, _ => by simp at hf
  | a0 :: as, x0 :: xs, 0, a, x, h, hf, hx => by
    rw [List.getElem?_cons_zero] at hf
    cases hf
    exact ⟨hx, h.2⟩
  | a0 :: as, x0 :: xs, f + 1, a, x, h, hf, hx => by
    rw [List.getElem?_cons_succ] at hf
    exact ⟨h.1, ev_vs_fe h.2 hf hx⟩
  | [], _ :: _, _, _, _, h, _, _ => h.elim
  | _ :: _, [], _, _, _, h, _, _ => h.elim
/-- one cell is written as its type allows -/
theorem ev_w_set {tys : List (ClassId × FieldType)} {T : en_T} {ad : Nat → Nat} {ws : va_W} {j : Nat} {t : en_C} {e : va_E} (h : ev_w tys T ad ws) (hj : T[j]? = some t) (he : ev_c tys T.length ad t e) : ev_w tys T ad (ws.set j (ad j, e)) := by
  obtain ⟨h1, h2⟩ := h
  refine ⟨by rw [List.length_set]; exact h1, fun k u hk => ?_⟩
  by_cases hkj : k = j
  · subst hkj
    rw [hj] at hk
    cases hk
    have hlt := (List.getElem?_eq_some_iff.mp hj).1
    exact ⟨e, List.getElem?_set_self (by omega), he⟩
  · rw [List.getElem?_set_ne (Ne.symm hkj)]
    exact h2 k u hk
theorem ev_fr_set {W1 : List (Nat × Nat)} {ws : va_W} {j a : Nat} {e0 e : va_E} (h0 : ws[j]? = some (a, e0)) (he : ev_fe W1 j e0 e) : ev_fr W1 ws (ws.set j (a, e)) := by
  refine ⟨List.length_set.symm, fun k q0 q hq0 hq => ?_⟩
  by_cases hkj : k = j
  · subst hkj
    rw [List.getElem?_set_self (List.getElem?_eq_some_iff.mp h0).1] at hq
    cases hq
    rw [h0] at hq0
    cases hq0
    exact ⟨rfl, he⟩
  · rw [List.getElem?_set_ne (Ne.symm hkj), hq0] at hq
    cases hq
    exact ⟨rfl, ev_fe.rf _ _ _⟩
def ev_hI (I : va_W → Prop) (sp : List (Nat × Nat)) : Prop := ∀ (W1 : List (Nat × Nat)) (w w' : va_W), (∀ q ∈ W1, q ∉ sp) → ev_fr W1 w w' → I w → I w'
section EVH
variable {p : Program} {l : Launch} {e : Env} {R : Room} {s : State} {m : MethodId} {args : Array Value} {below : List Frame} {meth : Method} {c : Code} {Q : State → Prop} {cc : ByteArray} {D : va_G} {tys : List (ClassId × FieldType)} {T : en_T} {I : va_W → Prop} {sp : List (Nat × Nat)} {aK aV b0 nL o : Nat} {ad : Nat → Nat} {w0 : va_W} {Wr : List (Nat × Nat)} {γ : Nat → Int}
variable {pc : Nat} {L : List ev_l} {S : List ev_s} {FS : List ev_f} {RS : List ev_r}
theorem fs_geti (C : ev_cx p s m args meth c cc nL o D tys aK aV b0) {i ci f j : Nat} {fs : List en_V} {b : Int × Int} {r : vw_C} (hf : en_find o i en_fl = some (ci, f)) (hr0 : vwCl[ci]? = some r) (hfN : f < r.2.2) (ht : T[j]? = some (.inr (ci, fs))) (ha : fs[f]? = some (.inl b)) {t : ev_t} (hd : decode cc pc = .ok (.getfield i, 3)) (k : ev_go p l e R s m args below meth c Q D tys T I b0 nL ad w0 Wr γ (pc + 3, L, (.inl (ev_fq FS (2, j, f) b), (2, j, f, 0)) :: S, FS, RS)) : ev_go p l e R s m args below meth c Q D tys T I b0 nL ad w0 Wr γ (pc, L, (.inr (j + 2), t) :: S, FS, RS) := by
  intro H locs ls stk ws h
  dsimp only at h
  obtain ⟨h0, hl, hs, hF, hR, hw, hI, hP, hD, hS, hfr⟩ := h
  obtain ⟨x, ys, rfl, hx, -, hs1⟩ := ev_stk_cons hs
  obtain ⟨rfl, hj⟩ : x = .ref (ad j) ∧ j < T.length := hx
  obtain ⟨e0, g1, vs, rfl, g2⟩ := hw.2 j _ ht
  obtain ⟨v, g3, z, rfl, g4⟩ := en_vs_get g2 ha
  have hloc : ev_loc ls ws (2, j, f) z := ⟨_, _, _, g1, g3⟩
  refine va_get (C := r.1) (T := r.2.1) (N := r.2.2) C.1 C.2.1 C.2.2.2.2.1 (en_cls_ws hr0) C.2.2.2.1 C.2.2.2.2.2.1 hP j g1 hr0 f hfN (C.2.2.2.2.1 _ (en_fl_w hf hr0)) (fun x h => h) g3 hd ?_
  exact k H locs ls (.int z :: ys) ws ⟨h0, hl, ⟨⟨⟨z, rfl, ev_fq_ok hF hloc g4⟩, Or.inr ⟨z, z, rfl, hloc, by dsimp only; omega⟩⟩, hs1⟩, hF, hR, hw, hI, hP, hD, hS, hfr⟩
theorem fs_getr (C : ev_cx p s m args meth c cc nL o D tys aK aV b0) {i ci f j n : Nat} {fs : List en_V} {r : vw_C} (hf : en_find o i en_fl = some (ci, f)) (hr0 : vwCl[ci]? = some r) (hfN : f < r.2.2) (ht : T[j]? = some (.inr (ci, fs))) (ha : fs[f]? = some (.inr n)) {t : ev_t} (hd : decode cc pc = .ok (.getfield i, 3)) (k : ev_go p l e R s m args below meth c Q D tys T I b0 nL ad w0 Wr γ (pc + 3, L, (.inr n, ev_nt) :: S, FS, RS)) : ev_go p l e R s m args below meth c Q D tys T I b0 nL ad w0 Wr γ (pc, L, (.inr (j + 2), t) :: S, FS, RS) := by
  intro H locs ls stk ws h
  dsimp only at h
  obtain ⟨h0, hl, hs, hF, hR, hw, hI, hP, hD, hS, hfr⟩ := h
  obtain ⟨x, ys, rfl, hx, -, hs1⟩ := ev_stk_cons hs
  obtain ⟨rfl, hj⟩ : x = .ref (ad j) ∧ j < T.length := hx
  obtain ⟨e0, g1, vs, rfl, g2⟩ := hw.2 j _ ht
  obtain ⟨v, g3, g4⟩ := en_vs_get g2 ha
  refine va_get (C := r.1) (T := r.2.1) (N := r.2.2) C.1 C.2.1 C.2.2.2.2.1 (en_cls_ws hr0) C.2.2.2.1 C.2.2.2.2.2.1 hP j g1 hr0 f hfN (C.2.2.2.2.1 _ (en_fl_w hf hr0)) (fun x h => h) g3 hd ?_
  exact k H locs ls (v :: ys) ws ⟨h0, hl, ⟨⟨g4, ev_tag0⟩, hs1⟩, hF, hR, hw, hI, hP, hD, hS, hfr⟩
/-- what is known of a field behind a write -/
def ev_pg (FS : List ev_f) (j f : Nat) (t : ev_t) : Option (Nat × Int) := match t.1 == 2 && (t.2.1 == j && t.2.2.1 == f) with
  | true => match ev_lk FS (2, j, f) with
    | some u => ev_gs u.2 t.2.2.2
    | none => none
  | false => none
theorem fs_puti (C : ev_cx p s m args meth c cc nL o D tys aK aV b0) (hI0 : ev_hI I sp) {i ci f j : Nat} {fs : List en_V} {b v : Int × Int} {r : vw_C} (hf : en_find o i en_fl = some (ci, f)) (hr0 : vwCl[ci]? = some r) (hfN : f < r.2.2) (ht : T[j]? = some (.inr (ci, fs))) (ha : fs[f]? = some (.inl b)) (hle : en_le (.inl v) (.inl b) = true) (hput : en_put (en_tyX ci f) (.inl v) = true) (hfin : (r.2.1 f).2.2.2 = false) (hwr : (j, f) ∈ Wr) (hsp : (j, f) ∉ sp) {t tv : ev_t} (hd : decode cc pc = .ok (.putfield i, 3))
    (k : ev_go p l e R s m args below meth c Q D tys T I b0 nL ad w0 Wr γ (pc + 3, L, S.map (ev_hs [(j, f)]), ((2, j, f), v, ev_pg FS j f tv) :: ev_hf [(j, f)] FS, RS)) : ev_go p l e R s m args below meth c Q D tys T I b0 nL ad w0 Wr γ (pc, L, (.inl v, tv) :: (.inr (j + 2), t) :: S, FS, RS) := by
  intro H locs ls stk ws h
  dsimp only at h
  obtain ⟨h0, hl, hs, hF, hR, hw, hI, hP, hD, hS, hfr⟩ := h
  obtain ⟨v0, us, rfl, hv, htv, hs0⟩ := ev_stk_cons hs
  obtain ⟨x, ys, rfl, hx, -, hs1⟩ := ev_stk_cons hs0
  obtain ⟨rfl, hj⟩ : x = .ref (ad j) ∧ j < T.length := hx
  obtain ⟨e0, g1, vs, rfl, g2⟩ := hw.2 j _ ht
  obtain ⟨old, g3, zo, rfl, g4⟩ := en_vs_get g2 ha
  obtain ⟨q1, q2⟩ := en_put_ok hput hv
  have hc := en_cls ci r hr0
  have hlen : f < vs.length := (List.getElem?_eq_some_iff.mp g3).1
  have hvb := en_le_ok hle hv
  obtain ⟨z, rfl, hz⟩ := hv
  refine va_put (C := r.1) (T := r.2.1) (N := r.2.2) C.1 C.2.1 C.2.2.2.2.1 (en_cls_ws hr0) (en_tyX ci) hc.2.1 hc.2.2 C.2.2.2.1 C.2.2.2.2.2.1 hP hD hS j g1 hr0 f hfN (C.2.2.2.2.1 _ (en_fl_w hf hr0)) (fun x h => h) hfin (hc.2.1 f hfN) q1 q2 hlen hd (fun H1 locs1 hP1 hD1 hS1 => ?_)
  have hfe : ev_fe [(j, f)] j (.inr (ci, vs)) (.inr (ci, vs.set f (.int z))) := ⟨rfl, by dsimp only; rw [List.length_set], fun f' hf' => by
    have hne : f' ≠ f := fun e => hf' (by rw [e]; exact List.mem_cons_self)
    dsimp only
    rw [List.getElem?_set_ne (Ne.symm hne)]⟩
  have hf1 := ev_fr_set g1 hfe
  refine k H1 locs1 ls ys _ ⟨h0, hl, ev_hs_ok hf1 hs1, fun g hg => ?_, hR, ev_w_set hw ht ⟨_, rfl, ev_vs_fe g2 ha hvb⟩, hI0 [(j, f)] _ _ (fun q hq => by rw [List.mem_singleton.mp hq]; exact hsp) hf1 hI, hP1, hD1, hS1, hfr.tr hf1 (fun q hq => by rw [List.mem_singleton.mp hq]; exact hwr)⟩
  rcases List.mem_cons.mp hg with rfl | hg
  · refine ⟨z, ⟨_, _, _, List.getElem?_set_self (List.getElem?_eq_some_iff.mp g1).1, List.getElem?_set_self hlen⟩, hz, ?_⟩
    dsimp only
    unfold ev_pg
    split
    · rename_i hb
      simp only [Bool.and_eq_true, beq_iff_eq] at hb
      split
      · rename_i u hu
        rcases htv with h9 | ⟨i1, y1, e1, e2, e3⟩
        · dsimp only at h9
          rw [hb.1] at h9
          cases h9
        · cases e1
          dsimp only at e2 e3
          rw [hb.1, hb.2.1, hb.2.2] at e2
          obtain ⟨y2, d1, d2, d3⟩ := ev_lk_ok hF hu
          have e := ev_loc_one d1 e2
          subst e
          exact ev_gs_ok d3 e3
      · trivial
    · trivial
  · exact ev_hf_ok hf1 hF g hg
def ev_ix (t : ev_t) : Option Nat := match t.1 == 1 && decide (t.2.2.2 = 0) with
  | true => some t.2.1
  | false => none
def ev_rq (FS : List ev_f) (j : Nat) (t : ev_t) (b : Int × Int) : ev_s := match ev_ix t with
  | some i => (.inl (ev_fq FS (3, j, i) b), (3, j, i, 0))
  | none => (.inl b, ev_nt)
theorem ev_ix_ok {ls : Array Slot} {ws : va_W} {t : ev_t} {i : Nat} {y : Int32} (h : ev_ix t = some i) (ht : ev_tag ls ws t (.int y)) : ls[i]? = some (.val (.int y)) := by
  unfold ev_ix at h
  split at h
  · rename_i hb
    simp only [Bool.and_eq_true, beq_iff_eq, decide_eq_true_eq] at hb
    cases h
    rcases ht with h0 | ⟨u, z, e1, e2, e3⟩
    · rw [hb.1] at h0; cases h0
    · cases e1
      rw [hb.1] at e2
      have e2 : ls[t.2.1]? = some (.val (.int z)) := e2
      have e : y = z := (fa_eq _ _).mpr (by omega)
      rw [e]
      exact e2
  · cases h
theorem fs_ald {j : Nat} {t : Nat × Nat × Int × Int} {q : Int × Int} {tq ta : ev_t} (ht : T[j]? = some (.inl t)) (h3 : t.1 ≠ 3) (h0 : 0 ≤ q.1) (h1 : q.2 < t.2.1)
    (row : ∀ (H : Heap) (locs : List Loc) (ls : Array Slot) (rest : List Value) (ws : va_W) (a : Nat) (cA : ClassId) (f : Nat → Int32) (i : Int32), va_P D vwCl ws H → ws[j]? = some (a, .inl (cA, t.2.1, .inl f)) → tys[t.1]? = some (cA, en_ty t.1) → vp_in i t.2.1 → W p l e R s m args below meth c H locs 0 0 Q (F0 m (pc + 1) ls (.int (f i.toNatClampNeg) :: rest)) → W p l e R s m args below meth c H locs 0 0 Q (F0 m pc ls (.int i :: .ref a :: rest)))
    (k : ev_go p l e R s m args below meth c Q D tys T I b0 nL ad w0 Wr γ (pc + 1, L, ev_rq FS j tq t.2.2 :: S, FS, RS)) : ev_go p l e R s m args below meth c Q D tys T I b0 nL ad w0 Wr γ (pc, L, (.inl q, tq) :: (.inr (j + 2), ta) :: S, FS, RS) := by
  intro H locs ls stk ws h
  dsimp only at h
  obtain ⟨hz, hl, hs, hF, hR, hw, hI, hP, hD, hS, hfr⟩ := h
  obtain ⟨x0, ys, rfl, ⟨i, rfl, hi⟩, hti, hs1⟩ := ev_stk_cons hs
  obtain ⟨x, zs, rfl, hx, -, hs2⟩ := ev_stk_cons hs1
  obtain ⟨rfl, hj⟩ : x = .ref (ad j) ∧ j < T.length := hx
  obtain ⟨e0, g1, ge⟩ := hw.2 j _ ht
  unfold ev_c at ge
  dsimp only at ge
  rw [if_neg h3] at ge
  obtain ⟨cA, f, rfl, g2, g3⟩ := ge
  have i0 : 0 ≤ i.toInt := by have := hi.1; omega
  have i1 : i.toInt < t.2.1 := by have := hi.2; omega
  refine row H locs ls zs ws (ad j) cA f i hP g1 g2 (vp_in_iff.mpr ⟨i0, i1⟩) (k H locs ls (.int (f i.toNatClampNeg) :: zs) ws ⟨hz, hl, ⟨?_, hs2⟩, hF, hR, hw, hI, hP, hD, hS, hfr⟩)
  unfold ev_rq
  split
  · rename_i b hb
    have hloc : ev_loc ls ws (3, j, b) (f i.toNatClampNeg) := ⟨_, _, _, _, i, g1, ev_ix_ok hb hti, i0, i1, rfl⟩
    exact ⟨⟨_, rfl, ev_fq_ok hF hloc (g3 _ (en_clamp i0 i1))⟩, Or.inr ⟨_, _, rfl, hloc, by dsimp only; omega⟩⟩
  · exact ⟨⟨_, rfl, g3 _ (en_clamp i0 i1)⟩, ev_tag0⟩
def ev_sf (FS : List ev_f) (j : Nat) (t : ev_t) (v : Int × Int) : List ev_f := match ev_ix t with
  | some i => ((3, j, i), v, none) :: ev_hf [(j, 999)] FS
  | none => ev_hf [(j, 999)] FS
theorem fs_ast (hI0 : ev_hI I sp) {j : Nat} {t : Nat × Nat × Int × Int} {q v : Int × Int} {tv tq ta : ev_t} (ht : T[j]? = some (.inl t)) (h3 : t.1 ≠ 3) (h0 : 0 ≤ q.1) (h1 : q.2 < t.2.1) (hv0 : t.2.2.1 ≤ v.1) (hv1 : v.2 ≤ t.2.2.2) (hwr : (j, 999) ∈ Wr) (hsp : (j, 999) ∉ sp)
    (row : ∀ (H : Heap) (locs : List Loc) (ls : Array Slot) (rest : List Value) (ws : va_W) (a : Nat) (cA : ClassId) (f : Nat → Int32) (i x : Int32), en_in v x → va_P D vwCl ws H → va_D (fun q => b0 ≤ q) ws → va_S (fun q => b0 ≤ q) s.heap H locs → ws[j]? = some (a, .inl (cA, t.2.1, .inl f)) → tys[t.1]? = some (cA, en_ty t.1) → vp_in i t.2.1 →
      (∀ (H1 : Heap) (locs1 : List Loc), va_P D vwCl (ws.set j (a, .inl (cA, t.2.1, .inl (upd f i.toNatClampNeg x)))) H1 → va_D (fun q => b0 ≤ q) (ws.set j (a, .inl (cA, t.2.1, .inl (upd f i.toNatClampNeg x)))) → va_S (fun q => b0 ≤ q) s.heap H1 locs1 → W p l e R s m args below meth c H1 locs1 0 0 Q (F0 m (pc + 1) ls rest)) → W p l e R s m args below meth c H locs 0 0 Q (F0 m pc ls (.int x :: .int i :: .ref a :: rest)))
    (k : ev_go p l e R s m args below meth c Q D tys T I b0 nL ad w0 Wr γ (pc + 1, L, S.map (ev_hs [(j, 999)]), ev_sf FS j tq v, RS)) : ev_go p l e R s m args below meth c Q D tys T I b0 nL ad w0 Wr γ (pc, L, (.inl v, tv) :: (.inl q, tq) :: (.inr (j + 2), ta) :: S, FS, RS) := by
  intro H locs ls stk ws h
  dsimp only at h
  obtain ⟨hz, hl, hs, hF, hR, hw, hI, hP, hD, hS, hfr⟩ := h
  obtain ⟨x9, us, rfl, ⟨x, rfl, hx⟩, -, hs0⟩ := ev_stk_cons hs
  obtain ⟨x0, ys, rfl, ⟨i, rfl, hi⟩, hti, hs1⟩ := ev_stk_cons hs0
  obtain ⟨xa, zs, rfl, hxa, -, hs2⟩ := ev_stk_cons hs1
  obtain ⟨rfl, hj⟩ : xa = .ref (ad j) ∧ j < T.length := hxa
  obtain ⟨e0, g1, ge⟩ := hw.2 j _ ht
  have ge0 := ge
  unfold ev_c at ge
  dsimp only at ge
  rw [if_neg h3] at ge
  obtain ⟨cA, f, rfl, g2, g3⟩ := ge
  have i0 : 0 ≤ i.toInt := by have := hi.1; omega
  have i1 : i.toInt < t.2.1 := by have := hi.2; omega
  refine row H locs ls zs ws (ad j) cA f i x hx hP hD hS g1 g2 (vp_in_iff.mpr ⟨i0, i1⟩) (fun H1 locs1 hP1 hD1 hS1 => ?_)
  have hf1 : ev_fr [(j, 999)] ws (ws.set j (ad j, .inl (cA, t.2.1, .inl (upd f i.toNatClampNeg x)))) := ev_fr_set g1 (Or.inl List.mem_cons_self)
  have hc : ev_c tys T.length ad (.inl t) (.inl (cA, t.2.1, .inl (upd f i.toNatClampNeg x))) := by
    unfold ev_c
    dsimp only
    rw [if_neg h3]
    refine ⟨cA, _, rfl, g2, fun k hk => ?_⟩
    unfold upd
    split
    · exact ⟨by have := hx.1; omega, by have := hx.2; omega⟩
    · exact g3 k hk
  refine k H1 locs1 ls zs _ ⟨hz, hl, ev_hs_ok hf1 hs2, fun g hg => ?_, hR, ev_w_set hw ht hc, hI0 [(j, 999)] _ _ (fun q hq => by rw [List.mem_singleton.mp hq]; exact hsp) hf1 hI, hP1, hD1, hS1, hfr.tr hf1 (fun q hq => by rw [List.mem_singleton.mp hq]; exact hwr)⟩
  dsimp only at hg
  unfold ev_sf at hg
  split at hg
  · rename_i b hb
    rcases List.mem_cons.mp hg with rfl | hg
    · refine ⟨x, ⟨_, _, _, _, i, List.getElem?_set_self (List.getElem?_eq_some_iff.mp g1).1, ev_ix_ok hb hti, i0, i1, ?_⟩, hx, trivial⟩
      unfold upd
      rw [if_pos rfl]
    · exact ev_hf_ok hf1 hF g hg
  · exact ev_hf_ok hf1 hF g hg
theorem fs_alen (C : ev_cx p s m args meth c cc nL o D tys aK aV b0) {j : Nat} {t : Nat × Nat × Int × Int} {ta : ev_t} (ht : T[j]? = some (.inl t)) (h3 : t.1 ≠ 3) (hn : t.2.1 < 2147483648) (hd : decode cc pc = .ok (.arraylength, 1)) (k : ev_go p l e R s m args below meth c Q D tys T I b0 nL ad w0 Wr γ (pc + 1, L, (.inl ((t.2.1 : Int), (t.2.1 : Int)), ev_nt) :: S, FS, RS)) : ev_go p l e R s m args below meth c Q D tys T I b0 nL ad w0 Wr γ (pc, L, (.inr (j + 2), ta) :: S, FS, RS) := by
  intro H locs ls stk ws h
  dsimp only at h
  obtain ⟨hz, hl, hs, hF, hR, hw, hI, hP, hD, hS, hfr⟩ := h
  obtain ⟨x, ys, rfl, hx, -, hs1⟩ := ev_stk_cons hs
  obtain ⟨rfl, hj⟩ : x = .ref (ad j) ∧ j < T.length := hx
  obtain ⟨e0, g1, ge⟩ := hw.2 j _ ht
  unfold ev_c at ge
  dsimp only at ge
  rw [if_neg h3] at ge
  obtain ⟨cA, f, rfl, g2, g3⟩ := ge
  refine va_alen C.1 C.2.1 C.2.2.2.2.2.1 hP j t.1 g1 g2 (v := nI t.2.1) rfl hd ?_
  exact k H locs ls (.int (nI t.2.1) :: ys) ws ⟨hz, hl, ⟨⟨⟨_, rfl, by rw [nI_toInt hn]; exact ⟨Int.le_refl _, Int.le_refl _⟩⟩, ev_tag0⟩, hs1⟩, hF, hR, hw, hI, hP, hD, hS, hfr⟩
theorem fs_aald (C : ev_cx p s m args meth c cc nL o D tys aK aV b0) {j n : Nat} {t : Nat × Nat × Int × Int} {ti ta : ev_t} (ht : T[j]? = some (.inl t)) (h3 : t.1 = 3) (hn : n < t.2.1) (hd : decode cc pc = .ok (.aaload, 1)) (k : ev_go p l e R s m args below meth c Q D tys T I b0 nL ad w0 Wr γ (pc + 1, L, (.inr (t.2.2.1.toNat + n + 2), ev_nt) :: S, FS, RS)) : ev_go p l e R s m args below meth c Q D tys T I b0 nL ad w0 Wr γ (pc, L, (.inl ((n : Int), (n : Int)), ti) :: (.inr (j + 2), ta) :: S, FS, RS) := by
  intro H locs ls stk ws h
  dsimp only at h
  obtain ⟨hz, hl, hs, hF, hR, hw, hI, hP, hD, hS, hfr⟩ := h
  obtain ⟨x0, ys, rfl, ⟨i, rfl, hi⟩, hti, hs1⟩ := ev_stk_cons hs
  obtain ⟨x, zs, rfl, hx, -, hs2⟩ := ev_stk_cons hs1
  obtain ⟨rfl, hj⟩ : x = .ref (ad j) ∧ j < T.length := hx
  obtain ⟨e0, g1, ge⟩ := hw.2 j _ ht
  unfold ev_c at ge
  dsimp only at ge
  rw [if_pos h3] at ge
  obtain ⟨cA, f, rfl, g2, g3⟩ := ge
  have hi1 : (n : Int) ≤ i.toInt := hi.1
  have hi2 : i.toInt ≤ (n : Int) := hi.2
  have hin : vp_in i t.2.1 := vp_in_iff.mpr ⟨by omega, by omega⟩
  have hc : i.toNatClampNeg = n := by show i.toInt.toNat = n; omega
  obtain ⟨e1, e2⟩ := g3 n hn
  have hlt : i.toNatClampNeg < t.2.1 := by omega
  refine W.aald (v := va_rf (f i.toNatClampNeg)) (ty := .array .int) C.1 C.2.1 (hP j _ g1) ((C.2.2.2.2.2.1.2 3 _ g2).1 t.2.1 (fun j => va_rf (f j))) rfl (fun q => by cases q) (by show ¬ (i < 0 ∨ (arrV _ _ _).slots.size ≤ _); rw [arrV_size]; exact hin) (by show (arrV _ _ _).slots[_]? = _; rw [arrV_read _ _ hlt]) rfl rfl hd ?_
  rw [hc, e1]
  exact k H locs ls (.ref (ad (t.2.2.1.toNat + n)) :: zs) ws ⟨hz, hl, ⟨⟨⟨rfl, e2⟩, ev_tag0⟩, hs2⟩, hF, hR, hw, hI, hP, hD, hS, hfr⟩
/-- a split: once for each piece -/
theorem fs_split {n : Nat} {q : Int × Int} {t : ev_t} {cuts : List Int} (hn : S[n]? = some (.inl q, t)) (k : ∀ u ∈ ev_cut q cuts, ev_go p l e R s m args below meth c Q D tys T I b0 nL ad w0 Wr γ (pc, (ev_rf L FS t u).1, S.set n (.inl u, t), (ev_rf L FS t u).2, RS)) : ev_go p l e R s m args below meth c Q D tys T I b0 nL ad w0 Wr γ (pc, L, S, FS, RS) := by
  intro H locs ls stk ws h
  dsimp only at h
  obtain ⟨⟨z1, z2, z3⟩, hl, hs, hF, hR, hr⟩ := h
  have key : ∀ (n : Nat) (S : List ev_s) (stk : List Value), ev_stk T.length ad ls ws S stk → S[n]? = some (.inl q, t) → ∃ x : Int32, en_in q x ∧ ev_tag ls ws t (.int x) ∧ ∀ u : Int × Int, en_in u x → ev_stk T.length ad ls ws (S.set n (.inl u, t)) stk := by
    intro n
    induction n with
    | zero =>
      intro S stk hs hn
      cases S with
      | nil => simp at hn
      | cons a S =>
        rw [List.getElem?_cons_zero] at hn
        cases hn
        obtain ⟨x, ys, rfl, ⟨v, rfl, hv⟩, tv, hs1⟩ := ev_stk_cons hs
        exact ⟨v, hv, tv, fun u hu => ⟨⟨⟨v, rfl, hu⟩, tv⟩, hs1⟩⟩
    | succ n ih =>
      intro S stk hs hn
      cases S with
      | nil => simp at hn
      | cons a S =>
        rw [List.getElem?_cons_succ] at hn
        obtain ⟨x, ys, rfl, hx, tx, hs1⟩ := ev_stk_cons hs
        obtain ⟨v, hv, tv, hk⟩ := ih S ys hs1 hn
        exact ⟨v, hv, tv, fun u hu => ⟨⟨hx, tx⟩, hk u hu⟩⟩
  obtain ⟨v, hv, tv, hk⟩ := key n S stk hs hn
  obtain ⟨u, hu, huv⟩ := ev_cut_ok (cs := cuts) hv
  obtain ⟨a1, a2, a3⟩ := ev_rf_ok hl hF tv huv
  exact k u hu H locs ls stk ws ⟨⟨z1, z2, by dsimp only; rw [a1]; exact z3⟩, a2, hk u huv, a3, hR, hr⟩
end EVH
def en_mo : List Nat := [8, 7, 1, 3, 0, 6, 10, 4, 2, 5, 8, 8, 8, 7, 8, 7, 11, 0, 0, 7, 7, 7, 0, 0, 0, 0, 7, 7, 7, 0, 11, 0, 0, 0, 0, 0, 7, 7, 0, 7, 8, 3, 3, 3, 3, 7, 3, 3, 3, 3, 3, 3, 8, 3, 3, 6, 5, 8, 8, 1, 1, 6, 6, 6, 4, 1, 1, 3, 1, 1, 8, 1, 3, 1, 1, 6, 1, 1, 1, 1, 3, 1, 1, 1, 6, 1, 0, 0, 0, 0, 0, 1, 1, 1, 0, 6, 1, 1, 4, 8, 8, 8, 8, 8, 8, 8, 8, 3, 8, 8, 8, 2, 2, 2, 8, 8, 8, 8, 8, 8, 8, 2, 2, 8, 5, 8, 8, 6, 8, 8, 8, 8, 8, 3, 6, 9, 9, 9, 9, 9, 9, 9, 9, 9, 9, 9, 9, 9, 9, 9, 9, 9, 9, 9, 9, 9, 9, 9, 9, 9, 9, 9, 9, 9, 9, 9, 9, 9, 9, 9, 9, 9, 9, 9, 9, 9, 9, 9, 9, 9, 9, 9, 9, 9, 9, 9, 9, 9, 9, 9, 9, 9, 9, 9, 9, 9, 9, 9, 9, 9, 9, 9, 9, 9, 9, 9, 9, 9, 9, 9, 9, 9, 9, 9, 9, 9, 9, 9, 9, 9, 9, 9, 9, 9, 9, 9, 9, 9, 9, 9, 9, 9, 9, 9, 9, 9, 9, 9, 9, 9, 9, 9]
theorem en_mo_all : en_ms.length = en_mo.length ∧ (en_ms.zip en_mo).all (fun q => decide (en_nm q.2 = q.1.1.cls)) = true := by decide +kernel
theorem en_mo_ok {i ci : Nat} {r : MethodName × ByteArray × Nat × Option FieldType} (hr : en_ms[i]? = some r) (hc : en_mo[i]? = some ci) : en_nm ci = r.1.cls := by
  have h := List.all_eq_true.mp en_mo_all.2 (r, ci) (List.mem_of_getElem? (i := i) (by rw [List.getElem?_zip_eq_some]; exact ⟨hr, hc⟩))
  simpa using h
theorem en_nm_cl {ci : Nat} {r : vw_C} (h : vwCl[ci]? = some r) : r.1 = en_nm ci := by
  match ci, h with
  | 0, h => cases h; rfl
  | 1, h => cases h; rfl
  | 2, h => cases h; rfl
  | 3, h => cases h; rfl
  | 4, h => cases h; rfl
  | 5, h => cases h; rfl
  | 6, h => cases h; rfl
  | 7, h => cases h; rfl
  | 8, h => cases h; rfl
  | 9, h => cases h; rfl
  | k + 10, h => simp [vwCl] at h
theorem en_v_int {N M : Nat} {ad ad' : Nat → Nat} {r : en_V} {x : Int32} (h : en_v N ad r (.int x)) : en_v M ad' r (.int x) := by
  match r, h with
  | .inl q, h => exact h
  | .inr 0, h => rcases h with h | ⟨a, h⟩ <;> cases h
  | .inr 1, h => cases h
  | .inr (k + 2), h => cases h.1
def en_isI (a : en_V) : Bool := match a with
  | .inl _ => true
  | _ => false
theorem en_vs_ints {N M : Nat} {ad ad' : Nat → Nat} : ∀ {as : List en_V} {xs : List Value}, as.all en_isI = true → en_vs N ad as xs → en_vs M ad' as xs
  | [], [], _, _ => trivial
  | a :: as, x :: xs, h, hx => by
    simp only [List.all_cons, Bool.and_eq_true] at h
    refine ⟨?_, en_vs_ints h.2 hx.2⟩
    match a, h.1, hx.1 with
    | .inl q, _, hx => exact hx
  | [], _ :: _, _, h => h.elim
  | _ :: _, [], _, h => h.elim
theorem en_codeG {mi : Nat} {r : MethodName × ByteArray × Nat × Option FieldType} (hr : en_ms[mi]? = some r) : GoodIn en_ws (Cond.code r.1 r.2.1 r.2.2.1 r.2.2.2 :: en_ws) := by
  intro w hw
  rcases List.mem_cons.mp hw with rfl | hw
  · exact ⟨en_ws_in (en_ms_in r (List.mem_of_getElem? hr)) rfl, good_of_word rfl⟩
  · exact ⟨hw, good_of_word (List.mem_filter.mp hw).2⟩
theorem en_clD {o i kd mi n : Nat} {r : MethodName × ByteArray × Nat × Option FieldType} (hf : en_find o i en_cl = some (kd, mi, n)) (hr : en_ms[mi]? = some r) : (r.1.cls ≠ "java/lang/invoke/MethodHandle" ∧ r.1.cls ≠ "java/lang/invoke/VarHandle" ∧ (parseMethodDescriptor r.1.desc).map (fun d => d.parameters.length) = some n) ∧ (3 ≤ kd → r.1.name = "<init>" ∧ r.2.2.2 = none) := by
  have h := en_cl_ok _ (en_find_mem hf)
  have e : en_cok (o, i, kd, mi, n) = (en_mok r && decide ((parseMethodDescriptor r.1.desc).map (fun d => d.parameters.length) = some n) && (decide (kd < 3) || (decide (r.1.name = "<init>") && decide (r.2.2.2 = none)))) := by
    show (match en_ms[mi]? with
      | some r => _
      | none => _) = _
    rw [hr]
  rw [e] at h
  simp only [en_mok, Bool.and_eq_true, Bool.or_eq_true, decide_eq_true_eq] at h
  obtain ⟨⟨⟨h1, h2⟩, h3⟩, h4⟩ := h
  exact ⟨⟨h1, h2, h3⟩, fun hk => by
    rcases h4 with h4 | h4
    · omega
    · exact h4⟩
theorem en_clW {o i kd mi n : Nat} {r : MethodName × ByteArray × Nat × Option FieldType} (hf : en_find o i en_cl = some (kd, mi, n)) (hr : en_ms[mi]? = some r) : ∀ w ∈ (match kd with
    | 0 => [.methodLink (en_nm o) i r.1, .instanceMethod r.1, .selects r.1.cls r.1 r.1, .initialized r.1.cls]
    | 1 => [.methodLink (en_nm o) i r.1, .static r.1, .initialized r.1.cls]
    | 2 => [.static r.1, .initialized r.1.cls]
    | 3 => [.methodLink (en_nm o) i r.1, .instanceMethod r.1, .initialized r.1.cls]
    | _ => [.instanceMethod r.1, .initialized r.1.cls] : List Cond), w ∈ lw_tbl := by
  intro w hw
  refine en_cl_in _ (en_find_mem hf) w ?_
  show w ∈ (match en_ms[mi]? with
      | some r => _
      | none => _)
  rw [hr]
  exact hw
theorem en_clN {o i kd mi n : Nat} {r : MethodName × ByteArray × Nat × Option FieldType} (hf : en_find o i en_cl = some (kd, mi, n)) (hr : en_ms[mi]? = some r) (hk : kd = 2 ∨ kd = 4) : Cond.methodLinkNest (en_nm o) i r.1 "LoadsAhead" ∈ en_nest := by
  unfold en_nest
  refine List.mem_flatMap.mpr ⟨(o, i, kd, mi, n), List.mem_filter.mpr ⟨en_find_mem hf, by rcases hk with rfl | rfl <;> rfl⟩, ?_⟩
  show _ ∈ (match en_ms[mi]? with
      | some r => _
      | none => _)
  rw [hr]
  exact List.mem_singleton.mpr rfl
abbrev ek : Type := Nat × List en_V × List ev_f × List (Nat × Nat) × List (Option en_V × List ev_f) × Nat × Nat
def ek_pre (κ : ek) : List ev_f := κ.2.2.1
def ek_wr (κ : ek) : List (Nat × Nat) := κ.2.2.2.1
def ek_out (κ : ek) : List (Option en_V × List ev_f) := κ.2.2.2.2.1
def ek_fr (κ : ek) : Nat := κ.2.2.2.2.2.1
def ek_lo (κ : ek) : Nat := κ.2.2.2.2.2.2
def ek_rm (κ : ek) : Room := { frames := ek_fr κ, cells := 0, slots := 0, locals := ek_lo κ }
def ev_ff (w : va_W) (f : ev_f) : Prop := f.1.1 = 2 ∧ ev_fact (fun _ => 0) #[] w f
theorem ev_ff_use {w : va_W} {f : ev_f} {γ : Nat → Int} {ls : Array Slot} (h : ev_ff w f) : ∃ x : Int32, ev_loc ls w f.1 x ∧ en_in f.2.1 x := by
  obtain ⟨h1, x, h2, h3, -⟩ := h
  refine ⟨x, ?_, h3⟩
  obtain ⟨⟨k, a, b⟩, u, g⟩ := f
  dsimp only at h1
  subst h1
  exact h2
def ek_pc (D : va_G) (tys : List (ClassId × FieldType)) (aK aV b0 : Nat) (w0 : va_W) (as : List Value) : Array Value → State → Prop := va_Pc as (fun U => b0 ≤ U.heap.size ∧ va_P D vwCl w0 U.heap ∧ va_D (fun q => b0 ≤ q) w0 ∧ va_K D vwCl tys U ∧ en_X b0 aK aV U)
def ek_qc (D : va_G) (tys : List (ClassId × FieldType)) (T : en_T) (I : va_W → Prop) (b0 : Nat) (ad : Nat → Nat) (w0 : va_W) (κ : ek) (v : Bool) : Array Value → State → Outcome → State → Prop := match v with
  | true => va_Qi (S := va_W) (fun x w => ev_w tys T ad w ∧ I w ∧ ev_fr (ek_wr κ) w0 w ∧ ∃ u ∈ ek_out κ, (∃ a, u.1 = some a ∧ en_v T.length ad a (.int x)) ∧ ∀ f ∈ u.2, ev_ff w f) (fun w t => va_P D vwCl w t.heap ∧ va_D (fun q => b0 ≤ q) w) (fun q => b0 ≤ q)
  | false => va_Qv (S := va_W) (fun w => ev_w tys T ad w ∧ I w ∧ ev_fr (ek_wr κ) w0 w ∧ ∃ u ∈ ek_out κ, u.1 = none ∧ ∀ f ∈ u.2, ev_ff w f) (fun w t => va_P D vwCl w t.heap ∧ va_D (fun q => b0 ≤ q) w) (fun q => b0 ≤ q)
def ek_ok (l : Launch) (T : en_T) (I : va_W → Prop) (κ : ek) : Prop := ∀ r, en_ms[κ.1]? = some r → ∀ (D : va_G) (tys : List (ClassId × FieldType)) (aK aV b0 : Nat) (ad : Nat → Nat) (w0 : va_W) (as : List Value), en_vs T.length ad κ.2.1 as → ev_w tys T ad w0 → I w0 → (∀ f ∈ ek_pre κ, ev_ff w0 f) →
  Met l r.1 (Cond.code r.1 r.2.1 r.2.2.1 r.2.2.2 :: en_ws) (ek_rm κ) (ek_pc D tys aK aV b0 w0 as) (ek_qc D tys T I b0 ad w0 κ r.2.2.2.isSome) 0 0 (fun q => b0 ≤ q)
theorem ek_pc_blind {D : va_G} {tys : List (ClassId × FieldType)} {aK aV b0 : Nat} {w0 : va_W} {as : List Value} : FrameBlind (ek_pc D tys aK aV b0 w0 as) := by
  intro a U g mk h
  obtain ⟨h1, h2, h3, h4, h5, h6⟩ := h
  exact ⟨h1, h2, h3, h4, va_K.moved (u := U) (U := U.calling g mk a) (Vm.Alike.refl U.vm) h5, h6.call⟩
/-- the facts of an end, met with what is known -/
def ev_add (FS : List ev_f) : List ev_f → List ev_f
  | [] => FS
  | f :: fs => ev_rff (ev_add FS fs) f.1 f.2.1
theorem ev_add_ok {γ : Nat → Int} {ls : Array Slot} {ws : va_W} {FS : List ev_f} (hF : ∀ f ∈ FS, ev_fact γ ls ws f) : ∀ {gs : List ev_f}, (∀ f ∈ gs, ev_ff ws f) → ∀ f ∈ ev_add FS gs, ev_fact γ ls ws f
  | [], _ => hF
  | g :: gs, h => by
    obtain ⟨x, h1, h2⟩ := ev_ff_use (γ := γ) (ls := ls) (h g List.mem_cons_self)
    exact ev_rff_ok (ev_add_ok hF (fun f hf => h f (List.mem_cons_of_mem _ hf))) h1 h2
/-- a start's fact holds -/
def ev_has (T : en_T) (FS : List ev_f) (f : ev_f) : Bool := f.1.1 == 2 && (f.2.2.isNone && (match T[f.1.2.1]? with
  | some (.inr q) => match q.2[f.1.2.2]? with
    | some (.inl b) => decide (f.2.1.1 ≤ (ev_fq FS f.1 b).1) && decide ((ev_fq FS f.1 b).2 ≤ f.2.1.2)
    | _ => false
  | _ => false))
theorem ev_has_ok {γ : Nat → Int} {ls : Array Slot} {ws : va_W} {tys : List (ClassId × FieldType)} {T : en_T} {ad : Nat → Nat} {FS : List ev_f} {f : ev_f} (hF : ∀ f ∈ FS, ev_fact γ ls ws f) (hw : ev_w tys T ad ws) (h : ev_has T FS f = true) : ev_ff ws f := by
  obtain ⟨⟨k, a, b⟩, u, g⟩ := f
  unfold ev_has at h
  simp only [Bool.and_eq_true, beq_iff_eq, Option.isNone_iff_eq_none] at h
  obtain ⟨h1, h2, h3⟩ := h
  subst h1
  subst h2
  split at h3
  · rename_i q hq
    split at h3
    · rename_i c hc
      simp only [Bool.and_eq_true, decide_eq_true_eq] at h3
      obtain ⟨e0, g1, vs, rfl, g2⟩ := hw.2 a _ hq
      obtain ⟨v, g3, z, rfl, g4⟩ := en_vs_get g2 hc
      have hloc : ev_loc ls ws (2, a, b) z := ⟨_, _, _, g1, g3⟩
      have hb := ev_fq_ok hF hloc g4
      exact ⟨rfl, z, ⟨_, _, _, g1, g3⟩, ⟨Int.le_trans h3.1 hb.1, Int.le_trans hb.2 h3.2⟩, trivial⟩
    · cases h3
  · cases h3
theorem ev_stk_app {N : Nat} {ad : Nat → Nat} {ls : Array Slot} {ws : va_W} : ∀ {as bs : List ev_s} {zs : List Value}, ev_stk N ad ls ws (as ++ bs) zs → ∃ xs ys, zs = xs ++ ys ∧ en_vs N ad (as.map (fun a => a.1)) xs ∧ ev_stk N ad ls ws bs ys
  | [], bs, zs, h => ⟨[], zs, rfl, trivial, h⟩
  | a :: as, bs, z :: zs, h => by
    obtain ⟨xs, ys, h1, h2, h3⟩ := ev_stk_app (as := as) h.2
    exact ⟨z :: xs, ys, by rw [h1]; rfl, ⟨h.1.1, h2⟩, h3⟩
  | _ :: _, _, [], h => h.elim
theorem en_args2 {N : Nat} {ad : Nat → Nat} {A B : List en_V} {xs : List Value} (h : en_vs N ad A xs) (hA : en_all2 en_le A.reverse B = true) : en_vs N ad B xs.reverse := en_all2_vs hA (en_vs_rev h)
section EVC
variable {p : Program} {l : Launch} {e : Env} {R : Room} {s : State} {m : MethodId} {args : Array Value} {below : List Frame} {meth : Method} {c : Code} {Q : State → Prop} {cc : ByteArray} {D : va_G} {tys : List (ClassId × FieldType)} {T : en_T} {I : va_W → Prop} {sp : List (Nat × Nat)} {aK aV b0 nL o : Nat} {ad : Nat → Nat} {w0 : va_W} {Wr : List (Nat × Nat)} {γ : Nat → Int}
variable {pc : Nat} {L : List ev_l} {S : List ev_s} {FS : List ev_f} {RS : List ev_r} {κ : ek}
/-- behind a call: a state for each end -/
def ek_next (κ : ek) (pc : Nat) (L : List ev_l) (S : List ev_s) (FS : List ev_f) (RS : List ev_r) : List ev_S := (ek_out κ).map (fun u => (pc, L, (u.1.toList.map (fun a => (a, ev_nt))) ++ S.map (ev_hs (ek_wr κ)), ev_add (ev_hf (ek_wr κ) FS) u.2, RS))
theorem fs_after {H : Heap} {locs : List Loc} {ls : Array Slot} {stk rest : List Value} {ws : va_W} {av : Array Value} {v : Bool} (h : ev_at s D tys T I b0 nL ad w0 Wr γ L S FS RS H locs ls rest ws) (hwr : ∀ q ∈ ek_wr κ, q ∈ Wr)
    (hrun : va_Run p l e R s m args below meth c H locs 0 0 0 0 (F0 m pc ls stk) rest (ek_qc D tys T I b0 ad ws κ v av) (fun q => b0 ≤ q))
    (k : ∀ st ∈ ek_next κ (pc + 3) L S FS RS, ev_go p l e R s m args below meth c Q D tys T I b0 nL ad w0 Wr γ st) : W p l e R s m args below meth c H locs 0 0 Q (F0 m pc ls stk) := by
  obtain ⟨hz, hl, hs, hF, hR, hw, hI, hP, hD, hS, hfr⟩ := h
  cases v with
  | false =>
    refine va_callv (a := av) hrun hS (fun q _ h => h) (fun q h => h) (fun w t H1 locs1 ht _ hpost hB _ _ hS1 => ?_)
    obtain ⟨p1, p2, p3, u, hu, hu1, hu2⟩ := hpost
    subst ht
    refine k _ (List.mem_map.mpr ⟨u, hu, rfl⟩) t.heap locs1 ls rest w ⟨hz, hl, ?_, ev_add_ok (ev_hf_ok p3 hF) hu2, hR, p1, p2, hB.1, hB.2, hS1, hfr.tr p3 hwr⟩
    dsimp only
    rw [hu1]
    exact ev_hs_ok p3 hs
  | true =>
    refine va_calli (a := av) hrun hS (fun q _ h => h) (fun q h => h) (fun x w t H1 locs1 ht _ hpost hB _ _ hS1 => ?_)
    obtain ⟨p1, p2, p3, u, hu, ⟨a, hu1, hu3⟩, hu2⟩ := hpost
    subst ht
    refine k _ (List.mem_map.mpr ⟨u, hu, rfl⟩) t.heap locs1 ls (.int x :: rest) w ⟨hz, hl, ?_, ev_add_ok (ev_hf_ok p3 hF) hu2, hR, p1, p2, hB.1, hB.2, hS1, hfr.tr p3 hwr⟩
    dsimp only
    rw [hu1]
    exact ⟨⟨hu3, ev_tag0⟩, ev_hs_ok p3 hs⟩
theorem ek_pre_at (C : ev_cx p s m args meth c cc nL o D tys aK aV b0) {H : Heap} {locs : List Loc} {ws : va_W} {as : List Value} (hP : va_P D vwCl ws H) (hD : va_D (fun q => b0 ≤ q) ws) (hS : va_S (fun q => b0 ≤ q) s.heap H locs) : ∀ U : State, U.heap = H → s.WarmedH U.vm → ek_pc D tys aK aV b0 ws as as.toArray U := by
  intro U hU hw
  refine ⟨rfl, ?_, by rw [hU]; exact hP, hD, va_K.moved hw.alike C.2.2.2.2.2.1, C.2.2.2.2.2.2.2.1.go (Nat.le_refl _) hS hU hw⟩
  rw [hU]
  exact Nat.le_trans C.2.2.2.2.2.2.1 hS.1
theorem fs_callV (C : ev_cx p s m args meth c cc nL o D tys aK aV b0) {i mi n j ci : Nat} {r : MethodName × ByteArray × Nat × Option FieldType} {A : List ev_s} {fs : List en_V} {rc : vw_C} {tj : ev_t} (hf : en_find o i en_cl = some (0, mi, n)) (hr : en_ms[mi]? = some r) (hκ : ek_ok l T I κ) (hm : κ.1 = mi) (hA : A.length = n) (hav : en_all2 en_le (.inr (j + 2) :: (A.map (fun a => a.1)).reverse) κ.2.1 = true) (hpre : (ek_pre κ).all (ev_has T FS) = true) (hwr : ∀ q ∈ ek_wr κ, q ∈ Wr)
    (hj : T[j]? = some (.inr (ci, fs))) (hrc : vwCl[ci]? = some rc) (hmo : en_mo[mi]? = some ci) (hfr : ek_fr κ + 1 ≤ R.frames) (hlo : 8 + (r.2.2.1 + 11) + ek_lo κ ≤ R.locals) (hS8 : S.length ≤ 8) (hd : decode cc pc = .ok (.invokevirtual i, 3))
    (k : ∀ st ∈ ek_next κ (pc + 3) L S FS RS, ev_go p l e R s m args below meth c Q D tys T I b0 nL ad w0 Wr γ st) : ev_go p l e R s m args below meth c Q D tys T I b0 nL ad w0 Wr γ (pc, L, A ++ (.inr (j + 2), tj) :: S, FS, RS) := by
  intro H locs ls stk ws h
  dsimp only at h
  obtain ⟨hz, hl, hs, hF, hR, hw, hI, hP, hD, hS, hfr0⟩ := h
  obtain ⟨xs, us, rfl, hs1, hs2⟩ := ev_stk_app hs
  obtain ⟨x, ys, rfl, hx, -, hs3⟩ := ev_stk_cons hs2
  have hx0 := hx
  obtain ⟨rfl, hjl⟩ : x = .ref (ad j) ∧ j < T.length := hx
  subst hm
  obtain ⟨e0, g1, vs, rfl, g2⟩ := hw.2 j _ hj
  have hM := hκ r hr D tys aK aV b0 ad ws (Value.ref (ad j) :: xs.reverse) (en_all2_vs hav ⟨hx0, en_vs_rev hs1⟩) hw hI (fun f hf => ev_has_ok hF hw (List.all_eq_true.mp hpre f hf))
  have hDd := (en_clD hf hr).1
  have hww := en_clW hf hr
  have hts := C.2.2.2.2.1
  have hB := callB_of (own := en_nm o) (index := i) (R := R) (rm := ek_rm κ) (mc := 0) (ms := 0) n hts (en_codeG hr) rfl rfl rfl (hts _ (en_ws_in (hww (.initialized r.1.cls) (by simp)) rfl)) (hts _ (en_ws_in (hww (.methodLink (en_nm o) i r.1) (by simp)) rfl)) hDd ⟨hfr, hlo⟩
  have hrecv := va_recv C.2.2.2.2.2.1 hP hrc g1
  rw [(en_nm_cl hrc).trans (en_mo_ok hr hmo)] at hrecv
  exact fs_after ⟨hz, hl, hs3, hF, hR, hw, hI, hP, hD, hS, hfr0⟩ hwr (va_runV (C := r.1.cls) (As := xs.reverse) (rest := ys) ⟨C.1, C.2.1, C.2.2.1, C.2.2.2.1, hts⟩ hM ⟨hB, hts _ (en_ws_in (hww (.instanceMethod r.1) (by simp)) rfl), hts _ (en_ws_in (hww (.selects r.1.cls r.1 r.1) (by simp)) rfl)⟩ ⟨ek_pc_blind, hrecv, ek_pre_at C hP hD hS⟩ rfl (by rw [List.length_reverse, ← en_vs_len hs1, List.length_map]; exact hA) hz.1 (by rw [List.reverse_reverse]) (lv_room (by rw [ev_stk_len hs3]; exact hS8)) hd ⟨Nat.zero_le _, Nat.zero_le _⟩) k
theorem fs_callS (C : ev_cx p s m args meth c cc nL o D tys aK aV b0) {i mi n kd : Nat} {r : MethodName × ByteArray × Nat × Option FieldType} {A : List ev_s} (hf : en_find o i en_cl = some (kd, mi, n)) (hkd : kd = 1 ∨ kd = 2) (hr : en_ms[mi]? = some r) (hκ : ek_ok l T I κ) (hm : κ.1 = mi) (hA : A.length = n) (hav : en_all2 en_le (A.map (fun a => a.1)).reverse κ.2.1 = true) (hpre : (ek_pre κ).all (ev_has T FS) = true) (hwr : ∀ q ∈ ek_wr κ, q ∈ Wr)
    (hfr : ek_fr κ + 1 ≤ R.frames) (hlo : 8 + (r.2.2.1 + 11) + ek_lo κ ≤ R.locals) (hS8 : S.length ≤ 8) (hd : decode cc pc = .ok (.invokestatic i, 3))
    (k : ∀ st ∈ ek_next κ (pc + 3) L S FS RS, ev_go p l e R s m args below meth c Q D tys T I b0 nL ad w0 Wr γ st) : ev_go p l e R s m args below meth c Q D tys T I b0 nL ad w0 Wr γ (pc, L, A ++ S, FS, RS) := by
  intro H locs ls stk ws h
  dsimp only at h
  obtain ⟨hz, hl, hs, hF, hR, hw, hI, hP, hD, hS, hfr0⟩ := h
  obtain ⟨xs, ys, rfl, hs1, hs3⟩ := ev_stk_app hs
  subst hm
  have hM := hκ r hr D tys aK aV b0 ad ws xs.reverse (en_args2 hs1 hav) hw hI (fun f hf => ev_has_ok hF hw (List.all_eq_true.mp hpre f hf))
  have hDd := (en_clD hf hr).1
  have hww := en_clW hf hr
  have hts := C.2.2.2.2.1
  rcases hkd with rfl | rfl
  · have hB := callB_of (own := en_nm o) (index := i) (R := R) (rm := ek_rm κ) (mc := 0) (ms := 0) n hts (en_codeG hr) rfl rfl rfl (hts _ (en_ws_in (hww (.initialized r.1.cls) (by simp)) rfl)) (hts _ (en_ws_in (hww (.methodLink (en_nm o) i r.1) (by simp)) rfl)) hDd ⟨hfr, hlo⟩
    exact fs_after ⟨hz, hl, hs3, hF, hR, hw, hI, hP, hD, hS, hfr0⟩ hwr (va_runS (As := xs.reverse) (rest := ys) ⟨C.1, C.2.1, C.2.2.1, C.2.2.2.1, hts⟩ hM ⟨hB, hts _ (en_ws_in (hww (.static r.1) (by simp)) rfl)⟩ ⟨ek_pc_blind, ek_pre_at C hP hD hS⟩ rfl (by rw [List.length_reverse, ← en_vs_len hs1, List.length_map]; exact hA) hz.1 (by rw [List.reverse_reverse]) (lv_room (by rw [ev_stk_len hs3]; exact hS8)) hd ⟨Nat.zero_le _, Nat.zero_le _⟩) k
  · have hB := va_cnB (own := en_nm o) (host := "LoadsAhead") (index := i) (R := R) (rm := ek_rm κ) (mc := 0) (ms := 0) n hts (en_codeG hr) rfl rfl rfl (C.2.2.2.2.2.2.2.1.1 _ (en_clN hf hr (Or.inl rfl))) (hts _ (en_ws_in (hww (.initialized r.1.cls) (by simp)) rfl)) hDd ⟨hfr, hlo⟩
    exact fs_after ⟨hz, hl, hs3, hF, hR, hw, hI, hP, hD, hS, hfr0⟩ hwr (va_runSN (host := "LoadsAhead") (As := xs.reverse) (rest := ys) ⟨C.1, C.2.1, C.2.2.1, C.2.2.2.1, hts⟩ hM ⟨hB, hts _ (en_ws_in (hww (.static r.1) (by simp)) rfl), trivial⟩ ⟨ek_pc_blind, ek_pre_at C hP hD hS⟩ rfl (by rw [List.length_reverse, ← en_vs_len hs1, List.length_map]; exact hA) hz.1 (by rw [List.reverse_reverse]) (lv_room (by rw [ev_stk_len hs3]; exact hS8)) hd ⟨Nat.zero_le _, Nat.zero_le _⟩) k
theorem fs_copy (C : ev_cx p s m args meth c cc nL o D tys aK aV b0) (hI0 : ev_hI I sp) {i j0 j1 n : Nat} {t0 t1 : Nat × Nat × Int × Int} {u1 u2 u3 u4 u5 : ev_t} (hf : (o, i) ∈ en_ac) (ht0 : T[j0]? = some (.inl t0)) (ht1 : T[j1]? = some (.inl t1)) (hy0 : t0.1 = 0) (hy1 : t1.1 = 0) (hn0 : n ≤ t0.2.1) (hn1 : n ≤ t1.2.1) (hb0 : t1.2.2.1 ≤ t0.2.2.1) (hb1 : t0.2.2.2 ≤ t1.2.2.2) (hwr : (j1, 999) ∈ Wr) (hsp : (j1, 999) ∉ sp)
    (hfr : 1 ≤ R.frames) (hlo : S.length + (nativeFrameWords "java/lang/System" "arraycopy" 5 + 11) ≤ R.locals) (hd : decode cc pc = .ok (.invokestatic i, 3)) (k : ev_go p l e R s m args below meth c Q D tys T I b0 nL ad w0 Wr γ (pc + 3, L, S.map (ev_hs [(j1, 999)]), ev_hf [(j1, 999)] FS, RS)) :
    ev_go p l e R s m args below meth c Q D tys T I b0 nL ad w0 Wr γ (pc, L, (.inl ((n : Int), (n : Int)), u1) :: (.inl (0, 0), u2) :: (.inr (j1 + 2), u3) :: (.inl (0, 0), u4) :: (.inr (j0 + 2), u5) :: S, FS, RS) := by
  intro H locs ls stk ws h
  dsimp only at h
  obtain ⟨hz, hl, hs, hF, hR, hw, hI, hP, hD, hS, hfr0⟩ := h
  obtain ⟨x1, v1, rfl, ⟨nn, rfl, hnn⟩, -, hs1⟩ := ev_stk_cons hs
  obtain ⟨x2, v2, rfl, ⟨dp, rfl, hdp⟩, -, hs2⟩ := ev_stk_cons hs1
  obtain ⟨x3, v3, rfl, hx3, -, hs3⟩ := ev_stk_cons hs2
  obtain ⟨rfl, hj1⟩ : x3 = .ref (ad j1) ∧ j1 < T.length := hx3
  obtain ⟨x4, v4, rfl, ⟨sq, rfl, hsq⟩, -, hs4⟩ := ev_stk_cons hs3
  obtain ⟨x5, v5, rfl, hx5, -, hs5⟩ := ev_stk_cons hs4
  obtain ⟨rfl, hj0⟩ : x5 = .ref (ad j0) ∧ j0 < T.length := hx5
  obtain ⟨e0, g1, ge⟩ := hw.2 j0 _ ht0
  unfold ev_c at ge
  dsimp only at ge
  rw [if_neg (by rw [hy0]; decide)] at ge
  obtain ⟨cA, f, rfl, g2, g3⟩ := ge
  obtain ⟨e1, q1, qe⟩ := hw.2 j1 _ ht1
  unfold ev_c at qe
  dsimp only at qe
  rw [if_neg (by rw [hy1]; decide)] at qe
  obtain ⟨cB, g, rfl, q2, q3⟩ := qe
  dsimp only at hnn hdp hsq
  have z1 : sq.toInt = 0 := by omega
  have z2 : dp.toInt = 0 := by omega
  have z3 : nn.toInt = (n : Int) := by omega
  have c1 : sq.toNatClampNeg = 0 := by show sq.toInt.toNat = 0; omega
  have c2 : dp.toNatClampNeg = 0 := by show dp.toInt.toNat = 0; omega
  have c3 : nn.toNatClampNeg = n := by show nn.toInt.toNat = n; omega
  have hww : ∀ w ∈ ([.native arraycopyName, .static arraycopyName, .initialized "java/lang/System"] : List Cond), w ∈ en_ws := fun w hw => en_ws_in (en_ac_c w hw) (by
    rcases List.mem_cons.mp hw with rfl | hw
    · rfl
    · rcases List.mem_cons.mp hw with rfl | hw
      · rfl
      · rw [List.mem_singleton.mp hw]; rfl)
  refine va_copyi C.1 C.2.1 (C.2.2.1.trans hz.1.symm) C.2.2.2.1 (C.2.2.2.2.1 _ (en_ws_in (en_ac_in _ (List.mem_map.mpr ⟨(o, i), hf, rfl⟩)) rfl)) (C.2.2.2.2.1 _ (hww _ List.mem_cons_self)) (C.2.2.2.2.1 _ (hww _ (List.mem_cons_of_mem _ List.mem_cons_self))) (C.2.2.2.2.1 _ (hww _ (List.mem_cons_of_mem _ (List.mem_cons_of_mem _ List.mem_cons_self)))) C.2.2.2.2.2.1 hP hD hS j0 j1 t0.1 t1.1 g1 q1 (ty := .int) (by rw [g2, hy0]; rfl) (by rw [q2, hy1]; rfl) rfl
    (by rw [fa_lt]; show ¬ sq.toInt < 0; omega) (by rw [fa_lt]; show ¬ dp.toInt < 0; omega) (by rw [fa_lt]; show ¬ nn.toInt < 0; omega) (by omega) (by omega) (fun _ _ => rfl) hfr (by rw [ev_stk_len hs5]; exact hlo) hd (fun H1 locs1 hP1 hD1 hS1 => ?_)
  have hf1 : ev_fr [(j1, 999)] ws (ws.set j1 (ad j1, .inl (cB, t1.2.1, .inl (va_cpy f g sq.toNatClampNeg dp.toNatClampNeg nn.toNatClampNeg)))) := ev_fr_set q1 (Or.inl List.mem_cons_self)
  have hc : ev_c tys T.length ad (.inl t1) (.inl (cB, t1.2.1, .inl (va_cpy f g sq.toNatClampNeg dp.toNatClampNeg nn.toNatClampNeg))) := by
    unfold ev_c
    dsimp only
    rw [if_neg (by rw [hy1]; decide)]
    refine ⟨cB, _, rfl, q2, fun j hj => ?_⟩
    rw [c1, c2, c3]
    by_cases hjn : j < n
    · rw [pk_cpy_in (Nat.zero_le _) (by omega)]
      have h9 := g3 (0 + (j - 0)) (by omega)
      exact ⟨Int.le_trans hb0 h9.1, Int.le_trans h9.2 hb1⟩
    · rw [pk_cpy_out (Or.inr (by omega))]
      exact q3 j hj
  exact k H1 locs1 ls v5 _ ⟨hz, hl, ev_hs_ok hf1 hs5, ev_hf_ok hf1 hF, hR, ev_w_set hw ht1 hc, hI0 [(j1, 999)] _ _ (fun q hq => by rw [List.mem_singleton.mp hq]; exact hsp) hf1 hI, hP1, hD1, hS1, hfr0.tr hf1 (fun q hq => by rw [List.mem_singleton.mp hq]; exact hwr)⟩
end EVC
