def en_ws : List Cond := lw_tbl.filter goodWord
theorem en_ws_in {w : Cond} (h : w ∈ lw_tbl) (hg : goodWord w = true) : w ∈ en_ws := List.mem_filter.mpr ⟨h, hg⟩
theorem en_ws_good (big : List Cond) (h : ∀ w ∈ en_ws, w ∈ big) : GoodIn big en_ws := fun w hw => ⟨h w hw, good_of_word (List.mem_filter.mp hw).2⟩
def en_X (b0 aK aV : Nat) (U : State) : Prop := (∀ w ∈ en_nest, va_Nw w U) ∧ vk_R "LoadsAhead$Law" 27 "ikcsnrw" aK U ∧ vk_S 1 [7] [[105, 107, 99, 115, 110, 114, 119]] (fun _ => aK) (fun _ => aV) (fun q => b0 ≤ q) U U.heap ∧ va_Z "java/lang/String" "COMPACT_STRINGS" "Z" (.int 1) (fun q => b0 ≤ q) U U.heap ∧ (Cond.arrayOver (.array .int)).before #[] U = true
theorem en_nest_w {w : Cond} (h : w ∈ en_nest) : ∃ (a : String) (i : Nat) (x : MethodName) (t : String), w = .methodLinkNest a i x t := by
  unfold en_nest at h
  obtain ⟨q, -, hq⟩ := List.mem_flatMap.mp h
  split at hq
  · rw [List.mem_singleton] at hq
    exact ⟨_, _, _, _, hq⟩
  · exact absurd hq List.not_mem_nil
theorem en_X.call {b0 aK aV : Nat} {U : State} {g : JFrame} {mk : MethodId} {a : Array Value} (h : en_X b0 aK aV U) : en_X b0 aK aV (U.calling g mk a) := by
  obtain ⟨h1, h2, h3, h4, h5⟩ := h
  refine ⟨fun w hw => ?_, vk_R.same rfl h2, ?_, ?_, over_moved (u := U) (Vm.Alike.refl U.vm) h5⟩
  · obtain ⟨a0, i, x, t, e⟩ := en_nest_w hw
    subst e
    exact va_Nw.same (u := U) rfl rfl (h1 _ hw)
  · exact vk_S.moved (u := U) (Vm.Alike.refl U.vm) h3
  · exact va_Z.moved (u := U) (Vm.Alike.refl U.vm) h4
theorem en_X.go {b0 b1 aK aV : Nat} {s U : State} {H : Heap} {locs : List Loc} (hb : b0 ≤ b1) (h : en_X b0 aK aV s) (hS : va_S (fun q => b0 ≤ q) s.heap H locs) (hU : U.heap = H) (hW : s.WarmedH U.vm) : en_X b1 aK aV U := by
  obtain ⟨h1, h2, h3, h4, h5⟩ := h
  refine ⟨fun w hw => ?_, vk_R.warm hW h2, ?_, ?_, over_moved hW.alike h5⟩
  · obtain ⟨a0, i, x, t, e⟩ := en_nest_w hw
    subst e
    exact va_Nw.warmM hW (h1 _ hw)
  · rw [hU]
    exact ((h3.kept hS.2.1).moved hW.alike).narrow (fun q hq => Nat.le_trans hb hq)
  · rw [hU]
    exact ((h4.kept hS.2.1).moved hW.alike).narrow (fun q hq => Nat.le_trans hb hq)
def en_g {α : Type} (b : Bool) (x : Option α) : Option α := match b with
  | true => x
  | false => none
theorem en_g_some {α : Type} {b : Bool} {x : Option α} {y : α} (h : en_g b x = some y) : b = true ∧ x = some y := by
  cases b
  · cases h
  · exact ⟨rfl, h⟩
def en_find {β : Type} (o i : Nat) : List (Nat × Nat × β) → Option β
  | [] => none
  | q :: r => match q.1 == o && q.2.1 == i with
    | true => some q.2.2
    | false => en_find o i r
theorem en_find_mem {β : Type} {o i : Nat} {b : β} : ∀ {t : List (Nat × Nat × β)}, en_find o i t = some b → (o, i, b) ∈ t
  | [], h => by cases h
  | q :: r, h => by
    unfold en_find at h
    split at h
    · rename_i hq
      simp only [Bool.and_eq_true, beq_iff_eq] at hq
      cases h
      obtain ⟨h1, h2⟩ := hq
      subst h1
      subst h2
      exact List.mem_cons_self
    · exact List.mem_cons_of_mem _ (en_find_mem h)
def en_full : Int × Int := (-2147483648, 2147483647)
def en_clip (a b : Int) : Int × Int := match decide (-2147483648 ≤ a) && decide (b ≤ 2147483647) with
  | true => (a, b)
  | false => en_full
def en_add (q r : Int × Int) : Int × Int := en_clip (q.1 + r.1) (q.2 + r.2)
def en_sub (q r : Int × Int) : Int × Int := en_clip (q.1 - r.2) (q.2 - r.1)
def en_mul (q r : Int × Int) : Int × Int := match decide (0 ≤ q.1) && decide (0 ≤ r.1) with
  | true => en_clip (q.1 * r.1) (q.2 * r.2)
  | false => en_full
def en_and (q r : Int × Int) : Int × Int := match decide (0 ≤ r.1) with
  | true => (0, r.2)
  | false => match decide (0 ≤ q.1) with
    | true => (0, q.2)
    | false => en_full
def en_in (q : Int × Int) (x : Int32) : Prop := q.1 ≤ x.toInt ∧ x.toInt ≤ q.2
theorem en_full_in (x : Int32) : en_in en_full x := by
  have := fb_rng x
  exact ⟨this.1, by show x.toInt ≤ 2147483647; omega⟩
theorem en_add_in {q r : Int × Int} {x y : Int32} (hx : en_in q x) (hy : en_in r y) : en_in (en_add q r) (x + y) := by
  unfold en_add en_clip
  split
  · rename_i h
    simp only [Bool.and_eq_true, decide_eq_true_eq] at h
    obtain ⟨h1, h2⟩ := hx
    obtain ⟨h3, h4⟩ := hy
    have e := fb_addI (x := x) (y := y) (by omega) (by omega)
    exact ⟨by rw [e]; show q.1 + r.1 ≤ _; omega, by rw [e]; show _ ≤ q.2 + r.2; omega⟩
  · exact en_full_in _
theorem en_sub_in {q r : Int × Int} {x y : Int32} (hx : en_in q x) (hy : en_in r y) : en_in (en_sub q r) (x - y) := by
  unfold en_sub en_clip
  split
  · rename_i h
    simp only [Bool.and_eq_true, decide_eq_true_eq] at h
    obtain ⟨h1, h2⟩ := hx
    obtain ⟨h3, h4⟩ := hy
    have e := fb_subI (x := x) (y := y) (by omega) (by omega)
    exact ⟨by rw [e]; show q.1 - r.2 ≤ _; omega, by rw [e]; show _ ≤ q.2 - r.1; omega⟩
  · exact en_full_in _
theorem en_mul_in {q r : Int × Int} {x y : Int32} (hx : en_in q x) (hy : en_in r y) : en_in (en_mul q r) (x * y) := by
  unfold en_mul en_clip
  split
  · rename_i h0
    split
    · rename_i h
      simp only [Bool.and_eq_true, decide_eq_true_eq] at h h0
      obtain ⟨h1, h2⟩ := hx
      obtain ⟨h3, h4⟩ := hy
      have a1 : q.1 * r.1 ≤ x.toInt * y.toInt := Int.mul_le_mul h1 h3 h0.2 (Int.le_trans h0.1 h1)
      have a2 : x.toInt * y.toInt ≤ q.2 * r.2 := Int.mul_le_mul h2 h4 (Int.le_trans h0.2 h3) (Int.le_trans (Int.le_trans h0.1 h1) h2)
      have e := fb_mulI (x := x) (y := y) (by omega) (by omega)
      exact ⟨by rw [e]; exact a1, by rw [e]; exact a2⟩
    · exact en_full_in _
  · exact en_full_in _
theorem en_and_r (x y : Int32) (h : 0 ≤ y.toInt) : 0 ≤ (x &&& y).toInt ∧ (x &&& y).toInt ≤ y.toInt := by
  have e : (x &&& y).toBitVec = x.toBitVec &&& y.toBitVec := rfl
  have hy : y.toInt = (y.toBitVec.toNat : Int) := by
    have h1 : y.toInt = y.toBitVec.toInt := rfl
    rw [h1, BitVec.toInt_eq_toNat_cond] at h ⊢
    split at h
    · rename_i h2
      rw [if_pos h2]
    · have := y.toBitVec.isLt
      omega
  have hle : (x &&& y).toBitVec.toNat ≤ y.toBitVec.toNat := by
    rw [e, BitVec.toNat_and]
    exact Nat.and_le_right
  have hylt : 2 * y.toBitVec.toNat < 2 ^ 32 := by
    have := fb_rng y
    omega
  have h2 : (x &&& y).toInt = ((x &&& y).toBitVec.toNat : Int) := by
    show (x &&& y).toBitVec.toInt = _
    rw [BitVec.toInt_eq_toNat_cond, if_pos (by omega)]
  rw [h2, hy]
  omega
theorem en_and_in {q r : Int × Int} {x y : Int32} (hx : en_in q x) (hy : en_in r y) : en_in (en_and q r) (x &&& y) := by
  obtain ⟨h1, h2⟩ := hx
  obtain ⟨h3, h4⟩ := hy
  unfold en_and
  split
  · rename_i h
    simp only [decide_eq_true_eq] at h
    have := en_and_r x y (by omega)
    exact ⟨this.1, by show _ ≤ r.2; omega⟩
  · split
    · rename_i h
      simp only [decide_eq_true_eq] at h
      have := en_and_r y x (by omega)
      rw [Int32.and_comm] at this
      exact ⟨this.1, by show _ ≤ q.2; omega⟩
    · exact en_full_in _
theorem en_i2b_in (x : Int32) : en_in (-128, 127) (x.toInt8.toInt32) := by
  have e : (x.toInt8.toInt32).toInt = x.toInt8.toInt := by simp
  have h1 := x.toInt8.le_toInt
  have h2 := x.toInt8.toInt_lt
  exact ⟨by rw [e]; show -128 ≤ _; omega, by rw [e]; show _ ≤ 127; omega⟩
def en_may (cd : Jvm.ClassFile.Cond) (q r : Int × Int) : Bool × Bool := match cd with
  | .lt => (decide (q.1 < r.2), decide (r.1 ≤ q.2))
  | .ge => (decide (r.1 ≤ q.2), decide (q.1 < r.2))
  | .gt => (decide (r.1 < q.2), decide (q.1 ≤ r.2))
  | .le => (decide (q.1 ≤ r.2), decide (r.1 < q.2))
  | .eq => (decide (q.1 ≤ r.2) && decide (r.1 ≤ q.2), !(decide (q.1 = q.2) && decide (r.1 = r.2) && decide (q.1 = r.1)))
  | .ne => (!(decide (q.1 = q.2) && decide (r.1 = r.2) && decide (q.1 = r.1)), decide (q.1 ≤ r.2) && decide (r.1 ≤ q.2))
def en_put (ty : FieldType) (a : en_V) : Bool := match ty, a with
  | .int, .inl _ => true
  | .boolean, .inl q => decide (0 ≤ q.1) && decide (q.2 ≤ 1)
  | .object _, .inr _ => true
  | .array _, .inr _ => true
  | _, _ => false
theorem en_put_ok {N : Nat} {ad : Nat → Nat} {ty : FieldType} {a : en_V} {x : Value} (h : en_put ty a = true) (hx : en_v N ad a x) : narrow ty x = x ∧ fits ty x = true := by
  unfold en_put at h
  split at h
  · obtain ⟨i, e, -⟩ := hx
    subst e
    exact ⟨rfl, rfl⟩
  · obtain ⟨i, e, h1, h2⟩ := hx
    subst e
    simp only [Bool.and_eq_true, decide_eq_true_eq] at h
    have hi : i = 0 ∨ i = 1 := by
      rcases (show i.toInt = 0 ∨ i.toInt = 1 by omega) with q | q
      · exact Or.inl ((fa_eq _ _).mpr q)
      · exact Or.inr ((fa_eq _ _).mpr q)
    rcases hi with rfl | rfl <;> exact ⟨rfl, rfl⟩
  · rcases en_v_r hx with rfl | ⟨a, rfl⟩ <;> exact ⟨rfl, rfl⟩
  · rcases en_v_r hx with rfl | ⟨a, rfl⟩ <;> exact ⟨rfl, rfl⟩
  · cases h
def en_dv (ty : FieldType) : en_V := match ty with
  | .object _ => .inr 1
  | .array _ => .inr 1
  | _ => .inl (0, 0)
def en_dok (ty : FieldType) : Bool := match ty with
  | .object _ => true
  | .array _ => true
  | .int => true
  | .boolean => true
  | _ => false
theorem en_dv_ok {N : Nat} {ad : Nat → Nat} {ty : FieldType} (h : en_dok ty = true) : en_v N ad (en_dv ty) (defaultValue ty) := by
  unfold en_dok at h
  split at h
  · exact rfl
  · exact rfl
  · exact ⟨0, rfl, by decide, by decide⟩
  · exact ⟨0, rfl, by decide, by decide⟩
  · cases h
def en_df (ci n : Nat) : List en_V := (List.range n).map (fun j => en_dv (en_tyX ci j))
abbrev ev_t : Type := Nat × Nat × Nat × Int
abbrev ev_s : Type := en_V × ev_t
abbrev ev_l : Type := Option (en_V × Option (Nat × Int))
abbrev ev_f : Type := (Nat × Nat × Nat) × (Int × Int) × Option (Nat × Int)
abbrev ev_r : Type := Nat × Nat × Int
abbrev ev_S : Type := Nat × List ev_l × List ev_s × List ev_f × List ev_r
def ev_nt : ev_t := (0, 0, 0, 0)
/-- a cell's type: an array of numbers; with 3 a row of cells, from the cell of that number on; an object -/
def ev_c (tys : List (ClassId × FieldType)) (N : Nat) (ad : Nat → Nat) (t : en_C) (e : va_E) : Prop := match t with
  | .inl q => if q.1 = 3 then ∃ (cA : ClassId) (f : Nat → Option Nat), e = .inl (cA, q.2.1, .inr (.inr (.inr (.inr f)))) ∧ tys[3]? = some (cA, .array .int) ∧ ∀ j, j < q.2.1 → f j = some (ad (q.2.2.1.toNat + j)) ∧ q.2.2.1.toNat + j < N
    else ∃ (cA : ClassId) (f : Nat → Int32), e = .inl (cA, q.2.1, .inl f) ∧ tys[q.1]? = some (cA, en_ty q.1) ∧ ∀ j, j < q.2.1 → en_in q.2.2 (f j)
  | .inr q => ∃ vs : List Value, e = .inr (q.1, vs) ∧ en_vs N ad q.2 vs
def ev_w (tys : List (ClassId × FieldType)) (T : en_T) (ad : Nat → Nat) (ws : va_W) : Prop :=
  ws.length = T.length ∧ ∀ (k : Nat) (t : en_C), T[k]? = some t → ∃ e : va_E, ws[k]? = some (ad k, e) ∧ ev_c tys T.length ad t e
/-- the value at a place: a local's; a field's (cell, slot); an element's (cell, the local that holds the index) -/
def ev_loc (ls : Array Slot) (ws : va_W) (q : Nat × Nat × Nat) (x : Int32) : Prop := match q.1 with
  | 1 => ls[q.2.1]? = some (.val (.int x))
  | 2 => ∃ (a ci : Nat) (vs : List Value), ws[q.2.1]? = some (a, .inr (ci, vs)) ∧ vs[q.2.2]? = some (.int x)
  | 3 => ∃ (a : Nat) (cA : ClassId) (n : Nat) (f : Nat → Int32) (y : Int32), ws[q.2.1]? = some (a, .inl (cA, n, .inl f)) ∧ ls[q.2.2]? = some (.val (.int y)) ∧ 0 ≤ y.toInt ∧ y.toInt < n ∧ f y.toNatClampNeg = x
  | _ => False
theorem ev_loc_one {ls : Array Slot} {ws : va_W} {q : Nat × Nat × Nat} {x y : Int32} (hx : ev_loc ls ws q x) (hy : ev_loc ls ws q y) : x = y := by
  obtain ⟨k, a, b⟩ := q
  match k, hx, hy with
  | 1, hx, hy => exact Value.int.inj (Slot.val.inj (Option.some.inj ((hx : ls[a]? = _).symm.trans hy)))
  | 2, ⟨_, _, vs, h1, h2⟩, ⟨_, _, us, h3, h4⟩ =>
    have e := h1.symm.trans h3
    cases e
    exact Value.int.inj (Option.some.inj (h2.symm.trans h4))
  | 3, ⟨_, _, _, f, i, h1, h2, _, _, h5⟩, ⟨_, _, _, g, j, h6, h7, _, _, h10⟩ =>
    have e := h1.symm.trans h6
    cases e
    have e2 := h2.symm.trans h7
    cases e2
    exact h5.symm.trans h10
def ev_gt (γ : Nat → Int) (g : Option (Nat × Int)) (x : Value) : Prop := match g with
  | none => True
  | some q => ∃ i : Int32, x = .int i ∧ i.toInt = γ q.1 + q.2
def ev_tag (ls : Array Slot) (ws : va_W) (t : ev_t) (x : Value) : Prop := t.1 = 0 ∨ ∃ (i y : Int32), x = .int i ∧ ev_loc ls ws (t.1, t.2.1, t.2.2.1) y ∧ i.toInt = y.toInt + t.2.2.2
def ev_fact (γ : Nat → Int) (ls : Array Slot) (ws : va_W) (f : ev_f) : Prop := ∃ x : Int32, ev_loc ls ws f.1 x ∧ en_in f.2.1 x ∧ ev_gt γ f.2.2 (.int x)
def ev_rel (ls : Array Slot) (r : ev_r) : Prop := ∃ x y : Int32, ls[r.1]? = some (.val (.int x)) ∧ ls[r.2.1]? = some (.val (.int y)) ∧ x.toInt ≤ y.toInt + r.2.2
def ev_stk (N : Nat) (ad : Nat → Nat) (ls : Array Slot) (ws : va_W) : List ev_s → List Value → Prop
  | [], [] => True
  | a :: as, x :: xs => (en_v N ad a.1 x ∧ ev_tag ls ws a.2 x) ∧ ev_stk N ad ls ws as xs
  | _, _ => False
/-- what may have been written: (cell, slot) of objects, (cell, 999) of arrays -/
def ev_fe (Wr : List (Nat × Nat)) (k : Nat) (e0 e : va_E) : Prop := match e0, e with
  | .inl a, .inl b => (k, 999) ∈ Wr ∨ a = b
  | .inr a, .inr b => a.1 = b.1 ∧ a.2.length = b.2.length ∧ ∀ f, (k, f) ∉ Wr → a.2[f]? = b.2[f]?
  | _, _ => False
def ev_fr (Wr : List (Nat × Nat)) (w0 w : va_W) : Prop := w0.length = w.length ∧ ∀ (k : Nat) (q0 q : Nat × va_E), w0[k]? = some q0 → w[k]? = some q → q0.1 = q.1 ∧ ev_fe Wr k q0.2 q.2
theorem ev_fe.rf (Wr : List (Nat × Nat)) (k : Nat) : ∀ e : va_E, ev_fe Wr k e e
  | .inl _ => Or.inr rfl
  | .inr _ => ⟨rfl, rfl, fun _ _ => rfl⟩
theorem ev_fr.rf (Wr : List (Nat × Nat)) (w : va_W) : ev_fr Wr w w := ⟨rfl, fun k q0 q h0 h => by
  rw [h0] at h
  cases h
  exact ⟨rfl, ev_fe.rf Wr k _⟩⟩
theorem ev_fe.tr {W1 W2 : List (Nat × Nat)} (hs : ∀ q ∈ W2, q ∈ W1) {k : Nat} : ∀ {a b c : va_E}, ev_fe W1 k a b → ev_fe W2 k b c → ev_fe W1 k a c
  | .inl a, .inl b, .inl c, h1, h2 => by
    rcases h1 with h1 | h1
    · exact Or.inl h1
    · rcases h2 with h2 | h2
      · exact Or.inl (hs _ h2)
      · exact Or.inr (h1.trans h2)
  | .inr a, .inr b, .inr c, h1, h2 => ⟨h1.1.trans h2.1, h1.2.1.trans h2.2.1, fun f hf => (h1.2.2 f hf).trans (h2.2.2 f (fun h => hf (hs _ h)))⟩
  | .inl _, .inr _, _, h1, _ => h1.elim
  | .inr _, .inl _, _, h1, _ => h1.elim
  | .inl _, .inl _, .inr _, _, h2 => h2.elim
  | .inr _, .inr _, .inl _, _, h2 => h2.elim
theorem ev_fr.tr {W1 W2 : List (Nat × Nat)} {a b c : va_W} (h1 : ev_fr W1 a b) (h2 : ev_fr W2 b c) (hs : ∀ q ∈ W2, q ∈ W1) : ev_fr W1 a c := by
  refine ⟨h1.1.trans h2.1, fun k q0 q h0 h => ?_⟩
  have hk : k < b.length := by
    have := (List.getElem?_eq_some_iff.mp h0).1
    have := h1.1
    omega
  obtain ⟨e1, e2⟩ := h1.2 k q0 b[k] h0 (List.getElem?_eq_getElem hk)
  obtain ⟨e3, e4⟩ := h2.2 k b[k] q (List.getElem?_eq_getElem hk) h
  exact ⟨e1.trans e3, ev_fe.tr hs e2 e4⟩
/-- a place that was not written has its value still -/
def ev_hit (Wr : List (Nat × Nat)) (q : Nat × Nat × Nat) : Bool := match q.1 with
  | 2 => Wr.contains (q.2.1, q.2.2)
  | 3 => Wr.contains (q.2.1, 999)
  | _ => false
theorem ev_loc_fr {Wr : List (Nat × Nat)} {w0 w : va_W} {ls : Array Slot} {q : Nat × Nat × Nat} {x : Int32} (h : ev_fr Wr w0 w) (hq : ev_hit Wr q = false) (hx : ev_loc ls w0 q x) : ev_loc ls w q x := by
  obtain ⟨k, a, b⟩ := q
  match k, hq, hx with
  | 1, _, hx => exact hx
  | 2, hq, ⟨a0, ci, vs, h1, h2⟩ =>
    dsimp only at h1 h2
    have hk : a < w.length := by
      have := (List.getElem?_eq_some_iff.mp h1).1
      have := h.1
      omega
    obtain ⟨e1, e2⟩ := h.2 a _ w[a] h1 (List.getElem?_eq_getElem hk)
    have hw : w[a]? = some w[a] := List.getElem?_eq_getElem hk
    cases hc : w[a] with
    | mk a1 ee =>
      rw [hc] at e1 e2 hw
      cases ee with
      | inl z => exact e2.elim
      | inr z =>
        obtain ⟨c1, us⟩ := z
        obtain ⟨e3, e4, e5⟩ := e2
        refine ⟨a1, c1, us, hw, ?_⟩
        have hn : (a, b) ∉ Wr := fun hm => by
          have : Wr.contains (a, b) = true := List.contains_iff_mem.mpr hm
          rw [show ev_hit Wr (2, a, b) = Wr.contains (a, b) from rfl, this] at hq
          cases hq
        rw [← e5 b hn]
        exact h2
  | 3, hq, ⟨a0, cA, n, f, y, h1, h2, h3, h4, h5⟩ =>
    dsimp only at h1 h2
    have hk : a < w.length := by
      have := (List.getElem?_eq_some_iff.mp h1).1
      have := h.1
      omega
    obtain ⟨e1, e2⟩ := h.2 a _ w[a] h1 (List.getElem?_eq_getElem hk)
    have hw : w[a]? = some w[a] := List.getElem?_eq_getElem hk
    cases hc : w[a] with
    | mk a1 ee =>
      rw [hc] at e1 e2 hw
      cases ee with
      | inr z => exact e2.elim
      | inl z =>
        have hn : (a, 999) ∉ Wr := fun hm => by
          have : Wr.contains (a, 999) = true := List.contains_iff_mem.mpr hm
          rw [show ev_hit Wr (3, a, b) = Wr.contains (a, 999) from rfl, this] at hq
          cases hq
        rcases e2 with e2 | e2
        · exact absurd e2 hn
        · exact ⟨a1, cA, n, f, y, by rw [hw, ← e2], h2, h3, h4, h5⟩
