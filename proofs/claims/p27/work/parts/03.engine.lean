theorem fb_rng (x : Int32) : -2147483648 ≤ x.toInt ∧ x.toInt < 2147483648 := ⟨x.le_toInt, x.toInt_lt⟩
theorem fb_bmod {z : Int} (h1 : -2147483648 ≤ z) (h2 : z < 2147483648) : z.bmod (2 ^ 32) = z := Int.bmod_eq_of_le (by omega) (by omega)
theorem fb_addI {x y : Int32} (h1 : -2147483648 ≤ x.toInt + y.toInt) (h2 : x.toInt + y.toInt < 2147483648) : (x + y).toInt = x.toInt + y.toInt := by rw [Int32.toInt_add]; exact fb_bmod h1 h2
theorem fb_subI {x y : Int32} (h1 : -2147483648 ≤ x.toInt - y.toInt) (h2 : x.toInt - y.toInt < 2147483648) : (x - y).toInt = x.toInt - y.toInt := by rw [Int32.toInt_sub]; exact fb_bmod h1 h2
theorem fb_mulI {x y : Int32} (h1 : -2147483648 ≤ x.toInt * y.toInt) (h2 : x.toInt * y.toInt < 2147483648) : (x * y).toInt = x.toInt * y.toInt := by rw [Int32.toInt_mul]; exact fb_bmod h1 h2
theorem fa_lt (a b : Int32) : a < b ↔ a.toInt < b.toInt := Int32.lt_iff_toInt_lt
theorem fa_le (a b : Int32) : a ≤ b ↔ a.toInt ≤ b.toInt := Int32.le_iff_toInt_le
theorem fa_eq (a b : Int32) : a = b ↔ a.toInt = b.toInt := ⟨fun h => by rw [h], fun h => Int32.toInt_inj.mp h⟩
abbrev en_V : Type := (Int × Int) ⊕ Nat
abbrev en_C : Type := (Nat × Nat × Int × Int) ⊕ (Nat × List en_V)
abbrev en_L : Type := List (Option en_V)
abbrev en_T : Type := List en_C
abbrev en_S : Type := Nat × en_L × List en_V × en_T × Nat × Nat
/-- what a number of bounds, a cell's number + 2, 1 (null), 0 (null or any cell) stand for -/
def en_v (N : Nat) (ad : Nat → Nat) (a : en_V) (x : Value) : Prop := match a with
  | .inl q => ∃ i : Int32, x = .int i ∧ q.1 ≤ i.toInt ∧ i.toInt ≤ q.2
  | .inr 0 => x = .null ∨ ∃ a : Nat, x = .ref a
  | .inr 1 => x = .null
  | .inr (k + 2) => x = .ref (ad k) ∧ k < N
def en_vs (N : Nat) (ad : Nat → Nat) : List en_V → List Value → Prop
  | [], [] => True
  | a :: as, x :: xs => en_v N ad a x ∧ en_vs N ad as xs
  | _, _ => False
def en_ty : Nat → FieldType
  | 0 => .int
  | 1 => .boolean
  | _ => .byte
def en_c (tys : List (ClassId × FieldType)) (N : Nat) (ad : Nat → Nat) (t : en_C) (e : va_E) : Prop := match t with
  | .inl q => ∃ (cA : ClassId) (f : Nat → Int32), e = .inl (cA, q.2.1, .inl f) ∧ tys[q.1]? = some (cA, en_ty q.1) ∧ ∀ j, j < q.2.1 → q.2.2.1 ≤ (f j).toInt ∧ (f j).toInt ≤ q.2.2.2
  | .inr q => ∃ vs : List Value, e = .inr (q.1, vs) ∧ en_vs N ad q.2 vs
def en_W (D : va_G) (tys : List (ClassId × FieldType)) (A : Nat → Prop) (T : en_T) (ad : Nat → Nat) (H : Heap) : Prop :=
  ∃ ws : va_W, ws.length = T.length ∧ (∀ (k : Nat) (t : en_C), T[k]? = some t → ∃ e : va_E, ws[k]? = some (ad k, e) ∧ en_c tys T.length ad t e) ∧ va_P D vwCl ws H ∧ va_D A ws
def en_l (N : Nat) (ad : Nat → Nat) (L : en_L) (nL : Nat) (ls : Array Slot) : Prop :=
  ls.size = nL ∧ lv_wf ls ∧ ∀ (i : Nat) (a : en_V), L[i]? = some (some a) → ∃ x : Value, ls[i]? = some (.val x) ∧ en_v N ad a x
theorem en_v_cat {N : Nat} {ad : Nat → Nat} {a : en_V} {x : Value} (h : en_v N ad a x) : x.category = 1 := by
  match a, h with
  | .inl q, ⟨i, e, _⟩ => subst e; rfl
  | .inr 0, h => rcases h with rfl | ⟨a, rfl⟩ <;> rfl
  | .inr 1, h => have h : x = .null := h; subst h; rfl
  | .inr (k + 2), h => have h : x = .ref (ad k) ∧ k < N := h; rw [h.1]; rfl
theorem en_v_r {N : Nat} {ad : Nat → Nat} {k : Nat} {x : Value} (h : en_v N ad (.inr k) x) : x = .null ∨ ∃ a : Nat, x = .ref a := by
  match k, h with
  | 0, h => exact h
  | 1, h => exact Or.inl h
  | k + 2, h => exact Or.inr ⟨_, h.1⟩
theorem en_v_mono {N M : Nat} {ad ad' : Nat → Nat} (hN : N ≤ M) (hq : ∀ k, k < N → ad' k = ad k) {a : en_V} {x : Value} (h : en_v N ad a x) : en_v M ad' a x := by
  match a, h with
  | .inl q, h => exact h
  | .inr 0, h => exact h
  | .inr 1, h => exact h
  | .inr (k + 2), h =>
    have h : x = .ref (ad k) ∧ k < N := h
    exact ⟨by rw [hq k h.2]; exact h.1, Nat.lt_of_lt_of_le h.2 hN⟩
theorem en_vs_mono {N M : Nat} {ad ad' : Nat → Nat} (hN : N ≤ M) (hq : ∀ k, k < N → ad' k = ad k) : ∀ {as : List en_V} {xs : List Value}, en_vs N ad as xs → en_vs M ad' as xs
  | [], [], _ => trivial
  | _ :: _, _ :: _, h => ⟨en_v_mono hN hq h.1, en_vs_mono hN hq h.2⟩
  | [], _ :: _, h => h.elim
  | _ :: _, [], h => h.elim
theorem en_c_mono {tys : List (ClassId × FieldType)} {N M : Nat} {ad ad' : Nat → Nat} (hN : N ≤ M) (hq : ∀ k, k < N → ad' k = ad k) {t : en_C} {e : va_E} (h : en_c tys N ad t e) : en_c tys M ad' t e := by
  match t, h with
  | .inl q, h => exact h
  | .inr q, ⟨vs, h1, h2⟩ => exact ⟨vs, h1, en_vs_mono hN hq h2⟩
theorem en_vs_len {N : Nat} {ad : Nat → Nat} : ∀ {as : List en_V} {xs : List Value}, en_vs N ad as xs → as.length = xs.length
  | [], [], _ => rfl
  | _ :: _, _ :: _, h => by rw [List.length_cons, List.length_cons, en_vs_len h.2]
  | [], _ :: _, h => h.elim
  | _ :: _, [], h => h.elim
theorem en_vs_cat {N : Nat} {ad : Nat → Nat} : ∀ {as : List en_V} {xs : List Value}, en_vs N ad as xs → (xs.map fun v => v.category).sum = as.length
  | [], [], _ => rfl
  | _ :: _, _ :: _, h => by rw [List.map_cons, List.sum_cons, en_vs_cat h.2, en_v_cat h.1, List.length_cons, Nat.add_comm]
  | [], _ :: _, h => h.elim
  | _ :: _, [], h => h.elim
theorem en_vs_get {N : Nat} {ad : Nat → Nat} : ∀ {as : List en_V} {xs : List Value} {k : Nat} {a : en_V}, en_vs N ad as xs → as[k]? = some a → ∃ x, xs[k]? = some x ∧ en_v N ad a x
  | [], [], k, a, _, hk => by simp at hk
  | a0 :: _, x0 :: _, 0, a, h, hk => by
    rw [List.getElem?_cons_zero] at hk
    cases hk
    exact ⟨x0, rfl, h.1⟩
  | _ :: _, _ :: _, k + 1, a, h, hk => by
    rw [List.getElem?_cons_succ] at hk
    obtain ⟨x, h1, h2⟩ := en_vs_get h.2 hk
    exact ⟨x, by rw [List.getElem?_cons_succ]; exact h1, h2⟩
  | [], _ :: _, _, _, h, _ => h.elim
  | _ :: _, [], _, _, h, _ => h.elim
theorem en_vs_set {N : Nat} {ad : Nat → Nat} {a : en_V} {x : Value} (hx : en_v N ad a x) : ∀ {as : List en_V} {xs : List Value} (k : Nat), en_vs N ad as xs → en_vs N ad (as.set k a) (xs.set k x)
  | [], [], _, _ => trivial
  | _ :: _, _ :: _, 0, h => ⟨hx, h.2⟩
  | _ :: _, _ :: _, k + 1, h => ⟨h.1, en_vs_set hx k h.2⟩
  | [], _ :: _, _, h => h.elim
  | _ :: _, [], _, h => h.elim
theorem en_vs_app {N : Nat} {ad : Nat → Nat} : ∀ {as bs : List en_V} {zs : List Value}, en_vs N ad (as ++ bs) zs → ∃ xs ys, zs = xs ++ ys ∧ en_vs N ad as xs ∧ en_vs N ad bs ys
  | [], bs, zs, h => ⟨[], zs, rfl, trivial, h⟩
  | a :: as, bs, z :: zs, h => by
    obtain ⟨xs, ys, h1, h2, h3⟩ := en_vs_app (as := as) h.2
    exact ⟨z :: xs, ys, by rw [h1]; rfl, ⟨h.1, h2⟩, h3⟩
  | _ :: _, _, [], h => h.elim
theorem en_vs_snoc {N : Nat} {ad : Nat → Nat} {b : en_V} {y : Value} (hb : en_v N ad b y) : ∀ {as : List en_V} {xs : List Value}, en_vs N ad as xs → en_vs N ad (as ++ [b]) (xs ++ [y])
  | [], [], _ => ⟨hb, trivial⟩
  | _ :: _, _ :: _, h => ⟨h.1, en_vs_snoc hb h.2⟩
  | [], _ :: _, h => h.elim
  | _ :: _, [], h => h.elim
theorem en_vs_rev {N : Nat} {ad : Nat → Nat} : ∀ {as : List en_V} {xs : List Value}, en_vs N ad as xs → en_vs N ad as.reverse xs.reverse
  | [], [], _ => trivial
  | a :: as, x :: xs, h => by
    rw [List.reverse_cons, List.reverse_cons]
    exact en_vs_snoc h.1 (en_vs_rev h.2)
  | [], _ :: _, h => h.elim
  | _ :: _, [], h => h.elim
/-- locals -/
theorem en_l_get {N : Nat} {ad : Nat → Nat} {L : en_L} {nL : Nat} {ls : Array Slot} (h : en_l N ad L nL ls) {i : Nat} {a : en_V} (hi : L[i]? = some (some a)) : ∃ x : Value, ls[i]? = some (.val x) ∧ en_v N ad a x := h.2.2 i a hi
theorem en_l_mono {N M : Nat} {ad ad' : Nat → Nat} (hN : N ≤ M) (hq : ∀ k, k < N → ad' k = ad k) {L : en_L} {nL : Nat} {ls : Array Slot} (h : en_l N ad L nL ls) : en_l M ad' L nL ls :=
  ⟨h.1, h.2.1, fun i a hi => by obtain ⟨x, h1, h2⟩ := h.2.2 i a hi; exact ⟨x, h1, en_v_mono hN hq h2⟩⟩
def en_lv (ls : Array Slot) : List (Nat × Value) := (List.range ls.size).filterMap (fun (i : Nat) => match (ls[i]? : Option Slot) with
  | some (Slot.val v) => some (i, v)
  | _ => none)
theorem en_lv_mem {ls : Array Slot} {i : Nat} {v : Value} : (i, v) ∈ en_lv ls ↔ ls[i]? = some (.val v) := by
  unfold en_lv
  rw [List.mem_filterMap]
  constructor
  · rintro ⟨j, hj, h⟩
    split at h
    · rename_i w hw
      cases h
      exact hw
    · cases h
  · intro h
    refine ⟨i, List.mem_range.mpr (lv_lt h), ?_⟩
    rw [h]
theorem en_lv_has {ls : Array Slot} {nL : Nat} (h1 : ls.size = nL) (h2 : lv_wf ls) : lv_has ls nL (en_lv ls) := ⟨h1, h2, fun q hq => en_lv_mem.mp hq⟩
theorem en_l_set {N : Nat} {ad : Nat → Nat} {L : en_L} {nL : Nat} {ls ls' : Array Slot} (h : en_l N ad L nL ls) {i : Nat} {a : en_V} {x : Value} (hx : en_v N ad a x)
    (h' : lv_has ls' nL ((i, x) :: (en_lv ls).filter (fun q => !(q.1 == i) && !(q.1 + 1 == i && q.2.category == 2)))) : en_l N ad (L.set i (some a)) nL ls' := by
  refine ⟨h'.1, h'.2.1, fun j b hj => ?_⟩
  by_cases hji : j = i
  · subst hji
    have hb : b = a := by
      by_cases hl : j < L.length
      · rw [List.getElem?_set_self hl] at hj
        exact (Option.some.inj (Option.some.inj hj)).symm
      · rw [List.getElem?_eq_none (by rw [List.length_set]; omega)] at hj
        cases hj
    subst hb
    exact ⟨x, h'.2.2 (j, x) List.mem_cons_self, hx⟩
  · rw [List.getElem?_set_ne (Ne.symm hji)] at hj
    obtain ⟨y, h1, h2⟩ := h.2.2 j b hj
    refine ⟨y, h'.2.2 (j, y) (List.mem_cons_of_mem _ (List.mem_filter.mpr ⟨en_lv_mem.mpr h1, ?_⟩)), h2⟩
    have hc := en_v_cat h2
    simp [hji, hc]
def en_le (a b : en_V) : Bool := match a, b with
  | .inl q, .inl r => decide (r.1 ≤ q.1) && decide (q.2 ≤ r.2)
  | .inr k, .inr j => j == 0 || k == j
  | _, _ => false
def en_all2 {α β : Type} (f : α → β → Bool) : List α → List β → Bool
  | [], [] => true
  | a :: as, b :: bs => f a b && en_all2 f as bs
  | _, _ => false
def en_cle (a b : en_C) : Bool := match a, b with
  | .inl q, .inl r => q.1 == r.1 && q.2.1 == r.2.1 && decide (r.2.2.1 ≤ q.2.2.1) && decide (q.2.2.2 ≤ r.2.2.2)
  | .inr q, .inr r => q.1 == r.1 && en_all2 en_le q.2 r.2
  | _, _ => false
theorem en_le_ok {N : Nat} {ad : Nat → Nat} {a b : en_V} {x : Value} (h : en_le a b = true) (hx : en_v N ad a x) : en_v N ad b x := by
  match a, b, h with
  | .inl q, .inl r, h =>
    simp only [en_le, Bool.and_eq_true, decide_eq_true_eq] at h
    obtain ⟨i, e, h1, h2⟩ := hx
    exact ⟨i, e, by omega, by omega⟩
  | .inr k, .inr j, h =>
    simp only [en_le, Bool.or_eq_true, beq_iff_eq] at h
    rcases h with h | h
    · subst h
      exact en_v_r hx
    · subst h
      exact hx
theorem en_all2_vs {N : Nat} {ad : Nat → Nat} : ∀ {as bs : List en_V} {xs : List Value}, en_all2 en_le as bs = true → en_vs N ad as xs → en_vs N ad bs xs
  | [], [], xs, _, h => h
  | a :: as, b :: bs, x :: xs, h, hx => by
    simp only [en_all2, Bool.and_eq_true] at h
    exact ⟨en_le_ok h.1 hx.1, en_all2_vs h.2 hx.2⟩
  | _ :: _, _ :: _, [], _, hx => hx.elim
  | [], _ :: _, _, h, _ => by simp [en_all2] at h
  | _ :: _, [], _, h, _ => by simp [en_all2] at h
theorem en_cle_ok {tys : List (ClassId × FieldType)} {N : Nat} {ad : Nat → Nat} {a b : en_C} {e : va_E} (h : en_cle a b = true) (hx : en_c tys N ad a e) : en_c tys N ad b e := by
  match a, b, h with
  | .inl q, .inl r, h =>
    simp only [en_cle, Bool.and_eq_true, decide_eq_true_eq, beq_iff_eq] at h
    obtain ⟨⟨⟨h1, h2⟩, h3⟩, h4⟩ := h
    obtain ⟨cA, f, e1, e2, e3⟩ := hx
    exact ⟨cA, f, by rw [← h2]; exact e1, by rw [← h1]; exact e2, fun j hj => by have := e3 j (by omega); omega⟩
  | .inr q, .inr r, h =>
    simp only [en_cle, Bool.and_eq_true, beq_iff_eq] at h
    obtain ⟨vs, e1, e2⟩ := hx
    exact ⟨vs, by rw [← h.1]; exact e1, en_all2_vs h.2 e2⟩
theorem en_all2_len {α β : Type} {f : α → β → Bool} : ∀ {as : List α} {bs : List β}, en_all2 f as bs = true → as.length = bs.length
  | [], [], _ => rfl
  | _ :: _, _ :: _, h => by
    simp only [en_all2, Bool.and_eq_true] at h
    rw [List.length_cons, List.length_cons, en_all2_len h.2]
  | [], _ :: _, h => by simp [en_all2] at h
  | _ :: _, [], h => by simp [en_all2] at h
theorem en_all2_get {α β : Type} {f : α → β → Bool} : ∀ {as : List α} {bs : List β} {k : Nat} {b : β}, en_all2 f as bs = true → bs[k]? = some b → ∃ a, as[k]? = some a ∧ f a b = true
  | [], [], k, b, _, hk => by simp at hk
  | a :: _, _ :: _, 0, b, h, hk => by
    simp only [en_all2, Bool.and_eq_true] at h
    rw [List.getElem?_cons_zero] at hk
    cases hk
    exact ⟨a, rfl, h.1⟩
  | _ :: _, _ :: _, k + 1, b, h, hk => by
    simp only [en_all2, Bool.and_eq_true] at h
    rw [List.getElem?_cons_succ] at hk
    obtain ⟨a, h1, h2⟩ := en_all2_get h.2 hk
    exact ⟨a, by rw [List.getElem?_cons_succ]; exact h1, h2⟩
  | [], _ :: _, _, _, h, _ => by simp [en_all2] at h
  | _ :: _, [], _, _, h, _ => by simp [en_all2] at h
section ENW
variable {D : va_G} {tys : List (ClassId × FieldType)} {A : Nat → Prop} {T T' : en_T} {ad ad' : Nat → Nat} {H H1 : Heap}
theorem en_W.le (h : en_W D tys A T ad H) (hT : en_all2 en_cle T T' = true) : en_W D tys A T' ad H := by
  obtain ⟨ws, h1, h2, h3, h4⟩ := h
  have hl := en_all2_len hT
  refine ⟨ws, h1.trans hl, fun k t hk => ?_, h3, h4⟩
  obtain ⟨a, g1, g2⟩ := en_all2_get hT hk
  obtain ⟨e, g3, g4⟩ := h2 k a g1
  exact ⟨e, g3, en_cle_ok g2 (by rw [← hl]; exact g4)⟩
theorem en_W.kept (h : en_W D tys A T ad H) (hq : ∀ q : Nat, q < H.size → H1[q]? = H[q]?) : en_W D tys A T ad H1 := by
  obtain ⟨ws, h1, h2, h3, h4⟩ := h
  exact ⟨ws, h1, h2, h3.kept (fun k q hk => hq q.1 ((h3 k q hk).lt)), h4⟩
theorem en_W.put {ws : va_W} {k : Nat} {e : va_E} {t : en_C} (h1 : ws.length = T.length) (h2 : ∀ (k : Nat) (t : en_C), T[k]? = some t → ∃ e : va_E, ws[k]? = some (ad k, e) ∧ en_c tys T.length ad t e)
    (hP : va_P D vwCl (ws.set k (ad k, e)) H1) (hD : va_D A (ws.set k (ad k, e))) (he : en_c tys T.length ad t e) : en_W D tys A (T.set k t) ad H1 := by
  refine ⟨ws.set k (ad k, e), by rw [List.length_set, List.length_set]; exact h1, fun j u hj => ?_, hP, hD⟩
  rw [List.length_set]
  by_cases hjk : j = k
  · subst hjk
    by_cases hl : j < T.length
    · rw [List.getElem?_set_self hl] at hj
      cases hj
      exact ⟨e, List.getElem?_set_self (by omega), he⟩
    · rw [List.getElem?_eq_none (by rw [List.length_set]; omega)] at hj
      cases hj
  · rw [List.getElem?_set_ne (Ne.symm hjk)] at hj
    rw [List.getElem?_set_ne (Ne.symm hjk)]
    exact h2 j u hj
/-- the addresses with one more -/
def en_up (ad : Nat → Nat) (n q : Nat) : Nat → Nat := fun k => if k = n then q else ad k
theorem en_up_lt {ad : Nat → Nat} {n q k : Nat} (h : k < n) : en_up ad n q k = ad k := if_neg (by omega)
theorem en_up_at {ad : Nat → Nat} {n q : Nat} : en_up ad n q n = q := if_pos rfl
theorem en_W.push {ws : va_W} {q : Nat} {e : va_E} {t : en_C} (h1 : ws.length = T.length) (h2 : ∀ (k : Nat) (t : en_C), T[k]? = some t → ∃ e : va_E, ws[k]? = some (ad k, e) ∧ en_c tys T.length ad t e)
    (hP : va_P D vwCl (ws ++ [(q, e)]) H1) (hD : va_D A (ws ++ [(q, e)])) (he : en_c tys T.length ad t e) : en_W D tys A (T ++ [t]) (en_up ad T.length q) H1 := by
  refine ⟨ws ++ [(q, e)], by rw [List.length_append, List.length_append, h1]; rfl, fun j u hj => ?_, hP, hD⟩
  rw [List.length_append]
  by_cases hl : j < T.length
  · rw [List.getElem?_append_left hl] at hj
    obtain ⟨e0, g1, g2⟩ := h2 j u hj
    refine ⟨e0, ?_, en_c_mono (Nat.le_add_right _ _) (fun k hk => en_up_lt hk) g2⟩
    rw [List.getElem?_append_left (by omega), en_up_lt hl]
    exact g1
  · rw [List.getElem?_append_right (by omega)] at hj
    have hz : j - T.length < 1 := (List.getElem?_eq_some_iff.mp hj).1
    have hj0 : j = T.length := by omega
    subst hj0
    rw [Nat.sub_self] at hj
    cases hj
    refine ⟨e, ?_, en_c_mono (Nat.le_add_right _ _) (fun k hk => en_up_lt hk) he⟩
    rw [List.getElem?_append_right (by omega), h1, Nat.sub_self, en_up_at]
    rfl
end ENW
