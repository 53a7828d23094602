def eg_rf (P : List Nat) (a b : en_V) : Bool := match a, b with
  | .inl q, .inl r => decide (r.1 ≤ q.1) && decide (q.2 ≤ r.2)
  | .inr (j + 2), .inr (k + 2) => P[k]? == some j
  | _, _ => false
def eg_bc (P : List Nat) (a b : en_C) : Bool := match a, b with
  | .inl q, .inl r => q.1 == r.1 && (q.2.1 == r.2.1 && (match q.1 == 3 with
    | true => (List.range q.2.1).all (fun j => P[r.2.2.1.toNat + j]? == some (q.2.2.1.toNat + j))
    | false => decide (r.2.2.1 ≤ q.2.2.1) && decide (q.2.2.2 ≤ r.2.2.2)))
  | .inr q, .inr r => q.1 == r.1 && en_all2 (eg_rf P) q.2 r.2
  | _, _ => false
def eg_bk (P Q : List Nat) (T U : en_T) : Bool := P.length == U.length && (T.length == U.length && (List.range U.length).all (fun k => match P[k]?, U[k]? with
  | some i, some b => Q[i]? == some k && (match T[i]? with
    | some a => eg_bc P a b
    | none => false)
  | _, _ => false))
theorem eg_rf_ok {P : List Nat} {N : Nat} {ad : Nat → Nat} {a b : en_V} {x : Value} (hN : P.length = N) (h : eg_rf P a b = true) (hx : en_v N ad a x) : en_v N (fun k => ad (P.getD k 0)) b x := by
  match a, b, h, hx with
  | .inl q, .inl r, h, ⟨i, e, h1, h2⟩ =>
    simp only [eg_rf, Bool.and_eq_true, decide_eq_true_eq] at h
    exact ⟨i, e, Int.le_trans h.1 h1, Int.le_trans h2 h.2⟩
  | .inr (j + 2), .inr (k + 2), h, hx =>
    have hx : x = .ref (ad j) ∧ j < N := hx
    simp only [eg_rf, beq_iff_eq] at h
    have hk := (List.getElem?_eq_some_iff.mp h).1
    show x = .ref (ad (P.getD k 0)) ∧ k < N
    refine ⟨?_, by omega⟩
    rw [List.getD_eq_getElem?_getD, h]
    exact hx.1
theorem eg_rfs_ok {P : List Nat} {N : Nat} {ad : Nat → Nat} (hN : P.length = N) : ∀ {as bs : List en_V} {xs : List Value}, en_all2 (eg_rf P) as bs = true → en_vs N ad as xs → en_vs N (fun k => ad (P.getD k 0)) bs xs
  | [], [], [], _, _ => trivial
  | a :: as, b :: bs, x :: xs, h, hx => by
    simp only [en_all2, Bool.and_eq_true] at h
    exact ⟨eg_rf_ok hN h.1 hx.1, eg_rfs_ok hN h.2 hx.2⟩
  | [], _ :: _, _, h, _ => by simp [en_all2] at h
  | _ :: _, [], _, h, _ => by simp [en_all2] at h
  | _ :: _, _ :: _, [], _, hx => absurd hx (by simp [en_vs])
  | [], [], _ :: _, _, hx => absurd hx (by simp [en_vs])
theorem eg_bc_ok {P : List Nat} {tys : List (ClassId × FieldType)} {N : Nat} {ad : Nat → Nat} {a b : en_C} {e : va_E} (hN : P.length = N) (h : eg_bc P a b = true) (hx : ev_c tys N ad a e) : ev_c tys N (fun k => ad (P.getD k 0)) b e := by
  match a, b, h with
  | .inl q, .inl r, h =>
    simp only [eg_bc, Bool.and_eq_true, beq_iff_eq] at h
    obtain ⟨h1, h2, h3⟩ := h
    by_cases h4 : q.1 = 3
    · have h5 : (q.1 == 3) = true := by rw [h4]; rfl
      rw [h5] at h3
      simp only [List.all_eq_true, List.mem_range, beq_iff_eq] at h3
      unfold ev_c at *
      dsimp only at *
      rw [if_pos h4] at hx
      rw [if_pos (by rw [← h1]; exact h4)]
      obtain ⟨cA, f, g1, g2, g3⟩ := hx
      refine ⟨cA, f, by rw [← h2]; exact g1, g2, fun j hj => ?_⟩
      rw [← h2] at hj
      have hq := h3 j hj
      have hk := (List.getElem?_eq_some_iff.mp hq).1
      refine ⟨?_, by omega⟩
      rw [List.getD_eq_getElem?_getD, hq]
      exact (g3 j hj).1
    · have h5 : (q.1 == 3) = false := by rw [beq_eq_false_iff_ne]; exact h4
      rw [h5] at h3
      simp only [Bool.and_eq_true, decide_eq_true_eq] at h3
      obtain ⟨cA, f, e1, e2, e3⟩ := ec_get h4 hx
      exact ec_arr (by rw [← h1]; exact h4) ⟨cA, f, by rw [← h2]; exact e1, by rw [← h1]; exact e2, fun j hj => by have := e3 j (by omega); omega⟩
  | .inr q, .inr r, h =>
    simp only [eg_bc, Bool.and_eq_true, beq_iff_eq] at h
    obtain ⟨vs, e1, e2⟩ := hx
    exact ⟨vs, by rw [← h.1]; exact e1, eg_rfs_ok hN h.2 e2⟩
theorem eg_bridge {P Q : List Nat} {T U : en_T} {D : va_G} {tys : List (ClassId × FieldType)} {A : Nat → Prop} {ad : Nat → Nat} {H : Heap} (hb : eg_bk P Q T U = true) (hW : eg_W D tys A T ad H) :
    ∃ ws : va_W, ev_w tys U (fun k => ad (P.getD k 0)) ws ∧ va_P D vwCl ws H ∧ va_D A ws ∧ ∀ (k i : Nat) (t : en_C), P[k]? = some i → T[i]? = some t → ∃ e : va_E, ws[k]? = some (ad i, e) ∧ ev_c tys T.length ad t e := by
  obtain ⟨vs, v1, v2, v3, v4⟩ := hW
  simp only [eg_bk, Bool.and_eq_true, beq_iff_eq, List.all_eq_true, List.mem_range] at hb
  obtain ⟨b1, b2, b3⟩ := hb
  have key : ∀ k : Nat, k < U.length → ∃ (i : Nat) (a b : en_C), P[k]? = some i ∧ U[k]? = some b ∧ T[i]? = some a ∧ Q[i]? = some k ∧ eg_bc P a b = true := by
    intro k hk
    have h := b3 k hk
    split at h
    · rename_i i b h1 h2
      simp only [Bool.and_eq_true, beq_iff_eq] at h
      obtain ⟨h3, h4⟩ := h
      split at h4
      · rename_i a h5
        exact ⟨i, a, b, h1, h2, h5, h3, h4⟩
      · cases h4
    · cases h
  have at0 : ∀ (k i : Nat) (t : en_C), P[k]? = some i → T[i]? = some t → ∃ e : va_E, (P.map (fun i => vs.getD i (0, .inr (0, []))))[k]? = some (ad i, e) ∧ vs[i]? = some (ad i, e) ∧ ev_c tys T.length ad t e := by
    intro k i t hk ht
    obtain ⟨e, e1, e2⟩ := v2 i t ht
    refine ⟨e, ?_, e1, e2⟩
    rw [List.getElem?_map, hk]
    show some (vs.getD i _) = _
    rw [List.getD_eq_getElem?_getD, e1]
    rfl
  have back : ∀ (k : Nat) (q : Nat × va_E), (P.map (fun i => vs.getD i (0, .inr (0, []))))[k]? = some q → ∃ i : Nat, vs[i]? = some q ∧ Q[i]? = some k := by
    intro k q hk
    have hl := (List.getElem?_eq_some_iff.mp hk).1
    rw [List.length_map, b1] at hl
    obtain ⟨i, a, b, h1, h2, h3, h4, h5⟩ := key k hl
    obtain ⟨e, e1, e2, e3⟩ := at0 k i a h1 h3
    rw [e1] at hk
    cases hk
    exact ⟨i, e2, h4⟩
  refine ⟨P.map (fun i => vs.getD i (0, .inr (0, []))), ⟨by rw [List.length_map]; exact b1, fun k t hk => ?_⟩, fun k q hk => ?_, ⟨fun i j x y hi hj hxy => ?_, fun k q hk => ?_⟩, fun k i t hk ht => ?_⟩
  · have hl := (List.getElem?_eq_some_iff.mp hk).1
    obtain ⟨i, a, b, h1, h2, h3, h4, h5⟩ := key k hl
    rw [h2] at hk
    cases hk
    obtain ⟨e, e1, e2, e3⟩ := at0 k i a h1 h3
    refine ⟨e, ?_, ?_⟩
    · rw [e1]
      show some (ad i, e) = some (ad (P.getD k 0), e)
      rw [List.getD_eq_getElem?_getD, h1]
      rfl
    · rw [b2] at e3
      exact eg_bc_ok b1 h5 e3
  · obtain ⟨i, h1, h2⟩ := back k q hk
    exact v3 i q h1
  · obtain ⟨i', h1, h2⟩ := back i x hi
    obtain ⟨j', h3, h4⟩ := back j y hj
    have h5 := v4.1 i' j' x y h1 h3 hxy
    subst h5
    exact Option.some.inj (h2.symm.trans h4)
  · obtain ⟨i, h1, h2⟩ := back k q hk
    exact v4.2 i q h1
  · obtain ⟨e, e1, e2, e3⟩ := at0 k i t hk ht
    exact ⟨e, e1, e3⟩
def eg_pP : List Nat := [0, 1, 2, 3, 4, 5, 6, 7, 8, 9, 10, 11, 12, 13, 14, 15, 16, 17, 18, 19, 20, 21, 22, 23, 24, 25, 26, 27, 28, 29, 30, 31, 32, 33, 34, 35, 36, 37, 38, 39, 40, 41, 42, 43, 44, 45, 46, 47, 48, 49, 50, 51, 52, 53, 54, 55, 56, 57, 58, 59, 60, 61, 62, 63, 64, 65, 66, 67, 68, 69, 70, 71, 72, 73, 74, 75, 76, 77, 78, 79, 80, 81, 82, 86, 87, 88, 89, 90, 91, 92, 93, 94, 95, 96, 97, 98, 99, 100, 101, 102, 103, 104, 105, 106, 107, 108, 109, 110, 111, 112, 113, 114, 115, 116, 117, 118, 119, 120, 121, 122, 123, 124, 125, 126, 127, 128, 129, 130, 131, 132, 133, 134, 135, 136, 137, 138, 139, 140, 141, 142, 143, 144, 145, 146, 147, 148, 149, 150, 151, 85, 83, 84]
def eg_pQ : List Nat := [0, 1, 2, 3, 4, 5, 6, 7, 8, 9, 10, 11, 12, 13, 14, 15, 16, 17, 18, 19, 20, 21, 22, 23, 24, 25, 26, 27, 28, 29, 30, 31, 32, 33, 34, 35, 36, 37, 38, 39, 40, 41, 42, 43, 44, 45, 46, 47, 48, 49, 50, 51, 52, 53, 54, 55, 56, 57, 58, 59, 60, 61, 62, 63, 64, 65, 66, 67, 68, 69, 70, 71, 72, 73, 74, 75, 76, 77, 78, 79, 80, 81, 82, 150, 151, 149, 83, 84, 85, 86, 87, 88, 89, 90, 91, 92, 93, 94, 95, 96, 97, 98, 99, 100, 101, 102, 103, 104, 105, 106, 107, 108, 109, 110, 111, 112, 113, 114, 115, 116, 117, 118, 119, 120, 121, 122, 123, 124, 125, 126, 127, 128, 129, 130, 131, 132, 133, 134, 135, 136, 137, 138, 139, 140, 141, 142, 143, 144, 145, 146, 147, 148]
