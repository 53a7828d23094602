def eg_W (D : va_G) (tys : List (ClassId × FieldType)) (A : Nat → Prop) (T : en_T) (ad : Nat → Nat) (H : Heap) : Prop :=
  ∃ ws : va_W, ws.length = T.length ∧ (∀ (k : Nat) (t : en_C), T[k]? = some t → ∃ e : va_E, ws[k]? = some (ad k, e) ∧ ev_c tys T.length ad t e) ∧ va_P D vwCl ws H ∧ va_D A ws
def eg_cle (a b : en_C) : Bool := match a, b with
  | .inl q, .inl r => q.1 == r.1 && q.2.1 == r.2.1 && decide (r.2.2.1 ≤ q.2.2.1) && decide (q.2.2.2 ≤ r.2.2.2) && (q.1 != 3 || decide (q = r))
  | .inr q, .inr r => q.1 == r.1 && en_all2 en_le q.2 r.2
  | _, _ => false
theorem ec_get {tys : List (ClassId × FieldType)} {N : Nat} {ad : Nat → Nat} {q : Nat × Nat × Int × Int} {e : va_E} (h3 : q.1 ≠ 3) (h : ev_c tys N ad (.inl q) e) : ∃ (cA : ClassId) (f : Nat → Int32), e = .inl (cA, q.2.1, .inl f) ∧ tys[q.1]? = some (cA, en_ty q.1) ∧ ∀ j, j < q.2.1 → q.2.2.1 ≤ (f j).toInt ∧ (f j).toInt ≤ q.2.2.2 := by
  unfold ev_c at h
  dsimp only at h
  rw [if_neg h3] at h
  exact h
theorem ec_arr {tys : List (ClassId × FieldType)} {N : Nat} {ad : Nat → Nat} {q : Nat × Nat × Int × Int} {e : va_E} (h3 : q.1 ≠ 3) (h : ∃ (cA : ClassId) (f : Nat → Int32), e = .inl (cA, q.2.1, .inl f) ∧ tys[q.1]? = some (cA, en_ty q.1) ∧ ∀ j, j < q.2.1 → q.2.2.1 ≤ (f j).toInt ∧ (f j).toInt ≤ q.2.2.2) : ev_c tys N ad (.inl q) e := by
  unfold ev_c
  dsimp only
  rw [if_neg h3]
  exact h
theorem eg_c_mono {tys : List (ClassId × FieldType)} {N M : Nat} {ad ad' : Nat → Nat} (hN : N ≤ M) (hq : ∀ k, k < N → ad' k = ad k) {t : en_C} {e : va_E} (h : ev_c tys N ad t e) : ev_c tys M ad' t e := by
  match t, h with
  | .inl q, h =>
    unfold ev_c at *
    dsimp only at *
    split at h
    · rename_i h3
      rw [if_pos h3]
      obtain ⟨cA, f, h1, h2, h4⟩ := h
      exact ⟨cA, f, h1, h2, fun j hj => by obtain ⟨a, b⟩ := h4 j hj; exact ⟨by rw [hq _ b]; exact a, by omega⟩⟩
    · rename_i h3
      rw [if_neg h3]
      exact h
  | .inr q, ⟨vs, h1, h2⟩ => exact ⟨vs, h1, en_vs_mono hN hq h2⟩
theorem eg_cle_ok {tys : List (ClassId × FieldType)} {N : Nat} {ad : Nat → Nat} {a b : en_C} {e : va_E} (h : eg_cle a b = true) (hx : ev_c tys N ad a e) : ev_c tys N ad b e := by
  match a, b, h with
  | .inl q, .inl r, h =>
    simp only [eg_cle, Bool.and_eq_true, Bool.or_eq_true, decide_eq_true_eq, beq_iff_eq, bne_iff_ne, ne_eq] at h
    obtain ⟨⟨⟨⟨h1, h2⟩, h3⟩, h4⟩, h5⟩ := h
    rcases h5 with h5 | h5
    · obtain ⟨cA, f, e1, e2, e3⟩ := ec_get h5 hx
      exact ec_arr (by rw [← h1]; exact h5) ⟨cA, f, by rw [← h2]; exact e1, by rw [← h1]; exact e2, fun j hj => by have := e3 j (by omega); omega⟩
    · rw [← h5]
      exact hx
  | .inr q, .inr r, h =>
    simp only [eg_cle, Bool.and_eq_true, beq_iff_eq] at h
    obtain ⟨vs, e1, e2⟩ := hx
    exact ⟨vs, by rw [← h.1]; exact e1, en_all2_vs h.2 e2⟩
section ENW
variable {D : va_G} {tys : List (ClassId × FieldType)} {A : Nat → Prop} {T T' : en_T} {ad ad' : Nat → Nat} {H H1 : Heap}
theorem eg_W.le (h : eg_W D tys A T ad H) (hT : en_all2 eg_cle T T' = true) : eg_W D tys A T' ad H := by
  obtain ⟨ws, h1, h2, h3, h4⟩ := h
  have hl := en_all2_len hT
  refine ⟨ws, h1.trans hl, fun k t hk => ?_, h3, h4⟩
  obtain ⟨a, g1, g2⟩ := en_all2_get hT hk
  obtain ⟨e, g3, g4⟩ := h2 k a g1
  exact ⟨e, g3, eg_cle_ok g2 (by rw [← hl]; exact g4)⟩
theorem eg_W.kept (h : eg_W D tys A T ad H) (hq : ∀ q : Nat, q < H.size → H1[q]? = H[q]?) : eg_W D tys A T ad H1 := by
  obtain ⟨ws, h1, h2, h3, h4⟩ := h
  exact ⟨ws, h1, h2, h3.kept (fun k q hk => hq q.1 ((h3 k q hk).lt)), h4⟩
theorem eg_W.put {ws : va_W} {k : Nat} {e : va_E} {t : en_C} (h1 : ws.length = T.length) (h2 : ∀ (k : Nat) (t : en_C), T[k]? = some t → ∃ e : va_E, ws[k]? = some (ad k, e) ∧ ev_c tys T.length ad t e)
    (hP : va_P D vwCl (ws.set k (ad k, e)) H1) (hD : va_D A (ws.set k (ad k, e))) (he : ev_c tys T.length ad t e) : eg_W D tys A (T.set k t) ad H1 := by
  refine ⟨ws.set k (ad k, e), by rw [List.length_set, List.length_set]; exact h1, fun j u hj => ?_, hP, hD⟩
  rw [List.length_set]
  by_cases hjk : j = k
  · subst hjk
    by_cases hl : j < T.length
    · rw [List.getElem?_set_self hl] at hj
      cases hj
      exact ⟨e, List.getElem?_set_self (by omega), he⟩
    · rw [List.getElem?_eq_none (by rw [List.length_set]; omega)] at hj
      cases hj
  · rw [List.getElem?_set_ne (Ne.symm hjk)] at hj
    rw [List.getElem?_set_ne (Ne.symm hjk)]
    exact h2 j u hj
theorem eg_W.push {ws : va_W} {q : Nat} {e : va_E} {t : en_C} (h1 : ws.length = T.length) (h2 : ∀ (k : Nat) (t : en_C), T[k]? = some t → ∃ e : va_E, ws[k]? = some (ad k, e) ∧ ev_c tys T.length ad t e)
    (hP : va_P D vwCl (ws ++ [(q, e)]) H1) (hD : va_D A (ws ++ [(q, e)])) (he : ev_c tys T.length ad t e) : eg_W D tys A (T ++ [t]) (en_up ad T.length q) H1 := by
  refine ⟨ws ++ [(q, e)], by rw [List.length_append, List.length_append, h1]; rfl, fun j u hj => ?_, hP, hD⟩
  rw [List.length_append]
  by_cases hl : j < T.length
  · rw [List.getElem?_append_left hl] at hj
    obtain ⟨e0, g1, g2⟩ := h2 j u hj
    refine ⟨e0, ?_, eg_c_mono (Nat.le_add_right _ _) (fun k hk => en_up_lt hk) g2⟩
    rw [List.getElem?_append_left (by omega), en_up_lt hl]
    exact g1
  · rw [List.getElem?_append_right (by omega)] at hj
    have hz : j - T.length < 1 := (List.getElem?_eq_some_iff.mp hj).1
    have hj0 : j = T.length := by omega
    subst hj0
    rw [Nat.sub_self] at hj
    cases hj
    refine ⟨e, ?_, eg_c_mono (Nat.le_add_right _ _) (fun k hk => en_up_lt hk) he⟩
    rw [List.getElem?_append_right (by omega), h1, Nat.sub_self, en_up_at]
    rfl
end ENW
