theorem eg_startG {tys : List (ClassId × FieldType)} {ad : Nat → Nat} {ws : va_W} (h4 : ∀ (k i : Nat) (t : en_C), eg_pP[k]? = some i → tW_39[i]? = some t → ∃ e : va_E, ws[k]? = some (ad i, e) ∧ ev_c tys tW_39.length ad t e) : iG ws := by
  obtain ⟨e20, a20, b20⟩ := h4 20 20 (.inl (0, 240, 0, 0)) (by decide +kernel) (by decide +kernel)
  obtain ⟨e61, a61, b61⟩ := h4 61 61 (.inl (0, 240, 0, 0)) (by decide +kernel) (by decide +kernel)
  obtain ⟨ci, fs, f1, f2⟩ := eg_f27_ok (c := (tW_39)[87]?) (by decide +kernel)
  obtain ⟨e84, a84, b84⟩ := h4 84 87 _ (by decide +kernel) f1
  refine ⟨fun k hk h => ?_, fun k hk h => ?_, fun q hq => ?_⟩
  · rw [eg_gA0 a20 b20 k hk] at h
    omega
  · rw [eg_gA0 a61 b61 k hk] at h
    omega
  · rw [eg_gI0 a84 b84 f2] at hq
    omega
def eg_fld (f : Nat) (c : Option en_C) : Bool := match c with
  | some (.inr q) => decide (q.2[f]? = some (.inl (0, 0)))
  | _ => false
theorem eg_fld_ok {f : Nat} {c : Option en_C} (h : eg_fld f c = true) : ∃ (ci : Nat) (fs : List en_V), c = some (.inr (ci, fs)) ∧ fs[f]? = some (.inl (0, 0)) := by
  match c, h with
  | some (.inr q), h => exact ⟨q.1, q.2, rfl, of_decide_eq_true h⟩
theorem eg_startJ {tys : List (ClassId × FieldType)} {ad : Nat → Nat} {ws : va_W} (h1 : ev_w tys tQ (fun k => ad (eg_pP.getD k 0)) ws) (h4 : ∀ (k i : Nat) (t : en_C), eg_pP[k]? = some i → tW_39[i]? = some t → ∃ e : va_E, ws[k]? = some (ad i, e) ∧ ev_c tys tW_39.length ad t e) : jR ws := by
  have s_1_1 : sg ws 1 1 = 0 := by
    obtain ⟨ci, fs, f1, f2⟩ := eg_fld_ok (c := (tW_39)[1]?) (f := 1) (by decide +kernel)
    obtain ⟨e0, a0, b0⟩ := h4 1 1 _ (by decide +kernel) f1
    rw [sgO h1 rfl]
    exact eg_gI0 a0 b0 f2
  have s_84_18 : sg ws 84 18 = 0 := by
    obtain ⟨ci, fs, f1, f2⟩ := eg_fld_ok (c := (tW_39)[87]?) (f := 18) (by decide +kernel)
    obtain ⟨e0, a0, b0⟩ := h4 84 87 _ (by decide +kernel) f1
    rw [sgO h1 rfl]
    exact eg_gI0 a0 b0 f2
  have s_4_11 : sg ws 4 11 = 0 := by
    obtain ⟨ci, fs, f1, f2⟩ := eg_fld_ok (c := (tW_39)[4]?) (f := 11) (by decide +kernel)
    obtain ⟨e0, a0, b0⟩ := h4 4 4 _ (by decide +kernel) f1
    rw [sgO h1 rfl]
    exact eg_gI0 a0 b0 f2
  have s_4_12 : sg ws 4 12 = 0 := by
    obtain ⟨ci, fs, f1, f2⟩ := eg_fld_ok (c := (tW_39)[4]?) (f := 12) (by decide +kernel)
    obtain ⟨e0, a0, b0⟩ := h4 4 4 _ (by decide +kernel) f1
    rw [sgO h1 rfl]
    exact eg_gI0 a0 b0 f2
  have s_84_2 : sg ws 84 2 = 0 := by
    obtain ⟨ci, fs, f1, f2⟩ := eg_fld_ok (c := (tW_39)[87]?) (f := 2) (by decide +kernel)
    obtain ⟨e0, a0, b0⟩ := h4 84 87 _ (by decide +kernel) f1
    rw [sgO h1 rfl]
    exact eg_gI0 a0 b0 f2
  refine ⟨⟨by rw [s_1_1, s_84_18], by rw [s_1_1]; exact ⟨by decide, by decide⟩, fun i hi => by rw [s_1_1] at hi; omega⟩, ?_⟩
  refine ⟨0, fun _ => (0, 0, 0, 0, 0, 0, 0, 0), fun _ => 0, by decide, s_4_11, s_84_2, fun j hj => absurd hj (Nat.not_lt_zero _), fun j hj => absurd hj (Nat.not_lt_zero _), fun j hj => absurd hj (Nat.not_lt_zero _), ?_⟩
  rw [s_4_12]
  exact ⟨by decide, fun j hj => absurd hj (Nat.not_lt_zero _), fun _ => rfl, fun h => absurd h (Nat.lt_irrefl _)⟩
theorem eg_beginJ {D : va_G} {tys : List (ClassId × FieldType)} {A : Nat → Prop} {ad : Nat → Nat} {H : Heap} (hW : eg_W D tys A tW_39 ad H) :
    ∃ ws : va_W, ev_w tys tQ (fun k => ad (eg_pP.getD k 0)) ws ∧ iG ws ∧ jR ws ∧ va_P D vwCl ws H ∧ va_D A ws := by
  obtain ⟨ws, h1, h2, h3, h4⟩ := eg_bridge eg_bkok hW
  refine ⟨ws, h1, ?_, ?_, h2, h3⟩
  · exact eg_startG h4
  · exact eg_startJ h1 h4
