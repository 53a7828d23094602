def eg_fld (f : Nat) (v : Int) (c : Option en_C) : Bool := match c with
  | some (.inr q) => decide (q.2[f]? = some (.inl (v, v)))
  | _ => false
theorem eg_fld_ok {f : Nat} {v : Int} {c : Option en_C} (h : eg_fld f v c = true) : ∃ (ci : Nat) (fs : List en_V), c = some (.inr (ci, fs)) ∧ fs[f]? = some (.inl (v, v)) := by
  match c, h with
  | some (.inr q), h => exact ⟨q.1, q.2, rfl, of_decide_eq_true h⟩
section EGS
variable {tys : List (ClassId × FieldType)} {ad : Nat → Nat} {ws : va_W}
theorem eg_sf (h4 : ∀ (k i : Nat) (t : en_C), eg_pP[k]? = some i → tW_39[i]? = some t → ∃ e : va_E, ws[k]? = some (ad i, e) ∧ ev_c tys tW_39.length ad t e) {k i f : Nat} {v : Int} (hk : eg_pP[k]? = some i) (hc : eg_fld f v (tW_39[i]?) = true) : sg ws k f = v := by
  obtain ⟨ci, fs, f1, f2⟩ := eg_fld_ok hc
  obtain ⟨e, a1, a2⟩ := h4 k i _ hk f1
  obtain ⟨vs, rfl, h2⟩ := a2
  obtain ⟨x, h3, y, rfl, h5⟩ := en_vs_get h2 f2
  rw [sg_obj a1, h3]
  dsimp only at h5 ⊢
  omega
theorem eg_sa (h4 : ∀ (k i : Nat) (t : en_C), eg_pP[k]? = some i → tW_39[i]? = some t → ∃ e : va_E, ws[k]? = some (ad i, e) ∧ ev_c tys tW_39.length ad t e) {k i n : Nat} {v : Int} (hk : eg_pP[k]? = some i) (hc : tW_39[i]? = some (.inl (0, n, v, v))) : ∀ x, x < n → sg ws k x = v := by
  intro x hx
  obtain ⟨e, a1, a2⟩ := h4 k i _ hk hc
  obtain ⟨cA, f, rfl, -, h3⟩ := ec_get (show (0 : Nat) ≠ 3 by decide) a2
  rw [sg_arr a1]
  have h5 := h3 x hx
  dsimp only at h5 hx ⊢
  rw [if_pos hx]
  omega
theorem eg_startW (h4 : ∀ (k i : Nat) (t : en_C), eg_pP[k]? = some i → tW_39[i]? = some t → ∃ e : va_E, ws[k]? = some (ad i, e) ∧ ev_c tys tW_39.length ad t e) : WR 0 (sg ws) (sg ws) := by
  have s_1_1 : sg ws 1 1 = 0 := eg_sf h4 (i := 1) (by decide +kernel) (by decide +kernel)
  have s_4_11 : sg ws 4 11 = 0 := eg_sf h4 (i := 4) (by decide +kernel) (by decide +kernel)
  have s_4_12 : sg ws 4 12 = 0 := eg_sf h4 (i := 4) (by decide +kernel) (by decide +kernel)
  have s_16_7 : sg ws 16 7 = 0 := eg_sf h4 (i := 16) (by decide +kernel) (by decide +kernel)
  have s_24_3 : sg ws 24 3 = 0 := eg_sf h4 (i := 24) (by decide +kernel) (by decide +kernel)
  have s_24_5 : sg ws 24 5 = 1 := eg_sf h4 (i := 24) (by decide +kernel) (by decide +kernel)
  have s_24_4 : sg ws 24 4 = 0 := eg_sf h4 (i := 24) (by decide +kernel) (by decide +kernel)
  have s_0_8 : sg ws 0 8 = 0 := eg_sf h4 (i := 0) (by decide +kernel) (by decide +kernel)
  have s_0_9 : sg ws 0 9 = 0 := eg_sf h4 (i := 0) (by decide +kernel) (by decide +kernel)
  have s_82_2 : sg ws 82 2 = 0 := eg_sf h4 (i := 82) (by decide +kernel) (by decide +kernel)
  have s_84_18 : sg ws 84 18 = 0 := eg_sf h4 (i := 87) (by decide +kernel) (by decide +kernel)
  have s_84_2 : sg ws 84 2 = 0 := eg_sf h4 (i := 87) (by decide +kernel) (by decide +kernel)
  have s_84_27 : sg ws 84 27 = 0 := eg_sf h4 (i := 87) (by decide +kernel) (by decide +kernel)
  have s_84_0 : sg ws 84 0 = 1 := eg_sf h4 (i := 87) (by decide +kernel) (by decide +kernel)
  have s_84_1 : sg ws 84 1 = 0 := eg_sf h4 (i := 87) (by decide +kernel) (by decide +kernel)
  have s_84_3 : sg ws 84 3 = 0 := eg_sf h4 (i := 87) (by decide +kernel) (by decide +kernel)
  have s_84_4 : sg ws 84 4 = 0 := eg_sf h4 (i := 87) (by decide +kernel) (by decide +kernel)
  have s_84_5 : sg ws 84 5 = 0 := eg_sf h4 (i := 87) (by decide +kernel) (by decide +kernel)
  have s_84_75 : sg ws 84 75 = 0 := eg_sf h4 (i := 87) (by decide +kernel) (by decide +kernel)
  have s_84_88 : sg ws 84 88 = 0 := eg_sf h4 (i := 87) (by decide +kernel) (by decide +kernel)
  have a_25 : ∀ x, x < 8 → sg ws 25 x = 0 := eg_sa h4 (i := 25) (by decide +kernel) (by decide +kernel)
  have a_26 : ∀ x, x < 64 → sg ws 26 x = 0 := eg_sa h4 (i := 26) (by decide +kernel) (by decide +kernel)
  have a_27 : ∀ x, x < 20 → sg ws 27 x = (-1) := eg_sa h4 (i := 27) (by decide +kernel) (by decide +kernel)
  have a_83 : ∀ x, x < 2 → sg ws 83 x = 0 := eg_sa h4 (i := 86) (by decide +kernel) (by decide +kernel)
  have a_85 : ∀ x, x < 8 → sg ws 85 x = 0 := eg_sa h4 (i := 88) (by decide +kernel) (by decide +kernel)
  have a_86 : ∀ x, x < 64 → sg ws 86 x = 0 := eg_sa h4 (i := 89) (by decide +kernel) (by decide +kernel)
  have a_145 : ∀ x, x < 2 → sg ws 145 x = 0 := eg_sa h4 (i := 148) (by decide +kernel) (by decide +kernel)
  have n11 : ∀ j : Nat, ¬ (j : Int) < sg ws 4 11 := fun j => by rw [s_4_11]; omega
  refine ⟨⟨by rw [s_1_1, s_84_18], by rw [s_1_1]; exact ⟨by decide, by decide⟩, fun i hi => by rw [s_1_1] at hi; omega⟩, ?_, ?_, ?_, ?_, ?_, ?_, ?_⟩
  · refine ⟨0, fun _ => (0, 0, 0, 0, 0, 0, 0, 0), fun _ => 0, by decide, s_4_11, s_84_2, fun j hj => absurd hj (Nat.not_lt_zero _), fun j hj => absurd hj (Nat.not_lt_zero _), fun j hj => absurd hj (Nat.not_lt_zero _), ?_⟩
    rw [s_4_12]
    exact ⟨by decide, fun j hj => absurd hj (Nat.not_lt_zero _), fun _ => rfl, fun h => absurd h (Nat.lt_irrefl _)⟩
  · exact ⟨0, [], fun _ => (0, 0, 0, 0), by decide, by decide, s_16_7, s_84_27, fun i q hq => by simp at hq, fun j hj => absurd hj (Nat.not_lt_zero _)⟩
  · refine ⟨fun r hr => by rw [a_25 r hr, a_85 r hr], fun x hx => by rw [a_26 x hx, a_86 x hx], fun j hj => absurd hj (n11 j), fun j hj => ?_, ?_, ?_, ?_⟩
    · rw [a_27 j hj]
      exact ⟨by decide, by decide, fun _ => rfl⟩
    · rw [s_24_3, s_84_3]; exact ⟨rfl, by decide, by decide⟩
    · rw [s_24_5, s_84_0]; exact ⟨rfl, by decide, by decide⟩
    · rw [s_24_4, s_84_1]; exact ⟨rfl, by decide, by decide⟩
  · exact ⟨by rw [s_0_8, s_84_75], fun h => absurd s_0_8 h⟩
  · exact ⟨by rw [s_0_9, s_84_88], fun h => absurd s_0_9 h⟩
  · have b0 := a_83 0 (by decide)
    have b1 := a_83 1 (by decide)
    have c0 := a_145 0 (by decide)
    have c1 := a_145 1 (by decide)
    refine ⟨by rw [b0, c0]; exact ⟨rfl, by decide, by decide⟩, by rw [b1, c1]; exact ⟨rfl, by decide, by decide⟩, fun i hi => by rw [b0] at hi; omega, fun i hi => by rw [b1] at hi; omega, ?_⟩
    rw [s_82_2, s_84_4]; exact ⟨rfl, by decide, by decide⟩
  · unfold CNT
    rw [s_84_5]
    decide
end EGS
theorem eg_bkF : eg_bk eg_pP eg_pQ tW_39 tF = true := by decide +kernel
theorem eg_beginW {D : va_G} {tys : List (ClassId × FieldType)} {A : Nat → Prop} {ad : Nat → Nat} {H : Heap} (hW : eg_W D tys A tW_39 ad H) :
    ∃ ws : va_W, ev_w tys tF (fun k => ad (eg_pP.getD k 0)) ws ∧ WR 0 (sg ws) (sg ws) ∧ va_P D vwCl ws H ∧ va_D A ws := by
  obtain ⟨ws, h1, h2, h3, h4⟩ := eg_bridge eg_bkF hW
  exact ⟨ws, h1, eg_startW h4, h2, h3⟩
