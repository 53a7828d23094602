theorem pf_c_ok {tys : List (ClassId × FieldType)} {N : Nat} {ad : Nat → Nat} {t : en_C} {e : va_E} (hc : en_cle t (pf_c t) = true) (h : ev_c tys N ad t e) : ev_c tys N ad (pf_c t) e := by
  match t, hc, h with
  | .inr q, hc, h =>
    obtain ⟨vs, h1, h2⟩ := h
    simp only [pf_c, en_cle, Bool.and_eq_true] at hc
    exact ⟨vs, h1, en_all2_vs hc.2 h2⟩
  | .inl (0, n, lo, hi), hc, h =>
    obtain ⟨cA, f, h1, h2, h3⟩ := h
    exact ⟨cA, f, h1, h2, fun j hj => en_full_in _⟩
  | .inl (1, n, lo, hi), hc, h =>
    obtain ⟨cA, f, h1, h2, h3⟩ := h
    simp only [pf_c, en_cle, Bool.and_eq_true, decide_eq_true_eq] at hc
    refine ⟨cA, f, h1, h2, fun j hj => ?_⟩
    obtain ⟨g1, g2⟩ := h3 j hj
    dsimp only at g1 g2
    exact ⟨by show 0 ≤ _; omega, by show _ ≤ 1; omega⟩
  | .inl (2, n, lo, hi), hc, h =>
    obtain ⟨cA, f, h1, h2, h3⟩ := h
    simp only [pf_c, en_cle, Bool.and_eq_true, decide_eq_true_eq] at hc
    refine ⟨cA, f, h1, h2, fun j hj => ?_⟩
    obtain ⟨g1, g2⟩ := h3 j hj
    dsimp only at g1 g2
    exact ⟨by show -128 ≤ _; omega, by show _ ≤ 127; omega⟩
  | .inl (k + 3, n, lo, hi), hc, h => exact h
theorem pf_all : tQ.all (fun t => en_cle t (pf_c t)) = true := by decide +kernel
theorem pf_len : tF.length = tQ.length := List.length_map _
theorem pf_w {tys : List (ClassId × FieldType)} {ad : Nat → Nat} {ws : va_W} (h : ev_w tys tQ ad ws) : ev_w tys tF ad ws := by
  refine ⟨h.1.trans pf_len.symm, fun k t hk => ?_⟩
  unfold tF at hk
  rw [List.getElem?_map] at hk
  cases ht : tQ[k]? with
  | none => rw [ht] at hk; cases hk
  | some u =>
    rw [ht] at hk
    cases hk
    obtain ⟨e, h1, h2⟩ := h.2 k u ht
    rw [pf_len]
    exact ⟨e, h1, pf_c_ok (List.all_eq_true.mp pf_all u (List.mem_of_getElem? ht)) h2⟩
/-- of every object the places are those of its class -/
def pf_n (t : en_C) : Bool := match t with
  | .inl _ => true
  | .inr q => (match vwCl[q.1]? with
    | some r => q.2.length == r.2.2
    | none => false)
theorem pf_nall : tQ.all pf_n = true := by decide +kernel
theorem pf_Llen (ci : Nat) : ∀ (as : List en_V) (i : Nat), (pf_L ci i as).length = as.length
  | [], _ => rfl
  | a :: as, i => by
    show (pf_L ci (i + 1) as).length + 1 = as.length + 1
    rw [pf_Llen ci as]
theorem sg_arrE {ws vs : va_W} {k a n : Nat} {cA cB : ClassId} {f g : Nat → Int32} {H : Heap} (h1 : ws[k]? = some (a, .inl (cA, n, .inl f))) (h2 : vs[k]? = some (a, .inl (cB, n, .inl g))) (p1 : H[a]? = some (vp_cell cA (n, .inl f))) (p2 : H[a]? = some (vp_cell cB (n, .inl g))) (i : Nat) : sg ws k i = sg vs k i := by
  rw [sg_arr h1, sg_arr h2]
  by_cases hi : i < n
  · rw [if_pos hi, if_pos hi]
    have e := Option.some.inj (p1.symm.trans p2)
    have e1 : (arrV cA n (fun j => .int (f j))).slots[i]? = (arrV cB n (fun j => .int (g j))).slots[i]? := congrArg (fun c : Cell => c.slots[i]?) e
    rw [arrV_read _ _ hi, arrV_read _ _ hi] at e1
    rw [Value.int.inj (Option.some.inj e1)]
  · rw [if_neg hi, if_neg hi]
/-- two worlds of one heap are one store -/
theorem sg_one {D : va_G} {tys : List (ClassId × FieldType)} {ad : Nat → Nat} {w1 w2 : va_W} {H : Heap} (h1 : ev_w tys tQ ad w1) (h2 : ev_w tys tF ad w2) (p1 : va_P D vwCl w1 H) (p2 : va_P D vwCl w2 H) : sg w1 = sg w2 := by
  funext k i
  cases ht : tQ[k]? with
  | none =>
    have hk := List.getElem?_eq_none_iff.mp ht
    have e1 : w1[k]? = none := List.getElem?_eq_none_iff.mpr (by rw [h1.1]; exact hk)
    have e2 : w2[k]? = none := List.getElem?_eq_none_iff.mpr (by rw [h2.1, pf_len]; exact hk)
    unfold sg
    rw [e1, e2]
  | some t =>
    have hf : tF[k]? = some (pf_c t) := by unfold tF; rw [List.getElem?_map, ht]; rfl
    obtain ⟨e1, a1, b1⟩ := h1.2 k t ht
    obtain ⟨e2, a2, b2⟩ := h2.2 k _ hf
    have q1 := p1 k _ a1
    have q2 := p2 k _ a2
    match t, ht, b1, b2 with
    | .inl (0, n, lo, hi), _, b1, b2 =>
      obtain ⟨cA, f, rfl, -⟩ := b1
      obtain ⟨cB, g, rfl, -⟩ := b2
      exact sg_arrE a1 a2 q1 q2 i
    | .inl (1, n, lo, hi), _, b1, b2 =>
      obtain ⟨cA, f, rfl, -⟩ := b1
      obtain ⟨cB, g, rfl, -⟩ := b2
      exact sg_arrE a1 a2 q1 q2 i
    | .inl (2, n, lo, hi), _, b1, b2 =>
      obtain ⟨cA, f, rfl, -⟩ := b1
      obtain ⟨cB, g, rfl, -⟩ := b2
      exact sg_arrE a1 a2 q1 q2 i
    | .inl (k3 + 3, n, lo, hi), _, b1, b2 =>
      unfold ev_c at b1
      dsimp only at b1
      have b2 : ev_c tys tF.length ad (.inl (k3 + 3, n, lo, hi)) e2 := b2
      unfold ev_c at b2
      dsimp only at b2
      by_cases h3 : k3 + 3 = 3
      · rw [if_pos h3] at b1 b2
        obtain ⟨cA, f, rfl, -⟩ := b1
        obtain ⟨cB, g, rfl, -⟩ := b2
        unfold sg
        rw [a1, a2]
      · rw [if_neg h3] at b1 b2
        obtain ⟨cA, f, rfl, -⟩ := b1
        obtain ⟨cB, g, rfl, -⟩ := b2
        exact sg_arrE a1 a2 q1 q2 i
    | .inr (ci, fs), ht, b1, b2 =>
      obtain ⟨u, rfl, c1⟩ := b1
      obtain ⟨v, rfl, c2⟩ := b2
      have hn := List.all_eq_true.mp pf_nall _ (List.mem_of_getElem? ht)
      unfold pf_n at hn
      dsimp only at hn
      obtain ⟨r, g1, cell, g2, -, -, g3⟩ := q1
      obtain ⟨r', g1', cell', g2', -, -, g3'⟩ := q2
      dsimp only at g1 g1' g2 g2' g3 g3'
      cases g1.symm.trans g1'
      cases g2.symm.trans g2'
      rw [g1] at hn
      simp only [beq_iff_eq] at hn
      have l1 := en_vs_len c1
      have l2 := en_vs_len c2
      dsimp only at l1 l2
      rw [pf_Llen] at l2
      rw [sg_obj a1, sg_obj a2]
      by_cases hi : i < r.2.2
      · have e := (g3 i hi).symm.trans (g3' i hi)
        have e := Option.some.inj e
        unfold vp_V at e
        have x1 : u[i]? = some (u.getD i .null) := by
          rw [List.getD_eq_getElem?_getD, List.getElem?_eq_getElem (show i < u.length by omega)]
          rfl
        have x2 : v[i]? = some (v.getD i .null) := by
          rw [List.getD_eq_getElem?_getD, List.getElem?_eq_getElem (show i < v.length by omega)]
          rfl
        rw [x1, x2, e]
      · rw [List.getElem?_eq_none (show u.length ≤ i by omega), List.getElem?_eq_none (show v.length ≤ i by omega)]
theorem px_room {s : State} {pl : Platform} {r1 r2 : Room} (hf : r1.frames ≤ r2.frames) (hc : r1.cells ≤ r2.cells) (hs : r1.slots ≤ r2.slots) (hl : r1.locals ≤ r2.locals) (h : s.hasRoom pl r2 = true) : s.hasRoom pl r1 = true := by
  unfold State.hasRoom at h ⊢
  simp only [Bool.and_eq_true, decide_eq_true_eq] at h ⊢
  obtain ⟨⟨⟨⟨h1, h2, h3, h4, h5, h6⟩, h7⟩, h8⟩, h9⟩ := h
  exact ⟨⟨⟨⟨by omega, by omega, by omega, by omega, by omega, h6⟩, by omega⟩, by omega⟩, h9⟩
/-- two contracts of one start end in one end -/
theorem Met_and {l : Launch} {y : MethodName} {ws : List Cond} {r1 r2 r3 : Room} {Pc : Array Value → State → Prop} {Q1 Q2 : Array Value → State → Outcome → State → Prop} {free : Addr → Prop} (h1 : Met l y ws r1 Pc Q1 0 0 free) (h2 : Met l y ws r2 Pc Q2 0 0 free) (a1 : r1.frames ≤ r3.frames) (a2 : r1.cells ≤ r3.cells) (a3 : r1.slots ≤ r3.slots) (a4 : r1.locals ≤ r3.locals) (b1 : r2.frames ≤ r3.frames) (b2 : r2.cells ≤ r3.cells) (b3 : r2.slots ≤ r3.slots) (b4 : r2.locals ≤ r3.locals) : Met l y ws r3 Pc (fun a st o t => Q1 a st o t ∧ Q2 a st o t) 0 0 free := by
  intro p e he hc hk s m args below hf happ hp hK
  have happ' := (Spec.appliesLoose_iff hf).mp happ
  obtain ⟨c1, c2, c3, c4, c5, c6, c7, c8⟩ := happ'
  obtain ⟨n, o, w1, w2, w3, w4, w5⟩ := h1 p e he hc hk s m args below hf ((Spec.appliesLoose_iff hf).mpr ⟨c1, c2, c3, c4, c5, c6, px_room a1 a2 a3 a4 c7, c8⟩) hp hK
  obtain ⟨n', o', v1, v2, v3, v4, v5⟩ := h2 p e he hc hk s m args below hf ((Spec.appliesLoose_iff hf).mpr ⟨c1, c2, c3, c4, c5, c6, px_room b1 b2 b3 b4 c7, c8⟩) hp hK
  obtain ⟨rfl, rfl⟩ := the_end_unique (f := fun k => stepsAlone p.tables e k s) w1 w3 v1 v3
  exact ⟨n, o, w1, w2, w3, ⟨w4, v4⟩, w5⟩
def px_both (κ : ek) (fr : Nat) : Room := { frames := ek_fr κ + fr, cells := 0, slots := 0, locals := ek_lo κ + 100 * fr }
/-- a safe contract and an exact one of the same call -/
theorem ek_con {l : Launch} {κ : ek} {fr : Nat} {as : List pV} {v : Int} {σ' : pS} {r : MethodName × ByteArray × Nat × Option FieldType} {D : va_G} {tys : List (ClassId × FieldType)} {aK aV b0 : Nat} {ad : Nat → Nat} {w0 : va_W} {vs : List Value} (hκ : ek_ok l tQ iG κ) (hr : en_ms[κ.1]? = some r) (hsm : r.2.2.2.isSome = true) (h1 : en_vs tQ.length ad κ.2.1 vs) (hw : ev_w tys tQ ad w0) (hI : iG w0) (hpre : ∀ f ∈ ek_pre κ, ev_ff w0 f) (hK : Con l fr κ.1 as (sg w0) v σ') (h2 : en_vs tQ.length ad (as.map pe) vs) :
    Met l r.1 (Cond.code r.1 r.2.1 r.2.2.1 r.2.2.2 :: en_ws) (px_both κ fr) (ek_pc D tys aK aV b0 w0 vs) (va_Qi (S := va_W) (fun x w => ev_w tys tQ ad w ∧ iG w ∧ ev_fr (ek_wr κ) w0 w ∧ (∃ u ∈ ek_out κ, (∃ a, u.1 = some a ∧ en_v tQ.length ad a (.int x)) ∧ ∀ f ∈ u.2, ev_ff w f) ∧ sg w = σ' ∧ x.toInt = v) (fun w t => va_P D vwCl w t.heap ∧ va_D (fun q => b0 ≤ q) w) (fun q => b0 ≤ q)) 0 0 (fun q => b0 ≤ q) := by
  have hA := hκ r hr D tys aK aV b0 ad w0 vs h1 hw hI hpre
  have hB := hK r hr D tys aK aV b0 ad w0 vs (by rw [pf_len]; exact h2) (pf_w hw) rfl
  have hAB := Met_and (r3 := px_both κ fr) hA hB (Nat.le_add_right _ _) (Nat.le_refl _) (Nat.le_refl _) (Nat.le_add_right _ _) (Nat.le_add_left _ _) (Nat.le_refl _) (Nat.le_refl _) (Nat.le_add_left _ _)
  intro p e he hc hk s m args below hf happ hp hK
  obtain ⟨n, o, w1, w2, w3, ⟨w4, w5⟩, w6⟩ := hAB p e he hc hk s m args below hf happ hp hK
  refine ⟨n, o, w1, w2, w3, ?_, w6⟩
  rw [hsm] at w4 w5
  obtain ⟨⟨x, w, rfl, ⟨p1, p2, p3, p4⟩, p5⟩, p6⟩ := w4
  obtain ⟨⟨x', w', e1, ⟨q1, q2, q3⟩, q5⟩, q6⟩ := w5
  cases e1
  exact ⟨⟨x, w, rfl, ⟨p1, p2, p3, p4, (sg_one p1 q1 p5.1 q5.1).trans q2, q3⟩, p5⟩, p6⟩
