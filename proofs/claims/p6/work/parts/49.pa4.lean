section PX2
variable {p : Program} {l : Launch} {e : Env} {R : Room} {s : State} {m : MethodId} {args : Array Value} {below : List Frame} {meth : Method} {c : Code} {Q : State → Prop} {cc : ByteArray} {D : va_G} {tys : List (ClassId × FieldType)} {aK aV b0 nL o : Nat} {ad : Nat → Nat}
variable {pc len : Nat} {L : pL} {S : List pV} {σ : pS} {op : Instr} {a b fr : Nat} {z : Int} {ps : List (Int × Nat)}
theorem px_s16 (C : ev_cx p s m args meth c cc nL o D tys aK aV b0) (hd : decode cc pc = .ok (op, len)) (hc : px_c16 o op len a b = true) (k : px_go p l e R s m args below meth c Q D tys b0 nL ad (pc + len) L (.inl (σ a b) :: S) σ) : px_go p l e R s m args below meth c Q D tys b0 nL ad pc L (.inr a :: S) σ := by
  unfold px_c16 at hc
  split at hc
  · rename_i i
    split at hc
    · rename_i ci f hf
      split at hc
      · rename_i q hq
        split at hc
        · rename_i r hr
          split at hc
          · rename_i bd hbd
            simp only [Bool.and_eq_true, beq_iff_eq, decide_eq_true_eq] at hc
            obtain ⟨rfl, h1, h2, rfl⟩ := hc
            obtain ⟨q1, q2⟩ := q
            dsimp only at h1 hbd
            subst h1
            intro H locs ls stk ws h
            obtain ⟨h0, hl, hs, hw, hσ, hP, hD, hS⟩ := h
            obtain ⟨x, ys, rfl, hx, hs1⟩ := pe_s hs
            obtain ⟨rfl, hj⟩ := pe_rE hx
            obtain ⟨e0, g1, vs, rfl, g2⟩ := hw.2 a _ hq
            obtain ⟨v, g3, w, rfl, g4⟩ := en_vs_get g2 hbd
            refine va_get (C := r.1) (T := r.2.1) (N := r.2.2) C.1 C.2.1 C.2.2.2.2.1 (en_cls_ws hr) C.2.2.2.1 C.2.2.2.2.2.1 hP a g1 hr f h2 (C.2.2.2.2.1 _ (en_fl_w hf hr)) (fun x h => h) g3 hd ?_
            exact k H locs ls (.int w :: ys) ws ⟨h0, hl, ⟨pe_i (by rw [← hσ]; exact (sg_obji g1 g3).symm), hs1⟩, hw, hσ, hP, hD, hS⟩
          · cases hc
        · cases hc
      · cases hc
    · cases hc
  · cases hc
theorem px_s17 (C : ev_cx p s m args meth c cc nL o D tys aK aV b0) (hd : decode cc pc = .ok (op, len)) (hc : px_c17 o op len a b = true) (k : px_go p l e R s m args below meth c Q D tys b0 nL ad (pc + len) L (.inr b :: S) σ) : px_go p l e R s m args below meth c Q D tys b0 nL ad pc L (.inr a :: S) σ := by
  unfold px_c17 at hc
  split at hc
  · rename_i i
    split at hc
    · rename_i ci f hf
      split at hc
      · rename_i q hq
        split at hc
        · rename_i r hr
          split at hc
          · rename_i bd hbd
            simp only [Bool.and_eq_true, beq_iff_eq, decide_eq_true_eq] at hc
            obtain ⟨rfl, h1, h2, rfl⟩ := hc
            obtain ⟨q1, q2⟩ := q
            dsimp only at h1 hbd
            subst h1
            intro H locs ls stk ws h
            obtain ⟨h0, hl, hs, hw, hσ, hP, hD, hS⟩ := h
            obtain ⟨x, ys, rfl, hx, hs1⟩ := pe_s hs
            obtain ⟨rfl, hj⟩ := pe_rE hx
            obtain ⟨e0, g1, vs, rfl, g2⟩ := hw.2 a _ hq
            obtain ⟨v, g3, g4⟩ := en_vs_get g2 hbd
            refine va_get (C := r.1) (T := r.2.1) (N := r.2.2) C.1 C.2.1 C.2.2.2.2.1 (en_cls_ws hr) C.2.2.2.1 C.2.2.2.2.2.1 hP a g1 hr f h2 (C.2.2.2.2.1 _ (en_fl_w hf hr)) (fun x h => h) g3 hd ?_
            exact k H locs ls (v :: ys) ws ⟨h0, hl, ⟨g4, hs1⟩, hw, hσ, hP, hD, hS⟩
          · cases hc
        · cases hc
      · cases hc
    · cases hc
  · cases hc
theorem px_bd_in {z : Int} (hz : z = 0 ∨ z = 1) {v : Int} (hv : z = 0 ∨ (0 ≤ v ∧ v ≤ 1)) {x : Int32} (hx : x.toInt = v) : en_in (px_bd z) x := by
  rcases hz with rfl | rfl
  · exact en_full_in x
  · rcases hv with hv | ⟨h1, h2⟩
    · exact absurd hv (by decide)
    · exact ⟨by show 0 ≤ _; omega, by show _ ≤ 1; omega⟩
theorem px_s18 (C : ev_cx p s m args meth c cc nL o D tys aK aV b0) (hd : decode cc pc = .ok (op, len)) (hc : px_c18 o op len a b z = true) {v : Int} (hv : z = 0 ∨ (0 ≤ v ∧ v ≤ 1)) (k : px_go p l e R s m args below meth c Q D tys b0 nL ad (pc + len) L S (pU σ a b v)) : px_go p l e R s m args below meth c Q D tys b0 nL ad pc L (.inl v :: .inr a :: S) σ := by
  unfold px_c18 at hc
  split at hc
  · rename_i i
    split at hc
    · rename_i ci f hf
      split at hc
      · rename_i q hq
        split at hc
        · rename_i r hr
          split at hc
          · rename_i bd hbd
            simp only [Bool.and_eq_true, Bool.or_eq_true, beq_iff_eq, decide_eq_true_eq, Bool.not_eq_true'] at hc
            obtain ⟨rfl, h1, h2, rfl, h4, h5, h6, h7⟩ := hc
            obtain ⟨q1, q2⟩ := q
            dsimp only at h1 hbd
            subst h1
            intro H locs ls stk ws h
            obtain ⟨h0, hl, hs, hw, hσ, hP, hD, hS⟩ := h
            obtain ⟨x9, us, rfl, hx9, hs0⟩ := pe_s hs
            obtain ⟨x, ys, rfl, hx, hs1⟩ := pe_s hs0
            obtain ⟨rfl, hj⟩ := pe_rE hx
            obtain ⟨w, rfl, hwv⟩ := pe_iE hx9
            obtain ⟨e0, g1, vs, rfl, g2⟩ := hw.2 a _ hq
            obtain ⟨old, g3, zo, rfl, g4⟩ := en_vs_get g2 hbd
            have hin : en_in bd w := by rw [h4]; exact px_bd_in h7 hv hwv
            have hev : en_v tF.length ad (.inl bd) (.int w) := ⟨w, rfl, hin⟩
            obtain ⟨q3, q4⟩ := en_put_ok h5 hev
            have hcl := en_cls q1 r hr
            have hlen : f < vs.length := (List.getElem?_eq_some_iff.mp g3).1
            refine va_put (C := r.1) (T := r.2.1) (N := r.2.2) C.1 C.2.1 C.2.2.2.2.1 (en_cls_ws hr) (en_tyX q1) hcl.2.1 hcl.2.2 C.2.2.2.1 C.2.2.2.2.2.1 hP hD hS a g1 hr f h2 (C.2.2.2.2.1 _ (en_fl_w hf hr)) (fun x h => h) h6 (hcl.2.1 f h2) q3 q4 hlen hd (fun H1 locs1 hP1 hD1 hS1 => ?_)
            exact k H1 locs1 ls ys _ ⟨h0, hl, hs1, ev_w_set hw hq ⟨_, rfl, ev_vs_fe g2 hbd hev⟩, by rw [sg_seto g1 hlen, hσ, hwv], hP1, hD1, hS1⟩
          · cases hc
        · cases hc
      · cases hc
    · cases hc
  · cases hc
theorem px_ald {t : Nat × Nat × Int × Int} (ht : tF[a]? = some (.inl t)) (h3 : t.1 ≠ 3) {i : Int} (hi0 : 0 ≤ i) (hi1 : i < t.2.1)
    (row : ∀ (H : Heap) (locs : List Loc) (ls : Array Slot) (rest : List Value) (ws : va_W) (q : Nat) (cA : ClassId) (f : Nat → Int32) (x : Int32), va_P D vwCl ws H → ws[a]? = some (q, .inl (cA, t.2.1, .inl f)) → tys[t.1]? = some (cA, en_ty t.1) → vp_in x t.2.1 → W p l e R s m args below meth c H locs 0 0 Q (F0 m (pc + 1) ls (.int (f x.toNatClampNeg) :: rest)) → W p l e R s m args below meth c H locs 0 0 Q (F0 m pc ls (.int x :: .ref q :: rest)))
    (k : px_go p l e R s m args below meth c Q D tys b0 nL ad (pc + 1) L (.inl (σ a i.toNat) :: S) σ) : px_go p l e R s m args below meth c Q D tys b0 nL ad pc L (.inl i :: .inr a :: S) σ := by
  intro H locs ls stk ws h
  obtain ⟨h0, hl, hs, hw, hσ, hP, hD, hS⟩ := h
  obtain ⟨x9, us, rfl, hx9, hs0⟩ := pe_s hs
  obtain ⟨x, ys, rfl, hx, hs1⟩ := pe_s hs0
  obtain ⟨rfl, hj⟩ := pe_rE hx
  obtain ⟨w, rfl, hwi⟩ := pe_iE hx9
  obtain ⟨e0, g1, ge⟩ := hw.2 a _ ht
  unfold ev_c at ge
  dsimp only at ge
  rw [if_neg h3] at ge
  obtain ⟨cA, f, rfl, g2, g3⟩ := ge
  subst hwi
  have hlt := en_clamp hi0 hi1
  refine row H locs ls ys ws (ad a) cA f w hP g1 g2 (vp_in_iff.mpr ⟨hi0, hi1⟩) (k H locs ls (.int (f w.toNatClampNeg) :: ys) ws ⟨h0, hl, ⟨pe_i ?_, hs1⟩, hw, hσ, hP, hD, hS⟩)
  rw [← hσ, sg_arr g1]
  show _ = if w.toNatClampNeg < t.2.1 then (f w.toNatClampNeg).toInt else 0
  rw [if_pos hlt]
theorem px_s19 (C : ev_cx p s m args meth c cc nL o D tys aK aV b0) (hd : decode cc pc = .ok (op, len)) (hc : px_c19 op len a b = true) {i : Int} (hi : 0 ≤ i ∧ i < b) (k : px_go p l e R s m args below meth c Q D tys b0 nL ad (pc + len) L (.inl (σ a i.toNat) :: S) σ) : px_go p l e R s m args below meth c Q D tys b0 nL ad pc L (.inl i :: .inr a :: S) σ := by
  unfold px_c19 at hc
  split at hc
  · rename_i t ht
    split at hc
    · simp only [Bool.and_eq_true, beq_iff_eq] at hc
      obtain ⟨rfl, h1, rfl⟩ := hc
      exact px_ald ht (by rw [h1]; decide) hi.1 hi.2 (fun H locs ls rest ws q cA f x hP ha hty hin k => va_iald C.1 C.2.1 C.2.2.2.2.2.1 hP a t.1 ha (by rw [hty, h1]; rfl) hin hd k) k
    · simp only [Bool.and_eq_true, Bool.or_eq_true, beq_iff_eq] at hc
      obtain ⟨rfl, h1, rfl⟩ := hc
      rcases h1 with h1 | h1
      · exact px_ald ht (by rw [h1]; decide) hi.1 hi.2 (fun H locs ls rest ws q cA f x hP ha hty hin k => va_zald C.1 C.2.1 C.2.2.2.2.2.1 hP a t.1 ha (by rw [hty, h1]; rfl) hin hd k) k
      · exact px_ald ht (by rw [h1]; decide) hi.1 hi.2 (fun H locs ls rest ws q cA f x hP ha hty hin k => va_bald C.1 C.2.1 C.2.2.2.2.2.1 hP a t.1 ha (by rw [hty, h1]; rfl) hin hd k) k
    · cases hc
  · cases hc
theorem px_ast {t : Nat × Nat × Int × Int} (ht : tF[a]? = some (.inl t)) (h3 : t.1 ≠ 3) {i v : Int} (hi0 : 0 ≤ i) (hi1 : i < t.2.1) (hv : ∀ x : Int32, x.toInt = v → en_in t.2.2 x)
    (row : ∀ (H : Heap) (locs : List Loc) (ls : Array Slot) (rest : List Value) (ws : va_W) (q : Nat) (cA : ClassId) (f : Nat → Int32) (i x : Int32), x.toInt = v → va_P D vwCl ws H → va_D (fun q => b0 ≤ q) ws → va_S (fun q => b0 ≤ q) s.heap H locs → ws[a]? = some (q, .inl (cA, t.2.1, .inl f)) → tys[t.1]? = some (cA, en_ty t.1) → vp_in i t.2.1 →
      (∀ (H1 : Heap) (locs1 : List Loc), va_P D vwCl (ws.set a (q, .inl (cA, t.2.1, .inl (upd f i.toNatClampNeg x)))) H1 → va_D (fun q => b0 ≤ q) (ws.set a (q, .inl (cA, t.2.1, .inl (upd f i.toNatClampNeg x)))) → va_S (fun q => b0 ≤ q) s.heap H1 locs1 → W p l e R s m args below meth c H1 locs1 0 0 Q (F0 m (pc + 1) ls rest)) → W p l e R s m args below meth c H locs 0 0 Q (F0 m pc ls (.int x :: .int i :: .ref q :: rest)))
    (k : px_go p l e R s m args below meth c Q D tys b0 nL ad (pc + 1) L S (pU σ a i.toNat v)) : px_go p l e R s m args below meth c Q D tys b0 nL ad pc L (.inl v :: .inl i :: .inr a :: S) σ := by
  intro H locs ls stk ws h
  obtain ⟨h0, hl, hs, hw, hσ, hP, hD, hS⟩ := h
  obtain ⟨x8, us8, rfl, hx8, hs8⟩ := pe_s hs
  obtain ⟨x9, us, rfl, hx9, hs0⟩ := pe_s hs8
  obtain ⟨x, ys, rfl, hx, hs1⟩ := pe_s hs0
  obtain ⟨rfl, hj⟩ := pe_rE hx
  obtain ⟨w, rfl, hwi⟩ := pe_iE hx9
  obtain ⟨u, rfl, huv⟩ := pe_iE hx8
  obtain ⟨e0, g1, ge⟩ := hw.2 a _ ht
  unfold ev_c at ge
  dsimp only at ge
  rw [if_neg h3] at ge
  obtain ⟨cA, f, rfl, g2, g3⟩ := ge
  subst hwi
  have hlt := en_clamp hi0 hi1
  refine row H locs ls ys ws (ad a) cA f w u huv hP hD hS g1 g2 (vp_in_iff.mpr ⟨hi0, hi1⟩) (fun H1 locs1 hP1 hD1 hS1 => ?_)
  have hc : ev_c tys tF.length ad (.inl t) (.inl (cA, t.2.1, .inl (upd f w.toNatClampNeg u))) := by
    unfold ev_c
    dsimp only
    rw [if_neg h3]
    refine ⟨cA, _, rfl, g2, fun k hk => ?_⟩
    unfold upd
    split
    · exact hv u huv
    · exact g3 k hk
  exact k H1 locs1 ls ys _ ⟨h0, hl, hs1, ev_w_set hw ht hc, by rw [sg_seta g1 hlt, hσ, huv]; rfl, hP1, hD1, hS1⟩
theorem px_s20 (C : ev_cx p s m args meth c cc nL o D tys aK aV b0) (hd : decode cc pc = .ok (op, len)) (hc : px_c20 op len a b z = true) {i v : Int} (hi : 0 ≤ i ∧ i < b) (hv : z = 0 ∨ (z = 1 ∧ 0 ≤ v ∧ v ≤ 1) ∨ (z ≠ 1 ∧ -128 ≤ v ∧ v ≤ 127)) (k : px_go p l e R s m args below meth c Q D tys b0 nL ad (pc + len) L S (pU σ a i.toNat v)) : px_go p l e R s m args below meth c Q D tys b0 nL ad pc L (.inl v :: .inl i :: .inr a :: S) σ := by
  unfold px_c20 at hc
  split at hc
  · rename_i t ht
    split at hc
    · simp only [Bool.and_eq_true, beq_iff_eq, decide_eq_true_eq] at hc
      obtain ⟨rfl, h1, rfl, rfl, h2⟩ := hc
      exact px_ast ht (by rw [h1]; decide) hi.1 hi.2 (fun x _ => by rw [h2]; exact en_full_in x) (fun H locs ls rest ws q cA f i x _ hP hD hS ha hty hin k => va_iast C.1 C.2.1 C.2.2.2.2.2.1 hP hD hS a t.1 ha (by rw [hty, h1]; rfl) hin hd k) k
    · simp only [Bool.and_eq_true, Bool.or_eq_true, beq_iff_eq, decide_eq_true_eq] at hc
      obtain ⟨rfl, rfl, ⟨h1, rfl, h2⟩ | ⟨h1, rfl, h2⟩⟩ := hc
      · have hv : 0 ≤ v ∧ v ≤ 1 := by omega
        exact px_ast ht (by rw [h1]; decide) hi.1 hi.2 (fun x hx => by rw [h2]; exact ⟨by show 0 ≤ _; omega, by show _ ≤ 1; omega⟩) (fun H locs ls rest ws q cA f i x hx hP hD hS ha hty hin k => va_zast C.1 C.2.1 C.2.2.2.2.2.1 hP hD hS a t.1 ha (by rw [hty, h1]; rfl) hin hd (by rw [en_vp_nar (en_nar_z (by omega) (by omega))]; exact k)) k
      · have hv : -128 ≤ v ∧ v ≤ 127 := by omega
        exact px_ast ht (by rw [h1]; decide) hi.1 hi.2 (fun x hx => by rw [h2]; exact ⟨by show -128 ≤ _; omega, by show _ ≤ 127; omega⟩) (fun H locs ls rest ws q cA f i x hx hP hD hS ha hty hin k => va_bast C.1 C.2.1 C.2.2.2.2.2.1 hP hD hS a t.1 ha (by rw [hty, h1]; rfl) hin hd (by rw [en_nar_b (by omega) (by omega)]; exact k)) k
    · cases hc
  · cases hc
theorem px_s21 (C : ev_cx p s m args meth c cc nL o D tys aK aV b0) (hd : decode cc pc = .ok (op, len)) (hc : px_c21 op len a b = true) (k : px_go p l e R s m args below meth c Q D tys b0 nL ad (pc + len) L (.inl (b : Int) :: S) σ) : px_go p l e R s m args below meth c Q D tys b0 nL ad pc L (.inr a :: S) σ := by
  unfold px_c21 at hc
  split at hc
  · rename_i t ht
    split at hc
    · simp only [Bool.and_eq_true, beq_iff_eq, decide_eq_true_eq, Bool.not_eq_true', beq_eq_false_iff_ne] at hc
      obtain ⟨rfl, h3, h4, rfl⟩ := hc
      intro H locs ls stk ws h
      obtain ⟨h0, hl, hs, hw, hσ, hP, hD, hS⟩ := h
      obtain ⟨x, ys, rfl, hx, hs1⟩ := pe_s hs
      obtain ⟨rfl, hj⟩ := pe_rE hx
      obtain ⟨e0, g1, ge⟩ := hw.2 a _ ht
      unfold ev_c at ge
      dsimp only at ge
      rw [if_neg h3] at ge
      obtain ⟨cA, f, rfl, g2, g3⟩ := ge
      refine va_alen C.1 C.2.1 C.2.2.2.2.2.1 hP a t.1 g1 g2 (v := nI t.2.1) rfl hd ?_
      exact k H locs ls (.int (nI t.2.1) :: ys) ws ⟨h0, hl, ⟨pe_i (nI_toInt h4), hs1⟩, hw, hσ, hP, hD, hS⟩
    · cases hc
  · cases hc
theorem px_s22 (C : ev_cx p s m args meth c cc nL o D tys aK aV b0) (hd : decode cc pc = .ok (op, len)) (hc : px_c22 op len a b z = true) {i : Int} (hi : 0 ≤ i ∧ i < b) (k : ∀ q : Nat, q < b → i = (q : Int) → px_go p l e R s m args below meth c Q D tys b0 nL ad (pc + len) L (.inr (z.toNat + q) :: S) σ) : px_go p l e R s m args below meth c Q D tys b0 nL ad pc L (.inl i :: .inr a :: S) σ := by
  unfold px_c22 at hc
  split at hc
  · rename_i t ht
    split at hc
    · simp only [Bool.and_eq_true, beq_iff_eq, decide_eq_true_eq] at hc
      obtain ⟨rfl, h3, rfl, rfl⟩ := hc
      intro H locs ls stk ws h
      obtain ⟨h0, hl, hs, hw, hσ, hP, hD, hS⟩ := h
      obtain ⟨x9, us, rfl, hx9, hs0⟩ := pe_s hs
      obtain ⟨x, ys, rfl, hx, hs1⟩ := pe_s hs0
      obtain ⟨rfl, hj⟩ := pe_rE hx
      obtain ⟨w, rfl, hwi⟩ := pe_iE hx9
      obtain ⟨e0, g1, ge⟩ := hw.2 a _ ht
      unfold ev_c at ge
      dsimp only at ge
      rw [if_pos h3] at ge
      obtain ⟨cA, f, rfl, g2, g3⟩ := ge
      subst hwi
      have hin : vp_in w t.2.1 := vp_in_iff.mpr ⟨hi.1, hi.2⟩
      have hlt := en_clamp hi.1 hi.2
      obtain ⟨e1, e2⟩ := g3 w.toNatClampNeg hlt
      refine W.aald (v := va_rf (f w.toNatClampNeg)) (ty := .array .int) C.1 C.2.1 (hP a _ g1) ((C.2.2.2.2.2.1.2 3 _ g2).1 t.2.1 (fun j => va_rf (f j))) rfl (fun q => by cases q) (by show ¬ (w < 0 ∨ (arrV _ _ _).slots.size ≤ _); rw [arrV_size]; exact hin) (by show (arrV _ _ _).slots[_]? = _; rw [arrV_read _ _ hlt]) rfl rfl hd ?_
      rw [e1]
      refine k w.toNatClampNeg hlt ?_ H locs ls (.ref (ad (t.2.2.1.toNat + w.toNatClampNeg)) :: ys) ws ⟨h0, hl, ⟨pe_r e2, hs1⟩, hw, hσ, hP, hD, hS⟩
      show w.toInt = ((w.toInt.toNat : Nat) : Int)
      omega
    · cases hc
  · cases hc
theorem px_after {σ' : pS} {v : Int} {H : Heap} {locs : List Loc} {ls : Array Slot} {stk rest : List Value} {av : Array Value} {rt : Bool} (h0 : ls.size = nL ∧ lv_wf ls ∧ L.length = nL) (hl : ∀ (i : Nat) (a : pV), L[i]? = some (some a) → ∃ x : Value, ls[i]? = some (.val x) ∧ en_v tF.length ad (pe a) x) (hs : en_vs tF.length ad (S.map pe) rest) (hS : va_S (fun q => b0 ≤ q) s.heap H locs)
    (hrun : va_Run p l e R s m args below meth c H locs 0 0 0 0 (F0 m pc ls stk) rest (px_qc D tys b0 ad v σ' rt av) (fun q => b0 ≤ q))
    (k : px_go p l e R s m args below meth c Q D tys b0 nL ad (pc + 3) L (cond rt (.inl v :: S) S) σ') : W p l e R s m args below meth c H locs 0 0 Q (F0 m pc ls stk) := by
  cases rt with
  | false =>
    refine va_callv (a := av) hrun hS (fun q _ h => h) (fun q h => h) (fun w t H1 locs1 ht _ hpost hB _ _ hS1 => ?_)
    subst ht
    exact k t.heap locs1 ls rest w ⟨h0, hl, hs, hpost.1, hpost.2, hB.1, hB.2, hS1⟩
  | true =>
    refine va_calli (a := av) hrun hS (fun q _ h => h) (fun q h => h) (fun x w t H1 locs1 ht _ hpost hB _ _ hS1 => ?_)
    subst ht
    exact k t.heap locs1 ls (.int x :: rest) w ⟨h0, hl, ⟨pe_i hpost.2.2, hs⟩, hpost.1, hpost.2.1, hB.1, hB.2, hS1⟩
theorem px_zz {z : Int} {b : Bool} {v : Int} {S : List pV} (h : b = !decide (z = 0)) : px_rs z v S = cond b (.inl v :: S) S := by
  subst h
  match z with
  | .ofNat 0 => rfl
  | .ofNat (n + 1) => rfl
  | .negSucc n => rfl
theorem px_s23 (C : ev_cx p s m args meth c cc nL o D tys aK aV b0) (hR : R = px_rm fr) (hd : decode cc pc = .ok (op, len)) (hc : px_c23 o op len a b z ps = true) {j : Nat} {A : List pV} (hps : ps = [(0, j)]) (hA : A.length = b) (hS8 : S.length ≤ 8) {f' : Nat} {v : Int} {σ' : pS} (hf' : f' + 1 ≤ fr) (hK : Con l f' a (.inr j :: A.reverse) σ v σ') (k : px_go p l e R s m args below meth c Q D tys b0 nL ad (pc + len) L (px_rs z v S) σ') : px_go p l e R s m args below meth c Q D tys b0 nL ad pc L (A ++ .inr j :: S) σ := by
  subst hps
  unfold px_c23 at hc
  split at hc
  · rename_i i
    split at hc
    · rename_i kd mi n hf
      split at hc
      · rename_i j2 hj2
        cases hj2
        split at hc
        · rename_i q hq
          split at hc
          · rename_i r hr
            split at hc
            · rename_i ci hci
              split at hc
              · rename_i rc hrc
                simp only [Bool.and_eq_true, beq_iff_eq, decide_eq_true_eq] at hc
                obtain ⟨rfl, rfl, rfl, rfl, h1, h2, h3⟩ := hc
                obtain ⟨q1, q2⟩ := q
                dsimp only at h1
                subst h1
                intro H locs ls stk ws h
                obtain ⟨h0, hl, hs, hw, hσ, hP, hD, hS⟩ := h
                obtain ⟨xs, us, rfl, hs1, hs2⟩ := pe_app hs
                obtain ⟨x, ys, rfl, hx, hs3⟩ := pe_s hs2
                have hx0 := hx
                obtain ⟨rfl, hjl⟩ := pe_rE hx
                obtain ⟨e0, g1, vs, rfl, g2⟩ := hw.2 j _ hq
                have hM := hK r hr D tys aK aV b0 ad ws (Value.ref (ad j) :: xs.reverse) ⟨hx0, by rw [List.map_reverse]; exact en_vs_rev hs1⟩ hw hσ
                have hDd := (en_clD hf hr).1
                have hww := en_clW hf hr
                have hts := C.2.2.2.2.1
                have hB := callB_of (own := en_nm o) (index := i) (R := R) (rm := px_rm f') (mc := 0) (ms := 0) n hts (en_codeG hr) rfl rfl rfl (hts _ (en_ws_in (hww (.initialized r.1.cls) (by simp)) rfl)) (hts _ (en_ws_in (hww (.methodLink (en_nm o) i r.1) (by simp)) rfl)) hDd ⟨by rw [hR]; exact hf', by rw [hR]; show 8 + (r.2.2.1 + 11) + 100 * f' ≤ 100 * fr; omega⟩
                have hrecv := va_recv C.2.2.2.2.2.1 hP hrc g1
                rw [(en_nm_cl hrc).trans (en_mo_ok hr hci)] at hrecv
                refine px_after (rt := r.2.2.2.isSome) h0 hl hs3 hS (va_runV (C := r.1.cls) (As := xs.reverse) (rest := ys) ⟨C.1, C.2.1, C.2.2.1, C.2.2.2.1, hts⟩ hM ⟨hB, hts _ (en_ws_in (hww (.instanceMethod r.1) (by simp)) rfl), hts _ (en_ws_in (hww (.selects r.1.cls r.1 r.1) (by simp)) rfl)⟩ ⟨ek_pc_blind, hrecv, ek_pre_at C hP hD hS⟩ rfl (by rw [List.length_reverse, ← en_vs_len hs1, List.length_map]; exact hA) h0.1 (by rw [List.reverse_reverse]) (lv_room (by rw [pe_len hs3]; exact hS8)) hd ⟨Nat.zero_le _, Nat.zero_le _⟩) ?_
                rw [px_zz h3] at k
                exact k
              · cases hc
            · cases hc
          · cases hc
        · cases hc
      · cases hc
    · cases hc
  · cases hc
theorem px_s24 (C : ev_cx p s m args meth c cc nL o D tys aK aV b0) (hR : R = px_rm fr) (hd : decode cc pc = .ok (op, len)) (hc : px_c24 o op len a b z = true) {A : List pV} (hA : A.length = b) (hS8 : S.length ≤ 8) {f' : Nat} {v : Int} {σ' : pS} (hf' : f' + 1 ≤ fr) (hK : Con l f' a A.reverse σ v σ') (k : px_go p l e R s m args below meth c Q D tys b0 nL ad (pc + len) L (px_rs z v S) σ') : px_go p l e R s m args below meth c Q D tys b0 nL ad pc L (A ++ S) σ := by
  unfold px_c24 at hc
  split at hc
  · rename_i i
    split at hc
    · rename_i kd mi n hf
      split at hc
      · rename_i r hr
        simp only [Bool.and_eq_true, Bool.or_eq_true, beq_iff_eq, decide_eq_true_eq] at hc
        obtain ⟨hkd, rfl, rfl, rfl, h2, h3⟩ := hc
        intro H locs ls stk ws h
        obtain ⟨h0, hl, hs, hw, hσ, hP, hD, hS⟩ := h
        obtain ⟨xs, ys, rfl, hs1, hs3⟩ := pe_app hs
        have hM := hK r hr D tys aK aV b0 ad ws xs.reverse (by rw [List.map_reverse]; exact en_vs_rev hs1) hw hσ
        have hDd := (en_clD hf hr).1
        have hww := en_clW hf hr
        have hts := C.2.2.2.2.1
        rw [px_zz h3] at k
        rcases hkd with rfl | rfl
        · have hB := callB_of (own := en_nm o) (index := i) (R := R) (rm := px_rm f') (mc := 0) (ms := 0) n hts (en_codeG hr) rfl rfl rfl (hts _ (en_ws_in (hww (.initialized r.1.cls) (by simp)) rfl)) (hts _ (en_ws_in (hww (.methodLink (en_nm o) i r.1) (by simp)) rfl)) hDd ⟨by rw [hR]; exact hf', by rw [hR]; show 8 + (r.2.2.1 + 11) + 100 * f' ≤ 100 * fr; omega⟩
          exact px_after (rt := r.2.2.2.isSome) h0 hl hs3 hS (va_runS (As := xs.reverse) (rest := ys) ⟨C.1, C.2.1, C.2.2.1, C.2.2.2.1, hts⟩ hM ⟨hB, hts _ (en_ws_in (hww (.static r.1) (by simp)) rfl)⟩ ⟨ek_pc_blind, ek_pre_at C hP hD hS⟩ rfl (by rw [List.length_reverse, ← en_vs_len hs1, List.length_map]; exact hA) h0.1 (by rw [List.reverse_reverse]) (lv_room (by rw [pe_len hs3]; exact hS8)) hd ⟨Nat.zero_le _, Nat.zero_le _⟩) k
        · have hB := va_cnB (own := en_nm o) (host := "LoadsAhead") (index := i) (R := R) (rm := px_rm f') (mc := 0) (ms := 0) n hts (en_codeG hr) rfl rfl rfl (C.2.2.2.2.2.2.2.1.1 _ (en_clN hf hr (Or.inl rfl))) (hts _ (en_ws_in (hww (.initialized r.1.cls) (by simp)) rfl)) hDd ⟨by rw [hR]; exact hf', by rw [hR]; show 8 + (r.2.2.1 + 11) + 100 * f' ≤ 100 * fr; omega⟩
          exact px_after (rt := r.2.2.2.isSome) h0 hl hs3 hS (va_runSN (host := "LoadsAhead") (As := xs.reverse) (rest := ys) ⟨C.1, C.2.1, C.2.2.1, C.2.2.2.1, hts⟩ hM ⟨hB, hts _ (en_ws_in (hww (.static r.1) (by simp)) rfl), trivial⟩ ⟨ek_pc_blind, ek_pre_at C hP hD hS⟩ rfl (by rw [List.length_reverse, ← en_vs_len hs1, List.length_map]; exact hA) h0.1 (by rw [List.reverse_reverse]) (lv_room (by rw [pe_len hs3]; exact hS8)) hd ⟨Nat.zero_le _, Nat.zero_le _⟩) k
      · cases hc
    · cases hc
  · cases hc
theorem px_s25 (C : ev_cx p s m args meth c cc nL o D tys aK aV b0) (hR : R = px_rm fr) (hd : decode cc pc = .ok (op, len)) (hc : px_c25 o op len a = true) {x y : Int} (hfr : 1 ≤ fr) (hS8 : S.length ≤ 8) (k : px_go p l e R s m args below meth c Q D tys b0 nL ad (pc + len) L (.inl (px_mm a x y) :: S) σ) : px_go p l e R s m args below meth c Q D tys b0 nL ad pc L (.inl y :: .inl x :: S) σ := by
  unfold px_c25 at hc
  split at hc
  · rename_i i
    simp only [Bool.and_eq_true, Bool.or_eq_true, beq_iff_eq, decide_eq_true_eq] at hc
    obtain ⟨rfl, hc⟩ := hc
    have hts := C.2.2.2.2.1
    intro H locs ls stk ws h
    obtain ⟨h0, hl, hs, hr⟩ := h
    obtain ⟨v0, ys, rfl, hy, hs1⟩ := pe_s hs
    obtain ⟨u0, zs, rfl, hx, hs2⟩ := pe_s hs1
    obtain ⟨v, rfl, hv⟩ := pe_iE hy
    obtain ⟨u, rfl, hu⟩ := pe_iE hx
    have hlo : ((zs.map fun v => v.category).sum) + 13 ≤ R.locals := by rw [pe_len hs2, hR]; show _ ≤ 100 * fr; omega
    have hf1 : 1 ≤ R.frames := by rw [hR]; exact hfr
    rcases hc with ⟨rfl, hf⟩ | ⟨rfl, hf⟩
    · have hww := en_clW hf en_mt_16
      refine va_mmin C.1 C.2.1 (C.2.2.1.trans h0.1.symm) C.2.2.2.1 (hts _ (en_ws_in (hww (.methodLink (en_nm o) i Lib.Math.min.name) (by simp)) rfl)) (hts _ (en_ws_in (hww (.static Lib.Math.min.name) (by simp)) rfl)) (hts _ (en_ws_in (hww (.initialized Lib.Math.min.name.cls) (by simp)) rfl)) (hts _ (en_codeW en_mt_16)) hf1 hlo (Nat.zero_le _) (Nat.zero_le _) hd ?_
      refine k H locs ls _ ws ⟨h0, hl, ⟨pe_i ?_, hs2⟩, hr⟩
      show _ = pMin x y
      unfold pMin
      by_cases hlt : v < u
      · rw [if_pos hlt]
        rw [fa_lt] at hlt
        rw [if_pos (by omega)]
        exact hv
      · rw [if_neg hlt]
        rw [fa_lt] at hlt
        rw [if_neg (by omega)]
        exact hu
    · have hww := en_clW hf en_mt_30
      refine va_mmax C.1 C.2.1 (C.2.2.1.trans h0.1.symm) C.2.2.2.1 (hts _ (en_ws_in (hww (.methodLink (en_nm o) i Lib.Math.max.name) (by simp)) rfl)) (hts _ (en_ws_in (hww (.static Lib.Math.max.name) (by simp)) rfl)) (hts _ (en_ws_in (hww (.initialized Lib.Math.max.name.cls) (by simp)) rfl)) (hts _ (en_codeW en_mt_30)) hf1 hlo (Nat.zero_le _) (Nat.zero_le _) hd ?_
      refine k H locs ls _ ws ⟨h0, hl, ⟨pe_i ?_, hs2⟩, hr⟩
      show _ = pMax x y
      unfold pMax
      by_cases hlt : u < v
      · rw [if_pos hlt]
        rw [fa_lt] at hlt
        rw [if_pos (by omega)]
        exact hv
      · rw [if_neg hlt]
        rw [fa_lt] at hlt
        rw [if_neg (by omega)]
        exact hu
  · cases hc
theorem px_s26 (C : ev_cx p s m args meth c cc nL o D tys aK aV b0) (hR : R = px_rm fr) (hd : decode cc pc = .ok (op, len)) (hc : px_c26 o op len a b z = true) (hfr : 1 ≤ fr) (hS8 : S.length ≤ 8) (k : px_go p l e R s m args below meth c Q D tys b0 nL ad (pc + len) L S (pKp σ a b z.toNat)) : px_go p l e R s m args below meth c Q D tys b0 nL ad pc L (.inl z :: .inl 0 :: .inr b :: .inl 0 :: .inr a :: S) σ := by
  unfold px_c26 at hc
  split at hc
  · rename_i i
    split at hc
    · rename_i t0 ht0
      split at hc
      · rename_i t1 ht1
        simp only [Bool.and_eq_true, beq_iff_eq, decide_eq_true_eq] at hc
        obtain ⟨hf, rfl, hz, hy0, hy1, hn0, hn1, hbb, hlo⟩ := hc
        have hf := List.contains_iff_mem.mp hf
        intro H locs ls stk ws h
        obtain ⟨h0, hl, hs, hw, hσ, hP, hD, hS⟩ := h
        obtain ⟨x1, v1, rfl, hx1, hs1⟩ := pe_s hs
        obtain ⟨x2, v2, rfl, hx2, hs2⟩ := pe_s hs1
        obtain ⟨x3, v3, rfl, hx3, hs3⟩ := pe_s hs2
        obtain ⟨x4, v4, rfl, hx4, hs4⟩ := pe_s hs3
        obtain ⟨x5, v5, rfl, hx5, hs5⟩ := pe_s hs4
        obtain ⟨nn, rfl, z3⟩ := pe_iE hx1
        obtain ⟨dp, rfl, z2⟩ := pe_iE hx2
        obtain ⟨rfl, hj1⟩ := pe_rE hx3
        obtain ⟨sq, rfl, z1⟩ := pe_iE hx4
        obtain ⟨rfl, hj0⟩ := pe_rE hx5
        obtain ⟨e0, g1, ge⟩ := hw.2 a _ ht0
        unfold ev_c at ge
        dsimp only at ge
        rw [if_neg (by rw [hy0]; decide)] at ge
        obtain ⟨cA, f, rfl, g2, g3⟩ := ge
        obtain ⟨e1, q1, qe⟩ := hw.2 b _ ht1
        unfold ev_c at qe
        dsimp only at qe
        rw [if_neg (by rw [hy1]; decide)] at qe
        obtain ⟨cB, g, rfl, q2, q3⟩ := qe
        have c1 : sq.toNatClampNeg = 0 := by show sq.toInt.toNat = 0; omega
        have c2 : dp.toNatClampNeg = 0 := by show dp.toInt.toNat = 0; omega
        have c3 : nn.toNatClampNeg = z.toNat := by show nn.toInt.toNat = z.toNat; omega
        have hww : ∀ w ∈ ([.native arraycopyName, .static arraycopyName, .initialized "java/lang/System"] : List Cond), w ∈ en_ws := fun w hw => en_ws_in (en_ac_c w hw) (by
          rcases List.mem_cons.mp hw with rfl | hw
          · rfl
          · rcases List.mem_cons.mp hw with rfl | hw
            · rfl
            · rw [List.mem_singleton.mp hw]; rfl)
        refine va_copyi C.1 C.2.1 (C.2.2.1.trans h0.1.symm) C.2.2.2.1 (C.2.2.2.2.1 _ (en_ws_in (en_ac_in _ (List.mem_map.mpr ⟨(o, i), hf, rfl⟩)) rfl)) (C.2.2.2.2.1 _ (hww _ List.mem_cons_self)) (C.2.2.2.2.1 _ (hww _ (List.mem_cons_of_mem _ List.mem_cons_self))) (C.2.2.2.2.1 _ (hww _ (List.mem_cons_of_mem _ (List.mem_cons_of_mem _ List.mem_cons_self)))) C.2.2.2.2.2.1 hP hD hS a b t0.1 t1.1 g1 q1 (ty := .int) (by rw [g2, hy0]; rfl) (by rw [q2, hy1]; rfl) rfl
          (by rw [fa_lt]; show ¬ sq.toInt < 0; omega) (by rw [fa_lt]; show ¬ dp.toInt < 0; omega) (by rw [fa_lt]; show ¬ nn.toInt < 0; omega) (by omega) (by omega) (fun _ _ => rfl) (by rw [hR]; exact hfr) (by rw [pe_len hs5, hR]; show _ ≤ 100 * fr; omega) hd (fun H1 locs1 hP1 hD1 hS1 => ?_)
        have hc : ev_c tys tF.length ad (.inl t1) (.inl (cB, t1.2.1, .inl (va_cpy f g sq.toNatClampNeg dp.toNatClampNeg nn.toNatClampNeg))) := by
          unfold ev_c
          dsimp only
          rw [if_neg (by rw [hy1]; decide)]
          refine ⟨cB, _, rfl, q2, fun j hj => ?_⟩
          rw [c1, c2, c3]
          by_cases hjn : j < z.toNat
          · rw [pk_cpy_in (Nat.zero_le _) (by omega), ← hbb]
            exact g3 (0 + (j - 0)) (by omega)
          · rw [pk_cpy_out (Or.inr (by omega))]
            exact q3 j hj
        refine k H1 locs1 ls v5 _ ⟨h0, hl, hs5, ev_w_set hw ht1 hc, ?_, hP1, hD1, hS1⟩
        rw [c1, c2, c3, sg_cpy g1 q1 hn0 hn1, hσ]
      · cases hc
    · cases hc
  · cases hc
theorem px_s29 (k : px_go p l e R s m args below meth c Q D tys b0 nL ad pc (L.set a none) S σ) : px_go p l e R s m args below meth c Q D tys b0 nL ad pc L S σ := by
  intro H locs ls stk ws h
  obtain ⟨⟨z1, z2, z3⟩, hl, hr⟩ := h
  refine k H locs ls stk ws ⟨⟨z1, z2, by rw [List.length_set]; exact z3⟩, fun j b hj => ?_, hr⟩
  by_cases hja : j = a
  · subst hja
    by_cases hlt : j < L.length
    · rw [List.getElem?_set_self hlt] at hj
      cases hj
    · rw [List.getElem?_eq_none (by rw [List.length_set]; omega)] at hj
      cases hj
  · rw [List.getElem?_set_ne (Ne.symm hja)] at hj
    exact hl j b hj
end PX2
