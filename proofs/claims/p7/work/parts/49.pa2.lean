section PX2
variable {p : Program} {l : Launch} {e : Env} {R : Room} {s : State} {m : MethodId} {args : Array Value} {below : List Frame} {meth : Method} {c : Code} {Q : State → Prop} {cc : ByteArray} {D : va_G} {tys : List (ClassId × FieldType)} {aK aV b0 nL o : Nat} {ad : Nat → Nat}
variable {pc len : Nat} {L : pL} {S : List pV} {σ : pS} {op : Instr} {a b fr : Nat} {z : Int} {ps : List (Int × Nat)}
theorem px_s16 (C : ev_cx p s m args meth c cc nL o D tys aK aV b0) (hd : decode cc pc = .ok (op, len)) (hc : px_c16 o op len a b = true) (k : px_go p l e R s m args below meth c Q D tys b0 nL ad (pc + len) L (.inl (σ a b) :: S) σ) : px_go p l e R s m args below meth c Q D tys b0 nL ad pc L (.inr a :: S) σ := by
  unfold px_c16 at hc
  split at hc
  · rename_i i
    split at hc
    · rename_i ci f hf
      split at hc
      · rename_i q hq
        split at hc
        · rename_i r hr
          split at hc
          · rename_i bd hbd
            simp only [Bool.and_eq_true, beq_iff_eq, decide_eq_true_eq] at hc
            obtain ⟨rfl, h1, h2, rfl⟩ := hc
            obtain ⟨q1, q2⟩ := q
            dsimp only at h1 hbd
            subst h1
            intro H locs ls stk ws h
            obtain ⟨h0, hl, hs, hw, hσ, hP, hD, hS⟩ := h
            obtain ⟨x, ys, rfl, hx, hs1⟩ := pe_s hs
            obtain ⟨rfl, hj⟩ := pe_rE hx
            obtain ⟨e0, g1, vs, rfl, g2⟩ := hw.2 a _ hq
            obtain ⟨v, g3, w, rfl, g4⟩ := en_vs_get g2 hbd
            refine va_get (C := r.1) (T := r.2.1) (N := r.2.2) C.1 C.2.1 C.2.2.2.2.1 (en_cls_ws hr) C.2.2.2.1 C.2.2.2.2.2.1 hP a g1 hr f h2 (C.2.2.2.2.1 _ (en_fl_w hf hr)) (fun x h => h) g3 hd ?_
            exact k H locs ls (.int w :: ys) ws ⟨h0, hl, ⟨pe_i (by rw [← hσ]; exact (sg_obji g1 g3).symm), hs1⟩, hw, hσ, hP, hD, hS⟩
          · cases hc
        · cases hc
      · cases hc
    · cases hc
  · cases hc
theorem px_s17 (C : ev_cx p s m args meth c cc nL o D tys aK aV b0) (hd : decode cc pc = .ok (op, len)) (hc : px_c17 o op len a b = true) (k : px_go p l e R s m args below meth c Q D tys b0 nL ad (pc + len) L (.inr b :: S) σ) : px_go p l e R s m args below meth c Q D tys b0 nL ad pc L (.inr a :: S) σ := by
  unfold px_c17 at hc
  split at hc
  · rename_i i
    split at hc
    · rename_i ci f hf
      split at hc
      · rename_i q hq
        split at hc
        · rename_i r hr
          split at hc
          · rename_i bd hbd
            simp only [Bool.and_eq_true, beq_iff_eq, decide_eq_true_eq] at hc
            obtain ⟨rfl, h1, h2, rfl⟩ := hc
            obtain ⟨q1, q2⟩ := q
            dsimp only at h1 hbd
            subst h1
            intro H locs ls stk ws h
            obtain ⟨h0, hl, hs, hw, hσ, hP, hD, hS⟩ := h
            obtain ⟨x, ys, rfl, hx, hs1⟩ := pe_s hs
            obtain ⟨rfl, hj⟩ := pe_rE hx
            obtain ⟨e0, g1, vs, rfl, g2⟩ := hw.2 a _ hq
            obtain ⟨v, g3, g4⟩ := en_vs_get g2 hbd
            refine va_get (C := r.1) (T := r.2.1) (N := r.2.2) C.1 C.2.1 C.2.2.2.2.1 (en_cls_ws hr) C.2.2.2.1 C.2.2.2.2.2.1 hP a g1 hr f h2 (C.2.2.2.2.1 _ (en_fl_w hf hr)) (fun x h => h) g3 hd ?_
            exact k H locs ls (v :: ys) ws ⟨h0, hl, ⟨g4, hs1⟩, hw, hσ, hP, hD, hS⟩
          · cases hc
        · cases hc
      · cases hc
    · cases hc
  · cases hc
theorem px_bd_in {z : Int} (hz : z = 0 ∨ z = 1) {v : Int} (hv : z = 0 ∨ (0 ≤ v ∧ v ≤ 1)) {x : Int32} (hx : x.toInt = v) : en_in (px_bd z) x := by
  rcases hz with rfl | rfl
  · exact en_full_in x
  · rcases hv with hv | ⟨h1, h2⟩
    · exact absurd hv (by decide)
    · exact ⟨by show 0 ≤ _; omega, by show _ ≤ 1; omega⟩
theorem px_s18 (C : ev_cx p s m args meth c cc nL o D tys aK aV b0) (hd : decode cc pc = .ok (op, len)) (hc : px_c18 o op len a b z = true) {v : Int} (hv : z = 0 ∨ (0 ≤ v ∧ v ≤ 1)) (k : px_go p l e R s m args below meth c Q D tys b0 nL ad (pc + len) L S (pU σ a b v)) : px_go p l e R s m args below meth c Q D tys b0 nL ad pc L (.inl v :: .inr a :: S) σ := by
  unfold px_c18 at hc
  split at hc
  · rename_i i
    split at hc
    · rename_i ci f hf
      split at hc
      · rename_i q hq
        split at hc
        · rename_i r hr
          split at hc
          · rename_i bd hbd
            simp only [Bool.and_eq_true, Bool.or_eq_true, beq_iff_eq, decide_eq_true_eq, Bool.not_eq_true'] at hc
            obtain ⟨rfl, h1, h2, rfl, h4, h5, h6, h7⟩ := hc
            obtain ⟨q1, q2⟩ := q
            dsimp only at h1 hbd
            subst h1
            intro H locs ls stk ws h
            obtain ⟨h0, hl, hs, hw, hσ, hP, hD, hS⟩ := h
            obtain ⟨x9, us, rfl, hx9, hs0⟩ := pe_s hs
            obtain ⟨x, ys, rfl, hx, hs1⟩ := pe_s hs0
            obtain ⟨rfl, hj⟩ := pe_rE hx
            obtain ⟨w, rfl, hwv⟩ := pe_iE hx9
            obtain ⟨e0, g1, vs, rfl, g2⟩ := hw.2 a _ hq
            obtain ⟨old, g3, zo, rfl, g4⟩ := en_vs_get g2 hbd
            have hin : en_in bd w := by rw [h4]; exact px_bd_in h7 hv hwv
            have hev : en_v tF.length ad (.inl bd) (.int w) := ⟨w, rfl, hin⟩
            obtain ⟨q3, q4⟩ := en_put_ok h5 hev
            have hcl := en_cls q1 r hr
            have hlen : f < vs.length := (List.getElem?_eq_some_iff.mp g3).1
            refine va_put (C := r.1) (T := r.2.1) (N := r.2.2) C.1 C.2.1 C.2.2.2.2.1 (en_cls_ws hr) (en_tyX q1) hcl.2.1 hcl.2.2 C.2.2.2.1 C.2.2.2.2.2.1 hP hD hS a g1 hr f h2 (C.2.2.2.2.1 _ (en_fl_w hf hr)) (fun x h => h) h6 (hcl.2.1 f h2) q3 q4 hlen hd (fun H1 locs1 hP1 hD1 hS1 => ?_)
            exact k H1 locs1 ls ys _ ⟨h0, hl, hs1, ev_w_set hw hq ⟨_, rfl, ev_vs_fe g2 hbd hev⟩, by rw [sg_seto g1 hlen, hσ, hwv], hP1, hD1, hS1⟩
          · cases hc
        · cases hc
      · cases hc
    · cases hc
  · cases hc
theorem px_ald {t : Nat × Nat × Int × Int} (ht : tF[a]? = some (.inl t)) (h3 : t.1 ≠ 3) {i : Int} (hi0 : 0 ≤ i) (hi1 : i < t.2.1)
    (row : ∀ (H : Heap) (locs : List Loc) (ls : Array Slot) (rest : List Value) (ws : va_W) (q : Nat) (cA : ClassId) (f : Nat → Int32) (x : Int32), va_P D vwCl ws H → ws[a]? = some (q, .inl (cA, t.2.1, .inl f)) → tys[t.1]? = some (cA, en_ty t.1) → vp_in x t.2.1 → W p l e R s m args below meth c H locs 0 0 Q (F0 m (pc + 1) ls (.int (f x.toNatClampNeg) :: rest)) → W p l e R s m args below meth c H locs 0 0 Q (F0 m pc ls (.int x :: .ref q :: rest)))
    (k : px_go p l e R s m args below meth c Q D tys b0 nL ad (pc + 1) L (.inl (σ a i.toNat) :: S) σ) : px_go p l e R s m args below meth c Q D tys b0 nL ad pc L (.inl i :: .inr a :: S) σ := by
  intro H locs ls stk ws h
  obtain ⟨h0, hl, hs, hw, hσ, hP, hD, hS⟩ := h
  obtain ⟨x9, us, rfl, hx9, hs0⟩ := pe_s hs
  obtain ⟨x, ys, rfl, hx, hs1⟩ := pe_s hs0
  obtain ⟨rfl, hj⟩ := pe_rE hx
  obtain ⟨w, rfl, hwi⟩ := pe_iE hx9
  obtain ⟨e0, g1, ge⟩ := hw.2 a _ ht
  unfold ev_c at ge
  dsimp only at ge
  rw [if_neg h3] at ge
  obtain ⟨cA, f, rfl, g2, g3⟩ := ge
  subst hwi
  have hlt := en_clamp hi0 hi1
  refine row H locs ls ys ws (ad a) cA f w hP g1 g2 (vp_in_iff.mpr ⟨hi0, hi1⟩) (k H locs ls (.int (f w.toNatClampNeg) :: ys) ws ⟨h0, hl, ⟨pe_i ?_, hs1⟩, hw, hσ, hP, hD, hS⟩)
  rw [← hσ, sg_arr g1]
  show _ = if w.toNatClampNeg < t.2.1 then (f w.toNatClampNeg).toInt else 0
  rw [if_pos hlt]
theorem px_s19 (C : ev_cx p s m args meth c cc nL o D tys aK aV b0) (hd : decode cc pc = .ok (op, len)) (hc : px_c19 op len a b = true) {i : Int} (hi : 0 ≤ i ∧ i < b) (k : px_go p l e R s m args below meth c Q D tys b0 nL ad (pc + len) L (.inl (σ a i.toNat) :: S) σ) : px_go p l e R s m args below meth c Q D tys b0 nL ad pc L (.inl i :: .inr a :: S) σ := by
  unfold px_c19 at hc
  split at hc
  · rename_i t ht
    split at hc
    · simp only [Bool.and_eq_true, beq_iff_eq] at hc
      obtain ⟨rfl, h1, rfl⟩ := hc
      exact px_ald ht (by rw [h1]; decide) hi.1 hi.2 (fun H locs ls rest ws q cA f x hP ha hty hin k => va_iald C.1 C.2.1 C.2.2.2.2.2.1 hP a t.1 ha (by rw [hty, h1]; rfl) hin hd k) k
    · simp only [Bool.and_eq_true, Bool.or_eq_true, beq_iff_eq] at hc
      obtain ⟨rfl, h1, rfl⟩ := hc
      rcases h1 with h1 | h1
      · exact px_ald ht (by rw [h1]; decide) hi.1 hi.2 (fun H locs ls rest ws q cA f x hP ha hty hin k => va_zald C.1 C.2.1 C.2.2.2.2.2.1 hP a t.1 ha (by rw [hty, h1]; rfl) hin hd k) k
      · exact px_ald ht (by rw [h1]; decide) hi.1 hi.2 (fun H locs ls rest ws q cA f x hP ha hty hin k => va_bald C.1 C.2.1 C.2.2.2.2.2.1 hP a t.1 ha (by rw [hty, h1]; rfl) hin hd k) k
    · cases hc
  · cases hc
theorem px_ast {t : Nat × Nat × Int × Int} (ht : tF[a]? = some (.inl t)) (h3 : t.1 ≠ 3) {i v : Int} (hi0 : 0 ≤ i) (hi1 : i < t.2.1) (hv : ∀ x : Int32, x.toInt = v → en_in t.2.2 x)
    (row : ∀ (H : Heap) (locs : List Loc) (ls : Array Slot) (rest : List Value) (ws : va_W) (q : Nat) (cA : ClassId) (f : Nat → Int32) (i x : Int32), x.toInt = v → va_P D vwCl ws H → va_D (fun q => b0 ≤ q) ws → va_S (fun q => b0 ≤ q) s.heap H locs → ws[a]? = some (q, .inl (cA, t.2.1, .inl f)) → tys[t.1]? = some (cA, en_ty t.1) → vp_in i t.2.1 →
      (∀ (H1 : Heap) (locs1 : List Loc), va_P D vwCl (ws.set a (q, .inl (cA, t.2.1, .inl (upd f i.toNatClampNeg x)))) H1 → va_D (fun q => b0 ≤ q) (ws.set a (q, .inl (cA, t.2.1, .inl (upd f i.toNatClampNeg x)))) → va_S (fun q => b0 ≤ q) s.heap H1 locs1 → W p l e R s m args below meth c H1 locs1 0 0 Q (F0 m (pc + 1) ls rest)) → W p l e R s m args below meth c H locs 0 0 Q (F0 m pc ls (.int x :: .int i :: .ref q :: rest)))
    (k : px_go p l e R s m args below meth c Q D tys b0 nL ad (pc + 1) L S (pU σ a i.toNat v)) : px_go p l e R s m args below meth c Q D tys b0 nL ad pc L (.inl v :: .inl i :: .inr a :: S) σ := by
  intro H locs ls stk ws h
  obtain ⟨h0, hl, hs, hw, hσ, hP, hD, hS⟩ := h
  obtain ⟨x8, us8, rfl, hx8, hs8⟩ := pe_s hs
  obtain ⟨x9, us, rfl, hx9, hs0⟩ := pe_s hs8
  obtain ⟨x, ys, rfl, hx, hs1⟩ := pe_s hs0
  obtain ⟨rfl, hj⟩ := pe_rE hx
  obtain ⟨w, rfl, hwi⟩ := pe_iE hx9
  obtain ⟨u, rfl, huv⟩ := pe_iE hx8
  obtain ⟨e0, g1, ge⟩ := hw.2 a _ ht
  unfold ev_c at ge
  dsimp only at ge
  rw [if_neg h3] at ge
  obtain ⟨cA, f, rfl, g2, g3⟩ := ge
  subst hwi
  have hlt := en_clamp hi0 hi1
  refine row H locs ls ys ws (ad a) cA f w u huv hP hD hS g1 g2 (vp_in_iff.mpr ⟨hi0, hi1⟩) (fun H1 locs1 hP1 hD1 hS1 => ?_)
  have hc : ev_c tys tF.length ad (.inl t) (.inl (cA, t.2.1, .inl (upd f w.toNatClampNeg u))) := by
    unfold ev_c
    dsimp only
    rw [if_neg h3]
    refine ⟨cA, _, rfl, g2, fun k hk => ?_⟩
    unfold upd
    split
    · exact hv u huv
    · exact g3 k hk
  exact k H1 locs1 ls ys _ ⟨h0, hl, hs1, ev_w_set hw ht hc, by rw [sg_seta g1 hlt, hσ, huv]; rfl, hP1, hD1, hS1⟩
theorem px_s20 (C : ev_cx p s m args meth c cc nL o D tys aK aV b0) (hd : decode cc pc = .ok (op, len)) (hc : px_c20 op len a b z = true) {i v : Int} (hi : 0 ≤ i ∧ i < b) (hv : z = 0 ∨ (z = 1 ∧ 0 ≤ v ∧ v ≤ 1) ∨ (z ≠ 1 ∧ -128 ≤ v ∧ v ≤ 127)) (k : px_go p l e R s m args below meth c Q D tys b0 nL ad (pc + len) L S (pU σ a i.toNat v)) : px_go p l e R s m args below meth c Q D tys b0 nL ad pc L (.inl v :: .inl i :: .inr a :: S) σ := by
  unfold px_c20 at hc
  split at hc
  · rename_i t ht
    split at hc
    · simp only [Bool.and_eq_true, beq_iff_eq, decide_eq_true_eq] at hc
      obtain ⟨rfl, h1, rfl, rfl, h2⟩ := hc
      exact px_ast ht (by rw [h1]; decide) hi.1 hi.2 (fun x _ => by rw [h2]; exact en_full_in x) (fun H locs ls rest ws q cA f i x _ hP hD hS ha hty hin k => va_iast C.1 C.2.1 C.2.2.2.2.2.1 hP hD hS a t.1 ha (by rw [hty, h1]; rfl) hin hd k) k
    · simp only [Bool.and_eq_true, Bool.or_eq_true, beq_iff_eq, decide_eq_true_eq] at hc
      obtain ⟨rfl, rfl, ⟨h1, rfl, h2⟩ | ⟨h1, rfl, h2⟩⟩ := hc
      · have hv : 0 ≤ v ∧ v ≤ 1 := by omega
        exact px_ast ht (by rw [h1]; decide) hi.1 hi.2 (fun x hx => by rw [h2]; exact ⟨by show 0 ≤ _; omega, by show _ ≤ 1; omega⟩) (fun H locs ls rest ws q cA f i x hx hP hD hS ha hty hin k => va_zast C.1 C.2.1 C.2.2.2.2.2.1 hP hD hS a t.1 ha (by rw [hty, h1]; rfl) hin hd (by rw [en_vp_nar (en_nar_z (by omega) (by omega))]; exact k)) k
      · have hv : -128 ≤ v ∧ v ≤ 127 := by omega
        exact px_ast ht (by rw [h1]; decide) hi.1 hi.2 (fun x hx => by rw [h2]; exact ⟨by show -128 ≤ _; omega, by show _ ≤ 127; omega⟩) (fun H locs ls rest ws q cA f i x hx hP hD hS ha hty hin k => va_bast C.1 C.2.1 C.2.2.2.2.2.1 hP hD hS a t.1 ha (by rw [hty, h1]; rfl) hin hd (by rw [en_nar_b (by omega) (by omega)]; exact k)) k
    · cases hc
  · cases hc
theorem px_s21 (C : ev_cx p s m args meth c cc nL o D tys aK aV b0) (hd : decode cc pc = .ok (op, len)) (hc : px_c21 op len a b = true) (k : px_go p l e R s m args below meth c Q D tys b0 nL ad (pc + len) L (.inl (b : Int) :: S) σ) : px_go p l e R s m args below meth c Q D tys b0 nL ad pc L (.inr a :: S) σ := by
  unfold px_c21 at hc
  split at hc
  · rename_i t ht
    split at hc
    · simp only [Bool.and_eq_true, beq_iff_eq, decide_eq_true_eq, Bool.not_eq_true', beq_eq_false_iff_ne] at hc
      obtain ⟨rfl, h3, h4, rfl⟩ := hc
      intro H locs ls stk ws h
      obtain ⟨h0, hl, hs, hw, hσ, hP, hD, hS⟩ := h
      obtain ⟨x, ys, rfl, hx, hs1⟩ := pe_s hs
      obtain ⟨rfl, hj⟩ := pe_rE hx
      obtain ⟨e0, g1, ge⟩ := hw.2 a _ ht
      unfold ev_c at ge
      dsimp only at ge
      rw [if_neg h3] at ge
      obtain ⟨cA, f, rfl, g2, g3⟩ := ge
      refine va_alen C.1 C.2.1 C.2.2.2.2.2.1 hP a t.1 g1 g2 (v := nI t.2.1) rfl hd ?_
      exact k H locs ls (.int (nI t.2.1) :: ys) ws ⟨h0, hl, ⟨pe_i (nI_toInt h4), hs1⟩, hw, hσ, hP, hD, hS⟩
    · cases hc
  · cases hc
theorem px_s22 (C : ev_cx p s m args meth c cc nL o D tys aK aV b0) (hd : decode cc pc = .ok (op, len)) (hc : px_c22 op len a b z = true) {i : Int} (hi : 0 ≤ i ∧ i < b) (k : ∀ q : Nat, q < b → i = (q : Int) → px_go p l e R s m args below meth c Q D tys b0 nL ad (pc + len) L (.inr (z.toNat + q) :: S) σ) : px_go p l e R s m args below meth c Q D tys b0 nL ad pc L (.inl i :: .inr a :: S) σ := by
  unfold px_c22 at hc
  split at hc
  · rename_i t ht
    split at hc
    · simp only [Bool.and_eq_true, beq_iff_eq, decide_eq_true_eq] at hc
      obtain ⟨rfl, h3, rfl, rfl⟩ := hc
      intro H locs ls stk ws h
      obtain ⟨h0, hl, hs, hw, hσ, hP, hD, hS⟩ := h
      obtain ⟨x9, us, rfl, hx9, hs0⟩ := pe_s hs
      obtain ⟨x, ys, rfl, hx, hs1⟩ := pe_s hs0
      obtain ⟨rfl, hj⟩ := pe_rE hx
      obtain ⟨w, rfl, hwi⟩ := pe_iE hx9
      obtain ⟨e0, g1, ge⟩ := hw.2 a _ ht
      unfold ev_c at ge
      dsimp only at ge
      rw [if_pos h3] at ge
      obtain ⟨cA, f, rfl, g2, g3⟩ := ge
      subst hwi
      have hin : vp_in w t.2.1 := vp_in_iff.mpr ⟨hi.1, hi.2⟩
      have hlt := en_clamp hi.1 hi.2
      obtain ⟨e1, e2⟩ := g3 w.toNatClampNeg hlt
      refine W.aald (v := va_rf (f w.toNatClampNeg)) (ty := .array .int) C.1 C.2.1 (hP a _ g1) ((C.2.2.2.2.2.1.2 3 _ g2).1 t.2.1 (fun j => va_rf (f j))) rfl (fun q => by cases q) (by show ¬ (w < 0 ∨ (arrV _ _ _).slots.size ≤ _); rw [arrV_size]; exact hin) (by show (arrV _ _ _).slots[_]? = _; rw [arrV_read _ _ hlt]) rfl rfl hd ?_
      rw [e1]
      refine k w.toNatClampNeg hlt ?_ H locs ls (.ref (ad (t.2.2.1.toNat + w.toNatClampNeg)) :: ys) ws ⟨h0, hl, ⟨pe_r e2, hs1⟩, hw, hσ, hP, hD, hS⟩
      show w.toInt = ((w.toInt.toNat : Nat) : Int)
      omega
    · cases hc
  · cases hc
theorem px_after {σ' : pS} {v : Int} {H : Heap} {locs : List Loc} {ls : Array Slot} {stk rest : List Value} {av : Array Value} {rt : Bool} (h0 : ls.size = nL ∧ lv_wf ls ∧ L.length = nL) (hl : ∀ (i : Nat) (a : pV), L[i]? = some (some a) → ∃ x : Value, ls[i]? = some (.val x) ∧ en_v tF.length ad (pe a) x) (hs : en_vs tF.length ad (S.map pe) rest) (hS : va_S (fun q => b0 ≤ q) s.heap H locs)
    (hrun : va_Run p l e R s m args below meth c H locs 0 0 0 0 (F0 m pc ls stk) rest (px_qc D tys b0 ad v σ' rt av) (fun q => b0 ≤ q))
    (k : px_go p l e R s m args below meth c Q D tys b0 nL ad (pc + 3) L (cond rt (.inl v :: S) S) σ') : W p l e R s m args below meth c H locs 0 0 Q (F0 m pc ls stk) := by
  cases rt with
  | false =>
    refine va_callv (a := av) hrun hS (fun q _ h => h) (fun q h => h) (fun w t H1 locs1 ht _ hpost hB _ _ hS1 => ?_)
    subst ht
    exact k t.heap locs1 ls rest w ⟨h0, hl, hs, hpost.1, hpost.2, hB.1, hB.2, hS1⟩
  | true =>
    refine va_calli (a := av) hrun hS (fun q _ h => h) (fun q h => h) (fun x w t H1 locs1 ht _ hpost hB _ _ hS1 => ?_)
    subst ht
    exact k t.heap locs1 ls (.int x :: rest) w ⟨h0, hl, ⟨pe_i hpost.2.2, hs⟩, hpost.1, hpost.2.1, hB.1, hB.2, hS1⟩
theorem px_zz {z : Int} {b : Bool} {v : Int} {S : List pV} (h : b = !decide (z = 0)) : px_rs z v S = cond b (.inl v :: S) S := by
  subst h
  match z with
  | .ofNat 0 => rfl
  | .ofNat (n + 1) => rfl
  | .negSucc n => rfl
theorem px_s23 (C : ev_cx p s m args meth c cc nL o D tys aK aV b0) (hR : R = px_rm fr) (hd : decode cc pc = .ok (op, len)) (hc : px_c23 o op len a b z ps = true) {j : Nat} {A : List pV} (hps : ps = [(0, j)]) (hA : A.length = b) (hS8 : S.length ≤ 8) {f' : Nat} {v : Int} {σ' : pS} (hf' : f' + 1 ≤ fr) (hK : Con l f' a (.inr j :: A.reverse) σ v σ') (k : px_go p l e R s m args below meth c Q D tys b0 nL ad (pc + len) L (px_rs z v S) σ') : px_go p l e R s m args below meth c Q D tys b0 nL ad pc L (A ++ .inr j :: S) σ := by
  subst hps
  unfold px_c23 at hc
  split at hc
  · rename_i i
    split at hc
    · rename_i kd mi n hf
      split at hc
      · rename_i j2 hj2
        cases hj2
        split at hc
        · rename_i q hq
          split at hc
          · rename_i r hr
            split at hc
            · rename_i ci hci
              split at hc
              · rename_i rc hrc
                simp only [Bool.and_eq_true, beq_iff_eq, decide_eq_true_eq] at hc
                obtain ⟨rfl, rfl, rfl, rfl, h1, h2, h3⟩ := hc
                obtain ⟨q1, q2⟩ := q
                dsimp only at h1
                subst h1
                intro H locs ls stk ws h
                obtain ⟨h0, hl, hs, hw, hσ, hP, hD, hS⟩ := h
                obtain ⟨xs, us, rfl, hs1, hs2⟩ := pe_app hs
                obtain ⟨x, ys, rfl, hx, hs3⟩ := pe_s hs2
                have hx0 := hx
                obtain ⟨rfl, hjl⟩ := pe_rE hx
                obtain ⟨e0, g1, vs, rfl, g2⟩ := hw.2 j _ hq
                have hM := hK r hr D tys aK aV b0 ad ws (Value.ref (ad j) :: xs.reverse) ⟨hx0, by rw [List.map_reverse]; exact en_vs_rev hs1⟩ hw hσ
                have hDd := (en_clD hf hr).1
                have hww := en_clW hf hr
                have hts := C.2.2.2.2.1
                have hB := callB_of (own := en_nm o) (index := i) (R := R) (rm := px_rm f') (mc := 0) (ms := 0) n hts (en_codeG hr) rfl rfl rfl (hts _ (en_ws_in (hww (.initialized r.1.cls) (by simp)) rfl)) (hts _ (en_ws_in (hww (.methodLink (en_nm o) i r.1) (by simp)) rfl)) hDd ⟨by rw [hR]; exact hf', by rw [hR]; show 8 + (r.2.2.1 + 11) + 100 * f' ≤ 100 * fr; omega⟩
                have hrecv := va_recv C.2.2.2.2.2.1 hP hrc g1
                rw [(en_nm_cl hrc).trans (en_mo_ok hr hci)] at hrecv
                refine px_after (rt := r.2.2.2.isSome) h0 hl hs3 hS (va_runV (C := r.1.cls) (As := xs.reverse) (rest := ys) ⟨C.1, C.2.1, C.2.2.1, C.2.2.2.1, hts⟩ hM ⟨hB, hts _ (en_ws_in (hww (.instanceMethod r.1) (by simp)) rfl), hts _ (en_ws_in (hww (.selects r.1.cls r.1 r.1) (by simp)) rfl)⟩ ⟨ek_pc_blind, hrecv, ek_pre_at C hP hD hS⟩ rfl (by rw [List.length_reverse, ← en_vs_len hs1, List.length_map]; exact hA) h0.1 (by rw [List.reverse_reverse]) (lv_room (by rw [pe_len hs3]; exact hS8)) hd ⟨Nat.zero_le _, Nat.zero_le _⟩) ?_
                rw [px_zz h3] at k
                exact k
              · cases hc
            · cases hc
          · cases hc
        · cases hc
      · cases hc
    · cases hc
  · cases hc
theorem px_s24 (C : ev_cx p s m args meth c cc nL o D tys aK aV b0) (hR : R = px_rm fr) (hd : decode cc pc = .ok (op, len)) (hc : px_c24 o op len a b z = true) {A : List pV} (hA : A.length = b) (hS8 : S.length ≤ 8) {f' : Nat} {v : Int} {σ' : pS} (hf' : f' + 1 ≤ fr) (hK : Con l f' a A.reverse σ v σ') (k : px_go p l e R s m args below meth c Q D tys b0 nL ad (pc + len) L (px_rs z v S) σ') : px_go p l e R s m args below meth c Q D tys b0 nL ad pc L (A ++ S) σ := by
  unfold px_c24 at hc
  split at hc
  · rename_i i
    split at hc
    · rename_i kd mi n hf
      split at hc
      · rename_i r hr
        simp only [Bool.and_eq_true, Bool.or_eq_true, beq_iff_eq, decide_eq_true_eq] at hc
        obtain ⟨hkd, rfl, rfl, rfl, h2, h3⟩ := hc
        intro H locs ls stk ws h
        obtain ⟨h0, hl, hs, hw, hσ, hP, hD, hS⟩ := h
        obtain ⟨xs, ys, rfl, hs1, hs3⟩ := pe_app hs
        have hM := hK r hr D tys aK aV b0 ad ws xs.reverse (by rw [List.map_reverse]; exact en_vs_rev hs1) hw hσ
        have hDd := (en_clD hf hr).1
        have hww := en_clW hf hr
        have hts := C.2.2.2.2.1
        rw [px_zz h3] at k
        rcases hkd with rfl | rfl
        · have hB := callB_of (own := en_nm o) (index := i) (R := R) (rm := px_rm f') (mc := 0) (ms := 0) n hts (en_codeG hr) rfl rfl rfl (hts _ (en_ws_in (hww (.initialized r.1.cls) (by simp)) rfl)) (hts _ (en_ws_in (hww (.methodLink (en_nm o) i r.1) (by simp)) rfl)) hDd ⟨by rw [hR]; exact hf', by rw [hR]; show 8 + (r.2.2.1 + 11) + 100 * f' ≤ 100 * fr; omega⟩
          exact px_after (rt := r.2.2.2.isSome) h0 hl hs3 hS (va_runS (As := xs.reverse) (rest := ys) ⟨C.1, C.2.1, C.2.2.1, C.2.2.2.1, hts⟩ hM ⟨hB, hts _ (en_ws_in (hww (.static r.1) (by simp)) rfl)⟩ ⟨ek_pc_blind, ek_pre_at C hP hD hS⟩ rfl (by rw [List.length_reverse, ← en_vs_len hs1, List.length_map]; exact hA) h0.1 (by rw [List.reverse_reverse]) (lv_room (by rw [pe_len hs3]; exact hS8)) hd ⟨Nat.zero_le _, Nat.zero_le _⟩) k
        · have hB := va_cnB (own := en_nm o) (host := "LoadsAhead") (index := i) (R := R) (rm := px_rm f') (mc := 0) (ms := 0) n hts (en_codeG hr) rfl rfl rfl (C.2.2.2.2.2.2.2.1.1 _ (en_clN hf hr (Or.inl rfl))) (hts _ (en_ws_in (hww (.initialized r.1.cls) (by simp)) rfl)) hDd ⟨by rw [hR]; exact hf', by rw [hR]; show 8 + (r.2.2.1 + 11) + 100 * f' ≤ 100 * fr; omega⟩
          exact px_after (rt := r.2.2.2.isSome) h0 hl hs3 hS (va_runSN (host := "LoadsAhead") (As := xs.reverse) (rest := ys) ⟨C.1, C.2.1, C.2.2.1, C.2.2.2.1, hts⟩ hM ⟨hB, hts _ (en_ws_in (hww (.static r.1) (by simp)) rfl), trivial⟩ ⟨ek_pc_blind, ek_pre_at C hP hD hS⟩ rfl (by rw [List.length_reverse, ← en_vs_len hs1, List.length_map]; exact hA) h0.1 (by rw [List.reverse_reverse]) (lv_room (by rw [pe_len hs3]; exact hS8)) hd ⟨Nat.zero_le _, Nat.zero_le _⟩) k
      · cases hc
    · cases hc
  · cases hc
theorem px_s25 (C : ev_cx p s m args meth c cc nL o D tys aK aV b0) (hR : R = px_rm fr) (hd : decode cc pc = .ok (op, len)) (hc : px_c25 o op len a = true) {x y : Int} (hfr : 1 ≤ fr) (hS8 : S.length ≤ 8) (k : px_go p l e R s m args below meth c Q D tys b0 nL ad (pc + len) L (.inl (px_mm a x y) :: S) σ) : px_go p l e R s m args below meth c Q D tys b0 nL ad pc L (.inl y :: .inl x :: S) σ := by
  unfold px_c25 at hc
  split at hc
  · rename_i i
    simp only [Bool.and_eq_true, Bool.or_eq_true, beq_iff_eq, decide_eq_true_eq] at hc
    obtain ⟨rfl, hc⟩ := hc
    have hts := C.2.2.2.2.1
    intro H locs ls stk ws h
    obtain ⟨h0, hl, hs, hr⟩ := h
    obtain ⟨v0, ys, rfl, hy, hs1⟩ := pe_s hs
    obtain ⟨u0, zs, rfl, hx, hs2⟩ := pe_s hs1
    obtain ⟨v, rfl, hv⟩ := pe_iE hy
    obtain ⟨u, rfl, hu⟩ := pe_iE hx
    have hlo : ((zs.map fun v => v.category).sum) + 13 ≤ R.locals := by rw [pe_len hs2, hR]; show _ ≤ 100 * fr; omega
    have hf1 : 1 ≤ R.frames := by rw [hR]; exact hfr
    rcases hc with ⟨rfl, hf⟩ | ⟨rfl, hf⟩
    · have hww := en_clW hf en_mt_16
      refine va_mmin C.1 C.2.1 (C.2.2.1.trans h0.1.symm) C.2.2.2.1 (hts _ (en_ws_in (hww (.methodLink (en_nm o) i Lib.Math.min.name) (by simp)) rfl)) (hts _ (en_ws_in (hww (.static Lib.Math.min.name) (by simp)) rfl)) (hts _ (en_ws_in (hww (.initialized Lib.Math.min.name.cls) (by simp)) rfl)) (hts _ (en_codeW en_mt_16)) hf1 hlo (Nat.zero_le _) (Nat.zero_le _) hd ?_
      refine k H locs ls _ ws ⟨h0, hl, ⟨pe_i ?_, hs2⟩, hr⟩
      show _ = pMin x y
      unfold pMin
      by_cases hlt : v < u
      · rw [if_pos hlt]
        rw [fa_lt] at hlt
        rw [if_pos (by omega)]
        exact hv
      · rw [if_neg hlt]
        rw [fa_lt] at hlt
        rw [if_neg (by omega)]
        exact hu
    · have hww := en_clW hf en_mt_30
      refine va_mmax C.1 C.2.1 (C.2.2.1.trans h0.1.symm) C.2.2.2.1 (hts _ (en_ws_in (hww (.methodLink (en_nm o) i Lib.Math.max.name) (by simp)) rfl)) (hts _ (en_ws_in (hww (.static Lib.Math.max.name) (by simp)) rfl)) (hts _ (en_ws_in (hww (.initialized Lib.Math.max.name.cls) (by simp)) rfl)) (hts _ (en_codeW en_mt_30)) hf1 hlo (Nat.zero_le _) (Nat.zero_le _) hd ?_
      refine k H locs ls _ ws ⟨h0, hl, ⟨pe_i ?_, hs2⟩, hr⟩
      show _ = pMax x y
      unfold pMax
      by_cases hlt : u < v
      · rw [if_pos hlt]
        rw [fa_lt] at hlt
        rw [if_pos (by omega)]
        exact hv
      · rw [if_neg hlt]
        rw [fa_lt] at hlt
        rw [if_neg (by omega)]
        exact hu
  · cases hc
theorem px_s26 (C : ev_cx p s m args meth c cc nL o D tys aK aV b0) (hR : R = px_rm fr) (hd : decode cc pc = .ok (op, len)) (hc : px_c26 o op len a b z = true) (hfr : 1 ≤ fr) (hS8 : S.length ≤ 8) (k : px_go p l e R s m args below meth c Q D tys b0 nL ad (pc + len) L S (pKp σ a b z.toNat)) : px_go p l e R s m args below meth c Q D tys b0 nL ad pc L (.inl z :: .inl 0 :: .inr b :: .inl 0 :: .inr a :: S) σ := by
  unfold px_c26 at hc
  split at hc
  · rename_i i
    split at hc
    · rename_i t0 ht0
      split at hc
      · rename_i t1 ht1
        simp only [Bool.and_eq_true, beq_iff_eq, decide_eq_true_eq] at hc
        obtain ⟨hf, rfl, hz, hy0, hy1, hn0, hn1, hbb, hlo⟩ := hc
        have hf := List.contains_iff_mem.mp hf
        intro H locs ls stk ws h
        obtain ⟨h0, hl, hs, hw, hσ, hP, hD, hS⟩ := h
        obtain ⟨x1, v1, rfl, hx1, hs1⟩ := pe_s hs
        obtain ⟨x2, v2, rfl, hx2, hs2⟩ := pe_s hs1
        obtain ⟨x3, v3, rfl, hx3, hs3⟩ := pe_s hs2
        obtain ⟨x4, v4, rfl, hx4, hs4⟩ := pe_s hs3
        obtain ⟨x5, v5, rfl, hx5, hs5⟩ := pe_s hs4
        obtain ⟨nn, rfl, z3⟩ := pe_iE hx1
        obtain ⟨dp, rfl, z2⟩ := pe_iE hx2
        obtain ⟨rfl, hj1⟩ := pe_rE hx3
        obtain ⟨sq, rfl, z1⟩ := pe_iE hx4
        obtain ⟨rfl, hj0⟩ := pe_rE hx5
        obtain ⟨e0, g1, ge⟩ := hw.2 a _ ht0
        unfold ev_c at ge
        dsimp only at ge
        rw [if_neg (by rw [hy0]; decide)] at ge
        obtain ⟨cA, f, rfl, g2, g3⟩ := ge
        obtain ⟨e1, q1, qe⟩ := hw.2 b _ ht1
        unfold ev_c at qe
        dsimp only at qe
        rw [if_neg (by rw [hy1]; decide)] at qe
        obtain ⟨cB, g, rfl, q2, q3⟩ := qe
        have c1 : sq.toNatClampNeg = 0 := by show sq.toInt.toNat = 0; omega
        have c2 : dp.toNatClampNeg = 0 := by show dp.toInt.toNat = 0; omega
        have c3 : nn.toNatClampNeg = z.toNat := by show nn.toInt.toNat = z.toNat; omega
        have hww : ∀ w ∈ ([.native arraycopyName, .static arraycopyName, .initialized "java/lang/System"] : List Cond), w ∈ en_ws := fun w hw => en_ws_in (en_ac_c w hw) (by
          rcases List.mem_cons.mp hw with rfl | hw
          · rfl
          · rcases List.mem_cons.mp hw with rfl | hw
            · rfl
            · rw [List.mem_singleton.mp hw]; rfl)
        refine va_copyi C.1 C.2.1 (C.2.2.1.trans h0.1.symm) C.2.2.2.1 (C.2.2.2.2.1 _ (en_ws_in (en_ac_in _ (List.mem_map.mpr ⟨(o, i), hf, rfl⟩)) rfl)) (C.2.2.2.2.1 _ (hww _ List.mem_cons_self)) (C.2.2.2.2.1 _ (hww _ (List.mem_cons_of_mem _ List.mem_cons_self))) (C.2.2.2.2.1 _ (hww _ (List.mem_cons_of_mem _ (List.mem_cons_of_mem _ List.mem_cons_self)))) C.2.2.2.2.2.1 hP hD hS a b t0.1 t1.1 g1 q1 (ty := .int) (by rw [g2, hy0]; rfl) (by rw [q2, hy1]; rfl) rfl
          (by rw [fa_lt]; show ¬ sq.toInt < 0; omega) (by rw [fa_lt]; show ¬ dp.toInt < 0; omega) (by rw [fa_lt]; show ¬ nn.toInt < 0; omega) (by omega) (by omega) (fun _ _ => rfl) (by rw [hR]; exact hfr) (by rw [pe_len hs5, hR]; show _ ≤ 100 * fr; omega) hd (fun H1 locs1 hP1 hD1 hS1 => ?_)
        have hc : ev_c tys tF.length ad (.inl t1) (.inl (cB, t1.2.1, .inl (va_cpy f g sq.toNatClampNeg dp.toNatClampNeg nn.toNatClampNeg))) := by
          unfold ev_c
          dsimp only
          rw [if_neg (by rw [hy1]; decide)]
          refine ⟨cB, _, rfl, q2, fun j hj => ?_⟩
          rw [c1, c2, c3]
          by_cases hjn : j < z.toNat
          · rw [pk_cpy_in (Nat.zero_le _) (by omega), ← hbb]
            exact g3 (0 + (j - 0)) (by omega)
          · rw [pk_cpy_out (Or.inr (by omega))]
            exact q3 j hj
        refine k H1 locs1 ls v5 _ ⟨h0, hl, hs5, ev_w_set hw ht1 hc, ?_, hP1, hD1, hS1⟩
        rw [c1, c2, c3, sg_cpy g1 q1 hn0 hn1, hσ]
      · cases hc
    · cases hc
  · cases hc
theorem px_s29 (k : px_go p l e R s m args below meth c Q D tys b0 nL ad pc (L.set a none) S σ) : px_go p l e R s m args below meth c Q D tys b0 nL ad pc L S σ := by
  intro H locs ls stk ws h
  obtain ⟨⟨z1, z2, z3⟩, hl, hr⟩ := h
  refine k H locs ls stk ws ⟨⟨z1, z2, by rw [List.length_set]; exact z3⟩, fun j b hj => ?_, hr⟩
  by_cases hja : j = a
  · subst hja
    by_cases hlt : j < L.length
    · rw [List.getElem?_set_self hlt] at hj
      cases hj
    · rw [List.getElem?_eq_none (by rw [List.length_set]; omega)] at hj
      cases hj
  · rw [List.getElem?_set_ne (Ne.symm hja)] at hj
    exact hl j b hj
end PX2
def xIx (b : Int32) : Int := if 105 = b then 0 else if 107 = b then 1 else if 99 = b then 2 else if 115 = b then 3 else if 110 = b then 4 else if 114 = b then 5 else if 119 = b then 6 else -1
def xCh (n : Nat) : Int32 := ((Int32.ofInt (n : Int)).toUInt32 % 65536).toInt32
set_option maxRecDepth 100000 in
theorem xIx_all : ∀ n : Fin 256, xIx (xCh n.val).toInt8.toInt32 = pIdx (n.val : Int) ∧ 0 ≤ (xCh n.val).toInt ∧ (xCh n.val).toInt ≤ 255 := by decide +kernel
theorem xIx_ok {u : Int32} {x : Int} (hu : u.toInt = x) (h0 : 0 ≤ x) (h1 : x ≤ 255) : xIx (u.toUInt32 % 65536).toInt32.toInt8.toInt32 = pIdx x ∧ 0 ≤ (u.toUInt32 % 65536).toInt32.toInt ∧ (u.toUInt32 % 65536).toInt32.toInt ≤ 255 := by
  have h := xIx_all ⟨x.toNat, by omega⟩
  have e : u = Int32.ofInt ((x.toNat : Nat) : Int) := by
    rw [show ((x.toNat : Nat) : Int) = u.toInt by omega, Int32.ofInt_toInt]
  have e2 : ((x.toNat : Nat) : Int) = x := by omega
  unfold xCh at h
  dsimp only at h
  rw [← e, e2] at h
  exact h
set_option maxHeartbeats 4000000 in
theorem ex_can (l : Launch) (b0 aK aV : Nat) (ch : Int32) (hch : 0 ≤ ch.toInt ∧ ch.toInt ≤ 255) : Met l yJ1_canEncode_9a6ad (Cond.code yJ1_canEncode_9a6ad cJ1_canEncode_9a6ad 1 (some .boolean) :: en_ws) ({ frames := 0, cells := 0, slots := 0, locals := 0 }) (va_Pc [.int ch] (fun U => b0 ≤ U.heap.size ∧ en_X b0 aK aV U)) (va_Qi (S := Unit) (fun r _ => r = 1) (fun _ _ => True) (fun q => b0 ≤ q)) 0 0 (fun q => b0 ≤ q) := by
  refine Met.ofW (cc := cJ1_canEncode_9a6ad) (maxL := 1) (ret := some .boolean) (by decide) rfl ?_
  intro p e s m args below meth c s₁ B hml hv
  obtain ⟨rfl, hsz, hX⟩ := hv
  have hx := B.exec
  have hb := B.bytes
  have hr := B.returns
  have hts0 := atoms_spec (ws := Cond.code yJ1_canEncode_9a6ad cJ1_canEncode_9a6ad 1 (some .boolean) :: en_ws) B.pre
  have hts : ∀ w ∈ en_ws, w.before #[.int ch] s = true := fun w hw => hts0 w (List.mem_cons_of_mem _ hw)
  have hown : s.vm.findClass "java/lang/StringLatin1" = some m.cls := findClass_of_methodNamed B.named
  have hlocks := B.notSynchronized
  have hS : va_S (fun q => b0 ≤ q) s.heap s.heap [] := va_S.rf
  have hl := lv_entry ([.int ch]) (n := 1) (Nat.le_of_ble_eq_true rfl)
  rw [lg_entry_eq]
  generalize (lg_sl ([.int ch]) ++ List.replicate (1 - (lg_sl ([.int ch])).length) Slot.unset).toArray = ls at hl ⊢
  have hE := hX.2.2.1.1 0 (by decide)
  have hl : lv_has ls 1 [(0, .int ch)] := hl
  refine lv_iload_n hx hb (by decide +kernel : decode cJ1_canEncode_9a6ad 0 = .ok (.iload_n 0, 1)) rfl (lv_at hl 0 rfl) ?_
  refine lv_if_lt (tgt := 15) hx hb (by decide +kernel : decode cJ1_canEncode_9a6ad 1 = .ok (.ifCond .lt 14, 3)) (by decide) (fun h => absurd h (by rw [fa_lt]; show ¬ ch.toInt < 0; omega)) (fun _ => ?_)
  refine lv_iload_n hx hb (by decide +kernel : decode cJ1_canEncode_9a6ad 4 = .ok (.iload_n 0, 1)) rfl (lv_at hl 0 rfl) ?_
  refine lv_sipush (v := 255) hx hb (by decide +kernel : decode cJ1_canEncode_9a6ad 5 = .ok (.sipush 255, 3)) (by decide) ?_
  refine lv_icmp_gt (tgt := 15) hx hb (by decide +kernel : decode cJ1_canEncode_9a6ad 8 = .ok (.if_icmp .gt 7, 3)) (by decide) (fun h => absurd h (by rw [fa_lt]; show ¬ 255 < ch.toInt; omega)) (fun _ => ?_)
  refine lv_iconst (v := 1) hx hb (by decide +kernel : decode cJ1_canEncode_9a6ad 11 = .ok (.iconst 1, 1)) (by decide) ?_
  refine lv_goto (tgt := 16) hx hb (by decide +kernel : decode cJ1_canEncode_9a6ad 12 = .ok (.goto 4, 3)) (by decide) ?_
  exact W.zret hx hb hr rfl (fun t ht _ => ⟨⟨1, (), rfl, rfl, trivial⟩, hS.F ht⟩) hS.2.2 (by decide +kernel : decode cJ1_canEncode_9a6ad 16 = .ok (.ireturn, 1))
set_option maxHeartbeats 4000000 in
theorem ex_chr (l : Launch) (b0 aK aV : Nat) (ch : Int32) : Met l yJ1_indexOfChar_4cfef (Cond.code yJ1_indexOfChar_4cfef cJ1_indexOfChar_4cfef 6 (some .int) :: en_ws) ({ frames := 0, cells := 0, slots := 0, locals := 0 }) (va_Pc [.ref aV, .int ch, .int 0, .int 7] (fun U => b0 ≤ U.heap.size ∧ en_X b0 aK aV U)) (va_Qi (S := Unit) (fun r _ => r.toInt = xIx ch.toInt8.toInt32) (fun _ _ => True) (fun q => b0 ≤ q)) 0 0 (fun q => b0 ≤ q) := by
  refine Met.ofW (cc := cJ1_indexOfChar_4cfef) (maxL := 6) (ret := some .int) (by decide) rfl ?_
  intro p e s m args below meth c s₁ B hml hv
  obtain ⟨rfl, hsz, hX⟩ := hv
  have hx := B.exec
  have hb := B.bytes
  have hr := B.returns
  have hts0 := atoms_spec (ws := Cond.code yJ1_indexOfChar_4cfef cJ1_indexOfChar_4cfef 6 (some .int) :: en_ws) B.pre
  have hts : ∀ w ∈ en_ws, w.before #[.ref aV, .int ch, .int 0, .int 7] s = true := fun w hw => hts0 w (List.mem_cons_of_mem _ hw)
  have hown : s.vm.findClass "java/lang/StringLatin1" = some m.cls := findClass_of_methodNamed B.named
  have hlocks := B.notSynchronized
  have hS : va_S (fun q => b0 ≤ q) s.heap s.heap [] := va_S.rf
  have hl := lv_entry ([.ref aV, .int ch, .int 0, .int 7]) (n := 6) (Nat.le_of_ble_eq_true rfl)
  rw [lg_entry_eq]
  generalize (lg_sl ([.ref aV, .int ch, .int 0, .int 7]) ++ List.replicate (6 - (lg_sl ([.ref aV, .int ch, .int 0, .int 7])).length) Slot.unset).toArray = ls at hl ⊢
  have hE := hX.2.2.1.1 0 (by decide)
  have hl : lv_has ls 6 [(0, .ref aV), (1, .int ch), (2, .int 0), (3, .int 7)] := hl
  refine lv_iload_n hx hb (by decide +kernel : decode cJ1_indexOfChar_4cfef 0 = .ok (.iload_n 1, 1)) rfl (lv_at hl 1 rfl) ?_
  refine lv_i2b hx hb (by decide +kernel : decode cJ1_indexOfChar_4cfef 1 = .ok (.i2b, 1)) rfl ?_
  refine lv_istore (lv' := [(4, .int ch.toInt8.toInt32), (0, .ref aV), (1, .int ch), (2, .int 0), (3, .int 7)]) hx hb (by decide +kernel : decode cJ1_indexOfChar_4cfef 2 = .ok (.istore 4, 2)) hl (by decide) rfl (fun ls hl => ?_)
  refine lv_iload_n hx hb (by decide +kernel : decode cJ1_indexOfChar_4cfef 4 = .ok (.iload_n 2, 1)) rfl (lv_at hl 3 rfl) ?_
  refine lv_istore (lv' := [(5, .int (nI 0)), (4, .int ch.toInt8.toInt32), (0, .ref aV), (1, .int ch), (2, .int 0), (3, .int 7)]) hx hb (by decide +kernel : decode cJ1_indexOfChar_4cfef 5 = .ok (.istore 5, 2)) hl (by decide) rfl (fun ls hl => ?_)
  have hl := lv_sub hl [0, 1, 2, 5] rfl
  generalize ch.toInt8.toInt32 = bb at hl ⊢
  refine lv_iload hx hb (by decide +kernel : decode cJ1_indexOfChar_4cfef 7 = .ok (.iload 5, 2)) (lv_at hl 0 rfl) ?_
  refine lv_iload_n hx hb (by decide +kernel : decode cJ1_indexOfChar_4cfef 9 = .ok (.iload_n 3, 1)) rfl (lv_at hl 3 rfl) ?_
  refine lv_icmp_ge (tgt := 31) hx hb (by decide +kernel : decode cJ1_indexOfChar_4cfef 10 = .ok (.if_icmp .ge 21, 3)) (by decide) (fun h => absurd h (nI_ge (a := 0) (b := 7) (by omega) (by decide))) (fun _ => ?_)
  refine lv_aload_n hx hb (by decide +kernel : decode cJ1_indexOfChar_4cfef 13 = .ok (.aload_n 0, 1)) rfl (lv_at hl 2 rfl) ?_
  refine lv_iload hx hb (by decide +kernel : decode cJ1_indexOfChar_4cfef 14 = .ok (.iload 5, 2)) (lv_at hl 0 rfl) ?_
  refine va_tb hx hb hE.2.2.2 hS (vp_in_nI (n := 0) (N := 7) (by decide) (by decide)) (v := .int 105) rfl (by decide +kernel : decode cJ1_indexOfChar_4cfef 16 = .ok (.baload, 1)) ?_
  refine lv_iload hx hb (by decide +kernel : decode cJ1_indexOfChar_4cfef 17 = .ok (.iload 4, 2)) (lv_at hl 1 rfl) ?_
  refine lv_icmp_ne (tgt := 25) hx hb (by decide +kernel : decode cJ1_indexOfChar_4cfef 19 = .ok (.if_icmp .ne 6, 3)) (by decide) (fun h0 => ?_) (fun h0 => ?_)
  rotate_left
  · refine lv_iload hx hb (by decide +kernel : decode cJ1_indexOfChar_4cfef 22 = .ok (.iload 5, 2)) (lv_at hl 0 rfl) ?_
    refine W.iret hx hb hr (fun t ht _ => ⟨⟨_, (), rfl, ?_, trivial⟩, hS.F ht⟩) hS.2.2 (by decide +kernel : decode cJ1_indexOfChar_4cfef 24 = .ok (.ireturn, 1))
    show (nI 0).toInt = xIx bb
    unfold xIx
    rw [if_pos h0]
    decide
  refine lv_iinc (v := nI 1) (k := 0) (lv' := [(5, .int (nI 1)), (4, .int bb), (0, .ref aV), (3, .int 7)]) hx hb (by decide +kernel : decode cJ1_indexOfChar_4cfef 25 = .ok (.iinc 5 1, 3)) hl rfl (by decide) (by decide) rfl (fun ls hl => ?_)
  refine lv_goto (tgt := 7) hx hb (by decide +kernel : decode cJ1_indexOfChar_4cfef 28 = .ok (.goto (-21), 3)) (by decide) ?_
  refine lv_iload hx hb (by decide +kernel : decode cJ1_indexOfChar_4cfef 7 = .ok (.iload 5, 2)) (lv_at hl 0 rfl) ?_
  refine lv_iload_n hx hb (by decide +kernel : decode cJ1_indexOfChar_4cfef 9 = .ok (.iload_n 3, 1)) rfl (lv_at hl 3 rfl) ?_
  refine lv_icmp_ge (tgt := 31) hx hb (by decide +kernel : decode cJ1_indexOfChar_4cfef 10 = .ok (.if_icmp .ge 21, 3)) (by decide) (fun h => absurd h (nI_ge (a := 1) (b := 7) (by omega) (by decide))) (fun _ => ?_)
  refine lv_aload_n hx hb (by decide +kernel : decode cJ1_indexOfChar_4cfef 13 = .ok (.aload_n 0, 1)) rfl (lv_at hl 2 rfl) ?_
  refine lv_iload hx hb (by decide +kernel : decode cJ1_indexOfChar_4cfef 14 = .ok (.iload 5, 2)) (lv_at hl 0 rfl) ?_
  refine va_tb hx hb hE.2.2.2 hS (vp_in_nI (n := 1) (N := 7) (by decide) (by decide)) (v := .int 107) rfl (by decide +kernel : decode cJ1_indexOfChar_4cfef 16 = .ok (.baload, 1)) ?_
  refine lv_iload hx hb (by decide +kernel : decode cJ1_indexOfChar_4cfef 17 = .ok (.iload 4, 2)) (lv_at hl 1 rfl) ?_
  refine lv_icmp_ne (tgt := 25) hx hb (by decide +kernel : decode cJ1_indexOfChar_4cfef 19 = .ok (.if_icmp .ne 6, 3)) (by decide) (fun h1 => ?_) (fun h1 => ?_)
  rotate_left
  · refine lv_iload hx hb (by decide +kernel : decode cJ1_indexOfChar_4cfef 22 = .ok (.iload 5, 2)) (lv_at hl 0 rfl) ?_
    refine W.iret hx hb hr (fun t ht _ => ⟨⟨_, (), rfl, ?_, trivial⟩, hS.F ht⟩) hS.2.2 (by decide +kernel : decode cJ1_indexOfChar_4cfef 24 = .ok (.ireturn, 1))
    show (nI 1).toInt = xIx bb
    unfold xIx
    rw [if_neg h0, if_pos h1]
    decide
  refine lv_iinc (v := nI 2) (k := 0) (lv' := [(5, .int (nI 2)), (4, .int bb), (0, .ref aV), (3, .int 7)]) hx hb (by decide +kernel : decode cJ1_indexOfChar_4cfef 25 = .ok (.iinc 5 1, 3)) hl rfl (by decide) (by decide) rfl (fun ls hl => ?_)
  refine lv_goto (tgt := 7) hx hb (by decide +kernel : decode cJ1_indexOfChar_4cfef 28 = .ok (.goto (-21), 3)) (by decide) ?_
  refine lv_iload hx hb (by decide +kernel : decode cJ1_indexOfChar_4cfef 7 = .ok (.iload 5, 2)) (lv_at hl 0 rfl) ?_
  refine lv_iload_n hx hb (by decide +kernel : decode cJ1_indexOfChar_4cfef 9 = .ok (.iload_n 3, 1)) rfl (lv_at hl 3 rfl) ?_
  refine lv_icmp_ge (tgt := 31) hx hb (by decide +kernel : decode cJ1_indexOfChar_4cfef 10 = .ok (.if_icmp .ge 21, 3)) (by decide) (fun h => absurd h (nI_ge (a := 2) (b := 7) (by omega) (by decide))) (fun _ => ?_)
  refine lv_aload_n hx hb (by decide +kernel : decode cJ1_indexOfChar_4cfef 13 = .ok (.aload_n 0, 1)) rfl (lv_at hl 2 rfl) ?_
  refine lv_iload hx hb (by decide +kernel : decode cJ1_indexOfChar_4cfef 14 = .ok (.iload 5, 2)) (lv_at hl 0 rfl) ?_
  refine va_tb hx hb hE.2.2.2 hS (vp_in_nI (n := 2) (N := 7) (by decide) (by decide)) (v := .int 99) rfl (by decide +kernel : decode cJ1_indexOfChar_4cfef 16 = .ok (.baload, 1)) ?_
  refine lv_iload hx hb (by decide +kernel : decode cJ1_indexOfChar_4cfef 17 = .ok (.iload 4, 2)) (lv_at hl 1 rfl) ?_
  refine lv_icmp_ne (tgt := 25) hx hb (by decide +kernel : decode cJ1_indexOfChar_4cfef 19 = .ok (.if_icmp .ne 6, 3)) (by decide) (fun h2 => ?_) (fun h2 => ?_)
  rotate_left
  · refine lv_iload hx hb (by decide +kernel : decode cJ1_indexOfChar_4cfef 22 = .ok (.iload 5, 2)) (lv_at hl 0 rfl) ?_
    refine W.iret hx hb hr (fun t ht _ => ⟨⟨_, (), rfl, ?_, trivial⟩, hS.F ht⟩) hS.2.2 (by decide +kernel : decode cJ1_indexOfChar_4cfef 24 = .ok (.ireturn, 1))
    show (nI 2).toInt = xIx bb
    unfold xIx
    rw [if_neg h0, if_neg h1, if_pos h2]
    decide
  refine lv_iinc (v := nI 3) (k := 0) (lv' := [(5, .int (nI 3)), (4, .int bb), (0, .ref aV), (3, .int 7)]) hx hb (by decide +kernel : decode cJ1_indexOfChar_4cfef 25 = .ok (.iinc 5 1, 3)) hl rfl (by decide) (by decide) rfl (fun ls hl => ?_)
  refine lv_goto (tgt := 7) hx hb (by decide +kernel : decode cJ1_indexOfChar_4cfef 28 = .ok (.goto (-21), 3)) (by decide) ?_
  refine lv_iload hx hb (by decide +kernel : decode cJ1_indexOfChar_4cfef 7 = .ok (.iload 5, 2)) (lv_at hl 0 rfl) ?_
  refine lv_iload_n hx hb (by decide +kernel : decode cJ1_indexOfChar_4cfef 9 = .ok (.iload_n 3, 1)) rfl (lv_at hl 3 rfl) ?_
  refine lv_icmp_ge (tgt := 31) hx hb (by decide +kernel : decode cJ1_indexOfChar_4cfef 10 = .ok (.if_icmp .ge 21, 3)) (by decide) (fun h => absurd h (nI_ge (a := 3) (b := 7) (by omega) (by decide))) (fun _ => ?_)
  refine lv_aload_n hx hb (by decide +kernel : decode cJ1_indexOfChar_4cfef 13 = .ok (.aload_n 0, 1)) rfl (lv_at hl 2 rfl) ?_
  refine lv_iload hx hb (by decide +kernel : decode cJ1_indexOfChar_4cfef 14 = .ok (.iload 5, 2)) (lv_at hl 0 rfl) ?_
  refine va_tb hx hb hE.2.2.2 hS (vp_in_nI (n := 3) (N := 7) (by decide) (by decide)) (v := .int 115) rfl (by decide +kernel : decode cJ1_indexOfChar_4cfef 16 = .ok (.baload, 1)) ?_
  refine lv_iload hx hb (by decide +kernel : decode cJ1_indexOfChar_4cfef 17 = .ok (.iload 4, 2)) (lv_at hl 1 rfl) ?_
  refine lv_icmp_ne (tgt := 25) hx hb (by decide +kernel : decode cJ1_indexOfChar_4cfef 19 = .ok (.if_icmp .ne 6, 3)) (by decide) (fun h3 => ?_) (fun h3 => ?_)
  rotate_left
  · refine lv_iload hx hb (by decide +kernel : decode cJ1_indexOfChar_4cfef 22 = .ok (.iload 5, 2)) (lv_at hl 0 rfl) ?_
    refine W.iret hx hb hr (fun t ht _ => ⟨⟨_, (), rfl, ?_, trivial⟩, hS.F ht⟩) hS.2.2 (by decide +kernel : decode cJ1_indexOfChar_4cfef 24 = .ok (.ireturn, 1))
    show (nI 3).toInt = xIx bb
    unfold xIx
    rw [if_neg h0, if_neg h1, if_neg h2, if_pos h3]
    decide
  refine lv_iinc (v := nI 4) (k := 0) (lv' := [(5, .int (nI 4)), (4, .int bb), (0, .ref aV), (3, .int 7)]) hx hb (by decide +kernel : decode cJ1_indexOfChar_4cfef 25 = .ok (.iinc 5 1, 3)) hl rfl (by decide) (by decide) rfl (fun ls hl => ?_)
  refine lv_goto (tgt := 7) hx hb (by decide +kernel : decode cJ1_indexOfChar_4cfef 28 = .ok (.goto (-21), 3)) (by decide) ?_
  refine lv_iload hx hb (by decide +kernel : decode cJ1_indexOfChar_4cfef 7 = .ok (.iload 5, 2)) (lv_at hl 0 rfl) ?_
  refine lv_iload_n hx hb (by decide +kernel : decode cJ1_indexOfChar_4cfef 9 = .ok (.iload_n 3, 1)) rfl (lv_at hl 3 rfl) ?_
  refine lv_icmp_ge (tgt := 31) hx hb (by decide +kernel : decode cJ1_indexOfChar_4cfef 10 = .ok (.if_icmp .ge 21, 3)) (by decide) (fun h => absurd h (nI_ge (a := 4) (b := 7) (by omega) (by decide))) (fun _ => ?_)
  refine lv_aload_n hx hb (by decide +kernel : decode cJ1_indexOfChar_4cfef 13 = .ok (.aload_n 0, 1)) rfl (lv_at hl 2 rfl) ?_
  refine lv_iload hx hb (by decide +kernel : decode cJ1_indexOfChar_4cfef 14 = .ok (.iload 5, 2)) (lv_at hl 0 rfl) ?_
  refine va_tb hx hb hE.2.2.2 hS (vp_in_nI (n := 4) (N := 7) (by decide) (by decide)) (v := .int 110) rfl (by decide +kernel : decode cJ1_indexOfChar_4cfef 16 = .ok (.baload, 1)) ?_
  refine lv_iload hx hb (by decide +kernel : decode cJ1_indexOfChar_4cfef 17 = .ok (.iload 4, 2)) (lv_at hl 1 rfl) ?_
  refine lv_icmp_ne (tgt := 25) hx hb (by decide +kernel : decode cJ1_indexOfChar_4cfef 19 = .ok (.if_icmp .ne 6, 3)) (by decide) (fun h4 => ?_) (fun h4 => ?_)
  rotate_left
  · refine lv_iload hx hb (by decide +kernel : decode cJ1_indexOfChar_4cfef 22 = .ok (.iload 5, 2)) (lv_at hl 0 rfl) ?_
    refine W.iret hx hb hr (fun t ht _ => ⟨⟨_, (), rfl, ?_, trivial⟩, hS.F ht⟩) hS.2.2 (by decide +kernel : decode cJ1_indexOfChar_4cfef 24 = .ok (.ireturn, 1))
    show (nI 4).toInt = xIx bb
    unfold xIx
    rw [if_neg h0, if_neg h1, if_neg h2, if_neg h3, if_pos h4]
    decide
  refine lv_iinc (v := nI 5) (k := 0) (lv' := [(5, .int (nI 5)), (4, .int bb), (0, .ref aV), (3, .int 7)]) hx hb (by decide +kernel : decode cJ1_indexOfChar_4cfef 25 = .ok (.iinc 5 1, 3)) hl rfl (by decide) (by decide) rfl (fun ls hl => ?_)
  refine lv_goto (tgt := 7) hx hb (by decide +kernel : decode cJ1_indexOfChar_4cfef 28 = .ok (.goto (-21), 3)) (by decide) ?_
  refine lv_iload hx hb (by decide +kernel : decode cJ1_indexOfChar_4cfef 7 = .ok (.iload 5, 2)) (lv_at hl 0 rfl) ?_
  refine lv_iload_n hx hb (by decide +kernel : decode cJ1_indexOfChar_4cfef 9 = .ok (.iload_n 3, 1)) rfl (lv_at hl 3 rfl) ?_
  refine lv_icmp_ge (tgt := 31) hx hb (by decide +kernel : decode cJ1_indexOfChar_4cfef 10 = .ok (.if_icmp .ge 21, 3)) (by decide) (fun h => absurd h (nI_ge (a := 5) (b := 7) (by omega) (by decide))) (fun _ => ?_)
  refine lv_aload_n hx hb (by decide +kernel : decode cJ1_indexOfChar_4cfef 13 = .ok (.aload_n 0, 1)) rfl (lv_at hl 2 rfl) ?_
  refine lv_iload hx hb (by decide +kernel : decode cJ1_indexOfChar_4cfef 14 = .ok (.iload 5, 2)) (lv_at hl 0 rfl) ?_
  refine va_tb hx hb hE.2.2.2 hS (vp_in_nI (n := 5) (N := 7) (by decide) (by decide)) (v := .int 114) rfl (by decide +kernel : decode cJ1_indexOfChar_4cfef 16 = .ok (.baload, 1)) ?_
  refine lv_iload hx hb (by decide +kernel : decode cJ1_indexOfChar_4cfef 17 = .ok (.iload 4, 2)) (lv_at hl 1 rfl) ?_
  refine lv_icmp_ne (tgt := 25) hx hb (by decide +kernel : decode cJ1_indexOfChar_4cfef 19 = .ok (.if_icmp .ne 6, 3)) (by decide) (fun h5 => ?_) (fun h5 => ?_)
  rotate_left
  · refine lv_iload hx hb (by decide +kernel : decode cJ1_indexOfChar_4cfef 22 = .ok (.iload 5, 2)) (lv_at hl 0 rfl) ?_
    refine W.iret hx hb hr (fun t ht _ => ⟨⟨_, (), rfl, ?_, trivial⟩, hS.F ht⟩) hS.2.2 (by decide +kernel : decode cJ1_indexOfChar_4cfef 24 = .ok (.ireturn, 1))
    show (nI 5).toInt = xIx bb
    unfold xIx
    rw [if_neg h0, if_neg h1, if_neg h2, if_neg h3, if_neg h4, if_pos h5]
    decide
  refine lv_iinc (v := nI 6) (k := 0) (lv' := [(5, .int (nI 6)), (4, .int bb), (0, .ref aV), (3, .int 7)]) hx hb (by decide +kernel : decode cJ1_indexOfChar_4cfef 25 = .ok (.iinc 5 1, 3)) hl rfl (by decide) (by decide) rfl (fun ls hl => ?_)
  refine lv_goto (tgt := 7) hx hb (by decide +kernel : decode cJ1_indexOfChar_4cfef 28 = .ok (.goto (-21), 3)) (by decide) ?_
  refine lv_iload hx hb (by decide +kernel : decode cJ1_indexOfChar_4cfef 7 = .ok (.iload 5, 2)) (lv_at hl 0 rfl) ?_
  refine lv_iload_n hx hb (by decide +kernel : decode cJ1_indexOfChar_4cfef 9 = .ok (.iload_n 3, 1)) rfl (lv_at hl 3 rfl) ?_
  refine lv_icmp_ge (tgt := 31) hx hb (by decide +kernel : decode cJ1_indexOfChar_4cfef 10 = .ok (.if_icmp .ge 21, 3)) (by decide) (fun h => absurd h (nI_ge (a := 6) (b := 7) (by omega) (by decide))) (fun _ => ?_)
  refine lv_aload_n hx hb (by decide +kernel : decode cJ1_indexOfChar_4cfef 13 = .ok (.aload_n 0, 1)) rfl (lv_at hl 2 rfl) ?_
  refine lv_iload hx hb (by decide +kernel : decode cJ1_indexOfChar_4cfef 14 = .ok (.iload 5, 2)) (lv_at hl 0 rfl) ?_
  refine va_tb hx hb hE.2.2.2 hS (vp_in_nI (n := 6) (N := 7) (by decide) (by decide)) (v := .int 119) rfl (by decide +kernel : decode cJ1_indexOfChar_4cfef 16 = .ok (.baload, 1)) ?_
  refine lv_iload hx hb (by decide +kernel : decode cJ1_indexOfChar_4cfef 17 = .ok (.iload 4, 2)) (lv_at hl 1 rfl) ?_
  refine lv_icmp_ne (tgt := 25) hx hb (by decide +kernel : decode cJ1_indexOfChar_4cfef 19 = .ok (.if_icmp .ne 6, 3)) (by decide) (fun h6 => ?_) (fun h6 => ?_)
  rotate_left
  · refine lv_iload hx hb (by decide +kernel : decode cJ1_indexOfChar_4cfef 22 = .ok (.iload 5, 2)) (lv_at hl 0 rfl) ?_
    refine W.iret hx hb hr (fun t ht _ => ⟨⟨_, (), rfl, ?_, trivial⟩, hS.F ht⟩) hS.2.2 (by decide +kernel : decode cJ1_indexOfChar_4cfef 24 = .ok (.ireturn, 1))
    show (nI 6).toInt = xIx bb
    unfold xIx
    rw [if_neg h0, if_neg h1, if_neg h2, if_neg h3, if_neg h4, if_neg h5, if_pos h6]
    decide
  refine lv_iinc (v := nI 7) (k := 0) (lv' := [(5, .int (nI 7)), (4, .int bb), (0, .ref aV), (3, .int 7)]) hx hb (by decide +kernel : decode cJ1_indexOfChar_4cfef 25 = .ok (.iinc 5 1, 3)) hl rfl (by decide) (by decide) rfl (fun ls hl => ?_)
  refine lv_goto (tgt := 7) hx hb (by decide +kernel : decode cJ1_indexOfChar_4cfef 28 = .ok (.goto (-21), 3)) (by decide) ?_
  refine lv_iload hx hb (by decide +kernel : decode cJ1_indexOfChar_4cfef 7 = .ok (.iload 5, 2)) (lv_at hl 0 rfl) ?_
  refine lv_iload_n hx hb (by decide +kernel : decode cJ1_indexOfChar_4cfef 9 = .ok (.iload_n 3, 1)) rfl (lv_at hl 3 rfl) ?_
  refine lv_icmp_ge (tgt := 31) hx hb (by decide +kernel : decode cJ1_indexOfChar_4cfef 10 = .ok (.if_icmp .ge 21, 3)) (by decide) (fun _ => ?_) (fun h => absurd (by decide) h)
  refine lv_iconst (v := -1) hx hb (by decide +kernel : decode cJ1_indexOfChar_4cfef 31 = .ok (.iconst (-1), 1)) (by decide) ?_
  refine W.iret hx hb hr (fun t ht _ => ⟨⟨-1, (), rfl, ?_, trivial⟩, hS.F ht⟩) hS.2.2 (by decide +kernel : decode cJ1_indexOfChar_4cfef 32 = .ok (.ireturn, 1))
  unfold xIx
  rw [if_neg h0, if_neg h1, if_neg h2, if_neg h3, if_neg h4, if_neg h5, if_neg h6]
  decide
set_option maxHeartbeats 4000000 in
theorem ex_lix (l : Launch) (b0 aK aV : Nat) (ch : Int32) (hch : 0 ≤ ch.toInt ∧ ch.toInt ≤ 255) : Met l yJ1_indexOf_4cfef (Cond.code yJ1_indexOf_4cfef cJ1_indexOf_4cfef 4 (some .int) :: en_ws) ({ frames := 1, cells := 0, slots := 0, locals := 40 }) (va_Pc [.ref aV, .int ch, .int 0, .int 7] (fun U => b0 ≤ U.heap.size ∧ en_X b0 aK aV U)) (va_Qi (S := Unit) (fun r _ => r.toInt = xIx ch.toInt8.toInt32) (fun _ _ => True) (fun q => b0 ≤ q)) 0 0 (fun q => b0 ≤ q) := by
  refine Met.ofW (cc := cJ1_indexOf_4cfef) (maxL := 4) (ret := some .int) (by decide) rfl ?_
  intro p e s m args below meth c s₁ B hml hv
  obtain ⟨rfl, hsz, hX⟩ := hv
  have hx := B.exec
  have hb := B.bytes
  have hr := B.returns
  have hts0 := atoms_spec (ws := Cond.code yJ1_indexOf_4cfef cJ1_indexOf_4cfef 4 (some .int) :: en_ws) B.pre
  have hts : ∀ w ∈ en_ws, w.before #[.ref aV, .int ch, .int 0, .int 7] s = true := fun w hw => hts0 w (List.mem_cons_of_mem _ hw)
  have hown : s.vm.findClass "java/lang/StringLatin1" = some m.cls := findClass_of_methodNamed B.named
  have hlocks := B.notSynchronized
  have hS : va_S (fun q => b0 ≤ q) s.heap s.heap [] := va_S.rf
  have hl := lv_entry ([.ref aV, .int ch, .int 0, .int 7]) (n := 4) (Nat.le_of_ble_eq_true rfl)
  rw [lg_entry_eq]
  generalize (lg_sl ([.ref aV, .int ch, .int 0, .int 7]) ++ List.replicate (4 - (lg_sl ([.ref aV, .int ch, .int 0, .int 7])).length) Slot.unset).toArray = ls at hl ⊢
  have hE := hX.2.2.1.1 0 (by decide)
  have hl : lv_has ls 4 [(0, .ref aV), (1, .int ch), (2, .int 0), (3, .int 7)] := hl
  refine lv_iload_n hx hb (by decide +kernel : decode cJ1_indexOf_4cfef 0 = .ok (.iload_n 1, 1)) rfl (lv_at hl 1 rfl) ?_
  have hB1 := callB_of (own := "java/lang/StringLatin1") (index := 88) (R := { frames := 1, cells := 0, slots := 0, locals := 40 }) (rm := { frames := 0, cells := 0, slots := 0, locals := 0 }) (mc := 0) (ms := 0) 1 hts (en_consG en_c_can) rfl rfl rfl (hts _ (en_sq 1 rfl)) (hts _ (en_sq 8 rfl)) (by decide +kernel) ⟨by decide, by decide⟩
  refine va_calli (a := #[.int ch]) (va_runS (As := [.int ch]) (rest := []) ⟨hx, hb, hml, hown, hts⟩ (ex_can l b0 aK aV ch hch) ⟨hB1, (hts _ (en_sq 21 rfl))⟩ ⟨fun a U g mk q => ⟨q.1, q.2.1, q.2.2.call⟩, fun U hU hW => ⟨rfl, by rw [hU]; exact hsz, hX.go (Nat.le_refl _) hS hU hW⟩⟩ rfl rfl hl.1 rfl (lv_room (Nat.le_of_ble_eq_true rfl)) (by decide +kernel : decode cJ1_indexOf_4cfef 1 = .ok (.invokestatic 88, 3)) ⟨by decide, by decide⟩) hS (fun q _ h => h) (fun q h => h) (fun r u t H1 locs1 ht hvm hpost hB hsz1 hfr hS => ?_)
  subst hpost
  have hT := hE.2.2.2
  refine lv_if_ne (tgt := 9) hx hb (by decide +kernel : decode cJ1_indexOf_4cfef 4 = .ok (.ifCond .ne 5, 3)) (by decide) (fun _ => ?_) (fun h => absurd h (by decide))
  · refine lv_iload_n hx hb (by decide +kernel : decode cJ1_indexOf_4cfef 9 = .ok (.iload_n 2, 1)) rfl (lv_at hl 2 rfl) ?_
    refine lv_iconst (v := 0) hx hb (by decide +kernel : decode cJ1_indexOf_4cfef 10 = .ok (.iconst 0, 1)) (by decide) ?_
    refine va_mmax hx hb (hml.trans hl.1.symm) hown (hts _ (en_sq 23 rfl)) (hts _ (en_sq 25 rfl)) (hts _ (en_sq 27 rfl)) (hts _ (en_codeW en_mt_30)) (by decide) (by decide) (Nat.zero_le _) (Nat.zero_le _) (by decide +kernel : decode cJ1_indexOf_4cfef 11 = .ok (.invokestatic 92, 3)) ?_
    rw [if_neg (by decide)]
    refine lv_istore_n (lv' := [(2, .int 0), (0, .ref aV), (1, .int ch), (3, .int 7)]) hx hb (by decide +kernel : decode cJ1_indexOf_4cfef 14 = .ok (.istore_n 2, 1)) rfl hl (by decide) rfl (fun ls hl => ?_)
    refine lv_iload_n hx hb (by decide +kernel : decode cJ1_indexOf_4cfef 15 = .ok (.iload_n 3, 1)) rfl (lv_at hl 3 rfl) ?_
    refine lv_aload_n hx hb (by decide +kernel : decode cJ1_indexOf_4cfef 16 = .ok (.aload_n 0, 1)) rfl (lv_at hl 1 rfl) ?_
    refine va_tlen hx hb hT hS (v := 7) rfl (by decide +kernel : decode cJ1_indexOf_4cfef 17 = .ok (.arraylength, 1)) ?_
    refine va_mmin hx hb (hml.trans hl.1.symm) hown (hts _ (en_sq 24 rfl)) (hts _ (en_sq 26 rfl)) (hts _ (en_sq 27 rfl)) (hts _ (en_codeW en_mt_16)) (by decide) (by decide) (Nat.zero_le _) (Nat.zero_le _) (by decide +kernel : decode cJ1_indexOf_4cfef 18 = .ok (.invokestatic 38, 3)) ?_
    rw [if_neg (by decide)]
    refine lv_istore_n (lv' := [(3, .int 7), (2, .int 0), (0, .ref aV), (1, .int ch)]) hx hb (by decide +kernel : decode cJ1_indexOf_4cfef 21 = .ok (.istore_n 3, 1)) rfl hl (by decide) rfl (fun ls hl => ?_)
    refine lv_iload_n hx hb (by decide +kernel : decode cJ1_indexOf_4cfef 22 = .ok (.iload_n 2, 1)) rfl (lv_at hl 1 rfl) ?_
    refine lv_iload_n hx hb (by decide +kernel : decode cJ1_indexOf_4cfef 23 = .ok (.iload_n 3, 1)) rfl (lv_at hl 0 rfl) ?_
    refine lv_icmp_lt (tgt := 29) hx hb (by decide +kernel : decode cJ1_indexOf_4cfef 24 = .ok (.if_icmp .lt 5, 3)) (by decide) (fun _ => ?_) (fun h => absurd (by decide) h)
    refine lv_aload_n hx hb (by decide +kernel : decode cJ1_indexOf_4cfef 29 = .ok (.aload_n 0, 1)) rfl (lv_at hl 2 rfl) ?_
    refine lv_iload_n hx hb (by decide +kernel : decode cJ1_indexOf_4cfef 30 = .ok (.iload_n 1, 1)) rfl (lv_at hl 3 rfl) ?_
    refine lv_iload_n hx hb (by decide +kernel : decode cJ1_indexOf_4cfef 31 = .ok (.iload_n 2, 1)) rfl (lv_at hl 1 rfl) ?_
    refine lv_iload_n hx hb (by decide +kernel : decode cJ1_indexOf_4cfef 32 = .ok (.iload_n 3, 1)) rfl (lv_at hl 0 rfl) ?_
    have hB33 := callB_of (own := "java/lang/StringLatin1") (index := 95) (R := { frames := 1, cells := 0, slots := 0, locals := 40 }) (rm := { frames := 0, cells := 0, slots := 0, locals := 0 }) (mc := 0) (ms := 0) 4 hts (en_consG en_c_chr) rfl rfl rfl (hts _ (en_sq 1 rfl)) (hts _ (en_sq 9 rfl)) (by decide +kernel) ⟨by decide, by decide⟩
    refine va_calli (a := #[.ref aV, .int ch, .int 0, .int 7]) (va_runS (As := [.ref aV, .int ch, .int 0, .int 7]) (rest := []) ⟨hx, hb, hml, hown, hts⟩ (ex_chr l b0 aK aV ch) ⟨hB33, (hts _ (en_sq 22 rfl))⟩ ⟨fun a U g mk q => ⟨q.1, q.2.1, q.2.2.call⟩, fun U hU hW => ⟨rfl, by rw [hU]; exact Nat.le_trans hsz hS.1, hX.go (Nat.le_refl _) hS hU hW⟩⟩ rfl rfl hl.1 rfl (lv_room (Nat.le_of_ble_eq_true rfl)) (by decide +kernel : decode cJ1_indexOf_4cfef 33 = .ok (.invokestatic 95, 3)) ⟨by decide, by decide⟩) hS (fun q _ h => h) (fun q h => h) (fun r u t H1 locs1 ht hvm hpost hB hsz1 hfr hS => ?_)
    exact W.iret hx hb hr (fun t ht _ => ⟨⟨r, (), rfl, hpost, trivial⟩, hS.F ht⟩) hS.2.2 (by decide +kernel : decode cJ1_indexOf_4cfef 36 = .ok (.ireturn, 1))
set_option maxHeartbeats 4000000 in
theorem ex_ix2 (l : Launch) (b0 aK aV : Nat) (ch : Int32) (hch : 0 ≤ ch.toInt ∧ ch.toInt ≤ 255) : Met l yJ0_indexOf_7cf53 (Cond.code yJ0_indexOf_7cf53 cJ0_indexOf_7cf53 3 (some .int) :: en_ws) ({ frames := 2, cells := 0, slots := 0, locals := 80 }) (va_Pc [.ref aK, .int ch, .int 0] (fun U => b0 ≤ U.heap.size ∧ en_X b0 aK aV U)) (va_Qi (S := Unit) (fun r _ => r.toInt = xIx ch.toInt8.toInt32) (fun _ _ => True) (fun q => b0 ≤ q)) 0 0 (fun q => b0 ≤ q) := by
  refine Met.ofW (cc := cJ0_indexOf_7cf53) (maxL := 3) (ret := some .int) (by decide) rfl ?_
  intro p e s m args below meth c s₁ B hml hv
  obtain ⟨rfl, hsz, hX⟩ := hv
  have hx := B.exec
  have hb := B.bytes
  have hr := B.returns
  have hts0 := atoms_spec (ws := Cond.code yJ0_indexOf_7cf53 cJ0_indexOf_7cf53 3 (some .int) :: en_ws) B.pre
  have hts : ∀ w ∈ en_ws, w.before #[.ref aK, .int ch, .int 0] s = true := fun w hw => hts0 w (List.mem_cons_of_mem _ hw)
  have hown : s.vm.findClass "java/lang/String" = some m.cls := findClass_of_methodNamed B.named
  have hlocks := B.notSynchronized
  have hS : va_S (fun q => b0 ≤ q) s.heap s.heap [] := va_S.rf
  have hl := lv_entry ([.ref aK, .int ch, .int 0]) (n := 3) (Nat.le_of_ble_eq_true rfl)
  rw [lg_entry_eq]
  generalize (lg_sl ([.ref aK, .int ch, .int 0]) ++ List.replicate (3 - (lg_sl ([.ref aK, .int ch, .int 0])).length) Slot.unset).toArray = ls at hl ⊢
  have hE := hX.2.2.1.1 0 (by decide)
  have hl : lv_has ls 3 [(0, .ref aK), (1, .int ch), (2, .int 0)] := hl
  refine lv_aload_n hx hb (by decide +kernel : decode cJ0_indexOf_7cf53 0 = .ok (.aload_n 0, 1)) rfl (lv_at hl 0 rfl) ?_
  have hB1 := callB_of (own := "java/lang/String") (index := 492) (R := { frames := 2, cells := 0, slots := 0, locals := 80 }) (rm := { frames := 0, cells := 0, slots := 0, locals := 0 }) (mc := 0) (ms := 0) 0 hts (en_consG en_c_lat) rfl rfl rfl (hts _ (en_sq 0 rfl)) (hts _ (en_sq 4 rfl)) (by decide +kernel) ⟨by decide, by decide⟩
  refine va_calli (a := #[Value.ref aK]) (va_runV (C := "java/lang/String") (As := []) (rest := []) ⟨hx, hb, hml, hown, hts⟩ (en_lat l b0 aK aV) ⟨hB1, (hts _ (en_sq 14 rfl)), (hts _ (en_sq 15 rfl))⟩ ⟨fun a U g mk q => ⟨q.1, q.2.1, q.2.2.call⟩, vk_recv (i := 0) hX.2.2.1 Nat.zero_lt_one hS, fun U hU hW => ⟨rfl, by rw [hU]; exact hsz, hX.go (Nat.le_refl _) hS hU hW⟩⟩ rfl rfl hl.1 rfl (lv_room (Nat.le_of_ble_eq_true rfl)) (by decide +kernel : decode cJ0_indexOf_7cf53 1 = .ok (.invokevirtual 492, 3)) ⟨by decide, by decide⟩) hS (fun q _ h => h) (fun q h => h) (fun r u t H1 locs1 ht hvm hpost hB hsz1 hfr hS => ?_)
  subst hpost
  refine lv_if_eq (tgt := 23) hx hb (by decide +kernel : decode cJ0_indexOf_7cf53 4 = .ok (.ifCond .eq 19, 3)) (by decide) (fun h => absurd h (by decide)) (fun _ => ?_)
  refine lv_aload_n hx hb (by decide +kernel : decode cJ0_indexOf_7cf53 7 = .ok (.aload_n 0, 1)) rfl (lv_at hl 0 rfl) ?_
  refine vk_getf hx hb hE.2.2.1 hS hown (hts _ (en_sq 29 rfl)) (fun x h => h) (by decide +kernel : decode cJ0_indexOf_7cf53 8 = .ok (.getfield 9, 3)) ?_
  refine lv_iload_n hx hb (by decide +kernel : decode cJ0_indexOf_7cf53 11 = .ok (.iload_n 1, 1)) rfl (lv_at hl 1 rfl) ?_
  refine lv_iload_n hx hb (by decide +kernel : decode cJ0_indexOf_7cf53 12 = .ok (.iload_n 2, 1)) rfl (lv_at hl 2 rfl) ?_
  refine lv_aload_n hx hb (by decide +kernel : decode cJ0_indexOf_7cf53 13 = .ok (.aload_n 0, 1)) rfl (lv_at hl 0 rfl) ?_
  have hB14 := callB_of (own := "java/lang/String") (index := 505) (R := { frames := 2, cells := 0, slots := 0, locals := 80 }) (rm := { frames := 1, cells := 0, slots := 0, locals := 20 }) (mc := 0) (ms := 0) 0 hts (en_consG en_c_len) rfl rfl rfl (hts _ (en_sq 0 rfl)) (hts _ (en_sq 5 rfl)) (by decide +kernel) ⟨by decide, by decide⟩
  refine va_calli (a := #[Value.ref aK]) (va_runV (C := "java/lang/String") (As := []) (rest := [.int 0, .int ch, .ref aV]) ⟨hx, hb, hml, hown, hts⟩ (en_slen l b0 aK aV) ⟨hB14, (hts _ (en_sq 16 rfl)), (hts _ (en_sq 17 rfl))⟩ ⟨fun a U g mk q => ⟨q.1, q.2.1, q.2.2.call⟩, vk_recv (i := 0) hX.2.2.1 Nat.zero_lt_one hS, fun U hU hW => ⟨rfl, by rw [hU]; exact Nat.le_trans hsz hS.1, hX.go (Nat.le_refl _) hS hU hW⟩⟩ rfl rfl hl.1 rfl (lv_room (Nat.le_of_ble_eq_true rfl)) (by decide +kernel : decode cJ0_indexOf_7cf53 14 = .ok (.invokevirtual 505, 3)) ⟨by decide, by decide⟩) hS (fun q _ h => h) (fun q h => h) (fun r u t H1 locs1 ht hvm hpost hB hsz1 hfr hS => ?_)
  subst hpost
  have hB17 := callB_of (own := "java/lang/String") (index := 637) (R := { frames := 2, cells := 0, slots := 0, locals := 80 }) (rm := { frames := 1, cells := 0, slots := 0, locals := 40 }) (mc := 0) (ms := 0) 4 hts (en_consG en_c_lix) rfl rfl rfl (hts _ (en_sq 1 rfl)) (hts _ (en_sq 7 rfl)) (by decide +kernel) ⟨by decide, by decide⟩
  refine va_calli (a := #[.ref aV, .int ch, .int 0, .int 7]) (va_runS (As := [.ref aV, .int ch, .int 0, .int 7]) (rest := []) ⟨hx, hb, hml, hown, hts⟩ (ex_lix l b0 aK aV ch hch) ⟨hB17, (hts _ (en_sq 20 rfl))⟩ ⟨fun a U g mk q => ⟨q.1, q.2.1, q.2.2.call⟩, fun U hU hW => ⟨rfl, by rw [hU]; exact Nat.le_trans hsz hS.1, hX.go (Nat.le_refl _) hS hU hW⟩⟩ rfl rfl hl.1 rfl (lv_room (Nat.le_of_ble_eq_true rfl)) (by decide +kernel : decode cJ0_indexOf_7cf53 17 = .ok (.invokestatic 637, 3)) ⟨by decide, by decide⟩) hS (fun q _ h => h) (fun q h => h) (fun r u t H1 locs1 ht hvm hpost hB hsz1 hfr hS => ?_)
  refine lv_goto (tgt := 36) hx hb (by decide +kernel : decode cJ0_indexOf_7cf53 20 = .ok (.goto 16, 3)) (by decide) ?_
  exact W.iret hx hb hr (fun t ht _ => ⟨⟨r, (), rfl, hpost, trivial⟩, hS.F ht⟩) hS.2.2 (by decide +kernel : decode cJ0_indexOf_7cf53 36 = .ok (.ireturn, 1))
set_option maxHeartbeats 4000000 in
theorem ex_ix1 (l : Launch) (b0 aK aV : Nat) (ch : Int32) (hch : 0 ≤ ch.toInt ∧ ch.toInt ≤ 255) : Met l yJ0_indexOf_0f7a4 (Cond.code yJ0_indexOf_0f7a4 cJ0_indexOf_0f7a4 2 (some .int) :: en_ws) ({ frames := 3, cells := 0, slots := 0, locals := 110 }) (va_Pc [.ref aK, .int ch] (fun U => b0 ≤ U.heap.size ∧ en_X b0 aK aV U)) (va_Qi (S := Unit) (fun r _ => r.toInt = xIx ch.toInt8.toInt32) (fun _ _ => True) (fun q => b0 ≤ q)) 0 0 (fun q => b0 ≤ q) := by
  refine Met.ofW (cc := cJ0_indexOf_0f7a4) (maxL := 2) (ret := some .int) (by decide) rfl ?_
  intro p e s m args below meth c s₁ B hml hv
  obtain ⟨rfl, hsz, hX⟩ := hv
  have hx := B.exec
  have hb := B.bytes
  have hr := B.returns
  have hts0 := atoms_spec (ws := Cond.code yJ0_indexOf_0f7a4 cJ0_indexOf_0f7a4 2 (some .int) :: en_ws) B.pre
  have hts : ∀ w ∈ en_ws, w.before #[.ref aK, .int ch] s = true := fun w hw => hts0 w (List.mem_cons_of_mem _ hw)
  have hown : s.vm.findClass "java/lang/String" = some m.cls := findClass_of_methodNamed B.named
  have hlocks := B.notSynchronized
  have hS : va_S (fun q => b0 ≤ q) s.heap s.heap [] := va_S.rf
  have hl := lv_entry ([.ref aK, .int ch]) (n := 2) (Nat.le_of_ble_eq_true rfl)
  rw [lg_entry_eq]
  generalize (lg_sl ([.ref aK, .int ch]) ++ List.replicate (2 - (lg_sl ([.ref aK, .int ch])).length) Slot.unset).toArray = ls at hl ⊢
  have hE := hX.2.2.1.1 0 (by decide)
  have hl : lv_has ls 2 [(0, .ref aK), (1, .int ch)] := hl
  refine lv_aload_n hx hb (by decide +kernel : decode cJ0_indexOf_0f7a4 0 = .ok (.aload_n 0, 1)) rfl (lv_at hl 0 rfl) ?_
  refine lv_iload_n hx hb (by decide +kernel : decode cJ0_indexOf_0f7a4 1 = .ok (.iload_n 1, 1)) rfl (lv_at hl 1 rfl) ?_
  refine lv_iconst (v := 0) hx hb (by decide +kernel : decode cJ0_indexOf_0f7a4 2 = .ok (.iconst 0, 1)) (by decide) ?_
  have hB3 := callB_of (own := "java/lang/String") (index := 633) (R := { frames := 3, cells := 0, slots := 0, locals := 110 }) (rm := { frames := 2, cells := 0, slots := 0, locals := 80 }) (mc := 0) (ms := 0) 2 hts (en_consG en_c_ix2) rfl rfl rfl (hts _ (en_sq 0 rfl)) (hts _ (en_sq 3 rfl)) (by decide +kernel) ⟨by decide, by decide⟩
  refine va_calli (a := #[Value.ref aK, .int ch, .int 0]) (va_runV (C := "java/lang/String") (As := [.int ch, .int 0]) (rest := []) ⟨hx, hb, hml, hown, hts⟩ (ex_ix2 l b0 aK aV ch hch) ⟨hB3, (hts _ (en_sq 12 rfl)), (hts _ (en_sq 13 rfl))⟩ ⟨fun a U g mk q => ⟨q.1, q.2.1, q.2.2.call⟩, vk_recv (i := 0) hX.2.2.1 Nat.zero_lt_one hS, fun U hU hW => ⟨rfl, by rw [hU]; exact hsz, hX.go (Nat.le_refl _) hS hU hW⟩⟩ rfl rfl hl.1 rfl (lv_room (Nat.le_of_ble_eq_true rfl)) (by decide +kernel : decode cJ0_indexOf_0f7a4 3 = .ok (.invokevirtual 633, 3)) ⟨by decide, by decide⟩) hS (fun q _ h => h) (fun q h => h) (fun r u t H1 locs1 ht hvm hpost hB hsz1 hfr hS => ?_)
  exact W.iret hx hb hr (fun t ht _ => ⟨⟨r, (), rfl, hpost, trivial⟩, hS.F ht⟩) hS.2.2 (by decide +kernel : decode cJ0_indexOf_0f7a4 6 = .ok (.ireturn, 1))
theorem px_s30 {p : Program} {l : Launch} {e : Env} {R : Room} {s : State} {m : MethodId} {args : Array Value} {below : List Frame} {meth : Method} {c : Code} {Q : State → Prop} {cc : ByteArray} {D : va_G} {tys : List (ClassId × FieldType)} {aK aV b0 nL : Nat} {ad : Nat → Nat} {pc fr : Nat} {L : pL} {σ : pS} (C : ev_cx p s m args meth c cc nL 0 D tys aK aV b0) (hR : R = px_rm fr) (d1 : decode cc pc = .ok (.ldc 27, 2)) (d2 : decode cc (pc + 2) = .ok (.iload_n 3, 1)) (d3 : decode cc (pc + 3) = .ok (.i2c, 1)) (d4 : decode cc (pc + 4) = .ok (.invokevirtual 119, 3)) {x : Int} (hL : L[3]? = some (some (.inl x))) (hfr : 4 ≤ fr) (hx : 0 ≤ x ∧ x ≤ 255) (k : px_go p l e R s m args below meth c Q D tys b0 nL ad (pc + 7) L [.inl (pIdx x)] σ) : px_go p l e R s m args below meth c Q D tys b0 nL ad pc L [] σ := by
  intro H locs ls stk ws h
  obtain ⟨h0, hl, hs, hw, hσ, hP, hD, hS⟩ := h
  have hy := pe_0 hs
  subst hy
  obtain ⟨x0, h3, hx0⟩ := hl 3 _ hL
  obtain ⟨u, rfl, hu⟩ := pe_iE hx0
  obtain ⟨hi, hch⟩ := xIx_ok hu hx.1 hx.2
  have hX := C.2.2.2.2.2.2.2.1
  have hts := C.2.2.2.2.1
  have hb0 := C.2.2.2.2.2.2.1
  refine va_ldcS C.1 C.2.1 C.2.2.2.1 hX.2.1 d1 ?_
  refine lv_iload_n C.1 C.2.1 d2 rfl h3 ?_
  refine lv_i2c C.1 C.2.1 d3 rfl ?_
  have hB := callB_of (own := en_nm 0) (index := 119) (R := R) (rm := { frames := 3, cells := 0, slots := 0, locals := 110 }) (mc := 0) (ms := 0) 1 hts (en_consG en_c_ix1) rfl rfl rfl (hts _ (en_sq 0 rfl)) (hts _ (en_sq 2 rfl)) (by decide +kernel) ⟨by rw [hR]; exact hfr, by rw [hR]; show 131 ≤ 100 * fr; omega⟩
  refine va_calli (a := #[Value.ref aK, .int _]) (va_runV (C := "java/lang/String") (As := [.int _]) (rest := []) ⟨C.1, C.2.1, C.2.2.1, C.2.2.2.1, hts⟩ (ex_ix1 l H.size aK aV _ hch) ⟨hB, (hts _ (en_sq 10 rfl)), (hts _ (en_sq 11 rfl))⟩ ⟨fun a U g mk q => ⟨q.1, q.2.1, q.2.2.call⟩, vk_recv (i := 0) hX.2.2.1 Nat.zero_lt_one hS, fun U hU hW => ⟨rfl, by rw [hU]; exact Nat.le_refl _, hX.go (Nat.le_trans hb0 hS.1) hS hU hW⟩⟩ rfl rfl h0.1 rfl (lv_room (Nat.le_of_ble_eq_true rfl)) d4 ⟨Nat.zero_le _, Nat.zero_le _⟩) hS (fun q h1 h2 => absurd h2 (by omega)) (fun q (h : H.size ≤ q) => by show b0 ≤ q; have := hS.1; omega) (fun r u t H1 locs1 ht hvm hpost hB hsz1 hfr hS1 => ?_)
  exact k H1 locs1 ls [.int r] ws ⟨h0, hl, ⟨pe_i (hpost.trans hi), trivial⟩, hw, hσ, hP.kept (fun k q hk => hfr q.1 ((hP k q hk).lt) (by show ¬ H.size ≤ q.1; have := (hP k q hk).lt; omega)), hD, hS1⟩
section PX3
variable {p : Program} {l : Launch} {e : Env} {R : Room} {s : State} {m : MethodId} {args : Array Value} {below : List Frame} {meth : Method} {c : Code} {Q : State → Prop} {cc : ByteArray} {D : va_G} {tys : List (ClassId × FieldType)} {aK aV b0 nL o : Nat} {ad : Nat → Nat} {ret : Option FieldType} {rv : Int} {rσ : pS}
variable {pc len : Nat} {L : pL} {S : List pV} {σ : pS} {op : Instr} {n a b fr : Nat} {z : Int} {ps : List (Int × Nat)} {k : Nat → pL → List pV → pS → Prop}
theorem px_s27 (C : ev_cx p s m args meth c cc nL o D tys aK aV b0) (hret : meth.sig.returnType = ret) (hQ : Q = MQ below (px_qc D tys b0 ad rv rσ ret.isSome) args s 0 0 (fun q => b0 ≤ q)) (hd : decode cc pc = .ok (op, len)) (hc : px_c27 ret op len a = true) {v : Int} (hz : a = 0 ∨ (0 ≤ v ∧ v ≤ 1)) (hv : v = rv) (hσr : σ = rσ) : px_go p l e R s m args below meth c Q D tys b0 nL ad pc L [.inl v] σ := by
  intro H locs ls stk ws h
  obtain ⟨h0, hl, hs, hw, hσ, hP, hD, hS⟩ := h
  obtain ⟨x, ys, rfl, hx, hs1⟩ := pe_s hs
  obtain ⟨u, rfl, hu⟩ := pe_iE hx
  have hy := pe_0 hs1
  subst hy
  subst hQ
  have hlocks := C.2.2.2.2.2.2.2.2
  unfold px_c27 at hc
  split at hc
  · simp only [Bool.and_eq_true, beq_iff_eq] at hc
    obtain ⟨rfl, hc⟩ := hc
    split at hc
    · have hq : ∀ t : State, t.heap = H → s.WarmedH t.vm → px_qc D tys b0 ad rv rσ true args s (.returned (some (.int u))) t := fun t ht _ => by
        exact ⟨⟨u, ws, rfl, ⟨hw, hσ.trans hσr, hu.trans hv⟩, by show va_P D vwCl ws t.heap ∧ va_D (fun q => b0 ≤ q) ws; rw [ht]; exact ⟨hP, hD⟩⟩, hS.F ht⟩
      exact W.iret C.1 C.2.1 hret hq hS.2.2 hd
    · have hq : ∀ t : State, t.heap = H → s.WarmedH t.vm → px_qc D tys b0 ad rv rσ true args s (.returned (some (.int u))) t := fun t ht _ => by
        exact ⟨⟨u, ws, rfl, ⟨hw, hσ.trans hσr, hu.trans hv⟩, by show va_P D vwCl ws t.heap ∧ va_D (fun q => b0 ≤ q) ws; rw [ht]; exact ⟨hP, hD⟩⟩, hS.F ht⟩
      simp only [beq_iff_eq] at hc
      exact W.zret C.1 C.2.1 hret (en_nar_z (by omega) (by omega)) hq hS.2.2 hd
    · cases hc
  · cases hc
theorem px_s28 (C : ev_cx p s m args meth c cc nL o D tys aK aV b0) (hret : meth.sig.returnType = ret) (hQ : Q = MQ below (px_qc D tys b0 ad rv rσ ret.isSome) args s 0 0 (fun q => b0 ≤ q)) (hd : decode cc pc = .ok (op, len)) (hc : px_c28 ret op len = true) (hσr : σ = rσ) : px_go p l e R s m args below meth c Q D tys b0 nL ad pc L [] σ := by
  intro H locs ls stk ws h
  obtain ⟨h0, hl, hs, hw, hσ, hP, hD, hS⟩ := h
  have hy := pe_0 hs
  subst hy
  subst hQ
  have hlocks := C.2.2.2.2.2.2.2.2
  unfold px_c28 at hc
  split at hc
  · simp only [Bool.and_eq_true, beq_iff_eq, Option.isNone_iff_eq_none] at hc
    obtain ⟨rfl, rfl⟩ := hc
    refine W.vret C.1 C.2.1 hret (fun t ht _ => ?_) hS.2.2 hd
    exact ⟨⟨ws, rfl, ⟨hw, hσ.trans hσr⟩, by show va_P D vwCl ws t.heap ∧ va_D (fun q => b0 ≤ q) ws; rw [ht]; exact ⟨hP, hD⟩⟩, hS.F ht⟩
  · cases hc
set_option maxHeartbeats 4000000 in
theorem px_one (C : ev_cx p s m args meth c cc nL o D tys aK aV b0) (hR : R = px_rm fr) (hret : meth.sig.returnType = ret) (hQ : Q = MQ below (px_qc D tys b0 ad rv rσ ret.isSome) args s 0 0 (fun q => b0 ≤ q)) (hd : decode cc pc = .ok (op, len)) (hc : px_c o nL ret op len pc n a b z ps = true) (hw : px_w l fr rv rσ (px_go p l e R s m args below meth c Q D tys b0 nL ad) n a b z ps (pc + len) L S σ k) (hk : ∀ (L : pL) (S : List pV) (σ : pS), k (px_nx n b pc len) L S σ → px_go p l e R s m args below meth c Q D tys b0 nL ad (px_nx n b pc len) L S σ) : px_go p l e R s m args below meth c Q D tys b0 nL ad pc L S σ := by
  match n, hc, hw, hk with
  | 0, hc, hw, hk => exact px_s0 C hd hc (hk _ _ _ hw)
  | 1, hc, hw, hk =>
    have hw : px_w1 _ _ _ _ _ _  := hw
    unfold px_w1 at hw
    split at hw
    · rename_i v hv
      exact px_s1 C hd hc hv (hk _ _ _ hw)
    · exact hw.elim
  | 2, hc, hw, hk =>
    have hw : px_w2 _ _ _ _ _ _  := hw
    unfold px_w2 at hw
    split at hw
    · rename_i v hv
      exact px_s2 C hd hc hv (hk _ _ _ hw)
    · exact hw.elim
  | 3, hc, hw, hk =>
    have hw : px_w3 _ _ _ _ _ _  := hw
    unfold px_w3 at hw
    split at hw
    · exact px_s3 C hd hc (hk _ _ _ hw)
    · exact hw.elim
  | 4, hc, hw, hk =>
    have hw : px_w4 _ _ _ _ _ _  := hw
    unfold px_w4 at hw
    split at hw
    · exact px_s4 C hd hc (hk _ _ _ hw)
    · exact hw.elim
  | 5, hc, hw, hk =>
    have hw : px_w5 _ _ _ _ _ _ _  := hw
    unfold px_w5 at hw
    split at hw
    · rename_i v hv
      exact px_s5 C hd hc hv (hk _ _ _ hw)
    · exact hw.elim
  | 6, hc, hw, hk =>
    have hw : px_w6 _ _ _ _ _ _  := hw
    unfold px_w6 at hw
    split at hw
    · exact px_s6 C hd hc (hk _ _ _ hw)
    · exact hw.elim
  | 7, hc, hw, hk =>
    have hw : px_w7 _ _ _ _ _ _  := hw
    unfold px_w7 at hw
    split at hw
    · exact px_s7 C hd hc hw.1 (hk _ _ _ (hw.2 _ rfl))
    · exact hw.elim
  | 8, hc, hw, hk =>
    have hw : px_w8 _ _ _ _ _ _  := hw
    unfold px_w8 at hw
    split at hw
    · exact px_s8 C hd hc (hk _ _ _ hw)
    · exact hw.elim
  | 9, hc, hw, hk =>
    have hw : px_w9 _ _ _ _ _  := hw
    unfold px_w9 at hw
    split at hw
    · exact px_s9 C hd hc (hk _ _ _ hw)
    · exact hw.elim
  | 10, hc, hw, hk =>
    have hw : px_w10 _ _ _ _ _  := hw
    unfold px_w10 at hw
    split at hw
    · exact px_s10 C hd hc (hk _ _ _ hw)
    · exact hw.elim
  | 11, hc, hw, hk =>
    have hw : px_w11 _ _ _ _ _  := hw
    unfold px_w11 at hw
    split at hw
    · exact px_s11 C hd hc (hk _ _ _ hw)
    · exact hw.elim
  | 12, hc, hw, hk => exact px_s12 C hd hc (hk _ _ _ hw)
  | 13, hc, hw, hk =>
    have hw : px_w13 _ _ _ _ _ _ _ _  := hw
    unfold px_w13 at hw
    split at hw
    · exact px_s13 C hd hc hw.1 (fun h => hk _ _ _ (hw.2 h))
    · exact hw.elim
  | 14, hc, hw, hk =>
    have hw : px_w14 _ _ _ _ _ _ _ _  := hw
    unfold px_w14 at hw
    split at hw
    · exact px_s14 C hd hc hw.1 (fun h => hk _ _ _ (hw.2 h))
    · exact hw.elim
  | 15, hc, hw, hk =>
    have hw : px_w15 _ _ _ _ _ _  := hw
    unfold px_w15 at hw
    split at hw
    · exact px_s15 C hd hc (px_sw_tg hw)
    · exact hw.elim
  | 16, hc, hw, hk =>
    have hw : px_w16 _ _ _ _ _ _ _  := hw
    unfold px_w16 at hw
    split at hw
    · obtain ⟨hj, hv9⟩ := px_ifE hw
      obtain rfl := of_decide_eq_true hj
      exact px_s16 C hd hc (hk _ _ _ hv9)
    · exact hw.elim
  | 17, hc, hw, hk =>
    have hw : px_w17 _ _ _ _ _ _ _  := hw
    unfold px_w17 at hw
    split at hw
    · obtain ⟨hj, hv9⟩ := px_ifE hw
      obtain rfl := of_decide_eq_true hj
      exact px_s17 C hd hc (hk _ _ _ hv9)
    · exact hw.elim
  | 18, hc, hw, hk =>
    have hw : px_w18 _ _ _ _ _ _ _ _  := hw
    unfold px_w18 at hw
    split at hw
    · obtain ⟨hj, hv9⟩ := px_ifE hw
      obtain rfl := of_decide_eq_true hj
      split at hv9
      · exact px_s18 C hd hc (Or.inl rfl) (hk _ _ _ hv9)
      · exact px_s18 C hd hc (Or.inr hv9.1) (hk _ _ _ hv9.2)
    · exact hw.elim
  | 19, hc, hw, hk =>
    have hw : px_w19 _ _ _ _ _ _ _  := hw
    unfold px_w19 at hw
    split at hw
    · obtain ⟨hj, hi, hv9⟩ := px_ifE hw
      obtain rfl := of_decide_eq_true hj
      exact px_s19 C hd hc hi (hk _ _ _ hv9)
    · exact hw.elim
  | 20, hc, hw, hk =>
    have hw : px_w20 _ _ _ _ _ _ _ _  := hw
    unfold px_w20 at hw
    split at hw
    · obtain ⟨hj, hi, hv9⟩ := px_ifE hw
      obtain rfl := of_decide_eq_true hj
      split at hv9
      · exact px_s20 C hd hc hi (Or.inl rfl) (hk _ _ _ hv9)
      · exact px_s20 C hd hc hi (Or.inr (Or.inl ⟨rfl, hv9.1⟩)) (hk _ _ _ hv9.2)
      · rename_i h8 h9
        exact px_s20 C hd hc hi (Or.inr (Or.inr ⟨fun h => h9 h, hv9.1⟩)) (hk _ _ _ hv9.2)
    · exact hw.elim
  | 21, hc, hw, hk =>
    have hw : px_w21 _ _ _ _ _ _ _  := hw
    unfold px_w21 at hw
    split at hw
    · obtain ⟨hj, hv9⟩ := px_ifE hw
      obtain rfl := of_decide_eq_true hj
      exact px_s21 C hd hc (hk _ _ _ hv9)
    · exact hw.elim
  | 22, hc, hw, hk =>
    have hw : px_w22 _ _ _ _ _ _ _ _  := hw
    unfold px_w22 at hw
    split at hw
    · obtain ⟨hj, hi, hv9⟩ := px_ifE hw
      obtain rfl := of_decide_eq_true hj
      exact px_s22 C hd hc hi (fun q h1 h2 => hk _ _ _ (hv9 q h1 h2))
    · exact hw.elim
  | 23, hc, hw, hk =>
    have hw : px_w23 _ _ _ _ _ _ _ _ _ _ _  := hw
    unfold px_w23 at hw
    split at hw
    · rename_i j S' hS'
      obtain ⟨hj, f', v, σ', h4, h5, h6⟩ := px_ifE hw
      obtain ⟨h1, h2, h3⟩ := of_decide_eq_true hj
      have hSS : S = S.take b ++ .inr j :: S' := by rw [← hS']; exact (List.take_append_drop b S).symm
      rw [hSS]
      exact px_s23 C hR hd hc h1 h2 h3 h4 h5 (hk _ _ _ h6)
    · exact hw.elim
  | 24, hc, hw, hk =>
    have hw : px_w24 _ _ _ _ _ _ _ _ _ _  := hw
    unfold px_w24 at hw
    obtain ⟨hj, f', v, σ', h4, h5, h6⟩ := px_ifE hw
    obtain ⟨h2, h3⟩ := of_decide_eq_true hj
    have hSS : S = S.take b ++ S.drop b := (List.take_append_drop b S).symm
    rw [hSS]
    exact px_s24 C hR hd hc h2 h3 h4 h5 (hk _ _ _ h6)
  | 25, hc, hw, hk =>
    have hw : px_w25 _ _ _ _ _ _ _  := hw
    unfold px_w25 at hw
    split at hw
    · obtain ⟨hj, hv9⟩ := px_ifE hw
      obtain ⟨hf1, h8⟩ := of_decide_eq_true hj
      exact px_s25 C hR hd hc hf1 h8 (hk _ _ _ hv9)
    · exact hw.elim
  | 26, hc, hw, hk =>
    have hw : px_w26 _ _ _ _ _ _ _ _ _  := hw
    unfold px_w26 at hw
    split at hw
    · obtain ⟨hj, hv9⟩ := px_ifE hw
      obtain ⟨⟨rfl, rfl, rfl, rfl, rfl⟩, hf1, h8⟩ := of_decide_eq_true hj
      exact px_s26 C hR hd hc hf1 h8 (hk _ _ _ hv9)
    · exact hw.elim
  | 27, hc, hw, hk =>
    have hw : px_w27 _ _ _ _ _  := hw
    unfold px_w27 at hw
    split at hw
    · split at hw
      · exact px_s27 C hret hQ hd hc (Or.inl rfl) hw.1 hw.2
      · exact px_s27 C hret hQ hd hc (Or.inr hw.1) hw.2.1 hw.2.2
    · exact hw.elim
  | 28, hc, hw, hk =>
    have hw : px_w28 _ _ _  := hw
    unfold px_w28 at hw
    split at hw
    · exact px_s28 C hret hQ hd hc hw
    · exact hw.elim
  | n + 29, hc, _, _ =>
    have h9 : px_c o nL ret op len pc (n + 29) a b z ps = false := rfl
    rw [h9] at hc
    cases hc
theorem px_wp_ok (C : ev_cx p s m args meth c cc nL o D tys aK aV b0) (hR : R = px_rm fr) (hret : meth.sig.returnType = ret) (hQ : Q = MQ below (px_qc D tys b0 ad rv rσ ret.isSome) args s 0 0 (fun q => b0 ≤ q)) : ∀ (is : List (pI × Nat)) (pc : Nat) (L : pL) (S : List pV) (σ : pS), px_ckl o nL ret cc is pc = true → px_wp l fr rv rσ (px_go p l e R s m args below meth c Q D tys b0 nL ad) is pc L S σ → px_go p l e R s m args below meth c Q D tys b0 nL ad pc L S σ
  | [], _, _, _, _, _, hw => hw
  | ((n, a, b, z, ps), len) :: is, pc, L, S, σ, hck, hw => by
    unfold px_ckl at hck
    unfold px_wp at hw
    dsimp only at hck hw
    split at hck
    · rename_i hn
      have hn := of_decide_eq_true hn
      subst hn
      simp only [Bool.and_eq_true, beq_iff_eq] at hck
      obtain ⟨rfl, hck⟩ := hck
      exact px_s29 (px_wp_ok C hR hret hQ is pc _ S σ hck hw)
    · split at hck
      · rename_i hn
        have hn := of_decide_eq_true hn
        subst hn
        rw [Bool.and_eq_true] at hck
        have hrec := fun (S : List pV) h => px_wp_ok C hR hret hQ is (pc + len) L S σ hck.2 h
        obtain ⟨ho, hlen, e1, e2, e3, e4⟩ := px_c30E hck.1
        subst ho
        subst hlen
        have hw : px_w30 _ _ _ _ _ _ := hw
        unfold px_w30 at hw
        split at hw
        · split at hw
          · rename_i x hx
            exact px_s30 C hR e1 e2 e3 e4 hx hw.1 hw.2.1 (hrec _ hw.2.2)
          · exact hw.elim
        · exact hw.elim
      split at hck
      · rename_i op len' hd
        simp only [Bool.and_eq_true, beq_iff_eq] at hck
        obtain ⟨rfl, h1, h2⟩ := hck
        exact px_one C hR hret hQ hd h1 hw (fun L S σ h => px_wp_ok C hR hret hQ is _ L S σ h2 h)
      · cases hck
end PX3
theorem px_L0 {N : Nat} {ad : Nat → Nat} {av : List pV} {as : List Value} {ml : Nat} (h : en_vs N ad (av.map pe) as) (hm : av.length ≤ ml) : (((lg_sl as ++ List.replicate (ml - (lg_sl as).length) Slot.unset).toArray).size = ml ∧ lv_wf ((lg_sl as ++ List.replicate (ml - (lg_sl as).length) Slot.unset).toArray) ∧ (av.map some ++ List.replicate (ml - av.length) none : pL).length = ml) ∧ ∀ (i : Nat) (a : pV), (av.map some ++ List.replicate (ml - av.length) none : pL)[i]? = some (some a) → ∃ x : Value, ((lg_sl as ++ List.replicate (ml - (lg_sl as).length) Slot.unset).toArray)[i]? = some (.val x) ∧ en_v N ad (pe a) x := by
  have hlen := en_vs_len h
  rw [List.length_map] at hlen
  have hl := lv_entry as (n := ml) (by rw [en_vs_sl h, ← hlen]; exact hm)
  refine ⟨⟨hl.1, hl.2.1, by rw [List.length_append, List.length_map, List.length_replicate]; omega⟩, fun i a hi => ?_⟩
  have hia : (av.map pe)[i]? = some (pe a) := by
    by_cases hb : i < (av.map (some : pV → Option pV)).length
    · rw [List.getElem?_append_left hb, List.getElem?_map] at hi
      rw [List.getElem?_map]
      cases hz : av[i]? with
      | none => rw [hz] at hi; cases hi
      | some b => rw [hz] at hi; cases hi; rfl
    · rw [List.getElem?_append_right (by omega)] at hi
      have := List.mem_of_getElem? hi
      cases (List.mem_replicate.mp this).2
  obtain ⟨x, h1, h2⟩ := en_vs_args 0 h hia
  rw [Nat.zero_add] at h1
  exact ⟨x, hl.2.2 _ h1, h2⟩
def px_cm (mi n nL : Nat) : Bool := match en_ms[mi]? with
  | some r => (match en_mo[mi]? with
    | some _ => Jvm.plainName r.1.cls && (decide (n ≤ r.2.2.1) && r.2.2.1 == nL)
    | none => false)
  | none => false
/-- a method's exact contract out of a walk of its body -/
theorem Con_mk {l : Launch} {fr mi : Nat} {as : List pV} {σ : pS} {v : Int} {σ' : pS} (n nL : Nat) (hn : as.length = n) (hck : px_cm mi n nL = true) (body : ∀ G, px_R l fr mi v σ' G → G 0 (as.map some ++ List.replicate (nL - n) none) [] σ) : Con l fr mi as σ v σ' := by
  subst hn
  intro r hr D tys aK aV b0 ad w0 vs hargs hw hσ
  unfold px_cm at hck
  rw [hr] at hck
  dsimp only at hck
  split at hck
  · rename_i o ho
    simp only [Bool.and_eq_true, decide_eq_true_eq, beq_iff_eq] at hck
    obtain ⟨hp, hm, rfl⟩ := hck
    refine Met.ofW (cc := r.2.1) (maxL := r.2.2.1) (ret := r.2.2.2) hp rfl ?_
    intro p e s m args below meth c s₁ B hml hv
    obtain ⟨rfl, hsz, hP, hD, hKs, hX⟩ := hv
    have hts := atoms_spec (ws := Cond.code r.1 r.2.1 r.2.2.1 r.2.2.2 :: en_ws) B.pre
    have hown : s.vm.findClass (en_nm o) = some m.cls := by rw [en_mo_ok hr ho]; exact findClass_of_methodNamed B.named
    have C : ev_cx p s m vs.toArray meth c r.2.1 r.2.2.1 o D tys aK aV b0 := ⟨B.exec, B.bytes, hml, hown, fun w hw => hts w (List.mem_cons_of_mem _ hw), hKs, hsz, hX, B.notSynchronized⟩
    rw [lg_entry_eq]
    obtain ⟨h1, h2⟩ := px_L0 hargs hm
    refine body (px_go p l e (px_rm fr) s m vs.toArray below meth c (MQ below (px_qc D tys b0 ad v σ' r.2.2.2.isSome) vs.toArray s 0 0 (fun q => b0 ≤ q)) D tys b0 r.2.2.1 ad) (fun is pc L S σ hck hwp => ?_) s.heap [] _ [] w0 ⟨h1, h2, trivial, hw, hσ, hP, hD, va_S.rf⟩
    unfold px_ckm at hck
    rw [hr, ho] at hck
    exact px_wp_ok C rfl B.returns rfl is pc L S σ hck hwp
  · cases hck
theorem px_gd {α : Type} {P : Prop} [Decidable P] {x : Option α} {r : α} (h : (if P then x else none) = some r) : P ∧ x = some r := by
  by_cases hp : P
  · rw [if_pos hp] at h
    exact ⟨hp, h⟩
  · rw [if_neg hp] at h
    cases h
theorem px_ite {α : Type} {P : Prop} [Decidable P] {x y : Option α} {r : α} (h : (if P then x else y) = some r) : (P ∧ x = some r) ∨ (¬ P ∧ y = some r) := by
  by_cases hp : P
  · rw [if_pos hp] at h
    exact Or.inl ⟨hp, h⟩
  · rw [if_neg hp] at h
    exact Or.inr ⟨hp, h⟩
theorem px_bind {α β : Type} {x : Option α} {f : α → Option β} {r : β} (h : x.bind f = some r) : ∃ y, x = some y ∧ f y = some r := by
  cases x with
  | none => cases h
  | some y => exact ⟨y, rfl, h⟩
