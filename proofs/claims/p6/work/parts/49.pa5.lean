section PX3
variable {p : Program} {l : Launch} {e : Env} {R : Room} {s : State} {m : MethodId} {args : Array Value} {below : List Frame} {meth : Method} {c : Code} {Q : State → Prop} {cc : ByteArray} {D : va_G} {tys : List (ClassId × FieldType)} {aK aV b0 nL o : Nat} {ad : Nat → Nat} {ret : Option FieldType} {rv : Int} {rσ : pS}
variable {pc len : Nat} {L : pL} {S : List pV} {σ : pS} {op : Instr} {n a b fr : Nat} {z : Int} {ps : List (Int × Nat)} {k : Nat → pL → List pV → pS → Prop}
theorem px_s27 (C : ev_cx p s m args meth c cc nL o D tys aK aV b0) (hret : meth.sig.returnType = ret) (hQ : Q = MQ below (px_qc D tys b0 ad rv rσ ret.isSome) args s 0 0 (fun q => b0 ≤ q)) (hd : decode cc pc = .ok (op, len)) (hc : px_c27 ret op len a = true) {v : Int} (hz : a = 0 ∨ (0 ≤ v ∧ v ≤ 1)) (hv : v = rv) (hσr : σ = rσ) : px_go p l e R s m args below meth c Q D tys b0 nL ad pc L [.inl v] σ := by
  intro H locs ls stk ws h
  obtain ⟨h0, hl, hs, hw, hσ, hP, hD, hS⟩ := h
  obtain ⟨x, ys, rfl, hx, hs1⟩ := pe_s hs
  obtain ⟨u, rfl, hu⟩ := pe_iE hx
  have hy := pe_0 hs1
  subst hy
  subst hQ
  have hlocks := C.2.2.2.2.2.2.2.2
  unfold px_c27 at hc
  split at hc
  · simp only [Bool.and_eq_true, beq_iff_eq] at hc
    obtain ⟨rfl, hc⟩ := hc
    split at hc
    · have hq : ∀ t : State, t.heap = H → s.WarmedH t.vm → px_qc D tys b0 ad rv rσ true args s (.returned (some (.int u))) t := fun t ht _ => by
        exact ⟨⟨u, ws, rfl, ⟨hw, hσ.trans hσr, hu.trans hv⟩, by show va_P D vwCl ws t.heap ∧ va_D (fun q => b0 ≤ q) ws; rw [ht]; exact ⟨hP, hD⟩⟩, hS.F ht⟩
      exact W.iret C.1 C.2.1 hret hq hS.2.2 hd
    · have hq : ∀ t : State, t.heap = H → s.WarmedH t.vm → px_qc D tys b0 ad rv rσ true args s (.returned (some (.int u))) t := fun t ht _ => by
        exact ⟨⟨u, ws, rfl, ⟨hw, hσ.trans hσr, hu.trans hv⟩, by show va_P D vwCl ws t.heap ∧ va_D (fun q => b0 ≤ q) ws; rw [ht]; exact ⟨hP, hD⟩⟩, hS.F ht⟩
      simp only [beq_iff_eq] at hc
      exact W.zret C.1 C.2.1 hret (en_nar_z (by omega) (by omega)) hq hS.2.2 hd
    · cases hc
  · cases hc
theorem px_s28 (C : ev_cx p s m args meth c cc nL o D tys aK aV b0) (hret : meth.sig.returnType = ret) (hQ : Q = MQ below (px_qc D tys b0 ad rv rσ ret.isSome) args s 0 0 (fun q => b0 ≤ q)) (hd : decode cc pc = .ok (op, len)) (hc : px_c28 ret op len = true) (hσr : σ = rσ) : px_go p l e R s m args below meth c Q D tys b0 nL ad pc L [] σ := by
  intro H locs ls stk ws h
  obtain ⟨h0, hl, hs, hw, hσ, hP, hD, hS⟩ := h
  have hy := pe_0 hs
  subst hy
  subst hQ
  have hlocks := C.2.2.2.2.2.2.2.2
  unfold px_c28 at hc
  split at hc
  · simp only [Bool.and_eq_true, beq_iff_eq, Option.isNone_iff_eq_none] at hc
    obtain ⟨rfl, rfl⟩ := hc
    refine W.vret C.1 C.2.1 hret (fun t ht _ => ?_) hS.2.2 hd
    exact ⟨⟨ws, rfl, ⟨hw, hσ.trans hσr⟩, by show va_P D vwCl ws t.heap ∧ va_D (fun q => b0 ≤ q) ws; rw [ht]; exact ⟨hP, hD⟩⟩, hS.F ht⟩
  · cases hc
set_option maxHeartbeats 4000000 in
theorem px_one (C : ev_cx p s m args meth c cc nL o D tys aK aV b0) (hR : R = px_rm fr) (hret : meth.sig.returnType = ret) (hQ : Q = MQ below (px_qc D tys b0 ad rv rσ ret.isSome) args s 0 0 (fun q => b0 ≤ q)) (hd : decode cc pc = .ok (op, len)) (hc : px_c o nL ret op len pc n a b z ps = true) (hw : px_w l fr rv rσ (px_go p l e R s m args below meth c Q D tys b0 nL ad) n a b z ps (pc + len) L S σ k) (hk : ∀ (L : pL) (S : List pV) (σ : pS), k (px_nx n b pc len) L S σ → px_go p l e R s m args below meth c Q D tys b0 nL ad (px_nx n b pc len) L S σ) : px_go p l e R s m args below meth c Q D tys b0 nL ad pc L S σ := by
  match n, hc, hw, hk with
  | 0, hc, hw, hk => exact px_s0 C hd hc (hk _ _ _ hw)
  | 1, hc, hw, hk =>
    have hw : px_w1 _ _ _ _ _ _  := hw
    unfold px_w1 at hw
    split at hw
    · rename_i v hv
      exact px_s1 C hd hc hv (hk _ _ _ hw)
    · exact hw.elim
  | 2, hc, hw, hk =>
    have hw : px_w2 _ _ _ _ _ _  := hw
    unfold px_w2 at hw
    split at hw
    · rename_i v hv
      exact px_s2 C hd hc hv (hk _ _ _ hw)
    · exact hw.elim
  | 3, hc, hw, hk =>
    have hw : px_w3 _ _ _ _ _ _  := hw
    unfold px_w3 at hw
    split at hw
    · exact px_s3 C hd hc (hk _ _ _ hw)
    · exact hw.elim
  | 4, hc, hw, hk =>
    have hw : px_w4 _ _ _ _ _ _  := hw
    unfold px_w4 at hw
    split at hw
    · exact px_s4 C hd hc (hk _ _ _ hw)
    · exact hw.elim
  | 5, hc, hw, hk =>
    have hw : px_w5 _ _ _ _ _ _ _  := hw
    unfold px_w5 at hw
    split at hw
    · rename_i v hv
      exact px_s5 C hd hc hv (hk _ _ _ hw)
    · exact hw.elim
  | 6, hc, hw, hk =>
    have hw : px_w6 _ _ _ _ _ _  := hw
    unfold px_w6 at hw
    split at hw
    · exact px_s6 C hd hc (hk _ _ _ hw)
    · exact hw.elim
  | 7, hc, hw, hk =>
    have hw : px_w7 _ _ _ _ _ _  := hw
    unfold px_w7 at hw
    split at hw
    · exact px_s7 C hd hc hw.1 (hk _ _ _ (hw.2 _ rfl))
    · exact hw.elim
  | 8, hc, hw, hk =>
    have hw : px_w8 _ _ _ _ _ _  := hw
    unfold px_w8 at hw
    split at hw
    · exact px_s8 C hd hc (hk _ _ _ hw)
    · exact hw.elim
  | 9, hc, hw, hk =>
    have hw : px_w9 _ _ _ _ _  := hw
    unfold px_w9 at hw
    split at hw
    · exact px_s9 C hd hc (hk _ _ _ hw)
    · exact hw.elim
  | 10, hc, hw, hk =>
    have hw : px_w10 _ _ _ _ _  := hw
    unfold px_w10 at hw
    split at hw
    · exact px_s10 C hd hc (hk _ _ _ hw)
    · exact hw.elim
  | 11, hc, hw, hk =>
    have hw : px_w11 _ _ _ _ _  := hw
    unfold px_w11 at hw
    split at hw
    · exact px_s11 C hd hc (hk _ _ _ hw)
    · exact hw.elim
  | 12, hc, hw, hk => exact px_s12 C hd hc (hk _ _ _ hw)
  | 13, hc, hw, hk =>
    have hw : px_w13 _ _ _ _ _ _ _ _  := hw
    unfold px_w13 at hw
    split at hw
    · exact px_s13 C hd hc hw.1 (fun h => hk _ _ _ (hw.2 h))
    · exact hw.elim
  | 14, hc, hw, hk =>
    have hw : px_w14 _ _ _ _ _ _ _ _  := hw
    unfold px_w14 at hw
    split at hw
    · exact px_s14 C hd hc hw.1 (fun h => hk _ _ _ (hw.2 h))
    · exact hw.elim
  | 15, hc, hw, hk =>
    have hw : px_w15 _ _ _ _ _ _  := hw
    unfold px_w15 at hw
    split at hw
    · exact px_s15 C hd hc (px_sw_tg hw)
    · exact hw.elim
  | 16, hc, hw, hk =>
    have hw : px_w16 _ _ _ _ _ _ _  := hw
    unfold px_w16 at hw
    split at hw
    · obtain ⟨hj, hv9⟩ := px_ifE hw
      obtain rfl := of_decide_eq_true hj
      exact px_s16 C hd hc (hk _ _ _ hv9)
    · exact hw.elim
  | 17, hc, hw, hk =>
    have hw : px_w17 _ _ _ _ _ _ _  := hw
    unfold px_w17 at hw
    split at hw
    · obtain ⟨hj, hv9⟩ := px_ifE hw
      obtain rfl := of_decide_eq_true hj
      exact px_s17 C hd hc (hk _ _ _ hv9)
    · exact hw.elim
  | 18, hc, hw, hk =>
    have hw : px_w18 _ _ _ _ _ _ _ _  := hw
    unfold px_w18 at hw
    split at hw
    · obtain ⟨hj, hv9⟩ := px_ifE hw
      obtain rfl := of_decide_eq_true hj
      split at hv9
      · exact px_s18 C hd hc (Or.inl rfl) (hk _ _ _ hv9)
      · exact px_s18 C hd hc (Or.inr hv9.1) (hk _ _ _ hv9.2)
    · exact hw.elim
  | 19, hc, hw, hk =>
    have hw : px_w19 _ _ _ _ _ _ _  := hw
    unfold px_w19 at hw
    split at hw
    · obtain ⟨hj, hi, hv9⟩ := px_ifE hw
      obtain rfl := of_decide_eq_true hj
      exact px_s19 C hd hc hi (hk _ _ _ hv9)
    · exact hw.elim
  | 20, hc, hw, hk =>
    have hw : px_w20 _ _ _ _ _ _ _ _  := hw
    unfold px_w20 at hw
    split at hw
    · obtain ⟨hj, hi, hv9⟩ := px_ifE hw
      obtain rfl := of_decide_eq_true hj
      split at hv9
      · exact px_s20 C hd hc hi (Or.inl rfl) (hk _ _ _ hv9)
      · exact px_s20 C hd hc hi (Or.inr (Or.inl ⟨rfl, hv9.1⟩)) (hk _ _ _ hv9.2)
      · rename_i h8 h9
        exact px_s20 C hd hc hi (Or.inr (Or.inr ⟨fun h => h9 h, hv9.1⟩)) (hk _ _ _ hv9.2)
    · exact hw.elim
  | 21, hc, hw, hk =>
    have hw : px_w21 _ _ _ _ _ _ _  := hw
    unfold px_w21 at hw
    split at hw
    · obtain ⟨hj, hv9⟩ := px_ifE hw
      obtain rfl := of_decide_eq_true hj
      exact px_s21 C hd hc (hk _ _ _ hv9)
    · exact hw.elim
  | 22, hc, hw, hk =>
    have hw : px_w22 _ _ _ _ _ _ _ _  := hw
    unfold px_w22 at hw
    split at hw
    · obtain ⟨hj, hi, hv9⟩ := px_ifE hw
      obtain rfl := of_decide_eq_true hj
      exact px_s22 C hd hc hi (fun q h1 h2 => hk _ _ _ (hv9 q h1 h2))
    · exact hw.elim
  | 23, hc, hw, hk =>
    have hw : px_w23 _ _ _ _ _ _ _ _ _ _ _  := hw
    unfold px_w23 at hw
    split at hw
    · rename_i j S' hS'
      obtain ⟨hj, f', v, σ', h4, h5, h6⟩ := px_ifE hw
      obtain ⟨h1, h2, h3⟩ := of_decide_eq_true hj
      have hSS : S = S.take b ++ .inr j :: S' := by rw [← hS']; exact (List.take_append_drop b S).symm
      rw [hSS]
      exact px_s23 C hR hd hc h1 h2 h3 h4 h5 (hk _ _ _ h6)
    · exact hw.elim
  | 24, hc, hw, hk =>
    have hw : px_w24 _ _ _ _ _ _ _ _ _ _  := hw
    unfold px_w24 at hw
    obtain ⟨hj, f', v, σ', h4, h5, h6⟩ := px_ifE hw
    obtain ⟨h2, h3⟩ := of_decide_eq_true hj
    have hSS : S = S.take b ++ S.drop b := (List.take_append_drop b S).symm
    rw [hSS]
    exact px_s24 C hR hd hc h2 h3 h4 h5 (hk _ _ _ h6)
  | 25, hc, hw, hk =>
    have hw : px_w25 _ _ _ _ _ _ _  := hw
    unfold px_w25 at hw
    split at hw
    · obtain ⟨hj, hv9⟩ := px_ifE hw
      obtain ⟨hf1, h8⟩ := of_decide_eq_true hj
      exact px_s25 C hR hd hc hf1 h8 (hk _ _ _ hv9)
    · exact hw.elim
  | 26, hc, hw, hk =>
    have hw : px_w26 _ _ _ _ _ _ _ _ _  := hw
    unfold px_w26 at hw
    split at hw
    · obtain ⟨hj, hv9⟩ := px_ifE hw
      obtain ⟨⟨rfl, rfl, rfl, rfl, rfl⟩, hf1, h8⟩ := of_decide_eq_true hj
      exact px_s26 C hR hd hc hf1 h8 (hk _ _ _ hv9)
    · exact hw.elim
  | 27, hc, hw, hk =>
    have hw : px_w27 _ _ _ _ _  := hw
    unfold px_w27 at hw
    split at hw
    · split at hw
      · exact px_s27 C hret hQ hd hc (Or.inl rfl) hw.1 hw.2
      · exact px_s27 C hret hQ hd hc (Or.inr hw.1) hw.2.1 hw.2.2
    · exact hw.elim
  | 28, hc, hw, hk =>
    have hw : px_w28 _ _ _  := hw
    unfold px_w28 at hw
    split at hw
    · exact px_s28 C hret hQ hd hc hw
    · exact hw.elim
  | n + 29, hc, _, _ =>
    have h9 : px_c o nL ret op len pc (n + 29) a b z ps = false := rfl
    rw [h9] at hc
    cases hc
theorem px_wp_ok (C : ev_cx p s m args meth c cc nL o D tys aK aV b0) (hR : R = px_rm fr) (hret : meth.sig.returnType = ret) (hQ : Q = MQ below (px_qc D tys b0 ad rv rσ ret.isSome) args s 0 0 (fun q => b0 ≤ q)) : ∀ (is : List (pI × Nat)) (pc : Nat) (L : pL) (S : List pV) (σ : pS), px_ckl o nL ret cc is pc = true → px_wp l fr rv rσ (px_go p l e R s m args below meth c Q D tys b0 nL ad) is pc L S σ → px_go p l e R s m args below meth c Q D tys b0 nL ad pc L S σ
  | [], _, _, _, _, _, hw => hw
  | ((n, a, b, z, ps), len) :: is, pc, L, S, σ, hck, hw => by
    unfold px_ckl at hck
    unfold px_wp at hw
    dsimp only at hck hw
    split at hck
    · rename_i hn
      have hn := of_decide_eq_true hn
      subst hn
      simp only [Bool.and_eq_true, beq_iff_eq] at hck
      obtain ⟨rfl, hck⟩ := hck
      exact px_s29 (px_wp_ok C hR hret hQ is pc _ S σ hck hw)
    · split at hck
      · rename_i hn
        have hn := of_decide_eq_true hn
        subst hn
        rw [Bool.and_eq_true] at hck
        have hrec := fun (S : List pV) h => px_wp_ok C hR hret hQ is (pc + len) L S σ hck.2 h
        obtain ⟨ho, hlen, e1, e2, e3, e4⟩ := px_c30E hck.1
        subst ho
        subst hlen
        have hw : px_w30 _ _ _ _ _ _ := hw
        unfold px_w30 at hw
        split at hw
        · split at hw
          · rename_i x hx
            exact px_s30 C hR e1 e2 e3 e4 hx hw.1 hw.2.1 (hrec _ hw.2.2)
          · exact hw.elim
        · exact hw.elim
      split at hck
      · rename_i op len' hd
        simp only [Bool.and_eq_true, beq_iff_eq] at hck
        obtain ⟨rfl, h1, h2⟩ := hck
        exact px_one C hR hret hQ hd h1 hw (fun L S σ h => px_wp_ok C hR hret hQ is _ L S σ h2 h)
      · cases hck
end PX3
theorem px_L0 {N : Nat} {ad : Nat → Nat} {av : List pV} {as : List Value} {ml : Nat} (h : en_vs N ad (av.map pe) as) (hm : av.length ≤ ml) : (((lg_sl as ++ List.replicate (ml - (lg_sl as).length) Slot.unset).toArray).size = ml ∧ lv_wf ((lg_sl as ++ List.replicate (ml - (lg_sl as).length) Slot.unset).toArray) ∧ (av.map some ++ List.replicate (ml - av.length) none : pL).length = ml) ∧ ∀ (i : Nat) (a : pV), (av.map some ++ List.replicate (ml - av.length) none : pL)[i]? = some (some a) → ∃ x : Value, ((lg_sl as ++ List.replicate (ml - (lg_sl as).length) Slot.unset).toArray)[i]? = some (.val x) ∧ en_v N ad (pe a) x := by
  have hlen := en_vs_len h
  rw [List.length_map] at hlen
  have hl := lv_entry as (n := ml) (by rw [en_vs_sl h, ← hlen]; exact hm)
  refine ⟨⟨hl.1, hl.2.1, by rw [List.length_append, List.length_map, List.length_replicate]; omega⟩, fun i a hi => ?_⟩
  have hia : (av.map pe)[i]? = some (pe a) := by
    by_cases hb : i < (av.map (some : pV → Option pV)).length
    · rw [List.getElem?_append_left hb, List.getElem?_map] at hi
      rw [List.getElem?_map]
      cases hz : av[i]? with
      | none => rw [hz] at hi; cases hi
      | some b => rw [hz] at hi; cases hi; rfl
    · rw [List.getElem?_append_right (by omega)] at hi
      have := List.mem_of_getElem? hi
      cases (List.mem_replicate.mp this).2
  obtain ⟨x, h1, h2⟩ := en_vs_args 0 h hia
  rw [Nat.zero_add] at h1
  exact ⟨x, hl.2.2 _ h1, h2⟩
def px_cm (mi n nL : Nat) : Bool := match en_ms[mi]? with
  | some r => (match en_mo[mi]? with
    | some _ => Jvm.plainName r.1.cls && (decide (n ≤ r.2.2.1) && r.2.2.1 == nL)
    | none => false)
  | none => false
/-- a method's exact contract out of a walk of its body -/
theorem Con_mk {l : Launch} {fr mi : Nat} {as : List pV} {σ : pS} {v : Int} {σ' : pS} (n nL : Nat) (hn : as.length = n) (hck : px_cm mi n nL = true) (body : ∀ G, px_R l fr mi v σ' G → G 0 (as.map some ++ List.replicate (nL - n) none) [] σ) : Con l fr mi as σ v σ' := by
  subst hn
  intro r hr D tys aK aV b0 ad w0 vs hargs hw hσ
  unfold px_cm at hck
  rw [hr] at hck
  dsimp only at hck
  split at hck
  · rename_i o ho
    simp only [Bool.and_eq_true, decide_eq_true_eq, beq_iff_eq] at hck
    obtain ⟨hp, hm, rfl⟩ := hck
    refine Met.ofW (cc := r.2.1) (maxL := r.2.2.1) (ret := r.2.2.2) hp rfl ?_
    intro p e s m args below meth c s₁ B hml hv
    obtain ⟨rfl, hsz, hP, hD, hKs, hX⟩ := hv
    have hts := atoms_spec (ws := Cond.code r.1 r.2.1 r.2.2.1 r.2.2.2 :: en_ws) B.pre
    have hown : s.vm.findClass (en_nm o) = some m.cls := by rw [en_mo_ok hr ho]; exact findClass_of_methodNamed B.named
    have C : ev_cx p s m vs.toArray meth c r.2.1 r.2.2.1 o D tys aK aV b0 := ⟨B.exec, B.bytes, hml, hown, fun w hw => hts w (List.mem_cons_of_mem _ hw), hKs, hsz, hX, B.notSynchronized⟩
    rw [lg_entry_eq]
    obtain ⟨h1, h2⟩ := px_L0 hargs hm
    refine body (px_go p l e (px_rm fr) s m vs.toArray below meth c (MQ below (px_qc D tys b0 ad v σ' r.2.2.2.isSome) vs.toArray s 0 0 (fun q => b0 ≤ q)) D tys b0 r.2.2.1 ad) (fun is pc L S σ hck hwp => ?_) s.heap [] _ [] w0 ⟨h1, h2, trivial, hw, hσ, hP, hD, va_S.rf⟩
    unfold px_ckm at hck
    rw [hr, ho] at hck
    exact px_wp_ok C rfl B.returns rfl is pc L S σ hck hwp
  · cases hck
theorem px_gd {α : Type} {P : Prop} [Decidable P] {x : Option α} {r : α} (h : (if P then x else none) = some r) : P ∧ x = some r := by
  by_cases hp : P
  · rw [if_pos hp] at h
    exact ⟨hp, h⟩
  · rw [if_neg hp] at h
    cases h
theorem px_ite {α : Type} {P : Prop} [Decidable P] {x y : Option α} {r : α} (h : (if P then x else y) = some r) : (P ∧ x = some r) ∨ (¬ P ∧ y = some r) := by
  by_cases hp : P
  · rw [if_pos hp] at h
    exact Or.inl ⟨hp, h⟩
  · rw [if_neg hp] at h
    exact Or.inr ⟨hp, h⟩
theorem px_bind {α β : Type} {x : Option α} {f : α → Option β} {r : β} (h : x.bind f = some r) : ∃ y, x = some y ∧ f y = some r := by
  cases x with
  | none => cases h
  | some y => exact ⟨y, rfl, h⟩
