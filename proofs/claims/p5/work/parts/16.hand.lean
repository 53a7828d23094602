theorem met_post {l : Launch} {y : MethodName} {ws : List Cond} {rm : Room} {Pc : Array Value → State → Prop} {Qc Qc' : Array Value → State → Outcome → State → Prop} {mc ms : Nat} {free : Addr → Prop} (h : Met l y ws rm Pc Qc mc ms free) (hq : ∀ a st o t, Qc a st o t → Qc' a st o t) : Met l y ws rm Pc Qc' mc ms free := by
  intro p e h1 h2 h3 s m args below h4 h5 h6 h7
  obtain ⟨n, o, a1, a2, a3, a4, a5⟩ := h p e h1 h2 h3 s m args below h4 h5 h6 h7
  exact ⟨n, o, a1, a2, a3, hq _ _ _ _ a4, a5⟩
/-- a field's number, a row's numbers -/
def gI (w : va_W) (j f : Nat) : Int := match w[j]? with
  | some (_, .inr (_, vs)) => match vs[f]? with
    | some (.int x) => x.toInt
    | _ => 0
  | _ => 0
def gA (w : va_W) (j : Nat) : Nat → Int := match w[j]? with
  | some (_, .inl (_, _, .inl f)) => fun k => (f k).toInt
  | _ => fun _ => 0
theorem gI_eq {w : va_W} {j f a ci : Nat} {vs : List Value} {x : Int32} (h : w[j]? = some (a, .inr (ci, vs))) (hv : vs[f]? = some (.int x)) : gI w j f = x.toInt := by
  unfold gI
  rw [h]
  dsimp only
  rw [hv]
theorem gA_eq {w : va_W} {j a : Nat} {cA : ClassId} {n : Nat} {f : Nat → Int32} (h : w[j]? = some (a, .inl (cA, n, .inl f))) : gA w j = fun k => (f k).toInt := by
  unfold gA
  rw [h]
theorem gI_loc {ls : Array Slot} {w : va_W} {j f : Nat} {x : Int32} (h : ev_loc ls w (2, j, f) x) : x.toInt = gI w j f := by
  obtain ⟨a, ci, vs, h1, h2⟩ := h
  exact (gI_eq h1 h2).symm
theorem gA_loc {ls : Array Slot} {w : va_W} {j i : Nat} {x : Int32} (h : ev_loc ls w (3, j, i) x) : ∃ y : Int32, ls[i]? = some (.val (.int y)) ∧ 0 ≤ y.toInt ∧ x.toInt = gA w j y.toInt.toNat := by
  obtain ⟨a, cA, n, f, y, h1, h2, h3, h4, h5⟩ := h
  refine ⟨y, h2, h3, ?_⟩
  rw [gA_eq h1, ← h5]
  rfl
theorem gI_fr {W1 : List (Nat × Nat)} {w w' : va_W} {j f : Nat} (h : ev_fr W1 w w') (hq : (j, f) ∉ W1) : gI w' j f = gI w j f := by
  unfold gI
  cases h0 : w[j]? with
  | none =>
    have : w'[j]? = none := by
      rw [List.getElem?_eq_none_iff] at h0 ⊢
      have := h.1
      omega
    rw [this]
  | some q0 =>
    have hk : j < w'.length := by
      have := (List.getElem?_eq_some_iff.mp h0).1
      have := h.1
      omega
    have h1 : w'[j]? = some w'[j] := List.getElem?_eq_getElem hk
    obtain ⟨e1, e2⟩ := h.2 j q0 w'[j] h0 h1
    rw [h1]
    cases hc : w'[j] with
    | mk a1 e =>
      rw [hc] at e1 e2
      obtain ⟨a0, e0⟩ := q0
      cases e0 with
      | inl x => cases e with
        | inl y => rfl
        | inr y => exact e2.elim
      | inr x => cases e with
        | inl y => exact e2.elim
        | inr y =>
          obtain ⟨e3, e4, e5⟩ := e2
          have e6 := e5 f hq
          dsimp only at e6 ⊢
          rw [e6]
theorem gA_fr {W1 : List (Nat × Nat)} {w w' : va_W} {j : Nat} (h : ev_fr W1 w w') (hq : (j, 999) ∉ W1) : gA w' j = gA w j := by
  unfold gA
  cases h0 : w[j]? with
  | none =>
    have : w'[j]? = none := by
      rw [List.getElem?_eq_none_iff] at h0 ⊢
      have := h.1
      omega
    rw [this]
  | some q0 =>
    have hk : j < w'.length := by
      have := (List.getElem?_eq_some_iff.mp h0).1
      have := h.1
      omega
    have h1 : w'[j]? = some w'[j] := List.getElem?_eq_getElem hk
    obtain ⟨e1, e2⟩ := h.2 j q0 w'[j] h0 h1
    rw [h1]
    cases hc : w'[j] with
    | mk a1 e =>
      rw [hc] at e1 e2
      obtain ⟨a0, e0⟩ := q0
      cases e0 with
      | inl x => cases e with
        | inl y =>
          rcases e2 with e2 | e2
          · exact absurd e2 hq
          · have e3 : a0 = a1 := e1
            rw [e2, e3]
        | inr y => exact e2.elim
      | inr x => cases e with
        | inl y => exact e2.elim
        | inr y => rfl
/-- one field, one row's element written: all else as it was -/
def gP (j f : Nat) (x : Int) (w w' : va_W) : Prop := gI w' j f = x ∧ (∀ j' f', ¬ (j' = j ∧ f' = f) → gI w' j' f' = gI w j' f') ∧ ∀ j', gA w' j' = gA w j'
def gS (j i : Nat) (x : Int) (w w' : va_W) : Prop := gA w' j = (fun k => if k = i then x else gA w j k) ∧ (∀ j', j' ≠ j → gA w' j' = gA w j') ∧ ∀ j' f', gI w' j' f' = gI w j' f'
theorem gP_set {w : va_W} {j f a ci : Nat} {vs : List Value} {x : Int32} (h : w[j]? = some (a, .inr (ci, vs))) (hf : f < vs.length) : gP j f x.toInt w (w.set j (a, .inr (ci, vs.set f (.int x)))) := by
  have hj := (List.getElem?_eq_some_iff.mp h).1
  refine ⟨gI_eq (List.getElem?_set_self hj) (List.getElem?_set_self hf), fun j' f' hn => ?_, fun j' => ?_⟩
  · by_cases hjj : j' = j
    · subst hjj
      have hff : f ≠ f' := fun e => hn ⟨rfl, e.symm⟩
      unfold gI
      rw [List.getElem?_set_self hj, h]
      dsimp only
      rw [List.getElem?_set_ne hff]
    · unfold gI
      rw [List.getElem?_set_ne (Ne.symm hjj)]
  · by_cases hjj : j' = j
    · subst hjj
      unfold gA
      rw [List.getElem?_set_self hj, h]
    · unfold gA
      rw [List.getElem?_set_ne (Ne.symm hjj)]
theorem gS_set {w : va_W} {j a : Nat} {cA : ClassId} {n : Nat} {f : Nat → Int32} {i x : Int32} (h : w[j]? = some (a, .inl (cA, n, .inl f))) : gS j i.toInt.toNat x.toInt w (w.set j (a, .inl (cA, n, .inl (upd f i.toNatClampNeg x)))) := by
  have hj := (List.getElem?_eq_some_iff.mp h).1
  refine ⟨?_, fun j' hn => ?_, fun j' f' => ?_⟩
  · rw [gA_eq (List.getElem?_set_self hj), gA_eq h]
    funext k
    show (upd f i.toInt.toNat x k).toInt = _
    unfold upd
    split <;> rfl
  · unfold gA
    rw [List.getElem?_set_ne (Ne.symm hn)]
  · by_cases hjj : j' = j
    · subst hjj
      unfold gI
      rw [List.getElem?_set_self hj, h]
    · unfold gI
      rw [List.getElem?_set_ne (Ne.symm hjj)]
/-- contracts by hand: what is asked; what holds at each end -/
def hk_qc (D : va_G) (tys : List (ClassId × FieldType)) (T : en_T) (J : Nat → Int → va_W → Prop) (b0 : Nat) (ad : Nat → Nat) (w0 : va_W) (κ : ek) (v : Bool) : Array Value → State → Outcome → State → Prop := match v with
  | true => va_Qi (S := va_W) (fun x w => ev_w tys T ad w ∧ ev_fr (ek_wr κ) w0 w ∧ ∃ i u, (ek_out κ)[i]? = some u ∧ J i x.toInt w ∧ (∃ a, u.1 = some a ∧ en_v T.length ad a (.int x)) ∧ ∀ f ∈ u.2, ev_ff w f) (fun w t => va_P D vwCl w t.heap ∧ va_D (fun q => b0 ≤ q) w) (fun q => b0 ≤ q)
  | false => va_Qv (S := va_W) (fun w => ev_w tys T ad w ∧ ev_fr (ek_wr κ) w0 w ∧ ∃ i u, (ek_out κ)[i]? = some u ∧ J i 0 w ∧ u.1 = none ∧ ∀ f ∈ u.2, ev_ff w f) (fun w t => va_P D vwCl w t.heap ∧ va_D (fun q => b0 ≤ q) w) (fun q => b0 ≤ q)
def hk_ok (l : Launch) (T : en_T) (I : va_W → Prop) (J : Nat → Int → va_W → Prop) (κ : ek) : Prop := ∀ r, en_ms[κ.1]? = some r → ∀ (D : va_G) (tys : List (ClassId × FieldType)) (aK aV b0 : Nat) (ad : Nat → Nat) (w0 : va_W) (as : List Value), en_vs T.length ad κ.2.1 as → ev_w tys T ad w0 → I w0 → (∀ f ∈ ek_pre κ, ev_ff w0 f) →
  Met l r.1 (Cond.code r.1 r.2.1 r.2.2.1 r.2.2.2 :: en_ws) (ek_rm κ) (ek_pc D tys aK aV b0 w0 as) (hk_qc D tys T J b0 ad w0 κ r.2.2.2.isSome) 0 0 (fun q => b0 ≤ q)
/-- a contract that asks nothing of the world keeps whatever its writes leave alone -/
theorem ek_up {l : Launch} {T : en_T} {I I0 : va_W → Prop} {κ : ek} (h : ek_ok l T I0 κ) (h0 : ∀ w, I w → I0 w) (hI : ∀ w w', ev_fr (ek_wr κ) w w' → I w → I w') : ek_ok l T I κ := by
  intro r hr D tys aK aV b0 ad w0 as h1 h2 h3 h4
  refine met_post (h r hr D tys aK aV b0 ad w0 as h1 h2 (h0 _ h3) h4) (fun a st o t hq => ?_)
  cases hv : r.2.2.2.isSome with
  | true =>
    rw [hv] at hq
    obtain ⟨⟨x, u, e1, ⟨p1, p2, p3, p4⟩, e3⟩, e4⟩ := hq
    exact ⟨⟨x, u, e1, ⟨p1, hI _ _ p3 h3, p3, p4⟩, e3⟩, e4⟩
  | false =>
    rw [hv] at hq
    obtain ⟨⟨u, e1, ⟨p1, p2, p3, p4⟩, e3⟩, e4⟩ := hq
    exact ⟨⟨u, e1, ⟨p1, hI _ _ p3 h3, p3, p4⟩, e3⟩, e4⟩
theorem hk_ek {l : Launch} {T : en_T} {I I' : va_W → Prop} {J : Nat → Int → va_W → Prop} {κ : ek} (h : hk_ok l T I' J κ) (h0 : ∀ w, I w → I' w) (hJ : ∀ i x w w', I w → ev_fr (ek_wr κ) w w' → J i x w' → I w') : ek_ok l T I κ := by
  intro r hr D tys aK aV b0 ad w0 as h1 h2 h3 h4
  refine met_post (h r hr D tys aK aV b0 ad w0 as h1 h2 (h0 _ h3) h4) (fun a st o t hq => ?_)
  cases hv : r.2.2.2.isSome with
  | true =>
    rw [hv] at hq
    obtain ⟨⟨x, u, e1, ⟨p1, p2, i, v, p3, p4, p5, p6⟩, e3⟩, e4⟩ := hq
    exact ⟨⟨x, u, e1, ⟨p1, hJ i _ _ _ h3 p2 p4, p2, v, List.mem_of_getElem? p3, p5, p6⟩, e3⟩, e4⟩
  | false =>
    rw [hv] at hq
    obtain ⟨⟨u, e1, ⟨p1, p2, i, v, p3, p4, p5, p6⟩, e3⟩, e4⟩ := hq
    exact ⟨⟨u, e1, ⟨p1, hJ i _ _ _ h3 p2 p4, p2, v, List.mem_of_getElem? p3, p5, p6⟩, e3⟩, e4⟩
theorem ek_hk {l : Launch} {T : en_T} {I : va_W → Prop} {κ : ek} (h : ek_ok l T I κ) : hk_ok l T I (fun _ _ => I) κ := by
  intro r hr D tys aK aV b0 ad w0 as h1 h2 h3 h4
  refine met_post (h r hr D tys aK aV b0 ad w0 as h1 h2 h3 h4) (fun a st o t hq => ?_)
  cases hv : r.2.2.2.isSome with
  | true =>
    rw [hv] at hq
    obtain ⟨⟨x, u, e1, ⟨p1, p2, p3, v, p4, p5, p6⟩, e3⟩, e4⟩ := hq
    obtain ⟨i, hi⟩ := List.mem_iff_getElem?.mp p4
    exact ⟨⟨x, u, e1, ⟨p1, p3, i, v, hi, p2, p5, p6⟩, e3⟩, e4⟩
  | false =>
    rw [hv] at hq
    obtain ⟨⟨u, e1, ⟨p1, p2, p3, v, p4, p5, p6⟩, e3⟩, e4⟩ := hq
    obtain ⟨i, hi⟩ := List.mem_iff_getElem?.mp p4
    exact ⟨⟨u, e1, ⟨p1, p3, i, v, hi, p2, p5, p6⟩, e3⟩, e4⟩
section HVC
variable {p : Program} {l : Launch} {e : Env} {R : Room} {s : State} {m : MethodId} {args : Array Value} {below : List Frame} {meth : Method} {c : Code} {Q : State → Prop} {cc : ByteArray} {D : va_G} {tys : List (ClassId × FieldType)} {T : en_T} {I I' I0 E : va_W → Prop} {J : Nat → Int → va_W → Prop} {sp : List (Nat × Nat)} {aK aV b0 nL o : Nat} {ad : Nat → Nat} {w0 : va_W} {Wr : List (Nat × Nat)} {γ γ' : Nat → Int}
variable {pc : Nat} {L : List ev_l} {S : List ev_s} {FS : List ev_f} {RS : List ev_r} {κ : ek} {st : ev_S}
theorem ev_go_mono (h : ∀ w, I w → I' w) (k : ev_go p l e R s m args below meth c Q D tys T I' b0 nL ad w0 Wr γ st) : ev_go p l e R s m args below meth c Q D tys T I b0 nL ad w0 Wr γ st := by
  intro H locs ls stk ws ha
  obtain ⟨hz, hl, hs, hF, hR, hw, hI, hr⟩ := ha
  exact k H locs ls stk ws ⟨hz, hl, hs, hF, hR, hw, h _ hI, hr⟩
theorem ev_go_ex {α : Type} {A : α → va_W → Prop} (k : ∀ v, ev_go p l e R s m args below meth c Q D tys T (A v) b0 nL ad w0 Wr γ st) : ev_go p l e R s m args below meth c Q D tys T (fun w => ∃ v, A v w) b0 nL ad w0 Wr γ st := by
  intro H locs ls stk ws ha
  obtain ⟨hz, hl, hs, hF, hR, hw, ⟨v, hI⟩, hr⟩ := ha
  exact k v H locs ls stk ws ⟨hz, hl, hs, hF, hR, hw, hI, hr⟩
theorem ev_go_pure {P : Prop} (h : ∀ w, I w → P) (k : P → ev_go p l e R s m args below meth c Q D tys T I b0 nL ad w0 Wr γ st) : ev_go p l e R s m args below meth c Q D tys T I b0 nL ad w0 Wr γ st := by
  intro H locs ls stk ws ha
  exact k (h _ ha.2.2.2.2.2.2.1) H locs ls stk ws ha
/-- what is known of the world's numbers may be used -/
theorem ev_go_w {P : Prop} (h : ∀ w, ev_w tys T ad w → I w → P) (k : P → ev_go p l e R s m args below meth c Q D tys T I b0 nL ad w0 Wr γ st) : ev_go p l e R s m args below meth c Q D tys T I b0 nL ad w0 Wr γ st := by
  intro H locs ls stk ws ha
  exact k (h _ ha.2.2.2.2.2.1 ha.2.2.2.2.2.2.1) H locs ls stk ws ha
def hk_nx (κ : ek) (pc : Nat) (L : List ev_l) (S : List ev_s) (FS : List ev_f) (RS : List ev_r) (u : Option en_V × List ev_f) (x : Int) : ev_S := (pc, L, (match u.1 with
  | some _ => [(.inl (x, x), ev_nt)]
  | none => []) ++ S.map (ev_hs (ek_wr κ)), ev_add (ev_hf (ek_wr κ) FS) u.2, RS)
def hk_in (T : en_T) (u : Option en_V) (x : Int) : Prop := match u with
  | some (.inl b) => b.1 ≤ x ∧ x ≤ b.2
  | some _ => True
  | none => x = 0
theorem hs_after {H : Heap} {locs : List Loc} {ls : Array Slot} {stk rest : List Value} {ws : va_W} {av : Array Value} {v : Bool} (hE : ∀ w w', ev_fr (ek_wr κ) w w' → E w → E w') (h : ev_at s D tys T E b0 nL ad w0 Wr γ L S FS RS H locs ls rest ws) (hwr : ∀ q ∈ ek_wr κ, q ∈ Wr)
    (hrun : va_Run p l e R s m args below meth c H locs 0 0 0 0 (F0 m pc ls stk) rest (hk_qc D tys T J b0 ad ws κ v av) (fun q => b0 ≤ q))
    (k : ∀ i u x, (ek_out κ)[i]? = some u → hk_in T u.1 x → ev_go p l e R s m args below meth c Q D tys T (fun w => J i x w ∧ E w) b0 nL ad w0 Wr γ (hk_nx κ (pc + 3) L S FS RS u x)) : W p l e R s m args below meth c H locs 0 0 Q (F0 m pc ls stk) := by
  obtain ⟨hz, hl, hs, hF, hR, hw, hI, hP, hD, hS, hfr⟩ := h
  cases v with
  | false =>
    refine va_callv (a := av) hrun hS (fun q _ h => h) (fun q h => h) (fun w t H1 locs1 ht _ hpost hB _ _ hS1 => ?_)
    obtain ⟨p1, p3, i, u, hu, hJ, hu1, hu2⟩ := hpost
    subst ht
    refine k i u 0 hu (by rw [hu1]; rfl) t.heap locs1 ls rest w ⟨hz, hl, ?_, ev_add_ok (ev_hf_ok p3 hF) hu2, hR, p1, ⟨hJ, hE _ _ p3 hI⟩, hB.1, hB.2, hS1, hfr.tr p3 hwr⟩
    unfold hk_nx
    dsimp only
    rw [hu1]
    exact ev_hs_ok p3 hs
  | true =>
    refine va_calli (a := av) hrun hS (fun q _ h => h) (fun q h => h) (fun x w t H1 locs1 ht _ hpost hB _ _ hS1 => ?_)
    obtain ⟨p1, p3, i, u, hu, hJ, ⟨a, hu1, hu3⟩, hu2⟩ := hpost
    subst ht
    refine k i u x.toInt hu ?_ t.heap locs1 ls (.int x :: rest) w ⟨hz, hl, ?_, ev_add_ok (ev_hf_ok p3 hF) hu2, hR, p1, ⟨hJ, hE _ _ p3 hI⟩, hB.1, hB.2, hS1, hfr.tr p3 hwr⟩
    · rw [hu1]
      cases a with
      | inr n => trivial
      | inl b =>
        obtain ⟨z, e9, h9⟩ := hu3
        cases e9
        exact h9
    · unfold hk_nx
      dsimp only
      rw [hu1]
      exact ⟨⟨⟨x, rfl, en_in_self x⟩, ev_tag0⟩, ev_hs_ok p3 hs⟩
/-- the top of the stack: known to be just that; known less well -/
theorem ev_go_top {q q' : Int × Int} {t t' : ev_t} (h : ∀ (ls : Array Slot) (w : va_W) (x : Int32), ev_w tys T ad w → ev_lo T.length ad γ L ls → (∀ f ∈ FS, ev_fact γ ls w f) → I w → en_in q x → ev_tag ls w t (.int x) → en_in q' x ∧ ev_tag ls w t' (.int x)) (k : ev_go p l e R s m args below meth c Q D tys T I b0 nL ad w0 Wr γ (pc, L, (.inl q', t') :: S, FS, RS)) : ev_go p l e R s m args below meth c Q D tys T I b0 nL ad w0 Wr γ (pc, L, (.inl q, t) :: S, FS, RS) := by
  intro H locs ls stk ws ha
  dsimp only at ha
  obtain ⟨hz, hl, hs, hF, hR, hw, hI, hr⟩ := ha
  obtain ⟨x0, ys, rfl, ⟨x, rfl, hx⟩, ht, hs1⟩ := ev_stk_cons hs
  obtain ⟨a1, a2⟩ := h ls ws x hw hl hF hI hx ht
  exact k H locs ls (.int x :: ys) ws ⟨hz, hl, ⟨⟨⟨x, rfl, a1⟩, a2⟩, hs1⟩, hF, hR, hw, hI, hr⟩
/-- a local known to be just v: within bounds, with a mark -/
theorem ev_go_mark {i n : Nat} {v : Int} {q' : Int × Int} (hi : L[i]? = some (some (.inl (v, v), none))) (hq : q'.1 ≤ v ∧ v ≤ q'.2) (hγ : γ n = v) (k : ev_go p l e R s m args below meth c Q D tys T I b0 nL ad w0 Wr γ (pc, L.set i (some (.inl q', some (n, 0))), S, FS, RS)) : ev_go p l e R s m args below meth c Q D tys T I b0 nL ad w0 Wr γ (pc, L, S, FS, RS) := by
  intro H locs ls stk ws ha
  dsimp only at ha
  obtain ⟨⟨z1, z2, z3⟩, hl, hs, hF, hR, hw, hI, hr⟩ := ha
  refine k H locs ls stk ws ⟨⟨z1, z2, by dsimp only; rw [List.length_set]; exact z3⟩, fun j u hj => ?_, hs, hF, hR, hw, hI, hr⟩
  by_cases hji : j = i
  · subst hji
    dsimp only at hj
    rw [List.getElem?_set_self (List.getElem?_eq_some_iff.mp hi).1] at hj
    cases hj
    obtain ⟨x, g1, ⟨z, rfl, g2⟩, g3⟩ := hl j _ hi
    have e1 : v ≤ z.toInt := g2.1
    have e2 : z.toInt ≤ v := g2.2
    exact ⟨_, g1, ⟨z, rfl, by omega, by omega⟩, z, rfl, by dsimp only; omega⟩
  · dsimp only at hj
    rw [List.getElem?_set_ne (Ne.symm hji)] at hj
    exact hl j u hj
/-- where nothing is marked the marks may be chosen anew -/
theorem ev_go_gam (h : ev_ng L FS = true) (k : ev_go p l e R s m args below meth c Q D tys T I b0 nL ad w0 Wr γ' (pc, L, S, FS, RS)) : ev_go p l e R s m args below meth c Q D tys T I b0 nL ad w0 Wr γ (pc, L, S, FS, RS) := by
  intro H locs ls stk ws ha
  dsimp only at ha
  obtain ⟨hz, hl, hs, hF, hr⟩ := ha
  exact k H locs ls stk ws ⟨hz, ev_ng_lo h hl, hs, ev_ng_f h hF, hr⟩
theorem hs_callV (C : ev_cx p s m args meth c cc nL o D tys aK aV b0) {i mi n j ci : Nat} {r : MethodName × ByteArray × Nat × Option FieldType} {A : List ev_s} {fs : List en_V} {rc : vw_C} {tj : ev_t} (hκ : hk_ok l T I0 J κ) (hI : ∀ w, I w → I0 w ∧ E w) (hE : ∀ w w', ev_fr (ek_wr κ) w w' → E w → E w') (hf : en_find o i en_cl = some (0, mi, n)) (hr : en_ms[mi]? = some r) (hm : κ.1 = mi) (hA : A.length = n) (hav : en_all2 en_le (.inr (j + 2) :: (A.map (fun a => a.1)).reverse) κ.2.1 = true) (hpre : (ek_pre κ).all (ev_has T FS) = true) (hwr : ∀ q ∈ ek_wr κ, q ∈ Wr)
    (hj : T[j]? = some (.inr (ci, fs))) (hrc : vwCl[ci]? = some rc) (hmo : en_mo[mi]? = some ci) (hfr : ek_fr κ + 1 ≤ R.frames) (hlo : 8 + (r.2.2.1 + 11) + ek_lo κ ≤ R.locals) (hS8 : S.length ≤ 8) (hd : decode cc pc = .ok (.invokevirtual i, 3))
    (k : ∀ i u x, (ek_out κ)[i]? = some u → hk_in T u.1 x → ev_go p l e R s m args below meth c Q D tys T (fun w => J i x w ∧ E w) b0 nL ad w0 Wr γ (hk_nx κ (pc + 3) L S FS RS u x)) : ev_go p l e R s m args below meth c Q D tys T I b0 nL ad w0 Wr γ (pc, L, A ++ (.inr (j + 2), tj) :: S, FS, RS) := by
  intro H locs ls stk ws h
  dsimp only at h
  obtain ⟨hz, hl, hs, hF, hR, hw, hI9, hP, hD, hS, hfr0⟩ := h
  obtain ⟨xs, us, rfl, hs1, hs2⟩ := ev_stk_app hs
  obtain ⟨x, ys, rfl, hx, -, hs3⟩ := ev_stk_cons hs2
  have hx0 := hx
  obtain ⟨rfl, hjl⟩ : x = .ref (ad j) ∧ j < T.length := hx
  subst hm
  obtain ⟨e0, g1, vs, rfl, g2⟩ := hw.2 j _ hj
  have hM := hκ r hr D tys aK aV b0 ad ws (Value.ref (ad j) :: xs.reverse) (en_all2_vs hav ⟨hx0, en_vs_rev hs1⟩) hw (hI _ hI9).1 (fun f hf => ev_has_ok hF hw (List.all_eq_true.mp hpre f hf))
  have hDd := (en_clD hf hr).1
  have hww := en_clW hf hr
  have hts := C.2.2.2.2.1
  have hB := callB_of (own := en_nm o) (index := i) (R := R) (rm := ek_rm κ) (mc := 0) (ms := 0) n hts (en_codeG hr) rfl rfl rfl (hts _ (en_ws_in (hww (.initialized r.1.cls) (by simp)) rfl)) (hts _ (en_ws_in (hww (.methodLink (en_nm o) i r.1) (by simp)) rfl)) hDd ⟨hfr, hlo⟩
  have hrecv := va_recv C.2.2.2.2.2.1 hP hrc g1
  rw [(en_nm_cl hrc).trans (en_mo_ok hr hmo)] at hrecv
  exact hs_after hE ⟨hz, hl, hs3, hF, hR, hw, (hI _ hI9).2, hP, hD, hS, hfr0⟩ hwr (va_runV (C := r.1.cls) (As := xs.reverse) (rest := ys) ⟨C.1, C.2.1, C.2.2.1, C.2.2.2.1, hts⟩ hM ⟨hB, hts _ (en_ws_in (hww (.instanceMethod r.1) (by simp)) rfl), hts _ (en_ws_in (hww (.selects r.1.cls r.1 r.1) (by simp)) rfl)⟩ ⟨ek_pc_blind, hrecv, ek_pre_at C hP hD hS⟩ rfl (by rw [List.length_reverse, ← en_vs_len hs1, List.length_map]; exact hA) hz.1 (by rw [List.reverse_reverse]) (lv_room (by rw [ev_stk_len hs3]; exact hS8)) hd ⟨Nat.zero_le _, Nat.zero_le _⟩) k
/-- a write to a field, with what is written -/
theorem hs_put (C : ev_cx p s m args meth c cc nL o D tys aK aV b0) {i ci f j : Nat} {fs : List en_V} {b v : Int × Int} {r : vw_C} {t tv : ev_t} (hstep : ∀ (ls : Array Slot) (w w' : va_W) (x : Int32), ev_w tys T ad w → ev_lo T.length ad γ L ls → (∀ f ∈ FS, ev_fact γ ls w f) → I w → en_in v x → ev_tag ls w tv (.int x) → gP j f x.toInt w w' → ev_fr [(j, f)] w w' → I' w') (hf : en_find o i en_fl = some (ci, f)) (hr0 : vwCl[ci]? = some r) (hfN : f < r.2.2) (ht : T[j]? = some (.inr (ci, fs))) (ha : fs[f]? = some (.inl b)) (hle : en_le (.inl v) (.inl b) = true) (hput : en_put (en_tyX ci f) (.inl v) = true) (hfin : (r.2.1 f).2.2.2 = false) (hwr : (j, f) ∈ Wr) (hd : decode cc pc = .ok (.putfield i, 3))
    (k : ev_go p l e R s m args below meth c Q D tys T I' b0 nL ad w0 Wr γ (pc + 3, L, S.map (ev_hs [(j, f)]), ((2, j, f), v, none) :: ev_hf [(j, f)] FS, RS)) : ev_go p l e R s m args below meth c Q D tys T I b0 nL ad w0 Wr γ (pc, L, (.inl v, tv) :: (.inr (j + 2), t) :: S, FS, RS) := by
  intro H locs ls stk ws h
  dsimp only at h
  obtain ⟨h0, hl, hs, hF, hR, hw, hI, hP, hD, hS, hfr⟩ := h
  obtain ⟨v0, us, rfl, hv, htv, hs0⟩ := ev_stk_cons hs
  obtain ⟨x, ys, rfl, hx, -, hs1⟩ := ev_stk_cons hs0
  obtain ⟨rfl, hj⟩ : x = .ref (ad j) ∧ j < T.length := hx
  obtain ⟨e0, g1, vs, rfl, g2⟩ := hw.2 j _ ht
  obtain ⟨old, g3, zo, rfl, g4⟩ := en_vs_get g2 ha
  obtain ⟨q1, q2⟩ := en_put_ok hput hv
  have hc := en_cls ci r hr0
  have hlen : f < vs.length := (List.getElem?_eq_some_iff.mp g3).1
  have hvb := en_le_ok hle hv
  obtain ⟨z, rfl, hz⟩ := hv
  refine va_put (C := r.1) (T := r.2.1) (N := r.2.2) C.1 C.2.1 C.2.2.2.2.1 (en_cls_ws hr0) (en_tyX ci) hc.2.1 hc.2.2 C.2.2.2.1 C.2.2.2.2.2.1 hP hD hS j g1 hr0 f hfN (C.2.2.2.2.1 _ (en_fl_w hf hr0)) (fun x h => h) hfin (hc.2.1 f hfN) q1 q2 hlen hd (fun H1 locs1 hP1 hD1 hS1 => ?_)
  have hfe : ev_fe [(j, f)] j (.inr (ci, vs)) (.inr (ci, vs.set f (.int z))) := ⟨rfl, by dsimp only; rw [List.length_set], fun f' hf' => by
    have hne : f' ≠ f := fun e => hf' (by rw [e]; exact List.mem_cons_self)
    dsimp only
    rw [List.getElem?_set_ne (Ne.symm hne)]⟩
  have hf1 := ev_fr_set g1 hfe
  refine k H1 locs1 ls ys _ ⟨h0, hl, ev_hs_ok hf1 hs1, fun g hg => ?_, hR, ev_w_set hw ht ⟨_, rfl, ev_vs_fe g2 ha hvb⟩, hstep ls ws _ z hw hl hF hI hz htv (gP_set g1 hlen) hf1, hP1, hD1, hS1, hfr.tr hf1 (fun q hq => by rw [List.mem_singleton.mp hq]; exact hwr)⟩
  rcases List.mem_cons.mp hg with rfl | hg
  · exact ⟨z, ⟨_, _, _, List.getElem?_set_self (List.getElem?_eq_some_iff.mp g1).1, List.getElem?_set_self hlen⟩, hz, trivial⟩
  · exact ev_hf_ok hf1 hF g hg
/-- a write to a row of ints, with what is written -/
theorem hs_ast (C : ev_cx p s m args meth c cc nL o D tys aK aV b0) {j : Nat} {t : Nat × Nat × Int × Int} {q v : Int × Int} {tv tq ta : ev_t} (hstep : ∀ (ls : Array Slot) (w w' : va_W) (i x : Int32), ev_w tys T ad w → ev_lo T.length ad γ L ls → (∀ f ∈ FS, ev_fact γ ls w f) → I w → en_in q i → ev_tag ls w tq (.int i) → en_in v x → ev_tag ls w tv (.int x) → 0 ≤ i.toInt → i.toInt < t.2.1 → gS j i.toInt.toNat x.toInt w w' → ev_fr [(j, 999)] w w' → I' w') (ht : T[j]? = some (.inl t)) (h3 : t.1 = 0)
    (hq : ∀ (ls : Array Slot) (w : va_W) (i : Int32), ev_w tys T ad w → ev_lo T.length ad γ L ls → (∀ f ∈ FS, ev_fact γ ls w f) → I w → en_in q i → ev_tag ls w tq (.int i) → 0 ≤ i.toInt ∧ i.toInt < t.2.1) (hv0 : t.2.2.1 ≤ v.1) (hv1 : v.2 ≤ t.2.2.2) (hwr : (j, 999) ∈ Wr) (hd : decode cc pc = .ok (.iastore, 1))
    (k : ev_go p l e R s m args below meth c Q D tys T I' b0 nL ad w0 Wr γ (pc + 1, L, S.map (ev_hs [(j, 999)]), ev_hf [(j, 999)] FS, RS)) : ev_go p l e R s m args below meth c Q D tys T I b0 nL ad w0 Wr γ (pc, L, (.inl v, tv) :: (.inl q, tq) :: (.inr (j + 2), ta) :: S, FS, RS) := by
  intro H locs ls stk ws h
  dsimp only at h
  obtain ⟨hz, hl, hs, hF, hR, hw, hI, hP, hD, hS, hfr⟩ := h
  obtain ⟨x9, us, rfl, ⟨x, rfl, hx⟩, htx, hs0⟩ := ev_stk_cons hs
  obtain ⟨x0, ys, rfl, ⟨i, rfl, hi⟩, hti, hs1⟩ := ev_stk_cons hs0
  obtain ⟨xa, zs, rfl, hxa, -, hs2⟩ := ev_stk_cons hs1
  obtain ⟨rfl, hj⟩ : xa = .ref (ad j) ∧ j < T.length := hxa
  obtain ⟨e0, g1, ge⟩ := hw.2 j _ ht
  unfold ev_c at ge
  dsimp only at ge
  rw [if_neg (by rw [h3]; decide)] at ge
  obtain ⟨cA, f, rfl, g2, g3⟩ := ge
  obtain ⟨i0, i1⟩ := hq ls ws i hw hl hF hI hi hti
  refine va_iast C.1 C.2.1 C.2.2.2.2.2.1 hP hD hS j t.1 g1 (by rw [g2, h3]; rfl) (vp_in_iff.mpr ⟨i0, i1⟩) hd (fun H1 locs1 hP1 hD1 hS1 => ?_)
  have hf1 : ev_fr [(j, 999)] ws (ws.set j (ad j, .inl (cA, t.2.1, .inl (upd f i.toNatClampNeg x)))) := ev_fr_set g1 (Or.inl List.mem_cons_self)
  have hc : ev_c tys T.length ad (.inl t) (.inl (cA, t.2.1, .inl (upd f i.toNatClampNeg x))) := by
    unfold ev_c
    dsimp only
    rw [if_neg (by rw [h3]; decide)]
    refine ⟨cA, _, rfl, g2, fun k hk => ?_⟩
    unfold upd
    split
    · exact ⟨by have := hx.1; omega, by have := hx.2; omega⟩
    · exact g3 k hk
  exact k H1 locs1 ls zs _ ⟨hz, hl, ev_hs_ok hf1 hs2, ev_hf_ok hf1 hF, hR, ev_w_set hw ht hc, hstep ls ws _ i x hw hl hF hI hi hti hx htx i0 i1 (gS_set g1) hf1, hP1, hD1, hS1, hfr.tr hf1 (fun q hq => by rw [List.mem_singleton.mp hq]; exact hwr)⟩
/-- a read of a row of ints, with what is read -/
theorem hs_ald (C : ev_cx p s m args meth c cc nL o D tys aK aV b0) {j : Nat} {t : Nat × Nat × Int × Int} {q b : Int × Int} {tq ta : ev_t} (hstep : ∀ (ls : Array Slot) (w : va_W) (i x : Int32), ev_w tys T ad w → ev_lo T.length ad γ L ls → (∀ f ∈ FS, ev_fact γ ls w f) → I w → en_in q i → ev_tag ls w tq (.int i) → 0 ≤ i.toInt → i.toInt < t.2.1 → x.toInt = gA w j i.toInt.toNat → en_in t.2.2 x → I' w ∧ en_in b x) (ht : T[j]? = some (.inl t)) (h3 : t.1 = 0)
    (hq : ∀ (ls : Array Slot) (w : va_W) (i : Int32), ev_w tys T ad w → ev_lo T.length ad γ L ls → (∀ f ∈ FS, ev_fact γ ls w f) → I w → en_in q i → ev_tag ls w tq (.int i) → 0 ≤ i.toInt ∧ i.toInt < t.2.1) (hd : decode cc pc = .ok (.iaload, 1))
    (k : ev_go p l e R s m args below meth c Q D tys T I' b0 nL ad w0 Wr γ (pc + 1, L, (.inl b, ev_nt) :: S, FS, RS)) : ev_go p l e R s m args below meth c Q D tys T I b0 nL ad w0 Wr γ (pc, L, (.inl q, tq) :: (.inr (j + 2), ta) :: S, FS, RS) := by
  intro H locs ls stk ws h
  dsimp only at h
  obtain ⟨hz, hl, hs, hF, hR, hw, hI, hP, hD, hS, hfr⟩ := h
  obtain ⟨x0, ys, rfl, ⟨i, rfl, hi⟩, hti, hs1⟩ := ev_stk_cons hs
  obtain ⟨x, zs, rfl, hx, -, hs2⟩ := ev_stk_cons hs1
  obtain ⟨rfl, hj⟩ : x = .ref (ad j) ∧ j < T.length := hx
  obtain ⟨e0, g1, ge⟩ := hw.2 j _ ht
  unfold ev_c at ge
  dsimp only at ge
  rw [if_neg (by rw [h3]; decide)] at ge
  obtain ⟨cA, f, rfl, g2, g3⟩ := ge
  obtain ⟨i0, i1⟩ := hq ls ws i hw hl hF hI hi hti
  obtain ⟨a1, a2⟩ := hstep ls ws i (f i.toNatClampNeg) hw hl hF hI hi hti i0 i1 (by rw [gA_eq g1]; rfl) (g3 _ (en_clamp i0 i1))
  exact va_iald C.1 C.2.1 C.2.2.2.2.2.1 hP j t.1 g1 (by rw [g2, h3]; rfl) (vp_in_iff.mpr ⟨i0, i1⟩) hd (k H locs ls (.int (f i.toNatClampNeg) :: zs) ws ⟨hz, hl, ⟨⟨⟨_, rfl, a2⟩, ev_tag0⟩, hs2⟩, hF, hR, hw, a1, hP, hD, hS, hfr⟩)
/-- ends -/
theorem hs_iret (C : ev_cx p s m args meth c cc nL o D tys aK aV b0) {ret : Option FieldType} {q : Int × Int} {t : ev_t} {i : Nat} {a : en_V} {fs : List ev_f} (hJ : ∀ (ls : Array Slot) (w : va_W) (x : Int32), ev_w tys T ad w → ev_lo T.length ad γ L ls → (∀ f ∈ FS, ev_fact γ ls w f) → I w → en_in q x → ev_tag ls w t (.int x) → J i x.toInt w) (hret : meth.sig.returnType = ret) (hsome : ret.isSome = true) (hrt : en_rt ret q = true) (hi : (ek_out κ)[i]? = some (some a, fs)) (hle : en_le (.inl q) a = true) (hfs : fs.all (ev_has T FS) = true) (hWr : Wr = ek_wr κ) (hQ : Q = MQ below (hk_qc D tys T J b0 ad w0 κ ret.isSome) args s 0 0 (fun q => b0 ≤ q)) (hd : decode cc pc = .ok (.ireturn, 1)) : ev_go p l e R s m args below meth c Q D tys T I b0 nL ad w0 Wr γ (pc, L, [(.inl q, t)], FS, RS) := by
  intro H locs ls stk ws ha
  dsimp only at ha
  obtain ⟨hz, hl, hs, hf, hRr, hw, hI, hP, hD, hS, hfr⟩ := ha
  obtain ⟨x0, ys, rfl, hv0, htg, hs1⟩ := ev_stk_cons hs
  have hv1 := hv0
  obtain ⟨v, rfl, hv⟩ := hv0
  cases ys with
  | cons a b => exact hs1.elim
  | nil =>
    subst hQ
    subst hWr
    have hq : ∀ t : State, t.heap = H → s.WarmedH t.vm → hk_qc D tys T J b0 ad w0 κ ret.isSome args s (.returned (some (.int v))) t := fun t ht _ => by
      rw [hsome]
      exact ⟨⟨v, ws, rfl, ⟨hw, hfr, i, _, hi, hJ ls ws v hw hl hf hI hv htg, ⟨a, rfl, en_le_ok hle hv1⟩, fun f hf1 => ev_has_ok hf hw (List.all_eq_true.mp hfs f hf1)⟩, by show va_P D vwCl ws t.heap ∧ va_D (fun q => b0 ≤ q) ws; rw [ht]; exact ⟨hP, hD⟩⟩, hS.F ht⟩
    have hlocks := C.2.2.2.2.2.2.2.2
    unfold en_rt at hrt
    split at hrt
    · exact W.iret C.1 C.2.1 hret hq hS.2.2 hd
    · simp only [Bool.and_eq_true, decide_eq_true_eq] at hrt
      obtain ⟨hv2, hv3⟩ := hv
      exact W.zret C.1 C.2.1 hret (en_nar_z (by omega) (by omega)) hq hS.2.2 hd
    · cases hrt
theorem hs_vret (C : ev_cx p s m args meth c cc nL o D tys aK aV b0) {i : Nat} {fs : List ev_f} (hJ : ∀ (ls : Array Slot) (w : va_W), ev_w tys T ad w → ev_lo T.length ad γ L ls → (∀ f ∈ FS, ev_fact γ ls w f) → I w → J i 0 w) (hret : meth.sig.returnType = none) (hi : (ek_out κ)[i]? = some (none, fs)) (hfs : fs.all (ev_has T FS) = true) (hWr : Wr = ek_wr κ) (hQ : Q = MQ below (hk_qc D tys T J b0 ad w0 κ false) args s 0 0 (fun q => b0 ≤ q)) (hd : decode cc pc = .ok (.return_, 1)) : ev_go p l e R s m args below meth c Q D tys T I b0 nL ad w0 Wr γ (pc, L, [], FS, RS) := by
  intro H locs ls stk ws ha
  dsimp only at ha
  obtain ⟨hz, hl, hs, hf, hRr, hw, hI, hP, hD, hS, hfr⟩ := ha
  cases stk with
  | cons a b => exact hs.elim
  | nil =>
    subst hQ
    subst hWr
    have hlocks := C.2.2.2.2.2.2.2.2
    refine W.vret C.1 C.2.1 hret (fun t ht _ => ?_) hS.2.2 hd
    exact ⟨⟨ws, rfl, ⟨hw, hfr, i, _, hi, hJ ls ws hw hl hf hI, rfl, fun f hf1 => ev_has_ok hf hw (List.all_eq_true.mp hfs f hf1)⟩, by show va_P D vwCl ws t.heap ∧ va_D (fun q => b0 ≤ q) ws; rw [ht]; exact ⟨hP, hD⟩⟩, hS.F ht⟩
/-- exits keep tags and marks -/
def hv_lle (a b : ev_l) : Bool := match b with
  | none => true
  | some y => match a with
    | some x => (y.2.isNone || x.2 == y.2) && en_le x.1 y.1
    | none => false
def hv_sle (a b : ev_s) : Bool := en_le a.1 b.1 && (b.2.1 == 0 || a.2 == b.2)
def hv_sub (T : en_T) (st x : ev_S) : Bool := st.1 == x.1 && (en_all2 hv_lle st.2.1 x.2.1 && (en_all2 hv_sle st.2.2.1 x.2.2.1 && (x.2.2.2.1.all (fun f => ev_has T st.2.2.2.1 f || st.2.2.2.1.contains f) && x.2.2.2.2.all (ev_rle st.2.1 st.2.2.2.2))))
theorem hv_sle_ok {N : Nat} {ls : Array Slot} {ws : va_W} : ∀ {as bs : List ev_s} {xs : List Value}, en_all2 hv_sle as bs = true → ev_stk N ad ls ws as xs → ev_stk N ad ls ws bs xs
  | [], [], [], _, _ => trivial
  | a :: as, b :: bs, x :: xs, h, hs => by
    simp only [en_all2, hv_sle, Bool.and_eq_true, Bool.or_eq_true, beq_iff_eq] at h
    refine ⟨⟨en_le_ok h.1.1 hs.1.1, ?_⟩, hv_sle_ok h.2 hs.2⟩
    rcases h.1.2 with h0 | h0
    · exact Or.inl h0
    · rw [← h0]; exact hs.1.2
  | [], [], _ :: _, _, hs => hs.elim
  | _ :: _, _, [], _, hs => hs.elim
  | [], _ :: _, _, h, _ => by cases h
  | _ :: _, [], _, h, _ => by cases h
theorem hv_sub_at {x : ev_S} {H : Heap} {locs : List Loc} {ls : Array Slot} {stk : List Value} {ws : va_W} (h : hv_sub T st x = true) (ha : ev_at s D tys T I b0 nL ad w0 Wr γ st.2.1 st.2.2.1 st.2.2.2.1 st.2.2.2.2 H locs ls stk ws) : st.1 = x.1 ∧ ev_at s D tys T I b0 nL ad w0 Wr γ x.2.1 x.2.2.1 x.2.2.2.1 x.2.2.2.2 H locs ls stk ws := by
  unfold hv_sub at h
  simp only [Bool.and_eq_true, beq_iff_eq] at h
  obtain ⟨h1, h2, h3, h4, h5⟩ := h
  obtain ⟨⟨z1, z2, z3⟩, hl, hs, hf, hR, hr⟩ := ha
  refine ⟨h1, ⟨z1, z2, (en_all2_len h2).symm.trans z3⟩, fun i q hi => ?_, hv_sle_ok h3 hs, fun f hf1 => ?_, fun r hr1 => ev_rle_ok hl hR (List.all_eq_true.mp h5 r hr1), hr⟩
  · obtain ⟨b, g1, g2⟩ := en_all2_get h2 hi
    unfold hv_lle at g2
    cases b with
    | none => cases g2
    | some y =>
      obtain ⟨v, g3, g4, g5⟩ := hl i y g1
      simp only [Bool.and_eq_true, Bool.or_eq_true, Option.isNone_iff_eq_none, beq_iff_eq] at g2
      refine ⟨v, g3, en_le_ok g2.2 g4, ?_⟩
      rcases g2.1 with g6 | g6
      · rw [g6]; trivial
      · rw [← g6]; exact g5
  · have h6 := List.all_eq_true.mp h4 f hf1
    rw [Bool.or_eq_true] at h6
    rcases h6 with h6 | h6
    · have h7 := ev_has_ok hf hr.1 h6
      obtain ⟨y, h8, h9⟩ := ev_ff_use (γ := γ) (ls := ls) h7
      unfold ev_has at h6
      simp only [Bool.and_eq_true, Option.isNone_iff_eq_none] at h6
      exact ⟨y, h8, h9, by rw [h6.2.1]; trivial⟩
    · exact hf f (List.contains_iff_mem.mp h6)
/-- walks to the exits: no ends, no heads -/
def hv_run (o : Nat) (cc : ByteArray) (T : en_T) (sp Wr : List (Nat × Nat)) (K : List ek) (rm : Nat × Nat) (SP : List (Nat × List (Nat × List Int))) (xs : List ev_S) : Nat → ev_S → Bool
  | 0, _ => false
  | n + 1, (pc, L, S, FS, RS) => xs.any (fun x => hv_sub T (pc, L, S, FS, RS) x) || (match decode cc pc with
    | .ok (op, len) => (ev_spl (ev_hn SP pc) (pc, L, S, FS, RS)).all (fun st => match ev_op o T sp Wr K rm op len pc st.2.1 st.2.2.1 st.2.2.2.1 st.2.2.2.2 with
      | some ss => ss.all (hv_run o cc T sp Wr K rm SP xs n)
      | none => false)
    | .error _ => false)
theorem hv_run_ok (C : ev_cx p s m args meth c cc nL o D tys aK aV b0) {K : List ek} {rm : Nat × Nat} {SP : List (Nat × List (Nat × List Int))} {xs : List ev_S} (hI0 : ev_hI I sp) (hK : ∀ κ ∈ K, ek_ok l T I κ) (hR : R.frames = rm.1 ∧ R.locals = rm.2) (hX : ∀ x ∈ xs, ev_go p l e R s m args below meth c Q D tys T I b0 nL ad w0 Wr γ x) :
    ∀ (n : Nat) (st : ev_S), hv_run o cc T sp Wr K rm SP xs n st = true → ev_go p l e R s m args below meth c Q D tys T I b0 nL ad w0 Wr γ st := by
  intro n
  induction n with
  | zero => intro st h; cases h
  | succ n ih =>
    intro st h
    obtain ⟨pc, L, S, FS, RS⟩ := st
    unfold hv_run at h
    rw [Bool.or_eq_true] at h
    rcases h with h | h
    · obtain ⟨x, h1, h2⟩ := List.any_eq_true.mp h
      intro H locs ls stk ws ha
      obtain ⟨h4, h5⟩ := hv_sub_at h2 ha
      have h6 := hX x h1 H locs ls stk ws h5
      rw [← h4] at h6
      exact h6
    · split at h
      · rename_i op len hd
        refine ev_spl_ok (hs := ev_hn SP pc) (fun u hu he => ?_)
        have h1 := List.all_eq_true.mp h u hu
        obtain ⟨pu, Lu, Su, Fu, Ru⟩ := u
        dsimp only at he h1
        subst he
        split at h1
        · rename_i ss hss
          exact ev_op_ok C hI0 hK hR hd hss (fun st hst => ih st (List.all_eq_true.mp h1 st hst))
        · cases h1
      · cases h
end HVC
/-- a contract by hand out of a walk of its body -/
theorem hk_ok_of {l : Launch} {T : en_T} {I : va_W → Prop} {J : Nat → Int → va_W → Prop} {κ : ek} {r : MethodName × ByteArray × Nat × Option FieldType} {o : Nat} (hr : en_ms[κ.1]? = some r) (ho : en_mo[κ.1]? = some o) (hp : Jvm.plainName r.1.cls = true) (hm : κ.2.1.length ≤ r.2.2.1) (hg : (ek_pre κ).all (fun f => f.2.2.isNone) = true)
    (body : ∀ (p : Program) (e : Env) (s : State) (m : MethodId) (args : Array Value) (below : List Frame) (meth : Method) (c : Code) (D : va_G) (tys : List (ClassId × FieldType)) (aK aV b0 : Nat) (ad : Nat → Nat) (w0 : va_W), ev_cx p s m args meth c r.2.1 r.2.2.1 o D tys aK aV b0 → meth.sig.returnType = r.2.2.2 →
      ev_go p l e (ek_rm κ) s m args below meth c (MQ below (hk_qc D tys T J b0 ad w0 κ r.2.2.2.isSome) args s 0 0 (fun q => b0 ≤ q)) D tys T I b0 r.2.2.1 ad w0 (ek_wr κ) (fun _ => 0) (ek_start κ r.2.2.1)) : hk_ok l T I J κ := by
  intro r' hr' D tys aK aV b0 ad w0 as hargs hw hI hpre
  rw [hr] at hr'
  cases hr'
  refine Met.ofW (cc := r.2.1) (maxL := r.2.2.1) (ret := r.2.2.2) hp rfl ?_
  intro p e s m args below meth c s₁ B hml hv
  obtain ⟨rfl, hsz, hP, hD, hKs, hX⟩ := hv
  have hts := atoms_spec (ws := Cond.code r.1 r.2.1 r.2.2.1 r.2.2.2 :: en_ws) B.pre
  have hown : s.vm.findClass (en_nm o) = some m.cls := by rw [en_mo_ok hr ho]; exact findClass_of_methodNamed B.named
  have C : ev_cx p s m as.toArray meth c r.2.1 r.2.2.1 o D tys aK aV b0 := ⟨B.exec, B.bytes, hml, hown, fun w hw => hts w (List.mem_cons_of_mem _ hw), hKs, hsz, hX, B.notSynchronized⟩
  rw [lg_entry_eq]
  obtain ⟨h1, h2⟩ := ev_L0_ok (γ := fun _ => 0) hargs hm
  refine body p e s m as.toArray below meth c D tys aK aV b0 ad w0 C B.returns s.heap [] _ [] w0 ⟨h1, h2, trivial, fun f hf => ?_, fun r hr => absurd hr List.not_mem_nil, hw, hI, hP, hD, va_S.rf, ev_fr.rf _ _⟩
  obtain ⟨x, h3, h4⟩ := ev_ff_use (γ := fun _ => 0) (hpre f hf)
  have h5 := List.all_eq_true.mp hg f hf
  simp only [Option.isNone_iff_eq_none] at h5
  exact ⟨x, h3, h4, by rw [h5]; trivial⟩
def ev_all {α : Type} (f : α → Prop) : List α → Prop
  | [] => True
  | a :: as => f a ∧ ev_all f as
theorem ev_all_mem {α : Type} {f : α → Prop} : ∀ {as : List α}, ev_all f as → ∀ a ∈ as, f a
  | [], _, a, h => absurd h List.not_mem_nil
  | b :: as, h, a, ha => by
    rcases List.mem_cons.mp ha with rfl | ha
    · exact h.1
    · exact ev_all_mem h.2 a ha
section HVG
variable {p : Program} {l : Launch} {e : Env} {R : Room} {s : State} {m : MethodId} {args : Array Value} {below : List Frame} {meth : Method} {c : Code} {Q : State → Prop} {cc : ByteArray} {D : va_G} {tys : List (ClassId × FieldType)} {T : en_T} {I : va_W → Prop} {aK aV b0 nL o : Nat} {ad : Nat → Nat} {w0 : va_W} {γ γ' : Nat → Int} {pc : Nat} {L : List ev_l} {S : List ev_s} {FS : List ev_f} {RS : List ev_r}
theorem hv_go (C : ev_cx p s m args meth c cc nL o D tys aK aV b0) {sp : List (Nat × Nat)} (hI0 : ev_hI I sp) (Wr : List (Nat × Nat)) (K : List ek) (rm : Nat × Nat) (SP : List (Nat × List (Nat × List Int))) (xs : List ev_S) (n : Nat) {st : ev_S} (hR : R.frames = rm.1 ∧ R.locals = rm.2) (h : hv_run o cc T sp Wr K rm SP xs n st = true) (hK : ev_all (ek_ok l T I) K) (hX : ev_all (ev_go p l e R s m args below meth c Q D tys T I b0 nL ad w0 Wr γ) xs) : ev_go p l e R s m args below meth c Q D tys T I b0 nL ad w0 Wr γ st :=
  hv_run_ok C hI0 (fun κ hκ => ev_all_mem hK κ hκ) hR (fun x hx => ev_all_mem hX x hx) n st h
/-- a mark moved on -/
theorem ev_go_re {Wr : List (Nat × Nat)} {i n : Nat} {d : Int} {q : Int × Int} (hi : L[i]? = some (some (.inl q, some (n, d)))) (hg : ev_ng (L.set i none) FS = true) (hγ : γ' n = γ n + d) (k : ev_go p l e R s m args below meth c Q D tys T I b0 nL ad w0 Wr γ' (pc, L.set i (some (.inl q, some (n, 0))), S, FS, RS)) : ev_go p l e R s m args below meth c Q D tys T I b0 nL ad w0 Wr γ (pc, L, S, FS, RS) := by
  intro H locs ls stk ws ha
  dsimp only at ha
  obtain ⟨⟨z1, z2, z3⟩, hl, hs, hF, hR, hw, hI, hr⟩ := ha
  have hl0 : ev_lo T.length ad γ (L.set i none) ls := fun j u hj => by
    by_cases hji : j = i
    · subst hji
      rw [List.getElem?_set_self (List.getElem?_eq_some_iff.mp hi).1] at hj
      cases hj
    · rw [List.getElem?_set_ne (Ne.symm hji)] at hj
      exact hl j u hj
  have hl1 := ev_ng_lo (γ' := γ') hg hl0
  refine k H locs ls stk ws ⟨⟨z1, z2, by dsimp only; rw [List.length_set]; exact z3⟩, fun j u hj => ?_, hs, ev_ng_f hg hF, hR, hw, hI, hr⟩
  by_cases hji : j = i
  · subst hji
    dsimp only at hj
    rw [List.getElem?_set_self (List.getElem?_eq_some_iff.mp hi).1] at hj
    cases hj
    obtain ⟨x, g1, g2, z, rfl, g3⟩ := hl j _ hi
    exact ⟨_, g1, g2, z, rfl, by dsimp only at g3 ⊢; omega⟩
  · refine hl1 j u ?_
    rw [List.getElem?_set_ne (Ne.symm hji)]
    dsimp only at hj
    rw [List.getElem?_set_ne (Ne.symm hji)] at hj
    exact hj
end HVG
theorem tag_f {ls : Array Slot} {w : va_W} {j f : Nat} {d : Int} {x : Int32} (h : ev_tag ls w (2, j, f, d) (.int x)) : x.toInt = gI w j f + d := by
  rcases h with h | ⟨i, y, e1, e2, e3⟩
  · cases h
  · cases e1
    rw [e3, gI_loc e2]
theorem tag_l {ls : Array Slot} {w : va_W} {i b : Nat} {d : Int} {x : Int32} (h : ev_tag ls w (1, i, b, d) (.int x)) : ∃ y : Int32, ls[i]? = some (.val (.int y)) ∧ x.toInt = y.toInt + d := by
  rcases h with h | ⟨j, y, e1, e2, e3⟩
  · cases h
  · cases e1
    exact ⟨y, e2, e3⟩
theorem lo_mark {N : Nat} {ad : Nat → Nat} {γ : Nat → Int} {L : List ev_l} {ls : Array Slot} {i n : Nat} {d : Int} {q : Int × Int} {y : Int32} (h : ev_lo N ad γ L ls) (hi : L[i]? = some (some (.inl q, some (n, d)))) (hy : ls[i]? = some (.val (.int y))) : y.toInt = γ n + d := by
  obtain ⟨x, h1, -, z, rfl, h3⟩ := h i _ hi
  rw [h1] at hy
  cases hy
  exact h3
theorem hk_ex {α : Type} {l : Launch} {T : en_T} {A : α → va_W → Prop} {J : Nat → Int → va_W → Prop} {κ : ek} (h : ∀ v, hk_ok l T (A v) J κ) : hk_ok l T (fun w => ∃ v, A v w) J κ := by
  intro r hr D tys aK aV b0 ad w0 as h1 h2 h3 h4
  obtain ⟨v, h3⟩ := h3
  exact h v r hr D tys aK aV b0 ad w0 as h1 h2 h3 h4
theorem hk_mono {l : Launch} {T : en_T} {I I' : va_W → Prop} {J J' : Nat → Int → va_W → Prop} {κ : ek} (h : hk_ok l T I' J κ) (h0 : ∀ w, I w → I' w) (hJ : ∀ i x w, J i x w → J' i x w) : hk_ok l T I J' κ := by
  intro r hr D tys aK aV b0 ad w0 as h1 h2 h3 h4
  refine met_post (h r hr D tys aK aV b0 ad w0 as h1 h2 (h0 _ h3) h4) (fun a st o t hq => ?_)
  cases hv : r.2.2.2.isSome with
  | true =>
    rw [hv] at hq
    obtain ⟨⟨x, u, e1, ⟨p1, p2, i, v, p3, p4, p5, p6⟩, e3⟩, e4⟩ := hq
    exact ⟨⟨x, u, e1, ⟨p1, p2, i, v, p3, hJ _ _ _ p4, p5, p6⟩, e3⟩, e4⟩
  | false =>
    rw [hv] at hq
    obtain ⟨⟨u, e1, ⟨p1, p2, i, v, p3, p4, p5, p6⟩, e3⟩, e4⟩ := hq
    exact ⟨⟨u, e1, ⟨p1, p2, i, v, p3, hJ _ _ _ p4, p5, p6⟩, e3⟩, e4⟩
section HVX
variable {p : Program} {l : Launch} {e : Env} {R : Room} {s : State} {m : MethodId} {args : Array Value} {below : List Frame} {meth : Method} {c : Code} {Q : State → Prop} {D : va_G} {tys : List (ClassId × FieldType)} {T : en_T} {b0 nL : Nat} {ad : Nat → Nat} {w0 : va_W} {Wr : List (Nat × Nat)} {γ : Nat → Int} {st : ev_S}
theorem ev_go_exP {α : Type} {A : α → Prop} {B : α → va_W → Prop} (k : ∀ v, A v → ev_go p l e R s m args below meth c Q D tys T (B v) b0 nL ad w0 Wr γ st) : ev_go p l e R s m args below meth c Q D tys T (fun w => ∃ v, A v ∧ B v w) b0 nL ad w0 Wr γ st := by
  intro H locs ls stk ws ha
  obtain ⟨hz, hl, hs, hF, hR, hw, ⟨v, hA, hI⟩, hr⟩ := ha
  exact k v hA H locs ls stk ws ⟨hz, hl, hs, hF, hR, hw, hI, hr⟩
theorem ev_go_or {A B : va_W → Prop} (k1 : ev_go p l e R s m args below meth c Q D tys T A b0 nL ad w0 Wr γ st) (k2 : ev_go p l e R s m args below meth c Q D tys T B b0 nL ad w0 Wr γ st) : ev_go p l e R s m args below meth c Q D tys T (fun w => A w ∨ B w) b0 nL ad w0 Wr γ st := by
  intro H locs ls stk ws ha
  obtain ⟨hz, hl, hs, hF, hR, hw, hI, hr⟩ := ha
  rcases hI with hI | hI
  · exact k1 H locs ls stk ws ⟨hz, hl, hs, hF, hR, hw, hI, hr⟩
  · exact k2 H locs ls stk ws ⟨hz, hl, hs, hF, hR, hw, hI, hr⟩
end HVX
theorem ev_hI_and {I E : va_W → Prop} {sp : List (Nat × Nat)} (h1 : ev_hI I sp) (h2 : ev_hI E sp) : ev_hI (fun w => I w ∧ E w) sp := fun W1 w w' h3 h4 h5 => ⟨h1 W1 w w' h3 h4 h5.1, h2 W1 w w' h3 h4 h5.2⟩
theorem ek_upS {l : Launch} {T : en_T} {I I0 : va_W → Prop} {κ : ek} {sp : List (Nat × Nat)} (hI : ev_hI I sp) (h0 : ∀ w, I w → I0 w) (hd : (ek_wr κ).all (fun q => !sp.contains q) = true) (h : ek_ok l T I0 κ) : ek_ok l T I κ := by
  refine ek_up h h0 (fun w w' hf hi => hI (ek_wr κ) w w' (fun q hq hm => ?_) hf hi)
  have h1 := List.all_eq_true.mp hd q hq
  rw [List.contains_iff_mem.mpr hm] at h1
  cases h1
theorem lo_rng {N : Nat} {ad : Nat → Nat} {γ : Nat → Int} {L : List ev_l} {ls : Array Slot} {i n : Nat} {d : Int} {q : Int × Int} (h : ev_lo N ad γ L ls) (hi : L[i]? = some (some (.inl q, some (n, d)))) : q.1 ≤ γ n + d ∧ γ n + d ≤ q.2 := by
  obtain ⟨x, h1, ⟨y, rfl, h2⟩, z, e, h3⟩ := h i _ hi
  cases e
  rw [← h3]
  exact h2
def ev_nk (k : Nat) (L : List ev_l) (FS : List ev_f) : Bool := L.all (fun q => match q with
  | some (_, some (n, _)) => n != k
  | _ => true) && FS.all (fun f => match f.2.2 with
  | some (n, _) => n != k
  | none => true)
def ev_gu (k : Nat) (v : Int) (γ : Nat → Int) : Nat → Int := fun n => if n = k then v else γ n
section HVY
variable {p : Program} {l : Launch} {e : Env} {R : Room} {s : State} {m : MethodId} {args : Array Value} {below : List Frame} {meth : Method} {c : Code} {Q : State → Prop} {D : va_G} {tys : List (ClassId × FieldType)} {T : en_T} {I : va_W → Prop} {b0 nL : Nat} {ad : Nat → Nat} {w0 : va_W} {Wr : List (Nat × Nat)} {γ : Nat → Int} {pc : Nat} {L : List ev_l} {S : List ev_s} {FS : List ev_f} {RS : List ev_r}
/-- a mark that is not in use may be given -/
theorem ev_go_gv (k : Nat) (v : Int) (h : ev_nk k L FS = true) (go : ev_go p l e R s m args below meth c Q D tys T I b0 nL ad w0 Wr (ev_gu k v γ) (pc, L, S, FS, RS)) : ev_go p l e R s m args below meth c Q D tys T I b0 nL ad w0 Wr γ (pc, L, S, FS, RS) := by
  intro H locs ls stk ws ha
  dsimp only at ha
  obtain ⟨hz, hl, hs, hF, hr⟩ := ha
  unfold ev_nk at h
  rw [Bool.and_eq_true] at h
  refine go H locs ls stk ws ⟨hz, fun i q hi => ?_, hs, fun f hf => ?_, hr⟩
  · obtain ⟨x, h1, h2, h3⟩ := hl i q hi
    refine ⟨x, h1, h2, ?_⟩
    have h4 := List.all_eq_true.mp h.1 _ (List.mem_of_getElem? hi)
    obtain ⟨a, g⟩ := q
    cases g with
    | none => trivial
    | some u =>
      obtain ⟨n, d⟩ := u
      simp only [bne_iff_ne, ne_eq] at h4
      obtain ⟨y, e1, e2⟩ := h3
      refine ⟨y, e1, ?_⟩
      unfold ev_gu
      dsimp only
      rw [if_neg h4]
      exact e2
  · obtain ⟨x, h1, h2, h3⟩ := hF f hf
    refine ⟨x, h1, h2, ?_⟩
    have h4 := List.all_eq_true.mp h.2 f hf
    obtain ⟨a, b, g⟩ := f
    cases g with
    | none => trivial
    | some u =>
      obtain ⟨n, d⟩ := u
      simp only [bne_iff_ne, ne_eq] at h4
      obtain ⟨y, e1, e2⟩ := h3
      refine ⟨y, e1, ?_⟩
      unfold ev_gu
      dsimp only
      rw [if_neg h4]
      exact e2
theorem ev_go_lo {i n : Nat} {d : Int} {q : Int × Int} (hi : L[i]? = some (some (.inl q, some (n, d)))) (go : q.1 ≤ γ n + d → γ n + d ≤ q.2 → ev_go p l e R s m args below meth c Q D tys T I b0 nL ad w0 Wr γ (pc, L, S, FS, RS)) : ev_go p l e R s m args below meth c Q D tys T I b0 nL ad w0 Wr γ (pc, L, S, FS, RS) := by
  intro H locs ls stk ws ha
  have h := lo_rng ha.2.1 hi
  exact go h.1 h.2 H locs ls stk ws ha
end HVY
theorem hk_exP {α : Type} {l : Launch} {T : en_T} {A : α → Prop} {B : α → va_W → Prop} {J : Nat → Int → va_W → Prop} {κ : ek} (h : ∀ v, A v → hk_ok l T (B v) J κ) : hk_ok l T (fun w => ∃ v, A v ∧ B v w) J κ := by
  intro r hr D tys aK aV b0 ad w0 as h1 h2 h3 h4
  obtain ⟨v, h5, h3⟩ := h3
  exact h v h5 r hr D tys aK aV b0 ad w0 as h1 h2 h3 h4
theorem ek_and {l : Launch} {T : en_T} {A E : va_W → Prop} {κ : ek} (h : ek_ok l T A κ) (hE : ∀ w w', ev_fr (ek_wr κ) w w' → E w → E w') : ek_ok l T (fun w => A w ∧ E w) κ := by
  intro r hr D tys aK aV b0 ad w0 as h1 h2 h3 h4
  refine met_post (h r hr D tys aK aV b0 ad w0 as h1 h2 h3.1 h4) (fun a st o t hq => ?_)
  cases hv : r.2.2.2.isSome with
  | true =>
    rw [hv] at hq
    obtain ⟨⟨x, u, e1, ⟨p1, p2, p3, p4⟩, e3⟩, e4⟩ := hq
    exact ⟨⟨x, u, e1, ⟨p1, ⟨p2, hE _ _ p3 h3.2⟩, p3, p4⟩, e3⟩, e4⟩
  | false =>
    rw [hv] at hq
    obtain ⟨⟨u, e1, ⟨p1, p2, p3, p4⟩, e3⟩, e4⟩ := hq
    exact ⟨⟨u, e1, ⟨p1, ⟨p2, hE _ _ p3 h3.2⟩, p3, p4⟩, e3⟩, e4⟩
