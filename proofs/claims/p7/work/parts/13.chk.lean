def ev_spl : List (Nat × List Int) → ev_S → List ev_S
  | [], st => [st]
  | h :: hs, st => match st.2.2.1[h.1]? with
    | some (.inl q, t) => (ev_cut q h.2).flatMap (fun u => ev_spl hs (st.1, (ev_rf st.2.1 st.2.2.2.1 t u).1, st.2.2.1.set h.1 (.inl u, t), (ev_rf st.2.1 st.2.2.2.1 t u).2, st.2.2.2.2))
    | _ => [st]
def ev_hn (SP : List (Nat × List (Nat × List Int))) (pc : Nat) : List (Nat × List Int) := match SP with
  | [] => []
  | h :: hs => match h.1 == pc with
    | true => h.2
    | false => ev_hn hs pc
def en_rt (ret : Option FieldType) (q : Int × Int) : Bool := match ret with
  | some .int => true
  | some .boolean => decide (0 ≤ q.1) && decide (q.2 ≤ 1)
  | _ => false
def ev_dw (cur : Option (List ev_m)) (ms : List ev_m) (L : List ev_l) (FS : List ev_f) : Bool := match cur with
  | none => true
  | some cs => ev_dec L FS 0 cs ms
def ev_chk (o : Nat) (cc : ByteArray) (T : en_T) (sp Wr : List (Nat × Nat)) (K : List ek) (rm : Nat × Nat) (ret : Option FieldType) (outs : List (Option en_V × List ev_f)) (SP : List (Nat × List (Nat × List Int))) (HS : List (ev_S × List ev_m)) (xs : List ev_S) (cur : Option (List ev_m)) : Nat → ev_S → Bool
  | 0, _ => false
  | n + 1, (pc, L, S, FS, RS) => HS.any (fun h => ev_sub2 T (pc, L, S, FS, RS) h.1 && ev_dw cur h.2 L FS) || (xs.any (fun x => ev_sub2 T (pc, L, S, FS, RS) x) || (match decode cc pc with
    | .ok (.ireturn, len) => (match S with
      | (.inl q, _) :: [] => len == 1 && (ret.isSome && (en_rt ret q && outs.any (fun u => (match u.1 with
        | some a => en_le (.inl q) a
        | none => false) && u.2.all (ev_has T FS))))
      | _ => false)
    | .ok (.return_, len) => (match S with
      | [] => len == 1 && (ret.isNone && outs.any (fun u => u.1.isNone && u.2.all (ev_has T FS)))
      | _ => false)
    | .ok (op, len) => (ev_spl (ev_hn SP pc) (pc, L, S, FS, RS)).all (fun st => match ev_op o T sp Wr K rm op len pc st.2.1 st.2.2.1 st.2.2.2.1 st.2.2.2.2 with
      | some ss => ss.all (ev_chk o cc T sp Wr K rm ret outs SP HS xs cur n)
      | none => false)
    | .error _ => false))
section EVK
variable {p : Program} {l : Launch} {e : Env} {R : Room} {s : State} {m : MethodId} {args : Array Value} {below : List Frame} {meth : Method} {c : Code} {Q : State → Prop} {cc : ByteArray} {D : va_G} {tys : List (ClassId × FieldType)} {T : en_T} {I : va_W → Prop} {sp : List (Nat × Nat)} {aK aV b0 nL o : Nat} {ad : Nat → Nat} {w0 : va_W} {Wr : List (Nat × Nat)} {γ : Nat → Int}
variable {K : List ek} {rm : Nat × Nat} {ret : Option FieldType} {SP : List (Nat × List (Nat × List Int))} {HS : List (ev_S × List ev_m)} {xs : List ev_S} {cur : Option (List ev_m)} {κ : ek}
theorem ev_spl_ok : ∀ {hs : List (Nat × List Int)} {st : ev_S}, (∀ u ∈ ev_spl hs st, u.1 = st.1 → ev_go p l e R s m args below meth c Q D tys T I b0 nL ad w0 Wr γ u) → ev_go p l e R s m args below meth c Q D tys T I b0 nL ad w0 Wr γ st
  | [], st, k => k st List.mem_cons_self rfl
  | h :: hs, (pc, L, S, FS, RS), k => by
    unfold ev_spl at k
    dsimp only at k
    split at k
    · rename_i q t hq
      refine fs_split hq (fun u hu => ev_spl_ok (hs := hs) (fun w hw he => k w (List.mem_flatMap.mpr ⟨u, hu, hw⟩) he))
    · exact k _ List.mem_cons_self rfl
theorem ev_chk_ok (C : ev_cx p s m args meth c cc nL o D tys aK aV b0) (hI0 : ev_hI I sp) (hK : ∀ κ ∈ K, ek_ok l T I κ) (hR : R.frames = rm.1 ∧ R.locals = rm.2) (hret : meth.sig.returnType = ret) (hWr : Wr = ek_wr κ) (hQ : Q = MQ below (ek_qc D tys T I b0 ad w0 κ ret.isSome) args s 0 0 (fun q => b0 ≤ q))
    (hH : ∀ h ∈ HS, ∀ (γ' : Nat → Int) (H : Heap) (locs : List Loc) (ls : Array Slot) (stk : List Value) (ws : va_W), ev_at s D tys T I b0 nL ad w0 Wr γ' h.1.2.1 h.1.2.2.1 h.1.2.2.2.1 h.1.2.2.2.2 H locs ls stk ws → ev_gx γ' ls ws 0 h.2 → (∀ cs, cur = some cs → ev_lx (ev_vec γ' 0 h.2) (ev_vec γ 0 cs)) → W p l e R s m args below meth c H locs 0 0 Q (F0 m h.1.1 ls stk))
    (hM : ∀ h ∈ HS, h.2.all (ev_mk T h.1.2.1) = true) (hX : ∀ x ∈ xs, ev_go p l e R s m args below meth c Q D tys T I b0 nL ad w0 Wr γ x) :
    ∀ (n : Nat) (st : ev_S), ev_chk o cc T sp Wr K rm ret (ek_out κ) SP HS xs cur n st = true → ev_go p l e R s m args below meth c Q D tys T I b0 nL ad w0 Wr γ st := by
  intro n
  induction n with
  | zero => intro st h; cases h
  | succ n ih =>
    intro st h
    obtain ⟨pc, L, S, FS, RS⟩ := st
    unfold ev_chk at h
    rw [Bool.or_eq_true, Bool.or_eq_true] at h
    rcases h with h | h | h
    · obtain ⟨x, h1, h2⟩ := List.any_eq_true.mp h
      rw [Bool.and_eq_true] at h2
      intro H locs ls stk ws ha
      have h3 := (ev_sub2_at (γ' := γ) h2.1 ha).2
      obtain ⟨γ', hg⟩ := ev_gx_ex (ls := ls) (ws := ws) (cs := x.2) (fun c0 hc => ev_mk_ok h3.2.1 h3.2.2.2.2.2.1 (List.all_eq_true.mp (hM x h1) c0 hc))
      obtain ⟨h4, h5⟩ := ev_sub2_at (γ' := γ') h2.1 ha
      have h6 := hH x h1 γ' H locs ls stk ws h5 hg (fun cs hcs => by
        have h7 := h2.2
        rw [hcs] at h7
        exact ev_dec_ok ha.2.1 ha.2.2.2.1 h7 hg)
      rw [← h4] at h6
      exact h6
    · obtain ⟨x, h1, h2⟩ := List.any_eq_true.mp h
      intro H locs ls stk ws ha
      obtain ⟨h4, h5⟩ := ev_sub2_at (γ' := γ) h2 ha
      have h6 := hX x h1 H locs ls stk ws h5
      rw [← h4] at h6
      exact h6
    · split at h
      · rename_i len hd
        split at h
        · rename_i q t
          simp only [Bool.and_eq_true, beq_iff_eq] at h
          obtain ⟨rfl, h0, h1, h2⟩ := h
          obtain ⟨u, hu, h3⟩ := List.any_eq_true.mp h2
          rw [Bool.and_eq_true] at h3
          obtain ⟨h3, h4⟩ := h3
          intro H locs ls stk ws ha
          dsimp only at ha
          obtain ⟨hz, hl, hs, hf, hRr, hw, hI, hP, hD, hS, hfr⟩ := ha
          obtain ⟨x0, ys, rfl, hv0, -, hs1⟩ := ev_stk_cons hs
          have hv1 := hv0
          obtain ⟨v, rfl, hv⟩ := hv0
          cases ys with
          | cons a b => exact hs1.elim
          | nil =>
            subst hQ
            subst hWr
            have hq : ∀ t : State, t.heap = H → s.WarmedH t.vm → ek_qc D tys T I b0 ad w0 κ ret.isSome args s (.returned (some (.int v))) t := fun t ht _ => by
              rw [h0]
              refine ⟨⟨v, ws, rfl, ⟨hw, hI, hfr, u, hu, ?_, fun f hf1 => ev_has_ok hf hw (List.all_eq_true.mp h4 f hf1)⟩, by show va_P D vwCl ws t.heap ∧ va_D (fun q => b0 ≤ q) ws; rw [ht]; exact ⟨hP, hD⟩⟩, hS.F ht⟩
              cases hua : u.1 with
              | none => rw [hua] at h3; cases h3
              | some a => rw [hua] at h3; exact ⟨a, rfl, en_le_ok h3 hv1⟩
            have hlocks := C.2.2.2.2.2.2.2.2
            unfold en_rt at h1
            split at h1
            · exact W.iret C.1 C.2.1 hret hq hS.2.2 hd
            · simp only [Bool.and_eq_true, decide_eq_true_eq] at h1
              obtain ⟨hv2, hv3⟩ := hv
              exact W.zret C.1 C.2.1 hret (en_nar_z (by omega) (by omega)) hq hS.2.2 hd
            · cases h1
        · cases h
      · rename_i len hd
        split at h
        · simp only [Bool.and_eq_true, beq_iff_eq, Option.isNone_iff_eq_none] at h
          obtain ⟨rfl, h1, h2⟩ := h
          obtain ⟨u, hu, h3⟩ := List.any_eq_true.mp h2
          simp only [Bool.and_eq_true, Option.isNone_iff_eq_none] at h3
          obtain ⟨h3, h4⟩ := h3
          intro H locs ls stk ws ha
          dsimp only at ha
          obtain ⟨hz, hl, hs, hf, hRr, hw, hI, hP, hD, hS, hfr⟩ := ha
          cases stk with
          | cons a b => exact hs.elim
          | nil =>
            subst hQ
            subst hWr
            have hlocks := C.2.2.2.2.2.2.2.2
            refine W.vret C.1 C.2.1 (hret.trans h1) (fun t ht _ => ?_) hS.2.2 hd
            rw [h1]
            exact ⟨⟨ws, rfl, ⟨hw, hI, hfr, u, hu, h3, fun f hf1 => ev_has_ok hf hw (List.all_eq_true.mp h4 f hf1)⟩, by show va_P D vwCl ws t.heap ∧ va_D (fun q => b0 ≤ q) ws; rw [ht]; exact ⟨hP, hD⟩⟩, hS.F ht⟩
        · cases h
      · rename_i op len _ _ hd
        refine ev_spl_ok (hs := ev_hn SP pc) (fun u hu he => ?_)
        have h1 := List.all_eq_true.mp h u hu
        obtain ⟨pu, Lu, Su, Fu, Ru⟩ := u
        dsimp only at he h1
        subst he
        split at h1
        · rename_i ss hss
          exact ev_op_ok C hI0 hK hR hd hss (fun st hst => ih st (List.all_eq_true.mp h1 st hst))
        · cases h1
      · cases h
/-- every head is walked: by the order of the measures -/
theorem ev_heads (C : ev_cx p s m args meth c cc nL o D tys aK aV b0) (hI0 : ev_hI I sp) (hK : ∀ κ ∈ K, ek_ok l T I κ) (hR : R.frames = rm.1 ∧ R.locals = rm.2) (hret : meth.sig.returnType = ret) (hWr : Wr = ek_wr κ) (hQ : Q = MQ below (ek_qc D tys T I b0 ad w0 κ ret.isSome) args s 0 0 (fun q => b0 ≤ q)) {N fuel : Nat}
    (hN : ∀ h ∈ HS, h.2.length = N) (hM : ∀ h ∈ HS, h.2.all (ev_mk T h.1.2.1) = true) (hG : ∀ h ∈ HS, ev_ng h.1.2.1 h.1.2.2.2.1 = true)
    (hC : ∀ h ∈ HS, ev_chk o cc T sp Wr K rm ret (ek_out κ) SP HS xs (some h.2) fuel (h.1.1, (ev_tgs 0 h.2 h.1.2.1 h.1.2.2.2.1).1, h.1.2.2.1, (ev_tgs 0 h.2 h.1.2.1 h.1.2.2.2.1).2, h.1.2.2.2.2) = true) (hX : ∀ (γ : Nat → Int), ∀ x ∈ xs, ev_go p l e R s m args below meth c Q D tys T I b0 nL ad w0 Wr γ x) :
    ∀ v : List Nat, v.length = N → ∀ h ∈ HS, ∀ (γ : Nat → Int) (H : Heap) (locs : List Loc) (ls : Array Slot) (stk : List Value) (ws : va_W), ev_at s D tys T I b0 nL ad w0 Wr γ h.1.2.1 h.1.2.2.1 h.1.2.2.2.1 h.1.2.2.2.2 H locs ls stk ws → ev_gx γ ls ws 0 h.2 → ev_vec γ 0 h.2 = v → W p l e R s m args below meth c H locs 0 0 Q (F0 m h.1.1 ls stk) := by
  refine ev_lx_ind N _ (fun v hv ih => ?_)
  intro h hh γ H locs ls stk ws ha hg hvec
  obtain ⟨⟨z1, z2, z3⟩, hl, hs, hf, hRr, hr⟩ := ha
  obtain ⟨t1, t2, t3⟩ := ev_tgs_ok (k := 0) hl hf hg
  refine ev_chk_ok (γ := γ) C hI0 hK hR hret hWr hQ (cur := some h.2) (fun h' hh' γ' H' locs' ls' stk' ws' ha' hg' hlx => ?_) hM (hX γ) fuel _ (hC h hh) H locs ls stk ws ⟨⟨z1, z2, t1.trans z3⟩, t2, hs, t3, hRr, hr⟩
  exact ih (ev_vec γ' 0 h'.2) (by rw [ev_vec_len]; exact hN h' hh') (by rw [← hvec]; exact hlx h.2 rfl) h' hh' γ' H' locs' ls' stk' ws' ha' hg' rfl
end EVK
theorem en_vs_args {N : Nat} {ad : Nat → Nat} : ∀ {av : List en_V} {as : List Value} (b : Nat) {i : Nat} {a : en_V}, en_vs N ad av as → av[i]? = some a → ∃ x, (b + i, x) ∈ lv_args b as ∧ en_v N ad a x
  | [], [], _, _, _, _, hi => by simp at hi
  | a0 :: av, x0 :: as, b, 0, a, h, hi => by
    rw [List.getElem?_cons_zero] at hi
    cases hi
    exact ⟨x0, List.mem_cons_self, h.1⟩
  | a0 :: av, x0 :: as, b, i + 1, a, h, hi => by
    rw [List.getElem?_cons_succ] at hi
    obtain ⟨x, h1, h2⟩ := en_vs_args (b + 1) h.2 hi
    refine ⟨x, ?_, h2⟩
    unfold lv_args
    rw [if_neg (by rw [en_v_cat h.1]; decide), show b + (i + 1) = b + 1 + i by omega]
    exact List.mem_cons_of_mem _ h1
  | [], _ :: _, _, _, _, h, _ => h.elim
  | _ :: _, [], _, _, _, h, _ => h.elim
theorem en_vs_sl {N : Nat} {ad : Nat → Nat} : ∀ {av : List en_V} {as : List Value}, en_vs N ad av as → (lg_sl as).length = as.length
  | [], [], _ => rfl
  | _ :: _, x :: xs, h => by
    have e : lg_sl (x :: xs) = (if x.category = 2 then [.val x, .second] else [.val x]) ++ lg_sl xs := rfl
    rw [e, if_neg (by rw [en_v_cat h.1]; decide), List.length_append, en_vs_sl h.2]
    simp [Nat.add_comm]
  | [], _ :: _, h => h.elim
  | _ :: _, [], h => h.elim
def ev_L0 (av : List en_V) (ml : Nat) : List ev_l := av.map (fun a => some (a, none)) ++ List.replicate (ml - av.length) none
theorem ev_L0_ok {N : Nat} {ad : Nat → Nat} {γ : Nat → Int} {av : List en_V} {as : List Value} {ml : Nat} (h : en_vs N ad av as) (hm : av.length ≤ ml) : (((lg_sl as ++ List.replicate (ml - (lg_sl as).length) Slot.unset).toArray).size = ml ∧ lv_wf ((lg_sl as ++ List.replicate (ml - (lg_sl as).length) Slot.unset).toArray) ∧ (ev_L0 av ml).length = ml) ∧ ev_lo N ad γ (ev_L0 av ml) ((lg_sl as ++ List.replicate (ml - (lg_sl as).length) Slot.unset).toArray) := by
  have hl := lv_entry as (n := ml) (by rw [en_vs_sl h, ← en_vs_len h]; exact hm)
  refine ⟨⟨hl.1, hl.2.1, by unfold ev_L0; rw [List.length_append, List.length_map, List.length_replicate]; omega⟩, fun i q hi => ?_⟩
  obtain ⟨hia, hg⟩ : av[i]? = some q.1 ∧ q.2 = none := by
    unfold ev_L0 at hi
    by_cases hb : i < (av.map (fun a => (some (a, none) : ev_l))).length
    · rw [List.getElem?_append_left hb, List.getElem?_map] at hi
      cases hz : av[i]? with
      | none => rw [hz] at hi; cases hi
      | some b => rw [hz] at hi; cases hi; exact ⟨rfl, rfl⟩
    · rw [List.getElem?_append_right (by omega)] at hi
      have := List.mem_of_getElem? hi
      cases (List.mem_replicate.mp this).2
  obtain ⟨x, h1, h2⟩ := en_vs_args 0 h hia
  rw [Nat.zero_add] at h1
  exact ⟨x, hl.2.2 _ h1, h2, by rw [hg]; trivial⟩
def ek_start (κ : ek) (ml : Nat) : ev_S := (0, ev_L0 κ.2.1 ml, [], ek_pre κ, [])
/-- a contract out of a walk of its body that begins with the contract's start -/
theorem ek_ok_of {l : Launch} {T : en_T} {I : va_W → Prop} {κ : ek} {r : MethodName × ByteArray × Nat × Option FieldType} {o : Nat} (hr : en_ms[κ.1]? = some r) (ho : en_mo[κ.1]? = some o) (hp : Jvm.plainName r.1.cls = true) (hm : κ.2.1.length ≤ r.2.2.1) (hg : (ek_pre κ).all (fun f => f.2.2.isNone) = true)
    (body : ∀ (p : Program) (e : Env) (s : State) (m : MethodId) (args : Array Value) (below : List Frame) (meth : Method) (c : Code) (D : va_G) (tys : List (ClassId × FieldType)) (aK aV b0 : Nat) (ad : Nat → Nat) (w0 : va_W), ev_cx p s m args meth c r.2.1 r.2.2.1 o D tys aK aV b0 → meth.sig.returnType = r.2.2.2 →
      ev_go p l e (ek_rm κ) s m args below meth c (MQ below (ek_qc D tys T I b0 ad w0 κ r.2.2.2.isSome) args s 0 0 (fun q => b0 ≤ q)) D tys T I b0 r.2.2.1 ad w0 (ek_wr κ) (fun _ => 0) (ek_start κ r.2.2.1)) : ek_ok l T I κ := by
  intro r' hr' D tys aK aV b0 ad w0 as hargs hw hI hpre
  rw [hr] at hr'
  cases hr'
  refine Met.ofW (cc := r.2.1) (maxL := r.2.2.1) (ret := r.2.2.2) hp rfl ?_
  intro p e s m args below meth c s₁ B hml hv
  obtain ⟨rfl, hsz, hP, hD, hKs, hX⟩ := hv
  have hts := atoms_spec (ws := Cond.code r.1 r.2.1 r.2.2.1 r.2.2.2 :: en_ws) B.pre
  have hown : s.vm.findClass (en_nm o) = some m.cls := by rw [en_mo_ok hr ho]; exact findClass_of_methodNamed B.named
  have C : ev_cx p s m as.toArray meth c r.2.1 r.2.2.1 o D tys aK aV b0 := ⟨B.exec, B.bytes, hml, hown, fun w hw => hts w (List.mem_cons_of_mem _ hw), hKs, hsz, hX, B.notSynchronized⟩
  rw [lg_entry_eq]
  obtain ⟨h1, h2⟩ := ev_L0_ok (γ := fun _ => 0) hargs hm
  refine body p e s m as.toArray below meth c D tys aK aV b0 ad w0 C B.returns s.heap [] _ [] w0 ⟨h1, h2, trivial, fun f hf => ?_, fun r hr => absurd hr List.not_mem_nil, hw, hI, hP, hD, va_S.rf, ev_fr.rf _ _⟩
  obtain ⟨x, h3, h4⟩ := ev_ff_use (γ := fun _ => 0) (hpre f hf)
  have h5 := List.all_eq_true.mp hg f hf
  simp only [Option.isNone_iff_eq_none] at h5
  exact ⟨x, h3, h4, by rw [h5]; trivial⟩
def ek_good (T : en_T) (sp : List (Nat × Nat)) (κ : ek) (K : List ek) (SP : List (Nat × List (Nat × List Int))) (HS : List (ev_S × List ev_m)) (N fuel : Nat) : Bool := match en_ms[κ.1]? with
  | some r => match en_mo[κ.1]? with
    | some o => Jvm.plainName r.1.cls && (decide (κ.2.1.length ≤ r.2.2.1) && ((ek_pre κ).all (fun f => f.2.2.isNone) && (HS.all (fun h => h.2.length == N && (h.2.all (ev_mk T h.1.2.1) && (ev_ng h.1.2.1 h.1.2.2.2.1 && ev_chk o r.2.1 T sp (ek_wr κ) K (ek_fr κ, ek_lo κ) r.2.2.2 (ek_out κ) SP HS [] (some h.2) fuel (h.1.1, (ev_tgs 0 h.2 h.1.2.1 h.1.2.2.2.1).1, h.1.2.2.1, (ev_tgs 0 h.2 h.1.2.1 h.1.2.2.2.1).2, h.1.2.2.2.2)))) && ev_chk o r.2.1 T sp (ek_wr κ) K (ek_fr κ, ek_lo κ) r.2.2.2 (ek_out κ) SP HS [] none fuel (ek_start κ r.2.2.1))))
    | none => false
  | none => false
theorem ek_good_ok {l : Launch} {T : en_T} {I : va_W → Prop} {sp : List (Nat × Nat)} {κ : ek} {K : List ek} {SP : List (Nat × List (Nat × List Int))} {HS : List (ev_S × List ev_m)} {N fuel : Nat} (hI0 : ev_hI I sp) (hK : ∀ κ' ∈ K, ek_ok l T I κ') (h : ek_good T sp κ K SP HS N fuel = true) : ek_ok l T I κ := by
  unfold ek_good at h
  split at h
  · rename_i r hr
    split at h
    · rename_i o ho
      simp only [Bool.and_eq_true, decide_eq_true_eq] at h
      obtain ⟨h1, h2, h3, h4, h5⟩ := h
      have hh : ∀ h ∈ HS, h.2.length = N ∧ h.2.all (ev_mk T h.1.2.1) = true ∧ ev_ng h.1.2.1 h.1.2.2.2.1 = true ∧ ev_chk o r.2.1 T sp (ek_wr κ) K (ek_fr κ, ek_lo κ) r.2.2.2 (ek_out κ) SP HS [] (some h.2) fuel (h.1.1, (ev_tgs 0 h.2 h.1.2.1 h.1.2.2.2.1).1, h.1.2.2.1, (ev_tgs 0 h.2 h.1.2.1 h.1.2.2.2.1).2, h.1.2.2.2.2) = true := fun h hm => by
        have h6 := List.all_eq_true.mp h4 h hm
        rw [Bool.and_eq_true, Bool.and_eq_true, Bool.and_eq_true, beq_iff_eq] at h6
        exact h6
      refine ek_ok_of hr ho h1 h2 h3 (fun p e s m args below meth c D tys aK aV b0 ad w0 C hret => ?_)
      refine ev_chk_ok (R := ek_rm κ) C hI0 hK ⟨rfl, rfl⟩ hret rfl rfl (cur := none) (fun h hm γ' H locs ls stk ws ha hg _ => ?_) (fun h hm => (hh h hm).2.1) (fun x hx => absurd hx List.not_mem_nil) fuel _ h5
      exact ev_heads (R := ek_rm κ) (xs := []) C hI0 hK ⟨rfl, rfl⟩ hret rfl rfl (fun h hm => (hh h hm).1) (fun h hm => (hh h hm).2.1) (fun h hm => (hh h hm).2.2.1) (fun h hm => (hh h hm).2.2.2) (fun _ x hx => absurd hx List.not_mem_nil) _ (by rw [ev_vec_len]; exact (hh h hm).1) h hm γ' H locs ls stk ws ha hg rfl
    · cases h
  · cases h
