theorem en_decl : ∀ (ci : Nat) (r : vw_C), vwCl[ci]? = some r → ∀ f, f < r.2.2 → (r.2.1 f).1 = en_nm ci := by
  intro ci r h
  match ci, h with
  | 0, h => cases h; exact (by decide +kernel : ∀ f, f < 9 → (TX0 f).1 = RX0)
  | 1, h => cases h; exact (by decide +kernel : ∀ f, f < 12 → (TX1 f).1 = RX1)
  | 2, h => cases h; exact (by decide +kernel : ∀ f, f < 2 → (TX2 f).1 = RX2)
  | 3, h => cases h; exact (by decide +kernel : ∀ f, f < 13 → (TX3 f).1 = RX3)
  | 4, h => cases h; exact (by decide +kernel : ∀ f, f < 6 → (TX4 f).1 = RX4)
  | 5, h => cases h; exact (by decide +kernel : ∀ f, f < 3 → (TX5 f).1 = RX5)
  | 6, h => cases h; exact (by decide +kernel : ∀ f, f < 6 → (TX6 f).1 = RX6)
  | 7, h => cases h; exact (by decide +kernel : ∀ f, f < 5 → (TX7 f).1 = RX7)
  | 8, h => cases h; exact (by decide +kernel : ∀ f, f < 11 → (TX8 f).1 = RX8)
  | 9, h => cases h; exact (by decide +kernel : ∀ f, f < 96 → (TX9 f).1 = RX9)
  | k + 10, h => simp [vwCl] at h
section ENO
variable {p : Program} {l : Launch} {e : Env} {R : Room} {s : State} {m : MethodId} {args : Array Value} {below : List Frame} {meth : Method} {c : Code} {Q : State → Prop} {cc : ByteArray} {D : va_G} {tys : List (ClassId × FieldType)} {aK aV b0 nL o N0 : Nat} {ad0 : Nat → Nat}
variable {pc len : Nat} {L : en_L} {S : List en_V} {T : en_T} {cs sl : Nat} {ss : List en_S} {K : List en_K} {rm : Nat × Nat × Nat × Nat} {ini : Bool}
set_option maxHeartbeats 4000000 in
theorem en_op_ok (C : en_cx p s m args meth c cc nL o D tys aK aV b0) (hK : ∀ κ ∈ K, en_ok l κ) (hR : R.frames = rm.1 ∧ R.locals = rm.2.1 ∧ R.cells = rm.2.2.1 ∧ R.slots = rm.2.2.2) (hini : ini = true → meth.name = "<init>") {op : Instr} (hd : decode cc pc = .ok (op, len)) (h : en_op o K rm ini op len pc L S T cs sl = some ss) (k : ∀ st ∈ ss, en_go p l e R s m args below meth c Q D tys b0 nL N0 ad0 st) : en_go p l e R s m args below meth c Q D tys b0 nL N0 ad0 (pc, L, S, T, cs, sl) := by
  cases op with
  | iconst n =>
    obtain ⟨rfl, h2⟩ := ok_kn (h : en_kn 1 (Int32.ofInt n) len pc L S T cs sl = some ss) k
    exact es_iconst C hd h2
  | bipush n =>
    obtain ⟨rfl, h2⟩ := ok_kn (h : en_kn 2 (Int8.ofInt n).toInt32 len pc L S T cs sl = some ss) k
    exact es_bipush C hd h2
  | sipush n =>
    obtain ⟨rfl, h2⟩ := ok_kn (h : en_kn 3 (Int16.ofInt n).toInt32 len pc L S T cs sl = some ss) k
    exact es_sipush C hd h2
  | ldc i =>
    dsimp only [en_op] at h
    split at h
    · rename_i v hv
      obtain ⟨rfl, h2⟩ := ok_kn h k
      exact es_ldc C hv hd h2
    · cases h
  | ldc_w i =>
    dsimp only [en_op] at h
    split at h
    · rename_i v hv
      obtain ⟨rfl, h2⟩ := ok_kn h k
      exact es_ldcw C hv hd h2
    · cases h
  | iload_n i =>
    obtain ⟨rfl, q, h1, h2⟩ := ok_ld (h : en_ld 1 i.val len pc L S T cs sl = some ss) k
    exact es_iload_n C h1 hd h2
  | iload i =>
    obtain ⟨rfl, q, h1, h2⟩ := ok_ld (h : en_ld 2 i len pc L S T cs sl = some ss) k
    exact es_iload C h1 hd h2
  | aload_n i =>
    obtain ⟨rfl, q, h1, h2⟩ := ok_la (h : en_la 1 i.val len pc L S T cs sl = some ss) k
    exact es_aload_n C h1 hd h2
  | aload i =>
    obtain ⟨rfl, q, h1, h2⟩ := ok_la (h : en_la 2 i len pc L S T cs sl = some ss) k
    exact es_aload C h1 hd h2
  | istore_n i =>
    obtain ⟨rfl, h1, q, S', rfl, h2⟩ := ok_st (h : en_st 1 i.val len pc L S T cs sl = some ss) k
    exact es_istore_n C h1 hd h2
  | istore i =>
    obtain ⟨rfl, h1, q, S', rfl, h2⟩ := ok_st (h : en_st 2 i len pc L S T cs sl = some ss) k
    exact es_istore C h1 hd h2
  | astore_n i =>
    obtain ⟨rfl, h1, q, S', rfl, h2⟩ := ok_sa (h : en_sa 1 i.val len pc L S T cs sl = some ss) k
    exact es_astore_n C h1 hd h2
  | astore i =>
    obtain ⟨rfl, h1, q, S', rfl, h2⟩ := ok_sa (h : en_sa 2 i len pc L S T cs sl = some ss) k
    exact es_astore C h1 hd h2
  | iinc i n =>
    dsimp only [en_op] at h
    split at h
    · rename_i q hq
      obtain ⟨h1, h2⟩ := en_one (x := none) h k
      simp only [beq_iff_eq] at h1
      subst h1
      exact es_iinc C hq hd h2
    · cases h
  | iadd =>
    obtain ⟨rfl, r, q, S', rfl, h2⟩ := ok_bn (h : en_bn en_add len pc L S T cs sl = some ss) k
    exact es_bin en_add (fun x y => x + y) (fun q r x y => en_add_in) (fun H locs ls rest x y k => lv_iadd C.1 C.2.1 hd k) h2
  | isub =>
    obtain ⟨rfl, r, q, S', rfl, h2⟩ := ok_bn (h : en_bn en_sub len pc L S T cs sl = some ss) k
    exact es_bin en_sub (fun x y => x - y) (fun q r x y => en_sub_in) (fun H locs ls rest x y k => lv_isub C.1 C.2.1 hd k) h2
  | imul =>
    obtain ⟨rfl, r, q, S', rfl, h2⟩ := ok_bn (h : en_bn en_mul len pc L S T cs sl = some ss) k
    exact es_bin en_mul (fun x y => x * y) (fun q r x y => en_mul_in) (fun H locs ls rest x y k => lv_imul C.1 C.2.1 hd k) h2
  | iand =>
    obtain ⟨rfl, r, q, S', rfl, h2⟩ := ok_bn (h : en_bn en_and len pc L S T cs sl = some ss) k
    exact es_bin en_and (fun x y => x &&& y) (fun q r x y => en_and_in) (fun H locs ls rest x y k => lv_iand C.1 C.2.1 hd k) h2
  | ishr =>
    obtain ⟨rfl, r, q, S', rfl, h2⟩ := ok_bn (h : en_bn (fun _ _ => en_full) len pc L S T cs sl = some ss) k
    exact es_bin (fun _ _ => en_full) (fun x y => x >>> (y &&& 31)) (fun q r x y _ _ => en_full_in _) (fun H locs ls rest x y k => lv_ishr C.1 C.2.1 hd k) h2
  | iushr =>
    obtain ⟨rfl, r, q, S', rfl, h2⟩ := ok_bn (h : en_bn (fun _ _ => en_full) len pc L S T cs sl = some ss) k
    exact es_bin (fun _ _ => en_full) (fun x y => (x.toUInt32 >>> (y.toUInt32 &&& Int32.toUInt32 31)).toInt32) (fun q r x y _ _ => en_full_in _) (fun H locs ls rest x y k => lv_iushr C.1 C.2.1 hd rfl k) h2
  | i2b =>
    dsimp only [en_op] at h
    split at h
    · obtain ⟨h1, h2⟩ := en_one (x := none) h k
      simp only [beq_iff_eq] at h1
      subst h1
      exact es_un (fun x => x.toInt8.toInt32) (fun x _ => en_i2b_in x) (fun H locs ls rest x k => lv_i2b C.1 C.2.1 hd rfl k) h2
    · cases h
  | dup =>
    dsimp only [en_op] at h
    split at h
    · obtain ⟨h1, h2⟩ := en_one (x := none) h k
      simp only [beq_iff_eq] at h1
      subst h1
      exact es_dup C hd h2
    · cases h
  | pop =>
    dsimp only [en_op] at h
    split at h
    · obtain ⟨h1, h2⟩ := en_one (x := none) h k
      simp only [beq_iff_eq] at h1
      subst h1
      exact es_pop C hd h2
    · cases h
  | goto off =>
    dsimp only [en_op] at h
    obtain ⟨h1, h2⟩ := en_one (x := none) h k
    simp only [Bool.and_eq_true, beq_iff_eq] at h1
    obtain ⟨rfl, h1⟩ := h1
    exact es_goto C h1 hd h2
  | if_icmp cd off =>
    dsimp only [en_op] at h
    split at h
    · obtain ⟨h1, h2⟩ := en_g_some h
      simp only [Bool.and_eq_true, beq_iff_eq] at h1
      obtain ⟨rfl, h1⟩ := h1
      cases h2
      exact es_icmp C h1 hd k
    · cases h
  | ifCond cd off =>
    dsimp only [en_op] at h
    split at h
    · obtain ⟨h1, h2⟩ := en_g_some h
      simp only [Bool.and_eq_true, beq_iff_eq] at h1
      obtain ⟨rfl, h1⟩ := h1
      cases h2
      exact es_if C h1 hd k
    · cases h
  | tableswitch d lo hi offs =>
    dsimp only [en_op] at h
    split at h
    · split at h
      · rename_i t ht
        obtain ⟨h1, h2⟩ := en_one (x := none) h k
        exact es_tsw C ht h1 hd h2
      · cases h
    · cases h
  | arraylength =>
    dsimp only [en_op] at h
    split at h
    · split at h
      · rename_i t ht
        obtain ⟨h1, h2⟩ := en_one (x := none) h k
        simp only [Bool.and_eq_true, beq_iff_eq, bne_iff_ne, ne_eq, decide_eq_true_eq] at h1
        obtain ⟨rfl, h3, h1⟩ := h1
        exact es_alen C h3 ht h1 hd h2
      · cases h
    · cases h
  | iaload =>
    obtain ⟨rfl, q, j, S', t, rfl, h1, h3, h4, h5, h2⟩ := ok_al (h : en_al 0 0 len pc L S T cs sl = some ss) k
    exact es_iald C h1 (h3.elim id id) h4 h5 hd h2
  | baload =>
    obtain ⟨rfl, q, j, S', t, rfl, h1, h3, h4, h5, h2⟩ := ok_al (h : en_al 1 2 len pc L S T cs sl = some ss) k
    rcases h3 with h3 | h3
    · exact es_zald C h1 h3 h4 h5 hd h2
    · exact es_bald C h1 h3 h4 h5 hd h2
  | iastore =>
    dsimp only [en_op] at h
    unfold en_as at h
    split at h
    · split at h
      · rename_i t ht
        obtain ⟨h1, h2⟩ := en_one (x := none) h k
        simp only [Bool.and_eq_true, beq_iff_eq, decide_eq_true_eq] at h1
        obtain ⟨h3, rfl, h4, h5⟩ := h1
        exact es_iast C ht h3 h4 h5 hd h2
      · cases h
    · cases h
  | bastore =>
    dsimp only [en_op] at h
    unfold en_as at h
    split at h
    · split at h
      · rename_i t ht
        obtain ⟨h1, h2⟩ := en_one (x := none) h k
        simp only [Bool.and_eq_true, Bool.or_eq_true, beq_iff_eq, decide_eq_true_eq] at h1
        obtain ⟨h3, rfl, h4, h5⟩ := h1
        rcases h3 with ⟨h3, h6, h7⟩ | ⟨h3, h6, h7⟩
        · exact es_bast C ht h3 h4 h5 h6 h7 hd h2
        · exact es_zast C ht h3 h4 h5 h6 h7 hd h2
      · cases h
    · cases h
  | getfield i =>
    dsimp only [en_op] at h
    split at h
    · rename_i ci f hf
      split at h
      · split at h
        · rename_i q hq
          split at h
          · rename_i r hr
            split at h
            · rename_i a ha
              obtain ⟨h1, h2⟩ := en_one (x := none) h k
              simp only [Bool.and_eq_true, beq_iff_eq, decide_eq_true_eq] at h1
              obtain ⟨rfl, h3, h4⟩ := h1
              obtain ⟨q1, q2⟩ := q
              dsimp only at h3 ha
              subst h3
              exact es_getf C hf hr h4 hq ha hd h2
            · cases h
          · cases h
        · cases h
      · cases h
    · cases h
  | putfield i =>
    dsimp only [en_op] at h
    split at h
    · rename_i ci f hf
      split at h
      · split at h
        · rename_i q hq
          split at h
          · rename_i r hr
            obtain ⟨h1, h2⟩ := en_one (x := none) h k
            simp only [Bool.and_eq_true, Bool.or_eq_true, Bool.not_eq_true', beq_iff_eq, decide_eq_true_eq] at h1
            obtain ⟨rfl, h3, h4, h5, h6, h7⟩ := h1
            obtain ⟨q1, q2⟩ := q
            dsimp only at h3 h5
            subst h3
            refine es_putf C hf hr h4 hq h5 h6 ?_ hd h2
            rcases h7 with h7 | ⟨h7, h8⟩
            · exact Or.inl h7
            · exact Or.inr ⟨hini h7, by rw [h8]; exact en_decl _ r hr f h4⟩
          · cases h
        · cases h
      · cases h
    · cases h
  | new i =>
    dsimp only [en_op] at h
    split at h
    · rename_i ci hf
      split at h
      · rename_i r hr
        obtain ⟨h1, h2⟩ := en_one (x := none) h k
        simp only [Bool.and_eq_true, beq_iff_eq, decide_eq_true_eq] at h1
        obtain ⟨rfl, h3, h4, h5⟩ := h1
        exact es_new C hf hr h3 (by rw [hR.2.2.1]; exact h4) (by rw [hR.2.2.2]; exact h5) hd h2
      · cases h
    · cases h
  | newarray at0 =>
    dsimp only [en_op] at h
    split at h
    · rename_i q S'
      split at h
      · rename_i t ht
        obtain ⟨h1, h2⟩ := en_one (x := none) h k
        simp only [Bool.and_eq_true, beq_iff_eq, decide_eq_true_eq] at h1
        obtain ⟨rfl, a3, a4, h5, h6, h7⟩ := h1
        have hn : q = ((q.1.toNat : Int), (q.1.toNat : Int)) := by
          obtain ⟨n1, n2⟩ := q
          dsimp only at a3 a4 ⊢
          subst a3
          have : n1 = (n1.toNat : Int) := by omega
          rw [← this]
        have hty : newarray.typeOf at0 = en_ty t ∧ t < 3 := by
          cases at0 <;> cases ht <;> exact ⟨rfl, by decide⟩
        rw [hn]
        exact es_newa C hty.1 hty.2 h5 (by rw [hR.2.2.1]; exact h6) (by rw [hR.2.2.2]; exact h7) hd h2
      · cases h
    · cases h
  | invokevirtual i => exact ok_cV C hK hR hd h k
  | invokespecial i => exact ok_cI C hK hR hd h k
  | invokestatic i => exact ok_cS C hK hR hd h k
  | _ => cases h
def en_lle (a b : Option en_V) : Bool := match b with
  | none => true
  | some y => match a with
    | some x => en_le x y
    | none => false
def en_sub2 (st x : en_S) : Bool := st.1 == x.1 && (en_all2 en_lle st.2.1 x.2.1 && (en_all2 en_le st.2.2.1 x.2.2.1 && (en_all2 eg_cle st.2.2.2.1 x.2.2.2.1 && (st.2.2.2.2.1 == x.2.2.2.2.1 && st.2.2.2.2.2 == x.2.2.2.2.2))))
theorem en_sub2_ok {st x : en_S} (h : en_sub2 st x = true) (k : en_go p l e R s m args below meth c Q D tys b0 nL N0 ad0 x) : en_go p l e R s m args below meth c Q D tys b0 nL N0 ad0 st := by
  unfold en_sub2 at h
  simp only [Bool.and_eq_true, beq_iff_eq] at h
  obtain ⟨h1, h2, h3, h4, h5, h6⟩ := h
  intro H locs ls stk ad hh
  obtain ⟨hl, hn, hs, hW, hS, hr, hr2⟩ := hh
  have hlen := en_all2_len h4
  have k := k H locs ls stk ad ⟨⟨hl.1, hl.2.1, fun i a hi => ?_⟩, by rw [← en_all2_len h2]; exact hn, by rw [← hlen]; exact en_all2_vs h3 hs, hW.le h4, hS, by rw [← hlen]; exact hr, hr2⟩
  · rw [h1, h5, h6]
    exact k
  · obtain ⟨b, g1, g2⟩ := en_all2_get h2 hi
    unfold en_lle at g2
    cases b with
    | none => cases g2
    | some y =>
      obtain ⟨x0, g3, g4⟩ := hl.2.2 i y g1
      exact ⟨x0, g3, by rw [← hlen]; exact en_le_ok g2 g4⟩
def en_chk (o : Nat) (cc : ByteArray) (K : List en_K) (rm : Nat × Nat × Nat × Nat) (ini : Bool) (ret : Option FieldType) (rv : Option en_V) (T1 : en_T) (xs : List en_S) : Nat → en_S → Bool
  | 0, _ => false
  | n + 1, (pc, L, S, T, cs, sl) => xs.any (fun x => en_sub2 (pc, L, S, T, cs, sl) x) || (match decode cc pc with
    | .ok (.ireturn, len) => (match S with
      | .inl q :: [] => (match rv with
        | some r => len == 1 && (en_rt ret q && (en_le (.inl q) r && (en_all2 eg_cle T T1 && (decide (cs ≤ rm.2.2.1) && decide (sl ≤ rm.2.2.2)))))
        | none => false)
      | _ => false)
    | .ok (.return_, len) => (match S with
      | [] => (match rv with
        | none => len == 1 && (ret.isNone && (en_all2 eg_cle T T1 && (decide (cs ≤ rm.2.2.1) && decide (sl ≤ rm.2.2.2))))
        | some _ => false)
      | _ => false)
    | .ok (op, len) => (match en_op o K rm ini op len pc L S T cs sl with
      | some ss => ss.all (en_chk o cc K rm ini ret rv T1 xs n)
      | none => false)
    | .error _ => false)
theorem en_chk_ok (C : en_cx p s m args meth c cc nL o D tys aK aV b0) (hK : ∀ κ ∈ K, en_ok l κ) (hR : R.frames = rm.1 ∧ R.locals = rm.2.1 ∧ R.cells = rm.2.2.1 ∧ R.slots = rm.2.2.2) (hini : ini = true → meth.name = "<init>") {ret : Option FieldType} (hret : meth.sig.returnType = ret) {rv : Option en_V} {T1 : en_T} {xs : List en_S} (hQ : Q = MQ below (en_qc D tys b0 N0 ad0 rv T1) args s rm.2.2.1 rm.2.2.2 (fun q => b0 ≤ q)) (hX : ∀ x ∈ xs, en_go p l e R s m args below meth c Q D tys b0 nL N0 ad0 x) :
    ∀ (n : Nat) (st : en_S), en_chk o cc K rm ini ret rv T1 xs n st = true → en_go p l e R s m args below meth c Q D tys b0 nL N0 ad0 st := by
  intro n
  induction n with
  | zero => intro st h; cases h
  | succ n ih =>
    intro st h
    obtain ⟨pc, L, S, T, cs, sl⟩ := st
    unfold en_chk at h
    rw [Bool.or_eq_true] at h
    rcases h with h | h
    · obtain ⟨x, h1, h2⟩ := List.any_eq_true.mp h
      exact en_sub2_ok h2 (hX x h1)
    · split at h
      · rename_i len hd
        split at h
        · rename_i q
          split at h
          · rename_i r
            simp only [Bool.and_eq_true, beq_iff_eq, decide_eq_true_eq] at h
            obtain ⟨rfl, h1, h2, h3, h4, h5⟩ := h
            intro H locs ls stk ad hh
            dsimp only at hh
            obtain ⟨hl, hn, hs, hW, hS, hr, hr2⟩ := hh
            obtain ⟨x0, ys, rfl, hv0, hs1⟩ := en_vs_cons hs
            have hv1 := hv0
            obtain ⟨v, rfl, hv⟩ := hv0
            cases ys with
            | cons a b => exact hs1.elim
            | nil =>
              have hlen := en_all2_len h3
              refine W.widen (k := rm.2.2.1) (n := rm.2.2.2) h4 h5 ?_
              subst hQ
              have hq : ∀ t : State, t.heap = H → s.WarmedH t.vm → en_qc D tys b0 N0 ad0 (some r) T1 args s (.returned (some (.int v))) t := fun t ht _ => ⟨⟨v, ad, rfl, ⟨by rw [← hlen]; exact en_le_ok h2 hv1, by rw [← hlen]; exact hr, hr2⟩, by show eg_W D tys (fun q => b0 ≤ q) T1 ad t.heap; rw [ht]; exact hW.le h3⟩, hS.F ht⟩
              have hlocks := C.2.2.2.2.2.2.2.2.2
              unfold en_rt at h1
              split at h1
              · exact W.iret C.1 C.2.1 hret hq hS.2.2 hd
              · simp only [Bool.and_eq_true, decide_eq_true_eq] at h1
                exact W.zret C.1 C.2.1 hret (en_nar_z (by omega) (by omega)) hq hS.2.2 hd
              · cases h1
          · cases h
        · cases h
      · rename_i len hd
        split at h
        · split at h
          · simp only [Bool.and_eq_true, beq_iff_eq, decide_eq_true_eq, Option.isNone_iff_eq_none] at h
            obtain ⟨rfl, h1, h3, h4, h5⟩ := h
            intro H locs ls stk ad hh
            dsimp only at hh
            obtain ⟨hl, hn, hs, hW, hS, hr, hr2⟩ := hh
            cases stk with
            | cons a b => exact hs.elim
            | nil =>
              have hlen := en_all2_len h3
              refine W.widen (k := rm.2.2.1) (n := rm.2.2.2) h4 h5 ?_
              subst hQ
              have hlocks := C.2.2.2.2.2.2.2.2.2
              exact W.vret C.1 C.2.1 (hret.trans h1) (fun t ht _ => ⟨⟨ad, rfl, ⟨by rw [← hlen]; exact hr, hr2⟩, by show eg_W D tys (fun q => b0 ≤ q) T1 ad t.heap; rw [ht]; exact hW.le h3⟩, hS.F ht⟩) hS.2.2 hd
          · cases h
        · cases h
      · rename_i op len _ _ hd
        split at h
        · rename_i ss hss
          exact en_op_ok C hK hR hini hd hss (fun st hst => ih st (List.all_eq_true.mp h st hst))
        · cases h
      · cases h
end ENO
def en_L0 (av : List en_V) (ml : Nat) : en_L := av.map some ++ List.replicate (ml - av.length) none
theorem en_L0_ok {N : Nat} {ad : Nat → Nat} {av : List en_V} {as : List Value} {ml : Nat} (h : en_vs N ad av as) (hm : av.length ≤ ml) : en_l N ad (en_L0 av ml) ml ((lg_sl as ++ List.replicate (ml - (lg_sl as).length) Slot.unset).toArray) ∧ (en_L0 av ml).length = ml := by
  have hl := lv_entry as (n := ml) (by rw [en_vs_sl h, ← en_vs_len h]; exact hm)
  refine ⟨⟨hl.1, hl.2.1, fun i a hi => ?_⟩, by unfold en_L0; rw [List.length_append, List.length_map, List.length_replicate]; omega⟩
  have hia : av[i]? = some a := by
    unfold en_L0 at hi
    by_cases hb : i < (av.map some).length
    · rw [List.getElem?_append_left hb, List.getElem?_map] at hi
      cases hz : av[i]? with
      | none => rw [hz] at hi; cases hi
      | some b => rw [hz] at hi; cases hi; rfl
    · rw [List.getElem?_append_right (by omega)] at hi
      have := List.mem_of_getElem? hi
      cases (List.mem_replicate.mp this).2
  obtain ⟨x, h1, h2⟩ := en_vs_args 0 h hia
  rw [Nat.zero_add] at h1
  exact ⟨x, hl.2.2 _ h1, h2⟩
def en_start (κ : en_K) (ml : Nat) : en_S := (0, en_L0 κ.2.1 ml, [], k_T0 κ, 0, 0)
/-- a contract out of a walk of its body that begins with the contract's start -/
theorem en_ok_of {l : Launch} {κ : en_K} {r : MethodName × ByteArray × Nat × Option FieldType} {o : Nat} (hr : en_ms[κ.1]? = some r) (ho : en_mo[κ.1]? = some o) (hp : Jvm.plainName r.1.cls = true) (hm : κ.2.1.length ≤ r.2.2.1)
    (body : ∀ (p : Program) (e : Env) (s : State) (m : MethodId) (args : Array Value) (below : List Frame) (meth : Method) (c : Code) (D : va_G) (tys : List (ClassId × FieldType)) (aK aV b0 : Nat) (ad : Nat → Nat), en_cx p s m args meth c r.2.1 r.2.2.1 o D tys aK aV b0 → meth.sig.returnType = r.2.2.2 → meth.name = r.1.name →
      en_go p l e (en_rm κ) s m args below meth c (MQ below (en_qc D tys b0 (k_T0 κ).length ad (k_rv κ) (k_T1 κ)) args s (k_mc κ) (k_ms κ) (fun q => b0 ≤ q)) D tys b0 r.2.2.1 (k_T0 κ).length ad (en_start κ r.2.2.1)) : en_ok l κ := by
  intro r' hr' D tys aK aV b0 htok as ad hargs
  rw [hr] at hr'
  cases hr'
  refine Met.ofW (cc := r.2.1) (maxL := r.2.2.1) (ret := r.2.2.2) hp rfl ?_
  intro p e s m args below meth c s₁ B hml hv
  obtain ⟨rfl, hsz, hW, hKs, hX⟩ := hv
  have hts := atoms_spec (ws := Cond.code r.1 r.2.1 r.2.2.1 r.2.2.2 :: en_ws) B.pre
  have hown : s.vm.findClass (en_nm o) = some m.cls := by rw [en_mo_ok hr ho]; exact findClass_of_methodNamed B.named
  have C : en_cx p s m as.toArray meth c r.2.1 r.2.2.1 o D tys aK aV b0 := ⟨B.exec, B.bytes, hml, hown, fun w hw => hts w (List.mem_cons_of_mem _ hw), hKs, htok, hsz, hX, B.notSynchronized⟩
  rw [lg_entry_eq]
  obtain ⟨h1, h2⟩ := en_L0_ok hargs hm
  exact body p e s m as.toArray below meth c D tys aK aV b0 ad C B.returns (name_of_methodNamed B.named B.method).1 s.heap [] _ [] ad ⟨h1, h2, trivial, hW, va_S.rf, Nat.le_refl _, fun _ _ => rfl⟩
def en_good (κ : en_K) (K : List en_K) (fuel : Nat) : Bool := match en_ms[κ.1]? with
  | some r => match en_mo[κ.1]? with
    | some o => Jvm.plainName r.1.cls && (decide (κ.2.1.length ≤ r.2.2.1) && en_chk o r.2.1 K (k_fr κ, k_lo κ, k_mc κ, k_ms κ) (decide (r.1.name = "<init>")) r.2.2.2 (k_rv κ) (k_T1 κ) [] fuel (en_start κ r.2.2.1))
    | none => false
  | none => false
theorem en_good_ok {l : Launch} {κ : en_K} {K : List en_K} {fuel : Nat} (hK : ∀ κ' ∈ K, en_ok l κ') (h : en_good κ K fuel = true) : en_ok l κ := by
  unfold en_good at h
  split at h
  · rename_i r hr
    split at h
    · rename_i o ho
      simp only [Bool.and_eq_true, decide_eq_true_eq] at h
      obtain ⟨h1, h2, h3⟩ := h
      refine en_ok_of hr ho h1 h2 (fun p e s m args below meth c D tys aK aV b0 ad C hret hnm => ?_)
      exact en_chk_ok (R := en_rm κ) C hK ⟨rfl, rfl, rfl, rfl⟩ (fun hi => by simp only [decide_eq_true_eq] at hi; rw [hnm]; exact hi) hret rfl (fun x hx => absurd hx List.not_mem_nil) fuel _ h3
    · cases h
  · cases h
