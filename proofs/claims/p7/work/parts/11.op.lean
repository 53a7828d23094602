def ev_pick (T : en_T) (Wr : List (Nat × Nat)) (K : List ek) (mi : Nat) (as : List en_V) (FS : List ev_f) : Option ek := K.find? (fun κ => κ.1 == mi && (en_all2 en_le as κ.2.1 && ((ek_pre κ).all (ev_has T FS) && (ek_wr κ).all (fun q => Wr.contains q))))
theorem ev_pick_ok {T : en_T} {Wr : List (Nat × Nat)} {K : List ek} {mi : Nat} {as : List en_V} {FS : List ev_f} {κ : ek} (h : ev_pick T Wr K mi as FS = some κ) : κ ∈ K ∧ κ.1 = mi ∧ en_all2 en_le as κ.2.1 = true ∧ (ek_pre κ).all (ev_has T FS) = true ∧ ∀ q ∈ ek_wr κ, q ∈ Wr := by
  unfold ev_pick at h
  have h1 := List.find?_some h
  simp only [Bool.and_eq_true, beq_iff_eq] at h1
  exact ⟨List.mem_of_find?_eq_some h, h1.1, h1.2.1, h1.2.2.1, fun q hq => List.contains_iff_mem.mp (List.all_eq_true.mp h1.2.2.2 q hq)⟩
def ev_kn (k : Nat) (v : Int32) (len pc : Nat) (L : List ev_l) (S : List ev_s) (FS : List ev_f) (RS : List ev_r) : Option (List ev_S) := en_g (len == k) (some [(pc + k, L, (.inl (v.toInt, v.toInt), ev_nt) :: S, FS, RS)])
def ev_ld (k i len pc : Nat) (L : List ev_l) (S : List ev_s) (FS : List ev_f) (RS : List ev_r) : Option (List ev_S) := match L[i]? with
  | some (some (.inl q, _)) => en_g (len == k) (some [(pc + k, L, (.inl (ev_lq L i q RS), (1, i, 0, 0)) :: S, FS, RS)])
  | _ => none
def ev_la (k i len pc : Nat) (L : List ev_l) (S : List ev_s) (FS : List ev_f) (RS : List ev_r) : Option (List ev_S) := match L[i]? with
  | some (some (.inr (j + 2), _)) => en_g (len == k) (some [(pc + k, L, (.inr (j + 2), ev_nt) :: S, FS, RS)])
  | _ => none
def ev_st (k i len pc : Nat) (L : List ev_l) (S : List ev_s) (FS : List ev_f) (RS : List ev_r) : Option (List ev_S) := match S with
  | (.inl q, t) :: S' => en_g (len == k && decide (i < L.length)) (some [(pc + k, L.set i (some (.inl q, ev_sg L i t)), S'.map (ev_kt i), ev_kf i FS, ev_sR RS i t)])
  | _ => none
def ev_sa (k i len pc : Nat) (L : List ev_l) (S : List ev_s) (FS : List ev_f) (RS : List ev_r) : Option (List ev_S) := match S with
  | (.inr (j + 2), t) :: S' => en_g (len == k && decide (i < L.length)) (some [(pc + k, L.set i (some (.inr (j + 2), ev_sg L i t)), S'.map (ev_kt i), ev_kf i FS, ev_sR RS i t)])
  | _ => none
def ev_bn (f : Int × Int → Int × Int → Int × Int) (g : Int × Int → Int × Int → ev_t → ev_t → ev_t) (b : Int × Int → Bool) (len pc : Nat) (L : List ev_l) (S : List ev_s) (FS : List ev_f) (RS : List ev_r) : Option (List ev_S) := match S with
  | (.inl r, tr) :: (.inl q, tq) :: S' => en_g (len == 1 && b r) (some [(pc + 1, L, (.inl (f q r), g q r tq tr) :: S', FS, RS)])
  | _ => none
def ev_al (T : en_T) (i0 i1 len pc : Nat) (L : List ev_l) (S : List ev_s) (FS : List ev_f) (RS : List ev_r) : Option (List ev_S) := match S with
  | (.inl q, tq) :: (.inr (j + 2), _) :: S' => match T[j]? with
    | some (.inl t) => en_g ((t.1 == i0 || t.1 == i1) && (len == 1 && (decide (0 ≤ q.1) && decide (q.2 < t.2.1)))) (some [(pc + 1, L, ev_rq FS j tq t.2.2 :: S', FS, RS)])
    | _ => none
  | _ => none
def ev_as (T : en_T) (sp Wr : List (Nat × Nat)) (b : Bool) (len pc : Nat) (L : List ev_l) (S : List ev_s) (FS : List ev_f) (RS : List ev_r) : Option (List ev_S) := match S with
  | (.inl v, _) :: (.inl q, tq) :: (.inr (j + 2), _) :: S' => match T[j]? with
    | some (.inl t) => en_g ((match b with
        | true => t.1 == 0
        | false => (t.1 == 2 && (decide (-128 ≤ v.1) && decide (v.2 ≤ 127))) || (t.1 == 1 && (decide (0 ≤ v.1) && decide (v.2 ≤ 1)))) && (len == 1 && (decide (0 ≤ q.1) && (decide (q.2 < t.2.1) && (decide (t.2.2.1 ≤ v.1) && (decide (v.2 ≤ t.2.2.2) && (Wr.contains (j, 999) && !sp.contains (j, 999)))))))) (some [(pc + 1, L, S'.map (ev_hs [(j, 999)]), ev_sf FS j tq v, RS)])
    | _ => none
  | _ => none
def ev_room (rm : Nat × Nat) (κ : ek) (ml n : Nat) : Bool := decide (ek_fr κ + 1 ≤ rm.1) && (decide (8 + (ml + 11) + ek_lo κ ≤ rm.2) && decide (n ≤ 8))
def ev_cV (o : Nat) (T : en_T) (Wr : List (Nat × Nat)) (K : List ek) (rm : Nat × Nat) (i len pc : Nat) (L : List ev_l) (S : List ev_s) (FS : List ev_f) (RS : List ev_r) : Option (List ev_S) := match en_find o i en_cl with
  | some (kd, mi, n) => match S.drop n with
    | (.inr (j + 2), _) :: S' => match T[j]? with
      | some (.inr q) => match en_ms[mi]? with
        | some r => match en_mo[mi]? with
          | some ci => match vwCl[ci]? with
            | some _ => match ev_pick T Wr K mi (.inr (j + 2) :: ((S.take n).map (fun a => a.1)).reverse) FS with
              | some κ => en_g (kd == 0 && (len == 3 && (q.1 == ci && ((S.take n).length == n && ev_room rm κ r.2.2.1 S'.length)))) (some (ek_next κ (pc + 3) L S' FS RS))
              | none => none
            | none => none
          | none => none
        | none => none
      | _ => none
    | _ => none
  | none => none
def ev_cS (o : Nat) (T : en_T) (sp Wr : List (Nat × Nat)) (K : List ek) (rm : Nat × Nat) (i len pc : Nat) (L : List ev_l) (S : List ev_s) (FS : List ev_f) (RS : List ev_r) : Option (List ev_S) := match en_find o i en_cl with
  | some (kd, mi, n) => match mi == 16 || mi == 30 with
    | true => match S with
      | (.inl r, _) :: (.inl q, _) :: S' => en_g (kd == 1 && (n == 2 && (len == 3 && (decide (1 ≤ rm.1) && decide (S'.length + 13 ≤ rm.2))))) (some [(pc + 3, L, (.inl (match mi == 16 with
          | true => (ev_min q.1 r.1, ev_min q.2 r.2)
          | false => (ev_max q.1 r.1, ev_max q.2 r.2)), ev_nt) :: S', FS, RS)])
      | _ => none
    | false => match en_ms[mi]? with
      | some r => match ev_pick T Wr K mi ((S.take n).map (fun a => a.1)).reverse FS with
        | some κ => en_g ((kd == 1 || kd == 2) && (len == 3 && ((S.take n).length == n && ev_room rm κ r.2.2.1 (S.drop n).length))) (some (ek_next κ (pc + 3) L (S.drop n) FS RS))
        | none => none
      | none => none
  | none => match S with
    | (.inl n, _) :: (.inl d, _) :: (.inr (j1 + 2), _) :: (.inl a, _) :: (.inr (j0 + 2), _) :: S' => match T[j0]? with
      | some (.inl t0) => match T[j1]? with
        | some (.inl t1) => en_g (en_ac.contains (o, i) && (len == 3 && (decide (n.1 = n.2) && (decide (0 ≤ n.1) && (decide (d = (0, 0)) && (decide (a = (0, 0)) && (t0.1 == 0 && (t1.1 == 0 && (decide (n.1.toNat ≤ t0.2.1) && (decide (n.1.toNat ≤ t1.2.1) && (decide (t1.2.2.1 ≤ t0.2.2.1) && (decide (t0.2.2.2 ≤ t1.2.2.2) && (Wr.contains (j1, 999) && (!sp.contains (j1, 999) && (decide (1 ≤ rm.1) && decide (S'.length + (nativeFrameWords "java/lang/System" "arraycopy" 5 + 11) ≤ rm.2)))))))))))))))) (some [(pc + 3, L, S'.map (ev_hs [(j1, 999)]), ev_hf [(j1, 999)] FS, RS)])
        | _ => none
      | _ => none
    | _ => none
def ev_op (o : Nat) (T : en_T) (sp Wr : List (Nat × Nat)) (K : List ek) (rm : Nat × Nat) (op : Instr) (len pc : Nat) (L : List ev_l) (S : List ev_s) (FS : List ev_f) (RS : List ev_r) : Option (List ev_S) := match op with
  | .iconst n => ev_kn 1 (Int32.ofInt n) len pc L S FS RS
  | .bipush n => ev_kn 2 (Int8.ofInt n).toInt32 len pc L S FS RS
  | .sipush n => ev_kn 3 (Int16.ofInt n).toInt32 len pc L S FS RS
  | .ldc i => match en_find o i en_kc with
    | some v => ev_kn 2 (Int32.ofInt v) len pc L S FS RS
    | none => none
  | .ldc_w i => match en_find o i en_kc with
    | some v => ev_kn 3 (Int32.ofInt v) len pc L S FS RS
    | none => none
  | .iload_n k => ev_ld 1 k.val len pc L S FS RS
  | .iload i => ev_ld 2 i len pc L S FS RS
  | .aload_n k => ev_la 1 k.val len pc L S FS RS
  | .aload i => ev_la 2 i len pc L S FS RS
  | .istore_n k => ev_st 1 k.val len pc L S FS RS
  | .istore i => ev_st 2 i len pc L S FS RS
  | .astore_n k => ev_sa 1 k.val len pc L S FS RS
  | .astore i => ev_sa 2 i len pc L S FS RS
  | .iinc i n => match L[i]? with
    | some (some (.inl q, g)) => match ev_ex (ev_lq L i q RS) (Int32.ofInt n).toInt with
      | true => en_g (len == 3) (some [(pc + 3, L.set i (some (.inl (en_add (ev_lq L i q RS) ((Int32.ofInt n).toInt, (Int32.ofInt n).toInt)), ev_gs g (Int32.ofInt n).toInt)), S.map (ev_kt i), ev_kf i FS, ev_sr i (Int32.ofInt n).toInt RS)])
      | false => en_g (len == 3) (some [(pc + 3, L.set i (some (.inl en_full, none)), S.map (ev_kt i), ev_kf i FS, ev_kr i RS)])
    | _ => none
  | .iadd => ev_bn en_add ev_ta (fun _ => true) len pc L S FS RS
  | .isub => ev_bn ev_sub (fun q r tq _ => ev_ts q r tq) (fun _ => true) len pc L S FS RS
  | .imul => ev_bn en_mul (fun _ _ _ _ => ev_nt) (fun _ => true) len pc L S FS RS
  | .iand => ev_bn en_and (fun _ _ _ _ => ev_nt) (fun _ => true) len pc L S FS RS
  | .ior => ev_bn (fun _ _ => en_full) (fun _ _ _ _ => ev_nt) (fun _ => true) len pc L S FS RS
  | .ixor => ev_bn (fun _ _ => en_full) (fun _ _ _ _ => ev_nt) (fun _ => true) len pc L S FS RS
  | .ishl => ev_bn (fun _ _ => en_full) (fun _ _ _ _ => ev_nt) (fun _ => true) len pc L S FS RS
  | .ishr => ev_bn (fun _ _ => en_full) (fun _ _ _ _ => ev_nt) (fun _ => true) len pc L S FS RS
  | .iushr => ev_bn (fun _ _ => en_full) (fun _ _ _ _ => ev_nt) (fun _ => true) len pc L S FS RS
  | .idiv => ev_bn ev_idiv (fun _ _ _ _ => ev_nt) ev_nz len pc L S FS RS
  | .irem => ev_bn ev_irem (fun _ _ _ _ => ev_nt) ev_nz len pc L S FS RS
  | .i2b => match S with
    | (.inl _, _) :: S' => en_g (len == 1) (some [(pc + 1, L, (.inl (-128, 127), ev_nt) :: S', FS, RS)])
    | _ => none
  | .dup => match S with
    | a :: S' => en_g (len == 1) (some [(pc + 1, L, a :: a :: S', FS, RS)])
    | _ => none
  | .dup2 => match S with
    | a :: b :: S' => en_g (len == 1) (some [(pc + 1, L, a :: b :: a :: b :: S', FS, RS)])
    | _ => none
  | .pop => match S with
    | _ :: S' => en_g (len == 1) (some [(pc + 1, L, S', FS, RS)])
    | _ => none
  | .goto off => en_g (len == 3 && decide (0 ≤ (pc : Int) + off)) (some [(((pc : Int) + off).toNat, L, S, FS, RS)])
  | .if_icmp cd off => match S with
    | (.inl r, tr) :: (.inl q, tq) :: S' => en_g (len == 3 && decide (0 ≤ (pc : Int) + off)) (some (ev_sides cd q r tq tr ((pc : Int) + off).toNat L S' FS RS ++ ev_sides (ev_neg cd) q r tq tr (pc + 3) L S' FS RS))
    | _ => none
  | .ifCond cd off => match S with
    | (.inl q, tq) :: S' => en_g (len == 3 && decide (0 ≤ (pc : Int) + off)) (some (ev_sides cd q (0, 0) tq ev_nt ((pc : Int) + off).toNat L S' FS RS ++ ev_sides (ev_neg cd) q (0, 0) tq ev_nt (pc + 3) L S' FS RS))
    | _ => none
  | .tableswitch d lo hi offs => match S with
    | (.inl q, tq) :: S' => en_g (ev_tsk pc d lo hi offs) (some (ev_tsw pc d lo hi offs q tq L S' FS RS))
    | _ => none
  | .lookupswitch d ps => match S with
    | (.inl q, tq) :: S' => en_g (ev_lkk pc d ps) (some (ev_lsw pc d ps.toList q tq L S' FS RS))
    | _ => none
  | .arraylength => match S with
    | (.inr (j + 2), _) :: S' => match T[j]? with
      | some (.inl t) => en_g (len == 1 && (!(t.1 == 3) && decide (t.2.1 < 2147483648))) (some [(pc + 1, L, (.inl ((t.2.1 : Int), (t.2.1 : Int)), ev_nt) :: S', FS, RS)])
      | _ => none
    | _ => none
  | .iaload => ev_al T 0 0 len pc L S FS RS
  | .baload => ev_al T 1 2 len pc L S FS RS
  | .aaload => match S with
    | (.inl q, _) :: (.inr (j + 2), _) :: S' => match T[j]? with
      | some (.inl t) => en_g (len == 1 && (t.1 == 3 && (decide (q.1 = q.2) && (decide (0 ≤ q.1) && decide (q.1.toNat < t.2.1))))) (some [(pc + 1, L, (.inr (t.2.2.1.toNat + q.1.toNat + 2), ev_nt) :: S', FS, RS)])
      | _ => none
    | _ => none
  | .iastore => ev_as T sp Wr true len pc L S FS RS
  | .bastore => ev_as T sp Wr false len pc L S FS RS
  | .getfield i => match en_find o i en_fl with
    | some (ci, f) => match S with
      | (.inr (j + 2), _) :: S' => match T[j]? with
        | some (.inr q) => match vwCl[ci]? with
          | some r => match q.2[f]? with
            | some (.inl b) => en_g (len == 3 && (q.1 == ci && decide (f < r.2.2))) (some [(pc + 3, L, (.inl (ev_fq FS (2, j, f) b), (2, j, f, 0)) :: S', FS, RS)])
            | some (.inr n) => en_g (len == 3 && (q.1 == ci && decide (f < r.2.2))) (some [(pc + 3, L, (.inr n, ev_nt) :: S', FS, RS)])
            | none => none
          | none => none
        | _ => none
      | _ => none
    | none => none
  | .putfield i => match en_find o i en_fl with
    | some (ci, f) => match S with
      | (.inl v, tv) :: (.inr (j + 2), _) :: S' => match T[j]? with
        | some (.inr q) => match vwCl[ci]? with
          | some r => match q.2[f]? with
            | some (.inl b) => en_g (len == 3 && (q.1 == ci && (decide (f < r.2.2) && (en_le (.inl v) (.inl b) && (en_put (en_tyX ci f) (.inl v) && (!(r.2.1 f).2.2.2 && (Wr.contains (j, f) && !sp.contains (j, f)))))))) (some [(pc + 3, L, S'.map (ev_hs [(j, f)]), ((2, j, f), v, ev_pg FS j f tv) :: ev_hf [(j, f)] FS, RS)])
            | _ => none
          | none => none
        | _ => none
      | _ => none
    | none => none
  | .invokevirtual i => ev_cV o T Wr K rm i len pc L S FS RS
  | .invokestatic i => ev_cS o T sp Wr K rm i len pc L S FS RS
  | _ => none
theorem ev_ct {j f : Nat} {W1 : List (Nat × Nat)} (h : W1.contains (j, f) = true) : (j, f) ∈ W1 := List.contains_iff_mem.mp h
theorem ev_cf {j f : Nat} {W1 : List (Nat × Nat)} (h : W1.contains (j, f) = false) : (j, f) ∉ W1 := fun hm => by rw [List.contains_iff_mem.mpr hm] at h; cases h
section EVO0
variable {p : Program} {l : Launch} {e : Env} {R : Room} {s : State} {m : MethodId} {args : Array Value} {below : List Frame} {meth : Method} {c : Code} {Q : State → Prop} {cc : ByteArray} {D : va_G} {tys : List (ClassId × FieldType)} {T : en_T} {I : va_W → Prop} {aK aV b0 nL o : Nat} {ad : Nat → Nat} {w0 : va_W} {Wr : List (Nat × Nat)} {γ : Nat → Int}
variable {pc : Nat} {L : List ev_l} {S : List ev_s} {FS : List ev_f} {RS : List ev_r}
theorem fs_goI {pc' i : Nat} {a : en_V} {t : ev_t} (hi : i < L.length) (row : ∀ (H : Heap) (locs : List Loc) (ls : Array Slot) (rest : List Value) (x : Value), en_v T.length ad a x → ls.size = nL → lv_wf ls → L.length = nL → (∀ ls' : Array Slot, lv_has ls' nL ((i, x) :: (en_lv ls).filter (fun q => !(q.1 == i) && !(q.1 + 1 == i && q.2.category == 2))) → W p l e R s m args below meth c H locs 0 0 Q (F0 m pc' ls' rest)) → W p l e R s m args below meth c H locs 0 0 Q (F0 m pc ls (x :: rest)))
    (k : ev_go p l e R s m args below meth c Q D tys T I b0 nL ad w0 Wr γ (pc', L.set i (some (a, ev_sg L i t)), S.map (ev_kt i), ev_kf i FS, ev_sR RS i t)) : ev_go p l e R s m args below meth c Q D tys T I b0 nL ad w0 Wr γ (pc, L, (a, t) :: S, FS, RS) := by
  intro H locs ls stk ws h
  have hn : L.length = nL := h.1.2.2
  exact fs_store hi (fun H locs ls rest x hx z1 z2 k => row H locs ls rest x hx z1 z2 hn k) k H locs ls stk ws h
theorem fs_iincF (C : ev_cx p s m args meth c cc nL o D tys aK aV b0) {i : Nat} {n : Int} {q : Int × Int} {g : Option (Nat × Int)} (hL : L[i]? = some (some (.inl q, g))) (hd : decode cc pc = .ok (.iinc i n, 3))
    (k : ev_go p l e R s m args below meth c Q D tys T I b0 nL ad w0 Wr γ (pc + 3, L.set i (some (.inl en_full, none)), S.map (ev_kt i), ev_kf i FS, ev_kr i RS)) : ev_go p l e R s m args below meth c Q D tys T I b0 nL ad w0 Wr γ (pc, L, S, FS, RS) := by
  intro H locs ls stk ws h
  dsimp only at h
  obtain ⟨⟨z1, z2, z3⟩, hl, hs, hf, hR, hr⟩ := h
  obtain ⟨x, h1, ⟨v, rfl, hv⟩, hg⟩ := hl i _ hL
  obtain ⟨j, hj⟩ := List.getElem?_of_mem (en_lv_mem.mpr h1)
  have hi : i < L.length := (List.getElem?_eq_some_iff.mp hL).1
  refine lv_iinc C.1 C.2.1 hd (en_lv_has z1 z2) hj rfl (by omega) rfl (fun ls' h' => ?_)
  obtain ⟨k1, k2⟩ := ev_keep h'
  exact k H locs ls' stk ws ⟨⟨h'.1, h'.2.1, by dsimp only; rw [List.length_set]; exact z3⟩, ev_lo_set k2 k1 ⟨_, rfl, en_full_in _⟩ trivial hl, ev_kt_ok k2 hs, ev_kf_ok k2 hf, ev_kr_ok k2 hR, hr⟩
end EVO0
section EVO
variable {p : Program} {l : Launch} {e : Env} {R : Room} {s : State} {m : MethodId} {args : Array Value} {below : List Frame} {meth : Method} {c : Code} {Q : State → Prop} {cc : ByteArray} {D : va_G} {tys : List (ClassId × FieldType)} {T : en_T} {I : va_W → Prop} {sp : List (Nat × Nat)} {aK aV b0 nL o : Nat} {ad : Nat → Nat} {w0 : va_W} {Wr : List (Nat × Nat)} {γ : Nat → Int}
variable {pc len : Nat} {L : List ev_l} {S : List ev_s} {FS : List ev_f} {RS : List ev_r} {K : List ek} {rm : Nat × Nat} {ss : List ev_S}
theorem ev_one {st : ev_S} {b : Bool} (h : en_g b (some [st]) = some ss) (k : ∀ st ∈ ss, ev_go p l e R s m args below meth c Q D tys T I b0 nL ad w0 Wr γ st) : b = true ∧ ev_go p l e R s m args below meth c Q D tys T I b0 nL ad w0 Wr γ st := by
  obtain ⟨h1, h2⟩ := en_g_some h
  cases h2
  exact ⟨h1, k _ List.mem_cons_self⟩
theorem ev_many {sts : List ev_S} {b : Bool} (h : en_g b (some sts) = some ss) (k : ∀ st ∈ ss, ev_go p l e R s m args below meth c Q D tys T I b0 nL ad w0 Wr γ st) : b = true ∧ ∀ st ∈ sts, ev_go p l e R s m args below meth c Q D tys T I b0 nL ad w0 Wr γ st := by
  obtain ⟨h1, h2⟩ := en_g_some h
  cases h2
  exact ⟨h1, k⟩
theorem ow_kn {j : Nat} {v : Int32} (h : ev_kn j v len pc L S FS RS = some ss) (k : ∀ st ∈ ss, ev_go p l e R s m args below meth c Q D tys T I b0 nL ad w0 Wr γ st) : len = j ∧ ev_go p l e R s m args below meth c Q D tys T I b0 nL ad w0 Wr γ (pc + j, L, (.inl (v.toInt, v.toInt), ev_nt) :: S, FS, RS) := by
  obtain ⟨h1, h2⟩ := ev_one h k
  exact ⟨by simpa using h1, h2⟩
theorem ow_ld {j i : Nat} (h : ev_ld j i len pc L S FS RS = some ss) (k : ∀ st ∈ ss, ev_go p l e R s m args below meth c Q D tys T I b0 nL ad w0 Wr γ st) : len = j ∧ ∃ q g, L[i]? = some (some (.inl q, g)) ∧ ev_go p l e R s m args below meth c Q D tys T I b0 nL ad w0 Wr γ (pc + j, L, (.inl (ev_lq L i q RS), (1, i, 0, 0)) :: S, FS, RS) := by
  unfold ev_ld at h
  split at h
  · rename_i q g hq
    obtain ⟨h1, h2⟩ := ev_one h k
    exact ⟨by simpa using h1, q, g, hq, h2⟩
  · cases h
theorem ow_la {j i : Nat} (h : ev_la j i len pc L S FS RS = some ss) (k : ∀ st ∈ ss, ev_go p l e R s m args below meth c Q D tys T I b0 nL ad w0 Wr γ st) : len = j ∧ ∃ q g, L[i]? = some (some (.inr (q + 2), g)) ∧ ev_go p l e R s m args below meth c Q D tys T I b0 nL ad w0 Wr γ (pc + j, L, (.inr (q + 2), ev_nt) :: S, FS, RS) := by
  unfold ev_la at h
  split at h
  · rename_i q g hq
    obtain ⟨h1, h2⟩ := ev_one h k
    exact ⟨by simpa using h1, q, g, hq, h2⟩
  · cases h
theorem ow_st {j i : Nat} (h : ev_st j i len pc L S FS RS = some ss) (k : ∀ st ∈ ss, ev_go p l e R s m args below meth c Q D tys T I b0 nL ad w0 Wr γ st) : len = j ∧ i < L.length ∧ ∃ q t S', S = (.inl q, t) :: S' ∧ ev_go p l e R s m args below meth c Q D tys T I b0 nL ad w0 Wr γ (pc + j, L.set i (some (.inl q, ev_sg L i t)), S'.map (ev_kt i), ev_kf i FS, ev_sR RS i t) := by
  unfold ev_st at h
  split at h
  · rename_i q t S'
    obtain ⟨h1, h2⟩ := ev_one h k
    simp only [Bool.and_eq_true, beq_iff_eq, decide_eq_true_eq] at h1
    exact ⟨h1.1, h1.2, q, t, S', rfl, h2⟩
  · cases h
theorem ow_sa {j i : Nat} (h : ev_sa j i len pc L S FS RS = some ss) (k : ∀ st ∈ ss, ev_go p l e R s m args below meth c Q D tys T I b0 nL ad w0 Wr γ st) : len = j ∧ i < L.length ∧ ∃ q t S', S = (.inr (q + 2), t) :: S' ∧ ev_go p l e R s m args below meth c Q D tys T I b0 nL ad w0 Wr γ (pc + j, L.set i (some (.inr (q + 2), ev_sg L i t)), S'.map (ev_kt i), ev_kf i FS, ev_sR RS i t) := by
  unfold ev_sa at h
  split at h
  · rename_i q t S'
    obtain ⟨h1, h2⟩ := ev_one h k
    simp only [Bool.and_eq_true, beq_iff_eq, decide_eq_true_eq] at h1
    exact ⟨h1.1, h1.2, q, t, S', rfl, h2⟩
  · cases h
theorem ow_bn {f : Int × Int → Int × Int → Int × Int} {g : Int × Int → Int × Int → ev_t → ev_t → ev_t} {b : Int × Int → Bool} (h : ev_bn f g b len pc L S FS RS = some ss) (k : ∀ st ∈ ss, ev_go p l e R s m args below meth c Q D tys T I b0 nL ad w0 Wr γ st) : len = 1 ∧ ∃ r tr q tq S', S = (.inl r, tr) :: (.inl q, tq) :: S' ∧ b r = true ∧ ev_go p l e R s m args below meth c Q D tys T I b0 nL ad w0 Wr γ (pc + 1, L, (.inl (f q r), g q r tq tr) :: S', FS, RS) := by
  unfold ev_bn at h
  split at h
  · rename_i r tr q tq S'
    obtain ⟨h1, h2⟩ := ev_one h k
    simp only [Bool.and_eq_true, beq_iff_eq] at h1
    exact ⟨h1.1, r, tr, q, tq, S', rfl, h1.2, h2⟩
  · cases h
theorem ow_al {i0 i1 : Nat} (h : ev_al T i0 i1 len pc L S FS RS = some ss) (k : ∀ st ∈ ss, ev_go p l e R s m args below meth c Q D tys T I b0 nL ad w0 Wr γ st) : len = 1 ∧ ∃ q tq j tj S' t, S = (.inl q, tq) :: (.inr (j + 2), tj) :: S' ∧ T[j]? = some (.inl t) ∧ (t.1 = i0 ∨ t.1 = i1) ∧ 0 ≤ q.1 ∧ q.2 < t.2.1 ∧ ev_go p l e R s m args below meth c Q D tys T I b0 nL ad w0 Wr γ (pc + 1, L, ev_rq FS j tq t.2.2 :: S', FS, RS) := by
  unfold ev_al at h
  split at h
  · rename_i q tq j tj S'
    split at h
    · rename_i t ht
      obtain ⟨h1, h2⟩ := ev_one h k
      simp only [Bool.and_eq_true, Bool.or_eq_true, beq_iff_eq, decide_eq_true_eq] at h1
      exact ⟨h1.2.1, q, tq, j, tj, S', t, rfl, ht, h1.1, h1.2.2.1, h1.2.2.2, h2⟩
    · cases h
  · cases h
theorem ow_as {b : Bool} (h : ev_as T sp Wr b len pc L S FS RS = some ss) (k : ∀ st ∈ ss, ev_go p l e R s m args below meth c Q D tys T I b0 nL ad w0 Wr γ st) : len = 1 ∧ ∃ v tv q tq j tj S' t, S = (.inl v, tv) :: (.inl q, tq) :: (.inr (j + 2), tj) :: S' ∧ T[j]? = some (.inl t) ∧ ((b = true ∧ t.1 = 0) ∨ (b = false ∧ ((t.1 = 2 ∧ -128 ≤ v.1 ∧ v.2 ≤ 127) ∨ (t.1 = 1 ∧ 0 ≤ v.1 ∧ v.2 ≤ 1)))) ∧ (0 ≤ q.1 ∧ q.2 < t.2.1 ∧ t.2.2.1 ≤ v.1 ∧ v.2 ≤ t.2.2.2 ∧ (j, 999) ∈ Wr ∧ (j, 999) ∉ sp) ∧ ev_go p l e R s m args below meth c Q D tys T I b0 nL ad w0 Wr γ (pc + 1, L, S'.map (ev_hs [(j, 999)]), ev_sf FS j tq v, RS) := by
  unfold ev_as at h
  split at h
  · rename_i v tv q tq j tj S'
    split at h
    · rename_i t ht
      obtain ⟨h1, h2⟩ := ev_one h k
      simp only [Bool.and_eq_true, beq_iff_eq, decide_eq_true_eq, Bool.not_eq_true'] at h1
      obtain ⟨h3, h4, h5, h6, h7, h8, h9, h10⟩ := h1
      refine ⟨h4, v, tv, q, tq, j, tj, S', t, rfl, ht, ?_, ⟨h5, h6, h7, h8, ev_ct h9, ev_cf h10⟩, h2⟩
      cases b with
      | true => exact Or.inl ⟨rfl, by simpa using h3⟩
      | false =>
        simp only [Bool.and_eq_true, Bool.or_eq_true, beq_iff_eq, decide_eq_true_eq] at h3
        exact Or.inr ⟨rfl, h3⟩
    · cases h
  · cases h
theorem ow_cV (C : ev_cx p s m args meth c cc nL o D tys aK aV b0) (hK : ∀ κ ∈ K, ek_ok l T I κ) (hR : R.frames = rm.1 ∧ R.locals = rm.2) {i : Nat} (hd : decode cc pc = .ok (.invokevirtual i, len)) (h : ev_cV o T Wr K rm i len pc L S FS RS = some ss) (k : ∀ st ∈ ss, ev_go p l e R s m args below meth c Q D tys T I b0 nL ad w0 Wr γ st) : ev_go p l e R s m args below meth c Q D tys T I b0 nL ad w0 Wr γ (pc, L, S, FS, RS) := by
  unfold ev_cV at h
  split at h
  · rename_i kd mi n hf
    split at h
    · rename_i j tj S' hS'
      split at h
      · rename_i q hq
        split at h
        · rename_i r hr
          split at h
          · rename_i ci hci
            split at h
            · rename_i rc hrc
              split at h
              · rename_i κ hκ
                obtain ⟨h1, h2⟩ := ev_many h k
                simp only [Bool.and_eq_true, beq_iff_eq] at h1
                obtain ⟨rfl, rfl, hqc, hn, hroom⟩ := h1
                unfold ev_room at hroom
                simp only [Bool.and_eq_true, decide_eq_true_eq] at hroom
                obtain ⟨p1, p2, p3, p4, p5⟩ := ev_pick_ok hκ
                obtain ⟨q1, q2⟩ := q
                dsimp only at hqc
                subst hqc
                have hSS : S = S.take n ++ (.inr (j + 2), tj) :: S' := by rw [← hS']; exact (List.take_append_drop n S).symm
                rw [hSS]
                exact fs_callV C hf hr (hK κ p1) p2 hn p3 p4 p5 hq hrc hci (by rw [hR.1]; exact hroom.1) (by rw [hR.2]; exact hroom.2.1) hroom.2.2 hd h2
              · cases h
            · cases h
          · cases h
        · cases h
      · cases h
    · cases h
  · cases h
theorem ow_cS (C : ev_cx p s m args meth c cc nL o D tys aK aV b0) (hI0 : ev_hI I sp) (hK : ∀ κ ∈ K, ek_ok l T I κ) (hR : R.frames = rm.1 ∧ R.locals = rm.2) {i : Nat} (hd : decode cc pc = .ok (.invokestatic i, len)) (h : ev_cS o T sp Wr K rm i len pc L S FS RS = some ss) (k : ∀ st ∈ ss, ev_go p l e R s m args below meth c Q D tys T I b0 nL ad w0 Wr γ st) : ev_go p l e R s m args below meth c Q D tys T I b0 nL ad w0 Wr γ (pc, L, S, FS, RS) := by
  unfold ev_cS at h
  split at h
  · rename_i kd mi n hf
    split at h
    · rename_i hmm
      split at h
      · rename_i r tr q tq S'
        obtain ⟨h1, h2⟩ := ev_one h k
        simp only [Bool.and_eq_true, beq_iff_eq, decide_eq_true_eq] at h1
        obtain ⟨rfl, rfl, rfl, h3, h4⟩ := h1
        simp only [Bool.or_eq_true, beq_iff_eq] at hmm
        rcases hmm with rfl | rfl
        · exact fs_min C hf (by rw [hR.1]; exact h3) (by rw [hR.2]; exact h4) hd h2
        · exact fs_max C hf (by rw [hR.1]; exact h3) (by rw [hR.2]; exact h4) hd h2
      · cases h
    · split at h
      · rename_i r hr
        split at h
        · rename_i κ hκ
          obtain ⟨h1, h2⟩ := ev_many h k
          simp only [Bool.and_eq_true, Bool.or_eq_true, beq_iff_eq] at h1
          obtain ⟨hkd, rfl, hn, hroom⟩ := h1
          unfold ev_room at hroom
          simp only [Bool.and_eq_true, decide_eq_true_eq] at hroom
          obtain ⟨p1, p2, p3, p4, p5⟩ := ev_pick_ok hκ
          have hSS : S = S.take n ++ S.drop n := (List.take_append_drop n S).symm
          rw [hSS]
          exact fs_callS C hf hkd hr (hK κ p1) p2 hn p3 p4 p5 (by rw [hR.1]; exact hroom.1) (by rw [hR.2]; exact hroom.2.1) hroom.2.2 hd h2
        · cases h
      · cases h
  · split at h
    · rename_i n tn d td j1 t1' a ta j0 t0' S'
      split at h
      · rename_i t0 ht0
        split at h
        · rename_i t1 ht1
          obtain ⟨h1, h2⟩ := ev_one h k
          simp only [Bool.and_eq_true, beq_iff_eq, decide_eq_true_eq, Bool.not_eq_true'] at h1
          obtain ⟨h3, rfl, h4, h5, rfl, rfl, h6, h7, h8, h9, h10, h11, h12, h13, h14, h15⟩ := h1
          have hn : n = ((n.1.toNat : Int), (n.1.toNat : Int)) := by
            obtain ⟨n1, n2⟩ := n
            dsimp only at h4 h5 ⊢
            subst h4
            have : n1 = (n1.toNat : Int) := by omega
            rw [← this]
          rw [hn]
          exact fs_copy C hI0 (List.contains_iff_mem.mp h3) ht0 ht1 h6 h7 h8 h9 h10 h11 (ev_ct h12) (ev_cf h13) (by rw [hR.1]; exact h14) (by rw [hR.2]; exact h15) hd h2
        · cases h
      · cases h
    · cases h
set_option maxHeartbeats 4000000 in
theorem ev_op_ok (C : ev_cx p s m args meth c cc nL o D tys aK aV b0) (hI0 : ev_hI I sp) (hK : ∀ κ ∈ K, ek_ok l T I κ) (hR : R.frames = rm.1 ∧ R.locals = rm.2) {op : Instr} (hd : decode cc pc = .ok (op, len)) (h : ev_op o T sp Wr K rm op len pc L S FS RS = some ss) (k : ∀ st ∈ ss, ev_go p l e R s m args below meth c Q D tys T I b0 nL ad w0 Wr γ st) : ev_go p l e R s m args below meth c Q D tys T I b0 nL ad w0 Wr γ (pc, L, S, FS, RS) := by
  cases op with
  | iconst n =>
    obtain ⟨rfl, h2⟩ := ow_kn (h : ev_kn 1 (Int32.ofInt n) len pc L S FS RS = some ss) k
    exact fs_push (en_in_self _) (fun H locs ls rest k => lv_iconst C.1 C.2.1 hd rfl k) h2
  | bipush n =>
    obtain ⟨rfl, h2⟩ := ow_kn (h : ev_kn 2 (Int8.ofInt n).toInt32 len pc L S FS RS = some ss) k
    exact fs_push (en_in_self _) (fun H locs ls rest k => lv_bipush C.1 C.2.1 hd rfl k) h2
  | sipush n =>
    obtain ⟨rfl, h2⟩ := ow_kn (h : ev_kn 3 (Int16.ofInt n).toInt32 len pc L S FS RS = some ss) k
    exact fs_push (en_in_self _) (fun H locs ls rest k => lv_sipush C.1 C.2.1 hd rfl k) h2
  | ldc i =>
    dsimp only [ev_op] at h
    split at h
    · rename_i v hv
      obtain ⟨rfl, h2⟩ := ow_kn h k
      have hw : Cond.constant (en_nm o) i (Int32.ofInt v) ∈ en_ws := en_ws_in (en_kc_in _ (List.mem_map.mpr ⟨(o, i, v), en_find_mem hv, rfl⟩)) rfl
      exact fs_push (en_in_self _) (fun H locs ls rest k => lv_ldc C.1 C.2.1 C.2.2.2.1 (C.2.2.2.2.1 _ hw) hd k) h2
    · cases h
  | ldc_w i =>
    dsimp only [ev_op] at h
    split at h
    · rename_i v hv
      obtain ⟨rfl, h2⟩ := ow_kn h k
      have hw : Cond.constant (en_nm o) i (Int32.ofInt v) ∈ en_ws := en_ws_in (en_kc_in _ (List.mem_map.mpr ⟨(o, i, v), en_find_mem hv, rfl⟩)) rfl
      exact fs_push (en_in_self _) (fun H locs ls rest k => lv_ldcw C.1 C.2.1 C.2.2.2.1 (C.2.2.2.2.1 _ hw) hd k) h2
    · cases h
  | iload_n i =>
    obtain ⟨rfl, q, g, h1, h2⟩ := ow_ld (h : ev_ld 1 i.val len pc L S FS RS = some ss) k
    exact fs_iload h1 (fun H locs ls rest v h k => lv_iload_n C.1 C.2.1 hd rfl h k) h2
  | iload i =>
    obtain ⟨rfl, q, g, h1, h2⟩ := ow_ld (h : ev_ld 2 i len pc L S FS RS = some ss) k
    exact fs_iload h1 (fun H locs ls rest v h k => lv_iload C.1 C.2.1 hd h k) h2
  | aload_n i =>
    obtain ⟨rfl, q, g, h1, h2⟩ := ow_la (h : ev_la 1 i.val len pc L S FS RS = some ss) k
    exact fs_aload h1 (fun H locs ls rest v h k => lv_aload_n C.1 C.2.1 hd rfl h k) h2
  | aload i =>
    obtain ⟨rfl, q, g, h1, h2⟩ := ow_la (h : ev_la 2 i len pc L S FS RS = some ss) k
    exact fs_aload h1 (fun H locs ls rest v h k => lv_aload C.1 C.2.1 hd h k) h2
  | istore_n i =>
    obtain ⟨rfl, h1, q, t, S', rfl, h2⟩ := ow_st (h : ev_st 1 i.val len pc L S FS RS = some ss) k
    refine fs_goI h1 (fun H locs ls rest x hx z1 z2 hL k => ?_) h2
    obtain ⟨v, rfl, hv⟩ := hx
    exact lv_istore_n C.1 C.2.1 hd rfl (en_lv_has z1 z2) (by omega) rfl k
  | istore i =>
    obtain ⟨rfl, h1, q, t, S', rfl, h2⟩ := ow_st (h : ev_st 2 i len pc L S FS RS = some ss) k
    refine fs_goI h1 (fun H locs ls rest x hx z1 z2 hL k => ?_) h2
    obtain ⟨v, rfl, hv⟩ := hx
    exact lv_istore C.1 C.2.1 hd (en_lv_has z1 z2) (by omega) rfl k
  | astore_n i =>
    obtain ⟨rfl, h1, j, t, S', rfl, h2⟩ := ow_sa (h : ev_sa 1 i.val len pc L S FS RS = some ss) k
    refine fs_goI h1 (fun H locs ls rest x hx z1 z2 hL k => ?_) h2
    obtain ⟨rfl, hv⟩ : x = .ref (ad j) ∧ j < T.length := hx
    exact lv_astore_n C.1 C.2.1 hd rfl (en_lv_has z1 z2) (by omega) rfl k
  | astore i =>
    obtain ⟨rfl, h1, j, t, S', rfl, h2⟩ := ow_sa (h : ev_sa 2 i len pc L S FS RS = some ss) k
    refine fs_goI h1 (fun H locs ls rest x hx z1 z2 hL k => ?_) h2
    obtain ⟨rfl, hv⟩ : x = .ref (ad j) ∧ j < T.length := hx
    exact lv_astore C.1 C.2.1 hd (en_lv_has z1 z2) (by omega) rfl k
  | iinc i n =>
    dsimp only [ev_op] at h
    split at h
    · rename_i q g hq
      split at h
      · rename_i hex
        obtain ⟨h1, h2⟩ := ev_one h k
        simp only [beq_iff_eq] at h1
        subst h1
        exact fs_iinc C hq hex hd h2
      · obtain ⟨h1, h2⟩ := ev_one h k
        simp only [beq_iff_eq] at h1
        subst h1
        exact fs_iincF C hq hd h2
    · cases h
  | iadd =>
    obtain ⟨rfl, r, tr, q, tq, S', rfl, -, h2⟩ := ow_bn (h : ev_bn en_add ev_ta (fun _ => true) len pc L S FS RS = some ss) k
    exact fs_bin (fun x y => x + y) (fun ls ws x y hx hy tx ty => ⟨en_add_in hx hy, ev_ta_ok hx hy tx ty⟩) (fun H locs ls rest x y _ _ k => lv_iadd C.1 C.2.1 hd k) h2
  | isub =>
    obtain ⟨rfl, r, tr, q, tq, S', rfl, -, h2⟩ := ow_bn (h : ev_bn ev_sub (fun q r tq _ => ev_ts q r tq) (fun _ => true) len pc L S FS RS = some ss) k
    exact fs_bin (fun x y => x - y) (fun ls ws x y hx hy tx ty => ⟨ev_sub_in hx hy, ev_ts_ok hx hy tx⟩) (fun H locs ls rest x y _ _ k => lv_isub C.1 C.2.1 hd k) h2
  | imul =>
    obtain ⟨rfl, r, tr, q, tq, S', rfl, -, h2⟩ := ow_bn (h : ev_bn en_mul (fun _ _ _ _ => ev_nt) (fun _ => true) len pc L S FS RS = some ss) k
    exact fs_bin (fun x y => x * y) (fun ls ws x y hx hy tx ty => ⟨en_mul_in hx hy, ev_tag0⟩) (fun H locs ls rest x y _ _ k => lv_imul C.1 C.2.1 hd k) h2
  | iand =>
    obtain ⟨rfl, r, tr, q, tq, S', rfl, -, h2⟩ := ow_bn (h : ev_bn en_and (fun _ _ _ _ => ev_nt) (fun _ => true) len pc L S FS RS = some ss) k
    exact fs_bin (fun x y => x &&& y) (fun ls ws x y hx hy tx ty => ⟨en_and_in hx hy, ev_tag0⟩) (fun H locs ls rest x y _ _ k => lv_iand C.1 C.2.1 hd k) h2
  | ior =>
    obtain ⟨rfl, r, tr, q, tq, S', rfl, -, h2⟩ := ow_bn (h : ev_bn (fun _ _ => en_full) (fun _ _ _ _ => ev_nt) (fun _ => true) len pc L S FS RS = some ss) k
    exact fs_bin (fun x y => x ||| y) (fun ls ws x y hx hy tx ty => ⟨en_full_in _, ev_tag0⟩) (fun H locs ls rest x y _ _ k => lv_ior C.1 C.2.1 hd k) h2
  | ixor =>
    obtain ⟨rfl, r, tr, q, tq, S', rfl, -, h2⟩ := ow_bn (h : ev_bn (fun _ _ => en_full) (fun _ _ _ _ => ev_nt) (fun _ => true) len pc L S FS RS = some ss) k
    exact fs_bin (fun x y => x ^^^ y) (fun ls ws x y hx hy tx ty => ⟨en_full_in _, ev_tag0⟩) (fun H locs ls rest x y _ _ k => lv_ixor C.1 C.2.1 hd k) h2
  | ishl =>
    obtain ⟨rfl, r, tr, q, tq, S', rfl, -, h2⟩ := ow_bn (h : ev_bn (fun _ _ => en_full) (fun _ _ _ _ => ev_nt) (fun _ => true) len pc L S FS RS = some ss) k
    exact fs_bin (fun x y => x <<< (y &&& 31)) (fun ls ws x y hx hy tx ty => ⟨en_full_in _, ev_tag0⟩) (fun H locs ls rest x y _ _ k => lv_ishl C.1 C.2.1 hd k) h2
  | ishr =>
    obtain ⟨rfl, r, tr, q, tq, S', rfl, -, h2⟩ := ow_bn (h : ev_bn (fun _ _ => en_full) (fun _ _ _ _ => ev_nt) (fun _ => true) len pc L S FS RS = some ss) k
    exact fs_bin (fun x y => x >>> (y &&& 31)) (fun ls ws x y hx hy tx ty => ⟨en_full_in _, ev_tag0⟩) (fun H locs ls rest x y _ _ k => lv_ishr C.1 C.2.1 hd k) h2
  | iushr =>
    obtain ⟨rfl, r, tr, q, tq, S', rfl, -, h2⟩ := ow_bn (h : ev_bn (fun _ _ => en_full) (fun _ _ _ _ => ev_nt) (fun _ => true) len pc L S FS RS = some ss) k
    exact fs_bin (fun x y => (x.toUInt32 >>> (y.toUInt32 &&& Int32.toUInt32 31)).toInt32) (fun ls ws x y hx hy tx ty => ⟨en_full_in _, ev_tag0⟩) (fun H locs ls rest x y _ _ k => lv_iushr C.1 C.2.1 hd rfl k) h2
  | idiv =>
    obtain ⟨rfl, r, tr, q, tq, S', rfl, hz, h2⟩ := ow_bn (h : ev_bn ev_idiv (fun _ _ _ _ => ev_nt) ev_nz len pc L S FS RS = some ss) k
    exact fs_bin (fun x y => x / y) (fun ls ws x y hx hy tx ty => ⟨ev_idiv_in hx hy, ev_tag0⟩) (fun H locs ls rest x y _ hy k => lv_idiv C.1 C.2.1 hd (ev_nz_ok hz hy) k) h2
  | irem =>
    obtain ⟨rfl, r, tr, q, tq, S', rfl, hz, h2⟩ := ow_bn (h : ev_bn ev_irem (fun _ _ _ _ => ev_nt) ev_nz len pc L S FS RS = some ss) k
    exact fs_bin (fun x y => x - x / y * y) (fun ls ws x y hx hy tx ty => ⟨ev_irem_in hx hy, ev_tag0⟩) (fun H locs ls rest x y _ hy k => lv_irem C.1 C.2.1 hd (ev_nz_ok hz hy) k) h2
  | i2b =>
    dsimp only [ev_op] at h
    split at h
    · obtain ⟨h1, h2⟩ := ev_one h k
      simp only [beq_iff_eq] at h1
      subst h1
      exact fs_un (fun x => x.toInt8.toInt32) (fun x _ => en_i2b_in x) rfl (fun H locs ls rest x k => lv_i2b C.1 C.2.1 hd rfl k) h2
    · cases h
  | dup =>
    dsimp only [ev_op] at h
    split at h
    · obtain ⟨h1, h2⟩ := ev_one h k
      simp only [beq_iff_eq] at h1
      subst h1
      exact fs_dup C hd h2
    · cases h
  | dup2 =>
    dsimp only [ev_op] at h
    split at h
    · obtain ⟨h1, h2⟩ := ev_one h k
      simp only [beq_iff_eq] at h1
      subst h1
      exact fs_dup2 C hd h2
    · cases h
  | pop =>
    dsimp only [ev_op] at h
    split at h
    · obtain ⟨h1, h2⟩ := ev_one h k
      simp only [beq_iff_eq] at h1
      subst h1
      exact fs_pop C hd h2
    · cases h
  | goto off =>
    dsimp only [ev_op] at h
    obtain ⟨h1, h2⟩ := ev_one h k
    simp only [Bool.and_eq_true, beq_iff_eq] at h1
    obtain ⟨rfl, h1⟩ := h1
    exact fs_goto C h1 hd h2
  | if_icmp cd off =>
    dsimp only [ev_op] at h
    split at h
    · obtain ⟨h1, h2⟩ := ev_many h k
      simp only [Bool.and_eq_true, beq_iff_eq] at h1
      obtain ⟨rfl, h1⟩ := h1
      exact fs_icmp C h1 hd h2
    · cases h
  | ifCond cd off =>
    dsimp only [ev_op] at h
    split at h
    · obtain ⟨h1, h2⟩ := ev_many h k
      simp only [Bool.and_eq_true, beq_iff_eq] at h1
      obtain ⟨rfl, h1⟩ := h1
      exact fs_if C h1 hd h2
    · cases h
  | tableswitch d lo hi offs =>
    dsimp only [ev_op] at h
    split at h
    · obtain ⟨h1, h2⟩ := ev_many h k
      exact fs_tsw C h1 hd h2
    · cases h
  | lookupswitch d ps =>
    dsimp only [ev_op] at h
    split at h
    · obtain ⟨h1, h2⟩ := ev_many h k
      exact fs_lsw C h1 hd h2
    · cases h
  | arraylength =>
    dsimp only [ev_op] at h
    split at h
    · split at h
      · rename_i t ht
        obtain ⟨h1, h2⟩ := ev_one h k
        simp only [Bool.and_eq_true, beq_iff_eq, decide_eq_true_eq, Bool.not_eq_true', beq_eq_false_iff_ne] at h1
        obtain ⟨rfl, h3, h4⟩ := h1
        exact fs_alen C ht h3 h4 hd h2
      · cases h
    · cases h
  | iaload =>
    obtain ⟨rfl, q, tq, j, tj, S', t, rfl, ht, h3, h4, h5, h2⟩ := ow_al (h : ev_al T 0 0 len pc L S FS RS = some ss) k
    have ht0 : t.1 = 0 := h3.elim id id
    exact fs_ald ht (by rw [ht0]; decide) h4 h5 (fun H locs ls rest ws a cA f i hP ha hty hin k => va_iald C.1 C.2.1 C.2.2.2.2.2.1 hP j t.1 ha (by rw [hty, ht0]; rfl) hin hd k) h2
  | baload =>
    obtain ⟨rfl, q, tq, j, tj, S', t, rfl, ht, h3, h4, h5, h2⟩ := ow_al (h : ev_al T 1 2 len pc L S FS RS = some ss) k
    rcases h3 with ht0 | ht0
    · exact fs_ald ht (by rw [ht0]; decide) h4 h5 (fun H locs ls rest ws a cA f i hP ha hty hin k => va_zald C.1 C.2.1 C.2.2.2.2.2.1 hP j t.1 ha (by rw [hty, ht0]; rfl) hin hd k) h2
    · exact fs_ald ht (by rw [ht0]; decide) h4 h5 (fun H locs ls rest ws a cA f i hP ha hty hin k => va_bald C.1 C.2.1 C.2.2.2.2.2.1 hP j t.1 ha (by rw [hty, ht0]; rfl) hin hd k) h2
  | aaload =>
    dsimp only [ev_op] at h
    split at h
    · rename_i q tq j tj S'
      split at h
      · rename_i t ht
        obtain ⟨h1, h2⟩ := ev_one h k
        simp only [Bool.and_eq_true, beq_iff_eq, decide_eq_true_eq] at h1
        obtain ⟨rfl, h3, h4, h5, h6⟩ := h1
        have hn : q = ((q.1.toNat : Int), (q.1.toNat : Int)) := by
          obtain ⟨n1, n2⟩ := q
          dsimp only at h4 h5 ⊢
          subst h4
          have : n1 = (n1.toNat : Int) := by omega
          rw [← this]
        rw [hn]
        exact fs_aald C ht h3 h6 hd h2
      · cases h
    · cases h
  | iastore =>
    have h0 : ev_as T sp Wr true len pc L S FS RS = some ss := h
    obtain ⟨rfl, v, tv, q, tq, j, tj, S', t, rfl, ht, h3, ⟨h4, h5, h6, h7, h8, h9⟩, h2⟩ := ow_as (b := true) h0 k
    rcases h3 with ⟨-, ht0⟩ | ⟨h3, -⟩
    · exact fs_ast hI0 ht (by rw [ht0]; decide) h4 h5 h6 h7 h8 h9 (fun H locs ls rest ws a cA f i x _ hP hD hS ha hty hin k => va_iast C.1 C.2.1 C.2.2.2.2.2.1 hP hD hS j t.1 ha (by rw [hty, ht0]; rfl) hin hd k) h2
    · cases h3
  | bastore =>
    have h0 : ev_as T sp Wr false len pc L S FS RS = some ss := h
    obtain ⟨rfl, v, tv, q, tq, j, tj, S', t, rfl, ht, h3, ⟨h4, h5, h6, h7, h8, h9⟩, h2⟩ := ow_as (b := false) h0 k
    rcases h3 with ⟨h3, -⟩ | ⟨-, ⟨ht0, a1, a2⟩ | ⟨ht0, a1, a2⟩⟩
    · cases h3
    · exact fs_ast hI0 ht (by rw [ht0]; decide) h4 h5 h6 h7 h8 h9 (fun H locs ls rest ws a cA f i x hx hP hD hS ha hty hin k => va_bast C.1 C.2.1 C.2.2.2.2.2.1 hP hD hS j t.1 ha (by rw [hty, ht0]; rfl) hin hd (by obtain ⟨hx1, hx2⟩ := hx; rw [en_nar_b (by omega) (by omega)]; exact k)) h2
    · exact fs_ast hI0 ht (by rw [ht0]; decide) h4 h5 h6 h7 h8 h9 (fun H locs ls rest ws a cA f i x hx hP hD hS ha hty hin k => va_zast C.1 C.2.1 C.2.2.2.2.2.1 hP hD hS j t.1 ha (by rw [hty, ht0]; rfl) hin hd (by obtain ⟨hx1, hx2⟩ := hx; rw [en_vp_nar (en_nar_z (by omega) (by omega))]; exact k)) h2
  | getfield i =>
    dsimp only [ev_op] at h
    split at h
    · rename_i ci f hf
      split at h
      · split at h
        · rename_i q hq
          split at h
          · rename_i r hr
            split at h
            · rename_i b ha
              obtain ⟨h1, h2⟩ := ev_one h k
              simp only [Bool.and_eq_true, beq_iff_eq, decide_eq_true_eq] at h1
              obtain ⟨rfl, h3, h4⟩ := h1
              obtain ⟨q1, q2⟩ := q
              dsimp only at h3 ha
              subst h3
              exact fs_geti C hf hr h4 hq ha hd h2
            · rename_i n ha
              obtain ⟨h1, h2⟩ := ev_one h k
              simp only [Bool.and_eq_true, beq_iff_eq, decide_eq_true_eq] at h1
              obtain ⟨rfl, h3, h4⟩ := h1
              obtain ⟨q1, q2⟩ := q
              dsimp only at h3 ha
              subst h3
              exact fs_getr C hf hr h4 hq ha hd h2
            · cases h
          · cases h
        · cases h
      · cases h
    · cases h
  | putfield i =>
    dsimp only [ev_op] at h
    split at h
    · rename_i ci f hf
      split at h
      · split at h
        · rename_i q hq
          split at h
          · rename_i r hr
            split at h
            · rename_i b ha
              obtain ⟨h1, h2⟩ := ev_one h k
              simp only [Bool.and_eq_true, beq_iff_eq, decide_eq_true_eq, Bool.not_eq_true'] at h1
              obtain ⟨rfl, h3, h4, h5, h6, h7, h8, h9⟩ := h1
              obtain ⟨q1, q2⟩ := q
              dsimp only at h3 ha
              subst h3
              exact fs_puti C hI0 hf hr h4 hq ha h5 h6 h7 (ev_ct h8) (ev_cf h9) hd h2
            · cases h
          · cases h
        · cases h
      · cases h
    · cases h
  | invokevirtual i => exact ow_cV C hK hR hd h k
  | invokestatic i => exact ow_cS C hI0 hK hR hd h k
  | _ => cases h
end EVO
