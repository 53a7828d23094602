def en_pick (K : List en_K) (mi : Nat) (as : List en_V) (T : en_T) : Option en_K := K.find? (fun κ => κ.1 == mi && (en_all2 en_le as κ.2.1 && en_all2 eg_cle T (k_T0 κ)))
def en_pickP (K : List en_K) (mi : Nat) (as : List en_V) : Option en_K := K.find? (fun κ => κ.1 == mi && ((k_T0 κ).isEmpty && (en_all2 en_le as κ.2.1 && κ.2.1.all en_isI)))
def en_room (rm : Nat × Nat × Nat × Nat) (κ : en_K) (ml cs sl n : Nat) : Bool := decide (k_fr κ + 1 ≤ rm.1) && (decide (8 + (ml + 11) + k_lo κ ≤ rm.2.1) && (decide (cs + k_mc κ ≤ rm.2.2.1) && (decide (sl + k_ms κ ≤ rm.2.2.2) && decide (n ≤ 8))))
def en_cV (o : Nat) (K : List en_K) (rm : Nat × Nat × Nat × Nat) (i len pc : Nat) (L : en_L) (S : List en_V) (T : en_T) (cs sl : Nat) : Option (List en_S) := match en_find o i en_cl with
  | some (kd, mi, n) => match S.drop n with
    | .inr (j + 2) :: S' => match T[j]? with
      | some (.inr q) => match en_ms[mi]? with
        | some r => match en_mo[mi]? with
          | some ci => match vwCl[ci]? with
            | some _ => match en_pick K mi (.inr (j + 2) :: (S.take n).reverse) T with
              | some κ => en_g (kd == 0 && (len == 3 && (q.1 == ci && ((S.take n).length == n && en_room rm κ r.2.2.1 cs sl S'.length)))) (some [(pc + 3, L, (k_rv κ).toList ++ S', k_T1 κ, cs + k_mc κ, sl + k_ms κ)])
              | none => none
            | none => none
          | none => none
        | none => none
      | _ => none
    | _ => none
  | none => none
def en_cI (o : Nat) (K : List en_K) (rm : Nat × Nat × Nat × Nat) (i len pc : Nat) (L : en_L) (S : List en_V) (T : en_T) (cs sl : Nat) : Option (List en_S) := match en_find o i en_cl with
  | some (kd, mi, n) => match S.drop n with
    | .inr (j + 2) :: S' => match en_ms[mi]? with
      | some r => match en_pick K mi (.inr (j + 2) :: (S.take n).reverse) T with
        | some κ => en_g ((kd == 3 || kd == 4) && (len == 3 && ((S.take n).length == n && en_room rm κ r.2.2.1 cs sl S'.length))) (some [(pc + 3, L, (k_rv κ).toList ++ S', k_T1 κ, cs + k_mc κ, sl + k_ms κ)])
        | none => none
      | none => none
    | _ => none
  | none => match S with
    | .inr (_ + 2) :: S' => en_g (en_oi.contains (o, i) && (len == 3 && (decide (1 ≤ rm.1) && decide (S'.length + 12 ≤ rm.2.1)))) (some [(pc + 3, L, S', T, cs, sl)])
    | _ => none
def en_cS (o : Nat) (K : List en_K) (rm : Nat × Nat × Nat × Nat) (i len pc : Nat) (L : en_L) (S : List en_V) (T : en_T) (cs sl : Nat) : Option (List en_S) := match en_find o i en_cl with
  | some (kd, mi, n) => match en_ms[mi]? with
    | some r => match en_pickP K mi (S.take n).reverse with
      | some κ => en_g ((kd == 1 || kd == 2) && (len == 3 && ((S.take n).length == n && en_room rm κ r.2.2.1 cs sl (S.drop n).length))) (some [(pc + 3, L, (k_rv κ).toList ++ S.drop n, T, cs + k_mc κ, sl + k_ms κ)])
      | none => match en_pick K mi (S.take n).reverse T with
        | some κ => en_g ((kd == 1 || kd == 2) && (len == 3 && ((S.take n).length == n && en_room rm κ r.2.2.1 cs sl (S.drop n).length))) (some [(pc + 3, L, (k_rv κ).toList ++ S.drop n, k_T1 κ, cs + k_mc κ, sl + k_ms κ)])
        | none => none
    | none => none
  | none => match S with
    | .inl n :: .inl d :: .inr (j1 + 2) :: .inl a :: .inr (j0 + 2) :: S' => match T[j0]? with
      | some (.inl t0) => match T[j1]? with
        | some (.inl t1) => en_g (en_ac.contains (o, i) && (len == 3 && (decide (n.1 = n.2) && (decide (0 ≤ n.1) && (decide (d = (0, 0)) && (decide (a = (0, 0)) && (t0.1 == 0 && (t1.1 == 0 && (decide (n.1.toNat ≤ t0.2.1) && (decide (n.1.toNat ≤ t1.2.1) && (decide (n.1.toNat < 2147483648) && (decide (1 ≤ rm.1) && decide (S'.length + (nativeFrameWords "java/lang/System" "arraycopy" 5 + 11) ≤ rm.2.1))))))))))))) (some [(pc + 3, L, S', T.set j1 (.inl (0, t1.2.1, en_acb t0 t1 n.1.toNat)), cs, sl)])
        | _ => none
      | _ => none
    | _ => none
def en_bn (f : Int × Int → Int × Int → Int × Int) (len pc : Nat) (L : en_L) (S : List en_V) (T : en_T) (cs sl : Nat) : Option (List en_S) := match S with
  | .inl r :: .inl q :: S' => en_g (len == 1) (some [(pc + 1, L, .inl (f q r) :: S', T, cs, sl)])
  | _ => none
def en_st (k i len pc : Nat) (L : en_L) (S : List en_V) (T : en_T) (cs sl : Nat) : Option (List en_S) := match S with
  | .inl q :: S' => en_g (len == k && decide (i < L.length)) (some [(pc + k, L.set i (some (.inl q)), S', T, cs, sl)])
  | _ => none
def en_sa (k i len pc : Nat) (L : en_L) (S : List en_V) (T : en_T) (cs sl : Nat) : Option (List en_S) := match S with
  | .inr (j + 2) :: S' => en_g (len == k && decide (i < L.length)) (some [(pc + k, L.set i (some (.inr (j + 2))), S', T, cs, sl)])
  | _ => none
def en_ld (k i len pc : Nat) (L : en_L) (S : List en_V) (T : en_T) (cs sl : Nat) : Option (List en_S) := match L[i]? with
  | some (some (.inl q)) => en_g (len == k) (some [(pc + k, L, .inl q :: S, T, cs, sl)])
  | _ => none
def en_la (k i len pc : Nat) (L : en_L) (S : List en_V) (T : en_T) (cs sl : Nat) : Option (List en_S) := match L[i]? with
  | some (some (.inr (j + 2))) => en_g (len == k) (some [(pc + k, L, .inr (j + 2) :: S, T, cs, sl)])
  | _ => none
def en_kn (k : Nat) (v : Int32) (len pc : Nat) (L : en_L) (S : List en_V) (T : en_T) (cs sl : Nat) : Option (List en_S) := en_g (len == k) (some [(pc + k, L, .inl (v.toInt, v.toInt) :: S, T, cs, sl)])
def en_al (i0 i1 len pc : Nat) (L : en_L) (S : List en_V) (T : en_T) (cs sl : Nat) : Option (List en_S) := match S with
  | .inl q :: .inr (j + 2) :: S' => match T[j]? with
    | some (.inl t) => en_g ((t.1 == i0 || t.1 == i1) && (len == 1 && (decide (0 ≤ q.1) && decide (q.2 < t.2.1)))) (some [(pc + 1, L, .inl t.2.2 :: S', T, cs, sl)])
    | _ => none
  | _ => none
def en_as (b : Bool) (len pc : Nat) (L : en_L) (S : List en_V) (T : en_T) (cs sl : Nat) : Option (List en_S) := match S with
  | .inl v :: .inl q :: .inr (j + 2) :: S' => match T[j]? with
    | some (.inl t) => en_g ((match b with
        | true => t.1 == 0
        | false => (t.1 == 2 && (decide (-128 ≤ v.1) && decide (v.2 ≤ 127))) || (t.1 == 1 && (decide (0 ≤ v.1) && decide (v.2 ≤ 1)))) && (len == 1 && (decide (0 ≤ q.1) && decide (q.2 < t.2.1)))) (some [(pc + 1, L, S', T.set j (.inl (t.1, t.2.1, en_hull t.2.2 v)), cs, sl)])
    | _ => none
  | _ => none
def en_op (o : Nat) (K : List en_K) (rm : Nat × Nat × Nat × Nat) (ini : Bool) (op : Instr) (len pc : Nat) (L : en_L) (S : List en_V) (T : en_T) (cs sl : Nat) : Option (List en_S) := match op with
  | .iconst n => en_kn 1 (Int32.ofInt n) len pc L S T cs sl
  | .bipush n => en_kn 2 (Int8.ofInt n).toInt32 len pc L S T cs sl
  | .sipush n => en_kn 3 (Int16.ofInt n).toInt32 len pc L S T cs sl
  | .ldc i => match en_find o i en_kc with
    | some v => en_kn 2 (Int32.ofInt v) len pc L S T cs sl
    | none => none
  | .ldc_w i => match en_find o i en_kc with
    | some v => en_kn 3 (Int32.ofInt v) len pc L S T cs sl
    | none => none
  | .iload_n k => en_ld 1 k.val len pc L S T cs sl
  | .iload i => en_ld 2 i len pc L S T cs sl
  | .aload_n k => en_la 1 k.val len pc L S T cs sl
  | .aload i => en_la 2 i len pc L S T cs sl
  | .istore_n k => en_st 1 k.val len pc L S T cs sl
  | .istore i => en_st 2 i len pc L S T cs sl
  | .astore_n k => en_sa 1 k.val len pc L S T cs sl
  | .astore i => en_sa 2 i len pc L S T cs sl
  | .iinc i n => match L[i]? with
    | some (some (.inl q)) => en_g (len == 3) (some [(pc + 3, L.set i (some (.inl (en_add q ((Int32.ofInt n).toInt, (Int32.ofInt n).toInt)))), S, T, cs, sl)])
    | _ => none
  | .iadd => en_bn en_add len pc L S T cs sl
  | .isub => en_bn en_sub len pc L S T cs sl
  | .imul => en_bn en_mul len pc L S T cs sl
  | .iand => en_bn en_and len pc L S T cs sl
  | .ishr => en_bn (fun _ _ => en_full) len pc L S T cs sl
  | .iushr => en_bn (fun _ _ => en_full) len pc L S T cs sl
  | .i2b => match S with
    | .inl _ :: S' => en_g (len == 1) (some [(pc + 1, L, .inl (-128, 127) :: S', T, cs, sl)])
    | _ => none
  | .dup => match S with
    | a :: S' => en_g (len == 1) (some [(pc + 1, L, a :: a :: S', T, cs, sl)])
    | _ => none
  | .pop => match S with
    | _ :: S' => en_g (len == 1) (some [(pc + 1, L, S', T, cs, sl)])
    | _ => none
  | .goto off => en_g (len == 3 && decide (0 ≤ (pc : Int) + off)) (some [(((pc : Int) + off).toNat, L, S, T, cs, sl)])
  | .if_icmp cd off => match S with
    | .inl r :: .inl q :: S' => en_g (len == 3 && decide (0 ≤ (pc : Int) + off)) (some (en_br (en_may cd q r) (((pc : Int) + off).toNat, L, S', T, cs, sl) (pc + 3, L, S', T, cs, sl)))
    | _ => none
  | .ifCond cd off => match S with
    | .inl q :: S' => en_g (len == 3 && decide (0 ≤ (pc : Int) + off)) (some (en_br (en_may cd q (0, 0)) (((pc : Int) + off).toNat, L, S', T, cs, sl) (pc + 3, L, S', T, cs, sl)))
    | _ => none
  | .tableswitch d lo hi offs => match S with
    | .inl q :: S' => match en_tsw pc d lo hi offs q with
      | some t => en_g (decide (0 ≤ t)) (some [(t.toNat, L, S', T, cs, sl)])
      | none => none
    | _ => none
  | .arraylength => match S with
    | .inr (j + 2) :: S' => match T[j]? with
      | some (.inl t) => en_g (len == 1 && (t.1 != 3 && decide (t.2.1 < 2147483648))) (some [(pc + 1, L, .inl ((t.2.1 : Int), (t.2.1 : Int)) :: S', T, cs, sl)])
      | _ => none
    | _ => none
  | .iaload => en_al 0 0 len pc L S T cs sl
  | .baload => en_al 1 2 len pc L S T cs sl
  | .iastore => en_as true len pc L S T cs sl
  | .bastore => en_as false len pc L S T cs sl
  | .getfield i => match en_find o i en_fl with
    | some (ci, f) => match S with
      | .inr (j + 2) :: S' => match T[j]? with
        | some (.inr q) => match vwCl[ci]? with
          | some r => match q.2[f]? with
            | some a => en_g (len == 3 && (q.1 == ci && decide (f < r.2.2))) (some [(pc + 3, L, a :: S', T, cs, sl)])
            | none => none
          | none => none
        | _ => none
      | _ => none
    | none => none
  | .putfield i => match en_find o i en_fl with
    | some (ci, f) => match S with
      | a :: .inr (j + 2) :: S' => match T[j]? with
        | some (.inr q) => match vwCl[ci]? with
          | some r => en_g (len == 3 && (q.1 == ci && (decide (f < r.2.2) && (decide (f < q.2.length) && (en_put (en_tyX ci f) a && (!(r.2.1 f).2.2.2 || (ini && o == ci))))))) (some [(pc + 3, L, S', T.set j (.inr (ci, q.2.set f a)), cs, sl)])
          | none => none
        | _ => none
      | _ => none
    | none => none
  | .new i => match en_find o i en_nw with
    | some ci => match vwCl[ci]? with
      | some r => en_g (len == 3 && ((List.range r.2.2).all (fun j => en_dok (en_tyX ci j)) && (decide (cs + 1 ≤ rm.2.2.1) && decide (sl + r.2.2 ≤ rm.2.2.2)))) (some [(pc + 3, L, .inr (T.length + 2) :: S, T ++ [.inr (ci, en_df ci r.2.2)], cs + 1, sl + r.2.2)])
      | none => none
    | none => none
  | .newarray at0 => match S with
    | .inl q :: S' => match (match at0 with
        | .int => some 0
        | .boolean => some 1
        | .byte => some 2
        | _ => none : Option Nat) with
      | some t => en_g (len == 2 && (decide (q.1 = q.2) && (decide (0 ≤ q.1) && (decide (q.1.toNat ≤ 100000) && (decide (cs + 1 ≤ rm.2.2.1) && decide (sl + q.1.toNat ≤ rm.2.2.2)))))) (some [(pc + 2, L, .inr (T.length + 2) :: S', T ++ [.inl (t, q.1.toNat, 0, 0)], cs + 1, sl + q.1.toNat)])
      | none => none
    | _ => none
  | .invokevirtual i => en_cV o K rm i len pc L S T cs sl
  | .invokespecial i => en_cI o K rm i len pc L S T cs sl
  | .invokestatic i => en_cS o K rm i len pc L S T cs sl
  | _ => none
section END
variable {p : Program} {l : Launch} {e : Env} {R : Room} {s : State} {m : MethodId} {args : Array Value} {below : List Frame} {meth : Method} {c : Code} {Q : State → Prop} {cc : ByteArray} {D : va_G} {tys : List (ClassId × FieldType)} {aK aV b0 nL o N0 : Nat} {ad0 : Nat → Nat}
variable {pc len : Nat} {L : en_L} {S : List en_V} {T : en_T} {cs sl : Nat} {ss : List en_S} {K : List en_K} {rm : Nat × Nat × Nat × Nat} {ini : Bool}
theorem en_one {st : en_S} {x : Option (List en_S)} {b : Bool} (h : en_g b (some [st]) = some ss) (k : ∀ st ∈ ss, en_go p l e R s m args below meth c Q D tys b0 nL N0 ad0 st) : b = true ∧ en_go p l e R s m args below meth c Q D tys b0 nL N0 ad0 st := by
  obtain ⟨h1, h2⟩ := en_g_some h
  cases h2
  exact ⟨h1, k _ List.mem_cons_self⟩
theorem ok_kn {j : Nat} {v : Int32} (h : en_kn j v len pc L S T cs sl = some ss) (k : ∀ st ∈ ss, en_go p l e R s m args below meth c Q D tys b0 nL N0 ad0 st) : len = j ∧ en_go p l e R s m args below meth c Q D tys b0 nL N0 ad0 (pc + j, L, .inl (v.toInt, v.toInt) :: S, T, cs, sl) := by
  obtain ⟨h1, h2⟩ := en_one (x := none) h k
  exact ⟨by simpa using h1, h2⟩
theorem ok_ld {j i : Nat} (h : en_ld j i len pc L S T cs sl = some ss) (k : ∀ st ∈ ss, en_go p l e R s m args below meth c Q D tys b0 nL N0 ad0 st) : len = j ∧ ∃ q, L[i]? = some (some (.inl q)) ∧ en_go p l e R s m args below meth c Q D tys b0 nL N0 ad0 (pc + j, L, .inl q :: S, T, cs, sl) := by
  unfold en_ld at h
  split at h
  · rename_i q hq
    obtain ⟨h1, h2⟩ := en_one (x := none) h k
    exact ⟨by simpa using h1, q, hq, h2⟩
  · cases h
theorem ok_la {j i : Nat} (h : en_la j i len pc L S T cs sl = some ss) (k : ∀ st ∈ ss, en_go p l e R s m args below meth c Q D tys b0 nL N0 ad0 st) : len = j ∧ ∃ q, L[i]? = some (some (.inr (q + 2))) ∧ en_go p l e R s m args below meth c Q D tys b0 nL N0 ad0 (pc + j, L, .inr (q + 2) :: S, T, cs, sl) := by
  unfold en_la at h
  split at h
  · rename_i q hq
    obtain ⟨h1, h2⟩ := en_one (x := none) h k
    exact ⟨by simpa using h1, q, hq, h2⟩
  · cases h
theorem ok_st {j i : Nat} (h : en_st j i len pc L S T cs sl = some ss) (k : ∀ st ∈ ss, en_go p l e R s m args below meth c Q D tys b0 nL N0 ad0 st) : len = j ∧ i < L.length ∧ ∃ q S', S = .inl q :: S' ∧ en_go p l e R s m args below meth c Q D tys b0 nL N0 ad0 (pc + j, L.set i (some (.inl q)), S', T, cs, sl) := by
  unfold en_st at h
  split at h
  · rename_i q S'
    obtain ⟨h1, h2⟩ := en_one (x := none) h k
    simp only [Bool.and_eq_true, beq_iff_eq, decide_eq_true_eq] at h1
    exact ⟨h1.1, h1.2, q, S', rfl, h2⟩
  · cases h
theorem ok_sa {j i : Nat} (h : en_sa j i len pc L S T cs sl = some ss) (k : ∀ st ∈ ss, en_go p l e R s m args below meth c Q D tys b0 nL N0 ad0 st) : len = j ∧ i < L.length ∧ ∃ q S', S = .inr (q + 2) :: S' ∧ en_go p l e R s m args below meth c Q D tys b0 nL N0 ad0 (pc + j, L.set i (some (.inr (q + 2))), S', T, cs, sl) := by
  unfold en_sa at h
  split at h
  · rename_i q S'
    obtain ⟨h1, h2⟩ := en_one (x := none) h k
    simp only [Bool.and_eq_true, beq_iff_eq, decide_eq_true_eq] at h1
    exact ⟨h1.1, h1.2, q, S', rfl, h2⟩
  · cases h
theorem ok_bn {f : Int × Int → Int × Int → Int × Int} (h : en_bn f len pc L S T cs sl = some ss) (k : ∀ st ∈ ss, en_go p l e R s m args below meth c Q D tys b0 nL N0 ad0 st) : len = 1 ∧ ∃ r q S', S = .inl r :: .inl q :: S' ∧ en_go p l e R s m args below meth c Q D tys b0 nL N0 ad0 (pc + 1, L, .inl (f q r) :: S', T, cs, sl) := by
  unfold en_bn at h
  split at h
  · rename_i r q S'
    obtain ⟨h1, h2⟩ := en_one (x := none) h k
    exact ⟨by simpa using h1, r, q, S', rfl, h2⟩
  · cases h
theorem ok_al {i0 i1 : Nat} (h : en_al i0 i1 len pc L S T cs sl = some ss) (k : ∀ st ∈ ss, en_go p l e R s m args below meth c Q D tys b0 nL N0 ad0 st) : len = 1 ∧ ∃ q j S' t, S = .inl q :: .inr (j + 2) :: S' ∧ T[j]? = some (.inl t) ∧ (t.1 = i0 ∨ t.1 = i1) ∧ 0 ≤ q.1 ∧ q.2 < t.2.1 ∧ en_go p l e R s m args below meth c Q D tys b0 nL N0 ad0 (pc + 1, L, .inl t.2.2 :: S', T, cs, sl) := by
  unfold en_al at h
  split at h
  · rename_i q j S'
    split at h
    · rename_i t ht
      obtain ⟨h1, h2⟩ := en_one (x := none) h k
      simp only [Bool.and_eq_true, Bool.or_eq_true, beq_iff_eq, decide_eq_true_eq] at h1
      exact ⟨h1.2.1, q, j, S', t, rfl, ht, h1.1, h1.2.2.1, h1.2.2.2, h2⟩
    · cases h
  · cases h
theorem en_pick_ok {mi : Nat} {as : List en_V} {κ : en_K} (h : en_pick K mi as T = some κ) : κ ∈ K ∧ κ.1 = mi ∧ en_all2 en_le as κ.2.1 = true ∧ en_all2 eg_cle T (k_T0 κ) = true := by
  have h1 := List.find?_some h
  simp only [Bool.and_eq_true, beq_iff_eq] at h1
  exact ⟨List.mem_of_find?_eq_some h, h1.1, h1.2.1, h1.2.2⟩
theorem en_pickP_ok {mi : Nat} {as : List en_V} {κ : en_K} (h : en_pickP K mi as = some κ) : κ ∈ K ∧ κ.1 = mi ∧ k_T0 κ = [] ∧ en_all2 en_le as κ.2.1 = true ∧ κ.2.1.all en_isI = true := by
  have h1 := List.find?_some h
  simp only [Bool.and_eq_true, beq_iff_eq, List.isEmpty_iff] at h1
  exact ⟨List.mem_of_find?_eq_some h, h1.1, h1.2.1, h1.2.2.1, h1.2.2.2⟩
theorem en_room_ok {κ : en_K} {ml n : Nat} (h : en_room rm κ ml cs sl n = true) (hR : R.frames = rm.1 ∧ R.locals = rm.2.1 ∧ R.cells = rm.2.2.1 ∧ R.slots = rm.2.2.2) : k_fr κ + 1 ≤ R.frames ∧ 8 + (ml + 11) + k_lo κ ≤ R.locals ∧ cs + k_mc κ ≤ R.cells ∧ sl + k_ms κ ≤ R.slots ∧ n ≤ 8 := by
  unfold en_room at h
  simp only [Bool.and_eq_true, decide_eq_true_eq] at h
  obtain ⟨h1, h2, h3, h4⟩ := hR
  rw [h1, h2, h3, h4]
  exact h
theorem ok_cV (C : en_cx p s m args meth c cc nL o D tys aK aV b0) (hK : ∀ κ ∈ K, en_ok l κ) (hR : R.frames = rm.1 ∧ R.locals = rm.2.1 ∧ R.cells = rm.2.2.1 ∧ R.slots = rm.2.2.2) {i : Nat} (hd : decode cc pc = .ok (.invokevirtual i, len)) (h : en_cV o K rm i len pc L S T cs sl = some ss) (k : ∀ st ∈ ss, en_go p l e R s m args below meth c Q D tys b0 nL N0 ad0 st) : en_go p l e R s m args below meth c Q D tys b0 nL N0 ad0 (pc, L, S, T, cs, sl) := by
  unfold en_cV at h
  split at h
  · rename_i kd mi n hf
    split at h
    · rename_i j S' hdrop
      split at h
      · rename_i q hq
        split at h
        · rename_i r hr
          split at h
          · rename_i ci hmo
            split at h
            · rename_i rc hrc
              split at h
              · rename_i κ hκ
                obtain ⟨h1, h2⟩ := en_one (x := none) h k
                simp only [Bool.and_eq_true, beq_iff_eq] at h1
                obtain ⟨a1, a2, a3, a4, a5⟩ := h1
                subst a1
                subst a2
                obtain ⟨r1, r2, r3, r4, r5⟩ := en_room_ok a5 hR
                obtain ⟨p1, p2, p3, p4⟩ := en_pick_ok hκ
                have hS : S = S.take n ++ .inr (j + 2) :: S' := by rw [← hdrop, List.take_append_drop]
                rw [hS]
                obtain ⟨q1, q2⟩ := q
                dsimp only at a3
                subst a3
                exact es_callV C hf hr (hK κ p1) p2 a4 p3 p4 hq hrc hmo r1 r2 r3 r4 r5 hd h2
              · cases h
            · cases h
          · cases h
        · cases h
      · cases h
    · cases h
  · cases h
theorem ok_cI (C : en_cx p s m args meth c cc nL o D tys aK aV b0) (hK : ∀ κ ∈ K, en_ok l κ) (hR : R.frames = rm.1 ∧ R.locals = rm.2.1 ∧ R.cells = rm.2.2.1 ∧ R.slots = rm.2.2.2) {i : Nat} (hd : decode cc pc = .ok (.invokespecial i, len)) (h : en_cI o K rm i len pc L S T cs sl = some ss) (k : ∀ st ∈ ss, en_go p l e R s m args below meth c Q D tys b0 nL N0 ad0 st) : en_go p l e R s m args below meth c Q D tys b0 nL N0 ad0 (pc, L, S, T, cs, sl) := by
  unfold en_cI at h
  split at h
  · rename_i kd mi n hf
    split at h
    · rename_i j S' hdrop
      split at h
      · rename_i r hr
        split at h
        · rename_i κ hκ
          obtain ⟨h1, h2⟩ := en_one (x := none) h k
          simp only [Bool.and_eq_true, Bool.or_eq_true, beq_iff_eq] at h1
          obtain ⟨a1, a2, a4, a5⟩ := h1
          subst a2
          obtain ⟨r1, r2, r3, r4, r5⟩ := en_room_ok a5 hR
          obtain ⟨p1, p2, p3, p4⟩ := en_pick_ok hκ
          have hS : S = S.take n ++ .inr (j + 2) :: S' := by rw [← hdrop, List.take_append_drop]
          rw [hS]
          exact es_callI C hf a1 hr (hK κ p1) p2 a4 p3 p4 r1 r2 r3 r4 r5 hd h2
        · cases h
      · cases h
    · cases h
  · split at h
    · obtain ⟨h1, h2⟩ := en_one (x := none) h k
      simp only [Bool.and_eq_true, beq_iff_eq, decide_eq_true_eq, List.contains_iff_mem] at h1
      obtain ⟨a1, a2, a3, a4⟩ := h1
      subst a2
      exact es_oi C a1 (by rw [hR.1]; exact a3) (by rw [hR.2.1]; exact a4) hd h2
    · cases h
theorem ok_cS (C : en_cx p s m args meth c cc nL o D tys aK aV b0) (hK : ∀ κ ∈ K, en_ok l κ) (hR : R.frames = rm.1 ∧ R.locals = rm.2.1 ∧ R.cells = rm.2.2.1 ∧ R.slots = rm.2.2.2) {i : Nat} (hd : decode cc pc = .ok (.invokestatic i, len)) (h : en_cS o K rm i len pc L S T cs sl = some ss) (k : ∀ st ∈ ss, en_go p l e R s m args below meth c Q D tys b0 nL N0 ad0 st) : en_go p l e R s m args below meth c Q D tys b0 nL N0 ad0 (pc, L, S, T, cs, sl) := by
  unfold en_cS at h
  split at h
  · rename_i kd mi n hf
    split at h
    · rename_i r hr
      have hS : S = S.take n ++ S.drop n := (List.take_append_drop n S).symm
      split at h
      · rename_i κ hκ
        obtain ⟨h1, h2⟩ := en_one (x := none) h k
        simp only [Bool.and_eq_true, Bool.or_eq_true, beq_iff_eq] at h1
        obtain ⟨a1, a2, a4, a5⟩ := h1
        subst a2
        obtain ⟨r1, r2, r3, r4, r5⟩ := en_room_ok a5 hR
        obtain ⟨p1, p2, p3, p4, p5⟩ := en_pickP_ok hκ
        rw [hS]
        exact es_callP C hf a1 hr (hK κ p1) p2 a4 p4 p3 p5 r1 r2 r3 r4 r5 hd h2
      · split at h
        · rename_i κ hκ
          obtain ⟨h1, h2⟩ := en_one (x := none) h k
          simp only [Bool.and_eq_true, Bool.or_eq_true, beq_iff_eq] at h1
          obtain ⟨a1, a2, a4, a5⟩ := h1
          subst a2
          obtain ⟨r1, r2, r3, r4, r5⟩ := en_room_ok a5 hR
          obtain ⟨p1, p2, p3, p4⟩ := en_pick_ok hκ
          rw [hS]
          exact es_callS C hf a1 hr (hK κ p1) p2 a4 p3 p4 r1 r2 r3 r4 r5 hd h2
        · cases h
    · cases h
  · split at h
    · rename_i n d j1 a j0 S'
      split at h
      · rename_i t0 ht0
        split at h
        · rename_i t1 ht1
          obtain ⟨h1, h2⟩ := en_one (x := none) h k
          simp only [Bool.and_eq_true, beq_iff_eq, decide_eq_true_eq, List.contains_iff_mem] at h1
          obtain ⟨a1, a2, a3, a4, a5, a6, a7, a8, a9, b1, b2, b3, b4⟩ := h1
          subst a2
          subst a5
          subst a6
          have hn : n = ((n.1.toNat : Int), (n.1.toNat : Int)) := by
            obtain ⟨n1, n2⟩ := n
            dsimp only at a3 a4 ⊢
            subst a3
            have : n1 = (n1.toNat : Int) := by omega
            rw [← this]
          rw [hn]
          exact es_copy C a1 ht0 ht1 a7 a8 a9 b1 b2 (by rw [hR.1]; exact b3) (by rw [hR.2.1]; exact b4) hd h2
        · cases h
      · cases h
    · cases h
end END
