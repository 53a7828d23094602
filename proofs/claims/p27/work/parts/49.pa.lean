def px_cd (cd : Jvm.ClassFile.Cond) : Nat := match cd with
  | .eq => 0
  | .ne => 1
  | .lt => 2
  | .ge => 3
  | .gt => 4
  | .le => 5
def px_tk (pc : Nat) (off : Int) (b : Nat) : Bool := decide ((pc : Int) + off = (b : Int))
def px_tab (pc : Nat) : Int → List Int → List (Int × Nat)
  | _, [] => []
  | v, o :: os => (v, ((pc : Int) + o).toNat) :: px_tab pc (v + 1) os
def px_c0 (o : Nat) (op : Instr) (len : Nat) (z : Int) : Bool := match op with
  | .iconst k => len == 1 && decide ((Int32.ofInt k).toInt = z)
  | .bipush k => len == 2 && decide ((Int8.ofInt k).toInt32.toInt = z)
  | .sipush k => len == 3 && decide ((Int16.ofInt k).toInt32.toInt = z)
  | .ldc i => (match en_find o i en_kc with
    | some v => len == 2 && decide ((Int32.ofInt v).toInt = z)
    | none => false)
  | .ldc_w i => (match en_find o i en_kc with
    | some v => len == 3 && decide ((Int32.ofInt v).toInt = z)
    | none => false)
  | _ => false
def px_c1 (op : Instr) (len a : Nat) : Bool := match op with
  | .iload_n k => len == 1 && k.val == a
  | .iload i => len == 2 && i == a
  | _ => false
def px_c2 (op : Instr) (len a : Nat) : Bool := match op with
  | .aload_n k => len == 1 && k.val == a
  | .aload i => len == 2 && i == a
  | _ => false
def px_c3 (op : Instr) (len a nL : Nat) : Bool := match op with
  | .istore_n k => len == 1 && (k.val == a && decide (a < nL))
  | .istore i => len == 2 && (i == a && decide (a < nL))
  | _ => false
def px_c4 (op : Instr) (len a nL : Nat) : Bool := match op with
  | .astore_n k => len == 1 && (k.val == a && decide (a < nL))
  | .astore i => len == 2 && (i == a && decide (a < nL))
  | _ => false
def px_c5 (op : Instr) (len a : Nat) (z : Int) : Bool := match op with
  | .iinc i k => len == 3 && (i == a && decide ((Int32.ofInt k).toInt = z))
  | _ => false
def px_c6 (op : Instr) (len a : Nat) : Bool := match op with
  | .iadd => len == 1 && a == 0
  | .isub => len == 1 && a == 1
  | .imul => len == 1 && a == 2
  | .iand => len == 1 && a == 3
  | .ior => len == 1 && a == 4
  | .ixor => len == 1 && a == 5
  | .ishl => len == 1 && a == 6
  | .ishr => len == 1 && a == 7
  | .iushr => len == 1 && a == 8
  | _ => false
def px_c7 (op : Instr) (len a : Nat) : Bool := match op with
  | .idiv => len == 1 && a == 0
  | .irem => len == 1 && a == 1
  | _ => false
def px_c8 (op : Instr) (len a : Nat) : Bool := match op with
  | .i2b => len == 1 && a == 0
  | .i2c => len == 1 && a == 1
  | _ => false
def px_c9 (op : Instr) (len n : Nat) : Bool := match op with
  | .dup => len == 1 && n == 9
  | .dup2 => len == 1 && n == 10
  | .pop => len == 1 && n == 11
  | _ => false
def px_c12 (op : Instr) (len pc b : Nat) : Bool := match op with
  | .goto off => len == 3 && px_tk pc off b
  | _ => false
def px_c13 (op : Instr) (len pc a b : Nat) : Bool := match op with
  | .if_icmp cd off => len == 3 && (px_cd cd == a && px_tk pc off b)
  | _ => false
def px_c14 (op : Instr) (len pc a b : Nat) : Bool := match op with
  | .ifCond cd off => len == 3 && (px_cd cd == a && px_tk pc off b)
  | _ => false
def px_c15 (op : Instr) (pc b : Nat) (ps : List (Int × Nat)) : Bool := match op with
  | .tableswitch d lo hi offs => px_tk pc d b && (decide ((offs.toList.length : Int) = hi - lo + 1) && (decide (ps = px_tab pc lo offs.toList) && offs.toList.all (fun off => decide (0 ≤ (pc : Int) + off))))
  | .lookupswitch d qs => px_tk pc d b && (decide (ps = qs.toList.map (fun u => (u.1, ((pc : Int) + u.2).toNat))) && ((qs.toList.zip (qs.toList.drop 1)).all (fun (a, next) => a.1 < next.1) && qs.toList.all (fun u => decide (0 ≤ (pc : Int) + u.2))))
  | _ => false
def px_c16 (o : Nat) (op : Instr) (len a b : Nat) : Bool := match op with
  | .getfield i => (match en_find o i en_fl with
    | some (ci, f) => (match tF[a]? with
      | some (.inr q) => (match vwCl[ci]? with
        | some r => (match q.2[f]? with
          | some (.inl _) => len == 3 && (q.1 == ci && (decide (f < r.2.2) && f == b))
          | _ => false)
        | none => false)
      | _ => false)
    | none => false)
  | _ => false
def px_c17 (o : Nat) (op : Instr) (len a b : Nat) : Bool := match op with
  | .getfield i => (match en_find o i en_fl with
    | some (ci, f) => (match tF[a]? with
      | some (.inr q) => (match vwCl[ci]? with
        | some r => (match q.2[f]? with
          | some (.inr k) => len == 3 && (q.1 == ci && (decide (f < r.2.2) && k == b + 2))
          | _ => false)
        | none => false)
      | _ => false)
    | none => false)
  | _ => false
def px_bd (z : Int) : Int × Int := match z with
  | .ofNat 0 => en_full
  | .ofNat 1 => (0, 1)
  | _ => (-128, 127)
def px_c18 (o : Nat) (op : Instr) (len a b : Nat) (z : Int) : Bool := match op with
  | .putfield i => (match en_find o i en_fl with
    | some (ci, f) => (match tF[a]? with
      | some (.inr q) => (match vwCl[ci]? with
        | some r => (match q.2[f]? with
          | some (.inl bd) => len == 3 && (q.1 == ci && (decide (f < r.2.2) && (f == b && (decide (bd = px_bd z) && (en_put (en_tyX ci f) (.inl bd) && (!(r.2.1 f).2.2.2 && (decide (z = 0) || decide (z = 1))))))))
          | _ => false)
        | none => false)
      | _ => false)
    | none => false)
  | _ => false
def px_c19 (op : Instr) (len a b : Nat) : Bool := match tF[a]? with
  | some (.inl t) => (match op with
    | .iaload => len == 1 && (t.1 == 0 && t.2.1 == b)
    | .baload => len == 1 && ((t.1 == 1 || t.1 == 2) && t.2.1 == b)
    | _ => false)
  | _ => false
def px_c20 (op : Instr) (len a b : Nat) (z : Int) : Bool := match tF[a]? with
  | some (.inl t) => (match op with
    | .iastore => len == 1 && (t.1 == 0 && (t.2.1 == b && (decide (z = 0) && decide (t.2.2 = en_full))))
    | .bastore => len == 1 && (t.2.1 == b && ((t.1 == 1 && (decide (z = 1) && decide (t.2.2 = (0, 1)))) || (t.1 == 2 && (decide (z = 2) && decide (t.2.2 = (-128, 127))))))
    | _ => false)
  | _ => false
def px_c21 (op : Instr) (len a b : Nat) : Bool := match tF[a]? with
  | some (.inl t) => (match op with
    | .arraylength => len == 1 && (!(t.1 == 3) && (decide (t.2.1 < 2147483648) && t.2.1 == b))
    | _ => false)
  | _ => false
def px_c22 (op : Instr) (len a b : Nat) (z : Int) : Bool := match tF[a]? with
  | some (.inl t) => (match op with
    | .aaload => len == 1 && (t.1 == 3 && (t.2.1 == b && decide (t.2.2.1 = z)))
    | _ => false)
  | _ => false
def px_c23 (o : Nat) (op : Instr) (len a b : Nat) (z : Int) (ps : List (Int × Nat)) : Bool := match op with
  | .invokevirtual i => (match en_find o i en_cl with
    | some (kd, mi, n) => (match ps with
      | [(0, j)] => (match tF[j]? with
        | some (.inr q) => (match en_ms[mi]? with
          | some r => (match en_mo[mi]? with
            | some ci => (match vwCl[ci]? with
              | some _ => kd == 0 && (mi == a && (n == b && (len == 3 && (q.1 == ci && (decide (r.2.2.1 ≤ 60) && (r.2.2.2.isSome == !decide (z = 0)))))))
              | none => false)
            | none => false)
          | none => false)
        | _ => false)
      | _ => false)
    | none => false)
  | _ => false
def px_c24 (o : Nat) (op : Instr) (len a b : Nat) (z : Int) : Bool := match op with
  | .invokestatic i => (match en_find o i en_cl with
    | some (kd, mi, n) => (match en_ms[mi]? with
      | some r => (kd == 1 || kd == 2) && (mi == a && (n == b && (len == 3 && (decide (r.2.2.1 ≤ 60) && (r.2.2.2.isSome == !decide (z = 0))))))
      | none => false)
    | none => false)
  | _ => false
def px_c25 (o : Nat) (op : Instr) (len a : Nat) : Bool := match op with
  | .invokestatic i => (len == 3 && ((a == 0 && decide (en_find o i en_cl = some (1, 16, 2))) || (a == 1 && decide (en_find o i en_cl = some (1, 30, 2)))))
  | _ => false
def px_c26 (o : Nat) (op : Instr) (len a b : Nat) (z : Int) : Bool := match op with
  | .invokestatic i => (match tF[a]? with
    | some (.inl t0) => (match tF[b]? with
      | some (.inl t1) => en_ac.contains (o, i) && (len == 3 && (decide (0 ≤ z) && (t0.1 == 0 && (t1.1 == 0 && (decide (z.toNat ≤ t0.2.1) && (decide (z.toNat ≤ t1.2.1) && (decide (t0.2.2 = t1.2.2) && decide (8 + (nativeFrameWords "java/lang/System" "arraycopy" 5 + 11) ≤ 100))))))))
      | _ => false)
    | _ => false)
  | _ => false
def px_c27 (ret : Option FieldType) (op : Instr) (len a : Nat) : Bool := match op with
  | .ireturn => len == 1 && (match ret with
    | some .int => a == 0
    | some .boolean => a == 1
    | _ => false)
  | _ => false
def px_c28 (ret : Option FieldType) (op : Instr) (len : Nat) : Bool := match op with
  | .return_ => len == 1 && ret.isNone
  | _ => false
def px_c (o nL : Nat) (ret : Option FieldType) (op : Instr) (len pc n a b : Nat) (z : Int) (ps : List (Int × Nat)) : Bool := match n with
  | 0 => px_c0 o op len z
  | 1 => px_c1 op len a
  | 2 => px_c2 op len a
  | 3 => px_c3 op len a nL
  | 4 => px_c4 op len a nL
  | 5 => px_c5 op len a z
  | 6 => px_c6 op len a
  | 7 => px_c7 op len a
  | 8 => px_c8 op len a
  | 9 => px_c9 op len 9
  | 10 => px_c9 op len 10
  | 11 => px_c9 op len 11
  | 12 => px_c12 op len pc b
  | 13 => px_c13 op len pc a b
  | 14 => px_c14 op len pc a b
  | 15 => px_c15 op pc b ps
  | 16 => px_c16 o op len a b
  | 17 => px_c17 o op len a b
  | 18 => px_c18 o op len a b z
  | 19 => px_c19 op len a b
  | 20 => px_c20 op len a b z
  | 21 => px_c21 op len a b
  | 22 => px_c22 op len a b z
  | 23 => px_c23 o op len a b z ps
  | 24 => px_c24 o op len a b z
  | 25 => px_c25 o op len a
  | 26 => px_c26 o op len a b z
  | 27 => px_c27 ret op len a
  | 28 => px_c28 ret op len
  | _ => false
def px_nx (n b pc len : Nat) : Nat := match n with
  | 12 => b
  | _ => pc + len
def px_c30 (o : Nat) (cc : ByteArray) (len pc : Nat) : Bool := o == 0 && (len == 7 && (match decode cc pc, decode cc (pc + 2), decode cc (pc + 3), decode cc (pc + 4) with
  | .ok (.ldc i, l1), .ok (.iload_n k, l2), .ok (.i2c, l3), .ok (.invokevirtual j, l4) => i == 27 && (l1 == 2 && (k == 3 && (l2 == 1 && (l3 == 1 && (j == 119 && l4 == 3)))))
  | _, _, _, _ => false))
theorem px_c30E {o : Nat} {cc : ByteArray} {len pc : Nat} (h : px_c30 o cc len pc = true) : o = 0 ∧ len = 7 ∧ decode cc pc = .ok (.ldc 27, 2) ∧ decode cc (pc + 2) = .ok (.iload_n 3, 1) ∧ decode cc (pc + 3) = .ok (.i2c, 1) ∧ decode cc (pc + 4) = .ok (.invokevirtual 119, 3) := by
  unfold px_c30 at h
  rw [Bool.and_eq_true, Bool.and_eq_true] at h
  obtain ⟨h1, h2, h3⟩ := h
  refine ⟨beq_iff_eq.mp h1, beq_iff_eq.mp h2, ?_⟩
  split at h3
  · rename_i e1 e2 e3 e4
    simp only [Bool.and_eq_true, beq_iff_eq] at h3
    obtain ⟨rfl, rfl, rfl, rfl, rfl, rfl, rfl⟩ := h3
    exact ⟨e1, e2, e3, e4⟩
  · cases h3
def px_ckl (o nL : Nat) (ret : Option FieldType) (cc : ByteArray) : List (pI × Nat) → Nat → Bool
  | [], _ => true
  | (q, len) :: is, pc => (match decide (q.1 = 29) with
    | true => len == 0 && px_ckl o nL ret cc is pc
    | false => (match decide (q.1 = 30) with
      | true => px_c30 o cc len pc && px_ckl o nL ret cc is (pc + len)
      | false => (match decode cc pc with
      | .ok (op, len') => len' == len && (px_c o nL ret op len pc q.1 q.2.1 q.2.2.1 q.2.2.2.1 q.2.2.2.2 && px_ckl o nL ret cc is (px_nx q.1 q.2.2.1 pc len))
      | .error _ => false)))
def px_ckm (mi : Nat) (is : List (pI × Nat)) (pc : Nat) : Bool := match en_ms[mi]? with
  | some r => (match en_mo[mi]? with
    | some o => px_ckl o r.2.2.1 r.2.2.2 r.2.1 is pc
    | none => false)
  | none => false
def px_R (l : Launch) (fr mi : Nat) (rv : Int) (rσ : pS) (G : Nat → pL → List pV → pS → Prop) : Prop := ∀ (is : List (pI × Nat)) (pc : Nat) (L : pL) (S : List pV) (σ : pS), px_ckm mi is pc = true → px_wp l fr rv rσ G is pc L S σ → G pc L S σ
theorem px_lset {N : Nat} {ad : Nat → Nat} {L : pL} {ls ls' : Array Slot} {i : Nat} {a : pV} {x : Value} (hk : ∀ (j : Nat) (v : Value), j ≠ i → ls[j]? = some (.val v) → v.category = 1 → ls'[j]? = some (.val v)) (hi : ls'[i]? = some (.val x)) (hx : en_v N ad (pe a) x) (h : ∀ (j : Nat) (b : pV), L[j]? = some (some b) → ∃ y : Value, ls[j]? = some (.val y) ∧ en_v N ad (pe b) y) : ∀ (j : Nat) (b : pV), (L.set i (some a))[j]? = some (some b) → ∃ y : Value, ls'[j]? = some (.val y) ∧ en_v N ad (pe b) y := by
  intro j b hj
  by_cases hji : j = i
  · subst hji
    by_cases hl : j < L.length
    · rw [List.getElem?_set_self hl] at hj
      cases hj
      exact ⟨x, hi, hx⟩
    · rw [List.getElem?_eq_none (by rw [List.length_set]; omega)] at hj
      cases hj
  · rw [List.getElem?_set_ne (Ne.symm hji)] at hj
    obtain ⟨y, h1, h2⟩ := h j b hj
    exact ⟨y, hk j y hji h1 (en_v_cat h2), h2⟩
section PX1
variable {p : Program} {l : Launch} {e : Env} {R : Room} {s : State} {m : MethodId} {args : Array Value} {below : List Frame} {meth : Method} {c : Code} {Q : State → Prop} {cc : ByteArray} {D : va_G} {tys : List (ClassId × FieldType)} {aK aV b0 nL o : Nat} {ad : Nat → Nat}
variable {pc len : Nat} {L : pL} {S : List pV} {σ : pS} {op : Instr} {a b : Nat} {z : Int} {ps : List (Int × Nat)} {nx : Nat} {k : Nat → pL → List pV → pS → Prop}
theorem px_push {pc' : Nat} {v : Int32} {z : Int} (hv : v.toInt = z) (row : ∀ (H : Heap) (locs : List Loc) (ls : Array Slot) (rest : List Value), W p l e R s m args below meth c H locs 0 0 Q (F0 m pc' ls (.int v :: rest)) → W p l e R s m args below meth c H locs 0 0 Q (F0 m pc ls rest))
    (k : px_go p l e R s m args below meth c Q D tys b0 nL ad pc' L (.inl z :: S) σ) : px_go p l e R s m args below meth c Q D tys b0 nL ad pc L S σ := by
  intro H locs ls stk ws h
  obtain ⟨h0, hl, hs, hr⟩ := h
  exact row H locs ls stk (k H locs ls (.int v :: stk) ws ⟨h0, hl, ⟨pe_i hv, hs⟩, hr⟩)
theorem px_s0 (C : ev_cx p s m args meth c cc nL o D tys aK aV b0) (hd : decode cc pc = .ok (op, len)) (hc : px_c0 o op len z = true) (k : px_go p l e R s m args below meth c Q D tys b0 nL ad (pc + len) L (.inl z :: S) σ) : px_go p l e R s m args below meth c Q D tys b0 nL ad pc L S σ := by
  unfold px_c0 at hc
  split at hc
  · simp only [Bool.and_eq_true, beq_iff_eq, decide_eq_true_eq] at hc
    obtain ⟨rfl, h2⟩ := hc
    exact px_push h2 (fun H locs ls rest k => lv_iconst C.1 C.2.1 hd rfl k) k
  · simp only [Bool.and_eq_true, beq_iff_eq, decide_eq_true_eq] at hc
    obtain ⟨rfl, h2⟩ := hc
    exact px_push h2 (fun H locs ls rest k => lv_bipush C.1 C.2.1 hd rfl k) k
  · simp only [Bool.and_eq_true, beq_iff_eq, decide_eq_true_eq] at hc
    obtain ⟨rfl, h2⟩ := hc
    exact px_push h2 (fun H locs ls rest k => lv_sipush C.1 C.2.1 hd rfl k) k
  · rename_i i
    split at hc
    · rename_i v hv
      simp only [Bool.and_eq_true, beq_iff_eq, decide_eq_true_eq] at hc
      obtain ⟨rfl, h2⟩ := hc
      have hw : Cond.constant (en_nm o) i (Int32.ofInt v) ∈ en_ws := en_ws_in (en_kc_in _ (List.mem_map.mpr ⟨(o, i, v), en_find_mem hv, rfl⟩)) rfl
      exact px_push h2 (fun H locs ls rest k => lv_ldc C.1 C.2.1 C.2.2.2.1 (C.2.2.2.2.1 _ hw) hd k) k
    · cases hc
  · rename_i i
    split at hc
    · rename_i v hv
      simp only [Bool.and_eq_true, beq_iff_eq, decide_eq_true_eq] at hc
      obtain ⟨rfl, h2⟩ := hc
      have hw : Cond.constant (en_nm o) i (Int32.ofInt v) ∈ en_ws := en_ws_in (en_kc_in _ (List.mem_map.mpr ⟨(o, i, v), en_find_mem hv, rfl⟩)) rfl
      exact px_push h2 (fun H locs ls rest k => lv_ldcw C.1 C.2.1 C.2.2.2.1 (C.2.2.2.2.1 _ hw) hd k) k
    · cases hc
  · cases hc
theorem px_s1 (C : ev_cx p s m args meth c cc nL o D tys aK aV b0) (hd : decode cc pc = .ok (op, len)) (hc : px_c1 op len a = true) {v : Int} (hL : L[a]? = some (some (.inl v))) (k : px_go p l e R s m args below meth c Q D tys b0 nL ad (pc + len) L (.inl v :: S) σ) : px_go p l e R s m args below meth c Q D tys b0 nL ad pc L S σ := by
  intro H locs ls stk ws h
  obtain ⟨h0, hl, hs, hr⟩ := h
  obtain ⟨x, h1, h2⟩ := hl a _ hL
  obtain ⟨i, rfl, hi⟩ := pe_iE h2
  have kk := k H locs ls (.int i :: stk) ws ⟨h0, hl, ⟨pe_i hi, hs⟩, hr⟩
  unfold px_c1 at hc
  split at hc
  · simp only [Bool.and_eq_true, beq_iff_eq] at hc
    obtain ⟨rfl, rfl⟩ := hc
    exact lv_iload_n C.1 C.2.1 hd rfl h1 kk
  · simp only [Bool.and_eq_true, beq_iff_eq] at hc
    obtain ⟨rfl, rfl⟩ := hc
    exact lv_iload C.1 C.2.1 hd h1 kk
  · cases hc
theorem px_s2 (C : ev_cx p s m args meth c cc nL o D tys aK aV b0) (hd : decode cc pc = .ok (op, len)) (hc : px_c2 op len a = true) {j : Nat} (hL : L[a]? = some (some (.inr j))) (k : px_go p l e R s m args below meth c Q D tys b0 nL ad (pc + len) L (.inr j :: S) σ) : px_go p l e R s m args below meth c Q D tys b0 nL ad pc L S σ := by
  intro H locs ls stk ws h
  obtain ⟨h0, hl, hs, hr⟩ := h
  obtain ⟨x, h1, h2⟩ := hl a _ hL
  obtain ⟨rfl, hi⟩ := pe_rE h2
  have kk := k H locs ls (.ref (ad j) :: stk) ws ⟨h0, hl, ⟨pe_r hi, hs⟩, hr⟩
  unfold px_c2 at hc
  split at hc
  · simp only [Bool.and_eq_true, beq_iff_eq] at hc
    obtain ⟨rfl, rfl⟩ := hc
    exact lv_aload_n C.1 C.2.1 hd rfl h1 kk
  · simp only [Bool.and_eq_true, beq_iff_eq] at hc
    obtain ⟨rfl, rfl⟩ := hc
    exact lv_aload C.1 C.2.1 hd h1 kk
  · cases hc
theorem px_store {pc' : Nat} {u : pV} (row : ∀ (H : Heap) (locs : List Loc) (ls : Array Slot) (rest : List Value) (x : Value), en_v tF.length ad (pe u) x → ls.size = nL → lv_wf ls → (∀ ls' : Array Slot, lv_has ls' nL ((a, x) :: (en_lv ls).filter (fun q => !(q.1 == a) && !(q.1 + 1 == a && q.2.category == 2))) → W p l e R s m args below meth c H locs 0 0 Q (F0 m pc' ls' rest)) → W p l e R s m args below meth c H locs 0 0 Q (F0 m pc ls (x :: rest)))
    (k : px_go p l e R s m args below meth c Q D tys b0 nL ad pc' (L.set a (some u)) S σ) : px_go p l e R s m args below meth c Q D tys b0 nL ad pc L (u :: S) σ := by
  intro H locs ls stk ws h
  obtain ⟨⟨z1, z2, z3⟩, hl, hs, hr⟩ := h
  obtain ⟨x, ys, rfl, hx, hs1⟩ := pe_s hs
  refine row H locs ls ys x hx z1 z2 (fun ls' h' => ?_)
  obtain ⟨k1, k2⟩ := ev_keep h'
  exact k H locs ls' ys ws ⟨⟨h'.1, h'.2.1, by rw [List.length_set]; exact z3⟩, px_lset k2 k1 hx hl, hs1, hr⟩
theorem px_s3 (C : ev_cx p s m args meth c cc nL o D tys aK aV b0) (hd : decode cc pc = .ok (op, len)) (hc : px_c3 op len a nL = true) {v : Int} (k : px_go p l e R s m args below meth c Q D tys b0 nL ad (pc + len) (L.set a (some (.inl v))) S σ) : px_go p l e R s m args below meth c Q D tys b0 nL ad pc L (.inl v :: S) σ := by
  refine px_store (fun H locs ls rest x hx z1 z2 k => ?_) k
  obtain ⟨i, rfl, hi⟩ := pe_iE hx
  unfold px_c3 at hc
  split at hc
  · simp only [Bool.and_eq_true, beq_iff_eq, decide_eq_true_eq] at hc
    obtain ⟨rfl, rfl, h2⟩ := hc
    exact lv_istore_n C.1 C.2.1 hd rfl (en_lv_has z1 z2) (by omega) rfl k
  · simp only [Bool.and_eq_true, beq_iff_eq, decide_eq_true_eq] at hc
    obtain ⟨rfl, rfl, h2⟩ := hc
    exact lv_istore C.1 C.2.1 hd (en_lv_has z1 z2) (by omega) rfl k
  · cases hc
theorem px_s4 (C : ev_cx p s m args meth c cc nL o D tys aK aV b0) (hd : decode cc pc = .ok (op, len)) (hc : px_c4 op len a nL = true) {j : Nat} (k : px_go p l e R s m args below meth c Q D tys b0 nL ad (pc + len) (L.set a (some (.inr j))) S σ) : px_go p l e R s m args below meth c Q D tys b0 nL ad pc L (.inr j :: S) σ := by
  refine px_store (fun H locs ls rest x hx z1 z2 k => ?_) k
  obtain ⟨rfl, hi⟩ := pe_rE hx
  unfold px_c4 at hc
  split at hc
  · simp only [Bool.and_eq_true, beq_iff_eq, decide_eq_true_eq] at hc
    obtain ⟨rfl, rfl, h2⟩ := hc
    exact lv_astore_n C.1 C.2.1 hd rfl (en_lv_has z1 z2) (by omega) rfl k
  · simp only [Bool.and_eq_true, beq_iff_eq, decide_eq_true_eq] at hc
    obtain ⟨rfl, rfl, h2⟩ := hc
    exact lv_astore C.1 C.2.1 hd (en_lv_has z1 z2) (by omega) rfl k
  · cases hc
theorem px_s5 (C : ev_cx p s m args meth c cc nL o D tys aK aV b0) (hd : decode cc pc = .ok (op, len)) (hc : px_c5 op len a z = true) {v : Int} (hL : L[a]? = some (some (.inl v))) (k : px_go p l e R s m args below meth c Q D tys b0 nL ad (pc + len) (L.set a (some (.inl (pw (v + z))))) S σ) : px_go p l e R s m args below meth c Q D tys b0 nL ad pc L S σ := by
  unfold px_c5 at hc
  split at hc
  · rename_i i n
    simp only [Bool.and_eq_true, beq_iff_eq, decide_eq_true_eq] at hc
    obtain ⟨rfl, rfl, h2⟩ := hc
    intro H locs ls stk ws h
    obtain ⟨⟨z1, z2, z3⟩, hl, hs, hr⟩ := h
    obtain ⟨x, h1, hx⟩ := hl i _ hL
    obtain ⟨y, rfl, hy⟩ := pe_iE hx
    obtain ⟨j, hj⟩ := List.getElem?_of_mem (en_lv_mem.mpr h1)
    have hi : i < L.length := (List.getElem?_eq_some_iff.mp hL).1
    refine lv_iinc C.1 C.2.1 hd (en_lv_has z1 z2) hj rfl (by omega) rfl (fun ls' h' => ?_)
    obtain ⟨k1, k2⟩ := ev_keep h'
    refine k H locs ls' stk ws ⟨⟨h'.1, h'.2.1, by rw [List.length_set]; exact z3⟩, px_lset k2 k1 (pe_i ?_) hl, hs, hr⟩
    rw [Int32.toInt_add, hy, h2]
    rfl
  · cases hc
theorem px_bin {pc' : Nat} (g : Int32 → Int32 → Int32) {x y r : Int} (hg : ∀ u v : Int32, u.toInt = x → v.toInt = y → (g u v).toInt = r)
    (row : ∀ (H : Heap) (locs : List Loc) (ls : Array Slot) (rest : List Value) (u v : Int32), u.toInt = x → v.toInt = y → W p l e R s m args below meth c H locs 0 0 Q (F0 m pc' ls (.int (g u v) :: rest)) → W p l e R s m args below meth c H locs 0 0 Q (F0 m pc ls (.int v :: .int u :: rest)))
    (k : px_go p l e R s m args below meth c Q D tys b0 nL ad pc' L (.inl r :: S) σ) : px_go p l e R s m args below meth c Q D tys b0 nL ad pc L (.inl y :: .inl x :: S) σ := by
  intro H locs ls stk ws h
  obtain ⟨h0, hl, hs, hr⟩ := h
  obtain ⟨v0, ys, rfl, hy, hs1⟩ := pe_s hs
  obtain ⟨u0, zs, rfl, hx, hs2⟩ := pe_s hs1
  obtain ⟨v, rfl, hv⟩ := pe_iE hy
  obtain ⟨u, rfl, hu⟩ := pe_iE hx
  exact row H locs ls zs u v hu hv (k H locs ls (.int (g u v) :: zs) ws ⟨h0, hl, ⟨pe_i (hg u v hu hv), hs2⟩, hr⟩)
theorem pO_of {f : Int32 → Int32 → Int32} {x y : Int} {u v : Int32} (hu : u.toInt = x) (hv : v.toInt = y) : (f u v).toInt = pO f x y := by
  rw [← hu, ← hv]
  exact pO_ok f u v
theorem px_s6 (C : ev_cx p s m args meth c cc nL o D tys aK aV b0) (hd : decode cc pc = .ok (op, len)) (hc : px_c6 op len a = true) {x y : Int} (k : px_go p l e R s m args below meth c Q D tys b0 nL ad (pc + len) L (.inl (pB a x y) :: S) σ) : px_go p l e R s m args below meth c Q D tys b0 nL ad pc L (.inl y :: .inl x :: S) σ := by
  unfold px_c6 at hc
  split at hc
  · simp only [Bool.and_eq_true, beq_iff_eq] at hc
    obtain ⟨rfl, rfl⟩ := hc
    exact px_bin (fun x y => x + y) (fun u v hu hv => by rw [Int32.toInt_add, hu, hv]; rfl) (fun H locs ls rest u v _ _ k => lv_iadd C.1 C.2.1 hd k) k
  · simp only [Bool.and_eq_true, beq_iff_eq] at hc
    obtain ⟨rfl, rfl⟩ := hc
    exact px_bin (fun x y => x - y) (fun u v hu hv => by rw [Int32.toInt_sub, hu, hv]; rfl) (fun H locs ls rest u v _ _ k => lv_isub C.1 C.2.1 hd k) k
  · simp only [Bool.and_eq_true, beq_iff_eq] at hc
    obtain ⟨rfl, rfl⟩ := hc
    exact px_bin (fun x y => x * y) (fun u v hu hv => by rw [Int32.toInt_mul, hu, hv]; rfl) (fun H locs ls rest u v _ _ k => lv_imul C.1 C.2.1 hd k) k
  · simp only [Bool.and_eq_true, beq_iff_eq] at hc
    obtain ⟨rfl, rfl⟩ := hc
    exact px_bin (fun x y => x &&& y) (fun u v hu hv => pO_of (f := fun x y => x &&& y) hu hv) (fun H locs ls rest u v _ _ k => lv_iand C.1 C.2.1 hd k) k
  · simp only [Bool.and_eq_true, beq_iff_eq] at hc
    obtain ⟨rfl, rfl⟩ := hc
    exact px_bin (fun x y => x ||| y) (fun u v hu hv => pO_of (f := fun x y => x ||| y) hu hv) (fun H locs ls rest u v _ _ k => lv_ior C.1 C.2.1 hd k) k
  · simp only [Bool.and_eq_true, beq_iff_eq] at hc
    obtain ⟨rfl, rfl⟩ := hc
    exact px_bin (fun x y => x ^^^ y) (fun u v hu hv => pO_of (f := fun x y => x ^^^ y) hu hv) (fun H locs ls rest u v _ _ k => lv_ixor C.1 C.2.1 hd k) k
  · simp only [Bool.and_eq_true, beq_iff_eq] at hc
    obtain ⟨rfl, rfl⟩ := hc
    exact px_bin (fun x y => x <<< (y &&& 31)) (fun u v hu hv => pO_of (f := fun x y => x <<< (y &&& 31)) hu hv) (fun H locs ls rest u v _ _ k => lv_ishl C.1 C.2.1 hd k) k
  · simp only [Bool.and_eq_true, beq_iff_eq] at hc
    obtain ⟨rfl, rfl⟩ := hc
    exact px_bin (fun x y => x >>> (y &&& 31)) (fun u v hu hv => pO_of (f := fun x y => x >>> (y &&& 31)) hu hv) (fun H locs ls rest u v _ _ k => lv_ishr C.1 C.2.1 hd k) k
  · simp only [Bool.and_eq_true, beq_iff_eq] at hc
    obtain ⟨rfl, rfl⟩ := hc
    exact px_bin (fun x y => (x.toUInt32 >>> (y.toUInt32 &&& Int32.toUInt32 31)).toInt32) (fun u v hu hv => pO_of (f := fun x y => (x.toUInt32 >>> (y.toUInt32 &&& Int32.toUInt32 31)).toInt32) hu hv) (fun H locs ls rest u v _ _ k => lv_iushr C.1 C.2.1 hd rfl k) k
  · cases hc
theorem px_ne0 {v : Int32} {y : Int} (hv : v.toInt = y) (hy : y ≠ 0) : ¬ v = 0 := fun e => hy (by rw [← hv, e]; rfl)
theorem px_s7 (C : ev_cx p s m args meth c cc nL o D tys aK aV b0) (hd : decode cc pc = .ok (op, len)) (hc : px_c7 op len a = true) {x y : Int} (hy : y ≠ 0) (k : px_go p l e R s m args below meth c Q D tys b0 nL ad (pc + len) L (.inl (px_dr a x y) :: S) σ) : px_go p l e R s m args below meth c Q D tys b0 nL ad pc L (.inl y :: .inl x :: S) σ := by
  unfold px_c7 at hc
  split at hc
  · simp only [Bool.and_eq_true, beq_iff_eq] at hc
    obtain ⟨rfl, rfl⟩ := hc
    exact px_bin (fun x y => x / y) (fun u v hu hv => pO_of (f := fun x y => x / y) hu hv) (fun H locs ls rest u v _ hv k => lv_idiv C.1 C.2.1 hd (px_ne0 hv hy) k) k
  · simp only [Bool.and_eq_true, beq_iff_eq] at hc
    obtain ⟨rfl, rfl⟩ := hc
    exact px_bin (fun x y => x - x / y * y) (fun u v hu hv => pO_of (f := fun x y => x - x / y * y) hu hv) (fun H locs ls rest u v _ hv k => lv_irem C.1 C.2.1 hd (px_ne0 hv hy) k) k
  · cases hc
theorem px_s8 (C : ev_cx p s m args meth c cc nL o D tys aK aV b0) (hd : decode cc pc = .ok (op, len)) (hc : px_c8 op len a = true) {x : Int} (k : px_go p l e R s m args below meth c Q D tys b0 nL ad (pc + len) L (.inl (px_ib a x) :: S) σ) : px_go p l e R s m args below meth c Q D tys b0 nL ad pc L (.inl x :: S) σ := by
  intro H locs ls stk ws h
  obtain ⟨h0, hl, hs, hr⟩ := h
  obtain ⟨u0, zs, rfl, hx, hs2⟩ := pe_s hs
  obtain ⟨u, rfl, hu⟩ := pe_iE hx
  unfold px_c8 at hc
  split at hc
  · simp only [Bool.and_eq_true, beq_iff_eq] at hc
    obtain ⟨rfl, rfl⟩ := hc
    refine lv_i2b C.1 C.2.1 hd rfl (k H locs ls _ ws ⟨h0, hl, ⟨pe_i ?_, hs2⟩, hr⟩)
    show _ = pI2b x
    unfold pI2b
    rw [← hu, Int32.ofInt_toInt]
  · simp only [Bool.and_eq_true, beq_iff_eq] at hc
    obtain ⟨rfl, rfl⟩ := hc
    refine lv_i2c C.1 C.2.1 hd rfl (k H locs ls _ ws ⟨h0, hl, ⟨pe_i ?_, hs2⟩, hr⟩)
    show _ = pI2c x
    unfold pI2c
    rw [← hu, Int32.ofInt_toInt]
  · cases hc
theorem px_s9 (C : ev_cx p s m args meth c cc nL o D tys aK aV b0) (hd : decode cc pc = .ok (op, len)) (hc : px_c9 op len 9 = true) {x : pV} (k : px_go p l e R s m args below meth c Q D tys b0 nL ad (pc + len) L (x :: x :: S) σ) : px_go p l e R s m args below meth c Q D tys b0 nL ad pc L (x :: S) σ := by
  intro H locs ls stk ws h
  obtain ⟨h0, hl, hs, hr⟩ := h
  obtain ⟨u, zs, rfl, hx, hs2⟩ := pe_s hs
  unfold px_c9 at hc
  split at hc
  · simp only [Bool.and_eq_true, beq_iff_eq] at hc
    obtain ⟨rfl, -⟩ := hc
    exact lv_dup C.1 C.2.1 hd (en_v_cat hx) (k H locs ls (u :: u :: zs) ws ⟨h0, hl, ⟨hx, hx, hs2⟩, hr⟩)
  · simp at hc
  · simp at hc
  · cases hc
theorem px_s10 (C : ev_cx p s m args meth c cc nL o D tys aK aV b0) (hd : decode cc pc = .ok (op, len)) (hc : px_c9 op len 10 = true) {x y : pV} (k : px_go p l e R s m args below meth c Q D tys b0 nL ad (pc + len) L (x :: y :: x :: y :: S) σ) : px_go p l e R s m args below meth c Q D tys b0 nL ad pc L (x :: y :: S) σ := by
  intro H locs ls stk ws h
  obtain ⟨h0, hl, hs, hr⟩ := h
  obtain ⟨u, zs, rfl, hx, hs2⟩ := pe_s hs
  obtain ⟨v, ys, rfl, hy, hs3⟩ := pe_s hs2
  unfold px_c9 at hc
  split at hc
  · simp at hc
  · simp only [Bool.and_eq_true, beq_iff_eq] at hc
    obtain ⟨rfl, -⟩ := hc
    exact lv_dup2_11 C.1 C.2.1 hd (en_v_cat hx) (en_v_cat hy) (k H locs ls (u :: v :: u :: v :: ys) ws ⟨h0, hl, ⟨hx, hy, hx, hy, hs3⟩, hr⟩)
  · simp at hc
  · cases hc
theorem px_s11 (C : ev_cx p s m args meth c cc nL o D tys aK aV b0) (hd : decode cc pc = .ok (op, len)) (hc : px_c9 op len 11 = true) {x : pV} (k : px_go p l e R s m args below meth c Q D tys b0 nL ad (pc + len) L S σ) : px_go p l e R s m args below meth c Q D tys b0 nL ad pc L (x :: S) σ := by
  intro H locs ls stk ws h
  obtain ⟨h0, hl, hs, hr⟩ := h
  obtain ⟨u, zs, rfl, hx, hs2⟩ := pe_s hs
  unfold px_c9 at hc
  split at hc
  · simp at hc
  · simp at hc
  · simp only [Bool.and_eq_true, beq_iff_eq] at hc
    obtain ⟨rfl, -⟩ := hc
    exact lv_pop C.1 C.2.1 hd (en_v_cat hx) (k H locs ls zs ws ⟨h0, hl, hs2, hr⟩)
  · cases hc
theorem px_tkE {pc : Nat} {off : Int} {b : Nat} (h : px_tk pc off b = true) : (pc : Int) + off = (b : Int) := of_decide_eq_true h
theorem px_s12 (C : ev_cx p s m args meth c cc nL o D tys aK aV b0) (hd : decode cc pc = .ok (op, len)) (hc : px_c12 op len pc b = true) (k : px_go p l e R s m args below meth c Q D tys b0 nL ad b L S σ) : px_go p l e R s m args below meth c Q D tys b0 nL ad pc L S σ := by
  intro H locs ls stk ws h
  unfold px_c12 at hc
  split at hc
  · simp only [Bool.and_eq_true, beq_iff_eq] at hc
    obtain ⟨rfl, h1⟩ := hc
    exact lv_goto C.1 C.2.1 hd (px_tkE h1) (k H locs ls stk ws h)
  · cases hc
theorem px_s13 (C : ev_cx p s m args meth c cc nL o D tys aK aV b0) (hd : decode cc pc = .ok (op, len)) (hc : px_c13 op len pc a b = true) {x y : Int} (kt : pCd a x y → px_go p l e R s m args below meth c Q D tys b0 nL ad b L S σ) (kf : ¬ pCd a x y → px_go p l e R s m args below meth c Q D tys b0 nL ad (pc + len) L S σ) : px_go p l e R s m args below meth c Q D tys b0 nL ad pc L (.inl y :: .inl x :: S) σ := by
  intro H locs ls stk ws h
  obtain ⟨h0, hl, hs, hr⟩ := h
  obtain ⟨v0, ys, rfl, hy, hs1⟩ := pe_s hs
  obtain ⟨u0, zs, rfl, hx, hs2⟩ := pe_s hs1
  obtain ⟨v, rfl, hv⟩ := pe_iE hy
  obtain ⟨u, rfl, hu⟩ := pe_iE hx
  subst hv
  subst hu
  unfold px_c13 at hc
  split at hc
  · rename_i cd off
    simp only [Bool.and_eq_true, beq_iff_eq] at hc
    obtain ⟨rfl, h1, h2⟩ := hc
    subst h1
    have h3 := px_tkE h2
    have kt := fun h => kt h H locs ls zs ws ⟨h0, hl, hs2, hr⟩
    have kf := fun h => kf h H locs ls zs ws ⟨h0, hl, hs2, hr⟩
    cases cd
    · exact lv_icmp_eq C.1 C.2.1 hd h3 (fun h => kt ((fa_eq _ _).mp h)) (fun h => kf (fun h2 => h ((fa_eq _ _).mpr h2)))
    · exact lv_icmp_ne C.1 C.2.1 hd h3 (fun h => kt (fun h2 => h ((fa_eq _ _).mpr h2))) (fun h => kf (fun h2 => h2 ((fa_eq _ _).mp h)))
    · exact lv_icmp_lt C.1 C.2.1 hd h3 (fun h => kt ((fa_lt _ _).mp h)) (fun h => kf (fun h2 => h ((fa_lt _ _).mpr h2)))
    · exact lv_icmp_ge C.1 C.2.1 hd h3 (fun h => kt ((fa_le _ _).mp h)) (fun h => kf (fun h2 => h ((fa_le _ _).mpr h2)))
    · exact lv_icmp_gt C.1 C.2.1 hd h3 (fun h => kt ((fa_lt _ _).mp h)) (fun h => kf (fun h2 => h ((fa_lt _ _).mpr h2)))
    · exact lv_icmp_le C.1 C.2.1 hd h3 (fun h => kt ((fa_le _ _).mp h)) (fun h => kf (fun h2 => h ((fa_le _ _).mpr h2)))
  · cases hc
theorem px_s14 (C : ev_cx p s m args meth c cc nL o D tys aK aV b0) (hd : decode cc pc = .ok (op, len)) (hc : px_c14 op len pc a b = true) {x : Int} (kt : pCd a x 0 → px_go p l e R s m args below meth c Q D tys b0 nL ad b L S σ) (kf : ¬ pCd a x 0 → px_go p l e R s m args below meth c Q D tys b0 nL ad (pc + len) L S σ) : px_go p l e R s m args below meth c Q D tys b0 nL ad pc L (.inl x :: S) σ := by
  intro H locs ls stk ws h
  obtain ⟨h0, hl, hs, hr⟩ := h
  obtain ⟨u0, zs, rfl, hx, hs2⟩ := pe_s hs
  obtain ⟨u, rfl, hu⟩ := pe_iE hx
  subst hu
  unfold px_c14 at hc
  split at hc
  · rename_i cd off
    simp only [Bool.and_eq_true, beq_iff_eq] at hc
    obtain ⟨rfl, h1, h2⟩ := hc
    subst h1
    have h3 := px_tkE h2
    have kt := fun h => kt h H locs ls zs ws ⟨h0, hl, hs2, hr⟩
    have kf := fun h => kf h H locs ls zs ws ⟨h0, hl, hs2, hr⟩
    cases cd
    · exact lv_if_eq C.1 C.2.1 hd h3 (fun h => kt ((fa_eq _ _).mp h)) (fun h => kf (fun h2 => h ((fa_eq _ _).mpr h2)))
    · exact lv_if_ne C.1 C.2.1 hd h3 (fun h => kt (fun h2 => h ((fa_eq _ _).mpr h2))) (fun h => kf (fun h2 => h2 ((fa_eq _ _).mp h)))
    · exact lv_if_lt C.1 C.2.1 hd h3 (fun h => kt ((fa_lt _ _).mp h)) (fun h => kf (fun h2 => h ((fa_lt _ _).mpr h2)))
    · exact lv_if_ge C.1 C.2.1 hd h3 (fun h => kt ((fa_le _ _).mp h)) (fun h => kf (fun h2 => h ((fa_le _ _).mpr h2)))
    · exact lv_if_gt C.1 C.2.1 hd h3 (fun h => kt ((fa_lt _ _).mp h)) (fun h => kf (fun h2 => h ((fa_lt _ _).mpr h2)))
    · exact lv_if_le C.1 C.2.1 hd h3 (fun h => kt ((fa_le _ _).mp h)) (fun h => kf (fun h2 => h ((fa_le _ _).mpr h2)))
  · cases hc
theorem px_tab_tg {pc d : Nat} {x off : Int} : ∀ {os : List Int} {v : Int} {n : Nat}, os[n]? = some off → x = v + (n : Int) → px_tg x d (px_tab pc v os) = ((pc : Int) + off).toNat
  | [], _, _, h, _ => by simp at h
  | o1 :: os, v, 0, h, hx => by
    rw [List.getElem?_cons_zero] at h
    cases h
    unfold px_tab px_tg
    rw [if_pos (by dsimp only; omega)]
  | o1 :: os, v, n + 1, h, hx => by
    rw [List.getElem?_cons_succ] at h
    unfold px_tab px_tg
    rw [if_neg (by dsimp only; omega)]
    exact px_tab_tg h (by omega)
theorem px_tab_out {pc d : Nat} {x : Int} : ∀ {os : List Int} {v : Int}, (x < v ∨ v + (os.length : Int) ≤ x) → px_tg x d (px_tab pc v os) = d
  | [], _, _ => rfl
  | o1 :: os, v, h => by
    rw [List.length_cons] at h
    unfold px_tab px_tg
    rw [if_neg (by dsimp only; omega)]
    exact px_tab_out (by omega)
theorem px_lk_tg {pc b : Nat} {d x : Int} (hd : (pc : Int) + d = (b : Int)) : ∀ {qs : List (Int × Int)}, qs.all (fun u => decide (0 ≤ (pc : Int) + u.2)) = true → (pc : Int) + Op.lookupswitch.offset qs d x = (px_tg x b (qs.map (fun u => (u.1, ((pc : Int) + u.2).toNat))) : Int)
  | [], _ => hd
  | (a, o1) :: us, h => by
    rw [List.all_cons, Bool.and_eq_true] at h
    have h1 := of_decide_eq_true h.1
    rw [Op.lookupswitch.offset_cons, List.map_cons]
    unfold px_tg
    dsimp only at h1 ⊢
    by_cases hx : a = x
    · rw [if_pos hx, if_pos hx.symm]
      omega
    · rw [if_neg hx, if_neg (fun h => hx h.symm)]
      exact px_lk_tg hd h.2
theorem px_s15 (C : ev_cx p s m args meth c cc nL o D tys aK aV b0) (hd : decode cc pc = .ok (op, len)) (hc : px_c15 op pc b ps = true) {x : Int} (k : px_go p l e R s m args below meth c Q D tys b0 nL ad (px_tg x b ps) L S σ) : px_go p l e R s m args below meth c Q D tys b0 nL ad pc L (.inl x :: S) σ := by
  intro H locs ls stk ws h
  obtain ⟨h0, hl, hs, hr⟩ := h
  obtain ⟨u0, zs, rfl, hx, hs2⟩ := pe_s hs
  obtain ⟨u, rfl, hu⟩ := pe_iE hx
  subst hu
  have k := k H locs ls zs ws ⟨h0, hl, hs2, hr⟩
  unfold px_c15 at hc
  split at hc
  · rename_i d lo hi offs
    simp only [Bool.and_eq_true, decide_eq_true_eq] at hc
    obtain ⟨h1, h2, h3, h4⟩ := hc
    have h5 := px_tkE h1
    subst h3
    rcases Int.lt_or_le u.toInt lo with hlo | hlo
    · rw [px_tab_out (Or.inl hlo)] at k
      exact lv_tableOut (tgt := b) C.1 C.2.1 hd (Or.inl hlo) h5 k
    · rcases Int.lt_or_le hi u.toInt with hhi | hhi
      · rw [px_tab_out (Or.inr (by omega))] at k
        exact lv_tableOut (tgt := b) C.1 C.2.1 hd (Or.inr hhi) h5 k
      · have hn : (u.toInt - lo).toNat < offs.toList.length := by omega
        have ho : offs.toList[(u.toInt - lo).toNat]? = some offs.toList[(u.toInt - lo).toNat] := List.getElem?_eq_getElem hn
        generalize offs.toList[(u.toInt - lo).toNat] = off at ho
        have h6 := of_decide_eq_true (List.all_eq_true.mp h4 off (List.mem_of_getElem? ho))
        rw [px_tab_tg ho (by omega)] at k
        exact lv_tableIn (tgt := ((pc : Int) + off).toNat) C.1 C.2.1 hd (by omega) (by omega) (off := off) (by rw [← Array.getElem?_toList]; exact ho) (by omega) k
  · rename_i d qs
    rw [Bool.and_eq_true, Bool.and_eq_true, Bool.and_eq_true] at hc
    obtain ⟨h1, h2, h3, h4⟩ := hc
    have h2 := of_decide_eq_true h2
    subst h2
    exact lv_lookup (tgt := px_tg u.toInt b (qs.toList.map (fun w => (w.1, ((pc : Int) + w.2).toNat)))) C.1 C.2.1 hd h3 rfl (px_lk_tg (px_tkE h1) h4) k
  · cases hc
end PX1
section PX2
variable {p : Program} {l : Launch} {e : Env} {R : Room} {s : State} {m : MethodId} {args : Array Value} {below : List Frame} {meth : Method} {c : Code} {Q : State → Prop} {cc : ByteArray} {D : va_G} {tys : List (ClassId × FieldType)} {aK aV b0 nL o : Nat} {ad : Nat → Nat}
variable {pc len : Nat} {L : pL} {S : List pV} {σ : pS} {op : Instr} {a b fr : Nat} {z : Int} {ps : List (Int × Nat)}
theorem px_s16 (C : ev_cx p s m args meth c cc nL o D tys aK aV b0) (hd : decode cc pc = .ok (op, len)) (hc : px_c16 o op len a b = true) (k : px_go p l e R s m args below meth c Q D tys b0 nL ad (pc + len) L (.inl (σ a b) :: S) σ) : px_go p l e R s m args below meth c Q D tys b0 nL ad pc L (.inr a :: S) σ := by
  unfold px_c16 at hc
  split at hc
  · rename_i i
    split at hc
    · rename_i ci f hf
      split at hc
      · rename_i q hq
        split at hc
        · rename_i r hr
          split at hc
          · rename_i bd hbd
            simp only [Bool.and_eq_true, beq_iff_eq, decide_eq_true_eq] at hc
            obtain ⟨rfl, h1, h2, rfl⟩ := hc
            obtain ⟨q1, q2⟩ := q
            dsimp only at h1 hbd
            subst h1
            intro H locs ls stk ws h
            obtain ⟨h0, hl, hs, hw, hσ, hP, hD, hS⟩ := h
            obtain ⟨x, ys, rfl, hx, hs1⟩ := pe_s hs
            obtain ⟨rfl, hj⟩ := pe_rE hx
            obtain ⟨e0, g1, vs, rfl, g2⟩ := hw.2 a _ hq
            obtain ⟨v, g3, w, rfl, g4⟩ := en_vs_get g2 hbd
            refine va_get (C := r.1) (T := r.2.1) (N := r.2.2) C.1 C.2.1 C.2.2.2.2.1 (en_cls_ws hr) C.2.2.2.1 C.2.2.2.2.2.1 hP a g1 hr f h2 (C.2.2.2.2.1 _ (en_fl_w hf hr)) (fun x h => h) g3 hd ?_
            exact k H locs ls (.int w :: ys) ws ⟨h0, hl, ⟨pe_i (by rw [← hσ]; exact (sg_obji g1 g3).symm), hs1⟩, hw, hσ, hP, hD, hS⟩
          · cases hc
        · cases hc
      · cases hc
    · cases hc
  · cases hc
theorem px_s17 (C : ev_cx p s m args meth c cc nL o D tys aK aV b0) (hd : decode cc pc = .ok (op, len)) (hc : px_c17 o op len a b = true) (k : px_go p l e R s m args below meth c Q D tys b0 nL ad (pc + len) L (.inr b :: S) σ) : px_go p l e R s m args below meth c Q D tys b0 nL ad pc L (.inr a :: S) σ := by
  unfold px_c17 at hc
  split at hc
  · rename_i i
    split at hc
    · rename_i ci f hf
      split at hc
      · rename_i q hq
        split at hc
        · rename_i r hr
          split at hc
          · rename_i bd hbd
            simp only [Bool.and_eq_true, beq_iff_eq, decide_eq_true_eq] at hc
            obtain ⟨rfl, h1, h2, rfl⟩ := hc
            obtain ⟨q1, q2⟩ := q
            dsimp only at h1 hbd
            subst h1
            intro H locs ls stk ws h
            obtain ⟨h0, hl, hs, hw, hσ, hP, hD, hS⟩ := h
            obtain ⟨x, ys, rfl, hx, hs1⟩ := pe_s hs
            obtain ⟨rfl, hj⟩ := pe_rE hx
            obtain ⟨e0, g1, vs, rfl, g2⟩ := hw.2 a _ hq
            obtain ⟨v, g3, g4⟩ := en_vs_get g2 hbd
            refine va_get (C := r.1) (T := r.2.1) (N := r.2.2) C.1 C.2.1 C.2.2.2.2.1 (en_cls_ws hr) C.2.2.2.1 C.2.2.2.2.2.1 hP a g1 hr f h2 (C.2.2.2.2.1 _ (en_fl_w hf hr)) (fun x h => h) g3 hd ?_
            exact k H locs ls (v :: ys) ws ⟨h0, hl, ⟨g4, hs1⟩, hw, hσ, hP, hD, hS⟩
          · cases hc
        · cases hc
      · cases hc
    · cases hc
  · cases hc
theorem px_bd_in {z : Int} (hz : z = 0 ∨ z = 1) {v : Int} (hv : z = 0 ∨ (0 ≤ v ∧ v ≤ 1)) {x : Int32} (hx : x.toInt = v) : en_in (px_bd z) x := by
  rcases hz with rfl | rfl
  · exact en_full_in x
  · rcases hv with hv | ⟨h1, h2⟩
    · exact absurd hv (by decide)
    · exact ⟨by show 0 ≤ _; omega, by show _ ≤ 1; omega⟩
theorem px_s18 (C : ev_cx p s m args meth c cc nL o D tys aK aV b0) (hd : decode cc pc = .ok (op, len)) (hc : px_c18 o op len a b z = true) {v : Int} (hv : z = 0 ∨ (0 ≤ v ∧ v ≤ 1)) (k : px_go p l e R s m args below meth c Q D tys b0 nL ad (pc + len) L S (pU σ a b v)) : px_go p l e R s m args below meth c Q D tys b0 nL ad pc L (.inl v :: .inr a :: S) σ := by
  unfold px_c18 at hc
  split at hc
  · rename_i i
    split at hc
    · rename_i ci f hf
      split at hc
      · rename_i q hq
        split at hc
        · rename_i r hr
          split at hc
          · rename_i bd hbd
            simp only [Bool.and_eq_true, Bool.or_eq_true, beq_iff_eq, decide_eq_true_eq, Bool.not_eq_true'] at hc
            obtain ⟨rfl, h1, h2, rfl, h4, h5, h6, h7⟩ := hc
            obtain ⟨q1, q2⟩ := q
            dsimp only at h1 hbd
            subst h1
            intro H locs ls stk ws h
            obtain ⟨h0, hl, hs, hw, hσ, hP, hD, hS⟩ := h
            obtain ⟨x9, us, rfl, hx9, hs0⟩ := pe_s hs
            obtain ⟨x, ys, rfl, hx, hs1⟩ := pe_s hs0
            obtain ⟨rfl, hj⟩ := pe_rE hx
            obtain ⟨w, rfl, hwv⟩ := pe_iE hx9
            obtain ⟨e0, g1, vs, rfl, g2⟩ := hw.2 a _ hq
            obtain ⟨old, g3, zo, rfl, g4⟩ := en_vs_get g2 hbd
            have hin : en_in bd w := by rw [h4]; exact px_bd_in h7 hv hwv
            have hev : en_v tF.length ad (.inl bd) (.int w) := ⟨w, rfl, hin⟩
            obtain ⟨q3, q4⟩ := en_put_ok h5 hev
            have hcl := en_cls q1 r hr
            have hlen : f < vs.length := (List.getElem?_eq_some_iff.mp g3).1
            refine va_put (C := r.1) (T := r.2.1) (N := r.2.2) C.1 C.2.1 C.2.2.2.2.1 (en_cls_ws hr) (en_tyX q1) hcl.2.1 hcl.2.2 C.2.2.2.1 C.2.2.2.2.2.1 hP hD hS a g1 hr f h2 (C.2.2.2.2.1 _ (en_fl_w hf hr)) (fun x h => h) h6 (hcl.2.1 f h2) q3 q4 hlen hd (fun H1 locs1 hP1 hD1 hS1 => ?_)
            exact k H1 locs1 ls ys _ ⟨h0, hl, hs1, ev_w_set hw hq ⟨_, rfl, ev_vs_fe g2 hbd hev⟩, by rw [sg_seto g1 hlen, hσ, hwv], hP1, hD1, hS1⟩
          · cases hc
        · cases hc
      · cases hc
    · cases hc
  · cases hc
theorem px_ald {t : Nat × Nat × Int × Int} (ht : tF[a]? = some (.inl t)) (h3 : t.1 ≠ 3) {i : Int} (hi0 : 0 ≤ i) (hi1 : i < t.2.1)
    (row : ∀ (H : Heap) (locs : List Loc) (ls : Array Slot) (rest : List Value) (ws : va_W) (q : Nat) (cA : ClassId) (f : Nat → Int32) (x : Int32), va_P D vwCl ws H → ws[a]? = some (q, .inl (cA, t.2.1, .inl f)) → tys[t.1]? = some (cA, en_ty t.1) → vp_in x t.2.1 → W p l e R s m args below meth c H locs 0 0 Q (F0 m (pc + 1) ls (.int (f x.toNatClampNeg) :: rest)) → W p l e R s m args below meth c H locs 0 0 Q (F0 m pc ls (.int x :: .ref q :: rest)))
    (k : px_go p l e R s m args below meth c Q D tys b0 nL ad (pc + 1) L (.inl (σ a i.toNat) :: S) σ) : px_go p l e R s m args below meth c Q D tys b0 nL ad pc L (.inl i :: .inr a :: S) σ := by
  intro H locs ls stk ws h
  obtain ⟨h0, hl, hs, hw, hσ, hP, hD, hS⟩ := h
  obtain ⟨x9, us, rfl, hx9, hs0⟩ := pe_s hs
  obtain ⟨x, ys, rfl, hx, hs1⟩ := pe_s hs0
  obtain ⟨rfl, hj⟩ := pe_rE hx
  obtain ⟨w, rfl, hwi⟩ := pe_iE hx9
  obtain ⟨e0, g1, ge⟩ := hw.2 a _ ht
  unfold ev_c at ge
  dsimp only at ge
  rw [if_neg h3] at ge
  obtain ⟨cA, f, rfl, g2, g3⟩ := ge
  subst hwi
  have hlt := en_clamp hi0 hi1
  refine row H locs ls ys ws (ad a) cA f w hP g1 g2 (vp_in_iff.mpr ⟨hi0, hi1⟩) (k H locs ls (.int (f w.toNatClampNeg) :: ys) ws ⟨h0, hl, ⟨pe_i ?_, hs1⟩, hw, hσ, hP, hD, hS⟩)
  rw [← hσ, sg_arr g1]
  show _ = if w.toNatClampNeg < t.2.1 then (f w.toNatClampNeg).toInt else 0
  rw [if_pos hlt]
theorem px_s19 (C : ev_cx p s m args meth c cc nL o D tys aK aV b0) (hd : decode cc pc = .ok (op, len)) (hc : px_c19 op len a b = true) {i : Int} (hi : 0 ≤ i ∧ i < b) (k : px_go p l e R s m args below meth c Q D tys b0 nL ad (pc + len) L (.inl (σ a i.toNat) :: S) σ) : px_go p l e R s m args below meth c Q D tys b0 nL ad pc L (.inl i :: .inr a :: S) σ := by
  unfold px_c19 at hc
  split at hc
  · rename_i t ht
    split at hc
    · simp only [Bool.and_eq_true, beq_iff_eq] at hc
      obtain ⟨rfl, h1, rfl⟩ := hc
      exact px_ald ht (by rw [h1]; decide) hi.1 hi.2 (fun H locs ls rest ws q cA f x hP ha hty hin k => va_iald C.1 C.2.1 C.2.2.2.2.2.1 hP a t.1 ha (by rw [hty, h1]; rfl) hin hd k) k
    · simp only [Bool.and_eq_true, Bool.or_eq_true, beq_iff_eq] at hc
      obtain ⟨rfl, h1, rfl⟩ := hc
      rcases h1 with h1 | h1
      · exact px_ald ht (by rw [h1]; decide) hi.1 hi.2 (fun H locs ls rest ws q cA f x hP ha hty hin k => va_zald C.1 C.2.1 C.2.2.2.2.2.1 hP a t.1 ha (by rw [hty, h1]; rfl) hin hd k) k
      · exact px_ald ht (by rw [h1]; decide) hi.1 hi.2 (fun H locs ls rest ws q cA f x hP ha hty hin k => va_bald C.1 C.2.1 C.2.2.2.2.2.1 hP a t.1 ha (by rw [hty, h1]; rfl) hin hd k) k
    · cases hc
  · cases hc
theorem px_ast {t : Nat × Nat × Int × Int} (ht : tF[a]? = some (.inl t)) (h3 : t.1 ≠ 3) {i v : Int} (hi0 : 0 ≤ i) (hi1 : i < t.2.1) (hv : ∀ x : Int32, x.toInt = v → en_in t.2.2 x)
    (row : ∀ (H : Heap) (locs : List Loc) (ls : Array Slot) (rest : List Value) (ws : va_W) (q : Nat) (cA : ClassId) (f : Nat → Int32) (i x : Int32), x.toInt = v → va_P D vwCl ws H → va_D (fun q => b0 ≤ q) ws → va_S (fun q => b0 ≤ q) s.heap H locs → ws[a]? = some (q, .inl (cA, t.2.1, .inl f)) → tys[t.1]? = some (cA, en_ty t.1) → vp_in i t.2.1 →
      (∀ (H1 : Heap) (locs1 : List Loc), va_P D vwCl (ws.set a (q, .inl (cA, t.2.1, .inl (upd f i.toNatClampNeg x)))) H1 → va_D (fun q => b0 ≤ q) (ws.set a (q, .inl (cA, t.2.1, .inl (upd f i.toNatClampNeg x)))) → va_S (fun q => b0 ≤ q) s.heap H1 locs1 → W p l e R s m args below meth c H1 locs1 0 0 Q (F0 m (pc + 1) ls rest)) → W p l e R s m args below meth c H locs 0 0 Q (F0 m pc ls (.int x :: .int i :: .ref q :: rest)))
    (k : px_go p l e R s m args below meth c Q D tys b0 nL ad (pc + 1) L S (pU σ a i.toNat v)) : px_go p l e R s m args below meth c Q D tys b0 nL ad pc L (.inl v :: .inl i :: .inr a :: S) σ := by
  intro H locs ls stk ws h
  obtain ⟨h0, hl, hs, hw, hσ, hP, hD, hS⟩ := h
  obtain ⟨x8, us8, rfl, hx8, hs8⟩ := pe_s hs
  obtain ⟨x9, us, rfl, hx9, hs0⟩ := pe_s hs8
  obtain ⟨x, ys, rfl, hx, hs1⟩ := pe_s hs0
  obtain ⟨rfl, hj⟩ := pe_rE hx
  obtain ⟨w, rfl, hwi⟩ := pe_iE hx9
  obtain ⟨u, rfl, huv⟩ := pe_iE hx8
  obtain ⟨e0, g1, ge⟩ := hw.2 a _ ht
  unfold ev_c at ge
  dsimp only at ge
  rw [if_neg h3] at ge
  obtain ⟨cA, f, rfl, g2, g3⟩ := ge
  subst hwi
  have hlt := en_clamp hi0 hi1
  refine row H locs ls ys ws (ad a) cA f w u huv hP hD hS g1 g2 (vp_in_iff.mpr ⟨hi0, hi1⟩) (fun H1 locs1 hP1 hD1 hS1 => ?_)
  have hc : ev_c tys tF.length ad (.inl t) (.inl (cA, t.2.1, .inl (upd f w.toNatClampNeg u))) := by
    unfold ev_c
    dsimp only
    rw [if_neg h3]
    refine ⟨cA, _, rfl, g2, fun k hk => ?_⟩
    unfold upd
    split
    · exact hv u huv
    · exact g3 k hk
  exact k H1 locs1 ls ys _ ⟨h0, hl, hs1, ev_w_set hw ht hc, by rw [sg_seta g1 hlt, hσ, huv]; rfl, hP1, hD1, hS1⟩
theorem px_s20 (C : ev_cx p s m args meth c cc nL o D tys aK aV b0) (hd : decode cc pc = .ok (op, len)) (hc : px_c20 op len a b z = true) {i v : Int} (hi : 0 ≤ i ∧ i < b) (hv : z = 0 ∨ (z = 1 ∧ 0 ≤ v ∧ v ≤ 1) ∨ (z ≠ 1 ∧ -128 ≤ v ∧ v ≤ 127)) (k : px_go p l e R s m args below meth c Q D tys b0 nL ad (pc + len) L S (pU σ a i.toNat v)) : px_go p l e R s m args below meth c Q D tys b0 nL ad pc L (.inl v :: .inl i :: .inr a :: S) σ := by
  unfold px_c20 at hc
  split at hc
  · rename_i t ht
    split at hc
    · simp only [Bool.and_eq_true, beq_iff_eq, decide_eq_true_eq] at hc
      obtain ⟨rfl, h1, rfl, rfl, h2⟩ := hc
      exact px_ast ht (by rw [h1]; decide) hi.1 hi.2 (fun x _ => by rw [h2]; exact en_full_in x) (fun H locs ls rest ws q cA f i x _ hP hD hS ha hty hin k => va_iast C.1 C.2.1 C.2.2.2.2.2.1 hP hD hS a t.1 ha (by rw [hty, h1]; rfl) hin hd k) k
    · simp only [Bool.and_eq_true, Bool.or_eq_true, beq_iff_eq, decide_eq_true_eq] at hc
      obtain ⟨rfl, rfl, ⟨h1, rfl, h2⟩ | ⟨h1, rfl, h2⟩⟩ := hc
      · have hv : 0 ≤ v ∧ v ≤ 1 := by omega
        exact px_ast ht (by rw [h1]; decide) hi.1 hi.2 (fun x hx => by rw [h2]; exact ⟨by show 0 ≤ _; omega, by show _ ≤ 1; omega⟩) (fun H locs ls rest ws q cA f i x hx hP hD hS ha hty hin k => va_zast C.1 C.2.1 C.2.2.2.2.2.1 hP hD hS a t.1 ha (by rw [hty, h1]; rfl) hin hd (by rw [en_vp_nar (en_nar_z (by omega) (by omega))]; exact k)) k
      · have hv : -128 ≤ v ∧ v ≤ 127 := by omega
        exact px_ast ht (by rw [h1]; decide) hi.1 hi.2 (fun x hx => by rw [h2]; exact ⟨by show -128 ≤ _; omega, by show _ ≤ 127; omega⟩) (fun H locs ls rest ws q cA f i x hx hP hD hS ha hty hin k => va_bast C.1 C.2.1 C.2.2.2.2.2.1 hP hD hS a t.1 ha (by rw [hty, h1]; rfl) hin hd (by rw [en_nar_b (by omega) (by omega)]; exact k)) k
    · cases hc
  · cases hc
theorem px_s21 (C : ev_cx p s m args meth c cc nL o D tys aK aV b0) (hd : decode cc pc = .ok (op, len)) (hc : px_c21 op len a b = true) (k : px_go p l e R s m args below meth c Q D tys b0 nL ad (pc + len) L (.inl (b : Int) :: S) σ) : px_go p l e R s m args below meth c Q D tys b0 nL ad pc L (.inr a :: S) σ := by
  unfold px_c21 at hc
  split at hc
  · rename_i t ht
    split at hc
    · simp only [Bool.and_eq_true, beq_iff_eq, decide_eq_true_eq, Bool.not_eq_true', beq_eq_false_iff_ne] at hc
      obtain ⟨rfl, h3, h4, rfl⟩ := hc
      intro H locs ls stk ws h
      obtain ⟨h0, hl, hs, hw, hσ, hP, hD, hS⟩ := h
      obtain ⟨x, ys, rfl, hx, hs1⟩ := pe_s hs
      obtain ⟨rfl, hj⟩ := pe_rE hx
      obtain ⟨e0, g1, ge⟩ := hw.2 a _ ht
      unfold ev_c at ge
      dsimp only at ge
      rw [if_neg h3] at ge
      obtain ⟨cA, f, rfl, g2, g3⟩ := ge
      refine va_alen C.1 C.2.1 C.2.2.2.2.2.1 hP a t.1 g1 g2 (v := nI t.2.1) rfl hd ?_
      exact k H locs ls (.int (nI t.2.1) :: ys) ws ⟨h0, hl, ⟨pe_i (nI_toInt h4), hs1⟩, hw, hσ, hP, hD, hS⟩
    · cases hc
  · cases hc
theorem px_s22 (C : ev_cx p s m args meth c cc nL o D tys aK aV b0) (hd : decode cc pc = .ok (op, len)) (hc : px_c22 op len a b z = true) {i : Int} (hi : 0 ≤ i ∧ i < b) (k : ∀ q : Nat, q < b → i = (q : Int) → px_go p l e R s m args below meth c Q D tys b0 nL ad (pc + len) L (.inr (z.toNat + q) :: S) σ) : px_go p l e R s m args below meth c Q D tys b0 nL ad pc L (.inl i :: .inr a :: S) σ := by
  unfold px_c22 at hc
  split at hc
  · rename_i t ht
    split at hc
    · simp only [Bool.and_eq_true, beq_iff_eq, decide_eq_true_eq] at hc
      obtain ⟨rfl, h3, rfl, rfl⟩ := hc
      intro H locs ls stk ws h
      obtain ⟨h0, hl, hs, hw, hσ, hP, hD, hS⟩ := h
      obtain ⟨x9, us, rfl, hx9, hs0⟩ := pe_s hs
      obtain ⟨x, ys, rfl, hx, hs1⟩ := pe_s hs0
      obtain ⟨rfl, hj⟩ := pe_rE hx
      obtain ⟨w, rfl, hwi⟩ := pe_iE hx9
      obtain ⟨e0, g1, ge⟩ := hw.2 a _ ht
      unfold ev_c at ge
      dsimp only at ge
      rw [if_pos h3] at ge
      obtain ⟨cA, f, rfl, g2, g3⟩ := ge
      subst hwi
      have hin : vp_in w t.2.1 := vp_in_iff.mpr ⟨hi.1, hi.2⟩
      have hlt := en_clamp hi.1 hi.2
      obtain ⟨e1, e2⟩ := g3 w.toNatClampNeg hlt
      refine W.aald (v := va_rf (f w.toNatClampNeg)) (ty := .array .int) C.1 C.2.1 (hP a _ g1) ((C.2.2.2.2.2.1.2 3 _ g2).1 t.2.1 (fun j => va_rf (f j))) rfl (fun q => by cases q) (by show ¬ (w < 0 ∨ (arrV _ _ _).slots.size ≤ _); rw [arrV_size]; exact hin) (by show (arrV _ _ _).slots[_]? = _; rw [arrV_read _ _ hlt]) rfl rfl hd ?_
      rw [e1]
      refine k w.toNatClampNeg hlt ?_ H locs ls (.ref (ad (t.2.2.1.toNat + w.toNatClampNeg)) :: ys) ws ⟨h0, hl, ⟨pe_r e2, hs1⟩, hw, hσ, hP, hD, hS⟩
      show w.toInt = ((w.toInt.toNat : Nat) : Int)
      omega
    · cases hc
  · cases hc
theorem px_after {σ' : pS} {v : Int} {H : Heap} {locs : List Loc} {ls : Array Slot} {stk rest : List Value} {av : Array Value} {rt : Bool} (h0 : ls.size = nL ∧ lv_wf ls ∧ L.length = nL) (hl : ∀ (i : Nat) (a : pV), L[i]? = some (some a) → ∃ x : Value, ls[i]? = some (.val x) ∧ en_v tF.length ad (pe a) x) (hs : en_vs tF.length ad (S.map pe) rest) (hS : va_S (fun q => b0 ≤ q) s.heap H locs)
    (hrun : va_Run p l e R s m args below meth c H locs 0 0 0 0 (F0 m pc ls stk) rest (px_qc D tys b0 ad v σ' rt av) (fun q => b0 ≤ q))
    (k : px_go p l e R s m args below meth c Q D tys b0 nL ad (pc + 3) L (cond rt (.inl v :: S) S) σ') : W p l e R s m args below meth c H locs 0 0 Q (F0 m pc ls stk) := by
  cases rt with
  | false =>
    refine va_callv (a := av) hrun hS (fun q _ h => h) (fun q h => h) (fun w t H1 locs1 ht _ hpost hB _ _ hS1 => ?_)
    subst ht
    exact k t.heap locs1 ls rest w ⟨h0, hl, hs, hpost.1, hpost.2, hB.1, hB.2, hS1⟩
  | true =>
    refine va_calli (a := av) hrun hS (fun q _ h => h) (fun q h => h) (fun x w t H1 locs1 ht _ hpost hB _ _ hS1 => ?_)
    subst ht
    exact k t.heap locs1 ls (.int x :: rest) w ⟨h0, hl, ⟨pe_i hpost.2.2, hs⟩, hpost.1, hpost.2.1, hB.1, hB.2, hS1⟩
theorem px_zz {z : Int} {b : Bool} {v : Int} {S : List pV} (h : b = !decide (z = 0)) : px_rs z v S = cond b (.inl v :: S) S := by
  subst h
  match z with
  | .ofNat 0 => rfl
  | .ofNat (n + 1) => rfl
  | .negSucc n => rfl
theorem px_s23 (C : ev_cx p s m args meth c cc nL o D tys aK aV b0) (hR : R = px_rm fr) (hd : decode cc pc = .ok (op, len)) (hc : px_c23 o op len a b z ps = true) {j : Nat} {A : List pV} (hps : ps = [(0, j)]) (hA : A.length = b) (hS8 : S.length ≤ 8) {f' : Nat} {v : Int} {σ' : pS} (hf' : f' + 1 ≤ fr) (hK : Con l f' a (.inr j :: A.reverse) σ v σ') (k : px_go p l e R s m args below meth c Q D tys b0 nL ad (pc + len) L (px_rs z v S) σ') : px_go p l e R s m args below meth c Q D tys b0 nL ad pc L (A ++ .inr j :: S) σ := by
  subst hps
  unfold px_c23 at hc
  split at hc
  · rename_i i
    split at hc
    · rename_i kd mi n hf
      split at hc
      · rename_i j2 hj2
        cases hj2
        split at hc
        · rename_i q hq
          split at hc
          · rename_i r hr
            split at hc
            · rename_i ci hci
              split at hc
              · rename_i rc hrc
                simp only [Bool.and_eq_true, beq_iff_eq, decide_eq_true_eq] at hc
                obtain ⟨rfl, rfl, rfl, rfl, h1, h2, h3⟩ := hc
                obtain ⟨q1, q2⟩ := q
                dsimp only at h1
                subst h1
                intro H locs ls stk ws h
                obtain ⟨h0, hl, hs, hw, hσ, hP, hD, hS⟩ := h
                obtain ⟨xs, us, rfl, hs1, hs2⟩ := pe_app hs
                obtain ⟨x, ys, rfl, hx, hs3⟩ := pe_s hs2
                have hx0 := hx
                obtain ⟨rfl, hjl⟩ := pe_rE hx
                obtain ⟨e0, g1, vs, rfl, g2⟩ := hw.2 j _ hq
                have hM := hK r hr D tys aK aV b0 ad ws (Value.ref (ad j) :: xs.reverse) ⟨hx0, by rw [List.map_reverse]; exact en_vs_rev hs1⟩ hw hσ
                have hDd := (en_clD hf hr).1
                have hww := en_clW hf hr
                have hts := C.2.2.2.2.1
                have hB := callB_of (own := en_nm o) (index := i) (R := R) (rm := px_rm f') (mc := 0) (ms := 0) n hts (en_codeG hr) rfl rfl rfl (hts _ (en_ws_in (hww (.initialized r.1.cls) (by simp)) rfl)) (hts _ (en_ws_in (hww (.methodLink (en_nm o) i r.1) (by simp)) rfl)) hDd ⟨by rw [hR]; exact hf', by rw [hR]; show 8 + (r.2.2.1 + 11) + 100 * f' ≤ 100 * fr; omega⟩
                have hrecv := va_recv C.2.2.2.2.2.1 hP hrc g1
                rw [(en_nm_cl hrc).trans (en_mo_ok hr hci)] at hrecv
                refine px_after (rt := r.2.2.2.isSome) h0 hl hs3 hS (va_runV (C := r.1.cls) (As := xs.reverse) (rest := ys) ⟨C.1, C.2.1, C.2.2.1, C.2.2.2.1, hts⟩ hM ⟨hB, hts _ (en_ws_in (hww (.instanceMethod r.1) (by simp)) rfl), hts _ (en_ws_in (hww (.selects r.1.cls r.1 r.1) (by simp)) rfl)⟩ ⟨ek_pc_blind, hrecv, ek_pre_at C hP hD hS⟩ rfl (by rw [List.length_reverse, ← en_vs_len hs1, List.length_map]; exact hA) h0.1 (by rw [List.reverse_reverse]) (lv_room (by rw [pe_len hs3]; exact hS8)) hd ⟨Nat.zero_le _, Nat.zero_le _⟩) ?_
                rw [px_zz h3] at k
                exact k
              · cases hc
            · cases hc
          · cases hc
        · cases hc
      · cases hc
    · cases hc
  · cases hc
theorem px_s24 (C : ev_cx p s m args meth c cc nL o D tys aK aV b0) (hR : R = px_rm fr) (hd : decode cc pc = .ok (op, len)) (hc : px_c24 o op len a b z = true) {A : List pV} (hA : A.length = b) (hS8 : S.length ≤ 8) {f' : Nat} {v : Int} {σ' : pS} (hf' : f' + 1 ≤ fr) (hK : Con l f' a A.reverse σ v σ') (k : px_go p l e R s m args below meth c Q D tys b0 nL ad (pc + len) L (px_rs z v S) σ') : px_go p l e R s m args below meth c Q D tys b0 nL ad pc L (A ++ S) σ := by
  unfold px_c24 at hc
  split at hc
  · rename_i i
    split at hc
    · rename_i kd mi n hf
      split at hc
      · rename_i r hr
        simp only [Bool.and_eq_true, Bool.or_eq_true, beq_iff_eq, decide_eq_true_eq] at hc
        obtain ⟨hkd, rfl, rfl, rfl, h2, h3⟩ := hc
        intro H locs ls stk ws h
        obtain ⟨h0, hl, hs, hw, hσ, hP, hD, hS⟩ := h
        obtain ⟨xs, ys, rfl, hs1, hs3⟩ := pe_app hs
        have hM := hK r hr D tys aK aV b0 ad ws xs.reverse (by rw [List.map_reverse]; exact en_vs_rev hs1) hw hσ
        have hDd := (en_clD hf hr).1
        have hww := en_clW hf hr
        have hts := C.2.2.2.2.1
        rw [px_zz h3] at k
        rcases hkd with rfl | rfl
        · have hB := callB_of (own := en_nm o) (index := i) (R := R) (rm := px_rm f') (mc := 0) (ms := 0) n hts (en_codeG hr) rfl rfl rfl (hts _ (en_ws_in (hww (.initialized r.1.cls) (by simp)) rfl)) (hts _ (en_ws_in (hww (.methodLink (en_nm o) i r.1) (by simp)) rfl)) hDd ⟨by rw [hR]; exact hf', by rw [hR]; show 8 + (r.2.2.1 + 11) + 100 * f' ≤ 100 * fr; omega⟩
          exact px_after (rt := r.2.2.2.isSome) h0 hl hs3 hS (va_runS (As := xs.reverse) (rest := ys) ⟨C.1, C.2.1, C.2.2.1, C.2.2.2.1, hts⟩ hM ⟨hB, hts _ (en_ws_in (hww (.static r.1) (by simp)) rfl)⟩ ⟨ek_pc_blind, ek_pre_at C hP hD hS⟩ rfl (by rw [List.length_reverse, ← en_vs_len hs1, List.length_map]; exact hA) h0.1 (by rw [List.reverse_reverse]) (lv_room (by rw [pe_len hs3]; exact hS8)) hd ⟨Nat.zero_le _, Nat.zero_le _⟩) k
        · have hB := va_cnB (own := en_nm o) (host := "LoadsAhead") (index := i) (R := R) (rm := px_rm f') (mc := 0) (ms := 0) n hts (en_codeG hr) rfl rfl rfl (C.2.2.2.2.2.2.2.1.1 _ (en_clN hf hr (Or.inl rfl))) (hts _ (en_ws_in (hww (.initialized r.1.cls) (by simp)) rfl)) hDd ⟨by rw [hR]; exact hf', by rw [hR]; show 8 + (r.2.2.1 + 11) + 100 * f' ≤ 100 * fr; omega⟩
          exact px_after (rt := r.2.2.2.isSome) h0 hl hs3 hS (va_runSN (host := "LoadsAhead") (As := xs.reverse) (rest := ys) ⟨C.1, C.2.1, C.2.2.1, C.2.2.2.1, hts⟩ hM ⟨hB, hts _ (en_ws_in (hww (.static r.1) (by simp)) rfl), trivial⟩ ⟨ek_pc_blind, ek_pre_at C hP hD hS⟩ rfl (by rw [List.length_reverse, ← en_vs_len hs1, List.length_map]; exact hA) h0.1 (by rw [List.reverse_reverse]) (lv_room (by rw [pe_len hs3]; exact hS8)) hd ⟨Nat.zero_le _, Nat.zero_le _⟩) k
      · cases hc
    · cases hc
  · cases hc
theorem px_s25 (C : ev_cx p s m args meth c cc nL o D tys aK aV b0) (hR : R = px_rm fr) (hd : decode cc pc = .ok (op, len)) (hc : px_c25 o op len a = true) {x y : Int} (hfr : 1 ≤ fr) (hS8 : S.length ≤ 8) (k : px_go p l e R s m args below meth c Q D tys b0 nL ad (pc + len) L (.inl (px_mm a x y) :: S) σ) : px_go p l e R s m args below meth c Q D tys b0 nL ad pc L (.inl y :: .inl x :: S) σ := by
  unfold px_c25 at hc
  split at hc
  · rename_i i
    simp only [Bool.and_eq_true, Bool.or_eq_true, beq_iff_eq, decide_eq_true_eq] at hc
    obtain ⟨rfl, hc⟩ := hc
    have hts := C.2.2.2.2.1
    intro H locs ls stk ws h
    obtain ⟨h0, hl, hs, hr⟩ := h
    obtain ⟨v0, ys, rfl, hy, hs1⟩ := pe_s hs
    obtain ⟨u0, zs, rfl, hx, hs2⟩ := pe_s hs1
    obtain ⟨v, rfl, hv⟩ := pe_iE hy
    obtain ⟨u, rfl, hu⟩ := pe_iE hx
    have hlo : ((zs.map fun v => v.category).sum) + 13 ≤ R.locals := by rw [pe_len hs2, hR]; show _ ≤ 100 * fr; omega
    have hf1 : 1 ≤ R.frames := by rw [hR]; exact hfr
    rcases hc with ⟨rfl, hf⟩ | ⟨rfl, hf⟩
    · have hww := en_clW hf en_mt_16
      refine va_mmin C.1 C.2.1 (C.2.2.1.trans h0.1.symm) C.2.2.2.1 (hts _ (en_ws_in (hww (.methodLink (en_nm o) i Lib.Math.min.name) (by simp)) rfl)) (hts _ (en_ws_in (hww (.static Lib.Math.min.name) (by simp)) rfl)) (hts _ (en_ws_in (hww (.initialized Lib.Math.min.name.cls) (by simp)) rfl)) (hts _ (en_codeW en_mt_16)) hf1 hlo (Nat.zero_le _) (Nat.zero_le _) hd ?_
      refine k H locs ls _ ws ⟨h0, hl, ⟨pe_i ?_, hs2⟩, hr⟩
      show _ = pMin x y
      unfold pMin
      by_cases hlt : v < u
      · rw [if_pos hlt]
        rw [fa_lt] at hlt
        rw [if_pos (by omega)]
        exact hv
      · rw [if_neg hlt]
        rw [fa_lt] at hlt
        rw [if_neg (by omega)]
        exact hu
    · have hww := en_clW hf en_mt_30
      refine va_mmax C.1 C.2.1 (C.2.2.1.trans h0.1.symm) C.2.2.2.1 (hts _ (en_ws_in (hww (.methodLink (en_nm o) i Lib.Math.max.name) (by simp)) rfl)) (hts _ (en_ws_in (hww (.static Lib.Math.max.name) (by simp)) rfl)) (hts _ (en_ws_in (hww (.initialized Lib.Math.max.name.cls) (by simp)) rfl)) (hts _ (en_codeW en_mt_30)) hf1 hlo (Nat.zero_le _) (Nat.zero_le _) hd ?_
      refine k H locs ls _ ws ⟨h0, hl, ⟨pe_i ?_, hs2⟩, hr⟩
      show _ = pMax x y
      unfold pMax
      by_cases hlt : u < v
      · rw [if_pos hlt]
        rw [fa_lt] at hlt
        rw [if_pos (by omega)]
        exact hv
      · rw [if_neg hlt]
        rw [fa_lt] at hlt
        rw [if_neg (by omega)]
        exact hu
  · cases hc
theorem px_s26 (C : ev_cx p s m args meth c cc nL o D tys aK aV b0) (hR : R = px_rm fr) (hd : decode cc pc = .ok (op, len)) (hc : px_c26 o op len a b z = true) (hfr : 1 ≤ fr) (hS8 : S.length ≤ 8) (k : px_go p l e R s m args below meth c Q D tys b0 nL ad (pc + len) L S (pKp σ a b z.toNat)) : px_go p l e R s m args below meth c Q D tys b0 nL ad pc L (.inl z :: .inl 0 :: .inr b :: .inl 0 :: .inr a :: S) σ := by
  unfold px_c26 at hc
  split at hc
  · rename_i i
    split at hc
    · rename_i t0 ht0
      split at hc
      · rename_i t1 ht1
        simp only [Bool.and_eq_true, beq_iff_eq, decide_eq_true_eq] at hc
        obtain ⟨hf, rfl, hz, hy0, hy1, hn0, hn1, hbb, hlo⟩ := hc
        have hf := List.contains_iff_mem.mp hf
        intro H locs ls stk ws h
        obtain ⟨h0, hl, hs, hw, hσ, hP, hD, hS⟩ := h
        obtain ⟨x1, v1, rfl, hx1, hs1⟩ := pe_s hs
        obtain ⟨x2, v2, rfl, hx2, hs2⟩ := pe_s hs1
        obtain ⟨x3, v3, rfl, hx3, hs3⟩ := pe_s hs2
        obtain ⟨x4, v4, rfl, hx4, hs4⟩ := pe_s hs3
        obtain ⟨x5, v5, rfl, hx5, hs5⟩ := pe_s hs4
        obtain ⟨nn, rfl, z3⟩ := pe_iE hx1
        obtain ⟨dp, rfl, z2⟩ := pe_iE hx2
        obtain ⟨rfl, hj1⟩ := pe_rE hx3
        obtain ⟨sq, rfl, z1⟩ := pe_iE hx4
        obtain ⟨rfl, hj0⟩ := pe_rE hx5
        obtain ⟨e0, g1, ge⟩ := hw.2 a _ ht0
        unfold ev_c at ge
        dsimp only at ge
        rw [if_neg (by rw [hy0]; decide)] at ge
        obtain ⟨cA, f, rfl, g2, g3⟩ := ge
        obtain ⟨e1, q1, qe⟩ := hw.2 b _ ht1
        unfold ev_c at qe
        dsimp only at qe
        rw [if_neg (by rw [hy1]; decide)] at qe
        obtain ⟨cB, g, rfl, q2, q3⟩ := qe
        have c1 : sq.toNatClampNeg = 0 := by show sq.toInt.toNat = 0; omega
        have c2 : dp.toNatClampNeg = 0 := by show dp.toInt.toNat = 0; omega
        have c3 : nn.toNatClampNeg = z.toNat := by show nn.toInt.toNat = z.toNat; omega
        have hww : ∀ w ∈ ([.native arraycopyName, .static arraycopyName, .initialized "java/lang/System"] : List Cond), w ∈ en_ws := fun w hw => en_ws_in (en_ac_c w hw) (by
          rcases List.mem_cons.mp hw with rfl | hw
          · rfl
          · rcases List.mem_cons.mp hw with rfl | hw
            · rfl
            · rw [List.mem_singleton.mp hw]; rfl)
        refine va_copyi C.1 C.2.1 (C.2.2.1.trans h0.1.symm) C.2.2.2.1 (C.2.2.2.2.1 _ (en_ws_in (en_ac_in _ (List.mem_map.mpr ⟨(o, i), hf, rfl⟩)) rfl)) (C.2.2.2.2.1 _ (hww _ List.mem_cons_self)) (C.2.2.2.2.1 _ (hww _ (List.mem_cons_of_mem _ List.mem_cons_self))) (C.2.2.2.2.1 _ (hww _ (List.mem_cons_of_mem _ (List.mem_cons_of_mem _ List.mem_cons_self)))) C.2.2.2.2.2.1 hP hD hS a b t0.1 t1.1 g1 q1 (ty := .int) (by rw [g2, hy0]; rfl) (by rw [q2, hy1]; rfl) rfl
          (by rw [fa_lt]; show ¬ sq.toInt < 0; omega) (by rw [fa_lt]; show ¬ dp.toInt < 0; omega) (by rw [fa_lt]; show ¬ nn.toInt < 0; omega) (by omega) (by omega) (fun _ _ => rfl) (by rw [hR]; exact hfr) (by rw [pe_len hs5, hR]; show _ ≤ 100 * fr; omega) hd (fun H1 locs1 hP1 hD1 hS1 => ?_)
        have hc : ev_c tys tF.length ad (.inl t1) (.inl (cB, t1.2.1, .inl (va_cpy f g sq.toNatClampNeg dp.toNatClampNeg nn.toNatClampNeg))) := by
          unfold ev_c
          dsimp only
          rw [if_neg (by rw [hy1]; decide)]
          refine ⟨cB, _, rfl, q2, fun j hj => ?_⟩
          rw [c1, c2, c3]
          by_cases hjn : j < z.toNat
          · rw [pk_cpy_in (Nat.zero_le _) (by omega), ← hbb]
            exact g3 (0 + (j - 0)) (by omega)
          · rw [pk_cpy_out (Or.inr (by omega))]
            exact q3 j hj
        refine k H1 locs1 ls v5 _ ⟨h0, hl, hs5, ev_w_set hw ht1 hc, ?_, hP1, hD1, hS1⟩
        rw [c1, c2, c3, sg_cpy g1 q1 hn0 hn1, hσ]
      · cases hc
    · cases hc
  · cases hc
theorem px_s29 (k : px_go p l e R s m args below meth c Q D tys b0 nL ad pc (L.set a none) S σ) : px_go p l e R s m args below meth c Q D tys b0 nL ad pc L S σ := by
  intro H locs ls stk ws h
  obtain ⟨⟨z1, z2, z3⟩, hl, hr⟩ := h
  refine k H locs ls stk ws ⟨⟨z1, z2, by rw [List.length_set]; exact z3⟩, fun j b hj => ?_, hr⟩
  by_cases hja : j = a
  · subst hja
    by_cases hlt : j < L.length
    · rw [List.getElem?_set_self hlt] at hj
      cases hj
    · rw [List.getElem?_eq_none (by rw [List.length_set]; omega)] at hj
      cases hj
  · rw [List.getElem?_set_ne (Ne.symm hja)] at hj
    exact hl j b hj
end PX2
def xIx (b : Int32) : Int := if 105 = b then 0 else if 107 = b then 1 else if 99 = b then 2 else if 115 = b then 3 else if 110 = b then 4 else if 114 = b then 5 else if 119 = b then 6 else -1
def xCh (n : Nat) : Int32 := ((Int32.ofInt (n : Int)).toUInt32 % 65536).toInt32
set_option maxRecDepth 100000 in
theorem xIx_all : ∀ n : Fin 256, xIx (xCh n.val).toInt8.toInt32 = pIdx (n.val : Int) ∧ 0 ≤ (xCh n.val).toInt ∧ (xCh n.val).toInt ≤ 255 := by decide +kernel
theorem xIx_ok {u : Int32} {x : Int} (hu : u.toInt = x) (h0 : 0 ≤ x) (h1 : x ≤ 255) : xIx (u.toUInt32 % 65536).toInt32.toInt8.toInt32 = pIdx x ∧ 0 ≤ (u.toUInt32 % 65536).toInt32.toInt ∧ (u.toUInt32 % 65536).toInt32.toInt ≤ 255 := by
  have h := xIx_all ⟨x.toNat, by omega⟩
  have e : u = Int32.ofInt ((x.toNat : Nat) : Int) := by
    rw [show ((x.toNat : Nat) : Int) = u.toInt by omega, Int32.ofInt_toInt]
  have e2 : ((x.toNat : Nat) : Int) = x := by omega
  unfold xCh at h
  dsimp only at h
  rw [← e, e2] at h
  exact h
set_option maxHeartbeats 4000000 in
theorem ex_can (l : Launch) (b0 aK aV : Nat) (ch : Int32) (hch : 0 ≤ ch.toInt ∧ ch.toInt ≤ 255) : Met l yJ1_canEncode_9a6ad (Cond.code yJ1_canEncode_9a6ad cJ1_canEncode_9a6ad 1 (some .boolean) :: en_ws) ({ frames := 0, cells := 0, slots := 0, locals := 0 }) (va_Pc [.int ch] (fun U => b0 ≤ U.heap.size ∧ en_X b0 aK aV U)) (va_Qi (S := Unit) (fun r _ => r = 1) (fun _ _ => True) (fun q => b0 ≤ q)) 0 0 (fun q => b0 ≤ q) := by
  refine Met.ofW (cc := cJ1_canEncode_9a6ad) (maxL := 1) (ret := some .boolean) (by decide) rfl ?_
  intro p e s m args below meth c s₁ B hml hv
  obtain ⟨rfl, hsz, hX⟩ := hv
  have hx := B.exec
  have hb := B.bytes
  have hr := B.returns
  have hts0 := atoms_spec (ws := Cond.code yJ1_canEncode_9a6ad cJ1_canEncode_9a6ad 1 (some .boolean) :: en_ws) B.pre
  have hts : ∀ w ∈ en_ws, w.before #[.int ch] s = true := fun w hw => hts0 w (List.mem_cons_of_mem _ hw)
  have hown : s.vm.findClass "java/lang/StringLatin1" = some m.cls := findClass_of_methodNamed B.named
  have hlocks := B.notSynchronized
  have hS : va_S (fun q => b0 ≤ q) s.heap s.heap [] := va_S.rf
  have hl := lv_entry ([.int ch]) (n := 1) (Nat.le_of_ble_eq_true rfl)
  rw [lg_entry_eq]
  generalize (lg_sl ([.int ch]) ++ List.replicate (1 - (lg_sl ([.int ch])).length) Slot.unset).toArray = ls at hl ⊢
  have hE := hX.2.2.1.1 0 (by decide)
  have hl : lv_has ls 1 [(0, .int ch)] := hl
  refine lv_iload_n hx hb (by decide +kernel : decode cJ1_canEncode_9a6ad 0 = .ok (.iload_n 0, 1)) rfl (lv_at hl 0 rfl) ?_
  refine lv_if_lt (tgt := 15) hx hb (by decide +kernel : decode cJ1_canEncode_9a6ad 1 = .ok (.ifCond .lt 14, 3)) (by decide) (fun h => absurd h (by rw [fa_lt]; show ¬ ch.toInt < 0; omega)) (fun _ => ?_)
  refine lv_iload_n hx hb (by decide +kernel : decode cJ1_canEncode_9a6ad 4 = .ok (.iload_n 0, 1)) rfl (lv_at hl 0 rfl) ?_
  refine lv_sipush (v := 255) hx hb (by decide +kernel : decode cJ1_canEncode_9a6ad 5 = .ok (.sipush 255, 3)) (by decide) ?_
  refine lv_icmp_gt (tgt := 15) hx hb (by decide +kernel : decode cJ1_canEncode_9a6ad 8 = .ok (.if_icmp .gt 7, 3)) (by decide) (fun h => absurd h (by rw [fa_lt]; show ¬ 255 < ch.toInt; omega)) (fun _ => ?_)
  refine lv_iconst (v := 1) hx hb (by decide +kernel : decode cJ1_canEncode_9a6ad 11 = .ok (.iconst 1, 1)) (by decide) ?_
  refine lv_goto (tgt := 16) hx hb (by decide +kernel : decode cJ1_canEncode_9a6ad 12 = .ok (.goto 4, 3)) (by decide) ?_
  exact W.zret hx hb hr rfl (fun t ht _ => ⟨⟨1, (), rfl, rfl, trivial⟩, hS.F ht⟩) hS.2.2 (by decide +kernel : decode cJ1_canEncode_9a6ad 16 = .ok (.ireturn, 1))
set_option maxHeartbeats 4000000 in
theorem ex_chr (l : Launch) (b0 aK aV : Nat) (ch : Int32) : Met l yJ1_indexOfChar_4cfef (Cond.code yJ1_indexOfChar_4cfef cJ1_indexOfChar_4cfef 6 (some .int) :: en_ws) ({ frames := 0, cells := 0, slots := 0, locals := 0 }) (va_Pc [.ref aV, .int ch, .int 0, .int 7] (fun U => b0 ≤ U.heap.size ∧ en_X b0 aK aV U)) (va_Qi (S := Unit) (fun r _ => r.toInt = xIx ch.toInt8.toInt32) (fun _ _ => True) (fun q => b0 ≤ q)) 0 0 (fun q => b0 ≤ q) := by
  refine Met.ofW (cc := cJ1_indexOfChar_4cfef) (maxL := 6) (ret := some .int) (by decide) rfl ?_
  intro p e s m args below meth c s₁ B hml hv
  obtain ⟨rfl, hsz, hX⟩ := hv
  have hx := B.exec
  have hb := B.bytes
  have hr := B.returns
  have hts0 := atoms_spec (ws := Cond.code yJ1_indexOfChar_4cfef cJ1_indexOfChar_4cfef 6 (some .int) :: en_ws) B.pre
  have hts : ∀ w ∈ en_ws, w.before #[.ref aV, .int ch, .int 0, .int 7] s = true := fun w hw => hts0 w (List.mem_cons_of_mem _ hw)
  have hown : s.vm.findClass "java/lang/StringLatin1" = some m.cls := findClass_of_methodNamed B.named
  have hlocks := B.notSynchronized
  have hS : va_S (fun q => b0 ≤ q) s.heap s.heap [] := va_S.rf
  have hl := lv_entry ([.ref aV, .int ch, .int 0, .int 7]) (n := 6) (Nat.le_of_ble_eq_true rfl)
  rw [lg_entry_eq]
  generalize (lg_sl ([.ref aV, .int ch, .int 0, .int 7]) ++ List.replicate (6 - (lg_sl ([.ref aV, .int ch, .int 0, .int 7])).length) Slot.unset).toArray = ls at hl ⊢
  have hE := hX.2.2.1.1 0 (by decide)
  have hl : lv_has ls 6 [(0, .ref aV), (1, .int ch), (2, .int 0), (3, .int 7)] := hl
  refine lv_iload_n hx hb (by decide +kernel : decode cJ1_indexOfChar_4cfef 0 = .ok (.iload_n 1, 1)) rfl (lv_at hl 1 rfl) ?_
  refine lv_i2b hx hb (by decide +kernel : decode cJ1_indexOfChar_4cfef 1 = .ok (.i2b, 1)) rfl ?_
  refine lv_istore (lv' := [(4, .int ch.toInt8.toInt32), (0, .ref aV), (1, .int ch), (2, .int 0), (3, .int 7)]) hx hb (by decide +kernel : decode cJ1_indexOfChar_4cfef 2 = .ok (.istore 4, 2)) hl (by decide) rfl (fun ls hl => ?_)
  refine lv_iload_n hx hb (by decide +kernel : decode cJ1_indexOfChar_4cfef 4 = .ok (.iload_n 2, 1)) rfl (lv_at hl 3 rfl) ?_
  refine lv_istore (lv' := [(5, .int (nI 0)), (4, .int ch.toInt8.toInt32), (0, .ref aV), (1, .int ch), (2, .int 0), (3, .int 7)]) hx hb (by decide +kernel : decode cJ1_indexOfChar_4cfef 5 = .ok (.istore 5, 2)) hl (by decide) rfl (fun ls hl => ?_)
  have hl := lv_sub hl [0, 1, 2, 5] rfl
  generalize ch.toInt8.toInt32 = bb at hl ⊢
  refine lv_iload hx hb (by decide +kernel : decode cJ1_indexOfChar_4cfef 7 = .ok (.iload 5, 2)) (lv_at hl 0 rfl) ?_
  refine lv_iload_n hx hb (by decide +kernel : decode cJ1_indexOfChar_4cfef 9 = .ok (.iload_n 3, 1)) rfl (lv_at hl 3 rfl) ?_
  refine lv_icmp_ge (tgt := 31) hx hb (by decide +kernel : decode cJ1_indexOfChar_4cfef 10 = .ok (.if_icmp .ge 21, 3)) (by decide) (fun h => absurd h (nI_ge (a := 0) (b := 7) (by omega) (by decide))) (fun _ => ?_)
  refine lv_aload_n hx hb (by decide +kernel : decode cJ1_indexOfChar_4cfef 13 = .ok (.aload_n 0, 1)) rfl (lv_at hl 2 rfl) ?_
  refine lv_iload hx hb (by decide +kernel : decode cJ1_indexOfChar_4cfef 14 = .ok (.iload 5, 2)) (lv_at hl 0 rfl) ?_
  refine va_tb hx hb hE.2.2.2 hS (vp_in_nI (n := 0) (N := 7) (by decide) (by decide)) (v := .int 105) rfl (by decide +kernel : decode cJ1_indexOfChar_4cfef 16 = .ok (.baload, 1)) ?_
  refine lv_iload hx hb (by decide +kernel : decode cJ1_indexOfChar_4cfef 17 = .ok (.iload 4, 2)) (lv_at hl 1 rfl) ?_
  refine lv_icmp_ne (tgt := 25) hx hb (by decide +kernel : decode cJ1_indexOfChar_4cfef 19 = .ok (.if_icmp .ne 6, 3)) (by decide) (fun h0 => ?_) (fun h0 => ?_)
  rotate_left
  · refine lv_iload hx hb (by decide +kernel : decode cJ1_indexOfChar_4cfef 22 = .ok (.iload 5, 2)) (lv_at hl 0 rfl) ?_
    refine W.iret hx hb hr (fun t ht _ => ⟨⟨_, (), rfl, ?_, trivial⟩, hS.F ht⟩) hS.2.2 (by decide +kernel : decode cJ1_indexOfChar_4cfef 24 = .ok (.ireturn, 1))
    show (nI 0).toInt = xIx bb
    unfold xIx
    rw [if_pos h0]
    decide
  refine lv_iinc (v := nI 1) (k := 0) (lv' := [(5, .int (nI 1)), (4, .int bb), (0, .ref aV), (3, .int 7)]) hx hb (by decide +kernel : decode cJ1_indexOfChar_4cfef 25 = .ok (.iinc 5 1, 3)) hl rfl (by decide) (by decide) rfl (fun ls hl => ?_)
  refine lv_goto (tgt := 7) hx hb (by decide +kernel : decode cJ1_indexOfChar_4cfef 28 = .ok (.goto (-21), 3)) (by decide) ?_
  refine lv_iload hx hb (by decide +kernel : decode cJ1_indexOfChar_4cfef 7 = .ok (.iload 5, 2)) (lv_at hl 0 rfl) ?_
  refine lv_iload_n hx hb (by decide +kernel : decode cJ1_indexOfChar_4cfef 9 = .ok (.iload_n 3, 1)) rfl (lv_at hl 3 rfl) ?_
  refine lv_icmp_ge (tgt := 31) hx hb (by decide +kernel : decode cJ1_indexOfChar_4cfef 10 = .ok (.if_icmp .ge 21, 3)) (by decide) (fun h => absurd h (nI_ge (a := 1) (b := 7) (by omega) (by decide))) (fun _ => ?_)
  refine lv_aload_n hx hb (by decide +kernel : decode cJ1_indexOfChar_4cfef 13 = .ok (.aload_n 0, 1)) rfl (lv_at hl 2 rfl) ?_
  refine lv_iload hx hb (by decide +kernel : decode cJ1_indexOfChar_4cfef 14 = .ok (.iload 5, 2)) (lv_at hl 0 rfl) ?_
  refine va_tb hx hb hE.2.2.2 hS (vp_in_nI (n := 1) (N := 7) (by decide) (by decide)) (v := .int 107) rfl (by decide +kernel : decode cJ1_indexOfChar_4cfef 16 = .ok (.baload, 1)) ?_
  refine lv_iload hx hb (by decide +kernel : decode cJ1_indexOfChar_4cfef 17 = .ok (.iload 4, 2)) (lv_at hl 1 rfl) ?_
  refine lv_icmp_ne (tgt := 25) hx hb (by decide +kernel : decode cJ1_indexOfChar_4cfef 19 = .ok (.if_icmp .ne 6, 3)) (by decide) (fun h1 => ?_) (fun h1 => ?_)
  rotate_left
  · refine lv_iload hx hb (by decide +kernel : decode cJ1_indexOfChar_4cfef 22 = .ok (.iload 5, 2)) (lv_at hl 0 rfl) ?_
    refine W.iret hx hb hr (fun t ht _ => ⟨⟨_, (), rfl, ?_, trivial⟩, hS.F ht⟩) hS.2.2 (by decide +kernel : decode cJ1_indexOfChar_4cfef 24 = .ok (.ireturn, 1))
    show (nI 1).toInt = xIx bb
    unfold xIx
    rw [if_neg h0, if_pos h1]
    decide
  refine lv_iinc (v := nI 2) (k := 0) (lv' := [(5, .int (nI 2)), (4, .int bb), (0, .ref aV), (3, .int 7)]) hx hb (by decide +kernel : decode cJ1_indexOfChar_4cfef 25 = .ok (.iinc 5 1, 3)) hl rfl (by decide) (by decide) rfl (fun ls hl => ?_)
  refine lv_goto (tgt := 7) hx hb (by decide +kernel : decode cJ1_indexOfChar_4cfef 28 = .ok (.goto (-21), 3)) (by decide) ?_
  refine lv_iload hx hb (by decide +kernel : decode cJ1_indexOfChar_4cfef 7 = .ok (.iload 5, 2)) (lv_at hl 0 rfl) ?_
  refine lv_iload_n hx hb (by decide +kernel : decode cJ1_indexOfChar_4cfef 9 = .ok (.iload_n 3, 1)) rfl (lv_at hl 3 rfl) ?_
  refine lv_icmp_ge (tgt := 31) hx hb (by decide +kernel : decode cJ1_indexOfChar_4cfef 10 = .ok (.if_icmp .ge 21, 3)) (by decide) (fun h => absurd h (nI_ge (a := 2) (b := 7) (by omega) (by decide))) (fun _ => ?_)
  refine lv_aload_n hx hb (by decide +kernel : decode cJ1_indexOfChar_4cfef 13 = .ok (.aload_n 0, 1)) rfl (lv_at hl 2 rfl) ?_
  refine lv_iload hx hb (by decide +kernel : decode cJ1_indexOfChar_4cfef 14 = .ok (.iload 5, 2)) (lv_at hl 0 rfl) ?_
  refine va_tb hx hb hE.2.2.2 hS (vp_in_nI (n := 2) (N := 7) (by decide) (by decide)) (v := .int 99) rfl (by decide +kernel : decode cJ1_indexOfChar_4cfef 16 = .ok (.baload, 1)) ?_
  refine lv_iload hx hb (by decide +kernel : decode cJ1_indexOfChar_4cfef 17 = .ok (.iload 4, 2)) (lv_at hl 1 rfl) ?_
  refine lv_icmp_ne (tgt := 25) hx hb (by decide +kernel : decode cJ1_indexOfChar_4cfef 19 = .ok (.if_icmp .ne 6, 3)) (by decide) (fun h2 => ?_) (fun h2 => ?_)
  rotate_left
  · refine lv_iload hx hb (by decide +kernel : decode cJ1_indexOfChar_4cfef 22 = .ok (.iload 5, 2)) (lv_at hl 0 rfl) ?_
    refine W.iret hx hb hr (fun t ht _ => ⟨⟨_, (), rfl, ?_, trivial⟩, hS.F ht⟩) hS.2.2 (by decide +kernel : decode cJ1_indexOfChar_4cfef 24 = .ok (.ireturn, 1))
    show (nI 2).toInt = xIx bb
    unfold xIx
    rw [if_neg h0, if_neg h1, if_pos h2]
    decide
  refine lv_iinc (v := nI 3) (k := 0) (lv' := [(5, .int (nI 3)), (4, .int bb), (0, .ref aV), (3, .int 7)]) hx hb (by decide +kernel : decode cJ1_indexOfChar_4cfef 25 = .ok (.iinc 5 1, 3)) hl rfl (by decide) (by decide) rfl (fun ls hl => ?_)
  refine lv_goto (tgt := 7) hx hb (by decide +kernel : decode cJ1_indexOfChar_4cfef 28 = .ok (.goto (-21), 3)) (by decide) ?_
  refine lv_iload hx hb (by decide +kernel : decode cJ1_indexOfChar_4cfef 7 = .ok (.iload 5, 2)) (lv_at hl 0 rfl) ?_
  refine lv_iload_n hx hb (by decide +kernel : decode cJ1_indexOfChar_4cfef 9 = .ok (.iload_n 3, 1)) rfl (lv_at hl 3 rfl) ?_
  refine lv_icmp_ge (tgt := 31) hx hb (by decide +kernel : decode cJ1_indexOfChar_4cfef 10 = .ok (.if_icmp .ge 21, 3)) (by decide) (fun h => absurd h (nI_ge (a := 3) (b := 7) (by omega) (by decide))) (fun _ => ?_)
  refine lv_aload_n hx hb (by decide +kernel : decode cJ1_indexOfChar_4cfef 13 = .ok (.aload_n 0, 1)) rfl (lv_at hl 2 rfl) ?_
  refine lv_iload hx hb (by decide +kernel : decode cJ1_indexOfChar_4cfef 14 = .ok (.iload 5, 2)) (lv_at hl 0 rfl) ?_
  refine va_tb hx hb hE.2.2.2 hS (vp_in_nI (n := 3) (N := 7) (by decide) (by decide)) (v := .int 115) rfl (by decide +kernel : decode cJ1_indexOfChar_4cfef 16 = .ok (.baload, 1)) ?_
  refine lv_iload hx hb (by decide +kernel : decode cJ1_indexOfChar_4cfef 17 = .ok (.iload 4, 2)) (lv_at hl 1 rfl) ?_
  refine lv_icmp_ne (tgt := 25) hx hb (by decide +kernel : decode cJ1_indexOfChar_4cfef 19 = .ok (.if_icmp .ne 6, 3)) (by decide) (fun h3 => ?_) (fun h3 => ?_)
  rotate_left
  · refine lv_iload hx hb (by decide +kernel : decode cJ1_indexOfChar_4cfef 22 = .ok (.iload 5, 2)) (lv_at hl 0 rfl) ?_
    refine W.iret hx hb hr (fun t ht _ => ⟨⟨_, (), rfl, ?_, trivial⟩, hS.F ht⟩) hS.2.2 (by decide +kernel : decode cJ1_indexOfChar_4cfef 24 = .ok (.ireturn, 1))
    show (nI 3).toInt = xIx bb
    unfold xIx
    rw [if_neg h0, if_neg h1, if_neg h2, if_pos h3]
    decide
  refine lv_iinc (v := nI 4) (k := 0) (lv' := [(5, .int (nI 4)), (4, .int bb), (0, .ref aV), (3, .int 7)]) hx hb (by decide +kernel : decode cJ1_indexOfChar_4cfef 25 = .ok (.iinc 5 1, 3)) hl rfl (by decide) (by decide) rfl (fun ls hl => ?_)
  refine lv_goto (tgt := 7) hx hb (by decide +kernel : decode cJ1_indexOfChar_4cfef 28 = .ok (.goto (-21), 3)) (by decide) ?_
  refine lv_iload hx hb (by decide +kernel : decode cJ1_indexOfChar_4cfef 7 = .ok (.iload 5, 2)) (lv_at hl 0 rfl) ?_
  refine lv_iload_n hx hb (by decide +kernel : decode cJ1_indexOfChar_4cfef 9 = .ok (.iload_n 3, 1)) rfl (lv_at hl 3 rfl) ?_
  refine lv_icmp_ge (tgt := 31) hx hb (by decide +kernel : decode cJ1_indexOfChar_4cfef 10 = .ok (.if_icmp .ge 21, 3)) (by decide) (fun h => absurd h (nI_ge (a := 4) (b := 7) (by omega) (by decide))) (fun _ => ?_)
  refine lv_aload_n hx hb (by decide +kernel : decode cJ1_indexOfChar_4cfef 13 = .ok (.aload_n 0, 1)) rfl (lv_at hl 2 rfl) ?_
  refine lv_iload hx hb (by decide +kernel : decode cJ1_indexOfChar_4cfef 14 = .ok (.iload 5, 2)) (lv_at hl 0 rfl) ?_
  refine va_tb hx hb hE.2.2.2 hS (vp_in_nI (n := 4) (N := 7) (by decide) (by decide)) (v := .int 110) rfl (by decide +kernel : decode cJ1_indexOfChar_4cfef 16 = .ok (.baload, 1)) ?_
  refine lv_iload hx hb (by decide +kernel : decode cJ1_indexOfChar_4cfef 17 = .ok (.iload 4, 2)) (lv_at hl 1 rfl) ?_
  refine lv_icmp_ne (tgt := 25) hx hb (by decide +kernel : decode cJ1_indexOfChar_4cfef 19 = .ok (.if_icmp .ne 6, 3)) (by decide) (fun h4 => ?_) (fun h4 => ?_)
  rotate_left
  · refine lv_iload hx hb (by decide +kernel : decode cJ1_indexOfChar_4cfef 22 = .ok (.iload 5, 2)) (lv_at hl 0 rfl) ?_
    refine W.iret hx hb hr (fun t ht _ => ⟨⟨_, (), rfl, ?_, trivial⟩, hS.F ht⟩) hS.2.2 (by decide +kernel : decode cJ1_indexOfChar_4cfef 24 = .ok (.ireturn, 1))
    show (nI 4).toInt = xIx bb
    unfold xIx
    rw [if_neg h0, if_neg h1, if_neg h2, if_neg h3, if_pos h4]
    decide
  refine lv_iinc (v := nI 5) (k := 0) (lv' := [(5, .int (nI 5)), (4, .int bb), (0, .ref aV), (3, .int 7)]) hx hb (by decide +kernel : decode cJ1_indexOfChar_4cfef 25 = .ok (.iinc 5 1, 3)) hl rfl (by decide) (by decide) rfl (fun ls hl => ?_)
  refine lv_goto (tgt := 7) hx hb (by decide +kernel : decode cJ1_indexOfChar_4cfef 28 = .ok (.goto (-21), 3)) (by decide) ?_
  refine lv_iload hx hb (by decide +kernel : decode cJ1_indexOfChar_4cfef 7 = .ok (.iload 5, 2)) (lv_at hl 0 rfl) ?_
  refine lv_iload_n hx hb (by decide +kernel : decode cJ1_indexOfChar_4cfef 9 = .ok (.iload_n 3, 1)) rfl (lv_at hl 3 rfl) ?_
  refine lv_icmp_ge (tgt := 31) hx hb (by decide +kernel : decode cJ1_indexOfChar_4cfef 10 = .ok (.if_icmp .ge 21, 3)) (by decide) (fun h => absurd h (nI_ge (a := 5) (b := 7) (by omega) (by decide))) (fun _ => ?_)
  refine lv_aload_n hx hb (by decide +kernel : decode cJ1_indexOfChar_4cfef 13 = .ok (.aload_n 0, 1)) rfl (lv_at hl 2 rfl) ?_
  refine lv_iload hx hb (by decide +kernel : decode cJ1_indexOfChar_4cfef 14 = .ok (.iload 5, 2)) (lv_at hl 0 rfl) ?_
  refine va_tb hx hb hE.2.2.2 hS (vp_in_nI (n := 5) (N := 7) (by decide) (by decide)) (v := .int 114) rfl (by decide +kernel : decode cJ1_indexOfChar_4cfef 16 = .ok (.baload, 1)) ?_
  refine lv_iload hx hb (by decide +kernel : decode cJ1_indexOfChar_4cfef 17 = .ok (.iload 4, 2)) (lv_at hl 1 rfl) ?_
  refine lv_icmp_ne (tgt := 25) hx hb (by decide +kernel : decode cJ1_indexOfChar_4cfef 19 = .ok (.if_icmp .ne 6, 3)) (by decide) (fun h5 => ?_) (fun h5 => ?_)
  rotate_left
  · refine lv_iload hx hb (by decide +kernel : decode cJ1_indexOfChar_4cfef 22 = .ok (.iload 5, 2)) (lv_at hl 0 rfl) ?_
    refine W.iret hx hb hr (fun t ht _ => ⟨⟨_, (), rfl, ?_, trivial⟩, hS.F ht⟩) hS.2.2 (by decide +kernel : decode cJ1_indexOfChar_4cfef 24 = .ok (.ireturn, 1))
    show (nI 5).toInt = xIx bb
    unfold xIx
    rw [if_neg h0, if_neg h1, if_neg h2, if_neg h3, if_neg h4, if_pos h5]
    decide
  refine lv_iinc (v := nI 6) (k := 0) (lv' := [(5, .int (nI 6)), (4, .int bb), (0, .ref aV), (3, .int 7)]) hx hb (by decide +kernel : decode cJ1_indexOfChar_4cfef 25 = .ok (.iinc 5 1, 3)) hl rfl (by decide) (by decide) rfl (fun ls hl => ?_)
  refine lv_goto (tgt := 7) hx hb (by decide +kernel : decode cJ1_indexOfChar_4cfef 28 = .ok (.goto (-21), 3)) (by decide) ?_
  refine lv_iload hx hb (by decide +kernel : decode cJ1_indexOfChar_4cfef 7 = .ok (.iload 5, 2)) (lv_at hl 0 rfl) ?_
  refine lv_iload_n hx hb (by decide +kernel : decode cJ1_indexOfChar_4cfef 9 = .ok (.iload_n 3, 1)) rfl (lv_at hl 3 rfl) ?_
  refine lv_icmp_ge (tgt := 31) hx hb (by decide +kernel : decode cJ1_indexOfChar_4cfef 10 = .ok (.if_icmp .ge 21, 3)) (by decide) (fun h => absurd h (nI_ge (a := 6) (b := 7) (by omega) (by decide))) (fun _ => ?_)
  refine lv_aload_n hx hb (by decide +kernel : decode cJ1_indexOfChar_4cfef 13 = .ok (.aload_n 0, 1)) rfl (lv_at hl 2 rfl) ?_
  refine lv_iload hx hb (by decide +kernel : decode cJ1_indexOfChar_4cfef 14 = .ok (.iload 5, 2)) (lv_at hl 0 rfl) ?_
  refine va_tb hx hb hE.2.2.2 hS (vp_in_nI (n := 6) (N := 7) (by decide) (by decide)) (v := .int 119) rfl (by decide +kernel : decode cJ1_indexOfChar_4cfef 16 = .ok (.baload, 1)) ?_
  refine lv_iload hx hb (by decide +kernel : decode cJ1_indexOfChar_4cfef 17 = .ok (.iload 4, 2)) (lv_at hl 1 rfl) ?_
  refine lv_icmp_ne (tgt := 25) hx hb (by decide +kernel : decode cJ1_indexOfChar_4cfef 19 = .ok (.if_icmp .ne 6, 3)) (by decide) (fun h6 => ?_) (fun h6 => ?_)
  rotate_left
  · refine lv_iload hx hb (by decide +kernel : decode cJ1_indexOfChar_4cfef 22 = .ok (.iload 5, 2)) (lv_at hl 0 rfl) ?_
    refine W.iret hx hb hr (fun t ht _ => ⟨⟨_, (), rfl, ?_, trivial⟩, hS.F ht⟩) hS.2.2 (by decide +kernel : decode cJ1_indexOfChar_4cfef 24 = .ok (.ireturn, 1))
    show (nI 6).toInt = xIx bb
    unfold xIx
    rw [if_neg h0, if_neg h1, if_neg h2, if_neg h3, if_neg h4, if_neg h5, if_pos h6]
    decide
  refine lv_iinc (v := nI 7) (k := 0) (lv' := [(5, .int (nI 7)), (4, .int bb), (0, .ref aV), (3, .int 7)]) hx hb (by decide +kernel : decode cJ1_indexOfChar_4cfef 25 = .ok (.iinc 5 1, 3)) hl rfl (by decide) (by decide) rfl (fun ls hl => ?_)
  refine lv_goto (tgt := 7) hx hb (by decide +kernel : decode cJ1_indexOfChar_4cfef 28 = .ok (.goto (-21), 3)) (by decide) ?_
  refine lv_iload hx hb (by decide +kernel : decode cJ1_indexOfChar_4cfef 7 = .ok (.iload 5, 2)) (lv_at hl 0 rfl) ?_
  refine lv_iload_n hx hb (by decide +kernel : decode cJ1_indexOfChar_4cfef 9 = .ok (.iload_n 3, 1)) rfl (lv_at hl 3 rfl) ?_
  refine lv_icmp_ge (tgt := 31) hx hb (by decide +kernel : decode cJ1_indexOfChar_4cfef 10 = .ok (.if_icmp .ge 21, 3)) (by decide) (fun _ => ?_) (fun h => absurd (by decide) h)
  refine lv_iconst (v := -1) hx hb (by decide +kernel : decode cJ1_indexOfChar_4cfef 31 = .ok (.iconst (-1), 1)) (by decide) ?_
  refine W.iret hx hb hr (fun t ht _ => ⟨⟨-1, (), rfl, ?_, trivial⟩, hS.F ht⟩) hS.2.2 (by decide +kernel : decode cJ1_indexOfChar_4cfef 32 = .ok (.ireturn, 1))
  unfold xIx
  rw [if_neg h0, if_neg h1, if_neg h2, if_neg h3, if_neg h4, if_neg h5, if_neg h6]
  decide
set_option maxHeartbeats 4000000 in
theorem ex_lix (l : Launch) (b0 aK aV : Nat) (ch : Int32) (hch : 0 ≤ ch.toInt ∧ ch.toInt ≤ 255) : Met l yJ1_indexOf_4cfef (Cond.code yJ1_indexOf_4cfef cJ1_indexOf_4cfef 4 (some .int) :: en_ws) ({ frames := 1, cells := 0, slots := 0, locals := 40 }) (va_Pc [.ref aV, .int ch, .int 0, .int 7] (fun U => b0 ≤ U.heap.size ∧ en_X b0 aK aV U)) (va_Qi (S := Unit) (fun r _ => r.toInt = xIx ch.toInt8.toInt32) (fun _ _ => True) (fun q => b0 ≤ q)) 0 0 (fun q => b0 ≤ q) := by
  refine Met.ofW (cc := cJ1_indexOf_4cfef) (maxL := 4) (ret := some .int) (by decide) rfl ?_
  intro p e s m args below meth c s₁ B hml hv
  obtain ⟨rfl, hsz, hX⟩ := hv
  have hx := B.exec
  have hb := B.bytes
  have hr := B.returns
  have hts0 := atoms_spec (ws := Cond.code yJ1_indexOf_4cfef cJ1_indexOf_4cfef 4 (some .int) :: en_ws) B.pre
  have hts : ∀ w ∈ en_ws, w.before #[.ref aV, .int ch, .int 0, .int 7] s = true := fun w hw => hts0 w (List.mem_cons_of_mem _ hw)
  have hown : s.vm.findClass "java/lang/StringLatin1" = some m.cls := findClass_of_methodNamed B.named
  have hlocks := B.notSynchronized
  have hS : va_S (fun q => b0 ≤ q) s.heap s.heap [] := va_S.rf
  have hl := lv_entry ([.ref aV, .int ch, .int 0, .int 7]) (n := 4) (Nat.le_of_ble_eq_true rfl)
  rw [lg_entry_eq]
  generalize (lg_sl ([.ref aV, .int ch, .int 0, .int 7]) ++ List.replicate (4 - (lg_sl ([.ref aV, .int ch, .int 0, .int 7])).length) Slot.unset).toArray = ls at hl ⊢
  have hE := hX.2.2.1.1 0 (by decide)
  have hl : lv_has ls 4 [(0, .ref aV), (1, .int ch), (2, .int 0), (3, .int 7)] := hl
  refine lv_iload_n hx hb (by decide +kernel : decode cJ1_indexOf_4cfef 0 = .ok (.iload_n 1, 1)) rfl (lv_at hl 1 rfl) ?_
  have hB1 := callB_of (own := "java/lang/StringLatin1") (index := 88) (R := { frames := 1, cells := 0, slots := 0, locals := 40 }) (rm := { frames := 0, cells := 0, slots := 0, locals := 0 }) (mc := 0) (ms := 0) 1 hts (en_consG en_c_can) rfl rfl rfl (hts _ (en_sq 1 rfl)) (hts _ (en_sq 8 rfl)) (by decide +kernel) ⟨by decide, by decide⟩
  refine va_calli (a := #[.int ch]) (va_runS (As := [.int ch]) (rest := []) ⟨hx, hb, hml, hown, hts⟩ (ex_can l b0 aK aV ch hch) ⟨hB1, (hts _ (en_sq 21 rfl))⟩ ⟨fun a U g mk q => ⟨q.1, q.2.1, q.2.2.call⟩, fun U hU hW => ⟨rfl, by rw [hU]; exact hsz, hX.go (Nat.le_refl _) hS hU hW⟩⟩ rfl rfl hl.1 rfl (lv_room (Nat.le_of_ble_eq_true rfl)) (by decide +kernel : decode cJ1_indexOf_4cfef 1 = .ok (.invokestatic 88, 3)) ⟨by decide, by decide⟩) hS (fun q _ h => h) (fun q h => h) (fun r u t H1 locs1 ht hvm hpost hB hsz1 hfr hS => ?_)
  subst hpost
  have hT := hE.2.2.2
  refine lv_if_ne (tgt := 9) hx hb (by decide +kernel : decode cJ1_indexOf_4cfef 4 = .ok (.ifCond .ne 5, 3)) (by decide) (fun _ => ?_) (fun h => absurd h (by decide))
  · refine lv_iload_n hx hb (by decide +kernel : decode cJ1_indexOf_4cfef 9 = .ok (.iload_n 2, 1)) rfl (lv_at hl 2 rfl) ?_
    refine lv_iconst (v := 0) hx hb (by decide +kernel : decode cJ1_indexOf_4cfef 10 = .ok (.iconst 0, 1)) (by decide) ?_
    refine va_mmax hx hb (hml.trans hl.1.symm) hown (hts _ (en_sq 23 rfl)) (hts _ (en_sq 25 rfl)) (hts _ (en_sq 27 rfl)) (hts _ (en_codeW en_mt_30)) (by decide) (by decide) (Nat.zero_le _) (Nat.zero_le _) (by decide +kernel : decode cJ1_indexOf_4cfef 11 = .ok (.invokestatic 92, 3)) ?_
    rw [if_neg (by decide)]
    refine lv_istore_n (lv' := [(2, .int 0), (0, .ref aV), (1, .int ch), (3, .int 7)]) hx hb (by decide +kernel : decode cJ1_indexOf_4cfef 14 = .ok (.istore_n 2, 1)) rfl hl (by decide) rfl (fun ls hl => ?_)
    refine lv_iload_n hx hb (by decide +kernel : decode cJ1_indexOf_4cfef 15 = .ok (.iload_n 3, 1)) rfl (lv_at hl 3 rfl) ?_
    refine lv_aload_n hx hb (by decide +kernel : decode cJ1_indexOf_4cfef 16 = .ok (.aload_n 0, 1)) rfl (lv_at hl 1 rfl) ?_
    refine va_tlen hx hb hT hS (v := 7) rfl (by decide +kernel : decode cJ1_indexOf_4cfef 17 = .ok (.arraylength, 1)) ?_
    refine va_mmin hx hb (hml.trans hl.1.symm) hown (hts _ (en_sq 24 rfl)) (hts _ (en_sq 26 rfl)) (hts _ (en_sq 27 rfl)) (hts _ (en_codeW en_mt_16)) (by decide) (by decide) (Nat.zero_le _) (Nat.zero_le _) (by decide +kernel : decode cJ1_indexOf_4cfef 18 = .ok (.invokestatic 38, 3)) ?_
    rw [if_neg (by decide)]
    refine lv_istore_n (lv' := [(3, .int 7), (2, .int 0), (0, .ref aV), (1, .int ch)]) hx hb (by decide +kernel : decode cJ1_indexOf_4cfef 21 = .ok (.istore_n 3, 1)) rfl hl (by decide) rfl (fun ls hl => ?_)
    refine lv_iload_n hx hb (by decide +kernel : decode cJ1_indexOf_4cfef 22 = .ok (.iload_n 2, 1)) rfl (lv_at hl 1 rfl) ?_
    refine lv_iload_n hx hb (by decide +kernel : decode cJ1_indexOf_4cfef 23 = .ok (.iload_n 3, 1)) rfl (lv_at hl 0 rfl) ?_
    refine lv_icmp_lt (tgt := 29) hx hb (by decide +kernel : decode cJ1_indexOf_4cfef 24 = .ok (.if_icmp .lt 5, 3)) (by decide) (fun _ => ?_) (fun h => absurd (by decide) h)
    refine lv_aload_n hx hb (by decide +kernel : decode cJ1_indexOf_4cfef 29 = .ok (.aload_n 0, 1)) rfl (lv_at hl 2 rfl) ?_
    refine lv_iload_n hx hb (by decide +kernel : decode cJ1_indexOf_4cfef 30 = .ok (.iload_n 1, 1)) rfl (lv_at hl 3 rfl) ?_
    refine lv_iload_n hx hb (by decide +kernel : decode cJ1_indexOf_4cfef 31 = .ok (.iload_n 2, 1)) rfl (lv_at hl 1 rfl) ?_
    refine lv_iload_n hx hb (by decide +kernel : decode cJ1_indexOf_4cfef 32 = .ok (.iload_n 3, 1)) rfl (lv_at hl 0 rfl) ?_
    have hB33 := callB_of (own := "java/lang/StringLatin1") (index := 95) (R := { frames := 1, cells := 0, slots := 0, locals := 40 }) (rm := { frames := 0, cells := 0, slots := 0, locals := 0 }) (mc := 0) (ms := 0) 4 hts (en_consG en_c_chr) rfl rfl rfl (hts _ (en_sq 1 rfl)) (hts _ (en_sq 9 rfl)) (by decide +kernel) ⟨by decide, by decide⟩
    refine va_calli (a := #[.ref aV, .int ch, .int 0, .int 7]) (va_runS (As := [.ref aV, .int ch, .int 0, .int 7]) (rest := []) ⟨hx, hb, hml, hown, hts⟩ (ex_chr l b0 aK aV ch) ⟨hB33, (hts _ (en_sq 22 rfl))⟩ ⟨fun a U g mk q => ⟨q.1, q.2.1, q.2.2.call⟩, fun U hU hW => ⟨rfl, by rw [hU]; exact Nat.le_trans hsz hS.1, hX.go (Nat.le_refl _) hS hU hW⟩⟩ rfl rfl hl.1 rfl (lv_room (Nat.le_of_ble_eq_true rfl)) (by decide +kernel : decode cJ1_indexOf_4cfef 33 = .ok (.invokestatic 95, 3)) ⟨by decide, by decide⟩) hS (fun q _ h => h) (fun q h => h) (fun r u t H1 locs1 ht hvm hpost hB hsz1 hfr hS => ?_)
    exact W.iret hx hb hr (fun t ht _ => ⟨⟨r, (), rfl, hpost, trivial⟩, hS.F ht⟩) hS.2.2 (by decide +kernel : decode cJ1_indexOf_4cfef 36 = .ok (.ireturn, 1))
set_option maxHeartbeats 4000000 in
theorem ex_ix2 (l : Launch) (b0 aK aV : Nat) (ch : Int32) (hch : 0 ≤ ch.toInt ∧ ch.toInt ≤ 255) : Met l yJ0_indexOf_7cf53 (Cond.code yJ0_indexOf_7cf53 cJ0_indexOf_7cf53 3 (some .int) :: en_ws) ({ frames := 2, cells := 0, slots := 0, locals := 80 }) (va_Pc [.ref aK, .int ch, .int 0] (fun U => b0 ≤ U.heap.size ∧ en_X b0 aK aV U)) (va_Qi (S := Unit) (fun r _ => r.toInt = xIx ch.toInt8.toInt32) (fun _ _ => True) (fun q => b0 ≤ q)) 0 0 (fun q => b0 ≤ q) := by
  refine Met.ofW (cc := cJ0_indexOf_7cf53) (maxL := 3) (ret := some .int) (by decide) rfl ?_
  intro p e s m args below meth c s₁ B hml hv
  obtain ⟨rfl, hsz, hX⟩ := hv
  have hx := B.exec
  have hb := B.bytes
  have hr := B.returns
  have hts0 := atoms_spec (ws := Cond.code yJ0_indexOf_7cf53 cJ0_indexOf_7cf53 3 (some .int) :: en_ws) B.pre
  have hts : ∀ w ∈ en_ws, w.before #[.ref aK, .int ch, .int 0] s = true := fun w hw => hts0 w (List.mem_cons_of_mem _ hw)
  have hown : s.vm.findClass "java/lang/String" = some m.cls := findClass_of_methodNamed B.named
  have hlocks := B.notSynchronized
  have hS : va_S (fun q => b0 ≤ q) s.heap s.heap [] := va_S.rf
  have hl := lv_entry ([.ref aK, .int ch, .int 0]) (n := 3) (Nat.le_of_ble_eq_true rfl)
  rw [lg_entry_eq]
  generalize (lg_sl ([.ref aK, .int ch, .int 0]) ++ List.replicate (3 - (lg_sl ([.ref aK, .int ch, .int 0])).length) Slot.unset).toArray = ls at hl ⊢
  have hE := hX.2.2.1.1 0 (by decide)
  have hl : lv_has ls 3 [(0, .ref aK), (1, .int ch), (2, .int 0)] := hl
  refine lv_aload_n hx hb (by decide +kernel : decode cJ0_indexOf_7cf53 0 = .ok (.aload_n 0, 1)) rfl (lv_at hl 0 rfl) ?_
  have hB1 := callB_of (own := "java/lang/String") (index := 492) (R := { frames := 2, cells := 0, slots := 0, locals := 80 }) (rm := { frames := 0, cells := 0, slots := 0, locals := 0 }) (mc := 0) (ms := 0) 0 hts (en_consG en_c_lat) rfl rfl rfl (hts _ (en_sq 0 rfl)) (hts _ (en_sq 4 rfl)) (by decide +kernel) ⟨by decide, by decide⟩
  refine va_calli (a := #[Value.ref aK]) (va_runV (C := "java/lang/String") (As := []) (rest := []) ⟨hx, hb, hml, hown, hts⟩ (en_lat l b0 aK aV) ⟨hB1, (hts _ (en_sq 14 rfl)), (hts _ (en_sq 15 rfl))⟩ ⟨fun a U g mk q => ⟨q.1, q.2.1, q.2.2.call⟩, vk_recv (i := 0) hX.2.2.1 Nat.zero_lt_one hS, fun U hU hW => ⟨rfl, by rw [hU]; exact hsz, hX.go (Nat.le_refl _) hS hU hW⟩⟩ rfl rfl hl.1 rfl (lv_room (Nat.le_of_ble_eq_true rfl)) (by decide +kernel : decode cJ0_indexOf_7cf53 1 = .ok (.invokevirtual 492, 3)) ⟨by decide, by decide⟩) hS (fun q _ h => h) (fun q h => h) (fun r u t H1 locs1 ht hvm hpost hB hsz1 hfr hS => ?_)
  subst hpost
  refine lv_if_eq (tgt := 23) hx hb (by decide +kernel : decode cJ0_indexOf_7cf53 4 = .ok (.ifCond .eq 19, 3)) (by decide) (fun h => absurd h (by decide)) (fun _ => ?_)
  refine lv_aload_n hx hb (by decide +kernel : decode cJ0_indexOf_7cf53 7 = .ok (.aload_n 0, 1)) rfl (lv_at hl 0 rfl) ?_
  refine vk_getf hx hb hE.2.2.1 hS hown (hts _ (en_sq 29 rfl)) (fun x h => h) (by decide +kernel : decode cJ0_indexOf_7cf53 8 = .ok (.getfield 9, 3)) ?_
  refine lv_iload_n hx hb (by decide +kernel : decode cJ0_indexOf_7cf53 11 = .ok (.iload_n 1, 1)) rfl (lv_at hl 1 rfl) ?_
  refine lv_iload_n hx hb (by decide +kernel : decode cJ0_indexOf_7cf53 12 = .ok (.iload_n 2, 1)) rfl (lv_at hl 2 rfl) ?_
  refine lv_aload_n hx hb (by decide +kernel : decode cJ0_indexOf_7cf53 13 = .ok (.aload_n 0, 1)) rfl (lv_at hl 0 rfl) ?_
  have hB14 := callB_of (own := "java/lang/String") (index := 505) (R := { frames := 2, cells := 0, slots := 0, locals := 80 }) (rm := { frames := 1, cells := 0, slots := 0, locals := 20 }) (mc := 0) (ms := 0) 0 hts (en_consG en_c_len) rfl rfl rfl (hts _ (en_sq 0 rfl)) (hts _ (en_sq 5 rfl)) (by decide +kernel) ⟨by decide, by decide⟩
  refine va_calli (a := #[Value.ref aK]) (va_runV (C := "java/lang/String") (As := []) (rest := [.int 0, .int ch, .ref aV]) ⟨hx, hb, hml, hown, hts⟩ (en_slen l b0 aK aV) ⟨hB14, (hts _ (en_sq 16 rfl)), (hts _ (en_sq 17 rfl))⟩ ⟨fun a U g mk q => ⟨q.1, q.2.1, q.2.2.call⟩, vk_recv (i := 0) hX.2.2.1 Nat.zero_lt_one hS, fun U hU hW => ⟨rfl, by rw [hU]; exact Nat.le_trans hsz hS.1, hX.go (Nat.le_refl _) hS hU hW⟩⟩ rfl rfl hl.1 rfl (lv_room (Nat.le_of_ble_eq_true rfl)) (by decide +kernel : decode cJ0_indexOf_7cf53 14 = .ok (.invokevirtual 505, 3)) ⟨by decide, by decide⟩) hS (fun q _ h => h) (fun q h => h) (fun r u t H1 locs1 ht hvm hpost hB hsz1 hfr hS => ?_)
  subst hpost
  have hB17 := callB_of (own := "java/lang/String") (index := 637) (R := { frames := 2, cells := 0, slots := 0, locals := 80 }) (rm := { frames := 1, cells := 0, slots := 0, locals := 40 }) (mc := 0) (ms := 0) 4 hts (en_consG en_c_lix) rfl rfl rfl (hts _ (en_sq 1 rfl)) (hts _ (en_sq 7 rfl)) (by decide +kernel) ⟨by decide, by decide⟩
  refine va_calli (a := #[.ref aV, .int ch, .int 0, .int 7]) (va_runS (As := [.ref aV, .int ch, .int 0, .int 7]) (rest := []) ⟨hx, hb, hml, hown, hts⟩ (ex_lix l b0 aK aV ch hch) ⟨hB17, (hts _ (en_sq 20 rfl))⟩ ⟨fun a U g mk q => ⟨q.1, q.2.1, q.2.2.call⟩, fun U hU hW => ⟨rfl, by rw [hU]; exact Nat.le_trans hsz hS.1, hX.go (Nat.le_refl _) hS hU hW⟩⟩ rfl rfl hl.1 rfl (lv_room (Nat.le_of_ble_eq_true rfl)) (by decide +kernel : decode cJ0_indexOf_7cf53 17 = .ok (.invokestatic 637, 3)) ⟨by decide, by decide⟩) hS (fun q _ h => h) (fun q h => h) (fun r u t H1 locs1 ht hvm hpost hB hsz1 hfr hS => ?_)
  refine lv_goto (tgt := 36) hx hb (by decide +kernel : decode cJ0_indexOf_7cf53 20 = .ok (.goto 16, 3)) (by decide) ?_
  exact W.iret hx hb hr (fun t ht _ => ⟨⟨r, (), rfl, hpost, trivial⟩, hS.F ht⟩) hS.2.2 (by decide +kernel : decode cJ0_indexOf_7cf53 36 = .ok (.ireturn, 1))
set_option maxHeartbeats 4000000 in
theorem ex_ix1 (l : Launch) (b0 aK aV : Nat) (ch : Int32) (hch : 0 ≤ ch.toInt ∧ ch.toInt ≤ 255) : Met l yJ0_indexOf_0f7a4 (Cond.code yJ0_indexOf_0f7a4 cJ0_indexOf_0f7a4 2 (some .int) :: en_ws) ({ frames := 3, cells := 0, slots := 0, locals := 110 }) (va_Pc [.ref aK, .int ch] (fun U => b0 ≤ U.heap.size ∧ en_X b0 aK aV U)) (va_Qi (S := Unit) (fun r _ => r.toInt = xIx ch.toInt8.toInt32) (fun _ _ => True) (fun q => b0 ≤ q)) 0 0 (fun q => b0 ≤ q) := by
  refine Met.ofW (cc := cJ0_indexOf_0f7a4) (maxL := 2) (ret := some .int) (by decide) rfl ?_
  intro p e s m args below meth c s₁ B hml hv
  obtain ⟨rfl, hsz, hX⟩ := hv
  have hx := B.exec
  have hb := B.bytes
  have hr := B.returns
  have hts0 := atoms_spec (ws := Cond.code yJ0_indexOf_0f7a4 cJ0_indexOf_0f7a4 2 (some .int) :: en_ws) B.pre
  have hts : ∀ w ∈ en_ws, w.before #[.ref aK, .int ch] s = true := fun w hw => hts0 w (List.mem_cons_of_mem _ hw)
  have hown : s.vm.findClass "java/lang/String" = some m.cls := findClass_of_methodNamed B.named
  have hlocks := B.notSynchronized
  have hS : va_S (fun q => b0 ≤ q) s.heap s.heap [] := va_S.rf
  have hl := lv_entry ([.ref aK, .int ch]) (n := 2) (Nat.le_of_ble_eq_true rfl)
  rw [lg_entry_eq]
  generalize (lg_sl ([.ref aK, .int ch]) ++ List.replicate (2 - (lg_sl ([.ref aK, .int ch])).length) Slot.unset).toArray = ls at hl ⊢
  have hE := hX.2.2.1.1 0 (by decide)
  have hl : lv_has ls 2 [(0, .ref aK), (1, .int ch)] := hl
  refine lv_aload_n hx hb (by decide +kernel : decode cJ0_indexOf_0f7a4 0 = .ok (.aload_n 0, 1)) rfl (lv_at hl 0 rfl) ?_
  refine lv_iload_n hx hb (by decide +kernel : decode cJ0_indexOf_0f7a4 1 = .ok (.iload_n 1, 1)) rfl (lv_at hl 1 rfl) ?_
  refine lv_iconst (v := 0) hx hb (by decide +kernel : decode cJ0_indexOf_0f7a4 2 = .ok (.iconst 0, 1)) (by decide) ?_
  have hB3 := callB_of (own := "java/lang/String") (index := 633) (R := { frames := 3, cells := 0, slots := 0, locals := 110 }) (rm := { frames := 2, cells := 0, slots := 0, locals := 80 }) (mc := 0) (ms := 0) 2 hts (en_consG en_c_ix2) rfl rfl rfl (hts _ (en_sq 0 rfl)) (hts _ (en_sq 3 rfl)) (by decide +kernel) ⟨by decide, by decide⟩
  refine va_calli (a := #[Value.ref aK, .int ch, .int 0]) (va_runV (C := "java/lang/String") (As := [.int ch, .int 0]) (rest := []) ⟨hx, hb, hml, hown, hts⟩ (ex_ix2 l b0 aK aV ch hch) ⟨hB3, (hts _ (en_sq 12 rfl)), (hts _ (en_sq 13 rfl))⟩ ⟨fun a U g mk q => ⟨q.1, q.2.1, q.2.2.call⟩, vk_recv (i := 0) hX.2.2.1 Nat.zero_lt_one hS, fun U hU hW => ⟨rfl, by rw [hU]; exact hsz, hX.go (Nat.le_refl _) hS hU hW⟩⟩ rfl rfl hl.1 rfl (lv_room (Nat.le_of_ble_eq_true rfl)) (by decide +kernel : decode cJ0_indexOf_0f7a4 3 = .ok (.invokevirtual 633, 3)) ⟨by decide, by decide⟩) hS (fun q _ h => h) (fun q h => h) (fun r u t H1 locs1 ht hvm hpost hB hsz1 hfr hS => ?_)
  exact W.iret hx hb hr (fun t ht _ => ⟨⟨r, (), rfl, hpost, trivial⟩, hS.F ht⟩) hS.2.2 (by decide +kernel : decode cJ0_indexOf_0f7a4 6 = .ok (.ireturn, 1))
theorem px_s30 {p : Program} {l : Launch} {e : Env} {R : Room} {s : State} {m : MethodId} {args : Array Value} {below : List Frame} {meth : Method} {c : Code} {Q : State → Prop} {cc : ByteArray} {D : va_G} {tys : List (ClassId × FieldType)} {aK aV b0 nL : Nat} {ad : Nat → Nat} {pc fr : Nat} {L : pL} {σ : pS} (C : ev_cx p s m args meth c cc nL 0 D tys aK aV b0) (hR : R = px_rm fr) (d1 : decode cc pc = .ok (.ldc 27, 2)) (d2 : decode cc (pc + 2) = .ok (.iload_n 3, 1)) (d3 : decode cc (pc + 3) = .ok (.i2c, 1)) (d4 : decode cc (pc + 4) = .ok (.invokevirtual 119, 3)) {x : Int} (hL : L[3]? = some (some (.inl x))) (hfr : 4 ≤ fr) (hx : 0 ≤ x ∧ x ≤ 255) (k : px_go p l e R s m args below meth c Q D tys b0 nL ad (pc + 7) L [.inl (pIdx x)] σ) : px_go p l e R s m args below meth c Q D tys b0 nL ad pc L [] σ := by
  intro H locs ls stk ws h
  obtain ⟨h0, hl, hs, hw, hσ, hP, hD, hS⟩ := h
  have hy := pe_0 hs
  subst hy
  obtain ⟨x0, h3, hx0⟩ := hl 3 _ hL
  obtain ⟨u, rfl, hu⟩ := pe_iE hx0
  obtain ⟨hi, hch⟩ := xIx_ok hu hx.1 hx.2
  have hX := C.2.2.2.2.2.2.2.1
  have hts := C.2.2.2.2.1
  have hb0 := C.2.2.2.2.2.2.1
  refine va_ldcS C.1 C.2.1 C.2.2.2.1 hX.2.1 d1 ?_
  refine lv_iload_n C.1 C.2.1 d2 rfl h3 ?_
  refine lv_i2c C.1 C.2.1 d3 rfl ?_
  have hB := callB_of (own := en_nm 0) (index := 119) (R := R) (rm := { frames := 3, cells := 0, slots := 0, locals := 110 }) (mc := 0) (ms := 0) 1 hts (en_consG en_c_ix1) rfl rfl rfl (hts _ (en_sq 0 rfl)) (hts _ (en_sq 2 rfl)) (by decide +kernel) ⟨by rw [hR]; exact hfr, by rw [hR]; show 131 ≤ 100 * fr; omega⟩
  refine va_calli (a := #[Value.ref aK, .int _]) (va_runV (C := "java/lang/String") (As := [.int _]) (rest := []) ⟨C.1, C.2.1, C.2.2.1, C.2.2.2.1, hts⟩ (ex_ix1 l H.size aK aV _ hch) ⟨hB, (hts _ (en_sq 10 rfl)), (hts _ (en_sq 11 rfl))⟩ ⟨fun a U g mk q => ⟨q.1, q.2.1, q.2.2.call⟩, vk_recv (i := 0) hX.2.2.1 Nat.zero_lt_one hS, fun U hU hW => ⟨rfl, by rw [hU]; exact Nat.le_refl _, hX.go (Nat.le_trans hb0 hS.1) hS hU hW⟩⟩ rfl rfl h0.1 rfl (lv_room (Nat.le_of_ble_eq_true rfl)) d4 ⟨Nat.zero_le _, Nat.zero_le _⟩) hS (fun q h1 h2 => absurd h2 (by omega)) (fun q (h : H.size ≤ q) => by show b0 ≤ q; have := hS.1; omega) (fun r u t H1 locs1 ht hvm hpost hB hsz1 hfr hS1 => ?_)
  exact k H1 locs1 ls [.int r] ws ⟨h0, hl, ⟨pe_i (hpost.trans hi), trivial⟩, hw, hσ, hP.kept (fun k q hk => hfr q.1 ((hP k q hk).lt) (by show ¬ H.size ≤ q.1; have := (hP k q hk).lt; omega)), hD, hS1⟩
section PX3
variable {p : Program} {l : Launch} {e : Env} {R : Room} {s : State} {m : MethodId} {args : Array Value} {below : List Frame} {meth : Method} {c : Code} {Q : State → Prop} {cc : ByteArray} {D : va_G} {tys : List (ClassId × FieldType)} {aK aV b0 nL o : Nat} {ad : Nat → Nat} {ret : Option FieldType} {rv : Int} {rσ : pS}
variable {pc len : Nat} {L : pL} {S : List pV} {σ : pS} {op : Instr} {n a b fr : Nat} {z : Int} {ps : List (Int × Nat)} {k : Nat → pL → List pV → pS → Prop}
theorem px_s27 (C : ev_cx p s m args meth c cc nL o D tys aK aV b0) (hret : meth.sig.returnType = ret) (hQ : Q = MQ below (px_qc D tys b0 ad rv rσ ret.isSome) args s 0 0 (fun q => b0 ≤ q)) (hd : decode cc pc = .ok (op, len)) (hc : px_c27 ret op len a = true) {v : Int} (hz : a = 0 ∨ (0 ≤ v ∧ v ≤ 1)) (hv : v = rv) (hσr : σ = rσ) : px_go p l e R s m args below meth c Q D tys b0 nL ad pc L [.inl v] σ := by
  intro H locs ls stk ws h
  obtain ⟨h0, hl, hs, hw, hσ, hP, hD, hS⟩ := h
  obtain ⟨x, ys, rfl, hx, hs1⟩ := pe_s hs
  obtain ⟨u, rfl, hu⟩ := pe_iE hx
  have hy := pe_0 hs1
  subst hy
  subst hQ
  have hlocks := C.2.2.2.2.2.2.2.2
  unfold px_c27 at hc
  split at hc
  · simp only [Bool.and_eq_true, beq_iff_eq] at hc
    obtain ⟨rfl, hc⟩ := hc
    split at hc
    · have hq : ∀ t : State, t.heap = H → s.WarmedH t.vm → px_qc D tys b0 ad rv rσ true args s (.returned (some (.int u))) t := fun t ht _ => by
        exact ⟨⟨u, ws, rfl, ⟨hw, hσ.trans hσr, hu.trans hv⟩, by show va_P D vwCl ws t.heap ∧ va_D (fun q => b0 ≤ q) ws; rw [ht]; exact ⟨hP, hD⟩⟩, hS.F ht⟩
      exact W.iret C.1 C.2.1 hret hq hS.2.2 hd
    · have hq : ∀ t : State, t.heap = H → s.WarmedH t.vm → px_qc D tys b0 ad rv rσ true args s (.returned (some (.int u))) t := fun t ht _ => by
        exact ⟨⟨u, ws, rfl, ⟨hw, hσ.trans hσr, hu.trans hv⟩, by show va_P D vwCl ws t.heap ∧ va_D (fun q => b0 ≤ q) ws; rw [ht]; exact ⟨hP, hD⟩⟩, hS.F ht⟩
      simp only [beq_iff_eq] at hc
      exact W.zret C.1 C.2.1 hret (en_nar_z (by omega) (by omega)) hq hS.2.2 hd
    · cases hc
  · cases hc
theorem px_s28 (C : ev_cx p s m args meth c cc nL o D tys aK aV b0) (hret : meth.sig.returnType = ret) (hQ : Q = MQ below (px_qc D tys b0 ad rv rσ ret.isSome) args s 0 0 (fun q => b0 ≤ q)) (hd : decode cc pc = .ok (op, len)) (hc : px_c28 ret op len = true) (hσr : σ = rσ) : px_go p l e R s m args below meth c Q D tys b0 nL ad pc L [] σ := by
  intro H locs ls stk ws h
  obtain ⟨h0, hl, hs, hw, hσ, hP, hD, hS⟩ := h
  have hy := pe_0 hs
  subst hy
  subst hQ
  have hlocks := C.2.2.2.2.2.2.2.2
  unfold px_c28 at hc
  split at hc
  · simp only [Bool.and_eq_true, beq_iff_eq, Option.isNone_iff_eq_none] at hc
    obtain ⟨rfl, rfl⟩ := hc
    refine W.vret C.1 C.2.1 hret (fun t ht _ => ?_) hS.2.2 hd
    exact ⟨⟨ws, rfl, ⟨hw, hσ.trans hσr⟩, by show va_P D vwCl ws t.heap ∧ va_D (fun q => b0 ≤ q) ws; rw [ht]; exact ⟨hP, hD⟩⟩, hS.F ht⟩
  · cases hc
set_option maxHeartbeats 4000000 in
theorem px_one (C : ev_cx p s m args meth c cc nL o D tys aK aV b0) (hR : R = px_rm fr) (hret : meth.sig.returnType = ret) (hQ : Q = MQ below (px_qc D tys b0 ad rv rσ ret.isSome) args s 0 0 (fun q => b0 ≤ q)) (hd : decode cc pc = .ok (op, len)) (hc : px_c o nL ret op len pc n a b z ps = true) (hw : px_w l fr rv rσ (px_go p l e R s m args below meth c Q D tys b0 nL ad) n a b z ps (pc + len) L S σ k) (hk : ∀ (L : pL) (S : List pV) (σ : pS), k (px_nx n b pc len) L S σ → px_go p l e R s m args below meth c Q D tys b0 nL ad (px_nx n b pc len) L S σ) : px_go p l e R s m args below meth c Q D tys b0 nL ad pc L S σ := by
  match n, hc, hw, hk with
  | 0, hc, hw, hk => exact px_s0 C hd hc (hk _ _ _ hw)
  | 1, hc, hw, hk =>
    have hw : px_w1 _ _ _ _ _ _  := hw
    unfold px_w1 at hw
    split at hw
    · rename_i v hv
      exact px_s1 C hd hc hv (hk _ _ _ hw)
    · exact hw.elim
  | 2, hc, hw, hk =>
    have hw : px_w2 _ _ _ _ _ _  := hw
    unfold px_w2 at hw
    split at hw
    · rename_i v hv
      exact px_s2 C hd hc hv (hk _ _ _ hw)
    · exact hw.elim
  | 3, hc, hw, hk =>
    have hw : px_w3 _ _ _ _ _ _  := hw
    unfold px_w3 at hw
    split at hw
    · exact px_s3 C hd hc (hk _ _ _ hw)
    · exact hw.elim
  | 4, hc, hw, hk =>
    have hw : px_w4 _ _ _ _ _ _  := hw
    unfold px_w4 at hw
    split at hw
    · exact px_s4 C hd hc (hk _ _ _ hw)
    · exact hw.elim
  | 5, hc, hw, hk =>
    have hw : px_w5 _ _ _ _ _ _ _  := hw
    unfold px_w5 at hw
    split at hw
    · rename_i v hv
      exact px_s5 C hd hc hv (hk _ _ _ hw)
    · exact hw.elim
  | 6, hc, hw, hk =>
    have hw : px_w6 _ _ _ _ _ _  := hw
    unfold px_w6 at hw
    split at hw
    · exact px_s6 C hd hc (hk _ _ _ hw)
    · exact hw.elim
  | 7, hc, hw, hk =>
    have hw : px_w7 _ _ _ _ _ _  := hw
    unfold px_w7 at hw
    split at hw
    · exact px_s7 C hd hc hw.1 (hk _ _ _ (hw.2 _ rfl))
    · exact hw.elim
  | 8, hc, hw, hk =>
    have hw : px_w8 _ _ _ _ _ _  := hw
    unfold px_w8 at hw
    split at hw
    · exact px_s8 C hd hc (hk _ _ _ hw)
    · exact hw.elim
  | 9, hc, hw, hk =>
    have hw : px_w9 _ _ _ _ _  := hw
    unfold px_w9 at hw
    split at hw
    · exact px_s9 C hd hc (hk _ _ _ hw)
    · exact hw.elim
  | 10, hc, hw, hk =>
    have hw : px_w10 _ _ _ _ _  := hw
    unfold px_w10 at hw
    split at hw
    · exact px_s10 C hd hc (hk _ _ _ hw)
    · exact hw.elim
  | 11, hc, hw, hk =>
    have hw : px_w11 _ _ _ _ _  := hw
    unfold px_w11 at hw
    split at hw
    · exact px_s11 C hd hc (hk _ _ _ hw)
    · exact hw.elim
  | 12, hc, hw, hk => exact px_s12 C hd hc (hk _ _ _ hw)
  | 13, hc, hw, hk =>
    have hw : px_w13 _ _ _ _ _ _ _ _  := hw
    unfold px_w13 at hw
    split at hw
    · exact px_s13 C hd hc hw.1 (fun h => hk _ _ _ (hw.2 h))
    · exact hw.elim
  | 14, hc, hw, hk =>
    have hw : px_w14 _ _ _ _ _ _ _ _  := hw
    unfold px_w14 at hw
    split at hw
    · exact px_s14 C hd hc hw.1 (fun h => hk _ _ _ (hw.2 h))
    · exact hw.elim
  | 15, hc, hw, hk =>
    have hw : px_w15 _ _ _ _ _ _  := hw
    unfold px_w15 at hw
    split at hw
    · exact px_s15 C hd hc (px_sw_tg hw)
    · exact hw.elim
  | 16, hc, hw, hk =>
    have hw : px_w16 _ _ _ _ _ _ _  := hw
    unfold px_w16 at hw
    split at hw
    · obtain ⟨hj, hv9⟩ := px_ifE hw
      obtain rfl := of_decide_eq_true hj
      exact px_s16 C hd hc (hk _ _ _ hv9)
    · exact hw.elim
  | 17, hc, hw, hk =>
    have hw : px_w17 _ _ _ _ _ _ _  := hw
    unfold px_w17 at hw
    split at hw
    · obtain ⟨hj, hv9⟩ := px_ifE hw
      obtain rfl := of_decide_eq_true hj
      exact px_s17 C hd hc (hk _ _ _ hv9)
    · exact hw.elim
  | 18, hc, hw, hk =>
    have hw : px_w18 _ _ _ _ _ _ _ _  := hw
    unfold px_w18 at hw
    split at hw
    · obtain ⟨hj, hv9⟩ := px_ifE hw
      obtain rfl := of_decide_eq_true hj
      split at hv9
      · exact px_s18 C hd hc (Or.inl rfl) (hk _ _ _ hv9)
      · exact px_s18 C hd hc (Or.inr hv9.1) (hk _ _ _ hv9.2)
    · exact hw.elim
  | 19, hc, hw, hk =>
    have hw : px_w19 _ _ _ _ _ _ _  := hw
    unfold px_w19 at hw
    split at hw
    · obtain ⟨hj, hi, hv9⟩ := px_ifE hw
      obtain rfl := of_decide_eq_true hj
      exact px_s19 C hd hc hi (hk _ _ _ hv9)
    · exact hw.elim
  | 20, hc, hw, hk =>
    have hw : px_w20 _ _ _ _ _ _ _ _  := hw
    unfold px_w20 at hw
    split at hw
    · obtain ⟨hj, hi, hv9⟩ := px_ifE hw
      obtain rfl := of_decide_eq_true hj
      split at hv9
      · exact px_s20 C hd hc hi (Or.inl rfl) (hk _ _ _ hv9)
      · exact px_s20 C hd hc hi (Or.inr (Or.inl ⟨rfl, hv9.1⟩)) (hk _ _ _ hv9.2)
      · rename_i h8 h9
        exact px_s20 C hd hc hi (Or.inr (Or.inr ⟨fun h => h9 h, hv9.1⟩)) (hk _ _ _ hv9.2)
    · exact hw.elim
  | 21, hc, hw, hk =>
    have hw : px_w21 _ _ _ _ _ _ _  := hw
    unfold px_w21 at hw
    split at hw
    · obtain ⟨hj, hv9⟩ := px_ifE hw
      obtain rfl := of_decide_eq_true hj
      exact px_s21 C hd hc (hk _ _ _ hv9)
    · exact hw.elim
  | 22, hc, hw, hk =>
    have hw : px_w22 _ _ _ _ _ _ _ _  := hw
    unfold px_w22 at hw
    split at hw
    · obtain ⟨hj, hi, hv9⟩ := px_ifE hw
      obtain rfl := of_decide_eq_true hj
      exact px_s22 C hd hc hi (fun q h1 h2 => hk _ _ _ (hv9 q h1 h2))
    · exact hw.elim
  | 23, hc, hw, hk =>
    have hw : px_w23 _ _ _ _ _ _ _ _ _ _ _  := hw
    unfold px_w23 at hw
    split at hw
    · rename_i j S' hS'
      obtain ⟨hj, f', v, σ', h4, h5, h6⟩ := px_ifE hw
      obtain ⟨h1, h2, h3⟩ := of_decide_eq_true hj
      have hSS : S = S.take b ++ .inr j :: S' := by rw [← hS']; exact (List.take_append_drop b S).symm
      rw [hSS]
      exact px_s23 C hR hd hc h1 h2 h3 h4 h5 (hk _ _ _ h6)
    · exact hw.elim
  | 24, hc, hw, hk =>
    have hw : px_w24 _ _ _ _ _ _ _ _ _ _  := hw
    unfold px_w24 at hw
    obtain ⟨hj, f', v, σ', h4, h5, h6⟩ := px_ifE hw
    obtain ⟨h2, h3⟩ := of_decide_eq_true hj
    have hSS : S = S.take b ++ S.drop b := (List.take_append_drop b S).symm
    rw [hSS]
    exact px_s24 C hR hd hc h2 h3 h4 h5 (hk _ _ _ h6)
  | 25, hc, hw, hk =>
    have hw : px_w25 _ _ _ _ _ _ _  := hw
    unfold px_w25 at hw
    split at hw
    · obtain ⟨hj, hv9⟩ := px_ifE hw
      obtain ⟨hf1, h8⟩ := of_decide_eq_true hj
      exact px_s25 C hR hd hc hf1 h8 (hk _ _ _ hv9)
    · exact hw.elim
  | 26, hc, hw, hk =>
    have hw : px_w26 _ _ _ _ _ _ _ _ _  := hw
    unfold px_w26 at hw
    split at hw
    · obtain ⟨hj, hv9⟩ := px_ifE hw
      obtain ⟨⟨rfl, rfl, rfl, rfl, rfl⟩, hf1, h8⟩ := of_decide_eq_true hj
      exact px_s26 C hR hd hc hf1 h8 (hk _ _ _ hv9)
    · exact hw.elim
  | 27, hc, hw, hk =>
    have hw : px_w27 _ _ _ _ _  := hw
    unfold px_w27 at hw
    split at hw
    · split at hw
      · exact px_s27 C hret hQ hd hc (Or.inl rfl) hw.1 hw.2
      · exact px_s27 C hret hQ hd hc (Or.inr hw.1) hw.2.1 hw.2.2
    · exact hw.elim
  | 28, hc, hw, hk =>
    have hw : px_w28 _ _ _  := hw
    unfold px_w28 at hw
    split at hw
    · exact px_s28 C hret hQ hd hc hw
    · exact hw.elim
  | n + 29, hc, _, _ =>
    have h9 : px_c o nL ret op len pc (n + 29) a b z ps = false := rfl
    rw [h9] at hc
    cases hc
theorem px_wp_ok (C : ev_cx p s m args meth c cc nL o D tys aK aV b0) (hR : R = px_rm fr) (hret : meth.sig.returnType = ret) (hQ : Q = MQ below (px_qc D tys b0 ad rv rσ ret.isSome) args s 0 0 (fun q => b0 ≤ q)) : ∀ (is : List (pI × Nat)) (pc : Nat) (L : pL) (S : List pV) (σ : pS), px_ckl o nL ret cc is pc = true → px_wp l fr rv rσ (px_go p l e R s m args below meth c Q D tys b0 nL ad) is pc L S σ → px_go p l e R s m args below meth c Q D tys b0 nL ad pc L S σ
  | [], _, _, _, _, _, hw => hw
  | ((n, a, b, z, ps), len) :: is, pc, L, S, σ, hck, hw => by
    unfold px_ckl at hck
    unfold px_wp at hw
    dsimp only at hck hw
    split at hck
    · rename_i hn
      have hn := of_decide_eq_true hn
      subst hn
      simp only [Bool.and_eq_true, beq_iff_eq] at hck
      obtain ⟨rfl, hck⟩ := hck
      exact px_s29 (px_wp_ok C hR hret hQ is pc _ S σ hck hw)
    · split at hck
      · rename_i hn
        have hn := of_decide_eq_true hn
        subst hn
        rw [Bool.and_eq_true] at hck
        have hrec := fun (S : List pV) h => px_wp_ok C hR hret hQ is (pc + len) L S σ hck.2 h
        obtain ⟨ho, hlen, e1, e2, e3, e4⟩ := px_c30E hck.1
        subst ho
        subst hlen
        have hw : px_w30 _ _ _ _ _ _ := hw
        unfold px_w30 at hw
        split at hw
        · split at hw
          · rename_i x hx
            exact px_s30 C hR e1 e2 e3 e4 hx hw.1 hw.2.1 (hrec _ hw.2.2)
          · exact hw.elim
        · exact hw.elim
      split at hck
      · rename_i op len' hd
        simp only [Bool.and_eq_true, beq_iff_eq] at hck
        obtain ⟨rfl, h1, h2⟩ := hck
        exact px_one C hR hret hQ hd h1 hw (fun L S σ h => px_wp_ok C hR hret hQ is _ L S σ h2 h)
      · cases hck
end PX3
theorem px_L0 {N : Nat} {ad : Nat → Nat} {av : List pV} {as : List Value} {ml : Nat} (h : en_vs N ad (av.map pe) as) (hm : av.length ≤ ml) : (((lg_sl as ++ List.replicate (ml - (lg_sl as).length) Slot.unset).toArray).size = ml ∧ lv_wf ((lg_sl as ++ List.replicate (ml - (lg_sl as).length) Slot.unset).toArray) ∧ (av.map some ++ List.replicate (ml - av.length) none : pL).length = ml) ∧ ∀ (i : Nat) (a : pV), (av.map some ++ List.replicate (ml - av.length) none : pL)[i]? = some (some a) → ∃ x : Value, ((lg_sl as ++ List.replicate (ml - (lg_sl as).length) Slot.unset).toArray)[i]? = some (.val x) ∧ en_v N ad (pe a) x := by
  have hlen := en_vs_len h
  rw [List.length_map] at hlen
  have hl := lv_entry as (n := ml) (by rw [en_vs_sl h, ← hlen]; exact hm)
  refine ⟨⟨hl.1, hl.2.1, by rw [List.length_append, List.length_map, List.length_replicate]; omega⟩, fun i a hi => ?_⟩
  have hia : (av.map pe)[i]? = some (pe a) := by
    by_cases hb : i < (av.map (some : pV → Option pV)).length
    · rw [List.getElem?_append_left hb, List.getElem?_map] at hi
      rw [List.getElem?_map]
      cases hz : av[i]? with
      | none => rw [hz] at hi; cases hi
      | some b => rw [hz] at hi; cases hi; rfl
    · rw [List.getElem?_append_right (by omega)] at hi
      have := List.mem_of_getElem? hi
      cases (List.mem_replicate.mp this).2
  obtain ⟨x, h1, h2⟩ := en_vs_args 0 h hia
  rw [Nat.zero_add] at h1
  exact ⟨x, hl.2.2 _ h1, h2⟩
def px_cm (mi n nL : Nat) : Bool := match en_ms[mi]? with
  | some r => (match en_mo[mi]? with
    | some _ => Jvm.plainName r.1.cls && (decide (n ≤ r.2.2.1) && r.2.2.1 == nL)
    | none => false)
  | none => false
/-- a method's exact contract out of a walk of its body -/
theorem Con_mk {l : Launch} {fr mi : Nat} {as : List pV} {σ : pS} {v : Int} {σ' : pS} (n nL : Nat) (hn : as.length = n) (hck : px_cm mi n nL = true) (body : ∀ G, px_R l fr mi v σ' G → G 0 (as.map some ++ List.replicate (nL - n) none) [] σ) : Con l fr mi as σ v σ' := by
  subst hn
  intro r hr D tys aK aV b0 ad w0 vs hargs hw hσ
  unfold px_cm at hck
  rw [hr] at hck
  dsimp only at hck
  split at hck
  · rename_i o ho
    simp only [Bool.and_eq_true, decide_eq_true_eq, beq_iff_eq] at hck
    obtain ⟨hp, hm, rfl⟩ := hck
    refine Met.ofW (cc := r.2.1) (maxL := r.2.2.1) (ret := r.2.2.2) hp rfl ?_
    intro p e s m args below meth c s₁ B hml hv
    obtain ⟨rfl, hsz, hP, hD, hKs, hX⟩ := hv
    have hts := atoms_spec (ws := Cond.code r.1 r.2.1 r.2.2.1 r.2.2.2 :: en_ws) B.pre
    have hown : s.vm.findClass (en_nm o) = some m.cls := by rw [en_mo_ok hr ho]; exact findClass_of_methodNamed B.named
    have C : ev_cx p s m vs.toArray meth c r.2.1 r.2.2.1 o D tys aK aV b0 := ⟨B.exec, B.bytes, hml, hown, fun w hw => hts w (List.mem_cons_of_mem _ hw), hKs, hsz, hX, B.notSynchronized⟩
    rw [lg_entry_eq]
    obtain ⟨h1, h2⟩ := px_L0 hargs hm
    refine body (px_go p l e (px_rm fr) s m vs.toArray below meth c (MQ below (px_qc D tys b0 ad v σ' r.2.2.2.isSome) vs.toArray s 0 0 (fun q => b0 ≤ q)) D tys b0 r.2.2.1 ad) (fun is pc L S σ hck hwp => ?_) s.heap [] _ [] w0 ⟨h1, h2, trivial, hw, hσ, hP, hD, va_S.rf⟩
    unfold px_ckm at hck
    rw [hr, ho] at hck
    exact px_wp_ok C rfl B.returns rfl is pc L S σ hck hwp
  · cases hck
theorem px_gd {α : Type} {P : Prop} [Decidable P] {x : Option α} {r : α} (h : (if P then x else none) = some r) : P ∧ x = some r := by
  by_cases hp : P
  · rw [if_pos hp] at h
    exact ⟨hp, h⟩
  · rw [if_neg hp] at h
    cases h
theorem px_ite {α : Type} {P : Prop} [Decidable P] {x y : Option α} {r : α} (h : (if P then x else y) = some r) : (P ∧ x = some r) ∨ (¬ P ∧ y = some r) := by
  by_cases hp : P
  · rw [if_pos hp] at h
    exact Or.inl ⟨hp, h⟩
  · rw [if_neg hp] at h
    exact Or.inr ⟨hp, h⟩
theorem px_bind {α β : Type} {x : Option α} {f : α → Option β} {r : β} (h : x.bind f = some r) : ∃ y, x = some y ∧ f y = some r := by
  cases x with
  | none => cases h
  | some y => exact ⟨y, rfl, h⟩
