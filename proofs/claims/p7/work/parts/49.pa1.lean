def px_cd (cd : Jvm.ClassFile.Cond) : Nat := match cd with
  | .eq => 0
  | .ne => 1
  | .lt => 2
  | .ge => 3
  | .gt => 4
  | .le => 5
def px_tk (pc : Nat) (off : Int) (b : Nat) : Bool := decide ((pc : Int) + off = (b : Int))
def px_tab (pc : Nat) : Int → List Int → List (Int × Nat)
  | _, [] => []
  | v, o :: os => (v, ((pc : Int) + o).toNat) :: px_tab pc (v + 1) os
def px_c0 (o : Nat) (op : Instr) (len : Nat) (z : Int) : Bool := match op with
  | .iconst k => len == 1 && decide ((Int32.ofInt k).toInt = z)
  | .bipush k => len == 2 && decide ((Int8.ofInt k).toInt32.toInt = z)
  | .sipush k => len == 3 && decide ((Int16.ofInt k).toInt32.toInt = z)
  | .ldc i => (match en_find o i en_kc with
    | some v => len == 2 && decide ((Int32.ofInt v).toInt = z)
    | none => false)
  | .ldc_w i => (match en_find o i en_kc with
    | some v => len == 3 && decide ((Int32.ofInt v).toInt = z)
    | none => false)
  | _ => false
def px_c1 (op : Instr) (len a : Nat) : Bool := match op with
  | .iload_n k => len == 1 && k.val == a
  | .iload i => len == 2 && i == a
  | _ => false
def px_c2 (op : Instr) (len a : Nat) : Bool := match op with
  | .aload_n k => len == 1 && k.val == a
  | .aload i => len == 2 && i == a
  | _ => false
def px_c3 (op : Instr) (len a nL : Nat) : Bool := match op with
  | .istore_n k => len == 1 && (k.val == a && decide (a < nL))
  | .istore i => len == 2 && (i == a && decide (a < nL))
  | _ => false
def px_c4 (op : Instr) (len a nL : Nat) : Bool := match op with
  | .astore_n k => len == 1 && (k.val == a && decide (a < nL))
  | .astore i => len == 2 && (i == a && decide (a < nL))
  | _ => false
def px_c5 (op : Instr) (len a : Nat) (z : Int) : Bool := match op with
  | .iinc i k => len == 3 && (i == a && decide ((Int32.ofInt k).toInt = z))
  | _ => false
def px_c6 (op : Instr) (len a : Nat) : Bool := match op with
  | .iadd => len == 1 && a == 0
  | .isub => len == 1 && a == 1
  | .imul => len == 1 && a == 2
  | .iand => len == 1 && a == 3
  | .ior => len == 1 && a == 4
  | .ixor => len == 1 && a == 5
  | .ishl => len == 1 && a == 6
  | .ishr => len == 1 && a == 7
  | .iushr => len == 1 && a == 8
  | _ => false
def px_c7 (op : Instr) (len a : Nat) : Bool := match op with
  | .idiv => len == 1 && a == 0
  | .irem => len == 1 && a == 1
  | _ => false
def px_c8 (op : Instr) (len a : Nat) : Bool := match op with
  | .i2b => len == 1 && a == 0
  | .i2c => len == 1 && a == 1
  | _ => false
def px_c9 (op : Instr) (len n : Nat) : Bool := match op with
  | .dup => len == 1 && n == 9
  | .dup2 => len == 1 && n == 10
  | .pop => len == 1 && n == 11
  | _ => false
def px_c12 (op : Instr) (len pc b : Nat) : Bool := match op with
  | .goto off => len == 3 && px_tk pc off b
  | _ => false
def px_c13 (op : Instr) (len pc a b : Nat) : Bool := match op with
  | .if_icmp cd off => len == 3 && (px_cd cd == a && px_tk pc off b)
  | _ => false
def px_c14 (op : Instr) (len pc a b : Nat) : Bool := match op with
  | .ifCond cd off => len == 3 && (px_cd cd == a && px_tk pc off b)
  | _ => false
def px_c15 (op : Instr) (pc b : Nat) (ps : List (Int × Nat)) : Bool := match op with
  | .tableswitch d lo hi offs => px_tk pc d b && (decide ((offs.toList.length : Int) = hi - lo + 1) && (decide (ps = px_tab pc lo offs.toList) && offs.toList.all (fun off => decide (0 ≤ (pc : Int) + off))))
  | .lookupswitch d qs => px_tk pc d b && (decide (ps = qs.toList.map (fun u => (u.1, ((pc : Int) + u.2).toNat))) && ((qs.toList.zip (qs.toList.drop 1)).all (fun (a, next) => a.1 < next.1) && qs.toList.all (fun u => decide (0 ≤ (pc : Int) + u.2))))
  | _ => false
def px_c16 (o : Nat) (op : Instr) (len a b : Nat) : Bool := match op with
  | .getfield i => (match en_find o i en_fl with
    | some (ci, f) => (match tF[a]? with
      | some (.inr q) => (match vwCl[ci]? with
        | some r => (match q.2[f]? with
          | some (.inl _) => len == 3 && (q.1 == ci && (decide (f < r.2.2) && f == b))
          | _ => false)
        | none => false)
      | _ => false)
    | none => false)
  | _ => false
def px_c17 (o : Nat) (op : Instr) (len a b : Nat) : Bool := match op with
  | .getfield i => (match en_find o i en_fl with
    | some (ci, f) => (match tF[a]? with
      | some (.inr q) => (match vwCl[ci]? with
        | some r => (match q.2[f]? with
          | some (.inr k) => len == 3 && (q.1 == ci && (decide (f < r.2.2) && k == b + 2))
          | _ => false)
        | none => false)
      | _ => false)
    | none => false)
  | _ => false
def px_bd (z : Int) : Int × Int := match z with
  | .ofNat 0 => en_full
  | .ofNat 1 => (0, 1)
  | _ => (-128, 127)
def px_c18 (o : Nat) (op : Instr) (len a b : Nat) (z : Int) : Bool := match op with
  | .putfield i => (match en_find o i en_fl with
    | some (ci, f) => (match tF[a]? with
      | some (.inr q) => (match vwCl[ci]? with
        | some r => (match q.2[f]? with
          | some (.inl bd) => len == 3 && (q.1 == ci && (decide (f < r.2.2) && (f == b && (decide (bd = px_bd z) && (en_put (en_tyX ci f) (.inl bd) && (!(r.2.1 f).2.2.2 && (decide (z = 0) || decide (z = 1))))))))
          | _ => false)
        | none => false)
      | _ => false)
    | none => false)
  | _ => false
def px_c19 (op : Instr) (len a b : Nat) : Bool := match tF[a]? with
  | some (.inl t) => (match op with
    | .iaload => len == 1 && (t.1 == 0 && t.2.1 == b)
    | .baload => len == 1 && ((t.1 == 1 || t.1 == 2) && t.2.1 == b)
    | _ => false)
  | _ => false
def px_c20 (op : Instr) (len a b : Nat) (z : Int) : Bool := match tF[a]? with
  | some (.inl t) => (match op with
    | .iastore => len == 1 && (t.1 == 0 && (t.2.1 == b && (decide (z = 0) && decide (t.2.2 = en_full))))
    | .bastore => len == 1 && (t.2.1 == b && ((t.1 == 1 && (decide (z = 1) && decide (t.2.2 = (0, 1)))) || (t.1 == 2 && (decide (z = 2) && decide (t.2.2 = (-128, 127))))))
    | _ => false)
  | _ => false
def px_c21 (op : Instr) (len a b : Nat) : Bool := match tF[a]? with
  | some (.inl t) => (match op with
    | .arraylength => len == 1 && (!(t.1 == 3) && (decide (t.2.1 < 2147483648) && t.2.1 == b))
    | _ => false)
  | _ => false
def px_c22 (op : Instr) (len a b : Nat) (z : Int) : Bool := match tF[a]? with
  | some (.inl t) => (match op with
    | .aaload => len == 1 && (t.1 == 3 && (t.2.1 == b && decide (t.2.2.1 = z)))
    | _ => false)
  | _ => false
def px_c23 (o : Nat) (op : Instr) (len a b : Nat) (z : Int) (ps : List (Int × Nat)) : Bool := match op with
  | .invokevirtual i => (match en_find o i en_cl with
    | some (kd, mi, n) => (match ps with
      | [(0, j)] => (match tF[j]? with
        | some (.inr q) => (match en_ms[mi]? with
          | some r => (match en_mo[mi]? with
            | some ci => (match vwCl[ci]? with
              | some _ => kd == 0 && (mi == a && (n == b && (len == 3 && (q.1 == ci && (decide (r.2.2.1 ≤ 60) && (r.2.2.2.isSome == !decide (z = 0)))))))
              | none => false)
            | none => false)
          | none => false)
        | _ => false)
      | _ => false)
    | none => false)
  | _ => false
def px_c24 (o : Nat) (op : Instr) (len a b : Nat) (z : Int) : Bool := match op with
  | .invokestatic i => (match en_find o i en_cl with
    | some (kd, mi, n) => (match en_ms[mi]? with
      | some r => (kd == 1 || kd == 2) && (mi == a && (n == b && (len == 3 && (decide (r.2.2.1 ≤ 60) && (r.2.2.2.isSome == !decide (z = 0))))))
      | none => false)
    | none => false)
  | _ => false
def px_c25 (o : Nat) (op : Instr) (len a : Nat) : Bool := match op with
  | .invokestatic i => (len == 3 && ((a == 0 && decide (en_find o i en_cl = some (1, 16, 2))) || (a == 1 && decide (en_find o i en_cl = some (1, 30, 2)))))
  | _ => false
def px_c26 (o : Nat) (op : Instr) (len a b : Nat) (z : Int) : Bool := match op with
  | .invokestatic i => (match tF[a]? with
    | some (.inl t0) => (match tF[b]? with
      | some (.inl t1) => en_ac.contains (o, i) && (len == 3 && (decide (0 ≤ z) && (t0.1 == 0 && (t1.1 == 0 && (decide (z.toNat ≤ t0.2.1) && (decide (z.toNat ≤ t1.2.1) && (decide (t0.2.2 = t1.2.2) && decide (8 + (nativeFrameWords "java/lang/System" "arraycopy" 5 + 11) ≤ 100))))))))
      | _ => false)
    | _ => false)
  | _ => false
def px_c27 (ret : Option FieldType) (op : Instr) (len a : Nat) : Bool := match op with
  | .ireturn => len == 1 && (match ret with
    | some .int => a == 0
    | some .boolean => a == 1
    | _ => false)
  | _ => false
def px_c28 (ret : Option FieldType) (op : Instr) (len : Nat) : Bool := match op with
  | .return_ => len == 1 && ret.isNone
  | _ => false
def px_c (o nL : Nat) (ret : Option FieldType) (op : Instr) (len pc n a b : Nat) (z : Int) (ps : List (Int × Nat)) : Bool := match n with
  | 0 => px_c0 o op len z
  | 1 => px_c1 op len a
  | 2 => px_c2 op len a
  | 3 => px_c3 op len a nL
  | 4 => px_c4 op len a nL
  | 5 => px_c5 op len a z
  | 6 => px_c6 op len a
  | 7 => px_c7 op len a
  | 8 => px_c8 op len a
  | 9 => px_c9 op len 9
  | 10 => px_c9 op len 10
  | 11 => px_c9 op len 11
  | 12 => px_c12 op len pc b
  | 13 => px_c13 op len pc a b
  | 14 => px_c14 op len pc a b
  | 15 => px_c15 op pc b ps
  | 16 => px_c16 o op len a b
  | 17 => px_c17 o op len a b
  | 18 => px_c18 o op len a b z
  | 19 => px_c19 op len a b
  | 20 => px_c20 op len a b z
  | 21 => px_c21 op len a b
  | 22 => px_c22 op len a b z
  | 23 => px_c23 o op len a b z ps
  | 24 => px_c24 o op len a b z
  | 25 => px_c25 o op len a
  | 26 => px_c26 o op len a b z
  | 27 => px_c27 ret op len a
  | 28 => px_c28 ret op len
  | _ => false
def px_nx (n b pc len : Nat) : Nat := match n with
  | 12 => b
  | _ => pc + len
def px_c30 (o : Nat) (cc : ByteArray) (len pc : Nat) : Bool := o == 0 && (len == 7 && (match decode cc pc, decode cc (pc + 2), decode cc (pc + 3), decode cc (pc + 4) with
  | .ok (.ldc i, l1), .ok (.iload_n k, l2), .ok (.i2c, l3), .ok (.invokevirtual j, l4) => i == 27 && (l1 == 2 && (k == 3 && (l2 == 1 && (l3 == 1 && (j == 119 && l4 == 3)))))
  | _, _, _, _ => false))
theorem px_c30E {o : Nat} {cc : ByteArray} {len pc : Nat} (h : px_c30 o cc len pc = true) : o = 0 ∧ len = 7 ∧ decode cc pc = .ok (.ldc 27, 2) ∧ decode cc (pc + 2) = .ok (.iload_n 3, 1) ∧ decode cc (pc + 3) = .ok (.i2c, 1) ∧ decode cc (pc + 4) = .ok (.invokevirtual 119, 3) := by
  unfold px_c30 at h
  rw [Bool.and_eq_true, Bool.and_eq_true] at h
  obtain ⟨h1, h2, h3⟩ := h
  refine ⟨beq_iff_eq.mp h1, beq_iff_eq.mp h2, ?_⟩
  split at h3
  · rename_i e1 e2 e3 e4
    simp only [Bool.and_eq_true, beq_iff_eq] at h3
    obtain ⟨rfl, rfl, rfl, rfl, rfl, rfl, rfl⟩ := h3
    exact ⟨e1, e2, e3, e4⟩
  · cases h3
def px_ckl (o nL : Nat) (ret : Option FieldType) (cc : ByteArray) : List (pI × Nat) → Nat → Bool
  | [], _ => true
  | (q, len) :: is, pc => (match decide (q.1 = 29) with
    | true => len == 0 && px_ckl o nL ret cc is pc
    | false => (match decide (q.1 = 30) with
      | true => px_c30 o cc len pc && px_ckl o nL ret cc is (pc + len)
      | false => (match decode cc pc with
      | .ok (op, len') => len' == len && (px_c o nL ret op len pc q.1 q.2.1 q.2.2.1 q.2.2.2.1 q.2.2.2.2 && px_ckl o nL ret cc is (px_nx q.1 q.2.2.1 pc len))
      | .error _ => false)))
def px_ckm (mi : Nat) (is : List (pI × Nat)) (pc : Nat) : Bool := match en_ms[mi]? with
  | some r => (match en_mo[mi]? with
    | some o => px_ckl o r.2.2.1 r.2.2.2 r.2.1 is pc
    | none => false)
  | none => false
def px_R (l : Launch) (fr mi : Nat) (rv : Int) (rσ : pS) (G : Nat → pL → List pV → pS → Prop) : Prop := ∀ (is : List (pI × Nat)) (pc : Nat) (L : pL) (S : List pV) (σ : pS), px_ckm mi is pc = true → px_wp l fr rv rσ G is pc L S σ → G pc L S σ
theorem px_lset {N : Nat} {ad : Nat → Nat} {L : pL} {ls ls' : Array Slot} {i : Nat} {a : pV} {x : Value} (hk : ∀ (j : Nat) (v : Value), j ≠ i → ls[j]? = some (.val v) → v.category = 1 → ls'[j]? = some (.val v)) (hi : ls'[i]? = some (.val x)) (hx : en_v N ad (pe a) x) (h : ∀ (j : Nat) (b : pV), L[j]? = some (some b) → ∃ y : Value, ls[j]? = some (.val y) ∧ en_v N ad (pe b) y) : ∀ (j : Nat) (b : pV), (L.set i (some a))[j]? = some (some b) → ∃ y : Value, ls'[j]? = some (.val y) ∧ en_v N ad (pe b) y := by
  intro j b hj
  by_cases hji : j = i
  · subst hji
    by_cases hl : j < L.length
    · rw [List.getElem?_set_self hl] at hj
      cases hj
      exact ⟨x, hi, hx⟩
    · rw [List.getElem?_eq_none (by rw [List.length_set]; omega)] at hj
      cases hj
  · rw [List.getElem?_set_ne (Ne.symm hji)] at hj
    obtain ⟨y, h1, h2⟩ := h j b hj
    exact ⟨y, hk j y hji h1 (en_v_cat h2), h2⟩
section PX1
variable {p : Program} {l : Launch} {e : Env} {R : Room} {s : State} {m : MethodId} {args : Array Value} {below : List Frame} {meth : Method} {c : Code} {Q : State → Prop} {cc : ByteArray} {D : va_G} {tys : List (ClassId × FieldType)} {aK aV b0 nL o : Nat} {ad : Nat → Nat}
variable {pc len : Nat} {L : pL} {S : List pV} {σ : pS} {op : Instr} {a b : Nat} {z : Int} {ps : List (Int × Nat)} {nx : Nat} {k : Nat → pL → List pV → pS → Prop}
theorem px_push {pc' : Nat} {v : Int32} {z : Int} (hv : v.toInt = z) (row : ∀ (H : Heap) (locs : List Loc) (ls : Array Slot) (rest : List Value), W p l e R s m args below meth c H locs 0 0 Q (F0 m pc' ls (.int v :: rest)) → W p l e R s m args below meth c H locs 0 0 Q (F0 m pc ls rest))
    (k : px_go p l e R s m args below meth c Q D tys b0 nL ad pc' L (.inl z :: S) σ) : px_go p l e R s m args below meth c Q D tys b0 nL ad pc L S σ := by
  intro H locs ls stk ws h
  obtain ⟨h0, hl, hs, hr⟩ := h
  exact row H locs ls stk (k H locs ls (.int v :: stk) ws ⟨h0, hl, ⟨pe_i hv, hs⟩, hr⟩)
theorem px_s0 (C : ev_cx p s m args meth c cc nL o D tys aK aV b0) (hd : decode cc pc = .ok (op, len)) (hc : px_c0 o op len z = true) (k : px_go p l e R s m args below meth c Q D tys b0 nL ad (pc + len) L (.inl z :: S) σ) : px_go p l e R s m args below meth c Q D tys b0 nL ad pc L S σ := by
  unfold px_c0 at hc
  split at hc
  · simp only [Bool.and_eq_true, beq_iff_eq, decide_eq_true_eq] at hc
    obtain ⟨rfl, h2⟩ := hc
    exact px_push h2 (fun H locs ls rest k => lv_iconst C.1 C.2.1 hd rfl k) k
  · simp only [Bool.and_eq_true, beq_iff_eq, decide_eq_true_eq] at hc
    obtain ⟨rfl, h2⟩ := hc
    exact px_push h2 (fun H locs ls rest k => lv_bipush C.1 C.2.1 hd rfl k) k
  · simp only [Bool.and_eq_true, beq_iff_eq, decide_eq_true_eq] at hc
    obtain ⟨rfl, h2⟩ := hc
    exact px_push h2 (fun H locs ls rest k => lv_sipush C.1 C.2.1 hd rfl k) k
  · rename_i i
    split at hc
    · rename_i v hv
      simp only [Bool.and_eq_true, beq_iff_eq, decide_eq_true_eq] at hc
      obtain ⟨rfl, h2⟩ := hc
      have hw : Cond.constant (en_nm o) i (Int32.ofInt v) ∈ en_ws := en_ws_in (en_kc_in _ (List.mem_map.mpr ⟨(o, i, v), en_find_mem hv, rfl⟩)) rfl
      exact px_push h2 (fun H locs ls rest k => lv_ldc C.1 C.2.1 C.2.2.2.1 (C.2.2.2.2.1 _ hw) hd k) k
    · cases hc
  · rename_i i
    split at hc
    · rename_i v hv
      simp only [Bool.and_eq_true, beq_iff_eq, decide_eq_true_eq] at hc
      obtain ⟨rfl, h2⟩ := hc
      have hw : Cond.constant (en_nm o) i (Int32.ofInt v) ∈ en_ws := en_ws_in (en_kc_in _ (List.mem_map.mpr ⟨(o, i, v), en_find_mem hv, rfl⟩)) rfl
      exact px_push h2 (fun H locs ls rest k => lv_ldcw C.1 C.2.1 C.2.2.2.1 (C.2.2.2.2.1 _ hw) hd k) k
    · cases hc
  · cases hc
theorem px_s1 (C : ev_cx p s m args meth c cc nL o D tys aK aV b0) (hd : decode cc pc = .ok (op, len)) (hc : px_c1 op len a = true) {v : Int} (hL : L[a]? = some (some (.inl v))) (k : px_go p l e R s m args below meth c Q D tys b0 nL ad (pc + len) L (.inl v :: S) σ) : px_go p l e R s m args below meth c Q D tys b0 nL ad pc L S σ := by
  intro H locs ls stk ws h
  obtain ⟨h0, hl, hs, hr⟩ := h
  obtain ⟨x, h1, h2⟩ := hl a _ hL
  obtain ⟨i, rfl, hi⟩ := pe_iE h2
  have kk := k H locs ls (.int i :: stk) ws ⟨h0, hl, ⟨pe_i hi, hs⟩, hr⟩
  unfold px_c1 at hc
  split at hc
  · simp only [Bool.and_eq_true, beq_iff_eq] at hc
    obtain ⟨rfl, rfl⟩ := hc
    exact lv_iload_n C.1 C.2.1 hd rfl h1 kk
  · simp only [Bool.and_eq_true, beq_iff_eq] at hc
    obtain ⟨rfl, rfl⟩ := hc
    exact lv_iload C.1 C.2.1 hd h1 kk
  · cases hc
theorem px_s2 (C : ev_cx p s m args meth c cc nL o D tys aK aV b0) (hd : decode cc pc = .ok (op, len)) (hc : px_c2 op len a = true) {j : Nat} (hL : L[a]? = some (some (.inr j))) (k : px_go p l e R s m args below meth c Q D tys b0 nL ad (pc + len) L (.inr j :: S) σ) : px_go p l e R s m args below meth c Q D tys b0 nL ad pc L S σ := by
  intro H locs ls stk ws h
  obtain ⟨h0, hl, hs, hr⟩ := h
  obtain ⟨x, h1, h2⟩ := hl a _ hL
  obtain ⟨rfl, hi⟩ := pe_rE h2
  have kk := k H locs ls (.ref (ad j) :: stk) ws ⟨h0, hl, ⟨pe_r hi, hs⟩, hr⟩
  unfold px_c2 at hc
  split at hc
  · simp only [Bool.and_eq_true, beq_iff_eq] at hc
    obtain ⟨rfl, rfl⟩ := hc
    exact lv_aload_n C.1 C.2.1 hd rfl h1 kk
  · simp only [Bool.and_eq_true, beq_iff_eq] at hc
    obtain ⟨rfl, rfl⟩ := hc
    exact lv_aload C.1 C.2.1 hd h1 kk
  · cases hc
theorem px_store {pc' : Nat} {u : pV} (row : ∀ (H : Heap) (locs : List Loc) (ls : Array Slot) (rest : List Value) (x : Value), en_v tF.length ad (pe u) x → ls.size = nL → lv_wf ls → (∀ ls' : Array Slot, lv_has ls' nL ((a, x) :: (en_lv ls).filter (fun q => !(q.1 == a) && !(q.1 + 1 == a && q.2.category == 2))) → W p l e R s m args below meth c H locs 0 0 Q (F0 m pc' ls' rest)) → W p l e R s m args below meth c H locs 0 0 Q (F0 m pc ls (x :: rest)))
    (k : px_go p l e R s m args below meth c Q D tys b0 nL ad pc' (L.set a (some u)) S σ) : px_go p l e R s m args below meth c Q D tys b0 nL ad pc L (u :: S) σ := by
  intro H locs ls stk ws h
  obtain ⟨⟨z1, z2, z3⟩, hl, hs, hr⟩ := h
  obtain ⟨x, ys, rfl, hx, hs1⟩ := pe_s hs
  refine row H locs ls ys x hx z1 z2 (fun ls' h' => ?_)
  obtain ⟨k1, k2⟩ := ev_keep h'
  exact k H locs ls' ys ws ⟨⟨h'.1, h'.2.1, by rw [List.length_set]; exact z3⟩, px_lset k2 k1 hx hl, hs1, hr⟩
theorem px_s3 (C : ev_cx p s m args meth c cc nL o D tys aK aV b0) (hd : decode cc pc = .ok (op, len)) (hc : px_c3 op len a nL = true) {v : Int} (k : px_go p l e R s m args below meth c Q D tys b0 nL ad (pc + len) (L.set a (some (.inl v))) S σ) : px_go p l e R s m args below meth c Q D tys b0 nL ad pc L (.inl v :: S) σ := by
  refine px_store (fun H locs ls rest x hx z1 z2 k => ?_) k
  obtain ⟨i, rfl, hi⟩ := pe_iE hx
  unfold px_c3 at hc
  split at hc
  · simp only [Bool.and_eq_true, beq_iff_eq, decide_eq_true_eq] at hc
    obtain ⟨rfl, rfl, h2⟩ := hc
    exact lv_istore_n C.1 C.2.1 hd rfl (en_lv_has z1 z2) (by omega) rfl k
  · simp only [Bool.and_eq_true, beq_iff_eq, decide_eq_true_eq] at hc
    obtain ⟨rfl, rfl, h2⟩ := hc
    exact lv_istore C.1 C.2.1 hd (en_lv_has z1 z2) (by omega) rfl k
  · cases hc
theorem px_s4 (C : ev_cx p s m args meth c cc nL o D tys aK aV b0) (hd : decode cc pc = .ok (op, len)) (hc : px_c4 op len a nL = true) {j : Nat} (k : px_go p l e R s m args below meth c Q D tys b0 nL ad (pc + len) (L.set a (some (.inr j))) S σ) : px_go p l e R s m args below meth c Q D tys b0 nL ad pc L (.inr j :: S) σ := by
  refine px_store (fun H locs ls rest x hx z1 z2 k => ?_) k
  obtain ⟨rfl, hi⟩ := pe_rE hx
  unfold px_c4 at hc
  split at hc
  · simp only [Bool.and_eq_true, beq_iff_eq, decide_eq_true_eq] at hc
    obtain ⟨rfl, rfl, h2⟩ := hc
    exact lv_astore_n C.1 C.2.1 hd rfl (en_lv_has z1 z2) (by omega) rfl k
  · simp only [Bool.and_eq_true, beq_iff_eq, decide_eq_true_eq] at hc
    obtain ⟨rfl, rfl, h2⟩ := hc
    exact lv_astore C.1 C.2.1 hd (en_lv_has z1 z2) (by omega) rfl k
  · cases hc
theorem px_s5 (C : ev_cx p s m args meth c cc nL o D tys aK aV b0) (hd : decode cc pc = .ok (op, len)) (hc : px_c5 op len a z = true) {v : Int} (hL : L[a]? = some (some (.inl v))) (k : px_go p l e R s m args below meth c Q D tys b0 nL ad (pc + len) (L.set a (some (.inl (pw (v + z))))) S σ) : px_go p l e R s m args below meth c Q D tys b0 nL ad pc L S σ := by
  unfold px_c5 at hc
  split at hc
  · rename_i i n
    simp only [Bool.and_eq_true, beq_iff_eq, decide_eq_true_eq] at hc
    obtain ⟨rfl, rfl, h2⟩ := hc
    intro H locs ls stk ws h
    obtain ⟨⟨z1, z2, z3⟩, hl, hs, hr⟩ := h
    obtain ⟨x, h1, hx⟩ := hl i _ hL
    obtain ⟨y, rfl, hy⟩ := pe_iE hx
    obtain ⟨j, hj⟩ := List.getElem?_of_mem (en_lv_mem.mpr h1)
    have hi : i < L.length := (List.getElem?_eq_some_iff.mp hL).1
    refine lv_iinc C.1 C.2.1 hd (en_lv_has z1 z2) hj rfl (by omega) rfl (fun ls' h' => ?_)
    obtain ⟨k1, k2⟩ := ev_keep h'
    refine k H locs ls' stk ws ⟨⟨h'.1, h'.2.1, by rw [List.length_set]; exact z3⟩, px_lset k2 k1 (pe_i ?_) hl, hs, hr⟩
    rw [Int32.toInt_add, hy, h2]
    rfl
  · cases hc
theorem px_bin {pc' : Nat} (g : Int32 → Int32 → Int32) {x y r : Int} (hg : ∀ u v : Int32, u.toInt = x → v.toInt = y → (g u v).toInt = r)
    (row : ∀ (H : Heap) (locs : List Loc) (ls : Array Slot) (rest : List Value) (u v : Int32), u.toInt = x → v.toInt = y → W p l e R s m args below meth c H locs 0 0 Q (F0 m pc' ls (.int (g u v) :: rest)) → W p l e R s m args below meth c H locs 0 0 Q (F0 m pc ls (.int v :: .int u :: rest)))
    (k : px_go p l e R s m args below meth c Q D tys b0 nL ad pc' L (.inl r :: S) σ) : px_go p l e R s m args below meth c Q D tys b0 nL ad pc L (.inl y :: .inl x :: S) σ := by
  intro H locs ls stk ws h
  obtain ⟨h0, hl, hs, hr⟩ := h
  obtain ⟨v0, ys, rfl, hy, hs1⟩ := pe_s hs
  obtain ⟨u0, zs, rfl, hx, hs2⟩ := pe_s hs1
  obtain ⟨v, rfl, hv⟩ := pe_iE hy
  obtain ⟨u, rfl, hu⟩ := pe_iE hx
  exact row H locs ls zs u v hu hv (k H locs ls (.int (g u v) :: zs) ws ⟨h0, hl, ⟨pe_i (hg u v hu hv), hs2⟩, hr⟩)
theorem pO_of {f : Int32 → Int32 → Int32} {x y : Int} {u v : Int32} (hu : u.toInt = x) (hv : v.toInt = y) : (f u v).toInt = pO f x y := by
  rw [← hu, ← hv]
  exact pO_ok f u v
theorem px_s6 (C : ev_cx p s m args meth c cc nL o D tys aK aV b0) (hd : decode cc pc = .ok (op, len)) (hc : px_c6 op len a = true) {x y : Int} (k : px_go p l e R s m args below meth c Q D tys b0 nL ad (pc + len) L (.inl (pB a x y) :: S) σ) : px_go p l e R s m args below meth c Q D tys b0 nL ad pc L (.inl y :: .inl x :: S) σ := by
  unfold px_c6 at hc
  split at hc
  · simp only [Bool.and_eq_true, beq_iff_eq] at hc
    obtain ⟨rfl, rfl⟩ := hc
    exact px_bin (fun x y => x + y) (fun u v hu hv => by rw [Int32.toInt_add, hu, hv]; rfl) (fun H locs ls rest u v _ _ k => lv_iadd C.1 C.2.1 hd k) k
  · simp only [Bool.and_eq_true, beq_iff_eq] at hc
    obtain ⟨rfl, rfl⟩ := hc
    exact px_bin (fun x y => x - y) (fun u v hu hv => by rw [Int32.toInt_sub, hu, hv]; rfl) (fun H locs ls rest u v _ _ k => lv_isub C.1 C.2.1 hd k) k
  · simp only [Bool.and_eq_true, beq_iff_eq] at hc
    obtain ⟨rfl, rfl⟩ := hc
    exact px_bin (fun x y => x * y) (fun u v hu hv => by rw [Int32.toInt_mul, hu, hv]; rfl) (fun H locs ls rest u v _ _ k => lv_imul C.1 C.2.1 hd k) k
  · simp only [Bool.and_eq_true, beq_iff_eq] at hc
    obtain ⟨rfl, rfl⟩ := hc
    exact px_bin (fun x y => x &&& y) (fun u v hu hv => pO_of (f := fun x y => x &&& y) hu hv) (fun H locs ls rest u v _ _ k => lv_iand C.1 C.2.1 hd k) k
  · simp only [Bool.and_eq_true, beq_iff_eq] at hc
    obtain ⟨rfl, rfl⟩ := hc
    exact px_bin (fun x y => x ||| y) (fun u v hu hv => pO_of (f := fun x y => x ||| y) hu hv) (fun H locs ls rest u v _ _ k => lv_ior C.1 C.2.1 hd k) k
  · simp only [Bool.and_eq_true, beq_iff_eq] at hc
    obtain ⟨rfl, rfl⟩ := hc
    exact px_bin (fun x y => x ^^^ y) (fun u v hu hv => pO_of (f := fun x y => x ^^^ y) hu hv) (fun H locs ls rest u v _ _ k => lv_ixor C.1 C.2.1 hd k) k
  · simp only [Bool.and_eq_true, beq_iff_eq] at hc
    obtain ⟨rfl, rfl⟩ := hc
    exact px_bin (fun x y => x <<< (y &&& 31)) (fun u v hu hv => pO_of (f := fun x y => x <<< (y &&& 31)) hu hv) (fun H locs ls rest u v _ _ k => lv_ishl C.1 C.2.1 hd k) k
  · simp only [Bool.and_eq_true, beq_iff_eq] at hc
    obtain ⟨rfl, rfl⟩ := hc
    exact px_bin (fun x y => x >>> (y &&& 31)) (fun u v hu hv => pO_of (f := fun x y => x >>> (y &&& 31)) hu hv) (fun H locs ls rest u v _ _ k => lv_ishr C.1 C.2.1 hd k) k
  · simp only [Bool.and_eq_true, beq_iff_eq] at hc
    obtain ⟨rfl, rfl⟩ := hc
    exact px_bin (fun x y => (x.toUInt32 >>> (y.toUInt32 &&& Int32.toUInt32 31)).toInt32) (fun u v hu hv => pO_of (f := fun x y => (x.toUInt32 >>> (y.toUInt32 &&& Int32.toUInt32 31)).toInt32) hu hv) (fun H locs ls rest u v _ _ k => lv_iushr C.1 C.2.1 hd rfl k) k
  · cases hc
theorem px_ne0 {v : Int32} {y : Int} (hv : v.toInt = y) (hy : y ≠ 0) : ¬ v = 0 := fun e => hy (by rw [← hv, e]; rfl)
theorem px_s7 (C : ev_cx p s m args meth c cc nL o D tys aK aV b0) (hd : decode cc pc = .ok (op, len)) (hc : px_c7 op len a = true) {x y : Int} (hy : y ≠ 0) (k : px_go p l e R s m args below meth c Q D tys b0 nL ad (pc + len) L (.inl (px_dr a x y) :: S) σ) : px_go p l e R s m args below meth c Q D tys b0 nL ad pc L (.inl y :: .inl x :: S) σ := by
  unfold px_c7 at hc
  split at hc
  · simp only [Bool.and_eq_true, beq_iff_eq] at hc
    obtain ⟨rfl, rfl⟩ := hc
    exact px_bin (fun x y => x / y) (fun u v hu hv => pO_of (f := fun x y => x / y) hu hv) (fun H locs ls rest u v _ hv k => lv_idiv C.1 C.2.1 hd (px_ne0 hv hy) k) k
  · simp only [Bool.and_eq_true, beq_iff_eq] at hc
    obtain ⟨rfl, rfl⟩ := hc
    exact px_bin (fun x y => x - x / y * y) (fun u v hu hv => pO_of (f := fun x y => x - x / y * y) hu hv) (fun H locs ls rest u v _ hv k => lv_irem C.1 C.2.1 hd (px_ne0 hv hy) k) k
  · cases hc
theorem px_s8 (C : ev_cx p s m args meth c cc nL o D tys aK aV b0) (hd : decode cc pc = .ok (op, len)) (hc : px_c8 op len a = true) {x : Int} (k : px_go p l e R s m args below meth c Q D tys b0 nL ad (pc + len) L (.inl (px_ib a x) :: S) σ) : px_go p l e R s m args below meth c Q D tys b0 nL ad pc L (.inl x :: S) σ := by
  intro H locs ls stk ws h
  obtain ⟨h0, hl, hs, hr⟩ := h
  obtain ⟨u0, zs, rfl, hx, hs2⟩ := pe_s hs
  obtain ⟨u, rfl, hu⟩ := pe_iE hx
  unfold px_c8 at hc
  split at hc
  · simp only [Bool.and_eq_true, beq_iff_eq] at hc
    obtain ⟨rfl, rfl⟩ := hc
    refine lv_i2b C.1 C.2.1 hd rfl (k H locs ls _ ws ⟨h0, hl, ⟨pe_i ?_, hs2⟩, hr⟩)
    show _ = pI2b x
    unfold pI2b
    rw [← hu, Int32.ofInt_toInt]
  · simp only [Bool.and_eq_true, beq_iff_eq] at hc
    obtain ⟨rfl, rfl⟩ := hc
    refine lv_i2c C.1 C.2.1 hd rfl (k H locs ls _ ws ⟨h0, hl, ⟨pe_i ?_, hs2⟩, hr⟩)
    show _ = pI2c x
    unfold pI2c
    rw [← hu, Int32.ofInt_toInt]
  · cases hc
theorem px_s9 (C : ev_cx p s m args meth c cc nL o D tys aK aV b0) (hd : decode cc pc = .ok (op, len)) (hc : px_c9 op len 9 = true) {x : pV} (k : px_go p l e R s m args below meth c Q D tys b0 nL ad (pc + len) L (x :: x :: S) σ) : px_go p l e R s m args below meth c Q D tys b0 nL ad pc L (x :: S) σ := by
  intro H locs ls stk ws h
  obtain ⟨h0, hl, hs, hr⟩ := h
  obtain ⟨u, zs, rfl, hx, hs2⟩ := pe_s hs
  unfold px_c9 at hc
  split at hc
  · simp only [Bool.and_eq_true, beq_iff_eq] at hc
    obtain ⟨rfl, -⟩ := hc
    exact lv_dup C.1 C.2.1 hd (en_v_cat hx) (k H locs ls (u :: u :: zs) ws ⟨h0, hl, ⟨hx, hx, hs2⟩, hr⟩)
  · simp at hc
  · simp at hc
  · cases hc
theorem px_s10 (C : ev_cx p s m args meth c cc nL o D tys aK aV b0) (hd : decode cc pc = .ok (op, len)) (hc : px_c9 op len 10 = true) {x y : pV} (k : px_go p l e R s m args below meth c Q D tys b0 nL ad (pc + len) L (x :: y :: x :: y :: S) σ) : px_go p l e R s m args below meth c Q D tys b0 nL ad pc L (x :: y :: S) σ := by
  intro H locs ls stk ws h
  obtain ⟨h0, hl, hs, hr⟩ := h
  obtain ⟨u, zs, rfl, hx, hs2⟩ := pe_s hs
  obtain ⟨v, ys, rfl, hy, hs3⟩ := pe_s hs2
  unfold px_c9 at hc
  split at hc
  · simp at hc
  · simp only [Bool.and_eq_true, beq_iff_eq] at hc
    obtain ⟨rfl, -⟩ := hc
    exact lv_dup2_11 C.1 C.2.1 hd (en_v_cat hx) (en_v_cat hy) (k H locs ls (u :: v :: u :: v :: ys) ws ⟨h0, hl, ⟨hx, hy, hx, hy, hs3⟩, hr⟩)
  · simp at hc
  · cases hc
theorem px_s11 (C : ev_cx p s m args meth c cc nL o D tys aK aV b0) (hd : decode cc pc = .ok (op, len)) (hc : px_c9 op len 11 = true) {x : pV} (k : px_go p l e R s m args below meth c Q D tys b0 nL ad (pc + len) L S σ) : px_go p l e R s m args below meth c Q D tys b0 nL ad pc L (x :: S) σ := by
  intro H locs ls stk ws h
  obtain ⟨h0, hl, hs, hr⟩ := h
  obtain ⟨u, zs, rfl, hx, hs2⟩ := pe_s hs
  unfold px_c9 at hc
  split at hc
  · simp at hc
  · simp at hc
  · simp only [Bool.and_eq_true, beq_iff_eq] at hc
    obtain ⟨rfl, -⟩ := hc
    exact lv_pop C.1 C.2.1 hd (en_v_cat hx) (k H locs ls zs ws ⟨h0, hl, hs2, hr⟩)
  · cases hc
theorem px_tkE {pc : Nat} {off : Int} {b : Nat} (h : px_tk pc off b = true) : (pc : Int) + off = (b : Int) := of_decide_eq_true h
theorem px_s12 (C : ev_cx p s m args meth c cc nL o D tys aK aV b0) (hd : decode cc pc = .ok (op, len)) (hc : px_c12 op len pc b = true) (k : px_go p l e R s m args below meth c Q D tys b0 nL ad b L S σ) : px_go p l e R s m args below meth c Q D tys b0 nL ad pc L S σ := by
  intro H locs ls stk ws h
  unfold px_c12 at hc
  split at hc
  · simp only [Bool.and_eq_true, beq_iff_eq] at hc
    obtain ⟨rfl, h1⟩ := hc
    exact lv_goto C.1 C.2.1 hd (px_tkE h1) (k H locs ls stk ws h)
  · cases hc
theorem px_s13 (C : ev_cx p s m args meth c cc nL o D tys aK aV b0) (hd : decode cc pc = .ok (op, len)) (hc : px_c13 op len pc a b = true) {x y : Int} (kt : pCd a x y → px_go p l e R s m args below meth c Q D tys b0 nL ad b L S σ) (kf : ¬ pCd a x y → px_go p l e R s m args below meth c Q D tys b0 nL ad (pc + len) L S σ) : px_go p l e R s m args below meth c Q D tys b0 nL ad pc L (.inl y :: .inl x :: S) σ := by
  intro H locs ls stk ws h
  obtain ⟨h0, hl, hs, hr⟩ := h
  obtain ⟨v0, ys, rfl, hy, hs1⟩ := pe_s hs
  obtain ⟨u0, zs, rfl, hx, hs2⟩ := pe_s hs1
  obtain ⟨v, rfl, hv⟩ := pe_iE hy
  obtain ⟨u, rfl, hu⟩ := pe_iE hx
  subst hv
  subst hu
  unfold px_c13 at hc
  split at hc
  · rename_i cd off
    simp only [Bool.and_eq_true, beq_iff_eq] at hc
    obtain ⟨rfl, h1, h2⟩ := hc
    subst h1
    have h3 := px_tkE h2
    have kt := fun h => kt h H locs ls zs ws ⟨h0, hl, hs2, hr⟩
    have kf := fun h => kf h H locs ls zs ws ⟨h0, hl, hs2, hr⟩
    cases cd
    · exact lv_icmp_eq C.1 C.2.1 hd h3 (fun h => kt ((fa_eq _ _).mp h)) (fun h => kf (fun h2 => h ((fa_eq _ _).mpr h2)))
    · exact lv_icmp_ne C.1 C.2.1 hd h3 (fun h => kt (fun h2 => h ((fa_eq _ _).mpr h2))) (fun h => kf (fun h2 => h2 ((fa_eq _ _).mp h)))
    · exact lv_icmp_lt C.1 C.2.1 hd h3 (fun h => kt ((fa_lt _ _).mp h)) (fun h => kf (fun h2 => h ((fa_lt _ _).mpr h2)))
    · exact lv_icmp_ge C.1 C.2.1 hd h3 (fun h => kt ((fa_le _ _).mp h)) (fun h => kf (fun h2 => h ((fa_le _ _).mpr h2)))
    · exact lv_icmp_gt C.1 C.2.1 hd h3 (fun h => kt ((fa_lt _ _).mp h)) (fun h => kf (fun h2 => h ((fa_lt _ _).mpr h2)))
    · exact lv_icmp_le C.1 C.2.1 hd h3 (fun h => kt ((fa_le _ _).mp h)) (fun h => kf (fun h2 => h ((fa_le _ _).mpr h2)))
  · cases hc
theorem px_s14 (C : ev_cx p s m args meth c cc nL o D tys aK aV b0) (hd : decode cc pc = .ok (op, len)) (hc : px_c14 op len pc a b = true) {x : Int} (kt : pCd a x 0 → px_go p l e R s m args below meth c Q D tys b0 nL ad b L S σ) (kf : ¬ pCd a x 0 → px_go p l e R s m args below meth c Q D tys b0 nL ad (pc + len) L S σ) : px_go p l e R s m args below meth c Q D tys b0 nL ad pc L (.inl x :: S) σ := by
  intro H locs ls stk ws h
  obtain ⟨h0, hl, hs, hr⟩ := h
  obtain ⟨u0, zs, rfl, hx, hs2⟩ := pe_s hs
  obtain ⟨u, rfl, hu⟩ := pe_iE hx
  subst hu
  unfold px_c14 at hc
  split at hc
  · rename_i cd off
    simp only [Bool.and_eq_true, beq_iff_eq] at hc
    obtain ⟨rfl, h1, h2⟩ := hc
    subst h1
    have h3 := px_tkE h2
    have kt := fun h => kt h H locs ls zs ws ⟨h0, hl, hs2, hr⟩
    have kf := fun h => kf h H locs ls zs ws ⟨h0, hl, hs2, hr⟩
    cases cd
    · exact lv_if_eq C.1 C.2.1 hd h3 (fun h => kt ((fa_eq _ _).mp h)) (fun h => kf (fun h2 => h ((fa_eq _ _).mpr h2)))
    · exact lv_if_ne C.1 C.2.1 hd h3 (fun h => kt (fun h2 => h ((fa_eq _ _).mpr h2))) (fun h => kf (fun h2 => h2 ((fa_eq _ _).mp h)))
    · exact lv_if_lt C.1 C.2.1 hd h3 (fun h => kt ((fa_lt _ _).mp h)) (fun h => kf (fun h2 => h ((fa_lt _ _).mpr h2)))
    · exact lv_if_ge C.1 C.2.1 hd h3 (fun h => kt ((fa_le _ _).mp h)) (fun h => kf (fun h2 => h ((fa_le _ _).mpr h2)))
    · exact lv_if_gt C.1 C.2.1 hd h3 (fun h => kt ((fa_lt _ _).mp h)) (fun h => kf (fun h2 => h ((fa_lt _ _).mpr h2)))
    · exact lv_if_le C.1 C.2.1 hd h3 (fun h => kt ((fa_le _ _).mp h)) (fun h => kf (fun h2 => h ((fa_le _ _).mpr h2)))
  · cases hc
theorem px_tab_tg {pc d : Nat} {x off : Int} : ∀ {os : List Int} {v : Int} {n : Nat}, os[n]? = some off → x = v + (n : Int) → px_tg x d (px_tab pc v os) = ((pc : Int) + off).toNat
  | [], _, _, h, _ => by simp at h
  | o1 :: os, v, 0, h, hx => by
    rw [List.getElem?_cons_zero] at h
    cases h
    unfold px_tab px_tg
    rw [if_pos (by dsimp only; omega)]
  | o1 :: os, v, n + 1, h, hx => by
    rw [List.getElem?_cons_succ] at h
    unfold px_tab px_tg
    rw [if_neg (by dsimp only; omega)]
    exact px_tab_tg h (by omega)
theorem px_tab_out {pc d : Nat} {x : Int} : ∀ {os : List Int} {v : Int}, (x < v ∨ v + (os.length : Int) ≤ x) → px_tg x d (px_tab pc v os) = d
  | [], _, _ => rfl
  | o1 :: os, v, h => by
    rw [List.length_cons] at h
    unfold px_tab px_tg
    rw [if_neg (by dsimp only; omega)]
    exact px_tab_out (by omega)
theorem px_lk_tg {pc b : Nat} {d x : Int} (hd : (pc : Int) + d = (b : Int)) : ∀ {qs : List (Int × Int)}, qs.all (fun u => decide (0 ≤ (pc : Int) + u.2)) = true → (pc : Int) + Op.lookupswitch.offset qs d x = (px_tg x b (qs.map (fun u => (u.1, ((pc : Int) + u.2).toNat))) : Int)
  | [], _ => hd
  | (a, o1) :: us, h => by
    rw [List.all_cons, Bool.and_eq_true] at h
    have h1 := of_decide_eq_true h.1
    rw [Op.lookupswitch.offset_cons, List.map_cons]
    unfold px_tg
    dsimp only at h1 ⊢
    by_cases hx : a = x
    · rw [if_pos hx, if_pos hx.symm]
      omega
    · rw [if_neg hx, if_neg (fun h => hx h.symm)]
      exact px_lk_tg hd h.2
theorem px_s15 (C : ev_cx p s m args meth c cc nL o D tys aK aV b0) (hd : decode cc pc = .ok (op, len)) (hc : px_c15 op pc b ps = true) {x : Int} (k : px_go p l e R s m args below meth c Q D tys b0 nL ad (px_tg x b ps) L S σ) : px_go p l e R s m args below meth c Q D tys b0 nL ad pc L (.inl x :: S) σ := by
  intro H locs ls stk ws h
  obtain ⟨h0, hl, hs, hr⟩ := h
  obtain ⟨u0, zs, rfl, hx, hs2⟩ := pe_s hs
  obtain ⟨u, rfl, hu⟩ := pe_iE hx
  subst hu
  have k := k H locs ls zs ws ⟨h0, hl, hs2, hr⟩
  unfold px_c15 at hc
  split at hc
  · rename_i d lo hi offs
    simp only [Bool.and_eq_true, decide_eq_true_eq] at hc
    obtain ⟨h1, h2, h3, h4⟩ := hc
    have h5 := px_tkE h1
    subst h3
    rcases Int.lt_or_le u.toInt lo with hlo | hlo
    · rw [px_tab_out (Or.inl hlo)] at k
      exact lv_tableOut (tgt := b) C.1 C.2.1 hd (Or.inl hlo) h5 k
    · rcases Int.lt_or_le hi u.toInt with hhi | hhi
      · rw [px_tab_out (Or.inr (by omega))] at k
        exact lv_tableOut (tgt := b) C.1 C.2.1 hd (Or.inr hhi) h5 k
      · have hn : (u.toInt - lo).toNat < offs.toList.length := by omega
        have ho : offs.toList[(u.toInt - lo).toNat]? = some offs.toList[(u.toInt - lo).toNat] := List.getElem?_eq_getElem hn
        generalize offs.toList[(u.toInt - lo).toNat] = off at ho
        have h6 := of_decide_eq_true (List.all_eq_true.mp h4 off (List.mem_of_getElem? ho))
        rw [px_tab_tg ho (by omega)] at k
        exact lv_tableIn (tgt := ((pc : Int) + off).toNat) C.1 C.2.1 hd (by omega) (by omega) (off := off) (by rw [← Array.getElem?_toList]; exact ho) (by omega) k
  · rename_i d qs
    rw [Bool.and_eq_true, Bool.and_eq_true, Bool.and_eq_true] at hc
    obtain ⟨h1, h2, h3, h4⟩ := hc
    have h2 := of_decide_eq_true h2
    subst h2
    exact lv_lookup (tgt := px_tg u.toInt b (qs.toList.map (fun w => (w.1, ((pc : Int) + w.2).toNat)))) C.1 C.2.1 hd h3 rfl (px_lk_tg (px_tkE h1) h4) k
  · cases hc
end PX1
