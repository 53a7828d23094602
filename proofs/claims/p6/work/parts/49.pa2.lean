def px_cd (cd : Jvm.ClassFile.Cond) : Nat := match cd with
  | .eq => 0
  | .ne => 1
  | .lt => 2
  | .ge => 3
  | .gt => 4
  | .le => 5
def px_tk (pc : Nat) (off : Int) (b : Nat) : Bool := decide ((pc : Int) + off = (b : Int))
def px_tab (pc : Nat) : Int → List Int → List (Int × Nat)
  | _, [] => []
  | v, o :: os => (v, ((pc : Int) + o).toNat) :: px_tab pc (v + 1) os
def px_c0 (o : Nat) (op : Instr) (len : Nat) (z : Int) : Bool := match op with
  | .iconst k => len == 1 && decide ((Int32.ofInt k).toInt = z)
  | .bipush k => len == 2 && decide ((Int8.ofInt k).toInt32.toInt = z)
  | .sipush k => len == 3 && decide ((Int16.ofInt k).toInt32.toInt = z)
  | .ldc i => (match en_find o i en_kc with
    | some v => len == 2 && decide ((Int32.ofInt v).toInt = z)
    | none => false)
  | .ldc_w i => (match en_find o i en_kc with
    | some v => len == 3 && decide ((Int32.ofInt v).toInt = z)
    | none => false)
  | _ => false
def px_c1 (op : Instr) (len a : Nat) : Bool := match op with
  | .iload_n k => len == 1 && k.val == a
  | .iload i => len == 2 && i == a
  | _ => false
def px_c2 (op : Instr) (len a : Nat) : Bool := match op with
  | .aload_n k => len == 1 && k.val == a
  | .aload i => len == 2 && i == a
  | _ => false
def px_c3 (op : Instr) (len a nL : Nat) : Bool := match op with
  | .istore_n k => len == 1 && (k.val == a && decide (a < nL))
  | .istore i => len == 2 && (i == a && decide (a < nL))
  | _ => false
def px_c4 (op : Instr) (len a nL : Nat) : Bool := match op with
  | .astore_n k => len == 1 && (k.val == a && decide (a < nL))
  | .astore i => len == 2 && (i == a && decide (a < nL))
  | _ => false
def px_c5 (op : Instr) (len a : Nat) (z : Int) : Bool := match op with
  | .iinc i k => len == 3 && (i == a && decide ((Int32.ofInt k).toInt = z))
  | _ => false
def px_c6 (op : Instr) (len a : Nat) : Bool := match op with
  | .iadd => len == 1 && a == 0
  | .isub => len == 1 && a == 1
  | .imul => len == 1 && a == 2
  | .iand => len == 1 && a == 3
  | .ior => len == 1 && a == 4
  | .ixor => len == 1 && a == 5
  | .ishl => len == 1 && a == 6
  | .ishr => len == 1 && a == 7
  | .iushr => len == 1 && a == 8
  | _ => false
def px_c7 (op : Instr) (len a : Nat) : Bool := match op with
  | .idiv => len == 1 && a == 0
  | .irem => len == 1 && a == 1
  | _ => false
def px_c8 (op : Instr) (len a : Nat) : Bool := match op with
  | .i2b => len == 1 && a == 0
  | .i2c => len == 1 && a == 1
  | _ => false
def px_c9 (op : Instr) (len n : Nat) : Bool := match op with
  | .dup => len == 1 && n == 9
  | .dup2 => len == 1 && n == 10
  | .pop => len == 1 && n == 11
  | _ => false
def px_c12 (op : Instr) (len pc b : Nat) : Bool := match op with
  | .goto off => len == 3 && px_tk pc off b
  | _ => false
def px_c13 (op : Instr) (len pc a b : Nat) : Bool := match op with
  | .if_icmp cd off => len == 3 && (px_cd cd == a && px_tk pc off b)
  | _ => false
def px_c14 (op : Instr) (len pc a b : Nat) : Bool := match op with
  | .ifCond cd off => len == 3 && (px_cd cd == a && px_tk pc off b)
  | _ => false
def px_c15 (op : Instr) (pc b : Nat) (ps : List (Int × Nat)) : Bool := match op with
  | .tableswitch d lo hi offs => px_tk pc d b && (decide ((offs.toList.length : Int) = hi - lo + 1) && (decide (ps = px_tab pc lo offs.toList) && offs.toList.all (fun off => decide (0 ≤ (pc : Int) + off))))
  | .lookupswitch d qs => px_tk pc d b && (decide (ps = qs.toList.map (fun u => (u.1, ((pc : Int) + u.2).toNat))) && ((qs.toList.zip (qs.toList.drop 1)).all (fun (a, next) => a.1 < next.1) && qs.toList.all (fun u => decide (0 ≤ (pc : Int) + u.2))))
  | _ => false
def px_c16 (o : Nat) (op : Instr) (len a b : Nat) : Bool := match op with
  | .getfield i => (match en_find o i en_fl with
    | some (ci, f) => (match tF[a]? with
      | some (.inr q) => (match vwCl[ci]? with
        | some r => (match q.2[f]? with
          | some (.inl _) => len == 3 && (q.1 == ci && (decide (f < r.2.2) && f == b))
          | _ => false)
        | none => false)
      | _ => false)
    | none => false)
  | _ => false
def px_c17 (o : Nat) (op : Instr) (len a b : Nat) : Bool := match op with
  | .getfield i => (match en_find o i en_fl with
    | some (ci, f) => (match tF[a]? with
      | some (.inr q) => (match vwCl[ci]? with
        | some r => (match q.2[f]? with
          | some (.inr k) => len == 3 && (q.1 == ci && (decide (f < r.2.2) && k == b + 2))
          | _ => false)
        | none => false)
      | _ => false)
    | none => false)
  | _ => false
def px_bd (z : Int) : Int × Int := match z with
  | .ofNat 0 => en_full
  | .ofNat 1 => (0, 1)
  | _ => (-128, 127)
def px_c18 (o : Nat) (op : Instr) (len a b : Nat) (z : Int) : Bool := match op with
  | .putfield i => (match en_find o i en_fl with
    | some (ci, f) => (match tF[a]? with
      | some (.inr q) => (match vwCl[ci]? with
        | some r => (match q.2[f]? with
          | some (.inl bd) => len == 3 && (q.1 == ci && (decide (f < r.2.2) && (f == b && (decide (bd = px_bd z) && (en_put (en_tyX ci f) (.inl bd) && (!(r.2.1 f).2.2.2 && (decide (z = 0) || decide (z = 1))))))))
          | _ => false)
        | none => false)
      | _ => false)
    | none => false)
  | _ => false
def px_c19 (op : Instr) (len a b : Nat) : Bool := match tF[a]? with
  | some (.inl t) => (match op with
    | .iaload => len == 1 && (t.1 == 0 && t.2.1 == b)
    | .baload => len == 1 && ((t.1 == 1 || t.1 == 2) && t.2.1 == b)
    | _ => false)
  | _ => false
def px_c20 (op : Instr) (len a b : Nat) (z : Int) : Bool := match tF[a]? with
  | some (.inl t) => (match op with
    | .iastore => len == 1 && (t.1 == 0 && (t.2.1 == b && (decide (z = 0) && decide (t.2.2 = en_full))))
    | .bastore => len == 1 && (t.2.1 == b && ((t.1 == 1 && (decide (z = 1) && decide (t.2.2 = (0, 1)))) || (t.1 == 2 && (decide (z = 2) && decide (t.2.2 = (-128, 127))))))
    | _ => false)
  | _ => false
def px_c21 (op : Instr) (len a b : Nat) : Bool := match tF[a]? with
  | some (.inl t) => (match op with
    | .arraylength => len == 1 && (!(t.1 == 3) && (decide (t.2.1 < 2147483648) && t.2.1 == b))
    | _ => false)
  | _ => false
def px_c22 (op : Instr) (len a b : Nat) (z : Int) : Bool := match tF[a]? with
  | some (.inl t) => (match op with
    | .aaload => len == 1 && (t.1 == 3 && (t.2.1 == b && decide (t.2.2.1 = z)))
    | _ => false)
  | _ => false
def px_c23 (o : Nat) (op : Instr) (len a b : Nat) (z : Int) (ps : List (Int × Nat)) : Bool := match op with
  | .invokevirtual i => (match en_find o i en_cl with
    | some (kd, mi, n) => (match ps with
      | [(0, j)] => (match tF[j]? with
        | some (.inr q) => (match en_ms[mi]? with
          | some r => (match en_mo[mi]? with
            | some ci => (match vwCl[ci]? with
              | some _ => kd == 0 && (mi == a && (n == b && (len == 3 && (q.1 == ci && (decide (r.2.2.1 ≤ 60) && (r.2.2.2.isSome == !decide (z = 0)))))))
              | none => false)
            | none => false)
          | none => false)
        | _ => false)
      | _ => false)
    | none => false)
  | _ => false
def px_c24 (o : Nat) (op : Instr) (len a b : Nat) (z : Int) : Bool := match op with
  | .invokestatic i => (match en_find o i en_cl with
    | some (kd, mi, n) => (match en_ms[mi]? with
      | some r => (kd == 1 || kd == 2) && (mi == a && (n == b && (len == 3 && (decide (r.2.2.1 ≤ 60) && (r.2.2.2.isSome == !decide (z = 0))))))
      | none => false)
    | none => false)
  | _ => false
def px_c25 (o : Nat) (op : Instr) (len a : Nat) : Bool := match op with
  | .invokestatic i => (len == 3 && ((a == 0 && decide (en_find o i en_cl = some (1, 16, 2))) || (a == 1 && decide (en_find o i en_cl = some (1, 30, 2)))))
  | _ => false
def px_c26 (o : Nat) (op : Instr) (len a b : Nat) (z : Int) : Bool := match op with
  | .invokestatic i => (match tF[a]? with
    | some (.inl t0) => (match tF[b]? with
      | some (.inl t1) => en_ac.contains (o, i) && (len == 3 && (decide (0 ≤ z) && (t0.1 == 0 && (t1.1 == 0 && (decide (z.toNat ≤ t0.2.1) && (decide (z.toNat ≤ t1.2.1) && (decide (t0.2.2 = t1.2.2) && decide (8 + (nativeFrameWords "java/lang/System" "arraycopy" 5 + 11) ≤ 100))))))))
      | _ => false)
    | _ => false)
  | _ => false
def px_c27 (ret : Option FieldType) (op : Instr) (len a : Nat) : Bool := match op with
  | .ireturn => len == 1 && (match ret with
    | some .int => a == 0
    | some .boolean => a == 1
    | _ => false)
  | _ => false
def px_c28 (ret : Option FieldType) (op : Instr) (len : Nat) : Bool := match op with
  | .return_ => len == 1 && ret.isNone
  | _ => false
def px_c (o nL : Nat) (ret : Option FieldType) (op : Instr) (len pc n a b : Nat) (z : Int) (ps : List (Int × Nat)) : Bool := match n with
  | 0 => px_c0 o op len z
  | 1 => px_c1 op len a
  | 2 => px_c2 op len a
  | 3 => px_c3 op len a nL
  | 4 => px_c4 op len a nL
  | 5 => px_c5 op len a z
  | 6 => px_c6 op len a
  | 7 => px_c7 op len a
  | 8 => px_c8 op len a
  | 9 => px_c9 op len 9
  | 10 => px_c9 op len 10
  | 11 => px_c9 op len 11
  | 12 => px_c12 op len pc b
  | 13 => px_c13 op len pc a b
  | 14 => px_c14 op len pc a b
  | 15 => px_c15 op pc b ps
  | 16 => px_c16 o op len a b
  | 17 => px_c17 o op len a b
  | 18 => px_c18 o op len a b z
  | 19 => px_c19 op len a b
  | 20 => px_c20 op len a b z
  | 21 => px_c21 op len a b
  | 22 => px_c22 op len a b z
  | 23 => px_c23 o op len a b z ps
  | 24 => px_c24 o op len a b z
  | 25 => px_c25 o op len a
  | 26 => px_c26 o op len a b z
  | 27 => px_c27 ret op len a
  | 28 => px_c28 ret op len
  | _ => false
def px_nx (n b pc len : Nat) : Nat := match n with
  | 12 => b
  | _ => pc + len
def px_c30 (o : Nat) (cc : ByteArray) (len pc : Nat) : Bool := o == 0 && (len == 7 && (match decode cc pc, decode cc (pc + 2), decode cc (pc + 3), decode cc (pc + 4) with
  | .ok (.ldc i, l1), .ok (.iload_n k, l2), .ok (.i2c, l3), .ok (.invokevirtual j, l4) => i == 27 && (l1 == 2 && (k == 3 && (l2 == 1 && (l3 == 1 && (j == 119 && l4 == 3)))))
  | _, _, _, _ => false))
theorem px_c30E {o : Nat} {cc : ByteArray} {len pc : Nat} (h : px_c30 o cc len pc = true) : o = 0 ∧ len = 7 ∧ decode cc pc = .ok (.ldc 27, 2) ∧ decode cc (pc + 2) = .ok (.iload_n 3, 1) ∧ decode cc (pc + 3) = .ok (.i2c, 1) ∧ decode cc (pc + 4) = .ok (.invokevirtual 119, 3) := by
  unfold px_c30 at h
  rw [Bool.and_eq_true, Bool.and_eq_true] at h
  obtain ⟨h1, h2, h3⟩ := h
  refine ⟨beq_iff_eq.mp h1, beq_iff_eq.mp h2, ?_⟩
  split at h3
  · rename_i e1 e2 e3 e4
    simp only [Bool.and_eq_true, beq_iff_eq] at h3
    obtain ⟨rfl, rfl, rfl, rfl, rfl, rfl, rfl⟩ := h3
    exact ⟨e1, e2, e3, e4⟩
  · cases h3
def px_ckl (o nL : Nat) (ret : Option FieldType) (cc : ByteArray) : List (pI × Nat) → Nat → Bool
  | [], _ => true
  | (q, len) :: is, pc => (match decide (q.1 = 29) with
    | true => len == 0 && px_ckl o nL ret cc is pc
    | false => (match decide (q.1 = 30) with
      | true => px_c30 o cc len pc && px_ckl o nL ret cc is (pc + len)
      | false => (match decode cc pc with
      | .ok (op, len') => len' == len && (px_c o nL ret op len pc q.1 q.2.1 q.2.2.1 q.2.2.2.1 q.2.2.2.2 && px_ckl o nL ret cc is (px_nx q.1 q.2.2.1 pc len))
      | .error _ => false)))
def px_ckm (mi : Nat) (is : List (pI × Nat)) (pc : Nat) : Bool := match en_ms[mi]? with
  | some r => (match en_mo[mi]? with
    | some o => px_ckl o r.2.2.1 r.2.2.2 r.2.1 is pc
    | none => false)
  | none => false
def px_R (l : Launch) (fr mi : Nat) (rv : Int) (rσ : pS) (G : Nat → pL → List pV → pS → Prop) : Prop := ∀ (is : List (pI × Nat)) (pc : Nat) (L : pL) (S : List pV) (σ : pS), px_ckm mi is pc = true → px_wp l fr rv rσ G is pc L S σ → G pc L S σ
