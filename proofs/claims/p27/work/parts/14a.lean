/-- exact worlds: a number or a cell; what lies in a cell's places -/
abbrev pV : Type := Int ⊕ Nat
abbrev pS : Type := Nat → Nat → Int
abbrev pL : Type := List (Option pV)
/-- an instruction, its places found: number, operands, pairs -/
abbrev pI : Type := Nat × Nat × Nat × Int × List (Int × Nat)
def pe (a : pV) : en_V := match a with
  | .inl z => .inl (z, z)
  | .inr k => .inr (k + 2)
def pw (z : Int) : Int := z.bmod 4294967296
def pO (f : Int32 → Int32 → Int32) (a b : Int) : Int := (f (Int32.ofInt a) (Int32.ofInt b)).toInt
def pAnd (a b : Int) : Int := pO (fun x y => x &&& y) a b
def pOr (a b : Int) : Int := pO (fun x y => x ||| y) a b
def pXor (a b : Int) : Int := pO (fun x y => x ^^^ y) a b
def pShl (a b : Int) : Int := pO (fun x y => x <<< (y &&& 31)) a b
def pShr (a b : Int) : Int := pO (fun x y => x >>> (y &&& 31)) a b
def pUsh (a b : Int) : Int := pO (fun x y => (x.toUInt32 >>> (y.toUInt32 &&& Int32.toUInt32 31)).toInt32) a b
def pDiv (a b : Int) : Int := pO (fun x y => x / y) a b
def pRem (a b : Int) : Int := pO (fun x y => x - x / y * y) a b
def pI2b (a : Int) : Int := ((Int32.ofInt a).toInt8.toInt32).toInt
def pI2c (a : Int) : Int := (((Int32.ofInt a).toUInt32 % 65536).toInt32).toInt
def pMin (a b : Int) : Int := if b < a then b else a
def pMax (a b : Int) : Int := if a < b then b else a
/-- the place of a letter among ikcsnrw -/
def pIdx (c : Int) : Int := if c = 105 then 0 else if c = 107 then 1 else if c = 99 then 2 else if c = 115 then 3 else if c = 110 then 4 else if c = 114 then 5 else if c = 119 then 6 else -1
def pB (k : Nat) (a b : Int) : Int := match k with
  | 0 => pw (a + b)
  | 1 => pw (a - b)
  | 2 => pw (a * b)
  | 3 => pAnd a b
  | 4 => pOr a b
  | 5 => pXor a b
  | 6 => pShl a b
  | 7 => pShr a b
  | _ => pUsh a b
def px_dr (a : Nat) (x y : Int) : Int := match a with
  | 0 => pDiv x y
  | _ => pRem x y
def px_ib (a : Nat) (x : Int) : Int := match a with
  | 0 => pI2b x
  | _ => pI2c x
def px_mm (a : Nat) (x y : Int) : Int := match a with
  | 0 => pMin x y
  | _ => pMax x y
def px_rs (z v : Int) (S : List pV) : List pV := match z with
  | .ofNat 0 => S
  | _ => .inl v :: S
def pCd (k : Nat) (a b : Int) : Prop := match k with
  | 0 => a = b
  | 1 => a ≠ b
  | 2 => a < b
  | 3 => b ≤ a
  | 4 => b < a
  | _ => a ≤ b
def pU (σ : pS) (j i : Nat) (v : Int) : pS := fun k x => if k = j ∧ x = i then v else σ k x
def pKp (σ : pS) (j0 j1 n : Nat) : pS := fun k x => if k = j1 ∧ x < n then σ j0 x else σ k x
def sg (ws : va_W) : pS := fun k i => match ws[k]? with
  | some (_, .inl (_, n, .inl f)) => if i < n then (f i).toInt else 0
  | some (_, .inr (_, vs)) => (match vs[i]? with
    | some (.int x) => x.toInt
    | _ => 0)
  | _ => 0
theorem pO_ok (f : Int32 → Int32 → Int32) (x y : Int32) : (f x y).toInt = pO f x.toInt y.toInt := by
  unfold pO
  rw [Int32.ofInt_toInt, Int32.ofInt_toInt]
theorem sg_arr {ws : va_W} {k a : Nat} {cA : ClassId} {n : Nat} {f : Nat → Int32} (h : ws[k]? = some (a, .inl (cA, n, .inl f))) (i : Nat) : sg ws k i = if i < n then (f i).toInt else 0 := by
  unfold sg
  rw [h]
theorem sg_obj {ws : va_W} {k a : Nat} {ci : Nat} {vs : List Value} (h : ws[k]? = some (a, .inr (ci, vs))) (i : Nat) : sg ws k i = match vs[i]? with
    | some (.int x) => x.toInt
    | _ => 0 := by
  unfold sg
  rw [h]
theorem sg_obji {ws : va_W} {k a : Nat} {ci : Nat} {vs : List Value} {i : Nat} {x : Int32} (h : ws[k]? = some (a, .inr (ci, vs))) (hi : vs[i]? = some (.int x)) : sg ws k i = x.toInt := by
  rw [sg_obj h, hi]
theorem sg_ne {ws : va_W} {j : Nat} {q : Nat × va_E} {k : Nat} (h : k ≠ j) (i : Nat) : sg (ws.set j q) k i = sg ws k i := by
  unfold sg
  rw [List.getElem?_set_ne (Ne.symm h)]
theorem sg_seta {ws : va_W} {j a : Nat} {cA : ClassId} {n : Nat} {f : Nat → Int32} (h : ws[j]? = some (a, .inl (cA, n, .inl f))) {i : Nat} (hi : i < n) (x : Int32) : sg (ws.set j (a, .inl (cA, n, .inl (upd f i x)))) = pU (sg ws) j i x.toInt := by
  funext k y
  unfold pU
  by_cases hk : k = j
  · subst hk
    have h1 : (ws.set k (a, .inl (cA, n, .inl (upd f i x))))[k]? = some (a, .inl (cA, n, .inl (upd f i x))) := List.getElem?_set_self (List.getElem?_eq_some_iff.mp h).1
    rw [sg_arr h1, sg_arr h]
    unfold upd
    by_cases hy : y = i
    · subst hy
      rw [if_pos hi, if_pos rfl, if_pos ⟨rfl, rfl⟩]
    · rw [if_neg hy, if_neg (c := k = k ∧ y = i) (fun h => hy h.2)]
  · rw [sg_ne hk, if_neg (fun h => hk h.1)]
theorem sg_seto {ws : va_W} {j a ci : Nat} {vs : List Value} (h : ws[j]? = some (a, .inr (ci, vs))) {i : Nat} (hi : i < vs.length) (x : Int32) : sg (ws.set j (a, .inr (ci, vs.set i (.int x)))) = pU (sg ws) j i x.toInt := by
  funext k y
  unfold pU
  by_cases hk : k = j
  · subst hk
    have h1 : (ws.set k (a, .inr (ci, vs.set i (.int x))))[k]? = some (a, .inr (ci, vs.set i (.int x))) := List.getElem?_set_self (List.getElem?_eq_some_iff.mp h).1
    rw [sg_obj h1, sg_obj h]
    by_cases hy : y = i
    · subst hy
      rw [List.getElem?_set_self hi, if_pos ⟨rfl, rfl⟩]
    · rw [List.getElem?_set_ne (Ne.symm hy), if_neg (fun h => hy h.2)]
  · rw [sg_ne hk, if_neg (fun h => hk h.1)]
theorem sg_cpy {ws : va_W} {j0 j1 a0 a1 : Nat} {cA cB : ClassId} {n0 n1 n : Nat} {f g : Nat → Int32} (h0 : ws[j0]? = some (a0, .inl (cA, n0, .inl f))) (h1 : ws[j1]? = some (a1, .inl (cB, n1, .inl g))) (hn0 : n ≤ n0) (hn1 : n ≤ n1) : sg (ws.set j1 (a1, .inl (cB, n1, .inl (va_cpy f g 0 0 n)))) = pKp (sg ws) j0 j1 n := by
  funext k y
  unfold pKp
  by_cases hk : k = j1
  · subst hk
    have h2 : (ws.set k (a1, .inl (cB, n1, .inl (va_cpy f g 0 0 n))))[k]? = some (a1, .inl (cB, n1, .inl (va_cpy f g 0 0 n))) := List.getElem?_set_self (List.getElem?_eq_some_iff.mp h1).1
    rw [sg_arr h2, sg_arr h0, sg_arr h1]
    by_cases hy : y < n
    · rw [pk_cpy_in (Nat.zero_le _) (by omega), if_pos (by omega), if_pos ⟨rfl, hy⟩, if_pos (by omega)]
      simp
    · rw [pk_cpy_out (Or.inr (by omega)), if_neg (c := k = k ∧ y < n) (fun h => hy h.2)]
  · rw [sg_ne hk, if_neg (fun h => hk h.1)]
/-- the world's types with the bounds left out -/
def pf_V (ty : FieldType) (a : en_V) : en_V := match a with
  | .inl _ => .inl (match ty with
    | .boolean => (0, 1)
    | _ => en_full)
  | .inr k => .inr k
def pf_L (ci : Nat) : Nat → List en_V → List en_V
  | _, [] => []
  | i, a :: as => pf_V (en_tyX ci i) a :: pf_L ci (i + 1) as
def pf_c (t : en_C) : en_C := match t with
  | .inl q => (match q.1 with
    | 0 => .inl (0, q.2.1, en_full)
    | 1 => .inl (1, q.2.1, 0, 1)
    | 2 => .inl (2, q.2.1, -128, 127)
    | _ => .inl q)
  | .inr q => .inr (q.1, pf_L q.1 0 q.2)
def tF : en_T := tQ.map pf_c
theorem pe_i {N : Nat} {ad : Nat → Nat} {x : Int32} {a : Int} (h : x.toInt = a) : en_v N ad (pe (.inl a)) (.int x) := ⟨x, rfl, by dsimp only; omega, by dsimp only; omega⟩
theorem pe_iE {N : Nat} {ad : Nat → Nat} {x : Value} {a : Int} (h : en_v N ad (pe (.inl a)) x) : ∃ i : Int32, x = .int i ∧ i.toInt = a := by
  obtain ⟨i, h1, h2, h3⟩ := h
  exact ⟨i, h1, by dsimp only at h2 h3; omega⟩
theorem pe_r {N : Nat} {ad : Nat → Nat} {k : Nat} (h : k < N) : en_v N ad (pe (.inr k)) (.ref (ad k)) := ⟨rfl, h⟩
theorem pe_rE {N : Nat} {ad : Nat → Nat} {x : Value} {k : Nat} (h : en_v N ad (pe (.inr k)) x) : x = .ref (ad k) ∧ k < N := h
theorem pe_s {N : Nat} {ad : Nat → Nat} {a : pV} {S : List pV} {xs : List Value} (h : en_vs N ad ((a :: S).map pe) xs) : ∃ x ys, xs = x :: ys ∧ en_v N ad (pe a) x ∧ en_vs N ad (S.map pe) ys := by
  cases xs with
  | nil => exact h.elim
  | cons x ys => exact ⟨x, ys, rfl, h.1, h.2⟩
theorem pe_0 {N : Nat} {ad : Nat → Nat} {xs : List Value} (h : en_vs N ad (([] : List pV).map pe) xs) : xs = [] := by
  cases xs with
  | nil => rfl
  | cons x ys => exact h.elim
theorem pe_len {N : Nat} {ad : Nat → Nat} {S : List pV} {xs : List Value} (h : en_vs N ad (S.map pe) xs) : (xs.map fun v => v.category).sum = S.length := by
  rw [en_vs_cat h, List.length_map]
theorem pe_app {N : Nat} {ad : Nat → Nat} {A S : List pV} {xs : List Value} (h : en_vs N ad ((A ++ S).map pe) xs) : ∃ us ys, xs = us ++ ys ∧ en_vs N ad (A.map pe) us ∧ en_vs N ad (S.map pe) ys := by
  rw [List.map_append] at h
  exact en_vs_app h
def px_rm (fr : Nat) : Room := { frames := fr, cells := 0, slots := 0, locals := 100 * fr }
def px_qc (D : va_G) (tys : List (ClassId × FieldType)) (b0 : Nat) (ad : Nat → Nat) (v : Int) (σ : pS) (rt : Bool) : Array Value → State → Outcome → State → Prop := match rt with
  | true => va_Qi (S := va_W) (fun x w => ev_w tys tF ad w ∧ sg w = σ ∧ x.toInt = v) (fun w t => va_P D vwCl w t.heap ∧ va_D (fun q => b0 ≤ q) w) (fun q => b0 ≤ q)
  | false => va_Qv (S := va_W) (fun w => ev_w tys tF ad w ∧ sg w = σ) (fun w t => va_P D vwCl w t.heap ∧ va_D (fun q => b0 ≤ q) w) (fun q => b0 ≤ q)
/-- a call's exact contract: with these arguments over this store it comes back with v and the store σ' -/
def Con (l : Launch) (fr mi : Nat) (as : List pV) (σ : pS) (v : Int) (σ' : pS) : Prop := ∀ r, en_ms[mi]? = some r → ∀ (D : va_G) (tys : List (ClassId × FieldType)) (aK aV b0 : Nat) (ad : Nat → Nat) (w0 : va_W) (vs : List Value), en_vs tF.length ad (as.map pe) vs → ev_w tys tF ad w0 → sg w0 = σ →
  Met l r.1 (Cond.code r.1 r.2.1 r.2.2.1 r.2.2.2 :: en_ws) (px_rm fr) (ek_pc D tys aK aV b0 w0 vs) (px_qc D tys b0 ad v σ' r.2.2.2.isSome) 0 0 (fun q => b0 ≤ q)
def px_at (s : State) (D : va_G) (tys : List (ClassId × FieldType)) (b0 nL : Nat) (ad : Nat → Nat) (L : pL) (S : List pV) (σ : pS) (H : Heap) (locs : List Loc) (ls : Array Slot) (stk : List Value) (ws : va_W) : Prop :=
  (ls.size = nL ∧ lv_wf ls ∧ L.length = nL) ∧ (∀ (i : Nat) (a : pV), L[i]? = some (some a) → ∃ x : Value, ls[i]? = some (.val x) ∧ en_v tF.length ad (pe a) x) ∧ en_vs tF.length ad (S.map pe) stk ∧ ev_w tys tF ad ws ∧ sg ws = σ ∧ va_P D vwCl ws H ∧ va_D (fun q => b0 ≤ q) ws ∧ va_S (fun q => b0 ≤ q) s.heap H locs
def px_go (p : Program) (l : Launch) (e : Env) (R : Room) (s : State) (m : MethodId) (args : Array Value) (below : List Frame) (meth : Method) (c : Code) (Q : State → Prop) (D : va_G) (tys : List (ClassId × FieldType)) (b0 nL : Nat) (ad : Nat → Nat) (pc : Nat) (L : pL) (S : List pV) (σ : pS) : Prop :=
  ∀ (H : Heap) (locs : List Loc) (ls : Array Slot) (stk : List Value) (ws : va_W), px_at s D tys b0 nL ad L S σ H locs ls stk ws → W p l e R s m args below meth c H locs 0 0 Q (F0 m pc ls stk)
/-- a switch: by the pairs, in their order -/
def px_sw (a : Int) (G : Nat → Prop) (d : Nat) : List (Int × Nat) → Prop
  | [] => G d
  | q :: r => (a = q.1 → G q.2) ∧ (a ≠ q.1 → px_sw a G d r)
def px_tg (a : Int) (d : Nat) : List (Int × Nat) → Nat
  | [] => d
  | q :: r => if a = q.1 then q.2 else px_tg a d r
theorem px_sw_tg {a : Int} {G : Nat → Prop} {d : Nat} : ∀ {ps : List (Int × Nat)}, px_sw a G d ps → G (px_tg a d ps)
  | [], h => h
  | q :: r, h => by
    unfold px_tg
    by_cases hq : a = q.1
    · rw [if_pos hq]
      exact h.1 hq
    · rw [if_neg hq]
      exact px_sw_tg (h.2 hq)
def px_if (b : Bool) (P : Prop) : Prop := match b with
  | true => P
  | false => False
theorem px_ifE {b : Bool} {P : Prop} (h : px_if b P) : b = true ∧ P := by
  cases b with
  | true => exact ⟨rfl, h⟩
  | false => exact h.elim
/-- what must hold for an instruction, so that what is behind it holds -/
def px_w0 (z : Int) (nx : Nat) (L : pL) (S : List pV) (σ : pS) (k : Nat → pL → List pV → pS → Prop) : Prop := k nx L (.inl z :: S) σ
def px_w1 (a : Nat) (nx : Nat) (L : pL) (S : List pV) (σ : pS) (k : Nat → pL → List pV → pS → Prop) : Prop := match L[a]? with
    | some (some (.inl v)) => k nx L (.inl v :: S) σ
    | _ => False
def px_w2 (a : Nat) (nx : Nat) (L : pL) (S : List pV) (σ : pS) (k : Nat → pL → List pV → pS → Prop) : Prop := match L[a]? with
    | some (some (.inr j)) => k nx L (.inr j :: S) σ
    | _ => False
def px_w3 (a : Nat) (nx : Nat) (L : pL) (S : List pV) (σ : pS) (k : Nat → pL → List pV → pS → Prop) : Prop := match S with
    | .inl v :: S' => k nx (L.set a (some (.inl v))) S' σ
    | _ => False
def px_w4 (a : Nat) (nx : Nat) (L : pL) (S : List pV) (σ : pS) (k : Nat → pL → List pV → pS → Prop) : Prop := match S with
    | .inr j :: S' => k nx (L.set a (some (.inr j))) S' σ
    | _ => False
def px_w5 (a : Nat) (z : Int) (nx : Nat) (L : pL) (S : List pV) (σ : pS) (k : Nat → pL → List pV → pS → Prop) : Prop := match L[a]? with
    | some (some (.inl v)) => k nx (L.set a (some (.inl (pw (v + z))))) S σ
    | _ => False
def px_w6 (a : Nat) (nx : Nat) (L : pL) (S : List pV) (σ : pS) (k : Nat → pL → List pV → pS → Prop) : Prop := match S with
    | .inl y :: .inl x :: S' => k nx L (.inl (pB a x y) :: S') σ
    | _ => False
def px_w7 (a : Nat) (nx : Nat) (L : pL) (S : List pV) (σ : pS) (k : Nat → pL → List pV → pS → Prop) : Prop := match S with
    | .inl y :: .inl x :: S' => y ≠ 0 ∧ ∀ r : Int, r = px_dr a x y → k nx L (.inl r :: S') σ
    | _ => False
def px_w8 (a : Nat) (nx : Nat) (L : pL) (S : List pV) (σ : pS) (k : Nat → pL → List pV → pS → Prop) : Prop := match S with
    | .inl x :: S' => k nx L (.inl (px_ib a x) :: S') σ
    | _ => False
def px_w9 (nx : Nat) (L : pL) (S : List pV) (σ : pS) (k : Nat → pL → List pV → pS → Prop) : Prop := match S with
    | x :: S' => k nx L (x :: x :: S') σ
    | _ => False
def px_w10 (nx : Nat) (L : pL) (S : List pV) (σ : pS) (k : Nat → pL → List pV → pS → Prop) : Prop := match S with
    | x :: y :: S' => k nx L (x :: y :: x :: y :: S') σ
    | _ => False
def px_w11 (nx : Nat) (L : pL) (S : List pV) (σ : pS) (k : Nat → pL → List pV → pS → Prop) : Prop := match S with
    | _ :: S' => k nx L S' σ
    | _ => False
def px_w12 (b : Nat) (L : pL) (S : List pV) (σ : pS) (k : Nat → pL → List pV → pS → Prop) : Prop := k b L S σ
def px_w13 (G : Nat → pL → List pV → pS → Prop) (a : Nat) (b : Nat) (nx : Nat) (L : pL) (S : List pV) (σ : pS) (k : Nat → pL → List pV → pS → Prop) : Prop := match S with
    | .inl y :: .inl x :: S' => (pCd a x y → G b L S' σ) ∧ (¬ pCd a x y → k nx L S' σ)
    | _ => False
def px_w14 (G : Nat → pL → List pV → pS → Prop) (a : Nat) (b : Nat) (nx : Nat) (L : pL) (S : List pV) (σ : pS) (k : Nat → pL → List pV → pS → Prop) : Prop := match S with
    | .inl x :: S' => (pCd a x 0 → G b L S' σ) ∧ (¬ pCd a x 0 → k nx L S' σ)
    | _ => False
def px_w15 (G : Nat → pL → List pV → pS → Prop) (b : Nat) (ps : List (Int × Nat)) (L : pL) (S : List pV) (σ : pS) : Prop := match S with
    | .inl x :: S' => px_sw x (fun pc => G pc L S' σ) b ps
    | _ => False
def px_w16 (a : Nat) (b : Nat) (nx : Nat) (L : pL) (S : List pV) (σ : pS) (k : Nat → pL → List pV → pS → Prop) : Prop := match S with
    | .inr j :: S' => px_if (decide (j = a)) (k nx L (.inl (σ a b) :: S') σ)
    | _ => False
def px_w17 (a : Nat) (b : Nat) (nx : Nat) (L : pL) (S : List pV) (σ : pS) (k : Nat → pL → List pV → pS → Prop) : Prop := match S with
    | .inr j :: S' => px_if (decide (j = a)) (k nx L (.inr b :: S') σ)
    | _ => False
def px_w18 (a : Nat) (b : Nat) (z : Int) (nx : Nat) (L : pL) (S : List pV) (σ : pS) (k : Nat → pL → List pV → pS → Prop) : Prop := match S with
    | .inl v :: .inr j :: S' => px_if (decide (j = a)) (match z with
      | .ofNat 0 => k nx L S' (pU σ a b v)
      | _ => (0 ≤ v ∧ v ≤ 1) ∧ k nx L S' (pU σ a b v))
    | _ => False
def px_w19 (a : Nat) (b : Nat) (nx : Nat) (L : pL) (S : List pV) (σ : pS) (k : Nat → pL → List pV → pS → Prop) : Prop := match S with
    | .inl i :: .inr j :: S' => px_if (decide (j = a)) ((0 ≤ i ∧ i < b) ∧ k nx L (.inl (σ a i.toNat) :: S') σ)
    | _ => False
def px_w20 (a : Nat) (b : Nat) (z : Int) (nx : Nat) (L : pL) (S : List pV) (σ : pS) (k : Nat → pL → List pV → pS → Prop) : Prop := match S with
    | .inl v :: .inl i :: .inr j :: S' => px_if (decide (j = a)) ((0 ≤ i ∧ i < b) ∧ (match z with
      | .ofNat 0 => k nx L S' (pU σ a i.toNat v)
      | .ofNat 1 => (0 ≤ v ∧ v ≤ 1) ∧ k nx L S' (pU σ a i.toNat v)
      | _ => (-128 ≤ v ∧ v ≤ 127) ∧ k nx L S' (pU σ a i.toNat v)))
    | _ => False
def px_w21 (a : Nat) (b : Nat) (nx : Nat) (L : pL) (S : List pV) (σ : pS) (k : Nat → pL → List pV → pS → Prop) : Prop := match S with
    | .inr j :: S' => px_if (decide (j = a)) (k nx L (.inl (b : Int) :: S') σ)
    | _ => False
def px_w22 (a : Nat) (b : Nat) (z : Int) (nx : Nat) (L : pL) (S : List pV) (σ : pS) (k : Nat → pL → List pV → pS → Prop) : Prop := match S with
    | .inl i :: .inr j :: S' => px_if (decide (j = a)) ((0 ≤ i ∧ i < b) ∧ ∀ q : Nat, q < b → i = (q : Int) → k nx L (.inr (z.toNat + q) :: S') σ)
    | _ => False
def px_w23 (l : Launch) (fr : Nat) (a : Nat) (b : Nat) (z : Int) (ps : List (Int × Nat)) (nx : Nat) (L : pL) (S : List pV) (σ : pS) (k : Nat → pL → List pV → pS → Prop) : Prop := match S.drop b with
    | .inr j :: S' => px_if (decide (ps = [(0, j)] ∧ (S.take b).length = b ∧ S'.length ≤ 8)) (∃ (f' : Nat) (v : Int) (σ' : pS), f' + 1 ≤ fr ∧ Con l f' a (.inr j :: (S.take b).reverse) σ v σ' ∧ k nx L (px_rs z v S') σ')
    | _ => False
def px_w24 (l : Launch) (fr : Nat) (a : Nat) (b : Nat) (z : Int) (nx : Nat) (L : pL) (S : List pV) (σ : pS) (k : Nat → pL → List pV → pS → Prop) : Prop := px_if (decide ((S.take b).length = b ∧ (S.drop b).length ≤ 8)) (∃ (f' : Nat) (v : Int) (σ' : pS), f' + 1 ≤ fr ∧ Con l f' a (S.take b).reverse σ v σ' ∧ k nx L (px_rs z v (S.drop b)) σ')
def px_w25 (fr a : Nat) (nx : Nat) (L : pL) (S : List pV) (σ : pS) (k : Nat → pL → List pV → pS → Prop) : Prop := match S with
    | .inl y :: .inl x :: S' => px_if (decide (1 ≤ fr ∧ S'.length ≤ 8)) (k nx L (.inl (px_mm a x y) :: S') σ)
    | _ => False
def px_w26 (fr a : Nat) (b : Nat) (z : Int) (nx : Nat) (L : pL) (S : List pV) (σ : pS) (k : Nat → pL → List pV → pS → Prop) : Prop := match S with
    | .inl q :: .inl d :: .inr j1 :: .inl u :: .inr j0 :: S' => px_if (decide ((q = z ∧ d = 0 ∧ j1 = b ∧ u = 0 ∧ j0 = a) ∧ 1 ≤ fr ∧ S'.length ≤ 8)) (k nx L S' (pKp σ a b z.toNat))
    | _ => False
def px_w27 (rv : Int) (rσ : pS) (a : Nat) (S : List pV) (σ : pS) : Prop := match S with
    | .inl v :: [] => (match a with
      | 0 => v = rv ∧ σ = rσ
      | _ => (0 ≤ v ∧ v ≤ 1) ∧ v = rv ∧ σ = rσ)
    | _ => False
def px_w28 (rσ : pS) (S : List pV) (σ : pS) : Prop := match S with
    | [] => σ = rσ
    | _ => False
def px_w29 (a : Nat) (nx : Nat) (L : pL) (S : List pV) (σ : pS) (k : Nat → pL → List pV → pS → Prop) : Prop := k nx (L.set a none) S σ
def px_w30 (fr : Nat) (nx : Nat) (L : pL) (S : List pV) (σ : pS) (k : Nat → pL → List pV → pS → Prop) : Prop := match S with
    | [] => (match L[(3 : Nat)]? with
      | some (some (.inl x)) => 4 ≤ fr ∧ (0 ≤ x ∧ x ≤ 255) ∧ k nx L [.inl (pIdx x)] σ
      | _ => False)
    | _ => False
def px_w (l : Launch) (fr : Nat) (rv : Int) (rσ : pS) (G : Nat → pL → List pV → pS → Prop) (n a b : Nat) (z : Int) (ps : List (Int × Nat)) (nx : Nat) (L : pL) (S : List pV) (σ : pS) (k : Nat → pL → List pV → pS → Prop) : Prop := match n with
  | 0 => px_w0 z nx L S σ k
  | 1 => px_w1 a nx L S σ k
  | 2 => px_w2 a nx L S σ k
  | 3 => px_w3 a nx L S σ k
  | 4 => px_w4 a nx L S σ k
  | 5 => px_w5 a z nx L S σ k
  | 6 => px_w6 a nx L S σ k
  | 7 => px_w7 a nx L S σ k
  | 8 => px_w8 a nx L S σ k
  | 9 => px_w9 nx L S σ k
  | 10 => px_w10 nx L S σ k
  | 11 => px_w11 nx L S σ k
  | 12 => px_w12 b L S σ k
  | 13 => px_w13 G a b nx L S σ k
  | 14 => px_w14 G a b nx L S σ k
  | 15 => px_w15 G b ps L S σ
  | 16 => px_w16 a b nx L S σ k
  | 17 => px_w17 a b nx L S σ k
  | 18 => px_w18 a b z nx L S σ k
  | 19 => px_w19 a b nx L S σ k
  | 20 => px_w20 a b z nx L S σ k
  | 21 => px_w21 a b nx L S σ k
  | 22 => px_w22 a b z nx L S σ k
  | 23 => px_w23 l fr a b z ps nx L S σ k
  | 24 => px_w24 l fr a b z nx L S σ k
  | 25 => px_w25 fr a nx L S σ k
  | 26 => px_w26 fr a b z nx L S σ k
  | 27 => px_w27 rv rσ a S σ
  | 28 => px_w28 rσ S σ
  | 29 => px_w29 a nx L S σ k
  | 30 => px_w30 fr nx L S σ k
  | _ => False
def px_wp (l : Launch) (fr : Nat) (rv : Int) (rσ : pS) (G : Nat → pL → List pV → pS → Prop) : List (pI × Nat) → Nat → pL → List pV → pS → Prop
  | [], pc, L, S, σ => G pc L S σ
  | (q, len) :: is, pc, L, S, σ => px_w l fr rv rσ G q.1 q.2.1 q.2.2.1 q.2.2.2.1 q.2.2.2.2 (pc + len) L S σ (px_wp l fr rv rσ G is)
def f_Tape_add_1_p3 : Nat → Int → Int → pS → Option (Int × pS)
  | 0, _, _, _ => none
  | n + 1, a1, a2, σ => if a2 < 0 then (some (0, σ)) else (if 260 ≤ (σ 1 1) then (f_Tape_add_1_p3 n a1 (pw (a2 + (-8))) σ) else (if 0 ≤ (σ 1 1) ∧ (σ 1 1) < 260 then (f_Tape_add_1_p3 n a1 (pw (a2 + (-8))) (pU (pU σ 2 ((σ 1 1).toNat) (pAnd (pUsh a1 a2) 255)) 1 1 (pw ((σ 1 1) + 1)))) else none))
def f_Tape_add_1 (a1 : Int) (σ : pS) : Option (Int × pS) := f_Tape_add_1_p3 4096 a1 24 σ
def f_X_feed_0 (a1 a2 a3 a4 a5 : Int) (σ : pS) : Option (Int × pS) := if (pw ((σ 1 1) + 20)) ≤ 260 then ((f_Tape_add_1 a1 σ).bind fun q2 => ((f_Tape_add_1 a2 q2.2).bind fun q3 => ((f_Tape_add_1 a3 q3.2).bind fun q4 => ((f_Tape_add_1 a4 q4.2).bind fun q5 => ((f_Tape_add_1 a5 q5.2).bind fun q6 => (some (q6.2 1 1, q6.2))))))) else (some ((-1), σ))
def f_M_types_84_p2 : Nat → Int → Int → pS → Option (Int × pS)
  | 0, _, _, _ => none
  | n + 1, a1, a2, σ => if a2 < 0 then (some (0, σ)) else (if 0 ≤ (σ 84 18) ∧ (σ 84 18) < 260 then (if (-128) ≤ (pI2b (pShr a1 (pw (8 * a2)))) ∧ (pI2b (pShr a1 (pw (8 * a2)))) ≤ 127 then (f_M_types_84_p2 n a1 (pw (a2 + (-1))) (pU (pU σ 96 ((σ 84 18).toNat) (pI2b (pShr a1 (pw (8 * a2))))) 84 18 (pw ((σ 84 18) + 1)))) else none) else none)
def f_M_types_84 (a1 : Int) (σ : pS) : Option (Int × pS) := f_M_types_84_p2 4096 a1 3 σ
def f_M_feed_84 (a1 a2 a3 a4 a5 : Int) (σ : pS) : Option (Int × pS) := if (pw ((σ 84 18) + 20)) ≤ 260 then ((f_M_types_84 a1 σ).bind fun q2 => ((f_M_types_84 a2 q2.2).bind fun q3 => ((f_M_types_84 a3 q3.2).bind fun q4 => ((f_M_types_84 a4 q4.2).bind fun q5 => ((f_M_types_84 a5 q5.2).bind fun q6 => (some (q6.2 84 18, q6.2))))))) else (some ((-1), σ))
def f_Tape_beginText_1 (a1 : Int) (σ : pS) : Option (Int × pS) := some (0, pU (pU (pU σ 1 2 (pMin a1 (σ 1 1))) 1 3 0) 1 4 0)
def f_Tape_fault_1 (σ : pS) : Option (Int × pS) := some (σ 1 4, σ)
def f_Tape_sign_1 (σ : pS) : Option (Int × pS) := if (σ 1 3) < 0 then (some ((-1), σ)) else (if (σ 1 2) ≤ (σ 1 3) then (some ((-1), σ)) else (if 260 ≤ (σ 1 3) then (some ((-1), σ)) else (if 0 ≤ (σ 1 3) ∧ (σ 1 3) < 260 then (some (σ 2 (σ 1 3).toNat, σ)) else none)))
def f_Prog_kindOf (a0 : Int) (σ : pS) : Option (Int × pS) := if a0 = 35 then (some (0, σ)) else (if a0 = 38 then (some (1, σ)) else (if a0 = 42 then (some (1, σ)) else (if a0 = 43 then (some (1, σ)) else (if a0 = 45 then (some (1, σ)) else (if a0 = 62 then (some (1, σ)) else (if a0 = 76 then (some (2, σ)) else (if a0 = 83 then (some (3, σ)) else (if a0 = 94 then (some (1, σ)) else (some ((-1), σ))))))))))
def f_Tape_step_1 (σ : pS) : Option (Int × pS) := some (0, pU σ 1 3 (pw ((σ 1 3) + 1)))
def f_Prog_sizeOf (a0 : Int) (σ : pS) : Option (Int × pS) := if a0 = 98 then (some (1, σ)) else (if a0 = 104 then (some (2, σ)) else (if a0 = 119 then (some (4, σ)) else (some (0, σ))))
def f_Tape_fail_1 (a1 : Int) (σ : pS) : Option (Int × pS) := some (0, pU σ 1 4 (pw ((pw ((-1000) * a1)) - (σ 1 3))))
def f_Tape_readRegister_1_p18 (σ : pS) : Option (Int × pS) := (f_Tape_fail_1 1 σ).bind fun q3 => (some ((-1), q3.2))
def f_Tape_readRegister_1 (σ : pS) : Option (Int × pS) := (f_Tape_sign_1  σ).bind fun q1 => (if (pw (q1.1 - 48)) < 0 then (f_Tape_readRegister_1_p18  q1.2) else (if (pw (q1.1 - 48)) < 8 then (some (pw (q1.1 - 48), pU q1.2 1 3 (pw ((q1.2 1 3) + 1)))) else (f_Tape_readRegister_1_p18  q1.2)))
def f_Tape_accept_1 (a1 : Int) (σ : pS) : Option (Int × pS) := (f_Tape_sign_1  σ).bind fun q1 => (if q1.1 = a1 then (some (1, pU q1.2 1 3 (pw ((q1.2 1 3) + 1)))) else ((f_Tape_fail_1 1 q1.2).bind fun q3 => (if 0 ≤ q3.1 ∧ q3.1 ≤ 1 then (some (q3.1, q3.2)) else none)))
def f_Prog_readGiven_45_1 (a2 : Int) (σ : pS) : Option (Int × pS) := (f_Tape_readRegister_1  σ).bind fun q1 => (if 0 ≤ a2 ∧ a2 < 20 then (if 0 ≤ a2 ∧ a2 < 20 then (if ((pU q1.2 49 (a2.toNat) q1.1) 49 a2.toNat) = (-1) then (some (0, pU q1.2 49 (a2.toNat) q1.1)) else ((f_Tape_accept_1 44 (pU q1.2 49 (a2.toNat) q1.1)).bind fun q5 => (if q5.1 = 0 then (some (0, q5.2)) else (some (1, q5.2))))) else none) else none)
def f_Tape_digitNext_1 (σ : pS) : Option (Int × pS) := (f_Tape_sign_1  σ).bind fun q1 => (if q1.1 < 48 then (some (0, q1.2)) else ((f_Tape_sign_1  q1.2).bind fun q3 => (if 57 < q3.1 then (some (0, q3.2)) else (some (1, q3.2)))))
def f_Tape_readDigits_1_p64 (a2 : Int) (σ : pS) : Option (Int × pS) := (f_Tape_digitNext_1  σ).bind fun q2 => (if q2.1 = 0 then (some (a2, q2.2)) else ((f_Tape_fail_1 2 q2.2).bind fun q4 => (some ((-1), q4.2))))
def f_Tape_readDigits_1_p20 (k_4 : Int → Int → Int → pS → Option (Int × pS)) (a1 a2 a3 : Int) (σ : pS) : Option (Int × pS) := (f_Tape_digitNext_1  σ).bind fun q6 => (if q6.1 = 0 then ((f_Tape_fail_1 1 q6.2).bind fun q9 => (some ((-1), q9.2))) else ((f_Tape_sign_1  q6.2).bind fun q8 => (k_4 a1 (pw ((pw ((pw (a2 * 10)) + q8.1)) - 48)) (pw (a3 + 1)) (pU q8.2 1 3 (pw ((q8.2 1 3) + 1))))))
def f_Tape_readDigits_1_p4 : Nat → Int → Int → Int → pS → Option (Int × pS)
  | 0, _, _, _, _ => none
  | n + 1, a1, a2, a3, σ => if a1 ≤ a3 then (f_Tape_readDigits_1_p64 a2 σ) else (if a3 = 0 then (f_Tape_readDigits_1_p20 (f_Tape_readDigits_1_p4 n) a1 a2 a3 σ) else ((f_Tape_digitNext_1  σ).bind fun q10 => (if q10.1 = 0 then (f_Tape_readDigits_1_p64 a2 q10.2) else (f_Tape_readDigits_1_p20 (f_Tape_readDigits_1_p4 n) a1 a2 a3 q10.2))))
def f_Tape_readDigits_1 (a1 : Int) (σ : pS) : Option (Int × pS) := f_Tape_readDigits_1_p4 4096 a1 0 0 σ
def f_Prog_readNumber_45_1 (a2 : Int) (σ : pS) : Option (Int × pS) := (f_Tape_readDigits_1 4 σ).bind fun q1 => (if 0 ≤ a2 ∧ a2 < 20 then (if 0 ≤ a2 ∧ a2 < 20 then (if ((pU q1.2 52 (a2.toNat) q1.1) 52 a2.toNat) = (-1) then (some (0, pU q1.2 52 (a2.toNat) q1.1)) else (some (1, pU q1.2 52 (a2.toNat) q1.1))) else none) else none)
def f_Prog_readMove_45_1_p116 (a2 : Int) (σ : pS) : Option (Int × pS) := (f_Prog_readNumber_45_1 a2 σ).bind fun q13 => (if 0 ≤ q13.1 ∧ q13.1 ≤ 1 then (some (q13.1, q13.2)) else none)
def f_Prog_readMove_45_1_p72 (a2 : Int) (σ : pS) : Option (Int × pS) := (f_Tape_sign_1  σ).bind fun q11 => (if q11.1 = 114 then ((f_Tape_step_1  q11.2).bind fun q15 => ((f_Tape_readRegister_1  q15.2).bind fun q16 => (if 0 ≤ a2 ∧ a2 < 20 then (if 0 ≤ a2 ∧ a2 < 20 then (if ((pU q16.2 51 (a2.toNat) q16.1) 51 a2.toNat) = (-1) then (some (0, pU q16.2 51 (a2.toNat) q16.1)) else ((f_Tape_accept_1 43 (pU q16.2 51 (a2.toNat) q16.1)).bind fun q20 => (if q20.1 = 0 then (some (0, q20.2)) else (f_Prog_readMove_45_1_p116 a2 q20.2)))) else none) else none))) else (f_Prog_readMove_45_1_p116 a2 q11.2))
def f_Prog_readMove_45_1 (a2 : Int) (σ : pS) : Option (Int × pS) := (f_Tape_sign_1  σ).bind fun q1 => ((f_Prog_sizeOf q1.1 q1.2).bind fun q2 => (if 0 ≤ a2 ∧ a2 < 20 then (if 0 ≤ a2 ∧ a2 < 20 then (if ((pU q2.2 48 (a2.toNat) q2.1) 48 a2.toNat) = 0 then ((f_Tape_fail_1 1 (pU q2.2 48 (a2.toNat) q2.1)).bind fun q25 => (if 0 ≤ q25.1 ∧ q25.1 ≤ 1 then (some (q25.1, q25.2)) else none)) else ((f_Tape_step_1  (pU q2.2 48 (a2.toNat) q2.1)).bind fun q6 => ((f_Prog_readGiven_45_1 a2 q6.2).bind fun q7 => (if q7.1 = 0 then (some (0, q7.2)) else (if 0 ≤ a2 ∧ a2 < 20 then (if (q7.2 46 a2.toNat) = 3 then (if 0 ≤ a2 ∧ a2 < 20 then (if 0 ≤ a2 ∧ a2 < 20 then (if 0 ≤ a2 ∧ a2 < 20 then (f_Prog_readMove_45_1_p72 a2 (pU (pU q7.2 50 (a2.toNat) (q7.2 49 a2.toNat)) 49 (a2.toNat) (-1))) else none) else none) else none) else (f_Prog_readMove_45_1_p72 a2 q7.2)) else none))))) else none) else none))
def f_Prog_readReckoning_45_1 (a2 : Int) (σ : pS) : Option (Int × pS) := (f_Prog_readGiven_45_1 a2 σ).bind fun q1 => (if q1.1 = 0 then (some (0, q1.2)) else ((f_Tape_readRegister_1  q1.2).bind fun q3 => (if 0 ≤ a2 ∧ a2 < 20 then (if 0 ≤ a2 ∧ a2 < 20 then (if ((pU q3.2 50 (a2.toNat) q3.1) 50 a2.toNat) = (-1) then (some (0, pU q3.2 50 (a2.toNat) q3.1)) else ((f_Tape_accept_1 44 (pU q3.2 50 (a2.toNat) q3.1)).bind fun q7 => (if q7.1 = 0 then (some (0, q7.2)) else ((f_Tape_readRegister_1  q7.2).bind fun q9 => (if 0 ≤ a2 ∧ a2 < 20 then (if 0 ≤ a2 ∧ a2 < 20 then (if ((pU q9.2 51 (a2.toNat) q9.1) 51 a2.toNat) = (-1) then (some (0, pU q9.2 51 (a2.toNat) q9.1)) else (some (1, pU q9.2 51 (a2.toNat) q9.1))) else none) else none))))) else none) else none)))
def f_Prog_readOp_45_1 (a2 : Int) (σ : pS) : Option (Int × pS) := (f_Tape_sign_1  σ).bind fun q1 => ((f_Prog_kindOf q1.1 q1.2).bind fun q2 => (if q2.1 = (-1) then ((f_Tape_fail_1 1 q2.2).bind fun q24 => (if 0 ≤ q24.1 ∧ q24.1 ≤ 1 then (some (q24.1, q24.2)) else none)) else (if a2 < 20 then ((f_Tape_step_1  q2.2).bind fun q5 => (if 0 ≤ a2 ∧ a2 < 20 then (if 0 ≤ a2 ∧ a2 < 20 then (if 0 ≤ a2 ∧ a2 < 20 then (if 0 ≤ a2 ∧ a2 < 20 then (if 0 ≤ a2 ∧ a2 < 20 then (if 0 ≤ a2 ∧ a2 < 20 then (if q2.1 = 0 then ((f_Prog_readGiven_45_1 a2 (pU (pU (pU (pU (pU (pU q5.2 47 (a2.toNat) q1.1) 46 (a2.toNat) q2.1) 48 (a2.toNat) 0) 50 (a2.toNat) (-1)) 51 (a2.toNat) (-1)) 52 (a2.toNat) 0)).bind fun q18 => (if q18.1 = 0 then (some (0, q18.2)) else ((f_Prog_readNumber_45_1 a2 q18.2).bind fun q20 => (if q20.1 = 0 then (some (0, q20.2)) else (some (1, q20.2)))))) else (if q2.1 = 1 then ((f_Prog_readReckoning_45_1 a2 (pU (pU (pU (pU (pU (pU q5.2 47 (a2.toNat) q1.1) 46 (a2.toNat) q2.1) 48 (a2.toNat) 0) 50 (a2.toNat) (-1)) 51 (a2.toNat) (-1)) 52 (a2.toNat) 0)).bind fun q16 => (if 0 ≤ q16.1 ∧ q16.1 ≤ 1 then (some (q16.1, q16.2)) else none)) else ((f_Prog_readMove_45_1 a2 (pU (pU (pU (pU (pU (pU q5.2 47 (a2.toNat) q1.1) 46 (a2.toNat) q2.1) 48 (a2.toNat) 0) 50 (a2.toNat) (-1)) 51 (a2.toNat) (-1)) 52 (a2.toNat) 0)).bind fun q14 => (if 0 ≤ q14.1 ∧ q14.1 ≤ 1 then (some (q14.1, q14.2)) else none)))) else none) else none) else none) else none) else none) else none)) else ((f_Tape_fail_1 4 q2.2).bind fun q22 => (if 0 ≤ q22.1 ∧ q22.1 ≤ 1 then (some (q22.1, q22.2)) else none)))))
def f_Tape_ended_1 (σ : pS) : Option (Int × pS) := if (σ 1 3) < (σ 1 2) then (some (0, σ)) else (some (1, σ))
def f_Arrays_fill_55_p5 : Nat → Int → Int → Int → pS → Option (Int × pS)
  | 0, _, _, _, _ => none
  | n + 1, a1, a2, a3, σ => if a3 ≤ a2 then (some (0, σ)) else (if 0 ≤ a2 ∧ a2 < 8 then (f_Arrays_fill_55_p5 n a1 (pw (a2 + 1)) a3 (pU σ 55 (a2.toNat) a1)) else none)
def f_Arrays_fill_55 (a1 : Int) (σ : pS) : Option (Int × pS) := f_Arrays_fill_55_p5 4096 a1 0 8 σ
def f_X_isCell (a0 : Int) (σ : pS) : Option (Int × pS) := if a0 < 0 then (some (0, σ)) else (if 8 ≤ a0 then (some (0, σ)) else (some (1, σ)))
def f_Prog_giverOfRegister_45 (a1 : Int) (σ : pS) : Option (Int × pS) := (f_X_isCell a1 σ).bind fun q1 => (if q1.1 = 0 then (some ((-1), q1.2)) else (if 0 ≤ a1 ∧ a1 < 8 then (some (q1.2 55 a1.toNat, q1.2)) else none))
def f_Prog_depthOf_45 (a1 : Int) (σ : pS) : Option (Int × pS) := if a1 < 0 then (some (0, σ)) else (if 20 ≤ a1 then (some (0, σ)) else (if 0 ≤ a1 ∧ a1 < 20 then (some (σ 56 a1.toNat, σ)) else none))
def f_Prog_findSources_45_p15 : Nat → Int → pS → Option (Int × pS)
  | 0, _, _ => none
  | n + 1, a1, σ => if (σ 45 11) ≤ a1 then (some (0, σ)) else (if 20 ≤ a1 then (some (0, σ)) else (if 0 ≤ a1 ∧ a1 < 20 then ((f_Prog_giverOfRegister_45 (σ 50 a1.toNat) σ).bind fun q5 => (if 0 ≤ a1 ∧ a1 < 20 then (if 0 ≤ a1 ∧ a1 < 20 then ((f_Prog_giverOfRegister_45 (q5.2 51 a1.toNat) (pU q5.2 53 (a1.toNat) q5.1)).bind fun q8 => (if 0 ≤ a1 ∧ a1 < 20 then (if 0 ≤ a1 ∧ a1 < 20 then ((f_Prog_depthOf_45 (q8.2 53 a1.toNat) (pU q8.2 54 (a1.toNat) q8.1)).bind fun q11 => (if 0 ≤ a1 ∧ a1 < 20 then ((f_Prog_depthOf_45 (q11.2 54 a1.toNat) q11.2).bind fun q13 => (if 0 ≤ a1 ∧ a1 < 20 then (if 0 ≤ a1 ∧ a1 < 20 then (if 0 ≤ a1 ∧ a1 < 20 then ((f_X_isCell (q13.2 49 a1.toNat) (pU (pU q13.2 56 (a1.toNat) (pw (1 + (pMax q11.1 q13.1)))) 45 12 (pMax (q13.2 45 12) ((pU q13.2 56 (a1.toNat) (pw (1 + (pMax q11.1 q13.1)))) 56 a1.toNat)))).bind fun q17 => (if q17.1 = 0 then (f_Prog_findSources_45_p15 n (pw (a1 + 1)) q17.2) else (if 0 ≤ a1 ∧ a1 < 20 then (if 0 ≤ (q17.2 49 a1.toNat) ∧ (q17.2 49 a1.toNat) < 8 then (f_Prog_findSources_45_p15 n (pw (a1 + 1)) (pU q17.2 55 ((q17.2 49 a1.toNat).toNat) a1)) else none) else none))) else none) else none) else none)) else none)) else none) else none)) else none) else none)) else none))
def f_Prog_findSources_45 (σ : pS) : Option (Int × pS) := (f_Arrays_fill_55 (-1) σ).bind fun q1 => (f_Prog_findSources_45_p15 4096 0 (pU q1.2 45 12 0))
def f_Prog_readFrom_45_1_p2 : Nat → Int → pS → Option (Int × pS)
  | 0, _, _ => none
  | n + 1, a2, σ => if 20 < a2 then ((f_Tape_fault_1  σ).bind fun q2 => (some (q2.1, q2.2))) else ((f_Prog_readOp_45_1 a2 σ).bind fun q3 => (if q3.1 = 0 then ((f_Tape_fault_1  q3.2).bind fun q11 => (some (q11.1, q11.2))) else ((f_Tape_ended_1  q3.2).bind fun q5 => (if q5.1 = 0 then ((f_Tape_accept_1 59 q5.2).bind fun q7 => (if q7.1 = 0 then ((f_Tape_fault_1  q7.2).bind fun q9 => (some (q9.1, q9.2))) else (f_Prog_readFrom_45_1_p2 n (pw (a2 + 1)) q7.2))) else ((f_Prog_findSources_45  (pU q5.2 45 11 (pw (a2 + 1)))).bind fun q10 => (some (q10.2 45 11, q10.2)))))))
def f_Prog_readFrom_45_1 (σ : pS) : Option (Int × pS) := f_Prog_readFrom_45_1_p2 4096 0 σ
def f_Tape_clear_1 (σ : pS) : Option (Int × pS) := some (0, pU σ 1 1 0)
def f_Prog_copyFrom_4_45 (σ : pS) : Option (Int × pS) := some (0, pU (pU (pKp (pKp (pKp (pKp (pKp (pKp (pKp (pKp (pKp σ 46 5 20) 47 6 20) 48 7 20) 49 8 20) 50 9 20) 51 10 20) 52 11 20) 53 12 20) 54 13 20) 4 11 (σ 45 11)) 4 12 (σ 45 12))
def f_Arrays_fill_27_p5 : Nat → Int → Int → Int → pS → Option (Int × pS)
  | 0, _, _, _, _ => none
  | n + 1, a1, a2, a3, σ => if a3 ≤ a2 then (some (0, σ)) else (if 0 ≤ a2 ∧ a2 < 20 then (f_Arrays_fill_27_p5 n a1 (pw (a2 + 1)) a3 (pU σ 27 (a2.toNat) a1)) else none)
def f_Arrays_fill_27 (a1 : Int) (σ : pS) : Option (Int × pS) := f_Arrays_fill_27_p5 4096 a1 0 20 σ
def f_State_dropSets_24 (σ : pS) : Option (Int × pS) := (f_Arrays_fill_27 (-1) σ).bind fun q1 => (some (0, q1.2))
def f_Arrays_fill_83_p5 : Nat → Int → Int → Int → pS → Option (Int × pS)
  | 0, _, _, _, _ => none
  | n + 1, a1, a2, a3, σ => if a3 ≤ a2 then (some (0, σ)) else (if 0 ≤ a2 ∧ a2 < 2 then (f_Arrays_fill_83_p5 n a1 (pw (a2 + 1)) a3 (pU σ 83 (a2.toNat) a1)) else none)
def f_Arrays_fill_83 (a1 : Int) (σ : pS) : Option (Int × pS) := f_Arrays_fill_83_p5 4096 a1 0 2 σ
def f_Rows_clear_82 (σ : pS) : Option (Int × pS) := (f_Arrays_fill_83 0 σ).bind fun q1 => (some (0, q1.2))
def f_X_program_0_p101 (a2 : Int) (σ : pS) : Option (Int × pS) := (f_Tape_clear_1  σ).bind fun q7 => (some (a2, q7.2))
def f_X_program_0 (a1 : Int) (σ : pS) : Option (Int × pS) := if a1 < 1 then (some ((-1), σ)) else (if 240 < a1 then (some ((-1), σ)) else (if a1 ≤ (σ 1 1) then ((f_Tape_beginText_1 a1 σ).bind fun q4 => ((f_Prog_readFrom_45_1  q4.2).bind fun q5 => (if q5.1 < 0 then (f_X_program_0_p101 q5.1 q5.2) else ((f_Prog_copyFrom_4_45  q5.2).bind fun q8 => ((f_State_dropSets_24  q8.2).bind fun q9 => ((f_Rows_clear_82  (pU q9.2 24 3 0)).bind fun q10 => (f_X_program_0_p101 q5.1 (pU (pU q10.2 0 8 0) 0 10 1)))))))) else (some ((-1), σ))))
def f_M_in (a0 a1 a2 : Int) (σ : pS) : Option (Int × pS) := if a0 < a1 then (some (0, σ)) else (if a2 < a0 then (some (0, σ)) else (some (1, σ)))
def f_M_beginsText_84 (a1 : Int) (σ : pS) : Option (Int × pS) := some (0, pU (pU (pU (pU σ 84 19 0) 84 20 a1) 84 24 0) 84 26 0)
def f_M_here_84 (σ : pS) : Option (Int × pS) := if (σ 84 20) ≤ (σ 84 19) then (some ((-1), σ)) else (if 0 ≤ (σ 84 19) ∧ (σ 84 19) < 260 then (some (pAnd (σ 96 (σ 84 19).toNat) 255, σ)) else none)
def f_M_kindBy (a0 : Int) (σ : pS) : Option (Int × pS) := if a0 = 35 then (some (0, σ)) else (if a0 = 38 then (some (1, σ)) else (if a0 = 42 then (some (1, σ)) else (if a0 = 43 then (some (1, σ)) else (if a0 = 45 then (some (1, σ)) else (if a0 = 62 then (some (1, σ)) else (if a0 = 76 then (some (2, σ)) else (if a0 = 83 then (some (3, σ)) else (if a0 = 94 then (some (1, σ)) else (some ((-1), σ))))))))))
def f_M_sizeBy (a0 : Int) (σ : pS) : Option (Int × pS) := if a0 = 98 then (some (1, σ)) else (if a0 = 104 then (some (2, σ)) else (if a0 = 119 then (some (4, σ)) else (some ((-1), σ))))
def f_M_wrongAt_84 (a1 a2 : Int) (σ : pS) : Option (Int × pS) := some (0, pU σ 84 21 (pw ((pw ((-1000) * a1)) - a2)))
def f_M_readsRegister_84 (σ : pS) : Option (Int × pS) := (f_M_here_84  σ).bind fun q1 => ((f_M_in q1.1 48 55 q1.2).bind fun q2 => (if q2.1 = 0 then ((f_M_wrongAt_84 1 (q2.2 84 19) q2.2).bind fun q5 => (if 0 ≤ q5.1 ∧ q5.1 ≤ 1 then (some (q5.1, q5.2)) else none)) else ((f_M_here_84  q2.2).bind fun q4 => (some (1, pU (pU q4.2 84 22 (pw (q4.1 - 48))) 84 19 (pw ((q4.2 84 19) + 1)))))))
def f_M_takes_84 (a1 : Int) (σ : pS) : Option (Int × pS) := (f_M_here_84  σ).bind fun q1 => (if q1.1 = a1 then (some (1, pU q1.2 84 19 (pw ((q1.2 84 19) + 1)))) else ((f_M_wrongAt_84 1 (q1.2 84 19) q1.2).bind fun q3 => (if 0 ≤ q3.1 ∧ q3.1 ≤ 1 then (some (q3.1, q3.2)) else none)))
def f_M_isDigit_84 (σ : pS) : Option (Int × pS) := (f_M_here_84  σ).bind fun q1 => (if q1.1 < 48 then (some (0, q1.2)) else ((f_M_here_84  q1.2).bind fun q3 => (if 57 < q3.1 then (some (0, q3.2)) else (some (1, q3.2)))))
def f_M_readsAmount_84_p27 : Nat → Int → pS → Option (Int × pS)
  | 0, _, _ => none
  | n + 1, a1, σ => (f_M_isDigit_84  σ).bind fun q3 => (if q3.1 = 0 then (some (1, q3.2)) else (if (q3.2 84 19) = (pw (a1 + 4)) then ((f_M_wrongAt_84 2 (q3.2 84 19) q3.2).bind fun q7 => (if 0 ≤ q7.1 ∧ q7.1 ≤ 1 then (some (q7.1, q7.2)) else none)) else ((f_M_here_84  q3.2).bind fun q6 => (f_M_readsAmount_84_p27 n a1 (pU (pU q6.2 84 22 (pw ((pw ((pw (10 * (q3.2 84 22))) + q6.1)) - 48))) 84 19 (pw ((q6.2 84 19) + 1)))))))
def f_M_readsAmount_84 (σ : pS) : Option (Int × pS) := (f_M_isDigit_84  σ).bind fun q1 => (if q1.1 = 0 then ((f_M_wrongAt_84 1 (q1.2 84 19) q1.2).bind fun q9 => (if 0 ≤ q9.1 ∧ q9.1 ≤ 1 then (some (q9.1, q9.2)) else none)) else (f_M_readsAmount_84_p27 4096 (σ 84 19) (pU q1.2 84 22 0)))
def f_M_readsPlace_84_p56 (a1 : Int) (σ : pS) : Option (Int × pS) := (f_M_readsAmount_84  σ).bind fun q4 => (if q4.1 = 0 then (some (0, q4.2)) else (if 0 ≤ a1 ∧ a1 < 20 then (some (1, pU q4.2 117 (a1.toNat) (q4.2 84 22))) else none))
def f_M_readsPlace_84 (a1 : Int) (σ : pS) : Option (Int × pS) := if 0 ≤ a1 ∧ a1 < 20 then ((f_M_here_84  (pU σ 116 (a1.toNat) (-1))).bind fun q2 => (if q2.1 = 114 then ((f_M_readsRegister_84  (pU q2.2 84 19 (pw ((q2.2 84 19) + 1)))).bind fun q7 => (if q7.1 = 0 then (some (0, q7.2)) else (if 0 ≤ a1 ∧ a1 < 20 then ((f_M_takes_84 43 (pU q7.2 116 (a1.toNat) (q7.2 84 22))).bind fun q10 => (if q10.1 = 0 then (some (0, q10.2)) else (f_M_readsPlace_84_p56 a1 q10.2))) else none))) else (f_M_readsPlace_84_p56 a1 q2.2))) else none
def f_M_readsOp_84_p177 (a2 : Int) (σ : pS) : Option (Int × pS) := (f_M_readsPlace_84 a2 σ).bind fun q20 => (if 0 ≤ q20.1 ∧ q20.1 ≤ 1 then (some (q20.1, q20.2)) else none)
def f_M_readsOp_84_p137 (a1 a2 : Int) (σ : pS) : Option (Int × pS) := (f_M_readsRegister_84  σ).bind fun q14 => (if q14.1 = 0 then (some (0, q14.2)) else (if 0 ≤ a2 ∧ a2 < 20 then ((f_M_takes_84 44 (pU q14.2 112 (a2.toNat) (q14.2 84 22))).bind fun q17 => (if q17.1 = 0 then (some (0, q17.2)) else (if a1 = 2 then (f_M_readsOp_84_p177 a2 q17.2) else (if a1 = 3 then (f_M_readsOp_84_p177 a2 q17.2) else (if a1 = 0 then ((f_M_readsAmount_84  q17.2).bind fun q32 => (if q32.1 = 0 then (some (0, q32.2)) else (if 0 ≤ a2 ∧ a2 < 20 then (some (1, pU q32.2 117 (a2.toNat) (q32.2 84 22))) else none))) else ((f_M_readsRegister_84  q17.2).bind fun q24 => (if q24.1 = 0 then (some (0, q24.2)) else (if 0 ≤ a2 ∧ a2 < 20 then ((f_M_takes_84 44 (pU q24.2 113 (a2.toNat) (q24.2 84 22))).bind fun q27 => (if q27.1 = 0 then (some (0, q27.2)) else ((f_M_readsRegister_84  q27.2).bind fun q29 => (if q29.1 = 0 then (some (0, q29.2)) else (if 0 ≤ a2 ∧ a2 < 20 then (some (1, pU q29.2 114 (a2.toNat) (q29.2 84 22))) else none))))) else none)))))))) else none))
def f_M_readsOp_84_p94 (a1 a2 : Int) (σ : pS) : Option (Int × pS) := (f_M_here_84  σ).bind fun q9 => ((f_M_sizeBy q9.1 q9.2).bind fun q10 => (if 0 ≤ a2 ∧ a2 < 20 then (if 0 ≤ a2 ∧ a2 < 20 then (if ((pU q10.2 115 (a2.toNat) q10.1) 115 a2.toNat) = (-1) then ((f_M_wrongAt_84 1 (q10.2 84 19) (pU q10.2 115 (a2.toNat) q10.1)).bind fun q35 => (if 0 ≤ q35.1 ∧ q35.1 ≤ 1 then (some (q35.1, q35.2)) else none)) else (f_M_readsOp_84_p137 a1 a2 (pU (pU q10.2 115 (a2.toNat) q10.1) 84 19 (pw ((q10.2 84 19) + 1))))) else none) else none))
def f_M_readsOp_84 (σ : pS) : Option (Int × pS) := (f_M_here_84  σ).bind fun q1 => ((f_M_kindBy q1.1 q1.2).bind fun q2 => (if q2.1 = (-1) then ((f_M_wrongAt_84 1 (q2.2 84 19) q2.2).bind fun q40 => (if 0 ≤ q40.1 ∧ q40.1 ≤ 1 then (some (q40.1, q40.2)) else none)) else (if (q2.2 84 41) = 20 then ((f_M_wrongAt_84 4 (q2.2 84 19) q2.2).bind fun q38 => (if 0 ≤ q38.1 ∧ q38.1 ≤ 1 then (some (q38.1, q38.2)) else none)) else (if 0 ≤ (q2.2 84 41) ∧ (q2.2 84 41) < 20 then ((f_M_here_84  (pU (pU q2.2 84 41 (pw ((q2.2 84 41) + 1))) 110 ((q2.2 84 41).toNat) q2.1)).bind fun q6 => (if 0 ≤ (q2.2 84 41) ∧ (q2.2 84 41) < 20 then (if q2.1 = 2 then (f_M_readsOp_84_p94 q2.1 (q2.2 84 41) (pU (pU q6.2 111 ((q2.2 84 41).toNat) q6.1) 84 19 (pw ((q6.2 84 19) + 1)))) else (if q2.1 = 3 then (f_M_readsOp_84_p94 q2.1 (q2.2 84 41) (pU (pU q6.2 111 ((q2.2 84 41).toNat) q6.1) 84 19 (pw ((q6.2 84 19) + 1)))) else (f_M_readsOp_84_p137 q2.1 (q2.2 84 41) (pU (pU q6.2 111 ((q2.2 84 41).toNat) q6.1) 84 19 (pw ((q6.2 84 19) + 1)))))) else none)) else none))))
def f_M_program_84_p100 : Nat → Int → pS → Option (Int × pS)
  | 0, _, _ => none
  | n + 1, a3, σ => if (σ 84 2) ≤ a3 then (some (σ 84 2, pU (pU (pU (pU (pU σ 84 3 0) 84 75 0) 145 0 0) 145 1 0) 84 5 (pw ((σ 84 5) + 1)))) else (if 0 ≤ a3 ∧ a3 < 20 then (if 0 ≤ a3 ∧ a3 < 20 then (if 0 ≤ a3 ∧ a3 < 20 then (if 0 ≤ a3 ∧ a3 < 20 then (if 0 ≤ a3 ∧ a3 < 20 then (if 0 ≤ a3 ∧ a3 < 20 then (if 0 ≤ a3 ∧ a3 < 20 then (if 0 ≤ a3 ∧ a3 < 20 then (if 0 ≤ a3 ∧ a3 < 20 then (if 0 ≤ a3 ∧ a3 < 20 then (if 0 ≤ a3 ∧ a3 < 20 then (if 0 ≤ a3 ∧ a3 < 20 then (if 0 ≤ a3 ∧ a3 < 20 then (if 0 ≤ a3 ∧ a3 < 20 then (if 0 ≤ a3 ∧ a3 < 20 then (if 0 ≤ a3 ∧ a3 < 20 then (if 0 ≤ a3 ∧ a3 < 20 then (f_M_program_84_p100 n (pw (a3 + 1)) (pU (pU (pU (pU (pU (pU (pU (pU (pU σ 88 (a3.toNat) (σ 110 a3.toNat)) 89 (a3.toNat) (σ 111 a3.toNat)) 90 (a3.toNat) (σ 112 a3.toNat)) 91 (a3.toNat) (σ 113 a3.toNat)) 92 (a3.toNat) (σ 114 a3.toNat)) 93 (a3.toNat) (σ 115 a3.toNat)) 94 (a3.toNat) (σ 116 a3.toNat)) 95 (a3.toNat) (σ 117 a3.toNat)) 87 (a3.toNat) (-1))) else none) else none) else none) else none) else none) else none) else none) else none) else none) else none) else none) else none) else none) else none) else none) else none) else none)
def f_M_program_84_p76 (a2 : Int) (σ : pS) : Option (Int × pS) := if a2 = 0 then (some (σ 84 21, pU σ 84 18 0)) else (f_M_program_84_p100 4096 0 (pU (pU σ 84 18 0) 84 2 (σ 84 41)))
def f_M_program_84_p36 : Nat → Int → pS → Option (Int × pS)
  | 0, _, _ => none
  | n + 1, a2, σ => if a2 = 0 then (f_M_program_84_p76 a2 σ) else (if (σ 84 20) ≤ (σ 84 19) then (f_M_program_84_p76 a2 σ) else ((f_M_takes_84 59 σ).bind fun q27 => (if q27.1 = 0 then (f_M_program_84_p36 n 0 q27.2) else ((f_M_readsOp_84  q27.2).bind fun q29 => (if q29.1 = 0 then (f_M_program_84_p36 n 0 q29.2) else (f_M_program_84_p36 n 1 q29.2))))))
def f_M_program_84 (a1 : Int) (σ : pS) : Option (Int × pS) := (f_M_in a1 1 240 σ).bind fun q1 => (if q1.1 = 0 then (some ((-1), q1.2)) else (if a1 ≤ (q1.2 84 18) then ((f_M_beginsText_84 a1 q1.2).bind fun q4 => ((f_M_readsOp_84  (pU q4.2 84 41 0)).bind fun q5 => (f_M_program_84_p36 4096 q5.1 q5.2))) else (some ((-1), q1.2))))
def f_X_isOp_0 (a1 : Int) (σ : pS) : Option (Int × pS) := if a1 < 0 then (some (0, σ)) else (if (σ 4 11) ≤ a1 then (some (0, σ)) else (some (1, σ)))
def f_X_orAbsent (a0 : Int) (σ : pS) : Option (Int × pS) := if a0 = (-1) then (some ((-2), σ)) else (some (a0, σ))
def f_X_source_0 (a1 a2 : Int) (σ : pS) : Option (Int × pS) := (f_X_isOp_0 a1 σ).bind fun q1 => (if q1.1 = 0 then (some ((-1), q1.2)) else ((f_X_isCell a2 q1.2).bind fun q3 => (if q3.1 = 0 then (some ((-1), q3.2)) else (if 0 ≤ a1 ∧ a1 < 20 then (if (q3.2 9 a1.toNat) = a2 then (if 0 ≤ a1 ∧ a1 < 20 then ((f_X_orAbsent (q3.2 12 a1.toNat) q3.2).bind fun q12 => (some (q12.1, q12.2))) else none) else (if 0 ≤ a1 ∧ a1 < 20 then (if (q3.2 10 a1.toNat) = a2 then (if 0 ≤ a1 ∧ a1 < 20 then ((f_X_orAbsent (q3.2 13 a1.toNat) q3.2).bind fun q10 => (some (q10.1, q10.2))) else none) else (some ((-2), q3.2))) else none)) else none))))
def f_M_isOp_84 (a1 : Int) (σ : pS) : Option (Int × pS) := (f_M_in a1 0 (pw ((σ 84 2) - 1)) σ).bind fun q1 => (if 0 ≤ q1.1 ∧ q1.1 ≤ 1 then (some (q1.1, q1.2)) else none)
def f_M_doesRead_84 (a1 a2 : Int) (σ : pS) : Option (Int × pS) := if 0 ≤ a1 ∧ a1 < 20 then (if (σ 88 a1.toNat) = 0 then (some (0, σ)) else (if (σ 88 a1.toNat) = 1 then (if 0 ≤ a1 ∧ a1 < 20 then (if (σ 91 a1.toNat) = a2 then (some (1, σ)) else (if 0 ≤ a1 ∧ a1 < 20 then (if (σ 92 a1.toNat) = a2 then (some (1, σ)) else (some (0, σ))) else none)) else none) else (if (σ 88 a1.toNat) = 2 then (if 0 ≤ a1 ∧ a1 < 20 then (if (σ 94 a1.toNat) = a2 then (some (1, σ)) else (some (0, σ))) else none) else (if 0 ≤ a1 ∧ a1 < 20 then (if (σ 90 a1.toNat) = a2 then (some (1, σ)) else (if 0 ≤ a1 ∧ a1 < 20 then (if (σ 94 a1.toNat) = a2 then (some (1, σ)) else (some (0, σ))) else none)) else none)))) else none
def f_M_gives_84 (a1 a2 : Int) (σ : pS) : Option (Int × pS) := if 0 ≤ a1 ∧ a1 < 20 then (if (σ 88 a1.toNat) = 3 then (some (0, σ)) else (if 0 ≤ a1 ∧ a1 < 20 then (if (σ 90 a1.toNat) = a2 then (some (1, σ)) else (some (0, σ))) else none)) else none
def f_M_giverOf_84_p4 : Nat → Int → Int → pS → Option (Int × pS)
  | 0, _, _, _ => none
  | n + 1, a2, a3, σ => if a3 < 0 then (some ((-1), σ)) else ((f_M_gives_84 a3 a2 σ).bind fun q2 => (if q2.1 = 0 then (f_M_giverOf_84_p4 n a2 (pw (a3 + (-1))) q2.2) else (some (a3, q2.2))))
def f_M_giverOf_84 (a1 a2 : Int) (σ : pS) : Option (Int × pS) := f_M_giverOf_84_p4 4096 a2 (pw (a1 - 1)) σ
def f_M_source_84_p39 (s0 : Int) (σ : pS) : Option (Int × pS) := if s0 = (-1) then (some ((-2), σ)) else (some (s0, σ))
def f_M_source_84 (a1 a2 : Int) (σ : pS) : Option (Int × pS) := (f_M_isOp_84 a1 σ).bind fun q1 => (if q1.1 = 0 then (some ((-1), q1.2)) else ((f_M_in a2 0 7 q1.2).bind fun q3 => (if q3.1 = 0 then (some ((-1), q3.2)) else ((f_M_doesRead_84 a1 a2 q3.2).bind fun q5 => (if q5.1 = 0 then (f_M_source_84_p39 (-1) q5.2) else ((f_M_giverOf_84 a1 a2 q5.2).bind fun q8 => (f_M_source_84_p39 q8.1 q8.2)))))))
def f_X_deep_0 (σ : pS) : Option (Int × pS) := some (σ 4 12, σ)
def f_M_max (a0 a1 : Int) (σ : pS) : Option (Int × pS) := if a0 ≤ a1 then (some (a1, σ)) else (some (a0, σ))
def f_M_hasSource_84_p2 : Nat → Int → Int → Int → pS → Option (Int × pS)
  | 0, _, _, _, _ => none
  | n + 1, a1, a2, a3, σ => if 8 ≤ a3 then (some (0, σ)) else ((f_M_doesRead_84 a1 a3 σ).bind fun q2 => (if q2.1 = 0 then (f_M_hasSource_84_p2 n a1 a2 (pw (a3 + 1)) q2.2) else ((f_M_giverOf_84 a1 a3 q2.2).bind fun q4 => (if q4.1 = a2 then (some (1, q4.2)) else (f_M_hasSource_84_p2 n a1 a2 (pw (a3 + 1)) q4.2)))))
def f_M_hasSource_84 (a1 a2 : Int) (σ : pS) : Option (Int × pS) := f_M_hasSource_84_p2 4096 a1 a2 0 σ
def f_M_deep_84_p21 (k_4 : Int → Int → pS → Option (Int × pS)) : Nat → Int → Int → Int → pS → Option (Int × pS)
  | 0, _, _, _, _ => none
  | n + 1, a1, a2, a3, σ => if a2 ≤ a3 then (if 0 ≤ a2 ∧ a2 < 20 then ((f_M_max a1 (σ 143 a2.toNat) σ).bind fun q5 => (k_4 q5.1 (pw (a2 + 1)) q5.2)) else none) else ((f_M_hasSource_84 a2 a3 σ).bind fun q6 => (if q6.1 = 0 then (f_M_deep_84_p21 k_4 n a1 a2 (pw (a3 + 1)) q6.2) else (if 0 ≤ a2 ∧ a2 < 20 then (if 0 ≤ a3 ∧ a3 < 20 then ((f_M_max (q6.2 143 a2.toNat) (pw ((q6.2 143 a3.toNat) + 1)) q6.2).bind fun q10 => (if 0 ≤ a2 ∧ a2 < 20 then (f_M_deep_84_p21 k_4 n a1 a2 (pw (a3 + 1)) (pU q10.2 143 (a2.toNat) q10.1)) else none)) else none) else none)))
def f_M_deep_84_p4 : Nat → Int → Int → pS → Option (Int × pS)
  | 0, _, _, _ => none
  | n + 1, a1, a2, σ => if (σ 84 2) ≤ a2 then (some (a1, σ)) else (if 0 ≤ a2 ∧ a2 < 20 then (f_M_deep_84_p21 (f_M_deep_84_p4 n) 4096 a1 a2 0 (pU σ 143 (a2.toNat) 1)) else none)
def f_M_deep_84 (σ : pS) : Option (Int × pS) := f_M_deep_84_p4 4096 0 0 σ
def f_X_check_0_p70 (a2 : Int) (σ : pS) : Option (Int × pS) := (f_Tape_clear_1  σ).bind fun q5 => (some (a2, q5.2))
def f_X_check_0_p28 : Nat → Int → Int → Int → pS → Option (Int × pS)
  | 0, _, _, _, _ => none
  | n + 1, a1, a2, a3, σ => if a1 ≤ a3 then (f_X_check_0_p70 a2 σ) else (if a2 = (-1) then (if 0 ≤ a3 ∧ a3 < 260 then (if 0 ≤ a3 ∧ a3 < 64 then (if (σ 2 a3.toNat) = (σ 26 a3.toNat) then (f_X_check_0_p28 n a1 a2 (pw (a3 + 1)) σ) else (f_X_check_0_p28 n a1 a3 (pw (a3 + 1)) σ)) else none) else none) else (f_X_check_0_p70 a2 σ))
def f_X_check_0 (a1 : Int) (σ : pS) : Option (Int × pS) := if a1 < 0 then (some ((-2), σ)) else (if 64 < a1 then (some ((-2), σ)) else (if a1 ≤ (σ 1 1) then (f_X_check_0_p28 4096 a1 (-1) 0 σ) else (some ((-2), σ))))
def f_M_octet_84 (a1 : Int) (σ : pS) : Option (Int × pS) := if 0 ≤ a1 ∧ a1 < 260 then (some (pAnd (σ 96 a1.toNat) 255, σ)) else none
def f_M_check_84_p28 : Nat → Int → Int → pS → Option (Int × pS)
  | 0, _, _, _ => none
  | n + 1, a1, a2, σ => if a1 ≤ a2 then (some ((-1), σ)) else ((f_M_octet_84 a2 σ).bind fun q5 => (if 0 ≤ a2 ∧ a2 < 64 then (if q5.1 = (q5.2 86 a2.toNat) then (f_M_check_84_p28 n a1 (pw (a2 + 1)) q5.2) else (some (a2, q5.2))) else none))
def f_M_check_84 (a1 : Int) (σ : pS) : Option (Int × pS) := (f_M_in a1 0 64 σ).bind fun q1 => (if q1.1 = 0 then (some ((-2), q1.2)) else (if a1 ≤ (q1.2 84 18) then (f_M_check_84_p28 4096 a1 0 (pU q1.2 84 18 0)) else (some ((-2), q1.2))))
def f_Law_addStep_57 (a1 a2 : Int) (σ : pS) : Option (Int × pS) := if (σ 57 8) < 240 then (if 0 ≤ (σ 57 8) ∧ (σ 57 8) < 240 then (if 0 ≤ (σ 57 8) ∧ (σ 57 8) < 240 then (some (pw ((pw ((σ 57 8) + 1)) - 1), pU (pU (pU σ 61 ((σ 57 8).toNat) a1) 62 ((σ 57 8).toNat) a2) 57 8 (pw ((σ 57 8) + 1)))) else none) else none) else (some ((-1), σ))
def f_Law_skipToHere_57 (a1 : Int) (σ : pS) : Option (Int × pS) := if a1 < 0 then (some (0, σ)) else (if 240 ≤ a1 then (some (0, σ)) else (if 0 ≤ a1 ∧ a1 < 240 then (some (0, pU σ 62 (a1.toNat) (σ 57 8))) else none))
def mi_rdC : Nat → Nat
  | 0 => 32
  | 1 => 33
  | _ => 34
def f_Law_readEither_57_1_p13 (rc : Nat → Int → pS → Option (Int × pS)) : Nat → Int → Int → pS → Option (Int × pS)
  | 0, _, _, _ => none
  | n + 1, a2, a3, σ => if 240 ≤ a3 then (some (1, σ)) else ((f_Tape_sign_1  σ).bind fun q4 => (if q4.1 = 124 then ((f_Tape_step_1  q4.2).bind fun q6 => ((f_Law_addStep_57 124 0 q6.2).bind fun q7 => ((rc 1 a2 q7.2).bind fun q8 => (if q8.1 = 0 then (some (0, q8.2)) else ((f_Law_skipToHere_57 q7.1 q8.2).bind fun q10 => (f_Law_readEither_57_1_p13 rc n a2 (pw (a3 + 1)) q10.2)))))) else (some (1, q4.2))))
def f_Law_readEither_57_1 (rc : Nat → Int → pS → Option (Int × pS)) (a2 : Int) (σ : pS) : Option (Int × pS) := (rc 1 a2 σ).bind fun q1 => (if q1.1 = 0 then (some (0, q1.2)) else (f_Law_readEither_57_1_p13 rc 4096 a2 0 q1.2))
def f_Law_readBoth_57_1_p13 (rc : Nat → Int → pS → Option (Int × pS)) : Nat → Int → Int → pS → Option (Int × pS)
  | 0, _, _, _ => none
  | n + 1, a2, a3, σ => if 240 ≤ a3 then (some (1, σ)) else ((f_Tape_sign_1  σ).bind fun q4 => (if q4.1 = 38 then ((f_Tape_step_1  q4.2).bind fun q6 => ((f_Law_addStep_57 38 0 q6.2).bind fun q7 => ((rc 2 a2 q7.2).bind fun q8 => (if q8.1 = 0 then (some (0, q8.2)) else ((f_Law_skipToHere_57 q7.1 q8.2).bind fun q10 => (f_Law_readBoth_57_1_p13 rc n a2 (pw (a3 + 1)) q10.2)))))) else (some (1, q4.2))))
def f_Law_readBoth_57_1 (rc : Nat → Int → pS → Option (Int × pS)) (a2 : Int) (σ : pS) : Option (Int × pS) := (rc 2 a2 σ).bind fun q1 => (if q1.1 = 0 then (some (0, q1.2)) else (f_Law_readBoth_57_1_p13 rc 4096 a2 0 q1.2))
def f_Law_isOneOf (a0 a1 a2 a3 : Int) (σ : pS) : Option (Int × pS) := if a0 = a1 then (some (1, σ)) else (if a0 = a2 then (some (1, σ)) else (if a0 = a3 then (some (1, σ)) else (some (0, σ))))
def mi_rdS : Nat → Nat
  | 0 => 22
  | 1 => 23
  | _ => 24
def f_Law_readSum_57_1_p13 (rc : Nat → Int → pS → Option (Int × pS)) : Nat → Int → Int → pS → Option (Int × pS)
  | 0, _, _, _ => none
  | n + 1, a2, a3, σ => if 240 ≤ a3 then (some (1, σ)) else ((f_Tape_sign_1  σ).bind fun q4 => ((f_Law_isOneOf q4.1 43 45 45 q4.2).bind fun q5 => (if q5.1 = 0 then (some (1, q5.2)) else ((f_Tape_sign_1  q5.2).bind fun q7 => ((f_Tape_step_1  q7.2).bind fun q8 => ((rc 1 a2 q8.2).bind fun q9 => (if q9.1 = 0 then (some (0, q9.2)) else ((f_Law_addStep_57 q7.1 0 q9.2).bind fun q11 => (f_Law_readSum_57_1_p13 rc n a2 (pw (a3 + 1)) q11.2)))))))))
def f_Law_readSum_57_1 (rc : Nat → Int → pS → Option (Int × pS)) (a2 : Int) (σ : pS) : Option (Int × pS) := (rc 1 a2 σ).bind fun q1 => (if q1.1 = 0 then (some (0, q1.2)) else (f_Law_readSum_57_1_p13 rc 4096 a2 0 q1.2))
def f_Law_readProduct_57_1_p13 (rc : Nat → Int → pS → Option (Int × pS)) : Nat → Int → Int → pS → Option (Int × pS)
  | 0, _, _, _ => none
  | n + 1, a2, a3, σ => if 240 ≤ a3 then (some (1, σ)) else ((f_Tape_sign_1  σ).bind fun q4 => ((f_Law_isOneOf q4.1 42 47 37 q4.2).bind fun q5 => (if q5.1 = 0 then (some (1, q5.2)) else ((f_Tape_sign_1  q5.2).bind fun q7 => ((f_Tape_step_1  q7.2).bind fun q8 => ((rc 2 a2 q8.2).bind fun q9 => (if q9.1 = 0 then (some (0, q9.2)) else ((f_Law_addStep_57 q7.1 0 q9.2).bind fun q11 => (f_Law_readProduct_57_1_p13 rc n a2 (pw (a3 + 1)) q11.2)))))))))
def f_Law_readProduct_57_1 (rc : Nat → Int → pS → Option (Int × pS)) (a2 : Int) (σ : pS) : Option (Int × pS) := (rc 2 a2 σ).bind fun q1 => (if q1.1 = 0 then (some (0, q1.2)) else (f_Law_readProduct_57_1_p13 rc 4096 a2 0 q1.2))
def f_Law_opens_1 (a1 : Int) (σ : pS) : Option (Int × pS) := if a1 < 6 then ((f_Tape_step_1  σ).bind fun q2 => (some (1, q2.2))) else ((f_Tape_fail_1 5 σ).bind fun q3 => (if 0 ≤ q3.1 ∧ q3.1 ≤ 1 then (some (q3.1, q3.2)) else none))
def f_Law_readFactor_57_1_p96 (rc : Nat → Int → pS → Option (Int × pS)) (s0 : Int) (σ : pS) : Option (Int × pS) := if 0 ≤ s0 then ((f_Tape_step_1  σ).bind fun q8 => ((f_Law_addStep_57 97 s0 q8.2).bind fun q9 => (some (1, q9.2)))) else ((f_Tape_fail_1 1 σ).bind fun q10 => (if 0 ≤ q10.1 ∧ q10.1 ≤ 1 then (some (q10.1, q10.2)) else none))
def f_Law_readFactor_57_1 (rc : Nat → Int → pS → Option (Int × pS)) (a2 : Int) (σ : pS) : Option (Int × pS) := (f_Tape_sign_1  σ).bind fun q1 => (if q1.1 = 91 then ((f_Law_opens_1 a2 q1.2).bind fun q15 => (if q15.1 = 0 then (some (0, q15.2)) else ((rc 0 (pw (a2 + 1)) q15.2).bind fun q17 => (if q17.1 = 0 then (some (0, q17.2)) else ((f_Tape_accept_1 93 q17.2).bind fun q19 => (if q19.1 = 0 then (some (0, q19.2)) else (some (1, q19.2)))))))) else ((f_Tape_digitNext_1  q1.2).bind fun q3 => (if q3.1 = 0 then (if q1.1 = (-1) then (f_Law_readFactor_57_1_p96 rc (-1) q3.2) else (if 0 ≤ q1.1 ∧ q1.1 ≤ 255 then (f_Law_readFactor_57_1_p96 rc (pIdx q1.1) q3.2) else none)) else ((f_Tape_readDigits_1 5 q3.2).bind fun q12 => ((f_Law_addStep_57 48 q12.1 q12.2).bind fun q13 => (if q12.1 = (-1) then (some (0, q13.2)) else (some (1, q13.2))))))))
def rdS : Nat → Nat → Int → pS → Option (Int × pS)
  | 0, _, _, _ => none
  | d + 1, 0, a, σ => f_Law_readSum_57_1 (rdS d) a σ
  | d + 1, 1, a, σ => f_Law_readProduct_57_1 (rdS d) a σ
  | d + 1, _, a, σ => f_Law_readFactor_57_1 (rdS d) a σ
def f_Law_readTest_57_1_p123 (rc : Nat → Int → pS → Option (Int × pS)) (a2 a3 : Int) (σ : pS) : Option (Int × pS) := (f_Tape_step_1  σ).bind fun q9 => ((rdS 40 0 a2 q9.2).bind fun q10 => (if q10.1 = 0 then (some (0, q10.2)) else ((f_Law_addStep_57 a3 0 q10.2).bind fun q12 => (some (1, q12.2)))))
def f_Law_readTest_57_1 (rc : Nat → Int → pS → Option (Int × pS)) (a2 : Int) (σ : pS) : Option (Int × pS) := (f_Tape_sign_1  σ).bind fun q1 => (if q1.1 = 33 then ((f_Law_opens_1 a2 q1.2).bind fun q23 => (if q23.1 = 0 then (some (0, q23.2)) else ((rc 2 (pw (a2 + 1)) q23.2).bind fun q25 => (if q25.1 = 0 then (some (0, q25.2)) else ((f_Law_addStep_57 33 0 q25.2).bind fun q27 => (some (1, q27.2))))))) else ((f_Tape_sign_1  q1.2).bind fun q3 => (if q3.1 = 40 then ((f_Law_opens_1 a2 q3.2).bind fun q17 => (if q17.1 = 0 then (some (0, q17.2)) else ((rc 0 (pw (a2 + 1)) q17.2).bind fun q19 => (if q19.1 = 0 then (some (0, q19.2)) else ((f_Tape_accept_1 41 q19.2).bind fun q21 => (if q21.1 = 0 then (some (0, q21.2)) else (some (1, q21.2)))))))) else ((rdS 40 0 a2 q3.2).bind fun q5 => (if q5.1 = 0 then (some (0, q5.2)) else ((f_Tape_sign_1  q5.2).bind fun q7 => (if q7.1 = 60 then (f_Law_readTest_57_1_p123 rc a2 q7.1 q7.2) else (if q7.1 = 62 then (f_Law_readTest_57_1_p123 rc a2 q7.1 q7.2) else (if q7.1 = 61 then (f_Law_readTest_57_1_p123 rc a2 q7.1 q7.2) else ((f_Tape_fail_1 1 q7.2).bind fun q15 => (if 0 ≤ q15.1 ∧ q15.1 ≤ 1 then (some (q15.1, q15.2)) else none)))))))))))
def rdC : Nat → Nat → Int → pS → Option (Int × pS)
  | 0, _, _, _ => none
  | d + 1, 0, a, σ => f_Law_readEither_57_1 (rdC d) a σ
  | d + 1, 1, a, σ => f_Law_readBoth_57_1 (rdC d) a σ
  | d + 1, _, a, σ => f_Law_readTest_57_1 (rdC d) a σ
def f_Law_readRule_57_1_p73 (a2 : Int) (σ : pS) : Option (Int × pS) := if 0 ≤ a2 ∧ a2 < 16 then ((f_Tape_accept_1 40 (pU σ 60 (a2.toNat) (σ 57 8))).bind fun q9 => (if q9.1 = 0 then (some (0, q9.2)) else ((rdC 40 0 1 q9.2).bind fun q11 => (if q11.1 = 0 then (some (0, q11.2)) else ((f_Tape_accept_1 41 q11.2).bind fun q13 => (if q13.1 = 0 then (some (0, q13.2)) else (if 0 ≤ (pw (a2 + 1)) ∧ (pw (a2 + 1)) < 17 then (some (1, pU q13.2 59 ((pw (a2 + 1)).toNat) (q13.2 57 8))) else none))))))) else none
def f_Law_readRule_57_1_p23 (a2 a3 : Int) (σ : pS) : Option (Int × pS) := if a2 < 16 then ((f_Tape_step_1  σ).bind fun q4 => (if 0 ≤ a2 ∧ a2 < 16 then (if 0 ≤ a2 ∧ a2 < 17 then (if a3 = 100 then ((rdS 40 0 0 (pU (pU q4.2 58 (a2.toNat) a3) 59 (a2.toNat) (q4.2 57 8))).bind fun q16 => (if q16.1 = 0 then (some (0, q16.2)) else (f_Law_readRule_57_1_p73 a2 q16.2))) else (f_Law_readRule_57_1_p73 a2 (pU (pU q4.2 58 (a2.toNat) a3) 59 (a2.toNat) (q4.2 57 8)))) else none) else none)) else ((f_Tape_fail_1 4 σ).bind fun q18 => (if 0 ≤ q18.1 ∧ q18.1 ≤ 1 then (some (q18.1, q18.2)) else none))
def f_Law_readRule_57_1 (a2 : Int) (σ : pS) : Option (Int × pS) := (f_Tape_sign_1  σ).bind fun q1 => (if q1.1 = 100 then (f_Law_readRule_57_1_p23 a2 q1.1 q1.2) else (if q1.1 = 120 then (f_Law_readRule_57_1_p23 a2 q1.1 q1.2) else ((f_Tape_fail_1 1 q1.2).bind fun q21 => (if 0 ≤ q21.1 ∧ q21.1 ≤ 1 then (some (q21.1, q21.2)) else none))))
def f_Law_readFrom_57_1_p7 : Nat → Int → pS → Option (Int × pS)
  | 0, _, _ => none
  | n + 1, a2, σ => if 16 < a2 then ((f_Tape_fault_1  σ).bind fun q2 => (some (q2.1, q2.2))) else ((f_Law_readRule_57_1 a2 σ).bind fun q3 => (if q3.1 = 0 then ((f_Tape_fault_1  q3.2).bind fun q10 => (some (q10.1, q10.2))) else ((f_Tape_ended_1  q3.2).bind fun q5 => (if q5.1 = 0 then ((f_Tape_accept_1 59 q5.2).bind fun q7 => (if q7.1 = 0 then ((f_Tape_fault_1  q7.2).bind fun q9 => (some (q9.1, q9.2))) else (f_Law_readFrom_57_1_p7 n (pw (a2 + 1)) q7.2))) else (some (pw (a2 + 1), pU q5.2 57 7 (pw (a2 + 1))))))))
def f_Law_readFrom_57_1 (σ : pS) : Option (Int × pS) := f_Law_readFrom_57_1_p7 4096 0 (pU σ 57 8 0)
def f_Law_copyFrom_16_57 (σ : pS) : Option (Int × pS) := some (0, pU (pKp (pKp (pKp (pKp (pKp σ 58 17 16) 59 18 17) 60 19 16) 61 20 240) 62 21 240) 16 7 (σ 57 7))
def f_X_law_0_p63 (a2 : Int) (σ : pS) : Option (Int × pS) := (f_Tape_clear_1  σ).bind fun q7 => (some (a2, q7.2))
def f_X_law_0 (a1 : Int) (σ : pS) : Option (Int × pS) := if a1 < 1 then (some ((-1), σ)) else (if 240 < a1 then (some ((-1), σ)) else (if a1 ≤ (σ 1 1) then ((f_Tape_beginText_1 a1 σ).bind fun q4 => ((f_Law_readFrom_57_1  q4.2).bind fun q5 => (if q5.1 < 0 then (f_X_law_0_p63 q5.1 q5.2) else ((f_Law_copyFrom_16_57  q5.2).bind fun q8 => (f_X_law_0_p63 q5.1 q8.2))))) else (some ((-1), σ))))
def f_M_opens_84 (a1 : Int) (σ : pS) : Option (Int × pS) := if (σ 84 23) = 6 then ((f_M_wrongAt_84 5 (σ 84 19) σ).bind fun q3 => (if 0 ≤ q3.1 ∧ q3.1 ≤ 1 then (some (q3.1, q3.2)) else none)) else (if 0 ≤ (σ 84 25) ∧ (σ 84 25) < 260 then (some (1, pU (pU (pU (pU σ 84 23 (pw ((σ 84 23) + 1))) 98 ((σ 84 25).toNat) (pw (1048576 * a1))) 84 25 (pw ((σ 84 25) + 1))) 84 19 (pw ((σ 84 19) + 1)))) else none)
def f_M_factOf (a0 : Int) (σ : pS) : Option (Int × pS) := if a0 = 99 then (some (2, σ)) else (if a0 = 100 then (some ((-1), σ)) else (if a0 = 101 then (some ((-1), σ)) else (if a0 = 102 then (some ((-1), σ)) else (if a0 = 103 then (some ((-1), σ)) else (if a0 = 104 then (some ((-1), σ)) else (if a0 = 105 then (some (0, σ)) else (if a0 = 106 then (some ((-1), σ)) else (if a0 = 107 then (some (1, σ)) else (if a0 = 108 then (some ((-1), σ)) else (if a0 = 109 then (some ((-1), σ)) else (if a0 = 110 then (some (4, σ)) else (if a0 = 111 then (some ((-1), σ)) else (if a0 = 112 then (some ((-1), σ)) else (if a0 = 113 then (some ((-1), σ)) else (if a0 = 114 then (some (5, σ)) else (if a0 = 115 then (some (3, σ)) else (if a0 = 116 then (some ((-1), σ)) else (if a0 = 117 then (some ((-1), σ)) else (if a0 = 118 then (some ((-1), σ)) else (if a0 = 119 then (some (6, σ)) else (some ((-1), σ))))))))))))))))))))))
def f_M_notes_84 (a1 a2 : Int) (σ : pS) : Option (Int × pS) := if 0 ≤ (σ 84 24) ∧ (σ 84 24) < 260 then (some (0, pU (pU σ 97 ((σ 84 24).toNat) (pw ((pw (1048576 * a1)) + a2))) 84 24 (pw ((σ 84 24) + 1)))) else none
def f_M_readsNumber_84_p10 : Nat → Int → pS → Option (Int × pS)
  | 0, _, _ => none
  | n + 1, a1, σ => (f_M_isDigit_84  σ).bind fun q1 => (if q1.1 = 0 then (some (1, q1.2)) else (if (q1.2 84 19) = (pw (a1 + 5)) then ((f_M_wrongAt_84 2 (q1.2 84 19) q1.2).bind fun q5 => (if 0 ≤ q5.1 ∧ q5.1 ≤ 1 then (some (q5.1, q5.2)) else none)) else ((f_M_here_84  q1.2).bind fun q4 => (f_M_readsNumber_84_p10 n a1 (pU (pU q4.2 84 22 (pw ((pw ((pw (10 * (q1.2 84 22))) + q4.1)) - 48))) 84 19 (pw ((q4.2 84 19) + 1)))))))
def f_M_readsNumber_84 (σ : pS) : Option (Int × pS) := f_M_readsNumber_84_p10 4096 (σ 84 19) (pU σ 84 22 0)
def f_M_readsFactor_84_p0 : Nat → pS → Option (Int × pS)
  | 0, _ => none
  | n + 1, σ => (f_M_here_84  σ).bind fun q1 => (if q1.1 = 91 then ((f_M_opens_84 14 q1.2).bind fun q14 => (if q14.1 = 0 then (some (0, q14.2)) else (f_M_readsFactor_84_p0 n  q14.2))) else ((f_M_isDigit_84  q1.2).bind fun q3 => (if q3.1 = 0 then ((f_M_here_84  q3.2).bind fun q5 => ((f_M_factOf q5.1 q5.2).bind fun q6 => (if q6.1 = (-1) then ((f_M_wrongAt_84 1 (q6.2 84 19) q6.2).bind fun q9 => (if 0 ≤ q9.1 ∧ q9.1 ≤ 1 then (some (q9.1, q9.2)) else none)) else ((f_M_notes_84 1 q6.1 q6.2).bind fun q8 => (some (1, pU q8.2 84 19 (pw ((q8.2 84 19) + 1)))))))) else ((f_M_readsNumber_84  q3.2).bind fun q11 => (if q11.1 = 0 then (some (0, q11.2)) else ((f_M_notes_84 0 (q11.2 84 22) q11.2).bind fun q13 => (some (1, q13.2))))))))
def f_M_readsFactor_84 (σ : pS) : Option (Int × pS) := f_M_readsFactor_84_p0 4096  σ
def f_M_sumSign (a0 : Int) (σ : pS) : Option (Int × pS) := if a0 = 43 then (some (2, σ)) else (if a0 = 45 then (some (3, σ)) else (if a0 = 42 then (some (4, σ)) else (if a0 = 47 then (some (5, σ)) else (if a0 = 37 then (some (6, σ)) else (some ((-1), σ))))))
def f_M_hasOpenSum_84_p2 : Nat → Int → pS → Option (Int × pS)
  | 0, _, _ => none
  | n + 1, a2, σ => if (σ 84 25) ≤ a2 then (some (0, σ)) else (if 0 ≤ a2 ∧ a2 < 260 then (if (pDiv (σ 98 a2.toNat) 1048576) = 14 then (some (1, σ)) else (f_M_hasOpenSum_84_p2 n (pw (a2 + 1)) σ)) else none)
def f_M_hasOpenSum_84 (a1 : Int) (σ : pS) : Option (Int × pS) := f_M_hasOpenSum_84_p2 4096 a1 σ
def f_M_waitTop_84 (σ : pS) : Option (Int × pS) := if (σ 84 25) = 0 then (some ((-1), σ)) else (if 0 ≤ (pw ((σ 84 25) - 1)) ∧ (pw ((σ 84 25) - 1)) < 260 then (some (pDiv (σ 98 (pw ((σ 84 25) - 1)).toNat) 1048576, σ)) else none)
def f_M_closesSums_84_p37 (k_0 : Int → pS → Option (Int × pS)) (a1 : Int) (σ : pS) : Option (Int × pS) := (f_M_waitTop_84  σ).bind fun q6 => ((f_M_notes_84 q6.1 0 q6.2).bind fun q7 => (k_0 a1 (pU q7.2 84 25 (pw ((q7.2 84 25) - 1)))))
def f_M_closesSums_84_p17 (k_0 : Int → pS → Option (Int × pS)) (a1 : Int) (σ : pS) : Option (Int × pS) := if a1 = 0 then (some (0, σ)) else ((f_M_waitTop_84  σ).bind fun q4 => (if q4.1 = 2 then (f_M_closesSums_84_p37 k_0 a1 q4.2) else ((f_M_waitTop_84  q4.2).bind fun q8 => (if q8.1 = 3 then (f_M_closesSums_84_p37 k_0 a1 q8.2) else (some (0, q8.2))))))
def f_M_closesSums_84_p0 : Nat → Int → pS → Option (Int × pS)
  | 0, _, _ => none
  | n + 1, a1, σ => (f_M_waitTop_84  σ).bind fun q1 => (if q1.1 < 4 then (f_M_closesSums_84_p17 (f_M_closesSums_84_p0 n) a1 q1.2) else ((f_M_waitTop_84  q1.2).bind fun q10 => (if q10.1 ≤ 6 then (f_M_closesSums_84_p37 (f_M_closesSums_84_p0 n) a1 q10.2) else (f_M_closesSums_84_p17 (f_M_closesSums_84_p0 n) a1 q10.2))))
def f_M_closesSums_84 (a1 : Int) (σ : pS) : Option (Int × pS) := f_M_closesSums_84_p0 4096 a1 σ
def f_M_readsSum_84_p138 (a1 : Int) (σ : pS) : Option (Int × pS) := (f_M_hasOpenSum_84 a1 σ).bind fun q8 => (if q8.1 = 0 then ((f_M_closesSums_84 1 q8.2).bind fun q10 => (some (1, q10.2))) else ((f_M_wrongAt_84 1 (q8.2 84 19) q8.2).bind fun q11 => (if 0 ≤ q11.1 ∧ q11.1 ≤ 1 then (some (q11.1, q11.2)) else none)))
def f_M_readsSum_84_p38 (k_14 : Int → pS → Option (Int × pS)) (a1 a2 s0 : Int) (σ : pS) : Option (Int × pS) := (f_M_closesSums_84 s0 σ).bind fun q17 => (if 0 ≤ (q17.2 84 25) ∧ (q17.2 84 25) < 260 then ((f_M_readsFactor_84  (pU (pU (pU q17.2 98 ((q17.2 84 25).toNat) (pw (1048576 * a2))) 84 25 (pw ((q17.2 84 25) + 1))) 84 19 (pw ((q17.2 84 19) + 1)))).bind fun q19 => (if q19.1 = 0 then (some (0, q19.2)) else (k_14 a1 q19.2))) else none)
def f_M_readsSum_84_p14 : Nat → Int → pS → Option (Int × pS)
  | 0, _, _ => none
  | n + 1, a1, σ => (f_M_here_84  σ).bind fun q3 => ((f_M_sumSign q3.1 q3.2).bind fun q4 => (if q4.1 = (-1) then ((f_M_here_84  q4.2).bind fun q6 => (if q6.1 = 93 then ((f_M_hasOpenSum_84 a1 q6.2).bind fun q13 => (if q13.1 = 0 then (f_M_readsSum_84_p138 a1 q13.2) else ((f_M_closesSums_84 1 q13.2).bind fun q15 => (f_M_readsSum_84_p14 n a1 (pU (pU (pU q15.2 84 25 (pw ((q15.2 84 25) - 1))) 84 23 (pw ((q15.2 84 23) - 1))) 84 19 (pw ((q15.2 84 19) + 1))))))) else (f_M_readsSum_84_p138 a1 q6.2))) else (if 4 ≤ q4.1 then (f_M_readsSum_84_p38 (f_M_readsSum_84_p14 n) a1 q4.1 0 q4.2) else (f_M_readsSum_84_p38 (f_M_readsSum_84_p14 n) a1 q4.1 1 q4.2))))
def f_M_readsSum_84 (σ : pS) : Option (Int × pS) := (f_M_readsFactor_84  σ).bind fun q1 => (if q1.1 = 0 then (some (0, q1.2)) else (f_M_readsSum_84_p14 4096 (σ 84 25) q1.2))
def f_M_endsPiece_84_p0 : Nat → pS → Option (Int × pS)
  | 0, _ => none
  | n + 1, σ => (f_M_waitTop_84  σ).bind fun q1 => (if q1.1 = 10 then ((f_M_notes_84 10 0 q1.2).bind fun q3 => (f_M_endsPiece_84_p0 n  (pU (pU q3.2 84 25 (pw ((q3.2 84 25) - 1))) 84 23 (pw ((q3.2 84 23) - 1))))) else (some (0, q1.2)))
def f_M_endsPiece_84 (σ : pS) : Option (Int × pS) := f_M_endsPiece_84_p0 4096  σ
def f_M_readsCompared_84_p52 (s0 : Int) (σ : pS) : Option (Int × pS) := if s0 = (-1) then ((f_M_wrongAt_84 1 (σ 84 19) σ).bind fun q14 => (if 0 ≤ q14.1 ∧ q14.1 ≤ 1 then (some (q14.1, q14.2)) else none)) else ((f_M_readsSum_84  (pU σ 84 19 (pw ((σ 84 19) + 1)))).bind fun q10 => (if q10.1 = 0 then (some (0, q10.2)) else ((f_M_notes_84 s0 0 q10.2).bind fun q12 => ((f_M_endsPiece_84  q12.2).bind fun q13 => (some (1, q13.2))))))
def f_M_readsCompared_84 (σ : pS) : Option (Int × pS) := (f_M_readsSum_84  σ).bind fun q1 => (if q1.1 = 0 then (some (0, q1.2)) else ((f_M_here_84  q1.2).bind fun q3 => (if q3.1 = 60 then (f_M_readsCompared_84_p52 7 q3.2) else ((f_M_here_84  q3.2).bind fun q5 => (if q5.1 = 62 then (f_M_readsCompared_84_p52 8 q5.2) else ((f_M_here_84  q5.2).bind fun q7 => (if q7.1 = 61 then (f_M_readsCompared_84_p52 9 q7.2) else (f_M_readsCompared_84_p52 (-1) q7.2))))))))
def f_M_lands_84_p22 (k_0 : Int → pS → Option (Int × pS)) (a1 : Int) (σ : pS) : Option (Int × pS) := if 0 ≤ (pw ((σ 84 25) - 1)) ∧ (pw ((σ 84 25) - 1)) < 260 then (if 0 ≤ (pRem (σ 98 (pw ((σ 84 25) - 1)).toNat) 1048576) ∧ (pRem (σ 98 (pw ((σ 84 25) - 1)).toNat) 1048576) < 260 then (if 0 ≤ (pRem (σ 98 (pw ((σ 84 25) - 1)).toNat) 1048576) ∧ (pRem (σ 98 (pw ((σ 84 25) - 1)).toNat) 1048576) < 260 then (k_0 a1 (pU (pU σ 97 ((pRem (σ 98 (pw ((σ 84 25) - 1)).toNat) 1048576).toNat) (pw ((pw (1048576 * (pDiv (σ 97 (pRem (σ 98 (pw ((σ 84 25) - 1)).toNat) 1048576).toNat) 1048576))) + (σ 84 24)))) 84 25 (pw ((σ 84 25) - 1)))) else none) else none) else none
def f_M_lands_84_p0 : Nat → Int → pS → Option (Int × pS)
  | 0, _, _ => none
  | n + 1, a1, σ => (f_M_waitTop_84  σ).bind fun q1 => (if q1.1 = 11 then (f_M_lands_84_p22 (f_M_lands_84_p0 n) a1 q1.2) else (if a1 = 0 then (some (0, q1.2)) else ((f_M_waitTop_84  q1.2).bind fun q9 => (if q9.1 = 12 then (f_M_lands_84_p22 (f_M_lands_84_p0 n) a1 q9.2) else (some (0, q9.2))))))
def f_M_lands_84 (a1 : Int) (σ : pS) : Option (Int × pS) := f_M_lands_84_p0 4096 a1 σ
def f_M_jumps_84 (a1 : Int) (σ : pS) : Option (Int × pS) := if 0 ≤ (σ 84 25) ∧ (σ 84 25) < 260 then ((f_M_notes_84 a1 0 (pU (pU σ 98 ((σ 84 25).toNat) (pw ((pw (1048576 * a1)) + (σ 84 24)))) 84 25 (pw ((σ 84 25) + 1)))).bind fun q2 => (some (0, pU q2.2 84 19 (pw ((q2.2 84 19) + 1))))) else none
def f_M_readsCondition_84_p75 (k_40 : pS → Option (Int × pS)) (s0 : Int) (σ : pS) : Option (Int × pS) := (f_M_opens_84 s0 σ).bind fun q9 => (if q9.1 = 0 then (some (0, q9.2)) else (k_40  q9.2))
def f_M_readsCondition_84_p58 (k_40 : pS → Option (Int × pS)) (σ : pS) : Option (Int × pS) := (f_M_here_84  σ).bind fun q7 => (if q7.1 = 33 then (f_M_readsCondition_84_p75 k_40 10 q7.2) else (f_M_readsCondition_84_p75 k_40 13 q7.2))
def f_M_readsCondition_84_p215 (k_40 : pS → Option (Int × pS)) (s0 : Int) (σ : pS) : Option (Int × pS) := (f_M_jumps_84 s0 σ).bind fun q24 => (k_40  q24.2)
def f_M_readsCondition_84_p195 (k_40 : pS → Option (Int × pS)) (s0 : Int) (σ : pS) : Option (Int × pS) := (f_M_lands_84 s0 σ).bind fun q21 => ((f_M_here_84  q21.2).bind fun q22 => (if q22.1 = 38 then (f_M_readsCondition_84_p215 k_40 11 q22.2) else (f_M_readsCondition_84_p215 k_40 12 q22.2)))
def f_M_readsCondition_84_p180 (k_40 : pS → Option (Int × pS)) (σ : pS) : Option (Int × pS) := (f_M_here_84  σ).bind fun q19 => (if q19.1 = 124 then (f_M_readsCondition_84_p195 k_40 1 q19.2) else (f_M_readsCondition_84_p195 k_40 0 q19.2))
def f_M_readsCondition_84_p92 (k_40 : pS → Option (Int × pS)) : Nat → pS → Option (Int × pS)
  | 0, _ => none
  | n + 1, σ => (f_M_here_84  σ).bind fun q15 => (if q15.1 = 41 then ((f_M_lands_84 1 q15.2).bind fun q29 => (if (pw ((q29.2 84 25) - 1)) = 0 then (some (1, pU (pU (pU q29.2 84 25 (pw ((q29.2 84 25) - 1))) 84 23 (pw ((q29.2 84 23) - 1))) 84 19 (pw ((q29.2 84 19) + 1)))) else ((f_M_endsPiece_84  (pU (pU (pU q29.2 84 25 (pw ((q29.2 84 25) - 1))) 84 23 (pw ((q29.2 84 23) - 1))) 84 19 (pw ((q29.2 84 19) + 1)))).bind fun q31 => (f_M_readsCondition_84_p92 k_40 n  q31.2)))) else ((f_M_here_84  q15.2).bind fun q17 => (if q17.1 = 38 then (f_M_readsCondition_84_p180 k_40  q17.2) else ((f_M_here_84  q17.2).bind fun q25 => (if q25.1 = 124 then (f_M_readsCondition_84_p180 k_40  q25.2) else ((f_M_wrongAt_84 1 (q25.2 84 19) q25.2).bind fun q27 => (if 0 ≤ q27.1 ∧ q27.1 ≤ 1 then (some (q27.1, q27.2)) else none)))))))
def f_M_readsCondition_84_p40 : Nat → pS → Option (Int × pS)
  | 0, _ => none
  | n + 1, σ => (f_M_here_84  σ).bind fun q5 => (if q5.1 = 33 then (f_M_readsCondition_84_p58 (f_M_readsCondition_84_p40 n)  q5.2) else ((f_M_here_84  q5.2).bind fun q11 => (if q11.1 = 40 then (f_M_readsCondition_84_p58 (f_M_readsCondition_84_p40 n)  q11.2) else ((f_M_readsCompared_84  q11.2).bind fun q13 => (if q13.1 = 0 then (some (0, q13.2)) else (f_M_readsCondition_84_p92 (f_M_readsCondition_84_p40 n) 4096  q13.2))))))
def f_M_readsCondition_84 (σ : pS) : Option (Int × pS) := (f_M_here_84  σ).bind fun q1 => (if q1.1 = 40 then ((f_M_opens_84 13 (pU (pU q1.2 84 23 0) 84 25 0)).bind fun q3 => (if q3.1 = 0 then (some (0, q3.2)) else (f_M_readsCondition_84_p40 4096  q3.2))) else ((f_M_wrongAt_84 1 (q1.2 84 19) q1.2).bind fun q32 => (if 0 ≤ q32.1 ∧ q32.1 ≤ 1 then (some (q32.1, q32.2)) else none)))
def f_M_readsRule_84_p104 (σ : pS) : Option (Int × pS) := if 0 ≤ (σ 84 26) ∧ (σ 84 26) < 16 then ((f_M_readsCondition_84  (pU σ 101 ((σ 84 26).toNat) (σ 84 24))).bind fun q8 => (if q8.1 = 0 then (some (0, q8.2)) else (if 0 ≤ (q8.2 84 26) ∧ (q8.2 84 26) < 16 then (some (1, pU (pU q8.2 102 ((q8.2 84 26).toNat) (q8.2 84 24)) 84 26 (pw ((q8.2 84 26) + 1)))) else none))) else none
def f_M_readsRule_84_p27 (a1 : Int) (σ : pS) : Option (Int × pS) := if (σ 84 26) = 16 then ((f_M_wrongAt_84 4 (σ 84 19) σ).bind fun q13 => (if 0 ≤ q13.1 ∧ q13.1 ≤ 1 then (some (q13.1, q13.2)) else none)) else (if 0 ≤ (σ 84 26) ∧ (σ 84 26) < 16 then (if 0 ≤ (σ 84 26) ∧ (σ 84 26) < 16 then (if a1 = 120 then (f_M_readsRule_84_p104  (pU (pU (pU (pU (pU σ 99 ((σ 84 26).toNat) a1) 84 19 (pw ((σ 84 19) + 1))) 100 ((σ 84 26).toNat) (σ 84 24)) 84 23 0) 84 25 0)) else ((f_M_readsSum_84  (pU (pU (pU (pU (pU σ 99 ((σ 84 26).toNat) a1) 84 19 (pw ((σ 84 19) + 1))) 100 ((σ 84 26).toNat) (σ 84 24)) 84 23 0) 84 25 0)).bind fun q11 => (if q11.1 = 0 then (some (0, q11.2)) else (f_M_readsRule_84_p104  q11.2)))) else none) else none)
def f_M_readsRule_84 (σ : pS) : Option (Int × pS) := (f_M_here_84  σ).bind fun q1 => (if q1.1 = 100 then (f_M_readsRule_84_p27 q1.1 q1.2) else (if q1.1 = 120 then (f_M_readsRule_84_p27 q1.1 q1.2) else ((f_M_wrongAt_84 1 (q1.2 84 19) q1.2).bind fun q16 => (if 0 ≤ q16.1 ∧ q16.1 ≤ 1 then (some (q16.1, q16.2)) else none))))
def f_M_law_84_p123 : Nat → Int → pS → Option (Int × pS)
  | 0, _, _ => none
  | n + 1, a3, σ => if (σ 84 26) ≤ a3 then (some (σ 84 26, σ)) else (if 0 ≤ a3 ∧ a3 < 16 then (if 0 ≤ a3 ∧ a3 < 16 then (if 0 ≤ a3 ∧ a3 < 16 then (if 0 ≤ a3 ∧ a3 < 16 then (if 0 ≤ a3 ∧ a3 < 16 then (if 0 ≤ a3 ∧ a3 < 16 then (if 0 ≤ a3 ∧ a3 < 16 then (if 0 ≤ a3 ∧ a3 < 16 then (f_M_law_84_p123 n (pw (a3 + 1)) (pU (pU (pU (pU σ 104 (a3.toNat) (σ 99 a3.toNat)) 105 (a3.toNat) (σ 100 a3.toNat)) 106 (a3.toNat) (σ 101 a3.toNat)) 107 (a3.toNat) (σ 102 a3.toNat))) else none) else none) else none) else none) else none) else none) else none) else none)
def f_M_law_84_p95 : Nat → Int → pS → Option (Int × pS)
  | 0, _, _ => none
  | n + 1, a3, σ => if (σ 84 24) ≤ a3 then (f_M_law_84_p123 4096 0 σ) else (if 0 ≤ a3 ∧ a3 < 260 then (if 0 ≤ a3 ∧ a3 < 260 then (f_M_law_84_p95 n (pw (a3 + 1)) (pU σ 103 (a3.toNat) (σ 97 a3.toNat))) else none) else none)
def f_M_law_84_p71 (a2 : Int) (σ : pS) : Option (Int × pS) := if a2 = 0 then (some (σ 84 21, pU σ 84 18 0)) else (f_M_law_84_p95 4096 0 (pU (pU σ 84 18 0) 84 27 (σ 84 26)))
def f_M_law_84_p31 : Nat → Int → pS → Option (Int × pS)
  | 0, _, _ => none
  | n + 1, a2, σ => if a2 = 0 then (f_M_law_84_p71 a2 σ) else (if (σ 84 20) ≤ (σ 84 19) then (f_M_law_84_p71 a2 σ) else ((f_M_takes_84 59 σ).bind fun q21 => (if q21.1 = 0 then (f_M_law_84_p31 n 0 q21.2) else ((f_M_readsRule_84  q21.2).bind fun q23 => (if q23.1 = 0 then (f_M_law_84_p31 n 0 q23.2) else (f_M_law_84_p31 n 1 q23.2))))))
def f_M_law_84 (a1 : Int) (σ : pS) : Option (Int × pS) := (f_M_in a1 1 240 σ).bind fun q1 => (if q1.1 = 0 then (some ((-1), q1.2)) else (if a1 ≤ (q1.2 84 18) then ((f_M_beginsText_84 a1 q1.2).bind fun q4 => ((f_M_readsRule_84  q4.2).bind fun q5 => (f_M_law_84_p31 4096 q5.1 q5.2))) else (some ((-1), q1.2))))
def f_X_canRun_0 (a1 : Int) (σ : pS) : Option (Int × pS) := if a1 < 1 then (some (0, σ)) else (if 4 < a1 then (some (0, σ)) else (if (σ 4 11) ≤ 0 then (some (0, σ)) else (some (1, σ))))
def f_State_copyCellsFrom_28_24 (σ : pS) : Option (Int × pS) := some (0, pU (pU (pKp (pKp σ 25 29 8) 26 30 64) 28 4 (σ 24 4)) 28 5 (σ 24 5))
def f_State_copySetsFrom_28_24 (σ : pS) : Option (Int × pS) := some (0, pU (pKp σ 27 31 20) 28 3 (σ 24 3))
def f_State_copyFrom_28_24 (σ : pS) : Option (Int × pS) := (f_State_copyCellsFrom_28_24  σ).bind fun q1 => ((f_State_copySetsFrom_28_24  q1.2).bind fun q2 => (some (0, q2.2)))
def f_Arrays_fill_33_p5 : Nat → Int → Int → Int → pS → Option (Int × pS)
  | 0, _, _, _, _ => none
  | n + 1, a1, a2, a3, σ => if a3 ≤ a2 then (some (0, σ)) else (if 0 ≤ a2 ∧ a2 < 6 then (f_Arrays_fill_33_p5 n a1 (pw (a2 + 1)) a3 (pU σ 33 (a2.toNat) a1)) else none)
def f_Arrays_fill_33 (a1 : Int) (σ : pS) : Option (Int × pS) := f_Arrays_fill_33_p5 4096 a1 0 6 σ
def f_Arrays_fill_34_p5 : Nat → Int → Int → Int → pS → Option (Int × pS)
  | 0, _, _, _, _ => none
  | n + 1, a1, a2, a3, σ => if a3 ≤ a2 then (some (0, σ)) else (if 0 ≤ a2 ∧ a2 < 20 then (f_Arrays_fill_34_p5 n a1 (pw (a2 + 1)) a3 (pU σ 34 (a2.toNat) a1)) else none)
def f_Arrays_fill_34 (a1 : Int) (σ : pS) : Option (Int × pS) := f_Arrays_fill_34_p5 4096 a1 0 20 σ
def f_Arrays_fill_35_p5 : Nat → Int → Int → Int → pS → Option (Int × pS)
  | 0, _, _, _, _ => none
  | n + 1, a1, a2, a3, σ => if a3 ≤ a2 then (some (0, σ)) else (if 0 ≤ a2 ∧ a2 < 20 then (f_Arrays_fill_35_p5 n a1 (pw (a2 + 1)) a3 (pU σ 35 (a2.toNat) a1)) else none)
def f_Arrays_fill_35 (a1 : Int) (σ : pS) : Option (Int × pS) := f_Arrays_fill_35_p5 4096 a1 0 20 σ
def f_Arrays_fill_36_p5 : Nat → Int → Int → Int → pS → Option (Int × pS)
  | 0, _, _, _, _ => none
  | n + 1, a1, a2, a3, σ => if a3 ≤ a2 then (some (0, σ)) else (if 0 ≤ a2 ∧ a2 < 20 then (f_Arrays_fill_36_p5 n a1 (pw (a2 + 1)) a3 (pU σ 36 (a2.toNat) a1)) else none)
def f_Arrays_fill_36 (a1 : Int) (σ : pS) : Option (Int × pS) := f_Arrays_fill_36_p5 4096 a1 0 20 σ
def f_Arrays_fill_37_p5 : Nat → Int → Int → Int → pS → Option (Int × pS)
  | 0, _, _, _, _ => none
  | n + 1, a1, a2, a3, σ => if a3 ≤ a2 then (some (0, σ)) else (if 0 ≤ a2 ∧ a2 < 20 then (f_Arrays_fill_37_p5 n a1 (pw (a2 + 1)) a3 (pU σ 37 (a2.toNat) a1)) else none)
def f_Arrays_fill_37 (a1 : Int) (σ : pS) : Option (Int × pS) := f_Arrays_fill_37_p5 4096 a1 0 20 σ
def f_Arrays_fill_38_p5 : Nat → Int → Int → Int → pS → Option (Int × pS)
  | 0, _, _, _, _ => none
  | n + 1, a1, a2, a3, σ => if a3 ≤ a2 then (some (0, σ)) else (if 0 ≤ a2 ∧ a2 < 80 then (f_Arrays_fill_38_p5 n a1 (pw (a2 + 1)) a3 (pU σ 38 (a2.toNat) a1)) else none)
def f_Arrays_fill_38 (a1 : Int) (σ : pS) : Option (Int × pS) := f_Arrays_fill_38_p5 4096 a1 0 80 σ
def f_Rep_clear_32 (σ : pS) : Option (Int × pS) := (f_Arrays_fill_33 0 σ).bind fun q1 => ((f_Arrays_fill_34 0 q1.2).bind fun q2 => ((f_Arrays_fill_35 0 q2.2).bind fun q3 => ((f_Arrays_fill_36 0 q3.2).bind fun q4 => ((f_Arrays_fill_37 0 q4.2).bind fun q5 => ((f_Arrays_fill_38 (-1) q5.2).bind fun q6 => (some (0, q6.2)))))))
def f_Arrays_fill_39_p5 : Nat → Int → Int → Int → pS → Option (Int × pS)
  | 0, _, _, _, _ => none
  | n + 1, a1, a2, a3, σ => if a3 ≤ a2 then (some (0, σ)) else (if 0 ≤ a2 ∧ a2 < 20 then (f_Arrays_fill_39_p5 n a1 (pw (a2 + 1)) a3 (pU σ 39 (a2.toNat) a1)) else none)
def f_Arrays_fill_39 (a1 : Int) (σ : pS) : Option (Int × pS) := f_Arrays_fill_39_p5 4096 a1 0 20 σ
def f_Mach_begin_3_p28 : Nat → Int → pS → Option (Int × pS)
  | 0, _, _ => none
  | n + 1, a1, σ => if 20 ≤ a1 then (some (0, σ)) else (if 0 ≤ a1 ∧ a1 < 20 then (f_Mach_begin_3_p28 n (pw (a1 + 1)) (pU σ 41 (a1.toNat) 0)) else none)
def f_Mach_begin_3 (σ : pS) : Option (Int × pS) := (f_State_copyFrom_28_24  σ).bind fun q1 => ((f_Rep_clear_32  q1.2).bind fun q2 => ((f_Arrays_fill_39 0 q2.2).bind fun q3 => (f_Mach_begin_3_p28 4096 0 q3.2)))
def f_Mach_valueRead_3_p20 (a2 : Int) (σ : pS) : Option (Int × pS) := (f_X_isCell a2 σ).bind fun q2 => (if q2.1 = 0 then (some (0, q2.2)) else (if 0 ≤ a2 ∧ a2 < 8 then (some (q2.2 25 a2.toNat, q2.2)) else none))
def f_Mach_valueRead_3 (a1 a2 : Int) (σ : pS) : Option (Int × pS) := if a1 < 0 then (f_Mach_valueRead_3_p20 a2 σ) else (if 20 ≤ a1 then (f_Mach_valueRead_3_p20 a2 σ) else (if 0 ≤ a1 ∧ a1 < 20 then (some (σ 36 a1.toNat, σ)) else none))
def f_Prog_reckoned_4 (a1 a2 a3 : Int) (σ : pS) : Option (Int × pS) := if 0 ≤ a1 ∧ a1 < 20 then (if (σ 6 a1.toNat) = 38 then (some (pAnd a2 a3, σ)) else (if (σ 6 a1.toNat) = 42 then (some (pw (a2 * a3), σ)) else (if (σ 6 a1.toNat) = 43 then (some (pw (a2 + a3), σ)) else (if (σ 6 a1.toNat) = 45 then (some (pw (a2 - a3), σ)) else (if (σ 6 a1.toNat) = 62 then (if a2 ≤ a3 then (some (0, σ)) else (some (1, σ))) else (if (σ 6 a1.toNat) = 94 then (some (pXor a2 a3, σ)) else (if 0 ≤ a1 ∧ a1 < 20 then (some (σ 11 a1.toNat, σ)) else none))))))) else none
def f_Prog_placeBy_4 (a1 a2 : Int) (σ : pS) : Option (Int × pS) := if 0 ≤ a1 ∧ a1 < 20 then (some (pAnd (pw (a2 + (σ 11 a1.toNat))) 63, σ)) else none
def f_Prog_storedOf_4 (a1 a2 : Int) (σ : pS) : Option (Int × pS) := if 0 ≤ a1 ∧ a1 < 20 then (if (σ 7 a1.toNat) = 4 then (some (a2, σ)) else (if 0 ≤ a1 ∧ a1 < 20 then (some (pAnd a2 (pw ((pShl 1 (pw (8 * (σ 7 a1.toNat)))) - 1)), σ)) else none)) else none
def f_Mach_undoDownTo_3_p26 (k_10 : Int → Int → pS → Option (Int × pS)) : Nat → Int → Int → Int → pS → Option (Int × pS)
  | 0, _, _, _, _ => none
  | n + 1, a1, a2, a3, σ => if 0 ≤ a2 ∧ a2 < 20 then (if (σ 7 a2.toNat) ≤ a3 then (if 0 ≤ a2 ∧ a2 < 20 then (k_10 a1 (pw (a2 + (-1))) (pU (pU σ 41 (a2.toNat) 0) 33 4 (pw ((σ 33 4) + 1)))) else none) else (if 0 ≤ a2 ∧ a2 < 20 then (if 0 ≤ (pw ((pw (a2 * 4)) + a3)) ∧ (pw ((pw (a2 * 4)) + a3)) < 80 then (if 0 ≤ (pAnd (pw ((σ 37 a2.toNat) + a3)) 63) ∧ (pAnd (pw ((σ 37 a2.toNat) + a3)) 63) < 64 then (f_Mach_undoDownTo_3_p26 k_10 n a1 a2 (pw (a3 + 1)) (pU σ 30 ((pAnd (pw ((σ 37 a2.toNat) + a3)) 63).toNat) (σ 42 (pw ((pw (a2 * 4)) + a3)).toNat))) else none) else none) else none)) else none
def f_Mach_undoDownTo_3_p10 : Nat → Int → Int → pS → Option (Int × pS)
  | 0, _, _, _ => none
  | n + 1, a1, a2, σ => if a2 < a1 then (some (0, σ)) else (if 0 ≤ a2 ∧ a2 < 20 then (if (σ 41 a2.toNat) = 0 then (f_Mach_undoDownTo_3_p10 n a1 (pw (a2 + (-1))) σ) else (f_Mach_undoDownTo_3_p26 (f_Mach_undoDownTo_3_p10 n) 4096 a1 a2 0 σ)) else none)
def f_Mach_undoDownTo_3 (a1 : Int) (σ : pS) : Option (Int × pS) := f_Mach_undoDownTo_3_p10 4096 a1 (pw ((σ 4 11) - 1)) σ
def f_Mach_makeWait_3 (a1 : Int) (σ : pS) : Option (Int × pS) := if 0 ≤ a1 ∧ a1 < 20 then (if 0 ≤ a1 ∧ a1 < 20 then (if 0 ≤ a1 ∧ a1 < 20 then (if 0 ≤ a1 ∧ a1 < 20 then (if (σ 41 a1.toNat) = 0 then (some (0, pU (pU (pU σ 39 (a1.toNat) 0) 35 (a1.toNat) (pw ((σ 35 a1.toNat) + 1))) 33 2 (pw ((σ 33 2) + 1)))) else ((f_Mach_undoDownTo_3 a1 (pU (pU (pU σ 39 (a1.toNat) 0) 35 (a1.toNat) (pw ((σ 35 a1.toNat) + 1))) 33 2 (pw ((σ 33 2) + 1)))).bind fun q6 => (some (0, q6.2)))) else none) else none) else none) else none
def f_Mach_dependsOn_3_p55 : Nat → Int → Int → Int → pS → Option (Int × pS)
  | 0, _, _, _, _ => none
  | n + 1, a1, a2, a3, σ => if 0 ≤ a1 ∧ a1 < 20 then (if (σ 7 a1.toNat) ≤ a3 then (some (0, σ)) else (if 0 ≤ (pw ((pw (a1 * 4)) + a3)) ∧ (pw ((pw (a1 * 4)) + a3)) < 80 then (if (σ 38 (pw ((pw (a1 * 4)) + a3)).toNat) = a2 then (some (1, σ)) else (f_Mach_dependsOn_3_p55 n a1 a2 (pw (a3 + 1)) σ)) else none)) else none
def f_Mach_dependsOn_3 (a1 a2 : Int) (σ : pS) : Option (Int × pS) := if 0 ≤ a1 ∧ a1 < 20 then (if (σ 12 a1.toNat) = a2 then (some (1, σ)) else (if 0 ≤ a1 ∧ a1 < 20 then (if (σ 13 a1.toNat) = a2 then (some (1, σ)) else (if 0 ≤ a1 ∧ a1 < 20 then (if (σ 5 a1.toNat) = 2 then (if 0 ≤ a1 ∧ a1 < 20 then (if (σ 39 a1.toNat) = 2 then (f_Mach_dependsOn_3_p55 4096 a1 a2 0 σ) else (some (0, σ))) else none) else (some (0, σ))) else none)) else none)) else none
def f_Mach_replay_3_p37 (k_16 : Int → Int → pS → Option (Int × pS)) : Nat → Int → Int → Int → pS → Option (Int × pS)
  | 0, _, _, _, _ => none
  | n + 1, a2, a3, a4, σ => if (σ 4 11) ≤ a4 then (k_16 a2 (pw (a3 + 1)) σ) else (if 0 ≤ a4 ∧ a4 < 20 then (if (σ 39 a4.toNat) = 0 then (f_Mach_replay_3_p37 k_16 n a2 a3 (pw (a4 + 1)) σ) else (if 20 ≤ a2 then (f_Mach_replay_3_p37 k_16 n a2 a3 (pw (a4 + 1)) σ) else (if 0 ≤ a3 ∧ a3 < 20 then ((f_Mach_dependsOn_3 a4 (σ 44 a3.toNat) σ).bind fun q10 => (if q10.1 = 0 then (f_Mach_replay_3_p37 k_16 n a2 a3 (pw (a4 + 1)) q10.2) else ((f_Mach_makeWait_3 a4 q10.2).bind fun q12 => (if 0 ≤ a2 ∧ a2 < 20 then (f_Mach_replay_3_p37 k_16 n (pw (a2 + 1)) a3 (pw (a4 + 1)) (pU q12.2 44 (a2.toNat) a4)) else none)))) else none))) else none)
def f_Mach_replay_3_p16 : Nat → Int → Int → pS → Option (Int × pS)
  | 0, _, _, _ => none
  | n + 1, a2, a3, σ => if a2 ≤ a3 then (some (0, σ)) else (if 20 ≤ a3 then (some (0, σ)) else (if 0 ≤ a3 ∧ a3 < 20 then (f_Mach_replay_3_p37 (f_Mach_replay_3_p16 n) 4096 a2 a3 (pw ((σ 44 a3.toNat) + 1)) σ) else none))
def f_Mach_replay_3 (a1 : Int) (σ : pS) : Option (Int × pS) := (f_Mach_makeWait_3 a1 σ).bind fun q1 => (f_Mach_replay_3_p16 4096 1 0 (pU q1.2 44 0 a1))
def f_X_covers (a0 a1 a2 : Int) (σ : pS) : Option (Int × pS) := if a1 ≤ (pAnd (pw (a2 - a0)) 63) then (some (0, σ)) else (some (1, σ))
def f_Mach_tookTooOld_3_p2 : Nat → Int → Int → Int → pS → Option (Int × pS)
  | 0, _, _, _, _ => none
  | n + 1, a1, a2, a3, σ => if 0 ≤ a1 ∧ a1 < 20 then (if (σ 7 a1.toNat) ≤ a3 then (some (0, σ)) else (if 0 ≤ a1 ∧ a1 < 20 then (if 0 ≤ (pw ((pw (a1 * 4)) + a3)) ∧ (pw ((pw (a1 * 4)) + a3)) < 80 then (if a2 ≤ (σ 38 (pw ((pw (a1 * 4)) + a3)).toNat) then (f_Mach_tookTooOld_3_p2 n a1 a2 (pw (a3 + 1)) σ) else (if 0 ≤ a2 ∧ a2 < 20 then (if 0 ≤ a2 ∧ a2 < 20 then ((f_X_covers (σ 37 a2.toNat) (σ 7 a2.toNat) (pAnd (pw ((σ 37 a1.toNat) + a3)) 63) σ).bind fun q8 => (if q8.1 = 0 then (f_Mach_tookTooOld_3_p2 n a1 a2 (pw (a3 + 1)) q8.2) else (some (1, q8.2)))) else none) else none)) else none) else none)) else none
def f_Mach_tookTooOld_3 (a1 a2 : Int) (σ : pS) : Option (Int × pS) := f_Mach_tookTooOld_3_p2 4096 a1 a2 0 σ
def f_State_melt_28_p57 (a1 a2 a3 : Int) (σ : pS) : Option (Int × pS) := if a3 = (-1) then (if 0 ≤ a1 ∧ a1 < 20 then (if 0 ≤ a2 ∧ a2 < 20 then (if 0 ≤ a1 ∧ a1 < 20 then (if 0 ≤ a2 ∧ a2 < 20 then (some (0, pU (pU σ 31 (a1.toNat) (pMax (σ 31 a1.toNat) (σ 31 a2.toNat))) 31 (a2.toNat) (pMax (σ 31 a1.toNat) (σ 31 a2.toNat)))) else none) else none) else none) else none) else (if 0 ≤ a1 ∧ a1 < 20 then (if 0 ≤ a2 ∧ a2 < 20 then (some (0, pU (pU σ 31 (a1.toNat) a3) 31 (a2.toNat) a3)) else none) else none)
def f_State_melt_28 (a1 a2 : Int) (σ : pS) : Option (Int × pS) := if 0 ≤ a1 ∧ a1 < 20 then (if 0 ≤ a2 ∧ a2 < 20 then (if 0 ≤ a1 ∧ a1 < 20 then (if (σ 31 a1.toNat) = (-1) then (if 0 ≤ a2 ∧ a2 < 20 then (if (σ 31 a2.toNat) = (-1) then (if 0 ≤ a1 ∧ a1 < 20 then (if 0 ≤ a2 ∧ a2 < 20 then (some (0, pU (pU (pU σ 28 3 (pRem (pw ((σ 28 3) + 1)) 16)) 31 (a1.toNat) (σ 28 3)) 31 (a2.toNat) (σ 28 3))) else none) else none) else (f_State_melt_28_p57 a1 a2 (pMin (σ 31 a1.toNat) (σ 31 a2.toNat)) σ)) else none) else (f_State_melt_28_p57 a1 a2 (pMin (σ 31 a1.toNat) (σ 31 a2.toNat)) σ)) else none) else none) else none
def f_Mach_lookBack_3_p76 : Nat → Int → Int → pS → Option (Int × pS)
  | 0, _, _, _ => none
  | n + 1, a2, a3, σ => if a2 ≤ a3 then (some (0, σ)) else (if 0 ≤ a3 ∧ a3 < 20 then (if 0 ≤ (σ 43 a3.toNat) ∧ (σ 43 a3.toNat) < 20 then (if (σ 39 (σ 43 a3.toNat).toNat) = 0 then (f_Mach_lookBack_3_p76 n a2 (pw (a3 + 1)) (pU σ 33 1 (pw ((σ 33 1) + 1)))) else (if 0 ≤ a3 ∧ a3 < 20 then ((f_Mach_replay_3 (σ 43 a3.toNat) (pU σ 33 1 (pw ((σ 33 1) + 1)))).bind fun q7 => (f_Mach_lookBack_3_p76 n a2 (pw (a3 + 1)) q7.2)) else none)) else none) else none)
def f_Mach_lookBack_3_p6 : Nat → Int → Int → Int → pS → Option (Int × pS)
  | 0, _, _, _, _ => none
  | n + 1, a1, a2, a3, σ => if (σ 4 11) ≤ a3 then (f_Mach_lookBack_3_p76 4096 a2 0 σ) else (if 0 ≤ a3 ∧ a3 < 20 then (if (σ 5 a3.toNat) = 2 then (if 0 ≤ a3 ∧ a3 < 20 then (if (σ 39 a3.toNat) = 2 then ((f_Mach_tookTooOld_3 a3 a1 σ).bind fun q12 => (if q12.1 = 0 then (f_Mach_lookBack_3_p6 n a1 a2 (pw (a3 + 1)) q12.2) else (if 0 ≤ a2 ∧ a2 < 20 then ((f_State_melt_28 a3 a1 (pU q12.2 43 (a2.toNat) a3)).bind fun q15 => (f_Mach_lookBack_3_p6 n a1 (pw (a2 + 1)) (pw (a3 + 1)) q15.2)) else none))) else (f_Mach_lookBack_3_p6 n a1 a2 (pw (a3 + 1)) σ)) else none) else (f_Mach_lookBack_3_p6 n a1 a2 (pw (a3 + 1)) σ)) else none)
def f_Mach_lookBack_3 (a1 : Int) (σ : pS) : Option (Int × pS) := f_Mach_lookBack_3_p6 4096 a1 0 (pw (a1 + 1)) σ
def f_Mach_youngestCovering_3_p4 : Nat → Int → Int → pS → Option (Int × pS)
  | 0, _, _, _ => none
  | n + 1, a2, a3, σ => if a3 < 0 then (some ((-1), σ)) else (if 0 ≤ a3 ∧ a3 < 20 then (if (σ 5 a3.toNat) = 3 then (if 0 ≤ a3 ∧ a3 < 20 then (if (σ 39 a3.toNat) = 2 then (if 0 ≤ a3 ∧ a3 < 20 then (if 0 ≤ a3 ∧ a3 < 20 then ((f_X_covers (σ 37 a3.toNat) (σ 7 a3.toNat) a2 σ).bind fun q8 => (if q8.1 = 0 then (f_Mach_youngestCovering_3_p4 n a2 (pw (a3 + (-1))) q8.2) else (some (a3, q8.2)))) else none) else none) else (f_Mach_youngestCovering_3_p4 n a2 (pw (a3 + (-1))) σ)) else none) else (f_Mach_youngestCovering_3_p4 n a2 (pw (a3 + (-1))) σ)) else none)
def f_Mach_youngestCovering_3 (a1 a2 : Int) (σ : pS) : Option (Int × pS) := f_Mach_youngestCovering_3_p4 4096 a2 (pw (a1 - 1)) σ
def f_Mach_storedAt_3 (a1 a2 : Int) (σ : pS) : Option (Int × pS) := if 0 ≤ a1 ∧ a1 < 20 then (if 0 ≤ a1 ∧ a1 < 20 then (some (pAnd (pUsh (σ 36 a1.toNat) (pw (8 * (pAnd (pw (a2 - (σ 37 a1.toNat))) 63)))) 255, σ)) else none) else none
def f_Mach_takeBytes_3_p69 (k_4 : Int → Int → Int → pS → Option (Int × pS)) (a1 a2 a3 a5 s0 : Int) (σ : pS) : Option (Int × pS) := if 0 ≤ (pw ((pw (a1 * 4)) + a3)) ∧ (pw ((pw (a1 * 4)) + a3)) < 80 then (k_4 a1 (pOr a2 (pShl s0 (pw (8 * a3)))) (pw (a3 + 1)) (pU σ 38 ((pw ((pw (a1 * 4)) + a3)).toNat) a5)) else none
def f_Mach_takeBytes_3_p4 : Nat → Int → Int → Int → pS → Option (Int × pS)
  | 0, _, _, _, _ => none
  | n + 1, a1, a2, a3, σ => if 0 ≤ a1 ∧ a1 < 20 then (if (σ 7 a1.toNat) ≤ a3 then (if 0 ≤ a1 ∧ a1 < 20 then (some (0, pU σ 36 (a1.toNat) a2)) else none) else (if 0 ≤ a1 ∧ a1 < 20 then ((f_Mach_youngestCovering_3 a1 (pAnd (pw ((σ 37 a1.toNat) + a3)) 63) σ).bind fun q5 => (if q5.1 = (-1) then (if 0 ≤ (pAnd (pw ((σ 37 a1.toNat) + a3)) 63) ∧ (pAnd (pw ((σ 37 a1.toNat) + a3)) 63) < 64 then (f_Mach_takeBytes_3_p69 (f_Mach_takeBytes_3_p4 n) a1 a2 a3 q5.1 (q5.2 26 (pAnd (pw ((σ 37 a1.toNat) + a3)) 63).toNat) q5.2) else none) else ((f_Mach_storedAt_3 q5.1 (pAnd (pw ((σ 37 a1.toNat) + a3)) 63) q5.2).bind fun q7 => (f_Mach_takeBytes_3_p69 (f_Mach_takeBytes_3_p4 n) a1 a2 a3 q5.1 q7.1 q7.2)))) else none)) else none
def f_Mach_takeBytes_3 (a1 : Int) (σ : pS) : Option (Int × pS) := f_Mach_takeBytes_3_p4 4096 a1 0 0 σ
def f_Mach_finishOps_3_p2 : Nat → Int → pS → Option (Int × pS)
  | 0, _, _ => none
  | n + 1, a1, σ => if (σ 4 11) ≤ a1 then (some (0, σ)) else (if 0 ≤ a1 ∧ a1 < 20 then (if (σ 39 a1.toNat) = 1 then (if 0 ≤ a1 ∧ a1 < 20 then (if (σ 40 a1.toNat) = (σ 3 11) then (if 0 ≤ a1 ∧ a1 < 20 then (if 0 ≤ a1 ∧ a1 < 20 then (if 0 ≤ a1 ∧ a1 < 20 then (if 0 ≤ a1 ∧ a1 < 20 then ((f_Mach_valueRead_3 (σ 12 a1.toNat) (σ 9 a1.toNat) (pU (pU σ 39 (a1.toNat) 2) 34 (a1.toNat) (σ 3 11))).bind fun q10 => (if 0 ≤ a1 ∧ a1 < 20 then (if 0 ≤ a1 ∧ a1 < 20 then ((f_Mach_valueRead_3 (q10.2 13 a1.toNat) (q10.2 10 a1.toNat) q10.2).bind fun q13 => (if 0 ≤ a1 ∧ a1 < 20 then (if (q13.2 5 a1.toNat) = 2 then ((f_Prog_placeBy_4 a1 q13.1 q13.2).bind fun q25 => (if 0 ≤ a1 ∧ a1 < 20 then ((f_Mach_takeBytes_3 a1 (pU q25.2 37 (a1.toNat) q25.1)).bind fun q27 => (f_Mach_finishOps_3_p2 n (pw (a1 + 1)) q27.2)) else none)) else (if 0 ≤ a1 ∧ a1 < 20 then (if (q13.2 5 a1.toNat) = 3 then ((f_Prog_placeBy_4 a1 q13.1 q13.2).bind fun q20 => (if 0 ≤ a1 ∧ a1 < 20 then ((f_Prog_storedOf_4 a1 q10.1 (pU q20.2 37 (a1.toNat) q20.1)).bind fun q22 => (if 0 ≤ a1 ∧ a1 < 20 then ((f_Mach_lookBack_3 a1 (pU q22.2 36 (a1.toNat) q22.1)).bind fun q24 => (f_Mach_finishOps_3_p2 n (pw (a1 + 1)) q24.2)) else none)) else none)) else ((f_Prog_reckoned_4 a1 q10.1 q13.1 q13.2).bind fun q18 => (if 0 ≤ a1 ∧ a1 < 20 then (f_Mach_finishOps_3_p2 n (pw (a1 + 1)) (pU q18.2 36 (a1.toNat) q18.1)) else none))) else none)) else none)) else none) else none)) else none) else none) else none) else none) else (f_Mach_finishOps_3_p2 n (pw (a1 + 1)) σ)) else none) else (f_Mach_finishOps_3_p2 n (pw (a1 + 1)) σ)) else none)
def f_Mach_finishOps_3 (σ : pS) : Option (Int × pS) := f_Mach_finishOps_3_p2 4096 0 σ
def f_Mach_isDone_3 (a1 : Int) (σ : pS) : Option (Int × pS) := if a1 < 0 then (some (1, σ)) else (if 20 ≤ a1 then (some (1, σ)) else (if 0 ≤ a1 ∧ a1 < 20 then (if (σ 39 a1.toNat) = 2 then (some (1, σ)) else (some (0, σ))) else none))
def f_Mach_mustWait_3_p90 (k_51 : Int → Int → Int → pS → Option (Int × pS)) (a3 a4 a5 : Int) (σ : pS) : Option (Int × pS) := if a3 = 0 then (if 0 ≤ a5 ∧ a5 < 20 then (if (σ 31 a5.toNat) = a4 then (if 0 ≤ a5 ∧ a5 < 20 then (if (σ 39 a5.toNat) = 2 then (some (0, σ)) else (some (1, σ))) else none) else (k_51 a3 a4 (pw (a5 + (-1))) σ)) else none) else (k_51 a3 a4 (pw (a5 + (-1))) σ)
def f_Mach_mustWait_3_p51 : Nat → Int → Int → Int → pS → Option (Int × pS)
  | 0, _, _, _, _ => none
  | n + 1, a3, a4, a5, σ => if a5 < 0 then (some (0, σ)) else (if 0 ≤ a5 ∧ a5 < 20 then (if (σ 5 a5.toNat) = 3 then (if a3 = 0 then (f_Mach_mustWait_3_p90 (f_Mach_mustWait_3_p51 n) a3 a4 a5 σ) else (if 0 ≤ a5 ∧ a5 < 20 then (if (σ 39 a5.toNat) = 2 then (f_Mach_mustWait_3_p90 (f_Mach_mustWait_3_p51 n) a3 a4 a5 σ) else (some (1, σ))) else none)) else (f_Mach_mustWait_3_p51 n a3 a4 (pw (a5 + (-1))) σ)) else none)
def f_Mach_mustWait_3_p22 (a1 s0 : Int) (σ : pS) : Option (Int × pS) := if 0 ≤ a1 ∧ a1 < 20 then (if s0 = 0 then (if (σ 31 a1.toNat) = (-1) then (some (0, σ)) else (f_Mach_mustWait_3_p51 4096 s0 (σ 31 a1.toNat) (pw (a1 - 1)) σ)) else (f_Mach_mustWait_3_p51 4096 s0 (σ 31 a1.toNat) (pw (a1 - 1)) σ)) else none
def f_Mach_mustWait_3_p21 (a1 : Int) (σ : pS) : Option (Int × pS) := f_Mach_mustWait_3_p22 a1 0 σ
def f_Mach_mustWait_3 (a1 a2 : Int) (σ : pS) : Option (Int × pS) := if a2 = 0 then (f_Mach_mustWait_3_p21 a1 σ) else (if 0 ≤ a1 ∧ a1 < 20 then (if (σ 5 a1.toNat) = 2 then (f_Mach_mustWait_3_p22 a1 1 σ) else (f_Mach_mustWait_3_p21 a1 σ)) else none)
def f_State_draw_28 (σ : pS) : Option (Int × pS) := some (pRem (pAnd (pw ((pw (25173 * (σ 28 5))) + 13849)) 65535) 10, pU σ 28 5 (pAnd (pw ((pw (25173 * (σ 28 5))) + 13849)) 65535))
def f_Law_tell_16 (a1 a2 a3 a4 a5 a6 a7 : Int) (σ : pS) : Option (Int × pS) := some (0, pU (pU (pU (pU (pU (pU (pU σ 22 0 a1) 22 1 a2) 22 2 a3) 22 3 a4) 22 4 a5) 22 5 a6) 22 6 a7)
def f_Mach_tellLaw_3_p27 (a1 a2 s0 : Int) (σ : pS) : Option (Int × pS) := if 0 ≤ a1 ∧ a1 < 20 then (if 0 ≤ a1 ∧ a1 < 20 then ((f_Law_tell_16 a1 (σ 5 a1.toNat) (pRem (σ 3 11) 100) s0 (σ 35 a1.toNat) (pRem (σ 24 4) 100) a2 σ).bind fun q8 => (some (0, q8.2))) else none) else none
def f_Mach_tellLaw_3 (a1 a2 : Int) (σ : pS) : Option (Int × pS) := if 0 ≤ a1 ∧ a1 < 20 then (if (σ 31 a1.toNat) = (-1) then (f_Mach_tellLaw_3_p27 a1 a2 16 σ) else (if 0 ≤ a1 ∧ a1 < 20 then (f_Mach_tellLaw_3_p27 a1 a2 (σ 31 a1.toNat) σ) else none)) else none
def f_Law_joined (a0 a1 a2 : Int) (σ : pS) : Option (Int × pS) := if a0 = 42 then (some (pw (a1 * a2), σ)) else (if a0 = 43 then (some (pw (a1 + a2), σ)) else (if a0 = 44 then (if a2 = 0 then (some (0, σ)) else (if a2 ≠ 0 then (some (pRem a1 a2, σ)) else none)) else (if a0 = 45 then (some (pw (a1 - a2), σ)) else (if a0 = 46 then (if a2 = 0 then (some (0, σ)) else (if a2 ≠ 0 then (some (pRem a1 a2, σ)) else none)) else (if a0 = 47 then (if a2 = 0 then (some (0, σ)) else (if a2 ≠ 0 then (some (pDiv a1 a2, σ)) else none)) else (if a0 = 48 then (if a2 = 0 then (some (0, σ)) else (if a2 ≠ 0 then (some (pRem a1 a2, σ)) else none)) else (if a0 = 49 then (if a2 = 0 then (some (0, σ)) else (if a2 ≠ 0 then (some (pRem a1 a2, σ)) else none)) else (if a0 = 50 then (if a2 = 0 then (some (0, σ)) else (if a2 ≠ 0 then (some (pRem a1 a2, σ)) else none)) else (if a0 = 51 then (if a2 = 0 then (some (0, σ)) else (if a2 ≠ 0 then (some (pRem a1 a2, σ)) else none)) else (if a0 = 52 then (if a2 = 0 then (some (0, σ)) else (if a2 ≠ 0 then (some (pRem a1 a2, σ)) else none)) else (if a0 = 53 then (if a2 = 0 then (some (0, σ)) else (if a2 ≠ 0 then (some (pRem a1 a2, σ)) else none)) else (if a0 = 54 then (if a2 = 0 then (some (0, σ)) else (if a2 ≠ 0 then (some (pRem a1 a2, σ)) else none)) else (if a0 = 55 then (if a2 = 0 then (some (0, σ)) else (if a2 ≠ 0 then (some (pRem a1 a2, σ)) else none)) else (if a0 = 56 then (if a2 = 0 then (some (0, σ)) else (if a2 ≠ 0 then (some (pRem a1 a2, σ)) else none)) else (if a0 = 57 then (if a2 = 0 then (some (0, σ)) else (if a2 ≠ 0 then (some (pRem a1 a2, σ)) else none)) else (if a0 = 58 then (if a2 = 0 then (some (0, σ)) else (if a2 ≠ 0 then (some (pRem a1 a2, σ)) else none)) else (if a0 = 59 then (if a2 = 0 then (some (0, σ)) else (if a2 ≠ 0 then (some (pRem a1 a2, σ)) else none)) else (if a0 = 60 then (if a2 ≤ a1 then (some (0, σ)) else (some (1, σ))) else (if a0 = 61 then (if a1 = a2 then (some (1, σ)) else (some (0, σ))) else (if a0 = 62 then (if a1 ≤ a2 then (some (0, σ)) else (some (1, σ))) else (if a2 = 0 then (some (0, σ)) else (if a2 ≠ 0 then (some (pRem a1 a2, σ)) else none))))))))))))))))))))))
def f_Law_reckon_16_p270 (a3 : Int) (σ : pS) : Option (Int × pS) := if a3 ≤ 0 then (some (0, σ)) else (some (σ 23 0, σ))
def f_Law_reckon_16_p55 (k_8 : Int → Int → Int → Int → pS → Option (Int × pS)) (a2 a3 a4 a5 a6 : Int) (σ : pS) : Option (Int × pS) := if a3 < 64 then (if a6 = 48 then (if 0 ≤ a5 ∧ a5 < 240 then (if 0 ≤ a3 ∧ a3 < 64 then (k_8 a2 (pw (a3 + 1)) a4 (pw (a5 + 1)) (pU σ 23 (a3.toNat) (σ 21 a5.toNat))) else none) else none) else (if 0 ≤ a5 ∧ a5 < 240 then (if 0 ≤ (σ 21 a5.toNat) ∧ (σ 21 a5.toNat) < 7 then (if 0 ≤ a3 ∧ a3 < 64 then (k_8 a2 (pw (a3 + 1)) a4 (pw (a5 + 1)) (pU σ 23 (a3.toNat) (σ 22 (σ 21 a5.toNat).toNat))) else none) else none) else none)) else (some (0, σ))
def f_Law_reckon_16_p181 (k_8 : Int → Int → Int → Int → pS → Option (Int × pS)) (a2 a3 a4 a5 s0 s1 : Int) (σ : pS) : Option (Int × pS) := if s1 = s0 then (if 0 ≤ a5 ∧ a5 < 240 then (k_8 a2 a3 (σ 21 a5.toNat) (pw (a5 + 1)) σ) else none) else (k_8 a2 (pw (a3 + (-1))) a4 (pw (a5 + 1)) σ)
def f_Law_reckon_16_p169 (k_8 : Int → Int → Int → Int → pS → Option (Int × pS)) (a2 a3 a4 a5 a6 s0 : Int) (σ : pS) : Option (Int × pS) := if a6 = 124 then (f_Law_reckon_16_p181 k_8 a2 a3 a4 a5 1 s0 σ) else (f_Law_reckon_16_p181 k_8 a2 a3 a4 a5 0 s0 σ)
def f_Law_reckon_16_p153 (k_8 : Int → Int → Int → Int → pS → Option (Int × pS)) (a2 a3 a4 a5 a6 : Int) (σ : pS) : Option (Int × pS) := if 0 ≤ (pw (a3 - 1)) ∧ (pw (a3 - 1)) < 64 then (if (σ 23 (pw (a3 - 1)).toNat) = 0 then (f_Law_reckon_16_p169 k_8 a2 a3 a4 a5 a6 0 σ) else (f_Law_reckon_16_p169 k_8 a2 a3 a4 a5 a6 1 σ)) else none
def f_Law_reckon_16_p234 (k_8 : Int → Int → Int → Int → pS → Option (Int × pS)) (a2 a3 a4 a5 a6 : Int) (σ : pS) : Option (Int × pS) := if 0 ≤ (pw ((pw (a3 + (-1))) - 1)) ∧ (pw ((pw (a3 + (-1))) - 1)) < 64 then (if 0 ≤ (pw (a3 + (-1))) ∧ (pw (a3 + (-1))) < 64 then ((f_Law_joined a6 (σ 23 (pw ((pw (a3 + (-1))) - 1)).toNat) (σ 23 (pw (a3 + (-1))).toNat) σ).bind fun q29 => (if 0 ≤ (pw ((pw (a3 + (-1))) - 1)) ∧ (pw ((pw (a3 + (-1))) - 1)) < 64 then (k_8 a2 (pw (a3 + (-1))) a4 (pw (a5 + 1)) (pU q29.2 23 ((pw ((pw (a3 + (-1))) - 1)).toNat) q29.1)) else none)) else none) else none
def f_Law_reckon_16_p8 : Nat → Int → Int → Int → Int → pS → Option (Int × pS)
  | 0, _, _, _, _, _ => none
  | n + 1, a2, a3, a4, a5, σ => if a2 ≤ a5 then (f_Law_reckon_16_p270 a3 σ) else (if 240 ≤ a5 then (f_Law_reckon_16_p270 a3 σ) else (if a4 ≤ a5 then (if 0 ≤ a5 ∧ a5 < 240 then (if (σ 20 a5.toNat) = 48 then (f_Law_reckon_16_p55 (f_Law_reckon_16_p8 n) a2 a3 a4 a5 (σ 20 a5.toNat) σ) else (if (σ 20 a5.toNat) = 97 then (f_Law_reckon_16_p55 (f_Law_reckon_16_p8 n) a2 a3 a4 a5 (σ 20 a5.toNat) σ) else (if 1 ≤ a3 then (if (σ 20 a5.toNat) = 33 then (if 0 ≤ (pw (a3 - 1)) ∧ (pw (a3 - 1)) < 64 then (if 0 ≤ (pw (a3 - 1)) ∧ (pw (a3 - 1)) < 64 then (f_Law_reckon_16_p8 n a2 a3 a4 (pw (a5 + 1)) (pU σ 23 ((pw (a3 - 1)).toNat) (pw (1 - (σ 23 (pw (a3 - 1)).toNat))))) else none) else none) else (if (σ 20 a5.toNat) = 38 then (f_Law_reckon_16_p153 (f_Law_reckon_16_p8 n) a2 a3 a4 a5 (σ 20 a5.toNat) σ) else (if (σ 20 a5.toNat) = 124 then (f_Law_reckon_16_p153 (f_Law_reckon_16_p8 n) a2 a3 a4 a5 (σ 20 a5.toNat) σ) else (if a3 < 2 then (some (0, σ)) else (if 0 ≤ (pw (a3 - 1)) ∧ (pw (a3 - 1)) < 64 then (if (σ 23 (pw (a3 - 1)).toNat) = 0 then (if (σ 20 a5.toNat) = 47 then (some (0, σ)) else (if (σ 20 a5.toNat) = 37 then (some (0, σ)) else (f_Law_reckon_16_p234 (f_Law_reckon_16_p8 n) a2 a3 a4 a5 (σ 20 a5.toNat) σ))) else (f_Law_reckon_16_p234 (f_Law_reckon_16_p8 n) a2 a3 a4 a5 (σ 20 a5.toNat) σ)) else none))))) else (some (0, σ))))) else none) else (f_Law_reckon_16_p8 n a2 a3 a4 (pw (a5 + 1)) σ)))
def f_Law_reckon_16 (a1 a2 : Int) (σ : pS) : Option (Int × pS) := f_Law_reckon_16_p8 4096 a2 0 a1 a1 σ
def f_Law_holds_16 (a1 : Int) (σ : pS) : Option (Int × pS) := if 0 ≤ a1 ∧ a1 < 16 then (if 0 ≤ (pw (a1 + 1)) ∧ (pw (a1 + 1)) < 17 then ((f_Law_reckon_16 (σ 19 a1.toNat) (σ 18 (pw (a1 + 1)).toNat) σ).bind fun q3 => (if q3.1 = 0 then (some (0, q3.2)) else (some (1, q3.2)))) else none) else none
def f_Law_delay_16_p2 : Nat → Int → Int → pS → Option (Int × pS)
  | 0, _, _, _ => none
  | n + 1, a1, a2, σ => if (σ 16 7) ≤ a2 then (some (a1, σ)) else (if 0 ≤ a2 ∧ a2 < 16 then (if (σ 17 a2.toNat) = 100 then ((f_Law_holds_16 a2 σ).bind fun q4 => (if q4.1 = 0 then (f_Law_delay_16_p2 n a1 (pw (a2 + 1)) q4.2) else (if 0 ≤ a2 ∧ a2 < 17 then (if 0 ≤ a2 ∧ a2 < 16 then ((f_Law_reckon_16 (q4.2 18 a2.toNat) (q4.2 19 a2.toNat) q4.2).bind fun q8 => (some (pMax 1 (pMin 20 q8.1), q8.2))) else none) else none))) else (f_Law_delay_16_p2 n a1 (pw (a2 + 1)) σ)) else none)
def f_Law_delay_16 (a1 : Int) (σ : pS) : Option (Int × pS) := f_Law_delay_16_p2 4096 a1 0 σ
def f_Mach_sendOff_3_p152 (k_5 : Int → Int → Int → Int → pS → Option (Int × pS)) (a1 a2 a3 a4 s0 s2 s3 : Int) (σ : pS) : Option (Int × pS) := (f_Law_delay_16 s0 σ).bind fun q18 => (if 0 ≤ s3 ∧ s3 < 20 then (k_5 a1 a2 a3 (pw (a4 + 1)) (pU q18.2 40 (s3.toNat) (pw (s2 + q18.1)))) else none)
def f_Mach_sendOff_3_p5 : Nat → Int → Int → Int → Int → pS → Option (Int × pS)
  | 0, _, _, _, _, _ => none
  | n + 1, a1, a2, a3, a4, σ => if (σ 4 11) ≤ a4 then (some (0, σ)) else (if 0 ≤ a4 ∧ a4 < 20 then (if (σ 39 a4.toNat) = 0 then (if 0 ≤ a4 ∧ a4 < 20 then ((f_Mach_isDone_3 (σ 12 a4.toNat) σ).bind fun q5 => (if q5.1 = 0 then (f_Mach_sendOff_3_p5 n a1 a2 a3 (pw (a4 + 1)) q5.2) else (if 0 ≤ a4 ∧ a4 < 20 then ((f_Mach_isDone_3 (q5.2 13 a4.toNat) q5.2).bind fun q8 => (if q8.1 = 0 then (f_Mach_sendOff_3_p5 n a1 a2 a3 (pw (a4 + 1)) q8.2) else ((f_Mach_mustWait_3 a4 a2 q8.2).bind fun q10 => (if q10.1 = 0 then (if a1 ≤ a3 then (f_Mach_sendOff_3_p5 n a1 a2 a3 (pw (a4 + 1)) q10.2) else ((f_State_draw_28  q10.2).bind fun q13 => ((f_Mach_tellLaw_3 a4 q13.1 q13.2).bind fun q14 => (if 0 ≤ a4 ∧ a4 < 20 then (if 0 ≤ a4 ∧ a4 < 20 then (if (q14.2 5 a4.toNat) = 2 then (f_Mach_sendOff_3_p152 (f_Mach_sendOff_3_p5 n) a1 a2 (pw (a3 + 1)) a4 2 (q14.2 3 11) a4 (pU q14.2 39 (a4.toNat) 1)) else (f_Mach_sendOff_3_p152 (f_Mach_sendOff_3_p5 n) a1 a2 (pw (a3 + 1)) a4 1 (q14.2 3 11) a4 (pU q14.2 39 (a4.toNat) 1))) else none) else none)))) else (f_Mach_sendOff_3_p5 n a1 a2 a3 (pw (a4 + 1)) (pU q10.2 33 5 (pw ((q10.2 33 5) + 1)))))))) else none))) else none) else (f_Mach_sendOff_3_p5 n a1 a2 a3 (pw (a4 + 1)) σ)) else none)
def f_Mach_sendOff_3 (a1 a2 : Int) (σ : pS) : Option (Int × pS) := f_Mach_sendOff_3_p5 4096 a1 a2 0 0 σ
def f_Mach_oldestToRetire_3_p2 : Nat → Int → pS → Option (Int × pS)
  | 0, _, _ => none
  | n + 1, a1, σ => if (σ 4 11) ≤ a1 then (some ((-1), σ)) else (if 0 ≤ a1 ∧ a1 < 20 then (if (σ 5 a1.toNat) = 3 then (if 0 ≤ a1 ∧ a1 < 20 then (if (σ 39 a1.toNat) = 2 then (if 0 ≤ a1 ∧ a1 < 20 then (if (σ 41 a1.toNat) = 0 then (some (a1, σ)) else (f_Mach_oldestToRetire_3_p2 n (pw (a1 + 1)) σ)) else none) else (f_Mach_oldestToRetire_3_p2 n (pw (a1 + 1)) σ)) else none) else (f_Mach_oldestToRetire_3_p2 n (pw (a1 + 1)) σ)) else none)
def f_Mach_oldestToRetire_3 (σ : pS) : Option (Int × pS) := f_Mach_oldestToRetire_3_p2 4096 0 σ
def f_Mach_doneAhead_3_p2 : Nat → Int → Int → pS → Option (Int × pS)
  | 0, _, _, _ => none
  | n + 1, a1, a2, σ => if a1 ≤ a2 then (some (1, σ)) else (if 0 ≤ a2 ∧ a2 < 20 then (if (σ 39 a2.toNat) = 2 then (f_Mach_doneAhead_3_p2 n a1 (pw (a2 + 1)) σ) else (some (0, σ))) else none)
def f_Mach_doneAhead_3 (a1 : Int) (σ : pS) : Option (Int × pS) := f_Mach_doneAhead_3_p2 4096 a1 0 σ
def f_State_putBytes_28_p3 : Nat → Int → Int → Int → Int → pS → Option (Int × pS)
  | 0, _, _, _, _, _ => none
  | n + 1, a1, a2, a3, a4, σ => if a2 ≤ a4 then (some (0, σ)) else (if 0 ≤ (pAnd (pw (a1 + a4)) 63) ∧ (pAnd (pw (a1 + a4)) 63) < 64 then (f_State_putBytes_28_p3 n a1 a2 a3 (pw (a4 + 1)) (pU σ 30 ((pAnd (pw (a1 + a4)) 63).toNat) (pAnd (pUsh a3 (pw (8 * a4))) 255))) else none)
def f_State_putBytes_28 (a1 a2 a3 : Int) (σ : pS) : Option (Int × pS) := f_State_putBytes_28_p3 4096 a1 a2 a3 0 σ
def f_Law_holdsBack_16_p2 : Nat → Int → pS → Option (Int × pS)
  | 0, _, _ => none
  | n + 1, a1, σ => if (σ 16 7) ≤ a1 then (some (0, σ)) else (if 0 ≤ a1 ∧ a1 < 16 then (if (σ 17 a1.toNat) = 120 then ((f_Law_holds_16 a1 σ).bind fun q4 => (if q4.1 = 0 then (f_Law_holdsBack_16_p2 n (pw (a1 + 1)) q4.2) else (some (1, q4.2)))) else (f_Law_holdsBack_16_p2 n (pw (a1 + 1)) σ)) else none)
def f_Law_holdsBack_16 (σ : pS) : Option (Int × pS) := f_Law_holdsBack_16_p2 4096 0 σ
def f_Mach_retireOne_3_p68 : Nat → Int → Int → pS → Option (Int × pS)
  | 0, _, _, _ => none
  | n + 1, a1, a3, σ => if 0 ≤ a1 ∧ a1 < 20 then (if (σ 7 a1.toNat) ≤ a3 then (if 0 ≤ a1 ∧ a1 < 20 then (if 0 ≤ a1 ∧ a1 < 20 then (if 0 ≤ a1 ∧ a1 < 20 then ((f_State_putBytes_28 (σ 37 a1.toNat) (σ 7 a1.toNat) (σ 36 a1.toNat) σ).bind fun q12 => (if 0 ≤ a1 ∧ a1 < 20 then (some (0, pU q12.2 41 (a1.toNat) 1)) else none)) else none) else none) else none) else (if 0 ≤ a1 ∧ a1 < 20 then (if 0 ≤ (pAnd (pw ((σ 37 a1.toNat) + a3)) 63) ∧ (pAnd (pw ((σ 37 a1.toNat) + a3)) 63) < 64 then (if 0 ≤ (pw ((pw (a1 * 4)) + a3)) ∧ (pw ((pw (a1 * 4)) + a3)) < 80 then (f_Mach_retireOne_3_p68 n a1 (pw (a3 + 1)) (pU σ 42 ((pw ((pw (a1 * 4)) + a3)).toNat) (σ 30 (pAnd (pw ((σ 37 a1.toNat) + a3)) 63).toNat))) else none) else none) else none)) else none
def f_Mach_retireOne_3_p59 (a1 : Int) (σ : pS) : Option (Int × pS) := (f_Mach_undoDownTo_3 (pw (a1 + 1)) σ).bind fun q6 => (f_Mach_retireOne_3_p68 4096 a1 0 q6.2)
def f_Mach_retireOne_3_p24 (a1 s0 : Int) (σ : pS) : Option (Int × pS) := if s0 = 0 then (f_Mach_retireOne_3_p59 a1 σ) else ((f_Mach_tellLaw_3 a1 0 σ).bind fun q17 => ((f_Law_holdsBack_16  q17.2).bind fun q18 => (if q18.1 = 0 then (f_Mach_retireOne_3_p59 a1 (pU q18.2 33 3 (pw ((q18.2 33 3) + 1)))) else (some (0, q18.2)))))
def f_Mach_retireOne_3 (σ : pS) : Option (Int × pS) := (f_Mach_oldestToRetire_3  σ).bind fun q1 => (if q1.1 = (-1) then (some (0, q1.2)) else ((f_Mach_doneAhead_3 q1.1 q1.2).bind fun q3 => (if q3.1 = 0 then (f_Mach_retireOne_3_p24 q1.1 1 q3.2) else (f_Mach_retireOne_3_p24 q1.1 0 q3.2))))
def f_Mach_settled_3_p2 : Nat → Int → pS → Option (Int × pS)
  | 0, _, _ => none
  | n + 1, a1, σ => if (σ 4 11) ≤ a1 then (some (1, σ)) else (if 0 ≤ a1 ∧ a1 < 20 then (if (σ 39 a1.toNat) = 2 then (if 0 ≤ a1 ∧ a1 < 20 then (if (σ 5 a1.toNat) = 3 then (if 0 ≤ a1 ∧ a1 < 20 then (if (σ 41 a1.toNat) = 0 then (some (0, σ)) else (f_Mach_settled_3_p2 n (pw (a1 + 1)) σ)) else none) else (f_Mach_settled_3_p2 n (pw (a1 + 1)) σ)) else none) else (some (0, σ))) else none)
def f_Mach_settled_3 (σ : pS) : Option (Int × pS) := f_Mach_settled_3_p2 4096 0 σ
def f_Mach_giveRegisters_3_p2 : Nat → Int → pS → Option (Int × pS)
  | 0, _, _ => none
  | n + 1, a1, σ => if (σ 4 11) ≤ a1 then (some (0, σ)) else (if 0 ≤ a1 ∧ a1 < 20 then ((f_X_isCell (σ 8 a1.toNat) σ).bind fun q3 => (if q3.1 = 0 then (f_Mach_giveRegisters_3_p2 n (pw (a1 + 1)) q3.2) else (if 0 ≤ a1 ∧ a1 < 20 then (if 0 ≤ a1 ∧ a1 < 20 then (if 0 ≤ (q3.2 8 a1.toNat) ∧ (q3.2 8 a1.toNat) < 8 then (f_Mach_giveRegisters_3_p2 n (pw (a1 + 1)) (pU q3.2 29 ((q3.2 8 a1.toNat).toNat) (q3.2 36 a1.toNat))) else none) else none) else none))) else none)
def f_Mach_giveRegisters_3 (σ : pS) : Option (Int × pS) := f_Mach_giveRegisters_3_p2 4096 0 σ
def f_Mach_go_3_p6 : Nat → Int → Int → Int → pS → Option (Int × pS)
  | 0, _, _, _, _ => none
  | n + 1, a1, a2, a3, σ => if 2000 < a3 then (some ((-5), σ)) else ((f_Mach_finishOps_3  (pU σ 3 11 a3)).bind fun q3 => ((f_Mach_sendOff_3 a1 a2 q3.2).bind fun q4 => ((f_Mach_retireOne_3  q4.2).bind fun q5 => ((f_Mach_settled_3  q5.2).bind fun q6 => (if q6.1 = 0 then (f_Mach_go_3_p6 n a1 a2 (pw (a3 + 1)) q6.2) else ((f_Mach_giveRegisters_3  (pU q6.2 33 0 (pw (a3 + 1)))).bind fun q8 => (some (pw (a3 + 1), q8.2))))))))
def f_Mach_go_3 (a1 a2 : Int) (σ : pS) : Option (Int × pS) := (f_Mach_begin_3  σ).bind fun q1 => (f_Mach_go_3_p6 4096 a1 a2 0 q1.2)
def f_State_copyCellsFrom_24_28 (σ : pS) : Option (Int × pS) := some (0, pU (pU (pKp (pKp σ 29 25 8) 30 26 64) 24 4 (σ 28 4)) 24 5 (σ 28 5))
def f_State_copySetsFrom_24_28 (σ : pS) : Option (Int × pS) := some (0, pU (pKp σ 31 27 20) 24 3 (σ 28 3))
def f_State_copyFrom_24_28 (σ : pS) : Option (Int × pS) := (f_State_copyCellsFrom_24_28  σ).bind fun q1 => ((f_State_copySetsFrom_24_28  q1.2).bind fun q2 => (some (0, q2.2)))
def f_Rep_copyFrom_71_32 (σ : pS) : Option (Int × pS) := some (0, pKp (pKp (pKp (pKp (pKp (pKp σ 33 72 6) 34 73 20) 35 74 20) 36 75 20) 37 76 20) 38 77 80)
def f_X_run_0 (a1 : Int) (σ : pS) : Option (Int × pS) := (f_X_canRun_0 a1 σ).bind fun q1 => (if q1.1 = 0 then (some ((-1), q1.2)) else ((f_Mach_go_3 a1 0 q1.2).bind fun q3 => (if q3.1 = (-5) then (some ((-5), pU q3.2 24 5 (q3.2 28 5))) else ((f_State_copyFrom_24_28  q3.2).bind fun q5 => ((f_Rep_copyFrom_71_32  (pU q5.2 24 4 (pMin 9999 (pw ((q5.2 24 4) + 1))))).bind fun q6 => (some (q3.1, pU q6.2 0 8 1)))))))
def f_M_canRun_84 (a1 : Int) (σ : pS) : Option (Int × pS) := (f_M_in a1 1 4 σ).bind fun q1 => (if q1.1 = 0 then (some (0, q1.2)) else (if (q1.2 84 2) ≤ 0 then (some (0, q1.2)) else (some (1, q1.2))))
def f_M_readBy_84 (a1 a2 : Int) (σ : pS) : Option (Int × pS) := (f_M_giverOf_84 a1 a2 σ).bind fun q1 => (if q1.1 = (-1) then (if 0 ≤ a2 ∧ a2 < 8 then (some (q1.2 85 a2.toNat, q1.2)) else none) else (if 0 ≤ q1.1 ∧ q1.1 < 20 then (some (q1.2 120 q1.1.toNat, q1.2)) else none))
def f_M_oldestToRetire_84_p2 : Nat → Int → pS → Option (Int × pS)
  | 0, _, _ => none
  | n + 1, a1, σ => if (σ 84 2) ≤ a1 then (some ((-1), σ)) else (if 0 ≤ a1 ∧ a1 < 20 then (if (σ 88 a1.toNat) = 3 then (if 0 ≤ a1 ∧ a1 < 20 then (if (σ 118 a1.toNat) = 2 then (if 0 ≤ a1 ∧ a1 < 20 then (if (σ 126 a1.toNat) = 0 then (some (a1, σ)) else (f_M_oldestToRetire_84_p2 n (pw (a1 + 1)) σ)) else none) else (f_M_oldestToRetire_84_p2 n (pw (a1 + 1)) σ)) else none) else (f_M_oldestToRetire_84_p2 n (pw (a1 + 1)) σ)) else none)
def f_M_oldestToRetire_84 (σ : pS) : Option (Int × pS) := f_M_oldestToRetire_84_p2 4096 0 σ
def f_M_areAllDone_84_p2 : Nat → Int → Int → pS → Option (Int × pS)
  | 0, _, _, _ => none
  | n + 1, a1, a2, σ => if a1 ≤ a2 then (some (1, σ)) else (if 0 ≤ a2 ∧ a2 < 20 then (if (σ 118 a2.toNat) = 2 then (f_M_areAllDone_84_p2 n a1 (pw (a2 + 1)) σ) else (some (0, σ))) else none)
def f_M_areAllDone_84 (a1 : Int) (σ : pS) : Option (Int × pS) := f_M_areAllDone_84_p2 4096 a1 0 σ
def f_M_undoesTo_84_p26 (k_7 : Int → Int → pS → Option (Int × pS)) : Nat → Int → Int → Int → pS → Option (Int × pS)
  | 0, _, _, _, _ => none
  | n + 1, a1, a2, a3, σ => if 0 ≤ a2 ∧ a2 < 20 then (if (σ 93 a2.toNat) ≤ a3 then (if 0 ≤ a2 ∧ a2 < 20 then (k_7 a1 (pw (a2 + (-1))) (pU (pU σ 126 (a2.toNat) 0) 84 67 (pw ((σ 84 67) + 1)))) else none) else (if 0 ≤ a2 ∧ a2 < 20 then (if 0 ≤ (pw ((pw (4 * a2)) + a3)) ∧ (pw ((pw (4 * a2)) + a3)) < 80 then (if 0 ≤ (pAnd (pw ((σ 132 a2.toNat) + a3)) 63) ∧ (pAnd (pw ((σ 132 a2.toNat) + a3)) 63) < 64 then (f_M_undoesTo_84_p26 k_7 n a1 a2 (pw (a3 + 1)) (pU σ 128 ((pAnd (pw ((σ 132 a2.toNat) + a3)) 63).toNat) (σ 125 (pw ((pw (4 * a2)) + a3)).toNat))) else none) else none) else none)) else none
def f_M_undoesTo_84_p7 : Nat → Int → Int → pS → Option (Int × pS)
  | 0, _, _, _ => none
  | n + 1, a1, a2, σ => if a2 < a1 then (some (0, σ)) else (if 0 ≤ a2 ∧ a2 < 20 then (if (σ 126 a2.toNat) = 0 then (f_M_undoesTo_84_p7 n a1 (pw (a2 + (-1))) σ) else (f_M_undoesTo_84_p26 (f_M_undoesTo_84_p7 n) 4096 a1 a2 0 σ)) else none)
def f_M_undoesTo_84 (a1 : Int) (σ : pS) : Option (Int × pS) := f_M_undoesTo_84_p7 4096 a1 (pw ((σ 84 2) - 1)) σ
def f_M_byteOf (a0 a1 : Int) (σ : pS) : Option (Int × pS) := some (pAnd (pShr a0 (pw (8 * a1))) 255, σ)
def f_M_feels_84_p55 (a1 a3 s0 s1 : Int) (σ : pS) : Option (Int × pS) := if 0 ≤ s1 ∧ s1 < 7 then (if 0 ≤ a1 ∧ a1 < 20 then (some (0, pU (pU (pU (pU σ 109 (s1.toNat) s0) 109 4 (σ 123 a1.toNat)) 109 5 (pRem (σ 84 1) 100)) 109 6 a3)) else none) else none
def f_M_feels_84 (a1 a2 a3 : Int) (σ : pS) : Option (Int × pS) := if 0 ≤ a1 ∧ a1 < 20 then (if 0 ≤ a1 ∧ a1 < 20 then (if (σ 87 a1.toNat) = (-1) then (f_M_feels_84_p55 a1 a3 16 3 (pU (pU (pU σ 109 0 a1) 109 1 (σ 88 a1.toNat)) 109 2 (pRem a2 100))) else (if 0 ≤ a1 ∧ a1 < 20 then (f_M_feels_84_p55 a1 a3 (σ 87 a1.toNat) 3 (pU (pU (pU σ 109 0 a1) 109 1 (σ 88 a1.toNat)) 109 2 (pRem a2 100))) else none)) else none) else none
def f_M_reckon (a0 a1 a2 : Int) (σ : pS) : Option (Int × pS) := if a0 = 2 then (some (pw (a1 + a2), σ)) else (if a0 = 3 then (some (pw (a1 - a2), σ)) else (if a0 = 4 then (some (pw (a1 * a2), σ)) else (if a0 = 5 then (if a2 ≠ 0 then (some (pDiv a1 a2, σ)) else none) else (if a0 = 6 then (if a2 ≠ 0 then (some (pRem a1 a2, σ)) else none) else (if a0 = 7 then (if a2 ≤ a1 then (some (0, σ)) else (some (1, σ))) else (if a0 = 8 then (if a1 ≤ a2 then (some (0, σ)) else (some (1, σ))) else (if a1 = a2 then (some (1, σ)) else (some (0, σ)))))))))
def f_M_reckonsTo_84_p63 (k_16 : Int → Int → Int → Int → pS → Option (Int × pS)) (a2 a3 a4 a5 a6 a7 : Int) (σ : pS) : Option (Int × pS) := if a6 = 0 then (if 0 ≤ a3 ∧ a3 < 260 then (k_16 a2 (pw (a3 + 1)) a4 a5 (pU σ 108 (a3.toNat) a7)) else none) else (if 0 ≤ a7 ∧ a7 < 7 then (if 0 ≤ a3 ∧ a3 < 260 then (k_16 a2 (pw (a3 + 1)) a4 a5 (pU σ 108 (a3.toNat) (σ 109 a7.toNat))) else none) else none)
def f_M_reckonsTo_84_p155 (k_16 : Int → Int → Int → Int → pS → Option (Int × pS)) (a2 a3 a4 a5 a7 s0 s1 : Int) (σ : pS) : Option (Int × pS) := if s1 = s0 then (k_16 a2 a3 a4 (pw (a4 + a7)) σ) else (k_16 a2 (pw (a3 - 1)) a4 a5 σ)
def f_M_reckonsTo_84_p135 (k_16 : Int → Int → Int → Int → pS → Option (Int × pS)) (a2 a3 a4 a5 a6 a7 : Int) (σ : pS) : Option (Int × pS) := if 0 ≤ (pw (a3 - 1)) ∧ (pw (a3 - 1)) < 260 then (if a6 = 12 then (f_M_reckonsTo_84_p155 k_16 a2 a3 a4 a5 a7 1 (σ 108 (pw (a3 - 1)).toNat) σ) else (f_M_reckonsTo_84_p155 k_16 a2 a3 a4 a5 a7 0 (σ 108 (pw (a3 - 1)).toNat) σ)) else none
def f_M_reckonsTo_84_p203 (k_16 : Int → Int → Int → Int → pS → Option (Int × pS)) (a2 a3 a4 a5 a6 : Int) (σ : pS) : Option (Int × pS) := if 0 ≤ (pw (a3 - 1)) ∧ (pw (a3 - 1)) < 260 then (if 0 ≤ a3 ∧ a3 < 260 then ((f_M_reckon a6 (σ 108 (pw (a3 - 1)).toNat) (σ 108 a3.toNat) σ).bind fun q24 => (if 0 ≤ (pw (a3 - 1)) ∧ (pw (a3 - 1)) < 260 then (k_16 a2 a3 a4 a5 (pU q24.2 108 ((pw (a3 - 1)).toNat) q24.1)) else none)) else none) else none
def f_M_reckonsTo_84_p192 (k_16 : Int → Int → Int → Int → pS → Option (Int × pS)) (a2 a3 a4 a5 a6 : Int) (σ : pS) : Option (Int × pS) := if 0 ≤ a3 ∧ a3 < 260 then (if (σ 108 a3.toNat) = 0 then (some (0, σ)) else (f_M_reckonsTo_84_p203 k_16 a2 a3 a4 a5 a6 σ)) else none
def f_M_reckonsTo_84_p16 : Nat → Int → Int → Int → Int → pS → Option (Int × pS)
  | 0, _, _, _, _, _ => none
  | n + 1, a2, a3, a4, a5, σ => if a2 ≤ a5 then (some (σ 108 0, σ)) else (if 0 ≤ a5 ∧ a5 < 260 then (if 0 ≤ a5 ∧ a5 < 260 then (if (pDiv (σ 103 a5.toNat) 1048576) = 0 then (f_M_reckonsTo_84_p63 (f_M_reckonsTo_84_p16 n) a2 a3 a4 (pw (a5 + 1)) (pDiv (σ 103 a5.toNat) 1048576) (pRem (σ 103 a5.toNat) 1048576) σ) else (if (pDiv (σ 103 a5.toNat) 1048576) = 1 then (f_M_reckonsTo_84_p63 (f_M_reckonsTo_84_p16 n) a2 a3 a4 (pw (a5 + 1)) (pDiv (σ 103 a5.toNat) 1048576) (pRem (σ 103 a5.toNat) 1048576) σ) else (if (pDiv (σ 103 a5.toNat) 1048576) = 10 then (if 0 ≤ (pw (a3 - 1)) ∧ (pw (a3 - 1)) < 260 then (if 0 ≤ (pw (a3 - 1)) ∧ (pw (a3 - 1)) < 260 then (f_M_reckonsTo_84_p16 n a2 a3 a4 (pw (a5 + 1)) (pU σ 108 ((pw (a3 - 1)).toNat) (pw (1 - (σ 108 (pw (a3 - 1)).toNat))))) else none) else none) else (if (pDiv (σ 103 a5.toNat) 1048576) = 11 then (f_M_reckonsTo_84_p135 (f_M_reckonsTo_84_p16 n) a2 a3 a4 (pw (a5 + 1)) (pDiv (σ 103 a5.toNat) 1048576) (pRem (σ 103 a5.toNat) 1048576) σ) else (if (pDiv (σ 103 a5.toNat) 1048576) = 12 then (f_M_reckonsTo_84_p135 (f_M_reckonsTo_84_p16 n) a2 a3 a4 (pw (a5 + 1)) (pDiv (σ 103 a5.toNat) 1048576) (pRem (σ 103 a5.toNat) 1048576) σ) else (if (pDiv (σ 103 a5.toNat) 1048576) = 5 then (f_M_reckonsTo_84_p192 (f_M_reckonsTo_84_p16 n) a2 (pw (a3 - 1)) a4 (pw (a5 + 1)) (pDiv (σ 103 a5.toNat) 1048576) σ) else (if (pDiv (σ 103 a5.toNat) 1048576) = 6 then (f_M_reckonsTo_84_p192 (f_M_reckonsTo_84_p16 n) a2 (pw (a3 - 1)) a4 (pw (a5 + 1)) (pDiv (σ 103 a5.toNat) 1048576) σ) else (f_M_reckonsTo_84_p203 (f_M_reckonsTo_84_p16 n) a2 (pw (a3 - 1)) a4 (pw (a5 + 1)) (pDiv (σ 103 a5.toNat) 1048576) σ)))))))) else none) else none)
def f_M_reckonsTo_84 (a1 a2 : Int) (σ : pS) : Option (Int × pS) := f_M_reckonsTo_84_p16 4096 a2 0 (pw (260 * (pDiv a1 260))) a1 σ
def f_M_isHeldBack_84_p2 : Nat → Int → pS → Option (Int × pS)
  | 0, _, _ => none
  | n + 1, a1, σ => if (σ 84 27) ≤ a1 then (some (0, σ)) else (if 0 ≤ a1 ∧ a1 < 16 then (if (σ 104 a1.toNat) = 120 then (if 0 ≤ a1 ∧ a1 < 16 then (if 0 ≤ a1 ∧ a1 < 16 then ((f_M_reckonsTo_84 (σ 106 a1.toNat) (σ 107 a1.toNat) σ).bind fun q6 => (if q6.1 = 1 then (some (1, q6.2)) else (f_M_isHeldBack_84_p2 n (pw (a1 + 1)) q6.2))) else none) else none) else (f_M_isHeldBack_84_p2 n (pw (a1 + 1)) σ)) else none)
def f_M_isHeldBack_84 (σ : pS) : Option (Int × pS) := f_M_isHeldBack_84_p2 4096 0 σ
def f_M_retires_84_p68 : Nat → Int → Int → pS → Option (Int × pS)
  | 0, _, _, _ => none
  | n + 1, a2, a4, σ => if 0 ≤ a2 ∧ a2 < 20 then (if (σ 93 a2.toNat) ≤ a4 then (if 0 ≤ a2 ∧ a2 < 20 then (some (0, pU σ 126 (a2.toNat) 1)) else none) else (if 0 ≤ a2 ∧ a2 < 20 then (if 0 ≤ (pAnd (pw ((σ 121 a2.toNat) + a4)) 63) ∧ (pAnd (pw ((σ 121 a2.toNat) + a4)) 63) < 64 then (if 0 ≤ (pw ((pw (4 * a2)) + a4)) ∧ (pw ((pw (4 * a2)) + a4)) < 80 then (if 0 ≤ a2 ∧ a2 < 20 then ((f_M_byteOf (σ 120 a2.toNat) a4 (pU σ 125 ((pw ((pw (4 * a2)) + a4)).toNat) (σ 128 (pAnd (pw ((σ 121 a2.toNat) + a4)) 63).toNat))).bind fun q15 => (if 0 ≤ (pAnd (pw ((σ 121 a2.toNat) + a4)) 63) ∧ (pAnd (pw ((σ 121 a2.toNat) + a4)) 63) < 64 then (f_M_retires_84_p68 n a2 (pw (a4 + 1)) (pU q15.2 128 ((pAnd (pw ((σ 121 a2.toNat) + a4)) 63).toNat) q15.1)) else none)) else none) else none) else none) else none)) else none
def f_M_retires_84_p46 (a2 : Int) (σ : pS) : Option (Int × pS) := (f_M_undoesTo_84 (pw (a2 + 1)) σ).bind fun q5 => (if 0 ≤ a2 ∧ a2 < 20 then (if 0 ≤ a2 ∧ a2 < 20 then (f_M_retires_84_p68 4096 a2 0 (pU q5.2 132 (a2.toNat) (q5.2 121 a2.toNat))) else none) else none)
def f_M_retires_84 (a1 : Int) (σ : pS) : Option (Int × pS) := (f_M_oldestToRetire_84  σ).bind fun q1 => (if q1.1 = (-1) then (some (0, q1.2)) else ((f_M_areAllDone_84 q1.1 q1.2).bind fun q3 => (if q3.1 = 0 then ((f_M_feels_84 q1.1 a1 0 q3.2).bind fun q17 => ((f_M_isHeldBack_84  q17.2).bind fun q18 => (if q18.1 = 0 then (f_M_retires_84_p46 q1.1 (pU q18.2 84 66 (pw ((q18.2 84 66) + 1)))) else (some (0, q18.2))))) else (f_M_retires_84_p46 q1.1 q3.2))))
def f_M_areSourcesDone_84_p27 (k_2 : Int → Int → pS → Option (Int × pS)) (a1 a2 s0 : Int) (σ : pS) : Option (Int × pS) := if s0 = (-1) then (k_2 a1 (pw (a2 + 1)) σ) else (if 0 ≤ s0 ∧ s0 < 20 then (if (σ 118 s0.toNat) = 2 then (k_2 a1 (pw (a2 + 1)) σ) else (some (0, σ))) else none)
def f_M_areSourcesDone_84_p2 : Nat → Int → Int → pS → Option (Int × pS)
  | 0, _, _, _ => none
  | n + 1, a1, a2, σ => if 8 ≤ a2 then (some (1, σ)) else ((f_M_doesRead_84 a1 a2 σ).bind fun q2 => (if q2.1 = 0 then (f_M_areSourcesDone_84_p27 (f_M_areSourcesDone_84_p2 n) a1 a2 (-1) q2.2) else ((f_M_giverOf_84 a1 a2 q2.2).bind fun q7 => (f_M_areSourcesDone_84_p27 (f_M_areSourcesDone_84_p2 n) a1 a2 q7.1 q7.2))))
def f_M_areSourcesDone_84 (a1 : Int) (σ : pS) : Option (Int × pS) := f_M_areSourcesDone_84_p2 4096 a1 0 σ
def f_M_areStoresDone_84_p2 : Nat → Int → Int → pS → Option (Int × pS)
  | 0, _, _, _ => none
  | n + 1, a1, a2, σ => if a1 ≤ a2 then (some (1, σ)) else (if 0 ≤ a2 ∧ a2 < 20 then (if (σ 88 a2.toNat) = 3 then (if 0 ≤ a2 ∧ a2 < 20 then (if (σ 118 a2.toNat) = 2 then (f_M_areStoresDone_84_p2 n a1 (pw (a2 + 1)) σ) else (some (0, σ))) else none) else (f_M_areStoresDone_84_p2 n a1 (pw (a2 + 1)) σ)) else none)
def f_M_areStoresDone_84 (a1 : Int) (σ : pS) : Option (Int × pS) := f_M_areStoresDone_84_p2 4096 a1 0 σ
def f_M_isKeptBack_84_p47 : Nat → Int → Int → pS → Option (Int × pS)
  | 0, _, _, _ => none
  | n + 1, a1, a2, σ => if a2 < 0 then (some (0, σ)) else (if 0 ≤ a2 ∧ a2 < 20 then (if (σ 88 a2.toNat) = 3 then (if 0 ≤ a2 ∧ a2 < 20 then (if 0 ≤ a1 ∧ a1 < 20 then (if (σ 87 a2.toNat) = (σ 87 a1.toNat) then (if 0 ≤ a2 ∧ a2 < 20 then (if (σ 118 a2.toNat) = 2 then (some (0, σ)) else (some (1, σ))) else none) else (f_M_isKeptBack_84_p47 n a1 (pw (a2 + (-1))) σ)) else none) else none) else (f_M_isKeptBack_84_p47 n a1 (pw (a2 + (-1))) σ)) else none)
def f_M_isKeptBack_84_p31 (a1 : Int) (σ : pS) : Option (Int × pS) := if 0 ≤ a1 ∧ a1 < 20 then (if (σ 87 a1.toNat) = (-1) then (some (0, σ)) else (f_M_isKeptBack_84_p47 4096 a1 (pw (a1 - 1)) σ)) else none
def f_M_isKeptBack_84 (a1 : Int) (σ : pS) : Option (Int × pS) := if (σ 84 70) = 0 then (f_M_isKeptBack_84_p31 a1 σ) else (if 0 ≤ a1 ∧ a1 < 20 then (if (σ 88 a1.toNat) = 2 then ((f_M_areStoresDone_84 a1 σ).bind fun q14 => (if q14.1 = 0 then (some (1, q14.2)) else (some (0, q14.2)))) else (f_M_isKeptBack_84_p31 a1 σ)) else none)
def f_M_delayOf_84_p2 : Nat → Int → Int → pS → Option (Int × pS)
  | 0, _, _, _ => none
  | n + 1, a1, a2, σ => if (σ 84 27) ≤ a2 then (if 0 ≤ a1 ∧ a1 < 20 then (if (σ 88 a1.toNat) = 2 then (some (2, σ)) else (some (1, σ))) else none) else (if 0 ≤ a2 ∧ a2 < 16 then (if (σ 104 a2.toNat) = 100 then (if 0 ≤ a2 ∧ a2 < 16 then (if 0 ≤ a2 ∧ a2 < 16 then ((f_M_reckonsTo_84 (σ 106 a2.toNat) (σ 107 a2.toNat) σ).bind fun q8 => (if q8.1 = 1 then (if 0 ≤ a2 ∧ a2 < 16 then (if 0 ≤ a2 ∧ a2 < 16 then ((f_M_reckonsTo_84 (q8.2 105 a2.toNat) (q8.2 106 a2.toNat) q8.2).bind fun q12 => (if 1 ≤ q12.1 then (if q12.1 ≤ 20 then (some (q12.1, q12.2)) else (some (20, q12.2))) else (some (1, q12.2)))) else none) else none) else (f_M_delayOf_84_p2 n a1 (pw (a2 + 1)) q8.2))) else none) else none) else (f_M_delayOf_84_p2 n a1 (pw (a2 + 1)) σ)) else none)
def f_M_delayOf_84 (a1 : Int) (σ : pS) : Option (Int × pS) := f_M_delayOf_84_p2 4096 a1 0 σ
def f_M_goesOff_84 (a1 a2 : Int) (σ : pS) : Option (Int × pS) := (f_M_feels_84 a1 a2 (pRem (pRem (pw ((pw (25173 * (σ 84 0))) + 13849)) 65536) 10) (pU σ 84 0 (pRem (pw ((pw (25173 * (σ 84 0))) + 13849)) 65536))).bind fun q3 => (if 0 ≤ a1 ∧ a1 < 20 then ((f_M_delayOf_84 a1 (pU q3.2 118 (a1.toNat) 1)).bind fun q5 => (if 0 ≤ a1 ∧ a1 < 20 then (some (0, pU q5.2 119 (a1.toNat) (pw (a2 + q5.1)))) else none)) else none)
def f_M_reckoned (a0 a1 a2 : Int) (σ : pS) : Option (Int × pS) := if a0 = 38 then (some (pAnd a1 a2, σ)) else (if a0 = 42 then (some (pw (a1 * a2), σ)) else (if a0 = 43 then (some (pw (a1 + a2), σ)) else (if a0 = 45 then (some (pw (a1 - a2), σ)) else (if a0 = 94 then (some (pXor a1 a2, σ)) else (if a1 ≤ a2 then (some (0, σ)) else (some (1, σ)))))))
def f_M_placeBy_84 (a1 : Int) (σ : pS) : Option (Int × pS) := if 0 ≤ a1 ∧ a1 < 20 then (if (σ 94 a1.toNat) = (-1) then (if 0 ≤ a1 ∧ a1 < 20 then (some (pAnd (pw (0 + (σ 95 a1.toNat))) 63, σ)) else none) else (if 0 ≤ a1 ∧ a1 < 20 then ((f_M_readBy_84 a1 (σ 94 a1.toNat) σ).bind fun q4 => (if 0 ≤ a1 ∧ a1 < 20 then (some (pAnd (pw (q4.1 + (q4.2 95 a1.toNat))) 63, q4.2)) else none)) else none)) else none
def f_M_covers_84 (a1 a2 : Int) (σ : pS) : Option (Int × pS) := if 0 ≤ a1 ∧ a1 < 20 then (if 0 ≤ a1 ∧ a1 < 20 then (if (σ 93 a1.toNat) ≤ (pAnd (pw (a2 - (σ 121 a1.toNat))) 63) then (some (0, σ)) else (some (1, σ))) else none) else none
def f_M_loads_84_p134 (k_9 : Int → Int → pS → Option (Int × pS)) (a1 a2 s0 : Int) (σ : pS) : Option (Int × pS) := if 0 ≤ a1 ∧ a1 < 20 then (if 0 ≤ a1 ∧ a1 < 20 then (k_9 a1 (pw (a2 + 1)) (pU σ 120 (a1.toNat) (pOr (σ 120 a1.toNat) (pShl s0 (pw (8 * a2)))))) else none) else none
def f_M_loads_84_p37 (k_9 : Int → Int → pS → Option (Int × pS)) : Nat → Int → Int → Int → Int → Int → pS → Option (Int × pS)
  | 0, _, _, _, _, _, _ => none
  | n + 1, a1, a2, a3, a4, a5, σ => if a1 ≤ a5 then (if 0 ≤ (pw ((pw (4 * a1)) + a2)) ∧ (pw ((pw (4 * a1)) + a2)) < 80 then (if a4 = (-1) then (if 0 ≤ a3 ∧ a3 < 64 then (f_M_loads_84_p134 k_9 a1 a2 (σ 127 a3.toNat) (pU σ 124 ((pw ((pw (4 * a1)) + a2)).toNat) a4)) else none) else (if 0 ≤ a4 ∧ a4 < 20 then (if 0 ≤ a4 ∧ a4 < 20 then ((f_M_byteOf (σ 120 a4.toNat) (pAnd (pw (a3 - (σ 121 a4.toNat))) 63) (pU σ 124 ((pw ((pw (4 * a1)) + a2)).toNat) a4)).bind fun q10 => (f_M_loads_84_p134 k_9 a1 a2 q10.1 q10.2)) else none) else none)) else none) else (if 0 ≤ a5 ∧ a5 < 20 then (if (σ 88 a5.toNat) = 3 then (if 0 ≤ a5 ∧ a5 < 20 then (if (σ 118 a5.toNat) = 2 then ((f_M_covers_84 a5 a3 σ).bind fun q18 => (if q18.1 = 0 then (f_M_loads_84_p37 k_9 n a1 a2 a3 a4 (pw (a5 + 1)) q18.2) else (f_M_loads_84_p37 k_9 n a1 a2 a3 a5 (pw (a5 + 1)) q18.2))) else (f_M_loads_84_p37 k_9 n a1 a2 a3 a4 (pw (a5 + 1)) σ)) else none) else (f_M_loads_84_p37 k_9 n a1 a2 a3 a4 (pw (a5 + 1)) σ)) else none)
def f_M_loads_84_p9 : Nat → Int → Int → pS → Option (Int × pS)
  | 0, _, _, _ => none
  | n + 1, a1, a2, σ => if 0 ≤ a1 ∧ a1 < 20 then (if (σ 93 a1.toNat) ≤ a2 then (some (0, σ)) else (if 0 ≤ a1 ∧ a1 < 20 then (f_M_loads_84_p37 (f_M_loads_84_p9 n) 4096 a1 a2 (pAnd (pw ((σ 121 a1.toNat) + a2)) 63) (-1) 0 σ) else none)) else none
def f_M_loads_84 (a1 : Int) (σ : pS) : Option (Int × pS) := if 0 ≤ a1 ∧ a1 < 20 then (f_M_loads_84_p9 4096 a1 0 (pU σ 120 (a1.toNat) 0)) else none
def f_M_cut (a0 a1 : Int) (σ : pS) : Option (Int × pS) := if a1 = 1 then (some (pAnd a0 255, σ)) else (if a1 = 2 then (some (pAnd a0 65535, σ)) else (some (a0, σ)))
def f_M_lists_84 (a1 : Int) (σ : pS) : Option (Int × pS) := if 0 ≤ (σ 84 72) ∧ (σ 84 72) < 400 then (some (0, pU (pU σ 131 ((σ 84 72).toNat) a1) 84 72 (pw ((σ 84 72) + 1)))) else none
def f_M_tookFrom_84_p2 : Nat → Int → Int → Int → pS → Option (Int × pS)
  | 0, _, _, _, _ => none
  | n + 1, a1, a2, a3, σ => if 0 ≤ a1 ∧ a1 < 20 then (if (σ 93 a1.toNat) ≤ a3 then (some (0, σ)) else (if 0 ≤ (pw ((pw (4 * a1)) + a3)) ∧ (pw ((pw (4 * a1)) + a3)) < 80 then (if (σ 124 (pw ((pw (4 * a1)) + a3)).toNat) = a2 then (some (1, σ)) else (f_M_tookFrom_84_p2 n a1 a2 (pw (a3 + 1)) σ)) else none)) else none
def f_M_tookFrom_84 (a1 a2 : Int) (σ : pS) : Option (Int × pS) := f_M_tookFrom_84_p2 4096 a1 a2 0 σ
def f_M_listsThoseBy_84_p92 (k_4 : Int → Int → pS → Option (Int × pS)) (a1 a2 : Int) (σ : pS) : Option (Int × pS) := (f_M_lists_84 a2 σ).bind fun q7 => (k_4 a1 (pw (a2 + 1)) q7.2)
def f_M_listsThoseBy_84_p68 (k_4 : Int → Int → pS → Option (Int × pS)) (a1 a2 s0 : Int) (σ : pS) : Option (Int × pS) := if s0 = 0 then (if 0 ≤ a1 ∧ a1 < 20 then (if (σ 88 a1.toNat) = 3 then (k_4 a1 (pw (a2 + 1)) σ) else ((f_M_hasSource_84 a2 a1 σ).bind fun q10 => (if q10.1 = 0 then (k_4 a1 (pw (a2 + 1)) q10.2) else (f_M_listsThoseBy_84_p92 k_4 a1 a2 q10.2)))) else none) else (f_M_listsThoseBy_84_p92 k_4 a1 a2 σ)
def f_M_listsThoseBy_84_p67 (k_4 : Int → Int → pS → Option (Int × pS)) (a1 a2 : Int) (σ : pS) : Option (Int × pS) := f_M_listsThoseBy_84_p68 k_4 a1 a2 0 σ
def f_M_listsThoseBy_84_p4 : Nat → Int → Int → pS → Option (Int × pS)
  | 0, _, _, _ => none
  | n + 1, a1, a2, σ => if (σ 84 2) ≤ a2 then (some (0, σ)) else (if 0 ≤ a2 ∧ a2 < 20 then (if (σ 118 a2.toNat) = 0 then (f_M_listsThoseBy_84_p4 n a1 (pw (a2 + 1)) σ) else (if 0 ≤ a1 ∧ a1 < 20 then (if (σ 88 a1.toNat) = 3 then (if 0 ≤ a2 ∧ a2 < 20 then (if (σ 88 a2.toNat) = 2 then (if 0 ≤ a2 ∧ a2 < 20 then (if (σ 118 a2.toNat) = 2 then ((f_M_tookFrom_84 a2 a1 σ).bind fun q16 => (if q16.1 = 0 then (f_M_listsThoseBy_84_p67 (f_M_listsThoseBy_84_p4 n) a1 a2 q16.2) else (f_M_listsThoseBy_84_p68 (f_M_listsThoseBy_84_p4 n) a1 a2 1 q16.2))) else (f_M_listsThoseBy_84_p67 (f_M_listsThoseBy_84_p4 n) a1 a2 σ)) else none) else (f_M_listsThoseBy_84_p67 (f_M_listsThoseBy_84_p4 n) a1 a2 σ)) else none) else (f_M_listsThoseBy_84_p67 (f_M_listsThoseBy_84_p4 n) a1 a2 σ)) else none)) else none)
def f_M_listsThoseBy_84 (a1 : Int) (σ : pS) : Option (Int × pS) := f_M_listsThoseBy_84_p4 4096 a1 (pw (a1 + 1)) σ
def f_M_replaysAll_84_p12 : Nat → Int → pS → Option (Int × pS)
  | 0, _, _ => none
  | n + 1, a2, σ => if (σ 84 72) ≤ a2 then (some (0, σ)) else (if 0 ≤ a2 ∧ a2 < 400 then (if 0 ≤ (σ 131 a2.toNat) ∧ (σ 131 a2.toNat) < 20 then (if (σ 118 (σ 131 a2.toNat).toNat) = 0 then (f_M_replaysAll_84_p12 n (pw (a2 + 1)) σ) else ((f_M_listsThoseBy_84 (σ 131 a2.toNat) σ).bind fun q6 => (if 0 ≤ (σ 131 a2.toNat) ∧ (σ 131 a2.toNat) < 20 then (if 0 ≤ (σ 131 a2.toNat) ∧ (σ 131 a2.toNat) < 20 then (if 0 ≤ (σ 131 a2.toNat) ∧ (σ 131 a2.toNat) < 20 then (if 0 ≤ (σ 131 a2.toNat) ∧ (σ 131 a2.toNat) < 20 then (if (q6.2 88 (σ 131 a2.toNat).toNat) = 3 then (if 0 ≤ (σ 131 a2.toNat) ∧ (σ 131 a2.toNat) < 20 then (if (q6.2 126 (σ 131 a2.toNat).toNat) = 0 then (f_M_replaysAll_84_p12 n (pw (a2 + 1)) (pU (pU (pU q6.2 118 ((σ 131 a2.toNat).toNat) 0) 123 ((σ 131 a2.toNat).toNat) (pw ((q6.2 123 (σ 131 a2.toNat).toNat) + 1))) 84 65 (pw ((q6.2 84 65) + 1)))) else ((f_M_undoesTo_84 (σ 131 a2.toNat) (pU (pU (pU q6.2 118 ((σ 131 a2.toNat).toNat) 0) 123 ((σ 131 a2.toNat).toNat) (pw ((q6.2 123 (σ 131 a2.toNat).toNat) + 1))) 84 65 (pw ((q6.2 84 65) + 1)))).bind fun q14 => (f_M_replaysAll_84_p12 n (pw (a2 + 1)) q14.2))) else none) else (f_M_replaysAll_84_p12 n (pw (a2 + 1)) (pU (pU (pU q6.2 118 ((σ 131 a2.toNat).toNat) 0) 123 ((σ 131 a2.toNat).toNat) (pw ((q6.2 123 (σ 131 a2.toNat).toNat) + 1))) 84 65 (pw ((q6.2 84 65) + 1))))) else none) else none) else none) else none))) else none) else none)
def f_M_replaysAll_84 (a1 : Int) (σ : pS) : Option (Int × pS) := (f_M_lists_84 a1 (pU σ 84 72 0)).bind fun q1 => (f_M_replaysAll_84_p12 4096 0 q1.2)
def f_M_min (a0 a1 : Int) (σ : pS) : Option (Int × pS) := if a1 ≤ a0 then (some (a1, σ)) else (some (a0, σ))
def f_M_melts_84_p41 (a1 a2 s0 : Int) (σ : pS) : Option (Int × pS) := if s0 = (-1) then (if 0 ≤ a1 ∧ a1 < 20 then (if 0 ≤ a2 ∧ a2 < 20 then (some (0, pU (pU (pU σ 84 3 (pRem (pw ((σ 84 3) + 1)) 16)) 87 (a1.toNat) (σ 84 3)) 87 (a2.toNat) (σ 84 3))) else none) else none) else (if 0 ≤ a1 ∧ a1 < 20 then (if 0 ≤ a2 ∧ a2 < 20 then (some (0, pU (pU σ 87 (a1.toNat) s0) 87 (a2.toNat) s0)) else none) else none)
def f_M_melts_84 (a1 a2 : Int) (σ : pS) : Option (Int × pS) := if 0 ≤ a1 ∧ a1 < 20 then (if 0 ≤ a2 ∧ a2 < 20 then (if (σ 87 a1.toNat) = (-1) then (f_M_melts_84_p41 a1 a2 (σ 87 a2.toNat) σ) else (if (σ 87 a2.toNat) = (-1) then (f_M_melts_84_p41 a1 a2 (σ 87 a1.toNat) σ) else ((f_M_min (σ 87 a1.toNat) (σ 87 a2.toNat) σ).bind fun q5 => (f_M_melts_84_p41 a1 a2 q5.1 q5.2)))) else none) else none
def f_M_tookOld_84_p2 : Nat → Int → Int → Int → pS → Option (Int × pS)
  | 0, _, _, _, _ => none
  | n + 1, a1, a2, a3, σ => if 0 ≤ a1 ∧ a1 < 20 then (if (σ 93 a1.toNat) ≤ a3 then (some (0, σ)) else (if 0 ≤ a1 ∧ a1 < 20 then ((f_M_covers_84 a2 (pAnd (pw ((σ 121 a1.toNat) + a3)) 63) σ).bind fun q4 => (if q4.1 = 0 then (f_M_tookOld_84_p2 n a1 a2 (pw (a3 + 1)) q4.2) else (if 0 ≤ (pw ((pw (4 * a1)) + a3)) ∧ (pw ((pw (4 * a1)) + a3)) < 80 then (if a2 ≤ (q4.2 124 (pw ((pw (4 * a1)) + a3)).toNat) then (f_M_tookOld_84_p2 n a1 a2 (pw (a3 + 1)) q4.2) else (some (1, q4.2))) else none))) else none)) else none
def f_M_tookOld_84 (a1 a2 : Int) (σ : pS) : Option (Int × pS) := f_M_tookOld_84_p2 4096 a1 a2 0 σ
def f_M_looksBack_84_p99 : Nat → Int → Int → pS → Option (Int × pS)
  | 0, _, _, _ => none
  | n + 1, a2, a3, σ => if a2 ≤ a3 then (some (0, σ)) else (if 0 ≤ a3 ∧ a3 < 20 then (if 0 ≤ (σ 133 a3.toNat) ∧ (σ 133 a3.toNat) < 20 then (if (σ 118 (σ 133 a3.toNat).toNat) = 0 then (f_M_looksBack_84_p99 n a2 (pw (a3 + 1)) σ) else (if 0 ≤ a3 ∧ a3 < 20 then ((f_M_replaysAll_84 (σ 133 a3.toNat) σ).bind fun q8 => (f_M_looksBack_84_p99 n a2 (pw (a3 + 1)) q8.2)) else none)) else none) else none)
def f_M_looksBack_84_p75 : Nat → Int → Int → Int → pS → Option (Int × pS)
  | 0, _, _, _, _ => none
  | n + 1, a1, a2, a3, σ => if a2 ≤ a3 then (f_M_looksBack_84_p99 4096 a2 0 σ) else (if 0 ≤ a3 ∧ a3 < 20 then ((f_M_melts_84 (σ 133 a3.toNat) a1 σ).bind fun q10 => (f_M_looksBack_84_p75 n a1 a2 (pw (a3 + 1)) q10.2)) else none)
def f_M_looksBack_84_p6 : Nat → Int → Int → Int → pS → Option (Int × pS)
  | 0, _, _, _, _ => none
  | n + 1, a1, a2, a3, σ => if (σ 84 2) ≤ a3 then (f_M_looksBack_84_p75 4096 a1 a2 0 (pU σ 84 64 (pw ((σ 84 64) + a2)))) else (if 0 ≤ a3 ∧ a3 < 20 then (if (σ 88 a3.toNat) = 2 then (if 0 ≤ a3 ∧ a3 < 20 then (if (σ 118 a3.toNat) = 2 then ((f_M_tookOld_84 a3 a1 σ).bind fun q15 => (if q15.1 = 0 then (f_M_looksBack_84_p6 n a1 a2 (pw (a3 + 1)) q15.2) else (if 0 ≤ a2 ∧ a2 < 20 then (f_M_looksBack_84_p6 n a1 (pw (a2 + 1)) (pw (a3 + 1)) (pU q15.2 133 (a2.toNat) a3)) else none))) else (f_M_looksBack_84_p6 n a1 a2 (pw (a3 + 1)) σ)) else none) else (f_M_looksBack_84_p6 n a1 a2 (pw (a3 + 1)) σ)) else none)
def f_M_looksBack_84 (a1 : Int) (σ : pS) : Option (Int × pS) := f_M_looksBack_84_p6 4096 a1 0 (pw (a1 + 1)) σ
def f_M_comesDone_84 (a1 a2 : Int) (σ : pS) : Option (Int × pS) := if 0 ≤ a1 ∧ a1 < 20 then (if 0 ≤ a1 ∧ a1 < 20 then (if 0 ≤ a1 ∧ a1 < 20 then (if (σ 88 a1.toNat) = 0 then (if 0 ≤ a1 ∧ a1 < 20 then (if 0 ≤ a1 ∧ a1 < 20 then (some (0, pU (pU (pU σ 118 (a1.toNat) 2) 122 (a1.toNat) a2) 120 (a1.toNat) (σ 95 a1.toNat))) else none) else none) else (if (σ 88 a1.toNat) = 1 then (if 0 ≤ a1 ∧ a1 < 20 then (if 0 ≤ a1 ∧ a1 < 20 then ((f_M_readBy_84 a1 (σ 91 a1.toNat) (pU (pU σ 118 (a1.toNat) 2) 122 (a1.toNat) a2)).bind fun q10 => (if 0 ≤ a1 ∧ a1 < 20 then ((f_M_readBy_84 a1 (q10.2 92 a1.toNat) q10.2).bind fun q12 => ((f_M_reckoned (σ 89 a1.toNat) q10.1 q12.1 q12.2).bind fun q13 => (if 0 ≤ a1 ∧ a1 < 20 then (some (0, pU q13.2 120 (a1.toNat) q13.1)) else none))) else none)) else none) else none) else (if (σ 88 a1.toNat) = 2 then ((f_M_placeBy_84 a1 (pU (pU σ 118 (a1.toNat) 2) 122 (a1.toNat) a2)).bind fun q16 => (if 0 ≤ a1 ∧ a1 < 20 then ((f_M_loads_84 a1 (pU q16.2 121 (a1.toNat) q16.1)).bind fun q18 => (some (0, q18.2))) else none)) else ((f_M_placeBy_84 a1 (pU (pU σ 118 (a1.toNat) 2) 122 (a1.toNat) a2)).bind fun q19 => (if 0 ≤ a1 ∧ a1 < 20 then (if 0 ≤ a1 ∧ a1 < 20 then ((f_M_readBy_84 a1 (q19.2 90 a1.toNat) (pU q19.2 121 (a1.toNat) q19.1)).bind fun q22 => (if 0 ≤ a1 ∧ a1 < 20 then ((f_M_cut q22.1 (q22.2 93 a1.toNat) q22.2).bind fun q24 => (if 0 ≤ a1 ∧ a1 < 20 then ((f_M_looksBack_84 a1 (pU q24.2 120 (a1.toNat) q24.1)).bind fun q26 => (some (0, q26.2))) else none)) else none)) else none) else none))))) else none) else none) else none
def f_M_cycleGoes_84_p47 : Nat → Int → Int → Int → Int → pS → Option (Int × pS)
  | 0, _, _, _, _, _ => none
  | n + 1, a1, a2, a3, a4, σ => if (σ 84 2) ≤ a4 then ((f_M_retires_84 a1 σ).bind fun q3 => (some (0, q3.2))) else (if 0 ≤ a4 ∧ a4 < 20 then (if (σ 118 a4.toNat) = 0 then ((f_M_areSourcesDone_84 a4 σ).bind fun q6 => (if q6.1 = 0 then (f_M_cycleGoes_84_p47 n a1 a2 a3 (pw (a4 + 1)) q6.2) else ((f_M_isKeptBack_84 a4 q6.2).bind fun q8 => (if q8.1 = 0 then (if a2 ≤ a3 then (f_M_cycleGoes_84_p47 n a1 a2 a3 (pw (a4 + 1)) q8.2) else ((f_M_goesOff_84 a4 a1 q8.2).bind fun q11 => (f_M_cycleGoes_84_p47 n a1 a2 (pw (a3 + 1)) (pw (a4 + 1)) q11.2))) else (f_M_cycleGoes_84_p47 n a1 a2 a3 (pw (a4 + 1)) (pU q8.2 84 68 (pw ((q8.2 84 68) + 1)))))))) else (f_M_cycleGoes_84_p47 n a1 a2 a3 (pw (a4 + 1)) σ)) else none)
def f_M_cycleGoes_84_p2 : Nat → Int → Int → Int → pS → Option (Int × pS)
  | 0, _, _, _, _ => none
  | n + 1, a1, a2, a3, σ => if (σ 84 2) ≤ a3 then (f_M_cycleGoes_84_p47 4096 a1 a2 0 0 σ) else (if 0 ≤ a3 ∧ a3 < 20 then (if (σ 118 a3.toNat) = 1 then (if 0 ≤ a3 ∧ a3 < 20 then (if (σ 119 a3.toNat) = a1 then ((f_M_comesDone_84 a3 a1 σ).bind fun q16 => (f_M_cycleGoes_84_p2 n a1 a2 (pw (a3 + 1)) q16.2)) else (f_M_cycleGoes_84_p2 n a1 a2 (pw (a3 + 1)) σ)) else none) else (f_M_cycleGoes_84_p2 n a1 a2 (pw (a3 + 1)) σ)) else none)
def f_M_cycleGoes_84 (a1 a2 : Int) (σ : pS) : Option (Int × pS) := f_M_cycleGoes_84_p2 4096 a1 a2 0 σ
def f_M_isOver_84_p2 : Nat → Int → pS → Option (Int × pS)
  | 0, _, _ => none
  | n + 1, a1, σ => if (σ 84 2) ≤ a1 then (some (1, σ)) else (if 0 ≤ a1 ∧ a1 < 20 then (if (σ 118 a1.toNat) = 2 then (if 0 ≤ a1 ∧ a1 < 20 then (if (σ 88 a1.toNat) = 3 then (if 0 ≤ a1 ∧ a1 < 20 then (if (σ 126 a1.toNat) = 0 then (some (0, σ)) else (f_M_isOver_84_p2 n (pw (a1 + 1)) σ)) else none) else (f_M_isOver_84_p2 n (pw (a1 + 1)) σ)) else none) else (some (0, σ))) else none)
def f_M_isOver_84 (σ : pS) : Option (Int × pS) := f_M_isOver_84_p2 4096 0 σ
def f_M_goesThrough_84_p177 : Nat → Int → pS → Option (Int × pS)
  | 0, _, _ => none
  | n + 1, a3, σ => if 8 ≤ a3 then (if (σ 84 63) = (-5) then (some (0, σ)) else (some (1, σ))) else ((f_M_readBy_84 (σ 84 2) a3 σ).bind fun q7 => (if 0 ≤ a3 ∧ a3 < 8 then (f_M_goesThrough_84_p177 n (pw (a3 + 1)) (pU q7.2 130 (a3.toNat) q7.1)) else none))
def f_M_goesThrough_84_p133 : Nat → Int → Int → pS → Option (Int × pS)
  | 0, _, _, _ => none
  | n + 1, a1, a3, σ => if 2000 < a3 then (f_M_goesThrough_84_p177 4096 0 σ) else (if (σ 84 63) = (-5) then ((f_M_cycleGoes_84 a3 a1 σ).bind fun q10 => ((f_M_isOver_84  q10.2).bind fun q11 => (if q11.1 = 0 then (f_M_goesThrough_84_p133 n a1 (pw (a3 + 1)) q11.2) else (f_M_goesThrough_84_p133 n a1 (pw (a3 + 1)) (pU q11.2 84 63 (pw (a3 + 1))))))) else (f_M_goesThrough_84_p177 4096 0 σ))
def f_M_goesThrough_84_p95 : Nat → Int → Int → pS → Option (Int × pS)
  | 0, _, _, _ => none
  | n + 1, a1, a3, σ => if 64 ≤ a3 then (f_M_goesThrough_84_p133 4096 a1 0 σ) else (if 0 ≤ a3 ∧ a3 < 64 then (if 0 ≤ a3 ∧ a3 < 64 then (if 0 ≤ a3 ∧ a3 < 64 then (if 0 ≤ a3 ∧ a3 < 64 then (f_M_goesThrough_84_p95 n a1 (pw (a3 + 1)) (pU (pU σ 127 (a3.toNat) (σ 86 a3.toNat)) 128 (a3.toNat) (σ 86 a3.toNat))) else none) else none) else none) else none)
def f_M_goesThrough_84_p38 : Nat → Int → Int → pS → Option (Int × pS)
  | 0, _, _, _ => none
  | n + 1, a1, a3, σ => if (σ 84 2) ≤ a3 then (f_M_goesThrough_84_p95 4096 a1 0 (pU σ 84 69 (σ 84 3))) else (if 0 ≤ a3 ∧ a3 < 20 then (if 0 ≤ a3 ∧ a3 < 20 then (if 0 ≤ a3 ∧ a3 < 20 then (if 0 ≤ a3 ∧ a3 < 20 then (if 0 ≤ a3 ∧ a3 < 20 then (f_M_goesThrough_84_p38 n a1 (pw (a3 + 1)) (pU (pU (pU (pU σ 118 (a3.toNat) 0) 126 (a3.toNat) 0) 123 (a3.toNat) 0) 129 (a3.toNat) (σ 87 a3.toNat))) else none) else none) else none) else none) else none)
def f_M_goesThrough_84 (a1 a2 : Int) (σ : pS) : Option (Int × pS) := if 0 ≤ a2 ∧ a2 ≤ 1 then (f_M_goesThrough_84_p38 4096 a1 0 (pU (pU (pU (pU (pU (pU (pU σ 84 70 a2) 84 63 (-5)) 84 64 0) 84 65 0) 84 66 0) 84 67 0) 84 68 0)) else none
def f_M_toldOf_84 (a1 : Int) (σ : pS) : Option (Int × pS) := if a1 = 0 then (some (σ 84 63, σ)) else (if a1 = 1 then (some (σ 84 64, σ)) else (if a1 = 2 then (some (σ 84 65, σ)) else (if a1 = 3 then (some (σ 84 66, σ)) else (if a1 = 4 then (some (σ 84 67, σ)) else (some (σ 84 68, σ))))))
def f_M_putsSetsBack_84_p2 : Nat → Int → pS → Option (Int × pS)
  | 0, _, _ => none
  | n + 1, a1, σ => if (σ 84 2) ≤ a1 then (some (0, pU σ 84 3 (σ 84 69))) else (if 0 ≤ a1 ∧ a1 < 20 then (if 0 ≤ a1 ∧ a1 < 20 then (f_M_putsSetsBack_84_p2 n (pw (a1 + 1)) (pU σ 87 (a1.toNat) (σ 129 a1.toNat))) else none) else none)
def f_M_putsSetsBack_84 (σ : pS) : Option (Int × pS) := f_M_putsSetsBack_84_p2 4096 0 σ
def f_M_run_84_p190 : Nat → Int → pS → Option (Int × pS)
  | 0, _, _ => none
  | n + 1, a2, σ => if 80 ≤ a2 then (some (σ 84 63, σ)) else (if 0 ≤ a2 ∧ a2 < 80 then (if 0 ≤ a2 ∧ a2 < 80 then (f_M_run_84_p190 n (pw (a2 + 1)) (pU σ 139 (a2.toNat) (σ 124 a2.toNat))) else none) else none)
def f_M_run_84_p126 : Nat → Int → pS → Option (Int × pS)
  | 0, _, _ => none
  | n + 1, a2, σ => if (σ 84 2) ≤ a2 then (f_M_run_84_p190 4096 0 σ) else (if 0 ≤ a2 ∧ a2 < 20 then (if 0 ≤ a2 ∧ a2 < 20 then (if 0 ≤ a2 ∧ a2 < 20 then (if 0 ≤ a2 ∧ a2 < 20 then (if 0 ≤ a2 ∧ a2 < 20 then (if 0 ≤ a2 ∧ a2 < 20 then (if 0 ≤ a2 ∧ a2 < 20 then (if 0 ≤ a2 ∧ a2 < 20 then (f_M_run_84_p126 n (pw (a2 + 1)) (pU (pU (pU (pU σ 135 (a2.toNat) (σ 122 a2.toNat)) 136 (a2.toNat) (σ 123 a2.toNat)) 137 (a2.toNat) (σ 120 a2.toNat)) 138 (a2.toNat) (σ 121 a2.toNat))) else none) else none) else none) else none) else none) else none) else none) else none)
def f_M_run_84_p101 : Nat → Int → pS → Option (Int × pS)
  | 0, _, _ => none
  | n + 1, a2, σ => if 6 ≤ a2 then (f_M_run_84_p126 4096 0 σ) else ((f_M_toldOf_84 a2 σ).bind fun q21 => (if 0 ≤ a2 ∧ a2 < 6 then (f_M_run_84_p101 n (pw (a2 + 1)) (pU q21.2 134 (a2.toNat) q21.1)) else none))
def f_M_run_84_p70 : Nat → Int → pS → Option (Int × pS)
  | 0, _, _ => none
  | n + 1, a2, σ => if 64 ≤ a2 then (f_M_run_84_p101 4096 0 (pU σ 84 75 1)) else (if 0 ≤ a2 ∧ a2 < 64 then (if 0 ≤ a2 ∧ a2 < 64 then (f_M_run_84_p70 n (pw (a2 + 1)) (pU σ 86 (a2.toNat) (σ 128 a2.toNat))) else none) else none)
def f_M_run_84_p44 : Nat → Int → pS → Option (Int × pS)
  | 0, _, _ => none
  | n + 1, a2, σ => if 8 ≤ a2 then (f_M_run_84_p70 4096 0 σ) else (if 0 ≤ a2 ∧ a2 < 8 then (if 0 ≤ a2 ∧ a2 < 8 then (f_M_run_84_p44 n (pw (a2 + 1)) (pU σ 85 (a2.toNat) (σ 130 a2.toNat))) else none) else none)
def f_M_run_84 (a1 : Int) (σ : pS) : Option (Int × pS) := (f_M_canRun_84 a1 σ).bind fun q1 => (if q1.1 = 0 then (some ((-1), q1.2)) else ((f_M_goesThrough_84 a1 0 q1.2).bind fun q3 => (if q3.1 = 0 then ((f_M_putsSetsBack_84  q3.2).bind fun q27 => (some ((-5), q27.2))) else ((f_M_min 9999 (pw ((q3.2 84 1) + 1)) q3.2).bind fun q5 => (f_M_run_84_p44 4096 0 (pU q5.2 84 1 q5.1))))))
def f_X_register_0 (a1 a2 : Int) (σ : pS) : Option (Int × pS) := if a1 < 0 then (some (0, σ)) else (if a1 < 8 then (if 0 ≤ a1 ∧ a1 < 8 then (some (1, pU σ 25 (a1.toNat) a2)) else none) else (some (0, σ)))
def f_M_register_84 (a1 a2 : Int) (σ : pS) : Option (Int × pS) := (f_M_in a1 0 7 σ).bind fun q1 => (if q1.1 = 0 then (some (0, q1.2)) else (if 0 ≤ a1 ∧ a1 < 8 then (some (1, pU q1.2 85 (a1.toNat) a2)) else none))
def f_X_poke_0 (a1 a2 : Int) (σ : pS) : Option (Int × pS) := if a1 < 0 then (some (0, σ)) else (if 64 ≤ a1 then (some (0, σ)) else (if a2 < 0 then (some (0, σ)) else (if a2 ≤ 255 then (if 0 ≤ a1 ∧ a1 < 64 then (some (1, pU σ 26 (a1.toNat) a2)) else none) else (some (0, σ)))))
def f_M_poke_84 (a1 a2 : Int) (σ : pS) : Option (Int × pS) := (f_M_in a1 0 63 σ).bind fun q1 => (if q1.1 = 0 then (some (0, q1.2)) else ((f_M_in a2 0 255 q1.2).bind fun q3 => (if q3.1 = 0 then (some (0, q3.2)) else (if 0 ≤ a1 ∧ a1 < 64 then (some (1, pU q3.2 86 (a1.toNat) a2)) else none))))
def f_X_isTotal (a0 : Int) (σ : pS) : Option (Int × pS) := if a0 < 0 then (some (0, σ)) else (if 6 ≤ a0 then (some (0, σ)) else (some (1, σ)))
def f_X_isByte (a0 : Int) (σ : pS) : Option (Int × pS) := if a0 < 100 then (some (0, σ)) else (if 164 ≤ a0 then (some (0, σ)) else (some (1, σ)))
def f_X_tried_0_p75 (a2 a3 : Int) (σ : pS) : Option (Int × pS) := (f_X_isByte a2 σ).bind fun q8 => (if q8.1 = 0 then ((f_X_isCell (pw (a2 - 10)) q8.2).bind fun q10 => (if q10.1 = 0 then (if a3 = 0 then (some ((-5), q10.2)) else (if 0 ≤ a2 ∧ a2 < 6 then (some (q10.2 33 a2.toNat, q10.2)) else none)) else (if 0 ≤ (pw (a2 - 10)) ∧ (pw (a2 - 10)) < 8 then (some (q10.2 25 (pw (a2 - 10)).toNat, q10.2)) else none))) else (if 0 ≤ (pw (a2 - 100)) ∧ (pw (a2 - 100)) < 64 then (some (q8.2 26 (pw (a2 - 100)).toNat, q8.2)) else none))
def f_X_tried_0_p75b (a2 a3 : Int) (σ : pS) : Option (Int × pS) := (f_X_isByte a2 σ).bind fun q16 => (if q16.1 = 0 then ((f_X_isCell (pw (a2 - 10)) q16.2).bind fun q18 => (if q18.1 = 0 then (if a3 = 0 then (some ((-5), q18.2)) else (if 0 ≤ a2 ∧ a2 < 6 then (some (q18.2 33 a2.toNat, q18.2)) else none)) else (if 0 ≤ (pw (a2 - 10)) ∧ (pw (a2 - 10)) < 8 then (some (q18.2 29 (pw (a2 - 10)).toNat, q18.2)) else none))) else (if 0 ≤ (pw (a2 - 100)) ∧ (pw (a2 - 100)) < 64 then (some (q16.2 30 (pw (a2 - 100)).toNat, q16.2)) else none))
def f_X_tried_0_p53 (a2 s0 : Int) (σ : pS) : Option (Int × pS) := if s0 = 0 then (f_X_tried_0_p75 a2 s0 σ) else (f_X_tried_0_p75b a2 s0 σ)
def f_X_tried_0_p34 (a1 a2 : Int) (σ : pS) : Option (Int × pS) := (f_Mach_go_3 a1 0 σ).bind fun q5 => (if q5.1 = (-5) then (f_X_tried_0_p53 a2 0 q5.2) else (f_X_tried_0_p53 a2 1 q5.2))
def f_X_tried_0 (a1 a2 : Int) (σ : pS) : Option (Int × pS) := (f_X_canRun_0 a1 σ).bind fun q1 => (if q1.1 = 0 then (some ((-1), q1.2)) else ((f_X_isTotal a2 q1.2).bind fun q3 => (if q3.1 = 0 then ((f_X_isCell (pw (a2 - 10)) q3.2).bind fun q24 => (if q24.1 = 0 then ((f_X_isByte a2 q24.2).bind fun q26 => (if q26.1 = 0 then (some ((-1), q26.2)) else (f_X_tried_0_p34 a1 a2 q26.2))) else (f_X_tried_0_p34 a1 a2 q24.2))) else (f_X_tried_0_p34 a1 a2 q3.2))))
def f_M_isTried_84 (a1 a2 : Int) (σ : pS) : Option (Int × pS) := (f_M_goesThrough_84 a1 a2 σ).bind fun q1 => ((f_M_putsSetsBack_84  (pU q1.2 84 0 (σ 84 0))).bind fun q2 => (if 0 ≤ q1.1 ∧ q1.1 ≤ 1 then (some (q1.1, q2.2)) else none))
def f_M_tried_84_p37 (a1 a2 s0 : Int) (σ : pS) : Option (Int × pS) := (f_M_canRun_84 a1 σ).bind fun q3 => (if q3.1 = 0 then (some ((-1), q3.2)) else (if s0 = 0 then (some ((-1), q3.2)) else ((f_M_isTried_84 a1 0 q3.2).bind fun q6 => (if 6 ≤ a2 then (if 100 ≤ a2 then (if q6.1 = 0 then (if 0 ≤ (pw (a2 - 100)) ∧ (pw (a2 - 100)) < 64 then (some (q6.2 86 (pw (a2 - 100)).toNat, q6.2)) else none) else (if 0 ≤ (pw (a2 - 100)) ∧ (pw (a2 - 100)) < 64 then (some (q6.2 128 (pw (a2 - 100)).toNat, q6.2)) else none)) else (if q6.1 = 0 then (if 0 ≤ (pw (a2 - 10)) ∧ (pw (a2 - 10)) < 8 then (some (q6.2 85 (pw (a2 - 10)).toNat, q6.2)) else none) else (if 0 ≤ (pw (a2 - 10)) ∧ (pw (a2 - 10)) < 8 then (some (q6.2 130 (pw (a2 - 10)).toNat, q6.2)) else none))) else (if q6.1 = 0 then (some ((-5), q6.2)) else ((f_M_toldOf_84 a2 q6.2).bind fun q16 => (some (q16.1, q16.2))))))))
def f_M_tried_84_p32 (a1 a2 : Int) (σ : pS) : Option (Int × pS) := f_M_tried_84_p37 a1 a2 1 σ
def f_M_tried_84 (a1 a2 : Int) (σ : pS) : Option (Int × pS) := (f_M_in a2 0 5 σ).bind fun q1 => (if q1.1 = 0 then ((f_M_in a2 10 17 q1.2).bind fun q17 => (if q17.1 = 0 then ((f_M_in a2 100 163 q17.2).bind fun q19 => (if q19.1 = 0 then (f_M_tried_84_p37 a1 a2 0 q19.2) else (f_M_tried_84_p32 a1 a2 q19.2))) else (f_M_tried_84_p32 a1 a2 q17.2))) else (f_M_tried_84_p32 a1 a2 q1.2))
def f_X_lastRun_0 (a1 : Int) (σ : pS) : Option (Int × pS) := (f_X_isTotal a1 σ).bind fun q1 => (if q1.1 = 0 then (some ((-1), q1.2)) else (if (q1.2 0 8) = 0 then (some ((-2), q1.2)) else (if 0 ≤ a1 ∧ a1 < 6 then (some (q1.2 72 a1.toNat, q1.2)) else none)))
def f_M_lastRun_84 (a1 : Int) (σ : pS) : Option (Int × pS) := (f_M_in a1 0 5 σ).bind fun q1 => (if q1.1 = 0 then (some ((-1), q1.2)) else (if (q1.2 84 75) = 0 then (some ((-2), q1.2)) else (if 0 ≤ a1 ∧ a1 < 6 then (some (q1.2 134 a1.toNat, q1.2)) else none)))
def f_Prog_moves_4 (a1 : Int) (σ : pS) : Option (Int × pS) := if 0 ≤ a1 ∧ a1 < 20 then (if (σ 5 a1.toNat) = 2 then (some (1, σ)) else (if 0 ≤ a1 ∧ a1 < 20 then (if (σ 5 a1.toNat) = 3 then (some (1, σ)) else (some (0, σ))) else none)) else none
def f_X_giverOf_0 (a1 a2 : Int) (σ : pS) : Option (Int × pS) := if 0 ≤ a1 ∧ a1 < 20 then (if (σ 5 a1.toNat) = 2 then (if 0 ≤ a1 ∧ a1 < 20 then (if a2 < (σ 7 a1.toNat) then (if (σ 0 8) = 0 then (some ((-2), σ)) else (if 0 ≤ (pw ((pw (a1 * 4)) + a2)) ∧ (pw ((pw (a1 * 4)) + a2)) < 80 then ((f_X_orAbsent (σ 77 (pw ((pw (a1 * 4)) + a2)).toNat) σ).bind fun q7 => (some (q7.1, q7.2))) else none)) else (some ((-4), σ))) else none) else (some ((-4), σ))) else none
def f_X_opIs_0_p26 (a1 a2 : Int) (σ : pS) : Option (Int × pS) := if a2 < 10 then (if a2 = 0 then (if 0 ≤ a1 ∧ a1 < 20 then (some (σ 5 a1.toNat, σ)) else none) else (if a2 = 1 then (if 0 ≤ a1 ∧ a1 < 20 then ((f_X_orAbsent (σ 27 a1.toNat) σ).bind fun q19 => (some (q19.1, q19.2))) else none) else (if (σ 0 8) = 0 then (some ((-2), σ)) else (if a2 = 2 then (if 0 ≤ a1 ∧ a1 < 20 then (some (σ 73 a1.toNat, σ)) else none) else (if a2 = 3 then (if 0 ≤ a1 ∧ a1 < 20 then (some (σ 74 a1.toNat, σ)) else none) else (if a2 = 4 then (if 0 ≤ a1 ∧ a1 < 20 then (some (σ 75 a1.toNat, σ)) else none) else ((f_Prog_moves_4 a1 σ).bind fun q15 => (if q15.1 = 0 then (some ((-2), q15.2)) else (if 0 ≤ a1 ∧ a1 < 20 then (some (q15.2 76 a1.toNat, q15.2)) else none))))))))) else ((f_X_giverOf_0 a1 (pw (a2 - 10)) σ).bind fun q21 => (some (q21.1, q21.2)))
def f_X_opIs_0 (a1 a2 : Int) (σ : pS) : Option (Int × pS) := (f_X_isOp_0 a1 σ).bind fun q1 => (if q1.1 = 0 then (some ((-100000), q1.2)) else (if a2 < 0 then (some ((-100000), q1.2)) else (if a2 ≤ 5 then (f_X_opIs_0_p26 a1 a2 q1.2) else (if 10 ≤ a2 then (f_X_opIs_0_p26 a1 a2 q1.2) else (some ((-100000), q1.2))))))
def f_M_toldOfOp_84 (a1 a2 : Int) (σ : pS) : Option (Int × pS) := if a2 = 0 then (if 0 ≤ a1 ∧ a1 < 20 then (some (σ 88 a1.toNat, σ)) else none) else (if a2 = 1 then (if 0 ≤ a1 ∧ a1 < 20 then (if (σ 87 a1.toNat) = (-1) then (some ((-2), σ)) else (if 0 ≤ a1 ∧ a1 < 20 then (some (σ 87 a1.toNat, σ)) else none)) else none) else (if (σ 84 75) = 0 then (some ((-2), σ)) else (if a2 = 2 then (if 0 ≤ a1 ∧ a1 < 20 then (some (σ 135 a1.toNat, σ)) else none) else (if a2 = 3 then (if 0 ≤ a1 ∧ a1 < 20 then (some (σ 136 a1.toNat, σ)) else none) else (if a2 = 4 then (if 0 ≤ a1 ∧ a1 < 20 then (some (σ 137 a1.toNat, σ)) else none) else (if 0 ≤ a1 ∧ a1 < 20 then (if 2 ≤ (σ 88 a1.toNat) then (if 0 ≤ a1 ∧ a1 < 20 then (some (σ 138 a1.toNat, σ)) else none) else (some ((-2), σ))) else none))))))
def f_M_opIs_84_p27 (a1 a2 : Int) (σ : pS) : Option (Int × pS) := if 10 ≤ a2 then (if 0 ≤ a1 ∧ a1 < 20 then (if (σ 88 a1.toNat) = 2 then (if 0 ≤ a1 ∧ a1 < 20 then (if (pw (a2 - 10)) < (σ 93 a1.toNat) then (if (σ 84 75) = 0 then (some ((-2), σ)) else (if 0 ≤ (pw ((pw (4 * a1)) + (pw (a2 - 10)))) ∧ (pw ((pw (4 * a1)) + (pw (a2 - 10)))) < 80 then (if (σ 139 (pw ((pw (4 * a1)) + (pw (a2 - 10)))).toNat) = (-1) then (some ((-2), σ)) else (if 0 ≤ (pw ((pw (4 * a1)) + (pw (a2 - 10)))) ∧ (pw ((pw (4 * a1)) + (pw (a2 - 10)))) < 80 then (some (σ 139 (pw ((pw (4 * a1)) + (pw (a2 - 10)))).toNat, σ)) else none)) else none)) else (some ((-4), σ))) else none) else (some ((-4), σ))) else none) else ((f_M_toldOfOp_84 a1 a2 σ).bind fun q14 => (some (q14.1, q14.2)))
def f_M_opIs_84 (a1 a2 : Int) (σ : pS) : Option (Int × pS) := (f_M_isOp_84 a1 σ).bind fun q1 => (if q1.1 = 0 then (some ((-100000), q1.2)) else ((f_M_in a2 0 5 q1.2).bind fun q3 => (if q3.1 = 0 then (if 10 ≤ a2 then (f_M_opIs_84_p27 a1 a2 q3.2) else (some ((-100000), q3.2))) else (f_M_opIs_84_p27 a1 a2 q3.2))))
def f_X_now_0 (a1 : Int) (σ : pS) : Option (Int × pS) := (f_X_isCell a1 σ).bind fun q1 => (if q1.1 = 0 then ((f_X_isByte a1 q1.2).bind fun q3 => (if q3.1 = 0 then (some ((-100000), q3.2)) else (if 0 ≤ (pw (a1 - 100)) ∧ (pw (a1 - 100)) < 64 then (some (q3.2 26 (pw (a1 - 100)).toNat, q3.2)) else none))) else (if 0 ≤ a1 ∧ a1 < 8 then (some (q1.2 25 a1.toNat, q1.2)) else none))
def f_M_now_84 (a1 : Int) (σ : pS) : Option (Int × pS) := (f_M_in a1 0 7 σ).bind fun q1 => (if q1.1 = 0 then ((f_M_in a1 100 163 q1.2).bind fun q3 => (if q3.1 = 0 then (some ((-100000), q3.2)) else (if 0 ≤ (pw (a1 - 100)) ∧ (pw (a1 - 100)) < 64 then (some (q3.2 86 (pw (a1 - 100)).toNat, q3.2)) else none))) else (if 0 ≤ a1 ∧ a1 < 8 then (some (q1.2 85 a1.toNat, q1.2)) else none))
def f_State_copyCellsFrom_66_24 (σ : pS) : Option (Int × pS) := some (0, pU (pU (pKp (pKp σ 25 67 8) 26 68 64) 66 4 (σ 24 4)) 66 5 (σ 24 5))
def f_State_copySetsFrom_66_24 (σ : pS) : Option (Int × pS) := some (0, pU (pKp σ 27 69 20) 66 3 (σ 24 3))
def f_State_copyFrom_66_24 (σ : pS) : Option (Int × pS) := (f_State_copyCellsFrom_66_24  σ).bind fun q1 => ((f_State_copySetsFrom_66_24  q1.2).bind fun q2 => (some (0, q2.2)))
def f_Plain_valueIn_65 (a1 : Int) (σ : pS) : Option (Int × pS) := (f_X_isCell a1 σ).bind fun q1 => (if q1.1 = 0 then (some (0, q1.2)) else (if 0 ≤ a1 ∧ a1 < 8 then (some (q1.2 67 a1.toNat, q1.2)) else none))
def f_Plain_loaded_65_p5 : Nat → Int → Int → Int → Int → pS → Option (Int × pS)
  | 0, _, _, _, _, _ => none
  | n + 1, a1, a2, a3, a4, σ => if a2 ≤ a4 then (some (a3, σ)) else (if 0 ≤ (pAnd (pw (a1 + a4)) 63) ∧ (pAnd (pw (a1 + a4)) 63) < 64 then (f_Plain_loaded_65_p5 n a1 a2 (pOr a3 (pShl (σ 68 (pAnd (pw (a1 + a4)) 63).toNat) (pw (8 * a4)))) (pw (a4 + 1)) σ) else none)
def f_Plain_loaded_65 (a1 a2 : Int) (σ : pS) : Option (Int × pS) := f_Plain_loaded_65_p5 4096 a1 a2 0 0 σ
def f_State_putBytes_66_p3 : Nat → Int → Int → Int → Int → pS → Option (Int × pS)
  | 0, _, _, _, _, _ => none
  | n + 1, a1, a2, a3, a4, σ => if a2 ≤ a4 then (some (0, σ)) else (if 0 ≤ (pAnd (pw (a1 + a4)) 63) ∧ (pAnd (pw (a1 + a4)) 63) < 64 then (f_State_putBytes_66_p3 n a1 a2 a3 (pw (a4 + 1)) (pU σ 68 ((pAnd (pw (a1 + a4)) 63).toNat) (pAnd (pUsh a3 (pw (8 * a4))) 255))) else none)
def f_State_putBytes_66 (a1 a2 a3 : Int) (σ : pS) : Option (Int × pS) := f_State_putBytes_66_p3 4096 a1 a2 a3 0 σ
def f_Plain_go_65_4_24_p10 : Nat → Int → pS → Option (Int × pS)
  | 0, _, _ => none
  | n + 1, a3, σ => if (σ 4 11) ≤ a3 then (some (0, σ)) else (if 0 ≤ a3 ∧ a3 < 20 then ((f_Plain_valueIn_65 (σ 9 a3.toNat) σ).bind fun q4 => (if 0 ≤ a3 ∧ a3 < 20 then ((f_Plain_valueIn_65 (q4.2 10 a3.toNat) q4.2).bind fun q6 => ((f_Prog_placeBy_4 a3 q6.1 q6.2).bind fun q7 => (if 0 ≤ a3 ∧ a3 < 20 then (if 0 ≤ a3 ∧ a3 < 20 then (if (q7.2 5 a3.toNat) = 3 then (if 0 ≤ a3 ∧ a3 < 20 then (if 0 ≤ a3 ∧ a3 < 20 then ((f_State_putBytes_66 ((pU q7.2 70 (a3.toNat) q7.1) 70 a3.toNat) (q7.2 7 a3.toNat) q4.1 (pU q7.2 70 (a3.toNat) q7.1)).bind fun q25 => (f_Plain_go_65_4_24_p10 n (pw (a3 + 1)) q25.2)) else none) else none) else (if 0 ≤ a3 ∧ a3 < 20 then ((f_X_isCell (q7.2 8 a3.toNat) (pU q7.2 70 (a3.toNat) q7.1)).bind fun q12 => (if q12.1 = 0 then (f_Plain_go_65_4_24_p10 n (pw (a3 + 1)) q12.2) else (if 0 ≤ a3 ∧ a3 < 20 then (if 0 ≤ a3 ∧ a3 < 20 then (if (q12.2 5 a3.toNat) = 2 then (if 0 ≤ a3 ∧ a3 < 20 then (if 0 ≤ a3 ∧ a3 < 20 then ((f_Plain_loaded_65 (q12.2 70 a3.toNat) (q12.2 7 a3.toNat) q12.2).bind fun q21 => (if 0 ≤ (q12.2 8 a3.toNat) ∧ (q12.2 8 a3.toNat) < 8 then (f_Plain_go_65_4_24_p10 n (pw (a3 + 1)) (pU q21.2 67 ((q12.2 8 a3.toNat).toNat) q21.1)) else none)) else none) else none) else ((f_Prog_reckoned_4 a3 q4.1 q6.1 q12.2).bind fun q17 => (if 0 ≤ (q12.2 8 a3.toNat) ∧ (q12.2 8 a3.toNat) < 8 then (f_Plain_go_65_4_24_p10 n (pw (a3 + 1)) (pU q17.2 67 ((q12.2 8 a3.toNat).toNat) q17.1)) else none))) else none) else none))) else none)) else none) else none))) else none)) else none)
def f_Plain_go_65_4_24 (σ : pS) : Option (Int × pS) := (f_State_copyFrom_66_24  σ).bind fun q1 => (f_Plain_go_65_4_24_p10 4096 0 q1.2)
def f_X_plain_0_p17 (a1 : Int) (σ : pS) : Option (Int × pS) := (f_Plain_go_65_4_24  σ).bind fun q3 => ((f_X_isCell a1 q3.2).bind fun q4 => (if q4.1 = 0 then (if 0 ≤ (pw (a1 - 100)) ∧ (pw (a1 - 100)) < 64 then (some (q4.2 68 (pw (a1 - 100)).toNat, q4.2)) else none) else (if 0 ≤ a1 ∧ a1 < 8 then (some (q4.2 67 a1.toNat, q4.2)) else none)))
def f_X_plain_0 (a1 : Int) (σ : pS) : Option (Int × pS) := (f_X_isCell a1 σ).bind fun q1 => (if q1.1 = 0 then ((f_X_isByte a1 q1.2).bind fun q8 => (if q8.1 = 0 then (some ((-100000), q8.2)) else (f_X_plain_0_p17 a1 q8.2))) else (f_X_plain_0_p17 a1 q1.2))
def f_M_doesPlain_84_p128 : Nat → Int → Int → Int → pS → Option (Int × pS)
  | 0, _, _, _, _ => none
  | n + 1, a1, a3, a4, σ => if 0 ≤ a1 ∧ a1 < 20 then (if (σ 93 a1.toNat) ≤ a4 then (if 0 ≤ a1 ∧ a1 < 20 then (if (σ 88 a1.toNat) = 2 then (if 0 ≤ a1 ∧ a1 < 20 then (if 0 ≤ (σ 90 a1.toNat) ∧ (σ 90 a1.toNat) < 8 then (some (0, pU σ 140 ((σ 90 a1.toNat).toNat) a3)) else none) else none) else (some (0, σ))) else none) else (if 0 ≤ a1 ∧ a1 < 20 then (if 0 ≤ a1 ∧ a1 < 20 then (if (σ 88 a1.toNat) = 3 then (if 0 ≤ a1 ∧ a1 < 20 then (if 0 ≤ (σ 90 a1.toNat) ∧ (σ 90 a1.toNat) < 8 then ((f_M_byteOf (σ 140 (σ 90 a1.toNat).toNat) a4 σ).bind fun q23 => (if 0 ≤ (pAnd (pw ((σ 142 a1.toNat) + a4)) 63) ∧ (pAnd (pw ((σ 142 a1.toNat) + a4)) 63) < 64 then (f_M_doesPlain_84_p128 n a1 a3 (pw (a4 + 1)) (pU q23.2 141 ((pAnd (pw ((σ 142 a1.toNat) + a4)) 63).toNat) q23.1)) else none)) else none) else none) else (if 0 ≤ (pAnd (pw ((σ 142 a1.toNat) + a4)) 63) ∧ (pAnd (pw ((σ 142 a1.toNat) + a4)) 63) < 64 then (f_M_doesPlain_84_p128 n a1 (pOr a3 (pShl (σ 141 (pAnd (pw ((σ 142 a1.toNat) + a4)) 63).toNat) (pw (8 * a4)))) (pw (a4 + 1)) σ) else none)) else none) else none)) else none
def f_M_doesPlain_84_p105 (a1 s0 : Int) (σ : pS) : Option (Int × pS) := if 0 ≤ a1 ∧ a1 < 20 then (if 0 ≤ a1 ∧ a1 < 20 then (f_M_doesPlain_84_p128 4096 a1 0 0 (pU σ 142 (a1.toNat) (pAnd (pw (s0 + (σ 95 a1.toNat))) 63))) else none) else none
def f_M_doesPlain_84 (a1 : Int) (σ : pS) : Option (Int × pS) := if 0 ≤ a1 ∧ a1 < 20 then (if (σ 88 a1.toNat) = 0 then (if 0 ≤ a1 ∧ a1 < 20 then (if 0 ≤ a1 ∧ a1 < 20 then (if 0 ≤ (σ 90 a1.toNat) ∧ (σ 90 a1.toNat) < 8 then (some (0, pU σ 140 ((σ 90 a1.toNat).toNat) (σ 95 a1.toNat))) else none) else none) else none) else (if 0 ≤ a1 ∧ a1 < 20 then (if (σ 88 a1.toNat) = 1 then (if 0 ≤ a1 ∧ a1 < 20 then (if 0 ≤ a1 ∧ a1 < 20 then (if 0 ≤ a1 ∧ a1 < 20 then (if 0 ≤ (σ 91 a1.toNat) ∧ (σ 91 a1.toNat) < 8 then (if 0 ≤ a1 ∧ a1 < 20 then (if 0 ≤ (σ 92 a1.toNat) ∧ (σ 92 a1.toNat) < 8 then ((f_M_reckoned (σ 89 a1.toNat) (σ 140 (σ 91 a1.toNat).toNat) (σ 140 (σ 92 a1.toNat).toNat) σ).bind fun q31 => (if 0 ≤ (σ 90 a1.toNat) ∧ (σ 90 a1.toNat) < 8 then (some (0, pU q31.2 140 ((σ 90 a1.toNat).toNat) q31.1)) else none)) else none) else none) else none) else none) else none) else none) else (if 0 ≤ a1 ∧ a1 < 20 then (if (σ 94 a1.toNat) = (-1) then (f_M_doesPlain_84_p105 a1 0 σ) else (if 0 ≤ a1 ∧ a1 < 20 then (if 0 ≤ (σ 94 a1.toNat) ∧ (σ 94 a1.toNat) < 8 then (f_M_doesPlain_84_p105 a1 (σ 140 (σ 94 a1.toNat).toNat) σ) else none) else none)) else none)) else none)) else none
def f_M_goesPlain_84_p54 : Nat → Int → pS → Option (Int × pS)
  | 0, _, _ => none
  | n + 1, a1, σ => if (σ 84 2) ≤ a1 then (some (0, σ)) else ((f_M_doesPlain_84 a1 σ).bind fun q4 => (f_M_goesPlain_84_p54 n (pw (a1 + 1)) q4.2))
def f_M_goesPlain_84_p28 : Nat → Int → pS → Option (Int × pS)
  | 0, _, _ => none
  | n + 1, a1, σ => if 64 ≤ a1 then (f_M_goesPlain_84_p54 4096 0 σ) else (if 0 ≤ a1 ∧ a1 < 64 then (if 0 ≤ a1 ∧ a1 < 64 then (f_M_goesPlain_84_p28 n (pw (a1 + 1)) (pU σ 141 (a1.toNat) (σ 86 a1.toNat))) else none) else none)
def f_M_goesPlain_84_p2 : Nat → Int → pS → Option (Int × pS)
  | 0, _, _ => none
  | n + 1, a1, σ => if 8 ≤ a1 then (f_M_goesPlain_84_p28 4096 0 σ) else (if 0 ≤ a1 ∧ a1 < 8 then (if 0 ≤ a1 ∧ a1 < 8 then (f_M_goesPlain_84_p2 n (pw (a1 + 1)) (pU σ 140 (a1.toNat) (σ 85 a1.toNat))) else none) else none)
def f_M_goesPlain_84 (σ : pS) : Option (Int × pS) := f_M_goesPlain_84_p2 4096 0 σ
def f_M_plain_84 (a1 : Int) (σ : pS) : Option (Int × pS) := (f_M_goesPlain_84  σ).bind fun q1 => ((f_M_in a1 0 7 q1.2).bind fun q2 => (if q2.1 = 0 then ((f_M_in a1 100 163 q2.2).bind fun q4 => (if q4.1 = 0 then (some ((-100000), q4.2)) else (if 0 ≤ (pw (a1 - 100)) ∧ (pw (a1 - 100)) < 64 then (some (q4.2 141 (pw (a1 - 100)).toNat, q4.2)) else none))) else (if 0 ≤ a1 ∧ a1 < 8 then (some (q2.2 140 a1.toNat, q2.2)) else none)))
def f_X_differing_29_67_p4 : Nat → Int → Int → pS → Option (Int × pS)
  | 0, _, _, _ => none
  | n + 1, a2, a3, σ => if 8 ≤ a3 then (some (a2, σ)) else (if 8 ≤ a3 then (some (a2, σ)) else (if 0 ≤ a3 ∧ a3 < 8 then (if 0 ≤ a3 ∧ a3 < 8 then (if (σ 29 a3.toNat) = (σ 67 a3.toNat) then (f_X_differing_29_67_p4 n a2 (pw (a3 + 1)) σ) else (f_X_differing_29_67_p4 n (pw (a2 + 1)) (pw (a3 + 1)) σ)) else none) else none))
def f_X_differing_29_67 (σ : pS) : Option (Int × pS) := f_X_differing_29_67_p4 4096 0 0 σ
def f_X_differing_30_68_p4 : Nat → Int → Int → pS → Option (Int × pS)
  | 0, _, _, _ => none
  | n + 1, a2, a3, σ => if 64 ≤ a3 then (some (a2, σ)) else (if 64 ≤ a3 then (some (a2, σ)) else (if 0 ≤ a3 ∧ a3 < 64 then (if 0 ≤ a3 ∧ a3 < 64 then (if (σ 30 a3.toNat) = (σ 68 a3.toNat) then (f_X_differing_30_68_p4 n a2 (pw (a3 + 1)) σ) else (f_X_differing_30_68_p4 n (pw (a2 + 1)) (pw (a3 + 1)) σ)) else none) else none))
def f_X_differing_30_68 (σ : pS) : Option (Int × pS) := f_X_differing_30_68_p4 4096 0 0 σ
def f_X_unlike_0 (a1 : Int) (σ : pS) : Option (Int × pS) := (f_X_canRun_0 a1 σ).bind fun q1 => (if q1.1 = 0 then (some ((-1), q1.2)) else ((f_Mach_go_3 a1 0 q1.2).bind fun q3 => (if q3.1 = (-5) then (some ((-5), q3.2)) else ((f_Plain_go_65_4_24  q3.2).bind fun q5 => ((f_X_differing_29_67  q5.2).bind fun q6 => ((f_X_differing_30_68  q6.2).bind fun q7 => (some (pw (q6.1 + q7.1), q7.2))))))))
def f_M_unlike_84_p63 : Nat → Int → Int → pS → Option (Int × pS)
  | 0, _, _, _ => none
  | n + 1, a2, a3, σ => if 64 ≤ a3 then (some (a2, σ)) else (if 0 ≤ a3 ∧ a3 < 64 then (if 0 ≤ a3 ∧ a3 < 64 then (if (σ 128 a3.toNat) = (σ 141 a3.toNat) then (f_M_unlike_84_p63 n a2 (pw (a3 + 1)) σ) else (f_M_unlike_84_p63 n (pw (a2 + 1)) (pw (a3 + 1)) σ)) else none) else none)
def f_M_unlike_84_p30 : Nat → Int → Int → pS → Option (Int × pS)
  | 0, _, _, _ => none
  | n + 1, a2, a3, σ => if 8 ≤ a3 then (f_M_unlike_84_p63 4096 a2 0 σ) else (if 0 ≤ a3 ∧ a3 < 8 then (if 0 ≤ a3 ∧ a3 < 8 then (if (σ 130 a3.toNat) = (σ 140 a3.toNat) then (f_M_unlike_84_p30 n a2 (pw (a3 + 1)) σ) else (f_M_unlike_84_p30 n (pw (a2 + 1)) (pw (a3 + 1)) σ)) else none) else none)
def f_M_unlike_84 (a1 : Int) (σ : pS) : Option (Int × pS) := (f_M_canRun_84 a1 σ).bind fun q1 => (if q1.1 = 0 then (some ((-1), q1.2)) else ((f_M_isTried_84 a1 0 q1.2).bind fun q3 => (if q3.1 = 0 then (some ((-5), q3.2)) else ((f_M_goesPlain_84  q3.2).bind fun q5 => (f_M_unlike_84_p30 4096 0 0 q5.2)))))
def f_X_fastest_0_p33 : Nat → Int → Int → Int → Int → pS → Option (Int × pS)
  | 0, _, _, _, _, _ => none
  | n + 1, a1, a2, a3, a4, σ => if 4 < a4 then (if a1 = 0 then (some (a3, σ)) else (some (a2, σ))) else ((f_Mach_go_3 a4 0 σ).bind fun q6 => (if q6.1 = (-5) then (f_X_fastest_0_p33 n a1 a2 a3 (pw (a4 + 1)) q6.2) else (if a2 = (-5) then (f_X_fastest_0_p33 n a1 q6.1 a4 (pw (a4 + 1)) q6.2) else (if a2 ≤ q6.1 then (f_X_fastest_0_p33 n a1 a2 a3 (pw (a4 + 1)) q6.2) else (f_X_fastest_0_p33 n a1 q6.1 a4 (pw (a4 + 1)) q6.2)))))
def f_X_fastest_0 (a1 : Int) (σ : pS) : Option (Int × pS) := if a1 < 0 then (some ((-1), σ)) else (if 1 < a1 then (some ((-1), σ)) else (if (σ 4 11) = 0 then (some ((-1), σ)) else (f_X_fastest_0_p33 4096 a1 (-5) (-5) 1 σ)))
def f_M_fastest_84_p27 : Nat → Int → Int → Int → Int → pS → Option (Int × pS)
  | 0, _, _, _, _, _ => none
  | n + 1, a1, a2, a3, a4, σ => if a4 ≤ 0 then (if a1 = 0 then (some (a2, σ)) else (some (a3, σ))) else ((f_M_isTried_84 a4 0 σ).bind fun q6 => (if q6.1 = 0 then (f_M_fastest_84_p27 n a1 a2 a3 (pw (a4 + (-1))) q6.2) else (if a2 = (-5) then (f_M_fastest_84_p27 n a1 a4 (q6.2 84 63) (pw (a4 + (-1))) q6.2) else (if (q6.2 84 63) ≤ a3 then (f_M_fastest_84_p27 n a1 a4 (q6.2 84 63) (pw (a4 + (-1))) q6.2) else (f_M_fastest_84_p27 n a1 a2 a3 (pw (a4 + (-1))) q6.2)))))
def f_M_fastest_84 (a1 : Int) (σ : pS) : Option (Int × pS) := (f_M_in a1 0 1 σ).bind fun q1 => (if q1.1 = 0 then (some ((-1), q1.2)) else (if (q1.2 84 2) = 0 then (some ((-1), q1.2)) else (f_M_fastest_84_p27 4096 a1 (-5) (-5) 4 q1.2)))
def f_X_cautious_0 (a1 a2 : Int) (σ : pS) : Option (Int × pS) := (f_X_canRun_0 a1 σ).bind fun q1 => (if q1.1 = 0 then (some ((-1), q1.2)) else ((f_X_isTotal a2 q1.2).bind fun q3 => (if q3.1 = 0 then (some ((-1), q3.2)) else ((f_Mach_go_3 a1 1 q3.2).bind fun q5 => (if q5.1 = (-5) then (some ((-5), q5.2)) else (if 0 ≤ a2 ∧ a2 < 6 then (some (q5.2 33 a2.toNat, q5.2)) else none))))))
def f_M_cautious_84 (a1 a2 : Int) (σ : pS) : Option (Int × pS) := (f_M_canRun_84 a1 σ).bind fun q1 => (if q1.1 = 0 then (some ((-1), q1.2)) else ((f_M_in a2 0 5 q1.2).bind fun q3 => (if q3.1 = 0 then (some ((-1), q3.2)) else ((f_M_isTried_84 a1 1 q3.2).bind fun q5 => (if q5.1 = 0 then (some ((-5), q5.2)) else ((f_M_toldOf_84 a2 q5.2).bind fun q7 => (some (q7.1, q7.2))))))))
def f_X_worst_0_p25 : Nat → Int → Int → Int → pS → Option (Int × pS)
  | 0, _, _, _, _ => none
  | n + 1, a1, a2, a3, σ => if (σ 4 11) ≤ a3 then (if a1 = 0 then (some (a2, σ)) else (if 0 ≤ a2 ∧ a2 < 20 then (some (σ 74 a2.toNat, σ)) else none)) else (if 0 ≤ a3 ∧ a3 < 20 then (if 0 ≤ a2 ∧ a2 < 20 then (if (σ 74 a3.toNat) ≤ (σ 74 a2.toNat) then (f_X_worst_0_p25 n a1 a2 (pw (a3 + 1)) σ) else (f_X_worst_0_p25 n a1 a3 (pw (a3 + 1)) σ)) else none) else none)
def f_X_worst_0 (a1 : Int) (σ : pS) : Option (Int × pS) := if a1 < 0 then (some ((-1), σ)) else (if a1 ≤ 1 then (if (σ 0 8) = 0 then (some ((-2), σ)) else (f_X_worst_0_p25 4096 a1 0 1 σ)) else (some ((-1), σ)))
def f_M_worstOp_84_p4 : Nat → Int → Int → pS → Option (Int × pS)
  | 0, _, _, _ => none
  | n + 1, a1, a2, σ => if (σ 84 2) ≤ a2 then (some (a1, σ)) else (if 0 ≤ a2 ∧ a2 < 20 then (if 0 ≤ a1 ∧ a1 < 20 then (if (σ 136 a2.toNat) ≤ (σ 136 a1.toNat) then (f_M_worstOp_84_p4 n a1 (pw (a2 + 1)) σ) else (f_M_worstOp_84_p4 n a2 (pw (a2 + 1)) σ)) else none) else none)
def f_M_worstOp_84 (σ : pS) : Option (Int × pS) := f_M_worstOp_84_p4 4096 0 1 σ
def f_M_worst_84 (a1 : Int) (σ : pS) : Option (Int × pS) := (f_M_in a1 0 1 σ).bind fun q1 => (if q1.1 = 0 then (some ((-1), q1.2)) else (if (q1.2 84 75) = 0 then (some ((-2), q1.2)) else (if a1 = 0 then ((f_M_worstOp_84  q1.2).bind fun q7 => (some (q7.1, q7.2))) else ((f_M_worstOp_84  q1.2).bind fun q5 => (if 0 ≤ q5.1 ∧ q5.1 < 20 then (some (q5.2 136 q5.1.toNat, q5.2)) else none)))))
def f_Plain_meet_65_4 (a2 a3 : Int) (σ : pS) : Option (Int × pS) := if 0 ≤ a3 ∧ a3 < 20 then (if 0 ≤ a3 ∧ a3 < 20 then (if 0 ≤ a2 ∧ a2 < 20 then ((f_X_covers (σ 70 a3.toNat) (σ 7 a3.toNat) (σ 70 a2.toNat) σ).bind fun q4 => (if q4.1 = 0 then (if 0 ≤ a2 ∧ a2 < 20 then (if 0 ≤ a2 ∧ a2 < 20 then (if 0 ≤ a3 ∧ a3 < 20 then ((f_X_covers (q4.2 70 a2.toNat) (q4.2 7 a2.toNat) (q4.2 70 a3.toNat) q4.2).bind fun q9 => (if q9.1 = 0 then (some (0, q9.2)) else (some (1, q9.2)))) else none) else none) else none) else (some (1, q4.2)))) else none) else none) else none
def f_Plain_sharedBytes_65_4_p15 (k_4 : Int → Int → pS → Option (Int × pS)) : Nat → Int → Int → Int → pS → Option (Int × pS)
  | 0, _, _, _, _ => none
  | n + 1, a2, a3, a4, σ => if a3 ≤ a4 then (k_4 a2 (pw (a3 + 1)) σ) else (if 0 ≤ a3 ∧ a3 < 20 then (if (σ 5 a3.toNat) = 2 then (if 0 ≤ a4 ∧ a4 < 20 then (if (σ 5 a4.toNat) = 3 then ((f_Plain_meet_65_4 a3 a4 σ).bind fun q7 => (if q7.1 = 0 then (f_Plain_sharedBytes_65_4_p15 k_4 n a2 a3 (pw (a4 + 1)) q7.2) else (f_Plain_sharedBytes_65_4_p15 k_4 n (pw (a2 + 1)) a3 (pw (a4 + 1)) q7.2))) else (f_Plain_sharedBytes_65_4_p15 k_4 n a2 a3 (pw (a4 + 1)) σ)) else none) else (f_Plain_sharedBytes_65_4_p15 k_4 n a2 a3 (pw (a4 + 1)) σ)) else none)
def f_Plain_sharedBytes_65_4_p4 : Nat → Int → Int → pS → Option (Int × pS)
  | 0, _, _, _ => none
  | n + 1, a2, a3, σ => if (σ 4 11) ≤ a3 then (some (a2, σ)) else (f_Plain_sharedBytes_65_4_p15 (f_Plain_sharedBytes_65_4_p4 n) 4096 a2 a3 0 σ)
def f_Plain_sharedBytes_65_4 (σ : pS) : Option (Int × pS) := f_Plain_sharedBytes_65_4_p4 4096 0 0 σ
def f_X_mix_0 (σ : pS) : Option (Int × pS) := (f_Plain_go_65_4_24  σ).bind fun q1 => ((f_Plain_sharedBytes_65_4  q1.2).bind fun q2 => (some (q2.1, q2.2)))
def f_M_haveByte_84_p2 : Nat → Int → Int → Int → pS → Option (Int × pS)
  | 0, _, _, _, _ => none
  | n + 1, a1, a2, a3, σ => if 0 ≤ a1 ∧ a1 < 20 then (if (σ 93 a1.toNat) ≤ a3 then (some (0, σ)) else (if 0 ≤ a1 ∧ a1 < 20 then (if 0 ≤ a2 ∧ a2 < 20 then (if 0 ≤ a2 ∧ a2 < 20 then (if (σ 93 a2.toNat) ≤ (pAnd (pw ((pw ((σ 142 a1.toNat) + a3)) - (σ 142 a2.toNat))) 63) then (f_M_haveByte_84_p2 n a1 a2 (pw (a3 + 1)) σ) else (some (1, σ))) else none) else none) else none)) else none
def f_M_haveByte_84 (a1 a2 : Int) (σ : pS) : Option (Int × pS) := f_M_haveByte_84_p2 4096 a1 a2 0 σ
def f_M_mix_84_p18 (k_8 : Int → Int → pS → Option (Int × pS)) : Nat → Int → Int → Int → pS → Option (Int × pS)
  | 0, _, _, _, _ => none
  | n + 1, a1, a2, a3, σ => if a2 ≤ a3 then (k_8 a1 (pw (a2 + 1)) σ) else (if 0 ≤ a2 ∧ a2 < 20 then (if (σ 88 a2.toNat) = 2 then (if 0 ≤ a3 ∧ a3 < 20 then (if (σ 88 a3.toNat) = 3 then ((f_M_haveByte_84 a2 a3 σ).bind fun q8 => (if q8.1 = 0 then (f_M_mix_84_p18 k_8 n a1 a2 (pw (a3 + 1)) q8.2) else (f_M_mix_84_p18 k_8 n (pw (a1 + 1)) a2 (pw (a3 + 1)) q8.2))) else (f_M_mix_84_p18 k_8 n a1 a2 (pw (a3 + 1)) σ)) else none) else (f_M_mix_84_p18 k_8 n a1 a2 (pw (a3 + 1)) σ)) else none)
def f_M_mix_84_p8 : Nat → Int → Int → pS → Option (Int × pS)
  | 0, _, _, _ => none
  | n + 1, a1, a2, σ => if (σ 84 2) ≤ a2 then (some (a1, σ)) else (f_M_mix_84_p18 (f_M_mix_84_p8 n) 4096 a1 a2 0 σ)
def f_M_mix_84 (σ : pS) : Option (Int × pS) := (f_M_goesPlain_84  σ).bind fun q1 => (f_M_mix_84_p8 4096 0 0 q1.2)
def f_Rows_put_82 (a1 a2 : Int) (σ : pS) : Option (Int × pS) := if 0 ≤ a1 ∧ a1 < 2 then (if 8 ≤ (σ 83 a1.toNat) then (if 0 ≤ a1 ∧ a1 < 2 then (some (σ 83 a1.toNat, σ)) else none) else (if 0 ≤ a1 ∧ a1 < 2 then (if a1 = 0 then (if 0 ≤ a1 ∧ a1 < 2 then (if 0 ≤ (σ 83 a1.toNat) ∧ (σ 83 a1.toNat) < 8 then (if 0 ≤ a1 ∧ a1 < 2 then (if 0 ≤ a1 ∧ a1 < 2 then (if 0 ≤ a1 ∧ a1 < 2 then (some ((pU (pU σ 150 ((σ 83 a1.toNat).toNat) a2) 83 (a1.toNat) (pw ((σ 83 a1.toNat) + 1))) 83 a1.toNat, pU (pU σ 150 ((σ 83 a1.toNat).toNat) a2) 83 (a1.toNat) (pw ((σ 83 a1.toNat) + 1)))) else none) else none) else none) else none) else none) else (if 0 ≤ a1 ∧ a1 < 2 then (if 0 ≤ (σ 83 a1.toNat) ∧ (σ 83 a1.toNat) < 8 then (if 0 ≤ a1 ∧ a1 < 2 then (if 0 ≤ a1 ∧ a1 < 2 then (if 0 ≤ a1 ∧ a1 < 2 then (some ((pU (pU σ 151 ((σ 83 a1.toNat).toNat) a2) 83 (a1.toNat) (pw ((σ 83 a1.toNat) + 1))) 83 a1.toNat, pU (pU σ 151 ((σ 83 a1.toNat).toNat) a2) 83 (a1.toNat) (pw ((σ 83 a1.toNat) + 1)))) else none) else none) else none) else none) else none)) else none)) else none
def f_X_watch_0_p59 (a1 a2 s0 s1 : Int) (σ : pS) : Option (Int × pS) := if s1 = s0 then ((f_Rows_put_82 a1 a2 σ).bind fun q10 => (some (q10.1, q10.2))) else (some ((-7), pU σ 82 2 (pMin 9999 (pw ((σ 82 2) + 1)))))
def f_X_watch_0 (a1 a2 : Int) (σ : pS) : Option (Int × pS) := if a1 < 0 then (some ((-1), σ)) else (if a1 < 2 then (if 0 ≤ a1 ∧ a1 < 2 then (if (σ 83 a1.toNat) < 8 then ((f_X_isOp_0 a2 σ).bind fun q5 => (if q5.1 = 0 then (some ((-1), q5.2)) else (if 0 ≤ a2 ∧ a2 < 20 then (if a1 = 0 then (f_X_watch_0_p59 a1 a2 2 (q5.2 5 a2.toNat) q5.2) else (f_X_watch_0_p59 a1 a2 3 (q5.2 5 a2.toNat) q5.2)) else none))) else (some ((-3), σ))) else none) else (some ((-1), σ)))
def f_M_watch_84 (a1 a2 : Int) (σ : pS) : Option (Int × pS) := (f_M_in a1 0 1 σ).bind fun q1 => (if q1.1 = 0 then (some ((-1), q1.2)) else ((f_M_isOp_84 a2 q1.2).bind fun q3 => (if q3.1 = 0 then (some ((-1), q3.2)) else (if 0 ≤ a1 ∧ a1 < 2 then (if (q3.2 145 a1.toNat) = 8 then (some ((-3), q3.2)) else (if 0 ≤ a2 ∧ a2 < 20 then (if (q3.2 88 a2.toNat) = (pw (2 + a1)) then (if 0 ≤ (pw ((pw (8 * a1)) + (q3.2 145 a1.toNat))) ∧ (pw ((pw (8 * a1)) + (q3.2 145 a1.toNat))) < 16 then (if 0 ≤ a1 ∧ a1 < 2 then (some (pw ((q3.2 145 a1.toNat) + 1), pU (pU q3.2 144 ((pw ((pw (8 * a1)) + (q3.2 145 a1.toNat))).toNat) a2) 145 (a1.toNat) (pw ((q3.2 145 a1.toNat) + 1)))) else none) else none) else ((f_M_min 9999 (pw ((q3.2 84 4) + 1)) q3.2).bind fun q11 => (some ((-7), pU q11.2 84 4 q11.1)))) else none)) else none))))
def f_X_watched_0 (a1 a2 a3 : Int) (σ : pS) : Option (Int × pS) := if a1 < 0 then (some ((-100000), σ)) else (if 2 ≤ a1 then (some ((-100000), σ)) else (if a2 < 0 then (some ((-100000), σ)) else (if a3 < 0 then (some ((-100000), σ)) else (if a3 ≤ 6 then (if 0 ≤ a1 ∧ a1 < 2 then (if (σ 83 a1.toNat) ≤ a2 then (some ((-4), σ)) else (if a2 < 8 then (if 0 ≤ a1 ∧ a1 < 2 then (if a1 = 0 then (if 0 ≤ a2 ∧ a2 < 8 then (if a3 = 6 then (some (σ 150 a2.toNat, σ)) else ((f_X_opIs_0 (σ 150 a2.toNat) a3 σ).bind fun q13 => (some (q13.1, q13.2)))) else none) else (if 0 ≤ a2 ∧ a2 < 8 then (if a3 = 6 then (some (σ 151 a2.toNat, σ)) else ((f_X_opIs_0 (σ 151 a2.toNat) a3 σ).bind fun q16 => (some (q16.1, q16.2)))) else none)) else none) else (some ((-4), σ)))) else none) else (some ((-100000), σ))))))
def f_M_watched_84 (a1 a2 a3 : Int) (σ : pS) : Option (Int × pS) := (f_M_in a1 0 1 σ).bind fun q1 => (if q1.1 = 0 then (some ((-100000), q1.2)) else (if a2 < 0 then (some ((-100000), q1.2)) else ((f_M_in a3 0 6 q1.2).bind fun q4 => (if q4.1 = 0 then (some ((-100000), q4.2)) else (if 0 ≤ a1 ∧ a1 < 2 then (if a2 < (q4.2 145 a1.toNat) then (if 0 ≤ (pw ((pw (8 * a1)) + a2)) ∧ (pw ((pw (8 * a1)) + a2)) < 16 then (if a3 = 6 then (some (q4.2 144 (pw ((pw (8 * a1)) + a2)).toNat, q4.2)) else ((f_M_toldOfOp_84 (q4.2 144 (pw ((pw (8 * a1)) + a2)).toNat) a3 q4.2).bind fun q10 => (some (q10.1, q10.2)))) else none) else (some ((-4), q4.2))) else none)))))
def f_State_withSet_24_p4 : Nat → Int → Int → pS → Option (Int × pS)
  | 0, _, _, _ => none
  | n + 1, a1, a2, σ => if 20 ≤ a2 then (some (a1, σ)) else (if 0 ≤ a2 ∧ a2 < 20 then (if (σ 27 a2.toNat) = (-1) then (f_State_withSet_24_p4 n a1 (pw (a2 + 1)) σ) else (f_State_withSet_24_p4 n (pw (a1 + 1)) (pw (a2 + 1)) σ)) else none)
def f_State_withSet_24 (σ : pS) : Option (Int × pS) := f_State_withSet_24_p4 4096 0 0 σ
def f_X_forget_0 (σ : pS) : Option (Int × pS) := (f_State_withSet_24  σ).bind fun q1 => ((f_State_dropSets_24  q1.2).bind fun q2 => (some (q1.1, q2.2)))
def f_M_withSet_84_p4 : Nat → Int → Int → pS → Option (Int × pS)
  | 0, _, _, _ => none
  | n + 1, a1, a2, σ => if (σ 84 2) ≤ a2 then (some (a1, σ)) else (if 0 ≤ a2 ∧ a2 < 20 then (if (σ 87 a2.toNat) = (-1) then (f_M_withSet_84_p4 n a1 (pw (a2 + 1)) σ) else (f_M_withSet_84_p4 n (pw (a1 + 1)) (pw (a2 + 1)) σ)) else none)
def f_M_withSet_84 (σ : pS) : Option (Int × pS) := f_M_withSet_84_p4 4096 0 0 σ
def f_M_forget_84_p7 : Nat → Int → Int → pS → Option (Int × pS)
  | 0, _, _, _ => none
  | n + 1, a1, a2, σ => if (σ 84 2) ≤ a2 then (some (a1, σ)) else (if 0 ≤ a2 ∧ a2 < 20 then (f_M_forget_84_p7 n a1 (pw (a2 + 1)) (pU σ 87 (a2.toNat) (-1))) else none)
def f_M_forget_84 (σ : pS) : Option (Int × pS) := (f_M_withSet_84  σ).bind fun q1 => (f_M_forget_84_p7 4096 q1.1 0 q1.2)
def f_X_seed_0 (a1 : Int) (σ : pS) : Option (Int × pS) := if a1 < 0 then (some (0, σ)) else (if a1 < 65536 then (some (1, pU σ 24 5 a1)) else (some (0, σ)))
def f_M_seed_84 (a1 : Int) (σ : pS) : Option (Int × pS) := (f_M_in a1 0 65535 σ).bind fun q1 => (if q1.1 = 0 then (some (0, q1.2)) else (some (1, pU q1.2 84 0 a1)))
def f_State_copyCellsFrom_78_24 (σ : pS) : Option (Int × pS) := some (0, pU (pU (pKp (pKp σ 25 79 8) 26 80 64) 78 4 (σ 24 4)) 78 5 (σ 24 5))
def f_State_copySetsFrom_78_24 (σ : pS) : Option (Int × pS) := some (0, pU (pKp σ 27 81 20) 78 3 (σ 24 3))
def f_State_copyFrom_78_24 (σ : pS) : Option (Int × pS) := (f_State_copyCellsFrom_78_24  σ).bind fun q1 => ((f_State_copySetsFrom_78_24  q1.2).bind fun q2 => (some (0, q2.2)))
def f_X_keep_0 (σ : pS) : Option (Int × pS) := (f_State_copyFrom_78_24  σ).bind fun q1 => (some (q1.2 24 4, pU (pU q1.2 0 9 1) 0 10 0))
def f_M_keep_84_p91 : Nat → Int → pS → Option (Int × pS)
  | 0, _, _ => none
  | n + 1, a1, σ => if 20 ≤ a1 then (some (σ 84 1, σ)) else (if 0 ≤ a1 ∧ a1 < 20 then (if 0 ≤ a1 ∧ a1 < 20 then (f_M_keep_84_p91 n (pw (a1 + 1)) (pU σ 148 (a1.toNat) (σ 87 a1.toNat))) else none) else none)
def f_M_keep_84_p65 : Nat → Int → pS → Option (Int × pS)
  | 0, _, _ => none
  | n + 1, a1, σ => if 64 ≤ a1 then (f_M_keep_84_p91 4096 0 σ) else (if 0 ≤ a1 ∧ a1 < 64 then (if 0 ≤ a1 ∧ a1 < 64 then (f_M_keep_84_p65 n (pw (a1 + 1)) (pU σ 147 (a1.toNat) (σ 86 a1.toNat))) else none) else none)
def f_M_keep_84_p39 : Nat → Int → pS → Option (Int × pS)
  | 0, _, _ => none
  | n + 1, a1, σ => if 8 ≤ a1 then (f_M_keep_84_p65 4096 0 σ) else (if 0 ≤ a1 ∧ a1 < 8 then (if 0 ≤ a1 ∧ a1 < 8 then (f_M_keep_84_p39 n (pw (a1 + 1)) (pU σ 146 (a1.toNat) (σ 85 a1.toNat))) else none) else none)
def f_M_keep_84 (σ : pS) : Option (Int × pS) := f_M_keep_84_p39 4096 0 (pU (pU (pU (pU (pU σ 84 88 1) 84 89 (σ 84 5)) 84 90 (σ 84 3)) 84 91 (σ 84 1)) 84 92 (σ 84 0))
def f_State_copyCellsFrom_24_78 (σ : pS) : Option (Int × pS) := some (0, pU (pU (pKp (pKp σ 79 25 8) 80 26 64) 24 4 (σ 78 4)) 24 5 (σ 78 5))
def f_State_copySetsFrom_24_78 (σ : pS) : Option (Int × pS) := some (0, pU (pKp σ 81 27 20) 24 3 (σ 78 3))
def f_X_undo_0 (σ : pS) : Option (Int × pS) := if (σ 0 9) = 0 then (some (0, σ)) else ((f_State_copyCellsFrom_24_78  σ).bind fun q2 => (if (q2.2 0 10) = 0 then ((f_State_copySetsFrom_24_78  q2.2).bind fun q4 => (some (1, q4.2))) else (some (1, q2.2))))
def f_M_undo_84_p100 : Nat → Int → pS → Option (Int × pS)
  | 0, _, _ => none
  | n + 1, a1, σ => if 20 ≤ a1 then (some (1, σ)) else (if 0 ≤ a1 ∧ a1 < 20 then (if 0 ≤ a1 ∧ a1 < 20 then (f_M_undo_84_p100 n (pw (a1 + 1)) (pU σ 87 (a1.toNat) (σ 148 a1.toNat))) else none) else none)
def f_M_undo_84_p53 : Nat → Int → pS → Option (Int × pS)
  | 0, _, _ => none
  | n + 1, a1, σ => if 64 ≤ a1 then (if (σ 84 89) = (σ 84 5) then (f_M_undo_84_p100 4096 0 (pU σ 84 3 (σ 84 90))) else (some (1, σ))) else (if 0 ≤ a1 ∧ a1 < 64 then (if 0 ≤ a1 ∧ a1 < 64 then (f_M_undo_84_p53 n (pw (a1 + 1)) (pU σ 86 (a1.toNat) (σ 147 a1.toNat))) else none) else none)
def f_M_undo_84_p27 : Nat → Int → pS → Option (Int × pS)
  | 0, _, _ => none
  | n + 1, a1, σ => if 8 ≤ a1 then (f_M_undo_84_p53 4096 0 σ) else (if 0 ≤ a1 ∧ a1 < 8 then (if 0 ≤ a1 ∧ a1 < 8 then (f_M_undo_84_p27 n (pw (a1 + 1)) (pU σ 85 (a1.toNat) (σ 146 a1.toNat))) else none) else none)
def f_M_undo_84 (σ : pS) : Option (Int × pS) := if (σ 84 88) = 0 then (some (0, σ)) else (f_M_undo_84_p27 4096 0 (pU (pU σ 84 1 (σ 84 91)) 84 0 (σ 84 92)))
def f_Prog_ofKind_4_p4 : Nat → Int → Int → Int → pS → Option (Int × pS)
  | 0, _, _, _, _ => none
  | n + 1, a1, a2, a3, σ => if (σ 4 11) ≤ a3 then (some (a2, σ)) else (if 0 ≤ a3 ∧ a3 < 20 then (if (σ 5 a3.toNat) = a1 then (f_Prog_ofKind_4_p4 n a1 (pw (a2 + 1)) (pw (a3 + 1)) σ) else (f_Prog_ofKind_4_p4 n a1 a2 (pw (a3 + 1)) σ)) else none)
def f_Prog_ofKind_4 (a1 : Int) (σ : pS) : Option (Int × pS) := f_Prog_ofKind_4_p4 4096 a1 0 0 σ
def f_State_bytesNotZero_24_p4 : Nat → Int → Int → pS → Option (Int × pS)
  | 0, _, _, _ => none
  | n + 1, a1, a2, σ => if 64 ≤ a2 then (some (a1, σ)) else (if 0 ≤ a2 ∧ a2 < 64 then (if (σ 26 a2.toNat) = 0 then (f_State_bytesNotZero_24_p4 n a1 (pw (a2 + 1)) σ) else (f_State_bytesNotZero_24_p4 n (pw (a1 + 1)) (pw (a2 + 1)) σ)) else none)
def f_State_bytesNotZero_24 (σ : pS) : Option (Int × pS) := f_State_bytesNotZero_24_p4 4096 0 0 σ
def f_X_count_0 (a1 : Int) (σ : pS) : Option (Int × pS) := if a1 = 0 then (some (σ 24 4, σ)) else (if a1 = 1 then (some (σ 4 11, σ)) else (if a1 = 2 then ((f_Prog_ofKind_4 2 σ).bind fun q4 => (some (q4.1, q4.2))) else (if a1 = 3 then ((f_Prog_ofKind_4 3 σ).bind fun q6 => (some (q6.1, q6.2))) else (if a1 = 4 then (some (σ 16 7, σ)) else (if a1 = 5 then (some (σ 1 1, σ)) else (if a1 = 6 then (some (σ 24 5, σ)) else (if a1 = 7 then (some (σ 82 2, σ)) else (if a1 = 8 then ((f_State_withSet_24  σ).bind fun q12 => (some (q12.1, q12.2))) else (if a1 = 9 then (some (σ 24 3, σ)) else (if a1 = 10 then (some (pw ((σ 83 0) + (σ 83 1)), σ)) else (if a1 = 11 then ((f_State_bytesNotZero_24  σ).bind fun q16 => (some (q16.1, q16.2))) else (some ((-1), σ)))))))))))))
def f_M_ofKind_84_p4 : Nat → Int → Int → Int → pS → Option (Int × pS)
  | 0, _, _, _, _ => none
  | n + 1, a1, a2, a3, σ => if (σ 84 2) ≤ a3 then (some (a2, σ)) else (if 0 ≤ a3 ∧ a3 < 20 then (if (σ 88 a3.toNat) = a1 then (f_M_ofKind_84_p4 n a1 (pw (a2 + 1)) (pw (a3 + 1)) σ) else (f_M_ofKind_84_p4 n a1 a2 (pw (a3 + 1)) σ)) else none)
def f_M_ofKind_84 (a1 : Int) (σ : pS) : Option (Int × pS) := f_M_ofKind_84_p4 4096 a1 0 0 σ
def f_M_bytesThere_84_p4 : Nat → Int → Int → pS → Option (Int × pS)
  | 0, _, _, _ => none
  | n + 1, a1, a2, σ => if 64 ≤ a2 then (some (a1, σ)) else (if 0 ≤ a2 ∧ a2 < 64 then (if (σ 86 a2.toNat) = 0 then (f_M_bytesThere_84_p4 n a1 (pw (a2 + 1)) σ) else (f_M_bytesThere_84_p4 n (pw (a1 + 1)) (pw (a2 + 1)) σ)) else none)
def f_M_bytesThere_84 (σ : pS) : Option (Int × pS) := f_M_bytesThere_84_p4 4096 0 0 σ
def f_M_count_84 (a1 : Int) (σ : pS) : Option (Int × pS) := if a1 = 0 then (some (σ 84 1, σ)) else (if a1 = 1 then (some (σ 84 2, σ)) else (if a1 = 2 then ((f_M_ofKind_84 2 σ).bind fun q4 => (some (q4.1, q4.2))) else (if a1 = 3 then ((f_M_ofKind_84 3 σ).bind fun q6 => (some (q6.1, q6.2))) else (if a1 = 4 then (some (σ 84 27, σ)) else (if a1 = 5 then (some (σ 84 18, σ)) else (if a1 = 6 then (some (σ 84 0, σ)) else (if a1 = 7 then (some (σ 84 4, σ)) else (if a1 = 8 then ((f_M_withSet_84  σ).bind fun q12 => (some (q12.1, q12.2))) else (if a1 = 9 then (some (σ 84 3, σ)) else (if a1 = 10 then (some (pw ((σ 145 0) + (σ 145 1)), σ)) else (if a1 = 11 then ((f_M_bytesThere_84  σ).bind fun q16 => (some (q16.1, q16.2))) else (some ((-1), σ)))))))))))))
