/-- exact worlds: a number or a cell; what lies in a cell's places -/
abbrev pV : Type := Int ⊕ Nat
abbrev pS : Type := Nat → Nat → Int
abbrev pL : Type := List (Option pV)
/-- an instruction, its places found: number, operands, pairs -/
abbrev pI : Type := Nat × Nat × Nat × Int × List (Int × Nat)
def pe (a : pV) : en_V := match a with
  | .inl z => .inl (z, z)
  | .inr k => .inr (k + 2)
def pw (z : Int) : Int := z.bmod 4294967296
def pO (f : Int32 → Int32 → Int32) (a b : Int) : Int := (f (Int32.ofInt a) (Int32.ofInt b)).toInt
def pAnd (a b : Int) : Int := pO (fun x y => x &&& y) a b
def pOr (a b : Int) : Int := pO (fun x y => x ||| y) a b
def pXor (a b : Int) : Int := pO (fun x y => x ^^^ y) a b
def pShl (a b : Int) : Int := pO (fun x y => x <<< (y &&& 31)) a b
def pShr (a b : Int) : Int := pO (fun x y => x >>> (y &&& 31)) a b
def pUsh (a b : Int) : Int := pO (fun x y => (x.toUInt32 >>> (y.toUInt32 &&& Int32.toUInt32 31)).toInt32) a b
def pDiv (a b : Int) : Int := pO (fun x y => x / y) a b
def pRem (a b : Int) : Int := pO (fun x y => x - x / y * y) a b
def pI2b (a : Int) : Int := ((Int32.ofInt a).toInt8.toInt32).toInt
def pI2c (a : Int) : Int := (((Int32.ofInt a).toUInt32 % 65536).toInt32).toInt
def pMin (a b : Int) : Int := if b < a then b else a
def pMax (a b : Int) : Int := if a < b then b else a
/-- the place of a letter among ikcsnrw -/
def pIdx (c : Int) : Int := if c = 105 then 0 else if c = 107 then 1 else if c = 99 then 2 else if c = 115 then 3 else if c = 110 then 4 else if c = 114 then 5 else if c = 119 then 6 else -1
def pB (k : Nat) (a b : Int) : Int := match k with
  | 0 => pw (a + b)
  | 1 => pw (a - b)
  | 2 => pw (a * b)
  | 3 => pAnd a b
  | 4 => pOr a b
  | 5 => pXor a b
  | 6 => pShl a b
  | 7 => pShr a b
  | _ => pUsh a b
def px_dr (a : Nat) (x y : Int) : Int := match a with
  | 0 => pDiv x y
  | _ => pRem x y
def px_ib (a : Nat) (x : Int) : Int := match a with
  | 0 => pI2b x
  | _ => pI2c x
def px_mm (a : Nat) (x y : Int) : Int := match a with
  | 0 => pMin x y
  | _ => pMax x y
def px_rs (z v : Int) (S : List pV) : List pV := match z with
  | .ofNat 0 => S
  | _ => .inl v :: S
def pCd (k : Nat) (a b : Int) : Prop := match k with
  | 0 => a = b
  | 1 => a ≠ b
  | 2 => a < b
  | 3 => b ≤ a
  | 4 => b < a
  | _ => a ≤ b
def pU (σ : pS) (j i : Nat) (v : Int) : pS := fun k x => if k = j ∧ x = i then v else σ k x
def pKp (σ : pS) (j0 j1 n : Nat) : pS := fun k x => if k = j1 ∧ x < n then σ j0 x else σ k x
def sg (ws : va_W) : pS := fun k i => match ws[k]? with
  | some (_, .inl (_, n, .inl f)) => if i < n then (f i).toInt else 0
  | some (_, .inr (_, vs)) => (match vs[i]? with
    | some (.int x) => x.toInt
    | _ => 0)
  | _ => 0
theorem pO_ok (f : Int32 → Int32 → Int32) (x y : Int32) : (f x y).toInt = pO f x.toInt y.toInt := by
  unfold pO
  rw [Int32.ofInt_toInt, Int32.ofInt_toInt]
theorem sg_arr {ws : va_W} {k a : Nat} {cA : ClassId} {n : Nat} {f : Nat → Int32} (h : ws[k]? = some (a, .inl (cA, n, .inl f))) (i : Nat) : sg ws k i = if i < n then (f i).toInt else 0 := by
  unfold sg
  rw [h]
theorem sg_obj {ws : va_W} {k a : Nat} {ci : Nat} {vs : List Value} (h : ws[k]? = some (a, .inr (ci, vs))) (i : Nat) : sg ws k i = match vs[i]? with
    | some (.int x) => x.toInt
    | _ => 0 := by
  unfold sg
  rw [h]
theorem sg_obji {ws : va_W} {k a : Nat} {ci : Nat} {vs : List Value} {i : Nat} {x : Int32} (h : ws[k]? = some (a, .inr (ci, vs))) (hi : vs[i]? = some (.int x)) : sg ws k i = x.toInt := by
  rw [sg_obj h, hi]
theorem sg_ne {ws : va_W} {j : Nat} {q : Nat × va_E} {k : Nat} (h : k ≠ j) (i : Nat) : sg (ws.set j q) k i = sg ws k i := by
  unfold sg
  rw [List.getElem?_set_ne (Ne.symm h)]
theorem sg_seta {ws : va_W} {j a : Nat} {cA : ClassId} {n : Nat} {f : Nat → Int32} (h : ws[j]? = some (a, .inl (cA, n, .inl f))) {i : Nat} (hi : i < n) (x : Int32) : sg (ws.set j (a, .inl (cA, n, .inl (upd f i x)))) = pU (sg ws) j i x.toInt := by
  funext k y
  unfold pU
  by_cases hk : k = j
  · subst hk
    have h1 : (ws.set k (a, .inl (cA, n, .inl (upd f i x))))[k]? = some (a, .inl (cA, n, .inl (upd f i x))) := List.getElem?_set_self (List.getElem?_eq_some_iff.mp h).1
    rw [sg_arr h1, sg_arr h]
    unfold upd
    by_cases hy : y = i
    · subst hy
      rw [if_pos hi, if_pos rfl, if_pos ⟨rfl, rfl⟩]
    · rw [if_neg hy, if_neg (c := k = k ∧ y = i) (fun h => hy h.2)]
  · rw [sg_ne hk, if_neg (fun h => hk h.1)]
theorem sg_seto {ws : va_W} {j a ci : Nat} {vs : List Value} (h : ws[j]? = some (a, .inr (ci, vs))) {i : Nat} (hi : i < vs.length) (x : Int32) : sg (ws.set j (a, .inr (ci, vs.set i (.int x)))) = pU (sg ws) j i x.toInt := by
  funext k y
  unfold pU
  by_cases hk : k = j
  · subst hk
    have h1 : (ws.set k (a, .inr (ci, vs.set i (.int x))))[k]? = some (a, .inr (ci, vs.set i (.int x))) := List.getElem?_set_self (List.getElem?_eq_some_iff.mp h).1
    rw [sg_obj h1, sg_obj h]
    by_cases hy : y = i
    · subst hy
      rw [List.getElem?_set_self hi, if_pos ⟨rfl, rfl⟩]
    · rw [List.getElem?_set_ne (Ne.symm hy), if_neg (fun h => hy h.2)]
  · rw [sg_ne hk, if_neg (fun h => hk h.1)]
theorem sg_cpy {ws : va_W} {j0 j1 a0 a1 : Nat} {cA cB : ClassId} {n0 n1 n : Nat} {f g : Nat → Int32} (h0 : ws[j0]? = some (a0, .inl (cA, n0, .inl f))) (h1 : ws[j1]? = some (a1, .inl (cB, n1, .inl g))) (hn0 : n ≤ n0) (hn1 : n ≤ n1) : sg (ws.set j1 (a1, .inl (cB, n1, .inl (va_cpy f g 0 0 n)))) = pKp (sg ws) j0 j1 n := by
  funext k y
  unfold pKp
  by_cases hk : k = j1
  · subst hk
    have h2 : (ws.set k (a1, .inl (cB, n1, .inl (va_cpy f g 0 0 n))))[k]? = some (a1, .inl (cB, n1, .inl (va_cpy f g 0 0 n))) := List.getElem?_set_self (List.getElem?_eq_some_iff.mp h1).1
    rw [sg_arr h2, sg_arr h0, sg_arr h1]
    by_cases hy : y < n
    · rw [pk_cpy_in (Nat.zero_le _) (by omega), if_pos (by omega), if_pos ⟨rfl, hy⟩, if_pos (by omega)]
      simp
    · rw [pk_cpy_out (Or.inr (by omega)), if_neg (c := k = k ∧ y < n) (fun h => hy h.2)]
  · rw [sg_ne hk, if_neg (fun h => hk h.1)]
/-- the world's types with the bounds left out -/
def pf_V (ty : FieldType) (a : en_V) : en_V := match a with
  | .inl _ => .inl (match ty with
    | .boolean => (0, 1)
    | _ => en_full)
  | .inr k => .inr k
def pf_L (ci : Nat) : Nat → List en_V → List en_V
  | _, [] => []
  | i, a :: as => pf_V (en_tyX ci i) a :: pf_L ci (i + 1) as
def pf_c (t : en_C) : en_C := match t with
  | .inl q => (match q.1 with
    | 0 => .inl (0, q.2.1, en_full)
    | 1 => .inl (1, q.2.1, 0, 1)
    | 2 => .inl (2, q.2.1, -128, 127)
    | _ => .inl q)
  | .inr q => .inr (q.1, pf_L q.1 0 q.2)
def tF : en_T := tQ.map pf_c
theorem pe_i {N : Nat} {ad : Nat → Nat} {x : Int32} {a : Int} (h : x.toInt = a) : en_v N ad (pe (.inl a)) (.int x) := ⟨x, rfl, by dsimp only; omega, by dsimp only; omega⟩
theorem pe_iE {N : Nat} {ad : Nat → Nat} {x : Value} {a : Int} (h : en_v N ad (pe (.inl a)) x) : ∃ i : Int32, x = .int i ∧ i.toInt = a := by
  obtain ⟨i, h1, h2, h3⟩ := h
  exact ⟨i, h1, by dsimp only at h2 h3; omega⟩
theorem pe_r {N : Nat} {ad : Nat → Nat} {k : Nat} (h : k < N) : en_v N ad (pe (.inr k)) (.ref (ad k)) := ⟨rfl, h⟩
theorem pe_rE {N : Nat} {ad : Nat → Nat} {x : Value} {k : Nat} (h : en_v N ad (pe (.inr k)) x) : x = .ref (ad k) ∧ k < N := h
theorem pe_s {N : Nat} {ad : Nat → Nat} {a : pV} {S : List pV} {xs : List Value} (h : en_vs N ad ((a :: S).map pe) xs) : ∃ x ys, xs = x :: ys ∧ en_v N ad (pe a) x ∧ en_vs N ad (S.map pe) ys := by
  cases xs with
  | nil => exact h.elim
  | cons x ys => exact ⟨x, ys, rfl, h.1, h.2⟩
theorem pe_0 {N : Nat} {ad : Nat → Nat} {xs : List Value} (h : en_vs N ad (([] : List pV).map pe) xs) : xs = [] := by
  cases xs with
  | nil => rfl
  | cons x ys => exact h.elim
theorem pe_len {N : Nat} {ad : Nat → Nat} {S : List pV} {xs : List Value} (h : en_vs N ad (S.map pe) xs) : (xs.map fun v => v.category).sum = S.length := by
  rw [en_vs_cat h, List.length_map]
theorem pe_app {N : Nat} {ad : Nat → Nat} {A S : List pV} {xs : List Value} (h : en_vs N ad ((A ++ S).map pe) xs) : ∃ us ys, xs = us ++ ys ∧ en_vs N ad (A.map pe) us ∧ en_vs N ad (S.map pe) ys := by
  rw [List.map_append] at h
  exact en_vs_app h
def px_rm (fr : Nat) : Room := { frames := fr, cells := 0, slots := 0, locals := 100 * fr }
def px_qc (D : va_G) (tys : List (ClassId × FieldType)) (b0 : Nat) (ad : Nat → Nat) (v : Int) (σ : pS) (rt : Bool) : Array Value → State → Outcome → State → Prop := match rt with
  | true => va_Qi (S := va_W) (fun x w => ev_w tys tF ad w ∧ sg w = σ ∧ x.toInt = v) (fun w t => va_P D vwCl w t.heap ∧ va_D (fun q => b0 ≤ q) w) (fun q => b0 ≤ q)
  | false => va_Qv (S := va_W) (fun w => ev_w tys tF ad w ∧ sg w = σ) (fun w t => va_P D vwCl w t.heap ∧ va_D (fun q => b0 ≤ q) w) (fun q => b0 ≤ q)
/-- a call's exact contract: with these arguments over this store it comes back with v and the store σ' -/
def Con (l : Launch) (fr mi : Nat) (as : List pV) (σ : pS) (v : Int) (σ' : pS) : Prop := ∀ r, en_ms[mi]? = some r → ∀ (D : va_G) (tys : List (ClassId × FieldType)) (aK aV b0 : Nat) (ad : Nat → Nat) (w0 : va_W) (vs : List Value), en_vs tF.length ad (as.map pe) vs → ev_w tys tF ad w0 → sg w0 = σ →
  Met l r.1 (Cond.code r.1 r.2.1 r.2.2.1 r.2.2.2 :: en_ws) (px_rm fr) (ek_pc D tys aK aV b0 w0 vs) (px_qc D tys b0 ad v σ' r.2.2.2.isSome) 0 0 (fun q => b0 ≤ q)
def px_at (s : State) (D : va_G) (tys : List (ClassId × FieldType)) (b0 nL : Nat) (ad : Nat → Nat) (L : pL) (S : List pV) (σ : pS) (H : Heap) (locs : List Loc) (ls : Array Slot) (stk : List Value) (ws : va_W) : Prop :=
  (ls.size = nL ∧ lv_wf ls ∧ L.length = nL) ∧ (∀ (i : Nat) (a : pV), L[i]? = some (some a) → ∃ x : Value, ls[i]? = some (.val x) ∧ en_v tF.length ad (pe a) x) ∧ en_vs tF.length ad (S.map pe) stk ∧ ev_w tys tF ad ws ∧ sg ws = σ ∧ va_P D vwCl ws H ∧ va_D (fun q => b0 ≤ q) ws ∧ va_S (fun q => b0 ≤ q) s.heap H locs
def px_go (p : Program) (l : Launch) (e : Env) (R : Room) (s : State) (m : MethodId) (args : Array Value) (below : List Frame) (meth : Method) (c : Code) (Q : State → Prop) (D : va_G) (tys : List (ClassId × FieldType)) (b0 nL : Nat) (ad : Nat → Nat) (pc : Nat) (L : pL) (S : List pV) (σ : pS) : Prop :=
  ∀ (H : Heap) (locs : List Loc) (ls : Array Slot) (stk : List Value) (ws : va_W), px_at s D tys b0 nL ad L S σ H locs ls stk ws → W p l e R s m args below meth c H locs 0 0 Q (F0 m pc ls stk)
/-- a switch: by the pairs, in their order -/
def px_sw (a : Int) (G : Nat → Prop) (d : Nat) : List (Int × Nat) → Prop
  | [] => G d
  | q :: r => (a = q.1 → G q.2) ∧ (a ≠ q.1 → px_sw a G d r)
def px_tg (a : Int) (d : Nat) : List (Int × Nat) → Nat
  | [] => d
  | q :: r => if a = q.1 then q.2 else px_tg a d r
theorem px_sw_tg {a : Int} {G : Nat → Prop} {d : Nat} : ∀ {ps : List (Int × Nat)}, px_sw a G d ps → G (px_tg a d ps)
  | [], h => h
  | q :: r, h => by
    unfold px_tg
    by_cases hq : a = q.1
    · rw [if_pos hq]
      exact h.1 hq
    · rw [if_neg hq]
      exact px_sw_tg (h.2 hq)
def px_if (b : Bool) (P : Prop) : Prop := match b with
  | true => P
  | false => False
theorem px_ifE {b : Bool} {P : Prop} (h : px_if b P) : b = true ∧ P := by
  cases b with
  | true => exact ⟨rfl, h⟩
  | false => exact h.elim
/-- what must hold for an instruction, so that what is behind it holds -/
def px_w0 (z : Int) (nx : Nat) (L : pL) (S : List pV) (σ : pS) (k : Nat → pL → List pV → pS → Prop) : Prop := k nx L (.inl z :: S) σ
def px_w1 (a : Nat) (nx : Nat) (L : pL) (S : List pV) (σ : pS) (k : Nat → pL → List pV → pS → Prop) : Prop := match L[a]? with
    | some (some (.inl v)) => k nx L (.inl v :: S) σ
    | _ => False
def px_w2 (a : Nat) (nx : Nat) (L : pL) (S : List pV) (σ : pS) (k : Nat → pL → List pV → pS → Prop) : Prop := match L[a]? with
    | some (some (.inr j)) => k nx L (.inr j :: S) σ
    | _ => False
def px_w3 (a : Nat) (nx : Nat) (L : pL) (S : List pV) (σ : pS) (k : Nat → pL → List pV → pS → Prop) : Prop := match S with
    | .inl v :: S' => k nx (L.set a (some (.inl v))) S' σ
    | _ => False
def px_w4 (a : Nat) (nx : Nat) (L : pL) (S : List pV) (σ : pS) (k : Nat → pL → List pV → pS → Prop) : Prop := match S with
    | .inr j :: S' => k nx (L.set a (some (.inr j))) S' σ
    | _ => False
def px_w5 (a : Nat) (z : Int) (nx : Nat) (L : pL) (S : List pV) (σ : pS) (k : Nat → pL → List pV → pS → Prop) : Prop := match L[a]? with
    | some (some (.inl v)) => k nx (L.set a (some (.inl (pw (v + z))))) S σ
    | _ => False
def px_w6 (a : Nat) (nx : Nat) (L : pL) (S : List pV) (σ : pS) (k : Nat → pL → List pV → pS → Prop) : Prop := match S with
    | .inl y :: .inl x :: S' => k nx L (.inl (pB a x y) :: S') σ
    | _ => False
def px_w7 (a : Nat) (nx : Nat) (L : pL) (S : List pV) (σ : pS) (k : Nat → pL → List pV → pS → Prop) : Prop := match S with
    | .inl y :: .inl x :: S' => y ≠ 0 ∧ ∀ r : Int, r = px_dr a x y → k nx L (.inl r :: S') σ
    | _ => False
def px_w8 (a : Nat) (nx : Nat) (L : pL) (S : List pV) (σ : pS) (k : Nat → pL → List pV → pS → Prop) : Prop := match S with
    | .inl x :: S' => k nx L (.inl (px_ib a x) :: S') σ
    | _ => False
def px_w9 (nx : Nat) (L : pL) (S : List pV) (σ : pS) (k : Nat → pL → List pV → pS → Prop) : Prop := match S with
    | x :: S' => k nx L (x :: x :: S') σ
    | _ => False
def px_w10 (nx : Nat) (L : pL) (S : List pV) (σ : pS) (k : Nat → pL → List pV → pS → Prop) : Prop := match S with
    | x :: y :: S' => k nx L (x :: y :: x :: y :: S') σ
    | _ => False
def px_w11 (nx : Nat) (L : pL) (S : List pV) (σ : pS) (k : Nat → pL → List pV → pS → Prop) : Prop := match S with
    | _ :: S' => k nx L S' σ
    | _ => False
def px_w12 (b : Nat) (L : pL) (S : List pV) (σ : pS) (k : Nat → pL → List pV → pS → Prop) : Prop := k b L S σ
def px_w13 (G : Nat → pL → List pV → pS → Prop) (a : Nat) (b : Nat) (nx : Nat) (L : pL) (S : List pV) (σ : pS) (k : Nat → pL → List pV → pS → Prop) : Prop := match S with
    | .inl y :: .inl x :: S' => (pCd a x y → G b L S' σ) ∧ (¬ pCd a x y → k nx L S' σ)
    | _ => False
def px_w14 (G : Nat → pL → List pV → pS → Prop) (a : Nat) (b : Nat) (nx : Nat) (L : pL) (S : List pV) (σ : pS) (k : Nat → pL → List pV → pS → Prop) : Prop := match S with
    | .inl x :: S' => (pCd a x 0 → G b L S' σ) ∧ (¬ pCd a x 0 → k nx L S' σ)
    | _ => False
def px_w15 (G : Nat → pL → List pV → pS → Prop) (b : Nat) (ps : List (Int × Nat)) (L : pL) (S : List pV) (σ : pS) : Prop := match S with
    | .inl x :: S' => px_sw x (fun pc => G pc L S' σ) b ps
    | _ => False
def px_w16 (a : Nat) (b : Nat) (nx : Nat) (L : pL) (S : List pV) (σ : pS) (k : Nat → pL → List pV → pS → Prop) : Prop := match S with
    | .inr j :: S' => px_if (decide (j = a)) (k nx L (.inl (σ a b) :: S') σ)
    | _ => False
def px_w17 (a : Nat) (b : Nat) (nx : Nat) (L : pL) (S : List pV) (σ : pS) (k : Nat → pL → List pV → pS → Prop) : Prop := match S with
    | .inr j :: S' => px_if (decide (j = a)) (k nx L (.inr b :: S') σ)
    | _ => False
def px_w18 (a : Nat) (b : Nat) (z : Int) (nx : Nat) (L : pL) (S : List pV) (σ : pS) (k : Nat → pL → List pV → pS → Prop) : Prop := match S with
    | .inl v :: .inr j :: S' => px_if (decide (j = a)) (match z with
      | .ofNat 0 => k nx L S' (pU σ a b v)
      | _ => (0 ≤ v ∧ v ≤ 1) ∧ k nx L S' (pU σ a b v))
    | _ => False
def px_w19 (a : Nat) (b : Nat) (nx : Nat) (L : pL) (S : List pV) (σ : pS) (k : Nat → pL → List pV → pS → Prop) : Prop := match S with
    | .inl i :: .inr j :: S' => px_if (decide (j = a)) ((0 ≤ i ∧ i < b) ∧ k nx L (.inl (σ a i.toNat) :: S') σ)
    | _ => False
def px_w20 (a : Nat) (b : Nat) (z : Int) (nx : Nat) (L : pL) (S : List pV) (σ : pS) (k : Nat → pL → List pV → pS → Prop) : Prop := match S with
    | .inl v :: .inl i :: .inr j :: S' => px_if (decide (j = a)) ((0 ≤ i ∧ i < b) ∧ (match z with
      | .ofNat 0 => k nx L S' (pU σ a i.toNat v)
      | .ofNat 1 => (0 ≤ v ∧ v ≤ 1) ∧ k nx L S' (pU σ a i.toNat v)
      | _ => (-128 ≤ v ∧ v ≤ 127) ∧ k nx L S' (pU σ a i.toNat v)))
    | _ => False
def px_w21 (a : Nat) (b : Nat) (nx : Nat) (L : pL) (S : List pV) (σ : pS) (k : Nat → pL → List pV → pS → Prop) : Prop := match S with
    | .inr j :: S' => px_if (decide (j = a)) (k nx L (.inl (b : Int) :: S') σ)
    | _ => False
def px_w22 (a : Nat) (b : Nat) (z : Int) (nx : Nat) (L : pL) (S : List pV) (σ : pS) (k : Nat → pL → List pV → pS → Prop) : Prop := match S with
    | .inl i :: .inr j :: S' => px_if (decide (j = a)) ((0 ≤ i ∧ i < b) ∧ ∀ q : Nat, q < b → i = (q : Int) → k nx L (.inr (z.toNat + q) :: S') σ)
    | _ => False
def px_w23 (l : Launch) (fr : Nat) (a : Nat) (b : Nat) (z : Int) (ps : List (Int × Nat)) (nx : Nat) (L : pL) (S : List pV) (σ : pS) (k : Nat → pL → List pV → pS → Prop) : Prop := match S.drop b with
    | .inr j :: S' => px_if (decide (ps = [(0, j)] ∧ (S.take b).length = b ∧ S'.length ≤ 8)) (∃ (f' : Nat) (v : Int) (σ' : pS), f' + 1 ≤ fr ∧ Con l f' a (.inr j :: (S.take b).reverse) σ v σ' ∧ k nx L (px_rs z v S') σ')
    | _ => False
def px_w24 (l : Launch) (fr : Nat) (a : Nat) (b : Nat) (z : Int) (nx : Nat) (L : pL) (S : List pV) (σ : pS) (k : Nat → pL → List pV → pS → Prop) : Prop := px_if (decide ((S.take b).length = b ∧ (S.drop b).length ≤ 8)) (∃ (f' : Nat) (v : Int) (σ' : pS), f' + 1 ≤ fr ∧ Con l f' a (S.take b).reverse σ v σ' ∧ k nx L (px_rs z v (S.drop b)) σ')
def px_w25 (fr a : Nat) (nx : Nat) (L : pL) (S : List pV) (σ : pS) (k : Nat → pL → List pV → pS → Prop) : Prop := match S with
    | .inl y :: .inl x :: S' => px_if (decide (1 ≤ fr ∧ S'.length ≤ 8)) (k nx L (.inl (px_mm a x y) :: S') σ)
    | _ => False
def px_w26 (fr a : Nat) (b : Nat) (z : Int) (nx : Nat) (L : pL) (S : List pV) (σ : pS) (k : Nat → pL → List pV → pS → Prop) : Prop := match S with
    | .inl q :: .inl d :: .inr j1 :: .inl u :: .inr j0 :: S' => px_if (decide ((q = z ∧ d = 0 ∧ j1 = b ∧ u = 0 ∧ j0 = a) ∧ 1 ≤ fr ∧ S'.length ≤ 8)) (k nx L S' (pKp σ a b z.toNat))
    | _ => False
def px_w27 (rv : Int) (rσ : pS) (a : Nat) (S : List pV) (σ : pS) : Prop := match S with
    | .inl v :: [] => (match a with
      | 0 => v = rv ∧ σ = rσ
      | _ => (0 ≤ v ∧ v ≤ 1) ∧ v = rv ∧ σ = rσ)
    | _ => False
def px_w28 (rσ : pS) (S : List pV) (σ : pS) : Prop := match S with
    | [] => σ = rσ
    | _ => False
def px_w29 (a : Nat) (nx : Nat) (L : pL) (S : List pV) (σ : pS) (k : Nat → pL → List pV → pS → Prop) : Prop := k nx (L.set a none) S σ
def px_w30 (fr : Nat) (nx : Nat) (L : pL) (S : List pV) (σ : pS) (k : Nat → pL → List pV → pS → Prop) : Prop := match S with
    | [] => (match L[(3 : Nat)]? with
      | some (some (.inl x)) => 4 ≤ fr ∧ (0 ≤ x ∧ x ≤ 255) ∧ k nx L [.inl (pIdx x)] σ
      | _ => False)
    | _ => False
def px_w (l : Launch) (fr : Nat) (rv : Int) (rσ : pS) (G : Nat → pL → List pV → pS → Prop) (n a b : Nat) (z : Int) (ps : List (Int × Nat)) (nx : Nat) (L : pL) (S : List pV) (σ : pS) (k : Nat → pL → List pV → pS → Prop) : Prop := match n with
  | 0 => px_w0 z nx L S σ k
  | 1 => px_w1 a nx L S σ k
  | 2 => px_w2 a nx L S σ k
  | 3 => px_w3 a nx L S σ k
  | 4 => px_w4 a nx L S σ k
  | 5 => px_w5 a z nx L S σ k
  | 6 => px_w6 a nx L S σ k
  | 7 => px_w7 a nx L S σ k
  | 8 => px_w8 a nx L S σ k
  | 9 => px_w9 nx L S σ k
  | 10 => px_w10 nx L S σ k
  | 11 => px_w11 nx L S σ k
  | 12 => px_w12 b L S σ k
  | 13 => px_w13 G a b nx L S σ k
  | 14 => px_w14 G a b nx L S σ k
  | 15 => px_w15 G b ps L S σ
  | 16 => px_w16 a b nx L S σ k
  | 17 => px_w17 a b nx L S σ k
  | 18 => px_w18 a b z nx L S σ k
  | 19 => px_w19 a b nx L S σ k
  | 20 => px_w20 a b z nx L S σ k
  | 21 => px_w21 a b nx L S σ k
  | 22 => px_w22 a b z nx L S σ k
  | 23 => px_w23 l fr a b z ps nx L S σ k
  | 24 => px_w24 l fr a b z nx L S σ k
  | 25 => px_w25 fr a nx L S σ k
  | 26 => px_w26 fr a b z nx L S σ k
  | 27 => px_w27 rv rσ a S σ
  | 28 => px_w28 rσ S σ
  | 29 => px_w29 a nx L S σ k
  | 30 => px_w30 fr nx L S σ k
  | _ => False
def px_wp (l : Launch) (fr : Nat) (rv : Int) (rσ : pS) (G : Nat → pL → List pV → pS → Prop) : List (pI × Nat) → Nat → pL → List pV → pS → Prop
  | [], pc, L, S, σ => G pc L S σ
  | (q, len) :: is, pc, L, S, σ => px_w l fr rv rσ G q.1 q.2.1 q.2.2.1 q.2.2.2.1 q.2.2.2.2 (pc + len) L S σ (px_wp l fr rv rσ G is)
