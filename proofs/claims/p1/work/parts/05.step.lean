def en_ws : List Cond := lw_tbl.filter goodWord
theorem en_ws_in {w : Cond} (h : w ∈ lw_tbl) (hg : goodWord w = true) : w ∈ en_ws := List.mem_filter.mpr ⟨h, hg⟩
theorem en_ws_good (big : List Cond) (h : ∀ w ∈ en_ws, w ∈ big) : GoodIn big en_ws := fun w hw => ⟨h w hw, good_of_word (List.mem_filter.mp hw).2⟩
def en_X (b0 aK aV : Nat) (U : State) : Prop := (∀ w ∈ en_nest, va_Nw w U) ∧ vk_R "LoadsAhead$Law" 27 "ikcsnrw" aK U ∧ vk_S 1 [7] [[105, 107, 99, 115, 110, 114, 119]] (fun _ => aK) (fun _ => aV) (fun q => b0 ≤ q) U U.heap ∧ va_Z "java/lang/String" "COMPACT_STRINGS" "Z" (.int 1) (fun q => b0 ≤ q) U U.heap ∧ (Cond.arrayOver (.array .int)).before #[] U = true
theorem en_nest_w {w : Cond} (h : w ∈ en_nest) : ∃ (a : String) (i : Nat) (x : MethodName) (t : String), w = .methodLinkNest a i x t := by
  unfold en_nest at h
  obtain ⟨q, -, hq⟩ := List.mem_flatMap.mp h
  split at hq
  · rw [List.mem_singleton] at hq
    exact ⟨_, _, _, _, hq⟩
  · exact absurd hq List.not_mem_nil
theorem en_X.call {b0 aK aV : Nat} {U : State} {g : JFrame} {mk : MethodId} {a : Array Value} (h : en_X b0 aK aV U) : en_X b0 aK aV (U.calling g mk a) := by
  obtain ⟨h1, h2, h3, h4, h5⟩ := h
  refine ⟨fun w hw => ?_, vk_R.same rfl h2, ?_, ?_, over_moved (u := U) (Vm.Alike.refl U.vm) h5⟩
  · obtain ⟨a0, i, x, t, e⟩ := en_nest_w hw
    subst e
    exact va_Nw.same (u := U) rfl rfl (h1 _ hw)
  · exact vk_S.moved (u := U) (Vm.Alike.refl U.vm) h3
  · exact va_Z.moved (u := U) (Vm.Alike.refl U.vm) h4
theorem en_X.go {b0 b1 aK aV : Nat} {s U : State} {H : Heap} {locs : List Loc} (hb : b0 ≤ b1) (h : en_X b0 aK aV s) (hS : va_S (fun q => b0 ≤ q) s.heap H locs) (hU : U.heap = H) (hW : s.WarmedH U.vm) : en_X b1 aK aV U := by
  obtain ⟨h1, h2, h3, h4, h5⟩ := h
  refine ⟨fun w hw => ?_, vk_R.warm hW h2, ?_, ?_, over_moved hW.alike h5⟩
  · obtain ⟨a0, i, x, t, e⟩ := en_nest_w hw
    subst e
    exact va_Nw.warmM hW (h1 _ hw)
  · rw [hU]
    exact ((h3.kept hS.2.1).moved hW.alike).narrow (fun q hq => Nat.le_trans hb hq)
  · rw [hU]
    exact ((h4.kept hS.2.1).moved hW.alike).narrow (fun q hq => Nat.le_trans hb hq)
abbrev en_K : Type := Nat × List en_V × en_T × Option en_V × en_T × Nat × Nat × Nat × Nat
def k_T0 (κ : en_K) : en_T := κ.2.2.1
def k_rv (κ : en_K) : Option en_V := κ.2.2.2.1
def k_T1 (κ : en_K) : en_T := κ.2.2.2.2.1
def k_fr (κ : en_K) : Nat := κ.2.2.2.2.2.1
def k_lo (κ : en_K) : Nat := κ.2.2.2.2.2.2.1
def k_mc (κ : en_K) : Nat := κ.2.2.2.2.2.2.2.1
def k_ms (κ : en_K) : Nat := κ.2.2.2.2.2.2.2.2
def en_rm (κ : en_K) : Room := { frames := k_fr κ, cells := k_mc κ, slots := k_ms κ, locals := k_lo κ }
def en_tok (tys : List (ClassId × FieldType)) : Prop := ∀ t, t < 3 → ∃ cA : ClassId, tys[t]? = some (cA, en_ty t)
def en_pc (D : va_G) (tys : List (ClassId × FieldType)) (aK aV b0 : Nat) (T : en_T) (ad : Nat → Nat) (as : List Value) : Array Value → State → Prop := va_Pc as (fun U => b0 ≤ U.heap.size ∧ en_W D tys (fun q => b0 ≤ q) T ad U.heap ∧ va_K D vwCl tys U ∧ en_X b0 aK aV U)
def en_qc (D : va_G) (tys : List (ClassId × FieldType)) (b0 N0 : Nat) (ad : Nat → Nat) (rv : Option en_V) (T1 : en_T) : Array Value → State → Outcome → State → Prop := match rv with
  | some r => va_Qi (S := Nat → Nat) (fun x ad' => en_v T1.length ad' r (.int x) ∧ N0 ≤ T1.length ∧ ∀ k, k < N0 → ad' k = ad k) (fun ad' t => en_W D tys (fun q => b0 ≤ q) T1 ad' t.heap) (fun q => b0 ≤ q)
  | none => va_Qv (S := Nat → Nat) (fun ad' => N0 ≤ T1.length ∧ ∀ k, k < N0 → ad' k = ad k) (fun ad' t => en_W D tys (fun q => b0 ≤ q) T1 ad' t.heap) (fun q => b0 ≤ q)
def en_ok (l : Launch) (κ : en_K) : Prop := ∀ r, en_ms[κ.1]? = some r → ∀ (D : va_G) (tys : List (ClassId × FieldType)) (aK aV b0 : Nat), en_tok tys → ∀ (as : List Value) (ad : Nat → Nat), en_vs (k_T0 κ).length ad κ.2.1 as →
  Met l r.1 (Cond.code r.1 r.2.1 r.2.2.1 r.2.2.2 :: en_ws) (en_rm κ) (en_pc D tys aK aV b0 (k_T0 κ) ad as) (en_qc D tys b0 (k_T0 κ).length ad (k_rv κ) (k_T1 κ)) (k_mc κ) (k_ms κ) (fun q => b0 ≤ q)
theorem en_pc_blind {D : va_G} {tys : List (ClassId × FieldType)} {aK aV b0 : Nat} {T : en_T} {ad : Nat → Nat} {as : List Value} : FrameBlind (en_pc D tys aK aV b0 T ad as) := by
  intro a U g mk h
  obtain ⟨h1, h2, h3, h4, h5⟩ := h
  exact ⟨h1, h2, h3, va_K.moved (u := U) (U := U.calling g mk a) (Vm.Alike.refl U.vm) h4, h5.call⟩
def en_g {α : Type} (b : Bool) (x : Option α) : Option α := match b with
  | true => x
  | false => none
theorem en_g_some {α : Type} {b : Bool} {x : Option α} {y : α} (h : en_g b x = some y) : b = true ∧ x = some y := by
  cases b
  · cases h
  · exact ⟨rfl, h⟩
def en_find {β : Type} (o i : Nat) : List (Nat × Nat × β) → Option β
  | [] => none
  | q :: r => match q.1 == o && q.2.1 == i with
    | true => some q.2.2
    | false => en_find o i r
theorem en_find_mem {β : Type} {o i : Nat} {b : β} : ∀ {t : List (Nat × Nat × β)}, en_find o i t = some b → (o, i, b) ∈ t
  | [], h => by cases h
  | q :: r, h => by
    unfold en_find at h
    split at h
    · rename_i hq
      simp only [Bool.and_eq_true, beq_iff_eq] at hq
      cases h
      obtain ⟨h1, h2⟩ := hq
      subst h1
      subst h2
      exact List.mem_cons_self
    · exact List.mem_cons_of_mem _ (en_find_mem h)
def en_full : Int × Int := (-2147483648, 2147483647)
def en_clip (a b : Int) : Int × Int := match decide (-2147483648 ≤ a) && decide (b ≤ 2147483647) with
  | true => (a, b)
  | false => en_full
def en_add (q r : Int × Int) : Int × Int := en_clip (q.1 + r.1) (q.2 + r.2)
def en_sub (q r : Int × Int) : Int × Int := en_clip (q.1 - r.2) (q.2 - r.1)
def en_mul (q r : Int × Int) : Int × Int := match decide (0 ≤ q.1) && decide (0 ≤ r.1) with
  | true => en_clip (q.1 * r.1) (q.2 * r.2)
  | false => en_full
def en_and (q r : Int × Int) : Int × Int := match decide (0 ≤ r.1) with
  | true => (0, r.2)
  | false => match decide (0 ≤ q.1) with
    | true => (0, q.2)
    | false => en_full
def en_in (q : Int × Int) (x : Int32) : Prop := q.1 ≤ x.toInt ∧ x.toInt ≤ q.2
theorem en_full_in (x : Int32) : en_in en_full x := by
  have := fb_rng x
  exact ⟨this.1, by show x.toInt ≤ 2147483647; omega⟩
theorem en_add_in {q r : Int × Int} {x y : Int32} (hx : en_in q x) (hy : en_in r y) : en_in (en_add q r) (x + y) := by
  unfold en_add en_clip
  split
  · rename_i h
    simp only [Bool.and_eq_true, decide_eq_true_eq] at h
    obtain ⟨h1, h2⟩ := hx
    obtain ⟨h3, h4⟩ := hy
    have e := fb_addI (x := x) (y := y) (by omega) (by omega)
    exact ⟨by rw [e]; show q.1 + r.1 ≤ _; omega, by rw [e]; show _ ≤ q.2 + r.2; omega⟩
  · exact en_full_in _
theorem en_sub_in {q r : Int × Int} {x y : Int32} (hx : en_in q x) (hy : en_in r y) : en_in (en_sub q r) (x - y) := by
  unfold en_sub en_clip
  split
  · rename_i h
    simp only [Bool.and_eq_true, decide_eq_true_eq] at h
    obtain ⟨h1, h2⟩ := hx
    obtain ⟨h3, h4⟩ := hy
    have e := fb_subI (x := x) (y := y) (by omega) (by omega)
    exact ⟨by rw [e]; show q.1 - r.2 ≤ _; omega, by rw [e]; show _ ≤ q.2 - r.1; omega⟩
  · exact en_full_in _
theorem en_mul_in {q r : Int × Int} {x y : Int32} (hx : en_in q x) (hy : en_in r y) : en_in (en_mul q r) (x * y) := by
  unfold en_mul en_clip
  split
  · rename_i h0
    split
    · rename_i h
      simp only [Bool.and_eq_true, decide_eq_true_eq] at h h0
      obtain ⟨h1, h2⟩ := hx
      obtain ⟨h3, h4⟩ := hy
      have a1 : q.1 * r.1 ≤ x.toInt * y.toInt := Int.mul_le_mul h1 h3 h0.2 (Int.le_trans h0.1 h1)
      have a2 : x.toInt * y.toInt ≤ q.2 * r.2 := Int.mul_le_mul h2 h4 (Int.le_trans h0.2 h3) (Int.le_trans (Int.le_trans h0.1 h1) h2)
      have e := fb_mulI (x := x) (y := y) (by omega) (by omega)
      exact ⟨by rw [e]; exact a1, by rw [e]; exact a2⟩
    · exact en_full_in _
  · exact en_full_in _
theorem en_and_r (x y : Int32) (h : 0 ≤ y.toInt) : 0 ≤ (x &&& y).toInt ∧ (x &&& y).toInt ≤ y.toInt := by
  have e : (x &&& y).toBitVec = x.toBitVec &&& y.toBitVec := rfl
  have hy : y.toInt = (y.toBitVec.toNat : Int) := by
    have h1 : y.toInt = y.toBitVec.toInt := rfl
    rw [h1, BitVec.toInt_eq_toNat_cond] at h ⊢
    split at h
    · rename_i h2
      rw [if_pos h2]
    · have := y.toBitVec.isLt
      omega
  have hle : (x &&& y).toBitVec.toNat ≤ y.toBitVec.toNat := by
    rw [e, BitVec.toNat_and]
    exact Nat.and_le_right
  have hylt : 2 * y.toBitVec.toNat < 2 ^ 32 := by
    have := fb_rng y
    omega
  have h2 : (x &&& y).toInt = ((x &&& y).toBitVec.toNat : Int) := by
    show (x &&& y).toBitVec.toInt = _
    rw [BitVec.toInt_eq_toNat_cond, if_pos (by omega)]
  rw [h2, hy]
  omega
theorem en_and_in {q r : Int × Int} {x y : Int32} (hx : en_in q x) (hy : en_in r y) : en_in (en_and q r) (x &&& y) := by
  obtain ⟨h1, h2⟩ := hx
  obtain ⟨h3, h4⟩ := hy
  unfold en_and
  split
  · rename_i h
    simp only [decide_eq_true_eq] at h
    have := en_and_r x y (by omega)
    exact ⟨this.1, by show _ ≤ r.2; omega⟩
  · split
    · rename_i h
      simp only [decide_eq_true_eq] at h
      have := en_and_r y x (by omega)
      rw [Int32.and_comm] at this
      exact ⟨this.1, by show _ ≤ q.2; omega⟩
    · exact en_full_in _
theorem en_i2b_in (x : Int32) : en_in (-128, 127) (x.toInt8.toInt32) := by
  have e : (x.toInt8.toInt32).toInt = x.toInt8.toInt := by simp
  have h1 := x.toInt8.le_toInt
  have h2 := x.toInt8.toInt_lt
  exact ⟨by rw [e]; show -128 ≤ _; omega, by rw [e]; show _ ≤ 127; omega⟩
def en_may (cd : Jvm.ClassFile.Cond) (q r : Int × Int) : Bool × Bool := match cd with
  | .lt => (decide (q.1 < r.2), decide (r.1 ≤ q.2))
  | .ge => (decide (r.1 ≤ q.2), decide (q.1 < r.2))
  | .gt => (decide (r.1 < q.2), decide (q.1 ≤ r.2))
  | .le => (decide (q.1 ≤ r.2), decide (r.1 < q.2))
  | .eq => (decide (q.1 ≤ r.2) && decide (r.1 ≤ q.2), !(decide (q.1 = q.2) && decide (r.1 = r.2) && decide (q.1 = r.1)))
  | .ne => (!(decide (q.1 = q.2) && decide (r.1 = r.2) && decide (q.1 = r.1)), decide (q.1 ≤ r.2) && decide (r.1 ≤ q.2))
def en_br (b : Bool × Bool) (t f : en_S) : List en_S := match b with
  | (true, true) => [t, f]
  | (true, false) => [t]
  | (false, true) => [f]
  | (false, false) => []
theorem en_br_t {b : Bool × Bool} {t f : en_S} (h : b.1 = true) : t ∈ en_br b t f := by
  obtain ⟨b1, b2⟩ := b
  cases h
  cases b2 <;> simp [en_br]
theorem en_br_f {b : Bool × Bool} {t f : en_S} (h : b.2 = true) : f ∈ en_br b t f := by
  obtain ⟨b1, b2⟩ := b
  cases h
  cases b1 <;> simp [en_br]
def en_put (ty : FieldType) (a : en_V) : Bool := match ty, a with
  | .int, .inl _ => true
  | .boolean, .inl q => decide (0 ≤ q.1) && decide (q.2 ≤ 1)
  | .object _, .inr _ => true
  | .array _, .inr _ => true
  | _, _ => false
theorem en_put_ok {N : Nat} {ad : Nat → Nat} {ty : FieldType} {a : en_V} {x : Value} (h : en_put ty a = true) (hx : en_v N ad a x) : narrow ty x = x ∧ fits ty x = true := by
  unfold en_put at h
  split at h
  · obtain ⟨i, e, -⟩ := hx
    subst e
    exact ⟨rfl, rfl⟩
  · obtain ⟨i, e, h1, h2⟩ := hx
    subst e
    simp only [Bool.and_eq_true, decide_eq_true_eq] at h
    have hi : i = 0 ∨ i = 1 := by
      rcases (show i.toInt = 0 ∨ i.toInt = 1 by omega) with q | q
      · exact Or.inl ((fa_eq _ _).mpr q)
      · exact Or.inr ((fa_eq _ _).mpr q)
    rcases hi with rfl | rfl <;> exact ⟨rfl, rfl⟩
  · rcases en_v_r hx with rfl | ⟨a, rfl⟩ <;> exact ⟨rfl, rfl⟩
  · rcases en_v_r hx with rfl | ⟨a, rfl⟩ <;> exact ⟨rfl, rfl⟩
  · cases h
def en_dv (ty : FieldType) : en_V := match ty with
  | .object _ => .inr 1
  | .array _ => .inr 1
  | _ => .inl (0, 0)
def en_dok (ty : FieldType) : Bool := match ty with
  | .object _ => true
  | .array _ => true
  | .int => true
  | .boolean => true
  | _ => false
theorem en_dv_ok {N : Nat} {ad : Nat → Nat} {ty : FieldType} (h : en_dok ty = true) : en_v N ad (en_dv ty) (defaultValue ty) := by
  unfold en_dok at h
  split at h
  · exact rfl
  · exact rfl
  · exact ⟨0, rfl, by decide, by decide⟩
  · exact ⟨0, rfl, by decide, by decide⟩
  · cases h
def en_df (ci n : Nat) : List en_V := (List.range n).map (fun j => en_dv (en_tyX ci j))
