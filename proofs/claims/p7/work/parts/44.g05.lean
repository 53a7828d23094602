abbrev en_K : Type := Nat × List en_V × en_T × Option en_V × en_T × Nat × Nat × Nat × Nat
def k_T0 (κ : en_K) : en_T := κ.2.2.1
def k_rv (κ : en_K) : Option en_V := κ.2.2.2.1
def k_T1 (κ : en_K) : en_T := κ.2.2.2.2.1
def k_fr (κ : en_K) : Nat := κ.2.2.2.2.2.1
def k_lo (κ : en_K) : Nat := κ.2.2.2.2.2.2.1
def k_mc (κ : en_K) : Nat := κ.2.2.2.2.2.2.2.1
def k_ms (κ : en_K) : Nat := κ.2.2.2.2.2.2.2.2
def en_rm (κ : en_K) : Room := { frames := k_fr κ, cells := k_mc κ, slots := k_ms κ, locals := k_lo κ }
def en_tok (tys : List (ClassId × FieldType)) : Prop := (∀ t, t < 3 → ∃ cA : ClassId, tys[t]? = some (cA, en_ty t)) ∧ ∃ cA : ClassId, tys[3]? = some (cA, .array .int)
def en_pc (D : va_G) (tys : List (ClassId × FieldType)) (aK aV b0 : Nat) (T : en_T) (ad : Nat → Nat) (as : List Value) : Array Value → State → Prop := va_Pc as (fun U => b0 ≤ U.heap.size ∧ eg_W D tys (fun q => b0 ≤ q) T ad U.heap ∧ va_K D vwCl tys U ∧ en_X b0 aK aV U)
def en_qc (D : va_G) (tys : List (ClassId × FieldType)) (b0 N0 : Nat) (ad : Nat → Nat) (rv : Option en_V) (T1 : en_T) : Array Value → State → Outcome → State → Prop := match rv with
  | some r => va_Qi (S := Nat → Nat) (fun x ad' => en_v T1.length ad' r (.int x) ∧ N0 ≤ T1.length ∧ ∀ k, k < N0 → ad' k = ad k) (fun ad' t => eg_W D tys (fun q => b0 ≤ q) T1 ad' t.heap) (fun q => b0 ≤ q)
  | none => va_Qv (S := Nat → Nat) (fun ad' => N0 ≤ T1.length ∧ ∀ k, k < N0 → ad' k = ad k) (fun ad' t => eg_W D tys (fun q => b0 ≤ q) T1 ad' t.heap) (fun q => b0 ≤ q)
def en_ok (l : Launch) (κ : en_K) : Prop := ∀ r, en_ms[κ.1]? = some r → ∀ (D : va_G) (tys : List (ClassId × FieldType)) (aK aV b0 : Nat), en_tok tys → ∀ (as : List Value) (ad : Nat → Nat), en_vs (k_T0 κ).length ad κ.2.1 as →
  Met l r.1 (Cond.code r.1 r.2.1 r.2.2.1 r.2.2.2 :: en_ws) (en_rm κ) (en_pc D tys aK aV b0 (k_T0 κ) ad as) (en_qc D tys b0 (k_T0 κ).length ad (k_rv κ) (k_T1 κ)) (k_mc κ) (k_ms κ) (fun q => b0 ≤ q)
theorem en_pc_blind {D : va_G} {tys : List (ClassId × FieldType)} {aK aV b0 : Nat} {T : en_T} {ad : Nat → Nat} {as : List Value} : FrameBlind (en_pc D tys aK aV b0 T ad as) := by
  intro a U g mk h
  obtain ⟨h1, h2, h3, h4, h5⟩ := h
  exact ⟨h1, h2, h3, va_K.moved (u := U) (U := U.calling g mk a) (Vm.Alike.refl U.vm) h4, h5.call⟩
def en_br (b : Bool × Bool) (t f : en_S) : List en_S := match b with
  | (true, true) => [t, f]
  | (true, false) => [t]
  | (false, true) => [f]
  | (false, false) => []
theorem en_br_t {b : Bool × Bool} {t f : en_S} (h : b.1 = true) : t ∈ en_br b t f := by
  obtain ⟨b1, b2⟩ := b
  cases h
  cases b2 <;> simp [en_br]
theorem en_br_f {b : Bool × Bool} {t f : en_S} (h : b.2 = true) : f ∈ en_br b t f := by
  obtain ⟨b1, b2⟩ := b
  cases h
  cases b1 <;> simp [en_br]
