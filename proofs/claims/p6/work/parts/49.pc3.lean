/-- but at P nothing has changed -/
def FR (P : Nat → Nat → Prop) (σ σ' : pS) : Prop := ∀ k x, P k x ∨ σ' k x = σ k x
theorem FR.rf (P : Nat → Nat → Prop) (σ : pS) : FR P σ σ := fun _ _ => Or.inr rfl
theorem FR.tr {P : Nat → Nat → Prop} {a b c : pS} (h1 : FR P a b) (h2 : FR P b c) : FR P a c := fun k x => by
  rcases h1 k x with h | h
  · exact Or.inl h
  · rcases h2 k x with g | g
    · exact Or.inl g
    · exact Or.inr (g.trans h)
theorem FR.mono {P Q : Nat → Nat → Prop} {a b : pS} (h1 : FR P a b) (h : ∀ k x, P k x → Q k x) : FR Q a b := fun k x => (h1 k x).imp (h k x) id
theorem FR.get {P : Nat → Nat → Prop} {a b : pS} (h1 : FR P a b) {k x : Nat} (h : ¬ P k x) : b k x = a k x := (h1 k x).resolve_left h
theorem FR.u {P : Nat → Nat → Prop} {σ : pS} {j i : Nat} {v : Int} (h : P j i) : FR P σ (pU σ j i v) := fun k x => by
  by_cases hk : k = j ∧ x = i
  · exact Or.inl (by rw [hk.1, hk.2]; exact h)
  · exact Or.inr (if_neg hk)
theorem CO.fr {P : Nat → Nat → Prop} {a b : pS} (h : CO a b) (h1 : ∀ x, P 1 x) : FR P a b := fun k x => by
  by_cases hk : k = 1
  · exact Or.inl (by rw [hk]; exact h1 x)
  · exact Or.inr (h k x hk)
theorem MO.fr {P : Nat → Nat → Prop} {a b : pS} (h : MO a b) (h1 : P 84 19) (h2 : P 84 21) (h3 : P 84 22) : FR P a b := fun k x => by
  by_cases hk : k = 84
  · subst hk
    by_cases g1 : x = 19
    · exact Or.inl (g1 ▸ h1)
    · by_cases g2 : x = 21
      · exact Or.inl (g2 ▸ h2)
      · by_cases g3 : x = 22
        · exact Or.inl (g3 ▸ h3)
        · exact Or.inr (h.2 x g1 g2 g3)
  · exact Or.inr (h.1 k x hk)
section SP
variable {T : Nat → Int} {n : Int}
theorem TP.u {σ : pS} {p : Int} (h : TP σ T n p) {k : Nat} (i : Nat) (v : Int) (h1 : k ≠ 1) (h2 : k ≠ 2) : TP (pU σ k i v) T n p := by
  obtain ⟨a, b, c, d⟩ := h
  exact ⟨(pU_c _ _ _ _ h1.symm).trans a, (pU_c _ _ _ _ h1.symm).trans b, c, fun j hj => (pU_c _ _ _ _ h2.symm).trans (d j hj)⟩
theorem TM.u {τ : pS} {p : Int} (h : TM τ T n p) {k : Nat} (i : Nat) (v : Int) (h1 : k ≠ 84) (h2 : k ≠ 96) : TM (pU τ k i v) T n p := by
  obtain ⟨a, b, c, d⟩ := h
  exact ⟨(pU_c _ _ _ _ h1.symm).trans a, (pU_c _ _ _ _ h1.symm).trans b, c, fun j hj => by rw [pU_c _ _ _ _ h2.symm]; exact d j hj⟩
def sReg (T : Nat → Int) (n p : Int) : (Int × Int) ⊕ Int := if 48 ≤ hd T n p ∧ hd T n p ≤ 55 then .inl (hd T n p - 48, p + 1) else .inr (-1000 * 1 - p)
def sTak (T : Nat → Int) (n c p : Int) : Int ⊕ Int := if hd T n p = c then .inl (p + 1) else .inr (-1000 * 1 - p)
def sGiv (T : Nat → Int) (n p : Int) : (Int × Int) ⊕ Int := match sReg T n p with
  | .inr f => .inr f
  | .inl q => (match sTak T n 44 q.2 with
    | .inr f => .inr f
    | .inl p1 => .inl (q.1, p1))
def sPlN (T : Nat → Int) (n b p : Int) : ((Int × Int) × Int) ⊕ Int := match sNum T n 4 p with
  | .inr f => .inr f
  | .inl w => .inl ((b, w.1), w.2)
def sPlc (T : Nat → Int) (n p : Int) : ((Int × Int) × Int) ⊕ Int := if hd T n p = 114 then (match sReg T n (p + 1) with
    | .inr f => .inr f
    | .inl q => (match sTak T n 43 q.2 with
      | .inr f => .inr f
      | .inl p1 => sPlN T n q.1 p1)) else sPlN T n (-1) p
def ko (c : Int) : Int := if c = 35 then 0 else if c = 38 then 1 else if c = 42 then 1 else if c = 43 then 1 else if c = 45 then 1 else if c = 62 then 1 else if c = 76 then 2 else if c = 83 then 3 else if c = 94 then 1 else -1
def so (c : Int) : Int := if c = 98 then 1 else if c = 104 then 2 else if c = 119 then 4 else 0
/-- kind, sign, size, to, one, other, base, number -/
abbrev O8 : Type := Int × Int × Int × Int × Int × Int × Int × Int
def sOp0 (T : Nat → Int) (n p : Int) : (O8 × Int) ⊕ Int := match sGiv T n (p + 1) with
  | .inr f => .inr f
  | .inl q => (match sNum T n 4 q.2 with
    | .inr f => .inr f
    | .inl w => .inl ((0, hd T n p, 0, q.1, -1, -1, -1, w.1), w.2))
def sOp1 (T : Nat → Int) (n p : Int) : (O8 × Int) ⊕ Int := match sGiv T n (p + 1) with
  | .inr f => .inr f
  | .inl q => (match sReg T n q.2 with
    | .inr f => .inr f
    | .inl a => (match sTak T n 44 a.2 with
      | .inr f => .inr f
      | .inl p1 => (match sReg T n p1 with
        | .inr f => .inr f
        | .inl b => .inl ((1, hd T n p, 0, q.1, a.1, b.1, -1, 0), b.2))))
/-- size, to, base, number -/
def sMov (T : Nat → Int) (n p : Int) : ((Int × Int × Int × Int) × Int) ⊕ Int := if so (hd T n p) = 0 then .inr (-1000 * 1 - p) else (match sGiv T n (p + 1) with
  | .inr f => .inr f
  | .inl q => (match sPlc T n q.2 with
    | .inr f => .inr f
    | .inl w => .inl ((so (hd T n p), q.1, w.1.1, w.1.2), w.2)))
def sOp2 (T : Nat → Int) (n p k : Int) : (O8 × Int) ⊕ Int := match sMov T n (p + 1) with
  | .inr f => .inr f
  | .inl w => .inl ((k, hd T n p, w.1.1, w.1.2.1, -1, -1, w.1.2.2.1, w.1.2.2.2), w.2)
def sOp (T : Nat → Int) (n p : Int) : (O8 × Int) ⊕ Int := if ko (hd T n p) = -1 then .inr (-1000 * 1 - p) else if ko (hd T n p) = 0 then sOp0 T n p else if ko (hd T n p) = 1 then sOp1 T n p else sOp2 T n p (ko (hd T n p))
theorem ko_c {c : Int} {σ : pS} : f_Prog_kindOf c σ = some (ko c, σ) := by
  unfold f_Prog_kindOf ko
  repeat' split
  all_goals rfl
theorem ko_m {c : Int} {σ : pS} : f_M_kindBy c σ = some (ko c, σ) := by
  unfold f_M_kindBy ko
  repeat' split
  all_goals rfl
theorem so_c {c : Int} {σ : pS} : f_Prog_sizeOf c σ = some (so c, σ) := by
  unfold f_Prog_sizeOf so
  repeat' split
  all_goals rfl
theorem so_m {c : Int} {σ : pS} : f_M_sizeBy c σ = some (if so c = 0 then -1 else so c, σ) := by
  unfold f_M_sizeBy so
  repeat' split
  all_goals first | rfl | omega
theorem ko_r (c : Int) : -1 ≤ ko c ∧ ko c ≤ 3 := by
  unfold ko
  repeat' split
  all_goals decide
theorem so_r (c : Int) : 0 ≤ so c ∧ so c ≤ 4 := by
  unfold so
  repeat' split
  all_goals decide
theorem ko_in {p : Int} (h : ko (hd T n p) ≠ -1) : p < n := by
  refine hd_in (T := T) (fun e => h ?_)
  rw [e]
  rfl
theorem so_in {p : Int} (h : so (hd T n p) ≠ 0) : p < n := by
  refine hd_in (T := T) (fun e => h ?_)
  rw [e]
  rfl
/-- the readers, each by what it should find -/
theorem c_reg {σ : pS} {p : Int} (h : TP σ T n p) (hT : TB T n) : match sReg T n p with
    | .inl q => ∃ σ', f_Tape_readRegister_1 σ = some (q.1, σ') ∧ TP σ' T n q.2 ∧ CO σ σ' ∧ 0 ≤ q.1 ∧ q.1 ≤ 7
    | .inr f => ∃ σ', f_Tape_readRegister_1 σ = some (-1, σ') ∧ σ' 1 4 = f ∧ CO σ σ' := by
  unfold sReg
  by_cases hc : 48 ≤ hd T n p ∧ hd T n p ≤ 55
  · rw [if_pos hc]
    obtain ⟨σ', a, b, c⟩ := c_reg1 h hc
    exact ⟨σ', a, b, c, by dsimp only; omega, by dsimp only; omega⟩
  · rw [if_neg hc]
    exact c_reg0 h hT hc
theorem m_reg {τ : pS} {p : Int} (h : TM τ T n p) : match sReg T n p with
    | .inl q => ∃ τ', f_M_readsRegister_84 τ = some (1, τ') ∧ TM τ' T n q.2 ∧ MO τ τ' ∧ τ' 84 22 = q.1
    | .inr f => ∃ τ', f_M_readsRegister_84 τ = some (0, τ') ∧ τ' 84 21 = f ∧ MO τ τ' := by
  unfold sReg
  by_cases hc : 48 ≤ hd T n p ∧ hd T n p ≤ 55
  · rw [if_pos hc]
    exact m_reg1 h hc
  · rw [if_neg hc]
    exact m_reg0 h hc
theorem c_tak {σ : pS} {p c : Int} (h : TP σ T n p) (h0 : c ≠ -1) : match sTak T n c p with
    | .inl q => ∃ σ', f_Tape_accept_1 c σ = some (1, σ') ∧ TP σ' T n q ∧ CO σ σ'
    | .inr f => ∃ σ', f_Tape_accept_1 c σ = some (0, σ') ∧ σ' 1 4 = f ∧ CO σ σ' := by
  unfold sTak
  by_cases hc : hd T n p = c
  · rw [if_pos hc]
    exact c_acc1 h hc h0
  · rw [if_neg hc]
    exact c_acc0 h hc
theorem m_tak {τ : pS} {p c : Int} (h : TM τ T n p) (h0 : c ≠ -1) : match sTak T n c p with
    | .inl q => ∃ τ', f_M_takes_84 c τ = some (1, τ') ∧ TM τ' T n q ∧ MO τ τ'
    | .inr f => ∃ τ', f_M_takes_84 c τ = some (0, τ') ∧ τ' 84 21 = f ∧ MO τ τ' := by
  unfold sTak
  by_cases hc : hd T n p = c
  · rw [if_pos hc]
    exact m_tak1 h hc h0
  · rw [if_neg hc]
    exact m_tak0 h hc
def Pg (c : Nat) (i : Nat) (k x : Nat) : Prop := k = 1 ∨ (k = c ∧ x = i)
theorem c_giv {σ : pS} {p i : Int} (h : TP σ T n p) (hT : TB T n) (hi : 0 ≤ i ∧ i < 20) : match sGiv T n p with
    | .inl q => ∃ σ', f_Prog_readGiven_45_1 i σ = some (1, σ') ∧ TP σ' T n q.2 ∧ FR (Pg 49 i.toNat) σ σ' ∧ σ' 49 i.toNat = q.1 ∧ 0 ≤ q.1 ∧ q.1 ≤ 7
    | .inr f => ∃ σ', f_Prog_readGiven_45_1 i σ = some (0, σ') ∧ σ' 1 4 = f ∧ FR (Pg 49 i.toNat) σ σ' := by
  unfold sGiv f_Prog_readGiven_45_1
  have h1 := c_reg h hT
  cases hr : sReg T n p with
  | inr f =>
    rw [hr] at h1
    obtain ⟨σ', a, b, c⟩ := h1
    dsimp only
    rw [a, Option.bind_some, if_pos hi, if_pos hi, if_pos (pU_s _ _ _ _)]
    exact ⟨_, rfl, (pU_c _ _ _ _ (by decide)).trans b, (c.fr (fun x => Or.inl rfl)).tr (FR.u (Or.inr ⟨rfl, rfl⟩))⟩
  | inl q =>
    rw [hr] at h1
    obtain ⟨σ', a, b, c, d⟩ := h1
    dsimp only at a b d ⊢
    have h2 := c_tak (c := 44) (b.u (k := 49) i.toNat q.1 (by decide) (by decide)) (by decide)
    rw [a, Option.bind_some, if_pos hi, if_pos hi]
    dsimp only
    rw [if_neg (by rw [pU_s]; omega)]
    have hF : FR (Pg 49 i.toNat) σ (pU σ' 49 i.toNat q.1) := (c.fr (fun x => Or.inl rfl)).tr (FR.u (Or.inr ⟨rfl, rfl⟩))
    cases ht : sTak T n 44 q.2 with
    | inr f =>
      rw [ht] at h2
      obtain ⟨σ2, a2, b2, c2⟩ := h2
      rw [a2, Option.bind_some]
      exact ⟨σ2, rfl, b2, hF.tr (c2.fr (fun x => Or.inl rfl))⟩
    | inl p1 =>
      rw [ht] at h2
      obtain ⟨σ2, a2, b2, c2⟩ := h2
      rw [a2, Option.bind_some]
      exact ⟨σ2, rfl, b2, hF.tr (c2.fr (fun x => Or.inl rfl)), (c2 _ _ (by decide)).trans (pU_s _ _ _ _), d⟩
theorem c_nmb {σ : pS} {p i : Int} (h : TP σ T n p) (hi : 0 ≤ i ∧ i < 20) : match sNum T n 4 p with
    | .inl q => ∃ σ', f_Prog_readNumber_45_1 i σ = some (1, σ') ∧ TP σ' T n q.2 ∧ FR (Pg 52 i.toNat) σ σ' ∧ σ' 52 i.toNat = q.1 ∧ 0 ≤ q.1 ∧ q.1 ≤ 9999
    | .inr f => ∃ σ', f_Prog_readNumber_45_1 i σ = some (0, σ') ∧ σ' 1 4 = f ∧ FR (Pg 52 i.toNat) σ σ' := by
  unfold f_Prog_readNumber_45_1
  have h1 := c_num (m := 4) (by omega) (by omega) h
  cases hr : sNum T n 4 p with
  | inr f =>
    rw [hr] at h1
    obtain ⟨σ', a, b, c⟩ := h1
    have a : f_Tape_readDigits_1 4 σ = some (-1, σ') := a
    dsimp only
    rw [a, Option.bind_some, if_pos hi, if_pos hi, if_pos (pU_s _ _ _ _)]
    exact ⟨_, rfl, (pU_c _ _ _ _ (by decide)).trans b, (c.fr (fun x => Or.inl rfl)).tr (FR.u (Or.inr ⟨rfl, rfl⟩))⟩
  | inl q =>
    rw [hr] at h1
    obtain ⟨σ', a, b, c, d, e⟩ := h1
    have a : f_Tape_readDigits_1 4 σ = some (q.1, σ') := a
    have e4 : p10 4 = 10000 := by decide
    dsimp only at d e ⊢
    rw [a, Option.bind_some, if_pos hi, if_pos hi]
    dsimp only
    rw [if_neg (by rw [pU_s]; omega)]
    exact ⟨_, rfl, b.u _ _ (by decide) (by decide), (c.fr (fun x => Or.inl rfl)).tr (FR.u (Or.inr ⟨rfl, rfl⟩)), pU_s _ _ _ _, d, by omega⟩
end SP
