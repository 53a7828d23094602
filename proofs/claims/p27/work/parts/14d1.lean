theorem pAnd_63 (a : Int) : 0 ≤ pAnd a 63 ∧ pAnd a 63 < 64 := by
  show 0 ≤ ((Int32.ofInt a).toBitVec &&& 63#32).toInt ∧ ((Int32.ofInt a).toBitVec &&& 63#32).toInt < 64
  have h : ((Int32.ofInt a).toBitVec &&& 63#32).toNat ≤ 63 := by
    rw [BitVec.toNat_and]
    exact Nat.and_le_right
  rw [BitVec.toInt_eq_toNat_of_lt (by omega)]
  omega
/-- a program in both stores -/
def PG (m : Nat) (rec : Nat → O8) (σ τ : pS) : Prop := (m ≤ 20) ∧
  (σ 4 11 = (m : Int)) ∧
  (τ 84 2 = (m : Int)) ∧
  (∀ j, j < m → CRp σ j (rec j) ∧ MRp τ j (rec j) ∧ VR (rec j)) ∧
  (∀ j, j < m → σ 12 j = src (σ 8) j (σ 9 j) ∧ σ 13 j = src (σ 8) j (σ 10 j))
theorem PG.le {m : Nat} {rec : Nat → O8} {σ τ : pS} (h : PG m rec σ τ) : m ≤ 20 := h.1
theorem PG.cm {m : Nat} {rec : Nat → O8} {σ τ : pS} (h : PG m rec σ τ) : σ 4 11 = (m : Int) := h.2.1
theorem PG.mm {m : Nat} {rec : Nat → O8} {σ τ : pS} (h : PG m rec σ τ) : τ 84 2 = (m : Int) := h.2.2.1
theorem PG.op {m : Nat} {rec : Nat → O8} {σ τ : pS} (h : PG m rec σ τ) : ∀ j, j < m → CRp σ j (rec j) ∧ MRp τ j (rec j) ∧ VR (rec j) := h.2.2.2.1
theorem PG.so {m : Nat} {rec : Nat → O8} {σ τ : pS} (h : PG m rec σ τ) : ∀ j, j < m → σ 12 j = src (σ 8) j (σ 9 j) ∧ σ 13 j = src (σ 8) j (σ 10 j) := h.2.2.2.2
/-- a run under way in both stores; D: has been done once in it -/
def RM (m : Nat) (D : Nat → Prop) (σ τ : pS) : Prop := (∀ j, j < m → σ 39 j = τ 118 j ∧ 0 ≤ σ 39 j ∧ σ 39 j ≤ 2) ∧
  (∀ j, j < m → σ 39 j = 1 → σ 40 j = τ 119 j) ∧
  (∀ j, j < m → σ 41 j = τ 126 j ∧ 0 ≤ σ 41 j ∧ σ 41 j ≤ 1) ∧
  (∀ j, j < m → σ 41 j = 1 → σ 5 j = 3 ∧ τ 132 j = σ 37 j ∧ ∀ e : Nat, (e : Int) < σ 7 j → σ 42 (4 * j + e) = τ 125 (4 * j + e)) ∧
  (∀ j, j < m → D j → σ 36 j = τ 120 j ∧ σ 34 j = τ 122 j ∧ (2 ≤ σ 5 j → σ 37 j = τ 121 j) ∧ (σ 5 j = 2 → ∀ e : Nat, (e : Int) < σ 7 j → σ 38 (4 * j + e) = τ 124 (4 * j + e))) ∧
  (∀ j, j < m → σ 39 j = 2 → D j) ∧
  (∀ j, j < m → σ 39 j ≠ 0 → (0 ≤ σ 12 j → D (σ 12 j).toNat) ∧ (0 ≤ σ 13 j → D (σ 13 j).toNat)) ∧
  (∀ j, j < m → σ 35 j = τ 123 j) ∧
  (∀ x, x < 64 → σ 30 x = τ 128 x) ∧
  (∀ x, x < 64 → σ 26 x = τ 127 x) ∧
  (∀ j, j < m → σ 31 j = τ 87 j ∧ -1 ≤ σ 31 j ∧ σ 31 j ≤ 15) ∧
  (σ 28 3 = τ 84 3 ∧ 0 ≤ σ 28 3 ∧ σ 28 3 ≤ 15) ∧
  (σ 28 5 = τ 84 0 ∧ 0 ≤ σ 28 5 ∧ σ 28 5 ≤ 65535) ∧
  (σ 33 2 = τ 84 65) ∧
  (σ 33 3 = τ 84 66) ∧
  (σ 33 4 = τ 84 67) ∧
  (σ 33 5 = τ 84 68) ∧
  (σ 24 4 = τ 84 1) ∧
  (∀ r, r < 8 → σ 25 r = τ 85 r) ∧
  (∀ j, m ≤ j → j < 20 → σ 31 j = -1)
theorem RM.st {m : Nat} {D : Nat → Prop} {σ τ : pS} (h : RM m D σ τ) : ∀ j, j < m → σ 39 j = τ 118 j ∧ 0 ≤ σ 39 j ∧ σ 39 j ≤ 2 := h.1
theorem RM.ti {m : Nat} {D : Nat → Prop} {σ τ : pS} (h : RM m D σ τ) : ∀ j, j < m → σ 39 j = 1 → σ 40 j = τ 119 j := h.2.1
theorem RM.rt {m : Nat} {D : Nat → Prop} {σ τ : pS} (h : RM m D σ τ) : ∀ j, j < m → σ 41 j = τ 126 j ∧ 0 ≤ σ 41 j ∧ σ 41 j ≤ 1 := h.2.2.1
theorem RM.re {m : Nat} {D : Nat → Prop} {σ τ : pS} (h : RM m D σ τ) : ∀ j, j < m → σ 41 j = 1 → σ 5 j = 3 ∧ τ 132 j = σ 37 j ∧ ∀ e : Nat, (e : Int) < σ 7 j → σ 42 (4 * j + e) = τ 125 (4 * j + e) := h.2.2.2.1
theorem RM.va {m : Nat} {D : Nat → Prop} {σ τ : pS} (h : RM m D σ τ) : ∀ j, j < m → D j → σ 36 j = τ 120 j ∧ σ 34 j = τ 122 j ∧ (2 ≤ σ 5 j → σ 37 j = τ 121 j) ∧ (σ 5 j = 2 → ∀ e : Nat, (e : Int) < σ 7 j → σ 38 (4 * j + e) = τ 124 (4 * j + e)) := h.2.2.2.2.1
theorem RM.dn {m : Nat} {D : Nat → Prop} {σ τ : pS} (h : RM m D σ τ) : ∀ j, j < m → σ 39 j = 2 → D j := h.2.2.2.2.2.1
theorem RM.so {m : Nat} {D : Nat → Prop} {σ τ : pS} (h : RM m D σ τ) : ∀ j, j < m → σ 39 j ≠ 0 → (0 ≤ σ 12 j → D (σ 12 j).toNat) ∧ (0 ≤ σ 13 j → D (σ 13 j).toNat) := h.2.2.2.2.2.2.1
theorem RM.rp {m : Nat} {D : Nat → Prop} {σ τ : pS} (h : RM m D σ τ) : ∀ j, j < m → σ 35 j = τ 123 j := h.2.2.2.2.2.2.2.1
theorem RM.me {m : Nat} {D : Nat → Prop} {σ τ : pS} (h : RM m D σ τ) : ∀ x, x < 64 → σ 30 x = τ 128 x := h.2.2.2.2.2.2.2.2.1
theorem RM.m0 {m : Nat} {D : Nat → Prop} {σ τ : pS} (h : RM m D σ τ) : ∀ x, x < 64 → σ 26 x = τ 127 x := h.2.2.2.2.2.2.2.2.2.1
theorem RM.se {m : Nat} {D : Nat → Prop} {σ τ : pS} (h : RM m D σ τ) : ∀ j, j < m → σ 31 j = τ 87 j ∧ -1 ≤ σ 31 j ∧ σ 31 j ≤ 15 := h.2.2.2.2.2.2.2.2.2.2.1
theorem RM.ns {m : Nat} {D : Nat → Prop} {σ τ : pS} (h : RM m D σ τ) : σ 28 3 = τ 84 3 ∧ 0 ≤ σ 28 3 ∧ σ 28 3 ≤ 15 := h.2.2.2.2.2.2.2.2.2.2.2.1
theorem RM.x {m : Nat} {D : Nat → Prop} {σ τ : pS} (h : RM m D σ τ) : σ 28 5 = τ 84 0 ∧ 0 ≤ σ 28 5 ∧ σ 28 5 ≤ 65535 := h.2.2.2.2.2.2.2.2.2.2.2.2.1
theorem RM.cr {m : Nat} {D : Nat → Prop} {σ τ : pS} (h : RM m D σ τ) : σ 33 2 = τ 84 65 := h.2.2.2.2.2.2.2.2.2.2.2.2.2.1
theorem RM.ca {m : Nat} {D : Nat → Prop} {σ τ : pS} (h : RM m D σ τ) : σ 33 3 = τ 84 66 := h.2.2.2.2.2.2.2.2.2.2.2.2.2.2.1
theorem RM.cu {m : Nat} {D : Nat → Prop} {σ τ : pS} (h : RM m D σ τ) : σ 33 4 = τ 84 67 := h.2.2.2.2.2.2.2.2.2.2.2.2.2.2.2.1
theorem RM.cd {m : Nat} {D : Nat → Prop} {σ τ : pS} (h : RM m D σ τ) : σ 33 5 = τ 84 68 := h.2.2.2.2.2.2.2.2.2.2.2.2.2.2.2.2.1
theorem RM.ru {m : Nat} {D : Nat → Prop} {σ τ : pS} (h : RM m D σ τ) : σ 24 4 = τ 84 1 := h.2.2.2.2.2.2.2.2.2.2.2.2.2.2.2.2.2.1
theorem RM.rg {m : Nat} {D : Nat → Prop} {σ τ : pS} (h : RM m D σ τ) : ∀ r, r < 8 → σ 25 r = τ 85 r := h.2.2.2.2.2.2.2.2.2.2.2.2.2.2.2.2.2.2.1
theorem RM.sh {m : Nat} {D : Nat → Prop} {σ τ : pS} (h : RM m D σ τ) : ∀ j, m ≤ j → j < 20 → σ 31 j = -1 := h.2.2.2.2.2.2.2.2.2.2.2.2.2.2.2.2.2.2.2
/-- what a run may write -/
def PN (k x : Nat) : Prop := (k = 3 ∧ x = 11) ∨ k = 22 ∨ k = 23 ∨ (k = 28 ∧ (x = 3 ∨ x = 5)) ∨ (30 ≤ k ∧ k ≤ 44)
def QN (k x : Nat) : Prop := (k = 84 ∧ (x = 0 ∨ x = 3 ∨ (64 ≤ x ∧ x ≤ 68) ∨ x = 71 ∨ x = 72)) ∨ k = 87 ∨ k = 108 ∨ k = 109 ∨ (118 ≤ k ∧ k ≤ 133 ∧ k ≠ 129 ∧ k ≠ 130)
theorem PG.fr {m : Nat} {rec : Nat → O8} {σ τ σ' τ' : pS} (h : PG m rec σ τ) (h1 : FR PN σ σ') (h2 : FR QN τ τ') : PG m rec σ' τ' := by
  have a : ∀ k x, 4 ≤ k → k ≤ 13 → σ' k x = σ k x := fun k x p q => h1.get (by unfold PN; omega)
  have b : ∀ k x, 88 ≤ k → k ≤ 95 → τ' k x = τ k x := fun k x p q => h2.get (by unfold QN; omega)
  have e8 : σ' 8 = σ 8 := funext (fun x => a 8 x (by decide) (by decide))
  refine ⟨h.le, (a _ _ (by decide) (by decide)).trans h.cm, (h2.get (by unfold QN; omega)).trans h.mm, fun j hj => ?_, fun j hj => ?_⟩
  · obtain ⟨c1, c2, c3⟩ := h.op j hj
    refine ⟨?_, ?_, c3⟩
    · unfold CRp at *
      rw [a 5 _ (by decide) (by decide), a 6 _ (by decide) (by decide), a 7 _ (by decide) (by decide), a 8 _ (by decide) (by decide), a 9 _ (by decide) (by decide), a 10 _ (by decide) (by decide), a 11 _ (by decide) (by decide)]
      exact c1
    · unfold MRp at *
      rw [b 88 _ (by decide) (by decide), b 89 _ (by decide) (by decide), b 90 _ (by decide) (by decide), b 91 _ (by decide) (by decide), b 92 _ (by decide) (by decide), b 93 _ (by decide) (by decide), b 94 _ (by decide) (by decide), b 95 _ (by decide) (by decide)]
      exact c2
  · rw [a 12 _ (by decide) (by decide), a 13 _ (by decide) (by decide), a 9 _ (by decide) (by decide), a 10 _ (by decide) (by decide), e8]
    exact h.so j hj
section PGL
variable {m : Nat} {rec : Nat → O8} {σ τ : pS}
theorem PG.kd (h : PG m rec σ τ) {j : Nat} (hj : j < m) : τ 88 j = σ 5 j ∧ 0 ≤ σ 5 j ∧ σ 5 j ≤ 3 := by
  obtain ⟨c1, c2, c3⟩ := h.op j hj
  have a := c1.1
  have b := c2.1
  have c := c3.1
  omega
theorem PG.sz (h : PG m rec σ τ) {j : Nat} (hj : j < m) (hk : 2 ≤ σ 5 j) : τ 93 j = σ 7 j ∧ (σ 7 j = 1 ∨ σ 7 j = 2 ∨ σ 7 j = 4) := by
  obtain ⟨c1, c2, c3⟩ := h.op j hj
  have a := c1.1
  have b := c2.2.2.2.2.1 (by omega)
  have c := c1.2.2.1
  rcases c3.2.2.2.1 with ⟨-, d, -⟩ | ⟨d, -⟩
  · rw [b.1, c]
    exact ⟨rfl, d⟩
  · omega
end PGL
theorem ix4 {j e : Nat} (hj : j < 20) (he : e < 4) : pw (pw ((j : Int) * 4) + (e : Int)) = ((4 * j + e : Nat) : Int) ∧ pw (pw (4 * (j : Int)) + (e : Int)) = ((4 * j + e : Nat) : Int) ∧ (0 : Int) ≤ ((4 * j + e : Nat) : Int) ∧ ((4 * j + e : Nat) : Int) < 80 := by
  rw [pw_id (z := (j : Int) * 4) (by omega) (by omega), pw_id (z := 4 * (j : Int)) (by omega) (by omega), pw_id (z := (j : Int) * 4 + (e : Int)) (by omega) (by omega), pw_id (z := 4 * (j : Int) + (e : Int)) (by omega) (by omega)]
  omega
theorem pw_s {e n : Nat} (he : e < n) (hn : n ≤ 100000) : pw ((e : Int) + 1) = ((e + 1 : Nat) : Int) := by rw [pw_id (by omega) (by omega)]; omega
theorem pw_p {e n : Nat} (he : e < n) (hn : n ≤ 100000) : pw ((e : Int) + -1) = (e : Int) - 1 := by rw [pw_id (by omega) (by omega)]; omega
/-- one store undone: its bytes -/
theorem un_26 {j s : Nat} (hj : j < 20) (hs : s ≤ 4) {K1 K2 : Int → Int → pS → Option (Int × pS)} {i1 i2 : Int} : ∀ (d e fu1 fu2 : Nat) (σ τ : pS), e + d = s → d < fu1 → d < fu2 → σ 7 j = (s : Int) → τ 93 j = (s : Int) → τ 132 j = σ 37 j → (∀ q : Nat, q < s → σ 42 (4 * j + q) = τ 125 (4 * j + q)) → (∀ x, x < 64 → σ 30 x = τ 128 x) →
    ∃ σ' τ', f_Mach_undoDownTo_3_p26 K1 fu1 i1 (j : Int) (e : Int) σ = K1 i1 ((j : Int) - 1) (pU (pU σ' 41 j 0) 33 4 (pw (σ 33 4 + 1))) ∧ f_M_undoesTo_84_p26 K2 fu2 i2 (j : Int) (e : Int) τ = K2 i2 ((j : Int) - 1) (pU (pU τ' 126 j 0) 84 67 (pw (τ 84 67 + 1))) ∧ (∀ x, x < 64 → σ' 30 x = τ' 128 x) ∧ FR (fun k _ => k = 30) σ σ' ∧ FR (fun k _ => k = 128) τ τ'
  | 0, e, fu1, fu2, σ, τ, he, h1, h2, s1, s2, hp, hb, hm => by
    obtain ⟨n1, rfl⟩ : ∃ n, fu1 = n + 1 := ⟨fu1 - 1, by omega⟩
    obtain ⟨n2, rfl⟩ : ∃ n, fu2 = n + 1 := ⟨fu2 - 1, by omega⟩
    have g : (0 : Int) ≤ (j : Int) ∧ (j : Int) < 20 := by omega
    refine ⟨σ, τ, ?_, ?_, hm, FR.rf _ _, FR.rf _ _⟩
    · show (if (0 : Int) ≤ (j : Int) ∧ (j : Int) < 20 then _ else _) = _
      rw [if_pos g, Int.toNat_natCast, s1, if_pos (by omega), if_pos g, pw_id (z := (j : Int) + -1) (by omega) (by omega)]
      rfl
    · show (if (0 : Int) ≤ (j : Int) ∧ (j : Int) < 20 then _ else _) = _
      rw [if_pos g, Int.toNat_natCast, s2, if_pos (by omega), if_pos g, pw_id (z := (j : Int) + -1) (by omega) (by omega)]
      rfl
  | d + 1, e, fu1, fu2, σ, τ, he, h1, h2, s1, s2, hp, hb, hm => by
    obtain ⟨n1, rfl⟩ : ∃ n, fu1 = n + 1 := ⟨fu1 - 1, by omega⟩
    obtain ⟨n2, rfl⟩ : ∃ n, fu2 = n + 1 := ⟨fu2 - 1, by omega⟩
    have g : (0 : Int) ≤ (j : Int) ∧ (j : Int) < 20 := by omega
    have he4 : e < 4 := by omega
    have eX : f_Mach_undoDownTo_3_p26 K1 (n1 + 1) i1 (j : Int) (e : Int) σ = f_Mach_undoDownTo_3_p26 K1 n1 i1 (j : Int) ((e + 1 : Nat) : Int) (pU σ 30 (pAnd (pw (σ 37 j + (e : Int))) 63).toNat (σ 42 (4 * j + e))) := by
      show (if (0 : Int) ≤ (j : Int) ∧ (j : Int) < 20 then _ else _) = _
      rw [if_pos g, Int.toNat_natCast, s1, if_neg (by omega), if_pos g, (ix4 hj he4).1, if_pos (ix4 hj he4).2.2, if_pos (pAnd_63 _), Int.toNat_natCast, pw_s he4 (by decide)]
    have eM : f_M_undoesTo_84_p26 K2 (n2 + 1) i2 (j : Int) (e : Int) τ = f_M_undoesTo_84_p26 K2 n2 i2 (j : Int) ((e + 1 : Nat) : Int) (pU τ 128 (pAnd (pw (σ 37 j + (e : Int))) 63).toNat (τ 125 (4 * j + e))) := by
      show (if (0 : Int) ≤ (j : Int) ∧ (j : Int) < 20 then _ else _) = _
      rw [if_pos g, Int.toNat_natCast, s2, if_neg (by omega), if_pos g, (ix4 hj he4).2.1, if_pos (ix4 hj he4).2.2, hp, if_pos (pAnd_63 _), Int.toNat_natCast, pw_s he4 (by decide)]
    rw [eX, eM]
    generalize (pAnd (pw (σ 37 j + (e : Int))) 63).toNat = A
    have f1 : FR (fun k _ => k = 30) σ (pU σ 30 A (σ 42 (4 * j + e))) := FR.u rfl
    have f2 : FR (fun k _ => k = 128) τ (pU τ 128 A (τ 125 (4 * j + e))) := FR.u rfl
    obtain ⟨σ', τ', q1, q2, q3, q4, q5⟩ := un_26 hj hs (K1 := K1) (K2 := K2) (i1 := i1) (i2 := i2) d (e + 1) n1 n2 (pU σ 30 A (σ 42 (4 * j + e))) (pU τ 128 A (τ 125 (4 * j + e))) (by omega) (by omega) (by omega) ((f1.get (by decide)).trans s1) ((f2.get (by decide)).trans s2) (by rw [f1.get (k := 37) (by decide), f2.get (k := 132) (by decide)]; exact hp) (fun q hq => by rw [f1.get (k := 42) (by decide), f2.get (k := 125) (by decide)]; exact hb q hq) (fun x hx => by
      by_cases hxa : x = A
      · rw [hxa, pU_s, pU_s]
        exact hb e (by omega)
      · rw [pU_i _ _ _ _ hxa, pU_i _ _ _ _ hxa]
        exact hm x hx)
    refine ⟨σ', τ', ?_, ?_, q3, f1.tr q4, f2.tr q5⟩
    · rw [q1, f1.get (k := 33) (by decide)]
    · rw [q2, f2.get (k := 84) (by decide)]
def P_sme (k x : Nat) : Prop := k = 30
def Q_sme (k x : Nat) : Prop := k = 128
theorem RM.sme {m : Nat} {D : Nat → Prop} {σ τ σ' τ' : pS} (h : RM m D σ τ) (a1 : FR P_sme σ σ') (a2 : FR Q_sme τ τ') (g : ∀ x, x < 64 → σ' 30 x = τ' 128 x) : RM m D σ' τ' := ⟨fun j hj => by rw [a1.get (k := 39) (x := j) (by unfold P_sme; omega), a2.get (k := 118) (x := j) (by unfold Q_sme; omega)]; exact h.st j hj,
  fun j hj q => by rw [a1.get (k := 39) (x := j) (by unfold P_sme; omega)] at q; rw [a1.get (k := 40) (x := j) (by unfold P_sme; omega), a2.get (k := 119) (x := j) (by unfold Q_sme; omega)]; exact h.ti j hj q,
  fun j hj => by rw [a1.get (k := 41) (x := j) (by unfold P_sme; omega), a2.get (k := 126) (x := j) (by unfold Q_sme; omega)]; exact h.rt j hj,
  fun j hj q => by rw [a1.get (k := 41) (x := j) (by unfold P_sme; omega)] at q; have z := h.re j hj q; rw [a1.get (k := 5) (x := j) (by unfold P_sme; omega), a1.get (k := 37) (x := j) (by unfold P_sme; omega), a1.get (k := 7) (x := j) (by unfold P_sme; omega), a2.get (k := 132) (x := j) (by unfold Q_sme; omega)]; exact ⟨z.1, z.2.1, fun e he => by rw [a1.get (k := 42) (x := 4 * j + e) (by unfold P_sme; omega), a2.get (k := 125) (x := 4 * j + e) (by unfold Q_sme; omega)]; exact z.2.2 e he⟩,
  fun j hj q => by have z := h.va j hj q; rw [a1.get (k := 36) (x := j) (by unfold P_sme; omega), a1.get (k := 34) (x := j) (by unfold P_sme; omega), a1.get (k := 5) (x := j) (by unfold P_sme; omega), a1.get (k := 37) (x := j) (by unfold P_sme; omega), a1.get (k := 7) (x := j) (by unfold P_sme; omega), a2.get (k := 120) (x := j) (by unfold Q_sme; omega), a2.get (k := 122) (x := j) (by unfold Q_sme; omega), a2.get (k := 121) (x := j) (by unfold Q_sme; omega)]; exact ⟨z.1, z.2.1, z.2.2.1, fun k e he => by rw [a1.get (k := 38) (x := 4 * j + e) (by unfold P_sme; omega), a2.get (k := 124) (x := 4 * j + e) (by unfold Q_sme; omega)]; exact z.2.2.2 k e he⟩,
  fun j hj q => by rw [a1.get (k := 39) (x := j) (by unfold P_sme; omega)] at q; exact h.dn j hj q,
  fun j hj q => by rw [a1.get (k := 39) (x := j) (by unfold P_sme; omega)] at q; rw [a1.get (k := 12) (x := j) (by unfold P_sme; omega), a1.get (k := 13) (x := j) (by unfold P_sme; omega)]; exact h.so j hj q,
  fun j hj => by rw [a1.get (k := 35) (x := j) (by unfold P_sme; omega), a2.get (k := 123) (x := j) (by unfold Q_sme; omega)]; exact h.rp j hj,
  g,
  fun j hj => by rw [a1.get (k := 26) (x := j) (by unfold P_sme; omega), a2.get (k := 127) (x := j) (by unfold Q_sme; omega)]; exact h.m0 j hj,
  fun j hj => by rw [a1.get (k := 31) (x := j) (by unfold P_sme; omega), a2.get (k := 87) (x := j) (by unfold Q_sme; omega)]; exact h.se j hj,
  by rw [a1.get (k := 28) (x := 3) (by unfold P_sme; omega), a2.get (k := 84) (x := 3) (by unfold Q_sme; omega)]; exact h.ns,
  by rw [a1.get (k := 28) (x := 5) (by unfold P_sme; omega), a2.get (k := 84) (x := 0) (by unfold Q_sme; omega)]; exact h.x,
  by rw [a1.get (k := 33) (x := 2) (by unfold P_sme; omega), a2.get (k := 84) (x := 65) (by unfold Q_sme; omega)]; exact h.cr,
  by rw [a1.get (k := 33) (x := 3) (by unfold P_sme; omega), a2.get (k := 84) (x := 66) (by unfold Q_sme; omega)]; exact h.ca,
  by rw [a1.get (k := 33) (x := 4) (by unfold P_sme; omega), a2.get (k := 84) (x := 67) (by unfold Q_sme; omega)]; exact h.cu,
  by rw [a1.get (k := 33) (x := 5) (by unfold P_sme; omega), a2.get (k := 84) (x := 68) (by unfold Q_sme; omega)]; exact h.cd,
  by rw [a1.get (k := 24) (x := 4) (by unfold P_sme; omega), a2.get (k := 84) (x := 1) (by unfold Q_sme; omega)]; exact h.ru,
  fun j hj => by rw [a1.get (k := 25) (x := j) (by unfold P_sme; omega), a2.get (k := 85) (x := j) (by unfold Q_sme; omega)]; exact h.rg j hj,
  fun j hj h20 => by rw [a1.get (k := 31) (x := j) (by unfold P_sme; omega)]; exact h.sh j hj h20⟩
def P_srt0 (k x : Nat) : Prop := k = 41
def Q_srt0 (k x : Nat) : Prop := k = 126
theorem RM.srt0 {m : Nat} {D : Nat → Prop} {σ τ σ' τ' : pS} (h : RM m D σ τ) (a1 : FR P_srt0 σ σ') (a2 : FR Q_srt0 τ τ') (g : ∀ j, j < m → (σ' 41 j = τ' 126 j ∧ (σ' 41 j = 0 ∨ σ' 41 j = σ 41 j))) : RM m D σ' τ' := ⟨fun j hj => by rw [a1.get (k := 39) (x := j) (by unfold P_srt0; omega), a2.get (k := 118) (x := j) (by unfold Q_srt0; omega)]; exact h.st j hj,
  fun j hj q => by rw [a1.get (k := 39) (x := j) (by unfold P_srt0; omega)] at q; rw [a1.get (k := 40) (x := j) (by unfold P_srt0; omega), a2.get (k := 119) (x := j) (by unfold Q_srt0; omega)]; exact h.ti j hj q,
  fun j hj => by have z := h.rt j hj; have y := g j hj; omega,
  fun j hj q => by have y := g j hj; have z := h.re j hj (by omega); rw [a1.get (k := 5) (x := j) (by unfold P_srt0; omega), a1.get (k := 37) (x := j) (by unfold P_srt0; omega), a1.get (k := 7) (x := j) (by unfold P_srt0; omega), a2.get (k := 132) (x := j) (by unfold Q_srt0; omega)]; exact ⟨z.1, z.2.1, fun e he => by rw [a1.get (k := 42) (x := 4 * j + e) (by unfold P_srt0; omega), a2.get (k := 125) (x := 4 * j + e) (by unfold Q_srt0; omega)]; exact z.2.2 e he⟩,
  fun j hj q => by have z := h.va j hj q; rw [a1.get (k := 36) (x := j) (by unfold P_srt0; omega), a1.get (k := 34) (x := j) (by unfold P_srt0; omega), a1.get (k := 5) (x := j) (by unfold P_srt0; omega), a1.get (k := 37) (x := j) (by unfold P_srt0; omega), a1.get (k := 7) (x := j) (by unfold P_srt0; omega), a2.get (k := 120) (x := j) (by unfold Q_srt0; omega), a2.get (k := 122) (x := j) (by unfold Q_srt0; omega), a2.get (k := 121) (x := j) (by unfold Q_srt0; omega)]; exact ⟨z.1, z.2.1, z.2.2.1, fun k e he => by rw [a1.get (k := 38) (x := 4 * j + e) (by unfold P_srt0; omega), a2.get (k := 124) (x := 4 * j + e) (by unfold Q_srt0; omega)]; exact z.2.2.2 k e he⟩,
  fun j hj q => by rw [a1.get (k := 39) (x := j) (by unfold P_srt0; omega)] at q; exact h.dn j hj q,
  fun j hj q => by rw [a1.get (k := 39) (x := j) (by unfold P_srt0; omega)] at q; rw [a1.get (k := 12) (x := j) (by unfold P_srt0; omega), a1.get (k := 13) (x := j) (by unfold P_srt0; omega)]; exact h.so j hj q,
  fun j hj => by rw [a1.get (k := 35) (x := j) (by unfold P_srt0; omega), a2.get (k := 123) (x := j) (by unfold Q_srt0; omega)]; exact h.rp j hj,
  fun j hj => by rw [a1.get (k := 30) (x := j) (by unfold P_srt0; omega), a2.get (k := 128) (x := j) (by unfold Q_srt0; omega)]; exact h.me j hj,
  fun j hj => by rw [a1.get (k := 26) (x := j) (by unfold P_srt0; omega), a2.get (k := 127) (x := j) (by unfold Q_srt0; omega)]; exact h.m0 j hj,
  fun j hj => by rw [a1.get (k := 31) (x := j) (by unfold P_srt0; omega), a2.get (k := 87) (x := j) (by unfold Q_srt0; omega)]; exact h.se j hj,
  by rw [a1.get (k := 28) (x := 3) (by unfold P_srt0; omega), a2.get (k := 84) (x := 3) (by unfold Q_srt0; omega)]; exact h.ns,
  by rw [a1.get (k := 28) (x := 5) (by unfold P_srt0; omega), a2.get (k := 84) (x := 0) (by unfold Q_srt0; omega)]; exact h.x,
  by rw [a1.get (k := 33) (x := 2) (by unfold P_srt0; omega), a2.get (k := 84) (x := 65) (by unfold Q_srt0; omega)]; exact h.cr,
  by rw [a1.get (k := 33) (x := 3) (by unfold P_srt0; omega), a2.get (k := 84) (x := 66) (by unfold Q_srt0; omega)]; exact h.ca,
  by rw [a1.get (k := 33) (x := 4) (by unfold P_srt0; omega), a2.get (k := 84) (x := 67) (by unfold Q_srt0; omega)]; exact h.cu,
  by rw [a1.get (k := 33) (x := 5) (by unfold P_srt0; omega), a2.get (k := 84) (x := 68) (by unfold Q_srt0; omega)]; exact h.cd,
  by rw [a1.get (k := 24) (x := 4) (by unfold P_srt0; omega), a2.get (k := 84) (x := 1) (by unfold Q_srt0; omega)]; exact h.ru,
  fun j hj => by rw [a1.get (k := 25) (x := j) (by unfold P_srt0; omega), a2.get (k := 85) (x := j) (by unfold Q_srt0; omega)]; exact h.rg j hj,
  fun j hj h20 => by rw [a1.get (k := 31) (x := j) (by unfold P_srt0; omega)]; exact h.sh j hj h20⟩
def P_scr (k x : Nat) : Prop := k = 33 ∧ x = 2
def Q_scr (k x : Nat) : Prop := k = 84 ∧ x = 65
theorem RM.scr {m : Nat} {D : Nat → Prop} {σ τ σ' τ' : pS} (h : RM m D σ τ) (a1 : FR P_scr σ σ') (a2 : FR Q_scr τ τ') (g : σ' 33 2 = τ' 84 65) : RM m D σ' τ' := ⟨fun j hj => by rw [a1.get (k := 39) (x := j) (by unfold P_scr; omega), a2.get (k := 118) (x := j) (by unfold Q_scr; omega)]; exact h.st j hj,
  fun j hj q => by rw [a1.get (k := 39) (x := j) (by unfold P_scr; omega)] at q; rw [a1.get (k := 40) (x := j) (by unfold P_scr; omega), a2.get (k := 119) (x := j) (by unfold Q_scr; omega)]; exact h.ti j hj q,
  fun j hj => by rw [a1.get (k := 41) (x := j) (by unfold P_scr; omega), a2.get (k := 126) (x := j) (by unfold Q_scr; omega)]; exact h.rt j hj,
  fun j hj q => by rw [a1.get (k := 41) (x := j) (by unfold P_scr; omega)] at q; have z := h.re j hj q; rw [a1.get (k := 5) (x := j) (by unfold P_scr; omega), a1.get (k := 37) (x := j) (by unfold P_scr; omega), a1.get (k := 7) (x := j) (by unfold P_scr; omega), a2.get (k := 132) (x := j) (by unfold Q_scr; omega)]; exact ⟨z.1, z.2.1, fun e he => by rw [a1.get (k := 42) (x := 4 * j + e) (by unfold P_scr; omega), a2.get (k := 125) (x := 4 * j + e) (by unfold Q_scr; omega)]; exact z.2.2 e he⟩,
  fun j hj q => by have z := h.va j hj q; rw [a1.get (k := 36) (x := j) (by unfold P_scr; omega), a1.get (k := 34) (x := j) (by unfold P_scr; omega), a1.get (k := 5) (x := j) (by unfold P_scr; omega), a1.get (k := 37) (x := j) (by unfold P_scr; omega), a1.get (k := 7) (x := j) (by unfold P_scr; omega), a2.get (k := 120) (x := j) (by unfold Q_scr; omega), a2.get (k := 122) (x := j) (by unfold Q_scr; omega), a2.get (k := 121) (x := j) (by unfold Q_scr; omega)]; exact ⟨z.1, z.2.1, z.2.2.1, fun k e he => by rw [a1.get (k := 38) (x := 4 * j + e) (by unfold P_scr; omega), a2.get (k := 124) (x := 4 * j + e) (by unfold Q_scr; omega)]; exact z.2.2.2 k e he⟩,
  fun j hj q => by rw [a1.get (k := 39) (x := j) (by unfold P_scr; omega)] at q; exact h.dn j hj q,
  fun j hj q => by rw [a1.get (k := 39) (x := j) (by unfold P_scr; omega)] at q; rw [a1.get (k := 12) (x := j) (by unfold P_scr; omega), a1.get (k := 13) (x := j) (by unfold P_scr; omega)]; exact h.so j hj q,
  fun j hj => by rw [a1.get (k := 35) (x := j) (by unfold P_scr; omega), a2.get (k := 123) (x := j) (by unfold Q_scr; omega)]; exact h.rp j hj,
  fun j hj => by rw [a1.get (k := 30) (x := j) (by unfold P_scr; omega), a2.get (k := 128) (x := j) (by unfold Q_scr; omega)]; exact h.me j hj,
  fun j hj => by rw [a1.get (k := 26) (x := j) (by unfold P_scr; omega), a2.get (k := 127) (x := j) (by unfold Q_scr; omega)]; exact h.m0 j hj,
  fun j hj => by rw [a1.get (k := 31) (x := j) (by unfold P_scr; omega), a2.get (k := 87) (x := j) (by unfold Q_scr; omega)]; exact h.se j hj,
  by rw [a1.get (k := 28) (x := 3) (by unfold P_scr; omega), a2.get (k := 84) (x := 3) (by unfold Q_scr; omega)]; exact h.ns,
  by rw [a1.get (k := 28) (x := 5) (by unfold P_scr; omega), a2.get (k := 84) (x := 0) (by unfold Q_scr; omega)]; exact h.x,
  g,
  by rw [a1.get (k := 33) (x := 3) (by unfold P_scr; omega), a2.get (k := 84) (x := 66) (by unfold Q_scr; omega)]; exact h.ca,
  by rw [a1.get (k := 33) (x := 4) (by unfold P_scr; omega), a2.get (k := 84) (x := 67) (by unfold Q_scr; omega)]; exact h.cu,
  by rw [a1.get (k := 33) (x := 5) (by unfold P_scr; omega), a2.get (k := 84) (x := 68) (by unfold Q_scr; omega)]; exact h.cd,
  by rw [a1.get (k := 24) (x := 4) (by unfold P_scr; omega), a2.get (k := 84) (x := 1) (by unfold Q_scr; omega)]; exact h.ru,
  fun j hj => by rw [a1.get (k := 25) (x := j) (by unfold P_scr; omega), a2.get (k := 85) (x := j) (by unfold Q_scr; omega)]; exact h.rg j hj,
  fun j hj h20 => by rw [a1.get (k := 31) (x := j) (by unfold P_scr; omega)]; exact h.sh j hj h20⟩
def P_sca (k x : Nat) : Prop := k = 33 ∧ x = 3
def Q_sca (k x : Nat) : Prop := k = 84 ∧ x = 66
theorem RM.sca {m : Nat} {D : Nat → Prop} {σ τ σ' τ' : pS} (h : RM m D σ τ) (a1 : FR P_sca σ σ') (a2 : FR Q_sca τ τ') (g : σ' 33 3 = τ' 84 66) : RM m D σ' τ' := ⟨fun j hj => by rw [a1.get (k := 39) (x := j) (by unfold P_sca; omega), a2.get (k := 118) (x := j) (by unfold Q_sca; omega)]; exact h.st j hj,
  fun j hj q => by rw [a1.get (k := 39) (x := j) (by unfold P_sca; omega)] at q; rw [a1.get (k := 40) (x := j) (by unfold P_sca; omega), a2.get (k := 119) (x := j) (by unfold Q_sca; omega)]; exact h.ti j hj q,
  fun j hj => by rw [a1.get (k := 41) (x := j) (by unfold P_sca; omega), a2.get (k := 126) (x := j) (by unfold Q_sca; omega)]; exact h.rt j hj,
  fun j hj q => by rw [a1.get (k := 41) (x := j) (by unfold P_sca; omega)] at q; have z := h.re j hj q; rw [a1.get (k := 5) (x := j) (by unfold P_sca; omega), a1.get (k := 37) (x := j) (by unfold P_sca; omega), a1.get (k := 7) (x := j) (by unfold P_sca; omega), a2.get (k := 132) (x := j) (by unfold Q_sca; omega)]; exact ⟨z.1, z.2.1, fun e he => by rw [a1.get (k := 42) (x := 4 * j + e) (by unfold P_sca; omega), a2.get (k := 125) (x := 4 * j + e) (by unfold Q_sca; omega)]; exact z.2.2 e he⟩,
  fun j hj q => by have z := h.va j hj q; rw [a1.get (k := 36) (x := j) (by unfold P_sca; omega), a1.get (k := 34) (x := j) (by unfold P_sca; omega), a1.get (k := 5) (x := j) (by unfold P_sca; omega), a1.get (k := 37) (x := j) (by unfold P_sca; omega), a1.get (k := 7) (x := j) (by unfold P_sca; omega), a2.get (k := 120) (x := j) (by unfold Q_sca; omega), a2.get (k := 122) (x := j) (by unfold Q_sca; omega), a2.get (k := 121) (x := j) (by unfold Q_sca; omega)]; exact ⟨z.1, z.2.1, z.2.2.1, fun k e he => by rw [a1.get (k := 38) (x := 4 * j + e) (by unfold P_sca; omega), a2.get (k := 124) (x := 4 * j + e) (by unfold Q_sca; omega)]; exact z.2.2.2 k e he⟩,
  fun j hj q => by rw [a1.get (k := 39) (x := j) (by unfold P_sca; omega)] at q; exact h.dn j hj q,
  fun j hj q => by rw [a1.get (k := 39) (x := j) (by unfold P_sca; omega)] at q; rw [a1.get (k := 12) (x := j) (by unfold P_sca; omega), a1.get (k := 13) (x := j) (by unfold P_sca; omega)]; exact h.so j hj q,
  fun j hj => by rw [a1.get (k := 35) (x := j) (by unfold P_sca; omega), a2.get (k := 123) (x := j) (by unfold Q_sca; omega)]; exact h.rp j hj,
  fun j hj => by rw [a1.get (k := 30) (x := j) (by unfold P_sca; omega), a2.get (k := 128) (x := j) (by unfold Q_sca; omega)]; exact h.me j hj,
  fun j hj => by rw [a1.get (k := 26) (x := j) (by unfold P_sca; omega), a2.get (k := 127) (x := j) (by unfold Q_sca; omega)]; exact h.m0 j hj,
  fun j hj => by rw [a1.get (k := 31) (x := j) (by unfold P_sca; omega), a2.get (k := 87) (x := j) (by unfold Q_sca; omega)]; exact h.se j hj,
  by rw [a1.get (k := 28) (x := 3) (by unfold P_sca; omega), a2.get (k := 84) (x := 3) (by unfold Q_sca; omega)]; exact h.ns,
  by rw [a1.get (k := 28) (x := 5) (by unfold P_sca; omega), a2.get (k := 84) (x := 0) (by unfold Q_sca; omega)]; exact h.x,
  by rw [a1.get (k := 33) (x := 2) (by unfold P_sca; omega), a2.get (k := 84) (x := 65) (by unfold Q_sca; omega)]; exact h.cr,
  g,
  by rw [a1.get (k := 33) (x := 4) (by unfold P_sca; omega), a2.get (k := 84) (x := 67) (by unfold Q_sca; omega)]; exact h.cu,
  by rw [a1.get (k := 33) (x := 5) (by unfold P_sca; omega), a2.get (k := 84) (x := 68) (by unfold Q_sca; omega)]; exact h.cd,
  by rw [a1.get (k := 24) (x := 4) (by unfold P_sca; omega), a2.get (k := 84) (x := 1) (by unfold Q_sca; omega)]; exact h.ru,
  fun j hj => by rw [a1.get (k := 25) (x := j) (by unfold P_sca; omega), a2.get (k := 85) (x := j) (by unfold Q_sca; omega)]; exact h.rg j hj,
  fun j hj h20 => by rw [a1.get (k := 31) (x := j) (by unfold P_sca; omega)]; exact h.sh j hj h20⟩
def P_scu (k x : Nat) : Prop := k = 33 ∧ x = 4
def Q_scu (k x : Nat) : Prop := k = 84 ∧ x = 67
theorem RM.scu {m : Nat} {D : Nat → Prop} {σ τ σ' τ' : pS} (h : RM m D σ τ) (a1 : FR P_scu σ σ') (a2 : FR Q_scu τ τ') (g : σ' 33 4 = τ' 84 67) : RM m D σ' τ' := ⟨fun j hj => by rw [a1.get (k := 39) (x := j) (by unfold P_scu; omega), a2.get (k := 118) (x := j) (by unfold Q_scu; omega)]; exact h.st j hj,
  fun j hj q => by rw [a1.get (k := 39) (x := j) (by unfold P_scu; omega)] at q; rw [a1.get (k := 40) (x := j) (by unfold P_scu; omega), a2.get (k := 119) (x := j) (by unfold Q_scu; omega)]; exact h.ti j hj q,
  fun j hj => by rw [a1.get (k := 41) (x := j) (by unfold P_scu; omega), a2.get (k := 126) (x := j) (by unfold Q_scu; omega)]; exact h.rt j hj,
  fun j hj q => by rw [a1.get (k := 41) (x := j) (by unfold P_scu; omega)] at q; have z := h.re j hj q; rw [a1.get (k := 5) (x := j) (by unfold P_scu; omega), a1.get (k := 37) (x := j) (by unfold P_scu; omega), a1.get (k := 7) (x := j) (by unfold P_scu; omega), a2.get (k := 132) (x := j) (by unfold Q_scu; omega)]; exact ⟨z.1, z.2.1, fun e he => by rw [a1.get (k := 42) (x := 4 * j + e) (by unfold P_scu; omega), a2.get (k := 125) (x := 4 * j + e) (by unfold Q_scu; omega)]; exact z.2.2 e he⟩,
  fun j hj q => by have z := h.va j hj q; rw [a1.get (k := 36) (x := j) (by unfold P_scu; omega), a1.get (k := 34) (x := j) (by unfold P_scu; omega), a1.get (k := 5) (x := j) (by unfold P_scu; omega), a1.get (k := 37) (x := j) (by unfold P_scu; omega), a1.get (k := 7) (x := j) (by unfold P_scu; omega), a2.get (k := 120) (x := j) (by unfold Q_scu; omega), a2.get (k := 122) (x := j) (by unfold Q_scu; omega), a2.get (k := 121) (x := j) (by unfold Q_scu; omega)]; exact ⟨z.1, z.2.1, z.2.2.1, fun k e he => by rw [a1.get (k := 38) (x := 4 * j + e) (by unfold P_scu; omega), a2.get (k := 124) (x := 4 * j + e) (by unfold Q_scu; omega)]; exact z.2.2.2 k e he⟩,
  fun j hj q => by rw [a1.get (k := 39) (x := j) (by unfold P_scu; omega)] at q; exact h.dn j hj q,
  fun j hj q => by rw [a1.get (k := 39) (x := j) (by unfold P_scu; omega)] at q; rw [a1.get (k := 12) (x := j) (by unfold P_scu; omega), a1.get (k := 13) (x := j) (by unfold P_scu; omega)]; exact h.so j hj q,
  fun j hj => by rw [a1.get (k := 35) (x := j) (by unfold P_scu; omega), a2.get (k := 123) (x := j) (by unfold Q_scu; omega)]; exact h.rp j hj,
  fun j hj => by rw [a1.get (k := 30) (x := j) (by unfold P_scu; omega), a2.get (k := 128) (x := j) (by unfold Q_scu; omega)]; exact h.me j hj,
  fun j hj => by rw [a1.get (k := 26) (x := j) (by unfold P_scu; omega), a2.get (k := 127) (x := j) (by unfold Q_scu; omega)]; exact h.m0 j hj,
  fun j hj => by rw [a1.get (k := 31) (x := j) (by unfold P_scu; omega), a2.get (k := 87) (x := j) (by unfold Q_scu; omega)]; exact h.se j hj,
  by rw [a1.get (k := 28) (x := 3) (by unfold P_scu; omega), a2.get (k := 84) (x := 3) (by unfold Q_scu; omega)]; exact h.ns,
  by rw [a1.get (k := 28) (x := 5) (by unfold P_scu; omega), a2.get (k := 84) (x := 0) (by unfold Q_scu; omega)]; exact h.x,
  by rw [a1.get (k := 33) (x := 2) (by unfold P_scu; omega), a2.get (k := 84) (x := 65) (by unfold Q_scu; omega)]; exact h.cr,
  by rw [a1.get (k := 33) (x := 3) (by unfold P_scu; omega), a2.get (k := 84) (x := 66) (by unfold Q_scu; omega)]; exact h.ca,
  g,
  by rw [a1.get (k := 33) (x := 5) (by unfold P_scu; omega), a2.get (k := 84) (x := 68) (by unfold Q_scu; omega)]; exact h.cd,
  by rw [a1.get (k := 24) (x := 4) (by unfold P_scu; omega), a2.get (k := 84) (x := 1) (by unfold Q_scu; omega)]; exact h.ru,
  fun j hj => by rw [a1.get (k := 25) (x := j) (by unfold P_scu; omega), a2.get (k := 85) (x := j) (by unfold Q_scu; omega)]; exact h.rg j hj,
  fun j hj h20 => by rw [a1.get (k := 31) (x := j) (by unfold P_scu; omega)]; exact h.sh j hj h20⟩
def P_scd (k x : Nat) : Prop := k = 33 ∧ x = 5
def Q_scd (k x : Nat) : Prop := k = 84 ∧ x = 68
theorem RM.scd {m : Nat} {D : Nat → Prop} {σ τ σ' τ' : pS} (h : RM m D σ τ) (a1 : FR P_scd σ σ') (a2 : FR Q_scd τ τ') (g : σ' 33 5 = τ' 84 68) : RM m D σ' τ' := ⟨fun j hj => by rw [a1.get (k := 39) (x := j) (by unfold P_scd; omega), a2.get (k := 118) (x := j) (by unfold Q_scd; omega)]; exact h.st j hj,
  fun j hj q => by rw [a1.get (k := 39) (x := j) (by unfold P_scd; omega)] at q; rw [a1.get (k := 40) (x := j) (by unfold P_scd; omega), a2.get (k := 119) (x := j) (by unfold Q_scd; omega)]; exact h.ti j hj q,
  fun j hj => by rw [a1.get (k := 41) (x := j) (by unfold P_scd; omega), a2.get (k := 126) (x := j) (by unfold Q_scd; omega)]; exact h.rt j hj,
  fun j hj q => by rw [a1.get (k := 41) (x := j) (by unfold P_scd; omega)] at q; have z := h.re j hj q; rw [a1.get (k := 5) (x := j) (by unfold P_scd; omega), a1.get (k := 37) (x := j) (by unfold P_scd; omega), a1.get (k := 7) (x := j) (by unfold P_scd; omega), a2.get (k := 132) (x := j) (by unfold Q_scd; omega)]; exact ⟨z.1, z.2.1, fun e he => by rw [a1.get (k := 42) (x := 4 * j + e) (by unfold P_scd; omega), a2.get (k := 125) (x := 4 * j + e) (by unfold Q_scd; omega)]; exact z.2.2 e he⟩,
  fun j hj q => by have z := h.va j hj q; rw [a1.get (k := 36) (x := j) (by unfold P_scd; omega), a1.get (k := 34) (x := j) (by unfold P_scd; omega), a1.get (k := 5) (x := j) (by unfold P_scd; omega), a1.get (k := 37) (x := j) (by unfold P_scd; omega), a1.get (k := 7) (x := j) (by unfold P_scd; omega), a2.get (k := 120) (x := j) (by unfold Q_scd; omega), a2.get (k := 122) (x := j) (by unfold Q_scd; omega), a2.get (k := 121) (x := j) (by unfold Q_scd; omega)]; exact ⟨z.1, z.2.1, z.2.2.1, fun k e he => by rw [a1.get (k := 38) (x := 4 * j + e) (by unfold P_scd; omega), a2.get (k := 124) (x := 4 * j + e) (by unfold Q_scd; omega)]; exact z.2.2.2 k e he⟩,
  fun j hj q => by rw [a1.get (k := 39) (x := j) (by unfold P_scd; omega)] at q; exact h.dn j hj q,
  fun j hj q => by rw [a1.get (k := 39) (x := j) (by unfold P_scd; omega)] at q; rw [a1.get (k := 12) (x := j) (by unfold P_scd; omega), a1.get (k := 13) (x := j) (by unfold P_scd; omega)]; exact h.so j hj q,
  fun j hj => by rw [a1.get (k := 35) (x := j) (by unfold P_scd; omega), a2.get (k := 123) (x := j) (by unfold Q_scd; omega)]; exact h.rp j hj,
  fun j hj => by rw [a1.get (k := 30) (x := j) (by unfold P_scd; omega), a2.get (k := 128) (x := j) (by unfold Q_scd; omega)]; exact h.me j hj,
  fun j hj => by rw [a1.get (k := 26) (x := j) (by unfold P_scd; omega), a2.get (k := 127) (x := j) (by unfold Q_scd; omega)]; exact h.m0 j hj,
  fun j hj => by rw [a1.get (k := 31) (x := j) (by unfold P_scd; omega), a2.get (k := 87) (x := j) (by unfold Q_scd; omega)]; exact h.se j hj,
  by rw [a1.get (k := 28) (x := 3) (by unfold P_scd; omega), a2.get (k := 84) (x := 3) (by unfold Q_scd; omega)]; exact h.ns,
  by rw [a1.get (k := 28) (x := 5) (by unfold P_scd; omega), a2.get (k := 84) (x := 0) (by unfold Q_scd; omega)]; exact h.x,
  by rw [a1.get (k := 33) (x := 2) (by unfold P_scd; omega), a2.get (k := 84) (x := 65) (by unfold Q_scd; omega)]; exact h.cr,
  by rw [a1.get (k := 33) (x := 3) (by unfold P_scd; omega), a2.get (k := 84) (x := 66) (by unfold Q_scd; omega)]; exact h.ca,
  by rw [a1.get (k := 33) (x := 4) (by unfold P_scd; omega), a2.get (k := 84) (x := 67) (by unfold Q_scd; omega)]; exact h.cu,
  g,
  by rw [a1.get (k := 24) (x := 4) (by unfold P_scd; omega), a2.get (k := 84) (x := 1) (by unfold Q_scd; omega)]; exact h.ru,
  fun j hj => by rw [a1.get (k := 25) (x := j) (by unfold P_scd; omega), a2.get (k := 85) (x := j) (by unfold Q_scd; omega)]; exact h.rg j hj,
  fun j hj h20 => by rw [a1.get (k := 31) (x := j) (by unfold P_scd; omega)]; exact h.sh j hj h20⟩
def P_sst0 (k x : Nat) : Prop := k = 39
def Q_sst0 (k x : Nat) : Prop := k = 118
theorem RM.sst0 {m : Nat} {D : Nat → Prop} {σ τ σ' τ' : pS} (h : RM m D σ τ) (a1 : FR P_sst0 σ σ') (a2 : FR Q_sst0 τ τ') (g : ∀ j, j < m → (σ' 39 j = τ' 118 j ∧ (σ' 39 j = 0 ∨ σ' 39 j = σ 39 j))) : RM m D σ' τ' := ⟨fun j hj => by have z := h.st j hj; have y := g j hj; omega,
  fun j hj q => by have y := g j hj; rw [a1.get (k := 40) (x := j) (by unfold P_sst0; omega), a2.get (k := 119) (x := j) (by unfold Q_sst0; omega)]; exact h.ti j hj (by omega),
  fun j hj => by rw [a1.get (k := 41) (x := j) (by unfold P_sst0; omega), a2.get (k := 126) (x := j) (by unfold Q_sst0; omega)]; exact h.rt j hj,
  fun j hj q => by rw [a1.get (k := 41) (x := j) (by unfold P_sst0; omega)] at q; have z := h.re j hj q; rw [a1.get (k := 5) (x := j) (by unfold P_sst0; omega), a1.get (k := 37) (x := j) (by unfold P_sst0; omega), a1.get (k := 7) (x := j) (by unfold P_sst0; omega), a2.get (k := 132) (x := j) (by unfold Q_sst0; omega)]; exact ⟨z.1, z.2.1, fun e he => by rw [a1.get (k := 42) (x := 4 * j + e) (by unfold P_sst0; omega), a2.get (k := 125) (x := 4 * j + e) (by unfold Q_sst0; omega)]; exact z.2.2 e he⟩,
  fun j hj q => by have z := h.va j hj q; rw [a1.get (k := 36) (x := j) (by unfold P_sst0; omega), a1.get (k := 34) (x := j) (by unfold P_sst0; omega), a1.get (k := 5) (x := j) (by unfold P_sst0; omega), a1.get (k := 37) (x := j) (by unfold P_sst0; omega), a1.get (k := 7) (x := j) (by unfold P_sst0; omega), a2.get (k := 120) (x := j) (by unfold Q_sst0; omega), a2.get (k := 122) (x := j) (by unfold Q_sst0; omega), a2.get (k := 121) (x := j) (by unfold Q_sst0; omega)]; exact ⟨z.1, z.2.1, z.2.2.1, fun k e he => by rw [a1.get (k := 38) (x := 4 * j + e) (by unfold P_sst0; omega), a2.get (k := 124) (x := 4 * j + e) (by unfold Q_sst0; omega)]; exact z.2.2.2 k e he⟩,
  fun j hj q => by have y := g j hj; exact h.dn j hj (by omega),
  fun j hj q => by have y := g j hj; rw [a1.get (k := 12) (x := j) (by unfold P_sst0; omega), a1.get (k := 13) (x := j) (by unfold P_sst0; omega)]; exact h.so j hj (by omega),
  fun j hj => by rw [a1.get (k := 35) (x := j) (by unfold P_sst0; omega), a2.get (k := 123) (x := j) (by unfold Q_sst0; omega)]; exact h.rp j hj,
  fun j hj => by rw [a1.get (k := 30) (x := j) (by unfold P_sst0; omega), a2.get (k := 128) (x := j) (by unfold Q_sst0; omega)]; exact h.me j hj,
  fun j hj => by rw [a1.get (k := 26) (x := j) (by unfold P_sst0; omega), a2.get (k := 127) (x := j) (by unfold Q_sst0; omega)]; exact h.m0 j hj,
  fun j hj => by rw [a1.get (k := 31) (x := j) (by unfold P_sst0; omega), a2.get (k := 87) (x := j) (by unfold Q_sst0; omega)]; exact h.se j hj,
  by rw [a1.get (k := 28) (x := 3) (by unfold P_sst0; omega), a2.get (k := 84) (x := 3) (by unfold Q_sst0; omega)]; exact h.ns,
  by rw [a1.get (k := 28) (x := 5) (by unfold P_sst0; omega), a2.get (k := 84) (x := 0) (by unfold Q_sst0; omega)]; exact h.x,
  by rw [a1.get (k := 33) (x := 2) (by unfold P_sst0; omega), a2.get (k := 84) (x := 65) (by unfold Q_sst0; omega)]; exact h.cr,
  by rw [a1.get (k := 33) (x := 3) (by unfold P_sst0; omega), a2.get (k := 84) (x := 66) (by unfold Q_sst0; omega)]; exact h.ca,
  by rw [a1.get (k := 33) (x := 4) (by unfold P_sst0; omega), a2.get (k := 84) (x := 67) (by unfold Q_sst0; omega)]; exact h.cu,
  by rw [a1.get (k := 33) (x := 5) (by unfold P_sst0; omega), a2.get (k := 84) (x := 68) (by unfold Q_sst0; omega)]; exact h.cd,
  by rw [a1.get (k := 24) (x := 4) (by unfold P_sst0; omega), a2.get (k := 84) (x := 1) (by unfold Q_sst0; omega)]; exact h.ru,
  fun j hj => by rw [a1.get (k := 25) (x := j) (by unfold P_sst0; omega), a2.get (k := 85) (x := j) (by unfold Q_sst0; omega)]; exact h.rg j hj,
  fun j hj h20 => by rw [a1.get (k := 31) (x := j) (by unfold P_sst0; omega)]; exact h.sh j hj h20⟩
def P_srp (k x : Nat) : Prop := k = 35
def Q_srp (k x : Nat) : Prop := k = 123
theorem RM.srp {m : Nat} {D : Nat → Prop} {σ τ σ' τ' : pS} (h : RM m D σ τ) (a1 : FR P_srp σ σ') (a2 : FR Q_srp τ τ') (g : ∀ j, j < m → σ' 35 j = τ' 123 j) : RM m D σ' τ' := ⟨fun j hj => by rw [a1.get (k := 39) (x := j) (by unfold P_srp; omega), a2.get (k := 118) (x := j) (by unfold Q_srp; omega)]; exact h.st j hj,
  fun j hj q => by rw [a1.get (k := 39) (x := j) (by unfold P_srp; omega)] at q; rw [a1.get (k := 40) (x := j) (by unfold P_srp; omega), a2.get (k := 119) (x := j) (by unfold Q_srp; omega)]; exact h.ti j hj q,
  fun j hj => by rw [a1.get (k := 41) (x := j) (by unfold P_srp; omega), a2.get (k := 126) (x := j) (by unfold Q_srp; omega)]; exact h.rt j hj,
  fun j hj q => by rw [a1.get (k := 41) (x := j) (by unfold P_srp; omega)] at q; have z := h.re j hj q; rw [a1.get (k := 5) (x := j) (by unfold P_srp; omega), a1.get (k := 37) (x := j) (by unfold P_srp; omega), a1.get (k := 7) (x := j) (by unfold P_srp; omega), a2.get (k := 132) (x := j) (by unfold Q_srp; omega)]; exact ⟨z.1, z.2.1, fun e he => by rw [a1.get (k := 42) (x := 4 * j + e) (by unfold P_srp; omega), a2.get (k := 125) (x := 4 * j + e) (by unfold Q_srp; omega)]; exact z.2.2 e he⟩,
  fun j hj q => by have z := h.va j hj q; rw [a1.get (k := 36) (x := j) (by unfold P_srp; omega), a1.get (k := 34) (x := j) (by unfold P_srp; omega), a1.get (k := 5) (x := j) (by unfold P_srp; omega), a1.get (k := 37) (x := j) (by unfold P_srp; omega), a1.get (k := 7) (x := j) (by unfold P_srp; omega), a2.get (k := 120) (x := j) (by unfold Q_srp; omega), a2.get (k := 122) (x := j) (by unfold Q_srp; omega), a2.get (k := 121) (x := j) (by unfold Q_srp; omega)]; exact ⟨z.1, z.2.1, z.2.2.1, fun k e he => by rw [a1.get (k := 38) (x := 4 * j + e) (by unfold P_srp; omega), a2.get (k := 124) (x := 4 * j + e) (by unfold Q_srp; omega)]; exact z.2.2.2 k e he⟩,
  fun j hj q => by rw [a1.get (k := 39) (x := j) (by unfold P_srp; omega)] at q; exact h.dn j hj q,
  fun j hj q => by rw [a1.get (k := 39) (x := j) (by unfold P_srp; omega)] at q; rw [a1.get (k := 12) (x := j) (by unfold P_srp; omega), a1.get (k := 13) (x := j) (by unfold P_srp; omega)]; exact h.so j hj q,
  g,
  fun j hj => by rw [a1.get (k := 30) (x := j) (by unfold P_srp; omega), a2.get (k := 128) (x := j) (by unfold Q_srp; omega)]; exact h.me j hj,
  fun j hj => by rw [a1.get (k := 26) (x := j) (by unfold P_srp; omega), a2.get (k := 127) (x := j) (by unfold Q_srp; omega)]; exact h.m0 j hj,
  fun j hj => by rw [a1.get (k := 31) (x := j) (by unfold P_srp; omega), a2.get (k := 87) (x := j) (by unfold Q_srp; omega)]; exact h.se j hj,
  by rw [a1.get (k := 28) (x := 3) (by unfold P_srp; omega), a2.get (k := 84) (x := 3) (by unfold Q_srp; omega)]; exact h.ns,
  by rw [a1.get (k := 28) (x := 5) (by unfold P_srp; omega), a2.get (k := 84) (x := 0) (by unfold Q_srp; omega)]; exact h.x,
  by rw [a1.get (k := 33) (x := 2) (by unfold P_srp; omega), a2.get (k := 84) (x := 65) (by unfold Q_srp; omega)]; exact h.cr,
  by rw [a1.get (k := 33) (x := 3) (by unfold P_srp; omega), a2.get (k := 84) (x := 66) (by unfold Q_srp; omega)]; exact h.ca,
  by rw [a1.get (k := 33) (x := 4) (by unfold P_srp; omega), a2.get (k := 84) (x := 67) (by unfold Q_srp; omega)]; exact h.cu,
  by rw [a1.get (k := 33) (x := 5) (by unfold P_srp; omega), a2.get (k := 84) (x := 68) (by unfold Q_srp; omega)]; exact h.cd,
  by rw [a1.get (k := 24) (x := 4) (by unfold P_srp; omega), a2.get (k := 84) (x := 1) (by unfold Q_srp; omega)]; exact h.ru,
  fun j hj => by rw [a1.get (k := 25) (x := j) (by unfold P_srp; omega), a2.get (k := 85) (x := j) (by unfold Q_srp; omega)]; exact h.rg j hj,
  fun j hj h20 => by rw [a1.get (k := 31) (x := j) (by unfold P_srp; omega)]; exact h.sh j hj h20⟩
def P_sse (k x : Nat) : Prop := k = 31 ∨ (k = 28 ∧ x = 3)
def Q_sse (k x : Nat) : Prop := k = 87 ∨ (k = 84 ∧ x = 3)
theorem RM.sse {m : Nat} {D : Nat → Prop} {σ τ σ' τ' : pS} (h : RM m D σ τ) (a1 : FR P_sse σ σ') (a2 : FR Q_sse τ τ') (g : ∀ j, j < m → σ' 31 j = τ' 87 j ∧ -1 ≤ σ' 31 j ∧ σ' 31 j ≤ 15) (g2 : σ' 28 3 = τ' 84 3 ∧ 0 ≤ σ' 28 3 ∧ σ' 28 3 ≤ 15) (g3 : ∀ j, m ≤ j → j < 20 → σ' 31 j = -1) : RM m D σ' τ' := ⟨fun j hj => by rw [a1.get (k := 39) (x := j) (by unfold P_sse; omega), a2.get (k := 118) (x := j) (by unfold Q_sse; omega)]; exact h.st j hj,
  fun j hj q => by rw [a1.get (k := 39) (x := j) (by unfold P_sse; omega)] at q; rw [a1.get (k := 40) (x := j) (by unfold P_sse; omega), a2.get (k := 119) (x := j) (by unfold Q_sse; omega)]; exact h.ti j hj q,
  fun j hj => by rw [a1.get (k := 41) (x := j) (by unfold P_sse; omega), a2.get (k := 126) (x := j) (by unfold Q_sse; omega)]; exact h.rt j hj,
  fun j hj q => by rw [a1.get (k := 41) (x := j) (by unfold P_sse; omega)] at q; have z := h.re j hj q; rw [a1.get (k := 5) (x := j) (by unfold P_sse; omega), a1.get (k := 37) (x := j) (by unfold P_sse; omega), a1.get (k := 7) (x := j) (by unfold P_sse; omega), a2.get (k := 132) (x := j) (by unfold Q_sse; omega)]; exact ⟨z.1, z.2.1, fun e he => by rw [a1.get (k := 42) (x := 4 * j + e) (by unfold P_sse; omega), a2.get (k := 125) (x := 4 * j + e) (by unfold Q_sse; omega)]; exact z.2.2 e he⟩,
  fun j hj q => by have z := h.va j hj q; rw [a1.get (k := 36) (x := j) (by unfold P_sse; omega), a1.get (k := 34) (x := j) (by unfold P_sse; omega), a1.get (k := 5) (x := j) (by unfold P_sse; omega), a1.get (k := 37) (x := j) (by unfold P_sse; omega), a1.get (k := 7) (x := j) (by unfold P_sse; omega), a2.get (k := 120) (x := j) (by unfold Q_sse; omega), a2.get (k := 122) (x := j) (by unfold Q_sse; omega), a2.get (k := 121) (x := j) (by unfold Q_sse; omega)]; exact ⟨z.1, z.2.1, z.2.2.1, fun k e he => by rw [a1.get (k := 38) (x := 4 * j + e) (by unfold P_sse; omega), a2.get (k := 124) (x := 4 * j + e) (by unfold Q_sse; omega)]; exact z.2.2.2 k e he⟩,
  fun j hj q => by rw [a1.get (k := 39) (x := j) (by unfold P_sse; omega)] at q; exact h.dn j hj q,
  fun j hj q => by rw [a1.get (k := 39) (x := j) (by unfold P_sse; omega)] at q; rw [a1.get (k := 12) (x := j) (by unfold P_sse; omega), a1.get (k := 13) (x := j) (by unfold P_sse; omega)]; exact h.so j hj q,
  fun j hj => by rw [a1.get (k := 35) (x := j) (by unfold P_sse; omega), a2.get (k := 123) (x := j) (by unfold Q_sse; omega)]; exact h.rp j hj,
  fun j hj => by rw [a1.get (k := 30) (x := j) (by unfold P_sse; omega), a2.get (k := 128) (x := j) (by unfold Q_sse; omega)]; exact h.me j hj,
  fun j hj => by rw [a1.get (k := 26) (x := j) (by unfold P_sse; omega), a2.get (k := 127) (x := j) (by unfold Q_sse; omega)]; exact h.m0 j hj,
  g,
  g2,
  by rw [a1.get (k := 28) (x := 5) (by unfold P_sse; omega), a2.get (k := 84) (x := 0) (by unfold Q_sse; omega)]; exact h.x,
  by rw [a1.get (k := 33) (x := 2) (by unfold P_sse; omega), a2.get (k := 84) (x := 65) (by unfold Q_sse; omega)]; exact h.cr,
  by rw [a1.get (k := 33) (x := 3) (by unfold P_sse; omega), a2.get (k := 84) (x := 66) (by unfold Q_sse; omega)]; exact h.ca,
  by rw [a1.get (k := 33) (x := 4) (by unfold P_sse; omega), a2.get (k := 84) (x := 67) (by unfold Q_sse; omega)]; exact h.cu,
  by rw [a1.get (k := 33) (x := 5) (by unfold P_sse; omega), a2.get (k := 84) (x := 68) (by unfold Q_sse; omega)]; exact h.cd,
  by rw [a1.get (k := 24) (x := 4) (by unfold P_sse; omega), a2.get (k := 84) (x := 1) (by unfold Q_sse; omega)]; exact h.ru,
  fun j hj => by rw [a1.get (k := 25) (x := j) (by unfold P_sse; omega), a2.get (k := 85) (x := j) (by unfold Q_sse; omega)]; exact h.rg j hj,
  g3⟩
def P_sx (k x : Nat) : Prop := k = 28 ∧ x = 5
def Q_sx (k x : Nat) : Prop := k = 84 ∧ x = 0
theorem RM.sx {m : Nat} {D : Nat → Prop} {σ τ σ' τ' : pS} (h : RM m D σ τ) (a1 : FR P_sx σ σ') (a2 : FR Q_sx τ τ') (g : σ' 28 5 = τ' 84 0 ∧ 0 ≤ σ' 28 5 ∧ σ' 28 5 ≤ 65535) : RM m D σ' τ' := ⟨fun j hj => by rw [a1.get (k := 39) (x := j) (by unfold P_sx; omega), a2.get (k := 118) (x := j) (by unfold Q_sx; omega)]; exact h.st j hj,
  fun j hj q => by rw [a1.get (k := 39) (x := j) (by unfold P_sx; omega)] at q; rw [a1.get (k := 40) (x := j) (by unfold P_sx; omega), a2.get (k := 119) (x := j) (by unfold Q_sx; omega)]; exact h.ti j hj q,
  fun j hj => by rw [a1.get (k := 41) (x := j) (by unfold P_sx; omega), a2.get (k := 126) (x := j) (by unfold Q_sx; omega)]; exact h.rt j hj,
  fun j hj q => by rw [a1.get (k := 41) (x := j) (by unfold P_sx; omega)] at q; have z := h.re j hj q; rw [a1.get (k := 5) (x := j) (by unfold P_sx; omega), a1.get (k := 37) (x := j) (by unfold P_sx; omega), a1.get (k := 7) (x := j) (by unfold P_sx; omega), a2.get (k := 132) (x := j) (by unfold Q_sx; omega)]; exact ⟨z.1, z.2.1, fun e he => by rw [a1.get (k := 42) (x := 4 * j + e) (by unfold P_sx; omega), a2.get (k := 125) (x := 4 * j + e) (by unfold Q_sx; omega)]; exact z.2.2 e he⟩,
  fun j hj q => by have z := h.va j hj q; rw [a1.get (k := 36) (x := j) (by unfold P_sx; omega), a1.get (k := 34) (x := j) (by unfold P_sx; omega), a1.get (k := 5) (x := j) (by unfold P_sx; omega), a1.get (k := 37) (x := j) (by unfold P_sx; omega), a1.get (k := 7) (x := j) (by unfold P_sx; omega), a2.get (k := 120) (x := j) (by unfold Q_sx; omega), a2.get (k := 122) (x := j) (by unfold Q_sx; omega), a2.get (k := 121) (x := j) (by unfold Q_sx; omega)]; exact ⟨z.1, z.2.1, z.2.2.1, fun k e he => by rw [a1.get (k := 38) (x := 4 * j + e) (by unfold P_sx; omega), a2.get (k := 124) (x := 4 * j + e) (by unfold Q_sx; omega)]; exact z.2.2.2 k e he⟩,
  fun j hj q => by rw [a1.get (k := 39) (x := j) (by unfold P_sx; omega)] at q; exact h.dn j hj q,
  fun j hj q => by rw [a1.get (k := 39) (x := j) (by unfold P_sx; omega)] at q; rw [a1.get (k := 12) (x := j) (by unfold P_sx; omega), a1.get (k := 13) (x := j) (by unfold P_sx; omega)]; exact h.so j hj q,
  fun j hj => by rw [a1.get (k := 35) (x := j) (by unfold P_sx; omega), a2.get (k := 123) (x := j) (by unfold Q_sx; omega)]; exact h.rp j hj,
  fun j hj => by rw [a1.get (k := 30) (x := j) (by unfold P_sx; omega), a2.get (k := 128) (x := j) (by unfold Q_sx; omega)]; exact h.me j hj,
  fun j hj => by rw [a1.get (k := 26) (x := j) (by unfold P_sx; omega), a2.get (k := 127) (x := j) (by unfold Q_sx; omega)]; exact h.m0 j hj,
  fun j hj => by rw [a1.get (k := 31) (x := j) (by unfold P_sx; omega), a2.get (k := 87) (x := j) (by unfold Q_sx; omega)]; exact h.se j hj,
  by rw [a1.get (k := 28) (x := 3) (by unfold P_sx; omega), a2.get (k := 84) (x := 3) (by unfold Q_sx; omega)]; exact h.ns,
  g,
  by rw [a1.get (k := 33) (x := 2) (by unfold P_sx; omega), a2.get (k := 84) (x := 65) (by unfold Q_sx; omega)]; exact h.cr,
  by rw [a1.get (k := 33) (x := 3) (by unfold P_sx; omega), a2.get (k := 84) (x := 66) (by unfold Q_sx; omega)]; exact h.ca,
  by rw [a1.get (k := 33) (x := 4) (by unfold P_sx; omega), a2.get (k := 84) (x := 67) (by unfold Q_sx; omega)]; exact h.cu,
  by rw [a1.get (k := 33) (x := 5) (by unfold P_sx; omega), a2.get (k := 84) (x := 68) (by unfold Q_sx; omega)]; exact h.cd,
  by rw [a1.get (k := 24) (x := 4) (by unfold P_sx; omega), a2.get (k := 84) (x := 1) (by unfold Q_sx; omega)]; exact h.ru,
  fun j hj => by rw [a1.get (k := 25) (x := j) (by unfold P_sx; omega), a2.get (k := 85) (x := j) (by unfold Q_sx; omega)]; exact h.rg j hj,
  fun j hj h20 => by rw [a1.get (k := 31) (x := j) (by unfold P_sx; omega)]; exact h.sh j hj h20⟩
def P_sno (k x : Nat) : Prop := (k = 3 ∧ x = 11) ∨ k = 22 ∨ k = 23 ∨ k = 29 ∨ k = 43 ∨ k = 44 ∨ (k = 33 ∧ (x = 0 ∨ x = 1))
def Q_sno (k x : Nat) : Prop := k = 108 ∨ k = 109 ∨ k = 130 ∨ k = 131 ∨ k = 133 ∨ (k = 84 ∧ (x = 63 ∨ x = 64 ∨ x = 69 ∨ x = 70 ∨ x = 72))
theorem RM.sno {m : Nat} {D : Nat → Prop} {σ τ σ' τ' : pS} (h : RM m D σ τ) (a1 : FR P_sno σ σ') (a2 : FR Q_sno τ τ') : RM m D σ' τ' := ⟨fun j hj => by rw [a1.get (k := 39) (x := j) (by unfold P_sno; omega), a2.get (k := 118) (x := j) (by unfold Q_sno; omega)]; exact h.st j hj,
  fun j hj q => by rw [a1.get (k := 39) (x := j) (by unfold P_sno; omega)] at q; rw [a1.get (k := 40) (x := j) (by unfold P_sno; omega), a2.get (k := 119) (x := j) (by unfold Q_sno; omega)]; exact h.ti j hj q,
  fun j hj => by rw [a1.get (k := 41) (x := j) (by unfold P_sno; omega), a2.get (k := 126) (x := j) (by unfold Q_sno; omega)]; exact h.rt j hj,
  fun j hj q => by rw [a1.get (k := 41) (x := j) (by unfold P_sno; omega)] at q; have z := h.re j hj q; rw [a1.get (k := 5) (x := j) (by unfold P_sno; omega), a1.get (k := 37) (x := j) (by unfold P_sno; omega), a1.get (k := 7) (x := j) (by unfold P_sno; omega), a2.get (k := 132) (x := j) (by unfold Q_sno; omega)]; exact ⟨z.1, z.2.1, fun e he => by rw [a1.get (k := 42) (x := 4 * j + e) (by unfold P_sno; omega), a2.get (k := 125) (x := 4 * j + e) (by unfold Q_sno; omega)]; exact z.2.2 e he⟩,
  fun j hj q => by have z := h.va j hj q; rw [a1.get (k := 36) (x := j) (by unfold P_sno; omega), a1.get (k := 34) (x := j) (by unfold P_sno; omega), a1.get (k := 5) (x := j) (by unfold P_sno; omega), a1.get (k := 37) (x := j) (by unfold P_sno; omega), a1.get (k := 7) (x := j) (by unfold P_sno; omega), a2.get (k := 120) (x := j) (by unfold Q_sno; omega), a2.get (k := 122) (x := j) (by unfold Q_sno; omega), a2.get (k := 121) (x := j) (by unfold Q_sno; omega)]; exact ⟨z.1, z.2.1, z.2.2.1, fun k e he => by rw [a1.get (k := 38) (x := 4 * j + e) (by unfold P_sno; omega), a2.get (k := 124) (x := 4 * j + e) (by unfold Q_sno; omega)]; exact z.2.2.2 k e he⟩,
  fun j hj q => by rw [a1.get (k := 39) (x := j) (by unfold P_sno; omega)] at q; exact h.dn j hj q,
  fun j hj q => by rw [a1.get (k := 39) (x := j) (by unfold P_sno; omega)] at q; rw [a1.get (k := 12) (x := j) (by unfold P_sno; omega), a1.get (k := 13) (x := j) (by unfold P_sno; omega)]; exact h.so j hj q,
  fun j hj => by rw [a1.get (k := 35) (x := j) (by unfold P_sno; omega), a2.get (k := 123) (x := j) (by unfold Q_sno; omega)]; exact h.rp j hj,
  fun j hj => by rw [a1.get (k := 30) (x := j) (by unfold P_sno; omega), a2.get (k := 128) (x := j) (by unfold Q_sno; omega)]; exact h.me j hj,
  fun j hj => by rw [a1.get (k := 26) (x := j) (by unfold P_sno; omega), a2.get (k := 127) (x := j) (by unfold Q_sno; omega)]; exact h.m0 j hj,
  fun j hj => by rw [a1.get (k := 31) (x := j) (by unfold P_sno; omega), a2.get (k := 87) (x := j) (by unfold Q_sno; omega)]; exact h.se j hj,
  by rw [a1.get (k := 28) (x := 3) (by unfold P_sno; omega), a2.get (k := 84) (x := 3) (by unfold Q_sno; omega)]; exact h.ns,
  by rw [a1.get (k := 28) (x := 5) (by unfold P_sno; omega), a2.get (k := 84) (x := 0) (by unfold Q_sno; omega)]; exact h.x,
  by rw [a1.get (k := 33) (x := 2) (by unfold P_sno; omega), a2.get (k := 84) (x := 65) (by unfold Q_sno; omega)]; exact h.cr,
  by rw [a1.get (k := 33) (x := 3) (by unfold P_sno; omega), a2.get (k := 84) (x := 66) (by unfold Q_sno; omega)]; exact h.ca,
  by rw [a1.get (k := 33) (x := 4) (by unfold P_sno; omega), a2.get (k := 84) (x := 67) (by unfold Q_sno; omega)]; exact h.cu,
  by rw [a1.get (k := 33) (x := 5) (by unfold P_sno; omega), a2.get (k := 84) (x := 68) (by unfold Q_sno; omega)]; exact h.cd,
  by rw [a1.get (k := 24) (x := 4) (by unfold P_sno; omega), a2.get (k := 84) (x := 1) (by unfold Q_sno; omega)]; exact h.ru,
  fun j hj => by rw [a1.get (k := 25) (x := j) (by unfold P_sno; omega), a2.get (k := 85) (x := j) (by unfold Q_sno; omega)]; exact h.rg j hj,
  fun j hj h20 => by rw [a1.get (k := 31) (x := j) (by unfold P_sno; omega)]; exact h.sh j hj h20⟩
def P_un (k x : Nat) : Prop := k = 30 ∨ k = 41 ∨ (k = 33 ∧ x = 4)
def Q_un (k x : Nat) : Prop := k = 128 ∨ k = 126 ∨ (k = 84 ∧ x = 67)
theorem P_un_N (k x : Nat) (h : P_un k x) : PN k x := by unfold P_un at h; unfold PN; omega
theorem Q_un_N (k x : Nat) (h : Q_un k x) : QN k x := by unfold Q_un at h; unfold QN; omega
theorem un_lp {m : Nat} {rec : Nat → O8} {D : Nat → Prop} {i : Nat} : ∀ (c fu1 fu2 : Nat) (σ τ : pS), c ≤ m → c < fu1 → c < fu2 → PG m rec σ τ → RM m D σ τ → ∃ σ' τ', f_Mach_undoDownTo_3_p10 fu1 (i : Int) ((c : Int) - 1) σ = some (0, σ') ∧ f_M_undoesTo_84_p7 fu2 (i : Int) ((c : Int) - 1) τ = some (0, τ') ∧ RM m D σ' τ' ∧ FR P_un σ σ' ∧ FR Q_un τ τ' ∧ (∀ j, σ' 41 j = if i ≤ j ∧ j < c then 0 else σ 41 j)
  | 0, fu1, fu2, σ, τ, hc, h1, h2, hG, h => by
    obtain ⟨n1, rfl⟩ : ∃ n, fu1 = n + 1 := ⟨fu1 - 1, by omega⟩
    obtain ⟨n2, rfl⟩ : ∃ n, fu2 = n + 1 := ⟨fu2 - 1, by omega⟩
    refine ⟨σ, τ, ?_, ?_, h, FR.rf _ _, FR.rf _ _, fun j => by rw [if_neg (by omega)]⟩
    · show (if ((0 : Nat) : Int) - 1 < (i : Int) then _ else _) = _
      rw [if_pos (by omega)]
    · show (if ((0 : Nat) : Int) - 1 < (i : Int) then _ else _) = _
      rw [if_pos (by omega)]
  | c + 1, fu1, fu2, σ, τ, hc, h1, h2, hG, h => by
    obtain ⟨n1, rfl⟩ : ∃ n, fu1 = n + 1 := ⟨fu1 - 1, by omega⟩
    obtain ⟨n2, rfl⟩ : ∃ n, fu2 = n + 1 := ⟨fu2 - 1, by omega⟩
    have hm := hG.le
    have e : ((c + 1 : Nat) : Int) - 1 = (c : Int) := by omega
    rw [e]
    by_cases hi : (c : Int) < (i : Int)
    · refine ⟨σ, τ, ?_, ?_, h, FR.rf _ _, FR.rf _ _, fun j => by rw [if_neg (by omega)]⟩
      · show (if (c : Int) < (i : Int) then _ else _) = _
        rw [if_pos hi]
      · show (if (c : Int) < (i : Int) then _ else _) = _
        rw [if_pos hi]
    · have g : (0 : Int) ≤ (c : Int) ∧ (c : Int) < 20 := by omega
      have hr := h.rt c (by omega)
      have eX : f_Mach_undoDownTo_3_p10 (n1 + 1) (i : Int) (c : Int) σ = (if σ 41 c = 0 then f_Mach_undoDownTo_3_p10 n1 (i : Int) ((c : Int) - 1) σ else f_Mach_undoDownTo_3_p26 (f_Mach_undoDownTo_3_p10 n1) 4096 (i : Int) (c : Int) ((0 : Nat) : Int) σ) := by
        show (if (c : Int) < (i : Int) then _ else _) = _
        rw [if_neg hi, if_pos g, Int.toNat_natCast, pw_p (show c < 20 by omega) (by decide)]
        rfl
      have eM : f_M_undoesTo_84_p7 (n2 + 1) (i : Int) (c : Int) τ = (if τ 126 c = 0 then f_M_undoesTo_84_p7 n2 (i : Int) ((c : Int) - 1) τ else f_M_undoesTo_84_p26 (f_M_undoesTo_84_p7 n2) 4096 (i : Int) (c : Int) ((0 : Nat) : Int) τ) := by
        show (if (c : Int) < (i : Int) then _ else _) = _
        rw [if_neg hi, if_pos g, Int.toNat_natCast, pw_p (show c < 20 by omega) (by decide)]
        rfl
      rw [eX, eM, ← hr.1]
      by_cases h0 : σ 41 c = 0
      · rw [if_pos h0, if_pos h0]
        obtain ⟨σ', τ', q1, q2, q3, q4, q5, q6⟩ := un_lp (i := i) c n1 n2 σ τ (by omega) (by omega) (by omega) hG h
        refine ⟨σ', τ', q1, q2, q3, q4, q5, fun j => ?_⟩
        rw [q6 j]
        by_cases hj : i ≤ j ∧ j < c
        · rw [if_pos hj, if_pos (by omega)]
        · rw [if_neg hj]
          by_cases hjc : j = c
          · rw [if_pos (by omega), hjc, h0]
          · rw [if_neg (by omega)]
      · rw [if_neg h0, if_neg h0]
        obtain ⟨z1, z2, z3⟩ := h.re c (by omega) (by omega)
        obtain ⟨y1, y2⟩ := hG.sz (show c < m by omega) (by omega)
        obtain ⟨s, hs, hs4⟩ : ∃ s : Nat, σ 7 c = (s : Int) ∧ s ≤ 4 := ⟨(σ 7 c).toNat, by omega, by omega⟩
        obtain ⟨σ1, τ1, q1, q2, q3, q4, q5⟩ := un_26 (show c < 20 by omega) hs4 (K1 := f_Mach_undoDownTo_3_p10 n1) (K2 := f_M_undoesTo_84_p7 n2) (i1 := (i : Int)) (i2 := (i : Int)) s 0 4096 4096 σ τ (by omega) (by omega) (by omega) hs (y1.trans hs) z2 (fun q hq => z3 q (by rw [hs]; omega)) h.me
        rw [q1, q2]
        have hA := h.sme (q4.mono (fun k x hk => hk)) (q5.mono (fun k x hk => hk)) q3
        have hB := hA.srt0 (σ' := pU σ1 41 c 0) (τ' := pU τ1 126 c 0) (FR.u rfl) (FR.u rfl) (fun j hj => by
          by_cases hjc : j = c
          · rw [hjc, pU_s, pU_s]
            exact ⟨rfl, Or.inl rfl⟩
          · rw [pU_i _ _ _ _ hjc, pU_i _ _ _ _ hjc]
            exact ⟨(hA.rt j hj).1, Or.inr rfl⟩)
        have hC := hB.scu (σ' := pU (pU σ1 41 c 0) 33 4 (pw (σ 33 4 + 1))) (τ' := pU (pU τ1 126 c 0) 84 67 (pw (τ 84 67 + 1))) (FR.u ⟨rfl, rfl⟩) (FR.u ⟨rfl, rfl⟩) (by rw [pU_s, pU_s, h.cu])
        have f1 : FR P_un σ (pU (pU σ1 41 c 0) 33 4 (pw (σ 33 4 + 1))) := FR.tr (P := P_un) (FR.tr (P := P_un) (q4.mono (fun k x hk => Or.inl hk)) (FR.u (Or.inr (Or.inl rfl)))) (FR.u (Or.inr (Or.inr ⟨rfl, rfl⟩)))
        have f2 : FR Q_un τ (pU (pU τ1 126 c 0) 84 67 (pw (τ 84 67 + 1))) := FR.tr (P := Q_un) (FR.tr (P := Q_un) (q5.mono (fun k x hk => Or.inl hk)) (FR.u (Or.inr (Or.inl rfl)))) (FR.u (Or.inr (Or.inr ⟨rfl, rfl⟩)))
        obtain ⟨σ', τ', p1, p2, p3, p4, p5, p6⟩ := un_lp (i := i) c n1 n2 _ _ (by omega) (by omega) (by omega) (hG.fr (f1.mono P_un_N) (f2.mono Q_un_N)) hC
        refine ⟨σ', τ', p1, p2, p3, f1.tr p4, f2.tr p5, fun j => ?_⟩
        rw [p6 j]
        by_cases hj : i ≤ j ∧ j < c
        · rw [if_pos hj, if_pos (by omega)]
        · rw [if_neg hj, pU_c _ _ _ _ (by decide)]
          by_cases hjc : j = c
          · rw [hjc, pU_s, if_pos (by omega)]
          · rw [pU_i _ _ _ _ hjc, if_neg (by omega)]
            exact q4.get (by decide)
theorem un_ls {m : Nat} {rec : Nat → O8} {D : Nat → Prop} {i : Nat} {σ τ : pS} (hG : PG m rec σ τ) (h : RM m D σ τ) : ∃ σ' τ', f_Mach_undoDownTo_3 (i : Int) σ = some (0, σ') ∧ f_M_undoesTo_84 (i : Int) τ = some (0, τ') ∧ RM m D σ' τ' ∧ FR P_un σ σ' ∧ FR Q_un τ τ' ∧ (∀ j, σ' 41 j = if i ≤ j ∧ j < m then 0 else σ 41 j) := by
  have hm := hG.le
  have hx := un_lp (i := i) m 4096 4096 σ τ (Nat.le_refl _) (by omega) (by omega) hG h
  unfold f_Mach_undoDownTo_3 f_M_undoesTo_84
  rw [hG.cm, hG.mm, pw_id (by omega) (by omega)]
  exact hx
/-- the reference marks one as waiting -/
def mm1 (j : Nat) (τ : pS) : pS := pU (pU (pU τ 118 j 0) 123 j (pw (τ 123 j + 1))) 84 65 (pw (τ 84 65 + 1))
def mMk (j : Nat) (τ : pS) : Option pS := if τ 88 j = 3 then (if τ 126 j = 0 then some (mm1 j τ) else (f_M_undoesTo_84 (j : Int) (mm1 j τ)).map (fun q => q.2)) else some (mm1 j τ)
def P_mw (k x : Nat) : Prop := P_un k x ∨ k = 39 ∨ k = 35 ∨ (k = 33 ∧ x = 2)
def Q_mw (k x : Nat) : Prop := Q_un k x ∨ k = 118 ∨ k = 123 ∨ (k = 84 ∧ x = 65)
theorem P_mw_N (k x : Nat) (h : P_mw k x) : PN k x := by unfold P_mw P_un at h; unfold PN; omega
theorem Q_mw_N (k x : Nat) (h : Q_mw k x) : QN k x := by unfold Q_mw Q_un at h; unfold QN; omega
/-- one that is retired is done -/
def T2 (m : Nat) (σ : pS) : Prop := ∀ j, j < m → σ 41 j = 1 → σ 39 j = 2
theorem mw_ls {m : Nat} {rec : Nat → O8} {D : Nat → Prop} {j : Nat} {σ τ : pS} (hG : PG m rec σ τ) (h : RM m D σ τ) (hT : T2 m σ) (hj : j < m) : ∃ σ' τ', f_Mach_makeWait_3 (j : Int) σ = some (0, σ') ∧ mMk j τ = some τ' ∧ RM m D σ' τ' ∧ T2 m σ' ∧ FR P_mw σ σ' ∧ FR Q_mw τ τ' ∧ (∀ k, σ' 39 k = if k = j then 0 else σ 39 k) ∧ (∀ k, τ' 118 k = if k = j then 0 else τ 118 k) := by
  have hm := hG.le
  have g : (0 : Int) ≤ (j : Int) ∧ (j : Int) < 20 := by omega
  have hk := hG.kd hj
  have hr := h.rt j hj
  generalize hσ1 : pU (pU (pU σ 39 j 0) 35 j (pw (σ 35 j + 1))) 33 2 (pw (σ 33 2 + 1)) = σ1
  have eX : f_Mach_makeWait_3 (j : Int) σ = (if σ 41 j = 0 then some (0, σ1) else (f_Mach_undoDownTo_3 (j : Int) σ1).bind fun q6 => some (0, q6.2)) := by
    unfold f_Mach_makeWait_3
    rw [if_pos g, if_pos g, if_pos g, if_pos g, Int.toNat_natCast, hσ1]
  have a0 : FR P_mw σ (pU σ 39 j 0) := FR.u (Or.inr (Or.inl rfl))
  have a1 : FR P_mw (pU σ 39 j 0) (pU (pU σ 39 j 0) 35 j (pw (σ 35 j + 1))) := FR.u (Or.inr (Or.inr (Or.inl rfl)))
  have a2 : FR P_mw (pU (pU σ 39 j 0) 35 j (pw (σ 35 j + 1))) σ1 := by rw [← hσ1]; exact FR.u (Or.inr (Or.inr (Or.inr ⟨rfl, rfl⟩)))
  have b0 : FR Q_mw τ (pU τ 118 j 0) := FR.u (Or.inr (Or.inl rfl))
  have b1 : FR Q_mw (pU τ 118 j 0) (pU (pU τ 118 j 0) 123 j (pw (τ 123 j + 1))) := FR.u (Or.inr (Or.inr (Or.inl rfl)))
  have b2 : FR Q_mw (pU (pU τ 118 j 0) 123 j (pw (τ 123 j + 1))) (mm1 j τ) := FR.u (Or.inr (Or.inr (Or.inr ⟨rfl, rfl⟩)))
  have f1 : FR P_mw σ σ1 := (a0.tr a1).tr a2
  have f2 : FR Q_mw τ (mm1 j τ) := (b0.tr b1).tr b2
  have h0 := h.sst0 (σ' := pU σ 39 j 0) (τ' := pU τ 118 j 0) (FR.u rfl) (FR.u rfl) (fun k hk => by
    by_cases hkj : k = j
    · rw [hkj, pU_s, pU_s]
      exact ⟨rfl, Or.inl rfl⟩
    · rw [pU_i _ _ _ _ hkj, pU_i _ _ _ _ hkj]
      exact ⟨(h.st k hk).1, Or.inr rfl⟩)
  have h1 := h0.srp (σ' := pU (pU σ 39 j 0) 35 j (pw (σ 35 j + 1))) (τ' := pU (pU τ 118 j 0) 123 j (pw (τ 123 j + 1))) (FR.u rfl) (FR.u rfl) (fun k hk => by
    by_cases hkj : k = j
    · rw [hkj, pU_s, pU_s, h.rp j hj]
    · rw [pU_i (pU σ 39 j 0) 35 _ 35 hkj, pU_i (pU τ 118 j 0) 123 _ 123 hkj]
      exact h0.rp k hk)
  have h2 : RM m D σ1 (mm1 j τ) := by
    rw [← hσ1]
    exact h1.scr (FR.u ⟨rfl, rfl⟩) (FR.u ⟨rfl, rfl⟩) (by unfold mm1; rw [pU_s, pU_s, h.cr])
  have s39 : ∀ k, σ1 39 k = if k = j then 0 else σ 39 k := fun k => by
    rw [← hσ1, pU_c _ _ _ _ (by decide), pU_c _ _ _ _ (by decide)]
    by_cases hkj : k = j
    · rw [hkj, pU_s, if_pos rfl]
    · rw [pU_i _ _ _ _ hkj, if_neg hkj]
  have s118 : ∀ k, mm1 j τ 118 k = if k = j then 0 else τ 118 k := fun k => by
    unfold mm1
    rw [pU_c _ _ _ _ (by decide), pU_c _ _ _ _ (by decide)]
    by_cases hkj : k = j
    · rw [hkj, pU_s, if_pos rfl]
    · rw [pU_i _ _ _ _ hkj, if_neg hkj]
  have s41 : ∀ k, σ1 41 k = σ 41 k := fun k => by rw [← hσ1, pU_c _ _ _ _ (by decide), pU_c _ _ _ _ (by decide), pU_c _ _ _ _ (by decide)]
  rw [eX]
  unfold mMk
  by_cases hz : σ 41 j = 0
  · rw [if_pos hz, ← hr.1, if_pos hz]
    refine ⟨σ1, mm1 j τ, rfl, by split <;> rfl, h2, fun k hk q => ?_, f1, f2, s39, s118⟩
    rw [s41] at q
    have hkj : k ≠ j := fun e => by rw [e, hz] at q; exact absurd q (by decide)
    rw [s39, if_neg hkj]
    exact hT k hk q
  · have hre := h.re j hj (by omega)
    have hG2 := hG.fr (f1.mono P_mw_N) (f2.mono Q_mw_N)
    obtain ⟨σ', τ', q1, q2, q3, q4, q5, q6⟩ := un_ls (i := j) hG2 h2
    rw [if_neg hz, q1, Option.bind_some, if_pos (by omega), ← hr.1, if_neg hz, q2]
    refine ⟨σ', τ', rfl, rfl, q3, fun k hk q => ?_, f1.tr (q4.mono (fun k x hh => Or.inl hh)), f2.tr (q5.mono (fun k x hh => Or.inl hh)), fun k => (q4.get (by unfold P_un; omega)).trans (s39 k), fun k => (q5.get (by unfold Q_un; omega)).trans (s118 k)⟩
    rw [q6 k] at q
    by_cases hjk : j ≤ k ∧ k < m
    · rw [if_pos hjk] at q
      omega
    · rw [if_neg hjk, s41] at q
      rw [q4.get (by unfold P_un; omega), s39, if_neg (by omega)]
      exact hT k hk q
/-- the list of the reference laid over a store -/
def ov (τ : pS) (L : Nat → Int) (n : Int) : pS := fun k x => if k = 131 then L x else if k = 84 ∧ x = 72 then n else τ k x
theorem ov_pU (τ : pS) (L : Nat → Int) (n : Int) {j i : Nat} (v : Int) (h1 : j ≠ 131) (h2 : ¬ (j = 84 ∧ i = 72)) : pU (ov τ L n) j i v = ov (pU τ j i v) L n := by
  funext k x
  show (if k = j ∧ x = i then v else (if k = 131 then L x else if k = 84 ∧ x = 72 then n else τ k x)) = (if k = 131 then L x else if k = 84 ∧ x = 72 then n else (if k = j ∧ x = i then v else τ k x))
  by_cases hk : k = j ∧ x = i
  · rw [if_pos hk, if_neg (by omega), if_neg (by omega), if_pos hk]
  · rw [if_neg hk]
    by_cases h3 : k = 131
    · rw [if_pos h3, if_pos h3]
    · rw [if_neg h3, if_neg h3]
      by_cases h4 : k = 84 ∧ x = 72
      · rw [if_pos h4, if_pos h4]
      · rw [if_neg h4, if_neg h4, if_neg hk]
theorem ov_g (τ : pS) (L : Nat → Int) (n : Int) {k x : Nat} (h1 : k ≠ 131) (h2 : ¬ (k = 84 ∧ x = 72)) : ov τ L n k x = τ k x := by
  unfold ov
  rw [if_neg h1, if_neg h2]
theorem un26_ov {L : Nat → Int} {n : Int} {K1 K2 : Int → Int → pS → Option (Int × pS)} (hK : ∀ a b τ, K2 a b (ov τ L n) = (K1 a b τ).map (fun q => (q.1, ov q.2 L n))) : ∀ (fu : Nat) (a b c : Int) (τ : pS), f_M_undoesTo_84_p26 K2 fu a b c (ov τ L n) = (f_M_undoesTo_84_p26 K1 fu a b c τ).map (fun q => (q.1, ov q.2 L n))
  | 0, a, b, c, τ => rfl
  | fu + 1, a, b, c, τ => by
    have e93 : ov τ L n 93 b.toNat = τ 93 b.toNat := ov_g _ _ _ (by decide) (by omega)
    have e132 : ov τ L n 132 b.toNat = τ 132 b.toNat := ov_g _ _ _ (by decide) (by omega)
    have e67 : ov τ L n 84 67 = τ 84 67 := ov_g _ _ _ (by decide) (by omega)
    show (if 0 ≤ b ∧ b < 20 then _ else _) = Option.map _ (if 0 ≤ b ∧ b < 20 then _ else _)
    by_cases g : 0 ≤ b ∧ b < 20
    · rw [if_pos g, if_pos g, e93]
      by_cases g2 : τ 93 b.toNat ≤ c
      · rw [if_pos g2, if_pos g2, if_pos g, if_pos g, e67, ov_pU _ _ _ _ (by decide) (by omega), ov_pU _ _ _ _ (by decide) (by omega)]
        exact hK _ _ _
      · simp only [if_neg g2, if_pos g, e132]
        by_cases g3 : 0 ≤ (pw ((pw (4 * b)) + c)) ∧ (pw ((pw (4 * b)) + c)) < 80
        · rw [if_pos g3, if_pos g3, if_pos (pAnd_63 _), if_pos (pAnd_63 _), ov_g _ _ _ (k := 125) (by decide) (by omega), ov_pU _ _ _ _ (by decide) (by omega)]
          exact un26_ov hK fu _ _ _ _
        · rw [if_neg g3, if_neg g3]
          rfl
    · rw [if_neg g, if_neg g]
      rfl
theorem un7_ov {L : Nat → Int} {n : Int} : ∀ (fu : Nat) (a b : Int) (τ : pS), f_M_undoesTo_84_p7 fu a b (ov τ L n) = (f_M_undoesTo_84_p7 fu a b τ).map (fun q => (q.1, ov q.2 L n))
  | 0, a, b, τ => rfl
  | fu + 1, a, b, τ => by
    show (if b < a then _ else _) = Option.map _ (if b < a then _ else _)
    by_cases g0 : b < a
    · rw [if_pos g0, if_pos g0]
      rfl
    · rw [if_neg g0, if_neg g0]
      by_cases g : 0 ≤ b ∧ b < 20
      · rw [if_pos g, if_pos g, ov_g _ _ _ (k := 126) (by decide) (by omega)]
        by_cases g2 : τ 126 b.toNat = 0
        · rw [if_pos g2, if_pos g2]
          exact un7_ov fu _ _ _
        · rw [if_neg g2, if_neg g2]
          exact un26_ov (un7_ov fu) _ _ _ _ _
      · rw [if_neg g, if_neg g]
        rfl
theorem mMk_ov (j : Nat) (τ : pS) (L : Nat → Int) (n : Int) : mMk j (ov τ L n) = (mMk j τ).map (fun t => ov t L n) := by
  have e1 : mm1 j (ov τ L n) = ov (mm1 j τ) L n := by
    unfold mm1
    rw [ov_g _ _ _ (k := 123) (by decide) (by omega), ov_g _ _ _ (k := 84) (x := 65) (by decide) (by omega), ov_pU _ _ _ _ (by decide) (by omega), ov_pU _ _ _ _ (by decide) (by omega), ov_pU _ _ _ _ (by decide) (by omega)]
  unfold mMk
  rw [e1, ov_g _ _ _ (k := 88) (by decide) (by omega), ov_g _ _ _ (k := 126) (by decide) (by omega)]
  by_cases h1 : τ 88 j = 3
  · rw [if_pos h1, if_pos h1]
    by_cases h2 : τ 126 j = 0
    · rw [if_pos h2, if_pos h2]
      rfl
    · rw [if_neg h2, if_neg h2]
      unfold f_M_undoesTo_84
      rw [ov_g _ _ _ (k := 84) (x := 2) (by decide) (by omega), un7_ov]
      cases f_M_undoesTo_84_p7 4096 (j : Int) (pw (mm1 j τ 84 2 - 1)) (mm1 j τ) <;> rfl
  · rw [if_neg h1, if_neg h1]
    rfl
/-- several marked, one behind the other -/
def mks : List Nat → pS → Option pS
  | [], τ => some τ
  | j :: Q, τ => (mMk j τ).bind (mks Q)
theorem mks_app : ∀ (A B : List Nat) (τ : pS), mks (A ++ B) τ = (mks A τ).bind (mks B)
  | [], B, τ => rfl
  | a :: A, B, τ => by
    show (mMk a τ).bind (mks (A ++ B)) = ((mMk a τ).bind (mks A)).bind (mks B)
    cases mMk a τ with
    | none => rfl
    | some t => exact mks_app A B t
theorem mks_ov (L : Nat → Int) (n : Int) : ∀ (Q : List Nat) (τ : pS), mks Q (ov τ L n) = (mks Q τ).map (fun t => ov t L n)
  | [], τ => rfl
  | j :: Q, τ => by
    show (mMk j (ov τ L n)).bind (mks Q) = ((mMk j τ).bind (mks Q)).map _
    rw [mMk_ov]
    cases mMk j τ with
    | none => rfl
    | some t => exact mks_ov L n Q t
/-- those of k, k + 1, .. (d of them) for which p holds -/
def Fl (p : Nat → Prop) : Nat → Nat → List Nat → Prop
  | _, 0, l => l = []
  | k, d + 1, l => (p k ∧ ∃ l', l = k :: l' ∧ Fl p (k + 1) d l') ∨ (¬ p k ∧ Fl p (k + 1) d l)
theorem Fl.nil {p : Nat → Prop} (k : Nat) : Fl p k 0 [] := rfl
theorem Fl.yes {p : Nat → Prop} {k d : Nat} {l : List Nat} (h : p k) (h2 : Fl p (k + 1) d l) : Fl p k (d + 1) (k :: l) := Or.inl ⟨h, l, rfl, h2⟩
theorem Fl.no {p : Nat → Prop} {k d : Nat} {l : List Nat} (h : ¬ p k) (h2 : Fl p (k + 1) d l) : Fl p k (d + 1) l := Or.inr ⟨h, h2⟩
theorem Fl.iv0 {p : Nat → Prop} {k : Nat} {l : List Nat} (h : Fl p k 0 l) : l = [] := h
theorem Fl.iv {p : Nat → Prop} {k d : Nat} {l : List Nat} (h : Fl p k (d + 1) l) : (p k ∧ ∃ l', l = k :: l' ∧ Fl p (k + 1) d l') ∨ (¬ p k ∧ Fl p (k + 1) d l) := h
theorem Fl.cg {p p' : Nat → Prop} : ∀ {d k : Nat} {l : List Nat}, Fl p k d l → (∀ x, k ≤ x → x < k + d → (p x ↔ p' x)) → Fl p' k d l
  | 0, k, l, h, _ => by rw [h.iv0]; exact .nil k
  | d + 1, k, l, h, e => by
    rcases h.iv with ⟨h1, l', rfl, h2⟩ | ⟨h1, h2⟩
    · exact .yes ((e k (Nat.le_refl _) (by omega)).mp h1) (h2.cg (fun x a b => e x (by omega) (by omega)))
    · exact .no (fun q => h1 ((e k (Nat.le_refl _) (by omega)).mpr q)) (h2.cg (fun x a b => e x (by omega) (by omega)))
theorem Fl.mem {p : Nat → Prop} : ∀ {d k : Nat} {l : List Nat}, Fl p k d l → ∀ x, x ∈ l ↔ (k ≤ x ∧ x < k + d ∧ p x)
  | 0, k, l, h, x => by
    rw [h.iv0]
    constructor
    · intro q
      cases q
    · rintro ⟨a, b, -⟩
      omega
  | d + 1, k, l, h, x => by
    rcases h.iv with ⟨h1, l', rfl, h2⟩ | ⟨h1, h2⟩
    · rw [List.mem_cons, h2.mem x]
      constructor
      · rintro (rfl | ⟨a, b, c⟩)
        · exact ⟨Nat.le_refl _, by omega, h1⟩
        · exact ⟨by omega, by omega, c⟩
      · rintro ⟨a, b, c⟩
        by_cases hx : x = k
        · exact Or.inl hx
        · exact Or.inr ⟨by omega, by omega, c⟩
    · rw [h2.mem x]
      constructor
      · rintro ⟨a, b, c⟩
        exact ⟨by omega, by omega, c⟩
      · rintro ⟨a, b, c⟩
        refine ⟨?_, by omega, c⟩
        by_cases hx : x = k
        · rw [hx] at c
          exact absurd c h1
        · omega
theorem Fl.len {p : Nat → Prop} : ∀ {d k : Nat} {l : List Nat}, Fl p k d l → l.length ≤ d
  | 0, k, l, h => by rw [h.iv0]; exact Nat.le_refl _
  | d + 1, k, l, h => by
    rcases h.iv with ⟨h1, l', rfl, h2⟩ | ⟨h1, h2⟩
    · have := h2.len
      show _ + 1 ≤ d + 1
      omega
    · have := h2.len
      omega
theorem Fl.nd {p : Nat → Prop} : ∀ {d k : Nat} {l : List Nat}, Fl p k d l → l.Nodup
  | 0, k, l, h => by rw [h.iv0]; exact List.nodup_nil
  | d + 1, k, l, h => by
    rcases h.iv with ⟨h1, l', rfl, h2⟩ | ⟨h1, h2⟩
    · refine List.nodup_cons.mpr ⟨fun q => ?_, h2.nd⟩
      have := (h2.mem k).mp q
      omega
    · exact h2.nd
theorem nd_le : ∀ (n : Nat) (l : List Nat), l.Nodup → (∀ x ∈ l, x < n) → l.length ≤ n
  | 0, l, _, h => by
    cases l with
    | nil => exact Nat.le_refl _
    | cons a l => exact absurd (h a List.mem_cons_self) (Nat.not_lt_zero _)
  | n + 1, l, hn, h => by
    by_cases hm : n ∈ l
    · have h1 := nd_le n (l.erase n) (hn.erase n) (fun x hx => by
        have a := (hn.mem_erase_iff).mp hx
        have := h x a.2
        have := a.1
        omega)
      rw [List.length_erase_of_mem hm] at h1
      omega
    · have h1 := nd_le n l hn (fun x hx => by
        have := h x hx
        have : x ≠ n := fun e => hm (e ▸ hx)
        omega)
      omega
/-- the first of each in a list, those of S left out -/
def FO : (Nat → Prop) → List Nat → List Nat → Prop
  | _, [], Q => Q = []
  | S, x :: R, Q => (S x ∧ FO S R Q) ∨ (¬ S x ∧ ∃ Q', Q = x :: Q' ∧ FO (fun y => S y ∨ y = x) R Q')
theorem FO.nil (S : Nat → Prop) : FO S [] [] := rfl
theorem FO.skip {S : Nat → Prop} {x : Nat} {R Q : List Nat} (h : S x) (h2 : FO S R Q) : FO S (x :: R) Q := Or.inl ⟨h, h2⟩
theorem FO.take {S : Nat → Prop} {x : Nat} {R Q : List Nat} (h : ¬ S x) (h2 : FO (fun y => S y ∨ y = x) R Q) : FO S (x :: R) (x :: Q) := Or.inr ⟨h, Q, rfl, h2⟩
theorem FO.iv0 {S : Nat → Prop} {Q : List Nat} (h : FO S [] Q) : Q = [] := h
theorem FO.iv {S : Nat → Prop} {x : Nat} {R Q : List Nat} (h : FO S (x :: R) Q) : (S x ∧ FO S R Q) ∨ (¬ S x ∧ ∃ Q', Q = x :: Q' ∧ FO (fun y => S y ∨ y = x) R Q') := h
theorem FO.cg {S S' : Nat → Prop} {R Q : List Nat} (h : FO S R Q) (e : ∀ y, S y ↔ S' y) : FO S' R Q := by
  have : S = S' := funext (fun y => propext (e y))
  rw [← this]
  exact h
theorem FO_b {p p' : Nat → Prop} : ∀ {d k : Nat} {A B : List Nat} {S : Nat → Prop}, Fl p k d A → Fl p' k d B → (∀ x, k ≤ x → x < k + d → (p' x ↔ (p x ∧ ¬ S x))) → FO S A B
  | 0, k, A, B, S, h1, h2, e => by rw [h1.iv0, h2.iv0]; exact .nil S
  | d + 1, k, A, B, S, h1, h2, e => by
    have ek := e k (Nat.le_refl _) (by omega)
    rcases h1.iv with ⟨a1, A', rfl, a2⟩ | ⟨a1, a2⟩
    · rcases h2.iv with ⟨b1, B', rfl, b2⟩ | ⟨b1, b2⟩
      · exact .take (ek.mp b1).2 (FO_b a2 b2 (fun x q1 q2 => by
          rw [e x (by omega) (by omega)]
          constructor
          · rintro ⟨c1, c2⟩
            exact ⟨c1, fun q => q.elim c2 (fun q => by omega)⟩
          · rintro ⟨c1, c2⟩
            exact ⟨c1, fun q => c2 (Or.inl q)⟩))
      · have hS : S k := Classical.byContradiction (fun q => b1 (ek.mpr ⟨a1, q⟩))
        exact .skip hS (FO_b a2 b2 (fun x q1 q2 => e x (by omega) (by omega)))
    · rcases h2.iv with ⟨b1, B', rfl, b2⟩ | ⟨b1, b2⟩
      · exact absurd (ek.mp b1).1 a1
      · exact FO_b a2 b2 (fun x q1 q2 => e x (by omega) (by omega))
theorem FO_app {p p' : Nat → Prop} {d k : Nat} {A B : List Nat} : ∀ {S : Nat → Prop} {R Q : List Nat}, FO S R Q → Fl p k d A → Fl p' k d B → (∀ x, k ≤ x → x < k + d → (p' x ↔ (p x ∧ ¬ S x ∧ x ∉ Q))) → FO S (R ++ A) (Q ++ B) := by
  intro S R
  induction R generalizing S with
  | nil =>
    intro Q h h1 h2 e
    rw [h.iv0] at e ⊢
    exact FO_b h1 h2 (fun x a b => by
      rw [e x a b]
      constructor
      · rintro ⟨c1, c2, -⟩
        exact ⟨c1, c2⟩
      · rintro ⟨c1, c2⟩
        exact ⟨c1, c2, List.not_mem_nil⟩)
  | cons y R ih =>
    intro Q h h1 h2 e
    rcases h.iv with ⟨hS, h'⟩ | ⟨hS, Q', rfl, h'⟩
    · exact .skip hS (ih h' h1 h2 e)
    · refine .take hS (ih h' h1 h2 (fun x a b => ?_))
      rw [e x a b]
      constructor
      · rintro ⟨c1, c2, c3⟩
        rw [List.mem_cons] at c3
        exact ⟨c1, fun q => q.elim c2 (fun q => c3 (Or.inl q)), fun q => c3 (Or.inr q)⟩
      · rintro ⟨c1, c2, c3⟩
        refine ⟨c1, fun q => c2 (Or.inl q), fun q => ?_⟩
        rw [List.mem_cons] at q
        exact q.elim (fun q => c2 (Or.inr q)) c3
/-- k rests on j, in the class's store -/
def tkf (σ : pS) (k : Nat) (j : Int) (a : Nat) : Prop := ∃ e : Nat, a ≤ e ∧ (e : Int) < σ 7 k ∧ σ 38 (4 * k + e) = j
def dep (σ : pS) (k j : Nat) : Prop := σ 12 k = (j : Int) ∨ σ 13 k = (j : Int) ∨ (σ 5 k = 2 ∧ σ 39 k = 2 ∧ tkf σ k (j : Int) 0)
theorem c_d55 {σ : pS} {k : Nat} {j : Int} (hk : k < 20) {s : Nat} (hs : σ 7 k = (s : Int)) (hs4 : s ≤ 4) : ∀ (d a fu : Nat), a + d = s → d < fu → ∃ b : Int, f_Mach_dependsOn_3_p55 fu (k : Int) j (a : Int) σ = some (b, σ) ∧ ((b = 1 ∧ tkf σ k j a) ∨ (b = 0 ∧ ¬ tkf σ k j a))
  | 0, a, fu, ha, hf => by
    obtain ⟨n, rfl⟩ : ∃ n, fu = n + 1 := ⟨fu - 1, by omega⟩
    refine ⟨0, ?_, Or.inr ⟨rfl, ?_⟩⟩
    · show (if (0 : Int) ≤ (k : Int) ∧ (k : Int) < 20 then _ else _) = _
      rw [if_pos (by omega), Int.toNat_natCast, hs, if_pos (by omega)]
    · rintro ⟨e, e1, e2, -⟩
      rw [hs] at e2
      omega
  | d + 1, a, fu, ha, hf => by
    obtain ⟨n, rfl⟩ : ∃ n, fu = n + 1 := ⟨fu - 1, by omega⟩
    have ha4 : a < 4 := by omega
    obtain ⟨b, q1, q2⟩ := c_d55 hk hs hs4 (j := j) d (a + 1) n (by omega) (by omega)
    have eX : f_Mach_dependsOn_3_p55 (n + 1) (k : Int) j (a : Int) σ = (if σ 38 (4 * k + a) = j then some (1, σ) else f_Mach_dependsOn_3_p55 n (k : Int) j ((a + 1 : Nat) : Int) σ) := by
      show (if (0 : Int) ≤ (k : Int) ∧ (k : Int) < 20 then _ else _) = _
      rw [if_pos (by omega), Int.toNat_natCast, hs, if_neg (by omega), (ix4 hk ha4).1, if_pos (ix4 hk ha4).2.2, Int.toNat_natCast, pw_s ha4 (by decide)]
    rw [eX]
    by_cases h : σ 38 (4 * k + a) = j
    · rw [if_pos h]
      exact ⟨1, rfl, Or.inl ⟨rfl, a, Nat.le_refl _, by rw [hs]; omega, h⟩⟩
    · rw [if_neg h]
      refine ⟨b, q1, ?_⟩
      rcases q2 with ⟨b1, e, e1, e2, e3⟩ | ⟨b1, b2⟩
      · exact Or.inl ⟨b1, e, by omega, e2, e3⟩
      · refine Or.inr ⟨b1, ?_⟩
        rintro ⟨e, e1, e2, e3⟩
        by_cases hea : e = a
        · rw [hea] at e3
          exact h e3
        · exact b2 ⟨e, by omega, e2, e3⟩
theorem c_dep {m : Nat} {rec : Nat → O8} {σ τ : pS} (hG : PG m rec σ τ) {k j : Nat} (hk : k < m) : ∃ b : Int, f_Mach_dependsOn_3 (k : Int) (j : Int) σ = some (b, σ) ∧ ((b = 1 ∧ dep σ k j) ∨ (b = 0 ∧ ¬ dep σ k j)) := by
  have hm := hG.le
  have g : (0 : Int) ≤ (k : Int) ∧ (k : Int) < 20 := by omega
  unfold f_Mach_dependsOn_3
  simp only [if_pos g, Int.toNat_natCast]
  by_cases h1 : σ 12 k = (j : Int)
  · rw [if_pos h1]
    exact ⟨1, rfl, Or.inl ⟨rfl, Or.inl h1⟩⟩
  rw [if_neg h1]
  by_cases h2 : σ 13 k = (j : Int)
  · rw [if_pos h2]
    exact ⟨1, rfl, Or.inl ⟨rfl, Or.inr (Or.inl h2)⟩⟩
  rw [if_neg h2]
  by_cases h3 : σ 5 k = 2
  · rw [if_pos h3]
    by_cases h4 : σ 39 k = 2
    · rw [if_pos h4]
      obtain ⟨y1, y2⟩ := hG.sz hk (by omega)
      obtain ⟨s, hs, hs4⟩ : ∃ s : Nat, σ 7 k = (s : Int) ∧ s ≤ 4 := ⟨(σ 7 k).toNat, by omega, by omega⟩
      obtain ⟨b, q1, q2⟩ := c_d55 (show k < 20 by omega) (j := (j : Int)) hs hs4 s 0 4096 (by omega) (by omega)
      refine ⟨b, q1, ?_⟩
      rcases q2 with ⟨b1, b2⟩ | ⟨b1, b2⟩
      · exact Or.inl ⟨b1, Or.inr (Or.inr ⟨h3, h4, b2⟩)⟩
      · refine Or.inr ⟨b1, ?_⟩
        rintro (q | q | ⟨-, -, q⟩)
        · exact h1 q
        · exact h2 q
        · exact b2 q
    · rw [if_neg h4]
      refine ⟨0, rfl, Or.inr ⟨rfl, ?_⟩⟩
      rintro (q | q | ⟨-, q, -⟩)
      · exact h1 q
      · exact h2 q
      · exact h4 q
  · rw [if_neg h3]
    refine ⟨0, rfl, Or.inr ⟨rfl, ?_⟩⟩
    rintro (q | q | ⟨q, -⟩)
    · exact h1 q
    · exact h2 q
    · exact h3 q
/-- loads take from stores ahead, or from memory -/
def GV (m : Nat) (D : Nat → Prop) (σ : pS) : Prop := ∀ k, k < m → D k → σ 5 k = 2 → ∀ e : Nat, (e : Int) < σ 7 k → σ 38 (4 * k + e) = -1 ∨ (0 ≤ σ 38 (4 * k + e) ∧ σ 38 (4 * k + e) < (k : Int) ∧ σ 5 (σ 38 (4 * k + e)).toNat = 3)
theorem gv_g {g : Nat → Int} {r : Int} : ∀ {k : Nat} {i : Nat}, gv g k r = (i : Int) → g i = r
  | 0, i, h => by
    unfold gv at h
    omega
  | k + 1, i, h => by
    unfold gv at h
    by_cases hg : g k = r
    · rw [if_pos hg] at h
      have : k = i := by omega
      rw [← this]
      exact hg
    · rw [if_neg hg] at h
      exact gv_g h
theorem src_g {g : Nat → Int} {r : Int} {k i : Nat} (h : src g k r = (i : Int)) : g i = r ∧ 0 ≤ r := by
  unfold src at h
  by_cases hr : 0 ≤ r ∧ r < 8
  · rw [if_pos hr] at h
    exact ⟨gv_g h, hr.1⟩
  · rw [if_neg hr] at h
    omega
section MD
variable {m : Nat} {rec : Nat → O8} {D : Nat → Prop} {σ τ : pS}
theorem m_tk {k : Nat} {i : Int} (hk : k < 20) {s : Nat} (hs : τ 93 k = (s : Int)) (hc : σ 7 k = (s : Int)) (hs4 : s ≤ 4) (he : ∀ e : Nat, (e : Int) < σ 7 k → σ 38 (4 * k + e) = τ 124 (4 * k + e)) : ∀ (d a fu : Nat), a + d = s → d < fu → ∃ b : Int, f_M_tookFrom_84_p2 fu (k : Int) i (a : Int) τ = some (b, τ) ∧ ((b = 1 ∧ tkf σ k i a) ∨ (b = 0 ∧ ¬ tkf σ k i a))
  | 0, a, fu, ha, hf => by
    obtain ⟨n, rfl⟩ : ∃ n, fu = n + 1 := ⟨fu - 1, by omega⟩
    refine ⟨0, ?_, Or.inr ⟨rfl, ?_⟩⟩
    · show (if (0 : Int) ≤ (k : Int) ∧ (k : Int) < 20 then _ else _) = _
      rw [if_pos (by omega), Int.toNat_natCast, hs, if_pos (by omega)]
    · rintro ⟨e, e1, e2, -⟩
      rw [hc] at e2
      omega
  | d + 1, a, fu, ha, hf => by
    obtain ⟨n, rfl⟩ : ∃ n, fu = n + 1 := ⟨fu - 1, by omega⟩
    have ha4 : a < 4 := by omega
    obtain ⟨b, q1, q2⟩ := m_tk hk hs hc hs4 he (i := i) d (a + 1) n (by omega) (by omega)
    have eX : f_M_tookFrom_84_p2 (n + 1) (k : Int) i (a : Int) τ = (if τ 124 (4 * k + a) = i then some (1, τ) else f_M_tookFrom_84_p2 n (k : Int) i ((a + 1 : Nat) : Int) τ) := by
      show (if (0 : Int) ≤ (k : Int) ∧ (k : Int) < 20 then _ else _) = _
      rw [if_pos (by omega), Int.toNat_natCast, hs, if_neg (by omega), (ix4 hk ha4).2.1, if_pos (ix4 hk ha4).2.2, Int.toNat_natCast, pw_s ha4 (by decide)]
    rw [eX, ← he a (by rw [hc]; omega)]
    by_cases h : σ 38 (4 * k + a) = i
    · rw [if_pos h]
      exact ⟨1, rfl, Or.inl ⟨rfl, a, Nat.le_refl _, by rw [hc]; omega, h⟩⟩
    · rw [if_neg h]
      refine ⟨b, q1, ?_⟩
      rcases q2 with ⟨b1, e, e1, e2, e3⟩ | ⟨b1, b2⟩
      · exact Or.inl ⟨b1, e, by omega, e2, e3⟩
      · refine Or.inr ⟨b1, ?_⟩
        rintro ⟨e, e1, e2, e3⟩
        by_cases hea : e = a
        · rw [hea] at e3
          exact h e3
        · exact b2 ⟨e, by omega, e2, e3⟩
/-- one more asked whether it rests on i -/
theorem m_st (hG : PG m rec σ τ) (h : RM m D σ τ) (hV : GV m D σ) {i k : Nat} (hi : i < m) (hk : k < m) (n : Nat) : (τ 118 k ≠ 0 ∧ dep σ k i ∧ f_M_listsThoseBy_84_p4 (n + 1) (i : Int) (k : Int) τ = (f_M_lists_84 (k : Int) τ).bind fun q => f_M_listsThoseBy_84_p4 n (i : Int) ((k + 1 : Nat) : Int) q.2) ∨ (¬ (τ 118 k ≠ 0 ∧ dep σ k i) ∧ f_M_listsThoseBy_84_p4 (n + 1) (i : Int) (k : Int) τ = f_M_listsThoseBy_84_p4 n (i : Int) ((k + 1 : Nat) : Int) τ) := by
  have hm := hG.le
  have gi : (0 : Int) ≤ (i : Int) ∧ (i : Int) < 20 := by omega
  have gk : (0 : Int) ≤ (k : Int) ∧ (k : Int) < 20 := by omega
  have ki := hG.kd hi
  have kk := hG.kd hk
  have sk := h.st k hk
  have e1 : pw ((k : Int) + 1) = ((k + 1 : Nat) : Int) := pw_s (show k < 20 by omega) (by decide)
  have so := hG.so k hk
  have eX : f_M_listsThoseBy_84_p4 (n + 1) (i : Int) (k : Int) τ = (if τ 118 k = 0 then f_M_listsThoseBy_84_p4 n (i : Int) ((k + 1 : Nat) : Int) τ else (if τ 88 i = 3 then (if τ 88 k = 2 then (if τ 118 k = 2 then ((f_M_tookFrom_84 (k : Int) (i : Int) τ).bind fun q16 => (if q16.1 = 0 then (f_M_listsThoseBy_84_p67 (f_M_listsThoseBy_84_p4 n) (i : Int) (k : Int) q16.2) else (f_M_listsThoseBy_84_p68 (f_M_listsThoseBy_84_p4 n) (i : Int) (k : Int) 1 q16.2))) else (f_M_listsThoseBy_84_p67 (f_M_listsThoseBy_84_p4 n) (i : Int) (k : Int) τ)) else (f_M_listsThoseBy_84_p67 (f_M_listsThoseBy_84_p4 n) (i : Int) (k : Int) τ)) else (f_M_listsThoseBy_84_p67 (f_M_listsThoseBy_84_p4 n) (i : Int) (k : Int) τ))) := by
    show (if τ 84 2 ≤ (k : Int) then _ else _) = _
    rw [hG.mm, if_neg (by omega)]
    simp only [if_pos gi, if_pos gk, Int.toNat_natCast, e1]
  rw [eX]
  by_cases h0 : τ 118 k = 0
  · rw [if_pos h0]
    exact Or.inr ⟨fun q => q.1 h0, rfl⟩
  rw [if_neg h0]
  have e67 : f_M_listsThoseBy_84_p67 (f_M_listsThoseBy_84_p4 n) (i : Int) (k : Int) τ = (if τ 88 i = 3 then f_M_listsThoseBy_84_p4 n (i : Int) ((k + 1 : Nat) : Int) τ else (if src (σ 8) k (σ 9 k) = (i : Int) ∨ src (σ 8) k (σ 10 k) = (i : Int) then (f_M_lists_84 (k : Int) τ).bind fun q => f_M_listsThoseBy_84_p4 n (i : Int) ((k + 1 : Nat) : Int) q.2 else f_M_listsThoseBy_84_p4 n (i : Int) ((k + 1 : Nat) : Int) τ)) := by
    unfold f_M_listsThoseBy_84_p67 f_M_listsThoseBy_84_p68
    rw [if_pos rfl, if_pos gi, Int.toNat_natCast, e1]
    by_cases h3 : τ 88 i = 3
    · rw [if_pos h3, if_pos h3]
    · rw [if_neg h3, if_neg h3, m_has hm hG.op hk, Option.bind_some]
      by_cases hs : src (σ 8) k (σ 9 k) = (i : Int) ∨ src (σ 8) k (σ 10 k) = (i : Int)
      · simp only [if_pos hs]
        rw [if_neg (by decide)]
        unfold f_M_listsThoseBy_84_p92
        rw [e1]
      · simp only [if_neg hs]
        rw [if_pos trivial]
  have e68 : f_M_listsThoseBy_84_p68 (f_M_listsThoseBy_84_p4 n) (i : Int) (k : Int) 1 τ = (f_M_lists_84 (k : Int) τ).bind fun q => f_M_listsThoseBy_84_p4 n (i : Int) ((k + 1 : Nat) : Int) q.2 := by
    unfold f_M_listsThoseBy_84_p68 f_M_listsThoseBy_84_p92
    rw [if_neg (by decide), e1]
  by_cases h3 : τ 88 i = 3
  · -- a store: sources never are it
    have no : ∀ r, src (σ 8) k r ≠ (i : Int) := fun r hr => by
      obtain ⟨a, b⟩ := src_g hr
      obtain ⟨c1, -, -⟩ := hG.op i hi
      have c0 := c1.1
      rcases c1.2.2.2.1 with ⟨-, c2, -⟩ | ⟨c2, -⟩ <;> omega
    have n1 : σ 12 k ≠ (i : Int) := by rw [so.1]; exact no _
    have n2 : σ 13 k ≠ (i : Int) := by rw [so.2]; exact no _
    have skip : f_M_listsThoseBy_84_p67 (f_M_listsThoseBy_84_p4 n) (i : Int) (k : Int) τ = f_M_listsThoseBy_84_p4 n (i : Int) ((k + 1 : Nat) : Int) τ := by rw [e67, if_pos h3]
    rw [if_pos h3]
    by_cases h4 : τ 88 k = 2
    · rw [if_pos h4]
      by_cases h5 : τ 118 k = 2
      · rw [if_pos h5]
        have hD := h.dn k hk (by omega)
        obtain ⟨y1, y2⟩ := hG.sz hk (by omega)
        obtain ⟨s, hs, hs4⟩ : ∃ s : Nat, σ 7 k = (s : Int) ∧ s ≤ 4 := ⟨(σ 7 k).toNat, by omega, by omega⟩
        obtain ⟨b, q1, q2⟩ := m_tk (τ := τ) (show k < 20 by omega) (i := (i : Int)) (y1.trans hs) hs hs4 ((h.va k hk hD).2.2.2 (by omega)) s 0 4096 (by omega) (by omega)
        rw [show f_M_tookFrom_84 (k : Int) (i : Int) τ = some (b, τ) from q1, Option.bind_some]
        dsimp only
        rcases q2 with ⟨b1, b2⟩ | ⟨b1, b2⟩
        · rw [if_neg (by omega), e68]
          exact Or.inl ⟨h0, Or.inr (Or.inr ⟨by omega, by omega, b2⟩), rfl⟩
        · rw [if_pos b1, skip]
          refine Or.inr ⟨?_, rfl⟩
          rintro ⟨-, q | q | ⟨-, -, q⟩⟩
          · exact n1 q
          · exact n2 q
          · exact b2 q
      · rw [if_neg h5, skip]
        refine Or.inr ⟨?_, rfl⟩
        rintro ⟨-, q | q | ⟨-, q, -⟩⟩
        · exact n1 q
        · exact n2 q
        · omega
    · rw [if_neg h4, skip]
      refine Or.inr ⟨?_, rfl⟩
      rintro ⟨-, q | q | ⟨q, -⟩⟩
      · exact n1 q
      · exact n2 q
      · omega
  · rw [if_neg h3, e67, if_neg h3, ← so.1, ← so.2]
    by_cases hs : σ 12 k = (i : Int) ∨ σ 13 k = (i : Int)
    · rw [if_pos hs]
      exact Or.inl ⟨h0, hs.elim Or.inl (fun q => Or.inr (Or.inl q)), rfl⟩
    · rw [if_neg hs]
      refine Or.inr ⟨?_, rfl⟩
      rintro ⟨-, q | q | ⟨q1, q2, e, -, e2, e3⟩⟩
      · exact hs (Or.inl q)
      · exact hs (Or.inr q)
      · rcases hV k hk (h.dn k hk q2) q1 e e2 with z | ⟨-, -, z⟩
        · omega
        · rw [e3, Int.toNat_natCast] at z
          omega
end MD
/-- the reference's list -/
def RLt (τ : pS) (R : List Nat) : Prop := τ 84 72 = (R.length : Int) ∧ ∀ (a x : Nat), R[a]? = some x → τ 131 a = (x : Int)
def Q_li (k x : Nat) : Prop := k = 131 ∨ (k = 84 ∧ x = 72)
theorem ov_of {τ τ' : pS} (h : FR Q_li τ τ') : τ' = ov τ (τ' 131) (τ' 84 72) := by
  funext k x
  unfold ov
  by_cases h1 : k = 131
  · rw [if_pos h1, h1]
  · rw [if_neg h1]
    by_cases h2 : k = 84 ∧ x = 72
    · rw [if_pos h2, h2.1, h2.2]
    · rw [if_neg h2]
      exact h.get (by unfold Q_li; omega)
theorem m_li {τ : pS} {R : List Nat} (h : RLt τ R) (hR : R.length < 400) (k : Nat) : ∃ τ', f_M_lists_84 (k : Int) τ = some (0, τ') ∧ RLt τ' (R ++ [k]) ∧ FR Q_li τ τ' := by
  unfold f_M_lists_84
  rw [h.1, if_pos (by omega), Int.toNat_natCast, pw_id (by omega) (by omega)]
  refine ⟨_, rfl, ⟨?_, fun a x hx => ?_⟩, (FR.u (Or.inl rfl)).tr (FR.u (Or.inr ⟨rfl, rfl⟩))⟩
  · rw [pU_s, List.length_append]
    simp
  · rw [pU_c _ _ _ _ (by decide)]
    by_cases ha : a = R.length
    · rw [ha, pU_s]
      rw [ha, List.getElem?_append_right (Nat.le_refl _)] at hx
      simp at hx
      omega
    · rw [pU_i _ _ _ _ ha]
      have h1 : a < R.length := by
        have := (List.getElem?_eq_some_iff.mp hx).1
        rw [List.length_append] at this
        simp at this
        omega
      rw [List.getElem?_append_left h1] at hx
      exact h.2 a x hx
theorem m_lst {m : Nat} {rec : Nat → O8} {D : Nat → Prop} {σ : pS} {i : Nat} (hi : i < m) (hV : GV m D σ) : ∀ (d k fu : Nat) (τ : pS) (R : List Nat), k + d = m → d < fu → PG m rec σ τ → RM m D σ τ → RLt τ R → R.length + d ≤ 400 → ∃ τ' ks, f_M_listsThoseBy_84_p4 fu (i : Int) (k : Int) τ = some (0, τ') ∧ Fl (fun x => τ 118 x ≠ 0 ∧ dep σ x i) k d ks ∧ RLt τ' (R ++ ks) ∧ FR Q_li τ τ'
  | 0, k, fu, τ, R, hk, hf, hG, h, hR, hl => by
    obtain ⟨n, rfl⟩ : ∃ n, fu = n + 1 := ⟨fu - 1, by omega⟩
    refine ⟨τ, [], ?_, .nil k, by rw [List.append_nil]; exact hR, FR.rf _ _⟩
    show (if τ 84 2 ≤ (k : Int) then _ else _) = _
    rw [hG.mm, if_pos (by omega)]
  | d + 1, k, fu, τ, R, hk, hf, hG, h, hR, hl => by
    obtain ⟨n, rfl⟩ : ∃ n, fu = n + 1 := ⟨fu - 1, by omega⟩
    rcases m_st hG h hV hi (show k < m by omega) n with ⟨a1, a2, a3⟩ | ⟨a1, a2⟩
    · obtain ⟨τ1, b1, b2, b3⟩ := m_li hR (by omega) k
      have f1 : FR Q_sno τ τ1 := b3.mono (fun k x hh => by unfold Q_li at hh; unfold Q_sno; omega)
      have hG1 : PG m rec σ τ1 := hG.fr (FR.rf _ _) (b3.mono (fun k x hh => by unfold Q_li at hh; unfold QN; omega))
      obtain ⟨τ', ks, c1, c2, c3, c4⟩ := m_lst hi hV d (k + 1) n τ1 (R ++ [k]) (by omega) (by omega) hG1 (h.sno (FR.rf _ _) f1) b2 (by rw [List.length_append]; simp; omega)
      refine ⟨τ', k :: ks, ?_, .yes ⟨a1, a2⟩ (c2.cg (fun x _ _ => by rw [b3.get (k := 118) (x := x) (by unfold Q_li; omega)])), by rw [List.append_assoc] at c3; exact c3, b3.tr c4⟩
      rw [a3, b1, Option.bind_some]
      exact c1
    · obtain ⟨τ', ks, c1, c2, c3, c4⟩ := m_lst hi hV d (k + 1) n τ R (by omega) (by omega) hG h hR (by omega)
      exact ⟨τ', ks, by rw [a2]; exact c1, .no a1 c2, c3, c4⟩
