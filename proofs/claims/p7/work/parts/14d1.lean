theorem pAnd_63 (a : Int) : 0 ≤ pAnd a 63 ∧ pAnd a 63 < 64 := by
  show 0 ≤ ((Int32.ofInt a).toBitVec &&& 63#32).toInt ∧ ((Int32.ofInt a).toBitVec &&& 63#32).toInt < 64
  have h : ((Int32.ofInt a).toBitVec &&& 63#32).toNat ≤ 63 := by
    rw [BitVec.toNat_and]
    exact Nat.and_le_right
  rw [BitVec.toInt_eq_toNat_of_lt (by omega)]
  omega
/-- a program in both stores -/
def PG (m : Nat) (rec : Nat → O8) (σ τ : pS) : Prop := (m ≤ 20) ∧
  (σ 4 11 = (m : Int)) ∧
  (τ 84 2 = (m : Int)) ∧
  (∀ j, j < m → CRp σ j (rec j) ∧ MRp τ j (rec j) ∧ VR (rec j)) ∧
  (∀ j, j < m → σ 12 j = src (σ 8) j (σ 9 j) ∧ σ 13 j = src (σ 8) j (σ 10 j))
theorem PG.le {m : Nat} {rec : Nat → O8} {σ τ : pS} (h : PG m rec σ τ) : m ≤ 20 := h.1
theorem PG.cm {m : Nat} {rec : Nat → O8} {σ τ : pS} (h : PG m rec σ τ) : σ 4 11 = (m : Int) := h.2.1
theorem PG.mm {m : Nat} {rec : Nat → O8} {σ τ : pS} (h : PG m rec σ τ) : τ 84 2 = (m : Int) := h.2.2.1
theorem PG.op {m : Nat} {rec : Nat → O8} {σ τ : pS} (h : PG m rec σ τ) : ∀ j, j < m → CRp σ j (rec j) ∧ MRp τ j (rec j) ∧ VR (rec j) := h.2.2.2.1
theorem PG.so {m : Nat} {rec : Nat → O8} {σ τ : pS} (h : PG m rec σ τ) : ∀ j, j < m → σ 12 j = src (σ 8) j (σ 9 j) ∧ σ 13 j = src (σ 8) j (σ 10 j) := h.2.2.2.2
/-- a run under way in both stores; D: has been done once in it -/
def RM (m : Nat) (D : Nat → Prop) (σ τ : pS) : Prop := (∀ j, j < m → σ 39 j = τ 118 j ∧ 0 ≤ σ 39 j ∧ σ 39 j ≤ 2) ∧
  (∀ j, j < m → σ 39 j = 1 → σ 40 j = τ 119 j) ∧
  (∀ j, j < m → σ 41 j = τ 126 j ∧ 0 ≤ σ 41 j ∧ σ 41 j ≤ 1) ∧
  (∀ j, j < m → σ 41 j = 1 → σ 5 j = 3 ∧ τ 132 j = σ 37 j ∧ ∀ e : Nat, (e : Int) < σ 7 j → σ 42 (4 * j + e) = τ 125 (4 * j + e)) ∧
  (∀ j, j < m → D j → σ 36 j = τ 120 j ∧ σ 34 j = τ 122 j ∧ (2 ≤ σ 5 j → σ 37 j = τ 121 j) ∧ (σ 5 j = 2 → ∀ e : Nat, (e : Int) < σ 7 j → σ 38 (4 * j + e) = τ 124 (4 * j + e))) ∧
  (∀ j, j < m → σ 39 j = 2 → D j) ∧
  (∀ j, j < m → σ 39 j ≠ 0 → (0 ≤ σ 12 j → D (σ 12 j).toNat) ∧ (0 ≤ σ 13 j → D (σ 13 j).toNat)) ∧
  (∀ j, j < m → σ 35 j = τ 123 j) ∧
  (∀ x, x < 64 → σ 30 x = τ 128 x) ∧
  (∀ x, x < 64 → σ 26 x = τ 127 x) ∧
  (∀ j, j < m → σ 31 j = τ 87 j ∧ -1 ≤ σ 31 j ∧ σ 31 j ≤ 15) ∧
  (σ 28 3 = τ 84 3 ∧ 0 ≤ σ 28 3 ∧ σ 28 3 ≤ 15) ∧
  (σ 28 5 = τ 84 0 ∧ 0 ≤ σ 28 5 ∧ σ 28 5 ≤ 65535) ∧
  (σ 33 2 = τ 84 65) ∧
  (σ 33 3 = τ 84 66) ∧
  (σ 33 4 = τ 84 67) ∧
  (σ 33 5 = τ 84 68) ∧
  (σ 24 4 = τ 84 1) ∧
  (∀ r, r < 8 → σ 25 r = τ 85 r) ∧
  (∀ j, m ≤ j → j < 20 → σ 31 j = -1)
theorem RM.st {m : Nat} {D : Nat → Prop} {σ τ : pS} (h : RM m D σ τ) : ∀ j, j < m → σ 39 j = τ 118 j ∧ 0 ≤ σ 39 j ∧ σ 39 j ≤ 2 := h.1
theorem RM.ti {m : Nat} {D : Nat → Prop} {σ τ : pS} (h : RM m D σ τ) : ∀ j, j < m → σ 39 j = 1 → σ 40 j = τ 119 j := h.2.1
theorem RM.rt {m : Nat} {D : Nat → Prop} {σ τ : pS} (h : RM m D σ τ) : ∀ j, j < m → σ 41 j = τ 126 j ∧ 0 ≤ σ 41 j ∧ σ 41 j ≤ 1 := h.2.2.1
theorem RM.re {m : Nat} {D : Nat → Prop} {σ τ : pS} (h : RM m D σ τ) : ∀ j, j < m → σ 41 j = 1 → σ 5 j = 3 ∧ τ 132 j = σ 37 j ∧ ∀ e : Nat, (e : Int) < σ 7 j → σ 42 (4 * j + e) = τ 125 (4 * j + e) := h.2.2.2.1
theorem RM.va {m : Nat} {D : Nat → Prop} {σ τ : pS} (h : RM m D σ τ) : ∀ j, j < m → D j → σ 36 j = τ 120 j ∧ σ 34 j = τ 122 j ∧ (2 ≤ σ 5 j → σ 37 j = τ 121 j) ∧ (σ 5 j = 2 → ∀ e : Nat, (e : Int) < σ 7 j → σ 38 (4 * j + e) = τ 124 (4 * j + e)) := h.2.2.2.2.1
theorem RM.dn {m : Nat} {D : Nat → Prop} {σ τ : pS} (h : RM m D σ τ) : ∀ j, j < m → σ 39 j = 2 → D j := h.2.2.2.2.2.1
theorem RM.so {m : Nat} {D : Nat → Prop} {σ τ : pS} (h : RM m D σ τ) : ∀ j, j < m → σ 39 j ≠ 0 → (0 ≤ σ 12 j → D (σ 12 j).toNat) ∧ (0 ≤ σ 13 j → D (σ 13 j).toNat) := h.2.2.2.2.2.2.1
theorem RM.rp {m : Nat} {D : Nat → Prop} {σ τ : pS} (h : RM m D σ τ) : ∀ j, j < m → σ 35 j = τ 123 j := h.2.2.2.2.2.2.2.1
theorem RM.me {m : Nat} {D : Nat → Prop} {σ τ : pS} (h : RM m D σ τ) : ∀ x, x < 64 → σ 30 x = τ 128 x := h.2.2.2.2.2.2.2.2.1
theorem RM.m0 {m : Nat} {D : Nat → Prop} {σ τ : pS} (h : RM m D σ τ) : ∀ x, x < 64 → σ 26 x = τ 127 x := h.2.2.2.2.2.2.2.2.2.1
theorem RM.se {m : Nat} {D : Nat → Prop} {σ τ : pS} (h : RM m D σ τ) : ∀ j, j < m → σ 31 j = τ 87 j ∧ -1 ≤ σ 31 j ∧ σ 31 j ≤ 15 := h.2.2.2.2.2.2.2.2.2.2.1
theorem RM.ns {m : Nat} {D : Nat → Prop} {σ τ : pS} (h : RM m D σ τ) : σ 28 3 = τ 84 3 ∧ 0 ≤ σ 28 3 ∧ σ 28 3 ≤ 15 := h.2.2.2.2.2.2.2.2.2.2.2.1
theorem RM.x {m : Nat} {D : Nat → Prop} {σ τ : pS} (h : RM m D σ τ) : σ 28 5 = τ 84 0 ∧ 0 ≤ σ 28 5 ∧ σ 28 5 ≤ 65535 := h.2.2.2.2.2.2.2.2.2.2.2.2.1
theorem RM.cr {m : Nat} {D : Nat → Prop} {σ τ : pS} (h : RM m D σ τ) : σ 33 2 = τ 84 65 := h.2.2.2.2.2.2.2.2.2.2.2.2.2.1
theorem RM.ca {m : Nat} {D : Nat → Prop} {σ τ : pS} (h : RM m D σ τ) : σ 33 3 = τ 84 66 := h.2.2.2.2.2.2.2.2.2.2.2.2.2.2.1
theorem RM.cu {m : Nat} {D : Nat → Prop} {σ τ : pS} (h : RM m D σ τ) : σ 33 4 = τ 84 67 := h.2.2.2.2.2.2.2.2.2.2.2.2.2.2.2.1
theorem RM.cd {m : Nat} {D : Nat → Prop} {σ τ : pS} (h : RM m D σ τ) : σ 33 5 = τ 84 68 := h.2.2.2.2.2.2.2.2.2.2.2.2.2.2.2.2.1
theorem RM.ru {m : Nat} {D : Nat → Prop} {σ τ : pS} (h : RM m D σ τ) : σ 24 4 = τ 84 1 := h.2.2.2.2.2.2.2.2.2.2.2.2.2.2.2.2.2.1
theorem RM.rg {m : Nat} {D : Nat → Prop} {σ τ : pS} (h : RM m D σ τ) : ∀ r, r < 8 → σ 25 r = τ 85 r := h.2.2.2.2.2.2.2.2.2.2.2.2.2.2.2.2.2.2.1
theorem RM.sh {m : Nat} {D : Nat → Prop} {σ τ : pS} (h : RM m D σ τ) : ∀ j, m ≤ j → j < 20 → σ 31 j = -1 := h.2.2.2.2.2.2.2.2.2.2.2.2.2.2.2.2.2.2.2
/-- what a run may write -/
def PN (k x : Nat) : Prop := (k = 3 ∧ x = 11) ∨ k = 22 ∨ k = 23 ∨ (k = 28 ∧ (x = 3 ∨ x = 5)) ∨ (30 ≤ k ∧ k ≤ 44)
def QN (k x : Nat) : Prop := (k = 84 ∧ (x = 0 ∨ x = 3 ∨ (64 ≤ x ∧ x ≤ 68) ∨ x = 71 ∨ x = 72)) ∨ k = 87 ∨ k = 108 ∨ k = 109 ∨ (118 ≤ k ∧ k ≤ 133 ∧ k ≠ 129 ∧ k ≠ 130)
theorem PG.fr {m : Nat} {rec : Nat → O8} {σ τ σ' τ' : pS} (h : PG m rec σ τ) (h1 : FR PN σ σ') (h2 : FR QN τ τ') : PG m rec σ' τ' := by
  have a : ∀ k x, 4 ≤ k → k ≤ 13 → σ' k x = σ k x := fun k x p q => h1.get (by unfold PN; omega)
  have b : ∀ k x, 88 ≤ k → k ≤ 95 → τ' k x = τ k x := fun k x p q => h2.get (by unfold QN; omega)
  have e8 : σ' 8 = σ 8 := funext (fun x => a 8 x (by decide) (by decide))
  refine ⟨h.le, (a _ _ (by decide) (by decide)).trans h.cm, (h2.get (by unfold QN; omega)).trans h.mm, fun j hj => ?_, fun j hj => ?_⟩
  · obtain ⟨c1, c2, c3⟩ := h.op j hj
    refine ⟨?_, ?_, c3⟩
    · unfold CRp at *
      rw [a 5 _ (by decide) (by decide), a 6 _ (by decide) (by decide), a 7 _ (by decide) (by decide), a 8 _ (by decide) (by decide), a 9 _ (by decide) (by decide), a 10 _ (by decide) (by decide), a 11 _ (by decide) (by decide)]
      exact c1
    · unfold MRp at *
      rw [b 88 _ (by decide) (by decide), b 89 _ (by decide) (by decide), b 90 _ (by decide) (by decide), b 91 _ (by decide) (by decide), b 92 _ (by decide) (by decide), b 93 _ (by decide) (by decide), b 94 _ (by decide) (by decide), b 95 _ (by decide) (by decide)]
      exact c2
  · rw [a 12 _ (by decide) (by decide), a 13 _ (by decide) (by decide), a 9 _ (by decide) (by decide), a 10 _ (by decide) (by decide), e8]
    exact h.so j hj
section PGL
variable {m : Nat} {rec : Nat → O8} {σ τ : pS}
theorem PG.kd (h : PG m rec σ τ) {j : Nat} (hj : j < m) : τ 88 j = σ 5 j ∧ 0 ≤ σ 5 j ∧ σ 5 j ≤ 3 := by
  obtain ⟨c1, c2, c3⟩ := h.op j hj
  have a := c1.1
  have b := c2.1
  have c := c3.1
  omega
theorem PG.sz (h : PG m rec σ τ) {j : Nat} (hj : j < m) (hk : 2 ≤ σ 5 j) : τ 93 j = σ 7 j ∧ (σ 7 j = 1 ∨ σ 7 j = 2 ∨ σ 7 j = 4) := by
  obtain ⟨c1, c2, c3⟩ := h.op j hj
  have a := c1.1
  have b := c2.2.2.2.2.1 (by omega)
  have c := c1.2.2.1
  rcases c3.2.2.2.1 with ⟨-, d, -⟩ | ⟨d, -⟩
  · rw [b.1, c]
    exact ⟨rfl, d⟩
  · omega
end PGL
theorem ix4 {j e : Nat} (hj : j < 20) (he : e < 4) : pw (pw ((j : Int) * 4) + (e : Int)) = ((4 * j + e : Nat) : Int) ∧ pw (pw (4 * (j : Int)) + (e : Int)) = ((4 * j + e : Nat) : Int) ∧ (0 : Int) ≤ ((4 * j + e : Nat) : Int) ∧ ((4 * j + e : Nat) : Int) < 80 := by
  rw [pw_id (z := (j : Int) * 4) (by omega) (by omega), pw_id (z := 4 * (j : Int)) (by omega) (by omega), pw_id (z := (j : Int) * 4 + (e : Int)) (by omega) (by omega), pw_id (z := 4 * (j : Int) + (e : Int)) (by omega) (by omega)]
  omega
theorem pw_s {e n : Nat} (he : e < n) (hn : n ≤ 100000) : pw ((e : Int) + 1) = ((e + 1 : Nat) : Int) := by rw [pw_id (by omega) (by omega)]; omega
theorem pw_p {e n : Nat} (he : e < n) (hn : n ≤ 100000) : pw ((e : Int) + -1) = (e : Int) - 1 := by rw [pw_id (by omega) (by omega)]; omega
/-- one store undone: its bytes -/
theorem un_26 {j s : Nat} (hj : j < 20) (hs : s ≤ 4) {K1 K2 : Int → Int → pS → Option (Int × pS)} {i1 i2 : Int} : ∀ (d e fu1 fu2 : Nat) (σ τ : pS), e + d = s → d < fu1 → d < fu2 → σ 7 j = (s : Int) → τ 93 j = (s : Int) → τ 132 j = σ 37 j → (∀ q : Nat, q < s → σ 42 (4 * j + q) = τ 125 (4 * j + q)) → (∀ x, x < 64 → σ 30 x = τ 128 x) →
    ∃ σ' τ', f_Mach_undoDownTo_3_p26 K1 fu1 i1 (j : Int) (e : Int) σ = K1 i1 ((j : Int) - 1) (pU (pU σ' 41 j 0) 33 4 (pw (σ 33 4 + 1))) ∧ f_M_undoesTo_84_p26 K2 fu2 i2 (j : Int) (e : Int) τ = K2 i2 ((j : Int) - 1) (pU (pU τ' 126 j 0) 84 67 (pw (τ 84 67 + 1))) ∧ (∀ x, x < 64 → σ' 30 x = τ' 128 x) ∧ FR (fun k _ => k = 30) σ σ' ∧ FR (fun k _ => k = 128) τ τ'
  | 0, e, fu1, fu2, σ, τ, he, h1, h2, s1, s2, hp, hb, hm => by
    obtain ⟨n1, rfl⟩ : ∃ n, fu1 = n + 1 := ⟨fu1 - 1, by omega⟩
    obtain ⟨n2, rfl⟩ : ∃ n, fu2 = n + 1 := ⟨fu2 - 1, by omega⟩
    have g : (0 : Int) ≤ (j : Int) ∧ (j : Int) < 20 := by omega
    refine ⟨σ, τ, ?_, ?_, hm, FR.rf _ _, FR.rf _ _⟩
    · show (if (0 : Int) ≤ (j : Int) ∧ (j : Int) < 20 then _ else _) = _
      rw [if_pos g, Int.toNat_natCast, s1, if_pos (by omega), if_pos g, pw_id (z := (j : Int) + -1) (by omega) (by omega)]
      rfl
    · show (if (0 : Int) ≤ (j : Int) ∧ (j : Int) < 20 then _ else _) = _
      rw [if_pos g, Int.toNat_natCast, s2, if_pos (by omega), if_pos g, pw_id (z := (j : Int) + -1) (by omega) (by omega)]
      rfl
  | d + 1, e, fu1, fu2, σ, τ, he, h1, h2, s1, s2, hp, hb, hm => by
    obtain ⟨n1, rfl⟩ : ∃ n, fu1 = n + 1 := ⟨fu1 - 1, by omega⟩
    obtain ⟨n2, rfl⟩ : ∃ n, fu2 = n + 1 := ⟨fu2 - 1, by omega⟩
    have g : (0 : Int) ≤ (j : Int) ∧ (j : Int) < 20 := by omega
    have he4 : e < 4 := by omega
    have eX : f_Mach_undoDownTo_3_p26 K1 (n1 + 1) i1 (j : Int) (e : Int) σ = f_Mach_undoDownTo_3_p26 K1 n1 i1 (j : Int) ((e + 1 : Nat) : Int) (pU σ 30 (pAnd (pw (σ 37 j + (e : Int))) 63).toNat (σ 42 (4 * j + e))) := by
      show (if (0 : Int) ≤ (j : Int) ∧ (j : Int) < 20 then _ else _) = _
      rw [if_pos g, Int.toNat_natCast, s1, if_neg (by omega), if_pos g, (ix4 hj he4).1, if_pos (ix4 hj he4).2.2, if_pos (pAnd_63 _), Int.toNat_natCast, pw_s he4 (by decide)]
    have eM : f_M_undoesTo_84_p26 K2 (n2 + 1) i2 (j : Int) (e : Int) τ = f_M_undoesTo_84_p26 K2 n2 i2 (j : Int) ((e + 1 : Nat) : Int) (pU τ 128 (pAnd (pw (σ 37 j + (e : Int))) 63).toNat (τ 125 (4 * j + e))) := by
      show (if (0 : Int) ≤ (j : Int) ∧ (j : Int) < 20 then _ else _) = _
      rw [if_pos g, Int.toNat_natCast, s2, if_neg (by omega), if_pos g, (ix4 hj he4).2.1, if_pos (ix4 hj he4).2.2, hp, if_pos (pAnd_63 _), Int.toNat_natCast, pw_s he4 (by decide)]
    rw [eX, eM]
    generalize (pAnd (pw (σ 37 j + (e : Int))) 63).toNat = A
    have f1 : FR (fun k _ => k = 30) σ (pU σ 30 A (σ 42 (4 * j + e))) := FR.u rfl
    have f2 : FR (fun k _ => k = 128) τ (pU τ 128 A (τ 125 (4 * j + e))) := FR.u rfl
    obtain ⟨σ', τ', q1, q2, q3, q4, q5⟩ := un_26 hj hs (K1 := K1) (K2 := K2) (i1 := i1) (i2 := i2) d (e + 1) n1 n2 (pU σ 30 A (σ 42 (4 * j + e))) (pU τ 128 A (τ 125 (4 * j + e))) (by omega) (by omega) (by omega) ((f1.get (by decide)).trans s1) ((f2.get (by decide)).trans s2) (by rw [f1.get (k := 37) (by decide), f2.get (k := 132) (by decide)]; exact hp) (fun q hq => by rw [f1.get (k := 42) (by decide), f2.get (k := 125) (by decide)]; exact hb q hq) (fun x hx => by
      by_cases hxa : x = A
      · rw [hxa, pU_s, pU_s]
        exact hb e (by omega)
      · rw [pU_i _ _ _ _ hxa, pU_i _ _ _ _ hxa]
        exact hm x hx)
    refine ⟨σ', τ', ?_, ?_, q3, f1.tr q4, f2.tr q5⟩
    · rw [q1, f1.get (k := 33) (by decide)]
    · rw [q2, f2.get (k := 84) (by decide)]
def P_sme (k x : Nat) : Prop := k = 30
def Q_sme (k x : Nat) : Prop := k = 128
theorem RM.sme {m : Nat} {D : Nat → Prop} {σ τ σ' τ' : pS} (h : RM m D σ τ) (a1 : FR P_sme σ σ') (a2 : FR Q_sme τ τ') (g : ∀ x, x < 64 → σ' 30 x = τ' 128 x) : RM m D σ' τ' := ⟨fun j hj => by rw [a1.get (k := 39) (x := j) (by unfold P_sme; omega), a2.get (k := 118) (x := j) (by unfold Q_sme; omega)]; exact h.st j hj,
  fun j hj q => by rw [a1.get (k := 39) (x := j) (by unfold P_sme; omega)] at q; rw [a1.get (k := 40) (x := j) (by unfold P_sme; omega), a2.get (k := 119) (x := j) (by unfold Q_sme; omega)]; exact h.ti j hj q,
  fun j hj => by rw [a1.get (k := 41) (x := j) (by unfold P_sme; omega), a2.get (k := 126) (x := j) (by unfold Q_sme; omega)]; exact h.rt j hj,
  fun j hj q => by rw [a1.get (k := 41) (x := j) (by unfold P_sme; omega)] at q; have z := h.re j hj q; rw [a1.get (k := 5) (x := j) (by unfold P_sme; omega), a1.get (k := 37) (x := j) (by unfold P_sme; omega), a1.get (k := 7) (x := j) (by unfold P_sme; omega), a2.get (k := 132) (x := j) (by unfold Q_sme; omega)]; exact ⟨z.1, z.2.1, fun e he => by rw [a1.get (k := 42) (x := 4 * j + e) (by unfold P_sme; omega), a2.get (k := 125) (x := 4 * j + e) (by unfold Q_sme; omega)]; exact z.2.2 e he⟩,
  fun j hj q => by have z := h.va j hj q; rw [a1.get (k := 36) (x := j) (by unfold P_sme; omega), a1.get (k := 34) (x := j) (by unfold P_sme; omega), a1.get (k := 5) (x := j) (by unfold P_sme; omega), a1.get (k := 37) (x := j) (by unfold P_sme; omega), a1.get (k := 7) (x := j) (by unfold P_sme; omega), a2.get (k := 120) (x := j) (by unfold Q_sme; omega), a2.get (k := 122) (x := j) (by unfold Q_sme; omega), a2.get (k := 121) (x := j) (by unfold Q_sme; omega)]; exact ⟨z.1, z.2.1, z.2.2.1, fun k e he => by rw [a1.get (k := 38) (x := 4 * j + e) (by unfold P_sme; omega), a2.get (k := 124) (x := 4 * j + e) (by unfold Q_sme; omega)]; exact z.2.2.2 k e he⟩,
  fun j hj q => by rw [a1.get (k := 39) (x := j) (by unfold P_sme; omega)] at q; exact h.dn j hj q,
  fun j hj q => by rw [a1.get (k := 39) (x := j) (by unfold P_sme; omega)] at q; rw [a1.get (k := 12) (x := j) (by unfold P_sme; omega), a1.get (k := 13) (x := j) (by unfold P_sme; omega)]; exact h.so j hj q,
  fun j hj => by rw [a1.get (k := 35) (x := j) (by unfold P_sme; omega), a2.get (k := 123) (x := j) (by unfold Q_sme; omega)]; exact h.rp j hj,
  g,
  fun j hj => by rw [a1.get (k := 26) (x := j) (by unfold P_sme; omega), a2.get (k := 127) (x := j) (by unfold Q_sme; omega)]; exact h.m0 j hj,
  fun j hj => by rw [a1.get (k := 31) (x := j) (by unfold P_sme; omega), a2.get (k := 87) (x := j) (by unfold Q_sme; omega)]; exact h.se j hj,
  by rw [a1.get (k := 28) (x := 3) (by unfold P_sme; omega), a2.get (k := 84) (x := 3) (by unfold Q_sme; omega)]; exact h.ns,
  by rw [a1.get (k := 28) (x := 5) (by unfold P_sme; omega), a2.get (k := 84) (x := 0) (by unfold Q_sme; omega)]; exact h.x,
  by rw [a1.get (k := 33) (x := 2) (by unfold P_sme; omega), a2.get (k := 84) (x := 65) (by unfold Q_sme; omega)]; exact h.cr,
  by rw [a1.get (k := 33) (x := 3) (by unfold P_sme; omega), a2.get (k := 84) (x := 66) (by unfold Q_sme; omega)]; exact h.ca,
  by rw [a1.get (k := 33) (x := 4) (by unfold P_sme; omega), a2.get (k := 84) (x := 67) (by unfold Q_sme; omega)]; exact h.cu,
  by rw [a1.get (k := 33) (x := 5) (by unfold P_sme; omega), a2.get (k := 84) (x := 68) (by unfold Q_sme; omega)]; exact h.cd,
  by rw [a1.get (k := 24) (x := 4) (by unfold P_sme; omega), a2.get (k := 84) (x := 1) (by unfold Q_sme; omega)]; exact h.ru,
  fun j hj => by rw [a1.get (k := 25) (x := j) (by unfold P_sme; omega), a2.get (k := 85) (x := j) (by unfold Q_sme; omega)]; exact h.rg j hj,
  fun j hj h20 => by rw [a1.get (k := 31) (x := j) (by unfold P_sme; omega)]; exact h.sh j hj h20⟩
def P_srt0 (k x : Nat) : Prop := k = 41
def Q_srt0 (k x : Nat) : Prop := k = 126
theorem RM.srt0 {m : Nat} {D : Nat → Prop} {σ τ σ' τ' : pS} (h : RM m D σ τ) (a1 : FR P_srt0 σ σ') (a2 : FR Q_srt0 τ τ') (g : ∀ j, j < m → (σ' 41 j = τ' 126 j ∧ (σ' 41 j = 0 ∨ σ' 41 j = σ 41 j))) : RM m D σ' τ' := ⟨fun j hj => by rw [a1.get (k := 39) (x := j) (by unfold P_srt0; omega), a2.get (k := 118) (x := j) (by unfold Q_srt0; omega)]; exact h.st j hj,
  fun j hj q => by rw [a1.get (k := 39) (x := j) (by unfold P_srt0; omega)] at q; rw [a1.get (k := 40) (x := j) (by unfold P_srt0; omega), a2.get (k := 119) (x := j) (by unfold Q_srt0; omega)]; exact h.ti j hj q,
  fun j hj => by have z := h.rt j hj; have y := g j hj; omega,
  fun j hj q => by have y := g j hj; have z := h.re j hj (by omega); rw [a1.get (k := 5) (x := j) (by unfold P_srt0; omega), a1.get (k := 37) (x := j) (by unfold P_srt0; omega), a1.get (k := 7) (x := j) (by unfold P_srt0; omega), a2.get (k := 132) (x := j) (by unfold Q_srt0; omega)]; exact ⟨z.1, z.2.1, fun e he => by rw [a1.get (k := 42) (x := 4 * j + e) (by unfold P_srt0; omega), a2.get (k := 125) (x := 4 * j + e) (by unfold Q_srt0; omega)]; exact z.2.2 e he⟩,
  fun j hj q => by have z := h.va j hj q; rw [a1.get (k := 36) (x := j) (by unfold P_srt0; omega), a1.get (k := 34) (x := j) (by unfold P_srt0; omega), a1.get (k := 5) (x := j) (by unfold P_srt0; omega), a1.get (k := 37) (x := j) (by unfold P_srt0; omega), a1.get (k := 7) (x := j) (by unfold P_srt0; omega), a2.get (k := 120) (x := j) (by unfold Q_srt0; omega), a2.get (k := 122) (x := j) (by unfold Q_srt0; omega), a2.get (k := 121) (x := j) (by unfold Q_srt0; omega)]; exact ⟨z.1, z.2.1, z.2.2.1, fun k e he => by rw [a1.get (k := 38) (x := 4 * j + e) (by unfold P_srt0; omega), a2.get (k := 124) (x := 4 * j + e) (by unfold Q_srt0; omega)]; exact z.2.2.2 k e he⟩,
  fun j hj q => by rw [a1.get (k := 39) (x := j) (by unfold P_srt0; omega)] at q; exact h.dn j hj q,
  fun j hj q => by rw [a1.get (k := 39) (x := j) (by unfold P_srt0; omega)] at q; rw [a1.get (k := 12) (x := j) (by unfold P_srt0; omega), a1.get (k := 13) (x := j) (by unfold P_srt0; omega)]; exact h.so j hj q,
  fun j hj => by rw [a1.get (k := 35) (x := j) (by unfold P_srt0; omega), a2.get (k := 123) (x := j) (by unfold Q_srt0; omega)]; exact h.rp j hj,
  fun j hj => by rw [a1.get (k := 30) (x := j) (by unfold P_srt0; omega), a2.get (k := 128) (x := j) (by unfold Q_srt0; omega)]; exact h.me j hj,
  fun j hj => by rw [a1.get (k := 26) (x := j) (by unfold P_srt0; omega), a2.get (k := 127) (x := j) (by unfold Q_srt0; omega)]; exact h.m0 j hj,
  fun j hj => by rw [a1.get (k := 31) (x := j) (by unfold P_srt0; omega), a2.get (k := 87) (x := j) (by unfold Q_srt0; omega)]; exact h.se j hj,
  by rw [a1.get (k := 28) (x := 3) (by unfold P_srt0; omega), a2.get (k := 84) (x := 3) (by unfold Q_srt0; omega)]; exact h.ns,
  by rw [a1.get (k := 28) (x := 5) (by unfold P_srt0; omega), a2.get (k := 84) (x := 0) (by unfold Q_srt0; omega)]; exact h.x,
  by rw [a1.get (k := 33) (x := 2) (by unfold P_srt0; omega), a2.get (k := 84) (x := 65) (by unfold Q_srt0; omega)]; exact h.cr,
  by rw [a1.get (k := 33) (x := 3) (by unfold P_srt0; omega), a2.get (k := 84) (x := 66) (by unfold Q_srt0; omega)]; exact h.ca,
  by rw [a1.get (k := 33) (x := 4) (by unfold P_srt0; omega), a2.get (k := 84) (x := 67) (by unfold Q_srt0; omega)]; exact h.cu,
  by rw [a1.get (k := 33) (x := 5) (by unfold P_srt0; omega), a2.get (k := 84) (x := 68) (by unfold Q_srt0; omega)]; exact h.cd,
  by rw [a1.get (k := 24) (x := 4) (by unfold P_srt0; omega), a2.get (k := 84) (x := 1) (by unfold Q_srt0; omega)]; exact h.ru,
  fun j hj => by rw [a1.get (k := 25) (x := j) (by unfold P_srt0; omega), a2.get (k := 85) (x := j) (by unfold Q_srt0; omega)]; exact h.rg j hj,
  fun j hj h20 => by rw [a1.get (k := 31) (x := j) (by unfold P_srt0; omega)]; exact h.sh j hj h20⟩
def P_scr (k x : Nat) : Prop := k = 33 ∧ x = 2
def Q_scr (k x : Nat) : Prop := k = 84 ∧ x = 65
theorem RM.scr {m : Nat} {D : Nat → Prop} {σ τ σ' τ' : pS} (h : RM m D σ τ) (a1 : FR P_scr σ σ') (a2 : FR Q_scr τ τ') (g : σ' 33 2 = τ' 84 65) : RM m D σ' τ' := ⟨fun j hj => by rw [a1.get (k := 39) (x := j) (by unfold P_scr; omega), a2.get (k := 118) (x := j) (by unfold Q_scr; omega)]; exact h.st j hj,
  fun j hj q => by rw [a1.get (k := 39) (x := j) (by unfold P_scr; omega)] at q; rw [a1.get (k := 40) (x := j) (by unfold P_scr; omega), a2.get (k := 119) (x := j) (by unfold Q_scr; omega)]; exact h.ti j hj q,
  fun j hj => by rw [a1.get (k := 41) (x := j) (by unfold P_scr; omega), a2.get (k := 126) (x := j) (by unfold Q_scr; omega)]; exact h.rt j hj,
  fun j hj q => by rw [a1.get (k := 41) (x := j) (by unfold P_scr; omega)] at q; have z := h.re j hj q; rw [a1.get (k := 5) (x := j) (by unfold P_scr; omega), a1.get (k := 37) (x := j) (by unfold P_scr; omega), a1.get (k := 7) (x := j) (by unfold P_scr; omega), a2.get (k := 132) (x := j) (by unfold Q_scr; omega)]; exact ⟨z.1, z.2.1, fun e he => by rw [a1.get (k := 42) (x := 4 * j + e) (by unfold P_scr; omega), a2.get (k := 125) (x := 4 * j + e) (by unfold Q_scr; omega)]; exact z.2.2 e he⟩,
  fun j hj q => by have z := h.va j hj q; rw [a1.get (k := 36) (x := j) (by unfold P_scr; omega), a1.get (k := 34) (x := j) (by unfold P_scr; omega), a1.get (k := 5) (x := j) (by unfold P_scr; omega), a1.get (k := 37) (x := j) (by unfold P_scr; omega), a1.get (k := 7) (x := j) (by unfold P_scr; omega), a2.get (k := 120) (x := j) (by unfold Q_scr; omega), a2.get (k := 122) (x := j) (by unfold Q_scr; omega), a2.get (k := 121) (x := j) (by unfold Q_scr; omega)]; exact ⟨z.1, z.2.1, z.2.2.1, fun k e he => by rw [a1.get (k := 38) (x := 4 * j + e) (by unfold P_scr; omega), a2.get (k := 124) (x := 4 * j + e) (by unfold Q_scr; omega)]; exact z.2.2.2 k e he⟩,
  fun j hj q => by rw [a1.get (k := 39) (x := j) (by unfold P_scr; omega)] at q; exact h.dn j hj q,
  fun j hj q => by rw [a1.get (k := 39) (x := j) (by unfold P_scr; omega)] at q; rw [a1.get (k := 12) (x := j) (by unfold P_scr; omega), a1.get (k := 13) (x := j) (by unfold P_scr; omega)]; exact h.so j hj q,
  fun j hj => by rw [a1.get (k := 35) (x := j) (by unfold P_scr; omega), a2.get (k := 123) (x := j) (by unfold Q_scr; omega)]; exact h.rp j hj,
  fun j hj => by rw [a1.get (k := 30) (x := j) (by unfold P_scr; omega), a2.get (k := 128) (x := j) (by unfold Q_scr; omega)]; exact h.me j hj,
  fun j hj => by rw [a1.get (k := 26) (x := j) (by unfold P_scr; omega), a2.get (k := 127) (x := j) (by unfold Q_scr; omega)]; exact h.m0 j hj,
  fun j hj => by rw [a1.get (k := 31) (x := j) (by unfold P_scr; omega), a2.get (k := 87) (x := j) (by unfold Q_scr; omega)]; exact h.se j hj,
  by rw [a1.get (k := 28) (x := 3) (by unfold P_scr; omega), a2.get (k := 84) (x := 3) (by unfold Q_scr; omega)]; exact h.ns,
  by rw [a1.get (k := 28) (x := 5) (by unfold P_scr; omega), a2.get (k := 84) (x := 0) (by unfold Q_scr; omega)]; exact h.x,
  g,
  by rw [a1.get (k := 33) (x := 3) (by unfold P_scr; omega), a2.get (k := 84) (x := 66) (by unfold Q_scr; omega)]; exact h.ca,
  by rw [a1.get (k := 33) (x := 4) (by unfold P_scr; omega), a2.get (k := 84) (x := 67) (by unfold Q_scr; omega)]; exact h.cu,
  by rw [a1.get (k := 33) (x := 5) (by unfold P_scr; omega), a2.get (k := 84) (x := 68) (by unfold Q_scr; omega)]; exact h.cd,
  by rw [a1.get (k := 24) (x := 4) (by unfold P_scr; omega), a2.get (k := 84) (x := 1) (by unfold Q_scr; omega)]; exact h.ru,
  fun j hj => by rw [a1.get (k := 25) (x := j) (by unfold P_scr; omega), a2.get (k := 85) (x := j) (by unfold Q_scr; omega)]; exact h.rg j hj,
  fun j hj h20 => by rw [a1.get (k := 31) (x := j) (by unfold P_scr; omega)]; exact h.sh j hj h20⟩
def P_sca (k x : Nat) : Prop := k = 33 ∧ x = 3
def Q_sca (k x : Nat) : Prop := k = 84 ∧ x = 66
theorem RM.sca {m : Nat} {D : Nat → Prop} {σ τ σ' τ' : pS} (h : RM m D σ τ) (a1 : FR P_sca σ σ') (a2 : FR Q_sca τ τ') (g : σ' 33 3 = τ' 84 66) : RM m D σ' τ' := ⟨fun j hj => by rw [a1.get (k := 39) (x := j) (by unfold P_sca; omega), a2.get (k := 118) (x := j) (by unfold Q_sca; omega)]; exact h.st j hj,
  fun j hj q => by rw [a1.get (k := 39) (x := j) (by unfold P_sca; omega)] at q; rw [a1.get (k := 40) (x := j) (by unfold P_sca; omega), a2.get (k := 119) (x := j) (by unfold Q_sca; omega)]; exact h.ti j hj q,
  fun j hj => by rw [a1.get (k := 41) (x := j) (by unfold P_sca; omega), a2.get (k := 126) (x := j) (by unfold Q_sca; omega)]; exact h.rt j hj,
  fun j hj q => by rw [a1.get (k := 41) (x := j) (by unfold P_sca; omega)] at q; have z := h.re j hj q; rw [a1.get (k := 5) (x := j) (by unfold P_sca; omega), a1.get (k := 37) (x := j) (by unfold P_sca; omega), a1.get (k := 7) (x := j) (by unfold P_sca; omega), a2.get (k := 132) (x := j) (by unfold Q_sca; omega)]; exact ⟨z.1, z.2.1, fun e he => by rw [a1.get (k := 42) (x := 4 * j + e) (by unfold P_sca; omega), a2.get (k := 125) (x := 4 * j + e) (by unfold Q_sca; omega)]; exact z.2.2 e he⟩,
  fun j hj q => by have z := h.va j hj q; rw [a1.get (k := 36) (x := j) (by unfold P_sca; omega), a1.get (k := 34) (x := j) (by unfold P_sca; omega), a1.get (k := 5) (x := j) (by unfold P_sca; omega), a1.get (k := 37) (x := j) (by unfold P_sca; omega), a1.get (k := 7) (x := j) (by unfold P_sca; omega), a2.get (k := 120) (x := j) (by unfold Q_sca; omega), a2.get (k := 122) (x := j) (by unfold Q_sca; omega), a2.get (k := 121) (x := j) (by unfold Q_sca; omega)]; exact ⟨z.1, z.2.1, z.2.2.1, fun k e he => by rw [a1.get (k := 38) (x := 4 * j + e) (by unfold P_sca; omega), a2.get (k := 124) (x := 4 * j + e) (by unfold Q_sca; omega)]; exact z.2.2.2 k e he⟩,
  fun j hj q => by rw [a1.get (k := 39) (x := j) (by unfold P_sca; omega)] at q; exact h.dn j hj q,
  fun j hj q => by rw [a1.get (k := 39) (x := j) (by unfold P_sca; omega)] at q; rw [a1.get (k := 12) (x := j) (by unfold P_sca; omega), a1.get (k := 13) (x := j) (by unfold P_sca; omega)]; exact h.so j hj q,
  fun j hj => by rw [a1.get (k := 35) (x := j) (by unfold P_sca; omega), a2.get (k := 123) (x := j) (by unfold Q_sca; omega)]; exact h.rp j hj,
  fun j hj => by rw [a1.get (k := 30) (x := j) (by unfold P_sca; omega), a2.get (k := 128) (x := j) (by unfold Q_sca; omega)]; exact h.me j hj,
  fun j hj => by rw [a1.get (k := 26) (x := j) (by unfold P_sca; omega), a2.get (k := 127) (x := j) (by unfold Q_sca; omega)]; exact h.m0 j hj,
  fun j hj => by rw [a1.get (k := 31) (x := j) (by unfold P_sca; omega), a2.get (k := 87) (x := j) (by unfold Q_sca; omega)]; exact h.se j hj,
  by rw [a1.get (k := 28) (x := 3) (by unfold P_sca; omega), a2.get (k := 84) (x := 3) (by unfold Q_sca; omega)]; exact h.ns,
  by rw [a1.get (k := 28) (x := 5) (by unfold P_sca; omega), a2.get (k := 84) (x := 0) (by unfold Q_sca; omega)]; exact h.x,
  by rw [a1.get (k := 33) (x := 2) (by unfold P_sca; omega), a2.get (k := 84) (x := 65) (by unfold Q_sca; omega)]; exact h.cr,
  g,
  by rw [a1.get (k := 33) (x := 4) (by unfold P_sca; omega), a2.get (k := 84) (x := 67) (by unfold Q_sca; omega)]; exact h.cu,
  by rw [a1.get (k := 33) (x := 5) (by unfold P_sca; omega), a2.get (k := 84) (x := 68) (by unfold Q_sca; omega)]; exact h.cd,
  by rw [a1.get (k := 24) (x := 4) (by unfold P_sca; omega), a2.get (k := 84) (x := 1) (by unfold Q_sca; omega)]; exact h.ru,
  fun j hj => by rw [a1.get (k := 25) (x := j) (by unfold P_sca; omega), a2.get (k := 85) (x := j) (by unfold Q_sca; omega)]; exact h.rg j hj,
  fun j hj h20 => by rw [a1.get (k := 31) (x := j) (by unfold P_sca; omega)]; exact h.sh j hj h20⟩
def P_scu (k x : Nat) : Prop := k = 33 ∧ x = 4
def Q_scu (k x : Nat) : Prop := k = 84 ∧ x = 67
theorem RM.scu {m : Nat} {D : Nat → Prop} {σ τ σ' τ' : pS} (h : RM m D σ τ) (a1 : FR P_scu σ σ') (a2 : FR Q_scu τ τ') (g : σ' 33 4 = τ' 84 67) : RM m D σ' τ' := ⟨fun j hj => by rw [a1.get (k := 39) (x := j) (by unfold P_scu; omega), a2.get (k := 118) (x := j) (by unfold Q_scu; omega)]; exact h.st j hj,
  fun j hj q => by rw [a1.get (k := 39) (x := j) (by unfold P_scu; omega)] at q; rw [a1.get (k := 40) (x := j) (by unfold P_scu; omega), a2.get (k := 119) (x := j) (by unfold Q_scu; omega)]; exact h.ti j hj q,
  fun j hj => by rw [a1.get (k := 41) (x := j) (by unfold P_scu; omega), a2.get (k := 126) (x := j) (by unfold Q_scu; omega)]; exact h.rt j hj,
  fun j hj q => by rw [a1.get (k := 41) (x := j) (by unfold P_scu; omega)] at q; have z := h.re j hj q; rw [a1.get (k := 5) (x := j) (by unfold P_scu; omega), a1.get (k := 37) (x := j) (by unfold P_scu; omega), a1.get (k := 7) (x := j) (by unfold P_scu; omega), a2.get (k := 132) (x := j) (by unfold Q_scu; omega)]; exact ⟨z.1, z.2.1, fun e he => by rw [a1.get (k := 42) (x := 4 * j + e) (by unfold P_scu; omega), a2.get (k := 125) (x := 4 * j + e) (by unfold Q_scu; omega)]; exact z.2.2 e he⟩,
  fun j hj q => by have z := h.va j hj q; rw [a1.get (k := 36) (x := j) (by unfold P_scu; omega), a1.get (k := 34) (x := j) (by unfold P_scu; omega), a1.get (k := 5) (x := j) (by unfold P_scu; omega), a1.get (k := 37) (x := j) (by unfold P_scu; omega), a1.get (k := 7) (x := j) (by unfold P_scu; omega), a2.get (k := 120) (x := j) (by unfold Q_scu; omega), a2.get (k := 122) (x := j) (by unfold Q_scu; omega), a2.get (k := 121) (x := j) (by unfold Q_scu; omega)]; exact ⟨z.1, z.2.1, z.2.2.1, fun k e he => by rw [a1.get (k := 38) (x := 4 * j + e) (by unfold P_scu; omega), a2.get (k := 124) (x := 4 * j + e) (by unfold Q_scu; omega)]; exact z.2.2.2 k e he⟩,
  fun j hj q => by rw [a1.get (k := 39) (x := j) (by unfold P_scu; omega)] at q; exact h.dn j hj q,
  fun j hj q => by rw [a1.get (k := 39) (x := j) (by unfold P_scu; omega)] at q; rw [a1.get (k := 12) (x := j) (by unfold P_scu; omega), a1.get (k := 13) (x := j) (by unfold P_scu; omega)]; exact h.so j hj q,
  fun j hj => by rw [a1.get (k := 35) (x := j) (by unfold P_scu; omega), a2.get (k := 123) (x := j) (by unfold Q_scu; omega)]; exact h.rp j hj,
  fun j hj => by rw [a1.get (k := 30) (x := j) (by unfold P_scu; omega), a2.get (k := 128) (x := j) (by unfold Q_scu; omega)]; exact h.me j hj,
  fun j hj => by rw [a1.get (k := 26) (x := j) (by unfold P_scu; omega), a2.get (k := 127) (x := j) (by unfold Q_scu; omega)]; exact h.m0 j hj,
  fun j hj => by rw [a1.get (k := 31) (x := j) (by unfold P_scu; omega), a2.get (k := 87) (x := j) (by unfold Q_scu; omega)]; exact h.se j hj,
  by rw [a1.get (k := 28) (x := 3) (by unfold P_scu; omega), a2.get (k := 84) (x := 3) (by unfold Q_scu; omega)]; exact h.ns,
  by rw [a1.get (k := 28) (x := 5) (by unfold P_scu; omega), a2.get (k := 84) (x := 0) (by unfold Q_scu; omega)]; exact h.x,
  by rw [a1.get (k := 33) (x := 2) (by unfold P_scu; omega), a2.get (k := 84) (x := 65) (by unfold Q_scu; omega)]; exact h.cr,
  by rw [a1.get (k := 33) (x := 3) (by unfold P_scu; omega), a2.get (k := 84) (x := 66) (by unfold Q_scu; omega)]; exact h.ca,
  g,
  by rw [a1.get (k := 33) (x := 5) (by unfold P_scu; omega), a2.get (k := 84) (x := 68) (by unfold Q_scu; omega)]; exact h.cd,
  by rw [a1.get (k := 24) (x := 4) (by unfold P_scu; omega), a2.get (k := 84) (x := 1) (by unfold Q_scu; omega)]; exact h.ru,
  fun j hj => by rw [a1.get (k := 25) (x := j) (by unfold P_scu; omega), a2.get (k := 85) (x := j) (by unfold Q_scu; omega)]; exact h.rg j hj,
  fun j hj h20 => by rw [a1.get (k := 31) (x := j) (by unfold P_scu; omega)]; exact h.sh j hj h20⟩
def P_scd (k x : Nat) : Prop := k = 33 ∧ x = 5
def Q_scd (k x : Nat) : Prop := k = 84 ∧ x = 68
theorem RM.scd {m : Nat} {D : Nat → Prop} {σ τ σ' τ' : pS} (h : RM m D σ τ) (a1 : FR P_scd σ σ') (a2 : FR Q_scd τ τ') (g : σ' 33 5 = τ' 84 68) : RM m D σ' τ' := ⟨fun j hj => by rw [a1.get (k := 39) (x := j) (by unfold P_scd; omega), a2.get (k := 118) (x := j) (by unfold Q_scd; omega)]; exact h.st j hj,
  fun j hj q => by rw [a1.get (k := 39) (x := j) (by unfold P_scd; omega)] at q; rw [a1.get (k := 40) (x := j) (by unfold P_scd; omega), a2.get (k := 119) (x := j) (by unfold Q_scd; omega)]; exact h.ti j hj q,
  fun j hj => by rw [a1.get (k := 41) (x := j) (by unfold P_scd; omega), a2.get (k := 126) (x := j) (by unfold Q_scd; omega)]; exact h.rt j hj,
  fun j hj q => by rw [a1.get (k := 41) (x := j) (by unfold P_scd; omega)] at q; have z := h.re j hj q; rw [a1.get (k := 5) (x := j) (by unfold P_scd; omega), a1.get (k := 37) (x := j) (by unfold P_scd; omega), a1.get (k := 7) (x := j) (by unfold P_scd; omega), a2.get (k := 132) (x := j) (by unfold Q_scd; omega)]; exact ⟨z.1, z.2.1, fun e he => by rw [a1.get (k := 42) (x := 4 * j + e) (by unfold P_scd; omega), a2.get (k := 125) (x := 4 * j + e) (by unfold Q_scd; omega)]; exact z.2.2 e he⟩,
  fun j hj q => by have z := h.va j hj q; rw [a1.get (k := 36) (x := j) (by unfold P_scd; omega), a1.get (k := 34) (x := j) (by unfold P_scd; omega), a1.get (k := 5) (x := j) (by unfold P_scd; omega), a1.get (k := 37) (x := j) (by unfold P_scd; omega), a1.get (k := 7) (x := j) (by unfold P_scd; omega), a2.get (k := 120) (x := j) (by unfold Q_scd; omega), a2.get (k := 122) (x := j) (by unfold Q_scd; omega), a2.get (k := 121) (x := j) (by unfold Q_scd; omega)]; exact ⟨z.1, z.2.1, z.2.2.1, fun k e he => by rw [a1.get (k := 38) (x := 4 * j + e) (by unfold P_scd; omega), a2.get (k := 124) (x := 4 * j + e) (by unfold Q_scd; omega)]; exact z.2.2.2 k e he⟩,
  fun j hj q => by rw [a1.get (k := 39) (x := j) (by unfold P_scd; omega)] at q; exact h.dn j hj q,
  fun j hj q => by rw [a1.get (k := 39) (x := j) (by unfold P_scd; omega)] at q; rw [a1.get (k := 12) (x := j) (by unfold P_scd; omega), a1.get (k := 13) (x := j) (by unfold P_scd; omega)]; exact h.so j hj q,
  fun j hj => by rw [a1.get (k := 35) (x := j) (by unfold P_scd; omega), a2.get (k := 123) (x := j) (by unfold Q_scd; omega)]; exact h.rp j hj,
  fun j hj => by rw [a1.get (k := 30) (x := j) (by unfold P_scd; omega), a2.get (k := 128) (x := j) (by unfold Q_scd; omega)]; exact h.me j hj,
  fun j hj => by rw [a1.get (k := 26) (x := j) (by unfold P_scd; omega), a2.get (k := 127) (x := j) (by unfold Q_scd; omega)]; exact h.m0 j hj,
  fun j hj => by rw [a1.get (k := 31) (x := j) (by unfold P_scd; omega), a2.get (k := 87) (x := j) (by unfold Q_scd; omega)]; exact h.se j hj,
  by rw [a1.get (k := 28) (x := 3) (by unfold P_scd; omega), a2.get (k := 84) (x := 3) (by unfold Q_scd; omega)]; exact h.ns,
  by rw [a1.get (k := 28) (x := 5) (by unfold P_scd; omega), a2.get (k := 84) (x := 0) (by unfold Q_scd; omega)]; exact h.x,
  by rw [a1.get (k := 33) (x := 2) (by unfold P_scd; omega), a2.get (k := 84) (x := 65) (by unfold Q_scd; omega)]; exact h.cr,
  by rw [a1.get (k := 33) (x := 3) (by unfold P_scd; omega), a2.get (k := 84) (x := 66) (by unfold Q_scd; omega)]; exact h.ca,
  by rw [a1.get (k := 33) (x := 4) (by unfold P_scd; omega), a2.get (k := 84) (x := 67) (by unfold Q_scd; omega)]; exact h.cu,
  g,
  by rw [a1.get (k := 24) (x := 4) (by unfold P_scd; omega), a2.get (k := 84) (x := 1) (by unfold Q_scd; omega)]; exact h.ru,
  fun j hj => by rw [a1.get (k := 25) (x := j) (by unfold P_scd; omega), a2.get (k := 85) (x := j) (by unfold Q_scd; omega)]; exact h.rg j hj,
  fun j hj h20 => by rw [a1.get (k := 31) (x := j) (by unfold P_scd; omega)]; exact h.sh j hj h20⟩
def P_sst0 (k x : Nat) : Prop := k = 39
def Q_sst0 (k x : Nat) : Prop := k = 118
theorem RM.sst0 {m : Nat} {D : Nat → Prop} {σ τ σ' τ' : pS} (h : RM m D σ τ) (a1 : FR P_sst0 σ σ') (a2 : FR Q_sst0 τ τ') (g : ∀ j, j < m → (σ' 39 j = τ' 118 j ∧ (σ' 39 j = 0 ∨ σ' 39 j = σ 39 j))) : RM m D σ' τ' := ⟨fun j hj => by have z := h.st j hj; have y := g j hj; omega,
  fun j hj q => by have y := g j hj; rw [a1.get (k := 40) (x := j) (by unfold P_sst0; omega), a2.get (k := 119) (x := j) (by unfold Q_sst0; omega)]; exact h.ti j hj (by omega),
  fun j hj => by rw [a1.get (k := 41) (x := j) (by unfold P_sst0; omega), a2.get (k := 126) (x := j) (by unfold Q_sst0; omega)]; exact h.rt j hj,
  fun j hj q => by rw [a1.get (k := 41) (x := j) (by unfold P_sst0; omega)] at q; have z := h.re j hj q; rw [a1.get (k := 5) (x := j) (by unfold P_sst0; omega), a1.get (k := 37) (x := j) (by unfold P_sst0; omega), a1.get (k := 7) (x := j) (by unfold P_sst0; omega), a2.get (k := 132) (x := j) (by unfold Q_sst0; omega)]; exact ⟨z.1, z.2.1, fun e he => by rw [a1.get (k := 42) (x := 4 * j + e) (by unfold P_sst0; omega), a2.get (k := 125) (x := 4 * j + e) (by unfold Q_sst0; omega)]; exact z.2.2 e he⟩,
  fun j hj q => by have z := h.va j hj q; rw [a1.get (k := 36) (x := j) (by unfold P_sst0; omega), a1.get (k := 34) (x := j) (by unfold P_sst0; omega), a1.get (k := 5) (x := j) (by unfold P_sst0; omega), a1.get (k := 37) (x := j) (by unfold P_sst0; omega), a1.get (k := 7) (x := j) (by unfold P_sst0; omega), a2.get (k := 120) (x := j) (by unfold Q_sst0; omega), a2.get (k := 122) (x := j) (by unfold Q_sst0; omega), a2.get (k := 121) (x := j) (by unfold Q_sst0; omega)]; exact ⟨z.1, z.2.1, z.2.2.1, fun k e he => by rw [a1.get (k := 38) (x := 4 * j + e) (by unfold P_sst0; omega), a2.get (k := 124) (x := 4 * j + e) (by unfold Q_sst0; omega)]; exact z.2.2.2 k e he⟩,
  fun j hj q => by have y := g j hj; exact h.dn j hj (by omega),
  fun j hj q => by have y := g j hj; rw [a1.get (k := 12) (x := j) (by unfold P_sst0; omega), a1.get (k := 13) (x := j) (by unfold P_sst0; omega)]; exact h.so j hj (by omega),
  fun j hj => by rw [a1.get (k := 35) (x := j) (by unfold P_sst0; omega), a2.get (k := 123) (x := j) (by unfold Q_sst0; omega)]; exact h.rp j hj,
  fun j hj => by rw [a1.get (k := 30) (x := j) (by unfold P_sst0; omega), a2.get (k := 128) (x := j) (by unfold Q_sst0; omega)]; exact h.me j hj,
  fun j hj => by rw [a1.get (k := 26) (x := j) (by unfold P_sst0; omega), a2.get (k := 127) (x := j) (by unfold Q_sst0; omega)]; exact h.m0 j hj,
  fun j hj => by rw [a1.get (k := 31) (x := j) (by unfold P_sst0; omega), a2.get (k := 87) (x := j) (by unfold Q_sst0; omega)]; exact h.se j hj,
  by rw [a1.get (k := 28) (x := 3) (by unfold P_sst0; omega), a2.get (k := 84) (x := 3) (by unfold Q_sst0; omega)]; exact h.ns,
  by rw [a1.get (k := 28) (x := 5) (by unfold P_sst0; omega), a2.get (k := 84) (x := 0) (by unfold Q_sst0; omega)]; exact h.x,
  by rw [a1.get (k := 33) (x := 2) (by unfold P_sst0; omega), a2.get (k := 84) (x := 65) (by unfold Q_sst0; omega)]; exact h.cr,
  by rw [a1.get (k := 33) (x := 3) (by unfold P_sst0; omega), a2.get (k := 84) (x := 66) (by unfold Q_sst0; omega)]; exact h.ca,
  by rw [a1.get (k := 33) (x := 4) (by unfold P_sst0; omega), a2.get (k := 84) (x := 67) (by unfold Q_sst0; omega)]; exact h.cu,
  by rw [a1.get (k := 33) (x := 5) (by unfold P_sst0; omega), a2.get (k := 84) (x := 68) (by unfold Q_sst0; omega)]; exact h.cd,
  by rw [a1.get (k := 24) (x := 4) (by unfold P_sst0; omega), a2.get (k := 84) (x := 1) (by unfold Q_sst0; omega)]; exact h.ru,
  fun j hj => by rw [a1.get (k := 25) (x := j) (by unfold P_sst0; omega), a2.get (k := 85) (x := j) (by unfold Q_sst0; omega)]; exact h.rg j hj,
  fun j hj h20 => by rw [a1.get (k := 31) (x := j) (by unfold P_sst0; omega)]; exact h.sh j hj h20⟩
def P_srp (k x : Nat) : Prop := k = 35
def Q_srp (k x : Nat) : Prop := k = 123
theorem RM.srp {m : Nat} {D : Nat → Prop} {σ τ σ' τ' : pS} (h : RM m D σ τ) (a1 : FR P_srp σ σ') (a2 : FR Q_srp τ τ') (g : ∀ j, j < m → σ' 35 j = τ' 123 j) : RM m D σ' τ' := ⟨fun j hj => by rw [a1.get (k := 39) (x := j) (by unfold P_srp; omega), a2.get (k := 118) (x := j) (by unfold Q_srp; omega)]; exact h.st j hj,
  fun j hj q => by rw [a1.get (k := 39) (x := j) (by unfold P_srp; omega)] at q; rw [a1.get (k := 40) (x := j) (by unfold P_srp; omega), a2.get (k := 119) (x := j) (by unfold Q_srp; omega)]; exact h.ti j hj q,
  fun j hj => by rw [a1.get (k := 41) (x := j) (by unfold P_srp; omega), a2.get (k := 126) (x := j) (by unfold Q_srp; omega)]; exact h.rt j hj,
  fun j hj q => by rw [a1.get (k := 41) (x := j) (by unfold P_srp; omega)] at q; have z := h.re j hj q; rw [a1.get (k := 5) (x := j) (by unfold P_srp; omega), a1.get (k := 37) (x := j) (by unfold P_srp; omega), a1.get (k := 7) (x := j) (by unfold P_srp; omega), a2.get (k := 132) (x := j) (by unfold Q_srp; omega)]; exact ⟨z.1, z.2.1, fun e he => by rw [a1.get (k := 42) (x := 4 * j + e) (by unfold P_srp; omega), a2.get (k := 125) (x := 4 * j + e) (by unfold Q_srp; omega)]; exact z.2.2 e he⟩,
  fun j hj q => by have z := h.va j hj q; rw [a1.get (k := 36) (x := j) (by unfold P_srp; omega), a1.get (k := 34) (x := j) (by unfold P_srp; omega), a1.get (k := 5) (x := j) (by unfold P_srp; omega), a1.get (k := 37) (x := j) (by unfold P_srp; omega), a1.get (k := 7) (x := j) (by unfold P_srp; omega), a2.get (k := 120) (x := j) (by unfold Q_srp; omega), a2.get (k := 122) (x := j) (by unfold Q_srp; omega), a2.get (k := 121) (x := j) (by unfold Q_srp; omega)]; exact ⟨z.1, z.2.1, z.2.2.1, fun k e he => by rw [a1.get (k := 38) (x := 4 * j + e) (by unfold P_srp; omega), a2.get (k := 124) (x := 4 * j + e) (by unfold Q_srp; omega)]; exact z.2.2.2 k e he⟩,
  fun j hj q => by rw [a1.get (k := 39) (x := j) (by unfold P_srp; omega)] at q; exact h.dn j hj q,
  fun j hj q => by rw [a1.get (k := 39) (x := j) (by unfold P_srp; omega)] at q; rw [a1.get (k := 12) (x := j) (by unfold P_srp; omega), a1.get (k := 13) (x := j) (by unfold P_srp; omega)]; exact h.so j hj q,
  g,
  fun j hj => by rw [a1.get (k := 30) (x := j) (by unfold P_srp; omega), a2.get (k := 128) (x := j) (by unfold Q_srp; omega)]; exact h.me j hj,
  fun j hj => by rw [a1.get (k := 26) (x := j) (by unfold P_srp; omega), a2.get (k := 127) (x := j) (by unfold Q_srp; omega)]; exact h.m0 j hj,
  fun j hj => by rw [a1.get (k := 31) (x := j) (by unfold P_srp; omega), a2.get (k := 87) (x := j) (by unfold Q_srp; omega)]; exact h.se j hj,
  by rw [a1.get (k := 28) (x := 3) (by unfold P_srp; omega), a2.get (k := 84) (x := 3) (by unfold Q_srp; omega)]; exact h.ns,
  by rw [a1.get (k := 28) (x := 5) (by unfold P_srp; omega), a2.get (k := 84) (x := 0) (by unfold Q_srp; omega)]; exact h.x,
  by rw [a1.get (k := 33) (x := 2) (by unfold P_srp; omega), a2.get (k := 84) (x := 65) (by unfold Q_srp; omega)]; exact h.cr,
  by rw [a1.get (k := 33) (x := 3) (by unfold P_srp; omega), a2.get (k := 84) (x := 66) (by unfold Q_srp; omega)]; exact h.ca,
  by rw [a1.get (k := 33) (x := 4) (by unfold P_srp; omega), a2.get (k := 84) (x := 67) (by unfold Q_srp; omega)]; exact h.cu,
  by rw [a1.get (k := 33) (x := 5) (by unfold P_srp; omega), a2.get (k := 84) (x := 68) (by unfold Q_srp; omega)]; exact h.cd,
  by rw [a1.get (k := 24) (x := 4) (by unfold P_srp; omega), a2.get (k := 84) (x := 1) (by unfold Q_srp; omega)]; exact h.ru,
  fun j hj => by rw [a1.get (k := 25) (x := j) (by unfold P_srp; omega), a2.get (k := 85) (x := j) (by unfold Q_srp; omega)]; exact h.rg j hj,
  fun j hj h20 => by rw [a1.get (k := 31) (x := j) (by unfold P_srp; omega)]; exact h.sh j hj h20⟩
def P_sse (k x : Nat) : Prop := k = 31 ∨ (k = 28 ∧ x = 3)
def Q_sse (k x : Nat) : Prop := k = 87 ∨ (k = 84 ∧ x = 3)
theorem RM.sse {m : Nat} {D : Nat → Prop} {σ τ σ' τ' : pS} (h : RM m D σ τ) (a1 : FR P_sse σ σ') (a2 : FR Q_sse τ τ') (g : ∀ j, j < m → σ' 31 j = τ' 87 j ∧ -1 ≤ σ' 31 j ∧ σ' 31 j ≤ 15) (g2 : σ' 28 3 = τ' 84 3 ∧ 0 ≤ σ' 28 3 ∧ σ' 28 3 ≤ 15) (g3 : ∀ j, m ≤ j → j < 20 → σ' 31 j = -1) : RM m D σ' τ' := ⟨fun j hj => by rw [a1.get (k := 39) (x := j) (by unfold P_sse; omega), a2.get (k := 118) (x := j) (by unfold Q_sse; omega)]; exact h.st j hj,
  fun j hj q => by rw [a1.get (k := 39) (x := j) (by unfold P_sse; omega)] at q; rw [a1.get (k := 40) (x := j) (by unfold P_sse; omega), a2.get (k := 119) (x := j) (by unfold Q_sse; omega)]; exact h.ti j hj q,
  fun j hj => by rw [a1.get (k := 41) (x := j) (by unfold P_sse; omega), a2.get (k := 126) (x := j) (by unfold Q_sse; omega)]; exact h.rt j hj,
  fun j hj q => by rw [a1.get (k := 41) (x := j) (by unfold P_sse; omega)] at q; have z := h.re j hj q; rw [a1.get (k := 5) (x := j) (by unfold P_sse; omega), a1.get (k := 37) (x := j) (by unfold P_sse; omega), a1.get (k := 7) (x := j) (by unfold P_sse; omega), a2.get (k := 132) (x := j) (by unfold Q_sse; omega)]; exact ⟨z.1, z.2.1, fun e he => by rw [a1.get (k := 42) (x := 4 * j + e) (by unfold P_sse; omega), a2.get (k := 125) (x := 4 * j + e) (by unfold Q_sse; omega)]; exact z.2.2 e he⟩,
  fun j hj q => by have z := h.va j hj q; rw [a1.get (k := 36) (x := j) (by unfold P_sse; omega), a1.get (k := 34) (x := j) (by unfold P_sse; omega), a1.get (k := 5) (x := j) (by unfold P_sse; omega), a1.get (k := 37) (x := j) (by unfold P_sse; omega), a1.get (k := 7) (x := j) (by unfold P_sse; omega), a2.get (k := 120) (x := j) (by unfold Q_sse; omega), a2.get (k := 122) (x := j) (by unfold Q_sse; omega), a2.get (k := 121) (x := j) (by unfold Q_sse; omega)]; exact ⟨z.1, z.2.1, z.2.2.1, fun k e he => by rw [a1.get (k := 38) (x := 4 * j + e) (by unfold P_sse; omega), a2.get (k := 124) (x := 4 * j + e) (by unfold Q_sse; omega)]; exact z.2.2.2 k e he⟩,
  fun j hj q => by rw [a1.get (k := 39) (x := j) (by unfold P_sse; omega)] at q; exact h.dn j hj q,
  fun j hj q => by rw [a1.get (k := 39) (x := j) (by unfold P_sse; omega)] at q; rw [a1.get (k := 12) (x := j) (by unfold P_sse; omega), a1.get (k := 13) (x := j) (by unfold P_sse; omega)]; exact h.so j hj q,
  fun j hj => by rw [a1.get (k := 35) (x := j) (by unfold P_sse; omega), a2.get (k := 123) (x := j) (by unfold Q_sse; omega)]; exact h.rp j hj,
  fun j hj => by rw [a1.get (k := 30) (x := j) (by unfold P_sse; omega), a2.get (k := 128) (x := j) (by unfold Q_sse; omega)]; exact h.me j hj,
  fun j hj => by rw [a1.get (k := 26) (x := j) (by unfold P_sse; omega), a2.get (k := 127) (x := j) (by unfold Q_sse; omega)]; exact h.m0 j hj,
  g,
  g2,
  by rw [a1.get (k := 28) (x := 5) (by unfold P_sse; omega), a2.get (k := 84) (x := 0) (by unfold Q_sse; omega)]; exact h.x,
  by rw [a1.get (k := 33) (x := 2) (by unfold P_sse; omega), a2.get (k := 84) (x := 65) (by unfold Q_sse; omega)]; exact h.cr,
  by rw [a1.get (k := 33) (x := 3) (by unfold P_sse; omega), a2.get (k := 84) (x := 66) (by unfold Q_sse; omega)]; exact h.ca,
  by rw [a1.get (k := 33) (x := 4) (by unfold P_sse; omega), a2.get (k := 84) (x := 67) (by unfold Q_sse; omega)]; exact h.cu,
  by rw [a1.get (k := 33) (x := 5) (by unfold P_sse; omega), a2.get (k := 84) (x := 68) (by unfold Q_sse; omega)]; exact h.cd,
  by rw [a1.get (k := 24) (x := 4) (by unfold P_sse; omega), a2.get (k := 84) (x := 1) (by unfold Q_sse; omega)]; exact h.ru,
  fun j hj => by rw [a1.get (k := 25) (x := j) (by unfold P_sse; omega), a2.get (k := 85) (x := j) (by unfold Q_sse; omega)]; exact h.rg j hj,
  g3⟩
def P_sx (k x : Nat) : Prop := k = 28 ∧ x = 5
def Q_sx (k x : Nat) : Prop := k = 84 ∧ x = 0
theorem RM.sx {m : Nat} {D : Nat → Prop} {σ τ σ' τ' : pS} (h : RM m D σ τ) (a1 : FR P_sx σ σ') (a2 : FR Q_sx τ τ') (g : σ' 28 5 = τ' 84 0 ∧ 0 ≤ σ' 28 5 ∧ σ' 28 5 ≤ 65535) : RM m D σ' τ' := ⟨fun j hj => by rw [a1.get (k := 39) (x := j) (by unfold P_sx; omega), a2.get (k := 118) (x := j) (by unfold Q_sx; omega)]; exact h.st j hj,
  fun j hj q => by rw [a1.get (k := 39) (x := j) (by unfold P_sx; omega)] at q; rw [a1.get (k := 40) (x := j) (by unfold P_sx; omega), a2.get (k := 119) (x := j) (by unfold Q_sx; omega)]; exact h.ti j hj q,
  fun j hj => by rw [a1.get (k := 41) (x := j) (by unfold P_sx; omega), a2.get (k := 126) (x := j) (by unfold Q_sx; omega)]; exact h.rt j hj,
  fun j hj q => by rw [a1.get (k := 41) (x := j) (by unfold P_sx; omega)] at q; have z := h.re j hj q; rw [a1.get (k := 5) (x := j) (by unfold P_sx; omega), a1.get (k := 37) (x := j) (by unfold P_sx; omega), a1.get (k := 7) (x := j) (by unfold P_sx; omega), a2.get (k := 132) (x := j) (by unfold Q_sx; omega)]; exact ⟨z.1, z.2.1, fun e he => by rw [a1.get (k := 42) (x := 4 * j + e) (by unfold P_sx; omega), a2.get (k := 125) (x := 4 * j + e) (by unfold Q_sx; omega)]; exact z.2.2 e he⟩,
  fun j hj q => by have z := h.va j hj q; rw [a1.get (k := 36) (x := j) (by unfold P_sx; omega), a1.get (k := 34) (x := j) (by unfold P_sx; omega), a1.get (k := 5) (x := j) (by unfold P_sx; omega), a1.get (k := 37) (x := j) (by unfold P_sx; omega), a1.get (k := 7) (x := j) (by unfold P_sx; omega), a2.get (k := 120) (x := j) (by unfold Q_sx; omega), a2.get (k := 122) (x := j) (by unfold Q_sx; omega), a2.get (k := 121) (x := j) (by unfold Q_sx; omega)]; exact ⟨z.1, z.2.1, z.2.2.1, fun k e he => by rw [a1.get (k := 38) (x := 4 * j + e) (by unfold P_sx; omega), a2.get (k := 124) (x := 4 * j + e) (by unfold Q_sx; omega)]; exact z.2.2.2 k e he⟩,
  fun j hj q => by rw [a1.get (k := 39) (x := j) (by unfold P_sx; omega)] at q; exact h.dn j hj q,
  fun j hj q => by rw [a1.get (k := 39) (x := j) (by unfold P_sx; omega)] at q; rw [a1.get (k := 12) (x := j) (by unfold P_sx; omega), a1.get (k := 13) (x := j) (by unfold P_sx; omega)]; exact h.so j hj q,
  fun j hj => by rw [a1.get (k := 35) (x := j) (by unfold P_sx; omega), a2.get (k := 123) (x := j) (by unfold Q_sx; omega)]; exact h.rp j hj,
  fun j hj => by rw [a1.get (k := 30) (x := j) (by unfold P_sx; omega), a2.get (k := 128) (x := j) (by unfold Q_sx; omega)]; exact h.me j hj,
  fun j hj => by rw [a1.get (k := 26) (x := j) (by unfold P_sx; omega), a2.get (k := 127) (x := j) (by unfold Q_sx; omega)]; exact h.m0 j hj,
  fun j hj => by rw [a1.get (k := 31) (x := j) (by unfold P_sx; omega), a2.get (k := 87) (x := j) (by unfold Q_sx; omega)]; exact h.se j hj,
  by rw [a1.get (k := 28) (x := 3) (by unfold P_sx; omega), a2.get (k := 84) (x := 3) (by unfold Q_sx; omega)]; exact h.ns,
  g,
  by rw [a1.get (k := 33) (x := 2) (by unfold P_sx; omega), a2.get (k := 84) (x := 65) (by unfold Q_sx; omega)]; exact h.cr,
  by rw [a1.get (k := 33) (x := 3) (by unfold P_sx; omega), a2.get (k := 84) (x := 66) (by unfold Q_sx; omega)]; exact h.ca,
  by rw [a1.get (k := 33) (x := 4) (by unfold P_sx; omega), a2.get (k := 84) (x := 67) (by unfold Q_sx; omega)]; exact h.cu,
  by rw [a1.get (k := 33) (x := 5) (by unfold P_sx; omega), a2.get (k := 84) (x := 68) (by unfold Q_sx; omega)]; exact h.cd,
  by rw [a1.get (k := 24) (x := 4) (by unfold P_sx; omega), a2.get (k := 84) (x := 1) (by unfold Q_sx; omega)]; exact h.ru,
  fun j hj => by rw [a1.get (k := 25) (x := j) (by unfold P_sx; omega), a2.get (k := 85) (x := j) (by unfold Q_sx; omega)]; exact h.rg j hj,
  fun j hj h20 => by rw [a1.get (k := 31) (x := j) (by unfold P_sx; omega)]; exact h.sh j hj h20⟩
def P_sno (k x : Nat) : Prop := (k = 3 ∧ x = 11) ∨ k = 22 ∨ k = 23 ∨ k = 29 ∨ k = 43 ∨ k = 44 ∨ (k = 33 ∧ (x = 0 ∨ x = 1))
def Q_sno (k x : Nat) : Prop := k = 108 ∨ k = 109 ∨ k = 130 ∨ k = 131 ∨ k = 133 ∨ (k = 84 ∧ (x = 63 ∨ x = 64 ∨ x = 69 ∨ x = 70 ∨ x = 72))
theorem RM.sno {m : Nat} {D : Nat → Prop} {σ τ σ' τ' : pS} (h : RM m D σ τ) (a1 : FR P_sno σ σ') (a2 : FR Q_sno τ τ') : RM m D σ' τ' := ⟨fun j hj => by rw [a1.get (k := 39) (x := j) (by unfold P_sno; omega), a2.get (k := 118) (x := j) (by unfold Q_sno; omega)]; exact h.st j hj,
  fun j hj q => by rw [a1.get (k := 39) (x := j) (by unfold P_sno; omega)] at q; rw [a1.get (k := 40) (x := j) (by unfold P_sno; omega), a2.get (k := 119) (x := j) (by unfold Q_sno; omega)]; exact h.ti j hj q,
  fun j hj => by rw [a1.get (k := 41) (x := j) (by unfold P_sno; omega), a2.get (k := 126) (x := j) (by unfold Q_sno; omega)]; exact h.rt j hj,
  fun j hj q => by rw [a1.get (k := 41) (x := j) (by unfold P_sno; omega)] at q; have z := h.re j hj q; rw [a1.get (k := 5) (x := j) (by unfold P_sno; omega), a1.get (k := 37) (x := j) (by unfold P_sno; omega), a1.get (k := 7) (x := j) (by unfold P_sno; omega), a2.get (k := 132) (x := j) (by unfold Q_sno; omega)]; exact ⟨z.1, z.2.1, fun e he => by rw [a1.get (k := 42) (x := 4 * j + e) (by unfold P_sno; omega), a2.get (k := 125) (x := 4 * j + e) (by unfold Q_sno; omega)]; exact z.2.2 e he⟩,
  fun j hj q => by have z := h.va j hj q; rw [a1.get (k := 36) (x := j) (by unfold P_sno; omega), a1.get (k := 34) (x := j) (by unfold P_sno; omega), a1.get (k := 5) (x := j) (by unfold P_sno; omega), a1.get (k := 37) (x := j) (by unfold P_sno; omega), a1.get (k := 7) (x := j) (by unfold P_sno; omega), a2.get (k := 120) (x := j) (by unfold Q_sno; omega), a2.get (k := 122) (x := j) (by unfold Q_sno; omega), a2.get (k := 121) (x := j) (by unfold Q_sno; omega)]; exact ⟨z.1, z.2.1, z.2.2.1, fun k e he => by rw [a1.get (k := 38) (x := 4 * j + e) (by unfold P_sno; omega), a2.get (k := 124) (x := 4 * j + e) (by unfold Q_sno; omega)]; exact z.2.2.2 k e he⟩,
  fun j hj q => by rw [a1.get (k := 39) (x := j) (by unfold P_sno; omega)] at q; exact h.dn j hj q,
  fun j hj q => by rw [a1.get (k := 39) (x := j) (by unfold P_sno; omega)] at q; rw [a1.get (k := 12) (x := j) (by unfold P_sno; omega), a1.get (k := 13) (x := j) (by unfold P_sno; omega)]; exact h.so j hj q,
  fun j hj => by rw [a1.get (k := 35) (x := j) (by unfold P_sno; omega), a2.get (k := 123) (x := j) (by unfold Q_sno; omega)]; exact h.rp j hj,
  fun j hj => by rw [a1.get (k := 30) (x := j) (by unfold P_sno; omega), a2.get (k := 128) (x := j) (by unfold Q_sno; omega)]; exact h.me j hj,
  fun j hj => by rw [a1.get (k := 26) (x := j) (by unfold P_sno; omega), a2.get (k := 127) (x := j) (by unfold Q_sno; omega)]; exact h.m0 j hj,
  fun j hj => by rw [a1.get (k := 31) (x := j) (by unfold P_sno; omega), a2.get (k := 87) (x := j) (by unfold Q_sno; omega)]; exact h.se j hj,
  by rw [a1.get (k := 28) (x := 3) (by unfold P_sno; omega), a2.get (k := 84) (x := 3) (by unfold Q_sno; omega)]; exact h.ns,
  by rw [a1.get (k := 28) (x := 5) (by unfold P_sno; omega), a2.get (k := 84) (x := 0) (by unfold Q_sno; omega)]; exact h.x,
  by rw [a1.get (k := 33) (x := 2) (by unfold P_sno; omega), a2.get (k := 84) (x := 65) (by unfold Q_sno; omega)]; exact h.cr,
  by rw [a1.get (k := 33) (x := 3) (by unfold P_sno; omega), a2.get (k := 84) (x := 66) (by unfold Q_sno; omega)]; exact h.ca,
  by rw [a1.get (k := 33) (x := 4) (by unfold P_sno; omega), a2.get (k := 84) (x := 67) (by unfold Q_sno; omega)]; exact h.cu,
  by rw [a1.get (k := 33) (x := 5) (by unfold P_sno; omega), a2.get (k := 84) (x := 68) (by unfold Q_sno; omega)]; exact h.cd,
  by rw [a1.get (k := 24) (x := 4) (by unfold P_sno; omega), a2.get (k := 84) (x := 1) (by unfold Q_sno; omega)]; exact h.ru,
  fun j hj => by rw [a1.get (k := 25) (x := j) (by unfold P_sno; omega), a2.get (k := 85) (x := j) (by unfold Q_sno; omega)]; exact h.rg j hj,
  fun j hj h20 => by rw [a1.get (k := 31) (x := j) (by unfold P_sno; omega)]; exact h.sh j hj h20⟩
def P_un (k x : Nat) : Prop := k = 30 ∨ k = 41 ∨ (k = 33 ∧ x = 4)
def Q_un (k x : Nat) : Prop := k = 128 ∨ k = 126 ∨ (k = 84 ∧ x = 67)
theorem P_un_N (k x : Nat) (h : P_un k x) : PN k x := by unfold P_un at h; unfold PN; omega
theorem Q_un_N (k x : Nat) (h : Q_un k x) : QN k x := by unfold Q_un at h; unfold QN; omega
theorem un_lp {m : Nat} {rec : Nat → O8} {D : Nat → Prop} {i : Nat} : ∀ (c fu1 fu2 : Nat) (σ τ : pS), c ≤ m → c < fu1 → c < fu2 → PG m rec σ τ → RM m D σ τ → ∃ σ' τ', f_Mach_undoDownTo_3_p10 fu1 (i : Int) ((c : Int) - 1) σ = some (0, σ') ∧ f_M_undoesTo_84_p7 fu2 (i : Int) ((c : Int) - 1) τ = some (0, τ') ∧ RM m D σ' τ' ∧ FR P_un σ σ' ∧ FR Q_un τ τ' ∧ (∀ j, σ' 41 j = if i ≤ j ∧ j < c then 0 else σ 41 j)
  | 0, fu1, fu2, σ, τ, hc, h1, h2, hG, h => by
    obtain ⟨n1, rfl⟩ : ∃ n, fu1 = n + 1 := ⟨fu1 - 1, by omega⟩
    obtain ⟨n2, rfl⟩ : ∃ n, fu2 = n + 1 := ⟨fu2 - 1, by omega⟩
    refine ⟨σ, τ, ?_, ?_, h, FR.rf _ _, FR.rf _ _, fun j => by rw [if_neg (by omega)]⟩
    · show (if ((0 : Nat) : Int) - 1 < (i : Int) then _ else _) = _
      rw [if_pos (by omega)]
    · show (if ((0 : Nat) : Int) - 1 < (i : Int) then _ else _) = _
      rw [if_pos (by omega)]
  | c + 1, fu1, fu2, σ, τ, hc, h1, h2, hG, h => by
    obtain ⟨n1, rfl⟩ : ∃ n, fu1 = n + 1 := ⟨fu1 - 1, by omega⟩
    obtain ⟨n2, rfl⟩ : ∃ n, fu2 = n + 1 := ⟨fu2 - 1, by omega⟩
    have hm := hG.le
    have e : ((c + 1 : Nat) : Int) - 1 = (c : Int) := by omega
    rw [e]
    by_cases hi : (c : Int) < (i : Int)
    · refine ⟨σ, τ, ?_, ?_, h, FR.rf _ _, FR.rf _ _, fun j => by rw [if_neg (by omega)]⟩
      · show (if (c : Int) < (i : Int) then _ else _) = _
        rw [if_pos hi]
      · show (if (c : Int) < (i : Int) then _ else _) = _
        rw [if_pos hi]
    · have g : (0 : Int) ≤ (c : Int) ∧ (c : Int) < 20 := by omega
      have hr := h.rt c (by omega)
      have eX : f_Mach_undoDownTo_3_p10 (n1 + 1) (i : Int) (c : Int) σ = (if σ 41 c = 0 then f_Mach_undoDownTo_3_p10 n1 (i : Int) ((c : Int) - 1) σ else f_Mach_undoDownTo_3_p26 (f_Mach_undoDownTo_3_p10 n1) 4096 (i : Int) (c : Int) ((0 : Nat) : Int) σ) := by
        show (if (c : Int) < (i : Int) then _ else _) = _
        rw [if_neg hi, if_pos g, Int.toNat_natCast, pw_p (show c < 20 by omega) (by decide)]
        rfl
      have eM : f_M_undoesTo_84_p7 (n2 + 1) (i : Int) (c : Int) τ = (if τ 126 c = 0 then f_M_undoesTo_84_p7 n2 (i : Int) ((c : Int) - 1) τ else f_M_undoesTo_84_p26 (f_M_undoesTo_84_p7 n2) 4096 (i : Int) (c : Int) ((0 : Nat) : Int) τ) := by
        show (if (c : Int) < (i : Int) then _ else _) = _
        rw [if_neg hi, if_pos g, Int.toNat_natCast, pw_p (show c < 20 by omega) (by decide)]
        rfl
      rw [eX, eM, ← hr.1]
      by_cases h0 : σ 41 c = 0
      · rw [if_pos h0, if_pos h0]
        obtain ⟨σ', τ', q1, q2, q3, q4, q5, q6⟩ := un_lp (i := i) c n1 n2 σ τ (by omega) (by omega) (by omega) hG h
        refine ⟨σ', τ', q1, q2, q3, q4, q5, fun j => ?_⟩
        rw [q6 j]
        by_cases hj : i ≤ j ∧ j < c
        · rw [if_pos hj, if_pos (by omega)]
        · rw [if_neg hj]
          by_cases hjc : j = c
          · rw [if_pos (by omega), hjc, h0]
          · rw [if_neg (by omega)]
      · rw [if_neg h0, if_neg h0]
        obtain ⟨z1, z2, z3⟩ := h.re c (by omega) (by omega)
        obtain ⟨y1, y2⟩ := hG.sz (show c < m by omega) (by omega)
        obtain ⟨s, hs, hs4⟩ : ∃ s : Nat, σ 7 c = (s : Int) ∧ s ≤ 4 := ⟨(σ 7 c).toNat, by omega, by omega⟩
        obtain ⟨σ1, τ1, q1, q2, q3, q4, q5⟩ := un_26 (show c < 20 by omega) hs4 (K1 := f_Mach_undoDownTo_3_p10 n1) (K2 := f_M_undoesTo_84_p7 n2) (i1 := (i : Int)) (i2 := (i : Int)) s 0 4096 4096 σ τ (by omega) (by omega) (by omega) hs (y1.trans hs) z2 (fun q hq => z3 q (by rw [hs]; omega)) h.me
        rw [q1, q2]
        have hA := h.sme (q4.mono (fun k x hk => hk)) (q5.mono (fun k x hk => hk)) q3
        have hB := hA.srt0 (σ' := pU σ1 41 c 0) (τ' := pU τ1 126 c 0) (FR.u rfl) (FR.u rfl) (fun j hj => by
          by_cases hjc : j = c
          · rw [hjc, pU_s, pU_s]
            exact ⟨rfl, Or.inl rfl⟩
          · rw [pU_i _ _ _ _ hjc, pU_i _ _ _ _ hjc]
            exact ⟨(hA.rt j hj).1, Or.inr rfl⟩)
        have hC := hB.scu (σ' := pU (pU σ1 41 c 0) 33 4 (pw (σ 33 4 + 1))) (τ' := pU (pU τ1 126 c 0) 84 67 (pw (τ 84 67 + 1))) (FR.u ⟨rfl, rfl⟩) (FR.u ⟨rfl, rfl⟩) (by rw [pU_s, pU_s, h.cu])
        have f1 : FR P_un σ (pU (pU σ1 41 c 0) 33 4 (pw (σ 33 4 + 1))) := FR.tr (P := P_un) (FR.tr (P := P_un) (q4.mono (fun k x hk => Or.inl hk)) (FR.u (Or.inr (Or.inl rfl)))) (FR.u (Or.inr (Or.inr ⟨rfl, rfl⟩)))
        have f2 : FR Q_un τ (pU (pU τ1 126 c 0) 84 67 (pw (τ 84 67 + 1))) := FR.tr (P := Q_un) (FR.tr (P := Q_un) (q5.mono (fun k x hk => Or.inl hk)) (FR.u (Or.inr (Or.inl rfl)))) (FR.u (Or.inr (Or.inr ⟨rfl, rfl⟩)))
        obtain ⟨σ', τ', p1, p2, p3, p4, p5, p6⟩ := un_lp (i := i) c n1 n2 _ _ (by omega) (by omega) (by omega) (hG.fr (f1.mono P_un_N) (f2.mono Q_un_N)) hC
        refine ⟨σ', τ', p1, p2, p3, f1.tr p4, f2.tr p5, fun j => ?_⟩
        rw [p6 j]
        by_cases hj : i ≤ j ∧ j < c
        · rw [if_pos hj, if_pos (by omega)]
        · rw [if_neg hj, pU_c _ _ _ _ (by decide)]
          by_cases hjc : j = c
          · rw [hjc, pU_s, if_pos (by omega)]
          · rw [pU_i _ _ _ _ hjc, if_neg (by omega)]
            exact q4.get (by decide)
theorem un_ls {m : Nat} {rec : Nat → O8} {D : Nat → Prop} {i : Nat} {σ τ : pS} (hG : PG m rec σ τ) (h : RM m D σ τ) : ∃ σ' τ', f_Mach_undoDownTo_3 (i : Int) σ = some (0, σ') ∧ f_M_undoesTo_84 (i : Int) τ = some (0, τ') ∧ RM m D σ' τ' ∧ FR P_un σ σ' ∧ FR Q_un τ τ' ∧ (∀ j, σ' 41 j = if i ≤ j ∧ j < m then 0 else σ 41 j) := by
  have hm := hG.le
  have hx := un_lp (i := i) m 4096 4096 σ τ (Nat.le_refl _) (by omega) (by omega) hG h
  unfold f_Mach_undoDownTo_3 f_M_undoesTo_84
  rw [hG.cm, hG.mm, pw_id (by omega) (by omega)]
  exact hx
