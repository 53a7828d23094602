theorem pAnd_63 (a : Int) : 0 ≤ pAnd a 63 ∧ pAnd a 63 < 64 := by
  show 0 ≤ ((Int32.ofInt a).toBitVec &&& 63#32).toInt ∧ ((Int32.ofInt a).toBitVec &&& 63#32).toInt < 64
  have h : ((Int32.ofInt a).toBitVec &&& 63#32).toNat ≤ 63 := by
    rw [BitVec.toNat_and]
    exact Nat.and_le_right
  rw [BitVec.toInt_eq_toNat_of_lt (by omega)]
  omega
/-- a program in both stores -/
def PG (m : Nat) (rec : Nat → O8) (σ τ : pS) : Prop := (m ≤ 20) ∧
  (σ 4 11 = (m : Int)) ∧
  (τ 84 2 = (m : Int)) ∧
  (∀ j, j < m → CRp σ j (rec j) ∧ MRp τ j (rec j) ∧ VR (rec j)) ∧
  (∀ j, j < m → σ 12 j = src (σ 8) j (σ 9 j) ∧ σ 13 j = src (σ 8) j (σ 10 j))
theorem PG.le {m : Nat} {rec : Nat → O8} {σ τ : pS} (h : PG m rec σ τ) : m ≤ 20 := h.1
theorem PG.cm {m : Nat} {rec : Nat → O8} {σ τ : pS} (h : PG m rec σ τ) : σ 4 11 = (m : Int) := h.2.1
theorem PG.mm {m : Nat} {rec : Nat → O8} {σ τ : pS} (h : PG m rec σ τ) : τ 84 2 = (m : Int) := h.2.2.1
theorem PG.op {m : Nat} {rec : Nat → O8} {σ τ : pS} (h : PG m rec σ τ) : ∀ j, j < m → CRp σ j (rec j) ∧ MRp τ j (rec j) ∧ VR (rec j) := h.2.2.2.1
theorem PG.so {m : Nat} {rec : Nat → O8} {σ τ : pS} (h : PG m rec σ τ) : ∀ j, j < m → σ 12 j = src (σ 8) j (σ 9 j) ∧ σ 13 j = src (σ 8) j (σ 10 j) := h.2.2.2.2
/-- a run under way in both stores; D: has been done once in it -/
def RM (m : Nat) (D : Nat → Prop) (σ τ : pS) : Prop := (∀ j, j < m → σ 39 j = τ 118 j ∧ 0 ≤ σ 39 j ∧ σ 39 j ≤ 2) ∧
  (∀ j, j < m → σ 39 j = 1 → σ 40 j = τ 119 j) ∧
  (∀ j, j < m → σ 41 j = τ 126 j ∧ 0 ≤ σ 41 j ∧ σ 41 j ≤ 1) ∧
  (∀ j, j < m → σ 41 j = 1 → σ 5 j = 3 ∧ τ 132 j = σ 37 j ∧ ∀ e : Nat, (e : Int) < σ 7 j → σ 42 (4 * j + e) = τ 125 (4 * j + e)) ∧
  (∀ j, j < m → D j → σ 36 j = τ 120 j ∧ σ 34 j = τ 122 j ∧ (2 ≤ σ 5 j → σ 37 j = τ 121 j) ∧ (σ 5 j = 2 → ∀ e : Nat, (e : Int) < σ 7 j → σ 38 (4 * j + e) = τ 124 (4 * j + e))) ∧
  (∀ j, j < m → σ 39 j = 2 → D j) ∧
  (∀ j, j < m → σ 39 j ≠ 0 → (0 ≤ σ 12 j → D (σ 12 j).toNat) ∧ (0 ≤ σ 13 j → D (σ 13 j).toNat)) ∧
  (∀ j, j < m → σ 35 j = τ 123 j) ∧
  (∀ x, x < 64 → σ 30 x = τ 128 x) ∧
  (∀ x, x < 64 → σ 26 x = τ 127 x) ∧
  (∀ j, j < m → σ 31 j = τ 87 j ∧ -1 ≤ σ 31 j ∧ σ 31 j ≤ 15) ∧
  (σ 28 3 = τ 84 3 ∧ 0 ≤ σ 28 3 ∧ σ 28 3 ≤ 15) ∧
  (σ 28 5 = τ 84 0 ∧ 0 ≤ σ 28 5 ∧ σ 28 5 ≤ 65535) ∧
  (σ 33 2 = τ 84 65) ∧
  (σ 33 3 = τ 84 66) ∧
  (σ 33 4 = τ 84 67) ∧
  (σ 33 5 = τ 84 68) ∧
  (σ 24 4 = τ 84 1) ∧
  (∀ r, r < 8 → σ 25 r = τ 85 r)
theorem RM.st {m : Nat} {D : Nat → Prop} {σ τ : pS} (h : RM m D σ τ) : ∀ j, j < m → σ 39 j = τ 118 j ∧ 0 ≤ σ 39 j ∧ σ 39 j ≤ 2 := h.1
theorem RM.ti {m : Nat} {D : Nat → Prop} {σ τ : pS} (h : RM m D σ τ) : ∀ j, j < m → σ 39 j = 1 → σ 40 j = τ 119 j := h.2.1
theorem RM.rt {m : Nat} {D : Nat → Prop} {σ τ : pS} (h : RM m D σ τ) : ∀ j, j < m → σ 41 j = τ 126 j ∧ 0 ≤ σ 41 j ∧ σ 41 j ≤ 1 := h.2.2.1
theorem RM.re {m : Nat} {D : Nat → Prop} {σ τ : pS} (h : RM m D σ τ) : ∀ j, j < m → σ 41 j = 1 → σ 5 j = 3 ∧ τ 132 j = σ 37 j ∧ ∀ e : Nat, (e : Int) < σ 7 j → σ 42 (4 * j + e) = τ 125 (4 * j + e) := h.2.2.2.1
theorem RM.va {m : Nat} {D : Nat → Prop} {σ τ : pS} (h : RM m D σ τ) : ∀ j, j < m → D j → σ 36 j = τ 120 j ∧ σ 34 j = τ 122 j ∧ (2 ≤ σ 5 j → σ 37 j = τ 121 j) ∧ (σ 5 j = 2 → ∀ e : Nat, (e : Int) < σ 7 j → σ 38 (4 * j + e) = τ 124 (4 * j + e)) := h.2.2.2.2.1
theorem RM.dn {m : Nat} {D : Nat → Prop} {σ τ : pS} (h : RM m D σ τ) : ∀ j, j < m → σ 39 j = 2 → D j := h.2.2.2.2.2.1
theorem RM.so {m : Nat} {D : Nat → Prop} {σ τ : pS} (h : RM m D σ τ) : ∀ j, j < m → σ 39 j ≠ 0 → (0 ≤ σ 12 j → D (σ 12 j).toNat) ∧ (0 ≤ σ 13 j → D (σ 13 j).toNat) := h.2.2.2.2.2.2.1
theorem RM.rp {m : Nat} {D : Nat → Prop} {σ τ : pS} (h : RM m D σ τ) : ∀ j, j < m → σ 35 j = τ 123 j := h.2.2.2.2.2.2.2.1
theorem RM.me {m : Nat} {D : Nat → Prop} {σ τ : pS} (h : RM m D σ τ) : ∀ x, x < 64 → σ 30 x = τ 128 x := h.2.2.2.2.2.2.2.2.1
theorem RM.m0 {m : Nat} {D : Nat → Prop} {σ τ : pS} (h : RM m D σ τ) : ∀ x, x < 64 → σ 26 x = τ 127 x := h.2.2.2.2.2.2.2.2.2.1
theorem RM.se {m : Nat} {D : Nat → Prop} {σ τ : pS} (h : RM m D σ τ) : ∀ j, j < m → σ 31 j = τ 87 j ∧ -1 ≤ σ 31 j ∧ σ 31 j ≤ 15 := h.2.2.2.2.2.2.2.2.2.2.1
theorem RM.ns {m : Nat} {D : Nat → Prop} {σ τ : pS} (h : RM m D σ τ) : σ 28 3 = τ 84 3 ∧ 0 ≤ σ 28 3 ∧ σ 28 3 ≤ 15 := h.2.2.2.2.2.2.2.2.2.2.2.1
theorem RM.x {m : Nat} {D : Nat → Prop} {σ τ : pS} (h : RM m D σ τ) : σ 28 5 = τ 84 0 ∧ 0 ≤ σ 28 5 ∧ σ 28 5 ≤ 65535 := h.2.2.2.2.2.2.2.2.2.2.2.2.1
theorem RM.cr {m : Nat} {D : Nat → Prop} {σ τ : pS} (h : RM m D σ τ) : σ 33 2 = τ 84 65 := h.2.2.2.2.2.2.2.2.2.2.2.2.2.1
theorem RM.ca {m : Nat} {D : Nat → Prop} {σ τ : pS} (h : RM m D σ τ) : σ 33 3 = τ 84 66 := h.2.2.2.2.2.2.2.2.2.2.2.2.2.2.1
theorem RM.cu {m : Nat} {D : Nat → Prop} {σ τ : pS} (h : RM m D σ τ) : σ 33 4 = τ 84 67 := h.2.2.2.2.2.2.2.2.2.2.2.2.2.2.2.1
theorem RM.cd {m : Nat} {D : Nat → Prop} {σ τ : pS} (h : RM m D σ τ) : σ 33 5 = τ 84 68 := h.2.2.2.2.2.2.2.2.2.2.2.2.2.2.2.2.1
theorem RM.ru {m : Nat} {D : Nat → Prop} {σ τ : pS} (h : RM m D σ τ) : σ 24 4 = τ 84 1 := h.2.2.2.2.2.2.2.2.2.2.2.2.2.2.2.2.2.1
theorem RM.rg {m : Nat} {D : Nat → Prop} {σ τ : pS} (h : RM m D σ τ) : ∀ r, r < 8 → σ 25 r = τ 85 r := h.2.2.2.2.2.2.2.2.2.2.2.2.2.2.2.2.2.2
/-- what a run may write -/
def PN (k x : Nat) : Prop := (k = 3 ∧ x = 11) ∨ k = 22 ∨ k = 23 ∨ (28 ≤ k ∧ k ≤ 44)
def QN (k x : Nat) : Prop := (k = 84 ∧ (x = 0 ∨ x = 3 ∨ (63 ≤ x ∧ x ≤ 72))) ∨ k = 87 ∨ k = 108 ∨ k = 109 ∨ (118 ≤ k ∧ k ≤ 133)
theorem PG.fr {m : Nat} {rec : Nat → O8} {σ τ σ' τ' : pS} (h : PG m rec σ τ) (h1 : FR PN σ σ') (h2 : FR QN τ τ') : PG m rec σ' τ' := by
  have a : ∀ k x, 4 ≤ k → k ≤ 13 → σ' k x = σ k x := fun k x p q => h1.get (by unfold PN; omega)
  have b : ∀ k x, 88 ≤ k → k ≤ 95 → τ' k x = τ k x := fun k x p q => h2.get (by unfold QN; omega)
  have e8 : σ' 8 = σ 8 := funext (fun x => a 8 x (by decide) (by decide))
  refine ⟨h.le, (a _ _ (by decide) (by decide)).trans h.cm, (h2.get (by unfold QN; omega)).trans h.mm, fun j hj => ?_, fun j hj => ?_⟩
  · obtain ⟨c1, c2, c3⟩ := h.op j hj
    refine ⟨?_, ?_, c3⟩
    · unfold CRp at *
      rw [a 5 _ (by decide) (by decide), a 6 _ (by decide) (by decide), a 7 _ (by decide) (by decide), a 8 _ (by decide) (by decide), a 9 _ (by decide) (by decide), a 10 _ (by decide) (by decide), a 11 _ (by decide) (by decide)]
      exact c1
    · unfold MRp at *
      rw [b 88 _ (by decide) (by decide), b 89 _ (by decide) (by decide), b 90 _ (by decide) (by decide), b 91 _ (by decide) (by decide), b 92 _ (by decide) (by decide), b 93 _ (by decide) (by decide), b 94 _ (by decide) (by decide), b 95 _ (by decide) (by decide)]
      exact c2
  · rw [a 12 _ (by decide) (by decide), a 13 _ (by decide) (by decide), a 9 _ (by decide) (by decide), a 10 _ (by decide) (by decide), e8]
    exact h.so j hj
section PGL
variable {m : Nat} {rec : Nat → O8} {σ τ : pS}
theorem PG.kd (h : PG m rec σ τ) {j : Nat} (hj : j < m) : τ 88 j = σ 5 j ∧ 0 ≤ σ 5 j ∧ σ 5 j ≤ 3 := by
  obtain ⟨c1, c2, c3⟩ := h.op j hj
  have a := c1.1
  have b := c2.1
  have c := c3.1
  omega
theorem PG.sz (h : PG m rec σ τ) {j : Nat} (hj : j < m) (hk : 2 ≤ σ 5 j) : τ 93 j = σ 7 j ∧ (σ 7 j = 1 ∨ σ 7 j = 2 ∨ σ 7 j = 4) := by
  obtain ⟨c1, c2, c3⟩ := h.op j hj
  have a := c1.1
  have b := c2.2.2.2.2.1 (by omega)
  have c := c1.2.2.1
  rcases c3.2.2.2.1 with ⟨-, d, -⟩ | ⟨d, -⟩
  · rw [b.1, c]
    exact ⟨rfl, d⟩
  · omega
end PGL
theorem ix4 {j e : Nat} (hj : j < 20) (he : e < 4) : pw (pw ((j : Int) * 4) + (e : Int)) = ((4 * j + e : Nat) : Int) ∧ pw (pw (4 * (j : Int)) + (e : Int)) = ((4 * j + e : Nat) : Int) ∧ (0 : Int) ≤ ((4 * j + e : Nat) : Int) ∧ ((4 * j + e : Nat) : Int) < 80 := by
  rw [pw_id (z := (j : Int) * 4) (by omega) (by omega), pw_id (z := 4 * (j : Int)) (by omega) (by omega), pw_id (z := (j : Int) * 4 + (e : Int)) (by omega) (by omega), pw_id (z := 4 * (j : Int) + (e : Int)) (by omega) (by omega)]
  omega
theorem pw_s {e n : Nat} (he : e < n) (hn : n ≤ 100000) : pw ((e : Int) + 1) = ((e + 1 : Nat) : Int) := by rw [pw_id (by omega) (by omega)]; omega
theorem pw_p {e n : Nat} (he : e < n) (hn : n ≤ 100000) : pw ((e : Int) + -1) = (e : Int) - 1 := by rw [pw_id (by omega) (by omega)]; omega
/-- one store undone: its bytes -/
theorem un_26 {j s : Nat} (hj : j < 20) (hs : s ≤ 4) {K1 K2 : Int → Int → pS → Option (Int × pS)} {i1 i2 : Int} : ∀ (d e fu1 fu2 : Nat) (σ τ : pS), e + d = s → d < fu1 → d < fu2 → σ 7 j = (s : Int) → τ 93 j = (s : Int) → τ 132 j = σ 37 j → (∀ q : Nat, q < s → σ 42 (4 * j + q) = τ 125 (4 * j + q)) → (∀ x, x < 64 → σ 30 x = τ 128 x) →
    ∃ σ' τ', f_Mach_undoDownTo_3_p26 K1 fu1 i1 (j : Int) (e : Int) σ = K1 i1 ((j : Int) - 1) (pU (pU σ' 41 j 0) 33 4 (pw (σ 33 4 + 1))) ∧ f_M_undoesTo_84_p26 K2 fu2 i2 (j : Int) (e : Int) τ = K2 i2 ((j : Int) - 1) (pU (pU τ' 126 j 0) 84 67 (pw (τ 84 67 + 1))) ∧ (∀ x, x < 64 → σ' 30 x = τ' 128 x) ∧ FR (fun k _ => k = 30) σ σ' ∧ FR (fun k _ => k = 128) τ τ'
  | 0, e, fu1, fu2, σ, τ, he, h1, h2, s1, s2, hp, hb, hm => by
    obtain ⟨n1, rfl⟩ : ∃ n, fu1 = n + 1 := ⟨fu1 - 1, by omega⟩
    obtain ⟨n2, rfl⟩ : ∃ n, fu2 = n + 1 := ⟨fu2 - 1, by omega⟩
    have g : (0 : Int) ≤ (j : Int) ∧ (j : Int) < 20 := by omega
    refine ⟨σ, τ, ?_, ?_, hm, FR.rf _ _, FR.rf _ _⟩
    · show (if (0 : Int) ≤ (j : Int) ∧ (j : Int) < 20 then _ else _) = _
      rw [if_pos g, Int.toNat_natCast, s1, if_pos (by omega), if_pos g, pw_id (z := (j : Int) + -1) (by omega) (by omega)]
      rfl
    · show (if (0 : Int) ≤ (j : Int) ∧ (j : Int) < 20 then _ else _) = _
      rw [if_pos g, Int.toNat_natCast, s2, if_pos (by omega), if_pos g, pw_id (z := (j : Int) + -1) (by omega) (by omega)]
      rfl
  | d + 1, e, fu1, fu2, σ, τ, he, h1, h2, s1, s2, hp, hb, hm => by
    obtain ⟨n1, rfl⟩ : ∃ n, fu1 = n + 1 := ⟨fu1 - 1, by omega⟩
    obtain ⟨n2, rfl⟩ : ∃ n, fu2 = n + 1 := ⟨fu2 - 1, by omega⟩
    have g : (0 : Int) ≤ (j : Int) ∧ (j : Int) < 20 := by omega
    have he4 : e < 4 := by omega
    have eX : f_Mach_undoDownTo_3_p26 K1 (n1 + 1) i1 (j : Int) (e : Int) σ = f_Mach_undoDownTo_3_p26 K1 n1 i1 (j : Int) ((e + 1 : Nat) : Int) (pU σ 30 (pAnd (pw (σ 37 j + (e : Int))) 63).toNat (σ 42 (4 * j + e))) := by
      show (if (0 : Int) ≤ (j : Int) ∧ (j : Int) < 20 then _ else _) = _
      rw [if_pos g, Int.toNat_natCast, s1, if_neg (by omega), if_pos g, (ix4 hj he4).1, if_pos (ix4 hj he4).2.2, if_pos (pAnd_63 _), Int.toNat_natCast, pw_s he4 (by decide)]
    have eM : f_M_undoesTo_84_p26 K2 (n2 + 1) i2 (j : Int) (e : Int) τ = f_M_undoesTo_84_p26 K2 n2 i2 (j : Int) ((e + 1 : Nat) : Int) (pU τ 128 (pAnd (pw (σ 37 j + (e : Int))) 63).toNat (τ 125 (4 * j + e))) := by
      show (if (0 : Int) ≤ (j : Int) ∧ (j : Int) < 20 then _ else _) = _
      rw [if_pos g, Int.toNat_natCast, s2, if_neg (by omega), if_pos g, (ix4 hj he4).2.1, if_pos (ix4 hj he4).2.2, hp, if_pos (pAnd_63 _), Int.toNat_natCast, pw_s he4 (by decide)]
    rw [eX, eM]
    generalize (pAnd (pw (σ 37 j + (e : Int))) 63).toNat = A
    have f1 : FR (fun k _ => k = 30) σ (pU σ 30 A (σ 42 (4 * j + e))) := FR.u rfl
    have f2 : FR (fun k _ => k = 128) τ (pU τ 128 A (τ 125 (4 * j + e))) := FR.u rfl
    obtain ⟨σ', τ', q1, q2, q3, q4, q5⟩ := un_26 hj hs (K1 := K1) (K2 := K2) (i1 := i1) (i2 := i2) d (e + 1) n1 n2 (pU σ 30 A (σ 42 (4 * j + e))) (pU τ 128 A (τ 125 (4 * j + e))) (by omega) (by omega) (by omega) ((f1.get (by decide)).trans s1) ((f2.get (by decide)).trans s2) (by rw [f1.get (k := 37) (by decide), f2.get (k := 132) (by decide)]; exact hp) (fun q hq => by rw [f1.get (k := 42) (by decide), f2.get (k := 125) (by decide)]; exact hb q hq) (fun x hx => by
      by_cases hxa : x = A
      · rw [hxa, pU_s, pU_s]
        exact hb e (by omega)
      · rw [pU_i _ _ _ _ hxa, pU_i _ _ _ _ hxa]
        exact hm x hx)
    refine ⟨σ', τ', ?_, ?_, q3, f1.tr q4, f2.tr q5⟩
    · rw [q1, f1.get (k := 33) (by decide)]
    · rw [q2, f2.get (k := 84) (by decide)]
