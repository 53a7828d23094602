def P_fin (i k x : Nat) : Prop := ((k = 39 ∨ k = 34 ∨ k = 36 ∨ k = 37) ∧ x = i) ∨ (k = 38 ∧ 4 * i ≤ x ∧ x < 4 * i + 4)
def Q_fin (i k x : Nat) : Prop := ((k = 118 ∨ k = 122 ∨ k = 120 ∨ k = 121) ∧ x = i) ∨ (k = 124 ∧ 4 * i ≤ x ∧ x < 4 * i + 4)
theorem RM.sfin {m : Nat} {D : Nat → Prop} {σ τ σ' τ' : pS} {i : Nat} (h : RM m D σ τ) (a1 : FR (P_fin i) σ σ') (a2 : FR (Q_fin i) τ τ') (gz : ∀ j, j < m → 2 ≤ σ 5 j → σ 7 j ≤ 4) (g0 : σ 41 i ≠ 1) (g1 : σ' 39 i = 2) (g2 : τ' 118 i = 2) (g3 : σ' 36 i = τ' 120 i ∧ σ' 34 i = τ' 122 i ∧ (2 ≤ σ' 5 i → σ' 37 i = τ' 121 i) ∧ (σ' 5 i = 2 → ∀ e : Nat, (e : Int) < σ' 7 i → σ' 38 (4 * i + e) = τ' 124 (4 * i + e))) (g4 : (0 ≤ σ 12 i → D (σ 12 i).toNat) ∧ (0 ≤ σ 13 i → D (σ 13 i).toNat)) : RM m (fun k => D k ∨ k = i) σ' τ' := ⟨fun j hj => by
    by_cases hji : j = i
    · rw [hji, g1, g2]; exact ⟨rfl, by decide, by decide⟩
    · rw [a1.get (k := 39) (x := j) (by unfold P_fin; omega), a2.get (k := 118) (x := j) (by unfold Q_fin; omega)]; exact h.st j hj,
  fun j hj q => by
    by_cases hji : j = i
    · rw [hji, g1] at q; exact absurd q (by decide)
    · rw [a1.get (k := 39) (x := j) (by unfold P_fin; omega)] at q; rw [a1.get (k := 40) (x := j) (by unfold P_fin; omega), a2.get (k := 119) (x := j) (by unfold Q_fin; omega)]; exact h.ti j hj q,
  fun j hj => by rw [a1.get (k := 41) (x := j) (by unfold P_fin; omega), a2.get (k := 126) (x := j) (by unfold Q_fin; omega)]; exact h.rt j hj,
  fun j hj q => by
    rw [a1.get (k := 41) (x := j) (by unfold P_fin; omega)] at q
    have hji : j ≠ i := fun e => by rw [e] at q; exact g0 q
    have z := h.re j hj q
    rw [a1.get (k := 5) (x := j) (by unfold P_fin; omega), a1.get (k := 37) (x := j) (by unfold P_fin; omega), a1.get (k := 7) (x := j) (by unfold P_fin; omega), a2.get (k := 132) (x := j) (by unfold Q_fin; omega)]
    exact ⟨z.1, z.2.1, fun e he => by rw [a1.get (k := 42) (x := 4 * j + e) (by unfold P_fin; omega), a2.get (k := 125) (x := 4 * j + e) (by unfold Q_fin; omega)]; exact z.2.2 e he⟩,
  fun j hj q => by
    by_cases hji : j = i
    · rw [hji]; exact g3
    · have q : D j := q.elim (fun q => q) (fun q => absurd q hji)
      have z := h.va j hj q
      rw [a1.get (k := 36) (x := j) (by unfold P_fin; omega), a1.get (k := 34) (x := j) (by unfold P_fin; omega), a1.get (k := 5) (x := j) (by unfold P_fin; omega), a1.get (k := 37) (x := j) (by unfold P_fin; omega), a1.get (k := 7) (x := j) (by unfold P_fin; omega), a2.get (k := 120) (x := j) (by unfold Q_fin; omega), a2.get (k := 122) (x := j) (by unfold Q_fin; omega), a2.get (k := 121) (x := j) (by unfold Q_fin; omega)]
      exact ⟨z.1, z.2.1, z.2.2.1, fun k e he => by
        have h4 : (e : Int) < 4 := Int.lt_of_lt_of_le he (gz j hj (by omega))
        rw [a1.get (k := 38) (x := 4 * j + e) (by unfold P_fin; omega), a2.get (k := 124) (x := 4 * j + e) (by unfold Q_fin; omega)]; exact z.2.2.2 k e he⟩,
  fun j hj q => by
    by_cases hji : j = i
    · exact Or.inr hji
    · rw [a1.get (k := 39) (x := j) (by unfold P_fin; omega)] at q; exact Or.inl (h.dn j hj q),
  fun j hj q => by
    rw [a1.get (k := 12) (x := j) (by unfold P_fin; omega), a1.get (k := 13) (x := j) (by unfold P_fin; omega)]
    by_cases hji : j = i
    · rw [hji]; exact ⟨fun z => Or.inl (g4.1 z), fun z => Or.inl (g4.2 z)⟩
    · rw [a1.get (k := 39) (x := j) (by unfold P_fin; omega)] at q; have z := h.so j hj q; exact ⟨fun y => Or.inl (z.1 y), fun y => Or.inl (z.2 y)⟩,
  fun j hj => by rw [a1.get (k := 35) (x := j) (by unfold P_fin; omega), a2.get (k := 123) (x := j) (by unfold Q_fin; omega)]; exact h.rp j hj,
  fun j hj => by rw [a1.get (k := 30) (x := j) (by unfold P_fin; omega), a2.get (k := 128) (x := j) (by unfold Q_fin; omega)]; exact h.me j hj,
  fun j hj => by rw [a1.get (k := 26) (x := j) (by unfold P_fin; omega), a2.get (k := 127) (x := j) (by unfold Q_fin; omega)]; exact h.m0 j hj,
  fun j hj => by rw [a1.get (k := 31) (x := j) (by unfold P_fin; omega), a2.get (k := 87) (x := j) (by unfold Q_fin; omega)]; exact h.se j hj,
  by rw [a1.get (k := 28) (x := 3) (by unfold P_fin; omega), a2.get (k := 84) (x := 3) (by unfold Q_fin; omega)]; exact h.ns,
  by rw [a1.get (k := 28) (x := 5) (by unfold P_fin; omega), a2.get (k := 84) (x := 0) (by unfold Q_fin; omega)]; exact h.x,
  by rw [a1.get (k := 33) (x := 2) (by unfold P_fin; omega), a2.get (k := 84) (x := 65) (by unfold Q_fin; omega)]; exact h.cr,
  by rw [a1.get (k := 33) (x := 3) (by unfold P_fin; omega), a2.get (k := 84) (x := 66) (by unfold Q_fin; omega)]; exact h.ca,
  by rw [a1.get (k := 33) (x := 4) (by unfold P_fin; omega), a2.get (k := 84) (x := 67) (by unfold Q_fin; omega)]; exact h.cu,
  by rw [a1.get (k := 33) (x := 5) (by unfold P_fin; omega), a2.get (k := 84) (x := 68) (by unfold Q_fin; omega)]; exact h.cd,
  by rw [a1.get (k := 24) (x := 4) (by unfold P_fin; omega), a2.get (k := 84) (x := 1) (by unfold Q_fin; omega)]; exact h.ru,
  fun j hj => by rw [a1.get (k := 25) (x := j) (by unfold P_fin; omega), a2.get (k := 85) (x := j) (by unfold Q_fin; omega)]; exact h.rg j hj⟩
