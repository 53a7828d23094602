section SD
variable {σ τ : pS} {m : Nat} {rec : Nat → O8}
theorem m_gives (hm : m ≤ 20) (h : ∀ j, j < m → CRp σ j (rec j) ∧ MRp τ j (rec j) ∧ VR (rec j)) {k : Nat} (hk : k < m) {r : Int} (hr : 0 ≤ r) : f_M_gives_84 (k : Int) r τ = some (if σ 8 k = r then 1 else 0, τ) := by
  obtain ⟨hc, hM, hv⟩ := h k hk
  have g : (0 : Int) ≤ (k : Int) ∧ (k : Int) < 20 := by omega
  unfold f_M_gives_84
  simp only [Int.toNat_natCast, if_pos g]
  simp only [hM.1, hM.2.2.1]
  rcases hc.2.2.2.1 with ⟨a1, a2, -⟩ | ⟨a1, a2, -⟩
  · rw [if_pos a1, a2, if_neg (by omega)]
  · rw [if_neg a1, a2]
    by_cases h2 : (rec k).2.2.2.1 = r
    · rw [if_pos h2, if_pos h2]
    · rw [if_neg h2, if_neg h2]
theorem m_reads (hm : m ≤ 20) (h : ∀ j, j < m → CRp σ j (rec j) ∧ MRp τ j (rec j) ∧ VR (rec j)) {k : Nat} (hk : k < m) {r : Int} (hr : 0 ≤ r) : f_M_doesRead_84 (k : Int) r τ = some (if σ 9 k = r ∨ σ 10 k = r then 1 else 0, τ) := by
  obtain ⟨hc, hM, hv⟩ := h k hk
  have g : (0 : Int) ≤ (k : Int) ∧ (k : Int) < 20 := by omega
  obtain ⟨v1, v2, v3, v4, -⟩ := hv
  obtain ⟨-, -, -, c4, c5, -⟩ := hc
  obtain ⟨m1, -, m3, m4, m5, -⟩ := hM
  unfold f_M_doesRead_84
  simp only [Int.toNat_natCast, if_pos g]
  simp only [m1]
  by_cases k0 : (rec k).1 = 0
  · rw [if_pos k0, if_neg]
    rcases c4 with ⟨a1, -⟩ | ⟨-, a2, a3⟩
    · omega
    rcases c5 with ⟨a1, -⟩ | ⟨-, a5⟩
    · omega
    rcases v3 with ⟨a1, -⟩ | ⟨-, a6, a7⟩
    · omega
    rcases v4 with ⟨a1, -⟩ | ⟨-, a8, a9⟩
    · omega
    omega
  rw [if_neg k0]
  by_cases k1 : (rec k).1 = 1
  · rw [if_pos k1]
    obtain ⟨q1, q2⟩ := m4 k1
    simp only [q1, q2]
    rcases c4 with ⟨a1, -⟩ | ⟨-, a2, a3⟩
    · omega
    rcases c5 with ⟨-, a5⟩ | ⟨a1, -⟩
    · rw [a3, a5]
      by_cases h1 : (rec k).2.2.2.2.1 = r
      · rw [if_pos h1, if_pos (Or.inl h1)]
      · rw [if_neg h1]
        by_cases h2 : (rec k).2.2.2.2.2.1 = r
        · rw [if_pos h2, if_pos (Or.inr h2)]
        · rw [if_neg h2, if_neg (by omega)]
    · omega
  rw [if_neg k1]
  obtain ⟨q1, q2⟩ := m5 (by omega)
  have v3' : (rec k).2.2.2.2.1 = -1 := by
    rcases v3 with ⟨a1, -⟩ | ⟨-, a6, -⟩
    · omega
    · exact a6
  have c5' : σ 10 k = (rec k).2.2.2.2.2.2.1 := by
    rcases c5 with ⟨a1, -⟩ | ⟨-, a5⟩
    · omega
    · exact a5
  by_cases k2 : (rec k).1 = 2
  · rw [if_pos k2]
    simp only [q2]
    rcases c4 with ⟨a1, -⟩ | ⟨-, a2, a3⟩
    · omega
    rw [a3, c5']
    by_cases h1 : (rec k).2.2.2.2.2.2.1 = r
    · rw [if_pos h1, if_pos (Or.inr h1)]
    · rw [if_neg h1, if_neg (by omega)]
  · rw [if_neg k2]
    simp only [m3, q2]
    rcases c4 with ⟨-, a2, a3⟩ | ⟨a1, -⟩
    · rw [a3, c5']
      by_cases h1 : (rec k).2.2.2.1 = r
      · rw [if_pos h1, if_pos (Or.inl h1)]
      · rw [if_neg h1]
        by_cases h2 : (rec k).2.2.2.2.2.2.1 = r
        · rw [if_pos h2, if_pos (Or.inr h2)]
        · rw [if_neg h2, if_neg (by omega)]
    · omega
theorem m_giv0 (hm : m ≤ 20) (h : ∀ j, j < m → CRp σ j (rec j) ∧ MRp τ j (rec j) ∧ VR (rec j)) {r : Int} (hr : 0 ≤ r) : ∀ (i fu : Nat), i ≤ m → i < fu → f_M_giverOf_84_p4 fu r ((i : Int) - 1) τ = some (gv (σ 8) i r, τ)
  | 0, fu, _, hf => by
    obtain ⟨n, rfl⟩ : ∃ n, fu = n + 1 := ⟨fu - 1, by omega⟩
    show (if ((0 : Nat) : Int) - 1 < 0 then _ else _) = _
    rw [if_pos (by omega)]
    rfl
  | i + 1, fu, hi, hf => by
    obtain ⟨n, rfl⟩ : ∃ n, fu = n + 1 := ⟨fu - 1, by omega⟩
    show (if ((i + 1 : Nat) : Int) - 1 < 0 then _ else _) = _
    have e : ((i + 1 : Nat) : Int) - 1 = (i : Int) := by omega
    rw [if_neg (by omega), e, m_gives hm h (show i < m by omega) hr, Option.bind_some]
    unfold gv
    by_cases hg : σ 8 i = r
    · simp only [if_pos hg]
      rfl
    · simp only [if_neg hg]
      rw [if_pos trivial, pw_id (by omega) (by omega), show (i : Int) + -1 = (i : Int) - 1 by omega]
      exact m_giv0 hm h hr i n (by omega) (by omega)
theorem m_giv (hm : m ≤ 20) (h : ∀ j, j < m → CRp σ j (rec j) ∧ MRp τ j (rec j) ∧ VR (rec j)) {r : Int} (hr : 0 ≤ r) {i : Nat} (hi : i ≤ m) : f_M_giverOf_84 (i : Int) r τ = some (gv (σ 8) i r, τ) := by
  unfold f_M_giverOf_84
  rw [pw_id (by omega) (by omega)]
  exact m_giv0 hm h hr i 4096 hi (by omega)
end SD
/-- source: equal answers -/
theorem source_ls {σ τ : pS} (a b : Int) (hP : PRG σ τ) : ∃ v, f_X_source_0 a b σ = some (v, σ) ∧ f_M_source_84 a b τ = some (v, τ) := by
  obtain ⟨m, rec, D, hm, h1, h2, h3, h4, -⟩ := hP
  have eA : ∀ s : Int, f_X_orAbsent s σ = some (if s = -1 then -2 else s, σ) := fun s => by
    unfold f_X_orAbsent
    split <;> rfl
  have eB : ∀ s : Int, f_M_source_84_p39 s τ = some (if s = -1 then -2 else s, τ) := fun s => by
    unfold f_M_source_84_p39
    split <;> rfl
  have eO : f_X_isOp_0 a σ = some (if 0 ≤ a ∧ a < m then 1 else 0, σ) := by
    unfold f_X_isOp_0
    rw [h1]
    by_cases q : a < 0
    · rw [if_pos q, if_neg (by omega)]
    · rw [if_neg q]
      by_cases q2 : (m : Int) ≤ a
      · rw [if_pos q2, if_neg (by omega)]
      · rw [if_neg q2, if_pos (by omega)]
  have eP : f_M_isOp_84 a τ = some (if 0 ≤ a ∧ a < m then 1 else 0, τ) := by
    unfold f_M_isOp_84
    rw [h2, pw_id (by omega) (by omega), m_in, Option.bind_some]
    by_cases q : 0 ≤ a ∧ a ≤ (m : Int) - 1
    · rw [if_pos q, if_pos (show 0 ≤ a ∧ a < (m : Int) by omega)]
      rfl
    · rw [if_neg q, if_neg (show ¬ (0 ≤ a ∧ a < (m : Int)) by omega)]
      rfl
  unfold f_X_source_0 f_M_source_84
  rw [eO, eP, Option.bind_some, Option.bind_some]
  by_cases q : 0 ≤ a ∧ a < (m : Int)
  · rw [if_pos q]
    simp only [x_isCell, m_in, Option.bind_some]
    rw [if_neg (show ¬ ((1 : Int) = 0) by omega), if_neg (show ¬ ((1 : Int) = 0) by omega)]
    by_cases q2 : 0 ≤ b ∧ b < 8
    · have q3 : 0 ≤ b ∧ b ≤ 7 := by omega
      simp only [if_pos q2, if_pos q3]
      rw [if_neg (show ¬ ((1 : Int) = 0) by omega), if_neg (show ¬ ((1 : Int) = 0) by omega)]
      obtain ⟨i, rfl⟩ : ∃ i : Nat, a = (i : Int) := ⟨a.toNat, by omega⟩
      have hi : i < m := by omega
      have g : (0 : Int) ≤ (i : Int) ∧ (i : Int) < 20 := by omega
      obtain ⟨s1, s2⟩ := h4 i hi
      simp only [if_pos g, Int.toNat_natCast]
      rw [m_reads hm h3 hi q2.1, Option.bind_some]
      simp only [m_giv hm h3 q2.1 (Nat.le_of_lt hi), Option.bind_some, eA, eB]
      by_cases f1 : σ 9 i = b
      · rw [if_pos f1, if_pos (Or.inl f1), s1, f1, if_neg (show ¬ ((1 : Int) = 0) by omega)]
        unfold src
        rw [if_pos q2]
        exact ⟨_, rfl, rfl⟩
      · rw [if_neg f1]
        by_cases f2 : σ 10 i = b
        · rw [if_pos f2, if_pos (Or.inr f2), s2, f2, if_neg (show ¬ ((1 : Int) = 0) by omega)]
          unfold src
          rw [if_pos q2]
          exact ⟨_, rfl, rfl⟩
        · rw [if_neg f2, if_neg (show ¬ (σ 9 i = b ∨ σ 10 i = b) by omega), if_pos rfl]
          exact ⟨_, rfl, rfl⟩
    · have q3 : ¬ (0 ≤ b ∧ b ≤ 7) := by omega
      simp only [if_neg q2, if_neg q3]
      exact ⟨-1, rfl, rfl⟩
  · rw [if_neg q]
    exact ⟨-1, rfl, rfl⟩
