theorem pw_pw (a b : Int) : pw (pw a + b) = pw (a + b) := by
  unfold pw
  simp
/-- the load k took a byte older than what the store j has there -/
def atk (p : Int) (e : Nat) : Int := pAnd (pw (p + (e : Int))) 63
def tko (σ : pS) (k j a : Nat) : Prop := ∃ e : Nat, a ≤ e ∧ (e : Int) < σ 7 k ∧ σ 38 (4 * k + e) < (j : Int) ∧ pAnd (pw (atk (σ 37 k) e - σ 37 j)) 63 < σ 7 j
theorem c_cov (p s a : Int) (σ : pS) : f_X_covers p s a σ = some (if s ≤ pAnd (pw (a - p)) 63 then 0 else 1, σ) := by
  unfold f_X_covers
  split <;> rfl
theorem c_tko {σ : pS} {k j : Nat} (hk : k < 20) (hj : j < 20) {s : Nat} (hs : σ 7 k = (s : Int)) (hs4 : s ≤ 4) : ∀ (d a fu : Nat), a + d = s → d < fu → ∃ b : Int, f_Mach_tookTooOld_3_p2 fu (k : Int) (j : Int) (a : Int) σ = some (b, σ) ∧ ((b = 1 ∧ tko σ k j a) ∨ (b = 0 ∧ ¬ tko σ k j a))
  | 0, a, fu, ha, hf => by
    obtain ⟨n, rfl⟩ : ∃ n, fu = n + 1 := ⟨fu - 1, by omega⟩
    refine ⟨0, ?_, Or.inr ⟨rfl, ?_⟩⟩
    · show (if (0 : Int) ≤ (k : Int) ∧ (k : Int) < 20 then _ else _) = _
      rw [if_pos (by omega), Int.toNat_natCast, hs, if_pos (by omega)]
    · rintro ⟨e, e1, e2, -⟩
      rw [hs] at e2
      omega
  | d + 1, a, fu, ha, hf => by
    obtain ⟨n, rfl⟩ : ∃ n, fu = n + 1 := ⟨fu - 1, by omega⟩
    have ha4 : a < 4 := by omega
    have g : (0 : Int) ≤ (j : Int) ∧ (j : Int) < 20 := by omega
    obtain ⟨b, q1, q2⟩ := c_tko hk hj hs hs4 d (a + 1) n (by omega) (by omega)
    have eX : f_Mach_tookTooOld_3_p2 (n + 1) (k : Int) (j : Int) (a : Int) σ = (if (j : Int) ≤ σ 38 (4 * k + a) then f_Mach_tookTooOld_3_p2 n (k : Int) (j : Int) ((a + 1 : Nat) : Int) σ else (if σ 7 j ≤ pAnd (pw (atk (σ 37 k) a - σ 37 j)) 63 then f_Mach_tookTooOld_3_p2 n (k : Int) (j : Int) ((a + 1 : Nat) : Int) σ else some (1, σ))) := by
      show (if (0 : Int) ≤ (k : Int) ∧ (k : Int) < 20 then _ else _) = _
      rw [if_pos (by omega), Int.toNat_natCast, hs, if_neg (by omega), if_pos (by omega), (ix4 hk ha4).1, if_pos (ix4 hk ha4).2.2, Int.toNat_natCast, pw_s ha4 (by decide), if_pos g, if_pos g, Int.toNat_natCast, c_cov, Option.bind_some]
      show (if _ then _ else (if (if σ 7 j ≤ pAnd (pw (atk (σ 37 k) a - σ 37 j)) 63 then (0 : Int) else 1) = 0 then _ else _)) = _
      by_cases h : σ 7 j ≤ pAnd (pw (atk (σ 37 k) a - σ 37 j)) 63
      · simp only [if_pos h]
        rfl
      · simp only [if_neg h]
        rfl
    rw [eX]
    have nx : ¬ (σ 38 (4 * k + a) < (j : Int) ∧ pAnd (pw (atk (σ 37 k) a - σ 37 j)) 63 < σ 7 j) → ((b = 1 ∧ tko σ k j a) ∨ (b = 0 ∧ ¬ tko σ k j a)) := fun hno => by
      rcases q2 with ⟨b1, e, e1, e2, e3⟩ | ⟨b1, b2⟩
      · exact Or.inl ⟨b1, e, by omega, e2, e3⟩
      · refine Or.inr ⟨b1, ?_⟩
        rintro ⟨e, e1, e2, e3⟩
        by_cases hea : e = a
        · rw [hea] at e3
          exact hno e3
        · exact b2 ⟨e, by omega, e2, e3⟩
    by_cases h1 : (j : Int) ≤ σ 38 (4 * k + a)
    · rw [if_pos h1]
      exact ⟨b, q1, nx (fun z => absurd z.1 (Int.not_lt.mpr h1))⟩
    · rw [if_neg h1]
      by_cases h2 : σ 7 j ≤ pAnd (pw (atk (σ 37 k) a - σ 37 j)) 63
      · rw [if_pos h2]
        exact ⟨b, q1, nx (fun z => absurd z.2 (Int.not_lt.mpr h2))⟩
      · rw [if_neg h2]
        exact ⟨1, rfl, Or.inl ⟨rfl, a, Nat.le_refl _, by rw [hs]; omega, Int.not_le.mp h1, Int.not_le.mp h2⟩⟩
theorem m_cov {τ : pS} {j : Nat} (hj : j < 20) (a : Int) : f_M_covers_84 (j : Int) a τ = some (if τ 93 j ≤ pAnd (pw (a - τ 121 j)) 63 then 0 else 1, τ) := by
  unfold f_M_covers_84
  rw [if_pos (by omega), if_pos (by omega), Int.toNat_natCast]
  split <;> rfl
theorem m_tko {σ τ : pS} {k j : Nat} (hk : k < 20) (hj : j < 20) {s : Nat} (hs : σ 7 k = (s : Int)) (hs4 : s ≤ 4) (e93 : τ 93 k = σ 7 k) (e93j : τ 93 j = σ 7 j) (e121 : τ 121 k = σ 37 k) (e121j : τ 121 j = σ 37 j) (e124 : ∀ e : Nat, (e : Int) < σ 7 k → σ 38 (4 * k + e) = τ 124 (4 * k + e)) : ∀ (d a fu : Nat), a + d = s → d < fu → ∃ b : Int, f_M_tookOld_84_p2 fu (k : Int) (j : Int) (a : Int) τ = some (b, τ) ∧ ((b = 1 ∧ tko σ k j a) ∨ (b = 0 ∧ ¬ tko σ k j a))
  | 0, a, fu, ha, hf => by
    obtain ⟨n, rfl⟩ : ∃ n, fu = n + 1 := ⟨fu - 1, by omega⟩
    refine ⟨0, ?_, Or.inr ⟨rfl, ?_⟩⟩
    · show (if (0 : Int) ≤ (k : Int) ∧ (k : Int) < 20 then _ else _) = _
      rw [if_pos (by omega), Int.toNat_natCast, e93, hs, if_pos (by omega)]
    · rintro ⟨e, e1, e2, -⟩
      rw [hs] at e2
      omega
  | d + 1, a, fu, ha, hf => by
    obtain ⟨n, rfl⟩ : ∃ n, fu = n + 1 := ⟨fu - 1, by omega⟩
    have ha4 : a < 4 := by omega
    obtain ⟨b, q1, q2⟩ := m_tko hk hj hs hs4 e93 e93j e121 e121j e124 d (a + 1) n (by omega) (by omega)
    have e4 := e124 a (by rw [hs]; omega)
    have eX : f_M_tookOld_84_p2 (n + 1) (k : Int) (j : Int) (a : Int) τ = (if σ 7 j ≤ pAnd (pw (atk (σ 37 k) a - σ 37 j)) 63 then f_M_tookOld_84_p2 n (k : Int) (j : Int) ((a + 1 : Nat) : Int) τ else (if (j : Int) ≤ σ 38 (4 * k + a) then f_M_tookOld_84_p2 n (k : Int) (j : Int) ((a + 1 : Nat) : Int) τ else some (1, τ))) := by
      show (if (0 : Int) ≤ (k : Int) ∧ (k : Int) < 20 then _ else _) = _
      rw [if_pos (by omega), Int.toNat_natCast, e93, hs, if_neg (by omega), if_pos (by omega), e121, m_cov hj, Option.bind_some, (ix4 hk ha4).2.1, if_pos (ix4 hk ha4).2.2, Int.toNat_natCast, pw_s ha4 (by decide), e121j, e93j]
      show (if (if σ 7 j ≤ pAnd (pw (atk (σ 37 k) a - σ 37 j)) 63 then (0 : Int) else 1) = 0 then _ else (if (j : Int) ≤ τ 124 (4 * k + a) then _ else _)) = _
      rw [← e4]
      by_cases h : σ 7 j ≤ pAnd (pw (atk (σ 37 k) a - σ 37 j)) 63
      · simp only [if_pos h]
        rfl
      · simp only [if_neg h]
        rfl
    rw [eX]
    have nx : ¬ (σ 38 (4 * k + a) < (j : Int) ∧ pAnd (pw (atk (σ 37 k) a - σ 37 j)) 63 < σ 7 j) → ((b = 1 ∧ tko σ k j a) ∨ (b = 0 ∧ ¬ tko σ k j a)) := fun hno => by
      rcases q2 with ⟨b1, e, e1, e2, e3⟩ | ⟨b1, b2⟩
      · exact Or.inl ⟨b1, e, by omega, e2, e3⟩
      · refine Or.inr ⟨b1, ?_⟩
        rintro ⟨e, e1, e2, e3⟩
        by_cases hea : e = a
        · rw [hea] at e3
          exact hno e3
        · exact b2 ⟨e, by omega, e2, e3⟩
    by_cases h2 : σ 7 j ≤ pAnd (pw (atk (σ 37 k) a - σ 37 j)) 63
    · rw [if_pos h2]
      exact ⟨b, q1, nx (fun z => absurd z.2 (Int.not_lt.mpr h2))⟩
    · rw [if_neg h2]
      by_cases h1 : (j : Int) ≤ σ 38 (4 * k + a)
      · rw [if_pos h1]
        exact ⟨b, q1, nx (fun z => absurd z.1 (Int.not_lt.mpr h1))⟩
      · rw [if_neg h1]
        exact ⟨1, rfl, Or.inl ⟨rfl, a, Nat.le_refl _, by rw [hs]; omega, Int.not_le.mp h1, Int.not_le.mp h2⟩⟩
/-- two sets melt -/
def mset (A B : Int) : Int := if A = -1 then B else if B = -1 then A else pMin A B
def cmt (a b : Nat) (σ : pS) : pS := if σ 31 a = -1 ∧ σ 31 b = -1 then pU (pU (pU σ 28 3 (pRem (pw (σ 28 3 + 1)) 16)) 31 a (σ 28 3)) 31 b (σ 28 3) else pU (pU σ 31 a (mset (σ 31 a) (σ 31 b))) 31 b (mset (σ 31 a) (σ 31 b))
def mmt (a b : Nat) (τ : pS) : pS := if τ 87 a = -1 ∧ τ 87 b = -1 then pU (pU (pU τ 84 3 (pRem (pw (τ 84 3 + 1)) 16)) 87 a (τ 84 3)) 87 b (τ 84 3) else pU (pU τ 87 a (mset (τ 87 a) (τ 87 b))) 87 b (mset (τ 87 a) (τ 87 b))
theorem c_melt {a b : Nat} (ha : a < 20) (hb : b < 20) {σ : pS} (h1 : -1 ≤ σ 31 a) (h2 : -1 ≤ σ 31 b) : f_State_melt_28 (a : Int) (b : Int) σ = some (0, cmt a b σ) := by
  have ga : (0 : Int) ≤ (a : Int) ∧ (a : Int) < 20 := by omega
  have gb : (0 : Int) ≤ (b : Int) ∧ (b : Int) < 20 := by omega
  have e57 : ¬ (σ 31 a = -1 ∧ σ 31 b = -1) → f_State_melt_28_p57 (a : Int) (b : Int) (pMin (σ 31 a) (σ 31 b)) σ = some (0, pU (pU σ 31 a (mset (σ 31 a) (σ 31 b))) 31 b (mset (σ 31 a) (σ 31 b))) := fun hn => by
    unfold f_State_melt_28_p57
    simp only [if_pos ga, if_pos gb, Int.toNat_natCast]
    by_cases hz : pMin (σ 31 a) (σ 31 b) = -1
    · rw [if_pos hz]
      have : pMax (σ 31 a) (σ 31 b) = mset (σ 31 a) (σ 31 b) := by
        unfold pMin at hz
        unfold pMax mset pMin
        (repeat' split at hz) <;> (repeat' split) <;> omega
      rw [this]
    · rw [if_neg hz]
      have : pMin (σ 31 a) (σ 31 b) = mset (σ 31 a) (σ 31 b) := by
        unfold pMin at hz
        unfold mset pMin
        (repeat' split at hz) <;> (repeat' split) <;> omega
      rw [this]
  unfold f_State_melt_28 cmt
  simp only [if_pos ga, if_pos gb, Int.toNat_natCast]
  by_cases z1 : σ 31 a = -1
  · rw [if_pos z1]
    by_cases z2 : σ 31 b = -1
    · rw [if_pos z2, if_pos ⟨z1, z2⟩]
    · rw [if_neg z2, if_neg (fun z => z2 z.2), e57 (fun z => z2 z.2)]
  · rw [if_neg z1, if_neg (fun z => z1 z.1), e57 (fun z => z1 z.1)]
theorem m_melt {a b : Nat} (ha : a < 20) (hb : b < 20) {τ : pS} (h1 : -1 ≤ τ 87 a) (h2 : -1 ≤ τ 87 b) : f_M_melts_84 (a : Int) (b : Int) τ = some (0, mmt a b τ) := by
  have ga : (0 : Int) ≤ (a : Int) ∧ (a : Int) < 20 := by omega
  have gb : (0 : Int) ≤ (b : Int) ∧ (b : Int) < 20 := by omega
  have emin : f_M_min (τ 87 a) (τ 87 b) τ = some (pMin (τ 87 a) (τ 87 b), τ) := by
    unfold f_M_min pMin
    by_cases z : τ 87 b ≤ τ 87 a
    · rw [if_pos z]
      by_cases z2 : τ 87 b < τ 87 a
      · rw [if_pos z2]
      · rw [if_neg z2, show τ 87 b = τ 87 a by omega]
    · rw [if_neg z, if_neg (by omega)]
  unfold f_M_melts_84 mmt f_M_melts_84_p41
  simp only [if_pos ga, if_pos gb, Int.toNat_natCast, emin, Option.bind_some]
  unfold mset
  by_cases z1 : τ 87 a = -1
  · simp only [if_pos z1]
    by_cases z2 : τ 87 b = -1
    · simp only [if_pos z2, if_pos (show τ 87 a = -1 ∧ τ 87 b = -1 from ⟨z1, z2⟩)]
    · simp only [if_neg z2, if_neg (show ¬ (τ 87 a = -1 ∧ τ 87 b = -1) from fun z => z2 z.2)]
  · simp only [if_neg z1, if_neg (show ¬ (τ 87 a = -1 ∧ τ 87 b = -1) from fun z => z1 z.1)]
    by_cases z2 : τ 87 b = -1
    · simp only [if_pos z2, if_neg z1]
    · simp only [if_neg z2]
      have : ¬ pMin (τ 87 a) (τ 87 b) = -1 := by
        unfold pMin
        split <;> omega
      rw [if_neg this]
def P_ml (k x : Nat) : Prop := k = 31 ∨ (k = 28 ∧ x = 3)
def Q_ml (k x : Nat) : Prop := k = 87 ∨ (k = 84 ∧ x = 3)
theorem cmt_fr (a b : Nat) (σ : pS) : FR P_ml σ (cmt a b σ) := by
  unfold cmt
  split
  · exact ((FR.u (Or.inr ⟨rfl, rfl⟩)).tr (FR.u (Or.inl rfl))).tr (FR.u (Or.inl rfl))
  · exact (FR.u (Or.inl rfl)).tr (FR.u (Or.inl rfl))
theorem mmt_fr (a b : Nat) (τ : pS) : FR Q_ml τ (mmt a b τ) := by
  unfold mmt
  split
  · exact ((FR.u (Or.inr ⟨rfl, rfl⟩)).tr (FR.u (Or.inl rfl))).tr (FR.u (Or.inl rfl))
  · exact (FR.u (Or.inl rfl)).tr (FR.u (Or.inl rfl))
theorem melt_ls {m : Nat} {D : Nat → Prop} {σ τ : pS} {a b : Nat} (h : RM m D σ τ) (ha : a < m) (hb : b < m) : RM m D (cmt a b σ) (mmt a b τ) := by
  have sa := h.se a ha
  have sb := h.se b hb
  have sn := h.ns
  have hr : 0 ≤ pRem (pw (σ 28 3 + 1)) 16 ∧ pRem (pw (σ 28 3 + 1)) 16 ≤ 15 := by
    rw [pw_id (by omega) (by omega), pRem_eq (by omega) (by omega) (by decide) (by decide), Int.tmod_eq_emod_of_nonneg (by omega)]
    omega
  refine h.sse (cmt_fr a b σ) (mmt_fr a b τ) (fun j hj => ?_) ?_
  · have sj := h.se j hj
    unfold cmt mmt
    rw [← sa.1, ← sb.1, ← sn.1]
    by_cases z : σ 31 a = -1 ∧ σ 31 b = -1
    · rw [if_pos z, if_pos z]
      by_cases h1 : j = b
      · rw [h1, pU_s, pU_s]
        exact ⟨rfl, by omega, by omega⟩
      · rw [pU_i _ _ _ _ h1, pU_i _ _ _ _ h1]
        by_cases h2 : j = a
        · rw [h2, pU_s, pU_s]
          exact ⟨rfl, by omega, by omega⟩
        · rw [pU_i _ _ _ _ h2, pU_i _ _ _ _ h2, pU_c _ _ _ _ (by decide), pU_c _ _ _ _ (by decide)]
          exact sj
    · rw [if_neg z, if_neg z]
      have hb2 : -1 ≤ mset (σ 31 a) (σ 31 b) ∧ mset (σ 31 a) (σ 31 b) ≤ 15 := by
        unfold mset pMin
        (repeat' split) <;> omega
      by_cases h1 : j = b
      · rw [h1, pU_s, pU_s]
        exact ⟨rfl, hb2⟩
      · rw [pU_i _ _ _ _ h1, pU_i _ _ _ _ h1]
        by_cases h2 : j = a
        · rw [h2, pU_s, pU_s]
          exact ⟨rfl, hb2⟩
        · rw [pU_i _ _ _ _ h2, pU_i _ _ _ _ h2]
          exact sj
  · unfold cmt mmt
    rw [← sa.1, ← sb.1, ← sn.1]
    by_cases z : σ 31 a = -1 ∧ σ 31 b = -1
    · rw [if_pos z, if_pos z, pU_c _ _ _ _ (by decide), pU_c _ _ _ _ (by decide), pU_s, pU_c _ _ _ _ (by decide), pU_c _ _ _ _ (by decide), pU_s]
      exact ⟨rfl, hr⟩
    · rw [if_neg z, if_neg z, pU_c _ _ _ _ (by decide), pU_c _ _ _ _ (by decide), pU_c _ _ _ _ (by decide), pU_c _ _ _ _ (by decide)]
      exact sn
