theorem pw_pw (a b : Int) : pw (pw a + b) = pw (a + b) := by
  unfold pw
  simp
/-- the load k took a byte older than what the store j has there -/
def atk (p : Int) (e : Nat) : Int := pAnd (pw (p + (e : Int))) 63
def tko (σ : pS) (k j a : Nat) : Prop := ∃ e : Nat, a ≤ e ∧ (e : Int) < σ 7 k ∧ σ 38 (4 * k + e) < (j : Int) ∧ pAnd (pw (atk (σ 37 k) e - σ 37 j)) 63 < σ 7 j
theorem c_cov (p s a : Int) (σ : pS) : f_X_covers p s a σ = some (if s ≤ pAnd (pw (a - p)) 63 then 0 else 1, σ) := by
  unfold f_X_covers
  split <;> rfl
theorem c_tko {σ : pS} {k j : Nat} (hk : k < 20) (hj : j < 20) {s : Nat} (hs : σ 7 k = (s : Int)) (hs4 : s ≤ 4) : ∀ (d a fu : Nat), a + d = s → d < fu → ∃ b : Int, f_Mach_tookTooOld_3_p2 fu (k : Int) (j : Int) (a : Int) σ = some (b, σ) ∧ ((b = 1 ∧ tko σ k j a) ∨ (b = 0 ∧ ¬ tko σ k j a))
  | 0, a, fu, ha, hf => by
    obtain ⟨n, rfl⟩ : ∃ n, fu = n + 1 := ⟨fu - 1, by omega⟩
    refine ⟨0, ?_, Or.inr ⟨rfl, ?_⟩⟩
    · show (if (0 : Int) ≤ (k : Int) ∧ (k : Int) < 20 then _ else _) = _
      rw [if_pos (by omega), Int.toNat_natCast, hs, if_pos (by omega)]
    · rintro ⟨e, e1, e2, -⟩
      rw [hs] at e2
      omega
  | d + 1, a, fu, ha, hf => by
    obtain ⟨n, rfl⟩ : ∃ n, fu = n + 1 := ⟨fu - 1, by omega⟩
    have ha4 : a < 4 := by omega
    have g : (0 : Int) ≤ (j : Int) ∧ (j : Int) < 20 := by omega
    obtain ⟨b, q1, q2⟩ := c_tko hk hj hs hs4 d (a + 1) n (by omega) (by omega)
    have eX : f_Mach_tookTooOld_3_p2 (n + 1) (k : Int) (j : Int) (a : Int) σ = (if (j : Int) ≤ σ 38 (4 * k + a) then f_Mach_tookTooOld_3_p2 n (k : Int) (j : Int) ((a + 1 : Nat) : Int) σ else (if σ 7 j ≤ pAnd (pw (atk (σ 37 k) a - σ 37 j)) 63 then f_Mach_tookTooOld_3_p2 n (k : Int) (j : Int) ((a + 1 : Nat) : Int) σ else some (1, σ))) := by
      show (if (0 : Int) ≤ (k : Int) ∧ (k : Int) < 20 then _ else _) = _
      rw [if_pos (by omega), Int.toNat_natCast, hs, if_neg (by omega), if_pos (by omega), (ix4 hk ha4).1, if_pos (ix4 hk ha4).2.2, Int.toNat_natCast, pw_s ha4 (by decide), if_pos g, if_pos g, Int.toNat_natCast, c_cov, Option.bind_some]
      show (if _ then _ else (if (if σ 7 j ≤ pAnd (pw (atk (σ 37 k) a - σ 37 j)) 63 then (0 : Int) else 1) = 0 then _ else _)) = _
      by_cases h : σ 7 j ≤ pAnd (pw (atk (σ 37 k) a - σ 37 j)) 63
      · simp only [if_pos h]
        rfl
      · simp only [if_neg h]
        rfl
    rw [eX]
    have nx : ¬ (σ 38 (4 * k + a) < (j : Int) ∧ pAnd (pw (atk (σ 37 k) a - σ 37 j)) 63 < σ 7 j) → ((b = 1 ∧ tko σ k j a) ∨ (b = 0 ∧ ¬ tko σ k j a)) := fun hno => by
      rcases q2 with ⟨b1, e, e1, e2, e3⟩ | ⟨b1, b2⟩
      · exact Or.inl ⟨b1, e, by omega, e2, e3⟩
      · refine Or.inr ⟨b1, ?_⟩
        rintro ⟨e, e1, e2, e3⟩
        by_cases hea : e = a
        · rw [hea] at e3
          exact hno e3
        · exact b2 ⟨e, by omega, e2, e3⟩
    by_cases h1 : (j : Int) ≤ σ 38 (4 * k + a)
    · rw [if_pos h1]
      exact ⟨b, q1, nx (fun z => absurd z.1 (Int.not_lt.mpr h1))⟩
    · rw [if_neg h1]
      by_cases h2 : σ 7 j ≤ pAnd (pw (atk (σ 37 k) a - σ 37 j)) 63
      · rw [if_pos h2]
        exact ⟨b, q1, nx (fun z => absurd z.2 (Int.not_lt.mpr h2))⟩
      · rw [if_neg h2]
        exact ⟨1, rfl, Or.inl ⟨rfl, a, Nat.le_refl _, by rw [hs]; omega, Int.not_le.mp h1, Int.not_le.mp h2⟩⟩
theorem m_cov {τ : pS} {j : Nat} (hj : j < 20) (a : Int) : f_M_covers_84 (j : Int) a τ = some (if τ 93 j ≤ pAnd (pw (a - τ 121 j)) 63 then 0 else 1, τ) := by
  unfold f_M_covers_84
  rw [if_pos (by omega), if_pos (by omega), Int.toNat_natCast]
  split <;> rfl
theorem m_tko {σ τ : pS} {k j : Nat} (hk : k < 20) (hj : j < 20) {s : Nat} (hs : σ 7 k = (s : Int)) (hs4 : s ≤ 4) (e93 : τ 93 k = σ 7 k) (e93j : τ 93 j = σ 7 j) (e121 : τ 121 k = σ 37 k) (e121j : τ 121 j = σ 37 j) (e124 : ∀ e : Nat, (e : Int) < σ 7 k → σ 38 (4 * k + e) = τ 124 (4 * k + e)) : ∀ (d a fu : Nat), a + d = s → d < fu → ∃ b : Int, f_M_tookOld_84_p2 fu (k : Int) (j : Int) (a : Int) τ = some (b, τ) ∧ ((b = 1 ∧ tko σ k j a) ∨ (b = 0 ∧ ¬ tko σ k j a))
  | 0, a, fu, ha, hf => by
    obtain ⟨n, rfl⟩ : ∃ n, fu = n + 1 := ⟨fu - 1, by omega⟩
    refine ⟨0, ?_, Or.inr ⟨rfl, ?_⟩⟩
    · show (if (0 : Int) ≤ (k : Int) ∧ (k : Int) < 20 then _ else _) = _
      rw [if_pos (by omega), Int.toNat_natCast, e93, hs, if_pos (by omega)]
    · rintro ⟨e, e1, e2, -⟩
      rw [hs] at e2
      omega
  | d + 1, a, fu, ha, hf => by
    obtain ⟨n, rfl⟩ : ∃ n, fu = n + 1 := ⟨fu - 1, by omega⟩
    have ha4 : a < 4 := by omega
    obtain ⟨b, q1, q2⟩ := m_tko hk hj hs hs4 e93 e93j e121 e121j e124 d (a + 1) n (by omega) (by omega)
    have e4 := e124 a (by rw [hs]; omega)
    have eX : f_M_tookOld_84_p2 (n + 1) (k : Int) (j : Int) (a : Int) τ = (if σ 7 j ≤ pAnd (pw (atk (σ 37 k) a - σ 37 j)) 63 then f_M_tookOld_84_p2 n (k : Int) (j : Int) ((a + 1 : Nat) : Int) τ else (if (j : Int) ≤ σ 38 (4 * k + a) then f_M_tookOld_84_p2 n (k : Int) (j : Int) ((a + 1 : Nat) : Int) τ else some (1, τ))) := by
      show (if (0 : Int) ≤ (k : Int) ∧ (k : Int) < 20 then _ else _) = _
      rw [if_pos (by omega), Int.toNat_natCast, e93, hs, if_neg (by omega), if_pos (by omega), e121, m_cov hj, Option.bind_some, (ix4 hk ha4).2.1, if_pos (ix4 hk ha4).2.2, Int.toNat_natCast, pw_s ha4 (by decide), e121j, e93j]
      show (if (if σ 7 j ≤ pAnd (pw (atk (σ 37 k) a - σ 37 j)) 63 then (0 : Int) else 1) = 0 then _ else (if (j : Int) ≤ τ 124 (4 * k + a) then _ else _)) = _
      rw [← e4]
      by_cases h : σ 7 j ≤ pAnd (pw (atk (σ 37 k) a - σ 37 j)) 63
      · simp only [if_pos h]
        rfl
      · simp only [if_neg h]
        rfl
    rw [eX]
    have nx : ¬ (σ 38 (4 * k + a) < (j : Int) ∧ pAnd (pw (atk (σ 37 k) a - σ 37 j)) 63 < σ 7 j) → ((b = 1 ∧ tko σ k j a) ∨ (b = 0 ∧ ¬ tko σ k j a)) := fun hno => by
      rcases q2 with ⟨b1, e, e1, e2, e3⟩ | ⟨b1, b2⟩
      · exact Or.inl ⟨b1, e, by omega, e2, e3⟩
      · refine Or.inr ⟨b1, ?_⟩
        rintro ⟨e, e1, e2, e3⟩
        by_cases hea : e = a
        · rw [hea] at e3
          exact hno e3
        · exact b2 ⟨e, by omega, e2, e3⟩
    by_cases h2 : σ 7 j ≤ pAnd (pw (atk (σ 37 k) a - σ 37 j)) 63
    · rw [if_pos h2]
      exact ⟨b, q1, nx (fun z => absurd z.2 (Int.not_lt.mpr h2))⟩
    · rw [if_neg h2]
      by_cases h1 : (j : Int) ≤ σ 38 (4 * k + a)
      · rw [if_pos h1]
        exact ⟨b, q1, nx (fun z => absurd z.1 (Int.not_lt.mpr h1))⟩
      · rw [if_neg h1]
        exact ⟨1, rfl, Or.inl ⟨rfl, a, Nat.le_refl _, by rw [hs]; omega, Int.not_le.mp h1, Int.not_le.mp h2⟩⟩
/-- two sets melt -/
def mset (A B : Int) : Int := if A = -1 then B else if B = -1 then A else pMin A B
def cmt (a b : Nat) (σ : pS) : pS := if σ 31 a = -1 ∧ σ 31 b = -1 then pU (pU (pU σ 28 3 (pRem (pw (σ 28 3 + 1)) 16)) 31 a (σ 28 3)) 31 b (σ 28 3) else pU (pU σ 31 a (mset (σ 31 a) (σ 31 b))) 31 b (mset (σ 31 a) (σ 31 b))
def mmt (a b : Nat) (τ : pS) : pS := if τ 87 a = -1 ∧ τ 87 b = -1 then pU (pU (pU τ 84 3 (pRem (pw (τ 84 3 + 1)) 16)) 87 a (τ 84 3)) 87 b (τ 84 3) else pU (pU τ 87 a (mset (τ 87 a) (τ 87 b))) 87 b (mset (τ 87 a) (τ 87 b))
theorem c_melt {a b : Nat} (ha : a < 20) (hb : b < 20) {σ : pS} (h1 : -1 ≤ σ 31 a) (h2 : -1 ≤ σ 31 b) : f_State_melt_28 (a : Int) (b : Int) σ = some (0, cmt a b σ) := by
  have ga : (0 : Int) ≤ (a : Int) ∧ (a : Int) < 20 := by omega
  have gb : (0 : Int) ≤ (b : Int) ∧ (b : Int) < 20 := by omega
  have e57 : ¬ (σ 31 a = -1 ∧ σ 31 b = -1) → f_State_melt_28_p57 (a : Int) (b : Int) (pMin (σ 31 a) (σ 31 b)) σ = some (0, pU (pU σ 31 a (mset (σ 31 a) (σ 31 b))) 31 b (mset (σ 31 a) (σ 31 b))) := fun hn => by
    unfold f_State_melt_28_p57
    simp only [if_pos ga, if_pos gb, Int.toNat_natCast]
    by_cases hz : pMin (σ 31 a) (σ 31 b) = -1
    · rw [if_pos hz]
      have : pMax (σ 31 a) (σ 31 b) = mset (σ 31 a) (σ 31 b) := by
        unfold pMin at hz
        unfold pMax mset pMin
        (repeat' split at hz) <;> (repeat' split) <;> omega
      rw [this]
    · rw [if_neg hz]
      have : pMin (σ 31 a) (σ 31 b) = mset (σ 31 a) (σ 31 b) := by
        unfold pMin at hz
        unfold mset pMin
        (repeat' split at hz) <;> (repeat' split) <;> omega
      rw [this]
  unfold f_State_melt_28 cmt
  simp only [if_pos ga, if_pos gb, Int.toNat_natCast]
  by_cases z1 : σ 31 a = -1
  · rw [if_pos z1]
    by_cases z2 : σ 31 b = -1
    · rw [if_pos z2, if_pos ⟨z1, z2⟩]
    · rw [if_neg z2, if_neg (fun z => z2 z.2), e57 (fun z => z2 z.2)]
  · rw [if_neg z1, if_neg (fun z => z1 z.1), e57 (fun z => z1 z.1)]
theorem m_melt {a b : Nat} (ha : a < 20) (hb : b < 20) {τ : pS} (h1 : -1 ≤ τ 87 a) (h2 : -1 ≤ τ 87 b) : f_M_melts_84 (a : Int) (b : Int) τ = some (0, mmt a b τ) := by
  have ga : (0 : Int) ≤ (a : Int) ∧ (a : Int) < 20 := by omega
  have gb : (0 : Int) ≤ (b : Int) ∧ (b : Int) < 20 := by omega
  have emin : f_M_min (τ 87 a) (τ 87 b) τ = some (pMin (τ 87 a) (τ 87 b), τ) := by
    unfold f_M_min pMin
    by_cases z : τ 87 b ≤ τ 87 a
    · rw [if_pos z]
      by_cases z2 : τ 87 b < τ 87 a
      · rw [if_pos z2]
      · rw [if_neg z2, show τ 87 b = τ 87 a by omega]
    · rw [if_neg z, if_neg (by omega)]
  unfold f_M_melts_84 mmt f_M_melts_84_p41
  simp only [if_pos ga, if_pos gb, Int.toNat_natCast, emin, Option.bind_some]
  unfold mset
  by_cases z1 : τ 87 a = -1
  · simp only [if_pos z1]
    by_cases z2 : τ 87 b = -1
    · simp only [if_pos z2, if_pos (show τ 87 a = -1 ∧ τ 87 b = -1 from ⟨z1, z2⟩)]
    · simp only [if_neg z2, if_neg (show ¬ (τ 87 a = -1 ∧ τ 87 b = -1) from fun z => z2 z.2)]
  · simp only [if_neg z1, if_neg (show ¬ (τ 87 a = -1 ∧ τ 87 b = -1) from fun z => z1 z.1)]
    by_cases z2 : τ 87 b = -1
    · simp only [if_pos z2, if_neg z1]
    · simp only [if_neg z2]
      have : ¬ pMin (τ 87 a) (τ 87 b) = -1 := by
        unfold pMin
        split <;> omega
      rw [if_neg this]
def P_ml (k x : Nat) : Prop := k = 31 ∨ (k = 28 ∧ x = 3)
def Q_ml (k x : Nat) : Prop := k = 87 ∨ (k = 84 ∧ x = 3)
theorem cmt_fr (a b : Nat) (σ : pS) : FR P_ml σ (cmt a b σ) := by
  unfold cmt
  split
  · exact ((FR.u (Or.inr ⟨rfl, rfl⟩)).tr (FR.u (Or.inl rfl))).tr (FR.u (Or.inl rfl))
  · exact (FR.u (Or.inl rfl)).tr (FR.u (Or.inl rfl))
theorem mmt_fr (a b : Nat) (τ : pS) : FR Q_ml τ (mmt a b τ) := by
  unfold mmt
  split
  · exact ((FR.u (Or.inr ⟨rfl, rfl⟩)).tr (FR.u (Or.inl rfl))).tr (FR.u (Or.inl rfl))
  · exact (FR.u (Or.inl rfl)).tr (FR.u (Or.inl rfl))
theorem melt_ls {m : Nat} {D : Nat → Prop} {σ τ : pS} {a b : Nat} (h : RM m D σ τ) (ha : a < m) (hb : b < m) : RM m D (cmt a b σ) (mmt a b τ) := by
  have sa := h.se a ha
  have sb := h.se b hb
  have sn := h.ns
  have hr : 0 ≤ pRem (pw (σ 28 3 + 1)) 16 ∧ pRem (pw (σ 28 3 + 1)) 16 ≤ 15 := by
    rw [pw_id (by omega) (by omega), pRem_eq (by omega) (by omega) (by decide) (by decide), Int.tmod_eq_emod_of_nonneg (by omega)]
    omega
  refine h.sse (cmt_fr a b σ) (mmt_fr a b τ) (fun j hj => ?_) ?_ (fun j hj h20 => ?_)
  · have sj := h.se j hj
    unfold cmt mmt
    rw [← sa.1, ← sb.1, ← sn.1]
    by_cases z : σ 31 a = -1 ∧ σ 31 b = -1
    · rw [if_pos z, if_pos z]
      by_cases h1 : j = b
      · rw [h1, pU_s, pU_s]
        exact ⟨rfl, by omega, by omega⟩
      · rw [pU_i _ _ _ _ h1, pU_i _ _ _ _ h1]
        by_cases h2 : j = a
        · rw [h2, pU_s, pU_s]
          exact ⟨rfl, by omega, by omega⟩
        · rw [pU_i _ _ _ _ h2, pU_i _ _ _ _ h2, pU_c _ _ _ _ (by decide), pU_c _ _ _ _ (by decide)]
          exact sj
    · rw [if_neg z, if_neg z]
      have hb2 : -1 ≤ mset (σ 31 a) (σ 31 b) ∧ mset (σ 31 a) (σ 31 b) ≤ 15 := by
        unfold mset pMin
        (repeat' split) <;> omega
      by_cases h1 : j = b
      · rw [h1, pU_s, pU_s]
        exact ⟨rfl, hb2⟩
      · rw [pU_i _ _ _ _ h1, pU_i _ _ _ _ h1]
        by_cases h2 : j = a
        · rw [h2, pU_s, pU_s]
          exact ⟨rfl, hb2⟩
        · rw [pU_i _ _ _ _ h2, pU_i _ _ _ _ h2]
          exact sj
  · unfold cmt mmt
    rw [← sa.1, ← sb.1, ← sn.1]
    by_cases z : σ 31 a = -1 ∧ σ 31 b = -1
    · rw [if_pos z, if_pos z, pU_c _ _ _ _ (by decide), pU_c _ _ _ _ (by decide), pU_s, pU_c _ _ _ _ (by decide), pU_c _ _ _ _ (by decide), pU_s]
      exact ⟨rfl, hr⟩
    · rw [if_neg z, if_neg z, pU_c _ _ _ _ (by decide), pU_c _ _ _ _ (by decide), pU_c _ _ _ _ (by decide), pU_c _ _ _ _ (by decide)]
      exact sn
  · unfold cmt
    by_cases z : σ 31 a = -1 ∧ σ 31 b = -1
    · rw [if_pos z, pU_i _ _ _ _ (by omega), pU_i _ _ _ _ (by omega), pU_c _ _ _ _ (by decide)]
      exact h.sh j hj h20
    · rw [if_neg z, pU_i _ _ _ _ (by omega), pU_i _ _ _ _ (by omega)]
      exact h.sh j hj h20
theorem RM.es {m : Nat} {D : Nat → Prop} {s σ τ : pS} (h : RM m D s τ) (e : FR P_sno s σ) : RM m D σ τ := h.sno e (FR.rf _ _)
def ES (s σ : pS) : Prop := ∀ k x, k ≠ 43 → σ k x = s k x
theorem cmt_ES {s σ : pS} (h : ES s σ) (a b : Nat) : ES (cmt a b s) (cmt a b σ) := by
  intro k x hk
  unfold cmt
  rw [h 31 a (by decide), h 31 b (by decide), h 28 3 (by decide)]
  by_cases z : s 31 a = -1 ∧ s 31 b = -1
  · rw [if_pos z, if_pos z]
    unfold pU
    rw [h k x hk]
  · rw [if_neg z, if_neg z]
    unfold pU
    rw [h k x hk]
def cmts (j : Nat) : List Nat → pS → pS
  | [], σ => σ
  | w :: ws, σ => cmts j ws (cmt w j σ)
def mmts (j : Nat) : List Nat → pS → pS
  | [], τ => τ
  | w :: ws, τ => mmts j ws (mmt w j τ)
theorem cmts_fr (j : Nat) : ∀ (ws : List Nat) (σ : pS), FR P_ml σ (cmts j ws σ)
  | [], σ => FR.rf _ _
  | w :: ws, σ => (cmt_fr w j σ).tr (cmts_fr j ws _)
theorem mmts_fr (j : Nat) : ∀ (ws : List Nat) (τ : pS), FR Q_ml τ (mmts j ws τ)
  | [], τ => FR.rf _ _
  | w :: ws, τ => (mmt_fr w j τ).tr (mmts_fr j ws _)
theorem melts_ls {m : Nat} {D : Nat → Prop} {j : Nat} (hj : j < m) : ∀ (ws : List Nat) {σ τ : pS}, RM m D σ τ → (∀ w ∈ ws, w < m) → RM m D (cmts j ws σ) (mmts j ws τ)
  | [], σ, τ, h, _ => h
  | w :: ws, σ, τ, h, hw => melts_ls hj ws (melt_ls h (hw w List.mem_cons_self) hj) (fun x hx => hw x (List.mem_cons_of_mem _ hx))
/-- a load that took too old a byte -/
def wl (σ : pS) (j k : Nat) : Prop := σ 5 k = 2 ∧ σ 39 k = 2 ∧ tko σ k j 0
theorem wl_cg {σ σ' : pS} {j k : Nat} (a : ∀ q x, (q = 5 ∨ q = 7 ∨ q = 37 ∨ q = 38 ∨ q = 39) → σ' q x = σ q x) : wl σ' j k ↔ wl σ j k := by
  unfold wl tko
  rw [a 5 _ (by omega), a 39 _ (by omega), a 7 _ (by omega), a 7 _ (by omega), a 37 _ (by omega), a 37 _ (by omega)]
  constructor
  · rintro ⟨h1, h2, e, e1, e2, e3, e4⟩
    rw [a 38 _ (by omega)] at e3
    exact ⟨h1, h2, e, e1, e2, e3, e4⟩
  · rintro ⟨h1, h2, e, e1, e2, e3, e4⟩
    rw [← a 38 _ (by omega)] at e3
    exact ⟨h1, h2, e, e1, e2, e3, e4⟩
def QW (c : Nat) (σ : pS) (F : List Nat) : Prop := ∀ (a x : Nat), F[a]? = some x → σ c a = (x : Int)
theorem QW.app {c : Nat} {σ : pS} {F : List Nat} (h : QW c σ F) (k : Nat) : QW c (pU σ c F.length (k : Int)) (F ++ [k]) := by
  intro a x hx
  by_cases ha : a = F.length
  · rw [ha, List.getElem?_append_right (Nat.le_refl _)] at hx
    simp at hx
    rw [ha, pU_s, hx]
  · have h1 : a < F.length := by
      have := (List.getElem?_eq_some_iff.mp hx).1
      rw [List.length_append] at this
      simp at this
      omega
    rw [List.getElem?_append_left h1] at hx
    rw [pU_i _ _ _ _ ha]
    exact h a x hx
theorem c_lb6 {m : Nat} {rec : Nat → O8} {D : Nat → Prop} {j : Nat} (hj : j < m) : ∀ (d k fu : Nat) (s σ τv : pS) (F : List Nat), k + d = m → d < fu → PG m rec s τv → RM m D s τv → ES s σ → QW 43 σ F → F.length + j + 1 ≤ k →
    ∃ ws σ1, f_Mach_lookBack_3_p6 fu (j : Int) (F.length : Int) (k : Int) σ = f_Mach_lookBack_3_p76 4096 ((F ++ ws).length : Int) 0 σ1 ∧ Fl (wl s j) k d ws ∧ ES (cmts j ws s) σ1 ∧ QW 43 σ1 (F ++ ws)
  | 0, k, fu, s, σ, τv, F, hk, hf, hG, h, hE, hQ, hl => by
    obtain ⟨n, rfl⟩ : ∃ n, fu = n + 1 := ⟨fu - 1, by omega⟩
    refine ⟨[], σ, ?_, .nil k, hE, by rw [List.append_nil]; exact hQ⟩
    show (if σ 4 11 ≤ (k : Int) then _ else _) = _
    rw [hE 4 11 (by decide), hG.cm, if_pos (by omega), List.append_nil]
  | d + 1, k, fu, s, σ, τv, F, hk, hf, hG, h, hE, hQ, hl => by
    obtain ⟨n, rfl⟩ : ∃ n, fu = n + 1 := ⟨fu - 1, by omega⟩
    have hm := hG.le
    have hkm : k < m := by omega
    have g : (0 : Int) ≤ (k : Int) ∧ (k : Int) < 20 := by omega
    have hk20 : k < 20 := by omega
    have eX : f_Mach_lookBack_3_p6 (n + 1) (j : Int) (F.length : Int) (k : Int) σ = (if s 5 k = 2 then (if s 39 k = 2 then ((f_Mach_tookTooOld_3 (k : Int) (j : Int) σ).bind fun q12 => (if q12.1 = 0 then (f_Mach_lookBack_3_p6 n (j : Int) (F.length : Int) ((k + 1 : Nat) : Int) q12.2) else (if 0 ≤ (F.length : Int) ∧ (F.length : Int) < 20 then ((f_State_melt_28 (k : Int) (j : Int) (pU q12.2 43 F.length (k : Int))).bind fun q15 => (f_Mach_lookBack_3_p6 n (j : Int) (pw ((F.length : Int) + 1)) ((k + 1 : Nat) : Int) q15.2)) else none))) else (f_Mach_lookBack_3_p6 n (j : Int) (F.length : Int) ((k + 1 : Nat) : Int) σ)) else (f_Mach_lookBack_3_p6 n (j : Int) (F.length : Int) ((k + 1 : Nat) : Int) σ)) := by
      show (if σ 4 11 ≤ (k : Int) then _ else _) = _
      rw [hE 4 11 (by decide), hG.cm, if_neg (by omega)]
      simp only [if_pos g, Int.toNat_natCast, pw_s hk20 (show 20 ≤ 100000 by decide), hE 5 k (by decide), hE 39 k (by decide)]
    have no : ¬ wl s j k → f_Mach_lookBack_3_p6 (n + 1) (j : Int) (F.length : Int) (k : Int) σ = f_Mach_lookBack_3_p6 n (j : Int) (F.length : Int) ((k + 1 : Nat) : Int) σ → ∃ ws σ1, f_Mach_lookBack_3_p6 (n + 1) (j : Int) (F.length : Int) (k : Int) σ = f_Mach_lookBack_3_p76 4096 ((F ++ ws).length : Int) 0 σ1 ∧ Fl (wl s j) k (d + 1) ws ∧ ES (cmts j ws s) σ1 ∧ QW 43 σ1 (F ++ ws) := fun hw he => by
      obtain ⟨ws, σ1, q1, q2, q3⟩ := c_lb6 hj d (k + 1) n s σ τv F (by omega) (by omega) hG h hE hQ (by omega)
      exact ⟨ws, σ1, he.trans q1, .no hw q2, q3⟩
    by_cases h5 : s 5 k = 2
    · by_cases h39 : s 39 k = 2
      · obtain ⟨y1, y2⟩ := hG.sz hkm (by omega)
        obtain ⟨sz, hs, hs4⟩ : ∃ s9 : Nat, σ 7 k = (s9 : Int) ∧ s9 ≤ 4 := ⟨(s 7 k).toNat, by rw [hE 7 k (by decide)]; omega, by omega⟩
        obtain ⟨b, b1, b2⟩ := c_tko (σ := σ) (show k < 20 by omega) (show j < 20 by omega) hs hs4 sz 0 4096 (by omega) (by omega)
        have ew : wl σ j k ↔ wl s j k := wl_cg (fun q x hq => hE q x (by omega))
        rw [show f_Mach_tookTooOld_3 (k : Int) (j : Int) σ = some (b, σ) from b1, if_pos h5, if_pos h39, Option.bind_some] at eX
        dsimp only at eX
        rcases b2 with ⟨z1, z2⟩ | ⟨z1, z2⟩
        · have hw : wl s j k := ew.mp ⟨by rw [hE 5 k (by decide)]; exact h5, by rw [hE 39 k (by decide)]; exact h39, z2⟩
          have sk := h.se k hkm
          have sj := h.se j hj
          have em : f_State_melt_28 (k : Int) (j : Int) (pU σ 43 F.length (k : Int)) = some (0, cmt k j (pU σ 43 F.length (k : Int))) := c_melt (by omega) (by omega) (by rw [pU_c _ _ _ _ (by decide), hE 31 k (by decide)]; exact sk.2.1) (by rw [pU_c _ _ _ _ (by decide), hE 31 j (by decide)]; exact sj.2.1)
          rw [if_neg (by omega), if_pos (by omega), em, Option.bind_some, pw_s (show F.length < 20 by omega) (by decide)] at eX
          have hE1 : ES s (pU σ 43 F.length (k : Int)) := fun q x hq => (pU_c _ _ _ _ hq).trans (hE q x hq)
          have f1 := cmt_fr k j s
          have f2 := mmt_fr k j τv
          obtain ⟨ws, σ1, q1, q2, q3, q4⟩ := c_lb6 hj d (k + 1) n (cmt k j s) (cmt k j (pU σ 43 F.length (k : Int))) (mmt k j τv) (F ++ [k]) (by omega) (by omega) (hG.fr (f1.mono (fun a b hh => by unfold P_ml at hh; unfold PN; omega)) (f2.mono (fun a b hh => by unfold Q_ml at hh; unfold QN; omega))) (melt_ls h hkm hj) (cmt_ES hE1 k j) (fun a x hx => by
            rw [(cmt_fr k j (pU σ 43 F.length (k : Int))).get (k := 43) (by unfold P_ml; omega)]
            exact hQ.app k a x hx) (by rw [List.length_append]; simp; omega)
          have el : ((F ++ [k]).length : Int) = ((F.length + 1 : Nat) : Int) := by rw [List.length_append]; simp
          rw [el] at q1
          rw [List.append_assoc] at q1 q4
          exact ⟨k :: ws, σ1, eX.trans q1, .yes hw (q2.cg (fun x _ _ => wl_cg (fun q y hq => f1.get (by unfold P_ml; omega)))), q3, q4⟩
        · rw [if_pos z1] at eX
          exact no (fun z => z2 (ew.mpr z).2.2) eX
      · rw [if_pos h5, if_neg h39] at eX
        exact no (fun z => h39 z.2.1) eX
    · rw [if_neg h5] at eX
      exact no (fun z => h5 z.1) eX
theorem m_lb6 {m : Nat} {rec : Nat → O8} {D : Nat → Prop} {j : Nat} (hj : j < m) (hD : D j) {s : pS} (hk3 : s 5 j = 3) : ∀ (d k fu : Nat) (τ : pS) (F : List Nat), k + d = m → d < fu → PG m rec s τ → RM m D s τ → QW 133 τ F → F.length + j + 1 ≤ k →
    ∃ ws τ1, f_M_looksBack_84_p6 fu (j : Int) (F.length : Int) (k : Int) τ = f_M_looksBack_84_p75 4096 (j : Int) ((F ++ ws).length : Int) 0 (pU τ1 84 64 (pw (τ 84 64 + ((F ++ ws).length : Int)))) ∧ Fl (wl s j) k d ws ∧ FR (fun k _ => k = 133) τ τ1 ∧ QW 133 τ1 (F ++ ws)
  | 0, k, fu, τ, F, hk, hf, hG, h, hQ, hl => by
    obtain ⟨n, rfl⟩ : ∃ n, fu = n + 1 := ⟨fu - 1, by omega⟩
    refine ⟨[], τ, ?_, .nil k, FR.rf _ _, by rw [List.append_nil]; exact hQ⟩
    show (if τ 84 2 ≤ (k : Int) then _ else _) = _
    rw [hG.mm, if_pos (by omega), List.append_nil]
  | d + 1, k, fu, τ, F, hk, hf, hG, h, hQ, hl => by
    obtain ⟨n, rfl⟩ : ∃ n, fu = n + 1 := ⟨fu - 1, by omega⟩
    have hm := hG.le
    have hkm : k < m := by omega
    have g : (0 : Int) ≤ (k : Int) ∧ (k : Int) < 20 := by omega
    have kk := hG.kd hkm
    have sk := h.st k hkm
    have hk20 : k < 20 := by omega
    have eX : f_M_looksBack_84_p6 (n + 1) (j : Int) (F.length : Int) (k : Int) τ = (if s 5 k = 2 then (if s 39 k = 2 then ((f_M_tookOld_84 (k : Int) (j : Int) τ).bind fun q15 => (if q15.1 = 0 then (f_M_looksBack_84_p6 n (j : Int) (F.length : Int) ((k + 1 : Nat) : Int) q15.2) else (if 0 ≤ (F.length : Int) ∧ (F.length : Int) < 20 then (f_M_looksBack_84_p6 n (j : Int) (pw ((F.length : Int) + 1)) ((k + 1 : Nat) : Int) (pU q15.2 133 F.length (k : Int))) else none))) else (f_M_looksBack_84_p6 n (j : Int) (F.length : Int) ((k + 1 : Nat) : Int) τ)) else (f_M_looksBack_84_p6 n (j : Int) (F.length : Int) ((k + 1 : Nat) : Int) τ)) := by
      show (if τ 84 2 ≤ (k : Int) then _ else _) = _
      rw [hG.mm, if_neg (by omega)]
      simp only [if_pos g, Int.toNat_natCast, pw_s hk20 (show 20 ≤ 100000 by decide), kk.1, ← sk.1]
    have no : ¬ wl s j k → f_M_looksBack_84_p6 (n + 1) (j : Int) (F.length : Int) (k : Int) τ = f_M_looksBack_84_p6 n (j : Int) (F.length : Int) ((k + 1 : Nat) : Int) τ → ∃ ws τ1, f_M_looksBack_84_p6 (n + 1) (j : Int) (F.length : Int) (k : Int) τ = f_M_looksBack_84_p75 4096 (j : Int) ((F ++ ws).length : Int) 0 (pU τ1 84 64 (pw (τ 84 64 + ((F ++ ws).length : Int)))) ∧ Fl (wl s j) k (d + 1) ws ∧ FR (fun k _ => k = 133) τ τ1 ∧ QW 133 τ1 (F ++ ws) := fun hw he => by
      obtain ⟨ws, τ1, q1, q2, q3⟩ := m_lb6 hj hD hk3 d (k + 1) n τ F (by omega) (by omega) hG h hQ (by omega)
      exact ⟨ws, τ1, he.trans q1, .no hw q2, q3⟩
    by_cases h5 : s 5 k = 2
    · by_cases h39 : s 39 k = 2
      · obtain ⟨y1, y2⟩ := hG.sz hkm (by omega)
        obtain ⟨y3, -⟩ := hG.sz hj (by omega)
        obtain ⟨sz, hs, hs4⟩ : ∃ s9 : Nat, s 7 k = (s9 : Int) ∧ s9 ≤ 4 := ⟨(s 7 k).toNat, by omega, by omega⟩
        have va := h.va k hkm (h.dn k hkm h39)
        have vj := h.va j hj hD
        obtain ⟨b, b1, b2⟩ := m_tko (σ := s) (τ := τ) (show k < 20 by omega) (show j < 20 by omega) hs hs4 y1 y3 (va.2.2.1 (by omega)).symm (vj.2.2.1 (by omega)).symm (va.2.2.2 h5) sz 0 4096 (by omega) (by omega)
        rw [show f_M_tookOld_84 (k : Int) (j : Int) τ = some (b, τ) from b1, if_pos h5, if_pos h39, Option.bind_some] at eX
        dsimp only at eX
        rcases b2 with ⟨z1, z2⟩ | ⟨z1, z2⟩
        · rw [if_neg (by omega), if_pos (by omega), pw_s (show F.length < 20 by omega) (by decide)] at eX
          have f1 : FR (fun k _ => k = 133) τ (pU τ 133 F.length (k : Int)) := FR.u rfl
          obtain ⟨ws, τ1, q1, q2, q3, q4⟩ := m_lb6 hj hD hk3 d (k + 1) n (pU τ 133 F.length (k : Int)) (F ++ [k]) (by omega) (by omega) (hG.fr (FR.rf _ _) (f1.mono (fun a b hh => by have hh : a = 133 := hh; unfold QN; omega))) (h.sno (FR.rf _ _) (f1.mono (fun a b hh => by have hh : a = 133 := hh; unfold Q_sno; omega))) (hQ.app k) (by rw [List.length_append]; simp; omega)
          have el : ((F ++ [k]).length : Int) = ((F.length + 1 : Nat) : Int) := by rw [List.length_append]; simp
          rw [el] at q1
          rw [List.append_assoc] at q1 q4
          rw [pU_c _ _ _ _ (by decide)] at q1
          exact ⟨k :: ws, τ1, eX.trans q1, .yes ⟨h5, h39, z2⟩ q2, f1.tr q3, q4⟩
        · rw [if_pos z1] at eX
          exact no (fun z => z2 z.2.2) eX
      · rw [if_pos h5, if_neg h39] at eX
        exact no (fun z => h39 z.2.1) eX
    · rw [if_neg h5] at eX
      exact no (fun z => h5 z.1) eX
theorem m_75 {m : Nat} {D : Nat → Prop} {j : Nat} (hj : j < m) (hm : m ≤ 20) {L : List Nat} (hL : ∀ w ∈ L, w < m) (hl : L.length ≤ 20) : ∀ (W : List Nat) (a fu : Nat) (s τ : pS), a + W.length = L.length → (∀ b, W[b]? = L[a + b]?) → W.length < fu → RM m D s τ → QW 133 τ L → f_M_looksBack_84_p75 fu (j : Int) (L.length : Int) (a : Int) τ = f_M_looksBack_84_p99 4096 (L.length : Int) 0 (mmts j W τ)
  | [], a, fu, s, τ, ha, hW, hf, h, hQ => by
    obtain ⟨n, rfl⟩ : ∃ n, fu = n + 1 := ⟨fu - 1, by omega⟩
    show (if (L.length : Int) ≤ (a : Int) then _ else _) = _
    have : a + 0 = L.length := ha
    rw [if_pos (by omega)]
    rfl
  | w :: W, a, fu, s, τ, ha, hW, hf, h, hQ => by
    obtain ⟨n, rfl⟩ : ∃ n, fu = n + 1 := ⟨fu - 1, by omega⟩
    have ha' : a + (W.length + 1) = L.length := ha
    have hf' : W.length + 1 < n + 1 := hf
    have hw : L[a]? = some w := by
      have := hW 0
      rw [Nat.add_zero] at this
      exact this.symm
    have hwm := hL w (List.mem_of_getElem? hw)
    have sw := h.se w hwm
    have sj := h.se j hj
    have em : f_M_melts_84 (w : Int) (j : Int) τ = some (0, mmt w j τ) := m_melt (by omega) (by omega) (by omega) (by omega)
    have ih := m_75 hj hm hL hl W (a + 1) n (cmt w j s) (mmt w j τ) (by omega) (fun b => by
      have := hW (b + 1)
      rw [show a + (b + 1) = a + 1 + b by omega] at this
      exact this) (by omega) (melt_ls h hwm hj) (fun b x hx => by
      rw [(mmt_fr w j τ).get (k := 133) (by unfold Q_ml; omega)]
      exact hQ b x hx)
    show (if (L.length : Int) ≤ (a : Int) then _ else _) = _
    rw [if_neg (by omega), if_pos (by omega), Int.toNat_natCast, hQ a w hw, em, Option.bind_some, pw_s (show a < 20 by omega) (by decide)]
    exact ih
def P_lb (k x : Nat) : Prop := P_rq k x ∨ P_ml k x ∨ k = 43 ∨ (k = 33 ∧ x = 1)
def Q_lb (k x : Nat) : Prop := Q_rq k x ∨ Q_ml k x ∨ k = 133 ∨ (k = 84 ∧ x = 64)
theorem P_lb_N (k x : Nat) (h : P_lb k x) : PN k x := by unfold P_lb P_rq P_mw P_un P_ml at h; unfold PN; omega
theorem Q_lb_N (k x : Nat) (h : Q_lb k x) : QN k x := by unfold Q_lb Q_rq Q_mw Q_un Q_li Q_ml at h; unfold QN; omega
theorem pw_r (a : Int) : -2147483648 ≤ pw a ∧ pw a < 2147483648 := by
  unfold pw
  have h1 := Int.le_bmod (x := a) (m := 4294967296) (by decide)
  have h2 := Int.bmod_lt (x := a) (m := 4294967296) (by decide)
  omega
theorem lb_rp {m : Nat} {rec : Nat → O8} {D : Nat → Prop} {L : List Nat} (hL : ∀ w ∈ L, w < m) (hl : L.length ≤ 20) : ∀ (d a fu1 fu2 : Nat) (σ τ : pS), a + d = L.length → d < fu1 → d < fu2 → PG m rec σ τ → RM m D σ τ → T2 m σ → GV m D σ → QW 43 σ L → QW 133 τ L → -2147483648 ≤ σ 33 1 ∧ σ 33 1 < 2147483648 →
    ∃ σ' τ', f_Mach_lookBack_3_p76 fu1 (L.length : Int) (a : Int) σ = some (0, σ') ∧ f_M_looksBack_84_p99 fu2 (L.length : Int) (a : Int) τ = some (0, τ') ∧ PG m rec σ' τ' ∧ RM m D σ' τ' ∧ T2 m σ' ∧ GV m D σ' ∧ σ' 33 1 = pw (σ 33 1 + (d : Int)) ∧ FR P_lb σ σ' ∧ FR Q_rq τ τ'
  | 0, a, fu1, fu2, σ, τ, ha, h1, h2, hG, h, hT, hV, hQ, hR, hw => by
    obtain ⟨n1, rfl⟩ : ∃ n, fu1 = n + 1 := ⟨fu1 - 1, by omega⟩
    obtain ⟨n2, rfl⟩ : ∃ n, fu2 = n + 1 := ⟨fu2 - 1, by omega⟩
    refine ⟨σ, τ, ?_, ?_, hG, h, hT, hV, (pw_id (by omega) (by omega)).symm.trans (by rw [show σ 33 1 + ((0 : Nat) : Int) = σ 33 1 by omega]), FR.rf _ _, FR.rf _ _⟩
    · show (if (L.length : Int) ≤ (a : Int) then _ else _) = _
      rw [if_pos (by omega)]
    · show (if (L.length : Int) ≤ (a : Int) then _ else _) = _
      rw [if_pos (by omega)]
  | d + 1, a, fu1, fu2, σ, τ, ha, h1, h2, hG, h, hT, hV, hQ, hR, hw => by
    obtain ⟨n1, rfl⟩ : ∃ n, fu1 = n + 1 := ⟨fu1 - 1, by omega⟩
    obtain ⟨n2, rfl⟩ : ∃ n, fu2 = n + 1 := ⟨fu2 - 1, by omega⟩
    have hm := hG.le
    have haL : a < L.length := by omega
    obtain ⟨w, hw1⟩ : ∃ w, L[a]? = some w := ⟨L[a], List.getElem?_eq_getElem haL⟩
    have hwm := hL w (List.mem_of_getElem? hw1)
    have a20 : a < 20 := by omega
    have ga : (0 : Int) ≤ (a : Int) ∧ (a : Int) < 20 := by omega
    have gw : (0 : Int) ≤ (w : Int) ∧ (w : Int) < 20 := by omega
    have gn : ¬ (L.length : Int) ≤ (a : Int) := by omega
    have sw := h.st w hwm
    have f0 : FR P_lb σ (pU σ 33 1 (pw (σ 33 1 + 1))) := FR.u (Or.inr (Or.inr (Or.inr ⟨rfl, rfl⟩)))
    have hG0 : PG m rec (pU σ 33 1 (pw (σ 33 1 + 1))) τ := hG.fr (f0.mono P_lb_N) (FR.rf _ _)
    have h0 : RM m D (pU σ 33 1 (pw (σ 33 1 + 1))) τ := h.es (FR.u (by unfold P_sno; omega))
    have hT0 : T2 m (pU σ 33 1 (pw (σ 33 1 + 1))) := fun x hx z => by
      rw [pU_c _ _ _ _ (by decide)] at z ⊢
      exact hT x hx z
    have hV0 : GV m D (pU σ 33 1 (pw (σ 33 1 + 1))) := hV.fr (fun k x hk => pU_c _ _ _ _ (by omega))
    have hQ0 : QW 43 (pU σ 33 1 (pw (σ 33 1 + 1))) L := fun b x hx => (pU_c _ _ _ _ (by decide)).trans (hQ b x hx)
    have r0 : -2147483648 ≤ pU σ 33 1 (pw (σ 33 1 + 1)) 33 1 ∧ pU σ 33 1 (pw (σ 33 1 + 1)) 33 1 < 2147483648 := by
      rw [pU_s]
      exact pw_r _
    have cnt : ∀ σ9 : pS, σ9 33 1 = pU σ 33 1 (pw (σ 33 1 + 1)) 33 1 → pw (σ9 33 1 + (d : Int)) = pw (σ 33 1 + ((d + 1 : Nat) : Int)) := fun σ9 e9 => by
      rw [e9, pU_s, pw_pw, show σ 33 1 + 1 + (d : Int) = σ 33 1 + ((d + 1 : Nat) : Int) by omega]
    have eX : f_Mach_lookBack_3_p76 (n1 + 1) (L.length : Int) (a : Int) σ = (if σ 39 w = 0 then f_Mach_lookBack_3_p76 n1 (L.length : Int) ((a + 1 : Nat) : Int) (pU σ 33 1 (pw (σ 33 1 + 1))) else ((f_Mach_replay_3 (w : Int) (pU σ 33 1 (pw (σ 33 1 + 1)))).bind fun q7 => (f_Mach_lookBack_3_p76 n1 (L.length : Int) ((a + 1 : Nat) : Int) q7.2))) := by
      show (if (L.length : Int) ≤ (a : Int) then _ else _) = _
      rw [if_neg gn, if_pos ga, Int.toNat_natCast, hQ a w hw1, if_pos gw, if_pos ga, Int.toNat_natCast, pw_s a20 (by decide)]
    have eM : f_M_looksBack_84_p99 (n2 + 1) (L.length : Int) (a : Int) τ = (if σ 39 w = 0 then f_M_looksBack_84_p99 n2 (L.length : Int) ((a + 1 : Nat) : Int) τ else ((f_M_replaysAll_84 (w : Int) τ).bind fun q8 => (f_M_looksBack_84_p99 n2 (L.length : Int) ((a + 1 : Nat) : Int) q8.2))) := by
      show (if (L.length : Int) ≤ (a : Int) then _ else _) = _
      rw [if_neg gn, if_pos ga, Int.toNat_natCast, hR a w hw1, if_pos gw, if_pos ga, Int.toNat_natCast, pw_s a20 (by decide), sw.1]
    rw [eX, eM]
    by_cases hz : σ 39 w = 0
    · rw [if_pos hz, if_pos hz]
      obtain ⟨σ', τ', q1, q2, q3, q4, q5, q6, q7, q8, q9⟩ := lb_rp hL hl d (a + 1) n1 n2 _ τ (by omega) (by omega) (by omega) hG0 h0 hT0 hV0 hQ0 hR r0
      exact ⟨σ', τ', q1, q2, q3, q4, q5, q6, q7.trans (cnt _ rfl), f0.tr q8, q9⟩
    · rw [if_neg hz, if_neg hz]
      obtain ⟨σ1, τ1, c1, c2, c3, c4, c5, c6, c7⟩ := rp_ls hG0 h0 hT0 hV0 hwm (by rw [pU_c _ _ _ _ (by decide)]; exact hz)
      rw [c1, c2, Option.bind_some, Option.bind_some]
      have k33 : σ1 33 1 = pU σ 33 1 (pw (σ 33 1 + 1)) 33 1 := c6.get (by unfold P_rq P_mw P_un; omega)
      obtain ⟨σ', τ', q1, q2, q3, q4, q5, q6, q7, q8, q9⟩ := lb_rp hL hl d (a + 1) n1 n2 σ1 τ1 (by omega) (by omega) (by omega) c3 c4 c5 (hV0.fr (fun k x hk => c6.get (by unfold P_rq P_mw P_un; omega))) (fun b x hx => (c6.get (by unfold P_rq P_mw P_un; omega)).trans (hQ0 b x hx)) (fun b x hx => (c7.get (by unfold Q_rq Q_mw Q_un Q_li; omega)).trans (hR b x hx)) (by rw [k33]; exact r0)
      exact ⟨σ', τ', q1, q2, q3, q4, q5, q6, q7.trans (cnt _ k33), (f0.tr (c6.mono (fun k x hh => Or.inl hh))).tr q8, c7.tr q9⟩
/-- wrong loads are counted alike -/
def CW (σ τ : pS) : Prop := σ 33 1 = τ 84 64 ∧ -2147483648 ≤ σ 33 1 ∧ σ 33 1 < 2147483648
/-- a store looks back: the same in both -/
theorem lb_ls {m : Nat} {rec : Nat → O8} {D : Nat → Prop} {σ τ : pS} {j : Nat} (hG : PG m rec σ τ) (h : RM m D σ τ) (hT : T2 m σ) (hV : GV m D σ) (hC : CW σ τ) (hj : j < m) (hD : D j) (hk3 : σ 5 j = 3) : ∃ σ' τ', f_Mach_lookBack_3 (j : Int) σ = some (0, σ') ∧ f_M_looksBack_84 (j : Int) τ = some (0, τ') ∧ PG m rec σ' τ' ∧ RM m D σ' τ' ∧ T2 m σ' ∧ GV m D σ' ∧ CW σ' τ' ∧ FR P_lb σ σ' ∧ FR Q_lb τ τ' := by
  have hm := hG.le
  obtain ⟨ws, σ1, a1, a2, a3, a4⟩ := c_lb6 hj (m - (j + 1)) (j + 1) 4096 σ σ τ [] (by omega) (by omega) hG h (fun _ _ _ => rfl) (fun a x hx => by simp at hx) (by simp)
  obtain ⟨ws', τ1, b1, b2, b3, b4⟩ := m_lb6 hj hD hk3 (m - (j + 1)) (j + 1) 4096 τ [] (by omega) (by omega) hG h (fun a x hx => by simp at hx) (by simp)
  have ew : ws' = ws := by
    have aux : ∀ {p : Nat → Prop} {d k : Nat} {A B : List Nat}, Fl p k d A → Fl p k d B → A = B := by
      intro p d
      induction d with
      | zero => intro k A B x y; rw [x.iv0, y.iv0]
      | succ d ih =>
        intro k A B x y
        rcases x.iv with ⟨x1, A', rfl, x2⟩ | ⟨x1, x2⟩
        · rcases y.iv with ⟨y1, B', rfl, y2⟩ | ⟨y1, y2⟩
          · rw [ih x2 y2]
          · exact absurd x1 y1
        · rcases y.iv with ⟨y1, B', rfl, y2⟩ | ⟨y1, y2⟩
          · exact absurd y1 x1
          · exact ih x2 y2
    exact aux b2 a2
  subst ew
  rw [List.nil_append] at a1 a4 b1 b4
  have hw : ∀ w ∈ ws', w < m := fun w hw => by
    have := (a2.mem w).mp hw
    omega
  have hl : ws'.length ≤ 20 := by
    have := a2.len
    omega
  have f1 : FR Q_lb τ (pU τ1 84 64 (pw (τ 84 64 + (ws'.length : Int)))) := (b3.mono (fun k x hh => Or.inr (Or.inr (Or.inl hh)))).tr (FR.u (Or.inr (Or.inr (Or.inr ⟨rfl, rfl⟩))))
  have f1s : FR Q_sno τ (pU τ1 84 64 (pw (τ 84 64 + (ws'.length : Int)))) := (b3.mono (fun k x hh => by have hh : k = 133 := hh; unfold Q_sno; omega)).tr (FR.u (by unfold Q_sno; omega))
  have h1 := h.sno (FR.rf _ σ) f1s
  have e75 := m_75 hj hm hw hl ws' 0 4096 σ _ (by omega) (fun b => by rw [Nat.zero_add]) (by omega) h1 (fun b x hx => (pU_c _ _ _ _ (by decide)).trans (b4 b x hx))
  have h2 := melts_ls hj ws' h1 hw
  have hE : FR P_sno (cmts j ws' σ) σ1 := fun k x => by
    by_cases hk : k = 43
    · exact Or.inl (by unfold P_sno; omega)
    · exact Or.inr (a3 k x hk)
  have h3 := h2.es hE
  have g1 : FR P_lb σ σ1 := fun k x => by
    by_cases hk : k = 43
    · exact Or.inl (Or.inr (Or.inr (Or.inl hk)))
    · rcases cmts_fr j ws' σ k x with z | z
      · exact Or.inl (Or.inr (Or.inl z))
      · exact Or.inr ((a3 k x hk).trans z)
  have g2 : FR Q_lb τ (mmts j ws' (pU τ1 84 64 (pw (τ 84 64 + (ws'.length : Int))))) := f1.tr ((mmts_fr j ws' _).mono (fun k x hh => Or.inr (Or.inl hh)))
  have k33 : σ1 33 1 = σ 33 1 := (a3 33 1 (by decide)).trans ((cmts_fr j ws' σ).get (by unfold P_ml; omega))
  have hT1 : T2 m σ1 := fun x hx z => by
    rw [a3 41 x (by decide), (cmts_fr j ws' σ).get (by unfold P_ml; omega)] at z
    rw [a3 39 x (by decide), (cmts_fr j ws' σ).get (by unfold P_ml; omega)]
    exact hT x hx z
  obtain ⟨σ', τ', q1, q2, q3, q4, q5, q6, q7, q8, q9⟩ := lb_rp hw hl ws'.length 0 4096 4096 σ1 _ (by omega) (by omega) (by omega) (hG.fr (g1.mono P_lb_N) (g2.mono Q_lb_N)) h3 hT1 (hV.fr (fun k x hk => (a3 k x (by omega)).trans ((cmts_fr j ws' σ).get (by unfold P_ml; omega)))) a4 (fun b x hx => ((mmts_fr j ws' _).get (by unfold Q_ml; omega)).trans ((pU_c _ _ _ _ (by decide)).trans (b4 b x hx))) (by rw [k33]; exact hC.2)
  refine ⟨σ', τ', ?_, ?_, q3, q4, q5, q6, ⟨?_, ?_⟩, g1.tr q8, g2.tr (q9.mono (fun k x hh => Or.inl hh))⟩
  · unfold f_Mach_lookBack_3
    rw [pw_s (show j < 20 by omega) (by decide)]
    exact a1.trans q1
  · unfold f_M_looksBack_84
    rw [pw_s (show j < 20 by omega) (by decide)]
    exact b1.trans (e75.trans q2)
  · rw [q7, k33, q9.get (k := 84) (x := 64) (by unfold Q_rq Q_mw Q_un Q_li; omega), (mmts_fr j ws' _).get (k := 84) (x := 64) (by unfold Q_ml; omega), pU_s, hC.1]
  · rw [q7]
    exact pw_r _
