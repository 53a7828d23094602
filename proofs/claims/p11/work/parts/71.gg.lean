def lk (σ : pS) (S : Int) : Nat → Int
  | 0 => 0
  | k + 1 => if σ 5 k = 3 ∧ σ 31 k = S then (if σ 39 k = 2 then 0 else 1) else lk σ S k
def ud (σ : pS) (c : Nat) : Prop := ∃ k, k < c ∧ σ 5 k = 3 ∧ σ 39 k ≠ 2
theorem c_51z {σ : pS} {S : Int} : ∀ (c fu : Nat), c ≤ 20 → c < fu → f_Mach_mustWait_3_p51 fu 0 S ((c : Int) - 1) σ = some (lk σ S c, σ)
  | 0, fu, hc, hf => by
    obtain ⟨n, rfl⟩ : ∃ n, fu = n + 1 := ⟨fu - 1, by omega⟩
    show (if ((0 : Nat) : Int) - 1 < 0 then _ else _) = _
    rw [if_pos (by omega)]
    rfl
  | c + 1, fu, hc, hf => by
    obtain ⟨n, rfl⟩ : ∃ n, fu = n + 1 := ⟨fu - 1, by omega⟩
    have e : ((c + 1 : Nat) : Int) - 1 = (c : Int) := by omega
    have g : (0 : Int) ≤ (c : Int) ∧ (c : Int) < 20 := by omega
    have ih := c_51z (σ := σ) (S := S) c n (by omega) (by omega)
    rw [e]
    show (if (c : Int) < 0 then _ else _) = _
    rw [if_neg (by omega)]
    unfold f_Mach_mustWait_3_p90
    simp only [if_pos g, Int.toNat_natCast, pw_p (show c < 20 by omega) (show 20 ≤ 100000 by decide)]
    unfold lk
    by_cases h1 : σ 5 c = 3
    · rw [if_pos h1, if_pos trivial, if_pos trivial]
      by_cases h2 : σ 31 c = S
      · rw [if_pos h2, if_pos (show σ 5 c = 3 ∧ σ 31 c = S from ⟨h1, h2⟩)]
        by_cases h3 : σ 39 c = 2
        · rw [if_pos h3, if_pos h3]
        · rw [if_neg h3, if_neg h3]
      · rw [if_neg h2, if_neg (fun z => h2 z.2)]
        exact ih
    · rw [if_neg h1, if_neg (fun z => h1 z.1)]
      exact ih
theorem c_51o {σ : pS} {S : Int} : ∀ (c fu : Nat), c ≤ 20 → c < fu → ∃ b : Int, f_Mach_mustWait_3_p51 fu 1 S ((c : Int) - 1) σ = some (b, σ) ∧ ((b = 1 ∧ ud σ c) ∨ (b = 0 ∧ ¬ ud σ c))
  | 0, fu, hc, hf => by
    obtain ⟨n, rfl⟩ : ∃ n, fu = n + 1 := ⟨fu - 1, by omega⟩
    refine ⟨0, ?_, Or.inr ⟨rfl, ?_⟩⟩
    · show (if ((0 : Nat) : Int) - 1 < 0 then _ else _) = _
      rw [if_pos (by omega)]
    · rintro ⟨k, h, -⟩
      omega
  | c + 1, fu, hc, hf => by
    obtain ⟨n, rfl⟩ : ∃ n, fu = n + 1 := ⟨fu - 1, by omega⟩
    have e : ((c + 1 : Nat) : Int) - 1 = (c : Int) := by omega
    have g : (0 : Int) ≤ (c : Int) ∧ (c : Int) < 20 := by omega
    obtain ⟨b, q1, q2⟩ := c_51o (σ := σ) (S := S) c n (by omega) (by omega)
    have nx : ¬ (σ 5 c = 3 ∧ σ 39 c ≠ 2) → ((b = 1 ∧ ud σ (c + 1)) ∨ (b = 0 ∧ ¬ ud σ (c + 1))) := fun hn => by
      rcases q2 with ⟨b1, k, k1, k2⟩ | ⟨b1, b2⟩
      · exact Or.inl ⟨b1, k, by omega, k2⟩
      · refine Or.inr ⟨b1, ?_⟩
        rintro ⟨k, k1, k2⟩
        by_cases hk : k = c
        · rw [hk] at k2
          exact hn k2
        · exact b2 ⟨k, by omega, k2⟩
    rw [e]
    show ∃ b : Int, (if (c : Int) < 0 then _ else _) = _ ∧ _
    rw [if_neg (by omega)]
    unfold f_Mach_mustWait_3_p90
    simp only [if_pos g, Int.toNat_natCast, pw_p (show c < 20 by omega) (show 20 ≤ 100000 by decide), if_neg (show ¬ ((1 : Int) = 0) by decide)]
    by_cases h1 : σ 5 c = 3
    · rw [if_pos h1]
      by_cases h3 : σ 39 c = 2
      · rw [if_pos h3]
        exact ⟨b, q1, nx (fun z => z.2 h3)⟩
      · rw [if_neg h3]
        exact ⟨1, rfl, Or.inl ⟨rfl, c, by omega, h1, h3⟩⟩
    · rw [if_neg h1]
      exact ⟨b, q1, nx (fun z => h1 z.1)⟩
section KW
variable {m : Nat} {rec : Nat → O8} {D : Nat → Prop} {σ τ : pS}
theorem m_47 (H : RN m rec D σ τ) {i : Nat} (hi : i < m) : ∀ (c fu : Nat), c ≤ m → c < fu → f_M_isKeptBack_84_p47 fu (i : Int) ((c : Int) - 1) τ = some (lk σ (σ 31 i) c, τ)
  | 0, fu, hc, hf => by
    obtain ⟨n, rfl⟩ : ∃ n, fu = n + 1 := ⟨fu - 1, by omega⟩
    show (if ((0 : Nat) : Int) - 1 < 0 then _ else _) = _
    rw [if_pos (by omega)]
    rfl
  | c + 1, fu, hc, hf => by
    obtain ⟨n, rfl⟩ : ∃ n, fu = n + 1 := ⟨fu - 1, by omega⟩
    have hm := H.g.le
    have e : ((c + 1 : Nat) : Int) - 1 = (c : Int) := by omega
    have g : (0 : Int) ≤ (c : Int) ∧ (c : Int) < 20 := by omega
    have gi : (0 : Int) ≤ (i : Int) ∧ (i : Int) < 20 := by omega
    have ih := m_47 H hi c n (by omega) (by omega)
    have k1 := (H.g.kd (show c < m by omega)).1
    have k2 := (H.r.se c (by omega)).1
    have k3 := (H.r.se i hi).1
    have k4 := (H.r.st c (by omega)).1
    rw [e]
    show (if (c : Int) < 0 then _ else _) = _
    rw [if_neg (by omega)]
    simp only [if_pos g, if_pos gi, Int.toNat_natCast, pw_p (show c < 20 by omega) (show 20 ≤ 100000 by decide), k1, ← k2, ← k3, ← k4]
    unfold lk
    by_cases h1 : σ 5 c = 3
    · rw [if_pos h1]
      by_cases h2 : σ 31 c = σ 31 i
      · rw [if_pos h2, if_pos (show σ 5 c = 3 ∧ σ 31 c = σ 31 i from ⟨h1, h2⟩)]
        by_cases h3 : σ 39 c = 2
        · rw [if_pos h3, if_pos h3]
        · rw [if_neg h3, if_neg h3]
      · rw [if_neg h2, if_neg (fun z => h2 z.2)]
        exact ih
    · rw [if_neg h1, if_neg (fun z => h1 z.1)]
      exact ih
theorem m_std (H : RN m rec D σ τ) {i : Nat} (hi : i ≤ m) : ∀ (d k fu : Nat), k + d = i → d < fu → ∃ b : Int, f_M_areStoresDone_84_p2 fu (i : Int) (k : Int) τ = some (b, τ) ∧ ((b = 0 ∧ ∃ x, k ≤ x ∧ x < i ∧ σ 5 x = 3 ∧ σ 39 x ≠ 2) ∨ (b = 1 ∧ ¬ ∃ x, k ≤ x ∧ x < i ∧ σ 5 x = 3 ∧ σ 39 x ≠ 2))
  | 0, k, fu, hk, hf => by
    obtain ⟨n, rfl⟩ : ∃ n, fu = n + 1 := ⟨fu - 1, by omega⟩
    refine ⟨1, ?_, Or.inr ⟨rfl, ?_⟩⟩
    · show (if (i : Int) ≤ (k : Int) then _ else _) = _
      rw [if_pos (by omega)]
    · rintro ⟨x, h1, h2, -⟩
      omega
  | d + 1, k, fu, hk, hf => by
    obtain ⟨n, rfl⟩ : ∃ n, fu = n + 1 := ⟨fu - 1, by omega⟩
    have hm := H.g.le
    have g : (0 : Int) ≤ (k : Int) ∧ (k : Int) < 20 := by omega
    obtain ⟨b, q1, q2⟩ := m_std H hi d (k + 1) n (by omega) (by omega)
    have k1 := (H.g.kd (show k < m by omega)).1
    have k4 := (H.r.st k (by omega)).1
    have nx : ¬ (σ 5 k = 3 ∧ σ 39 k ≠ 2) → ((b = 0 ∧ ∃ x, k ≤ x ∧ x < i ∧ σ 5 x = 3 ∧ σ 39 x ≠ 2) ∨ (b = 1 ∧ ¬ ∃ x, k ≤ x ∧ x < i ∧ σ 5 x = 3 ∧ σ 39 x ≠ 2)) := fun hn => by
      rcases q2 with ⟨b1, x, x1, x2⟩ | ⟨b1, b2⟩
      · exact Or.inl ⟨b1, x, by omega, x2⟩
      · refine Or.inr ⟨b1, ?_⟩
        rintro ⟨x, x1, x2, x3⟩
        by_cases hx : x = k
        · rw [hx] at x3
          exact hn x3
        · exact b2 ⟨x, by omega, x2, x3⟩
    show ∃ b : Int, (if (i : Int) ≤ (k : Int) then _ else _) = _ ∧ _
    rw [if_neg (by omega)]
    simp only [if_pos g, Int.toNat_natCast, pw_s (show k < 20 by omega) (show 20 ≤ 100000 by decide), k1, ← k4]
    by_cases h1 : σ 5 k = 3
    · rw [if_pos h1]
      by_cases h3 : σ 39 k = 2
      · rw [if_pos h3]
        exact ⟨b, q1, nx (fun z => z.2 h3)⟩
      · rw [if_neg h3]
        exact ⟨0, rfl, Or.inl ⟨rfl, k, Nat.le_refl _, by omega, h1, h3⟩⟩
    · rw [if_neg h1]
      exact ⟨b, q1, nx (fun z => h1 z.1)⟩
/-- must it wait: the same in both -/
theorem kw_ls (H : RN m rec D σ τ) {i : Nat} (hi : i < m) {lw : Int} (hl : lw = 0 ∨ lw = 1) (h70 : τ 84 70 = lw) : ∃ b, f_Mach_mustWait_3 (i : Int) lw σ = some (b, σ) ∧ f_M_isKeptBack_84 (i : Int) τ = some (b, τ) := by
  have hm := H.g.le
  have g : (0 : Int) ≤ (i : Int) ∧ (i : Int) < 20 := by omega
  have k1 := (H.g.kd hi).1
  have k3 := (H.r.se i hi).1
  have ep : pw ((i : Int) - 1) = (i : Int) - 1 := pw_id (by omega) (by omega)
  have eX : f_Mach_mustWait_3_p21 (i : Int) σ = some (if σ 31 i = -1 then 0 else lk σ (σ 31 i) i, σ) := by
    unfold f_Mach_mustWait_3_p21 f_Mach_mustWait_3_p22
    simp only [if_pos g, Int.toNat_natCast, ep]
    rw [if_pos trivial]
    by_cases z : σ 31 i = -1
    · rw [if_pos z, if_pos z]
    · rw [if_neg z, if_neg z]
      exact c_51z i 4096 (by omega) (by omega)
  have eM : f_M_isKeptBack_84_p31 (i : Int) τ = some (if σ 31 i = -1 then 0 else lk σ (σ 31 i) i, τ) := by
    unfold f_M_isKeptBack_84_p31
    rw [if_pos g, Int.toNat_natCast, ep]
    by_cases z : σ 31 i = -1
    · rw [if_pos (by rw [← k3]; exact z), if_pos z]
    · rw [if_neg (by rw [← k3]; exact z), if_neg z]
      exact m_47 H hi i 4096 (by omega) (by omega)
  unfold f_Mach_mustWait_3 f_M_isKeptBack_84
  rw [h70]
  by_cases z : lw = 0
  · rw [if_pos z, if_pos z, eX, eM]
    exact ⟨_, rfl, rfl⟩
  · rw [if_neg z, if_neg z, if_pos g, if_pos g, Int.toNat_natCast, k1]
    by_cases z2 : σ 5 i = 2
    · rw [if_pos z2, if_pos z2]
      obtain ⟨b, q1, q2⟩ := c_51o (σ := σ) (S := σ 31 i) i 4096 (by omega) (by omega)
      obtain ⟨b', r1, r2⟩ := m_std H (Nat.le_of_lt hi) i 0 4096 (by omega) (by omega)
      have e22 : f_Mach_mustWait_3_p22 (i : Int) 1 σ = some (b, σ) := by
        unfold f_Mach_mustWait_3_p22
        rw [if_pos g, if_neg (by decide), Int.toNat_natCast, ep]
        exact q1
      have eS : f_M_areStoresDone_84 (i : Int) τ = some (b', τ) := r1
      rw [e22, eS, Option.bind_some]
      dsimp only
      refine ⟨b, rfl, ?_⟩
      rcases q2 with ⟨b1, x, x1, x2⟩ | ⟨b1, b2⟩
      · rcases r2 with ⟨c1, -⟩ | ⟨c1, c2⟩
        · rw [if_pos c1, b1]
        · exact absurd ⟨x, by omega, x1, x2⟩ c2
      · rcases r2 with ⟨c1, x, x1, x2, x3⟩ | ⟨c1, c2⟩
        · exact absurd ⟨x, x2, x3⟩ b2
        · rw [if_neg (by omega), b1]
    · rw [if_neg z2, if_neg z2, eX, eM]
      exact ⟨_, rfl, rfl⟩
end KW
