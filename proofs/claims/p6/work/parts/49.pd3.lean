def dk (D : Nat → Int) (k : Nat) (s : Int) : Int := if 0 ≤ s ∧ s < (k : Int) then D s.toNat else 0
section DP
variable {σ τ : pS} {m : Nat} {rec : Nat → O8}
def hX (σ : pS) (i r : Nat) (k : Int) : Prop := ∃ x : Nat, r ≤ x ∧ x < 8 ∧ (σ 9 i = (x : Int) ∨ σ 10 i = (x : Int)) ∧ gv (σ 8) i (x : Int) = k
theorem m_has0 (hm : m ≤ 20) (h : ∀ j, j < m → CRp σ j (rec j) ∧ MRp τ j (rec j) ∧ VR (rec j)) {i : Nat} (hi : i < m) {k : Int} : ∀ (d r fu : Nat), r + d = 8 → d < fu → ∃ b : Int, f_M_hasSource_84_p2 fu (i : Int) k (r : Int) τ = some (b, τ) ∧ ((b = 1 ∧ hX σ i r k) ∨ (b = 0 ∧ ¬ hX σ i r k))
  | 0, r, fu, hr, hf => by
    obtain ⟨n, rfl⟩ : ∃ n, fu = n + 1 := ⟨fu - 1, by omega⟩
    show ∃ b : Int, (if (8 : Int) ≤ (r : Int) then _ else _) = _ ∧ _
    rw [if_pos (by omega)]
    refine ⟨0, rfl, Or.inr ⟨rfl, ?_⟩⟩
    rintro ⟨x, x1, x2, -⟩
    omega
  | d + 1, r, fu, hr, hf => by
    obtain ⟨n, rfl⟩ : ∃ n, fu = n + 1 := ⟨fu - 1, by omega⟩
    show ∃ b : Int, (if (8 : Int) ≤ (r : Int) then _ else _) = _ ∧ _
    rw [if_neg (by omega), m_reads hm h hi (by omega), Option.bind_some]
    obtain ⟨b, ih, hb⟩ := m_has0 hm h hi (k := k) d (r + 1) n (by omega) (by omega)
    have e : pw ((r : Int) + 1) = ((r + 1 : Nat) : Int) := by rw [pw_id (by omega) (by omega)]; omega
    have up : ¬ ((σ 9 i = (r : Int) ∨ σ 10 i = (r : Int)) ∧ gv (σ 8) i (r : Int) = k) → ((b = 1 ∧ hX σ i r k) ∨ (b = 0 ∧ ¬ hX σ i r k)) := fun hno => by
      rcases hb with ⟨b1, x, x1, x2⟩ | ⟨b1, b2⟩
      · exact Or.inl ⟨b1, x, by omega, x2⟩
      · refine Or.inr ⟨b1, ?_⟩
        rintro ⟨x, x1, x2, x3⟩
        by_cases hx : x = r
        · rw [hx] at x3
          exact hno x3
        · exact b2 ⟨x, by omega, x2, x3⟩
    by_cases h1 : σ 9 i = (r : Int) ∨ σ 10 i = (r : Int)
    · simp only [if_pos h1]
      rw [if_neg (by omega), m_giv hm h (show (0 : Int) ≤ (r : Int) by omega) (Nat.le_of_lt hi), Option.bind_some]
      by_cases h2 : gv (σ 8) i (r : Int) = k
      · simp only [if_pos h2]
        exact ⟨1, rfl, Or.inl ⟨rfl, r, Nat.le_refl _, by omega, h1, h2⟩⟩
      · simp only [if_neg h2]
        rw [e, ih]
        exact ⟨b, rfl, up (fun q => h2 q.2)⟩
    · simp only [if_neg h1]
      rw [if_pos trivial, e, ih]
      exact ⟨b, rfl, up (fun q => h1 q.1)⟩
theorem m_has (hm : m ≤ 20) (h : ∀ j, j < m → CRp σ j (rec j) ∧ MRp τ j (rec j) ∧ VR (rec j)) {i : Nat} (hi : i < m) {k : Nat} : f_M_hasSource_84 (i : Int) (k : Int) τ = some (if src (σ 8) i (σ 9 i) = (k : Int) ∨ src (σ 8) i (σ 10 i) = (k : Int) then 1 else 0, τ) := by
  obtain ⟨b, e, hb⟩ := m_has0 hm h hi (k := (k : Int)) 8 0 4096 (by omega) (by omega)
  refine (show f_M_hasSource_84 (i : Int) (k : Int) τ = _ from e).trans ?_
  have hh : hX σ i 0 (k : Int) ↔ (src (σ 8) i (σ 9 i) = (k : Int) ∨ src (σ 8) i (σ 10 i) = (k : Int)) := by
    unfold src
    constructor
    · rintro ⟨x, -, x2, x3 | x3, x4⟩
      · left
        rw [x3, if_pos (by omega)]
        exact x4
      · right
        rw [x3, if_pos (by omega)]
        exact x4
    · rintro (q | q)
      · by_cases hr : 0 ≤ σ 9 i ∧ σ 9 i < 8
        · rw [if_pos hr] at q
          exact ⟨(σ 9 i).toNat, by omega, by omega, Or.inl (by omega), by rw [show (((σ 9 i).toNat : Nat) : Int) = σ 9 i by omega]; exact q⟩
        · rw [if_neg hr] at q
          omega
      · by_cases hr : 0 ≤ σ 10 i ∧ σ 10 i < 8
        · rw [if_pos hr] at q
          exact ⟨(σ 10 i).toNat, by omega, by omega, Or.inr (by omega), by rw [show (((σ 10 i).toNat : Nat) : Int) = σ 10 i by omega]; exact q⟩
        · rw [if_neg hr] at q
          omega
  rcases hb with ⟨b1, b2⟩ | ⟨b1, b2⟩
  · rw [b1, if_pos (hh.mp b2)]
  · rw [b1, if_neg (fun q => b2 (hh.mpr q))]
theorem MRp.o {τ τ' : pS} {j : Nat} {r : O8} (h : MRp τ j r) (e : ∀ k x, k ≠ 143 → τ' k x = τ k x) : MRp τ' j r := by
  unfold MRp at *
  rw [e 88 _ (by decide), e 89 _ (by decide), e 90 _ (by decide), e 91 _ (by decide), e 92 _ (by decide), e 93 _ (by decide), e 94 _ (by decide), e 95 _ (by decide)]
  exact h
theorem m_mx {a b : Int} {τ : pS} : f_M_max a b τ = some (pMax a b, τ) := by
  unfold f_M_max pMax
  by_cases h : a ≤ b
  · rw [if_pos h]
    by_cases h2 : a < b
    · rw [if_pos h2]
    · rw [if_neg h2, show b = a by omega]
  · rw [if_neg h, if_neg (by omega)]
theorem m_d21 {D : Nat → Int} (hm : m ≤ 20) (K : Int → Int → pS → Option (Int × pS)) (hD : ∀ j, j < m → 1 ≤ D j ∧ D j ≤ (j : Int) + 1) {i : Nat} (hi : i < m) (mo : Int) : ∀ (d k fu : Nat) (τ : pS), k + d = i → d < fu → (∀ j, j < m → CRp σ j (rec j) ∧ MRp τ j (rec j) ∧ VR (rec j)) → (∀ j, j < i → τ 143 j = D j) → τ 143 i = 1 + pMax (dk D k (src (σ 8) i (σ 9 i))) (dk D k (src (σ 8) i (σ 10 i))) →
    ∃ τ', f_M_deep_84_p21 K fu mo (i : Int) (k : Int) τ = K (pMax mo (1 + pMax (dz D (src (σ 8) i (σ 9 i))) (dz D (src (σ 8) i (σ 10 i))))) ((i : Int) + 1) τ' ∧ (∀ k x, k ≠ 143 → τ' k x = τ k x) ∧ (∀ j, j < i → τ' 143 j = D j) ∧ τ' 143 i = 1 + pMax (dz D (src (σ 8) i (σ 9 i))) (dz D (src (σ 8) i (σ 10 i)))
  | 0, k, fu, τ, hk, hf, h, hd, hc => by
    obtain ⟨n, rfl⟩ : ∃ n, fu = n + 1 := ⟨fu - 1, by omega⟩
    obtain rfl : k = i := by omega
    have g : (0 : Int) ≤ (k : Int) ∧ (k : Int) < 20 := by omega
    have s1 := src_r (σ 8) k (σ 9 k)
    have s2 := src_r (σ 8) k (σ 10 k)
    have ez : ∀ s : Int, -1 ≤ s → s < (k : Int) → dk D k s = dz D s := fun s q1 q2 => by
      unfold dk dz
      by_cases q : s < 0
      · rw [if_pos q, if_neg (by omega)]
      · rw [if_neg q, if_pos (by omega)]
    rw [ez _ s1.1 s1.2, ez _ s2.1 s2.2] at hc
    refine ⟨τ, ?_, fun _ _ _ => rfl, hd, hc⟩
    show (if (k : Int) ≤ (k : Int) then _ else _) = _
    rw [if_pos (by omega), if_pos g, m_mx, Option.bind_some, Int.toNat_natCast, hc, pw_id (by omega) (by omega)]
  | d + 1, k, fu, τ, hk, hf, h, hd, hc => by
    obtain ⟨n, rfl⟩ : ∃ n, fu = n + 1 := ⟨fu - 1, by omega⟩
    have g : (0 : Int) ≤ (i : Int) ∧ (i : Int) < 20 := by omega
    have g2 : (0 : Int) ≤ (k : Int) ∧ (k : Int) < 20 := by omega
    have s1 := src_r (σ 8) i (σ 9 i)
    have s2 := src_r (σ 8) i (σ 10 i)
    have e : pw ((k : Int) + 1) = ((k + 1 : Nat) : Int) := by rw [pw_id (by omega) (by omega)]; omega
    have dk1 := hD k (by omega)
    have dn : ∀ s : Int, s ≠ (k : Int) → dk D (k + 1) s = dk D k s := fun s q => by
      unfold dk
      by_cases q2 : 0 ≤ s ∧ s < (k : Int)
      · rw [if_pos q2, if_pos (by omega)]
      · rw [if_neg q2, if_neg (by omega)]
    have dp : dk D (k + 1) (k : Int) = D k := by
      unfold dk
      rw [if_pos (by omega), Int.toNat_natCast]
    have d0 : dk D k (k : Int) = 0 := by
      unfold dk
      rw [if_neg (by omega)]
    show ∃ τ', (if (i : Int) ≤ (k : Int) then _ else _) = _ ∧ _
    rw [if_neg (by omega), m_has hm h hi, Option.bind_some]
    by_cases hs : src (σ 8) i (σ 9 i) = (k : Int) ∨ src (σ 8) i (σ 10 i) = (k : Int)
    · simp only [if_pos hs, if_pos g, if_pos g2, m_mx, Option.bind_some, Int.toNat_natCast]
      rw [if_neg (by omega), hd k (by omega), pw_id (z := D k + 1) (by omega) (by omega), e]
      have hv : pMax (τ 143 i) (D k + 1) = 1 + pMax (dk D (k + 1) (src (σ 8) i (σ 9 i))) (dk D (k + 1) (src (σ 8) i (σ 10 i))) := by
        rw [hc]
        by_cases a1 : src (σ 8) i (σ 9 i) = (k : Int)
        · by_cases a2 : src (σ 8) i (σ 10 i) = (k : Int)
          · rw [a1, a2, dp, d0]
            unfold pMax
            (repeat' split) <;> omega
          · rw [a1, dp, d0, dn _ a2]
            unfold pMax
            (repeat' split) <;> omega
        · have a2 : src (σ 8) i (σ 10 i) = (k : Int) := by omega
          rw [a2, dp, d0, dn _ a1]
          unfold pMax
          (repeat' split) <;> omega
      obtain ⟨τ', q1, q2, q3, q4⟩ := m_d21 hm K hD hi mo d (k + 1) n (pU τ 143 i (pMax (τ 143 i) (D k + 1))) (by omega) (by omega) (fun j hj => ⟨(h j hj).1, (h j hj).2.1.o (fun a x ha => pU_c _ _ _ _ ha), (h j hj).2.2⟩) (fun j hj => by rw [pU_i _ _ _ _ (by omega)]; exact hd j hj) (by rw [pU_s]; exact hv)
      exact ⟨τ', q1, fun a x ha => (q2 a x ha).trans (pU_c _ _ _ _ ha), q3, q4⟩
    · simp only [if_neg hs]
      rw [if_pos trivial, e]
      exact m_d21 hm K hD hi mo d (k + 1) n τ (by omega) (by omega) h hd (by rw [hc, dn _ (by omega), dn _ (by omega)])
end DP
theorem m_d4 {σ : pS} {m : Nat} {rec : Nat → O8} {D : Nat → Int} {dp : Int} (hm : m ≤ 20) (hp : DPT (σ 8) (σ 9) (σ 10) D m dp) : ∀ (d i fu : Nat) (mo : Int) (τ : pS), i + d = m → d < fu → τ 84 2 = (m : Int) → (∀ j, j < m → CRp σ j (rec j) ∧ MRp τ j (rec j) ∧ VR (rec j)) → (∀ j, j < i → τ 143 j = D j) → (0 ≤ mo ∧ (∀ j, j < i → D j ≤ mo) ∧ (i = 0 → mo = 0) ∧ (0 < i → ∃ j, j < i ∧ mo = D j)) → ∃ τ', f_M_deep_84_p4 fu mo (i : Int) τ = some (dp, τ')
  | 0, i, fu, mo, τ, hi, hf, h2, h, hd, ho => by
    obtain ⟨n, rfl⟩ : ∃ n, fu = n + 1 := ⟨fu - 1, by omega⟩
    obtain rfl : i = m := by omega
    obtain ⟨-, p1, p2, p3, p4⟩ := hp
    obtain ⟨o1, o2, o3, o4⟩ := ho
    refine ⟨τ, ?_⟩
    show (if τ 84 2 ≤ (i : Int) then _ else _) = _
    rw [if_pos (by omega)]
    have : mo = dp := by
      by_cases hz : i = 0
      · rw [o3 hz, p3 hz]
      · obtain ⟨j, j1, j2⟩ := o4 (by omega)
        obtain ⟨k, k1, k2⟩ := p4 (by omega)
        have := p2 j j1
        have := o2 k k1
        omega
    rw [this]
  | d + 1, i, fu, mo, τ, hi, hf, h2, h, hd, ho => by
    obtain ⟨n, rfl⟩ : ∃ n, fu = n + 1 := ⟨fu - 1, by omega⟩
    have g : (0 : Int) ≤ (i : Int) ∧ (i : Int) < 20 := by omega
    obtain ⟨o1, o2, o3, o4⟩ := ho
    have hD : ∀ j, j < m → 1 ≤ D j ∧ D j ≤ (j : Int) + 1 := fun j hj => (hp.1 j hj).1
    have hDi := (hp.1 i (by omega)).2
    show ∃ τ', (if τ 84 2 ≤ (i : Int) then _ else _) = _
    rw [if_neg (by omega), if_pos g, Int.toNat_natCast]
    obtain ⟨τ', q1, q2, q3, q4⟩ := m_d21 (σ := σ) (rec := rec) (D := D) hm (f_M_deep_84_p4 n) hD (show i < m by omega) mo i 0 4096 (pU τ 143 i 1) (by omega) (by omega) (fun j hj => ⟨(h j hj).1, (h j hj).2.1.o (fun a x ha => pU_c _ _ _ _ ha), (h j hj).2.2⟩) (fun j hj => by rw [pU_i _ _ _ _ (by omega)]; exact hd j hj) (by
      rw [pU_s]
      unfold dk
      rw [if_neg (by omega), if_neg (by omega)]
      rfl)
    have e0 : ((0 : Nat) : Int) = 0 := rfl
    rw [e0] at q1
    rw [q1, ← hDi, show (i : Int) + 1 = ((i + 1 : Nat) : Int) by omega]
    rw [← hDi] at q4
    have hDr := hD i (by omega)
    refine m_d4 hm hp d (i + 1) n (pMax mo (D i)) τ' (by omega) (by omega) ((q2 84 2 (by decide)).trans ((pU_c _ _ _ _ (by decide)).trans h2)) (fun j hj => ⟨(h j hj).1, (h j hj).2.1.o (fun a x ha => (q2 a x ha).trans (pU_c _ _ _ _ ha)), (h j hj).2.2⟩) (fun j hj => ?_) ⟨?_, fun j hj => ?_, fun hz => by omega, fun _ => ?_⟩
    · by_cases hji : j = i
      · rw [hji]
        exact q4
      · exact q3 j (by omega)
    · unfold pMax
      split <;> omega
    · by_cases hji : j = i
      · rw [hji]
        unfold pMax
        split <;> omega
      · have := o2 j (by omega)
        unfold pMax
        split <;> omega
    · unfold pMax
      by_cases hlt : mo < D i
      · rw [if_pos hlt]
        exact ⟨i, by omega, rfl⟩
      · rw [if_neg hlt]
        by_cases hz : i = 0
        · have := o3 hz
          omega
        · obtain ⟨j, j1, j2⟩ := o4 (by omega)
          exact ⟨j, by omega, j2⟩
/-- deep: equal answers -/
theorem deep_ls {σ τ : pS} (hP : PRG σ τ) : ∃ v τ', f_X_deep_0 σ = some (v, σ) ∧ f_M_deep_84 τ = some (v, τ') := by
  obtain ⟨m, rec, D, hm, h1, h2, h3, -, h5⟩ := hP
  obtain ⟨τ', q⟩ := m_d4 (rec := rec) hm h5 m 0 4096 0 τ (by omega) (by omega) h2 h3 (fun j hj => absurd hj (Nat.not_lt_zero _)) ⟨by omega, fun j hj => absurd hj (Nat.not_lt_zero _), fun _ => rfl, fun hz => absurd hz (Nat.lt_irrefl _)⟩
  exact ⟨_, τ', rfl, q⟩
