/-- the reference marks one as waiting -/
def mm1 (j : Nat) (τ : pS) : pS := pU (pU (pU τ 118 j 0) 123 j (pw (τ 123 j + 1))) 84 65 (pw (τ 84 65 + 1))
def mMk (j : Nat) (τ : pS) : Option pS := if τ 88 j = 3 then (if τ 126 j = 0 then some (mm1 j τ) else (f_M_undoesTo_84 (j : Int) (mm1 j τ)).map (fun q => q.2)) else some (mm1 j τ)
def P_mw (k x : Nat) : Prop := P_un k x ∨ k = 39 ∨ k = 35 ∨ (k = 33 ∧ x = 2)
def Q_mw (k x : Nat) : Prop := Q_un k x ∨ k = 118 ∨ k = 123 ∨ (k = 84 ∧ x = 65)
theorem P_mw_N (k x : Nat) (h : P_mw k x) : PN k x := by unfold P_mw P_un at h; unfold PN; omega
theorem Q_mw_N (k x : Nat) (h : Q_mw k x) : QN k x := by unfold Q_mw Q_un at h; unfold QN; omega
/-- one that is retired is done -/
def T2 (m : Nat) (σ : pS) : Prop := ∀ j, j < m → σ 41 j = 1 → σ 39 j = 2
theorem mw_ls {m : Nat} {rec : Nat → O8} {D : Nat → Prop} {j : Nat} {σ τ : pS} (hG : PG m rec σ τ) (h : RM m D σ τ) (hT : T2 m σ) (hj : j < m) : ∃ σ' τ', f_Mach_makeWait_3 (j : Int) σ = some (0, σ') ∧ mMk j τ = some τ' ∧ RM m D σ' τ' ∧ T2 m σ' ∧ FR P_mw σ σ' ∧ FR Q_mw τ τ' ∧ (∀ k, σ' 39 k = if k = j then 0 else σ 39 k) ∧ (∀ k, τ' 118 k = if k = j then 0 else τ 118 k) := by
  have hm := hG.le
  have g : (0 : Int) ≤ (j : Int) ∧ (j : Int) < 20 := by omega
  have hk := hG.kd hj
  have hr := h.rt j hj
  generalize hσ1 : pU (pU (pU σ 39 j 0) 35 j (pw (σ 35 j + 1))) 33 2 (pw (σ 33 2 + 1)) = σ1
  have eX : f_Mach_makeWait_3 (j : Int) σ = (if σ 41 j = 0 then some (0, σ1) else (f_Mach_undoDownTo_3 (j : Int) σ1).bind fun q6 => some (0, q6.2)) := by
    unfold f_Mach_makeWait_3
    rw [if_pos g, if_pos g, if_pos g, if_pos g, Int.toNat_natCast, hσ1]
  have a0 : FR P_mw σ (pU σ 39 j 0) := FR.u (Or.inr (Or.inl rfl))
  have a1 : FR P_mw (pU σ 39 j 0) (pU (pU σ 39 j 0) 35 j (pw (σ 35 j + 1))) := FR.u (Or.inr (Or.inr (Or.inl rfl)))
  have a2 : FR P_mw (pU (pU σ 39 j 0) 35 j (pw (σ 35 j + 1))) σ1 := by rw [← hσ1]; exact FR.u (Or.inr (Or.inr (Or.inr ⟨rfl, rfl⟩)))
  have b0 : FR Q_mw τ (pU τ 118 j 0) := FR.u (Or.inr (Or.inl rfl))
  have b1 : FR Q_mw (pU τ 118 j 0) (pU (pU τ 118 j 0) 123 j (pw (τ 123 j + 1))) := FR.u (Or.inr (Or.inr (Or.inl rfl)))
  have b2 : FR Q_mw (pU (pU τ 118 j 0) 123 j (pw (τ 123 j + 1))) (mm1 j τ) := FR.u (Or.inr (Or.inr (Or.inr ⟨rfl, rfl⟩)))
  have f1 : FR P_mw σ σ1 := (a0.tr a1).tr a2
  have f2 : FR Q_mw τ (mm1 j τ) := (b0.tr b1).tr b2
  have h0 := h.sst0 (σ' := pU σ 39 j 0) (τ' := pU τ 118 j 0) (FR.u rfl) (FR.u rfl) (fun k hk => by
    by_cases hkj : k = j
    · rw [hkj, pU_s, pU_s]
      exact ⟨rfl, Or.inl rfl⟩
    · rw [pU_i _ _ _ _ hkj, pU_i _ _ _ _ hkj]
      exact ⟨(h.st k hk).1, Or.inr rfl⟩)
  have h1 := h0.srp (σ' := pU (pU σ 39 j 0) 35 j (pw (σ 35 j + 1))) (τ' := pU (pU τ 118 j 0) 123 j (pw (τ 123 j + 1))) (FR.u rfl) (FR.u rfl) (fun k hk => by
    by_cases hkj : k = j
    · rw [hkj, pU_s, pU_s, h.rp j hj]
    · rw [pU_i (pU σ 39 j 0) 35 _ 35 hkj, pU_i (pU τ 118 j 0) 123 _ 123 hkj]
      exact h0.rp k hk)
  have h2 : RM m D σ1 (mm1 j τ) := by
    rw [← hσ1]
    exact h1.scr (FR.u ⟨rfl, rfl⟩) (FR.u ⟨rfl, rfl⟩) (by unfold mm1; rw [pU_s, pU_s, h.cr])
  have s39 : ∀ k, σ1 39 k = if k = j then 0 else σ 39 k := fun k => by
    rw [← hσ1, pU_c _ _ _ _ (by decide), pU_c _ _ _ _ (by decide)]
    by_cases hkj : k = j
    · rw [hkj, pU_s, if_pos rfl]
    · rw [pU_i _ _ _ _ hkj, if_neg hkj]
  have s118 : ∀ k, mm1 j τ 118 k = if k = j then 0 else τ 118 k := fun k => by
    unfold mm1
    rw [pU_c _ _ _ _ (by decide), pU_c _ _ _ _ (by decide)]
    by_cases hkj : k = j
    · rw [hkj, pU_s, if_pos rfl]
    · rw [pU_i _ _ _ _ hkj, if_neg hkj]
  have s41 : ∀ k, σ1 41 k = σ 41 k := fun k => by rw [← hσ1, pU_c _ _ _ _ (by decide), pU_c _ _ _ _ (by decide), pU_c _ _ _ _ (by decide)]
  rw [eX]
  unfold mMk
  by_cases hz : σ 41 j = 0
  · rw [if_pos hz, ← hr.1, if_pos hz]
    refine ⟨σ1, mm1 j τ, rfl, by split <;> rfl, h2, fun k hk q => ?_, f1, f2, s39, s118⟩
    rw [s41] at q
    have hkj : k ≠ j := fun e => by rw [e, hz] at q; exact absurd q (by decide)
    rw [s39, if_neg hkj]
    exact hT k hk q
  · have hre := h.re j hj (by omega)
    have hG2 := hG.fr (f1.mono P_mw_N) (f2.mono Q_mw_N)
    obtain ⟨σ', τ', q1, q2, q3, q4, q5, q6⟩ := un_ls (i := j) hG2 h2
    rw [if_neg hz, q1, Option.bind_some, if_pos (by omega), ← hr.1, if_neg hz, q2]
    refine ⟨σ', τ', rfl, rfl, q3, fun k hk q => ?_, f1.tr (q4.mono (fun k x hh => Or.inl hh)), f2.tr (q5.mono (fun k x hh => Or.inl hh)), fun k => (q4.get (by unfold P_un; omega)).trans (s39 k), fun k => (q5.get (by unfold Q_un; omega)).trans (s118 k)⟩
    rw [q6 k] at q
    by_cases hjk : j ≤ k ∧ k < m
    · rw [if_pos hjk] at q
      omega
    · rw [if_neg hjk, s41] at q
      rw [q4.get (by unfold P_un; omega), s39, if_neg (by omega)]
      exact hT k hk q
/-- the list of the reference laid over a store -/
def ov (τ : pS) (L : Nat → Int) (n : Int) : pS := fun k x => if k = 131 then L x else if k = 84 ∧ x = 72 then n else τ k x
theorem ov_pU (τ : pS) (L : Nat → Int) (n : Int) {j i : Nat} (v : Int) (h1 : j ≠ 131) (h2 : ¬ (j = 84 ∧ i = 72)) : pU (ov τ L n) j i v = ov (pU τ j i v) L n := by
  funext k x
  show (if k = j ∧ x = i then v else (if k = 131 then L x else if k = 84 ∧ x = 72 then n else τ k x)) = (if k = 131 then L x else if k = 84 ∧ x = 72 then n else (if k = j ∧ x = i then v else τ k x))
  by_cases hk : k = j ∧ x = i
  · rw [if_pos hk, if_neg (by omega), if_neg (by omega), if_pos hk]
  · rw [if_neg hk]
    by_cases h3 : k = 131
    · rw [if_pos h3, if_pos h3]
    · rw [if_neg h3, if_neg h3]
      by_cases h4 : k = 84 ∧ x = 72
      · rw [if_pos h4, if_pos h4]
      · rw [if_neg h4, if_neg h4, if_neg hk]
theorem ov_g (τ : pS) (L : Nat → Int) (n : Int) {k x : Nat} (h1 : k ≠ 131) (h2 : ¬ (k = 84 ∧ x = 72)) : ov τ L n k x = τ k x := by
  unfold ov
  rw [if_neg h1, if_neg h2]
theorem un26_ov {L : Nat → Int} {n : Int} {K1 K2 : Int → Int → pS → Option (Int × pS)} (hK : ∀ a b τ, K2 a b (ov τ L n) = (K1 a b τ).map (fun q => (q.1, ov q.2 L n))) : ∀ (fu : Nat) (a b c : Int) (τ : pS), f_M_undoesTo_84_p26 K2 fu a b c (ov τ L n) = (f_M_undoesTo_84_p26 K1 fu a b c τ).map (fun q => (q.1, ov q.2 L n))
  | 0, a, b, c, τ => rfl
  | fu + 1, a, b, c, τ => by
    have e93 : ov τ L n 93 b.toNat = τ 93 b.toNat := ov_g _ _ _ (by decide) (by omega)
    have e132 : ov τ L n 132 b.toNat = τ 132 b.toNat := ov_g _ _ _ (by decide) (by omega)
    have e67 : ov τ L n 84 67 = τ 84 67 := ov_g _ _ _ (by decide) (by omega)
    show (if 0 ≤ b ∧ b < 20 then _ else _) = Option.map _ (if 0 ≤ b ∧ b < 20 then _ else _)
    by_cases g : 0 ≤ b ∧ b < 20
    · rw [if_pos g, if_pos g, e93]
      by_cases g2 : τ 93 b.toNat ≤ c
      · rw [if_pos g2, if_pos g2, if_pos g, if_pos g, e67, ov_pU _ _ _ _ (by decide) (by omega), ov_pU _ _ _ _ (by decide) (by omega)]
        exact hK _ _ _
      · simp only [if_neg g2, if_pos g, e132]
        by_cases g3 : 0 ≤ (pw ((pw (4 * b)) + c)) ∧ (pw ((pw (4 * b)) + c)) < 80
        · rw [if_pos g3, if_pos g3, if_pos (pAnd_63 _), if_pos (pAnd_63 _), ov_g _ _ _ (k := 125) (by decide) (by omega), ov_pU _ _ _ _ (by decide) (by omega)]
          exact un26_ov hK fu _ _ _ _
        · rw [if_neg g3, if_neg g3]
          rfl
    · rw [if_neg g, if_neg g]
      rfl
theorem un7_ov {L : Nat → Int} {n : Int} : ∀ (fu : Nat) (a b : Int) (τ : pS), f_M_undoesTo_84_p7 fu a b (ov τ L n) = (f_M_undoesTo_84_p7 fu a b τ).map (fun q => (q.1, ov q.2 L n))
  | 0, a, b, τ => rfl
  | fu + 1, a, b, τ => by
    show (if b < a then _ else _) = Option.map _ (if b < a then _ else _)
    by_cases g0 : b < a
    · rw [if_pos g0, if_pos g0]
      rfl
    · rw [if_neg g0, if_neg g0]
      by_cases g : 0 ≤ b ∧ b < 20
      · rw [if_pos g, if_pos g, ov_g _ _ _ (k := 126) (by decide) (by omega)]
        by_cases g2 : τ 126 b.toNat = 0
        · rw [if_pos g2, if_pos g2]
          exact un7_ov fu _ _ _
        · rw [if_neg g2, if_neg g2]
          exact un26_ov (un7_ov fu) _ _ _ _ _
      · rw [if_neg g, if_neg g]
        rfl
theorem mMk_ov (j : Nat) (τ : pS) (L : Nat → Int) (n : Int) : mMk j (ov τ L n) = (mMk j τ).map (fun t => ov t L n) := by
  have e1 : mm1 j (ov τ L n) = ov (mm1 j τ) L n := by
    unfold mm1
    rw [ov_g _ _ _ (k := 123) (by decide) (by omega), ov_g _ _ _ (k := 84) (x := 65) (by decide) (by omega), ov_pU _ _ _ _ (by decide) (by omega), ov_pU _ _ _ _ (by decide) (by omega), ov_pU _ _ _ _ (by decide) (by omega)]
  unfold mMk
  rw [e1, ov_g _ _ _ (k := 88) (by decide) (by omega), ov_g _ _ _ (k := 126) (by decide) (by omega)]
  by_cases h1 : τ 88 j = 3
  · rw [if_pos h1, if_pos h1]
    by_cases h2 : τ 126 j = 0
    · rw [if_pos h2, if_pos h2]
      rfl
    · rw [if_neg h2, if_neg h2]
      unfold f_M_undoesTo_84
      rw [ov_g _ _ _ (k := 84) (x := 2) (by decide) (by omega), un7_ov]
      cases f_M_undoesTo_84_p7 4096 (j : Int) (pw (mm1 j τ 84 2 - 1)) (mm1 j τ) <;> rfl
  · rw [if_neg h1, if_neg h1]
    rfl
/-- several marked, one behind the other -/
def mks : List Nat → pS → Option pS
  | [], τ => some τ
  | j :: Q, τ => (mMk j τ).bind (mks Q)
theorem mks_app : ∀ (A B : List Nat) (τ : pS), mks (A ++ B) τ = (mks A τ).bind (mks B)
  | [], B, τ => rfl
  | a :: A, B, τ => by
    show (mMk a τ).bind (mks (A ++ B)) = ((mMk a τ).bind (mks A)).bind (mks B)
    cases mMk a τ with
    | none => rfl
    | some t => exact mks_app A B t
theorem mks_ov (L : Nat → Int) (n : Int) : ∀ (Q : List Nat) (τ : pS), mks Q (ov τ L n) = (mks Q τ).map (fun t => ov t L n)
  | [], τ => rfl
  | j :: Q, τ => by
    show (mMk j (ov τ L n)).bind (mks Q) = ((mMk j τ).bind (mks Q)).map _
    rw [mMk_ov]
    cases mMk j τ with
    | none => rfl
    | some t => exact mks_ov L n Q t
