def P_un (k x : Nat) : Prop := k = 30 ∨ k = 41 ∨ (k = 33 ∧ x = 4)
def Q_un (k x : Nat) : Prop := k = 128 ∨ k = 126 ∨ (k = 84 ∧ x = 67)
theorem P_un_N (k x : Nat) (h : P_un k x) : PN k x := by unfold P_un at h; unfold PN; omega
theorem Q_un_N (k x : Nat) (h : Q_un k x) : QN k x := by unfold Q_un at h; unfold QN; omega
theorem un_lp {m : Nat} {rec : Nat → O8} {D : Nat → Prop} {i : Nat} : ∀ (c fu1 fu2 : Nat) (σ τ : pS), c ≤ m → c < fu1 → c < fu2 → PG m rec σ τ → RM m D σ τ → ∃ σ' τ', f_Mach_undoDownTo_3_p10 fu1 (i : Int) ((c : Int) - 1) σ = some (0, σ') ∧ f_M_undoesTo_84_p7 fu2 (i : Int) ((c : Int) - 1) τ = some (0, τ') ∧ RM m D σ' τ' ∧ FR P_un σ σ' ∧ FR Q_un τ τ' ∧ (∀ j, σ' 41 j = if i ≤ j ∧ j < c then 0 else σ 41 j)
  | 0, fu1, fu2, σ, τ, hc, h1, h2, hG, h => by
    obtain ⟨n1, rfl⟩ : ∃ n, fu1 = n + 1 := ⟨fu1 - 1, by omega⟩
    obtain ⟨n2, rfl⟩ : ∃ n, fu2 = n + 1 := ⟨fu2 - 1, by omega⟩
    refine ⟨σ, τ, ?_, ?_, h, FR.rf _ _, FR.rf _ _, fun j => by rw [if_neg (by omega)]⟩
    · show (if ((0 : Nat) : Int) - 1 < (i : Int) then _ else _) = _
      rw [if_pos (by omega)]
    · show (if ((0 : Nat) : Int) - 1 < (i : Int) then _ else _) = _
      rw [if_pos (by omega)]
  | c + 1, fu1, fu2, σ, τ, hc, h1, h2, hG, h => by
    obtain ⟨n1, rfl⟩ : ∃ n, fu1 = n + 1 := ⟨fu1 - 1, by omega⟩
    obtain ⟨n2, rfl⟩ : ∃ n, fu2 = n + 1 := ⟨fu2 - 1, by omega⟩
    have hm := hG.le
    have e : ((c + 1 : Nat) : Int) - 1 = (c : Int) := by omega
    rw [e]
    by_cases hi : (c : Int) < (i : Int)
    · refine ⟨σ, τ, ?_, ?_, h, FR.rf _ _, FR.rf _ _, fun j => by rw [if_neg (by omega)]⟩
      · show (if (c : Int) < (i : Int) then _ else _) = _
        rw [if_pos hi]
      · show (if (c : Int) < (i : Int) then _ else _) = _
        rw [if_pos hi]
    · have g : (0 : Int) ≤ (c : Int) ∧ (c : Int) < 20 := by omega
      have hr := h.rt c (by omega)
      have eX : f_Mach_undoDownTo_3_p10 (n1 + 1) (i : Int) (c : Int) σ = (if σ 41 c = 0 then f_Mach_undoDownTo_3_p10 n1 (i : Int) ((c : Int) - 1) σ else f_Mach_undoDownTo_3_p26 (f_Mach_undoDownTo_3_p10 n1) 4096 (i : Int) (c : Int) ((0 : Nat) : Int) σ) := by
        show (if (c : Int) < (i : Int) then _ else _) = _
        rw [if_neg hi, if_pos g, Int.toNat_natCast, pw_p (show c < 20 by omega) (by decide)]
        rfl
      have eM : f_M_undoesTo_84_p7 (n2 + 1) (i : Int) (c : Int) τ = (if τ 126 c = 0 then f_M_undoesTo_84_p7 n2 (i : Int) ((c : Int) - 1) τ else f_M_undoesTo_84_p26 (f_M_undoesTo_84_p7 n2) 4096 (i : Int) (c : Int) ((0 : Nat) : Int) τ) := by
        show (if (c : Int) < (i : Int) then _ else _) = _
        rw [if_neg hi, if_pos g, Int.toNat_natCast, pw_p (show c < 20 by omega) (by decide)]
        rfl
      rw [eX, eM, ← hr.1]
      by_cases h0 : σ 41 c = 0
      · rw [if_pos h0, if_pos h0]
        obtain ⟨σ', τ', q1, q2, q3, q4, q5, q6⟩ := un_lp (i := i) c n1 n2 σ τ (by omega) (by omega) (by omega) hG h
        refine ⟨σ', τ', q1, q2, q3, q4, q5, fun j => ?_⟩
        rw [q6 j]
        by_cases hj : i ≤ j ∧ j < c
        · rw [if_pos hj, if_pos (by omega)]
        · rw [if_neg hj]
          by_cases hjc : j = c
          · rw [if_pos (by omega), hjc, h0]
          · rw [if_neg (by omega)]
      · rw [if_neg h0, if_neg h0]
        obtain ⟨z1, z2, z3⟩ := h.re c (by omega) (by omega)
        obtain ⟨y1, y2⟩ := hG.sz (show c < m by omega) (by omega)
        obtain ⟨s, hs, hs4⟩ : ∃ s : Nat, σ 7 c = (s : Int) ∧ s ≤ 4 := ⟨(σ 7 c).toNat, by omega, by omega⟩
        obtain ⟨σ1, τ1, q1, q2, q3, q4, q5⟩ := un_26 (show c < 20 by omega) hs4 (K1 := f_Mach_undoDownTo_3_p10 n1) (K2 := f_M_undoesTo_84_p7 n2) (i1 := (i : Int)) (i2 := (i : Int)) s 0 4096 4096 σ τ (by omega) (by omega) (by omega) hs (y1.trans hs) z2 (fun q hq => z3 q (by rw [hs]; omega)) h.me
        rw [q1, q2]
        have hA := h.sme (q4.mono (fun k x hk => hk)) (q5.mono (fun k x hk => hk)) q3
        have hB := hA.srt0 (σ' := pU σ1 41 c 0) (τ' := pU τ1 126 c 0) (FR.u rfl) (FR.u rfl) (fun j hj => by
          by_cases hjc : j = c
          · rw [hjc, pU_s, pU_s]
            exact ⟨rfl, Or.inl rfl⟩
          · rw [pU_i _ _ _ _ hjc, pU_i _ _ _ _ hjc]
            exact ⟨(hA.rt j hj).1, Or.inr rfl⟩)
        have hC := hB.scu (σ' := pU (pU σ1 41 c 0) 33 4 (pw (σ 33 4 + 1))) (τ' := pU (pU τ1 126 c 0) 84 67 (pw (τ 84 67 + 1))) (FR.u ⟨rfl, rfl⟩) (FR.u ⟨rfl, rfl⟩) (by rw [pU_s, pU_s, h.cu])
        have f1 : FR P_un σ (pU (pU σ1 41 c 0) 33 4 (pw (σ 33 4 + 1))) := FR.tr (P := P_un) (FR.tr (P := P_un) (q4.mono (fun k x hk => Or.inl hk)) (FR.u (Or.inr (Or.inl rfl)))) (FR.u (Or.inr (Or.inr ⟨rfl, rfl⟩)))
        have f2 : FR Q_un τ (pU (pU τ1 126 c 0) 84 67 (pw (τ 84 67 + 1))) := FR.tr (P := Q_un) (FR.tr (P := Q_un) (q5.mono (fun k x hk => Or.inl hk)) (FR.u (Or.inr (Or.inl rfl)))) (FR.u (Or.inr (Or.inr ⟨rfl, rfl⟩)))
        obtain ⟨σ', τ', p1, p2, p3, p4, p5, p6⟩ := un_lp (i := i) c n1 n2 _ _ (by omega) (by omega) (by omega) (hG.fr (f1.mono P_un_N) (f2.mono Q_un_N)) hC
        refine ⟨σ', τ', p1, p2, p3, f1.tr p4, f2.tr p5, fun j => ?_⟩
        rw [p6 j]
        by_cases hj : i ≤ j ∧ j < c
        · rw [if_pos hj, if_pos (by omega)]
        · rw [if_neg hj, pU_c _ _ _ _ (by decide)]
          by_cases hjc : j = c
          · rw [hjc, pU_s, if_pos (by omega)]
          · rw [pU_i _ _ _ _ hjc, if_neg (by omega)]
            exact q4.get (by decide)
theorem un_ls {m : Nat} {rec : Nat → O8} {D : Nat → Prop} {i : Nat} {σ τ : pS} (hG : PG m rec σ τ) (h : RM m D σ τ) : ∃ σ' τ', f_Mach_undoDownTo_3 (i : Int) σ = some (0, σ') ∧ f_M_undoesTo_84 (i : Int) τ = some (0, τ') ∧ RM m D σ' τ' ∧ FR P_un σ σ' ∧ FR Q_un τ τ' ∧ (∀ j, σ' 41 j = if i ≤ j ∧ j < m then 0 else σ 41 j) := by
  have hm := hG.le
  have hx := un_lp (i := i) m 4096 4096 σ τ (Nat.le_refl _) (by omega) (by omega) hG h
  unfold f_Mach_undoDownTo_3 f_M_undoesTo_84
  rw [hG.cm, hG.mm, pw_id (by omega) (by omega)]
  exact hx
