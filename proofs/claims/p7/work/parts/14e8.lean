theorem fl_33 {a : Int} : ∀ (d i fu : Nat) (σ : pS), i + d = 6 → d < fu → ∃ σ', f_Arrays_fill_33_p5 fu a (i : Int) 6 σ = some (0, σ') ∧ FR (fun k x => k = 33 ∧ i ≤ x) σ σ' ∧ ∀ x, i ≤ x → x < 6 → σ' 33 x = a
  | 0, i, fu, σ, hi, hf => by
    obtain ⟨n, rfl⟩ : ∃ n, fu = n + 1 := ⟨fu - 1, by omega⟩
    refine ⟨σ, ?_, FR.rf _ _, fun x a b => by omega⟩
    show (if (6 : Int) ≤ (i : Int) then _ else _) = _
    rw [if_pos (by omega)]
  | d + 1, i, fu, σ, hi, hf => by
    obtain ⟨n, rfl⟩ : ∃ n, fu = n + 1 := ⟨fu - 1, by omega⟩
    obtain ⟨σ', q1, q2, q3⟩ := fl_33 (a := a) d (i + 1) n (pU σ 33 i a) (by omega) (by omega)
    refine ⟨σ', ?_, (FR.u ⟨rfl, Nat.le_refl i⟩).tr (q2.mono (fun k x h => by omega)), fun x p q => ?_⟩
    · show (if (6 : Int) ≤ (i : Int) then _ else _) = _
      rw [if_neg (by omega), if_pos (by omega), Int.toNat_natCast, pw_s (show i < 6 by omega) (by decide)]
      exact q1
    · by_cases z : x = i
      · rw [z, q2.get (by omega), pU_s]
      · exact q3 x (by omega) q
theorem fl_34 {a : Int} : ∀ (d i fu : Nat) (σ : pS), i + d = 20 → d < fu → ∃ σ', f_Arrays_fill_34_p5 fu a (i : Int) 20 σ = some (0, σ') ∧ FR (fun k x => k = 34 ∧ i ≤ x) σ σ' ∧ ∀ x, i ≤ x → x < 20 → σ' 34 x = a
  | 0, i, fu, σ, hi, hf => by
    obtain ⟨n, rfl⟩ : ∃ n, fu = n + 1 := ⟨fu - 1, by omega⟩
    refine ⟨σ, ?_, FR.rf _ _, fun x a b => by omega⟩
    show (if (20 : Int) ≤ (i : Int) then _ else _) = _
    rw [if_pos (by omega)]
  | d + 1, i, fu, σ, hi, hf => by
    obtain ⟨n, rfl⟩ : ∃ n, fu = n + 1 := ⟨fu - 1, by omega⟩
    obtain ⟨σ', q1, q2, q3⟩ := fl_34 (a := a) d (i + 1) n (pU σ 34 i a) (by omega) (by omega)
    refine ⟨σ', ?_, (FR.u ⟨rfl, Nat.le_refl i⟩).tr (q2.mono (fun k x h => by omega)), fun x p q => ?_⟩
    · show (if (20 : Int) ≤ (i : Int) then _ else _) = _
      rw [if_neg (by omega), if_pos (by omega), Int.toNat_natCast, pw_s (show i < 20 by omega) (by decide)]
      exact q1
    · by_cases z : x = i
      · rw [z, q2.get (by omega), pU_s]
      · exact q3 x (by omega) q
theorem fl_35 {a : Int} : ∀ (d i fu : Nat) (σ : pS), i + d = 20 → d < fu → ∃ σ', f_Arrays_fill_35_p5 fu a (i : Int) 20 σ = some (0, σ') ∧ FR (fun k x => k = 35 ∧ i ≤ x) σ σ' ∧ ∀ x, i ≤ x → x < 20 → σ' 35 x = a
  | 0, i, fu, σ, hi, hf => by
    obtain ⟨n, rfl⟩ : ∃ n, fu = n + 1 := ⟨fu - 1, by omega⟩
    refine ⟨σ, ?_, FR.rf _ _, fun x a b => by omega⟩
    show (if (20 : Int) ≤ (i : Int) then _ else _) = _
    rw [if_pos (by omega)]
  | d + 1, i, fu, σ, hi, hf => by
    obtain ⟨n, rfl⟩ : ∃ n, fu = n + 1 := ⟨fu - 1, by omega⟩
    obtain ⟨σ', q1, q2, q3⟩ := fl_35 (a := a) d (i + 1) n (pU σ 35 i a) (by omega) (by omega)
    refine ⟨σ', ?_, (FR.u ⟨rfl, Nat.le_refl i⟩).tr (q2.mono (fun k x h => by omega)), fun x p q => ?_⟩
    · show (if (20 : Int) ≤ (i : Int) then _ else _) = _
      rw [if_neg (by omega), if_pos (by omega), Int.toNat_natCast, pw_s (show i < 20 by omega) (by decide)]
      exact q1
    · by_cases z : x = i
      · rw [z, q2.get (by omega), pU_s]
      · exact q3 x (by omega) q
theorem fl_36 {a : Int} : ∀ (d i fu : Nat) (σ : pS), i + d = 20 → d < fu → ∃ σ', f_Arrays_fill_36_p5 fu a (i : Int) 20 σ = some (0, σ') ∧ FR (fun k x => k = 36 ∧ i ≤ x) σ σ' ∧ ∀ x, i ≤ x → x < 20 → σ' 36 x = a
  | 0, i, fu, σ, hi, hf => by
    obtain ⟨n, rfl⟩ : ∃ n, fu = n + 1 := ⟨fu - 1, by omega⟩
    refine ⟨σ, ?_, FR.rf _ _, fun x a b => by omega⟩
    show (if (20 : Int) ≤ (i : Int) then _ else _) = _
    rw [if_pos (by omega)]
  | d + 1, i, fu, σ, hi, hf => by
    obtain ⟨n, rfl⟩ : ∃ n, fu = n + 1 := ⟨fu - 1, by omega⟩
    obtain ⟨σ', q1, q2, q3⟩ := fl_36 (a := a) d (i + 1) n (pU σ 36 i a) (by omega) (by omega)
    refine ⟨σ', ?_, (FR.u ⟨rfl, Nat.le_refl i⟩).tr (q2.mono (fun k x h => by omega)), fun x p q => ?_⟩
    · show (if (20 : Int) ≤ (i : Int) then _ else _) = _
      rw [if_neg (by omega), if_pos (by omega), Int.toNat_natCast, pw_s (show i < 20 by omega) (by decide)]
      exact q1
    · by_cases z : x = i
      · rw [z, q2.get (by omega), pU_s]
      · exact q3 x (by omega) q
theorem fl_37 {a : Int} : ∀ (d i fu : Nat) (σ : pS), i + d = 20 → d < fu → ∃ σ', f_Arrays_fill_37_p5 fu a (i : Int) 20 σ = some (0, σ') ∧ FR (fun k x => k = 37 ∧ i ≤ x) σ σ' ∧ ∀ x, i ≤ x → x < 20 → σ' 37 x = a
  | 0, i, fu, σ, hi, hf => by
    obtain ⟨n, rfl⟩ : ∃ n, fu = n + 1 := ⟨fu - 1, by omega⟩
    refine ⟨σ, ?_, FR.rf _ _, fun x a b => by omega⟩
    show (if (20 : Int) ≤ (i : Int) then _ else _) = _
    rw [if_pos (by omega)]
  | d + 1, i, fu, σ, hi, hf => by
    obtain ⟨n, rfl⟩ : ∃ n, fu = n + 1 := ⟨fu - 1, by omega⟩
    obtain ⟨σ', q1, q2, q3⟩ := fl_37 (a := a) d (i + 1) n (pU σ 37 i a) (by omega) (by omega)
    refine ⟨σ', ?_, (FR.u ⟨rfl, Nat.le_refl i⟩).tr (q2.mono (fun k x h => by omega)), fun x p q => ?_⟩
    · show (if (20 : Int) ≤ (i : Int) then _ else _) = _
      rw [if_neg (by omega), if_pos (by omega), Int.toNat_natCast, pw_s (show i < 20 by omega) (by decide)]
      exact q1
    · by_cases z : x = i
      · rw [z, q2.get (by omega), pU_s]
      · exact q3 x (by omega) q
theorem fl_38 {a : Int} : ∀ (d i fu : Nat) (σ : pS), i + d = 80 → d < fu → ∃ σ', f_Arrays_fill_38_p5 fu a (i : Int) 80 σ = some (0, σ') ∧ FR (fun k x => k = 38 ∧ i ≤ x) σ σ' ∧ ∀ x, i ≤ x → x < 80 → σ' 38 x = a
  | 0, i, fu, σ, hi, hf => by
    obtain ⟨n, rfl⟩ : ∃ n, fu = n + 1 := ⟨fu - 1, by omega⟩
    refine ⟨σ, ?_, FR.rf _ _, fun x a b => by omega⟩
    show (if (80 : Int) ≤ (i : Int) then _ else _) = _
    rw [if_pos (by omega)]
  | d + 1, i, fu, σ, hi, hf => by
    obtain ⟨n, rfl⟩ : ∃ n, fu = n + 1 := ⟨fu - 1, by omega⟩
    obtain ⟨σ', q1, q2, q3⟩ := fl_38 (a := a) d (i + 1) n (pU σ 38 i a) (by omega) (by omega)
    refine ⟨σ', ?_, (FR.u ⟨rfl, Nat.le_refl i⟩).tr (q2.mono (fun k x h => by omega)), fun x p q => ?_⟩
    · show (if (80 : Int) ≤ (i : Int) then _ else _) = _
      rw [if_neg (by omega), if_pos (by omega), Int.toNat_natCast, pw_s (show i < 80 by omega) (by decide)]
      exact q1
    · by_cases z : x = i
      · rw [z, q2.get (by omega), pU_s]
      · exact q3 x (by omega) q
theorem fl_39 {a : Int} : ∀ (d i fu : Nat) (σ : pS), i + d = 20 → d < fu → ∃ σ', f_Arrays_fill_39_p5 fu a (i : Int) 20 σ = some (0, σ') ∧ FR (fun k x => k = 39 ∧ i ≤ x) σ σ' ∧ ∀ x, i ≤ x → x < 20 → σ' 39 x = a
  | 0, i, fu, σ, hi, hf => by
    obtain ⟨n, rfl⟩ : ∃ n, fu = n + 1 := ⟨fu - 1, by omega⟩
    refine ⟨σ, ?_, FR.rf _ _, fun x a b => by omega⟩
    show (if (20 : Int) ≤ (i : Int) then _ else _) = _
    rw [if_pos (by omega)]
  | d + 1, i, fu, σ, hi, hf => by
    obtain ⟨n, rfl⟩ : ∃ n, fu = n + 1 := ⟨fu - 1, by omega⟩
    obtain ⟨σ', q1, q2, q3⟩ := fl_39 (a := a) d (i + 1) n (pU σ 39 i a) (by omega) (by omega)
    refine ⟨σ', ?_, (FR.u ⟨rfl, Nat.le_refl i⟩).tr (q2.mono (fun k x h => by omega)), fun x p q => ?_⟩
    · show (if (20 : Int) ≤ (i : Int) then _ else _) = _
      rw [if_neg (by omega), if_pos (by omega), Int.toNat_natCast, pw_s (show i < 20 by omega) (by decide)]
      exact q1
    · by_cases z : x = i
      · rw [z, q2.get (by omega), pU_s]
      · exact q3 x (by omega) q
theorem bg_28 : ∀ (d i fu : Nat) (σ : pS), i + d = 20 → d < fu → ∃ σ', f_Mach_begin_3_p28 fu (i : Int) σ = some (0, σ') ∧ FR (fun k x => k = 41 ∧ i ≤ x) σ σ' ∧ ∀ x, i ≤ x → x < 20 → σ' 41 x = 0
  | 0, i, fu, σ, hi, hf => by
    obtain ⟨n, rfl⟩ : ∃ n, fu = n + 1 := ⟨fu - 1, by omega⟩
    refine ⟨σ, ?_, FR.rf _ _, fun x a b => by omega⟩
    show (if (20 : Int) ≤ (i : Int) then _ else _) = _
    rw [if_pos (by omega)]
  | d + 1, i, fu, σ, hi, hf => by
    obtain ⟨n, rfl⟩ : ∃ n, fu = n + 1 := ⟨fu - 1, by omega⟩
    obtain ⟨σ', q1, q2, q3⟩ := bg_28 d (i + 1) n (pU σ 41 i 0) (by omega) (by omega)
    refine ⟨σ', ?_, (FR.u ⟨rfl, Nat.le_refl i⟩).tr (q2.mono (fun k x h => by omega)), fun x p q => ?_⟩
    · show (if (20 : Int) ≤ (i : Int) then _ else _) = _
      rw [if_neg (by omega), if_pos (by omega), Int.toNat_natCast, pw_s (show i < 20 by omega) (by decide)]
      exact q1
    · by_cases z : x = i
      · rw [z, q2.get (by omega), pU_s]
      · exact q3 x (by omega) q
def PB (k x : Nat) : Prop := (k = 28 ∧ 3 ≤ x ∧ x ≤ 5) ∨ (29 ≤ k ∧ k ≤ 39) ∨ k = 41
/-- the class's run begins -/
theorem bg_ls (σ : pS) : ∃ σ', f_Mach_begin_3 σ = some (0, σ') ∧ FR PB σ σ' ∧ (∀ r, r < 8 → σ' 29 r = σ 25 r) ∧ (∀ x, x < 64 → σ' 30 x = σ 26 x) ∧ (∀ j, j < 20 → σ' 31 j = σ 27 j) ∧ σ' 28 3 = σ 24 3 ∧ σ' 28 4 = σ 24 4 ∧ σ' 28 5 = σ 24 5 ∧ (∀ x, x < 6 → σ' 33 x = 0) ∧ (∀ j, j < 20 → σ' 35 j = 0) ∧ (∀ j, j < 20 → σ' 39 j = 0) ∧ (∀ j, j < 20 → σ' 41 j = 0) := by
  obtain ⟨s0, e0⟩ : ∃ s0, pU (pU (pKp (pKp σ 25 29 8) 26 30 64) 28 4 (σ 24 4)) 28 5 (σ 24 5) = s0 := ⟨_, rfl⟩
  obtain ⟨s1, e1⟩ : ∃ s1, pU (pKp s0 27 31 20) 28 3 (s0 24 3) = s1 := ⟨_, rfl⟩
  have f0 : FR (fun k x => (k = 28 ∧ (x = 4 ∨ x = 5)) ∨ k = 29 ∨ k = 30) σ s0 := by
    rw [← e0]
    exact (((FR.kp (fun x _ => by omega)).tr (FR.kp (fun x _ => by omega))).tr (FR.u (by omega))).tr (FR.u (by omega))
  have f1 : FR (fun k x => (k = 28 ∧ x = 3) ∨ k = 31) s0 s1 := by
    rw [← e1]
    exact (FR.kp (fun x _ => by omega)).tr (FR.u (by omega))
  obtain ⟨s2, a2, b2, c2⟩ := fl_33 (a := 0) 6 0 4096 s1 (by omega) (by omega)
  obtain ⟨s3, a3, b3, c3⟩ := fl_34 (a := 0) 20 0 4096 s2 (by omega) (by omega)
  obtain ⟨s4, a4, b4, c4⟩ := fl_35 (a := 0) 20 0 4096 s3 (by omega) (by omega)
  obtain ⟨s5, a5, b5, c5⟩ := fl_36 (a := 0) 20 0 4096 s4 (by omega) (by omega)
  obtain ⟨s6, a6, b6, c6⟩ := fl_37 (a := 0) 20 0 4096 s5 (by omega) (by omega)
  obtain ⟨s7, a7, b7, c7⟩ := fl_38 (a := -1) 80 0 4096 s6 (by omega) (by omega)
  obtain ⟨s8, a8, b8, c8⟩ := fl_39 (a := 0) 20 0 4096 s7 (by omega) (by omega)
  obtain ⟨s9, a9, b9, c9⟩ := bg_28 20 0 4096 s8 (by omega) (by omega)
  have k1 : f_State_copyFrom_28_24 σ = some (0, s1) := by
    unfold f_State_copyFrom_28_24 f_State_copyCellsFrom_28_24
    rw [e0, Option.bind_some]
    unfold f_State_copySetsFrom_28_24
    dsimp only
    rw [e1, Option.bind_some]
  have k2 : f_Rep_clear_32 s1 = some (0, s7) := by
    unfold f_Rep_clear_32
    rw [show f_Arrays_fill_33 0 s1 = some (0, s2) from a2, Option.bind_some]
    dsimp only
    rw [show f_Arrays_fill_34 0 s2 = some (0, s3) from a3, Option.bind_some]
    dsimp only
    rw [show f_Arrays_fill_35 0 s3 = some (0, s4) from a4, Option.bind_some]
    dsimp only
    rw [show f_Arrays_fill_36 0 s4 = some (0, s5) from a5, Option.bind_some]
    dsimp only
    rw [show f_Arrays_fill_37 0 s5 = some (0, s6) from a6, Option.bind_some]
    dsimp only
    rw [show f_Arrays_fill_38 (-1) s6 = some (0, s7) from a7, Option.bind_some]
  have g : ∀ k x, (∀ P ∈ [33, 34, 35, 36, 37, 38, 39, 41], k ≠ P) → s9 k x = s1 k x := fun k x h => by
    have h33 := h 33 (by decide)
    have h34 := h 34 (by decide)
    have h35 := h 35 (by decide)
    have h36 := h 36 (by decide)
    have h37 := h 37 (by decide)
    have h38 := h 38 (by decide)
    have h39 := h 39 (by decide)
    have h41 := h 41 (by decide)
    rw [b9.get (by omega), b8.get (by omega), b7.get (by omega), b6.get (by omega), b5.get (by omega), b4.get (by omega), b3.get (by omega), b2.get (by omega)]
  refine ⟨s9, ?_, ?_, fun r hr => ?_, fun x hx => ?_, fun j hj => ?_, ?_, ?_, ?_, fun x hx => ?_, fun j hj => ?_, fun j hj => ?_, fun j hj => c9 j (by omega) hj⟩
  · unfold f_Mach_begin_3
    rw [k1, Option.bind_some]
    dsimp only
    rw [k2, Option.bind_some]
    dsimp only
    rw [show f_Arrays_fill_39 0 s7 = some (0, s8) from a8, Option.bind_some]
    exact a9
  · intro k x
    by_cases z : PB k x
    · exact Or.inl z
    · refine Or.inr ?_
      unfold PB at z
      rw [b9.get (by omega), b8.get (by omega), b7.get (by omega), b6.get (by omega), b5.get (by omega), b4.get (by omega), b3.get (by omega), b2.get (by omega), f1.get (by omega), f0.get (by omega)]
  · rw [g _ _ (by decide), f1.get (by omega), ← e0, pU_c _ _ _ _ (by decide), pU_c _ _ _ _ (by decide), pKp_o (by decide), pKp_d hr]
  · rw [g _ _ (by decide), f1.get (by omega), ← e0, pU_c _ _ _ _ (by decide), pU_c _ _ _ _ (by decide), pKp_d hx, pKp_o (by decide)]
  · rw [g _ _ (by decide), ← e1, pU_c _ _ _ _ (by decide), pKp_d hj, f0.get (by omega)]
  · rw [g _ _ (by decide), ← e1, pU_s, f0.get (by omega)]
  · rw [g _ _ (by decide), f1.get (by omega), ← e0, pU_i _ _ _ _ (by decide), pU_s]
  · rw [g _ _ (by decide), f1.get (by omega), ← e0, pU_s]
  · rw [b9.get (by omega), b8.get (by omega), b7.get (by omega), b6.get (by omega), b5.get (by omega), b4.get (by omega), b3.get (by omega)]
    exact c2 x (by omega) hx
  · rw [b9.get (by omega), b8.get (by omega), b7.get (by omega), b6.get (by omega), b5.get (by omega)]
    exact c4 j (by omega) hj
  · rw [b9.get (by omega)]
    exact c8 j (by omega) hj
/-- the reference's run begins -/
theorem gt_38 {m : Nat} {w : Int} (hm : m ≤ 20) : ∀ (d i fu : Nat) (τ : pS), i + d = m → d < fu → τ 84 2 = (m : Int) → ∃ τ', f_M_goesThrough_84_p38 fu w (i : Int) τ = f_M_goesThrough_84_p95 4096 w 0 τ' ∧ FR (fun k x => ((k = 118 ∨ k = 126 ∨ k = 123 ∨ k = 129) ∧ i ≤ x) ∨ (k = 84 ∧ x = 69)) τ τ' ∧ (∀ j, i ≤ j → j < m → τ' 118 j = 0 ∧ τ' 126 j = 0 ∧ τ' 123 j = 0 ∧ τ' 129 j = τ 87 j) ∧ τ' 84 69 = τ 84 3
  | 0, i, fu, τ, hi, hf, h2 => by
    obtain ⟨n, rfl⟩ : ∃ n, fu = n + 1 := ⟨fu - 1, by omega⟩
    refine ⟨pU τ 84 69 (τ 84 3), ?_, FR.u (by omega), fun x a b => by omega, pU_s _ _ _ _⟩
    show (if τ 84 2 ≤ (i : Int) then _ else _) = _
    rw [if_pos (by omega)]
  | d + 1, i, fu, τ, hi, hf, h2 => by
    obtain ⟨n, rfl⟩ : ∃ n, fu = n + 1 := ⟨fu - 1, by omega⟩
    have g : (0 : Int) ≤ (i : Int) ∧ (i : Int) < 20 := by omega
    obtain ⟨t1, e1⟩ : ∃ t1, pU (pU (pU (pU τ 118 i 0) 126 i 0) 123 i 0) 129 i (τ 87 i) = t1 := ⟨_, rfl⟩
    have f1 : FR (fun k x => (k = 118 ∨ k = 126 ∨ k = 123 ∨ k = 129) ∧ x = i) τ t1 := by
      rw [← e1]
      exact (((FR.u (by omega)).tr (FR.u (by omega))).tr (FR.u (by omega))).tr (FR.u (by omega))
    obtain ⟨τ', q1, q2, q3, q4⟩ := gt_38 (w := w) hm d (i + 1) n t1 (by omega) (by omega) ((f1.get (by omega)).trans h2)
    refine ⟨τ', ?_, (f1.mono (fun k x h => by omega)).tr (q2.mono (fun k x h => by omega)), fun j p q => ?_, q4.trans (f1.get (by omega))⟩
    · show (if τ 84 2 ≤ (i : Int) then _ else _) = _
      rw [if_neg (by omega), if_pos g, if_pos g, if_pos g, if_pos g, if_pos g, Int.toNat_natCast, pw_s (show i < 20 by omega) (by decide), e1]
      exact q1
    · by_cases z : j = i
      · rw [z, q2.get (by omega), q2.get (by omega), q2.get (by omega), q2.get (by omega), ← e1, pU_c _ _ _ _ (by decide), pU_c _ _ _ _ (by decide), pU_c _ _ _ _ (by decide), pU_s, pU_c _ _ _ _ (by decide), pU_c _ _ _ _ (by decide), pU_s, pU_c _ _ _ _ (by decide), pU_s, pU_s]
        exact ⟨rfl, rfl, rfl, rfl⟩
      · have y := q3 j (by omega) q
        rw [f1.get (k := 87) (by omega)] at y
        exact y
theorem gt_95 {w : Int} : ∀ (d i fu : Nat) (τ : pS), i + d = 64 → d < fu → ∃ τ', f_M_goesThrough_84_p95 fu w (i : Int) τ = f_M_goesThrough_84_p133 4096 w 0 τ' ∧ FR (fun k x => (k = 127 ∨ k = 128) ∧ i ≤ x) τ τ' ∧ (∀ x, i ≤ x → x < 64 → τ' 127 x = τ 86 x ∧ τ' 128 x = τ 86 x)
  | 0, i, fu, τ, hi, hf => by
    obtain ⟨n, rfl⟩ : ∃ n, fu = n + 1 := ⟨fu - 1, by omega⟩
    refine ⟨τ, ?_, FR.rf _ _, fun x a b => by omega⟩
    show (if (64 : Int) ≤ (i : Int) then _ else _) = _
    rw [if_pos (by omega)]
  | d + 1, i, fu, τ, hi, hf => by
    obtain ⟨n, rfl⟩ : ∃ n, fu = n + 1 := ⟨fu - 1, by omega⟩
    have g : (0 : Int) ≤ (i : Int) ∧ (i : Int) < 64 := by omega
    obtain ⟨t1, e1⟩ : ∃ t1, pU (pU τ 127 i (τ 86 i)) 128 i (τ 86 i) = t1 := ⟨_, rfl⟩
    have f1 : FR (fun k x => (k = 127 ∨ k = 128) ∧ x = i) τ t1 := by
      rw [← e1]
      exact (FR.u (by omega)).tr (FR.u (by omega))
    obtain ⟨τ', q1, q2, q3⟩ := gt_95 (w := w) d (i + 1) n t1 (by omega) (by omega)
    refine ⟨τ', ?_, (f1.mono (fun k x h => by omega)).tr (q2.mono (fun k x h => by omega)), fun j p q => ?_⟩
    · show (if (64 : Int) ≤ (i : Int) then _ else _) = _
      rw [if_neg (by omega), if_pos g, if_pos g, if_pos g, if_pos g, Int.toNat_natCast, pw_s (show i < 64 by omega) (by decide), e1]
      exact q1
    · by_cases z : j = i
      · rw [z, q2.get (by omega), q2.get (by omega), ← e1, pU_c _ _ _ _ (by decide), pU_s, pU_s]
        exact ⟨rfl, rfl⟩
      · have y := q3 j (by omega) q
        rw [f1.get (k := 86) (by omega)] at y
        exact y
/-- what lies between the calls in both: registers, memory, sets, draws, runs -/
def SR (m : Nat) (σ τ : pS) : Prop := (∀ r, r < 8 → σ 25 r = τ 85 r) ∧ (∀ x, x < 64 → σ 26 x = τ 86 x) ∧ (∀ j, j < m → σ 27 j = τ 87 j ∧ -1 ≤ σ 27 j ∧ σ 27 j ≤ 15) ∧ (σ 24 3 = τ 84 3 ∧ 0 ≤ σ 24 3 ∧ σ 24 3 ≤ 15) ∧ (σ 24 5 = τ 84 0 ∧ 0 ≤ σ 24 5 ∧ σ 24 5 ≤ 65535) ∧ σ 24 4 = τ 84 1
def PTn (k x : Nat) : Prop := (k = 3 ∧ x = 11) ∨ k = 22 ∨ k = 23 ∨ (28 ≤ k ∧ k ≤ 44)
def QTn (k x : Nat) : Prop := (k = 84 ∧ (x = 0 ∨ x = 3 ∨ (63 ≤ x ∧ x ≤ 72))) ∨ k = 87 ∨ k = 108 ∨ k = 109 ∨ (118 ≤ k ∧ k ≤ 133)
section RUN
variable {m mL : Nat} {rec : Nat → O8} {c : Cd} {R : Nat → Ru} {σ τ σ' τ' : pS}
theorem PG.t (h : PG m rec σ τ) (h1 : FR PTn σ σ') (h2 : FR QTn τ τ') : PG m rec σ' τ' := by
  have a : ∀ k x, 4 ≤ k → k ≤ 13 → σ' k x = σ k x := fun k x p q => h1.get (by unfold PTn; omega)
  have b : ∀ k x, 88 ≤ k → k ≤ 95 → τ' k x = τ k x := fun k x p q => h2.get (by unfold QTn; omega)
  have e8 : σ' 8 = σ 8 := funext (fun x => a 8 x (by decide) (by decide))
  refine ⟨h.le, (a _ _ (by decide) (by decide)).trans h.cm, (h2.get (by unfold QTn; omega)).trans h.mm, fun j hj => ?_, fun j hj => ?_⟩
  · obtain ⟨c1, c2, c3⟩ := h.op j hj
    refine ⟨?_, ?_, c3⟩
    · unfold CRp at *
      rw [a 5 _ (by decide) (by decide), a 6 _ (by decide) (by decide), a 7 _ (by decide) (by decide), a 8 _ (by decide) (by decide), a 9 _ (by decide) (by decide), a 10 _ (by decide) (by decide), a 11 _ (by decide) (by decide)]
      exact c1
    · unfold MRp at *
      rw [b 88 _ (by decide) (by decide), b 89 _ (by decide) (by decide), b 90 _ (by decide) (by decide), b 91 _ (by decide) (by decide), b 92 _ (by decide) (by decide), b 93 _ (by decide) (by decide), b 94 _ (by decide) (by decide), b 95 _ (by decide) (by decide)]
      exact c2
  · rw [a 12 _ (by decide) (by decide), a 13 _ (by decide) (by decide), a 9 _ (by decide) (by decide), a 10 _ (by decide) (by decide), e8]
    exact h.so j hj
theorem LW.t (h : LW mL c R σ τ) (h1 : FR PTn σ σ') (h2 : FR QTn τ τ') : LW mL c R σ' τ' := h.mv (h1.get (by unfold PTn; omega)) (fun k x _ _ => h1.get (by unfold PTn; omega)) (h2.get (by unfold QTn; omega)) (fun k x _ _ => h2.get (by unfold QTn; omega))
/-- a whole run in both: w wide, lw: by the law or not -/
theorem rn_ls {w lw : Int} (hlw : lw = 0 ∨ lw = 1) (hG : PG m rec σ τ) (hS : SR m σ τ) (hS2 : ∀ j, m ≤ j → j < 20 → σ 27 j = -1) (hL : LW mL c R σ τ) : ∃ σ' τ', FR PTn σ σ' ∧ FR QTn τ τ' ∧ σ' 28 4 = σ 24 4 ∧ (∀ j, j < m → τ' 129 j = τ 87 j) ∧ τ' 84 69 = τ 84 3 ∧ ((f_Mach_go_3 w lw σ = some (-5, σ') ∧ f_M_goesThrough_84 w lw τ = some (0, τ') ∧ τ' 84 0 = σ' 28 5 ∧ 0 ≤ σ' 28 5 ∧ σ' 28 5 ≤ 65535) ∨ ∃ t, f_Mach_go_3 w lw σ = some (t, σ') ∧ f_M_goesThrough_84 w lw τ = some (1, τ') ∧ RE m rec t σ' τ') := by
  have hm := hG.le
  obtain ⟨S1, S2, S3, S4, S5, S6⟩ := hS
  obtain ⟨σ1, a1, a2, a3, a4, a5, a6, a7, a8, a9, a10, a11, a12⟩ := bg_ls σ
  obtain ⟨t0, e0⟩ : ∃ t0, pU (pU (pU (pU (pU (pU (pU τ 84 70 lw) 84 63 (-5)) 84 64 0) 84 65 0) 84 66 0) 84 67 0) 84 68 0 = t0 := ⟨_, rfl⟩
  have f0 : FR (fun k x => k = 84 ∧ 63 ≤ x ∧ x ≤ 70 ∧ x ≠ 69) τ t0 := by
    rw [← e0]
    exact ((((((FR.u (by omega)).tr (FR.u (by omega))).tr (FR.u (by omega))).tr (FR.u (by omega))).tr (FR.u (by omega))).tr (FR.u (by omega))).tr (FR.u (by omega))
  obtain ⟨t1, b1, b2, b3, b4⟩ := gt_38 (w := w) hm m 0 4096 t0 (by omega) (by omega) ((f0.get (by omega)).trans hG.mm)
  obtain ⟨t2, c1, c2, c3⟩ := gt_95 (w := w) 64 0 4096 t1 (by omega) (by omega)
  have A : FR PTn σ σ1 := a2.mono (fun k x h => by unfold PB at h; unfold PTn; omega)
  have B : FR QTn τ t2 := ((f0.mono (fun k x h => by unfold QTn; omega)).tr (b2.mono (fun k x h => by unfold QTn; omega))).tr (c2.mono (fun k x h => by unfold QTn; omega))
  have hG1 := hG.t A B
  have hL1 := hL.t A B
  have o : ∀ k x, k ≠ 127 → k ≠ 128 → k ≠ 118 → k ≠ 126 → k ≠ 123 → k ≠ 129 → k ≠ 84 → t2 k x = τ k x := fun k x h1 h2 h3 h4 h5 h6 h7 => by
    rw [c2.get (by omega), b2.get (by omega), f0.get (by omega)]
  have o84 : ∀ x, x ≠ 69 → t2 84 x = t0 84 x := fun x h => by
    rw [c2.get (by omega), b2.get (by omega)]
  have oj : ∀ j, j < m → t2 118 j = 0 ∧ t2 126 j = 0 ∧ t2 123 j = 0 ∧ t2 129 j = τ 87 j := fun j hj => by
    have z := b3 j (by omega) hj
    rw [f0.get (k := 87) (by omega)] at z
    rw [c2.get (k := 118) (by omega), c2.get (k := 126) (by omega), c2.get (k := 123) (by omega), c2.get (k := 129) (by omega)]
    exact z
  have e70 : t2 84 70 = lw := by rw [o84 _ (by decide), ← e0, pU_i _ _ _ _ (by decide), pU_i _ _ _ _ (by decide), pU_i _ _ _ _ (by decide), pU_i _ _ _ _ (by decide), pU_i _ _ _ _ (by decide), pU_i _ _ _ _ (by decide), pU_s]
  have e63 : t2 84 63 = -5 := by rw [o84 _ (by decide), ← e0, pU_i _ _ _ _ (by decide), pU_i _ _ _ _ (by decide), pU_i _ _ _ _ (by decide), pU_i _ _ _ _ (by decide), pU_i _ _ _ _ (by decide), pU_s]
  have e64 : t2 84 64 = 0 := by rw [o84 _ (by decide), ← e0, pU_i _ _ _ _ (by decide), pU_i _ _ _ _ (by decide), pU_i _ _ _ _ (by decide), pU_i _ _ _ _ (by decide), pU_s]
  have e65 : t2 84 65 = 0 := by rw [o84 _ (by decide), ← e0, pU_i _ _ _ _ (by decide), pU_i _ _ _ _ (by decide), pU_i _ _ _ _ (by decide), pU_s]
  have e66 : t2 84 66 = 0 := by rw [o84 _ (by decide), ← e0, pU_i _ _ _ _ (by decide), pU_i _ _ _ _ (by decide), pU_s]
  have e67 : t2 84 67 = 0 := by rw [o84 _ (by decide), ← e0, pU_i _ _ _ _ (by decide), pU_s]
  have e68 : t2 84 68 = 0 := by rw [o84 _ (by decide), ← e0, pU_s]
  have eo : ∀ x, x < 63 → t2 84 x = τ 84 x := fun x h => by rw [o84 _ (by omega), f0.get (by omega)]
  have e69 : t2 84 69 = τ 84 3 := by rw [c2.get (by omega), b4, f0.get (by omega)]
  have e26 : ∀ x, σ1 26 x = σ 26 x := fun x => a2.get (by unfold PB; omega)
  have e25 : ∀ x, σ1 25 x = σ 25 x := fun x => a2.get (by unfold PB; omega)
  have hR : RM m (fun _ => False) σ1 t2 := by
    refine ⟨fun j hj => ?_, fun j hj q => ?_, fun j hj => ?_, fun j hj q => ?_, fun j hj q => q.elim, fun j hj q => ?_, fun j hj q => ?_, fun j hj => ?_, fun x hx => ?_, fun x hx => ?_, fun j hj => ?_, ?_, ?_, ?_, ?_, ?_, ?_, ?_, fun r hr => ?_, fun j hj h20 => ?_⟩
    · rw [a11 j (by omega), (oj j hj).1]; exact ⟨rfl, by decide, by decide⟩
    · rw [a11 j (by omega)] at q; exact absurd q (by decide)
    · rw [a12 j (by omega), (oj j hj).2.1]; exact ⟨rfl, by decide, by decide⟩
    · rw [a12 j (by omega)] at q; exact absurd q (by decide)
    · rw [a11 j (by omega)] at q; exact absurd q (by decide)
    · rw [a11 j (by omega)] at q; exact absurd rfl q
    · rw [a10 j (by omega), (oj j hj).2.2.1]
    · have z := (c3 x (by omega) hx).2
      rw [a4 x hx, z, b2.get (by omega), f0.get (by omega)]; exact S2 x hx
    · have z := (c3 x (by omega) hx).1
      rw [e26, z, b2.get (by omega), f0.get (by omega)]; exact S2 x hx
    · rw [a5 j (by omega), o 87 j (by decide) (by decide) (by decide) (by decide) (by decide) (by decide) (by decide)]; exact S3 j hj
    · rw [a6, eo 3 (by decide)]; exact S4
    · rw [a8, eo 0 (by decide)]; exact S5
    · rw [a9 2 (by decide), e65]
    · rw [a9 3 (by decide), e66]
    · rw [a9 4 (by decide), e67]
    · rw [a9 5 (by decide), e68]
    · rw [eo 1 (by decide), a2.get (k := 24) (by unfold PB; omega)]; exact S6
    · rw [e25, o 85 r (by decide) (by decide) (by decide) (by decide) (by decide) (by decide) (by decide)]; exact S1 r hr
    · rw [a5 j h20]; exact hS2 j hj h20
  have H1 : RN m rec (fun _ => False) σ1 t2 := ⟨hG1, hR, fun j hj q => by rw [a12 j (by omega)] at q; exact absurd q (by decide), fun k hk hD => hD.elim, by unfold CW; rw [a9 1 (by decide), e64]; decide⟩
  obtain ⟨σ2, τ2, p1, p2, p3⟩ := cy_lp (w := w) hlw 2001 0 4096 4096 (fun _ => False) σ1 t2 (by omega) (by omega) (by omega) e63 e70 H1 hL1 (fun r hr => by rw [a3 r hr, e25])
  have P : FR PTn σ1 σ2 := p1.mono (fun k x h => by unfold PE PN at h; unfold PTn; omega)
  have Q : FR QTn t2 τ2 := p2.mono (fun k x h => by unfold QE QN at h; unfold QTn; omega)
  have gX : f_Mach_go_3 w lw σ = f_Mach_go_3_p6 4096 w lw ((0 : Nat) : Int) σ1 := by
    unfold f_Mach_go_3
    rw [a1, Option.bind_some]
    rfl
  have gM : f_M_goesThrough_84 w lw τ = f_M_goesThrough_84_p133 4096 w ((0 : Nat) : Int) t2 := by
    unfold f_M_goesThrough_84
    rw [if_pos (by omega), e0]
    exact b1.trans c1
  refine ⟨σ2, τ2, A.tr P, B.tr Q, ?_, fun j hj => ?_, ?_, ?_⟩
  · rw [p1.get (by unfold PE PN; omega), a7]
  · rw [p2.get (by unfold QE QN; omega)]; exact (oj j hj).2.2.2
  · rw [p2.get (by unfold QE QN; omega), e69]
  · rw [gX, gM]
    exact p3
end RUN
