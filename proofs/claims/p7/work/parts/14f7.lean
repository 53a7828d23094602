theorem rn_44 : ∀ (d i fu : Nat) (τ : pS), i + d = 8 → d < fu → f_M_run_84_p44 fu (i : Int) τ = f_M_run_84_p70 4096 0 (pCp τ 130 85 i 8)
  | 0, i, fu, τ, hi, hf => by
    obtain ⟨n, rfl⟩ : ∃ n, fu = n + 1 := ⟨fu - 1, by omega⟩
    obtain rfl : i = 8 := by omega
    rw [pCp_e]
    show (if (8 : Int) ≤ ((8 : Nat) : Int) then _ else _) = _
    rw [if_pos (by decide)]
  | d + 1, i, fu, τ, hi, hf => by
    obtain ⟨n, rfl⟩ : ∃ n, fu = n + 1 := ⟨fu - 1, by omega⟩
    have g : (0 : Int) ≤ (i : Int) ∧ (i : Int) < 8 := by omega
    have iL : i < 8 := by omega
    have k1 : ¬ (8 : Int) ≤ (i : Int) := by omega
    have ih := rn_44 d (i + 1) n (pU τ 85 i (τ 130 i)) (by omega) (by omega)
    show (if (8 : Int) ≤ (i : Int) then _ else _) = _
    rw [if_neg k1, if_pos g, if_pos g, Int.toNat_natCast, pw_s iL (by decide), ih, pCp_s (by decide) iL]
theorem rn_70 : ∀ (d i fu : Nat) (τ : pS), i + d = 64 → d < fu → f_M_run_84_p70 fu (i : Int) τ = f_M_run_84_p101 4096 0 (pU (pCp τ 128 86 i 64) 84 75 1)
  | 0, i, fu, τ, hi, hf => by
    obtain ⟨n, rfl⟩ : ∃ n, fu = n + 1 := ⟨fu - 1, by omega⟩
    obtain rfl : i = 64 := by omega
    rw [pCp_e]
    show (if (64 : Int) ≤ ((64 : Nat) : Int) then _ else _) = _
    rw [if_pos (by decide)]
  | d + 1, i, fu, τ, hi, hf => by
    obtain ⟨n, rfl⟩ : ∃ n, fu = n + 1 := ⟨fu - 1, by omega⟩
    have g : (0 : Int) ≤ (i : Int) ∧ (i : Int) < 64 := by omega
    have iL : i < 64 := by omega
    have k1 : ¬ (64 : Int) ≤ (i : Int) := by omega
    have ih := rn_70 d (i + 1) n (pU τ 86 i (τ 128 i)) (by omega) (by omega)
    show (if (64 : Int) ≤ (i : Int) then _ else _) = _
    rw [if_neg k1, if_pos g, if_pos g, Int.toNat_natCast, pw_s iL (by decide), ih, pCp_s (by decide) iL]
theorem rn_190 : ∀ (d i fu : Nat) (τ : pS), i + d = 80 → d < fu → f_M_run_84_p190 fu (i : Int) τ = some ((pCp τ 124 139 i 80) 84 63, (pCp τ 124 139 i 80))
  | 0, i, fu, τ, hi, hf => by
    obtain ⟨n, rfl⟩ : ∃ n, fu = n + 1 := ⟨fu - 1, by omega⟩
    obtain rfl : i = 80 := by omega
    rw [pCp_e]
    show (if (80 : Int) ≤ ((80 : Nat) : Int) then _ else _) = _
    rw [if_pos (by decide)]
  | d + 1, i, fu, τ, hi, hf => by
    obtain ⟨n, rfl⟩ : ∃ n, fu = n + 1 := ⟨fu - 1, by omega⟩
    have g : (0 : Int) ≤ (i : Int) ∧ (i : Int) < 80 := by omega
    have iL : i < 80 := by omega
    have k1 : ¬ (80 : Int) ≤ (i : Int) := by omega
    have ih := rn_190 d (i + 1) n (pU τ 139 i (τ 124 i)) (by omega) (by omega)
    show (if (80 : Int) ≤ (i : Int) then _ else _) = _
    rw [if_neg k1, if_pos g, if_pos g, Int.toNat_natCast, pw_s iL (by decide), ih, pCp_s (by decide) iL]
def wqs (k x : Nat) : Prop := k = 87 ∨ (k = 84 ∧ x = 3)
/-- sets are put back in the reference -/
theorem psb {m : Nat} (hm : m ≤ 20) : ∀ (d i fu : Nat) (τ : pS), i + d = m → d < fu → τ 84 2 = (m : Int) → ∃ τ', f_M_putsSetsBack_84_p2 fu (i : Int) τ = some (0, τ') ∧ FR wqs τ τ' ∧ (∀ j, i ≤ j → j < m → τ' 87 j = τ 129 j) ∧ (∀ j, j < i → τ' 87 j = τ 87 j) ∧ τ' 84 3 = τ 84 69
  | 0, i, fu, τ, hi, hf, e2 => by
    obtain ⟨n, rfl⟩ : ∃ n, fu = n + 1 := ⟨fu - 1, by omega⟩
    refine ⟨pU τ 84 3 (τ 84 69), ?_, FR.u (by unfold wqs; omega), fun j h1 h2 => by omega, fun j _ => pU_c _ _ _ _ (by decide), pU_s _ _ _ _⟩
    show (if τ 84 2 ≤ (i : Int) then _ else _) = _
    rw [if_pos (by omega)]
  | d + 1, i, fu, τ, hi, hf, e2 => by
    obtain ⟨n, rfl⟩ : ∃ n, fu = n + 1 := ⟨fu - 1, by omega⟩
    have g : (0 : Int) ≤ (i : Int) ∧ (i : Int) < 20 := by omega
    have i20 : i < 20 := by omega
    obtain ⟨τ', q1, q2, q3, q4, q5⟩ := psb hm d (i + 1) n (pU τ 87 i (τ 129 i)) (by omega) (by omega) ((pU_c _ _ _ _ (by decide)).trans e2)
    refine ⟨τ', ?_, (FR.u (P := wqs) (by unfold wqs; omega)).tr q2, fun j h1 h2 => ?_, fun j h1 => ?_, q5.trans (pU_c _ _ _ _ (by decide))⟩
    · show (if τ 84 2 ≤ (i : Int) then _ else _) = _
      rw [if_neg (by omega), if_pos g, if_pos g, Int.toNat_natCast, pw_s i20 (by decide)]
      exact q1
    · by_cases z : j = i
      · rw [z, q4 i (by omega), pU_s]
      · rw [q3 j (by omega) h2, pU_c _ _ _ _ (by decide)]
    · rw [q4 j (by omega), pU_i _ _ _ _ (by omega)]
/-- what is told of a run -/
def tl (τ : pS) (i : Nat) : Int := if i = 0 then τ 84 63 else if i = 1 then τ 84 64 else if i = 2 then τ 84 65 else if i = 3 then τ 84 66 else if i = 4 then τ 84 67 else τ 84 68
theorem m_told (i : Nat) (τ : pS) : f_M_toldOf_84 (i : Int) τ = some (tl τ i, τ) := by
  unfold f_M_toldOf_84 tl
  by_cases h0 : i = 0
  · rw [if_pos h0, if_pos (by omega)]
  rw [if_neg h0, if_neg (by omega)]
  by_cases h1 : i = 1
  · rw [if_pos h1, if_pos (by omega)]
  rw [if_neg h1, if_neg (by omega)]
  by_cases h2 : i = 2
  · rw [if_pos h2, if_pos (by omega)]
  rw [if_neg h2, if_neg (by omega)]
  by_cases h3 : i = 3
  · rw [if_pos h3, if_pos (by omega)]
  rw [if_neg h3, if_neg (by omega)]
  by_cases h4 : i = 4
  · rw [if_pos h4, if_pos (by omega)]
  rw [if_neg h4, if_neg (by omega)]
theorem tl_cg {τ τ' : pS} (h : ∀ x, 63 ≤ x → x ≤ 68 → τ' 84 x = τ 84 x) (i : Nat) : tl τ' i = tl τ i := by
  unfold tl
  rw [h 63 (by decide) (by decide), h 64 (by decide) (by decide), h 65 (by decide) (by decide), h 66 (by decide) (by decide), h 67 (by decide) (by decide), h 68 (by decide) (by decide)]
theorem rn_101 : ∀ (d i fu : Nat) (τ : pS), i + d = 6 → d < fu → ∃ τ', f_M_run_84_p101 fu (i : Int) τ = f_M_run_84_p126 4096 0 τ' ∧ FR (Pk 134) τ τ' ∧ (∀ x, i ≤ x → x < 6 → τ' 134 x = tl τ x) ∧ ∀ x, x < i → τ' 134 x = τ 134 x
  | 0, i, fu, τ, hi, hf => by
    obtain ⟨n, rfl⟩ : ∃ n, fu = n + 1 := ⟨fu - 1, by omega⟩
    refine ⟨τ, ?_, FR.rf _ _, fun x h1 h2 => by omega, fun x _ => rfl⟩
    show (if (6 : Int) ≤ (i : Int) then _ else _) = _
    rw [if_pos (by omega)]
  | d + 1, i, fu, τ, hi, hf => by
    obtain ⟨n, rfl⟩ : ∃ n, fu = n + 1 := ⟨fu - 1, by omega⟩
    have g : (0 : Int) ≤ (i : Int) ∧ (i : Int) < 6 := by omega
    have i6 : i < 6 := by omega
    obtain ⟨τ', q1, q2, q3, q4⟩ := rn_101 d (i + 1) n (pU τ 134 i (tl τ i)) (by omega) (by omega)
    refine ⟨τ', ?_, (FR.u (P := Pk 134) rfl).tr q2, fun x h1 h2 => ?_, fun x h1 => ?_⟩
    · show (if (6 : Int) ≤ (i : Int) then _ else _) = _
      rw [if_neg (by omega), m_told, Option.bind_some]
      dsimp only
      rw [if_pos g, Int.toNat_natCast, pw_s i6 (by decide)]
      exact q1
    · by_cases z : x = i
      · rw [z, q4 i (by omega), pU_s]
      · rw [q3 x (by omega) h2]
        exact tl_cg (fun y _ _ => pU_c _ _ _ _ (by decide)) x
    · rw [q4 x (by omega), pU_i _ _ _ _ (by omega)]
def w126 (k _x : Nat) : Prop := 135 ≤ k ∧ k ≤ 138
theorem rn_126 {m : Nat} (hm : m ≤ 20) : ∀ (d i fu : Nat) (τ : pS), i + d = m → d < fu → τ 84 2 = (m : Int) → ∃ τ', f_M_run_84_p126 fu (i : Int) τ = f_M_run_84_p190 4096 0 τ' ∧ FR w126 τ τ' ∧ (∀ j, i ≤ j → j < m → τ' 135 j = τ 122 j ∧ τ' 136 j = τ 123 j ∧ τ' 137 j = τ 120 j ∧ τ' 138 j = τ 121 j) ∧ ∀ k j, j < i → τ' k j = τ k j
  | 0, i, fu, τ, hi, hf, e2 => by
    obtain ⟨n, rfl⟩ : ∃ n, fu = n + 1 := ⟨fu - 1, by omega⟩
    refine ⟨τ, ?_, FR.rf _ _, fun x h1 h2 => by omega, fun k x _ => rfl⟩
    show (if τ 84 2 ≤ (i : Int) then _ else _) = _
    rw [if_pos (by omega)]
  | d + 1, i, fu, τ, hi, hf, e2 => by
    obtain ⟨n, rfl⟩ : ∃ n, fu = n + 1 := ⟨fu - 1, by omega⟩
    have g : (0 : Int) ≤ (i : Int) ∧ (i : Int) < 20 := by omega
    have i20 : i < 20 := by omega
    obtain ⟨t1, e1⟩ : ∃ t, pU (pU (pU (pU τ 135 i (τ 122 i)) 136 i (τ 123 i)) 137 i (τ 120 i)) 138 i (τ 121 i) = t := ⟨_, rfl⟩
    have f1 : FR w126 τ t1 := by
      rw [← e1]
      exact (((FR.u (by unfold w126; omega)).tr (FR.u (by unfold w126; omega))).tr (FR.u (by unfold w126; omega))).tr (FR.u (by unfold w126; omega))
    obtain ⟨τ', q1, q2, q3, q4⟩ := rn_126 hm d (i + 1) n t1 (by omega) (by omega) ((f1.get (by unfold w126; omega)).trans e2)
    refine ⟨τ', ?_, f1.tr q2, fun j h1 h2 => ?_, fun k j h1 => ?_⟩
    · show (if τ 84 2 ≤ (i : Int) then _ else _) = _
      rw [if_neg (by omega)]
      simp only [if_pos g, Int.toNat_natCast]
      rw [pw_s i20 (by decide), e1]
      exact q1
    · by_cases z : j = i
      · rw [z, q4 _ i (by omega), q4 _ i (by omega), q4 _ i (by omega), q4 _ i (by omega), ← e1]
        simp [pU]
      · have y := q3 j (by omega) h2
        rw [f1.get (k := 122) (by unfold w126; omega), f1.get (k := 123) (by unfold w126; omega), f1.get (k := 120) (by unfold w126; omega), f1.get (k := 121) (by unfold w126; omega)] at y
        exact y
    · rw [q4 k j (by omega), ← e1]
      unfold pU
      rw [if_neg (by omega), if_neg (by omega), if_neg (by omega), if_neg (by omega)]
section H7
variable {N : Nat} {σ τ σ' τ' : pS}
theorem x_can {m : Nat} (e : σ 4 11 = (m : Int)) (a : Int) : f_X_canRun_0 a σ = some (if (1 ≤ a ∧ a ≤ 4) ∧ 0 < m then 1 else 0, σ) := by
  unfold f_X_canRun_0
  rw [e]
  by_cases h1 : a < 1
  · rw [if_pos h1, if_neg (by omega)]
  · rw [if_neg h1]
    by_cases h2 : 4 < a
    · rw [if_pos h2, if_neg (by omega)]
    · rw [if_neg h2]
      by_cases h3 : (m : Int) ≤ 0
      · rw [if_pos h3, if_neg (by omega)]
      · rw [if_neg h3, if_pos (by omega)]
theorem m_can {m : Nat} (e : τ 84 2 = (m : Int)) (a : Int) : f_M_canRun_84 a τ = some (if (1 ≤ a ∧ a ≤ 4) ∧ 0 < m then 1 else 0, τ) := by
  unfold f_M_canRun_84
  rw [m_in, Option.bind_some]
  simp only [e]
  by_cases h1 : 1 ≤ a ∧ a ≤ 4
  · rw [if_pos h1, if_neg (by decide)]
    by_cases h3 : (m : Int) ≤ 0
    · rw [if_pos h3, if_neg (by omega)]
    · rw [if_neg h3, if_pos (by omega)]
  · rw [if_neg h1, if_pos rfl, if_neg (by omega)]
theorem WR.qc (h : WR N σ τ) (h1 : EQc wcA σ σ') : WR N σ' τ := by
  obtain ⟨a1, a2, a3, a4, a5, a6, a7, a8⟩ := h
  exact ⟨a1.q (fun k x z => h1 k x (Or.inl z)) (EQc.rf _ _), a2.q (fun k x z => h1 k x (Or.inr (Or.inl z))) (EQc.rf _ _), a3.q (fun k x z => h1 k x (Or.inr (Or.inr (Or.inl z)))) (EQc.rf _ _), a4.q (fun k x z => h1 k x (Or.inr (Or.inr (Or.inr (Or.inl z))))) (EQc.rf _ _), a5.q (fun k x z => h1 k x (Or.inr (Or.inr (Or.inr (Or.inr (Or.inl z)))))) (EQc.rf _ _), a6.q (fun k x z => h1 k x (Or.inr (Or.inr (Or.inr (Or.inr (Or.inr (Or.inl z))))))) (EQc.rf _ _), a7.q (fun k x z => h1 k x (Or.inr (Or.inr (Or.inr (Or.inr (Or.inr (Or.inr z))))))) (EQc.rf _ _), a8⟩
theorem EQc.sy {K : Nat → Nat → Prop} (h : EQc K σ σ') : EQc K σ' σ := fun k x z => (h k x z).symm
theorem PTn_A (k x : Nat) (h : PTn k x) : ¬ wcA k x := by
  unfold PTn at h
  unfold wcA wcT wcP wcL wcS wcR wcK wcW
  omega
/-- a run in the class, a try in the reference -/
theorem it_ls {m : Nat} {rec : Nat → O8} {w lw : Int} (hlw : lw = 0 ∨ lw = 1) (hG : PG m rec σ τ) (h : WR N σ τ) : ∃ σ' τ', EQc wcA σ σ' ∧ WR N σ' τ' ∧ (XOf σ σ' ∧ MOf τ τ') ∧ ((f_Mach_go_3 w lw σ = some (-5, σ') ∧ f_M_isTried_84 w lw τ = some (0, τ')) ∨ ∃ t, f_Mach_go_3 w lw σ = some (t, σ') ∧ f_M_isTried_84 w lw τ = some (1, τ') ∧ 1 ≤ t ∧ τ' 84 63 = t ∧ (∀ r, r < 8 → σ' 29 r = τ' 130 r) ∧ (∀ x, x < 64 → σ' 30 x = τ' 128 x) ∧ ∀ x, x < 6 → σ' 33 x = tl τ' x) := by
  have hm := hG.le
  have e11 := hG.cm
  obtain ⟨a1, a2, a3, a4, a5, a6, a7, a8⟩ := h
  obtain ⟨mL, cL, RL, hL⟩ := a3.lw
  obtain ⟨hS, hS2⟩ := a4.sr hm e11
  obtain ⟨σ1, τ1, f1, f2, q1, q2, q3, q4⟩ := rn_ls (w := w) hlw hG hS hS2 hL
  have e2 : (pU τ1 84 0 (τ 84 0)) 84 2 = (m : Int) := by rw [pU_i _ _ _ _ (by decide), f2.get (by unfold QTn; omega)]; exact hG.mm
  obtain ⟨τ2, p1, p2, p3, p4, p5⟩ := psb hm m 0 4096 (pU τ1 84 0 (τ 84 0)) (by omega) (by omega) e2
  have p1 : f_M_putsSetsBack_84 (pU τ1 84 0 (τ 84 0)) = some (0, τ2) := p1
  have E1 : EQc wcA σ σ1 := f1.eq PTn_A
  have F2 : FR QTn τ τ2 := (f2.tr (FR.u (by unfold QTn; omega))).tr (p2.mono (fun k x z => by unfold wqs at z; unfold QTn; omega))
  have x0 : τ2 84 0 = τ 84 0 := by rw [p2.get (by unfold wqs; omega), pU_s]
  have x3 : τ2 84 3 = τ 84 3 := by rw [p5, pU_i _ _ _ _ (by decide)]; exact q3
  have x87 : ∀ j, j < m → τ2 87 j = τ 87 j := fun j hj => by rw [p3 j (by omega) hj, pU_c _ _ _ _ (by decide)]; exact q2 j hj
  have o : ∀ k x, ¬ QTn k x → τ2 k x = τ k x := fun k x z => F2.get z
  have hW : WR N σ1 τ2 := by
    refine WR.qc (σ := σ) ?_ E1
    refine ⟨a1.q (EQc.rf _ _) (F2.eq (fun k x z => by unfold QTn at z; unfold wmT; omega)), a2.q (EQc.rf _ _) (F2.eq (fun k x z => by unfold QTn at z; unfold wmP; omega)), a3.q (EQc.rf _ _) (F2.eq (fun k x z => by unfold QTn at z; unfold wmL; omega)), ?_, a5.q (EQc.rf _ _) (F2.eq (fun k x z => by unfold QTn at z; unfold wmR; omega)), a6.q (EQc.rf _ _) (F2.eq (fun k x z => by unfold QTn at z; unfold wmK; omega)), a7.q (EQc.rf _ _) (F2.eq (fun k x z => by unfold QTn at z; unfold wmW; omega)), ?_⟩
    · obtain ⟨s1, s2, s3, s4, s5, s6, s7⟩ := a4
      refine ⟨fun r hr => ?_, fun x hx => ?_, fun j hj => ?_, s4, ?_, ?_, ?_⟩
      · rw [o 85 r (by unfold QTn; omega)]; exact s1 r hr
      · rw [o 86 x (by unfold QTn; omega)]; exact s2 x hx
      · rw [x87 j (by omega)]; exact s3 j hj
      · rw [x3]; exact s5
      · rw [x0]; exact s6
      · rw [o 84 1 (by unfold QTn; omega)]; exact s7
    · unfold CNT at *
      rw [o 84 5 (by unfold QTn; omega)]
      exact a8
  have g12 : ∀ k x, ¬ wqs k x → (k ≠ 84 ∨ x ≠ 0) → τ2 k x = τ1 k x := fun k x z y => by
    rw [p2.get z]
    unfold pU
    rw [if_neg (by omega)]
  refine ⟨σ1, τ2, E1, hW, ⟨XOf.of f1 (fun k x z => by unfold PTn at z; omega), MOf.of F2 (fun k x z => by unfold QTn at z; omega)⟩, ?_⟩
  rcases q4 with ⟨r1, r2, -⟩ | ⟨t, r1, r2, r3⟩
  · refine Or.inl ⟨r1, ?_⟩
    unfold f_M_isTried_84
    rw [r2, Option.bind_some]
    dsimp only
    rw [p1, Option.bind_some, if_pos (by decide)]
  · obtain ⟨-, r4, -, r5, r6, r7, r8, r9, r10⟩ := r3
    refine Or.inr ⟨t, r1, ?_, r8, ?_, fun r hr => ?_, fun x hx => ?_, fun x hx => ?_⟩
    · unfold f_M_isTried_84
      rw [r2, Option.bind_some]
      dsimp only
      rw [p1, Option.bind_some, if_pos (by decide)]
    · rw [g12 84 63 (by unfold wqs; omega) (by omega)]; exact r7
    · rw [g12 130 r (by unfold wqs; omega) (by omega)]; exact r5 r hr
    · rw [g12 128 x (by unfold wqs; omega) (by omega)]; exact r4.me x hx
    · rw [tl_cg (fun y h1 h2 => g12 84 y (by unfold wqs; omega) (by omega)) x]
      unfold tl
      rcases (show x = 0 ∨ x = 1 ∨ x = 2 ∨ x = 3 ∨ x = 4 ∨ x = 5 by omega) with z | z | z | z | z | z
      · subst z; exact r6.trans r7.symm
      · subst z; exact r10
      · subst z; exact r4.cr
      · subst z; exact r4.ca
      · subst z; exact r4.cu
      · subst z; exact r4.cd
theorem w_cautious (a b : Int) (h : WR N σ τ) : ∃ v σ' τ', f_X_cautious_0 a b σ = some (v, σ') ∧ f_M_cautious_84 a b τ = some (v, τ') ∧ WS N σ τ σ' τ' := by
  obtain ⟨m, rec, hG⟩ := h.2.1.pg
  unfold f_X_cautious_0 f_M_cautious_84
  rw [x_can hG.cm, m_can hG.mm, Option.bind_some, Option.bind_some]
  dsimp only
  by_cases g : (1 ≤ a ∧ a ≤ 4) ∧ 0 < m
  · rw [if_pos g, if_neg (show ¬ (1 : Int) = 0 by decide), if_neg (show ¬ (1 : Int) = 0 by decide), m_in, x_isTot, Option.bind_some, Option.bind_some]
    dsimp only
    by_cases gb : 0 ≤ b ∧ b ≤ 5
    · rw [if_pos gb, if_neg (show ¬ (1 : Int) = 0 by decide), if_neg (show ¬ (1 : Int) = 0 by decide)]
      obtain ⟨σ1, τ1, q1, q2, q0, q3⟩ := it_ls (w := a) (Or.inr rfl) hG h
      rcases q3 with ⟨r1, r2⟩ | ⟨t, r1, r2, r3, -, -, -, r4⟩
      · rw [r1, r2, Option.bind_some, Option.bind_some]
        exact ⟨-5, σ1, τ1, rfl, rfl, ⟨q2.mono (by omega), q0⟩⟩
      · obtain ⟨n, rfl⟩ : ∃ n : Nat, b = (n : Int) := ⟨b.toNat, by omega⟩
        rw [r1, r2, Option.bind_some, Option.bind_some]
        dsimp only
        rw [if_neg (show ¬ t = -5 by omega), if_pos (by omega), if_neg (show ¬ (1 : Int) = 0 by decide), m_told, Option.bind_some, Int.toNat_natCast, r4 n (by omega)]
        exact ⟨_, σ1, τ1, rfl, rfl, ⟨q2.mono (by omega), q0⟩⟩
    · rw [if_neg gb, if_pos rfl, if_pos rfl]
      exact ⟨_, _, _, rfl, rfl, h.sm⟩
  · rw [if_neg g, if_pos rfl, if_pos rfl]
    exact ⟨_, _, _, rfl, rfl, h.sm⟩
theorem w_tried (a b : Int) (h : WR N σ τ) (hb1 : -2147483648 ≤ b) (hb2 : b ≤ 2147483647) : ∃ v σ' τ', f_X_tried_0 a b σ = some (v, σ') ∧ f_M_tried_84 a b τ = some (v, τ') ∧ WS N σ τ σ' τ' := by
  obtain ⟨m, rec, hG⟩ := h.2.1.pg
  -- what may be asked
  have hV : ((0 ≤ b ∧ b ≤ 5) ∨ (10 ≤ b ∧ b ≤ 17) ∨ (100 ≤ b ∧ b ≤ 163)) ∨ ¬ ((0 ≤ b ∧ b ≤ 5) ∨ (10 ≤ b ∧ b ≤ 17) ∨ (100 ≤ b ∧ b ≤ 163)) := Classical.em _
  have hc : ∀ s : pS, f_X_isCell (pw (b - 10)) s = some (if 10 ≤ b ∧ b ≤ 17 then 1 else 0, s) := fun s => by
    rw [x_isCell]
    by_cases z : 10 ≤ b ∧ b ≤ 17
    · rw [if_pos z, pw_id (by omega) (by omega), if_pos (by omega)]
    · rw [if_neg z]
      by_cases y : b < -2147483638
      · have e : pw (b - 10) = b - 10 + 4294967296 := by unfold pw; rw [Int.bmod_def]; split <;> omega
        rw [e, if_neg (by omega)]
      · rw [pw_id (by omega) (by omega), if_neg (by omega)]
  have eX : f_X_tried_0 a b σ = (if ((1 ≤ a ∧ a ≤ 4) ∧ 0 < m) ∧ ((0 ≤ b ∧ b ≤ 5) ∨ (10 ≤ b ∧ b ≤ 17) ∨ (100 ≤ b ∧ b ≤ 163)) then f_X_tried_0_p34 a b σ else some (-1, σ)) := by
    unfold f_X_tried_0
    simp only [x_can hG.cm, x_isTot, hc, x_isByte, Option.bind_some]
    by_cases g : (1 ≤ a ∧ a ≤ 4) ∧ 0 < m
    · rw [if_pos g, if_neg (show ¬ (1 : Int) = 0 by decide)]
      by_cases z1 : 0 ≤ b ∧ b ≤ 5
      · rw [if_pos z1, if_neg (show ¬ (1 : Int) = 0 by decide), if_pos ⟨g, Or.inl z1⟩]
      · rw [if_neg z1, if_pos rfl]
        by_cases z2 : 10 ≤ b ∧ b ≤ 17
        · rw [if_pos z2, if_neg (show ¬ (1 : Int) = 0 by decide), if_pos ⟨g, Or.inr (Or.inl z2)⟩]
        · rw [if_neg z2, if_pos rfl]
          by_cases z3 : 100 ≤ b ∧ b ≤ 163
          · rw [if_pos z3, if_neg (show ¬ (1 : Int) = 0 by decide), if_pos ⟨g, Or.inr (Or.inr z3)⟩]
          · rw [if_neg z3, if_pos rfl, if_neg (fun y => y.2.elim z1 (fun y => y.elim z2 z3))]
    · rw [if_neg g, if_pos rfl, if_neg (fun y => g y.1)]
  have eM : f_M_tried_84 a b τ = (if (0 ≤ b ∧ b ≤ 5) ∨ (10 ≤ b ∧ b ≤ 17) ∨ (100 ≤ b ∧ b ≤ 163) then f_M_tried_84_p37 a b 1 τ else f_M_tried_84_p37 a b 0 τ) := by
    unfold f_M_tried_84 f_M_tried_84_p32
    simp only [m_in, Option.bind_some]
    by_cases z1 : 0 ≤ b ∧ b ≤ 5
    · rw [if_pos z1, if_neg (show ¬ (1 : Int) = 0 by decide), if_pos (Or.inl z1)]
    · rw [if_neg z1, if_pos rfl]
      by_cases z2 : 10 ≤ b ∧ b ≤ 17
      · rw [if_pos z2, if_neg (show ¬ (1 : Int) = 0 by decide), if_pos (Or.inr (Or.inl z2))]
      · rw [if_neg z2, if_pos rfl]
        by_cases z3 : 100 ≤ b ∧ b ≤ 163
        · rw [if_pos z3, if_neg (show ¬ (1 : Int) = 0 by decide), if_pos (Or.inr (Or.inr z3))]
        · rw [if_neg z3, if_pos rfl, if_neg (fun y => y.elim z1 (fun y => y.elim z2 z3))]
  rw [eX, eM]
  unfold f_M_tried_84_p37
  simp only [m_can hG.mm, Option.bind_some]
  by_cases g : (1 ≤ a ∧ a ≤ 4) ∧ 0 < m
  · rw [if_pos g]
    simp only [if_neg (show ¬ (1 : Int) = 0 by decide)]
    rcases hV with hV | hV
    · rw [if_pos ⟨g, hV⟩, if_pos hV]
      obtain ⟨σ1, τ1, q1, q2, q0, q3⟩ := it_ls (w := a) (Or.inl rfl) hG h
      have s1 := q2.2.2.2.1.1
      have s2 := q2.2.2.2.1.2.1
      unfold f_X_tried_0_p34
      rcases q3 with ⟨r1, r2⟩ | ⟨t, r1, r2, r3, -, r5, r6, r7⟩
      · rw [r1, r2, Option.bind_some, Option.bind_some]
        dsimp only
        rw [if_pos rfl]
        unfold f_X_tried_0_p53 f_X_tried_0_p75
        simp only [x_isByte, hc, Option.bind_some, if_true]
        rcases hV with z | z | z
        · rw [if_neg (show ¬ (100 ≤ b ∧ b ≤ 163) by omega), if_pos rfl, if_neg (show ¬ (10 ≤ b ∧ b ≤ 17) by omega), if_pos rfl, if_neg (show ¬ 6 ≤ b by omega)]
          exact ⟨_, σ1, τ1, rfl, rfl, ⟨q2.mono (by omega), q0⟩⟩
        · have e : pw (b - 10) = b - 10 := pw_id (by omega) (by omega)
          have g8 : 0 ≤ b - 10 ∧ b - 10 < 8 := by omega
          rw [if_neg (show ¬ (100 ≤ b ∧ b ≤ 163) by omega), if_pos rfl, if_pos z, if_neg (show ¬ (1 : Int) = 0 by decide), e, if_pos g8, if_pos (show 6 ≤ b by omega), if_neg (show ¬ 100 ≤ b by omega), if_pos g8, ← s1 _ (by omega)]
          exact ⟨_, σ1, τ1, rfl, rfl, ⟨q2.mono (by omega), q0⟩⟩
        · have e : pw (b - 100) = b - 100 := pw_id (by omega) (by omega)
          have g8 : 0 ≤ b - 100 ∧ b - 100 < 64 := by omega
          rw [if_pos z, if_neg (show ¬ (1 : Int) = 0 by decide), e, if_pos g8, if_pos (show 6 ≤ b by omega), if_pos (show 100 ≤ b by omega), if_pos g8, ← s2 _ (by omega)]
          exact ⟨_, σ1, τ1, rfl, rfl, ⟨q2.mono (by omega), q0⟩⟩
      · rw [r1, r2, Option.bind_some, Option.bind_some]
        dsimp only
        rw [if_neg (show ¬ t = -5 by omega)]
        unfold f_X_tried_0_p53 f_X_tried_0_p75b
        simp only [x_isByte, hc, Option.bind_some, if_neg (show ¬ (1 : Int) = 0 by decide)]
        rcases hV with z | z | z
        · obtain ⟨n, rfl⟩ : ∃ n : Nat, b = (n : Int) := ⟨b.toNat, by omega⟩
          rw [if_neg (show ¬ (100 ≤ (n : Int) ∧ (n : Int) ≤ 163) by omega), if_pos rfl, if_neg (show ¬ (10 ≤ (n : Int) ∧ (n : Int) ≤ 17) by omega), if_pos rfl, if_pos (show 0 ≤ (n : Int) ∧ (n : Int) < 6 by omega), if_neg (show ¬ 6 ≤ (n : Int) by omega), m_told, Option.bind_some, Int.toNat_natCast, r7 n (by omega)]
          exact ⟨_, σ1, τ1, rfl, rfl, ⟨q2.mono (by omega), q0⟩⟩
        · have e : pw (b - 10) = b - 10 := pw_id (by omega) (by omega)
          have g8 : 0 ≤ b - 10 ∧ b - 10 < 8 := by omega
          rw [if_neg (show ¬ (100 ≤ b ∧ b ≤ 163) by omega), if_pos rfl, if_pos z, if_neg (show ¬ (1 : Int) = 0 by decide), e, if_pos g8, if_pos (show 6 ≤ b by omega), if_neg (show ¬ 100 ≤ b by omega), if_pos g8, ← r5 _ (by omega)]
          exact ⟨_, σ1, τ1, rfl, rfl, ⟨q2.mono (by omega), q0⟩⟩
        · have e : pw (b - 100) = b - 100 := pw_id (by omega) (by omega)
          have g8 : 0 ≤ b - 100 ∧ b - 100 < 64 := by omega
          rw [if_pos z, if_neg (show ¬ (1 : Int) = 0 by decide), e, if_pos g8, if_pos (show 6 ≤ b by omega), if_pos (show 100 ≤ b by omega), if_pos g8, ← r6 _ (by omega)]
          exact ⟨_, σ1, τ1, rfl, rfl, ⟨q2.mono (by omega), q0⟩⟩
    · rw [if_neg (fun y => hV y.2), if_neg hV, if_pos trivial]
      exact ⟨_, _, _, rfl, rfl, h.sm⟩
  · rw [if_neg (fun y => g y.1), if_neg g]
    simp only [if_true]
    have e0 : (if (0 ≤ b ∧ b ≤ 5) ∨ (10 ≤ b ∧ b ≤ 17) ∨ (100 ≤ b ∧ b ≤ 163) then some ((-1 : Int), τ) else some ((-1 : Int), τ)) = some (-1, τ) := by split <;> rfl
    refine ⟨-1, σ, τ, rfl, ?_, h.sm⟩
    exact e0
end H7
