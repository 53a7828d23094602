section CP
variable {T : Nat → Int} {n : Int}
def Pp (i : Nat) (k x : Nat) : Prop := k = 1 ∨ ((k = 51 ∨ k = 52) ∧ x = i)
theorem c_116 {σ : pS} {p i : Int} (h : TP σ T n p) (hi : 0 ≤ i ∧ i < 20) : match sNum T n 4 p with
    | .inl q => ∃ σ', f_Prog_readMove_45_1_p116 i σ = some (1, σ') ∧ TP σ' T n q.2 ∧ FR (Pg 52 i.toNat) σ σ' ∧ σ' 52 i.toNat = q.1 ∧ 0 ≤ q.1 ∧ q.1 ≤ 9999
    | .inr f => ∃ σ', f_Prog_readMove_45_1_p116 i σ = some (0, σ') ∧ σ' 1 4 = f ∧ FR (Pg 52 i.toNat) σ σ' := by
  have h1 := c_nmb h hi
  unfold f_Prog_readMove_45_1_p116
  cases hr : sNum T n 4 p with
  | inr f =>
    rw [hr] at h1
    obtain ⟨σ', a, b, c⟩ := h1
    dsimp only
    rw [a, Option.bind_some]
    dsimp only
    rw [if_pos (by decide)]
    exact ⟨σ', rfl, b, c⟩
  | inl q =>
    rw [hr] at h1
    obtain ⟨σ', a, b⟩ := h1
    dsimp only
    rw [a, Option.bind_some]
    dsimp only
    rw [if_pos (by decide)]
    exact ⟨σ', rfl, b⟩
theorem c_pln {σ : pS} {p i bs : Int} (h : TP σ T n p) (hi : 0 ≤ i ∧ i < 20) (hb : σ 51 i.toNat = bs) : match sPlN T n bs p with
    | .inl q => ∃ σ', f_Prog_readMove_45_1_p116 i σ = some (1, σ') ∧ TP σ' T n q.2 ∧ FR (Pp i.toNat) σ σ' ∧ σ' 51 i.toNat = q.1.1 ∧ σ' 52 i.toNat = q.1.2
    | .inr f => ∃ σ', f_Prog_readMove_45_1_p116 i σ = some (0, σ') ∧ σ' 1 4 = f ∧ FR (Pp i.toNat) σ σ' := by
  have hm : ∀ k x, Pg 52 i.toNat k x → Pp i.toNat k x := fun k x hk => by unfold Pg at hk; unfold Pp; omega
  have h1 := c_116 h hi
  unfold sPlN
  cases hr : sNum T n 4 p with
  | inr f =>
    rw [hr] at h1
    obtain ⟨σ', a, b, c⟩ := h1
    exact ⟨σ', a, b, c.mono hm⟩
  | inl q =>
    rw [hr] at h1
    obtain ⟨σ', a, b, c, d⟩ := h1
    exact ⟨σ', a, b, c.mono hm, (c.get (by unfold Pg; omega)).trans hb, d.1⟩
theorem c_step {σ : pS} {p : Int} (h : TP σ T n p) (hp : p < n) : f_Tape_step_1 σ = some (0, pU σ 1 3 (p + 1)) ∧ TP (pU σ 1 3 (p + 1)) T n (p + 1) := by
  have h' := h
  obtain ⟨h1, h2, ⟨h3, h4, h5⟩, h6⟩ := h'
  unfold f_Tape_step_1
  rw [h1, pw_id (by omega) (by omega)]
  exact ⟨rfl, h.go (by omega) (by omega)⟩
theorem c_plc {σ : pS} {p i : Int} (h : TP σ T n p) (hT : TB T n) (hi : 0 ≤ i ∧ i < 20) (hb : σ 51 i.toNat = -1) : match sPlc T n p with
    | .inl q => ∃ σ', f_Prog_readMove_45_1_p72 i σ = some (1, σ') ∧ TP σ' T n q.2 ∧ FR (Pp i.toNat) σ σ' ∧ σ' 51 i.toNat = q.1.1 ∧ σ' 52 i.toNat = q.1.2
    | .inr f => ∃ σ', f_Prog_readMove_45_1_p72 i σ = some (0, σ') ∧ σ' 1 4 = f ∧ FR (Pp i.toNat) σ σ' := by
  have h1x : ∀ x, Pp i.toNat 1 x := fun x => Or.inl rfl
  unfold sPlc f_Prog_readMove_45_1_p72
  rw [c_sign h, Option.bind_some]
  dsimp only
  by_cases hc : hd T n p = 114
  · have hp : p < n := hd_in (T := T) (by omega)
    obtain ⟨hs1, hs2⟩ := c_step h hp
    have h1 := c_reg hs2 hT
    rw [if_pos hc, if_pos hc, hs1, Option.bind_some]
    dsimp only
    have hF1 : FR (Pp i.toNat) σ (pU σ 1 3 (p + 1)) := FR.u (Or.inl rfl)
    cases hr : sReg T n (p + 1) with
    | inr f =>
      rw [hr] at h1
      obtain ⟨σ', a, b, c⟩ := h1
      dsimp only
      rw [a, Option.bind_some, if_pos hi, if_pos hi, if_pos (pU_s _ _ _ _)]
      exact ⟨_, rfl, (pU_c _ _ _ _ (by decide)).trans b, (hF1.tr (c.fr h1x)).tr (FR.u (Or.inr ⟨Or.inl rfl, rfl⟩))⟩
    | inl q =>
      rw [hr] at h1
      obtain ⟨σ', a, b, c, d⟩ := h1
      dsimp only at a b d ⊢
      have h2 := c_tak (c := 43) (b.u (k := 51) i.toNat q.1 (by decide) (by decide)) (by decide)
      rw [a, Option.bind_some, if_pos hi, if_pos hi]
      dsimp only
      rw [if_neg (by rw [pU_s]; omega)]
      have hF : FR (Pp i.toNat) σ (pU σ' 51 i.toNat q.1) := (hF1.tr (c.fr h1x)).tr (FR.u (Or.inr ⟨Or.inl rfl, rfl⟩))
      cases ht : sTak T n 43 q.2 with
      | inr f =>
        rw [ht] at h2
        obtain ⟨σ2, a2, b2, c2⟩ := h2
        rw [a2, Option.bind_some]
        exact ⟨σ2, rfl, b2, hF.tr (c2.fr h1x)⟩
      | inl p1 =>
        rw [ht] at h2
        obtain ⟨σ2, a2, b2, c2⟩ := h2
        rw [a2, Option.bind_some]
        dsimp only
        rw [if_neg (by decide)]
        have h3 := c_pln (i := i) (bs := q.1) b2 hi ((c2 _ _ (by decide)).trans (pU_s _ _ _ _))
        cases hq : sPlN T n q.1 p1 with
        | inr f =>
          rw [hq] at h3
          obtain ⟨σ3, a3, b3, c3⟩ := h3
          exact ⟨σ3, a3, b3, (hF.tr (c2.fr h1x)).tr c3⟩
        | inl w =>
          rw [hq] at h3
          obtain ⟨σ3, a3, b3, c3, d3⟩ := h3
          exact ⟨σ3, a3, b3, (hF.tr (c2.fr h1x)).tr c3, d3⟩
  · rw [if_neg hc, if_neg hc]
    exact c_pln h hi hb
def Pm (i : Nat) (k x : Nat) : Prop := k = 1 ∨ (48 ≤ k ∧ k ≤ 52 ∧ x = i)
theorem c_mov {σ : pS} {p i kd : Int} (h : TP σ T n p) (hT : TB T n) (hi : 0 ≤ i ∧ i < 20) (hk : σ 46 i.toNat = kd) (h50 : σ 50 i.toNat = -1) (h51 : σ 51 i.toNat = -1) : match sMov T n p with
    | .inl q => ∃ σ', f_Prog_readMove_45_1 i σ = some (1, σ') ∧ TP σ' T n q.2 ∧ FR (Pm i.toNat) σ σ' ∧ σ' 48 i.toNat = q.1.1 ∧ ((kd = 3 ∧ σ' 49 i.toNat = -1 ∧ σ' 50 i.toNat = q.1.2.1) ∨ (kd ≠ 3 ∧ σ' 49 i.toNat = q.1.2.1 ∧ σ' 50 i.toNat = -1)) ∧ σ' 51 i.toNat = q.1.2.2.1 ∧ σ' 52 i.toNat = q.1.2.2.2
    | .inr f => ∃ σ', f_Prog_readMove_45_1 i σ = some (0, σ') ∧ σ' 1 4 = f ∧ FR (Pm i.toNat) σ σ' := by
  have h1x : ∀ x, Pm i.toNat 1 x := fun x => Or.inl rfl
  have hmg : ∀ k x, Pg 49 i.toNat k x → Pm i.toNat k x := fun k x hk => by unfold Pg at hk; unfold Pm; omega
  have hmp : ∀ k x, Pp i.toNat k x → Pm i.toNat k x := fun k x hk => by unfold Pp at hk; unfold Pm; omega
  unfold sMov f_Prog_readMove_45_1
  rw [c_sign h, Option.bind_some]
  dsimp only
  rw [so_c, Option.bind_some, if_pos hi, if_pos hi]
  dsimp only
  rw [pU_s]
  have hF0 : FR (Pm i.toNat) σ (pU σ 48 i.toNat (so (hd T n p))) := FR.u (Or.inr ⟨by decide, by decide, rfl⟩)
  have h0 := h.u (k := 48) i.toNat (so (hd T n p)) (by decide) (by decide)
  by_cases hz : so (hd T n p) = 0
  · rw [if_pos hz, if_pos hz, c_fail h0 (by omega)]
    exact ⟨pU (pU σ 48 i.toNat (so (hd T n p))) 1 4 (-1000 * 1 - p), rfl, pU_s _ _ _ _, hF0.tr (FR.u (Or.inl rfl))⟩
  · have hp := so_in hz
    obtain ⟨hs1, hs2⟩ := c_step h0 hp
    rw [if_neg hz, if_neg hz, hs1, Option.bind_some]
    dsimp only
    have hF1 : FR (Pm i.toNat) σ (pU (pU σ 48 i.toNat (so (hd T n p))) 1 3 (p + 1)) := hF0.tr (FR.u (Or.inl rfl))
    have h1 := c_giv hs2 hT hi
    cases hr : sGiv T n (p + 1) with
    | inr f =>
      rw [hr] at h1
      obtain ⟨σ', a, b, c⟩ := h1
      dsimp only
      rw [a, Option.bind_some]
      exact ⟨σ', rfl, b, hF1.tr (c.mono hmg)⟩
    | inl q =>
      rw [hr] at h1
      obtain ⟨σ', a, b, c, d, e⟩ := h1
      dsimp only at a b d e ⊢
      rw [a, Option.bind_some]
      dsimp only
      have g : ∀ k, k ≠ 1 → k ≠ 48 → k ≠ 49 → σ' k i.toNat = σ k i.toNat := fun k h1 h2 h3 => (c.get (by unfold Pg; omega)).trans ((pU_c _ _ _ _ h1).trans (pU_c _ _ _ _ h2))
      have g48 : σ' 48 i.toNat = so (hd T n p) := (c.get (by unfold Pg; omega)).trans ((pU_c _ _ _ _ (by decide)).trans (pU_s _ _ _ _))
      have hF2 : FR (Pm i.toNat) σ σ' := hF1.tr (c.mono hmg)
      have hk9 : σ' 46 i.toNat = kd := (g 46 (by decide) (by decide) (by decide)).trans hk
      rw [if_neg (by decide), if_pos hi]
      by_cases hk3 : kd = 3
      · rw [if_pos (hk9.trans hk3), if_pos hi, if_pos hi, if_pos hi]
        have h3 := c_plc (i := i) (((b.u (k := 50) i.toNat (σ' 49 i.toNat) (by decide) (by decide)).u (k := 49) i.toNat (-1) (by decide) (by decide))) hT hi (((pU_c _ _ _ _ (by decide)).trans ((pU_c _ _ _ _ (by decide)).trans (g 51 (by decide) (by decide) (by decide)))).trans h51)
        have hF3 : FR (Pm i.toNat) σ (pU (pU σ' 50 i.toNat (σ' 49 i.toNat)) 49 i.toNat (-1)) := (hF2.tr (FR.u (Or.inr ⟨by decide, by decide, rfl⟩))).tr (FR.u (Or.inr ⟨by decide, by decide, rfl⟩))
        cases hq : sPlc T n q.2 with
        | inr f =>
          rw [hq] at h3
          obtain ⟨σ3, a3, b3, c3⟩ := h3
          exact ⟨σ3, a3, b3, hF3.tr (c3.mono hmp)⟩
        | inl w =>
          rw [hq] at h3
          obtain ⟨σ3, a3, b3, c3, d3, e3⟩ := h3
          refine ⟨σ3, a3, b3, hF3.tr (c3.mono hmp), ?_, Or.inl ⟨hk3, ?_, ?_⟩, d3, e3⟩
          · exact (c3.get (by unfold Pp; omega)).trans (((pU_c _ _ _ _ (by decide)).trans (pU_c _ _ _ _ (by decide))).trans g48)
          · exact (c3.get (by unfold Pp; omega)).trans (pU_s _ _ _ _)
          · exact (c3.get (by unfold Pp; omega)).trans (((pU_c _ _ _ _ (by decide)).trans (pU_s _ _ _ _)).trans d)
      · rw [if_neg (fun e => hk3 (hk9.symm.trans e))]
        have h3 := c_plc (i := i) b hT hi ((g 51 (by decide) (by decide) (by decide)).trans h51)
        cases hq : sPlc T n q.2 with
        | inr f =>
          rw [hq] at h3
          obtain ⟨σ3, a3, b3, c3⟩ := h3
          exact ⟨σ3, a3, b3, hF2.tr (c3.mono hmp)⟩
        | inl w =>
          rw [hq] at h3
          obtain ⟨σ3, a3, b3, c3, d3, e3⟩ := h3
          refine ⟨σ3, a3, b3, hF2.tr (c3.mono hmp), ?_, Or.inr ⟨hk3, ?_, ?_⟩, d3, e3⟩
          · exact (c3.get (by unfold Pp; omega)).trans g48
          · exact (c3.get (by unfold Pp; omega)).trans d
          · exact (c3.get (by unfold Pp; omega)).trans ((g 50 (by decide) (by decide) (by decide)).trans h50)
theorem c_rck {σ : pS} {p i : Int} (h : TP σ T n p) (hT : TB T n) (hi : 0 ≤ i ∧ i < 20) : match sGiv T n p with
    | .inr f => ∃ σ', f_Prog_readReckoning_45_1 i σ = some (0, σ') ∧ σ' 1 4 = f ∧ FR (Pm i.toNat) σ σ'
    | .inl q => (match sReg T n q.2 with
      | .inr f => ∃ σ', f_Prog_readReckoning_45_1 i σ = some (0, σ') ∧ σ' 1 4 = f ∧ FR (Pm i.toNat) σ σ'
      | .inl a => (match sTak T n 44 a.2 with
        | .inr f => ∃ σ', f_Prog_readReckoning_45_1 i σ = some (0, σ') ∧ σ' 1 4 = f ∧ FR (Pm i.toNat) σ σ'
        | .inl p1 => (match sReg T n p1 with
          | .inr f => ∃ σ', f_Prog_readReckoning_45_1 i σ = some (0, σ') ∧ σ' 1 4 = f ∧ FR (Pm i.toNat) σ σ'
          | .inl b => ∃ σ', f_Prog_readReckoning_45_1 i σ = some (1, σ') ∧ TP σ' T n b.2 ∧ FR (Pm i.toNat) σ σ' ∧ σ' 48 i.toNat = σ 48 i.toNat ∧ σ' 49 i.toNat = q.1 ∧ σ' 50 i.toNat = a.1 ∧ σ' 51 i.toNat = b.1 ∧ σ' 52 i.toNat = σ 52 i.toNat))) := by
  have h1x : ∀ x, Pm i.toNat 1 x := fun x => Or.inl rfl
  have hmg : ∀ k x, Pg 49 i.toNat k x → Pm i.toNat k x := fun k x hk => by unfold Pg at hk; unfold Pm; omega
  unfold f_Prog_readReckoning_45_1
  have h1 := c_giv h hT hi
  cases hr : sGiv T n p with
  | inr f =>
    rw [hr] at h1
    obtain ⟨σ', a, b, c⟩ := h1
    dsimp only
    rw [a, Option.bind_some]
    exact ⟨σ', rfl, b, c.mono hmg⟩
  | inl q =>
    rw [hr] at h1
    obtain ⟨σ1, a1, b1, c1, d1, e1⟩ := h1
    dsimp only at a1 b1 d1 ⊢
    rw [a1, Option.bind_some]
    dsimp only
    rw [if_neg (by decide)]
    have h2 := c_reg b1 hT
    cases hr2 : sReg T n q.2 with
    | inr f =>
      rw [hr2] at h2
      obtain ⟨σ2, a2, b2, c2⟩ := h2
      dsimp only
      rw [a2, Option.bind_some, if_pos hi, if_pos hi, if_pos (pU_s _ _ _ _)]
      exact ⟨_, rfl, (pU_c _ _ _ _ (by decide)).trans b2, ((c1.mono hmg).tr (c2.fr h1x)).tr (FR.u (Or.inr ⟨by decide, by decide, rfl⟩))⟩
    | inl u =>
      rw [hr2] at h2
      obtain ⟨σ2, a2, b2, c2, d2⟩ := h2
      dsimp only at a2 b2 d2 ⊢
      rw [a2, Option.bind_some, if_pos hi, if_pos hi]
      dsimp only
      rw [if_neg (by rw [pU_s]; omega)]
      have h3 := c_tak (c := 44) (b2.u (k := 50) i.toNat u.1 (by decide) (by decide)) (by decide)
      have hF2 : FR (Pm i.toNat) σ (pU σ2 50 i.toNat u.1) := ((c1.mono hmg).tr (c2.fr h1x)).tr (FR.u (Or.inr ⟨by decide, by decide, rfl⟩))
      cases hr3 : sTak T n 44 u.2 with
      | inr f =>
        rw [hr3] at h3
        obtain ⟨σ3, a3, b3, c3⟩ := h3
        dsimp only
        rw [a3, Option.bind_some]
        exact ⟨σ3, rfl, b3, hF2.tr (c3.fr h1x)⟩
      | inl p1 =>
        rw [hr3] at h3
        obtain ⟨σ3, a3, b3, c3⟩ := h3
        dsimp only
        rw [a3, Option.bind_some]
        dsimp only
        rw [if_neg (by decide)]
        have h4 := c_reg b3 hT
        cases hr4 : sReg T n p1 with
        | inr f =>
          rw [hr4] at h4
          obtain ⟨σ4, a4, b4, c4⟩ := h4
          dsimp only
          rw [a4, Option.bind_some, if_pos hi, if_pos hi, if_pos (pU_s _ _ _ _)]
          exact ⟨_, rfl, (pU_c _ _ _ _ (by decide)).trans b4, ((hF2.tr (c3.fr h1x)).tr (c4.fr h1x)).tr (FR.u (Or.inr ⟨by decide, by decide, rfl⟩))⟩
        | inl w =>
          rw [hr4] at h4
          obtain ⟨σ4, a4, b4, c4, d4⟩ := h4
          dsimp only at a4 b4 d4 ⊢
          rw [a4, Option.bind_some, if_pos hi, if_pos hi]
          dsimp only
          rw [if_neg (by rw [pU_s]; omega)]
          have g : ∀ k, k ≠ 1 → k ≠ 50 → k ≠ 51 → pU σ4 51 i.toNat w.1 k i.toNat = σ1 k i.toNat := fun k h1 h2 h3 => (pU_c _ _ _ _ h3).trans ((c4 _ _ h1).trans ((c3 _ _ h1).trans ((pU_c _ _ _ _ h2).trans (c2 _ _ h1))))
          refine ⟨_, rfl, b4.u _ _ (by decide) (by decide), ((hF2.tr (c3.fr h1x)).tr (c4.fr h1x)).tr (FR.u (Or.inr ⟨by decide, by decide, rfl⟩)), ?_, ?_, ?_, pU_s _ _ _ _, ?_⟩
          · exact (g 48 (by decide) (by decide) (by decide)).trans (c1.get (by unfold Pg; omega))
          · exact (g 49 (by decide) (by decide) (by decide)).trans d1
          · exact (pU_c _ _ _ _ (by decide)).trans ((c4 _ _ (by decide)).trans ((c3 _ _ (by decide)).trans (pU_s _ _ _ _)))
          · exact (g 52 (by decide) (by decide) (by decide)).trans (c1.get (by unfold Pg; omega))
end CP
