def CR (σ : pS) (i : Nat) (r : O8) : Prop := σ 46 i = r.1 ∧ σ 47 i = r.2.1 ∧ σ 48 i = r.2.2.1 ∧ ((r.1 = 3 ∧ σ 49 i = -1 ∧ σ 50 i = r.2.2.2.1) ∨ (r.1 ≠ 3 ∧ σ 49 i = r.2.2.2.1 ∧ σ 50 i = r.2.2.2.2.1)) ∧ ((r.1 = 1 ∧ σ 51 i = r.2.2.2.2.2.1) ∨ (r.1 ≠ 1 ∧ σ 51 i = r.2.2.2.2.2.2.1)) ∧ σ 52 i = r.2.2.2.2.2.2.2
def MR (τ : pS) (i : Nat) (r : O8) : Prop := τ 110 i = r.1 ∧ τ 111 i = r.2.1 ∧ τ 112 i = r.2.2.2.1 ∧ (r.1 = 1 → τ 113 i = r.2.2.2.2.1 ∧ τ 114 i = r.2.2.2.2.2.1) ∧ (2 ≤ r.1 → τ 115 i = r.2.2.1 ∧ τ 116 i = r.2.2.2.2.2.2.1) ∧ (r.1 ≠ 1 → τ 117 i = r.2.2.2.2.2.2.2)
def Pc (i : Nat) (k x : Nat) : Prop := k = 1 ∨ (46 ≤ k ∧ k ≤ 52 ∧ x = i)
section CO5
variable {T : Nat → Int} {n : Int}
theorem c_op {σ : pS} {p i : Int} (h : TP σ T n p) (hT : TB T n) (hi : 0 ≤ i ∧ i < 20) : match sOp T n p with
    | .inl q => ∃ σ', f_Prog_readOp_45_1 i σ = some (1, σ') ∧ TP σ' T n q.2 ∧ FR (Pc i.toNat) σ σ' ∧ CR σ' i.toNat q.1
    | .inr f => ∃ σ', f_Prog_readOp_45_1 i σ = some (0, σ') ∧ σ' 1 4 = f ∧ FR (Pc i.toNat) σ σ' := by
  have hmm : ∀ k x, Pm i.toNat k x → Pc i.toNat k x := fun k x hk => by unfold Pm at hk; unfold Pc; omega
  have hmg : ∀ c, 46 ≤ c → c ≤ 52 → ∀ k x, Pg c i.toNat k x → Pc i.toNat k x := fun c h1 h2 k x hk => by unfold Pg at hk; unfold Pc; omega
  unfold sOp f_Prog_readOp_45_1
  rw [c_sign h, Option.bind_some]
  dsimp only
  rw [ko_c, Option.bind_some]
  dsimp only
  by_cases hk : ko (hd T n p) = -1
  · rw [if_pos hk, if_pos hk, c_fail h (by omega)]
    exact ⟨pU σ 1 4 (-1000 * 1 - p), rfl, pU_s _ _ _ _, FR.u (Or.inl rfl)⟩
  · have hp := ko_in hk
    obtain ⟨hs1, hs2⟩ := c_step h hp
    rw [if_neg hk, if_neg hk, if_pos hi.2, hs1, Option.bind_some, if_pos hi, if_pos hi, if_pos hi, if_pos hi, if_pos hi, if_pos hi]
    dsimp only
    generalize hσ1 : pU (pU (pU (pU (pU (pU (pU σ 1 3 (p + 1)) 47 i.toNat (hd T n p)) 46 i.toNat (ko (hd T n p))) 48 i.toNat 0) 50 i.toNat (-1)) 51 i.toNat (-1)) 52 i.toNat 0 = σ1
    have hT1 : TP σ1 T n (p + 1) := by
      rw [← hσ1]
      exact (((((hs2.u _ _ (by decide) (by decide)).u _ _ (by decide) (by decide)).u _ _ (by decide) (by decide)).u _ _ (by decide) (by decide)).u _ _ (by decide) (by decide)).u _ _ (by decide) (by decide)
    have hF1 : FR (Pc i.toNat) σ σ1 := by
      rw [← hσ1]
      exact ((((((FR.u (Or.inl rfl)).tr (FR.u (Or.inr ⟨by decide, by decide, rfl⟩))).tr (FR.u (Or.inr ⟨by decide, by decide, rfl⟩))).tr (FR.u (Or.inr ⟨by decide, by decide, rfl⟩))).tr (FR.u (Or.inr ⟨by decide, by decide, rfl⟩))).tr (FR.u (Or.inr ⟨by decide, by decide, rfl⟩))).tr (FR.u (Or.inr ⟨by decide, by decide, rfl⟩))
    have e47 : σ1 47 i.toNat = hd T n p := by rw [← hσ1]; simp [pU]
    have e46 : σ1 46 i.toNat = ko (hd T n p) := by rw [← hσ1]; simp [pU]
    have e48 : σ1 48 i.toNat = 0 := by rw [← hσ1]; simp [pU]
    have e50 : σ1 50 i.toNat = -1 := by rw [← hσ1]; simp [pU]
    have e51 : σ1 51 i.toNat = -1 := by rw [← hσ1]; simp [pU]
    have e52 : σ1 52 i.toNat = 0 := by rw [← hσ1]; simp [pU]
    by_cases hk0 : ko (hd T n p) = 0
    · rw [if_pos hk0, if_pos hk0]
      unfold sOp0
      have h1 := c_giv hT1 hT hi
      cases hr : sGiv T n (p + 1) with
      | inr f =>
        rw [hr] at h1
        obtain ⟨σ2, a2, b2, c2⟩ := h1
        dsimp only
        rw [a2, Option.bind_some]
        exact ⟨σ2, rfl, b2, hF1.tr (c2.mono (hmg 49 (by decide) (by decide)))⟩
      | inl q =>
        rw [hr] at h1
        obtain ⟨σ2, a2, b2, c2, d2, e2⟩ := h1
        dsimp only at a2 b2 d2 ⊢
        rw [a2, Option.bind_some]
        dsimp only
        rw [if_neg (by decide)]
        have hF2 := hF1.tr (c2.mono (hmg 49 (by decide) (by decide)))
        have h3 := c_nmb b2 hi
        cases hq : sNum T n 4 q.2 with
        | inr f =>
          rw [hq] at h3
          obtain ⟨σ3, a3, b3, c3⟩ := h3
          dsimp only
          rw [a3, Option.bind_some]
          exact ⟨σ3, rfl, b3, hF2.tr (c3.mono (hmg 52 (by decide) (by decide)))⟩
        | inl w =>
          rw [hq] at h3
          obtain ⟨σ3, a3, b3, c3, d3, e3⟩ := h3
          dsimp only at b3 d3 ⊢
          rw [a3, Option.bind_some]
          have g : ∀ k, k ≠ 1 → k ≠ 49 → k ≠ 52 → σ3 k i.toNat = σ1 k i.toNat := fun k h1 h2 h3 => (c3.get (by unfold Pg; omega)).trans (c2.get (by unfold Pg; omega))
          refine ⟨σ3, rfl, b3, hF2.tr (c3.mono (hmg 52 (by decide) (by decide))), ?_⟩
          unfold CR
          dsimp only
          refine ⟨(g 46 (by decide) (by decide) (by decide)).trans (e46.trans hk0), (g 47 (by decide) (by decide) (by decide)).trans e47, (g 48 (by decide) (by decide) (by decide)).trans e48, Or.inr ⟨by decide, (c3.get (by unfold Pg; omega)).trans d2, (g 50 (by decide) (by decide) (by decide)).trans e50⟩, Or.inr ⟨by decide, (g 51 (by decide) (by decide) (by decide)).trans e51⟩, d3⟩
    · rw [if_neg hk0, if_neg hk0]
      by_cases hk1 : ko (hd T n p) = 1
      · rw [if_pos hk1, if_pos hk1]
        unfold sOp1
        have h1 := c_rck hT1 hT hi
        cases hr : sGiv T n (p + 1) with
        | inr f =>
          rw [hr] at h1
          obtain ⟨σ2, a2, b2, c2⟩ := h1
          dsimp only
          rw [a2, Option.bind_some]
          exact ⟨σ2, rfl, b2, hF1.tr (c2.mono hmm)⟩
        | inl q =>
          rw [hr] at h1
          dsimp only at h1 ⊢
          cases hr2 : sReg T n q.2 with
          | inr f =>
            rw [hr2] at h1
            obtain ⟨σ2, a2, b2, c2⟩ := h1
            dsimp only
            rw [a2, Option.bind_some]
            exact ⟨σ2, rfl, b2, hF1.tr (c2.mono hmm)⟩
          | inl u =>
            rw [hr2] at h1
            dsimp only at h1 ⊢
            cases hr3 : sTak T n 44 u.2 with
            | inr f =>
              rw [hr3] at h1
              obtain ⟨σ2, a2, b2, c2⟩ := h1
              dsimp only
              rw [a2, Option.bind_some]
              exact ⟨σ2, rfl, b2, hF1.tr (c2.mono hmm)⟩
            | inl p1 =>
              rw [hr3] at h1
              dsimp only at h1 ⊢
              cases hr4 : sReg T n p1 with
              | inr f =>
                rw [hr4] at h1
                obtain ⟨σ2, a2, b2, c2⟩ := h1
                dsimp only
                rw [a2, Option.bind_some]
                exact ⟨σ2, rfl, b2, hF1.tr (c2.mono hmm)⟩
              | inl w =>
                rw [hr4] at h1
                obtain ⟨σ2, a2, b2, c2, d1, d2, d3, d4, d5⟩ := h1
                dsimp only
                rw [a2, Option.bind_some]
                refine ⟨σ2, rfl, b2, hF1.tr (c2.mono hmm), ?_⟩
                unfold CR
                dsimp only
                exact ⟨(c2.get (by unfold Pm; omega)).trans (e46.trans hk1), (c2.get (by unfold Pm; omega)).trans e47, d1.trans e48, Or.inr ⟨by decide, d2, d3⟩, Or.inl ⟨rfl, d4⟩, d5.trans e52⟩
      · rw [if_neg hk1, if_neg hk1]
        unfold sOp2
        have h1 := c_mov hT1 hT hi e46 e50 e51
        cases hr : sMov T n (p + 1) with
        | inr f =>
          rw [hr] at h1
          obtain ⟨σ2, a2, b2, c2⟩ := h1
          dsimp only
          rw [a2, Option.bind_some]
          exact ⟨σ2, rfl, b2, hF1.tr (c2.mono hmm)⟩
        | inl w =>
          rw [hr] at h1
          obtain ⟨σ2, a2, b2, c2, d1, d2, d3, d4⟩ := h1
          dsimp only at d1 d2 d3 d4 ⊢
          rw [a2, Option.bind_some]
          refine ⟨σ2, rfl, b2, hF1.tr (c2.mono hmm), ?_⟩
          unfold CR
          dsimp only
          exact ⟨(c2.get (by unfold Pm; omega)).trans e46, (c2.get (by unfold Pm; omega)).trans e47, d1, d2, Or.inr ⟨hk1, d3⟩, d4⟩
theorem c_op20 {σ : pS} {p : Int} (h : TP σ T n p) : ∃ σ', f_Prog_readOp_45_1 20 σ = some (0, σ') ∧ σ' 1 4 = (if ko (hd T n p) = -1 then -1000 * 1 - p else -1000 * 4 - p) ∧ CO σ σ' := by
  unfold f_Prog_readOp_45_1
  rw [c_sign h, Option.bind_some]
  dsimp only
  rw [ko_c, Option.bind_some]
  dsimp only
  by_cases hk : ko (hd T n p) = -1
  · rw [if_pos hk, if_pos hk, c_fail h (by omega)]
    exact ⟨pU σ 1 4 (-1000 * 1 - p), rfl, pU_s _ _ _ _, CO.u _ _⟩
  · rw [if_neg hk, if_neg hk, if_neg (by decide), c_fail h (by omega)]
    exact ⟨pU σ 1 4 (-1000 * 4 - p), rfl, pU_s _ _ _ _, CO.u _ _⟩
/-- the reference -/
def Qp (i : Nat) (k x : Nat) : Prop := (k = 84 ∧ (x = 19 ∨ x = 21 ∨ x = 22)) ∨ ((k = 116 ∨ k = 117) ∧ x = i)
theorem m_p56 {τ : pS} {p i bs : Int} (h : TM τ T n p) (hi : 0 ≤ i ∧ i < 20) (hb : τ 116 i.toNat = bs) : match sPlN T n bs p with
    | .inl q => ∃ τ', f_M_readsPlace_84_p56 i τ = some (1, τ') ∧ TM τ' T n q.2 ∧ FR (Qp i.toNat) τ τ' ∧ τ' 116 i.toNat = q.1.1 ∧ τ' 117 i.toNat = q.1.2
    | .inr f => ∃ τ', f_M_readsPlace_84_p56 i τ = some (0, τ') ∧ τ' 84 21 = f ∧ FR (Qp i.toNat) τ τ' := by
  unfold sPlN f_M_readsPlace_84_p56
  have h1 := m_num h
  cases hr : sNum T n 4 p with
  | inr f =>
    rw [hr] at h1
    obtain ⟨τ', a, b, c⟩ := h1
    dsimp only
    rw [a, Option.bind_some]
    exact ⟨τ', rfl, b, c.fr (Or.inl (by decide)) (Or.inl (by decide)) (Or.inl (by decide))⟩
  | inl q =>
    rw [hr] at h1
    obtain ⟨τ', a, b, c, d⟩ := h1
    dsimp only at b d ⊢
    rw [a, Option.bind_some]
    dsimp only
    rw [if_neg (by decide), if_pos hi]
    exact ⟨_, rfl, b.u _ _ (by decide) (by decide), (c.fr (Or.inl (by decide)) (Or.inl (by decide)) (Or.inl (by decide))).tr (FR.u (Or.inr ⟨Or.inr rfl, rfl⟩)), (pU_c _ _ _ _ (by decide)).trans ((c.1 _ _ (by decide)).trans hb), (pU_s _ _ _ _).trans d⟩
theorem m_plc {τ : pS} {p i : Int} (h : TM τ T n p) (hi : 0 ≤ i ∧ i < 20) : match sPlc T n p with
    | .inl q => ∃ τ', f_M_readsPlace_84 i τ = some (1, τ') ∧ TM τ' T n q.2 ∧ FR (Qp i.toNat) τ τ' ∧ τ' 116 i.toNat = q.1.1 ∧ τ' 117 i.toNat = q.1.2
    | .inr f => ∃ τ', f_M_readsPlace_84 i τ = some (0, τ') ∧ τ' 84 21 = f ∧ FR (Qp i.toNat) τ τ' := by
  unfold sPlc f_M_readsPlace_84
  have h0 := h.u (k := 116) i.toNat (-1) (by decide) (by decide)
  have hF0 : FR (Qp i.toNat) τ (pU τ 116 i.toNat (-1)) := FR.u (Or.inr ⟨Or.inl rfl, rfl⟩)
  rw [if_pos hi, m_here h0, Option.bind_some]
  dsimp only
  have h0' := h0
  obtain ⟨h1, h2, ⟨h3, h4, h5⟩, h6⟩ := h0'
  by_cases hc : hd T n p = 114
  · have hp : p < n := hd_in (T := T) (by omega)
    have hg : TM (pU (pU τ 116 i.toNat (-1)) 84 19 (p + 1)) T n (p + 1) := h0.at (pU_s _ _ _ _) (pU_i _ _ _ _ (by decide)) (fun i => pU_c _ _ _ _ (by decide)) (by omega) (by omega)
    have hF1 : FR (Qp i.toNat) τ (pU (pU τ 116 i.toNat (-1)) 84 19 (p + 1)) := hF0.tr (FR.u (Or.inl (by decide)))
    rw [if_pos hc, if_pos hc, h1, pw_id (by omega) (by omega)]
    have h7 := m_reg hg
    cases hr : sReg T n (p + 1) with
    | inr f =>
      rw [hr] at h7
      obtain ⟨τ', a, b, c⟩ := h7
      dsimp only
      rw [a, Option.bind_some]
      exact ⟨τ', rfl, b, hF1.tr (c.fr (Or.inl (by decide)) (Or.inl (by decide)) (Or.inl (by decide)))⟩
    | inl q =>
      rw [hr] at h7
      obtain ⟨τ', a, b, c, d⟩ := h7
      dsimp only at b d ⊢
      rw [a, Option.bind_some]
      dsimp only
      rw [if_neg (by decide), if_pos hi, d]
      have h8 := m_tak (c := 43) (b.u (k := 116) i.toNat q.1 (by decide) (by decide)) (by decide)
      have hF2 : FR (Qp i.toNat) τ (pU τ' 116 i.toNat q.1) := (hF1.tr (c.fr (Or.inl (by decide)) (Or.inl (by decide)) (Or.inl (by decide)))).tr (FR.u (Or.inr ⟨Or.inl rfl, rfl⟩))
      cases ht : sTak T n 43 q.2 with
      | inr f =>
        rw [ht] at h8
        obtain ⟨τ2, a2, b2, c2⟩ := h8
        dsimp only
        rw [a2, Option.bind_some]
        exact ⟨τ2, rfl, b2, hF2.tr (c2.fr (Or.inl (by decide)) (Or.inl (by decide)) (Or.inl (by decide)))⟩
      | inl p1 =>
        rw [ht] at h8
        obtain ⟨τ2, a2, b2, c2⟩ := h8
        dsimp only
        rw [a2, Option.bind_some]
        dsimp only
        rw [if_neg (by decide)]
        have h9 := m_p56 (i := i) (bs := q.1) b2 hi ((c2.1 _ _ (by decide)).trans (pU_s _ _ _ _))
        have hF3 := hF2.tr (c2.fr (Or.inl (by decide)) (Or.inl (by decide)) (Or.inl (by decide)))
        cases hq : sPlN T n q.1 p1 with
        | inr f =>
          rw [hq] at h9
          obtain ⟨τ3, a3, b3, c3⟩ := h9
          exact ⟨τ3, a3, b3, hF3.tr c3⟩
        | inl w =>
          rw [hq] at h9
          obtain ⟨τ3, a3, b3, c3, d3⟩ := h9
          exact ⟨τ3, a3, b3, hF3.tr c3, d3⟩
  · rw [if_neg hc, if_neg hc]
    have h9 := m_p56 (i := i) h0 hi (pU_s _ _ _ _)
    cases hq : sPlN T n (-1) p with
    | inr f =>
      rw [hq] at h9
      obtain ⟨τ3, a3, b3, c3⟩ := h9
      exact ⟨τ3, a3, b3, hF0.tr c3⟩
    | inl w =>
      rw [hq] at h9
      obtain ⟨τ3, a3, b3, c3, d3⟩ := h9
      exact ⟨τ3, a3, b3, hF0.tr c3, d3⟩
end CO5
