def CPy (τ : pS) (j : Nat) : Prop := τ 88 j = τ 110 j ∧ τ 89 j = τ 111 j ∧ τ 90 j = τ 112 j ∧ τ 91 j = τ 113 j ∧ τ 92 j = τ 114 j ∧ τ 93 j = τ 115 j ∧ τ 94 j = τ 116 j ∧ τ 95 j = τ 117 j ∧ τ 87 j = -1
def Q100 (k x : Nat) : Prop := (87 ≤ k ∧ k ≤ 95) ∨ k = 145 ∨ (k = 84 ∧ (x = 3 ∨ x = 75 ∨ x = 5))
theorem m_100 {m : Nat} (hm : m ≤ 20) : ∀ (d i fu : Nat) (τ : pS), i + d = m → d < fu → τ 84 2 = (m : Int) → (∀ j, j < i → CPy τ j) → ∃ τ', f_M_program_84_p100 fu (i : Int) τ = some ((m : Int), τ') ∧ (∀ j, j < m → CPy τ' j) ∧ FR Q100 τ τ' ∧ τ' 84 3 = 0 ∧ τ' 84 75 = 0 ∧ τ' 145 0 = 0 ∧ τ' 145 1 = 0 ∧ τ' 84 5 = pw (τ 84 5 + 1)
  | 0, i, fu, τ, hd1, hf, h2, hc => by
    obtain ⟨fu, rfl⟩ : ∃ k, fu = k + 1 := ⟨fu - 1, by omega⟩
    obtain rfl : i = m := by omega
    refine ⟨pU (pU (pU (pU (pU τ 84 3 0) 84 75 0) 145 0 0) 145 1 0) 84 5 (pw (τ 84 5 + 1)), ?_, fun j hj => ?_, ?_, ?_, ?_, ?_, ?_, pU_s _ _ _ _⟩
    · rw [f_M_program_84_p100, if_pos (by omega), h2]
    · have h := hc j hj
      unfold CPy at h ⊢
      have e : ∀ k x, k ≠ 84 → k ≠ 145 → pU (pU (pU (pU (pU τ 84 3 0) 84 75 0) 145 0 0) 145 1 0) 84 5 (pw (τ 84 5 + 1)) k x = τ k x := fun k x h1 h2 => (pU_c _ _ _ _ h1).trans ((pU_c _ _ _ _ h2).trans ((pU_c _ _ _ _ h2).trans ((pU_c _ _ _ _ h1).trans (pU_c _ _ _ _ h1))))
      simp only [e _ _ (show 88 ≠ 84 by decide) (by decide), e _ _ (show 89 ≠ 84 by decide) (by decide), e _ _ (show 90 ≠ 84 by decide) (by decide), e _ _ (show 91 ≠ 84 by decide) (by decide), e _ _ (show 92 ≠ 84 by decide) (by decide), e _ _ (show 93 ≠ 84 by decide) (by decide), e _ _ (show 94 ≠ 84 by decide) (by decide), e _ _ (show 95 ≠ 84 by decide) (by decide), e _ _ (show 87 ≠ 84 by decide) (by decide), e _ _ (show 110 ≠ 84 by decide) (by decide), e _ _ (show 111 ≠ 84 by decide) (by decide), e _ _ (show 112 ≠ 84 by decide) (by decide), e _ _ (show 113 ≠ 84 by decide) (by decide), e _ _ (show 114 ≠ 84 by decide) (by decide), e _ _ (show 115 ≠ 84 by decide) (by decide), e _ _ (show 116 ≠ 84 by decide) (by decide), e _ _ (show 117 ≠ 84 by decide) (by decide)]
      exact h
    · exact ((((FR.u (Or.inr (Or.inr ⟨rfl, by decide⟩))).tr (FR.u (Or.inr (Or.inr ⟨rfl, by decide⟩)))).tr (FR.u (Or.inr (Or.inl rfl)))).tr (FR.u (Or.inr (Or.inl rfl)))).tr (FR.u (Or.inr (Or.inr ⟨rfl, by decide⟩)))
    · simp [pU]
    · simp [pU]
    · simp [pU]
    · simp [pU]
  | d + 1, i, fu, τ, hd1, hf, h2, hc => by
    obtain ⟨fu, rfl⟩ : ∃ k, fu = k + 1 := ⟨fu - 1, by omega⟩
    have hi : 0 ≤ (i : Int) ∧ (i : Int) < 20 := by omega
    generalize hτ1 : (pU (pU (pU (pU (pU (pU (pU (pU (pU τ 88 i (τ 110 i)) 89 i (τ 111 i)) 90 i (τ 112 i)) 91 i (τ 113 i)) 92 i (τ 114 i)) 93 i (τ 115 i)) 94 i (τ 116 i)) 95 i (τ 117 i)) 87 i (-1)) = τ1
    have hn : ∀ k x, ¬ (87 ≤ k ∧ k ≤ 95 ∧ x = i) → τ1 k x = τ k x := by
      intro k x h
      rw [← hτ1]
      unfold pU
      rw [if_neg (by omega), if_neg (by omega), if_neg (by omega), if_neg (by omega), if_neg (by omega), if_neg (by omega), if_neg (by omega), if_neg (by omega), if_neg (by omega)]
    have st : f_M_program_84_p100 (fu + 1) (i : Int) τ = f_M_program_84_p100 fu ((i + 1 : Nat) : Int) τ1 := by
      rw [f_M_program_84_p100, if_neg (by omega)]
      simp only [if_pos hi, Int.toNat_natCast]
      rw [hτ1, pw_id (by omega) (by omega)]
      rfl
    have hc1 : ∀ j, j < i + 1 → CPy τ1 j := by
      intro j hj
      by_cases hji : j = i
      · subst hji
        unfold CPy
        rw [← hτ1]
        simp [pU]
      · have h := hc j (by omega)
        have e : ∀ k, τ1 k j = τ k j := fun k => hn k j (by omega)
        unfold CPy at h ⊢
        simp only [e]
        exact h
    obtain ⟨τ', a1, a2, a3, a4, a5, a6, a7, a8⟩ := m_100 hm d (i + 1) fu τ1 (by omega) (by omega) ((hn _ _ (by omega)).trans h2) hc1
    rw [st]
    refine ⟨τ', a1, a2, FR.tr (fun k x => ?_) a3, a4, a5, a6, a7, by rw [a8, hn _ _ (by omega)]⟩
    by_cases hk : 87 ≤ k ∧ k ≤ 95 ∧ x = i
    · exact Or.inl (Or.inl ⟨hk.1, hk.2.1⟩)
    · exact Or.inr (hn k x hk)
/-- the tapes are alike -/
def TR (σ τ : pS) : Prop := σ 1 1 = τ 84 18 ∧ (0 ≤ σ 1 1 ∧ σ 1 1 ≤ 260) ∧ ∀ i : Nat, (i : Int) < σ 1 1 → σ 2 i = pAnd (τ 96 i) 255 ∧ 0 ≤ σ 2 i ∧ σ 2 i ≤ 255
def CRp (σ : pS) (i : Nat) (r : O8) : Prop := σ 5 i = r.1 ∧ σ 6 i = r.2.1 ∧ σ 7 i = r.2.2.1 ∧ ((r.1 = 3 ∧ σ 8 i = -1 ∧ σ 9 i = r.2.2.2.1) ∨ (r.1 ≠ 3 ∧ σ 8 i = r.2.2.2.1 ∧ σ 9 i = r.2.2.2.2.1)) ∧ ((r.1 = 1 ∧ σ 10 i = r.2.2.2.2.2.1) ∨ (r.1 ≠ 1 ∧ σ 10 i = r.2.2.2.2.2.2.1)) ∧ σ 11 i = r.2.2.2.2.2.2.2
def MRp (τ : pS) (i : Nat) (r : O8) : Prop := τ 88 i = r.1 ∧ τ 89 i = r.2.1 ∧ τ 90 i = r.2.2.2.1 ∧ (r.1 = 1 → τ 91 i = r.2.2.2.2.1 ∧ τ 92 i = r.2.2.2.2.2.1) ∧ (2 ≤ r.1 → τ 93 i = r.2.2.1 ∧ τ 94 i = r.2.2.2.2.2.2.1) ∧ (r.1 ≠ 1 → τ 95 i = r.2.2.2.2.2.2.2)
def DPT (g F S D : Nat → Int) (m : Nat) (dp : Int) : Prop := (∀ j, j < m → (1 ≤ D j ∧ D j ≤ (j : Int) + 1) ∧ D j = 1 + pMax (dz D (src g j (F j))) (dz D (src g j (S j)))) ∧ (0 ≤ dp ∧ (∀ j, j < m → D j ≤ dp) ∧ (m = 0 → dp = 0) ∧ (0 < m → ∃ j, j < m ∧ dp = D j))
/-- the programs are alike -/
def PRG (σ τ : pS) : Prop := ∃ (m : Nat) (rec : Nat → O8) (D : Nat → Int), m ≤ 20 ∧ σ 4 11 = (m : Int) ∧ τ 84 2 = (m : Int) ∧ (∀ j, j < m → CRp σ j (rec j) ∧ MRp τ j (rec j) ∧ VR (rec j)) ∧ (∀ j, j < m → σ 12 j = src (σ 8) j (σ 9 j) ∧ σ 13 j = src (σ 8) j (σ 10 j)) ∧ DPT (σ 8) (σ 9) (σ 10) D m (σ 4 12)
theorem gv_cg {g g' : Nat → Int} {r : Int} : ∀ (i : Nat), (∀ j, j < i → g j = g' j) → gv g i r = gv g' i r
  | 0, _ => rfl
  | i + 1, h => by
    unfold gv
    rw [h i (by omega), gv_cg i (fun j hj => h j (by omega))]
theorem src_cg {g g' : Nat → Int} {r : Int} {i : Nat} (h : ∀ j, j < i → g j = g' j) : src g i r = src g' i r := by
  unfold src
  rw [gv_cg i h]
theorem PRG.mv {σ σ' τ τ' : pS} (h : PRG σ τ) (h1 : σ' 4 11 = σ 4 11) (h2 : σ' 4 12 = σ 4 12) (h3 : ∀ k x, 5 ≤ k → k ≤ 13 → σ' k x = σ k x) (h4 : τ' 84 2 = τ 84 2) (h5 : ∀ k x, 88 ≤ k → k ≤ 95 → τ' k x = τ k x) : PRG σ' τ' := by
  obtain ⟨m, rec, D, a1, a2, a3, a4, a5, a6⟩ := h
  have e8 : σ' 8 = σ 8 := funext (fun x => h3 _ _ (by decide) (by decide))
  have e9 : σ' 9 = σ 9 := funext (fun x => h3 _ _ (by decide) (by decide))
  have e10 : σ' 10 = σ 10 := funext (fun x => h3 _ _ (by decide) (by decide))
  refine ⟨m, rec, D, a1, h1.trans a2, h4.trans a3, fun j hj => ?_, fun j hj => ?_, ?_⟩
  · obtain ⟨b1, b2, b3⟩ := a4 j hj
    unfold CRp at b1 ⊢
    unfold MRp at b2 ⊢
    simp only [h3 5 _ (by decide) (by decide), h3 6 _ (by decide) (by decide), h3 7 _ (by decide) (by decide), h3 8 _ (by decide) (by decide), h3 9 _ (by decide) (by decide), h3 10 _ (by decide) (by decide), h3 11 _ (by decide) (by decide), h5 88 _ (by decide) (by decide), h5 89 _ (by decide) (by decide), h5 90 _ (by decide) (by decide), h5 91 _ (by decide) (by decide), h5 92 _ (by decide) (by decide), h5 93 _ (by decide) (by decide), h5 94 _ (by decide) (by decide), h5 95 _ (by decide) (by decide)]
    exact ⟨b1, b2, b3⟩
  · rw [h3 12 _ (by decide) (by decide), h3 13 _ (by decide) (by decide), e8, e9, e10]
    exact a5 j hj
  · rw [e8, e9, e10, h2]
    exact a6
theorem prog_ls {σ τ : pS} {a : Int} (hTR : TR σ τ) (hPR : PRG σ τ) : ∃ v σ' τ', f_X_program_0 a σ = some (v, σ') ∧ f_M_program_84 a τ = some (v, τ') ∧ TR σ' τ' ∧ PRG σ' τ' := by
  obtain ⟨t1, t2, t3⟩ := hTR
  by_cases hb : (1 ≤ a ∧ a ≤ 240) ∧ a ≤ σ 1 1
  · obtain ⟨hb1, hb2⟩ := hb
    have hTB : TB (fun i => σ 2 i) a := fun i hi => (t3 i (by omega)).2
    -- the starts
    generalize hσ0 : pU (pU (pU σ 1 2 a) 1 3 0) 1 4 0 = σ0
    generalize hτ0 : pU (pU (pU (pU (pU τ 84 19 0) 84 20 a) 84 24 0) 84 26 0) 84 41 0 = τ0
    have hP0 : TP σ0 (fun i => σ 2 i) a 0 := by
      rw [← hσ0]
      refine ⟨by simp [pU], by simp [pU], ⟨by omega, by omega, by omega⟩, fun i hi => by simp [pU]⟩
    have hM0 : TM τ0 (fun i => σ 2 i) a 0 := by
      rw [← hτ0]
      refine ⟨by simp [pU], by simp [pU], ⟨by omega, by omega, by omega⟩, fun i hi => ?_⟩
      rw [show pU (pU (pU (pU (pU τ 84 19 0) 84 20 a) 84 24 0) 84 26 0) 84 41 0 96 i = τ 96 i by simp [pU]]
      exact (t3 i (by omega)).1.symm
    have h41 : τ0 84 41 = ((0 : Nat) : Int) := by rw [← hτ0]; simp [pU]
    have n0 : ∀ k x, k ≠ 1 → σ0 k x = σ k x := fun k x h => by rw [← hσ0]; exact (pU_c _ _ _ _ h).trans ((pU_c _ _ _ _ h).trans (pU_c _ _ _ _ h))
    have m0 : ∀ k x, ¬ (k = 84 ∧ (x = 19 ∨ x = 20 ∨ x = 24 ∨ x = 26 ∨ x = 41)) → τ0 k x = τ k x := fun k x h => by
      rw [← hτ0]
      unfold pU
      rw [if_neg (by omega), if_neg (by omega), if_neg (by omega), if_neg (by omega), if_neg (by omega)]
    have eX : f_X_program_0 a σ = (f_Prog_readFrom_45_1 σ0).bind fun q5 => if q5.1 < 0 then f_X_program_0_p101 q5.1 q5.2 else (f_Prog_copyFrom_4_45 q5.2).bind fun q8 => (f_State_dropSets_24 q8.2).bind fun q9 => (f_Rows_clear_82 (pU q9.2 24 3 0)).bind fun q10 => f_X_program_0_p101 q5.1 (pU (pU q10.2 0 8 0) 0 10 1) := by
      unfold f_X_program_0
      rw [if_neg (by omega), if_neg (by omega), if_pos hb2]
      unfold f_Tape_beginText_1
      rw [Option.bind_some]
      dsimp only
      rw [show pMin a (σ 1 1) = a by unfold pMin; rw [if_neg (by omega)], hσ0]
    have eM : f_M_program_84 a τ = m_at 4096 τ0 := by
      unfold f_M_program_84
      rw [m_in, if_pos hb1, Option.bind_some]
      dsimp only
      rw [if_neg (by decide), if_pos (by omega)]
      unfold f_M_beginsText_84
      rw [Option.bind_some]
      dsimp only
      rw [hτ0]
      unfold m_at
      have h := m_op hM0 (by omega) h41
      cases hs : sOp (fun i => σ 2 i) a 0 with
      | inr f =>
        rw [hs] at h
        obtain ⟨τ', b1, -⟩ := h
        rw [b1, Option.bind_some, Option.bind_some]
        rfl
      | inl q =>
        rw [hs] at h
        obtain ⟨τ', b1, -⟩ := h
        rw [b1, Option.bind_some, Option.bind_some]
        rfl
    rw [eX, eM]
    unfold f_Prog_readFrom_45_1
    rcases pr_ls hTB 20 0 4096 4096 0 σ0 τ0 (fun _ => (0, 0, 0, 0, 0, 0, 0, 0)) (by omega) (by omega) (by omega) hP0 hM0 h41 (fun j hj => absurd hj (by omega)) with ⟨f, σ', τ', k1, k2, k3, k4, k5, k6⟩ | ⟨m, σe, τe, rec, k0, k1, k2, k3, k4, k5, k6, k7⟩
    · rw [show ((0 : Nat) : Int) = 0 from rfl] at k2
      rw [k2, k3, Option.bind_some]
      dsimp only
      rw [if_pos k1]
      refine ⟨f, pU σ' 1 1 0, τ', rfl, rfl, ⟨by rw [pU_s, k6], by rw [pU_s]; omega, fun i hi => by rw [pU_s] at hi; omega⟩, ?_⟩
      have c : ∀ k x, k ≠ 1 → k < 46 → pU σ' 1 1 0 k x = σ k x := fun k x h1 h2 => (pU_c _ _ _ _ h1).trans ((k4.get (by unfold PA; omega)).trans (n0 k x h1))
      have d : ∀ k x, ¬ QA k x → k ≠ 84 ∨ x = 2 → τ' k x = τ k x := fun k x h1 h2 => (k5.get h1).trans (m0 k x (by omega))
      exact hPR.mv (c _ _ (by decide) (by decide)) (c _ _ (by decide) (by decide)) (fun k x h1 h2 => c _ _ (by omega) (by omega)) (d _ _ (by unfold QA; omega) (by omega)) (fun k x h1 h2 => d _ _ (by unfold QA; omega) (by omega))
    · rw [show ((0 : Nat) : Int) = 0 from rfl] at k2
      have hgv : ∀ j, j < m → -1 ≤ pU σe 45 11 (m : Int) 49 j ∧ pU σe 45 11 (m : Int) 49 j ≤ 7 := by
        intro j hj
        rw [pU_c _ _ _ _ (by decide)]
        obtain ⟨c1, -, c3⟩ := k5 j hj
        obtain ⟨-, -, -, c4, -⟩ := c1
        obtain ⟨-, v2, -⟩ := c3
        rcases c4 with ⟨-, h, -⟩ | ⟨-, h, -⟩ <;> omega
      obtain ⟨σf, f1, f2, f3⟩ := c_find (σ := pU σe 45 11 (m : Int)) k1 hgv (pU_s _ _ _ _)
      have f11 : σf 45 11 = (m : Int) := (f3.get (by unfold Ps; omega)).trans (pU_s _ _ _ _)
      have fe : ∀ k x, 46 ≤ k → k ≤ 52 → σf k x = σe k x := fun k x h1 h2 => (f3.get (by unfold Ps; omega)).trans (pU_c _ _ _ _ (by omega))
      rw [k2, f1, Option.bind_some]
      dsimp only
      rw [Option.bind_some]
      dsimp only
      rw [f11, if_neg (by omega)]
      -- the class's end
      unfold f_Prog_copyFrom_4_45
      rw [Option.bind_some]
      dsimp only
      unfold f_State_dropSets_24
      rw [fill_27, Option.bind_some, Option.bind_some]
      dsimp only
      unfold f_Rows_clear_82
      rw [fill_83, Option.bind_some, Option.bind_some]
      dsimp only
      unfold f_X_program_0_p101 f_Tape_clear_1
      rw [Option.bind_some]
      dsimp only
      -- the reference's end
      rw [k3]
      unfold f_M_program_84_p76
      rw [if_neg (by decide), k4]
      obtain ⟨τ', a1, a2, a3, -⟩ := m_100 (m := m) k1 m 0 4096 (pU (pU τe 84 18 0) 84 2 (m : Int)) (by omega) (by omega) (pU_s _ _ _ _) (fun j hj => absurd hj (by omega))
      rw [show ((0 : Nat) : Int) = 0 from rfl] at a1
      rw [a1]
      generalize hσ' : pU (pU (pU (pFl (pU (pFl (pU (pU (pKp (pKp (pKp (pKp (pKp (pKp (pKp (pKp (pKp σf 46 5 20) 47 6 20) 48 7 20) 49 8 20) 50 9 20) 51 10 20) 52 11 20) 53 12 20) 54 13 20) 4 11 (σf 45 11)) 4 12 (σf 45 12)) 27 20 0 (-1)) 24 3 0) 83 2 0 0) 0 8 0) 0 10 1) 1 1 0 = σ'
      refine ⟨(m : Int), σ', τ', rfl, rfl, ?_, ?_⟩
      · have e1 : σ' 1 1 = 0 := by rw [← hσ']; exact pU_s _ _ _ _
        have e2 : τ' 84 18 = 0 := (a3.get (by unfold Q100; omega)).trans ((pU_i _ _ _ _ (by decide)).trans (pU_s _ _ _ _))
        exact ⟨by rw [e1, e2], by rw [e1]; omega, fun i hi => by rw [e1] at hi; omega⟩
      · have q : ∀ j, j < 20 → σ' 5 j = σe 46 j ∧ σ' 6 j = σe 47 j ∧ σ' 7 j = σe 48 j ∧ σ' 8 j = σe 49 j ∧ σ' 9 j = σe 50 j ∧ σ' 10 j = σe 51 j ∧ σ' 11 j = σe 52 j ∧ σ' 12 j = σf 53 j ∧ σ' 13 j = σf 54 j := by
          intro j hj
          rw [← hσ', ← fe 46 j (by decide) (by decide), ← fe 47 j (by decide) (by decide), ← fe 48 j (by decide) (by decide), ← fe 49 j (by decide) (by decide), ← fe 50 j (by decide) (by decide), ← fe 51 j (by decide) (by decide), ← fe 52 j (by decide) (by decide)]
          refine ⟨?_, ?_, ?_, ?_, ?_, ?_, ?_, ?_, ?_⟩ <;> simp [pU, pFl, pKp, hj]
        have q11 : σ' 4 11 = (m : Int) := by rw [← hσ', ← f11]; simp [pU, pFl]
        have q12 : σ' 4 12 = σf 45 12 := by rw [← hσ']; simp [pU, pFl]
        have t84 : τ' 84 2 = (m : Int) := (a3.get (by unfold Q100; omega)).trans (pU_s _ _ _ _)
        have tn : ∀ k x, 110 ≤ k → k ≤ 117 → τ' k x = τe k x := fun k x h1 h2 => (a3.get (by unfold Q100; omega)).trans ((pU_c _ _ _ _ (by omega)).trans (pU_c _ _ _ _ (by omega)))
        obtain ⟨g1, g2, g3, g4⟩ := f2
        have eg : ∀ (j : Nat) (r : Int), j < m → src (σ' 8) j r = src (pU σe 45 11 (m : Int) 49) j r := fun j r hj => src_cg (fun x hx => ((q x (by omega)).2.2.2.1).trans (pU_c _ _ _ _ (by decide)).symm)
        refine ⟨m, rec, σf 56, k1, q11, t84, fun j hj => ?_, fun j hj => ?_, fun j hj => ?_, ?_⟩
        · obtain ⟨c1, c2, c3⟩ := k5 j hj
          obtain ⟨b1, b2, b3, b4, b5, b6, b7, -, -⟩ := q j (by omega)
          have hcp := a2 j hj
          unfold CPy at hcp
          refine ⟨?_, ?_, c3⟩
          · unfold CR at c1
            unfold CRp
            simp only [b1, b2, b3, b4, b5, b6, b7]
            exact c1
          · unfold MR at c2
            unfold MRp
            obtain ⟨d1, d2, d3, d4, d5, d6, d7, d8, -⟩ := hcp
            simp only [d1, d2, d3, d4, d5, d6, d7, d8, tn _ j (show 110 ≤ 110 by decide) (by decide), tn _ j (show 110 ≤ 111 by decide) (by decide), tn _ j (show 110 ≤ 112 by decide) (by decide), tn _ j (show 110 ≤ 113 by decide) (by decide), tn _ j (show 110 ≤ 114 by decide) (by decide), tn _ j (show 110 ≤ 115 by decide) (by decide), tn _ j (show 110 ≤ 116 by decide) (by decide), tn _ j (show 110 ≤ 117 by decide) (by decide)]
            exact c2
        · obtain ⟨s1, s2, -, -⟩ := g3 j hj
          obtain ⟨-, -, -, -, b5, b6, -, b8, b9⟩ := q j (by omega)
          rw [b8, b9, b5, b6, eg j _ hj, eg j _ hj]
          exact ⟨by rw [s1, pU_c _ _ _ _ (show 50 ≠ 45 by decide)], by rw [s2, pU_c _ _ _ _ (show 51 ≠ 45 by decide)]⟩
        · obtain ⟨-, -, s3, s4⟩ := g3 j hj
          obtain ⟨-, -, -, -, b5, b6, -, -, -⟩ := q j (by omega)
          rw [b5, b6, eg j _ hj, eg j _ hj]
          rw [pU_c _ _ _ _ (show 50 ≠ 45 by decide), pU_c _ _ _ _ (show 51 ≠ 45 by decide)] at s4
          exact ⟨s3, s4⟩
        · rw [q12]
          exact g4
  · -- refused
    refine ⟨-1, σ, τ, ?_, ?_, ⟨t1, t2, t3⟩, hPR⟩
    · unfold f_X_program_0
      by_cases h1 : a < 1
      · rw [if_pos h1]
      · rw [if_neg h1]
        by_cases h2 : 240 < a
        · rw [if_pos h2]
        · rw [if_neg h2, if_neg (by omega)]
    · unfold f_M_program_84
      rw [m_in, Option.bind_some]
      by_cases h1 : 1 ≤ a ∧ a ≤ 240
      · rw [if_pos h1]
        dsimp only
        rw [if_neg (by decide), if_neg (by omega)]
      · rw [if_neg h1]
        dsimp only
        rw [if_pos rfl]
