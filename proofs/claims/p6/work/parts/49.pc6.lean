def Qm (i : Nat) (k x : Nat) : Prop := (k = 84 ∧ (x = 19 ∨ x = 21 ∨ x = 22)) ∨ (110 ≤ k ∧ k ≤ 117 ∧ x = i)
theorem MO.qm {a b : pS} {i : Nat} (h : MO a b) : FR (Qm i) a b := h.fr (Or.inl (by decide)) (Or.inl (by decide)) (Or.inl (by decide))
section MO6
variable {T : Nat → Int} {n : Int}
/-- behind the register and the comma -/
def m_tail (k i : Int) (τ : pS) : Option (Int × pS) := if k = 2 then (f_M_readsOp_84_p177 i τ) else (if k = 3 then (f_M_readsOp_84_p177 i τ) else (if k = 0 then ((f_M_readsAmount_84 τ).bind fun q32 => (if q32.1 = 0 then (some (0, q32.2)) else (if 0 ≤ i ∧ i < 20 then (some (1, pU q32.2 117 (i.toNat) (q32.2 84 22))) else none))) else ((f_M_readsRegister_84 τ).bind fun q24 => (if q24.1 = 0 then (some (0, q24.2)) else (if 0 ≤ i ∧ i < 20 then ((f_M_takes_84 44 (pU q24.2 113 (i.toNat) (q24.2 84 22))).bind fun q27 => (if q27.1 = 0 then (some (0, q27.2)) else ((f_M_readsRegister_84 q27.2).bind fun q29 => (if q29.1 = 0 then (some (0, q29.2)) else (if 0 ≤ i ∧ i < 20 then (some (1, pU q29.2 114 (i.toNat) (q29.2 84 22))) else none))))) else none)))))
theorem m_137 {τ : pS} {p i k : Int} (h : TM τ T n p) (hi : 0 ≤ i ∧ i < 20) : match sGiv T n p with
    | .inl q => ∃ τ', f_M_readsOp_84_p137 k i τ = m_tail k i τ' ∧ TM τ' T n q.2 ∧ FR (Qm i.toNat) τ τ' ∧ τ' 112 i.toNat = q.1 ∧ ∀ c x, c ≠ 84 → c ≠ 112 → τ' c x = τ c x
    | .inr f => ∃ τ', f_M_readsOp_84_p137 k i τ = some (0, τ') ∧ τ' 84 21 = f ∧ FR (Qm i.toNat) τ τ' := by
  unfold sGiv f_M_readsOp_84_p137
  have h1 := m_reg h
  cases hr : sReg T n p with
  | inr f =>
    rw [hr] at h1
    obtain ⟨τ1, a, b, c⟩ := h1
    dsimp only
    rw [a, Option.bind_some]
    exact ⟨τ1, rfl, b, c.qm⟩
  | inl q =>
    rw [hr] at h1
    obtain ⟨τ1, a, b, c, d⟩ := h1
    dsimp only at b d ⊢
    rw [a, Option.bind_some]
    dsimp only
    rw [if_neg (by decide), if_pos hi, d]
    have h2 := m_tak (c := 44) (b.u (k := 112) i.toNat q.1 (by decide) (by decide)) (by decide)
    have hF : FR (Qm i.toNat) τ (pU τ1 112 i.toNat q.1) := c.qm.tr (FR.u (Or.inr ⟨by decide, by decide, rfl⟩))
    cases ht : sTak T n 44 q.2 with
    | inr f =>
      rw [ht] at h2
      obtain ⟨τ2, a2, b2, c2⟩ := h2
      dsimp only
      rw [a2, Option.bind_some]
      exact ⟨τ2, rfl, b2, hF.tr c2.qm⟩
    | inl p1 =>
      rw [ht] at h2
      obtain ⟨τ2, a2, b2, c2⟩ := h2
      dsimp only
      rw [a2, Option.bind_some]
      exact ⟨τ2, rfl, b2, hF.tr c2.qm, (c2.1 _ _ (by decide)).trans (pU_s _ _ _ _), fun k x h1 h2 => (c2.1 _ _ h1).trans ((pU_c _ _ _ _ h2).trans (c.1 _ _ h1))⟩
theorem m_177 {τ : pS} {p i : Int} (h : TM τ T n p) (hi : 0 ≤ i ∧ i < 20) : match sPlc T n p with
    | .inl q => ∃ τ', f_M_readsOp_84_p177 i τ = some (1, τ') ∧ TM τ' T n q.2 ∧ FR (Qp i.toNat) τ τ' ∧ τ' 116 i.toNat = q.1.1 ∧ τ' 117 i.toNat = q.1.2
    | .inr f => ∃ τ', f_M_readsOp_84_p177 i τ = some (0, τ') ∧ τ' 84 21 = f ∧ FR (Qp i.toNat) τ τ' := by
  unfold f_M_readsOp_84_p177
  have h1 := m_plc h hi
  cases hr : sPlc T n p with
  | inr f =>
    rw [hr] at h1
    obtain ⟨τ', a, b, c⟩ := h1
    dsimp only
    rw [a, Option.bind_some]
    exact ⟨τ', rfl, b, c⟩
  | inl q =>
    rw [hr] at h1
    obtain ⟨τ', a, b⟩ := h1
    dsimp only
    rw [a, Option.bind_some]
    exact ⟨τ', rfl, b⟩
def Qc (i : Nat) (k x : Nat) : Prop := (k = 84 ∧ (x = 19 ∨ x = 21 ∨ x = 22 ∨ x = 41)) ∨ (110 ≤ k ∧ k ≤ 117 ∧ x = i)
theorem m_op {τ : pS} {p i : Int} (h : TM τ T n p) (hi : 0 ≤ i ∧ i < 20) (h41 : τ 84 41 = i) : match sOp T n p with
    | .inl q => ∃ τ', f_M_readsOp_84 τ = some (1, τ') ∧ TM τ' T n q.2 ∧ FR (Qc i.toNat) τ τ' ∧ τ' 84 41 = i + 1 ∧ MR τ' i.toNat q.1
    | .inr f => ∃ τ', f_M_readsOp_84 τ = some (0, τ') ∧ τ' 84 21 = f ∧ FR (Qc i.toNat) τ τ' := by
  have hqc : ∀ k x, Qm i.toNat k x → Qc i.toNat k x := fun k x hk => by unfold Qm at hk; unfold Qc; omega
  have hqp : ∀ k x, Qp i.toNat k x → Qm i.toNat k x := fun k x hk => by unfold Qp at hk; unfold Qm; omega
  have h' := h
  obtain ⟨h1, h2, ⟨h3, h4, h5⟩, h6⟩ := h'
  unfold sOp f_M_readsOp_84
  rw [m_here h, Option.bind_some]
  dsimp only
  rw [ko_m, Option.bind_some]
  dsimp only
  by_cases hk : ko (hd T n p) = -1
  · rw [if_pos hk, if_pos hk, h1, m_wrong (by omega) (by omega)]
    exact ⟨pU τ 84 21 (-1000 * 1 - p), rfl, pU_s _ _ _ _, FR.u (Or.inl ⟨rfl, by decide⟩)⟩
  · have hp := ko_in hk
    have hkr := ko_r (hd T n p)
    rw [if_neg hk, if_neg hk]
    simp only [h41]
    rw [if_neg (show ¬ i = 20 by omega), if_pos hi, pw_id (z := i + 1) (by omega) (by omega)]
    have hA : TM (pU (pU τ 84 41 (i + 1)) 110 i.toNat (ko (hd T n p))) T n p := (h.at ((pU_i _ _ _ _ (by decide)).trans h1) (pU_i _ _ _ _ (by decide)) (fun x => pU_c _ _ _ _ (by decide)) h3 h4).u _ _ (by decide) (by decide)
    rw [m_here hA, Option.bind_some, if_pos hi]
    dsimp only
    have hA1 := hA.1
    rw [hA1, pw_id (z := p + 1) (by omega) (by omega)]
    generalize hτ1 : pU (pU (pU (pU τ 84 41 (i + 1)) 110 i.toNat (ko (hd T n p))) 111 i.toNat (hd T n p)) 84 19 (p + 1) = τ1
    have hT1 : TM τ1 T n (p + 1) := by
      rw [← hτ1]
      exact (hA.u _ _ (by decide) (by decide)).at (pU_s _ _ _ _) (pU_i _ _ _ _ (by decide)) (fun x => pU_c _ _ _ _ (by decide)) (by omega) (by omega)
    have hF1 : FR (Qc i.toNat) τ τ1 := by
      rw [← hτ1]
      exact (((FR.u (Or.inl ⟨rfl, by decide⟩)).tr (FR.u (Or.inr ⟨by decide, by decide, rfl⟩))).tr (FR.u (Or.inr ⟨by decide, by decide, rfl⟩))).tr (FR.u (Or.inl ⟨rfl, by decide⟩))
    have e41 : τ1 84 41 = i + 1 := by rw [← hτ1]; simp [pU]
    have e110 : τ1 110 i.toNat = ko (hd T n p) := by rw [← hτ1]; simp [pU]
    have e111 : τ1 111 i.toNat = hd T n p := by rw [← hτ1]; simp [pU]
    have hn41 : ∀ {i : Nat}, ¬ Qm i 84 41 := fun {i} hq => by unfold Qm at hq; omega
    by_cases hk0 : ko (hd T n p) = 0
    · rw [if_pos hk0, if_neg (show ¬ ko (hd T n p) = 2 by omega), if_neg (show ¬ ko (hd T n p) = 3 by omega)]
      unfold sOp0
      have h7 := m_137 (k := ko (hd T n p)) hT1 hi
      cases hr : sGiv T n (p + 1) with
      | inr f =>
        rw [hr] at h7
        obtain ⟨τ2, a2, b2, c2⟩ := h7
        exact ⟨τ2, a2, b2, hF1.tr (c2.mono hqc)⟩
      | inl q =>
        rw [hr] at h7
        obtain ⟨τ2, a2, b2, c2, d2, e2⟩ := h7
        dsimp only at b2 d2 ⊢
        rw [a2]
        unfold m_tail
        rw [if_neg (by omega), if_neg (by omega), if_pos hk0]
        have h8 := m_num b2
        cases hq : sNum T n 4 q.2 with
        | inr f =>
          rw [hq] at h8
          obtain ⟨τ3, a3, b3, c3⟩ := h8
          dsimp only
          rw [a3, Option.bind_some]
          exact ⟨τ3, rfl, b3, hF1.tr ((c2.tr c3.qm).mono hqc)⟩
        | inl w =>
          rw [hq] at h8
          obtain ⟨τ3, a3, b3, c3, d3⟩ := h8
          dsimp only at b3 d3 ⊢
          rw [a3, Option.bind_some]
          dsimp only
          rw [if_neg (by decide), if_pos hi]
          have hF : FR (Qm i.toNat) τ1 (pU τ3 117 i.toNat (τ3 84 22)) := (c2.tr c3.qm).tr (FR.u (Or.inr ⟨by decide, by decide, rfl⟩))
          have g : ∀ c, c ≠ 84 → c ≠ 112 → c ≠ 117 → pU τ3 117 i.toNat (τ3 84 22) c i.toNat = τ1 c i.toNat := fun c h1 h2 h3 => (pU_c _ _ _ _ h3).trans ((c3.1 _ _ h1).trans (e2 _ _ h1 h2))
          refine ⟨_, rfl, b3.u _ _ (by decide) (by decide), hF1.tr (hF.mono hqc), (hF.get hn41).trans e41, ?_⟩
          unfold MR
          dsimp only
          exact ⟨(g 110 (by decide) (by decide) (by decide)).trans (e110.trans hk0), (g 111 (by decide) (by decide) (by decide)).trans e111, (pU_c _ _ _ _ (by decide)).trans ((c3.1 _ _ (by decide)).trans d2), fun h => absurd h (by decide), fun h => absurd h (by decide), fun _ => (pU_s _ _ _ _).trans d3⟩
    · rw [if_neg hk0]
      by_cases hk1 : ko (hd T n p) = 1
      · rw [if_pos hk1, if_neg (show ¬ ko (hd T n p) = 2 by omega), if_neg (show ¬ ko (hd T n p) = 3 by omega)]
        unfold sOp1
        have h7 := m_137 (k := ko (hd T n p)) hT1 hi
        cases hr : sGiv T n (p + 1) with
        | inr f =>
          rw [hr] at h7
          obtain ⟨τ2, a2, b2, c2⟩ := h7
          exact ⟨τ2, a2, b2, hF1.tr (c2.mono hqc)⟩
        | inl q =>
          rw [hr] at h7
          obtain ⟨τ2, a2, b2, c2, d2, e2⟩ := h7
          dsimp only at b2 d2 ⊢
          rw [a2]
          unfold m_tail
          rw [if_neg (by omega), if_neg (by omega), if_neg hk0]
          have h8 := m_reg b2
          cases hr2 : sReg T n q.2 with
          | inr f =>
            rw [hr2] at h8
            obtain ⟨τ3, a3, b3, c3⟩ := h8
            dsimp only
            rw [a3, Option.bind_some]
            exact ⟨τ3, rfl, b3, hF1.tr ((c2.tr c3.qm).mono hqc)⟩
          | inl u =>
            rw [hr2] at h8
            obtain ⟨τ3, a3, b3, c3, d3⟩ := h8
            dsimp only at b3 d3 ⊢
            rw [a3, Option.bind_some]
            dsimp only
            rw [if_neg (by decide), if_pos hi, d3]
            have h9 := m_tak (c := 44) (b3.u (k := 113) i.toNat u.1 (by decide) (by decide)) (by decide)
            have hF3 : FR (Qm i.toNat) τ1 (pU τ3 113 i.toNat u.1) := (c2.tr c3.qm).tr (FR.u (Or.inr ⟨by decide, by decide, rfl⟩))
            cases hr3 : sTak T n 44 u.2 with
            | inr f =>
              rw [hr3] at h9
              obtain ⟨τ4, a4, b4, c4⟩ := h9
              dsimp only
              rw [a4, Option.bind_some]
              exact ⟨τ4, rfl, b4, hF1.tr ((hF3.tr c4.qm).mono hqc)⟩
            | inl p1 =>
              rw [hr3] at h9
              obtain ⟨τ4, a4, b4, c4⟩ := h9
              dsimp only
              rw [a4, Option.bind_some]
              dsimp only
              rw [if_neg (by decide)]
              have h10 := m_reg b4
              cases hr4 : sReg T n p1 with
              | inr f =>
                rw [hr4] at h10
                obtain ⟨τ5, a5, b5, c5⟩ := h10
                dsimp only
                rw [a5, Option.bind_some]
                exact ⟨τ5, rfl, b5, hF1.tr (((hF3.tr c4.qm).tr c5.qm).mono hqc)⟩
              | inl w =>
                rw [hr4] at h10
                obtain ⟨τ5, a5, b5, c5, d5⟩ := h10
                dsimp only at b5 d5 ⊢
                rw [a5, Option.bind_some]
                dsimp only
                rw [if_neg (by decide), if_pos hi]
                have hF : FR (Qm i.toNat) τ1 (pU τ5 114 i.toNat (τ5 84 22)) := ((hF3.tr c4.qm).tr c5.qm).tr (FR.u (Or.inr ⟨by decide, by decide, rfl⟩))
                have g : ∀ c, c ≠ 84 → c ≠ 113 → c ≠ 114 → pU τ5 114 i.toNat (τ5 84 22) c i.toNat = τ2 c i.toNat := fun c h1 h2 h3 => (pU_c _ _ _ _ h3).trans ((c5.1 _ _ h1).trans ((c4.1 _ _ h1).trans ((pU_c _ _ _ _ h2).trans (c3.1 _ _ h1))))
                refine ⟨_, rfl, b5.u _ _ (by decide) (by decide), hF1.tr (hF.mono hqc), (hF.get hn41).trans e41, ?_⟩
                unfold MR
                dsimp only
                exact ⟨(g 110 (by decide) (by decide) (by decide)).trans ((e2 _ _ (by decide) (by decide)).trans (e110.trans hk1)), (g 111 (by decide) (by decide) (by decide)).trans ((e2 _ _ (by decide) (by decide)).trans e111), (g 112 (by decide) (by decide) (by decide)).trans d2, fun _ => ⟨(pU_c _ _ _ _ (by decide)).trans ((c5.1 _ _ (by decide)).trans ((c4.1 _ _ (by decide)).trans (pU_s _ _ _ _))), (pU_s _ _ _ _).trans d5⟩, fun h => absurd h (by decide), fun h => absurd rfl h⟩
      · rw [if_neg hk1]
        have hk23 : ko (hd T n p) = 2 ∨ ko (hd T n p) = 3 := by omega
        have e : (if ko (hd T n p) = 2 then f_M_readsOp_84_p94 (ko (hd T n p)) i τ1 else if ko (hd T n p) = 3 then f_M_readsOp_84_p94 (ko (hd T n p)) i τ1 else f_M_readsOp_84_p137 (ko (hd T n p)) i τ1) = f_M_readsOp_84_p94 (ko (hd T n p)) i τ1 := by
          rcases hk23 with hk2 | hk3
          · rw [if_pos hk2]
          · rw [if_neg (by omega), if_pos hk3]
        rw [e]
        unfold sOp2 sMov f_M_readsOp_84_p94
        rw [m_here hT1, Option.bind_some]
        dsimp only
        rw [so_m, Option.bind_some, if_pos hi, if_pos hi]
        dsimp only
        rw [pU_s, hT1.1]
        have hsr := so_r (hd T n (p + 1))
        by_cases hz : so (hd T n (p + 1)) = 0
        · rw [if_pos hz, if_pos hz, if_pos rfl, m_wrong (by omega) (by omega)]
          exact ⟨pU (pU τ1 115 i.toNat (-1)) 84 21 (-1000 * 1 - (p + 1)), rfl, pU_s _ _ _ _, hF1.tr ((FR.u (Or.inr ⟨by decide, by decide, rfl⟩)).tr (FR.u (Or.inl ⟨rfl, by decide⟩)))⟩
        · have hp1 := so_in hz
          rw [if_neg hz, if_neg hz, if_neg (by omega), pw_id (z := p + 1 + 1) (by omega) (by omega)]
          generalize hτ2 : pU (pU τ1 115 i.toNat (so (hd T n (p + 1)))) 84 19 (p + 1 + 1) = τ2
          have hT2 : TM τ2 T n (p + 1 + 1) := by
            rw [← hτ2]
            exact (hT1.u _ _ (by decide) (by decide)).at (pU_s _ _ _ _) (pU_i _ _ _ _ (by decide)) (fun x => pU_c _ _ _ _ (by decide)) (by omega) (by omega)
          have hF2 : FR (Qm i.toNat) τ1 τ2 := by
            rw [← hτ2]
            exact (FR.u (Or.inr ⟨by decide, by decide, rfl⟩)).tr (FR.u (Or.inl ⟨rfl, by decide⟩))
          have e115 : τ2 115 i.toNat = so (hd T n (p + 1)) := by rw [← hτ2]; simp [pU]
          have g2 : ∀ c x, c ≠ 84 → c ≠ 115 → τ2 c x = τ1 c x := fun c x h1 h2 => by rw [← hτ2]; exact (pU_c _ _ _ _ h1).trans (pU_c _ _ _ _ h2)
          have h7 := m_137 (k := ko (hd T n p)) hT2 hi
          cases hr : sGiv T n (p + 1 + 1) with
          | inr f =>
            rw [hr] at h7
            obtain ⟨τ3, a3, b3, c3⟩ := h7
            exact ⟨τ3, a3, b3, hF1.tr ((hF2.tr c3).mono hqc)⟩
          | inl q =>
            rw [hr] at h7
            obtain ⟨τ3, a3, b3, c3, d3, e3⟩ := h7
            dsimp only at b3 d3 ⊢
            rw [a3]
            have et : m_tail (ko (hd T n p)) i τ3 = f_M_readsOp_84_p177 i τ3 := by
              unfold m_tail
              rcases hk23 with hk2 | hk3
              · rw [if_pos hk2]
              · rw [if_neg (by omega), if_pos hk3]
            rw [et]
            have h8 := m_177 b3 hi
            cases hq : sPlc T n q.2 with
            | inr f =>
              rw [hq] at h8
              obtain ⟨τ4, a4, b4, c4⟩ := h8
              exact ⟨τ4, a4, b4, hF1.tr (((hF2.tr c3).tr (c4.mono hqp)).mono hqc)⟩
            | inl w =>
              rw [hq] at h8
              obtain ⟨τ4, a4, b4, c4, d4, e4⟩ := h8
              dsimp only at b4 d4 e4 ⊢
              have hF : FR (Qm i.toNat) τ1 τ4 := (hF2.tr c3).tr (c4.mono hqp)
              have g : ∀ c, c ≠ 84 → c ≠ 112 → c ≠ 116 → c ≠ 117 → τ4 c i.toNat = τ2 c i.toNat := fun c h1 h2 h3 h4 => (c4.get (by unfold Qp; omega)).trans (e3 _ _ h1 h2)
              refine ⟨τ4, a4, b4, hF1.tr (hF.mono hqc), (hF.get hn41).trans e41, ?_⟩
              unfold MR
              dsimp only
              exact ⟨(g 110 (by decide) (by decide) (by decide) (by decide)).trans ((g2 _ _ (by decide) (by decide)).trans e110), (g 111 (by decide) (by decide) (by decide) (by decide)).trans ((g2 _ _ (by decide) (by decide)).trans e111), (c4.get (by unfold Qp; omega)).trans d3, fun h => absurd h hk1, fun _ => ⟨(g 115 (by decide) (by decide) (by decide) (by decide)).trans e115, d4⟩, fun _ => e4⟩
theorem m_op20 {τ : pS} {p : Int} (h : TM τ T n p) (h41 : τ 84 41 = 20) : ∃ τ', f_M_readsOp_84 τ = some (0, τ') ∧ τ' 84 21 = (if ko (hd T n p) = -1 then -1000 * 1 - p else -1000 * 4 - p) ∧ MO τ τ' := by
  have h' := h
  obtain ⟨h1, h2, ⟨h3, h4, h5⟩, h6⟩ := h'
  unfold f_M_readsOp_84
  rw [m_here h, Option.bind_some]
  dsimp only
  rw [ko_m, Option.bind_some]
  dsimp only
  by_cases hk : ko (hd T n p) = -1
  · rw [if_pos hk, if_pos hk, h1, m_wrong (by omega) (by omega)]
    exact ⟨pU τ 84 21 (-1000 * 1 - p), rfl, pU_s _ _ _ _, MO.u _ (by omega)⟩
  · rw [if_neg hk, if_neg hk, if_pos h41, h1, m_wrong (by omega) (by omega)]
    exact ⟨pU τ 84 21 (-1000 * 4 - p), rfl, pU_s _ _ _ _, MO.u _ (by omega)⟩
end MO6
