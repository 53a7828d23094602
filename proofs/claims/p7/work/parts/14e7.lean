section CY
variable {m mL : Nat} {rec : Nat → O8} {D : Nat → Prop} {c : Cd} {R : Nat → Ru} {σ τ σ' τ' : pS}
/-- the class's registers at the end of a run -/
theorem gr_lp {σ0 : pS} (hm : m ≤ 20) (h11 : σ0 4 11 = (m : Int)) : ∀ (d i fu : Nat) (σ : pS), i + d = m → d < fu → FR (fun k _ => k = 29) σ0 σ → (∀ r : Nat, r < 8 → σ 29 r = vr σ0 (gv (σ0 8) i (r : Int)) (r : Int)) → ∃ σ', f_Mach_giveRegisters_3_p2 fu (i : Int) σ = some (0, σ') ∧ FR (fun k _ => k = 29) σ0 σ' ∧ ∀ r : Nat, r < 8 → σ' 29 r = vr σ0 (gv (σ0 8) m (r : Int)) (r : Int)
  | 0, i, fu, σ, hi, hf, hF, h => by
    obtain ⟨n, rfl⟩ : ∃ n, fu = n + 1 := ⟨fu - 1, by omega⟩
    obtain rfl : i = m := by omega
    refine ⟨σ, ?_, hF, h⟩
    show (if σ 4 11 ≤ (i : Int) then _ else _) = _
    rw [hF.get (by decide), if_pos (by omega)]
  | d + 1, i, fu, σ, hi, hf, hF, h => by
    obtain ⟨n, rfl⟩ : ∃ n, fu = n + 1 := ⟨fu - 1, by omega⟩
    have g : (0 : Int) ≤ (i : Int) ∧ (i : Int) < 20 := by omega
    have e8 : σ 8 i = σ0 8 i := hF.get (by decide)
    have e36 : σ 36 i = σ0 36 i := hF.get (by decide)
    have eX : f_Mach_giveRegisters_3_p2 (n + 1) (i : Int) σ = (if (if 0 ≤ σ0 8 i ∧ σ0 8 i < 8 then (1 : Int) else 0) = 0 then f_Mach_giveRegisters_3_p2 n ((i + 1 : Nat) : Int) σ else (if 0 ≤ σ0 8 i ∧ σ0 8 i < 8 then f_Mach_giveRegisters_3_p2 n ((i + 1 : Nat) : Int) (pU σ 29 (σ0 8 i).toNat (σ0 36 i)) else none)) := by
      show (if σ 4 11 ≤ (i : Int) then _ else _) = _
      rw [hF.get (k := 4) (by decide), if_neg (by omega), if_pos g, Int.toNat_natCast, x_isCell, Option.bind_some, e8]
      dsimp only
      rw [if_pos g, if_pos g, pw_s (show i < 20 by omega) (by decide)]
      simp only [e8, e36]
    rw [eX]
    by_cases z : 0 ≤ σ0 8 i ∧ σ0 8 i < 8
    · rw [if_pos z, if_neg (by decide), if_pos z]
      refine gr_lp hm h11 d (i + 1) n _ (by omega) (by omega) (hF.tr (FR.u rfl)) (fun r hr => ?_)
      show _ = vr σ0 (if σ0 8 i = (r : Int) then (i : Int) else gv (σ0 8) i (r : Int)) (r : Int)
      by_cases zr : σ0 8 i = (r : Int)
      · rw [if_pos zr, zr, Int.toNat_natCast, pU_s]
        unfold vr
        rw [if_pos g.1, Int.toNat_natCast]
      · rw [if_neg zr, pU_i _ _ _ _ (by omega)]
        exact h r hr
    · rw [if_neg z, if_pos rfl]
      refine gr_lp hm h11 d (i + 1) n _ (by omega) (by omega) hF (fun r hr => ?_)
      show _ = vr σ0 (if σ0 8 i = (r : Int) then (i : Int) else gv (σ0 8) i (r : Int)) (r : Int)
      rw [if_neg (by omega)]
      exact h r hr
/-- the reference's -/
def rvl (g : Nat → Int) (τ : pS) (i : Nat) (r : Int) : Int := if gv g i r = -1 then τ 85 r.toNat else τ 120 (gv g i r).toNat
theorem mg_177 {τ0 : pS} (hG : PG m rec σ τ0) : ∀ (d r fu : Nat) (τ : pS), r + d = 8 → d < fu → FR (fun k _ => k = 130) τ0 τ → (∀ q : Nat, q < r → τ 130 q = rvl (σ 8) τ0 m (q : Int)) → ∃ τ', f_M_goesThrough_84_p177 fu (r : Int) τ = some (if τ0 84 63 = -5 then 0 else 1, τ') ∧ FR (fun k _ => k = 130) τ0 τ' ∧ ∀ q : Nat, q < 8 → τ' 130 q = rvl (σ 8) τ0 m (q : Int)
  | 0, r, fu, τ, hr, hf, hF, h => by
    obtain ⟨n, rfl⟩ : ∃ n, fu = n + 1 := ⟨fu - 1, by omega⟩
    obtain rfl : r = 8 := by omega
    refine ⟨τ, ?_, hF, h⟩
    show (if (8 : Int) ≤ ((8 : Nat) : Int) then _ else _) = _
    rw [if_pos (by decide), hF.get (k := 84) (by decide)]
    by_cases z : τ0 84 63 = -5
    · rw [if_pos z, if_pos z]
    · rw [if_neg z, if_neg z]
  | d + 1, r, fu, τ, hr, hf, hF, h => by
    obtain ⟨n, rfl⟩ : ∃ n, fu = n + 1 := ⟨fu - 1, by omega⟩
    have hm := hG.le
    have gr := gv_r (σ 8) (r : Int) m
    have hMR : ∀ j, j < m → MRp τ j (rec j) := fun j hj => by
      have z := (hG.op j hj).2.1
      unfold MRp at *
      rw [hF.get (k := 88) (by decide), hF.get (k := 89) (by decide), hF.get (k := 90) (by decide), hF.get (k := 91) (by decide), hF.get (k := 92) (by decide), hF.get (k := 93) (by decide), hF.get (k := 94) (by decide), hF.get (k := 95) (by decide)]
      exact z
    have rb : f_M_readBy_84 (m : Int) (r : Int) τ = some (rvl (σ 8) τ0 m (r : Int), τ) := by
      unfold f_M_readBy_84 rvl
      rw [m_giv hm (fun j hj => ⟨(hG.op j hj).1, hMR j hj, (hG.op j hj).2.2⟩) (by omega) (Nat.le_refl m), Option.bind_some]
      dsimp only
      by_cases z : gv (σ 8) m (r : Int) = -1
      · rw [if_pos z, if_pos z, if_pos (by omega), hF.get (k := 85) (by decide)]
      · rw [if_neg z, if_neg z, if_pos (by omega), hF.get (k := 120) (by decide)]
    have g : (0 : Int) ≤ (r : Int) ∧ (r : Int) < 8 := by omega
    have eX : f_M_goesThrough_84_p177 (n + 1) (r : Int) τ = f_M_goesThrough_84_p177 n ((r + 1 : Nat) : Int) (pU τ 130 r (rvl (σ 8) τ0 m (r : Int))) := by
      show (if (8 : Int) ≤ (r : Int) then _ else _) = _
      rw [if_neg (by omega), hF.get (k := 84) (x := 2) (by decide), hG.mm, rb, Option.bind_some]
      dsimp only
      rw [if_pos g, Int.toNat_natCast, pw_s (show r < 20 by omega) (by decide)]
    rw [eX]
    refine mg_177 hG d (r + 1) n _ (by omega) (by omega) (hF.tr (FR.u rfl)) (fun q hq => ?_)
    by_cases z : q = r
    · rw [z, pU_s]
    · rw [pU_i _ _ _ _ z]
      exact h q (by omega)
def PE (k x : Nat) : Prop := PN k x ∨ k = 29
def QE (k x : Nat) : Prop := QN k x ∨ (k = 84 ∧ x = 63) ∨ k = 130
theorem N_PE (k x : Nat) (h : PN k x) : PE k x := Or.inl h
theorem N_QE (k x : Nat) (h : QN k x) : QE k x := Or.inl h
theorem PG.e (h : PG m rec σ τ) (h1 : FR PE σ σ') (h2 : FR QE τ τ') : PG m rec σ' τ' := by
  have a : ∀ k x, 4 ≤ k → k ≤ 13 → σ' k x = σ k x := fun k x p q => h1.get (by unfold PE PN; omega)
  have b : ∀ k x, 88 ≤ k → k ≤ 95 → τ' k x = τ k x := fun k x p q => h2.get (by unfold QE QN; omega)
  have e8 : σ' 8 = σ 8 := funext (fun x => a 8 x (by decide) (by decide))
  refine ⟨h.le, (a _ _ (by decide) (by decide)).trans h.cm, (h2.get (by unfold QE QN; omega)).trans h.mm, fun j hj => ?_, fun j hj => ?_⟩
  · obtain ⟨c1, c2, c3⟩ := h.op j hj
    refine ⟨?_, ?_, c3⟩
    · unfold CRp at *
      rw [a 5 _ (by decide) (by decide), a 6 _ (by decide) (by decide), a 7 _ (by decide) (by decide), a 8 _ (by decide) (by decide), a 9 _ (by decide) (by decide), a 10 _ (by decide) (by decide), a 11 _ (by decide) (by decide)]
      exact c1
    · unfold MRp at *
      rw [b 88 _ (by decide) (by decide), b 89 _ (by decide) (by decide), b 90 _ (by decide) (by decide), b 91 _ (by decide) (by decide), b 92 _ (by decide) (by decide), b 93 _ (by decide) (by decide), b 94 _ (by decide) (by decide), b 95 _ (by decide) (by decide)]
      exact c2
  · rw [a 12 _ (by decide) (by decide), a 13 _ (by decide) (by decide), a 9 _ (by decide) (by decide), a 10 _ (by decide) (by decide), e8]
    exact h.so j hj
theorem LW.e (h : LW mL c R σ τ) (h1 : FR PE σ σ') (h2 : FR QE τ τ') : LW mL c R σ' τ' := h.mv (h1.get (by unfold PE PN; omega)) (fun k x _ _ => h1.get (by unfold PE PN; omega)) (h2.get (by unfold QE QN; omega)) (fun k x _ _ => h2.get (by unfold QE QN; omega))
/-- what a run that came to its end leaves alike: RM with all done, the registers, the cycles -/
def RE (m : Nat) (rec : Nat → O8) (t : Int) (σ τ : pS) : Prop := PG m rec σ τ ∧ RM m (fun _ => True) σ τ ∧ (∀ j, j < m → σ 39 j = 2) ∧ (∀ r, r < 8 → σ 29 r = τ 130 r) ∧ σ 33 0 = t ∧ τ 84 63 = t ∧ 1 ≤ t ∧ t ≤ 2001 ∧ σ 33 1 = τ 84 64
theorem RM.all (h : RM m D σ τ) (hD : ∀ j, j < m → D j) : RM m (fun _ => True) σ τ := by
  refine ⟨h.st, h.ti, h.rt, h.re, fun j hj _ => h.va j hj (hD j hj), fun _ _ _ => trivial, fun _ _ _ => ⟨fun _ => trivial, fun _ => trivial⟩, h.rp, h.me, h.m0, h.se, h.ns, h.x, h.cr, h.ca, h.cu, h.cd, h.ru, h.rg, h.sh⟩
/-- one cycle in both -/
theorem cy_ls {w lw cy : Int} (hlw : lw = 0 ∨ lw = 1) (H : RN m rec D σ τ) (hL : LW mL c R σ τ) (h70 : τ 84 70 = lw) : ∃ D' σ1 σ2 σ' τ' v, f_Mach_finishOps_3 (pU σ 3 11 cy) = some (0, σ1) ∧ f_Mach_sendOff_3 w lw σ1 = some (0, σ2) ∧ f_Mach_retireOne_3 σ2 = some (0, σ') ∧ f_Mach_settled_3 σ' = some (v, σ') ∧ f_M_cycleGoes_84 cy w τ = some (0, τ') ∧ f_M_isOver_84 τ' = some (v, τ') ∧ RN m rec D' σ' τ' ∧ LW mL c R σ' τ' ∧ FR PN σ σ' ∧ FR QN τ τ' ∧ (v ≠ 0 → ∀ j, j < m → σ' 39 j = 2) := by
  have hm := H.g.le
  have u1 : FR PS σ (pU σ 3 11 cy) := FR.u (by unfold PS; omega)
  have H0 := H.sc u1 (FR.rf QS τ)
  have L0 := hL.n (u1.mono PS_N) (FR.rf QN τ)
  obtain ⟨D1, σ1, τ1, a1, a2, a3, a4, a5, a6⟩ := fo_lp (w := w) m 0 4096 4096 D (pU σ 3 11 cy) τ (by omega) (by omega) (by omega) (pU_s _ _ _ _) H0
  have L1 := L0.n a4 a5
  obtain ⟨σ2, τ2, b1, b2, b3, b4, b5, b6, b7, -⟩ := so_lp (w := w) hlw m 0 4096 4096 0 σ1 τ1 (by omega) (by omega) (by omega) a6 ((a5.get (by unfold QN; omega)).trans h70) a3 L1
  obtain ⟨σ3, τ3, r1, r2, r3, r4, r5, r6, r7⟩ := rt_ls b3 b4 b7
  obtain ⟨v, s1, s2, s3⟩ := se_lp r3 m 0 4096 4096 (by omega) (by omega) (by omega)
  refine ⟨D1, σ1, σ2, σ3, τ3, v, a1, b1, r1, s1, ?_, s2, r3, r4, (u1.mono PS_N).tr (a4.tr (b5.tr r5)), a5.tr (b6.tr r6), fun hv j hj => s3 hv j (by omega) hj⟩
  show f_M_cycleGoes_84_p2 4096 cy w ((0 : Nat) : Int) τ = _
  rw [a2]
  show f_M_cycleGoes_84_p47 4096 cy w 0 ((0 : Nat) : Int) τ1 = _
  rw [b2, r2]
  rfl
/-- a run's cycles in both -/
theorem cy_lp {w lw : Int} (hlw : lw = 0 ∨ lw = 1) : ∀ (d a fu1 fu2 : Nat) (D : Nat → Prop) (σ τ : pS), a + d = 2001 → d < fu1 → d + 1 < fu2 → τ 84 63 = -5 → τ 84 70 = lw → RN m rec D σ τ → LW mL c R σ τ → (∀ r, r < 8 → σ 29 r = σ 25 r) → ∃ σ' τ', FR PE σ σ' ∧ FR QE τ τ' ∧ ((f_Mach_go_3_p6 fu1 w lw (a : Int) σ = some (-5, σ') ∧ f_M_goesThrough_84_p133 fu2 w (a : Int) τ = some (0, τ') ∧ τ' 84 0 = σ' 28 5 ∧ 0 ≤ σ' 28 5 ∧ σ' 28 5 ≤ 65535) ∨ ∃ t, f_Mach_go_3_p6 fu1 w lw (a : Int) σ = some (t, σ') ∧ f_M_goesThrough_84_p133 fu2 w (a : Int) τ = some (1, τ') ∧ RE m rec t σ' τ')
  | 0, a, fu1, fu2, D, σ, τ, ha, h1, h2, h63, h70, H, hL, h29 => by
    obtain ⟨n1, rfl⟩ : ∃ n, fu1 = n + 1 := ⟨fu1 - 1, by omega⟩
    obtain ⟨n2, rfl⟩ : ∃ n, fu2 = n + 1 := ⟨fu2 - 1, by omega⟩
    obtain ⟨τ1, q1, q2, q3⟩ := mg_177 H.g 8 0 4096 τ (by omega) (by omega) (FR.rf _ _) (fun q hq => by omega)
    rw [if_pos h63] at q1
    refine ⟨σ, τ1, FR.rf _ _, q2.mono (fun k x h => Or.inr (Or.inr h)), Or.inl ⟨?_, ?_, ?_⟩⟩
    · show (if (2000 : Int) < (a : Int) then _ else _) = _
      rw [if_pos (by omega)]
    · show (if (2000 : Int) < (a : Int) then _ else _) = _
      rw [if_pos (by omega)]
      exact q1
    · rw [q2.get (by decide)]
      have z := H.r.x
      exact ⟨z.1.symm, z.2⟩
  | d + 1, a, fu1, fu2, D, σ, τ, ha, h1, h2, h63, h70, H, hL, h29 => by
    obtain ⟨n1, rfl⟩ : ∃ n, fu1 = n + 1 := ⟨fu1 - 1, by omega⟩
    obtain ⟨n2, rfl⟩ : ∃ n, fu2 = n + 1 := ⟨fu2 - 1, by omega⟩
    have hm := H.g.le
    obtain ⟨D1, σ1, σ2, σ3, τ3, v, a1, a2, a3, a4, a5, a6, a7, a8, a9, a10, a11⟩ := cy_ls (w := w) (cy := (a : Int)) hlw H hL h70
    have eX : f_Mach_go_3_p6 (n1 + 1) w lw (a : Int) σ = (if v = 0 then f_Mach_go_3_p6 n1 w lw ((a + 1 : Nat) : Int) σ3 else ((f_Mach_giveRegisters_3 (pU σ3 33 0 ((a + 1 : Nat) : Int))).bind fun q8 => some (((a + 1 : Nat) : Int), q8.2))) := by
      show (if (2000 : Int) < (a : Int) then _ else _) = _
      rw [if_neg (by omega), a1, Option.bind_some, a2, Option.bind_some, a3, Option.bind_some, a4, Option.bind_some]
      dsimp only
      rw [pw_s (show a < 2001 by omega) (by decide)]
    have eM : f_M_goesThrough_84_p133 (n2 + 1) w (a : Int) τ = (if v = 0 then f_M_goesThrough_84_p133 n2 w ((a + 1 : Nat) : Int) τ3 else f_M_goesThrough_84_p133 n2 w ((a + 1 : Nat) : Int) (pU τ3 84 63 ((a + 1 : Nat) : Int))) := by
      show (if (2000 : Int) < (a : Int) then _ else _) = _
      rw [if_neg (by omega), if_pos h63, a5, Option.bind_some, a6, Option.bind_some]
      dsimp only
      rw [pw_s (show a < 2001 by omega) (by decide)]
    have k29 : ∀ r, r < 8 → σ3 29 r = σ3 25 r := fun r hr => by
      rw [a9.get (k := 29) (by unfold PN; omega), a9.get (k := 25) (by unfold PN; omega)]
      exact h29 r hr
    by_cases z : v = 0
    · obtain ⟨σ', τ', q1, q2, q3⟩ := cy_lp hlw d (a + 1) n1 n2 D1 σ3 τ3 (by omega) (by omega) (by omega) ((a10.get (by unfold QN; omega)).trans h63) ((a10.get (by unfold QN; omega)).trans h70) a7 a8 k29
      refine ⟨σ', τ', (a9.mono N_PE).tr q1, (a10.mono N_QE).tr q2, ?_⟩
      rw [eX, eM, if_pos z, if_pos z]
      exact q3
    · have all := a11 z
      have u1 : FR P_sno σ3 (pU σ3 33 0 ((a + 1 : Nat) : Int)) := FR.u (by unfold P_sno; omega)
      have u2 : FR Q_sno τ3 (pU τ3 84 63 ((a + 1 : Nat) : Int)) := FR.u (by unfold Q_sno; omega)
      have G4 : PG m rec (pU σ3 33 0 ((a + 1 : Nat) : Int)) (pU τ3 84 63 ((a + 1 : Nat) : Int)) := a7.g.e (FR.u (by unfold PE PN; omega)) (FR.u (by unfold QE QN; omega))
      have R4 : RM m D1 (pU σ3 33 0 ((a + 1 : Nat) : Int)) (pU τ3 84 63 ((a + 1 : Nat) : Int)) := a7.r.sno u1 u2
      obtain ⟨σ5, g1, g2, g3⟩ := gr_lp (m := m) (σ0 := pU σ3 33 0 ((a + 1 : Nat) : Int)) hm G4.cm m 0 4096 (pU σ3 33 0 ((a + 1 : Nat) : Int)) (by omega) (by omega) (FR.rf _ _) (fun r hr => by
        rw [pU_c _ _ _ _ (by decide), k29 r hr]
        show _ = vr _ (-1) (r : Int)
        unfold vr
        rw [if_neg (by decide), if_pos (by omega), Int.toNat_natCast, pU_c _ _ _ _ (by decide)])
      obtain ⟨τ5, t1, t2, t3⟩ := mg_177 G4 8 0 4096 (pU τ3 84 63 ((a + 1 : Nat) : Int)) (by omega) (by omega) (FR.rf _ _) (fun q hq => by omega)
      rw [if_neg (by rw [pU_s]; omega)] at t1
      have F1 : FR PE (pU σ3 33 0 ((a + 1 : Nat) : Int)) σ5 := g2.mono (fun k x h => Or.inr h)
      have F2 : FR QE (pU τ3 84 63 ((a + 1 : Nat) : Int)) τ5 := t2.mono (fun k x h => Or.inr (Or.inr h))
      have i1 : FR PE σ3 (pU σ3 33 0 ((a + 1 : Nat) : Int)) := FR.u (by unfold PE PN; omega)
      have i2 : FR QE τ3 (pU τ3 84 63 ((a + 1 : Nat) : Int)) := FR.u (by unfold QE QN; omega)
      refine ⟨σ5, τ5, (a9.mono N_PE).tr (i1.tr F1), (a10.mono N_QE).tr (i2.tr F2), Or.inr ⟨((a + 1 : Nat) : Int), ?_, ?_, G4.e F1 F2, ?_, fun j hj => ?_, fun r hr => ?_, ?_, ?_, by omega, by omega, ?_⟩⟩
      · rw [eX, if_neg z]
        show (f_Mach_giveRegisters_3_p2 4096 ((0 : Nat) : Int) (pU σ3 33 0 ((a + 1 : Nat) : Int))).bind _ = _
        rw [g1]
        rfl
      · rw [eM, if_neg z]
        obtain ⟨n3, rfl⟩ : ∃ n, n2 = n + 1 := ⟨n2 - 1, by omega⟩
        show (if (2000 : Int) < ((a + 1 : Nat) : Int) then _ else _) = _
        by_cases y : (2000 : Int) < ((a + 1 : Nat) : Int)
        · rw [if_pos y]
          exact t1
        · rw [if_neg y, pU_s, if_neg (by omega)]
          exact t1
      · exact (R4.all (fun j hj => R4.dn j hj (by rw [pU_c _ _ _ _ (by decide)]; exact all j hj))).sno (g2.mono (fun k x h => by unfold P_sno; omega)) (t2.mono (fun k x h => by unfold Q_sno; omega))
      · rw [g2.get (by decide), pU_c _ _ _ _ (by decide)]
        exact all j hj
      · rw [g3 r hr, t3 r hr]
        have gr := gv_r (pU σ3 33 0 ((a + 1 : Nat) : Int) 8) (r : Int) m
        unfold vr rvl
        by_cases y : gv (pU σ3 33 0 ((a + 1 : Nat) : Int) 8) m (r : Int) = -1
        · rw [if_neg (by omega), if_pos (by omega), if_pos y]
          exact R4.rg _ (by omega)
        · rw [if_pos (by omega), if_neg y]
          have hj : (gv (pU σ3 33 0 ((a + 1 : Nat) : Int) 8) m (r : Int)).toNat < m := by omega
          exact (R4.va _ hj (R4.dn _ hj (by rw [pU_c _ _ _ _ (by decide)]; exact all _ hj))).1
      · rw [g2.get (by decide), pU_s]
      · rw [t2.get (by decide), pU_s]
      · rw [g2.get (by decide), t2.get (by decide), pU_i _ _ _ _ (by decide), pU_i _ _ _ _ (by decide)]
        exact a7.w.1
end CY
