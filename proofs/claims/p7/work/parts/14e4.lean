section GO
variable {m mL : Nat} {rec : Nat → O8} {c : Cd} {R : Nat → Ru} {D : Nat → Prop} {σ τ : pS}
/-- an op goes off: the same in both -/
theorem go_ls {F : Int → Int → Int → Int → pS → Option (Int × pS)} {w lw a3 cy : Int} {i : Nat} (H : RN m rec D σ τ) (hL : LW mL c R σ τ) (hi : i < m) (hcy : σ 3 11 = cy) (h0 : σ 39 i = 0) (s1 : sdn σ (σ 12 i)) (s2 : sdn σ (σ 13 i)) : ∃ σ' τ', ((f_State_draw_28 σ).bind fun q13 => ((f_Mach_tellLaw_3 (i : Int) q13.1 q13.2).bind fun q14 => (if 0 ≤ (i : Int) ∧ (i : Int) < 20 then (if 0 ≤ (i : Int) ∧ (i : Int) < 20 then (if (q14.2 5 (i : Int).toNat) = 2 then (f_Mach_sendOff_3_p152 F w lw a3 (i : Int) 2 (q14.2 3 11) (i : Int) (pU q14.2 39 ((i : Int).toNat) 1)) else (f_Mach_sendOff_3_p152 F w lw a3 (i : Int) 1 (q14.2 3 11) (i : Int) (pU q14.2 39 ((i : Int).toNat) 1))) else none) else none))) = F w lw a3 ((i + 1 : Nat) : Int) σ' ∧ f_M_goesOff_84 (i : Int) cy τ = some (0, τ') ∧ RN m rec D σ' τ' ∧ LW mL c R σ' τ' ∧ FR PN σ σ' ∧ FR QN τ τ' ∧ σ' 3 11 = cy ∧ τ' 84 70 = τ 84 70 := by
  have hm := H.g.le
  have i20 : i < 20 := by omega
  have g : (0 : Int) ≤ (i : Int) ∧ (i : Int) < 20 := by omega
  obtain ⟨x1, x2, x3⟩ := H.r.x
  have hL16 : mL < 4096 := Nat.lt_of_le_of_lt hL.1 (by decide)
  obtain ⟨y, y1, y2, y3, y4⟩ := dr_eq x2 x3
  have a1 : FR P_sx σ (pU σ 28 5 y) := FR.u ⟨rfl, rfl⟩
  have b1 : FR Q_sx τ (pU τ 84 0 y) := FR.u ⟨rfl, rfl⟩
  have H1 := H.x a1 b1 (by rw [pU_s, pU_s]; exact ⟨rfl, y3, y4⟩)
  have L1 : LW mL c R (pU σ 28 5 y) (pU τ 84 0 y) := hL.mv (a1.get (by unfold P_sx; omega)) (fun k x _ _ => a1.get (by unfold P_sx; omega)) (b1.get (by unfold Q_sx; omega)) (fun k x _ _ => b1.get (by unfold Q_sx; omega))
  obtain ⟨σ2, τ2, t1, t2, t3, t4, t5⟩ := tl_ls H1 hi (c := cy) (w := pRem y 10) ((a1.get (by unfold P_sx; omega)).trans hcy)
  have H2 := H1.sc (t4.mono (fun k x h => Or.inl h)) (t5.mono (fun k x h => Or.inr h))
  have L2 : LW mL c R σ2 τ2 := L1.mv (t4.get (by omega)) (fun k x _ _ => t4.get (by omega)) (t5.get (by omega)) (fun k x _ _ => t5.get (by omega))
  have z39 : σ2 39 = σ 39 := funext (fun x => (t4.get (by omega)).trans (a1.get (by unfold P_sx; omega)))
  have z12 : σ2 12 i = σ 12 i := (t4.get (by omega)).trans (a1.get (by unfold P_sx; omega))
  have z13 : σ2 13 i = σ 13 i := (t4.get (by omega)).trans (a1.get (by unfold P_sx; omega))
  have z311 : σ2 3 11 = cy := ((t4.get (by omega)).trans (a1.get (by unfold P_sx; omega))).trans hcy
  have d1 : sdn σ2 (σ2 12 i) := by unfold sdn at *; rw [z39, z12]; exact s1
  have d2 : sdn σ2 (σ2 13 i) := by unfold sdn at *; rw [z39, z13]; exact s2
  have k88 := (H2.g.kd hi).1
  have p3 : FR (P_off i) σ2 (pU σ2 39 i 1) := FR.u (Or.inl ⟨Or.inl rfl, rfl⟩)
  have q3 : FR (Q_off i) τ2 (pU τ2 118 i 1) := FR.u (Or.inl ⟨Or.inl rfl, rfl⟩)
  have L3 : LW mL c R (pU σ2 39 i 1) (pU τ2 118 i 1) := L2.mv (p3.get (by unfold P_off; omega)) (fun k x _ _ => p3.get (by unfold P_off; omega)) (q3.get (by unfold Q_off; omega)) (fun k x _ _ => q3.get (by unfold Q_off; omega))
  have F3 : FCs (pU σ2 39 i 1) (pU τ2 118 i 1) := fun j hj => by rw [pU_c _ _ _ _ (by decide), pU_c _ _ _ _ (by decide)]; exact t3 j hj
  have e88 : pU τ2 118 i 1 88 i = σ2 5 i := (pU_c _ _ _ _ (by decide)).trans k88
  obtain ⟨v, σ4, τ4, v1, v2, v3, v4⟩ := dl_lp (i := i) i20 (u := if σ2 5 i = 2 then 2 else 1) mL 0 4096 4096 _ _ (by omega) hL16 hL16 L3 F3 (by rw [e88])
  have p4 : FR (P_off i) (pU σ2 39 i 1) σ4 := v3.mono (fun k x h => Or.inr h)
  have q4 : FR (Q_off i) (pU τ2 118 i 1) τ4 := v4.mono (fun k x h => Or.inr h)
  have p5 : FR (P_off i) σ4 (pU σ4 40 i (pw (cy + v))) := FR.u (Or.inl ⟨Or.inr rfl, rfl⟩)
  have q5 : FR (Q_off i) τ4 (pU τ4 119 i (pw (cy + v))) := FR.u (Or.inl ⟨Or.inr rfl, rfl⟩)
  have P := (p3.tr p4).tr p5
  have Q := (q3.tr q4).tr q5
  have H5 := H2.off hi (by rw [z39]; exact h0) P Q (by rw [pU_c _ _ _ _ (by decide), v3.get (k := 39) (by unfold P23; omega), pU_s]) (by rw [pU_c _ _ _ _ (by decide), v4.get (k := 118) (by unfold Q108; omega), pU_s]) (by rw [pU_s, pU_s]) d1 d2
  have L5 : LW mL c R (pU σ4 40 i (pw (cy + v))) (pU τ4 119 i (pw (cy + v))) := L2.mv (P.get (by unfold P_off; omega)) (fun k x _ _ => P.get (by unfold P_off; omega)) (Q.get (by unfold Q_off; omega)) (fun k x _ _ => Q.get (by unfold Q_off; omega))
  have N1 : FR PN σ σ2 := (a1.mono (fun k x h => by unfold P_sx at h; unfold PN; omega)).tr (t4.mono (fun k x h => by unfold PN; omega))
  have N2 : FR QN τ τ2 := (b1.mono (fun k x h => by unfold Q_sx at h; unfold QN; omega)).tr (t5.mono (fun k x h => by unfold QN; omega))
  refine ⟨_, _, ?_, ?_, H5, L5, N1.tr (P.mono (fun k x h => by unfold P_off at h; unfold PN; omega)), N2.tr (Q.mono (fun k x h => by unfold Q_off at h; unfold QN; omega)), (P.get (by unfold P_off; omega)).trans z311, (Q.get (by unfold Q_off; omega)).trans ((t5.get (by omega)).trans (b1.get (by unfold Q_sx; omega)))⟩
  · have eD : f_State_draw_28 σ = some (pRem y 10, pU σ 28 5 y) := by unfold f_State_draw_28; rw [y1]
    have e152 : ∀ u : Int, f_Mach_sendOff_3_p152 F w lw a3 (i : Int) u (σ2 3 11) (i : Int) (pU σ2 39 i 1) = ((f_Law_delay_16_p2 4096 u ((0 : Nat) : Int) (pU σ2 39 i 1)).bind fun q18 => F w lw a3 ((i + 1 : Nat) : Int) (pU q18.2 40 i (pw (cy + q18.1)))) := fun u => by
      unfold f_Mach_sendOff_3_p152 f_Law_delay_16
      simp only [if_pos g, Int.toNat_natCast, z311, pw_s i20 (show 20 ≤ 100000 by decide)]
      rfl
    rw [eD, Option.bind_some]
    dsimp only
    rw [t1, Option.bind_some]
    dsimp only
    rw [if_pos g, if_pos g, Int.toNat_natCast, e152, e152]
    by_cases z : σ2 5 i = 2
    · rw [if_pos z] at v1 ⊢
      rw [v1, Option.bind_some]
    · rw [if_neg z] at v1 ⊢
      rw [v1, Option.bind_some]
  · unfold f_M_goesOff_84 f_M_delayOf_84
    rw [← x1, y2, t2, Option.bind_some]
    dsimp only
    rw [if_pos g, Int.toNat_natCast]
    have v2' : f_M_delayOf_84_p2 4096 (i : Int) 0 (pU τ2 118 i 1) = some (v, τ4) := v2
    rw [v2', Option.bind_some, if_pos g]
/-- ops go off: the same in both -/
theorem so_lp {w lw cy : Int} (hlw : lw = 0 ∨ lw = 1) : ∀ (d i fu1 fu2 : Nat) (gone : Int) (σ τ : pS), i + d = m → d < fu1 → d < fu2 → σ 3 11 = cy → τ 84 70 = lw → RN m rec D σ τ → LW mL c R σ τ → ∃ σ' τ', f_Mach_sendOff_3_p5 fu1 w lw gone (i : Int) σ = some (0, σ') ∧ f_M_cycleGoes_84_p47 fu2 cy w gone (i : Int) τ = ((f_M_retires_84 cy τ').bind fun q3 => some (0, q3.2)) ∧ RN m rec D σ' τ' ∧ LW mL c R σ' τ' ∧ FR PN σ σ' ∧ FR QN τ τ' ∧ σ' 3 11 = cy ∧ τ' 84 70 = lw
  | 0, i, fu1, fu2, gone, σ, τ, hi, h1, h2, hc, h70, H, hL => by
    obtain ⟨n1, rfl⟩ : ∃ n, fu1 = n + 1 := ⟨fu1 - 1, by omega⟩
    obtain ⟨n2, rfl⟩ : ∃ n, fu2 = n + 1 := ⟨fu2 - 1, by omega⟩
    refine ⟨σ, τ, ?_, ?_, H, hL, FR.rf _ _, FR.rf _ _, hc, h70⟩
    · show (if σ 4 11 ≤ (i : Int) then _ else _) = _
      rw [H.g.cm, if_pos (by omega)]
    · show (if τ 84 2 ≤ (i : Int) then _ else _) = _
      rw [H.g.mm, if_pos (by omega)]
  | d + 1, i, fu1, fu2, gone, σ, τ, hi, h1, h2, hc, h70, H, hL => by
    obtain ⟨n1, rfl⟩ : ∃ n, fu1 = n + 1 := ⟨fu1 - 1, by omega⟩
    obtain ⟨n2, rfl⟩ : ∃ n, fu2 = n + 1 := ⟨fu2 - 1, by omega⟩
    have hm := H.g.le
    have him : i < m := by omega
    have i20 : i < 20 := by omega
    have g : (0 : Int) ≤ (i : Int) ∧ (i : Int) < 20 := by omega
    have d1 : (i + 1) + d = m := by omega
    have d2 : d < n1 := by omega
    have d3 : d < n2 := by omega
    have nm : ¬ (m : Int) ≤ (i : Int) := by omega
    have st := (H.r.st i him).1
    obtain ⟨b1, b2, bb, c1, c2, c3, c4, c5⟩ := sd_ls H him
    obtain ⟨kb, k1, k2⟩ := kw_ls H him hlw h70
    have next : ∀ (gone' : Int) (σ1 τ1 : pS), RN m rec D σ1 τ1 → LW mL c R σ1 τ1 → FR PN σ σ1 → FR QN τ τ1 → σ1 3 11 = cy → τ1 84 70 = lw → f_Mach_sendOff_3_p5 (n1 + 1) w lw gone (i : Int) σ = f_Mach_sendOff_3_p5 n1 w lw gone' ((i + 1 : Nat) : Int) σ1 → f_M_cycleGoes_84_p47 (n2 + 1) cy w gone (i : Int) τ = f_M_cycleGoes_84_p47 n2 cy w gone' ((i + 1 : Nat) : Int) τ1 → ∃ σ' τ', f_Mach_sendOff_3_p5 (n1 + 1) w lw gone (i : Int) σ = some (0, σ') ∧ f_M_cycleGoes_84_p47 (n2 + 1) cy w gone (i : Int) τ = ((f_M_retires_84 cy τ').bind fun q3 => some (0, q3.2)) ∧ RN m rec D σ' τ' ∧ LW mL c R σ' τ' ∧ FR PN σ σ' ∧ FR QN τ τ' ∧ σ' 3 11 = cy ∧ τ' 84 70 = lw := fun gone' σ1 τ1 x1 x2 x3 x4 x5 x6 x7 x8 => by
      obtain ⟨σ', τ', r1, r2, r3, r4, r5, r6, r7, r8⟩ := so_lp hlw d (i + 1) n1 n2 gone' σ1 τ1 d1 d2 d3 x5 x6 x1 x2
      exact ⟨σ', τ', x7.trans r1, x8.trans r2, r3, r4, x3.tr r5, x4.tr r6, r7, r8⟩
    have eX : f_Mach_sendOff_3_p5 (n1 + 1) w lw gone (i : Int) σ = (if σ 39 i = 0 then (if b1 = 0 then f_Mach_sendOff_3_p5 n1 w lw gone ((i + 1 : Nat) : Int) σ else (if b2 = 0 then f_Mach_sendOff_3_p5 n1 w lw gone ((i + 1 : Nat) : Int) σ else (if kb = 0 then (if w ≤ gone then f_Mach_sendOff_3_p5 n1 w lw gone ((i + 1 : Nat) : Int) σ else ((f_State_draw_28 σ).bind fun q13 => ((f_Mach_tellLaw_3 (i : Int) q13.1 q13.2).bind fun q14 => (if 0 ≤ (i : Int) ∧ (i : Int) < 20 then (if 0 ≤ (i : Int) ∧ (i : Int) < 20 then (if (q14.2 5 (i : Int).toNat) = 2 then (f_Mach_sendOff_3_p152 (f_Mach_sendOff_3_p5 n1) w lw (pw (gone + 1)) (i : Int) 2 (q14.2 3 11) (i : Int) (pU q14.2 39 ((i : Int).toNat) 1)) else (f_Mach_sendOff_3_p152 (f_Mach_sendOff_3_p5 n1) w lw (pw (gone + 1)) (i : Int) 1 (q14.2 3 11) (i : Int) (pU q14.2 39 ((i : Int).toNat) 1))) else none) else none)))) else f_Mach_sendOff_3_p5 n1 w lw gone ((i + 1 : Nat) : Int) (pU σ 33 5 (pw (σ 33 5 + 1)))))) else f_Mach_sendOff_3_p5 n1 w lw gone ((i + 1 : Nat) : Int) σ) := by
      show (if σ 4 11 ≤ (i : Int) then _ else _) = _
      rw [H.g.cm, if_neg nm, if_pos g, Int.toNat_natCast, if_pos g, c1, Option.bind_some, if_pos g]
      dsimp only
      rw [c2, Option.bind_some]
      dsimp only
      rw [k1, Option.bind_some, pw_s i20 (show 20 ≤ 100000 by decide)]
    have eM : f_M_cycleGoes_84_p47 (n2 + 1) cy w gone (i : Int) τ = (if σ 39 i = 0 then (if bb = 0 then f_M_cycleGoes_84_p47 n2 cy w gone ((i + 1 : Nat) : Int) τ else (if kb = 0 then (if w ≤ gone then f_M_cycleGoes_84_p47 n2 cy w gone ((i + 1 : Nat) : Int) τ else ((f_M_goesOff_84 (i : Int) cy τ).bind fun q11 => f_M_cycleGoes_84_p47 n2 cy w (pw (gone + 1)) ((i + 1 : Nat) : Int) q11.2)) else f_M_cycleGoes_84_p47 n2 cy w gone ((i + 1 : Nat) : Int) (pU τ 84 68 (pw (τ 84 68 + 1))))) else f_M_cycleGoes_84_p47 n2 cy w gone ((i + 1 : Nat) : Int) τ) := by
      show (if τ 84 2 ≤ (i : Int) then _ else _) = _
      rw [H.g.mm, if_neg nm, if_pos g, Int.toNat_natCast, ← st, c3, Option.bind_some]
      dsimp only
      rw [k2, Option.bind_some, pw_s i20 (show 20 ≤ 100000 by decide)]
    by_cases z : σ 39 i = 0
    · by_cases zb : bb = 0
      · refine next gone σ τ H hL (FR.rf _ _) (FR.rf _ _) hc h70 ?_ ?_
        · rw [eX, if_pos z]
          rcases c4.mp zb with q | q
          · rw [if_pos q]
          · by_cases q1 : b1 = 0
            · rw [if_pos q1]
            · rw [if_neg q1, if_pos q]
        · rw [eM, if_pos z, if_pos zb]
      · have n1' : ¬ b1 = 0 := fun q => zb (c4.mpr (Or.inl q))
        have n2' : ¬ b2 = 0 := fun q => zb (c4.mpr (Or.inr q))
        obtain ⟨sd1, sd2⟩ := c5 zb
        by_cases zk : kb = 0
        · by_cases zw : w ≤ gone
          · refine next gone σ τ H hL (FR.rf _ _) (FR.rf _ _) hc h70 ?_ ?_
            · rw [eX, if_pos z, if_neg n1', if_neg n2', if_pos zk, if_pos zw]
            · rw [eM, if_pos z, if_neg zb, if_pos zk, if_pos zw]
          · obtain ⟨σ1, τ1, r1, r2, r3, r4, r5, r6, r7, r8⟩ := go_ls (F := f_Mach_sendOff_3_p5 n1) (w := w) (lw := lw) (a3 := pw (gone + 1)) H hL him hc z sd1 sd2
            refine next (pw (gone + 1)) σ1 τ1 r3 r4 r5 r6 r7 (r8.trans h70) ?_ ?_
            · rw [eX, if_pos z, if_neg n1', if_neg n2', if_pos zk, if_neg zw]
              exact r1
            · rw [eM, if_pos z, if_neg zb, if_pos zk, if_neg zw, r2, Option.bind_some]
        · have f1 : FR P_scd σ (pU σ 33 5 (pw (σ 33 5 + 1))) := FR.u ⟨rfl, rfl⟩
          have f2 : FR Q_scd τ (pU τ 84 68 (pw (τ 84 68 + 1))) := FR.u ⟨rfl, rfl⟩
          refine next gone _ _ (H.cd f1 f2 (by rw [pU_s, pU_s, H.r.cd])) (hL.mv (f1.get (by unfold P_scd; omega)) (fun k x _ _ => f1.get (by unfold P_scd; omega)) (f2.get (by unfold Q_scd; omega)) (fun k x _ _ => f2.get (by unfold Q_scd; omega))) (f1.mono (fun k x h => by unfold P_scd at h; unfold PN; omega)) (f2.mono (fun k x h => by unfold Q_scd at h; unfold QN; omega)) ((f1.get (by unfold P_scd; omega)).trans hc) ((f2.get (by unfold Q_scd; omega)).trans h70) ?_ ?_
          · rw [eX, if_pos z, if_neg n1', if_neg n2', if_neg zk]
          · rw [eM, if_pos z, if_neg zb, if_neg zk]
    · refine next gone σ τ H hL (FR.rf _ _) (FR.rf _ _) hc h70 ?_ ?_
      · rw [eX, if_neg z]
      · rw [eM, if_neg z]
end GO
