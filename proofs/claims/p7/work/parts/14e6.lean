section RT
variable {m mL : Nat} {rec : Nat → O8} {D : Nat → Prop} {c : Cd} {R : Nat → Ru} {σ τ σ' τ' : pS}
def PR (k x : Nat) : Prop := k = 30 ∨ k = 41 ∨ k = 42 ∨ (k = 33 ∧ x = 4)
def QR (k x : Nat) : Prop := k = 128 ∨ k = 126 ∨ k = 125 ∨ k = 132 ∨ (k = 84 ∧ x = 67)
theorem PR_N (k x : Nat) (h : PR k x) : PN k x := by unfold PR at h; unfold PN; omega
theorem QR_N (k x : Nat) (h : QR k x) : QN k x := by unfold QR at h; unfold QN; omega
theorem un_PR (k x : Nat) (h : P_un k x) : PR k x := by unfold P_un at h; unfold PR; omega
theorem un_QR (k x : Nat) (h : Q_un k x) : QR k x := by unfold Q_un at h; unfold QR; omega
theorem re_PR (i k x : Nat) (h : P_re i k x) : PR k x := by unfold P_re at h; unfold PR; omega
theorem re_QR (i k x : Nat) (h : Q_re i k x) : QR k x := by unfold Q_re at h; unfold QR; omega
theorem LW.n (h : LW mL c R σ τ) (h1 : FR PN σ σ') (h2 : FR QN τ τ') : LW mL c R σ' τ' := h.mv (h1.get (by unfold PN; omega)) (fun k x _ _ => h1.get (by unfold PN; omega)) (h2.get (by unfold QN; omega)) (fun k x _ _ => h2.get (by unfold QN; omega))
theorem RN.un (H : RN m rec D σ τ) (r : RM m D σ' τ') (a1 : FR P_un σ σ') (a2 : FR Q_un τ τ') (h41 : ∀ j, σ' 41 j = 0 ∨ σ' 41 j = σ 41 j) : RN m rec D σ' τ' := by
  refine ⟨H.g.fr (a1.mono P_un_N) (a2.mono Q_un_N), r, fun j hj q => ?_, H.v.fr (fun k x hk => a1.get (by unfold P_un; omega)), ?_⟩
  · rw [a1.get (k := 39) (by unfold P_un; omega)]
    rcases h41 j with z | z
    · omega
    · exact H.t j hj (z ▸ q)
  · unfold CW
    rw [a1.get (k := 33) (x := 1) (by unfold P_un; omega), a2.get (k := 84) (x := 64) (by unfold Q_un; omega)]
    exact H.w
theorem RN.re {i : Nat} (H : RN m rec D σ τ) (h2 : σ 39 i = 2) (r : RM m D σ' τ') (a1 : FR (P_re i) σ σ') (a2 : FR (Q_re i) τ τ') : RN m rec D σ' τ' := by
  refine ⟨H.g.fr (a1.mono (fun k x h => PR_N _ _ (re_PR _ _ _ h))) (a2.mono (fun k x h => QR_N _ _ (re_QR _ _ _ h))), r, fun j hj q => ?_, H.v.fr (fun k x hk => a1.get (by unfold P_re; omega)), ?_⟩
  · rw [a1.get (k := 39) (by unfold P_re; omega)]
    by_cases hji : j = i
    · rw [hji]; exact h2
    · rw [a1.get (k := 41) (by unfold P_re; omega)] at q
      exact H.t j hj q
  · unfold CW
    rw [a1.get (k := 33) (x := 1) (by unfold P_re; omega), a2.get (k := 84) (x := 64) (by unfold Q_re; omega)]
    exact H.w
theorem RN.ca (H : RN m rec D σ τ) (a1 : FR P_sca σ σ') (a2 : FR Q_sca τ τ') (g : σ' 33 3 = τ' 84 66) : RN m rec D σ' τ' := by
  refine ⟨H.g.fr (a1.mono (fun k x h => by unfold P_sca at h; unfold PN; omega)) (a2.mono (fun k x h => by unfold Q_sca at h; unfold QN; omega)), H.r.sca a1 a2 g, fun j hj q => ?_, H.v.fr (fun k x hk => a1.get (by unfold P_sca; omega)), ?_⟩
  · rw [a1.get (k := 41) (by unfold P_sca; omega)] at q
    rw [a1.get (k := 39) (by unfold P_sca; omega)]
    exact H.t j hj q
  · unfold CW
    rw [a1.get (k := 33) (x := 1) (by unfold P_sca; omega), a2.get (k := 84) (x := 64) (by unfold Q_sca; omega)]
    exact H.w
/-- the store i is retired in both -/
theorem rq_ls (H : RN m rec D σ τ) {i : Nat} (hi : i < m) (h5 : σ 5 i = 3) (h39 : σ 39 i = 2) : ∃ σ' τ', f_Mach_retireOne_3_p59 (i : Int) σ = some (0, σ') ∧ f_M_retires_84_p46 (i : Int) τ = some (0, τ') ∧ RN m rec D σ' τ' ∧ FR PR σ σ' ∧ FR QR τ τ' := by
  have hm := H.g.le
  have g : (0 : Int) ≤ (i : Int) ∧ (i : Int) < 20 := by omega
  obtain ⟨σ1, τ1, u1, u2, u3, u4, u5, u6⟩ := un_ls (i := i + 1) H.g H.r
  have H1 : RN m rec D σ1 τ1 := H.un u3 u4 u5 (fun j => by
    rw [u6]
    by_cases z : i + 1 ≤ j ∧ j < m
    · rw [if_pos z]; exact Or.inl rfl
    · rw [if_neg z]; exact Or.inr rfl)
  have k5 : σ1 5 i = 3 := (u4.get (by unfold P_un; omega)).trans h5
  have k39 : σ1 39 i = 2 := (u4.get (by unfold P_un; omega)).trans h39
  have sz := H1.g.sz hi (by omega)
  obtain ⟨s, hs⟩ : ∃ s : Nat, σ1 7 i = (s : Int) := ⟨(σ1 7 i).toNat, by omega⟩
  have hs4 : s ≤ 4 := by omega
  have va := H1.r.va i hi (H1.r.dn i hi k39)
  have v37 : σ1 37 i = τ1 121 i := va.2.2.1 (by omega)
  obtain ⟨σ2, x1, x2, x3, -, x5, x6⟩ := rt_68 (j := i) (s := s) (p := σ1 37 i) (v := σ1 36 i) (by omega) hs4 s 0 4096 σ1 (by omega) (by omega) hs rfl rfl
  obtain ⟨τ2, y1, y2, y3, -, y5, y6, y7⟩ := rt_m68 (j := i) (s := s) (p := σ1 37 i) (v := σ1 36 i) (M := τ1 128) (by omega) hs4 s 0 4096 (pU τ1 132 i (τ1 121 i)) (by omega) (by omega) (by rw [pU_c _ _ _ _ (by decide), sz.1]; exact hs) (by rw [pU_c _ _ _ _ (by decide)]; exact v37.symm) (by rw [pU_c _ _ _ _ (by decide)]; exact va.1.symm) (fun x => pU_c _ _ _ _ (by decide))
  have z2 : FR (Q_re i) τ1 τ2 := (FR.u (by unfold Q_re; omega)).tr y2
  have at6 : ∀ q, (atk (σ1 37 i) q).toNat < 64 := fun q => by have z := pAnd_63 (pw (σ1 37 i + (q : Int))); unfold atk; omega
  have r2 : RM m D σ2 τ2 := H1.r.sre x2 z2 (fun j hj q => by have z := H1.g.sz hj q; omega) k5 x6 y6 (by rw [y7, pU_s]; exact v37.symm) (fun e he => by
    have he' : e < s := by omega
    rw [x3 e (by omega) he', y3 e (by omega) he']
    exact H1.r.me _ (at6 e)) (fun x hx => by
    rw [x5, y5]
    exact ub_cg H1.r.me s x hx)
  refine ⟨σ2, τ2, ?_, ?_, H1.re k39 r2 x2 z2, (u4.mono un_PR).tr (x2.mono (re_PR i)), (u5.mono un_QR).tr (z2.mono (re_QR i))⟩
  · unfold f_Mach_retireOne_3_p59
    rw [pw_s (show i < 20 by omega) (by decide), u1, Option.bind_some]
    exact x1
  · unfold f_M_retires_84_p46
    rw [pw_s (show i < 20 by omega) (by decide), u2, Option.bind_some]
    dsimp only
    rw [if_pos g, if_pos g, Int.toNat_natCast]
    exact y1
/-- the oldest store that may be retired -/
theorem or_lp (H : RN m rec D σ τ) : ∀ (d i fu1 fu2 : Nat), i + d = m → d < fu1 → d < fu2 → ∃ v : Int, f_Mach_oldestToRetire_3_p2 fu1 (i : Int) σ = some (v, σ) ∧ f_M_oldestToRetire_84_p2 fu2 (i : Int) τ = some (v, τ) ∧ (v = -1 ∨ ∃ j : Nat, v = (j : Int) ∧ j < m ∧ σ 5 j = 3 ∧ σ 39 j = 2)
  | 0, i, fu1, fu2, hi, h1, h2 => by
    obtain ⟨n1, rfl⟩ : ∃ n, fu1 = n + 1 := ⟨fu1 - 1, by omega⟩
    obtain ⟨n2, rfl⟩ : ∃ n, fu2 = n + 1 := ⟨fu2 - 1, by omega⟩
    have a := H.g.cm
    have b := H.g.mm
    refine ⟨-1, ?_, ?_, Or.inl rfl⟩
    · show (if σ 4 11 ≤ (i : Int) then _ else _) = _
      rw [if_pos (by omega)]
    · show (if τ 84 2 ≤ (i : Int) then _ else _) = _
      rw [if_pos (by omega)]
  | d + 1, i, fu1, fu2, hi, h1, h2 => by
    obtain ⟨n1, rfl⟩ : ∃ n, fu1 = n + 1 := ⟨fu1 - 1, by omega⟩
    obtain ⟨n2, rfl⟩ : ∃ n, fu2 = n + 1 := ⟨fu2 - 1, by omega⟩
    have hm := H.g.le
    have a := H.g.cm
    have b := H.g.mm
    have him : i < m := by omega
    have g : (0 : Int) ≤ (i : Int) ∧ (i : Int) < 20 := by omega
    obtain ⟨v, q1, q2, q3⟩ := or_lp H d (i + 1) n1 n2 (by omega) (by omega) (by omega)
    have eX : f_Mach_oldestToRetire_3_p2 (n1 + 1) (i : Int) σ = (if σ 5 i = 3 then (if σ 39 i = 2 then (if σ 41 i = 0 then some ((i : Int), σ) else some (v, σ)) else some (v, σ)) else some (v, σ)) := by
      show (if σ 4 11 ≤ (i : Int) then _ else _) = _
      rw [if_neg (by omega), if_pos g, if_pos g, if_pos g, Int.toNat_natCast, pw_s (show i < 20 by omega) (by decide), q1]
    have eM : f_M_oldestToRetire_84_p2 (n2 + 1) (i : Int) τ = (if σ 5 i = 3 then (if σ 39 i = 2 then (if σ 41 i = 0 then some ((i : Int), τ) else some (v, τ)) else some (v, τ)) else some (v, τ)) := by
      show (if τ 84 2 ≤ (i : Int) then _ else _) = _
      rw [if_neg (by omega), if_pos g, if_pos g, if_pos g, Int.toNat_natCast, pw_s (show i < 20 by omega) (by decide), q2, (H.g.kd him).1, ← (H.r.st i him).1, ← (H.r.rt i him).1]
    rw [eX, eM]
    by_cases z5 : σ 5 i = 3
    · rw [if_pos z5, if_pos z5]
      by_cases z39 : σ 39 i = 2
      · rw [if_pos z39, if_pos z39]
        by_cases z41 : σ 41 i = 0
        · rw [if_pos z41, if_pos z41]
          exact ⟨_, rfl, rfl, Or.inr ⟨i, rfl, him, z5, z39⟩⟩
        · rw [if_neg z41, if_neg z41]
          exact ⟨v, rfl, rfl, q3⟩
      · rw [if_neg z39, if_neg z39]
        exact ⟨v, rfl, rfl, q3⟩
    · rw [if_neg z5, if_neg z5]
      exact ⟨v, rfl, rfl, q3⟩
/-- whether all ahead of i are done -/
theorem da_lp (H : RN m rec D σ τ) {i : Nat} (hi : i ≤ m) : ∀ (d k fu1 fu2 : Nat), k + d = i → d < fu1 → d < fu2 → ∃ b : Int, f_Mach_doneAhead_3_p2 fu1 (i : Int) (k : Int) σ = some (b, σ) ∧ f_M_areAllDone_84_p2 fu2 (i : Int) (k : Int) τ = some (b, τ)
  | 0, k, fu1, fu2, hk, h1, h2 => by
    obtain ⟨n1, rfl⟩ : ∃ n, fu1 = n + 1 := ⟨fu1 - 1, by omega⟩
    obtain ⟨n2, rfl⟩ : ∃ n, fu2 = n + 1 := ⟨fu2 - 1, by omega⟩
    refine ⟨1, ?_, ?_⟩
    · show (if (i : Int) ≤ (k : Int) then _ else _) = _
      rw [if_pos (by omega)]
    · show (if (i : Int) ≤ (k : Int) then _ else _) = _
      rw [if_pos (by omega)]
  | d + 1, k, fu1, fu2, hk, h1, h2 => by
    obtain ⟨n1, rfl⟩ : ∃ n, fu1 = n + 1 := ⟨fu1 - 1, by omega⟩
    obtain ⟨n2, rfl⟩ : ∃ n, fu2 = n + 1 := ⟨fu2 - 1, by omega⟩
    have hm := H.g.le
    have g : (0 : Int) ≤ (k : Int) ∧ (k : Int) < 20 := by omega
    obtain ⟨v, q1, q2⟩ := da_lp H hi d (k + 1) n1 n2 (by omega) (by omega) (by omega)
    have eX : f_Mach_doneAhead_3_p2 (n1 + 1) (i : Int) (k : Int) σ = (if σ 39 k = 2 then some (v, σ) else some (0, σ)) := by
      show (if (i : Int) ≤ (k : Int) then _ else _) = _
      rw [if_neg (by omega), if_pos g, Int.toNat_natCast, pw_s (show k < 20 by omega) (by decide), q1]
    have eM : f_M_areAllDone_84_p2 (n2 + 1) (i : Int) (k : Int) τ = (if σ 39 k = 2 then some (v, τ) else some (0, τ)) := by
      show (if (i : Int) ≤ (k : Int) then _ else _) = _
      rw [if_neg (by omega), if_pos g, Int.toNat_natCast, pw_s (show k < 20 by omega) (by decide), q2, ← (H.r.st k (by omega)).1]
    rw [eX, eM]
    by_cases z : σ 39 k = 2
    · rw [if_pos z, if_pos z]
      exact ⟨v, rfl, rfl⟩
    · rw [if_neg z, if_neg z]
      exact ⟨0, rfl, rfl⟩
/-- whether all are done and all stores retired -/
theorem se_lp (H : RN m rec D σ τ) : ∀ (d i fu1 fu2 : Nat), i + d = m → d < fu1 → d < fu2 → ∃ v : Int, f_Mach_settled_3_p2 fu1 (i : Int) σ = some (v, σ) ∧ f_M_isOver_84_p2 fu2 (i : Int) τ = some (v, τ) ∧ (v ≠ 0 → ∀ j, i ≤ j → j < m → σ 39 j = 2)
  | 0, i, fu1, fu2, hi, h1, h2 => by
    obtain ⟨n1, rfl⟩ : ∃ n, fu1 = n + 1 := ⟨fu1 - 1, by omega⟩
    obtain ⟨n2, rfl⟩ : ∃ n, fu2 = n + 1 := ⟨fu2 - 1, by omega⟩
    have a := H.g.cm
    have b := H.g.mm
    refine ⟨1, ?_, ?_, fun _ j a b => by omega⟩
    · show (if σ 4 11 ≤ (i : Int) then _ else _) = _
      rw [if_pos (by omega)]
    · show (if τ 84 2 ≤ (i : Int) then _ else _) = _
      rw [if_pos (by omega)]
  | d + 1, i, fu1, fu2, hi, h1, h2 => by
    obtain ⟨n1, rfl⟩ : ∃ n, fu1 = n + 1 := ⟨fu1 - 1, by omega⟩
    obtain ⟨n2, rfl⟩ : ∃ n, fu2 = n + 1 := ⟨fu2 - 1, by omega⟩
    have hm := H.g.le
    have a := H.g.cm
    have b := H.g.mm
    have him : i < m := by omega
    have g : (0 : Int) ≤ (i : Int) ∧ (i : Int) < 20 := by omega
    obtain ⟨v, q1, q2, q3⟩ := se_lp H d (i + 1) n1 n2 (by omega) (by omega) (by omega)
    have eX : f_Mach_settled_3_p2 (n1 + 1) (i : Int) σ = (if σ 39 i = 2 then (if σ 5 i = 3 then (if σ 41 i = 0 then some (0, σ) else some (v, σ)) else some (v, σ)) else some (0, σ)) := by
      show (if σ 4 11 ≤ (i : Int) then _ else _) = _
      rw [if_neg (by omega), if_pos g, if_pos g, if_pos g, Int.toNat_natCast, pw_s (show i < 20 by omega) (by decide), q1]
    have eM : f_M_isOver_84_p2 (n2 + 1) (i : Int) τ = (if σ 39 i = 2 then (if σ 5 i = 3 then (if σ 41 i = 0 then some (0, τ) else some (v, τ)) else some (v, τ)) else some (0, τ)) := by
      show (if τ 84 2 ≤ (i : Int) then _ else _) = _
      rw [if_neg (by omega), if_pos g, if_pos g, if_pos g, Int.toNat_natCast, pw_s (show i < 20 by omega) (by decide), q2, (H.g.kd him).1, ← (H.r.st i him).1, ← (H.r.rt i him).1]
    rw [eX, eM]
    by_cases z39 : σ 39 i = 2
    · have q3 : v ≠ 0 → ∀ j, i ≤ j → j < m → σ 39 j = 2 := fun hv j a b => by
        by_cases hj : j = i
        · rw [hj]; exact z39
        · exact q3 hv j (by omega) b
      rw [if_pos z39, if_pos z39]
      by_cases z5 : σ 5 i = 3
      · rw [if_pos z5, if_pos z5]
        by_cases z41 : σ 41 i = 0
        · rw [if_pos z41, if_pos z41]
          exact ⟨0, rfl, rfl, fun h => absurd rfl h⟩
        · rw [if_neg z41, if_neg z41]
          exact ⟨v, rfl, rfl, q3⟩
      · rw [if_neg z5, if_neg z5]
        exact ⟨v, rfl, rfl, q3⟩
    · rw [if_neg z39, if_neg z39]
      exact ⟨0, rfl, rfl, fun h => absurd rfl h⟩
/-- a cycle's retiring -/
theorem rt_ls {cy : Int} (H : RN m rec D σ τ) (hL : LW mL c R σ τ) (hcy : σ 3 11 = cy) : ∃ σ' τ', f_Mach_retireOne_3 σ = some (0, σ') ∧ f_M_retires_84 cy τ = some (0, τ') ∧ RN m rec D σ' τ' ∧ LW mL c R σ' τ' ∧ FR PN σ σ' ∧ FR QN τ τ' ∧ σ' 3 11 = cy := by
  have hm := H.g.le
  obtain ⟨v, o1, o2, o3⟩ := or_lp H m 0 4096 4096 (by omega) (by omega) (by omega)
  have o1 : f_Mach_oldestToRetire_3 σ = some (v, σ) := o1
  have o2 : f_M_oldestToRetire_84 τ = some (v, τ) := o2
  unfold f_Mach_retireOne_3 f_M_retires_84
  rw [o1, o2, Option.bind_some, Option.bind_some]
  rcases o3 with o3 | ⟨i, o3, hi, h5, h39⟩
  · refine ⟨σ, τ, ?_, ?_, H, hL, FR.rf _ _, FR.rf _ _, hcy⟩
    · show (if v = -1 then _ else _) = _
      rw [if_pos o3]
    · show (if v = -1 then _ else _) = _
      rw [if_pos o3]
  · obtain ⟨b, d1, d2⟩ := da_lp H (i := i) (by omega) i 0 4096 4096 (by omega) (by omega) (by omega)
    have d1 : f_Mach_doneAhead_3 (i : Int) σ = some (b, σ) := d1
    have d2 : f_M_areAllDone_84 (i : Int) τ = some (b, τ) := d2
    have eX : (if v = -1 then some ((0 : Int), σ) else ((f_Mach_doneAhead_3 v σ).bind fun q3 => (if q3.1 = 0 then (f_Mach_retireOne_3_p24 v 1 q3.2) else (f_Mach_retireOne_3_p24 v 0 q3.2)))) = (if b = 0 then (f_Mach_retireOne_3_p24 (i : Int) 1 σ) else (f_Mach_retireOne_3_p59 (i : Int) σ)) := by
      rw [o3, if_neg (by omega), d1]
      rfl
    have eM : (if v = -1 then some ((0 : Int), τ) else ((f_M_areAllDone_84 v τ).bind fun q3 => (if q3.1 = 0 then ((f_M_feels_84 v cy 0 q3.2).bind fun q17 => ((f_M_isHeldBack_84 q17.2).bind fun q18 => (if q18.1 = 0 then (f_M_retires_84_p46 v (pU q18.2 84 66 (pw ((q18.2 84 66) + 1)))) else (some (0, q18.2))))) else (f_M_retires_84_p46 v q3.2)))) = (if b = 0 then ((f_M_feels_84 (i : Int) cy 0 τ).bind fun q17 => ((f_M_isHeldBack_84 q17.2).bind fun q18 => (if q18.1 = 0 then (f_M_retires_84_p46 (i : Int) (pU q18.2 84 66 (pw ((q18.2 84 66) + 1)))) else (some (0, q18.2))))) else (f_M_retires_84_p46 (i : Int) τ)) := by
      rw [o3, if_neg (by omega), d2]
      rfl
    have fin : ∀ (σ1 τ1 : pS), RN m rec D σ1 τ1 → LW mL c R σ1 τ1 → σ1 3 11 = cy → σ1 5 i = 3 → σ1 39 i = 2 → FR PN σ σ1 → FR QN τ τ1 → ∃ σ' τ', f_Mach_retireOne_3_p59 (i : Int) σ1 = some (0, σ') ∧ f_M_retires_84_p46 (i : Int) τ1 = some (0, τ') ∧ RN m rec D σ' τ' ∧ LW mL c R σ' τ' ∧ FR PN σ σ' ∧ FR QN τ τ' ∧ σ' 3 11 = cy := fun σ1 τ1 H1 L1 c1 z5 z39 a1 a2 => by
      obtain ⟨σ2, τ2, r1, r2, r3, r4, r5⟩ := rq_ls H1 hi z5 z39
      exact ⟨σ2, τ2, r1, r2, r3, L1.n (r4.mono PR_N) (r5.mono QR_N), a1.tr (r4.mono PR_N), a2.tr (r5.mono QR_N), (r4.get (by unfold PR; omega)).trans c1⟩
    suffices hh : ∃ σ' τ', (if b = 0 then (f_Mach_retireOne_3_p24 (i : Int) 1 σ) else (f_Mach_retireOne_3_p59 (i : Int) σ)) = some (0, σ') ∧ (if b = 0 then ((f_M_feels_84 (i : Int) cy 0 τ).bind fun q17 => ((f_M_isHeldBack_84 q17.2).bind fun q18 => (if q18.1 = 0 then (f_M_retires_84_p46 (i : Int) (pU q18.2 84 66 (pw ((q18.2 84 66) + 1)))) else (some (0, q18.2))))) else (f_M_retires_84_p46 (i : Int) τ)) = some (0, τ') ∧ RN m rec D σ' τ' ∧ LW mL c R σ' τ' ∧ FR PN σ σ' ∧ FR QN τ τ' ∧ σ' 3 11 = cy by
      obtain ⟨σ', τ', w1, w2, w3⟩ := hh
      exact ⟨σ', τ', eX.trans w1, eM.trans w2, w3⟩
    by_cases z : b = 0
    · rw [if_pos z, if_pos z]
      obtain ⟨σ1, τ1, t1, t2, t3, t4, t5⟩ := tl_ls H hi (w := 0) hcy
      have a1 : FR PS σ σ1 := t4.mono (fun k x h => by unfold PS; omega)
      have a2 : FR QS τ τ1 := t5.mono (fun k x h => by unfold QS; omega)
      have H1 := H.sc a1 a2
      have L1 := hL.n (a1.mono PS_N) (a2.mono QS_N)
      obtain ⟨w, σ2, τ2, b1, b2, b3, b4⟩ := hb_lp mL 0 4096 4096 σ1 τ1 (by omega) (by have := hL.1; omega) (by have := hL.1; omega) L1 t3
      have b1 : f_Law_holdsBack_16 σ1 = some (w, σ2) := b1
      have b2 : f_M_isHeldBack_84 τ1 = some (w, τ2) := b2
      have a3 : FR PS σ1 σ2 := b3.mono (fun k x h => by unfold P23 at h; unfold PS; omega)
      have a4 : FR QS τ1 τ2 := b4.mono (fun k x h => by unfold Q108 at h; unfold QS; omega)
      have H2 := H1.sc a3 a4
      have L2 := L1.n (a3.mono PS_N) (a4.mono QS_N)
      have c2 : σ2 3 11 = cy := by rw [b3.get (by unfold P23; omega), t4.get (by decide)]; exact hcy
      have f5 : σ2 5 i = 3 := by rw [b3.get (by unfold P23; omega), t4.get (by decide)]; exact h5
      have f39 : σ2 39 i = 2 := by rw [b3.get (by unfold P23; omega), t4.get (by decide)]; exact h39
      have A2 : FR PN σ σ2 := (a1.tr a3).mono PS_N
      have B2 : FR QN τ τ2 := (a2.tr a4).mono QS_N
      unfold f_Mach_retireOne_3_p24
      rw [if_neg (by decide), t1, t2, Option.bind_some, Option.bind_some, b1, b2, Option.bind_some, Option.bind_some]
      show ∃ σ' τ', (if w = 0 then (f_Mach_retireOne_3_p59 (i : Int) (pU σ2 33 3 (pw ((σ2 33 3) + 1)))) else (some (0, σ2))) = some (0, σ') ∧ (if w = 0 then (f_M_retires_84_p46 (i : Int) (pU τ2 84 66 (pw ((τ2 84 66) + 1)))) else (some (0, τ2))) = some (0, τ') ∧ _
      by_cases zw : w = 0
      · rw [if_pos zw, if_pos zw]
        have f1 : FR P_sca σ2 (pU σ2 33 3 (pw (σ2 33 3 + 1))) := FR.u ⟨rfl, rfl⟩
        have f2 : FR Q_sca τ2 (pU τ2 84 66 (pw (τ2 84 66 + 1))) := FR.u ⟨rfl, rfl⟩
        have n1 := f1.mono (Q := PN) (fun k x h => by unfold P_sca at h; unfold PN; omega)
        have n2 := f2.mono (Q := QN) (fun k x h => by unfold Q_sca at h; unfold QN; omega)
        exact fin _ _ (H2.ca f1 f2 (by rw [pU_s, pU_s, H2.r.ca])) (L2.n n1 n2) ((f1.get (by unfold P_sca; omega)).trans c2) ((f1.get (by unfold P_sca; omega)).trans f5) ((f1.get (by unfold P_sca; omega)).trans f39) (A2.tr n1) (B2.tr n2)
      · rw [if_neg zw, if_neg zw]
        exact ⟨σ2, τ2, rfl, rfl, H2, L2, A2, B2, c2⟩
    · rw [if_neg z, if_neg z]
      exact fin σ τ H hL hcy h5 h39 (FR.rf _ _) (FR.rf _ _)
end RT
