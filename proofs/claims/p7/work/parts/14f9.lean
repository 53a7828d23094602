section H9
variable {N : Nat} {σ τ σ' τ' : pS}
/-- what a run so wide answers from now, in any state of the same parts -/
theorem fs_t {m : Nat} {rec : Nat → O8} (w : Int) (hG : PG m rec σ τ) (h : WR N σ τ) : ∃ t : Int, (t = -5 ∨ 1 ≤ t) ∧ (∀ σ1, EQc wcA σ σ1 ∧ XOf σ σ1 → ∃ σ2, f_Mach_go_3 w 0 σ1 = some (t, σ2) ∧ (EQc wcA σ σ2 ∧ XOf σ σ2)) ∧ ∀ τ1, WR N σ τ1 ∧ MOf τ τ1 → ∃ b τ2, f_M_isTried_84 w 0 τ1 = some (b, τ2) ∧ (WR N σ τ2 ∧ MOf τ τ2) ∧ ((t = -5 ∧ b = 0) ∨ (t ≠ -5 ∧ b ≠ 0 ∧ τ2 84 63 = t)) := by
  obtain ⟨σa, τa, p1, p2, -, p3⟩ := it_ls (w := w) (Or.inl rfl) hG h
  have key : ∃ t b : Int, (t = -5 ∨ 1 ≤ t) ∧ f_Mach_go_3 w 0 σ = some (t, σa) ∧ f_M_isTried_84 w 0 τ = some (b, τa) ∧ ((t = -5 ∧ b = 0) ∨ (t ≠ -5 ∧ b ≠ 0 ∧ τa 84 63 = t)) := by
    rcases p3 with ⟨r1, r2⟩ | ⟨t, r1, r2, r3, r4, -⟩
    · exact ⟨-5, 0, Or.inl rfl, r1, r2, Or.inl ⟨rfl, rfl⟩⟩
    · exact ⟨t, 1, Or.inr r3, r1, r2, Or.inr ⟨by omega, by decide, r4⟩⟩
  obtain ⟨t, b, k0, k1, k2, k3⟩ := key
  refine ⟨t, k0, fun σ1 h1 => ?_, fun τ1 h1 => ?_⟩
  · have h2 := h.qc h1.1
    obtain ⟨m1, rec1, hG1⟩ := h2.2.1.pg
    obtain ⟨σb, τb, q1, q2, q0, q3⟩ := it_ls (w := w) (Or.inl rfl) hG1 h2
    have hW : EQc wcA σ σb ∧ XOf σ σb := ⟨fun k x z => (q1 k x z).trans (h1.1 k x z), fun k x y z => (q0.1 k x y z).trans (h1.2 k x y z)⟩
    rcases q3 with ⟨r1, r2⟩ | ⟨t', r1, r2, r3, r4, -⟩
    · have e := Option.some.inj (k2.symm.trans r2)
      have eb : b = 0 := congrArg Prod.fst e
      rcases k3 with ⟨z, -⟩ | ⟨-, z, -⟩
      · exact ⟨σb, by rw [r1, z], hW⟩
      · exact absurd eb z
    · have e := Option.some.inj (k2.symm.trans r2)
      have eb : b = 1 := congrArg Prod.fst e
      have es : τa = τb := congrArg Prod.snd e
      rcases k3 with ⟨-, z⟩ | ⟨-, -, z⟩
      · omega
      · rw [es, r4] at z
        exact ⟨σb, by rw [r1, z], hW⟩
  · obtain ⟨m1, rec1, hG1⟩ := h1.1.2.1.pg
    obtain ⟨σb, τb, q1, q2, q0, q3⟩ := it_ls (w := w) (Or.inl rfl) hG1 h1.1
    have hW : WR N σ τb ∧ MOf τ τb := ⟨q2.qc (EQc.sy q1), fun k x y => (q0.2 k x y).trans (h1.2 k x y)⟩
    rcases q3 with ⟨r1, r2⟩ | ⟨t', r1, r2, r3, r4, -⟩
    · have e := Option.some.inj (k1.symm.trans r1)
      have et : t = -5 := congrArg Prod.fst e
      exact ⟨0, τb, r2, hW, Or.inl ⟨et, rfl⟩⟩
    · have e := Option.some.inj (k1.symm.trans r1)
      have et : t = t' := congrArg Prod.fst e
      exact ⟨1, τb, r2, hW, Or.inr ⟨by omega, by decide, by rw [et]; exact r4⟩⟩
/-- a step of the class's best -/
def bX (w t b c b' c' : Int) : Prop := (t = -5 ∧ b' = b ∧ c' = c) ∨ (t ≠ -5 ∧ b = -5 ∧ b' = t ∧ c' = w) ∨ (t ≠ -5 ∧ b ≠ -5 ∧ b ≤ t ∧ b' = b ∧ c' = c) ∨ (t ≠ -5 ∧ b ≠ -5 ∧ t < b ∧ b' = t ∧ c' = w)
/-- a step of the reference's -/
def bM (w t c b c' b' : Int) : Prop := (t = -5 ∧ b' = b ∧ c' = c) ∨ (t ≠ -5 ∧ c = -5 ∧ b' = t ∧ c' = w) ∨ (t ≠ -5 ∧ c ≠ -5 ∧ t ≤ b ∧ b' = t ∧ c' = w) ∨ (t ≠ -5 ∧ c ≠ -5 ∧ b < t ∧ b' = b ∧ c' = c)
theorem fX_st {w : Nat} (hw : w ≤ 4) {t : Int} (hT : ∀ σ1, EQc wcA σ σ1 ∧ XOf σ σ1 → ∃ σ2, f_Mach_go_3 (w : Int) 0 σ1 = some (t, σ2) ∧ (EQc wcA σ σ2 ∧ XOf σ σ2)) (n : Nat) (a b c : Int) {σ1 : pS} (h : EQc wcA σ σ1 ∧ XOf σ σ1) : ∃ σ2 b' c', f_X_fastest_0_p33 (n + 1) a b c (w : Int) σ1 = f_X_fastest_0_p33 n a b' c' ((w + 1 : Nat) : Int) σ2 ∧ bX (w : Int) t b c b' c' ∧ (EQc wcA σ σ2 ∧ XOf σ σ2) := by
  obtain ⟨σ2, q1, q2⟩ := hT σ1 h
  have e : f_X_fastest_0_p33 (n + 1) a b c (w : Int) σ1 = (if t = -5 then f_X_fastest_0_p33 n a b c ((w + 1 : Nat) : Int) σ2 else (if b = -5 then f_X_fastest_0_p33 n a t (w : Int) ((w + 1 : Nat) : Int) σ2 else (if b ≤ t then f_X_fastest_0_p33 n a b c ((w + 1 : Nat) : Int) σ2 else f_X_fastest_0_p33 n a t (w : Int) ((w + 1 : Nat) : Int) σ2))) := by
    show (if (4 : Int) < (w : Int) then _ else _) = _
    rw [if_neg (by omega), q1, Option.bind_some, pw_s (show w < 5 by omega) (by decide)]
  rw [e]
  by_cases z : t = -5
  · rw [if_pos z]
    exact ⟨σ2, b, c, rfl, Or.inl ⟨z, rfl, rfl⟩, q2⟩
  rw [if_neg z]
  by_cases z2 : b = -5
  · rw [if_pos z2]
    exact ⟨σ2, t, _, rfl, Or.inr (Or.inl ⟨z, z2, rfl, rfl⟩), q2⟩
  rw [if_neg z2]
  by_cases z3 : b ≤ t
  · rw [if_pos z3]
    exact ⟨σ2, b, c, rfl, Or.inr (Or.inr (Or.inl ⟨z, z2, z3, rfl, rfl⟩)), q2⟩
  · rw [if_neg z3]
    exact ⟨σ2, t, _, rfl, Or.inr (Or.inr (Or.inr ⟨z, z2, by omega, rfl, rfl⟩)), q2⟩
theorem fM_st {w : Nat} (hw : 1 ≤ w) (hw4 : w ≤ 4) {t : Int} (hT : ∀ τ1, WR N σ τ1 ∧ MOf τ τ1 → ∃ b τ2, f_M_isTried_84 (w : Int) 0 τ1 = some (b, τ2) ∧ (WR N σ τ2 ∧ MOf τ τ2) ∧ ((t = -5 ∧ b = 0) ∨ (t ≠ -5 ∧ b ≠ 0 ∧ τ2 84 63 = t))) (n : Nat) (a c b : Int) {τ1 : pS} (h : WR N σ τ1 ∧ MOf τ τ1) : ∃ τ2 c' b', f_M_fastest_84_p27 (n + 1) a c b (w : Int) τ1 = f_M_fastest_84_p27 n a c' b' ((w : Int) - 1) τ2 ∧ bM (w : Int) t c b c' b' ∧ (WR N σ τ2 ∧ MOf τ τ2) := by
  obtain ⟨q, τ2, q1, q2, q3⟩ := hT τ1 h
  have e : f_M_fastest_84_p27 (n + 1) a c b (w : Int) τ1 = (if q = 0 then f_M_fastest_84_p27 n a c b ((w : Int) - 1) τ2 else (if c = -5 then f_M_fastest_84_p27 n a (w : Int) (τ2 84 63) ((w : Int) - 1) τ2 else (if τ2 84 63 ≤ b then f_M_fastest_84_p27 n a (w : Int) (τ2 84 63) ((w : Int) - 1) τ2 else f_M_fastest_84_p27 n a c b ((w : Int) - 1) τ2))) := by
    show (if (w : Int) ≤ 0 then _ else _) = _
    rw [if_neg (by omega), q1, Option.bind_some, pw_p (show w < 5 by omega) (by decide)]
  rw [e]
  rcases q3 with ⟨y1, y2⟩ | ⟨y1, y2, y3⟩
  · rw [if_pos y2]
    exact ⟨τ2, c, b, rfl, Or.inl ⟨y1, rfl, rfl⟩, q2⟩
  rw [if_neg y2, y3]
  by_cases z2 : c = -5
  · rw [if_pos z2]
    exact ⟨τ2, _, _, rfl, Or.inr (Or.inl ⟨y1, z2, rfl, rfl⟩), q2⟩
  rw [if_neg z2]
  by_cases z3 : t ≤ b
  · rw [if_pos z3]
    exact ⟨τ2, _, _, rfl, Or.inr (Or.inr (Or.inl ⟨y1, z2, z3, rfl, rfl⟩)), q2⟩
  · rw [if_neg z3]
    exact ⟨τ2, c, b, rfl, Or.inr (Or.inr (Or.inr ⟨y1, z2, by omega, rfl, rfl⟩)), q2⟩
/-- the best of those in S: its number in c, what it answers in b; of like ones the least -/
def BS (T : Nat → Int) (S : Nat → Prop) (b c : Int) : Prop := (b = -5 ∧ c = -5 ∧ ∀ i, S i → T i = -5) ∨ ∃ j : Nat, S j ∧ c = (j : Int) ∧ b = T j ∧ T j ≠ -5 ∧ ∀ i, S i → T i = -5 ∨ (T j ≤ T i ∧ (i < j → T j < T i))
def SX (w i : Nat) : Prop := 1 ≤ i ∧ i < w
def SM (w i : Nat) : Prop := w < i ∧ i ≤ 4
theorem bX_st {T : Nat → Int} {w : Nat} {b c b' c' : Int} (hw : 1 ≤ w) (h : BS T (SX w) b c) (s : bX (w : Int) (T w) b c b' c') : BS T (SX (w + 1)) b' c' := by
  have up : ∀ i, SX w i → SX (w + 1) i := fun i hi => ⟨hi.1, by have := hi.2; omega⟩
  have dn : ∀ i, SX (w + 1) i → i ≠ w → SX w i := fun i hi hn => ⟨hi.1, by have := hi.2; omega⟩
  have sw : SX (w + 1) w := ⟨hw, by omega⟩
  rcases s with ⟨z, e1, e2⟩ | ⟨z, zb, e1, e2⟩ | ⟨z, zb, zl, e1, e2⟩ | ⟨z, zb, zl, e1, e2⟩
  · rw [e1, e2]
    rcases h with ⟨x1, x2, x3⟩ | ⟨j, x1, x2, x3, x4, x5⟩
    · refine Or.inl ⟨x1, x2, fun i hi => ?_⟩
      by_cases y : i = w
      · rw [y]; exact z
      · exact x3 i (dn i hi y)
    · refine Or.inr ⟨j, up j x1, x2, x3, x4, fun i hi => ?_⟩
      by_cases y : i = w
      · rw [y]; exact Or.inl z
      · exact x5 i (dn i hi y)
  · rw [e1, e2]
    rcases h with ⟨x1, x2, x3⟩ | ⟨j, x1, x2, x3, x4, x5⟩
    · refine Or.inr ⟨w, sw, rfl, rfl, z, fun i hi => ?_⟩
      by_cases y : i = w
      · rw [y]; exact Or.inr ⟨Int.le_refl _, fun q => absurd q (Nat.lt_irrefl _)⟩
      · exact Or.inl (x3 i (dn i hi y))
    · exact absurd (x3.symm.trans zb) x4
  · rw [e1, e2]
    rcases h with ⟨x1, x2, x3⟩ | ⟨j, x1, x2, x3, x4, x5⟩
    · exact absurd x1 zb
    · refine Or.inr ⟨j, up j x1, x2, x3, x4, fun i hi => ?_⟩
      by_cases y : i = w
      · rw [y]
        rw [x3] at zl
        have := x1.2
        exact Or.inr ⟨zl, fun q => by omega⟩
      · exact x5 i (dn i hi y)
  · rw [e1, e2]
    rcases h with ⟨x1, x2, x3⟩ | ⟨j, x1, x2, x3, x4, x5⟩
    · exact absurd x1 zb
    · refine Or.inr ⟨w, sw, rfl, rfl, z, fun i hi => ?_⟩
      by_cases y : i = w
      · rw [y]; exact Or.inr ⟨Int.le_refl _, fun q => absurd q (Nat.lt_irrefl _)⟩
      · rw [x3] at zl
        rcases x5 i (dn i hi y) with q | ⟨q, -⟩
        · exact Or.inl q
        · exact Or.inr ⟨by omega, fun _ => by omega⟩
theorem bM_st {T : Nat → Int} {w : Nat} {b c b' c' : Int} (hw : w + 1 ≤ 4) (h : BS T (SM (w + 1)) b c) (s : bM ((w + 1 : Nat) : Int) (T (w + 1)) c b c' b') : BS T (SM w) b' c' := by
  have up : ∀ i, SM (w + 1) i → SM w i := fun i hi => ⟨by have := hi.1; omega, hi.2⟩
  have dn : ∀ i, SM w i → i ≠ w + 1 → SM (w + 1) i := fun i hi hn => ⟨by have := hi.1; omega, hi.2⟩
  have sw : SM w (w + 1) := ⟨by omega, hw⟩
  rcases s with ⟨z, e1, e2⟩ | ⟨z, zb, e1, e2⟩ | ⟨z, zb, zl, e1, e2⟩ | ⟨z, zb, zl, e1, e2⟩
  · rw [e1, e2]
    rcases h with ⟨x1, x2, x3⟩ | ⟨j, x1, x2, x3, x4, x5⟩
    · refine Or.inl ⟨x1, x2, fun i hi => ?_⟩
      by_cases y : i = w + 1
      · rw [y]; exact z
      · exact x3 i (dn i hi y)
    · refine Or.inr ⟨j, up j x1, x2, x3, x4, fun i hi => ?_⟩
      by_cases y : i = w + 1
      · rw [y]; exact Or.inl z
      · exact x5 i (dn i hi y)
  · rw [e1, e2]
    rcases h with ⟨x1, x2, x3⟩ | ⟨j, x1, x2, x3, x4, x5⟩
    · refine Or.inr ⟨w + 1, sw, rfl, rfl, z, fun i hi => ?_⟩
      by_cases y : i = w + 1
      · rw [y]; exact Or.inr ⟨Int.le_refl _, fun q => absurd q (Nat.lt_irrefl _)⟩
      · exact Or.inl (x3 i (dn i hi y))
    · exfalso
      rw [x2] at zb
      omega
  · rw [e1, e2]
    rcases h with ⟨x1, x2, x3⟩ | ⟨j, x1, x2, x3, x4, x5⟩
    · exact absurd x2 zb
    · refine Or.inr ⟨w + 1, sw, rfl, rfl, z, fun i hi => ?_⟩
      by_cases y : i = w + 1
      · rw [y]; exact Or.inr ⟨Int.le_refl _, fun q => absurd q (Nat.lt_irrefl _)⟩
      · rw [x3] at zl
        have := hi.1
        rcases x5 i (dn i hi y) with q | ⟨q, -⟩
        · exact Or.inl q
        · exact Or.inr ⟨by omega, fun k => by omega⟩
  · rw [e1, e2]
    rcases h with ⟨x1, x2, x3⟩ | ⟨j, x1, x2, x3, x4, x5⟩
    · exact absurd x2 zb
    · refine Or.inr ⟨j, up j x1, x2, x3, x4, fun i hi => ?_⟩
      by_cases y : i = w + 1
      · rw [y]
        rw [x3] at zl
        exact Or.inr ⟨by omega, fun _ => zl⟩
      · exact x5 i (dn i hi y)
theorem BS_one {T : Nat → Int} {S S' : Nat → Prop} {b c b' c' : Int} (hS : ∀ i, S i ↔ S' i) (h : BS T S b c) (h' : BS T S' b' c') : b = b' ∧ c = c' := by
  rcases h with ⟨x1, x2, x3⟩ | ⟨j, x1, x2, x3, x4, x5⟩
  · rcases h' with ⟨y1, y2, y3⟩ | ⟨k, y1, y2, y3, y4, y5⟩
    · exact ⟨x1.trans y1.symm, x2.trans y2.symm⟩
    · exact absurd (x3 k ((hS k).mpr y1)) y4
  · rcases h' with ⟨y1, y2, y3⟩ | ⟨k, y1, y2, y3, y4, y5⟩
    · exact absurd (y3 j ((hS j).mp x1)) x4
    · have p := (x5 k ((hS k).mpr y1)).resolve_left y4
      have q := (y5 j ((hS j).mp x1)).resolve_left x4
      have e : j = k := by
        rcases Nat.lt_trichotomy j k with r | r | r
        · have := q.2 r
          omega
        · exact r
        · have := p.2 r
          omega
      rw [x2, x3, y2, y3, e]
      exact ⟨rfl, rfl⟩
theorem w_fastest (a : Int) (h : WR N σ τ) : ∃ v σ' τ', f_X_fastest_0 a σ = some (v, σ') ∧ f_M_fastest_84 a τ = some (v, τ') ∧ WS N σ τ σ' τ' := by
  obtain ⟨m, rec, hG⟩ := h.2.1.pg
  have e11 := hG.cm
  have e2 := hG.mm
  unfold f_X_fastest_0 f_M_fastest_84
  rw [m_in, Option.bind_some]
  simp only [e11, e2]
  by_cases g : 0 ≤ a ∧ a ≤ 1
  · rw [if_neg (show ¬ a < 0 by omega), if_neg (show ¬ 1 < a by omega), if_pos g, if_neg (show ¬ (1 : Int) = 0 by decide)]
    by_cases z : (m : Int) = 0
    · rw [if_pos z, if_pos z]
      exact ⟨_, _, _, rfl, rfl, h.sm⟩
    · rw [if_neg z, if_neg z]
      obtain ⟨T, hT⟩ : ∃ T : Nat → Int, ∀ w : Nat, (∀ σ1, EQc wcA σ σ1 ∧ XOf σ σ1 → ∃ σ2, f_Mach_go_3 (w : Int) 0 σ1 = some (T w, σ2) ∧ (EQc wcA σ σ2 ∧ XOf σ σ2)) ∧ ∀ τ1, WR N σ τ1 ∧ MOf τ τ1 → ∃ b τ2, f_M_isTried_84 (w : Int) 0 τ1 = some (b, τ2) ∧ (WR N σ τ2 ∧ MOf τ τ2) ∧ ((T w = -5 ∧ b = 0) ∨ (T w ≠ -5 ∧ b ≠ 0 ∧ τ2 84 63 = T w)) := ⟨fun w => (fs_t (w : Int) hG h).choose, fun w => (fs_t (w : Int) hG h).choose_spec.2⟩
      obtain ⟨s1, b1, c1, p1, p2, p3⟩ := fX_st (w := 1) (by decide) (hT 1).1 4095 a (-5) (-5) ⟨EQc.rf wcA σ, fun _ _ _ _ => rfl⟩
      obtain ⟨s2, b2, c2, p4, p5, p6⟩ := fX_st (w := 2) (by decide) (hT 2).1 4094 a b1 c1 p3
      obtain ⟨s3, b3, c3, p7, p8, p9⟩ := fX_st (w := 3) (by decide) (hT 3).1 4093 a b2 c2 p6
      obtain ⟨s4, b4, c4, p10, p11, p12⟩ := fX_st (w := 4) (by decide) (hT 4).1 4092 a b3 c3 p9
      obtain ⟨r1, d1, e1, q1, q2, q3⟩ := fM_st (w := 4) (by decide) (by decide) (hT 4).2 4095 a (-5) (-5) ⟨h, fun _ _ _ => rfl⟩
      obtain ⟨r2, d2, e2, q4, q5, q6⟩ := fM_st (w := 3) (by decide) (by decide) (hT 3).2 4094 a d1 e1 q3
      obtain ⟨r3, d3, e3, q7, q8, q9⟩ := fM_st (w := 2) (by decide) (by decide) (hT 2).2 4093 a d2 e2 q6
      obtain ⟨r4, d4, e4, q10, q11, q12⟩ := fM_st (w := 1) (by decide) (by decide) (hT 1).2 4092 a d3 e3 q9
      have A0 : BS T (SX 1) (-5) (-5) := Or.inl ⟨rfl, rfl, fun i hi => by have := hi.1; have := hi.2; omega⟩
      have A4 := bX_st (by decide) (bX_st (by decide) (bX_st (by decide) (bX_st (by decide) A0 p2) p5) p8) p11
      have B0 : BS T (SM 4) (-5) (-5) := Or.inl ⟨rfl, rfl, fun i hi => by have := hi.1; have := hi.2; omega⟩
      have B4 := bM_st (w := 0) (by decide) (bM_st (w := 1) (by decide) (bM_st (w := 2) (by decide) (bM_st (w := 3) (by decide) B0 q2) q5) q8) q11
      obtain ⟨eb, ec⟩ := BS_one (fun i => ⟨fun q => ⟨q.1, by have := q.2; omega⟩, fun q => ⟨q.1, by have := q.2; omega⟩⟩) A4 B4
      have fX : f_X_fastest_0_p33 4092 a b4 c4 ((4 + 1 : Nat) : Int) s4 = some (if a = 0 then c4 else b4, s4) := by
        show (if (4 : Int) < ((5 : Nat) : Int) then _ else _) = _
        rw [if_pos (by decide)]
        by_cases y : a = 0
        · rw [if_pos y, if_pos y]
        · rw [if_neg y, if_neg y]
      have fM : f_M_fastest_84_p27 4092 a d4 e4 (((1 : Nat) : Int) - 1) r4 = some (if a = 0 then d4 else e4, r4) := by
        show (if (((1 : Nat) : Int) - 1) ≤ 0 then _ else _) = _
        rw [if_pos (by decide)]
        by_cases y : a = 0
        · rw [if_pos y, if_pos y]
        · rw [if_neg y, if_neg y]
      have X : f_X_fastest_0_p33 4096 a (-5) (-5) 1 σ = some (if a = 0 then c4 else b4, s4) := p1.trans (p4.trans (p7.trans (p10.trans fX)))
      have M : f_M_fastest_84_p27 4096 a (-5) (-5) 4 τ = some (if a = 0 then d4 else e4, r4) := q1.trans (q4.trans (q7.trans (q10.trans fM)))
      rw [X, M, eb, ec]
      refine ⟨_, s4, r4, rfl, rfl, ?_⟩
      exact ⟨(q12.1.qc p12.1).mono (by omega), p12.2, q12.2⟩
  · rw [if_neg g, if_pos rfl]
    by_cases z : a < 0
    · rw [if_pos z]
      exact ⟨_, _, _, rfl, rfl, h.sm⟩
    · rw [if_neg z, if_pos (by omega)]
      exact ⟨_, _, _, rfl, rfl, h.sm⟩
end H9
