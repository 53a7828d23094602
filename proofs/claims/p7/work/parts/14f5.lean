section H5
variable {N : Nat} {σ τ σ' τ' : pS}
/-- how many of the first k are not -1 -/
def cW (f : Nat → Int) : Nat → Nat
  | 0 => 0
  | k + 1 => if f k = -1 then cW f k else cW f k + 1
theorem cW_le (f : Nat → Int) : ∀ k, cW f k ≤ k
  | 0 => Nat.le_refl 0
  | k + 1 => by
    have := cW_le f k
    unfold cW
    split <;> omega
theorem cW_cg {f g : Nat → Int} : ∀ k, (∀ j, j < k → f j = g j) → cW f k = cW g k
  | 0, _ => rfl
  | k + 1, h => by
    unfold cW
    rw [h k (by omega), cW_cg k (fun j hj => h j (by omega))]
theorem cW_tl {f : Nat → Int} {m : Nat} : ∀ d, (∀ j, m ≤ j → j < m + d → f j = -1) → cW f (m + d) = cW f m
  | 0, _ => rfl
  | d + 1, h => by
    show (if f (m + d) = -1 then cW f (m + d) else cW f (m + d) + 1) = _
    rw [if_pos (h (m + d) (by omega) (by omega))]
    exact cW_tl d (fun j h1 h2 => h j h1 (by omega))
theorem ws_c : ∀ (d i fu : Nat), i + d = 20 → d < fu → f_State_withSet_24_p4 fu ((cW (σ 27) i : Nat) : Int) (i : Int) σ = some (((cW (σ 27) 20 : Nat) : Int), σ)
  | 0, i, fu, hi, hf => by
    obtain ⟨n, rfl⟩ : ∃ n, fu = n + 1 := ⟨fu - 1, by omega⟩
    obtain rfl : i = 20 := by omega
    show (if (20 : Int) ≤ ((20 : Nat) : Int) then _ else _) = _
    rw [if_pos (by decide)]
  | d + 1, i, fu, hi, hf => by
    obtain ⟨n, rfl⟩ : ∃ n, fu = n + 1 := ⟨fu - 1, by omega⟩
    have ih := ws_c d (i + 1) n (by omega) (by omega)
    have g : (0 : Int) ≤ (i : Int) ∧ (i : Int) < 20 := by omega
    have hl := cW_le (σ 27) i
    have hc : cW (σ 27) i < 20 := by omega
    have i20 : i < 20 := by omega
    show (if (20 : Int) ≤ (i : Int) then _ else _) = _
    rw [if_neg (by omega), if_pos g, Int.toNat_natCast, pw_s i20 (by decide), pw_s hc (by decide)]
    by_cases z : σ 27 i = -1
    · rw [if_pos z]
      have e : cW (σ 27) (i + 1) = cW (σ 27) i := if_pos z
      rw [e] at ih
      exact ih
    · rw [if_neg z]
      have e : cW (σ 27) (i + 1) = cW (σ 27) i + 1 := if_neg z
      rw [e] at ih
      exact ih
theorem ws_m {m : Nat} (hm : m ≤ 20) (e2 : τ 84 2 = (m : Int)) : ∀ (d i fu : Nat), i + d = m → d < fu → f_M_withSet_84_p4 fu ((cW (τ 87) i : Nat) : Int) (i : Int) τ = some (((cW (τ 87) m : Nat) : Int), τ)
  | 0, i, fu, hi, hf => by
    obtain ⟨n, rfl⟩ : ∃ n, fu = n + 1 := ⟨fu - 1, by omega⟩
    obtain rfl : i = m := by omega
    show (if τ 84 2 ≤ (i : Int) then _ else _) = _
    rw [if_pos (by omega)]
  | d + 1, i, fu, hi, hf => by
    obtain ⟨n, rfl⟩ : ∃ n, fu = n + 1 := ⟨fu - 1, by omega⟩
    have ih := ws_m hm e2 d (i + 1) n (by omega) (by omega)
    have g : (0 : Int) ≤ (i : Int) ∧ (i : Int) < 20 := by omega
    have hl := cW_le (τ 87) i
    have hc : cW (τ 87) i < 20 := by omega
    have i20 : i < 20 := by omega
    show (if τ 84 2 ≤ (i : Int) then _ else _) = _
    rw [if_neg (by omega), if_pos g, Int.toNat_natCast, pw_s i20 (by decide), pw_s hc (by decide)]
    by_cases z : τ 87 i = -1
    · rw [if_pos z]
      have e : cW (τ 87) (i + 1) = cW (τ 87) i := if_pos z
      rw [e] at ih
      exact ih
    · rw [if_neg z]
      have e : cW (τ 87) (i + 1) = cW (τ 87) i + 1 := if_neg z
      rw [e] at ih
      exact ih
theorem ws_ls {m : Nat} {rec : Nat → O8} (hG : PG m rec σ τ) (hS : SRx σ τ) : ∃ v, f_State_withSet_24 σ = some (v, σ) ∧ f_M_withSet_84 τ = some (v, τ) := by
  have hm := hG.le
  have e11 := hG.cm
  refine ⟨((cW (σ 27) 20 : Nat) : Int), ws_c 20 0 4096 (by omega) (by omega), ?_⟩
  have h1 : cW (σ 27) 20 = cW (σ 27) m := by
    have := cW_tl (f := σ 27) (m := m) (20 - m) (fun j h1 h2 => (hS.2.2.2.1 j (by omega)).2.2 (by omega))
    rw [show m + (20 - m) = 20 by omega] at this
    exact this
  have h2 : cW (σ 27) m = cW (τ 87) m := cW_cg m (fun j hj => hS.2.2.1 j (by omega))
  rw [h1, h2]
  exact ws_m hm hG.mm m 0 4096 (by omega) (by omega)
/-- sets go in the reference -/
theorem fg_m {m : Nat} (hm : m ≤ 20) (v : Int) : ∀ (d i fu : Nat) (τ : pS), i + d = m → d < fu → τ 84 2 = (m : Int) → ∃ τ', f_M_forget_84_p7 fu v (i : Int) τ = some (v, τ') ∧ FR (Pk 87) τ τ' ∧ (∀ j, i ≤ j → j < m → τ' 87 j = -1) ∧ ∀ j, j < i → τ' 87 j = τ 87 j
  | 0, i, fu, τ, hi, hf, e2 => by
    obtain ⟨n, rfl⟩ : ∃ n, fu = n + 1 := ⟨fu - 1, by omega⟩
    refine ⟨τ, ?_, FR.rf _ _, fun j h1 h2 => by omega, fun j _ => rfl⟩
    show (if τ 84 2 ≤ (i : Int) then _ else _) = _
    rw [if_pos (by omega)]
  | d + 1, i, fu, τ, hi, hf, e2 => by
    obtain ⟨n, rfl⟩ : ∃ n, fu = n + 1 := ⟨fu - 1, by omega⟩
    have g : (0 : Int) ≤ (i : Int) ∧ (i : Int) < 20 := by omega
    have i20 : i < 20 := by omega
    obtain ⟨τ', q1, q2, q3, q4⟩ := fg_m hm v d (i + 1) n (pU τ 87 i (-1)) (by omega) (by omega) ((pU_c _ _ _ _ (by decide)).trans e2)
    refine ⟨τ', ?_, (FR.u (P := Pk 87) rfl).tr q2, fun j h1 h2 => ?_, fun j h1 => ?_⟩
    · show (if τ 84 2 ≤ (i : Int) then _ else _) = _
      rw [if_neg (by omega), if_pos g, Int.toNat_natCast, pw_s i20 (by decide)]
      exact q1
    · by_cases z : j = i
      · rw [z, q4 i (by omega), pU_s]
      · exact q3 j (by omega) h2
    · rw [q4 j (by omega), pU_i _ _ _ _ (by omega)]
theorem w_forget (h : WR N σ τ) : ∃ v σ' τ', f_X_forget_0 σ = some (v, σ') ∧ f_M_forget_84 τ = some (v, τ') ∧ WS N σ τ σ' τ' := by
  obtain ⟨m, rec, hG⟩ := h.2.1.pg
  have hm := hG.le
  have e11 := hG.cm
  obtain ⟨v, q1, q2⟩ := ws_ls hG h.2.2.2.1
  obtain ⟨τ1, r1, f2, r3, -⟩ := fg_m hm v m 0 4096 τ (by omega) (by omega) hG.mm
  obtain ⟨a1, a2, a3, a4, a5, a6, a7, a8⟩ := h
  have f1 : FR (Pk 27) σ (pFl σ 27 20 0 (-1)) := FR.fl (fun x _ => rfl)
  refine ⟨v, pFl σ 27 20 0 (-1), τ1, ?_, ?_, WS.of (f1) (f2) (fun k x z => by unfold Pk at z; omega) (fun k x z => by unfold Pk at z; omega) ⟨a1.q ((f1).eq (fun k x z => by unfold Pk at z; unfold wcT; omega)) ((f2).eq (fun k x z => by unfold Pk at z; unfold wmT; omega)), a2.q ((f1).eq (fun k x z => by unfold Pk at z; unfold wcP; omega)) ((f2).eq (fun k x z => by unfold Pk at z; unfold wmP; omega)), a3.q ((f1).eq (fun k x z => by unfold Pk at z; unfold wcL; omega)) ((f2).eq (fun k x z => by unfold Pk at z; unfold wmL; omega)), ?_, a5.q ((f1).eq (fun k x z => by unfold Pk at z; unfold wcR; omega)) ((f2).eq (fun k x z => by unfold Pk at z; unfold wmR; omega)), a6.q ((f1).eq (fun k x z => by unfold Pk at z; unfold wcK; omega)) ((f2).eq (fun k x z => by unfold Pk at z; unfold wmK; omega)), a7.q ((f1).eq (fun k x z => by unfold Pk at z; unfold wcW; omega)) ((f2).eq (fun k x z => by unfold Pk at z; unfold wmW; omega)), a8.q ((f2).get (by unfold Pk; omega))⟩⟩
  · unfold f_X_forget_0 f_State_dropSets_24
    rw [q1, Option.bind_some]
    dsimp only
    rw [fill_27, Option.bind_some, Option.bind_some]
  · unfold f_M_forget_84
    rw [q2, Option.bind_some]
    exact r1
  · obtain ⟨b1, b2, b3, b4, b5, b6, b7⟩ := a4
    refine ⟨fun r hr => ?_, fun x hx => ?_, fun j hj => ?_, fun j hj => ?_, ?_, ?_, ?_⟩
    · rw [f1.get (by unfold Pk; omega), f2.get (by unfold Pk; omega)]; exact b1 r hr
    · rw [f1.get (by unfold Pk; omega), f2.get (by unfold Pk; omega)]; exact b2 x hx
    · rw [f1.get (by unfold Pk; omega)] at hj
      rw [r3 j (by omega) (by omega)]
      exact if_pos ⟨rfl, by omega, by omega⟩
    · have e : pFl σ 27 20 0 (-1) 27 j = -1 := if_pos ⟨rfl, by omega, hj⟩
      rw [e]
      exact ⟨by decide, by decide, fun _ => rfl⟩
    · rw [f1.get (by unfold Pk; omega), f2.get (by unfold Pk; omega)]; exact b5
    · rw [f1.get (by unfold Pk; omega), f2.get (by unfold Pk; omega)]; exact b6
    · rw [f1.get (by unfold Pk; omega), f2.get (by unfold Pk; omega)]; exact b7
theorem ok_lp {m : Nat} {rec : Nat → O8} (hG : PG m rec σ τ) (a : Int) : ∀ (d i fu1 fu2 c : Nat), i + d = m → d < fu1 → d < fu2 → c ≤ i → ∃ v, f_Prog_ofKind_4_p4 fu1 a (c : Int) (i : Int) σ = some (v, σ) ∧ f_M_ofKind_84_p4 fu2 a (c : Int) (i : Int) τ = some (v, τ)
  | 0, i, fu1, fu2, c, hi, h1, h2, hc => by
    obtain ⟨n1, rfl⟩ : ∃ n, fu1 = n + 1 := ⟨fu1 - 1, by omega⟩
    obtain ⟨n2, rfl⟩ : ∃ n, fu2 = n + 1 := ⟨fu2 - 1, by omega⟩
    have e1 := hG.cm
    have e2 := hG.mm
    refine ⟨(c : Int), ?_, ?_⟩
    · show (if σ 4 11 ≤ (i : Int) then _ else _) = _
      rw [if_pos (by omega)]
    · show (if τ 84 2 ≤ (i : Int) then _ else _) = _
      rw [if_pos (by omega)]
  | d + 1, i, fu1, fu2, c, hi, h1, h2, hc => by
    obtain ⟨n1, rfl⟩ : ∃ n, fu1 = n + 1 := ⟨fu1 - 1, by omega⟩
    obtain ⟨n2, rfl⟩ : ∃ n, fu2 = n + 1 := ⟨fu2 - 1, by omega⟩
    have hm := hG.le
    have e1 := hG.cm
    have e2 := hG.mm
    have g : (0 : Int) ≤ (i : Int) ∧ (i : Int) < 20 := by omega
    have i20 : i < 20 := by omega
    have c20 : c < 20 := by omega
    have nX : ¬ σ 4 11 ≤ (i : Int) := by omega
    have nM : ¬ τ 84 2 ≤ (i : Int) := by omega
    have kd := (hG.kd (show i < m by omega)).1
    obtain ⟨v0, p1, p2⟩ := ok_lp hG a d (i + 1) n1 n2 c (by omega) (by omega) (by omega) (by omega)
    obtain ⟨v1, p3, p4⟩ := ok_lp hG a d (i + 1) n1 n2 (c + 1) (by omega) (by omega) (by omega) (by omega)
    have eX : f_Prog_ofKind_4_p4 (n1 + 1) a (c : Int) (i : Int) σ = (if σ 5 i = a then some (v1, σ) else some (v0, σ)) := by
      show (if σ 4 11 ≤ (i : Int) then _ else _) = _
      rw [if_neg nX, if_pos g, Int.toNat_natCast, pw_s i20 (by decide), pw_s c20 (by decide), p1, p3]
    have eM : f_M_ofKind_84_p4 (n2 + 1) a (c : Int) (i : Int) τ = (if σ 5 i = a then some (v1, τ) else some (v0, τ)) := by
      show (if τ 84 2 ≤ (i : Int) then _ else _) = _
      rw [if_neg nM, if_pos g, Int.toNat_natCast, pw_s i20 (by decide), pw_s c20 (by decide), p2, p4, kd]
    rw [eX, eM]
    by_cases z : σ 5 i = a
    · rw [if_pos z, if_pos z]
      exact ⟨_, rfl, rfl⟩
    · rw [if_neg z, if_neg z]
      exact ⟨_, rfl, rfl⟩
theorem bt_lp (hm : ∀ x, x < 64 → σ 26 x = τ 86 x) : ∀ (d i fu1 fu2 c : Nat), i + d = 64 → d < fu1 → d < fu2 → c ≤ i → ∃ v, f_State_bytesNotZero_24_p4 fu1 (c : Int) (i : Int) σ = some (v, σ) ∧ f_M_bytesThere_84_p4 fu2 (c : Int) (i : Int) τ = some (v, τ)
  | 0, i, fu1, fu2, c, hi, h1, h2, hc => by
    obtain ⟨n1, rfl⟩ : ∃ n, fu1 = n + 1 := ⟨fu1 - 1, by omega⟩
    obtain ⟨n2, rfl⟩ : ∃ n, fu2 = n + 1 := ⟨fu2 - 1, by omega⟩
    refine ⟨(c : Int), ?_, ?_⟩
    · show (if (64 : Int) ≤ (i : Int) then _ else _) = _
      rw [if_pos (by omega)]
    · show (if (64 : Int) ≤ (i : Int) then _ else _) = _
      rw [if_pos (by omega)]
  | d + 1, i, fu1, fu2, c, hi, h1, h2, hc => by
    obtain ⟨n1, rfl⟩ : ∃ n, fu1 = n + 1 := ⟨fu1 - 1, by omega⟩
    obtain ⟨n2, rfl⟩ : ∃ n, fu2 = n + 1 := ⟨fu2 - 1, by omega⟩
    have g : (0 : Int) ≤ (i : Int) ∧ (i : Int) < 64 := by omega
    have i64 : i < 64 := by omega
    have c64 : c < 64 := by omega
    have nX : ¬ (64 : Int) ≤ (i : Int) := by omega
    obtain ⟨v0, p1, p2⟩ := bt_lp hm d (i + 1) n1 n2 c (by omega) (by omega) (by omega) (by omega)
    obtain ⟨v1, p3, p4⟩ := bt_lp hm d (i + 1) n1 n2 (c + 1) (by omega) (by omega) (by omega) (by omega)
    have eX : f_State_bytesNotZero_24_p4 (n1 + 1) (c : Int) (i : Int) σ = (if σ 26 i = 0 then some (v0, σ) else some (v1, σ)) := by
      show (if (64 : Int) ≤ (i : Int) then _ else _) = _
      rw [if_neg nX, if_pos g, Int.toNat_natCast, pw_s i64 (by decide), pw_s c64 (by decide), p1, p3]
    have eM : f_M_bytesThere_84_p4 (n2 + 1) (c : Int) (i : Int) τ = (if σ 26 i = 0 then some (v0, τ) else some (v1, τ)) := by
      show (if (64 : Int) ≤ (i : Int) then _ else _) = _
      rw [if_neg nX, if_pos g, Int.toNat_natCast, pw_s i64 (by decide), pw_s c64 (by decide), p2, p4, ← hm i i64]
    rw [eX, eM]
    by_cases z : σ 26 i = 0
    · rw [if_pos z, if_pos z]
      exact ⟨_, rfl, rfl⟩
    · rw [if_neg z, if_neg z]
      exact ⟨_, rfl, rfl⟩
theorem w_count (a : Int) (h : WR N σ τ) : ∃ v σ' τ', f_X_count_0 a σ = some (v, σ') ∧ f_M_count_84 a τ = some (v, τ') ∧ WS N σ τ σ' τ' := by
  obtain ⟨m, rec, hG⟩ := h.2.1.pg
  have e1 := hG.cm
  have e2 := hG.mm
  have hT := h.1.1
  obtain ⟨s1, s2, s3, s4, s5, s6, s7⟩ := h.2.2.2.1
  obtain ⟨w0, w1, w2, w3, w4⟩ := h.2.2.2.2.2.2.1
  obtain ⟨mL, cL, RL, hL⟩ := h.2.2.1.lw
  have l1 := hL.2.2.1
  have l2 := hL.2.2.2.1
  obtain ⟨v8, p1, p2⟩ := ws_ls hG h.2.2.2.1
  obtain ⟨v2, p3, p4⟩ := ok_lp hG 2 m 0 4096 4096 0 (by omega) (by have := hG.le; omega) (by have := hG.le; omega) (Nat.le_refl 0)
  obtain ⟨v3, p5, p6⟩ := ok_lp hG 3 m 0 4096 4096 0 (by omega) (by have := hG.le; omega) (by have := hG.le; omega) (Nat.le_refl 0)
  obtain ⟨v11, p7, p8⟩ := bt_lp s2 64 0 4096 4096 0 (by omega) (by omega) (by omega) (Nat.le_refl 0)
  have p3 : f_Prog_ofKind_4 2 σ = some (v2, σ) := p3
  have p4 : f_M_ofKind_84 2 τ = some (v2, τ) := p4
  have p5 : f_Prog_ofKind_4 3 σ = some (v3, σ) := p5
  have p6 : f_M_ofKind_84 3 τ = some (v3, τ) := p6
  have p7 : f_State_bytesNotZero_24 σ = some (v11, σ) := p7
  have p8 : f_M_bytesThere_84 τ = some (v11, τ) := p8
  have e5 : σ 1 1 = τ 84 18 := hT
  unfold f_X_count_0 f_M_count_84
  rw [p1, p2, p3, p4, p5, p6, p7, p8]
  simp only [Option.bind_some]
  by_cases z0 : a = 0
  · rw [if_pos z0, if_pos z0, ← s7.1]
    exact ⟨_, _, _, rfl, rfl, h.sm⟩
  rw [if_neg z0, if_neg z0]
  by_cases z1 : a = 1
  · rw [if_pos z1, if_pos z1, e1, e2]
    exact ⟨_, _, _, rfl, rfl, h.sm⟩
  rw [if_neg z1, if_neg z1]
  by_cases z2 : a = 2
  · rw [if_pos z2, if_pos z2]
    exact ⟨_, _, _, rfl, rfl, h.sm⟩
  rw [if_neg z2, if_neg z2]
  by_cases z3 : a = 3
  · rw [if_pos z3, if_pos z3]
    exact ⟨_, _, _, rfl, rfl, h.sm⟩
  rw [if_neg z3, if_neg z3]
  by_cases z4 : a = 4
  · rw [if_pos z4, if_pos z4, l1, l2]
    exact ⟨_, _, _, rfl, rfl, h.sm⟩
  rw [if_neg z4, if_neg z4]
  by_cases z5 : a = 5
  · rw [if_pos z5, if_pos z5, e5]
    exact ⟨_, _, _, rfl, rfl, h.sm⟩
  rw [if_neg z5, if_neg z5]
  by_cases z6 : a = 6
  · rw [if_pos z6, if_pos z6, ← s6.1]
    exact ⟨_, _, _, rfl, rfl, h.sm⟩
  rw [if_neg z6, if_neg z6]
  by_cases z7 : a = 7
  · rw [if_pos z7, if_pos z7, ← w4.1]
    exact ⟨_, _, _, rfl, rfl, h.sm⟩
  rw [if_neg z7, if_neg z7]
  by_cases z8 : a = 8
  · rw [if_pos z8, if_pos z8]
    exact ⟨_, _, _, rfl, rfl, h.sm⟩
  rw [if_neg z8, if_neg z8]
  by_cases z9 : a = 9
  · rw [if_pos z9, if_pos z9, ← s5.1]
    exact ⟨_, _, _, rfl, rfl, h.sm⟩
  rw [if_neg z9, if_neg z9]
  by_cases z10 : a = 10
  · rw [if_pos z10, if_pos z10, ← w0.1, ← w1.1]
    exact ⟨_, _, _, rfl, rfl, h.sm⟩
  rw [if_neg z10, if_neg z10]
  by_cases z11 : a = 11
  · rw [if_pos z11, if_pos z11]
    exact ⟨_, _, _, rfl, rfl, h.sm⟩
  rw [if_neg z11, if_neg z11]
  exact ⟨_, _, _, rfl, rfl, h.sm⟩
end H5
