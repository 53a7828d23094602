section H3
variable {N : Nat} {σ τ σ' τ' : pS}
theorem x_isOp {m : Nat} (e : σ 4 11 = (m : Int)) (a : Int) : f_X_isOp_0 a σ = some (if 0 ≤ a ∧ a < (m : Int) then 1 else 0, σ) := by
  unfold f_X_isOp_0
  rw [e]
  by_cases q : a < 0
  · rw [if_pos q, if_neg (by omega)]
  · rw [if_neg q]
    by_cases q2 : (m : Int) ≤ a
    · rw [if_pos q2, if_neg (by omega)]
    · rw [if_neg q2, if_pos (by omega)]
theorem m_isOp {m : Nat} (hm : m ≤ 20) (e : τ 84 2 = (m : Int)) (a : Int) : f_M_isOp_84 a τ = some (if 0 ≤ a ∧ a < (m : Int) then 1 else 0, τ) := by
  unfold f_M_isOp_84
  rw [e, pw_id (by omega) (by omega), m_in, Option.bind_some]
  by_cases q : 0 ≤ a ∧ a ≤ (m : Int) - 1
  · rw [if_pos q, if_pos (show 0 ≤ a ∧ a < (m : Int) by omega)]
    rfl
  · rw [if_neg q, if_neg (show ¬ (0 ≤ a ∧ a < (m : Int)) by omega)]
    rfl
theorem x_isTot (a : Int) : f_X_isTotal a σ = some (if 0 ≤ a ∧ a ≤ 5 then 1 else 0, σ) := by
  unfold f_X_isTotal
  by_cases q : a < 0
  · rw [if_pos q, if_neg (by omega)]
  · rw [if_neg q]
    by_cases q2 : 6 ≤ a
    · rw [if_pos q2, if_neg (by omega)]
    · rw [if_neg q2, if_pos (by omega)]
theorem x_isByte (a : Int) : f_X_isByte a σ = some (if 100 ≤ a ∧ a ≤ 163 then 1 else 0, σ) := by
  unfold f_X_isByte
  by_cases q : a < 100
  · rw [if_pos q, if_neg (by omega)]
  · rw [if_neg q]
    by_cases q2 : 164 ≤ a
    · rw [if_pos q2, if_neg (by omega)]
    · rw [if_neg q2, if_pos (by omega)]
theorem x_orA (s : Int) : f_X_orAbsent s σ = some (if s = -1 then -2 else s, σ) := by
  unfold f_X_orAbsent
  split <;> rfl
theorem w_lastRun (a : Int) (h : WR N σ τ) : ∃ v σ' τ', f_X_lastRun_0 a σ = some (v, σ') ∧ f_M_lastRun_84 a τ = some (v, τ') ∧ WS N σ τ σ' τ' := by
  obtain ⟨b1, b2⟩ := h.2.2.2.2.1
  unfold f_X_lastRun_0 f_M_lastRun_84
  simp only [m_in, x_isTot, Option.bind_some]
  by_cases g : 0 ≤ a ∧ a ≤ 5
  · have g6 : 0 ≤ a ∧ a < 6 := by omega
    rw [if_pos g, if_neg (show ¬ (1 : Int) = 0 by decide), if_neg (show ¬ (1 : Int) = 0 by decide), ← b1]
    by_cases z : σ 0 8 = 0
    · rw [if_pos z, if_pos z]
      exact ⟨_, _, _, rfl, rfl, h.sm⟩
    · rw [if_neg z, if_neg z, if_pos g6, if_pos g6, ← (b2 z).2.1 a.toNat (by omega)]
      exact ⟨_, _, _, rfl, rfl, h.sm⟩
  · rw [if_neg g, if_pos rfl, if_pos rfl]
    exact ⟨_, _, _, rfl, rfl, h.sm⟩
theorem w_now (a : Int) (h : WR N σ τ) : ∃ v σ' τ', f_X_now_0 a σ = some (v, σ') ∧ f_M_now_84 a τ = some (v, τ') ∧ WS N σ τ σ' τ' := by
  have s1 := h.2.2.2.1.1
  have s2 := h.2.2.2.1.2.1
  unfold f_X_now_0 f_M_now_84
  simp only [m_in, x_isCell, x_isByte, Option.bind_some]
  by_cases g : 0 ≤ a ∧ a < 8
  · rw [if_pos g, if_neg (show ¬ (1 : Int) = 0 by decide), if_pos g, if_pos (show 0 ≤ a ∧ a ≤ 7 by omega), if_neg (show ¬ (1 : Int) = 0 by decide), if_pos g, ← s1 a.toNat (by omega)]
    exact ⟨_, _, _, rfl, rfl, h.sm⟩
  · rw [if_neg g, if_pos rfl, if_neg (show ¬ (0 ≤ a ∧ a ≤ 7) by omega), if_pos rfl]
    by_cases gb : 100 ≤ a ∧ a ≤ 163
    · have e : pw (a - 100) = a - 100 := pw_id (by omega) (by omega)
      have g2 : 0 ≤ a - 100 ∧ a - 100 < 64 := by omega
      rw [if_pos gb, if_neg (show ¬ (1 : Int) = 0 by decide), if_neg (show ¬ (1 : Int) = 0 by decide), e, if_pos g2, if_pos g2, ← s2 (a - 100).toNat (by omega)]
      exact ⟨_, _, _, rfl, rfl, h.sm⟩
    · rw [if_neg gb, if_pos rfl, if_pos rfl]
      exact ⟨_, _, _, rfl, rfl, h.sm⟩
/-- what is told of an op, 0 to 5 -/
theorem op_told {m : Nat} {rec : Nat → O8} (hG : PG m rec σ τ) (hS : SRx σ τ) (hL : LSR σ τ) {j : Nat} (hj : j < m) {b : Int} (hb : 0 ≤ b ∧ b ≤ 5) : ∃ v, f_X_opIs_0_p26 (j : Int) b σ = some (v, σ) ∧ f_M_toldOfOp_84 (j : Int) b τ = some (v, τ) := by
  have hm := hG.le
  have e11 := hG.cm
  have g : (0 : Int) ≤ (j : Int) ∧ (j : Int) < 20 := by omega
  have kd := hG.kd hj
  have hj' : (j : Int) < σ 4 11 := by omega
  have b10 : b < 10 := by omega
  have s3 := hS.2.2.1 j hj'
  obtain ⟨l1, l2⟩ := hL
  unfold f_X_opIs_0_p26 f_M_toldOfOp_84
  rw [if_pos b10]
  simp only [if_pos g, Int.toNat_natCast, x_orA, Option.bind_some]
  by_cases q0 : b = 0
  · rw [if_pos q0, if_pos q0, kd.1]
    exact ⟨_, rfl, rfl⟩
  rw [if_neg q0, if_neg q0]
  by_cases q1 : b = 1
  · rw [if_pos q1, if_pos q1, ← s3]
    by_cases z : σ 27 j = -1
    · rw [if_pos z, if_pos z]
      exact ⟨_, rfl, rfl⟩
    · rw [if_neg z, if_neg z]
      exact ⟨_, rfl, rfl⟩
  rw [if_neg q1, if_neg q1, ← l1]
  by_cases z : σ 0 8 = 0
  · rw [if_pos z, if_pos z]
    exact ⟨_, rfl, rfl⟩
  rw [if_neg z, if_neg z]
  obtain ⟨c1, c2, c3, c4, c5⟩ := (l2 z).2.2 j hj'
  by_cases q2 : b = 2
  · rw [if_pos q2, if_pos q2, c1]
    exact ⟨_, rfl, rfl⟩
  rw [if_neg q2, if_neg q2]
  by_cases q3 : b = 3
  · rw [if_pos q3, if_pos q3, c2]
    exact ⟨_, rfl, rfl⟩
  rw [if_neg q3, if_neg q3]
  by_cases q4 : b = 4
  · rw [if_pos q4, if_pos q4, c3]
    exact ⟨_, rfl, rfl⟩
  rw [if_neg q4, if_neg q4, kd.1]
  unfold f_Prog_moves_4
  simp only [if_pos g, Int.toNat_natCast]
  by_cases k2 : σ 5 j = 2
  · rw [if_pos k2, Option.bind_some, if_pos (show 2 ≤ σ 5 j by omega), ← c4 (by omega)]
    exact ⟨_, rfl, rfl⟩
  · rw [if_neg k2]
    by_cases k3 : σ 5 j = 3
    · rw [if_pos k3, Option.bind_some, if_pos (show 2 ≤ σ 5 j by omega), ← c4 (by omega)]
      exact ⟨_, rfl, rfl⟩
    · rw [if_neg k3, Option.bind_some, if_neg (show ¬ 2 ≤ σ 5 j by omega)]
      exact ⟨_, rfl, rfl⟩
/-- from which op a byte came -/
theorem op_giv {m : Nat} {rec : Nat → O8} (hG : PG m rec σ τ) (hL : LSR σ τ) {j : Nat} (hj : j < m) {b : Int} (hb : 10 ≤ b) (hb2 : b ≤ 2147483647) : ∃ v, f_X_opIs_0_p26 (j : Int) b σ = some (v, σ) ∧ f_M_opIs_84_p27 (j : Int) b τ = some (v, τ) := by
  have hm := hG.le
  have e11 := hG.cm
  have g : (0 : Int) ≤ (j : Int) ∧ (j : Int) < 20 := by omega
  have kd := hG.kd hj
  have hj' : (j : Int) < σ 4 11 := by omega
  have e10 : pw (b - 10) = b - 10 := pw_id (by omega) (by omega)
  have hb0 : 0 ≤ b - 10 := by omega
  obtain ⟨l1, l2⟩ := hL
  unfold f_X_opIs_0_p26 f_M_opIs_84_p27
  rw [if_neg (show ¬ b < 10 by omega), if_pos hb, e10]
  generalize b - 10 = q at hb0
  unfold f_X_giverOf_0
  simp only [if_pos g, Int.toNat_natCast, x_orA, Option.bind_some, kd.1]
  by_cases k2 : σ 5 j = 2
  · rw [if_pos k2, if_pos k2]
    have sz := hG.sz hj (by omega)
    simp only [sz.1]
    by_cases z : q < σ 7 j
    · rw [if_pos z, if_pos z, ← l1]
      by_cases y : σ 0 8 = 0
      · rw [if_pos y, if_pos y]
        exact ⟨_, rfl, rfl⟩
      · obtain ⟨n, rfl⟩ : ∃ n : Nat, q = (n : Int) := ⟨q.toNat, by omega⟩
        have hn : n < 4 := by omega
        obtain ⟨i1, i2, i3⟩ := ix4 (by omega : j < 20) hn
        have c5 := ((l2 y).2.2 j hj').2.2.2.2 k2 n z
        rw [if_neg y, if_neg y, i1, i2, if_pos i3, if_pos i3, Int.toNat_natCast, ← c5]
        by_cases x : σ 77 (4 * j + n) = -1
        · rw [if_pos x, if_pos x]
          exact ⟨_, rfl, rfl⟩
        · rw [if_neg x, if_neg x, if_pos i3]
          exact ⟨_, rfl, rfl⟩
    · rw [if_neg z, if_neg z]
      exact ⟨_, rfl, rfl⟩
  · rw [if_neg k2, if_neg k2]
    exact ⟨_, rfl, rfl⟩
theorem op_ls (a b : Int) (hb2 : b ≤ 2147483647) (h : WR N σ τ) : ∃ v, f_X_opIs_0 a b σ = some (v, σ) ∧ f_M_opIs_84 a b τ = some (v, τ) := by
  obtain ⟨a1, a2, a3, a4, a5, a6, a7, a8⟩ := h
  obtain ⟨m, rec, hG⟩ := a2.pg
  have hm := hG.le
  unfold f_X_opIs_0 f_M_opIs_84
  rw [x_isOp hG.cm, m_isOp hm hG.mm, Option.bind_some, Option.bind_some]
  dsimp only
  by_cases g : 0 ≤ a ∧ a < (m : Int)
  · obtain ⟨j, rfl⟩ : ∃ j : Nat, a = (j : Int) := ⟨a.toNat, by omega⟩
    have hj : j < m := by omega
    rw [if_pos g, if_neg (show ¬ (1 : Int) = 0 by decide), if_neg (show ¬ (1 : Int) = 0 by decide), m_in, Option.bind_some]
    dsimp only
    by_cases z0 : b < 0
    · rw [if_pos z0, if_neg (show ¬ (0 ≤ b ∧ b ≤ 5) by omega), if_pos rfl, if_neg (show ¬ 10 ≤ b by omega)]
      exact ⟨_, rfl, rfl⟩
    rw [if_neg z0]
    by_cases z5 : b ≤ 5
    · rw [if_pos z5, if_pos (show 0 ≤ b ∧ b ≤ 5 by omega), if_neg (show ¬ (1 : Int) = 0 by decide)]
      obtain ⟨v, q1, q2⟩ := op_told hG a4 a5 hj (b := b) (by omega)
      refine ⟨v, q1, ?_⟩
      unfold f_M_opIs_84_p27
      rw [if_neg (show ¬ 10 ≤ b by omega), q2, Option.bind_some]
    rw [if_neg z5, if_neg (show ¬ (0 ≤ b ∧ b ≤ 5) by omega), if_pos rfl]
    by_cases z10 : 10 ≤ b
    · rw [if_pos z10, if_pos z10]
      exact op_giv hG a5 hj z10 hb2
    · rw [if_neg z10, if_neg z10]
      exact ⟨_, rfl, rfl⟩
  · rw [if_neg g, if_pos rfl, if_pos rfl]
    exact ⟨_, rfl, rfl⟩
theorem w_opIs (a b : Int) (hb2 : b ≤ 2147483647) (h : WR N σ τ) : ∃ v σ' τ', f_X_opIs_0 a b σ = some (v, σ') ∧ f_M_opIs_84 a b τ = some (v, τ') ∧ WS N σ τ σ' τ' := by
  obtain ⟨v, q1, q2⟩ := op_ls a b hb2 h
  exact ⟨v, σ, τ, q1, q2, h.sm⟩
/-- the op that was replayed most -/
theorem wo_lp {m : Nat} {rec : Nat → O8} (hG : PG m rec σ τ) (h74 : ∀ j, j < m → σ 74 j = τ 136 j) (a : Int) : ∀ (d i fu1 fu2 b : Nat), i + d = m → d < fu1 → d < fu2 → b < m → 1 ≤ i → ∃ b' : Nat, b' < m ∧ f_X_worst_0_p25 fu1 a (b : Int) (i : Int) σ = some (if a = 0 then (b' : Int) else σ 74 b', σ) ∧ f_M_worstOp_84_p4 fu2 (b : Int) (i : Int) τ = some ((b' : Int), τ)
  | 0, i, fu1, fu2, b, hi, h1, h2, hb, _ => by
    obtain ⟨n1, rfl⟩ : ∃ n, fu1 = n + 1 := ⟨fu1 - 1, by omega⟩
    obtain ⟨n2, rfl⟩ : ∃ n, fu2 = n + 1 := ⟨fu2 - 1, by omega⟩
    have hm := hG.le
    have e1 := hG.cm
    have e2 := hG.mm
    refine ⟨b, hb, ?_, ?_⟩
    · show (if σ 4 11 ≤ (i : Int) then _ else _) = _
      rw [if_pos (by omega)]
      by_cases z : a = 0
      · rw [if_pos z, if_pos z]
      · rw [if_neg z, if_neg z, if_pos (by omega), Int.toNat_natCast]
    · show (if τ 84 2 ≤ (i : Int) then _ else _) = _
      rw [if_pos (by omega)]
  | d + 1, i, fu1, fu2, b, hi, h1, h2, hb, h0 => by
    obtain ⟨n1, rfl⟩ : ∃ n, fu1 = n + 1 := ⟨fu1 - 1, by omega⟩
    obtain ⟨n2, rfl⟩ : ∃ n, fu2 = n + 1 := ⟨fu2 - 1, by omega⟩
    have hm := hG.le
    have e1 := hG.cm
    have e2 := hG.mm
    have g : (0 : Int) ≤ (i : Int) ∧ (i : Int) < 20 := by omega
    have gb : (0 : Int) ≤ (b : Int) ∧ (b : Int) < 20 := by omega
    have hi' : i < m := by omega
    have k1 : (i + 1) + d = m := by omega
    have k2 : d < n1 := by omega
    have k3 : d < n2 := by omega
    have i20 : i < 20 := by omega
    have nX : ¬ σ 4 11 ≤ (i : Int) := by omega
    have nM : ¬ τ 84 2 ≤ (i : Int) := by omega
    have j1 : 1 ≤ i + 1 := by omega
    have eX : f_X_worst_0_p25 (n1 + 1) a (b : Int) (i : Int) σ = (if σ 74 i ≤ σ 74 b then f_X_worst_0_p25 n1 a (b : Int) ((i + 1 : Nat) : Int) σ else f_X_worst_0_p25 n1 a (i : Int) ((i + 1 : Nat) : Int) σ) := by
      show (if σ 4 11 ≤ (i : Int) then _ else _) = _
      rw [if_neg nX, if_pos g, if_pos gb, Int.toNat_natCast, Int.toNat_natCast, pw_s i20 (by decide)]
    have eM : f_M_worstOp_84_p4 (n2 + 1) (b : Int) (i : Int) τ = (if σ 74 i ≤ σ 74 b then f_M_worstOp_84_p4 n2 (b : Int) ((i + 1 : Nat) : Int) τ else f_M_worstOp_84_p4 n2 (i : Int) ((i + 1 : Nat) : Int) τ) := by
      show (if τ 84 2 ≤ (i : Int) then _ else _) = _
      rw [if_neg nM, if_pos g, if_pos gb, Int.toNat_natCast, Int.toNat_natCast, pw_s i20 (by decide), ← h74 i hi', ← h74 b hb]
    rw [eX, eM]
    by_cases z : σ 74 i ≤ σ 74 b
    · rw [if_pos z, if_pos z]
      exact wo_lp hG h74 a d (i + 1) n1 n2 b k1 k2 k3 hb j1
    · rw [if_neg z, if_neg z]
      exact wo_lp hG h74 a d (i + 1) n1 n2 i k1 k2 k3 hi' j1
theorem w_worst (a : Int) (h : WR N σ τ) : ∃ v σ' τ', f_X_worst_0 a σ = some (v, σ') ∧ f_M_worst_84 a τ = some (v, τ') ∧ WS N σ τ σ' τ' := by
  obtain ⟨b1, b2⟩ := h.2.2.2.2.1
  obtain ⟨m, rec, hG⟩ := h.2.1.pg
  have hm := hG.le
  have e11 := hG.cm
  unfold f_X_worst_0 f_M_worst_84
  rw [m_in, Option.bind_some]
  dsimp only
  by_cases g : 0 ≤ a ∧ a ≤ 1
  · rw [if_neg (show ¬ a < 0 by omega), if_pos g.2, if_pos g, if_neg (show ¬ (1 : Int) = 0 by decide)]
    simp only [← b1]
    by_cases z : σ 0 8 = 0
    · rw [if_pos z, if_pos z]
      exact ⟨_, _, _, rfl, rfl, h.sm⟩
    · rw [if_neg z, if_neg z]
      obtain ⟨c0, -, c2⟩ := b2 z
      have h74 : ∀ j, j < m → σ 74 j = τ 136 j := fun j hj => (c2 j (by omega)).2.1
      obtain ⟨b', q0, q1, q2⟩ := wo_lp hG h74 a (m - 1) 1 4096 4096 0 (by omega) (by omega) (by omega) (by omega) (Nat.le_refl 1)
      have q1 : f_X_worst_0_p25 4096 a 0 1 σ = some (if a = 0 then (b' : Int) else σ 74 b', σ) := q1
      have q2 : f_M_worstOp_84 τ = some ((b' : Int), τ) := q2
      rw [q1, q2, Option.bind_some]
      by_cases y : a = 0
      · rw [if_pos y, if_pos y]
        exact ⟨_, _, _, rfl, rfl, h.sm⟩
      · rw [if_neg y, if_neg y, Option.bind_some]
        dsimp only
        rw [if_pos (by omega), Int.toNat_natCast, ← h74 b' q0]
        exact ⟨_, _, _, rfl, rfl, h.sm⟩
  · rw [if_neg g, if_pos rfl]
    by_cases z : a < 0
    · rw [if_pos z]
      exact ⟨_, _, _, rfl, rfl, h.sm⟩
    · rw [if_neg z, if_neg (by omega)]
      exact ⟨_, _, _, rfl, rfl, h.sm⟩
end H3
