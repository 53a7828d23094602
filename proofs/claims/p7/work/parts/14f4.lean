section H4
variable {N : Nat} {σ τ σ' τ' : pS}
theorem t0 : (0 : Int).toNat = 0 := rfl
theorem t1 : (1 : Int).toNat = 1 := rfl
theorem pz0 {b : Int} (h0 : 0 ≤ b) (h1 : b ≤ 8) : pw (pw (8 * 0) + b) = b := by
  rw [show pw (8 * 0) = 0 by decide, pw_id (by omega) (by omega)]
  omega
theorem pz1 {b : Int} (h0 : 0 ≤ b) (h1 : b ≤ 8) : pw (pw (8 * 1) + b) = 8 + b := by
  rw [show pw (8 * 1) = 8 by decide, pw_id (by omega) (by omega)]
theorem wd_core {m : Nat} {rec : Nat → O8} (hG : PG m rec σ τ) (hS : SRx σ τ) (hL : LSR σ τ) {op c : Int} (h0 : 0 ≤ op) (h1 : op < (m : Int)) (hc : 0 ≤ c ∧ c ≤ 6) : ∃ v, (if c = 6 then some (op, σ) else (f_X_opIs_0 op c σ).bind fun q => some (q.1, q.2)) = some (v, σ) ∧ (if c = 6 then some (op, τ) else (f_M_toldOfOp_84 op c τ).bind fun q => some (q.1, q.2)) = some (v, τ) := by
  by_cases z : c = 6
  · rw [if_pos z, if_pos z]
    exact ⟨_, rfl, rfl⟩
  · obtain ⟨j, rfl⟩ : ∃ j : Nat, op = (j : Int) := ⟨op.toNat, by omega⟩
    obtain ⟨v, q1, q2⟩ := op_told hG hS hL (j := j) (by omega) (b := c) (by omega)
    refine ⟨v, ?_, ?_⟩
    · unfold f_X_opIs_0
      rw [if_neg z, x_isOp hG.cm, if_pos ⟨h0, h1⟩, Option.bind_some]
      dsimp only
      rw [if_neg (show ¬ (1 : Int) = 0 by decide), if_neg (show ¬ c < 0 by omega), if_pos (show c ≤ 5 by omega), q1, Option.bind_some]
    · rw [if_neg z, q2, Option.bind_some]
theorem w_watched (a b c : Int) (h : WR N σ τ) : ∃ v σ' τ', f_X_watched_0 a b c σ = some (v, σ') ∧ f_M_watched_84 a b c τ = some (v, τ') ∧ WS N σ τ σ' τ' := by
  obtain ⟨m, rec, hG⟩ := h.2.1.pg
  have hm := hG.le
  have e11 := hG.cm
  obtain ⟨w0, w1, w2, w3, w4⟩ := h.2.2.2.2.2.2.1
  unfold f_X_watched_0 f_M_watched_84
  rw [m_in, Option.bind_some]
  dsimp only
  by_cases ga : 0 ≤ a ∧ a ≤ 1
  · have ga2 : 0 ≤ a ∧ a < 2 := by omega
    rw [if_neg (show ¬ a < 0 by omega), if_neg (show ¬ 2 ≤ a by omega), if_pos ga, if_neg (show ¬ (1 : Int) = 0 by decide)]
    by_cases zb : b < 0
    · rw [if_pos zb, if_pos zb]
      exact ⟨_, _, _, rfl, rfl, h.sm⟩
    rw [if_neg zb, if_neg zb, m_in, Option.bind_some]
    dsimp only
    by_cases gc : 0 ≤ c ∧ c ≤ 6
    · rw [if_neg (show ¬ c < 0 by omega), if_pos gc.2, if_pos ga2, if_pos gc, if_neg (show ¬ (1 : Int) = 0 by decide), if_pos ga2]
      rcases (show a = 0 ∨ a = 1 by omega) with rfl | rfl
      · simp only [t0]
        by_cases z : σ 83 0 ≤ b
        · rw [if_pos z, if_neg (show ¬ b < τ 145 0 by omega)]
          exact ⟨_, _, _, rfl, rfl, h.sm⟩
        · have wb := w2 b.toNat (by omega)
          rw [if_neg z, if_pos (show b < 8 by omega), if_pos ga2, if_pos trivial, if_pos (show 0 ≤ b ∧ b < 8 by omega), if_pos (show b < τ 145 0 by omega), pz0 (by omega) (by omega), if_pos (show 0 ≤ b ∧ b < 16 by omega), ← wb.1]
          obtain ⟨v, q1, q2⟩ := wd_core hG h.2.2.2.1 h.2.2.2.2.1 (op := σ 150 b.toNat) (by omega) (by omega) gc
          exact ⟨v, σ, τ, q1, q2, h.sm⟩
      · simp only [t1]
        by_cases z : σ 83 1 ≤ b
        · rw [if_pos z, if_neg (show ¬ b < τ 145 1 by omega)]
          exact ⟨_, _, _, rfl, rfl, h.sm⟩
        · have wb := w3 b.toNat (by omega)
          rw [if_neg z, if_pos (show b < 8 by omega), if_pos ga2, if_neg (show ¬ (1 : Int) = 0 by decide), if_pos (show 0 ≤ b ∧ b < 8 by omega), if_pos (show b < τ 145 1 by omega), pz1 (by omega) (by omega), if_pos (show 0 ≤ 8 + b ∧ 8 + b < 16 by omega), show (8 + b).toNat = 8 + b.toNat by omega, ← wb.1]
          obtain ⟨v, q1, q2⟩ := wd_core hG h.2.2.2.1 h.2.2.2.2.1 (op := σ 151 b.toNat) (by omega) (by omega) gc
          exact ⟨v, σ, τ, q1, q2, h.sm⟩
    · rw [if_neg gc, if_pos rfl]
      by_cases z : c < 0
      · rw [if_pos z]
        exact ⟨_, _, _, rfl, rfl, h.sm⟩
      · rw [if_neg z, if_neg (by omega)]
        exact ⟨_, _, _, rfl, rfl, h.sm⟩
  · rw [if_neg ga, if_pos rfl]
    by_cases z : a < 0
    · rw [if_pos z]
      exact ⟨_, _, _, rfl, rfl, h.sm⟩
    · rw [if_neg z, if_pos (by omega)]
      exact ⟨_, _, _, rfl, rfl, h.sm⟩
def wk1 (k x : Nat) : Prop := k = 82 ∨ k = 83 ∨ k = 150 ∨ k = 151
def wk2 (k x : Nat) : Prop := (k = 84 ∧ x = 4) ∨ k = 144 ∨ k = 145
theorem WR.rows (h : WR N σ τ) (f1 : FR wk1 σ σ') (f2 : FR wk2 τ τ') (g : RWR σ' τ') : WS N σ τ σ' τ' := by
  obtain ⟨a1, a2, a3, a4, a5, a6, a7, a8⟩ := h
  exact WS.of (f1) (f2) (fun k x z => by unfold wk1 at z; omega) (fun k x z => by unfold wk2 at z; omega) ⟨a1.q ((f1).eq (fun k x z => by unfold wk1 at z; unfold wcT; omega)) ((f2).eq (fun k x z => by unfold wk2 at z; unfold wmT; omega)), a2.q ((f1).eq (fun k x z => by unfold wk1 at z; unfold wcP; omega)) ((f2).eq (fun k x z => by unfold wk2 at z; unfold wmP; omega)), a3.q ((f1).eq (fun k x z => by unfold wk1 at z; unfold wcL; omega)) ((f2).eq (fun k x z => by unfold wk2 at z; unfold wmL; omega)), a4.q ((f1).eq (fun k x z => by unfold wk1 at z; unfold wcS; omega)) ((f2).eq (fun k x z => by unfold wk2 at z; unfold wmS; omega)), a5.q ((f1).eq (fun k x z => by unfold wk1 at z; unfold wcR; omega)) ((f2).eq (fun k x z => by unfold wk2 at z; unfold wmR; omega)), a6.q ((f1).eq (fun k x z => by unfold wk1 at z; unfold wcK; omega)) ((f2).eq (fun k x z => by unfold wk2 at z; unfold wmK; omega)), g, a8.q ((f2).get (by unfold wk2; omega))⟩
/-- misplaced -/
theorem wm_ls (h : WR N σ τ) : ∃ σ' τ', pU σ 82 2 (pMin 9999 (pw (σ 82 2 + 1))) = σ' ∧ (f_M_min 9999 (pw (τ 84 4 + 1)) τ).bind (fun q11 => some ((-7 : Int), pU q11.2 84 4 q11.1)) = some (-7, τ') ∧ WS N σ τ σ' τ' := by
  obtain ⟨w0, w1, w2, w3, w4⟩ := h.2.2.2.2.2.2.1
  obtain ⟨w5, w6, w7⟩ := w4
  obtain ⟨y, hy1, hy2, hy3⟩ : ∃ y : Int, pMin 9999 (pw (σ 82 2 + 1)) = y ∧ f_M_min 9999 (pw (τ 84 4 + 1)) τ = some (y, τ) ∧ 0 ≤ y ∧ y ≤ 9999 := by
    rw [← w5, pw_id (by omega) (by omega)]
    unfold f_M_min pMin
    by_cases z : σ 82 2 + 1 ≤ 9999
    · rw [if_pos z]
      refine ⟨σ 82 2 + 1, ?_, rfl, by omega, z⟩
      by_cases z2 : σ 82 2 + 1 < 9999
      · rw [if_pos z2]
      · rw [if_neg z2]; omega
    · rw [if_neg z, if_neg (by omega)]
      exact ⟨9999, rfl, rfl, by omega, by omega⟩
  have f1 : FR wk1 σ (pU σ 82 2 y) := FR.u (Or.inl rfl)
  have f2 : FR wk2 τ (pU τ 84 4 y) := FR.u (Or.inl ⟨rfl, rfl⟩)
  refine ⟨pU σ 82 2 y, pU τ 84 4 y, by rw [hy1], by rw [hy2]; rfl, h.rows f1 f2 ⟨?_, ?_, fun i hi => ?_, fun i hi => ?_, ?_⟩⟩
  · rw [pU_c _ _ _ _ (by decide), pU_c _ _ _ _ (by decide)]; exact w0
  · rw [pU_c _ _ _ _ (by decide), pU_c _ _ _ _ (by decide)]; exact w1
  · rw [pU_c _ _ _ _ (by decide)] at hi
    rw [pU_c _ _ _ _ (show 150 ≠ 82 by decide), pU_c _ _ _ _ (show 144 ≠ 84 by decide), pU_c _ _ _ _ (show 4 ≠ 82 by decide)]; exact w2 i hi
  · rw [pU_c _ _ _ _ (by decide)] at hi
    rw [pU_c _ _ _ _ (show 151 ≠ 82 by decide), pU_c _ _ _ _ (show 144 ≠ 84 by decide), pU_c _ _ _ _ (show 4 ≠ 82 by decide)]; exact w3 i hi
  · rw [pU_s, pU_s]; exact ⟨rfl, hy3⟩
theorem w_watch (a b : Int) (h : WR N σ τ) : ∃ v w σ' τ', f_X_watch_0 a b σ = some (v, σ') ∧ f_M_watch_84 a b τ = some (w, τ') ∧ WS N σ τ σ' τ' := by
  obtain ⟨m, rec, hG⟩ := h.2.1.pg
  have hm := hG.le
  have e11 := hG.cm
  have hR := h.2.2.2.2.2.2.1
  obtain ⟨w0, w1, w2, w3, w4⟩ := hR
  unfold f_X_watch_0 f_M_watch_84
  rw [m_in, Option.bind_some]
  dsimp only
  by_cases ga : 0 ≤ a ∧ a ≤ 1
  · have ga2 : 0 ≤ a ∧ a < 2 := by omega
    rw [if_neg (show ¬ a < 0 by omega), if_pos ga2.2, if_pos ga2, if_pos ga, if_neg (show ¬ (1 : Int) = 0 by decide), m_isOp hm hG.mm, Option.bind_some, x_isOp hG.cm, Option.bind_some]
    dsimp only
    by_cases go : 0 ≤ b ∧ b < (m : Int)
    · obtain ⟨j, rfl⟩ : ∃ j : Nat, b = (j : Int) := ⟨b.toNat, by omega⟩
      have g20 : (0 : Int) ≤ (j : Int) ∧ (j : Int) < 20 := by omega
      have hj : j < m := by omega
      have kd := hG.kd hj
      rw [if_pos go, if_neg (show ¬ (1 : Int) = 0 by decide), if_pos g20, if_neg (show ¬ (1 : Int) = 0 by decide), if_pos ga2, if_pos g20]
      obtain ⟨σm, τm, q1, q2, q3⟩ := wm_ls h
      unfold f_X_watch_0_p59
      rw [q1, q2, Int.toNat_natCast]
      simp only [kd.1]
      rcases (show a = 0 ∨ a = 1 by omega) with rfl | rfl
      · simp only [t0]
        rw [if_pos trivial]
        by_cases z : σ 83 0 < 8
        · have n8 : ¬ τ 145 0 = 8 := by omega
          rw [if_pos z, if_neg n8]
          by_cases k : σ 5 j = 2
          · have ep : pw (σ 83 0 + 1) = σ 83 0 + 1 := pw_id (by omega) (by omega)
            have k' : σ 5 j = pw (2 + 0) := k.trans (by decide)
            have p0 := pz0 (b := τ 145 0) (by omega) (by omega)
            rw [if_pos k, if_pos k', p0, if_pos (show 0 ≤ τ 145 0 ∧ τ 145 0 < 16 by omega), if_pos ga2, ← w0.1, ep]
            unfold f_Rows_put_82
            simp only [t0, if_pos ga2, if_neg (show ¬ 8 ≤ σ 83 0 by omega), if_true, if_pos (show 0 ≤ σ 83 0 ∧ σ 83 0 < 8 by omega), ep, Option.bind_some]
            have f1 : FR wk1 σ (pU (pU σ 150 (σ 83 0).toNat (j : Int)) 83 0 (σ 83 0 + 1)) := (FR.u (by unfold wk1; omega)).tr (FR.u (by unfold wk1; omega))
            have f2 : FR wk2 τ (pU (pU τ 144 (σ 83 0).toNat (j : Int)) 145 0 (σ 83 0 + 1)) := (FR.u (by unfold wk2; omega)).tr (FR.u (by unfold wk2; omega))
            refine ⟨_, _, _, _, rfl, rfl, h.rows f1 f2 ⟨?_, ?_, fun i hi => ?_, fun i hi => ?_, ?_⟩⟩
            · rw [pU_s, pU_s]; exact ⟨rfl, by omega, by omega⟩
            · rw [pU_i _ _ _ _ (by decide), pU_c _ _ _ _ (by decide), pU_i _ _ _ _ (by decide), pU_c _ _ _ _ (by decide)]; exact w1
            · rw [pU_s] at hi
              rw [pU_c _ _ _ _ (show 150 ≠ 83 by decide), pU_c _ _ _ _ (show 144 ≠ 145 by decide), f1.get (k := 4) (by unfold wk1; omega)]
              by_cases y : i = (σ 83 0).toNat
              · rw [y, pU_s, pU_s]; exact ⟨rfl, by omega, by omega⟩
              · rw [pU_i _ _ _ _ y, pU_i _ _ _ _ y]; exact w2 i (by omega)
            · rw [pU_i _ _ _ _ (by decide), pU_c _ _ _ _ (by decide)] at hi
              have wi := w3 i hi
              rw [pU_c _ _ _ _ (show 151 ≠ 83 by decide), pU_c _ _ _ _ (show 151 ≠ 150 by decide), pU_c _ _ _ _ (show 144 ≠ 145 by decide), pU_i _ _ _ _ (show 8 + i ≠ (σ 83 0).toNat by omega), f1.get (k := 4) (by unfold wk1; omega)]
              exact wi
            · rw [pU_c _ _ _ _ (show 82 ≠ 83 by decide), pU_c _ _ _ _ (show 82 ≠ 150 by decide), pU_c _ _ _ _ (show 84 ≠ 145 by decide), pU_c _ _ _ _ (show 84 ≠ 144 by decide)]
              exact w4
          · have k' : ¬ σ 5 j = pw (2 + 0) := fun z => k (z.trans (by decide))
            rw [if_neg k, if_neg k']
            exact ⟨_, _, _, _, rfl, rfl, q3⟩
        · rw [if_neg z, if_pos (show τ 145 0 = 8 by omega)]
          exact ⟨_, _, _, _, rfl, rfl, h.sm⟩
      · simp only [t1]
        rw [if_neg (show ¬ (1 : Int) = 0 by decide)]
        by_cases z : σ 83 1 < 8
        · have n8 : ¬ τ 145 1 = 8 := by omega
          rw [if_pos z, if_neg n8]
          by_cases k : σ 5 j = 3
          · have ep : pw (σ 83 1 + 1) = σ 83 1 + 1 := pw_id (by omega) (by omega)
            have k' : σ 5 j = pw (2 + 1) := k.trans (by decide)
            have p0 := pz1 (b := τ 145 1) (by omega) (by omega)
            rw [if_pos k, if_pos k', p0, if_pos (show 0 ≤ 8 + τ 145 1 ∧ 8 + τ 145 1 < 16 by omega), if_pos ga2, ← w1.1, ep, show (8 + σ 83 1).toNat = 8 + (σ 83 1).toNat by omega]
            unfold f_Rows_put_82
            simp only [t1, if_pos ga2, if_neg (show ¬ 8 ≤ σ 83 1 by omega), if_neg (show ¬ (1 : Int) = 0 by decide), if_pos (show 0 ≤ σ 83 1 ∧ σ 83 1 < 8 by omega), ep, Option.bind_some]
            have f1 : FR wk1 σ (pU (pU σ 151 (σ 83 1).toNat (j : Int)) 83 1 (σ 83 1 + 1)) := (FR.u (by unfold wk1; omega)).tr (FR.u (by unfold wk1; omega))
            have f2 : FR wk2 τ (pU (pU τ 144 (8 + (σ 83 1).toNat) (j : Int)) 145 1 (σ 83 1 + 1)) := (FR.u (by unfold wk2; omega)).tr (FR.u (by unfold wk2; omega))
            refine ⟨_, _, _, _, rfl, rfl, h.rows f1 f2 ⟨?_, ?_, fun i hi => ?_, fun i hi => ?_, ?_⟩⟩
            · rw [pU_i _ _ _ _ (by decide), pU_c _ _ _ _ (by decide), pU_i _ _ _ _ (by decide), pU_c _ _ _ _ (by decide)]; exact w0
            · rw [pU_s, pU_s]; exact ⟨rfl, by omega, by omega⟩
            · rw [pU_i _ _ _ _ (by decide), pU_c _ _ _ _ (by decide)] at hi
              have wi := w2 i hi
              rw [pU_c _ _ _ _ (show 150 ≠ 83 by decide), pU_c _ _ _ _ (show 150 ≠ 151 by decide), pU_c _ _ _ _ (show 144 ≠ 145 by decide), pU_i _ _ _ _ (show i ≠ 8 + (σ 83 1).toNat by omega), f1.get (k := 4) (by unfold wk1; omega)]
              exact wi
            · rw [pU_s] at hi
              rw [pU_c _ _ _ _ (show 151 ≠ 83 by decide), pU_c _ _ _ _ (show 144 ≠ 145 by decide), f1.get (k := 4) (by unfold wk1; omega)]
              by_cases y : i = (σ 83 1).toNat
              · rw [y, pU_s, pU_s]; exact ⟨rfl, by omega, by omega⟩
              · rw [pU_i _ _ _ _ y, pU_i _ _ _ _ (show 8 + i ≠ 8 + (σ 83 1).toNat by omega)]; exact w3 i (by omega)
            · rw [pU_c _ _ _ _ (show 82 ≠ 83 by decide), pU_c _ _ _ _ (show 82 ≠ 151 by decide), pU_c _ _ _ _ (show 84 ≠ 145 by decide), pU_c _ _ _ _ (show 84 ≠ 144 by decide)]
              exact w4
          · have k' : ¬ σ 5 j = pw (2 + 1) := fun z => k (z.trans (by decide))
            rw [if_neg k, if_neg k']
            exact ⟨_, _, _, _, rfl, rfl, q3⟩
        · rw [if_neg z, if_pos (show τ 145 1 = 8 by omega)]
          exact ⟨_, _, _, _, rfl, rfl, h.sm⟩
    · rw [if_neg go, if_pos rfl, if_pos rfl]
      by_cases z : σ 83 a.toNat < 8
      · rw [if_pos z]
        exact ⟨_, _, _, _, rfl, rfl, h.sm⟩
      · rw [if_neg z]
        exact ⟨_, _, _, _, rfl, rfl, h.sm⟩
  · rw [if_neg ga, if_pos rfl]
    by_cases z : a < 0
    · rw [if_pos z]
      exact ⟨_, _, _, _, rfl, rfl, h.sm⟩
    · rw [if_neg z, if_neg (by omega)]
      exact ⟨_, _, _, _, rfl, rfl, h.sm⟩
end H4
