def Pk (c k _x : Nat) : Prop := k = c
def Pk2 (c y k x : Nat) : Prop := k = c ∧ x = y
def wcS1 (k x : Nat) : Prop := (k = 4 ∧ x = 11) ∨ k = 27 ∨ (k = 24 ∧ 3 ≤ x ∧ x ≤ 5)
def wmS1 (k x : Nat) : Prop := k = 87 ∨ (k = 84 ∧ (x = 0 ∨ x = 1 ∨ x = 3))
section H2
variable {N : Nat} {σ τ σ' τ' : pS}
theorem SRx.rm (h : SRx σ τ) (h1 : EQc wcS1 σ σ') (h2 : EQc wmS1 τ τ') (g1 : ∀ r, r < 8 → σ' 25 r = τ' 85 r) (g2 : ∀ x, x < 64 → σ' 26 x = τ' 86 x) : SRx σ' τ' := by
  obtain ⟨a1, a2, a3, a4, a5, a6, a7⟩ := h
  have e11 := h1 4 11 (by unfold wcS1; omega)
  refine ⟨g1, g2, fun j hj => ?_, fun j hj => ?_, ?_, ?_, ?_⟩
  · rw [e11] at hj
    rw [h1 27 j (by unfold wcS1; omega), h2 87 j (by unfold wmS1; omega)]; exact a3 j hj
  · rw [h1 27 j (by unfold wcS1; omega), e11]; exact a4 j hj
  · rw [h1 24 3 (by unfold wcS1; omega), h2 84 3 (by unfold wmS1; omega)]; exact a5
  · rw [h1 24 5 (by unfold wcS1; omega), h2 84 0 (by unfold wmS1; omega)]; exact a6
  · rw [h1 24 4 (by unfold wcS1; omega), h2 84 1 (by unfold wmS1; omega)]; exact a7
theorem w_register (a b : Int) (h : WR N σ τ) : ∃ v σ' τ', f_X_register_0 a b σ = some (v, σ') ∧ f_M_register_84 a b τ = some (v, τ') ∧ WS N σ τ σ' τ' := by
  unfold f_X_register_0 f_M_register_84
  rw [m_in, Option.bind_some]
  dsimp only
  by_cases g : 0 ≤ a ∧ a ≤ 7
  · have g8 : 0 ≤ a ∧ a < 8 := by omega
    rw [if_neg (show ¬ a < 0 by omega), if_pos g8.2, if_pos g8, if_pos g, if_neg (show ¬ (1 : Int) = 0 by decide), if_pos g8]
    obtain ⟨a1, a2, a3, a4, a5, a6, a7, a8⟩ := h
    have f1 : FR (Pk 25) σ (pU σ 25 a.toNat b) := FR.u rfl
    have f2 : FR (Pk 85) τ (pU τ 85 a.toNat b) := FR.u rfl
    refine ⟨_, _, _, rfl, rfl, WS.of (f1) (f2) (fun k x z => by unfold Pk at z; omega) (fun k x z => by unfold Pk at z; omega) ⟨a1.q ((f1).eq (fun k x z => by unfold Pk at z; unfold wcT; omega)) ((f2).eq (fun k x z => by unfold Pk at z; unfold wmT; omega)), a2.q ((f1).eq (fun k x z => by unfold Pk at z; unfold wcP; omega)) ((f2).eq (fun k x z => by unfold Pk at z; unfold wmP; omega)), a3.q ((f1).eq (fun k x z => by unfold Pk at z; unfold wcL; omega)) ((f2).eq (fun k x z => by unfold Pk at z; unfold wmL; omega)), ?_, a5.q ((f1).eq (fun k x z => by unfold Pk at z; unfold wcR; omega)) ((f2).eq (fun k x z => by unfold Pk at z; unfold wmR; omega)), a6.q ((f1).eq (fun k x z => by unfold Pk at z; unfold wcK; omega)) ((f2).eq (fun k x z => by unfold Pk at z; unfold wmK; omega)), a7.q ((f1).eq (fun k x z => by unfold Pk at z; unfold wcW; omega)) ((f2).eq (fun k x z => by unfold Pk at z; unfold wmW; omega)), a8.q ((f2).get (by unfold Pk; omega))⟩⟩
    exact a4.rm (f1.eq (fun k x z => by unfold Pk at z; unfold wcS1; omega)) (f2.eq (fun k x z => by unfold Pk at z; unfold wmS1; omega)) (fun r hr => by
      by_cases z : r = a.toNat
      · rw [z, pU_s, pU_s]
      · rw [pU_i _ _ _ _ z, pU_i _ _ _ _ z]; exact a4.1 r hr) (fun x hx => by rw [pU_c _ _ _ _ (by decide), pU_c _ _ _ _ (by decide)]; exact a4.2.1 x hx)
  · refine ⟨0, σ, τ, ?_, ?_, h.sm⟩
    · by_cases z : a < 0
      · rw [if_pos z]
      · rw [if_neg z, if_neg (by omega)]
    · rw [if_neg g, if_pos rfl]
theorem w_poke (a b : Int) (h : WR N σ τ) : ∃ v σ' τ', f_X_poke_0 a b σ = some (v, σ') ∧ f_M_poke_84 a b τ = some (v, τ') ∧ WS N σ τ σ' τ' := by
  unfold f_X_poke_0 f_M_poke_84
  simp only [m_in, Option.bind_some]
  by_cases g : 0 ≤ a ∧ a ≤ 63
  · have g8 : 0 ≤ a ∧ a < 64 := by omega
    by_cases gb : 0 ≤ b ∧ b ≤ 255
    · rw [if_neg (show ¬ a < 0 by omega), if_neg (show ¬ 64 ≤ a by omega), if_neg (show ¬ b < 0 by omega), if_pos gb.2, if_pos g8, if_pos g, if_neg (show ¬ (1 : Int) = 0 by decide), if_pos gb, if_neg (show ¬ (1 : Int) = 0 by decide), if_pos g8]
      obtain ⟨a1, a2, a3, a4, a5, a6, a7, a8⟩ := h
      have f1 : FR (Pk 26) σ (pU σ 26 a.toNat b) := FR.u rfl
      have f2 : FR (Pk 86) τ (pU τ 86 a.toNat b) := FR.u rfl
      refine ⟨_, _, _, rfl, rfl, WS.of (f1) (f2) (fun k x z => by unfold Pk at z; omega) (fun k x z => by unfold Pk at z; omega) ⟨a1.q ((f1).eq (fun k x z => by unfold Pk at z; unfold wcT; omega)) ((f2).eq (fun k x z => by unfold Pk at z; unfold wmT; omega)), a2.q ((f1).eq (fun k x z => by unfold Pk at z; unfold wcP; omega)) ((f2).eq (fun k x z => by unfold Pk at z; unfold wmP; omega)), a3.q ((f1).eq (fun k x z => by unfold Pk at z; unfold wcL; omega)) ((f2).eq (fun k x z => by unfold Pk at z; unfold wmL; omega)), ?_, a5.q ((f1).eq (fun k x z => by unfold Pk at z; unfold wcR; omega)) ((f2).eq (fun k x z => by unfold Pk at z; unfold wmR; omega)), a6.q ((f1).eq (fun k x z => by unfold Pk at z; unfold wcK; omega)) ((f2).eq (fun k x z => by unfold Pk at z; unfold wmK; omega)), a7.q ((f1).eq (fun k x z => by unfold Pk at z; unfold wcW; omega)) ((f2).eq (fun k x z => by unfold Pk at z; unfold wmW; omega)), a8.q ((f2).get (by unfold Pk; omega))⟩⟩
      exact a4.rm (f1.eq (fun k x z => by unfold Pk at z; unfold wcS1; omega)) (f2.eq (fun k x z => by unfold Pk at z; unfold wmS1; omega)) (fun x hx => by rw [pU_c _ _ _ _ (by decide), pU_c _ _ _ _ (by decide)]; exact a4.1 x hx) (fun r hr => by
        by_cases z : r = a.toNat
        · rw [z, pU_s, pU_s]
        · rw [pU_i _ _ _ _ z, pU_i _ _ _ _ z]; exact a4.2.1 r hr)
    · refine ⟨0, σ, τ, ?_, ?_, h.sm⟩
      · rw [if_neg (show ¬ a < 0 by omega), if_neg (show ¬ 64 ≤ a by omega)]
        by_cases z : b < 0
        · rw [if_pos z]
        · rw [if_neg z, if_neg (by omega)]
      · rw [if_pos g, if_neg (by decide), if_neg gb, if_pos rfl]
  · refine ⟨0, σ, τ, ?_, ?_, h.sm⟩
    · by_cases z : a < 0
      · rw [if_pos z]
      · rw [if_neg z, if_pos (by omega)]
    · rw [if_neg g, if_pos rfl]
theorem w_seed (a : Int) (h : WR N σ τ) : ∃ v σ' τ', f_X_seed_0 a σ = some (v, σ') ∧ f_M_seed_84 a τ = some (v, τ') ∧ WS N σ τ σ' τ' := by
  unfold f_X_seed_0 f_M_seed_84
  simp only [m_in, Option.bind_some]
  by_cases g : 0 ≤ a ∧ a ≤ 65535
  · rw [if_neg (show ¬ a < 0 by omega), if_pos (show a < 65536 by omega), if_pos g, if_neg (show ¬ (1 : Int) = 0 by decide)]
    obtain ⟨a1, a2, a3, a4, a5, a6, a7, a8⟩ := h
    have f1 : FR (Pk2 24 5) σ (pU σ 24 5 a) := FR.u ⟨rfl, rfl⟩
    have f2 : FR (Pk2 84 0) τ (pU τ 84 0 a) := FR.u ⟨rfl, rfl⟩
    refine ⟨_, _, _, rfl, rfl, WS.of (f1) (f2) (fun k x z => by unfold Pk2 at z; omega) (fun k x z => by unfold Pk2 at z; omega) ⟨a1.q ((f1).eq (fun k x z => by unfold Pk2 at z; unfold wcT; omega)) ((f2).eq (fun k x z => by unfold Pk2 at z; unfold wmT; omega)), a2.q ((f1).eq (fun k x z => by unfold Pk2 at z; unfold wcP; omega)) ((f2).eq (fun k x z => by unfold Pk2 at z; unfold wmP; omega)), a3.q ((f1).eq (fun k x z => by unfold Pk2 at z; unfold wcL; omega)) ((f2).eq (fun k x z => by unfold Pk2 at z; unfold wmL; omega)), ?_, a5.q ((f1).eq (fun k x z => by unfold Pk2 at z; unfold wcR; omega)) ((f2).eq (fun k x z => by unfold Pk2 at z; unfold wmR; omega)), a6.q ((f1).eq (fun k x z => by unfold Pk2 at z; unfold wcK; omega)) ((f2).eq (fun k x z => by unfold Pk2 at z; unfold wmK; omega)), a7.q ((f1).eq (fun k x z => by unfold Pk2 at z; unfold wcW; omega)) ((f2).eq (fun k x z => by unfold Pk2 at z; unfold wmW; omega)), a8.q ((f2).get (by unfold Pk2; omega))⟩⟩
    obtain ⟨b1, b2, b3, b4, b5, b6, b7⟩ := a4
    refine ⟨fun r hr => ?_, fun x hx => ?_, fun j hj => ?_, fun j hj => ?_, ?_, ?_, ?_⟩
    · rw [pU_c _ _ _ _ (by decide), pU_c _ _ _ _ (by decide)]; exact b1 r hr
    · rw [pU_c _ _ _ _ (by decide), pU_c _ _ _ _ (by decide)]; exact b2 x hx
    · rw [pU_c _ _ _ _ (by decide)] at hj
      rw [pU_c _ _ _ _ (by decide), pU_c _ _ _ _ (by decide)]; exact b3 j hj
    · rw [f1.get (k := 27) (by unfold Pk2; omega), f1.get (k := 4) (by unfold Pk2; omega)]; exact b4 j hj
    · rw [f1.get (by unfold Pk2; omega), f2.get (by unfold Pk2; omega)]; exact b5
    · rw [pU_s, pU_s]; exact ⟨rfl, g⟩
    · rw [f1.get (by unfold Pk2; omega), f2.get (by unfold Pk2; omega)]; exact b7
  · refine ⟨0, σ, τ, ?_, ?_, h.sm⟩
    · by_cases z : a < 0
      · rw [if_pos z]
      · rw [if_neg z, if_neg (by omega)]
    · rw [if_neg g, if_pos rfl]
theorem w_feed (a b c d e : Int) (h : WR N σ τ) : ∃ v σ' τ', f_X_feed_0 a b c d e σ = some (v, σ') ∧ f_M_feed_84 a b c d e τ = some (v, τ') ∧ WS N σ τ σ' τ' := by
  obtain ⟨a1, a2, a3, a4, a5, a6, a7, a8⟩ := h
  obtain ⟨v, σ1, τ1, q1, q2, q3, f1, f2⟩ := feed_ls (σ := σ) (τ := τ) a b c d e a1
  exact ⟨v, σ1, τ1, q1, q2, WS.of (f1) (f2) (fun k x z => by unfold PT at z; omega) (fun k x z => by unfold QT at z; omega) ⟨q3, a2.q ((f1).eq (fun k x z => by unfold PT at z; unfold wcP; omega)) ((f2).eq (fun k x z => by unfold QT at z; unfold wmP; omega)), a3.q ((f1).eq (fun k x z => by unfold PT at z; unfold wcL; omega)) ((f2).eq (fun k x z => by unfold QT at z; unfold wmL; omega)), a4.q ((f1).eq (fun k x z => by unfold PT at z; unfold wcS; omega)) ((f2).eq (fun k x z => by unfold QT at z; unfold wmS; omega)), a5.q ((f1).eq (fun k x z => by unfold PT at z; unfold wcR; omega)) ((f2).eq (fun k x z => by unfold QT at z; unfold wmR; omega)), a6.q ((f1).eq (fun k x z => by unfold PT at z; unfold wcK; omega)) ((f2).eq (fun k x z => by unfold QT at z; unfold wmK; omega)), a7.q ((f1).eq (fun k x z => by unfold PT at z; unfold wcW; omega)) ((f2).eq (fun k x z => by unfold QT at z; unfold wmW; omega)), a8.q ((f2).get (by unfold QT; omega))⟩⟩
theorem w_law (a : Int) (h : WR N σ τ) : ∃ v σ' τ', f_X_law_0 a σ = some (v, σ') ∧ f_M_law_84 a τ = some (v, τ') ∧ WS N σ τ σ' τ' := by
  obtain ⟨a1, a2, a3, a4, a5, a6, a7, a8⟩ := h
  obtain ⟨v, σ1, τ1, q1, q2, q3, q4, f1, f2⟩ := law_ls (σ := σ) (τ := τ) (a := a) a1
  exact ⟨v, σ1, τ1, q1, q2, WS.of (f1) (f2) (fun k x z => by unfold PLx at z; omega) (fun k x z => by unfold QLx at z; omega) ⟨q3, a2.q ((f1).eq (fun k x z => by unfold PLx at z; unfold wcP; omega)) ((f2).eq (fun k x z => by unfold QLx at z; unfold wmP; omega)), q4 a3, a4.q ((f1).eq (fun k x z => by unfold PLx at z; unfold wcS; omega)) ((f2).eq (fun k x z => by unfold QLx at z; unfold wmS; omega)), a5.q ((f1).eq (fun k x z => by unfold PLx at z; unfold wcR; omega)) ((f2).eq (fun k x z => by unfold QLx at z; unfold wmR; omega)), a6.q ((f1).eq (fun k x z => by unfold PLx at z; unfold wcK; omega)) ((f2).eq (fun k x z => by unfold QLx at z; unfold wmK; omega)), a7.q ((f1).eq (fun k x z => by unfold PLx at z; unfold wcW; omega)) ((f2).eq (fun k x z => by unfold QLx at z; unfold wmW; omega)), a8.q ((f2).get (by unfold QLx; omega))⟩⟩
theorem w_check (a : Int) (h : WR N σ τ) : ∃ v σ' τ', f_X_check_0 a σ = some (v, σ') ∧ f_M_check_84 a τ = some (v, τ') ∧ WS N σ τ σ' τ' := by
  obtain ⟨a1, a2, a3, a4, a5, a6, a7, a8⟩ := h
  obtain ⟨v, w, σ1, τ1, q1, q2, q3, q4, f1, f2⟩ := check_ls (σ := σ) (τ := τ) (a := a) a1
  rw [← q4 a4.2.1] at q2
  exact ⟨v, σ1, τ1, q1, q2, WS.of (f1) (f2) (fun k x z => by unfold PT at z; omega) (fun k x z => by unfold QT at z; omega) ⟨q3, a2.q ((f1).eq (fun k x z => by unfold PT at z; unfold wcP; omega)) ((f2).eq (fun k x z => by unfold QT at z; unfold wmP; omega)), a3.q ((f1).eq (fun k x z => by unfold PT at z; unfold wcL; omega)) ((f2).eq (fun k x z => by unfold QT at z; unfold wmL; omega)), a4.q ((f1).eq (fun k x z => by unfold PT at z; unfold wcS; omega)) ((f2).eq (fun k x z => by unfold QT at z; unfold wmS; omega)), a5.q ((f1).eq (fun k x z => by unfold PT at z; unfold wcR; omega)) ((f2).eq (fun k x z => by unfold QT at z; unfold wmR; omega)), a6.q ((f1).eq (fun k x z => by unfold PT at z; unfold wcK; omega)) ((f2).eq (fun k x z => by unfold QT at z; unfold wmK; omega)), a7.q ((f1).eq (fun k x z => by unfold PT at z; unfold wcW; omega)) ((f2).eq (fun k x z => by unfold QT at z; unfold wmW; omega)), a8.q ((f2).get (by unfold QT; omega))⟩⟩
theorem w_source (a b : Int) (h : WR N σ τ) : ∃ v σ' τ', f_X_source_0 a b σ = some (v, σ') ∧ f_M_source_84 a b τ = some (v, τ') ∧ WS N σ τ σ' τ' := by
  obtain ⟨v, q1, q2⟩ := source_ls a b h.2.1
  exact ⟨v, σ, τ, q1, q2, h.sm⟩
theorem w_deep (h : WR N σ τ) : ∃ v σ' τ', f_X_deep_0 σ = some (v, σ') ∧ f_M_deep_84 τ = some (v, τ') ∧ WS N σ τ σ' τ' := by
  obtain ⟨a1, a2, a3, a4, a5, a6, a7, a8⟩ := h
  obtain ⟨v, τ1, q1, q2, q3⟩ := deep_ls a2
  have f1 : FR (Pk 3) σ σ := FR.rf _ _
  have f2 : FR (Pk 143) τ τ1 := fun k x => by
    by_cases z : k = 143
    · exact Or.inl z
    · exact Or.inr (q3 k x z)
  exact ⟨v, σ, τ1, q1, q2, WS.of (f1) (f2) (fun k x z => by unfold Pk at z; omega) (fun k x z => by unfold Pk at z; omega) ⟨a1.q ((f1).eq (fun k x z => by unfold Pk at z; unfold wcT; omega)) ((f2).eq (fun k x z => by unfold Pk at z; unfold wmT; omega)), a2.q ((f1).eq (fun k x z => by unfold Pk at z; unfold wcP; omega)) ((f2).eq (fun k x z => by unfold Pk at z; unfold wmP; omega)), a3.q ((f1).eq (fun k x z => by unfold Pk at z; unfold wcL; omega)) ((f2).eq (fun k x z => by unfold Pk at z; unfold wmL; omega)), a4.q ((f1).eq (fun k x z => by unfold Pk at z; unfold wcS; omega)) ((f2).eq (fun k x z => by unfold Pk at z; unfold wmS; omega)), a5.q ((f1).eq (fun k x z => by unfold Pk at z; unfold wcR; omega)) ((f2).eq (fun k x z => by unfold Pk at z; unfold wmR; omega)), a6.q ((f1).eq (fun k x z => by unfold Pk at z; unfold wcK; omega)) ((f2).eq (fun k x z => by unfold Pk at z; unfold wmK; omega)), a7.q ((f1).eq (fun k x z => by unfold Pk at z; unfold wcW; omega)) ((f2).eq (fun k x z => by unfold Pk at z; unfold wmW; omega)), a8.q ((f2).get (by unfold Pk; omega))⟩⟩
theorem w_program (a : Int) (hN : N ≤ 100000) (h : WR N σ τ) : ∃ v σ' τ', f_X_program_0 a σ = some (v, σ') ∧ f_M_program_84 a τ = some (v, τ') ∧ WS N σ τ σ' τ' := by
  obtain ⟨a1, a2, a3, a4, a5, a6, a7, a8⟩ := h
  obtain ⟨v, σ1, τ1, q1, q2, q3, q4, q5⟩ := prog_ls (a := a) a1 a2
  rcases q5 with ⟨f1, f2⟩ | ⟨f1, f2, t1, t2, t3, t4, t5, t6, t7, t8, t9, t10, t11, t12⟩
  · exact ⟨v, σ1, τ1, q1, q2, WS.of (f1) (f2) (fun k x z => by unfold PFa at z; omega) (fun k x z => by unfold QFa at z; omega) ⟨q3, q4, a3.q ((f1).eq (fun k x z => by unfold PFa at z; unfold wcL; omega)) ((f2).eq (fun k x z => by unfold QFa at z; unfold wmL; omega)), a4.q ((f1).eq (fun k x z => by unfold PFa at z; unfold wcS; omega)) ((f2).eq (fun k x z => by unfold QFa at z; unfold wmS; omega)), a5.q ((f1).eq (fun k x z => by unfold PFa at z; unfold wcR; omega)) ((f2).eq (fun k x z => by unfold QFa at z; unfold wmR; omega)), a6.q ((f1).eq (fun k x z => by unfold PFa at z; unfold wcK; omega)) ((f2).eq (fun k x z => by unfold QFa at z; unfold wmK; omega)), a7.q ((f1).eq (fun k x z => by unfold PFa at z; unfold wcW; omega)) ((f2).eq (fun k x z => by unfold QFa at z; unfold wmW; omega)), a8.q ((f2).get (by unfold QFa; omega))⟩⟩
  · obtain ⟨n1, n2⟩ := a8
    have e5 : τ1 84 5 = τ 84 5 + 1 := by rw [t12, pw_id (by omega) (by omega)]
    refine ⟨v, σ1, τ1, q1, q2, WS.of (f1) (f2) (fun k x z => by unfold PTl at z; omega) (fun k x z => by unfold QTl at z; omega) ⟨q3, q4, a3.q ((f1).eq (fun k x z => by unfold PTl at z; unfold wcL; omega)) ((f2).eq (fun k x z => by unfold QTl at z; unfold wmL; omega)), ?_, ?_, ?_, ?_, ⟨by omega, by omega⟩⟩⟩
    · obtain ⟨b1, b2, b3, b4, b5, b6, b7⟩ := a4
      refine ⟨fun r hr => ?_, fun x hx => ?_, fun j hj => ?_, fun j hj => ?_, ?_, ?_, ?_⟩
      · rw [f1.get (by unfold PTl; omega), f2.get (by unfold QTl; omega)]; exact b1 r hr
      · rw [f1.get (by unfold PTl; omega), f2.get (by unfold QTl; omega)]; exact b2 x hx
      · rw [t7 j hj]
        obtain ⟨m, rec, hG⟩ := q4.pg
        have := hG.le
        have := hG.cm
        exact t1 j (by omega)
      · rw [t1 j hj]; exact ⟨by decide, by decide, fun _ => rfl⟩
      · rw [t2, t8]; exact ⟨rfl, by decide, by decide⟩
      · rw [f1.get (by unfold PTl; omega), f2.get (by unfold QTl; omega)]; exact b6
      · rw [f1.get (by unfold PTl; omega), f2.get (by unfold QTl; omega)]; exact b7
    · exact ⟨by rw [t5, t9], fun z => absurd t5 z⟩
    · obtain ⟨b1, b2⟩ := a6
      have e9 : σ1 0 9 = σ 0 9 := f1.get (by unfold PTl; omega)
      refine ⟨by rw [e9, f2.get (by unfold QTl; omega)]; exact b1, fun z => ?_⟩
      rw [e9] at z
      obtain ⟨c1, c2, c3, c4, c5⟩ := b2 z
      refine ⟨fun r hr => ?_, fun r hr => ?_, ?_, ?_, Or.inr ⟨by rw [t6]; decide, ?_⟩⟩
      · rw [f1.get (by unfold PTl; omega), f2.get (by unfold QTl; omega)]; exact c1 r hr
      · rw [f1.get (by unfold PTl; omega), f2.get (by unfold QTl; omega)]; exact c2 r hr
      · rw [f1.get (by unfold PTl; omega), f2.get (by unfold QTl; omega)]; exact c3
      · rw [f1.get (by unfold PTl; omega), f2.get (by unfold QTl; omega)]; exact c4
      · rw [e5, f2.get (by unfold QTl; omega)]
        rcases c5 with ⟨-, d, -⟩ | ⟨-, d⟩ <;> omega
    · obtain ⟨b1, b2, b3, b4, b5⟩ := a7
      refine ⟨by rw [t3, t10]; omega, by rw [t4, t11]; omega, fun i hi => by rw [t3] at hi; omega, fun i hi => by rw [t4] at hi; omega, ?_⟩
      rw [f1.get (by unfold PTl; omega), f2.get (by unfold QTl; omega)]; exact b5
end H2
