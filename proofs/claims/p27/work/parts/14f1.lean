/-- cells that each part of the relation reads -/
def wcT (k x : Nat) : Prop := (k = 1 ∧ x = 1) ∨ k = 2
def wmT (k x : Nat) : Prop := (k = 84 ∧ x = 18) ∨ k = 96
def wcP (k x : Nat) : Prop := (k = 4 ∧ (x = 11 ∨ x = 12)) ∨ (5 ≤ k ∧ k ≤ 13)
def wmP (k x : Nat) : Prop := (k = 84 ∧ x = 2) ∨ (88 ≤ k ∧ k ≤ 95)
def wcL (k x : Nat) : Prop := (k = 16 ∧ x = 7) ∨ (17 ≤ k ∧ k ≤ 21)
def wmL (k x : Nat) : Prop := (k = 84 ∧ x = 27) ∨ (103 ≤ k ∧ k ≤ 107)
def wcS (k x : Nat) : Prop := (k = 4 ∧ x = 11) ∨ (25 ≤ k ∧ k ≤ 27) ∨ (k = 24 ∧ 3 ≤ x ∧ x ≤ 5)
def wmS (k x : Nat) : Prop := (85 ≤ k ∧ k ≤ 87) ∨ (k = 84 ∧ (x = 0 ∨ x = 1 ∨ x = 3))
def wcR (k x : Nat) : Prop := (k = 0 ∧ x = 8) ∨ (72 ≤ k ∧ k ≤ 77) ∨ (k = 4 ∧ x = 11) ∨ k = 5 ∨ k = 7
def wmR (k x : Nat) : Prop := (k = 84 ∧ x = 75) ∨ (134 ≤ k ∧ k ≤ 139)
def wcK (k x : Nat) : Prop := (k = 0 ∧ (x = 9 ∨ x = 10)) ∨ (78 ≤ k ∧ k ≤ 81) ∨ (k = 4 ∧ x = 11)
def wmK (k x : Nat) : Prop := (k = 84 ∧ (x = 5 ∨ (88 ≤ x ∧ x ≤ 92))) ∨ (146 ≤ k ∧ k ≤ 148)
def wcW (k x : Nat) : Prop := k = 82 ∨ k = 83 ∨ k = 150 ∨ k = 151 ∨ (k = 4 ∧ x = 11)
def wmW (k x : Nat) : Prop := (k = 84 ∧ x = 4) ∨ k = 144 ∨ k = 145
def EQc (K : Nat → Nat → Prop) (σ σ' : pS) : Prop := ∀ k x, K k x → σ' k x = σ k x
theorem EQc.rf (K : Nat → Nat → Prop) (σ : pS) : EQc K σ σ := fun _ _ _ => rfl
theorem FR.eq {P K : Nat → Nat → Prop} {σ σ' : pS} (h : FR P σ σ') (hP : ∀ k x, P k x → ¬ K k x) : EQc K σ σ' := fun k x hk => h.get (fun z => hP k x z hk)
/-- registers, memory, sets, draws, runs -/
def SRx (σ τ : pS) : Prop := (∀ r, r < 8 → σ 25 r = τ 85 r) ∧ (∀ x, x < 64 → σ 26 x = τ 86 x) ∧ (∀ j : Nat, (j : Int) < σ 4 11 → σ 27 j = τ 87 j) ∧ (∀ j : Nat, j < 20 → -1 ≤ σ 27 j ∧ σ 27 j ≤ 15 ∧ (σ 4 11 ≤ (j : Int) → σ 27 j = -1)) ∧ (σ 24 3 = τ 84 3 ∧ 0 ≤ σ 24 3 ∧ σ 24 3 ≤ 15) ∧ (σ 24 5 = τ 84 0 ∧ 0 ≤ σ 24 5 ∧ σ 24 5 ≤ 65535) ∧ (σ 24 4 = τ 84 1 ∧ 0 ≤ σ 24 4 ∧ σ 24 4 ≤ 9999)
/-- what is told of the last run -/
def LSR (σ τ : pS) : Prop := σ 0 8 = τ 84 75 ∧ (σ 0 8 ≠ 0 → 0 < σ 4 11 ∧ (∀ x, x < 6 → σ 72 x = τ 134 x) ∧ ∀ j : Nat, (j : Int) < σ 4 11 → σ 73 j = τ 135 j ∧ σ 74 j = τ 136 j ∧ σ 75 j = τ 137 j ∧ (2 ≤ σ 5 j → σ 76 j = τ 138 j) ∧ (σ 5 j = 2 → ∀ e : Nat, (e : Int) < σ 7 j → σ 77 (4 * j + e) = τ 139 (4 * j + e)))
/-- what is kept -/
def KPR (σ τ : pS) : Prop := σ 0 9 = τ 84 88 ∧ (σ 0 9 ≠ 0 → (∀ r, r < 8 → σ 79 r = τ 146 r) ∧ (∀ x, x < 64 → σ 80 x = τ 147 x) ∧ (σ 78 4 = τ 84 91 ∧ 0 ≤ σ 78 4 ∧ σ 78 4 ≤ 9999) ∧ (σ 78 5 = τ 84 92 ∧ 0 ≤ σ 78 5 ∧ σ 78 5 ≤ 65535) ∧ ((σ 0 10 = 0 ∧ τ 84 89 = τ 84 5 ∧ (∀ j : Nat, (j : Int) < σ 4 11 → σ 81 j = τ 148 j) ∧ (∀ j : Nat, j < 20 → -1 ≤ σ 81 j ∧ σ 81 j ≤ 15 ∧ (σ 4 11 ≤ (j : Int) → σ 81 j = -1)) ∧ (σ 78 3 = τ 84 90 ∧ 0 ≤ σ 78 3 ∧ σ 78 3 ≤ 15)) ∨ (σ 0 10 ≠ 0 ∧ τ 84 89 < τ 84 5)))
/-- the watched rows -/
def RWR (σ τ : pS) : Prop := (σ 83 0 = τ 145 0 ∧ 0 ≤ σ 83 0 ∧ σ 83 0 ≤ 8) ∧ (σ 83 1 = τ 145 1 ∧ 0 ≤ σ 83 1 ∧ σ 83 1 ≤ 8) ∧ (∀ i : Nat, (i : Int) < σ 83 0 → σ 150 i = τ 144 i ∧ 0 ≤ σ 150 i ∧ σ 150 i < σ 4 11) ∧ (∀ i : Nat, (i : Int) < σ 83 1 → σ 151 i = τ 144 (8 + i) ∧ 0 ≤ σ 151 i ∧ σ 151 i < σ 4 11) ∧ (σ 82 2 = τ 84 4 ∧ 0 ≤ σ 82 2 ∧ σ 82 2 ≤ 9999)
/-- how many programs were told -/
def CNT (N : Nat) (τ : pS) : Prop := 0 ≤ τ 84 5 ∧ τ 84 5 ≤ (N : Int)
/-- class and reference between the calls -/
def WR (N : Nat) (σ τ : pS) : Prop := TR σ τ ∧ PRG σ τ ∧ LR σ τ ∧ SRx σ τ ∧ LSR σ τ ∧ KPR σ τ ∧ RWR σ τ ∧ CNT N τ
section WQ
variable {N : Nat} {σ τ σ' τ' : pS}
theorem TR.q (h : TR σ τ) (h1 : EQc wcT σ σ') (h2 : EQc wmT τ τ') : TR σ' τ' := by
  obtain ⟨a1, a2, a3⟩ := h
  unfold TR
  rw [h1 1 1 (Or.inl ⟨rfl, rfl⟩), h2 84 18 (Or.inl ⟨rfl, rfl⟩)]
  exact ⟨a1, a2, fun i hi => by rw [h1 2 i (Or.inr rfl), h2 96 i (Or.inr rfl)]; exact a3 i hi⟩
theorem PRG.q (h : PRG σ τ) (h1 : EQc wcP σ σ') (h2 : EQc wmP τ τ') : PRG σ' τ' := h.mv (h1 4 11 (by unfold wcP; omega)) (h1 4 12 (by unfold wcP; omega)) (fun k x a b => h1 k x (by unfold wcP; omega)) (h2 84 2 (by unfold wmP; omega)) (fun k x a b => h2 k x (by unfold wmP; omega))
theorem LR.q (h : LR σ τ) (h1 : EQc wcL σ σ') (h2 : EQc wmL τ τ') : LR σ' τ' := h.mv (h1 16 7 (by unfold wcL; omega)) (fun k x a b => h1 k x (by unfold wcL; omega)) (h2 84 27 (by unfold wmL; omega)) (fun k x a b => h2 k x (by unfold wmL; omega))
theorem SRx.q (h : SRx σ τ) (h1 : EQc wcS σ σ') (h2 : EQc wmS τ τ') : SRx σ' τ' := by
  obtain ⟨a1, a2, a3, a4, a5, a6, a7⟩ := h
  have e11 := h1 4 11 (by unfold wcS; omega)
  refine ⟨fun r hr => ?_, fun x hx => ?_, fun j hj => ?_, fun j hj => ?_, ?_, ?_, ?_⟩
  · rw [h1 25 r (by unfold wcS; omega), h2 85 r (by unfold wmS; omega)]; exact a1 r hr
  · rw [h1 26 x (by unfold wcS; omega), h2 86 x (by unfold wmS; omega)]; exact a2 x hx
  · rw [e11] at hj
    rw [h1 27 j (by unfold wcS; omega), h2 87 j (by unfold wmS; omega)]; exact a3 j hj
  · rw [h1 27 j (by unfold wcS; omega), e11]; exact a4 j hj
  · rw [h1 24 3 (by unfold wcS; omega), h2 84 3 (by unfold wmS; omega)]; exact a5
  · rw [h1 24 5 (by unfold wcS; omega), h2 84 0 (by unfold wmS; omega)]; exact a6
  · rw [h1 24 4 (by unfold wcS; omega), h2 84 1 (by unfold wmS; omega)]; exact a7
theorem LSR.q (h : LSR σ τ) (h1 : EQc wcR σ σ') (h2 : EQc wmR τ τ') : LSR σ' τ' := by
  obtain ⟨a1, a2⟩ := h
  have e08 := h1 0 8 (by unfold wcR; omega)
  refine ⟨by rw [e08, h2 84 75 (by unfold wmR; omega)]; exact a1, fun hz => ?_⟩
  rw [e08] at hz
  obtain ⟨b0, b1, b2⟩ := a2 hz
  refine ⟨by rw [h1 4 11 (by unfold wcR; omega)]; exact b0, fun x hx => by rw [h1 72 x (by unfold wcR; omega), h2 134 x (by unfold wmR; omega)]; exact b1 x hx, fun j hj => ?_⟩
  rw [h1 4 11 (by unfold wcR; omega)] at hj
  rw [h1 73 j (by unfold wcR; omega), h1 74 j (by unfold wcR; omega), h1 75 j (by unfold wcR; omega), h1 76 j (by unfold wcR; omega), h1 5 j (by unfold wcR; omega), h1 7 j (by unfold wcR; omega), h2 135 j (by unfold wmR; omega), h2 136 j (by unfold wmR; omega), h2 137 j (by unfold wmR; omega), h2 138 j (by unfold wmR; omega)]
  obtain ⟨c1, c2, c3, c4, c5⟩ := b2 j hj
  exact ⟨c1, c2, c3, c4, fun q e he => by rw [h1 77 _ (by unfold wcR; omega), h2 139 _ (by unfold wmR; omega)]; exact c5 q e he⟩
theorem KPR.q (h : KPR σ τ) (h1 : EQc wcK σ σ') (h2 : EQc wmK τ τ') : KPR σ' τ' := by
  obtain ⟨a1, a2⟩ := h
  have e09 := h1 0 9 (by unfold wcK; omega)
  refine ⟨by rw [e09, h2 84 88 (by unfold wmK; omega)]; exact a1, fun hz => ?_⟩
  rw [e09] at hz
  obtain ⟨b1, b2, b3, b4, b5⟩ := a2 hz
  refine ⟨fun x hx => by rw [h1 79 x (by unfold wcK; omega), h2 146 x (by unfold wmK; omega)]; exact b1 x hx, fun x hx => by rw [h1 80 x (by unfold wcK; omega), h2 147 x (by unfold wmK; omega)]; exact b2 x hx, ?_, ?_, ?_⟩
  · rw [h1 78 4 (by unfold wcK; omega), h2 84 91 (by unfold wmK; omega)]; exact b3
  · rw [h1 78 5 (by unfold wcK; omega), h2 84 92 (by unfold wmK; omega)]; exact b4
  · rw [h1 0 10 (by unfold wcK; omega), h2 84 89 (by unfold wmK; omega), h2 84 5 (by unfold wmK; omega), h1 4 11 (by unfold wcK; omega), h1 78 3 (by unfold wcK; omega), h2 84 90 (by unfold wmK; omega)]
    rcases b5 with ⟨c1, c2, c3, c4, c5⟩ | c
    · exact Or.inl ⟨c1, c2, fun j hj => by rw [h1 81 j (by unfold wcK; omega), h2 148 j (by unfold wmK; omega)]; exact c3 j hj, fun j hj => by rw [h1 81 j (by unfold wcK; omega)]; exact c4 j hj, c5⟩
    · exact Or.inr c
theorem RWR.q (h : RWR σ τ) (h1 : EQc wcW σ σ') (h2 : EQc wmW τ τ') : RWR σ' τ' := by
  obtain ⟨a1, a2, a3, a4, a5⟩ := h
  unfold RWR
  rw [h1 83 0 (by unfold wcW; omega), h1 83 1 (by unfold wcW; omega), h1 82 2 (by unfold wcW; omega), h1 4 11 (by unfold wcW; omega), h2 145 0 (by unfold wmW; omega), h2 145 1 (by unfold wmW; omega), h2 84 4 (by unfold wmW; omega)]
  exact ⟨a1, a2, fun i hi => by rw [h1 150 i (by unfold wcW; omega), h2 144 i (by unfold wmW; omega)]; exact a3 i hi, fun i hi => by rw [h1 151 i (by unfold wcW; omega), h2 144 (8 + i) (by unfold wmW; omega)]; exact a4 i hi, a5⟩
theorem CNT.q (h : CNT N τ) (h2 : τ' 84 5 = τ 84 5) : CNT (N + 1) τ' := by
  unfold CNT at *
  rw [h2]
  omega
/-- all that the relation reads -/
def wcA (k x : Nat) : Prop := wcT k x ∨ wcP k x ∨ wcL k x ∨ wcS k x ∨ wcR k x ∨ wcK k x ∨ wcW k x
def wmA (k x : Nat) : Prop := wmT k x ∨ wmP k x ∨ wmL k x ∨ wmS k x ∨ wmR k x ∨ wmK k x ∨ wmW k x
theorem WR.q (h : WR N σ τ) (h1 : EQc wcA σ σ') (h2 : EQc wmA τ τ') : WR (N + 1) σ' τ' := by
  obtain ⟨a1, a2, a3, a4, a5, a6, a7, a8⟩ := h
  exact ⟨a1.q (fun k x z => h1 k x (Or.inl z)) (fun k x z => h2 k x (Or.inl z)), a2.q (fun k x z => h1 k x (Or.inr (Or.inl z))) (fun k x z => h2 k x (Or.inr (Or.inl z))), a3.q (fun k x z => h1 k x (Or.inr (Or.inr (Or.inl z)))) (fun k x z => h2 k x (Or.inr (Or.inr (Or.inl z)))), a4.q (fun k x z => h1 k x (Or.inr (Or.inr (Or.inr (Or.inl z))))) (fun k x z => h2 k x (Or.inr (Or.inr (Or.inr (Or.inl z))))), a5.q (fun k x z => h1 k x (Or.inr (Or.inr (Or.inr (Or.inr (Or.inl z)))))) (fun k x z => h2 k x (Or.inr (Or.inr (Or.inr (Or.inr (Or.inl z)))))), a6.q (fun k x z => h1 k x (Or.inr (Or.inr (Or.inr (Or.inr (Or.inr (Or.inl z))))))) (fun k x z => h2 k x (Or.inr (Or.inr (Or.inr (Or.inr (Or.inr (Or.inl z))))))), a7.q (fun k x z => h1 k x (Or.inr (Or.inr (Or.inr (Or.inr (Or.inr (Or.inr z))))))) (fun k x z => h2 k x (Or.inr (Or.inr (Or.inr (Or.inr (Or.inr (Or.inr z))))))), a8.q (h2 84 5 (Or.inr (Or.inr (Or.inr (Or.inr (Or.inr (Or.inl (by unfold wmK; omega)))))))) ⟩
theorem WR.same (h : WR N σ τ) : WR (N + 1) σ τ := h.q (EQc.rf _ _) (EQc.rf _ _)
/-- the class's calls leave the reference's cells, and the other way round -/
def XOf (σ σ' : pS) : Prop := ∀ k x, 84 ≤ k → k ≤ 148 → σ' k x = σ k x
def MOf (τ τ' : pS) : Prop := ∀ k x, k < 84 ∨ 148 < k → τ' k x = τ k x
/-- what a call leaves -/
def WS (N : Nat) (σ τ σ' τ' : pS) : Prop := WR (N + 1) σ' τ' ∧ XOf σ σ' ∧ MOf τ τ'
theorem WR.sm (h : WR N σ τ) : WS N σ τ σ τ := ⟨h.same, fun _ _ _ _ => rfl, fun _ _ _ => rfl⟩
theorem XOf.of {P : Nat → Nat → Prop} (f : FR P σ σ') (hP : ∀ k x, P k x → k < 84 ∨ 148 < k) : XOf σ σ' := fun k x h1 h2 => f.get (fun z => by have := hP k x z; omega)
theorem MOf.of {P : Nat → Nat → Prop} (f : FR P τ τ') (hP : ∀ k x, P k x → 84 ≤ k ∧ k ≤ 148) : MOf τ τ' := fun k x h1 => f.get (fun z => by have := hP k x z; omega)
theorem WS.of {P Q : Nat → Nat → Prop} (f1 : FR P σ σ') (f2 : FR Q τ τ') (hP : ∀ k x, P k x → k < 84 ∨ 148 < k) (hQ : ∀ k x, Q k x → 84 ≤ k ∧ k ≤ 148) (h : WR (N + 1) σ' τ') : WS N σ τ σ' τ' := ⟨h, XOf.of f1 hP, MOf.of f2 hQ⟩
theorem WR.mono {M : Nat} (h : WR N σ τ) (hM : N ≤ M) : WR M σ τ := by
  obtain ⟨a1, a2, a3, a4, a5, a6, a7, a8⟩ := h
  refine ⟨a1, a2, a3, a4, a5, a6, a7, ?_⟩
  unfold CNT at *
  omega
theorem SRx.sr {m : Nat} (h : SRx σ τ) (hm : m ≤ 20) (e : σ 4 11 = (m : Int)) : SR m σ τ ∧ ∀ j, m ≤ j → j < 20 → σ 27 j = -1 := by
  obtain ⟨a1, a2, a3, a4, a5, a6, a7⟩ := h
  refine ⟨⟨a1, a2, fun j hj => ⟨a3 j (by omega), (a4 j (by omega)).1, (a4 j (by omega)).2.1⟩, a5, a6, a7.1⟩, fun j hj h20 => (a4 j h20).2.2 (by omega)⟩
theorem PRG.pg (h : PRG σ τ) : ∃ (m : Nat) (rec : Nat → O8), PG m rec σ τ := by
  obtain ⟨m, rec, D, a1, a2, a3, a4, a5, -⟩ := h
  exact ⟨m, rec, a1, a2, a3, a4, a5⟩
end WQ
def Pk (c k _x : Nat) : Prop := k = c
def Pk2 (c y k x : Nat) : Prop := k = c ∧ x = y
def wcS1 (k x : Nat) : Prop := (k = 4 ∧ x = 11) ∨ k = 27 ∨ (k = 24 ∧ 3 ≤ x ∧ x ≤ 5)
def wmS1 (k x : Nat) : Prop := k = 87 ∨ (k = 84 ∧ (x = 0 ∨ x = 1 ∨ x = 3))
section H2
variable {N : Nat} {σ τ σ' τ' : pS}
theorem SRx.rm (h : SRx σ τ) (h1 : EQc wcS1 σ σ') (h2 : EQc wmS1 τ τ') (g1 : ∀ r, r < 8 → σ' 25 r = τ' 85 r) (g2 : ∀ x, x < 64 → σ' 26 x = τ' 86 x) : SRx σ' τ' := by
  obtain ⟨a1, a2, a3, a4, a5, a6, a7⟩ := h
  have e11 := h1 4 11 (by unfold wcS1; omega)
  refine ⟨g1, g2, fun j hj => ?_, fun j hj => ?_, ?_, ?_, ?_⟩
  · rw [e11] at hj
    rw [h1 27 j (by unfold wcS1; omega), h2 87 j (by unfold wmS1; omega)]; exact a3 j hj
  · rw [h1 27 j (by unfold wcS1; omega), e11]; exact a4 j hj
  · rw [h1 24 3 (by unfold wcS1; omega), h2 84 3 (by unfold wmS1; omega)]; exact a5
  · rw [h1 24 5 (by unfold wcS1; omega), h2 84 0 (by unfold wmS1; omega)]; exact a6
  · rw [h1 24 4 (by unfold wcS1; omega), h2 84 1 (by unfold wmS1; omega)]; exact a7
theorem w_register (a b : Int) (h : WR N σ τ) : ∃ v σ' τ', f_X_register_0 a b σ = some (v, σ') ∧ f_M_register_84 a b τ = some (v, τ') ∧ WS N σ τ σ' τ' := by
  unfold f_X_register_0 f_M_register_84
  rw [m_in, Option.bind_some]
  dsimp only
  by_cases g : 0 ≤ a ∧ a ≤ 7
  · have g8 : 0 ≤ a ∧ a < 8 := by omega
    rw [if_neg (show ¬ a < 0 by omega), if_pos g8.2, if_pos g8, if_pos g, if_neg (show ¬ (1 : Int) = 0 by decide), if_pos g8]
    obtain ⟨a1, a2, a3, a4, a5, a6, a7, a8⟩ := h
    have f1 : FR (Pk 25) σ (pU σ 25 a.toNat b) := FR.u rfl
    have f2 : FR (Pk 85) τ (pU τ 85 a.toNat b) := FR.u rfl
    refine ⟨_, _, _, rfl, rfl, WS.of (f1) (f2) (fun k x z => by unfold Pk at z; omega) (fun k x z => by unfold Pk at z; omega) ⟨a1.q ((f1).eq (fun k x z => by unfold Pk at z; unfold wcT; omega)) ((f2).eq (fun k x z => by unfold Pk at z; unfold wmT; omega)), a2.q ((f1).eq (fun k x z => by unfold Pk at z; unfold wcP; omega)) ((f2).eq (fun k x z => by unfold Pk at z; unfold wmP; omega)), a3.q ((f1).eq (fun k x z => by unfold Pk at z; unfold wcL; omega)) ((f2).eq (fun k x z => by unfold Pk at z; unfold wmL; omega)), ?_, a5.q ((f1).eq (fun k x z => by unfold Pk at z; unfold wcR; omega)) ((f2).eq (fun k x z => by unfold Pk at z; unfold wmR; omega)), a6.q ((f1).eq (fun k x z => by unfold Pk at z; unfold wcK; omega)) ((f2).eq (fun k x z => by unfold Pk at z; unfold wmK; omega)), a7.q ((f1).eq (fun k x z => by unfold Pk at z; unfold wcW; omega)) ((f2).eq (fun k x z => by unfold Pk at z; unfold wmW; omega)), a8.q ((f2).get (by unfold Pk; omega))⟩⟩
    exact a4.rm (f1.eq (fun k x z => by unfold Pk at z; unfold wcS1; omega)) (f2.eq (fun k x z => by unfold Pk at z; unfold wmS1; omega)) (fun r hr => by
      by_cases z : r = a.toNat
      · rw [z, pU_s, pU_s]
      · rw [pU_i _ _ _ _ z, pU_i _ _ _ _ z]; exact a4.1 r hr) (fun x hx => by rw [pU_c _ _ _ _ (by decide), pU_c _ _ _ _ (by decide)]; exact a4.2.1 x hx)
  · refine ⟨0, σ, τ, ?_, ?_, h.sm⟩
    · by_cases z : a < 0
      · rw [if_pos z]
      · rw [if_neg z, if_neg (by omega)]
    · rw [if_neg g, if_pos rfl]
theorem w_poke (a b : Int) (h : WR N σ τ) : ∃ v σ' τ', f_X_poke_0 a b σ = some (v, σ') ∧ f_M_poke_84 a b τ = some (v, τ') ∧ WS N σ τ σ' τ' := by
  unfold f_X_poke_0 f_M_poke_84
  simp only [m_in, Option.bind_some]
  by_cases g : 0 ≤ a ∧ a ≤ 63
  · have g8 : 0 ≤ a ∧ a < 64 := by omega
    by_cases gb : 0 ≤ b ∧ b ≤ 255
    · rw [if_neg (show ¬ a < 0 by omega), if_neg (show ¬ 64 ≤ a by omega), if_neg (show ¬ b < 0 by omega), if_pos gb.2, if_pos g8, if_pos g, if_neg (show ¬ (1 : Int) = 0 by decide), if_pos gb, if_neg (show ¬ (1 : Int) = 0 by decide), if_pos g8]
      obtain ⟨a1, a2, a3, a4, a5, a6, a7, a8⟩ := h
      have f1 : FR (Pk 26) σ (pU σ 26 a.toNat b) := FR.u rfl
      have f2 : FR (Pk 86) τ (pU τ 86 a.toNat b) := FR.u rfl
      refine ⟨_, _, _, rfl, rfl, WS.of (f1) (f2) (fun k x z => by unfold Pk at z; omega) (fun k x z => by unfold Pk at z; omega) ⟨a1.q ((f1).eq (fun k x z => by unfold Pk at z; unfold wcT; omega)) ((f2).eq (fun k x z => by unfold Pk at z; unfold wmT; omega)), a2.q ((f1).eq (fun k x z => by unfold Pk at z; unfold wcP; omega)) ((f2).eq (fun k x z => by unfold Pk at z; unfold wmP; omega)), a3.q ((f1).eq (fun k x z => by unfold Pk at z; unfold wcL; omega)) ((f2).eq (fun k x z => by unfold Pk at z; unfold wmL; omega)), ?_, a5.q ((f1).eq (fun k x z => by unfold Pk at z; unfold wcR; omega)) ((f2).eq (fun k x z => by unfold Pk at z; unfold wmR; omega)), a6.q ((f1).eq (fun k x z => by unfold Pk at z; unfold wcK; omega)) ((f2).eq (fun k x z => by unfold Pk at z; unfold wmK; omega)), a7.q ((f1).eq (fun k x z => by unfold Pk at z; unfold wcW; omega)) ((f2).eq (fun k x z => by unfold Pk at z; unfold wmW; omega)), a8.q ((f2).get (by unfold Pk; omega))⟩⟩
      exact a4.rm (f1.eq (fun k x z => by unfold Pk at z; unfold wcS1; omega)) (f2.eq (fun k x z => by unfold Pk at z; unfold wmS1; omega)) (fun x hx => by rw [pU_c _ _ _ _ (by decide), pU_c _ _ _ _ (by decide)]; exact a4.1 x hx) (fun r hr => by
        by_cases z : r = a.toNat
        · rw [z, pU_s, pU_s]
        · rw [pU_i _ _ _ _ z, pU_i _ _ _ _ z]; exact a4.2.1 r hr)
    · refine ⟨0, σ, τ, ?_, ?_, h.sm⟩
      · rw [if_neg (show ¬ a < 0 by omega), if_neg (show ¬ 64 ≤ a by omega)]
        by_cases z : b < 0
        · rw [if_pos z]
        · rw [if_neg z, if_neg (by omega)]
      · rw [if_pos g, if_neg (by decide), if_neg gb, if_pos rfl]
  · refine ⟨0, σ, τ, ?_, ?_, h.sm⟩
    · by_cases z : a < 0
      · rw [if_pos z]
      · rw [if_neg z, if_pos (by omega)]
    · rw [if_neg g, if_pos rfl]
theorem w_seed (a : Int) (h : WR N σ τ) : ∃ v σ' τ', f_X_seed_0 a σ = some (v, σ') ∧ f_M_seed_84 a τ = some (v, τ') ∧ WS N σ τ σ' τ' := by
  unfold f_X_seed_0 f_M_seed_84
  simp only [m_in, Option.bind_some]
  by_cases g : 0 ≤ a ∧ a ≤ 65535
  · rw [if_neg (show ¬ a < 0 by omega), if_pos (show a < 65536 by omega), if_pos g, if_neg (show ¬ (1 : Int) = 0 by decide)]
    obtain ⟨a1, a2, a3, a4, a5, a6, a7, a8⟩ := h
    have f1 : FR (Pk2 24 5) σ (pU σ 24 5 a) := FR.u ⟨rfl, rfl⟩
    have f2 : FR (Pk2 84 0) τ (pU τ 84 0 a) := FR.u ⟨rfl, rfl⟩
    refine ⟨_, _, _, rfl, rfl, WS.of (f1) (f2) (fun k x z => by unfold Pk2 at z; omega) (fun k x z => by unfold Pk2 at z; omega) ⟨a1.q ((f1).eq (fun k x z => by unfold Pk2 at z; unfold wcT; omega)) ((f2).eq (fun k x z => by unfold Pk2 at z; unfold wmT; omega)), a2.q ((f1).eq (fun k x z => by unfold Pk2 at z; unfold wcP; omega)) ((f2).eq (fun k x z => by unfold Pk2 at z; unfold wmP; omega)), a3.q ((f1).eq (fun k x z => by unfold Pk2 at z; unfold wcL; omega)) ((f2).eq (fun k x z => by unfold Pk2 at z; unfold wmL; omega)), ?_, a5.q ((f1).eq (fun k x z => by unfold Pk2 at z; unfold wcR; omega)) ((f2).eq (fun k x z => by unfold Pk2 at z; unfold wmR; omega)), a6.q ((f1).eq (fun k x z => by unfold Pk2 at z; unfold wcK; omega)) ((f2).eq (fun k x z => by unfold Pk2 at z; unfold wmK; omega)), a7.q ((f1).eq (fun k x z => by unfold Pk2 at z; unfold wcW; omega)) ((f2).eq (fun k x z => by unfold Pk2 at z; unfold wmW; omega)), a8.q ((f2).get (by unfold Pk2; omega))⟩⟩
    obtain ⟨b1, b2, b3, b4, b5, b6, b7⟩ := a4
    refine ⟨fun r hr => ?_, fun x hx => ?_, fun j hj => ?_, fun j hj => ?_, ?_, ?_, ?_⟩
    · rw [pU_c _ _ _ _ (by decide), pU_c _ _ _ _ (by decide)]; exact b1 r hr
    · rw [pU_c _ _ _ _ (by decide), pU_c _ _ _ _ (by decide)]; exact b2 x hx
    · rw [pU_c _ _ _ _ (by decide)] at hj
      rw [pU_c _ _ _ _ (by decide), pU_c _ _ _ _ (by decide)]; exact b3 j hj
    · rw [f1.get (k := 27) (by unfold Pk2; omega), f1.get (k := 4) (by unfold Pk2; omega)]; exact b4 j hj
    · rw [f1.get (by unfold Pk2; omega), f2.get (by unfold Pk2; omega)]; exact b5
    · rw [pU_s, pU_s]; exact ⟨rfl, g⟩
    · rw [f1.get (by unfold Pk2; omega), f2.get (by unfold Pk2; omega)]; exact b7
  · refine ⟨0, σ, τ, ?_, ?_, h.sm⟩
    · by_cases z : a < 0
      · rw [if_pos z]
      · rw [if_neg z, if_neg (by omega)]
    · rw [if_neg g, if_pos rfl]
theorem w_feed (a b c d e : Int) (h : WR N σ τ) : ∃ v σ' τ', f_X_feed_0 a b c d e σ = some (v, σ') ∧ f_M_feed_84 a b c d e τ = some (v, τ') ∧ WS N σ τ σ' τ' := by
  obtain ⟨a1, a2, a3, a4, a5, a6, a7, a8⟩ := h
  obtain ⟨v, σ1, τ1, q1, q2, q3, f1, f2⟩ := feed_ls (σ := σ) (τ := τ) a b c d e a1
  exact ⟨v, σ1, τ1, q1, q2, WS.of (f1) (f2) (fun k x z => by unfold PT at z; omega) (fun k x z => by unfold QT at z; omega) ⟨q3, a2.q ((f1).eq (fun k x z => by unfold PT at z; unfold wcP; omega)) ((f2).eq (fun k x z => by unfold QT at z; unfold wmP; omega)), a3.q ((f1).eq (fun k x z => by unfold PT at z; unfold wcL; omega)) ((f2).eq (fun k x z => by unfold QT at z; unfold wmL; omega)), a4.q ((f1).eq (fun k x z => by unfold PT at z; unfold wcS; omega)) ((f2).eq (fun k x z => by unfold QT at z; unfold wmS; omega)), a5.q ((f1).eq (fun k x z => by unfold PT at z; unfold wcR; omega)) ((f2).eq (fun k x z => by unfold QT at z; unfold wmR; omega)), a6.q ((f1).eq (fun k x z => by unfold PT at z; unfold wcK; omega)) ((f2).eq (fun k x z => by unfold QT at z; unfold wmK; omega)), a7.q ((f1).eq (fun k x z => by unfold PT at z; unfold wcW; omega)) ((f2).eq (fun k x z => by unfold QT at z; unfold wmW; omega)), a8.q ((f2).get (by unfold QT; omega))⟩⟩
theorem w_law (a : Int) (h : WR N σ τ) : ∃ v σ' τ', f_X_law_0 a σ = some (v, σ') ∧ f_M_law_84 a τ = some (v, τ') ∧ WS N σ τ σ' τ' := by
  obtain ⟨a1, a2, a3, a4, a5, a6, a7, a8⟩ := h
  obtain ⟨v, σ1, τ1, q1, q2, q3, q4, f1, f2⟩ := law_ls (σ := σ) (τ := τ) (a := a) a1
  exact ⟨v, σ1, τ1, q1, q2, WS.of (f1) (f2) (fun k x z => by unfold PLx at z; omega) (fun k x z => by unfold QLx at z; omega) ⟨q3, a2.q ((f1).eq (fun k x z => by unfold PLx at z; unfold wcP; omega)) ((f2).eq (fun k x z => by unfold QLx at z; unfold wmP; omega)), q4 a3, a4.q ((f1).eq (fun k x z => by unfold PLx at z; unfold wcS; omega)) ((f2).eq (fun k x z => by unfold QLx at z; unfold wmS; omega)), a5.q ((f1).eq (fun k x z => by unfold PLx at z; unfold wcR; omega)) ((f2).eq (fun k x z => by unfold QLx at z; unfold wmR; omega)), a6.q ((f1).eq (fun k x z => by unfold PLx at z; unfold wcK; omega)) ((f2).eq (fun k x z => by unfold QLx at z; unfold wmK; omega)), a7.q ((f1).eq (fun k x z => by unfold PLx at z; unfold wcW; omega)) ((f2).eq (fun k x z => by unfold QLx at z; unfold wmW; omega)), a8.q ((f2).get (by unfold QLx; omega))⟩⟩
theorem w_check (a : Int) (h : WR N σ τ) : ∃ v σ' τ', f_X_check_0 a σ = some (v, σ') ∧ f_M_check_84 a τ = some (v, τ') ∧ WS N σ τ σ' τ' := by
  obtain ⟨a1, a2, a3, a4, a5, a6, a7, a8⟩ := h
  obtain ⟨v, w, σ1, τ1, q1, q2, q3, q4, f1, f2⟩ := check_ls (σ := σ) (τ := τ) (a := a) a1
  rw [← q4 a4.2.1] at q2
  exact ⟨v, σ1, τ1, q1, q2, WS.of (f1) (f2) (fun k x z => by unfold PT at z; omega) (fun k x z => by unfold QT at z; omega) ⟨q3, a2.q ((f1).eq (fun k x z => by unfold PT at z; unfold wcP; omega)) ((f2).eq (fun k x z => by unfold QT at z; unfold wmP; omega)), a3.q ((f1).eq (fun k x z => by unfold PT at z; unfold wcL; omega)) ((f2).eq (fun k x z => by unfold QT at z; unfold wmL; omega)), a4.q ((f1).eq (fun k x z => by unfold PT at z; unfold wcS; omega)) ((f2).eq (fun k x z => by unfold QT at z; unfold wmS; omega)), a5.q ((f1).eq (fun k x z => by unfold PT at z; unfold wcR; omega)) ((f2).eq (fun k x z => by unfold QT at z; unfold wmR; omega)), a6.q ((f1).eq (fun k x z => by unfold PT at z; unfold wcK; omega)) ((f2).eq (fun k x z => by unfold QT at z; unfold wmK; omega)), a7.q ((f1).eq (fun k x z => by unfold PT at z; unfold wcW; omega)) ((f2).eq (fun k x z => by unfold QT at z; unfold wmW; omega)), a8.q ((f2).get (by unfold QT; omega))⟩⟩
theorem w_source (a b : Int) (h : WR N σ τ) : ∃ v σ' τ', f_X_source_0 a b σ = some (v, σ') ∧ f_M_source_84 a b τ = some (v, τ') ∧ WS N σ τ σ' τ' := by
  obtain ⟨v, q1, q2⟩ := source_ls a b h.2.1
  exact ⟨v, σ, τ, q1, q2, h.sm⟩
theorem w_deep (h : WR N σ τ) : ∃ v σ' τ', f_X_deep_0 σ = some (v, σ') ∧ f_M_deep_84 τ = some (v, τ') ∧ WS N σ τ σ' τ' := by
  obtain ⟨a1, a2, a3, a4, a5, a6, a7, a8⟩ := h
  obtain ⟨v, τ1, q1, q2, q3⟩ := deep_ls a2
  have f1 : FR (Pk 3) σ σ := FR.rf _ _
  have f2 : FR (Pk 143) τ τ1 := fun k x => by
    by_cases z : k = 143
    · exact Or.inl z
    · exact Or.inr (q3 k x z)
  exact ⟨v, σ, τ1, q1, q2, WS.of (f1) (f2) (fun k x z => by unfold Pk at z; omega) (fun k x z => by unfold Pk at z; omega) ⟨a1.q ((f1).eq (fun k x z => by unfold Pk at z; unfold wcT; omega)) ((f2).eq (fun k x z => by unfold Pk at z; unfold wmT; omega)), a2.q ((f1).eq (fun k x z => by unfold Pk at z; unfold wcP; omega)) ((f2).eq (fun k x z => by unfold Pk at z; unfold wmP; omega)), a3.q ((f1).eq (fun k x z => by unfold Pk at z; unfold wcL; omega)) ((f2).eq (fun k x z => by unfold Pk at z; unfold wmL; omega)), a4.q ((f1).eq (fun k x z => by unfold Pk at z; unfold wcS; omega)) ((f2).eq (fun k x z => by unfold Pk at z; unfold wmS; omega)), a5.q ((f1).eq (fun k x z => by unfold Pk at z; unfold wcR; omega)) ((f2).eq (fun k x z => by unfold Pk at z; unfold wmR; omega)), a6.q ((f1).eq (fun k x z => by unfold Pk at z; unfold wcK; omega)) ((f2).eq (fun k x z => by unfold Pk at z; unfold wmK; omega)), a7.q ((f1).eq (fun k x z => by unfold Pk at z; unfold wcW; omega)) ((f2).eq (fun k x z => by unfold Pk at z; unfold wmW; omega)), a8.q ((f2).get (by unfold Pk; omega))⟩⟩
theorem w_program (a : Int) (hN : N ≤ 100000) (h : WR N σ τ) : ∃ v σ' τ', f_X_program_0 a σ = some (v, σ') ∧ f_M_program_84 a τ = some (v, τ') ∧ WS N σ τ σ' τ' := by
  obtain ⟨a1, a2, a3, a4, a5, a6, a7, a8⟩ := h
  obtain ⟨v, σ1, τ1, q1, q2, q3, q4, q5⟩ := prog_ls (a := a) a1 a2
  rcases q5 with ⟨f1, f2⟩ | ⟨f1, f2, t1, t2, t3, t4, t5, t6, t7, t8, t9, t10, t11, t12⟩
  · exact ⟨v, σ1, τ1, q1, q2, WS.of (f1) (f2) (fun k x z => by unfold PFa at z; omega) (fun k x z => by unfold QFa at z; omega) ⟨q3, q4, a3.q ((f1).eq (fun k x z => by unfold PFa at z; unfold wcL; omega)) ((f2).eq (fun k x z => by unfold QFa at z; unfold wmL; omega)), a4.q ((f1).eq (fun k x z => by unfold PFa at z; unfold wcS; omega)) ((f2).eq (fun k x z => by unfold QFa at z; unfold wmS; omega)), a5.q ((f1).eq (fun k x z => by unfold PFa at z; unfold wcR; omega)) ((f2).eq (fun k x z => by unfold QFa at z; unfold wmR; omega)), a6.q ((f1).eq (fun k x z => by unfold PFa at z; unfold wcK; omega)) ((f2).eq (fun k x z => by unfold QFa at z; unfold wmK; omega)), a7.q ((f1).eq (fun k x z => by unfold PFa at z; unfold wcW; omega)) ((f2).eq (fun k x z => by unfold QFa at z; unfold wmW; omega)), a8.q ((f2).get (by unfold QFa; omega))⟩⟩
  · obtain ⟨n1, n2⟩ := a8
    have e5 : τ1 84 5 = τ 84 5 + 1 := by rw [t12, pw_id (by omega) (by omega)]
    refine ⟨v, σ1, τ1, q1, q2, WS.of (f1) (f2) (fun k x z => by unfold PTl at z; omega) (fun k x z => by unfold QTl at z; omega) ⟨q3, q4, a3.q ((f1).eq (fun k x z => by unfold PTl at z; unfold wcL; omega)) ((f2).eq (fun k x z => by unfold QTl at z; unfold wmL; omega)), ?_, ?_, ?_, ?_, ⟨by omega, by omega⟩⟩⟩
    · obtain ⟨b1, b2, b3, b4, b5, b6, b7⟩ := a4
      refine ⟨fun r hr => ?_, fun x hx => ?_, fun j hj => ?_, fun j hj => ?_, ?_, ?_, ?_⟩
      · rw [f1.get (by unfold PTl; omega), f2.get (by unfold QTl; omega)]; exact b1 r hr
      · rw [f1.get (by unfold PTl; omega), f2.get (by unfold QTl; omega)]; exact b2 x hx
      · rw [t7 j hj]
        obtain ⟨m, rec, hG⟩ := q4.pg
        have := hG.le
        have := hG.cm
        exact t1 j (by omega)
      · rw [t1 j hj]; exact ⟨by decide, by decide, fun _ => rfl⟩
      · rw [t2, t8]; exact ⟨rfl, by decide, by decide⟩
      · rw [f1.get (by unfold PTl; omega), f2.get (by unfold QTl; omega)]; exact b6
      · rw [f1.get (by unfold PTl; omega), f2.get (by unfold QTl; omega)]; exact b7
    · exact ⟨by rw [t5, t9], fun z => absurd t5 z⟩
    · obtain ⟨b1, b2⟩ := a6
      have e9 : σ1 0 9 = σ 0 9 := f1.get (by unfold PTl; omega)
      refine ⟨by rw [e9, f2.get (by unfold QTl; omega)]; exact b1, fun z => ?_⟩
      rw [e9] at z
      obtain ⟨c1, c2, c3, c4, c5⟩ := b2 z
      refine ⟨fun r hr => ?_, fun r hr => ?_, ?_, ?_, Or.inr ⟨by rw [t6]; decide, ?_⟩⟩
      · rw [f1.get (by unfold PTl; omega), f2.get (by unfold QTl; omega)]; exact c1 r hr
      · rw [f1.get (by unfold PTl; omega), f2.get (by unfold QTl; omega)]; exact c2 r hr
      · rw [f1.get (by unfold PTl; omega), f2.get (by unfold QTl; omega)]; exact c3
      · rw [f1.get (by unfold PTl; omega), f2.get (by unfold QTl; omega)]; exact c4
      · rw [e5, f2.get (by unfold QTl; omega)]
        rcases c5 with ⟨-, d, -⟩ | ⟨-, d⟩ <;> omega
    · obtain ⟨b1, b2, b3, b4, b5⟩ := a7
      refine ⟨by rw [t3, t10]; omega, by rw [t4, t11]; omega, fun i hi => by rw [t3] at hi; omega, fun i hi => by rw [t4] at hi; omega, ?_⟩
      rw [f1.get (by unfold PTl; omega), f2.get (by unfold QTl; omega)]; exact b5
end H2
section H3
variable {N : Nat} {σ τ σ' τ' : pS}
theorem x_isOp {m : Nat} (e : σ 4 11 = (m : Int)) (a : Int) : f_X_isOp_0 a σ = some (if 0 ≤ a ∧ a < (m : Int) then 1 else 0, σ) := by
  unfold f_X_isOp_0
  rw [e]
  by_cases q : a < 0
  · rw [if_pos q, if_neg (by omega)]
  · rw [if_neg q]
    by_cases q2 : (m : Int) ≤ a
    · rw [if_pos q2, if_neg (by omega)]
    · rw [if_neg q2, if_pos (by omega)]
theorem m_isOp {m : Nat} (hm : m ≤ 20) (e : τ 84 2 = (m : Int)) (a : Int) : f_M_isOp_84 a τ = some (if 0 ≤ a ∧ a < (m : Int) then 1 else 0, τ) := by
  unfold f_M_isOp_84
  rw [e, pw_id (by omega) (by omega), m_in, Option.bind_some]
  by_cases q : 0 ≤ a ∧ a ≤ (m : Int) - 1
  · rw [if_pos q, if_pos (show 0 ≤ a ∧ a < (m : Int) by omega)]
    rfl
  · rw [if_neg q, if_neg (show ¬ (0 ≤ a ∧ a < (m : Int)) by omega)]
    rfl
theorem x_isTot (a : Int) : f_X_isTotal a σ = some (if 0 ≤ a ∧ a ≤ 5 then 1 else 0, σ) := by
  unfold f_X_isTotal
  by_cases q : a < 0
  · rw [if_pos q, if_neg (by omega)]
  · rw [if_neg q]
    by_cases q2 : 6 ≤ a
    · rw [if_pos q2, if_neg (by omega)]
    · rw [if_neg q2, if_pos (by omega)]
theorem x_isByte (a : Int) : f_X_isByte a σ = some (if 100 ≤ a ∧ a ≤ 163 then 1 else 0, σ) := by
  unfold f_X_isByte
  by_cases q : a < 100
  · rw [if_pos q, if_neg (by omega)]
  · rw [if_neg q]
    by_cases q2 : 164 ≤ a
    · rw [if_pos q2, if_neg (by omega)]
    · rw [if_neg q2, if_pos (by omega)]
theorem x_orA (s : Int) : f_X_orAbsent s σ = some (if s = -1 then -2 else s, σ) := by
  unfold f_X_orAbsent
  split <;> rfl
theorem w_lastRun (a : Int) (h : WR N σ τ) : ∃ v σ' τ', f_X_lastRun_0 a σ = some (v, σ') ∧ f_M_lastRun_84 a τ = some (v, τ') ∧ WS N σ τ σ' τ' := by
  obtain ⟨b1, b2⟩ := h.2.2.2.2.1
  unfold f_X_lastRun_0 f_M_lastRun_84
  simp only [m_in, x_isTot, Option.bind_some]
  by_cases g : 0 ≤ a ∧ a ≤ 5
  · have g6 : 0 ≤ a ∧ a < 6 := by omega
    rw [if_pos g, if_neg (show ¬ (1 : Int) = 0 by decide), if_neg (show ¬ (1 : Int) = 0 by decide), ← b1]
    by_cases z : σ 0 8 = 0
    · rw [if_pos z, if_pos z]
      exact ⟨_, _, _, rfl, rfl, h.sm⟩
    · rw [if_neg z, if_neg z, if_pos g6, if_pos g6, ← (b2 z).2.1 a.toNat (by omega)]
      exact ⟨_, _, _, rfl, rfl, h.sm⟩
  · rw [if_neg g, if_pos rfl, if_pos rfl]
    exact ⟨_, _, _, rfl, rfl, h.sm⟩
theorem w_now (a : Int) (h : WR N σ τ) : ∃ v σ' τ', f_X_now_0 a σ = some (v, σ') ∧ f_M_now_84 a τ = some (v, τ') ∧ WS N σ τ σ' τ' := by
  have s1 := h.2.2.2.1.1
  have s2 := h.2.2.2.1.2.1
  unfold f_X_now_0 f_M_now_84
  simp only [m_in, x_isCell, x_isByte, Option.bind_some]
  by_cases g : 0 ≤ a ∧ a < 8
  · rw [if_pos g, if_neg (show ¬ (1 : Int) = 0 by decide), if_pos g, if_pos (show 0 ≤ a ∧ a ≤ 7 by omega), if_neg (show ¬ (1 : Int) = 0 by decide), if_pos g, ← s1 a.toNat (by omega)]
    exact ⟨_, _, _, rfl, rfl, h.sm⟩
  · rw [if_neg g, if_pos rfl, if_neg (show ¬ (0 ≤ a ∧ a ≤ 7) by omega), if_pos rfl]
    by_cases gb : 100 ≤ a ∧ a ≤ 163
    · have e : pw (a - 100) = a - 100 := pw_id (by omega) (by omega)
      have g2 : 0 ≤ a - 100 ∧ a - 100 < 64 := by omega
      rw [if_pos gb, if_neg (show ¬ (1 : Int) = 0 by decide), if_neg (show ¬ (1 : Int) = 0 by decide), e, if_pos g2, if_pos g2, ← s2 (a - 100).toNat (by omega)]
      exact ⟨_, _, _, rfl, rfl, h.sm⟩
    · rw [if_neg gb, if_pos rfl, if_pos rfl]
      exact ⟨_, _, _, rfl, rfl, h.sm⟩
/-- what is told of an op, 0 to 5 -/
theorem op_told {m : Nat} {rec : Nat → O8} (hG : PG m rec σ τ) (hS : SRx σ τ) (hL : LSR σ τ) {j : Nat} (hj : j < m) {b : Int} (hb : 0 ≤ b ∧ b ≤ 5) : ∃ v, f_X_opIs_0_p26 (j : Int) b σ = some (v, σ) ∧ f_M_toldOfOp_84 (j : Int) b τ = some (v, τ) := by
  have hm := hG.le
  have e11 := hG.cm
  have g : (0 : Int) ≤ (j : Int) ∧ (j : Int) < 20 := by omega
  have kd := hG.kd hj
  have hj' : (j : Int) < σ 4 11 := by omega
  have b10 : b < 10 := by omega
  have s3 := hS.2.2.1 j hj'
  obtain ⟨l1, l2⟩ := hL
  unfold f_X_opIs_0_p26 f_M_toldOfOp_84
  rw [if_pos b10]
  simp only [if_pos g, Int.toNat_natCast, x_orA, Option.bind_some]
  by_cases q0 : b = 0
  · rw [if_pos q0, if_pos q0, kd.1]
    exact ⟨_, rfl, rfl⟩
  rw [if_neg q0, if_neg q0]
  by_cases q1 : b = 1
  · rw [if_pos q1, if_pos q1, ← s3]
    by_cases z : σ 27 j = -1
    · rw [if_pos z, if_pos z]
      exact ⟨_, rfl, rfl⟩
    · rw [if_neg z, if_neg z]
      exact ⟨_, rfl, rfl⟩
  rw [if_neg q1, if_neg q1, ← l1]
  by_cases z : σ 0 8 = 0
  · rw [if_pos z, if_pos z]
    exact ⟨_, rfl, rfl⟩
  rw [if_neg z, if_neg z]
  obtain ⟨c1, c2, c3, c4, c5⟩ := (l2 z).2.2 j hj'
  by_cases q2 : b = 2
  · rw [if_pos q2, if_pos q2, c1]
    exact ⟨_, rfl, rfl⟩
  rw [if_neg q2, if_neg q2]
  by_cases q3 : b = 3
  · rw [if_pos q3, if_pos q3, c2]
    exact ⟨_, rfl, rfl⟩
  rw [if_neg q3, if_neg q3]
  by_cases q4 : b = 4
  · rw [if_pos q4, if_pos q4, c3]
    exact ⟨_, rfl, rfl⟩
  rw [if_neg q4, if_neg q4, kd.1]
  unfold f_Prog_moves_4
  simp only [if_pos g, Int.toNat_natCast]
  by_cases k2 : σ 5 j = 2
  · rw [if_pos k2, Option.bind_some, if_pos (show 2 ≤ σ 5 j by omega), ← c4 (by omega)]
    exact ⟨_, rfl, rfl⟩
  · rw [if_neg k2]
    by_cases k3 : σ 5 j = 3
    · rw [if_pos k3, Option.bind_some, if_pos (show 2 ≤ σ 5 j by omega), ← c4 (by omega)]
      exact ⟨_, rfl, rfl⟩
    · rw [if_neg k3, Option.bind_some, if_neg (show ¬ 2 ≤ σ 5 j by omega)]
      exact ⟨_, rfl, rfl⟩
/-- from which op a byte came -/
theorem op_giv {m : Nat} {rec : Nat → O8} (hG : PG m rec σ τ) (hL : LSR σ τ) {j : Nat} (hj : j < m) {b : Int} (hb : 10 ≤ b) (hb2 : b ≤ 2147483647) : ∃ v, f_X_opIs_0_p26 (j : Int) b σ = some (v, σ) ∧ f_M_opIs_84_p27 (j : Int) b τ = some (v, τ) := by
  have hm := hG.le
  have e11 := hG.cm
  have g : (0 : Int) ≤ (j : Int) ∧ (j : Int) < 20 := by omega
  have kd := hG.kd hj
  have hj' : (j : Int) < σ 4 11 := by omega
  have e10 : pw (b - 10) = b - 10 := pw_id (by omega) (by omega)
  have hb0 : 0 ≤ b - 10 := by omega
  obtain ⟨l1, l2⟩ := hL
  unfold f_X_opIs_0_p26 f_M_opIs_84_p27
  rw [if_neg (show ¬ b < 10 by omega), if_pos hb, e10]
  generalize b - 10 = q at hb0
  unfold f_X_giverOf_0
  simp only [if_pos g, Int.toNat_natCast, x_orA, Option.bind_some, kd.1]
  by_cases k2 : σ 5 j = 2
  · rw [if_pos k2, if_pos k2]
    have sz := hG.sz hj (by omega)
    simp only [sz.1]
    by_cases z : q < σ 7 j
    · rw [if_pos z, if_pos z, ← l1]
      by_cases y : σ 0 8 = 0
      · rw [if_pos y, if_pos y]
        exact ⟨_, rfl, rfl⟩
      · obtain ⟨n, rfl⟩ : ∃ n : Nat, q = (n : Int) := ⟨q.toNat, by omega⟩
        have hn : n < 4 := by omega
        obtain ⟨i1, i2, i3⟩ := ix4 (by omega : j < 20) hn
        have c5 := ((l2 y).2.2 j hj').2.2.2.2 k2 n z
        rw [if_neg y, if_neg y, i1, i2, if_pos i3, if_pos i3, Int.toNat_natCast, ← c5]
        by_cases x : σ 77 (4 * j + n) = -1
        · rw [if_pos x, if_pos x]
          exact ⟨_, rfl, rfl⟩
        · rw [if_neg x, if_neg x, if_pos i3]
          exact ⟨_, rfl, rfl⟩
    · rw [if_neg z, if_neg z]
      exact ⟨_, rfl, rfl⟩
  · rw [if_neg k2, if_neg k2]
    exact ⟨_, rfl, rfl⟩
theorem op_ls (a b : Int) (hb2 : b ≤ 2147483647) (h : WR N σ τ) : ∃ v, f_X_opIs_0 a b σ = some (v, σ) ∧ f_M_opIs_84 a b τ = some (v, τ) := by
  obtain ⟨a1, a2, a3, a4, a5, a6, a7, a8⟩ := h
  obtain ⟨m, rec, hG⟩ := a2.pg
  have hm := hG.le
  unfold f_X_opIs_0 f_M_opIs_84
  rw [x_isOp hG.cm, m_isOp hm hG.mm, Option.bind_some, Option.bind_some]
  dsimp only
  by_cases g : 0 ≤ a ∧ a < (m : Int)
  · obtain ⟨j, rfl⟩ : ∃ j : Nat, a = (j : Int) := ⟨a.toNat, by omega⟩
    have hj : j < m := by omega
    rw [if_pos g, if_neg (show ¬ (1 : Int) = 0 by decide), if_neg (show ¬ (1 : Int) = 0 by decide), m_in, Option.bind_some]
    dsimp only
    by_cases z0 : b < 0
    · rw [if_pos z0, if_neg (show ¬ (0 ≤ b ∧ b ≤ 5) by omega), if_pos rfl, if_neg (show ¬ 10 ≤ b by omega)]
      exact ⟨_, rfl, rfl⟩
    rw [if_neg z0]
    by_cases z5 : b ≤ 5
    · rw [if_pos z5, if_pos (show 0 ≤ b ∧ b ≤ 5 by omega), if_neg (show ¬ (1 : Int) = 0 by decide)]
      obtain ⟨v, q1, q2⟩ := op_told hG a4 a5 hj (b := b) (by omega)
      refine ⟨v, q1, ?_⟩
      unfold f_M_opIs_84_p27
      rw [if_neg (show ¬ 10 ≤ b by omega), q2, Option.bind_some]
    rw [if_neg z5, if_neg (show ¬ (0 ≤ b ∧ b ≤ 5) by omega), if_pos rfl]
    by_cases z10 : 10 ≤ b
    · rw [if_pos z10, if_pos z10]
      exact op_giv hG a5 hj z10 hb2
    · rw [if_neg z10, if_neg z10]
      exact ⟨_, rfl, rfl⟩
  · rw [if_neg g, if_pos rfl, if_pos rfl]
    exact ⟨_, rfl, rfl⟩
theorem w_opIs (a b : Int) (hb2 : b ≤ 2147483647) (h : WR N σ τ) : ∃ v σ' τ', f_X_opIs_0 a b σ = some (v, σ') ∧ f_M_opIs_84 a b τ = some (v, τ') ∧ WS N σ τ σ' τ' := by
  obtain ⟨v, q1, q2⟩ := op_ls a b hb2 h
  exact ⟨v, σ, τ, q1, q2, h.sm⟩
/-- the op that was replayed most -/
theorem wo_lp {m : Nat} {rec : Nat → O8} (hG : PG m rec σ τ) (h74 : ∀ j, j < m → σ 74 j = τ 136 j) (a : Int) : ∀ (d i fu1 fu2 b : Nat), i + d = m → d < fu1 → d < fu2 → b < m → 1 ≤ i → ∃ b' : Nat, b' < m ∧ f_X_worst_0_p25 fu1 a (b : Int) (i : Int) σ = some (if a = 0 then (b' : Int) else σ 74 b', σ) ∧ f_M_worstOp_84_p4 fu2 (b : Int) (i : Int) τ = some ((b' : Int), τ)
  | 0, i, fu1, fu2, b, hi, h1, h2, hb, _ => by
    obtain ⟨n1, rfl⟩ : ∃ n, fu1 = n + 1 := ⟨fu1 - 1, by omega⟩
    obtain ⟨n2, rfl⟩ : ∃ n, fu2 = n + 1 := ⟨fu2 - 1, by omega⟩
    have hm := hG.le
    have e1 := hG.cm
    have e2 := hG.mm
    refine ⟨b, hb, ?_, ?_⟩
    · show (if σ 4 11 ≤ (i : Int) then _ else _) = _
      rw [if_pos (by omega)]
      by_cases z : a = 0
      · rw [if_pos z, if_pos z]
      · rw [if_neg z, if_neg z, if_pos (by omega), Int.toNat_natCast]
    · show (if τ 84 2 ≤ (i : Int) then _ else _) = _
      rw [if_pos (by omega)]
  | d + 1, i, fu1, fu2, b, hi, h1, h2, hb, h0 => by
    obtain ⟨n1, rfl⟩ : ∃ n, fu1 = n + 1 := ⟨fu1 - 1, by omega⟩
    obtain ⟨n2, rfl⟩ : ∃ n, fu2 = n + 1 := ⟨fu2 - 1, by omega⟩
    have hm := hG.le
    have e1 := hG.cm
    have e2 := hG.mm
    have g : (0 : Int) ≤ (i : Int) ∧ (i : Int) < 20 := by omega
    have gb : (0 : Int) ≤ (b : Int) ∧ (b : Int) < 20 := by omega
    have hi' : i < m := by omega
    have k1 : (i + 1) + d = m := by omega
    have k2 : d < n1 := by omega
    have k3 : d < n2 := by omega
    have i20 : i < 20 := by omega
    have nX : ¬ σ 4 11 ≤ (i : Int) := by omega
    have nM : ¬ τ 84 2 ≤ (i : Int) := by omega
    have j1 : 1 ≤ i + 1 := by omega
    have eX : f_X_worst_0_p25 (n1 + 1) a (b : Int) (i : Int) σ = (if σ 74 i ≤ σ 74 b then f_X_worst_0_p25 n1 a (b : Int) ((i + 1 : Nat) : Int) σ else f_X_worst_0_p25 n1 a (i : Int) ((i + 1 : Nat) : Int) σ) := by
      show (if σ 4 11 ≤ (i : Int) then _ else _) = _
      rw [if_neg nX, if_pos g, if_pos gb, Int.toNat_natCast, Int.toNat_natCast, pw_s i20 (by decide)]
    have eM : f_M_worstOp_84_p4 (n2 + 1) (b : Int) (i : Int) τ = (if σ 74 i ≤ σ 74 b then f_M_worstOp_84_p4 n2 (b : Int) ((i + 1 : Nat) : Int) τ else f_M_worstOp_84_p4 n2 (i : Int) ((i + 1 : Nat) : Int) τ) := by
      show (if τ 84 2 ≤ (i : Int) then _ else _) = _
      rw [if_neg nM, if_pos g, if_pos gb, Int.toNat_natCast, Int.toNat_natCast, pw_s i20 (by decide), ← h74 i hi', ← h74 b hb]
    rw [eX, eM]
    by_cases z : σ 74 i ≤ σ 74 b
    · rw [if_pos z, if_pos z]
      exact wo_lp hG h74 a d (i + 1) n1 n2 b k1 k2 k3 hb j1
    · rw [if_neg z, if_neg z]
      exact wo_lp hG h74 a d (i + 1) n1 n2 i k1 k2 k3 hi' j1
theorem w_worst (a : Int) (h : WR N σ τ) : ∃ v σ' τ', f_X_worst_0 a σ = some (v, σ') ∧ f_M_worst_84 a τ = some (v, τ') ∧ WS N σ τ σ' τ' := by
  obtain ⟨b1, b2⟩ := h.2.2.2.2.1
  obtain ⟨m, rec, hG⟩ := h.2.1.pg
  have hm := hG.le
  have e11 := hG.cm
  unfold f_X_worst_0 f_M_worst_84
  rw [m_in, Option.bind_some]
  dsimp only
  by_cases g : 0 ≤ a ∧ a ≤ 1
  · rw [if_neg (show ¬ a < 0 by omega), if_pos g.2, if_pos g, if_neg (show ¬ (1 : Int) = 0 by decide)]
    simp only [← b1]
    by_cases z : σ 0 8 = 0
    · rw [if_pos z, if_pos z]
      exact ⟨_, _, _, rfl, rfl, h.sm⟩
    · rw [if_neg z, if_neg z]
      obtain ⟨c0, -, c2⟩ := b2 z
      have h74 : ∀ j, j < m → σ 74 j = τ 136 j := fun j hj => (c2 j (by omega)).2.1
      obtain ⟨b', q0, q1, q2⟩ := wo_lp hG h74 a (m - 1) 1 4096 4096 0 (by omega) (by omega) (by omega) (by omega) (Nat.le_refl 1)
      have q1 : f_X_worst_0_p25 4096 a 0 1 σ = some (if a = 0 then (b' : Int) else σ 74 b', σ) := q1
      have q2 : f_M_worstOp_84 τ = some ((b' : Int), τ) := q2
      rw [q1, q2, Option.bind_some]
      by_cases y : a = 0
      · rw [if_pos y, if_pos y]
        exact ⟨_, _, _, rfl, rfl, h.sm⟩
      · rw [if_neg y, if_neg y, Option.bind_some]
        dsimp only
        rw [if_pos (by omega), Int.toNat_natCast, ← h74 b' q0]
        exact ⟨_, _, _, rfl, rfl, h.sm⟩
  · rw [if_neg g, if_pos rfl]
    by_cases z : a < 0
    · rw [if_pos z]
      exact ⟨_, _, _, rfl, rfl, h.sm⟩
    · rw [if_neg z, if_neg (by omega)]
      exact ⟨_, _, _, rfl, rfl, h.sm⟩
end H3
section H4
variable {N : Nat} {σ τ σ' τ' : pS}
theorem t0 : (0 : Int).toNat = 0 := rfl
theorem t1 : (1 : Int).toNat = 1 := rfl
theorem pz0 {b : Int} (h0 : 0 ≤ b) (h1 : b ≤ 8) : pw (pw (8 * 0) + b) = b := by
  rw [show pw (8 * 0) = 0 by decide, pw_id (by omega) (by omega)]
  omega
theorem pz1 {b : Int} (h0 : 0 ≤ b) (h1 : b ≤ 8) : pw (pw (8 * 1) + b) = 8 + b := by
  rw [show pw (8 * 1) = 8 by decide, pw_id (by omega) (by omega)]
theorem wd_core {m : Nat} {rec : Nat → O8} (hG : PG m rec σ τ) (hS : SRx σ τ) (hL : LSR σ τ) {op c : Int} (h0 : 0 ≤ op) (h1 : op < (m : Int)) (hc : 0 ≤ c ∧ c ≤ 6) : ∃ v, (if c = 6 then some (op, σ) else (f_X_opIs_0 op c σ).bind fun q => some (q.1, q.2)) = some (v, σ) ∧ (if c = 6 then some (op, τ) else (f_M_toldOfOp_84 op c τ).bind fun q => some (q.1, q.2)) = some (v, τ) := by
  by_cases z : c = 6
  · rw [if_pos z, if_pos z]
    exact ⟨_, rfl, rfl⟩
  · obtain ⟨j, rfl⟩ : ∃ j : Nat, op = (j : Int) := ⟨op.toNat, by omega⟩
    obtain ⟨v, q1, q2⟩ := op_told hG hS hL (j := j) (by omega) (b := c) (by omega)
    refine ⟨v, ?_, ?_⟩
    · unfold f_X_opIs_0
      rw [if_neg z, x_isOp hG.cm, if_pos ⟨h0, h1⟩, Option.bind_some]
      dsimp only
      rw [if_neg (show ¬ (1 : Int) = 0 by decide), if_neg (show ¬ c < 0 by omega), if_pos (show c ≤ 5 by omega), q1, Option.bind_some]
    · rw [if_neg z, q2, Option.bind_some]
theorem w_watched (a b c : Int) (h : WR N σ τ) : ∃ v σ' τ', f_X_watched_0 a b c σ = some (v, σ') ∧ f_M_watched_84 a b c τ = some (v, τ') ∧ WS N σ τ σ' τ' := by
  obtain ⟨m, rec, hG⟩ := h.2.1.pg
  have hm := hG.le
  have e11 := hG.cm
  obtain ⟨w0, w1, w2, w3, w4⟩ := h.2.2.2.2.2.2.1
  unfold f_X_watched_0 f_M_watched_84
  rw [m_in, Option.bind_some]
  dsimp only
  by_cases ga : 0 ≤ a ∧ a ≤ 1
  · have ga2 : 0 ≤ a ∧ a < 2 := by omega
    rw [if_neg (show ¬ a < 0 by omega), if_neg (show ¬ 2 ≤ a by omega), if_pos ga, if_neg (show ¬ (1 : Int) = 0 by decide)]
    by_cases zb : b < 0
    · rw [if_pos zb, if_pos zb]
      exact ⟨_, _, _, rfl, rfl, h.sm⟩
    rw [if_neg zb, if_neg zb, m_in, Option.bind_some]
    dsimp only
    by_cases gc : 0 ≤ c ∧ c ≤ 6
    · rw [if_neg (show ¬ c < 0 by omega), if_pos gc.2, if_pos ga2, if_pos gc, if_neg (show ¬ (1 : Int) = 0 by decide), if_pos ga2]
      rcases (show a = 0 ∨ a = 1 by omega) with rfl | rfl
      · simp only [t0]
        by_cases z : σ 83 0 ≤ b
        · rw [if_pos z, if_neg (show ¬ b < τ 145 0 by omega)]
          exact ⟨_, _, _, rfl, rfl, h.sm⟩
        · have wb := w2 b.toNat (by omega)
          rw [if_neg z, if_pos (show b < 8 by omega), if_pos ga2, if_pos trivial, if_pos (show 0 ≤ b ∧ b < 8 by omega), if_pos (show b < τ 145 0 by omega), pz0 (by omega) (by omega), if_pos (show 0 ≤ b ∧ b < 16 by omega), ← wb.1]
          obtain ⟨v, q1, q2⟩ := wd_core hG h.2.2.2.1 h.2.2.2.2.1 (op := σ 150 b.toNat) (by omega) (by omega) gc
          exact ⟨v, σ, τ, q1, q2, h.sm⟩
      · simp only [t1]
        by_cases z : σ 83 1 ≤ b
        · rw [if_pos z, if_neg (show ¬ b < τ 145 1 by omega)]
          exact ⟨_, _, _, rfl, rfl, h.sm⟩
        · have wb := w3 b.toNat (by omega)
          rw [if_neg z, if_pos (show b < 8 by omega), if_pos ga2, if_neg (show ¬ (1 : Int) = 0 by decide), if_pos (show 0 ≤ b ∧ b < 8 by omega), if_pos (show b < τ 145 1 by omega), pz1 (by omega) (by omega), if_pos (show 0 ≤ 8 + b ∧ 8 + b < 16 by omega), show (8 + b).toNat = 8 + b.toNat by omega, ← wb.1]
          obtain ⟨v, q1, q2⟩ := wd_core hG h.2.2.2.1 h.2.2.2.2.1 (op := σ 151 b.toNat) (by omega) (by omega) gc
          exact ⟨v, σ, τ, q1, q2, h.sm⟩
    · rw [if_neg gc, if_pos rfl]
      by_cases z : c < 0
      · rw [if_pos z]
        exact ⟨_, _, _, rfl, rfl, h.sm⟩
      · rw [if_neg z, if_neg (by omega)]
        exact ⟨_, _, _, rfl, rfl, h.sm⟩
  · rw [if_neg ga, if_pos rfl]
    by_cases z : a < 0
    · rw [if_pos z]
      exact ⟨_, _, _, rfl, rfl, h.sm⟩
    · rw [if_neg z, if_pos (by omega)]
      exact ⟨_, _, _, rfl, rfl, h.sm⟩
def wk1 (k x : Nat) : Prop := k = 82 ∨ k = 83 ∨ k = 150 ∨ k = 151
def wk2 (k x : Nat) : Prop := (k = 84 ∧ x = 4) ∨ k = 144 ∨ k = 145
theorem WR.rows (h : WR N σ τ) (f1 : FR wk1 σ σ') (f2 : FR wk2 τ τ') (g : RWR σ' τ') : WS N σ τ σ' τ' := by
  obtain ⟨a1, a2, a3, a4, a5, a6, a7, a8⟩ := h
  exact WS.of (f1) (f2) (fun k x z => by unfold wk1 at z; omega) (fun k x z => by unfold wk2 at z; omega) ⟨a1.q ((f1).eq (fun k x z => by unfold wk1 at z; unfold wcT; omega)) ((f2).eq (fun k x z => by unfold wk2 at z; unfold wmT; omega)), a2.q ((f1).eq (fun k x z => by unfold wk1 at z; unfold wcP; omega)) ((f2).eq (fun k x z => by unfold wk2 at z; unfold wmP; omega)), a3.q ((f1).eq (fun k x z => by unfold wk1 at z; unfold wcL; omega)) ((f2).eq (fun k x z => by unfold wk2 at z; unfold wmL; omega)), a4.q ((f1).eq (fun k x z => by unfold wk1 at z; unfold wcS; omega)) ((f2).eq (fun k x z => by unfold wk2 at z; unfold wmS; omega)), a5.q ((f1).eq (fun k x z => by unfold wk1 at z; unfold wcR; omega)) ((f2).eq (fun k x z => by unfold wk2 at z; unfold wmR; omega)), a6.q ((f1).eq (fun k x z => by unfold wk1 at z; unfold wcK; omega)) ((f2).eq (fun k x z => by unfold wk2 at z; unfold wmK; omega)), g, a8.q ((f2).get (by unfold wk2; omega))⟩
/-- misplaced -/
theorem wm_ls (h : WR N σ τ) : ∃ σ' τ', pU σ 82 2 (pMin 9999 (pw (σ 82 2 + 1))) = σ' ∧ (f_M_min 9999 (pw (τ 84 4 + 1)) τ).bind (fun q11 => some ((-7 : Int), pU q11.2 84 4 q11.1)) = some (-7, τ') ∧ WS N σ τ σ' τ' := by
  obtain ⟨w0, w1, w2, w3, w4⟩ := h.2.2.2.2.2.2.1
  obtain ⟨w5, w6, w7⟩ := w4
  obtain ⟨y, hy1, hy2, hy3⟩ : ∃ y : Int, pMin 9999 (pw (σ 82 2 + 1)) = y ∧ f_M_min 9999 (pw (τ 84 4 + 1)) τ = some (y, τ) ∧ 0 ≤ y ∧ y ≤ 9999 := by
    rw [← w5, pw_id (by omega) (by omega)]
    unfold f_M_min pMin
    by_cases z : σ 82 2 + 1 ≤ 9999
    · rw [if_pos z]
      refine ⟨σ 82 2 + 1, ?_, rfl, by omega, z⟩
      by_cases z2 : σ 82 2 + 1 < 9999
      · rw [if_pos z2]
      · rw [if_neg z2]; omega
    · rw [if_neg z, if_neg (by omega)]
      exact ⟨9999, rfl, rfl, by omega, by omega⟩
  have f1 : FR wk1 σ (pU σ 82 2 y) := FR.u (Or.inl rfl)
  have f2 : FR wk2 τ (pU τ 84 4 y) := FR.u (Or.inl ⟨rfl, rfl⟩)
  refine ⟨pU σ 82 2 y, pU τ 84 4 y, by rw [hy1], by rw [hy2]; rfl, h.rows f1 f2 ⟨?_, ?_, fun i hi => ?_, fun i hi => ?_, ?_⟩⟩
  · rw [pU_c _ _ _ _ (by decide), pU_c _ _ _ _ (by decide)]; exact w0
  · rw [pU_c _ _ _ _ (by decide), pU_c _ _ _ _ (by decide)]; exact w1
  · rw [pU_c _ _ _ _ (by decide)] at hi
    rw [pU_c _ _ _ _ (show 150 ≠ 82 by decide), pU_c _ _ _ _ (show 144 ≠ 84 by decide), pU_c _ _ _ _ (show 4 ≠ 82 by decide)]; exact w2 i hi
  · rw [pU_c _ _ _ _ (by decide)] at hi
    rw [pU_c _ _ _ _ (show 151 ≠ 82 by decide), pU_c _ _ _ _ (show 144 ≠ 84 by decide), pU_c _ _ _ _ (show 4 ≠ 82 by decide)]; exact w3 i hi
  · rw [pU_s, pU_s]; exact ⟨rfl, hy3⟩
theorem w_watch (a b : Int) (h : WR N σ τ) : ∃ v w σ' τ', f_X_watch_0 a b σ = some (v, σ') ∧ f_M_watch_84 a b τ = some (w, τ') ∧ WS N σ τ σ' τ' := by
  obtain ⟨m, rec, hG⟩ := h.2.1.pg
  have hm := hG.le
  have e11 := hG.cm
  have hR := h.2.2.2.2.2.2.1
  obtain ⟨w0, w1, w2, w3, w4⟩ := hR
  unfold f_X_watch_0 f_M_watch_84
  rw [m_in, Option.bind_some]
  dsimp only
  by_cases ga : 0 ≤ a ∧ a ≤ 1
  · have ga2 : 0 ≤ a ∧ a < 2 := by omega
    rw [if_neg (show ¬ a < 0 by omega), if_pos ga2.2, if_pos ga2, if_pos ga, if_neg (show ¬ (1 : Int) = 0 by decide), m_isOp hm hG.mm, Option.bind_some, x_isOp hG.cm, Option.bind_some]
    dsimp only
    by_cases go : 0 ≤ b ∧ b < (m : Int)
    · obtain ⟨j, rfl⟩ : ∃ j : Nat, b = (j : Int) := ⟨b.toNat, by omega⟩
      have g20 : (0 : Int) ≤ (j : Int) ∧ (j : Int) < 20 := by omega
      have hj : j < m := by omega
      have kd := hG.kd hj
      rw [if_pos go, if_neg (show ¬ (1 : Int) = 0 by decide), if_pos g20, if_neg (show ¬ (1 : Int) = 0 by decide), if_pos ga2, if_pos g20]
      obtain ⟨σm, τm, q1, q2, q3⟩ := wm_ls h
      unfold f_X_watch_0_p59
      rw [q1, q2, Int.toNat_natCast]
      simp only [kd.1]
      rcases (show a = 0 ∨ a = 1 by omega) with rfl | rfl
      · simp only [t0]
        rw [if_pos trivial]
        by_cases z : σ 83 0 < 8
        · have n8 : ¬ τ 145 0 = 8 := by omega
          rw [if_pos z, if_neg n8]
          by_cases k : σ 5 j = 2
          · have ep : pw (σ 83 0 + 1) = σ 83 0 + 1 := pw_id (by omega) (by omega)
            have k' : σ 5 j = pw (2 + 0) := k.trans (by decide)
            have p0 := pz0 (b := τ 145 0) (by omega) (by omega)
            rw [if_pos k, if_pos k', p0, if_pos (show 0 ≤ τ 145 0 ∧ τ 145 0 < 16 by omega), if_pos ga2, ← w0.1, ep]
            unfold f_Rows_put_82
            simp only [t0, if_pos ga2, if_neg (show ¬ 8 ≤ σ 83 0 by omega), if_true, if_pos (show 0 ≤ σ 83 0 ∧ σ 83 0 < 8 by omega), ep, Option.bind_some]
            have f1 : FR wk1 σ (pU (pU σ 150 (σ 83 0).toNat (j : Int)) 83 0 (σ 83 0 + 1)) := (FR.u (by unfold wk1; omega)).tr (FR.u (by unfold wk1; omega))
            have f2 : FR wk2 τ (pU (pU τ 144 (σ 83 0).toNat (j : Int)) 145 0 (σ 83 0 + 1)) := (FR.u (by unfold wk2; omega)).tr (FR.u (by unfold wk2; omega))
            refine ⟨_, _, _, _, rfl, rfl, h.rows f1 f2 ⟨?_, ?_, fun i hi => ?_, fun i hi => ?_, ?_⟩⟩
            · rw [pU_s, pU_s]; exact ⟨rfl, by omega, by omega⟩
            · rw [pU_i _ _ _ _ (by decide), pU_c _ _ _ _ (by decide), pU_i _ _ _ _ (by decide), pU_c _ _ _ _ (by decide)]; exact w1
            · rw [pU_s] at hi
              rw [pU_c _ _ _ _ (show 150 ≠ 83 by decide), pU_c _ _ _ _ (show 144 ≠ 145 by decide), f1.get (k := 4) (by unfold wk1; omega)]
              by_cases y : i = (σ 83 0).toNat
              · rw [y, pU_s, pU_s]; exact ⟨rfl, by omega, by omega⟩
              · rw [pU_i _ _ _ _ y, pU_i _ _ _ _ y]; exact w2 i (by omega)
            · rw [pU_i _ _ _ _ (by decide), pU_c _ _ _ _ (by decide)] at hi
              have wi := w3 i hi
              rw [pU_c _ _ _ _ (show 151 ≠ 83 by decide), pU_c _ _ _ _ (show 151 ≠ 150 by decide), pU_c _ _ _ _ (show 144 ≠ 145 by decide), pU_i _ _ _ _ (show 8 + i ≠ (σ 83 0).toNat by omega), f1.get (k := 4) (by unfold wk1; omega)]
              exact wi
            · rw [pU_c _ _ _ _ (show 82 ≠ 83 by decide), pU_c _ _ _ _ (show 82 ≠ 150 by decide), pU_c _ _ _ _ (show 84 ≠ 145 by decide), pU_c _ _ _ _ (show 84 ≠ 144 by decide)]
              exact w4
          · have k' : ¬ σ 5 j = pw (2 + 0) := fun z => k (z.trans (by decide))
            rw [if_neg k, if_neg k']
            exact ⟨_, _, _, _, rfl, rfl, q3⟩
        · rw [if_neg z, if_pos (show τ 145 0 = 8 by omega)]
          exact ⟨_, _, _, _, rfl, rfl, h.sm⟩
      · simp only [t1]
        rw [if_neg (show ¬ (1 : Int) = 0 by decide)]
        by_cases z : σ 83 1 < 8
        · have n8 : ¬ τ 145 1 = 8 := by omega
          rw [if_pos z, if_neg n8]
          by_cases k : σ 5 j = 3
          · have ep : pw (σ 83 1 + 1) = σ 83 1 + 1 := pw_id (by omega) (by omega)
            have k' : σ 5 j = pw (2 + 1) := k.trans (by decide)
            have p0 := pz1 (b := τ 145 1) (by omega) (by omega)
            rw [if_pos k, if_pos k', p0, if_pos (show 0 ≤ 8 + τ 145 1 ∧ 8 + τ 145 1 < 16 by omega), if_pos ga2, ← w1.1, ep, show (8 + σ 83 1).toNat = 8 + (σ 83 1).toNat by omega]
            unfold f_Rows_put_82
            simp only [t1, if_pos ga2, if_neg (show ¬ 8 ≤ σ 83 1 by omega), if_neg (show ¬ (1 : Int) = 0 by decide), if_pos (show 0 ≤ σ 83 1 ∧ σ 83 1 < 8 by omega), ep, Option.bind_some]
            have f1 : FR wk1 σ (pU (pU σ 151 (σ 83 1).toNat (j : Int)) 83 1 (σ 83 1 + 1)) := (FR.u (by unfold wk1; omega)).tr (FR.u (by unfold wk1; omega))
            have f2 : FR wk2 τ (pU (pU τ 144 (8 + (σ 83 1).toNat) (j : Int)) 145 1 (σ 83 1 + 1)) := (FR.u (by unfold wk2; omega)).tr (FR.u (by unfold wk2; omega))
            refine ⟨_, _, _, _, rfl, rfl, h.rows f1 f2 ⟨?_, ?_, fun i hi => ?_, fun i hi => ?_, ?_⟩⟩
            · rw [pU_i _ _ _ _ (by decide), pU_c _ _ _ _ (by decide), pU_i _ _ _ _ (by decide), pU_c _ _ _ _ (by decide)]; exact w0
            · rw [pU_s, pU_s]; exact ⟨rfl, by omega, by omega⟩
            · rw [pU_i _ _ _ _ (by decide), pU_c _ _ _ _ (by decide)] at hi
              have wi := w2 i hi
              rw [pU_c _ _ _ _ (show 150 ≠ 83 by decide), pU_c _ _ _ _ (show 150 ≠ 151 by decide), pU_c _ _ _ _ (show 144 ≠ 145 by decide), pU_i _ _ _ _ (show i ≠ 8 + (σ 83 1).toNat by omega), f1.get (k := 4) (by unfold wk1; omega)]
              exact wi
            · rw [pU_s] at hi
              rw [pU_c _ _ _ _ (show 151 ≠ 83 by decide), pU_c _ _ _ _ (show 144 ≠ 145 by decide), f1.get (k := 4) (by unfold wk1; omega)]
              by_cases y : i = (σ 83 1).toNat
              · rw [y, pU_s, pU_s]; exact ⟨rfl, by omega, by omega⟩
              · rw [pU_i _ _ _ _ y, pU_i _ _ _ _ (show 8 + i ≠ 8 + (σ 83 1).toNat by omega)]; exact w3 i (by omega)
            · rw [pU_c _ _ _ _ (show 82 ≠ 83 by decide), pU_c _ _ _ _ (show 82 ≠ 151 by decide), pU_c _ _ _ _ (show 84 ≠ 145 by decide), pU_c _ _ _ _ (show 84 ≠ 144 by decide)]
              exact w4
          · have k' : ¬ σ 5 j = pw (2 + 1) := fun z => k (z.trans (by decide))
            rw [if_neg k, if_neg k']
            exact ⟨_, _, _, _, rfl, rfl, q3⟩
        · rw [if_neg z, if_pos (show τ 145 1 = 8 by omega)]
          exact ⟨_, _, _, _, rfl, rfl, h.sm⟩
    · rw [if_neg go, if_pos rfl, if_pos rfl]
      by_cases z : σ 83 a.toNat < 8
      · rw [if_pos z]
        exact ⟨_, _, _, _, rfl, rfl, h.sm⟩
      · rw [if_neg z]
        exact ⟨_, _, _, _, rfl, rfl, h.sm⟩
  · rw [if_neg ga, if_pos rfl]
    by_cases z : a < 0
    · rw [if_pos z]
      exact ⟨_, _, _, _, rfl, rfl, h.sm⟩
    · rw [if_neg z, if_neg (by omega)]
      exact ⟨_, _, _, _, rfl, rfl, h.sm⟩
end H4
section H5
variable {N : Nat} {σ τ σ' τ' : pS}
/-- how many of the first k are not -1 -/
def cW (f : Nat → Int) : Nat → Nat
  | 0 => 0
  | k + 1 => if f k = -1 then cW f k else cW f k + 1
theorem cW_le (f : Nat → Int) : ∀ k, cW f k ≤ k
  | 0 => Nat.le_refl 0
  | k + 1 => by
    have := cW_le f k
    unfold cW
    split <;> omega
theorem cW_cg {f g : Nat → Int} : ∀ k, (∀ j, j < k → f j = g j) → cW f k = cW g k
  | 0, _ => rfl
  | k + 1, h => by
    unfold cW
    rw [h k (by omega), cW_cg k (fun j hj => h j (by omega))]
theorem cW_tl {f : Nat → Int} {m : Nat} : ∀ d, (∀ j, m ≤ j → j < m + d → f j = -1) → cW f (m + d) = cW f m
  | 0, _ => rfl
  | d + 1, h => by
    show (if f (m + d) = -1 then cW f (m + d) else cW f (m + d) + 1) = _
    rw [if_pos (h (m + d) (by omega) (by omega))]
    exact cW_tl d (fun j h1 h2 => h j h1 (by omega))
theorem ws_c : ∀ (d i fu : Nat), i + d = 20 → d < fu → f_State_withSet_24_p4 fu ((cW (σ 27) i : Nat) : Int) (i : Int) σ = some (((cW (σ 27) 20 : Nat) : Int), σ)
  | 0, i, fu, hi, hf => by
    obtain ⟨n, rfl⟩ : ∃ n, fu = n + 1 := ⟨fu - 1, by omega⟩
    obtain rfl : i = 20 := by omega
    show (if (20 : Int) ≤ ((20 : Nat) : Int) then _ else _) = _
    rw [if_pos (by decide)]
  | d + 1, i, fu, hi, hf => by
    obtain ⟨n, rfl⟩ : ∃ n, fu = n + 1 := ⟨fu - 1, by omega⟩
    have ih := ws_c d (i + 1) n (by omega) (by omega)
    have g : (0 : Int) ≤ (i : Int) ∧ (i : Int) < 20 := by omega
    have hl := cW_le (σ 27) i
    have hc : cW (σ 27) i < 20 := by omega
    have i20 : i < 20 := by omega
    show (if (20 : Int) ≤ (i : Int) then _ else _) = _
    rw [if_neg (by omega), if_pos g, Int.toNat_natCast, pw_s i20 (by decide), pw_s hc (by decide)]
    by_cases z : σ 27 i = -1
    · rw [if_pos z]
      have e : cW (σ 27) (i + 1) = cW (σ 27) i := if_pos z
      rw [e] at ih
      exact ih
    · rw [if_neg z]
      have e : cW (σ 27) (i + 1) = cW (σ 27) i + 1 := if_neg z
      rw [e] at ih
      exact ih
theorem ws_m {m : Nat} (hm : m ≤ 20) (e2 : τ 84 2 = (m : Int)) : ∀ (d i fu : Nat), i + d = m → d < fu → f_M_withSet_84_p4 fu ((cW (τ 87) i : Nat) : Int) (i : Int) τ = some (((cW (τ 87) m : Nat) : Int), τ)
  | 0, i, fu, hi, hf => by
    obtain ⟨n, rfl⟩ : ∃ n, fu = n + 1 := ⟨fu - 1, by omega⟩
    obtain rfl : i = m := by omega
    show (if τ 84 2 ≤ (i : Int) then _ else _) = _
    rw [if_pos (by omega)]
  | d + 1, i, fu, hi, hf => by
    obtain ⟨n, rfl⟩ : ∃ n, fu = n + 1 := ⟨fu - 1, by omega⟩
    have ih := ws_m hm e2 d (i + 1) n (by omega) (by omega)
    have g : (0 : Int) ≤ (i : Int) ∧ (i : Int) < 20 := by omega
    have hl := cW_le (τ 87) i
    have hc : cW (τ 87) i < 20 := by omega
    have i20 : i < 20 := by omega
    show (if τ 84 2 ≤ (i : Int) then _ else _) = _
    rw [if_neg (by omega), if_pos g, Int.toNat_natCast, pw_s i20 (by decide), pw_s hc (by decide)]
    by_cases z : τ 87 i = -1
    · rw [if_pos z]
      have e : cW (τ 87) (i + 1) = cW (τ 87) i := if_pos z
      rw [e] at ih
      exact ih
    · rw [if_neg z]
      have e : cW (τ 87) (i + 1) = cW (τ 87) i + 1 := if_neg z
      rw [e] at ih
      exact ih
theorem ws_ls {m : Nat} {rec : Nat → O8} (hG : PG m rec σ τ) (hS : SRx σ τ) : ∃ v, f_State_withSet_24 σ = some (v, σ) ∧ f_M_withSet_84 τ = some (v, τ) := by
  have hm := hG.le
  have e11 := hG.cm
  refine ⟨((cW (σ 27) 20 : Nat) : Int), ws_c 20 0 4096 (by omega) (by omega), ?_⟩
  have h1 : cW (σ 27) 20 = cW (σ 27) m := by
    have := cW_tl (f := σ 27) (m := m) (20 - m) (fun j h1 h2 => (hS.2.2.2.1 j (by omega)).2.2 (by omega))
    rw [show m + (20 - m) = 20 by omega] at this
    exact this
  have h2 : cW (σ 27) m = cW (τ 87) m := cW_cg m (fun j hj => hS.2.2.1 j (by omega))
  rw [h1, h2]
  exact ws_m hm hG.mm m 0 4096 (by omega) (by omega)
/-- sets go in the reference -/
theorem fg_m {m : Nat} (hm : m ≤ 20) (v : Int) : ∀ (d i fu : Nat) (τ : pS), i + d = m → d < fu → τ 84 2 = (m : Int) → ∃ τ', f_M_forget_84_p7 fu v (i : Int) τ = some (v, τ') ∧ FR (Pk 87) τ τ' ∧ (∀ j, i ≤ j → j < m → τ' 87 j = -1) ∧ ∀ j, j < i → τ' 87 j = τ 87 j
  | 0, i, fu, τ, hi, hf, e2 => by
    obtain ⟨n, rfl⟩ : ∃ n, fu = n + 1 := ⟨fu - 1, by omega⟩
    refine ⟨τ, ?_, FR.rf _ _, fun j h1 h2 => by omega, fun j _ => rfl⟩
    show (if τ 84 2 ≤ (i : Int) then _ else _) = _
    rw [if_pos (by omega)]
  | d + 1, i, fu, τ, hi, hf, e2 => by
    obtain ⟨n, rfl⟩ : ∃ n, fu = n + 1 := ⟨fu - 1, by omega⟩
    have g : (0 : Int) ≤ (i : Int) ∧ (i : Int) < 20 := by omega
    have i20 : i < 20 := by omega
    obtain ⟨τ', q1, q2, q3, q4⟩ := fg_m hm v d (i + 1) n (pU τ 87 i (-1)) (by omega) (by omega) ((pU_c _ _ _ _ (by decide)).trans e2)
    refine ⟨τ', ?_, (FR.u (P := Pk 87) rfl).tr q2, fun j h1 h2 => ?_, fun j h1 => ?_⟩
    · show (if τ 84 2 ≤ (i : Int) then _ else _) = _
      rw [if_neg (by omega), if_pos g, Int.toNat_natCast, pw_s i20 (by decide)]
      exact q1
    · by_cases z : j = i
      · rw [z, q4 i (by omega), pU_s]
      · exact q3 j (by omega) h2
    · rw [q4 j (by omega), pU_i _ _ _ _ (by omega)]
theorem w_forget (h : WR N σ τ) : ∃ v σ' τ', f_X_forget_0 σ = some (v, σ') ∧ f_M_forget_84 τ = some (v, τ') ∧ WS N σ τ σ' τ' := by
  obtain ⟨m, rec, hG⟩ := h.2.1.pg
  have hm := hG.le
  have e11 := hG.cm
  obtain ⟨v, q1, q2⟩ := ws_ls hG h.2.2.2.1
  obtain ⟨τ1, r1, f2, r3, -⟩ := fg_m hm v m 0 4096 τ (by omega) (by omega) hG.mm
  obtain ⟨a1, a2, a3, a4, a5, a6, a7, a8⟩ := h
  have f1 : FR (Pk 27) σ (pFl σ 27 20 0 (-1)) := FR.fl (fun x _ => rfl)
  refine ⟨v, pFl σ 27 20 0 (-1), τ1, ?_, ?_, WS.of (f1) (f2) (fun k x z => by unfold Pk at z; omega) (fun k x z => by unfold Pk at z; omega) ⟨a1.q ((f1).eq (fun k x z => by unfold Pk at z; unfold wcT; omega)) ((f2).eq (fun k x z => by unfold Pk at z; unfold wmT; omega)), a2.q ((f1).eq (fun k x z => by unfold Pk at z; unfold wcP; omega)) ((f2).eq (fun k x z => by unfold Pk at z; unfold wmP; omega)), a3.q ((f1).eq (fun k x z => by unfold Pk at z; unfold wcL; omega)) ((f2).eq (fun k x z => by unfold Pk at z; unfold wmL; omega)), ?_, a5.q ((f1).eq (fun k x z => by unfold Pk at z; unfold wcR; omega)) ((f2).eq (fun k x z => by unfold Pk at z; unfold wmR; omega)), a6.q ((f1).eq (fun k x z => by unfold Pk at z; unfold wcK; omega)) ((f2).eq (fun k x z => by unfold Pk at z; unfold wmK; omega)), a7.q ((f1).eq (fun k x z => by unfold Pk at z; unfold wcW; omega)) ((f2).eq (fun k x z => by unfold Pk at z; unfold wmW; omega)), a8.q ((f2).get (by unfold Pk; omega))⟩⟩
  · unfold f_X_forget_0 f_State_dropSets_24
    rw [q1, Option.bind_some]
    dsimp only
    rw [fill_27, Option.bind_some, Option.bind_some]
  · unfold f_M_forget_84
    rw [q2, Option.bind_some]
    exact r1
  · obtain ⟨b1, b2, b3, b4, b5, b6, b7⟩ := a4
    refine ⟨fun r hr => ?_, fun x hx => ?_, fun j hj => ?_, fun j hj => ?_, ?_, ?_, ?_⟩
    · rw [f1.get (by unfold Pk; omega), f2.get (by unfold Pk; omega)]; exact b1 r hr
    · rw [f1.get (by unfold Pk; omega), f2.get (by unfold Pk; omega)]; exact b2 x hx
    · rw [f1.get (by unfold Pk; omega)] at hj
      rw [r3 j (by omega) (by omega)]
      exact if_pos ⟨rfl, by omega, by omega⟩
    · have e : pFl σ 27 20 0 (-1) 27 j = -1 := if_pos ⟨rfl, by omega, hj⟩
      rw [e]
      exact ⟨by decide, by decide, fun _ => rfl⟩
    · rw [f1.get (by unfold Pk; omega), f2.get (by unfold Pk; omega)]; exact b5
    · rw [f1.get (by unfold Pk; omega), f2.get (by unfold Pk; omega)]; exact b6
    · rw [f1.get (by unfold Pk; omega), f2.get (by unfold Pk; omega)]; exact b7
theorem ok_lp {m : Nat} {rec : Nat → O8} (hG : PG m rec σ τ) (a : Int) : ∀ (d i fu1 fu2 c : Nat), i + d = m → d < fu1 → d < fu2 → c ≤ i → ∃ v, f_Prog_ofKind_4_p4 fu1 a (c : Int) (i : Int) σ = some (v, σ) ∧ f_M_ofKind_84_p4 fu2 a (c : Int) (i : Int) τ = some (v, τ)
  | 0, i, fu1, fu2, c, hi, h1, h2, hc => by
    obtain ⟨n1, rfl⟩ : ∃ n, fu1 = n + 1 := ⟨fu1 - 1, by omega⟩
    obtain ⟨n2, rfl⟩ : ∃ n, fu2 = n + 1 := ⟨fu2 - 1, by omega⟩
    have e1 := hG.cm
    have e2 := hG.mm
    refine ⟨(c : Int), ?_, ?_⟩
    · show (if σ 4 11 ≤ (i : Int) then _ else _) = _
      rw [if_pos (by omega)]
    · show (if τ 84 2 ≤ (i : Int) then _ else _) = _
      rw [if_pos (by omega)]
  | d + 1, i, fu1, fu2, c, hi, h1, h2, hc => by
    obtain ⟨n1, rfl⟩ : ∃ n, fu1 = n + 1 := ⟨fu1 - 1, by omega⟩
    obtain ⟨n2, rfl⟩ : ∃ n, fu2 = n + 1 := ⟨fu2 - 1, by omega⟩
    have hm := hG.le
    have e1 := hG.cm
    have e2 := hG.mm
    have g : (0 : Int) ≤ (i : Int) ∧ (i : Int) < 20 := by omega
    have i20 : i < 20 := by omega
    have c20 : c < 20 := by omega
    have nX : ¬ σ 4 11 ≤ (i : Int) := by omega
    have nM : ¬ τ 84 2 ≤ (i : Int) := by omega
    have kd := (hG.kd (show i < m by omega)).1
    obtain ⟨v0, p1, p2⟩ := ok_lp hG a d (i + 1) n1 n2 c (by omega) (by omega) (by omega) (by omega)
    obtain ⟨v1, p3, p4⟩ := ok_lp hG a d (i + 1) n1 n2 (c + 1) (by omega) (by omega) (by omega) (by omega)
    have eX : f_Prog_ofKind_4_p4 (n1 + 1) a (c : Int) (i : Int) σ = (if σ 5 i = a then some (v1, σ) else some (v0, σ)) := by
      show (if σ 4 11 ≤ (i : Int) then _ else _) = _
      rw [if_neg nX, if_pos g, Int.toNat_natCast, pw_s i20 (by decide), pw_s c20 (by decide), p1, p3]
    have eM : f_M_ofKind_84_p4 (n2 + 1) a (c : Int) (i : Int) τ = (if σ 5 i = a then some (v1, τ) else some (v0, τ)) := by
      show (if τ 84 2 ≤ (i : Int) then _ else _) = _
      rw [if_neg nM, if_pos g, Int.toNat_natCast, pw_s i20 (by decide), pw_s c20 (by decide), p2, p4, kd]
    rw [eX, eM]
    by_cases z : σ 5 i = a
    · rw [if_pos z, if_pos z]
      exact ⟨_, rfl, rfl⟩
    · rw [if_neg z, if_neg z]
      exact ⟨_, rfl, rfl⟩
theorem bt_lp (hm : ∀ x, x < 64 → σ 26 x = τ 86 x) : ∀ (d i fu1 fu2 c : Nat), i + d = 64 → d < fu1 → d < fu2 → c ≤ i → ∃ v, f_State_bytesNotZero_24_p4 fu1 (c : Int) (i : Int) σ = some (v, σ) ∧ f_M_bytesThere_84_p4 fu2 (c : Int) (i : Int) τ = some (v, τ)
  | 0, i, fu1, fu2, c, hi, h1, h2, hc => by
    obtain ⟨n1, rfl⟩ : ∃ n, fu1 = n + 1 := ⟨fu1 - 1, by omega⟩
    obtain ⟨n2, rfl⟩ : ∃ n, fu2 = n + 1 := ⟨fu2 - 1, by omega⟩
    refine ⟨(c : Int), ?_, ?_⟩
    · show (if (64 : Int) ≤ (i : Int) then _ else _) = _
      rw [if_pos (by omega)]
    · show (if (64 : Int) ≤ (i : Int) then _ else _) = _
      rw [if_pos (by omega)]
  | d + 1, i, fu1, fu2, c, hi, h1, h2, hc => by
    obtain ⟨n1, rfl⟩ : ∃ n, fu1 = n + 1 := ⟨fu1 - 1, by omega⟩
    obtain ⟨n2, rfl⟩ : ∃ n, fu2 = n + 1 := ⟨fu2 - 1, by omega⟩
    have g : (0 : Int) ≤ (i : Int) ∧ (i : Int) < 64 := by omega
    have i64 : i < 64 := by omega
    have c64 : c < 64 := by omega
    have nX : ¬ (64 : Int) ≤ (i : Int) := by omega
    obtain ⟨v0, p1, p2⟩ := bt_lp hm d (i + 1) n1 n2 c (by omega) (by omega) (by omega) (by omega)
    obtain ⟨v1, p3, p4⟩ := bt_lp hm d (i + 1) n1 n2 (c + 1) (by omega) (by omega) (by omega) (by omega)
    have eX : f_State_bytesNotZero_24_p4 (n1 + 1) (c : Int) (i : Int) σ = (if σ 26 i = 0 then some (v0, σ) else some (v1, σ)) := by
      show (if (64 : Int) ≤ (i : Int) then _ else _) = _
      rw [if_neg nX, if_pos g, Int.toNat_natCast, pw_s i64 (by decide), pw_s c64 (by decide), p1, p3]
    have eM : f_M_bytesThere_84_p4 (n2 + 1) (c : Int) (i : Int) τ = (if σ 26 i = 0 then some (v0, τ) else some (v1, τ)) := by
      show (if (64 : Int) ≤ (i : Int) then _ else _) = _
      rw [if_neg nX, if_pos g, Int.toNat_natCast, pw_s i64 (by decide), pw_s c64 (by decide), p2, p4, ← hm i i64]
    rw [eX, eM]
    by_cases z : σ 26 i = 0
    · rw [if_pos z, if_pos z]
      exact ⟨_, rfl, rfl⟩
    · rw [if_neg z, if_neg z]
      exact ⟨_, rfl, rfl⟩
theorem w_count (a : Int) (h : WR N σ τ) : ∃ v σ' τ', f_X_count_0 a σ = some (v, σ') ∧ f_M_count_84 a τ = some (v, τ') ∧ WS N σ τ σ' τ' := by
  obtain ⟨m, rec, hG⟩ := h.2.1.pg
  have e1 := hG.cm
  have e2 := hG.mm
  have hT := h.1.1
  obtain ⟨s1, s2, s3, s4, s5, s6, s7⟩ := h.2.2.2.1
  obtain ⟨w0, w1, w2, w3, w4⟩ := h.2.2.2.2.2.2.1
  obtain ⟨mL, cL, RL, hL⟩ := h.2.2.1.lw
  have l1 := hL.2.2.1
  have l2 := hL.2.2.2.1
  obtain ⟨v8, p1, p2⟩ := ws_ls hG h.2.2.2.1
  obtain ⟨v2, p3, p4⟩ := ok_lp hG 2 m 0 4096 4096 0 (by omega) (by have := hG.le; omega) (by have := hG.le; omega) (Nat.le_refl 0)
  obtain ⟨v3, p5, p6⟩ := ok_lp hG 3 m 0 4096 4096 0 (by omega) (by have := hG.le; omega) (by have := hG.le; omega) (Nat.le_refl 0)
  obtain ⟨v11, p7, p8⟩ := bt_lp s2 64 0 4096 4096 0 (by omega) (by omega) (by omega) (Nat.le_refl 0)
  have p3 : f_Prog_ofKind_4 2 σ = some (v2, σ) := p3
  have p4 : f_M_ofKind_84 2 τ = some (v2, τ) := p4
  have p5 : f_Prog_ofKind_4 3 σ = some (v3, σ) := p5
  have p6 : f_M_ofKind_84 3 τ = some (v3, τ) := p6
  have p7 : f_State_bytesNotZero_24 σ = some (v11, σ) := p7
  have p8 : f_M_bytesThere_84 τ = some (v11, τ) := p8
  have e5 : σ 1 1 = τ 84 18 := hT
  unfold f_X_count_0 f_M_count_84
  rw [p1, p2, p3, p4, p5, p6, p7, p8]
  simp only [Option.bind_some]
  by_cases z0 : a = 0
  · rw [if_pos z0, if_pos z0, ← s7.1]
    exact ⟨_, _, _, rfl, rfl, h.sm⟩
  rw [if_neg z0, if_neg z0]
  by_cases z1 : a = 1
  · rw [if_pos z1, if_pos z1, e1, e2]
    exact ⟨_, _, _, rfl, rfl, h.sm⟩
  rw [if_neg z1, if_neg z1]
  by_cases z2 : a = 2
  · rw [if_pos z2, if_pos z2]
    exact ⟨_, _, _, rfl, rfl, h.sm⟩
  rw [if_neg z2, if_neg z2]
  by_cases z3 : a = 3
  · rw [if_pos z3, if_pos z3]
    exact ⟨_, _, _, rfl, rfl, h.sm⟩
  rw [if_neg z3, if_neg z3]
  by_cases z4 : a = 4
  · rw [if_pos z4, if_pos z4, l1, l2]
    exact ⟨_, _, _, rfl, rfl, h.sm⟩
  rw [if_neg z4, if_neg z4]
  by_cases z5 : a = 5
  · rw [if_pos z5, if_pos z5, e5]
    exact ⟨_, _, _, rfl, rfl, h.sm⟩
  rw [if_neg z5, if_neg z5]
  by_cases z6 : a = 6
  · rw [if_pos z6, if_pos z6, ← s6.1]
    exact ⟨_, _, _, rfl, rfl, h.sm⟩
  rw [if_neg z6, if_neg z6]
  by_cases z7 : a = 7
  · rw [if_pos z7, if_pos z7, ← w4.1]
    exact ⟨_, _, _, rfl, rfl, h.sm⟩
  rw [if_neg z7, if_neg z7]
  by_cases z8 : a = 8
  · rw [if_pos z8, if_pos z8]
    exact ⟨_, _, _, rfl, rfl, h.sm⟩
  rw [if_neg z8, if_neg z8]
  by_cases z9 : a = 9
  · rw [if_pos z9, if_pos z9, ← s5.1]
    exact ⟨_, _, _, rfl, rfl, h.sm⟩
  rw [if_neg z9, if_neg z9]
  by_cases z10 : a = 10
  · rw [if_pos z10, if_pos z10, ← w0.1, ← w1.1]
    exact ⟨_, _, _, rfl, rfl, h.sm⟩
  rw [if_neg z10, if_neg z10]
  by_cases z11 : a = 11
  · rw [if_pos z11, if_pos z11]
    exact ⟨_, _, _, rfl, rfl, h.sm⟩
  rw [if_neg z11, if_neg z11]
  exact ⟨_, _, _, rfl, rfl, h.sm⟩
end H5
