/-- cells that each part of the relation reads -/
def wcT (k x : Nat) : Prop := (k = 1 ∧ x = 1) ∨ k = 2
def wmT (k x : Nat) : Prop := (k = 84 ∧ x = 18) ∨ k = 96
def wcP (k x : Nat) : Prop := (k = 4 ∧ (x = 11 ∨ x = 12)) ∨ (5 ≤ k ∧ k ≤ 13)
def wmP (k x : Nat) : Prop := (k = 84 ∧ x = 2) ∨ (88 ≤ k ∧ k ≤ 95)
def wcL (k x : Nat) : Prop := (k = 16 ∧ x = 7) ∨ (17 ≤ k ∧ k ≤ 21)
def wmL (k x : Nat) : Prop := (k = 84 ∧ x = 27) ∨ (103 ≤ k ∧ k ≤ 107)
def wcS (k x : Nat) : Prop := (k = 4 ∧ x = 11) ∨ (25 ≤ k ∧ k ≤ 27) ∨ (k = 24 ∧ 3 ≤ x ∧ x ≤ 5)
def wmS (k x : Nat) : Prop := (85 ≤ k ∧ k ≤ 87) ∨ (k = 84 ∧ (x = 0 ∨ x = 1 ∨ x = 3))
def wcR (k x : Nat) : Prop := (k = 0 ∧ x = 8) ∨ (72 ≤ k ∧ k ≤ 77) ∨ (k = 4 ∧ x = 11) ∨ k = 5 ∨ k = 7
def wmR (k x : Nat) : Prop := (k = 84 ∧ x = 75) ∨ (134 ≤ k ∧ k ≤ 139)
def wcK (k x : Nat) : Prop := (k = 0 ∧ (x = 9 ∨ x = 10)) ∨ (78 ≤ k ∧ k ≤ 81) ∨ (k = 4 ∧ x = 11)
def wmK (k x : Nat) : Prop := (k = 84 ∧ (x = 5 ∨ (88 ≤ x ∧ x ≤ 92))) ∨ (146 ≤ k ∧ k ≤ 148)
def wcW (k x : Nat) : Prop := k = 82 ∨ k = 83 ∨ k = 150 ∨ k = 151 ∨ (k = 4 ∧ x = 11)
def wmW (k x : Nat) : Prop := (k = 84 ∧ x = 4) ∨ k = 144 ∨ k = 145
def EQc (K : Nat → Nat → Prop) (σ σ' : pS) : Prop := ∀ k x, K k x → σ' k x = σ k x
theorem EQc.rf (K : Nat → Nat → Prop) (σ : pS) : EQc K σ σ := fun _ _ _ => rfl
theorem FR.eq {P K : Nat → Nat → Prop} {σ σ' : pS} (h : FR P σ σ') (hP : ∀ k x, P k x → ¬ K k x) : EQc K σ σ' := fun k x hk => h.get (fun z => hP k x z hk)
/-- registers, memory, sets, draws, runs -/
def SRx (σ τ : pS) : Prop := (∀ r, r < 8 → σ 25 r = τ 85 r) ∧ (∀ x, x < 64 → σ 26 x = τ 86 x) ∧ (∀ j : Nat, (j : Int) < σ 4 11 → σ 27 j = τ 87 j) ∧ (∀ j : Nat, j < 20 → -1 ≤ σ 27 j ∧ σ 27 j ≤ 15 ∧ (σ 4 11 ≤ (j : Int) → σ 27 j = -1)) ∧ (σ 24 3 = τ 84 3 ∧ 0 ≤ σ 24 3 ∧ σ 24 3 ≤ 15) ∧ (σ 24 5 = τ 84 0 ∧ 0 ≤ σ 24 5 ∧ σ 24 5 ≤ 65535) ∧ (σ 24 4 = τ 84 1 ∧ 0 ≤ σ 24 4 ∧ σ 24 4 ≤ 9999)
/-- what is told of the last run -/
def LSR (σ τ : pS) : Prop := σ 0 8 = τ 84 75 ∧ (σ 0 8 ≠ 0 → 0 < σ 4 11 ∧ (∀ x, x < 6 → σ 72 x = τ 134 x) ∧ ∀ j : Nat, (j : Int) < σ 4 11 → σ 73 j = τ 135 j ∧ σ 74 j = τ 136 j ∧ σ 75 j = τ 137 j ∧ (2 ≤ σ 5 j → σ 76 j = τ 138 j) ∧ (σ 5 j = 2 → ∀ e : Nat, (e : Int) < σ 7 j → σ 77 (4 * j + e) = τ 139 (4 * j + e)))
/-- what is kept -/
def KPR (σ τ : pS) : Prop := σ 0 9 = τ 84 88 ∧ (σ 0 9 ≠ 0 → (∀ r, r < 8 → σ 79 r = τ 146 r) ∧ (∀ x, x < 64 → σ 80 x = τ 147 x) ∧ (σ 78 4 = τ 84 91 ∧ 0 ≤ σ 78 4 ∧ σ 78 4 ≤ 9999) ∧ (σ 78 5 = τ 84 92 ∧ 0 ≤ σ 78 5 ∧ σ 78 5 ≤ 65535) ∧ ((σ 0 10 = 0 ∧ τ 84 89 = τ 84 5 ∧ (∀ j : Nat, (j : Int) < σ 4 11 → σ 81 j = τ 148 j) ∧ (∀ j : Nat, j < 20 → -1 ≤ σ 81 j ∧ σ 81 j ≤ 15 ∧ (σ 4 11 ≤ (j : Int) → σ 81 j = -1)) ∧ (σ 78 3 = τ 84 90 ∧ 0 ≤ σ 78 3 ∧ σ 78 3 ≤ 15)) ∨ (σ 0 10 ≠ 0 ∧ τ 84 89 < τ 84 5)))
/-- the watched rows -/
def RWR (σ τ : pS) : Prop := (σ 83 0 = τ 145 0 ∧ 0 ≤ σ 83 0 ∧ σ 83 0 ≤ 8) ∧ (σ 83 1 = τ 145 1 ∧ 0 ≤ σ 83 1 ∧ σ 83 1 ≤ 8) ∧ (∀ i : Nat, (i : Int) < σ 83 0 → σ 150 i = τ 144 i ∧ 0 ≤ σ 150 i ∧ σ 150 i < σ 4 11) ∧ (∀ i : Nat, (i : Int) < σ 83 1 → σ 151 i = τ 144 (8 + i) ∧ 0 ≤ σ 151 i ∧ σ 151 i < σ 4 11) ∧ (σ 82 2 = τ 84 4 ∧ 0 ≤ σ 82 2 ∧ σ 82 2 ≤ 9999)
/-- how many programs were told -/
def CNT (N : Nat) (τ : pS) : Prop := 0 ≤ τ 84 5 ∧ τ 84 5 ≤ (N : Int)
/-- class and reference between the calls -/
def WR (N : Nat) (σ τ : pS) : Prop := TR σ τ ∧ PRG σ τ ∧ LR σ τ ∧ SRx σ τ ∧ LSR σ τ ∧ KPR σ τ ∧ RWR σ τ ∧ CNT N τ
section WQ
variable {N : Nat} {σ τ σ' τ' : pS}
theorem TR.q (h : TR σ τ) (h1 : EQc wcT σ σ') (h2 : EQc wmT τ τ') : TR σ' τ' := by
  obtain ⟨a1, a2, a3⟩ := h
  unfold TR
  rw [h1 1 1 (Or.inl ⟨rfl, rfl⟩), h2 84 18 (Or.inl ⟨rfl, rfl⟩)]
  exact ⟨a1, a2, fun i hi => by rw [h1 2 i (Or.inr rfl), h2 96 i (Or.inr rfl)]; exact a3 i hi⟩
theorem PRG.q (h : PRG σ τ) (h1 : EQc wcP σ σ') (h2 : EQc wmP τ τ') : PRG σ' τ' := h.mv (h1 4 11 (by unfold wcP; omega)) (h1 4 12 (by unfold wcP; omega)) (fun k x a b => h1 k x (by unfold wcP; omega)) (h2 84 2 (by unfold wmP; omega)) (fun k x a b => h2 k x (by unfold wmP; omega))
theorem LR.q (h : LR σ τ) (h1 : EQc wcL σ σ') (h2 : EQc wmL τ τ') : LR σ' τ' := h.mv (h1 16 7 (by unfold wcL; omega)) (fun k x a b => h1 k x (by unfold wcL; omega)) (h2 84 27 (by unfold wmL; omega)) (fun k x a b => h2 k x (by unfold wmL; omega))
theorem SRx.q (h : SRx σ τ) (h1 : EQc wcS σ σ') (h2 : EQc wmS τ τ') : SRx σ' τ' := by
  obtain ⟨a1, a2, a3, a4, a5, a6, a7⟩ := h
  have e11 := h1 4 11 (by unfold wcS; omega)
  refine ⟨fun r hr => ?_, fun x hx => ?_, fun j hj => ?_, fun j hj => ?_, ?_, ?_, ?_⟩
  · rw [h1 25 r (by unfold wcS; omega), h2 85 r (by unfold wmS; omega)]; exact a1 r hr
  · rw [h1 26 x (by unfold wcS; omega), h2 86 x (by unfold wmS; omega)]; exact a2 x hx
  · rw [e11] at hj
    rw [h1 27 j (by unfold wcS; omega), h2 87 j (by unfold wmS; omega)]; exact a3 j hj
  · rw [h1 27 j (by unfold wcS; omega), e11]; exact a4 j hj
  · rw [h1 24 3 (by unfold wcS; omega), h2 84 3 (by unfold wmS; omega)]; exact a5
  · rw [h1 24 5 (by unfold wcS; omega), h2 84 0 (by unfold wmS; omega)]; exact a6
  · rw [h1 24 4 (by unfold wcS; omega), h2 84 1 (by unfold wmS; omega)]; exact a7
theorem LSR.q (h : LSR σ τ) (h1 : EQc wcR σ σ') (h2 : EQc wmR τ τ') : LSR σ' τ' := by
  obtain ⟨a1, a2⟩ := h
  have e08 := h1 0 8 (by unfold wcR; omega)
  refine ⟨by rw [e08, h2 84 75 (by unfold wmR; omega)]; exact a1, fun hz => ?_⟩
  rw [e08] at hz
  obtain ⟨b0, b1, b2⟩ := a2 hz
  refine ⟨by rw [h1 4 11 (by unfold wcR; omega)]; exact b0, fun x hx => by rw [h1 72 x (by unfold wcR; omega), h2 134 x (by unfold wmR; omega)]; exact b1 x hx, fun j hj => ?_⟩
  rw [h1 4 11 (by unfold wcR; omega)] at hj
  rw [h1 73 j (by unfold wcR; omega), h1 74 j (by unfold wcR; omega), h1 75 j (by unfold wcR; omega), h1 76 j (by unfold wcR; omega), h1 5 j (by unfold wcR; omega), h1 7 j (by unfold wcR; omega), h2 135 j (by unfold wmR; omega), h2 136 j (by unfold wmR; omega), h2 137 j (by unfold wmR; omega), h2 138 j (by unfold wmR; omega)]
  obtain ⟨c1, c2, c3, c4, c5⟩ := b2 j hj
  exact ⟨c1, c2, c3, c4, fun q e he => by rw [h1 77 _ (by unfold wcR; omega), h2 139 _ (by unfold wmR; omega)]; exact c5 q e he⟩
theorem KPR.q (h : KPR σ τ) (h1 : EQc wcK σ σ') (h2 : EQc wmK τ τ') : KPR σ' τ' := by
  obtain ⟨a1, a2⟩ := h
  have e09 := h1 0 9 (by unfold wcK; omega)
  refine ⟨by rw [e09, h2 84 88 (by unfold wmK; omega)]; exact a1, fun hz => ?_⟩
  rw [e09] at hz
  obtain ⟨b1, b2, b3, b4, b5⟩ := a2 hz
  refine ⟨fun x hx => by rw [h1 79 x (by unfold wcK; omega), h2 146 x (by unfold wmK; omega)]; exact b1 x hx, fun x hx => by rw [h1 80 x (by unfold wcK; omega), h2 147 x (by unfold wmK; omega)]; exact b2 x hx, ?_, ?_, ?_⟩
  · rw [h1 78 4 (by unfold wcK; omega), h2 84 91 (by unfold wmK; omega)]; exact b3
  · rw [h1 78 5 (by unfold wcK; omega), h2 84 92 (by unfold wmK; omega)]; exact b4
  · rw [h1 0 10 (by unfold wcK; omega), h2 84 89 (by unfold wmK; omega), h2 84 5 (by unfold wmK; omega), h1 4 11 (by unfold wcK; omega), h1 78 3 (by unfold wcK; omega), h2 84 90 (by unfold wmK; omega)]
    rcases b5 with ⟨c1, c2, c3, c4, c5⟩ | c
    · exact Or.inl ⟨c1, c2, fun j hj => by rw [h1 81 j (by unfold wcK; omega), h2 148 j (by unfold wmK; omega)]; exact c3 j hj, fun j hj => by rw [h1 81 j (by unfold wcK; omega)]; exact c4 j hj, c5⟩
    · exact Or.inr c
theorem RWR.q (h : RWR σ τ) (h1 : EQc wcW σ σ') (h2 : EQc wmW τ τ') : RWR σ' τ' := by
  obtain ⟨a1, a2, a3, a4, a5⟩ := h
  unfold RWR
  rw [h1 83 0 (by unfold wcW; omega), h1 83 1 (by unfold wcW; omega), h1 82 2 (by unfold wcW; omega), h1 4 11 (by unfold wcW; omega), h2 145 0 (by unfold wmW; omega), h2 145 1 (by unfold wmW; omega), h2 84 4 (by unfold wmW; omega)]
  exact ⟨a1, a2, fun i hi => by rw [h1 150 i (by unfold wcW; omega), h2 144 i (by unfold wmW; omega)]; exact a3 i hi, fun i hi => by rw [h1 151 i (by unfold wcW; omega), h2 144 (8 + i) (by unfold wmW; omega)]; exact a4 i hi, a5⟩
theorem CNT.q (h : CNT N τ) (h2 : τ' 84 5 = τ 84 5) : CNT (N + 1) τ' := by
  unfold CNT at *
  rw [h2]
  omega
/-- all that the relation reads -/
def wcA (k x : Nat) : Prop := wcT k x ∨ wcP k x ∨ wcL k x ∨ wcS k x ∨ wcR k x ∨ wcK k x ∨ wcW k x
def wmA (k x : Nat) : Prop := wmT k x ∨ wmP k x ∨ wmL k x ∨ wmS k x ∨ wmR k x ∨ wmK k x ∨ wmW k x
theorem WR.q (h : WR N σ τ) (h1 : EQc wcA σ σ') (h2 : EQc wmA τ τ') : WR (N + 1) σ' τ' := by
  obtain ⟨a1, a2, a3, a4, a5, a6, a7, a8⟩ := h
  exact ⟨a1.q (fun k x z => h1 k x (Or.inl z)) (fun k x z => h2 k x (Or.inl z)), a2.q (fun k x z => h1 k x (Or.inr (Or.inl z))) (fun k x z => h2 k x (Or.inr (Or.inl z))), a3.q (fun k x z => h1 k x (Or.inr (Or.inr (Or.inl z)))) (fun k x z => h2 k x (Or.inr (Or.inr (Or.inl z)))), a4.q (fun k x z => h1 k x (Or.inr (Or.inr (Or.inr (Or.inl z))))) (fun k x z => h2 k x (Or.inr (Or.inr (Or.inr (Or.inl z))))), a5.q (fun k x z => h1 k x (Or.inr (Or.inr (Or.inr (Or.inr (Or.inl z)))))) (fun k x z => h2 k x (Or.inr (Or.inr (Or.inr (Or.inr (Or.inl z)))))), a6.q (fun k x z => h1 k x (Or.inr (Or.inr (Or.inr (Or.inr (Or.inr (Or.inl z))))))) (fun k x z => h2 k x (Or.inr (Or.inr (Or.inr (Or.inr (Or.inr (Or.inl z))))))), a7.q (fun k x z => h1 k x (Or.inr (Or.inr (Or.inr (Or.inr (Or.inr (Or.inr z))))))) (fun k x z => h2 k x (Or.inr (Or.inr (Or.inr (Or.inr (Or.inr (Or.inr z))))))), a8.q (h2 84 5 (Or.inr (Or.inr (Or.inr (Or.inr (Or.inr (Or.inl (by unfold wmK; omega)))))))) ⟩
theorem WR.same (h : WR N σ τ) : WR (N + 1) σ τ := h.q (EQc.rf _ _) (EQc.rf _ _)
/-- the class's calls leave the reference's cells, and the other way round -/
def XOf (σ σ' : pS) : Prop := ∀ k x, 84 ≤ k → k ≤ 148 → σ' k x = σ k x
def MOf (τ τ' : pS) : Prop := ∀ k x, k < 84 ∨ 148 < k → τ' k x = τ k x
/-- what a call leaves -/
def WS (N : Nat) (σ τ σ' τ' : pS) : Prop := WR (N + 1) σ' τ' ∧ XOf σ σ' ∧ MOf τ τ'
theorem WR.sm (h : WR N σ τ) : WS N σ τ σ τ := ⟨h.same, fun _ _ _ _ => rfl, fun _ _ _ => rfl⟩
theorem XOf.of {P : Nat → Nat → Prop} (f : FR P σ σ') (hP : ∀ k x, P k x → k < 84 ∨ 148 < k) : XOf σ σ' := fun k x h1 h2 => f.get (fun z => by have := hP k x z; omega)
theorem MOf.of {P : Nat → Nat → Prop} (f : FR P τ τ') (hP : ∀ k x, P k x → 84 ≤ k ∧ k ≤ 148) : MOf τ τ' := fun k x h1 => f.get (fun z => by have := hP k x z; omega)
theorem WS.of {P Q : Nat → Nat → Prop} (f1 : FR P σ σ') (f2 : FR Q τ τ') (hP : ∀ k x, P k x → k < 84 ∨ 148 < k) (hQ : ∀ k x, Q k x → 84 ≤ k ∧ k ≤ 148) (h : WR (N + 1) σ' τ') : WS N σ τ σ' τ' := ⟨h, XOf.of f1 hP, MOf.of f2 hQ⟩
theorem WR.mono {M : Nat} (h : WR N σ τ) (hM : N ≤ M) : WR M σ τ := by
  obtain ⟨a1, a2, a3, a4, a5, a6, a7, a8⟩ := h
  refine ⟨a1, a2, a3, a4, a5, a6, a7, ?_⟩
  unfold CNT at *
  omega
theorem SRx.sr {m : Nat} (h : SRx σ τ) (hm : m ≤ 20) (e : σ 4 11 = (m : Int)) : SR m σ τ ∧ ∀ j, m ≤ j → j < 20 → σ 27 j = -1 := by
  obtain ⟨a1, a2, a3, a4, a5, a6, a7⟩ := h
  refine ⟨⟨a1, a2, fun j hj => ⟨a3 j (by omega), (a4 j (by omega)).1, (a4 j (by omega)).2.1⟩, a5, a6, a7.1⟩, fun j hj h20 => (a4 j h20).2.2 (by omega)⟩
theorem PRG.pg (h : PRG σ τ) : ∃ (m : Nat) (rec : Nat → O8), PG m rec σ τ := by
  obtain ⟨m, rec, D, a1, a2, a3, a4, a5, -⟩ := h
  exact ⟨m, rec, a1, a2, a3, a4, a5⟩
end WQ
