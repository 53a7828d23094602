theorem ok_Mach_settled_3_p2 {l : Launch} {rv : Int} {rσ : pS} {G : Nat → pL → List pV → pS → Prop} (H : px_R l 0 96 rv rσ G) : ∀ (n : Nat) (a1 : Int) (σ : pS), f_Mach_settled_3_p2 n a1 σ = some (rv, rσ) → G 2 [some (.inr 3), some (.inl a1)] [] σ := by
  intro n
  induction n with
  | zero =>
    intro a1 σ h
    unfold f_Mach_settled_3_p2 at h
    cases h
  | succ n ih =>
    intro a1 σ h
    unfold f_Mach_settled_3_p2 at h
    refine H [((1, 1, 0, 0, []), 1), ((2, 0, 0, 0, []), 1), ((17, 3, 4, 0, []), 3), ((16, 4, 11, 0, []), 3), ((13, 3, 53, 0, []), 3), ((2, 0, 0, 0, []), 1), ((17, 3, 39, 0, []), 3), ((1, 1, 0, 0, []), 1), ((19, 39, 20, 0, []), 1), ((0, 0, 0, 2, []), 1), ((13, 1, 45, 0, []), 3), ((2, 0, 0, 0, []), 1), ((17, 3, 4, 0, []), 3), ((17, 4, 5, 0, []), 3), ((1, 1, 0, 0, []), 1), ((19, 5, 20, 0, []), 1), ((0, 0, 0, 3, []), 1), ((13, 1, 47, 0, []), 3), ((2, 0, 0, 0, []), 1), ((17, 3, 41, 0, []), 3), ((1, 1, 0, 0, []), 1), ((19, 41, 20, 0, []), 1), ((14, 1, 47, 0, []), 3), ((0, 0, 0, 0, []), 1), ((27, 1, 0, 0, []), 1)] 2 _ _ _ (by decide +kernel) ?_
    rcases px_ite h with ⟨c1, h⟩ | ⟨c1, h⟩
    · refine And.intro (fun _ => ?_) (fun hn => absurd c1 hn)
      refine H [((0, 0, 0, 1, []), 1), ((27, 1, 0, 0, []), 1)] 53 _ _ _ (by decide +kernel) ?_
      refine And.intro (show (0 : Int) ≤ 1 ∧ (1 : Int) ≤ 1 from by decide) ?_
      exact Prod.mk.inj (Option.some.inj h)
    · refine And.intro (fun hp => absurd hp c1) (fun _ => ?_)
      obtain ⟨g2, h⟩ := px_gd h
      refine And.intro g2 ?_
      rcases px_ite h with ⟨c3, h⟩ | ⟨c3, h⟩
      · refine And.intro (fun hp => absurd c3 hp) (fun _ => ?_)
        obtain ⟨g4, h⟩ := px_gd h
        refine And.intro g4 ?_
        rcases px_ite h with ⟨c5, h⟩ | ⟨c5, h⟩
        · refine And.intro (fun hp => absurd c5 hp) (fun _ => ?_)
          obtain ⟨g6, h⟩ := px_gd h
          refine And.intro g6 ?_
          rcases px_ite h with ⟨c7, h⟩ | ⟨c7, h⟩
          · refine And.intro (fun hp => absurd c7 hp) (fun _ => ?_)
            refine And.intro (show (0 : Int) ≤ 0 ∧ (0 : Int) ≤ 1 from by decide) ?_
            exact Prod.mk.inj (Option.some.inj h)
          · refine And.intro (fun _ => ?_) (fun hn => absurd c7 hn)
            refine H [((5, 1, 0, 1, []), 3), ((12, 0, 2, 0, []), 3)] 47 _ _ _ (by decide +kernel) ?_
            exact ih _ _ h
        · refine And.intro (fun _ => ?_) (fun hn => absurd c5 hn)
          refine H [((5, 1, 0, 1, []), 3), ((12, 0, 2, 0, []), 3)] 47 _ _ _ (by decide +kernel) ?_
          exact ih _ _ h
      · refine And.intro (fun _ => ?_) (fun hn => absurd c3 hn)
        refine H [((0, 0, 0, 0, []), 1), ((27, 1, 0, 0, []), 1)] 45 _ _ _ (by decide +kernel) ?_
        refine And.intro (show (0 : Int) ≤ 0 ∧ (0 : Int) ≤ 1 from by decide) ?_
        exact Prod.mk.inj (Option.some.inj h)
theorem ok_Mach_settled_3_w {l : Launch} {rv : Int} {rσ : pS} {G : Nat → pL → List pV → pS → Prop} (H : px_R l 0 96 rv rσ G) : ∀ (σ : pS), f_Mach_settled_3  σ = some (rv, rσ) → G 0 [some (.inr 3), none] [] σ := by
  intro  σ h
  unfold f_Mach_settled_3 at h
  refine H [((0, 0, 0, 0, []), 1), ((3, 1, 0, 0, []), 1)] 0 _ _ _ (by decide +kernel) ?_
  exact ok_Mach_settled_3_p2 H _ _ _ h
theorem ok_Mach_settled_3 {l : Launch} {σ : pS} {v : Int} {σ1 : pS} (h : f_Mach_settled_3  σ = some (v, σ1)) : Con l 0 96 [.inr 3] σ v σ1 := Con_mk 1 2 rfl (by decide +kernel) (fun _ H => ok_Mach_settled_3_w H  _ h)
theorem ok_Mach_giveRegisters_3_p2 {l : Launch} {rv : Int} {rσ : pS} {G : Nat → pL → List pV → pS → Prop} (H : px_R l 1 97 rv rσ G) : ∀ (n : Nat) (a1 : Int) (σ : pS), f_Mach_giveRegisters_3_p2 n a1 σ = some (rv, rσ) → G 2 [some (.inr 3), some (.inl a1)] [] σ := by
  intro n
  induction n with
  | zero =>
    intro a1 σ h
    unfold f_Mach_giveRegisters_3_p2 at h
    cases h
  | succ n ih =>
    intro a1 σ h
    unfold f_Mach_giveRegisters_3_p2 at h
    refine H [((1, 1, 0, 0, []), 1), ((2, 0, 0, 0, []), 1), ((17, 3, 4, 0, []), 3), ((16, 4, 11, 0, []), 3), ((13, 3, 60, 0, []), 3), ((2, 0, 0, 0, []), 1), ((17, 3, 4, 0, []), 3), ((17, 4, 8, 0, []), 3), ((1, 1, 0, 0, []), 1), ((19, 8, 20, 0, []), 1), ((24, 52, 1, 1, []), 3), ((14, 0, 54, 0, []), 3), ((2, 0, 0, 0, []), 1), ((17, 3, 28, 0, []), 3), ((17, 28, 29, 0, []), 3), ((2, 0, 0, 0, []), 1), ((17, 3, 4, 0, []), 3), ((17, 4, 8, 0, []), 3), ((1, 1, 0, 0, []), 1), ((19, 8, 20, 0, []), 1), ((2, 0, 0, 0, []), 1), ((17, 3, 32, 0, []), 3), ((17, 32, 36, 0, []), 3), ((1, 1, 0, 0, []), 1), ((19, 36, 20, 0, []), 1), ((20, 29, 8, 0, []), 1), ((5, 1, 0, 1, []), 3), ((12, 0, 2, 0, []), 3)] 2 _ _ _ (by decide +kernel) ?_
    rcases px_ite h with ⟨c1, h⟩ | ⟨c1, h⟩
    · refine And.intro (fun _ => ?_) (fun hn => absurd c1 hn)
      refine H [((28, 0, 0, 0, []), 1)] 60 _ _ _ (by decide +kernel) ?_
      exact (Prod.mk.inj (Option.some.inj h)).2
    · refine And.intro (fun hp => absurd hp c1) (fun _ => ?_)
      obtain ⟨g2, h⟩ := px_gd h
      refine And.intro g2 ?_
      obtain ⟨⟨vq3, σq3⟩, hq3, h⟩ := px_bind h
      dsimp only at h
      refine Exists.intro 0 (Exists.intro vq3 (Exists.intro σq3 (And.intro (Nat.le_of_ble_eq_true rfl) (And.intro (ok_X_isCell hq3) ?_))))
      rcases px_ite h with ⟨c4, h⟩ | ⟨c4, h⟩
      · refine And.intro (fun _ => ?_) (fun hn => absurd c4 hn)
        refine H [((5, 1, 0, 1, []), 3), ((12, 0, 2, 0, []), 3)] 54 _ _ _ (by decide +kernel) ?_
        exact ih _ _ h
      · refine And.intro (fun hp => absurd hp c4) (fun _ => ?_)
        obtain ⟨g5, h⟩ := px_gd h
        refine And.intro g5 ?_
        obtain ⟨g6, h⟩ := px_gd h
        refine And.intro g6 ?_
        obtain ⟨g7, h⟩ := px_gd h
        refine And.intro g7 ?_
        exact ih _ _ h
theorem ok_Mach_giveRegisters_3_w {l : Launch} {rv : Int} {rσ : pS} {G : Nat → pL → List pV → pS → Prop} (H : px_R l 1 97 rv rσ G) : ∀ (σ : pS), f_Mach_giveRegisters_3  σ = some (rv, rσ) → G 0 [some (.inr 3), none] [] σ := by
  intro  σ h
  unfold f_Mach_giveRegisters_3 at h
  refine H [((0, 0, 0, 0, []), 1), ((3, 1, 0, 0, []), 1)] 0 _ _ _ (by decide +kernel) ?_
  exact ok_Mach_giveRegisters_3_p2 H _ _ _ h
theorem ok_Mach_giveRegisters_3 {l : Launch} {σ : pS} {v : Int} {σ1 : pS} (h : f_Mach_giveRegisters_3  σ = some (v, σ1)) : Con l 1 97 [.inr 3] σ v σ1 := Con_mk 1 2 rfl (by decide +kernel) (fun _ H => ok_Mach_giveRegisters_3_w H  _ h)
theorem ok_Mach_go_3_p6 {l : Launch} {rv : Int} {rσ : pS} {G : Nat → pL → List pV → pS → Prop} (H : px_R l 5 59 rv rσ G) : ∀ (n : Nat) (a1 a2 a3 : Int) (σ : pS), f_Mach_go_3_p6 n a1 a2 a3 σ = some (rv, rσ) → G 6 [some (.inr 3), some (.inl a1), some (.inl a2), some (.inl a3)] [] σ := by
  intro n
  induction n with
  | zero =>
    intro a1 a2 a3 σ h
    unfold f_Mach_go_3_p6 at h
    cases h
  | succ n ih =>
    intro a1 a2 a3 σ h
    unfold f_Mach_go_3_p6 at h
    refine H [((1, 3, 0, 0, []), 1), ((0, 0, 0, 2000, []), 3), ((13, 4, 65, 0, []), 3), ((2, 0, 0, 0, []), 1), ((1, 3, 0, 0, []), 1), ((18, 3, 11, 0, []), 3), ((2, 0, 0, 0, []), 1), ((23, 65, 0, 0, [(0, 3)]), 3), ((2, 0, 0, 0, []), 1), ((1, 1, 0, 0, []), 1), ((1, 2, 0, 0, []), 1), ((23, 81, 2, 0, [(0, 3)]), 3), ((2, 0, 0, 0, []), 1), ((23, 91, 0, 0, [(0, 3)]), 3), ((2, 0, 0, 0, []), 1), ((23, 96, 0, 1, [(0, 3)]), 3), ((14, 0, 59, 0, []), 3), ((2, 0, 0, 0, []), 1), ((17, 3, 32, 0, []), 3), ((17, 32, 33, 0, []), 3), ((0, 0, 0, 0, []), 1), ((1, 3, 0, 0, []), 1), ((0, 0, 0, 1, []), 1), ((6, 0, 0, 0, []), 1), ((20, 33, 6, 0, []), 1), ((2, 0, 0, 0, []), 1), ((23, 97, 0, 0, [(0, 3)]), 3), ((1, 3, 0, 0, []), 1), ((0, 0, 0, 1, []), 1), ((6, 0, 0, 0, []), 1), ((27, 0, 0, 0, []), 1)] 6 _ _ _ (by decide +kernel) ?_
    rcases px_ite h with ⟨c2, h⟩ | ⟨c2, h⟩
    · refine And.intro (fun _ => ?_) (fun hn => absurd c2 hn)
      refine H [((0, 0, 0, (-5), []), 2), ((27, 0, 0, 0, []), 1)] 65 _ _ _ (by decide +kernel) ?_
      exact Prod.mk.inj (Option.some.inj h)
    · refine And.intro (fun hp => absurd hp c2) (fun _ => ?_)
      obtain ⟨⟨vq3, σq3⟩, hq3, h⟩ := px_bind h
      dsimp only at h
      refine Exists.intro 4 (Exists.intro vq3 (Exists.intro σq3 (And.intro (Nat.le_of_ble_eq_true rfl) (And.intro (ok_Mach_finishOps_3 hq3) ?_))))
      obtain ⟨⟨vq4, σq4⟩, hq4, h⟩ := px_bind h
      dsimp only at h
      refine Exists.intro 4 (Exists.intro vq4 (Exists.intro σq4 (And.intro (Nat.le_of_ble_eq_true rfl) (And.intro (ok_Mach_sendOff_3 hq4) ?_))))
      obtain ⟨⟨vq5, σq5⟩, hq5, h⟩ := px_bind h
      dsimp only at h
      refine Exists.intro 4 (Exists.intro vq5 (Exists.intro σq5 (And.intro (Nat.le_of_ble_eq_true rfl) (And.intro (ok_Mach_retireOne_3 hq5) ?_))))
      obtain ⟨⟨vq6, σq6⟩, hq6, h⟩ := px_bind h
      dsimp only at h
      refine Exists.intro 0 (Exists.intro vq6 (Exists.intro σq6 (And.intro (Nat.le_of_ble_eq_true rfl) (And.intro (ok_Mach_settled_3 hq6) ?_))))
      rcases px_ite h with ⟨c7, h⟩ | ⟨c7, h⟩
      · refine And.intro (fun _ => ?_) (fun hn => absurd c7 hn)
        refine H [((5, 3, 0, 1, []), 3), ((12, 0, 6, 0, []), 3)] 59 _ _ _ (by decide +kernel) ?_
        exact ih _ _ _ _ h
      · refine And.intro (fun hp => absurd hp c7) (fun _ => ?_)
        refine And.intro (show (0 : Int) ≤ 0 ∧ (0 : Int) < 6 from by decide) ?_
        obtain ⟨⟨vq8, σq8⟩, hq8, h⟩ := px_bind h
        dsimp only at h
        refine Exists.intro 1 (Exists.intro vq8 (Exists.intro σq8 (And.intro (Nat.le_of_ble_eq_true rfl) (And.intro (ok_Mach_giveRegisters_3 hq8) ?_))))
        exact Prod.mk.inj (Option.some.inj h)
theorem ok_Mach_go_3_w {l : Launch} {rv : Int} {rσ : pS} {G : Nat → pL → List pV → pS → Prop} (H : px_R l 5 59 rv rσ G) : ∀ (a1 a2 : Int) (σ : pS), f_Mach_go_3 a1 a2 σ = some (rv, rσ) → G 0 [some (.inr 3), some (.inl a1), some (.inl a2), none] [] σ := by
  intro a1 a2 σ h
  unfold f_Mach_go_3 at h
  refine H [((2, 0, 0, 0, []), 1), ((23, 60, 0, 0, [(0, 3)]), 3), ((0, 0, 0, 0, []), 1), ((3, 3, 0, 0, []), 1)] 0 _ _ _ (by decide +kernel) ?_
  obtain ⟨⟨vq1, σq1⟩, hq1, h⟩ := px_bind h
  dsimp only at h
  refine Exists.intro 3 (Exists.intro vq1 (Exists.intro σq1 (And.intro (Nat.le_of_ble_eq_true rfl) (And.intro (ok_Mach_begin_3 hq1) ?_))))
  exact ok_Mach_go_3_p6 H _ _ _ _ _ h
theorem ok_Mach_go_3 {l : Launch} {a1 a2 : Int} {σ : pS} {v : Int} {σ1 : pS} (h : f_Mach_go_3 a1 a2 σ = some (v, σ1)) : Con l 5 59 [.inr 3, .inl a1, .inl a2] σ v σ1 := Con_mk 3 4 rfl (by decide +kernel) (fun _ H => ok_Mach_go_3_w H _ _ _ h)
theorem ok_State_copyCellsFrom_24_28_w {l : Launch} {rv : Int} {rσ : pS} {G : Nat → pL → List pV → pS → Prop} (H : px_R l 1 62 rv rσ G) : ∀ (σ : pS), f_State_copyCellsFrom_24_28  σ = some (rv, rσ) → G 0 [some (.inr 24), some (.inr 28)] [] σ := by
  intro  σ h
  unfold f_State_copyCellsFrom_24_28 at h
  refine H [((2, 1, 0, 0, []), 1), ((17, 28, 29, 0, []), 3), ((0, 0, 0, 0, []), 1), ((2, 0, 0, 0, []), 1), ((17, 24, 25, 0, []), 3), ((0, 0, 0, 0, []), 1), ((0, 0, 0, 8, []), 2), ((26, 29, 25, 8, []), 3), ((2, 1, 0, 0, []), 1), ((17, 28, 30, 0, []), 3), ((0, 0, 0, 0, []), 1), ((2, 0, 0, 0, []), 1), ((17, 24, 26, 0, []), 3), ((0, 0, 0, 0, []), 1), ((0, 0, 0, 64, []), 2), ((26, 30, 26, 64, []), 3), ((2, 0, 0, 0, []), 1), ((2, 1, 0, 0, []), 1), ((16, 28, 4, 0, []), 3), ((18, 24, 4, 0, []), 3), ((2, 0, 0, 0, []), 1), ((2, 1, 0, 0, []), 1), ((16, 28, 5, 0, []), 3), ((18, 24, 5, 0, []), 3), ((28, 0, 0, 0, []), 1)] 0 _ _ _ (by decide +kernel) ?_
  exact (Prod.mk.inj (Option.some.inj h)).2
theorem ok_State_copyCellsFrom_24_28 {l : Launch} {σ : pS} {v : Int} {σ1 : pS} (h : f_State_copyCellsFrom_24_28  σ = some (v, σ1)) : Con l 1 62 [.inr 24, .inr 28] σ v σ1 := Con_mk 2 2 rfl (by decide +kernel) (fun _ H => ok_State_copyCellsFrom_24_28_w H  _ h)
theorem ok_State_copySetsFrom_24_28_w {l : Launch} {rv : Int} {rσ : pS} {G : Nat → pL → List pV → pS → Prop} (H : px_R l 1 63 rv rσ G) : ∀ (σ : pS), f_State_copySetsFrom_24_28  σ = some (rv, rσ) → G 0 [some (.inr 24), some (.inr 28)] [] σ := by
  intro  σ h
  unfold f_State_copySetsFrom_24_28 at h
  refine H [((2, 1, 0, 0, []), 1), ((17, 28, 31, 0, []), 3), ((0, 0, 0, 0, []), 1), ((2, 0, 0, 0, []), 1), ((17, 24, 27, 0, []), 3), ((0, 0, 0, 0, []), 1), ((0, 0, 0, 20, []), 2), ((26, 31, 27, 20, []), 3), ((2, 0, 0, 0, []), 1), ((2, 1, 0, 0, []), 1), ((16, 28, 3, 0, []), 3), ((18, 24, 3, 0, []), 3), ((28, 0, 0, 0, []), 1)] 0 _ _ _ (by decide +kernel) ?_
  exact (Prod.mk.inj (Option.some.inj h)).2
theorem ok_State_copySetsFrom_24_28 {l : Launch} {σ : pS} {v : Int} {σ1 : pS} (h : f_State_copySetsFrom_24_28  σ = some (v, σ1)) : Con l 1 63 [.inr 24, .inr 28] σ v σ1 := Con_mk 2 2 rfl (by decide +kernel) (fun _ H => ok_State_copySetsFrom_24_28_w H  _ h)
theorem ok_State_copyFrom_24_28_w {l : Launch} {rv : Int} {rσ : pS} {G : Nat → pL → List pV → pS → Prop} (H : px_R l 2 61 rv rσ G) : ∀ (σ : pS), f_State_copyFrom_24_28  σ = some (rv, rσ) → G 0 [some (.inr 24), some (.inr 28)] [] σ := by
  intro  σ h
  unfold f_State_copyFrom_24_28 at h
  refine H [((2, 0, 0, 0, []), 1), ((2, 1, 0, 0, []), 1), ((23, 62, 1, 0, [(0, 24)]), 3), ((2, 0, 0, 0, []), 1), ((2, 1, 0, 0, []), 1), ((23, 63, 1, 0, [(0, 24)]), 3), ((28, 0, 0, 0, []), 1)] 0 _ _ _ (by decide +kernel) ?_
  obtain ⟨⟨vq1, σq1⟩, hq1, h⟩ := px_bind h
  dsimp only at h
  refine Exists.intro 1 (Exists.intro vq1 (Exists.intro σq1 (And.intro (Nat.le_of_ble_eq_true rfl) (And.intro (ok_State_copyCellsFrom_24_28 hq1) ?_))))
  obtain ⟨⟨vq2, σq2⟩, hq2, h⟩ := px_bind h
  dsimp only at h
  refine Exists.intro 1 (Exists.intro vq2 (Exists.intro σq2 (And.intro (Nat.le_of_ble_eq_true rfl) (And.intro (ok_State_copySetsFrom_24_28 hq2) ?_))))
  exact (Prod.mk.inj (Option.some.inj h)).2
theorem ok_State_copyFrom_24_28 {l : Launch} {σ : pS} {v : Int} {σ1 : pS} (h : f_State_copyFrom_24_28  σ = some (v, σ1)) : Con l 2 61 [.inr 24, .inr 28] σ v σ1 := Con_mk 2 2 rfl (by decide +kernel) (fun _ H => ok_State_copyFrom_24_28_w H  _ h)
theorem ok_Rep_copyFrom_71_32_w {l : Launch} {rv : Int} {rσ : pS} {G : Nat → pL → List pV → pS → Prop} (H : px_R l 1 98 rv rσ G) : ∀ (σ : pS), f_Rep_copyFrom_71_32  σ = some (rv, rσ) → G 0 [some (.inr 71), some (.inr 32)] [] σ := by
  intro  σ h
  unfold f_Rep_copyFrom_71_32 at h
  refine H [((2, 1, 0, 0, []), 1), ((17, 32, 33, 0, []), 3), ((0, 0, 0, 0, []), 1), ((2, 0, 0, 0, []), 1), ((17, 71, 72, 0, []), 3), ((0, 0, 0, 0, []), 1), ((0, 0, 0, 6, []), 2), ((26, 33, 72, 6, []), 3), ((2, 1, 0, 0, []), 1), ((17, 32, 34, 0, []), 3), ((0, 0, 0, 0, []), 1), ((2, 0, 0, 0, []), 1), ((17, 71, 73, 0, []), 3), ((0, 0, 0, 0, []), 1), ((0, 0, 0, 20, []), 2), ((26, 34, 73, 20, []), 3), ((2, 1, 0, 0, []), 1), ((17, 32, 35, 0, []), 3), ((0, 0, 0, 0, []), 1), ((2, 0, 0, 0, []), 1), ((17, 71, 74, 0, []), 3), ((0, 0, 0, 0, []), 1), ((0, 0, 0, 20, []), 2), ((26, 35, 74, 20, []), 3), ((2, 1, 0, 0, []), 1), ((17, 32, 36, 0, []), 3), ((0, 0, 0, 0, []), 1), ((2, 0, 0, 0, []), 1), ((17, 71, 75, 0, []), 3), ((0, 0, 0, 0, []), 1), ((0, 0, 0, 20, []), 2), ((26, 36, 75, 20, []), 3), ((2, 1, 0, 0, []), 1), ((17, 32, 37, 0, []), 3), ((0, 0, 0, 0, []), 1), ((2, 0, 0, 0, []), 1), ((17, 71, 76, 0, []), 3), ((0, 0, 0, 0, []), 1), ((0, 0, 0, 20, []), 2), ((26, 37, 76, 20, []), 3), ((2, 1, 0, 0, []), 1), ((17, 32, 38, 0, []), 3), ((0, 0, 0, 0, []), 1), ((2, 0, 0, 0, []), 1), ((17, 71, 77, 0, []), 3), ((0, 0, 0, 0, []), 1), ((0, 0, 0, 80, []), 2), ((26, 38, 77, 80, []), 3), ((28, 0, 0, 0, []), 1)] 0 _ _ _ (by decide +kernel) ?_
  exact (Prod.mk.inj (Option.some.inj h)).2
theorem ok_Rep_copyFrom_71_32 {l : Launch} {σ : pS} {v : Int} {σ1 : pS} (h : f_Rep_copyFrom_71_32  σ = some (v, σ1)) : Con l 1 98 [.inr 71, .inr 32] σ v σ1 := Con_mk 2 2 rfl (by decide +kernel) (fun _ H => ok_Rep_copyFrom_71_32_w H  _ h)
theorem ok_X_run_0_w {l : Launch} {rv : Int} {rσ : pS} {G : Nat → pL → List pV → pS → Prop} (H : px_R l 6 57 rv rσ G) : ∀ (a1 : Int) (σ : pS), f_X_run_0 a1 σ = some (rv, rσ) → G 0 [some (.inr 0), some (.inl a1), none] [] σ := by
  intro a1 σ h
  unfold f_X_run_0 at h
  refine H [((2, 0, 0, 0, []), 1), ((1, 1, 0, 0, []), 1), ((23, 58, 1, 1, [(0, 0)]), 3), ((14, 1, 10, 0, []), 3), ((0, 0, 0, (-1), []), 1), ((27, 0, 0, 0, []), 1)] 0 _ _ _ (by decide +kernel) ?_
  obtain ⟨⟨vq1, σq1⟩, hq1, h⟩ := px_bind h
  dsimp only at h
  refine Exists.intro 0 (Exists.intro vq1 (Exists.intro σq1 (And.intro (Nat.le_of_ble_eq_true rfl) (And.intro (ok_X_canRun_0 hq1) ?_))))
  rcases px_ite h with ⟨c2, h⟩ | ⟨c2, h⟩
  · refine And.intro (fun hp => absurd c2 hp) (fun _ => ?_)
    exact Prod.mk.inj (Option.some.inj h)
  · refine And.intro (fun _ => ?_) (fun hn => absurd c2 hn)
    refine H [((2, 0, 0, 0, []), 1), ((17, 0, 3, 0, []), 3), ((1, 1, 0, 0, []), 1), ((0, 0, 0, 0, []), 1), ((23, 59, 2, 1, [(0, 3)]), 3), ((3, 2, 0, 0, []), 1), ((1, 2, 0, 0, []), 1), ((0, 0, 0, (-5), []), 2), ((13, 1, 49, 0, []), 3), ((2, 0, 0, 0, []), 1), ((17, 0, 3, 0, []), 3), ((17, 3, 24, 0, []), 3), ((2, 0, 0, 0, []), 1), ((17, 0, 3, 0, []), 3), ((17, 3, 28, 0, []), 3), ((16, 28, 5, 0, []), 3), ((18, 24, 5, 0, []), 3), ((0, 0, 0, (-5), []), 2), ((27, 0, 0, 0, []), 1)] 10 _ _ _ (by decide +kernel) ?_
    obtain ⟨⟨vq3, σq3⟩, hq3, h⟩ := px_bind h
    dsimp only at h
    refine Exists.intro 5 (Exists.intro vq3 (Exists.intro σq3 (And.intro (Nat.le_of_ble_eq_true rfl) (And.intro (ok_Mach_go_3 hq3) ?_))))
    rcases px_ite h with ⟨c4, h⟩ | ⟨c4, h⟩
    · refine And.intro (fun hp => absurd c4 hp) (fun _ => ?_)
      exact Prod.mk.inj (Option.some.inj h)
    · refine And.intro (fun _ => ?_) (fun hn => absurd c4 hn)
      refine H [((2, 0, 0, 0, []), 1), ((17, 0, 3, 0, []), 3), ((17, 3, 24, 0, []), 3), ((2, 0, 0, 0, []), 1), ((17, 0, 3, 0, []), 3), ((17, 3, 28, 0, []), 3), ((23, 61, 1, 0, [(0, 24)]), 3), ((2, 0, 0, 0, []), 1), ((17, 0, 3, 0, []), 3), ((17, 3, 24, 0, []), 3), ((0, 0, 0, 9999, []), 3), ((2, 0, 0, 0, []), 1), ((17, 0, 3, 0, []), 3), ((17, 3, 24, 0, []), 3), ((16, 24, 4, 0, []), 3), ((0, 0, 0, 1, []), 1), ((6, 0, 0, 0, []), 1), ((25, 0, 0, 0, []), 3), ((18, 24, 4, 0, []), 3), ((2, 0, 0, 0, []), 1), ((17, 0, 71, 0, []), 3), ((2, 0, 0, 0, []), 1), ((17, 0, 3, 0, []), 3), ((17, 3, 32, 0, []), 3), ((23, 98, 1, 0, [(0, 71)]), 3), ((2, 0, 0, 0, []), 1), ((0, 0, 0, 1, []), 1), ((18, 0, 8, 1, []), 3), ((1, 2, 0, 0, []), 1), ((27, 0, 0, 0, []), 1)] 49 _ _ _ (by decide +kernel) ?_
      obtain ⟨⟨vq5, σq5⟩, hq5, h⟩ := px_bind h
      dsimp only at h
      refine Exists.intro 2 (Exists.intro vq5 (Exists.intro σq5 (And.intro (Nat.le_of_ble_eq_true rfl) (And.intro (ok_State_copyFrom_24_28 hq5) ?_))))
      obtain ⟨⟨vq6, σq6⟩, hq6, h⟩ := px_bind h
      dsimp only at h
      refine Exists.intro 1 (Exists.intro vq6 (Exists.intro σq6 (And.intro (Nat.le_of_ble_eq_true rfl) (And.intro (ok_Rep_copyFrom_71_32 hq6) ?_))))
      refine And.intro (show (0 : Int) ≤ 1 ∧ (1 : Int) ≤ 1 from by decide) ?_
      exact Prod.mk.inj (Option.some.inj h)
theorem ok_X_run_0 {l : Launch} {a1 : Int} {σ : pS} {v : Int} {σ1 : pS} (h : f_X_run_0 a1 σ = some (v, σ1)) : Con l 6 57 [.inr 0, .inl a1] σ v σ1 := Con_mk 2 3 rfl (by decide +kernel) (fun _ H => ok_X_run_0_w H _ _ h)
theorem ok_M_canRun_84_w {l : Launch} {rv : Int} {rσ : pS} {G : Nat → pL → List pV → pS → Prop} (H : px_R l 1 176 rv rσ G) : ∀ (a1 : Int) (σ : pS), f_M_canRun_84 a1 σ = some (rv, rσ) → G 0 [some (.inr 84), some (.inl a1)] [] σ := by
  intro a1 σ h
  unfold f_M_canRun_84 at h
  refine H [((1, 1, 0, 0, []), 1), ((0, 0, 0, 1, []), 1), ((0, 0, 0, 4, []), 1), ((24, 137, 3, 1, []), 3), ((14, 0, 20, 0, []), 3), ((2, 0, 0, 0, []), 1), ((16, 84, 2, 0, []), 3), ((14, 5, 20, 0, []), 3), ((0, 0, 0, 1, []), 1), ((12, 0, 21, 0, []), 3), ((27, 1, 0, 0, []), 1)] 0 _ _ _ (by decide +kernel) ?_
  obtain ⟨⟨vq1, σq1⟩, hq1, h⟩ := px_bind h
  dsimp only at h
  refine Exists.intro 0 (Exists.intro vq1 (Exists.intro σq1 (And.intro (Nat.le_of_ble_eq_true rfl) (And.intro (ok_M_in hq1) ?_))))
  rcases px_ite h with ⟨c2, h⟩ | ⟨c2, h⟩
  · refine And.intro (fun _ => ?_) (fun hn => absurd c2 hn)
    refine H [((0, 0, 0, 0, []), 1), ((27, 1, 0, 0, []), 1)] 20 _ _ _ (by decide +kernel) ?_
    refine And.intro (show (0 : Int) ≤ 0 ∧ (0 : Int) ≤ 1 from by decide) ?_
    exact Prod.mk.inj (Option.some.inj h)
  · refine And.intro (fun hp => absurd hp c2) (fun _ => ?_)
    rcases px_ite h with ⟨c3, h⟩ | ⟨c3, h⟩
    · refine And.intro (fun _ => ?_) (fun hn => absurd c3 hn)
      refine H [((0, 0, 0, 0, []), 1), ((27, 1, 0, 0, []), 1)] 20 _ _ _ (by decide +kernel) ?_
      refine And.intro (show (0 : Int) ≤ 0 ∧ (0 : Int) ≤ 1 from by decide) ?_
      exact Prod.mk.inj (Option.some.inj h)
    · refine And.intro (fun hp => absurd hp c3) (fun _ => ?_)
      refine And.intro (show (0 : Int) ≤ 1 ∧ (1 : Int) ≤ 1 from by decide) ?_
      exact Prod.mk.inj (Option.some.inj h)
theorem ok_M_canRun_84 {l : Launch} {a1 : Int} {σ : pS} {v : Int} {σ1 : pS} (h : f_M_canRun_84 a1 σ = some (v, σ1)) : Con l 1 176 [.inr 84, .inl a1] σ v σ1 := Con_mk 2 2 rfl (by decide +kernel) (fun _ H => ok_M_canRun_84_w H _ _ h)
theorem ok_M_readBy_84_w {l : Launch} {rv : Int} {rσ : pS} {G : Nat → pL → List pV → pS → Prop} (H : px_R l 2 180 rv rσ G) : ∀ (a1 a2 : Int) (σ : pS), f_M_readBy_84 a1 a2 σ = some (rv, rσ) → G 0 [some (.inr 84), some (.inl a1), some (.inl a2), none] [] σ := by
  intro a1 a2 σ h
  unfold f_M_readBy_84 at h
  refine H [((2, 0, 0, 0, []), 1), ((1, 1, 0, 0, []), 1), ((1, 2, 0, 0, []), 1), ((23, 173, 2, 1, [(0, 84)]), 3), ((3, 3, 0, 0, []), 1), ((1, 3, 0, 0, []), 1), ((0, 0, 0, (-1), []), 1), ((13, 1, 21, 0, []), 3), ((2, 0, 0, 0, []), 1), ((17, 84, 85, 0, []), 3), ((1, 2, 0, 0, []), 1), ((19, 85, 8, 0, []), 1), ((12, 0, 27, 0, []), 3), ((27, 0, 0, 0, []), 1)] 0 _ _ _ (by decide +kernel) ?_
  obtain ⟨⟨vq1, σq1⟩, hq1, h⟩ := px_bind h
  dsimp only at h
  refine Exists.intro 1 (Exists.intro vq1 (Exists.intro σq1 (And.intro (Nat.le_of_ble_eq_true rfl) (And.intro (ok_M_giverOf_84 hq1) ?_))))
  rcases px_ite h with ⟨c2, h⟩ | ⟨c2, h⟩
  · refine And.intro (fun hp => absurd c2 hp) (fun _ => ?_)
    obtain ⟨g4, h⟩ := px_gd h
    refine And.intro g4 ?_
    exact Prod.mk.inj (Option.some.inj h)
  · refine And.intro (fun _ => ?_) (fun hn => absurd c2 hn)
    refine H [((2, 0, 0, 0, []), 1), ((17, 84, 120, 0, []), 3), ((1, 3, 0, 0, []), 1), ((19, 120, 20, 0, []), 1), ((27, 0, 0, 0, []), 1)] 21 _ _ _ (by decide +kernel) ?_
    obtain ⟨g3, h⟩ := px_gd h
    refine And.intro g3 ?_
    exact Prod.mk.inj (Option.some.inj h)
theorem ok_M_readBy_84 {l : Launch} {a1 a2 : Int} {σ : pS} {v : Int} {σ1 : pS} (h : f_M_readBy_84 a1 a2 σ = some (v, σ1)) : Con l 2 180 [.inr 84, .inl a1, .inl a2] σ v σ1 := Con_mk 3 4 rfl (by decide +kernel) (fun _ H => ok_M_readBy_84_w H _ _ _ h)
theorem ok_M_oldestToRetire_84_p2 {l : Launch} {rv : Int} {rσ : pS} {G : Nat → pL → List pV → pS → Prop} (H : px_R l 0 206 rv rσ G) : ∀ (n : Nat) (a1 : Int) (σ : pS), f_M_oldestToRetire_84_p2 n a1 σ = some (rv, rσ) → G 2 [some (.inr 84), some (.inl a1)] [] σ := by
  intro n
  induction n with
  | zero =>
    intro a1 σ h
    unfold f_M_oldestToRetire_84_p2 at h
    cases h
  | succ n ih =>
    intro a1 σ h
    unfold f_M_oldestToRetire_84_p2 at h
    refine H [((1, 1, 0, 0, []), 1), ((2, 0, 0, 0, []), 1), ((16, 84, 2, 0, []), 3), ((13, 3, 47, 0, []), 3), ((2, 0, 0, 0, []), 1), ((17, 84, 88, 0, []), 3), ((1, 1, 0, 0, []), 1), ((19, 88, 20, 0, []), 1), ((0, 0, 0, 3, []), 1), ((13, 1, 41, 0, []), 3), ((2, 0, 0, 0, []), 1), ((17, 84, 118, 0, []), 3), ((1, 1, 0, 0, []), 1), ((19, 118, 20, 0, []), 1), ((0, 0, 0, 2, []), 1), ((13, 1, 41, 0, []), 3), ((2, 0, 0, 0, []), 1), ((17, 84, 126, 0, []), 3), ((1, 1, 0, 0, []), 1), ((19, 126, 20, 0, []), 1), ((14, 1, 41, 0, []), 3), ((1, 1, 0, 0, []), 1), ((27, 0, 0, 0, []), 1)] 2 _ _ _ (by decide +kernel) ?_
    rcases px_ite h with ⟨c1, h⟩ | ⟨c1, h⟩
    · refine And.intro (fun _ => ?_) (fun hn => absurd c1 hn)
      refine H [((0, 0, 0, (-1), []), 1), ((27, 0, 0, 0, []), 1)] 47 _ _ _ (by decide +kernel) ?_
      exact Prod.mk.inj (Option.some.inj h)
    · refine And.intro (fun hp => absurd hp c1) (fun _ => ?_)
      obtain ⟨g2, h⟩ := px_gd h
      refine And.intro g2 ?_
      rcases px_ite h with ⟨c3, h⟩ | ⟨c3, h⟩
      · refine And.intro (fun hp => absurd c3 hp) (fun _ => ?_)
        obtain ⟨g4, h⟩ := px_gd h
        refine And.intro g4 ?_
        rcases px_ite h with ⟨c5, h⟩ | ⟨c5, h⟩
        · refine And.intro (fun hp => absurd c5 hp) (fun _ => ?_)
          obtain ⟨g6, h⟩ := px_gd h
          refine And.intro g6 ?_
          rcases px_ite h with ⟨c7, h⟩ | ⟨c7, h⟩
          · refine And.intro (fun hp => absurd c7 hp) (fun _ => ?_)
            exact Prod.mk.inj (Option.some.inj h)
          · refine And.intro (fun _ => ?_) (fun hn => absurd c7 hn)
            refine H [((5, 1, 0, 1, []), 3), ((12, 0, 2, 0, []), 3)] 41 _ _ _ (by decide +kernel) ?_
            exact ih _ _ h
        · refine And.intro (fun _ => ?_) (fun hn => absurd c5 hn)
          refine H [((5, 1, 0, 1, []), 3), ((12, 0, 2, 0, []), 3)] 41 _ _ _ (by decide +kernel) ?_
          exact ih _ _ h
      · refine And.intro (fun _ => ?_) (fun hn => absurd c3 hn)
        refine H [((5, 1, 0, 1, []), 3), ((12, 0, 2, 0, []), 3)] 41 _ _ _ (by decide +kernel) ?_
        exact ih _ _ h
theorem ok_M_oldestToRetire_84_w {l : Launch} {rv : Int} {rσ : pS} {G : Nat → pL → List pV → pS → Prop} (H : px_R l 0 206 rv rσ G) : ∀ (σ : pS), f_M_oldestToRetire_84  σ = some (rv, rσ) → G 0 [some (.inr 84), none] [] σ := by
  intro  σ h
  unfold f_M_oldestToRetire_84 at h
  refine H [((0, 0, 0, 0, []), 1), ((3, 1, 0, 0, []), 1)] 0 _ _ _ (by decide +kernel) ?_
  exact ok_M_oldestToRetire_84_p2 H _ _ _ h
theorem ok_M_oldestToRetire_84 {l : Launch} {σ : pS} {v : Int} {σ1 : pS} (h : f_M_oldestToRetire_84  σ = some (v, σ1)) : Con l 0 206 [.inr 84] σ v σ1 := Con_mk 1 2 rfl (by decide +kernel) (fun _ H => ok_M_oldestToRetire_84_w H  _ h)
theorem ok_M_areAllDone_84_p2 {l : Launch} {rv : Int} {rσ : pS} {G : Nat → pL → List pV → pS → Prop} (H : px_R l 0 207 rv rσ G) : ∀ (n : Nat) (a1 a2 : Int) (σ : pS), f_M_areAllDone_84_p2 n a1 a2 σ = some (rv, rσ) → G 2 [some (.inr 84), some (.inl a1), some (.inl a2)] [] σ := by
  intro n
  induction n with
  | zero =>
    intro a1 a2 σ h
    unfold f_M_areAllDone_84_p2 at h
    cases h
  | succ n ih =>
    intro a1 a2 σ h
    unfold f_M_areAllDone_84_p2 at h
    refine H [((1, 2, 0, 0, []), 1), ((1, 1, 0, 0, []), 1), ((13, 3, 25, 0, []), 3), ((2, 0, 0, 0, []), 1), ((17, 84, 118, 0, []), 3), ((1, 2, 0, 0, []), 1), ((19, 118, 20, 0, []), 1), ((0, 0, 0, 2, []), 1), ((13, 0, 19, 0, []), 3), ((0, 0, 0, 0, []), 1), ((27, 1, 0, 0, []), 1)] 2 _ _ _ (by decide +kernel) ?_
    rcases px_ite h with ⟨c1, h⟩ | ⟨c1, h⟩
    · refine And.intro (fun _ => ?_) (fun hn => absurd c1 hn)
      refine H [((0, 0, 0, 1, []), 1), ((27, 1, 0, 0, []), 1)] 25 _ _ _ (by decide +kernel) ?_
      refine And.intro (show (0 : Int) ≤ 1 ∧ (1 : Int) ≤ 1 from by decide) ?_
      exact Prod.mk.inj (Option.some.inj h)
    · refine And.intro (fun hp => absurd hp c1) (fun _ => ?_)
      obtain ⟨g2, h⟩ := px_gd h
      refine And.intro g2 ?_
      rcases px_ite h with ⟨c3, h⟩ | ⟨c3, h⟩
      · refine And.intro (fun _ => ?_) (fun hn => absurd c3 hn)
        refine H [((5, 2, 0, 1, []), 3), ((12, 0, 2, 0, []), 3)] 19 _ _ _ (by decide +kernel) ?_
        exact ih _ _ _ h
      · refine And.intro (fun hp => absurd hp c3) (fun _ => ?_)
        refine And.intro (show (0 : Int) ≤ 0 ∧ (0 : Int) ≤ 1 from by decide) ?_
        exact Prod.mk.inj (Option.some.inj h)
theorem ok_M_areAllDone_84_w {l : Launch} {rv : Int} {rσ : pS} {G : Nat → pL → List pV → pS → Prop} (H : px_R l 0 207 rv rσ G) : ∀ (a1 : Int) (σ : pS), f_M_areAllDone_84 a1 σ = some (rv, rσ) → G 0 [some (.inr 84), some (.inl a1), none] [] σ := by
  intro a1 σ h
  unfold f_M_areAllDone_84 at h
  refine H [((0, 0, 0, 0, []), 1), ((3, 2, 0, 0, []), 1)] 0 _ _ _ (by decide +kernel) ?_
  exact ok_M_areAllDone_84_p2 H _ _ _ _ h
theorem ok_M_areAllDone_84 {l : Launch} {a1 : Int} {σ : pS} {v : Int} {σ1 : pS} (h : f_M_areAllDone_84 a1 σ = some (v, σ1)) : Con l 0 207 [.inr 84, .inl a1] σ v σ1 := Con_mk 2 3 rfl (by decide +kernel) (fun _ H => ok_M_areAllDone_84_w H _ _ h)
theorem ok_M_undoesTo_84_p26 {l : Launch} {rv : Int} {rσ : pS} {G : Nat → pL → List pV → pS → Prop} (H : px_R l 0 196 rv rσ G) {k_7 : Int → Int → pS → Option (Int × pS)} (hk_7 : ∀ (a1 a2 : Int) (σ : pS), k_7 a1 a2 σ = some (rv, rσ) → G 7 [some (.inr 84), some (.inl a1), some (.inl a2), none] [] σ) : ∀ (n : Nat) (a1 a2 a3 : Int) (σ : pS), f_M_undoesTo_84_p26 k_7 n a1 a2 a3 σ = some (rv, rσ) → G 26 [some (.inr 84), some (.inl a1), some (.inl a2), some (.inl a3)] [] σ := by
  intro n
  induction n with
  | zero =>
    intro a1 a2 a3 σ h
    unfold f_M_undoesTo_84_p26 at h
    cases h
  | succ n ih =>
    intro a1 a2 a3 σ h
    unfold f_M_undoesTo_84_p26 at h
    refine H [((1, 3, 0, 0, []), 1), ((2, 0, 0, 0, []), 1), ((17, 84, 93, 0, []), 3), ((1, 2, 0, 0, []), 1), ((19, 93, 20, 0, []), 1), ((13, 3, 68, 0, []), 3), ((2, 0, 0, 0, []), 1), ((17, 84, 128, 0, []), 3), ((2, 0, 0, 0, []), 1), ((17, 84, 132, 0, []), 3), ((1, 2, 0, 0, []), 1), ((19, 132, 20, 0, []), 1), ((1, 3, 0, 0, []), 1), ((6, 0, 0, 0, []), 1), ((0, 0, 0, 63, []), 2), ((6, 3, 0, 0, []), 1), ((2, 0, 0, 0, []), 1), ((17, 84, 125, 0, []), 3), ((0, 0, 0, 4, []), 1), ((1, 2, 0, 0, []), 1), ((6, 2, 0, 0, []), 1), ((1, 3, 0, 0, []), 1), ((6, 0, 0, 0, []), 1), ((19, 125, 80, 0, []), 1), ((20, 128, 64, 0, []), 1), ((5, 3, 0, 1, []), 3), ((12, 0, 26, 0, []), 3)] 26 _ _ _ (by decide +kernel) ?_
    obtain ⟨g4, h⟩ := px_gd h
    refine And.intro g4 ?_
    rcases px_ite h with ⟨c5, h⟩ | ⟨c5, h⟩
    · refine And.intro (fun _ => ?_) (fun hn => absurd c5 hn)
      refine H [((2, 0, 0, 0, []), 1), ((17, 84, 126, 0, []), 3), ((1, 2, 0, 0, []), 1), ((0, 0, 0, 0, []), 1), ((20, 126, 20, 1, []), 1), ((2, 0, 0, 0, []), 1), ((2, 0, 0, 0, []), 1), ((16, 84, 67, 0, []), 3), ((0, 0, 0, 1, []), 1), ((6, 0, 0, 0, []), 1), ((18, 84, 67, 0, []), 3), ((5, 2, 0, (-1), []), 3), ((12, 0, 7, 0, []), 3), ((29, 3, 0, 0, []), 0)] 68 _ _ _ (by decide +kernel) ?_
      obtain ⟨g6, h⟩ := px_gd h
      refine And.intro g6 ?_
      refine And.intro (show (0 : Int) ≤ 0 ∧ (0 : Int) ≤ 1 from by decide) ?_
      exact hk_7 _ _ _ h
    · refine And.intro (fun hp => absurd hp c5) (fun _ => ?_)
      obtain ⟨g7, h⟩ := px_gd h
      refine And.intro g7 ?_
      obtain ⟨g8, h⟩ := px_gd h
      refine And.intro g8 ?_
      obtain ⟨g9, h⟩ := px_gd h
      refine And.intro g9 ?_
      exact ih _ _ _ _ h
theorem ok_M_undoesTo_84_p7 {l : Launch} {rv : Int} {rσ : pS} {G : Nat → pL → List pV → pS → Prop} (H : px_R l 0 196 rv rσ G) : ∀ (n : Nat) (a1 a2 : Int) (σ : pS), f_M_undoesTo_84_p7 n a1 a2 σ = some (rv, rσ) → G 7 [some (.inr 84), some (.inl a1), some (.inl a2), none] [] σ := by
  intro n
  induction n with
  | zero =>
    intro a1 a2 σ h
    unfold f_M_undoesTo_84_p7 at h
    cases h
  | succ n ih =>
    intro a1 a2 σ h
    unfold f_M_undoesTo_84_p7 at h
    refine H [((1, 2, 0, 0, []), 1), ((1, 1, 0, 0, []), 1), ((13, 2, 91, 0, []), 3), ((2, 0, 0, 0, []), 1), ((17, 84, 126, 0, []), 3), ((1, 2, 0, 0, []), 1), ((19, 126, 20, 0, []), 1), ((14, 1, 24, 0, []), 3), ((12, 0, 85, 0, []), 3), ((5, 2, 0, (-1), []), 3), ((12, 0, 7, 0, []), 3)] 7 _ _ _ (by decide +kernel) ?_
    rcases px_ite h with ⟨c1, h⟩ | ⟨c1, h⟩
    · refine And.intro (fun _ => ?_) (fun hn => absurd c1 hn)
      refine H [((28, 0, 0, 0, []), 1)] 91 _ _ _ (by decide +kernel) ?_
      exact (Prod.mk.inj (Option.some.inj h)).2
    · refine And.intro (fun hp => absurd hp c1) (fun _ => ?_)
      obtain ⟨g2, h⟩ := px_gd h
      refine And.intro g2 ?_
      rcases px_ite h with ⟨c3, h⟩ | ⟨c3, h⟩
      · refine And.intro (fun hp => absurd c3 hp) (fun _ => ?_)
        exact ih _ _ _ h
      · refine And.intro (fun _ => ?_) (fun hn => absurd c3 hn)
        refine H [((0, 0, 0, 0, []), 1), ((3, 3, 0, 0, []), 1)] 24 _ _ _ (by decide +kernel) ?_
        exact ok_M_undoesTo_84_p26 H ih _ _ _ _ _ h
theorem ok_M_undoesTo_84_w {l : Launch} {rv : Int} {rσ : pS} {G : Nat → pL → List pV → pS → Prop} (H : px_R l 0 196 rv rσ G) : ∀ (a1 : Int) (σ : pS), f_M_undoesTo_84 a1 σ = some (rv, rσ) → G 0 [some (.inr 84), some (.inl a1), none, none] [] σ := by
  intro a1 σ h
  unfold f_M_undoesTo_84 at h
  refine H [((2, 0, 0, 0, []), 1), ((16, 84, 2, 0, []), 3), ((0, 0, 0, 1, []), 1), ((6, 1, 0, 0, []), 1), ((3, 2, 0, 0, []), 1)] 0 _ _ _ (by decide +kernel) ?_
  exact ok_M_undoesTo_84_p7 H _ _ _ _ h
theorem ok_M_undoesTo_84 {l : Launch} {a1 : Int} {σ : pS} {v : Int} {σ1 : pS} (h : f_M_undoesTo_84 a1 σ = some (v, σ1)) : Con l 0 196 [.inr 84, .inl a1] σ v σ1 := Con_mk 2 4 rfl (by decide +kernel) (fun _ H => ok_M_undoesTo_84_w H _ _ h)
theorem ok_M_byteOf_w {l : Launch} {rv : Int} {rσ : pS} {G : Nat → pL → List pV → pS → Prop} (H : px_R l 0 185 rv rσ G) : ∀ (a0 a1 : Int) (σ : pS), f_M_byteOf a0 a1 σ = some (rv, rσ) → G 0 [some (.inl a0), some (.inl a1)] [] σ := by
  intro a0 a1 σ h
  unfold f_M_byteOf at h
  refine H [((1, 0, 0, 0, []), 1), ((0, 0, 0, 8, []), 2), ((1, 1, 0, 0, []), 1), ((6, 2, 0, 0, []), 1), ((6, 7, 0, 0, []), 1), ((0, 0, 0, 255, []), 3), ((6, 3, 0, 0, []), 1), ((27, 0, 0, 0, []), 1)] 0 _ _ _ (by decide +kernel) ?_
  exact Prod.mk.inj (Option.some.inj h)
theorem ok_M_byteOf {l : Launch} {a0 a1 : Int} {σ : pS} {v : Int} {σ1 : pS} (h : f_M_byteOf a0 a1 σ = some (v, σ1)) : Con l 0 185 [.inl a0, .inl a1] σ v σ1 := Con_mk 2 2 rfl (by decide +kernel) (fun _ H => ok_M_byteOf_w H _ _ _ h)
theorem ok_M_feels_84_p55 {l : Launch} {rv : Int} {rσ : pS} {G : Nat → pL → List pV → pS → Prop} (H : px_R l 0 201 rv rσ G) : ∀ (a1 a3 s0 s1 : Int) (σ : pS), f_M_feels_84_p55 a1 a3 s0 s1 σ = some (rv, rσ) → G 55 [some (.inr 84), some (.inl a1), none, some (.inl a3)] [.inl s0, .inl s1, .inr 109] σ := by
  intro a1 a3 s0 s1 σ h
  unfold f_M_feels_84_p55 at h
  refine H [((20, 109, 7, 0, []), 1), ((2, 0, 0, 0, []), 1), ((17, 84, 109, 0, []), 3), ((0, 0, 0, 4, []), 1), ((2, 0, 0, 0, []), 1), ((17, 84, 123, 0, []), 3), ((1, 1, 0, 0, []), 1), ((19, 123, 20, 0, []), 1), ((20, 109, 7, 0, []), 1), ((2, 0, 0, 0, []), 1), ((17, 84, 109, 0, []), 3), ((0, 0, 0, 5, []), 1), ((2, 0, 0, 0, []), 1), ((16, 84, 1, 0, []), 3), ((0, 0, 0, 100, []), 2), ((7, 1, 0, 0, []), 1), ((20, 109, 7, 0, []), 1), ((2, 0, 0, 0, []), 1), ((17, 84, 109, 0, []), 3), ((0, 0, 0, 6, []), 2), ((1, 3, 0, 0, []), 1), ((20, 109, 7, 0, []), 1), ((28, 0, 0, 0, []), 1)] 55 _ _ _ (by decide +kernel) ?_
  obtain ⟨g6, h⟩ := px_gd h
  refine And.intro g6 ?_
  obtain ⟨g7, h⟩ := px_gd h
  refine And.intro g7 ?_
  refine And.intro (show (0 : Int) ≤ 4 ∧ (4 : Int) < 7 from by decide) ?_
  refine And.intro (show (100 : Int) ≠ 0 from by decide) (fun r8 hr8 => ?_)
  replace hr8 : r8 = pRem (σ 84 1) 100 := hr8.trans (px_dr_1 _ _)
  try rw [← hr8] at h
  refine And.intro (show (0 : Int) ≤ 5 ∧ (5 : Int) < 7 from by decide) ?_
  refine And.intro (show (0 : Int) ≤ 6 ∧ (6 : Int) < 7 from by decide) ?_
  exact (Prod.mk.inj (Option.some.inj h)).2
theorem ok_M_feels_84_w {l : Launch} {rv : Int} {rσ : pS} {G : Nat → pL → List pV → pS → Prop} (H : px_R l 0 201 rv rσ G) : ∀ (a1 a2 a3 : Int) (σ : pS), f_M_feels_84 a1 a2 a3 σ = some (rv, rσ) → G 0 [some (.inr 84), some (.inl a1), some (.inl a2), some (.inl a3)] [] σ := by
  intro a1 a2 a3 σ h
  unfold f_M_feels_84 at h
  refine H [((2, 0, 0, 0, []), 1), ((17, 84, 109, 0, []), 3), ((0, 0, 0, 0, []), 1), ((1, 1, 0, 0, []), 1), ((20, 109, 7, 0, []), 1), ((2, 0, 0, 0, []), 1), ((17, 84, 109, 0, []), 3), ((0, 0, 0, 1, []), 1), ((2, 0, 0, 0, []), 1), ((17, 84, 88, 0, []), 3), ((1, 1, 0, 0, []), 1), ((19, 88, 20, 0, []), 1), ((20, 109, 7, 0, []), 1), ((2, 0, 0, 0, []), 1), ((17, 84, 109, 0, []), 3), ((0, 0, 0, 2, []), 1), ((1, 2, 0, 0, []), 1), ((0, 0, 0, 100, []), 2), ((7, 1, 0, 0, []), 1), ((20, 109, 7, 0, []), 1), ((2, 0, 0, 0, []), 1), ((17, 84, 109, 0, []), 3), ((0, 0, 0, 3, []), 1), ((2, 0, 0, 0, []), 1), ((17, 84, 87, 0, []), 3), ((1, 1, 0, 0, []), 1), ((19, 87, 20, 0, []), 1), ((0, 0, 0, (-1), []), 1), ((13, 1, 49, 0, []), 3), ((0, 0, 0, 16, []), 2), ((12, 0, 55, 0, []), 3), ((29, 2, 0, 0, []), 0)] 0 _ _ _ (by decide +kernel) ?_
  refine And.intro (show (0 : Int) ≤ 0 ∧ (0 : Int) < 7 from by decide) ?_
  obtain ⟨g1, h⟩ := px_gd h
  refine And.intro g1 ?_
  refine And.intro (show (0 : Int) ≤ 1 ∧ (1 : Int) < 7 from by decide) ?_
  refine And.intro (show (100 : Int) ≠ 0 from by decide) (fun r2 hr2 => ?_)
  replace hr2 : r2 = pRem a2 100 := hr2.trans (px_dr_1 _ _)
  try rw [← hr2] at h
  refine And.intro (show (0 : Int) ≤ 2 ∧ (2 : Int) < 7 from by decide) ?_
  obtain ⟨g3, h⟩ := px_gd h
  refine And.intro g3 ?_
  rcases px_ite h with ⟨c4, h⟩ | ⟨c4, h⟩
  · refine And.intro (fun hp => absurd c4 hp) (fun _ => ?_)
    exact ok_M_feels_84_p55 H _ _ _ _ _ h
  · refine And.intro (fun _ => ?_) (fun hn => absurd c4 hn)
    refine H [((2, 0, 0, 0, []), 1), ((17, 84, 87, 0, []), 3), ((1, 1, 0, 0, []), 1), ((19, 87, 20, 0, []), 1), ((29, 2, 0, 0, []), 0)] 49 _ _ _ (by decide +kernel) ?_
    obtain ⟨g5, h⟩ := px_gd h
    refine And.intro g5 ?_
    exact ok_M_feels_84_p55 H _ _ _ _ _ h
theorem ok_M_feels_84 {l : Launch} {a1 a2 a3 : Int} {σ : pS} {v : Int} {σ1 : pS} (h : f_M_feels_84 a1 a2 a3 σ = some (v, σ1)) : Con l 0 201 [.inr 84, .inl a1, .inl a2, .inl a3] σ v σ1 := Con_mk 4 4 rfl (by decide +kernel) (fun _ H => ok_M_feels_84_w H _ _ _ _ h)
theorem ok_M_reckon_w {l : Launch} {rv : Int} {rσ : pS} {G : Nat → pL → List pV → pS → Prop} (H : px_R l 0 204 rv rσ G) : ∀ (a0 a1 a2 : Int) (σ : pS), f_M_reckon a0 a1 a2 σ = some (rv, rσ) → G 0 [some (.inl a0), some (.inl a1), some (.inl a2)] [] σ := by
  intro a0 a1 a2 σ h
  unfold f_M_reckon at h
  refine H [((1, 0, 0, 0, []), 1), ((15, 0, 86, 0, [(2, 44), (3, 48), (4, 52), (5, 56), (6, 60), (7, 64), (8, 75)]), 43)] 0 _ _ _ (by decide +kernel) ?_
  rcases px_ite h with ⟨c1, h⟩ | ⟨c1, h⟩
  · refine And.intro (fun _ => ?_) (fun hn => absurd c1 hn)
    refine H [((1, 1, 0, 0, []), 1), ((1, 2, 0, 0, []), 1), ((6, 0, 0, 0, []), 1), ((27, 0, 0, 0, []), 1)] 44 _ _ _ (by decide +kernel) ?_
    exact Prod.mk.inj (Option.some.inj h)
  · refine And.intro (fun hp => absurd hp c1) (fun _ => ?_)
    rcases px_ite h with ⟨c2, h⟩ | ⟨c2, h⟩
    · refine And.intro (fun _ => ?_) (fun hn => absurd c2 hn)
      refine H [((1, 1, 0, 0, []), 1), ((1, 2, 0, 0, []), 1), ((6, 1, 0, 0, []), 1), ((27, 0, 0, 0, []), 1)] 48 _ _ _ (by decide +kernel) ?_
      exact Prod.mk.inj (Option.some.inj h)
    · refine And.intro (fun hp => absurd hp c2) (fun _ => ?_)
      rcases px_ite h with ⟨c3, h⟩ | ⟨c3, h⟩
      · refine And.intro (fun _ => ?_) (fun hn => absurd c3 hn)
        refine H [((1, 1, 0, 0, []), 1), ((1, 2, 0, 0, []), 1), ((6, 2, 0, 0, []), 1), ((27, 0, 0, 0, []), 1)] 52 _ _ _ (by decide +kernel) ?_
        exact Prod.mk.inj (Option.some.inj h)
      · refine And.intro (fun hp => absurd hp c3) (fun _ => ?_)
        rcases px_ite h with ⟨c4, h⟩ | ⟨c4, h⟩
        · refine And.intro (fun _ => ?_) (fun hn => absurd c4 hn)
          refine H [((1, 1, 0, 0, []), 1), ((1, 2, 0, 0, []), 1), ((7, 0, 0, 0, []), 1), ((27, 0, 0, 0, []), 1)] 56 _ _ _ (by decide +kernel) ?_
          obtain ⟨g6, h⟩ := px_gd h
          refine And.intro g6 (fun r5 hr5 => ?_)
          replace hr5 : r5 = pDiv a1 a2 := hr5.trans (px_dr_0 _ _)
          try rw [← hr5] at h
          exact Prod.mk.inj (Option.some.inj h)
        · refine And.intro (fun hp => absurd hp c4) (fun _ => ?_)
          rcases px_ite h with ⟨c7, h⟩ | ⟨c7, h⟩
          · refine And.intro (fun _ => ?_) (fun hn => absurd c7 hn)
            refine H [((1, 1, 0, 0, []), 1), ((1, 2, 0, 0, []), 1), ((7, 1, 0, 0, []), 1), ((27, 0, 0, 0, []), 1)] 60 _ _ _ (by decide +kernel) ?_
            obtain ⟨g9, h⟩ := px_gd h
            refine And.intro g9 (fun r8 hr8 => ?_)
            replace hr8 : r8 = pRem a1 a2 := hr8.trans (px_dr_1 _ _)
            try rw [← hr8] at h
            exact Prod.mk.inj (Option.some.inj h)
          · refine And.intro (fun hp => absurd hp c7) (fun _ => ?_)
            rcases px_ite h with ⟨c10, h⟩ | ⟨c10, h⟩
            · refine And.intro (fun _ => ?_) (fun hn => absurd c10 hn)
              refine H [((1, 1, 0, 0, []), 1), ((1, 2, 0, 0, []), 1), ((13, 3, 73, 0, []), 3), ((0, 0, 0, 1, []), 1), ((12, 0, 74, 0, []), 3), ((27, 0, 0, 0, []), 1)] 64 _ _ _ (by decide +kernel) ?_
              rcases px_ite h with ⟨c11, h⟩ | ⟨c11, h⟩
              · refine And.intro (fun _ => ?_) (fun hn => absurd c11 hn)
                refine H [((0, 0, 0, 0, []), 1), ((27, 0, 0, 0, []), 1)] 73 _ _ _ (by decide +kernel) ?_
                exact Prod.mk.inj (Option.some.inj h)
              · refine And.intro (fun hp => absurd hp c11) (fun _ => ?_)
                exact Prod.mk.inj (Option.some.inj h)
            · refine And.intro (fun hp => absurd hp c10) (fun _ => ?_)
              rcases px_ite h with ⟨c12, h⟩ | ⟨c12, h⟩
              · refine And.intro (fun _ => ?_) (fun hn => absurd c12 hn)
                refine H [((1, 1, 0, 0, []), 1), ((1, 2, 0, 0, []), 1), ((13, 5, 84, 0, []), 3), ((0, 0, 0, 1, []), 1), ((12, 0, 85, 0, []), 3), ((27, 0, 0, 0, []), 1)] 75 _ _ _ (by decide +kernel) ?_
                rcases px_ite h with ⟨c13, h⟩ | ⟨c13, h⟩
                · refine And.intro (fun _ => ?_) (fun hn => absurd c13 hn)
                  refine H [((0, 0, 0, 0, []), 1), ((27, 0, 0, 0, []), 1)] 84 _ _ _ (by decide +kernel) ?_
                  exact Prod.mk.inj (Option.some.inj h)
                · refine And.intro (fun hp => absurd hp c13) (fun _ => ?_)
                  exact Prod.mk.inj (Option.some.inj h)
              · refine And.intro (fun hp => absurd hp c12) (fun _ => ?_)
                refine H [((1, 1, 0, 0, []), 1), ((1, 2, 0, 0, []), 1), ((13, 1, 95, 0, []), 3), ((0, 0, 0, 1, []), 1), ((12, 0, 96, 0, []), 3), ((27, 0, 0, 0, []), 1)] 86 _ _ _ (by decide +kernel) ?_
                rcases px_ite h with ⟨c14, h⟩ | ⟨c14, h⟩
                · refine And.intro (fun hp => absurd c14 hp) (fun _ => ?_)
                  exact Prod.mk.inj (Option.some.inj h)
                · refine And.intro (fun _ => ?_) (fun hn => absurd c14 hn)
                  refine H [((0, 0, 0, 0, []), 1), ((27, 0, 0, 0, []), 1)] 95 _ _ _ (by decide +kernel) ?_
                  exact Prod.mk.inj (Option.some.inj h)
theorem ok_M_reckon {l : Launch} {a0 a1 a2 : Int} {σ : pS} {v : Int} {σ1 : pS} (h : f_M_reckon a0 a1 a2 σ = some (v, σ1)) : Con l 0 204 [.inl a0, .inl a1, .inl a2] σ v σ1 := Con_mk 3 3 rfl (by decide +kernel) (fun _ H => ok_M_reckon_w H _ _ _ _ h)
