theorem ok_Tape_ended_1_w {l : Launch} {rv : Int} {rσ : pS} {G : Nat → pL → List pV → pS → Prop} (H : px_R l 0 37 rv rσ G) : ∀ (σ : pS), f_Tape_ended_1  σ = some (rv, rσ) → G 0 [some (.inr 1)] [] σ := by
  intro  σ h
  unfold f_Tape_ended_1 at h
  refine H [((2, 0, 0, 0, []), 1), ((16, 1, 3, 0, []), 3), ((2, 0, 0, 0, []), 1), ((16, 1, 2, 0, []), 3), ((13, 2, 15, 0, []), 3), ((0, 0, 0, 1, []), 1), ((12, 0, 16, 0, []), 3), ((27, 1, 0, 0, []), 1)] 0 _ _ _ (by decide +kernel) ?_
  rcases px_ite h with ⟨c1, h⟩ | ⟨c1, h⟩
  · refine And.intro (fun _ => ?_) (fun hn => absurd c1 hn)
    refine H [((0, 0, 0, 0, []), 1), ((27, 1, 0, 0, []), 1)] 15 _ _ _ (by decide +kernel) ?_
    refine And.intro (show (0 : Int) ≤ 0 ∧ (0 : Int) ≤ 1 from by decide) ?_
    exact Prod.mk.inj (Option.some.inj h)
  · refine And.intro (fun hp => absurd hp c1) (fun _ => ?_)
    refine And.intro (show (0 : Int) ≤ 1 ∧ (1 : Int) ≤ 1 from by decide) ?_
    exact Prod.mk.inj (Option.some.inj h)
theorem ok_Tape_ended_1 {l : Launch} {σ : pS} {v : Int} {σ1 : pS} (h : f_Tape_ended_1  σ = some (v, σ1)) : Con l 0 37 [.inr 1] σ v σ1 := Con_mk 1 1 rfl (by decide +kernel) (fun _ H => ok_Tape_ended_1_w H  _ h)
theorem ok_Arrays_fill_55_p5 {l : Launch} {rv : Int} {rσ : pS} {G : Nat → pL → List pV → pS → Prop} (H : px_R l 0 6 rv rσ G) : ∀ (n : Nat) (a1 a2 a3 : Int) (σ : pS), f_Arrays_fill_55_p5 n a1 a2 a3 σ = some (rv, rσ) → G 5 [some (.inr 55), some (.inl a1), some (.inl a2), some (.inl a3)] [] σ := by
  intro n
  induction n with
  | zero =>
    intro a1 a2 a3 σ h
    unfold f_Arrays_fill_55_p5 at h
    cases h
  | succ n ih =>
    intro a1 a2 a3 σ h
    unfold f_Arrays_fill_55_p5 at h
    refine H [((1, 2, 0, 0, []), 1), ((1, 3, 0, 0, []), 1), ((13, 3, 20, 0, []), 3), ((2, 0, 0, 0, []), 1), ((1, 2, 0, 0, []), 1), ((1, 1, 0, 0, []), 1), ((20, 55, 8, 0, []), 1), ((5, 2, 0, 1, []), 3), ((12, 0, 5, 0, []), 3)] 5 _ _ _ (by decide +kernel) ?_
    rcases px_ite h with ⟨c1, h⟩ | ⟨c1, h⟩
    · refine And.intro (fun _ => ?_) (fun hn => absurd c1 hn)
      refine H [((28, 0, 0, 0, []), 1)] 20 _ _ _ (by decide +kernel) ?_
      exact (Prod.mk.inj (Option.some.inj h)).2
    · refine And.intro (fun hp => absurd hp c1) (fun _ => ?_)
      obtain ⟨g2, h⟩ := px_gd h
      refine And.intro g2 ?_
      exact ih _ _ _ _ h
theorem ok_Arrays_fill_55_w {l : Launch} {rv : Int} {rσ : pS} {G : Nat → pL → List pV → pS → Prop} (H : px_R l 0 6 rv rσ G) : ∀ (a1 : Int) (σ : pS), f_Arrays_fill_55 a1 σ = some (rv, rσ) → G 0 [some (.inr 55), some (.inl a1), none, none] [] σ := by
  intro a1 σ h
  unfold f_Arrays_fill_55 at h
  refine H [((0, 0, 0, 0, []), 1), ((3, 2, 0, 0, []), 1), ((2, 0, 0, 0, []), 1), ((21, 55, 8, 0, []), 1), ((3, 3, 0, 0, []), 1)] 0 _ _ _ (by decide +kernel) ?_
  exact ok_Arrays_fill_55_p5 H _ _ _ _ _ h
theorem ok_Arrays_fill_55 {l : Launch} {a1 : Int} {σ : pS} {v : Int} {σ1 : pS} (h : f_Arrays_fill_55 a1 σ = some (v, σ1)) : Con l 0 6 [.inr 55, .inl a1] σ v σ1 := Con_mk 2 4 rfl (by decide +kernel) (fun _ H => ok_Arrays_fill_55_w H _ _ h)
theorem ok_X_isCell_w {l : Launch} {rv : Int} {rσ : pS} {G : Nat → pL → List pV → pS → Prop} (H : px_R l 0 52 rv rσ G) : ∀ (a0 : Int) (σ : pS), f_X_isCell a0 σ = some (rv, rσ) → G 0 [some (.inl a0)] [] σ := by
  intro a0 σ h
  unfold f_X_isCell at h
  refine H [((1, 0, 0, 0, []), 1), ((14, 2, 14, 0, []), 3), ((1, 0, 0, 0, []), 1), ((0, 0, 0, 8, []), 2), ((13, 3, 14, 0, []), 3), ((0, 0, 0, 1, []), 1), ((12, 0, 15, 0, []), 3), ((27, 1, 0, 0, []), 1)] 0 _ _ _ (by decide +kernel) ?_
  rcases px_ite h with ⟨c1, h⟩ | ⟨c1, h⟩
  · refine And.intro (fun _ => ?_) (fun hn => absurd c1 hn)
    refine H [((0, 0, 0, 0, []), 1), ((27, 1, 0, 0, []), 1)] 14 _ _ _ (by decide +kernel) ?_
    refine And.intro (show (0 : Int) ≤ 0 ∧ (0 : Int) ≤ 1 from by decide) ?_
    exact Prod.mk.inj (Option.some.inj h)
  · refine And.intro (fun hp => absurd hp c1) (fun _ => ?_)
    rcases px_ite h with ⟨c2, h⟩ | ⟨c2, h⟩
    · refine And.intro (fun _ => ?_) (fun hn => absurd c2 hn)
      refine H [((0, 0, 0, 0, []), 1), ((27, 1, 0, 0, []), 1)] 14 _ _ _ (by decide +kernel) ?_
      refine And.intro (show (0 : Int) ≤ 0 ∧ (0 : Int) ≤ 1 from by decide) ?_
      exact Prod.mk.inj (Option.some.inj h)
    · refine And.intro (fun hp => absurd hp c2) (fun _ => ?_)
      refine And.intro (show (0 : Int) ≤ 1 ∧ (1 : Int) ≤ 1 from by decide) ?_
      exact Prod.mk.inj (Option.some.inj h)
theorem ok_X_isCell {l : Launch} {a0 : Int} {σ : pS} {v : Int} {σ1 : pS} (h : f_X_isCell a0 σ = some (v, σ1)) : Con l 0 52 [.inl a0] σ v σ1 := Con_mk 1 1 rfl (by decide +kernel) (fun _ H => ok_X_isCell_w H _ _ h)
theorem ok_Prog_giverOfRegister_45_w {l : Launch} {rv : Int} {rσ : pS} {G : Nat → pL → List pV → pS → Prop} (H : px_R l 1 51 rv rσ G) : ∀ (a1 : Int) (σ : pS), f_Prog_giverOfRegister_45 a1 σ = some (rv, rσ) → G 0 [some (.inr 45), some (.inl a1)] [] σ := by
  intro a1 σ h
  unfold f_Prog_giverOfRegister_45 at h
  refine H [((1, 1, 0, 0, []), 1), ((24, 52, 1, 1, []), 3), ((14, 0, 16, 0, []), 3), ((2, 0, 0, 0, []), 1), ((17, 45, 55, 0, []), 3), ((1, 1, 0, 0, []), 1), ((19, 55, 8, 0, []), 1), ((12, 0, 17, 0, []), 3), ((27, 0, 0, 0, []), 1)] 0 _ _ _ (by decide +kernel) ?_
  obtain ⟨⟨vq1, σq1⟩, hq1, h⟩ := px_bind h
  dsimp only at h
  refine Exists.intro 0 (Exists.intro vq1 (Exists.intro σq1 (And.intro (Nat.le_of_ble_eq_true rfl) (And.intro (ok_X_isCell hq1) ?_))))
  rcases px_ite h with ⟨c2, h⟩ | ⟨c2, h⟩
  · refine And.intro (fun _ => ?_) (fun hn => absurd c2 hn)
    refine H [((0, 0, 0, (-1), []), 1), ((27, 0, 0, 0, []), 1)] 16 _ _ _ (by decide +kernel) ?_
    exact Prod.mk.inj (Option.some.inj h)
  · refine And.intro (fun hp => absurd hp c2) (fun _ => ?_)
    obtain ⟨g3, h⟩ := px_gd h
    refine And.intro g3 ?_
    exact Prod.mk.inj (Option.some.inj h)
theorem ok_Prog_giverOfRegister_45 {l : Launch} {a1 : Int} {σ : pS} {v : Int} {σ1 : pS} (h : f_Prog_giverOfRegister_45 a1 σ = some (v, σ1)) : Con l 1 51 [.inr 45, .inl a1] σ v σ1 := Con_mk 2 2 rfl (by decide +kernel) (fun _ H => ok_Prog_giverOfRegister_45_w H _ _ h)
theorem ok_Prog_depthOf_45_w {l : Launch} {rv : Int} {rσ : pS} {G : Nat → pL → List pV → pS → Prop} (H : px_R l 0 53 rv rσ G) : ∀ (a1 : Int) (σ : pS), f_Prog_depthOf_45 a1 σ = some (rv, rσ) → G 0 [some (.inr 45), some (.inl a1)] [] σ := by
  intro a1 σ h
  unfold f_Prog_depthOf_45 at h
  refine H [((1, 1, 0, 0, []), 1), ((14, 2, 19, 0, []), 3), ((1, 1, 0, 0, []), 1), ((0, 0, 0, 20, []), 2), ((13, 3, 19, 0, []), 3), ((2, 0, 0, 0, []), 1), ((17, 45, 56, 0, []), 3), ((1, 1, 0, 0, []), 1), ((19, 56, 20, 0, []), 1), ((12, 0, 20, 0, []), 3), ((27, 0, 0, 0, []), 1)] 0 _ _ _ (by decide +kernel) ?_
  rcases px_ite h with ⟨c1, h⟩ | ⟨c1, h⟩
  · refine And.intro (fun _ => ?_) (fun hn => absurd c1 hn)
    refine H [((0, 0, 0, 0, []), 1), ((27, 0, 0, 0, []), 1)] 19 _ _ _ (by decide +kernel) ?_
    exact Prod.mk.inj (Option.some.inj h)
  · refine And.intro (fun hp => absurd hp c1) (fun _ => ?_)
    rcases px_ite h with ⟨c2, h⟩ | ⟨c2, h⟩
    · refine And.intro (fun _ => ?_) (fun hn => absurd c2 hn)
      refine H [((0, 0, 0, 0, []), 1), ((27, 0, 0, 0, []), 1)] 19 _ _ _ (by decide +kernel) ?_
      exact Prod.mk.inj (Option.some.inj h)
    · refine And.intro (fun hp => absurd hp c2) (fun _ => ?_)
      obtain ⟨g3, h⟩ := px_gd h
      refine And.intro g3 ?_
      exact Prod.mk.inj (Option.some.inj h)
theorem ok_Prog_depthOf_45 {l : Launch} {a1 : Int} {σ : pS} {v : Int} {σ1 : pS} (h : f_Prog_depthOf_45 a1 σ = some (v, σ1)) : Con l 0 53 [.inr 45, .inl a1] σ v σ1 := Con_mk 2 2 rfl (by decide +kernel) (fun _ H => ok_Prog_depthOf_45_w H _ _ h)
theorem ok_Prog_findSources_45_p15 {l : Launch} {rv : Int} {rσ : pS} {G : Nat → pL → List pV → pS → Prop} (H : px_R l 2 50 rv rσ G) : ∀ (n : Nat) (a1 : Int) (σ : pS), f_Prog_findSources_45_p15 n a1 σ = some (rv, rσ) → G 15 [some (.inr 45), some (.inl a1)] [] σ := by
  intro n
  induction n with
  | zero =>
    intro a1 σ h
    unfold f_Prog_findSources_45_p15 at h
    cases h
  | succ n ih =>
    intro a1 σ h
    unfold f_Prog_findSources_45_p15 at h
    refine H [((1, 1, 0, 0, []), 1), ((2, 0, 0, 0, []), 1), ((16, 45, 11, 0, []), 3), ((13, 3, 139, 0, []), 3), ((1, 1, 0, 0, []), 1), ((0, 0, 0, 20, []), 2), ((13, 3, 139, 0, []), 3), ((2, 0, 0, 0, []), 1), ((17, 45, 53, 0, []), 3), ((1, 1, 0, 0, []), 1), ((2, 0, 0, 0, []), 1), ((2, 0, 0, 0, []), 1), ((17, 45, 50, 0, []), 3), ((1, 1, 0, 0, []), 1), ((19, 50, 20, 0, []), 1), ((23, 51, 1, 1, [(0, 45)]), 3), ((20, 53, 20, 0, []), 1), ((2, 0, 0, 0, []), 1), ((17, 45, 54, 0, []), 3), ((1, 1, 0, 0, []), 1), ((2, 0, 0, 0, []), 1), ((2, 0, 0, 0, []), 1), ((17, 45, 51, 0, []), 3), ((1, 1, 0, 0, []), 1), ((19, 51, 20, 0, []), 1), ((23, 51, 1, 1, [(0, 45)]), 3), ((20, 54, 20, 0, []), 1), ((2, 0, 0, 0, []), 1), ((17, 45, 56, 0, []), 3), ((1, 1, 0, 0, []), 1), ((0, 0, 0, 1, []), 1), ((2, 0, 0, 0, []), 1), ((2, 0, 0, 0, []), 1), ((17, 45, 53, 0, []), 3), ((1, 1, 0, 0, []), 1), ((19, 53, 20, 0, []), 1), ((23, 53, 1, 1, [(0, 45)]), 3), ((2, 0, 0, 0, []), 1), ((2, 0, 0, 0, []), 1), ((17, 45, 54, 0, []), 3), ((1, 1, 0, 0, []), 1), ((19, 54, 20, 0, []), 1), ((23, 53, 1, 1, [(0, 45)]), 3), ((25, 1, 0, 0, []), 3), ((6, 0, 0, 0, []), 1), ((20, 56, 20, 0, []), 1), ((2, 0, 0, 0, []), 1), ((2, 0, 0, 0, []), 1), ((16, 45, 12, 0, []), 3), ((2, 0, 0, 0, []), 1), ((17, 45, 56, 0, []), 3), ((1, 1, 0, 0, []), 1), ((19, 56, 20, 0, []), 1), ((25, 1, 0, 0, []), 3), ((18, 45, 12, 0, []), 3), ((2, 0, 0, 0, []), 1), ((17, 45, 49, 0, []), 3), ((1, 1, 0, 0, []), 1), ((19, 49, 20, 0, []), 1), ((24, 52, 1, 1, []), 3), ((14, 0, 133, 0, []), 3), ((2, 0, 0, 0, []), 1), ((17, 45, 55, 0, []), 3), ((2, 0, 0, 0, []), 1), ((17, 45, 49, 0, []), 3), ((1, 1, 0, 0, []), 1), ((19, 49, 20, 0, []), 1), ((1, 1, 0, 0, []), 1), ((20, 55, 8, 0, []), 1), ((5, 1, 0, 1, []), 3), ((12, 0, 15, 0, []), 3)] 15 _ _ _ (by decide +kernel) ?_
    rcases px_ite h with ⟨c2, h⟩ | ⟨c2, h⟩
    · refine And.intro (fun _ => ?_) (fun hn => absurd c2 hn)
      refine H [((28, 0, 0, 0, []), 1)] 139 _ _ _ (by decide +kernel) ?_
      exact (Prod.mk.inj (Option.some.inj h)).2
    · refine And.intro (fun hp => absurd hp c2) (fun _ => ?_)
      rcases px_ite h with ⟨c3, h⟩ | ⟨c3, h⟩
      · refine And.intro (fun _ => ?_) (fun hn => absurd c3 hn)
        refine H [((28, 0, 0, 0, []), 1)] 139 _ _ _ (by decide +kernel) ?_
        exact (Prod.mk.inj (Option.some.inj h)).2
      · refine And.intro (fun hp => absurd hp c3) (fun _ => ?_)
        obtain ⟨g4, h⟩ := px_gd h
        refine And.intro g4 ?_
        obtain ⟨⟨vq5, σq5⟩, hq5, h⟩ := px_bind h
        dsimp only at h
        refine Exists.intro 1 (Exists.intro vq5 (Exists.intro σq5 (And.intro (Nat.le_of_ble_eq_true rfl) (And.intro (ok_Prog_giverOfRegister_45 hq5) ?_))))
        obtain ⟨g6, h⟩ := px_gd h
        refine And.intro g6 ?_
        obtain ⟨g7, h⟩ := px_gd h
        refine And.intro g7 ?_
        obtain ⟨⟨vq8, σq8⟩, hq8, h⟩ := px_bind h
        dsimp only at h
        refine Exists.intro 1 (Exists.intro vq8 (Exists.intro σq8 (And.intro (Nat.le_of_ble_eq_true rfl) (And.intro (ok_Prog_giverOfRegister_45 hq8) ?_))))
        obtain ⟨g9, h⟩ := px_gd h
        refine And.intro g9 ?_
        obtain ⟨g10, h⟩ := px_gd h
        refine And.intro g10 ?_
        obtain ⟨⟨vq11, σq11⟩, hq11, h⟩ := px_bind h
        dsimp only at h
        refine Exists.intro 0 (Exists.intro vq11 (Exists.intro σq11 (And.intro (Nat.le_of_ble_eq_true rfl) (And.intro (ok_Prog_depthOf_45 hq11) ?_))))
        obtain ⟨g12, h⟩ := px_gd h
        refine And.intro g12 ?_
        obtain ⟨⟨vq13, σq13⟩, hq13, h⟩ := px_bind h
        dsimp only at h
        refine Exists.intro 0 (Exists.intro vq13 (Exists.intro σq13 (And.intro (Nat.le_of_ble_eq_true rfl) (And.intro (ok_Prog_depthOf_45 hq13) ?_))))
        obtain ⟨g14, h⟩ := px_gd h
        refine And.intro g14 ?_
        obtain ⟨g15, h⟩ := px_gd h
        refine And.intro g15 ?_
        obtain ⟨g16, h⟩ := px_gd h
        refine And.intro g16 ?_
        obtain ⟨⟨vq17, σq17⟩, hq17, h⟩ := px_bind h
        dsimp only at h
        refine Exists.intro 0 (Exists.intro vq17 (Exists.intro σq17 (And.intro (Nat.le_of_ble_eq_true rfl) (And.intro (ok_X_isCell hq17) ?_))))
        rcases px_ite h with ⟨c18, h⟩ | ⟨c18, h⟩
        · refine And.intro (fun _ => ?_) (fun hn => absurd c18 hn)
          refine H [((5, 1, 0, 1, []), 3), ((12, 0, 15, 0, []), 3)] 133 _ _ _ (by decide +kernel) ?_
          exact ih _ _ h
        · refine And.intro (fun hp => absurd hp c18) (fun _ => ?_)
          obtain ⟨g19, h⟩ := px_gd h
          refine And.intro g19 ?_
          obtain ⟨g20, h⟩ := px_gd h
          refine And.intro g20 ?_
          exact ih _ _ h
theorem ok_Prog_findSources_45_w {l : Launch} {rv : Int} {rσ : pS} {G : Nat → pL → List pV → pS → Prop} (H : px_R l 2 50 rv rσ G) : ∀ (σ : pS), f_Prog_findSources_45  σ = some (rv, rσ) → G 0 [some (.inr 45), none] [] σ := by
  intro  σ h
  unfold f_Prog_findSources_45 at h
  refine H [((2, 0, 0, 0, []), 1), ((17, 45, 55, 0, []), 3), ((0, 0, 0, (-1), []), 1), ((24, 6, 2, 0, []), 3), ((2, 0, 0, 0, []), 1), ((0, 0, 0, 0, []), 1), ((18, 45, 12, 0, []), 3), ((0, 0, 0, 0, []), 1), ((3, 1, 0, 0, []), 1)] 0 _ _ _ (by decide +kernel) ?_
  obtain ⟨⟨vq1, σq1⟩, hq1, h⟩ := px_bind h
  dsimp only at h
  refine Exists.intro 0 (Exists.intro vq1 (Exists.intro σq1 (And.intro (Nat.le_of_ble_eq_true rfl) (And.intro (ok_Arrays_fill_55 hq1) ?_))))
  exact ok_Prog_findSources_45_p15 H _ _ _ h
theorem ok_Prog_findSources_45 {l : Launch} {σ : pS} {v : Int} {σ1 : pS} (h : f_Prog_findSources_45  σ = some (v, σ1)) : Con l 2 50 [.inr 45] σ v σ1 := Con_mk 1 2 rfl (by decide +kernel) (fun _ H => ok_Prog_findSources_45_w H  _ h)
theorem ok_Prog_readFrom_45_1_p2 {l : Launch} {rv : Int} {rσ : pS} {G : Nat → pL → List pV → pS → Prop} (H : px_R l 6 41 rv rσ G) : ∀ (n : Nat) (a2 : Int) (σ : pS), f_Prog_readFrom_45_1_p2 n a2 σ = some (rv, rσ) → G 2 [some (.inr 45), some (.inr 1), some (.inl a2)] [] σ := by
  intro n
  induction n with
  | zero =>
    intro a2 σ h
    unfold f_Prog_readFrom_45_1_p2 at h
    cases h
  | succ n ih =>
    intro a2 σ h
    unfold f_Prog_readFrom_45_1_p2 at h
    refine H [((1, 2, 0, 0, []), 1), ((0, 0, 0, 20, []), 2), ((13, 4, 65, 0, []), 3), ((2, 0, 0, 0, []), 1), ((2, 1, 0, 0, []), 1), ((1, 2, 0, 0, []), 1), ((23, 42, 2, 1, [(0, 45)]), 3), ((14, 1, 22, 0, []), 3), ((2, 1, 0, 0, []), 1), ((23, 36, 0, 1, [(0, 1)]), 3), ((27, 0, 0, 0, []), 1)] 2 _ _ _ (by decide +kernel) ?_
    rcases px_ite h with ⟨c1, h⟩ | ⟨c1, h⟩
    · refine And.intro (fun _ => ?_) (fun hn => absurd c1 hn)
      refine H [((2, 1, 0, 0, []), 1), ((23, 36, 0, 1, [(0, 1)]), 3), ((27, 0, 0, 0, []), 1)] 65 _ _ _ (by decide +kernel) ?_
      obtain ⟨⟨vq2, σq2⟩, hq2, h⟩ := px_bind h
      dsimp only at h
      refine Exists.intro 0 (Exists.intro vq2 (Exists.intro σq2 (And.intro (Nat.le_of_ble_eq_true rfl) (And.intro (ok_Tape_fault_1 hq2) ?_))))
      exact Prod.mk.inj (Option.some.inj h)
    · refine And.intro (fun hp => absurd hp c1) (fun _ => ?_)
      obtain ⟨⟨vq3, σq3⟩, hq3, h⟩ := px_bind h
      dsimp only at h
      refine Exists.intro 5 (Exists.intro vq3 (Exists.intro σq3 (And.intro (Nat.le_of_ble_eq_true rfl) (And.intro (ok_Prog_readOp_45_1 hq3) ?_))))
      rcases px_ite h with ⟨c4, h⟩ | ⟨c4, h⟩
      · refine And.intro (fun hp => absurd c4 hp) (fun _ => ?_)
        obtain ⟨⟨vq11, σq11⟩, hq11, h⟩ := px_bind h
        dsimp only at h
        refine Exists.intro 0 (Exists.intro vq11 (Exists.intro σq11 (And.intro (Nat.le_of_ble_eq_true rfl) (And.intro (ok_Tape_fault_1 hq11) ?_))))
        exact Prod.mk.inj (Option.some.inj h)
      · refine And.intro (fun _ => ?_) (fun hn => absurd c4 hn)
        refine H [((2, 1, 0, 0, []), 1), ((23, 37, 0, 1, [(0, 1)]), 3), ((14, 0, 45, 0, []), 3), ((2, 0, 0, 0, []), 1), ((1, 2, 0, 0, []), 1), ((0, 0, 0, 1, []), 1), ((6, 0, 0, 0, []), 1), ((18, 45, 11, 0, []), 3), ((2, 0, 0, 0, []), 1), ((23, 50, 0, 0, [(0, 45)]), 3), ((2, 0, 0, 0, []), 1), ((16, 45, 11, 0, []), 3), ((27, 0, 0, 0, []), 1)] 22 _ _ _ (by decide +kernel) ?_
        obtain ⟨⟨vq5, σq5⟩, hq5, h⟩ := px_bind h
        dsimp only at h
        refine Exists.intro 0 (Exists.intro vq5 (Exists.intro σq5 (And.intro (Nat.le_of_ble_eq_true rfl) (And.intro (ok_Tape_ended_1 hq5) ?_))))
        rcases px_ite h with ⟨c6, h⟩ | ⟨c6, h⟩
        · refine And.intro (fun _ => ?_) (fun hn => absurd c6 hn)
          refine H [((2, 1, 0, 0, []), 1), ((0, 0, 0, 59, []), 2), ((23, 26, 1, 1, [(0, 1)]), 3), ((14, 1, 59, 0, []), 3), ((2, 1, 0, 0, []), 1), ((23, 36, 0, 1, [(0, 1)]), 3), ((27, 0, 0, 0, []), 1)] 45 _ _ _ (by decide +kernel) ?_
          obtain ⟨⟨vq7, σq7⟩, hq7, h⟩ := px_bind h
          dsimp only at h
          refine Exists.intro 1 (Exists.intro vq7 (Exists.intro σq7 (And.intro (Nat.le_of_ble_eq_true rfl) (And.intro (ok_Tape_accept_1 hq7) ?_))))
          rcases px_ite h with ⟨c8, h⟩ | ⟨c8, h⟩
          · refine And.intro (fun hp => absurd c8 hp) (fun _ => ?_)
            obtain ⟨⟨vq9, σq9⟩, hq9, h⟩ := px_bind h
            dsimp only at h
            refine Exists.intro 0 (Exists.intro vq9 (Exists.intro σq9 (And.intro (Nat.le_of_ble_eq_true rfl) (And.intro (ok_Tape_fault_1 hq9) ?_))))
            exact Prod.mk.inj (Option.some.inj h)
          · refine And.intro (fun _ => ?_) (fun hn => absurd c8 hn)
            refine H [((5, 2, 0, 1, []), 3), ((12, 0, 2, 0, []), 3)] 59 _ _ _ (by decide +kernel) ?_
            exact ih _ _ h
        · refine And.intro (fun hp => absurd hp c6) (fun _ => ?_)
          obtain ⟨⟨vq10, σq10⟩, hq10, h⟩ := px_bind h
          dsimp only at h
          refine Exists.intro 2 (Exists.intro vq10 (Exists.intro σq10 (And.intro (Nat.le_of_ble_eq_true rfl) (And.intro (ok_Prog_findSources_45 hq10) ?_))))
          exact Prod.mk.inj (Option.some.inj h)
theorem ok_Prog_readFrom_45_1_w {l : Launch} {rv : Int} {rσ : pS} {G : Nat → pL → List pV → pS → Prop} (H : px_R l 6 41 rv rσ G) : ∀ (σ : pS), f_Prog_readFrom_45_1  σ = some (rv, rσ) → G 0 [some (.inr 45), some (.inr 1), none] [] σ := by
  intro  σ h
  unfold f_Prog_readFrom_45_1 at h
  refine H [((0, 0, 0, 0, []), 1), ((3, 2, 0, 0, []), 1)] 0 _ _ _ (by decide +kernel) ?_
  exact ok_Prog_readFrom_45_1_p2 H _ _ _ h
theorem ok_Prog_readFrom_45_1 {l : Launch} {σ : pS} {v : Int} {σ1 : pS} (h : f_Prog_readFrom_45_1  σ = some (v, σ1)) : Con l 6 41 [.inr 45, .inr 1] σ v σ1 := Con_mk 2 3 rfl (by decide +kernel) (fun _ H => ok_Prog_readFrom_45_1_w H  _ h)
theorem ok_Tape_clear_1_w {l : Launch} {rv : Int} {rσ : pS} {G : Nat → pL → List pV → pS → Prop} (H : px_R l 0 39 rv rσ G) : ∀ (σ : pS), f_Tape_clear_1  σ = some (rv, rσ) → G 0 [some (.inr 1)] [] σ := by
  intro  σ h
  unfold f_Tape_clear_1 at h
  refine H [((2, 0, 0, 0, []), 1), ((0, 0, 0, 0, []), 1), ((18, 1, 1, 0, []), 3), ((28, 0, 0, 0, []), 1)] 0 _ _ _ (by decide +kernel) ?_
  exact (Prod.mk.inj (Option.some.inj h)).2
theorem ok_Tape_clear_1 {l : Launch} {σ : pS} {v : Int} {σ1 : pS} (h : f_Tape_clear_1  σ = some (v, σ1)) : Con l 0 39 [.inr 1] σ v σ1 := Con_mk 1 1 rfl (by decide +kernel) (fun _ H => ok_Tape_clear_1_w H  _ h)
theorem ok_Prog_copyFrom_4_45_w {l : Launch} {rv : Int} {rσ : pS} {G : Nat → pL → List pV → pS → Prop} (H : px_R l 1 54 rv rσ G) : ∀ (σ : pS), f_Prog_copyFrom_4_45  σ = some (rv, rσ) → G 0 [some (.inr 4), some (.inr 45)] [] σ := by
  intro  σ h
  unfold f_Prog_copyFrom_4_45 at h
  refine H [((2, 1, 0, 0, []), 1), ((17, 45, 46, 0, []), 3), ((0, 0, 0, 0, []), 1), ((2, 0, 0, 0, []), 1), ((17, 4, 5, 0, []), 3), ((0, 0, 0, 0, []), 1), ((0, 0, 0, 20, []), 2), ((26, 46, 5, 20, []), 3), ((2, 1, 0, 0, []), 1), ((17, 45, 47, 0, []), 3), ((0, 0, 0, 0, []), 1), ((2, 0, 0, 0, []), 1), ((17, 4, 6, 0, []), 3), ((0, 0, 0, 0, []), 1), ((0, 0, 0, 20, []), 2), ((26, 47, 6, 20, []), 3), ((2, 1, 0, 0, []), 1), ((17, 45, 48, 0, []), 3), ((0, 0, 0, 0, []), 1), ((2, 0, 0, 0, []), 1), ((17, 4, 7, 0, []), 3), ((0, 0, 0, 0, []), 1), ((0, 0, 0, 20, []), 2), ((26, 48, 7, 20, []), 3), ((2, 1, 0, 0, []), 1), ((17, 45, 49, 0, []), 3), ((0, 0, 0, 0, []), 1), ((2, 0, 0, 0, []), 1), ((17, 4, 8, 0, []), 3), ((0, 0, 0, 0, []), 1), ((0, 0, 0, 20, []), 2), ((26, 49, 8, 20, []), 3), ((2, 1, 0, 0, []), 1), ((17, 45, 50, 0, []), 3), ((0, 0, 0, 0, []), 1), ((2, 0, 0, 0, []), 1), ((17, 4, 9, 0, []), 3), ((0, 0, 0, 0, []), 1), ((0, 0, 0, 20, []), 2), ((26, 50, 9, 20, []), 3), ((2, 1, 0, 0, []), 1), ((17, 45, 51, 0, []), 3), ((0, 0, 0, 0, []), 1), ((2, 0, 0, 0, []), 1), ((17, 4, 10, 0, []), 3), ((0, 0, 0, 0, []), 1), ((0, 0, 0, 20, []), 2), ((26, 51, 10, 20, []), 3), ((2, 1, 0, 0, []), 1), ((17, 45, 52, 0, []), 3), ((0, 0, 0, 0, []), 1), ((2, 0, 0, 0, []), 1), ((17, 4, 11, 0, []), 3), ((0, 0, 0, 0, []), 1), ((0, 0, 0, 20, []), 2), ((26, 52, 11, 20, []), 3), ((2, 1, 0, 0, []), 1), ((17, 45, 53, 0, []), 3), ((0, 0, 0, 0, []), 1), ((2, 0, 0, 0, []), 1), ((17, 4, 12, 0, []), 3), ((0, 0, 0, 0, []), 1), ((0, 0, 0, 20, []), 2), ((26, 53, 12, 20, []), 3), ((2, 1, 0, 0, []), 1), ((17, 45, 54, 0, []), 3), ((0, 0, 0, 0, []), 1), ((2, 0, 0, 0, []), 1), ((17, 4, 13, 0, []), 3), ((0, 0, 0, 0, []), 1), ((0, 0, 0, 20, []), 2), ((26, 54, 13, 20, []), 3), ((2, 0, 0, 0, []), 1), ((2, 1, 0, 0, []), 1), ((16, 45, 11, 0, []), 3), ((18, 4, 11, 0, []), 3), ((2, 0, 0, 0, []), 1), ((2, 1, 0, 0, []), 1), ((16, 45, 12, 0, []), 3), ((18, 4, 12, 0, []), 3), ((28, 0, 0, 0, []), 1)] 0 _ _ _ (by decide +kernel) ?_
  exact (Prod.mk.inj (Option.some.inj h)).2
theorem ok_Prog_copyFrom_4_45 {l : Launch} {σ : pS} {v : Int} {σ1 : pS} (h : f_Prog_copyFrom_4_45  σ = some (v, σ1)) : Con l 1 54 [.inr 4, .inr 45] σ v σ1 := Con_mk 2 2 rfl (by decide +kernel) (fun _ H => ok_Prog_copyFrom_4_45_w H  _ h)
theorem ok_Arrays_fill_27_p5 {l : Launch} {rv : Int} {rσ : pS} {G : Nat → pL → List pV → pS → Prop} (H : px_R l 0 6 rv rσ G) : ∀ (n : Nat) (a1 a2 a3 : Int) (σ : pS), f_Arrays_fill_27_p5 n a1 a2 a3 σ = some (rv, rσ) → G 5 [some (.inr 27), some (.inl a1), some (.inl a2), some (.inl a3)] [] σ := by
  intro n
  induction n with
  | zero =>
    intro a1 a2 a3 σ h
    unfold f_Arrays_fill_27_p5 at h
    cases h
  | succ n ih =>
    intro a1 a2 a3 σ h
    unfold f_Arrays_fill_27_p5 at h
    refine H [((1, 2, 0, 0, []), 1), ((1, 3, 0, 0, []), 1), ((13, 3, 20, 0, []), 3), ((2, 0, 0, 0, []), 1), ((1, 2, 0, 0, []), 1), ((1, 1, 0, 0, []), 1), ((20, 27, 20, 0, []), 1), ((5, 2, 0, 1, []), 3), ((12, 0, 5, 0, []), 3)] 5 _ _ _ (by decide +kernel) ?_
    rcases px_ite h with ⟨c1, h⟩ | ⟨c1, h⟩
    · refine And.intro (fun _ => ?_) (fun hn => absurd c1 hn)
      refine H [((28, 0, 0, 0, []), 1)] 20 _ _ _ (by decide +kernel) ?_
      exact (Prod.mk.inj (Option.some.inj h)).2
    · refine And.intro (fun hp => absurd hp c1) (fun _ => ?_)
      obtain ⟨g2, h⟩ := px_gd h
      refine And.intro g2 ?_
      exact ih _ _ _ _ h
theorem ok_Arrays_fill_27_w {l : Launch} {rv : Int} {rσ : pS} {G : Nat → pL → List pV → pS → Prop} (H : px_R l 0 6 rv rσ G) : ∀ (a1 : Int) (σ : pS), f_Arrays_fill_27 a1 σ = some (rv, rσ) → G 0 [some (.inr 27), some (.inl a1), none, none] [] σ := by
  intro a1 σ h
  unfold f_Arrays_fill_27 at h
  refine H [((0, 0, 0, 0, []), 1), ((3, 2, 0, 0, []), 1), ((2, 0, 0, 0, []), 1), ((21, 27, 20, 0, []), 1), ((3, 3, 0, 0, []), 1)] 0 _ _ _ (by decide +kernel) ?_
  exact ok_Arrays_fill_27_p5 H _ _ _ _ _ h
theorem ok_Arrays_fill_27 {l : Launch} {a1 : Int} {σ : pS} {v : Int} {σ1 : pS} (h : f_Arrays_fill_27 a1 σ = some (v, σ1)) : Con l 0 6 [.inr 27, .inl a1] σ v σ1 := Con_mk 2 4 rfl (by decide +kernel) (fun _ H => ok_Arrays_fill_27_w H _ _ h)
theorem ok_State_dropSets_24_w {l : Launch} {rv : Int} {rσ : pS} {G : Nat → pL → List pV → pS → Prop} (H : px_R l 1 55 rv rσ G) : ∀ (σ : pS), f_State_dropSets_24  σ = some (rv, rσ) → G 0 [some (.inr 24)] [] σ := by
  intro  σ h
  unfold f_State_dropSets_24 at h
  refine H [((2, 0, 0, 0, []), 1), ((17, 24, 27, 0, []), 3), ((0, 0, 0, (-1), []), 1), ((24, 6, 2, 0, []), 3), ((28, 0, 0, 0, []), 1)] 0 _ _ _ (by decide +kernel) ?_
  obtain ⟨⟨vq1, σq1⟩, hq1, h⟩ := px_bind h
  dsimp only at h
  refine Exists.intro 0 (Exists.intro vq1 (Exists.intro σq1 (And.intro (Nat.le_of_ble_eq_true rfl) (And.intro (ok_Arrays_fill_27 hq1) ?_))))
  exact (Prod.mk.inj (Option.some.inj h)).2
theorem ok_State_dropSets_24 {l : Launch} {σ : pS} {v : Int} {σ1 : pS} (h : f_State_dropSets_24  σ = some (v, σ1)) : Con l 1 55 [.inr 24] σ v σ1 := Con_mk 1 1 rfl (by decide +kernel) (fun _ H => ok_State_dropSets_24_w H  _ h)
theorem ok_Arrays_fill_83_p5 {l : Launch} {rv : Int} {rσ : pS} {G : Nat → pL → List pV → pS → Prop} (H : px_R l 0 6 rv rσ G) : ∀ (n : Nat) (a1 a2 a3 : Int) (σ : pS), f_Arrays_fill_83_p5 n a1 a2 a3 σ = some (rv, rσ) → G 5 [some (.inr 83), some (.inl a1), some (.inl a2), some (.inl a3)] [] σ := by
  intro n
  induction n with
  | zero =>
    intro a1 a2 a3 σ h
    unfold f_Arrays_fill_83_p5 at h
    cases h
  | succ n ih =>
    intro a1 a2 a3 σ h
    unfold f_Arrays_fill_83_p5 at h
    refine H [((1, 2, 0, 0, []), 1), ((1, 3, 0, 0, []), 1), ((13, 3, 20, 0, []), 3), ((2, 0, 0, 0, []), 1), ((1, 2, 0, 0, []), 1), ((1, 1, 0, 0, []), 1), ((20, 83, 2, 0, []), 1), ((5, 2, 0, 1, []), 3), ((12, 0, 5, 0, []), 3)] 5 _ _ _ (by decide +kernel) ?_
    rcases px_ite h with ⟨c1, h⟩ | ⟨c1, h⟩
    · refine And.intro (fun _ => ?_) (fun hn => absurd c1 hn)
      refine H [((28, 0, 0, 0, []), 1)] 20 _ _ _ (by decide +kernel) ?_
      exact (Prod.mk.inj (Option.some.inj h)).2
    · refine And.intro (fun hp => absurd hp c1) (fun _ => ?_)
      obtain ⟨g2, h⟩ := px_gd h
      refine And.intro g2 ?_
      exact ih _ _ _ _ h
theorem ok_Arrays_fill_83_w {l : Launch} {rv : Int} {rσ : pS} {G : Nat → pL → List pV → pS → Prop} (H : px_R l 0 6 rv rσ G) : ∀ (a1 : Int) (σ : pS), f_Arrays_fill_83 a1 σ = some (rv, rσ) → G 0 [some (.inr 83), some (.inl a1), none, none] [] σ := by
  intro a1 σ h
  unfold f_Arrays_fill_83 at h
  refine H [((0, 0, 0, 0, []), 1), ((3, 2, 0, 0, []), 1), ((2, 0, 0, 0, []), 1), ((21, 83, 2, 0, []), 1), ((3, 3, 0, 0, []), 1)] 0 _ _ _ (by decide +kernel) ?_
  exact ok_Arrays_fill_83_p5 H _ _ _ _ _ h
theorem ok_Arrays_fill_83 {l : Launch} {a1 : Int} {σ : pS} {v : Int} {σ1 : pS} (h : f_Arrays_fill_83 a1 σ = some (v, σ1)) : Con l 0 6 [.inr 83, .inl a1] σ v σ1 := Con_mk 2 4 rfl (by decide +kernel) (fun _ H => ok_Arrays_fill_83_w H _ _ h)
theorem ok_Rows_clear_82_w {l : Launch} {rv : Int} {rσ : pS} {G : Nat → pL → List pV → pS → Prop} (H : px_R l 1 56 rv rσ G) : ∀ (σ : pS), f_Rows_clear_82  σ = some (rv, rσ) → G 0 [some (.inr 82)] [] σ := by
  intro  σ h
  unfold f_Rows_clear_82 at h
  refine H [((2, 0, 0, 0, []), 1), ((17, 82, 83, 0, []), 3), ((0, 0, 0, 0, []), 1), ((24, 6, 2, 0, []), 3), ((28, 0, 0, 0, []), 1)] 0 _ _ _ (by decide +kernel) ?_
  obtain ⟨⟨vq1, σq1⟩, hq1, h⟩ := px_bind h
  dsimp only at h
  refine Exists.intro 0 (Exists.intro vq1 (Exists.intro σq1 (And.intro (Nat.le_of_ble_eq_true rfl) (And.intro (ok_Arrays_fill_83 hq1) ?_))))
  exact (Prod.mk.inj (Option.some.inj h)).2
theorem ok_Rows_clear_82 {l : Launch} {σ : pS} {v : Int} {σ1 : pS} (h : f_Rows_clear_82  σ = some (v, σ1)) : Con l 1 56 [.inr 82] σ v σ1 := Con_mk 1 1 rfl (by decide +kernel) (fun _ H => ok_Rows_clear_82_w H  _ h)
theorem ok_X_program_0_p101 {l : Launch} {rv : Int} {rσ : pS} {G : Nat → pL → List pV → pS → Prop} (H : px_R l 7 40 rv rσ G) : ∀ (a2 : Int) (σ : pS), f_X_program_0_p101 a2 σ = some (rv, rσ) → G 101 [some (.inr 0), none, some (.inl a2)] [] σ := by
  intro a2 σ h
  unfold f_X_program_0_p101 at h
  refine H [((2, 0, 0, 0, []), 1), ((17, 0, 1, 0, []), 3), ((23, 39, 0, 0, [(0, 1)]), 3), ((1, 2, 0, 0, []), 1), ((27, 0, 0, 0, []), 1)] 101 _ _ _ (by decide +kernel) ?_
  obtain ⟨⟨vq7, σq7⟩, hq7, h⟩ := px_bind h
  dsimp only at h
  refine Exists.intro 0 (Exists.intro vq7 (Exists.intro σq7 (And.intro (Nat.le_of_ble_eq_true rfl) (And.intro (ok_Tape_clear_1 hq7) ?_))))
  exact Prod.mk.inj (Option.some.inj h)
theorem ok_X_program_0_w {l : Launch} {rv : Int} {rσ : pS} {G : Nat → pL → List pV → pS → Prop} (H : px_R l 7 40 rv rσ G) : ∀ (a1 : Int) (σ : pS), f_X_program_0 a1 σ = some (rv, rσ) → G 0 [some (.inr 0), some (.inl a1), none] [] σ := by
  intro a1 σ h
  unfold f_X_program_0 at h
  refine H [((1, 1, 0, 0, []), 1), ((0, 0, 0, 1, []), 1), ((13, 2, 23, 0, []), 3), ((1, 1, 0, 0, []), 1), ((0, 0, 0, 240, []), 3), ((13, 4, 23, 0, []), 3), ((1, 1, 0, 0, []), 1), ((2, 0, 0, 0, []), 1), ((17, 0, 1, 0, []), 3), ((16, 1, 1, 0, []), 3), ((13, 5, 25, 0, []), 3), ((0, 0, 0, (-1), []), 1), ((27, 0, 0, 0, []), 1)] 0 _ _ _ (by decide +kernel) ?_
  rcases px_ite h with ⟨c1, h⟩ | ⟨c1, h⟩
  · refine And.intro (fun _ => ?_) (fun hn => absurd c1 hn)
    refine H [((0, 0, 0, (-1), []), 1), ((27, 0, 0, 0, []), 1)] 23 _ _ _ (by decide +kernel) ?_
    exact Prod.mk.inj (Option.some.inj h)
  · refine And.intro (fun hp => absurd hp c1) (fun _ => ?_)
    rcases px_ite h with ⟨c2, h⟩ | ⟨c2, h⟩
    · refine And.intro (fun _ => ?_) (fun hn => absurd c2 hn)
      refine H [((0, 0, 0, (-1), []), 1), ((27, 0, 0, 0, []), 1)] 23 _ _ _ (by decide +kernel) ?_
      exact Prod.mk.inj (Option.some.inj h)
    · refine And.intro (fun hp => absurd hp c2) (fun _ => ?_)
      rcases px_ite h with ⟨c3, h⟩ | ⟨c3, h⟩
      · refine And.intro (fun _ => ?_) (fun hn => absurd c3 hn)
        refine H [((2, 0, 0, 0, []), 1), ((17, 0, 1, 0, []), 3), ((1, 1, 0, 0, []), 1), ((23, 15, 1, 0, [(0, 1)]), 3), ((2, 0, 0, 0, []), 1), ((17, 0, 45, 0, []), 3), ((2, 0, 0, 0, []), 1), ((17, 0, 1, 0, []), 3), ((23, 41, 1, 1, [(0, 45)]), 3), ((3, 2, 0, 0, []), 1), ((1, 2, 0, 0, []), 1), ((14, 2, 101, 0, []), 3), ((2, 0, 0, 0, []), 1), ((17, 0, 3, 0, []), 3), ((17, 3, 4, 0, []), 3), ((2, 0, 0, 0, []), 1), ((17, 0, 45, 0, []), 3), ((23, 54, 1, 0, [(0, 4)]), 3), ((2, 0, 0, 0, []), 1), ((17, 0, 3, 0, []), 3), ((17, 3, 24, 0, []), 3), ((23, 55, 0, 0, [(0, 24)]), 3), ((2, 0, 0, 0, []), 1), ((17, 0, 3, 0, []), 3), ((17, 3, 24, 0, []), 3), ((0, 0, 0, 0, []), 1), ((18, 24, 3, 0, []), 3), ((2, 0, 0, 0, []), 1), ((17, 0, 82, 0, []), 3), ((23, 56, 0, 0, [(0, 82)]), 3), ((2, 0, 0, 0, []), 1), ((0, 0, 0, 0, []), 1), ((18, 0, 8, 1, []), 3), ((2, 0, 0, 0, []), 1), ((0, 0, 0, 1, []), 1), ((18, 0, 10, 1, []), 3), ((29, 1, 0, 0, []), 0)] 25 _ _ _ (by decide +kernel) ?_
        obtain ⟨⟨vq4, σq4⟩, hq4, h⟩ := px_bind h
        dsimp only at h
        refine Exists.intro 1 (Exists.intro vq4 (Exists.intro σq4 (And.intro (Nat.le_of_ble_eq_true rfl) (And.intro (ok_Tape_beginText_1 hq4) ?_))))
        obtain ⟨⟨vq5, σq5⟩, hq5, h⟩ := px_bind h
        dsimp only at h
        refine Exists.intro 6 (Exists.intro vq5 (Exists.intro σq5 (And.intro (Nat.le_of_ble_eq_true rfl) (And.intro (ok_Prog_readFrom_45_1 hq5) ?_))))
        rcases px_ite h with ⟨c6, h⟩ | ⟨c6, h⟩
        · refine And.intro (fun _ => ?_) (fun hn => absurd c6 hn)
          refine H [((29, 1, 0, 0, []), 0)] 101 _ _ _ (by decide +kernel) ?_
          exact ok_X_program_0_p101 H _ _ h
        · refine And.intro (fun hp => absurd hp c6) (fun _ => ?_)
          obtain ⟨⟨vq8, σq8⟩, hq8, h⟩ := px_bind h
          dsimp only at h
          refine Exists.intro 1 (Exists.intro vq8 (Exists.intro σq8 (And.intro (Nat.le_of_ble_eq_true rfl) (And.intro (ok_Prog_copyFrom_4_45 hq8) ?_))))
          obtain ⟨⟨vq9, σq9⟩, hq9, h⟩ := px_bind h
          dsimp only at h
          refine Exists.intro 1 (Exists.intro vq9 (Exists.intro σq9 (And.intro (Nat.le_of_ble_eq_true rfl) (And.intro (ok_State_dropSets_24 hq9) ?_))))
          obtain ⟨⟨vq10, σq10⟩, hq10, h⟩ := px_bind h
          dsimp only at h
          refine Exists.intro 1 (Exists.intro vq10 (Exists.intro σq10 (And.intro (Nat.le_of_ble_eq_true rfl) (And.intro (ok_Rows_clear_82 hq10) ?_))))
          refine And.intro (show (0 : Int) ≤ 0 ∧ (0 : Int) ≤ 1 from by decide) ?_
          refine And.intro (show (0 : Int) ≤ 1 ∧ (1 : Int) ≤ 1 from by decide) ?_
          exact ok_X_program_0_p101 H _ _ h
      · refine And.intro (fun hp => absurd hp c3) (fun _ => ?_)
        exact Prod.mk.inj (Option.some.inj h)
theorem ok_X_program_0 {l : Launch} {a1 : Int} {σ : pS} {v : Int} {σ1 : pS} (h : f_X_program_0 a1 σ = some (v, σ1)) : Con l 7 40 [.inr 0, .inl a1] σ v σ1 := Con_mk 2 3 rfl (by decide +kernel) (fun _ H => ok_X_program_0_w H _ _ h)
theorem ok_M_in_w {l : Launch} {rv : Int} {rσ : pS} {G : Nat → pL → List pV → pS → Prop} (H : px_R l 0 137 rv rσ G) : ∀ (a0 a1 a2 : Int) (σ : pS), f_M_in a0 a1 a2 σ = some (rv, rσ) → G 0 [some (.inl a0), some (.inl a1), some (.inl a2)] [] σ := by
  intro a0 a1 a2 σ h
  unfold f_M_in at h
  refine H [((1, 0, 0, 0, []), 1), ((1, 1, 0, 0, []), 1), ((13, 2, 14, 0, []), 3), ((1, 0, 0, 0, []), 1), ((1, 2, 0, 0, []), 1), ((13, 4, 14, 0, []), 3), ((0, 0, 0, 1, []), 1), ((12, 0, 15, 0, []), 3), ((27, 1, 0, 0, []), 1)] 0 _ _ _ (by decide +kernel) ?_
  rcases px_ite h with ⟨c1, h⟩ | ⟨c1, h⟩
  · refine And.intro (fun _ => ?_) (fun hn => absurd c1 hn)
    refine H [((0, 0, 0, 0, []), 1), ((27, 1, 0, 0, []), 1)] 14 _ _ _ (by decide +kernel) ?_
    refine And.intro (show (0 : Int) ≤ 0 ∧ (0 : Int) ≤ 1 from by decide) ?_
    exact Prod.mk.inj (Option.some.inj h)
  · refine And.intro (fun hp => absurd hp c1) (fun _ => ?_)
    rcases px_ite h with ⟨c2, h⟩ | ⟨c2, h⟩
    · refine And.intro (fun _ => ?_) (fun hn => absurd c2 hn)
      refine H [((0, 0, 0, 0, []), 1), ((27, 1, 0, 0, []), 1)] 14 _ _ _ (by decide +kernel) ?_
      refine And.intro (show (0 : Int) ≤ 0 ∧ (0 : Int) ≤ 1 from by decide) ?_
      exact Prod.mk.inj (Option.some.inj h)
    · refine And.intro (fun hp => absurd hp c2) (fun _ => ?_)
      refine And.intro (show (0 : Int) ≤ 1 ∧ (1 : Int) ≤ 1 from by decide) ?_
      exact Prod.mk.inj (Option.some.inj h)
theorem ok_M_in {l : Launch} {a0 a1 a2 : Int} {σ : pS} {v : Int} {σ1 : pS} (h : f_M_in a0 a1 a2 σ = some (v, σ1)) : Con l 0 137 [.inl a0, .inl a1, .inl a2] σ v σ1 := Con_mk 3 3 rfl (by decide +kernel) (fun _ H => ok_M_in_w H _ _ _ _ h)
theorem ok_M_beginsText_84_w {l : Launch} {rv : Int} {rσ : pS} {G : Nat → pL → List pV → pS → Prop} (H : px_R l 0 142 rv rσ G) : ∀ (a1 : Int) (σ : pS), f_M_beginsText_84 a1 σ = some (rv, rσ) → G 0 [some (.inr 84), some (.inl a1)] [] σ := by
  intro a1 σ h
  unfold f_M_beginsText_84 at h
  refine H [((2, 0, 0, 0, []), 1), ((0, 0, 0, 0, []), 1), ((18, 84, 19, 0, []), 3), ((2, 0, 0, 0, []), 1), ((1, 1, 0, 0, []), 1), ((18, 84, 20, 0, []), 3), ((2, 0, 0, 0, []), 1), ((0, 0, 0, 0, []), 1), ((18, 84, 24, 0, []), 3), ((2, 0, 0, 0, []), 1), ((0, 0, 0, 0, []), 1), ((18, 84, 26, 0, []), 3), ((28, 0, 0, 0, []), 1)] 0 _ _ _ (by decide +kernel) ?_
  exact (Prod.mk.inj (Option.some.inj h)).2
theorem ok_M_beginsText_84 {l : Launch} {a1 : Int} {σ : pS} {v : Int} {σ1 : pS} (h : f_M_beginsText_84 a1 σ = some (v, σ1)) : Con l 0 142 [.inr 84, .inl a1] σ v σ1 := Con_mk 2 2 rfl (by decide +kernel) (fun _ H => ok_M_beginsText_84_w H _ _ h)
theorem ok_M_here_84_w {l : Launch} {rv : Int} {rσ : pS} {G : Nat → pL → List pV → pS → Prop} (H : px_R l 0 144 rv rσ G) : ∀ (σ : pS), f_M_here_84  σ = some (rv, rσ) → G 0 [some (.inr 84)] [] σ := by
  intro  σ h
  unfold f_M_here_84 at h
  refine H [((2, 0, 0, 0, []), 1), ((16, 84, 19, 0, []), 3), ((2, 0, 0, 0, []), 1), ((16, 84, 20, 0, []), 3), ((13, 3, 27, 0, []), 3), ((2, 0, 0, 0, []), 1), ((17, 84, 96, 0, []), 3), ((2, 0, 0, 0, []), 1), ((16, 84, 19, 0, []), 3), ((19, 96, 260, 0, []), 1), ((0, 0, 0, 255, []), 3), ((6, 3, 0, 0, []), 1), ((12, 0, 28, 0, []), 3), ((27, 0, 0, 0, []), 1)] 0 _ _ _ (by decide +kernel) ?_
  rcases px_ite h with ⟨c1, h⟩ | ⟨c1, h⟩
  · refine And.intro (fun _ => ?_) (fun hn => absurd c1 hn)
    refine H [((0, 0, 0, (-1), []), 1), ((27, 0, 0, 0, []), 1)] 27 _ _ _ (by decide +kernel) ?_
    exact Prod.mk.inj (Option.some.inj h)
  · refine And.intro (fun hp => absurd hp c1) (fun _ => ?_)
    obtain ⟨g2, h⟩ := px_gd h
    refine And.intro g2 ?_
    exact Prod.mk.inj (Option.some.inj h)
theorem ok_M_here_84 {l : Launch} {σ : pS} {v : Int} {σ1 : pS} (h : f_M_here_84  σ = some (v, σ1)) : Con l 0 144 [.inr 84] σ v σ1 := Con_mk 1 1 rfl (by decide +kernel) (fun _ H => ok_M_here_84_w H  _ h)
theorem ok_M_kindBy_w {l : Launch} {rv : Int} {rσ : pS} {G : Nat → pL → List pV → pS → Prop} (H : px_R l 0 165 rv rσ G) : ∀ (a0 : Int) (σ : pS), f_M_kindBy a0 σ = some (rv, rσ) → G 0 [some (.inl a0)] [] σ := by
  intro a0 σ h
  unfold f_M_kindBy at h
  refine H [((1, 0, 0, 0, []), 1), ((15, 0, 92, 0, [(35, 84), (38, 86), (42, 86), (43, 86), (45, 86), (62, 86), (76, 88), (83, 90), (94, 86)]), 83)] 0 _ _ _ (by decide +kernel) ?_
  rcases px_ite h with ⟨c1, h⟩ | ⟨c1, h⟩
  · refine And.intro (fun _ => ?_) (fun hn => absurd c1 hn)
    refine H [((0, 0, 0, 0, []), 1), ((27, 0, 0, 0, []), 1)] 84 _ _ _ (by decide +kernel) ?_
    exact Prod.mk.inj (Option.some.inj h)
  · refine And.intro (fun hp => absurd hp c1) (fun _ => ?_)
    rcases px_ite h with ⟨c2, h⟩ | ⟨c2, h⟩
    · refine And.intro (fun _ => ?_) (fun hn => absurd c2 hn)
      refine H [((0, 0, 0, 1, []), 1), ((27, 0, 0, 0, []), 1)] 86 _ _ _ (by decide +kernel) ?_
      exact Prod.mk.inj (Option.some.inj h)
    · refine And.intro (fun hp => absurd hp c2) (fun _ => ?_)
      rcases px_ite h with ⟨c3, h⟩ | ⟨c3, h⟩
      · refine And.intro (fun _ => ?_) (fun hn => absurd c3 hn)
        refine H [((0, 0, 0, 1, []), 1), ((27, 0, 0, 0, []), 1)] 86 _ _ _ (by decide +kernel) ?_
        exact Prod.mk.inj (Option.some.inj h)
      · refine And.intro (fun hp => absurd hp c3) (fun _ => ?_)
        rcases px_ite h with ⟨c4, h⟩ | ⟨c4, h⟩
        · refine And.intro (fun _ => ?_) (fun hn => absurd c4 hn)
          refine H [((0, 0, 0, 1, []), 1), ((27, 0, 0, 0, []), 1)] 86 _ _ _ (by decide +kernel) ?_
          exact Prod.mk.inj (Option.some.inj h)
        · refine And.intro (fun hp => absurd hp c4) (fun _ => ?_)
          rcases px_ite h with ⟨c5, h⟩ | ⟨c5, h⟩
          · refine And.intro (fun _ => ?_) (fun hn => absurd c5 hn)
            refine H [((0, 0, 0, 1, []), 1), ((27, 0, 0, 0, []), 1)] 86 _ _ _ (by decide +kernel) ?_
            exact Prod.mk.inj (Option.some.inj h)
          · refine And.intro (fun hp => absurd hp c5) (fun _ => ?_)
            rcases px_ite h with ⟨c6, h⟩ | ⟨c6, h⟩
            · refine And.intro (fun _ => ?_) (fun hn => absurd c6 hn)
              refine H [((0, 0, 0, 1, []), 1), ((27, 0, 0, 0, []), 1)] 86 _ _ _ (by decide +kernel) ?_
              exact Prod.mk.inj (Option.some.inj h)
            · refine And.intro (fun hp => absurd hp c6) (fun _ => ?_)
              rcases px_ite h with ⟨c7, h⟩ | ⟨c7, h⟩
              · refine And.intro (fun _ => ?_) (fun hn => absurd c7 hn)
                refine H [((0, 0, 0, 2, []), 1), ((27, 0, 0, 0, []), 1)] 88 _ _ _ (by decide +kernel) ?_
                exact Prod.mk.inj (Option.some.inj h)
              · refine And.intro (fun hp => absurd hp c7) (fun _ => ?_)
                rcases px_ite h with ⟨c8, h⟩ | ⟨c8, h⟩
                · refine And.intro (fun _ => ?_) (fun hn => absurd c8 hn)
                  refine H [((0, 0, 0, 3, []), 1), ((27, 0, 0, 0, []), 1)] 90 _ _ _ (by decide +kernel) ?_
                  exact Prod.mk.inj (Option.some.inj h)
                · refine And.intro (fun hp => absurd hp c8) (fun _ => ?_)
                  rcases px_ite h with ⟨c9, h⟩ | ⟨c9, h⟩
                  · refine And.intro (fun _ => ?_) (fun hn => absurd c9 hn)
                    refine H [((0, 0, 0, 1, []), 1), ((27, 0, 0, 0, []), 1)] 86 _ _ _ (by decide +kernel) ?_
                    exact Prod.mk.inj (Option.some.inj h)
                  · refine And.intro (fun hp => absurd hp c9) (fun _ => ?_)
                    refine H [((0, 0, 0, (-1), []), 1), ((27, 0, 0, 0, []), 1)] 92 _ _ _ (by decide +kernel) ?_
                    exact Prod.mk.inj (Option.some.inj h)
theorem ok_M_kindBy {l : Launch} {a0 : Int} {σ : pS} {v : Int} {σ1 : pS} (h : f_M_kindBy a0 σ = some (v, σ1)) : Con l 0 165 [.inl a0] σ v σ1 := Con_mk 1 1 rfl (by decide +kernel) (fun _ H => ok_M_kindBy_w H _ _ h)
theorem ok_M_sizeBy_w {l : Launch} {rv : Int} {rσ : pS} {G : Nat → pL → List pV → pS → Prop} (H : px_R l 0 166 rv rσ G) : ∀ (a0 : Int) (σ : pS), f_M_sizeBy a0 σ = some (rv, rσ) → G 0 [some (.inl a0)] [] σ := by
  intro a0 σ h
  unfold f_M_sizeBy at h
  refine H [((1, 0, 0, 0, []), 1), ((0, 0, 0, 98, []), 2), ((13, 1, 10, 0, []), 3), ((0, 0, 0, 1, []), 1), ((12, 0, 31, 0, []), 3), ((27, 0, 0, 0, []), 1)] 0 _ _ _ (by decide +kernel) ?_
  rcases px_ite h with ⟨c1, h⟩ | ⟨c1, h⟩
  · refine And.intro (fun hp => absurd c1 hp) (fun _ => ?_)
    exact Prod.mk.inj (Option.some.inj h)
  · refine And.intro (fun _ => ?_) (fun hn => absurd c1 hn)
    refine H [((1, 0, 0, 0, []), 1), ((0, 0, 0, 104, []), 2), ((13, 1, 20, 0, []), 3), ((0, 0, 0, 2, []), 1), ((12, 0, 31, 0, []), 3), ((27, 0, 0, 0, []), 1)] 10 _ _ _ (by decide +kernel) ?_
    rcases px_ite h with ⟨c2, h⟩ | ⟨c2, h⟩
    · refine And.intro (fun hp => absurd c2 hp) (fun _ => ?_)
      exact Prod.mk.inj (Option.some.inj h)
    · refine And.intro (fun _ => ?_) (fun hn => absurd c2 hn)
      refine H [((1, 0, 0, 0, []), 1), ((0, 0, 0, 119, []), 2), ((13, 1, 30, 0, []), 3), ((0, 0, 0, 4, []), 1), ((12, 0, 31, 0, []), 3), ((27, 0, 0, 0, []), 1)] 20 _ _ _ (by decide +kernel) ?_
      rcases px_ite h with ⟨c3, h⟩ | ⟨c3, h⟩
      · refine And.intro (fun hp => absurd c3 hp) (fun _ => ?_)
        exact Prod.mk.inj (Option.some.inj h)
      · refine And.intro (fun _ => ?_) (fun hn => absurd c3 hn)
        refine H [((0, 0, 0, (-1), []), 1), ((27, 0, 0, 0, []), 1)] 30 _ _ _ (by decide +kernel) ?_
        exact Prod.mk.inj (Option.some.inj h)
theorem ok_M_sizeBy {l : Launch} {a0 : Int} {σ : pS} {v : Int} {σ1 : pS} (h : f_M_sizeBy a0 σ = some (v, σ1)) : Con l 0 166 [.inl a0] σ v σ1 := Con_mk 1 1 rfl (by decide +kernel) (fun _ H => ok_M_sizeBy_w H _ _ h)
theorem ok_M_wrongAt_84_w {l : Launch} {rv : Int} {rσ : pS} {G : Nat → pL → List pV → pS → Prop} (H : px_R l 0 145 rv rσ G) : ∀ (a1 a2 : Int) (σ : pS), f_M_wrongAt_84 a1 a2 σ = some (rv, rσ) → G 0 [some (.inr 84), some (.inl a1), some (.inl a2)] [] σ := by
  intro a1 a2 σ h
  unfold f_M_wrongAt_84 at h
  refine H [((2, 0, 0, 0, []), 1), ((0, 0, 0, (-1000), []), 3), ((1, 1, 0, 0, []), 1), ((6, 2, 0, 0, []), 1), ((1, 2, 0, 0, []), 1), ((6, 1, 0, 0, []), 1), ((18, 84, 21, 0, []), 3), ((0, 0, 0, 0, []), 1), ((27, 1, 0, 0, []), 1)] 0 _ _ _ (by decide +kernel) ?_
  refine And.intro (show (0 : Int) ≤ 0 ∧ (0 : Int) ≤ 1 from by decide) ?_
  exact Prod.mk.inj (Option.some.inj h)
theorem ok_M_wrongAt_84 {l : Launch} {a1 a2 : Int} {σ : pS} {v : Int} {σ1 : pS} (h : f_M_wrongAt_84 a1 a2 σ = some (v, σ1)) : Con l 0 145 [.inr 84, .inl a1, .inl a2] σ v σ1 := Con_mk 3 3 rfl (by decide +kernel) (fun _ H => ok_M_wrongAt_84_w H _ _ _ h)
theorem ok_M_readsRegister_84_w {l : Launch} {rv : Int} {rσ : pS} {G : Nat → pL → List pV → pS → Prop} (H : px_R l 1 167 rv rσ G) : ∀ (σ : pS), f_M_readsRegister_84  σ = some (rv, rσ) → G 0 [some (.inr 84)] [] σ := by
  intro  σ h
  unfold f_M_readsRegister_84 at h
  refine H [((2, 0, 0, 0, []), 1), ((23, 144, 0, 1, [(0, 84)]), 3), ((0, 0, 0, 48, []), 2), ((0, 0, 0, 55, []), 2), ((24, 137, 3, 1, []), 3), ((14, 1, 24, 0, []), 3), ((2, 0, 0, 0, []), 1), ((0, 0, 0, 1, []), 1), ((2, 0, 0, 0, []), 1), ((16, 84, 19, 0, []), 3), ((23, 145, 2, 1, [(0, 84)]), 3), ((27, 1, 0, 0, []), 1)] 0 _ _ _ (by decide +kernel) ?_
  obtain ⟨⟨vq1, σq1⟩, hq1, h⟩ := px_bind h
  dsimp only at h
  refine Exists.intro 0 (Exists.intro vq1 (Exists.intro σq1 (And.intro (Nat.le_of_ble_eq_true rfl) (And.intro (ok_M_here_84 hq1) ?_))))
  obtain ⟨⟨vq2, σq2⟩, hq2, h⟩ := px_bind h
  dsimp only at h
  refine Exists.intro 0 (Exists.intro vq2 (Exists.intro σq2 (And.intro (Nat.le_of_ble_eq_true rfl) (And.intro (ok_M_in hq2) ?_))))
  rcases px_ite h with ⟨c3, h⟩ | ⟨c3, h⟩
  · refine And.intro (fun hp => absurd c3 hp) (fun _ => ?_)
    obtain ⟨⟨vq5, σq5⟩, hq5, h⟩ := px_bind h
    dsimp only at h
    refine Exists.intro 0 (Exists.intro vq5 (Exists.intro σq5 (And.intro (Nat.le_of_ble_eq_true rfl) (And.intro (ok_M_wrongAt_84 hq5) ?_))))
    obtain ⟨g6, h⟩ := px_gd h
    refine And.intro g6 ?_
    exact Prod.mk.inj (Option.some.inj h)
  · refine And.intro (fun _ => ?_) (fun hn => absurd c3 hn)
    refine H [((2, 0, 0, 0, []), 1), ((2, 0, 0, 0, []), 1), ((23, 144, 0, 1, [(0, 84)]), 3), ((0, 0, 0, 48, []), 2), ((6, 1, 0, 0, []), 1), ((18, 84, 22, 0, []), 3), ((2, 0, 0, 0, []), 1), ((2, 0, 0, 0, []), 1), ((16, 84, 19, 0, []), 3), ((0, 0, 0, 1, []), 1), ((6, 0, 0, 0, []), 1), ((18, 84, 19, 0, []), 3), ((0, 0, 0, 1, []), 1), ((27, 1, 0, 0, []), 1)] 24 _ _ _ (by decide +kernel) ?_
    obtain ⟨⟨vq4, σq4⟩, hq4, h⟩ := px_bind h
    dsimp only at h
    refine Exists.intro 0 (Exists.intro vq4 (Exists.intro σq4 (And.intro (Nat.le_of_ble_eq_true rfl) (And.intro (ok_M_here_84 hq4) ?_))))
    refine And.intro (show (0 : Int) ≤ 1 ∧ (1 : Int) ≤ 1 from by decide) ?_
    exact Prod.mk.inj (Option.some.inj h)
theorem ok_M_readsRegister_84 {l : Launch} {σ : pS} {v : Int} {σ1 : pS} (h : f_M_readsRegister_84  σ = some (v, σ1)) : Con l 1 167 [.inr 84] σ v σ1 := Con_mk 1 1 rfl (by decide +kernel) (fun _ H => ok_M_readsRegister_84_w H  _ h)
