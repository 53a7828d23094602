theorem ok_State_withSet_24_p4 {l : Launch} {rv : Int} {rσ : pS} {G : Nat → pL → List pV → pS → Prop} (H : px_R l 0 127 rv rσ G) : ∀ (n : Nat) (a1 a2 : Int) (σ : pS), f_State_withSet_24_p4 n a1 a2 σ = some (rv, rσ) → G 4 [some (.inr 24), some (.inl a1), some (.inl a2)] [] σ := by
  intro n
  induction n with
  | zero =>
    intro a1 a2 σ h
    unfold f_State_withSet_24_p4 at h
    cases h
  | succ n ih =>
    intro a1 a2 σ h
    unfold f_State_withSet_24_p4 at h
    refine H [((1, 2, 0, 0, []), 1), ((0, 0, 0, 20, []), 2), ((13, 3, 29, 0, []), 3), ((2, 0, 0, 0, []), 1), ((17, 24, 27, 0, []), 3), ((1, 2, 0, 0, []), 1), ((19, 27, 20, 0, []), 1), ((0, 0, 0, (-1), []), 1), ((13, 0, 23, 0, []), 3), ((5, 1, 0, 1, []), 3), ((5, 2, 0, 1, []), 3), ((12, 0, 4, 0, []), 3)] 4 _ _ _ (by decide +kernel) ?_
    rcases px_ite h with ⟨c1, h⟩ | ⟨c1, h⟩
    · refine And.intro (fun _ => ?_) (fun hn => absurd c1 hn)
      refine H [((1, 1, 0, 0, []), 1), ((27, 0, 0, 0, []), 1)] 29 _ _ _ (by decide +kernel) ?_
      exact Prod.mk.inj (Option.some.inj h)
    · refine And.intro (fun hp => absurd hp c1) (fun _ => ?_)
      obtain ⟨g2, h⟩ := px_gd h
      refine And.intro g2 ?_
      rcases px_ite h with ⟨c3, h⟩ | ⟨c3, h⟩
      · refine And.intro (fun _ => ?_) (fun hn => absurd c3 hn)
        refine H [((5, 2, 0, 1, []), 3), ((12, 0, 4, 0, []), 3)] 23 _ _ _ (by decide +kernel) ?_
        exact ih _ _ _ h
      · refine And.intro (fun hp => absurd hp c3) (fun _ => ?_)
        exact ih _ _ _ h
theorem ok_State_withSet_24_w {l : Launch} {rv : Int} {rσ : pS} {G : Nat → pL → List pV → pS → Prop} (H : px_R l 0 127 rv rσ G) : ∀ (σ : pS), f_State_withSet_24  σ = some (rv, rσ) → G 0 [some (.inr 24), none, none] [] σ := by
  intro  σ h
  unfold f_State_withSet_24 at h
  refine H [((0, 0, 0, 0, []), 1), ((3, 1, 0, 0, []), 1), ((0, 0, 0, 0, []), 1), ((3, 2, 0, 0, []), 1)] 0 _ _ _ (by decide +kernel) ?_
  exact ok_State_withSet_24_p4 H _ _ _ _ h
theorem ok_State_withSet_24 {l : Launch} {σ : pS} {v : Int} {σ1 : pS} (h : f_State_withSet_24  σ = some (v, σ1)) : Con l 0 127 [.inr 24] σ v σ1 := Con_mk 1 3 rfl (by decide +kernel) (fun _ H => ok_State_withSet_24_w H  _ h)
theorem ok_X_forget_0_w {l : Launch} {rv : Int} {rσ : pS} {G : Nat → pL → List pV → pS → Prop} (H : px_R l 2 126 rv rσ G) : ∀ (σ : pS), f_X_forget_0  σ = some (rv, rσ) → G 0 [some (.inr 0), none] [] σ := by
  intro  σ h
  unfold f_X_forget_0 at h
  refine H [((2, 0, 0, 0, []), 1), ((17, 0, 3, 0, []), 3), ((17, 3, 24, 0, []), 3), ((23, 127, 0, 1, [(0, 24)]), 3), ((3, 1, 0, 0, []), 1), ((2, 0, 0, 0, []), 1), ((17, 0, 3, 0, []), 3), ((17, 3, 24, 0, []), 3), ((23, 55, 0, 0, [(0, 24)]), 3), ((1, 1, 0, 0, []), 1), ((27, 0, 0, 0, []), 1)] 0 _ _ _ (by decide +kernel) ?_
  obtain ⟨⟨vq1, σq1⟩, hq1, h⟩ := px_bind h
  dsimp only at h
  refine Exists.intro 0 (Exists.intro vq1 (Exists.intro σq1 (And.intro (Nat.le_of_ble_eq_true rfl) (And.intro (ok_State_withSet_24 hq1) ?_))))
  obtain ⟨⟨vq2, σq2⟩, hq2, h⟩ := px_bind h
  dsimp only at h
  refine Exists.intro 1 (Exists.intro vq2 (Exists.intro σq2 (And.intro (Nat.le_of_ble_eq_true rfl) (And.intro (ok_State_dropSets_24 hq2) ?_))))
  exact Prod.mk.inj (Option.some.inj h)
theorem ok_X_forget_0 {l : Launch} {σ : pS} {v : Int} {σ1 : pS} (h : f_X_forget_0  σ = some (v, σ1)) : Con l 2 126 [.inr 0] σ v σ1 := Con_mk 1 2 rfl (by decide +kernel) (fun _ H => ok_X_forget_0_w H  _ h)
theorem ok_M_withSet_84_p4 {l : Launch} {rv : Int} {rσ : pS} {G : Nat → pL → List pV → pS → Prop} (H : px_R l 0 233 rv rσ G) : ∀ (n : Nat) (a1 a2 : Int) (σ : pS), f_M_withSet_84_p4 n a1 a2 σ = some (rv, rσ) → G 4 [some (.inr 84), some (.inl a1), some (.inl a2)] [] σ := by
  intro n
  induction n with
  | zero =>
    intro a1 a2 σ h
    unfold f_M_withSet_84_p4 at h
    cases h
  | succ n ih =>
    intro a1 a2 σ h
    unfold f_M_withSet_84_p4 at h
    refine H [((1, 2, 0, 0, []), 1), ((2, 0, 0, 0, []), 1), ((16, 84, 2, 0, []), 3), ((13, 3, 32, 0, []), 3), ((2, 0, 0, 0, []), 1), ((17, 84, 87, 0, []), 3), ((1, 2, 0, 0, []), 1), ((19, 87, 20, 0, []), 1), ((0, 0, 0, (-1), []), 1), ((13, 0, 26, 0, []), 3), ((1, 1, 0, 0, []), 1), ((0, 0, 0, 1, []), 1), ((6, 0, 0, 0, []), 1), ((3, 1, 0, 0, []), 1), ((5, 2, 0, 1, []), 3), ((12, 0, 4, 0, []), 3)] 4 _ _ _ (by decide +kernel) ?_
    rcases px_ite h with ⟨c1, h⟩ | ⟨c1, h⟩
    · refine And.intro (fun _ => ?_) (fun hn => absurd c1 hn)
      refine H [((1, 1, 0, 0, []), 1), ((27, 0, 0, 0, []), 1)] 32 _ _ _ (by decide +kernel) ?_
      exact Prod.mk.inj (Option.some.inj h)
    · refine And.intro (fun hp => absurd hp c1) (fun _ => ?_)
      obtain ⟨g2, h⟩ := px_gd h
      refine And.intro g2 ?_
      rcases px_ite h with ⟨c3, h⟩ | ⟨c3, h⟩
      · refine And.intro (fun _ => ?_) (fun hn => absurd c3 hn)
        refine H [((5, 2, 0, 1, []), 3), ((12, 0, 4, 0, []), 3)] 26 _ _ _ (by decide +kernel) ?_
        exact ih _ _ _ h
      · refine And.intro (fun hp => absurd hp c3) (fun _ => ?_)
        exact ih _ _ _ h
theorem ok_M_withSet_84_w {l : Launch} {rv : Int} {rσ : pS} {G : Nat → pL → List pV → pS → Prop} (H : px_R l 0 233 rv rσ G) : ∀ (σ : pS), f_M_withSet_84  σ = some (rv, rσ) → G 0 [some (.inr 84), none, none] [] σ := by
  intro  σ h
  unfold f_M_withSet_84 at h
  refine H [((0, 0, 0, 0, []), 1), ((3, 1, 0, 0, []), 1), ((0, 0, 0, 0, []), 1), ((3, 2, 0, 0, []), 1)] 0 _ _ _ (by decide +kernel) ?_
  exact ok_M_withSet_84_p4 H _ _ _ _ h
theorem ok_M_withSet_84 {l : Launch} {σ : pS} {v : Int} {σ1 : pS} (h : f_M_withSet_84  σ = some (v, σ1)) : Con l 0 233 [.inr 84] σ v σ1 := Con_mk 1 3 rfl (by decide +kernel) (fun _ H => ok_M_withSet_84_w H  _ h)
theorem ok_M_forget_84_p7 {l : Launch} {rv : Int} {rσ : pS} {G : Nat → pL → List pV → pS → Prop} (H : px_R l 1 232 rv rσ G) : ∀ (n : Nat) (a1 a2 : Int) (σ : pS), f_M_forget_84_p7 n a1 a2 σ = some (rv, rσ) → G 7 [some (.inr 84), some (.inl a1), some (.inl a2)] [] σ := by
  intro n
  induction n with
  | zero =>
    intro a1 a2 σ h
    unfold f_M_forget_84_p7 at h
    cases h
  | succ n ih =>
    intro a1 a2 σ h
    unfold f_M_forget_84_p7 at h
    refine H [((1, 2, 0, 0, []), 1), ((2, 0, 0, 0, []), 1), ((16, 84, 2, 0, []), 3), ((13, 3, 28, 0, []), 3), ((2, 0, 0, 0, []), 1), ((17, 84, 87, 0, []), 3), ((1, 2, 0, 0, []), 1), ((0, 0, 0, (-1), []), 1), ((20, 87, 20, 0, []), 1), ((5, 2, 0, 1, []), 3), ((12, 0, 7, 0, []), 3)] 7 _ _ _ (by decide +kernel) ?_
    rcases px_ite h with ⟨c2, h⟩ | ⟨c2, h⟩
    · refine And.intro (fun _ => ?_) (fun hn => absurd c2 hn)
      refine H [((1, 1, 0, 0, []), 1), ((27, 0, 0, 0, []), 1)] 28 _ _ _ (by decide +kernel) ?_
      exact Prod.mk.inj (Option.some.inj h)
    · refine And.intro (fun hp => absurd hp c2) (fun _ => ?_)
      obtain ⟨g3, h⟩ := px_gd h
      refine And.intro g3 ?_
      exact ih _ _ _ h
theorem ok_M_forget_84_w {l : Launch} {rv : Int} {rσ : pS} {G : Nat → pL → List pV → pS → Prop} (H : px_R l 1 232 rv rσ G) : ∀ (σ : pS), f_M_forget_84  σ = some (rv, rσ) → G 0 [some (.inr 84), none, none] [] σ := by
  intro  σ h
  unfold f_M_forget_84 at h
  refine H [((2, 0, 0, 0, []), 1), ((23, 233, 0, 1, [(0, 84)]), 3), ((3, 1, 0, 0, []), 1), ((0, 0, 0, 0, []), 1), ((3, 2, 0, 0, []), 1)] 0 _ _ _ (by decide +kernel) ?_
  obtain ⟨⟨vq1, σq1⟩, hq1, h⟩ := px_bind h
  dsimp only at h
  refine Exists.intro 0 (Exists.intro vq1 (Exists.intro σq1 (And.intro (Nat.le_of_ble_eq_true rfl) (And.intro (ok_M_withSet_84 hq1) ?_))))
  exact ok_M_forget_84_p7 H _ _ _ _ h
theorem ok_M_forget_84 {l : Launch} {σ : pS} {v : Int} {σ1 : pS} (h : f_M_forget_84  σ = some (v, σ1)) : Con l 1 232 [.inr 84] σ v σ1 := Con_mk 1 3 rfl (by decide +kernel) (fun _ H => ok_M_forget_84_w H  _ h)
theorem ok_X_seed_0_w {l : Launch} {rv : Int} {rσ : pS} {G : Nat → pL → List pV → pS → Prop} (H : px_R l 0 128 rv rσ G) : ∀ (a1 : Int) (σ : pS), f_X_seed_0 a1 σ = some (rv, rσ) → G 0 [some (.inr 0), some (.inl a1)] [] σ := by
  intro a1 σ h
  unfold f_X_seed_0 at h
  refine H [((1, 1, 0, 0, []), 1), ((14, 2, 10, 0, []), 3), ((1, 1, 0, 0, []), 1), ((0, 0, 0, 65536, []), 2), ((13, 2, 12, 0, []), 3), ((0, 0, 0, 0, []), 1), ((27, 1, 0, 0, []), 1)] 0 _ _ _ (by decide +kernel) ?_
  rcases px_ite h with ⟨c1, h⟩ | ⟨c1, h⟩
  · refine And.intro (fun _ => ?_) (fun hn => absurd c1 hn)
    refine H [((0, 0, 0, 0, []), 1), ((27, 1, 0, 0, []), 1)] 10 _ _ _ (by decide +kernel) ?_
    refine And.intro (show (0 : Int) ≤ 0 ∧ (0 : Int) ≤ 1 from by decide) ?_
    exact Prod.mk.inj (Option.some.inj h)
  · refine And.intro (fun hp => absurd hp c1) (fun _ => ?_)
    rcases px_ite h with ⟨c2, h⟩ | ⟨c2, h⟩
    · refine And.intro (fun _ => ?_) (fun hn => absurd c2 hn)
      refine H [((2, 0, 0, 0, []), 1), ((17, 0, 3, 0, []), 3), ((17, 3, 24, 0, []), 3), ((1, 1, 0, 0, []), 1), ((18, 24, 5, 0, []), 3), ((0, 0, 0, 1, []), 1), ((27, 1, 0, 0, []), 1)] 12 _ _ _ (by decide +kernel) ?_
      refine And.intro (show (0 : Int) ≤ 1 ∧ (1 : Int) ≤ 1 from by decide) ?_
      exact Prod.mk.inj (Option.some.inj h)
    · refine And.intro (fun hp => absurd hp c2) (fun _ => ?_)
      refine And.intro (show (0 : Int) ≤ 0 ∧ (0 : Int) ≤ 1 from by decide) ?_
      exact Prod.mk.inj (Option.some.inj h)
theorem ok_X_seed_0 {l : Launch} {a1 : Int} {σ : pS} {v : Int} {σ1 : pS} (h : f_X_seed_0 a1 σ = some (v, σ1)) : Con l 0 128 [.inr 0, .inl a1] σ v σ1 := Con_mk 2 2 rfl (by decide +kernel) (fun _ H => ok_X_seed_0_w H _ _ h)
theorem ok_M_seed_84_w {l : Launch} {rv : Int} {rσ : pS} {G : Nat → pL → List pV → pS → Prop} (H : px_R l 1 234 rv rσ G) : ∀ (a1 : Int) (σ : pS), f_M_seed_84 a1 σ = some (rv, rσ) → G 0 [some (.inr 84), some (.inl a1)] [] σ := by
  intro a1 σ h
  unfold f_M_seed_84 at h
  refine H [((1, 1, 0, 0, []), 1), ((0, 0, 0, 0, []), 1), ((0, 0, 0, 65535, []), 3), ((24, 137, 3, 1, []), 3), ((14, 1, 13, 0, []), 3), ((0, 0, 0, 0, []), 1), ((27, 1, 0, 0, []), 1)] 0 _ _ _ (by decide +kernel) ?_
  obtain ⟨⟨vq1, σq1⟩, hq1, h⟩ := px_bind h
  dsimp only at h
  refine Exists.intro 0 (Exists.intro vq1 (Exists.intro σq1 (And.intro (Nat.le_of_ble_eq_true rfl) (And.intro (ok_M_in hq1) ?_))))
  rcases px_ite h with ⟨c2, h⟩ | ⟨c2, h⟩
  · refine And.intro (fun hp => absurd c2 hp) (fun _ => ?_)
    refine And.intro (show (0 : Int) ≤ 0 ∧ (0 : Int) ≤ 1 from by decide) ?_
    exact Prod.mk.inj (Option.some.inj h)
  · refine And.intro (fun _ => ?_) (fun hn => absurd c2 hn)
    refine H [((2, 0, 0, 0, []), 1), ((1, 1, 0, 0, []), 1), ((18, 84, 0, 0, []), 3), ((0, 0, 0, 1, []), 1), ((27, 1, 0, 0, []), 1)] 13 _ _ _ (by decide +kernel) ?_
    refine And.intro (show (0 : Int) ≤ 1 ∧ (1 : Int) ≤ 1 from by decide) ?_
    exact Prod.mk.inj (Option.some.inj h)
theorem ok_M_seed_84 {l : Launch} {a1 : Int} {σ : pS} {v : Int} {σ1 : pS} (h : f_M_seed_84 a1 σ = some (v, σ1)) : Con l 1 234 [.inr 84, .inl a1] σ v σ1 := Con_mk 2 2 rfl (by decide +kernel) (fun _ H => ok_M_seed_84_w H _ _ h)
theorem ok_State_copyCellsFrom_78_24_w {l : Launch} {rv : Int} {rσ : pS} {G : Nat → pL → List pV → pS → Prop} (H : px_R l 1 62 rv rσ G) : ∀ (σ : pS), f_State_copyCellsFrom_78_24  σ = some (rv, rσ) → G 0 [some (.inr 78), some (.inr 24)] [] σ := by
  intro  σ h
  unfold f_State_copyCellsFrom_78_24 at h
  refine H [((2, 1, 0, 0, []), 1), ((17, 24, 25, 0, []), 3), ((0, 0, 0, 0, []), 1), ((2, 0, 0, 0, []), 1), ((17, 78, 79, 0, []), 3), ((0, 0, 0, 0, []), 1), ((0, 0, 0, 8, []), 2), ((26, 25, 79, 8, []), 3), ((2, 1, 0, 0, []), 1), ((17, 24, 26, 0, []), 3), ((0, 0, 0, 0, []), 1), ((2, 0, 0, 0, []), 1), ((17, 78, 80, 0, []), 3), ((0, 0, 0, 0, []), 1), ((0, 0, 0, 64, []), 2), ((26, 26, 80, 64, []), 3), ((2, 0, 0, 0, []), 1), ((2, 1, 0, 0, []), 1), ((16, 24, 4, 0, []), 3), ((18, 78, 4, 0, []), 3), ((2, 0, 0, 0, []), 1), ((2, 1, 0, 0, []), 1), ((16, 24, 5, 0, []), 3), ((18, 78, 5, 0, []), 3), ((28, 0, 0, 0, []), 1)] 0 _ _ _ (by decide +kernel) ?_
  exact (Prod.mk.inj (Option.some.inj h)).2
theorem ok_State_copyCellsFrom_78_24 {l : Launch} {σ : pS} {v : Int} {σ1 : pS} (h : f_State_copyCellsFrom_78_24  σ = some (v, σ1)) : Con l 1 62 [.inr 78, .inr 24] σ v σ1 := Con_mk 2 2 rfl (by decide +kernel) (fun _ H => ok_State_copyCellsFrom_78_24_w H  _ h)
theorem ok_State_copySetsFrom_78_24_w {l : Launch} {rv : Int} {rσ : pS} {G : Nat → pL → List pV → pS → Prop} (H : px_R l 1 63 rv rσ G) : ∀ (σ : pS), f_State_copySetsFrom_78_24  σ = some (rv, rσ) → G 0 [some (.inr 78), some (.inr 24)] [] σ := by
  intro  σ h
  unfold f_State_copySetsFrom_78_24 at h
  refine H [((2, 1, 0, 0, []), 1), ((17, 24, 27, 0, []), 3), ((0, 0, 0, 0, []), 1), ((2, 0, 0, 0, []), 1), ((17, 78, 81, 0, []), 3), ((0, 0, 0, 0, []), 1), ((0, 0, 0, 20, []), 2), ((26, 27, 81, 20, []), 3), ((2, 0, 0, 0, []), 1), ((2, 1, 0, 0, []), 1), ((16, 24, 3, 0, []), 3), ((18, 78, 3, 0, []), 3), ((28, 0, 0, 0, []), 1)] 0 _ _ _ (by decide +kernel) ?_
  exact (Prod.mk.inj (Option.some.inj h)).2
theorem ok_State_copySetsFrom_78_24 {l : Launch} {σ : pS} {v : Int} {σ1 : pS} (h : f_State_copySetsFrom_78_24  σ = some (v, σ1)) : Con l 1 63 [.inr 78, .inr 24] σ v σ1 := Con_mk 2 2 rfl (by decide +kernel) (fun _ H => ok_State_copySetsFrom_78_24_w H  _ h)
theorem ok_State_copyFrom_78_24_w {l : Launch} {rv : Int} {rσ : pS} {G : Nat → pL → List pV → pS → Prop} (H : px_R l 2 61 rv rσ G) : ∀ (σ : pS), f_State_copyFrom_78_24  σ = some (rv, rσ) → G 0 [some (.inr 78), some (.inr 24)] [] σ := by
  intro  σ h
  unfold f_State_copyFrom_78_24 at h
  refine H [((2, 0, 0, 0, []), 1), ((2, 1, 0, 0, []), 1), ((23, 62, 1, 0, [(0, 78)]), 3), ((2, 0, 0, 0, []), 1), ((2, 1, 0, 0, []), 1), ((23, 63, 1, 0, [(0, 78)]), 3), ((28, 0, 0, 0, []), 1)] 0 _ _ _ (by decide +kernel) ?_
  obtain ⟨⟨vq1, σq1⟩, hq1, h⟩ := px_bind h
  dsimp only at h
  refine Exists.intro 1 (Exists.intro vq1 (Exists.intro σq1 (And.intro (Nat.le_of_ble_eq_true rfl) (And.intro (ok_State_copyCellsFrom_78_24 hq1) ?_))))
  obtain ⟨⟨vq2, σq2⟩, hq2, h⟩ := px_bind h
  dsimp only at h
  refine Exists.intro 1 (Exists.intro vq2 (Exists.intro σq2 (And.intro (Nat.le_of_ble_eq_true rfl) (And.intro (ok_State_copySetsFrom_78_24 hq2) ?_))))
  exact (Prod.mk.inj (Option.some.inj h)).2
theorem ok_State_copyFrom_78_24 {l : Launch} {σ : pS} {v : Int} {σ1 : pS} (h : f_State_copyFrom_78_24  σ = some (v, σ1)) : Con l 2 61 [.inr 78, .inr 24] σ v σ1 := Con_mk 2 2 rfl (by decide +kernel) (fun _ H => ok_State_copyFrom_78_24_w H  _ h)
theorem ok_X_keep_0_w {l : Launch} {rv : Int} {rσ : pS} {G : Nat → pL → List pV → pS → Prop} (H : px_R l 3 129 rv rσ G) : ∀ (σ : pS), f_X_keep_0  σ = some (rv, rσ) → G 0 [some (.inr 0)] [] σ := by
  intro  σ h
  unfold f_X_keep_0 at h
  refine H [((2, 0, 0, 0, []), 1), ((17, 0, 78, 0, []), 3), ((2, 0, 0, 0, []), 1), ((17, 0, 3, 0, []), 3), ((17, 3, 24, 0, []), 3), ((23, 61, 1, 0, [(0, 78)]), 3), ((2, 0, 0, 0, []), 1), ((0, 0, 0, 1, []), 1), ((18, 0, 9, 1, []), 3), ((2, 0, 0, 0, []), 1), ((0, 0, 0, 0, []), 1), ((18, 0, 10, 1, []), 3), ((2, 0, 0, 0, []), 1), ((17, 0, 3, 0, []), 3), ((17, 3, 24, 0, []), 3), ((16, 24, 4, 0, []), 3), ((27, 0, 0, 0, []), 1)] 0 _ _ _ (by decide +kernel) ?_
  obtain ⟨⟨vq1, σq1⟩, hq1, h⟩ := px_bind h
  dsimp only at h
  refine Exists.intro 2 (Exists.intro vq1 (Exists.intro σq1 (And.intro (Nat.le_of_ble_eq_true rfl) (And.intro (ok_State_copyFrom_78_24 hq1) ?_))))
  refine And.intro (show (0 : Int) ≤ 1 ∧ (1 : Int) ≤ 1 from by decide) ?_
  refine And.intro (show (0 : Int) ≤ 0 ∧ (0 : Int) ≤ 1 from by decide) ?_
  exact Prod.mk.inj (Option.some.inj h)
theorem ok_X_keep_0 {l : Launch} {σ : pS} {v : Int} {σ1 : pS} (h : f_X_keep_0  σ = some (v, σ1)) : Con l 3 129 [.inr 0] σ v σ1 := Con_mk 1 1 rfl (by decide +kernel) (fun _ H => ok_X_keep_0_w H  _ h)
theorem ok_M_keep_84_p91 {l : Launch} {rv : Int} {rσ : pS} {G : Nat → pL → List pV → pS → Prop} (H : px_R l 0 235 rv rσ G) : ∀ (n : Nat) (a1 : Int) (σ : pS), f_M_keep_84_p91 n a1 σ = some (rv, rσ) → G 91 [some (.inr 84), some (.inl a1)] [] σ := by
  intro n
  induction n with
  | zero =>
    intro a1 σ h
    unfold f_M_keep_84_p91 at h
    cases h
  | succ n ih =>
    intro a1 σ h
    unfold f_M_keep_84_p91 at h
    refine H [((1, 1, 0, 0, []), 1), ((0, 0, 0, 20, []), 2), ((13, 3, 115, 0, []), 3), ((2, 0, 0, 0, []), 1), ((17, 84, 148, 0, []), 3), ((1, 1, 0, 0, []), 1), ((2, 0, 0, 0, []), 1), ((17, 84, 87, 0, []), 3), ((1, 1, 0, 0, []), 1), ((19, 87, 20, 0, []), 1), ((20, 148, 20, 0, []), 1), ((5, 1, 0, 1, []), 3), ((12, 0, 91, 0, []), 3)] 91 _ _ _ (by decide +kernel) ?_
    rcases px_ite h with ⟨c3, h⟩ | ⟨c3, h⟩
    · refine And.intro (fun _ => ?_) (fun hn => absurd c3 hn)
      refine H [((2, 0, 0, 0, []), 1), ((16, 84, 1, 0, []), 3), ((27, 0, 0, 0, []), 1)] 115 _ _ _ (by decide +kernel) ?_
      exact Prod.mk.inj (Option.some.inj h)
    · refine And.intro (fun hp => absurd hp c3) (fun _ => ?_)
      obtain ⟨g4, h⟩ := px_gd h
      refine And.intro g4 ?_
      obtain ⟨g5, h⟩ := px_gd h
      refine And.intro g5 ?_
      exact ih _ _ h
theorem ok_M_keep_84_p65 {l : Launch} {rv : Int} {rσ : pS} {G : Nat → pL → List pV → pS → Prop} (H : px_R l 0 235 rv rσ G) : ∀ (n : Nat) (a1 : Int) (σ : pS), f_M_keep_84_p65 n a1 σ = some (rv, rσ) → G 65 [some (.inr 84), some (.inl a1)] [] σ := by
  intro n
  induction n with
  | zero =>
    intro a1 σ h
    unfold f_M_keep_84_p65 at h
    cases h
  | succ n ih =>
    intro a1 σ h
    unfold f_M_keep_84_p65 at h
    refine H [((1, 1, 0, 0, []), 1), ((0, 0, 0, 64, []), 2), ((13, 3, 89, 0, []), 3), ((2, 0, 0, 0, []), 1), ((17, 84, 147, 0, []), 3), ((1, 1, 0, 0, []), 1), ((2, 0, 0, 0, []), 1), ((17, 84, 86, 0, []), 3), ((1, 1, 0, 0, []), 1), ((19, 86, 64, 0, []), 1), ((20, 147, 64, 0, []), 1), ((5, 1, 0, 1, []), 3), ((12, 0, 65, 0, []), 3)] 65 _ _ _ (by decide +kernel) ?_
    rcases px_ite h with ⟨c2, h⟩ | ⟨c2, h⟩
    · refine And.intro (fun _ => ?_) (fun hn => absurd c2 hn)
      refine H [((0, 0, 0, 0, []), 1), ((3, 1, 0, 0, []), 1)] 89 _ _ _ (by decide +kernel) ?_
      exact ok_M_keep_84_p91 H _ _ _ h
    · refine And.intro (fun hp => absurd hp c2) (fun _ => ?_)
      obtain ⟨g6, h⟩ := px_gd h
      refine And.intro g6 ?_
      obtain ⟨g7, h⟩ := px_gd h
      refine And.intro g7 ?_
      exact ih _ _ h
theorem ok_M_keep_84_p39 {l : Launch} {rv : Int} {rσ : pS} {G : Nat → pL → List pV → pS → Prop} (H : px_R l 0 235 rv rσ G) : ∀ (n : Nat) (a1 : Int) (σ : pS), f_M_keep_84_p39 n a1 σ = some (rv, rσ) → G 39 [some (.inr 84), some (.inl a1)] [] σ := by
  intro n
  induction n with
  | zero =>
    intro a1 σ h
    unfold f_M_keep_84_p39 at h
    cases h
  | succ n ih =>
    intro a1 σ h
    unfold f_M_keep_84_p39 at h
    refine H [((1, 1, 0, 0, []), 1), ((0, 0, 0, 8, []), 2), ((13, 3, 63, 0, []), 3), ((2, 0, 0, 0, []), 1), ((17, 84, 146, 0, []), 3), ((1, 1, 0, 0, []), 1), ((2, 0, 0, 0, []), 1), ((17, 84, 85, 0, []), 3), ((1, 1, 0, 0, []), 1), ((19, 85, 8, 0, []), 1), ((20, 146, 8, 0, []), 1), ((5, 1, 0, 1, []), 3), ((12, 0, 39, 0, []), 3)] 39 _ _ _ (by decide +kernel) ?_
    rcases px_ite h with ⟨c1, h⟩ | ⟨c1, h⟩
    · refine And.intro (fun _ => ?_) (fun hn => absurd c1 hn)
      refine H [((0, 0, 0, 0, []), 1), ((3, 1, 0, 0, []), 1)] 63 _ _ _ (by decide +kernel) ?_
      exact ok_M_keep_84_p65 H _ _ _ h
    · refine And.intro (fun hp => absurd hp c1) (fun _ => ?_)
      obtain ⟨g8, h⟩ := px_gd h
      refine And.intro g8 ?_
      obtain ⟨g9, h⟩ := px_gd h
      refine And.intro g9 ?_
      exact ih _ _ h
theorem ok_M_keep_84_w {l : Launch} {rv : Int} {rσ : pS} {G : Nat → pL → List pV → pS → Prop} (H : px_R l 0 235 rv rσ G) : ∀ (σ : pS), f_M_keep_84  σ = some (rv, rσ) → G 0 [some (.inr 84), none] [] σ := by
  intro  σ h
  unfold f_M_keep_84 at h
  refine H [((2, 0, 0, 0, []), 1), ((0, 0, 0, 1, []), 1), ((18, 84, 88, 1, []), 3), ((2, 0, 0, 0, []), 1), ((2, 0, 0, 0, []), 1), ((16, 84, 5, 0, []), 3), ((18, 84, 89, 0, []), 3), ((2, 0, 0, 0, []), 1), ((2, 0, 0, 0, []), 1), ((16, 84, 3, 0, []), 3), ((18, 84, 90, 0, []), 3), ((2, 0, 0, 0, []), 1), ((2, 0, 0, 0, []), 1), ((16, 84, 1, 0, []), 3), ((18, 84, 91, 0, []), 3), ((2, 0, 0, 0, []), 1), ((2, 0, 0, 0, []), 1), ((16, 84, 0, 0, []), 3), ((18, 84, 92, 0, []), 3), ((0, 0, 0, 0, []), 1), ((3, 1, 0, 0, []), 1)] 0 _ _ _ (by decide +kernel) ?_
  refine And.intro (show (0 : Int) ≤ 1 ∧ (1 : Int) ≤ 1 from by decide) ?_
  exact ok_M_keep_84_p39 H _ _ _ h
theorem ok_M_keep_84 {l : Launch} {σ : pS} {v : Int} {σ1 : pS} (h : f_M_keep_84  σ = some (v, σ1)) : Con l 0 235 [.inr 84] σ v σ1 := Con_mk 1 2 rfl (by decide +kernel) (fun _ H => ok_M_keep_84_w H  _ h)
theorem ok_State_copyCellsFrom_24_78_w {l : Launch} {rv : Int} {rσ : pS} {G : Nat → pL → List pV → pS → Prop} (H : px_R l 1 62 rv rσ G) : ∀ (σ : pS), f_State_copyCellsFrom_24_78  σ = some (rv, rσ) → G 0 [some (.inr 24), some (.inr 78)] [] σ := by
  intro  σ h
  unfold f_State_copyCellsFrom_24_78 at h
  refine H [((2, 1, 0, 0, []), 1), ((17, 78, 79, 0, []), 3), ((0, 0, 0, 0, []), 1), ((2, 0, 0, 0, []), 1), ((17, 24, 25, 0, []), 3), ((0, 0, 0, 0, []), 1), ((0, 0, 0, 8, []), 2), ((26, 79, 25, 8, []), 3), ((2, 1, 0, 0, []), 1), ((17, 78, 80, 0, []), 3), ((0, 0, 0, 0, []), 1), ((2, 0, 0, 0, []), 1), ((17, 24, 26, 0, []), 3), ((0, 0, 0, 0, []), 1), ((0, 0, 0, 64, []), 2), ((26, 80, 26, 64, []), 3), ((2, 0, 0, 0, []), 1), ((2, 1, 0, 0, []), 1), ((16, 78, 4, 0, []), 3), ((18, 24, 4, 0, []), 3), ((2, 0, 0, 0, []), 1), ((2, 1, 0, 0, []), 1), ((16, 78, 5, 0, []), 3), ((18, 24, 5, 0, []), 3), ((28, 0, 0, 0, []), 1)] 0 _ _ _ (by decide +kernel) ?_
  exact (Prod.mk.inj (Option.some.inj h)).2
theorem ok_State_copyCellsFrom_24_78 {l : Launch} {σ : pS} {v : Int} {σ1 : pS} (h : f_State_copyCellsFrom_24_78  σ = some (v, σ1)) : Con l 1 62 [.inr 24, .inr 78] σ v σ1 := Con_mk 2 2 rfl (by decide +kernel) (fun _ H => ok_State_copyCellsFrom_24_78_w H  _ h)
theorem ok_State_copySetsFrom_24_78_w {l : Launch} {rv : Int} {rσ : pS} {G : Nat → pL → List pV → pS → Prop} (H : px_R l 1 63 rv rσ G) : ∀ (σ : pS), f_State_copySetsFrom_24_78  σ = some (rv, rσ) → G 0 [some (.inr 24), some (.inr 78)] [] σ := by
  intro  σ h
  unfold f_State_copySetsFrom_24_78 at h
  refine H [((2, 1, 0, 0, []), 1), ((17, 78, 81, 0, []), 3), ((0, 0, 0, 0, []), 1), ((2, 0, 0, 0, []), 1), ((17, 24, 27, 0, []), 3), ((0, 0, 0, 0, []), 1), ((0, 0, 0, 20, []), 2), ((26, 81, 27, 20, []), 3), ((2, 0, 0, 0, []), 1), ((2, 1, 0, 0, []), 1), ((16, 78, 3, 0, []), 3), ((18, 24, 3, 0, []), 3), ((28, 0, 0, 0, []), 1)] 0 _ _ _ (by decide +kernel) ?_
  exact (Prod.mk.inj (Option.some.inj h)).2
theorem ok_State_copySetsFrom_24_78 {l : Launch} {σ : pS} {v : Int} {σ1 : pS} (h : f_State_copySetsFrom_24_78  σ = some (v, σ1)) : Con l 1 63 [.inr 24, .inr 78] σ v σ1 := Con_mk 2 2 rfl (by decide +kernel) (fun _ H => ok_State_copySetsFrom_24_78_w H  _ h)
theorem ok_X_undo_0_w {l : Launch} {rv : Int} {rσ : pS} {G : Nat → pL → List pV → pS → Prop} (H : px_R l 2 130 rv rσ G) : ∀ (σ : pS), f_X_undo_0  σ = some (rv, rσ) → G 0 [some (.inr 0)] [] σ := by
  intro  σ h
  unfold f_X_undo_0 at h
  refine H [((2, 0, 0, 0, []), 1), ((16, 0, 9, 0, []), 3), ((14, 1, 9, 0, []), 3), ((0, 0, 0, 0, []), 1), ((27, 1, 0, 0, []), 1)] 0 _ _ _ (by decide +kernel) ?_
  rcases px_ite h with ⟨c1, h⟩ | ⟨c1, h⟩
  · refine And.intro (fun hp => absurd c1 hp) (fun _ => ?_)
    refine And.intro (show (0 : Int) ≤ 0 ∧ (0 : Int) ≤ 1 from by decide) ?_
    exact Prod.mk.inj (Option.some.inj h)
  · refine And.intro (fun _ => ?_) (fun hn => absurd c1 hn)
    refine H [((2, 0, 0, 0, []), 1), ((17, 0, 3, 0, []), 3), ((17, 3, 24, 0, []), 3), ((2, 0, 0, 0, []), 1), ((17, 0, 78, 0, []), 3), ((23, 62, 1, 0, [(0, 24)]), 3), ((2, 0, 0, 0, []), 1), ((16, 0, 10, 0, []), 3), ((14, 1, 44, 0, []), 3), ((2, 0, 0, 0, []), 1), ((17, 0, 3, 0, []), 3), ((17, 3, 24, 0, []), 3), ((2, 0, 0, 0, []), 1), ((17, 0, 78, 0, []), 3), ((23, 63, 1, 0, [(0, 24)]), 3), ((0, 0, 0, 1, []), 1), ((27, 1, 0, 0, []), 1)] 9 _ _ _ (by decide +kernel) ?_
    obtain ⟨⟨vq2, σq2⟩, hq2, h⟩ := px_bind h
    dsimp only at h
    refine Exists.intro 1 (Exists.intro vq2 (Exists.intro σq2 (And.intro (Nat.le_of_ble_eq_true rfl) (And.intro (ok_State_copyCellsFrom_24_78 hq2) ?_))))
    rcases px_ite h with ⟨c3, h⟩ | ⟨c3, h⟩
    · refine And.intro (fun hp => absurd c3 hp) (fun _ => ?_)
      obtain ⟨⟨vq4, σq4⟩, hq4, h⟩ := px_bind h
      dsimp only at h
      refine Exists.intro 1 (Exists.intro vq4 (Exists.intro σq4 (And.intro (Nat.le_of_ble_eq_true rfl) (And.intro (ok_State_copySetsFrom_24_78 hq4) ?_))))
      refine And.intro (show (0 : Int) ≤ 1 ∧ (1 : Int) ≤ 1 from by decide) ?_
      exact Prod.mk.inj (Option.some.inj h)
    · refine And.intro (fun _ => ?_) (fun hn => absurd c3 hn)
      refine H [((0, 0, 0, 1, []), 1), ((27, 1, 0, 0, []), 1)] 44 _ _ _ (by decide +kernel) ?_
      refine And.intro (show (0 : Int) ≤ 1 ∧ (1 : Int) ≤ 1 from by decide) ?_
      exact Prod.mk.inj (Option.some.inj h)
theorem ok_X_undo_0 {l : Launch} {σ : pS} {v : Int} {σ1 : pS} (h : f_X_undo_0  σ = some (v, σ1)) : Con l 2 130 [.inr 0] σ v σ1 := Con_mk 1 1 rfl (by decide +kernel) (fun _ H => ok_X_undo_0_w H  _ h)
theorem ok_M_undo_84_p100 {l : Launch} {rv : Int} {rσ : pS} {G : Nat → pL → List pV → pS → Prop} (H : px_R l 0 236 rv rσ G) : ∀ (n : Nat) (a1 : Int) (σ : pS), f_M_undo_84_p100 n a1 σ = some (rv, rσ) → G 100 [some (.inr 84), some (.inl a1)] [] σ := by
  intro n
  induction n with
  | zero =>
    intro a1 σ h
    unfold f_M_undo_84_p100 at h
    cases h
  | succ n ih =>
    intro a1 σ h
    unfold f_M_undo_84_p100 at h
    refine H [((1, 1, 0, 0, []), 1), ((0, 0, 0, 20, []), 2), ((13, 3, 124, 0, []), 3), ((2, 0, 0, 0, []), 1), ((17, 84, 87, 0, []), 3), ((1, 1, 0, 0, []), 1), ((2, 0, 0, 0, []), 1), ((17, 84, 148, 0, []), 3), ((1, 1, 0, 0, []), 1), ((19, 148, 20, 0, []), 1), ((20, 87, 20, 0, []), 1), ((5, 1, 0, 1, []), 3), ((12, 0, 100, 0, []), 3)] 100 _ _ _ (by decide +kernel) ?_
    rcases px_ite h with ⟨c5, h⟩ | ⟨c5, h⟩
    · refine And.intro (fun _ => ?_) (fun hn => absurd c5 hn)
      refine H [((0, 0, 0, 1, []), 1), ((27, 1, 0, 0, []), 1)] 124 _ _ _ (by decide +kernel) ?_
      refine And.intro (show (0 : Int) ≤ 1 ∧ (1 : Int) ≤ 1 from by decide) ?_
      exact Prod.mk.inj (Option.some.inj h)
    · refine And.intro (fun hp => absurd hp c5) (fun _ => ?_)
      obtain ⟨g6, h⟩ := px_gd h
      refine And.intro g6 ?_
      obtain ⟨g7, h⟩ := px_gd h
      refine And.intro g7 ?_
      exact ih _ _ h
theorem ok_M_undo_84_p53 {l : Launch} {rv : Int} {rσ : pS} {G : Nat → pL → List pV → pS → Prop} (H : px_R l 0 236 rv rσ G) : ∀ (n : Nat) (a1 : Int) (σ : pS), f_M_undo_84_p53 n a1 σ = some (rv, rσ) → G 53 [some (.inr 84), some (.inl a1)] [] σ := by
  intro n
  induction n with
  | zero =>
    intro a1 σ h
    unfold f_M_undo_84_p53 at h
    cases h
  | succ n ih =>
    intro a1 σ h
    unfold f_M_undo_84_p53 at h
    refine H [((1, 1, 0, 0, []), 1), ((0, 0, 0, 64, []), 2), ((13, 3, 77, 0, []), 3), ((2, 0, 0, 0, []), 1), ((17, 84, 86, 0, []), 3), ((1, 1, 0, 0, []), 1), ((2, 0, 0, 0, []), 1), ((17, 84, 147, 0, []), 3), ((1, 1, 0, 0, []), 1), ((19, 147, 64, 0, []), 1), ((20, 86, 64, 0, []), 1), ((5, 1, 0, 1, []), 3), ((12, 0, 53, 0, []), 3)] 53 _ _ _ (by decide +kernel) ?_
    rcases px_ite h with ⟨c3, h⟩ | ⟨c3, h⟩
    · refine And.intro (fun _ => ?_) (fun hn => absurd c3 hn)
      refine H [((2, 0, 0, 0, []), 1), ((16, 84, 89, 0, []), 3), ((2, 0, 0, 0, []), 1), ((16, 84, 5, 0, []), 3), ((13, 0, 90, 0, []), 3), ((0, 0, 0, 1, []), 1), ((27, 1, 0, 0, []), 1)] 77 _ _ _ (by decide +kernel) ?_
      rcases px_ite h with ⟨c4, h⟩ | ⟨c4, h⟩
      · refine And.intro (fun _ => ?_) (fun hn => absurd c4 hn)
        refine H [((2, 0, 0, 0, []), 1), ((2, 0, 0, 0, []), 1), ((16, 84, 90, 0, []), 3), ((18, 84, 3, 0, []), 3), ((0, 0, 0, 0, []), 1), ((3, 1, 0, 0, []), 1)] 90 _ _ _ (by decide +kernel) ?_
        exact ok_M_undo_84_p100 H _ _ _ h
      · refine And.intro (fun hp => absurd hp c4) (fun _ => ?_)
        refine And.intro (show (0 : Int) ≤ 1 ∧ (1 : Int) ≤ 1 from by decide) ?_
        exact Prod.mk.inj (Option.some.inj h)
    · refine And.intro (fun hp => absurd hp c3) (fun _ => ?_)
      obtain ⟨g8, h⟩ := px_gd h
      refine And.intro g8 ?_
      obtain ⟨g9, h⟩ := px_gd h
      refine And.intro g9 ?_
      exact ih _ _ h
theorem ok_M_undo_84_p27 {l : Launch} {rv : Int} {rσ : pS} {G : Nat → pL → List pV → pS → Prop} (H : px_R l 0 236 rv rσ G) : ∀ (n : Nat) (a1 : Int) (σ : pS), f_M_undo_84_p27 n a1 σ = some (rv, rσ) → G 27 [some (.inr 84), some (.inl a1)] [] σ := by
  intro n
  induction n with
  | zero =>
    intro a1 σ h
    unfold f_M_undo_84_p27 at h
    cases h
  | succ n ih =>
    intro a1 σ h
    unfold f_M_undo_84_p27 at h
    refine H [((1, 1, 0, 0, []), 1), ((0, 0, 0, 8, []), 2), ((13, 3, 51, 0, []), 3), ((2, 0, 0, 0, []), 1), ((17, 84, 85, 0, []), 3), ((1, 1, 0, 0, []), 1), ((2, 0, 0, 0, []), 1), ((17, 84, 146, 0, []), 3), ((1, 1, 0, 0, []), 1), ((19, 146, 8, 0, []), 1), ((20, 85, 8, 0, []), 1), ((5, 1, 0, 1, []), 3), ((12, 0, 27, 0, []), 3)] 27 _ _ _ (by decide +kernel) ?_
    rcases px_ite h with ⟨c2, h⟩ | ⟨c2, h⟩
    · refine And.intro (fun _ => ?_) (fun hn => absurd c2 hn)
      refine H [((0, 0, 0, 0, []), 1), ((3, 1, 0, 0, []), 1)] 51 _ _ _ (by decide +kernel) ?_
      exact ok_M_undo_84_p53 H _ _ _ h
    · refine And.intro (fun hp => absurd hp c2) (fun _ => ?_)
      obtain ⟨g10, h⟩ := px_gd h
      refine And.intro g10 ?_
      obtain ⟨g11, h⟩ := px_gd h
      refine And.intro g11 ?_
      exact ih _ _ h
theorem ok_M_undo_84_w {l : Launch} {rv : Int} {rσ : pS} {G : Nat → pL → List pV → pS → Prop} (H : px_R l 0 236 rv rσ G) : ∀ (σ : pS), f_M_undo_84  σ = some (rv, rσ) → G 0 [some (.inr 84), none] [] σ := by
  intro  σ h
  unfold f_M_undo_84 at h
  refine H [((2, 0, 0, 0, []), 1), ((16, 84, 88, 0, []), 3), ((14, 1, 9, 0, []), 3), ((0, 0, 0, 0, []), 1), ((27, 1, 0, 0, []), 1)] 0 _ _ _ (by decide +kernel) ?_
  rcases px_ite h with ⟨c1, h⟩ | ⟨c1, h⟩
  · refine And.intro (fun hp => absurd c1 hp) (fun _ => ?_)
    refine And.intro (show (0 : Int) ≤ 0 ∧ (0 : Int) ≤ 1 from by decide) ?_
    exact Prod.mk.inj (Option.some.inj h)
  · refine And.intro (fun _ => ?_) (fun hn => absurd c1 hn)
    refine H [((2, 0, 0, 0, []), 1), ((2, 0, 0, 0, []), 1), ((16, 84, 91, 0, []), 3), ((18, 84, 1, 0, []), 3), ((2, 0, 0, 0, []), 1), ((2, 0, 0, 0, []), 1), ((16, 84, 92, 0, []), 3), ((18, 84, 0, 0, []), 3), ((0, 0, 0, 0, []), 1), ((3, 1, 0, 0, []), 1)] 9 _ _ _ (by decide +kernel) ?_
    exact ok_M_undo_84_p27 H _ _ _ h
theorem ok_M_undo_84 {l : Launch} {σ : pS} {v : Int} {σ1 : pS} (h : f_M_undo_84  σ = some (v, σ1)) : Con l 0 236 [.inr 84] σ v σ1 := Con_mk 1 2 rfl (by decide +kernel) (fun _ H => ok_M_undo_84_w H  _ h)
theorem ok_Prog_ofKind_4_p4 {l : Launch} {rv : Int} {rσ : pS} {G : Nat → pL → List pV → pS → Prop} (H : px_R l 0 133 rv rσ G) : ∀ (n : Nat) (a1 a2 a3 : Int) (σ : pS), f_Prog_ofKind_4_p4 n a1 a2 a3 σ = some (rv, rσ) → G 4 [some (.inr 4), some (.inl a1), some (.inl a2), some (.inl a3)] [] σ := by
  intro n
  induction n with
  | zero =>
    intro a1 a2 a3 σ h
    unfold f_Prog_ofKind_4_p4 at h
    cases h
  | succ n ih =>
    intro a1 a2 a3 σ h
    unfold f_Prog_ofKind_4_p4 at h
    refine H [((1, 3, 0, 0, []), 1), ((2, 0, 0, 0, []), 1), ((16, 4, 11, 0, []), 3), ((13, 3, 31, 0, []), 3), ((2, 0, 0, 0, []), 1), ((17, 4, 5, 0, []), 3), ((1, 3, 0, 0, []), 1), ((19, 5, 20, 0, []), 1), ((1, 1, 0, 0, []), 1), ((13, 1, 25, 0, []), 3), ((5, 2, 0, 1, []), 3), ((5, 3, 0, 1, []), 3), ((12, 0, 4, 0, []), 3)] 4 _ _ _ (by decide +kernel) ?_
    rcases px_ite h with ⟨c1, h⟩ | ⟨c1, h⟩
    · refine And.intro (fun _ => ?_) (fun hn => absurd c1 hn)
      refine H [((1, 2, 0, 0, []), 1), ((27, 0, 0, 0, []), 1)] 31 _ _ _ (by decide +kernel) ?_
      exact Prod.mk.inj (Option.some.inj h)
    · refine And.intro (fun hp => absurd hp c1) (fun _ => ?_)
      obtain ⟨g2, h⟩ := px_gd h
      refine And.intro g2 ?_
      rcases px_ite h with ⟨c3, h⟩ | ⟨c3, h⟩
      · refine And.intro (fun hp => absurd c3 hp) (fun _ => ?_)
        exact ih _ _ _ _ h
      · refine And.intro (fun _ => ?_) (fun hn => absurd c3 hn)
        refine H [((5, 3, 0, 1, []), 3), ((12, 0, 4, 0, []), 3)] 25 _ _ _ (by decide +kernel) ?_
        exact ih _ _ _ _ h
theorem ok_Prog_ofKind_4_w {l : Launch} {rv : Int} {rσ : pS} {G : Nat → pL → List pV → pS → Prop} (H : px_R l 0 133 rv rσ G) : ∀ (a1 : Int) (σ : pS), f_Prog_ofKind_4 a1 σ = some (rv, rσ) → G 0 [some (.inr 4), some (.inl a1), none, none] [] σ := by
  intro a1 σ h
  unfold f_Prog_ofKind_4 at h
  refine H [((0, 0, 0, 0, []), 1), ((3, 2, 0, 0, []), 1), ((0, 0, 0, 0, []), 1), ((3, 3, 0, 0, []), 1)] 0 _ _ _ (by decide +kernel) ?_
  exact ok_Prog_ofKind_4_p4 H _ _ _ _ _ h
theorem ok_Prog_ofKind_4 {l : Launch} {a1 : Int} {σ : pS} {v : Int} {σ1 : pS} (h : f_Prog_ofKind_4 a1 σ = some (v, σ1)) : Con l 0 133 [.inr 4, .inl a1] σ v σ1 := Con_mk 2 4 rfl (by decide +kernel) (fun _ H => ok_Prog_ofKind_4_w H _ _ h)
theorem ok_State_bytesNotZero_24_p4 {l : Launch} {rv : Int} {rσ : pS} {G : Nat → pL → List pV → pS → Prop} (H : px_R l 0 134 rv rσ G) : ∀ (n : Nat) (a1 a2 : Int) (σ : pS), f_State_bytesNotZero_24_p4 n a1 a2 σ = some (rv, rσ) → G 4 [some (.inr 24), some (.inl a1), some (.inl a2)] [] σ := by
  intro n
  induction n with
  | zero =>
    intro a1 a2 σ h
    unfold f_State_bytesNotZero_24_p4 at h
    cases h
  | succ n ih =>
    intro a1 a2 σ h
    unfold f_State_bytesNotZero_24_p4 at h
    refine H [((1, 2, 0, 0, []), 1), ((0, 0, 0, 64, []), 2), ((13, 3, 28, 0, []), 3), ((2, 0, 0, 0, []), 1), ((17, 24, 26, 0, []), 3), ((1, 2, 0, 0, []), 1), ((19, 26, 64, 0, []), 1), ((14, 0, 22, 0, []), 3), ((5, 1, 0, 1, []), 3), ((5, 2, 0, 1, []), 3), ((12, 0, 4, 0, []), 3)] 4 _ _ _ (by decide +kernel) ?_
    rcases px_ite h with ⟨c1, h⟩ | ⟨c1, h⟩
    · refine And.intro (fun _ => ?_) (fun hn => absurd c1 hn)
      refine H [((1, 1, 0, 0, []), 1), ((27, 0, 0, 0, []), 1)] 28 _ _ _ (by decide +kernel) ?_
      exact Prod.mk.inj (Option.some.inj h)
    · refine And.intro (fun hp => absurd hp c1) (fun _ => ?_)
      obtain ⟨g2, h⟩ := px_gd h
      refine And.intro g2 ?_
      rcases px_ite h with ⟨c3, h⟩ | ⟨c3, h⟩
      · refine And.intro (fun _ => ?_) (fun hn => absurd c3 hn)
        refine H [((5, 2, 0, 1, []), 3), ((12, 0, 4, 0, []), 3)] 22 _ _ _ (by decide +kernel) ?_
        exact ih _ _ _ h
      · refine And.intro (fun hp => absurd hp c3) (fun _ => ?_)
        exact ih _ _ _ h
theorem ok_State_bytesNotZero_24_w {l : Launch} {rv : Int} {rσ : pS} {G : Nat → pL → List pV → pS → Prop} (H : px_R l 0 134 rv rσ G) : ∀ (σ : pS), f_State_bytesNotZero_24  σ = some (rv, rσ) → G 0 [some (.inr 24), none, none] [] σ := by
  intro  σ h
  unfold f_State_bytesNotZero_24 at h
  refine H [((0, 0, 0, 0, []), 1), ((3, 1, 0, 0, []), 1), ((0, 0, 0, 0, []), 1), ((3, 2, 0, 0, []), 1)] 0 _ _ _ (by decide +kernel) ?_
  exact ok_State_bytesNotZero_24_p4 H _ _ _ _ h
theorem ok_State_bytesNotZero_24 {l : Launch} {σ : pS} {v : Int} {σ1 : pS} (h : f_State_bytesNotZero_24  σ = some (v, σ1)) : Con l 0 134 [.inr 24] σ v σ1 := Con_mk 1 3 rfl (by decide +kernel) (fun _ H => ok_State_bytesNotZero_24_w H  _ h)
theorem ok_X_count_0_w {l : Launch} {rv : Int} {rσ : pS} {G : Nat → pL → List pV → pS → Prop} (H : px_R l 1 132 rv rσ G) : ∀ (a1 : Int) (σ : pS), f_X_count_0 a1 σ = some (rv, rσ) → G 0 [some (.inr 0), some (.inl a1)] [] σ := by
  intro a1 σ h
  unfold f_X_count_0 at h
  refine H [((1, 1, 0, 0, []), 1), ((15, 0, 201, 0, [(0, 64), (1, 75), (2, 86), (3, 98), (4, 110), (5, 121), (6, 129), (7, 140), (8, 148), (9, 159), (10, 170), (11, 190)]), 63)] 0 _ _ _ (by decide +kernel) ?_
  rcases px_ite h with ⟨c1, h⟩ | ⟨c1, h⟩
  · refine And.intro (fun _ => ?_) (fun hn => absurd c1 hn)
    refine H [((2, 0, 0, 0, []), 1), ((17, 0, 3, 0, []), 3), ((17, 3, 24, 0, []), 3), ((16, 24, 4, 0, []), 3), ((27, 0, 0, 0, []), 1)] 64 _ _ _ (by decide +kernel) ?_
    exact Prod.mk.inj (Option.some.inj h)
  · refine And.intro (fun hp => absurd hp c1) (fun _ => ?_)
    rcases px_ite h with ⟨c2, h⟩ | ⟨c2, h⟩
    · refine And.intro (fun _ => ?_) (fun hn => absurd c2 hn)
      refine H [((2, 0, 0, 0, []), 1), ((17, 0, 3, 0, []), 3), ((17, 3, 4, 0, []), 3), ((16, 4, 11, 0, []), 3), ((27, 0, 0, 0, []), 1)] 75 _ _ _ (by decide +kernel) ?_
      exact Prod.mk.inj (Option.some.inj h)
    · refine And.intro (fun hp => absurd hp c2) (fun _ => ?_)
      rcases px_ite h with ⟨c3, h⟩ | ⟨c3, h⟩
      · refine And.intro (fun _ => ?_) (fun hn => absurd c3 hn)
        refine H [((2, 0, 0, 0, []), 1), ((17, 0, 3, 0, []), 3), ((17, 3, 4, 0, []), 3), ((0, 0, 0, 2, []), 1), ((23, 133, 1, 1, [(0, 4)]), 3), ((27, 0, 0, 0, []), 1)] 86 _ _ _ (by decide +kernel) ?_
        obtain ⟨⟨vq4, σq4⟩, hq4, h⟩ := px_bind h
        dsimp only at h
        refine Exists.intro 0 (Exists.intro vq4 (Exists.intro σq4 (And.intro (Nat.le_of_ble_eq_true rfl) (And.intro (ok_Prog_ofKind_4 hq4) ?_))))
        exact Prod.mk.inj (Option.some.inj h)
      · refine And.intro (fun hp => absurd hp c3) (fun _ => ?_)
        rcases px_ite h with ⟨c5, h⟩ | ⟨c5, h⟩
        · refine And.intro (fun _ => ?_) (fun hn => absurd c5 hn)
          refine H [((2, 0, 0, 0, []), 1), ((17, 0, 3, 0, []), 3), ((17, 3, 4, 0, []), 3), ((0, 0, 0, 3, []), 1), ((23, 133, 1, 1, [(0, 4)]), 3), ((27, 0, 0, 0, []), 1)] 98 _ _ _ (by decide +kernel) ?_
          obtain ⟨⟨vq6, σq6⟩, hq6, h⟩ := px_bind h
          dsimp only at h
          refine Exists.intro 0 (Exists.intro vq6 (Exists.intro σq6 (And.intro (Nat.le_of_ble_eq_true rfl) (And.intro (ok_Prog_ofKind_4 hq6) ?_))))
          exact Prod.mk.inj (Option.some.inj h)
        · refine And.intro (fun hp => absurd hp c5) (fun _ => ?_)
          rcases px_ite h with ⟨c7, h⟩ | ⟨c7, h⟩
          · refine And.intro (fun _ => ?_) (fun hn => absurd c7 hn)
            refine H [((2, 0, 0, 0, []), 1), ((17, 0, 3, 0, []), 3), ((17, 3, 16, 0, []), 3), ((16, 16, 7, 0, []), 3), ((27, 0, 0, 0, []), 1)] 110 _ _ _ (by decide +kernel) ?_
            exact Prod.mk.inj (Option.some.inj h)
          · refine And.intro (fun hp => absurd hp c7) (fun _ => ?_)
            rcases px_ite h with ⟨c8, h⟩ | ⟨c8, h⟩
            · refine And.intro (fun _ => ?_) (fun hn => absurd c8 hn)
              refine H [((2, 0, 0, 0, []), 1), ((17, 0, 1, 0, []), 3), ((16, 1, 1, 0, []), 3), ((27, 0, 0, 0, []), 1)] 121 _ _ _ (by decide +kernel) ?_
              exact Prod.mk.inj (Option.some.inj h)
            · refine And.intro (fun hp => absurd hp c8) (fun _ => ?_)
              rcases px_ite h with ⟨c9, h⟩ | ⟨c9, h⟩
              · refine And.intro (fun _ => ?_) (fun hn => absurd c9 hn)
                refine H [((2, 0, 0, 0, []), 1), ((17, 0, 3, 0, []), 3), ((17, 3, 24, 0, []), 3), ((16, 24, 5, 0, []), 3), ((27, 0, 0, 0, []), 1)] 129 _ _ _ (by decide +kernel) ?_
                exact Prod.mk.inj (Option.some.inj h)
              · refine And.intro (fun hp => absurd hp c9) (fun _ => ?_)
                rcases px_ite h with ⟨c10, h⟩ | ⟨c10, h⟩
                · refine And.intro (fun _ => ?_) (fun hn => absurd c10 hn)
                  refine H [((2, 0, 0, 0, []), 1), ((17, 0, 82, 0, []), 3), ((16, 82, 2, 0, []), 3), ((27, 0, 0, 0, []), 1)] 140 _ _ _ (by decide +kernel) ?_
                  exact Prod.mk.inj (Option.some.inj h)
                · refine And.intro (fun hp => absurd hp c10) (fun _ => ?_)
                  rcases px_ite h with ⟨c11, h⟩ | ⟨c11, h⟩
                  · refine And.intro (fun _ => ?_) (fun hn => absurd c11 hn)
                    refine H [((2, 0, 0, 0, []), 1), ((17, 0, 3, 0, []), 3), ((17, 3, 24, 0, []), 3), ((23, 127, 0, 1, [(0, 24)]), 3), ((27, 0, 0, 0, []), 1)] 148 _ _ _ (by decide +kernel) ?_
                    obtain ⟨⟨vq12, σq12⟩, hq12, h⟩ := px_bind h
                    dsimp only at h
                    refine Exists.intro 0 (Exists.intro vq12 (Exists.intro σq12 (And.intro (Nat.le_of_ble_eq_true rfl) (And.intro (ok_State_withSet_24 hq12) ?_))))
                    exact Prod.mk.inj (Option.some.inj h)
                  · refine And.intro (fun hp => absurd hp c11) (fun _ => ?_)
                    rcases px_ite h with ⟨c13, h⟩ | ⟨c13, h⟩
                    · refine And.intro (fun _ => ?_) (fun hn => absurd c13 hn)
                      refine H [((2, 0, 0, 0, []), 1), ((17, 0, 3, 0, []), 3), ((17, 3, 24, 0, []), 3), ((16, 24, 3, 0, []), 3), ((27, 0, 0, 0, []), 1)] 159 _ _ _ (by decide +kernel) ?_
                      exact Prod.mk.inj (Option.some.inj h)
                    · refine And.intro (fun hp => absurd hp c13) (fun _ => ?_)
                      rcases px_ite h with ⟨c14, h⟩ | ⟨c14, h⟩
                      · refine And.intro (fun _ => ?_) (fun hn => absurd c14 hn)
                        refine H [((2, 0, 0, 0, []), 1), ((17, 0, 82, 0, []), 3), ((17, 82, 83, 0, []), 3), ((0, 0, 0, 0, []), 1), ((19, 83, 2, 0, []), 1), ((2, 0, 0, 0, []), 1), ((17, 0, 82, 0, []), 3), ((17, 82, 83, 0, []), 3), ((0, 0, 0, 1, []), 1), ((19, 83, 2, 0, []), 1), ((6, 0, 0, 0, []), 1), ((27, 0, 0, 0, []), 1)] 170 _ _ _ (by decide +kernel) ?_
                        refine And.intro (show (0 : Int) ≤ 0 ∧ (0 : Int) < 2 from by decide) ?_
                        refine And.intro (show (0 : Int) ≤ 1 ∧ (1 : Int) < 2 from by decide) ?_
                        exact Prod.mk.inj (Option.some.inj h)
                      · refine And.intro (fun hp => absurd hp c14) (fun _ => ?_)
                        rcases px_ite h with ⟨c15, h⟩ | ⟨c15, h⟩
                        · refine And.intro (fun _ => ?_) (fun hn => absurd c15 hn)
                          refine H [((2, 0, 0, 0, []), 1), ((17, 0, 3, 0, []), 3), ((17, 3, 24, 0, []), 3), ((23, 134, 0, 1, [(0, 24)]), 3), ((27, 0, 0, 0, []), 1)] 190 _ _ _ (by decide +kernel) ?_
                          obtain ⟨⟨vq16, σq16⟩, hq16, h⟩ := px_bind h
                          dsimp only at h
                          refine Exists.intro 0 (Exists.intro vq16 (Exists.intro σq16 (And.intro (Nat.le_of_ble_eq_true rfl) (And.intro (ok_State_bytesNotZero_24 hq16) ?_))))
                          exact Prod.mk.inj (Option.some.inj h)
                        · refine And.intro (fun hp => absurd hp c15) (fun _ => ?_)
                          refine H [((0, 0, 0, (-1), []), 1), ((27, 0, 0, 0, []), 1)] 201 _ _ _ (by decide +kernel) ?_
                          exact Prod.mk.inj (Option.some.inj h)
theorem ok_X_count_0 {l : Launch} {a1 : Int} {σ : pS} {v : Int} {σ1 : pS} (h : f_X_count_0 a1 σ = some (v, σ1)) : Con l 1 132 [.inr 0, .inl a1] σ v σ1 := Con_mk 2 2 rfl (by decide +kernel) (fun _ H => ok_X_count_0_w H _ _ h)
theorem ok_M_ofKind_84_p4 {l : Launch} {rv : Int} {rσ : pS} {G : Nat → pL → List pV → pS → Prop} (H : px_R l 0 240 rv rσ G) : ∀ (n : Nat) (a1 a2 a3 : Int) (σ : pS), f_M_ofKind_84_p4 n a1 a2 a3 σ = some (rv, rσ) → G 4 [some (.inr 84), some (.inl a1), some (.inl a2), some (.inl a3)] [] σ := by
  intro n
  induction n with
  | zero =>
    intro a1 a2 a3 σ h
    unfold f_M_ofKind_84_p4 at h
    cases h
  | succ n ih =>
    intro a1 a2 a3 σ h
    unfold f_M_ofKind_84_p4 at h
    refine H [((1, 3, 0, 0, []), 1), ((2, 0, 0, 0, []), 1), ((16, 84, 2, 0, []), 3), ((13, 3, 32, 0, []), 3), ((2, 0, 0, 0, []), 1), ((17, 84, 88, 0, []), 3), ((1, 3, 0, 0, []), 1), ((19, 88, 20, 0, []), 1), ((1, 1, 0, 0, []), 1), ((13, 1, 26, 0, []), 3), ((1, 2, 0, 0, []), 1), ((0, 0, 0, 1, []), 1), ((6, 0, 0, 0, []), 1), ((3, 2, 0, 0, []), 1), ((5, 3, 0, 1, []), 3), ((12, 0, 4, 0, []), 3)] 4 _ _ _ (by decide +kernel) ?_
    rcases px_ite h with ⟨c1, h⟩ | ⟨c1, h⟩
    · refine And.intro (fun _ => ?_) (fun hn => absurd c1 hn)
      refine H [((1, 2, 0, 0, []), 1), ((27, 0, 0, 0, []), 1)] 32 _ _ _ (by decide +kernel) ?_
      exact Prod.mk.inj (Option.some.inj h)
    · refine And.intro (fun hp => absurd hp c1) (fun _ => ?_)
      obtain ⟨g2, h⟩ := px_gd h
      refine And.intro g2 ?_
      rcases px_ite h with ⟨c3, h⟩ | ⟨c3, h⟩
      · refine And.intro (fun hp => absurd c3 hp) (fun _ => ?_)
        exact ih _ _ _ _ h
      · refine And.intro (fun _ => ?_) (fun hn => absurd c3 hn)
        refine H [((5, 3, 0, 1, []), 3), ((12, 0, 4, 0, []), 3)] 26 _ _ _ (by decide +kernel) ?_
        exact ih _ _ _ _ h
theorem ok_M_ofKind_84_w {l : Launch} {rv : Int} {rσ : pS} {G : Nat → pL → List pV → pS → Prop} (H : px_R l 0 240 rv rσ G) : ∀ (a1 : Int) (σ : pS), f_M_ofKind_84 a1 σ = some (rv, rσ) → G 0 [some (.inr 84), some (.inl a1), none, none] [] σ := by
  intro a1 σ h
  unfold f_M_ofKind_84 at h
  refine H [((0, 0, 0, 0, []), 1), ((3, 2, 0, 0, []), 1), ((0, 0, 0, 0, []), 1), ((3, 3, 0, 0, []), 1)] 0 _ _ _ (by decide +kernel) ?_
  exact ok_M_ofKind_84_p4 H _ _ _ _ _ h
theorem ok_M_ofKind_84 {l : Launch} {a1 : Int} {σ : pS} {v : Int} {σ1 : pS} (h : f_M_ofKind_84 a1 σ = some (v, σ1)) : Con l 0 240 [.inr 84, .inl a1] σ v σ1 := Con_mk 2 4 rfl (by decide +kernel) (fun _ H => ok_M_ofKind_84_w H _ _ h)
