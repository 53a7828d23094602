theorem ok_Tape_add_1_p3 {l : Launch} {rv : Int} {rσ : pS} {G : Nat → pL → List pV → pS → Prop} (H : px_R l 0 13 rv rσ G) : ∀ (n : Nat) (a1 a2 : Int) (σ : pS), f_Tape_add_1_p3 n a1 a2 σ = some (rv, rσ) → G 3 [some (.inr 1), some (.inl a1), some (.inl a2)] [] σ := by
  intro n
  induction n with
  | zero =>
    intro a1 a2 σ h
    unfold f_Tape_add_1_p3 at h
    cases h
  | succ n ih =>
    intro a1 a2 σ h
    unfold f_Tape_add_1_p3 at h
    refine H [((1, 2, 0, 0, []), 1), ((14, 2, 49, 0, []), 3), ((2, 0, 0, 0, []), 1), ((16, 1, 1, 0, []), 3), ((0, 0, 0, 260, []), 3), ((13, 3, 43, 0, []), 3), ((2, 0, 0, 0, []), 1), ((17, 1, 2, 0, []), 3), ((2, 0, 0, 0, []), 1), ((16, 1, 1, 0, []), 3), ((1, 1, 0, 0, []), 1), ((1, 2, 0, 0, []), 1), ((6, 8, 0, 0, []), 1), ((0, 0, 0, 255, []), 3), ((6, 3, 0, 0, []), 1), ((20, 2, 260, 0, []), 1), ((2, 0, 0, 0, []), 1), ((9, 0, 0, 0, []), 1), ((16, 1, 1, 0, []), 3), ((0, 0, 0, 1, []), 1), ((6, 0, 0, 0, []), 1), ((18, 1, 1, 0, []), 3), ((5, 2, 0, (-8), []), 3), ((12, 0, 3, 0, []), 3)] 3 _ _ _ (by decide +kernel) ?_
    rcases px_ite h with ⟨c1, h⟩ | ⟨c1, h⟩
    · refine And.intro (fun _ => ?_) (fun hn => absurd c1 hn)
      refine H [((28, 0, 0, 0, []), 1)] 49 _ _ _ (by decide +kernel) ?_
      exact (Prod.mk.inj (Option.some.inj h)).2
    · refine And.intro (fun hp => absurd hp c1) (fun _ => ?_)
      rcases px_ite h with ⟨c2, h⟩ | ⟨c2, h⟩
      · refine And.intro (fun _ => ?_) (fun hn => absurd c2 hn)
        refine H [((5, 2, 0, (-8), []), 3), ((12, 0, 3, 0, []), 3)] 43 _ _ _ (by decide +kernel) ?_
        exact ih _ _ _ h
      · refine And.intro (fun hp => absurd hp c2) (fun _ => ?_)
        obtain ⟨g3, h⟩ := px_gd h
        refine And.intro g3 ?_
        exact ih _ _ _ h
theorem ok_Tape_add_1_w {l : Launch} {rv : Int} {rσ : pS} {G : Nat → pL → List pV → pS → Prop} (H : px_R l 0 13 rv rσ G) : ∀ (a1 : Int) (σ : pS), f_Tape_add_1 a1 σ = some (rv, rσ) → G 0 [some (.inr 1), some (.inl a1), none] [] σ := by
  intro a1 σ h
  unfold f_Tape_add_1 at h
  refine H [((0, 0, 0, 24, []), 2), ((3, 2, 0, 0, []), 1)] 0 _ _ _ (by decide +kernel) ?_
  exact ok_Tape_add_1_p3 H _ _ _ _ h
theorem ok_Tape_add_1 {l : Launch} {a1 : Int} {σ : pS} {v : Int} {σ1 : pS} (h : f_Tape_add_1 a1 σ = some (v, σ1)) : Con l 0 13 [.inr 1, .inl a1] σ v σ1 := Con_mk 2 3 rfl (by decide +kernel) (fun _ H => ok_Tape_add_1_w H _ _ h)
theorem ok_X_feed_0_w {l : Launch} {rv : Int} {rσ : pS} {G : Nat → pL → List pV → pS → Prop} (H : px_R l 1 12 rv rσ G) : ∀ (a1 a2 a3 a4 a5 : Int) (σ : pS), f_X_feed_0 a1 a2 a3 a4 a5 σ = some (rv, rσ) → G 0 [some (.inr 0), some (.inl a1), some (.inl a2), some (.inl a3), some (.inl a4), some (.inl a5)] [] σ := by
  intro a1 a2 a3 a4 a5 σ h
  unfold f_X_feed_0 at h
  refine H [((2, 0, 0, 0, []), 1), ((17, 0, 1, 0, []), 3), ((16, 1, 1, 0, []), 3), ((0, 0, 0, 20, []), 2), ((6, 0, 0, 0, []), 1), ((0, 0, 0, 260, []), 3), ((13, 5, 18, 0, []), 3), ((0, 0, 0, (-1), []), 1), ((27, 0, 0, 0, []), 1)] 0 _ _ _ (by decide +kernel) ?_
  rcases px_ite h with ⟨c1, h⟩ | ⟨c1, h⟩
  · refine And.intro (fun _ => ?_) (fun hn => absurd c1 hn)
    refine H [((2, 0, 0, 0, []), 1), ((17, 0, 1, 0, []), 3), ((1, 1, 0, 0, []), 1), ((23, 13, 1, 0, [(0, 1)]), 3), ((2, 0, 0, 0, []), 1), ((17, 0, 1, 0, []), 3), ((1, 2, 0, 0, []), 1), ((23, 13, 1, 0, [(0, 1)]), 3), ((2, 0, 0, 0, []), 1), ((17, 0, 1, 0, []), 3), ((1, 3, 0, 0, []), 1), ((23, 13, 1, 0, [(0, 1)]), 3), ((2, 0, 0, 0, []), 1), ((17, 0, 1, 0, []), 3), ((1, 4, 0, 0, []), 2), ((23, 13, 1, 0, [(0, 1)]), 3), ((2, 0, 0, 0, []), 1), ((17, 0, 1, 0, []), 3), ((1, 5, 0, 0, []), 2), ((23, 13, 1, 0, [(0, 1)]), 3), ((2, 0, 0, 0, []), 1), ((17, 0, 1, 0, []), 3), ((16, 1, 1, 0, []), 3), ((27, 0, 0, 0, []), 1)] 18 _ _ _ (by decide +kernel) ?_
    obtain ⟨⟨vq2, σq2⟩, hq2, h⟩ := px_bind h
    dsimp only at h
    refine Exists.intro 0 (Exists.intro vq2 (Exists.intro σq2 (And.intro (Nat.le_of_ble_eq_true rfl) (And.intro (ok_Tape_add_1 hq2) ?_))))
    obtain ⟨⟨vq3, σq3⟩, hq3, h⟩ := px_bind h
    dsimp only at h
    refine Exists.intro 0 (Exists.intro vq3 (Exists.intro σq3 (And.intro (Nat.le_of_ble_eq_true rfl) (And.intro (ok_Tape_add_1 hq3) ?_))))
    obtain ⟨⟨vq4, σq4⟩, hq4, h⟩ := px_bind h
    dsimp only at h
    refine Exists.intro 0 (Exists.intro vq4 (Exists.intro σq4 (And.intro (Nat.le_of_ble_eq_true rfl) (And.intro (ok_Tape_add_1 hq4) ?_))))
    obtain ⟨⟨vq5, σq5⟩, hq5, h⟩ := px_bind h
    dsimp only at h
    refine Exists.intro 0 (Exists.intro vq5 (Exists.intro σq5 (And.intro (Nat.le_of_ble_eq_true rfl) (And.intro (ok_Tape_add_1 hq5) ?_))))
    obtain ⟨⟨vq6, σq6⟩, hq6, h⟩ := px_bind h
    dsimp only at h
    refine Exists.intro 0 (Exists.intro vq6 (Exists.intro σq6 (And.intro (Nat.le_of_ble_eq_true rfl) (And.intro (ok_Tape_add_1 hq6) ?_))))
    exact Prod.mk.inj (Option.some.inj h)
  · refine And.intro (fun hp => absurd hp c1) (fun _ => ?_)
    exact Prod.mk.inj (Option.some.inj h)
theorem ok_X_feed_0 {l : Launch} {a1 a2 a3 a4 a5 : Int} {σ : pS} {v : Int} {σ1 : pS} (h : f_X_feed_0 a1 a2 a3 a4 a5 σ = some (v, σ1)) : Con l 1 12 [.inr 0, .inl a1, .inl a2, .inl a3, .inl a4, .inl a5] σ v σ1 := Con_mk 6 6 rfl (by decide +kernel) (fun _ H => ok_X_feed_0_w H _ _ _ _ _ _ h)
theorem ok_M_types_84_p2 {l : Launch} {rv : Int} {rσ : pS} {G : Nat → pL → List pV → pS → Prop} (H : px_R l 0 140 rv rσ G) : ∀ (n : Nat) (a1 a2 : Int) (σ : pS), f_M_types_84_p2 n a1 a2 σ = some (rv, rσ) → G 2 [some (.inr 84), some (.inl a1), some (.inl a2)] [] σ := by
  intro n
  induction n with
  | zero =>
    intro a1 a2 σ h
    unfold f_M_types_84_p2 at h
    cases h
  | succ n ih =>
    intro a1 a2 σ h
    unfold f_M_types_84_p2 at h
    refine H [((1, 2, 0, 0, []), 1), ((14, 2, 38, 0, []), 3), ((2, 0, 0, 0, []), 1), ((17, 84, 96, 0, []), 3), ((2, 0, 0, 0, []), 1), ((16, 84, 18, 0, []), 3), ((1, 1, 0, 0, []), 1), ((0, 0, 0, 8, []), 2), ((1, 2, 0, 0, []), 1), ((6, 2, 0, 0, []), 1), ((6, 7, 0, 0, []), 1), ((8, 0, 0, 0, []), 1), ((20, 96, 260, 2, []), 1), ((2, 0, 0, 0, []), 1), ((2, 0, 0, 0, []), 1), ((16, 84, 18, 0, []), 3), ((0, 0, 0, 1, []), 1), ((6, 0, 0, 0, []), 1), ((18, 84, 18, 0, []), 3), ((5, 2, 0, (-1), []), 3), ((12, 0, 2, 0, []), 3)] 2 _ _ _ (by decide +kernel) ?_
    rcases px_ite h with ⟨c1, h⟩ | ⟨c1, h⟩
    · refine And.intro (fun _ => ?_) (fun hn => absurd c1 hn)
      refine H [((28, 0, 0, 0, []), 1)] 38 _ _ _ (by decide +kernel) ?_
      exact (Prod.mk.inj (Option.some.inj h)).2
    · refine And.intro (fun hp => absurd hp c1) (fun _ => ?_)
      obtain ⟨g2, h⟩ := px_gd h
      refine And.intro g2 ?_
      obtain ⟨g3, h⟩ := px_gd h
      refine And.intro g3 ?_
      exact ih _ _ _ h
theorem ok_M_types_84_w {l : Launch} {rv : Int} {rσ : pS} {G : Nat → pL → List pV → pS → Prop} (H : px_R l 0 140 rv rσ G) : ∀ (a1 : Int) (σ : pS), f_M_types_84 a1 σ = some (rv, rσ) → G 0 [some (.inr 84), some (.inl a1), none] [] σ := by
  intro a1 σ h
  unfold f_M_types_84 at h
  refine H [((0, 0, 0, 3, []), 1), ((3, 2, 0, 0, []), 1)] 0 _ _ _ (by decide +kernel) ?_
  exact ok_M_types_84_p2 H _ _ _ _ h
theorem ok_M_types_84 {l : Launch} {a1 : Int} {σ : pS} {v : Int} {σ1 : pS} (h : f_M_types_84 a1 σ = some (v, σ1)) : Con l 0 140 [.inr 84, .inl a1] σ v σ1 := Con_mk 2 3 rfl (by decide +kernel) (fun _ H => ok_M_types_84_w H _ _ h)
theorem ok_M_feed_84_w {l : Launch} {rv : Int} {rσ : pS} {G : Nat → pL → List pV → pS → Prop} (H : px_R l 1 139 rv rσ G) : ∀ (a1 a2 a3 a4 a5 : Int) (σ : pS), f_M_feed_84 a1 a2 a3 a4 a5 σ = some (rv, rσ) → G 0 [some (.inr 84), some (.inl a1), some (.inl a2), some (.inl a3), some (.inl a4), some (.inl a5)] [] σ := by
  intro a1 a2 a3 a4 a5 σ h
  unfold f_M_feed_84 at h
  refine H [((2, 0, 0, 0, []), 1), ((16, 84, 18, 0, []), 3), ((0, 0, 0, 20, []), 2), ((6, 0, 0, 0, []), 1), ((0, 0, 0, 260, []), 3), ((13, 5, 15, 0, []), 3), ((0, 0, 0, (-1), []), 1), ((27, 0, 0, 0, []), 1)] 0 _ _ _ (by decide +kernel) ?_
  rcases px_ite h with ⟨c1, h⟩ | ⟨c1, h⟩
  · refine And.intro (fun _ => ?_) (fun hn => absurd c1 hn)
    refine H [((2, 0, 0, 0, []), 1), ((1, 1, 0, 0, []), 1), ((23, 140, 1, 0, [(0, 84)]), 3), ((2, 0, 0, 0, []), 1), ((1, 2, 0, 0, []), 1), ((23, 140, 1, 0, [(0, 84)]), 3), ((2, 0, 0, 0, []), 1), ((1, 3, 0, 0, []), 1), ((23, 140, 1, 0, [(0, 84)]), 3), ((2, 0, 0, 0, []), 1), ((1, 4, 0, 0, []), 2), ((23, 140, 1, 0, [(0, 84)]), 3), ((2, 0, 0, 0, []), 1), ((1, 5, 0, 0, []), 2), ((23, 140, 1, 0, [(0, 84)]), 3), ((2, 0, 0, 0, []), 1), ((16, 84, 18, 0, []), 3), ((27, 0, 0, 0, []), 1)] 15 _ _ _ (by decide +kernel) ?_
    obtain ⟨⟨vq2, σq2⟩, hq2, h⟩ := px_bind h
    dsimp only at h
    refine Exists.intro 0 (Exists.intro vq2 (Exists.intro σq2 (And.intro (Nat.le_of_ble_eq_true rfl) (And.intro (ok_M_types_84 hq2) ?_))))
    obtain ⟨⟨vq3, σq3⟩, hq3, h⟩ := px_bind h
    dsimp only at h
    refine Exists.intro 0 (Exists.intro vq3 (Exists.intro σq3 (And.intro (Nat.le_of_ble_eq_true rfl) (And.intro (ok_M_types_84 hq3) ?_))))
    obtain ⟨⟨vq4, σq4⟩, hq4, h⟩ := px_bind h
    dsimp only at h
    refine Exists.intro 0 (Exists.intro vq4 (Exists.intro σq4 (And.intro (Nat.le_of_ble_eq_true rfl) (And.intro (ok_M_types_84 hq4) ?_))))
    obtain ⟨⟨vq5, σq5⟩, hq5, h⟩ := px_bind h
    dsimp only at h
    refine Exists.intro 0 (Exists.intro vq5 (Exists.intro σq5 (And.intro (Nat.le_of_ble_eq_true rfl) (And.intro (ok_M_types_84 hq5) ?_))))
    obtain ⟨⟨vq6, σq6⟩, hq6, h⟩ := px_bind h
    dsimp only at h
    refine Exists.intro 0 (Exists.intro vq6 (Exists.intro σq6 (And.intro (Nat.le_of_ble_eq_true rfl) (And.intro (ok_M_types_84 hq6) ?_))))
    exact Prod.mk.inj (Option.some.inj h)
  · refine And.intro (fun hp => absurd hp c1) (fun _ => ?_)
    exact Prod.mk.inj (Option.some.inj h)
theorem ok_M_feed_84 {l : Launch} {a1 a2 a3 a4 a5 : Int} {σ : pS} {v : Int} {σ1 : pS} (h : f_M_feed_84 a1 a2 a3 a4 a5 σ = some (v, σ1)) : Con l 1 139 [.inr 84, .inl a1, .inl a2, .inl a3, .inl a4, .inl a5] σ v σ1 := Con_mk 6 6 rfl (by decide +kernel) (fun _ H => ok_M_feed_84_w H _ _ _ _ _ _ h)
theorem ok_Tape_beginText_1_w {l : Launch} {rv : Int} {rσ : pS} {G : Nat → pL → List pV → pS → Prop} (H : px_R l 1 15 rv rσ G) : ∀ (a1 : Int) (σ : pS), f_Tape_beginText_1 a1 σ = some (rv, rσ) → G 0 [some (.inr 1), some (.inl a1)] [] σ := by
  intro a1 σ h
  unfold f_Tape_beginText_1 at h
  refine H [((2, 0, 0, 0, []), 1), ((1, 1, 0, 0, []), 1), ((2, 0, 0, 0, []), 1), ((16, 1, 1, 0, []), 3), ((25, 0, 0, 0, []), 3), ((18, 1, 2, 0, []), 3), ((2, 0, 0, 0, []), 1), ((0, 0, 0, 0, []), 1), ((18, 1, 3, 0, []), 3), ((2, 0, 0, 0, []), 1), ((0, 0, 0, 0, []), 1), ((18, 1, 4, 0, []), 3), ((28, 0, 0, 0, []), 1)] 0 _ _ _ (by decide +kernel) ?_
  exact (Prod.mk.inj (Option.some.inj h)).2
theorem ok_Tape_beginText_1 {l : Launch} {a1 : Int} {σ : pS} {v : Int} {σ1 : pS} (h : f_Tape_beginText_1 a1 σ = some (v, σ1)) : Con l 1 15 [.inr 1, .inl a1] σ v σ1 := Con_mk 2 2 rfl (by decide +kernel) (fun _ H => ok_Tape_beginText_1_w H _ _ h)
theorem ok_Tape_fault_1_w {l : Launch} {rv : Int} {rσ : pS} {G : Nat → pL → List pV → pS → Prop} (H : px_R l 0 36 rv rσ G) : ∀ (σ : pS), f_Tape_fault_1  σ = some (rv, rσ) → G 0 [some (.inr 1)] [] σ := by
  intro  σ h
  unfold f_Tape_fault_1 at h
  refine H [((2, 0, 0, 0, []), 1), ((16, 1, 4, 0, []), 3), ((27, 0, 0, 0, []), 1)] 0 _ _ _ (by decide +kernel) ?_
  exact Prod.mk.inj (Option.some.inj h)
theorem ok_Tape_fault_1 {l : Launch} {σ : pS} {v : Int} {σ1 : pS} (h : f_Tape_fault_1  σ = some (v, σ1)) : Con l 0 36 [.inr 1] σ v σ1 := Con_mk 1 1 rfl (by decide +kernel) (fun _ H => ok_Tape_fault_1_w H  _ h)
theorem ok_Tape_sign_1_w {l : Launch} {rv : Int} {rσ : pS} {G : Nat → pL → List pV → pS → Prop} (H : px_R l 0 19 rv rσ G) : ∀ (σ : pS), f_Tape_sign_1  σ = some (rv, rσ) → G 0 [some (.inr 1)] [] σ := by
  intro  σ h
  unfold f_Tape_sign_1 at h
  refine H [((2, 0, 0, 0, []), 1), ((16, 1, 3, 0, []), 3), ((14, 2, 40, 0, []), 3), ((2, 0, 0, 0, []), 1), ((16, 1, 3, 0, []), 3), ((2, 0, 0, 0, []), 1), ((16, 1, 2, 0, []), 3), ((13, 3, 40, 0, []), 3), ((2, 0, 0, 0, []), 1), ((16, 1, 3, 0, []), 3), ((0, 0, 0, 260, []), 3), ((13, 3, 40, 0, []), 3), ((2, 0, 0, 0, []), 1), ((17, 1, 2, 0, []), 3), ((2, 0, 0, 0, []), 1), ((16, 1, 3, 0, []), 3), ((19, 2, 260, 0, []), 1), ((12, 0, 41, 0, []), 3), ((27, 0, 0, 0, []), 1)] 0 _ _ _ (by decide +kernel) ?_
  rcases px_ite h with ⟨c1, h⟩ | ⟨c1, h⟩
  · refine And.intro (fun _ => ?_) (fun hn => absurd c1 hn)
    refine H [((0, 0, 0, (-1), []), 1), ((27, 0, 0, 0, []), 1)] 40 _ _ _ (by decide +kernel) ?_
    exact Prod.mk.inj (Option.some.inj h)
  · refine And.intro (fun hp => absurd hp c1) (fun _ => ?_)
    rcases px_ite h with ⟨c2, h⟩ | ⟨c2, h⟩
    · refine And.intro (fun _ => ?_) (fun hn => absurd c2 hn)
      refine H [((0, 0, 0, (-1), []), 1), ((27, 0, 0, 0, []), 1)] 40 _ _ _ (by decide +kernel) ?_
      exact Prod.mk.inj (Option.some.inj h)
    · refine And.intro (fun hp => absurd hp c2) (fun _ => ?_)
      rcases px_ite h with ⟨c3, h⟩ | ⟨c3, h⟩
      · refine And.intro (fun _ => ?_) (fun hn => absurd c3 hn)
        refine H [((0, 0, 0, (-1), []), 1), ((27, 0, 0, 0, []), 1)] 40 _ _ _ (by decide +kernel) ?_
        exact Prod.mk.inj (Option.some.inj h)
      · refine And.intro (fun hp => absurd hp c3) (fun _ => ?_)
        obtain ⟨g4, h⟩ := px_gd h
        refine And.intro g4 ?_
        exact Prod.mk.inj (Option.some.inj h)
theorem ok_Tape_sign_1 {l : Launch} {σ : pS} {v : Int} {σ1 : pS} (h : f_Tape_sign_1  σ = some (v, σ1)) : Con l 0 19 [.inr 1] σ v σ1 := Con_mk 1 1 rfl (by decide +kernel) (fun _ H => ok_Tape_sign_1_w H  _ h)
theorem ok_Prog_kindOf_w {l : Launch} {rv : Int} {rσ : pS} {G : Nat → pL → List pV → pS → Prop} (H : px_R l 0 43 rv rσ G) : ∀ (a0 : Int) (σ : pS), f_Prog_kindOf a0 σ = some (rv, rσ) → G 0 [some (.inl a0)] [] σ := by
  intro a0 σ h
  unfold f_Prog_kindOf at h
  refine H [((1, 0, 0, 0, []), 1), ((15, 0, 92, 0, [(35, 84), (38, 86), (42, 86), (43, 86), (45, 86), (62, 86), (76, 88), (83, 90), (94, 86)]), 83)] 0 _ _ _ (by decide +kernel) ?_
  rcases px_ite h with ⟨c1, h⟩ | ⟨c1, h⟩
  · refine And.intro (fun _ => ?_) (fun hn => absurd c1 hn)
    refine H [((0, 0, 0, 0, []), 1), ((27, 0, 0, 0, []), 1)] 84 _ _ _ (by decide +kernel) ?_
    exact Prod.mk.inj (Option.some.inj h)
  · refine And.intro (fun hp => absurd hp c1) (fun _ => ?_)
    rcases px_ite h with ⟨c2, h⟩ | ⟨c2, h⟩
    · refine And.intro (fun _ => ?_) (fun hn => absurd c2 hn)
      refine H [((0, 0, 0, 1, []), 1), ((27, 0, 0, 0, []), 1)] 86 _ _ _ (by decide +kernel) ?_
      exact Prod.mk.inj (Option.some.inj h)
    · refine And.intro (fun hp => absurd hp c2) (fun _ => ?_)
      rcases px_ite h with ⟨c3, h⟩ | ⟨c3, h⟩
      · refine And.intro (fun _ => ?_) (fun hn => absurd c3 hn)
        refine H [((0, 0, 0, 1, []), 1), ((27, 0, 0, 0, []), 1)] 86 _ _ _ (by decide +kernel) ?_
        exact Prod.mk.inj (Option.some.inj h)
      · refine And.intro (fun hp => absurd hp c3) (fun _ => ?_)
        rcases px_ite h with ⟨c4, h⟩ | ⟨c4, h⟩
        · refine And.intro (fun _ => ?_) (fun hn => absurd c4 hn)
          refine H [((0, 0, 0, 1, []), 1), ((27, 0, 0, 0, []), 1)] 86 _ _ _ (by decide +kernel) ?_
          exact Prod.mk.inj (Option.some.inj h)
        · refine And.intro (fun hp => absurd hp c4) (fun _ => ?_)
          rcases px_ite h with ⟨c5, h⟩ | ⟨c5, h⟩
          · refine And.intro (fun _ => ?_) (fun hn => absurd c5 hn)
            refine H [((0, 0, 0, 1, []), 1), ((27, 0, 0, 0, []), 1)] 86 _ _ _ (by decide +kernel) ?_
            exact Prod.mk.inj (Option.some.inj h)
          · refine And.intro (fun hp => absurd hp c5) (fun _ => ?_)
            rcases px_ite h with ⟨c6, h⟩ | ⟨c6, h⟩
            · refine And.intro (fun _ => ?_) (fun hn => absurd c6 hn)
              refine H [((0, 0, 0, 1, []), 1), ((27, 0, 0, 0, []), 1)] 86 _ _ _ (by decide +kernel) ?_
              exact Prod.mk.inj (Option.some.inj h)
            · refine And.intro (fun hp => absurd hp c6) (fun _ => ?_)
              rcases px_ite h with ⟨c7, h⟩ | ⟨c7, h⟩
              · refine And.intro (fun _ => ?_) (fun hn => absurd c7 hn)
                refine H [((0, 0, 0, 2, []), 1), ((27, 0, 0, 0, []), 1)] 88 _ _ _ (by decide +kernel) ?_
                exact Prod.mk.inj (Option.some.inj h)
              · refine And.intro (fun hp => absurd hp c7) (fun _ => ?_)
                rcases px_ite h with ⟨c8, h⟩ | ⟨c8, h⟩
                · refine And.intro (fun _ => ?_) (fun hn => absurd c8 hn)
                  refine H [((0, 0, 0, 3, []), 1), ((27, 0, 0, 0, []), 1)] 90 _ _ _ (by decide +kernel) ?_
                  exact Prod.mk.inj (Option.some.inj h)
                · refine And.intro (fun hp => absurd hp c8) (fun _ => ?_)
                  rcases px_ite h with ⟨c9, h⟩ | ⟨c9, h⟩
                  · refine And.intro (fun _ => ?_) (fun hn => absurd c9 hn)
                    refine H [((0, 0, 0, 1, []), 1), ((27, 0, 0, 0, []), 1)] 86 _ _ _ (by decide +kernel) ?_
                    exact Prod.mk.inj (Option.some.inj h)
                  · refine And.intro (fun hp => absurd hp c9) (fun _ => ?_)
                    refine H [((0, 0, 0, (-1), []), 1), ((27, 0, 0, 0, []), 1)] 92 _ _ _ (by decide +kernel) ?_
                    exact Prod.mk.inj (Option.some.inj h)
theorem ok_Prog_kindOf {l : Launch} {a0 : Int} {σ : pS} {v : Int} {σ1 : pS} (h : f_Prog_kindOf a0 σ = some (v, σ1)) : Con l 0 43 [.inl a0] σ v σ1 := Con_mk 1 1 rfl (by decide +kernel) (fun _ H => ok_Prog_kindOf_w H _ _ h)
theorem ok_Tape_step_1_w {l : Launch} {rv : Int} {rσ : pS} {G : Nat → pL → List pV → pS → Prop} (H : px_R l 0 21 rv rσ G) : ∀ (σ : pS), f_Tape_step_1  σ = some (rv, rσ) → G 0 [some (.inr 1)] [] σ := by
  intro  σ h
  unfold f_Tape_step_1 at h
  refine H [((2, 0, 0, 0, []), 1), ((9, 0, 0, 0, []), 1), ((16, 1, 3, 0, []), 3), ((0, 0, 0, 1, []), 1), ((6, 0, 0, 0, []), 1), ((18, 1, 3, 0, []), 3), ((28, 0, 0, 0, []), 1)] 0 _ _ _ (by decide +kernel) ?_
  exact (Prod.mk.inj (Option.some.inj h)).2
theorem ok_Tape_step_1 {l : Launch} {σ : pS} {v : Int} {σ1 : pS} (h : f_Tape_step_1  σ = some (v, σ1)) : Con l 0 21 [.inr 1] σ v σ1 := Con_mk 1 1 rfl (by decide +kernel) (fun _ H => ok_Tape_step_1_w H  _ h)
theorem ok_Prog_sizeOf_w {l : Launch} {rv : Int} {rσ : pS} {G : Nat → pL → List pV → pS → Prop} (H : px_R l 0 49 rv rσ G) : ∀ (a0 : Int) (σ : pS), f_Prog_sizeOf a0 σ = some (rv, rσ) → G 0 [some (.inl a0)] [] σ := by
  intro a0 σ h
  unfold f_Prog_sizeOf at h
  refine H [((1, 0, 0, 0, []), 1), ((15, 0, 42, 0, [(98, 36), (104, 38), (119, 40)]), 35)] 0 _ _ _ (by decide +kernel) ?_
  rcases px_ite h with ⟨c1, h⟩ | ⟨c1, h⟩
  · refine And.intro (fun _ => ?_) (fun hn => absurd c1 hn)
    refine H [((0, 0, 0, 1, []), 1), ((27, 0, 0, 0, []), 1)] 36 _ _ _ (by decide +kernel) ?_
    exact Prod.mk.inj (Option.some.inj h)
  · refine And.intro (fun hp => absurd hp c1) (fun _ => ?_)
    rcases px_ite h with ⟨c2, h⟩ | ⟨c2, h⟩
    · refine And.intro (fun _ => ?_) (fun hn => absurd c2 hn)
      refine H [((0, 0, 0, 2, []), 1), ((27, 0, 0, 0, []), 1)] 38 _ _ _ (by decide +kernel) ?_
      exact Prod.mk.inj (Option.some.inj h)
    · refine And.intro (fun hp => absurd hp c2) (fun _ => ?_)
      rcases px_ite h with ⟨c3, h⟩ | ⟨c3, h⟩
      · refine And.intro (fun _ => ?_) (fun hn => absurd c3 hn)
        refine H [((0, 0, 0, 4, []), 1), ((27, 0, 0, 0, []), 1)] 40 _ _ _ (by decide +kernel) ?_
        exact Prod.mk.inj (Option.some.inj h)
      · refine And.intro (fun hp => absurd hp c3) (fun _ => ?_)
        refine H [((0, 0, 0, 0, []), 1), ((27, 0, 0, 0, []), 1)] 42 _ _ _ (by decide +kernel) ?_
        exact Prod.mk.inj (Option.some.inj h)
theorem ok_Prog_sizeOf {l : Launch} {a0 : Int} {σ : pS} {v : Int} {σ1 : pS} (h : f_Prog_sizeOf a0 σ = some (v, σ1)) : Con l 0 49 [.inl a0] σ v σ1 := Con_mk 1 1 rfl (by decide +kernel) (fun _ H => ok_Prog_sizeOf_w H _ _ h)
theorem ok_Tape_fail_1_w {l : Launch} {rv : Int} {rσ : pS} {G : Nat → pL → List pV → pS → Prop} (H : px_R l 0 20 rv rσ G) : ∀ (a1 : Int) (σ : pS), f_Tape_fail_1 a1 σ = some (rv, rσ) → G 0 [some (.inr 1), some (.inl a1)] [] σ := by
  intro a1 σ h
  unfold f_Tape_fail_1 at h
  refine H [((2, 0, 0, 0, []), 1), ((0, 0, 0, (-1000), []), 3), ((1, 1, 0, 0, []), 1), ((6, 2, 0, 0, []), 1), ((2, 0, 0, 0, []), 1), ((16, 1, 3, 0, []), 3), ((6, 1, 0, 0, []), 1), ((18, 1, 4, 0, []), 3), ((0, 0, 0, 0, []), 1), ((27, 1, 0, 0, []), 1)] 0 _ _ _ (by decide +kernel) ?_
  refine And.intro (show (0 : Int) ≤ 0 ∧ (0 : Int) ≤ 1 from by decide) ?_
  exact Prod.mk.inj (Option.some.inj h)
theorem ok_Tape_fail_1 {l : Launch} {a1 : Int} {σ : pS} {v : Int} {σ1 : pS} (h : f_Tape_fail_1 a1 σ = some (v, σ1)) : Con l 0 20 [.inr 1, .inl a1] σ v σ1 := Con_mk 2 2 rfl (by decide +kernel) (fun _ H => ok_Tape_fail_1_w H _ _ h)
theorem ok_Tape_readRegister_1_p18 {l : Launch} {rv : Int} {rσ : pS} {G : Nat → pL → List pV → pS → Prop} (H : px_R l 1 45 rv rσ G) : ∀ (σ : pS), f_Tape_readRegister_1_p18  σ = some (rv, rσ) → G 18 [some (.inr 1), none] [] σ := by
  intro  σ h
  unfold f_Tape_readRegister_1_p18 at h
  refine H [((2, 0, 0, 0, []), 1), ((0, 0, 0, 1, []), 1), ((23, 20, 1, 1, [(0, 1)]), 3), ((11, 0, 0, 0, []), 1), ((0, 0, 0, (-1), []), 1), ((27, 0, 0, 0, []), 1)] 18 _ _ _ (by decide +kernel) ?_
  obtain ⟨⟨vq3, σq3⟩, hq3, h⟩ := px_bind h
  dsimp only at h
  refine Exists.intro 0 (Exists.intro vq3 (Exists.intro σq3 (And.intro (Nat.le_of_ble_eq_true rfl) (And.intro (ok_Tape_fail_1 hq3) ?_))))
  exact Prod.mk.inj (Option.some.inj h)
theorem ok_Tape_readRegister_1_w {l : Launch} {rv : Int} {rσ : pS} {G : Nat → pL → List pV → pS → Prop} (H : px_R l 1 45 rv rσ G) : ∀ (σ : pS), f_Tape_readRegister_1  σ = some (rv, rσ) → G 0 [some (.inr 1), none] [] σ := by
  intro  σ h
  unfold f_Tape_readRegister_1 at h
  refine H [((2, 0, 0, 0, []), 1), ((23, 19, 0, 1, [(0, 1)]), 3), ((0, 0, 0, 48, []), 2), ((6, 1, 0, 0, []), 1), ((3, 1, 0, 0, []), 1), ((1, 1, 0, 0, []), 1), ((14, 2, 18, 0, []), 3), ((1, 1, 0, 0, []), 1), ((0, 0, 0, 8, []), 2), ((13, 2, 26, 0, []), 3), ((29, 1, 0, 0, []), 0)] 0 _ _ _ (by decide +kernel) ?_
  obtain ⟨⟨vq1, σq1⟩, hq1, h⟩ := px_bind h
  dsimp only at h
  refine Exists.intro 0 (Exists.intro vq1 (Exists.intro σq1 (And.intro (Nat.le_of_ble_eq_true rfl) (And.intro (ok_Tape_sign_1 hq1) ?_))))
  rcases px_ite h with ⟨c2, h⟩ | ⟨c2, h⟩
  · refine And.intro (fun _ => ?_) (fun hn => absurd c2 hn)
    refine H [((29, 1, 0, 0, []), 0)] 18 _ _ _ (by decide +kernel) ?_
    exact ok_Tape_readRegister_1_p18 H  _ h
  · refine And.intro (fun hp => absurd hp c2) (fun _ => ?_)
    rcases px_ite h with ⟨c4, h⟩ | ⟨c4, h⟩
    · refine And.intro (fun _ => ?_) (fun hn => absurd c4 hn)
      refine H [((2, 0, 0, 0, []), 1), ((9, 0, 0, 0, []), 1), ((16, 1, 3, 0, []), 3), ((0, 0, 0, 1, []), 1), ((6, 0, 0, 0, []), 1), ((18, 1, 3, 0, []), 3), ((1, 1, 0, 0, []), 1), ((27, 0, 0, 0, []), 1)] 26 _ _ _ (by decide +kernel) ?_
      exact Prod.mk.inj (Option.some.inj h)
    · refine And.intro (fun hp => absurd hp c4) (fun _ => ?_)
      exact ok_Tape_readRegister_1_p18 H  _ h
theorem ok_Tape_readRegister_1 {l : Launch} {σ : pS} {v : Int} {σ1 : pS} (h : f_Tape_readRegister_1  σ = some (v, σ1)) : Con l 1 45 [.inr 1] σ v σ1 := Con_mk 1 2 rfl (by decide +kernel) (fun _ H => ok_Tape_readRegister_1_w H  _ h)
theorem ok_Tape_accept_1_w {l : Launch} {rv : Int} {rσ : pS} {G : Nat → pL → List pV → pS → Prop} (H : px_R l 1 26 rv rσ G) : ∀ (a1 : Int) (σ : pS), f_Tape_accept_1 a1 σ = some (rv, rσ) → G 0 [some (.inr 1), some (.inl a1)] [] σ := by
  intro a1 σ h
  unfold f_Tape_accept_1 at h
  refine H [((2, 0, 0, 0, []), 1), ((23, 19, 0, 1, [(0, 1)]), 3), ((1, 1, 0, 0, []), 1), ((13, 0, 14, 0, []), 3), ((2, 0, 0, 0, []), 1), ((0, 0, 0, 1, []), 1), ((23, 20, 1, 1, [(0, 1)]), 3), ((27, 1, 0, 0, []), 1)] 0 _ _ _ (by decide +kernel) ?_
  obtain ⟨⟨vq1, σq1⟩, hq1, h⟩ := px_bind h
  dsimp only at h
  refine Exists.intro 0 (Exists.intro vq1 (Exists.intro σq1 (And.intro (Nat.le_of_ble_eq_true rfl) (And.intro (ok_Tape_sign_1 hq1) ?_))))
  rcases px_ite h with ⟨c2, h⟩ | ⟨c2, h⟩
  · refine And.intro (fun _ => ?_) (fun hn => absurd c2 hn)
    refine H [((2, 0, 0, 0, []), 1), ((9, 0, 0, 0, []), 1), ((16, 1, 3, 0, []), 3), ((0, 0, 0, 1, []), 1), ((6, 0, 0, 0, []), 1), ((18, 1, 3, 0, []), 3), ((0, 0, 0, 1, []), 1), ((27, 1, 0, 0, []), 1)] 14 _ _ _ (by decide +kernel) ?_
    refine And.intro (show (0 : Int) ≤ 1 ∧ (1 : Int) ≤ 1 from by decide) ?_
    exact Prod.mk.inj (Option.some.inj h)
  · refine And.intro (fun hp => absurd hp c2) (fun _ => ?_)
    obtain ⟨⟨vq3, σq3⟩, hq3, h⟩ := px_bind h
    dsimp only at h
    refine Exists.intro 0 (Exists.intro vq3 (Exists.intro σq3 (And.intro (Nat.le_of_ble_eq_true rfl) (And.intro (ok_Tape_fail_1 hq3) ?_))))
    obtain ⟨g4, h⟩ := px_gd h
    refine And.intro g4 ?_
    exact Prod.mk.inj (Option.some.inj h)
theorem ok_Tape_accept_1 {l : Launch} {a1 : Int} {σ : pS} {v : Int} {σ1 : pS} (h : f_Tape_accept_1 a1 σ = some (v, σ1)) : Con l 1 26 [.inr 1, .inl a1] σ v σ1 := Con_mk 2 2 rfl (by decide +kernel) (fun _ H => ok_Tape_accept_1_w H _ _ h)
theorem ok_Prog_readGiven_45_1_w {l : Launch} {rv : Int} {rσ : pS} {G : Nat → pL → List pV → pS → Prop} (H : px_R l 2 44 rv rσ G) : ∀ (a2 : Int) (σ : pS), f_Prog_readGiven_45_1 a2 σ = some (rv, rσ) → G 0 [some (.inr 45), some (.inr 1), some (.inl a2)] [] σ := by
  intro a2 σ h
  unfold f_Prog_readGiven_45_1 at h
  refine H [((2, 0, 0, 0, []), 1), ((17, 45, 49, 0, []), 3), ((1, 2, 0, 0, []), 1), ((2, 1, 0, 0, []), 1), ((23, 45, 0, 1, [(0, 1)]), 3), ((20, 49, 20, 0, []), 1), ((2, 0, 0, 0, []), 1), ((17, 45, 49, 0, []), 3), ((1, 2, 0, 0, []), 1), ((19, 49, 20, 0, []), 1), ((0, 0, 0, (-1), []), 1), ((13, 0, 33, 0, []), 3), ((2, 1, 0, 0, []), 1), ((0, 0, 0, 44, []), 2), ((23, 26, 1, 1, [(0, 1)]), 3), ((14, 0, 33, 0, []), 3), ((0, 0, 0, 1, []), 1), ((12, 0, 34, 0, []), 3), ((27, 1, 0, 0, []), 1)] 0 _ _ _ (by decide +kernel) ?_
  obtain ⟨⟨vq1, σq1⟩, hq1, h⟩ := px_bind h
  dsimp only at h
  refine Exists.intro 1 (Exists.intro vq1 (Exists.intro σq1 (And.intro (Nat.le_of_ble_eq_true rfl) (And.intro (ok_Tape_readRegister_1 hq1) ?_))))
  obtain ⟨g2, h⟩ := px_gd h
  refine And.intro g2 ?_
  obtain ⟨g3, h⟩ := px_gd h
  refine And.intro g3 ?_
  rcases px_ite h with ⟨c4, h⟩ | ⟨c4, h⟩
  · refine And.intro (fun _ => ?_) (fun hn => absurd c4 hn)
    refine H [((0, 0, 0, 0, []), 1), ((27, 1, 0, 0, []), 1)] 33 _ _ _ (by decide +kernel) ?_
    refine And.intro (show (0 : Int) ≤ 0 ∧ (0 : Int) ≤ 1 from by decide) ?_
    exact Prod.mk.inj (Option.some.inj h)
  · refine And.intro (fun hp => absurd hp c4) (fun _ => ?_)
    obtain ⟨⟨vq5, σq5⟩, hq5, h⟩ := px_bind h
    dsimp only at h
    refine Exists.intro 1 (Exists.intro vq5 (Exists.intro σq5 (And.intro (Nat.le_of_ble_eq_true rfl) (And.intro (ok_Tape_accept_1 hq5) ?_))))
    rcases px_ite h with ⟨c6, h⟩ | ⟨c6, h⟩
    · refine And.intro (fun _ => ?_) (fun hn => absurd c6 hn)
      refine H [((0, 0, 0, 0, []), 1), ((27, 1, 0, 0, []), 1)] 33 _ _ _ (by decide +kernel) ?_
      refine And.intro (show (0 : Int) ≤ 0 ∧ (0 : Int) ≤ 1 from by decide) ?_
      exact Prod.mk.inj (Option.some.inj h)
    · refine And.intro (fun hp => absurd hp c6) (fun _ => ?_)
      refine And.intro (show (0 : Int) ≤ 1 ∧ (1 : Int) ≤ 1 from by decide) ?_
      exact Prod.mk.inj (Option.some.inj h)
theorem ok_Prog_readGiven_45_1 {l : Launch} {a2 : Int} {σ : pS} {v : Int} {σ1 : pS} (h : f_Prog_readGiven_45_1 a2 σ = some (v, σ1)) : Con l 2 44 [.inr 45, .inr 1, .inl a2] σ v σ1 := Con_mk 3 3 rfl (by decide +kernel) (fun _ H => ok_Prog_readGiven_45_1_w H _ _ h)
theorem ok_Tape_digitNext_1_w {l : Launch} {rv : Int} {rσ : pS} {G : Nat → pL → List pV → pS → Prop} (H : px_R l 1 27 rv rσ G) : ∀ (σ : pS), f_Tape_digitNext_1  σ = some (rv, rσ) → G 0 [some (.inr 1)] [] σ := by
  intro  σ h
  unfold f_Tape_digitNext_1 at h
  refine H [((2, 0, 0, 0, []), 1), ((23, 19, 0, 1, [(0, 1)]), 3), ((0, 0, 0, 48, []), 2), ((13, 2, 22, 0, []), 3), ((2, 0, 0, 0, []), 1), ((23, 19, 0, 1, [(0, 1)]), 3), ((0, 0, 0, 57, []), 2), ((13, 4, 22, 0, []), 3), ((0, 0, 0, 1, []), 1), ((12, 0, 23, 0, []), 3), ((27, 1, 0, 0, []), 1)] 0 _ _ _ (by decide +kernel) ?_
  obtain ⟨⟨vq1, σq1⟩, hq1, h⟩ := px_bind h
  dsimp only at h
  refine Exists.intro 0 (Exists.intro vq1 (Exists.intro σq1 (And.intro (Nat.le_of_ble_eq_true rfl) (And.intro (ok_Tape_sign_1 hq1) ?_))))
  rcases px_ite h with ⟨c2, h⟩ | ⟨c2, h⟩
  · refine And.intro (fun _ => ?_) (fun hn => absurd c2 hn)
    refine H [((0, 0, 0, 0, []), 1), ((27, 1, 0, 0, []), 1)] 22 _ _ _ (by decide +kernel) ?_
    refine And.intro (show (0 : Int) ≤ 0 ∧ (0 : Int) ≤ 1 from by decide) ?_
    exact Prod.mk.inj (Option.some.inj h)
  · refine And.intro (fun hp => absurd hp c2) (fun _ => ?_)
    obtain ⟨⟨vq3, σq3⟩, hq3, h⟩ := px_bind h
    dsimp only at h
    refine Exists.intro 0 (Exists.intro vq3 (Exists.intro σq3 (And.intro (Nat.le_of_ble_eq_true rfl) (And.intro (ok_Tape_sign_1 hq3) ?_))))
    rcases px_ite h with ⟨c4, h⟩ | ⟨c4, h⟩
    · refine And.intro (fun _ => ?_) (fun hn => absurd c4 hn)
      refine H [((0, 0, 0, 0, []), 1), ((27, 1, 0, 0, []), 1)] 22 _ _ _ (by decide +kernel) ?_
      refine And.intro (show (0 : Int) ≤ 0 ∧ (0 : Int) ≤ 1 from by decide) ?_
      exact Prod.mk.inj (Option.some.inj h)
    · refine And.intro (fun hp => absurd hp c4) (fun _ => ?_)
      refine And.intro (show (0 : Int) ≤ 1 ∧ (1 : Int) ≤ 1 from by decide) ?_
      exact Prod.mk.inj (Option.some.inj h)
theorem ok_Tape_digitNext_1 {l : Launch} {σ : pS} {v : Int} {σ1 : pS} (h : f_Tape_digitNext_1  σ = some (v, σ1)) : Con l 1 27 [.inr 1] σ v σ1 := Con_mk 1 1 rfl (by decide +kernel) (fun _ H => ok_Tape_digitNext_1_w H  _ h)
theorem ok_Tape_readDigits_1_p64 {l : Launch} {rv : Int} {rσ : pS} {G : Nat → pL → List pV → pS → Prop} (H : px_R l 2 28 rv rσ G) : ∀ (a2 : Int) (σ : pS), f_Tape_readDigits_1_p64 a2 σ = some (rv, rσ) → G 64 [some (.inr 1), none, some (.inl a2), none] [] σ := by
  intro a2 σ h
  unfold f_Tape_readDigits_1_p64 at h
  refine H [((2, 0, 0, 0, []), 1), ((23, 27, 0, 1, [(0, 1)]), 3), ((14, 0, 79, 0, []), 3), ((2, 0, 0, 0, []), 1), ((0, 0, 0, 2, []), 1), ((23, 20, 1, 1, [(0, 1)]), 3), ((11, 0, 0, 0, []), 1), ((0, 0, 0, (-1), []), 1), ((27, 0, 0, 0, []), 1)] 64 _ _ _ (by decide +kernel) ?_
  obtain ⟨⟨vq2, σq2⟩, hq2, h⟩ := px_bind h
  dsimp only at h
  refine Exists.intro 1 (Exists.intro vq2 (Exists.intro σq2 (And.intro (Nat.le_of_ble_eq_true rfl) (And.intro (ok_Tape_digitNext_1 hq2) ?_))))
  rcases px_ite h with ⟨c3, h⟩ | ⟨c3, h⟩
  · refine And.intro (fun _ => ?_) (fun hn => absurd c3 hn)
    refine H [((1, 2, 0, 0, []), 1), ((27, 0, 0, 0, []), 1)] 79 _ _ _ (by decide +kernel) ?_
    exact Prod.mk.inj (Option.some.inj h)
  · refine And.intro (fun hp => absurd hp c3) (fun _ => ?_)
    obtain ⟨⟨vq4, σq4⟩, hq4, h⟩ := px_bind h
    dsimp only at h
    refine Exists.intro 0 (Exists.intro vq4 (Exists.intro σq4 (And.intro (Nat.le_of_ble_eq_true rfl) (And.intro (ok_Tape_fail_1 hq4) ?_))))
    exact Prod.mk.inj (Option.some.inj h)
theorem ok_Tape_readDigits_1_p20 {l : Launch} {rv : Int} {rσ : pS} {G : Nat → pL → List pV → pS → Prop} (H : px_R l 2 28 rv rσ G) {k_4 : Int → Int → Int → pS → Option (Int × pS)} (hk_4 : ∀ (a1 a2 a3 : Int) (σ : pS), k_4 a1 a2 a3 σ = some (rv, rσ) → G 4 [some (.inr 1), some (.inl a1), some (.inl a2), some (.inl a3)] [] σ) : ∀ (a1 a2 a3 : Int) (σ : pS), f_Tape_readDigits_1_p20 k_4 a1 a2 a3 σ = some (rv, rσ) → G 20 [some (.inr 1), some (.inl a1), some (.inl a2), some (.inl a3)] [] σ := by
  intro a1 a2 a3 σ h
  unfold f_Tape_readDigits_1_p20 at h
  refine H [((2, 0, 0, 0, []), 1), ((23, 27, 0, 1, [(0, 1)]), 3), ((14, 1, 35, 0, []), 3), ((2, 0, 0, 0, []), 1), ((0, 0, 0, 1, []), 1), ((23, 20, 1, 1, [(0, 1)]), 3), ((11, 0, 0, 0, []), 1), ((0, 0, 0, (-1), []), 1), ((27, 0, 0, 0, []), 1)] 20 _ _ _ (by decide +kernel) ?_
  obtain ⟨⟨vq6, σq6⟩, hq6, h⟩ := px_bind h
  dsimp only at h
  refine Exists.intro 1 (Exists.intro vq6 (Exists.intro σq6 (And.intro (Nat.le_of_ble_eq_true rfl) (And.intro (ok_Tape_digitNext_1 hq6) ?_))))
  rcases px_ite h with ⟨c7, h⟩ | ⟨c7, h⟩
  · refine And.intro (fun hp => absurd c7 hp) (fun _ => ?_)
    obtain ⟨⟨vq9, σq9⟩, hq9, h⟩ := px_bind h
    dsimp only at h
    refine Exists.intro 0 (Exists.intro vq9 (Exists.intro σq9 (And.intro (Nat.le_of_ble_eq_true rfl) (And.intro (ok_Tape_fail_1 hq9) ?_))))
    exact Prod.mk.inj (Option.some.inj h)
  · refine And.intro (fun _ => ?_) (fun hn => absurd c7 hn)
    refine H [((1, 2, 0, 0, []), 1), ((0, 0, 0, 10, []), 2), ((6, 2, 0, 0, []), 1), ((2, 0, 0, 0, []), 1), ((23, 19, 0, 1, [(0, 1)]), 3), ((6, 0, 0, 0, []), 1), ((0, 0, 0, 48, []), 2), ((6, 1, 0, 0, []), 1), ((3, 2, 0, 0, []), 1), ((2, 0, 0, 0, []), 1), ((9, 0, 0, 0, []), 1), ((16, 1, 3, 0, []), 3), ((0, 0, 0, 1, []), 1), ((6, 0, 0, 0, []), 1), ((18, 1, 3, 0, []), 3), ((5, 3, 0, 1, []), 3), ((12, 0, 4, 0, []), 3)] 35 _ _ _ (by decide +kernel) ?_
    obtain ⟨⟨vq8, σq8⟩, hq8, h⟩ := px_bind h
    dsimp only at h
    refine Exists.intro 0 (Exists.intro vq8 (Exists.intro σq8 (And.intro (Nat.le_of_ble_eq_true rfl) (And.intro (ok_Tape_sign_1 hq8) ?_))))
    exact hk_4 _ _ _ _ h
theorem ok_Tape_readDigits_1_p4 {l : Launch} {rv : Int} {rσ : pS} {G : Nat → pL → List pV → pS → Prop} (H : px_R l 2 28 rv rσ G) : ∀ (n : Nat) (a1 a2 a3 : Int) (σ : pS), f_Tape_readDigits_1_p4 n a1 a2 a3 σ = some (rv, rσ) → G 4 [some (.inr 1), some (.inl a1), some (.inl a2), some (.inl a3)] [] σ := by
  intro n
  induction n with
  | zero =>
    intro a1 a2 a3 σ h
    unfold f_Tape_readDigits_1_p4 at h
    cases h
  | succ n ih =>
    intro a1 a2 a3 σ h
    unfold f_Tape_readDigits_1_p4 at h
    refine H [((1, 3, 0, 0, []), 1), ((1, 1, 0, 0, []), 1), ((13, 3, 64, 0, []), 3), ((1, 3, 0, 0, []), 1), ((14, 0, 20, 0, []), 3), ((2, 0, 0, 0, []), 1), ((23, 27, 0, 1, [(0, 1)]), 3), ((14, 0, 64, 0, []), 3)] 4 _ _ _ (by decide +kernel) ?_
    rcases px_ite h with ⟨c1, h⟩ | ⟨c1, h⟩
    · refine And.intro (fun _ => ?_) (fun hn => absurd c1 hn)
      refine H [((29, 1, 0, 0, []), 0), ((29, 3, 0, 0, []), 0)] 64 _ _ _ (by decide +kernel) ?_
      exact ok_Tape_readDigits_1_p64 H _ _ h
    · refine And.intro (fun hp => absurd hp c1) (fun _ => ?_)
      rcases px_ite h with ⟨c5, h⟩ | ⟨c5, h⟩
      · refine And.intro (fun _ => ?_) (fun hn => absurd c5 hn)
        exact ok_Tape_readDigits_1_p20 H ih _ _ _ _ h
      · refine And.intro (fun hp => absurd hp c5) (fun _ => ?_)
        obtain ⟨⟨vq10, σq10⟩, hq10, h⟩ := px_bind h
        dsimp only at h
        refine Exists.intro 1 (Exists.intro vq10 (Exists.intro σq10 (And.intro (Nat.le_of_ble_eq_true rfl) (And.intro (ok_Tape_digitNext_1 hq10) ?_))))
        rcases px_ite h with ⟨c11, h⟩ | ⟨c11, h⟩
        · refine And.intro (fun _ => ?_) (fun hn => absurd c11 hn)
          refine H [((29, 1, 0, 0, []), 0), ((29, 3, 0, 0, []), 0)] 64 _ _ _ (by decide +kernel) ?_
          exact ok_Tape_readDigits_1_p64 H _ _ h
        · refine And.intro (fun hp => absurd hp c11) (fun _ => ?_)
          exact ok_Tape_readDigits_1_p20 H ih _ _ _ _ h
theorem ok_Tape_readDigits_1_w {l : Launch} {rv : Int} {rσ : pS} {G : Nat → pL → List pV → pS → Prop} (H : px_R l 2 28 rv rσ G) : ∀ (a1 : Int) (σ : pS), f_Tape_readDigits_1 a1 σ = some (rv, rσ) → G 0 [some (.inr 1), some (.inl a1), none, none] [] σ := by
  intro a1 σ h
  unfold f_Tape_readDigits_1 at h
  refine H [((0, 0, 0, 0, []), 1), ((3, 2, 0, 0, []), 1), ((0, 0, 0, 0, []), 1), ((3, 3, 0, 0, []), 1)] 0 _ _ _ (by decide +kernel) ?_
  exact ok_Tape_readDigits_1_p4 H _ _ _ _ _ h
theorem ok_Tape_readDigits_1 {l : Launch} {a1 : Int} {σ : pS} {v : Int} {σ1 : pS} (h : f_Tape_readDigits_1 a1 σ = some (v, σ1)) : Con l 2 28 [.inr 1, .inl a1] σ v σ1 := Con_mk 2 4 rfl (by decide +kernel) (fun _ H => ok_Tape_readDigits_1_w H _ _ h)
theorem ok_Prog_readNumber_45_1_w {l : Launch} {rv : Int} {rσ : pS} {G : Nat → pL → List pV → pS → Prop} (H : px_R l 3 46 rv rσ G) : ∀ (a2 : Int) (σ : pS), f_Prog_readNumber_45_1 a2 σ = some (rv, rσ) → G 0 [some (.inr 45), some (.inr 1), some (.inl a2)] [] σ := by
  intro a2 σ h
  unfold f_Prog_readNumber_45_1 at h
  refine H [((2, 0, 0, 0, []), 1), ((17, 45, 52, 0, []), 3), ((1, 2, 0, 0, []), 1), ((2, 1, 0, 0, []), 1), ((0, 0, 0, 4, []), 1), ((23, 28, 1, 1, [(0, 1)]), 3), ((20, 52, 20, 0, []), 1), ((2, 0, 0, 0, []), 1), ((17, 45, 52, 0, []), 3), ((1, 2, 0, 0, []), 1), ((19, 52, 20, 0, []), 1), ((0, 0, 0, (-1), []), 1), ((13, 0, 25, 0, []), 3), ((0, 0, 0, 1, []), 1), ((12, 0, 26, 0, []), 3), ((27, 1, 0, 0, []), 1)] 0 _ _ _ (by decide +kernel) ?_
  obtain ⟨⟨vq1, σq1⟩, hq1, h⟩ := px_bind h
  dsimp only at h
  refine Exists.intro 2 (Exists.intro vq1 (Exists.intro σq1 (And.intro (Nat.le_of_ble_eq_true rfl) (And.intro (ok_Tape_readDigits_1 hq1) ?_))))
  obtain ⟨g2, h⟩ := px_gd h
  refine And.intro g2 ?_
  obtain ⟨g3, h⟩ := px_gd h
  refine And.intro g3 ?_
  rcases px_ite h with ⟨c4, h⟩ | ⟨c4, h⟩
  · refine And.intro (fun _ => ?_) (fun hn => absurd c4 hn)
    refine H [((0, 0, 0, 0, []), 1), ((27, 1, 0, 0, []), 1)] 25 _ _ _ (by decide +kernel) ?_
    refine And.intro (show (0 : Int) ≤ 0 ∧ (0 : Int) ≤ 1 from by decide) ?_
    exact Prod.mk.inj (Option.some.inj h)
  · refine And.intro (fun hp => absurd hp c4) (fun _ => ?_)
    refine And.intro (show (0 : Int) ≤ 1 ∧ (1 : Int) ≤ 1 from by decide) ?_
    exact Prod.mk.inj (Option.some.inj h)
theorem ok_Prog_readNumber_45_1 {l : Launch} {a2 : Int} {σ : pS} {v : Int} {σ1 : pS} (h : f_Prog_readNumber_45_1 a2 σ = some (v, σ1)) : Con l 3 46 [.inr 45, .inr 1, .inl a2] σ v σ1 := Con_mk 3 3 rfl (by decide +kernel) (fun _ H => ok_Prog_readNumber_45_1_w H _ _ h)
theorem ok_Prog_readMove_45_1_p116 {l : Launch} {rv : Int} {rσ : pS} {G : Nat → pL → List pV → pS → Prop} (H : px_R l 4 48 rv rσ G) : ∀ (a2 : Int) (σ : pS), f_Prog_readMove_45_1_p116 a2 σ = some (rv, rσ) → G 116 [some (.inr 45), some (.inr 1), some (.inl a2)] [] σ := by
  intro a2 σ h
  unfold f_Prog_readMove_45_1_p116 at h
  refine H [((2, 0, 0, 0, []), 1), ((2, 1, 0, 0, []), 1), ((1, 2, 0, 0, []), 1), ((23, 46, 2, 1, [(0, 45)]), 3), ((27, 1, 0, 0, []), 1)] 116 _ _ _ (by decide +kernel) ?_
  obtain ⟨⟨vq13, σq13⟩, hq13, h⟩ := px_bind h
  dsimp only at h
  refine Exists.intro 3 (Exists.intro vq13 (Exists.intro σq13 (And.intro (Nat.le_of_ble_eq_true rfl) (And.intro (ok_Prog_readNumber_45_1 hq13) ?_))))
  obtain ⟨g14, h⟩ := px_gd h
  refine And.intro g14 ?_
  exact Prod.mk.inj (Option.some.inj h)
theorem ok_Prog_readMove_45_1_p72 {l : Launch} {rv : Int} {rσ : pS} {G : Nat → pL → List pV → pS → Prop} (H : px_R l 4 48 rv rσ G) : ∀ (a2 : Int) (σ : pS), f_Prog_readMove_45_1_p72 a2 σ = some (rv, rσ) → G 72 [some (.inr 45), some (.inr 1), some (.inl a2)] [] σ := by
  intro a2 σ h
  unfold f_Prog_readMove_45_1_p72 at h
  refine H [((2, 1, 0, 0, []), 1), ((23, 19, 0, 1, [(0, 1)]), 3), ((0, 0, 0, 114, []), 2), ((13, 1, 116, 0, []), 3), ((2, 1, 0, 0, []), 1), ((23, 21, 0, 0, [(0, 1)]), 3), ((2, 0, 0, 0, []), 1), ((17, 45, 51, 0, []), 3), ((1, 2, 0, 0, []), 1), ((2, 1, 0, 0, []), 1), ((23, 45, 0, 1, [(0, 1)]), 3), ((20, 51, 20, 0, []), 1), ((2, 0, 0, 0, []), 1), ((17, 45, 51, 0, []), 3), ((1, 2, 0, 0, []), 1), ((19, 51, 20, 0, []), 1), ((0, 0, 0, (-1), []), 1), ((13, 0, 114, 0, []), 3), ((2, 1, 0, 0, []), 1), ((0, 0, 0, 43, []), 2), ((23, 26, 1, 1, [(0, 1)]), 3), ((14, 1, 116, 0, []), 3), ((0, 0, 0, 0, []), 1), ((27, 1, 0, 0, []), 1)] 72 _ _ _ (by decide +kernel) ?_
  obtain ⟨⟨vq11, σq11⟩, hq11, h⟩ := px_bind h
  dsimp only at h
  refine Exists.intro 0 (Exists.intro vq11 (Exists.intro σq11 (And.intro (Nat.le_of_ble_eq_true rfl) (And.intro (ok_Tape_sign_1 hq11) ?_))))
  rcases px_ite h with ⟨c12, h⟩ | ⟨c12, h⟩
  · refine And.intro (fun hp => absurd c12 hp) (fun _ => ?_)
    obtain ⟨⟨vq15, σq15⟩, hq15, h⟩ := px_bind h
    dsimp only at h
    refine Exists.intro 0 (Exists.intro vq15 (Exists.intro σq15 (And.intro (Nat.le_of_ble_eq_true rfl) (And.intro (ok_Tape_step_1 hq15) ?_))))
    obtain ⟨⟨vq16, σq16⟩, hq16, h⟩ := px_bind h
    dsimp only at h
    refine Exists.intro 1 (Exists.intro vq16 (Exists.intro σq16 (And.intro (Nat.le_of_ble_eq_true rfl) (And.intro (ok_Tape_readRegister_1 hq16) ?_))))
    obtain ⟨g17, h⟩ := px_gd h
    refine And.intro g17 ?_
    obtain ⟨g18, h⟩ := px_gd h
    refine And.intro g18 ?_
    rcases px_ite h with ⟨c19, h⟩ | ⟨c19, h⟩
    · refine And.intro (fun _ => ?_) (fun hn => absurd c19 hn)
      refine H [((0, 0, 0, 0, []), 1), ((27, 1, 0, 0, []), 1)] 114 _ _ _ (by decide +kernel) ?_
      refine And.intro (show (0 : Int) ≤ 0 ∧ (0 : Int) ≤ 1 from by decide) ?_
      exact Prod.mk.inj (Option.some.inj h)
    · refine And.intro (fun hp => absurd hp c19) (fun _ => ?_)
      obtain ⟨⟨vq20, σq20⟩, hq20, h⟩ := px_bind h
      dsimp only at h
      refine Exists.intro 1 (Exists.intro vq20 (Exists.intro σq20 (And.intro (Nat.le_of_ble_eq_true rfl) (And.intro (ok_Tape_accept_1 hq20) ?_))))
      rcases px_ite h with ⟨c21, h⟩ | ⟨c21, h⟩
      · refine And.intro (fun hp => absurd c21 hp) (fun _ => ?_)
        refine And.intro (show (0 : Int) ≤ 0 ∧ (0 : Int) ≤ 1 from by decide) ?_
        exact Prod.mk.inj (Option.some.inj h)
      · refine And.intro (fun _ => ?_) (fun hn => absurd c21 hn)
        exact ok_Prog_readMove_45_1_p116 H _ _ h
  · refine And.intro (fun _ => ?_) (fun hn => absurd c12 hn)
    exact ok_Prog_readMove_45_1_p116 H _ _ h
theorem ok_Prog_readMove_45_1_w {l : Launch} {rv : Int} {rσ : pS} {G : Nat → pL → List pV → pS → Prop} (H : px_R l 4 48 rv rσ G) : ∀ (a2 : Int) (σ : pS), f_Prog_readMove_45_1 a2 σ = some (rv, rσ) → G 0 [some (.inr 45), some (.inr 1), some (.inl a2)] [] σ := by
  intro a2 σ h
  unfold f_Prog_readMove_45_1 at h
  refine H [((2, 0, 0, 0, []), 1), ((17, 45, 48, 0, []), 3), ((1, 2, 0, 0, []), 1), ((2, 1, 0, 0, []), 1), ((23, 19, 0, 1, [(0, 1)]), 3), ((24, 49, 1, 1, []), 3), ((20, 48, 20, 0, []), 1), ((2, 0, 0, 0, []), 1), ((17, 45, 48, 0, []), 3), ((1, 2, 0, 0, []), 1), ((19, 48, 20, 0, []), 1), ((14, 1, 28, 0, []), 3), ((2, 1, 0, 0, []), 1), ((0, 0, 0, 1, []), 1), ((23, 20, 1, 1, [(0, 1)]), 3), ((27, 1, 0, 0, []), 1)] 0 _ _ _ (by decide +kernel) ?_
  obtain ⟨⟨vq1, σq1⟩, hq1, h⟩ := px_bind h
  dsimp only at h
  refine Exists.intro 0 (Exists.intro vq1 (Exists.intro σq1 (And.intro (Nat.le_of_ble_eq_true rfl) (And.intro (ok_Tape_sign_1 hq1) ?_))))
  obtain ⟨⟨vq2, σq2⟩, hq2, h⟩ := px_bind h
  dsimp only at h
  refine Exists.intro 0 (Exists.intro vq2 (Exists.intro σq2 (And.intro (Nat.le_of_ble_eq_true rfl) (And.intro (ok_Prog_sizeOf hq2) ?_))))
  obtain ⟨g3, h⟩ := px_gd h
  refine And.intro g3 ?_
  obtain ⟨g4, h⟩ := px_gd h
  refine And.intro g4 ?_
  rcases px_ite h with ⟨c5, h⟩ | ⟨c5, h⟩
  · refine And.intro (fun hp => absurd c5 hp) (fun _ => ?_)
    obtain ⟨⟨vq25, σq25⟩, hq25, h⟩ := px_bind h
    dsimp only at h
    refine Exists.intro 0 (Exists.intro vq25 (Exists.intro σq25 (And.intro (Nat.le_of_ble_eq_true rfl) (And.intro (ok_Tape_fail_1 hq25) ?_))))
    obtain ⟨g26, h⟩ := px_gd h
    refine And.intro g26 ?_
    exact Prod.mk.inj (Option.some.inj h)
  · refine And.intro (fun _ => ?_) (fun hn => absurd c5 hn)
    refine H [((2, 1, 0, 0, []), 1), ((23, 21, 0, 0, [(0, 1)]), 3), ((2, 0, 0, 0, []), 1), ((2, 1, 0, 0, []), 1), ((1, 2, 0, 0, []), 1), ((23, 44, 2, 1, [(0, 45)]), 3), ((14, 1, 43, 0, []), 3), ((0, 0, 0, 0, []), 1), ((27, 1, 0, 0, []), 1)] 28 _ _ _ (by decide +kernel) ?_
    obtain ⟨⟨vq6, σq6⟩, hq6, h⟩ := px_bind h
    dsimp only at h
    refine Exists.intro 0 (Exists.intro vq6 (Exists.intro σq6 (And.intro (Nat.le_of_ble_eq_true rfl) (And.intro (ok_Tape_step_1 hq6) ?_))))
    obtain ⟨⟨vq7, σq7⟩, hq7, h⟩ := px_bind h
    dsimp only at h
    refine Exists.intro 2 (Exists.intro vq7 (Exists.intro σq7 (And.intro (Nat.le_of_ble_eq_true rfl) (And.intro (ok_Prog_readGiven_45_1 hq7) ?_))))
    rcases px_ite h with ⟨c8, h⟩ | ⟨c8, h⟩
    · refine And.intro (fun hp => absurd c8 hp) (fun _ => ?_)
      refine And.intro (show (0 : Int) ≤ 0 ∧ (0 : Int) ≤ 1 from by decide) ?_
      exact Prod.mk.inj (Option.some.inj h)
    · refine And.intro (fun _ => ?_) (fun hn => absurd c8 hn)
      refine H [((2, 0, 0, 0, []), 1), ((17, 45, 46, 0, []), 3), ((1, 2, 0, 0, []), 1), ((19, 46, 20, 0, []), 1), ((0, 0, 0, 3, []), 1), ((13, 1, 72, 0, []), 3), ((2, 0, 0, 0, []), 1), ((17, 45, 50, 0, []), 3), ((1, 2, 0, 0, []), 1), ((2, 0, 0, 0, []), 1), ((17, 45, 49, 0, []), 3), ((1, 2, 0, 0, []), 1), ((19, 49, 20, 0, []), 1), ((20, 50, 20, 0, []), 1), ((2, 0, 0, 0, []), 1), ((17, 45, 49, 0, []), 3), ((1, 2, 0, 0, []), 1), ((0, 0, 0, (-1), []), 1), ((20, 49, 20, 0, []), 1)] 43 _ _ _ (by decide +kernel) ?_
      obtain ⟨g9, h⟩ := px_gd h
      refine And.intro g9 ?_
      rcases px_ite h with ⟨c10, h⟩ | ⟨c10, h⟩
      · refine And.intro (fun hp => absurd c10 hp) (fun _ => ?_)
        obtain ⟨g22, h⟩ := px_gd h
        refine And.intro g22 ?_
        obtain ⟨g23, h⟩ := px_gd h
        refine And.intro g23 ?_
        obtain ⟨g24, h⟩ := px_gd h
        refine And.intro g24 ?_
        exact ok_Prog_readMove_45_1_p72 H _ _ h
      · refine And.intro (fun _ => ?_) (fun hn => absurd c10 hn)
        exact ok_Prog_readMove_45_1_p72 H _ _ h
theorem ok_Prog_readMove_45_1 {l : Launch} {a2 : Int} {σ : pS} {v : Int} {σ1 : pS} (h : f_Prog_readMove_45_1 a2 σ = some (v, σ1)) : Con l 4 48 [.inr 45, .inr 1, .inl a2] σ v σ1 := Con_mk 3 3 rfl (by decide +kernel) (fun _ H => ok_Prog_readMove_45_1_w H _ _ h)
theorem ok_Prog_readReckoning_45_1_w {l : Launch} {rv : Int} {rσ : pS} {G : Nat → pL → List pV → pS → Prop} (H : px_R l 3 47 rv rσ G) : ∀ (a2 : Int) (σ : pS), f_Prog_readReckoning_45_1 a2 σ = some (rv, rσ) → G 0 [some (.inr 45), some (.inr 1), some (.inl a2)] [] σ := by
  intro a2 σ h
  unfold f_Prog_readReckoning_45_1 at h
  refine H [((2, 0, 0, 0, []), 1), ((2, 1, 0, 0, []), 1), ((1, 2, 0, 0, []), 1), ((23, 44, 2, 1, [(0, 45)]), 3), ((14, 1, 11, 0, []), 3), ((0, 0, 0, 0, []), 1), ((27, 1, 0, 0, []), 1)] 0 _ _ _ (by decide +kernel) ?_
  obtain ⟨⟨vq1, σq1⟩, hq1, h⟩ := px_bind h
  dsimp only at h
  refine Exists.intro 2 (Exists.intro vq1 (Exists.intro σq1 (And.intro (Nat.le_of_ble_eq_true rfl) (And.intro (ok_Prog_readGiven_45_1 hq1) ?_))))
  rcases px_ite h with ⟨c2, h⟩ | ⟨c2, h⟩
  · refine And.intro (fun hp => absurd c2 hp) (fun _ => ?_)
    refine And.intro (show (0 : Int) ≤ 0 ∧ (0 : Int) ≤ 1 from by decide) ?_
    exact Prod.mk.inj (Option.some.inj h)
  · refine And.intro (fun _ => ?_) (fun hn => absurd c2 hn)
    refine H [((2, 0, 0, 0, []), 1), ((17, 45, 50, 0, []), 3), ((1, 2, 0, 0, []), 1), ((2, 1, 0, 0, []), 1), ((23, 45, 0, 1, [(0, 1)]), 3), ((20, 50, 20, 0, []), 1), ((2, 0, 0, 0, []), 1), ((17, 45, 50, 0, []), 3), ((1, 2, 0, 0, []), 1), ((19, 50, 20, 0, []), 1), ((0, 0, 0, (-1), []), 1), ((13, 0, 40, 0, []), 3), ((2, 1, 0, 0, []), 1), ((0, 0, 0, 44, []), 2), ((23, 26, 1, 1, [(0, 1)]), 3), ((14, 1, 42, 0, []), 3), ((0, 0, 0, 0, []), 1), ((27, 1, 0, 0, []), 1)] 11 _ _ _ (by decide +kernel) ?_
    obtain ⟨⟨vq3, σq3⟩, hq3, h⟩ := px_bind h
    dsimp only at h
    refine Exists.intro 1 (Exists.intro vq3 (Exists.intro σq3 (And.intro (Nat.le_of_ble_eq_true rfl) (And.intro (ok_Tape_readRegister_1 hq3) ?_))))
    obtain ⟨g4, h⟩ := px_gd h
    refine And.intro g4 ?_
    obtain ⟨g5, h⟩ := px_gd h
    refine And.intro g5 ?_
    rcases px_ite h with ⟨c6, h⟩ | ⟨c6, h⟩
    · refine And.intro (fun _ => ?_) (fun hn => absurd c6 hn)
      refine H [((0, 0, 0, 0, []), 1), ((27, 1, 0, 0, []), 1)] 40 _ _ _ (by decide +kernel) ?_
      refine And.intro (show (0 : Int) ≤ 0 ∧ (0 : Int) ≤ 1 from by decide) ?_
      exact Prod.mk.inj (Option.some.inj h)
    · refine And.intro (fun hp => absurd hp c6) (fun _ => ?_)
      obtain ⟨⟨vq7, σq7⟩, hq7, h⟩ := px_bind h
      dsimp only at h
      refine Exists.intro 1 (Exists.intro vq7 (Exists.intro σq7 (And.intro (Nat.le_of_ble_eq_true rfl) (And.intro (ok_Tape_accept_1 hq7) ?_))))
      rcases px_ite h with ⟨c8, h⟩ | ⟨c8, h⟩
      · refine And.intro (fun hp => absurd c8 hp) (fun _ => ?_)
        refine And.intro (show (0 : Int) ≤ 0 ∧ (0 : Int) ≤ 1 from by decide) ?_
        exact Prod.mk.inj (Option.some.inj h)
      · refine And.intro (fun _ => ?_) (fun hn => absurd c8 hn)
        refine H [((2, 0, 0, 0, []), 1), ((17, 45, 51, 0, []), 3), ((1, 2, 0, 0, []), 1), ((2, 1, 0, 0, []), 1), ((23, 45, 0, 1, [(0, 1)]), 3), ((20, 51, 20, 0, []), 1), ((2, 0, 0, 0, []), 1), ((17, 45, 51, 0, []), 3), ((1, 2, 0, 0, []), 1), ((19, 51, 20, 0, []), 1), ((0, 0, 0, (-1), []), 1), ((13, 0, 66, 0, []), 3), ((0, 0, 0, 1, []), 1), ((12, 0, 67, 0, []), 3), ((27, 1, 0, 0, []), 1)] 42 _ _ _ (by decide +kernel) ?_
        obtain ⟨⟨vq9, σq9⟩, hq9, h⟩ := px_bind h
        dsimp only at h
        refine Exists.intro 1 (Exists.intro vq9 (Exists.intro σq9 (And.intro (Nat.le_of_ble_eq_true rfl) (And.intro (ok_Tape_readRegister_1 hq9) ?_))))
        obtain ⟨g10, h⟩ := px_gd h
        refine And.intro g10 ?_
        obtain ⟨g11, h⟩ := px_gd h
        refine And.intro g11 ?_
        rcases px_ite h with ⟨c12, h⟩ | ⟨c12, h⟩
        · refine And.intro (fun _ => ?_) (fun hn => absurd c12 hn)
          refine H [((0, 0, 0, 0, []), 1), ((27, 1, 0, 0, []), 1)] 66 _ _ _ (by decide +kernel) ?_
          refine And.intro (show (0 : Int) ≤ 0 ∧ (0 : Int) ≤ 1 from by decide) ?_
          exact Prod.mk.inj (Option.some.inj h)
        · refine And.intro (fun hp => absurd hp c12) (fun _ => ?_)
          refine And.intro (show (0 : Int) ≤ 1 ∧ (1 : Int) ≤ 1 from by decide) ?_
          exact Prod.mk.inj (Option.some.inj h)
theorem ok_Prog_readReckoning_45_1 {l : Launch} {a2 : Int} {σ : pS} {v : Int} {σ1 : pS} (h : f_Prog_readReckoning_45_1 a2 σ = some (v, σ1)) : Con l 3 47 [.inr 45, .inr 1, .inl a2] σ v σ1 := Con_mk 3 3 rfl (by decide +kernel) (fun _ H => ok_Prog_readReckoning_45_1_w H _ _ h)
theorem ok_Prog_readOp_45_1_w {l : Launch} {rv : Int} {rσ : pS} {G : Nat → pL → List pV → pS → Prop} (H : px_R l 5 42 rv rσ G) : ∀ (a2 : Int) (σ : pS), f_Prog_readOp_45_1 a2 σ = some (rv, rσ) → G 0 [some (.inr 45), some (.inr 1), some (.inl a2), none, none] [] σ := by
  intro a2 σ h
  unfold f_Prog_readOp_45_1 at h
  refine H [((2, 1, 0, 0, []), 1), ((23, 19, 0, 1, [(0, 1)]), 3), ((3, 3, 0, 0, []), 1), ((1, 3, 0, 0, []), 1), ((24, 43, 1, 1, []), 3), ((3, 4, 0, 0, []), 2), ((1, 4, 0, 0, []), 2), ((0, 0, 0, (-1), []), 1), ((13, 1, 23, 0, []), 3), ((2, 1, 0, 0, []), 1), ((0, 0, 0, 1, []), 1), ((23, 20, 1, 1, [(0, 1)]), 3), ((27, 1, 0, 0, []), 1)] 0 _ _ _ (by decide +kernel) ?_
  obtain ⟨⟨vq1, σq1⟩, hq1, h⟩ := px_bind h
  dsimp only at h
  refine Exists.intro 0 (Exists.intro vq1 (Exists.intro σq1 (And.intro (Nat.le_of_ble_eq_true rfl) (And.intro (ok_Tape_sign_1 hq1) ?_))))
  obtain ⟨⟨vq2, σq2⟩, hq2, h⟩ := px_bind h
  dsimp only at h
  refine Exists.intro 0 (Exists.intro vq2 (Exists.intro σq2 (And.intro (Nat.le_of_ble_eq_true rfl) (And.intro (ok_Prog_kindOf hq2) ?_))))
  rcases px_ite h with ⟨c3, h⟩ | ⟨c3, h⟩
  · refine And.intro (fun hp => absurd c3 hp) (fun _ => ?_)
    obtain ⟨⟨vq24, σq24⟩, hq24, h⟩ := px_bind h
    dsimp only at h
    refine Exists.intro 0 (Exists.intro vq24 (Exists.intro σq24 (And.intro (Nat.le_of_ble_eq_true rfl) (And.intro (ok_Tape_fail_1 hq24) ?_))))
    obtain ⟨g25, h⟩ := px_gd h
    refine And.intro g25 ?_
    exact Prod.mk.inj (Option.some.inj h)
  · refine And.intro (fun _ => ?_) (fun hn => absurd c3 hn)
    refine H [((1, 2, 0, 0, []), 1), ((0, 0, 0, 20, []), 2), ((13, 2, 35, 0, []), 3), ((2, 1, 0, 0, []), 1), ((0, 0, 0, 4, []), 1), ((23, 20, 1, 1, [(0, 1)]), 3), ((27, 1, 0, 0, []), 1)] 23 _ _ _ (by decide +kernel) ?_
    rcases px_ite h with ⟨c4, h⟩ | ⟨c4, h⟩
    · refine And.intro (fun _ => ?_) (fun hn => absurd c4 hn)
      refine H [((2, 1, 0, 0, []), 1), ((23, 21, 0, 0, [(0, 1)]), 3), ((2, 0, 0, 0, []), 1), ((17, 45, 47, 0, []), 3), ((1, 2, 0, 0, []), 1), ((1, 3, 0, 0, []), 1), ((20, 47, 20, 0, []), 1), ((2, 0, 0, 0, []), 1), ((17, 45, 46, 0, []), 3), ((1, 2, 0, 0, []), 1), ((1, 4, 0, 0, []), 2), ((20, 46, 20, 0, []), 1), ((2, 0, 0, 0, []), 1), ((17, 45, 48, 0, []), 3), ((1, 2, 0, 0, []), 1), ((0, 0, 0, 0, []), 1), ((20, 48, 20, 0, []), 1), ((2, 0, 0, 0, []), 1), ((17, 45, 50, 0, []), 3), ((1, 2, 0, 0, []), 1), ((0, 0, 0, (-1), []), 1), ((20, 50, 20, 0, []), 1), ((2, 0, 0, 0, []), 1), ((17, 45, 51, 0, []), 3), ((1, 2, 0, 0, []), 1), ((0, 0, 0, (-1), []), 1), ((20, 51, 20, 0, []), 1), ((2, 0, 0, 0, []), 1), ((17, 45, 52, 0, []), 3), ((1, 2, 0, 0, []), 1), ((0, 0, 0, 0, []), 1), ((20, 52, 20, 0, []), 1), ((1, 4, 0, 0, []), 2), ((14, 1, 111, 0, []), 3), ((2, 0, 0, 0, []), 1), ((2, 1, 0, 0, []), 1), ((1, 2, 0, 0, []), 1), ((23, 44, 2, 1, [(0, 45)]), 3), ((14, 0, 109, 0, []), 3), ((2, 0, 0, 0, []), 1), ((2, 1, 0, 0, []), 1), ((1, 2, 0, 0, []), 1), ((23, 46, 2, 1, [(0, 45)]), 3), ((14, 0, 109, 0, []), 3), ((0, 0, 0, 1, []), 1), ((12, 0, 110, 0, []), 3), ((27, 1, 0, 0, []), 1)] 35 _ _ _ (by decide +kernel) ?_
      obtain ⟨⟨vq5, σq5⟩, hq5, h⟩ := px_bind h
      dsimp only at h
      refine Exists.intro 0 (Exists.intro vq5 (Exists.intro σq5 (And.intro (Nat.le_of_ble_eq_true rfl) (And.intro (ok_Tape_step_1 hq5) ?_))))
      obtain ⟨g6, h⟩ := px_gd h
      refine And.intro g6 ?_
      obtain ⟨g7, h⟩ := px_gd h
      refine And.intro g7 ?_
      obtain ⟨g8, h⟩ := px_gd h
      refine And.intro g8 ?_
      obtain ⟨g9, h⟩ := px_gd h
      refine And.intro g9 ?_
      obtain ⟨g10, h⟩ := px_gd h
      refine And.intro g10 ?_
      obtain ⟨g11, h⟩ := px_gd h
      refine And.intro g11 ?_
      rcases px_ite h with ⟨c12, h⟩ | ⟨c12, h⟩
      · refine And.intro (fun hp => absurd c12 hp) (fun _ => ?_)
        obtain ⟨⟨vq18, σq18⟩, hq18, h⟩ := px_bind h
        dsimp only at h
        refine Exists.intro 2 (Exists.intro vq18 (Exists.intro σq18 (And.intro (Nat.le_of_ble_eq_true rfl) (And.intro (ok_Prog_readGiven_45_1 hq18) ?_))))
        rcases px_ite h with ⟨c19, h⟩ | ⟨c19, h⟩
        · refine And.intro (fun _ => ?_) (fun hn => absurd c19 hn)
          refine H [((0, 0, 0, 0, []), 1), ((27, 1, 0, 0, []), 1)] 109 _ _ _ (by decide +kernel) ?_
          refine And.intro (show (0 : Int) ≤ 0 ∧ (0 : Int) ≤ 1 from by decide) ?_
          exact Prod.mk.inj (Option.some.inj h)
        · refine And.intro (fun hp => absurd hp c19) (fun _ => ?_)
          obtain ⟨⟨vq20, σq20⟩, hq20, h⟩ := px_bind h
          dsimp only at h
          refine Exists.intro 3 (Exists.intro vq20 (Exists.intro σq20 (And.intro (Nat.le_of_ble_eq_true rfl) (And.intro (ok_Prog_readNumber_45_1 hq20) ?_))))
          rcases px_ite h with ⟨c21, h⟩ | ⟨c21, h⟩
          · refine And.intro (fun _ => ?_) (fun hn => absurd c21 hn)
            refine H [((0, 0, 0, 0, []), 1), ((27, 1, 0, 0, []), 1)] 109 _ _ _ (by decide +kernel) ?_
            refine And.intro (show (0 : Int) ≤ 0 ∧ (0 : Int) ≤ 1 from by decide) ?_
            exact Prod.mk.inj (Option.some.inj h)
          · refine And.intro (fun hp => absurd hp c21) (fun _ => ?_)
            refine And.intro (show (0 : Int) ≤ 1 ∧ (1 : Int) ≤ 1 from by decide) ?_
            exact Prod.mk.inj (Option.some.inj h)
      · refine And.intro (fun _ => ?_) (fun hn => absurd c12 hn)
        refine H [((1, 4, 0, 0, []), 2), ((0, 0, 0, 1, []), 1), ((13, 1, 126, 0, []), 3), ((2, 0, 0, 0, []), 1), ((2, 1, 0, 0, []), 1), ((1, 2, 0, 0, []), 1), ((23, 47, 2, 1, [(0, 45)]), 3), ((12, 0, 132, 0, []), 3), ((27, 1, 0, 0, []), 1)] 111 _ _ _ (by decide +kernel) ?_
        rcases px_ite h with ⟨c13, h⟩ | ⟨c13, h⟩
        · refine And.intro (fun hp => absurd c13 hp) (fun _ => ?_)
          obtain ⟨⟨vq16, σq16⟩, hq16, h⟩ := px_bind h
          dsimp only at h
          refine Exists.intro 3 (Exists.intro vq16 (Exists.intro σq16 (And.intro (Nat.le_of_ble_eq_true rfl) (And.intro (ok_Prog_readReckoning_45_1 hq16) ?_))))
          obtain ⟨g17, h⟩ := px_gd h
          refine And.intro g17 ?_
          exact Prod.mk.inj (Option.some.inj h)
        · refine And.intro (fun _ => ?_) (fun hn => absurd c13 hn)
          refine H [((2, 0, 0, 0, []), 1), ((2, 1, 0, 0, []), 1), ((1, 2, 0, 0, []), 1), ((23, 48, 2, 1, [(0, 45)]), 3), ((27, 1, 0, 0, []), 1)] 126 _ _ _ (by decide +kernel) ?_
          obtain ⟨⟨vq14, σq14⟩, hq14, h⟩ := px_bind h
          dsimp only at h
          refine Exists.intro 4 (Exists.intro vq14 (Exists.intro σq14 (And.intro (Nat.le_of_ble_eq_true rfl) (And.intro (ok_Prog_readMove_45_1 hq14) ?_))))
          obtain ⟨g15, h⟩ := px_gd h
          refine And.intro g15 ?_
          exact Prod.mk.inj (Option.some.inj h)
    · refine And.intro (fun hp => absurd hp c4) (fun _ => ?_)
      obtain ⟨⟨vq22, σq22⟩, hq22, h⟩ := px_bind h
      dsimp only at h
      refine Exists.intro 0 (Exists.intro vq22 (Exists.intro σq22 (And.intro (Nat.le_of_ble_eq_true rfl) (And.intro (ok_Tape_fail_1 hq22) ?_))))
      obtain ⟨g23, h⟩ := px_gd h
      refine And.intro g23 ?_
      exact Prod.mk.inj (Option.some.inj h)
theorem ok_Prog_readOp_45_1 {l : Launch} {a2 : Int} {σ : pS} {v : Int} {σ1 : pS} (h : f_Prog_readOp_45_1 a2 σ = some (v, σ1)) : Con l 5 42 [.inr 45, .inr 1, .inl a2] σ v σ1 := Con_mk 3 5 rfl (by decide +kernel) (fun _ H => ok_Prog_readOp_45_1_w H _ _ h)
theorem ok_Tape_ended_1_w {l : Launch} {rv : Int} {rσ : pS} {G : Nat → pL → List pV → pS → Prop} (H : px_R l 0 37 rv rσ G) : ∀ (σ : pS), f_Tape_ended_1  σ = some (rv, rσ) → G 0 [some (.inr 1)] [] σ := by
  intro  σ h
  unfold f_Tape_ended_1 at h
  refine H [((2, 0, 0, 0, []), 1), ((16, 1, 3, 0, []), 3), ((2, 0, 0, 0, []), 1), ((16, 1, 2, 0, []), 3), ((13, 2, 15, 0, []), 3), ((0, 0, 0, 1, []), 1), ((12, 0, 16, 0, []), 3), ((27, 1, 0, 0, []), 1)] 0 _ _ _ (by decide +kernel) ?_
  rcases px_ite h with ⟨c1, h⟩ | ⟨c1, h⟩
  · refine And.intro (fun _ => ?_) (fun hn => absurd c1 hn)
    refine H [((0, 0, 0, 0, []), 1), ((27, 1, 0, 0, []), 1)] 15 _ _ _ (by decide +kernel) ?_
    refine And.intro (show (0 : Int) ≤ 0 ∧ (0 : Int) ≤ 1 from by decide) ?_
    exact Prod.mk.inj (Option.some.inj h)
  · refine And.intro (fun hp => absurd hp c1) (fun _ => ?_)
    refine And.intro (show (0 : Int) ≤ 1 ∧ (1 : Int) ≤ 1 from by decide) ?_
    exact Prod.mk.inj (Option.some.inj h)
theorem ok_Tape_ended_1 {l : Launch} {σ : pS} {v : Int} {σ1 : pS} (h : f_Tape_ended_1  σ = some (v, σ1)) : Con l 0 37 [.inr 1] σ v σ1 := Con_mk 1 1 rfl (by decide +kernel) (fun _ H => ok_Tape_ended_1_w H  _ h)
theorem ok_Arrays_fill_55_p5 {l : Launch} {rv : Int} {rσ : pS} {G : Nat → pL → List pV → pS → Prop} (H : px_R l 0 6 rv rσ G) : ∀ (n : Nat) (a1 a2 a3 : Int) (σ : pS), f_Arrays_fill_55_p5 n a1 a2 a3 σ = some (rv, rσ) → G 5 [some (.inr 55), some (.inl a1), some (.inl a2), some (.inl a3)] [] σ := by
  intro n
  induction n with
  | zero =>
    intro a1 a2 a3 σ h
    unfold f_Arrays_fill_55_p5 at h
    cases h
  | succ n ih =>
    intro a1 a2 a3 σ h
    unfold f_Arrays_fill_55_p5 at h
    refine H [((1, 2, 0, 0, []), 1), ((1, 3, 0, 0, []), 1), ((13, 3, 20, 0, []), 3), ((2, 0, 0, 0, []), 1), ((1, 2, 0, 0, []), 1), ((1, 1, 0, 0, []), 1), ((20, 55, 8, 0, []), 1), ((5, 2, 0, 1, []), 3), ((12, 0, 5, 0, []), 3)] 5 _ _ _ (by decide +kernel) ?_
    rcases px_ite h with ⟨c1, h⟩ | ⟨c1, h⟩
    · refine And.intro (fun _ => ?_) (fun hn => absurd c1 hn)
      refine H [((28, 0, 0, 0, []), 1)] 20 _ _ _ (by decide +kernel) ?_
      exact (Prod.mk.inj (Option.some.inj h)).2
    · refine And.intro (fun hp => absurd hp c1) (fun _ => ?_)
      obtain ⟨g2, h⟩ := px_gd h
      refine And.intro g2 ?_
      exact ih _ _ _ _ h
theorem ok_Arrays_fill_55_w {l : Launch} {rv : Int} {rσ : pS} {G : Nat → pL → List pV → pS → Prop} (H : px_R l 0 6 rv rσ G) : ∀ (a1 : Int) (σ : pS), f_Arrays_fill_55 a1 σ = some (rv, rσ) → G 0 [some (.inr 55), some (.inl a1), none, none] [] σ := by
  intro a1 σ h
  unfold f_Arrays_fill_55 at h
  refine H [((0, 0, 0, 0, []), 1), ((3, 2, 0, 0, []), 1), ((2, 0, 0, 0, []), 1), ((21, 55, 8, 0, []), 1), ((3, 3, 0, 0, []), 1)] 0 _ _ _ (by decide +kernel) ?_
  exact ok_Arrays_fill_55_p5 H _ _ _ _ _ h
theorem ok_Arrays_fill_55 {l : Launch} {a1 : Int} {σ : pS} {v : Int} {σ1 : pS} (h : f_Arrays_fill_55 a1 σ = some (v, σ1)) : Con l 0 6 [.inr 55, .inl a1] σ v σ1 := Con_mk 2 4 rfl (by decide +kernel) (fun _ H => ok_Arrays_fill_55_w H _ _ h)
theorem ok_X_isCell_w {l : Launch} {rv : Int} {rσ : pS} {G : Nat → pL → List pV → pS → Prop} (H : px_R l 0 52 rv rσ G) : ∀ (a0 : Int) (σ : pS), f_X_isCell a0 σ = some (rv, rσ) → G 0 [some (.inl a0)] [] σ := by
  intro a0 σ h
  unfold f_X_isCell at h
  refine H [((1, 0, 0, 0, []), 1), ((14, 2, 14, 0, []), 3), ((1, 0, 0, 0, []), 1), ((0, 0, 0, 8, []), 2), ((13, 3, 14, 0, []), 3), ((0, 0, 0, 1, []), 1), ((12, 0, 15, 0, []), 3), ((27, 1, 0, 0, []), 1)] 0 _ _ _ (by decide +kernel) ?_
  rcases px_ite h with ⟨c1, h⟩ | ⟨c1, h⟩
  · refine And.intro (fun _ => ?_) (fun hn => absurd c1 hn)
    refine H [((0, 0, 0, 0, []), 1), ((27, 1, 0, 0, []), 1)] 14 _ _ _ (by decide +kernel) ?_
    refine And.intro (show (0 : Int) ≤ 0 ∧ (0 : Int) ≤ 1 from by decide) ?_
    exact Prod.mk.inj (Option.some.inj h)
  · refine And.intro (fun hp => absurd hp c1) (fun _ => ?_)
    rcases px_ite h with ⟨c2, h⟩ | ⟨c2, h⟩
    · refine And.intro (fun _ => ?_) (fun hn => absurd c2 hn)
      refine H [((0, 0, 0, 0, []), 1), ((27, 1, 0, 0, []), 1)] 14 _ _ _ (by decide +kernel) ?_
      refine And.intro (show (0 : Int) ≤ 0 ∧ (0 : Int) ≤ 1 from by decide) ?_
      exact Prod.mk.inj (Option.some.inj h)
    · refine And.intro (fun hp => absurd hp c2) (fun _ => ?_)
      refine And.intro (show (0 : Int) ≤ 1 ∧ (1 : Int) ≤ 1 from by decide) ?_
      exact Prod.mk.inj (Option.some.inj h)
theorem ok_X_isCell {l : Launch} {a0 : Int} {σ : pS} {v : Int} {σ1 : pS} (h : f_X_isCell a0 σ = some (v, σ1)) : Con l 0 52 [.inl a0] σ v σ1 := Con_mk 1 1 rfl (by decide +kernel) (fun _ H => ok_X_isCell_w H _ _ h)
theorem ok_Prog_giverOfRegister_45_w {l : Launch} {rv : Int} {rσ : pS} {G : Nat → pL → List pV → pS → Prop} (H : px_R l 1 51 rv rσ G) : ∀ (a1 : Int) (σ : pS), f_Prog_giverOfRegister_45 a1 σ = some (rv, rσ) → G 0 [some (.inr 45), some (.inl a1)] [] σ := by
  intro a1 σ h
  unfold f_Prog_giverOfRegister_45 at h
  refine H [((1, 1, 0, 0, []), 1), ((24, 52, 1, 1, []), 3), ((14, 0, 16, 0, []), 3), ((2, 0, 0, 0, []), 1), ((17, 45, 55, 0, []), 3), ((1, 1, 0, 0, []), 1), ((19, 55, 8, 0, []), 1), ((12, 0, 17, 0, []), 3), ((27, 0, 0, 0, []), 1)] 0 _ _ _ (by decide +kernel) ?_
  obtain ⟨⟨vq1, σq1⟩, hq1, h⟩ := px_bind h
  dsimp only at h
  refine Exists.intro 0 (Exists.intro vq1 (Exists.intro σq1 (And.intro (Nat.le_of_ble_eq_true rfl) (And.intro (ok_X_isCell hq1) ?_))))
  rcases px_ite h with ⟨c2, h⟩ | ⟨c2, h⟩
  · refine And.intro (fun _ => ?_) (fun hn => absurd c2 hn)
    refine H [((0, 0, 0, (-1), []), 1), ((27, 0, 0, 0, []), 1)] 16 _ _ _ (by decide +kernel) ?_
    exact Prod.mk.inj (Option.some.inj h)
  · refine And.intro (fun hp => absurd hp c2) (fun _ => ?_)
    obtain ⟨g3, h⟩ := px_gd h
    refine And.intro g3 ?_
    exact Prod.mk.inj (Option.some.inj h)
theorem ok_Prog_giverOfRegister_45 {l : Launch} {a1 : Int} {σ : pS} {v : Int} {σ1 : pS} (h : f_Prog_giverOfRegister_45 a1 σ = some (v, σ1)) : Con l 1 51 [.inr 45, .inl a1] σ v σ1 := Con_mk 2 2 rfl (by decide +kernel) (fun _ H => ok_Prog_giverOfRegister_45_w H _ _ h)
theorem ok_Prog_depthOf_45_w {l : Launch} {rv : Int} {rσ : pS} {G : Nat → pL → List pV → pS → Prop} (H : px_R l 0 53 rv rσ G) : ∀ (a1 : Int) (σ : pS), f_Prog_depthOf_45 a1 σ = some (rv, rσ) → G 0 [some (.inr 45), some (.inl a1)] [] σ := by
  intro a1 σ h
  unfold f_Prog_depthOf_45 at h
  refine H [((1, 1, 0, 0, []), 1), ((14, 2, 19, 0, []), 3), ((1, 1, 0, 0, []), 1), ((0, 0, 0, 20, []), 2), ((13, 3, 19, 0, []), 3), ((2, 0, 0, 0, []), 1), ((17, 45, 56, 0, []), 3), ((1, 1, 0, 0, []), 1), ((19, 56, 20, 0, []), 1), ((12, 0, 20, 0, []), 3), ((27, 0, 0, 0, []), 1)] 0 _ _ _ (by decide +kernel) ?_
  rcases px_ite h with ⟨c1, h⟩ | ⟨c1, h⟩
  · refine And.intro (fun _ => ?_) (fun hn => absurd c1 hn)
    refine H [((0, 0, 0, 0, []), 1), ((27, 0, 0, 0, []), 1)] 19 _ _ _ (by decide +kernel) ?_
    exact Prod.mk.inj (Option.some.inj h)
  · refine And.intro (fun hp => absurd hp c1) (fun _ => ?_)
    rcases px_ite h with ⟨c2, h⟩ | ⟨c2, h⟩
    · refine And.intro (fun _ => ?_) (fun hn => absurd c2 hn)
      refine H [((0, 0, 0, 0, []), 1), ((27, 0, 0, 0, []), 1)] 19 _ _ _ (by decide +kernel) ?_
      exact Prod.mk.inj (Option.some.inj h)
    · refine And.intro (fun hp => absurd hp c2) (fun _ => ?_)
      obtain ⟨g3, h⟩ := px_gd h
      refine And.intro g3 ?_
      exact Prod.mk.inj (Option.some.inj h)
theorem ok_Prog_depthOf_45 {l : Launch} {a1 : Int} {σ : pS} {v : Int} {σ1 : pS} (h : f_Prog_depthOf_45 a1 σ = some (v, σ1)) : Con l 0 53 [.inr 45, .inl a1] σ v σ1 := Con_mk 2 2 rfl (by decide +kernel) (fun _ H => ok_Prog_depthOf_45_w H _ _ h)
theorem ok_Prog_findSources_45_p15 {l : Launch} {rv : Int} {rσ : pS} {G : Nat → pL → List pV → pS → Prop} (H : px_R l 2 50 rv rσ G) : ∀ (n : Nat) (a1 : Int) (σ : pS), f_Prog_findSources_45_p15 n a1 σ = some (rv, rσ) → G 15 [some (.inr 45), some (.inl a1)] [] σ := by
  intro n
  induction n with
  | zero =>
    intro a1 σ h
    unfold f_Prog_findSources_45_p15 at h
    cases h
  | succ n ih =>
    intro a1 σ h
    unfold f_Prog_findSources_45_p15 at h
    refine H [((1, 1, 0, 0, []), 1), ((2, 0, 0, 0, []), 1), ((16, 45, 11, 0, []), 3), ((13, 3, 139, 0, []), 3), ((1, 1, 0, 0, []), 1), ((0, 0, 0, 20, []), 2), ((13, 3, 139, 0, []), 3), ((2, 0, 0, 0, []), 1), ((17, 45, 53, 0, []), 3), ((1, 1, 0, 0, []), 1), ((2, 0, 0, 0, []), 1), ((2, 0, 0, 0, []), 1), ((17, 45, 50, 0, []), 3), ((1, 1, 0, 0, []), 1), ((19, 50, 20, 0, []), 1), ((23, 51, 1, 1, [(0, 45)]), 3), ((20, 53, 20, 0, []), 1), ((2, 0, 0, 0, []), 1), ((17, 45, 54, 0, []), 3), ((1, 1, 0, 0, []), 1), ((2, 0, 0, 0, []), 1), ((2, 0, 0, 0, []), 1), ((17, 45, 51, 0, []), 3), ((1, 1, 0, 0, []), 1), ((19, 51, 20, 0, []), 1), ((23, 51, 1, 1, [(0, 45)]), 3), ((20, 54, 20, 0, []), 1), ((2, 0, 0, 0, []), 1), ((17, 45, 56, 0, []), 3), ((1, 1, 0, 0, []), 1), ((0, 0, 0, 1, []), 1), ((2, 0, 0, 0, []), 1), ((2, 0, 0, 0, []), 1), ((17, 45, 53, 0, []), 3), ((1, 1, 0, 0, []), 1), ((19, 53, 20, 0, []), 1), ((23, 53, 1, 1, [(0, 45)]), 3), ((2, 0, 0, 0, []), 1), ((2, 0, 0, 0, []), 1), ((17, 45, 54, 0, []), 3), ((1, 1, 0, 0, []), 1), ((19, 54, 20, 0, []), 1), ((23, 53, 1, 1, [(0, 45)]), 3), ((25, 1, 0, 0, []), 3), ((6, 0, 0, 0, []), 1), ((20, 56, 20, 0, []), 1), ((2, 0, 0, 0, []), 1), ((2, 0, 0, 0, []), 1), ((16, 45, 12, 0, []), 3), ((2, 0, 0, 0, []), 1), ((17, 45, 56, 0, []), 3), ((1, 1, 0, 0, []), 1), ((19, 56, 20, 0, []), 1), ((25, 1, 0, 0, []), 3), ((18, 45, 12, 0, []), 3), ((2, 0, 0, 0, []), 1), ((17, 45, 49, 0, []), 3), ((1, 1, 0, 0, []), 1), ((19, 49, 20, 0, []), 1), ((24, 52, 1, 1, []), 3), ((14, 0, 133, 0, []), 3), ((2, 0, 0, 0, []), 1), ((17, 45, 55, 0, []), 3), ((2, 0, 0, 0, []), 1), ((17, 45, 49, 0, []), 3), ((1, 1, 0, 0, []), 1), ((19, 49, 20, 0, []), 1), ((1, 1, 0, 0, []), 1), ((20, 55, 8, 0, []), 1), ((5, 1, 0, 1, []), 3), ((12, 0, 15, 0, []), 3)] 15 _ _ _ (by decide +kernel) ?_
    rcases px_ite h with ⟨c2, h⟩ | ⟨c2, h⟩
    · refine And.intro (fun _ => ?_) (fun hn => absurd c2 hn)
      refine H [((28, 0, 0, 0, []), 1)] 139 _ _ _ (by decide +kernel) ?_
      exact (Prod.mk.inj (Option.some.inj h)).2
    · refine And.intro (fun hp => absurd hp c2) (fun _ => ?_)
      rcases px_ite h with ⟨c3, h⟩ | ⟨c3, h⟩
      · refine And.intro (fun _ => ?_) (fun hn => absurd c3 hn)
        refine H [((28, 0, 0, 0, []), 1)] 139 _ _ _ (by decide +kernel) ?_
        exact (Prod.mk.inj (Option.some.inj h)).2
      · refine And.intro (fun hp => absurd hp c3) (fun _ => ?_)
        obtain ⟨g4, h⟩ := px_gd h
        refine And.intro g4 ?_
        obtain ⟨⟨vq5, σq5⟩, hq5, h⟩ := px_bind h
        dsimp only at h
        refine Exists.intro 1 (Exists.intro vq5 (Exists.intro σq5 (And.intro (Nat.le_of_ble_eq_true rfl) (And.intro (ok_Prog_giverOfRegister_45 hq5) ?_))))
        obtain ⟨g6, h⟩ := px_gd h
        refine And.intro g6 ?_
        obtain ⟨g7, h⟩ := px_gd h
        refine And.intro g7 ?_
        obtain ⟨⟨vq8, σq8⟩, hq8, h⟩ := px_bind h
        dsimp only at h
        refine Exists.intro 1 (Exists.intro vq8 (Exists.intro σq8 (And.intro (Nat.le_of_ble_eq_true rfl) (And.intro (ok_Prog_giverOfRegister_45 hq8) ?_))))
        obtain ⟨g9, h⟩ := px_gd h
        refine And.intro g9 ?_
        obtain ⟨g10, h⟩ := px_gd h
        refine And.intro g10 ?_
        obtain ⟨⟨vq11, σq11⟩, hq11, h⟩ := px_bind h
        dsimp only at h
        refine Exists.intro 0 (Exists.intro vq11 (Exists.intro σq11 (And.intro (Nat.le_of_ble_eq_true rfl) (And.intro (ok_Prog_depthOf_45 hq11) ?_))))
        obtain ⟨g12, h⟩ := px_gd h
        refine And.intro g12 ?_
        obtain ⟨⟨vq13, σq13⟩, hq13, h⟩ := px_bind h
        dsimp only at h
        refine Exists.intro 0 (Exists.intro vq13 (Exists.intro σq13 (And.intro (Nat.le_of_ble_eq_true rfl) (And.intro (ok_Prog_depthOf_45 hq13) ?_))))
        obtain ⟨g14, h⟩ := px_gd h
        refine And.intro g14 ?_
        obtain ⟨g15, h⟩ := px_gd h
        refine And.intro g15 ?_
        obtain ⟨g16, h⟩ := px_gd h
        refine And.intro g16 ?_
        obtain ⟨⟨vq17, σq17⟩, hq17, h⟩ := px_bind h
        dsimp only at h
        refine Exists.intro 0 (Exists.intro vq17 (Exists.intro σq17 (And.intro (Nat.le_of_ble_eq_true rfl) (And.intro (ok_X_isCell hq17) ?_))))
        rcases px_ite h with ⟨c18, h⟩ | ⟨c18, h⟩
        · refine And.intro (fun _ => ?_) (fun hn => absurd c18 hn)
          refine H [((5, 1, 0, 1, []), 3), ((12, 0, 15, 0, []), 3)] 133 _ _ _ (by decide +kernel) ?_
          exact ih _ _ h
        · refine And.intro (fun hp => absurd hp c18) (fun _ => ?_)
          obtain ⟨g19, h⟩ := px_gd h
          refine And.intro g19 ?_
          obtain ⟨g20, h⟩ := px_gd h
          refine And.intro g20 ?_
          exact ih _ _ h
theorem ok_Prog_findSources_45_w {l : Launch} {rv : Int} {rσ : pS} {G : Nat → pL → List pV → pS → Prop} (H : px_R l 2 50 rv rσ G) : ∀ (σ : pS), f_Prog_findSources_45  σ = some (rv, rσ) → G 0 [some (.inr 45), none] [] σ := by
  intro  σ h
  unfold f_Prog_findSources_45 at h
  refine H [((2, 0, 0, 0, []), 1), ((17, 45, 55, 0, []), 3), ((0, 0, 0, (-1), []), 1), ((24, 6, 2, 0, []), 3), ((2, 0, 0, 0, []), 1), ((0, 0, 0, 0, []), 1), ((18, 45, 12, 0, []), 3), ((0, 0, 0, 0, []), 1), ((3, 1, 0, 0, []), 1)] 0 _ _ _ (by decide +kernel) ?_
  obtain ⟨⟨vq1, σq1⟩, hq1, h⟩ := px_bind h
  dsimp only at h
  refine Exists.intro 0 (Exists.intro vq1 (Exists.intro σq1 (And.intro (Nat.le_of_ble_eq_true rfl) (And.intro (ok_Arrays_fill_55 hq1) ?_))))
  exact ok_Prog_findSources_45_p15 H _ _ _ h
theorem ok_Prog_findSources_45 {l : Launch} {σ : pS} {v : Int} {σ1 : pS} (h : f_Prog_findSources_45  σ = some (v, σ1)) : Con l 2 50 [.inr 45] σ v σ1 := Con_mk 1 2 rfl (by decide +kernel) (fun _ H => ok_Prog_findSources_45_w H  _ h)
theorem ok_Prog_readFrom_45_1_p2 {l : Launch} {rv : Int} {rσ : pS} {G : Nat → pL → List pV → pS → Prop} (H : px_R l 6 41 rv rσ G) : ∀ (n : Nat) (a2 : Int) (σ : pS), f_Prog_readFrom_45_1_p2 n a2 σ = some (rv, rσ) → G 2 [some (.inr 45), some (.inr 1), some (.inl a2)] [] σ := by
  intro n
  induction n with
  | zero =>
    intro a2 σ h
    unfold f_Prog_readFrom_45_1_p2 at h
    cases h
  | succ n ih =>
    intro a2 σ h
    unfold f_Prog_readFrom_45_1_p2 at h
    refine H [((1, 2, 0, 0, []), 1), ((0, 0, 0, 20, []), 2), ((13, 4, 65, 0, []), 3), ((2, 0, 0, 0, []), 1), ((2, 1, 0, 0, []), 1), ((1, 2, 0, 0, []), 1), ((23, 42, 2, 1, [(0, 45)]), 3), ((14, 1, 22, 0, []), 3), ((2, 1, 0, 0, []), 1), ((23, 36, 0, 1, [(0, 1)]), 3), ((27, 0, 0, 0, []), 1)] 2 _ _ _ (by decide +kernel) ?_
    rcases px_ite h with ⟨c1, h⟩ | ⟨c1, h⟩
    · refine And.intro (fun _ => ?_) (fun hn => absurd c1 hn)
      refine H [((2, 1, 0, 0, []), 1), ((23, 36, 0, 1, [(0, 1)]), 3), ((27, 0, 0, 0, []), 1)] 65 _ _ _ (by decide +kernel) ?_
      obtain ⟨⟨vq2, σq2⟩, hq2, h⟩ := px_bind h
      dsimp only at h
      refine Exists.intro 0 (Exists.intro vq2 (Exists.intro σq2 (And.intro (Nat.le_of_ble_eq_true rfl) (And.intro (ok_Tape_fault_1 hq2) ?_))))
      exact Prod.mk.inj (Option.some.inj h)
    · refine And.intro (fun hp => absurd hp c1) (fun _ => ?_)
      obtain ⟨⟨vq3, σq3⟩, hq3, h⟩ := px_bind h
      dsimp only at h
      refine Exists.intro 5 (Exists.intro vq3 (Exists.intro σq3 (And.intro (Nat.le_of_ble_eq_true rfl) (And.intro (ok_Prog_readOp_45_1 hq3) ?_))))
      rcases px_ite h with ⟨c4, h⟩ | ⟨c4, h⟩
      · refine And.intro (fun hp => absurd c4 hp) (fun _ => ?_)
        obtain ⟨⟨vq11, σq11⟩, hq11, h⟩ := px_bind h
        dsimp only at h
        refine Exists.intro 0 (Exists.intro vq11 (Exists.intro σq11 (And.intro (Nat.le_of_ble_eq_true rfl) (And.intro (ok_Tape_fault_1 hq11) ?_))))
        exact Prod.mk.inj (Option.some.inj h)
      · refine And.intro (fun _ => ?_) (fun hn => absurd c4 hn)
        refine H [((2, 1, 0, 0, []), 1), ((23, 37, 0, 1, [(0, 1)]), 3), ((14, 0, 45, 0, []), 3), ((2, 0, 0, 0, []), 1), ((1, 2, 0, 0, []), 1), ((0, 0, 0, 1, []), 1), ((6, 0, 0, 0, []), 1), ((18, 45, 11, 0, []), 3), ((2, 0, 0, 0, []), 1), ((23, 50, 0, 0, [(0, 45)]), 3), ((2, 0, 0, 0, []), 1), ((16, 45, 11, 0, []), 3), ((27, 0, 0, 0, []), 1)] 22 _ _ _ (by decide +kernel) ?_
        obtain ⟨⟨vq5, σq5⟩, hq5, h⟩ := px_bind h
        dsimp only at h
        refine Exists.intro 0 (Exists.intro vq5 (Exists.intro σq5 (And.intro (Nat.le_of_ble_eq_true rfl) (And.intro (ok_Tape_ended_1 hq5) ?_))))
        rcases px_ite h with ⟨c6, h⟩ | ⟨c6, h⟩
        · refine And.intro (fun _ => ?_) (fun hn => absurd c6 hn)
          refine H [((2, 1, 0, 0, []), 1), ((0, 0, 0, 59, []), 2), ((23, 26, 1, 1, [(0, 1)]), 3), ((14, 1, 59, 0, []), 3), ((2, 1, 0, 0, []), 1), ((23, 36, 0, 1, [(0, 1)]), 3), ((27, 0, 0, 0, []), 1)] 45 _ _ _ (by decide +kernel) ?_
          obtain ⟨⟨vq7, σq7⟩, hq7, h⟩ := px_bind h
          dsimp only at h
          refine Exists.intro 1 (Exists.intro vq7 (Exists.intro σq7 (And.intro (Nat.le_of_ble_eq_true rfl) (And.intro (ok_Tape_accept_1 hq7) ?_))))
          rcases px_ite h with ⟨c8, h⟩ | ⟨c8, h⟩
          · refine And.intro (fun hp => absurd c8 hp) (fun _ => ?_)
            obtain ⟨⟨vq9, σq9⟩, hq9, h⟩ := px_bind h
            dsimp only at h
            refine Exists.intro 0 (Exists.intro vq9 (Exists.intro σq9 (And.intro (Nat.le_of_ble_eq_true rfl) (And.intro (ok_Tape_fault_1 hq9) ?_))))
            exact Prod.mk.inj (Option.some.inj h)
          · refine And.intro (fun _ => ?_) (fun hn => absurd c8 hn)
            refine H [((5, 2, 0, 1, []), 3), ((12, 0, 2, 0, []), 3)] 59 _ _ _ (by decide +kernel) ?_
            exact ih _ _ h
        · refine And.intro (fun hp => absurd hp c6) (fun _ => ?_)
          obtain ⟨⟨vq10, σq10⟩, hq10, h⟩ := px_bind h
          dsimp only at h
          refine Exists.intro 2 (Exists.intro vq10 (Exists.intro σq10 (And.intro (Nat.le_of_ble_eq_true rfl) (And.intro (ok_Prog_findSources_45 hq10) ?_))))
          exact Prod.mk.inj (Option.some.inj h)
theorem ok_Prog_readFrom_45_1_w {l : Launch} {rv : Int} {rσ : pS} {G : Nat → pL → List pV → pS → Prop} (H : px_R l 6 41 rv rσ G) : ∀ (σ : pS), f_Prog_readFrom_45_1  σ = some (rv, rσ) → G 0 [some (.inr 45), some (.inr 1), none] [] σ := by
  intro  σ h
  unfold f_Prog_readFrom_45_1 at h
  refine H [((0, 0, 0, 0, []), 1), ((3, 2, 0, 0, []), 1)] 0 _ _ _ (by decide +kernel) ?_
  exact ok_Prog_readFrom_45_1_p2 H _ _ _ h
theorem ok_Prog_readFrom_45_1 {l : Launch} {σ : pS} {v : Int} {σ1 : pS} (h : f_Prog_readFrom_45_1  σ = some (v, σ1)) : Con l 6 41 [.inr 45, .inr 1] σ v σ1 := Con_mk 2 3 rfl (by decide +kernel) (fun _ H => ok_Prog_readFrom_45_1_w H  _ h)
theorem ok_Tape_clear_1_w {l : Launch} {rv : Int} {rσ : pS} {G : Nat → pL → List pV → pS → Prop} (H : px_R l 0 39 rv rσ G) : ∀ (σ : pS), f_Tape_clear_1  σ = some (rv, rσ) → G 0 [some (.inr 1)] [] σ := by
  intro  σ h
  unfold f_Tape_clear_1 at h
  refine H [((2, 0, 0, 0, []), 1), ((0, 0, 0, 0, []), 1), ((18, 1, 1, 0, []), 3), ((28, 0, 0, 0, []), 1)] 0 _ _ _ (by decide +kernel) ?_
  exact (Prod.mk.inj (Option.some.inj h)).2
theorem ok_Tape_clear_1 {l : Launch} {σ : pS} {v : Int} {σ1 : pS} (h : f_Tape_clear_1  σ = some (v, σ1)) : Con l 0 39 [.inr 1] σ v σ1 := Con_mk 1 1 rfl (by decide +kernel) (fun _ H => ok_Tape_clear_1_w H  _ h)
theorem ok_Prog_copyFrom_4_45_w {l : Launch} {rv : Int} {rσ : pS} {G : Nat → pL → List pV → pS → Prop} (H : px_R l 1 54 rv rσ G) : ∀ (σ : pS), f_Prog_copyFrom_4_45  σ = some (rv, rσ) → G 0 [some (.inr 4), some (.inr 45)] [] σ := by
  intro  σ h
  unfold f_Prog_copyFrom_4_45 at h
  refine H [((2, 1, 0, 0, []), 1), ((17, 45, 46, 0, []), 3), ((0, 0, 0, 0, []), 1), ((2, 0, 0, 0, []), 1), ((17, 4, 5, 0, []), 3), ((0, 0, 0, 0, []), 1), ((0, 0, 0, 20, []), 2), ((26, 46, 5, 20, []), 3), ((2, 1, 0, 0, []), 1), ((17, 45, 47, 0, []), 3), ((0, 0, 0, 0, []), 1), ((2, 0, 0, 0, []), 1), ((17, 4, 6, 0, []), 3), ((0, 0, 0, 0, []), 1), ((0, 0, 0, 20, []), 2), ((26, 47, 6, 20, []), 3), ((2, 1, 0, 0, []), 1), ((17, 45, 48, 0, []), 3), ((0, 0, 0, 0, []), 1), ((2, 0, 0, 0, []), 1), ((17, 4, 7, 0, []), 3), ((0, 0, 0, 0, []), 1), ((0, 0, 0, 20, []), 2), ((26, 48, 7, 20, []), 3), ((2, 1, 0, 0, []), 1), ((17, 45, 49, 0, []), 3), ((0, 0, 0, 0, []), 1), ((2, 0, 0, 0, []), 1), ((17, 4, 8, 0, []), 3), ((0, 0, 0, 0, []), 1), ((0, 0, 0, 20, []), 2), ((26, 49, 8, 20, []), 3), ((2, 1, 0, 0, []), 1), ((17, 45, 50, 0, []), 3), ((0, 0, 0, 0, []), 1), ((2, 0, 0, 0, []), 1), ((17, 4, 9, 0, []), 3), ((0, 0, 0, 0, []), 1), ((0, 0, 0, 20, []), 2), ((26, 50, 9, 20, []), 3), ((2, 1, 0, 0, []), 1), ((17, 45, 51, 0, []), 3), ((0, 0, 0, 0, []), 1), ((2, 0, 0, 0, []), 1), ((17, 4, 10, 0, []), 3), ((0, 0, 0, 0, []), 1), ((0, 0, 0, 20, []), 2), ((26, 51, 10, 20, []), 3), ((2, 1, 0, 0, []), 1), ((17, 45, 52, 0, []), 3), ((0, 0, 0, 0, []), 1), ((2, 0, 0, 0, []), 1), ((17, 4, 11, 0, []), 3), ((0, 0, 0, 0, []), 1), ((0, 0, 0, 20, []), 2), ((26, 52, 11, 20, []), 3), ((2, 1, 0, 0, []), 1), ((17, 45, 53, 0, []), 3), ((0, 0, 0, 0, []), 1), ((2, 0, 0, 0, []), 1), ((17, 4, 12, 0, []), 3), ((0, 0, 0, 0, []), 1), ((0, 0, 0, 20, []), 2), ((26, 53, 12, 20, []), 3), ((2, 1, 0, 0, []), 1), ((17, 45, 54, 0, []), 3), ((0, 0, 0, 0, []), 1), ((2, 0, 0, 0, []), 1), ((17, 4, 13, 0, []), 3), ((0, 0, 0, 0, []), 1), ((0, 0, 0, 20, []), 2), ((26, 54, 13, 20, []), 3), ((2, 0, 0, 0, []), 1), ((2, 1, 0, 0, []), 1), ((16, 45, 11, 0, []), 3), ((18, 4, 11, 0, []), 3), ((2, 0, 0, 0, []), 1), ((2, 1, 0, 0, []), 1), ((16, 45, 12, 0, []), 3), ((18, 4, 12, 0, []), 3), ((28, 0, 0, 0, []), 1)] 0 _ _ _ (by decide +kernel) ?_
  exact (Prod.mk.inj (Option.some.inj h)).2
theorem ok_Prog_copyFrom_4_45 {l : Launch} {σ : pS} {v : Int} {σ1 : pS} (h : f_Prog_copyFrom_4_45  σ = some (v, σ1)) : Con l 1 54 [.inr 4, .inr 45] σ v σ1 := Con_mk 2 2 rfl (by decide +kernel) (fun _ H => ok_Prog_copyFrom_4_45_w H  _ h)
theorem ok_Arrays_fill_27_p5 {l : Launch} {rv : Int} {rσ : pS} {G : Nat → pL → List pV → pS → Prop} (H : px_R l 0 6 rv rσ G) : ∀ (n : Nat) (a1 a2 a3 : Int) (σ : pS), f_Arrays_fill_27_p5 n a1 a2 a3 σ = some (rv, rσ) → G 5 [some (.inr 27), some (.inl a1), some (.inl a2), some (.inl a3)] [] σ := by
  intro n
  induction n with
  | zero =>
    intro a1 a2 a3 σ h
    unfold f_Arrays_fill_27_p5 at h
    cases h
  | succ n ih =>
    intro a1 a2 a3 σ h
    unfold f_Arrays_fill_27_p5 at h
    refine H [((1, 2, 0, 0, []), 1), ((1, 3, 0, 0, []), 1), ((13, 3, 20, 0, []), 3), ((2, 0, 0, 0, []), 1), ((1, 2, 0, 0, []), 1), ((1, 1, 0, 0, []), 1), ((20, 27, 20, 0, []), 1), ((5, 2, 0, 1, []), 3), ((12, 0, 5, 0, []), 3)] 5 _ _ _ (by decide +kernel) ?_
    rcases px_ite h with ⟨c1, h⟩ | ⟨c1, h⟩
    · refine And.intro (fun _ => ?_) (fun hn => absurd c1 hn)
      refine H [((28, 0, 0, 0, []), 1)] 20 _ _ _ (by decide +kernel) ?_
      exact (Prod.mk.inj (Option.some.inj h)).2
    · refine And.intro (fun hp => absurd hp c1) (fun _ => ?_)
      obtain ⟨g2, h⟩ := px_gd h
      refine And.intro g2 ?_
      exact ih _ _ _ _ h
theorem ok_Arrays_fill_27_w {l : Launch} {rv : Int} {rσ : pS} {G : Nat → pL → List pV → pS → Prop} (H : px_R l 0 6 rv rσ G) : ∀ (a1 : Int) (σ : pS), f_Arrays_fill_27 a1 σ = some (rv, rσ) → G 0 [some (.inr 27), some (.inl a1), none, none] [] σ := by
  intro a1 σ h
  unfold f_Arrays_fill_27 at h
  refine H [((0, 0, 0, 0, []), 1), ((3, 2, 0, 0, []), 1), ((2, 0, 0, 0, []), 1), ((21, 27, 20, 0, []), 1), ((3, 3, 0, 0, []), 1)] 0 _ _ _ (by decide +kernel) ?_
  exact ok_Arrays_fill_27_p5 H _ _ _ _ _ h
theorem ok_Arrays_fill_27 {l : Launch} {a1 : Int} {σ : pS} {v : Int} {σ1 : pS} (h : f_Arrays_fill_27 a1 σ = some (v, σ1)) : Con l 0 6 [.inr 27, .inl a1] σ v σ1 := Con_mk 2 4 rfl (by decide +kernel) (fun _ H => ok_Arrays_fill_27_w H _ _ h)
theorem ok_State_dropSets_24_w {l : Launch} {rv : Int} {rσ : pS} {G : Nat → pL → List pV → pS → Prop} (H : px_R l 1 55 rv rσ G) : ∀ (σ : pS), f_State_dropSets_24  σ = some (rv, rσ) → G 0 [some (.inr 24)] [] σ := by
  intro  σ h
  unfold f_State_dropSets_24 at h
  refine H [((2, 0, 0, 0, []), 1), ((17, 24, 27, 0, []), 3), ((0, 0, 0, (-1), []), 1), ((24, 6, 2, 0, []), 3), ((28, 0, 0, 0, []), 1)] 0 _ _ _ (by decide +kernel) ?_
  obtain ⟨⟨vq1, σq1⟩, hq1, h⟩ := px_bind h
  dsimp only at h
  refine Exists.intro 0 (Exists.intro vq1 (Exists.intro σq1 (And.intro (Nat.le_of_ble_eq_true rfl) (And.intro (ok_Arrays_fill_27 hq1) ?_))))
  exact (Prod.mk.inj (Option.some.inj h)).2
theorem ok_State_dropSets_24 {l : Launch} {σ : pS} {v : Int} {σ1 : pS} (h : f_State_dropSets_24  σ = some (v, σ1)) : Con l 1 55 [.inr 24] σ v σ1 := Con_mk 1 1 rfl (by decide +kernel) (fun _ H => ok_State_dropSets_24_w H  _ h)
theorem ok_Arrays_fill_83_p5 {l : Launch} {rv : Int} {rσ : pS} {G : Nat → pL → List pV → pS → Prop} (H : px_R l 0 6 rv rσ G) : ∀ (n : Nat) (a1 a2 a3 : Int) (σ : pS), f_Arrays_fill_83_p5 n a1 a2 a3 σ = some (rv, rσ) → G 5 [some (.inr 83), some (.inl a1), some (.inl a2), some (.inl a3)] [] σ := by
  intro n
  induction n with
  | zero =>
    intro a1 a2 a3 σ h
    unfold f_Arrays_fill_83_p5 at h
    cases h
  | succ n ih =>
    intro a1 a2 a3 σ h
    unfold f_Arrays_fill_83_p5 at h
    refine H [((1, 2, 0, 0, []), 1), ((1, 3, 0, 0, []), 1), ((13, 3, 20, 0, []), 3), ((2, 0, 0, 0, []), 1), ((1, 2, 0, 0, []), 1), ((1, 1, 0, 0, []), 1), ((20, 83, 2, 0, []), 1), ((5, 2, 0, 1, []), 3), ((12, 0, 5, 0, []), 3)] 5 _ _ _ (by decide +kernel) ?_
    rcases px_ite h with ⟨c1, h⟩ | ⟨c1, h⟩
    · refine And.intro (fun _ => ?_) (fun hn => absurd c1 hn)
      refine H [((28, 0, 0, 0, []), 1)] 20 _ _ _ (by decide +kernel) ?_
      exact (Prod.mk.inj (Option.some.inj h)).2
    · refine And.intro (fun hp => absurd hp c1) (fun _ => ?_)
      obtain ⟨g2, h⟩ := px_gd h
      refine And.intro g2 ?_
      exact ih _ _ _ _ h
theorem ok_Arrays_fill_83_w {l : Launch} {rv : Int} {rσ : pS} {G : Nat → pL → List pV → pS → Prop} (H : px_R l 0 6 rv rσ G) : ∀ (a1 : Int) (σ : pS), f_Arrays_fill_83 a1 σ = some (rv, rσ) → G 0 [some (.inr 83), some (.inl a1), none, none] [] σ := by
  intro a1 σ h
  unfold f_Arrays_fill_83 at h
  refine H [((0, 0, 0, 0, []), 1), ((3, 2, 0, 0, []), 1), ((2, 0, 0, 0, []), 1), ((21, 83, 2, 0, []), 1), ((3, 3, 0, 0, []), 1)] 0 _ _ _ (by decide +kernel) ?_
  exact ok_Arrays_fill_83_p5 H _ _ _ _ _ h
theorem ok_Arrays_fill_83 {l : Launch} {a1 : Int} {σ : pS} {v : Int} {σ1 : pS} (h : f_Arrays_fill_83 a1 σ = some (v, σ1)) : Con l 0 6 [.inr 83, .inl a1] σ v σ1 := Con_mk 2 4 rfl (by decide +kernel) (fun _ H => ok_Arrays_fill_83_w H _ _ h)
theorem ok_Rows_clear_82_w {l : Launch} {rv : Int} {rσ : pS} {G : Nat → pL → List pV → pS → Prop} (H : px_R l 1 56 rv rσ G) : ∀ (σ : pS), f_Rows_clear_82  σ = some (rv, rσ) → G 0 [some (.inr 82)] [] σ := by
  intro  σ h
  unfold f_Rows_clear_82 at h
  refine H [((2, 0, 0, 0, []), 1), ((17, 82, 83, 0, []), 3), ((0, 0, 0, 0, []), 1), ((24, 6, 2, 0, []), 3), ((28, 0, 0, 0, []), 1)] 0 _ _ _ (by decide +kernel) ?_
  obtain ⟨⟨vq1, σq1⟩, hq1, h⟩ := px_bind h
  dsimp only at h
  refine Exists.intro 0 (Exists.intro vq1 (Exists.intro σq1 (And.intro (Nat.le_of_ble_eq_true rfl) (And.intro (ok_Arrays_fill_83 hq1) ?_))))
  exact (Prod.mk.inj (Option.some.inj h)).2
theorem ok_Rows_clear_82 {l : Launch} {σ : pS} {v : Int} {σ1 : pS} (h : f_Rows_clear_82  σ = some (v, σ1)) : Con l 1 56 [.inr 82] σ v σ1 := Con_mk 1 1 rfl (by decide +kernel) (fun _ H => ok_Rows_clear_82_w H  _ h)
theorem ok_X_program_0_p101 {l : Launch} {rv : Int} {rσ : pS} {G : Nat → pL → List pV → pS → Prop} (H : px_R l 7 40 rv rσ G) : ∀ (a2 : Int) (σ : pS), f_X_program_0_p101 a2 σ = some (rv, rσ) → G 101 [some (.inr 0), none, some (.inl a2)] [] σ := by
  intro a2 σ h
  unfold f_X_program_0_p101 at h
  refine H [((2, 0, 0, 0, []), 1), ((17, 0, 1, 0, []), 3), ((23, 39, 0, 0, [(0, 1)]), 3), ((1, 2, 0, 0, []), 1), ((27, 0, 0, 0, []), 1)] 101 _ _ _ (by decide +kernel) ?_
  obtain ⟨⟨vq7, σq7⟩, hq7, h⟩ := px_bind h
  dsimp only at h
  refine Exists.intro 0 (Exists.intro vq7 (Exists.intro σq7 (And.intro (Nat.le_of_ble_eq_true rfl) (And.intro (ok_Tape_clear_1 hq7) ?_))))
  exact Prod.mk.inj (Option.some.inj h)
theorem ok_X_program_0_w {l : Launch} {rv : Int} {rσ : pS} {G : Nat → pL → List pV → pS → Prop} (H : px_R l 7 40 rv rσ G) : ∀ (a1 : Int) (σ : pS), f_X_program_0 a1 σ = some (rv, rσ) → G 0 [some (.inr 0), some (.inl a1), none] [] σ := by
  intro a1 σ h
  unfold f_X_program_0 at h
  refine H [((1, 1, 0, 0, []), 1), ((0, 0, 0, 1, []), 1), ((13, 2, 23, 0, []), 3), ((1, 1, 0, 0, []), 1), ((0, 0, 0, 240, []), 3), ((13, 4, 23, 0, []), 3), ((1, 1, 0, 0, []), 1), ((2, 0, 0, 0, []), 1), ((17, 0, 1, 0, []), 3), ((16, 1, 1, 0, []), 3), ((13, 5, 25, 0, []), 3), ((0, 0, 0, (-1), []), 1), ((27, 0, 0, 0, []), 1)] 0 _ _ _ (by decide +kernel) ?_
  rcases px_ite h with ⟨c1, h⟩ | ⟨c1, h⟩
  · refine And.intro (fun _ => ?_) (fun hn => absurd c1 hn)
    refine H [((0, 0, 0, (-1), []), 1), ((27, 0, 0, 0, []), 1)] 23 _ _ _ (by decide +kernel) ?_
    exact Prod.mk.inj (Option.some.inj h)
  · refine And.intro (fun hp => absurd hp c1) (fun _ => ?_)
    rcases px_ite h with ⟨c2, h⟩ | ⟨c2, h⟩
    · refine And.intro (fun _ => ?_) (fun hn => absurd c2 hn)
      refine H [((0, 0, 0, (-1), []), 1), ((27, 0, 0, 0, []), 1)] 23 _ _ _ (by decide +kernel) ?_
      exact Prod.mk.inj (Option.some.inj h)
    · refine And.intro (fun hp => absurd hp c2) (fun _ => ?_)
      rcases px_ite h with ⟨c3, h⟩ | ⟨c3, h⟩
      · refine And.intro (fun _ => ?_) (fun hn => absurd c3 hn)
        refine H [((2, 0, 0, 0, []), 1), ((17, 0, 1, 0, []), 3), ((1, 1, 0, 0, []), 1), ((23, 15, 1, 0, [(0, 1)]), 3), ((2, 0, 0, 0, []), 1), ((17, 0, 45, 0, []), 3), ((2, 0, 0, 0, []), 1), ((17, 0, 1, 0, []), 3), ((23, 41, 1, 1, [(0, 45)]), 3), ((3, 2, 0, 0, []), 1), ((1, 2, 0, 0, []), 1), ((14, 2, 101, 0, []), 3), ((2, 0, 0, 0, []), 1), ((17, 0, 3, 0, []), 3), ((17, 3, 4, 0, []), 3), ((2, 0, 0, 0, []), 1), ((17, 0, 45, 0, []), 3), ((23, 54, 1, 0, [(0, 4)]), 3), ((2, 0, 0, 0, []), 1), ((17, 0, 3, 0, []), 3), ((17, 3, 24, 0, []), 3), ((23, 55, 0, 0, [(0, 24)]), 3), ((2, 0, 0, 0, []), 1), ((17, 0, 3, 0, []), 3), ((17, 3, 24, 0, []), 3), ((0, 0, 0, 0, []), 1), ((18, 24, 3, 0, []), 3), ((2, 0, 0, 0, []), 1), ((17, 0, 82, 0, []), 3), ((23, 56, 0, 0, [(0, 82)]), 3), ((2, 0, 0, 0, []), 1), ((0, 0, 0, 0, []), 1), ((18, 0, 8, 1, []), 3), ((2, 0, 0, 0, []), 1), ((0, 0, 0, 1, []), 1), ((18, 0, 10, 1, []), 3), ((29, 1, 0, 0, []), 0)] 25 _ _ _ (by decide +kernel) ?_
        obtain ⟨⟨vq4, σq4⟩, hq4, h⟩ := px_bind h
        dsimp only at h
        refine Exists.intro 1 (Exists.intro vq4 (Exists.intro σq4 (And.intro (Nat.le_of_ble_eq_true rfl) (And.intro (ok_Tape_beginText_1 hq4) ?_))))
        obtain ⟨⟨vq5, σq5⟩, hq5, h⟩ := px_bind h
        dsimp only at h
        refine Exists.intro 6 (Exists.intro vq5 (Exists.intro σq5 (And.intro (Nat.le_of_ble_eq_true rfl) (And.intro (ok_Prog_readFrom_45_1 hq5) ?_))))
        rcases px_ite h with ⟨c6, h⟩ | ⟨c6, h⟩
        · refine And.intro (fun _ => ?_) (fun hn => absurd c6 hn)
          refine H [((29, 1, 0, 0, []), 0)] 101 _ _ _ (by decide +kernel) ?_
          exact ok_X_program_0_p101 H _ _ h
        · refine And.intro (fun hp => absurd hp c6) (fun _ => ?_)
          obtain ⟨⟨vq8, σq8⟩, hq8, h⟩ := px_bind h
          dsimp only at h
          refine Exists.intro 1 (Exists.intro vq8 (Exists.intro σq8 (And.intro (Nat.le_of_ble_eq_true rfl) (And.intro (ok_Prog_copyFrom_4_45 hq8) ?_))))
          obtain ⟨⟨vq9, σq9⟩, hq9, h⟩ := px_bind h
          dsimp only at h
          refine Exists.intro 1 (Exists.intro vq9 (Exists.intro σq9 (And.intro (Nat.le_of_ble_eq_true rfl) (And.intro (ok_State_dropSets_24 hq9) ?_))))
          obtain ⟨⟨vq10, σq10⟩, hq10, h⟩ := px_bind h
          dsimp only at h
          refine Exists.intro 1 (Exists.intro vq10 (Exists.intro σq10 (And.intro (Nat.le_of_ble_eq_true rfl) (And.intro (ok_Rows_clear_82 hq10) ?_))))
          refine And.intro (show (0 : Int) ≤ 0 ∧ (0 : Int) ≤ 1 from by decide) ?_
          refine And.intro (show (0 : Int) ≤ 1 ∧ (1 : Int) ≤ 1 from by decide) ?_
          exact ok_X_program_0_p101 H _ _ h
      · refine And.intro (fun hp => absurd hp c3) (fun _ => ?_)
        exact Prod.mk.inj (Option.some.inj h)
theorem ok_X_program_0 {l : Launch} {a1 : Int} {σ : pS} {v : Int} {σ1 : pS} (h : f_X_program_0 a1 σ = some (v, σ1)) : Con l 7 40 [.inr 0, .inl a1] σ v σ1 := Con_mk 2 3 rfl (by decide +kernel) (fun _ H => ok_X_program_0_w H _ _ h)
theorem ok_M_in_w {l : Launch} {rv : Int} {rσ : pS} {G : Nat → pL → List pV → pS → Prop} (H : px_R l 0 137 rv rσ G) : ∀ (a0 a1 a2 : Int) (σ : pS), f_M_in a0 a1 a2 σ = some (rv, rσ) → G 0 [some (.inl a0), some (.inl a1), some (.inl a2)] [] σ := by
  intro a0 a1 a2 σ h
  unfold f_M_in at h
  refine H [((1, 0, 0, 0, []), 1), ((1, 1, 0, 0, []), 1), ((13, 2, 14, 0, []), 3), ((1, 0, 0, 0, []), 1), ((1, 2, 0, 0, []), 1), ((13, 4, 14, 0, []), 3), ((0, 0, 0, 1, []), 1), ((12, 0, 15, 0, []), 3), ((27, 1, 0, 0, []), 1)] 0 _ _ _ (by decide +kernel) ?_
  rcases px_ite h with ⟨c1, h⟩ | ⟨c1, h⟩
  · refine And.intro (fun _ => ?_) (fun hn => absurd c1 hn)
    refine H [((0, 0, 0, 0, []), 1), ((27, 1, 0, 0, []), 1)] 14 _ _ _ (by decide +kernel) ?_
    refine And.intro (show (0 : Int) ≤ 0 ∧ (0 : Int) ≤ 1 from by decide) ?_
    exact Prod.mk.inj (Option.some.inj h)
  · refine And.intro (fun hp => absurd hp c1) (fun _ => ?_)
    rcases px_ite h with ⟨c2, h⟩ | ⟨c2, h⟩
    · refine And.intro (fun _ => ?_) (fun hn => absurd c2 hn)
      refine H [((0, 0, 0, 0, []), 1), ((27, 1, 0, 0, []), 1)] 14 _ _ _ (by decide +kernel) ?_
      refine And.intro (show (0 : Int) ≤ 0 ∧ (0 : Int) ≤ 1 from by decide) ?_
      exact Prod.mk.inj (Option.some.inj h)
    · refine And.intro (fun hp => absurd hp c2) (fun _ => ?_)
      refine And.intro (show (0 : Int) ≤ 1 ∧ (1 : Int) ≤ 1 from by decide) ?_
      exact Prod.mk.inj (Option.some.inj h)
theorem ok_M_in {l : Launch} {a0 a1 a2 : Int} {σ : pS} {v : Int} {σ1 : pS} (h : f_M_in a0 a1 a2 σ = some (v, σ1)) : Con l 0 137 [.inl a0, .inl a1, .inl a2] σ v σ1 := Con_mk 3 3 rfl (by decide +kernel) (fun _ H => ok_M_in_w H _ _ _ _ h)
theorem ok_M_beginsText_84_w {l : Launch} {rv : Int} {rσ : pS} {G : Nat → pL → List pV → pS → Prop} (H : px_R l 0 142 rv rσ G) : ∀ (a1 : Int) (σ : pS), f_M_beginsText_84 a1 σ = some (rv, rσ) → G 0 [some (.inr 84), some (.inl a1)] [] σ := by
  intro a1 σ h
  unfold f_M_beginsText_84 at h
  refine H [((2, 0, 0, 0, []), 1), ((0, 0, 0, 0, []), 1), ((18, 84, 19, 0, []), 3), ((2, 0, 0, 0, []), 1), ((1, 1, 0, 0, []), 1), ((18, 84, 20, 0, []), 3), ((2, 0, 0, 0, []), 1), ((0, 0, 0, 0, []), 1), ((18, 84, 24, 0, []), 3), ((2, 0, 0, 0, []), 1), ((0, 0, 0, 0, []), 1), ((18, 84, 26, 0, []), 3), ((28, 0, 0, 0, []), 1)] 0 _ _ _ (by decide +kernel) ?_
  exact (Prod.mk.inj (Option.some.inj h)).2
theorem ok_M_beginsText_84 {l : Launch} {a1 : Int} {σ : pS} {v : Int} {σ1 : pS} (h : f_M_beginsText_84 a1 σ = some (v, σ1)) : Con l 0 142 [.inr 84, .inl a1] σ v σ1 := Con_mk 2 2 rfl (by decide +kernel) (fun _ H => ok_M_beginsText_84_w H _ _ h)
theorem ok_M_here_84_w {l : Launch} {rv : Int} {rσ : pS} {G : Nat → pL → List pV → pS → Prop} (H : px_R l 0 144 rv rσ G) : ∀ (σ : pS), f_M_here_84  σ = some (rv, rσ) → G 0 [some (.inr 84)] [] σ := by
  intro  σ h
  unfold f_M_here_84 at h
  refine H [((2, 0, 0, 0, []), 1), ((16, 84, 19, 0, []), 3), ((2, 0, 0, 0, []), 1), ((16, 84, 20, 0, []), 3), ((13, 3, 27, 0, []), 3), ((2, 0, 0, 0, []), 1), ((17, 84, 96, 0, []), 3), ((2, 0, 0, 0, []), 1), ((16, 84, 19, 0, []), 3), ((19, 96, 260, 0, []), 1), ((0, 0, 0, 255, []), 3), ((6, 3, 0, 0, []), 1), ((12, 0, 28, 0, []), 3), ((27, 0, 0, 0, []), 1)] 0 _ _ _ (by decide +kernel) ?_
  rcases px_ite h with ⟨c1, h⟩ | ⟨c1, h⟩
  · refine And.intro (fun _ => ?_) (fun hn => absurd c1 hn)
    refine H [((0, 0, 0, (-1), []), 1), ((27, 0, 0, 0, []), 1)] 27 _ _ _ (by decide +kernel) ?_
    exact Prod.mk.inj (Option.some.inj h)
  · refine And.intro (fun hp => absurd hp c1) (fun _ => ?_)
    obtain ⟨g2, h⟩ := px_gd h
    refine And.intro g2 ?_
    exact Prod.mk.inj (Option.some.inj h)
theorem ok_M_here_84 {l : Launch} {σ : pS} {v : Int} {σ1 : pS} (h : f_M_here_84  σ = some (v, σ1)) : Con l 0 144 [.inr 84] σ v σ1 := Con_mk 1 1 rfl (by decide +kernel) (fun _ H => ok_M_here_84_w H  _ h)
theorem ok_M_kindBy_w {l : Launch} {rv : Int} {rσ : pS} {G : Nat → pL → List pV → pS → Prop} (H : px_R l 0 165 rv rσ G) : ∀ (a0 : Int) (σ : pS), f_M_kindBy a0 σ = some (rv, rσ) → G 0 [some (.inl a0)] [] σ := by
  intro a0 σ h
  unfold f_M_kindBy at h
  refine H [((1, 0, 0, 0, []), 1), ((15, 0, 92, 0, [(35, 84), (38, 86), (42, 86), (43, 86), (45, 86), (62, 86), (76, 88), (83, 90), (94, 86)]), 83)] 0 _ _ _ (by decide +kernel) ?_
  rcases px_ite h with ⟨c1, h⟩ | ⟨c1, h⟩
  · refine And.intro (fun _ => ?_) (fun hn => absurd c1 hn)
    refine H [((0, 0, 0, 0, []), 1), ((27, 0, 0, 0, []), 1)] 84 _ _ _ (by decide +kernel) ?_
    exact Prod.mk.inj (Option.some.inj h)
  · refine And.intro (fun hp => absurd hp c1) (fun _ => ?_)
    rcases px_ite h with ⟨c2, h⟩ | ⟨c2, h⟩
    · refine And.intro (fun _ => ?_) (fun hn => absurd c2 hn)
      refine H [((0, 0, 0, 1, []), 1), ((27, 0, 0, 0, []), 1)] 86 _ _ _ (by decide +kernel) ?_
      exact Prod.mk.inj (Option.some.inj h)
    · refine And.intro (fun hp => absurd hp c2) (fun _ => ?_)
      rcases px_ite h with ⟨c3, h⟩ | ⟨c3, h⟩
      · refine And.intro (fun _ => ?_) (fun hn => absurd c3 hn)
        refine H [((0, 0, 0, 1, []), 1), ((27, 0, 0, 0, []), 1)] 86 _ _ _ (by decide +kernel) ?_
        exact Prod.mk.inj (Option.some.inj h)
      · refine And.intro (fun hp => absurd hp c3) (fun _ => ?_)
        rcases px_ite h with ⟨c4, h⟩ | ⟨c4, h⟩
        · refine And.intro (fun _ => ?_) (fun hn => absurd c4 hn)
          refine H [((0, 0, 0, 1, []), 1), ((27, 0, 0, 0, []), 1)] 86 _ _ _ (by decide +kernel) ?_
          exact Prod.mk.inj (Option.some.inj h)
        · refine And.intro (fun hp => absurd hp c4) (fun _ => ?_)
          rcases px_ite h with ⟨c5, h⟩ | ⟨c5, h⟩
          · refine And.intro (fun _ => ?_) (fun hn => absurd c5 hn)
            refine H [((0, 0, 0, 1, []), 1), ((27, 0, 0, 0, []), 1)] 86 _ _ _ (by decide +kernel) ?_
            exact Prod.mk.inj (Option.some.inj h)
          · refine And.intro (fun hp => absurd hp c5) (fun _ => ?_)
            rcases px_ite h with ⟨c6, h⟩ | ⟨c6, h⟩
            · refine And.intro (fun _ => ?_) (fun hn => absurd c6 hn)
              refine H [((0, 0, 0, 1, []), 1), ((27, 0, 0, 0, []), 1)] 86 _ _ _ (by decide +kernel) ?_
              exact Prod.mk.inj (Option.some.inj h)
            · refine And.intro (fun hp => absurd hp c6) (fun _ => ?_)
              rcases px_ite h with ⟨c7, h⟩ | ⟨c7, h⟩
              · refine And.intro (fun _ => ?_) (fun hn => absurd c7 hn)
                refine H [((0, 0, 0, 2, []), 1), ((27, 0, 0, 0, []), 1)] 88 _ _ _ (by decide +kernel) ?_
                exact Prod.mk.inj (Option.some.inj h)
              · refine And.intro (fun hp => absurd hp c7) (fun _ => ?_)
                rcases px_ite h with ⟨c8, h⟩ | ⟨c8, h⟩
                · refine And.intro (fun _ => ?_) (fun hn => absurd c8 hn)
                  refine H [((0, 0, 0, 3, []), 1), ((27, 0, 0, 0, []), 1)] 90 _ _ _ (by decide +kernel) ?_
                  exact Prod.mk.inj (Option.some.inj h)
                · refine And.intro (fun hp => absurd hp c8) (fun _ => ?_)
                  rcases px_ite h with ⟨c9, h⟩ | ⟨c9, h⟩
                  · refine And.intro (fun _ => ?_) (fun hn => absurd c9 hn)
                    refine H [((0, 0, 0, 1, []), 1), ((27, 0, 0, 0, []), 1)] 86 _ _ _ (by decide +kernel) ?_
                    exact Prod.mk.inj (Option.some.inj h)
                  · refine And.intro (fun hp => absurd hp c9) (fun _ => ?_)
                    refine H [((0, 0, 0, (-1), []), 1), ((27, 0, 0, 0, []), 1)] 92 _ _ _ (by decide +kernel) ?_
                    exact Prod.mk.inj (Option.some.inj h)
theorem ok_M_kindBy {l : Launch} {a0 : Int} {σ : pS} {v : Int} {σ1 : pS} (h : f_M_kindBy a0 σ = some (v, σ1)) : Con l 0 165 [.inl a0] σ v σ1 := Con_mk 1 1 rfl (by decide +kernel) (fun _ H => ok_M_kindBy_w H _ _ h)
theorem ok_M_sizeBy_w {l : Launch} {rv : Int} {rσ : pS} {G : Nat → pL → List pV → pS → Prop} (H : px_R l 0 166 rv rσ G) : ∀ (a0 : Int) (σ : pS), f_M_sizeBy a0 σ = some (rv, rσ) → G 0 [some (.inl a0)] [] σ := by
  intro a0 σ h
  unfold f_M_sizeBy at h
  refine H [((1, 0, 0, 0, []), 1), ((0, 0, 0, 98, []), 2), ((13, 1, 10, 0, []), 3), ((0, 0, 0, 1, []), 1), ((12, 0, 31, 0, []), 3), ((27, 0, 0, 0, []), 1)] 0 _ _ _ (by decide +kernel) ?_
  rcases px_ite h with ⟨c1, h⟩ | ⟨c1, h⟩
  · refine And.intro (fun hp => absurd c1 hp) (fun _ => ?_)
    exact Prod.mk.inj (Option.some.inj h)
  · refine And.intro (fun _ => ?_) (fun hn => absurd c1 hn)
    refine H [((1, 0, 0, 0, []), 1), ((0, 0, 0, 104, []), 2), ((13, 1, 20, 0, []), 3), ((0, 0, 0, 2, []), 1), ((12, 0, 31, 0, []), 3), ((27, 0, 0, 0, []), 1)] 10 _ _ _ (by decide +kernel) ?_
    rcases px_ite h with ⟨c2, h⟩ | ⟨c2, h⟩
    · refine And.intro (fun hp => absurd c2 hp) (fun _ => ?_)
      exact Prod.mk.inj (Option.some.inj h)
    · refine And.intro (fun _ => ?_) (fun hn => absurd c2 hn)
      refine H [((1, 0, 0, 0, []), 1), ((0, 0, 0, 119, []), 2), ((13, 1, 30, 0, []), 3), ((0, 0, 0, 4, []), 1), ((12, 0, 31, 0, []), 3), ((27, 0, 0, 0, []), 1)] 20 _ _ _ (by decide +kernel) ?_
      rcases px_ite h with ⟨c3, h⟩ | ⟨c3, h⟩
      · refine And.intro (fun hp => absurd c3 hp) (fun _ => ?_)
        exact Prod.mk.inj (Option.some.inj h)
      · refine And.intro (fun _ => ?_) (fun hn => absurd c3 hn)
        refine H [((0, 0, 0, (-1), []), 1), ((27, 0, 0, 0, []), 1)] 30 _ _ _ (by decide +kernel) ?_
        exact Prod.mk.inj (Option.some.inj h)
theorem ok_M_sizeBy {l : Launch} {a0 : Int} {σ : pS} {v : Int} {σ1 : pS} (h : f_M_sizeBy a0 σ = some (v, σ1)) : Con l 0 166 [.inl a0] σ v σ1 := Con_mk 1 1 rfl (by decide +kernel) (fun _ H => ok_M_sizeBy_w H _ _ h)
theorem ok_M_wrongAt_84_w {l : Launch} {rv : Int} {rσ : pS} {G : Nat → pL → List pV → pS → Prop} (H : px_R l 0 145 rv rσ G) : ∀ (a1 a2 : Int) (σ : pS), f_M_wrongAt_84 a1 a2 σ = some (rv, rσ) → G 0 [some (.inr 84), some (.inl a1), some (.inl a2)] [] σ := by
  intro a1 a2 σ h
  unfold f_M_wrongAt_84 at h
  refine H [((2, 0, 0, 0, []), 1), ((0, 0, 0, (-1000), []), 3), ((1, 1, 0, 0, []), 1), ((6, 2, 0, 0, []), 1), ((1, 2, 0, 0, []), 1), ((6, 1, 0, 0, []), 1), ((18, 84, 21, 0, []), 3), ((0, 0, 0, 0, []), 1), ((27, 1, 0, 0, []), 1)] 0 _ _ _ (by decide +kernel) ?_
  refine And.intro (show (0 : Int) ≤ 0 ∧ (0 : Int) ≤ 1 from by decide) ?_
  exact Prod.mk.inj (Option.some.inj h)
theorem ok_M_wrongAt_84 {l : Launch} {a1 a2 : Int} {σ : pS} {v : Int} {σ1 : pS} (h : f_M_wrongAt_84 a1 a2 σ = some (v, σ1)) : Con l 0 145 [.inr 84, .inl a1, .inl a2] σ v σ1 := Con_mk 3 3 rfl (by decide +kernel) (fun _ H => ok_M_wrongAt_84_w H _ _ _ h)
theorem ok_M_readsRegister_84_w {l : Launch} {rv : Int} {rσ : pS} {G : Nat → pL → List pV → pS → Prop} (H : px_R l 1 167 rv rσ G) : ∀ (σ : pS), f_M_readsRegister_84  σ = some (rv, rσ) → G 0 [some (.inr 84)] [] σ := by
  intro  σ h
  unfold f_M_readsRegister_84 at h
  refine H [((2, 0, 0, 0, []), 1), ((23, 144, 0, 1, [(0, 84)]), 3), ((0, 0, 0, 48, []), 2), ((0, 0, 0, 55, []), 2), ((24, 137, 3, 1, []), 3), ((14, 1, 24, 0, []), 3), ((2, 0, 0, 0, []), 1), ((0, 0, 0, 1, []), 1), ((2, 0, 0, 0, []), 1), ((16, 84, 19, 0, []), 3), ((23, 145, 2, 1, [(0, 84)]), 3), ((27, 1, 0, 0, []), 1)] 0 _ _ _ (by decide +kernel) ?_
  obtain ⟨⟨vq1, σq1⟩, hq1, h⟩ := px_bind h
  dsimp only at h
  refine Exists.intro 0 (Exists.intro vq1 (Exists.intro σq1 (And.intro (Nat.le_of_ble_eq_true rfl) (And.intro (ok_M_here_84 hq1) ?_))))
  obtain ⟨⟨vq2, σq2⟩, hq2, h⟩ := px_bind h
  dsimp only at h
  refine Exists.intro 0 (Exists.intro vq2 (Exists.intro σq2 (And.intro (Nat.le_of_ble_eq_true rfl) (And.intro (ok_M_in hq2) ?_))))
  rcases px_ite h with ⟨c3, h⟩ | ⟨c3, h⟩
  · refine And.intro (fun hp => absurd c3 hp) (fun _ => ?_)
    obtain ⟨⟨vq5, σq5⟩, hq5, h⟩ := px_bind h
    dsimp only at h
    refine Exists.intro 0 (Exists.intro vq5 (Exists.intro σq5 (And.intro (Nat.le_of_ble_eq_true rfl) (And.intro (ok_M_wrongAt_84 hq5) ?_))))
    obtain ⟨g6, h⟩ := px_gd h
    refine And.intro g6 ?_
    exact Prod.mk.inj (Option.some.inj h)
  · refine And.intro (fun _ => ?_) (fun hn => absurd c3 hn)
    refine H [((2, 0, 0, 0, []), 1), ((2, 0, 0, 0, []), 1), ((23, 144, 0, 1, [(0, 84)]), 3), ((0, 0, 0, 48, []), 2), ((6, 1, 0, 0, []), 1), ((18, 84, 22, 0, []), 3), ((2, 0, 0, 0, []), 1), ((2, 0, 0, 0, []), 1), ((16, 84, 19, 0, []), 3), ((0, 0, 0, 1, []), 1), ((6, 0, 0, 0, []), 1), ((18, 84, 19, 0, []), 3), ((0, 0, 0, 1, []), 1), ((27, 1, 0, 0, []), 1)] 24 _ _ _ (by decide +kernel) ?_
    obtain ⟨⟨vq4, σq4⟩, hq4, h⟩ := px_bind h
    dsimp only at h
    refine Exists.intro 0 (Exists.intro vq4 (Exists.intro σq4 (And.intro (Nat.le_of_ble_eq_true rfl) (And.intro (ok_M_here_84 hq4) ?_))))
    refine And.intro (show (0 : Int) ≤ 1 ∧ (1 : Int) ≤ 1 from by decide) ?_
    exact Prod.mk.inj (Option.some.inj h)
theorem ok_M_readsRegister_84 {l : Launch} {σ : pS} {v : Int} {σ1 : pS} (h : f_M_readsRegister_84  σ = some (v, σ1)) : Con l 1 167 [.inr 84] σ v σ1 := Con_mk 1 1 rfl (by decide +kernel) (fun _ H => ok_M_readsRegister_84_w H  _ h)
theorem ok_M_takes_84_w {l : Launch} {rv : Int} {rσ : pS} {G : Nat → pL → List pV → pS → Prop} (H : px_R l 1 162 rv rσ G) : ∀ (a1 : Int) (σ : pS), f_M_takes_84 a1 σ = some (rv, rσ) → G 0 [some (.inr 84), some (.inl a1)] [] σ := by
  intro a1 σ h
  unfold f_M_takes_84 at h
  refine H [((2, 0, 0, 0, []), 1), ((23, 144, 0, 1, [(0, 84)]), 3), ((1, 1, 0, 0, []), 1), ((13, 0, 18, 0, []), 3), ((2, 0, 0, 0, []), 1), ((0, 0, 0, 1, []), 1), ((2, 0, 0, 0, []), 1), ((16, 84, 19, 0, []), 3), ((23, 145, 2, 1, [(0, 84)]), 3), ((27, 1, 0, 0, []), 1)] 0 _ _ _ (by decide +kernel) ?_
  obtain ⟨⟨vq1, σq1⟩, hq1, h⟩ := px_bind h
  dsimp only at h
  refine Exists.intro 0 (Exists.intro vq1 (Exists.intro σq1 (And.intro (Nat.le_of_ble_eq_true rfl) (And.intro (ok_M_here_84 hq1) ?_))))
  rcases px_ite h with ⟨c2, h⟩ | ⟨c2, h⟩
  · refine And.intro (fun _ => ?_) (fun hn => absurd c2 hn)
    refine H [((2, 0, 0, 0, []), 1), ((2, 0, 0, 0, []), 1), ((16, 84, 19, 0, []), 3), ((0, 0, 0, 1, []), 1), ((6, 0, 0, 0, []), 1), ((18, 84, 19, 0, []), 3), ((0, 0, 0, 1, []), 1), ((27, 1, 0, 0, []), 1)] 18 _ _ _ (by decide +kernel) ?_
    refine And.intro (show (0 : Int) ≤ 1 ∧ (1 : Int) ≤ 1 from by decide) ?_
    exact Prod.mk.inj (Option.some.inj h)
  · refine And.intro (fun hp => absurd hp c2) (fun _ => ?_)
    obtain ⟨⟨vq3, σq3⟩, hq3, h⟩ := px_bind h
    dsimp only at h
    refine Exists.intro 0 (Exists.intro vq3 (Exists.intro σq3 (And.intro (Nat.le_of_ble_eq_true rfl) (And.intro (ok_M_wrongAt_84 hq3) ?_))))
    obtain ⟨g4, h⟩ := px_gd h
    refine And.intro g4 ?_
    exact Prod.mk.inj (Option.some.inj h)
theorem ok_M_takes_84 {l : Launch} {a1 : Int} {σ : pS} {v : Int} {σ1 : pS} (h : f_M_takes_84 a1 σ = some (v, σ1)) : Con l 1 162 [.inr 84, .inl a1] σ v σ1 := Con_mk 2 2 rfl (by decide +kernel) (fun _ H => ok_M_takes_84_w H _ _ h)
theorem ok_M_isDigit_84_w {l : Launch} {rv : Int} {rσ : pS} {G : Nat → pL → List pV → pS → Prop} (H : px_R l 1 149 rv rσ G) : ∀ (σ : pS), f_M_isDigit_84  σ = some (rv, rσ) → G 0 [some (.inr 84)] [] σ := by
  intro  σ h
  unfold f_M_isDigit_84 at h
  refine H [((2, 0, 0, 0, []), 1), ((23, 144, 0, 1, [(0, 84)]), 3), ((0, 0, 0, 48, []), 2), ((13, 2, 22, 0, []), 3), ((2, 0, 0, 0, []), 1), ((23, 144, 0, 1, [(0, 84)]), 3), ((0, 0, 0, 57, []), 2), ((13, 4, 22, 0, []), 3), ((0, 0, 0, 1, []), 1), ((12, 0, 23, 0, []), 3), ((27, 1, 0, 0, []), 1)] 0 _ _ _ (by decide +kernel) ?_
  obtain ⟨⟨vq1, σq1⟩, hq1, h⟩ := px_bind h
  dsimp only at h
  refine Exists.intro 0 (Exists.intro vq1 (Exists.intro σq1 (And.intro (Nat.le_of_ble_eq_true rfl) (And.intro (ok_M_here_84 hq1) ?_))))
  rcases px_ite h with ⟨c2, h⟩ | ⟨c2, h⟩
  · refine And.intro (fun _ => ?_) (fun hn => absurd c2 hn)
    refine H [((0, 0, 0, 0, []), 1), ((27, 1, 0, 0, []), 1)] 22 _ _ _ (by decide +kernel) ?_
    refine And.intro (show (0 : Int) ≤ 0 ∧ (0 : Int) ≤ 1 from by decide) ?_
    exact Prod.mk.inj (Option.some.inj h)
  · refine And.intro (fun hp => absurd hp c2) (fun _ => ?_)
    obtain ⟨⟨vq3, σq3⟩, hq3, h⟩ := px_bind h
    dsimp only at h
    refine Exists.intro 0 (Exists.intro vq3 (Exists.intro σq3 (And.intro (Nat.le_of_ble_eq_true rfl) (And.intro (ok_M_here_84 hq3) ?_))))
    rcases px_ite h with ⟨c4, h⟩ | ⟨c4, h⟩
    · refine And.intro (fun _ => ?_) (fun hn => absurd c4 hn)
      refine H [((0, 0, 0, 0, []), 1), ((27, 1, 0, 0, []), 1)] 22 _ _ _ (by decide +kernel) ?_
      refine And.intro (show (0 : Int) ≤ 0 ∧ (0 : Int) ≤ 1 from by decide) ?_
      exact Prod.mk.inj (Option.some.inj h)
    · refine And.intro (fun hp => absurd hp c4) (fun _ => ?_)
      refine And.intro (show (0 : Int) ≤ 1 ∧ (1 : Int) ≤ 1 from by decide) ?_
      exact Prod.mk.inj (Option.some.inj h)
theorem ok_M_isDigit_84 {l : Launch} {σ : pS} {v : Int} {σ1 : pS} (h : f_M_isDigit_84  σ = some (v, σ1)) : Con l 1 149 [.inr 84] σ v σ1 := Con_mk 1 1 rfl (by decide +kernel) (fun _ H => ok_M_isDigit_84_w H  _ h)
theorem ok_M_readsAmount_84_p27 {l : Launch} {rv : Int} {rσ : pS} {G : Nat → pL → List pV → pS → Prop} (H : px_R l 2 169 rv rσ G) : ∀ (n : Nat) (a1 : Int) (σ : pS), f_M_readsAmount_84_p27 n a1 σ = some (rv, rσ) → G 27 [some (.inr 84), some (.inl a1)] [] σ := by
  intro n
  induction n with
  | zero =>
    intro a1 σ h
    unfold f_M_readsAmount_84_p27 at h
    cases h
  | succ n ih =>
    intro a1 σ h
    unfold f_M_readsAmount_84_p27 at h
    refine H [((2, 0, 0, 0, []), 1), ((23, 149, 0, 1, [(0, 84)]), 3), ((14, 0, 86, 0, []), 3), ((2, 0, 0, 0, []), 1), ((16, 84, 19, 0, []), 3), ((1, 1, 0, 0, []), 1), ((0, 0, 0, 4, []), 1), ((6, 0, 0, 0, []), 1), ((13, 1, 54, 0, []), 3), ((2, 0, 0, 0, []), 1), ((0, 0, 0, 2, []), 1), ((2, 0, 0, 0, []), 1), ((16, 84, 19, 0, []), 3), ((23, 145, 2, 1, [(0, 84)]), 3), ((27, 1, 0, 0, []), 1)] 27 _ _ _ (by decide +kernel) ?_
    obtain ⟨⟨vq3, σq3⟩, hq3, h⟩ := px_bind h
    dsimp only at h
    refine Exists.intro 1 (Exists.intro vq3 (Exists.intro σq3 (And.intro (Nat.le_of_ble_eq_true rfl) (And.intro (ok_M_isDigit_84 hq3) ?_))))
    rcases px_ite h with ⟨c4, h⟩ | ⟨c4, h⟩
    · refine And.intro (fun _ => ?_) (fun hn => absurd c4 hn)
      refine H [((0, 0, 0, 1, []), 1), ((27, 1, 0, 0, []), 1)] 86 _ _ _ (by decide +kernel) ?_
      refine And.intro (show (0 : Int) ≤ 1 ∧ (1 : Int) ≤ 1 from by decide) ?_
      exact Prod.mk.inj (Option.some.inj h)
    · refine And.intro (fun hp => absurd hp c4) (fun _ => ?_)
      rcases px_ite h with ⟨c5, h⟩ | ⟨c5, h⟩
      · refine And.intro (fun hp => absurd c5 hp) (fun _ => ?_)
        obtain ⟨⟨vq7, σq7⟩, hq7, h⟩ := px_bind h
        dsimp only at h
        refine Exists.intro 0 (Exists.intro vq7 (Exists.intro σq7 (And.intro (Nat.le_of_ble_eq_true rfl) (And.intro (ok_M_wrongAt_84 hq7) ?_))))
        obtain ⟨g8, h⟩ := px_gd h
        refine And.intro g8 ?_
        exact Prod.mk.inj (Option.some.inj h)
      · refine And.intro (fun _ => ?_) (fun hn => absurd c5 hn)
        refine H [((2, 0, 0, 0, []), 1), ((0, 0, 0, 10, []), 2), ((2, 0, 0, 0, []), 1), ((16, 84, 22, 0, []), 3), ((6, 2, 0, 0, []), 1), ((2, 0, 0, 0, []), 1), ((23, 144, 0, 1, [(0, 84)]), 3), ((6, 0, 0, 0, []), 1), ((0, 0, 0, 48, []), 2), ((6, 1, 0, 0, []), 1), ((18, 84, 22, 0, []), 3), ((2, 0, 0, 0, []), 1), ((2, 0, 0, 0, []), 1), ((16, 84, 19, 0, []), 3), ((0, 0, 0, 1, []), 1), ((6, 0, 0, 0, []), 1), ((18, 84, 19, 0, []), 3), ((12, 0, 27, 0, []), 3)] 54 _ _ _ (by decide +kernel) ?_
        obtain ⟨⟨vq6, σq6⟩, hq6, h⟩ := px_bind h
        dsimp only at h
        refine Exists.intro 0 (Exists.intro vq6 (Exists.intro σq6 (And.intro (Nat.le_of_ble_eq_true rfl) (And.intro (ok_M_here_84 hq6) ?_))))
        exact ih _ _ h
theorem ok_M_readsAmount_84_w {l : Launch} {rv : Int} {rσ : pS} {G : Nat → pL → List pV → pS → Prop} (H : px_R l 2 169 rv rσ G) : ∀ (σ : pS), f_M_readsAmount_84  σ = some (rv, rσ) → G 0 [some (.inr 84), none] [] σ := by
  intro  σ h
  unfold f_M_readsAmount_84 at h
  refine H [((2, 0, 0, 0, []), 1), ((16, 84, 19, 0, []), 3), ((3, 1, 0, 0, []), 1), ((2, 0, 0, 0, []), 1), ((23, 149, 0, 1, [(0, 84)]), 3), ((14, 1, 22, 0, []), 3), ((2, 0, 0, 0, []), 1), ((0, 0, 0, 1, []), 1), ((2, 0, 0, 0, []), 1), ((16, 84, 19, 0, []), 3), ((23, 145, 2, 1, [(0, 84)]), 3), ((27, 1, 0, 0, []), 1)] 0 _ _ _ (by decide +kernel) ?_
  obtain ⟨⟨vq1, σq1⟩, hq1, h⟩ := px_bind h
  dsimp only at h
  refine Exists.intro 1 (Exists.intro vq1 (Exists.intro σq1 (And.intro (Nat.le_of_ble_eq_true rfl) (And.intro (ok_M_isDigit_84 hq1) ?_))))
  rcases px_ite h with ⟨c2, h⟩ | ⟨c2, h⟩
  · refine And.intro (fun hp => absurd c2 hp) (fun _ => ?_)
    obtain ⟨⟨vq9, σq9⟩, hq9, h⟩ := px_bind h
    dsimp only at h
    refine Exists.intro 0 (Exists.intro vq9 (Exists.intro σq9 (And.intro (Nat.le_of_ble_eq_true rfl) (And.intro (ok_M_wrongAt_84 hq9) ?_))))
    obtain ⟨g10, h⟩ := px_gd h
    refine And.intro g10 ?_
    exact Prod.mk.inj (Option.some.inj h)
  · refine And.intro (fun _ => ?_) (fun hn => absurd c2 hn)
    refine H [((2, 0, 0, 0, []), 1), ((0, 0, 0, 0, []), 1), ((18, 84, 22, 0, []), 3)] 22 _ _ _ (by decide +kernel) ?_
    exact ok_M_readsAmount_84_p27 H _ _ _ h
theorem ok_M_readsAmount_84 {l : Launch} {σ : pS} {v : Int} {σ1 : pS} (h : f_M_readsAmount_84  σ = some (v, σ1)) : Con l 2 169 [.inr 84] σ v σ1 := Con_mk 1 2 rfl (by decide +kernel) (fun _ H => ok_M_readsAmount_84_w H  _ h)
theorem ok_M_readsPlace_84_p56 {l : Launch} {rv : Int} {rσ : pS} {G : Nat → pL → List pV → pS → Prop} (H : px_R l 3 168 rv rσ G) : ∀ (a1 : Int) (σ : pS), f_M_readsPlace_84_p56 a1 σ = some (rv, rσ) → G 56 [some (.inr 84), some (.inl a1)] [] σ := by
  intro a1 σ h
  unfold f_M_readsPlace_84_p56 at h
  refine H [((2, 0, 0, 0, []), 1), ((23, 169, 0, 1, [(0, 84)]), 3), ((14, 1, 65, 0, []), 3), ((0, 0, 0, 0, []), 1), ((27, 1, 0, 0, []), 1)] 56 _ _ _ (by decide +kernel) ?_
  obtain ⟨⟨vq4, σq4⟩, hq4, h⟩ := px_bind h
  dsimp only at h
  refine Exists.intro 2 (Exists.intro vq4 (Exists.intro σq4 (And.intro (Nat.le_of_ble_eq_true rfl) (And.intro (ok_M_readsAmount_84 hq4) ?_))))
  rcases px_ite h with ⟨c5, h⟩ | ⟨c5, h⟩
  · refine And.intro (fun hp => absurd c5 hp) (fun _ => ?_)
    refine And.intro (show (0 : Int) ≤ 0 ∧ (0 : Int) ≤ 1 from by decide) ?_
    exact Prod.mk.inj (Option.some.inj h)
  · refine And.intro (fun _ => ?_) (fun hn => absurd c5 hn)
    refine H [((2, 0, 0, 0, []), 1), ((17, 84, 117, 0, []), 3), ((1, 1, 0, 0, []), 1), ((2, 0, 0, 0, []), 1), ((16, 84, 22, 0, []), 3), ((20, 117, 20, 0, []), 1), ((0, 0, 0, 1, []), 1), ((27, 1, 0, 0, []), 1)] 65 _ _ _ (by decide +kernel) ?_
    obtain ⟨g6, h⟩ := px_gd h
    refine And.intro g6 ?_
    refine And.intro (show (0 : Int) ≤ 1 ∧ (1 : Int) ≤ 1 from by decide) ?_
    exact Prod.mk.inj (Option.some.inj h)
theorem ok_M_readsPlace_84_w {l : Launch} {rv : Int} {rσ : pS} {G : Nat → pL → List pV → pS → Prop} (H : px_R l 3 168 rv rσ G) : ∀ (a1 : Int) (σ : pS), f_M_readsPlace_84 a1 σ = some (rv, rσ) → G 0 [some (.inr 84), some (.inl a1)] [] σ := by
  intro a1 σ h
  unfold f_M_readsPlace_84 at h
  refine H [((2, 0, 0, 0, []), 1), ((17, 84, 116, 0, []), 3), ((1, 1, 0, 0, []), 1), ((0, 0, 0, (-1), []), 1), ((20, 116, 20, 0, []), 1), ((2, 0, 0, 0, []), 1), ((23, 144, 0, 1, [(0, 84)]), 3), ((0, 0, 0, 114, []), 2), ((13, 1, 56, 0, []), 3), ((2, 0, 0, 0, []), 1), ((2, 0, 0, 0, []), 1), ((16, 84, 19, 0, []), 3), ((0, 0, 0, 1, []), 1), ((6, 0, 0, 0, []), 1), ((18, 84, 19, 0, []), 3), ((2, 0, 0, 0, []), 1), ((23, 167, 0, 1, [(0, 84)]), 3), ((14, 1, 35, 0, []), 3), ((0, 0, 0, 0, []), 1), ((27, 1, 0, 0, []), 1)] 0 _ _ _ (by decide +kernel) ?_
  obtain ⟨g1, h⟩ := px_gd h
  refine And.intro g1 ?_
  obtain ⟨⟨vq2, σq2⟩, hq2, h⟩ := px_bind h
  dsimp only at h
  refine Exists.intro 0 (Exists.intro vq2 (Exists.intro σq2 (And.intro (Nat.le_of_ble_eq_true rfl) (And.intro (ok_M_here_84 hq2) ?_))))
  rcases px_ite h with ⟨c3, h⟩ | ⟨c3, h⟩
  · refine And.intro (fun hp => absurd c3 hp) (fun _ => ?_)
    obtain ⟨⟨vq7, σq7⟩, hq7, h⟩ := px_bind h
    dsimp only at h
    refine Exists.intro 1 (Exists.intro vq7 (Exists.intro σq7 (And.intro (Nat.le_of_ble_eq_true rfl) (And.intro (ok_M_readsRegister_84 hq7) ?_))))
    rcases px_ite h with ⟨c8, h⟩ | ⟨c8, h⟩
    · refine And.intro (fun hp => absurd c8 hp) (fun _ => ?_)
      refine And.intro (show (0 : Int) ≤ 0 ∧ (0 : Int) ≤ 1 from by decide) ?_
      exact Prod.mk.inj (Option.some.inj h)
    · refine And.intro (fun _ => ?_) (fun hn => absurd c8 hn)
      refine H [((2, 0, 0, 0, []), 1), ((17, 84, 116, 0, []), 3), ((1, 1, 0, 0, []), 1), ((2, 0, 0, 0, []), 1), ((16, 84, 22, 0, []), 3), ((20, 116, 20, 0, []), 1), ((2, 0, 0, 0, []), 1), ((0, 0, 0, 43, []), 2), ((23, 162, 1, 1, [(0, 84)]), 3), ((14, 1, 56, 0, []), 3), ((0, 0, 0, 0, []), 1), ((27, 1, 0, 0, []), 1)] 35 _ _ _ (by decide +kernel) ?_
      obtain ⟨g9, h⟩ := px_gd h
      refine And.intro g9 ?_
      obtain ⟨⟨vq10, σq10⟩, hq10, h⟩ := px_bind h
      dsimp only at h
      refine Exists.intro 1 (Exists.intro vq10 (Exists.intro σq10 (And.intro (Nat.le_of_ble_eq_true rfl) (And.intro (ok_M_takes_84 hq10) ?_))))
      rcases px_ite h with ⟨c11, h⟩ | ⟨c11, h⟩
      · refine And.intro (fun hp => absurd c11 hp) (fun _ => ?_)
        refine And.intro (show (0 : Int) ≤ 0 ∧ (0 : Int) ≤ 1 from by decide) ?_
        exact Prod.mk.inj (Option.some.inj h)
      · refine And.intro (fun _ => ?_) (fun hn => absurd c11 hn)
        exact ok_M_readsPlace_84_p56 H _ _ h
  · refine And.intro (fun _ => ?_) (fun hn => absurd c3 hn)
    exact ok_M_readsPlace_84_p56 H _ _ h
theorem ok_M_readsPlace_84 {l : Launch} {a1 : Int} {σ : pS} {v : Int} {σ1 : pS} (h : f_M_readsPlace_84 a1 σ = some (v, σ1)) : Con l 3 168 [.inr 84, .inl a1] σ v σ1 := Con_mk 2 2 rfl (by decide +kernel) (fun _ H => ok_M_readsPlace_84_w H _ _ h)
theorem ok_M_readsOp_84_p177 {l : Launch} {rv : Int} {rσ : pS} {G : Nat → pL → List pV → pS → Prop} (H : px_R l 4 164 rv rσ G) : ∀ (a2 : Int) (σ : pS), f_M_readsOp_84_p177 a2 σ = some (rv, rσ) → G 177 [some (.inr 84), none, some (.inl a2)] [] σ := by
  intro a2 σ h
  unfold f_M_readsOp_84_p177 at h
  refine H [((2, 0, 0, 0, []), 1), ((1, 2, 0, 0, []), 1), ((23, 168, 1, 1, [(0, 84)]), 3), ((27, 1, 0, 0, []), 1)] 177 _ _ _ (by decide +kernel) ?_
  obtain ⟨⟨vq20, σq20⟩, hq20, h⟩ := px_bind h
  dsimp only at h
  refine Exists.intro 3 (Exists.intro vq20 (Exists.intro σq20 (And.intro (Nat.le_of_ble_eq_true rfl) (And.intro (ok_M_readsPlace_84 hq20) ?_))))
  obtain ⟨g21, h⟩ := px_gd h
  refine And.intro g21 ?_
  exact Prod.mk.inj (Option.some.inj h)
theorem ok_M_readsOp_84_p137 {l : Launch} {rv : Int} {rσ : pS} {G : Nat → pL → List pV → pS → Prop} (H : px_R l 4 164 rv rσ G) : ∀ (a1 a2 : Int) (σ : pS), f_M_readsOp_84_p137 a1 a2 σ = some (rv, rσ) → G 137 [some (.inr 84), some (.inl a1), some (.inl a2)] [] σ := by
  intro a1 a2 σ h
  unfold f_M_readsOp_84_p137 at h
  refine H [((2, 0, 0, 0, []), 1), ((23, 167, 0, 1, [(0, 84)]), 3), ((14, 1, 146, 0, []), 3), ((0, 0, 0, 0, []), 1), ((27, 1, 0, 0, []), 1)] 137 _ _ _ (by decide +kernel) ?_
  obtain ⟨⟨vq14, σq14⟩, hq14, h⟩ := px_bind h
  dsimp only at h
  refine Exists.intro 1 (Exists.intro vq14 (Exists.intro σq14 (And.intro (Nat.le_of_ble_eq_true rfl) (And.intro (ok_M_readsRegister_84 hq14) ?_))))
  rcases px_ite h with ⟨c15, h⟩ | ⟨c15, h⟩
  · refine And.intro (fun hp => absurd c15 hp) (fun _ => ?_)
    refine And.intro (show (0 : Int) ≤ 0 ∧ (0 : Int) ≤ 1 from by decide) ?_
    exact Prod.mk.inj (Option.some.inj h)
  · refine And.intro (fun _ => ?_) (fun hn => absurd c15 hn)
    refine H [((2, 0, 0, 0, []), 1), ((17, 84, 112, 0, []), 3), ((1, 2, 0, 0, []), 1), ((2, 0, 0, 0, []), 1), ((16, 84, 22, 0, []), 3), ((20, 112, 20, 0, []), 1), ((2, 0, 0, 0, []), 1), ((0, 0, 0, 44, []), 2), ((23, 162, 1, 1, [(0, 84)]), 3), ((14, 1, 167, 0, []), 3), ((0, 0, 0, 0, []), 1), ((27, 1, 0, 0, []), 1)] 146 _ _ _ (by decide +kernel) ?_
    obtain ⟨g16, h⟩ := px_gd h
    refine And.intro g16 ?_
    obtain ⟨⟨vq17, σq17⟩, hq17, h⟩ := px_bind h
    dsimp only at h
    refine Exists.intro 1 (Exists.intro vq17 (Exists.intro σq17 (And.intro (Nat.le_of_ble_eq_true rfl) (And.intro (ok_M_takes_84 hq17) ?_))))
    rcases px_ite h with ⟨c18, h⟩ | ⟨c18, h⟩
    · refine And.intro (fun hp => absurd c18 hp) (fun _ => ?_)
      refine And.intro (show (0 : Int) ≤ 0 ∧ (0 : Int) ≤ 1 from by decide) ?_
      exact Prod.mk.inj (Option.some.inj h)
    · refine And.intro (fun _ => ?_) (fun hn => absurd c18 hn)
      refine H [((1, 1, 0, 0, []), 1), ((0, 0, 0, 2, []), 1), ((13, 0, 177, 0, []), 3), ((1, 1, 0, 0, []), 1), ((0, 0, 0, 3, []), 1), ((13, 1, 183, 0, []), 3), ((29, 1, 0, 0, []), 0)] 167 _ _ _ (by decide +kernel) ?_
      rcases px_ite h with ⟨c19, h⟩ | ⟨c19, h⟩
      · refine And.intro (fun _ => ?_) (fun hn => absurd c19 hn)
        refine H [((29, 1, 0, 0, []), 0)] 177 _ _ _ (by decide +kernel) ?_
        exact ok_M_readsOp_84_p177 H _ _ h
      · refine And.intro (fun hp => absurd hp c19) (fun _ => ?_)
        rcases px_ite h with ⟨c22, h⟩ | ⟨c22, h⟩
        · refine And.intro (fun hp => absurd c22 hp) (fun _ => ?_)
          exact ok_M_readsOp_84_p177 H _ _ h
        · refine And.intro (fun _ => ?_) (fun hn => absurd c22 hn)
          refine H [((1, 1, 0, 0, []), 1), ((14, 1, 208, 0, []), 3), ((2, 0, 0, 0, []), 1), ((23, 169, 0, 1, [(0, 84)]), 3), ((14, 1, 196, 0, []), 3), ((0, 0, 0, 0, []), 1), ((27, 1, 0, 0, []), 1)] 183 _ _ _ (by decide +kernel) ?_
          rcases px_ite h with ⟨c23, h⟩ | ⟨c23, h⟩
          · refine And.intro (fun hp => absurd c23 hp) (fun _ => ?_)
            obtain ⟨⟨vq32, σq32⟩, hq32, h⟩ := px_bind h
            dsimp only at h
            refine Exists.intro 2 (Exists.intro vq32 (Exists.intro σq32 (And.intro (Nat.le_of_ble_eq_true rfl) (And.intro (ok_M_readsAmount_84 hq32) ?_))))
            rcases px_ite h with ⟨c33, h⟩ | ⟨c33, h⟩
            · refine And.intro (fun hp => absurd c33 hp) (fun _ => ?_)
              refine And.intro (show (0 : Int) ≤ 0 ∧ (0 : Int) ≤ 1 from by decide) ?_
              exact Prod.mk.inj (Option.some.inj h)
            · refine And.intro (fun _ => ?_) (fun hn => absurd c33 hn)
              refine H [((2, 0, 0, 0, []), 1), ((17, 84, 117, 0, []), 3), ((1, 2, 0, 0, []), 1), ((2, 0, 0, 0, []), 1), ((16, 84, 22, 0, []), 3), ((20, 117, 20, 0, []), 1), ((0, 0, 0, 1, []), 1), ((27, 1, 0, 0, []), 1)] 196 _ _ _ (by decide +kernel) ?_
              obtain ⟨g34, h⟩ := px_gd h
              refine And.intro g34 ?_
              refine And.intro (show (0 : Int) ≤ 1 ∧ (1 : Int) ≤ 1 from by decide) ?_
              exact Prod.mk.inj (Option.some.inj h)
          · refine And.intro (fun _ => ?_) (fun hn => absurd c23 hn)
            refine H [((2, 0, 0, 0, []), 1), ((23, 167, 0, 1, [(0, 84)]), 3), ((14, 1, 217, 0, []), 3), ((0, 0, 0, 0, []), 1), ((27, 1, 0, 0, []), 1)] 208 _ _ _ (by decide +kernel) ?_
            obtain ⟨⟨vq24, σq24⟩, hq24, h⟩ := px_bind h
            dsimp only at h
            refine Exists.intro 1 (Exists.intro vq24 (Exists.intro σq24 (And.intro (Nat.le_of_ble_eq_true rfl) (And.intro (ok_M_readsRegister_84 hq24) ?_))))
            rcases px_ite h with ⟨c25, h⟩ | ⟨c25, h⟩
            · refine And.intro (fun hp => absurd c25 hp) (fun _ => ?_)
              refine And.intro (show (0 : Int) ≤ 0 ∧ (0 : Int) ≤ 1 from by decide) ?_
              exact Prod.mk.inj (Option.some.inj h)
            · refine And.intro (fun _ => ?_) (fun hn => absurd c25 hn)
              refine H [((2, 0, 0, 0, []), 1), ((17, 84, 113, 0, []), 3), ((1, 2, 0, 0, []), 1), ((2, 0, 0, 0, []), 1), ((16, 84, 22, 0, []), 3), ((20, 113, 20, 0, []), 1), ((2, 0, 0, 0, []), 1), ((0, 0, 0, 44, []), 2), ((23, 162, 1, 1, [(0, 84)]), 3), ((14, 0, 243, 0, []), 3), ((2, 0, 0, 0, []), 1), ((23, 167, 0, 1, [(0, 84)]), 3), ((14, 1, 245, 0, []), 3), ((0, 0, 0, 0, []), 1), ((27, 1, 0, 0, []), 1)] 217 _ _ _ (by decide +kernel) ?_
              obtain ⟨g26, h⟩ := px_gd h
              refine And.intro g26 ?_
              obtain ⟨⟨vq27, σq27⟩, hq27, h⟩ := px_bind h
              dsimp only at h
              refine Exists.intro 1 (Exists.intro vq27 (Exists.intro σq27 (And.intro (Nat.le_of_ble_eq_true rfl) (And.intro (ok_M_takes_84 hq27) ?_))))
              rcases px_ite h with ⟨c28, h⟩ | ⟨c28, h⟩
              · refine And.intro (fun _ => ?_) (fun hn => absurd c28 hn)
                refine H [((0, 0, 0, 0, []), 1), ((27, 1, 0, 0, []), 1)] 243 _ _ _ (by decide +kernel) ?_
                refine And.intro (show (0 : Int) ≤ 0 ∧ (0 : Int) ≤ 1 from by decide) ?_
                exact Prod.mk.inj (Option.some.inj h)
              · refine And.intro (fun hp => absurd hp c28) (fun _ => ?_)
                obtain ⟨⟨vq29, σq29⟩, hq29, h⟩ := px_bind h
                dsimp only at h
                refine Exists.intro 1 (Exists.intro vq29 (Exists.intro σq29 (And.intro (Nat.le_of_ble_eq_true rfl) (And.intro (ok_M_readsRegister_84 hq29) ?_))))
                rcases px_ite h with ⟨c30, h⟩ | ⟨c30, h⟩
                · refine And.intro (fun hp => absurd c30 hp) (fun _ => ?_)
                  refine And.intro (show (0 : Int) ≤ 0 ∧ (0 : Int) ≤ 1 from by decide) ?_
                  exact Prod.mk.inj (Option.some.inj h)
                · refine And.intro (fun _ => ?_) (fun hn => absurd c30 hn)
                  refine H [((2, 0, 0, 0, []), 1), ((17, 84, 114, 0, []), 3), ((1, 2, 0, 0, []), 1), ((2, 0, 0, 0, []), 1), ((16, 84, 22, 0, []), 3), ((20, 114, 20, 0, []), 1), ((0, 0, 0, 1, []), 1), ((27, 1, 0, 0, []), 1)] 245 _ _ _ (by decide +kernel) ?_
                  obtain ⟨g31, h⟩ := px_gd h
                  refine And.intro g31 ?_
                  refine And.intro (show (0 : Int) ≤ 1 ∧ (1 : Int) ≤ 1 from by decide) ?_
                  exact Prod.mk.inj (Option.some.inj h)
theorem ok_M_readsOp_84_p94 {l : Launch} {rv : Int} {rσ : pS} {G : Nat → pL → List pV → pS → Prop} (H : px_R l 4 164 rv rσ G) : ∀ (a1 a2 : Int) (σ : pS), f_M_readsOp_84_p94 a1 a2 σ = some (rv, rσ) → G 94 [some (.inr 84), some (.inl a1), some (.inl a2)] [] σ := by
  intro a1 a2 σ h
  unfold f_M_readsOp_84_p94 at h
  refine H [((2, 0, 0, 0, []), 1), ((17, 84, 115, 0, []), 3), ((1, 2, 0, 0, []), 1), ((2, 0, 0, 0, []), 1), ((23, 144, 0, 1, [(0, 84)]), 3), ((24, 166, 1, 1, []), 3), ((20, 115, 20, 0, []), 1), ((2, 0, 0, 0, []), 1), ((17, 84, 115, 0, []), 3), ((1, 2, 0, 0, []), 1), ((19, 115, 20, 0, []), 1), ((0, 0, 0, (-1), []), 1), ((13, 1, 127, 0, []), 3), ((2, 0, 0, 0, []), 1), ((0, 0, 0, 1, []), 1), ((2, 0, 0, 0, []), 1), ((16, 84, 19, 0, []), 3), ((23, 145, 2, 1, [(0, 84)]), 3), ((27, 1, 0, 0, []), 1)] 94 _ _ _ (by decide +kernel) ?_
  obtain ⟨⟨vq9, σq9⟩, hq9, h⟩ := px_bind h
  dsimp only at h
  refine Exists.intro 0 (Exists.intro vq9 (Exists.intro σq9 (And.intro (Nat.le_of_ble_eq_true rfl) (And.intro (ok_M_here_84 hq9) ?_))))
  obtain ⟨⟨vq10, σq10⟩, hq10, h⟩ := px_bind h
  dsimp only at h
  refine Exists.intro 0 (Exists.intro vq10 (Exists.intro σq10 (And.intro (Nat.le_of_ble_eq_true rfl) (And.intro (ok_M_sizeBy hq10) ?_))))
  obtain ⟨g11, h⟩ := px_gd h
  refine And.intro g11 ?_
  obtain ⟨g12, h⟩ := px_gd h
  refine And.intro g12 ?_
  rcases px_ite h with ⟨c13, h⟩ | ⟨c13, h⟩
  · refine And.intro (fun hp => absurd c13 hp) (fun _ => ?_)
    obtain ⟨⟨vq35, σq35⟩, hq35, h⟩ := px_bind h
    dsimp only at h
    refine Exists.intro 0 (Exists.intro vq35 (Exists.intro σq35 (And.intro (Nat.le_of_ble_eq_true rfl) (And.intro (ok_M_wrongAt_84 hq35) ?_))))
    obtain ⟨g36, h⟩ := px_gd h
    refine And.intro g36 ?_
    exact Prod.mk.inj (Option.some.inj h)
  · refine And.intro (fun _ => ?_) (fun hn => absurd c13 hn)
    refine H [((2, 0, 0, 0, []), 1), ((2, 0, 0, 0, []), 1), ((16, 84, 19, 0, []), 3), ((0, 0, 0, 1, []), 1), ((6, 0, 0, 0, []), 1), ((18, 84, 19, 0, []), 3)] 127 _ _ _ (by decide +kernel) ?_
    exact ok_M_readsOp_84_p137 H _ _ _ h
theorem ok_M_readsOp_84_w {l : Launch} {rv : Int} {rσ : pS} {G : Nat → pL → List pV → pS → Prop} (H : px_R l 4 164 rv rσ G) : ∀ (σ : pS), f_M_readsOp_84  σ = some (rv, rσ) → G 0 [some (.inr 84), none, none] [] σ := by
  intro  σ h
  unfold f_M_readsOp_84 at h
  refine H [((2, 0, 0, 0, []), 1), ((23, 144, 0, 1, [(0, 84)]), 3), ((24, 165, 1, 1, []), 3), ((3, 1, 0, 0, []), 1), ((1, 1, 0, 0, []), 1), ((0, 0, 0, (-1), []), 1), ((13, 1, 23, 0, []), 3), ((2, 0, 0, 0, []), 1), ((0, 0, 0, 1, []), 1), ((2, 0, 0, 0, []), 1), ((16, 84, 19, 0, []), 3), ((23, 145, 2, 1, [(0, 84)]), 3), ((27, 1, 0, 0, []), 1)] 0 _ _ _ (by decide +kernel) ?_
  obtain ⟨⟨vq1, σq1⟩, hq1, h⟩ := px_bind h
  dsimp only at h
  refine Exists.intro 0 (Exists.intro vq1 (Exists.intro σq1 (And.intro (Nat.le_of_ble_eq_true rfl) (And.intro (ok_M_here_84 hq1) ?_))))
  obtain ⟨⟨vq2, σq2⟩, hq2, h⟩ := px_bind h
  dsimp only at h
  refine Exists.intro 0 (Exists.intro vq2 (Exists.intro σq2 (And.intro (Nat.le_of_ble_eq_true rfl) (And.intro (ok_M_kindBy hq2) ?_))))
  rcases px_ite h with ⟨c3, h⟩ | ⟨c3, h⟩
  · refine And.intro (fun hp => absurd c3 hp) (fun _ => ?_)
    obtain ⟨⟨vq40, σq40⟩, hq40, h⟩ := px_bind h
    dsimp only at h
    refine Exists.intro 0 (Exists.intro vq40 (Exists.intro σq40 (And.intro (Nat.le_of_ble_eq_true rfl) (And.intro (ok_M_wrongAt_84 hq40) ?_))))
    obtain ⟨g41, h⟩ := px_gd h
    refine And.intro g41 ?_
    exact Prod.mk.inj (Option.some.inj h)
  · refine And.intro (fun _ => ?_) (fun hn => absurd c3 hn)
    refine H [((2, 0, 0, 0, []), 1), ((16, 84, 41, 0, []), 3), ((0, 0, 0, 20, []), 2), ((13, 1, 42, 0, []), 3), ((2, 0, 0, 0, []), 1), ((0, 0, 0, 4, []), 1), ((2, 0, 0, 0, []), 1), ((16, 84, 19, 0, []), 3), ((23, 145, 2, 1, [(0, 84)]), 3), ((27, 1, 0, 0, []), 1)] 23 _ _ _ (by decide +kernel) ?_
    rcases px_ite h with ⟨c4, h⟩ | ⟨c4, h⟩
    · refine And.intro (fun hp => absurd c4 hp) (fun _ => ?_)
      obtain ⟨⟨vq38, σq38⟩, hq38, h⟩ := px_bind h
      dsimp only at h
      refine Exists.intro 0 (Exists.intro vq38 (Exists.intro σq38 (And.intro (Nat.le_of_ble_eq_true rfl) (And.intro (ok_M_wrongAt_84 hq38) ?_))))
      obtain ⟨g39, h⟩ := px_gd h
      refine And.intro g39 ?_
      exact Prod.mk.inj (Option.some.inj h)
    · refine And.intro (fun _ => ?_) (fun hn => absurd c4 hn)
      refine H [((2, 0, 0, 0, []), 1), ((16, 84, 41, 0, []), 3), ((3, 2, 0, 0, []), 1), ((2, 0, 0, 0, []), 1), ((2, 0, 0, 0, []), 1), ((16, 84, 41, 0, []), 3), ((0, 0, 0, 1, []), 1), ((6, 0, 0, 0, []), 1), ((18, 84, 41, 0, []), 3), ((2, 0, 0, 0, []), 1), ((17, 84, 110, 0, []), 3), ((1, 2, 0, 0, []), 1), ((1, 1, 0, 0, []), 1), ((20, 110, 20, 0, []), 1), ((2, 0, 0, 0, []), 1), ((17, 84, 111, 0, []), 3), ((1, 2, 0, 0, []), 1), ((2, 0, 0, 0, []), 1), ((23, 144, 0, 1, [(0, 84)]), 3), ((20, 111, 20, 0, []), 1), ((2, 0, 0, 0, []), 1), ((2, 0, 0, 0, []), 1), ((16, 84, 19, 0, []), 3), ((0, 0, 0, 1, []), 1), ((6, 0, 0, 0, []), 1), ((18, 84, 19, 0, []), 3), ((1, 1, 0, 0, []), 1), ((0, 0, 0, 2, []), 1), ((13, 0, 94, 0, []), 3), ((1, 1, 0, 0, []), 1), ((0, 0, 0, 3, []), 1), ((13, 1, 137, 0, []), 3)] 42 _ _ _ (by decide +kernel) ?_
      obtain ⟨g5, h⟩ := px_gd h
      refine And.intro g5 ?_
      obtain ⟨⟨vq6, σq6⟩, hq6, h⟩ := px_bind h
      dsimp only at h
      refine Exists.intro 0 (Exists.intro vq6 (Exists.intro σq6 (And.intro (Nat.le_of_ble_eq_true rfl) (And.intro (ok_M_here_84 hq6) ?_))))
      obtain ⟨g7, h⟩ := px_gd h
      refine And.intro g7 ?_
      rcases px_ite h with ⟨c8, h⟩ | ⟨c8, h⟩
      · refine And.intro (fun _ => ?_) (fun hn => absurd c8 hn)
        exact ok_M_readsOp_84_p94 H _ _ _ h
      · refine And.intro (fun hp => absurd hp c8) (fun _ => ?_)
        rcases px_ite h with ⟨c37, h⟩ | ⟨c37, h⟩
        · refine And.intro (fun hp => absurd c37 hp) (fun _ => ?_)
          exact ok_M_readsOp_84_p94 H _ _ _ h
        · refine And.intro (fun _ => ?_) (fun hn => absurd c37 hn)
          exact ok_M_readsOp_84_p137 H _ _ _ h
theorem ok_M_readsOp_84 {l : Launch} {σ : pS} {v : Int} {σ1 : pS} (h : f_M_readsOp_84  σ = some (v, σ1)) : Con l 4 164 [.inr 84] σ v σ1 := Con_mk 1 3 rfl (by decide +kernel) (fun _ H => ok_M_readsOp_84_w H  _ h)
theorem ok_M_program_84_p100 {l : Launch} {rv : Int} {rσ : pS} {G : Nat → pL → List pV → pS → Prop} (H : px_R l 5 163 rv rσ G) : ∀ (n : Nat) (a3 : Int) (σ : pS), f_M_program_84_p100 n a3 σ = some (rv, rσ) → G 100 [some (.inr 84), none, none, some (.inl a3)] [] σ := by
  intro n
  induction n with
  | zero =>
    intro a3 σ h
    unfold f_M_program_84_p100 at h
    cases h
  | succ n ih =>
    intro a3 σ h
    unfold f_M_program_84_p100 at h
    refine H [((1, 3, 0, 0, []), 1), ((2, 0, 0, 0, []), 1), ((16, 84, 2, 0, []), 3), ((13, 3, 217, 0, []), 3), ((2, 0, 0, 0, []), 1), ((17, 84, 88, 0, []), 3), ((1, 3, 0, 0, []), 1), ((2, 0, 0, 0, []), 1), ((17, 84, 110, 0, []), 3), ((1, 3, 0, 0, []), 1), ((19, 110, 20, 0, []), 1), ((20, 88, 20, 0, []), 1), ((2, 0, 0, 0, []), 1), ((17, 84, 89, 0, []), 3), ((1, 3, 0, 0, []), 1), ((2, 0, 0, 0, []), 1), ((17, 84, 111, 0, []), 3), ((1, 3, 0, 0, []), 1), ((19, 111, 20, 0, []), 1), ((20, 89, 20, 0, []), 1), ((2, 0, 0, 0, []), 1), ((17, 84, 90, 0, []), 3), ((1, 3, 0, 0, []), 1), ((2, 0, 0, 0, []), 1), ((17, 84, 112, 0, []), 3), ((1, 3, 0, 0, []), 1), ((19, 112, 20, 0, []), 1), ((20, 90, 20, 0, []), 1), ((2, 0, 0, 0, []), 1), ((17, 84, 91, 0, []), 3), ((1, 3, 0, 0, []), 1), ((2, 0, 0, 0, []), 1), ((17, 84, 113, 0, []), 3), ((1, 3, 0, 0, []), 1), ((19, 113, 20, 0, []), 1), ((20, 91, 20, 0, []), 1), ((2, 0, 0, 0, []), 1), ((17, 84, 92, 0, []), 3), ((1, 3, 0, 0, []), 1), ((2, 0, 0, 0, []), 1), ((17, 84, 114, 0, []), 3), ((1, 3, 0, 0, []), 1), ((19, 114, 20, 0, []), 1), ((20, 92, 20, 0, []), 1), ((2, 0, 0, 0, []), 1), ((17, 84, 93, 0, []), 3), ((1, 3, 0, 0, []), 1), ((2, 0, 0, 0, []), 1), ((17, 84, 115, 0, []), 3), ((1, 3, 0, 0, []), 1), ((19, 115, 20, 0, []), 1), ((20, 93, 20, 0, []), 1), ((2, 0, 0, 0, []), 1), ((17, 84, 94, 0, []), 3), ((1, 3, 0, 0, []), 1), ((2, 0, 0, 0, []), 1), ((17, 84, 116, 0, []), 3), ((1, 3, 0, 0, []), 1), ((19, 116, 20, 0, []), 1), ((20, 94, 20, 0, []), 1), ((2, 0, 0, 0, []), 1), ((17, 84, 95, 0, []), 3), ((1, 3, 0, 0, []), 1), ((2, 0, 0, 0, []), 1), ((17, 84, 117, 0, []), 3), ((1, 3, 0, 0, []), 1), ((19, 117, 20, 0, []), 1), ((20, 95, 20, 0, []), 1), ((2, 0, 0, 0, []), 1), ((17, 84, 87, 0, []), 3), ((1, 3, 0, 0, []), 1), ((0, 0, 0, (-1), []), 1), ((20, 87, 20, 0, []), 1), ((5, 3, 0, 1, []), 3), ((12, 0, 100, 0, []), 3)] 100 _ _ _ (by decide +kernel) ?_
    rcases px_ite h with ⟨c8, h⟩ | ⟨c8, h⟩
    · refine And.intro (fun _ => ?_) (fun hn => absurd c8 hn)
      refine H [((2, 0, 0, 0, []), 1), ((0, 0, 0, 0, []), 1), ((18, 84, 3, 0, []), 3), ((2, 0, 0, 0, []), 1), ((0, 0, 0, 0, []), 1), ((18, 84, 75, 1, []), 3), ((2, 0, 0, 0, []), 1), ((17, 84, 145, 0, []), 3), ((0, 0, 0, 0, []), 1), ((0, 0, 0, 0, []), 1), ((20, 145, 2, 0, []), 1), ((2, 0, 0, 0, []), 1), ((17, 84, 145, 0, []), 3), ((0, 0, 0, 1, []), 1), ((0, 0, 0, 0, []), 1), ((20, 145, 2, 0, []), 1), ((2, 0, 0, 0, []), 1), ((2, 0, 0, 0, []), 1), ((16, 84, 5, 0, []), 3), ((0, 0, 0, 1, []), 1), ((6, 0, 0, 0, []), 1), ((18, 84, 5, 0, []), 3), ((2, 0, 0, 0, []), 1), ((16, 84, 2, 0, []), 3), ((27, 0, 0, 0, []), 1)] 217 _ _ _ (by decide +kernel) ?_
      refine And.intro (show (0 : Int) ≤ 0 ∧ (0 : Int) ≤ 1 from by decide) ?_
      refine And.intro (show (0 : Int) ≤ 0 ∧ (0 : Int) < 2 from by decide) ?_
      refine And.intro (show (0 : Int) ≤ 1 ∧ (1 : Int) < 2 from by decide) ?_
      exact Prod.mk.inj (Option.some.inj h)
    · refine And.intro (fun hp => absurd hp c8) (fun _ => ?_)
      obtain ⟨g9, h⟩ := px_gd h
      refine And.intro g9 ?_
      obtain ⟨g10, h⟩ := px_gd h
      refine And.intro g10 ?_
      obtain ⟨g11, h⟩ := px_gd h
      refine And.intro g11 ?_
      obtain ⟨g12, h⟩ := px_gd h
      refine And.intro g12 ?_
      obtain ⟨g13, h⟩ := px_gd h
      refine And.intro g13 ?_
      obtain ⟨g14, h⟩ := px_gd h
      refine And.intro g14 ?_
      obtain ⟨g15, h⟩ := px_gd h
      refine And.intro g15 ?_
      obtain ⟨g16, h⟩ := px_gd h
      refine And.intro g16 ?_
      obtain ⟨g17, h⟩ := px_gd h
      refine And.intro g17 ?_
      obtain ⟨g18, h⟩ := px_gd h
      refine And.intro g18 ?_
      obtain ⟨g19, h⟩ := px_gd h
      refine And.intro g19 ?_
      obtain ⟨g20, h⟩ := px_gd h
      refine And.intro g20 ?_
      obtain ⟨g21, h⟩ := px_gd h
      refine And.intro g21 ?_
      obtain ⟨g22, h⟩ := px_gd h
      refine And.intro g22 ?_
      obtain ⟨g23, h⟩ := px_gd h
      refine And.intro g23 ?_
      obtain ⟨g24, h⟩ := px_gd h
      refine And.intro g24 ?_
      obtain ⟨g25, h⟩ := px_gd h
      refine And.intro g25 ?_
      exact ih _ _ h
theorem ok_M_program_84_p76 {l : Launch} {rv : Int} {rσ : pS} {G : Nat → pL → List pV → pS → Prop} (H : px_R l 5 163 rv rσ G) : ∀ (a2 : Int) (σ : pS), f_M_program_84_p76 a2 σ = some (rv, rσ) → G 76 [some (.inr 84), none, some (.inl a2), none] [] σ := by
  intro a2 σ h
  unfold f_M_program_84_p76 at h
  refine H [((2, 0, 0, 0, []), 1), ((0, 0, 0, 0, []), 1), ((18, 84, 18, 0, []), 3), ((1, 2, 0, 0, []), 1), ((14, 1, 90, 0, []), 3), ((2, 0, 0, 0, []), 1), ((16, 84, 21, 0, []), 3), ((27, 0, 0, 0, []), 1)] 76 _ _ _ (by decide +kernel) ?_
  rcases px_ite h with ⟨c7, h⟩ | ⟨c7, h⟩
  · refine And.intro (fun hp => absurd c7 hp) (fun _ => ?_)
    exact Prod.mk.inj (Option.some.inj h)
  · refine And.intro (fun _ => ?_) (fun hn => absurd c7 hn)
    refine H [((2, 0, 0, 0, []), 1), ((2, 0, 0, 0, []), 1), ((16, 84, 41, 0, []), 3), ((18, 84, 2, 0, []), 3), ((0, 0, 0, 0, []), 1), ((3, 3, 0, 0, []), 1), ((29, 2, 0, 0, []), 0)] 90 _ _ _ (by decide +kernel) ?_
    exact ok_M_program_84_p100 H _ _ _ h
theorem ok_M_program_84_p36 {l : Launch} {rv : Int} {rσ : pS} {G : Nat → pL → List pV → pS → Prop} (H : px_R l 5 163 rv rσ G) : ∀ (n : Nat) (a2 : Int) (σ : pS), f_M_program_84_p36 n a2 σ = some (rv, rσ) → G 36 [some (.inr 84), none, some (.inl a2), none] [] σ := by
  intro n
  induction n with
  | zero =>
    intro a2 σ h
    unfold f_M_program_84_p36 at h
    cases h
  | succ n ih =>
    intro a2 σ h
    unfold f_M_program_84_p36 at h
    refine H [((1, 2, 0, 0, []), 1), ((14, 0, 76, 0, []), 3), ((2, 0, 0, 0, []), 1), ((16, 84, 19, 0, []), 3), ((2, 0, 0, 0, []), 1), ((16, 84, 20, 0, []), 3), ((13, 3, 76, 0, []), 3), ((2, 0, 0, 0, []), 1), ((0, 0, 0, 59, []), 2), ((23, 162, 1, 1, [(0, 84)]), 3), ((14, 0, 71, 0, []), 3), ((2, 0, 0, 0, []), 1), ((23, 164, 0, 1, [(0, 84)]), 3), ((14, 0, 71, 0, []), 3), ((0, 0, 0, 1, []), 1), ((12, 0, 72, 0, []), 3), ((3, 2, 0, 0, []), 1), ((12, 0, 36, 0, []), 3)] 36 _ _ _ (by decide +kernel) ?_
    rcases px_ite h with ⟨c6, h⟩ | ⟨c6, h⟩
    · refine And.intro (fun _ => ?_) (fun hn => absurd c6 hn)
      exact ok_M_program_84_p76 H _ _ h
    · refine And.intro (fun hp => absurd hp c6) (fun _ => ?_)
      rcases px_ite h with ⟨c26, h⟩ | ⟨c26, h⟩
      · refine And.intro (fun _ => ?_) (fun hn => absurd c26 hn)
        exact ok_M_program_84_p76 H _ _ h
      · refine And.intro (fun hp => absurd hp c26) (fun _ => ?_)
        obtain ⟨⟨vq27, σq27⟩, hq27, h⟩ := px_bind h
        dsimp only at h
        refine Exists.intro 1 (Exists.intro vq27 (Exists.intro σq27 (And.intro (Nat.le_of_ble_eq_true rfl) (And.intro (ok_M_takes_84 hq27) ?_))))
        rcases px_ite h with ⟨c28, h⟩ | ⟨c28, h⟩
        · refine And.intro (fun _ => ?_) (fun hn => absurd c28 hn)
          refine H [((0, 0, 0, 0, []), 1), ((3, 2, 0, 0, []), 1), ((12, 0, 36, 0, []), 3)] 71 _ _ _ (by decide +kernel) ?_
          exact ih _ _ h
        · refine And.intro (fun hp => absurd hp c28) (fun _ => ?_)
          obtain ⟨⟨vq29, σq29⟩, hq29, h⟩ := px_bind h
          dsimp only at h
          refine Exists.intro 4 (Exists.intro vq29 (Exists.intro σq29 (And.intro (Nat.le_of_ble_eq_true rfl) (And.intro (ok_M_readsOp_84 hq29) ?_))))
          rcases px_ite h with ⟨c30, h⟩ | ⟨c30, h⟩
          · refine And.intro (fun _ => ?_) (fun hn => absurd c30 hn)
            refine H [((0, 0, 0, 0, []), 1), ((3, 2, 0, 0, []), 1), ((12, 0, 36, 0, []), 3)] 71 _ _ _ (by decide +kernel) ?_
            exact ih _ _ h
          · refine And.intro (fun hp => absurd hp c30) (fun _ => ?_)
            exact ih _ _ h
theorem ok_M_program_84_w {l : Launch} {rv : Int} {rσ : pS} {G : Nat → pL → List pV → pS → Prop} (H : px_R l 5 163 rv rσ G) : ∀ (a1 : Int) (σ : pS), f_M_program_84 a1 σ = some (rv, rσ) → G 0 [some (.inr 84), some (.inl a1), none, none] [] σ := by
  intro a1 σ h
  unfold f_M_program_84 at h
  refine H [((1, 1, 0, 0, []), 1), ((0, 0, 0, 1, []), 1), ((0, 0, 0, 240, []), 3), ((24, 137, 3, 1, []), 3), ((14, 0, 19, 0, []), 3), ((1, 1, 0, 0, []), 1), ((2, 0, 0, 0, []), 1), ((16, 84, 18, 0, []), 3), ((13, 5, 21, 0, []), 3), ((0, 0, 0, (-1), []), 1), ((27, 0, 0, 0, []), 1)] 0 _ _ _ (by decide +kernel) ?_
  obtain ⟨⟨vq1, σq1⟩, hq1, h⟩ := px_bind h
  dsimp only at h
  refine Exists.intro 0 (Exists.intro vq1 (Exists.intro σq1 (And.intro (Nat.le_of_ble_eq_true rfl) (And.intro (ok_M_in hq1) ?_))))
  rcases px_ite h with ⟨c2, h⟩ | ⟨c2, h⟩
  · refine And.intro (fun _ => ?_) (fun hn => absurd c2 hn)
    refine H [((0, 0, 0, (-1), []), 1), ((27, 0, 0, 0, []), 1)] 19 _ _ _ (by decide +kernel) ?_
    exact Prod.mk.inj (Option.some.inj h)
  · refine And.intro (fun hp => absurd hp c2) (fun _ => ?_)
    rcases px_ite h with ⟨c3, h⟩ | ⟨c3, h⟩
    · refine And.intro (fun _ => ?_) (fun hn => absurd c3 hn)
      refine H [((2, 0, 0, 0, []), 1), ((1, 1, 0, 0, []), 1), ((23, 142, 1, 0, [(0, 84)]), 3), ((2, 0, 0, 0, []), 1), ((0, 0, 0, 0, []), 1), ((18, 84, 41, 0, []), 3), ((2, 0, 0, 0, []), 1), ((23, 164, 0, 1, [(0, 84)]), 3), ((3, 2, 0, 0, []), 1), ((29, 1, 0, 0, []), 0)] 21 _ _ _ (by decide +kernel) ?_
      obtain ⟨⟨vq4, σq4⟩, hq4, h⟩ := px_bind h
      dsimp only at h
      refine Exists.intro 0 (Exists.intro vq4 (Exists.intro σq4 (And.intro (Nat.le_of_ble_eq_true rfl) (And.intro (ok_M_beginsText_84 hq4) ?_))))
      obtain ⟨⟨vq5, σq5⟩, hq5, h⟩ := px_bind h
      dsimp only at h
      refine Exists.intro 4 (Exists.intro vq5 (Exists.intro σq5 (And.intro (Nat.le_of_ble_eq_true rfl) (And.intro (ok_M_readsOp_84 hq5) ?_))))
      exact ok_M_program_84_p36 H _ _ _ h
    · refine And.intro (fun hp => absurd hp c3) (fun _ => ?_)
      exact Prod.mk.inj (Option.some.inj h)
theorem ok_M_program_84 {l : Launch} {a1 : Int} {σ : pS} {v : Int} {σ1 : pS} (h : f_M_program_84 a1 σ = some (v, σ1)) : Con l 5 163 [.inr 84, .inl a1] σ v σ1 := Con_mk 2 4 rfl (by decide +kernel) (fun _ H => ok_M_program_84_w H _ _ h)
theorem ok_X_isOp_0_w {l : Launch} {rv : Int} {rσ : pS} {G : Nat → pL → List pV → pS → Prop} (H : px_R l 0 104 rv rσ G) : ∀ (a1 : Int) (σ : pS), f_X_isOp_0 a1 σ = some (rv, rσ) → G 0 [some (.inr 0), some (.inl a1)] [] σ := by
  intro a1 σ h
  unfold f_X_isOp_0 at h
  refine H [((1, 1, 0, 0, []), 1), ((14, 2, 22, 0, []), 3), ((1, 1, 0, 0, []), 1), ((2, 0, 0, 0, []), 1), ((17, 0, 3, 0, []), 3), ((17, 3, 4, 0, []), 3), ((16, 4, 11, 0, []), 3), ((13, 3, 22, 0, []), 3), ((0, 0, 0, 1, []), 1), ((12, 0, 23, 0, []), 3), ((27, 1, 0, 0, []), 1)] 0 _ _ _ (by decide +kernel) ?_
  rcases px_ite h with ⟨c1, h⟩ | ⟨c1, h⟩
  · refine And.intro (fun _ => ?_) (fun hn => absurd c1 hn)
    refine H [((0, 0, 0, 0, []), 1), ((27, 1, 0, 0, []), 1)] 22 _ _ _ (by decide +kernel) ?_
    refine And.intro (show (0 : Int) ≤ 0 ∧ (0 : Int) ≤ 1 from by decide) ?_
    exact Prod.mk.inj (Option.some.inj h)
  · refine And.intro (fun hp => absurd hp c1) (fun _ => ?_)
    rcases px_ite h with ⟨c2, h⟩ | ⟨c2, h⟩
    · refine And.intro (fun _ => ?_) (fun hn => absurd c2 hn)
      refine H [((0, 0, 0, 0, []), 1), ((27, 1, 0, 0, []), 1)] 22 _ _ _ (by decide +kernel) ?_
      refine And.intro (show (0 : Int) ≤ 0 ∧ (0 : Int) ≤ 1 from by decide) ?_
      exact Prod.mk.inj (Option.some.inj h)
    · refine And.intro (fun hp => absurd hp c2) (fun _ => ?_)
      refine And.intro (show (0 : Int) ≤ 1 ∧ (1 : Int) ≤ 1 from by decide) ?_
      exact Prod.mk.inj (Option.some.inj h)
theorem ok_X_isOp_0 {l : Launch} {a1 : Int} {σ : pS} {v : Int} {σ1 : pS} (h : f_X_isOp_0 a1 σ = some (v, σ1)) : Con l 0 104 [.inr 0, .inl a1] σ v σ1 := Con_mk 2 2 rfl (by decide +kernel) (fun _ H => ok_X_isOp_0_w H _ _ h)
theorem ok_X_orAbsent_w {l : Launch} {rv : Int} {rσ : pS} {G : Nat → pL → List pV → pS → Prop} (H : px_R l 0 106 rv rσ G) : ∀ (a0 : Int) (σ : pS), f_X_orAbsent a0 σ = some (rv, rσ) → G 0 [some (.inl a0)] [] σ := by
  intro a0 σ h
  unfold f_X_orAbsent at h
  refine H [((1, 0, 0, 0, []), 1), ((0, 0, 0, (-1), []), 1), ((13, 1, 10, 0, []), 3), ((0, 0, 0, (-2), []), 2), ((12, 0, 11, 0, []), 3), ((27, 0, 0, 0, []), 1)] 0 _ _ _ (by decide +kernel) ?_
  rcases px_ite h with ⟨c1, h⟩ | ⟨c1, h⟩
  · refine And.intro (fun hp => absurd c1 hp) (fun _ => ?_)
    exact Prod.mk.inj (Option.some.inj h)
  · refine And.intro (fun _ => ?_) (fun hn => absurd c1 hn)
    refine H [((1, 0, 0, 0, []), 1), ((27, 0, 0, 0, []), 1)] 10 _ _ _ (by decide +kernel) ?_
    exact Prod.mk.inj (Option.some.inj h)
theorem ok_X_orAbsent {l : Launch} {a0 : Int} {σ : pS} {v : Int} {σ1 : pS} (h : f_X_orAbsent a0 σ = some (v, σ1)) : Con l 0 106 [.inl a0] σ v σ1 := Con_mk 1 1 rfl (by decide +kernel) (fun _ H => ok_X_orAbsent_w H _ _ h)
theorem ok_X_source_0_w {l : Launch} {rv : Int} {rσ : pS} {G : Nat → pL → List pV → pS → Prop} (H : px_R l 1 108 rv rσ G) : ∀ (a1 a2 : Int) (σ : pS), f_X_source_0 a1 a2 σ = some (rv, rσ) → G 0 [some (.inr 0), some (.inl a1), some (.inl a2)] [] σ := by
  intro a1 a2 σ h
  unfold f_X_source_0 at h
  refine H [((2, 0, 0, 0, []), 1), ((1, 1, 0, 0, []), 1), ((23, 104, 1, 1, [(0, 0)]), 3), ((14, 0, 15, 0, []), 3), ((1, 2, 0, 0, []), 1), ((24, 52, 1, 1, []), 3), ((14, 1, 17, 0, []), 3), ((0, 0, 0, (-1), []), 1), ((27, 0, 0, 0, []), 1)] 0 _ _ _ (by decide +kernel) ?_
  obtain ⟨⟨vq1, σq1⟩, hq1, h⟩ := px_bind h
  dsimp only at h
  refine Exists.intro 0 (Exists.intro vq1 (Exists.intro σq1 (And.intro (Nat.le_of_ble_eq_true rfl) (And.intro (ok_X_isOp_0 hq1) ?_))))
  rcases px_ite h with ⟨c2, h⟩ | ⟨c2, h⟩
  · refine And.intro (fun _ => ?_) (fun hn => absurd c2 hn)
    refine H [((0, 0, 0, (-1), []), 1), ((27, 0, 0, 0, []), 1)] 15 _ _ _ (by decide +kernel) ?_
    exact Prod.mk.inj (Option.some.inj h)
  · refine And.intro (fun hp => absurd hp c2) (fun _ => ?_)
    obtain ⟨⟨vq3, σq3⟩, hq3, h⟩ := px_bind h
    dsimp only at h
    refine Exists.intro 0 (Exists.intro vq3 (Exists.intro σq3 (And.intro (Nat.le_of_ble_eq_true rfl) (And.intro (ok_X_isCell hq3) ?_))))
    rcases px_ite h with ⟨c4, h⟩ | ⟨c4, h⟩
    · refine And.intro (fun hp => absurd c4 hp) (fun _ => ?_)
      exact Prod.mk.inj (Option.some.inj h)
    · refine And.intro (fun _ => ?_) (fun hn => absurd c4 hn)
      refine H [((2, 0, 0, 0, []), 1), ((17, 0, 3, 0, []), 3), ((17, 3, 4, 0, []), 3), ((17, 4, 9, 0, []), 3), ((1, 1, 0, 0, []), 1), ((19, 9, 20, 0, []), 1), ((1, 2, 0, 0, []), 1), ((13, 1, 49, 0, []), 3), ((2, 0, 0, 0, []), 1), ((17, 0, 3, 0, []), 3), ((17, 3, 4, 0, []), 3), ((17, 4, 12, 0, []), 3), ((1, 1, 0, 0, []), 1), ((19, 12, 20, 0, []), 1), ((24, 106, 1, 1, []), 3), ((27, 0, 0, 0, []), 1)] 17 _ _ _ (by decide +kernel) ?_
      obtain ⟨g5, h⟩ := px_gd h
      refine And.intro g5 ?_
      rcases px_ite h with ⟨c6, h⟩ | ⟨c6, h⟩
      · refine And.intro (fun hp => absurd c6 hp) (fun _ => ?_)
        obtain ⟨g11, h⟩ := px_gd h
        refine And.intro g11 ?_
        obtain ⟨⟨vq12, σq12⟩, hq12, h⟩ := px_bind h
        dsimp only at h
        refine Exists.intro 0 (Exists.intro vq12 (Exists.intro σq12 (And.intro (Nat.le_of_ble_eq_true rfl) (And.intro (ok_X_orAbsent hq12) ?_))))
        exact Prod.mk.inj (Option.some.inj h)
      · refine And.intro (fun _ => ?_) (fun hn => absurd c6 hn)
        refine H [((2, 0, 0, 0, []), 1), ((17, 0, 3, 0, []), 3), ((17, 3, 4, 0, []), 3), ((17, 4, 10, 0, []), 3), ((1, 1, 0, 0, []), 1), ((19, 10, 20, 0, []), 1), ((1, 2, 0, 0, []), 1), ((13, 1, 81, 0, []), 3), ((2, 0, 0, 0, []), 1), ((17, 0, 3, 0, []), 3), ((17, 3, 4, 0, []), 3), ((17, 4, 13, 0, []), 3), ((1, 1, 0, 0, []), 1), ((19, 13, 20, 0, []), 1), ((24, 106, 1, 1, []), 3), ((27, 0, 0, 0, []), 1)] 49 _ _ _ (by decide +kernel) ?_
        obtain ⟨g7, h⟩ := px_gd h
        refine And.intro g7 ?_
        rcases px_ite h with ⟨c8, h⟩ | ⟨c8, h⟩
        · refine And.intro (fun hp => absurd c8 hp) (fun _ => ?_)
          obtain ⟨g9, h⟩ := px_gd h
          refine And.intro g9 ?_
          obtain ⟨⟨vq10, σq10⟩, hq10, h⟩ := px_bind h
          dsimp only at h
          refine Exists.intro 0 (Exists.intro vq10 (Exists.intro σq10 (And.intro (Nat.le_of_ble_eq_true rfl) (And.intro (ok_X_orAbsent hq10) ?_))))
          exact Prod.mk.inj (Option.some.inj h)
        · refine And.intro (fun _ => ?_) (fun hn => absurd c8 hn)
          refine H [((0, 0, 0, (-2), []), 2), ((27, 0, 0, 0, []), 1)] 81 _ _ _ (by decide +kernel) ?_
          exact Prod.mk.inj (Option.some.inj h)
theorem ok_X_source_0 {l : Launch} {a1 a2 : Int} {σ : pS} {v : Int} {σ1 : pS} (h : f_X_source_0 a1 a2 σ = some (v, σ1)) : Con l 1 108 [.inr 0, .inl a1, .inl a2] σ v σ1 := Con_mk 3 3 rfl (by decide +kernel) (fun _ H => ok_X_source_0_w H _ _ _ h)
theorem ok_M_isOp_84_w {l : Launch} {rv : Int} {rσ : pS} {G : Nat → pL → List pV → pS → Prop} (H : px_R l 1 171 rv rσ G) : ∀ (a1 : Int) (σ : pS), f_M_isOp_84 a1 σ = some (rv, rσ) → G 0 [some (.inr 84), some (.inl a1)] [] σ := by
  intro a1 σ h
  unfold f_M_isOp_84 at h
  refine H [((1, 1, 0, 0, []), 1), ((0, 0, 0, 0, []), 1), ((2, 0, 0, 0, []), 1), ((16, 84, 2, 0, []), 3), ((0, 0, 0, 1, []), 1), ((6, 1, 0, 0, []), 1), ((24, 137, 3, 1, []), 3), ((27, 1, 0, 0, []), 1)] 0 _ _ _ (by decide +kernel) ?_
  obtain ⟨⟨vq1, σq1⟩, hq1, h⟩ := px_bind h
  dsimp only at h
  refine Exists.intro 0 (Exists.intro vq1 (Exists.intro σq1 (And.intro (Nat.le_of_ble_eq_true rfl) (And.intro (ok_M_in hq1) ?_))))
  obtain ⟨g2, h⟩ := px_gd h
  refine And.intro g2 ?_
  exact Prod.mk.inj (Option.some.inj h)
theorem ok_M_isOp_84 {l : Launch} {a1 : Int} {σ : pS} {v : Int} {σ1 : pS} (h : f_M_isOp_84 a1 σ = some (v, σ1)) : Con l 1 171 [.inr 84, .inl a1] σ v σ1 := Con_mk 2 2 rfl (by decide +kernel) (fun _ H => ok_M_isOp_84_w H _ _ h)
theorem ok_M_doesRead_84_w {l : Launch} {rv : Int} {rσ : pS} {G : Nat → pL → List pV → pS → Prop} (H : px_R l 0 172 rv rσ G) : ∀ (a1 a2 : Int) (σ : pS), f_M_doesRead_84 a1 a2 σ = some (rv, rσ) → G 0 [some (.inr 84), some (.inl a1), some (.inl a2)] [] σ := by
  intro a1 a2 σ h
  unfold f_M_doesRead_84 at h
  refine H [((2, 0, 0, 0, []), 1), ((17, 84, 88, 0, []), 3), ((1, 1, 0, 0, []), 1), ((19, 88, 20, 0, []), 1), ((15, 0, 76, 0, [(0, 32), (1, 34), (2, 60)]), 26)] 0 _ _ _ (by decide +kernel) ?_
  obtain ⟨g1, h⟩ := px_gd h
  refine And.intro g1 ?_
  rcases px_ite h with ⟨c2, h⟩ | ⟨c2, h⟩
  · refine And.intro (fun _ => ?_) (fun hn => absurd c2 hn)
    refine H [((0, 0, 0, 0, []), 1), ((27, 1, 0, 0, []), 1)] 32 _ _ _ (by decide +kernel) ?_
    refine And.intro (show (0 : Int) ≤ 0 ∧ (0 : Int) ≤ 1 from by decide) ?_
    exact Prod.mk.inj (Option.some.inj h)
  · refine And.intro (fun hp => absurd hp c2) (fun _ => ?_)
    rcases px_ite h with ⟨c3, h⟩ | ⟨c3, h⟩
    · refine And.intro (fun _ => ?_) (fun hn => absurd c3 hn)
      refine H [((2, 0, 0, 0, []), 1), ((17, 84, 91, 0, []), 3), ((1, 1, 0, 0, []), 1), ((19, 91, 20, 0, []), 1), ((1, 2, 0, 0, []), 1), ((13, 0, 54, 0, []), 3), ((2, 0, 0, 0, []), 1), ((17, 84, 92, 0, []), 3), ((1, 1, 0, 0, []), 1), ((19, 92, 20, 0, []), 1), ((1, 2, 0, 0, []), 1), ((13, 1, 58, 0, []), 3), ((0, 0, 0, 1, []), 1), ((12, 0, 59, 0, []), 3), ((27, 1, 0, 0, []), 1)] 34 _ _ _ (by decide +kernel) ?_
      obtain ⟨g4, h⟩ := px_gd h
      refine And.intro g4 ?_
      rcases px_ite h with ⟨c5, h⟩ | ⟨c5, h⟩
      · refine And.intro (fun _ => ?_) (fun hn => absurd c5 hn)
        refine H [((0, 0, 0, 1, []), 1), ((12, 0, 59, 0, []), 3), ((27, 1, 0, 0, []), 1)] 54 _ _ _ (by decide +kernel) ?_
        refine And.intro (show (0 : Int) ≤ 1 ∧ (1 : Int) ≤ 1 from by decide) ?_
        exact Prod.mk.inj (Option.some.inj h)
      · refine And.intro (fun hp => absurd hp c5) (fun _ => ?_)
        obtain ⟨g6, h⟩ := px_gd h
        refine And.intro g6 ?_
        rcases px_ite h with ⟨c7, h⟩ | ⟨c7, h⟩
        · refine And.intro (fun hp => absurd c7 hp) (fun _ => ?_)
          refine And.intro (show (0 : Int) ≤ 1 ∧ (1 : Int) ≤ 1 from by decide) ?_
          exact Prod.mk.inj (Option.some.inj h)
        · refine And.intro (fun _ => ?_) (fun hn => absurd c7 hn)
          refine H [((0, 0, 0, 0, []), 1), ((27, 1, 0, 0, []), 1)] 58 _ _ _ (by decide +kernel) ?_
          refine And.intro (show (0 : Int) ≤ 0 ∧ (0 : Int) ≤ 1 from by decide) ?_
          exact Prod.mk.inj (Option.some.inj h)
    · refine And.intro (fun hp => absurd hp c3) (fun _ => ?_)
      rcases px_ite h with ⟨c8, h⟩ | ⟨c8, h⟩
      · refine And.intro (fun _ => ?_) (fun hn => absurd c8 hn)
        refine H [((2, 0, 0, 0, []), 1), ((17, 84, 94, 0, []), 3), ((1, 1, 0, 0, []), 1), ((19, 94, 20, 0, []), 1), ((1, 2, 0, 0, []), 1), ((13, 1, 74, 0, []), 3), ((0, 0, 0, 1, []), 1), ((12, 0, 75, 0, []), 3), ((27, 1, 0, 0, []), 1)] 60 _ _ _ (by decide +kernel) ?_
        obtain ⟨g9, h⟩ := px_gd h
        refine And.intro g9 ?_
        rcases px_ite h with ⟨c10, h⟩ | ⟨c10, h⟩
        · refine And.intro (fun hp => absurd c10 hp) (fun _ => ?_)
          refine And.intro (show (0 : Int) ≤ 1 ∧ (1 : Int) ≤ 1 from by decide) ?_
          exact Prod.mk.inj (Option.some.inj h)
        · refine And.intro (fun _ => ?_) (fun hn => absurd c10 hn)
          refine H [((0, 0, 0, 0, []), 1), ((27, 1, 0, 0, []), 1)] 74 _ _ _ (by decide +kernel) ?_
          refine And.intro (show (0 : Int) ≤ 0 ∧ (0 : Int) ≤ 1 from by decide) ?_
          exact Prod.mk.inj (Option.some.inj h)
      · refine And.intro (fun hp => absurd hp c8) (fun _ => ?_)
        refine H [((2, 0, 0, 0, []), 1), ((17, 84, 90, 0, []), 3), ((1, 1, 0, 0, []), 1), ((19, 90, 20, 0, []), 1), ((1, 2, 0, 0, []), 1), ((13, 0, 96, 0, []), 3), ((2, 0, 0, 0, []), 1), ((17, 84, 94, 0, []), 3), ((1, 1, 0, 0, []), 1), ((19, 94, 20, 0, []), 1), ((1, 2, 0, 0, []), 1), ((13, 1, 100, 0, []), 3), ((0, 0, 0, 1, []), 1), ((12, 0, 101, 0, []), 3), ((27, 1, 0, 0, []), 1)] 76 _ _ _ (by decide +kernel) ?_
        obtain ⟨g11, h⟩ := px_gd h
        refine And.intro g11 ?_
        rcases px_ite h with ⟨c12, h⟩ | ⟨c12, h⟩
        · refine And.intro (fun _ => ?_) (fun hn => absurd c12 hn)
          refine H [((0, 0, 0, 1, []), 1), ((12, 0, 101, 0, []), 3), ((27, 1, 0, 0, []), 1)] 96 _ _ _ (by decide +kernel) ?_
          refine And.intro (show (0 : Int) ≤ 1 ∧ (1 : Int) ≤ 1 from by decide) ?_
          exact Prod.mk.inj (Option.some.inj h)
        · refine And.intro (fun hp => absurd hp c12) (fun _ => ?_)
          obtain ⟨g13, h⟩ := px_gd h
          refine And.intro g13 ?_
          rcases px_ite h with ⟨c14, h⟩ | ⟨c14, h⟩
          · refine And.intro (fun hp => absurd c14 hp) (fun _ => ?_)
            refine And.intro (show (0 : Int) ≤ 1 ∧ (1 : Int) ≤ 1 from by decide) ?_
            exact Prod.mk.inj (Option.some.inj h)
          · refine And.intro (fun _ => ?_) (fun hn => absurd c14 hn)
            refine H [((0, 0, 0, 0, []), 1), ((27, 1, 0, 0, []), 1)] 100 _ _ _ (by decide +kernel) ?_
            refine And.intro (show (0 : Int) ≤ 0 ∧ (0 : Int) ≤ 1 from by decide) ?_
            exact Prod.mk.inj (Option.some.inj h)
theorem ok_M_doesRead_84 {l : Launch} {a1 a2 : Int} {σ : pS} {v : Int} {σ1 : pS} (h : f_M_doesRead_84 a1 a2 σ = some (v, σ1)) : Con l 0 172 [.inr 84, .inl a1, .inl a2] σ v σ1 := Con_mk 3 3 rfl (by decide +kernel) (fun _ H => ok_M_doesRead_84_w H _ _ _ h)
theorem ok_M_gives_84_w {l : Launch} {rv : Int} {rσ : pS} {G : Nat → pL → List pV → pS → Prop} (H : px_R l 0 174 rv rσ G) : ∀ (a1 a2 : Int) (σ : pS), f_M_gives_84 a1 a2 σ = some (rv, rσ) → G 0 [some (.inr 84), some (.inl a1), some (.inl a2)] [] σ := by
  intro a1 a2 σ h
  unfold f_M_gives_84 at h
  refine H [((2, 0, 0, 0, []), 1), ((17, 84, 88, 0, []), 3), ((1, 1, 0, 0, []), 1), ((19, 88, 20, 0, []), 1), ((0, 0, 0, 3, []), 1), ((13, 0, 24, 0, []), 3), ((2, 0, 0, 0, []), 1), ((17, 84, 90, 0, []), 3), ((1, 1, 0, 0, []), 1), ((19, 90, 20, 0, []), 1), ((1, 2, 0, 0, []), 1), ((13, 1, 24, 0, []), 3), ((0, 0, 0, 1, []), 1), ((12, 0, 25, 0, []), 3), ((27, 1, 0, 0, []), 1)] 0 _ _ _ (by decide +kernel) ?_
  obtain ⟨g1, h⟩ := px_gd h
  refine And.intro g1 ?_
  rcases px_ite h with ⟨c2, h⟩ | ⟨c2, h⟩
  · refine And.intro (fun _ => ?_) (fun hn => absurd c2 hn)
    refine H [((0, 0, 0, 0, []), 1), ((27, 1, 0, 0, []), 1)] 24 _ _ _ (by decide +kernel) ?_
    refine And.intro (show (0 : Int) ≤ 0 ∧ (0 : Int) ≤ 1 from by decide) ?_
    exact Prod.mk.inj (Option.some.inj h)
  · refine And.intro (fun hp => absurd hp c2) (fun _ => ?_)
    obtain ⟨g3, h⟩ := px_gd h
    refine And.intro g3 ?_
    rcases px_ite h with ⟨c4, h⟩ | ⟨c4, h⟩
    · refine And.intro (fun hp => absurd c4 hp) (fun _ => ?_)
      refine And.intro (show (0 : Int) ≤ 1 ∧ (1 : Int) ≤ 1 from by decide) ?_
      exact Prod.mk.inj (Option.some.inj h)
    · refine And.intro (fun _ => ?_) (fun hn => absurd c4 hn)
      refine H [((0, 0, 0, 0, []), 1), ((27, 1, 0, 0, []), 1)] 24 _ _ _ (by decide +kernel) ?_
      refine And.intro (show (0 : Int) ≤ 0 ∧ (0 : Int) ≤ 1 from by decide) ?_
      exact Prod.mk.inj (Option.some.inj h)
theorem ok_M_gives_84 {l : Launch} {a1 a2 : Int} {σ : pS} {v : Int} {σ1 : pS} (h : f_M_gives_84 a1 a2 σ = some (v, σ1)) : Con l 0 174 [.inr 84, .inl a1, .inl a2] σ v σ1 := Con_mk 3 3 rfl (by decide +kernel) (fun _ H => ok_M_gives_84_w H _ _ _ h)
theorem ok_M_giverOf_84_p4 {l : Launch} {rv : Int} {rσ : pS} {G : Nat → pL → List pV → pS → Prop} (H : px_R l 1 173 rv rσ G) : ∀ (n : Nat) (a2 a3 : Int) (σ : pS), f_M_giverOf_84_p4 n a2 a3 σ = some (rv, rσ) → G 4 [some (.inr 84), none, some (.inl a2), some (.inl a3)] [] σ := by
  intro n
  induction n with
  | zero =>
    intro a2 a3 σ h
    unfold f_M_giverOf_84_p4 at h
    cases h
  | succ n ih =>
    intro a2 a3 σ h
    unfold f_M_giverOf_84_p4 at h
    refine H [((1, 3, 0, 0, []), 1), ((14, 2, 25, 0, []), 3), ((2, 0, 0, 0, []), 1), ((1, 3, 0, 0, []), 1), ((1, 2, 0, 0, []), 1), ((23, 174, 2, 1, [(0, 84)]), 3), ((14, 0, 19, 0, []), 3), ((1, 3, 0, 0, []), 1), ((27, 0, 0, 0, []), 1)] 4 _ _ _ (by decide +kernel) ?_
    rcases px_ite h with ⟨c1, h⟩ | ⟨c1, h⟩
    · refine And.intro (fun _ => ?_) (fun hn => absurd c1 hn)
      refine H [((0, 0, 0, (-1), []), 1), ((27, 0, 0, 0, []), 1)] 25 _ _ _ (by decide +kernel) ?_
      exact Prod.mk.inj (Option.some.inj h)
    · refine And.intro (fun hp => absurd hp c1) (fun _ => ?_)
      obtain ⟨⟨vq2, σq2⟩, hq2, h⟩ := px_bind h
      dsimp only at h
      refine Exists.intro 0 (Exists.intro vq2 (Exists.intro σq2 (And.intro (Nat.le_of_ble_eq_true rfl) (And.intro (ok_M_gives_84 hq2) ?_))))
      rcases px_ite h with ⟨c3, h⟩ | ⟨c3, h⟩
      · refine And.intro (fun _ => ?_) (fun hn => absurd c3 hn)
        refine H [((5, 3, 0, (-1), []), 3), ((12, 0, 4, 0, []), 3)] 19 _ _ _ (by decide +kernel) ?_
        exact ih _ _ _ h
      · refine And.intro (fun hp => absurd hp c3) (fun _ => ?_)
        exact Prod.mk.inj (Option.some.inj h)
theorem ok_M_giverOf_84_w {l : Launch} {rv : Int} {rσ : pS} {G : Nat → pL → List pV → pS → Prop} (H : px_R l 1 173 rv rσ G) : ∀ (a1 a2 : Int) (σ : pS), f_M_giverOf_84 a1 a2 σ = some (rv, rσ) → G 0 [some (.inr 84), some (.inl a1), some (.inl a2), none] [] σ := by
  intro a1 a2 σ h
  unfold f_M_giverOf_84 at h
  refine H [((1, 1, 0, 0, []), 1), ((0, 0, 0, 1, []), 1), ((6, 1, 0, 0, []), 1), ((3, 3, 0, 0, []), 1), ((29, 1, 0, 0, []), 0)] 0 _ _ _ (by decide +kernel) ?_
  exact ok_M_giverOf_84_p4 H _ _ _ _ h
theorem ok_M_giverOf_84 {l : Launch} {a1 a2 : Int} {σ : pS} {v : Int} {σ1 : pS} (h : f_M_giverOf_84 a1 a2 σ = some (v, σ1)) : Con l 1 173 [.inr 84, .inl a1, .inl a2] σ v σ1 := Con_mk 3 4 rfl (by decide +kernel) (fun _ H => ok_M_giverOf_84_w H _ _ _ h)
theorem ok_M_source_84_p39 {l : Launch} {rv : Int} {rσ : pS} {G : Nat → pL → List pV → pS → Prop} (H : px_R l 2 170 rv rσ G) : ∀ (s0 : Int) (σ : pS), f_M_source_84_p39 s0 σ = some (rv, rσ) → G 39 [none, none, none, none] [.inl s0] σ := by
  intro s0 σ h
  unfold f_M_source_84_p39 at h
  refine H [((3, 3, 0, 0, []), 1), ((1, 3, 0, 0, []), 1), ((0, 0, 0, (-1), []), 1), ((13, 1, 50, 0, []), 3), ((0, 0, 0, (-2), []), 2), ((12, 0, 51, 0, []), 3), ((27, 0, 0, 0, []), 1)] 39 _ _ _ (by decide +kernel) ?_
  rcases px_ite h with ⟨c7, h⟩ | ⟨c7, h⟩
  · refine And.intro (fun hp => absurd c7 hp) (fun _ => ?_)
    exact Prod.mk.inj (Option.some.inj h)
  · refine And.intro (fun _ => ?_) (fun hn => absurd c7 hn)
    refine H [((1, 3, 0, 0, []), 1), ((27, 0, 0, 0, []), 1)] 50 _ _ _ (by decide +kernel) ?_
    exact Prod.mk.inj (Option.some.inj h)
theorem ok_M_source_84_w {l : Launch} {rv : Int} {rσ : pS} {G : Nat → pL → List pV → pS → Prop} (H : px_R l 2 170 rv rσ G) : ∀ (a1 a2 : Int) (σ : pS), f_M_source_84 a1 a2 σ = some (rv, rσ) → G 0 [some (.inr 84), some (.inl a1), some (.inl a2), none] [] σ := by
  intro a1 a2 σ h
  unfold f_M_source_84 at h
  refine H [((2, 0, 0, 0, []), 1), ((1, 1, 0, 0, []), 1), ((23, 171, 1, 1, [(0, 84)]), 3), ((14, 0, 18, 0, []), 3), ((1, 2, 0, 0, []), 1), ((0, 0, 0, 0, []), 1), ((0, 0, 0, 7, []), 2), ((24, 137, 3, 1, []), 3), ((14, 1, 20, 0, []), 3), ((0, 0, 0, (-1), []), 1), ((27, 0, 0, 0, []), 1)] 0 _ _ _ (by decide +kernel) ?_
  obtain ⟨⟨vq1, σq1⟩, hq1, h⟩ := px_bind h
  dsimp only at h
  refine Exists.intro 1 (Exists.intro vq1 (Exists.intro σq1 (And.intro (Nat.le_of_ble_eq_true rfl) (And.intro (ok_M_isOp_84 hq1) ?_))))
  rcases px_ite h with ⟨c2, h⟩ | ⟨c2, h⟩
  · refine And.intro (fun _ => ?_) (fun hn => absurd c2 hn)
    refine H [((0, 0, 0, (-1), []), 1), ((27, 0, 0, 0, []), 1)] 18 _ _ _ (by decide +kernel) ?_
    exact Prod.mk.inj (Option.some.inj h)
  · refine And.intro (fun hp => absurd hp c2) (fun _ => ?_)
    obtain ⟨⟨vq3, σq3⟩, hq3, h⟩ := px_bind h
    dsimp only at h
    refine Exists.intro 0 (Exists.intro vq3 (Exists.intro σq3 (And.intro (Nat.le_of_ble_eq_true rfl) (And.intro (ok_M_in hq3) ?_))))
    rcases px_ite h with ⟨c4, h⟩ | ⟨c4, h⟩
    · refine And.intro (fun hp => absurd c4 hp) (fun _ => ?_)
      exact Prod.mk.inj (Option.some.inj h)
    · refine And.intro (fun _ => ?_) (fun hn => absurd c4 hn)
      refine H [((2, 0, 0, 0, []), 1), ((1, 1, 0, 0, []), 1), ((1, 2, 0, 0, []), 1), ((23, 172, 2, 1, [(0, 84)]), 3), ((14, 0, 38, 0, []), 3), ((2, 0, 0, 0, []), 1), ((1, 1, 0, 0, []), 1), ((1, 2, 0, 0, []), 1), ((23, 173, 2, 1, [(0, 84)]), 3), ((12, 0, 39, 0, []), 3), ((29, 0, 0, 0, []), 0), ((29, 1, 0, 0, []), 0), ((29, 2, 0, 0, []), 0)] 20 _ _ _ (by decide +kernel) ?_
      obtain ⟨⟨vq5, σq5⟩, hq5, h⟩ := px_bind h
      dsimp only at h
      refine Exists.intro 0 (Exists.intro vq5 (Exists.intro σq5 (And.intro (Nat.le_of_ble_eq_true rfl) (And.intro (ok_M_doesRead_84 hq5) ?_))))
      rcases px_ite h with ⟨c6, h⟩ | ⟨c6, h⟩
      · refine And.intro (fun _ => ?_) (fun hn => absurd c6 hn)
        refine H [((0, 0, 0, (-1), []), 1), ((29, 0, 0, 0, []), 0), ((29, 1, 0, 0, []), 0), ((29, 2, 0, 0, []), 0)] 38 _ _ _ (by decide +kernel) ?_
        exact ok_M_source_84_p39 H _ _ h
      · refine And.intro (fun hp => absurd hp c6) (fun _ => ?_)
        obtain ⟨⟨vq8, σq8⟩, hq8, h⟩ := px_bind h
        dsimp only at h
        refine Exists.intro 1 (Exists.intro vq8 (Exists.intro σq8 (And.intro (Nat.le_of_ble_eq_true rfl) (And.intro (ok_M_giverOf_84 hq8) ?_))))
        exact ok_M_source_84_p39 H _ _ h
theorem ok_M_source_84 {l : Launch} {a1 a2 : Int} {σ : pS} {v : Int} {σ1 : pS} (h : f_M_source_84 a1 a2 σ = some (v, σ1)) : Con l 2 170 [.inr 84, .inl a1, .inl a2] σ v σ1 := Con_mk 3 4 rfl (by decide +kernel) (fun _ H => ok_M_source_84_w H _ _ _ h)
theorem ok_X_deep_0_w {l : Launch} {rv : Int} {rσ : pS} {G : Nat → pL → List pV → pS → Prop} (H : px_R l 0 119 rv rσ G) : ∀ (σ : pS), f_X_deep_0  σ = some (rv, rσ) → G 0 [some (.inr 0)] [] σ := by
  intro  σ h
  unfold f_X_deep_0 at h
  refine H [((2, 0, 0, 0, []), 1), ((17, 0, 3, 0, []), 3), ((17, 3, 4, 0, []), 3), ((16, 4, 12, 0, []), 3), ((27, 0, 0, 0, []), 1)] 0 _ _ _ (by decide +kernel) ?_
  exact Prod.mk.inj (Option.some.inj h)
theorem ok_X_deep_0 {l : Launch} {σ : pS} {v : Int} {σ1 : pS} (h : f_X_deep_0  σ = some (v, σ1)) : Con l 0 119 [.inr 0] σ v σ1 := Con_mk 1 1 rfl (by decide +kernel) (fun _ H => ok_X_deep_0_w H  _ h)
theorem ok_M_max_w {l : Launch} {rv : Int} {rσ : pS} {G : Nat → pL → List pV → pS → Prop} (H : px_R l 0 225 rv rσ G) : ∀ (a0 a1 : Int) (σ : pS), f_M_max a0 a1 σ = some (rv, rσ) → G 0 [some (.inl a0), some (.inl a1)] [] σ := by
  intro a0 a1 σ h
  unfold f_M_max at h
  refine H [((1, 0, 0, 0, []), 1), ((1, 1, 0, 0, []), 1), ((13, 5, 9, 0, []), 3), ((1, 0, 0, 0, []), 1), ((12, 0, 10, 0, []), 3), ((27, 0, 0, 0, []), 1)] 0 _ _ _ (by decide +kernel) ?_
  rcases px_ite h with ⟨c1, h⟩ | ⟨c1, h⟩
  · refine And.intro (fun _ => ?_) (fun hn => absurd c1 hn)
    refine H [((1, 1, 0, 0, []), 1), ((27, 0, 0, 0, []), 1)] 9 _ _ _ (by decide +kernel) ?_
    exact Prod.mk.inj (Option.some.inj h)
  · refine And.intro (fun hp => absurd hp c1) (fun _ => ?_)
    exact Prod.mk.inj (Option.some.inj h)
theorem ok_M_max {l : Launch} {a0 a1 : Int} {σ : pS} {v : Int} {σ1 : pS} (h : f_M_max a0 a1 σ = some (v, σ1)) : Con l 0 225 [.inl a0, .inl a1] σ v σ1 := Con_mk 2 2 rfl (by decide +kernel) (fun _ H => ok_M_max_w H _ _ _ h)
theorem ok_M_hasSource_84_p2 {l : Launch} {rv : Int} {rσ : pS} {G : Nat → pL → List pV → pS → Prop} (H : px_R l 2 195 rv rσ G) : ∀ (n : Nat) (a1 a2 a3 : Int) (σ : pS), f_M_hasSource_84_p2 n a1 a2 a3 σ = some (rv, rσ) → G 2 [some (.inr 84), some (.inl a1), some (.inl a2), some (.inl a3)] [] σ := by
  intro n
  induction n with
  | zero =>
    intro a1 a2 a3 σ h
    unfold f_M_hasSource_84_p2 at h
    cases h
  | succ n ih =>
    intro a1 a2 a3 σ h
    unfold f_M_hasSource_84_p2 at h
    refine H [((1, 3, 0, 0, []), 1), ((0, 0, 0, 8, []), 2), ((13, 3, 35, 0, []), 3), ((2, 0, 0, 0, []), 1), ((1, 1, 0, 0, []), 1), ((1, 3, 0, 0, []), 1), ((23, 172, 2, 1, [(0, 84)]), 3), ((14, 0, 29, 0, []), 3), ((2, 0, 0, 0, []), 1), ((1, 1, 0, 0, []), 1), ((1, 3, 0, 0, []), 1), ((23, 173, 2, 1, [(0, 84)]), 3), ((1, 2, 0, 0, []), 1), ((13, 1, 29, 0, []), 3), ((0, 0, 0, 1, []), 1), ((27, 1, 0, 0, []), 1)] 2 _ _ _ (by decide +kernel) ?_
    rcases px_ite h with ⟨c1, h⟩ | ⟨c1, h⟩
    · refine And.intro (fun _ => ?_) (fun hn => absurd c1 hn)
      refine H [((0, 0, 0, 0, []), 1), ((27, 1, 0, 0, []), 1)] 35 _ _ _ (by decide +kernel) ?_
      refine And.intro (show (0 : Int) ≤ 0 ∧ (0 : Int) ≤ 1 from by decide) ?_
      exact Prod.mk.inj (Option.some.inj h)
    · refine And.intro (fun hp => absurd hp c1) (fun _ => ?_)
      obtain ⟨⟨vq2, σq2⟩, hq2, h⟩ := px_bind h
      dsimp only at h
      refine Exists.intro 0 (Exists.intro vq2 (Exists.intro σq2 (And.intro (Nat.le_of_ble_eq_true rfl) (And.intro (ok_M_doesRead_84 hq2) ?_))))
      rcases px_ite h with ⟨c3, h⟩ | ⟨c3, h⟩
      · refine And.intro (fun _ => ?_) (fun hn => absurd c3 hn)
        refine H [((5, 3, 0, 1, []), 3), ((12, 0, 2, 0, []), 3)] 29 _ _ _ (by decide +kernel) ?_
        exact ih _ _ _ _ h
      · refine And.intro (fun hp => absurd hp c3) (fun _ => ?_)
        obtain ⟨⟨vq4, σq4⟩, hq4, h⟩ := px_bind h
        dsimp only at h
        refine Exists.intro 1 (Exists.intro vq4 (Exists.intro σq4 (And.intro (Nat.le_of_ble_eq_true rfl) (And.intro (ok_M_giverOf_84 hq4) ?_))))
        rcases px_ite h with ⟨c5, h⟩ | ⟨c5, h⟩
        · refine And.intro (fun hp => absurd c5 hp) (fun _ => ?_)
          refine And.intro (show (0 : Int) ≤ 1 ∧ (1 : Int) ≤ 1 from by decide) ?_
          exact Prod.mk.inj (Option.some.inj h)
        · refine And.intro (fun _ => ?_) (fun hn => absurd c5 hn)
          refine H [((5, 3, 0, 1, []), 3), ((12, 0, 2, 0, []), 3)] 29 _ _ _ (by decide +kernel) ?_
          exact ih _ _ _ _ h
theorem ok_M_hasSource_84_w {l : Launch} {rv : Int} {rσ : pS} {G : Nat → pL → List pV → pS → Prop} (H : px_R l 2 195 rv rσ G) : ∀ (a1 a2 : Int) (σ : pS), f_M_hasSource_84 a1 a2 σ = some (rv, rσ) → G 0 [some (.inr 84), some (.inl a1), some (.inl a2), none] [] σ := by
  intro a1 a2 σ h
  unfold f_M_hasSource_84 at h
  refine H [((0, 0, 0, 0, []), 1), ((3, 3, 0, 0, []), 1)] 0 _ _ _ (by decide +kernel) ?_
  exact ok_M_hasSource_84_p2 H _ _ _ _ _ h
theorem ok_M_hasSource_84 {l : Launch} {a1 a2 : Int} {σ : pS} {v : Int} {σ1 : pS} (h : f_M_hasSource_84 a1 a2 σ = some (v, σ1)) : Con l 2 195 [.inr 84, .inl a1, .inl a2] σ v σ1 := Con_mk 3 4 rfl (by decide +kernel) (fun _ H => ok_M_hasSource_84_w H _ _ _ h)
theorem ok_M_deep_84_p21 {l : Launch} {rv : Int} {rσ : pS} {G : Nat → pL → List pV → pS → Prop} (H : px_R l 3 224 rv rσ G) {k_4 : Int → Int → pS → Option (Int × pS)} (hk_4 : ∀ (a1 a2 : Int) (σ : pS), k_4 a1 a2 σ = some (rv, rσ) → G 4 [some (.inr 84), some (.inl a1), some (.inl a2), none] [] σ) : ∀ (n : Nat) (a1 a2 a3 : Int) (σ : pS), f_M_deep_84_p21 k_4 n a1 a2 a3 σ = some (rv, rσ) → G 21 [some (.inr 84), some (.inl a1), some (.inl a2), some (.inl a3)] [] σ := by
  intro n
  induction n with
  | zero =>
    intro a1 a2 a3 σ h
    unfold f_M_deep_84_p21 at h
    cases h
  | succ n ih =>
    intro a1 a2 a3 σ h
    unfold f_M_deep_84_p21 at h
    refine H [((1, 3, 0, 0, []), 1), ((1, 2, 0, 0, []), 1), ((13, 3, 64, 0, []), 3), ((2, 0, 0, 0, []), 1), ((1, 2, 0, 0, []), 1), ((1, 3, 0, 0, []), 1), ((23, 195, 2, 1, [(0, 84)]), 3), ((14, 0, 58, 0, []), 3), ((2, 0, 0, 0, []), 1), ((17, 84, 143, 0, []), 3), ((1, 2, 0, 0, []), 1), ((2, 0, 0, 0, []), 1), ((17, 84, 143, 0, []), 3), ((1, 2, 0, 0, []), 1), ((19, 143, 20, 0, []), 1), ((2, 0, 0, 0, []), 1), ((17, 84, 143, 0, []), 3), ((1, 3, 0, 0, []), 1), ((19, 143, 20, 0, []), 1), ((0, 0, 0, 1, []), 1), ((6, 0, 0, 0, []), 1), ((24, 225, 2, 1, []), 3), ((20, 143, 20, 0, []), 1), ((5, 3, 0, 1, []), 3), ((12, 0, 21, 0, []), 3)] 21 _ _ _ (by decide +kernel) ?_
    rcases px_ite h with ⟨c3, h⟩ | ⟨c3, h⟩
    · refine And.intro (fun _ => ?_) (fun hn => absurd c3 hn)
      refine H [((1, 1, 0, 0, []), 1), ((2, 0, 0, 0, []), 1), ((17, 84, 143, 0, []), 3), ((1, 2, 0, 0, []), 1), ((19, 143, 20, 0, []), 1), ((24, 225, 2, 1, []), 3), ((3, 1, 0, 0, []), 1), ((5, 2, 0, 1, []), 3), ((12, 0, 4, 0, []), 3), ((29, 3, 0, 0, []), 0)] 64 _ _ _ (by decide +kernel) ?_
      obtain ⟨g4, h⟩ := px_gd h
      refine And.intro g4 ?_
      obtain ⟨⟨vq5, σq5⟩, hq5, h⟩ := px_bind h
      dsimp only at h
      refine Exists.intro 0 (Exists.intro vq5 (Exists.intro σq5 (And.intro (Nat.le_of_ble_eq_true rfl) (And.intro (ok_M_max hq5) ?_))))
      exact hk_4 _ _ _ h
    · refine And.intro (fun hp => absurd hp c3) (fun _ => ?_)
      obtain ⟨⟨vq6, σq6⟩, hq6, h⟩ := px_bind h
      dsimp only at h
      refine Exists.intro 2 (Exists.intro vq6 (Exists.intro σq6 (And.intro (Nat.le_of_ble_eq_true rfl) (And.intro (ok_M_hasSource_84 hq6) ?_))))
      rcases px_ite h with ⟨c7, h⟩ | ⟨c7, h⟩
      · refine And.intro (fun _ => ?_) (fun hn => absurd c7 hn)
        refine H [((5, 3, 0, 1, []), 3), ((12, 0, 21, 0, []), 3)] 58 _ _ _ (by decide +kernel) ?_
        exact ih _ _ _ _ h
      · refine And.intro (fun hp => absurd hp c7) (fun _ => ?_)
        obtain ⟨g8, h⟩ := px_gd h
        refine And.intro g8 ?_
        obtain ⟨g9, h⟩ := px_gd h
        refine And.intro g9 ?_
        obtain ⟨⟨vq10, σq10⟩, hq10, h⟩ := px_bind h
        dsimp only at h
        refine Exists.intro 0 (Exists.intro vq10 (Exists.intro σq10 (And.intro (Nat.le_of_ble_eq_true rfl) (And.intro (ok_M_max hq10) ?_))))
        obtain ⟨g11, h⟩ := px_gd h
        refine And.intro g11 ?_
        exact ih _ _ _ _ h
theorem ok_M_deep_84_p4 {l : Launch} {rv : Int} {rσ : pS} {G : Nat → pL → List pV → pS → Prop} (H : px_R l 3 224 rv rσ G) : ∀ (n : Nat) (a1 a2 : Int) (σ : pS), f_M_deep_84_p4 n a1 a2 σ = some (rv, rσ) → G 4 [some (.inr 84), some (.inl a1), some (.inl a2), none] [] σ := by
  intro n
  induction n with
  | zero =>
    intro a1 a2 σ h
    unfold f_M_deep_84_p4 at h
    cases h
  | succ n ih =>
    intro a1 a2 σ h
    unfold f_M_deep_84_p4 at h
    refine H [((1, 2, 0, 0, []), 1), ((2, 0, 0, 0, []), 1), ((16, 84, 2, 0, []), 3), ((13, 3, 81, 0, []), 3), ((2, 0, 0, 0, []), 1), ((17, 84, 143, 0, []), 3), ((1, 2, 0, 0, []), 1), ((0, 0, 0, 1, []), 1), ((20, 143, 20, 0, []), 1), ((0, 0, 0, 0, []), 1), ((3, 3, 0, 0, []), 1)] 4 _ _ _ (by decide +kernel) ?_
    rcases px_ite h with ⟨c1, h⟩ | ⟨c1, h⟩
    · refine And.intro (fun _ => ?_) (fun hn => absurd c1 hn)
      refine H [((1, 1, 0, 0, []), 1), ((27, 0, 0, 0, []), 1)] 81 _ _ _ (by decide +kernel) ?_
      exact Prod.mk.inj (Option.some.inj h)
    · refine And.intro (fun hp => absurd hp c1) (fun _ => ?_)
      obtain ⟨g2, h⟩ := px_gd h
      refine And.intro g2 ?_
      exact ok_M_deep_84_p21 H ih _ _ _ _ _ h
theorem ok_M_deep_84_w {l : Launch} {rv : Int} {rσ : pS} {G : Nat → pL → List pV → pS → Prop} (H : px_R l 3 224 rv rσ G) : ∀ (σ : pS), f_M_deep_84  σ = some (rv, rσ) → G 0 [some (.inr 84), none, none, none] [] σ := by
  intro  σ h
  unfold f_M_deep_84 at h
  refine H [((0, 0, 0, 0, []), 1), ((3, 1, 0, 0, []), 1), ((0, 0, 0, 0, []), 1), ((3, 2, 0, 0, []), 1)] 0 _ _ _ (by decide +kernel) ?_
  exact ok_M_deep_84_p4 H _ _ _ _ h
theorem ok_M_deep_84 {l : Launch} {σ : pS} {v : Int} {σ1 : pS} (h : f_M_deep_84  σ = some (v, σ1)) : Con l 3 224 [.inr 84] σ v σ1 := Con_mk 1 4 rfl (by decide +kernel) (fun _ H => ok_M_deep_84_w H  _ h)
theorem ok_X_check_0_p70 {l : Launch} {rv : Int} {rσ : pS} {G : Nat → pL → List pV → pS → Prop} (H : px_R l 1 131 rv rσ G) : ∀ (a2 : Int) (σ : pS), f_X_check_0_p70 a2 σ = some (rv, rσ) → G 70 [some (.inr 0), none, some (.inl a2), none] [] σ := by
  intro a2 σ h
  unfold f_X_check_0_p70 at h
  refine H [((2, 0, 0, 0, []), 1), ((17, 0, 1, 0, []), 3), ((23, 39, 0, 0, [(0, 1)]), 3), ((1, 2, 0, 0, []), 1), ((27, 0, 0, 0, []), 1)] 70 _ _ _ (by decide +kernel) ?_
  obtain ⟨⟨vq5, σq5⟩, hq5, h⟩ := px_bind h
  dsimp only at h
  refine Exists.intro 0 (Exists.intro vq5 (Exists.intro σq5 (And.intro (Nat.le_of_ble_eq_true rfl) (And.intro (ok_Tape_clear_1 hq5) ?_))))
  exact Prod.mk.inj (Option.some.inj h)
theorem ok_X_check_0_p28 {l : Launch} {rv : Int} {rσ : pS} {G : Nat → pL → List pV → pS → Prop} (H : px_R l 1 131 rv rσ G) : ∀ (n : Nat) (a1 a2 a3 : Int) (σ : pS), f_X_check_0_p28 n a1 a2 a3 σ = some (rv, rσ) → G 28 [some (.inr 0), some (.inl a1), some (.inl a2), some (.inl a3)] [] σ := by
  intro n
  induction n with
  | zero =>
    intro a1 a2 a3 σ h
    unfold f_X_check_0_p28 at h
    cases h
  | succ n ih =>
    intro a1 a2 a3 σ h
    unfold f_X_check_0_p28 at h
    refine H [((1, 3, 0, 0, []), 1), ((1, 1, 0, 0, []), 1), ((13, 3, 70, 0, []), 3), ((1, 2, 0, 0, []), 1), ((0, 0, 0, (-1), []), 1), ((13, 1, 70, 0, []), 3), ((2, 0, 0, 0, []), 1), ((17, 0, 1, 0, []), 3), ((17, 1, 2, 0, []), 3), ((1, 3, 0, 0, []), 1), ((19, 2, 260, 0, []), 1), ((2, 0, 0, 0, []), 1), ((17, 0, 3, 0, []), 3), ((17, 3, 24, 0, []), 3), ((17, 24, 26, 0, []), 3), ((1, 3, 0, 0, []), 1), ((19, 26, 64, 0, []), 1), ((13, 0, 64, 0, []), 3), ((1, 3, 0, 0, []), 1), ((3, 2, 0, 0, []), 1), ((5, 3, 0, 1, []), 3), ((12, 0, 28, 0, []), 3)] 28 _ _ _ (by decide +kernel) ?_
    rcases px_ite h with ⟨c4, h⟩ | ⟨c4, h⟩
    · refine And.intro (fun _ => ?_) (fun hn => absurd c4 hn)
      refine H [((29, 1, 0, 0, []), 0), ((29, 3, 0, 0, []), 0)] 70 _ _ _ (by decide +kernel) ?_
      exact ok_X_check_0_p70 H _ _ h
    · refine And.intro (fun hp => absurd hp c4) (fun _ => ?_)
      rcases px_ite h with ⟨c6, h⟩ | ⟨c6, h⟩
      · refine And.intro (fun hp => absurd c6 hp) (fun _ => ?_)
        obtain ⟨g7, h⟩ := px_gd h
        refine And.intro g7 ?_
        obtain ⟨g8, h⟩ := px_gd h
        refine And.intro g8 ?_
        rcases px_ite h with ⟨c9, h⟩ | ⟨c9, h⟩
        · refine And.intro (fun _ => ?_) (fun hn => absurd c9 hn)
          refine H [((5, 3, 0, 1, []), 3), ((12, 0, 28, 0, []), 3)] 64 _ _ _ (by decide +kernel) ?_
          exact ih _ _ _ _ h
        · refine And.intro (fun hp => absurd hp c9) (fun _ => ?_)
          exact ih _ _ _ _ h
      · refine And.intro (fun _ => ?_) (fun hn => absurd c6 hn)
        refine H [((29, 1, 0, 0, []), 0), ((29, 3, 0, 0, []), 0)] 70 _ _ _ (by decide +kernel) ?_
        exact ok_X_check_0_p70 H _ _ h
theorem ok_X_check_0_w {l : Launch} {rv : Int} {rσ : pS} {G : Nat → pL → List pV → pS → Prop} (H : px_R l 1 131 rv rσ G) : ∀ (a1 : Int) (σ : pS), f_X_check_0 a1 σ = some (rv, rσ) → G 0 [some (.inr 0), some (.inl a1), none, none] [] σ := by
  intro a1 σ h
  unfold f_X_check_0 at h
  refine H [((1, 1, 0, 0, []), 1), ((14, 2, 21, 0, []), 3), ((1, 1, 0, 0, []), 1), ((0, 0, 0, 64, []), 2), ((13, 4, 21, 0, []), 3), ((1, 1, 0, 0, []), 1), ((2, 0, 0, 0, []), 1), ((17, 0, 1, 0, []), 3), ((16, 1, 1, 0, []), 3), ((13, 5, 24, 0, []), 3), ((0, 0, 0, (-2), []), 2), ((27, 0, 0, 0, []), 1)] 0 _ _ _ (by decide +kernel) ?_
  rcases px_ite h with ⟨c1, h⟩ | ⟨c1, h⟩
  · refine And.intro (fun _ => ?_) (fun hn => absurd c1 hn)
    refine H [((0, 0, 0, (-2), []), 2), ((27, 0, 0, 0, []), 1)] 21 _ _ _ (by decide +kernel) ?_
    exact Prod.mk.inj (Option.some.inj h)
  · refine And.intro (fun hp => absurd hp c1) (fun _ => ?_)
    rcases px_ite h with ⟨c2, h⟩ | ⟨c2, h⟩
    · refine And.intro (fun _ => ?_) (fun hn => absurd c2 hn)
      refine H [((0, 0, 0, (-2), []), 2), ((27, 0, 0, 0, []), 1)] 21 _ _ _ (by decide +kernel) ?_
      exact Prod.mk.inj (Option.some.inj h)
    · refine And.intro (fun hp => absurd hp c2) (fun _ => ?_)
      rcases px_ite h with ⟨c3, h⟩ | ⟨c3, h⟩
      · refine And.intro (fun _ => ?_) (fun hn => absurd c3 hn)
        refine H [((0, 0, 0, (-1), []), 1), ((3, 2, 0, 0, []), 1), ((0, 0, 0, 0, []), 1), ((3, 3, 0, 0, []), 1)] 24 _ _ _ (by decide +kernel) ?_
        exact ok_X_check_0_p28 H _ _ _ _ _ h
      · refine And.intro (fun hp => absurd hp c3) (fun _ => ?_)
        exact Prod.mk.inj (Option.some.inj h)
theorem ok_X_check_0 {l : Launch} {a1 : Int} {σ : pS} {v : Int} {σ1 : pS} (h : f_X_check_0 a1 σ = some (v, σ1)) : Con l 1 131 [.inr 0, .inl a1] σ v σ1 := Con_mk 2 4 rfl (by decide +kernel) (fun _ H => ok_X_check_0_w H _ _ h)
theorem ok_M_octet_84_w {l : Launch} {rv : Int} {rσ : pS} {G : Nat → pL → List pV → pS → Prop} (H : px_R l 0 238 rv rσ G) : ∀ (a1 : Int) (σ : pS), f_M_octet_84 a1 σ = some (rv, rσ) → G 0 [some (.inr 84), some (.inl a1)] [] σ := by
  intro a1 σ h
  unfold f_M_octet_84 at h
  refine H [((2, 0, 0, 0, []), 1), ((17, 84, 96, 0, []), 3), ((1, 1, 0, 0, []), 1), ((19, 96, 260, 0, []), 1), ((0, 0, 0, 255, []), 3), ((6, 3, 0, 0, []), 1), ((27, 0, 0, 0, []), 1)] 0 _ _ _ (by decide +kernel) ?_
  obtain ⟨g1, h⟩ := px_gd h
  refine And.intro g1 ?_
  exact Prod.mk.inj (Option.some.inj h)
theorem ok_M_octet_84 {l : Launch} {a1 : Int} {σ : pS} {v : Int} {σ1 : pS} (h : f_M_octet_84 a1 σ = some (v, σ1)) : Con l 0 238 [.inr 84, .inl a1] σ v σ1 := Con_mk 2 2 rfl (by decide +kernel) (fun _ H => ok_M_octet_84_w H _ _ h)
theorem ok_M_check_84_p28 {l : Launch} {rv : Int} {rσ : pS} {G : Nat → pL → List pV → pS → Prop} (H : px_R l 1 237 rv rσ G) : ∀ (n : Nat) (a1 a2 : Int) (σ : pS), f_M_check_84_p28 n a1 a2 σ = some (rv, rσ) → G 28 [some (.inr 84), some (.inl a1), some (.inl a2)] [] σ := by
  intro n
  induction n with
  | zero =>
    intro a1 a2 σ h
    unfold f_M_check_84_p28 at h
    cases h
  | succ n ih =>
    intro a1 a2 σ h
    unfold f_M_check_84_p28 at h
    refine H [((1, 2, 0, 0, []), 1), ((1, 1, 0, 0, []), 1), ((13, 3, 55, 0, []), 3), ((2, 0, 0, 0, []), 1), ((1, 2, 0, 0, []), 1), ((23, 238, 1, 1, [(0, 84)]), 3), ((2, 0, 0, 0, []), 1), ((17, 84, 86, 0, []), 3), ((1, 2, 0, 0, []), 1), ((19, 86, 64, 0, []), 1), ((13, 0, 49, 0, []), 3), ((1, 2, 0, 0, []), 1), ((27, 0, 0, 0, []), 1)] 28 _ _ _ (by decide +kernel) ?_
    rcases px_ite h with ⟨c4, h⟩ | ⟨c4, h⟩
    · refine And.intro (fun _ => ?_) (fun hn => absurd c4 hn)
      refine H [((0, 0, 0, (-1), []), 1), ((27, 0, 0, 0, []), 1)] 55 _ _ _ (by decide +kernel) ?_
      exact Prod.mk.inj (Option.some.inj h)
    · refine And.intro (fun hp => absurd hp c4) (fun _ => ?_)
      obtain ⟨⟨vq5, σq5⟩, hq5, h⟩ := px_bind h
      dsimp only at h
      refine Exists.intro 0 (Exists.intro vq5 (Exists.intro σq5 (And.intro (Nat.le_of_ble_eq_true rfl) (And.intro (ok_M_octet_84 hq5) ?_))))
      obtain ⟨g6, h⟩ := px_gd h
      refine And.intro g6 ?_
      rcases px_ite h with ⟨c7, h⟩ | ⟨c7, h⟩
      · refine And.intro (fun _ => ?_) (fun hn => absurd c7 hn)
        refine H [((5, 2, 0, 1, []), 3), ((12, 0, 28, 0, []), 3)] 49 _ _ _ (by decide +kernel) ?_
        exact ih _ _ _ h
      · refine And.intro (fun hp => absurd hp c7) (fun _ => ?_)
        exact Prod.mk.inj (Option.some.inj h)
theorem ok_M_check_84_w {l : Launch} {rv : Int} {rσ : pS} {G : Nat → pL → List pV → pS → Prop} (H : px_R l 1 237 rv rσ G) : ∀ (a1 : Int) (σ : pS), f_M_check_84 a1 σ = some (rv, rσ) → G 0 [some (.inr 84), some (.inl a1), none] [] σ := by
  intro a1 σ h
  unfold f_M_check_84 at h
  refine H [((1, 1, 0, 0, []), 1), ((0, 0, 0, 0, []), 1), ((0, 0, 0, 64, []), 2), ((24, 137, 3, 1, []), 3), ((14, 0, 18, 0, []), 3), ((1, 1, 0, 0, []), 1), ((2, 0, 0, 0, []), 1), ((16, 84, 18, 0, []), 3), ((13, 5, 21, 0, []), 3), ((0, 0, 0, (-2), []), 2), ((27, 0, 0, 0, []), 1)] 0 _ _ _ (by decide +kernel) ?_
  obtain ⟨⟨vq1, σq1⟩, hq1, h⟩ := px_bind h
  dsimp only at h
  refine Exists.intro 0 (Exists.intro vq1 (Exists.intro σq1 (And.intro (Nat.le_of_ble_eq_true rfl) (And.intro (ok_M_in hq1) ?_))))
  rcases px_ite h with ⟨c2, h⟩ | ⟨c2, h⟩
  · refine And.intro (fun _ => ?_) (fun hn => absurd c2 hn)
    refine H [((0, 0, 0, (-2), []), 2), ((27, 0, 0, 0, []), 1)] 18 _ _ _ (by decide +kernel) ?_
    exact Prod.mk.inj (Option.some.inj h)
  · refine And.intro (fun hp => absurd hp c2) (fun _ => ?_)
    rcases px_ite h with ⟨c3, h⟩ | ⟨c3, h⟩
    · refine And.intro (fun _ => ?_) (fun hn => absurd c3 hn)
      refine H [((2, 0, 0, 0, []), 1), ((0, 0, 0, 0, []), 1), ((18, 84, 18, 0, []), 3), ((0, 0, 0, 0, []), 1), ((3, 2, 0, 0, []), 1)] 21 _ _ _ (by decide +kernel) ?_
      exact ok_M_check_84_p28 H _ _ _ _ h
    · refine And.intro (fun hp => absurd hp c3) (fun _ => ?_)
      exact Prod.mk.inj (Option.some.inj h)
theorem ok_M_check_84 {l : Launch} {a1 : Int} {σ : pS} {v : Int} {σ1 : pS} (h : f_M_check_84 a1 σ = some (v, σ1)) : Con l 1 237 [.inr 84, .inl a1] σ v σ1 := Con_mk 2 3 rfl (by decide +kernel) (fun _ H => ok_M_check_84_w H _ _ h)
theorem ok_Law_addStep_57_w {l : Launch} {rv : Int} {rσ : pS} {G : Nat → pL → List pV → pS → Prop} (H : px_R l 0 29 rv rσ G) : ∀ (a1 a2 : Int) (σ : pS), f_Law_addStep_57 a1 a2 σ = some (rv, rσ) → G 0 [some (.inr 57), some (.inl a1), some (.inl a2)] [] σ := by
  intro a1 a2 σ h
  unfold f_Law_addStep_57 at h
  refine H [((2, 0, 0, 0, []), 1), ((16, 57, 8, 0, []), 3), ((0, 0, 0, 240, []), 3), ((13, 2, 12, 0, []), 3), ((0, 0, 0, (-1), []), 1), ((27, 0, 0, 0, []), 1)] 0 _ _ _ (by decide +kernel) ?_
  rcases px_ite h with ⟨c1, h⟩ | ⟨c1, h⟩
  · refine And.intro (fun _ => ?_) (fun hn => absurd c1 hn)
    refine H [((2, 0, 0, 0, []), 1), ((17, 57, 61, 0, []), 3), ((2, 0, 0, 0, []), 1), ((16, 57, 8, 0, []), 3), ((1, 1, 0, 0, []), 1), ((20, 61, 240, 0, []), 1), ((2, 0, 0, 0, []), 1), ((17, 57, 62, 0, []), 3), ((2, 0, 0, 0, []), 1), ((16, 57, 8, 0, []), 3), ((1, 2, 0, 0, []), 1), ((20, 62, 240, 0, []), 1), ((2, 0, 0, 0, []), 1), ((9, 0, 0, 0, []), 1), ((16, 57, 8, 0, []), 3), ((0, 0, 0, 1, []), 1), ((6, 0, 0, 0, []), 1), ((18, 57, 8, 0, []), 3), ((2, 0, 0, 0, []), 1), ((16, 57, 8, 0, []), 3), ((0, 0, 0, 1, []), 1), ((6, 1, 0, 0, []), 1), ((27, 0, 0, 0, []), 1)] 12 _ _ _ (by decide +kernel) ?_
    obtain ⟨g2, h⟩ := px_gd h
    refine And.intro g2 ?_
    obtain ⟨g3, h⟩ := px_gd h
    refine And.intro g3 ?_
    exact Prod.mk.inj (Option.some.inj h)
  · refine And.intro (fun hp => absurd hp c1) (fun _ => ?_)
    exact Prod.mk.inj (Option.some.inj h)
theorem ok_Law_addStep_57 {l : Launch} {a1 a2 : Int} {σ : pS} {v : Int} {σ1 : pS} (h : f_Law_addStep_57 a1 a2 σ = some (v, σ1)) : Con l 0 29 [.inr 57, .inl a1, .inl a2] σ v σ1 := Con_mk 3 3 rfl (by decide +kernel) (fun _ H => ok_Law_addStep_57_w H _ _ _ h)
theorem ok_Law_skipToHere_57_w {l : Launch} {rv : Int} {rσ : pS} {G : Nat → pL → List pV → pS → Prop} (H : px_R l 0 35 rv rσ G) : ∀ (a1 : Int) (σ : pS), f_Law_skipToHere_57 a1 σ = some (rv, rσ) → G 0 [some (.inr 57), some (.inl a1)] [] σ := by
  intro a1 σ h
  unfold f_Law_skipToHere_57 at h
  refine H [((1, 1, 0, 0, []), 1), ((14, 2, 21, 0, []), 3), ((1, 1, 0, 0, []), 1), ((0, 0, 0, 240, []), 3), ((13, 3, 21, 0, []), 3), ((2, 0, 0, 0, []), 1), ((17, 57, 62, 0, []), 3), ((1, 1, 0, 0, []), 1), ((2, 0, 0, 0, []), 1), ((16, 57, 8, 0, []), 3), ((20, 62, 240, 0, []), 1), ((28, 0, 0, 0, []), 1)] 0 _ _ _ (by decide +kernel) ?_
  rcases px_ite h with ⟨c1, h⟩ | ⟨c1, h⟩
  · refine And.intro (fun _ => ?_) (fun hn => absurd c1 hn)
    refine H [((28, 0, 0, 0, []), 1)] 21 _ _ _ (by decide +kernel) ?_
    exact (Prod.mk.inj (Option.some.inj h)).2
  · refine And.intro (fun hp => absurd hp c1) (fun _ => ?_)
    rcases px_ite h with ⟨c2, h⟩ | ⟨c2, h⟩
    · refine And.intro (fun _ => ?_) (fun hn => absurd c2 hn)
      refine H [((28, 0, 0, 0, []), 1)] 21 _ _ _ (by decide +kernel) ?_
      exact (Prod.mk.inj (Option.some.inj h)).2
    · refine And.intro (fun hp => absurd hp c2) (fun _ => ?_)
      obtain ⟨g3, h⟩ := px_gd h
      refine And.intro g3 ?_
      exact (Prod.mk.inj (Option.some.inj h)).2
theorem ok_Law_skipToHere_57 {l : Launch} {a1 : Int} {σ : pS} {v : Int} {σ1 : pS} (h : f_Law_skipToHere_57 a1 σ = some (v, σ1)) : Con l 0 35 [.inr 57, .inl a1] σ v σ1 := Con_mk 2 2 rfl (by decide +kernel) (fun _ H => ok_Law_skipToHere_57_w H _ _ h)
theorem ok_Law_readEither_57_1_p13 {l : Launch} {rv : Int} {rσ : pS} {G : Nat → pL → List pV → pS → Prop} {fd fr : Nat} {rc : Nat → Int → pS → Option (Int × pS)} (hrc : ∀ w a σ v σ1, rc w a σ = some (v, σ1) → Con l fd (mi_rdC w) [.inr 57, .inr 1, .inl a] σ v σ1) (hfd : fd + 1 ≤ fr) (hfr : 1 ≤ fr) (H : px_R l fr 32 rv rσ G) : ∀ (n : Nat) (a2 a3 : Int) (σ : pS), f_Law_readEither_57_1_p13 rc n a2 a3 σ = some (rv, rσ) → G 13 [some (.inr 57), some (.inr 1), some (.inl a2), some (.inl a3), none] [] σ := by
  intro n
  induction n with
  | zero =>
    intro a2 a3 σ h
    unfold f_Law_readEither_57_1_p13 at h
    cases h
  | succ n ih =>
    intro a2 a3 σ h
    unfold f_Law_readEither_57_1_p13 at h
    refine H [((1, 3, 0, 0, []), 1), ((0, 0, 0, 240, []), 3), ((13, 3, 65, 0, []), 3), ((2, 1, 0, 0, []), 1), ((23, 19, 0, 1, [(0, 1)]), 3), ((0, 0, 0, 124, []), 2), ((13, 1, 65, 0, []), 3), ((2, 1, 0, 0, []), 1), ((23, 21, 0, 0, [(0, 1)]), 3), ((2, 0, 0, 0, []), 1), ((0, 0, 0, 124, []), 2), ((0, 0, 0, 0, []), 1), ((23, 29, 2, 1, [(0, 57)]), 3), ((3, 4, 0, 0, []), 2), ((2, 0, 0, 0, []), 1), ((2, 1, 0, 0, []), 1), ((1, 2, 0, 0, []), 1), ((23, 33, 2, 1, [(0, 57)]), 3), ((14, 1, 53, 0, []), 3), ((0, 0, 0, 0, []), 1), ((27, 1, 0, 0, []), 1)] 13 _ _ _ (by decide +kernel) ?_
    rcases px_ite h with ⟨c3, h⟩ | ⟨c3, h⟩
    · refine And.intro (fun _ => ?_) (fun hn => absurd c3 hn)
      refine H [((0, 0, 0, 1, []), 1), ((27, 1, 0, 0, []), 1)] 65 _ _ _ (by decide +kernel) ?_
      refine And.intro (show (0 : Int) ≤ 1 ∧ (1 : Int) ≤ 1 from by decide) ?_
      exact Prod.mk.inj (Option.some.inj h)
    · refine And.intro (fun hp => absurd hp c3) (fun _ => ?_)
      obtain ⟨⟨vq4, σq4⟩, hq4, h⟩ := px_bind h
      dsimp only at h
      refine Exists.intro 0 (Exists.intro vq4 (Exists.intro σq4 (And.intro (Nat.le_trans (Nat.le_of_ble_eq_true rfl) hfr) (And.intro (ok_Tape_sign_1 hq4) ?_))))
      rcases px_ite h with ⟨c5, h⟩ | ⟨c5, h⟩
      · refine And.intro (fun hp => absurd c5 hp) (fun _ => ?_)
        obtain ⟨⟨vq6, σq6⟩, hq6, h⟩ := px_bind h
        dsimp only at h
        refine Exists.intro 0 (Exists.intro vq6 (Exists.intro σq6 (And.intro (Nat.le_trans (Nat.le_of_ble_eq_true rfl) hfr) (And.intro (ok_Tape_step_1 hq6) ?_))))
        obtain ⟨⟨vq7, σq7⟩, hq7, h⟩ := px_bind h
        dsimp only at h
        refine Exists.intro 0 (Exists.intro vq7 (Exists.intro σq7 (And.intro (Nat.le_trans (Nat.le_of_ble_eq_true rfl) hfr) (And.intro (ok_Law_addStep_57 hq7) ?_))))
        obtain ⟨⟨vq8, σq8⟩, hq8, h⟩ := px_bind h
        dsimp only at h
        refine Exists.intro fd (Exists.intro vq8 (Exists.intro σq8 (And.intro hfd (And.intro (hrc 1 _ _ _ _ hq8) ?_))))
        rcases px_ite h with ⟨c9, h⟩ | ⟨c9, h⟩
        · refine And.intro (fun hp => absurd c9 hp) (fun _ => ?_)
          refine And.intro (show (0 : Int) ≤ 0 ∧ (0 : Int) ≤ 1 from by decide) ?_
          exact Prod.mk.inj (Option.some.inj h)
        · refine And.intro (fun _ => ?_) (fun hn => absurd c9 hn)
          refine H [((2, 0, 0, 0, []), 1), ((1, 4, 0, 0, []), 2), ((23, 35, 1, 0, [(0, 57)]), 3), ((5, 3, 0, 1, []), 3), ((12, 0, 13, 0, []), 3), ((29, 4, 0, 0, []), 0)] 53 _ _ _ (by decide +kernel) ?_
          obtain ⟨⟨vq10, σq10⟩, hq10, h⟩ := px_bind h
          dsimp only at h
          refine Exists.intro 0 (Exists.intro vq10 (Exists.intro σq10 (And.intro (Nat.le_trans (Nat.le_of_ble_eq_true rfl) hfr) (And.intro (ok_Law_skipToHere_57 hq10) ?_))))
          exact ih _ _ _ h
      · refine And.intro (fun _ => ?_) (fun hn => absurd c5 hn)
        refine H [((0, 0, 0, 1, []), 1), ((27, 1, 0, 0, []), 1)] 65 _ _ _ (by decide +kernel) ?_
        refine And.intro (show (0 : Int) ≤ 1 ∧ (1 : Int) ≤ 1 from by decide) ?_
        exact Prod.mk.inj (Option.some.inj h)
theorem ok_Law_readEither_57_1_w {l : Launch} {rv : Int} {rσ : pS} {G : Nat → pL → List pV → pS → Prop} {fd fr : Nat} {rc : Nat → Int → pS → Option (Int × pS)} (hrc : ∀ w a σ v σ1, rc w a σ = some (v, σ1) → Con l fd (mi_rdC w) [.inr 57, .inr 1, .inl a] σ v σ1) (hfd : fd + 1 ≤ fr) (hfr : 1 ≤ fr) (H : px_R l fr 32 rv rσ G) : ∀ (a2 : Int) (σ : pS), f_Law_readEither_57_1 rc a2 σ = some (rv, rσ) → G 0 [some (.inr 57), some (.inr 1), some (.inl a2), none, none] [] σ := by
  intro a2 σ h
  unfold f_Law_readEither_57_1 at h
  refine H [((2, 0, 0, 0, []), 1), ((2, 1, 0, 0, []), 1), ((1, 2, 0, 0, []), 1), ((23, 33, 2, 1, [(0, 57)]), 3), ((14, 1, 11, 0, []), 3), ((0, 0, 0, 0, []), 1), ((27, 1, 0, 0, []), 1)] 0 _ _ _ (by decide +kernel) ?_
  obtain ⟨⟨vq1, σq1⟩, hq1, h⟩ := px_bind h
  dsimp only at h
  refine Exists.intro fd (Exists.intro vq1 (Exists.intro σq1 (And.intro hfd (And.intro (hrc 1 _ _ _ _ hq1) ?_))))
  rcases px_ite h with ⟨c2, h⟩ | ⟨c2, h⟩
  · refine And.intro (fun hp => absurd c2 hp) (fun _ => ?_)
    refine And.intro (show (0 : Int) ≤ 0 ∧ (0 : Int) ≤ 1 from by decide) ?_
    exact Prod.mk.inj (Option.some.inj h)
  · refine And.intro (fun _ => ?_) (fun hn => absurd c2 hn)
    refine H [((0, 0, 0, 0, []), 1), ((3, 3, 0, 0, []), 1)] 11 _ _ _ (by decide +kernel) ?_
    exact ok_Law_readEither_57_1_p13 hrc hfd hfr H _ _ _ _ h
theorem ok_Law_readEither_57_1 {l : Launch} {fd fr : Nat} {rc : Nat → Int → pS → Option (Int × pS)} (hrc : ∀ w a σ v σ1, rc w a σ = some (v, σ1) → Con l fd (mi_rdC w) [.inr 57, .inr 1, .inl a] σ v σ1) (hfd : fd + 1 ≤ fr) (hfr : 1 ≤ fr) {a2 : Int} {σ : pS} {v : Int} {σ1 : pS} (h : f_Law_readEither_57_1 rc a2 σ = some (v, σ1)) : Con l fr 32 [.inr 57, .inr 1, .inl a2] σ v σ1 := Con_mk 3 5 rfl (by decide +kernel) (fun _ H => ok_Law_readEither_57_1_w hrc hfd hfr H _ _ h)
theorem ok_Law_readBoth_57_1_p13 {l : Launch} {rv : Int} {rσ : pS} {G : Nat → pL → List pV → pS → Prop} {fd fr : Nat} {rc : Nat → Int → pS → Option (Int × pS)} (hrc : ∀ w a σ v σ1, rc w a σ = some (v, σ1) → Con l fd (mi_rdC w) [.inr 57, .inr 1, .inl a] σ v σ1) (hfd : fd + 1 ≤ fr) (hfr : 1 ≤ fr) (H : px_R l fr 33 rv rσ G) : ∀ (n : Nat) (a2 a3 : Int) (σ : pS), f_Law_readBoth_57_1_p13 rc n a2 a3 σ = some (rv, rσ) → G 13 [some (.inr 57), some (.inr 1), some (.inl a2), some (.inl a3), none] [] σ := by
  intro n
  induction n with
  | zero =>
    intro a2 a3 σ h
    unfold f_Law_readBoth_57_1_p13 at h
    cases h
  | succ n ih =>
    intro a2 a3 σ h
    unfold f_Law_readBoth_57_1_p13 at h
    refine H [((1, 3, 0, 0, []), 1), ((0, 0, 0, 240, []), 3), ((13, 3, 65, 0, []), 3), ((2, 1, 0, 0, []), 1), ((23, 19, 0, 1, [(0, 1)]), 3), ((0, 0, 0, 38, []), 2), ((13, 1, 65, 0, []), 3), ((2, 1, 0, 0, []), 1), ((23, 21, 0, 0, [(0, 1)]), 3), ((2, 0, 0, 0, []), 1), ((0, 0, 0, 38, []), 2), ((0, 0, 0, 0, []), 1), ((23, 29, 2, 1, [(0, 57)]), 3), ((3, 4, 0, 0, []), 2), ((2, 0, 0, 0, []), 1), ((2, 1, 0, 0, []), 1), ((1, 2, 0, 0, []), 1), ((23, 34, 2, 1, [(0, 57)]), 3), ((14, 1, 53, 0, []), 3), ((0, 0, 0, 0, []), 1), ((27, 1, 0, 0, []), 1)] 13 _ _ _ (by decide +kernel) ?_
    rcases px_ite h with ⟨c3, h⟩ | ⟨c3, h⟩
    · refine And.intro (fun _ => ?_) (fun hn => absurd c3 hn)
      refine H [((0, 0, 0, 1, []), 1), ((27, 1, 0, 0, []), 1)] 65 _ _ _ (by decide +kernel) ?_
      refine And.intro (show (0 : Int) ≤ 1 ∧ (1 : Int) ≤ 1 from by decide) ?_
      exact Prod.mk.inj (Option.some.inj h)
    · refine And.intro (fun hp => absurd hp c3) (fun _ => ?_)
      obtain ⟨⟨vq4, σq4⟩, hq4, h⟩ := px_bind h
      dsimp only at h
      refine Exists.intro 0 (Exists.intro vq4 (Exists.intro σq4 (And.intro (Nat.le_trans (Nat.le_of_ble_eq_true rfl) hfr) (And.intro (ok_Tape_sign_1 hq4) ?_))))
      rcases px_ite h with ⟨c5, h⟩ | ⟨c5, h⟩
      · refine And.intro (fun hp => absurd c5 hp) (fun _ => ?_)
        obtain ⟨⟨vq6, σq6⟩, hq6, h⟩ := px_bind h
        dsimp only at h
        refine Exists.intro 0 (Exists.intro vq6 (Exists.intro σq6 (And.intro (Nat.le_trans (Nat.le_of_ble_eq_true rfl) hfr) (And.intro (ok_Tape_step_1 hq6) ?_))))
        obtain ⟨⟨vq7, σq7⟩, hq7, h⟩ := px_bind h
        dsimp only at h
        refine Exists.intro 0 (Exists.intro vq7 (Exists.intro σq7 (And.intro (Nat.le_trans (Nat.le_of_ble_eq_true rfl) hfr) (And.intro (ok_Law_addStep_57 hq7) ?_))))
        obtain ⟨⟨vq8, σq8⟩, hq8, h⟩ := px_bind h
        dsimp only at h
        refine Exists.intro fd (Exists.intro vq8 (Exists.intro σq8 (And.intro hfd (And.intro (hrc 2 _ _ _ _ hq8) ?_))))
        rcases px_ite h with ⟨c9, h⟩ | ⟨c9, h⟩
        · refine And.intro (fun hp => absurd c9 hp) (fun _ => ?_)
          refine And.intro (show (0 : Int) ≤ 0 ∧ (0 : Int) ≤ 1 from by decide) ?_
          exact Prod.mk.inj (Option.some.inj h)
        · refine And.intro (fun _ => ?_) (fun hn => absurd c9 hn)
          refine H [((2, 0, 0, 0, []), 1), ((1, 4, 0, 0, []), 2), ((23, 35, 1, 0, [(0, 57)]), 3), ((5, 3, 0, 1, []), 3), ((12, 0, 13, 0, []), 3), ((29, 4, 0, 0, []), 0)] 53 _ _ _ (by decide +kernel) ?_
          obtain ⟨⟨vq10, σq10⟩, hq10, h⟩ := px_bind h
          dsimp only at h
          refine Exists.intro 0 (Exists.intro vq10 (Exists.intro σq10 (And.intro (Nat.le_trans (Nat.le_of_ble_eq_true rfl) hfr) (And.intro (ok_Law_skipToHere_57 hq10) ?_))))
          exact ih _ _ _ h
      · refine And.intro (fun _ => ?_) (fun hn => absurd c5 hn)
        refine H [((0, 0, 0, 1, []), 1), ((27, 1, 0, 0, []), 1)] 65 _ _ _ (by decide +kernel) ?_
        refine And.intro (show (0 : Int) ≤ 1 ∧ (1 : Int) ≤ 1 from by decide) ?_
        exact Prod.mk.inj (Option.some.inj h)
theorem ok_Law_readBoth_57_1_w {l : Launch} {rv : Int} {rσ : pS} {G : Nat → pL → List pV → pS → Prop} {fd fr : Nat} {rc : Nat → Int → pS → Option (Int × pS)} (hrc : ∀ w a σ v σ1, rc w a σ = some (v, σ1) → Con l fd (mi_rdC w) [.inr 57, .inr 1, .inl a] σ v σ1) (hfd : fd + 1 ≤ fr) (hfr : 1 ≤ fr) (H : px_R l fr 33 rv rσ G) : ∀ (a2 : Int) (σ : pS), f_Law_readBoth_57_1 rc a2 σ = some (rv, rσ) → G 0 [some (.inr 57), some (.inr 1), some (.inl a2), none, none] [] σ := by
  intro a2 σ h
  unfold f_Law_readBoth_57_1 at h
  refine H [((2, 0, 0, 0, []), 1), ((2, 1, 0, 0, []), 1), ((1, 2, 0, 0, []), 1), ((23, 34, 2, 1, [(0, 57)]), 3), ((14, 1, 11, 0, []), 3), ((0, 0, 0, 0, []), 1), ((27, 1, 0, 0, []), 1)] 0 _ _ _ (by decide +kernel) ?_
  obtain ⟨⟨vq1, σq1⟩, hq1, h⟩ := px_bind h
  dsimp only at h
  refine Exists.intro fd (Exists.intro vq1 (Exists.intro σq1 (And.intro hfd (And.intro (hrc 2 _ _ _ _ hq1) ?_))))
  rcases px_ite h with ⟨c2, h⟩ | ⟨c2, h⟩
  · refine And.intro (fun hp => absurd c2 hp) (fun _ => ?_)
    refine And.intro (show (0 : Int) ≤ 0 ∧ (0 : Int) ≤ 1 from by decide) ?_
    exact Prod.mk.inj (Option.some.inj h)
  · refine And.intro (fun _ => ?_) (fun hn => absurd c2 hn)
    refine H [((0, 0, 0, 0, []), 1), ((3, 3, 0, 0, []), 1)] 11 _ _ _ (by decide +kernel) ?_
    exact ok_Law_readBoth_57_1_p13 hrc hfd hfr H _ _ _ _ h
theorem ok_Law_readBoth_57_1 {l : Launch} {fd fr : Nat} {rc : Nat → Int → pS → Option (Int × pS)} (hrc : ∀ w a σ v σ1, rc w a σ = some (v, σ1) → Con l fd (mi_rdC w) [.inr 57, .inr 1, .inl a] σ v σ1) (hfd : fd + 1 ≤ fr) (hfr : 1 ≤ fr) {a2 : Int} {σ : pS} {v : Int} {σ1 : pS} (h : f_Law_readBoth_57_1 rc a2 σ = some (v, σ1)) : Con l fr 33 [.inr 57, .inr 1, .inl a2] σ v σ1 := Con_mk 3 5 rfl (by decide +kernel) (fun _ H => ok_Law_readBoth_57_1_w hrc hfd hfr H _ _ h)
theorem ok_Law_isOneOf_w {l : Launch} {rv : Int} {rσ : pS} {G : Nat → pL → List pV → pS → Prop} (H : px_R l 0 31 rv rσ G) : ∀ (a0 a1 a2 a3 : Int) (σ : pS), f_Law_isOneOf a0 a1 a2 a3 σ = some (rv, rσ) → G 0 [some (.inl a0), some (.inl a1), some (.inl a2), some (.inl a3)] [] σ := by
  intro a0 a1 a2 a3 σ h
  unfold f_Law_isOneOf at h
  refine H [((1, 0, 0, 0, []), 1), ((1, 1, 0, 0, []), 1), ((13, 0, 15, 0, []), 3), ((1, 0, 0, 0, []), 1), ((1, 2, 0, 0, []), 1), ((13, 0, 15, 0, []), 3), ((1, 0, 0, 0, []), 1), ((1, 3, 0, 0, []), 1), ((13, 1, 19, 0, []), 3), ((0, 0, 0, 1, []), 1), ((12, 0, 20, 0, []), 3), ((27, 1, 0, 0, []), 1)] 0 _ _ _ (by decide +kernel) ?_
  rcases px_ite h with ⟨c1, h⟩ | ⟨c1, h⟩
  · refine And.intro (fun _ => ?_) (fun hn => absurd c1 hn)
    refine H [((0, 0, 0, 1, []), 1), ((12, 0, 20, 0, []), 3), ((27, 1, 0, 0, []), 1)] 15 _ _ _ (by decide +kernel) ?_
    refine And.intro (show (0 : Int) ≤ 1 ∧ (1 : Int) ≤ 1 from by decide) ?_
    exact Prod.mk.inj (Option.some.inj h)
  · refine And.intro (fun hp => absurd hp c1) (fun _ => ?_)
    rcases px_ite h with ⟨c2, h⟩ | ⟨c2, h⟩
    · refine And.intro (fun _ => ?_) (fun hn => absurd c2 hn)
      refine H [((0, 0, 0, 1, []), 1), ((12, 0, 20, 0, []), 3), ((27, 1, 0, 0, []), 1)] 15 _ _ _ (by decide +kernel) ?_
      refine And.intro (show (0 : Int) ≤ 1 ∧ (1 : Int) ≤ 1 from by decide) ?_
      exact Prod.mk.inj (Option.some.inj h)
    · refine And.intro (fun hp => absurd hp c2) (fun _ => ?_)
      rcases px_ite h with ⟨c3, h⟩ | ⟨c3, h⟩
      · refine And.intro (fun hp => absurd c3 hp) (fun _ => ?_)
        refine And.intro (show (0 : Int) ≤ 1 ∧ (1 : Int) ≤ 1 from by decide) ?_
        exact Prod.mk.inj (Option.some.inj h)
      · refine And.intro (fun _ => ?_) (fun hn => absurd c3 hn)
        refine H [((0, 0, 0, 0, []), 1), ((27, 1, 0, 0, []), 1)] 19 _ _ _ (by decide +kernel) ?_
        refine And.intro (show (0 : Int) ≤ 0 ∧ (0 : Int) ≤ 1 from by decide) ?_
        exact Prod.mk.inj (Option.some.inj h)
theorem ok_Law_isOneOf {l : Launch} {a0 a1 a2 a3 : Int} {σ : pS} {v : Int} {σ1 : pS} (h : f_Law_isOneOf a0 a1 a2 a3 σ = some (v, σ1)) : Con l 0 31 [.inl a0, .inl a1, .inl a2, .inl a3] σ v σ1 := Con_mk 4 4 rfl (by decide +kernel) (fun _ H => ok_Law_isOneOf_w H _ _ _ _ _ h)
