theorem ok_Tape_add_1_p3 {l : Launch} {rv : Int} {rσ : pS} {G : Nat → pL → List pV → pS → Prop} (H : px_R l 0 13 rv rσ G) : ∀ (n : Nat) (a1 a2 : Int) (σ : pS), f_Tape_add_1_p3 n a1 a2 σ = some (rv, rσ) → G 3 [some (.inr 1), some (.inl a1), some (.inl a2)] [] σ := by
  intro n
  induction n with
  | zero =>
    intro a1 a2 σ h
    unfold f_Tape_add_1_p3 at h
    cases h
  | succ n ih =>
    intro a1 a2 σ h
    unfold f_Tape_add_1_p3 at h
    refine H [((1, 2, 0, 0, []), 1), ((14, 2, 49, 0, []), 3), ((2, 0, 0, 0, []), 1), ((16, 1, 1, 0, []), 3), ((0, 0, 0, 260, []), 3), ((13, 3, 43, 0, []), 3), ((2, 0, 0, 0, []), 1), ((17, 1, 2, 0, []), 3), ((2, 0, 0, 0, []), 1), ((16, 1, 1, 0, []), 3), ((1, 1, 0, 0, []), 1), ((1, 2, 0, 0, []), 1), ((6, 8, 0, 0, []), 1), ((0, 0, 0, 255, []), 3), ((6, 3, 0, 0, []), 1), ((20, 2, 260, 0, []), 1), ((2, 0, 0, 0, []), 1), ((9, 0, 0, 0, []), 1), ((16, 1, 1, 0, []), 3), ((0, 0, 0, 1, []), 1), ((6, 0, 0, 0, []), 1), ((18, 1, 1, 0, []), 3), ((5, 2, 0, (-8), []), 3), ((12, 0, 3, 0, []), 3)] 3 _ _ _ (by decide +kernel) ?_
    rcases px_ite h with ⟨c1, h⟩ | ⟨c1, h⟩
    · refine And.intro (fun _ => ?_) (fun hn => absurd c1 hn)
      refine H [((28, 0, 0, 0, []), 1)] 49 _ _ _ (by decide +kernel) ?_
      exact (Prod.mk.inj (Option.some.inj h)).2
    · refine And.intro (fun hp => absurd hp c1) (fun _ => ?_)
      rcases px_ite h with ⟨c2, h⟩ | ⟨c2, h⟩
      · refine And.intro (fun _ => ?_) (fun hn => absurd c2 hn)
        refine H [((5, 2, 0, (-8), []), 3), ((12, 0, 3, 0, []), 3)] 43 _ _ _ (by decide +kernel) ?_
        exact ih _ _ _ h
      · refine And.intro (fun hp => absurd hp c2) (fun _ => ?_)
        obtain ⟨g3, h⟩ := px_gd h
        refine And.intro g3 ?_
        exact ih _ _ _ h
theorem ok_Tape_add_1_w {l : Launch} {rv : Int} {rσ : pS} {G : Nat → pL → List pV → pS → Prop} (H : px_R l 0 13 rv rσ G) : ∀ (a1 : Int) (σ : pS), f_Tape_add_1 a1 σ = some (rv, rσ) → G 0 [some (.inr 1), some (.inl a1), none] [] σ := by
  intro a1 σ h
  unfold f_Tape_add_1 at h
  refine H [((0, 0, 0, 24, []), 2), ((3, 2, 0, 0, []), 1)] 0 _ _ _ (by decide +kernel) ?_
  exact ok_Tape_add_1_p3 H _ _ _ _ h
theorem ok_Tape_add_1 {l : Launch} {a1 : Int} {σ : pS} {v : Int} {σ1 : pS} (h : f_Tape_add_1 a1 σ = some (v, σ1)) : Con l 0 13 [.inr 1, .inl a1] σ v σ1 := Con_mk 2 3 rfl (by decide +kernel) (fun _ H => ok_Tape_add_1_w H _ _ h)
theorem ok_X_feed_0_w {l : Launch} {rv : Int} {rσ : pS} {G : Nat → pL → List pV → pS → Prop} (H : px_R l 1 12 rv rσ G) : ∀ (a1 a2 a3 a4 a5 : Int) (σ : pS), f_X_feed_0 a1 a2 a3 a4 a5 σ = some (rv, rσ) → G 0 [some (.inr 0), some (.inl a1), some (.inl a2), some (.inl a3), some (.inl a4), some (.inl a5)] [] σ := by
  intro a1 a2 a3 a4 a5 σ h
  unfold f_X_feed_0 at h
  refine H [((2, 0, 0, 0, []), 1), ((17, 0, 1, 0, []), 3), ((16, 1, 1, 0, []), 3), ((0, 0, 0, 20, []), 2), ((6, 0, 0, 0, []), 1), ((0, 0, 0, 260, []), 3), ((13, 5, 18, 0, []), 3), ((0, 0, 0, (-1), []), 1), ((27, 0, 0, 0, []), 1)] 0 _ _ _ (by decide +kernel) ?_
  rcases px_ite h with ⟨c1, h⟩ | ⟨c1, h⟩
  · refine And.intro (fun _ => ?_) (fun hn => absurd c1 hn)
    refine H [((2, 0, 0, 0, []), 1), ((17, 0, 1, 0, []), 3), ((1, 1, 0, 0, []), 1), ((23, 13, 1, 0, [(0, 1)]), 3), ((2, 0, 0, 0, []), 1), ((17, 0, 1, 0, []), 3), ((1, 2, 0, 0, []), 1), ((23, 13, 1, 0, [(0, 1)]), 3), ((2, 0, 0, 0, []), 1), ((17, 0, 1, 0, []), 3), ((1, 3, 0, 0, []), 1), ((23, 13, 1, 0, [(0, 1)]), 3), ((2, 0, 0, 0, []), 1), ((17, 0, 1, 0, []), 3), ((1, 4, 0, 0, []), 2), ((23, 13, 1, 0, [(0, 1)]), 3), ((2, 0, 0, 0, []), 1), ((17, 0, 1, 0, []), 3), ((1, 5, 0, 0, []), 2), ((23, 13, 1, 0, [(0, 1)]), 3), ((2, 0, 0, 0, []), 1), ((17, 0, 1, 0, []), 3), ((16, 1, 1, 0, []), 3), ((27, 0, 0, 0, []), 1)] 18 _ _ _ (by decide +kernel) ?_
    obtain ⟨⟨vq2, σq2⟩, hq2, h⟩ := px_bind h
    dsimp only at h
    refine Exists.intro 0 (Exists.intro vq2 (Exists.intro σq2 (And.intro (Nat.le_of_ble_eq_true rfl) (And.intro (ok_Tape_add_1 hq2) ?_))))
    obtain ⟨⟨vq3, σq3⟩, hq3, h⟩ := px_bind h
    dsimp only at h
    refine Exists.intro 0 (Exists.intro vq3 (Exists.intro σq3 (And.intro (Nat.le_of_ble_eq_true rfl) (And.intro (ok_Tape_add_1 hq3) ?_))))
    obtain ⟨⟨vq4, σq4⟩, hq4, h⟩ := px_bind h
    dsimp only at h
    refine Exists.intro 0 (Exists.intro vq4 (Exists.intro σq4 (And.intro (Nat.le_of_ble_eq_true rfl) (And.intro (ok_Tape_add_1 hq4) ?_))))
    obtain ⟨⟨vq5, σq5⟩, hq5, h⟩ := px_bind h
    dsimp only at h
    refine Exists.intro 0 (Exists.intro vq5 (Exists.intro σq5 (And.intro (Nat.le_of_ble_eq_true rfl) (And.intro (ok_Tape_add_1 hq5) ?_))))
    obtain ⟨⟨vq6, σq6⟩, hq6, h⟩ := px_bind h
    dsimp only at h
    refine Exists.intro 0 (Exists.intro vq6 (Exists.intro σq6 (And.intro (Nat.le_of_ble_eq_true rfl) (And.intro (ok_Tape_add_1 hq6) ?_))))
    exact Prod.mk.inj (Option.some.inj h)
  · refine And.intro (fun hp => absurd hp c1) (fun _ => ?_)
    exact Prod.mk.inj (Option.some.inj h)
theorem ok_X_feed_0 {l : Launch} {a1 a2 a3 a4 a5 : Int} {σ : pS} {v : Int} {σ1 : pS} (h : f_X_feed_0 a1 a2 a3 a4 a5 σ = some (v, σ1)) : Con l 1 12 [.inr 0, .inl a1, .inl a2, .inl a3, .inl a4, .inl a5] σ v σ1 := Con_mk 6 6 rfl (by decide +kernel) (fun _ H => ok_X_feed_0_w H _ _ _ _ _ _ h)
theorem ok_M_types_84_p2 {l : Launch} {rv : Int} {rσ : pS} {G : Nat → pL → List pV → pS → Prop} (H : px_R l 0 140 rv rσ G) : ∀ (n : Nat) (a1 a2 : Int) (σ : pS), f_M_types_84_p2 n a1 a2 σ = some (rv, rσ) → G 2 [some (.inr 84), some (.inl a1), some (.inl a2)] [] σ := by
  intro n
  induction n with
  | zero =>
    intro a1 a2 σ h
    unfold f_M_types_84_p2 at h
    cases h
  | succ n ih =>
    intro a1 a2 σ h
    unfold f_M_types_84_p2 at h
    refine H [((1, 2, 0, 0, []), 1), ((14, 2, 38, 0, []), 3), ((2, 0, 0, 0, []), 1), ((17, 84, 96, 0, []), 3), ((2, 0, 0, 0, []), 1), ((16, 84, 18, 0, []), 3), ((1, 1, 0, 0, []), 1), ((0, 0, 0, 8, []), 2), ((1, 2, 0, 0, []), 1), ((6, 2, 0, 0, []), 1), ((6, 7, 0, 0, []), 1), ((8, 0, 0, 0, []), 1), ((20, 96, 260, 2, []), 1), ((2, 0, 0, 0, []), 1), ((2, 0, 0, 0, []), 1), ((16, 84, 18, 0, []), 3), ((0, 0, 0, 1, []), 1), ((6, 0, 0, 0, []), 1), ((18, 84, 18, 0, []), 3), ((5, 2, 0, (-1), []), 3), ((12, 0, 2, 0, []), 3)] 2 _ _ _ (by decide +kernel) ?_
    rcases px_ite h with ⟨c1, h⟩ | ⟨c1, h⟩
    · refine And.intro (fun _ => ?_) (fun hn => absurd c1 hn)
      refine H [((28, 0, 0, 0, []), 1)] 38 _ _ _ (by decide +kernel) ?_
      exact (Prod.mk.inj (Option.some.inj h)).2
    · refine And.intro (fun hp => absurd hp c1) (fun _ => ?_)
      obtain ⟨g2, h⟩ := px_gd h
      refine And.intro g2 ?_
      obtain ⟨g3, h⟩ := px_gd h
      refine And.intro g3 ?_
      exact ih _ _ _ h
theorem ok_M_types_84_w {l : Launch} {rv : Int} {rσ : pS} {G : Nat → pL → List pV → pS → Prop} (H : px_R l 0 140 rv rσ G) : ∀ (a1 : Int) (σ : pS), f_M_types_84 a1 σ = some (rv, rσ) → G 0 [some (.inr 84), some (.inl a1), none] [] σ := by
  intro a1 σ h
  unfold f_M_types_84 at h
  refine H [((0, 0, 0, 3, []), 1), ((3, 2, 0, 0, []), 1)] 0 _ _ _ (by decide +kernel) ?_
  exact ok_M_types_84_p2 H _ _ _ _ h
theorem ok_M_types_84 {l : Launch} {a1 : Int} {σ : pS} {v : Int} {σ1 : pS} (h : f_M_types_84 a1 σ = some (v, σ1)) : Con l 0 140 [.inr 84, .inl a1] σ v σ1 := Con_mk 2 3 rfl (by decide +kernel) (fun _ H => ok_M_types_84_w H _ _ h)
theorem ok_M_feed_84_w {l : Launch} {rv : Int} {rσ : pS} {G : Nat → pL → List pV → pS → Prop} (H : px_R l 1 139 rv rσ G) : ∀ (a1 a2 a3 a4 a5 : Int) (σ : pS), f_M_feed_84 a1 a2 a3 a4 a5 σ = some (rv, rσ) → G 0 [some (.inr 84), some (.inl a1), some (.inl a2), some (.inl a3), some (.inl a4), some (.inl a5)] [] σ := by
  intro a1 a2 a3 a4 a5 σ h
  unfold f_M_feed_84 at h
  refine H [((2, 0, 0, 0, []), 1), ((16, 84, 18, 0, []), 3), ((0, 0, 0, 20, []), 2), ((6, 0, 0, 0, []), 1), ((0, 0, 0, 260, []), 3), ((13, 5, 15, 0, []), 3), ((0, 0, 0, (-1), []), 1), ((27, 0, 0, 0, []), 1)] 0 _ _ _ (by decide +kernel) ?_
  rcases px_ite h with ⟨c1, h⟩ | ⟨c1, h⟩
  · refine And.intro (fun _ => ?_) (fun hn => absurd c1 hn)
    refine H [((2, 0, 0, 0, []), 1), ((1, 1, 0, 0, []), 1), ((23, 140, 1, 0, [(0, 84)]), 3), ((2, 0, 0, 0, []), 1), ((1, 2, 0, 0, []), 1), ((23, 140, 1, 0, [(0, 84)]), 3), ((2, 0, 0, 0, []), 1), ((1, 3, 0, 0, []), 1), ((23, 140, 1, 0, [(0, 84)]), 3), ((2, 0, 0, 0, []), 1), ((1, 4, 0, 0, []), 2), ((23, 140, 1, 0, [(0, 84)]), 3), ((2, 0, 0, 0, []), 1), ((1, 5, 0, 0, []), 2), ((23, 140, 1, 0, [(0, 84)]), 3), ((2, 0, 0, 0, []), 1), ((16, 84, 18, 0, []), 3), ((27, 0, 0, 0, []), 1)] 15 _ _ _ (by decide +kernel) ?_
    obtain ⟨⟨vq2, σq2⟩, hq2, h⟩ := px_bind h
    dsimp only at h
    refine Exists.intro 0 (Exists.intro vq2 (Exists.intro σq2 (And.intro (Nat.le_of_ble_eq_true rfl) (And.intro (ok_M_types_84 hq2) ?_))))
    obtain ⟨⟨vq3, σq3⟩, hq3, h⟩ := px_bind h
    dsimp only at h
    refine Exists.intro 0 (Exists.intro vq3 (Exists.intro σq3 (And.intro (Nat.le_of_ble_eq_true rfl) (And.intro (ok_M_types_84 hq3) ?_))))
    obtain ⟨⟨vq4, σq4⟩, hq4, h⟩ := px_bind h
    dsimp only at h
    refine Exists.intro 0 (Exists.intro vq4 (Exists.intro σq4 (And.intro (Nat.le_of_ble_eq_true rfl) (And.intro (ok_M_types_84 hq4) ?_))))
    obtain ⟨⟨vq5, σq5⟩, hq5, h⟩ := px_bind h
    dsimp only at h
    refine Exists.intro 0 (Exists.intro vq5 (Exists.intro σq5 (And.intro (Nat.le_of_ble_eq_true rfl) (And.intro (ok_M_types_84 hq5) ?_))))
    obtain ⟨⟨vq6, σq6⟩, hq6, h⟩ := px_bind h
    dsimp only at h
    refine Exists.intro 0 (Exists.intro vq6 (Exists.intro σq6 (And.intro (Nat.le_of_ble_eq_true rfl) (And.intro (ok_M_types_84 hq6) ?_))))
    exact Prod.mk.inj (Option.some.inj h)
  · refine And.intro (fun hp => absurd hp c1) (fun _ => ?_)
    exact Prod.mk.inj (Option.some.inj h)
theorem ok_M_feed_84 {l : Launch} {a1 a2 a3 a4 a5 : Int} {σ : pS} {v : Int} {σ1 : pS} (h : f_M_feed_84 a1 a2 a3 a4 a5 σ = some (v, σ1)) : Con l 1 139 [.inr 84, .inl a1, .inl a2, .inl a3, .inl a4, .inl a5] σ v σ1 := Con_mk 6 6 rfl (by decide +kernel) (fun _ H => ok_M_feed_84_w H _ _ _ _ _ _ h)
theorem ok_Tape_beginText_1_w {l : Launch} {rv : Int} {rσ : pS} {G : Nat → pL → List pV → pS → Prop} (H : px_R l 1 15 rv rσ G) : ∀ (a1 : Int) (σ : pS), f_Tape_beginText_1 a1 σ = some (rv, rσ) → G 0 [some (.inr 1), some (.inl a1)] [] σ := by
  intro a1 σ h
  unfold f_Tape_beginText_1 at h
  refine H [((2, 0, 0, 0, []), 1), ((1, 1, 0, 0, []), 1), ((2, 0, 0, 0, []), 1), ((16, 1, 1, 0, []), 3), ((25, 0, 0, 0, []), 3), ((18, 1, 2, 0, []), 3), ((2, 0, 0, 0, []), 1), ((0, 0, 0, 0, []), 1), ((18, 1, 3, 0, []), 3), ((2, 0, 0, 0, []), 1), ((0, 0, 0, 0, []), 1), ((18, 1, 4, 0, []), 3), ((28, 0, 0, 0, []), 1)] 0 _ _ _ (by decide +kernel) ?_
  exact (Prod.mk.inj (Option.some.inj h)).2
theorem ok_Tape_beginText_1 {l : Launch} {a1 : Int} {σ : pS} {v : Int} {σ1 : pS} (h : f_Tape_beginText_1 a1 σ = some (v, σ1)) : Con l 1 15 [.inr 1, .inl a1] σ v σ1 := Con_mk 2 2 rfl (by decide +kernel) (fun _ H => ok_Tape_beginText_1_w H _ _ h)
theorem ok_Tape_fault_1_w {l : Launch} {rv : Int} {rσ : pS} {G : Nat → pL → List pV → pS → Prop} (H : px_R l 0 36 rv rσ G) : ∀ (σ : pS), f_Tape_fault_1  σ = some (rv, rσ) → G 0 [some (.inr 1)] [] σ := by
  intro  σ h
  unfold f_Tape_fault_1 at h
  refine H [((2, 0, 0, 0, []), 1), ((16, 1, 4, 0, []), 3), ((27, 0, 0, 0, []), 1)] 0 _ _ _ (by decide +kernel) ?_
  exact Prod.mk.inj (Option.some.inj h)
theorem ok_Tape_fault_1 {l : Launch} {σ : pS} {v : Int} {σ1 : pS} (h : f_Tape_fault_1  σ = some (v, σ1)) : Con l 0 36 [.inr 1] σ v σ1 := Con_mk 1 1 rfl (by decide +kernel) (fun _ H => ok_Tape_fault_1_w H  _ h)
theorem ok_Tape_sign_1_w {l : Launch} {rv : Int} {rσ : pS} {G : Nat → pL → List pV → pS → Prop} (H : px_R l 0 19 rv rσ G) : ∀ (σ : pS), f_Tape_sign_1  σ = some (rv, rσ) → G 0 [some (.inr 1)] [] σ := by
  intro  σ h
  unfold f_Tape_sign_1 at h
  refine H [((2, 0, 0, 0, []), 1), ((16, 1, 3, 0, []), 3), ((14, 2, 40, 0, []), 3), ((2, 0, 0, 0, []), 1), ((16, 1, 3, 0, []), 3), ((2, 0, 0, 0, []), 1), ((16, 1, 2, 0, []), 3), ((13, 3, 40, 0, []), 3), ((2, 0, 0, 0, []), 1), ((16, 1, 3, 0, []), 3), ((0, 0, 0, 260, []), 3), ((13, 3, 40, 0, []), 3), ((2, 0, 0, 0, []), 1), ((17, 1, 2, 0, []), 3), ((2, 0, 0, 0, []), 1), ((16, 1, 3, 0, []), 3), ((19, 2, 260, 0, []), 1), ((12, 0, 41, 0, []), 3), ((27, 0, 0, 0, []), 1)] 0 _ _ _ (by decide +kernel) ?_
  rcases px_ite h with ⟨c1, h⟩ | ⟨c1, h⟩
  · refine And.intro (fun _ => ?_) (fun hn => absurd c1 hn)
    refine H [((0, 0, 0, (-1), []), 1), ((27, 0, 0, 0, []), 1)] 40 _ _ _ (by decide +kernel) ?_
    exact Prod.mk.inj (Option.some.inj h)
  · refine And.intro (fun hp => absurd hp c1) (fun _ => ?_)
    rcases px_ite h with ⟨c2, h⟩ | ⟨c2, h⟩
    · refine And.intro (fun _ => ?_) (fun hn => absurd c2 hn)
      refine H [((0, 0, 0, (-1), []), 1), ((27, 0, 0, 0, []), 1)] 40 _ _ _ (by decide +kernel) ?_
      exact Prod.mk.inj (Option.some.inj h)
    · refine And.intro (fun hp => absurd hp c2) (fun _ => ?_)
      rcases px_ite h with ⟨c3, h⟩ | ⟨c3, h⟩
      · refine And.intro (fun _ => ?_) (fun hn => absurd c3 hn)
        refine H [((0, 0, 0, (-1), []), 1), ((27, 0, 0, 0, []), 1)] 40 _ _ _ (by decide +kernel) ?_
        exact Prod.mk.inj (Option.some.inj h)
      · refine And.intro (fun hp => absurd hp c3) (fun _ => ?_)
        obtain ⟨g4, h⟩ := px_gd h
        refine And.intro g4 ?_
        exact Prod.mk.inj (Option.some.inj h)
theorem ok_Tape_sign_1 {l : Launch} {σ : pS} {v : Int} {σ1 : pS} (h : f_Tape_sign_1  σ = some (v, σ1)) : Con l 0 19 [.inr 1] σ v σ1 := Con_mk 1 1 rfl (by decide +kernel) (fun _ H => ok_Tape_sign_1_w H  _ h)
theorem ok_Prog_kindOf_w {l : Launch} {rv : Int} {rσ : pS} {G : Nat → pL → List pV → pS → Prop} (H : px_R l 0 43 rv rσ G) : ∀ (a0 : Int) (σ : pS), f_Prog_kindOf a0 σ = some (rv, rσ) → G 0 [some (.inl a0)] [] σ := by
  intro a0 σ h
  unfold f_Prog_kindOf at h
  refine H [((1, 0, 0, 0, []), 1), ((15, 0, 92, 0, [(35, 84), (38, 86), (42, 86), (43, 86), (45, 86), (62, 86), (76, 88), (83, 90), (94, 86)]), 83)] 0 _ _ _ (by decide +kernel) ?_
  rcases px_ite h with ⟨c1, h⟩ | ⟨c1, h⟩
  · refine And.intro (fun _ => ?_) (fun hn => absurd c1 hn)
    refine H [((0, 0, 0, 0, []), 1), ((27, 0, 0, 0, []), 1)] 84 _ _ _ (by decide +kernel) ?_
    exact Prod.mk.inj (Option.some.inj h)
  · refine And.intro (fun hp => absurd hp c1) (fun _ => ?_)
    rcases px_ite h with ⟨c2, h⟩ | ⟨c2, h⟩
    · refine And.intro (fun _ => ?_) (fun hn => absurd c2 hn)
      refine H [((0, 0, 0, 1, []), 1), ((27, 0, 0, 0, []), 1)] 86 _ _ _ (by decide +kernel) ?_
      exact Prod.mk.inj (Option.some.inj h)
    · refine And.intro (fun hp => absurd hp c2) (fun _ => ?_)
      rcases px_ite h with ⟨c3, h⟩ | ⟨c3, h⟩
      · refine And.intro (fun _ => ?_) (fun hn => absurd c3 hn)
        refine H [((0, 0, 0, 1, []), 1), ((27, 0, 0, 0, []), 1)] 86 _ _ _ (by decide +kernel) ?_
        exact Prod.mk.inj (Option.some.inj h)
      · refine And.intro (fun hp => absurd hp c3) (fun _ => ?_)
        rcases px_ite h with ⟨c4, h⟩ | ⟨c4, h⟩
        · refine And.intro (fun _ => ?_) (fun hn => absurd c4 hn)
          refine H [((0, 0, 0, 1, []), 1), ((27, 0, 0, 0, []), 1)] 86 _ _ _ (by decide +kernel) ?_
          exact Prod.mk.inj (Option.some.inj h)
        · refine And.intro (fun hp => absurd hp c4) (fun _ => ?_)
          rcases px_ite h with ⟨c5, h⟩ | ⟨c5, h⟩
          · refine And.intro (fun _ => ?_) (fun hn => absurd c5 hn)
            refine H [((0, 0, 0, 1, []), 1), ((27, 0, 0, 0, []), 1)] 86 _ _ _ (by decide +kernel) ?_
            exact Prod.mk.inj (Option.some.inj h)
          · refine And.intro (fun hp => absurd hp c5) (fun _ => ?_)
            rcases px_ite h with ⟨c6, h⟩ | ⟨c6, h⟩
            · refine And.intro (fun _ => ?_) (fun hn => absurd c6 hn)
              refine H [((0, 0, 0, 1, []), 1), ((27, 0, 0, 0, []), 1)] 86 _ _ _ (by decide +kernel) ?_
              exact Prod.mk.inj (Option.some.inj h)
            · refine And.intro (fun hp => absurd hp c6) (fun _ => ?_)
              rcases px_ite h with ⟨c7, h⟩ | ⟨c7, h⟩
              · refine And.intro (fun _ => ?_) (fun hn => absurd c7 hn)
                refine H [((0, 0, 0, 2, []), 1), ((27, 0, 0, 0, []), 1)] 88 _ _ _ (by decide +kernel) ?_
                exact Prod.mk.inj (Option.some.inj h)
              · refine And.intro (fun hp => absurd hp c7) (fun _ => ?_)
                rcases px_ite h with ⟨c8, h⟩ | ⟨c8, h⟩
                · refine And.intro (fun _ => ?_) (fun hn => absurd c8 hn)
                  refine H [((0, 0, 0, 3, []), 1), ((27, 0, 0, 0, []), 1)] 90 _ _ _ (by decide +kernel) ?_
                  exact Prod.mk.inj (Option.some.inj h)
                · refine And.intro (fun hp => absurd hp c8) (fun _ => ?_)
                  rcases px_ite h with ⟨c9, h⟩ | ⟨c9, h⟩
                  · refine And.intro (fun _ => ?_) (fun hn => absurd c9 hn)
                    refine H [((0, 0, 0, 1, []), 1), ((27, 0, 0, 0, []), 1)] 86 _ _ _ (by decide +kernel) ?_
                    exact Prod.mk.inj (Option.some.inj h)
                  · refine And.intro (fun hp => absurd hp c9) (fun _ => ?_)
                    refine H [((0, 0, 0, (-1), []), 1), ((27, 0, 0, 0, []), 1)] 92 _ _ _ (by decide +kernel) ?_
                    exact Prod.mk.inj (Option.some.inj h)
theorem ok_Prog_kindOf {l : Launch} {a0 : Int} {σ : pS} {v : Int} {σ1 : pS} (h : f_Prog_kindOf a0 σ = some (v, σ1)) : Con l 0 43 [.inl a0] σ v σ1 := Con_mk 1 1 rfl (by decide +kernel) (fun _ H => ok_Prog_kindOf_w H _ _ h)
theorem ok_Tape_step_1_w {l : Launch} {rv : Int} {rσ : pS} {G : Nat → pL → List pV → pS → Prop} (H : px_R l 0 21 rv rσ G) : ∀ (σ : pS), f_Tape_step_1  σ = some (rv, rσ) → G 0 [some (.inr 1)] [] σ := by
  intro  σ h
  unfold f_Tape_step_1 at h
  refine H [((2, 0, 0, 0, []), 1), ((9, 0, 0, 0, []), 1), ((16, 1, 3, 0, []), 3), ((0, 0, 0, 1, []), 1), ((6, 0, 0, 0, []), 1), ((18, 1, 3, 0, []), 3), ((28, 0, 0, 0, []), 1)] 0 _ _ _ (by decide +kernel) ?_
  exact (Prod.mk.inj (Option.some.inj h)).2
theorem ok_Tape_step_1 {l : Launch} {σ : pS} {v : Int} {σ1 : pS} (h : f_Tape_step_1  σ = some (v, σ1)) : Con l 0 21 [.inr 1] σ v σ1 := Con_mk 1 1 rfl (by decide +kernel) (fun _ H => ok_Tape_step_1_w H  _ h)
theorem ok_Prog_sizeOf_w {l : Launch} {rv : Int} {rσ : pS} {G : Nat → pL → List pV → pS → Prop} (H : px_R l 0 49 rv rσ G) : ∀ (a0 : Int) (σ : pS), f_Prog_sizeOf a0 σ = some (rv, rσ) → G 0 [some (.inl a0)] [] σ := by
  intro a0 σ h
  unfold f_Prog_sizeOf at h
  refine H [((1, 0, 0, 0, []), 1), ((15, 0, 42, 0, [(98, 36), (104, 38), (119, 40)]), 35)] 0 _ _ _ (by decide +kernel) ?_
  rcases px_ite h with ⟨c1, h⟩ | ⟨c1, h⟩
  · refine And.intro (fun _ => ?_) (fun hn => absurd c1 hn)
    refine H [((0, 0, 0, 1, []), 1), ((27, 0, 0, 0, []), 1)] 36 _ _ _ (by decide +kernel) ?_
    exact Prod.mk.inj (Option.some.inj h)
  · refine And.intro (fun hp => absurd hp c1) (fun _ => ?_)
    rcases px_ite h with ⟨c2, h⟩ | ⟨c2, h⟩
    · refine And.intro (fun _ => ?_) (fun hn => absurd c2 hn)
      refine H [((0, 0, 0, 2, []), 1), ((27, 0, 0, 0, []), 1)] 38 _ _ _ (by decide +kernel) ?_
      exact Prod.mk.inj (Option.some.inj h)
    · refine And.intro (fun hp => absurd hp c2) (fun _ => ?_)
      rcases px_ite h with ⟨c3, h⟩ | ⟨c3, h⟩
      · refine And.intro (fun _ => ?_) (fun hn => absurd c3 hn)
        refine H [((0, 0, 0, 4, []), 1), ((27, 0, 0, 0, []), 1)] 40 _ _ _ (by decide +kernel) ?_
        exact Prod.mk.inj (Option.some.inj h)
      · refine And.intro (fun hp => absurd hp c3) (fun _ => ?_)
        refine H [((0, 0, 0, 0, []), 1), ((27, 0, 0, 0, []), 1)] 42 _ _ _ (by decide +kernel) ?_
        exact Prod.mk.inj (Option.some.inj h)
theorem ok_Prog_sizeOf {l : Launch} {a0 : Int} {σ : pS} {v : Int} {σ1 : pS} (h : f_Prog_sizeOf a0 σ = some (v, σ1)) : Con l 0 49 [.inl a0] σ v σ1 := Con_mk 1 1 rfl (by decide +kernel) (fun _ H => ok_Prog_sizeOf_w H _ _ h)
theorem ok_Tape_fail_1_w {l : Launch} {rv : Int} {rσ : pS} {G : Nat → pL → List pV → pS → Prop} (H : px_R l 0 20 rv rσ G) : ∀ (a1 : Int) (σ : pS), f_Tape_fail_1 a1 σ = some (rv, rσ) → G 0 [some (.inr 1), some (.inl a1)] [] σ := by
  intro a1 σ h
  unfold f_Tape_fail_1 at h
  refine H [((2, 0, 0, 0, []), 1), ((0, 0, 0, (-1000), []), 3), ((1, 1, 0, 0, []), 1), ((6, 2, 0, 0, []), 1), ((2, 0, 0, 0, []), 1), ((16, 1, 3, 0, []), 3), ((6, 1, 0, 0, []), 1), ((18, 1, 4, 0, []), 3), ((0, 0, 0, 0, []), 1), ((27, 1, 0, 0, []), 1)] 0 _ _ _ (by decide +kernel) ?_
  refine And.intro (show (0 : Int) ≤ 0 ∧ (0 : Int) ≤ 1 from by decide) ?_
  exact Prod.mk.inj (Option.some.inj h)
theorem ok_Tape_fail_1 {l : Launch} {a1 : Int} {σ : pS} {v : Int} {σ1 : pS} (h : f_Tape_fail_1 a1 σ = some (v, σ1)) : Con l 0 20 [.inr 1, .inl a1] σ v σ1 := Con_mk 2 2 rfl (by decide +kernel) (fun _ H => ok_Tape_fail_1_w H _ _ h)
theorem ok_Tape_readRegister_1_p18 {l : Launch} {rv : Int} {rσ : pS} {G : Nat → pL → List pV → pS → Prop} (H : px_R l 1 45 rv rσ G) : ∀ (σ : pS), f_Tape_readRegister_1_p18  σ = some (rv, rσ) → G 18 [some (.inr 1), none] [] σ := by
  intro  σ h
  unfold f_Tape_readRegister_1_p18 at h
  refine H [((2, 0, 0, 0, []), 1), ((0, 0, 0, 1, []), 1), ((23, 20, 1, 1, [(0, 1)]), 3), ((11, 0, 0, 0, []), 1), ((0, 0, 0, (-1), []), 1), ((27, 0, 0, 0, []), 1)] 18 _ _ _ (by decide +kernel) ?_
  obtain ⟨⟨vq3, σq3⟩, hq3, h⟩ := px_bind h
  dsimp only at h
  refine Exists.intro 0 (Exists.intro vq3 (Exists.intro σq3 (And.intro (Nat.le_of_ble_eq_true rfl) (And.intro (ok_Tape_fail_1 hq3) ?_))))
  exact Prod.mk.inj (Option.some.inj h)
theorem ok_Tape_readRegister_1_w {l : Launch} {rv : Int} {rσ : pS} {G : Nat → pL → List pV → pS → Prop} (H : px_R l 1 45 rv rσ G) : ∀ (σ : pS), f_Tape_readRegister_1  σ = some (rv, rσ) → G 0 [some (.inr 1), none] [] σ := by
  intro  σ h
  unfold f_Tape_readRegister_1 at h
  refine H [((2, 0, 0, 0, []), 1), ((23, 19, 0, 1, [(0, 1)]), 3), ((0, 0, 0, 48, []), 2), ((6, 1, 0, 0, []), 1), ((3, 1, 0, 0, []), 1), ((1, 1, 0, 0, []), 1), ((14, 2, 18, 0, []), 3), ((1, 1, 0, 0, []), 1), ((0, 0, 0, 8, []), 2), ((13, 2, 26, 0, []), 3), ((29, 1, 0, 0, []), 0)] 0 _ _ _ (by decide +kernel) ?_
  obtain ⟨⟨vq1, σq1⟩, hq1, h⟩ := px_bind h
  dsimp only at h
  refine Exists.intro 0 (Exists.intro vq1 (Exists.intro σq1 (And.intro (Nat.le_of_ble_eq_true rfl) (And.intro (ok_Tape_sign_1 hq1) ?_))))
  rcases px_ite h with ⟨c2, h⟩ | ⟨c2, h⟩
  · refine And.intro (fun _ => ?_) (fun hn => absurd c2 hn)
    refine H [((29, 1, 0, 0, []), 0)] 18 _ _ _ (by decide +kernel) ?_
    exact ok_Tape_readRegister_1_p18 H  _ h
  · refine And.intro (fun hp => absurd hp c2) (fun _ => ?_)
    rcases px_ite h with ⟨c4, h⟩ | ⟨c4, h⟩
    · refine And.intro (fun _ => ?_) (fun hn => absurd c4 hn)
      refine H [((2, 0, 0, 0, []), 1), ((9, 0, 0, 0, []), 1), ((16, 1, 3, 0, []), 3), ((0, 0, 0, 1, []), 1), ((6, 0, 0, 0, []), 1), ((18, 1, 3, 0, []), 3), ((1, 1, 0, 0, []), 1), ((27, 0, 0, 0, []), 1)] 26 _ _ _ (by decide +kernel) ?_
      exact Prod.mk.inj (Option.some.inj h)
    · refine And.intro (fun hp => absurd hp c4) (fun _ => ?_)
      exact ok_Tape_readRegister_1_p18 H  _ h
theorem ok_Tape_readRegister_1 {l : Launch} {σ : pS} {v : Int} {σ1 : pS} (h : f_Tape_readRegister_1  σ = some (v, σ1)) : Con l 1 45 [.inr 1] σ v σ1 := Con_mk 1 2 rfl (by decide +kernel) (fun _ H => ok_Tape_readRegister_1_w H  _ h)
theorem ok_Tape_accept_1_w {l : Launch} {rv : Int} {rσ : pS} {G : Nat → pL → List pV → pS → Prop} (H : px_R l 1 26 rv rσ G) : ∀ (a1 : Int) (σ : pS), f_Tape_accept_1 a1 σ = some (rv, rσ) → G 0 [some (.inr 1), some (.inl a1)] [] σ := by
  intro a1 σ h
  unfold f_Tape_accept_1 at h
  refine H [((2, 0, 0, 0, []), 1), ((23, 19, 0, 1, [(0, 1)]), 3), ((1, 1, 0, 0, []), 1), ((13, 0, 14, 0, []), 3), ((2, 0, 0, 0, []), 1), ((0, 0, 0, 1, []), 1), ((23, 20, 1, 1, [(0, 1)]), 3), ((27, 1, 0, 0, []), 1)] 0 _ _ _ (by decide +kernel) ?_
  obtain ⟨⟨vq1, σq1⟩, hq1, h⟩ := px_bind h
  dsimp only at h
  refine Exists.intro 0 (Exists.intro vq1 (Exists.intro σq1 (And.intro (Nat.le_of_ble_eq_true rfl) (And.intro (ok_Tape_sign_1 hq1) ?_))))
  rcases px_ite h with ⟨c2, h⟩ | ⟨c2, h⟩
  · refine And.intro (fun _ => ?_) (fun hn => absurd c2 hn)
    refine H [((2, 0, 0, 0, []), 1), ((9, 0, 0, 0, []), 1), ((16, 1, 3, 0, []), 3), ((0, 0, 0, 1, []), 1), ((6, 0, 0, 0, []), 1), ((18, 1, 3, 0, []), 3), ((0, 0, 0, 1, []), 1), ((27, 1, 0, 0, []), 1)] 14 _ _ _ (by decide +kernel) ?_
    refine And.intro (show (0 : Int) ≤ 1 ∧ (1 : Int) ≤ 1 from by decide) ?_
    exact Prod.mk.inj (Option.some.inj h)
  · refine And.intro (fun hp => absurd hp c2) (fun _ => ?_)
    obtain ⟨⟨vq3, σq3⟩, hq3, h⟩ := px_bind h
    dsimp only at h
    refine Exists.intro 0 (Exists.intro vq3 (Exists.intro σq3 (And.intro (Nat.le_of_ble_eq_true rfl) (And.intro (ok_Tape_fail_1 hq3) ?_))))
    obtain ⟨g4, h⟩ := px_gd h
    refine And.intro g4 ?_
    exact Prod.mk.inj (Option.some.inj h)
theorem ok_Tape_accept_1 {l : Launch} {a1 : Int} {σ : pS} {v : Int} {σ1 : pS} (h : f_Tape_accept_1 a1 σ = some (v, σ1)) : Con l 1 26 [.inr 1, .inl a1] σ v σ1 := Con_mk 2 2 rfl (by decide +kernel) (fun _ H => ok_Tape_accept_1_w H _ _ h)
theorem ok_Prog_readGiven_45_1_w {l : Launch} {rv : Int} {rσ : pS} {G : Nat → pL → List pV → pS → Prop} (H : px_R l 2 44 rv rσ G) : ∀ (a2 : Int) (σ : pS), f_Prog_readGiven_45_1 a2 σ = some (rv, rσ) → G 0 [some (.inr 45), some (.inr 1), some (.inl a2)] [] σ := by
  intro a2 σ h
  unfold f_Prog_readGiven_45_1 at h
  refine H [((2, 0, 0, 0, []), 1), ((17, 45, 49, 0, []), 3), ((1, 2, 0, 0, []), 1), ((2, 1, 0, 0, []), 1), ((23, 45, 0, 1, [(0, 1)]), 3), ((20, 49, 20, 0, []), 1), ((2, 0, 0, 0, []), 1), ((17, 45, 49, 0, []), 3), ((1, 2, 0, 0, []), 1), ((19, 49, 20, 0, []), 1), ((0, 0, 0, (-1), []), 1), ((13, 0, 33, 0, []), 3), ((2, 1, 0, 0, []), 1), ((0, 0, 0, 44, []), 2), ((23, 26, 1, 1, [(0, 1)]), 3), ((14, 0, 33, 0, []), 3), ((0, 0, 0, 1, []), 1), ((12, 0, 34, 0, []), 3), ((27, 1, 0, 0, []), 1)] 0 _ _ _ (by decide +kernel) ?_
  obtain ⟨⟨vq1, σq1⟩, hq1, h⟩ := px_bind h
  dsimp only at h
  refine Exists.intro 1 (Exists.intro vq1 (Exists.intro σq1 (And.intro (Nat.le_of_ble_eq_true rfl) (And.intro (ok_Tape_readRegister_1 hq1) ?_))))
  obtain ⟨g2, h⟩ := px_gd h
  refine And.intro g2 ?_
  obtain ⟨g3, h⟩ := px_gd h
  refine And.intro g3 ?_
  rcases px_ite h with ⟨c4, h⟩ | ⟨c4, h⟩
  · refine And.intro (fun _ => ?_) (fun hn => absurd c4 hn)
    refine H [((0, 0, 0, 0, []), 1), ((27, 1, 0, 0, []), 1)] 33 _ _ _ (by decide +kernel) ?_
    refine And.intro (show (0 : Int) ≤ 0 ∧ (0 : Int) ≤ 1 from by decide) ?_
    exact Prod.mk.inj (Option.some.inj h)
  · refine And.intro (fun hp => absurd hp c4) (fun _ => ?_)
    obtain ⟨⟨vq5, σq5⟩, hq5, h⟩ := px_bind h
    dsimp only at h
    refine Exists.intro 1 (Exists.intro vq5 (Exists.intro σq5 (And.intro (Nat.le_of_ble_eq_true rfl) (And.intro (ok_Tape_accept_1 hq5) ?_))))
    rcases px_ite h with ⟨c6, h⟩ | ⟨c6, h⟩
    · refine And.intro (fun _ => ?_) (fun hn => absurd c6 hn)
      refine H [((0, 0, 0, 0, []), 1), ((27, 1, 0, 0, []), 1)] 33 _ _ _ (by decide +kernel) ?_
      refine And.intro (show (0 : Int) ≤ 0 ∧ (0 : Int) ≤ 1 from by decide) ?_
      exact Prod.mk.inj (Option.some.inj h)
    · refine And.intro (fun hp => absurd hp c6) (fun _ => ?_)
      refine And.intro (show (0 : Int) ≤ 1 ∧ (1 : Int) ≤ 1 from by decide) ?_
      exact Prod.mk.inj (Option.some.inj h)
theorem ok_Prog_readGiven_45_1 {l : Launch} {a2 : Int} {σ : pS} {v : Int} {σ1 : pS} (h : f_Prog_readGiven_45_1 a2 σ = some (v, σ1)) : Con l 2 44 [.inr 45, .inr 1, .inl a2] σ v σ1 := Con_mk 3 3 rfl (by decide +kernel) (fun _ H => ok_Prog_readGiven_45_1_w H _ _ h)
theorem ok_Tape_digitNext_1_w {l : Launch} {rv : Int} {rσ : pS} {G : Nat → pL → List pV → pS → Prop} (H : px_R l 1 27 rv rσ G) : ∀ (σ : pS), f_Tape_digitNext_1  σ = some (rv, rσ) → G 0 [some (.inr 1)] [] σ := by
  intro  σ h
  unfold f_Tape_digitNext_1 at h
  refine H [((2, 0, 0, 0, []), 1), ((23, 19, 0, 1, [(0, 1)]), 3), ((0, 0, 0, 48, []), 2), ((13, 2, 22, 0, []), 3), ((2, 0, 0, 0, []), 1), ((23, 19, 0, 1, [(0, 1)]), 3), ((0, 0, 0, 57, []), 2), ((13, 4, 22, 0, []), 3), ((0, 0, 0, 1, []), 1), ((12, 0, 23, 0, []), 3), ((27, 1, 0, 0, []), 1)] 0 _ _ _ (by decide +kernel) ?_
  obtain ⟨⟨vq1, σq1⟩, hq1, h⟩ := px_bind h
  dsimp only at h
  refine Exists.intro 0 (Exists.intro vq1 (Exists.intro σq1 (And.intro (Nat.le_of_ble_eq_true rfl) (And.intro (ok_Tape_sign_1 hq1) ?_))))
  rcases px_ite h with ⟨c2, h⟩ | ⟨c2, h⟩
  · refine And.intro (fun _ => ?_) (fun hn => absurd c2 hn)
    refine H [((0, 0, 0, 0, []), 1), ((27, 1, 0, 0, []), 1)] 22 _ _ _ (by decide +kernel) ?_
    refine And.intro (show (0 : Int) ≤ 0 ∧ (0 : Int) ≤ 1 from by decide) ?_
    exact Prod.mk.inj (Option.some.inj h)
  · refine And.intro (fun hp => absurd hp c2) (fun _ => ?_)
    obtain ⟨⟨vq3, σq3⟩, hq3, h⟩ := px_bind h
    dsimp only at h
    refine Exists.intro 0 (Exists.intro vq3 (Exists.intro σq3 (And.intro (Nat.le_of_ble_eq_true rfl) (And.intro (ok_Tape_sign_1 hq3) ?_))))
    rcases px_ite h with ⟨c4, h⟩ | ⟨c4, h⟩
    · refine And.intro (fun _ => ?_) (fun hn => absurd c4 hn)
      refine H [((0, 0, 0, 0, []), 1), ((27, 1, 0, 0, []), 1)] 22 _ _ _ (by decide +kernel) ?_
      refine And.intro (show (0 : Int) ≤ 0 ∧ (0 : Int) ≤ 1 from by decide) ?_
      exact Prod.mk.inj (Option.some.inj h)
    · refine And.intro (fun hp => absurd hp c4) (fun _ => ?_)
      refine And.intro (show (0 : Int) ≤ 1 ∧ (1 : Int) ≤ 1 from by decide) ?_
      exact Prod.mk.inj (Option.some.inj h)
theorem ok_Tape_digitNext_1 {l : Launch} {σ : pS} {v : Int} {σ1 : pS} (h : f_Tape_digitNext_1  σ = some (v, σ1)) : Con l 1 27 [.inr 1] σ v σ1 := Con_mk 1 1 rfl (by decide +kernel) (fun _ H => ok_Tape_digitNext_1_w H  _ h)
theorem ok_Tape_readDigits_1_p64 {l : Launch} {rv : Int} {rσ : pS} {G : Nat → pL → List pV → pS → Prop} (H : px_R l 2 28 rv rσ G) : ∀ (a2 : Int) (σ : pS), f_Tape_readDigits_1_p64 a2 σ = some (rv, rσ) → G 64 [some (.inr 1), none, some (.inl a2), none] [] σ := by
  intro a2 σ h
  unfold f_Tape_readDigits_1_p64 at h
  refine H [((2, 0, 0, 0, []), 1), ((23, 27, 0, 1, [(0, 1)]), 3), ((14, 0, 79, 0, []), 3), ((2, 0, 0, 0, []), 1), ((0, 0, 0, 2, []), 1), ((23, 20, 1, 1, [(0, 1)]), 3), ((11, 0, 0, 0, []), 1), ((0, 0, 0, (-1), []), 1), ((27, 0, 0, 0, []), 1)] 64 _ _ _ (by decide +kernel) ?_
  obtain ⟨⟨vq2, σq2⟩, hq2, h⟩ := px_bind h
  dsimp only at h
  refine Exists.intro 1 (Exists.intro vq2 (Exists.intro σq2 (And.intro (Nat.le_of_ble_eq_true rfl) (And.intro (ok_Tape_digitNext_1 hq2) ?_))))
  rcases px_ite h with ⟨c3, h⟩ | ⟨c3, h⟩
  · refine And.intro (fun _ => ?_) (fun hn => absurd c3 hn)
    refine H [((1, 2, 0, 0, []), 1), ((27, 0, 0, 0, []), 1)] 79 _ _ _ (by decide +kernel) ?_
    exact Prod.mk.inj (Option.some.inj h)
  · refine And.intro (fun hp => absurd hp c3) (fun _ => ?_)
    obtain ⟨⟨vq4, σq4⟩, hq4, h⟩ := px_bind h
    dsimp only at h
    refine Exists.intro 0 (Exists.intro vq4 (Exists.intro σq4 (And.intro (Nat.le_of_ble_eq_true rfl) (And.intro (ok_Tape_fail_1 hq4) ?_))))
    exact Prod.mk.inj (Option.some.inj h)
theorem ok_Tape_readDigits_1_p20 {l : Launch} {rv : Int} {rσ : pS} {G : Nat → pL → List pV → pS → Prop} (H : px_R l 2 28 rv rσ G) {k_4 : Int → Int → Int → pS → Option (Int × pS)} (hk_4 : ∀ (a1 a2 a3 : Int) (σ : pS), k_4 a1 a2 a3 σ = some (rv, rσ) → G 4 [some (.inr 1), some (.inl a1), some (.inl a2), some (.inl a3)] [] σ) : ∀ (a1 a2 a3 : Int) (σ : pS), f_Tape_readDigits_1_p20 k_4 a1 a2 a3 σ = some (rv, rσ) → G 20 [some (.inr 1), some (.inl a1), some (.inl a2), some (.inl a3)] [] σ := by
  intro a1 a2 a3 σ h
  unfold f_Tape_readDigits_1_p20 at h
  refine H [((2, 0, 0, 0, []), 1), ((23, 27, 0, 1, [(0, 1)]), 3), ((14, 1, 35, 0, []), 3), ((2, 0, 0, 0, []), 1), ((0, 0, 0, 1, []), 1), ((23, 20, 1, 1, [(0, 1)]), 3), ((11, 0, 0, 0, []), 1), ((0, 0, 0, (-1), []), 1), ((27, 0, 0, 0, []), 1)] 20 _ _ _ (by decide +kernel) ?_
  obtain ⟨⟨vq6, σq6⟩, hq6, h⟩ := px_bind h
  dsimp only at h
  refine Exists.intro 1 (Exists.intro vq6 (Exists.intro σq6 (And.intro (Nat.le_of_ble_eq_true rfl) (And.intro (ok_Tape_digitNext_1 hq6) ?_))))
  rcases px_ite h with ⟨c7, h⟩ | ⟨c7, h⟩
  · refine And.intro (fun hp => absurd c7 hp) (fun _ => ?_)
    obtain ⟨⟨vq9, σq9⟩, hq9, h⟩ := px_bind h
    dsimp only at h
    refine Exists.intro 0 (Exists.intro vq9 (Exists.intro σq9 (And.intro (Nat.le_of_ble_eq_true rfl) (And.intro (ok_Tape_fail_1 hq9) ?_))))
    exact Prod.mk.inj (Option.some.inj h)
  · refine And.intro (fun _ => ?_) (fun hn => absurd c7 hn)
    refine H [((1, 2, 0, 0, []), 1), ((0, 0, 0, 10, []), 2), ((6, 2, 0, 0, []), 1), ((2, 0, 0, 0, []), 1), ((23, 19, 0, 1, [(0, 1)]), 3), ((6, 0, 0, 0, []), 1), ((0, 0, 0, 48, []), 2), ((6, 1, 0, 0, []), 1), ((3, 2, 0, 0, []), 1), ((2, 0, 0, 0, []), 1), ((9, 0, 0, 0, []), 1), ((16, 1, 3, 0, []), 3), ((0, 0, 0, 1, []), 1), ((6, 0, 0, 0, []), 1), ((18, 1, 3, 0, []), 3), ((5, 3, 0, 1, []), 3), ((12, 0, 4, 0, []), 3)] 35 _ _ _ (by decide +kernel) ?_
    obtain ⟨⟨vq8, σq8⟩, hq8, h⟩ := px_bind h
    dsimp only at h
    refine Exists.intro 0 (Exists.intro vq8 (Exists.intro σq8 (And.intro (Nat.le_of_ble_eq_true rfl) (And.intro (ok_Tape_sign_1 hq8) ?_))))
    exact hk_4 _ _ _ _ h
theorem ok_Tape_readDigits_1_p4 {l : Launch} {rv : Int} {rσ : pS} {G : Nat → pL → List pV → pS → Prop} (H : px_R l 2 28 rv rσ G) : ∀ (n : Nat) (a1 a2 a3 : Int) (σ : pS), f_Tape_readDigits_1_p4 n a1 a2 a3 σ = some (rv, rσ) → G 4 [some (.inr 1), some (.inl a1), some (.inl a2), some (.inl a3)] [] σ := by
  intro n
  induction n with
  | zero =>
    intro a1 a2 a3 σ h
    unfold f_Tape_readDigits_1_p4 at h
    cases h
  | succ n ih =>
    intro a1 a2 a3 σ h
    unfold f_Tape_readDigits_1_p4 at h
    refine H [((1, 3, 0, 0, []), 1), ((1, 1, 0, 0, []), 1), ((13, 3, 64, 0, []), 3), ((1, 3, 0, 0, []), 1), ((14, 0, 20, 0, []), 3), ((2, 0, 0, 0, []), 1), ((23, 27, 0, 1, [(0, 1)]), 3), ((14, 0, 64, 0, []), 3)] 4 _ _ _ (by decide +kernel) ?_
    rcases px_ite h with ⟨c1, h⟩ | ⟨c1, h⟩
    · refine And.intro (fun _ => ?_) (fun hn => absurd c1 hn)
      refine H [((29, 1, 0, 0, []), 0), ((29, 3, 0, 0, []), 0)] 64 _ _ _ (by decide +kernel) ?_
      exact ok_Tape_readDigits_1_p64 H _ _ h
    · refine And.intro (fun hp => absurd hp c1) (fun _ => ?_)
      rcases px_ite h with ⟨c5, h⟩ | ⟨c5, h⟩
      · refine And.intro (fun _ => ?_) (fun hn => absurd c5 hn)
        exact ok_Tape_readDigits_1_p20 H ih _ _ _ _ h
      · refine And.intro (fun hp => absurd hp c5) (fun _ => ?_)
        obtain ⟨⟨vq10, σq10⟩, hq10, h⟩ := px_bind h
        dsimp only at h
        refine Exists.intro 1 (Exists.intro vq10 (Exists.intro σq10 (And.intro (Nat.le_of_ble_eq_true rfl) (And.intro (ok_Tape_digitNext_1 hq10) ?_))))
        rcases px_ite h with ⟨c11, h⟩ | ⟨c11, h⟩
        · refine And.intro (fun _ => ?_) (fun hn => absurd c11 hn)
          refine H [((29, 1, 0, 0, []), 0), ((29, 3, 0, 0, []), 0)] 64 _ _ _ (by decide +kernel) ?_
          exact ok_Tape_readDigits_1_p64 H _ _ h
        · refine And.intro (fun hp => absurd hp c11) (fun _ => ?_)
          exact ok_Tape_readDigits_1_p20 H ih _ _ _ _ h
theorem ok_Tape_readDigits_1_w {l : Launch} {rv : Int} {rσ : pS} {G : Nat → pL → List pV → pS → Prop} (H : px_R l 2 28 rv rσ G) : ∀ (a1 : Int) (σ : pS), f_Tape_readDigits_1 a1 σ = some (rv, rσ) → G 0 [some (.inr 1), some (.inl a1), none, none] [] σ := by
  intro a1 σ h
  unfold f_Tape_readDigits_1 at h
  refine H [((0, 0, 0, 0, []), 1), ((3, 2, 0, 0, []), 1), ((0, 0, 0, 0, []), 1), ((3, 3, 0, 0, []), 1)] 0 _ _ _ (by decide +kernel) ?_
  exact ok_Tape_readDigits_1_p4 H _ _ _ _ _ h
theorem ok_Tape_readDigits_1 {l : Launch} {a1 : Int} {σ : pS} {v : Int} {σ1 : pS} (h : f_Tape_readDigits_1 a1 σ = some (v, σ1)) : Con l 2 28 [.inr 1, .inl a1] σ v σ1 := Con_mk 2 4 rfl (by decide +kernel) (fun _ H => ok_Tape_readDigits_1_w H _ _ h)
theorem ok_Prog_readNumber_45_1_w {l : Launch} {rv : Int} {rσ : pS} {G : Nat → pL → List pV → pS → Prop} (H : px_R l 3 46 rv rσ G) : ∀ (a2 : Int) (σ : pS), f_Prog_readNumber_45_1 a2 σ = some (rv, rσ) → G 0 [some (.inr 45), some (.inr 1), some (.inl a2)] [] σ := by
  intro a2 σ h
  unfold f_Prog_readNumber_45_1 at h
  refine H [((2, 0, 0, 0, []), 1), ((17, 45, 52, 0, []), 3), ((1, 2, 0, 0, []), 1), ((2, 1, 0, 0, []), 1), ((0, 0, 0, 4, []), 1), ((23, 28, 1, 1, [(0, 1)]), 3), ((20, 52, 20, 0, []), 1), ((2, 0, 0, 0, []), 1), ((17, 45, 52, 0, []), 3), ((1, 2, 0, 0, []), 1), ((19, 52, 20, 0, []), 1), ((0, 0, 0, (-1), []), 1), ((13, 0, 25, 0, []), 3), ((0, 0, 0, 1, []), 1), ((12, 0, 26, 0, []), 3), ((27, 1, 0, 0, []), 1)] 0 _ _ _ (by decide +kernel) ?_
  obtain ⟨⟨vq1, σq1⟩, hq1, h⟩ := px_bind h
  dsimp only at h
  refine Exists.intro 2 (Exists.intro vq1 (Exists.intro σq1 (And.intro (Nat.le_of_ble_eq_true rfl) (And.intro (ok_Tape_readDigits_1 hq1) ?_))))
  obtain ⟨g2, h⟩ := px_gd h
  refine And.intro g2 ?_
  obtain ⟨g3, h⟩ := px_gd h
  refine And.intro g3 ?_
  rcases px_ite h with ⟨c4, h⟩ | ⟨c4, h⟩
  · refine And.intro (fun _ => ?_) (fun hn => absurd c4 hn)
    refine H [((0, 0, 0, 0, []), 1), ((27, 1, 0, 0, []), 1)] 25 _ _ _ (by decide +kernel) ?_
    refine And.intro (show (0 : Int) ≤ 0 ∧ (0 : Int) ≤ 1 from by decide) ?_
    exact Prod.mk.inj (Option.some.inj h)
  · refine And.intro (fun hp => absurd hp c4) (fun _ => ?_)
    refine And.intro (show (0 : Int) ≤ 1 ∧ (1 : Int) ≤ 1 from by decide) ?_
    exact Prod.mk.inj (Option.some.inj h)
theorem ok_Prog_readNumber_45_1 {l : Launch} {a2 : Int} {σ : pS} {v : Int} {σ1 : pS} (h : f_Prog_readNumber_45_1 a2 σ = some (v, σ1)) : Con l 3 46 [.inr 45, .inr 1, .inl a2] σ v σ1 := Con_mk 3 3 rfl (by decide +kernel) (fun _ H => ok_Prog_readNumber_45_1_w H _ _ h)
theorem ok_Prog_readMove_45_1_p116 {l : Launch} {rv : Int} {rσ : pS} {G : Nat → pL → List pV → pS → Prop} (H : px_R l 4 48 rv rσ G) : ∀ (a2 : Int) (σ : pS), f_Prog_readMove_45_1_p116 a2 σ = some (rv, rσ) → G 116 [some (.inr 45), some (.inr 1), some (.inl a2)] [] σ := by
  intro a2 σ h
  unfold f_Prog_readMove_45_1_p116 at h
  refine H [((2, 0, 0, 0, []), 1), ((2, 1, 0, 0, []), 1), ((1, 2, 0, 0, []), 1), ((23, 46, 2, 1, [(0, 45)]), 3), ((27, 1, 0, 0, []), 1)] 116 _ _ _ (by decide +kernel) ?_
  obtain ⟨⟨vq13, σq13⟩, hq13, h⟩ := px_bind h
  dsimp only at h
  refine Exists.intro 3 (Exists.intro vq13 (Exists.intro σq13 (And.intro (Nat.le_of_ble_eq_true rfl) (And.intro (ok_Prog_readNumber_45_1 hq13) ?_))))
  obtain ⟨g14, h⟩ := px_gd h
  refine And.intro g14 ?_
  exact Prod.mk.inj (Option.some.inj h)
theorem ok_Prog_readMove_45_1_p72 {l : Launch} {rv : Int} {rσ : pS} {G : Nat → pL → List pV → pS → Prop} (H : px_R l 4 48 rv rσ G) : ∀ (a2 : Int) (σ : pS), f_Prog_readMove_45_1_p72 a2 σ = some (rv, rσ) → G 72 [some (.inr 45), some (.inr 1), some (.inl a2)] [] σ := by
  intro a2 σ h
  unfold f_Prog_readMove_45_1_p72 at h
  refine H [((2, 1, 0, 0, []), 1), ((23, 19, 0, 1, [(0, 1)]), 3), ((0, 0, 0, 114, []), 2), ((13, 1, 116, 0, []), 3), ((2, 1, 0, 0, []), 1), ((23, 21, 0, 0, [(0, 1)]), 3), ((2, 0, 0, 0, []), 1), ((17, 45, 51, 0, []), 3), ((1, 2, 0, 0, []), 1), ((2, 1, 0, 0, []), 1), ((23, 45, 0, 1, [(0, 1)]), 3), ((20, 51, 20, 0, []), 1), ((2, 0, 0, 0, []), 1), ((17, 45, 51, 0, []), 3), ((1, 2, 0, 0, []), 1), ((19, 51, 20, 0, []), 1), ((0, 0, 0, (-1), []), 1), ((13, 0, 114, 0, []), 3), ((2, 1, 0, 0, []), 1), ((0, 0, 0, 43, []), 2), ((23, 26, 1, 1, [(0, 1)]), 3), ((14, 1, 116, 0, []), 3), ((0, 0, 0, 0, []), 1), ((27, 1, 0, 0, []), 1)] 72 _ _ _ (by decide +kernel) ?_
  obtain ⟨⟨vq11, σq11⟩, hq11, h⟩ := px_bind h
  dsimp only at h
  refine Exists.intro 0 (Exists.intro vq11 (Exists.intro σq11 (And.intro (Nat.le_of_ble_eq_true rfl) (And.intro (ok_Tape_sign_1 hq11) ?_))))
  rcases px_ite h with ⟨c12, h⟩ | ⟨c12, h⟩
  · refine And.intro (fun hp => absurd c12 hp) (fun _ => ?_)
    obtain ⟨⟨vq15, σq15⟩, hq15, h⟩ := px_bind h
    dsimp only at h
    refine Exists.intro 0 (Exists.intro vq15 (Exists.intro σq15 (And.intro (Nat.le_of_ble_eq_true rfl) (And.intro (ok_Tape_step_1 hq15) ?_))))
    obtain ⟨⟨vq16, σq16⟩, hq16, h⟩ := px_bind h
    dsimp only at h
    refine Exists.intro 1 (Exists.intro vq16 (Exists.intro σq16 (And.intro (Nat.le_of_ble_eq_true rfl) (And.intro (ok_Tape_readRegister_1 hq16) ?_))))
    obtain ⟨g17, h⟩ := px_gd h
    refine And.intro g17 ?_
    obtain ⟨g18, h⟩ := px_gd h
    refine And.intro g18 ?_
    rcases px_ite h with ⟨c19, h⟩ | ⟨c19, h⟩
    · refine And.intro (fun _ => ?_) (fun hn => absurd c19 hn)
      refine H [((0, 0, 0, 0, []), 1), ((27, 1, 0, 0, []), 1)] 114 _ _ _ (by decide +kernel) ?_
      refine And.intro (show (0 : Int) ≤ 0 ∧ (0 : Int) ≤ 1 from by decide) ?_
      exact Prod.mk.inj (Option.some.inj h)
    · refine And.intro (fun hp => absurd hp c19) (fun _ => ?_)
      obtain ⟨⟨vq20, σq20⟩, hq20, h⟩ := px_bind h
      dsimp only at h
      refine Exists.intro 1 (Exists.intro vq20 (Exists.intro σq20 (And.intro (Nat.le_of_ble_eq_true rfl) (And.intro (ok_Tape_accept_1 hq20) ?_))))
      rcases px_ite h with ⟨c21, h⟩ | ⟨c21, h⟩
      · refine And.intro (fun hp => absurd c21 hp) (fun _ => ?_)
        refine And.intro (show (0 : Int) ≤ 0 ∧ (0 : Int) ≤ 1 from by decide) ?_
        exact Prod.mk.inj (Option.some.inj h)
      · refine And.intro (fun _ => ?_) (fun hn => absurd c21 hn)
        exact ok_Prog_readMove_45_1_p116 H _ _ h
  · refine And.intro (fun _ => ?_) (fun hn => absurd c12 hn)
    exact ok_Prog_readMove_45_1_p116 H _ _ h
theorem ok_Prog_readMove_45_1_w {l : Launch} {rv : Int} {rσ : pS} {G : Nat → pL → List pV → pS → Prop} (H : px_R l 4 48 rv rσ G) : ∀ (a2 : Int) (σ : pS), f_Prog_readMove_45_1 a2 σ = some (rv, rσ) → G 0 [some (.inr 45), some (.inr 1), some (.inl a2)] [] σ := by
  intro a2 σ h
  unfold f_Prog_readMove_45_1 at h
  refine H [((2, 0, 0, 0, []), 1), ((17, 45, 48, 0, []), 3), ((1, 2, 0, 0, []), 1), ((2, 1, 0, 0, []), 1), ((23, 19, 0, 1, [(0, 1)]), 3), ((24, 49, 1, 1, []), 3), ((20, 48, 20, 0, []), 1), ((2, 0, 0, 0, []), 1), ((17, 45, 48, 0, []), 3), ((1, 2, 0, 0, []), 1), ((19, 48, 20, 0, []), 1), ((14, 1, 28, 0, []), 3), ((2, 1, 0, 0, []), 1), ((0, 0, 0, 1, []), 1), ((23, 20, 1, 1, [(0, 1)]), 3), ((27, 1, 0, 0, []), 1)] 0 _ _ _ (by decide +kernel) ?_
  obtain ⟨⟨vq1, σq1⟩, hq1, h⟩ := px_bind h
  dsimp only at h
  refine Exists.intro 0 (Exists.intro vq1 (Exists.intro σq1 (And.intro (Nat.le_of_ble_eq_true rfl) (And.intro (ok_Tape_sign_1 hq1) ?_))))
  obtain ⟨⟨vq2, σq2⟩, hq2, h⟩ := px_bind h
  dsimp only at h
  refine Exists.intro 0 (Exists.intro vq2 (Exists.intro σq2 (And.intro (Nat.le_of_ble_eq_true rfl) (And.intro (ok_Prog_sizeOf hq2) ?_))))
  obtain ⟨g3, h⟩ := px_gd h
  refine And.intro g3 ?_
  obtain ⟨g4, h⟩ := px_gd h
  refine And.intro g4 ?_
  rcases px_ite h with ⟨c5, h⟩ | ⟨c5, h⟩
  · refine And.intro (fun hp => absurd c5 hp) (fun _ => ?_)
    obtain ⟨⟨vq25, σq25⟩, hq25, h⟩ := px_bind h
    dsimp only at h
    refine Exists.intro 0 (Exists.intro vq25 (Exists.intro σq25 (And.intro (Nat.le_of_ble_eq_true rfl) (And.intro (ok_Tape_fail_1 hq25) ?_))))
    obtain ⟨g26, h⟩ := px_gd h
    refine And.intro g26 ?_
    exact Prod.mk.inj (Option.some.inj h)
  · refine And.intro (fun _ => ?_) (fun hn => absurd c5 hn)
    refine H [((2, 1, 0, 0, []), 1), ((23, 21, 0, 0, [(0, 1)]), 3), ((2, 0, 0, 0, []), 1), ((2, 1, 0, 0, []), 1), ((1, 2, 0, 0, []), 1), ((23, 44, 2, 1, [(0, 45)]), 3), ((14, 1, 43, 0, []), 3), ((0, 0, 0, 0, []), 1), ((27, 1, 0, 0, []), 1)] 28 _ _ _ (by decide +kernel) ?_
    obtain ⟨⟨vq6, σq6⟩, hq6, h⟩ := px_bind h
    dsimp only at h
    refine Exists.intro 0 (Exists.intro vq6 (Exists.intro σq6 (And.intro (Nat.le_of_ble_eq_true rfl) (And.intro (ok_Tape_step_1 hq6) ?_))))
    obtain ⟨⟨vq7, σq7⟩, hq7, h⟩ := px_bind h
    dsimp only at h
    refine Exists.intro 2 (Exists.intro vq7 (Exists.intro σq7 (And.intro (Nat.le_of_ble_eq_true rfl) (And.intro (ok_Prog_readGiven_45_1 hq7) ?_))))
    rcases px_ite h with ⟨c8, h⟩ | ⟨c8, h⟩
    · refine And.intro (fun hp => absurd c8 hp) (fun _ => ?_)
      refine And.intro (show (0 : Int) ≤ 0 ∧ (0 : Int) ≤ 1 from by decide) ?_
      exact Prod.mk.inj (Option.some.inj h)
    · refine And.intro (fun _ => ?_) (fun hn => absurd c8 hn)
      refine H [((2, 0, 0, 0, []), 1), ((17, 45, 46, 0, []), 3), ((1, 2, 0, 0, []), 1), ((19, 46, 20, 0, []), 1), ((0, 0, 0, 3, []), 1), ((13, 1, 72, 0, []), 3), ((2, 0, 0, 0, []), 1), ((17, 45, 50, 0, []), 3), ((1, 2, 0, 0, []), 1), ((2, 0, 0, 0, []), 1), ((17, 45, 49, 0, []), 3), ((1, 2, 0, 0, []), 1), ((19, 49, 20, 0, []), 1), ((20, 50, 20, 0, []), 1), ((2, 0, 0, 0, []), 1), ((17, 45, 49, 0, []), 3), ((1, 2, 0, 0, []), 1), ((0, 0, 0, (-1), []), 1), ((20, 49, 20, 0, []), 1)] 43 _ _ _ (by decide +kernel) ?_
      obtain ⟨g9, h⟩ := px_gd h
      refine And.intro g9 ?_
      rcases px_ite h with ⟨c10, h⟩ | ⟨c10, h⟩
      · refine And.intro (fun hp => absurd c10 hp) (fun _ => ?_)
        obtain ⟨g22, h⟩ := px_gd h
        refine And.intro g22 ?_
        obtain ⟨g23, h⟩ := px_gd h
        refine And.intro g23 ?_
        obtain ⟨g24, h⟩ := px_gd h
        refine And.intro g24 ?_
        exact ok_Prog_readMove_45_1_p72 H _ _ h
      · refine And.intro (fun _ => ?_) (fun hn => absurd c10 hn)
        exact ok_Prog_readMove_45_1_p72 H _ _ h
theorem ok_Prog_readMove_45_1 {l : Launch} {a2 : Int} {σ : pS} {v : Int} {σ1 : pS} (h : f_Prog_readMove_45_1 a2 σ = some (v, σ1)) : Con l 4 48 [.inr 45, .inr 1, .inl a2] σ v σ1 := Con_mk 3 3 rfl (by decide +kernel) (fun _ H => ok_Prog_readMove_45_1_w H _ _ h)
theorem ok_Prog_readReckoning_45_1_w {l : Launch} {rv : Int} {rσ : pS} {G : Nat → pL → List pV → pS → Prop} (H : px_R l 3 47 rv rσ G) : ∀ (a2 : Int) (σ : pS), f_Prog_readReckoning_45_1 a2 σ = some (rv, rσ) → G 0 [some (.inr 45), some (.inr 1), some (.inl a2)] [] σ := by
  intro a2 σ h
  unfold f_Prog_readReckoning_45_1 at h
  refine H [((2, 0, 0, 0, []), 1), ((2, 1, 0, 0, []), 1), ((1, 2, 0, 0, []), 1), ((23, 44, 2, 1, [(0, 45)]), 3), ((14, 1, 11, 0, []), 3), ((0, 0, 0, 0, []), 1), ((27, 1, 0, 0, []), 1)] 0 _ _ _ (by decide +kernel) ?_
  obtain ⟨⟨vq1, σq1⟩, hq1, h⟩ := px_bind h
  dsimp only at h
  refine Exists.intro 2 (Exists.intro vq1 (Exists.intro σq1 (And.intro (Nat.le_of_ble_eq_true rfl) (And.intro (ok_Prog_readGiven_45_1 hq1) ?_))))
  rcases px_ite h with ⟨c2, h⟩ | ⟨c2, h⟩
  · refine And.intro (fun hp => absurd c2 hp) (fun _ => ?_)
    refine And.intro (show (0 : Int) ≤ 0 ∧ (0 : Int) ≤ 1 from by decide) ?_
    exact Prod.mk.inj (Option.some.inj h)
  · refine And.intro (fun _ => ?_) (fun hn => absurd c2 hn)
    refine H [((2, 0, 0, 0, []), 1), ((17, 45, 50, 0, []), 3), ((1, 2, 0, 0, []), 1), ((2, 1, 0, 0, []), 1), ((23, 45, 0, 1, [(0, 1)]), 3), ((20, 50, 20, 0, []), 1), ((2, 0, 0, 0, []), 1), ((17, 45, 50, 0, []), 3), ((1, 2, 0, 0, []), 1), ((19, 50, 20, 0, []), 1), ((0, 0, 0, (-1), []), 1), ((13, 0, 40, 0, []), 3), ((2, 1, 0, 0, []), 1), ((0, 0, 0, 44, []), 2), ((23, 26, 1, 1, [(0, 1)]), 3), ((14, 1, 42, 0, []), 3), ((0, 0, 0, 0, []), 1), ((27, 1, 0, 0, []), 1)] 11 _ _ _ (by decide +kernel) ?_
    obtain ⟨⟨vq3, σq3⟩, hq3, h⟩ := px_bind h
    dsimp only at h
    refine Exists.intro 1 (Exists.intro vq3 (Exists.intro σq3 (And.intro (Nat.le_of_ble_eq_true rfl) (And.intro (ok_Tape_readRegister_1 hq3) ?_))))
    obtain ⟨g4, h⟩ := px_gd h
    refine And.intro g4 ?_
    obtain ⟨g5, h⟩ := px_gd h
    refine And.intro g5 ?_
    rcases px_ite h with ⟨c6, h⟩ | ⟨c6, h⟩
    · refine And.intro (fun _ => ?_) (fun hn => absurd c6 hn)
      refine H [((0, 0, 0, 0, []), 1), ((27, 1, 0, 0, []), 1)] 40 _ _ _ (by decide +kernel) ?_
      refine And.intro (show (0 : Int) ≤ 0 ∧ (0 : Int) ≤ 1 from by decide) ?_
      exact Prod.mk.inj (Option.some.inj h)
    · refine And.intro (fun hp => absurd hp c6) (fun _ => ?_)
      obtain ⟨⟨vq7, σq7⟩, hq7, h⟩ := px_bind h
      dsimp only at h
      refine Exists.intro 1 (Exists.intro vq7 (Exists.intro σq7 (And.intro (Nat.le_of_ble_eq_true rfl) (And.intro (ok_Tape_accept_1 hq7) ?_))))
      rcases px_ite h with ⟨c8, h⟩ | ⟨c8, h⟩
      · refine And.intro (fun hp => absurd c8 hp) (fun _ => ?_)
        refine And.intro (show (0 : Int) ≤ 0 ∧ (0 : Int) ≤ 1 from by decide) ?_
        exact Prod.mk.inj (Option.some.inj h)
      · refine And.intro (fun _ => ?_) (fun hn => absurd c8 hn)
        refine H [((2, 0, 0, 0, []), 1), ((17, 45, 51, 0, []), 3), ((1, 2, 0, 0, []), 1), ((2, 1, 0, 0, []), 1), ((23, 45, 0, 1, [(0, 1)]), 3), ((20, 51, 20, 0, []), 1), ((2, 0, 0, 0, []), 1), ((17, 45, 51, 0, []), 3), ((1, 2, 0, 0, []), 1), ((19, 51, 20, 0, []), 1), ((0, 0, 0, (-1), []), 1), ((13, 0, 66, 0, []), 3), ((0, 0, 0, 1, []), 1), ((12, 0, 67, 0, []), 3), ((27, 1, 0, 0, []), 1)] 42 _ _ _ (by decide +kernel) ?_
        obtain ⟨⟨vq9, σq9⟩, hq9, h⟩ := px_bind h
        dsimp only at h
        refine Exists.intro 1 (Exists.intro vq9 (Exists.intro σq9 (And.intro (Nat.le_of_ble_eq_true rfl) (And.intro (ok_Tape_readRegister_1 hq9) ?_))))
        obtain ⟨g10, h⟩ := px_gd h
        refine And.intro g10 ?_
        obtain ⟨g11, h⟩ := px_gd h
        refine And.intro g11 ?_
        rcases px_ite h with ⟨c12, h⟩ | ⟨c12, h⟩
        · refine And.intro (fun _ => ?_) (fun hn => absurd c12 hn)
          refine H [((0, 0, 0, 0, []), 1), ((27, 1, 0, 0, []), 1)] 66 _ _ _ (by decide +kernel) ?_
          refine And.intro (show (0 : Int) ≤ 0 ∧ (0 : Int) ≤ 1 from by decide) ?_
          exact Prod.mk.inj (Option.some.inj h)
        · refine And.intro (fun hp => absurd hp c12) (fun _ => ?_)
          refine And.intro (show (0 : Int) ≤ 1 ∧ (1 : Int) ≤ 1 from by decide) ?_
          exact Prod.mk.inj (Option.some.inj h)
theorem ok_Prog_readReckoning_45_1 {l : Launch} {a2 : Int} {σ : pS} {v : Int} {σ1 : pS} (h : f_Prog_readReckoning_45_1 a2 σ = some (v, σ1)) : Con l 3 47 [.inr 45, .inr 1, .inl a2] σ v σ1 := Con_mk 3 3 rfl (by decide +kernel) (fun _ H => ok_Prog_readReckoning_45_1_w H _ _ h)
theorem ok_Prog_readOp_45_1_w {l : Launch} {rv : Int} {rσ : pS} {G : Nat → pL → List pV → pS → Prop} (H : px_R l 5 42 rv rσ G) : ∀ (a2 : Int) (σ : pS), f_Prog_readOp_45_1 a2 σ = some (rv, rσ) → G 0 [some (.inr 45), some (.inr 1), some (.inl a2), none, none] [] σ := by
  intro a2 σ h
  unfold f_Prog_readOp_45_1 at h
  refine H [((2, 1, 0, 0, []), 1), ((23, 19, 0, 1, [(0, 1)]), 3), ((3, 3, 0, 0, []), 1), ((1, 3, 0, 0, []), 1), ((24, 43, 1, 1, []), 3), ((3, 4, 0, 0, []), 2), ((1, 4, 0, 0, []), 2), ((0, 0, 0, (-1), []), 1), ((13, 1, 23, 0, []), 3), ((2, 1, 0, 0, []), 1), ((0, 0, 0, 1, []), 1), ((23, 20, 1, 1, [(0, 1)]), 3), ((27, 1, 0, 0, []), 1)] 0 _ _ _ (by decide +kernel) ?_
  obtain ⟨⟨vq1, σq1⟩, hq1, h⟩ := px_bind h
  dsimp only at h
  refine Exists.intro 0 (Exists.intro vq1 (Exists.intro σq1 (And.intro (Nat.le_of_ble_eq_true rfl) (And.intro (ok_Tape_sign_1 hq1) ?_))))
  obtain ⟨⟨vq2, σq2⟩, hq2, h⟩ := px_bind h
  dsimp only at h
  refine Exists.intro 0 (Exists.intro vq2 (Exists.intro σq2 (And.intro (Nat.le_of_ble_eq_true rfl) (And.intro (ok_Prog_kindOf hq2) ?_))))
  rcases px_ite h with ⟨c3, h⟩ | ⟨c3, h⟩
  · refine And.intro (fun hp => absurd c3 hp) (fun _ => ?_)
    obtain ⟨⟨vq24, σq24⟩, hq24, h⟩ := px_bind h
    dsimp only at h
    refine Exists.intro 0 (Exists.intro vq24 (Exists.intro σq24 (And.intro (Nat.le_of_ble_eq_true rfl) (And.intro (ok_Tape_fail_1 hq24) ?_))))
    obtain ⟨g25, h⟩ := px_gd h
    refine And.intro g25 ?_
    exact Prod.mk.inj (Option.some.inj h)
  · refine And.intro (fun _ => ?_) (fun hn => absurd c3 hn)
    refine H [((1, 2, 0, 0, []), 1), ((0, 0, 0, 20, []), 2), ((13, 2, 35, 0, []), 3), ((2, 1, 0, 0, []), 1), ((0, 0, 0, 4, []), 1), ((23, 20, 1, 1, [(0, 1)]), 3), ((27, 1, 0, 0, []), 1)] 23 _ _ _ (by decide +kernel) ?_
    rcases px_ite h with ⟨c4, h⟩ | ⟨c4, h⟩
    · refine And.intro (fun _ => ?_) (fun hn => absurd c4 hn)
      refine H [((2, 1, 0, 0, []), 1), ((23, 21, 0, 0, [(0, 1)]), 3), ((2, 0, 0, 0, []), 1), ((17, 45, 47, 0, []), 3), ((1, 2, 0, 0, []), 1), ((1, 3, 0, 0, []), 1), ((20, 47, 20, 0, []), 1), ((2, 0, 0, 0, []), 1), ((17, 45, 46, 0, []), 3), ((1, 2, 0, 0, []), 1), ((1, 4, 0, 0, []), 2), ((20, 46, 20, 0, []), 1), ((2, 0, 0, 0, []), 1), ((17, 45, 48, 0, []), 3), ((1, 2, 0, 0, []), 1), ((0, 0, 0, 0, []), 1), ((20, 48, 20, 0, []), 1), ((2, 0, 0, 0, []), 1), ((17, 45, 50, 0, []), 3), ((1, 2, 0, 0, []), 1), ((0, 0, 0, (-1), []), 1), ((20, 50, 20, 0, []), 1), ((2, 0, 0, 0, []), 1), ((17, 45, 51, 0, []), 3), ((1, 2, 0, 0, []), 1), ((0, 0, 0, (-1), []), 1), ((20, 51, 20, 0, []), 1), ((2, 0, 0, 0, []), 1), ((17, 45, 52, 0, []), 3), ((1, 2, 0, 0, []), 1), ((0, 0, 0, 0, []), 1), ((20, 52, 20, 0, []), 1), ((1, 4, 0, 0, []), 2), ((14, 1, 111, 0, []), 3), ((2, 0, 0, 0, []), 1), ((2, 1, 0, 0, []), 1), ((1, 2, 0, 0, []), 1), ((23, 44, 2, 1, [(0, 45)]), 3), ((14, 0, 109, 0, []), 3), ((2, 0, 0, 0, []), 1), ((2, 1, 0, 0, []), 1), ((1, 2, 0, 0, []), 1), ((23, 46, 2, 1, [(0, 45)]), 3), ((14, 0, 109, 0, []), 3), ((0, 0, 0, 1, []), 1), ((12, 0, 110, 0, []), 3), ((27, 1, 0, 0, []), 1)] 35 _ _ _ (by decide +kernel) ?_
      obtain ⟨⟨vq5, σq5⟩, hq5, h⟩ := px_bind h
      dsimp only at h
      refine Exists.intro 0 (Exists.intro vq5 (Exists.intro σq5 (And.intro (Nat.le_of_ble_eq_true rfl) (And.intro (ok_Tape_step_1 hq5) ?_))))
      obtain ⟨g6, h⟩ := px_gd h
      refine And.intro g6 ?_
      obtain ⟨g7, h⟩ := px_gd h
      refine And.intro g7 ?_
      obtain ⟨g8, h⟩ := px_gd h
      refine And.intro g8 ?_
      obtain ⟨g9, h⟩ := px_gd h
      refine And.intro g9 ?_
      obtain ⟨g10, h⟩ := px_gd h
      refine And.intro g10 ?_
      obtain ⟨g11, h⟩ := px_gd h
      refine And.intro g11 ?_
      rcases px_ite h with ⟨c12, h⟩ | ⟨c12, h⟩
      · refine And.intro (fun hp => absurd c12 hp) (fun _ => ?_)
        obtain ⟨⟨vq18, σq18⟩, hq18, h⟩ := px_bind h
        dsimp only at h
        refine Exists.intro 2 (Exists.intro vq18 (Exists.intro σq18 (And.intro (Nat.le_of_ble_eq_true rfl) (And.intro (ok_Prog_readGiven_45_1 hq18) ?_))))
        rcases px_ite h with ⟨c19, h⟩ | ⟨c19, h⟩
        · refine And.intro (fun _ => ?_) (fun hn => absurd c19 hn)
          refine H [((0, 0, 0, 0, []), 1), ((27, 1, 0, 0, []), 1)] 109 _ _ _ (by decide +kernel) ?_
          refine And.intro (show (0 : Int) ≤ 0 ∧ (0 : Int) ≤ 1 from by decide) ?_
          exact Prod.mk.inj (Option.some.inj h)
        · refine And.intro (fun hp => absurd hp c19) (fun _ => ?_)
          obtain ⟨⟨vq20, σq20⟩, hq20, h⟩ := px_bind h
          dsimp only at h
          refine Exists.intro 3 (Exists.intro vq20 (Exists.intro σq20 (And.intro (Nat.le_of_ble_eq_true rfl) (And.intro (ok_Prog_readNumber_45_1 hq20) ?_))))
          rcases px_ite h with ⟨c21, h⟩ | ⟨c21, h⟩
          · refine And.intro (fun _ => ?_) (fun hn => absurd c21 hn)
            refine H [((0, 0, 0, 0, []), 1), ((27, 1, 0, 0, []), 1)] 109 _ _ _ (by decide +kernel) ?_
            refine And.intro (show (0 : Int) ≤ 0 ∧ (0 : Int) ≤ 1 from by decide) ?_
            exact Prod.mk.inj (Option.some.inj h)
          · refine And.intro (fun hp => absurd hp c21) (fun _ => ?_)
            refine And.intro (show (0 : Int) ≤ 1 ∧ (1 : Int) ≤ 1 from by decide) ?_
            exact Prod.mk.inj (Option.some.inj h)
      · refine And.intro (fun _ => ?_) (fun hn => absurd c12 hn)
        refine H [((1, 4, 0, 0, []), 2), ((0, 0, 0, 1, []), 1), ((13, 1, 126, 0, []), 3), ((2, 0, 0, 0, []), 1), ((2, 1, 0, 0, []), 1), ((1, 2, 0, 0, []), 1), ((23, 47, 2, 1, [(0, 45)]), 3), ((12, 0, 132, 0, []), 3), ((27, 1, 0, 0, []), 1)] 111 _ _ _ (by decide +kernel) ?_
        rcases px_ite h with ⟨c13, h⟩ | ⟨c13, h⟩
        · refine And.intro (fun hp => absurd c13 hp) (fun _ => ?_)
          obtain ⟨⟨vq16, σq16⟩, hq16, h⟩ := px_bind h
          dsimp only at h
          refine Exists.intro 3 (Exists.intro vq16 (Exists.intro σq16 (And.intro (Nat.le_of_ble_eq_true rfl) (And.intro (ok_Prog_readReckoning_45_1 hq16) ?_))))
          obtain ⟨g17, h⟩ := px_gd h
          refine And.intro g17 ?_
          exact Prod.mk.inj (Option.some.inj h)
        · refine And.intro (fun _ => ?_) (fun hn => absurd c13 hn)
          refine H [((2, 0, 0, 0, []), 1), ((2, 1, 0, 0, []), 1), ((1, 2, 0, 0, []), 1), ((23, 48, 2, 1, [(0, 45)]), 3), ((27, 1, 0, 0, []), 1)] 126 _ _ _ (by decide +kernel) ?_
          obtain ⟨⟨vq14, σq14⟩, hq14, h⟩ := px_bind h
          dsimp only at h
          refine Exists.intro 4 (Exists.intro vq14 (Exists.intro σq14 (And.intro (Nat.le_of_ble_eq_true rfl) (And.intro (ok_Prog_readMove_45_1 hq14) ?_))))
          obtain ⟨g15, h⟩ := px_gd h
          refine And.intro g15 ?_
          exact Prod.mk.inj (Option.some.inj h)
    · refine And.intro (fun hp => absurd hp c4) (fun _ => ?_)
      obtain ⟨⟨vq22, σq22⟩, hq22, h⟩ := px_bind h
      dsimp only at h
      refine Exists.intro 0 (Exists.intro vq22 (Exists.intro σq22 (And.intro (Nat.le_of_ble_eq_true rfl) (And.intro (ok_Tape_fail_1 hq22) ?_))))
      obtain ⟨g23, h⟩ := px_gd h
      refine And.intro g23 ?_
      exact Prod.mk.inj (Option.some.inj h)
theorem ok_Prog_readOp_45_1 {l : Launch} {a2 : Int} {σ : pS} {v : Int} {σ1 : pS} (h : f_Prog_readOp_45_1 a2 σ = some (v, σ1)) : Con l 5 42 [.inr 45, .inr 1, .inl a2] σ v σ1 := Con_mk 3 5 rfl (by decide +kernel) (fun _ H => ok_Prog_readOp_45_1_w H _ _ h)
