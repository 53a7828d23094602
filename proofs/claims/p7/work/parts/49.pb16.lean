theorem ok_M_goesPlain_84_p54 {l : Launch} {rv : Int} {rσ : pS} {G : Nat → pL → List pV → pS → Prop} (H : px_R l 2 219 rv rσ G) : ∀ (n : Nat) (a1 : Int) (σ : pS), f_M_goesPlain_84_p54 n a1 σ = some (rv, rσ) → G 54 [some (.inr 84), some (.inl a1)] [] σ := by
  intro n
  induction n with
  | zero =>
    intro a1 σ h
    unfold f_M_goesPlain_84_p54 at h
    cases h
  | succ n ih =>
    intro a1 σ h
    unfold f_M_goesPlain_84_p54 at h
    refine H [((1, 1, 0, 0, []), 1), ((2, 0, 0, 0, []), 1), ((16, 84, 2, 0, []), 3), ((13, 3, 73, 0, []), 3), ((2, 0, 0, 0, []), 1), ((1, 1, 0, 0, []), 1), ((23, 220, 1, 0, [(0, 84)]), 3), ((5, 1, 0, 1, []), 3), ((12, 0, 54, 0, []), 3)] 54 _ _ _ (by decide +kernel) ?_
    rcases px_ite h with ⟨c3, h⟩ | ⟨c3, h⟩
    · refine And.intro (fun _ => ?_) (fun hn => absurd c3 hn)
      refine H [((28, 0, 0, 0, []), 1)] 73 _ _ _ (by decide +kernel) ?_
      exact (Prod.mk.inj (Option.some.inj h)).2
    · refine And.intro (fun hp => absurd hp c3) (fun _ => ?_)
      obtain ⟨⟨vq4, σq4⟩, hq4, h⟩ := px_bind h
      dsimp only at h
      refine Exists.intro 1 (Exists.intro vq4 (Exists.intro σq4 (And.intro (Nat.le_of_ble_eq_true rfl) (And.intro (ok_M_doesPlain_84 hq4) ?_))))
      exact ih _ _ h
theorem ok_M_goesPlain_84_p28 {l : Launch} {rv : Int} {rσ : pS} {G : Nat → pL → List pV → pS → Prop} (H : px_R l 2 219 rv rσ G) : ∀ (n : Nat) (a1 : Int) (σ : pS), f_M_goesPlain_84_p28 n a1 σ = some (rv, rσ) → G 28 [some (.inr 84), some (.inl a1)] [] σ := by
  intro n
  induction n with
  | zero =>
    intro a1 σ h
    unfold f_M_goesPlain_84_p28 at h
    cases h
  | succ n ih =>
    intro a1 σ h
    unfold f_M_goesPlain_84_p28 at h
    refine H [((1, 1, 0, 0, []), 1), ((0, 0, 0, 64, []), 2), ((13, 3, 52, 0, []), 3), ((2, 0, 0, 0, []), 1), ((17, 84, 141, 0, []), 3), ((1, 1, 0, 0, []), 1), ((2, 0, 0, 0, []), 1), ((17, 84, 86, 0, []), 3), ((1, 1, 0, 0, []), 1), ((19, 86, 64, 0, []), 1), ((20, 141, 64, 0, []), 1), ((5, 1, 0, 1, []), 3), ((12, 0, 28, 0, []), 3)] 28 _ _ _ (by decide +kernel) ?_
    rcases px_ite h with ⟨c2, h⟩ | ⟨c2, h⟩
    · refine And.intro (fun _ => ?_) (fun hn => absurd c2 hn)
      refine H [((0, 0, 0, 0, []), 1), ((3, 1, 0, 0, []), 1)] 52 _ _ _ (by decide +kernel) ?_
      exact ok_M_goesPlain_84_p54 H _ _ _ h
    · refine And.intro (fun hp => absurd hp c2) (fun _ => ?_)
      obtain ⟨g5, h⟩ := px_gd h
      refine And.intro g5 ?_
      obtain ⟨g6, h⟩ := px_gd h
      refine And.intro g6 ?_
      exact ih _ _ h
theorem ok_M_goesPlain_84_p2 {l : Launch} {rv : Int} {rσ : pS} {G : Nat → pL → List pV → pS → Prop} (H : px_R l 2 219 rv rσ G) : ∀ (n : Nat) (a1 : Int) (σ : pS), f_M_goesPlain_84_p2 n a1 σ = some (rv, rσ) → G 2 [some (.inr 84), some (.inl a1)] [] σ := by
  intro n
  induction n with
  | zero =>
    intro a1 σ h
    unfold f_M_goesPlain_84_p2 at h
    cases h
  | succ n ih =>
    intro a1 σ h
    unfold f_M_goesPlain_84_p2 at h
    refine H [((1, 1, 0, 0, []), 1), ((0, 0, 0, 8, []), 2), ((13, 3, 26, 0, []), 3), ((2, 0, 0, 0, []), 1), ((17, 84, 140, 0, []), 3), ((1, 1, 0, 0, []), 1), ((2, 0, 0, 0, []), 1), ((17, 84, 85, 0, []), 3), ((1, 1, 0, 0, []), 1), ((19, 85, 8, 0, []), 1), ((20, 140, 8, 0, []), 1), ((5, 1, 0, 1, []), 3), ((12, 0, 2, 0, []), 3)] 2 _ _ _ (by decide +kernel) ?_
    rcases px_ite h with ⟨c1, h⟩ | ⟨c1, h⟩
    · refine And.intro (fun _ => ?_) (fun hn => absurd c1 hn)
      refine H [((0, 0, 0, 0, []), 1), ((3, 1, 0, 0, []), 1)] 26 _ _ _ (by decide +kernel) ?_
      exact ok_M_goesPlain_84_p28 H _ _ _ h
    · refine And.intro (fun hp => absurd hp c1) (fun _ => ?_)
      obtain ⟨g7, h⟩ := px_gd h
      refine And.intro g7 ?_
      obtain ⟨g8, h⟩ := px_gd h
      refine And.intro g8 ?_
      exact ih _ _ h
theorem ok_M_goesPlain_84_w {l : Launch} {rv : Int} {rσ : pS} {G : Nat → pL → List pV → pS → Prop} (H : px_R l 2 219 rv rσ G) : ∀ (σ : pS), f_M_goesPlain_84  σ = some (rv, rσ) → G 0 [some (.inr 84), none] [] σ := by
  intro  σ h
  unfold f_M_goesPlain_84 at h
  refine H [((0, 0, 0, 0, []), 1), ((3, 1, 0, 0, []), 1)] 0 _ _ _ (by decide +kernel) ?_
  exact ok_M_goesPlain_84_p2 H _ _ _ h
theorem ok_M_goesPlain_84 {l : Launch} {σ : pS} {v : Int} {σ1 : pS} (h : f_M_goesPlain_84  σ = some (v, σ1)) : Con l 2 219 [.inr 84] σ v σ1 := Con_mk 1 2 rfl (by decide +kernel) (fun _ H => ok_M_goesPlain_84_w H  _ h)
theorem ok_M_plain_84_w {l : Launch} {rv : Int} {rσ : pS} {G : Nat → pL → List pV → pS → Prop} (H : px_R l 3 218 rv rσ G) : ∀ (a1 : Int) (σ : pS), f_M_plain_84 a1 σ = some (rv, rσ) → G 0 [some (.inr 84), some (.inl a1)] [] σ := by
  intro a1 σ h
  unfold f_M_plain_84 at h
  refine H [((2, 0, 0, 0, []), 1), ((23, 219, 0, 0, [(0, 84)]), 3), ((1, 1, 0, 0, []), 1), ((0, 0, 0, 0, []), 1), ((0, 0, 0, 7, []), 2), ((24, 137, 3, 1, []), 3), ((14, 0, 23, 0, []), 3), ((2, 0, 0, 0, []), 1), ((17, 84, 140, 0, []), 3), ((1, 1, 0, 0, []), 1), ((19, 140, 8, 0, []), 1), ((12, 0, 50, 0, []), 3), ((27, 0, 0, 0, []), 1)] 0 _ _ _ (by decide +kernel) ?_
  obtain ⟨⟨vq1, σq1⟩, hq1, h⟩ := px_bind h
  dsimp only at h
  refine Exists.intro 2 (Exists.intro vq1 (Exists.intro σq1 (And.intro (Nat.le_of_ble_eq_true rfl) (And.intro (ok_M_goesPlain_84 hq1) ?_))))
  obtain ⟨⟨vq2, σq2⟩, hq2, h⟩ := px_bind h
  dsimp only at h
  refine Exists.intro 0 (Exists.intro vq2 (Exists.intro σq2 (And.intro (Nat.le_of_ble_eq_true rfl) (And.intro (ok_M_in hq2) ?_))))
  rcases px_ite h with ⟨c3, h⟩ | ⟨c3, h⟩
  · refine And.intro (fun _ => ?_) (fun hn => absurd c3 hn)
    refine H [((1, 1, 0, 0, []), 1), ((0, 0, 0, 100, []), 2), ((0, 0, 0, 163, []), 3), ((24, 137, 3, 1, []), 3), ((14, 0, 47, 0, []), 3), ((2, 0, 0, 0, []), 1), ((17, 84, 141, 0, []), 3), ((1, 1, 0, 0, []), 1), ((0, 0, 0, 100, []), 2), ((6, 1, 0, 0, []), 1), ((19, 141, 64, 0, []), 1), ((12, 0, 50, 0, []), 3), ((27, 0, 0, 0, []), 1)] 23 _ _ _ (by decide +kernel) ?_
    obtain ⟨⟨vq4, σq4⟩, hq4, h⟩ := px_bind h
    dsimp only at h
    refine Exists.intro 0 (Exists.intro vq4 (Exists.intro σq4 (And.intro (Nat.le_of_ble_eq_true rfl) (And.intro (ok_M_in hq4) ?_))))
    rcases px_ite h with ⟨c5, h⟩ | ⟨c5, h⟩
    · refine And.intro (fun _ => ?_) (fun hn => absurd c5 hn)
      refine H [((0, 0, 0, (-100000), []), 3), ((27, 0, 0, 0, []), 1)] 47 _ _ _ (by decide +kernel) ?_
      exact Prod.mk.inj (Option.some.inj h)
    · refine And.intro (fun hp => absurd hp c5) (fun _ => ?_)
      obtain ⟨g6, h⟩ := px_gd h
      refine And.intro g6 ?_
      exact Prod.mk.inj (Option.some.inj h)
  · refine And.intro (fun hp => absurd hp c3) (fun _ => ?_)
    obtain ⟨g7, h⟩ := px_gd h
    refine And.intro g7 ?_
    exact Prod.mk.inj (Option.some.inj h)
theorem ok_M_plain_84 {l : Launch} {a1 : Int} {σ : pS} {v : Int} {σ1 : pS} (h : f_M_plain_84 a1 σ = some (v, σ1)) : Con l 3 218 [.inr 84, .inl a1] σ v σ1 := Con_mk 2 2 rfl (by decide +kernel) (fun _ H => ok_M_plain_84_w H _ _ h)
theorem ok_X_differing_29_67_p4 {l : Launch} {rv : Int} {rσ : pS} {G : Nat → pL → List pV → pS → Prop} (H : px_R l 0 115 rv rσ G) : ∀ (n : Nat) (a2 a3 : Int) (σ : pS), f_X_differing_29_67_p4 n a2 a3 σ = some (rv, rσ) → G 4 [some (.inr 29), some (.inr 67), some (.inl a2), some (.inl a3)] [] σ := by
  intro n
  induction n with
  | zero =>
    intro a2 a3 σ h
    unfold f_X_differing_29_67_p4 at h
    cases h
  | succ n ih =>
    intro a2 a3 σ h
    unfold f_X_differing_29_67_p4 at h
    refine H [((1, 3, 0, 0, []), 1), ((2, 0, 0, 0, []), 1), ((21, 29, 8, 0, []), 1), ((13, 3, 34, 0, []), 3), ((1, 3, 0, 0, []), 1), ((2, 1, 0, 0, []), 1), ((21, 67, 8, 0, []), 1), ((13, 3, 34, 0, []), 3), ((2, 0, 0, 0, []), 1), ((1, 3, 0, 0, []), 1), ((19, 29, 8, 0, []), 1), ((2, 1, 0, 0, []), 1), ((1, 3, 0, 0, []), 1), ((19, 67, 8, 0, []), 1), ((13, 0, 28, 0, []), 3), ((5, 2, 0, 1, []), 3), ((5, 3, 0, 1, []), 3), ((12, 0, 4, 0, []), 3)] 4 _ _ _ (by decide +kernel) ?_
    rcases px_ite h with ⟨c1, h⟩ | ⟨c1, h⟩
    · refine And.intro (fun _ => ?_) (fun hn => absurd c1 hn)
      refine H [((1, 2, 0, 0, []), 1), ((27, 0, 0, 0, []), 1)] 34 _ _ _ (by decide +kernel) ?_
      exact Prod.mk.inj (Option.some.inj h)
    · refine And.intro (fun hp => absurd hp c1) (fun _ => ?_)
      rcases px_ite h with ⟨c2, h⟩ | ⟨c2, h⟩
      · refine And.intro (fun _ => ?_) (fun hn => absurd c2 hn)
        refine H [((1, 2, 0, 0, []), 1), ((27, 0, 0, 0, []), 1)] 34 _ _ _ (by decide +kernel) ?_
        exact Prod.mk.inj (Option.some.inj h)
      · refine And.intro (fun hp => absurd hp c2) (fun _ => ?_)
        obtain ⟨g3, h⟩ := px_gd h
        refine And.intro g3 ?_
        obtain ⟨g4, h⟩ := px_gd h
        refine And.intro g4 ?_
        rcases px_ite h with ⟨c5, h⟩ | ⟨c5, h⟩
        · refine And.intro (fun _ => ?_) (fun hn => absurd c5 hn)
          refine H [((5, 3, 0, 1, []), 3), ((12, 0, 4, 0, []), 3)] 28 _ _ _ (by decide +kernel) ?_
          exact ih _ _ _ h
        · refine And.intro (fun hp => absurd hp c5) (fun _ => ?_)
          exact ih _ _ _ h
theorem ok_X_differing_29_67_w {l : Launch} {rv : Int} {rσ : pS} {G : Nat → pL → List pV → pS → Prop} (H : px_R l 0 115 rv rσ G) : ∀ (σ : pS), f_X_differing_29_67  σ = some (rv, rσ) → G 0 [some (.inr 29), some (.inr 67), none, none] [] σ := by
  intro  σ h
  unfold f_X_differing_29_67 at h
  refine H [((0, 0, 0, 0, []), 1), ((3, 2, 0, 0, []), 1), ((0, 0, 0, 0, []), 1), ((3, 3, 0, 0, []), 1)] 0 _ _ _ (by decide +kernel) ?_
  exact ok_X_differing_29_67_p4 H _ _ _ _ h
theorem ok_X_differing_29_67 {l : Launch} {σ : pS} {v : Int} {σ1 : pS} (h : f_X_differing_29_67  σ = some (v, σ1)) : Con l 0 115 [.inr 29, .inr 67] σ v σ1 := Con_mk 2 4 rfl (by decide +kernel) (fun _ H => ok_X_differing_29_67_w H  _ h)
theorem ok_X_differing_30_68_p4 {l : Launch} {rv : Int} {rσ : pS} {G : Nat → pL → List pV → pS → Prop} (H : px_R l 0 115 rv rσ G) : ∀ (n : Nat) (a2 a3 : Int) (σ : pS), f_X_differing_30_68_p4 n a2 a3 σ = some (rv, rσ) → G 4 [some (.inr 30), some (.inr 68), some (.inl a2), some (.inl a3)] [] σ := by
  intro n
  induction n with
  | zero =>
    intro a2 a3 σ h
    unfold f_X_differing_30_68_p4 at h
    cases h
  | succ n ih =>
    intro a2 a3 σ h
    unfold f_X_differing_30_68_p4 at h
    refine H [((1, 3, 0, 0, []), 1), ((2, 0, 0, 0, []), 1), ((21, 30, 64, 0, []), 1), ((13, 3, 34, 0, []), 3), ((1, 3, 0, 0, []), 1), ((2, 1, 0, 0, []), 1), ((21, 68, 64, 0, []), 1), ((13, 3, 34, 0, []), 3), ((2, 0, 0, 0, []), 1), ((1, 3, 0, 0, []), 1), ((19, 30, 64, 0, []), 1), ((2, 1, 0, 0, []), 1), ((1, 3, 0, 0, []), 1), ((19, 68, 64, 0, []), 1), ((13, 0, 28, 0, []), 3), ((5, 2, 0, 1, []), 3), ((5, 3, 0, 1, []), 3), ((12, 0, 4, 0, []), 3)] 4 _ _ _ (by decide +kernel) ?_
    rcases px_ite h with ⟨c1, h⟩ | ⟨c1, h⟩
    · refine And.intro (fun _ => ?_) (fun hn => absurd c1 hn)
      refine H [((1, 2, 0, 0, []), 1), ((27, 0, 0, 0, []), 1)] 34 _ _ _ (by decide +kernel) ?_
      exact Prod.mk.inj (Option.some.inj h)
    · refine And.intro (fun hp => absurd hp c1) (fun _ => ?_)
      rcases px_ite h with ⟨c2, h⟩ | ⟨c2, h⟩
      · refine And.intro (fun _ => ?_) (fun hn => absurd c2 hn)
        refine H [((1, 2, 0, 0, []), 1), ((27, 0, 0, 0, []), 1)] 34 _ _ _ (by decide +kernel) ?_
        exact Prod.mk.inj (Option.some.inj h)
      · refine And.intro (fun hp => absurd hp c2) (fun _ => ?_)
        obtain ⟨g3, h⟩ := px_gd h
        refine And.intro g3 ?_
        obtain ⟨g4, h⟩ := px_gd h
        refine And.intro g4 ?_
        rcases px_ite h with ⟨c5, h⟩ | ⟨c5, h⟩
        · refine And.intro (fun _ => ?_) (fun hn => absurd c5 hn)
          refine H [((5, 3, 0, 1, []), 3), ((12, 0, 4, 0, []), 3)] 28 _ _ _ (by decide +kernel) ?_
          exact ih _ _ _ h
        · refine And.intro (fun hp => absurd hp c5) (fun _ => ?_)
          exact ih _ _ _ h
theorem ok_X_differing_30_68_w {l : Launch} {rv : Int} {rσ : pS} {G : Nat → pL → List pV → pS → Prop} (H : px_R l 0 115 rv rσ G) : ∀ (σ : pS), f_X_differing_30_68  σ = some (rv, rσ) → G 0 [some (.inr 30), some (.inr 68), none, none] [] σ := by
  intro  σ h
  unfold f_X_differing_30_68 at h
  refine H [((0, 0, 0, 0, []), 1), ((3, 2, 0, 0, []), 1), ((0, 0, 0, 0, []), 1), ((3, 3, 0, 0, []), 1)] 0 _ _ _ (by decide +kernel) ?_
  exact ok_X_differing_30_68_p4 H _ _ _ _ h
theorem ok_X_differing_30_68 {l : Launch} {σ : pS} {v : Int} {σ1 : pS} (h : f_X_differing_30_68  σ = some (v, σ1)) : Con l 0 115 [.inr 30, .inr 68] σ v σ1 := Con_mk 2 4 rfl (by decide +kernel) (fun _ H => ok_X_differing_30_68_w H  _ h)
theorem ok_X_unlike_0_w {l : Launch} {rv : Int} {rσ : pS} {G : Nat → pL → List pV → pS → Prop} (H : px_R l 6 114 rv rσ G) : ∀ (a1 : Int) (σ : pS), f_X_unlike_0 a1 σ = some (rv, rσ) → G 0 [some (.inr 0), some (.inl a1)] [] σ := by
  intro a1 σ h
  unfold f_X_unlike_0 at h
  refine H [((2, 0, 0, 0, []), 1), ((1, 1, 0, 0, []), 1), ((23, 58, 1, 1, [(0, 0)]), 3), ((14, 1, 10, 0, []), 3), ((0, 0, 0, (-1), []), 1), ((27, 0, 0, 0, []), 1)] 0 _ _ _ (by decide +kernel) ?_
  obtain ⟨⟨vq1, σq1⟩, hq1, h⟩ := px_bind h
  dsimp only at h
  refine Exists.intro 0 (Exists.intro vq1 (Exists.intro σq1 (And.intro (Nat.le_of_ble_eq_true rfl) (And.intro (ok_X_canRun_0 hq1) ?_))))
  rcases px_ite h with ⟨c2, h⟩ | ⟨c2, h⟩
  · refine And.intro (fun hp => absurd c2 hp) (fun _ => ?_)
    exact Prod.mk.inj (Option.some.inj h)
  · refine And.intro (fun _ => ?_) (fun hn => absurd c2 hn)
    refine H [((2, 0, 0, 0, []), 1), ((17, 0, 3, 0, []), 3), ((1, 1, 0, 0, []), 1), ((0, 0, 0, 0, []), 1), ((23, 59, 2, 1, [(0, 3)]), 3), ((0, 0, 0, (-5), []), 2), ((13, 1, 27, 0, []), 3), ((0, 0, 0, (-5), []), 2), ((27, 0, 0, 0, []), 1)] 10 _ _ _ (by decide +kernel) ?_
    obtain ⟨⟨vq3, σq3⟩, hq3, h⟩ := px_bind h
    dsimp only at h
    refine Exists.intro 5 (Exists.intro vq3 (Exists.intro σq3 (And.intro (Nat.le_of_ble_eq_true rfl) (And.intro (ok_Mach_go_3 hq3) ?_))))
    rcases px_ite h with ⟨c4, h⟩ | ⟨c4, h⟩
    · refine And.intro (fun hp => absurd c4 hp) (fun _ => ?_)
      exact Prod.mk.inj (Option.some.inj h)
    · refine And.intro (fun _ => ?_) (fun hn => absurd c4 hn)
      refine H [((2, 0, 0, 0, []), 1), ((17, 0, 65, 0, []), 3), ((2, 0, 0, 0, []), 1), ((17, 0, 3, 0, []), 3), ((17, 3, 4, 0, []), 3), ((2, 0, 0, 0, []), 1), ((17, 0, 3, 0, []), 3), ((17, 3, 24, 0, []), 3), ((23, 111, 2, 0, [(0, 65)]), 3), ((2, 0, 0, 0, []), 1), ((17, 0, 3, 0, []), 3), ((17, 3, 28, 0, []), 3), ((17, 28, 29, 0, []), 3), ((2, 0, 0, 0, []), 1), ((17, 0, 65, 0, []), 3), ((17, 65, 66, 0, []), 3), ((17, 66, 67, 0, []), 3), ((24, 115, 2, 1, []), 3), ((2, 0, 0, 0, []), 1), ((17, 0, 3, 0, []), 3), ((17, 3, 28, 0, []), 3), ((17, 28, 30, 0, []), 3), ((2, 0, 0, 0, []), 1), ((17, 0, 65, 0, []), 3), ((17, 65, 66, 0, []), 3), ((17, 66, 68, 0, []), 3), ((24, 115, 2, 1, []), 3), ((6, 0, 0, 0, []), 1), ((27, 0, 0, 0, []), 1)] 27 _ _ _ (by decide +kernel) ?_
      obtain ⟨⟨vq5, σq5⟩, hq5, h⟩ := px_bind h
      dsimp only at h
      refine Exists.intro 3 (Exists.intro vq5 (Exists.intro σq5 (And.intro (Nat.le_of_ble_eq_true rfl) (And.intro (ok_Plain_go_65_4_24 hq5) ?_))))
      obtain ⟨⟨vq6, σq6⟩, hq6, h⟩ := px_bind h
      dsimp only at h
      refine Exists.intro 0 (Exists.intro vq6 (Exists.intro σq6 (And.intro (Nat.le_of_ble_eq_true rfl) (And.intro (ok_X_differing_29_67 hq6) ?_))))
      obtain ⟨⟨vq7, σq7⟩, hq7, h⟩ := px_bind h
      dsimp only at h
      refine Exists.intro 0 (Exists.intro vq7 (Exists.intro σq7 (And.intro (Nat.le_of_ble_eq_true rfl) (And.intro (ok_X_differing_30_68 hq7) ?_))))
      exact Prod.mk.inj (Option.some.inj h)
theorem ok_X_unlike_0 {l : Launch} {a1 : Int} {σ : pS} {v : Int} {σ1 : pS} (h : f_X_unlike_0 a1 σ = some (v, σ1)) : Con l 6 114 [.inr 0, .inl a1] σ v σ1 := Con_mk 2 2 rfl (by decide +kernel) (fun _ H => ok_X_unlike_0_w H _ _ h)
theorem ok_M_unlike_84_p63 {l : Launch} {rv : Int} {rσ : pS} {G : Nat → pL → List pV → pS → Prop} (H : px_R l 10 221 rv rσ G) : ∀ (n : Nat) (a2 a3 : Int) (σ : pS), f_M_unlike_84_p63 n a2 a3 σ = some (rv, rσ) → G 63 [some (.inr 84), none, some (.inl a2), some (.inl a3)] [] σ := by
  intro n
  induction n with
  | zero =>
    intro a2 a3 σ h
    unfold f_M_unlike_84_p63 at h
    cases h
  | succ n ih =>
    intro a2 a3 σ h
    unfold f_M_unlike_84_p63 at h
    refine H [((1, 3, 0, 0, []), 1), ((0, 0, 0, 64, []), 2), ((13, 3, 94, 0, []), 3), ((2, 0, 0, 0, []), 1), ((17, 84, 128, 0, []), 3), ((1, 3, 0, 0, []), 1), ((19, 128, 64, 0, []), 1), ((2, 0, 0, 0, []), 1), ((17, 84, 141, 0, []), 3), ((1, 3, 0, 0, []), 1), ((19, 141, 64, 0, []), 1), ((13, 0, 88, 0, []), 3), ((1, 2, 0, 0, []), 1), ((0, 0, 0, 1, []), 1), ((6, 0, 0, 0, []), 1), ((3, 2, 0, 0, []), 1), ((5, 3, 0, 1, []), 3), ((12, 0, 63, 0, []), 3)] 63 _ _ _ (by decide +kernel) ?_
    rcases px_ite h with ⟨c7, h⟩ | ⟨c7, h⟩
    · refine And.intro (fun _ => ?_) (fun hn => absurd c7 hn)
      refine H [((1, 2, 0, 0, []), 1), ((27, 0, 0, 0, []), 1)] 94 _ _ _ (by decide +kernel) ?_
      exact Prod.mk.inj (Option.some.inj h)
    · refine And.intro (fun hp => absurd hp c7) (fun _ => ?_)
      obtain ⟨g8, h⟩ := px_gd h
      refine And.intro g8 ?_
      obtain ⟨g9, h⟩ := px_gd h
      refine And.intro g9 ?_
      rcases px_ite h with ⟨c10, h⟩ | ⟨c10, h⟩
      · refine And.intro (fun _ => ?_) (fun hn => absurd c10 hn)
        refine H [((5, 3, 0, 1, []), 3), ((12, 0, 63, 0, []), 3)] 88 _ _ _ (by decide +kernel) ?_
        exact ih _ _ _ h
      · refine And.intro (fun hp => absurd hp c10) (fun _ => ?_)
        exact ih _ _ _ h
theorem ok_M_unlike_84_p30 {l : Launch} {rv : Int} {rσ : pS} {G : Nat → pL → List pV → pS → Prop} (H : px_R l 10 221 rv rσ G) : ∀ (n : Nat) (a2 a3 : Int) (σ : pS), f_M_unlike_84_p30 n a2 a3 σ = some (rv, rσ) → G 30 [some (.inr 84), none, some (.inl a2), some (.inl a3)] [] σ := by
  intro n
  induction n with
  | zero =>
    intro a2 a3 σ h
    unfold f_M_unlike_84_p30 at h
    cases h
  | succ n ih =>
    intro a2 a3 σ h
    unfold f_M_unlike_84_p30 at h
    refine H [((1, 3, 0, 0, []), 1), ((0, 0, 0, 8, []), 2), ((13, 3, 61, 0, []), 3), ((2, 0, 0, 0, []), 1), ((17, 84, 130, 0, []), 3), ((1, 3, 0, 0, []), 1), ((19, 130, 8, 0, []), 1), ((2, 0, 0, 0, []), 1), ((17, 84, 140, 0, []), 3), ((1, 3, 0, 0, []), 1), ((19, 140, 8, 0, []), 1), ((13, 0, 55, 0, []), 3), ((1, 2, 0, 0, []), 1), ((0, 0, 0, 1, []), 1), ((6, 0, 0, 0, []), 1), ((3, 2, 0, 0, []), 1), ((5, 3, 0, 1, []), 3), ((12, 0, 30, 0, []), 3)] 30 _ _ _ (by decide +kernel) ?_
    rcases px_ite h with ⟨c6, h⟩ | ⟨c6, h⟩
    · refine And.intro (fun _ => ?_) (fun hn => absurd c6 hn)
      refine H [((0, 0, 0, 0, []), 1), ((3, 3, 0, 0, []), 1)] 61 _ _ _ (by decide +kernel) ?_
      exact ok_M_unlike_84_p63 H _ _ _ _ h
    · refine And.intro (fun hp => absurd hp c6) (fun _ => ?_)
      obtain ⟨g11, h⟩ := px_gd h
      refine And.intro g11 ?_
      obtain ⟨g12, h⟩ := px_gd h
      refine And.intro g12 ?_
      rcases px_ite h with ⟨c13, h⟩ | ⟨c13, h⟩
      · refine And.intro (fun _ => ?_) (fun hn => absurd c13 hn)
        refine H [((5, 3, 0, 1, []), 3), ((12, 0, 30, 0, []), 3)] 55 _ _ _ (by decide +kernel) ?_
        exact ih _ _ _ h
      · refine And.intro (fun hp => absurd hp c13) (fun _ => ?_)
        exact ih _ _ _ h
theorem ok_M_unlike_84_w {l : Launch} {rv : Int} {rσ : pS} {G : Nat → pL → List pV → pS → Prop} (H : px_R l 10 221 rv rσ G) : ∀ (a1 : Int) (σ : pS), f_M_unlike_84 a1 σ = some (rv, rσ) → G 0 [some (.inr 84), some (.inl a1), none, none] [] σ := by
  intro a1 σ h
  unfold f_M_unlike_84 at h
  refine H [((2, 0, 0, 0, []), 1), ((1, 1, 0, 0, []), 1), ((23, 176, 1, 1, [(0, 84)]), 3), ((14, 1, 10, 0, []), 3), ((0, 0, 0, (-1), []), 1), ((27, 0, 0, 0, []), 1)] 0 _ _ _ (by decide +kernel) ?_
  obtain ⟨⟨vq1, σq1⟩, hq1, h⟩ := px_bind h
  dsimp only at h
  refine Exists.intro 1 (Exists.intro vq1 (Exists.intro σq1 (And.intro (Nat.le_of_ble_eq_true rfl) (And.intro (ok_M_canRun_84 hq1) ?_))))
  rcases px_ite h with ⟨c2, h⟩ | ⟨c2, h⟩
  · refine And.intro (fun hp => absurd c2 hp) (fun _ => ?_)
    exact Prod.mk.inj (Option.some.inj h)
  · refine And.intro (fun _ => ?_) (fun hn => absurd c2 hn)
    refine H [((2, 0, 0, 0, []), 1), ((1, 1, 0, 0, []), 1), ((0, 0, 0, 0, []), 1), ((23, 213, 2, 1, [(0, 84)]), 3), ((14, 1, 22, 0, []), 3), ((0, 0, 0, (-5), []), 2), ((27, 0, 0, 0, []), 1)] 10 _ _ _ (by decide +kernel) ?_
    obtain ⟨⟨vq3, σq3⟩, hq3, h⟩ := px_bind h
    dsimp only at h
    refine Exists.intro 9 (Exists.intro vq3 (Exists.intro σq3 (And.intro (Nat.le_of_ble_eq_true rfl) (And.intro (ok_M_isTried_84 hq3) ?_))))
    rcases px_ite h with ⟨c4, h⟩ | ⟨c4, h⟩
    · refine And.intro (fun hp => absurd c4 hp) (fun _ => ?_)
      exact Prod.mk.inj (Option.some.inj h)
    · refine And.intro (fun _ => ?_) (fun hn => absurd c4 hn)
      refine H [((2, 0, 0, 0, []), 1), ((23, 219, 0, 0, [(0, 84)]), 3), ((0, 0, 0, 0, []), 1), ((3, 2, 0, 0, []), 1), ((0, 0, 0, 0, []), 1), ((3, 3, 0, 0, []), 1), ((29, 1, 0, 0, []), 0)] 22 _ _ _ (by decide +kernel) ?_
      obtain ⟨⟨vq5, σq5⟩, hq5, h⟩ := px_bind h
      dsimp only at h
      refine Exists.intro 2 (Exists.intro vq5 (Exists.intro σq5 (And.intro (Nat.le_of_ble_eq_true rfl) (And.intro (ok_M_goesPlain_84 hq5) ?_))))
      exact ok_M_unlike_84_p30 H _ _ _ _ h
theorem ok_M_unlike_84 {l : Launch} {a1 : Int} {σ : pS} {v : Int} {σ1 : pS} (h : f_M_unlike_84 a1 σ = some (v, σ1)) : Con l 10 221 [.inr 84, .inl a1] σ v σ1 := Con_mk 2 4 rfl (by decide +kernel) (fun _ H => ok_M_unlike_84_w H _ _ h)
theorem ok_X_fastest_0_p33 {l : Launch} {rv : Int} {rσ : pS} {G : Nat → pL → List pV → pS → Prop} (H : px_R l 6 116 rv rσ G) : ∀ (n : Nat) (a1 a2 a3 a4 : Int) (σ : pS), f_X_fastest_0_p33 n a1 a2 a3 a4 σ = some (rv, rσ) → G 33 [some (.inr 0), some (.inl a1), some (.inl a2), some (.inl a3), some (.inl a4), none] [] σ := by
  intro n
  induction n with
  | zero =>
    intro a1 a2 a3 a4 σ h
    unfold f_X_fastest_0_p33 at h
    cases h
  | succ n ih =>
    intro a1 a2 a3 a4 σ h
    unfold f_X_fastest_0_p33 at h
    refine H [((1, 4, 0, 0, []), 2), ((0, 0, 0, 4, []), 1), ((13, 4, 82, 0, []), 3), ((2, 0, 0, 0, []), 1), ((17, 0, 3, 0, []), 3), ((1, 4, 0, 0, []), 2), ((0, 0, 0, 0, []), 1), ((23, 59, 2, 1, [(0, 3)]), 3), ((3, 5, 0, 0, []), 2), ((1, 5, 0, 0, []), 2), ((0, 0, 0, (-5), []), 2), ((13, 0, 76, 0, []), 3), ((1, 2, 0, 0, []), 1), ((0, 0, 0, (-5), []), 2), ((13, 0, 70, 0, []), 3), ((1, 5, 0, 0, []), 2), ((1, 2, 0, 0, []), 1), ((13, 3, 76, 0, []), 3), ((1, 5, 0, 0, []), 2), ((3, 2, 0, 0, []), 1), ((1, 4, 0, 0, []), 2), ((3, 3, 0, 0, []), 1), ((5, 4, 0, 1, []), 3), ((12, 0, 33, 0, []), 3), ((29, 5, 0, 0, []), 0)] 33 _ _ _ (by decide +kernel) ?_
    rcases px_ite h with ⟨c4, h⟩ | ⟨c4, h⟩
    · refine And.intro (fun _ => ?_) (fun hn => absurd c4 hn)
      refine H [((1, 1, 0, 0, []), 1), ((14, 1, 90, 0, []), 3), ((1, 3, 0, 0, []), 1), ((12, 0, 91, 0, []), 3), ((27, 0, 0, 0, []), 1)] 82 _ _ _ (by decide +kernel) ?_
      rcases px_ite h with ⟨c5, h⟩ | ⟨c5, h⟩
      · refine And.intro (fun hp => absurd c5 hp) (fun _ => ?_)
        exact Prod.mk.inj (Option.some.inj h)
      · refine And.intro (fun _ => ?_) (fun hn => absurd c5 hn)
        refine H [((1, 2, 0, 0, []), 1), ((27, 0, 0, 0, []), 1)] 90 _ _ _ (by decide +kernel) ?_
        exact Prod.mk.inj (Option.some.inj h)
    · refine And.intro (fun hp => absurd hp c4) (fun _ => ?_)
      obtain ⟨⟨vq6, σq6⟩, hq6, h⟩ := px_bind h
      dsimp only at h
      refine Exists.intro 5 (Exists.intro vq6 (Exists.intro σq6 (And.intro (Nat.le_of_ble_eq_true rfl) (And.intro (ok_Mach_go_3 hq6) ?_))))
      rcases px_ite h with ⟨c7, h⟩ | ⟨c7, h⟩
      · refine And.intro (fun _ => ?_) (fun hn => absurd c7 hn)
        refine H [((5, 4, 0, 1, []), 3), ((12, 0, 33, 0, []), 3), ((29, 5, 0, 0, []), 0)] 76 _ _ _ (by decide +kernel) ?_
        exact ih _ _ _ _ _ h
      · refine And.intro (fun hp => absurd hp c7) (fun _ => ?_)
        rcases px_ite h with ⟨c8, h⟩ | ⟨c8, h⟩
        · refine And.intro (fun _ => ?_) (fun hn => absurd c8 hn)
          refine H [((1, 5, 0, 0, []), 2), ((3, 2, 0, 0, []), 1), ((1, 4, 0, 0, []), 2), ((3, 3, 0, 0, []), 1), ((5, 4, 0, 1, []), 3), ((12, 0, 33, 0, []), 3), ((29, 5, 0, 0, []), 0)] 70 _ _ _ (by decide +kernel) ?_
          exact ih _ _ _ _ _ h
        · refine And.intro (fun hp => absurd hp c8) (fun _ => ?_)
          rcases px_ite h with ⟨c9, h⟩ | ⟨c9, h⟩
          · refine And.intro (fun _ => ?_) (fun hn => absurd c9 hn)
            refine H [((5, 4, 0, 1, []), 3), ((12, 0, 33, 0, []), 3), ((29, 5, 0, 0, []), 0)] 76 _ _ _ (by decide +kernel) ?_
            exact ih _ _ _ _ _ h
          · refine And.intro (fun hp => absurd hp c9) (fun _ => ?_)
            exact ih _ _ _ _ _ h
theorem ok_X_fastest_0_w {l : Launch} {rv : Int} {rσ : pS} {G : Nat → pL → List pV → pS → Prop} (H : px_R l 6 116 rv rσ G) : ∀ (a1 : Int) (σ : pS), f_X_fastest_0 a1 σ = some (rv, rσ) → G 0 [some (.inr 0), some (.inl a1), none, none, none, none] [] σ := by
  intro a1 σ h
  unfold f_X_fastest_0 at h
  refine H [((1, 1, 0, 0, []), 1), ((14, 2, 22, 0, []), 3), ((1, 1, 0, 0, []), 1), ((0, 0, 0, 1, []), 1), ((13, 4, 22, 0, []), 3), ((2, 0, 0, 0, []), 1), ((17, 0, 3, 0, []), 3), ((17, 3, 4, 0, []), 3), ((16, 4, 11, 0, []), 3), ((14, 1, 24, 0, []), 3), ((0, 0, 0, (-1), []), 1), ((27, 0, 0, 0, []), 1)] 0 _ _ _ (by decide +kernel) ?_
  rcases px_ite h with ⟨c1, h⟩ | ⟨c1, h⟩
  · refine And.intro (fun _ => ?_) (fun hn => absurd c1 hn)
    refine H [((0, 0, 0, (-1), []), 1), ((27, 0, 0, 0, []), 1)] 22 _ _ _ (by decide +kernel) ?_
    exact Prod.mk.inj (Option.some.inj h)
  · refine And.intro (fun hp => absurd hp c1) (fun _ => ?_)
    rcases px_ite h with ⟨c2, h⟩ | ⟨c2, h⟩
    · refine And.intro (fun _ => ?_) (fun hn => absurd c2 hn)
      refine H [((0, 0, 0, (-1), []), 1), ((27, 0, 0, 0, []), 1)] 22 _ _ _ (by decide +kernel) ?_
      exact Prod.mk.inj (Option.some.inj h)
    · refine And.intro (fun hp => absurd hp c2) (fun _ => ?_)
      rcases px_ite h with ⟨c3, h⟩ | ⟨c3, h⟩
      · refine And.intro (fun hp => absurd c3 hp) (fun _ => ?_)
        exact Prod.mk.inj (Option.some.inj h)
      · refine And.intro (fun _ => ?_) (fun hn => absurd c3 hn)
        refine H [((0, 0, 0, (-5), []), 2), ((3, 2, 0, 0, []), 1), ((0, 0, 0, (-5), []), 2), ((3, 3, 0, 0, []), 1), ((0, 0, 0, 1, []), 1), ((3, 4, 0, 0, []), 2)] 24 _ _ _ (by decide +kernel) ?_
        exact ok_X_fastest_0_p33 H _ _ _ _ _ _ h
theorem ok_X_fastest_0 {l : Launch} {a1 : Int} {σ : pS} {v : Int} {σ1 : pS} (h : f_X_fastest_0 a1 σ = some (v, σ1)) : Con l 6 116 [.inr 0, .inl a1] σ v σ1 := Con_mk 2 6 rfl (by decide +kernel) (fun _ H => ok_X_fastest_0_w H _ _ h)
theorem ok_M_fastest_84_p27 {l : Launch} {rv : Int} {rσ : pS} {G : Nat → pL → List pV → pS → Prop} (H : px_R l 10 215 rv rσ G) : ∀ (n : Nat) (a1 a2 a3 a4 : Int) (σ : pS), f_M_fastest_84_p27 n a1 a2 a3 a4 σ = some (rv, rσ) → G 27 [some (.inr 84), some (.inl a1), some (.inl a2), some (.inl a3), some (.inl a4)] [] σ := by
  intro n
  induction n with
  | zero =>
    intro a1 a2 a3 a4 σ h
    unfold f_M_fastest_84_p27 at h
    cases h
  | succ n ih =>
    intro a1 a2 a3 a4 σ h
    unfold f_M_fastest_84_p27 at h
    refine H [((1, 4, 0, 0, []), 2), ((14, 5, 73, 0, []), 3), ((2, 0, 0, 0, []), 1), ((1, 4, 0, 0, []), 2), ((0, 0, 0, 0, []), 1), ((23, 213, 2, 1, [(0, 84)]), 3), ((14, 0, 67, 0, []), 3), ((1, 2, 0, 0, []), 1), ((0, 0, 0, (-5), []), 2), ((13, 0, 59, 0, []), 3), ((2, 0, 0, 0, []), 1), ((16, 84, 63, 0, []), 3), ((1, 3, 0, 0, []), 1), ((13, 5, 59, 0, []), 3), ((12, 0, 67, 0, []), 3), ((5, 4, 0, (-1), []), 3), ((12, 0, 27, 0, []), 3)] 27 _ _ _ (by decide +kernel) ?_
    rcases px_ite h with ⟨c4, h⟩ | ⟨c4, h⟩
    · refine And.intro (fun _ => ?_) (fun hn => absurd c4 hn)
      refine H [((1, 1, 0, 0, []), 1), ((14, 1, 81, 0, []), 3), ((1, 2, 0, 0, []), 1), ((12, 0, 82, 0, []), 3), ((27, 0, 0, 0, []), 1)] 73 _ _ _ (by decide +kernel) ?_
      rcases px_ite h with ⟨c5, h⟩ | ⟨c5, h⟩
      · refine And.intro (fun hp => absurd c5 hp) (fun _ => ?_)
        exact Prod.mk.inj (Option.some.inj h)
      · refine And.intro (fun _ => ?_) (fun hn => absurd c5 hn)
        refine H [((1, 3, 0, 0, []), 1), ((27, 0, 0, 0, []), 1)] 81 _ _ _ (by decide +kernel) ?_
        exact Prod.mk.inj (Option.some.inj h)
    · refine And.intro (fun hp => absurd hp c4) (fun _ => ?_)
      obtain ⟨⟨vq6, σq6⟩, hq6, h⟩ := px_bind h
      dsimp only at h
      refine Exists.intro 9 (Exists.intro vq6 (Exists.intro σq6 (And.intro (Nat.le_of_ble_eq_true rfl) (And.intro (ok_M_isTried_84 hq6) ?_))))
      rcases px_ite h with ⟨c7, h⟩ | ⟨c7, h⟩
      · refine And.intro (fun _ => ?_) (fun hn => absurd c7 hn)
        refine H [((5, 4, 0, (-1), []), 3), ((12, 0, 27, 0, []), 3)] 67 _ _ _ (by decide +kernel) ?_
        exact ih _ _ _ _ _ h
      · refine And.intro (fun hp => absurd hp c7) (fun _ => ?_)
        rcases px_ite h with ⟨c8, h⟩ | ⟨c8, h⟩
        · refine And.intro (fun _ => ?_) (fun hn => absurd c8 hn)
          refine H [((1, 4, 0, 0, []), 2), ((3, 2, 0, 0, []), 1), ((2, 0, 0, 0, []), 1), ((16, 84, 63, 0, []), 3), ((3, 3, 0, 0, []), 1), ((5, 4, 0, (-1), []), 3), ((12, 0, 27, 0, []), 3)] 59 _ _ _ (by decide +kernel) ?_
          exact ih _ _ _ _ _ h
        · refine And.intro (fun hp => absurd hp c8) (fun _ => ?_)
          rcases px_ite h with ⟨c9, h⟩ | ⟨c9, h⟩
          · refine And.intro (fun _ => ?_) (fun hn => absurd c9 hn)
            refine H [((1, 4, 0, 0, []), 2), ((3, 2, 0, 0, []), 1), ((2, 0, 0, 0, []), 1), ((16, 84, 63, 0, []), 3), ((3, 3, 0, 0, []), 1), ((5, 4, 0, (-1), []), 3), ((12, 0, 27, 0, []), 3)] 59 _ _ _ (by decide +kernel) ?_
            exact ih _ _ _ _ _ h
          · refine And.intro (fun hp => absurd hp c9) (fun _ => ?_)
            exact ih _ _ _ _ _ h
theorem ok_M_fastest_84_w {l : Launch} {rv : Int} {rσ : pS} {G : Nat → pL → List pV → pS → Prop} (H : px_R l 10 215 rv rσ G) : ∀ (a1 : Int) (σ : pS), f_M_fastest_84 a1 σ = some (rv, rσ) → G 0 [some (.inr 84), some (.inl a1), none, none, none] [] σ := by
  intro a1 σ h
  unfold f_M_fastest_84 at h
  refine H [((1, 1, 0, 0, []), 1), ((0, 0, 0, 0, []), 1), ((0, 0, 0, 1, []), 1), ((24, 137, 3, 1, []), 3), ((14, 0, 16, 0, []), 3), ((2, 0, 0, 0, []), 1), ((16, 84, 2, 0, []), 3), ((14, 1, 18, 0, []), 3), ((0, 0, 0, (-1), []), 1), ((27, 0, 0, 0, []), 1)] 0 _ _ _ (by decide +kernel) ?_
  obtain ⟨⟨vq1, σq1⟩, hq1, h⟩ := px_bind h
  dsimp only at h
  refine Exists.intro 0 (Exists.intro vq1 (Exists.intro σq1 (And.intro (Nat.le_of_ble_eq_true rfl) (And.intro (ok_M_in hq1) ?_))))
  rcases px_ite h with ⟨c2, h⟩ | ⟨c2, h⟩
  · refine And.intro (fun _ => ?_) (fun hn => absurd c2 hn)
    refine H [((0, 0, 0, (-1), []), 1), ((27, 0, 0, 0, []), 1)] 16 _ _ _ (by decide +kernel) ?_
    exact Prod.mk.inj (Option.some.inj h)
  · refine And.intro (fun hp => absurd hp c2) (fun _ => ?_)
    rcases px_ite h with ⟨c3, h⟩ | ⟨c3, h⟩
    · refine And.intro (fun hp => absurd c3 hp) (fun _ => ?_)
      exact Prod.mk.inj (Option.some.inj h)
    · refine And.intro (fun _ => ?_) (fun hn => absurd c3 hn)
      refine H [((0, 0, 0, (-5), []), 2), ((3, 2, 0, 0, []), 1), ((0, 0, 0, (-5), []), 2), ((3, 3, 0, 0, []), 1), ((0, 0, 0, 4, []), 1), ((3, 4, 0, 0, []), 2)] 18 _ _ _ (by decide +kernel) ?_
      exact ok_M_fastest_84_p27 H _ _ _ _ _ _ h
theorem ok_M_fastest_84 {l : Launch} {a1 : Int} {σ : pS} {v : Int} {σ1 : pS} (h : f_M_fastest_84 a1 σ = some (v, σ1)) : Con l 10 215 [.inr 84, .inl a1] σ v σ1 := Con_mk 2 5 rfl (by decide +kernel) (fun _ H => ok_M_fastest_84_w H _ _ h)
theorem ok_X_cautious_0_w {l : Launch} {rv : Int} {rσ : pS} {G : Nat → pL → List pV → pS → Prop} (H : px_R l 6 117 rv rσ G) : ∀ (a1 a2 : Int) (σ : pS), f_X_cautious_0 a1 a2 σ = some (rv, rσ) → G 0 [some (.inr 0), some (.inl a1), some (.inl a2)] [] σ := by
  intro a1 a2 σ h
  unfold f_X_cautious_0 at h
  refine H [((2, 0, 0, 0, []), 1), ((1, 1, 0, 0, []), 1), ((23, 58, 1, 1, [(0, 0)]), 3), ((14, 0, 15, 0, []), 3), ((1, 2, 0, 0, []), 1), ((24, 100, 1, 1, []), 3), ((14, 1, 17, 0, []), 3), ((0, 0, 0, (-1), []), 1), ((27, 0, 0, 0, []), 1)] 0 _ _ _ (by decide +kernel) ?_
  obtain ⟨⟨vq1, σq1⟩, hq1, h⟩ := px_bind h
  dsimp only at h
  refine Exists.intro 0 (Exists.intro vq1 (Exists.intro σq1 (And.intro (Nat.le_of_ble_eq_true rfl) (And.intro (ok_X_canRun_0 hq1) ?_))))
  rcases px_ite h with ⟨c2, h⟩ | ⟨c2, h⟩
  · refine And.intro (fun _ => ?_) (fun hn => absurd c2 hn)
    refine H [((0, 0, 0, (-1), []), 1), ((27, 0, 0, 0, []), 1)] 15 _ _ _ (by decide +kernel) ?_
    exact Prod.mk.inj (Option.some.inj h)
  · refine And.intro (fun hp => absurd hp c2) (fun _ => ?_)
    obtain ⟨⟨vq3, σq3⟩, hq3, h⟩ := px_bind h
    dsimp only at h
    refine Exists.intro 0 (Exists.intro vq3 (Exists.intro σq3 (And.intro (Nat.le_of_ble_eq_true rfl) (And.intro (ok_X_isTotal hq3) ?_))))
    rcases px_ite h with ⟨c4, h⟩ | ⟨c4, h⟩
    · refine And.intro (fun hp => absurd c4 hp) (fun _ => ?_)
      exact Prod.mk.inj (Option.some.inj h)
    · refine And.intro (fun _ => ?_) (fun hn => absurd c4 hn)
      refine H [((2, 0, 0, 0, []), 1), ((17, 0, 3, 0, []), 3), ((1, 1, 0, 0, []), 1), ((0, 0, 0, 1, []), 1), ((23, 59, 2, 1, [(0, 3)]), 3), ((0, 0, 0, (-5), []), 2), ((13, 1, 36, 0, []), 3), ((0, 0, 0, (-5), []), 2), ((12, 0, 48, 0, []), 3), ((27, 0, 0, 0, []), 1)] 17 _ _ _ (by decide +kernel) ?_
      obtain ⟨⟨vq5, σq5⟩, hq5, h⟩ := px_bind h
      dsimp only at h
      refine Exists.intro 5 (Exists.intro vq5 (Exists.intro σq5 (And.intro (Nat.le_of_ble_eq_true rfl) (And.intro (ok_Mach_go_3 hq5) ?_))))
      rcases px_ite h with ⟨c6, h⟩ | ⟨c6, h⟩
      · refine And.intro (fun hp => absurd c6 hp) (fun _ => ?_)
        exact Prod.mk.inj (Option.some.inj h)
      · refine And.intro (fun _ => ?_) (fun hn => absurd c6 hn)
        refine H [((2, 0, 0, 0, []), 1), ((17, 0, 3, 0, []), 3), ((17, 3, 32, 0, []), 3), ((17, 32, 33, 0, []), 3), ((1, 2, 0, 0, []), 1), ((19, 33, 6, 0, []), 1), ((27, 0, 0, 0, []), 1)] 36 _ _ _ (by decide +kernel) ?_
        obtain ⟨g7, h⟩ := px_gd h
        refine And.intro g7 ?_
        exact Prod.mk.inj (Option.some.inj h)
theorem ok_X_cautious_0 {l : Launch} {a1 a2 : Int} {σ : pS} {v : Int} {σ1 : pS} (h : f_X_cautious_0 a1 a2 σ = some (v, σ1)) : Con l 6 117 [.inr 0, .inl a1, .inl a2] σ v σ1 := Con_mk 3 3 rfl (by decide +kernel) (fun _ H => ok_X_cautious_0_w H _ _ _ h)
theorem ok_M_cautious_84_w {l : Launch} {rv : Int} {rσ : pS} {G : Nat → pL → List pV → pS → Prop} (H : px_R l 10 214 rv rσ G) : ∀ (a1 a2 : Int) (σ : pS), f_M_cautious_84 a1 a2 σ = some (rv, rσ) → G 0 [some (.inr 84), some (.inl a1), some (.inl a2)] [] σ := by
  intro a1 a2 σ h
  unfold f_M_cautious_84 at h
  refine H [((2, 0, 0, 0, []), 1), ((1, 1, 0, 0, []), 1), ((23, 176, 1, 1, [(0, 84)]), 3), ((14, 0, 17, 0, []), 3), ((1, 2, 0, 0, []), 1), ((0, 0, 0, 0, []), 1), ((0, 0, 0, 5, []), 1), ((24, 137, 3, 1, []), 3), ((14, 1, 19, 0, []), 3), ((0, 0, 0, (-1), []), 1), ((27, 0, 0, 0, []), 1)] 0 _ _ _ (by decide +kernel) ?_
  obtain ⟨⟨vq1, σq1⟩, hq1, h⟩ := px_bind h
  dsimp only at h
  refine Exists.intro 1 (Exists.intro vq1 (Exists.intro σq1 (And.intro (Nat.le_of_ble_eq_true rfl) (And.intro (ok_M_canRun_84 hq1) ?_))))
  rcases px_ite h with ⟨c2, h⟩ | ⟨c2, h⟩
  · refine And.intro (fun _ => ?_) (fun hn => absurd c2 hn)
    refine H [((0, 0, 0, (-1), []), 1), ((27, 0, 0, 0, []), 1)] 17 _ _ _ (by decide +kernel) ?_
    exact Prod.mk.inj (Option.some.inj h)
  · refine And.intro (fun hp => absurd hp c2) (fun _ => ?_)
    obtain ⟨⟨vq3, σq3⟩, hq3, h⟩ := px_bind h
    dsimp only at h
    refine Exists.intro 0 (Exists.intro vq3 (Exists.intro σq3 (And.intro (Nat.le_of_ble_eq_true rfl) (And.intro (ok_M_in hq3) ?_))))
    rcases px_ite h with ⟨c4, h⟩ | ⟨c4, h⟩
    · refine And.intro (fun hp => absurd c4 hp) (fun _ => ?_)
      exact Prod.mk.inj (Option.some.inj h)
    · refine And.intro (fun _ => ?_) (fun hn => absurd c4 hn)
      refine H [((2, 0, 0, 0, []), 1), ((1, 1, 0, 0, []), 1), ((0, 0, 0, 1, []), 1), ((23, 213, 2, 1, [(0, 84)]), 3), ((14, 0, 36, 0, []), 3), ((2, 0, 0, 0, []), 1), ((1, 2, 0, 0, []), 1), ((23, 211, 1, 1, [(0, 84)]), 3), ((12, 0, 38, 0, []), 3), ((27, 0, 0, 0, []), 1)] 19 _ _ _ (by decide +kernel) ?_
      obtain ⟨⟨vq5, σq5⟩, hq5, h⟩ := px_bind h
      dsimp only at h
      refine Exists.intro 9 (Exists.intro vq5 (Exists.intro σq5 (And.intro (Nat.le_of_ble_eq_true rfl) (And.intro (ok_M_isTried_84 hq5) ?_))))
      rcases px_ite h with ⟨c6, h⟩ | ⟨c6, h⟩
      · refine And.intro (fun _ => ?_) (fun hn => absurd c6 hn)
        refine H [((0, 0, 0, (-5), []), 2), ((27, 0, 0, 0, []), 1)] 36 _ _ _ (by decide +kernel) ?_
        exact Prod.mk.inj (Option.some.inj h)
      · refine And.intro (fun hp => absurd hp c6) (fun _ => ?_)
        obtain ⟨⟨vq7, σq7⟩, hq7, h⟩ := px_bind h
        dsimp only at h
        refine Exists.intro 0 (Exists.intro vq7 (Exists.intro σq7 (And.intro (Nat.le_of_ble_eq_true rfl) (And.intro (ok_M_toldOf_84 hq7) ?_))))
        exact Prod.mk.inj (Option.some.inj h)
theorem ok_M_cautious_84 {l : Launch} {a1 a2 : Int} {σ : pS} {v : Int} {σ1 : pS} (h : f_M_cautious_84 a1 a2 σ = some (v, σ1)) : Con l 10 214 [.inr 84, .inl a1, .inl a2] σ v σ1 := Con_mk 3 3 rfl (by decide +kernel) (fun _ H => ok_M_cautious_84_w H _ _ _ h)
theorem ok_X_worst_0_p25 {l : Launch} {rv : Int} {rσ : pS} {G : Nat → pL → List pV → pS → Prop} (H : px_R l 0 118 rv rσ G) : ∀ (n : Nat) (a1 a2 a3 : Int) (σ : pS), f_X_worst_0_p25 n a1 a2 a3 σ = some (rv, rσ) → G 25 [some (.inr 0), some (.inl a1), some (.inl a2), some (.inl a3)] [] σ := by
  intro n
  induction n with
  | zero =>
    intro a1 a2 a3 σ h
    unfold f_X_worst_0_p25 at h
    cases h
  | succ n ih =>
    intro a1 a2 a3 σ h
    unfold f_X_worst_0_p25 at h
    refine H [((1, 3, 0, 0, []), 1), ((2, 0, 0, 0, []), 1), ((17, 0, 3, 0, []), 3), ((17, 3, 4, 0, []), 3), ((16, 4, 11, 0, []), 3), ((13, 3, 68, 0, []), 3), ((2, 0, 0, 0, []), 1), ((17, 0, 71, 0, []), 3), ((17, 71, 74, 0, []), 3), ((1, 3, 0, 0, []), 1), ((19, 74, 20, 0, []), 1), ((2, 0, 0, 0, []), 1), ((17, 0, 71, 0, []), 3), ((17, 71, 74, 0, []), 3), ((1, 2, 0, 0, []), 1), ((19, 74, 20, 0, []), 1), ((13, 5, 62, 0, []), 3), ((1, 3, 0, 0, []), 1), ((3, 2, 0, 0, []), 1), ((5, 3, 0, 1, []), 3), ((12, 0, 25, 0, []), 3)] 25 _ _ _ (by decide +kernel) ?_
    rcases px_ite h with ⟨c4, h⟩ | ⟨c4, h⟩
    · refine And.intro (fun _ => ?_) (fun hn => absurd c4 hn)
      refine H [((1, 1, 0, 0, []), 1), ((14, 1, 76, 0, []), 3), ((1, 2, 0, 0, []), 1), ((12, 0, 85, 0, []), 3), ((27, 0, 0, 0, []), 1)] 68 _ _ _ (by decide +kernel) ?_
      rcases px_ite h with ⟨c5, h⟩ | ⟨c5, h⟩
      · refine And.intro (fun hp => absurd c5 hp) (fun _ => ?_)
        exact Prod.mk.inj (Option.some.inj h)
      · refine And.intro (fun _ => ?_) (fun hn => absurd c5 hn)
        refine H [((2, 0, 0, 0, []), 1), ((17, 0, 71, 0, []), 3), ((17, 71, 74, 0, []), 3), ((1, 2, 0, 0, []), 1), ((19, 74, 20, 0, []), 1), ((27, 0, 0, 0, []), 1)] 76 _ _ _ (by decide +kernel) ?_
        obtain ⟨g6, h⟩ := px_gd h
        refine And.intro g6 ?_
        exact Prod.mk.inj (Option.some.inj h)
    · refine And.intro (fun hp => absurd hp c4) (fun _ => ?_)
      obtain ⟨g7, h⟩ := px_gd h
      refine And.intro g7 ?_
      obtain ⟨g8, h⟩ := px_gd h
      refine And.intro g8 ?_
      rcases px_ite h with ⟨c9, h⟩ | ⟨c9, h⟩
      · refine And.intro (fun _ => ?_) (fun hn => absurd c9 hn)
        refine H [((5, 3, 0, 1, []), 3), ((12, 0, 25, 0, []), 3)] 62 _ _ _ (by decide +kernel) ?_
        exact ih _ _ _ _ h
      · refine And.intro (fun hp => absurd hp c9) (fun _ => ?_)
        exact ih _ _ _ _ h
theorem ok_X_worst_0_w {l : Launch} {rv : Int} {rσ : pS} {G : Nat → pL → List pV → pS → Prop} (H : px_R l 0 118 rv rσ G) : ∀ (a1 : Int) (σ : pS), f_X_worst_0 a1 σ = some (rv, rσ) → G 0 [some (.inr 0), some (.inl a1), none, none] [] σ := by
  intro a1 σ h
  unfold f_X_worst_0 at h
  refine H [((1, 1, 0, 0, []), 1), ((14, 2, 9, 0, []), 3), ((1, 1, 0, 0, []), 1), ((0, 0, 0, 1, []), 1), ((13, 5, 11, 0, []), 3), ((0, 0, 0, (-1), []), 1), ((27, 0, 0, 0, []), 1)] 0 _ _ _ (by decide +kernel) ?_
  rcases px_ite h with ⟨c1, h⟩ | ⟨c1, h⟩
  · refine And.intro (fun _ => ?_) (fun hn => absurd c1 hn)
    refine H [((0, 0, 0, (-1), []), 1), ((27, 0, 0, 0, []), 1)] 9 _ _ _ (by decide +kernel) ?_
    exact Prod.mk.inj (Option.some.inj h)
  · refine And.intro (fun hp => absurd hp c1) (fun _ => ?_)
    rcases px_ite h with ⟨c2, h⟩ | ⟨c2, h⟩
    · refine And.intro (fun _ => ?_) (fun hn => absurd c2 hn)
      refine H [((2, 0, 0, 0, []), 1), ((16, 0, 8, 0, []), 3), ((14, 1, 21, 0, []), 3), ((0, 0, 0, (-2), []), 2), ((27, 0, 0, 0, []), 1)] 11 _ _ _ (by decide +kernel) ?_
      rcases px_ite h with ⟨c3, h⟩ | ⟨c3, h⟩
      · refine And.intro (fun hp => absurd c3 hp) (fun _ => ?_)
        exact Prod.mk.inj (Option.some.inj h)
      · refine And.intro (fun _ => ?_) (fun hn => absurd c3 hn)
        refine H [((0, 0, 0, 0, []), 1), ((3, 2, 0, 0, []), 1), ((0, 0, 0, 1, []), 1), ((3, 3, 0, 0, []), 1)] 21 _ _ _ (by decide +kernel) ?_
        exact ok_X_worst_0_p25 H _ _ _ _ _ h
    · refine And.intro (fun hp => absurd hp c2) (fun _ => ?_)
      exact Prod.mk.inj (Option.some.inj h)
theorem ok_X_worst_0 {l : Launch} {a1 : Int} {σ : pS} {v : Int} {σ1 : pS} (h : f_X_worst_0 a1 σ = some (v, σ1)) : Con l 0 118 [.inr 0, .inl a1] σ v σ1 := Con_mk 2 4 rfl (by decide +kernel) (fun _ H => ok_X_worst_0_w H _ _ h)
theorem ok_M_worstOp_84_p4 {l : Launch} {rv : Int} {rσ : pS} {G : Nat → pL → List pV → pS → Prop} (H : px_R l 0 229 rv rσ G) : ∀ (n : Nat) (a1 a2 : Int) (σ : pS), f_M_worstOp_84_p4 n a1 a2 σ = some (rv, rσ) → G 4 [some (.inr 84), some (.inl a1), some (.inl a2)] [] σ := by
  intro n
  induction n with
  | zero =>
    intro a1 a2 σ h
    unfold f_M_worstOp_84_p4 at h
    cases h
  | succ n ih =>
    intro a1 a2 σ h
    unfold f_M_worstOp_84_p4 at h
    refine H [((1, 2, 0, 0, []), 1), ((2, 0, 0, 0, []), 1), ((16, 84, 2, 0, []), 3), ((13, 3, 35, 0, []), 3), ((2, 0, 0, 0, []), 1), ((17, 84, 136, 0, []), 3), ((1, 2, 0, 0, []), 1), ((19, 136, 20, 0, []), 1), ((2, 0, 0, 0, []), 1), ((17, 84, 136, 0, []), 3), ((1, 1, 0, 0, []), 1), ((19, 136, 20, 0, []), 1), ((13, 5, 29, 0, []), 3), ((1, 2, 0, 0, []), 1), ((3, 1, 0, 0, []), 1), ((5, 2, 0, 1, []), 3), ((12, 0, 4, 0, []), 3)] 4 _ _ _ (by decide +kernel) ?_
    rcases px_ite h with ⟨c1, h⟩ | ⟨c1, h⟩
    · refine And.intro (fun _ => ?_) (fun hn => absurd c1 hn)
      refine H [((1, 1, 0, 0, []), 1), ((27, 0, 0, 0, []), 1)] 35 _ _ _ (by decide +kernel) ?_
      exact Prod.mk.inj (Option.some.inj h)
    · refine And.intro (fun hp => absurd hp c1) (fun _ => ?_)
      obtain ⟨g2, h⟩ := px_gd h
      refine And.intro g2 ?_
      obtain ⟨g3, h⟩ := px_gd h
      refine And.intro g3 ?_
      rcases px_ite h with ⟨c4, h⟩ | ⟨c4, h⟩
      · refine And.intro (fun _ => ?_) (fun hn => absurd c4 hn)
        refine H [((5, 2, 0, 1, []), 3), ((12, 0, 4, 0, []), 3)] 29 _ _ _ (by decide +kernel) ?_
        exact ih _ _ _ h
      · refine And.intro (fun hp => absurd hp c4) (fun _ => ?_)
        exact ih _ _ _ h
theorem ok_M_worstOp_84_w {l : Launch} {rv : Int} {rσ : pS} {G : Nat → pL → List pV → pS → Prop} (H : px_R l 0 229 rv rσ G) : ∀ (σ : pS), f_M_worstOp_84  σ = some (rv, rσ) → G 0 [some (.inr 84), none, none] [] σ := by
  intro  σ h
  unfold f_M_worstOp_84 at h
  refine H [((0, 0, 0, 0, []), 1), ((3, 1, 0, 0, []), 1), ((0, 0, 0, 1, []), 1), ((3, 2, 0, 0, []), 1)] 0 _ _ _ (by decide +kernel) ?_
  exact ok_M_worstOp_84_p4 H _ _ _ _ h
theorem ok_M_worstOp_84 {l : Launch} {σ : pS} {v : Int} {σ1 : pS} (h : f_M_worstOp_84  σ = some (v, σ1)) : Con l 0 229 [.inr 84] σ v σ1 := Con_mk 1 3 rfl (by decide +kernel) (fun _ H => ok_M_worstOp_84_w H  _ h)
