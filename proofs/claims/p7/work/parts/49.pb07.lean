theorem ok_Prog_storedOf_4_w {l : Launch} {rv : Int} {rσ : pS} {G : Nat → pL → List pV → pS → Prop} (H : px_R l 0 72 rv rσ G) : ∀ (a1 a2 : Int) (σ : pS), f_Prog_storedOf_4 a1 a2 σ = some (rv, rσ) → G 0 [some (.inr 4), some (.inl a1), some (.inl a2)] [] σ := by
  intro a1 a2 σ h
  unfold f_Prog_storedOf_4 at h
  refine H [((2, 0, 0, 0, []), 1), ((17, 4, 7, 0, []), 3), ((1, 1, 0, 0, []), 1), ((19, 7, 20, 0, []), 1), ((0, 0, 0, 4, []), 1), ((13, 1, 14, 0, []), 3), ((1, 2, 0, 0, []), 1), ((12, 0, 29, 0, []), 3), ((27, 0, 0, 0, []), 1)] 0 _ _ _ (by decide +kernel) ?_
  obtain ⟨g1, h⟩ := px_gd h
  refine And.intro g1 ?_
  rcases px_ite h with ⟨c2, h⟩ | ⟨c2, h⟩
  · refine And.intro (fun hp => absurd c2 hp) (fun _ => ?_)
    exact Prod.mk.inj (Option.some.inj h)
  · refine And.intro (fun _ => ?_) (fun hn => absurd c2 hn)
    refine H [((1, 2, 0, 0, []), 1), ((0, 0, 0, 1, []), 1), ((0, 0, 0, 8, []), 2), ((2, 0, 0, 0, []), 1), ((17, 4, 7, 0, []), 3), ((1, 1, 0, 0, []), 1), ((19, 7, 20, 0, []), 1), ((6, 2, 0, 0, []), 1), ((6, 6, 0, 0, []), 1), ((0, 0, 0, 1, []), 1), ((6, 1, 0, 0, []), 1), ((6, 3, 0, 0, []), 1), ((27, 0, 0, 0, []), 1)] 14 _ _ _ (by decide +kernel) ?_
    obtain ⟨g3, h⟩ := px_gd h
    refine And.intro g3 ?_
    exact Prod.mk.inj (Option.some.inj h)
theorem ok_Prog_storedOf_4 {l : Launch} {a1 a2 : Int} {σ : pS} {v : Int} {σ1 : pS} (h : f_Prog_storedOf_4 a1 a2 σ = some (v, σ1)) : Con l 0 72 [.inr 4, .inl a1, .inl a2] σ v σ1 := Con_mk 3 3 rfl (by decide +kernel) (fun _ H => ok_Prog_storedOf_4_w H _ _ _ h)
theorem ok_Mach_undoDownTo_3_p26 {l : Launch} {rv : Int} {rσ : pS} {G : Nat → pL → List pV → pS → Prop} (H : px_R l 0 78 rv rσ G) {k_10 : Int → Int → pS → Option (Int × pS)} (hk_10 : ∀ (a1 a2 : Int) (σ : pS), k_10 a1 a2 σ = some (rv, rσ) → G 10 [some (.inr 3), some (.inl a1), some (.inl a2), none] [] σ) : ∀ (n : Nat) (a1 a2 a3 : Int) (σ : pS), f_Mach_undoDownTo_3_p26 k_10 n a1 a2 a3 σ = some (rv, rσ) → G 26 [some (.inr 3), some (.inl a1), some (.inl a2), some (.inl a3)] [] σ := by
  intro n
  induction n with
  | zero =>
    intro a1 a2 a3 σ h
    unfold f_Mach_undoDownTo_3_p26 at h
    cases h
  | succ n ih =>
    intro a1 a2 a3 σ h
    unfold f_Mach_undoDownTo_3_p26 at h
    refine H [((1, 3, 0, 0, []), 1), ((2, 0, 0, 0, []), 1), ((17, 3, 4, 0, []), 3), ((17, 4, 7, 0, []), 3), ((1, 2, 0, 0, []), 1), ((19, 7, 20, 0, []), 1), ((13, 3, 77, 0, []), 3), ((2, 0, 0, 0, []), 1), ((17, 3, 28, 0, []), 3), ((17, 28, 30, 0, []), 3), ((2, 0, 0, 0, []), 1), ((17, 3, 32, 0, []), 3), ((17, 32, 37, 0, []), 3), ((1, 2, 0, 0, []), 1), ((19, 37, 20, 0, []), 1), ((1, 3, 0, 0, []), 1), ((6, 0, 0, 0, []), 1), ((0, 0, 0, 63, []), 2), ((6, 3, 0, 0, []), 1), ((2, 0, 0, 0, []), 1), ((17, 3, 42, 0, []), 3), ((1, 2, 0, 0, []), 1), ((0, 0, 0, 4, []), 1), ((6, 2, 0, 0, []), 1), ((1, 3, 0, 0, []), 1), ((6, 0, 0, 0, []), 1), ((19, 42, 80, 0, []), 1), ((20, 30, 64, 0, []), 1), ((5, 3, 0, 1, []), 3), ((12, 0, 26, 0, []), 3)] 26 _ _ _ (by decide +kernel) ?_
    obtain ⟨g4, h⟩ := px_gd h
    refine And.intro g4 ?_
    rcases px_ite h with ⟨c5, h⟩ | ⟨c5, h⟩
    · refine And.intro (fun _ => ?_) (fun hn => absurd c5 hn)
      refine H [((2, 0, 0, 0, []), 1), ((17, 3, 41, 0, []), 3), ((1, 2, 0, 0, []), 1), ((0, 0, 0, 0, []), 1), ((20, 41, 20, 1, []), 1), ((2, 0, 0, 0, []), 1), ((17, 3, 32, 0, []), 3), ((17, 32, 33, 0, []), 3), ((0, 0, 0, 4, []), 1), ((10, 0, 0, 0, []), 1), ((19, 33, 6, 0, []), 1), ((0, 0, 0, 1, []), 1), ((6, 0, 0, 0, []), 1), ((20, 33, 6, 0, []), 1), ((5, 2, 0, (-1), []), 3), ((12, 0, 10, 0, []), 3), ((29, 3, 0, 0, []), 0)] 77 _ _ _ (by decide +kernel) ?_
      obtain ⟨g6, h⟩ := px_gd h
      refine And.intro g6 ?_
      refine And.intro (show (0 : Int) ≤ 0 ∧ (0 : Int) ≤ 1 from by decide) ?_
      refine And.intro (show (0 : Int) ≤ 4 ∧ (4 : Int) < 6 from by decide) ?_
      refine And.intro (show (0 : Int) ≤ 4 ∧ (4 : Int) < 6 from by decide) ?_
      exact hk_10 _ _ _ h
    · refine And.intro (fun hp => absurd hp c5) (fun _ => ?_)
      obtain ⟨g7, h⟩ := px_gd h
      refine And.intro g7 ?_
      obtain ⟨g8, h⟩ := px_gd h
      refine And.intro g8 ?_
      obtain ⟨g9, h⟩ := px_gd h
      refine And.intro g9 ?_
      exact ih _ _ _ _ h
theorem ok_Mach_undoDownTo_3_p10 {l : Launch} {rv : Int} {rσ : pS} {G : Nat → pL → List pV → pS → Prop} (H : px_R l 0 78 rv rσ G) : ∀ (n : Nat) (a1 a2 : Int) (σ : pS), f_Mach_undoDownTo_3_p10 n a1 a2 σ = some (rv, rσ) → G 10 [some (.inr 3), some (.inl a1), some (.inl a2), none] [] σ := by
  intro n
  induction n with
  | zero =>
    intro a1 a2 σ h
    unfold f_Mach_undoDownTo_3_p10 at h
    cases h
  | succ n ih =>
    intro a1 a2 σ h
    unfold f_Mach_undoDownTo_3_p10 at h
    refine H [((1, 2, 0, 0, []), 1), ((1, 1, 0, 0, []), 1), ((13, 2, 103, 0, []), 3), ((2, 0, 0, 0, []), 1), ((17, 3, 41, 0, []), 3), ((1, 2, 0, 0, []), 1), ((19, 41, 20, 0, []), 1), ((14, 0, 97, 0, []), 3), ((0, 0, 0, 0, []), 1), ((3, 3, 0, 0, []), 1)] 10 _ _ _ (by decide +kernel) ?_
    rcases px_ite h with ⟨c1, h⟩ | ⟨c1, h⟩
    · refine And.intro (fun _ => ?_) (fun hn => absurd c1 hn)
      refine H [((28, 0, 0, 0, []), 1)] 103 _ _ _ (by decide +kernel) ?_
      exact (Prod.mk.inj (Option.some.inj h)).2
    · refine And.intro (fun hp => absurd hp c1) (fun _ => ?_)
      obtain ⟨g2, h⟩ := px_gd h
      refine And.intro g2 ?_
      rcases px_ite h with ⟨c3, h⟩ | ⟨c3, h⟩
      · refine And.intro (fun _ => ?_) (fun hn => absurd c3 hn)
        refine H [((5, 2, 0, (-1), []), 3), ((12, 0, 10, 0, []), 3)] 97 _ _ _ (by decide +kernel) ?_
        exact ih _ _ _ h
      · refine And.intro (fun hp => absurd hp c3) (fun _ => ?_)
        exact ok_Mach_undoDownTo_3_p26 H ih _ _ _ _ _ h
theorem ok_Mach_undoDownTo_3_w {l : Launch} {rv : Int} {rσ : pS} {G : Nat → pL → List pV → pS → Prop} (H : px_R l 0 78 rv rσ G) : ∀ (a1 : Int) (σ : pS), f_Mach_undoDownTo_3 a1 σ = some (rv, rσ) → G 0 [some (.inr 3), some (.inl a1), none, none] [] σ := by
  intro a1 σ h
  unfold f_Mach_undoDownTo_3 at h
  refine H [((2, 0, 0, 0, []), 1), ((17, 3, 4, 0, []), 3), ((16, 4, 11, 0, []), 3), ((0, 0, 0, 1, []), 1), ((6, 1, 0, 0, []), 1), ((3, 2, 0, 0, []), 1)] 0 _ _ _ (by decide +kernel) ?_
  exact ok_Mach_undoDownTo_3_p10 H _ _ _ _ h
theorem ok_Mach_undoDownTo_3 {l : Launch} {a1 : Int} {σ : pS} {v : Int} {σ1 : pS} (h : f_Mach_undoDownTo_3 a1 σ = some (v, σ1)) : Con l 0 78 [.inr 3, .inl a1] σ v σ1 := Con_mk 2 4 rfl (by decide +kernel) (fun _ H => ok_Mach_undoDownTo_3_w H _ _ h)
theorem ok_Mach_makeWait_3_w {l : Launch} {rv : Int} {rσ : pS} {G : Nat → pL → List pV → pS → Prop} (H : px_R l 1 77 rv rσ G) : ∀ (a1 : Int) (σ : pS), f_Mach_makeWait_3 a1 σ = some (rv, rσ) → G 0 [some (.inr 3), some (.inl a1)] [] σ := by
  intro a1 σ h
  unfold f_Mach_makeWait_3 at h
  refine H [((2, 0, 0, 0, []), 1), ((17, 3, 39, 0, []), 3), ((1, 1, 0, 0, []), 1), ((0, 0, 0, 0, []), 1), ((20, 39, 20, 0, []), 1), ((2, 0, 0, 0, []), 1), ((17, 3, 32, 0, []), 3), ((17, 32, 35, 0, []), 3), ((1, 1, 0, 0, []), 1), ((10, 0, 0, 0, []), 1), ((19, 35, 20, 0, []), 1), ((0, 0, 0, 1, []), 1), ((6, 0, 0, 0, []), 1), ((20, 35, 20, 0, []), 1), ((2, 0, 0, 0, []), 1), ((17, 3, 32, 0, []), 3), ((17, 32, 33, 0, []), 3), ((0, 0, 0, 2, []), 1), ((10, 0, 0, 0, []), 1), ((19, 33, 6, 0, []), 1), ((0, 0, 0, 1, []), 1), ((6, 0, 0, 0, []), 1), ((20, 33, 6, 0, []), 1), ((2, 0, 0, 0, []), 1), ((17, 3, 41, 0, []), 3), ((1, 1, 0, 0, []), 1), ((19, 41, 20, 0, []), 1), ((14, 0, 47, 0, []), 3), ((2, 0, 0, 0, []), 1), ((1, 1, 0, 0, []), 1), ((23, 78, 1, 0, [(0, 3)]), 3), ((28, 0, 0, 0, []), 1)] 0 _ _ _ (by decide +kernel) ?_
  obtain ⟨g1, h⟩ := px_gd h
  refine And.intro g1 ?_
  obtain ⟨g2, h⟩ := px_gd h
  refine And.intro g2 ?_
  obtain ⟨g3, h⟩ := px_gd h
  refine And.intro g3 ?_
  refine And.intro (show (0 : Int) ≤ 2 ∧ (2 : Int) < 6 from by decide) ?_
  refine And.intro (show (0 : Int) ≤ 2 ∧ (2 : Int) < 6 from by decide) ?_
  obtain ⟨g4, h⟩ := px_gd h
  refine And.intro g4 ?_
  rcases px_ite h with ⟨c5, h⟩ | ⟨c5, h⟩
  · refine And.intro (fun _ => ?_) (fun hn => absurd c5 hn)
    refine H [((28, 0, 0, 0, []), 1)] 47 _ _ _ (by decide +kernel) ?_
    exact (Prod.mk.inj (Option.some.inj h)).2
  · refine And.intro (fun hp => absurd hp c5) (fun _ => ?_)
    obtain ⟨⟨vq6, σq6⟩, hq6, h⟩ := px_bind h
    dsimp only at h
    refine Exists.intro 0 (Exists.intro vq6 (Exists.intro σq6 (And.intro (Nat.le_of_ble_eq_true rfl) (And.intro (ok_Mach_undoDownTo_3 hq6) ?_))))
    exact (Prod.mk.inj (Option.some.inj h)).2
theorem ok_Mach_makeWait_3 {l : Launch} {a1 : Int} {σ : pS} {v : Int} {σ1 : pS} (h : f_Mach_makeWait_3 a1 σ = some (v, σ1)) : Con l 1 77 [.inr 3, .inl a1] σ v σ1 := Con_mk 2 2 rfl (by decide +kernel) (fun _ H => ok_Mach_makeWait_3_w H _ _ h)
theorem ok_Mach_dependsOn_3_p55 {l : Launch} {rv : Int} {rσ : pS} {G : Nat → pL → List pV → pS → Prop} (H : px_R l 0 79 rv rσ G) : ∀ (n : Nat) (a1 a2 a3 : Int) (σ : pS), f_Mach_dependsOn_3_p55 n a1 a2 a3 σ = some (rv, rσ) → G 55 [some (.inr 3), some (.inl a1), some (.inl a2), some (.inl a3)] [] σ := by
  intro n
  induction n with
  | zero =>
    intro a1 a2 a3 σ h
    unfold f_Mach_dependsOn_3_p55 at h
    cases h
  | succ n ih =>
    intro a1 a2 a3 σ h
    unfold f_Mach_dependsOn_3_p55 at h
    refine H [((1, 3, 0, 0, []), 1), ((2, 0, 0, 0, []), 1), ((17, 3, 4, 0, []), 3), ((17, 4, 7, 0, []), 3), ((1, 1, 0, 0, []), 1), ((19, 7, 20, 0, []), 1), ((13, 3, 93, 0, []), 3), ((2, 0, 0, 0, []), 1), ((17, 3, 32, 0, []), 3), ((17, 32, 38, 0, []), 3), ((1, 1, 0, 0, []), 1), ((0, 0, 0, 4, []), 1), ((6, 2, 0, 0, []), 1), ((1, 3, 0, 0, []), 1), ((6, 0, 0, 0, []), 1), ((19, 38, 80, 0, []), 1), ((1, 2, 0, 0, []), 1), ((13, 1, 87, 0, []), 3), ((0, 0, 0, 1, []), 1), ((27, 1, 0, 0, []), 1)] 55 _ _ _ (by decide +kernel) ?_
    obtain ⟨g9, h⟩ := px_gd h
    refine And.intro g9 ?_
    rcases px_ite h with ⟨c10, h⟩ | ⟨c10, h⟩
    · refine And.intro (fun _ => ?_) (fun hn => absurd c10 hn)
      refine H [((0, 0, 0, 0, []), 1), ((27, 1, 0, 0, []), 1)] 93 _ _ _ (by decide +kernel) ?_
      refine And.intro (show (0 : Int) ≤ 0 ∧ (0 : Int) ≤ 1 from by decide) ?_
      exact Prod.mk.inj (Option.some.inj h)
    · refine And.intro (fun hp => absurd hp c10) (fun _ => ?_)
      obtain ⟨g11, h⟩ := px_gd h
      refine And.intro g11 ?_
      rcases px_ite h with ⟨c12, h⟩ | ⟨c12, h⟩
      · refine And.intro (fun hp => absurd c12 hp) (fun _ => ?_)
        refine And.intro (show (0 : Int) ≤ 1 ∧ (1 : Int) ≤ 1 from by decide) ?_
        exact Prod.mk.inj (Option.some.inj h)
      · refine And.intro (fun _ => ?_) (fun hn => absurd c12 hn)
        refine H [((5, 3, 0, 1, []), 3), ((12, 0, 55, 0, []), 3)] 87 _ _ _ (by decide +kernel) ?_
        exact ih _ _ _ _ h
theorem ok_Mach_dependsOn_3_w {l : Launch} {rv : Int} {rσ : pS} {G : Nat → pL → List pV → pS → Prop} (H : px_R l 0 79 rv rσ G) : ∀ (a1 a2 : Int) (σ : pS), f_Mach_dependsOn_3 a1 a2 σ = some (rv, rσ) → G 0 [some (.inr 3), some (.inl a1), some (.inl a2), none] [] σ := by
  intro a1 a2 σ h
  unfold f_Mach_dependsOn_3 at h
  refine H [((2, 0, 0, 0, []), 1), ((17, 3, 4, 0, []), 3), ((17, 4, 12, 0, []), 3), ((1, 1, 0, 0, []), 1), ((19, 12, 20, 0, []), 1), ((1, 2, 0, 0, []), 1), ((13, 0, 26, 0, []), 3), ((2, 0, 0, 0, []), 1), ((17, 3, 4, 0, []), 3), ((17, 4, 13, 0, []), 3), ((1, 1, 0, 0, []), 1), ((19, 13, 20, 0, []), 1), ((1, 2, 0, 0, []), 1), ((13, 1, 28, 0, []), 3), ((0, 0, 0, 1, []), 1), ((27, 1, 0, 0, []), 1)] 0 _ _ _ (by decide +kernel) ?_
  obtain ⟨g1, h⟩ := px_gd h
  refine And.intro g1 ?_
  rcases px_ite h with ⟨c2, h⟩ | ⟨c2, h⟩
  · refine And.intro (fun _ => ?_) (fun hn => absurd c2 hn)
    refine H [((0, 0, 0, 1, []), 1), ((27, 1, 0, 0, []), 1)] 26 _ _ _ (by decide +kernel) ?_
    refine And.intro (show (0 : Int) ≤ 1 ∧ (1 : Int) ≤ 1 from by decide) ?_
    exact Prod.mk.inj (Option.some.inj h)
  · refine And.intro (fun hp => absurd hp c2) (fun _ => ?_)
    obtain ⟨g3, h⟩ := px_gd h
    refine And.intro g3 ?_
    rcases px_ite h with ⟨c4, h⟩ | ⟨c4, h⟩
    · refine And.intro (fun hp => absurd c4 hp) (fun _ => ?_)
      refine And.intro (show (0 : Int) ≤ 1 ∧ (1 : Int) ≤ 1 from by decide) ?_
      exact Prod.mk.inj (Option.some.inj h)
    · refine And.intro (fun _ => ?_) (fun hn => absurd c4 hn)
      refine H [((2, 0, 0, 0, []), 1), ((17, 3, 4, 0, []), 3), ((17, 4, 5, 0, []), 3), ((1, 1, 0, 0, []), 1), ((19, 5, 20, 0, []), 1), ((0, 0, 0, 2, []), 1), ((13, 1, 51, 0, []), 3), ((2, 0, 0, 0, []), 1), ((17, 3, 39, 0, []), 3), ((1, 1, 0, 0, []), 1), ((19, 39, 20, 0, []), 1), ((0, 0, 0, 2, []), 1), ((13, 0, 53, 0, []), 3), ((0, 0, 0, 0, []), 1), ((27, 1, 0, 0, []), 1)] 28 _ _ _ (by decide +kernel) ?_
      obtain ⟨g5, h⟩ := px_gd h
      refine And.intro g5 ?_
      rcases px_ite h with ⟨c6, h⟩ | ⟨c6, h⟩
      · refine And.intro (fun hp => absurd c6 hp) (fun _ => ?_)
        obtain ⟨g7, h⟩ := px_gd h
        refine And.intro g7 ?_
        rcases px_ite h with ⟨c8, h⟩ | ⟨c8, h⟩
        · refine And.intro (fun _ => ?_) (fun hn => absurd c8 hn)
          refine H [((0, 0, 0, 0, []), 1), ((3, 3, 0, 0, []), 1)] 53 _ _ _ (by decide +kernel) ?_
          exact ok_Mach_dependsOn_3_p55 H _ _ _ _ _ h
        · refine And.intro (fun hp => absurd hp c8) (fun _ => ?_)
          refine And.intro (show (0 : Int) ≤ 0 ∧ (0 : Int) ≤ 1 from by decide) ?_
          exact Prod.mk.inj (Option.some.inj h)
      · refine And.intro (fun _ => ?_) (fun hn => absurd c6 hn)
        refine H [((0, 0, 0, 0, []), 1), ((27, 1, 0, 0, []), 1)] 51 _ _ _ (by decide +kernel) ?_
        refine And.intro (show (0 : Int) ≤ 0 ∧ (0 : Int) ≤ 1 from by decide) ?_
        exact Prod.mk.inj (Option.some.inj h)
theorem ok_Mach_dependsOn_3 {l : Launch} {a1 a2 : Int} {σ : pS} {v : Int} {σ1 : pS} (h : f_Mach_dependsOn_3 a1 a2 σ = some (v, σ1)) : Con l 0 79 [.inr 3, .inl a1, .inl a2] σ v σ1 := Con_mk 3 4 rfl (by decide +kernel) (fun _ H => ok_Mach_dependsOn_3_w H _ _ _ h)
theorem ok_Mach_replay_3_p37 {l : Launch} {rv : Int} {rσ : pS} {G : Nat → pL → List pV → pS → Prop} (H : px_R l 2 76 rv rσ G) {k_16 : Int → Int → pS → Option (Int × pS)} (hk_16 : ∀ (a2 a3 : Int) (σ : pS), k_16 a2 a3 σ = some (rv, rσ) → G 16 [some (.inr 3), none, some (.inl a2), some (.inl a3), none] [] σ) : ∀ (n : Nat) (a2 a3 a4 : Int) (σ : pS), f_Mach_replay_3_p37 k_16 n a2 a3 a4 σ = some (rv, rσ) → G 37 [some (.inr 3), none, some (.inl a2), some (.inl a3), some (.inl a4)] [] σ := by
  intro n
  induction n with
  | zero =>
    intro a2 a3 a4 σ h
    unfold f_Mach_replay_3_p37 at h
    cases h
  | succ n ih =>
    intro a2 a3 a4 σ h
    unfold f_Mach_replay_3_p37 at h
    refine H [((1, 4, 0, 0, []), 2), ((2, 0, 0, 0, []), 1), ((17, 3, 4, 0, []), 3), ((16, 4, 11, 0, []), 3), ((13, 3, 103, 0, []), 3), ((2, 0, 0, 0, []), 1), ((17, 3, 39, 0, []), 3), ((1, 4, 0, 0, []), 2), ((19, 39, 20, 0, []), 1), ((14, 0, 97, 0, []), 3), ((1, 2, 0, 0, []), 1), ((0, 0, 0, 20, []), 2), ((13, 3, 97, 0, []), 3), ((2, 0, 0, 0, []), 1), ((1, 4, 0, 0, []), 2), ((2, 0, 0, 0, []), 1), ((17, 3, 44, 0, []), 3), ((1, 3, 0, 0, []), 1), ((19, 44, 20, 0, []), 1), ((23, 79, 2, 1, [(0, 3)]), 3), ((14, 0, 97, 0, []), 3), ((2, 0, 0, 0, []), 1), ((1, 4, 0, 0, []), 2), ((23, 77, 1, 0, [(0, 3)]), 3), ((2, 0, 0, 0, []), 1), ((17, 3, 44, 0, []), 3), ((1, 2, 0, 0, []), 1), ((1, 4, 0, 0, []), 2), ((20, 44, 20, 0, []), 1), ((5, 2, 0, 1, []), 3), ((5, 4, 0, 1, []), 3), ((12, 0, 37, 0, []), 3)] 37 _ _ _ (by decide +kernel) ?_
    rcases px_ite h with ⟨c5, h⟩ | ⟨c5, h⟩
    · refine And.intro (fun _ => ?_) (fun hn => absurd c5 hn)
      refine H [((5, 3, 0, 1, []), 3), ((12, 0, 16, 0, []), 3), ((29, 4, 0, 0, []), 0)] 103 _ _ _ (by decide +kernel) ?_
      exact hk_16 _ _ _ h
    · refine And.intro (fun hp => absurd hp c5) (fun _ => ?_)
      obtain ⟨g6, h⟩ := px_gd h
      refine And.intro g6 ?_
      rcases px_ite h with ⟨c7, h⟩ | ⟨c7, h⟩
      · refine And.intro (fun _ => ?_) (fun hn => absurd c7 hn)
        refine H [((5, 4, 0, 1, []), 3), ((12, 0, 37, 0, []), 3)] 97 _ _ _ (by decide +kernel) ?_
        exact ih _ _ _ _ h
      · refine And.intro (fun hp => absurd hp c7) (fun _ => ?_)
        rcases px_ite h with ⟨c8, h⟩ | ⟨c8, h⟩
        · refine And.intro (fun _ => ?_) (fun hn => absurd c8 hn)
          refine H [((5, 4, 0, 1, []), 3), ((12, 0, 37, 0, []), 3)] 97 _ _ _ (by decide +kernel) ?_
          exact ih _ _ _ _ h
        · refine And.intro (fun hp => absurd hp c8) (fun _ => ?_)
          obtain ⟨g9, h⟩ := px_gd h
          refine And.intro g9 ?_
          obtain ⟨⟨vq10, σq10⟩, hq10, h⟩ := px_bind h
          dsimp only at h
          refine Exists.intro 0 (Exists.intro vq10 (Exists.intro σq10 (And.intro (Nat.le_of_ble_eq_true rfl) (And.intro (ok_Mach_dependsOn_3 hq10) ?_))))
          rcases px_ite h with ⟨c11, h⟩ | ⟨c11, h⟩
          · refine And.intro (fun _ => ?_) (fun hn => absurd c11 hn)
            refine H [((5, 4, 0, 1, []), 3), ((12, 0, 37, 0, []), 3)] 97 _ _ _ (by decide +kernel) ?_
            exact ih _ _ _ _ h
          · refine And.intro (fun hp => absurd hp c11) (fun _ => ?_)
            obtain ⟨⟨vq12, σq12⟩, hq12, h⟩ := px_bind h
            dsimp only at h
            refine Exists.intro 1 (Exists.intro vq12 (Exists.intro σq12 (And.intro (Nat.le_of_ble_eq_true rfl) (And.intro (ok_Mach_makeWait_3 hq12) ?_))))
            obtain ⟨g13, h⟩ := px_gd h
            refine And.intro g13 ?_
            exact ih _ _ _ _ h
theorem ok_Mach_replay_3_p16 {l : Launch} {rv : Int} {rσ : pS} {G : Nat → pL → List pV → pS → Prop} (H : px_R l 2 76 rv rσ G) : ∀ (n : Nat) (a2 a3 : Int) (σ : pS), f_Mach_replay_3_p16 n a2 a3 σ = some (rv, rσ) → G 16 [some (.inr 3), none, some (.inl a2), some (.inl a3), none] [] σ := by
  intro n
  induction n with
  | zero =>
    intro a2 a3 σ h
    unfold f_Mach_replay_3_p16 at h
    cases h
  | succ n ih =>
    intro a2 a3 σ h
    unfold f_Mach_replay_3_p16 at h
    refine H [((1, 3, 0, 0, []), 1), ((1, 2, 0, 0, []), 1), ((13, 3, 109, 0, []), 3), ((1, 3, 0, 0, []), 1), ((0, 0, 0, 20, []), 2), ((13, 3, 109, 0, []), 3), ((2, 0, 0, 0, []), 1), ((17, 3, 44, 0, []), 3), ((1, 3, 0, 0, []), 1), ((19, 44, 20, 0, []), 1), ((0, 0, 0, 1, []), 1), ((6, 0, 0, 0, []), 1), ((3, 4, 0, 0, []), 2)] 16 _ _ _ (by decide +kernel) ?_
    rcases px_ite h with ⟨c2, h⟩ | ⟨c2, h⟩
    · refine And.intro (fun _ => ?_) (fun hn => absurd c2 hn)
      refine H [((28, 0, 0, 0, []), 1)] 109 _ _ _ (by decide +kernel) ?_
      exact (Prod.mk.inj (Option.some.inj h)).2
    · refine And.intro (fun hp => absurd hp c2) (fun _ => ?_)
      rcases px_ite h with ⟨c3, h⟩ | ⟨c3, h⟩
      · refine And.intro (fun _ => ?_) (fun hn => absurd c3 hn)
        refine H [((28, 0, 0, 0, []), 1)] 109 _ _ _ (by decide +kernel) ?_
        exact (Prod.mk.inj (Option.some.inj h)).2
      · refine And.intro (fun hp => absurd hp c3) (fun _ => ?_)
        obtain ⟨g4, h⟩ := px_gd h
        refine And.intro g4 ?_
        exact ok_Mach_replay_3_p37 H ih _ _ _ _ _ h
theorem ok_Mach_replay_3_w {l : Launch} {rv : Int} {rσ : pS} {G : Nat → pL → List pV → pS → Prop} (H : px_R l 2 76 rv rσ G) : ∀ (a1 : Int) (σ : pS), f_Mach_replay_3 a1 σ = some (rv, rσ) → G 0 [some (.inr 3), some (.inl a1), none, none, none] [] σ := by
  intro a1 σ h
  unfold f_Mach_replay_3 at h
  refine H [((2, 0, 0, 0, []), 1), ((1, 1, 0, 0, []), 1), ((23, 77, 1, 0, [(0, 3)]), 3), ((2, 0, 0, 0, []), 1), ((17, 3, 44, 0, []), 3), ((0, 0, 0, 0, []), 1), ((1, 1, 0, 0, []), 1), ((20, 44, 20, 0, []), 1), ((0, 0, 0, 1, []), 1), ((3, 2, 0, 0, []), 1), ((0, 0, 0, 0, []), 1), ((3, 3, 0, 0, []), 1), ((29, 1, 0, 0, []), 0)] 0 _ _ _ (by decide +kernel) ?_
  obtain ⟨⟨vq1, σq1⟩, hq1, h⟩ := px_bind h
  dsimp only at h
  refine Exists.intro 1 (Exists.intro vq1 (Exists.intro σq1 (And.intro (Nat.le_of_ble_eq_true rfl) (And.intro (ok_Mach_makeWait_3 hq1) ?_))))
  refine And.intro (show (0 : Int) ≤ 0 ∧ (0 : Int) < 20 from by decide) ?_
  exact ok_Mach_replay_3_p16 H _ _ _ _ h
theorem ok_Mach_replay_3 {l : Launch} {a1 : Int} {σ : pS} {v : Int} {σ1 : pS} (h : f_Mach_replay_3 a1 σ = some (v, σ1)) : Con l 2 76 [.inr 3, .inl a1] σ v σ1 := Con_mk 2 5 rfl (by decide +kernel) (fun _ H => ok_Mach_replay_3_w H _ _ h)
theorem ok_X_covers_w {l : Launch} {rv : Int} {rσ : pS} {G : Nat → pL → List pV → pS → Prop} (H : px_R l 0 70 rv rσ G) : ∀ (a0 a1 a2 : Int) (σ : pS), f_X_covers a0 a1 a2 σ = some (rv, rσ) → G 0 [some (.inl a0), some (.inl a1), some (.inl a2)] [] σ := by
  intro a0 a1 a2 σ h
  unfold f_X_covers at h
  refine H [((1, 2, 0, 0, []), 1), ((1, 0, 0, 0, []), 1), ((6, 1, 0, 0, []), 1), ((0, 0, 0, 63, []), 2), ((6, 3, 0, 0, []), 1), ((1, 1, 0, 0, []), 1), ((13, 3, 14, 0, []), 3), ((0, 0, 0, 1, []), 1), ((12, 0, 15, 0, []), 3), ((27, 1, 0, 0, []), 1)] 0 _ _ _ (by decide +kernel) ?_
  rcases px_ite h with ⟨c1, h⟩ | ⟨c1, h⟩
  · refine And.intro (fun _ => ?_) (fun hn => absurd c1 hn)
    refine H [((0, 0, 0, 0, []), 1), ((27, 1, 0, 0, []), 1)] 14 _ _ _ (by decide +kernel) ?_
    refine And.intro (show (0 : Int) ≤ 0 ∧ (0 : Int) ≤ 1 from by decide) ?_
    exact Prod.mk.inj (Option.some.inj h)
  · refine And.intro (fun hp => absurd hp c1) (fun _ => ?_)
    refine And.intro (show (0 : Int) ≤ 1 ∧ (1 : Int) ≤ 1 from by decide) ?_
    exact Prod.mk.inj (Option.some.inj h)
theorem ok_X_covers {l : Launch} {a0 a1 a2 : Int} {σ : pS} {v : Int} {σ1 : pS} (h : f_X_covers a0 a1 a2 σ = some (v, σ1)) : Con l 0 70 [.inl a0, .inl a1, .inl a2] σ v σ1 := Con_mk 3 3 rfl (by decide +kernel) (fun _ H => ok_X_covers_w H _ _ _ _ h)
theorem ok_Mach_tookTooOld_3_p2 {l : Launch} {rv : Int} {rσ : pS} {G : Nat → pL → List pV → pS → Prop} (H : px_R l 1 74 rv rσ G) : ∀ (n : Nat) (a1 a2 a3 : Int) (σ : pS), f_Mach_tookTooOld_3_p2 n a1 a2 a3 σ = some (rv, rσ) → G 2 [some (.inr 3), some (.inl a1), some (.inl a2), some (.inl a3), none] [] σ := by
  intro n
  induction n with
  | zero =>
    intro a1 a2 a3 σ h
    unfold f_Mach_tookTooOld_3_p2 at h
    cases h
  | succ n ih =>
    intro a1 a2 a3 σ h
    unfold f_Mach_tookTooOld_3_p2 at h
    refine H [((1, 3, 0, 0, []), 1), ((2, 0, 0, 0, []), 1), ((17, 3, 4, 0, []), 3), ((17, 4, 7, 0, []), 3), ((1, 1, 0, 0, []), 1), ((19, 7, 20, 0, []), 1), ((13, 3, 82, 0, []), 3), ((2, 0, 0, 0, []), 1), ((17, 3, 32, 0, []), 3), ((17, 32, 37, 0, []), 3), ((1, 1, 0, 0, []), 1), ((19, 37, 20, 0, []), 1), ((1, 3, 0, 0, []), 1), ((6, 0, 0, 0, []), 1), ((0, 0, 0, 63, []), 2), ((6, 3, 0, 0, []), 1), ((3, 4, 0, 0, []), 2), ((2, 0, 0, 0, []), 1), ((17, 3, 32, 0, []), 3), ((17, 32, 38, 0, []), 3), ((1, 1, 0, 0, []), 1), ((0, 0, 0, 4, []), 1), ((6, 2, 0, 0, []), 1), ((1, 3, 0, 0, []), 1), ((6, 0, 0, 0, []), 1), ((19, 38, 80, 0, []), 1), ((1, 2, 0, 0, []), 1), ((13, 3, 76, 0, []), 3), ((2, 0, 0, 0, []), 1), ((17, 3, 32, 0, []), 3), ((17, 32, 37, 0, []), 3), ((1, 2, 0, 0, []), 1), ((19, 37, 20, 0, []), 1), ((2, 0, 0, 0, []), 1), ((17, 3, 4, 0, []), 3), ((17, 4, 7, 0, []), 3), ((1, 2, 0, 0, []), 1), ((19, 7, 20, 0, []), 1), ((1, 4, 0, 0, []), 2), ((24, 70, 3, 1, []), 3), ((14, 0, 76, 0, []), 3), ((0, 0, 0, 1, []), 1), ((27, 1, 0, 0, []), 1)] 2 _ _ _ (by decide +kernel) ?_
    obtain ⟨g1, h⟩ := px_gd h
    refine And.intro g1 ?_
    rcases px_ite h with ⟨c2, h⟩ | ⟨c2, h⟩
    · refine And.intro (fun _ => ?_) (fun hn => absurd c2 hn)
      refine H [((0, 0, 0, 0, []), 1), ((27, 1, 0, 0, []), 1)] 82 _ _ _ (by decide +kernel) ?_
      refine And.intro (show (0 : Int) ≤ 0 ∧ (0 : Int) ≤ 1 from by decide) ?_
      exact Prod.mk.inj (Option.some.inj h)
    · refine And.intro (fun hp => absurd hp c2) (fun _ => ?_)
      obtain ⟨g3, h⟩ := px_gd h
      refine And.intro g3 ?_
      obtain ⟨g4, h⟩ := px_gd h
      refine And.intro g4 ?_
      rcases px_ite h with ⟨c5, h⟩ | ⟨c5, h⟩
      · refine And.intro (fun _ => ?_) (fun hn => absurd c5 hn)
        refine H [((5, 3, 0, 1, []), 3), ((12, 0, 2, 0, []), 3), ((29, 4, 0, 0, []), 0)] 76 _ _ _ (by decide +kernel) ?_
        exact ih _ _ _ _ h
      · refine And.intro (fun hp => absurd hp c5) (fun _ => ?_)
        obtain ⟨g6, h⟩ := px_gd h
        refine And.intro g6 ?_
        obtain ⟨g7, h⟩ := px_gd h
        refine And.intro g7 ?_
        obtain ⟨⟨vq8, σq8⟩, hq8, h⟩ := px_bind h
        dsimp only at h
        refine Exists.intro 0 (Exists.intro vq8 (Exists.intro σq8 (And.intro (Nat.le_of_ble_eq_true rfl) (And.intro (ok_X_covers hq8) ?_))))
        rcases px_ite h with ⟨c9, h⟩ | ⟨c9, h⟩
        · refine And.intro (fun _ => ?_) (fun hn => absurd c9 hn)
          refine H [((5, 3, 0, 1, []), 3), ((12, 0, 2, 0, []), 3), ((29, 4, 0, 0, []), 0)] 76 _ _ _ (by decide +kernel) ?_
          exact ih _ _ _ _ h
        · refine And.intro (fun hp => absurd hp c9) (fun _ => ?_)
          refine And.intro (show (0 : Int) ≤ 1 ∧ (1 : Int) ≤ 1 from by decide) ?_
          exact Prod.mk.inj (Option.some.inj h)
theorem ok_Mach_tookTooOld_3_w {l : Launch} {rv : Int} {rσ : pS} {G : Nat → pL → List pV → pS → Prop} (H : px_R l 1 74 rv rσ G) : ∀ (a1 a2 : Int) (σ : pS), f_Mach_tookTooOld_3 a1 a2 σ = some (rv, rσ) → G 0 [some (.inr 3), some (.inl a1), some (.inl a2), none, none] [] σ := by
  intro a1 a2 σ h
  unfold f_Mach_tookTooOld_3 at h
  refine H [((0, 0, 0, 0, []), 1), ((3, 3, 0, 0, []), 1)] 0 _ _ _ (by decide +kernel) ?_
  exact ok_Mach_tookTooOld_3_p2 H _ _ _ _ _ h
theorem ok_Mach_tookTooOld_3 {l : Launch} {a1 a2 : Int} {σ : pS} {v : Int} {σ1 : pS} (h : f_Mach_tookTooOld_3 a1 a2 σ = some (v, σ1)) : Con l 1 74 [.inr 3, .inl a1, .inl a2] σ v σ1 := Con_mk 3 5 rfl (by decide +kernel) (fun _ H => ok_Mach_tookTooOld_3_w H _ _ _ h)
theorem ok_State_melt_28_p57 {l : Launch} {rv : Int} {rσ : pS} {G : Nat → pL → List pV → pS → Prop} (H : px_R l 1 75 rv rσ G) : ∀ (a1 a2 a3 : Int) (σ : pS), f_State_melt_28_p57 a1 a2 a3 σ = some (rv, rσ) → G 57 [some (.inr 28), some (.inl a1), some (.inl a2), some (.inl a3)] [] σ := by
  intro a1 a2 a3 σ h
  unfold f_State_melt_28_p57 at h
  refine H [((1, 3, 0, 0, []), 1), ((0, 0, 0, (-1), []), 1), ((13, 1, 78, 0, []), 3), ((2, 0, 0, 0, []), 1), ((17, 28, 31, 0, []), 3), ((1, 1, 0, 0, []), 1), ((19, 31, 20, 0, []), 1), ((2, 0, 0, 0, []), 1), ((17, 28, 31, 0, []), 3), ((1, 2, 0, 0, []), 1), ((19, 31, 20, 0, []), 1), ((25, 1, 0, 0, []), 3), ((3, 3, 0, 0, []), 1), ((2, 0, 0, 0, []), 1), ((17, 28, 31, 0, []), 3), ((1, 1, 0, 0, []), 1), ((1, 3, 0, 0, []), 1), ((20, 31, 20, 0, []), 1), ((2, 0, 0, 0, []), 1), ((17, 28, 31, 0, []), 3), ((1, 2, 0, 0, []), 1), ((1, 3, 0, 0, []), 1), ((20, 31, 20, 0, []), 1), ((28, 0, 0, 0, []), 1)] 57 _ _ _ (by decide +kernel) ?_
  rcases px_ite h with ⟨c5, h⟩ | ⟨c5, h⟩
  · refine And.intro (fun hp => absurd c5 hp) (fun _ => ?_)
    obtain ⟨g8, h⟩ := px_gd h
    refine And.intro g8 ?_
    obtain ⟨g9, h⟩ := px_gd h
    refine And.intro g9 ?_
    obtain ⟨g10, h⟩ := px_gd h
    refine And.intro g10 ?_
    obtain ⟨g11, h⟩ := px_gd h
    refine And.intro g11 ?_
    exact (Prod.mk.inj (Option.some.inj h)).2
  · refine And.intro (fun _ => ?_) (fun hn => absurd c5 hn)
    refine H [((2, 0, 0, 0, []), 1), ((17, 28, 31, 0, []), 3), ((1, 1, 0, 0, []), 1), ((1, 3, 0, 0, []), 1), ((20, 31, 20, 0, []), 1), ((2, 0, 0, 0, []), 1), ((17, 28, 31, 0, []), 3), ((1, 2, 0, 0, []), 1), ((1, 3, 0, 0, []), 1), ((20, 31, 20, 0, []), 1), ((28, 0, 0, 0, []), 1)] 78 _ _ _ (by decide +kernel) ?_
    obtain ⟨g6, h⟩ := px_gd h
    refine And.intro g6 ?_
    obtain ⟨g7, h⟩ := px_gd h
    refine And.intro g7 ?_
    exact (Prod.mk.inj (Option.some.inj h)).2
theorem ok_State_melt_28_w {l : Launch} {rv : Int} {rσ : pS} {G : Nat → pL → List pV → pS → Prop} (H : px_R l 1 75 rv rσ G) : ∀ (a1 a2 : Int) (σ : pS), f_State_melt_28 a1 a2 σ = some (rv, rσ) → G 0 [some (.inr 28), some (.inl a1), some (.inl a2), none] [] σ := by
  intro a1 a2 σ h
  unfold f_State_melt_28 at h
  refine H [((2, 0, 0, 0, []), 1), ((17, 28, 31, 0, []), 3), ((1, 1, 0, 0, []), 1), ((19, 31, 20, 0, []), 1), ((2, 0, 0, 0, []), 1), ((17, 28, 31, 0, []), 3), ((1, 2, 0, 0, []), 1), ((19, 31, 20, 0, []), 1), ((25, 0, 0, 0, []), 3), ((3, 3, 0, 0, []), 1), ((2, 0, 0, 0, []), 1), ((17, 28, 31, 0, []), 3), ((1, 1, 0, 0, []), 1), ((19, 31, 20, 0, []), 1), ((0, 0, 0, (-1), []), 1), ((13, 1, 57, 0, []), 3), ((2, 0, 0, 0, []), 1), ((17, 28, 31, 0, []), 3), ((1, 2, 0, 0, []), 1), ((19, 31, 20, 0, []), 1), ((0, 0, 0, (-1), []), 1), ((13, 1, 57, 0, []), 3), ((2, 0, 0, 0, []), 1), ((16, 28, 3, 0, []), 3), ((3, 3, 0, 0, []), 1), ((2, 0, 0, 0, []), 1), ((2, 0, 0, 0, []), 1), ((16, 28, 3, 0, []), 3), ((0, 0, 0, 1, []), 1), ((6, 0, 0, 0, []), 1), ((0, 0, 0, 16, []), 2), ((7, 1, 0, 0, []), 1), ((18, 28, 3, 0, []), 3), ((12, 0, 78, 0, []), 3), ((2, 0, 0, 0, []), 1), ((17, 28, 31, 0, []), 3), ((1, 1, 0, 0, []), 1), ((1, 3, 0, 0, []), 1), ((20, 31, 20, 0, []), 1), ((2, 0, 0, 0, []), 1), ((17, 28, 31, 0, []), 3), ((1, 2, 0, 0, []), 1), ((1, 3, 0, 0, []), 1), ((20, 31, 20, 0, []), 1), ((28, 0, 0, 0, []), 1)] 0 _ _ _ (by decide +kernel) ?_
  obtain ⟨g1, h⟩ := px_gd h
  refine And.intro g1 ?_
  obtain ⟨g2, h⟩ := px_gd h
  refine And.intro g2 ?_
  obtain ⟨g3, h⟩ := px_gd h
  refine And.intro g3 ?_
  rcases px_ite h with ⟨c4, h⟩ | ⟨c4, h⟩
  · refine And.intro (fun hp => absurd c4 hp) (fun _ => ?_)
    obtain ⟨g12, h⟩ := px_gd h
    refine And.intro g12 ?_
    rcases px_ite h with ⟨c13, h⟩ | ⟨c13, h⟩
    · refine And.intro (fun hp => absurd c13 hp) (fun _ => ?_)
      refine And.intro (show (16 : Int) ≠ 0 from by decide) (fun r14 hr14 => ?_)
      replace hr14 : r14 = pRem (pw ((σ 28 3) + 1)) 16 := hr14.trans (px_dr_1 _ _)
      try rw [← hr14] at h
      obtain ⟨g15, h⟩ := px_gd h
      refine And.intro g15 ?_
      obtain ⟨g16, h⟩ := px_gd h
      refine And.intro g16 ?_
      exact (Prod.mk.inj (Option.some.inj h)).2
    · refine And.intro (fun _ => ?_) (fun hn => absurd c13 hn)
      exact ok_State_melt_28_p57 H _ _ _ _ h
  · refine And.intro (fun _ => ?_) (fun hn => absurd c4 hn)
    exact ok_State_melt_28_p57 H _ _ _ _ h
theorem ok_State_melt_28 {l : Launch} {a1 a2 : Int} {σ : pS} {v : Int} {σ1 : pS} (h : f_State_melt_28 a1 a2 σ = some (v, σ1)) : Con l 1 75 [.inr 28, .inl a1, .inl a2] σ v σ1 := Con_mk 3 4 rfl (by decide +kernel) (fun _ H => ok_State_melt_28_w H _ _ _ h)
theorem ok_Mach_lookBack_3_p76 {l : Launch} {rv : Int} {rσ : pS} {G : Nat → pL → List pV → pS → Prop} (H : px_R l 3 73 rv rσ G) : ∀ (n : Nat) (a2 a3 : Int) (σ : pS), f_Mach_lookBack_3_p76 n a2 a3 σ = some (rv, rσ) → G 76 [some (.inr 3), none, some (.inl a2), some (.inl a3)] [] σ := by
  intro n
  induction n with
  | zero =>
    intro a2 a3 σ h
    unfold f_Mach_lookBack_3_p76 at h
    cases h
  | succ n ih =>
    intro a2 a3 σ h
    unfold f_Mach_lookBack_3_p76 at h
    refine H [((1, 3, 0, 0, []), 1), ((1, 2, 0, 0, []), 1), ((13, 3, 124, 0, []), 3), ((2, 0, 0, 0, []), 1), ((17, 3, 32, 0, []), 3), ((17, 32, 33, 0, []), 3), ((0, 0, 0, 1, []), 1), ((10, 0, 0, 0, []), 1), ((19, 33, 6, 0, []), 1), ((0, 0, 0, 1, []), 1), ((6, 0, 0, 0, []), 1), ((20, 33, 6, 0, []), 1), ((2, 0, 0, 0, []), 1), ((17, 3, 39, 0, []), 3), ((2, 0, 0, 0, []), 1), ((17, 3, 43, 0, []), 3), ((1, 3, 0, 0, []), 1), ((19, 43, 20, 0, []), 1), ((19, 39, 20, 0, []), 1), ((14, 0, 118, 0, []), 3), ((2, 0, 0, 0, []), 1), ((2, 0, 0, 0, []), 1), ((17, 3, 43, 0, []), 3), ((1, 3, 0, 0, []), 1), ((19, 43, 20, 0, []), 1), ((23, 76, 1, 0, [(0, 3)]), 3), ((5, 3, 0, 1, []), 3), ((12, 0, 76, 0, []), 3)] 76 _ _ _ (by decide +kernel) ?_
    rcases px_ite h with ⟨c2, h⟩ | ⟨c2, h⟩
    · refine And.intro (fun _ => ?_) (fun hn => absurd c2 hn)
      refine H [((28, 0, 0, 0, []), 1)] 124 _ _ _ (by decide +kernel) ?_
      exact (Prod.mk.inj (Option.some.inj h)).2
    · refine And.intro (fun hp => absurd hp c2) (fun _ => ?_)
      refine And.intro (show (0 : Int) ≤ 1 ∧ (1 : Int) < 6 from by decide) ?_
      refine And.intro (show (0 : Int) ≤ 1 ∧ (1 : Int) < 6 from by decide) ?_
      obtain ⟨g3, h⟩ := px_gd h
      refine And.intro g3 ?_
      obtain ⟨g4, h⟩ := px_gd h
      refine And.intro g4 ?_
      rcases px_ite h with ⟨c5, h⟩ | ⟨c5, h⟩
      · refine And.intro (fun _ => ?_) (fun hn => absurd c5 hn)
        refine H [((5, 3, 0, 1, []), 3), ((12, 0, 76, 0, []), 3)] 118 _ _ _ (by decide +kernel) ?_
        exact ih _ _ _ h
      · refine And.intro (fun hp => absurd hp c5) (fun _ => ?_)
        obtain ⟨g6, h⟩ := px_gd h
        refine And.intro g6 ?_
        obtain ⟨⟨vq7, σq7⟩, hq7, h⟩ := px_bind h
        dsimp only at h
        refine Exists.intro 2 (Exists.intro vq7 (Exists.intro σq7 (And.intro (Nat.le_of_ble_eq_true rfl) (And.intro (ok_Mach_replay_3 hq7) ?_))))
        exact ih _ _ _ h
theorem ok_Mach_lookBack_3_p6 {l : Launch} {rv : Int} {rσ : pS} {G : Nat → pL → List pV → pS → Prop} (H : px_R l 3 73 rv rσ G) : ∀ (n : Nat) (a1 a2 a3 : Int) (σ : pS), f_Mach_lookBack_3_p6 n a1 a2 a3 σ = some (rv, rσ) → G 6 [some (.inr 3), some (.inl a1), some (.inl a2), some (.inl a3)] [] σ := by
  intro n
  induction n with
  | zero =>
    intro a1 a2 a3 σ h
    unfold f_Mach_lookBack_3_p6 at h
    cases h
  | succ n ih =>
    intro a1 a2 a3 σ h
    unfold f_Mach_lookBack_3_p6 at h
    refine H [((1, 3, 0, 0, []), 1), ((2, 0, 0, 0, []), 1), ((17, 3, 4, 0, []), 3), ((16, 4, 11, 0, []), 3), ((13, 3, 74, 0, []), 3), ((2, 0, 0, 0, []), 1), ((17, 3, 4, 0, []), 3), ((17, 4, 5, 0, []), 3), ((1, 3, 0, 0, []), 1), ((19, 5, 20, 0, []), 1), ((0, 0, 0, 2, []), 1), ((13, 1, 68, 0, []), 3), ((2, 0, 0, 0, []), 1), ((17, 3, 39, 0, []), 3), ((1, 3, 0, 0, []), 1), ((19, 39, 20, 0, []), 1), ((0, 0, 0, 2, []), 1), ((13, 1, 68, 0, []), 3), ((2, 0, 0, 0, []), 1), ((1, 3, 0, 0, []), 1), ((1, 1, 0, 0, []), 1), ((23, 74, 2, 1, [(0, 3)]), 3), ((14, 0, 68, 0, []), 3), ((2, 0, 0, 0, []), 1), ((17, 3, 43, 0, []), 3), ((1, 2, 0, 0, []), 1), ((1, 3, 0, 0, []), 1), ((20, 43, 20, 0, []), 1), ((5, 2, 0, 1, []), 3), ((2, 0, 0, 0, []), 1), ((17, 3, 28, 0, []), 3), ((1, 3, 0, 0, []), 1), ((1, 1, 0, 0, []), 1), ((23, 75, 2, 0, [(0, 28)]), 3), ((5, 3, 0, 1, []), 3), ((12, 0, 6, 0, []), 3)] 6 _ _ _ (by decide +kernel) ?_
    rcases px_ite h with ⟨c1, h⟩ | ⟨c1, h⟩
    · refine And.intro (fun _ => ?_) (fun hn => absurd c1 hn)
      refine H [((0, 0, 0, 0, []), 1), ((3, 3, 0, 0, []), 1), ((29, 1, 0, 0, []), 0)] 74 _ _ _ (by decide +kernel) ?_
      exact ok_Mach_lookBack_3_p76 H _ _ _ _ h
    · refine And.intro (fun hp => absurd hp c1) (fun _ => ?_)
      obtain ⟨g8, h⟩ := px_gd h
      refine And.intro g8 ?_
      rcases px_ite h with ⟨c9, h⟩ | ⟨c9, h⟩
      · refine And.intro (fun hp => absurd c9 hp) (fun _ => ?_)
        obtain ⟨g10, h⟩ := px_gd h
        refine And.intro g10 ?_
        rcases px_ite h with ⟨c11, h⟩ | ⟨c11, h⟩
        · refine And.intro (fun hp => absurd c11 hp) (fun _ => ?_)
          obtain ⟨⟨vq12, σq12⟩, hq12, h⟩ := px_bind h
          dsimp only at h
          refine Exists.intro 1 (Exists.intro vq12 (Exists.intro σq12 (And.intro (Nat.le_of_ble_eq_true rfl) (And.intro (ok_Mach_tookTooOld_3 hq12) ?_))))
          rcases px_ite h with ⟨c13, h⟩ | ⟨c13, h⟩
          · refine And.intro (fun _ => ?_) (fun hn => absurd c13 hn)
            refine H [((5, 3, 0, 1, []), 3), ((12, 0, 6, 0, []), 3)] 68 _ _ _ (by decide +kernel) ?_
            exact ih _ _ _ _ h
          · refine And.intro (fun hp => absurd hp c13) (fun _ => ?_)
            obtain ⟨g14, h⟩ := px_gd h
            refine And.intro g14 ?_
            obtain ⟨⟨vq15, σq15⟩, hq15, h⟩ := px_bind h
            dsimp only at h
            refine Exists.intro 1 (Exists.intro vq15 (Exists.intro σq15 (And.intro (Nat.le_of_ble_eq_true rfl) (And.intro (ok_State_melt_28 hq15) ?_))))
            exact ih _ _ _ _ h
        · refine And.intro (fun _ => ?_) (fun hn => absurd c11 hn)
          refine H [((5, 3, 0, 1, []), 3), ((12, 0, 6, 0, []), 3)] 68 _ _ _ (by decide +kernel) ?_
          exact ih _ _ _ _ h
      · refine And.intro (fun _ => ?_) (fun hn => absurd c9 hn)
        refine H [((5, 3, 0, 1, []), 3), ((12, 0, 6, 0, []), 3)] 68 _ _ _ (by decide +kernel) ?_
        exact ih _ _ _ _ h
theorem ok_Mach_lookBack_3_w {l : Launch} {rv : Int} {rσ : pS} {G : Nat → pL → List pV → pS → Prop} (H : px_R l 3 73 rv rσ G) : ∀ (a1 : Int) (σ : pS), f_Mach_lookBack_3 a1 σ = some (rv, rσ) → G 0 [some (.inr 3), some (.inl a1), none, none] [] σ := by
  intro a1 σ h
  unfold f_Mach_lookBack_3 at h
  refine H [((0, 0, 0, 0, []), 1), ((3, 2, 0, 0, []), 1), ((1, 1, 0, 0, []), 1), ((0, 0, 0, 1, []), 1), ((6, 0, 0, 0, []), 1), ((3, 3, 0, 0, []), 1)] 0 _ _ _ (by decide +kernel) ?_
  exact ok_Mach_lookBack_3_p6 H _ _ _ _ _ h
theorem ok_Mach_lookBack_3 {l : Launch} {a1 : Int} {σ : pS} {v : Int} {σ1 : pS} (h : f_Mach_lookBack_3 a1 σ = some (v, σ1)) : Con l 3 73 [.inr 3, .inl a1] σ v σ1 := Con_mk 2 4 rfl (by decide +kernel) (fun _ H => ok_Mach_lookBack_3_w H _ _ h)
theorem ok_Mach_youngestCovering_3_p4 {l : Launch} {rv : Int} {rσ : pS} {G : Nat → pL → List pV → pS → Prop} (H : px_R l 1 69 rv rσ G) : ∀ (n : Nat) (a2 a3 : Int) (σ : pS), f_Mach_youngestCovering_3_p4 n a2 a3 σ = some (rv, rσ) → G 4 [some (.inr 3), none, some (.inl a2), some (.inl a3)] [] σ := by
  intro n
  induction n with
  | zero =>
    intro a2 a3 σ h
    unfold f_Mach_youngestCovering_3_p4 at h
    cases h
  | succ n ih =>
    intro a2 a3 σ h
    unfold f_Mach_youngestCovering_3_p4 at h
    refine H [((1, 3, 0, 0, []), 1), ((14, 2, 64, 0, []), 3), ((2, 0, 0, 0, []), 1), ((17, 3, 4, 0, []), 3), ((17, 4, 5, 0, []), 3), ((1, 3, 0, 0, []), 1), ((19, 5, 20, 0, []), 1), ((0, 0, 0, 3, []), 1), ((13, 1, 58, 0, []), 3), ((2, 0, 0, 0, []), 1), ((17, 3, 39, 0, []), 3), ((1, 3, 0, 0, []), 1), ((19, 39, 20, 0, []), 1), ((0, 0, 0, 2, []), 1), ((13, 1, 58, 0, []), 3), ((2, 0, 0, 0, []), 1), ((17, 3, 32, 0, []), 3), ((17, 32, 37, 0, []), 3), ((1, 3, 0, 0, []), 1), ((19, 37, 20, 0, []), 1), ((2, 0, 0, 0, []), 1), ((17, 3, 4, 0, []), 3), ((17, 4, 7, 0, []), 3), ((1, 3, 0, 0, []), 1), ((19, 7, 20, 0, []), 1), ((1, 2, 0, 0, []), 1), ((24, 70, 3, 1, []), 3), ((14, 0, 58, 0, []), 3), ((1, 3, 0, 0, []), 1), ((27, 0, 0, 0, []), 1)] 4 _ _ _ (by decide +kernel) ?_
    rcases px_ite h with ⟨c1, h⟩ | ⟨c1, h⟩
    · refine And.intro (fun _ => ?_) (fun hn => absurd c1 hn)
      refine H [((0, 0, 0, (-1), []), 1), ((27, 0, 0, 0, []), 1)] 64 _ _ _ (by decide +kernel) ?_
      exact Prod.mk.inj (Option.some.inj h)
    · refine And.intro (fun hp => absurd hp c1) (fun _ => ?_)
      obtain ⟨g2, h⟩ := px_gd h
      refine And.intro g2 ?_
      rcases px_ite h with ⟨c3, h⟩ | ⟨c3, h⟩
      · refine And.intro (fun hp => absurd c3 hp) (fun _ => ?_)
        obtain ⟨g4, h⟩ := px_gd h
        refine And.intro g4 ?_
        rcases px_ite h with ⟨c5, h⟩ | ⟨c5, h⟩
        · refine And.intro (fun hp => absurd c5 hp) (fun _ => ?_)
          obtain ⟨g6, h⟩ := px_gd h
          refine And.intro g6 ?_
          obtain ⟨g7, h⟩ := px_gd h
          refine And.intro g7 ?_
          obtain ⟨⟨vq8, σq8⟩, hq8, h⟩ := px_bind h
          dsimp only at h
          refine Exists.intro 0 (Exists.intro vq8 (Exists.intro σq8 (And.intro (Nat.le_of_ble_eq_true rfl) (And.intro (ok_X_covers hq8) ?_))))
          rcases px_ite h with ⟨c9, h⟩ | ⟨c9, h⟩
          · refine And.intro (fun _ => ?_) (fun hn => absurd c9 hn)
            refine H [((5, 3, 0, (-1), []), 3), ((12, 0, 4, 0, []), 3)] 58 _ _ _ (by decide +kernel) ?_
            exact ih _ _ _ h
          · refine And.intro (fun hp => absurd hp c9) (fun _ => ?_)
            exact Prod.mk.inj (Option.some.inj h)
        · refine And.intro (fun _ => ?_) (fun hn => absurd c5 hn)
          refine H [((5, 3, 0, (-1), []), 3), ((12, 0, 4, 0, []), 3)] 58 _ _ _ (by decide +kernel) ?_
          exact ih _ _ _ h
      · refine And.intro (fun _ => ?_) (fun hn => absurd c3 hn)
        refine H [((5, 3, 0, (-1), []), 3), ((12, 0, 4, 0, []), 3)] 58 _ _ _ (by decide +kernel) ?_
        exact ih _ _ _ h
theorem ok_Mach_youngestCovering_3_w {l : Launch} {rv : Int} {rσ : pS} {G : Nat → pL → List pV → pS → Prop} (H : px_R l 1 69 rv rσ G) : ∀ (a1 a2 : Int) (σ : pS), f_Mach_youngestCovering_3 a1 a2 σ = some (rv, rσ) → G 0 [some (.inr 3), some (.inl a1), some (.inl a2), none] [] σ := by
  intro a1 a2 σ h
  unfold f_Mach_youngestCovering_3 at h
  refine H [((1, 1, 0, 0, []), 1), ((0, 0, 0, 1, []), 1), ((6, 1, 0, 0, []), 1), ((3, 3, 0, 0, []), 1), ((29, 1, 0, 0, []), 0)] 0 _ _ _ (by decide +kernel) ?_
  exact ok_Mach_youngestCovering_3_p4 H _ _ _ _ h
theorem ok_Mach_youngestCovering_3 {l : Launch} {a1 a2 : Int} {σ : pS} {v : Int} {σ1 : pS} (h : f_Mach_youngestCovering_3 a1 a2 σ = some (v, σ1)) : Con l 1 69 [.inr 3, .inl a1, .inl a2] σ v σ1 := Con_mk 3 4 rfl (by decide +kernel) (fun _ H => ok_Mach_youngestCovering_3_w H _ _ _ h)
