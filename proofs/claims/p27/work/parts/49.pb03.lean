theorem ok_M_isKeptBack_84_p47 {l : Launch} {rv : Int} {rσ : pS} {G : Nat → pL → List pV → pS → Prop} (H : px_R l 1 198 rv rσ G) : ∀ (n : Nat) (a1 a2 : Int) (σ : pS), f_M_isKeptBack_84_p47 n a1 a2 σ = some (rv, rσ) → G 47 [some (.inr 84), some (.inl a1), some (.inl a2)] [] σ := by
  intro n
  induction n with
  | zero =>
    intro a1 a2 σ h
    unfold f_M_isKeptBack_84_p47 at h
    cases h
  | succ n ih =>
    intro a1 a2 σ h
    unfold f_M_isKeptBack_84_p47 at h
    refine H [((1, 2, 0, 0, []), 1), ((14, 2, 98, 0, []), 3), ((2, 0, 0, 0, []), 1), ((17, 84, 88, 0, []), 3), ((1, 2, 0, 0, []), 1), ((19, 88, 20, 0, []), 1), ((0, 0, 0, 3, []), 1), ((13, 1, 92, 0, []), 3), ((2, 0, 0, 0, []), 1), ((17, 84, 87, 0, []), 3), ((1, 2, 0, 0, []), 1), ((19, 87, 20, 0, []), 1), ((2, 0, 0, 0, []), 1), ((17, 84, 87, 0, []), 3), ((1, 1, 0, 0, []), 1), ((19, 87, 20, 0, []), 1), ((13, 1, 92, 0, []), 3), ((2, 0, 0, 0, []), 1), ((17, 84, 118, 0, []), 3), ((1, 2, 0, 0, []), 1), ((19, 118, 20, 0, []), 1), ((0, 0, 0, 2, []), 1), ((13, 0, 90, 0, []), 3), ((0, 0, 0, 1, []), 1), ((12, 0, 91, 0, []), 3), ((27, 1, 0, 0, []), 1)] 47 _ _ _ (by decide +kernel) ?_
    rcases px_ite h with ⟨c4, h⟩ | ⟨c4, h⟩
    · refine And.intro (fun _ => ?_) (fun hn => absurd c4 hn)
      refine H [((0, 0, 0, 0, []), 1), ((27, 1, 0, 0, []), 1)] 98 _ _ _ (by decide +kernel) ?_
      refine And.intro (show (0 : Int) ≤ 0 ∧ (0 : Int) ≤ 1 from by decide) ?_
      exact Prod.mk.inj (Option.some.inj h)
    · refine And.intro (fun hp => absurd hp c4) (fun _ => ?_)
      obtain ⟨g5, h⟩ := px_gd h
      refine And.intro g5 ?_
      rcases px_ite h with ⟨c6, h⟩ | ⟨c6, h⟩
      · refine And.intro (fun hp => absurd c6 hp) (fun _ => ?_)
        obtain ⟨g7, h⟩ := px_gd h
        refine And.intro g7 ?_
        obtain ⟨g8, h⟩ := px_gd h
        refine And.intro g8 ?_
        rcases px_ite h with ⟨c9, h⟩ | ⟨c9, h⟩
        · refine And.intro (fun hp => absurd c9 hp) (fun _ => ?_)
          obtain ⟨g10, h⟩ := px_gd h
          refine And.intro g10 ?_
          rcases px_ite h with ⟨c11, h⟩ | ⟨c11, h⟩
          · refine And.intro (fun _ => ?_) (fun hn => absurd c11 hn)
            refine H [((0, 0, 0, 0, []), 1), ((27, 1, 0, 0, []), 1)] 90 _ _ _ (by decide +kernel) ?_
            refine And.intro (show (0 : Int) ≤ 0 ∧ (0 : Int) ≤ 1 from by decide) ?_
            exact Prod.mk.inj (Option.some.inj h)
          · refine And.intro (fun hp => absurd hp c11) (fun _ => ?_)
            refine And.intro (show (0 : Int) ≤ 1 ∧ (1 : Int) ≤ 1 from by decide) ?_
            exact Prod.mk.inj (Option.some.inj h)
        · refine And.intro (fun _ => ?_) (fun hn => absurd c9 hn)
          refine H [((5, 2, 0, (-1), []), 3), ((12, 0, 47, 0, []), 3)] 92 _ _ _ (by decide +kernel) ?_
          exact ih _ _ _ h
      · refine And.intro (fun _ => ?_) (fun hn => absurd c6 hn)
        refine H [((5, 2, 0, (-1), []), 3), ((12, 0, 47, 0, []), 3)] 92 _ _ _ (by decide +kernel) ?_
        exact ih _ _ _ h
theorem ok_M_isKeptBack_84_p31 {l : Launch} {rv : Int} {rσ : pS} {G : Nat → pL → List pV → pS → Prop} (H : px_R l 1 198 rv rσ G) : ∀ (a1 : Int) (σ : pS), f_M_isKeptBack_84_p31 a1 σ = some (rv, rσ) → G 31 [some (.inr 84), some (.inl a1), none] [] σ := by
  intro a1 σ h
  unfold f_M_isKeptBack_84_p31 at h
  refine H [((2, 0, 0, 0, []), 1), ((17, 84, 87, 0, []), 3), ((1, 1, 0, 0, []), 1), ((19, 87, 20, 0, []), 1), ((0, 0, 0, (-1), []), 1), ((13, 1, 43, 0, []), 3), ((0, 0, 0, 0, []), 1), ((27, 1, 0, 0, []), 1)] 31 _ _ _ (by decide +kernel) ?_
  obtain ⟨g2, h⟩ := px_gd h
  refine And.intro g2 ?_
  rcases px_ite h with ⟨c3, h⟩ | ⟨c3, h⟩
  · refine And.intro (fun hp => absurd c3 hp) (fun _ => ?_)
    refine And.intro (show (0 : Int) ≤ 0 ∧ (0 : Int) ≤ 1 from by decide) ?_
    exact Prod.mk.inj (Option.some.inj h)
  · refine And.intro (fun _ => ?_) (fun hn => absurd c3 hn)
    refine H [((1, 1, 0, 0, []), 1), ((0, 0, 0, 1, []), 1), ((6, 1, 0, 0, []), 1), ((3, 2, 0, 0, []), 1)] 43 _ _ _ (by decide +kernel) ?_
    exact ok_M_isKeptBack_84_p47 H _ _ _ _ h
theorem ok_M_isKeptBack_84_w {l : Launch} {rv : Int} {rσ : pS} {G : Nat → pL → List pV → pS → Prop} (H : px_R l 1 198 rv rσ G) : ∀ (a1 : Int) (σ : pS), f_M_isKeptBack_84 a1 σ = some (rv, rσ) → G 0 [some (.inr 84), some (.inl a1), none] [] σ := by
  intro a1 σ h
  unfold f_M_isKeptBack_84 at h
  refine H [((2, 0, 0, 0, []), 1), ((16, 84, 70, 0, []), 3), ((14, 0, 31, 0, []), 3), ((2, 0, 0, 0, []), 1), ((17, 84, 88, 0, []), 3), ((1, 1, 0, 0, []), 1), ((19, 88, 20, 0, []), 1), ((0, 0, 0, 2, []), 1), ((13, 1, 31, 0, []), 3), ((2, 0, 0, 0, []), 1), ((1, 1, 0, 0, []), 1), ((23, 199, 1, 1, [(0, 84)]), 3), ((14, 1, 29, 0, []), 3), ((0, 0, 0, 1, []), 1), ((12, 0, 30, 0, []), 3), ((27, 1, 0, 0, []), 1)] 0 _ _ _ (by decide +kernel) ?_
  rcases px_ite h with ⟨c1, h⟩ | ⟨c1, h⟩
  · refine And.intro (fun _ => ?_) (fun hn => absurd c1 hn)
    exact ok_M_isKeptBack_84_p31 H _ _ h
  · refine And.intro (fun hp => absurd hp c1) (fun _ => ?_)
    obtain ⟨g12, h⟩ := px_gd h
    refine And.intro g12 ?_
    rcases px_ite h with ⟨c13, h⟩ | ⟨c13, h⟩
    · refine And.intro (fun hp => absurd c13 hp) (fun _ => ?_)
      obtain ⟨⟨vq14, σq14⟩, hq14, h⟩ := px_bind h
      dsimp only at h
      refine Exists.intro 0 (Exists.intro vq14 (Exists.intro σq14 (And.intro (Nat.le_of_ble_eq_true rfl) (And.intro (ok_M_areStoresDone_84 hq14) ?_))))
      rcases px_ite h with ⟨c15, h⟩ | ⟨c15, h⟩
      · refine And.intro (fun hp => absurd c15 hp) (fun _ => ?_)
        refine And.intro (show (0 : Int) ≤ 1 ∧ (1 : Int) ≤ 1 from by decide) ?_
        exact Prod.mk.inj (Option.some.inj h)
      · refine And.intro (fun _ => ?_) (fun hn => absurd c15 hn)
        refine H [((0, 0, 0, 0, []), 1), ((27, 1, 0, 0, []), 1)] 29 _ _ _ (by decide +kernel) ?_
        refine And.intro (show (0 : Int) ≤ 0 ∧ (0 : Int) ≤ 1 from by decide) ?_
        exact Prod.mk.inj (Option.some.inj h)
    · refine And.intro (fun _ => ?_) (fun hn => absurd c13 hn)
      exact ok_M_isKeptBack_84_p31 H _ _ h
theorem ok_M_isKeptBack_84 {l : Launch} {a1 : Int} {σ : pS} {v : Int} {σ1 : pS} (h : f_M_isKeptBack_84 a1 σ = some (v, σ1)) : Con l 1 198 [.inr 84, .inl a1] σ v σ1 := Con_mk 2 3 rfl (by decide +kernel) (fun _ H => ok_M_isKeptBack_84_w H _ _ h)
theorem ok_M_delayOf_84_p2 {l : Launch} {rv : Int} {rσ : pS} {G : Nat → pL → List pV → pS → Prop} (H : px_R l 2 202 rv rσ G) : ∀ (n : Nat) (a1 a2 : Int) (σ : pS), f_M_delayOf_84_p2 n a1 a2 σ = some (rv, rσ) → G 2 [some (.inr 84), some (.inl a1), some (.inl a2), none] [] σ := by
  intro n
  induction n with
  | zero =>
    intro a1 a2 σ h
    unfold f_M_delayOf_84_p2 at h
    cases h
  | succ n ih =>
    intro a1 a2 σ h
    unfold f_M_delayOf_84_p2 at h
    refine H [((1, 2, 0, 0, []), 1), ((2, 0, 0, 0, []), 1), ((16, 84, 27, 0, []), 3), ((13, 3, 89, 0, []), 3), ((2, 0, 0, 0, []), 1), ((17, 84, 104, 0, []), 3), ((1, 2, 0, 0, []), 1), ((19, 104, 16, 0, []), 1), ((0, 0, 0, 100, []), 2), ((13, 1, 83, 0, []), 3), ((2, 0, 0, 0, []), 1), ((2, 0, 0, 0, []), 1), ((17, 84, 106, 0, []), 3), ((1, 2, 0, 0, []), 1), ((19, 106, 16, 0, []), 1), ((2, 0, 0, 0, []), 1), ((17, 84, 107, 0, []), 3), ((1, 2, 0, 0, []), 1), ((19, 107, 16, 0, []), 1), ((23, 203, 2, 1, [(0, 84)]), 3), ((0, 0, 0, 1, []), 1), ((13, 0, 44, 0, []), 3), ((12, 0, 83, 0, []), 3), ((5, 2, 0, 1, []), 3), ((12, 0, 2, 0, []), 3)] 2 _ _ _ (by decide +kernel) ?_
    rcases px_ite h with ⟨c1, h⟩ | ⟨c1, h⟩
    · refine And.intro (fun _ => ?_) (fun hn => absurd c1 hn)
      refine H [((2, 0, 0, 0, []), 1), ((17, 84, 88, 0, []), 3), ((1, 1, 0, 0, []), 1), ((19, 88, 20, 0, []), 1), ((0, 0, 0, 2, []), 1), ((13, 1, 103, 0, []), 3), ((0, 0, 0, 2, []), 1), ((12, 0, 104, 0, []), 3), ((27, 0, 0, 0, []), 1)] 89 _ _ _ (by decide +kernel) ?_
      obtain ⟨g2, h⟩ := px_gd h
      refine And.intro g2 ?_
      rcases px_ite h with ⟨c3, h⟩ | ⟨c3, h⟩
      · refine And.intro (fun hp => absurd c3 hp) (fun _ => ?_)
        exact Prod.mk.inj (Option.some.inj h)
      · refine And.intro (fun _ => ?_) (fun hn => absurd c3 hn)
        refine H [((0, 0, 0, 1, []), 1), ((27, 0, 0, 0, []), 1)] 103 _ _ _ (by decide +kernel) ?_
        exact Prod.mk.inj (Option.some.inj h)
    · refine And.intro (fun hp => absurd hp c1) (fun _ => ?_)
      obtain ⟨g4, h⟩ := px_gd h
      refine And.intro g4 ?_
      rcases px_ite h with ⟨c5, h⟩ | ⟨c5, h⟩
      · refine And.intro (fun hp => absurd c5 hp) (fun _ => ?_)
        obtain ⟨g6, h⟩ := px_gd h
        refine And.intro g6 ?_
        obtain ⟨g7, h⟩ := px_gd h
        refine And.intro g7 ?_
        obtain ⟨⟨vq8, σq8⟩, hq8, h⟩ := px_bind h
        dsimp only at h
        refine Exists.intro 1 (Exists.intro vq8 (Exists.intro σq8 (And.intro (Nat.le_of_ble_eq_true rfl) (And.intro (ok_M_reckonsTo_84 hq8) ?_))))
        rcases px_ite h with ⟨c9, h⟩ | ⟨c9, h⟩
        · refine And.intro (fun _ => ?_) (fun hn => absurd c9 hn)
          refine H [((2, 0, 0, 0, []), 1), ((2, 0, 0, 0, []), 1), ((17, 84, 105, 0, []), 3), ((1, 2, 0, 0, []), 1), ((19, 105, 16, 0, []), 1), ((2, 0, 0, 0, []), 1), ((17, 84, 106, 0, []), 3), ((1, 2, 0, 0, []), 1), ((19, 106, 16, 0, []), 1), ((23, 203, 2, 1, [(0, 84)]), 3), ((3, 3, 0, 0, []), 1), ((1, 3, 0, 0, []), 1), ((0, 0, 0, 1, []), 1), ((13, 3, 70, 0, []), 3), ((0, 0, 0, 1, []), 1), ((12, 0, 82, 0, []), 3), ((27, 0, 0, 0, []), 1)] 44 _ _ _ (by decide +kernel) ?_
          obtain ⟨g10, h⟩ := px_gd h
          refine And.intro g10 ?_
          obtain ⟨g11, h⟩ := px_gd h
          refine And.intro g11 ?_
          obtain ⟨⟨vq12, σq12⟩, hq12, h⟩ := px_bind h
          dsimp only at h
          refine Exists.intro 1 (Exists.intro vq12 (Exists.intro σq12 (And.intro (Nat.le_of_ble_eq_true rfl) (And.intro (ok_M_reckonsTo_84 hq12) ?_))))
          rcases px_ite h with ⟨c13, h⟩ | ⟨c13, h⟩
          · refine And.intro (fun _ => ?_) (fun hn => absurd c13 hn)
            refine H [((1, 3, 0, 0, []), 1), ((0, 0, 0, 20, []), 2), ((13, 5, 81, 0, []), 3), ((0, 0, 0, 20, []), 2), ((12, 0, 82, 0, []), 3), ((27, 0, 0, 0, []), 1)] 70 _ _ _ (by decide +kernel) ?_
            rcases px_ite h with ⟨c14, h⟩ | ⟨c14, h⟩
            · refine And.intro (fun _ => ?_) (fun hn => absurd c14 hn)
              refine H [((1, 3, 0, 0, []), 1), ((27, 0, 0, 0, []), 1)] 81 _ _ _ (by decide +kernel) ?_
              exact Prod.mk.inj (Option.some.inj h)
            · refine And.intro (fun hp => absurd hp c14) (fun _ => ?_)
              exact Prod.mk.inj (Option.some.inj h)
          · refine And.intro (fun hp => absurd hp c13) (fun _ => ?_)
            exact Prod.mk.inj (Option.some.inj h)
        · refine And.intro (fun hp => absurd hp c9) (fun _ => ?_)
          exact ih _ _ _ h
      · refine And.intro (fun _ => ?_) (fun hn => absurd c5 hn)
        refine H [((5, 2, 0, 1, []), 3), ((12, 0, 2, 0, []), 3)] 83 _ _ _ (by decide +kernel) ?_
        exact ih _ _ _ h
theorem ok_M_delayOf_84_w {l : Launch} {rv : Int} {rσ : pS} {G : Nat → pL → List pV → pS → Prop} (H : px_R l 2 202 rv rσ G) : ∀ (a1 : Int) (σ : pS), f_M_delayOf_84 a1 σ = some (rv, rσ) → G 0 [some (.inr 84), some (.inl a1), none, none] [] σ := by
  intro a1 σ h
  unfold f_M_delayOf_84 at h
  refine H [((0, 0, 0, 0, []), 1), ((3, 2, 0, 0, []), 1)] 0 _ _ _ (by decide +kernel) ?_
  exact ok_M_delayOf_84_p2 H _ _ _ _ h
theorem ok_M_delayOf_84 {l : Launch} {a1 : Int} {σ : pS} {v : Int} {σ1 : pS} (h : f_M_delayOf_84 a1 σ = some (v, σ1)) : Con l 2 202 [.inr 84, .inl a1] σ v σ1 := Con_mk 2 4 rfl (by decide +kernel) (fun _ H => ok_M_delayOf_84_w H _ _ h)
theorem ok_M_goesOff_84_w {l : Launch} {rv : Int} {rσ : pS} {G : Nat → pL → List pV → pS → Prop} (H : px_R l 3 200 rv rσ G) : ∀ (a1 a2 : Int) (σ : pS), f_M_goesOff_84 a1 a2 σ = some (rv, rσ) → G 0 [some (.inr 84), some (.inl a1), some (.inl a2)] [] σ := by
  intro a1 a2 σ h
  unfold f_M_goesOff_84 at h
  refine H [((2, 0, 0, 0, []), 1), ((0, 0, 0, 25173, []), 3), ((2, 0, 0, 0, []), 1), ((16, 84, 0, 0, []), 3), ((6, 2, 0, 0, []), 1), ((0, 0, 0, 13849, []), 3), ((6, 0, 0, 0, []), 1), ((0, 0, 0, 65536, []), 3), ((7, 1, 0, 0, []), 1), ((18, 84, 0, 0, []), 3), ((2, 0, 0, 0, []), 1), ((1, 1, 0, 0, []), 1), ((1, 2, 0, 0, []), 1), ((2, 0, 0, 0, []), 1), ((16, 84, 0, 0, []), 3), ((0, 0, 0, 10, []), 2), ((7, 1, 0, 0, []), 1), ((23, 201, 3, 0, [(0, 84)]), 3), ((2, 0, 0, 0, []), 1), ((17, 84, 118, 0, []), 3), ((1, 1, 0, 0, []), 1), ((0, 0, 0, 1, []), 1), ((20, 118, 20, 0, []), 1), ((2, 0, 0, 0, []), 1), ((17, 84, 119, 0, []), 3), ((1, 1, 0, 0, []), 1), ((1, 2, 0, 0, []), 1), ((2, 0, 0, 0, []), 1), ((1, 1, 0, 0, []), 1), ((23, 202, 1, 1, [(0, 84)]), 3), ((6, 0, 0, 0, []), 1), ((20, 119, 20, 0, []), 1), ((28, 0, 0, 0, []), 1)] 0 _ _ _ (by decide +kernel) ?_
  refine And.intro (show (65536 : Int) ≠ 0 from by decide) (fun r1 hr1 => ?_)
  replace hr1 : r1 = pRem (pw ((pw (25173 * (σ 84 0))) + 13849)) 65536 := hr1.trans (px_dr_1 _ _)
  try rw [← hr1] at h
  refine And.intro (show (10 : Int) ≠ 0 from by decide) (fun r2 hr2 => ?_)
  replace hr2 : r2 = pRem r1 10 := hr2.trans (px_dr_1 _ _)
  try rw [← hr2] at h
  obtain ⟨⟨vq3, σq3⟩, hq3, h⟩ := px_bind h
  dsimp only at h
  refine Exists.intro 0 (Exists.intro vq3 (Exists.intro σq3 (And.intro (Nat.le_of_ble_eq_true rfl) (And.intro (ok_M_feels_84 hq3) ?_))))
  obtain ⟨g4, h⟩ := px_gd h
  refine And.intro g4 ?_
  obtain ⟨⟨vq5, σq5⟩, hq5, h⟩ := px_bind h
  dsimp only at h
  refine Exists.intro 2 (Exists.intro vq5 (Exists.intro σq5 (And.intro (Nat.le_of_ble_eq_true rfl) (And.intro (ok_M_delayOf_84 hq5) ?_))))
  obtain ⟨g6, h⟩ := px_gd h
  refine And.intro g6 ?_
  exact (Prod.mk.inj (Option.some.inj h)).2
theorem ok_M_goesOff_84 {l : Launch} {a1 a2 : Int} {σ : pS} {v : Int} {σ1 : pS} (h : f_M_goesOff_84 a1 a2 σ = some (v, σ1)) : Con l 3 200 [.inr 84, .inl a1, .inl a2] σ v σ1 := Con_mk 3 3 rfl (by decide +kernel) (fun _ H => ok_M_goesOff_84_w H _ _ _ h)
theorem ok_M_reckoned_w {l : Launch} {rv : Int} {rσ : pS} {G : Nat → pL → List pV → pS → Prop} (H : px_R l 0 181 rv rσ G) : ∀ (a0 a1 a2 : Int) (σ : pS), f_M_reckoned a0 a1 a2 σ = some (rv, rσ) → G 0 [some (.inl a0), some (.inl a1), some (.inl a2)] [] σ := by
  intro a0 a1 a2 σ h
  unfold f_M_reckoned at h
  refine H [((1, 0, 0, 0, []), 1), ((15, 0, 72, 0, [(38, 64), (42, 60), (43, 52), (45, 56), (94, 68)]), 51)] 0 _ _ _ (by decide +kernel) ?_
  rcases px_ite h with ⟨c1, h⟩ | ⟨c1, h⟩
  · refine And.intro (fun _ => ?_) (fun hn => absurd c1 hn)
    refine H [((1, 1, 0, 0, []), 1), ((1, 2, 0, 0, []), 1), ((6, 3, 0, 0, []), 1), ((27, 0, 0, 0, []), 1)] 64 _ _ _ (by decide +kernel) ?_
    exact Prod.mk.inj (Option.some.inj h)
  · refine And.intro (fun hp => absurd hp c1) (fun _ => ?_)
    rcases px_ite h with ⟨c2, h⟩ | ⟨c2, h⟩
    · refine And.intro (fun _ => ?_) (fun hn => absurd c2 hn)
      refine H [((1, 1, 0, 0, []), 1), ((1, 2, 0, 0, []), 1), ((6, 2, 0, 0, []), 1), ((27, 0, 0, 0, []), 1)] 60 _ _ _ (by decide +kernel) ?_
      exact Prod.mk.inj (Option.some.inj h)
    · refine And.intro (fun hp => absurd hp c2) (fun _ => ?_)
      rcases px_ite h with ⟨c3, h⟩ | ⟨c3, h⟩
      · refine And.intro (fun _ => ?_) (fun hn => absurd c3 hn)
        refine H [((1, 1, 0, 0, []), 1), ((1, 2, 0, 0, []), 1), ((6, 0, 0, 0, []), 1), ((27, 0, 0, 0, []), 1)] 52 _ _ _ (by decide +kernel) ?_
        exact Prod.mk.inj (Option.some.inj h)
      · refine And.intro (fun hp => absurd hp c3) (fun _ => ?_)
        rcases px_ite h with ⟨c4, h⟩ | ⟨c4, h⟩
        · refine And.intro (fun _ => ?_) (fun hn => absurd c4 hn)
          refine H [((1, 1, 0, 0, []), 1), ((1, 2, 0, 0, []), 1), ((6, 1, 0, 0, []), 1), ((27, 0, 0, 0, []), 1)] 56 _ _ _ (by decide +kernel) ?_
          exact Prod.mk.inj (Option.some.inj h)
        · refine And.intro (fun hp => absurd hp c4) (fun _ => ?_)
          rcases px_ite h with ⟨c5, h⟩ | ⟨c5, h⟩
          · refine And.intro (fun _ => ?_) (fun hn => absurd c5 hn)
            refine H [((1, 1, 0, 0, []), 1), ((1, 2, 0, 0, []), 1), ((6, 5, 0, 0, []), 1), ((27, 0, 0, 0, []), 1)] 68 _ _ _ (by decide +kernel) ?_
            exact Prod.mk.inj (Option.some.inj h)
          · refine And.intro (fun hp => absurd hp c5) (fun _ => ?_)
            refine H [((1, 1, 0, 0, []), 1), ((1, 2, 0, 0, []), 1), ((13, 5, 81, 0, []), 3), ((0, 0, 0, 1, []), 1), ((12, 0, 82, 0, []), 3), ((27, 0, 0, 0, []), 1)] 72 _ _ _ (by decide +kernel) ?_
            rcases px_ite h with ⟨c6, h⟩ | ⟨c6, h⟩
            · refine And.intro (fun _ => ?_) (fun hn => absurd c6 hn)
              refine H [((0, 0, 0, 0, []), 1), ((27, 0, 0, 0, []), 1)] 81 _ _ _ (by decide +kernel) ?_
              exact Prod.mk.inj (Option.some.inj h)
            · refine And.intro (fun hp => absurd hp c6) (fun _ => ?_)
              exact Prod.mk.inj (Option.some.inj h)
theorem ok_M_reckoned {l : Launch} {a0 a1 a2 : Int} {σ : pS} {v : Int} {σ1 : pS} (h : f_M_reckoned a0 a1 a2 σ = some (v, σ1)) : Con l 0 181 [.inl a0, .inl a1, .inl a2] σ v σ1 := Con_mk 3 3 rfl (by decide +kernel) (fun _ H => ok_M_reckoned_w H _ _ _ _ h)
theorem ok_M_placeBy_84_w {l : Launch} {rv : Int} {rσ : pS} {G : Nat → pL → List pV → pS → Prop} (H : px_R l 3 182 rv rσ G) : ∀ (a1 : Int) (σ : pS), f_M_placeBy_84 a1 σ = some (rv, rσ) → G 0 [some (.inr 84), some (.inl a1), none] [] σ := by
  intro a1 σ h
  unfold f_M_placeBy_84 at h
  refine H [((2, 0, 0, 0, []), 1), ((17, 84, 94, 0, []), 3), ((1, 1, 0, 0, []), 1), ((19, 94, 20, 0, []), 1), ((0, 0, 0, (-1), []), 1), ((13, 1, 14, 0, []), 3), ((0, 0, 0, 0, []), 1), ((12, 0, 25, 0, []), 3), ((3, 2, 0, 0, []), 1), ((1, 2, 0, 0, []), 1), ((2, 0, 0, 0, []), 1), ((17, 84, 95, 0, []), 3), ((1, 1, 0, 0, []), 1), ((19, 95, 20, 0, []), 1), ((6, 0, 0, 0, []), 1), ((0, 0, 0, 63, []), 2), ((6, 3, 0, 0, []), 1), ((27, 0, 0, 0, []), 1)] 0 _ _ _ (by decide +kernel) ?_
  obtain ⟨g1, h⟩ := px_gd h
  refine And.intro g1 ?_
  rcases px_ite h with ⟨c2, h⟩ | ⟨c2, h⟩
  · refine And.intro (fun hp => absurd c2 hp) (fun _ => ?_)
    obtain ⟨g6, h⟩ := px_gd h
    refine And.intro g6 ?_
    exact Prod.mk.inj (Option.some.inj h)
  · refine And.intro (fun _ => ?_) (fun hn => absurd c2 hn)
    refine H [((2, 0, 0, 0, []), 1), ((1, 1, 0, 0, []), 1), ((2, 0, 0, 0, []), 1), ((17, 84, 94, 0, []), 3), ((1, 1, 0, 0, []), 1), ((19, 94, 20, 0, []), 1), ((23, 180, 2, 1, [(0, 84)]), 3), ((3, 2, 0, 0, []), 1), ((1, 2, 0, 0, []), 1), ((2, 0, 0, 0, []), 1), ((17, 84, 95, 0, []), 3), ((1, 1, 0, 0, []), 1), ((19, 95, 20, 0, []), 1), ((6, 0, 0, 0, []), 1), ((0, 0, 0, 63, []), 2), ((6, 3, 0, 0, []), 1), ((27, 0, 0, 0, []), 1)] 14 _ _ _ (by decide +kernel) ?_
    obtain ⟨g3, h⟩ := px_gd h
    refine And.intro g3 ?_
    obtain ⟨⟨vq4, σq4⟩, hq4, h⟩ := px_bind h
    dsimp only at h
    refine Exists.intro 2 (Exists.intro vq4 (Exists.intro σq4 (And.intro (Nat.le_of_ble_eq_true rfl) (And.intro (ok_M_readBy_84 hq4) ?_))))
    obtain ⟨g5, h⟩ := px_gd h
    refine And.intro g5 ?_
    exact Prod.mk.inj (Option.some.inj h)
theorem ok_M_placeBy_84 {l : Launch} {a1 : Int} {σ : pS} {v : Int} {σ1 : pS} (h : f_M_placeBy_84 a1 σ = some (v, σ1)) : Con l 3 182 [.inr 84, .inl a1] σ v σ1 := Con_mk 2 3 rfl (by decide +kernel) (fun _ H => ok_M_placeBy_84_w H _ _ h)
theorem ok_M_covers_84_w {l : Launch} {rv : Int} {rσ : pS} {G : Nat → pL → List pV → pS → Prop} (H : px_R l 0 184 rv rσ G) : ∀ (a1 a2 : Int) (σ : pS), f_M_covers_84 a1 a2 σ = some (rv, rσ) → G 0 [some (.inr 84), some (.inl a1), some (.inl a2)] [] σ := by
  intro a1 a2 σ h
  unfold f_M_covers_84 at h
  refine H [((1, 2, 0, 0, []), 1), ((2, 0, 0, 0, []), 1), ((17, 84, 121, 0, []), 3), ((1, 1, 0, 0, []), 1), ((19, 121, 20, 0, []), 1), ((6, 1, 0, 0, []), 1), ((0, 0, 0, 63, []), 2), ((6, 3, 0, 0, []), 1), ((2, 0, 0, 0, []), 1), ((17, 84, 93, 0, []), 3), ((1, 1, 0, 0, []), 1), ((19, 93, 20, 0, []), 1), ((13, 3, 24, 0, []), 3), ((0, 0, 0, 1, []), 1), ((12, 0, 25, 0, []), 3), ((27, 1, 0, 0, []), 1)] 0 _ _ _ (by decide +kernel) ?_
  obtain ⟨g1, h⟩ := px_gd h
  refine And.intro g1 ?_
  obtain ⟨g2, h⟩ := px_gd h
  refine And.intro g2 ?_
  rcases px_ite h with ⟨c3, h⟩ | ⟨c3, h⟩
  · refine And.intro (fun _ => ?_) (fun hn => absurd c3 hn)
    refine H [((0, 0, 0, 0, []), 1), ((27, 1, 0, 0, []), 1)] 24 _ _ _ (by decide +kernel) ?_
    refine And.intro (show (0 : Int) ≤ 0 ∧ (0 : Int) ≤ 1 from by decide) ?_
    exact Prod.mk.inj (Option.some.inj h)
  · refine And.intro (fun hp => absurd hp c3) (fun _ => ?_)
    refine And.intro (show (0 : Int) ≤ 1 ∧ (1 : Int) ≤ 1 from by decide) ?_
    exact Prod.mk.inj (Option.some.inj h)
theorem ok_M_covers_84 {l : Launch} {a1 a2 : Int} {σ : pS} {v : Int} {σ1 : pS} (h : f_M_covers_84 a1 a2 σ = some (v, σ1)) : Con l 0 184 [.inr 84, .inl a1, .inl a2] σ v σ1 := Con_mk 3 3 rfl (by decide +kernel) (fun _ H => ok_M_covers_84_w H _ _ _ h)
theorem ok_M_loads_84_p134 {l : Launch} {rv : Int} {rσ : pS} {G : Nat → pL → List pV → pS → Prop} (H : px_R l 1 183 rv rσ G) {k_9 : Int → Int → pS → Option (Int × pS)} (hk_9 : ∀ (a1 a2 : Int) (σ : pS), k_9 a1 a2 σ = some (rv, rσ) → G 9 [some (.inr 84), some (.inl a1), some (.inl a2), none, none, none] [] σ) : ∀ (a1 a2 s0 : Int) (σ : pS), f_M_loads_84_p134 k_9 a1 a2 s0 σ = some (rv, rσ) → G 134 [some (.inr 84), some (.inl a1), some (.inl a2), none, none, none] [.inl s0] σ := by
  intro a1 a2 s0 σ h
  unfold f_M_loads_84_p134 at h
  refine H [((3, 5, 0, 0, []), 2), ((2, 0, 0, 0, []), 1), ((17, 84, 120, 0, []), 3), ((1, 1, 0, 0, []), 1), ((2, 0, 0, 0, []), 1), ((17, 84, 120, 0, []), 3), ((1, 1, 0, 0, []), 1), ((19, 120, 20, 0, []), 1), ((1, 5, 0, 0, []), 2), ((0, 0, 0, 8, []), 2), ((1, 2, 0, 0, []), 1), ((6, 2, 0, 0, []), 1), ((6, 6, 0, 0, []), 1), ((6, 4, 0, 0, []), 1), ((20, 120, 20, 0, []), 1), ((5, 2, 0, 1, []), 3), ((12, 0, 9, 0, []), 3), ((29, 5, 0, 0, []), 0)] 134 _ _ _ (by decide +kernel) ?_
  obtain ⟨g11, h⟩ := px_gd h
  refine And.intro g11 ?_
  obtain ⟨g12, h⟩ := px_gd h
  refine And.intro g12 ?_
  exact hk_9 _ _ _ h
theorem ok_M_loads_84_p37 {l : Launch} {rv : Int} {rσ : pS} {G : Nat → pL → List pV → pS → Prop} (H : px_R l 1 183 rv rσ G) {k_9 : Int → Int → pS → Option (Int × pS)} (hk_9 : ∀ (a1 a2 : Int) (σ : pS), k_9 a1 a2 σ = some (rv, rσ) → G 9 [some (.inr 84), some (.inl a1), some (.inl a2), none, none, none] [] σ) : ∀ (n : Nat) (a1 a2 a3 a4 a5 : Int) (σ : pS), f_M_loads_84_p37 k_9 n a1 a2 a3 a4 a5 σ = some (rv, rσ) → G 37 [some (.inr 84), some (.inl a1), some (.inl a2), some (.inl a3), some (.inl a4), some (.inl a5)] [] σ := by
  intro n
  induction n with
  | zero =>
    intro a1 a2 a3 a4 a5 σ h
    unfold f_M_loads_84_p37 at h
    cases h
  | succ n ih =>
    intro a1 a2 a3 a4 a5 σ h
    unfold f_M_loads_84_p37 at h
    refine H [((1, 5, 0, 0, []), 2), ((1, 1, 0, 0, []), 1), ((13, 3, 85, 0, []), 3), ((2, 0, 0, 0, []), 1), ((17, 84, 88, 0, []), 3), ((1, 5, 0, 0, []), 2), ((19, 88, 20, 0, []), 1), ((0, 0, 0, 3, []), 1), ((13, 1, 79, 0, []), 3), ((2, 0, 0, 0, []), 1), ((17, 84, 118, 0, []), 3), ((1, 5, 0, 0, []), 2), ((19, 118, 20, 0, []), 1), ((0, 0, 0, 2, []), 1), ((13, 1, 79, 0, []), 3), ((2, 0, 0, 0, []), 1), ((1, 5, 0, 0, []), 2), ((1, 3, 0, 0, []), 1), ((23, 184, 2, 1, [(0, 84)]), 3), ((14, 0, 79, 0, []), 3), ((1, 5, 0, 0, []), 2), ((3, 4, 0, 0, []), 2), ((5, 5, 0, 1, []), 3), ((12, 0, 37, 0, []), 3)] 37 _ _ _ (by decide +kernel) ?_
    rcases px_ite h with ⟨c5, h⟩ | ⟨c5, h⟩
    · refine And.intro (fun _ => ?_) (fun hn => absurd c5 hn)
      refine H [((2, 0, 0, 0, []), 1), ((17, 84, 124, 0, []), 3), ((0, 0, 0, 4, []), 1), ((1, 1, 0, 0, []), 1), ((6, 2, 0, 0, []), 1), ((1, 2, 0, 0, []), 1), ((6, 0, 0, 0, []), 1), ((1, 4, 0, 0, []), 2), ((20, 124, 80, 0, []), 1), ((1, 4, 0, 0, []), 2), ((0, 0, 0, (-1), []), 1), ((13, 1, 112, 0, []), 3), ((2, 0, 0, 0, []), 1), ((17, 84, 127, 0, []), 3), ((1, 3, 0, 0, []), 1), ((19, 127, 64, 0, []), 1), ((12, 0, 134, 0, []), 3), ((29, 3, 0, 0, []), 0), ((29, 4, 0, 0, []), 0), ((29, 5, 0, 0, []), 0)] 85 _ _ _ (by decide +kernel) ?_
      obtain ⟨g6, h⟩ := px_gd h
      refine And.intro g6 ?_
      rcases px_ite h with ⟨c7, h⟩ | ⟨c7, h⟩
      · refine And.intro (fun hp => absurd c7 hp) (fun _ => ?_)
        obtain ⟨g13, h⟩ := px_gd h
        refine And.intro g13 ?_
        exact ok_M_loads_84_p134 H hk_9 _ _ _ _ h
      · refine And.intro (fun _ => ?_) (fun hn => absurd c7 hn)
        refine H [((2, 0, 0, 0, []), 1), ((17, 84, 120, 0, []), 3), ((1, 4, 0, 0, []), 2), ((19, 120, 20, 0, []), 1), ((1, 3, 0, 0, []), 1), ((2, 0, 0, 0, []), 1), ((17, 84, 121, 0, []), 3), ((1, 4, 0, 0, []), 2), ((19, 121, 20, 0, []), 1), ((6, 1, 0, 0, []), 1), ((0, 0, 0, 63, []), 2), ((6, 3, 0, 0, []), 1), ((24, 185, 2, 1, []), 3), ((29, 3, 0, 0, []), 0), ((29, 4, 0, 0, []), 0), ((29, 5, 0, 0, []), 0)] 112 _ _ _ (by decide +kernel) ?_
        obtain ⟨g8, h⟩ := px_gd h
        refine And.intro g8 ?_
        obtain ⟨g9, h⟩ := px_gd h
        refine And.intro g9 ?_
        obtain ⟨⟨vq10, σq10⟩, hq10, h⟩ := px_bind h
        dsimp only at h
        refine Exists.intro 0 (Exists.intro vq10 (Exists.intro σq10 (And.intro (Nat.le_of_ble_eq_true rfl) (And.intro (ok_M_byteOf hq10) ?_))))
        exact ok_M_loads_84_p134 H hk_9 _ _ _ _ h
    · refine And.intro (fun hp => absurd hp c5) (fun _ => ?_)
      obtain ⟨g14, h⟩ := px_gd h
      refine And.intro g14 ?_
      rcases px_ite h with ⟨c15, h⟩ | ⟨c15, h⟩
      · refine And.intro (fun hp => absurd c15 hp) (fun _ => ?_)
        obtain ⟨g16, h⟩ := px_gd h
        refine And.intro g16 ?_
        rcases px_ite h with ⟨c17, h⟩ | ⟨c17, h⟩
        · refine And.intro (fun hp => absurd c17 hp) (fun _ => ?_)
          obtain ⟨⟨vq18, σq18⟩, hq18, h⟩ := px_bind h
          dsimp only at h
          refine Exists.intro 0 (Exists.intro vq18 (Exists.intro σq18 (And.intro (Nat.le_of_ble_eq_true rfl) (And.intro (ok_M_covers_84 hq18) ?_))))
          rcases px_ite h with ⟨c19, h⟩ | ⟨c19, h⟩
          · refine And.intro (fun _ => ?_) (fun hn => absurd c19 hn)
            refine H [((5, 5, 0, 1, []), 3), ((12, 0, 37, 0, []), 3)] 79 _ _ _ (by decide +kernel) ?_
            exact ih _ _ _ _ _ _ h
          · refine And.intro (fun hp => absurd hp c19) (fun _ => ?_)
            exact ih _ _ _ _ _ _ h
        · refine And.intro (fun _ => ?_) (fun hn => absurd c17 hn)
          refine H [((5, 5, 0, 1, []), 3), ((12, 0, 37, 0, []), 3)] 79 _ _ _ (by decide +kernel) ?_
          exact ih _ _ _ _ _ _ h
      · refine And.intro (fun _ => ?_) (fun hn => absurd c15 hn)
        refine H [((5, 5, 0, 1, []), 3), ((12, 0, 37, 0, []), 3)] 79 _ _ _ (by decide +kernel) ?_
        exact ih _ _ _ _ _ _ h
theorem ok_M_loads_84_p9 {l : Launch} {rv : Int} {rσ : pS} {G : Nat → pL → List pV → pS → Prop} (H : px_R l 1 183 rv rσ G) : ∀ (n : Nat) (a1 a2 : Int) (σ : pS), f_M_loads_84_p9 n a1 a2 σ = some (rv, rσ) → G 9 [some (.inr 84), some (.inl a1), some (.inl a2), none, none, none] [] σ := by
  intro n
  induction n with
  | zero =>
    intro a1 a2 σ h
    unfold f_M_loads_84_p9 at h
    cases h
  | succ n ih =>
    intro a1 a2 σ h
    unfold f_M_loads_84_p9 at h
    refine H [((1, 2, 0, 0, []), 1), ((2, 0, 0, 0, []), 1), ((17, 84, 93, 0, []), 3), ((1, 1, 0, 0, []), 1), ((19, 93, 20, 0, []), 1), ((13, 3, 162, 0, []), 3), ((2, 0, 0, 0, []), 1), ((17, 84, 121, 0, []), 3), ((1, 1, 0, 0, []), 1), ((19, 121, 20, 0, []), 1), ((1, 2, 0, 0, []), 1), ((6, 0, 0, 0, []), 1), ((0, 0, 0, 63, []), 2), ((6, 3, 0, 0, []), 1), ((3, 3, 0, 0, []), 1), ((0, 0, 0, (-1), []), 1), ((3, 4, 0, 0, []), 2), ((0, 0, 0, 0, []), 1), ((3, 5, 0, 0, []), 2)] 9 _ _ _ (by decide +kernel) ?_
    obtain ⟨g2, h⟩ := px_gd h
    refine And.intro g2 ?_
    rcases px_ite h with ⟨c3, h⟩ | ⟨c3, h⟩
    · refine And.intro (fun _ => ?_) (fun hn => absurd c3 hn)
      refine H [((28, 0, 0, 0, []), 1)] 162 _ _ _ (by decide +kernel) ?_
      exact (Prod.mk.inj (Option.some.inj h)).2
    · refine And.intro (fun hp => absurd hp c3) (fun _ => ?_)
      obtain ⟨g4, h⟩ := px_gd h
      refine And.intro g4 ?_
      exact ok_M_loads_84_p37 H ih _ _ _ _ _ _ _ h
theorem ok_M_loads_84_w {l : Launch} {rv : Int} {rσ : pS} {G : Nat → pL → List pV → pS → Prop} (H : px_R l 1 183 rv rσ G) : ∀ (a1 : Int) (σ : pS), f_M_loads_84 a1 σ = some (rv, rσ) → G 0 [some (.inr 84), some (.inl a1), none, none, none, none] [] σ := by
  intro a1 σ h
  unfold f_M_loads_84 at h
  refine H [((2, 0, 0, 0, []), 1), ((17, 84, 120, 0, []), 3), ((1, 1, 0, 0, []), 1), ((0, 0, 0, 0, []), 1), ((20, 120, 20, 0, []), 1), ((0, 0, 0, 0, []), 1), ((3, 2, 0, 0, []), 1)] 0 _ _ _ (by decide +kernel) ?_
  obtain ⟨g1, h⟩ := px_gd h
  refine And.intro g1 ?_
  exact ok_M_loads_84_p9 H _ _ _ _ h
theorem ok_M_loads_84 {l : Launch} {a1 : Int} {σ : pS} {v : Int} {σ1 : pS} (h : f_M_loads_84 a1 σ = some (v, σ1)) : Con l 1 183 [.inr 84, .inl a1] σ v σ1 := Con_mk 2 6 rfl (by decide +kernel) (fun _ H => ok_M_loads_84_w H _ _ h)
theorem ok_M_cut_w {l : Launch} {rv : Int} {rσ : pS} {G : Nat → pL → List pV → pS → Prop} (H : px_R l 0 186 rv rσ G) : ∀ (a0 a1 : Int) (σ : pS), f_M_cut a0 a1 σ = some (rv, rσ) → G 0 [some (.inl a0), some (.inl a1)] [] σ := by
  intro a0 a1 σ h
  unfold f_M_cut at h
  refine H [((1, 1, 0, 0, []), 1), ((0, 0, 0, 1, []), 1), ((13, 1, 13, 0, []), 3), ((1, 0, 0, 0, []), 1), ((0, 0, 0, 255, []), 3), ((6, 3, 0, 0, []), 1), ((12, 0, 27, 0, []), 3), ((27, 0, 0, 0, []), 1)] 0 _ _ _ (by decide +kernel) ?_
  rcases px_ite h with ⟨c1, h⟩ | ⟨c1, h⟩
  · refine And.intro (fun hp => absurd c1 hp) (fun _ => ?_)
    exact Prod.mk.inj (Option.some.inj h)
  · refine And.intro (fun _ => ?_) (fun hn => absurd c1 hn)
    refine H [((1, 1, 0, 0, []), 1), ((0, 0, 0, 2, []), 1), ((13, 1, 26, 0, []), 3), ((1, 0, 0, 0, []), 1), ((0, 0, 0, 65535, []), 3), ((6, 3, 0, 0, []), 1), ((12, 0, 27, 0, []), 3), ((27, 0, 0, 0, []), 1)] 13 _ _ _ (by decide +kernel) ?_
    rcases px_ite h with ⟨c2, h⟩ | ⟨c2, h⟩
    · refine And.intro (fun hp => absurd c2 hp) (fun _ => ?_)
      exact Prod.mk.inj (Option.some.inj h)
    · refine And.intro (fun _ => ?_) (fun hn => absurd c2 hn)
      refine H [((1, 0, 0, 0, []), 1), ((27, 0, 0, 0, []), 1)] 26 _ _ _ (by decide +kernel) ?_
      exact Prod.mk.inj (Option.some.inj h)
theorem ok_M_cut {l : Launch} {a0 a1 : Int} {σ : pS} {v : Int} {σ1 : pS} (h : f_M_cut a0 a1 σ = some (v, σ1)) : Con l 0 186 [.inl a0, .inl a1] σ v σ1 := Con_mk 2 2 rfl (by decide +kernel) (fun _ H => ok_M_cut_w H _ _ _ h)
theorem ok_M_lists_84_w {l : Launch} {rv : Int} {rσ : pS} {G : Nat → pL → List pV → pS → Prop} (H : px_R l 0 192 rv rσ G) : ∀ (a1 : Int) (σ : pS), f_M_lists_84 a1 σ = some (rv, rσ) → G 0 [some (.inr 84), some (.inl a1)] [] σ := by
  intro a1 σ h
  unfold f_M_lists_84 at h
  refine H [((2, 0, 0, 0, []), 1), ((17, 84, 131, 0, []), 3), ((2, 0, 0, 0, []), 1), ((16, 84, 72, 0, []), 3), ((1, 1, 0, 0, []), 1), ((20, 131, 400, 0, []), 1), ((2, 0, 0, 0, []), 1), ((2, 0, 0, 0, []), 1), ((16, 84, 72, 0, []), 3), ((0, 0, 0, 1, []), 1), ((6, 0, 0, 0, []), 1), ((18, 84, 72, 0, []), 3), ((28, 0, 0, 0, []), 1)] 0 _ _ _ (by decide +kernel) ?_
  obtain ⟨g1, h⟩ := px_gd h
  refine And.intro g1 ?_
  exact (Prod.mk.inj (Option.some.inj h)).2
theorem ok_M_lists_84 {l : Launch} {a1 : Int} {σ : pS} {v : Int} {σ1 : pS} (h : f_M_lists_84 a1 σ = some (v, σ1)) : Con l 0 192 [.inr 84, .inl a1] σ v σ1 := Con_mk 2 2 rfl (by decide +kernel) (fun _ H => ok_M_lists_84_w H _ _ h)
theorem ok_M_tookFrom_84_p2 {l : Launch} {rv : Int} {rσ : pS} {G : Nat → pL → List pV → pS → Prop} (H : px_R l 0 194 rv rσ G) : ∀ (n : Nat) (a1 a2 a3 : Int) (σ : pS), f_M_tookFrom_84_p2 n a1 a2 a3 σ = some (rv, rσ) → G 2 [some (.inr 84), some (.inl a1), some (.inl a2), some (.inl a3)] [] σ := by
  intro n
  induction n with
  | zero =>
    intro a1 a2 a3 σ h
    unfold f_M_tookFrom_84_p2 at h
    cases h
  | succ n ih =>
    intro a1 a2 a3 σ h
    unfold f_M_tookFrom_84_p2 at h
    refine H [((1, 3, 0, 0, []), 1), ((2, 0, 0, 0, []), 1), ((17, 84, 93, 0, []), 3), ((1, 1, 0, 0, []), 1), ((19, 93, 20, 0, []), 1), ((13, 3, 34, 0, []), 3), ((2, 0, 0, 0, []), 1), ((17, 84, 124, 0, []), 3), ((0, 0, 0, 4, []), 1), ((1, 1, 0, 0, []), 1), ((6, 2, 0, 0, []), 1), ((1, 3, 0, 0, []), 1), ((6, 0, 0, 0, []), 1), ((19, 124, 80, 0, []), 1), ((1, 2, 0, 0, []), 1), ((13, 1, 28, 0, []), 3), ((0, 0, 0, 1, []), 1), ((27, 1, 0, 0, []), 1)] 2 _ _ _ (by decide +kernel) ?_
    obtain ⟨g1, h⟩ := px_gd h
    refine And.intro g1 ?_
    rcases px_ite h with ⟨c2, h⟩ | ⟨c2, h⟩
    · refine And.intro (fun _ => ?_) (fun hn => absurd c2 hn)
      refine H [((0, 0, 0, 0, []), 1), ((27, 1, 0, 0, []), 1)] 34 _ _ _ (by decide +kernel) ?_
      refine And.intro (show (0 : Int) ≤ 0 ∧ (0 : Int) ≤ 1 from by decide) ?_
      exact Prod.mk.inj (Option.some.inj h)
    · refine And.intro (fun hp => absurd hp c2) (fun _ => ?_)
      obtain ⟨g3, h⟩ := px_gd h
      refine And.intro g3 ?_
      rcases px_ite h with ⟨c4, h⟩ | ⟨c4, h⟩
      · refine And.intro (fun hp => absurd c4 hp) (fun _ => ?_)
        refine And.intro (show (0 : Int) ≤ 1 ∧ (1 : Int) ≤ 1 from by decide) ?_
        exact Prod.mk.inj (Option.some.inj h)
      · refine And.intro (fun _ => ?_) (fun hn => absurd c4 hn)
        refine H [((5, 3, 0, 1, []), 3), ((12, 0, 2, 0, []), 3)] 28 _ _ _ (by decide +kernel) ?_
        exact ih _ _ _ _ h
theorem ok_M_tookFrom_84_w {l : Launch} {rv : Int} {rσ : pS} {G : Nat → pL → List pV → pS → Prop} (H : px_R l 0 194 rv rσ G) : ∀ (a1 a2 : Int) (σ : pS), f_M_tookFrom_84 a1 a2 σ = some (rv, rσ) → G 0 [some (.inr 84), some (.inl a1), some (.inl a2), none] [] σ := by
  intro a1 a2 σ h
  unfold f_M_tookFrom_84 at h
  refine H [((0, 0, 0, 0, []), 1), ((3, 3, 0, 0, []), 1)] 0 _ _ _ (by decide +kernel) ?_
  exact ok_M_tookFrom_84_p2 H _ _ _ _ _ h
theorem ok_M_tookFrom_84 {l : Launch} {a1 a2 : Int} {σ : pS} {v : Int} {σ1 : pS} (h : f_M_tookFrom_84 a1 a2 σ = some (v, σ1)) : Con l 0 194 [.inr 84, .inl a1, .inl a2] σ v σ1 := Con_mk 3 4 rfl (by decide +kernel) (fun _ H => ok_M_tookFrom_84_w H _ _ _ h)
theorem ok_M_listsThoseBy_84_p92 {l : Launch} {rv : Int} {rσ : pS} {G : Nat → pL → List pV → pS → Prop} (H : px_R l 3 193 rv rσ G) {k_4 : Int → Int → pS → Option (Int × pS)} (hk_4 : ∀ (a1 a2 : Int) (σ : pS), k_4 a1 a2 σ = some (rv, rσ) → G 4 [some (.inr 84), some (.inl a1), some (.inl a2), none] [] σ) : ∀ (a1 a2 : Int) (σ : pS), f_M_listsThoseBy_84_p92 k_4 a1 a2 σ = some (rv, rσ) → G 92 [some (.inr 84), some (.inl a1), some (.inl a2), none] [] σ := by
  intro a1 a2 σ h
  unfold f_M_listsThoseBy_84_p92 at h
  refine H [((2, 0, 0, 0, []), 1), ((1, 2, 0, 0, []), 1), ((23, 192, 1, 0, [(0, 84)]), 3), ((5, 2, 0, 1, []), 3), ((12, 0, 4, 0, []), 3)] 92 _ _ _ (by decide +kernel) ?_
  obtain ⟨⟨vq7, σq7⟩, hq7, h⟩ := px_bind h
  dsimp only at h
  refine Exists.intro 0 (Exists.intro vq7 (Exists.intro σq7 (And.intro (Nat.le_of_ble_eq_true rfl) (And.intro (ok_M_lists_84 hq7) ?_))))
  exact hk_4 _ _ _ h
theorem ok_M_listsThoseBy_84_p68 {l : Launch} {rv : Int} {rσ : pS} {G : Nat → pL → List pV → pS → Prop} (H : px_R l 3 193 rv rσ G) {k_4 : Int → Int → pS → Option (Int × pS)} (hk_4 : ∀ (a1 a2 : Int) (σ : pS), k_4 a1 a2 σ = some (rv, rσ) → G 4 [some (.inr 84), some (.inl a1), some (.inl a2), none] [] σ) : ∀ (a1 a2 s0 : Int) (σ : pS), f_M_listsThoseBy_84_p68 k_4 a1 a2 s0 σ = some (rv, rσ) → G 68 [some (.inr 84), some (.inl a1), some (.inl a2), none] [.inl s0] σ := by
  intro a1 a2 s0 σ h
  unfold f_M_listsThoseBy_84_p68 at h
  refine H [((3, 3, 0, 0, []), 1), ((1, 3, 0, 0, []), 1), ((14, 1, 92, 0, []), 3), ((2, 0, 0, 0, []), 1), ((17, 84, 88, 0, []), 3), ((1, 1, 0, 0, []), 1), ((19, 88, 20, 0, []), 1), ((0, 0, 0, 3, []), 1), ((13, 0, 97, 0, []), 3), ((2, 0, 0, 0, []), 1), ((1, 2, 0, 0, []), 1), ((1, 1, 0, 0, []), 1), ((23, 195, 2, 1, [(0, 84)]), 3), ((14, 0, 97, 0, []), 3), ((29, 3, 0, 0, []), 0)] 68 _ _ _ (by decide +kernel) ?_
  rcases px_ite h with ⟨c6, h⟩ | ⟨c6, h⟩
  · refine And.intro (fun hp => absurd c6 hp) (fun _ => ?_)
    obtain ⟨g8, h⟩ := px_gd h
    refine And.intro g8 ?_
    rcases px_ite h with ⟨c9, h⟩ | ⟨c9, h⟩
    · refine And.intro (fun _ => ?_) (fun hn => absurd c9 hn)
      refine H [((5, 2, 0, 1, []), 3), ((12, 0, 4, 0, []), 3), ((29, 3, 0, 0, []), 0)] 97 _ _ _ (by decide +kernel) ?_
      exact hk_4 _ _ _ h
    · refine And.intro (fun hp => absurd hp c9) (fun _ => ?_)
      obtain ⟨⟨vq10, σq10⟩, hq10, h⟩ := px_bind h
      dsimp only at h
      refine Exists.intro 2 (Exists.intro vq10 (Exists.intro σq10 (And.intro (Nat.le_of_ble_eq_true rfl) (And.intro (ok_M_hasSource_84 hq10) ?_))))
      rcases px_ite h with ⟨c11, h⟩ | ⟨c11, h⟩
      · refine And.intro (fun _ => ?_) (fun hn => absurd c11 hn)
        refine H [((5, 2, 0, 1, []), 3), ((12, 0, 4, 0, []), 3), ((29, 3, 0, 0, []), 0)] 97 _ _ _ (by decide +kernel) ?_
        exact hk_4 _ _ _ h
      · refine And.intro (fun hp => absurd hp c11) (fun _ => ?_)
        exact ok_M_listsThoseBy_84_p92 H hk_4 _ _ _ h
  · refine And.intro (fun _ => ?_) (fun hn => absurd c6 hn)
    refine H [((29, 3, 0, 0, []), 0)] 92 _ _ _ (by decide +kernel) ?_
    exact ok_M_listsThoseBy_84_p92 H hk_4 _ _ _ h
theorem ok_M_listsThoseBy_84_p67 {l : Launch} {rv : Int} {rσ : pS} {G : Nat → pL → List pV → pS → Prop} (H : px_R l 3 193 rv rσ G) {k_4 : Int → Int → pS → Option (Int × pS)} (hk_4 : ∀ (a1 a2 : Int) (σ : pS), k_4 a1 a2 σ = some (rv, rσ) → G 4 [some (.inr 84), some (.inl a1), some (.inl a2), none] [] σ) : ∀ (a1 a2 : Int) (σ : pS), f_M_listsThoseBy_84_p67 k_4 a1 a2 σ = some (rv, rσ) → G 67 [some (.inr 84), some (.inl a1), some (.inl a2), none] [] σ := by
  intro a1 a2 σ h
  unfold f_M_listsThoseBy_84_p67 at h
  refine H [((0, 0, 0, 0, []), 1)] 67 _ _ _ (by decide +kernel) ?_
  exact ok_M_listsThoseBy_84_p68 H hk_4 _ _ _ _ h
theorem ok_M_listsThoseBy_84_p4 {l : Launch} {rv : Int} {rσ : pS} {G : Nat → pL → List pV → pS → Prop} (H : px_R l 3 193 rv rσ G) : ∀ (n : Nat) (a1 a2 : Int) (σ : pS), f_M_listsThoseBy_84_p4 n a1 a2 σ = some (rv, rσ) → G 4 [some (.inr 84), some (.inl a1), some (.inl a2), none] [] σ := by
  intro n
  induction n with
  | zero =>
    intro a1 a2 σ h
    unfold f_M_listsThoseBy_84_p4 at h
    cases h
  | succ n ih =>
    intro a1 a2 σ h
    unfold f_M_listsThoseBy_84_p4 at h
    refine H [((1, 2, 0, 0, []), 1), ((2, 0, 0, 0, []), 1), ((16, 84, 2, 0, []), 3), ((13, 3, 103, 0, []), 3), ((2, 0, 0, 0, []), 1), ((17, 84, 118, 0, []), 3), ((1, 2, 0, 0, []), 1), ((19, 118, 20, 0, []), 1), ((14, 1, 24, 0, []), 3), ((12, 0, 97, 0, []), 3), ((5, 2, 0, 1, []), 3), ((12, 0, 4, 0, []), 3)] 4 _ _ _ (by decide +kernel) ?_
    rcases px_ite h with ⟨c1, h⟩ | ⟨c1, h⟩
    · refine And.intro (fun _ => ?_) (fun hn => absurd c1 hn)
      refine H [((28, 0, 0, 0, []), 1)] 103 _ _ _ (by decide +kernel) ?_
      exact (Prod.mk.inj (Option.some.inj h)).2
    · refine And.intro (fun hp => absurd hp c1) (fun _ => ?_)
      obtain ⟨g2, h⟩ := px_gd h
      refine And.intro g2 ?_
      rcases px_ite h with ⟨c3, h⟩ | ⟨c3, h⟩
      · refine And.intro (fun hp => absurd c3 hp) (fun _ => ?_)
        exact ih _ _ _ h
      · refine And.intro (fun _ => ?_) (fun hn => absurd c3 hn)
        refine H [((2, 0, 0, 0, []), 1), ((17, 84, 88, 0, []), 3), ((1, 1, 0, 0, []), 1), ((19, 88, 20, 0, []), 1), ((0, 0, 0, 3, []), 1), ((13, 1, 67, 0, []), 3), ((2, 0, 0, 0, []), 1), ((17, 84, 88, 0, []), 3), ((1, 2, 0, 0, []), 1), ((19, 88, 20, 0, []), 1), ((0, 0, 0, 2, []), 1), ((13, 1, 67, 0, []), 3), ((2, 0, 0, 0, []), 1), ((17, 84, 118, 0, []), 3), ((1, 2, 0, 0, []), 1), ((19, 118, 20, 0, []), 1), ((0, 0, 0, 2, []), 1), ((13, 1, 67, 0, []), 3), ((2, 0, 0, 0, []), 1), ((1, 2, 0, 0, []), 1), ((1, 1, 0, 0, []), 1), ((23, 194, 2, 1, [(0, 84)]), 3), ((14, 0, 67, 0, []), 3), ((0, 0, 0, 1, []), 1), ((12, 0, 68, 0, []), 3)] 24 _ _ _ (by decide +kernel) ?_
        obtain ⟨g4, h⟩ := px_gd h
        refine And.intro g4 ?_
        rcases px_ite h with ⟨c5, h⟩ | ⟨c5, h⟩
        · refine And.intro (fun hp => absurd c5 hp) (fun _ => ?_)
          obtain ⟨g12, h⟩ := px_gd h
          refine And.intro g12 ?_
          rcases px_ite h with ⟨c13, h⟩ | ⟨c13, h⟩
          · refine And.intro (fun hp => absurd c13 hp) (fun _ => ?_)
            obtain ⟨g14, h⟩ := px_gd h
            refine And.intro g14 ?_
            rcases px_ite h with ⟨c15, h⟩ | ⟨c15, h⟩
            · refine And.intro (fun hp => absurd c15 hp) (fun _ => ?_)
              obtain ⟨⟨vq16, σq16⟩, hq16, h⟩ := px_bind h
              dsimp only at h
              refine Exists.intro 0 (Exists.intro vq16 (Exists.intro σq16 (And.intro (Nat.le_of_ble_eq_true rfl) (And.intro (ok_M_tookFrom_84 hq16) ?_))))
              rcases px_ite h with ⟨c17, h⟩ | ⟨c17, h⟩
              · refine And.intro (fun _ => ?_) (fun hn => absurd c17 hn)
                exact ok_M_listsThoseBy_84_p67 H ih _ _ _ h
              · refine And.intro (fun hp => absurd hp c17) (fun _ => ?_)
                exact ok_M_listsThoseBy_84_p68 H ih _ _ _ _ h
            · refine And.intro (fun _ => ?_) (fun hn => absurd c15 hn)
              exact ok_M_listsThoseBy_84_p67 H ih _ _ _ h
          · refine And.intro (fun _ => ?_) (fun hn => absurd c13 hn)
            exact ok_M_listsThoseBy_84_p67 H ih _ _ _ h
        · refine And.intro (fun _ => ?_) (fun hn => absurd c5 hn)
          exact ok_M_listsThoseBy_84_p67 H ih _ _ _ h
theorem ok_M_listsThoseBy_84_w {l : Launch} {rv : Int} {rσ : pS} {G : Nat → pL → List pV → pS → Prop} (H : px_R l 3 193 rv rσ G) : ∀ (a1 : Int) (σ : pS), f_M_listsThoseBy_84 a1 σ = some (rv, rσ) → G 0 [some (.inr 84), some (.inl a1), none, none] [] σ := by
  intro a1 σ h
  unfold f_M_listsThoseBy_84 at h
  refine H [((1, 1, 0, 0, []), 1), ((0, 0, 0, 1, []), 1), ((6, 0, 0, 0, []), 1), ((3, 2, 0, 0, []), 1)] 0 _ _ _ (by decide +kernel) ?_
  exact ok_M_listsThoseBy_84_p4 H _ _ _ _ h
theorem ok_M_listsThoseBy_84 {l : Launch} {a1 : Int} {σ : pS} {v : Int} {σ1 : pS} (h : f_M_listsThoseBy_84 a1 σ = some (v, σ1)) : Con l 3 193 [.inr 84, .inl a1] σ v σ1 := Con_mk 2 4 rfl (by decide +kernel) (fun _ H => ok_M_listsThoseBy_84_w H _ _ h)
theorem ok_M_replaysAll_84_p12 {l : Launch} {rv : Int} {rσ : pS} {G : Nat → pL → List pV → pS → Prop} (H : px_R l 4 191 rv rσ G) : ∀ (n : Nat) (a2 : Int) (σ : pS), f_M_replaysAll_84_p12 n a2 σ = some (rv, rσ) → G 12 [some (.inr 84), none, some (.inl a2), none] [] σ := by
  intro n
  induction n with
  | zero =>
    intro a2 σ h
    unfold f_M_replaysAll_84_p12 at h
    cases h
  | succ n ih =>
    intro a2 σ h
    unfold f_M_replaysAll_84_p12 at h
    refine H [((1, 2, 0, 0, []), 1), ((2, 0, 0, 0, []), 1), ((16, 84, 72, 0, []), 3), ((13, 3, 105, 0, []), 3), ((2, 0, 0, 0, []), 1), ((17, 84, 131, 0, []), 3), ((1, 2, 0, 0, []), 1), ((19, 131, 400, 0, []), 1), ((3, 3, 0, 0, []), 1), ((2, 0, 0, 0, []), 1), ((17, 84, 118, 0, []), 3), ((1, 3, 0, 0, []), 1), ((19, 118, 20, 0, []), 1), ((14, 1, 39, 0, []), 3), ((12, 0, 99, 0, []), 3), ((5, 2, 0, 1, []), 3), ((12, 0, 12, 0, []), 3), ((29, 3, 0, 0, []), 0)] 12 _ _ _ (by decide +kernel) ?_
    rcases px_ite h with ⟨c2, h⟩ | ⟨c2, h⟩
    · refine And.intro (fun _ => ?_) (fun hn => absurd c2 hn)
      refine H [((28, 0, 0, 0, []), 1)] 105 _ _ _ (by decide +kernel) ?_
      exact (Prod.mk.inj (Option.some.inj h)).2
    · refine And.intro (fun hp => absurd hp c2) (fun _ => ?_)
      obtain ⟨g3, h⟩ := px_gd h
      refine And.intro g3 ?_
      obtain ⟨g4, h⟩ := px_gd h
      refine And.intro g4 ?_
      rcases px_ite h with ⟨c5, h⟩ | ⟨c5, h⟩
      · refine And.intro (fun hp => absurd c5 hp) (fun _ => ?_)
        exact ih _ _ h
      · refine And.intro (fun _ => ?_) (fun hn => absurd c5 hn)
        refine H [((2, 0, 0, 0, []), 1), ((1, 3, 0, 0, []), 1), ((23, 193, 1, 0, [(0, 84)]), 3), ((2, 0, 0, 0, []), 1), ((17, 84, 118, 0, []), 3), ((1, 3, 0, 0, []), 1), ((0, 0, 0, 0, []), 1), ((20, 118, 20, 0, []), 1), ((2, 0, 0, 0, []), 1), ((17, 84, 123, 0, []), 3), ((1, 3, 0, 0, []), 1), ((2, 0, 0, 0, []), 1), ((17, 84, 123, 0, []), 3), ((1, 3, 0, 0, []), 1), ((19, 123, 20, 0, []), 1), ((0, 0, 0, 1, []), 1), ((6, 0, 0, 0, []), 1), ((20, 123, 20, 0, []), 1), ((2, 0, 0, 0, []), 1), ((2, 0, 0, 0, []), 1), ((16, 84, 65, 0, []), 3), ((0, 0, 0, 1, []), 1), ((6, 0, 0, 0, []), 1), ((18, 84, 65, 0, []), 3), ((2, 0, 0, 0, []), 1), ((17, 84, 88, 0, []), 3), ((1, 3, 0, 0, []), 1), ((19, 88, 20, 0, []), 1), ((0, 0, 0, 3, []), 1), ((13, 1, 99, 0, []), 3), ((2, 0, 0, 0, []), 1), ((17, 84, 126, 0, []), 3), ((1, 3, 0, 0, []), 1), ((19, 126, 20, 0, []), 1), ((14, 0, 99, 0, []), 3), ((2, 0, 0, 0, []), 1), ((1, 3, 0, 0, []), 1), ((23, 196, 1, 0, [(0, 84)]), 3), ((5, 2, 0, 1, []), 3), ((12, 0, 12, 0, []), 3), ((29, 3, 0, 0, []), 0)] 39 _ _ _ (by decide +kernel) ?_
        obtain ⟨⟨vq6, σq6⟩, hq6, h⟩ := px_bind h
        dsimp only at h
        refine Exists.intro 3 (Exists.intro vq6 (Exists.intro σq6 (And.intro (Nat.le_of_ble_eq_true rfl) (And.intro (ok_M_listsThoseBy_84 hq6) ?_))))
        obtain ⟨g7, h⟩ := px_gd h
        refine And.intro g7 ?_
        obtain ⟨g8, h⟩ := px_gd h
        refine And.intro g8 ?_
        obtain ⟨g9, h⟩ := px_gd h
        refine And.intro g9 ?_
        obtain ⟨g10, h⟩ := px_gd h
        refine And.intro g10 ?_
        rcases px_ite h with ⟨c11, h⟩ | ⟨c11, h⟩
        · refine And.intro (fun hp => absurd c11 hp) (fun _ => ?_)
          obtain ⟨g12, h⟩ := px_gd h
          refine And.intro g12 ?_
          rcases px_ite h with ⟨c13, h⟩ | ⟨c13, h⟩
          · refine And.intro (fun _ => ?_) (fun hn => absurd c13 hn)
            refine H [((5, 2, 0, 1, []), 3), ((12, 0, 12, 0, []), 3), ((29, 3, 0, 0, []), 0)] 99 _ _ _ (by decide +kernel) ?_
            exact ih _ _ h
          · refine And.intro (fun hp => absurd hp c13) (fun _ => ?_)
            obtain ⟨⟨vq14, σq14⟩, hq14, h⟩ := px_bind h
            dsimp only at h
            refine Exists.intro 0 (Exists.intro vq14 (Exists.intro σq14 (And.intro (Nat.le_of_ble_eq_true rfl) (And.intro (ok_M_undoesTo_84 hq14) ?_))))
            exact ih _ _ h
        · refine And.intro (fun _ => ?_) (fun hn => absurd c11 hn)
          refine H [((5, 2, 0, 1, []), 3), ((12, 0, 12, 0, []), 3), ((29, 3, 0, 0, []), 0)] 99 _ _ _ (by decide +kernel) ?_
          exact ih _ _ h
theorem ok_M_replaysAll_84_w {l : Launch} {rv : Int} {rσ : pS} {G : Nat → pL → List pV → pS → Prop} (H : px_R l 4 191 rv rσ G) : ∀ (a1 : Int) (σ : pS), f_M_replaysAll_84 a1 σ = some (rv, rσ) → G 0 [some (.inr 84), some (.inl a1), none, none] [] σ := by
  intro a1 σ h
  unfold f_M_replaysAll_84 at h
  refine H [((2, 0, 0, 0, []), 1), ((0, 0, 0, 0, []), 1), ((18, 84, 72, 0, []), 3), ((2, 0, 0, 0, []), 1), ((1, 1, 0, 0, []), 1), ((23, 192, 1, 0, [(0, 84)]), 3), ((0, 0, 0, 0, []), 1), ((3, 2, 0, 0, []), 1), ((29, 1, 0, 0, []), 0)] 0 _ _ _ (by decide +kernel) ?_
  obtain ⟨⟨vq1, σq1⟩, hq1, h⟩ := px_bind h
  dsimp only at h
  refine Exists.intro 0 (Exists.intro vq1 (Exists.intro σq1 (And.intro (Nat.le_of_ble_eq_true rfl) (And.intro (ok_M_lists_84 hq1) ?_))))
  exact ok_M_replaysAll_84_p12 H _ _ _ h
theorem ok_M_replaysAll_84 {l : Launch} {a1 : Int} {σ : pS} {v : Int} {σ1 : pS} (h : f_M_replaysAll_84 a1 σ = some (v, σ1)) : Con l 4 191 [.inr 84, .inl a1] σ v σ1 := Con_mk 2 4 rfl (by decide +kernel) (fun _ H => ok_M_replaysAll_84_w H _ _ h)
theorem ok_M_min_w {l : Launch} {rv : Int} {rσ : pS} {G : Nat → pL → List pV → pS → Prop} (H : px_R l 0 190 rv rσ G) : ∀ (a0 a1 : Int) (σ : pS), f_M_min a0 a1 σ = some (rv, rσ) → G 0 [some (.inl a0), some (.inl a1)] [] σ := by
  intro a0 a1 σ h
  unfold f_M_min at h
  refine H [((1, 0, 0, 0, []), 1), ((1, 1, 0, 0, []), 1), ((13, 3, 9, 0, []), 3), ((1, 0, 0, 0, []), 1), ((12, 0, 10, 0, []), 3), ((27, 0, 0, 0, []), 1)] 0 _ _ _ (by decide +kernel) ?_
  rcases px_ite h with ⟨c1, h⟩ | ⟨c1, h⟩
  · refine And.intro (fun _ => ?_) (fun hn => absurd c1 hn)
    refine H [((1, 1, 0, 0, []), 1), ((27, 0, 0, 0, []), 1)] 9 _ _ _ (by decide +kernel) ?_
    exact Prod.mk.inj (Option.some.inj h)
  · refine And.intro (fun hp => absurd hp c1) (fun _ => ?_)
    exact Prod.mk.inj (Option.some.inj h)
theorem ok_M_min {l : Launch} {a0 a1 : Int} {σ : pS} {v : Int} {σ1 : pS} (h : f_M_min a0 a1 σ = some (v, σ1)) : Con l 0 190 [.inl a0, .inl a1] σ v σ1 := Con_mk 2 2 rfl (by decide +kernel) (fun _ H => ok_M_min_w H _ _ _ h)
theorem ok_M_melts_84_p41 {l : Launch} {rv : Int} {rσ : pS} {G : Nat → pL → List pV → pS → Prop} (H : px_R l 1 189 rv rσ G) : ∀ (a1 a2 s0 : Int) (σ : pS), f_M_melts_84_p41 a1 a2 s0 σ = some (rv, rσ) → G 41 [some (.inr 84), some (.inl a1), some (.inl a2), none, none, none] [.inl s0] σ := by
  intro a1 a2 s0 σ h
  unfold f_M_melts_84_p41 at h
  refine H [((3, 5, 0, 0, []), 2), ((1, 5, 0, 0, []), 2), ((0, 0, 0, (-1), []), 1), ((13, 1, 68, 0, []), 3), ((2, 0, 0, 0, []), 1), ((16, 84, 3, 0, []), 3), ((3, 5, 0, 0, []), 2), ((2, 0, 0, 0, []), 1), ((2, 0, 0, 0, []), 1), ((16, 84, 3, 0, []), 3), ((0, 0, 0, 1, []), 1), ((6, 0, 0, 0, []), 1), ((0, 0, 0, 16, []), 2), ((7, 1, 0, 0, []), 1), ((18, 84, 3, 0, []), 3), ((2, 0, 0, 0, []), 1), ((17, 84, 87, 0, []), 3), ((1, 1, 0, 0, []), 1), ((1, 5, 0, 0, []), 2), ((20, 87, 20, 0, []), 1), ((2, 0, 0, 0, []), 1), ((17, 84, 87, 0, []), 3), ((1, 2, 0, 0, []), 1), ((1, 5, 0, 0, []), 2), ((20, 87, 20, 0, []), 1), ((28, 0, 0, 0, []), 1)] 41 _ _ _ (by decide +kernel) ?_
  rcases px_ite h with ⟨c6, h⟩ | ⟨c6, h⟩
  · refine And.intro (fun hp => absurd c6 hp) (fun _ => ?_)
    refine And.intro (show (16 : Int) ≠ 0 from by decide) (fun r9 hr9 => ?_)
    replace hr9 : r9 = pRem (pw ((σ 84 3) + 1)) 16 := hr9.trans (px_dr_1 _ _)
    try rw [← hr9] at h
    obtain ⟨g10, h⟩ := px_gd h
    refine And.intro g10 ?_
    obtain ⟨g11, h⟩ := px_gd h
    refine And.intro g11 ?_
    exact (Prod.mk.inj (Option.some.inj h)).2
  · refine And.intro (fun _ => ?_) (fun hn => absurd c6 hn)
    refine H [((2, 0, 0, 0, []), 1), ((17, 84, 87, 0, []), 3), ((1, 1, 0, 0, []), 1), ((1, 5, 0, 0, []), 2), ((20, 87, 20, 0, []), 1), ((2, 0, 0, 0, []), 1), ((17, 84, 87, 0, []), 3), ((1, 2, 0, 0, []), 1), ((1, 5, 0, 0, []), 2), ((20, 87, 20, 0, []), 1), ((28, 0, 0, 0, []), 1)] 68 _ _ _ (by decide +kernel) ?_
    obtain ⟨g7, h⟩ := px_gd h
    refine And.intro g7 ?_
    obtain ⟨g8, h⟩ := px_gd h
    refine And.intro g8 ?_
    exact (Prod.mk.inj (Option.some.inj h)).2
theorem ok_M_melts_84_w {l : Launch} {rv : Int} {rσ : pS} {G : Nat → pL → List pV → pS → Prop} (H : px_R l 1 189 rv rσ G) : ∀ (a1 a2 : Int) (σ : pS), f_M_melts_84 a1 a2 σ = some (rv, rσ) → G 0 [some (.inr 84), some (.inl a1), some (.inl a2), none, none, none] [] σ := by
  intro a1 a2 σ h
  unfold f_M_melts_84 at h
  refine H [((2, 0, 0, 0, []), 1), ((17, 84, 87, 0, []), 3), ((1, 1, 0, 0, []), 1), ((19, 87, 20, 0, []), 1), ((3, 3, 0, 0, []), 1), ((2, 0, 0, 0, []), 1), ((17, 84, 87, 0, []), 3), ((1, 2, 0, 0, []), 1), ((19, 87, 20, 0, []), 1), ((3, 4, 0, 0, []), 2), ((1, 3, 0, 0, []), 1), ((0, 0, 0, (-1), []), 1), ((13, 1, 25, 0, []), 3), ((1, 4, 0, 0, []), 2), ((12, 0, 41, 0, []), 3), ((29, 3, 0, 0, []), 0), ((29, 4, 0, 0, []), 0)] 0 _ _ _ (by decide +kernel) ?_
  obtain ⟨g1, h⟩ := px_gd h
  refine And.intro g1 ?_
  obtain ⟨g2, h⟩ := px_gd h
  refine And.intro g2 ?_
  rcases px_ite h with ⟨c3, h⟩ | ⟨c3, h⟩
  · refine And.intro (fun hp => absurd c3 hp) (fun _ => ?_)
    exact ok_M_melts_84_p41 H _ _ _ _ h
  · refine And.intro (fun _ => ?_) (fun hn => absurd c3 hn)
    refine H [((1, 4, 0, 0, []), 2), ((0, 0, 0, (-1), []), 1), ((13, 1, 35, 0, []), 3), ((1, 3, 0, 0, []), 1), ((12, 0, 41, 0, []), 3), ((29, 3, 0, 0, []), 0), ((29, 4, 0, 0, []), 0)] 25 _ _ _ (by decide +kernel) ?_
    rcases px_ite h with ⟨c4, h⟩ | ⟨c4, h⟩
    · refine And.intro (fun hp => absurd c4 hp) (fun _ => ?_)
      exact ok_M_melts_84_p41 H _ _ _ _ h
    · refine And.intro (fun _ => ?_) (fun hn => absurd c4 hn)
      refine H [((1, 3, 0, 0, []), 1), ((1, 4, 0, 0, []), 2), ((24, 190, 2, 1, []), 3), ((29, 3, 0, 0, []), 0), ((29, 4, 0, 0, []), 0)] 35 _ _ _ (by decide +kernel) ?_
      obtain ⟨⟨vq5, σq5⟩, hq5, h⟩ := px_bind h
      dsimp only at h
      refine Exists.intro 0 (Exists.intro vq5 (Exists.intro σq5 (And.intro (Nat.le_of_ble_eq_true rfl) (And.intro (ok_M_min hq5) ?_))))
      exact ok_M_melts_84_p41 H _ _ _ _ h
theorem ok_M_melts_84 {l : Launch} {a1 a2 : Int} {σ : pS} {v : Int} {σ1 : pS} (h : f_M_melts_84 a1 a2 σ = some (v, σ1)) : Con l 1 189 [.inr 84, .inl a1, .inl a2] σ v σ1 := Con_mk 3 6 rfl (by decide +kernel) (fun _ H => ok_M_melts_84_w H _ _ _ h)
theorem ok_M_tookOld_84_p2 {l : Launch} {rv : Int} {rσ : pS} {G : Nat → pL → List pV → pS → Prop} (H : px_R l 1 188 rv rσ G) : ∀ (n : Nat) (a1 a2 a3 : Int) (σ : pS), f_M_tookOld_84_p2 n a1 a2 a3 σ = some (rv, rσ) → G 2 [some (.inr 84), some (.inl a1), some (.inl a2), some (.inl a3)] [] σ := by
  intro n
  induction n with
  | zero =>
    intro a1 a2 a3 σ h
    unfold f_M_tookOld_84_p2 at h
    cases h
  | succ n ih =>
    intro a1 a2 a3 σ h
    unfold f_M_tookOld_84_p2 at h
    refine H [((1, 3, 0, 0, []), 1), ((2, 0, 0, 0, []), 1), ((17, 84, 93, 0, []), 3), ((1, 1, 0, 0, []), 1), ((19, 93, 20, 0, []), 1), ((13, 3, 53, 0, []), 3), ((2, 0, 0, 0, []), 1), ((1, 2, 0, 0, []), 1), ((2, 0, 0, 0, []), 1), ((17, 84, 121, 0, []), 3), ((1, 1, 0, 0, []), 1), ((19, 121, 20, 0, []), 1), ((1, 3, 0, 0, []), 1), ((6, 0, 0, 0, []), 1), ((0, 0, 0, 63, []), 2), ((6, 3, 0, 0, []), 1), ((23, 184, 2, 1, [(0, 84)]), 3), ((14, 0, 47, 0, []), 3), ((2, 0, 0, 0, []), 1), ((17, 84, 124, 0, []), 3), ((0, 0, 0, 4, []), 1), ((1, 1, 0, 0, []), 1), ((6, 2, 0, 0, []), 1), ((1, 3, 0, 0, []), 1), ((6, 0, 0, 0, []), 1), ((19, 124, 80, 0, []), 1), ((1, 2, 0, 0, []), 1), ((13, 3, 47, 0, []), 3), ((0, 0, 0, 1, []), 1), ((27, 1, 0, 0, []), 1)] 2 _ _ _ (by decide +kernel) ?_
    obtain ⟨g1, h⟩ := px_gd h
    refine And.intro g1 ?_
    rcases px_ite h with ⟨c2, h⟩ | ⟨c2, h⟩
    · refine And.intro (fun _ => ?_) (fun hn => absurd c2 hn)
      refine H [((0, 0, 0, 0, []), 1), ((27, 1, 0, 0, []), 1)] 53 _ _ _ (by decide +kernel) ?_
      refine And.intro (show (0 : Int) ≤ 0 ∧ (0 : Int) ≤ 1 from by decide) ?_
      exact Prod.mk.inj (Option.some.inj h)
    · refine And.intro (fun hp => absurd hp c2) (fun _ => ?_)
      obtain ⟨g3, h⟩ := px_gd h
      refine And.intro g3 ?_
      obtain ⟨⟨vq4, σq4⟩, hq4, h⟩ := px_bind h
      dsimp only at h
      refine Exists.intro 0 (Exists.intro vq4 (Exists.intro σq4 (And.intro (Nat.le_of_ble_eq_true rfl) (And.intro (ok_M_covers_84 hq4) ?_))))
      rcases px_ite h with ⟨c5, h⟩ | ⟨c5, h⟩
      · refine And.intro (fun _ => ?_) (fun hn => absurd c5 hn)
        refine H [((5, 3, 0, 1, []), 3), ((12, 0, 2, 0, []), 3)] 47 _ _ _ (by decide +kernel) ?_
        exact ih _ _ _ _ h
      · refine And.intro (fun hp => absurd hp c5) (fun _ => ?_)
        obtain ⟨g6, h⟩ := px_gd h
        refine And.intro g6 ?_
        rcases px_ite h with ⟨c7, h⟩ | ⟨c7, h⟩
        · refine And.intro (fun _ => ?_) (fun hn => absurd c7 hn)
          refine H [((5, 3, 0, 1, []), 3), ((12, 0, 2, 0, []), 3)] 47 _ _ _ (by decide +kernel) ?_
          exact ih _ _ _ _ h
        · refine And.intro (fun hp => absurd hp c7) (fun _ => ?_)
          refine And.intro (show (0 : Int) ≤ 1 ∧ (1 : Int) ≤ 1 from by decide) ?_
          exact Prod.mk.inj (Option.some.inj h)
theorem ok_M_tookOld_84_w {l : Launch} {rv : Int} {rσ : pS} {G : Nat → pL → List pV → pS → Prop} (H : px_R l 1 188 rv rσ G) : ∀ (a1 a2 : Int) (σ : pS), f_M_tookOld_84 a1 a2 σ = some (rv, rσ) → G 0 [some (.inr 84), some (.inl a1), some (.inl a2), none] [] σ := by
  intro a1 a2 σ h
  unfold f_M_tookOld_84 at h
  refine H [((0, 0, 0, 0, []), 1), ((3, 3, 0, 0, []), 1)] 0 _ _ _ (by decide +kernel) ?_
  exact ok_M_tookOld_84_p2 H _ _ _ _ _ h
theorem ok_M_tookOld_84 {l : Launch} {a1 a2 : Int} {σ : pS} {v : Int} {σ1 : pS} (h : f_M_tookOld_84 a1 a2 σ = some (v, σ1)) : Con l 1 188 [.inr 84, .inl a1, .inl a2] σ v σ1 := Con_mk 3 4 rfl (by decide +kernel) (fun _ H => ok_M_tookOld_84_w H _ _ _ h)
theorem ok_M_looksBack_84_p99 {l : Launch} {rv : Int} {rσ : pS} {G : Nat → pL → List pV → pS → Prop} (H : px_R l 5 187 rv rσ G) : ∀ (n : Nat) (a2 a3 : Int) (σ : pS), f_M_looksBack_84_p99 n a2 a3 σ = some (rv, rσ) → G 99 [some (.inr 84), none, some (.inl a2), some (.inl a3)] [] σ := by
  intro n
  induction n with
  | zero =>
    intro a2 a3 σ h
    unfold f_M_looksBack_84_p99 at h
    cases h
  | succ n ih =>
    intro a2 a3 σ h
    unfold f_M_looksBack_84_p99 at h
    refine H [((1, 3, 0, 0, []), 1), ((1, 2, 0, 0, []), 1), ((13, 3, 134, 0, []), 3), ((2, 0, 0, 0, []), 1), ((17, 84, 118, 0, []), 3), ((2, 0, 0, 0, []), 1), ((17, 84, 133, 0, []), 3), ((1, 3, 0, 0, []), 1), ((19, 133, 20, 0, []), 1), ((19, 118, 20, 0, []), 1), ((14, 0, 128, 0, []), 3), ((2, 0, 0, 0, []), 1), ((2, 0, 0, 0, []), 1), ((17, 84, 133, 0, []), 3), ((1, 3, 0, 0, []), 1), ((19, 133, 20, 0, []), 1), ((23, 191, 1, 0, [(0, 84)]), 3), ((5, 3, 0, 1, []), 3), ((12, 0, 99, 0, []), 3)] 99 _ _ _ (by decide +kernel) ?_
    rcases px_ite h with ⟨c3, h⟩ | ⟨c3, h⟩
    · refine And.intro (fun _ => ?_) (fun hn => absurd c3 hn)
      refine H [((28, 0, 0, 0, []), 1)] 134 _ _ _ (by decide +kernel) ?_
      exact (Prod.mk.inj (Option.some.inj h)).2
    · refine And.intro (fun hp => absurd hp c3) (fun _ => ?_)
      obtain ⟨g4, h⟩ := px_gd h
      refine And.intro g4 ?_
      obtain ⟨g5, h⟩ := px_gd h
      refine And.intro g5 ?_
      rcases px_ite h with ⟨c6, h⟩ | ⟨c6, h⟩
      · refine And.intro (fun _ => ?_) (fun hn => absurd c6 hn)
        refine H [((5, 3, 0, 1, []), 3), ((12, 0, 99, 0, []), 3)] 128 _ _ _ (by decide +kernel) ?_
        exact ih _ _ _ h
      · refine And.intro (fun hp => absurd hp c6) (fun _ => ?_)
        obtain ⟨g7, h⟩ := px_gd h
        refine And.intro g7 ?_
        obtain ⟨⟨vq8, σq8⟩, hq8, h⟩ := px_bind h
        dsimp only at h
        refine Exists.intro 4 (Exists.intro vq8 (Exists.intro σq8 (And.intro (Nat.le_of_ble_eq_true rfl) (And.intro (ok_M_replaysAll_84 hq8) ?_))))
        exact ih _ _ _ h
theorem ok_M_looksBack_84_p75 {l : Launch} {rv : Int} {rσ : pS} {G : Nat → pL → List pV → pS → Prop} (H : px_R l 5 187 rv rσ G) : ∀ (n : Nat) (a1 a2 a3 : Int) (σ : pS), f_M_looksBack_84_p75 n a1 a2 a3 σ = some (rv, rσ) → G 75 [some (.inr 84), some (.inl a1), some (.inl a2), some (.inl a3)] [] σ := by
  intro n
  induction n with
  | zero =>
    intro a1 a2 a3 σ h
    unfold f_M_looksBack_84_p75 at h
    cases h
  | succ n ih =>
    intro a1 a2 a3 σ h
    unfold f_M_looksBack_84_p75 at h
    refine H [((1, 3, 0, 0, []), 1), ((1, 2, 0, 0, []), 1), ((13, 3, 97, 0, []), 3), ((2, 0, 0, 0, []), 1), ((2, 0, 0, 0, []), 1), ((17, 84, 133, 0, []), 3), ((1, 3, 0, 0, []), 1), ((19, 133, 20, 0, []), 1), ((1, 1, 0, 0, []), 1), ((23, 189, 2, 0, [(0, 84)]), 3), ((5, 3, 0, 1, []), 3), ((12, 0, 75, 0, []), 3)] 75 _ _ _ (by decide +kernel) ?_
    rcases px_ite h with ⟨c2, h⟩ | ⟨c2, h⟩
    · refine And.intro (fun _ => ?_) (fun hn => absurd c2 hn)
      refine H [((0, 0, 0, 0, []), 1), ((3, 3, 0, 0, []), 1), ((29, 1, 0, 0, []), 0)] 97 _ _ _ (by decide +kernel) ?_
      exact ok_M_looksBack_84_p99 H _ _ _ _ h
    · refine And.intro (fun hp => absurd hp c2) (fun _ => ?_)
      obtain ⟨g9, h⟩ := px_gd h
      refine And.intro g9 ?_
      obtain ⟨⟨vq10, σq10⟩, hq10, h⟩ := px_bind h
      dsimp only at h
      refine Exists.intro 1 (Exists.intro vq10 (Exists.intro σq10 (And.intro (Nat.le_of_ble_eq_true rfl) (And.intro (ok_M_melts_84 hq10) ?_))))
      exact ih _ _ _ _ h
theorem ok_M_looksBack_84_p6 {l : Launch} {rv : Int} {rσ : pS} {G : Nat → pL → List pV → pS → Prop} (H : px_R l 5 187 rv rσ G) : ∀ (n : Nat) (a1 a2 a3 : Int) (σ : pS), f_M_looksBack_84_p6 n a1 a2 a3 σ = some (rv, rσ) → G 6 [some (.inr 84), some (.inl a1), some (.inl a2), some (.inl a3)] [] σ := by
  intro n
  induction n with
  | zero =>
    intro a1 a2 a3 σ h
    unfold f_M_looksBack_84_p6 at h
    cases h
  | succ n ih =>
    intro a1 a2 a3 σ h
    unfold f_M_looksBack_84_p6 at h
    refine H [((1, 3, 0, 0, []), 1), ((2, 0, 0, 0, []), 1), ((16, 84, 2, 0, []), 3), ((13, 3, 63, 0, []), 3), ((2, 0, 0, 0, []), 1), ((17, 84, 88, 0, []), 3), ((1, 3, 0, 0, []), 1), ((19, 88, 20, 0, []), 1), ((0, 0, 0, 2, []), 1), ((13, 1, 57, 0, []), 3), ((2, 0, 0, 0, []), 1), ((17, 84, 118, 0, []), 3), ((1, 3, 0, 0, []), 1), ((19, 118, 20, 0, []), 1), ((0, 0, 0, 2, []), 1), ((13, 1, 57, 0, []), 3), ((2, 0, 0, 0, []), 1), ((1, 3, 0, 0, []), 1), ((1, 1, 0, 0, []), 1), ((23, 188, 2, 1, [(0, 84)]), 3), ((14, 1, 46, 0, []), 3), ((12, 0, 57, 0, []), 3), ((5, 3, 0, 1, []), 3), ((12, 0, 6, 0, []), 3)] 6 _ _ _ (by decide +kernel) ?_
    rcases px_ite h with ⟨c1, h⟩ | ⟨c1, h⟩
    · refine And.intro (fun _ => ?_) (fun hn => absurd c1 hn)
      refine H [((2, 0, 0, 0, []), 1), ((2, 0, 0, 0, []), 1), ((16, 84, 64, 0, []), 3), ((1, 2, 0, 0, []), 1), ((6, 0, 0, 0, []), 1), ((18, 84, 64, 0, []), 3), ((0, 0, 0, 0, []), 1), ((3, 3, 0, 0, []), 1)] 63 _ _ _ (by decide +kernel) ?_
      exact ok_M_looksBack_84_p75 H _ _ _ _ _ h
    · refine And.intro (fun hp => absurd hp c1) (fun _ => ?_)
      obtain ⟨g11, h⟩ := px_gd h
      refine And.intro g11 ?_
      rcases px_ite h with ⟨c12, h⟩ | ⟨c12, h⟩
      · refine And.intro (fun hp => absurd c12 hp) (fun _ => ?_)
        obtain ⟨g13, h⟩ := px_gd h
        refine And.intro g13 ?_
        rcases px_ite h with ⟨c14, h⟩ | ⟨c14, h⟩
        · refine And.intro (fun hp => absurd c14 hp) (fun _ => ?_)
          obtain ⟨⟨vq15, σq15⟩, hq15, h⟩ := px_bind h
          dsimp only at h
          refine Exists.intro 1 (Exists.intro vq15 (Exists.intro σq15 (And.intro (Nat.le_of_ble_eq_true rfl) (And.intro (ok_M_tookOld_84 hq15) ?_))))
          rcases px_ite h with ⟨c16, h⟩ | ⟨c16, h⟩
          · refine And.intro (fun hp => absurd c16 hp) (fun _ => ?_)
            exact ih _ _ _ _ h
          · refine And.intro (fun _ => ?_) (fun hn => absurd c16 hn)
            refine H [((2, 0, 0, 0, []), 1), ((17, 84, 133, 0, []), 3), ((1, 2, 0, 0, []), 1), ((1, 3, 0, 0, []), 1), ((20, 133, 20, 0, []), 1), ((1, 2, 0, 0, []), 1), ((0, 0, 0, 1, []), 1), ((6, 0, 0, 0, []), 1), ((3, 2, 0, 0, []), 1), ((5, 3, 0, 1, []), 3), ((12, 0, 6, 0, []), 3)] 46 _ _ _ (by decide +kernel) ?_
            obtain ⟨g17, h⟩ := px_gd h
            refine And.intro g17 ?_
            exact ih _ _ _ _ h
        · refine And.intro (fun _ => ?_) (fun hn => absurd c14 hn)
          refine H [((5, 3, 0, 1, []), 3), ((12, 0, 6, 0, []), 3)] 57 _ _ _ (by decide +kernel) ?_
          exact ih _ _ _ _ h
      · refine And.intro (fun _ => ?_) (fun hn => absurd c12 hn)
        refine H [((5, 3, 0, 1, []), 3), ((12, 0, 6, 0, []), 3)] 57 _ _ _ (by decide +kernel) ?_
        exact ih _ _ _ _ h
theorem ok_M_looksBack_84_w {l : Launch} {rv : Int} {rσ : pS} {G : Nat → pL → List pV → pS → Prop} (H : px_R l 5 187 rv rσ G) : ∀ (a1 : Int) (σ : pS), f_M_looksBack_84 a1 σ = some (rv, rσ) → G 0 [some (.inr 84), some (.inl a1), none, none] [] σ := by
  intro a1 σ h
  unfold f_M_looksBack_84 at h
  refine H [((0, 0, 0, 0, []), 1), ((3, 2, 0, 0, []), 1), ((1, 1, 0, 0, []), 1), ((0, 0, 0, 1, []), 1), ((6, 0, 0, 0, []), 1), ((3, 3, 0, 0, []), 1)] 0 _ _ _ (by decide +kernel) ?_
  exact ok_M_looksBack_84_p6 H _ _ _ _ _ h
theorem ok_M_looksBack_84 {l : Launch} {a1 : Int} {σ : pS} {v : Int} {σ1 : pS} (h : f_M_looksBack_84 a1 σ = some (v, σ1)) : Con l 5 187 [.inr 84, .inl a1] σ v σ1 := Con_mk 2 4 rfl (by decide +kernel) (fun _ H => ok_M_looksBack_84_w H _ _ h)
theorem ok_M_comesDone_84_w {l : Launch} {rv : Int} {rσ : pS} {G : Nat → pL → List pV → pS → Prop} (H : px_R l 6 179 rv rσ G) : ∀ (a1 a2 : Int) (σ : pS), f_M_comesDone_84 a1 a2 σ = some (rv, rσ) → G 0 [some (.inr 84), some (.inl a1), some (.inl a2)] [] σ := by
  intro a1 a2 σ h
  unfold f_M_comesDone_84 at h
  refine H [((2, 0, 0, 0, []), 1), ((17, 84, 118, 0, []), 3), ((1, 1, 0, 0, []), 1), ((0, 0, 0, 2, []), 1), ((20, 118, 20, 0, []), 1), ((2, 0, 0, 0, []), 1), ((17, 84, 122, 0, []), 3), ((1, 1, 0, 0, []), 1), ((1, 2, 0, 0, []), 1), ((20, 122, 20, 0, []), 1), ((2, 0, 0, 0, []), 1), ((17, 84, 88, 0, []), 3), ((1, 1, 0, 0, []), 1), ((19, 88, 20, 0, []), 1), ((15, 0, 122, 0, [(0, 48), (1, 63), (2, 103)]), 28)] 0 _ _ _ (by decide +kernel) ?_
  obtain ⟨g1, h⟩ := px_gd h
  refine And.intro g1 ?_
  obtain ⟨g2, h⟩ := px_gd h
  refine And.intro g2 ?_
  obtain ⟨g3, h⟩ := px_gd h
  refine And.intro g3 ?_
  rcases px_ite h with ⟨c4, h⟩ | ⟨c4, h⟩
  · refine And.intro (fun _ => ?_) (fun hn => absurd c4 hn)
    refine H [((2, 0, 0, 0, []), 1), ((17, 84, 120, 0, []), 3), ((1, 1, 0, 0, []), 1), ((2, 0, 0, 0, []), 1), ((17, 84, 95, 0, []), 3), ((1, 1, 0, 0, []), 1), ((19, 95, 20, 0, []), 1), ((20, 120, 20, 0, []), 1), ((12, 0, 164, 0, []), 3), ((28, 0, 0, 0, []), 1)] 48 _ _ _ (by decide +kernel) ?_
    obtain ⟨g5, h⟩ := px_gd h
    refine And.intro g5 ?_
    obtain ⟨g6, h⟩ := px_gd h
    refine And.intro g6 ?_
    exact (Prod.mk.inj (Option.some.inj h)).2
  · refine And.intro (fun hp => absurd hp c4) (fun _ => ?_)
    rcases px_ite h with ⟨c7, h⟩ | ⟨c7, h⟩
    · refine And.intro (fun _ => ?_) (fun hn => absurd c7 hn)
      refine H [((2, 0, 0, 0, []), 1), ((17, 84, 120, 0, []), 3), ((1, 1, 0, 0, []), 1), ((2, 0, 0, 0, []), 1), ((17, 84, 89, 0, []), 3), ((1, 1, 0, 0, []), 1), ((19, 89, 20, 0, []), 1), ((2, 0, 0, 0, []), 1), ((1, 1, 0, 0, []), 1), ((2, 0, 0, 0, []), 1), ((17, 84, 91, 0, []), 3), ((1, 1, 0, 0, []), 1), ((19, 91, 20, 0, []), 1), ((23, 180, 2, 1, [(0, 84)]), 3), ((2, 0, 0, 0, []), 1), ((1, 1, 0, 0, []), 1), ((2, 0, 0, 0, []), 1), ((17, 84, 92, 0, []), 3), ((1, 1, 0, 0, []), 1), ((19, 92, 20, 0, []), 1), ((23, 180, 2, 1, [(0, 84)]), 3), ((24, 181, 3, 1, []), 3), ((20, 120, 20, 0, []), 1), ((12, 0, 164, 0, []), 3), ((28, 0, 0, 0, []), 1)] 63 _ _ _ (by decide +kernel) ?_
      obtain ⟨g8, h⟩ := px_gd h
      refine And.intro g8 ?_
      obtain ⟨g9, h⟩ := px_gd h
      refine And.intro g9 ?_
      obtain ⟨⟨vq10, σq10⟩, hq10, h⟩ := px_bind h
      dsimp only at h
      refine Exists.intro 2 (Exists.intro vq10 (Exists.intro σq10 (And.intro (Nat.le_of_ble_eq_true rfl) (And.intro (ok_M_readBy_84 hq10) ?_))))
      obtain ⟨g11, h⟩ := px_gd h
      refine And.intro g11 ?_
      obtain ⟨⟨vq12, σq12⟩, hq12, h⟩ := px_bind h
      dsimp only at h
      refine Exists.intro 2 (Exists.intro vq12 (Exists.intro σq12 (And.intro (Nat.le_of_ble_eq_true rfl) (And.intro (ok_M_readBy_84 hq12) ?_))))
      obtain ⟨⟨vq13, σq13⟩, hq13, h⟩ := px_bind h
      dsimp only at h
      refine Exists.intro 0 (Exists.intro vq13 (Exists.intro σq13 (And.intro (Nat.le_of_ble_eq_true rfl) (And.intro (ok_M_reckoned hq13) ?_))))
      obtain ⟨g14, h⟩ := px_gd h
      refine And.intro g14 ?_
      exact (Prod.mk.inj (Option.some.inj h)).2
    · refine And.intro (fun hp => absurd hp c7) (fun _ => ?_)
      rcases px_ite h with ⟨c15, h⟩ | ⟨c15, h⟩
      · refine And.intro (fun _ => ?_) (fun hn => absurd c15 hn)
        refine H [((2, 0, 0, 0, []), 1), ((17, 84, 121, 0, []), 3), ((1, 1, 0, 0, []), 1), ((2, 0, 0, 0, []), 1), ((1, 1, 0, 0, []), 1), ((23, 182, 1, 1, [(0, 84)]), 3), ((20, 121, 20, 0, []), 1), ((2, 0, 0, 0, []), 1), ((1, 1, 0, 0, []), 1), ((23, 183, 1, 0, [(0, 84)]), 3), ((12, 0, 164, 0, []), 3), ((28, 0, 0, 0, []), 1)] 103 _ _ _ (by decide +kernel) ?_
        obtain ⟨⟨vq16, σq16⟩, hq16, h⟩ := px_bind h
        dsimp only at h
        refine Exists.intro 3 (Exists.intro vq16 (Exists.intro σq16 (And.intro (Nat.le_of_ble_eq_true rfl) (And.intro (ok_M_placeBy_84 hq16) ?_))))
        obtain ⟨g17, h⟩ := px_gd h
        refine And.intro g17 ?_
        obtain ⟨⟨vq18, σq18⟩, hq18, h⟩ := px_bind h
        dsimp only at h
        refine Exists.intro 1 (Exists.intro vq18 (Exists.intro σq18 (And.intro (Nat.le_of_ble_eq_true rfl) (And.intro (ok_M_loads_84 hq18) ?_))))
        exact (Prod.mk.inj (Option.some.inj h)).2
      · refine And.intro (fun hp => absurd hp c15) (fun _ => ?_)
        refine H [((2, 0, 0, 0, []), 1), ((17, 84, 121, 0, []), 3), ((1, 1, 0, 0, []), 1), ((2, 0, 0, 0, []), 1), ((1, 1, 0, 0, []), 1), ((23, 182, 1, 1, [(0, 84)]), 3), ((20, 121, 20, 0, []), 1), ((2, 0, 0, 0, []), 1), ((17, 84, 120, 0, []), 3), ((1, 1, 0, 0, []), 1), ((2, 0, 0, 0, []), 1), ((1, 1, 0, 0, []), 1), ((2, 0, 0, 0, []), 1), ((17, 84, 90, 0, []), 3), ((1, 1, 0, 0, []), 1), ((19, 90, 20, 0, []), 1), ((23, 180, 2, 1, [(0, 84)]), 3), ((2, 0, 0, 0, []), 1), ((17, 84, 93, 0, []), 3), ((1, 1, 0, 0, []), 1), ((19, 93, 20, 0, []), 1), ((24, 186, 2, 1, []), 3), ((20, 120, 20, 0, []), 1), ((2, 0, 0, 0, []), 1), ((1, 1, 0, 0, []), 1), ((23, 187, 1, 0, [(0, 84)]), 3), ((28, 0, 0, 0, []), 1)] 122 _ _ _ (by decide +kernel) ?_
        obtain ⟨⟨vq19, σq19⟩, hq19, h⟩ := px_bind h
        dsimp only at h
        refine Exists.intro 3 (Exists.intro vq19 (Exists.intro σq19 (And.intro (Nat.le_of_ble_eq_true rfl) (And.intro (ok_M_placeBy_84 hq19) ?_))))
        obtain ⟨g20, h⟩ := px_gd h
        refine And.intro g20 ?_
        obtain ⟨g21, h⟩ := px_gd h
        refine And.intro g21 ?_
        obtain ⟨⟨vq22, σq22⟩, hq22, h⟩ := px_bind h
        dsimp only at h
        refine Exists.intro 2 (Exists.intro vq22 (Exists.intro σq22 (And.intro (Nat.le_of_ble_eq_true rfl) (And.intro (ok_M_readBy_84 hq22) ?_))))
        obtain ⟨g23, h⟩ := px_gd h
        refine And.intro g23 ?_
        obtain ⟨⟨vq24, σq24⟩, hq24, h⟩ := px_bind h
        dsimp only at h
        refine Exists.intro 0 (Exists.intro vq24 (Exists.intro σq24 (And.intro (Nat.le_of_ble_eq_true rfl) (And.intro (ok_M_cut hq24) ?_))))
        obtain ⟨g25, h⟩ := px_gd h
        refine And.intro g25 ?_
        obtain ⟨⟨vq26, σq26⟩, hq26, h⟩ := px_bind h
        dsimp only at h
        refine Exists.intro 5 (Exists.intro vq26 (Exists.intro σq26 (And.intro (Nat.le_of_ble_eq_true rfl) (And.intro (ok_M_looksBack_84 hq26) ?_))))
        exact (Prod.mk.inj (Option.some.inj h)).2
theorem ok_M_comesDone_84 {l : Launch} {a1 a2 : Int} {σ : pS} {v : Int} {σ1 : pS} (h : f_M_comesDone_84 a1 a2 σ = some (v, σ1)) : Con l 6 179 [.inr 84, .inl a1, .inl a2] σ v σ1 := Con_mk 3 3 rfl (by decide +kernel) (fun _ H => ok_M_comesDone_84_w H _ _ _ h)
theorem ok_M_cycleGoes_84_p47 {l : Launch} {rv : Int} {rσ : pS} {G : Nat → pL → List pV → pS → Prop} (H : px_R l 7 178 rv rσ G) : ∀ (n : Nat) (a1 a2 a3 a4 : Int) (σ : pS), f_M_cycleGoes_84_p47 n a1 a2 a3 a4 σ = some (rv, rσ) → G 47 [some (.inr 84), some (.inl a1), some (.inl a2), some (.inl a3), some (.inl a4)] [] σ := by
  intro n
  induction n with
  | zero =>
    intro a1 a2 a3 a4 σ h
    unfold f_M_cycleGoes_84_p47 at h
    cases h
  | succ n ih =>
    intro a1 a2 a3 a4 σ h
    unfold f_M_cycleGoes_84_p47 at h
    refine H [((1, 4, 0, 0, []), 2), ((2, 0, 0, 0, []), 1), ((16, 84, 2, 0, []), 3), ((13, 3, 122, 0, []), 3), ((2, 0, 0, 0, []), 1), ((17, 84, 118, 0, []), 3), ((1, 4, 0, 0, []), 2), ((19, 118, 20, 0, []), 1), ((14, 1, 116, 0, []), 3), ((2, 0, 0, 0, []), 1), ((1, 4, 0, 0, []), 2), ((23, 197, 1, 1, [(0, 84)]), 3), ((14, 1, 78, 0, []), 3), ((12, 0, 116, 0, []), 3), ((5, 4, 0, 1, []), 3), ((12, 0, 47, 0, []), 3)] 47 _ _ _ (by decide +kernel) ?_
    rcases px_ite h with ⟨c2, h⟩ | ⟨c2, h⟩
    · refine And.intro (fun _ => ?_) (fun hn => absurd c2 hn)
      refine H [((2, 0, 0, 0, []), 1), ((1, 1, 0, 0, []), 1), ((23, 205, 1, 0, [(0, 84)]), 3), ((28, 0, 0, 0, []), 1)] 122 _ _ _ (by decide +kernel) ?_
      obtain ⟨⟨vq3, σq3⟩, hq3, h⟩ := px_bind h
      dsimp only at h
      refine Exists.intro 3 (Exists.intro vq3 (Exists.intro σq3 (And.intro (Nat.le_of_ble_eq_true rfl) (And.intro (ok_M_retires_84 hq3) ?_))))
      exact (Prod.mk.inj (Option.some.inj h)).2
    · refine And.intro (fun hp => absurd hp c2) (fun _ => ?_)
      obtain ⟨g4, h⟩ := px_gd h
      refine And.intro g4 ?_
      rcases px_ite h with ⟨c5, h⟩ | ⟨c5, h⟩
      · refine And.intro (fun hp => absurd c5 hp) (fun _ => ?_)
        obtain ⟨⟨vq6, σq6⟩, hq6, h⟩ := px_bind h
        dsimp only at h
        refine Exists.intro 2 (Exists.intro vq6 (Exists.intro σq6 (And.intro (Nat.le_of_ble_eq_true rfl) (And.intro (ok_M_areSourcesDone_84 hq6) ?_))))
        rcases px_ite h with ⟨c7, h⟩ | ⟨c7, h⟩
        · refine And.intro (fun hp => absurd c7 hp) (fun _ => ?_)
          exact ih _ _ _ _ _ h
        · refine And.intro (fun _ => ?_) (fun hn => absurd c7 hn)
          refine H [((2, 0, 0, 0, []), 1), ((1, 4, 0, 0, []), 2), ((23, 198, 1, 1, [(0, 84)]), 3), ((14, 0, 100, 0, []), 3), ((2, 0, 0, 0, []), 1), ((2, 0, 0, 0, []), 1), ((16, 84, 68, 0, []), 3), ((0, 0, 0, 1, []), 1), ((6, 0, 0, 0, []), 1), ((18, 84, 68, 0, []), 3), ((12, 0, 116, 0, []), 3), ((5, 4, 0, 1, []), 3), ((12, 0, 47, 0, []), 3)] 78 _ _ _ (by decide +kernel) ?_
          obtain ⟨⟨vq8, σq8⟩, hq8, h⟩ := px_bind h
          dsimp only at h
          refine Exists.intro 1 (Exists.intro vq8 (Exists.intro σq8 (And.intro (Nat.le_of_ble_eq_true rfl) (And.intro (ok_M_isKeptBack_84 hq8) ?_))))
          rcases px_ite h with ⟨c9, h⟩ | ⟨c9, h⟩
          · refine And.intro (fun _ => ?_) (fun hn => absurd c9 hn)
            refine H [((1, 3, 0, 0, []), 1), ((1, 2, 0, 0, []), 1), ((13, 3, 116, 0, []), 3), ((1, 3, 0, 0, []), 1), ((0, 0, 0, 1, []), 1), ((6, 0, 0, 0, []), 1), ((3, 3, 0, 0, []), 1), ((2, 0, 0, 0, []), 1), ((1, 4, 0, 0, []), 2), ((1, 1, 0, 0, []), 1), ((23, 200, 2, 0, [(0, 84)]), 3), ((5, 4, 0, 1, []), 3), ((12, 0, 47, 0, []), 3)] 100 _ _ _ (by decide +kernel) ?_
            rcases px_ite h with ⟨c10, h⟩ | ⟨c10, h⟩
            · refine And.intro (fun _ => ?_) (fun hn => absurd c10 hn)
              refine H [((5, 4, 0, 1, []), 3), ((12, 0, 47, 0, []), 3)] 116 _ _ _ (by decide +kernel) ?_
              exact ih _ _ _ _ _ h
            · refine And.intro (fun hp => absurd hp c10) (fun _ => ?_)
              obtain ⟨⟨vq11, σq11⟩, hq11, h⟩ := px_bind h
              dsimp only at h
              refine Exists.intro 3 (Exists.intro vq11 (Exists.intro σq11 (And.intro (Nat.le_of_ble_eq_true rfl) (And.intro (ok_M_goesOff_84 hq11) ?_))))
              exact ih _ _ _ _ _ h
          · refine And.intro (fun hp => absurd hp c9) (fun _ => ?_)
            exact ih _ _ _ _ _ h
      · refine And.intro (fun _ => ?_) (fun hn => absurd c5 hn)
        refine H [((5, 4, 0, 1, []), 3), ((12, 0, 47, 0, []), 3)] 116 _ _ _ (by decide +kernel) ?_
        exact ih _ _ _ _ _ h
theorem ok_M_cycleGoes_84_p2 {l : Launch} {rv : Int} {rσ : pS} {G : Nat → pL → List pV → pS → Prop} (H : px_R l 7 178 rv rσ G) : ∀ (n : Nat) (a1 a2 a3 : Int) (σ : pS), f_M_cycleGoes_84_p2 n a1 a2 a3 σ = some (rv, rσ) → G 2 [some (.inr 84), some (.inl a1), some (.inl a2), some (.inl a3), none] [] σ := by
  intro n
  induction n with
  | zero =>
    intro a1 a2 a3 σ h
    unfold f_M_cycleGoes_84_p2 at h
    cases h
  | succ n ih =>
    intro a1 a2 a3 σ h
    unfold f_M_cycleGoes_84_p2 at h
    refine H [((1, 3, 0, 0, []), 1), ((2, 0, 0, 0, []), 1), ((16, 84, 2, 0, []), 3), ((13, 3, 42, 0, []), 3), ((2, 0, 0, 0, []), 1), ((17, 84, 118, 0, []), 3), ((1, 3, 0, 0, []), 1), ((19, 118, 20, 0, []), 1), ((0, 0, 0, 1, []), 1), ((13, 1, 36, 0, []), 3), ((2, 0, 0, 0, []), 1), ((17, 84, 119, 0, []), 3), ((1, 3, 0, 0, []), 1), ((19, 119, 20, 0, []), 1), ((1, 1, 0, 0, []), 1), ((13, 1, 36, 0, []), 3), ((2, 0, 0, 0, []), 1), ((1, 3, 0, 0, []), 1), ((1, 1, 0, 0, []), 1), ((23, 179, 2, 0, [(0, 84)]), 3), ((5, 3, 0, 1, []), 3), ((12, 0, 2, 0, []), 3)] 2 _ _ _ (by decide +kernel) ?_
    rcases px_ite h with ⟨c1, h⟩ | ⟨c1, h⟩
    · refine And.intro (fun _ => ?_) (fun hn => absurd c1 hn)
      refine H [((0, 0, 0, 0, []), 1), ((3, 3, 0, 0, []), 1), ((0, 0, 0, 0, []), 1), ((3, 4, 0, 0, []), 2)] 42 _ _ _ (by decide +kernel) ?_
      exact ok_M_cycleGoes_84_p47 H _ _ _ _ _ _ h
    · refine And.intro (fun hp => absurd hp c1) (fun _ => ?_)
      obtain ⟨g12, h⟩ := px_gd h
      refine And.intro g12 ?_
      rcases px_ite h with ⟨c13, h⟩ | ⟨c13, h⟩
      · refine And.intro (fun hp => absurd c13 hp) (fun _ => ?_)
        obtain ⟨g14, h⟩ := px_gd h
        refine And.intro g14 ?_
        rcases px_ite h with ⟨c15, h⟩ | ⟨c15, h⟩
        · refine And.intro (fun hp => absurd c15 hp) (fun _ => ?_)
          obtain ⟨⟨vq16, σq16⟩, hq16, h⟩ := px_bind h
          dsimp only at h
          refine Exists.intro 6 (Exists.intro vq16 (Exists.intro σq16 (And.intro (Nat.le_of_ble_eq_true rfl) (And.intro (ok_M_comesDone_84 hq16) ?_))))
          exact ih _ _ _ _ h
        · refine And.intro (fun _ => ?_) (fun hn => absurd c15 hn)
          refine H [((5, 3, 0, 1, []), 3), ((12, 0, 2, 0, []), 3)] 36 _ _ _ (by decide +kernel) ?_
          exact ih _ _ _ _ h
      · refine And.intro (fun _ => ?_) (fun hn => absurd c13 hn)
        refine H [((5, 3, 0, 1, []), 3), ((12, 0, 2, 0, []), 3)] 36 _ _ _ (by decide +kernel) ?_
        exact ih _ _ _ _ h
theorem ok_M_cycleGoes_84_w {l : Launch} {rv : Int} {rσ : pS} {G : Nat → pL → List pV → pS → Prop} (H : px_R l 7 178 rv rσ G) : ∀ (a1 a2 : Int) (σ : pS), f_M_cycleGoes_84 a1 a2 σ = some (rv, rσ) → G 0 [some (.inr 84), some (.inl a1), some (.inl a2), none, none] [] σ := by
  intro a1 a2 σ h
  unfold f_M_cycleGoes_84 at h
  refine H [((0, 0, 0, 0, []), 1), ((3, 3, 0, 0, []), 1)] 0 _ _ _ (by decide +kernel) ?_
  exact ok_M_cycleGoes_84_p2 H _ _ _ _ _ h
theorem ok_M_cycleGoes_84 {l : Launch} {a1 a2 : Int} {σ : pS} {v : Int} {σ1 : pS} (h : f_M_cycleGoes_84 a1 a2 σ = some (v, σ1)) : Con l 7 178 [.inr 84, .inl a1, .inl a2] σ v σ1 := Con_mk 3 5 rfl (by decide +kernel) (fun _ H => ok_M_cycleGoes_84_w H _ _ _ h)
theorem ok_M_isOver_84_p2 {l : Launch} {rv : Int} {rσ : pS} {G : Nat → pL → List pV → pS → Prop} (H : px_R l 0 209 rv rσ G) : ∀ (n : Nat) (a1 : Int) (σ : pS), f_M_isOver_84_p2 n a1 σ = some (rv, rσ) → G 2 [some (.inr 84), some (.inl a1)] [] σ := by
  intro n
  induction n with
  | zero =>
    intro a1 σ h
    unfold f_M_isOver_84_p2 at h
    cases h
  | succ n ih =>
    intro a1 σ h
    unfold f_M_isOver_84_p2 at h
    refine H [((1, 1, 0, 0, []), 1), ((2, 0, 0, 0, []), 1), ((16, 84, 2, 0, []), 3), ((13, 3, 47, 0, []), 3), ((2, 0, 0, 0, []), 1), ((17, 84, 118, 0, []), 3), ((1, 1, 0, 0, []), 1), ((19, 118, 20, 0, []), 1), ((0, 0, 0, 2, []), 1), ((13, 1, 39, 0, []), 3), ((2, 0, 0, 0, []), 1), ((17, 84, 88, 0, []), 3), ((1, 1, 0, 0, []), 1), ((19, 88, 20, 0, []), 1), ((0, 0, 0, 3, []), 1), ((13, 1, 41, 0, []), 3), ((2, 0, 0, 0, []), 1), ((17, 84, 126, 0, []), 3), ((1, 1, 0, 0, []), 1), ((19, 126, 20, 0, []), 1), ((14, 1, 41, 0, []), 3), ((0, 0, 0, 0, []), 1), ((27, 1, 0, 0, []), 1)] 2 _ _ _ (by decide +kernel) ?_
    rcases px_ite h with ⟨c1, h⟩ | ⟨c1, h⟩
    · refine And.intro (fun _ => ?_) (fun hn => absurd c1 hn)
      refine H [((0, 0, 0, 1, []), 1), ((27, 1, 0, 0, []), 1)] 47 _ _ _ (by decide +kernel) ?_
      refine And.intro (show (0 : Int) ≤ 1 ∧ (1 : Int) ≤ 1 from by decide) ?_
      exact Prod.mk.inj (Option.some.inj h)
    · refine And.intro (fun hp => absurd hp c1) (fun _ => ?_)
      obtain ⟨g2, h⟩ := px_gd h
      refine And.intro g2 ?_
      rcases px_ite h with ⟨c3, h⟩ | ⟨c3, h⟩
      · refine And.intro (fun hp => absurd c3 hp) (fun _ => ?_)
        obtain ⟨g4, h⟩ := px_gd h
        refine And.intro g4 ?_
        rcases px_ite h with ⟨c5, h⟩ | ⟨c5, h⟩
        · refine And.intro (fun hp => absurd c5 hp) (fun _ => ?_)
          obtain ⟨g6, h⟩ := px_gd h
          refine And.intro g6 ?_
          rcases px_ite h with ⟨c7, h⟩ | ⟨c7, h⟩
          · refine And.intro (fun hp => absurd c7 hp) (fun _ => ?_)
            refine And.intro (show (0 : Int) ≤ 0 ∧ (0 : Int) ≤ 1 from by decide) ?_
            exact Prod.mk.inj (Option.some.inj h)
          · refine And.intro (fun _ => ?_) (fun hn => absurd c7 hn)
            refine H [((5, 1, 0, 1, []), 3), ((12, 0, 2, 0, []), 3)] 41 _ _ _ (by decide +kernel) ?_
            exact ih _ _ h
        · refine And.intro (fun _ => ?_) (fun hn => absurd c5 hn)
          refine H [((5, 1, 0, 1, []), 3), ((12, 0, 2, 0, []), 3)] 41 _ _ _ (by decide +kernel) ?_
          exact ih _ _ h
      · refine And.intro (fun _ => ?_) (fun hn => absurd c3 hn)
        refine H [((0, 0, 0, 0, []), 1), ((27, 1, 0, 0, []), 1)] 39 _ _ _ (by decide +kernel) ?_
        refine And.intro (show (0 : Int) ≤ 0 ∧ (0 : Int) ≤ 1 from by decide) ?_
        exact Prod.mk.inj (Option.some.inj h)
theorem ok_M_isOver_84_w {l : Launch} {rv : Int} {rσ : pS} {G : Nat → pL → List pV → pS → Prop} (H : px_R l 0 209 rv rσ G) : ∀ (σ : pS), f_M_isOver_84  σ = some (rv, rσ) → G 0 [some (.inr 84), none] [] σ := by
  intro  σ h
  unfold f_M_isOver_84 at h
  refine H [((0, 0, 0, 0, []), 1), ((3, 1, 0, 0, []), 1)] 0 _ _ _ (by decide +kernel) ?_
  exact ok_M_isOver_84_p2 H _ _ _ h
theorem ok_M_isOver_84 {l : Launch} {σ : pS} {v : Int} {σ1 : pS} (h : f_M_isOver_84  σ = some (v, σ1)) : Con l 0 209 [.inr 84] σ v σ1 := Con_mk 1 2 rfl (by decide +kernel) (fun _ H => ok_M_isOver_84_w H  _ h)
theorem ok_M_goesThrough_84_p177 {l : Launch} {rv : Int} {rσ : pS} {G : Nat → pL → List pV → pS → Prop} (H : px_R l 8 177 rv rσ G) : ∀ (n : Nat) (a3 : Int) (σ : pS), f_M_goesThrough_84_p177 n a3 σ = some (rv, rσ) → G 177 [some (.inr 84), none, none, some (.inl a3)] [] σ := by
  intro n
  induction n with
  | zero =>
    intro a3 σ h
    unfold f_M_goesThrough_84_p177 at h
    cases h
  | succ n ih =>
    intro a3 σ h
    unfold f_M_goesThrough_84_p177 at h
    refine H [((1, 3, 0, 0, []), 1), ((0, 0, 0, 8, []), 2), ((13, 3, 204, 0, []), 3), ((2, 0, 0, 0, []), 1), ((17, 84, 130, 0, []), 3), ((1, 3, 0, 0, []), 1), ((2, 0, 0, 0, []), 1), ((2, 0, 0, 0, []), 1), ((16, 84, 2, 0, []), 3), ((1, 3, 0, 0, []), 1), ((23, 180, 2, 1, [(0, 84)]), 3), ((20, 130, 8, 0, []), 1), ((5, 3, 0, 1, []), 3), ((12, 0, 177, 0, []), 3)] 177 _ _ _ (by decide +kernel) ?_
    rcases px_ite h with ⟨c5, h⟩ | ⟨c5, h⟩
    · refine And.intro (fun _ => ?_) (fun hn => absurd c5 hn)
      refine H [((2, 0, 0, 0, []), 1), ((16, 84, 63, 0, []), 3), ((0, 0, 0, (-5), []), 2), ((13, 0, 217, 0, []), 3), ((0, 0, 0, 1, []), 1), ((12, 0, 218, 0, []), 3), ((27, 1, 0, 0, []), 1)] 204 _ _ _ (by decide +kernel) ?_
      rcases px_ite h with ⟨c6, h⟩ | ⟨c6, h⟩
      · refine And.intro (fun _ => ?_) (fun hn => absurd c6 hn)
        refine H [((0, 0, 0, 0, []), 1), ((27, 1, 0, 0, []), 1)] 217 _ _ _ (by decide +kernel) ?_
        refine And.intro (show (0 : Int) ≤ 0 ∧ (0 : Int) ≤ 1 from by decide) ?_
        exact Prod.mk.inj (Option.some.inj h)
      · refine And.intro (fun hp => absurd hp c6) (fun _ => ?_)
        refine And.intro (show (0 : Int) ≤ 1 ∧ (1 : Int) ≤ 1 from by decide) ?_
        exact Prod.mk.inj (Option.some.inj h)
    · refine And.intro (fun hp => absurd hp c5) (fun _ => ?_)
      obtain ⟨⟨vq7, σq7⟩, hq7, h⟩ := px_bind h
      dsimp only at h
      refine Exists.intro 2 (Exists.intro vq7 (Exists.intro σq7 (And.intro (Nat.le_of_ble_eq_true rfl) (And.intro (ok_M_readBy_84 hq7) ?_))))
      obtain ⟨g8, h⟩ := px_gd h
      refine And.intro g8 ?_
      exact ih _ _ h
theorem ok_M_goesThrough_84_p133 {l : Launch} {rv : Int} {rσ : pS} {G : Nat → pL → List pV → pS → Prop} (H : px_R l 8 177 rv rσ G) : ∀ (n : Nat) (a1 a3 : Int) (σ : pS), f_M_goesThrough_84_p133 n a1 a3 σ = some (rv, rσ) → G 133 [some (.inr 84), some (.inl a1), none, some (.inl a3)] [] σ := by
  intro n
  induction n with
  | zero =>
    intro a1 a3 σ h
    unfold f_M_goesThrough_84_p133 at h
    cases h
  | succ n ih =>
    intro a1 a3 σ h
    unfold f_M_goesThrough_84_p133 at h
    refine H [((1, 3, 0, 0, []), 1), ((0, 0, 0, 2000, []), 3), ((13, 4, 175, 0, []), 3), ((2, 0, 0, 0, []), 1), ((16, 84, 63, 0, []), 3), ((0, 0, 0, (-5), []), 2), ((13, 1, 175, 0, []), 3), ((2, 0, 0, 0, []), 1), ((1, 3, 0, 0, []), 1), ((1, 1, 0, 0, []), 1), ((23, 178, 2, 0, [(0, 84)]), 3), ((2, 0, 0, 0, []), 1), ((23, 209, 0, 1, [(0, 84)]), 3), ((14, 0, 169, 0, []), 3), ((2, 0, 0, 0, []), 1), ((1, 3, 0, 0, []), 1), ((0, 0, 0, 1, []), 1), ((6, 0, 0, 0, []), 1), ((18, 84, 63, 0, []), 3), ((5, 3, 0, 1, []), 3), ((12, 0, 133, 0, []), 3)] 133 _ _ _ (by decide +kernel) ?_
    rcases px_ite h with ⟨c4, h⟩ | ⟨c4, h⟩
    · refine And.intro (fun _ => ?_) (fun hn => absurd c4 hn)
      refine H [((0, 0, 0, 0, []), 1), ((3, 3, 0, 0, []), 1), ((29, 1, 0, 0, []), 0)] 175 _ _ _ (by decide +kernel) ?_
      exact ok_M_goesThrough_84_p177 H _ _ _ h
    · refine And.intro (fun hp => absurd hp c4) (fun _ => ?_)
      rcases px_ite h with ⟨c9, h⟩ | ⟨c9, h⟩
      · refine And.intro (fun hp => absurd c9 hp) (fun _ => ?_)
        obtain ⟨⟨vq10, σq10⟩, hq10, h⟩ := px_bind h
        dsimp only at h
        refine Exists.intro 7 (Exists.intro vq10 (Exists.intro σq10 (And.intro (Nat.le_of_ble_eq_true rfl) (And.intro (ok_M_cycleGoes_84 hq10) ?_))))
        obtain ⟨⟨vq11, σq11⟩, hq11, h⟩ := px_bind h
        dsimp only at h
        refine Exists.intro 0 (Exists.intro vq11 (Exists.intro σq11 (And.intro (Nat.le_of_ble_eq_true rfl) (And.intro (ok_M_isOver_84 hq11) ?_))))
        rcases px_ite h with ⟨c12, h⟩ | ⟨c12, h⟩
        · refine And.intro (fun _ => ?_) (fun hn => absurd c12 hn)
          refine H [((5, 3, 0, 1, []), 3), ((12, 0, 133, 0, []), 3)] 169 _ _ _ (by decide +kernel) ?_
          exact ih _ _ _ h
        · refine And.intro (fun hp => absurd hp c12) (fun _ => ?_)
          exact ih _ _ _ h
      · refine And.intro (fun _ => ?_) (fun hn => absurd c9 hn)
        refine H [((0, 0, 0, 0, []), 1), ((3, 3, 0, 0, []), 1), ((29, 1, 0, 0, []), 0)] 175 _ _ _ (by decide +kernel) ?_
        exact ok_M_goesThrough_84_p177 H _ _ _ h
theorem ok_M_goesThrough_84_p95 {l : Launch} {rv : Int} {rσ : pS} {G : Nat → pL → List pV → pS → Prop} (H : px_R l 8 177 rv rσ G) : ∀ (n : Nat) (a1 a3 : Int) (σ : pS), f_M_goesThrough_84_p95 n a1 a3 σ = some (rv, rσ) → G 95 [some (.inr 84), some (.inl a1), none, some (.inl a3)] [] σ := by
  intro n
  induction n with
  | zero =>
    intro a1 a3 σ h
    unfold f_M_goesThrough_84_p95 at h
    cases h
  | succ n ih =>
    intro a1 a3 σ h
    unfold f_M_goesThrough_84_p95 at h
    refine H [((1, 3, 0, 0, []), 1), ((0, 0, 0, 64, []), 2), ((13, 3, 131, 0, []), 3), ((2, 0, 0, 0, []), 1), ((17, 84, 127, 0, []), 3), ((1, 3, 0, 0, []), 1), ((2, 0, 0, 0, []), 1), ((17, 84, 86, 0, []), 3), ((1, 3, 0, 0, []), 1), ((19, 86, 64, 0, []), 1), ((20, 127, 64, 0, []), 1), ((2, 0, 0, 0, []), 1), ((17, 84, 128, 0, []), 3), ((1, 3, 0, 0, []), 1), ((2, 0, 0, 0, []), 1), ((17, 84, 86, 0, []), 3), ((1, 3, 0, 0, []), 1), ((19, 86, 64, 0, []), 1), ((20, 128, 64, 0, []), 1), ((5, 3, 0, 1, []), 3), ((12, 0, 95, 0, []), 3)] 95 _ _ _ (by decide +kernel) ?_
    rcases px_ite h with ⟨c3, h⟩ | ⟨c3, h⟩
    · refine And.intro (fun _ => ?_) (fun hn => absurd c3 hn)
      refine H [((0, 0, 0, 0, []), 1), ((3, 3, 0, 0, []), 1)] 131 _ _ _ (by decide +kernel) ?_
      exact ok_M_goesThrough_84_p133 H _ _ _ _ h
    · refine And.intro (fun hp => absurd hp c3) (fun _ => ?_)
      obtain ⟨g13, h⟩ := px_gd h
      refine And.intro g13 ?_
      obtain ⟨g14, h⟩ := px_gd h
      refine And.intro g14 ?_
      obtain ⟨g15, h⟩ := px_gd h
      refine And.intro g15 ?_
      obtain ⟨g16, h⟩ := px_gd h
      refine And.intro g16 ?_
      exact ih _ _ _ h
theorem ok_M_goesThrough_84_p38 {l : Launch} {rv : Int} {rσ : pS} {G : Nat → pL → List pV → pS → Prop} (H : px_R l 8 177 rv rσ G) : ∀ (n : Nat) (a1 a3 : Int) (σ : pS), f_M_goesThrough_84_p38 n a1 a3 σ = some (rv, rσ) → G 38 [some (.inr 84), some (.inl a1), none, some (.inl a3)] [] σ := by
  intro n
  induction n with
  | zero =>
    intro a1 a3 σ h
    unfold f_M_goesThrough_84_p38 at h
    cases h
  | succ n ih =>
    intro a1 a3 σ h
    unfold f_M_goesThrough_84_p38 at h
    refine H [((1, 3, 0, 0, []), 1), ((2, 0, 0, 0, []), 1), ((16, 84, 2, 0, []), 3), ((13, 3, 85, 0, []), 3), ((2, 0, 0, 0, []), 1), ((17, 84, 118, 0, []), 3), ((1, 3, 0, 0, []), 1), ((0, 0, 0, 0, []), 1), ((20, 118, 20, 0, []), 1), ((2, 0, 0, 0, []), 1), ((17, 84, 126, 0, []), 3), ((1, 3, 0, 0, []), 1), ((0, 0, 0, 0, []), 1), ((20, 126, 20, 1, []), 1), ((2, 0, 0, 0, []), 1), ((17, 84, 123, 0, []), 3), ((1, 3, 0, 0, []), 1), ((0, 0, 0, 0, []), 1), ((20, 123, 20, 0, []), 1), ((2, 0, 0, 0, []), 1), ((17, 84, 129, 0, []), 3), ((1, 3, 0, 0, []), 1), ((2, 0, 0, 0, []), 1), ((17, 84, 87, 0, []), 3), ((1, 3, 0, 0, []), 1), ((19, 87, 20, 0, []), 1), ((20, 129, 20, 0, []), 1), ((5, 3, 0, 1, []), 3), ((12, 0, 38, 0, []), 3)] 38 _ _ _ (by decide +kernel) ?_
    rcases px_ite h with ⟨c2, h⟩ | ⟨c2, h⟩
    · refine And.intro (fun _ => ?_) (fun hn => absurd c2 hn)
      refine H [((2, 0, 0, 0, []), 1), ((2, 0, 0, 0, []), 1), ((16, 84, 3, 0, []), 3), ((18, 84, 69, 0, []), 3), ((0, 0, 0, 0, []), 1), ((3, 3, 0, 0, []), 1)] 85 _ _ _ (by decide +kernel) ?_
      exact ok_M_goesThrough_84_p95 H _ _ _ _ h
    · refine And.intro (fun hp => absurd hp c2) (fun _ => ?_)
      obtain ⟨g17, h⟩ := px_gd h
      refine And.intro g17 ?_
      obtain ⟨g18, h⟩ := px_gd h
      refine And.intro g18 ?_
      refine And.intro (show (0 : Int) ≤ 0 ∧ (0 : Int) ≤ 1 from by decide) ?_
      obtain ⟨g19, h⟩ := px_gd h
      refine And.intro g19 ?_
      obtain ⟨g20, h⟩ := px_gd h
      refine And.intro g20 ?_
      obtain ⟨g21, h⟩ := px_gd h
      refine And.intro g21 ?_
      exact ih _ _ _ h
theorem ok_M_goesThrough_84_w {l : Launch} {rv : Int} {rσ : pS} {G : Nat → pL → List pV → pS → Prop} (H : px_R l 8 177 rv rσ G) : ∀ (a1 a2 : Int) (σ : pS), f_M_goesThrough_84 a1 a2 σ = some (rv, rσ) → G 0 [some (.inr 84), some (.inl a1), some (.inl a2), none] [] σ := by
  intro a1 a2 σ h
  unfold f_M_goesThrough_84 at h
  refine H [((2, 0, 0, 0, []), 1), ((1, 2, 0, 0, []), 1), ((18, 84, 70, 1, []), 3), ((2, 0, 0, 0, []), 1), ((0, 0, 0, (-5), []), 2), ((18, 84, 63, 0, []), 3), ((2, 0, 0, 0, []), 1), ((0, 0, 0, 0, []), 1), ((18, 84, 64, 0, []), 3), ((2, 0, 0, 0, []), 1), ((0, 0, 0, 0, []), 1), ((18, 84, 65, 0, []), 3), ((2, 0, 0, 0, []), 1), ((0, 0, 0, 0, []), 1), ((18, 84, 66, 0, []), 3), ((2, 0, 0, 0, []), 1), ((0, 0, 0, 0, []), 1), ((18, 84, 67, 0, []), 3), ((2, 0, 0, 0, []), 1), ((0, 0, 0, 0, []), 1), ((18, 84, 68, 0, []), 3), ((0, 0, 0, 0, []), 1), ((3, 3, 0, 0, []), 1), ((29, 2, 0, 0, []), 0)] 0 _ _ _ (by decide +kernel) ?_
  obtain ⟨g1, h⟩ := px_gd h
  refine And.intro g1 ?_
  exact ok_M_goesThrough_84_p38 H _ _ _ _ h
theorem ok_M_goesThrough_84 {l : Launch} {a1 a2 : Int} {σ : pS} {v : Int} {σ1 : pS} (h : f_M_goesThrough_84 a1 a2 σ = some (v, σ1)) : Con l 8 177 [.inr 84, .inl a1, .inl a2] σ v σ1 := Con_mk 3 4 rfl (by decide +kernel) (fun _ H => ok_M_goesThrough_84_w H _ _ _ h)
theorem ok_M_toldOf_84_w {l : Launch} {rv : Int} {rσ : pS} {G : Nat → pL → List pV → pS → Prop} (H : px_R l 0 211 rv rσ G) : ∀ (a1 : Int) (σ : pS), f_M_toldOf_84 a1 σ = some (rv, rσ) → G 0 [some (.inr 84), some (.inl a1)] [] σ := by
  intro a1 σ h
  unfold f_M_toldOf_84 at h
  refine H [((1, 1, 0, 0, []), 1), ((15, 0, 61, 0, [(0, 36), (1, 41), (2, 46), (3, 51), (4, 56)]), 35)] 0 _ _ _ (by decide +kernel) ?_
  rcases px_ite h with ⟨c1, h⟩ | ⟨c1, h⟩
  · refine And.intro (fun _ => ?_) (fun hn => absurd c1 hn)
    refine H [((2, 0, 0, 0, []), 1), ((16, 84, 63, 0, []), 3), ((27, 0, 0, 0, []), 1)] 36 _ _ _ (by decide +kernel) ?_
    exact Prod.mk.inj (Option.some.inj h)
  · refine And.intro (fun hp => absurd hp c1) (fun _ => ?_)
    rcases px_ite h with ⟨c2, h⟩ | ⟨c2, h⟩
    · refine And.intro (fun _ => ?_) (fun hn => absurd c2 hn)
      refine H [((2, 0, 0, 0, []), 1), ((16, 84, 64, 0, []), 3), ((27, 0, 0, 0, []), 1)] 41 _ _ _ (by decide +kernel) ?_
      exact Prod.mk.inj (Option.some.inj h)
    · refine And.intro (fun hp => absurd hp c2) (fun _ => ?_)
      rcases px_ite h with ⟨c3, h⟩ | ⟨c3, h⟩
      · refine And.intro (fun _ => ?_) (fun hn => absurd c3 hn)
        refine H [((2, 0, 0, 0, []), 1), ((16, 84, 65, 0, []), 3), ((27, 0, 0, 0, []), 1)] 46 _ _ _ (by decide +kernel) ?_
        exact Prod.mk.inj (Option.some.inj h)
      · refine And.intro (fun hp => absurd hp c3) (fun _ => ?_)
        rcases px_ite h with ⟨c4, h⟩ | ⟨c4, h⟩
        · refine And.intro (fun _ => ?_) (fun hn => absurd c4 hn)
          refine H [((2, 0, 0, 0, []), 1), ((16, 84, 66, 0, []), 3), ((27, 0, 0, 0, []), 1)] 51 _ _ _ (by decide +kernel) ?_
          exact Prod.mk.inj (Option.some.inj h)
        · refine And.intro (fun hp => absurd hp c4) (fun _ => ?_)
          rcases px_ite h with ⟨c5, h⟩ | ⟨c5, h⟩
          · refine And.intro (fun _ => ?_) (fun hn => absurd c5 hn)
            refine H [((2, 0, 0, 0, []), 1), ((16, 84, 67, 0, []), 3), ((27, 0, 0, 0, []), 1)] 56 _ _ _ (by decide +kernel) ?_
            exact Prod.mk.inj (Option.some.inj h)
          · refine And.intro (fun hp => absurd hp c5) (fun _ => ?_)
            refine H [((2, 0, 0, 0, []), 1), ((16, 84, 68, 0, []), 3), ((27, 0, 0, 0, []), 1)] 61 _ _ _ (by decide +kernel) ?_
            exact Prod.mk.inj (Option.some.inj h)
theorem ok_M_toldOf_84 {l : Launch} {a1 : Int} {σ : pS} {v : Int} {σ1 : pS} (h : f_M_toldOf_84 a1 σ = some (v, σ1)) : Con l 0 211 [.inr 84, .inl a1] σ v σ1 := Con_mk 2 2 rfl (by decide +kernel) (fun _ H => ok_M_toldOf_84_w H _ _ h)
theorem ok_M_putsSetsBack_84_p2 {l : Launch} {rv : Int} {rσ : pS} {G : Nat → pL → List pV → pS → Prop} (H : px_R l 0 210 rv rσ G) : ∀ (n : Nat) (a1 : Int) (σ : pS), f_M_putsSetsBack_84_p2 n a1 σ = some (rv, rσ) → G 2 [some (.inr 84), some (.inl a1)] [] σ := by
  intro n
  induction n with
  | zero =>
    intro a1 σ h
    unfold f_M_putsSetsBack_84_p2 at h
    cases h
  | succ n ih =>
    intro a1 σ h
    unfold f_M_putsSetsBack_84_p2 at h
    refine H [((1, 1, 0, 0, []), 1), ((2, 0, 0, 0, []), 1), ((16, 84, 2, 0, []), 3), ((13, 3, 28, 0, []), 3), ((2, 0, 0, 0, []), 1), ((17, 84, 87, 0, []), 3), ((1, 1, 0, 0, []), 1), ((2, 0, 0, 0, []), 1), ((17, 84, 129, 0, []), 3), ((1, 1, 0, 0, []), 1), ((19, 129, 20, 0, []), 1), ((20, 87, 20, 0, []), 1), ((5, 1, 0, 1, []), 3), ((12, 0, 2, 0, []), 3)] 2 _ _ _ (by decide +kernel) ?_
    rcases px_ite h with ⟨c1, h⟩ | ⟨c1, h⟩
    · refine And.intro (fun _ => ?_) (fun hn => absurd c1 hn)
      refine H [((2, 0, 0, 0, []), 1), ((2, 0, 0, 0, []), 1), ((16, 84, 69, 0, []), 3), ((18, 84, 3, 0, []), 3), ((28, 0, 0, 0, []), 1)] 28 _ _ _ (by decide +kernel) ?_
      exact (Prod.mk.inj (Option.some.inj h)).2
    · refine And.intro (fun hp => absurd hp c1) (fun _ => ?_)
      obtain ⟨g2, h⟩ := px_gd h
      refine And.intro g2 ?_
      obtain ⟨g3, h⟩ := px_gd h
      refine And.intro g3 ?_
      exact ih _ _ h
theorem ok_M_putsSetsBack_84_w {l : Launch} {rv : Int} {rσ : pS} {G : Nat → pL → List pV → pS → Prop} (H : px_R l 0 210 rv rσ G) : ∀ (σ : pS), f_M_putsSetsBack_84  σ = some (rv, rσ) → G 0 [some (.inr 84), none] [] σ := by
  intro  σ h
  unfold f_M_putsSetsBack_84 at h
  refine H [((0, 0, 0, 0, []), 1), ((3, 1, 0, 0, []), 1)] 0 _ _ _ (by decide +kernel) ?_
  exact ok_M_putsSetsBack_84_p2 H _ _ _ h
theorem ok_M_putsSetsBack_84 {l : Launch} {σ : pS} {v : Int} {σ1 : pS} (h : f_M_putsSetsBack_84  σ = some (v, σ1)) : Con l 0 210 [.inr 84] σ v σ1 := Con_mk 1 2 rfl (by decide +kernel) (fun _ H => ok_M_putsSetsBack_84_w H  _ h)
theorem ok_M_run_84_p190 {l : Launch} {rv : Int} {rσ : pS} {G : Nat → pL → List pV → pS → Prop} (H : px_R l 9 175 rv rσ G) : ∀ (n : Nat) (a2 : Int) (σ : pS), f_M_run_84_p190 n a2 σ = some (rv, rσ) → G 190 [some (.inr 84), none, some (.inl a2)] [] σ := by
  intro n
  induction n with
  | zero =>
    intro a2 σ h
    unfold f_M_run_84_p190 at h
    cases h
  | succ n ih =>
    intro a2 σ h
    unfold f_M_run_84_p190 at h
    refine H [((1, 2, 0, 0, []), 1), ((0, 0, 0, 80, []), 2), ((13, 3, 214, 0, []), 3), ((2, 0, 0, 0, []), 1), ((17, 84, 139, 0, []), 3), ((1, 2, 0, 0, []), 1), ((2, 0, 0, 0, []), 1), ((17, 84, 124, 0, []), 3), ((1, 2, 0, 0, []), 1), ((19, 124, 80, 0, []), 1), ((20, 139, 80, 0, []), 1), ((5, 2, 0, 1, []), 3), ((12, 0, 190, 0, []), 3)] 190 _ _ _ (by decide +kernel) ?_
    rcases px_ite h with ⟨c10, h⟩ | ⟨c10, h⟩
    · refine And.intro (fun _ => ?_) (fun hn => absurd c10 hn)
      refine H [((2, 0, 0, 0, []), 1), ((16, 84, 63, 0, []), 3), ((27, 0, 0, 0, []), 1)] 214 _ _ _ (by decide +kernel) ?_
      exact Prod.mk.inj (Option.some.inj h)
    · refine And.intro (fun hp => absurd hp c10) (fun _ => ?_)
      obtain ⟨g11, h⟩ := px_gd h
      refine And.intro g11 ?_
      obtain ⟨g12, h⟩ := px_gd h
      refine And.intro g12 ?_
      exact ih _ _ h
theorem ok_M_run_84_p126 {l : Launch} {rv : Int} {rσ : pS} {G : Nat → pL → List pV → pS → Prop} (H : px_R l 9 175 rv rσ G) : ∀ (n : Nat) (a2 : Int) (σ : pS), f_M_run_84_p126 n a2 σ = some (rv, rσ) → G 126 [some (.inr 84), none, some (.inl a2)] [] σ := by
  intro n
  induction n with
  | zero =>
    intro a2 σ h
    unfold f_M_run_84_p126 at h
    cases h
  | succ n ih =>
    intro a2 σ h
    unfold f_M_run_84_p126 at h
    refine H [((1, 2, 0, 0, []), 1), ((2, 0, 0, 0, []), 1), ((16, 84, 2, 0, []), 3), ((13, 3, 188, 0, []), 3), ((2, 0, 0, 0, []), 1), ((17, 84, 135, 0, []), 3), ((1, 2, 0, 0, []), 1), ((2, 0, 0, 0, []), 1), ((17, 84, 122, 0, []), 3), ((1, 2, 0, 0, []), 1), ((19, 122, 20, 0, []), 1), ((20, 135, 20, 0, []), 1), ((2, 0, 0, 0, []), 1), ((17, 84, 136, 0, []), 3), ((1, 2, 0, 0, []), 1), ((2, 0, 0, 0, []), 1), ((17, 84, 123, 0, []), 3), ((1, 2, 0, 0, []), 1), ((19, 123, 20, 0, []), 1), ((20, 136, 20, 0, []), 1), ((2, 0, 0, 0, []), 1), ((17, 84, 137, 0, []), 3), ((1, 2, 0, 0, []), 1), ((2, 0, 0, 0, []), 1), ((17, 84, 120, 0, []), 3), ((1, 2, 0, 0, []), 1), ((19, 120, 20, 0, []), 1), ((20, 137, 20, 0, []), 1), ((2, 0, 0, 0, []), 1), ((17, 84, 138, 0, []), 3), ((1, 2, 0, 0, []), 1), ((2, 0, 0, 0, []), 1), ((17, 84, 121, 0, []), 3), ((1, 2, 0, 0, []), 1), ((19, 121, 20, 0, []), 1), ((20, 138, 20, 0, []), 1), ((5, 2, 0, 1, []), 3), ((12, 0, 126, 0, []), 3)] 126 _ _ _ (by decide +kernel) ?_
    rcases px_ite h with ⟨c9, h⟩ | ⟨c9, h⟩
    · refine And.intro (fun _ => ?_) (fun hn => absurd c9 hn)
      refine H [((0, 0, 0, 0, []), 1), ((3, 2, 0, 0, []), 1)] 188 _ _ _ (by decide +kernel) ?_
      exact ok_M_run_84_p190 H _ _ _ h
    · refine And.intro (fun hp => absurd hp c9) (fun _ => ?_)
      obtain ⟨g13, h⟩ := px_gd h
      refine And.intro g13 ?_
      obtain ⟨g14, h⟩ := px_gd h
      refine And.intro g14 ?_
      obtain ⟨g15, h⟩ := px_gd h
      refine And.intro g15 ?_
      obtain ⟨g16, h⟩ := px_gd h
      refine And.intro g16 ?_
      obtain ⟨g17, h⟩ := px_gd h
      refine And.intro g17 ?_
      obtain ⟨g18, h⟩ := px_gd h
      refine And.intro g18 ?_
      obtain ⟨g19, h⟩ := px_gd h
      refine And.intro g19 ?_
      obtain ⟨g20, h⟩ := px_gd h
      refine And.intro g20 ?_
      exact ih _ _ h
theorem ok_M_run_84_p101 {l : Launch} {rv : Int} {rσ : pS} {G : Nat → pL → List pV → pS → Prop} (H : px_R l 9 175 rv rσ G) : ∀ (n : Nat) (a2 : Int) (σ : pS), f_M_run_84_p101 n a2 σ = some (rv, rσ) → G 101 [some (.inr 84), none, some (.inl a2)] [] σ := by
  intro n
  induction n with
  | zero =>
    intro a2 σ h
    unfold f_M_run_84_p101 at h
    cases h
  | succ n ih =>
    intro a2 σ h
    unfold f_M_run_84_p101 at h
    refine H [((1, 2, 0, 0, []), 1), ((0, 0, 0, 6, []), 2), ((13, 3, 124, 0, []), 3), ((2, 0, 0, 0, []), 1), ((17, 84, 134, 0, []), 3), ((1, 2, 0, 0, []), 1), ((2, 0, 0, 0, []), 1), ((1, 2, 0, 0, []), 1), ((23, 211, 1, 1, [(0, 84)]), 3), ((20, 134, 6, 0, []), 1), ((5, 2, 0, 1, []), 3), ((12, 0, 101, 0, []), 3)] 101 _ _ _ (by decide +kernel) ?_
    rcases px_ite h with ⟨c8, h⟩ | ⟨c8, h⟩
    · refine And.intro (fun _ => ?_) (fun hn => absurd c8 hn)
      refine H [((0, 0, 0, 0, []), 1), ((3, 2, 0, 0, []), 1)] 124 _ _ _ (by decide +kernel) ?_
      exact ok_M_run_84_p126 H _ _ _ h
    · refine And.intro (fun hp => absurd hp c8) (fun _ => ?_)
      obtain ⟨⟨vq21, σq21⟩, hq21, h⟩ := px_bind h
      dsimp only at h
      refine Exists.intro 0 (Exists.intro vq21 (Exists.intro σq21 (And.intro (Nat.le_of_ble_eq_true rfl) (And.intro (ok_M_toldOf_84 hq21) ?_))))
      obtain ⟨g22, h⟩ := px_gd h
      refine And.intro g22 ?_
      exact ih _ _ h
theorem ok_M_run_84_p70 {l : Launch} {rv : Int} {rσ : pS} {G : Nat → pL → List pV → pS → Prop} (H : px_R l 9 175 rv rσ G) : ∀ (n : Nat) (a2 : Int) (σ : pS), f_M_run_84_p70 n a2 σ = some (rv, rσ) → G 70 [some (.inr 84), none, some (.inl a2)] [] σ := by
  intro n
  induction n with
  | zero =>
    intro a2 σ h
    unfold f_M_run_84_p70 at h
    cases h
  | succ n ih =>
    intro a2 σ h
    unfold f_M_run_84_p70 at h
    refine H [((1, 2, 0, 0, []), 1), ((0, 0, 0, 64, []), 2), ((13, 3, 94, 0, []), 3), ((2, 0, 0, 0, []), 1), ((17, 84, 86, 0, []), 3), ((1, 2, 0, 0, []), 1), ((2, 0, 0, 0, []), 1), ((17, 84, 128, 0, []), 3), ((1, 2, 0, 0, []), 1), ((19, 128, 64, 0, []), 1), ((20, 86, 64, 0, []), 1), ((5, 2, 0, 1, []), 3), ((12, 0, 70, 0, []), 3)] 70 _ _ _ (by decide +kernel) ?_
    rcases px_ite h with ⟨c7, h⟩ | ⟨c7, h⟩
    · refine And.intro (fun _ => ?_) (fun hn => absurd c7 hn)
      refine H [((2, 0, 0, 0, []), 1), ((0, 0, 0, 1, []), 1), ((18, 84, 75, 1, []), 3), ((0, 0, 0, 0, []), 1), ((3, 2, 0, 0, []), 1)] 94 _ _ _ (by decide +kernel) ?_
      refine And.intro (show (0 : Int) ≤ 1 ∧ (1 : Int) ≤ 1 from by decide) ?_
      exact ok_M_run_84_p101 H _ _ _ h
    · refine And.intro (fun hp => absurd hp c7) (fun _ => ?_)
      obtain ⟨g23, h⟩ := px_gd h
      refine And.intro g23 ?_
      obtain ⟨g24, h⟩ := px_gd h
      refine And.intro g24 ?_
      exact ih _ _ h
theorem ok_M_run_84_p44 {l : Launch} {rv : Int} {rσ : pS} {G : Nat → pL → List pV → pS → Prop} (H : px_R l 9 175 rv rσ G) : ∀ (n : Nat) (a2 : Int) (σ : pS), f_M_run_84_p44 n a2 σ = some (rv, rσ) → G 44 [some (.inr 84), none, some (.inl a2)] [] σ := by
  intro n
  induction n with
  | zero =>
    intro a2 σ h
    unfold f_M_run_84_p44 at h
    cases h
  | succ n ih =>
    intro a2 σ h
    unfold f_M_run_84_p44 at h
    refine H [((1, 2, 0, 0, []), 1), ((0, 0, 0, 8, []), 2), ((13, 3, 68, 0, []), 3), ((2, 0, 0, 0, []), 1), ((17, 84, 85, 0, []), 3), ((1, 2, 0, 0, []), 1), ((2, 0, 0, 0, []), 1), ((17, 84, 130, 0, []), 3), ((1, 2, 0, 0, []), 1), ((19, 130, 8, 0, []), 1), ((20, 85, 8, 0, []), 1), ((5, 2, 0, 1, []), 3), ((12, 0, 44, 0, []), 3)] 44 _ _ _ (by decide +kernel) ?_
    rcases px_ite h with ⟨c6, h⟩ | ⟨c6, h⟩
    · refine And.intro (fun _ => ?_) (fun hn => absurd c6 hn)
      refine H [((0, 0, 0, 0, []), 1), ((3, 2, 0, 0, []), 1)] 68 _ _ _ (by decide +kernel) ?_
      exact ok_M_run_84_p70 H _ _ _ h
    · refine And.intro (fun hp => absurd hp c6) (fun _ => ?_)
      obtain ⟨g25, h⟩ := px_gd h
      refine And.intro g25 ?_
      obtain ⟨g26, h⟩ := px_gd h
      refine And.intro g26 ?_
      exact ih _ _ h
theorem ok_M_run_84_w {l : Launch} {rv : Int} {rσ : pS} {G : Nat → pL → List pV → pS → Prop} (H : px_R l 9 175 rv rσ G) : ∀ (a1 : Int) (σ : pS), f_M_run_84 a1 σ = some (rv, rσ) → G 0 [some (.inr 84), some (.inl a1), none] [] σ := by
  intro a1 σ h
  unfold f_M_run_84 at h
  refine H [((2, 0, 0, 0, []), 1), ((1, 1, 0, 0, []), 1), ((23, 176, 1, 1, [(0, 84)]), 3), ((14, 1, 10, 0, []), 3), ((0, 0, 0, (-1), []), 1), ((27, 0, 0, 0, []), 1)] 0 _ _ _ (by decide +kernel) ?_
  obtain ⟨⟨vq1, σq1⟩, hq1, h⟩ := px_bind h
  dsimp only at h
  refine Exists.intro 1 (Exists.intro vq1 (Exists.intro σq1 (And.intro (Nat.le_of_ble_eq_true rfl) (And.intro (ok_M_canRun_84 hq1) ?_))))
  rcases px_ite h with ⟨c2, h⟩ | ⟨c2, h⟩
  · refine And.intro (fun hp => absurd c2 hp) (fun _ => ?_)
    exact Prod.mk.inj (Option.some.inj h)
  · refine And.intro (fun _ => ?_) (fun hn => absurd c2 hn)
    refine H [((2, 0, 0, 0, []), 1), ((1, 1, 0, 0, []), 1), ((0, 0, 0, 0, []), 1), ((23, 177, 2, 1, [(0, 84)]), 3), ((14, 1, 26, 0, []), 3), ((2, 0, 0, 0, []), 1), ((23, 210, 0, 0, [(0, 84)]), 3), ((0, 0, 0, (-5), []), 2), ((27, 0, 0, 0, []), 1)] 10 _ _ _ (by decide +kernel) ?_
    obtain ⟨⟨vq3, σq3⟩, hq3, h⟩ := px_bind h
    dsimp only at h
    refine Exists.intro 8 (Exists.intro vq3 (Exists.intro σq3 (And.intro (Nat.le_of_ble_eq_true rfl) (And.intro (ok_M_goesThrough_84 hq3) ?_))))
    rcases px_ite h with ⟨c4, h⟩ | ⟨c4, h⟩
    · refine And.intro (fun hp => absurd c4 hp) (fun _ => ?_)
      obtain ⟨⟨vq27, σq27⟩, hq27, h⟩ := px_bind h
      dsimp only at h
      refine Exists.intro 0 (Exists.intro vq27 (Exists.intro σq27 (And.intro (Nat.le_of_ble_eq_true rfl) (And.intro (ok_M_putsSetsBack_84 hq27) ?_))))
      exact Prod.mk.inj (Option.some.inj h)
    · refine And.intro (fun _ => ?_) (fun hn => absurd c4 hn)
      refine H [((2, 0, 0, 0, []), 1), ((0, 0, 0, 9999, []), 3), ((2, 0, 0, 0, []), 1), ((16, 84, 1, 0, []), 3), ((0, 0, 0, 1, []), 1), ((6, 0, 0, 0, []), 1), ((24, 190, 2, 1, []), 3), ((18, 84, 1, 0, []), 3), ((0, 0, 0, 0, []), 1), ((3, 2, 0, 0, []), 1), ((29, 1, 0, 0, []), 0)] 26 _ _ _ (by decide +kernel) ?_
      obtain ⟨⟨vq5, σq5⟩, hq5, h⟩ := px_bind h
      dsimp only at h
      refine Exists.intro 0 (Exists.intro vq5 (Exists.intro σq5 (And.intro (Nat.le_of_ble_eq_true rfl) (And.intro (ok_M_min hq5) ?_))))
      exact ok_M_run_84_p44 H _ _ _ h
theorem ok_M_run_84 {l : Launch} {a1 : Int} {σ : pS} {v : Int} {σ1 : pS} (h : f_M_run_84 a1 σ = some (v, σ1)) : Con l 9 175 [.inr 84, .inl a1] σ v σ1 := Con_mk 2 3 rfl (by decide +kernel) (fun _ H => ok_M_run_84_w H _ _ h)
theorem ok_X_register_0_w {l : Launch} {rv : Int} {rσ : pS} {G : Nat → pL → List pV → pS → Prop} (H : px_R l 0 10 rv rσ G) : ∀ (a1 a2 : Int) (σ : pS), f_X_register_0 a1 a2 σ = some (rv, rσ) → G 0 [some (.inr 0), some (.inl a1), some (.inl a2)] [] σ := by
  intro a1 a2 σ h
  unfold f_X_register_0 at h
  refine H [((1, 1, 0, 0, []), 1), ((14, 2, 10, 0, []), 3), ((1, 1, 0, 0, []), 1), ((0, 0, 0, 8, []), 2), ((13, 2, 12, 0, []), 3), ((0, 0, 0, 0, []), 1), ((27, 1, 0, 0, []), 1)] 0 _ _ _ (by decide +kernel) ?_
  rcases px_ite h with ⟨c1, h⟩ | ⟨c1, h⟩
  · refine And.intro (fun _ => ?_) (fun hn => absurd c1 hn)
    refine H [((0, 0, 0, 0, []), 1), ((27, 1, 0, 0, []), 1)] 10 _ _ _ (by decide +kernel) ?_
    refine And.intro (show (0 : Int) ≤ 0 ∧ (0 : Int) ≤ 1 from by decide) ?_
    exact Prod.mk.inj (Option.some.inj h)
  · refine And.intro (fun hp => absurd hp c1) (fun _ => ?_)
    rcases px_ite h with ⟨c2, h⟩ | ⟨c2, h⟩
    · refine And.intro (fun _ => ?_) (fun hn => absurd c2 hn)
      refine H [((2, 0, 0, 0, []), 1), ((17, 0, 3, 0, []), 3), ((17, 3, 24, 0, []), 3), ((17, 24, 25, 0, []), 3), ((1, 1, 0, 0, []), 1), ((1, 2, 0, 0, []), 1), ((20, 25, 8, 0, []), 1), ((0, 0, 0, 1, []), 1), ((27, 1, 0, 0, []), 1)] 12 _ _ _ (by decide +kernel) ?_
      obtain ⟨g3, h⟩ := px_gd h
      refine And.intro g3 ?_
      refine And.intro (show (0 : Int) ≤ 1 ∧ (1 : Int) ≤ 1 from by decide) ?_
      exact Prod.mk.inj (Option.some.inj h)
    · refine And.intro (fun hp => absurd hp c2) (fun _ => ?_)
      refine And.intro (show (0 : Int) ≤ 0 ∧ (0 : Int) ≤ 1 from by decide) ?_
      exact Prod.mk.inj (Option.some.inj h)
theorem ok_X_register_0 {l : Launch} {a1 a2 : Int} {σ : pS} {v : Int} {σ1 : pS} (h : f_X_register_0 a1 a2 σ = some (v, σ1)) : Con l 0 10 [.inr 0, .inl a1, .inl a2] σ v σ1 := Con_mk 3 3 rfl (by decide +kernel) (fun _ H => ok_X_register_0_w H _ _ _ h)
theorem ok_M_register_84_w {l : Launch} {rv : Int} {rσ : pS} {G : Nat → pL → List pV → pS → Prop} (H : px_R l 1 136 rv rσ G) : ∀ (a1 a2 : Int) (σ : pS), f_M_register_84 a1 a2 σ = some (rv, rσ) → G 0 [some (.inr 84), some (.inl a1), some (.inl a2)] [] σ := by
  intro a1 a2 σ h
  unfold f_M_register_84 at h
  refine H [((1, 1, 0, 0, []), 1), ((0, 0, 0, 0, []), 1), ((0, 0, 0, 7, []), 2), ((24, 137, 3, 1, []), 3), ((14, 1, 12, 0, []), 3), ((0, 0, 0, 0, []), 1), ((27, 1, 0, 0, []), 1)] 0 _ _ _ (by decide +kernel) ?_
  obtain ⟨⟨vq1, σq1⟩, hq1, h⟩ := px_bind h
  dsimp only at h
  refine Exists.intro 0 (Exists.intro vq1 (Exists.intro σq1 (And.intro (Nat.le_of_ble_eq_true rfl) (And.intro (ok_M_in hq1) ?_))))
  rcases px_ite h with ⟨c2, h⟩ | ⟨c2, h⟩
  · refine And.intro (fun hp => absurd c2 hp) (fun _ => ?_)
    refine And.intro (show (0 : Int) ≤ 0 ∧ (0 : Int) ≤ 1 from by decide) ?_
    exact Prod.mk.inj (Option.some.inj h)
  · refine And.intro (fun _ => ?_) (fun hn => absurd c2 hn)
    refine H [((2, 0, 0, 0, []), 1), ((17, 84, 85, 0, []), 3), ((1, 1, 0, 0, []), 1), ((1, 2, 0, 0, []), 1), ((20, 85, 8, 0, []), 1), ((0, 0, 0, 1, []), 1), ((27, 1, 0, 0, []), 1)] 12 _ _ _ (by decide +kernel) ?_
    obtain ⟨g3, h⟩ := px_gd h
    refine And.intro g3 ?_
    refine And.intro (show (0 : Int) ≤ 1 ∧ (1 : Int) ≤ 1 from by decide) ?_
    exact Prod.mk.inj (Option.some.inj h)
theorem ok_M_register_84 {l : Launch} {a1 a2 : Int} {σ : pS} {v : Int} {σ1 : pS} (h : f_M_register_84 a1 a2 σ = some (v, σ1)) : Con l 1 136 [.inr 84, .inl a1, .inl a2] σ v σ1 := Con_mk 3 3 rfl (by decide +kernel) (fun _ H => ok_M_register_84_w H _ _ _ h)
theorem ok_X_poke_0_w {l : Launch} {rv : Int} {rσ : pS} {G : Nat → pL → List pV → pS → Prop} (H : px_R l 0 11 rv rσ G) : ∀ (a1 a2 : Int) (σ : pS), f_X_poke_0 a1 a2 σ = some (rv, rσ) → G 0 [some (.inr 0), some (.inl a1), some (.inl a2)] [] σ := by
  intro a1 a2 σ h
  unfold f_X_poke_0 at h
  refine H [((1, 1, 0, 0, []), 1), ((14, 2, 21, 0, []), 3), ((1, 1, 0, 0, []), 1), ((0, 0, 0, 64, []), 2), ((13, 3, 21, 0, []), 3), ((1, 2, 0, 0, []), 1), ((14, 2, 21, 0, []), 3), ((1, 2, 0, 0, []), 1), ((0, 0, 0, 255, []), 3), ((13, 5, 23, 0, []), 3), ((0, 0, 0, 0, []), 1), ((27, 1, 0, 0, []), 1)] 0 _ _ _ (by decide +kernel) ?_
  rcases px_ite h with ⟨c1, h⟩ | ⟨c1, h⟩
  · refine And.intro (fun _ => ?_) (fun hn => absurd c1 hn)
    refine H [((0, 0, 0, 0, []), 1), ((27, 1, 0, 0, []), 1)] 21 _ _ _ (by decide +kernel) ?_
    refine And.intro (show (0 : Int) ≤ 0 ∧ (0 : Int) ≤ 1 from by decide) ?_
    exact Prod.mk.inj (Option.some.inj h)
  · refine And.intro (fun hp => absurd hp c1) (fun _ => ?_)
    rcases px_ite h with ⟨c2, h⟩ | ⟨c2, h⟩
    · refine And.intro (fun _ => ?_) (fun hn => absurd c2 hn)
      refine H [((0, 0, 0, 0, []), 1), ((27, 1, 0, 0, []), 1)] 21 _ _ _ (by decide +kernel) ?_
      refine And.intro (show (0 : Int) ≤ 0 ∧ (0 : Int) ≤ 1 from by decide) ?_
      exact Prod.mk.inj (Option.some.inj h)
    · refine And.intro (fun hp => absurd hp c2) (fun _ => ?_)
      rcases px_ite h with ⟨c3, h⟩ | ⟨c3, h⟩
      · refine And.intro (fun _ => ?_) (fun hn => absurd c3 hn)
        refine H [((0, 0, 0, 0, []), 1), ((27, 1, 0, 0, []), 1)] 21 _ _ _ (by decide +kernel) ?_
        refine And.intro (show (0 : Int) ≤ 0 ∧ (0 : Int) ≤ 1 from by decide) ?_
        exact Prod.mk.inj (Option.some.inj h)
      · refine And.intro (fun hp => absurd hp c3) (fun _ => ?_)
        rcases px_ite h with ⟨c4, h⟩ | ⟨c4, h⟩
        · refine And.intro (fun _ => ?_) (fun hn => absurd c4 hn)
          refine H [((2, 0, 0, 0, []), 1), ((17, 0, 3, 0, []), 3), ((17, 3, 24, 0, []), 3), ((17, 24, 26, 0, []), 3), ((1, 1, 0, 0, []), 1), ((1, 2, 0, 0, []), 1), ((20, 26, 64, 0, []), 1), ((0, 0, 0, 1, []), 1), ((27, 1, 0, 0, []), 1)] 23 _ _ _ (by decide +kernel) ?_
          obtain ⟨g5, h⟩ := px_gd h
          refine And.intro g5 ?_
          refine And.intro (show (0 : Int) ≤ 1 ∧ (1 : Int) ≤ 1 from by decide) ?_
          exact Prod.mk.inj (Option.some.inj h)
        · refine And.intro (fun hp => absurd hp c4) (fun _ => ?_)
          refine And.intro (show (0 : Int) ≤ 0 ∧ (0 : Int) ≤ 1 from by decide) ?_
          exact Prod.mk.inj (Option.some.inj h)
theorem ok_X_poke_0 {l : Launch} {a1 a2 : Int} {σ : pS} {v : Int} {σ1 : pS} (h : f_X_poke_0 a1 a2 σ = some (v, σ1)) : Con l 0 11 [.inr 0, .inl a1, .inl a2] σ v σ1 := Con_mk 3 3 rfl (by decide +kernel) (fun _ H => ok_X_poke_0_w H _ _ _ h)
theorem ok_M_poke_84_w {l : Launch} {rv : Int} {rσ : pS} {G : Nat → pL → List pV → pS → Prop} (H : px_R l 1 138 rv rσ G) : ∀ (a1 a2 : Int) (σ : pS), f_M_poke_84 a1 a2 σ = some (rv, rσ) → G 0 [some (.inr 84), some (.inl a1), some (.inl a2)] [] σ := by
  intro a1 a2 σ h
  unfold f_M_poke_84 at h
  refine H [((1, 1, 0, 0, []), 1), ((0, 0, 0, 0, []), 1), ((0, 0, 0, 63, []), 2), ((24, 137, 3, 1, []), 3), ((14, 0, 21, 0, []), 3), ((1, 2, 0, 0, []), 1), ((0, 0, 0, 0, []), 1), ((0, 0, 0, 255, []), 3), ((24, 137, 3, 1, []), 3), ((14, 1, 23, 0, []), 3), ((0, 0, 0, 0, []), 1), ((27, 1, 0, 0, []), 1)] 0 _ _ _ (by decide +kernel) ?_
  obtain ⟨⟨vq1, σq1⟩, hq1, h⟩ := px_bind h
  dsimp only at h
  refine Exists.intro 0 (Exists.intro vq1 (Exists.intro σq1 (And.intro (Nat.le_of_ble_eq_true rfl) (And.intro (ok_M_in hq1) ?_))))
  rcases px_ite h with ⟨c2, h⟩ | ⟨c2, h⟩
  · refine And.intro (fun _ => ?_) (fun hn => absurd c2 hn)
    refine H [((0, 0, 0, 0, []), 1), ((27, 1, 0, 0, []), 1)] 21 _ _ _ (by decide +kernel) ?_
    refine And.intro (show (0 : Int) ≤ 0 ∧ (0 : Int) ≤ 1 from by decide) ?_
    exact Prod.mk.inj (Option.some.inj h)
  · refine And.intro (fun hp => absurd hp c2) (fun _ => ?_)
    obtain ⟨⟨vq3, σq3⟩, hq3, h⟩ := px_bind h
    dsimp only at h
    refine Exists.intro 0 (Exists.intro vq3 (Exists.intro σq3 (And.intro (Nat.le_of_ble_eq_true rfl) (And.intro (ok_M_in hq3) ?_))))
    rcases px_ite h with ⟨c4, h⟩ | ⟨c4, h⟩
    · refine And.intro (fun hp => absurd c4 hp) (fun _ => ?_)
      refine And.intro (show (0 : Int) ≤ 0 ∧ (0 : Int) ≤ 1 from by decide) ?_
      exact Prod.mk.inj (Option.some.inj h)
    · refine And.intro (fun _ => ?_) (fun hn => absurd c4 hn)
      refine H [((2, 0, 0, 0, []), 1), ((17, 84, 86, 0, []), 3), ((1, 1, 0, 0, []), 1), ((1, 2, 0, 0, []), 1), ((20, 86, 64, 0, []), 1), ((0, 0, 0, 1, []), 1), ((27, 1, 0, 0, []), 1)] 23 _ _ _ (by decide +kernel) ?_
      obtain ⟨g5, h⟩ := px_gd h
      refine And.intro g5 ?_
      refine And.intro (show (0 : Int) ≤ 1 ∧ (1 : Int) ≤ 1 from by decide) ?_
      exact Prod.mk.inj (Option.some.inj h)
theorem ok_M_poke_84 {l : Launch} {a1 a2 : Int} {σ : pS} {v : Int} {σ1 : pS} (h : f_M_poke_84 a1 a2 σ = some (v, σ1)) : Con l 1 138 [.inr 84, .inl a1, .inl a2] σ v σ1 := Con_mk 3 3 rfl (by decide +kernel) (fun _ H => ok_M_poke_84_w H _ _ _ h)
theorem ok_X_isTotal_w {l : Launch} {rv : Int} {rσ : pS} {G : Nat → pL → List pV → pS → Prop} (H : px_R l 0 100 rv rσ G) : ∀ (a0 : Int) (σ : pS), f_X_isTotal a0 σ = some (rv, rσ) → G 0 [some (.inl a0)] [] σ := by
  intro a0 σ h
  unfold f_X_isTotal at h
  refine H [((1, 0, 0, 0, []), 1), ((14, 2, 14, 0, []), 3), ((1, 0, 0, 0, []), 1), ((0, 0, 0, 6, []), 2), ((13, 3, 14, 0, []), 3), ((0, 0, 0, 1, []), 1), ((12, 0, 15, 0, []), 3), ((27, 1, 0, 0, []), 1)] 0 _ _ _ (by decide +kernel) ?_
  rcases px_ite h with ⟨c1, h⟩ | ⟨c1, h⟩
  · refine And.intro (fun _ => ?_) (fun hn => absurd c1 hn)
    refine H [((0, 0, 0, 0, []), 1), ((27, 1, 0, 0, []), 1)] 14 _ _ _ (by decide +kernel) ?_
    refine And.intro (show (0 : Int) ≤ 0 ∧ (0 : Int) ≤ 1 from by decide) ?_
    exact Prod.mk.inj (Option.some.inj h)
  · refine And.intro (fun hp => absurd hp c1) (fun _ => ?_)
    rcases px_ite h with ⟨c2, h⟩ | ⟨c2, h⟩
    · refine And.intro (fun _ => ?_) (fun hn => absurd c2 hn)
      refine H [((0, 0, 0, 0, []), 1), ((27, 1, 0, 0, []), 1)] 14 _ _ _ (by decide +kernel) ?_
      refine And.intro (show (0 : Int) ≤ 0 ∧ (0 : Int) ≤ 1 from by decide) ?_
      exact Prod.mk.inj (Option.some.inj h)
    · refine And.intro (fun hp => absurd hp c2) (fun _ => ?_)
      refine And.intro (show (0 : Int) ≤ 1 ∧ (1 : Int) ≤ 1 from by decide) ?_
      exact Prod.mk.inj (Option.some.inj h)
theorem ok_X_isTotal {l : Launch} {a0 : Int} {σ : pS} {v : Int} {σ1 : pS} (h : f_X_isTotal a0 σ = some (v, σ1)) : Con l 0 100 [.inl a0] σ v σ1 := Con_mk 1 1 rfl (by decide +kernel) (fun _ H => ok_X_isTotal_w H _ _ h)
theorem ok_X_isByte_w {l : Launch} {rv : Int} {rσ : pS} {G : Nat → pL → List pV → pS → Prop} (H : px_R l 0 101 rv rσ G) : ∀ (a0 : Int) (σ : pS), f_X_isByte a0 σ = some (rv, rσ) → G 0 [some (.inl a0)] [] σ := by
  intro a0 σ h
  unfold f_X_isByte at h
  refine H [((1, 0, 0, 0, []), 1), ((0, 0, 0, 100, []), 2), ((13, 2, 17, 0, []), 3), ((1, 0, 0, 0, []), 1), ((0, 0, 0, 164, []), 3), ((13, 3, 17, 0, []), 3), ((0, 0, 0, 1, []), 1), ((12, 0, 18, 0, []), 3), ((27, 1, 0, 0, []), 1)] 0 _ _ _ (by decide +kernel) ?_
  rcases px_ite h with ⟨c1, h⟩ | ⟨c1, h⟩
  · refine And.intro (fun _ => ?_) (fun hn => absurd c1 hn)
    refine H [((0, 0, 0, 0, []), 1), ((27, 1, 0, 0, []), 1)] 17 _ _ _ (by decide +kernel) ?_
    refine And.intro (show (0 : Int) ≤ 0 ∧ (0 : Int) ≤ 1 from by decide) ?_
    exact Prod.mk.inj (Option.some.inj h)
  · refine And.intro (fun hp => absurd hp c1) (fun _ => ?_)
    rcases px_ite h with ⟨c2, h⟩ | ⟨c2, h⟩
    · refine And.intro (fun _ => ?_) (fun hn => absurd c2 hn)
      refine H [((0, 0, 0, 0, []), 1), ((27, 1, 0, 0, []), 1)] 17 _ _ _ (by decide +kernel) ?_
      refine And.intro (show (0 : Int) ≤ 0 ∧ (0 : Int) ≤ 1 from by decide) ?_
      exact Prod.mk.inj (Option.some.inj h)
    · refine And.intro (fun hp => absurd hp c2) (fun _ => ?_)
      refine And.intro (show (0 : Int) ≤ 1 ∧ (1 : Int) ≤ 1 from by decide) ?_
      exact Prod.mk.inj (Option.some.inj h)
theorem ok_X_isByte {l : Launch} {a0 : Int} {σ : pS} {v : Int} {σ1 : pS} (h : f_X_isByte a0 σ = some (v, σ1)) : Con l 0 101 [.inl a0] σ v σ1 := Con_mk 1 1 rfl (by decide +kernel) (fun _ H => ok_X_isByte_w H _ _ h)
theorem ok_X_tried_0_p75 {l : Launch} {rv : Int} {rσ : pS} {G : Nat → pL → List pV → pS → Prop} (H : px_R l 6 99 rv rσ G) : ∀ (a2 a3 : Int) (σ : pS), f_X_tried_0_p75 a2 a3 σ = some (rv, rσ) → G 75 [some (.inr 0), none, some (.inl a2), some (.inl a3), none] [.inr 24] σ := by
  intro a2 a3 σ h
  unfold f_X_tried_0_p75 at h
  refine H [((4, 4, 0, 0, []), 2), ((1, 2, 0, 0, []), 1), ((24, 101, 1, 1, []), 3), ((14, 0, 95, 0, []), 3), ((2, 4, 0, 0, []), 2), ((17, 24, 26, 0, []), 3), ((1, 2, 0, 0, []), 1), ((0, 0, 0, 100, []), 2), ((6, 1, 0, 0, []), 1), ((19, 26, 64, 0, []), 1), ((27, 0, 0, 0, []), 1)] 75 _ _ _ (by decide +kernel) ?_
  obtain ⟨⟨vq8, σq8⟩, hq8, h⟩ := px_bind h
  dsimp only at h
  refine Exists.intro 0 (Exists.intro vq8 (Exists.intro σq8 (And.intro (Nat.le_of_ble_eq_true rfl) (And.intro (ok_X_isByte hq8) ?_))))
  rcases px_ite h with ⟨c9, h⟩ | ⟨c9, h⟩
  · refine And.intro (fun _ => ?_) (fun hn => absurd c9 hn)
    refine H [((1, 2, 0, 0, []), 1), ((0, 0, 0, 10, []), 2), ((6, 1, 0, 0, []), 1), ((24, 52, 1, 1, []), 3), ((14, 0, 116, 0, []), 3), ((2, 4, 0, 0, []), 2), ((17, 24, 25, 0, []), 3), ((1, 2, 0, 0, []), 1), ((0, 0, 0, 10, []), 2), ((6, 1, 0, 0, []), 1), ((19, 25, 8, 0, []), 1), ((27, 0, 0, 0, []), 1)] 95 _ _ _ (by decide +kernel) ?_
    obtain ⟨⟨vq10, σq10⟩, hq10, h⟩ := px_bind h
    dsimp only at h
    refine Exists.intro 0 (Exists.intro vq10 (Exists.intro σq10 (And.intro (Nat.le_of_ble_eq_true rfl) (And.intro (ok_X_isCell hq10) ?_))))
    rcases px_ite h with ⟨c11, h⟩ | ⟨c11, h⟩
    · refine And.intro (fun _ => ?_) (fun hn => absurd c11 hn)
      refine H [((1, 3, 0, 0, []), 1), ((14, 0, 135, 0, []), 3), ((2, 0, 0, 0, []), 1), ((17, 0, 3, 0, []), 3), ((17, 3, 32, 0, []), 3), ((17, 32, 33, 0, []), 3), ((1, 2, 0, 0, []), 1), ((19, 33, 6, 0, []), 1), ((12, 0, 137, 0, []), 3), ((27, 0, 0, 0, []), 1)] 116 _ _ _ (by decide +kernel) ?_
      rcases px_ite h with ⟨c12, h⟩ | ⟨c12, h⟩
      · refine And.intro (fun _ => ?_) (fun hn => absurd c12 hn)
        refine H [((0, 0, 0, (-5), []), 2), ((27, 0, 0, 0, []), 1)] 135 _ _ _ (by decide +kernel) ?_
        exact Prod.mk.inj (Option.some.inj h)
      · refine And.intro (fun hp => absurd hp c12) (fun _ => ?_)
        obtain ⟨g13, h⟩ := px_gd h
        refine And.intro g13 ?_
        exact Prod.mk.inj (Option.some.inj h)
    · refine And.intro (fun hp => absurd hp c11) (fun _ => ?_)
      obtain ⟨g14, h⟩ := px_gd h
      refine And.intro g14 ?_
      exact Prod.mk.inj (Option.some.inj h)
  · refine And.intro (fun hp => absurd hp c9) (fun _ => ?_)
    obtain ⟨g15, h⟩ := px_gd h
    refine And.intro g15 ?_
    exact Prod.mk.inj (Option.some.inj h)
theorem ok_X_tried_0_p75b {l : Launch} {rv : Int} {rσ : pS} {G : Nat → pL → List pV → pS → Prop} (H : px_R l 6 99 rv rσ G) : ∀ (a2 a3 : Int) (σ : pS), f_X_tried_0_p75b a2 a3 σ = some (rv, rσ) → G 75 [some (.inr 0), none, some (.inl a2), some (.inl a3), none] [.inr 28] σ := by
  intro a2 a3 σ h
  unfold f_X_tried_0_p75b at h
  refine H [((4, 4, 0, 0, []), 2), ((1, 2, 0, 0, []), 1), ((24, 101, 1, 1, []), 3), ((14, 0, 95, 0, []), 3), ((2, 4, 0, 0, []), 2), ((17, 28, 30, 0, []), 3), ((1, 2, 0, 0, []), 1), ((0, 0, 0, 100, []), 2), ((6, 1, 0, 0, []), 1), ((19, 30, 64, 0, []), 1), ((27, 0, 0, 0, []), 1)] 75 _ _ _ (by decide +kernel) ?_
  obtain ⟨⟨vq16, σq16⟩, hq16, h⟩ := px_bind h
  dsimp only at h
  refine Exists.intro 0 (Exists.intro vq16 (Exists.intro σq16 (And.intro (Nat.le_of_ble_eq_true rfl) (And.intro (ok_X_isByte hq16) ?_))))
  rcases px_ite h with ⟨c17, h⟩ | ⟨c17, h⟩
  · refine And.intro (fun _ => ?_) (fun hn => absurd c17 hn)
    refine H [((1, 2, 0, 0, []), 1), ((0, 0, 0, 10, []), 2), ((6, 1, 0, 0, []), 1), ((24, 52, 1, 1, []), 3), ((14, 0, 116, 0, []), 3), ((2, 4, 0, 0, []), 2), ((17, 28, 29, 0, []), 3), ((1, 2, 0, 0, []), 1), ((0, 0, 0, 10, []), 2), ((6, 1, 0, 0, []), 1), ((19, 29, 8, 0, []), 1), ((27, 0, 0, 0, []), 1)] 95 _ _ _ (by decide +kernel) ?_
    obtain ⟨⟨vq18, σq18⟩, hq18, h⟩ := px_bind h
    dsimp only at h
    refine Exists.intro 0 (Exists.intro vq18 (Exists.intro σq18 (And.intro (Nat.le_of_ble_eq_true rfl) (And.intro (ok_X_isCell hq18) ?_))))
    rcases px_ite h with ⟨c19, h⟩ | ⟨c19, h⟩
    · refine And.intro (fun _ => ?_) (fun hn => absurd c19 hn)
      refine H [((1, 3, 0, 0, []), 1), ((14, 0, 135, 0, []), 3), ((2, 0, 0, 0, []), 1), ((17, 0, 3, 0, []), 3), ((17, 3, 32, 0, []), 3), ((17, 32, 33, 0, []), 3), ((1, 2, 0, 0, []), 1), ((19, 33, 6, 0, []), 1), ((12, 0, 137, 0, []), 3), ((27, 0, 0, 0, []), 1)] 116 _ _ _ (by decide +kernel) ?_
      rcases px_ite h with ⟨c20, h⟩ | ⟨c20, h⟩
      · refine And.intro (fun _ => ?_) (fun hn => absurd c20 hn)
        refine H [((0, 0, 0, (-5), []), 2), ((27, 0, 0, 0, []), 1)] 135 _ _ _ (by decide +kernel) ?_
        exact Prod.mk.inj (Option.some.inj h)
      · refine And.intro (fun hp => absurd hp c20) (fun _ => ?_)
        obtain ⟨g21, h⟩ := px_gd h
        refine And.intro g21 ?_
        exact Prod.mk.inj (Option.some.inj h)
    · refine And.intro (fun hp => absurd hp c19) (fun _ => ?_)
      obtain ⟨g22, h⟩ := px_gd h
      refine And.intro g22 ?_
      exact Prod.mk.inj (Option.some.inj h)
  · refine And.intro (fun hp => absurd hp c17) (fun _ => ?_)
    obtain ⟨g23, h⟩ := px_gd h
    refine And.intro g23 ?_
    exact Prod.mk.inj (Option.some.inj h)
theorem ok_X_tried_0_p53 {l : Launch} {rv : Int} {rσ : pS} {G : Nat → pL → List pV → pS → Prop} (H : px_R l 6 99 rv rσ G) : ∀ (a2 s0 : Int) (σ : pS), f_X_tried_0_p53 a2 s0 σ = some (rv, rσ) → G 53 [some (.inr 0), none, some (.inl a2), none, none] [.inl s0] σ := by
  intro a2 s0 σ h
  unfold f_X_tried_0_p53 at h
  refine H [((3, 3, 0, 0, []), 1), ((1, 3, 0, 0, []), 1), ((14, 0, 68, 0, []), 3), ((2, 0, 0, 0, []), 1), ((17, 0, 3, 0, []), 3), ((17, 3, 28, 0, []), 3), ((12, 0, 75, 0, []), 3)] 53 _ _ _ (by decide +kernel) ?_
  rcases px_ite h with ⟨c7, h⟩ | ⟨c7, h⟩
  · refine And.intro (fun _ => ?_) (fun hn => absurd c7 hn)
    refine H [((2, 0, 0, 0, []), 1), ((17, 0, 3, 0, []), 3), ((17, 3, 24, 0, []), 3)] 68 _ _ _ (by decide +kernel) ?_
    exact ok_X_tried_0_p75 H _ _ _ h
  · refine And.intro (fun hp => absurd hp c7) (fun _ => ?_)
    exact ok_X_tried_0_p75b H _ _ _ h
theorem ok_X_tried_0_p34 {l : Launch} {rv : Int} {rσ : pS} {G : Nat → pL → List pV → pS → Prop} (H : px_R l 6 99 rv rσ G) : ∀ (a1 a2 : Int) (σ : pS), f_X_tried_0_p34 a1 a2 σ = some (rv, rσ) → G 34 [some (.inr 0), some (.inl a1), some (.inl a2), none, none] [] σ := by
  intro a1 a2 σ h
  unfold f_X_tried_0_p34 at h
  refine H [((2, 0, 0, 0, []), 1), ((17, 0, 3, 0, []), 3), ((1, 1, 0, 0, []), 1), ((0, 0, 0, 0, []), 1), ((23, 59, 2, 1, [(0, 3)]), 3), ((0, 0, 0, (-5), []), 2), ((13, 0, 52, 0, []), 3), ((0, 0, 0, 1, []), 1), ((12, 0, 53, 0, []), 3), ((29, 1, 0, 0, []), 0)] 34 _ _ _ (by decide +kernel) ?_
  obtain ⟨⟨vq5, σq5⟩, hq5, h⟩ := px_bind h
  dsimp only at h
  refine Exists.intro 5 (Exists.intro vq5 (Exists.intro σq5 (And.intro (Nat.le_of_ble_eq_true rfl) (And.intro (ok_Mach_go_3 hq5) ?_))))
  rcases px_ite h with ⟨c6, h⟩ | ⟨c6, h⟩
  · refine And.intro (fun _ => ?_) (fun hn => absurd c6 hn)
    refine H [((0, 0, 0, 0, []), 1), ((29, 1, 0, 0, []), 0)] 52 _ _ _ (by decide +kernel) ?_
    exact ok_X_tried_0_p53 H _ _ _ h
  · refine And.intro (fun hp => absurd hp c6) (fun _ => ?_)
    exact ok_X_tried_0_p53 H _ _ _ h
theorem ok_X_tried_0_w {l : Launch} {rv : Int} {rσ : pS} {G : Nat → pL → List pV → pS → Prop} (H : px_R l 6 99 rv rσ G) : ∀ (a1 a2 : Int) (σ : pS), f_X_tried_0 a1 a2 σ = some (rv, rσ) → G 0 [some (.inr 0), some (.inl a1), some (.inl a2), none, none] [] σ := by
  intro a1 a2 σ h
  unfold f_X_tried_0 at h
  refine H [((2, 0, 0, 0, []), 1), ((1, 1, 0, 0, []), 1), ((23, 58, 1, 1, [(0, 0)]), 3), ((14, 0, 32, 0, []), 3), ((1, 2, 0, 0, []), 1), ((24, 100, 1, 1, []), 3), ((14, 1, 34, 0, []), 3), ((1, 2, 0, 0, []), 1), ((0, 0, 0, 10, []), 2), ((6, 1, 0, 0, []), 1), ((24, 52, 1, 1, []), 3), ((14, 1, 34, 0, []), 3), ((1, 2, 0, 0, []), 1), ((24, 101, 1, 1, []), 3), ((14, 1, 34, 0, []), 3), ((0, 0, 0, (-1), []), 1), ((27, 0, 0, 0, []), 1)] 0 _ _ _ (by decide +kernel) ?_
  obtain ⟨⟨vq1, σq1⟩, hq1, h⟩ := px_bind h
  dsimp only at h
  refine Exists.intro 0 (Exists.intro vq1 (Exists.intro σq1 (And.intro (Nat.le_of_ble_eq_true rfl) (And.intro (ok_X_canRun_0 hq1) ?_))))
  rcases px_ite h with ⟨c2, h⟩ | ⟨c2, h⟩
  · refine And.intro (fun _ => ?_) (fun hn => absurd c2 hn)
    refine H [((0, 0, 0, (-1), []), 1), ((27, 0, 0, 0, []), 1)] 32 _ _ _ (by decide +kernel) ?_
    exact Prod.mk.inj (Option.some.inj h)
  · refine And.intro (fun hp => absurd hp c2) (fun _ => ?_)
    obtain ⟨⟨vq3, σq3⟩, hq3, h⟩ := px_bind h
    dsimp only at h
    refine Exists.intro 0 (Exists.intro vq3 (Exists.intro σq3 (And.intro (Nat.le_of_ble_eq_true rfl) (And.intro (ok_X_isTotal hq3) ?_))))
    rcases px_ite h with ⟨c4, h⟩ | ⟨c4, h⟩
    · refine And.intro (fun hp => absurd c4 hp) (fun _ => ?_)
      obtain ⟨⟨vq24, σq24⟩, hq24, h⟩ := px_bind h
      dsimp only at h
      refine Exists.intro 0 (Exists.intro vq24 (Exists.intro σq24 (And.intro (Nat.le_of_ble_eq_true rfl) (And.intro (ok_X_isCell hq24) ?_))))
      rcases px_ite h with ⟨c25, h⟩ | ⟨c25, h⟩
      · refine And.intro (fun hp => absurd c25 hp) (fun _ => ?_)
        obtain ⟨⟨vq26, σq26⟩, hq26, h⟩ := px_bind h
        dsimp only at h
        refine Exists.intro 0 (Exists.intro vq26 (Exists.intro σq26 (And.intro (Nat.le_of_ble_eq_true rfl) (And.intro (ok_X_isByte hq26) ?_))))
        rcases px_ite h with ⟨c27, h⟩ | ⟨c27, h⟩
        · refine And.intro (fun hp => absurd c27 hp) (fun _ => ?_)
          exact Prod.mk.inj (Option.some.inj h)
        · refine And.intro (fun _ => ?_) (fun hn => absurd c27 hn)
          exact ok_X_tried_0_p34 H _ _ _ h
      · refine And.intro (fun _ => ?_) (fun hn => absurd c25 hn)
        exact ok_X_tried_0_p34 H _ _ _ h
    · refine And.intro (fun _ => ?_) (fun hn => absurd c4 hn)
      exact ok_X_tried_0_p34 H _ _ _ h
theorem ok_X_tried_0 {l : Launch} {a1 a2 : Int} {σ : pS} {v : Int} {σ1 : pS} (h : f_X_tried_0 a1 a2 σ = some (v, σ1)) : Con l 6 99 [.inr 0, .inl a1, .inl a2] σ v σ1 := Con_mk 3 5 rfl (by decide +kernel) (fun _ H => ok_X_tried_0_w H _ _ _ h)
theorem ok_M_isTried_84_w {l : Launch} {rv : Int} {rσ : pS} {G : Nat → pL → List pV → pS → Prop} (H : px_R l 9 213 rv rσ G) : ∀ (a1 a2 : Int) (σ : pS), f_M_isTried_84 a1 a2 σ = some (rv, rσ) → G 0 [some (.inr 84), some (.inl a1), some (.inl a2), none, none] [] σ := by
  intro a1 a2 σ h
  unfold f_M_isTried_84 at h
  refine H [((2, 0, 0, 0, []), 1), ((16, 84, 0, 0, []), 3), ((3, 3, 0, 0, []), 1), ((2, 0, 0, 0, []), 1), ((1, 1, 0, 0, []), 1), ((1, 2, 0, 0, []), 1), ((23, 177, 2, 1, [(0, 84)]), 3), ((3, 4, 0, 0, []), 2), ((2, 0, 0, 0, []), 1), ((1, 3, 0, 0, []), 1), ((18, 84, 0, 0, []), 3), ((2, 0, 0, 0, []), 1), ((23, 210, 0, 0, [(0, 84)]), 3), ((1, 4, 0, 0, []), 2), ((27, 1, 0, 0, []), 1)] 0 _ _ _ (by decide +kernel) ?_
  obtain ⟨⟨vq1, σq1⟩, hq1, h⟩ := px_bind h
  dsimp only at h
  refine Exists.intro 8 (Exists.intro vq1 (Exists.intro σq1 (And.intro (Nat.le_of_ble_eq_true rfl) (And.intro (ok_M_goesThrough_84 hq1) ?_))))
  obtain ⟨⟨vq2, σq2⟩, hq2, h⟩ := px_bind h
  dsimp only at h
  refine Exists.intro 0 (Exists.intro vq2 (Exists.intro σq2 (And.intro (Nat.le_of_ble_eq_true rfl) (And.intro (ok_M_putsSetsBack_84 hq2) ?_))))
  obtain ⟨g3, h⟩ := px_gd h
  refine And.intro g3 ?_
  exact Prod.mk.inj (Option.some.inj h)
theorem ok_M_isTried_84 {l : Launch} {a1 a2 : Int} {σ : pS} {v : Int} {σ1 : pS} (h : f_M_isTried_84 a1 a2 σ = some (v, σ1)) : Con l 9 213 [.inr 84, .inl a1, .inl a2] σ v σ1 := Con_mk 3 5 rfl (by decide +kernel) (fun _ H => ok_M_isTried_84_w H _ _ _ h)
theorem ok_M_tried_84_p37 {l : Launch} {rv : Int} {rσ : pS} {G : Nat → pL → List pV → pS → Prop} (H : px_R l 10 212 rv rσ G) : ∀ (a1 a2 s0 : Int) (σ : pS), f_M_tried_84_p37 a1 a2 s0 σ = some (rv, rσ) → G 37 [some (.inr 84), some (.inl a1), some (.inl a2), none, none] [.inl s0] σ := by
  intro a1 a2 s0 σ h
  unfold f_M_tried_84_p37 at h
  refine H [((3, 3, 0, 0, []), 1), ((2, 0, 0, 0, []), 1), ((1, 1, 0, 0, []), 1), ((23, 176, 1, 1, [(0, 84)]), 3), ((14, 0, 50, 0, []), 3), ((1, 3, 0, 0, []), 1), ((14, 1, 52, 0, []), 3), ((0, 0, 0, (-1), []), 1), ((27, 0, 0, 0, []), 1)] 37 _ _ _ (by decide +kernel) ?_
  obtain ⟨⟨vq3, σq3⟩, hq3, h⟩ := px_bind h
  dsimp only at h
  refine Exists.intro 1 (Exists.intro vq3 (Exists.intro σq3 (And.intro (Nat.le_of_ble_eq_true rfl) (And.intro (ok_M_canRun_84 hq3) ?_))))
  rcases px_ite h with ⟨c4, h⟩ | ⟨c4, h⟩
  · refine And.intro (fun _ => ?_) (fun hn => absurd c4 hn)
    refine H [((0, 0, 0, (-1), []), 1), ((27, 0, 0, 0, []), 1)] 50 _ _ _ (by decide +kernel) ?_
    exact Prod.mk.inj (Option.some.inj h)
  · refine And.intro (fun hp => absurd hp c4) (fun _ => ?_)
    rcases px_ite h with ⟨c5, h⟩ | ⟨c5, h⟩
    · refine And.intro (fun hp => absurd c5 hp) (fun _ => ?_)
      exact Prod.mk.inj (Option.some.inj h)
    · refine And.intro (fun _ => ?_) (fun hn => absurd c5 hn)
      refine H [((2, 0, 0, 0, []), 1), ((1, 1, 0, 0, []), 1), ((0, 0, 0, 0, []), 1), ((23, 213, 2, 1, [(0, 84)]), 3), ((3, 4, 0, 0, []), 2), ((1, 2, 0, 0, []), 1), ((0, 0, 0, 6, []), 2), ((13, 3, 82, 0, []), 3), ((1, 4, 0, 0, []), 2), ((14, 0, 79, 0, []), 3), ((2, 0, 0, 0, []), 1), ((1, 2, 0, 0, []), 1), ((23, 211, 1, 1, [(0, 84)]), 3), ((12, 0, 81, 0, []), 3), ((27, 0, 0, 0, []), 1)] 52 _ _ _ (by decide +kernel) ?_
      obtain ⟨⟨vq6, σq6⟩, hq6, h⟩ := px_bind h
      dsimp only at h
      refine Exists.intro 9 (Exists.intro vq6 (Exists.intro σq6 (And.intro (Nat.le_of_ble_eq_true rfl) (And.intro (ok_M_isTried_84 hq6) ?_))))
      rcases px_ite h with ⟨c7, h⟩ | ⟨c7, h⟩
      · refine And.intro (fun _ => ?_) (fun hn => absurd c7 hn)
        refine H [((1, 2, 0, 0, []), 1), ((0, 0, 0, 100, []), 2), ((13, 3, 115, 0, []), 3), ((1, 4, 0, 0, []), 2), ((14, 0, 105, 0, []), 3), ((2, 0, 0, 0, []), 1), ((17, 84, 130, 0, []), 3), ((1, 2, 0, 0, []), 1), ((0, 0, 0, 10, []), 2), ((6, 1, 0, 0, []), 1), ((19, 130, 8, 0, []), 1), ((12, 0, 114, 0, []), 3), ((27, 0, 0, 0, []), 1)] 82 _ _ _ (by decide +kernel) ?_
        rcases px_ite h with ⟨c8, h⟩ | ⟨c8, h⟩
        · refine And.intro (fun _ => ?_) (fun hn => absurd c8 hn)
          refine H [((1, 4, 0, 0, []), 2), ((14, 0, 132, 0, []), 3), ((2, 0, 0, 0, []), 1), ((17, 84, 128, 0, []), 3), ((1, 2, 0, 0, []), 1), ((0, 0, 0, 100, []), 2), ((6, 1, 0, 0, []), 1), ((19, 128, 64, 0, []), 1), ((12, 0, 141, 0, []), 3), ((27, 0, 0, 0, []), 1)] 115 _ _ _ (by decide +kernel) ?_
          rcases px_ite h with ⟨c9, h⟩ | ⟨c9, h⟩
          · refine And.intro (fun _ => ?_) (fun hn => absurd c9 hn)
            refine H [((2, 0, 0, 0, []), 1), ((17, 84, 86, 0, []), 3), ((1, 2, 0, 0, []), 1), ((0, 0, 0, 100, []), 2), ((6, 1, 0, 0, []), 1), ((19, 86, 64, 0, []), 1), ((27, 0, 0, 0, []), 1)] 132 _ _ _ (by decide +kernel) ?_
            obtain ⟨g10, h⟩ := px_gd h
            refine And.intro g10 ?_
            exact Prod.mk.inj (Option.some.inj h)
          · refine And.intro (fun hp => absurd hp c9) (fun _ => ?_)
            obtain ⟨g11, h⟩ := px_gd h
            refine And.intro g11 ?_
            exact Prod.mk.inj (Option.some.inj h)
        · refine And.intro (fun hp => absurd hp c8) (fun _ => ?_)
          rcases px_ite h with ⟨c12, h⟩ | ⟨c12, h⟩
          · refine And.intro (fun _ => ?_) (fun hn => absurd c12 hn)
            refine H [((2, 0, 0, 0, []), 1), ((17, 84, 85, 0, []), 3), ((1, 2, 0, 0, []), 1), ((0, 0, 0, 10, []), 2), ((6, 1, 0, 0, []), 1), ((19, 85, 8, 0, []), 1), ((27, 0, 0, 0, []), 1)] 105 _ _ _ (by decide +kernel) ?_
            obtain ⟨g13, h⟩ := px_gd h
            refine And.intro g13 ?_
            exact Prod.mk.inj (Option.some.inj h)
          · refine And.intro (fun hp => absurd hp c12) (fun _ => ?_)
            obtain ⟨g14, h⟩ := px_gd h
            refine And.intro g14 ?_
            exact Prod.mk.inj (Option.some.inj h)
      · refine And.intro (fun hp => absurd hp c7) (fun _ => ?_)
        rcases px_ite h with ⟨c15, h⟩ | ⟨c15, h⟩
        · refine And.intro (fun _ => ?_) (fun hn => absurd c15 hn)
          refine H [((0, 0, 0, (-5), []), 2), ((27, 0, 0, 0, []), 1)] 79 _ _ _ (by decide +kernel) ?_
          exact Prod.mk.inj (Option.some.inj h)
        · refine And.intro (fun hp => absurd hp c15) (fun _ => ?_)
          obtain ⟨⟨vq16, σq16⟩, hq16, h⟩ := px_bind h
          dsimp only at h
          refine Exists.intro 0 (Exists.intro vq16 (Exists.intro σq16 (And.intro (Nat.le_of_ble_eq_true rfl) (And.intro (ok_M_toldOf_84 hq16) ?_))))
          exact Prod.mk.inj (Option.some.inj h)
theorem ok_M_tried_84_p32 {l : Launch} {rv : Int} {rσ : pS} {G : Nat → pL → List pV → pS → Prop} (H : px_R l 10 212 rv rσ G) : ∀ (a1 a2 : Int) (σ : pS), f_M_tried_84_p32 a1 a2 σ = some (rv, rσ) → G 32 [some (.inr 84), some (.inl a1), some (.inl a2), none, none] [] σ := by
  intro a1 a2 σ h
  unfold f_M_tried_84_p32 at h
  refine H [((0, 0, 0, 1, []), 1), ((12, 0, 37, 0, []), 3)] 32 _ _ _ (by decide +kernel) ?_
  exact ok_M_tried_84_p37 H _ _ _ _ h
theorem ok_M_tried_84_w {l : Launch} {rv : Int} {rσ : pS} {G : Nat → pL → List pV → pS → Prop} (H : px_R l 10 212 rv rσ G) : ∀ (a1 a2 : Int) (σ : pS), f_M_tried_84 a1 a2 σ = some (rv, rσ) → G 0 [some (.inr 84), some (.inl a1), some (.inl a2), none, none] [] σ := by
  intro a1 a2 σ h
  unfold f_M_tried_84 at h
  refine H [((1, 2, 0, 0, []), 1), ((0, 0, 0, 0, []), 1), ((0, 0, 0, 5, []), 1), ((24, 137, 3, 1, []), 3), ((14, 1, 32, 0, []), 3), ((1, 2, 0, 0, []), 1), ((0, 0, 0, 10, []), 2), ((0, 0, 0, 17, []), 2), ((24, 137, 3, 1, []), 3), ((14, 1, 32, 0, []), 3), ((1, 2, 0, 0, []), 1), ((0, 0, 0, 100, []), 2), ((0, 0, 0, 163, []), 3), ((24, 137, 3, 1, []), 3), ((14, 0, 36, 0, []), 3)] 0 _ _ _ (by decide +kernel) ?_
  obtain ⟨⟨vq1, σq1⟩, hq1, h⟩ := px_bind h
  dsimp only at h
  refine Exists.intro 0 (Exists.intro vq1 (Exists.intro σq1 (And.intro (Nat.le_of_ble_eq_true rfl) (And.intro (ok_M_in hq1) ?_))))
  rcases px_ite h with ⟨c2, h⟩ | ⟨c2, h⟩
  · refine And.intro (fun hp => absurd c2 hp) (fun _ => ?_)
    obtain ⟨⟨vq17, σq17⟩, hq17, h⟩ := px_bind h
    dsimp only at h
    refine Exists.intro 0 (Exists.intro vq17 (Exists.intro σq17 (And.intro (Nat.le_of_ble_eq_true rfl) (And.intro (ok_M_in hq17) ?_))))
    rcases px_ite h with ⟨c18, h⟩ | ⟨c18, h⟩
    · refine And.intro (fun hp => absurd c18 hp) (fun _ => ?_)
      obtain ⟨⟨vq19, σq19⟩, hq19, h⟩ := px_bind h
      dsimp only at h
      refine Exists.intro 0 (Exists.intro vq19 (Exists.intro σq19 (And.intro (Nat.le_of_ble_eq_true rfl) (And.intro (ok_M_in hq19) ?_))))
      rcases px_ite h with ⟨c20, h⟩ | ⟨c20, h⟩
      · refine And.intro (fun _ => ?_) (fun hn => absurd c20 hn)
        refine H [((0, 0, 0, 0, []), 1)] 36 _ _ _ (by decide +kernel) ?_
        exact ok_M_tried_84_p37 H _ _ _ _ h
      · refine And.intro (fun hp => absurd hp c20) (fun _ => ?_)
        exact ok_M_tried_84_p32 H _ _ _ h
    · refine And.intro (fun _ => ?_) (fun hn => absurd c18 hn)
      exact ok_M_tried_84_p32 H _ _ _ h
  · refine And.intro (fun _ => ?_) (fun hn => absurd c2 hn)
    exact ok_M_tried_84_p32 H _ _ _ h
theorem ok_M_tried_84 {l : Launch} {a1 a2 : Int} {σ : pS} {v : Int} {σ1 : pS} (h : f_M_tried_84 a1 a2 σ = some (v, σ1)) : Con l 10 212 [.inr 84, .inl a1, .inl a2] σ v σ1 := Con_mk 3 5 rfl (by decide +kernel) (fun _ H => ok_M_tried_84_w H _ _ _ h)
theorem ok_X_lastRun_0_w {l : Launch} {rv : Int} {rσ : pS} {G : Nat → pL → List pV → pS → Prop} (H : px_R l 1 102 rv rσ G) : ∀ (a1 : Int) (σ : pS), f_X_lastRun_0 a1 σ = some (rv, rσ) → G 0 [some (.inr 0), some (.inl a1)] [] σ := by
  intro a1 σ h
  unfold f_X_lastRun_0 at h
  refine H [((1, 1, 0, 0, []), 1), ((24, 100, 1, 1, []), 3), ((14, 1, 9, 0, []), 3), ((0, 0, 0, (-1), []), 1), ((27, 0, 0, 0, []), 1)] 0 _ _ _ (by decide +kernel) ?_
  obtain ⟨⟨vq1, σq1⟩, hq1, h⟩ := px_bind h
  dsimp only at h
  refine Exists.intro 0 (Exists.intro vq1 (Exists.intro σq1 (And.intro (Nat.le_of_ble_eq_true rfl) (And.intro (ok_X_isTotal hq1) ?_))))
  rcases px_ite h with ⟨c2, h⟩ | ⟨c2, h⟩
  · refine And.intro (fun hp => absurd c2 hp) (fun _ => ?_)
    exact Prod.mk.inj (Option.some.inj h)
  · refine And.intro (fun _ => ?_) (fun hn => absurd c2 hn)
    refine H [((2, 0, 0, 0, []), 1), ((16, 0, 8, 0, []), 3), ((14, 0, 28, 0, []), 3), ((2, 0, 0, 0, []), 1), ((17, 0, 71, 0, []), 3), ((17, 71, 72, 0, []), 3), ((1, 1, 0, 0, []), 1), ((19, 72, 6, 0, []), 1), ((12, 0, 30, 0, []), 3), ((27, 0, 0, 0, []), 1)] 9 _ _ _ (by decide +kernel) ?_
    rcases px_ite h with ⟨c3, h⟩ | ⟨c3, h⟩
    · refine And.intro (fun _ => ?_) (fun hn => absurd c3 hn)
      refine H [((0, 0, 0, (-2), []), 2), ((27, 0, 0, 0, []), 1)] 28 _ _ _ (by decide +kernel) ?_
      exact Prod.mk.inj (Option.some.inj h)
    · refine And.intro (fun hp => absurd hp c3) (fun _ => ?_)
      obtain ⟨g4, h⟩ := px_gd h
      refine And.intro g4 ?_
      exact Prod.mk.inj (Option.some.inj h)
theorem ok_X_lastRun_0 {l : Launch} {a1 : Int} {σ : pS} {v : Int} {σ1 : pS} (h : f_X_lastRun_0 a1 σ = some (v, σ1)) : Con l 1 102 [.inr 0, .inl a1] σ v σ1 := Con_mk 2 2 rfl (by decide +kernel) (fun _ H => ok_X_lastRun_0_w H _ _ h)
theorem ok_M_lastRun_84_w {l : Launch} {rv : Int} {rσ : pS} {G : Nat → pL → List pV → pS → Prop} (H : px_R l 1 216 rv rσ G) : ∀ (a1 : Int) (σ : pS), f_M_lastRun_84 a1 σ = some (rv, rσ) → G 0 [some (.inr 84), some (.inl a1)] [] σ := by
  intro a1 σ h
  unfold f_M_lastRun_84 at h
  refine H [((1, 1, 0, 0, []), 1), ((0, 0, 0, 0, []), 1), ((0, 0, 0, 5, []), 1), ((24, 137, 3, 1, []), 3), ((14, 1, 11, 0, []), 3), ((0, 0, 0, (-1), []), 1), ((27, 0, 0, 0, []), 1)] 0 _ _ _ (by decide +kernel) ?_
  obtain ⟨⟨vq1, σq1⟩, hq1, h⟩ := px_bind h
  dsimp only at h
  refine Exists.intro 0 (Exists.intro vq1 (Exists.intro σq1 (And.intro (Nat.le_of_ble_eq_true rfl) (And.intro (ok_M_in hq1) ?_))))
  rcases px_ite h with ⟨c2, h⟩ | ⟨c2, h⟩
  · refine And.intro (fun hp => absurd c2 hp) (fun _ => ?_)
    exact Prod.mk.inj (Option.some.inj h)
  · refine And.intro (fun _ => ?_) (fun hn => absurd c2 hn)
    refine H [((2, 0, 0, 0, []), 1), ((16, 84, 75, 0, []), 3), ((14, 0, 27, 0, []), 3), ((2, 0, 0, 0, []), 1), ((17, 84, 134, 0, []), 3), ((1, 1, 0, 0, []), 1), ((19, 134, 6, 0, []), 1), ((12, 0, 29, 0, []), 3), ((27, 0, 0, 0, []), 1)] 11 _ _ _ (by decide +kernel) ?_
    rcases px_ite h with ⟨c3, h⟩ | ⟨c3, h⟩
    · refine And.intro (fun _ => ?_) (fun hn => absurd c3 hn)
      refine H [((0, 0, 0, (-2), []), 2), ((27, 0, 0, 0, []), 1)] 27 _ _ _ (by decide +kernel) ?_
      exact Prod.mk.inj (Option.some.inj h)
    · refine And.intro (fun hp => absurd hp c3) (fun _ => ?_)
      obtain ⟨g4, h⟩ := px_gd h
      refine And.intro g4 ?_
      exact Prod.mk.inj (Option.some.inj h)
theorem ok_M_lastRun_84 {l : Launch} {a1 : Int} {σ : pS} {v : Int} {σ1 : pS} (h : f_M_lastRun_84 a1 σ = some (v, σ1)) : Con l 1 216 [.inr 84, .inl a1] σ v σ1 := Con_mk 2 2 rfl (by decide +kernel) (fun _ H => ok_M_lastRun_84_w H _ _ h)
theorem ok_Prog_moves_4_w {l : Launch} {rv : Int} {rσ : pS} {G : Nat → pL → List pV → pS → Prop} (H : px_R l 0 107 rv rσ G) : ∀ (a1 : Int) (σ : pS), f_Prog_moves_4 a1 σ = some (rv, rσ) → G 0 [some (.inr 4), some (.inl a1)] [] σ := by
  intro a1 σ h
  unfold f_Prog_moves_4 at h
  refine H [((2, 0, 0, 0, []), 1), ((17, 4, 5, 0, []), 3), ((1, 1, 0, 0, []), 1), ((19, 5, 20, 0, []), 1), ((0, 0, 0, 2, []), 1), ((13, 0, 20, 0, []), 3), ((2, 0, 0, 0, []), 1), ((17, 4, 5, 0, []), 3), ((1, 1, 0, 0, []), 1), ((19, 5, 20, 0, []), 1), ((0, 0, 0, 3, []), 1), ((13, 1, 24, 0, []), 3), ((0, 0, 0, 1, []), 1), ((12, 0, 25, 0, []), 3), ((27, 1, 0, 0, []), 1)] 0 _ _ _ (by decide +kernel) ?_
  obtain ⟨g1, h⟩ := px_gd h
  refine And.intro g1 ?_
  rcases px_ite h with ⟨c2, h⟩ | ⟨c2, h⟩
  · refine And.intro (fun _ => ?_) (fun hn => absurd c2 hn)
    refine H [((0, 0, 0, 1, []), 1), ((12, 0, 25, 0, []), 3), ((27, 1, 0, 0, []), 1)] 20 _ _ _ (by decide +kernel) ?_
    refine And.intro (show (0 : Int) ≤ 1 ∧ (1 : Int) ≤ 1 from by decide) ?_
    exact Prod.mk.inj (Option.some.inj h)
  · refine And.intro (fun hp => absurd hp c2) (fun _ => ?_)
    obtain ⟨g3, h⟩ := px_gd h
    refine And.intro g3 ?_
    rcases px_ite h with ⟨c4, h⟩ | ⟨c4, h⟩
    · refine And.intro (fun hp => absurd c4 hp) (fun _ => ?_)
      refine And.intro (show (0 : Int) ≤ 1 ∧ (1 : Int) ≤ 1 from by decide) ?_
      exact Prod.mk.inj (Option.some.inj h)
    · refine And.intro (fun _ => ?_) (fun hn => absurd c4 hn)
      refine H [((0, 0, 0, 0, []), 1), ((27, 1, 0, 0, []), 1)] 24 _ _ _ (by decide +kernel) ?_
      refine And.intro (show (0 : Int) ≤ 0 ∧ (0 : Int) ≤ 1 from by decide) ?_
      exact Prod.mk.inj (Option.some.inj h)
theorem ok_Prog_moves_4 {l : Launch} {a1 : Int} {σ : pS} {v : Int} {σ1 : pS} (h : f_Prog_moves_4 a1 σ = some (v, σ1)) : Con l 0 107 [.inr 4, .inl a1] σ v σ1 := Con_mk 2 2 rfl (by decide +kernel) (fun _ H => ok_Prog_moves_4_w H _ _ h)
theorem ok_X_giverOf_0_w {l : Launch} {rv : Int} {rσ : pS} {G : Nat → pL → List pV → pS → Prop} (H : px_R l 1 105 rv rσ G) : ∀ (a1 a2 : Int) (σ : pS), f_X_giverOf_0 a1 a2 σ = some (rv, rσ) → G 0 [some (.inr 0), some (.inl a1), some (.inl a2)] [] σ := by
  intro a1 a2 σ h
  unfold f_X_giverOf_0 at h
  refine H [((2, 0, 0, 0, []), 1), ((17, 0, 3, 0, []), 3), ((17, 3, 4, 0, []), 3), ((17, 4, 5, 0, []), 3), ((1, 1, 0, 0, []), 1), ((19, 5, 20, 0, []), 1), ((0, 0, 0, 2, []), 1), ((13, 1, 32, 0, []), 3), ((1, 2, 0, 0, []), 1), ((2, 0, 0, 0, []), 1), ((17, 0, 3, 0, []), 3), ((17, 3, 4, 0, []), 3), ((17, 4, 7, 0, []), 3), ((1, 1, 0, 0, []), 1), ((19, 7, 20, 0, []), 1), ((13, 2, 35, 0, []), 3), ((0, 0, 0, (-4), []), 2), ((27, 0, 0, 0, []), 1)] 0 _ _ _ (by decide +kernel) ?_
  obtain ⟨g1, h⟩ := px_gd h
  refine And.intro g1 ?_
  rcases px_ite h with ⟨c2, h⟩ | ⟨c2, h⟩
  · refine And.intro (fun hp => absurd c2 hp) (fun _ => ?_)
    obtain ⟨g3, h⟩ := px_gd h
    refine And.intro g3 ?_
    rcases px_ite h with ⟨c4, h⟩ | ⟨c4, h⟩
    · refine And.intro (fun _ => ?_) (fun hn => absurd c4 hn)
      refine H [((2, 0, 0, 0, []), 1), ((16, 0, 8, 0, []), 3), ((14, 0, 61, 0, []), 3), ((2, 0, 0, 0, []), 1), ((17, 0, 71, 0, []), 3), ((17, 71, 77, 0, []), 3), ((1, 1, 0, 0, []), 1), ((0, 0, 0, 4, []), 1), ((6, 2, 0, 0, []), 1), ((1, 2, 0, 0, []), 1), ((6, 0, 0, 0, []), 1), ((19, 77, 80, 0, []), 1), ((24, 106, 1, 1, []), 3), ((12, 0, 63, 0, []), 3), ((27, 0, 0, 0, []), 1)] 35 _ _ _ (by decide +kernel) ?_
      rcases px_ite h with ⟨c5, h⟩ | ⟨c5, h⟩
      · refine And.intro (fun _ => ?_) (fun hn => absurd c5 hn)
        refine H [((0, 0, 0, (-2), []), 2), ((27, 0, 0, 0, []), 1)] 61 _ _ _ (by decide +kernel) ?_
        exact Prod.mk.inj (Option.some.inj h)
      · refine And.intro (fun hp => absurd hp c5) (fun _ => ?_)
        obtain ⟨g6, h⟩ := px_gd h
        refine And.intro g6 ?_
        obtain ⟨⟨vq7, σq7⟩, hq7, h⟩ := px_bind h
        dsimp only at h
        refine Exists.intro 0 (Exists.intro vq7 (Exists.intro σq7 (And.intro (Nat.le_of_ble_eq_true rfl) (And.intro (ok_X_orAbsent hq7) ?_))))
        exact Prod.mk.inj (Option.some.inj h)
    · refine And.intro (fun hp => absurd hp c4) (fun _ => ?_)
      exact Prod.mk.inj (Option.some.inj h)
  · refine And.intro (fun _ => ?_) (fun hn => absurd c2 hn)
    refine H [((0, 0, 0, (-4), []), 2), ((27, 0, 0, 0, []), 1)] 32 _ _ _ (by decide +kernel) ?_
    exact Prod.mk.inj (Option.some.inj h)
theorem ok_X_giverOf_0 {l : Launch} {a1 a2 : Int} {σ : pS} {v : Int} {σ1 : pS} (h : f_X_giverOf_0 a1 a2 σ = some (v, σ1)) : Con l 1 105 [.inr 0, .inl a1, .inl a2] σ v σ1 := Con_mk 3 3 rfl (by decide +kernel) (fun _ H => ok_X_giverOf_0_w H _ _ _ h)
theorem ok_X_opIs_0_p26 {l : Launch} {rv : Int} {rσ : pS} {G : Nat → pL → List pV → pS → Prop} (H : px_R l 2 103 rv rσ G) : ∀ (a1 a2 : Int) (σ : pS), f_X_opIs_0_p26 a1 a2 σ = some (rv, rσ) → G 26 [some (.inr 0), some (.inl a1), some (.inl a2)] [] σ := by
  intro a1 a2 σ h
  unfold f_X_opIs_0_p26 at h
  refine H [((1, 2, 0, 0, []), 1), ((0, 0, 0, 10, []), 2), ((13, 2, 42, 0, []), 3), ((2, 0, 0, 0, []), 1), ((1, 1, 0, 0, []), 1), ((1, 2, 0, 0, []), 1), ((0, 0, 0, 10, []), 2), ((6, 1, 0, 0, []), 1), ((23, 105, 2, 1, [(0, 0)]), 3), ((27, 0, 0, 0, []), 1)] 26 _ _ _ (by decide +kernel) ?_
  rcases px_ite h with ⟨c5, h⟩ | ⟨c5, h⟩
  · refine And.intro (fun _ => ?_) (fun hn => absurd c5 hn)
    refine H [((1, 2, 0, 0, []), 1), ((14, 1, 59, 0, []), 3), ((2, 0, 0, 0, []), 1), ((17, 0, 3, 0, []), 3), ((17, 3, 4, 0, []), 3), ((17, 4, 5, 0, []), 3), ((1, 1, 0, 0, []), 1), ((19, 5, 20, 0, []), 1), ((27, 0, 0, 0, []), 1)] 42 _ _ _ (by decide +kernel) ?_
    rcases px_ite h with ⟨c6, h⟩ | ⟨c6, h⟩
    · refine And.intro (fun hp => absurd c6 hp) (fun _ => ?_)
      obtain ⟨g20, h⟩ := px_gd h
      refine And.intro g20 ?_
      exact Prod.mk.inj (Option.some.inj h)
    · refine And.intro (fun _ => ?_) (fun hn => absurd c6 hn)
      refine H [((1, 2, 0, 0, []), 1), ((0, 0, 0, 1, []), 1), ((13, 1, 80, 0, []), 3), ((2, 0, 0, 0, []), 1), ((17, 0, 3, 0, []), 3), ((17, 3, 24, 0, []), 3), ((17, 24, 27, 0, []), 3), ((1, 1, 0, 0, []), 1), ((19, 27, 20, 0, []), 1), ((24, 106, 1, 1, []), 3), ((27, 0, 0, 0, []), 1)] 59 _ _ _ (by decide +kernel) ?_
      rcases px_ite h with ⟨c7, h⟩ | ⟨c7, h⟩
      · refine And.intro (fun hp => absurd c7 hp) (fun _ => ?_)
        obtain ⟨g18, h⟩ := px_gd h
        refine And.intro g18 ?_
        obtain ⟨⟨vq19, σq19⟩, hq19, h⟩ := px_bind h
        dsimp only at h
        refine Exists.intro 0 (Exists.intro vq19 (Exists.intro σq19 (And.intro (Nat.le_of_ble_eq_true rfl) (And.intro (ok_X_orAbsent hq19) ?_))))
        exact Prod.mk.inj (Option.some.inj h)
      · refine And.intro (fun _ => ?_) (fun hn => absurd c7 hn)
        refine H [((2, 0, 0, 0, []), 1), ((16, 0, 8, 0, []), 3), ((14, 1, 90, 0, []), 3), ((0, 0, 0, (-2), []), 2), ((27, 0, 0, 0, []), 1)] 80 _ _ _ (by decide +kernel) ?_
        rcases px_ite h with ⟨c8, h⟩ | ⟨c8, h⟩
        · refine And.intro (fun hp => absurd c8 hp) (fun _ => ?_)
          exact Prod.mk.inj (Option.some.inj h)
        · refine And.intro (fun _ => ?_) (fun hn => absurd c8 hn)
          refine H [((1, 2, 0, 0, []), 1), ((15, 0, 146, 0, [(2, 116), (3, 126), (4, 136)]), 25)] 90 _ _ _ (by decide +kernel) ?_
          rcases px_ite h with ⟨c9, h⟩ | ⟨c9, h⟩
          · refine And.intro (fun _ => ?_) (fun hn => absurd c9 hn)
            refine H [((2, 0, 0, 0, []), 1), ((17, 0, 71, 0, []), 3), ((17, 71, 73, 0, []), 3), ((1, 1, 0, 0, []), 1), ((19, 73, 20, 0, []), 1), ((27, 0, 0, 0, []), 1)] 116 _ _ _ (by decide +kernel) ?_
            obtain ⟨g10, h⟩ := px_gd h
            refine And.intro g10 ?_
            exact Prod.mk.inj (Option.some.inj h)
          · refine And.intro (fun hp => absurd hp c9) (fun _ => ?_)
            rcases px_ite h with ⟨c11, h⟩ | ⟨c11, h⟩
            · refine And.intro (fun _ => ?_) (fun hn => absurd c11 hn)
              refine H [((2, 0, 0, 0, []), 1), ((17, 0, 71, 0, []), 3), ((17, 71, 74, 0, []), 3), ((1, 1, 0, 0, []), 1), ((19, 74, 20, 0, []), 1), ((27, 0, 0, 0, []), 1)] 126 _ _ _ (by decide +kernel) ?_
              obtain ⟨g12, h⟩ := px_gd h
              refine And.intro g12 ?_
              exact Prod.mk.inj (Option.some.inj h)
            · refine And.intro (fun hp => absurd hp c11) (fun _ => ?_)
              rcases px_ite h with ⟨c13, h⟩ | ⟨c13, h⟩
              · refine And.intro (fun _ => ?_) (fun hn => absurd c13 hn)
                refine H [((2, 0, 0, 0, []), 1), ((17, 0, 71, 0, []), 3), ((17, 71, 75, 0, []), 3), ((1, 1, 0, 0, []), 1), ((19, 75, 20, 0, []), 1), ((27, 0, 0, 0, []), 1)] 136 _ _ _ (by decide +kernel) ?_
                obtain ⟨g14, h⟩ := px_gd h
                refine And.intro g14 ?_
                exact Prod.mk.inj (Option.some.inj h)
              · refine And.intro (fun hp => absurd hp c13) (fun _ => ?_)
                refine H [((2, 0, 0, 0, []), 1), ((17, 0, 3, 0, []), 3), ((17, 3, 4, 0, []), 3), ((1, 1, 0, 0, []), 1), ((23, 107, 1, 1, [(0, 4)]), 3), ((14, 0, 172, 0, []), 3), ((2, 0, 0, 0, []), 1), ((17, 0, 71, 0, []), 3), ((17, 71, 76, 0, []), 3), ((1, 1, 0, 0, []), 1), ((19, 76, 20, 0, []), 1), ((12, 0, 174, 0, []), 3), ((27, 0, 0, 0, []), 1)] 146 _ _ _ (by decide +kernel) ?_
                obtain ⟨⟨vq15, σq15⟩, hq15, h⟩ := px_bind h
                dsimp only at h
                refine Exists.intro 0 (Exists.intro vq15 (Exists.intro σq15 (And.intro (Nat.le_of_ble_eq_true rfl) (And.intro (ok_Prog_moves_4 hq15) ?_))))
                rcases px_ite h with ⟨c16, h⟩ | ⟨c16, h⟩
                · refine And.intro (fun _ => ?_) (fun hn => absurd c16 hn)
                  refine H [((0, 0, 0, (-2), []), 2), ((27, 0, 0, 0, []), 1)] 172 _ _ _ (by decide +kernel) ?_
                  exact Prod.mk.inj (Option.some.inj h)
                · refine And.intro (fun hp => absurd hp c16) (fun _ => ?_)
                  obtain ⟨g17, h⟩ := px_gd h
                  refine And.intro g17 ?_
                  exact Prod.mk.inj (Option.some.inj h)
  · refine And.intro (fun hp => absurd hp c5) (fun _ => ?_)
    obtain ⟨⟨vq21, σq21⟩, hq21, h⟩ := px_bind h
    dsimp only at h
    refine Exists.intro 1 (Exists.intro vq21 (Exists.intro σq21 (And.intro (Nat.le_of_ble_eq_true rfl) (And.intro (ok_X_giverOf_0 hq21) ?_))))
    exact Prod.mk.inj (Option.some.inj h)
theorem ok_X_opIs_0_w {l : Launch} {rv : Int} {rσ : pS} {G : Nat → pL → List pV → pS → Prop} (H : px_R l 2 103 rv rσ G) : ∀ (a1 a2 : Int) (σ : pS), f_X_opIs_0 a1 a2 σ = some (rv, rσ) → G 0 [some (.inr 0), some (.inl a1), some (.inl a2)] [] σ := by
  intro a1 a2 σ h
  unfold f_X_opIs_0 at h
  refine H [((2, 0, 0, 0, []), 1), ((1, 1, 0, 0, []), 1), ((23, 104, 1, 1, [(0, 0)]), 3), ((14, 0, 23, 0, []), 3), ((1, 2, 0, 0, []), 1), ((14, 2, 23, 0, []), 3), ((1, 2, 0, 0, []), 1), ((0, 0, 0, 5, []), 1), ((13, 5, 26, 0, []), 3), ((1, 2, 0, 0, []), 1), ((0, 0, 0, 10, []), 2), ((13, 3, 26, 0, []), 3), ((0, 0, 0, (-100000), []), 2), ((27, 0, 0, 0, []), 1)] 0 _ _ _ (by decide +kernel) ?_
  obtain ⟨⟨vq1, σq1⟩, hq1, h⟩ := px_bind h
  dsimp only at h
  refine Exists.intro 0 (Exists.intro vq1 (Exists.intro σq1 (And.intro (Nat.le_of_ble_eq_true rfl) (And.intro (ok_X_isOp_0 hq1) ?_))))
  rcases px_ite h with ⟨c2, h⟩ | ⟨c2, h⟩
  · refine And.intro (fun _ => ?_) (fun hn => absurd c2 hn)
    refine H [((0, 0, 0, (-100000), []), 2), ((27, 0, 0, 0, []), 1)] 23 _ _ _ (by decide +kernel) ?_
    exact Prod.mk.inj (Option.some.inj h)
  · refine And.intro (fun hp => absurd hp c2) (fun _ => ?_)
    rcases px_ite h with ⟨c3, h⟩ | ⟨c3, h⟩
    · refine And.intro (fun _ => ?_) (fun hn => absurd c3 hn)
      refine H [((0, 0, 0, (-100000), []), 2), ((27, 0, 0, 0, []), 1)] 23 _ _ _ (by decide +kernel) ?_
      exact Prod.mk.inj (Option.some.inj h)
    · refine And.intro (fun hp => absurd hp c3) (fun _ => ?_)
      rcases px_ite h with ⟨c4, h⟩ | ⟨c4, h⟩
      · refine And.intro (fun _ => ?_) (fun hn => absurd c4 hn)
        exact ok_X_opIs_0_p26 H _ _ _ h
      · refine And.intro (fun hp => absurd hp c4) (fun _ => ?_)
        rcases px_ite h with ⟨c22, h⟩ | ⟨c22, h⟩
        · refine And.intro (fun _ => ?_) (fun hn => absurd c22 hn)
          exact ok_X_opIs_0_p26 H _ _ _ h
        · refine And.intro (fun hp => absurd hp c22) (fun _ => ?_)
          exact Prod.mk.inj (Option.some.inj h)
theorem ok_X_opIs_0 {l : Launch} {a1 a2 : Int} {σ : pS} {v : Int} {σ1 : pS} (h : f_X_opIs_0 a1 a2 σ = some (v, σ1)) : Con l 2 103 [.inr 0, .inl a1, .inl a2] σ v σ1 := Con_mk 3 3 rfl (by decide +kernel) (fun _ H => ok_X_opIs_0_w H _ _ _ h)
theorem ok_M_toldOfOp_84_w {l : Launch} {rv : Int} {rσ : pS} {G : Nat → pL → List pV → pS → Prop} (H : px_R l 0 227 rv rσ G) : ∀ (a1 a2 : Int) (σ : pS), f_M_toldOfOp_84 a1 a2 σ = some (rv, rσ) → G 0 [some (.inr 84), some (.inl a1), some (.inl a2)] [] σ := by
  intro a1 a2 σ h
  unfold f_M_toldOfOp_84 at h
  refine H [((1, 2, 0, 0, []), 1), ((14, 1, 11, 0, []), 3), ((2, 0, 0, 0, []), 1), ((17, 84, 88, 0, []), 3), ((1, 1, 0, 0, []), 1), ((19, 88, 20, 0, []), 1), ((27, 0, 0, 0, []), 1)] 0 _ _ _ (by decide +kernel) ?_
  rcases px_ite h with ⟨c1, h⟩ | ⟨c1, h⟩
  · refine And.intro (fun hp => absurd c1 hp) (fun _ => ?_)
    obtain ⟨g16, h⟩ := px_gd h
    refine And.intro g16 ?_
    exact Prod.mk.inj (Option.some.inj h)
  · refine And.intro (fun _ => ?_) (fun hn => absurd c1 hn)
    refine H [((1, 2, 0, 0, []), 1), ((0, 0, 0, 1, []), 1), ((13, 1, 38, 0, []), 3), ((2, 0, 0, 0, []), 1), ((17, 84, 87, 0, []), 3), ((1, 1, 0, 0, []), 1), ((19, 87, 20, 0, []), 1), ((0, 0, 0, (-1), []), 1), ((13, 1, 31, 0, []), 3), ((0, 0, 0, (-2), []), 2), ((12, 0, 37, 0, []), 3), ((27, 0, 0, 0, []), 1)] 11 _ _ _ (by decide +kernel) ?_
    rcases px_ite h with ⟨c2, h⟩ | ⟨c2, h⟩
    · refine And.intro (fun hp => absurd c2 hp) (fun _ => ?_)
      obtain ⟨g13, h⟩ := px_gd h
      refine And.intro g13 ?_
      rcases px_ite h with ⟨c14, h⟩ | ⟨c14, h⟩
      · refine And.intro (fun hp => absurd c14 hp) (fun _ => ?_)
        exact Prod.mk.inj (Option.some.inj h)
      · refine And.intro (fun _ => ?_) (fun hn => absurd c14 hn)
        refine H [((2, 0, 0, 0, []), 1), ((17, 84, 87, 0, []), 3), ((1, 1, 0, 0, []), 1), ((19, 87, 20, 0, []), 1), ((27, 0, 0, 0, []), 1)] 31 _ _ _ (by decide +kernel) ?_
        obtain ⟨g15, h⟩ := px_gd h
        refine And.intro g15 ?_
        exact Prod.mk.inj (Option.some.inj h)
    · refine And.intro (fun _ => ?_) (fun hn => absurd c2 hn)
      refine H [((2, 0, 0, 0, []), 1), ((16, 84, 75, 0, []), 3), ((14, 1, 48, 0, []), 3), ((0, 0, 0, (-2), []), 2), ((27, 0, 0, 0, []), 1)] 38 _ _ _ (by decide +kernel) ?_
      rcases px_ite h with ⟨c3, h⟩ | ⟨c3, h⟩
      · refine And.intro (fun hp => absurd c3 hp) (fun _ => ?_)
        exact Prod.mk.inj (Option.some.inj h)
      · refine And.intro (fun _ => ?_) (fun hn => absurd c3 hn)
        refine H [((1, 2, 0, 0, []), 1), ((15, 0, 97, 0, [(2, 76), (3, 83), (4, 90)]), 27)] 48 _ _ _ (by decide +kernel) ?_
        rcases px_ite h with ⟨c4, h⟩ | ⟨c4, h⟩
        · refine And.intro (fun _ => ?_) (fun hn => absurd c4 hn)
          refine H [((2, 0, 0, 0, []), 1), ((17, 84, 135, 0, []), 3), ((1, 1, 0, 0, []), 1), ((19, 135, 20, 0, []), 1), ((27, 0, 0, 0, []), 1)] 76 _ _ _ (by decide +kernel) ?_
          obtain ⟨g5, h⟩ := px_gd h
          refine And.intro g5 ?_
          exact Prod.mk.inj (Option.some.inj h)
        · refine And.intro (fun hp => absurd hp c4) (fun _ => ?_)
          rcases px_ite h with ⟨c6, h⟩ | ⟨c6, h⟩
          · refine And.intro (fun _ => ?_) (fun hn => absurd c6 hn)
            refine H [((2, 0, 0, 0, []), 1), ((17, 84, 136, 0, []), 3), ((1, 1, 0, 0, []), 1), ((19, 136, 20, 0, []), 1), ((27, 0, 0, 0, []), 1)] 83 _ _ _ (by decide +kernel) ?_
            obtain ⟨g7, h⟩ := px_gd h
            refine And.intro g7 ?_
            exact Prod.mk.inj (Option.some.inj h)
          · refine And.intro (fun hp => absurd hp c6) (fun _ => ?_)
            rcases px_ite h with ⟨c8, h⟩ | ⟨c8, h⟩
            · refine And.intro (fun _ => ?_) (fun hn => absurd c8 hn)
              refine H [((2, 0, 0, 0, []), 1), ((17, 84, 137, 0, []), 3), ((1, 1, 0, 0, []), 1), ((19, 137, 20, 0, []), 1), ((27, 0, 0, 0, []), 1)] 90 _ _ _ (by decide +kernel) ?_
              obtain ⟨g9, h⟩ := px_gd h
              refine And.intro g9 ?_
              exact Prod.mk.inj (Option.some.inj h)
            · refine And.intro (fun hp => absurd hp c8) (fun _ => ?_)
              refine H [((2, 0, 0, 0, []), 1), ((17, 84, 88, 0, []), 3), ((1, 1, 0, 0, []), 1), ((19, 88, 20, 0, []), 1), ((0, 0, 0, 2, []), 1), ((13, 3, 112, 0, []), 3), ((0, 0, 0, (-2), []), 2), ((12, 0, 118, 0, []), 3), ((27, 0, 0, 0, []), 1)] 97 _ _ _ (by decide +kernel) ?_
              obtain ⟨g10, h⟩ := px_gd h
              refine And.intro g10 ?_
              rcases px_ite h with ⟨c11, h⟩ | ⟨c11, h⟩
              · refine And.intro (fun _ => ?_) (fun hn => absurd c11 hn)
                refine H [((2, 0, 0, 0, []), 1), ((17, 84, 138, 0, []), 3), ((1, 1, 0, 0, []), 1), ((19, 138, 20, 0, []), 1), ((27, 0, 0, 0, []), 1)] 112 _ _ _ (by decide +kernel) ?_
                obtain ⟨g12, h⟩ := px_gd h
                refine And.intro g12 ?_
                exact Prod.mk.inj (Option.some.inj h)
              · refine And.intro (fun hp => absurd hp c11) (fun _ => ?_)
                exact Prod.mk.inj (Option.some.inj h)
theorem ok_M_toldOfOp_84 {l : Launch} {a1 a2 : Int} {σ : pS} {v : Int} {σ1 : pS} (h : f_M_toldOfOp_84 a1 a2 σ = some (v, σ1)) : Con l 0 227 [.inr 84, .inl a1, .inl a2] σ v σ1 := Con_mk 3 3 rfl (by decide +kernel) (fun _ H => ok_M_toldOfOp_84_w H _ _ _ h)
theorem ok_M_opIs_84_p27 {l : Launch} {rv : Int} {rσ : pS} {G : Nat → pL → List pV → pS → Prop} (H : px_R l 2 226 rv rσ G) : ∀ (a1 a2 : Int) (σ : pS), f_M_opIs_84_p27 a1 a2 σ = some (rv, rσ) → G 27 [some (.inr 84), some (.inl a1), some (.inl a2), none] [] σ := by
  intro a1 a2 σ h
  unfold f_M_opIs_84_p27 at h
  refine H [((1, 2, 0, 0, []), 1), ((0, 0, 0, 10, []), 2), ((13, 3, 40, 0, []), 3), ((2, 0, 0, 0, []), 1), ((1, 1, 0, 0, []), 1), ((1, 2, 0, 0, []), 1), ((23, 227, 2, 1, [(0, 84)]), 3), ((27, 0, 0, 0, []), 1)] 27 _ _ _ (by decide +kernel) ?_
  rcases px_ite h with ⟨c5, h⟩ | ⟨c5, h⟩
  · refine And.intro (fun _ => ?_) (fun hn => absurd c5 hn)
    refine H [((1, 2, 0, 0, []), 1), ((0, 0, 0, 10, []), 2), ((6, 1, 0, 0, []), 1), ((3, 3, 0, 0, []), 1), ((2, 0, 0, 0, []), 1), ((17, 84, 88, 0, []), 3), ((1, 1, 0, 0, []), 1), ((19, 88, 20, 0, []), 1), ((0, 0, 0, 2, []), 1), ((13, 1, 65, 0, []), 3), ((1, 3, 0, 0, []), 1), ((2, 0, 0, 0, []), 1), ((17, 84, 93, 0, []), 3), ((1, 1, 0, 0, []), 1), ((19, 93, 20, 0, []), 1), ((13, 2, 68, 0, []), 3), ((0, 0, 0, (-4), []), 2), ((27, 0, 0, 0, []), 1)] 40 _ _ _ (by decide +kernel) ?_
    obtain ⟨g6, h⟩ := px_gd h
    refine And.intro g6 ?_
    rcases px_ite h with ⟨c7, h⟩ | ⟨c7, h⟩
    · refine And.intro (fun hp => absurd c7 hp) (fun _ => ?_)
      obtain ⟨g8, h⟩ := px_gd h
      refine And.intro g8 ?_
      rcases px_ite h with ⟨c9, h⟩ | ⟨c9, h⟩
      · refine And.intro (fun _ => ?_) (fun hn => absurd c9 hn)
        refine H [((2, 0, 0, 0, []), 1), ((16, 84, 75, 0, []), 3), ((14, 0, 89, 0, []), 3), ((2, 0, 0, 0, []), 1), ((17, 84, 139, 0, []), 3), ((0, 0, 0, 4, []), 1), ((1, 1, 0, 0, []), 1), ((6, 2, 0, 0, []), 1), ((1, 3, 0, 0, []), 1), ((6, 0, 0, 0, []), 1), ((19, 139, 80, 0, []), 1), ((0, 0, 0, (-1), []), 1), ((13, 1, 94, 0, []), 3), ((0, 0, 0, (-2), []), 2), ((12, 0, 104, 0, []), 3), ((27, 0, 0, 0, []), 1)] 68 _ _ _ (by decide +kernel) ?_
        rcases px_ite h with ⟨c10, h⟩ | ⟨c10, h⟩
        · refine And.intro (fun _ => ?_) (fun hn => absurd c10 hn)
          refine H [((0, 0, 0, (-2), []), 2), ((12, 0, 104, 0, []), 3), ((27, 0, 0, 0, []), 1)] 89 _ _ _ (by decide +kernel) ?_
          exact Prod.mk.inj (Option.some.inj h)
        · refine And.intro (fun hp => absurd hp c10) (fun _ => ?_)
          obtain ⟨g11, h⟩ := px_gd h
          refine And.intro g11 ?_
          rcases px_ite h with ⟨c12, h⟩ | ⟨c12, h⟩
          · refine And.intro (fun hp => absurd c12 hp) (fun _ => ?_)
            exact Prod.mk.inj (Option.some.inj h)
          · refine And.intro (fun _ => ?_) (fun hn => absurd c12 hn)
            refine H [((2, 0, 0, 0, []), 1), ((17, 84, 139, 0, []), 3), ((0, 0, 0, 4, []), 1), ((1, 1, 0, 0, []), 1), ((6, 2, 0, 0, []), 1), ((1, 3, 0, 0, []), 1), ((6, 0, 0, 0, []), 1), ((19, 139, 80, 0, []), 1), ((27, 0, 0, 0, []), 1)] 94 _ _ _ (by decide +kernel) ?_
            obtain ⟨g13, h⟩ := px_gd h
            refine And.intro g13 ?_
            exact Prod.mk.inj (Option.some.inj h)
      · refine And.intro (fun hp => absurd hp c9) (fun _ => ?_)
        exact Prod.mk.inj (Option.some.inj h)
    · refine And.intro (fun _ => ?_) (fun hn => absurd c7 hn)
      refine H [((0, 0, 0, (-4), []), 2), ((27, 0, 0, 0, []), 1)] 65 _ _ _ (by decide +kernel) ?_
      exact Prod.mk.inj (Option.some.inj h)
  · refine And.intro (fun hp => absurd hp c5) (fun _ => ?_)
    obtain ⟨⟨vq14, σq14⟩, hq14, h⟩ := px_bind h
    dsimp only at h
    refine Exists.intro 0 (Exists.intro vq14 (Exists.intro σq14 (And.intro (Nat.le_of_ble_eq_true rfl) (And.intro (ok_M_toldOfOp_84 hq14) ?_))))
    exact Prod.mk.inj (Option.some.inj h)
theorem ok_M_opIs_84_w {l : Launch} {rv : Int} {rσ : pS} {G : Nat → pL → List pV → pS → Prop} (H : px_R l 2 226 rv rσ G) : ∀ (a1 a2 : Int) (σ : pS), f_M_opIs_84 a1 a2 σ = some (rv, rσ) → G 0 [some (.inr 84), some (.inl a1), some (.inl a2), none] [] σ := by
  intro a1 a2 σ h
  unfold f_M_opIs_84 at h
  refine H [((2, 0, 0, 0, []), 1), ((1, 1, 0, 0, []), 1), ((23, 171, 1, 1, [(0, 84)]), 3), ((14, 0, 23, 0, []), 3), ((1, 2, 0, 0, []), 1), ((0, 0, 0, 0, []), 1), ((0, 0, 0, 5, []), 1), ((24, 137, 3, 1, []), 3), ((14, 1, 27, 0, []), 3), ((1, 2, 0, 0, []), 1), ((0, 0, 0, 10, []), 2), ((13, 3, 27, 0, []), 3), ((0, 0, 0, (-100000), []), 3), ((27, 0, 0, 0, []), 1)] 0 _ _ _ (by decide +kernel) ?_
  obtain ⟨⟨vq1, σq1⟩, hq1, h⟩ := px_bind h
  dsimp only at h
  refine Exists.intro 1 (Exists.intro vq1 (Exists.intro σq1 (And.intro (Nat.le_of_ble_eq_true rfl) (And.intro (ok_M_isOp_84 hq1) ?_))))
  rcases px_ite h with ⟨c2, h⟩ | ⟨c2, h⟩
  · refine And.intro (fun _ => ?_) (fun hn => absurd c2 hn)
    refine H [((0, 0, 0, (-100000), []), 3), ((27, 0, 0, 0, []), 1)] 23 _ _ _ (by decide +kernel) ?_
    exact Prod.mk.inj (Option.some.inj h)
  · refine And.intro (fun hp => absurd hp c2) (fun _ => ?_)
    obtain ⟨⟨vq3, σq3⟩, hq3, h⟩ := px_bind h
    dsimp only at h
    refine Exists.intro 0 (Exists.intro vq3 (Exists.intro σq3 (And.intro (Nat.le_of_ble_eq_true rfl) (And.intro (ok_M_in hq3) ?_))))
    rcases px_ite h with ⟨c4, h⟩ | ⟨c4, h⟩
    · refine And.intro (fun hp => absurd c4 hp) (fun _ => ?_)
      rcases px_ite h with ⟨c15, h⟩ | ⟨c15, h⟩
      · refine And.intro (fun _ => ?_) (fun hn => absurd c15 hn)
        exact ok_M_opIs_84_p27 H _ _ _ h
      · refine And.intro (fun hp => absurd hp c15) (fun _ => ?_)
        exact Prod.mk.inj (Option.some.inj h)
    · refine And.intro (fun _ => ?_) (fun hn => absurd c4 hn)
      exact ok_M_opIs_84_p27 H _ _ _ h
theorem ok_M_opIs_84 {l : Launch} {a1 a2 : Int} {σ : pS} {v : Int} {σ1 : pS} (h : f_M_opIs_84 a1 a2 σ = some (v, σ1)) : Con l 2 226 [.inr 84, .inl a1, .inl a2] σ v σ1 := Con_mk 3 4 rfl (by decide +kernel) (fun _ H => ok_M_opIs_84_w H _ _ _ h)
theorem ok_X_now_0_w {l : Launch} {rv : Int} {rσ : pS} {G : Nat → pL → List pV → pS → Prop} (H : px_R l 1 109 rv rσ G) : ∀ (a1 : Int) (σ : pS), f_X_now_0 a1 σ = some (rv, rσ) → G 0 [some (.inr 0), some (.inl a1)] [] σ := by
  intro a1 σ h
  unfold f_X_now_0 at h
  refine H [((1, 1, 0, 0, []), 1), ((24, 52, 1, 1, []), 3), ((14, 0, 20, 0, []), 3), ((2, 0, 0, 0, []), 1), ((17, 0, 3, 0, []), 3), ((17, 3, 24, 0, []), 3), ((17, 24, 25, 0, []), 3), ((1, 1, 0, 0, []), 1), ((19, 25, 8, 0, []), 1), ((27, 0, 0, 0, []), 1)] 0 _ _ _ (by decide +kernel) ?_
  obtain ⟨⟨vq1, σq1⟩, hq1, h⟩ := px_bind h
  dsimp only at h
  refine Exists.intro 0 (Exists.intro vq1 (Exists.intro σq1 (And.intro (Nat.le_of_ble_eq_true rfl) (And.intro (ok_X_isCell hq1) ?_))))
  rcases px_ite h with ⟨c2, h⟩ | ⟨c2, h⟩
  · refine And.intro (fun _ => ?_) (fun hn => absurd c2 hn)
    refine H [((1, 1, 0, 0, []), 1), ((24, 101, 1, 1, []), 3), ((14, 0, 45, 0, []), 3), ((2, 0, 0, 0, []), 1), ((17, 0, 3, 0, []), 3), ((17, 3, 24, 0, []), 3), ((17, 24, 26, 0, []), 3), ((1, 1, 0, 0, []), 1), ((0, 0, 0, 100, []), 2), ((6, 1, 0, 0, []), 1), ((19, 26, 64, 0, []), 1), ((12, 0, 47, 0, []), 3), ((27, 0, 0, 0, []), 1)] 20 _ _ _ (by decide +kernel) ?_
    obtain ⟨⟨vq3, σq3⟩, hq3, h⟩ := px_bind h
    dsimp only at h
    refine Exists.intro 0 (Exists.intro vq3 (Exists.intro σq3 (And.intro (Nat.le_of_ble_eq_true rfl) (And.intro (ok_X_isByte hq3) ?_))))
    rcases px_ite h with ⟨c4, h⟩ | ⟨c4, h⟩
    · refine And.intro (fun _ => ?_) (fun hn => absurd c4 hn)
      refine H [((0, 0, 0, (-100000), []), 2), ((27, 0, 0, 0, []), 1)] 45 _ _ _ (by decide +kernel) ?_
      exact Prod.mk.inj (Option.some.inj h)
    · refine And.intro (fun hp => absurd hp c4) (fun _ => ?_)
      obtain ⟨g5, h⟩ := px_gd h
      refine And.intro g5 ?_
      exact Prod.mk.inj (Option.some.inj h)
  · refine And.intro (fun hp => absurd hp c2) (fun _ => ?_)
    obtain ⟨g6, h⟩ := px_gd h
    refine And.intro g6 ?_
    exact Prod.mk.inj (Option.some.inj h)
theorem ok_X_now_0 {l : Launch} {a1 : Int} {σ : pS} {v : Int} {σ1 : pS} (h : f_X_now_0 a1 σ = some (v, σ1)) : Con l 1 109 [.inr 0, .inl a1] σ v σ1 := Con_mk 2 2 rfl (by decide +kernel) (fun _ H => ok_X_now_0_w H _ _ h)
theorem ok_M_now_84_w {l : Launch} {rv : Int} {rσ : pS} {G : Nat → pL → List pV → pS → Prop} (H : px_R l 1 217 rv rσ G) : ∀ (a1 : Int) (σ : pS), f_M_now_84 a1 σ = some (rv, rσ) → G 0 [some (.inr 84), some (.inl a1)] [] σ := by
  intro a1 σ h
  unfold f_M_now_84 at h
  refine H [((1, 1, 0, 0, []), 1), ((0, 0, 0, 0, []), 1), ((0, 0, 0, 7, []), 2), ((24, 137, 3, 1, []), 3), ((14, 0, 19, 0, []), 3), ((2, 0, 0, 0, []), 1), ((17, 84, 85, 0, []), 3), ((1, 1, 0, 0, []), 1), ((19, 85, 8, 0, []), 1), ((12, 0, 46, 0, []), 3), ((27, 0, 0, 0, []), 1)] 0 _ _ _ (by decide +kernel) ?_
  obtain ⟨⟨vq1, σq1⟩, hq1, h⟩ := px_bind h
  dsimp only at h
  refine Exists.intro 0 (Exists.intro vq1 (Exists.intro σq1 (And.intro (Nat.le_of_ble_eq_true rfl) (And.intro (ok_M_in hq1) ?_))))
  rcases px_ite h with ⟨c2, h⟩ | ⟨c2, h⟩
  · refine And.intro (fun _ => ?_) (fun hn => absurd c2 hn)
    refine H [((1, 1, 0, 0, []), 1), ((0, 0, 0, 100, []), 2), ((0, 0, 0, 163, []), 3), ((24, 137, 3, 1, []), 3), ((14, 0, 43, 0, []), 3), ((2, 0, 0, 0, []), 1), ((17, 84, 86, 0, []), 3), ((1, 1, 0, 0, []), 1), ((0, 0, 0, 100, []), 2), ((6, 1, 0, 0, []), 1), ((19, 86, 64, 0, []), 1), ((12, 0, 46, 0, []), 3), ((27, 0, 0, 0, []), 1)] 19 _ _ _ (by decide +kernel) ?_
    obtain ⟨⟨vq3, σq3⟩, hq3, h⟩ := px_bind h
    dsimp only at h
    refine Exists.intro 0 (Exists.intro vq3 (Exists.intro σq3 (And.intro (Nat.le_of_ble_eq_true rfl) (And.intro (ok_M_in hq3) ?_))))
    rcases px_ite h with ⟨c4, h⟩ | ⟨c4, h⟩
    · refine And.intro (fun _ => ?_) (fun hn => absurd c4 hn)
      refine H [((0, 0, 0, (-100000), []), 3), ((27, 0, 0, 0, []), 1)] 43 _ _ _ (by decide +kernel) ?_
      exact Prod.mk.inj (Option.some.inj h)
    · refine And.intro (fun hp => absurd hp c4) (fun _ => ?_)
      obtain ⟨g5, h⟩ := px_gd h
      refine And.intro g5 ?_
      exact Prod.mk.inj (Option.some.inj h)
  · refine And.intro (fun hp => absurd hp c2) (fun _ => ?_)
    obtain ⟨g6, h⟩ := px_gd h
    refine And.intro g6 ?_
    exact Prod.mk.inj (Option.some.inj h)
theorem ok_M_now_84 {l : Launch} {a1 : Int} {σ : pS} {v : Int} {σ1 : pS} (h : f_M_now_84 a1 σ = some (v, σ1)) : Con l 1 217 [.inr 84, .inl a1] σ v σ1 := Con_mk 2 2 rfl (by decide +kernel) (fun _ H => ok_M_now_84_w H _ _ h)
theorem ok_State_copyCellsFrom_66_24_w {l : Launch} {rv : Int} {rσ : pS} {G : Nat → pL → List pV → pS → Prop} (H : px_R l 1 62 rv rσ G) : ∀ (σ : pS), f_State_copyCellsFrom_66_24  σ = some (rv, rσ) → G 0 [some (.inr 66), some (.inr 24)] [] σ := by
  intro  σ h
  unfold f_State_copyCellsFrom_66_24 at h
  refine H [((2, 1, 0, 0, []), 1), ((17, 24, 25, 0, []), 3), ((0, 0, 0, 0, []), 1), ((2, 0, 0, 0, []), 1), ((17, 66, 67, 0, []), 3), ((0, 0, 0, 0, []), 1), ((0, 0, 0, 8, []), 2), ((26, 25, 67, 8, []), 3), ((2, 1, 0, 0, []), 1), ((17, 24, 26, 0, []), 3), ((0, 0, 0, 0, []), 1), ((2, 0, 0, 0, []), 1), ((17, 66, 68, 0, []), 3), ((0, 0, 0, 0, []), 1), ((0, 0, 0, 64, []), 2), ((26, 26, 68, 64, []), 3), ((2, 0, 0, 0, []), 1), ((2, 1, 0, 0, []), 1), ((16, 24, 4, 0, []), 3), ((18, 66, 4, 0, []), 3), ((2, 0, 0, 0, []), 1), ((2, 1, 0, 0, []), 1), ((16, 24, 5, 0, []), 3), ((18, 66, 5, 0, []), 3), ((28, 0, 0, 0, []), 1)] 0 _ _ _ (by decide +kernel) ?_
  exact (Prod.mk.inj (Option.some.inj h)).2
theorem ok_State_copyCellsFrom_66_24 {l : Launch} {σ : pS} {v : Int} {σ1 : pS} (h : f_State_copyCellsFrom_66_24  σ = some (v, σ1)) : Con l 1 62 [.inr 66, .inr 24] σ v σ1 := Con_mk 2 2 rfl (by decide +kernel) (fun _ H => ok_State_copyCellsFrom_66_24_w H  _ h)
theorem ok_State_copySetsFrom_66_24_w {l : Launch} {rv : Int} {rσ : pS} {G : Nat → pL → List pV → pS → Prop} (H : px_R l 1 63 rv rσ G) : ∀ (σ : pS), f_State_copySetsFrom_66_24  σ = some (rv, rσ) → G 0 [some (.inr 66), some (.inr 24)] [] σ := by
  intro  σ h
  unfold f_State_copySetsFrom_66_24 at h
  refine H [((2, 1, 0, 0, []), 1), ((17, 24, 27, 0, []), 3), ((0, 0, 0, 0, []), 1), ((2, 0, 0, 0, []), 1), ((17, 66, 69, 0, []), 3), ((0, 0, 0, 0, []), 1), ((0, 0, 0, 20, []), 2), ((26, 27, 69, 20, []), 3), ((2, 0, 0, 0, []), 1), ((2, 1, 0, 0, []), 1), ((16, 24, 3, 0, []), 3), ((18, 66, 3, 0, []), 3), ((28, 0, 0, 0, []), 1)] 0 _ _ _ (by decide +kernel) ?_
  exact (Prod.mk.inj (Option.some.inj h)).2
theorem ok_State_copySetsFrom_66_24 {l : Launch} {σ : pS} {v : Int} {σ1 : pS} (h : f_State_copySetsFrom_66_24  σ = some (v, σ1)) : Con l 1 63 [.inr 66, .inr 24] σ v σ1 := Con_mk 2 2 rfl (by decide +kernel) (fun _ H => ok_State_copySetsFrom_66_24_w H  _ h)
theorem ok_State_copyFrom_66_24_w {l : Launch} {rv : Int} {rσ : pS} {G : Nat → pL → List pV → pS → Prop} (H : px_R l 2 61 rv rσ G) : ∀ (σ : pS), f_State_copyFrom_66_24  σ = some (rv, rσ) → G 0 [some (.inr 66), some (.inr 24)] [] σ := by
  intro  σ h
  unfold f_State_copyFrom_66_24 at h
  refine H [((2, 0, 0, 0, []), 1), ((2, 1, 0, 0, []), 1), ((23, 62, 1, 0, [(0, 66)]), 3), ((2, 0, 0, 0, []), 1), ((2, 1, 0, 0, []), 1), ((23, 63, 1, 0, [(0, 66)]), 3), ((28, 0, 0, 0, []), 1)] 0 _ _ _ (by decide +kernel) ?_
  obtain ⟨⟨vq1, σq1⟩, hq1, h⟩ := px_bind h
  dsimp only at h
  refine Exists.intro 1 (Exists.intro vq1 (Exists.intro σq1 (And.intro (Nat.le_of_ble_eq_true rfl) (And.intro (ok_State_copyCellsFrom_66_24 hq1) ?_))))
  obtain ⟨⟨vq2, σq2⟩, hq2, h⟩ := px_bind h
  dsimp only at h
  refine Exists.intro 1 (Exists.intro vq2 (Exists.intro σq2 (And.intro (Nat.le_of_ble_eq_true rfl) (And.intro (ok_State_copySetsFrom_66_24 hq2) ?_))))
  exact (Prod.mk.inj (Option.some.inj h)).2
theorem ok_State_copyFrom_66_24 {l : Launch} {σ : pS} {v : Int} {σ1 : pS} (h : f_State_copyFrom_66_24  σ = some (v, σ1)) : Con l 2 61 [.inr 66, .inr 24] σ v σ1 := Con_mk 2 2 rfl (by decide +kernel) (fun _ H => ok_State_copyFrom_66_24_w H  _ h)
theorem ok_Plain_valueIn_65_w {l : Launch} {rv : Int} {rσ : pS} {G : Nat → pL → List pV → pS → Prop} (H : px_R l 1 112 rv rσ G) : ∀ (a1 : Int) (σ : pS), f_Plain_valueIn_65 a1 σ = some (rv, rσ) → G 0 [some (.inr 65), some (.inl a1)] [] σ := by
  intro a1 σ h
  unfold f_Plain_valueIn_65 at h
  refine H [((1, 1, 0, 0, []), 1), ((24, 52, 1, 1, []), 3), ((14, 0, 19, 0, []), 3), ((2, 0, 0, 0, []), 1), ((17, 65, 66, 0, []), 3), ((17, 66, 67, 0, []), 3), ((1, 1, 0, 0, []), 1), ((19, 67, 8, 0, []), 1), ((12, 0, 20, 0, []), 3), ((27, 0, 0, 0, []), 1)] 0 _ _ _ (by decide +kernel) ?_
  obtain ⟨⟨vq1, σq1⟩, hq1, h⟩ := px_bind h
  dsimp only at h
  refine Exists.intro 0 (Exists.intro vq1 (Exists.intro σq1 (And.intro (Nat.le_of_ble_eq_true rfl) (And.intro (ok_X_isCell hq1) ?_))))
  rcases px_ite h with ⟨c2, h⟩ | ⟨c2, h⟩
  · refine And.intro (fun _ => ?_) (fun hn => absurd c2 hn)
    refine H [((0, 0, 0, 0, []), 1), ((27, 0, 0, 0, []), 1)] 19 _ _ _ (by decide +kernel) ?_
    exact Prod.mk.inj (Option.some.inj h)
  · refine And.intro (fun hp => absurd hp c2) (fun _ => ?_)
    obtain ⟨g3, h⟩ := px_gd h
    refine And.intro g3 ?_
    exact Prod.mk.inj (Option.some.inj h)
theorem ok_Plain_valueIn_65 {l : Launch} {a1 : Int} {σ : pS} {v : Int} {σ1 : pS} (h : f_Plain_valueIn_65 a1 σ = some (v, σ1)) : Con l 1 112 [.inr 65, .inl a1] σ v σ1 := Con_mk 2 2 rfl (by decide +kernel) (fun _ H => ok_Plain_valueIn_65_w H _ _ h)
theorem ok_Plain_loaded_65_p5 {l : Launch} {rv : Int} {rσ : pS} {G : Nat → pL → List pV → pS → Prop} (H : px_R l 0 113 rv rσ G) : ∀ (n : Nat) (a1 a2 a3 a4 : Int) (σ : pS), f_Plain_loaded_65_p5 n a1 a2 a3 a4 σ = some (rv, rσ) → G 5 [some (.inr 65), some (.inl a1), some (.inl a2), some (.inl a3), some (.inl a4)] [] σ := by
  intro n
  induction n with
  | zero =>
    intro a1 a2 a3 a4 σ h
    unfold f_Plain_loaded_65_p5 at h
    cases h
  | succ n ih =>
    intro a1 a2 a3 a4 σ h
    unfold f_Plain_loaded_65_p5 at h
    refine H [((1, 4, 0, 0, []), 2), ((1, 2, 0, 0, []), 1), ((13, 3, 41, 0, []), 3), ((1, 3, 0, 0, []), 1), ((2, 0, 0, 0, []), 1), ((17, 65, 66, 0, []), 3), ((17, 66, 68, 0, []), 3), ((1, 1, 0, 0, []), 1), ((1, 4, 0, 0, []), 2), ((6, 0, 0, 0, []), 1), ((0, 0, 0, 63, []), 2), ((6, 3, 0, 0, []), 1), ((19, 68, 64, 0, []), 1), ((0, 0, 0, 8, []), 2), ((1, 4, 0, 0, []), 2), ((6, 2, 0, 0, []), 1), ((6, 6, 0, 0, []), 1), ((6, 4, 0, 0, []), 1), ((3, 3, 0, 0, []), 1), ((5, 4, 0, 1, []), 3), ((12, 0, 5, 0, []), 3)] 5 _ _ _ (by decide +kernel) ?_
    rcases px_ite h with ⟨c1, h⟩ | ⟨c1, h⟩
    · refine And.intro (fun _ => ?_) (fun hn => absurd c1 hn)
      refine H [((1, 3, 0, 0, []), 1), ((27, 0, 0, 0, []), 1)] 41 _ _ _ (by decide +kernel) ?_
      exact Prod.mk.inj (Option.some.inj h)
    · refine And.intro (fun hp => absurd hp c1) (fun _ => ?_)
      obtain ⟨g2, h⟩ := px_gd h
      refine And.intro g2 ?_
      exact ih _ _ _ _ _ h
theorem ok_Plain_loaded_65_w {l : Launch} {rv : Int} {rσ : pS} {G : Nat → pL → List pV → pS → Prop} (H : px_R l 0 113 rv rσ G) : ∀ (a1 a2 : Int) (σ : pS), f_Plain_loaded_65 a1 a2 σ = some (rv, rσ) → G 0 [some (.inr 65), some (.inl a1), some (.inl a2), none, none] [] σ := by
  intro a1 a2 σ h
  unfold f_Plain_loaded_65 at h
  refine H [((0, 0, 0, 0, []), 1), ((3, 3, 0, 0, []), 1), ((0, 0, 0, 0, []), 1), ((3, 4, 0, 0, []), 2)] 0 _ _ _ (by decide +kernel) ?_
  exact ok_Plain_loaded_65_p5 H _ _ _ _ _ _ h
theorem ok_Plain_loaded_65 {l : Launch} {a1 a2 : Int} {σ : pS} {v : Int} {σ1 : pS} (h : f_Plain_loaded_65 a1 a2 σ = some (v, σ1)) : Con l 0 113 [.inr 65, .inl a1, .inl a2] σ v σ1 := Con_mk 3 5 rfl (by decide +kernel) (fun _ H => ok_Plain_loaded_65_w H _ _ _ h)
theorem ok_State_putBytes_66_p3 {l : Launch} {rv : Int} {rσ : pS} {G : Nat → pL → List pV → pS → Prop} (H : px_R l 0 95 rv rσ G) : ∀ (n : Nat) (a1 a2 a3 a4 : Int) (σ : pS), f_State_putBytes_66_p3 n a1 a2 a3 a4 σ = some (rv, rσ) → G 3 [some (.inr 66), some (.inl a1), some (.inl a2), some (.inl a3), some (.inl a4)] [] σ := by
  intro n
  induction n with
  | zero =>
    intro a1 a2 a3 a4 σ h
    unfold f_State_putBytes_66_p3 at h
    cases h
  | succ n ih =>
    intro a1 a2 a3 a4 σ h
    unfold f_State_putBytes_66_p3 at h
    refine H [((1, 4, 0, 0, []), 2), ((1, 2, 0, 0, []), 1), ((13, 3, 38, 0, []), 3), ((2, 0, 0, 0, []), 1), ((17, 66, 68, 0, []), 3), ((1, 1, 0, 0, []), 1), ((1, 4, 0, 0, []), 2), ((6, 0, 0, 0, []), 1), ((0, 0, 0, 63, []), 2), ((6, 3, 0, 0, []), 1), ((1, 3, 0, 0, []), 1), ((0, 0, 0, 8, []), 2), ((1, 4, 0, 0, []), 2), ((6, 2, 0, 0, []), 1), ((6, 8, 0, 0, []), 1), ((0, 0, 0, 255, []), 3), ((6, 3, 0, 0, []), 1), ((20, 68, 64, 0, []), 1), ((5, 4, 0, 1, []), 3), ((12, 0, 3, 0, []), 3)] 3 _ _ _ (by decide +kernel) ?_
    rcases px_ite h with ⟨c1, h⟩ | ⟨c1, h⟩
    · refine And.intro (fun _ => ?_) (fun hn => absurd c1 hn)
      refine H [((28, 0, 0, 0, []), 1)] 38 _ _ _ (by decide +kernel) ?_
      exact (Prod.mk.inj (Option.some.inj h)).2
    · refine And.intro (fun hp => absurd hp c1) (fun _ => ?_)
      obtain ⟨g2, h⟩ := px_gd h
      refine And.intro g2 ?_
      exact ih _ _ _ _ _ h
theorem ok_State_putBytes_66_w {l : Launch} {rv : Int} {rσ : pS} {G : Nat → pL → List pV → pS → Prop} (H : px_R l 0 95 rv rσ G) : ∀ (a1 a2 a3 : Int) (σ : pS), f_State_putBytes_66 a1 a2 a3 σ = some (rv, rσ) → G 0 [some (.inr 66), some (.inl a1), some (.inl a2), some (.inl a3), none] [] σ := by
  intro a1 a2 a3 σ h
  unfold f_State_putBytes_66 at h
  refine H [((0, 0, 0, 0, []), 1), ((3, 4, 0, 0, []), 2)] 0 _ _ _ (by decide +kernel) ?_
  exact ok_State_putBytes_66_p3 H _ _ _ _ _ _ h
theorem ok_State_putBytes_66 {l : Launch} {a1 a2 a3 : Int} {σ : pS} {v : Int} {σ1 : pS} (h : f_State_putBytes_66 a1 a2 a3 σ = some (v, σ1)) : Con l 0 95 [.inr 66, .inl a1, .inl a2, .inl a3] σ v σ1 := Con_mk 4 5 rfl (by decide +kernel) (fun _ H => ok_State_putBytes_66_w H _ _ _ _ h)
