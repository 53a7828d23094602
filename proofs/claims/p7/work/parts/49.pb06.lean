theorem ok_M_readsRule_84_p104 {l : Launch} {rv : Int} {rσ : pS} {G : Nat → pL → List pV → pS → Prop} (H : px_R l 7 143 rv rσ G) : ∀ (σ : pS), f_M_readsRule_84_p104  σ = some (rv, rσ) → G 104 [some (.inr 84), none] [] σ := by
  intro  σ h
  unfold f_M_readsRule_84_p104 at h
  refine H [((2, 0, 0, 0, []), 1), ((17, 84, 101, 0, []), 3), ((2, 0, 0, 0, []), 1), ((16, 84, 26, 0, []), 3), ((2, 0, 0, 0, []), 1), ((16, 84, 24, 0, []), 3), ((20, 101, 16, 0, []), 1), ((2, 0, 0, 0, []), 1), ((23, 157, 0, 1, [(0, 84)]), 3), ((14, 1, 126, 0, []), 3), ((0, 0, 0, 0, []), 1), ((27, 1, 0, 0, []), 1)] 104 _ _ _ (by decide +kernel) ?_
  obtain ⟨g7, h⟩ := px_gd h
  refine And.intro g7 ?_
  obtain ⟨⟨vq8, σq8⟩, hq8, h⟩ := px_bind h
  dsimp only at h
  refine Exists.intro 6 (Exists.intro vq8 (Exists.intro σq8 (And.intro (Nat.le_of_ble_eq_true rfl) (And.intro (ok_M_readsCondition_84 hq8) ?_))))
  rcases px_ite h with ⟨c9, h⟩ | ⟨c9, h⟩
  · refine And.intro (fun hp => absurd c9 hp) (fun _ => ?_)
    refine And.intro (show (0 : Int) ≤ 0 ∧ (0 : Int) ≤ 1 from by decide) ?_
    exact Prod.mk.inj (Option.some.inj h)
  · refine And.intro (fun _ => ?_) (fun hn => absurd c9 hn)
    refine H [((2, 0, 0, 0, []), 1), ((17, 84, 102, 0, []), 3), ((2, 0, 0, 0, []), 1), ((16, 84, 26, 0, []), 3), ((2, 0, 0, 0, []), 1), ((16, 84, 24, 0, []), 3), ((20, 102, 16, 0, []), 1), ((2, 0, 0, 0, []), 1), ((2, 0, 0, 0, []), 1), ((16, 84, 26, 0, []), 3), ((0, 0, 0, 1, []), 1), ((6, 0, 0, 0, []), 1), ((18, 84, 26, 0, []), 3), ((0, 0, 0, 1, []), 1), ((27, 1, 0, 0, []), 1)] 126 _ _ _ (by decide +kernel) ?_
    obtain ⟨g10, h⟩ := px_gd h
    refine And.intro g10 ?_
    refine And.intro (show (0 : Int) ≤ 1 ∧ (1 : Int) ≤ 1 from by decide) ?_
    exact Prod.mk.inj (Option.some.inj h)
theorem ok_M_readsRule_84_p27 {l : Launch} {rv : Int} {rσ : pS} {G : Nat → pL → List pV → pS → Prop} (H : px_R l 7 143 rv rσ G) : ∀ (a1 : Int) (σ : pS), f_M_readsRule_84_p27 a1 σ = some (rv, rσ) → G 27 [some (.inr 84), some (.inl a1)] [] σ := by
  intro a1 σ h
  unfold f_M_readsRule_84_p27 at h
  refine H [((2, 0, 0, 0, []), 1), ((16, 84, 26, 0, []), 3), ((0, 0, 0, 16, []), 2), ((13, 1, 46, 0, []), 3), ((2, 0, 0, 0, []), 1), ((0, 0, 0, 4, []), 1), ((2, 0, 0, 0, []), 1), ((16, 84, 19, 0, []), 3), ((23, 145, 2, 1, [(0, 84)]), 3), ((27, 1, 0, 0, []), 1)] 27 _ _ _ (by decide +kernel) ?_
  rcases px_ite h with ⟨c3, h⟩ | ⟨c3, h⟩
  · refine And.intro (fun hp => absurd c3 hp) (fun _ => ?_)
    obtain ⟨⟨vq13, σq13⟩, hq13, h⟩ := px_bind h
    dsimp only at h
    refine Exists.intro 0 (Exists.intro vq13 (Exists.intro σq13 (And.intro (Nat.le_of_ble_eq_true rfl) (And.intro (ok_M_wrongAt_84 hq13) ?_))))
    obtain ⟨g14, h⟩ := px_gd h
    refine And.intro g14 ?_
    exact Prod.mk.inj (Option.some.inj h)
  · refine And.intro (fun _ => ?_) (fun hn => absurd c3 hn)
    refine H [((2, 0, 0, 0, []), 1), ((17, 84, 99, 0, []), 3), ((2, 0, 0, 0, []), 1), ((16, 84, 26, 0, []), 3), ((1, 1, 0, 0, []), 1), ((20, 99, 16, 0, []), 1), ((2, 0, 0, 0, []), 1), ((2, 0, 0, 0, []), 1), ((16, 84, 19, 0, []), 3), ((0, 0, 0, 1, []), 1), ((6, 0, 0, 0, []), 1), ((18, 84, 19, 0, []), 3), ((2, 0, 0, 0, []), 1), ((17, 84, 100, 0, []), 3), ((2, 0, 0, 0, []), 1), ((16, 84, 26, 0, []), 3), ((2, 0, 0, 0, []), 1), ((16, 84, 24, 0, []), 3), ((20, 100, 16, 0, []), 1), ((2, 0, 0, 0, []), 1), ((0, 0, 0, 0, []), 1), ((18, 84, 23, 0, []), 3), ((2, 0, 0, 0, []), 1), ((0, 0, 0, 0, []), 1), ((18, 84, 25, 0, []), 3), ((1, 1, 0, 0, []), 1), ((0, 0, 0, 120, []), 2), ((13, 0, 104, 0, []), 3), ((2, 0, 0, 0, []), 1), ((23, 146, 0, 1, [(0, 84)]), 3), ((14, 1, 104, 0, []), 3), ((0, 0, 0, 0, []), 1), ((27, 1, 0, 0, []), 1)] 46 _ _ _ (by decide +kernel) ?_
    obtain ⟨g4, h⟩ := px_gd h
    refine And.intro g4 ?_
    obtain ⟨g5, h⟩ := px_gd h
    refine And.intro g5 ?_
    rcases px_ite h with ⟨c6, h⟩ | ⟨c6, h⟩
    · refine And.intro (fun _ => ?_) (fun hn => absurd c6 hn)
      refine H [((29, 1, 0, 0, []), 0)] 104 _ _ _ (by decide +kernel) ?_
      exact ok_M_readsRule_84_p104 H  _ h
    · refine And.intro (fun hp => absurd hp c6) (fun _ => ?_)
      obtain ⟨⟨vq11, σq11⟩, hq11, h⟩ := px_bind h
      dsimp only at h
      refine Exists.intro 4 (Exists.intro vq11 (Exists.intro σq11 (And.intro (Nat.le_of_ble_eq_true rfl) (And.intro (ok_M_readsSum_84 hq11) ?_))))
      rcases px_ite h with ⟨c12, h⟩ | ⟨c12, h⟩
      · refine And.intro (fun hp => absurd c12 hp) (fun _ => ?_)
        refine And.intro (show (0 : Int) ≤ 0 ∧ (0 : Int) ≤ 1 from by decide) ?_
        exact Prod.mk.inj (Option.some.inj h)
      · refine And.intro (fun _ => ?_) (fun hn => absurd c12 hn)
        refine H [((29, 1, 0, 0, []), 0)] 104 _ _ _ (by decide +kernel) ?_
        exact ok_M_readsRule_84_p104 H  _ h
theorem ok_M_readsRule_84_w {l : Launch} {rv : Int} {rσ : pS} {G : Nat → pL → List pV → pS → Prop} (H : px_R l 7 143 rv rσ G) : ∀ (σ : pS), f_M_readsRule_84  σ = some (rv, rσ) → G 0 [some (.inr 84), none] [] σ := by
  intro  σ h
  unfold f_M_readsRule_84 at h
  refine H [((2, 0, 0, 0, []), 1), ((23, 144, 0, 1, [(0, 84)]), 3), ((3, 1, 0, 0, []), 1), ((1, 1, 0, 0, []), 1), ((0, 0, 0, 100, []), 2), ((13, 0, 27, 0, []), 3), ((1, 1, 0, 0, []), 1), ((0, 0, 0, 120, []), 2), ((13, 0, 27, 0, []), 3), ((2, 0, 0, 0, []), 1), ((0, 0, 0, 1, []), 1), ((2, 0, 0, 0, []), 1), ((16, 84, 19, 0, []), 3), ((23, 145, 2, 1, [(0, 84)]), 3), ((27, 1, 0, 0, []), 1)] 0 _ _ _ (by decide +kernel) ?_
  obtain ⟨⟨vq1, σq1⟩, hq1, h⟩ := px_bind h
  dsimp only at h
  refine Exists.intro 0 (Exists.intro vq1 (Exists.intro σq1 (And.intro (Nat.le_of_ble_eq_true rfl) (And.intro (ok_M_here_84 hq1) ?_))))
  rcases px_ite h with ⟨c2, h⟩ | ⟨c2, h⟩
  · refine And.intro (fun _ => ?_) (fun hn => absurd c2 hn)
    exact ok_M_readsRule_84_p27 H _ _ h
  · refine And.intro (fun hp => absurd hp c2) (fun _ => ?_)
    rcases px_ite h with ⟨c15, h⟩ | ⟨c15, h⟩
    · refine And.intro (fun _ => ?_) (fun hn => absurd c15 hn)
      exact ok_M_readsRule_84_p27 H _ _ h
    · refine And.intro (fun hp => absurd hp c15) (fun _ => ?_)
      obtain ⟨⟨vq16, σq16⟩, hq16, h⟩ := px_bind h
      dsimp only at h
      refine Exists.intro 0 (Exists.intro vq16 (Exists.intro σq16 (And.intro (Nat.le_of_ble_eq_true rfl) (And.intro (ok_M_wrongAt_84 hq16) ?_))))
      obtain ⟨g17, h⟩ := px_gd h
      refine And.intro g17 ?_
      exact Prod.mk.inj (Option.some.inj h)
theorem ok_M_readsRule_84 {l : Launch} {σ : pS} {v : Int} {σ1 : pS} (h : f_M_readsRule_84  σ = some (v, σ1)) : Con l 7 143 [.inr 84] σ v σ1 := Con_mk 1 2 rfl (by decide +kernel) (fun _ H => ok_M_readsRule_84_w H  _ h)
theorem ok_M_law_84_p123 {l : Launch} {rv : Int} {rσ : pS} {G : Nat → pL → List pV → pS → Prop} (H : px_R l 8 141 rv rσ G) : ∀ (n : Nat) (a3 : Int) (σ : pS), f_M_law_84_p123 n a3 σ = some (rv, rσ) → G 123 [some (.inr 84), none, none, some (.inl a3)] [] σ := by
  intro n
  induction n with
  | zero =>
    intro a3 σ h
    unfold f_M_law_84_p123 at h
    cases h
  | succ n ih =>
    intro a3 σ h
    unfold f_M_law_84_p123 at h
    refine H [((1, 3, 0, 0, []), 1), ((2, 0, 0, 0, []), 1), ((16, 84, 26, 0, []), 3), ((13, 3, 185, 0, []), 3), ((2, 0, 0, 0, []), 1), ((17, 84, 104, 0, []), 3), ((1, 3, 0, 0, []), 1), ((2, 0, 0, 0, []), 1), ((17, 84, 99, 0, []), 3), ((1, 3, 0, 0, []), 1), ((19, 99, 16, 0, []), 1), ((20, 104, 16, 0, []), 1), ((2, 0, 0, 0, []), 1), ((17, 84, 105, 0, []), 3), ((1, 3, 0, 0, []), 1), ((2, 0, 0, 0, []), 1), ((17, 84, 100, 0, []), 3), ((1, 3, 0, 0, []), 1), ((19, 100, 16, 0, []), 1), ((20, 105, 16, 0, []), 1), ((2, 0, 0, 0, []), 1), ((17, 84, 106, 0, []), 3), ((1, 3, 0, 0, []), 1), ((2, 0, 0, 0, []), 1), ((17, 84, 101, 0, []), 3), ((1, 3, 0, 0, []), 1), ((19, 101, 16, 0, []), 1), ((20, 106, 16, 0, []), 1), ((2, 0, 0, 0, []), 1), ((17, 84, 107, 0, []), 3), ((1, 3, 0, 0, []), 1), ((2, 0, 0, 0, []), 1), ((17, 84, 102, 0, []), 3), ((1, 3, 0, 0, []), 1), ((19, 102, 16, 0, []), 1), ((20, 107, 16, 0, []), 1), ((5, 3, 0, 1, []), 3), ((12, 0, 123, 0, []), 3)] 123 _ _ _ (by decide +kernel) ?_
    rcases px_ite h with ⟨c9, h⟩ | ⟨c9, h⟩
    · refine And.intro (fun _ => ?_) (fun hn => absurd c9 hn)
      refine H [((2, 0, 0, 0, []), 1), ((16, 84, 26, 0, []), 3), ((27, 0, 0, 0, []), 1)] 185 _ _ _ (by decide +kernel) ?_
      exact Prod.mk.inj (Option.some.inj h)
    · refine And.intro (fun hp => absurd hp c9) (fun _ => ?_)
      obtain ⟨g10, h⟩ := px_gd h
      refine And.intro g10 ?_
      obtain ⟨g11, h⟩ := px_gd h
      refine And.intro g11 ?_
      obtain ⟨g12, h⟩ := px_gd h
      refine And.intro g12 ?_
      obtain ⟨g13, h⟩ := px_gd h
      refine And.intro g13 ?_
      obtain ⟨g14, h⟩ := px_gd h
      refine And.intro g14 ?_
      obtain ⟨g15, h⟩ := px_gd h
      refine And.intro g15 ?_
      obtain ⟨g16, h⟩ := px_gd h
      refine And.intro g16 ?_
      obtain ⟨g17, h⟩ := px_gd h
      refine And.intro g17 ?_
      exact ih _ _ h
theorem ok_M_law_84_p95 {l : Launch} {rv : Int} {rσ : pS} {G : Nat → pL → List pV → pS → Prop} (H : px_R l 8 141 rv rσ G) : ∀ (n : Nat) (a3 : Int) (σ : pS), f_M_law_84_p95 n a3 σ = some (rv, rσ) → G 95 [some (.inr 84), none, none, some (.inl a3)] [] σ := by
  intro n
  induction n with
  | zero =>
    intro a3 σ h
    unfold f_M_law_84_p95 at h
    cases h
  | succ n ih =>
    intro a3 σ h
    unfold f_M_law_84_p95 at h
    refine H [((1, 3, 0, 0, []), 1), ((2, 0, 0, 0, []), 1), ((16, 84, 24, 0, []), 3), ((13, 3, 121, 0, []), 3), ((2, 0, 0, 0, []), 1), ((17, 84, 103, 0, []), 3), ((1, 3, 0, 0, []), 1), ((2, 0, 0, 0, []), 1), ((17, 84, 97, 0, []), 3), ((1, 3, 0, 0, []), 1), ((19, 97, 260, 0, []), 1), ((20, 103, 260, 0, []), 1), ((5, 3, 0, 1, []), 3), ((12, 0, 95, 0, []), 3)] 95 _ _ _ (by decide +kernel) ?_
    rcases px_ite h with ⟨c8, h⟩ | ⟨c8, h⟩
    · refine And.intro (fun _ => ?_) (fun hn => absurd c8 hn)
      refine H [((0, 0, 0, 0, []), 1), ((3, 3, 0, 0, []), 1)] 121 _ _ _ (by decide +kernel) ?_
      exact ok_M_law_84_p123 H _ _ _ h
    · refine And.intro (fun hp => absurd hp c8) (fun _ => ?_)
      obtain ⟨g18, h⟩ := px_gd h
      refine And.intro g18 ?_
      obtain ⟨g19, h⟩ := px_gd h
      refine And.intro g19 ?_
      exact ih _ _ h
theorem ok_M_law_84_p71 {l : Launch} {rv : Int} {rσ : pS} {G : Nat → pL → List pV → pS → Prop} (H : px_R l 8 141 rv rσ G) : ∀ (a2 : Int) (σ : pS), f_M_law_84_p71 a2 σ = some (rv, rσ) → G 71 [some (.inr 84), none, some (.inl a2), none] [] σ := by
  intro a2 σ h
  unfold f_M_law_84_p71 at h
  refine H [((2, 0, 0, 0, []), 1), ((0, 0, 0, 0, []), 1), ((18, 84, 18, 0, []), 3), ((1, 2, 0, 0, []), 1), ((14, 1, 85, 0, []), 3), ((2, 0, 0, 0, []), 1), ((16, 84, 21, 0, []), 3), ((27, 0, 0, 0, []), 1)] 71 _ _ _ (by decide +kernel) ?_
  rcases px_ite h with ⟨c7, h⟩ | ⟨c7, h⟩
  · refine And.intro (fun hp => absurd c7 hp) (fun _ => ?_)
    exact Prod.mk.inj (Option.some.inj h)
  · refine And.intro (fun _ => ?_) (fun hn => absurd c7 hn)
    refine H [((2, 0, 0, 0, []), 1), ((2, 0, 0, 0, []), 1), ((16, 84, 26, 0, []), 3), ((18, 84, 27, 0, []), 3), ((0, 0, 0, 0, []), 1), ((3, 3, 0, 0, []), 1), ((29, 2, 0, 0, []), 0)] 85 _ _ _ (by decide +kernel) ?_
    exact ok_M_law_84_p95 H _ _ _ h
theorem ok_M_law_84_p31 {l : Launch} {rv : Int} {rσ : pS} {G : Nat → pL → List pV → pS → Prop} (H : px_R l 8 141 rv rσ G) : ∀ (n : Nat) (a2 : Int) (σ : pS), f_M_law_84_p31 n a2 σ = some (rv, rσ) → G 31 [some (.inr 84), none, some (.inl a2), none] [] σ := by
  intro n
  induction n with
  | zero =>
    intro a2 σ h
    unfold f_M_law_84_p31 at h
    cases h
  | succ n ih =>
    intro a2 σ h
    unfold f_M_law_84_p31 at h
    refine H [((1, 2, 0, 0, []), 1), ((14, 0, 71, 0, []), 3), ((2, 0, 0, 0, []), 1), ((16, 84, 19, 0, []), 3), ((2, 0, 0, 0, []), 1), ((16, 84, 20, 0, []), 3), ((13, 3, 71, 0, []), 3), ((2, 0, 0, 0, []), 1), ((0, 0, 0, 59, []), 2), ((23, 162, 1, 1, [(0, 84)]), 3), ((14, 0, 66, 0, []), 3), ((2, 0, 0, 0, []), 1), ((23, 143, 0, 1, [(0, 84)]), 3), ((14, 0, 66, 0, []), 3), ((0, 0, 0, 1, []), 1), ((12, 0, 67, 0, []), 3), ((3, 2, 0, 0, []), 1), ((12, 0, 31, 0, []), 3)] 31 _ _ _ (by decide +kernel) ?_
    rcases px_ite h with ⟨c6, h⟩ | ⟨c6, h⟩
    · refine And.intro (fun _ => ?_) (fun hn => absurd c6 hn)
      exact ok_M_law_84_p71 H _ _ h
    · refine And.intro (fun hp => absurd hp c6) (fun _ => ?_)
      rcases px_ite h with ⟨c20, h⟩ | ⟨c20, h⟩
      · refine And.intro (fun _ => ?_) (fun hn => absurd c20 hn)
        exact ok_M_law_84_p71 H _ _ h
      · refine And.intro (fun hp => absurd hp c20) (fun _ => ?_)
        obtain ⟨⟨vq21, σq21⟩, hq21, h⟩ := px_bind h
        dsimp only at h
        refine Exists.intro 1 (Exists.intro vq21 (Exists.intro σq21 (And.intro (Nat.le_of_ble_eq_true rfl) (And.intro (ok_M_takes_84 hq21) ?_))))
        rcases px_ite h with ⟨c22, h⟩ | ⟨c22, h⟩
        · refine And.intro (fun _ => ?_) (fun hn => absurd c22 hn)
          refine H [((0, 0, 0, 0, []), 1), ((3, 2, 0, 0, []), 1), ((12, 0, 31, 0, []), 3)] 66 _ _ _ (by decide +kernel) ?_
          exact ih _ _ h
        · refine And.intro (fun hp => absurd hp c22) (fun _ => ?_)
          obtain ⟨⟨vq23, σq23⟩, hq23, h⟩ := px_bind h
          dsimp only at h
          refine Exists.intro 7 (Exists.intro vq23 (Exists.intro σq23 (And.intro (Nat.le_of_ble_eq_true rfl) (And.intro (ok_M_readsRule_84 hq23) ?_))))
          rcases px_ite h with ⟨c24, h⟩ | ⟨c24, h⟩
          · refine And.intro (fun _ => ?_) (fun hn => absurd c24 hn)
            refine H [((0, 0, 0, 0, []), 1), ((3, 2, 0, 0, []), 1), ((12, 0, 31, 0, []), 3)] 66 _ _ _ (by decide +kernel) ?_
            exact ih _ _ h
          · refine And.intro (fun hp => absurd hp c24) (fun _ => ?_)
            exact ih _ _ h
theorem ok_M_law_84_w {l : Launch} {rv : Int} {rσ : pS} {G : Nat → pL → List pV → pS → Prop} (H : px_R l 8 141 rv rσ G) : ∀ (a1 : Int) (σ : pS), f_M_law_84 a1 σ = some (rv, rσ) → G 0 [some (.inr 84), some (.inl a1), none, none] [] σ := by
  intro a1 σ h
  unfold f_M_law_84 at h
  refine H [((1, 1, 0, 0, []), 1), ((0, 0, 0, 1, []), 1), ((0, 0, 0, 240, []), 3), ((24, 137, 3, 1, []), 3), ((14, 0, 19, 0, []), 3), ((1, 1, 0, 0, []), 1), ((2, 0, 0, 0, []), 1), ((16, 84, 18, 0, []), 3), ((13, 5, 21, 0, []), 3), ((0, 0, 0, (-1), []), 1), ((27, 0, 0, 0, []), 1)] 0 _ _ _ (by decide +kernel) ?_
  obtain ⟨⟨vq1, σq1⟩, hq1, h⟩ := px_bind h
  dsimp only at h
  refine Exists.intro 0 (Exists.intro vq1 (Exists.intro σq1 (And.intro (Nat.le_of_ble_eq_true rfl) (And.intro (ok_M_in hq1) ?_))))
  rcases px_ite h with ⟨c2, h⟩ | ⟨c2, h⟩
  · refine And.intro (fun _ => ?_) (fun hn => absurd c2 hn)
    refine H [((0, 0, 0, (-1), []), 1), ((27, 0, 0, 0, []), 1)] 19 _ _ _ (by decide +kernel) ?_
    exact Prod.mk.inj (Option.some.inj h)
  · refine And.intro (fun hp => absurd hp c2) (fun _ => ?_)
    rcases px_ite h with ⟨c3, h⟩ | ⟨c3, h⟩
    · refine And.intro (fun _ => ?_) (fun hn => absurd c3 hn)
      refine H [((2, 0, 0, 0, []), 1), ((1, 1, 0, 0, []), 1), ((23, 142, 1, 0, [(0, 84)]), 3), ((2, 0, 0, 0, []), 1), ((23, 143, 0, 1, [(0, 84)]), 3), ((3, 2, 0, 0, []), 1), ((29, 1, 0, 0, []), 0)] 21 _ _ _ (by decide +kernel) ?_
      obtain ⟨⟨vq4, σq4⟩, hq4, h⟩ := px_bind h
      dsimp only at h
      refine Exists.intro 0 (Exists.intro vq4 (Exists.intro σq4 (And.intro (Nat.le_of_ble_eq_true rfl) (And.intro (ok_M_beginsText_84 hq4) ?_))))
      obtain ⟨⟨vq5, σq5⟩, hq5, h⟩ := px_bind h
      dsimp only at h
      refine Exists.intro 7 (Exists.intro vq5 (Exists.intro σq5 (And.intro (Nat.le_of_ble_eq_true rfl) (And.intro (ok_M_readsRule_84 hq5) ?_))))
      exact ok_M_law_84_p31 H _ _ _ h
    · refine And.intro (fun hp => absurd hp c3) (fun _ => ?_)
      exact Prod.mk.inj (Option.some.inj h)
theorem ok_M_law_84 {l : Launch} {a1 : Int} {σ : pS} {v : Int} {σ1 : pS} (h : f_M_law_84 a1 σ = some (v, σ1)) : Con l 8 141 [.inr 84, .inl a1] σ v σ1 := Con_mk 2 4 rfl (by decide +kernel) (fun _ H => ok_M_law_84_w H _ _ h)
theorem ok_X_canRun_0_w {l : Launch} {rv : Int} {rσ : pS} {G : Nat → pL → List pV → pS → Prop} (H : px_R l 0 58 rv rσ G) : ∀ (a1 : Int) (σ : pS), f_X_canRun_0 a1 σ = some (rv, rσ) → G 0 [some (.inr 0), some (.inl a1)] [] σ := by
  intro a1 σ h
  unfold f_X_canRun_0 at h
  refine H [((1, 1, 0, 0, []), 1), ((0, 0, 0, 1, []), 1), ((13, 2, 27, 0, []), 3), ((1, 1, 0, 0, []), 1), ((0, 0, 0, 4, []), 1), ((13, 4, 27, 0, []), 3), ((2, 0, 0, 0, []), 1), ((17, 0, 3, 0, []), 3), ((17, 3, 4, 0, []), 3), ((16, 4, 11, 0, []), 3), ((14, 5, 27, 0, []), 3), ((0, 0, 0, 1, []), 1), ((12, 0, 28, 0, []), 3), ((27, 1, 0, 0, []), 1)] 0 _ _ _ (by decide +kernel) ?_
  rcases px_ite h with ⟨c1, h⟩ | ⟨c1, h⟩
  · refine And.intro (fun _ => ?_) (fun hn => absurd c1 hn)
    refine H [((0, 0, 0, 0, []), 1), ((27, 1, 0, 0, []), 1)] 27 _ _ _ (by decide +kernel) ?_
    refine And.intro (show (0 : Int) ≤ 0 ∧ (0 : Int) ≤ 1 from by decide) ?_
    exact Prod.mk.inj (Option.some.inj h)
  · refine And.intro (fun hp => absurd hp c1) (fun _ => ?_)
    rcases px_ite h with ⟨c2, h⟩ | ⟨c2, h⟩
    · refine And.intro (fun _ => ?_) (fun hn => absurd c2 hn)
      refine H [((0, 0, 0, 0, []), 1), ((27, 1, 0, 0, []), 1)] 27 _ _ _ (by decide +kernel) ?_
      refine And.intro (show (0 : Int) ≤ 0 ∧ (0 : Int) ≤ 1 from by decide) ?_
      exact Prod.mk.inj (Option.some.inj h)
    · refine And.intro (fun hp => absurd hp c2) (fun _ => ?_)
      rcases px_ite h with ⟨c3, h⟩ | ⟨c3, h⟩
      · refine And.intro (fun _ => ?_) (fun hn => absurd c3 hn)
        refine H [((0, 0, 0, 0, []), 1), ((27, 1, 0, 0, []), 1)] 27 _ _ _ (by decide +kernel) ?_
        refine And.intro (show (0 : Int) ≤ 0 ∧ (0 : Int) ≤ 1 from by decide) ?_
        exact Prod.mk.inj (Option.some.inj h)
      · refine And.intro (fun hp => absurd hp c3) (fun _ => ?_)
        refine And.intro (show (0 : Int) ≤ 1 ∧ (1 : Int) ≤ 1 from by decide) ?_
        exact Prod.mk.inj (Option.some.inj h)
theorem ok_X_canRun_0 {l : Launch} {a1 : Int} {σ : pS} {v : Int} {σ1 : pS} (h : f_X_canRun_0 a1 σ = some (v, σ1)) : Con l 0 58 [.inr 0, .inl a1] σ v σ1 := Con_mk 2 2 rfl (by decide +kernel) (fun _ H => ok_X_canRun_0_w H _ _ h)
theorem ok_State_copyCellsFrom_28_24_w {l : Launch} {rv : Int} {rσ : pS} {G : Nat → pL → List pV → pS → Prop} (H : px_R l 1 62 rv rσ G) : ∀ (σ : pS), f_State_copyCellsFrom_28_24  σ = some (rv, rσ) → G 0 [some (.inr 28), some (.inr 24)] [] σ := by
  intro  σ h
  unfold f_State_copyCellsFrom_28_24 at h
  refine H [((2, 1, 0, 0, []), 1), ((17, 24, 25, 0, []), 3), ((0, 0, 0, 0, []), 1), ((2, 0, 0, 0, []), 1), ((17, 28, 29, 0, []), 3), ((0, 0, 0, 0, []), 1), ((0, 0, 0, 8, []), 2), ((26, 25, 29, 8, []), 3), ((2, 1, 0, 0, []), 1), ((17, 24, 26, 0, []), 3), ((0, 0, 0, 0, []), 1), ((2, 0, 0, 0, []), 1), ((17, 28, 30, 0, []), 3), ((0, 0, 0, 0, []), 1), ((0, 0, 0, 64, []), 2), ((26, 26, 30, 64, []), 3), ((2, 0, 0, 0, []), 1), ((2, 1, 0, 0, []), 1), ((16, 24, 4, 0, []), 3), ((18, 28, 4, 0, []), 3), ((2, 0, 0, 0, []), 1), ((2, 1, 0, 0, []), 1), ((16, 24, 5, 0, []), 3), ((18, 28, 5, 0, []), 3), ((28, 0, 0, 0, []), 1)] 0 _ _ _ (by decide +kernel) ?_
  exact (Prod.mk.inj (Option.some.inj h)).2
theorem ok_State_copyCellsFrom_28_24 {l : Launch} {σ : pS} {v : Int} {σ1 : pS} (h : f_State_copyCellsFrom_28_24  σ = some (v, σ1)) : Con l 1 62 [.inr 28, .inr 24] σ v σ1 := Con_mk 2 2 rfl (by decide +kernel) (fun _ H => ok_State_copyCellsFrom_28_24_w H  _ h)
theorem ok_State_copySetsFrom_28_24_w {l : Launch} {rv : Int} {rσ : pS} {G : Nat → pL → List pV → pS → Prop} (H : px_R l 1 63 rv rσ G) : ∀ (σ : pS), f_State_copySetsFrom_28_24  σ = some (rv, rσ) → G 0 [some (.inr 28), some (.inr 24)] [] σ := by
  intro  σ h
  unfold f_State_copySetsFrom_28_24 at h
  refine H [((2, 1, 0, 0, []), 1), ((17, 24, 27, 0, []), 3), ((0, 0, 0, 0, []), 1), ((2, 0, 0, 0, []), 1), ((17, 28, 31, 0, []), 3), ((0, 0, 0, 0, []), 1), ((0, 0, 0, 20, []), 2), ((26, 27, 31, 20, []), 3), ((2, 0, 0, 0, []), 1), ((2, 1, 0, 0, []), 1), ((16, 24, 3, 0, []), 3), ((18, 28, 3, 0, []), 3), ((28, 0, 0, 0, []), 1)] 0 _ _ _ (by decide +kernel) ?_
  exact (Prod.mk.inj (Option.some.inj h)).2
theorem ok_State_copySetsFrom_28_24 {l : Launch} {σ : pS} {v : Int} {σ1 : pS} (h : f_State_copySetsFrom_28_24  σ = some (v, σ1)) : Con l 1 63 [.inr 28, .inr 24] σ v σ1 := Con_mk 2 2 rfl (by decide +kernel) (fun _ H => ok_State_copySetsFrom_28_24_w H  _ h)
theorem ok_State_copyFrom_28_24_w {l : Launch} {rv : Int} {rσ : pS} {G : Nat → pL → List pV → pS → Prop} (H : px_R l 2 61 rv rσ G) : ∀ (σ : pS), f_State_copyFrom_28_24  σ = some (rv, rσ) → G 0 [some (.inr 28), some (.inr 24)] [] σ := by
  intro  σ h
  unfold f_State_copyFrom_28_24 at h
  refine H [((2, 0, 0, 0, []), 1), ((2, 1, 0, 0, []), 1), ((23, 62, 1, 0, [(0, 28)]), 3), ((2, 0, 0, 0, []), 1), ((2, 1, 0, 0, []), 1), ((23, 63, 1, 0, [(0, 28)]), 3), ((28, 0, 0, 0, []), 1)] 0 _ _ _ (by decide +kernel) ?_
  obtain ⟨⟨vq1, σq1⟩, hq1, h⟩ := px_bind h
  dsimp only at h
  refine Exists.intro 1 (Exists.intro vq1 (Exists.intro σq1 (And.intro (Nat.le_of_ble_eq_true rfl) (And.intro (ok_State_copyCellsFrom_28_24 hq1) ?_))))
  obtain ⟨⟨vq2, σq2⟩, hq2, h⟩ := px_bind h
  dsimp only at h
  refine Exists.intro 1 (Exists.intro vq2 (Exists.intro σq2 (And.intro (Nat.le_of_ble_eq_true rfl) (And.intro (ok_State_copySetsFrom_28_24 hq2) ?_))))
  exact (Prod.mk.inj (Option.some.inj h)).2
theorem ok_State_copyFrom_28_24 {l : Launch} {σ : pS} {v : Int} {σ1 : pS} (h : f_State_copyFrom_28_24  σ = some (v, σ1)) : Con l 2 61 [.inr 28, .inr 24] σ v σ1 := Con_mk 2 2 rfl (by decide +kernel) (fun _ H => ok_State_copyFrom_28_24_w H  _ h)
theorem ok_Arrays_fill_33_p5 {l : Launch} {rv : Int} {rσ : pS} {G : Nat → pL → List pV → pS → Prop} (H : px_R l 0 6 rv rσ G) : ∀ (n : Nat) (a1 a2 a3 : Int) (σ : pS), f_Arrays_fill_33_p5 n a1 a2 a3 σ = some (rv, rσ) → G 5 [some (.inr 33), some (.inl a1), some (.inl a2), some (.inl a3)] [] σ := by
  intro n
  induction n with
  | zero =>
    intro a1 a2 a3 σ h
    unfold f_Arrays_fill_33_p5 at h
    cases h
  | succ n ih =>
    intro a1 a2 a3 σ h
    unfold f_Arrays_fill_33_p5 at h
    refine H [((1, 2, 0, 0, []), 1), ((1, 3, 0, 0, []), 1), ((13, 3, 20, 0, []), 3), ((2, 0, 0, 0, []), 1), ((1, 2, 0, 0, []), 1), ((1, 1, 0, 0, []), 1), ((20, 33, 6, 0, []), 1), ((5, 2, 0, 1, []), 3), ((12, 0, 5, 0, []), 3)] 5 _ _ _ (by decide +kernel) ?_
    rcases px_ite h with ⟨c1, h⟩ | ⟨c1, h⟩
    · refine And.intro (fun _ => ?_) (fun hn => absurd c1 hn)
      refine H [((28, 0, 0, 0, []), 1)] 20 _ _ _ (by decide +kernel) ?_
      exact (Prod.mk.inj (Option.some.inj h)).2
    · refine And.intro (fun hp => absurd hp c1) (fun _ => ?_)
      obtain ⟨g2, h⟩ := px_gd h
      refine And.intro g2 ?_
      exact ih _ _ _ _ h
theorem ok_Arrays_fill_33_w {l : Launch} {rv : Int} {rσ : pS} {G : Nat → pL → List pV → pS → Prop} (H : px_R l 0 6 rv rσ G) : ∀ (a1 : Int) (σ : pS), f_Arrays_fill_33 a1 σ = some (rv, rσ) → G 0 [some (.inr 33), some (.inl a1), none, none] [] σ := by
  intro a1 σ h
  unfold f_Arrays_fill_33 at h
  refine H [((0, 0, 0, 0, []), 1), ((3, 2, 0, 0, []), 1), ((2, 0, 0, 0, []), 1), ((21, 33, 6, 0, []), 1), ((3, 3, 0, 0, []), 1)] 0 _ _ _ (by decide +kernel) ?_
  exact ok_Arrays_fill_33_p5 H _ _ _ _ _ h
theorem ok_Arrays_fill_33 {l : Launch} {a1 : Int} {σ : pS} {v : Int} {σ1 : pS} (h : f_Arrays_fill_33 a1 σ = some (v, σ1)) : Con l 0 6 [.inr 33, .inl a1] σ v σ1 := Con_mk 2 4 rfl (by decide +kernel) (fun _ H => ok_Arrays_fill_33_w H _ _ h)
theorem ok_Arrays_fill_34_p5 {l : Launch} {rv : Int} {rσ : pS} {G : Nat → pL → List pV → pS → Prop} (H : px_R l 0 6 rv rσ G) : ∀ (n : Nat) (a1 a2 a3 : Int) (σ : pS), f_Arrays_fill_34_p5 n a1 a2 a3 σ = some (rv, rσ) → G 5 [some (.inr 34), some (.inl a1), some (.inl a2), some (.inl a3)] [] σ := by
  intro n
  induction n with
  | zero =>
    intro a1 a2 a3 σ h
    unfold f_Arrays_fill_34_p5 at h
    cases h
  | succ n ih =>
    intro a1 a2 a3 σ h
    unfold f_Arrays_fill_34_p5 at h
    refine H [((1, 2, 0, 0, []), 1), ((1, 3, 0, 0, []), 1), ((13, 3, 20, 0, []), 3), ((2, 0, 0, 0, []), 1), ((1, 2, 0, 0, []), 1), ((1, 1, 0, 0, []), 1), ((20, 34, 20, 0, []), 1), ((5, 2, 0, 1, []), 3), ((12, 0, 5, 0, []), 3)] 5 _ _ _ (by decide +kernel) ?_
    rcases px_ite h with ⟨c1, h⟩ | ⟨c1, h⟩
    · refine And.intro (fun _ => ?_) (fun hn => absurd c1 hn)
      refine H [((28, 0, 0, 0, []), 1)] 20 _ _ _ (by decide +kernel) ?_
      exact (Prod.mk.inj (Option.some.inj h)).2
    · refine And.intro (fun hp => absurd hp c1) (fun _ => ?_)
      obtain ⟨g2, h⟩ := px_gd h
      refine And.intro g2 ?_
      exact ih _ _ _ _ h
theorem ok_Arrays_fill_34_w {l : Launch} {rv : Int} {rσ : pS} {G : Nat → pL → List pV → pS → Prop} (H : px_R l 0 6 rv rσ G) : ∀ (a1 : Int) (σ : pS), f_Arrays_fill_34 a1 σ = some (rv, rσ) → G 0 [some (.inr 34), some (.inl a1), none, none] [] σ := by
  intro a1 σ h
  unfold f_Arrays_fill_34 at h
  refine H [((0, 0, 0, 0, []), 1), ((3, 2, 0, 0, []), 1), ((2, 0, 0, 0, []), 1), ((21, 34, 20, 0, []), 1), ((3, 3, 0, 0, []), 1)] 0 _ _ _ (by decide +kernel) ?_
  exact ok_Arrays_fill_34_p5 H _ _ _ _ _ h
theorem ok_Arrays_fill_34 {l : Launch} {a1 : Int} {σ : pS} {v : Int} {σ1 : pS} (h : f_Arrays_fill_34 a1 σ = some (v, σ1)) : Con l 0 6 [.inr 34, .inl a1] σ v σ1 := Con_mk 2 4 rfl (by decide +kernel) (fun _ H => ok_Arrays_fill_34_w H _ _ h)
theorem ok_Arrays_fill_35_p5 {l : Launch} {rv : Int} {rσ : pS} {G : Nat → pL → List pV → pS → Prop} (H : px_R l 0 6 rv rσ G) : ∀ (n : Nat) (a1 a2 a3 : Int) (σ : pS), f_Arrays_fill_35_p5 n a1 a2 a3 σ = some (rv, rσ) → G 5 [some (.inr 35), some (.inl a1), some (.inl a2), some (.inl a3)] [] σ := by
  intro n
  induction n with
  | zero =>
    intro a1 a2 a3 σ h
    unfold f_Arrays_fill_35_p5 at h
    cases h
  | succ n ih =>
    intro a1 a2 a3 σ h
    unfold f_Arrays_fill_35_p5 at h
    refine H [((1, 2, 0, 0, []), 1), ((1, 3, 0, 0, []), 1), ((13, 3, 20, 0, []), 3), ((2, 0, 0, 0, []), 1), ((1, 2, 0, 0, []), 1), ((1, 1, 0, 0, []), 1), ((20, 35, 20, 0, []), 1), ((5, 2, 0, 1, []), 3), ((12, 0, 5, 0, []), 3)] 5 _ _ _ (by decide +kernel) ?_
    rcases px_ite h with ⟨c1, h⟩ | ⟨c1, h⟩
    · refine And.intro (fun _ => ?_) (fun hn => absurd c1 hn)
      refine H [((28, 0, 0, 0, []), 1)] 20 _ _ _ (by decide +kernel) ?_
      exact (Prod.mk.inj (Option.some.inj h)).2
    · refine And.intro (fun hp => absurd hp c1) (fun _ => ?_)
      obtain ⟨g2, h⟩ := px_gd h
      refine And.intro g2 ?_
      exact ih _ _ _ _ h
theorem ok_Arrays_fill_35_w {l : Launch} {rv : Int} {rσ : pS} {G : Nat → pL → List pV → pS → Prop} (H : px_R l 0 6 rv rσ G) : ∀ (a1 : Int) (σ : pS), f_Arrays_fill_35 a1 σ = some (rv, rσ) → G 0 [some (.inr 35), some (.inl a1), none, none] [] σ := by
  intro a1 σ h
  unfold f_Arrays_fill_35 at h
  refine H [((0, 0, 0, 0, []), 1), ((3, 2, 0, 0, []), 1), ((2, 0, 0, 0, []), 1), ((21, 35, 20, 0, []), 1), ((3, 3, 0, 0, []), 1)] 0 _ _ _ (by decide +kernel) ?_
  exact ok_Arrays_fill_35_p5 H _ _ _ _ _ h
theorem ok_Arrays_fill_35 {l : Launch} {a1 : Int} {σ : pS} {v : Int} {σ1 : pS} (h : f_Arrays_fill_35 a1 σ = some (v, σ1)) : Con l 0 6 [.inr 35, .inl a1] σ v σ1 := Con_mk 2 4 rfl (by decide +kernel) (fun _ H => ok_Arrays_fill_35_w H _ _ h)
theorem ok_Arrays_fill_36_p5 {l : Launch} {rv : Int} {rσ : pS} {G : Nat → pL → List pV → pS → Prop} (H : px_R l 0 6 rv rσ G) : ∀ (n : Nat) (a1 a2 a3 : Int) (σ : pS), f_Arrays_fill_36_p5 n a1 a2 a3 σ = some (rv, rσ) → G 5 [some (.inr 36), some (.inl a1), some (.inl a2), some (.inl a3)] [] σ := by
  intro n
  induction n with
  | zero =>
    intro a1 a2 a3 σ h
    unfold f_Arrays_fill_36_p5 at h
    cases h
  | succ n ih =>
    intro a1 a2 a3 σ h
    unfold f_Arrays_fill_36_p5 at h
    refine H [((1, 2, 0, 0, []), 1), ((1, 3, 0, 0, []), 1), ((13, 3, 20, 0, []), 3), ((2, 0, 0, 0, []), 1), ((1, 2, 0, 0, []), 1), ((1, 1, 0, 0, []), 1), ((20, 36, 20, 0, []), 1), ((5, 2, 0, 1, []), 3), ((12, 0, 5, 0, []), 3)] 5 _ _ _ (by decide +kernel) ?_
    rcases px_ite h with ⟨c1, h⟩ | ⟨c1, h⟩
    · refine And.intro (fun _ => ?_) (fun hn => absurd c1 hn)
      refine H [((28, 0, 0, 0, []), 1)] 20 _ _ _ (by decide +kernel) ?_
      exact (Prod.mk.inj (Option.some.inj h)).2
    · refine And.intro (fun hp => absurd hp c1) (fun _ => ?_)
      obtain ⟨g2, h⟩ := px_gd h
      refine And.intro g2 ?_
      exact ih _ _ _ _ h
theorem ok_Arrays_fill_36_w {l : Launch} {rv : Int} {rσ : pS} {G : Nat → pL → List pV → pS → Prop} (H : px_R l 0 6 rv rσ G) : ∀ (a1 : Int) (σ : pS), f_Arrays_fill_36 a1 σ = some (rv, rσ) → G 0 [some (.inr 36), some (.inl a1), none, none] [] σ := by
  intro a1 σ h
  unfold f_Arrays_fill_36 at h
  refine H [((0, 0, 0, 0, []), 1), ((3, 2, 0, 0, []), 1), ((2, 0, 0, 0, []), 1), ((21, 36, 20, 0, []), 1), ((3, 3, 0, 0, []), 1)] 0 _ _ _ (by decide +kernel) ?_
  exact ok_Arrays_fill_36_p5 H _ _ _ _ _ h
theorem ok_Arrays_fill_36 {l : Launch} {a1 : Int} {σ : pS} {v : Int} {σ1 : pS} (h : f_Arrays_fill_36 a1 σ = some (v, σ1)) : Con l 0 6 [.inr 36, .inl a1] σ v σ1 := Con_mk 2 4 rfl (by decide +kernel) (fun _ H => ok_Arrays_fill_36_w H _ _ h)
theorem ok_Arrays_fill_37_p5 {l : Launch} {rv : Int} {rσ : pS} {G : Nat → pL → List pV → pS → Prop} (H : px_R l 0 6 rv rσ G) : ∀ (n : Nat) (a1 a2 a3 : Int) (σ : pS), f_Arrays_fill_37_p5 n a1 a2 a3 σ = some (rv, rσ) → G 5 [some (.inr 37), some (.inl a1), some (.inl a2), some (.inl a3)] [] σ := by
  intro n
  induction n with
  | zero =>
    intro a1 a2 a3 σ h
    unfold f_Arrays_fill_37_p5 at h
    cases h
  | succ n ih =>
    intro a1 a2 a3 σ h
    unfold f_Arrays_fill_37_p5 at h
    refine H [((1, 2, 0, 0, []), 1), ((1, 3, 0, 0, []), 1), ((13, 3, 20, 0, []), 3), ((2, 0, 0, 0, []), 1), ((1, 2, 0, 0, []), 1), ((1, 1, 0, 0, []), 1), ((20, 37, 20, 0, []), 1), ((5, 2, 0, 1, []), 3), ((12, 0, 5, 0, []), 3)] 5 _ _ _ (by decide +kernel) ?_
    rcases px_ite h with ⟨c1, h⟩ | ⟨c1, h⟩
    · refine And.intro (fun _ => ?_) (fun hn => absurd c1 hn)
      refine H [((28, 0, 0, 0, []), 1)] 20 _ _ _ (by decide +kernel) ?_
      exact (Prod.mk.inj (Option.some.inj h)).2
    · refine And.intro (fun hp => absurd hp c1) (fun _ => ?_)
      obtain ⟨g2, h⟩ := px_gd h
      refine And.intro g2 ?_
      exact ih _ _ _ _ h
theorem ok_Arrays_fill_37_w {l : Launch} {rv : Int} {rσ : pS} {G : Nat → pL → List pV → pS → Prop} (H : px_R l 0 6 rv rσ G) : ∀ (a1 : Int) (σ : pS), f_Arrays_fill_37 a1 σ = some (rv, rσ) → G 0 [some (.inr 37), some (.inl a1), none, none] [] σ := by
  intro a1 σ h
  unfold f_Arrays_fill_37 at h
  refine H [((0, 0, 0, 0, []), 1), ((3, 2, 0, 0, []), 1), ((2, 0, 0, 0, []), 1), ((21, 37, 20, 0, []), 1), ((3, 3, 0, 0, []), 1)] 0 _ _ _ (by decide +kernel) ?_
  exact ok_Arrays_fill_37_p5 H _ _ _ _ _ h
theorem ok_Arrays_fill_37 {l : Launch} {a1 : Int} {σ : pS} {v : Int} {σ1 : pS} (h : f_Arrays_fill_37 a1 σ = some (v, σ1)) : Con l 0 6 [.inr 37, .inl a1] σ v σ1 := Con_mk 2 4 rfl (by decide +kernel) (fun _ H => ok_Arrays_fill_37_w H _ _ h)
theorem ok_Arrays_fill_38_p5 {l : Launch} {rv : Int} {rσ : pS} {G : Nat → pL → List pV → pS → Prop} (H : px_R l 0 6 rv rσ G) : ∀ (n : Nat) (a1 a2 a3 : Int) (σ : pS), f_Arrays_fill_38_p5 n a1 a2 a3 σ = some (rv, rσ) → G 5 [some (.inr 38), some (.inl a1), some (.inl a2), some (.inl a3)] [] σ := by
  intro n
  induction n with
  | zero =>
    intro a1 a2 a3 σ h
    unfold f_Arrays_fill_38_p5 at h
    cases h
  | succ n ih =>
    intro a1 a2 a3 σ h
    unfold f_Arrays_fill_38_p5 at h
    refine H [((1, 2, 0, 0, []), 1), ((1, 3, 0, 0, []), 1), ((13, 3, 20, 0, []), 3), ((2, 0, 0, 0, []), 1), ((1, 2, 0, 0, []), 1), ((1, 1, 0, 0, []), 1), ((20, 38, 80, 0, []), 1), ((5, 2, 0, 1, []), 3), ((12, 0, 5, 0, []), 3)] 5 _ _ _ (by decide +kernel) ?_
    rcases px_ite h with ⟨c1, h⟩ | ⟨c1, h⟩
    · refine And.intro (fun _ => ?_) (fun hn => absurd c1 hn)
      refine H [((28, 0, 0, 0, []), 1)] 20 _ _ _ (by decide +kernel) ?_
      exact (Prod.mk.inj (Option.some.inj h)).2
    · refine And.intro (fun hp => absurd hp c1) (fun _ => ?_)
      obtain ⟨g2, h⟩ := px_gd h
      refine And.intro g2 ?_
      exact ih _ _ _ _ h
theorem ok_Arrays_fill_38_w {l : Launch} {rv : Int} {rσ : pS} {G : Nat → pL → List pV → pS → Prop} (H : px_R l 0 6 rv rσ G) : ∀ (a1 : Int) (σ : pS), f_Arrays_fill_38 a1 σ = some (rv, rσ) → G 0 [some (.inr 38), some (.inl a1), none, none] [] σ := by
  intro a1 σ h
  unfold f_Arrays_fill_38 at h
  refine H [((0, 0, 0, 0, []), 1), ((3, 2, 0, 0, []), 1), ((2, 0, 0, 0, []), 1), ((21, 38, 80, 0, []), 1), ((3, 3, 0, 0, []), 1)] 0 _ _ _ (by decide +kernel) ?_
  exact ok_Arrays_fill_38_p5 H _ _ _ _ _ h
theorem ok_Arrays_fill_38 {l : Launch} {a1 : Int} {σ : pS} {v : Int} {σ1 : pS} (h : f_Arrays_fill_38 a1 σ = some (v, σ1)) : Con l 0 6 [.inr 38, .inl a1] σ v σ1 := Con_mk 2 4 rfl (by decide +kernel) (fun _ H => ok_Arrays_fill_38_w H _ _ h)
theorem ok_Rep_clear_32_w {l : Launch} {rv : Int} {rσ : pS} {G : Nat → pL → List pV → pS → Prop} (H : px_R l 1 64 rv rσ G) : ∀ (σ : pS), f_Rep_clear_32  σ = some (rv, rσ) → G 0 [some (.inr 32)] [] σ := by
  intro  σ h
  unfold f_Rep_clear_32 at h
  refine H [((2, 0, 0, 0, []), 1), ((17, 32, 33, 0, []), 3), ((0, 0, 0, 0, []), 1), ((24, 6, 2, 0, []), 3), ((2, 0, 0, 0, []), 1), ((17, 32, 34, 0, []), 3), ((0, 0, 0, 0, []), 1), ((24, 6, 2, 0, []), 3), ((2, 0, 0, 0, []), 1), ((17, 32, 35, 0, []), 3), ((0, 0, 0, 0, []), 1), ((24, 6, 2, 0, []), 3), ((2, 0, 0, 0, []), 1), ((17, 32, 36, 0, []), 3), ((0, 0, 0, 0, []), 1), ((24, 6, 2, 0, []), 3), ((2, 0, 0, 0, []), 1), ((17, 32, 37, 0, []), 3), ((0, 0, 0, 0, []), 1), ((24, 6, 2, 0, []), 3), ((2, 0, 0, 0, []), 1), ((17, 32, 38, 0, []), 3), ((0, 0, 0, (-1), []), 1), ((24, 6, 2, 0, []), 3), ((28, 0, 0, 0, []), 1)] 0 _ _ _ (by decide +kernel) ?_
  obtain ⟨⟨vq1, σq1⟩, hq1, h⟩ := px_bind h
  dsimp only at h
  refine Exists.intro 0 (Exists.intro vq1 (Exists.intro σq1 (And.intro (Nat.le_of_ble_eq_true rfl) (And.intro (ok_Arrays_fill_33 hq1) ?_))))
  obtain ⟨⟨vq2, σq2⟩, hq2, h⟩ := px_bind h
  dsimp only at h
  refine Exists.intro 0 (Exists.intro vq2 (Exists.intro σq2 (And.intro (Nat.le_of_ble_eq_true rfl) (And.intro (ok_Arrays_fill_34 hq2) ?_))))
  obtain ⟨⟨vq3, σq3⟩, hq3, h⟩ := px_bind h
  dsimp only at h
  refine Exists.intro 0 (Exists.intro vq3 (Exists.intro σq3 (And.intro (Nat.le_of_ble_eq_true rfl) (And.intro (ok_Arrays_fill_35 hq3) ?_))))
  obtain ⟨⟨vq4, σq4⟩, hq4, h⟩ := px_bind h
  dsimp only at h
  refine Exists.intro 0 (Exists.intro vq4 (Exists.intro σq4 (And.intro (Nat.le_of_ble_eq_true rfl) (And.intro (ok_Arrays_fill_36 hq4) ?_))))
  obtain ⟨⟨vq5, σq5⟩, hq5, h⟩ := px_bind h
  dsimp only at h
  refine Exists.intro 0 (Exists.intro vq5 (Exists.intro σq5 (And.intro (Nat.le_of_ble_eq_true rfl) (And.intro (ok_Arrays_fill_37 hq5) ?_))))
  obtain ⟨⟨vq6, σq6⟩, hq6, h⟩ := px_bind h
  dsimp only at h
  refine Exists.intro 0 (Exists.intro vq6 (Exists.intro σq6 (And.intro (Nat.le_of_ble_eq_true rfl) (And.intro (ok_Arrays_fill_38 hq6) ?_))))
  exact (Prod.mk.inj (Option.some.inj h)).2
theorem ok_Rep_clear_32 {l : Launch} {σ : pS} {v : Int} {σ1 : pS} (h : f_Rep_clear_32  σ = some (v, σ1)) : Con l 1 64 [.inr 32] σ v σ1 := Con_mk 1 1 rfl (by decide +kernel) (fun _ H => ok_Rep_clear_32_w H  _ h)
theorem ok_Arrays_fill_39_p5 {l : Launch} {rv : Int} {rσ : pS} {G : Nat → pL → List pV → pS → Prop} (H : px_R l 0 6 rv rσ G) : ∀ (n : Nat) (a1 a2 a3 : Int) (σ : pS), f_Arrays_fill_39_p5 n a1 a2 a3 σ = some (rv, rσ) → G 5 [some (.inr 39), some (.inl a1), some (.inl a2), some (.inl a3)] [] σ := by
  intro n
  induction n with
  | zero =>
    intro a1 a2 a3 σ h
    unfold f_Arrays_fill_39_p5 at h
    cases h
  | succ n ih =>
    intro a1 a2 a3 σ h
    unfold f_Arrays_fill_39_p5 at h
    refine H [((1, 2, 0, 0, []), 1), ((1, 3, 0, 0, []), 1), ((13, 3, 20, 0, []), 3), ((2, 0, 0, 0, []), 1), ((1, 2, 0, 0, []), 1), ((1, 1, 0, 0, []), 1), ((20, 39, 20, 0, []), 1), ((5, 2, 0, 1, []), 3), ((12, 0, 5, 0, []), 3)] 5 _ _ _ (by decide +kernel) ?_
    rcases px_ite h with ⟨c1, h⟩ | ⟨c1, h⟩
    · refine And.intro (fun _ => ?_) (fun hn => absurd c1 hn)
      refine H [((28, 0, 0, 0, []), 1)] 20 _ _ _ (by decide +kernel) ?_
      exact (Prod.mk.inj (Option.some.inj h)).2
    · refine And.intro (fun hp => absurd hp c1) (fun _ => ?_)
      obtain ⟨g2, h⟩ := px_gd h
      refine And.intro g2 ?_
      exact ih _ _ _ _ h
theorem ok_Arrays_fill_39_w {l : Launch} {rv : Int} {rσ : pS} {G : Nat → pL → List pV → pS → Prop} (H : px_R l 0 6 rv rσ G) : ∀ (a1 : Int) (σ : pS), f_Arrays_fill_39 a1 σ = some (rv, rσ) → G 0 [some (.inr 39), some (.inl a1), none, none] [] σ := by
  intro a1 σ h
  unfold f_Arrays_fill_39 at h
  refine H [((0, 0, 0, 0, []), 1), ((3, 2, 0, 0, []), 1), ((2, 0, 0, 0, []), 1), ((21, 39, 20, 0, []), 1), ((3, 3, 0, 0, []), 1)] 0 _ _ _ (by decide +kernel) ?_
  exact ok_Arrays_fill_39_p5 H _ _ _ _ _ h
theorem ok_Arrays_fill_39 {l : Launch} {a1 : Int} {σ : pS} {v : Int} {σ1 : pS} (h : f_Arrays_fill_39 a1 σ = some (v, σ1)) : Con l 0 6 [.inr 39, .inl a1] σ v σ1 := Con_mk 2 4 rfl (by decide +kernel) (fun _ H => ok_Arrays_fill_39_w H _ _ h)
theorem ok_Mach_begin_3_p28 {l : Launch} {rv : Int} {rσ : pS} {G : Nat → pL → List pV → pS → Prop} (H : px_R l 3 60 rv rσ G) : ∀ (n : Nat) (a1 : Int) (σ : pS), f_Mach_begin_3_p28 n a1 σ = some (rv, rσ) → G 28 [some (.inr 3), some (.inl a1)] [] σ := by
  intro n
  induction n with
  | zero =>
    intro a1 σ h
    unfold f_Mach_begin_3_p28 at h
    cases h
  | succ n ih =>
    intro a1 σ h
    unfold f_Mach_begin_3_p28 at h
    refine H [((1, 1, 0, 0, []), 1), ((0, 0, 0, 20, []), 2), ((13, 3, 47, 0, []), 3), ((2, 0, 0, 0, []), 1), ((17, 3, 41, 0, []), 3), ((1, 1, 0, 0, []), 1), ((0, 0, 0, 0, []), 1), ((20, 41, 20, 1, []), 1), ((5, 1, 0, 1, []), 3), ((12, 0, 28, 0, []), 3)] 28 _ _ _ (by decide +kernel) ?_
    rcases px_ite h with ⟨c4, h⟩ | ⟨c4, h⟩
    · refine And.intro (fun _ => ?_) (fun hn => absurd c4 hn)
      refine H [((28, 0, 0, 0, []), 1)] 47 _ _ _ (by decide +kernel) ?_
      exact (Prod.mk.inj (Option.some.inj h)).2
    · refine And.intro (fun hp => absurd hp c4) (fun _ => ?_)
      obtain ⟨g5, h⟩ := px_gd h
      refine And.intro g5 ?_
      refine And.intro (show (0 : Int) ≤ 0 ∧ (0 : Int) ≤ 1 from by decide) ?_
      exact ih _ _ h
theorem ok_Mach_begin_3_w {l : Launch} {rv : Int} {rσ : pS} {G : Nat → pL → List pV → pS → Prop} (H : px_R l 3 60 rv rσ G) : ∀ (σ : pS), f_Mach_begin_3  σ = some (rv, rσ) → G 0 [some (.inr 3), none] [] σ := by
  intro  σ h
  unfold f_Mach_begin_3 at h
  refine H [((2, 0, 0, 0, []), 1), ((17, 3, 28, 0, []), 3), ((2, 0, 0, 0, []), 1), ((17, 3, 24, 0, []), 3), ((23, 61, 1, 0, [(0, 28)]), 3), ((2, 0, 0, 0, []), 1), ((17, 3, 32, 0, []), 3), ((23, 64, 0, 0, [(0, 32)]), 3), ((2, 0, 0, 0, []), 1), ((17, 3, 39, 0, []), 3), ((0, 0, 0, 0, []), 1), ((24, 6, 2, 0, []), 3), ((0, 0, 0, 0, []), 1), ((3, 1, 0, 0, []), 1)] 0 _ _ _ (by decide +kernel) ?_
  obtain ⟨⟨vq1, σq1⟩, hq1, h⟩ := px_bind h
  dsimp only at h
  refine Exists.intro 2 (Exists.intro vq1 (Exists.intro σq1 (And.intro (Nat.le_of_ble_eq_true rfl) (And.intro (ok_State_copyFrom_28_24 hq1) ?_))))
  obtain ⟨⟨vq2, σq2⟩, hq2, h⟩ := px_bind h
  dsimp only at h
  refine Exists.intro 1 (Exists.intro vq2 (Exists.intro σq2 (And.intro (Nat.le_of_ble_eq_true rfl) (And.intro (ok_Rep_clear_32 hq2) ?_))))
  obtain ⟨⟨vq3, σq3⟩, hq3, h⟩ := px_bind h
  dsimp only at h
  refine Exists.intro 0 (Exists.intro vq3 (Exists.intro σq3 (And.intro (Nat.le_of_ble_eq_true rfl) (And.intro (ok_Arrays_fill_39 hq3) ?_))))
  exact ok_Mach_begin_3_p28 H _ _ _ h
theorem ok_Mach_begin_3 {l : Launch} {σ : pS} {v : Int} {σ1 : pS} (h : f_Mach_begin_3  σ = some (v, σ1)) : Con l 3 60 [.inr 3] σ v σ1 := Con_mk 1 2 rfl (by decide +kernel) (fun _ H => ok_Mach_begin_3_w H  _ h)
theorem ok_Mach_valueRead_3_p20 {l : Launch} {rv : Int} {rσ : pS} {G : Nat → pL → List pV → pS → Prop} (H : px_R l 1 66 rv rσ G) : ∀ (a2 : Int) (σ : pS), f_Mach_valueRead_3_p20 a2 σ = some (rv, rσ) → G 20 [some (.inr 3), none, some (.inl a2)] [] σ := by
  intro a2 σ h
  unfold f_Mach_valueRead_3_p20 at h
  refine H [((1, 2, 0, 0, []), 1), ((24, 52, 1, 1, []), 3), ((14, 0, 39, 0, []), 3), ((2, 0, 0, 0, []), 1), ((17, 3, 24, 0, []), 3), ((17, 24, 25, 0, []), 3), ((1, 2, 0, 0, []), 1), ((19, 25, 8, 0, []), 1), ((12, 0, 40, 0, []), 3), ((27, 0, 0, 0, []), 1)] 20 _ _ _ (by decide +kernel) ?_
  obtain ⟨⟨vq2, σq2⟩, hq2, h⟩ := px_bind h
  dsimp only at h
  refine Exists.intro 0 (Exists.intro vq2 (Exists.intro σq2 (And.intro (Nat.le_of_ble_eq_true rfl) (And.intro (ok_X_isCell hq2) ?_))))
  rcases px_ite h with ⟨c3, h⟩ | ⟨c3, h⟩
  · refine And.intro (fun _ => ?_) (fun hn => absurd c3 hn)
    refine H [((0, 0, 0, 0, []), 1), ((27, 0, 0, 0, []), 1)] 39 _ _ _ (by decide +kernel) ?_
    exact Prod.mk.inj (Option.some.inj h)
  · refine And.intro (fun hp => absurd hp c3) (fun _ => ?_)
    obtain ⟨g4, h⟩ := px_gd h
    refine And.intro g4 ?_
    exact Prod.mk.inj (Option.some.inj h)
theorem ok_Mach_valueRead_3_w {l : Launch} {rv : Int} {rσ : pS} {G : Nat → pL → List pV → pS → Prop} (H : px_R l 1 66 rv rσ G) : ∀ (a1 a2 : Int) (σ : pS), f_Mach_valueRead_3 a1 a2 σ = some (rv, rσ) → G 0 [some (.inr 3), some (.inl a1), some (.inl a2)] [] σ := by
  intro a1 a2 σ h
  unfold f_Mach_valueRead_3 at h
  refine H [((1, 1, 0, 0, []), 1), ((14, 2, 20, 0, []), 3), ((1, 1, 0, 0, []), 1), ((0, 0, 0, 20, []), 2), ((13, 3, 20, 0, []), 3), ((2, 0, 0, 0, []), 1), ((17, 3, 32, 0, []), 3), ((17, 32, 36, 0, []), 3), ((1, 1, 0, 0, []), 1), ((19, 36, 20, 0, []), 1), ((27, 0, 0, 0, []), 1)] 0 _ _ _ (by decide +kernel) ?_
  rcases px_ite h with ⟨c1, h⟩ | ⟨c1, h⟩
  · refine And.intro (fun _ => ?_) (fun hn => absurd c1 hn)
    refine H [((29, 1, 0, 0, []), 0)] 20 _ _ _ (by decide +kernel) ?_
    exact ok_Mach_valueRead_3_p20 H _ _ h
  · refine And.intro (fun hp => absurd hp c1) (fun _ => ?_)
    rcases px_ite h with ⟨c5, h⟩ | ⟨c5, h⟩
    · refine And.intro (fun _ => ?_) (fun hn => absurd c5 hn)
      refine H [((29, 1, 0, 0, []), 0)] 20 _ _ _ (by decide +kernel) ?_
      exact ok_Mach_valueRead_3_p20 H _ _ h
    · refine And.intro (fun hp => absurd hp c5) (fun _ => ?_)
      obtain ⟨g6, h⟩ := px_gd h
      refine And.intro g6 ?_
      exact Prod.mk.inj (Option.some.inj h)
theorem ok_Mach_valueRead_3 {l : Launch} {a1 a2 : Int} {σ : pS} {v : Int} {σ1 : pS} (h : f_Mach_valueRead_3 a1 a2 σ = some (v, σ1)) : Con l 1 66 [.inr 3, .inl a1, .inl a2] σ v σ1 := Con_mk 3 3 rfl (by decide +kernel) (fun _ H => ok_Mach_valueRead_3_w H _ _ _ h)
theorem ok_Prog_reckoned_4_w {l : Launch} {rv : Int} {rσ : pS} {G : Nat → pL → List pV → pS → Prop} (H : px_R l 0 80 rv rσ G) : ∀ (a1 a2 a3 : Int) (σ : pS), f_Prog_reckoned_4 a1 a2 a3 σ = some (rv, rσ) → G 0 [some (.inr 4), some (.inl a1), some (.inl a2), some (.inl a3)] [] σ := by
  intro a1 a2 a3 σ h
  unfold f_Prog_reckoned_4 at h
  refine H [((2, 0, 0, 0, []), 1), ((17, 4, 6, 0, []), 3), ((1, 1, 0, 0, []), 1), ((19, 6, 20, 0, []), 1), ((15, 0, 95, 0, [(38, 76), (42, 72), (43, 64), (45, 68), (62, 84), (94, 80)]), 58)] 0 _ _ _ (by decide +kernel) ?_
  obtain ⟨g1, h⟩ := px_gd h
  refine And.intro g1 ?_
  rcases px_ite h with ⟨c2, h⟩ | ⟨c2, h⟩
  · refine And.intro (fun _ => ?_) (fun hn => absurd c2 hn)
    refine H [((1, 2, 0, 0, []), 1), ((1, 3, 0, 0, []), 1), ((6, 3, 0, 0, []), 1), ((27, 0, 0, 0, []), 1)] 76 _ _ _ (by decide +kernel) ?_
    exact Prod.mk.inj (Option.some.inj h)
  · refine And.intro (fun hp => absurd hp c2) (fun _ => ?_)
    rcases px_ite h with ⟨c3, h⟩ | ⟨c3, h⟩
    · refine And.intro (fun _ => ?_) (fun hn => absurd c3 hn)
      refine H [((1, 2, 0, 0, []), 1), ((1, 3, 0, 0, []), 1), ((6, 2, 0, 0, []), 1), ((27, 0, 0, 0, []), 1)] 72 _ _ _ (by decide +kernel) ?_
      exact Prod.mk.inj (Option.some.inj h)
    · refine And.intro (fun hp => absurd hp c3) (fun _ => ?_)
      rcases px_ite h with ⟨c4, h⟩ | ⟨c4, h⟩
      · refine And.intro (fun _ => ?_) (fun hn => absurd c4 hn)
        refine H [((1, 2, 0, 0, []), 1), ((1, 3, 0, 0, []), 1), ((6, 0, 0, 0, []), 1), ((27, 0, 0, 0, []), 1)] 64 _ _ _ (by decide +kernel) ?_
        exact Prod.mk.inj (Option.some.inj h)
      · refine And.intro (fun hp => absurd hp c4) (fun _ => ?_)
        rcases px_ite h with ⟨c5, h⟩ | ⟨c5, h⟩
        · refine And.intro (fun _ => ?_) (fun hn => absurd c5 hn)
          refine H [((1, 2, 0, 0, []), 1), ((1, 3, 0, 0, []), 1), ((6, 1, 0, 0, []), 1), ((27, 0, 0, 0, []), 1)] 68 _ _ _ (by decide +kernel) ?_
          exact Prod.mk.inj (Option.some.inj h)
        · refine And.intro (fun hp => absurd hp c5) (fun _ => ?_)
          rcases px_ite h with ⟨c6, h⟩ | ⟨c6, h⟩
          · refine And.intro (fun _ => ?_) (fun hn => absurd c6 hn)
            refine H [((1, 2, 0, 0, []), 1), ((1, 3, 0, 0, []), 1), ((13, 5, 93, 0, []), 3), ((0, 0, 0, 1, []), 1), ((12, 0, 94, 0, []), 3), ((27, 0, 0, 0, []), 1)] 84 _ _ _ (by decide +kernel) ?_
            rcases px_ite h with ⟨c7, h⟩ | ⟨c7, h⟩
            · refine And.intro (fun _ => ?_) (fun hn => absurd c7 hn)
              refine H [((0, 0, 0, 0, []), 1), ((27, 0, 0, 0, []), 1)] 93 _ _ _ (by decide +kernel) ?_
              exact Prod.mk.inj (Option.some.inj h)
            · refine And.intro (fun hp => absurd hp c7) (fun _ => ?_)
              exact Prod.mk.inj (Option.some.inj h)
          · refine And.intro (fun hp => absurd hp c6) (fun _ => ?_)
            rcases px_ite h with ⟨c8, h⟩ | ⟨c8, h⟩
            · refine And.intro (fun _ => ?_) (fun hn => absurd c8 hn)
              refine H [((1, 2, 0, 0, []), 1), ((1, 3, 0, 0, []), 1), ((6, 5, 0, 0, []), 1), ((27, 0, 0, 0, []), 1)] 80 _ _ _ (by decide +kernel) ?_
              exact Prod.mk.inj (Option.some.inj h)
            · refine And.intro (fun hp => absurd hp c8) (fun _ => ?_)
              refine H [((2, 0, 0, 0, []), 1), ((17, 4, 11, 0, []), 3), ((1, 1, 0, 0, []), 1), ((19, 11, 20, 0, []), 1), ((27, 0, 0, 0, []), 1)] 95 _ _ _ (by decide +kernel) ?_
              obtain ⟨g9, h⟩ := px_gd h
              refine And.intro g9 ?_
              exact Prod.mk.inj (Option.some.inj h)
theorem ok_Prog_reckoned_4 {l : Launch} {a1 a2 a3 : Int} {σ : pS} {v : Int} {σ1 : pS} (h : f_Prog_reckoned_4 a1 a2 a3 σ = some (v, σ1)) : Con l 0 80 [.inr 4, .inl a1, .inl a2, .inl a3] σ v σ1 := Con_mk 4 4 rfl (by decide +kernel) (fun _ H => ok_Prog_reckoned_4_w H _ _ _ _ h)
theorem ok_Prog_placeBy_4_w {l : Launch} {rv : Int} {rσ : pS} {G : Nat → pL → List pV → pS → Prop} (H : px_R l 0 67 rv rσ G) : ∀ (a1 a2 : Int) (σ : pS), f_Prog_placeBy_4 a1 a2 σ = some (rv, rσ) → G 0 [some (.inr 4), some (.inl a1), some (.inl a2)] [] σ := by
  intro a1 a2 σ h
  unfold f_Prog_placeBy_4 at h
  refine H [((1, 2, 0, 0, []), 1), ((2, 0, 0, 0, []), 1), ((17, 4, 11, 0, []), 3), ((1, 1, 0, 0, []), 1), ((19, 11, 20, 0, []), 1), ((6, 0, 0, 0, []), 1), ((0, 0, 0, 63, []), 2), ((6, 3, 0, 0, []), 1), ((27, 0, 0, 0, []), 1)] 0 _ _ _ (by decide +kernel) ?_
  obtain ⟨g1, h⟩ := px_gd h
  refine And.intro g1 ?_
  exact Prod.mk.inj (Option.some.inj h)
theorem ok_Prog_placeBy_4 {l : Launch} {a1 a2 : Int} {σ : pS} {v : Int} {σ1 : pS} (h : f_Prog_placeBy_4 a1 a2 σ = some (v, σ1)) : Con l 0 67 [.inr 4, .inl a1, .inl a2] σ v σ1 := Con_mk 3 3 rfl (by decide +kernel) (fun _ H => ok_Prog_placeBy_4_w H _ _ _ h)
