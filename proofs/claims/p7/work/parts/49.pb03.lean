theorem ok_M_isOp_84_w {l : Launch} {rv : Int} {rσ : pS} {G : Nat → pL → List pV → pS → Prop} (H : px_R l 1 171 rv rσ G) : ∀ (a1 : Int) (σ : pS), f_M_isOp_84 a1 σ = some (rv, rσ) → G 0 [some (.inr 84), some (.inl a1)] [] σ := by
  intro a1 σ h
  unfold f_M_isOp_84 at h
  refine H [((1, 1, 0, 0, []), 1), ((0, 0, 0, 0, []), 1), ((2, 0, 0, 0, []), 1), ((16, 84, 2, 0, []), 3), ((0, 0, 0, 1, []), 1), ((6, 1, 0, 0, []), 1), ((24, 137, 3, 1, []), 3), ((27, 1, 0, 0, []), 1)] 0 _ _ _ (by decide +kernel) ?_
  obtain ⟨⟨vq1, σq1⟩, hq1, h⟩ := px_bind h
  dsimp only at h
  refine Exists.intro 0 (Exists.intro vq1 (Exists.intro σq1 (And.intro (Nat.le_of_ble_eq_true rfl) (And.intro (ok_M_in hq1) ?_))))
  obtain ⟨g2, h⟩ := px_gd h
  refine And.intro g2 ?_
  exact Prod.mk.inj (Option.some.inj h)
theorem ok_M_isOp_84 {l : Launch} {a1 : Int} {σ : pS} {v : Int} {σ1 : pS} (h : f_M_isOp_84 a1 σ = some (v, σ1)) : Con l 1 171 [.inr 84, .inl a1] σ v σ1 := Con_mk 2 2 rfl (by decide +kernel) (fun _ H => ok_M_isOp_84_w H _ _ h)
theorem ok_M_doesRead_84_w {l : Launch} {rv : Int} {rσ : pS} {G : Nat → pL → List pV → pS → Prop} (H : px_R l 0 172 rv rσ G) : ∀ (a1 a2 : Int) (σ : pS), f_M_doesRead_84 a1 a2 σ = some (rv, rσ) → G 0 [some (.inr 84), some (.inl a1), some (.inl a2)] [] σ := by
  intro a1 a2 σ h
  unfold f_M_doesRead_84 at h
  refine H [((2, 0, 0, 0, []), 1), ((17, 84, 88, 0, []), 3), ((1, 1, 0, 0, []), 1), ((19, 88, 20, 0, []), 1), ((15, 0, 76, 0, [(0, 32), (1, 34), (2, 60)]), 26)] 0 _ _ _ (by decide +kernel) ?_
  obtain ⟨g1, h⟩ := px_gd h
  refine And.intro g1 ?_
  rcases px_ite h with ⟨c2, h⟩ | ⟨c2, h⟩
  · refine And.intro (fun _ => ?_) (fun hn => absurd c2 hn)
    refine H [((0, 0, 0, 0, []), 1), ((27, 1, 0, 0, []), 1)] 32 _ _ _ (by decide +kernel) ?_
    refine And.intro (show (0 : Int) ≤ 0 ∧ (0 : Int) ≤ 1 from by decide) ?_
    exact Prod.mk.inj (Option.some.inj h)
  · refine And.intro (fun hp => absurd hp c2) (fun _ => ?_)
    rcases px_ite h with ⟨c3, h⟩ | ⟨c3, h⟩
    · refine And.intro (fun _ => ?_) (fun hn => absurd c3 hn)
      refine H [((2, 0, 0, 0, []), 1), ((17, 84, 91, 0, []), 3), ((1, 1, 0, 0, []), 1), ((19, 91, 20, 0, []), 1), ((1, 2, 0, 0, []), 1), ((13, 0, 54, 0, []), 3), ((2, 0, 0, 0, []), 1), ((17, 84, 92, 0, []), 3), ((1, 1, 0, 0, []), 1), ((19, 92, 20, 0, []), 1), ((1, 2, 0, 0, []), 1), ((13, 1, 58, 0, []), 3), ((0, 0, 0, 1, []), 1), ((12, 0, 59, 0, []), 3), ((27, 1, 0, 0, []), 1)] 34 _ _ _ (by decide +kernel) ?_
      obtain ⟨g4, h⟩ := px_gd h
      refine And.intro g4 ?_
      rcases px_ite h with ⟨c5, h⟩ | ⟨c5, h⟩
      · refine And.intro (fun _ => ?_) (fun hn => absurd c5 hn)
        refine H [((0, 0, 0, 1, []), 1), ((12, 0, 59, 0, []), 3), ((27, 1, 0, 0, []), 1)] 54 _ _ _ (by decide +kernel) ?_
        refine And.intro (show (0 : Int) ≤ 1 ∧ (1 : Int) ≤ 1 from by decide) ?_
        exact Prod.mk.inj (Option.some.inj h)
      · refine And.intro (fun hp => absurd hp c5) (fun _ => ?_)
        obtain ⟨g6, h⟩ := px_gd h
        refine And.intro g6 ?_
        rcases px_ite h with ⟨c7, h⟩ | ⟨c7, h⟩
        · refine And.intro (fun hp => absurd c7 hp) (fun _ => ?_)
          refine And.intro (show (0 : Int) ≤ 1 ∧ (1 : Int) ≤ 1 from by decide) ?_
          exact Prod.mk.inj (Option.some.inj h)
        · refine And.intro (fun _ => ?_) (fun hn => absurd c7 hn)
          refine H [((0, 0, 0, 0, []), 1), ((27, 1, 0, 0, []), 1)] 58 _ _ _ (by decide +kernel) ?_
          refine And.intro (show (0 : Int) ≤ 0 ∧ (0 : Int) ≤ 1 from by decide) ?_
          exact Prod.mk.inj (Option.some.inj h)
    · refine And.intro (fun hp => absurd hp c3) (fun _ => ?_)
      rcases px_ite h with ⟨c8, h⟩ | ⟨c8, h⟩
      · refine And.intro (fun _ => ?_) (fun hn => absurd c8 hn)
        refine H [((2, 0, 0, 0, []), 1), ((17, 84, 94, 0, []), 3), ((1, 1, 0, 0, []), 1), ((19, 94, 20, 0, []), 1), ((1, 2, 0, 0, []), 1), ((13, 1, 74, 0, []), 3), ((0, 0, 0, 1, []), 1), ((12, 0, 75, 0, []), 3), ((27, 1, 0, 0, []), 1)] 60 _ _ _ (by decide +kernel) ?_
        obtain ⟨g9, h⟩ := px_gd h
        refine And.intro g9 ?_
        rcases px_ite h with ⟨c10, h⟩ | ⟨c10, h⟩
        · refine And.intro (fun hp => absurd c10 hp) (fun _ => ?_)
          refine And.intro (show (0 : Int) ≤ 1 ∧ (1 : Int) ≤ 1 from by decide) ?_
          exact Prod.mk.inj (Option.some.inj h)
        · refine And.intro (fun _ => ?_) (fun hn => absurd c10 hn)
          refine H [((0, 0, 0, 0, []), 1), ((27, 1, 0, 0, []), 1)] 74 _ _ _ (by decide +kernel) ?_
          refine And.intro (show (0 : Int) ≤ 0 ∧ (0 : Int) ≤ 1 from by decide) ?_
          exact Prod.mk.inj (Option.some.inj h)
      · refine And.intro (fun hp => absurd hp c8) (fun _ => ?_)
        refine H [((2, 0, 0, 0, []), 1), ((17, 84, 90, 0, []), 3), ((1, 1, 0, 0, []), 1), ((19, 90, 20, 0, []), 1), ((1, 2, 0, 0, []), 1), ((13, 0, 96, 0, []), 3), ((2, 0, 0, 0, []), 1), ((17, 84, 94, 0, []), 3), ((1, 1, 0, 0, []), 1), ((19, 94, 20, 0, []), 1), ((1, 2, 0, 0, []), 1), ((13, 1, 100, 0, []), 3), ((0, 0, 0, 1, []), 1), ((12, 0, 101, 0, []), 3), ((27, 1, 0, 0, []), 1)] 76 _ _ _ (by decide +kernel) ?_
        obtain ⟨g11, h⟩ := px_gd h
        refine And.intro g11 ?_
        rcases px_ite h with ⟨c12, h⟩ | ⟨c12, h⟩
        · refine And.intro (fun _ => ?_) (fun hn => absurd c12 hn)
          refine H [((0, 0, 0, 1, []), 1), ((12, 0, 101, 0, []), 3), ((27, 1, 0, 0, []), 1)] 96 _ _ _ (by decide +kernel) ?_
          refine And.intro (show (0 : Int) ≤ 1 ∧ (1 : Int) ≤ 1 from by decide) ?_
          exact Prod.mk.inj (Option.some.inj h)
        · refine And.intro (fun hp => absurd hp c12) (fun _ => ?_)
          obtain ⟨g13, h⟩ := px_gd h
          refine And.intro g13 ?_
          rcases px_ite h with ⟨c14, h⟩ | ⟨c14, h⟩
          · refine And.intro (fun hp => absurd c14 hp) (fun _ => ?_)
            refine And.intro (show (0 : Int) ≤ 1 ∧ (1 : Int) ≤ 1 from by decide) ?_
            exact Prod.mk.inj (Option.some.inj h)
          · refine And.intro (fun _ => ?_) (fun hn => absurd c14 hn)
            refine H [((0, 0, 0, 0, []), 1), ((27, 1, 0, 0, []), 1)] 100 _ _ _ (by decide +kernel) ?_
            refine And.intro (show (0 : Int) ≤ 0 ∧ (0 : Int) ≤ 1 from by decide) ?_
            exact Prod.mk.inj (Option.some.inj h)
theorem ok_M_doesRead_84 {l : Launch} {a1 a2 : Int} {σ : pS} {v : Int} {σ1 : pS} (h : f_M_doesRead_84 a1 a2 σ = some (v, σ1)) : Con l 0 172 [.inr 84, .inl a1, .inl a2] σ v σ1 := Con_mk 3 3 rfl (by decide +kernel) (fun _ H => ok_M_doesRead_84_w H _ _ _ h)
theorem ok_M_gives_84_w {l : Launch} {rv : Int} {rσ : pS} {G : Nat → pL → List pV → pS → Prop} (H : px_R l 0 174 rv rσ G) : ∀ (a1 a2 : Int) (σ : pS), f_M_gives_84 a1 a2 σ = some (rv, rσ) → G 0 [some (.inr 84), some (.inl a1), some (.inl a2)] [] σ := by
  intro a1 a2 σ h
  unfold f_M_gives_84 at h
  refine H [((2, 0, 0, 0, []), 1), ((17, 84, 88, 0, []), 3), ((1, 1, 0, 0, []), 1), ((19, 88, 20, 0, []), 1), ((0, 0, 0, 3, []), 1), ((13, 0, 24, 0, []), 3), ((2, 0, 0, 0, []), 1), ((17, 84, 90, 0, []), 3), ((1, 1, 0, 0, []), 1), ((19, 90, 20, 0, []), 1), ((1, 2, 0, 0, []), 1), ((13, 1, 24, 0, []), 3), ((0, 0, 0, 1, []), 1), ((12, 0, 25, 0, []), 3), ((27, 1, 0, 0, []), 1)] 0 _ _ _ (by decide +kernel) ?_
  obtain ⟨g1, h⟩ := px_gd h
  refine And.intro g1 ?_
  rcases px_ite h with ⟨c2, h⟩ | ⟨c2, h⟩
  · refine And.intro (fun _ => ?_) (fun hn => absurd c2 hn)
    refine H [((0, 0, 0, 0, []), 1), ((27, 1, 0, 0, []), 1)] 24 _ _ _ (by decide +kernel) ?_
    refine And.intro (show (0 : Int) ≤ 0 ∧ (0 : Int) ≤ 1 from by decide) ?_
    exact Prod.mk.inj (Option.some.inj h)
  · refine And.intro (fun hp => absurd hp c2) (fun _ => ?_)
    obtain ⟨g3, h⟩ := px_gd h
    refine And.intro g3 ?_
    rcases px_ite h with ⟨c4, h⟩ | ⟨c4, h⟩
    · refine And.intro (fun hp => absurd c4 hp) (fun _ => ?_)
      refine And.intro (show (0 : Int) ≤ 1 ∧ (1 : Int) ≤ 1 from by decide) ?_
      exact Prod.mk.inj (Option.some.inj h)
    · refine And.intro (fun _ => ?_) (fun hn => absurd c4 hn)
      refine H [((0, 0, 0, 0, []), 1), ((27, 1, 0, 0, []), 1)] 24 _ _ _ (by decide +kernel) ?_
      refine And.intro (show (0 : Int) ≤ 0 ∧ (0 : Int) ≤ 1 from by decide) ?_
      exact Prod.mk.inj (Option.some.inj h)
theorem ok_M_gives_84 {l : Launch} {a1 a2 : Int} {σ : pS} {v : Int} {σ1 : pS} (h : f_M_gives_84 a1 a2 σ = some (v, σ1)) : Con l 0 174 [.inr 84, .inl a1, .inl a2] σ v σ1 := Con_mk 3 3 rfl (by decide +kernel) (fun _ H => ok_M_gives_84_w H _ _ _ h)
theorem ok_M_giverOf_84_p4 {l : Launch} {rv : Int} {rσ : pS} {G : Nat → pL → List pV → pS → Prop} (H : px_R l 1 173 rv rσ G) : ∀ (n : Nat) (a2 a3 : Int) (σ : pS), f_M_giverOf_84_p4 n a2 a3 σ = some (rv, rσ) → G 4 [some (.inr 84), none, some (.inl a2), some (.inl a3)] [] σ := by
  intro n
  induction n with
  | zero =>
    intro a2 a3 σ h
    unfold f_M_giverOf_84_p4 at h
    cases h
  | succ n ih =>
    intro a2 a3 σ h
    unfold f_M_giverOf_84_p4 at h
    refine H [((1, 3, 0, 0, []), 1), ((14, 2, 25, 0, []), 3), ((2, 0, 0, 0, []), 1), ((1, 3, 0, 0, []), 1), ((1, 2, 0, 0, []), 1), ((23, 174, 2, 1, [(0, 84)]), 3), ((14, 0, 19, 0, []), 3), ((1, 3, 0, 0, []), 1), ((27, 0, 0, 0, []), 1)] 4 _ _ _ (by decide +kernel) ?_
    rcases px_ite h with ⟨c1, h⟩ | ⟨c1, h⟩
    · refine And.intro (fun _ => ?_) (fun hn => absurd c1 hn)
      refine H [((0, 0, 0, (-1), []), 1), ((27, 0, 0, 0, []), 1)] 25 _ _ _ (by decide +kernel) ?_
      exact Prod.mk.inj (Option.some.inj h)
    · refine And.intro (fun hp => absurd hp c1) (fun _ => ?_)
      obtain ⟨⟨vq2, σq2⟩, hq2, h⟩ := px_bind h
      dsimp only at h
      refine Exists.intro 0 (Exists.intro vq2 (Exists.intro σq2 (And.intro (Nat.le_of_ble_eq_true rfl) (And.intro (ok_M_gives_84 hq2) ?_))))
      rcases px_ite h with ⟨c3, h⟩ | ⟨c3, h⟩
      · refine And.intro (fun _ => ?_) (fun hn => absurd c3 hn)
        refine H [((5, 3, 0, (-1), []), 3), ((12, 0, 4, 0, []), 3)] 19 _ _ _ (by decide +kernel) ?_
        exact ih _ _ _ h
      · refine And.intro (fun hp => absurd hp c3) (fun _ => ?_)
        exact Prod.mk.inj (Option.some.inj h)
theorem ok_M_giverOf_84_w {l : Launch} {rv : Int} {rσ : pS} {G : Nat → pL → List pV → pS → Prop} (H : px_R l 1 173 rv rσ G) : ∀ (a1 a2 : Int) (σ : pS), f_M_giverOf_84 a1 a2 σ = some (rv, rσ) → G 0 [some (.inr 84), some (.inl a1), some (.inl a2), none] [] σ := by
  intro a1 a2 σ h
  unfold f_M_giverOf_84 at h
  refine H [((1, 1, 0, 0, []), 1), ((0, 0, 0, 1, []), 1), ((6, 1, 0, 0, []), 1), ((3, 3, 0, 0, []), 1), ((29, 1, 0, 0, []), 0)] 0 _ _ _ (by decide +kernel) ?_
  exact ok_M_giverOf_84_p4 H _ _ _ _ h
theorem ok_M_giverOf_84 {l : Launch} {a1 a2 : Int} {σ : pS} {v : Int} {σ1 : pS} (h : f_M_giverOf_84 a1 a2 σ = some (v, σ1)) : Con l 1 173 [.inr 84, .inl a1, .inl a2] σ v σ1 := Con_mk 3 4 rfl (by decide +kernel) (fun _ H => ok_M_giverOf_84_w H _ _ _ h)
theorem ok_M_source_84_p39 {l : Launch} {rv : Int} {rσ : pS} {G : Nat → pL → List pV → pS → Prop} (H : px_R l 2 170 rv rσ G) : ∀ (s0 : Int) (σ : pS), f_M_source_84_p39 s0 σ = some (rv, rσ) → G 39 [none, none, none, none] [.inl s0] σ := by
  intro s0 σ h
  unfold f_M_source_84_p39 at h
  refine H [((3, 3, 0, 0, []), 1), ((1, 3, 0, 0, []), 1), ((0, 0, 0, (-1), []), 1), ((13, 1, 50, 0, []), 3), ((0, 0, 0, (-2), []), 2), ((12, 0, 51, 0, []), 3), ((27, 0, 0, 0, []), 1)] 39 _ _ _ (by decide +kernel) ?_
  rcases px_ite h with ⟨c7, h⟩ | ⟨c7, h⟩
  · refine And.intro (fun hp => absurd c7 hp) (fun _ => ?_)
    exact Prod.mk.inj (Option.some.inj h)
  · refine And.intro (fun _ => ?_) (fun hn => absurd c7 hn)
    refine H [((1, 3, 0, 0, []), 1), ((27, 0, 0, 0, []), 1)] 50 _ _ _ (by decide +kernel) ?_
    exact Prod.mk.inj (Option.some.inj h)
theorem ok_M_source_84_w {l : Launch} {rv : Int} {rσ : pS} {G : Nat → pL → List pV → pS → Prop} (H : px_R l 2 170 rv rσ G) : ∀ (a1 a2 : Int) (σ : pS), f_M_source_84 a1 a2 σ = some (rv, rσ) → G 0 [some (.inr 84), some (.inl a1), some (.inl a2), none] [] σ := by
  intro a1 a2 σ h
  unfold f_M_source_84 at h
  refine H [((2, 0, 0, 0, []), 1), ((1, 1, 0, 0, []), 1), ((23, 171, 1, 1, [(0, 84)]), 3), ((14, 0, 18, 0, []), 3), ((1, 2, 0, 0, []), 1), ((0, 0, 0, 0, []), 1), ((0, 0, 0, 7, []), 2), ((24, 137, 3, 1, []), 3), ((14, 1, 20, 0, []), 3), ((0, 0, 0, (-1), []), 1), ((27, 0, 0, 0, []), 1)] 0 _ _ _ (by decide +kernel) ?_
  obtain ⟨⟨vq1, σq1⟩, hq1, h⟩ := px_bind h
  dsimp only at h
  refine Exists.intro 1 (Exists.intro vq1 (Exists.intro σq1 (And.intro (Nat.le_of_ble_eq_true rfl) (And.intro (ok_M_isOp_84 hq1) ?_))))
  rcases px_ite h with ⟨c2, h⟩ | ⟨c2, h⟩
  · refine And.intro (fun _ => ?_) (fun hn => absurd c2 hn)
    refine H [((0, 0, 0, (-1), []), 1), ((27, 0, 0, 0, []), 1)] 18 _ _ _ (by decide +kernel) ?_
    exact Prod.mk.inj (Option.some.inj h)
  · refine And.intro (fun hp => absurd hp c2) (fun _ => ?_)
    obtain ⟨⟨vq3, σq3⟩, hq3, h⟩ := px_bind h
    dsimp only at h
    refine Exists.intro 0 (Exists.intro vq3 (Exists.intro σq3 (And.intro (Nat.le_of_ble_eq_true rfl) (And.intro (ok_M_in hq3) ?_))))
    rcases px_ite h with ⟨c4, h⟩ | ⟨c4, h⟩
    · refine And.intro (fun hp => absurd c4 hp) (fun _ => ?_)
      exact Prod.mk.inj (Option.some.inj h)
    · refine And.intro (fun _ => ?_) (fun hn => absurd c4 hn)
      refine H [((2, 0, 0, 0, []), 1), ((1, 1, 0, 0, []), 1), ((1, 2, 0, 0, []), 1), ((23, 172, 2, 1, [(0, 84)]), 3), ((14, 0, 38, 0, []), 3), ((2, 0, 0, 0, []), 1), ((1, 1, 0, 0, []), 1), ((1, 2, 0, 0, []), 1), ((23, 173, 2, 1, [(0, 84)]), 3), ((12, 0, 39, 0, []), 3), ((29, 0, 0, 0, []), 0), ((29, 1, 0, 0, []), 0), ((29, 2, 0, 0, []), 0)] 20 _ _ _ (by decide +kernel) ?_
      obtain ⟨⟨vq5, σq5⟩, hq5, h⟩ := px_bind h
      dsimp only at h
      refine Exists.intro 0 (Exists.intro vq5 (Exists.intro σq5 (And.intro (Nat.le_of_ble_eq_true rfl) (And.intro (ok_M_doesRead_84 hq5) ?_))))
      rcases px_ite h with ⟨c6, h⟩ | ⟨c6, h⟩
      · refine And.intro (fun _ => ?_) (fun hn => absurd c6 hn)
        refine H [((0, 0, 0, (-1), []), 1), ((29, 0, 0, 0, []), 0), ((29, 1, 0, 0, []), 0), ((29, 2, 0, 0, []), 0)] 38 _ _ _ (by decide +kernel) ?_
        exact ok_M_source_84_p39 H _ _ h
      · refine And.intro (fun hp => absurd hp c6) (fun _ => ?_)
        obtain ⟨⟨vq8, σq8⟩, hq8, h⟩ := px_bind h
        dsimp only at h
        refine Exists.intro 1 (Exists.intro vq8 (Exists.intro σq8 (And.intro (Nat.le_of_ble_eq_true rfl) (And.intro (ok_M_giverOf_84 hq8) ?_))))
        exact ok_M_source_84_p39 H _ _ h
theorem ok_M_source_84 {l : Launch} {a1 a2 : Int} {σ : pS} {v : Int} {σ1 : pS} (h : f_M_source_84 a1 a2 σ = some (v, σ1)) : Con l 2 170 [.inr 84, .inl a1, .inl a2] σ v σ1 := Con_mk 3 4 rfl (by decide +kernel) (fun _ H => ok_M_source_84_w H _ _ _ h)
theorem ok_X_deep_0_w {l : Launch} {rv : Int} {rσ : pS} {G : Nat → pL → List pV → pS → Prop} (H : px_R l 0 119 rv rσ G) : ∀ (σ : pS), f_X_deep_0  σ = some (rv, rσ) → G 0 [some (.inr 0)] [] σ := by
  intro  σ h
  unfold f_X_deep_0 at h
  refine H [((2, 0, 0, 0, []), 1), ((17, 0, 3, 0, []), 3), ((17, 3, 4, 0, []), 3), ((16, 4, 12, 0, []), 3), ((27, 0, 0, 0, []), 1)] 0 _ _ _ (by decide +kernel) ?_
  exact Prod.mk.inj (Option.some.inj h)
theorem ok_X_deep_0 {l : Launch} {σ : pS} {v : Int} {σ1 : pS} (h : f_X_deep_0  σ = some (v, σ1)) : Con l 0 119 [.inr 0] σ v σ1 := Con_mk 1 1 rfl (by decide +kernel) (fun _ H => ok_X_deep_0_w H  _ h)
theorem ok_M_max_w {l : Launch} {rv : Int} {rσ : pS} {G : Nat → pL → List pV → pS → Prop} (H : px_R l 0 225 rv rσ G) : ∀ (a0 a1 : Int) (σ : pS), f_M_max a0 a1 σ = some (rv, rσ) → G 0 [some (.inl a0), some (.inl a1)] [] σ := by
  intro a0 a1 σ h
  unfold f_M_max at h
  refine H [((1, 0, 0, 0, []), 1), ((1, 1, 0, 0, []), 1), ((13, 5, 9, 0, []), 3), ((1, 0, 0, 0, []), 1), ((12, 0, 10, 0, []), 3), ((27, 0, 0, 0, []), 1)] 0 _ _ _ (by decide +kernel) ?_
  rcases px_ite h with ⟨c1, h⟩ | ⟨c1, h⟩
  · refine And.intro (fun _ => ?_) (fun hn => absurd c1 hn)
    refine H [((1, 1, 0, 0, []), 1), ((27, 0, 0, 0, []), 1)] 9 _ _ _ (by decide +kernel) ?_
    exact Prod.mk.inj (Option.some.inj h)
  · refine And.intro (fun hp => absurd hp c1) (fun _ => ?_)
    exact Prod.mk.inj (Option.some.inj h)
theorem ok_M_max {l : Launch} {a0 a1 : Int} {σ : pS} {v : Int} {σ1 : pS} (h : f_M_max a0 a1 σ = some (v, σ1)) : Con l 0 225 [.inl a0, .inl a1] σ v σ1 := Con_mk 2 2 rfl (by decide +kernel) (fun _ H => ok_M_max_w H _ _ _ h)
theorem ok_M_hasSource_84_p2 {l : Launch} {rv : Int} {rσ : pS} {G : Nat → pL → List pV → pS → Prop} (H : px_R l 2 195 rv rσ G) : ∀ (n : Nat) (a1 a2 a3 : Int) (σ : pS), f_M_hasSource_84_p2 n a1 a2 a3 σ = some (rv, rσ) → G 2 [some (.inr 84), some (.inl a1), some (.inl a2), some (.inl a3)] [] σ := by
  intro n
  induction n with
  | zero =>
    intro a1 a2 a3 σ h
    unfold f_M_hasSource_84_p2 at h
    cases h
  | succ n ih =>
    intro a1 a2 a3 σ h
    unfold f_M_hasSource_84_p2 at h
    refine H [((1, 3, 0, 0, []), 1), ((0, 0, 0, 8, []), 2), ((13, 3, 35, 0, []), 3), ((2, 0, 0, 0, []), 1), ((1, 1, 0, 0, []), 1), ((1, 3, 0, 0, []), 1), ((23, 172, 2, 1, [(0, 84)]), 3), ((14, 0, 29, 0, []), 3), ((2, 0, 0, 0, []), 1), ((1, 1, 0, 0, []), 1), ((1, 3, 0, 0, []), 1), ((23, 173, 2, 1, [(0, 84)]), 3), ((1, 2, 0, 0, []), 1), ((13, 1, 29, 0, []), 3), ((0, 0, 0, 1, []), 1), ((27, 1, 0, 0, []), 1)] 2 _ _ _ (by decide +kernel) ?_
    rcases px_ite h with ⟨c1, h⟩ | ⟨c1, h⟩
    · refine And.intro (fun _ => ?_) (fun hn => absurd c1 hn)
      refine H [((0, 0, 0, 0, []), 1), ((27, 1, 0, 0, []), 1)] 35 _ _ _ (by decide +kernel) ?_
      refine And.intro (show (0 : Int) ≤ 0 ∧ (0 : Int) ≤ 1 from by decide) ?_
      exact Prod.mk.inj (Option.some.inj h)
    · refine And.intro (fun hp => absurd hp c1) (fun _ => ?_)
      obtain ⟨⟨vq2, σq2⟩, hq2, h⟩ := px_bind h
      dsimp only at h
      refine Exists.intro 0 (Exists.intro vq2 (Exists.intro σq2 (And.intro (Nat.le_of_ble_eq_true rfl) (And.intro (ok_M_doesRead_84 hq2) ?_))))
      rcases px_ite h with ⟨c3, h⟩ | ⟨c3, h⟩
      · refine And.intro (fun _ => ?_) (fun hn => absurd c3 hn)
        refine H [((5, 3, 0, 1, []), 3), ((12, 0, 2, 0, []), 3)] 29 _ _ _ (by decide +kernel) ?_
        exact ih _ _ _ _ h
      · refine And.intro (fun hp => absurd hp c3) (fun _ => ?_)
        obtain ⟨⟨vq4, σq4⟩, hq4, h⟩ := px_bind h
        dsimp only at h
        refine Exists.intro 1 (Exists.intro vq4 (Exists.intro σq4 (And.intro (Nat.le_of_ble_eq_true rfl) (And.intro (ok_M_giverOf_84 hq4) ?_))))
        rcases px_ite h with ⟨c5, h⟩ | ⟨c5, h⟩
        · refine And.intro (fun hp => absurd c5 hp) (fun _ => ?_)
          refine And.intro (show (0 : Int) ≤ 1 ∧ (1 : Int) ≤ 1 from by decide) ?_
          exact Prod.mk.inj (Option.some.inj h)
        · refine And.intro (fun _ => ?_) (fun hn => absurd c5 hn)
          refine H [((5, 3, 0, 1, []), 3), ((12, 0, 2, 0, []), 3)] 29 _ _ _ (by decide +kernel) ?_
          exact ih _ _ _ _ h
theorem ok_M_hasSource_84_w {l : Launch} {rv : Int} {rσ : pS} {G : Nat → pL → List pV → pS → Prop} (H : px_R l 2 195 rv rσ G) : ∀ (a1 a2 : Int) (σ : pS), f_M_hasSource_84 a1 a2 σ = some (rv, rσ) → G 0 [some (.inr 84), some (.inl a1), some (.inl a2), none] [] σ := by
  intro a1 a2 σ h
  unfold f_M_hasSource_84 at h
  refine H [((0, 0, 0, 0, []), 1), ((3, 3, 0, 0, []), 1)] 0 _ _ _ (by decide +kernel) ?_
  exact ok_M_hasSource_84_p2 H _ _ _ _ _ h
theorem ok_M_hasSource_84 {l : Launch} {a1 a2 : Int} {σ : pS} {v : Int} {σ1 : pS} (h : f_M_hasSource_84 a1 a2 σ = some (v, σ1)) : Con l 2 195 [.inr 84, .inl a1, .inl a2] σ v σ1 := Con_mk 3 4 rfl (by decide +kernel) (fun _ H => ok_M_hasSource_84_w H _ _ _ h)
theorem ok_M_deep_84_p21 {l : Launch} {rv : Int} {rσ : pS} {G : Nat → pL → List pV → pS → Prop} (H : px_R l 3 224 rv rσ G) {k_4 : Int → Int → pS → Option (Int × pS)} (hk_4 : ∀ (a1 a2 : Int) (σ : pS), k_4 a1 a2 σ = some (rv, rσ) → G 4 [some (.inr 84), some (.inl a1), some (.inl a2), none] [] σ) : ∀ (n : Nat) (a1 a2 a3 : Int) (σ : pS), f_M_deep_84_p21 k_4 n a1 a2 a3 σ = some (rv, rσ) → G 21 [some (.inr 84), some (.inl a1), some (.inl a2), some (.inl a3)] [] σ := by
  intro n
  induction n with
  | zero =>
    intro a1 a2 a3 σ h
    unfold f_M_deep_84_p21 at h
    cases h
  | succ n ih =>
    intro a1 a2 a3 σ h
    unfold f_M_deep_84_p21 at h
    refine H [((1, 3, 0, 0, []), 1), ((1, 2, 0, 0, []), 1), ((13, 3, 64, 0, []), 3), ((2, 0, 0, 0, []), 1), ((1, 2, 0, 0, []), 1), ((1, 3, 0, 0, []), 1), ((23, 195, 2, 1, [(0, 84)]), 3), ((14, 0, 58, 0, []), 3), ((2, 0, 0, 0, []), 1), ((17, 84, 143, 0, []), 3), ((1, 2, 0, 0, []), 1), ((2, 0, 0, 0, []), 1), ((17, 84, 143, 0, []), 3), ((1, 2, 0, 0, []), 1), ((19, 143, 20, 0, []), 1), ((2, 0, 0, 0, []), 1), ((17, 84, 143, 0, []), 3), ((1, 3, 0, 0, []), 1), ((19, 143, 20, 0, []), 1), ((0, 0, 0, 1, []), 1), ((6, 0, 0, 0, []), 1), ((24, 225, 2, 1, []), 3), ((20, 143, 20, 0, []), 1), ((5, 3, 0, 1, []), 3), ((12, 0, 21, 0, []), 3)] 21 _ _ _ (by decide +kernel) ?_
    rcases px_ite h with ⟨c3, h⟩ | ⟨c3, h⟩
    · refine And.intro (fun _ => ?_) (fun hn => absurd c3 hn)
      refine H [((1, 1, 0, 0, []), 1), ((2, 0, 0, 0, []), 1), ((17, 84, 143, 0, []), 3), ((1, 2, 0, 0, []), 1), ((19, 143, 20, 0, []), 1), ((24, 225, 2, 1, []), 3), ((3, 1, 0, 0, []), 1), ((5, 2, 0, 1, []), 3), ((12, 0, 4, 0, []), 3), ((29, 3, 0, 0, []), 0)] 64 _ _ _ (by decide +kernel) ?_
      obtain ⟨g4, h⟩ := px_gd h
      refine And.intro g4 ?_
      obtain ⟨⟨vq5, σq5⟩, hq5, h⟩ := px_bind h
      dsimp only at h
      refine Exists.intro 0 (Exists.intro vq5 (Exists.intro σq5 (And.intro (Nat.le_of_ble_eq_true rfl) (And.intro (ok_M_max hq5) ?_))))
      exact hk_4 _ _ _ h
    · refine And.intro (fun hp => absurd hp c3) (fun _ => ?_)
      obtain ⟨⟨vq6, σq6⟩, hq6, h⟩ := px_bind h
      dsimp only at h
      refine Exists.intro 2 (Exists.intro vq6 (Exists.intro σq6 (And.intro (Nat.le_of_ble_eq_true rfl) (And.intro (ok_M_hasSource_84 hq6) ?_))))
      rcases px_ite h with ⟨c7, h⟩ | ⟨c7, h⟩
      · refine And.intro (fun _ => ?_) (fun hn => absurd c7 hn)
        refine H [((5, 3, 0, 1, []), 3), ((12, 0, 21, 0, []), 3)] 58 _ _ _ (by decide +kernel) ?_
        exact ih _ _ _ _ h
      · refine And.intro (fun hp => absurd hp c7) (fun _ => ?_)
        obtain ⟨g8, h⟩ := px_gd h
        refine And.intro g8 ?_
        obtain ⟨g9, h⟩ := px_gd h
        refine And.intro g9 ?_
        obtain ⟨⟨vq10, σq10⟩, hq10, h⟩ := px_bind h
        dsimp only at h
        refine Exists.intro 0 (Exists.intro vq10 (Exists.intro σq10 (And.intro (Nat.le_of_ble_eq_true rfl) (And.intro (ok_M_max hq10) ?_))))
        obtain ⟨g11, h⟩ := px_gd h
        refine And.intro g11 ?_
        exact ih _ _ _ _ h
theorem ok_M_deep_84_p4 {l : Launch} {rv : Int} {rσ : pS} {G : Nat → pL → List pV → pS → Prop} (H : px_R l 3 224 rv rσ G) : ∀ (n : Nat) (a1 a2 : Int) (σ : pS), f_M_deep_84_p4 n a1 a2 σ = some (rv, rσ) → G 4 [some (.inr 84), some (.inl a1), some (.inl a2), none] [] σ := by
  intro n
  induction n with
  | zero =>
    intro a1 a2 σ h
    unfold f_M_deep_84_p4 at h
    cases h
  | succ n ih =>
    intro a1 a2 σ h
    unfold f_M_deep_84_p4 at h
    refine H [((1, 2, 0, 0, []), 1), ((2, 0, 0, 0, []), 1), ((16, 84, 2, 0, []), 3), ((13, 3, 81, 0, []), 3), ((2, 0, 0, 0, []), 1), ((17, 84, 143, 0, []), 3), ((1, 2, 0, 0, []), 1), ((0, 0, 0, 1, []), 1), ((20, 143, 20, 0, []), 1), ((0, 0, 0, 0, []), 1), ((3, 3, 0, 0, []), 1)] 4 _ _ _ (by decide +kernel) ?_
    rcases px_ite h with ⟨c1, h⟩ | ⟨c1, h⟩
    · refine And.intro (fun _ => ?_) (fun hn => absurd c1 hn)
      refine H [((1, 1, 0, 0, []), 1), ((27, 0, 0, 0, []), 1)] 81 _ _ _ (by decide +kernel) ?_
      exact Prod.mk.inj (Option.some.inj h)
    · refine And.intro (fun hp => absurd hp c1) (fun _ => ?_)
      obtain ⟨g2, h⟩ := px_gd h
      refine And.intro g2 ?_
      exact ok_M_deep_84_p21 H ih _ _ _ _ _ h
theorem ok_M_deep_84_w {l : Launch} {rv : Int} {rσ : pS} {G : Nat → pL → List pV → pS → Prop} (H : px_R l 3 224 rv rσ G) : ∀ (σ : pS), f_M_deep_84  σ = some (rv, rσ) → G 0 [some (.inr 84), none, none, none] [] σ := by
  intro  σ h
  unfold f_M_deep_84 at h
  refine H [((0, 0, 0, 0, []), 1), ((3, 1, 0, 0, []), 1), ((0, 0, 0, 0, []), 1), ((3, 2, 0, 0, []), 1)] 0 _ _ _ (by decide +kernel) ?_
  exact ok_M_deep_84_p4 H _ _ _ _ h
theorem ok_M_deep_84 {l : Launch} {σ : pS} {v : Int} {σ1 : pS} (h : f_M_deep_84  σ = some (v, σ1)) : Con l 3 224 [.inr 84] σ v σ1 := Con_mk 1 4 rfl (by decide +kernel) (fun _ H => ok_M_deep_84_w H  _ h)
theorem ok_X_check_0_p70 {l : Launch} {rv : Int} {rσ : pS} {G : Nat → pL → List pV → pS → Prop} (H : px_R l 1 131 rv rσ G) : ∀ (a2 : Int) (σ : pS), f_X_check_0_p70 a2 σ = some (rv, rσ) → G 70 [some (.inr 0), none, some (.inl a2), none] [] σ := by
  intro a2 σ h
  unfold f_X_check_0_p70 at h
  refine H [((2, 0, 0, 0, []), 1), ((17, 0, 1, 0, []), 3), ((23, 39, 0, 0, [(0, 1)]), 3), ((1, 2, 0, 0, []), 1), ((27, 0, 0, 0, []), 1)] 70 _ _ _ (by decide +kernel) ?_
  obtain ⟨⟨vq5, σq5⟩, hq5, h⟩ := px_bind h
  dsimp only at h
  refine Exists.intro 0 (Exists.intro vq5 (Exists.intro σq5 (And.intro (Nat.le_of_ble_eq_true rfl) (And.intro (ok_Tape_clear_1 hq5) ?_))))
  exact Prod.mk.inj (Option.some.inj h)
theorem ok_X_check_0_p28 {l : Launch} {rv : Int} {rσ : pS} {G : Nat → pL → List pV → pS → Prop} (H : px_R l 1 131 rv rσ G) : ∀ (n : Nat) (a1 a2 a3 : Int) (σ : pS), f_X_check_0_p28 n a1 a2 a3 σ = some (rv, rσ) → G 28 [some (.inr 0), some (.inl a1), some (.inl a2), some (.inl a3)] [] σ := by
  intro n
  induction n with
  | zero =>
    intro a1 a2 a3 σ h
    unfold f_X_check_0_p28 at h
    cases h
  | succ n ih =>
    intro a1 a2 a3 σ h
    unfold f_X_check_0_p28 at h
    refine H [((1, 3, 0, 0, []), 1), ((1, 1, 0, 0, []), 1), ((13, 3, 70, 0, []), 3), ((1, 2, 0, 0, []), 1), ((0, 0, 0, (-1), []), 1), ((13, 1, 70, 0, []), 3), ((2, 0, 0, 0, []), 1), ((17, 0, 1, 0, []), 3), ((17, 1, 2, 0, []), 3), ((1, 3, 0, 0, []), 1), ((19, 2, 260, 0, []), 1), ((2, 0, 0, 0, []), 1), ((17, 0, 3, 0, []), 3), ((17, 3, 24, 0, []), 3), ((17, 24, 26, 0, []), 3), ((1, 3, 0, 0, []), 1), ((19, 26, 64, 0, []), 1), ((13, 0, 64, 0, []), 3), ((1, 3, 0, 0, []), 1), ((3, 2, 0, 0, []), 1), ((5, 3, 0, 1, []), 3), ((12, 0, 28, 0, []), 3)] 28 _ _ _ (by decide +kernel) ?_
    rcases px_ite h with ⟨c4, h⟩ | ⟨c4, h⟩
    · refine And.intro (fun _ => ?_) (fun hn => absurd c4 hn)
      refine H [((29, 1, 0, 0, []), 0), ((29, 3, 0, 0, []), 0)] 70 _ _ _ (by decide +kernel) ?_
      exact ok_X_check_0_p70 H _ _ h
    · refine And.intro (fun hp => absurd hp c4) (fun _ => ?_)
      rcases px_ite h with ⟨c6, h⟩ | ⟨c6, h⟩
      · refine And.intro (fun hp => absurd c6 hp) (fun _ => ?_)
        obtain ⟨g7, h⟩ := px_gd h
        refine And.intro g7 ?_
        obtain ⟨g8, h⟩ := px_gd h
        refine And.intro g8 ?_
        rcases px_ite h with ⟨c9, h⟩ | ⟨c9, h⟩
        · refine And.intro (fun _ => ?_) (fun hn => absurd c9 hn)
          refine H [((5, 3, 0, 1, []), 3), ((12, 0, 28, 0, []), 3)] 64 _ _ _ (by decide +kernel) ?_
          exact ih _ _ _ _ h
        · refine And.intro (fun hp => absurd hp c9) (fun _ => ?_)
          exact ih _ _ _ _ h
      · refine And.intro (fun _ => ?_) (fun hn => absurd c6 hn)
        refine H [((29, 1, 0, 0, []), 0), ((29, 3, 0, 0, []), 0)] 70 _ _ _ (by decide +kernel) ?_
        exact ok_X_check_0_p70 H _ _ h
theorem ok_X_check_0_w {l : Launch} {rv : Int} {rσ : pS} {G : Nat → pL → List pV → pS → Prop} (H : px_R l 1 131 rv rσ G) : ∀ (a1 : Int) (σ : pS), f_X_check_0 a1 σ = some (rv, rσ) → G 0 [some (.inr 0), some (.inl a1), none, none] [] σ := by
  intro a1 σ h
  unfold f_X_check_0 at h
  refine H [((1, 1, 0, 0, []), 1), ((14, 2, 21, 0, []), 3), ((1, 1, 0, 0, []), 1), ((0, 0, 0, 64, []), 2), ((13, 4, 21, 0, []), 3), ((1, 1, 0, 0, []), 1), ((2, 0, 0, 0, []), 1), ((17, 0, 1, 0, []), 3), ((16, 1, 1, 0, []), 3), ((13, 5, 24, 0, []), 3), ((0, 0, 0, (-2), []), 2), ((27, 0, 0, 0, []), 1)] 0 _ _ _ (by decide +kernel) ?_
  rcases px_ite h with ⟨c1, h⟩ | ⟨c1, h⟩
  · refine And.intro (fun _ => ?_) (fun hn => absurd c1 hn)
    refine H [((0, 0, 0, (-2), []), 2), ((27, 0, 0, 0, []), 1)] 21 _ _ _ (by decide +kernel) ?_
    exact Prod.mk.inj (Option.some.inj h)
  · refine And.intro (fun hp => absurd hp c1) (fun _ => ?_)
    rcases px_ite h with ⟨c2, h⟩ | ⟨c2, h⟩
    · refine And.intro (fun _ => ?_) (fun hn => absurd c2 hn)
      refine H [((0, 0, 0, (-2), []), 2), ((27, 0, 0, 0, []), 1)] 21 _ _ _ (by decide +kernel) ?_
      exact Prod.mk.inj (Option.some.inj h)
    · refine And.intro (fun hp => absurd hp c2) (fun _ => ?_)
      rcases px_ite h with ⟨c3, h⟩ | ⟨c3, h⟩
      · refine And.intro (fun _ => ?_) (fun hn => absurd c3 hn)
        refine H [((0, 0, 0, (-1), []), 1), ((3, 2, 0, 0, []), 1), ((0, 0, 0, 0, []), 1), ((3, 3, 0, 0, []), 1)] 24 _ _ _ (by decide +kernel) ?_
        exact ok_X_check_0_p28 H _ _ _ _ _ h
      · refine And.intro (fun hp => absurd hp c3) (fun _ => ?_)
        exact Prod.mk.inj (Option.some.inj h)
theorem ok_X_check_0 {l : Launch} {a1 : Int} {σ : pS} {v : Int} {σ1 : pS} (h : f_X_check_0 a1 σ = some (v, σ1)) : Con l 1 131 [.inr 0, .inl a1] σ v σ1 := Con_mk 2 4 rfl (by decide +kernel) (fun _ H => ok_X_check_0_w H _ _ h)
theorem ok_M_octet_84_w {l : Launch} {rv : Int} {rσ : pS} {G : Nat → pL → List pV → pS → Prop} (H : px_R l 0 238 rv rσ G) : ∀ (a1 : Int) (σ : pS), f_M_octet_84 a1 σ = some (rv, rσ) → G 0 [some (.inr 84), some (.inl a1)] [] σ := by
  intro a1 σ h
  unfold f_M_octet_84 at h
  refine H [((2, 0, 0, 0, []), 1), ((17, 84, 96, 0, []), 3), ((1, 1, 0, 0, []), 1), ((19, 96, 260, 0, []), 1), ((0, 0, 0, 255, []), 3), ((6, 3, 0, 0, []), 1), ((27, 0, 0, 0, []), 1)] 0 _ _ _ (by decide +kernel) ?_
  obtain ⟨g1, h⟩ := px_gd h
  refine And.intro g1 ?_
  exact Prod.mk.inj (Option.some.inj h)
theorem ok_M_octet_84 {l : Launch} {a1 : Int} {σ : pS} {v : Int} {σ1 : pS} (h : f_M_octet_84 a1 σ = some (v, σ1)) : Con l 0 238 [.inr 84, .inl a1] σ v σ1 := Con_mk 2 2 rfl (by decide +kernel) (fun _ H => ok_M_octet_84_w H _ _ h)
theorem ok_M_check_84_p28 {l : Launch} {rv : Int} {rσ : pS} {G : Nat → pL → List pV → pS → Prop} (H : px_R l 1 237 rv rσ G) : ∀ (n : Nat) (a1 a2 : Int) (σ : pS), f_M_check_84_p28 n a1 a2 σ = some (rv, rσ) → G 28 [some (.inr 84), some (.inl a1), some (.inl a2)] [] σ := by
  intro n
  induction n with
  | zero =>
    intro a1 a2 σ h
    unfold f_M_check_84_p28 at h
    cases h
  | succ n ih =>
    intro a1 a2 σ h
    unfold f_M_check_84_p28 at h
    refine H [((1, 2, 0, 0, []), 1), ((1, 1, 0, 0, []), 1), ((13, 3, 55, 0, []), 3), ((2, 0, 0, 0, []), 1), ((1, 2, 0, 0, []), 1), ((23, 238, 1, 1, [(0, 84)]), 3), ((2, 0, 0, 0, []), 1), ((17, 84, 86, 0, []), 3), ((1, 2, 0, 0, []), 1), ((19, 86, 64, 0, []), 1), ((13, 0, 49, 0, []), 3), ((1, 2, 0, 0, []), 1), ((27, 0, 0, 0, []), 1)] 28 _ _ _ (by decide +kernel) ?_
    rcases px_ite h with ⟨c4, h⟩ | ⟨c4, h⟩
    · refine And.intro (fun _ => ?_) (fun hn => absurd c4 hn)
      refine H [((0, 0, 0, (-1), []), 1), ((27, 0, 0, 0, []), 1)] 55 _ _ _ (by decide +kernel) ?_
      exact Prod.mk.inj (Option.some.inj h)
    · refine And.intro (fun hp => absurd hp c4) (fun _ => ?_)
      obtain ⟨⟨vq5, σq5⟩, hq5, h⟩ := px_bind h
      dsimp only at h
      refine Exists.intro 0 (Exists.intro vq5 (Exists.intro σq5 (And.intro (Nat.le_of_ble_eq_true rfl) (And.intro (ok_M_octet_84 hq5) ?_))))
      obtain ⟨g6, h⟩ := px_gd h
      refine And.intro g6 ?_
      rcases px_ite h with ⟨c7, h⟩ | ⟨c7, h⟩
      · refine And.intro (fun _ => ?_) (fun hn => absurd c7 hn)
        refine H [((5, 2, 0, 1, []), 3), ((12, 0, 28, 0, []), 3)] 49 _ _ _ (by decide +kernel) ?_
        exact ih _ _ _ h
      · refine And.intro (fun hp => absurd hp c7) (fun _ => ?_)
        exact Prod.mk.inj (Option.some.inj h)
theorem ok_M_check_84_w {l : Launch} {rv : Int} {rσ : pS} {G : Nat → pL → List pV → pS → Prop} (H : px_R l 1 237 rv rσ G) : ∀ (a1 : Int) (σ : pS), f_M_check_84 a1 σ = some (rv, rσ) → G 0 [some (.inr 84), some (.inl a1), none] [] σ := by
  intro a1 σ h
  unfold f_M_check_84 at h
  refine H [((1, 1, 0, 0, []), 1), ((0, 0, 0, 0, []), 1), ((0, 0, 0, 64, []), 2), ((24, 137, 3, 1, []), 3), ((14, 0, 18, 0, []), 3), ((1, 1, 0, 0, []), 1), ((2, 0, 0, 0, []), 1), ((16, 84, 18, 0, []), 3), ((13, 5, 21, 0, []), 3), ((0, 0, 0, (-2), []), 2), ((27, 0, 0, 0, []), 1)] 0 _ _ _ (by decide +kernel) ?_
  obtain ⟨⟨vq1, σq1⟩, hq1, h⟩ := px_bind h
  dsimp only at h
  refine Exists.intro 0 (Exists.intro vq1 (Exists.intro σq1 (And.intro (Nat.le_of_ble_eq_true rfl) (And.intro (ok_M_in hq1) ?_))))
  rcases px_ite h with ⟨c2, h⟩ | ⟨c2, h⟩
  · refine And.intro (fun _ => ?_) (fun hn => absurd c2 hn)
    refine H [((0, 0, 0, (-2), []), 2), ((27, 0, 0, 0, []), 1)] 18 _ _ _ (by decide +kernel) ?_
    exact Prod.mk.inj (Option.some.inj h)
  · refine And.intro (fun hp => absurd hp c2) (fun _ => ?_)
    rcases px_ite h with ⟨c3, h⟩ | ⟨c3, h⟩
    · refine And.intro (fun _ => ?_) (fun hn => absurd c3 hn)
      refine H [((2, 0, 0, 0, []), 1), ((0, 0, 0, 0, []), 1), ((18, 84, 18, 0, []), 3), ((0, 0, 0, 0, []), 1), ((3, 2, 0, 0, []), 1)] 21 _ _ _ (by decide +kernel) ?_
      exact ok_M_check_84_p28 H _ _ _ _ h
    · refine And.intro (fun hp => absurd hp c3) (fun _ => ?_)
      exact Prod.mk.inj (Option.some.inj h)
theorem ok_M_check_84 {l : Launch} {a1 : Int} {σ : pS} {v : Int} {σ1 : pS} (h : f_M_check_84 a1 σ = some (v, σ1)) : Con l 1 237 [.inr 84, .inl a1] σ v σ1 := Con_mk 2 3 rfl (by decide +kernel) (fun _ H => ok_M_check_84_w H _ _ h)
theorem ok_Law_addStep_57_w {l : Launch} {rv : Int} {rσ : pS} {G : Nat → pL → List pV → pS → Prop} (H : px_R l 0 29 rv rσ G) : ∀ (a1 a2 : Int) (σ : pS), f_Law_addStep_57 a1 a2 σ = some (rv, rσ) → G 0 [some (.inr 57), some (.inl a1), some (.inl a2)] [] σ := by
  intro a1 a2 σ h
  unfold f_Law_addStep_57 at h
  refine H [((2, 0, 0, 0, []), 1), ((16, 57, 8, 0, []), 3), ((0, 0, 0, 240, []), 3), ((13, 2, 12, 0, []), 3), ((0, 0, 0, (-1), []), 1), ((27, 0, 0, 0, []), 1)] 0 _ _ _ (by decide +kernel) ?_
  rcases px_ite h with ⟨c1, h⟩ | ⟨c1, h⟩
  · refine And.intro (fun _ => ?_) (fun hn => absurd c1 hn)
    refine H [((2, 0, 0, 0, []), 1), ((17, 57, 61, 0, []), 3), ((2, 0, 0, 0, []), 1), ((16, 57, 8, 0, []), 3), ((1, 1, 0, 0, []), 1), ((20, 61, 240, 0, []), 1), ((2, 0, 0, 0, []), 1), ((17, 57, 62, 0, []), 3), ((2, 0, 0, 0, []), 1), ((16, 57, 8, 0, []), 3), ((1, 2, 0, 0, []), 1), ((20, 62, 240, 0, []), 1), ((2, 0, 0, 0, []), 1), ((9, 0, 0, 0, []), 1), ((16, 57, 8, 0, []), 3), ((0, 0, 0, 1, []), 1), ((6, 0, 0, 0, []), 1), ((18, 57, 8, 0, []), 3), ((2, 0, 0, 0, []), 1), ((16, 57, 8, 0, []), 3), ((0, 0, 0, 1, []), 1), ((6, 1, 0, 0, []), 1), ((27, 0, 0, 0, []), 1)] 12 _ _ _ (by decide +kernel) ?_
    obtain ⟨g2, h⟩ := px_gd h
    refine And.intro g2 ?_
    obtain ⟨g3, h⟩ := px_gd h
    refine And.intro g3 ?_
    exact Prod.mk.inj (Option.some.inj h)
  · refine And.intro (fun hp => absurd hp c1) (fun _ => ?_)
    exact Prod.mk.inj (Option.some.inj h)
theorem ok_Law_addStep_57 {l : Launch} {a1 a2 : Int} {σ : pS} {v : Int} {σ1 : pS} (h : f_Law_addStep_57 a1 a2 σ = some (v, σ1)) : Con l 0 29 [.inr 57, .inl a1, .inl a2] σ v σ1 := Con_mk 3 3 rfl (by decide +kernel) (fun _ H => ok_Law_addStep_57_w H _ _ _ h)
theorem ok_Law_skipToHere_57_w {l : Launch} {rv : Int} {rσ : pS} {G : Nat → pL → List pV → pS → Prop} (H : px_R l 0 35 rv rσ G) : ∀ (a1 : Int) (σ : pS), f_Law_skipToHere_57 a1 σ = some (rv, rσ) → G 0 [some (.inr 57), some (.inl a1)] [] σ := by
  intro a1 σ h
  unfold f_Law_skipToHere_57 at h
  refine H [((1, 1, 0, 0, []), 1), ((14, 2, 21, 0, []), 3), ((1, 1, 0, 0, []), 1), ((0, 0, 0, 240, []), 3), ((13, 3, 21, 0, []), 3), ((2, 0, 0, 0, []), 1), ((17, 57, 62, 0, []), 3), ((1, 1, 0, 0, []), 1), ((2, 0, 0, 0, []), 1), ((16, 57, 8, 0, []), 3), ((20, 62, 240, 0, []), 1), ((28, 0, 0, 0, []), 1)] 0 _ _ _ (by decide +kernel) ?_
  rcases px_ite h with ⟨c1, h⟩ | ⟨c1, h⟩
  · refine And.intro (fun _ => ?_) (fun hn => absurd c1 hn)
    refine H [((28, 0, 0, 0, []), 1)] 21 _ _ _ (by decide +kernel) ?_
    exact (Prod.mk.inj (Option.some.inj h)).2
  · refine And.intro (fun hp => absurd hp c1) (fun _ => ?_)
    rcases px_ite h with ⟨c2, h⟩ | ⟨c2, h⟩
    · refine And.intro (fun _ => ?_) (fun hn => absurd c2 hn)
      refine H [((28, 0, 0, 0, []), 1)] 21 _ _ _ (by decide +kernel) ?_
      exact (Prod.mk.inj (Option.some.inj h)).2
    · refine And.intro (fun hp => absurd hp c2) (fun _ => ?_)
      obtain ⟨g3, h⟩ := px_gd h
      refine And.intro g3 ?_
      exact (Prod.mk.inj (Option.some.inj h)).2
theorem ok_Law_skipToHere_57 {l : Launch} {a1 : Int} {σ : pS} {v : Int} {σ1 : pS} (h : f_Law_skipToHere_57 a1 σ = some (v, σ1)) : Con l 0 35 [.inr 57, .inl a1] σ v σ1 := Con_mk 2 2 rfl (by decide +kernel) (fun _ H => ok_Law_skipToHere_57_w H _ _ h)
theorem ok_Law_readEither_57_1_p13 {l : Launch} {rv : Int} {rσ : pS} {G : Nat → pL → List pV → pS → Prop} {fd fr : Nat} {rc : Nat → Int → pS → Option (Int × pS)} (hrc : ∀ w a σ v σ1, rc w a σ = some (v, σ1) → Con l fd (mi_rdC w) [.inr 57, .inr 1, .inl a] σ v σ1) (hfd : fd + 1 ≤ fr) (hfr : 1 ≤ fr) (H : px_R l fr 32 rv rσ G) : ∀ (n : Nat) (a2 a3 : Int) (σ : pS), f_Law_readEither_57_1_p13 rc n a2 a3 σ = some (rv, rσ) → G 13 [some (.inr 57), some (.inr 1), some (.inl a2), some (.inl a3), none] [] σ := by
  intro n
  induction n with
  | zero =>
    intro a2 a3 σ h
    unfold f_Law_readEither_57_1_p13 at h
    cases h
  | succ n ih =>
    intro a2 a3 σ h
    unfold f_Law_readEither_57_1_p13 at h
    refine H [((1, 3, 0, 0, []), 1), ((0, 0, 0, 240, []), 3), ((13, 3, 65, 0, []), 3), ((2, 1, 0, 0, []), 1), ((23, 19, 0, 1, [(0, 1)]), 3), ((0, 0, 0, 124, []), 2), ((13, 1, 65, 0, []), 3), ((2, 1, 0, 0, []), 1), ((23, 21, 0, 0, [(0, 1)]), 3), ((2, 0, 0, 0, []), 1), ((0, 0, 0, 124, []), 2), ((0, 0, 0, 0, []), 1), ((23, 29, 2, 1, [(0, 57)]), 3), ((3, 4, 0, 0, []), 2), ((2, 0, 0, 0, []), 1), ((2, 1, 0, 0, []), 1), ((1, 2, 0, 0, []), 1), ((23, 33, 2, 1, [(0, 57)]), 3), ((14, 1, 53, 0, []), 3), ((0, 0, 0, 0, []), 1), ((27, 1, 0, 0, []), 1)] 13 _ _ _ (by decide +kernel) ?_
    rcases px_ite h with ⟨c3, h⟩ | ⟨c3, h⟩
    · refine And.intro (fun _ => ?_) (fun hn => absurd c3 hn)
      refine H [((0, 0, 0, 1, []), 1), ((27, 1, 0, 0, []), 1)] 65 _ _ _ (by decide +kernel) ?_
      refine And.intro (show (0 : Int) ≤ 1 ∧ (1 : Int) ≤ 1 from by decide) ?_
      exact Prod.mk.inj (Option.some.inj h)
    · refine And.intro (fun hp => absurd hp c3) (fun _ => ?_)
      obtain ⟨⟨vq4, σq4⟩, hq4, h⟩ := px_bind h
      dsimp only at h
      refine Exists.intro 0 (Exists.intro vq4 (Exists.intro σq4 (And.intro (Nat.le_trans (Nat.le_of_ble_eq_true rfl) hfr) (And.intro (ok_Tape_sign_1 hq4) ?_))))
      rcases px_ite h with ⟨c5, h⟩ | ⟨c5, h⟩
      · refine And.intro (fun hp => absurd c5 hp) (fun _ => ?_)
        obtain ⟨⟨vq6, σq6⟩, hq6, h⟩ := px_bind h
        dsimp only at h
        refine Exists.intro 0 (Exists.intro vq6 (Exists.intro σq6 (And.intro (Nat.le_trans (Nat.le_of_ble_eq_true rfl) hfr) (And.intro (ok_Tape_step_1 hq6) ?_))))
        obtain ⟨⟨vq7, σq7⟩, hq7, h⟩ := px_bind h
        dsimp only at h
        refine Exists.intro 0 (Exists.intro vq7 (Exists.intro σq7 (And.intro (Nat.le_trans (Nat.le_of_ble_eq_true rfl) hfr) (And.intro (ok_Law_addStep_57 hq7) ?_))))
        obtain ⟨⟨vq8, σq8⟩, hq8, h⟩ := px_bind h
        dsimp only at h
        refine Exists.intro fd (Exists.intro vq8 (Exists.intro σq8 (And.intro hfd (And.intro (hrc 1 _ _ _ _ hq8) ?_))))
        rcases px_ite h with ⟨c9, h⟩ | ⟨c9, h⟩
        · refine And.intro (fun hp => absurd c9 hp) (fun _ => ?_)
          refine And.intro (show (0 : Int) ≤ 0 ∧ (0 : Int) ≤ 1 from by decide) ?_
          exact Prod.mk.inj (Option.some.inj h)
        · refine And.intro (fun _ => ?_) (fun hn => absurd c9 hn)
          refine H [((2, 0, 0, 0, []), 1), ((1, 4, 0, 0, []), 2), ((23, 35, 1, 0, [(0, 57)]), 3), ((5, 3, 0, 1, []), 3), ((12, 0, 13, 0, []), 3), ((29, 4, 0, 0, []), 0)] 53 _ _ _ (by decide +kernel) ?_
          obtain ⟨⟨vq10, σq10⟩, hq10, h⟩ := px_bind h
          dsimp only at h
          refine Exists.intro 0 (Exists.intro vq10 (Exists.intro σq10 (And.intro (Nat.le_trans (Nat.le_of_ble_eq_true rfl) hfr) (And.intro (ok_Law_skipToHere_57 hq10) ?_))))
          exact ih _ _ _ h
      · refine And.intro (fun _ => ?_) (fun hn => absurd c5 hn)
        refine H [((0, 0, 0, 1, []), 1), ((27, 1, 0, 0, []), 1)] 65 _ _ _ (by decide +kernel) ?_
        refine And.intro (show (0 : Int) ≤ 1 ∧ (1 : Int) ≤ 1 from by decide) ?_
        exact Prod.mk.inj (Option.some.inj h)
theorem ok_Law_readEither_57_1_w {l : Launch} {rv : Int} {rσ : pS} {G : Nat → pL → List pV → pS → Prop} {fd fr : Nat} {rc : Nat → Int → pS → Option (Int × pS)} (hrc : ∀ w a σ v σ1, rc w a σ = some (v, σ1) → Con l fd (mi_rdC w) [.inr 57, .inr 1, .inl a] σ v σ1) (hfd : fd + 1 ≤ fr) (hfr : 1 ≤ fr) (H : px_R l fr 32 rv rσ G) : ∀ (a2 : Int) (σ : pS), f_Law_readEither_57_1 rc a2 σ = some (rv, rσ) → G 0 [some (.inr 57), some (.inr 1), some (.inl a2), none, none] [] σ := by
  intro a2 σ h
  unfold f_Law_readEither_57_1 at h
  refine H [((2, 0, 0, 0, []), 1), ((2, 1, 0, 0, []), 1), ((1, 2, 0, 0, []), 1), ((23, 33, 2, 1, [(0, 57)]), 3), ((14, 1, 11, 0, []), 3), ((0, 0, 0, 0, []), 1), ((27, 1, 0, 0, []), 1)] 0 _ _ _ (by decide +kernel) ?_
  obtain ⟨⟨vq1, σq1⟩, hq1, h⟩ := px_bind h
  dsimp only at h
  refine Exists.intro fd (Exists.intro vq1 (Exists.intro σq1 (And.intro hfd (And.intro (hrc 1 _ _ _ _ hq1) ?_))))
  rcases px_ite h with ⟨c2, h⟩ | ⟨c2, h⟩
  · refine And.intro (fun hp => absurd c2 hp) (fun _ => ?_)
    refine And.intro (show (0 : Int) ≤ 0 ∧ (0 : Int) ≤ 1 from by decide) ?_
    exact Prod.mk.inj (Option.some.inj h)
  · refine And.intro (fun _ => ?_) (fun hn => absurd c2 hn)
    refine H [((0, 0, 0, 0, []), 1), ((3, 3, 0, 0, []), 1)] 11 _ _ _ (by decide +kernel) ?_
    exact ok_Law_readEither_57_1_p13 hrc hfd hfr H _ _ _ _ h
theorem ok_Law_readEither_57_1 {l : Launch} {fd fr : Nat} {rc : Nat → Int → pS → Option (Int × pS)} (hrc : ∀ w a σ v σ1, rc w a σ = some (v, σ1) → Con l fd (mi_rdC w) [.inr 57, .inr 1, .inl a] σ v σ1) (hfd : fd + 1 ≤ fr) (hfr : 1 ≤ fr) {a2 : Int} {σ : pS} {v : Int} {σ1 : pS} (h : f_Law_readEither_57_1 rc a2 σ = some (v, σ1)) : Con l fr 32 [.inr 57, .inr 1, .inl a2] σ v σ1 := Con_mk 3 5 rfl (by decide +kernel) (fun _ H => ok_Law_readEither_57_1_w hrc hfd hfr H _ _ h)
theorem ok_Law_readBoth_57_1_p13 {l : Launch} {rv : Int} {rσ : pS} {G : Nat → pL → List pV → pS → Prop} {fd fr : Nat} {rc : Nat → Int → pS → Option (Int × pS)} (hrc : ∀ w a σ v σ1, rc w a σ = some (v, σ1) → Con l fd (mi_rdC w) [.inr 57, .inr 1, .inl a] σ v σ1) (hfd : fd + 1 ≤ fr) (hfr : 1 ≤ fr) (H : px_R l fr 33 rv rσ G) : ∀ (n : Nat) (a2 a3 : Int) (σ : pS), f_Law_readBoth_57_1_p13 rc n a2 a3 σ = some (rv, rσ) → G 13 [some (.inr 57), some (.inr 1), some (.inl a2), some (.inl a3), none] [] σ := by
  intro n
  induction n with
  | zero =>
    intro a2 a3 σ h
    unfold f_Law_readBoth_57_1_p13 at h
    cases h
  | succ n ih =>
    intro a2 a3 σ h
    unfold f_Law_readBoth_57_1_p13 at h
    refine H [((1, 3, 0, 0, []), 1), ((0, 0, 0, 240, []), 3), ((13, 3, 65, 0, []), 3), ((2, 1, 0, 0, []), 1), ((23, 19, 0, 1, [(0, 1)]), 3), ((0, 0, 0, 38, []), 2), ((13, 1, 65, 0, []), 3), ((2, 1, 0, 0, []), 1), ((23, 21, 0, 0, [(0, 1)]), 3), ((2, 0, 0, 0, []), 1), ((0, 0, 0, 38, []), 2), ((0, 0, 0, 0, []), 1), ((23, 29, 2, 1, [(0, 57)]), 3), ((3, 4, 0, 0, []), 2), ((2, 0, 0, 0, []), 1), ((2, 1, 0, 0, []), 1), ((1, 2, 0, 0, []), 1), ((23, 34, 2, 1, [(0, 57)]), 3), ((14, 1, 53, 0, []), 3), ((0, 0, 0, 0, []), 1), ((27, 1, 0, 0, []), 1)] 13 _ _ _ (by decide +kernel) ?_
    rcases px_ite h with ⟨c3, h⟩ | ⟨c3, h⟩
    · refine And.intro (fun _ => ?_) (fun hn => absurd c3 hn)
      refine H [((0, 0, 0, 1, []), 1), ((27, 1, 0, 0, []), 1)] 65 _ _ _ (by decide +kernel) ?_
      refine And.intro (show (0 : Int) ≤ 1 ∧ (1 : Int) ≤ 1 from by decide) ?_
      exact Prod.mk.inj (Option.some.inj h)
    · refine And.intro (fun hp => absurd hp c3) (fun _ => ?_)
      obtain ⟨⟨vq4, σq4⟩, hq4, h⟩ := px_bind h
      dsimp only at h
      refine Exists.intro 0 (Exists.intro vq4 (Exists.intro σq4 (And.intro (Nat.le_trans (Nat.le_of_ble_eq_true rfl) hfr) (And.intro (ok_Tape_sign_1 hq4) ?_))))
      rcases px_ite h with ⟨c5, h⟩ | ⟨c5, h⟩
      · refine And.intro (fun hp => absurd c5 hp) (fun _ => ?_)
        obtain ⟨⟨vq6, σq6⟩, hq6, h⟩ := px_bind h
        dsimp only at h
        refine Exists.intro 0 (Exists.intro vq6 (Exists.intro σq6 (And.intro (Nat.le_trans (Nat.le_of_ble_eq_true rfl) hfr) (And.intro (ok_Tape_step_1 hq6) ?_))))
        obtain ⟨⟨vq7, σq7⟩, hq7, h⟩ := px_bind h
        dsimp only at h
        refine Exists.intro 0 (Exists.intro vq7 (Exists.intro σq7 (And.intro (Nat.le_trans (Nat.le_of_ble_eq_true rfl) hfr) (And.intro (ok_Law_addStep_57 hq7) ?_))))
        obtain ⟨⟨vq8, σq8⟩, hq8, h⟩ := px_bind h
        dsimp only at h
        refine Exists.intro fd (Exists.intro vq8 (Exists.intro σq8 (And.intro hfd (And.intro (hrc 2 _ _ _ _ hq8) ?_))))
        rcases px_ite h with ⟨c9, h⟩ | ⟨c9, h⟩
        · refine And.intro (fun hp => absurd c9 hp) (fun _ => ?_)
          refine And.intro (show (0 : Int) ≤ 0 ∧ (0 : Int) ≤ 1 from by decide) ?_
          exact Prod.mk.inj (Option.some.inj h)
        · refine And.intro (fun _ => ?_) (fun hn => absurd c9 hn)
          refine H [((2, 0, 0, 0, []), 1), ((1, 4, 0, 0, []), 2), ((23, 35, 1, 0, [(0, 57)]), 3), ((5, 3, 0, 1, []), 3), ((12, 0, 13, 0, []), 3), ((29, 4, 0, 0, []), 0)] 53 _ _ _ (by decide +kernel) ?_
          obtain ⟨⟨vq10, σq10⟩, hq10, h⟩ := px_bind h
          dsimp only at h
          refine Exists.intro 0 (Exists.intro vq10 (Exists.intro σq10 (And.intro (Nat.le_trans (Nat.le_of_ble_eq_true rfl) hfr) (And.intro (ok_Law_skipToHere_57 hq10) ?_))))
          exact ih _ _ _ h
      · refine And.intro (fun _ => ?_) (fun hn => absurd c5 hn)
        refine H [((0, 0, 0, 1, []), 1), ((27, 1, 0, 0, []), 1)] 65 _ _ _ (by decide +kernel) ?_
        refine And.intro (show (0 : Int) ≤ 1 ∧ (1 : Int) ≤ 1 from by decide) ?_
        exact Prod.mk.inj (Option.some.inj h)
theorem ok_Law_readBoth_57_1_w {l : Launch} {rv : Int} {rσ : pS} {G : Nat → pL → List pV → pS → Prop} {fd fr : Nat} {rc : Nat → Int → pS → Option (Int × pS)} (hrc : ∀ w a σ v σ1, rc w a σ = some (v, σ1) → Con l fd (mi_rdC w) [.inr 57, .inr 1, .inl a] σ v σ1) (hfd : fd + 1 ≤ fr) (hfr : 1 ≤ fr) (H : px_R l fr 33 rv rσ G) : ∀ (a2 : Int) (σ : pS), f_Law_readBoth_57_1 rc a2 σ = some (rv, rσ) → G 0 [some (.inr 57), some (.inr 1), some (.inl a2), none, none] [] σ := by
  intro a2 σ h
  unfold f_Law_readBoth_57_1 at h
  refine H [((2, 0, 0, 0, []), 1), ((2, 1, 0, 0, []), 1), ((1, 2, 0, 0, []), 1), ((23, 34, 2, 1, [(0, 57)]), 3), ((14, 1, 11, 0, []), 3), ((0, 0, 0, 0, []), 1), ((27, 1, 0, 0, []), 1)] 0 _ _ _ (by decide +kernel) ?_
  obtain ⟨⟨vq1, σq1⟩, hq1, h⟩ := px_bind h
  dsimp only at h
  refine Exists.intro fd (Exists.intro vq1 (Exists.intro σq1 (And.intro hfd (And.intro (hrc 2 _ _ _ _ hq1) ?_))))
  rcases px_ite h with ⟨c2, h⟩ | ⟨c2, h⟩
  · refine And.intro (fun hp => absurd c2 hp) (fun _ => ?_)
    refine And.intro (show (0 : Int) ≤ 0 ∧ (0 : Int) ≤ 1 from by decide) ?_
    exact Prod.mk.inj (Option.some.inj h)
  · refine And.intro (fun _ => ?_) (fun hn => absurd c2 hn)
    refine H [((0, 0, 0, 0, []), 1), ((3, 3, 0, 0, []), 1)] 11 _ _ _ (by decide +kernel) ?_
    exact ok_Law_readBoth_57_1_p13 hrc hfd hfr H _ _ _ _ h
theorem ok_Law_readBoth_57_1 {l : Launch} {fd fr : Nat} {rc : Nat → Int → pS → Option (Int × pS)} (hrc : ∀ w a σ v σ1, rc w a σ = some (v, σ1) → Con l fd (mi_rdC w) [.inr 57, .inr 1, .inl a] σ v σ1) (hfd : fd + 1 ≤ fr) (hfr : 1 ≤ fr) {a2 : Int} {σ : pS} {v : Int} {σ1 : pS} (h : f_Law_readBoth_57_1 rc a2 σ = some (v, σ1)) : Con l fr 33 [.inr 57, .inr 1, .inl a2] σ v σ1 := Con_mk 3 5 rfl (by decide +kernel) (fun _ H => ok_Law_readBoth_57_1_w hrc hfd hfr H _ _ h)
theorem ok_Law_isOneOf_w {l : Launch} {rv : Int} {rσ : pS} {G : Nat → pL → List pV → pS → Prop} (H : px_R l 0 31 rv rσ G) : ∀ (a0 a1 a2 a3 : Int) (σ : pS), f_Law_isOneOf a0 a1 a2 a3 σ = some (rv, rσ) → G 0 [some (.inl a0), some (.inl a1), some (.inl a2), some (.inl a3)] [] σ := by
  intro a0 a1 a2 a3 σ h
  unfold f_Law_isOneOf at h
  refine H [((1, 0, 0, 0, []), 1), ((1, 1, 0, 0, []), 1), ((13, 0, 15, 0, []), 3), ((1, 0, 0, 0, []), 1), ((1, 2, 0, 0, []), 1), ((13, 0, 15, 0, []), 3), ((1, 0, 0, 0, []), 1), ((1, 3, 0, 0, []), 1), ((13, 1, 19, 0, []), 3), ((0, 0, 0, 1, []), 1), ((12, 0, 20, 0, []), 3), ((27, 1, 0, 0, []), 1)] 0 _ _ _ (by decide +kernel) ?_
  rcases px_ite h with ⟨c1, h⟩ | ⟨c1, h⟩
  · refine And.intro (fun _ => ?_) (fun hn => absurd c1 hn)
    refine H [((0, 0, 0, 1, []), 1), ((12, 0, 20, 0, []), 3), ((27, 1, 0, 0, []), 1)] 15 _ _ _ (by decide +kernel) ?_
    refine And.intro (show (0 : Int) ≤ 1 ∧ (1 : Int) ≤ 1 from by decide) ?_
    exact Prod.mk.inj (Option.some.inj h)
  · refine And.intro (fun hp => absurd hp c1) (fun _ => ?_)
    rcases px_ite h with ⟨c2, h⟩ | ⟨c2, h⟩
    · refine And.intro (fun _ => ?_) (fun hn => absurd c2 hn)
      refine H [((0, 0, 0, 1, []), 1), ((12, 0, 20, 0, []), 3), ((27, 1, 0, 0, []), 1)] 15 _ _ _ (by decide +kernel) ?_
      refine And.intro (show (0 : Int) ≤ 1 ∧ (1 : Int) ≤ 1 from by decide) ?_
      exact Prod.mk.inj (Option.some.inj h)
    · refine And.intro (fun hp => absurd hp c2) (fun _ => ?_)
      rcases px_ite h with ⟨c3, h⟩ | ⟨c3, h⟩
      · refine And.intro (fun hp => absurd c3 hp) (fun _ => ?_)
        refine And.intro (show (0 : Int) ≤ 1 ∧ (1 : Int) ≤ 1 from by decide) ?_
        exact Prod.mk.inj (Option.some.inj h)
      · refine And.intro (fun _ => ?_) (fun hn => absurd c3 hn)
        refine H [((0, 0, 0, 0, []), 1), ((27, 1, 0, 0, []), 1)] 19 _ _ _ (by decide +kernel) ?_
        refine And.intro (show (0 : Int) ≤ 0 ∧ (0 : Int) ≤ 1 from by decide) ?_
        exact Prod.mk.inj (Option.some.inj h)
theorem ok_Law_isOneOf {l : Launch} {a0 a1 a2 a3 : Int} {σ : pS} {v : Int} {σ1 : pS} (h : f_Law_isOneOf a0 a1 a2 a3 σ = some (v, σ1)) : Con l 0 31 [.inl a0, .inl a1, .inl a2, .inl a3] σ v σ1 := Con_mk 4 4 rfl (by decide +kernel) (fun _ H => ok_Law_isOneOf_w H _ _ _ _ _ h)
theorem ok_Law_readSum_57_1_p13 {l : Launch} {rv : Int} {rσ : pS} {G : Nat → pL → List pV → pS → Prop} {fd fr : Nat} {rc : Nat → Int → pS → Option (Int × pS)} (hrc : ∀ w a σ v σ1, rc w a σ = some (v, σ1) → Con l fd (mi_rdS w) [.inr 57, .inr 1, .inl a] σ v σ1) (hfd : fd + 1 ≤ fr) (hfr : 1 ≤ fr) (H : px_R l fr 22 rv rσ G) : ∀ (n : Nat) (a2 a3 : Int) (σ : pS), f_Law_readSum_57_1_p13 rc n a2 a3 σ = some (rv, rσ) → G 13 [some (.inr 57), some (.inr 1), some (.inl a2), some (.inl a3), none] [] σ := by
  intro n
  induction n with
  | zero =>
    intro a2 a3 σ h
    unfold f_Law_readSum_57_1_p13 at h
    cases h
  | succ n ih =>
    intro a2 a3 σ h
    unfold f_Law_readSum_57_1_p13 at h
    refine H [((1, 3, 0, 0, []), 1), ((0, 0, 0, 240, []), 3), ((13, 3, 71, 0, []), 3), ((2, 1, 0, 0, []), 1), ((23, 19, 0, 1, [(0, 1)]), 3), ((0, 0, 0, 43, []), 2), ((0, 0, 0, 45, []), 2), ((0, 0, 0, 45, []), 2), ((24, 31, 4, 1, []), 3), ((14, 0, 71, 0, []), 3), ((2, 1, 0, 0, []), 1), ((23, 19, 0, 1, [(0, 1)]), 3), ((3, 4, 0, 0, []), 2), ((2, 1, 0, 0, []), 1), ((23, 21, 0, 0, [(0, 1)]), 3), ((2, 0, 0, 0, []), 1), ((2, 1, 0, 0, []), 1), ((1, 2, 0, 0, []), 1), ((23, 23, 2, 1, [(0, 57)]), 3), ((14, 1, 57, 0, []), 3), ((0, 0, 0, 0, []), 1), ((27, 1, 0, 0, []), 1)] 13 _ _ _ (by decide +kernel) ?_
    rcases px_ite h with ⟨c3, h⟩ | ⟨c3, h⟩
    · refine And.intro (fun _ => ?_) (fun hn => absurd c3 hn)
      refine H [((0, 0, 0, 1, []), 1), ((27, 1, 0, 0, []), 1)] 71 _ _ _ (by decide +kernel) ?_
      refine And.intro (show (0 : Int) ≤ 1 ∧ (1 : Int) ≤ 1 from by decide) ?_
      exact Prod.mk.inj (Option.some.inj h)
    · refine And.intro (fun hp => absurd hp c3) (fun _ => ?_)
      obtain ⟨⟨vq4, σq4⟩, hq4, h⟩ := px_bind h
      dsimp only at h
      refine Exists.intro 0 (Exists.intro vq4 (Exists.intro σq4 (And.intro (Nat.le_trans (Nat.le_of_ble_eq_true rfl) hfr) (And.intro (ok_Tape_sign_1 hq4) ?_))))
      obtain ⟨⟨vq5, σq5⟩, hq5, h⟩ := px_bind h
      dsimp only at h
      refine Exists.intro 0 (Exists.intro vq5 (Exists.intro σq5 (And.intro (Nat.le_trans (Nat.le_of_ble_eq_true rfl) hfr) (And.intro (ok_Law_isOneOf hq5) ?_))))
      rcases px_ite h with ⟨c6, h⟩ | ⟨c6, h⟩
      · refine And.intro (fun _ => ?_) (fun hn => absurd c6 hn)
        refine H [((0, 0, 0, 1, []), 1), ((27, 1, 0, 0, []), 1)] 71 _ _ _ (by decide +kernel) ?_
        refine And.intro (show (0 : Int) ≤ 1 ∧ (1 : Int) ≤ 1 from by decide) ?_
        exact Prod.mk.inj (Option.some.inj h)
      · refine And.intro (fun hp => absurd hp c6) (fun _ => ?_)
        obtain ⟨⟨vq7, σq7⟩, hq7, h⟩ := px_bind h
        dsimp only at h
        refine Exists.intro 0 (Exists.intro vq7 (Exists.intro σq7 (And.intro (Nat.le_trans (Nat.le_of_ble_eq_true rfl) hfr) (And.intro (ok_Tape_sign_1 hq7) ?_))))
        obtain ⟨⟨vq8, σq8⟩, hq8, h⟩ := px_bind h
        dsimp only at h
        refine Exists.intro 0 (Exists.intro vq8 (Exists.intro σq8 (And.intro (Nat.le_trans (Nat.le_of_ble_eq_true rfl) hfr) (And.intro (ok_Tape_step_1 hq8) ?_))))
        obtain ⟨⟨vq9, σq9⟩, hq9, h⟩ := px_bind h
        dsimp only at h
        refine Exists.intro fd (Exists.intro vq9 (Exists.intro σq9 (And.intro hfd (And.intro (hrc 1 _ _ _ _ hq9) ?_))))
        rcases px_ite h with ⟨c10, h⟩ | ⟨c10, h⟩
        · refine And.intro (fun hp => absurd c10 hp) (fun _ => ?_)
          refine And.intro (show (0 : Int) ≤ 0 ∧ (0 : Int) ≤ 1 from by decide) ?_
          exact Prod.mk.inj (Option.some.inj h)
        · refine And.intro (fun _ => ?_) (fun hn => absurd c10 hn)
          refine H [((2, 0, 0, 0, []), 1), ((1, 4, 0, 0, []), 2), ((0, 0, 0, 0, []), 1), ((23, 29, 2, 1, [(0, 57)]), 3), ((11, 0, 0, 0, []), 1), ((5, 3, 0, 1, []), 3), ((12, 0, 13, 0, []), 3), ((29, 4, 0, 0, []), 0)] 57 _ _ _ (by decide +kernel) ?_
          obtain ⟨⟨vq11, σq11⟩, hq11, h⟩ := px_bind h
          dsimp only at h
          refine Exists.intro 0 (Exists.intro vq11 (Exists.intro σq11 (And.intro (Nat.le_trans (Nat.le_of_ble_eq_true rfl) hfr) (And.intro (ok_Law_addStep_57 hq11) ?_))))
          exact ih _ _ _ h
theorem ok_Law_readSum_57_1_w {l : Launch} {rv : Int} {rσ : pS} {G : Nat → pL → List pV → pS → Prop} {fd fr : Nat} {rc : Nat → Int → pS → Option (Int × pS)} (hrc : ∀ w a σ v σ1, rc w a σ = some (v, σ1) → Con l fd (mi_rdS w) [.inr 57, .inr 1, .inl a] σ v σ1) (hfd : fd + 1 ≤ fr) (hfr : 1 ≤ fr) (H : px_R l fr 22 rv rσ G) : ∀ (a2 : Int) (σ : pS), f_Law_readSum_57_1 rc a2 σ = some (rv, rσ) → G 0 [some (.inr 57), some (.inr 1), some (.inl a2), none, none] [] σ := by
  intro a2 σ h
  unfold f_Law_readSum_57_1 at h
  refine H [((2, 0, 0, 0, []), 1), ((2, 1, 0, 0, []), 1), ((1, 2, 0, 0, []), 1), ((23, 23, 2, 1, [(0, 57)]), 3), ((14, 1, 11, 0, []), 3), ((0, 0, 0, 0, []), 1), ((27, 1, 0, 0, []), 1)] 0 _ _ _ (by decide +kernel) ?_
  obtain ⟨⟨vq1, σq1⟩, hq1, h⟩ := px_bind h
  dsimp only at h
  refine Exists.intro fd (Exists.intro vq1 (Exists.intro σq1 (And.intro hfd (And.intro (hrc 1 _ _ _ _ hq1) ?_))))
  rcases px_ite h with ⟨c2, h⟩ | ⟨c2, h⟩
  · refine And.intro (fun hp => absurd c2 hp) (fun _ => ?_)
    refine And.intro (show (0 : Int) ≤ 0 ∧ (0 : Int) ≤ 1 from by decide) ?_
    exact Prod.mk.inj (Option.some.inj h)
  · refine And.intro (fun _ => ?_) (fun hn => absurd c2 hn)
    refine H [((0, 0, 0, 0, []), 1), ((3, 3, 0, 0, []), 1)] 11 _ _ _ (by decide +kernel) ?_
    exact ok_Law_readSum_57_1_p13 hrc hfd hfr H _ _ _ _ h
theorem ok_Law_readSum_57_1 {l : Launch} {fd fr : Nat} {rc : Nat → Int → pS → Option (Int × pS)} (hrc : ∀ w a σ v σ1, rc w a σ = some (v, σ1) → Con l fd (mi_rdS w) [.inr 57, .inr 1, .inl a] σ v σ1) (hfd : fd + 1 ≤ fr) (hfr : 1 ≤ fr) {a2 : Int} {σ : pS} {v : Int} {σ1 : pS} (h : f_Law_readSum_57_1 rc a2 σ = some (v, σ1)) : Con l fr 22 [.inr 57, .inr 1, .inl a2] σ v σ1 := Con_mk 3 5 rfl (by decide +kernel) (fun _ H => ok_Law_readSum_57_1_w hrc hfd hfr H _ _ h)
