theorem ok_M_notes_84_w {l : Launch} {rv : Int} {rσ : pS} {G : Nat → pL → List pV → pS → Prop} (H : px_R l 0 151 rv rσ G) : ∀ (a1 a2 : Int) (σ : pS), f_M_notes_84 a1 a2 σ = some (rv, rσ) → G 0 [some (.inr 84), some (.inl a1), some (.inl a2)] [] σ := by
  intro a1 a2 σ h
  unfold f_M_notes_84 at h
  refine H [((2, 0, 0, 0, []), 1), ((17, 84, 97, 0, []), 3), ((2, 0, 0, 0, []), 1), ((16, 84, 24, 0, []), 3), ((0, 0, 0, 1048576, []), 2), ((1, 1, 0, 0, []), 1), ((6, 2, 0, 0, []), 1), ((1, 2, 0, 0, []), 1), ((6, 0, 0, 0, []), 1), ((20, 97, 260, 0, []), 1), ((2, 0, 0, 0, []), 1), ((2, 0, 0, 0, []), 1), ((16, 84, 24, 0, []), 3), ((0, 0, 0, 1, []), 1), ((6, 0, 0, 0, []), 1), ((18, 84, 24, 0, []), 3), ((28, 0, 0, 0, []), 1)] 0 _ _ _ (by decide +kernel) ?_
  obtain ⟨g1, h⟩ := px_gd h
  refine And.intro g1 ?_
  exact (Prod.mk.inj (Option.some.inj h)).2
theorem ok_M_notes_84 {l : Launch} {a1 a2 : Int} {σ : pS} {v : Int} {σ1 : pS} (h : f_M_notes_84 a1 a2 σ = some (v, σ1)) : Con l 0 151 [.inr 84, .inl a1, .inl a2] σ v σ1 := Con_mk 3 3 rfl (by decide +kernel) (fun _ H => ok_M_notes_84_w H _ _ _ h)
theorem ok_M_readsNumber_84_p10 {l : Launch} {rv : Int} {rσ : pS} {G : Nat → pL → List pV → pS → Prop} (H : px_R l 2 150 rv rσ G) : ∀ (n : Nat) (a1 : Int) (σ : pS), f_M_readsNumber_84_p10 n a1 σ = some (rv, rσ) → G 10 [some (.inr 84), some (.inl a1)] [] σ := by
  intro n
  induction n with
  | zero =>
    intro a1 σ h
    unfold f_M_readsNumber_84_p10 at h
    cases h
  | succ n ih =>
    intro a1 σ h
    unfold f_M_readsNumber_84_p10 at h
    refine H [((2, 0, 0, 0, []), 1), ((23, 149, 0, 1, [(0, 84)]), 3), ((14, 0, 69, 0, []), 3), ((2, 0, 0, 0, []), 1), ((16, 84, 19, 0, []), 3), ((1, 1, 0, 0, []), 1), ((0, 0, 0, 5, []), 1), ((6, 0, 0, 0, []), 1), ((13, 1, 37, 0, []), 3), ((2, 0, 0, 0, []), 1), ((0, 0, 0, 2, []), 1), ((2, 0, 0, 0, []), 1), ((16, 84, 19, 0, []), 3), ((23, 145, 2, 1, [(0, 84)]), 3), ((27, 1, 0, 0, []), 1)] 10 _ _ _ (by decide +kernel) ?_
    obtain ⟨⟨vq1, σq1⟩, hq1, h⟩ := px_bind h
    dsimp only at h
    refine Exists.intro 1 (Exists.intro vq1 (Exists.intro σq1 (And.intro (Nat.le_of_ble_eq_true rfl) (And.intro (ok_M_isDigit_84 hq1) ?_))))
    rcases px_ite h with ⟨c2, h⟩ | ⟨c2, h⟩
    · refine And.intro (fun _ => ?_) (fun hn => absurd c2 hn)
      refine H [((0, 0, 0, 1, []), 1), ((27, 1, 0, 0, []), 1)] 69 _ _ _ (by decide +kernel) ?_
      refine And.intro (show (0 : Int) ≤ 1 ∧ (1 : Int) ≤ 1 from by decide) ?_
      exact Prod.mk.inj (Option.some.inj h)
    · refine And.intro (fun hp => absurd hp c2) (fun _ => ?_)
      rcases px_ite h with ⟨c3, h⟩ | ⟨c3, h⟩
      · refine And.intro (fun hp => absurd c3 hp) (fun _ => ?_)
        obtain ⟨⟨vq5, σq5⟩, hq5, h⟩ := px_bind h
        dsimp only at h
        refine Exists.intro 0 (Exists.intro vq5 (Exists.intro σq5 (And.intro (Nat.le_of_ble_eq_true rfl) (And.intro (ok_M_wrongAt_84 hq5) ?_))))
        obtain ⟨g6, h⟩ := px_gd h
        refine And.intro g6 ?_
        exact Prod.mk.inj (Option.some.inj h)
      · refine And.intro (fun _ => ?_) (fun hn => absurd c3 hn)
        refine H [((2, 0, 0, 0, []), 1), ((0, 0, 0, 10, []), 2), ((2, 0, 0, 0, []), 1), ((16, 84, 22, 0, []), 3), ((6, 2, 0, 0, []), 1), ((2, 0, 0, 0, []), 1), ((23, 144, 0, 1, [(0, 84)]), 3), ((6, 0, 0, 0, []), 1), ((0, 0, 0, 48, []), 2), ((6, 1, 0, 0, []), 1), ((18, 84, 22, 0, []), 3), ((2, 0, 0, 0, []), 1), ((2, 0, 0, 0, []), 1), ((16, 84, 19, 0, []), 3), ((0, 0, 0, 1, []), 1), ((6, 0, 0, 0, []), 1), ((18, 84, 19, 0, []), 3), ((12, 0, 10, 0, []), 3)] 37 _ _ _ (by decide +kernel) ?_
        obtain ⟨⟨vq4, σq4⟩, hq4, h⟩ := px_bind h
        dsimp only at h
        refine Exists.intro 0 (Exists.intro vq4 (Exists.intro σq4 (And.intro (Nat.le_of_ble_eq_true rfl) (And.intro (ok_M_here_84 hq4) ?_))))
        exact ih _ _ h
theorem ok_M_readsNumber_84_w {l : Launch} {rv : Int} {rσ : pS} {G : Nat → pL → List pV → pS → Prop} (H : px_R l 2 150 rv rσ G) : ∀ (σ : pS), f_M_readsNumber_84  σ = some (rv, rσ) → G 0 [some (.inr 84), none] [] σ := by
  intro  σ h
  unfold f_M_readsNumber_84 at h
  refine H [((2, 0, 0, 0, []), 1), ((16, 84, 19, 0, []), 3), ((3, 1, 0, 0, []), 1), ((2, 0, 0, 0, []), 1), ((0, 0, 0, 0, []), 1), ((18, 84, 22, 0, []), 3)] 0 _ _ _ (by decide +kernel) ?_
  exact ok_M_readsNumber_84_p10 H _ _ _ h
theorem ok_M_readsNumber_84 {l : Launch} {σ : pS} {v : Int} {σ1 : pS} (h : f_M_readsNumber_84  σ = some (v, σ1)) : Con l 2 150 [.inr 84] σ v σ1 := Con_mk 1 2 rfl (by decide +kernel) (fun _ H => ok_M_readsNumber_84_w H  _ h)
theorem ok_M_readsFactor_84_p0 {l : Launch} {rv : Int} {rσ : pS} {G : Nat → pL → List pV → pS → Prop} (H : px_R l 3 147 rv rσ G) : ∀ (n : Nat) (σ : pS), f_M_readsFactor_84_p0 n  σ = some (rv, rσ) → G 0 [some (.inr 84), none] [] σ := by
  intro n
  induction n with
  | zero =>
    intro  σ h
    unfold f_M_readsFactor_84_p0 at h
    cases h
  | succ n ih =>
    intro  σ h
    unfold f_M_readsFactor_84_p0 at h
    refine H [((2, 0, 0, 0, []), 1), ((23, 144, 0, 1, [(0, 84)]), 3), ((0, 0, 0, 91, []), 2), ((13, 1, 20, 0, []), 3), ((2, 0, 0, 0, []), 1), ((0, 0, 0, 14, []), 2), ((23, 148, 1, 1, [(0, 84)]), 3), ((14, 1, 0, 0, []), 3), ((0, 0, 0, 0, []), 1), ((27, 1, 0, 0, []), 1)] 0 _ _ _ (by decide +kernel) ?_
    obtain ⟨⟨vq1, σq1⟩, hq1, h⟩ := px_bind h
    dsimp only at h
    refine Exists.intro 0 (Exists.intro vq1 (Exists.intro σq1 (And.intro (Nat.le_of_ble_eq_true rfl) (And.intro (ok_M_here_84 hq1) ?_))))
    rcases px_ite h with ⟨c2, h⟩ | ⟨c2, h⟩
    · refine And.intro (fun hp => absurd c2 hp) (fun _ => ?_)
      obtain ⟨⟨vq14, σq14⟩, hq14, h⟩ := px_bind h
      dsimp only at h
      refine Exists.intro 1 (Exists.intro vq14 (Exists.intro σq14 (And.intro (Nat.le_of_ble_eq_true rfl) (And.intro (ok_M_opens_84 hq14) ?_))))
      rcases px_ite h with ⟨c15, h⟩ | ⟨c15, h⟩
      · refine And.intro (fun hp => absurd c15 hp) (fun _ => ?_)
        refine And.intro (show (0 : Int) ≤ 0 ∧ (0 : Int) ≤ 1 from by decide) ?_
        exact Prod.mk.inj (Option.some.inj h)
      · refine And.intro (fun _ => ?_) (fun hn => absurd c15 hn)
        exact ih  _ h
    · refine And.intro (fun _ => ?_) (fun hn => absurd c2 hn)
      refine H [((2, 0, 0, 0, []), 1), ((23, 149, 0, 1, [(0, 84)]), 3), ((14, 0, 47, 0, []), 3), ((2, 0, 0, 0, []), 1), ((23, 150, 0, 1, [(0, 84)]), 3), ((14, 1, 36, 0, []), 3), ((0, 0, 0, 0, []), 1), ((27, 1, 0, 0, []), 1)] 20 _ _ _ (by decide +kernel) ?_
      obtain ⟨⟨vq3, σq3⟩, hq3, h⟩ := px_bind h
      dsimp only at h
      refine Exists.intro 1 (Exists.intro vq3 (Exists.intro σq3 (And.intro (Nat.le_of_ble_eq_true rfl) (And.intro (ok_M_isDigit_84 hq3) ?_))))
      rcases px_ite h with ⟨c4, h⟩ | ⟨c4, h⟩
      · refine And.intro (fun _ => ?_) (fun hn => absurd c4 hn)
        refine H [((2, 0, 0, 0, []), 1), ((23, 144, 0, 1, [(0, 84)]), 3), ((24, 152, 1, 1, []), 3), ((3, 1, 0, 0, []), 1), ((1, 1, 0, 0, []), 1), ((0, 0, 0, (-1), []), 1), ((13, 1, 70, 0, []), 3), ((2, 0, 0, 0, []), 1), ((0, 0, 0, 1, []), 1), ((2, 0, 0, 0, []), 1), ((16, 84, 19, 0, []), 3), ((23, 145, 2, 1, [(0, 84)]), 3), ((27, 1, 0, 0, []), 1)] 47 _ _ _ (by decide +kernel) ?_
        obtain ⟨⟨vq5, σq5⟩, hq5, h⟩ := px_bind h
        dsimp only at h
        refine Exists.intro 0 (Exists.intro vq5 (Exists.intro σq5 (And.intro (Nat.le_of_ble_eq_true rfl) (And.intro (ok_M_here_84 hq5) ?_))))
        obtain ⟨⟨vq6, σq6⟩, hq6, h⟩ := px_bind h
        dsimp only at h
        refine Exists.intro 0 (Exists.intro vq6 (Exists.intro σq6 (And.intro (Nat.le_of_ble_eq_true rfl) (And.intro (ok_M_factOf hq6) ?_))))
        rcases px_ite h with ⟨c7, h⟩ | ⟨c7, h⟩
        · refine And.intro (fun hp => absurd c7 hp) (fun _ => ?_)
          obtain ⟨⟨vq9, σq9⟩, hq9, h⟩ := px_bind h
          dsimp only at h
          refine Exists.intro 0 (Exists.intro vq9 (Exists.intro σq9 (And.intro (Nat.le_of_ble_eq_true rfl) (And.intro (ok_M_wrongAt_84 hq9) ?_))))
          obtain ⟨g10, h⟩ := px_gd h
          refine And.intro g10 ?_
          exact Prod.mk.inj (Option.some.inj h)
        · refine And.intro (fun _ => ?_) (fun hn => absurd c7 hn)
          refine H [((2, 0, 0, 0, []), 1), ((0, 0, 0, 1, []), 1), ((1, 1, 0, 0, []), 1), ((23, 151, 2, 0, [(0, 84)]), 3), ((2, 0, 0, 0, []), 1), ((2, 0, 0, 0, []), 1), ((16, 84, 19, 0, []), 3), ((0, 0, 0, 1, []), 1), ((6, 0, 0, 0, []), 1), ((18, 84, 19, 0, []), 3), ((0, 0, 0, 1, []), 1), ((27, 1, 0, 0, []), 1)] 70 _ _ _ (by decide +kernel) ?_
          obtain ⟨⟨vq8, σq8⟩, hq8, h⟩ := px_bind h
          dsimp only at h
          refine Exists.intro 0 (Exists.intro vq8 (Exists.intro σq8 (And.intro (Nat.le_of_ble_eq_true rfl) (And.intro (ok_M_notes_84 hq8) ?_))))
          refine And.intro (show (0 : Int) ≤ 1 ∧ (1 : Int) ≤ 1 from by decide) ?_
          exact Prod.mk.inj (Option.some.inj h)
      · refine And.intro (fun hp => absurd hp c4) (fun _ => ?_)
        obtain ⟨⟨vq11, σq11⟩, hq11, h⟩ := px_bind h
        dsimp only at h
        refine Exists.intro 2 (Exists.intro vq11 (Exists.intro σq11 (And.intro (Nat.le_of_ble_eq_true rfl) (And.intro (ok_M_readsNumber_84 hq11) ?_))))
        rcases px_ite h with ⟨c12, h⟩ | ⟨c12, h⟩
        · refine And.intro (fun hp => absurd c12 hp) (fun _ => ?_)
          refine And.intro (show (0 : Int) ≤ 0 ∧ (0 : Int) ≤ 1 from by decide) ?_
          exact Prod.mk.inj (Option.some.inj h)
        · refine And.intro (fun _ => ?_) (fun hn => absurd c12 hn)
          refine H [((2, 0, 0, 0, []), 1), ((0, 0, 0, 0, []), 1), ((2, 0, 0, 0, []), 1), ((16, 84, 22, 0, []), 3), ((23, 151, 2, 0, [(0, 84)]), 3), ((0, 0, 0, 1, []), 1), ((27, 1, 0, 0, []), 1)] 36 _ _ _ (by decide +kernel) ?_
          obtain ⟨⟨vq13, σq13⟩, hq13, h⟩ := px_bind h
          dsimp only at h
          refine Exists.intro 0 (Exists.intro vq13 (Exists.intro σq13 (And.intro (Nat.le_of_ble_eq_true rfl) (And.intro (ok_M_notes_84 hq13) ?_))))
          refine And.intro (show (0 : Int) ≤ 1 ∧ (1 : Int) ≤ 1 from by decide) ?_
          exact Prod.mk.inj (Option.some.inj h)
theorem ok_M_readsFactor_84_w {l : Launch} {rv : Int} {rσ : pS} {G : Nat → pL → List pV → pS → Prop} (H : px_R l 3 147 rv rσ G) : ∀ (σ : pS), f_M_readsFactor_84  σ = some (rv, rσ) → G 0 [some (.inr 84), none] [] σ := by
  intro  σ h
  unfold f_M_readsFactor_84 at h
  refine H [] 0 _ _ _ (by decide +kernel) ?_
  exact ok_M_readsFactor_84_p0 H _  _ h
theorem ok_M_readsFactor_84 {l : Launch} {σ : pS} {v : Int} {σ1 : pS} (h : f_M_readsFactor_84  σ = some (v, σ1)) : Con l 3 147 [.inr 84] σ v σ1 := Con_mk 1 2 rfl (by decide +kernel) (fun _ H => ok_M_readsFactor_84_w H  _ h)
theorem ok_M_sumSign_w {l : Launch} {rv : Int} {rσ : pS} {G : Nat → pL → List pV → pS → Prop} (H : px_R l 0 153 rv rσ G) : ∀ (a0 : Int) (σ : pS), f_M_sumSign a0 σ = some (rv, rσ) → G 0 [some (.inl a0)] [] σ := by
  intro a0 σ h
  unfold f_M_sumSign at h
  refine H [((1, 0, 0, 0, []), 1), ((0, 0, 0, 43, []), 2), ((13, 1, 10, 0, []), 3), ((0, 0, 0, 2, []), 1), ((12, 0, 52, 0, []), 3), ((27, 0, 0, 0, []), 1)] 0 _ _ _ (by decide +kernel) ?_
  rcases px_ite h with ⟨c1, h⟩ | ⟨c1, h⟩
  · refine And.intro (fun hp => absurd c1 hp) (fun _ => ?_)
    exact Prod.mk.inj (Option.some.inj h)
  · refine And.intro (fun _ => ?_) (fun hn => absurd c1 hn)
    refine H [((1, 0, 0, 0, []), 1), ((0, 0, 0, 45, []), 2), ((13, 1, 20, 0, []), 3), ((0, 0, 0, 3, []), 1), ((12, 0, 52, 0, []), 3), ((27, 0, 0, 0, []), 1)] 10 _ _ _ (by decide +kernel) ?_
    rcases px_ite h with ⟨c2, h⟩ | ⟨c2, h⟩
    · refine And.intro (fun hp => absurd c2 hp) (fun _ => ?_)
      exact Prod.mk.inj (Option.some.inj h)
    · refine And.intro (fun _ => ?_) (fun hn => absurd c2 hn)
      refine H [((1, 0, 0, 0, []), 1), ((0, 0, 0, 42, []), 2), ((13, 1, 30, 0, []), 3), ((0, 0, 0, 4, []), 1), ((12, 0, 52, 0, []), 3), ((27, 0, 0, 0, []), 1)] 20 _ _ _ (by decide +kernel) ?_
      rcases px_ite h with ⟨c3, h⟩ | ⟨c3, h⟩
      · refine And.intro (fun hp => absurd c3 hp) (fun _ => ?_)
        exact Prod.mk.inj (Option.some.inj h)
      · refine And.intro (fun _ => ?_) (fun hn => absurd c3 hn)
        refine H [((1, 0, 0, 0, []), 1), ((0, 0, 0, 47, []), 2), ((13, 1, 40, 0, []), 3), ((0, 0, 0, 5, []), 1), ((12, 0, 52, 0, []), 3), ((27, 0, 0, 0, []), 1)] 30 _ _ _ (by decide +kernel) ?_
        rcases px_ite h with ⟨c4, h⟩ | ⟨c4, h⟩
        · refine And.intro (fun hp => absurd c4 hp) (fun _ => ?_)
          exact Prod.mk.inj (Option.some.inj h)
        · refine And.intro (fun _ => ?_) (fun hn => absurd c4 hn)
          refine H [((1, 0, 0, 0, []), 1), ((0, 0, 0, 37, []), 2), ((13, 1, 51, 0, []), 3), ((0, 0, 0, 6, []), 2), ((12, 0, 52, 0, []), 3), ((27, 0, 0, 0, []), 1)] 40 _ _ _ (by decide +kernel) ?_
          rcases px_ite h with ⟨c5, h⟩ | ⟨c5, h⟩
          · refine And.intro (fun hp => absurd c5 hp) (fun _ => ?_)
            exact Prod.mk.inj (Option.some.inj h)
          · refine And.intro (fun _ => ?_) (fun hn => absurd c5 hn)
            refine H [((0, 0, 0, (-1), []), 1), ((27, 0, 0, 0, []), 1)] 51 _ _ _ (by decide +kernel) ?_
            exact Prod.mk.inj (Option.some.inj h)
theorem ok_M_sumSign {l : Launch} {a0 : Int} {σ : pS} {v : Int} {σ1 : pS} (h : f_M_sumSign a0 σ = some (v, σ1)) : Con l 0 153 [.inl a0] σ v σ1 := Con_mk 1 1 rfl (by decide +kernel) (fun _ H => ok_M_sumSign_w H _ _ h)
theorem ok_M_hasOpenSum_84_p2 {l : Launch} {rv : Int} {rσ : pS} {G : Nat → pL → List pV → pS → Prop} (H : px_R l 0 156 rv rσ G) : ∀ (n : Nat) (a2 : Int) (σ : pS), f_M_hasOpenSum_84_p2 n a2 σ = some (rv, rσ) → G 2 [some (.inr 84), none, some (.inl a2)] [] σ := by
  intro n
  induction n with
  | zero =>
    intro a2 σ h
    unfold f_M_hasOpenSum_84_p2 at h
    cases h
  | succ n ih =>
    intro a2 σ h
    unfold f_M_hasOpenSum_84_p2 at h
    refine H [((1, 2, 0, 0, []), 1), ((2, 0, 0, 0, []), 1), ((16, 84, 25, 0, []), 3), ((13, 3, 32, 0, []), 3), ((2, 0, 0, 0, []), 1), ((17, 84, 98, 0, []), 3), ((1, 2, 0, 0, []), 1), ((19, 98, 260, 0, []), 1), ((0, 0, 0, 1048576, []), 2), ((7, 0, 0, 0, []), 1), ((0, 0, 0, 14, []), 2), ((13, 1, 26, 0, []), 3), ((0, 0, 0, 1, []), 1), ((27, 1, 0, 0, []), 1)] 2 _ _ _ (by decide +kernel) ?_
    rcases px_ite h with ⟨c1, h⟩ | ⟨c1, h⟩
    · refine And.intro (fun _ => ?_) (fun hn => absurd c1 hn)
      refine H [((0, 0, 0, 0, []), 1), ((27, 1, 0, 0, []), 1)] 32 _ _ _ (by decide +kernel) ?_
      refine And.intro (show (0 : Int) ≤ 0 ∧ (0 : Int) ≤ 1 from by decide) ?_
      exact Prod.mk.inj (Option.some.inj h)
    · refine And.intro (fun hp => absurd hp c1) (fun _ => ?_)
      obtain ⟨g2, h⟩ := px_gd h
      refine And.intro g2 ?_
      refine And.intro (show (1048576 : Int) ≠ 0 from by decide) (fun r3 hr3 => ?_)
      replace hr3 : r3 = pDiv (σ 98 a2.toNat) 1048576 := hr3.trans (px_dr_0 _ _)
      try rw [← hr3] at h
      rcases px_ite h with ⟨c4, h⟩ | ⟨c4, h⟩
      · refine And.intro (fun hp => absurd c4 hp) (fun _ => ?_)
        refine And.intro (show (0 : Int) ≤ 1 ∧ (1 : Int) ≤ 1 from by decide) ?_
        exact Prod.mk.inj (Option.some.inj h)
      · refine And.intro (fun _ => ?_) (fun hn => absurd c4 hn)
        refine H [((5, 2, 0, 1, []), 3), ((12, 0, 2, 0, []), 3)] 26 _ _ _ (by decide +kernel) ?_
        exact ih _ _ h
theorem ok_M_hasOpenSum_84_w {l : Launch} {rv : Int} {rσ : pS} {G : Nat → pL → List pV → pS → Prop} (H : px_R l 0 156 rv rσ G) : ∀ (a1 : Int) (σ : pS), f_M_hasOpenSum_84 a1 σ = some (rv, rσ) → G 0 [some (.inr 84), some (.inl a1), none] [] σ := by
  intro a1 σ h
  unfold f_M_hasOpenSum_84 at h
  refine H [((1, 1, 0, 0, []), 1), ((3, 2, 0, 0, []), 1), ((29, 1, 0, 0, []), 0)] 0 _ _ _ (by decide +kernel) ?_
  exact ok_M_hasOpenSum_84_p2 H _ _ _ h
theorem ok_M_hasOpenSum_84 {l : Launch} {a1 : Int} {σ : pS} {v : Int} {σ1 : pS} (h : f_M_hasOpenSum_84 a1 σ = some (v, σ1)) : Con l 0 156 [.inr 84, .inl a1] σ v σ1 := Con_mk 2 3 rfl (by decide +kernel) (fun _ H => ok_M_hasOpenSum_84_w H _ _ h)
theorem ok_M_waitTop_84_w {l : Launch} {rv : Int} {rσ : pS} {G : Nat → pL → List pV → pS → Prop} (H : px_R l 0 155 rv rσ G) : ∀ (σ : pS), f_M_waitTop_84  σ = some (rv, rσ) → G 0 [some (.inr 84)] [] σ := by
  intro  σ h
  unfold f_M_waitTop_84 at h
  refine H [((2, 0, 0, 0, []), 1), ((16, 84, 25, 0, []), 3), ((14, 1, 11, 0, []), 3), ((0, 0, 0, (-1), []), 1), ((12, 0, 25, 0, []), 3), ((27, 0, 0, 0, []), 1)] 0 _ _ _ (by decide +kernel) ?_
  rcases px_ite h with ⟨c1, h⟩ | ⟨c1, h⟩
  · refine And.intro (fun hp => absurd c1 hp) (fun _ => ?_)
    exact Prod.mk.inj (Option.some.inj h)
  · refine And.intro (fun _ => ?_) (fun hn => absurd c1 hn)
    refine H [((2, 0, 0, 0, []), 1), ((17, 84, 98, 0, []), 3), ((2, 0, 0, 0, []), 1), ((16, 84, 25, 0, []), 3), ((0, 0, 0, 1, []), 1), ((6, 1, 0, 0, []), 1), ((19, 98, 260, 0, []), 1), ((0, 0, 0, 1048576, []), 2), ((7, 0, 0, 0, []), 1), ((27, 0, 0, 0, []), 1)] 11 _ _ _ (by decide +kernel) ?_
    obtain ⟨g2, h⟩ := px_gd h
    refine And.intro g2 ?_
    refine And.intro (show (1048576 : Int) ≠ 0 from by decide) (fun r3 hr3 => ?_)
    replace hr3 : r3 = pDiv (σ 98 (pw ((σ 84 25) - 1)).toNat) 1048576 := hr3.trans (px_dr_0 _ _)
    try rw [← hr3] at h
    exact Prod.mk.inj (Option.some.inj h)
theorem ok_M_waitTop_84 {l : Launch} {σ : pS} {v : Int} {σ1 : pS} (h : f_M_waitTop_84  σ = some (v, σ1)) : Con l 0 155 [.inr 84] σ v σ1 := Con_mk 1 1 rfl (by decide +kernel) (fun _ H => ok_M_waitTop_84_w H  _ h)
theorem ok_M_closesSums_84_p37 {l : Launch} {rv : Int} {rσ : pS} {G : Nat → pL → List pV → pS → Prop} (H : px_R l 1 154 rv rσ G) {k_0 : Int → pS → Option (Int × pS)} (hk_0 : ∀ (a1 : Int) (σ : pS), k_0 a1 σ = some (rv, rσ) → G 0 [some (.inr 84), some (.inl a1)] [] σ) : ∀ (a1 : Int) (σ : pS), f_M_closesSums_84_p37 k_0 a1 σ = some (rv, rσ) → G 37 [some (.inr 84), some (.inl a1)] [] σ := by
  intro a1 σ h
  unfold f_M_closesSums_84_p37 at h
  refine H [((2, 0, 0, 0, []), 1), ((2, 0, 0, 0, []), 1), ((23, 155, 0, 1, [(0, 84)]), 3), ((0, 0, 0, 0, []), 1), ((23, 151, 2, 0, [(0, 84)]), 3), ((2, 0, 0, 0, []), 1), ((2, 0, 0, 0, []), 1), ((16, 84, 25, 0, []), 3), ((0, 0, 0, 1, []), 1), ((6, 1, 0, 0, []), 1), ((18, 84, 25, 0, []), 3), ((12, 0, 0, 0, []), 3)] 37 _ _ _ (by decide +kernel) ?_
  obtain ⟨⟨vq6, σq6⟩, hq6, h⟩ := px_bind h
  dsimp only at h
  refine Exists.intro 0 (Exists.intro vq6 (Exists.intro σq6 (And.intro (Nat.le_of_ble_eq_true rfl) (And.intro (ok_M_waitTop_84 hq6) ?_))))
  obtain ⟨⟨vq7, σq7⟩, hq7, h⟩ := px_bind h
  dsimp only at h
  refine Exists.intro 0 (Exists.intro vq7 (Exists.intro σq7 (And.intro (Nat.le_of_ble_eq_true rfl) (And.intro (ok_M_notes_84 hq7) ?_))))
  exact hk_0 _ _ h
theorem ok_M_closesSums_84_p17 {l : Launch} {rv : Int} {rσ : pS} {G : Nat → pL → List pV → pS → Prop} (H : px_R l 1 154 rv rσ G) {k_0 : Int → pS → Option (Int × pS)} (hk_0 : ∀ (a1 : Int) (σ : pS), k_0 a1 σ = some (rv, rσ) → G 0 [some (.inr 84), some (.inl a1)] [] σ) : ∀ (a1 : Int) (σ : pS), f_M_closesSums_84_p17 k_0 a1 σ = some (rv, rσ) → G 17 [some (.inr 84), some (.inl a1)] [] σ := by
  intro a1 σ h
  unfold f_M_closesSums_84_p17 at h
  refine H [((1, 1, 0, 0, []), 1), ((14, 0, 59, 0, []), 3), ((2, 0, 0, 0, []), 1), ((23, 155, 0, 1, [(0, 84)]), 3), ((0, 0, 0, 2, []), 1), ((13, 0, 37, 0, []), 3), ((2, 0, 0, 0, []), 1), ((23, 155, 0, 1, [(0, 84)]), 3), ((0, 0, 0, 3, []), 1), ((13, 1, 59, 0, []), 3)] 17 _ _ _ (by decide +kernel) ?_
  rcases px_ite h with ⟨c3, h⟩ | ⟨c3, h⟩
  · refine And.intro (fun _ => ?_) (fun hn => absurd c3 hn)
    refine H [((28, 0, 0, 0, []), 1)] 59 _ _ _ (by decide +kernel) ?_
    exact (Prod.mk.inj (Option.some.inj h)).2
  · refine And.intro (fun hp => absurd hp c3) (fun _ => ?_)
    obtain ⟨⟨vq4, σq4⟩, hq4, h⟩ := px_bind h
    dsimp only at h
    refine Exists.intro 0 (Exists.intro vq4 (Exists.intro σq4 (And.intro (Nat.le_of_ble_eq_true rfl) (And.intro (ok_M_waitTop_84 hq4) ?_))))
    rcases px_ite h with ⟨c5, h⟩ | ⟨c5, h⟩
    · refine And.intro (fun _ => ?_) (fun hn => absurd c5 hn)
      exact ok_M_closesSums_84_p37 H hk_0 _ _ h
    · refine And.intro (fun hp => absurd hp c5) (fun _ => ?_)
      obtain ⟨⟨vq8, σq8⟩, hq8, h⟩ := px_bind h
      dsimp only at h
      refine Exists.intro 0 (Exists.intro vq8 (Exists.intro σq8 (And.intro (Nat.le_of_ble_eq_true rfl) (And.intro (ok_M_waitTop_84 hq8) ?_))))
      rcases px_ite h with ⟨c9, h⟩ | ⟨c9, h⟩
      · refine And.intro (fun hp => absurd c9 hp) (fun _ => ?_)
        exact ok_M_closesSums_84_p37 H hk_0 _ _ h
      · refine And.intro (fun _ => ?_) (fun hn => absurd c9 hn)
        refine H [((28, 0, 0, 0, []), 1)] 59 _ _ _ (by decide +kernel) ?_
        exact (Prod.mk.inj (Option.some.inj h)).2
theorem ok_M_closesSums_84_p0 {l : Launch} {rv : Int} {rσ : pS} {G : Nat → pL → List pV → pS → Prop} (H : px_R l 1 154 rv rσ G) : ∀ (n : Nat) (a1 : Int) (σ : pS), f_M_closesSums_84_p0 n a1 σ = some (rv, rσ) → G 0 [some (.inr 84), some (.inl a1)] [] σ := by
  intro n
  induction n with
  | zero =>
    intro a1 σ h
    unfold f_M_closesSums_84_p0 at h
    cases h
  | succ n ih =>
    intro a1 σ h
    unfold f_M_closesSums_84_p0 at h
    refine H [((2, 0, 0, 0, []), 1), ((23, 155, 0, 1, [(0, 84)]), 3), ((0, 0, 0, 4, []), 1), ((13, 2, 17, 0, []), 3), ((2, 0, 0, 0, []), 1), ((23, 155, 0, 1, [(0, 84)]), 3), ((0, 0, 0, 6, []), 2), ((13, 5, 37, 0, []), 3)] 0 _ _ _ (by decide +kernel) ?_
    obtain ⟨⟨vq1, σq1⟩, hq1, h⟩ := px_bind h
    dsimp only at h
    refine Exists.intro 0 (Exists.intro vq1 (Exists.intro σq1 (And.intro (Nat.le_of_ble_eq_true rfl) (And.intro (ok_M_waitTop_84 hq1) ?_))))
    rcases px_ite h with ⟨c2, h⟩ | ⟨c2, h⟩
    · refine And.intro (fun _ => ?_) (fun hn => absurd c2 hn)
      exact ok_M_closesSums_84_p17 H ih _ _ h
    · refine And.intro (fun hp => absurd hp c2) (fun _ => ?_)
      obtain ⟨⟨vq10, σq10⟩, hq10, h⟩ := px_bind h
      dsimp only at h
      refine Exists.intro 0 (Exists.intro vq10 (Exists.intro σq10 (And.intro (Nat.le_of_ble_eq_true rfl) (And.intro (ok_M_waitTop_84 hq10) ?_))))
      rcases px_ite h with ⟨c11, h⟩ | ⟨c11, h⟩
      · refine And.intro (fun _ => ?_) (fun hn => absurd c11 hn)
        exact ok_M_closesSums_84_p37 H ih _ _ h
      · refine And.intro (fun hp => absurd hp c11) (fun _ => ?_)
        exact ok_M_closesSums_84_p17 H ih _ _ h
theorem ok_M_closesSums_84_w {l : Launch} {rv : Int} {rσ : pS} {G : Nat → pL → List pV → pS → Prop} (H : px_R l 1 154 rv rσ G) : ∀ (a1 : Int) (σ : pS), f_M_closesSums_84 a1 σ = some (rv, rσ) → G 0 [some (.inr 84), some (.inl a1)] [] σ := by
  intro a1 σ h
  unfold f_M_closesSums_84 at h
  refine H [] 0 _ _ _ (by decide +kernel) ?_
  exact ok_M_closesSums_84_p0 H _ _ _ h
theorem ok_M_closesSums_84 {l : Launch} {a1 : Int} {σ : pS} {v : Int} {σ1 : pS} (h : f_M_closesSums_84 a1 σ = some (v, σ1)) : Con l 1 154 [.inr 84, .inl a1] σ v σ1 := Con_mk 2 2 rfl (by decide +kernel) (fun _ H => ok_M_closesSums_84_w H _ _ h)
theorem ok_M_readsSum_84_p138 {l : Launch} {rv : Int} {rσ : pS} {G : Nat → pL → List pV → pS → Prop} (H : px_R l 4 146 rv rσ G) : ∀ (a1 : Int) (σ : pS), f_M_readsSum_84_p138 a1 σ = some (rv, rσ) → G 138 [some (.inr 84), some (.inl a1), none] [] σ := by
  intro a1 σ h
  unfold f_M_readsSum_84_p138 at h
  refine H [((2, 0, 0, 0, []), 1), ((1, 1, 0, 0, []), 1), ((23, 156, 1, 1, [(0, 84)]), 3), ((14, 0, 156, 0, []), 3), ((2, 0, 0, 0, []), 1), ((0, 0, 0, 1, []), 1), ((2, 0, 0, 0, []), 1), ((16, 84, 19, 0, []), 3), ((23, 145, 2, 1, [(0, 84)]), 3), ((27, 1, 0, 0, []), 1)] 138 _ _ _ (by decide +kernel) ?_
  obtain ⟨⟨vq8, σq8⟩, hq8, h⟩ := px_bind h
  dsimp only at h
  refine Exists.intro 0 (Exists.intro vq8 (Exists.intro σq8 (And.intro (Nat.le_of_ble_eq_true rfl) (And.intro (ok_M_hasOpenSum_84 hq8) ?_))))
  rcases px_ite h with ⟨c9, h⟩ | ⟨c9, h⟩
  · refine And.intro (fun _ => ?_) (fun hn => absurd c9 hn)
    refine H [((2, 0, 0, 0, []), 1), ((0, 0, 0, 1, []), 1), ((23, 154, 1, 0, [(0, 84)]), 3), ((0, 0, 0, 1, []), 1), ((27, 1, 0, 0, []), 1)] 156 _ _ _ (by decide +kernel) ?_
    obtain ⟨⟨vq10, σq10⟩, hq10, h⟩ := px_bind h
    dsimp only at h
    refine Exists.intro 1 (Exists.intro vq10 (Exists.intro σq10 (And.intro (Nat.le_of_ble_eq_true rfl) (And.intro (ok_M_closesSums_84 hq10) ?_))))
    refine And.intro (show (0 : Int) ≤ 1 ∧ (1 : Int) ≤ 1 from by decide) ?_
    exact Prod.mk.inj (Option.some.inj h)
  · refine And.intro (fun hp => absurd hp c9) (fun _ => ?_)
    obtain ⟨⟨vq11, σq11⟩, hq11, h⟩ := px_bind h
    dsimp only at h
    refine Exists.intro 0 (Exists.intro vq11 (Exists.intro σq11 (And.intro (Nat.le_of_ble_eq_true rfl) (And.intro (ok_M_wrongAt_84 hq11) ?_))))
    obtain ⟨g12, h⟩ := px_gd h
    refine And.intro g12 ?_
    exact Prod.mk.inj (Option.some.inj h)
theorem ok_M_readsSum_84_p38 {l : Launch} {rv : Int} {rσ : pS} {G : Nat → pL → List pV → pS → Prop} (H : px_R l 4 146 rv rσ G) {k_14 : Int → pS → Option (Int × pS)} (hk_14 : ∀ (a1 : Int) (σ : pS), k_14 a1 σ = some (rv, rσ) → G 14 [some (.inr 84), some (.inl a1), none] [] σ) : ∀ (a1 a2 s0 : Int) (σ : pS), f_M_readsSum_84_p38 k_14 a1 a2 s0 σ = some (rv, rσ) → G 38 [some (.inr 84), some (.inl a1), some (.inl a2)] [.inl s0, .inr 84] σ := by
  intro a1 a2 s0 σ h
  unfold f_M_readsSum_84_p38 at h
  refine H [((23, 154, 1, 0, [(0, 84)]), 3), ((2, 0, 0, 0, []), 1), ((17, 84, 98, 0, []), 3), ((2, 0, 0, 0, []), 1), ((16, 84, 25, 0, []), 3), ((0, 0, 0, 1048576, []), 2), ((1, 2, 0, 0, []), 1), ((6, 2, 0, 0, []), 1), ((20, 98, 260, 0, []), 1), ((2, 0, 0, 0, []), 1), ((2, 0, 0, 0, []), 1), ((16, 84, 25, 0, []), 3), ((0, 0, 0, 1, []), 1), ((6, 0, 0, 0, []), 1), ((18, 84, 25, 0, []), 3), ((2, 0, 0, 0, []), 1), ((2, 0, 0, 0, []), 1), ((16, 84, 19, 0, []), 3), ((0, 0, 0, 1, []), 1), ((6, 0, 0, 0, []), 1), ((18, 84, 19, 0, []), 3), ((2, 0, 0, 0, []), 1), ((23, 147, 0, 1, [(0, 84)]), 3), ((14, 1, 163, 0, []), 3), ((0, 0, 0, 0, []), 1), ((27, 1, 0, 0, []), 1)] 38 _ _ _ (by decide +kernel) ?_
  obtain ⟨⟨vq17, σq17⟩, hq17, h⟩ := px_bind h
  dsimp only at h
  refine Exists.intro 1 (Exists.intro vq17 (Exists.intro σq17 (And.intro (Nat.le_of_ble_eq_true rfl) (And.intro (ok_M_closesSums_84 hq17) ?_))))
  obtain ⟨g18, h⟩ := px_gd h
  refine And.intro g18 ?_
  obtain ⟨⟨vq19, σq19⟩, hq19, h⟩ := px_bind h
  dsimp only at h
  refine Exists.intro 3 (Exists.intro vq19 (Exists.intro σq19 (And.intro (Nat.le_of_ble_eq_true rfl) (And.intro (ok_M_readsFactor_84 hq19) ?_))))
  rcases px_ite h with ⟨c20, h⟩ | ⟨c20, h⟩
  · refine And.intro (fun hp => absurd c20 hp) (fun _ => ?_)
    refine And.intro (show (0 : Int) ≤ 0 ∧ (0 : Int) ≤ 1 from by decide) ?_
    exact Prod.mk.inj (Option.some.inj h)
  · refine And.intro (fun _ => ?_) (fun hn => absurd c20 hn)
    refine H [((12, 0, 14, 0, []), 3), ((29, 2, 0, 0, []), 0)] 163 _ _ _ (by decide +kernel) ?_
    exact hk_14 _ _ h
theorem ok_M_readsSum_84_p14 {l : Launch} {rv : Int} {rσ : pS} {G : Nat → pL → List pV → pS → Prop} (H : px_R l 4 146 rv rσ G) : ∀ (n : Nat) (a1 : Int) (σ : pS), f_M_readsSum_84_p14 n a1 σ = some (rv, rσ) → G 14 [some (.inr 84), some (.inl a1), none] [] σ := by
  intro n
  induction n with
  | zero =>
    intro a1 σ h
    unfold f_M_readsSum_84_p14 at h
    cases h
  | succ n ih =>
    intro a1 σ h
    unfold f_M_readsSum_84_p14 at h
    refine H [((2, 0, 0, 0, []), 1), ((23, 144, 0, 1, [(0, 84)]), 3), ((24, 153, 1, 1, []), 3), ((3, 2, 0, 0, []), 1), ((1, 2, 0, 0, []), 1), ((0, 0, 0, (-1), []), 1), ((13, 0, 83, 0, []), 3), ((2, 0, 0, 0, []), 1), ((1, 2, 0, 0, []), 1), ((0, 0, 0, 4, []), 1), ((13, 3, 37, 0, []), 3), ((0, 0, 0, 1, []), 1), ((12, 0, 38, 0, []), 3)] 14 _ _ _ (by decide +kernel) ?_
    obtain ⟨⟨vq3, σq3⟩, hq3, h⟩ := px_bind h
    dsimp only at h
    refine Exists.intro 0 (Exists.intro vq3 (Exists.intro σq3 (And.intro (Nat.le_of_ble_eq_true rfl) (And.intro (ok_M_here_84 hq3) ?_))))
    obtain ⟨⟨vq4, σq4⟩, hq4, h⟩ := px_bind h
    dsimp only at h
    refine Exists.intro 0 (Exists.intro vq4 (Exists.intro σq4 (And.intro (Nat.le_of_ble_eq_true rfl) (And.intro (ok_M_sumSign hq4) ?_))))
    rcases px_ite h with ⟨c5, h⟩ | ⟨c5, h⟩
    · refine And.intro (fun _ => ?_) (fun hn => absurd c5 hn)
      refine H [((2, 0, 0, 0, []), 1), ((23, 144, 0, 1, [(0, 84)]), 3), ((0, 0, 0, 93, []), 2), ((13, 1, 138, 0, []), 3), ((2, 0, 0, 0, []), 1), ((1, 1, 0, 0, []), 1), ((23, 156, 1, 1, [(0, 84)]), 3), ((14, 0, 138, 0, []), 3), ((2, 0, 0, 0, []), 1), ((0, 0, 0, 1, []), 1), ((23, 154, 1, 0, [(0, 84)]), 3), ((2, 0, 0, 0, []), 1), ((2, 0, 0, 0, []), 1), ((16, 84, 25, 0, []), 3), ((0, 0, 0, 1, []), 1), ((6, 1, 0, 0, []), 1), ((18, 84, 25, 0, []), 3), ((2, 0, 0, 0, []), 1), ((2, 0, 0, 0, []), 1), ((16, 84, 23, 0, []), 3), ((0, 0, 0, 1, []), 1), ((6, 1, 0, 0, []), 1), ((18, 84, 23, 0, []), 3), ((2, 0, 0, 0, []), 1), ((2, 0, 0, 0, []), 1), ((16, 84, 19, 0, []), 3), ((0, 0, 0, 1, []), 1), ((6, 0, 0, 0, []), 1), ((18, 84, 19, 0, []), 3), ((12, 0, 163, 0, []), 3), ((12, 0, 14, 0, []), 3), ((29, 2, 0, 0, []), 0)] 83 _ _ _ (by decide +kernel) ?_
      obtain ⟨⟨vq6, σq6⟩, hq6, h⟩ := px_bind h
      dsimp only at h
      refine Exists.intro 0 (Exists.intro vq6 (Exists.intro σq6 (And.intro (Nat.le_of_ble_eq_true rfl) (And.intro (ok_M_here_84 hq6) ?_))))
      rcases px_ite h with ⟨c7, h⟩ | ⟨c7, h⟩
      · refine And.intro (fun hp => absurd c7 hp) (fun _ => ?_)
        obtain ⟨⟨vq13, σq13⟩, hq13, h⟩ := px_bind h
        dsimp only at h
        refine Exists.intro 0 (Exists.intro vq13 (Exists.intro σq13 (And.intro (Nat.le_of_ble_eq_true rfl) (And.intro (ok_M_hasOpenSum_84 hq13) ?_))))
        rcases px_ite h with ⟨c14, h⟩ | ⟨c14, h⟩
        · refine And.intro (fun _ => ?_) (fun hn => absurd c14 hn)
          refine H [((29, 2, 0, 0, []), 0)] 138 _ _ _ (by decide +kernel) ?_
          exact ok_M_readsSum_84_p138 H _ _ h
        · refine And.intro (fun hp => absurd hp c14) (fun _ => ?_)
          obtain ⟨⟨vq15, σq15⟩, hq15, h⟩ := px_bind h
          dsimp only at h
          refine Exists.intro 1 (Exists.intro vq15 (Exists.intro σq15 (And.intro (Nat.le_of_ble_eq_true rfl) (And.intro (ok_M_closesSums_84 hq15) ?_))))
          exact ih _ _ h
      · refine And.intro (fun _ => ?_) (fun hn => absurd c7 hn)
        refine H [((29, 2, 0, 0, []), 0)] 138 _ _ _ (by decide +kernel) ?_
        exact ok_M_readsSum_84_p138 H _ _ h
    · refine And.intro (fun hp => absurd hp c5) (fun _ => ?_)
      rcases px_ite h with ⟨c16, h⟩ | ⟨c16, h⟩
      · refine And.intro (fun _ => ?_) (fun hn => absurd c16 hn)
        refine H [((0, 0, 0, 0, []), 1)] 37 _ _ _ (by decide +kernel) ?_
        exact ok_M_readsSum_84_p38 H ih _ _ _ _ h
      · refine And.intro (fun hp => absurd hp c16) (fun _ => ?_)
        exact ok_M_readsSum_84_p38 H ih _ _ _ _ h
theorem ok_M_readsSum_84_w {l : Launch} {rv : Int} {rσ : pS} {G : Nat → pL → List pV → pS → Prop} (H : px_R l 4 146 rv rσ G) : ∀ (σ : pS), f_M_readsSum_84  σ = some (rv, rσ) → G 0 [some (.inr 84), none, none] [] σ := by
  intro  σ h
  unfold f_M_readsSum_84 at h
  refine H [((2, 0, 0, 0, []), 1), ((16, 84, 25, 0, []), 3), ((3, 1, 0, 0, []), 1), ((2, 0, 0, 0, []), 1), ((23, 147, 0, 1, [(0, 84)]), 3), ((14, 1, 14, 0, []), 3), ((0, 0, 0, 0, []), 1), ((27, 1, 0, 0, []), 1)] 0 _ _ _ (by decide +kernel) ?_
  obtain ⟨⟨vq1, σq1⟩, hq1, h⟩ := px_bind h
  dsimp only at h
  refine Exists.intro 3 (Exists.intro vq1 (Exists.intro σq1 (And.intro (Nat.le_of_ble_eq_true rfl) (And.intro (ok_M_readsFactor_84 hq1) ?_))))
  rcases px_ite h with ⟨c2, h⟩ | ⟨c2, h⟩
  · refine And.intro (fun hp => absurd c2 hp) (fun _ => ?_)
    refine And.intro (show (0 : Int) ≤ 0 ∧ (0 : Int) ≤ 1 from by decide) ?_
    exact Prod.mk.inj (Option.some.inj h)
  · refine And.intro (fun _ => ?_) (fun hn => absurd c2 hn)
    exact ok_M_readsSum_84_p14 H _ _ _ h
theorem ok_M_readsSum_84 {l : Launch} {σ : pS} {v : Int} {σ1 : pS} (h : f_M_readsSum_84  σ = some (v, σ1)) : Con l 4 146 [.inr 84] σ v σ1 := Con_mk 1 3 rfl (by decide +kernel) (fun _ H => ok_M_readsSum_84_w H  _ h)
theorem ok_M_endsPiece_84_p0 {l : Launch} {rv : Int} {rσ : pS} {G : Nat → pL → List pV → pS → Prop} (H : px_R l 1 159 rv rσ G) : ∀ (n : Nat) (σ : pS), f_M_endsPiece_84_p0 n  σ = some (rv, rσ) → G 0 [some (.inr 84)] [] σ := by
  intro n
  induction n with
  | zero =>
    intro  σ h
    unfold f_M_endsPiece_84_p0 at h
    cases h
  | succ n ih =>
    intro  σ h
    unfold f_M_endsPiece_84_p0 at h
    refine H [((2, 0, 0, 0, []), 1), ((23, 155, 0, 1, [(0, 84)]), 3), ((0, 0, 0, 10, []), 2), ((13, 1, 39, 0, []), 3), ((2, 0, 0, 0, []), 1), ((0, 0, 0, 10, []), 2), ((0, 0, 0, 0, []), 1), ((23, 151, 2, 0, [(0, 84)]), 3), ((2, 0, 0, 0, []), 1), ((2, 0, 0, 0, []), 1), ((16, 84, 25, 0, []), 3), ((0, 0, 0, 1, []), 1), ((6, 1, 0, 0, []), 1), ((18, 84, 25, 0, []), 3), ((2, 0, 0, 0, []), 1), ((2, 0, 0, 0, []), 1), ((16, 84, 23, 0, []), 3), ((0, 0, 0, 1, []), 1), ((6, 1, 0, 0, []), 1), ((18, 84, 23, 0, []), 3), ((12, 0, 0, 0, []), 3)] 0 _ _ _ (by decide +kernel) ?_
    obtain ⟨⟨vq1, σq1⟩, hq1, h⟩ := px_bind h
    dsimp only at h
    refine Exists.intro 0 (Exists.intro vq1 (Exists.intro σq1 (And.intro (Nat.le_of_ble_eq_true rfl) (And.intro (ok_M_waitTop_84 hq1) ?_))))
    rcases px_ite h with ⟨c2, h⟩ | ⟨c2, h⟩
    · refine And.intro (fun hp => absurd c2 hp) (fun _ => ?_)
      obtain ⟨⟨vq3, σq3⟩, hq3, h⟩ := px_bind h
      dsimp only at h
      refine Exists.intro 0 (Exists.intro vq3 (Exists.intro σq3 (And.intro (Nat.le_of_ble_eq_true rfl) (And.intro (ok_M_notes_84 hq3) ?_))))
      exact ih  _ h
    · refine And.intro (fun _ => ?_) (fun hn => absurd c2 hn)
      refine H [((28, 0, 0, 0, []), 1)] 39 _ _ _ (by decide +kernel) ?_
      exact (Prod.mk.inj (Option.some.inj h)).2
theorem ok_M_endsPiece_84_w {l : Launch} {rv : Int} {rσ : pS} {G : Nat → pL → List pV → pS → Prop} (H : px_R l 1 159 rv rσ G) : ∀ (σ : pS), f_M_endsPiece_84  σ = some (rv, rσ) → G 0 [some (.inr 84)] [] σ := by
  intro  σ h
  unfold f_M_endsPiece_84 at h
  refine H [] 0 _ _ _ (by decide +kernel) ?_
  exact ok_M_endsPiece_84_p0 H _  _ h
theorem ok_M_endsPiece_84 {l : Launch} {σ : pS} {v : Int} {σ1 : pS} (h : f_M_endsPiece_84  σ = some (v, σ1)) : Con l 1 159 [.inr 84] σ v σ1 := Con_mk 1 1 rfl (by decide +kernel) (fun _ H => ok_M_endsPiece_84_w H  _ h)
theorem ok_M_readsCompared_84_p52 {l : Launch} {rv : Int} {rσ : pS} {G : Nat → pL → List pV → pS → Prop} (H : px_R l 5 158 rv rσ G) : ∀ (s0 : Int) (σ : pS), f_M_readsCompared_84_p52 s0 σ = some (rv, rσ) → G 52 [some (.inr 84), none] [.inl s0] σ := by
  intro s0 σ h
  unfold f_M_readsCompared_84_p52 at h
  refine H [((3, 1, 0, 0, []), 1), ((1, 1, 0, 0, []), 1), ((0, 0, 0, (-1), []), 1), ((13, 1, 68, 0, []), 3), ((2, 0, 0, 0, []), 1), ((0, 0, 0, 1, []), 1), ((2, 0, 0, 0, []), 1), ((16, 84, 19, 0, []), 3), ((23, 145, 2, 1, [(0, 84)]), 3), ((27, 1, 0, 0, []), 1)] 52 _ _ _ (by decide +kernel) ?_
  rcases px_ite h with ⟨c9, h⟩ | ⟨c9, h⟩
  · refine And.intro (fun hp => absurd c9 hp) (fun _ => ?_)
    obtain ⟨⟨vq14, σq14⟩, hq14, h⟩ := px_bind h
    dsimp only at h
    refine Exists.intro 0 (Exists.intro vq14 (Exists.intro σq14 (And.intro (Nat.le_of_ble_eq_true rfl) (And.intro (ok_M_wrongAt_84 hq14) ?_))))
    obtain ⟨g15, h⟩ := px_gd h
    refine And.intro g15 ?_
    exact Prod.mk.inj (Option.some.inj h)
  · refine And.intro (fun _ => ?_) (fun hn => absurd c9 hn)
    refine H [((2, 0, 0, 0, []), 1), ((2, 0, 0, 0, []), 1), ((16, 84, 19, 0, []), 3), ((0, 0, 0, 1, []), 1), ((6, 0, 0, 0, []), 1), ((18, 84, 19, 0, []), 3), ((2, 0, 0, 0, []), 1), ((23, 146, 0, 1, [(0, 84)]), 3), ((14, 1, 87, 0, []), 3), ((0, 0, 0, 0, []), 1), ((27, 1, 0, 0, []), 1)] 68 _ _ _ (by decide +kernel) ?_
    obtain ⟨⟨vq10, σq10⟩, hq10, h⟩ := px_bind h
    dsimp only at h
    refine Exists.intro 4 (Exists.intro vq10 (Exists.intro σq10 (And.intro (Nat.le_of_ble_eq_true rfl) (And.intro (ok_M_readsSum_84 hq10) ?_))))
    rcases px_ite h with ⟨c11, h⟩ | ⟨c11, h⟩
    · refine And.intro (fun hp => absurd c11 hp) (fun _ => ?_)
      refine And.intro (show (0 : Int) ≤ 0 ∧ (0 : Int) ≤ 1 from by decide) ?_
      exact Prod.mk.inj (Option.some.inj h)
    · refine And.intro (fun _ => ?_) (fun hn => absurd c11 hn)
      refine H [((2, 0, 0, 0, []), 1), ((1, 1, 0, 0, []), 1), ((0, 0, 0, 0, []), 1), ((23, 151, 2, 0, [(0, 84)]), 3), ((2, 0, 0, 0, []), 1), ((23, 159, 0, 0, [(0, 84)]), 3), ((0, 0, 0, 1, []), 1), ((27, 1, 0, 0, []), 1)] 87 _ _ _ (by decide +kernel) ?_
      obtain ⟨⟨vq12, σq12⟩, hq12, h⟩ := px_bind h
      dsimp only at h
      refine Exists.intro 0 (Exists.intro vq12 (Exists.intro σq12 (And.intro (Nat.le_of_ble_eq_true rfl) (And.intro (ok_M_notes_84 hq12) ?_))))
      obtain ⟨⟨vq13, σq13⟩, hq13, h⟩ := px_bind h
      dsimp only at h
      refine Exists.intro 1 (Exists.intro vq13 (Exists.intro σq13 (And.intro (Nat.le_of_ble_eq_true rfl) (And.intro (ok_M_endsPiece_84 hq13) ?_))))
      refine And.intro (show (0 : Int) ≤ 1 ∧ (1 : Int) ≤ 1 from by decide) ?_
      exact Prod.mk.inj (Option.some.inj h)
theorem ok_M_readsCompared_84_w {l : Launch} {rv : Int} {rσ : pS} {G : Nat → pL → List pV → pS → Prop} (H : px_R l 5 158 rv rσ G) : ∀ (σ : pS), f_M_readsCompared_84  σ = some (rv, rσ) → G 0 [some (.inr 84), none] [] σ := by
  intro  σ h
  unfold f_M_readsCompared_84 at h
  refine H [((2, 0, 0, 0, []), 1), ((23, 146, 0, 1, [(0, 84)]), 3), ((14, 1, 9, 0, []), 3), ((0, 0, 0, 0, []), 1), ((27, 1, 0, 0, []), 1)] 0 _ _ _ (by decide +kernel) ?_
  obtain ⟨⟨vq1, σq1⟩, hq1, h⟩ := px_bind h
  dsimp only at h
  refine Exists.intro 4 (Exists.intro vq1 (Exists.intro σq1 (And.intro (Nat.le_of_ble_eq_true rfl) (And.intro (ok_M_readsSum_84 hq1) ?_))))
  rcases px_ite h with ⟨c2, h⟩ | ⟨c2, h⟩
  · refine And.intro (fun hp => absurd c2 hp) (fun _ => ?_)
    refine And.intro (show (0 : Int) ≤ 0 ∧ (0 : Int) ≤ 1 from by decide) ?_
    exact Prod.mk.inj (Option.some.inj h)
  · refine And.intro (fun _ => ?_) (fun hn => absurd c2 hn)
    refine H [((2, 0, 0, 0, []), 1), ((23, 144, 0, 1, [(0, 84)]), 3), ((0, 0, 0, 60, []), 2), ((13, 1, 23, 0, []), 3), ((0, 0, 0, 7, []), 2), ((12, 0, 52, 0, []), 3)] 9 _ _ _ (by decide +kernel) ?_
    obtain ⟨⟨vq3, σq3⟩, hq3, h⟩ := px_bind h
    dsimp only at h
    refine Exists.intro 0 (Exists.intro vq3 (Exists.intro σq3 (And.intro (Nat.le_of_ble_eq_true rfl) (And.intro (ok_M_here_84 hq3) ?_))))
    rcases px_ite h with ⟨c4, h⟩ | ⟨c4, h⟩
    · refine And.intro (fun hp => absurd c4 hp) (fun _ => ?_)
      exact ok_M_readsCompared_84_p52 H _ _ h
    · refine And.intro (fun _ => ?_) (fun hn => absurd c4 hn)
      refine H [((2, 0, 0, 0, []), 1), ((23, 144, 0, 1, [(0, 84)]), 3), ((0, 0, 0, 62, []), 2), ((13, 1, 37, 0, []), 3), ((0, 0, 0, 8, []), 2), ((12, 0, 52, 0, []), 3)] 23 _ _ _ (by decide +kernel) ?_
      obtain ⟨⟨vq5, σq5⟩, hq5, h⟩ := px_bind h
      dsimp only at h
      refine Exists.intro 0 (Exists.intro vq5 (Exists.intro σq5 (And.intro (Nat.le_of_ble_eq_true rfl) (And.intro (ok_M_here_84 hq5) ?_))))
      rcases px_ite h with ⟨c6, h⟩ | ⟨c6, h⟩
      · refine And.intro (fun hp => absurd c6 hp) (fun _ => ?_)
        exact ok_M_readsCompared_84_p52 H _ _ h
      · refine And.intro (fun _ => ?_) (fun hn => absurd c6 hn)
        refine H [((2, 0, 0, 0, []), 1), ((23, 144, 0, 1, [(0, 84)]), 3), ((0, 0, 0, 61, []), 2), ((13, 1, 51, 0, []), 3), ((0, 0, 0, 9, []), 2), ((12, 0, 52, 0, []), 3)] 37 _ _ _ (by decide +kernel) ?_
        obtain ⟨⟨vq7, σq7⟩, hq7, h⟩ := px_bind h
        dsimp only at h
        refine Exists.intro 0 (Exists.intro vq7 (Exists.intro σq7 (And.intro (Nat.le_of_ble_eq_true rfl) (And.intro (ok_M_here_84 hq7) ?_))))
        rcases px_ite h with ⟨c8, h⟩ | ⟨c8, h⟩
        · refine And.intro (fun hp => absurd c8 hp) (fun _ => ?_)
          exact ok_M_readsCompared_84_p52 H _ _ h
        · refine And.intro (fun _ => ?_) (fun hn => absurd c8 hn)
          refine H [((0, 0, 0, (-1), []), 1)] 51 _ _ _ (by decide +kernel) ?_
          exact ok_M_readsCompared_84_p52 H _ _ h
theorem ok_M_readsCompared_84 {l : Launch} {σ : pS} {v : Int} {σ1 : pS} (h : f_M_readsCompared_84  σ = some (v, σ1)) : Con l 5 158 [.inr 84] σ v σ1 := Con_mk 1 2 rfl (by decide +kernel) (fun _ H => ok_M_readsCompared_84_w H  _ h)
theorem ok_M_lands_84_p22 {l : Launch} {rv : Int} {rσ : pS} {G : Nat → pL → List pV → pS → Prop} (H : px_R l 1 160 rv rσ G) {k_0 : Int → pS → Option (Int × pS)} (hk_0 : ∀ (a1 : Int) (σ : pS), k_0 a1 σ = some (rv, rσ) → G 0 [some (.inr 84), some (.inl a1), none] [] σ) : ∀ (a1 : Int) (σ : pS), f_M_lands_84_p22 k_0 a1 σ = some (rv, rσ) → G 22 [some (.inr 84), some (.inl a1), none] [] σ := by
  intro a1 σ h
  unfold f_M_lands_84_p22 at h
  refine H [((2, 0, 0, 0, []), 1), ((17, 84, 98, 0, []), 3), ((2, 0, 0, 0, []), 1), ((16, 84, 25, 0, []), 3), ((0, 0, 0, 1, []), 1), ((6, 1, 0, 0, []), 1), ((19, 98, 260, 0, []), 1), ((0, 0, 0, 1048576, []), 2), ((7, 1, 0, 0, []), 1), ((3, 2, 0, 0, []), 1), ((2, 0, 0, 0, []), 1), ((17, 84, 97, 0, []), 3), ((1, 2, 0, 0, []), 1), ((0, 0, 0, 1048576, []), 2), ((2, 0, 0, 0, []), 1), ((17, 84, 97, 0, []), 3), ((1, 2, 0, 0, []), 1), ((19, 97, 260, 0, []), 1), ((0, 0, 0, 1048576, []), 2), ((7, 0, 0, 0, []), 1), ((6, 2, 0, 0, []), 1), ((2, 0, 0, 0, []), 1), ((16, 84, 24, 0, []), 3), ((6, 0, 0, 0, []), 1), ((20, 97, 260, 0, []), 1), ((2, 0, 0, 0, []), 1), ((2, 0, 0, 0, []), 1), ((16, 84, 25, 0, []), 3), ((0, 0, 0, 1, []), 1), ((6, 1, 0, 0, []), 1), ((18, 84, 25, 0, []), 3), ((12, 0, 0, 0, []), 3), ((29, 2, 0, 0, []), 0)] 22 _ _ _ (by decide +kernel) ?_
  obtain ⟨g3, h⟩ := px_gd h
  refine And.intro g3 ?_
  refine And.intro (show (1048576 : Int) ≠ 0 from by decide) (fun r4 hr4 => ?_)
  replace hr4 : r4 = pRem (σ 98 (pw ((σ 84 25) - 1)).toNat) 1048576 := hr4.trans (px_dr_1 _ _)
  try rw [← hr4] at h
  obtain ⟨g5, h⟩ := px_gd h
  refine And.intro g5 ?_
  refine And.intro (show (1048576 : Int) ≠ 0 from by decide) (fun r6 hr6 => ?_)
  replace hr6 : r6 = pDiv (σ 97 r4.toNat) 1048576 := hr6.trans (px_dr_0 _ _)
  try rw [← hr6] at h
  obtain ⟨g7, h⟩ := px_gd h
  refine And.intro g7 ?_
  exact hk_0 _ _ h
theorem ok_M_lands_84_p0 {l : Launch} {rv : Int} {rσ : pS} {G : Nat → pL → List pV → pS → Prop} (H : px_R l 1 160 rv rσ G) : ∀ (n : Nat) (a1 : Int) (σ : pS), f_M_lands_84_p0 n a1 σ = some (rv, rσ) → G 0 [some (.inr 84), some (.inl a1), none] [] σ := by
  intro n
  induction n with
  | zero =>
    intro a1 σ h
    unfold f_M_lands_84_p0 at h
    cases h
  | succ n ih =>
    intro a1 σ h
    unfold f_M_lands_84_p0 at h
    refine H [((2, 0, 0, 0, []), 1), ((23, 155, 0, 1, [(0, 84)]), 3), ((0, 0, 0, 11, []), 2), ((13, 0, 22, 0, []), 3), ((1, 1, 0, 0, []), 1), ((14, 0, 73, 0, []), 3), ((2, 0, 0, 0, []), 1), ((23, 155, 0, 1, [(0, 84)]), 3), ((0, 0, 0, 12, []), 2), ((13, 1, 73, 0, []), 3)] 0 _ _ _ (by decide +kernel) ?_
    obtain ⟨⟨vq1, σq1⟩, hq1, h⟩ := px_bind h
    dsimp only at h
    refine Exists.intro 0 (Exists.intro vq1 (Exists.intro σq1 (And.intro (Nat.le_of_ble_eq_true rfl) (And.intro (ok_M_waitTop_84 hq1) ?_))))
    rcases px_ite h with ⟨c2, h⟩ | ⟨c2, h⟩
    · refine And.intro (fun _ => ?_) (fun hn => absurd c2 hn)
      exact ok_M_lands_84_p22 H ih _ _ h
    · refine And.intro (fun hp => absurd hp c2) (fun _ => ?_)
      rcases px_ite h with ⟨c8, h⟩ | ⟨c8, h⟩
      · refine And.intro (fun _ => ?_) (fun hn => absurd c8 hn)
        refine H [((28, 0, 0, 0, []), 1)] 73 _ _ _ (by decide +kernel) ?_
        exact (Prod.mk.inj (Option.some.inj h)).2
      · refine And.intro (fun hp => absurd hp c8) (fun _ => ?_)
        obtain ⟨⟨vq9, σq9⟩, hq9, h⟩ := px_bind h
        dsimp only at h
        refine Exists.intro 0 (Exists.intro vq9 (Exists.intro σq9 (And.intro (Nat.le_of_ble_eq_true rfl) (And.intro (ok_M_waitTop_84 hq9) ?_))))
        rcases px_ite h with ⟨c10, h⟩ | ⟨c10, h⟩
        · refine And.intro (fun hp => absurd c10 hp) (fun _ => ?_)
          exact ok_M_lands_84_p22 H ih _ _ h
        · refine And.intro (fun _ => ?_) (fun hn => absurd c10 hn)
          refine H [((28, 0, 0, 0, []), 1)] 73 _ _ _ (by decide +kernel) ?_
          exact (Prod.mk.inj (Option.some.inj h)).2
theorem ok_M_lands_84_w {l : Launch} {rv : Int} {rσ : pS} {G : Nat → pL → List pV → pS → Prop} (H : px_R l 1 160 rv rσ G) : ∀ (a1 : Int) (σ : pS), f_M_lands_84 a1 σ = some (rv, rσ) → G 0 [some (.inr 84), some (.inl a1), none] [] σ := by
  intro a1 σ h
  unfold f_M_lands_84 at h
  refine H [] 0 _ _ _ (by decide +kernel) ?_
  exact ok_M_lands_84_p0 H _ _ _ h
theorem ok_M_lands_84 {l : Launch} {a1 : Int} {σ : pS} {v : Int} {σ1 : pS} (h : f_M_lands_84 a1 σ = some (v, σ1)) : Con l 1 160 [.inr 84, .inl a1] σ v σ1 := Con_mk 2 3 rfl (by decide +kernel) (fun _ H => ok_M_lands_84_w H _ _ h)
theorem ok_M_jumps_84_w {l : Launch} {rv : Int} {rσ : pS} {G : Nat → pL → List pV → pS → Prop} (H : px_R l 1 161 rv rσ G) : ∀ (a1 : Int) (σ : pS), f_M_jumps_84 a1 σ = some (rv, rσ) → G 0 [some (.inr 84), some (.inl a1)] [] σ := by
  intro a1 σ h
  unfold f_M_jumps_84 at h
  refine H [((2, 0, 0, 0, []), 1), ((17, 84, 98, 0, []), 3), ((2, 0, 0, 0, []), 1), ((16, 84, 25, 0, []), 3), ((0, 0, 0, 1048576, []), 2), ((1, 1, 0, 0, []), 1), ((6, 2, 0, 0, []), 1), ((2, 0, 0, 0, []), 1), ((16, 84, 24, 0, []), 3), ((6, 0, 0, 0, []), 1), ((20, 98, 260, 0, []), 1), ((2, 0, 0, 0, []), 1), ((2, 0, 0, 0, []), 1), ((16, 84, 25, 0, []), 3), ((0, 0, 0, 1, []), 1), ((6, 0, 0, 0, []), 1), ((18, 84, 25, 0, []), 3), ((2, 0, 0, 0, []), 1), ((1, 1, 0, 0, []), 1), ((0, 0, 0, 0, []), 1), ((23, 151, 2, 0, [(0, 84)]), 3), ((2, 0, 0, 0, []), 1), ((2, 0, 0, 0, []), 1), ((16, 84, 19, 0, []), 3), ((0, 0, 0, 1, []), 1), ((6, 0, 0, 0, []), 1), ((18, 84, 19, 0, []), 3), ((28, 0, 0, 0, []), 1)] 0 _ _ _ (by decide +kernel) ?_
  obtain ⟨g1, h⟩ := px_gd h
  refine And.intro g1 ?_
  obtain ⟨⟨vq2, σq2⟩, hq2, h⟩ := px_bind h
  dsimp only at h
  refine Exists.intro 0 (Exists.intro vq2 (Exists.intro σq2 (And.intro (Nat.le_of_ble_eq_true rfl) (And.intro (ok_M_notes_84 hq2) ?_))))
  exact (Prod.mk.inj (Option.some.inj h)).2
theorem ok_M_jumps_84 {l : Launch} {a1 : Int} {σ : pS} {v : Int} {σ1 : pS} (h : f_M_jumps_84 a1 σ = some (v, σ1)) : Con l 1 161 [.inr 84, .inl a1] σ v σ1 := Con_mk 2 2 rfl (by decide +kernel) (fun _ H => ok_M_jumps_84_w H _ _ h)
theorem ok_M_readsCondition_84_p75 {l : Launch} {rv : Int} {rσ : pS} {G : Nat → pL → List pV → pS → Prop} (H : px_R l 6 157 rv rσ G) {k_40 : pS → Option (Int × pS)} (hk_40 : ∀ (σ : pS), k_40  σ = some (rv, rσ) → G 40 [some (.inr 84)] [] σ) : ∀ (s0 : Int) (σ : pS), f_M_readsCondition_84_p75 k_40 s0 σ = some (rv, rσ) → G 75 [some (.inr 84)] [.inl s0, .inr 84] σ := by
  intro s0 σ h
  unfold f_M_readsCondition_84_p75 at h
  refine H [((23, 148, 1, 1, [(0, 84)]), 3), ((14, 1, 40, 0, []), 3), ((0, 0, 0, 0, []), 1), ((27, 1, 0, 0, []), 1)] 75 _ _ _ (by decide +kernel) ?_
  obtain ⟨⟨vq9, σq9⟩, hq9, h⟩ := px_bind h
  dsimp only at h
  refine Exists.intro 1 (Exists.intro vq9 (Exists.intro σq9 (And.intro (Nat.le_of_ble_eq_true rfl) (And.intro (ok_M_opens_84 hq9) ?_))))
  rcases px_ite h with ⟨c10, h⟩ | ⟨c10, h⟩
  · refine And.intro (fun hp => absurd c10 hp) (fun _ => ?_)
    refine And.intro (show (0 : Int) ≤ 0 ∧ (0 : Int) ≤ 1 from by decide) ?_
    exact Prod.mk.inj (Option.some.inj h)
  · refine And.intro (fun _ => ?_) (fun hn => absurd c10 hn)
    exact hk_40  _ h
theorem ok_M_readsCondition_84_p58 {l : Launch} {rv : Int} {rσ : pS} {G : Nat → pL → List pV → pS → Prop} (H : px_R l 6 157 rv rσ G) {k_40 : pS → Option (Int × pS)} (hk_40 : ∀ (σ : pS), k_40  σ = some (rv, rσ) → G 40 [some (.inr 84)] [] σ) : ∀ (σ : pS), f_M_readsCondition_84_p58 k_40  σ = some (rv, rσ) → G 58 [some (.inr 84)] [] σ := by
  intro  σ h
  unfold f_M_readsCondition_84_p58 at h
  refine H [((2, 0, 0, 0, []), 1), ((2, 0, 0, 0, []), 1), ((23, 144, 0, 1, [(0, 84)]), 3), ((0, 0, 0, 33, []), 2), ((13, 1, 73, 0, []), 3), ((0, 0, 0, 10, []), 2), ((12, 0, 75, 0, []), 3)] 58 _ _ _ (by decide +kernel) ?_
  obtain ⟨⟨vq7, σq7⟩, hq7, h⟩ := px_bind h
  dsimp only at h
  refine Exists.intro 0 (Exists.intro vq7 (Exists.intro σq7 (And.intro (Nat.le_of_ble_eq_true rfl) (And.intro (ok_M_here_84 hq7) ?_))))
  rcases px_ite h with ⟨c8, h⟩ | ⟨c8, h⟩
  · refine And.intro (fun hp => absurd c8 hp) (fun _ => ?_)
    exact ok_M_readsCondition_84_p75 H hk_40 _ _ h
  · refine And.intro (fun _ => ?_) (fun hn => absurd c8 hn)
    refine H [((0, 0, 0, 13, []), 2)] 73 _ _ _ (by decide +kernel) ?_
    exact ok_M_readsCondition_84_p75 H hk_40 _ _ h
theorem ok_M_readsCondition_84_p215 {l : Launch} {rv : Int} {rσ : pS} {G : Nat → pL → List pV → pS → Prop} (H : px_R l 6 157 rv rσ G) {k_40 : pS → Option (Int × pS)} (hk_40 : ∀ (σ : pS), k_40  σ = some (rv, rσ) → G 40 [some (.inr 84)] [] σ) : ∀ (s0 : Int) (σ : pS), f_M_readsCondition_84_p215 k_40 s0 σ = some (rv, rσ) → G 215 [some (.inr 84)] [.inl s0, .inr 84] σ := by
  intro s0 σ h
  unfold f_M_readsCondition_84_p215 at h
  refine H [((23, 161, 1, 0, [(0, 84)]), 3), ((12, 0, 40, 0, []), 3)] 215 _ _ _ (by decide +kernel) ?_
  obtain ⟨⟨vq24, σq24⟩, hq24, h⟩ := px_bind h
  dsimp only at h
  refine Exists.intro 1 (Exists.intro vq24 (Exists.intro σq24 (And.intro (Nat.le_of_ble_eq_true rfl) (And.intro (ok_M_jumps_84 hq24) ?_))))
  exact hk_40  _ h
theorem ok_M_readsCondition_84_p195 {l : Launch} {rv : Int} {rσ : pS} {G : Nat → pL → List pV → pS → Prop} (H : px_R l 6 157 rv rσ G) {k_40 : pS → Option (Int × pS)} (hk_40 : ∀ (σ : pS), k_40  σ = some (rv, rσ) → G 40 [some (.inr 84)] [] σ) : ∀ (s0 : Int) (σ : pS), f_M_readsCondition_84_p195 k_40 s0 σ = some (rv, rσ) → G 195 [some (.inr 84)] [.inl s0, .inr 84] σ := by
  intro s0 σ h
  unfold f_M_readsCondition_84_p195 at h
  refine H [((23, 160, 1, 0, [(0, 84)]), 3), ((2, 0, 0, 0, []), 1), ((2, 0, 0, 0, []), 1), ((23, 144, 0, 1, [(0, 84)]), 3), ((0, 0, 0, 38, []), 2), ((13, 1, 213, 0, []), 3), ((0, 0, 0, 11, []), 2), ((12, 0, 215, 0, []), 3)] 195 _ _ _ (by decide +kernel) ?_
  obtain ⟨⟨vq21, σq21⟩, hq21, h⟩ := px_bind h
  dsimp only at h
  refine Exists.intro 1 (Exists.intro vq21 (Exists.intro σq21 (And.intro (Nat.le_of_ble_eq_true rfl) (And.intro (ok_M_lands_84 hq21) ?_))))
  obtain ⟨⟨vq22, σq22⟩, hq22, h⟩ := px_bind h
  dsimp only at h
  refine Exists.intro 0 (Exists.intro vq22 (Exists.intro σq22 (And.intro (Nat.le_of_ble_eq_true rfl) (And.intro (ok_M_here_84 hq22) ?_))))
  rcases px_ite h with ⟨c23, h⟩ | ⟨c23, h⟩
  · refine And.intro (fun hp => absurd c23 hp) (fun _ => ?_)
    exact ok_M_readsCondition_84_p215 H hk_40 _ _ h
  · refine And.intro (fun _ => ?_) (fun hn => absurd c23 hn)
    refine H [((0, 0, 0, 12, []), 2)] 213 _ _ _ (by decide +kernel) ?_
    exact ok_M_readsCondition_84_p215 H hk_40 _ _ h
theorem ok_M_readsCondition_84_p180 {l : Launch} {rv : Int} {rσ : pS} {G : Nat → pL → List pV → pS → Prop} (H : px_R l 6 157 rv rσ G) {k_40 : pS → Option (Int × pS)} (hk_40 : ∀ (σ : pS), k_40  σ = some (rv, rσ) → G 40 [some (.inr 84)] [] σ) : ∀ (σ : pS), f_M_readsCondition_84_p180 k_40  σ = some (rv, rσ) → G 180 [some (.inr 84)] [] σ := by
  intro  σ h
  unfold f_M_readsCondition_84_p180 at h
  refine H [((2, 0, 0, 0, []), 1), ((2, 0, 0, 0, []), 1), ((23, 144, 0, 1, [(0, 84)]), 3), ((0, 0, 0, 124, []), 2), ((13, 1, 194, 0, []), 3), ((0, 0, 0, 1, []), 1), ((12, 0, 195, 0, []), 3)] 180 _ _ _ (by decide +kernel) ?_
  obtain ⟨⟨vq19, σq19⟩, hq19, h⟩ := px_bind h
  dsimp only at h
  refine Exists.intro 0 (Exists.intro vq19 (Exists.intro σq19 (And.intro (Nat.le_of_ble_eq_true rfl) (And.intro (ok_M_here_84 hq19) ?_))))
  rcases px_ite h with ⟨c20, h⟩ | ⟨c20, h⟩
  · refine And.intro (fun hp => absurd c20 hp) (fun _ => ?_)
    exact ok_M_readsCondition_84_p195 H hk_40 _ _ h
  · refine And.intro (fun _ => ?_) (fun hn => absurd c20 hn)
    refine H [((0, 0, 0, 0, []), 1)] 194 _ _ _ (by decide +kernel) ?_
    exact ok_M_readsCondition_84_p195 H hk_40 _ _ h
theorem ok_M_readsCondition_84_p92 {l : Launch} {rv : Int} {rσ : pS} {G : Nat → pL → List pV → pS → Prop} (H : px_R l 6 157 rv rσ G) {k_40 : pS → Option (Int × pS)} (hk_40 : ∀ (σ : pS), k_40  σ = some (rv, rσ) → G 40 [some (.inr 84)] [] σ) : ∀ (n : Nat) (σ : pS), f_M_readsCondition_84_p92 k_40 n  σ = some (rv, rσ) → G 92 [some (.inr 84)] [] σ := by
  intro n
  induction n with
  | zero =>
    intro  σ h
    unfold f_M_readsCondition_84_p92 at h
    cases h
  | succ n ih =>
    intro  σ h
    unfold f_M_readsCondition_84_p92 at h
    refine H [((2, 0, 0, 0, []), 1), ((23, 144, 0, 1, [(0, 84)]), 3), ((0, 0, 0, 41, []), 2), ((13, 1, 152, 0, []), 3), ((2, 0, 0, 0, []), 1), ((0, 0, 0, 1, []), 1), ((23, 160, 1, 0, [(0, 84)]), 3), ((2, 0, 0, 0, []), 1), ((2, 0, 0, 0, []), 1), ((16, 84, 25, 0, []), 3), ((0, 0, 0, 1, []), 1), ((6, 1, 0, 0, []), 1), ((18, 84, 25, 0, []), 3), ((2, 0, 0, 0, []), 1), ((2, 0, 0, 0, []), 1), ((16, 84, 23, 0, []), 3), ((0, 0, 0, 1, []), 1), ((6, 1, 0, 0, []), 1), ((18, 84, 23, 0, []), 3), ((2, 0, 0, 0, []), 1), ((2, 0, 0, 0, []), 1), ((16, 84, 19, 0, []), 3), ((0, 0, 0, 1, []), 1), ((6, 0, 0, 0, []), 1), ((18, 84, 19, 0, []), 3), ((2, 0, 0, 0, []), 1), ((16, 84, 25, 0, []), 3), ((14, 1, 145, 0, []), 3), ((0, 0, 0, 1, []), 1), ((27, 1, 0, 0, []), 1)] 92 _ _ _ (by decide +kernel) ?_
    obtain ⟨⟨vq15, σq15⟩, hq15, h⟩ := px_bind h
    dsimp only at h
    refine Exists.intro 0 (Exists.intro vq15 (Exists.intro σq15 (And.intro (Nat.le_of_ble_eq_true rfl) (And.intro (ok_M_here_84 hq15) ?_))))
    rcases px_ite h with ⟨c16, h⟩ | ⟨c16, h⟩
    · refine And.intro (fun hp => absurd c16 hp) (fun _ => ?_)
      obtain ⟨⟨vq29, σq29⟩, hq29, h⟩ := px_bind h
      dsimp only at h
      refine Exists.intro 1 (Exists.intro vq29 (Exists.intro σq29 (And.intro (Nat.le_of_ble_eq_true rfl) (And.intro (ok_M_lands_84 hq29) ?_))))
      rcases px_ite h with ⟨c30, h⟩ | ⟨c30, h⟩
      · refine And.intro (fun hp => absurd c30 hp) (fun _ => ?_)
        refine And.intro (show (0 : Int) ≤ 1 ∧ (1 : Int) ≤ 1 from by decide) ?_
        exact Prod.mk.inj (Option.some.inj h)
      · refine And.intro (fun _ => ?_) (fun hn => absurd c30 hn)
        refine H [((2, 0, 0, 0, []), 1), ((23, 159, 0, 0, [(0, 84)]), 3), ((12, 0, 92, 0, []), 3)] 145 _ _ _ (by decide +kernel) ?_
        obtain ⟨⟨vq31, σq31⟩, hq31, h⟩ := px_bind h
        dsimp only at h
        refine Exists.intro 1 (Exists.intro vq31 (Exists.intro σq31 (And.intro (Nat.le_of_ble_eq_true rfl) (And.intro (ok_M_endsPiece_84 hq31) ?_))))
        exact ih  _ h
    · refine And.intro (fun _ => ?_) (fun hn => absurd c16 hn)
      refine H [((2, 0, 0, 0, []), 1), ((23, 144, 0, 1, [(0, 84)]), 3), ((0, 0, 0, 38, []), 2), ((13, 0, 180, 0, []), 3), ((2, 0, 0, 0, []), 1), ((23, 144, 0, 1, [(0, 84)]), 3), ((0, 0, 0, 124, []), 2), ((13, 0, 180, 0, []), 3), ((2, 0, 0, 0, []), 1), ((0, 0, 0, 1, []), 1), ((2, 0, 0, 0, []), 1), ((16, 84, 19, 0, []), 3), ((23, 145, 2, 1, [(0, 84)]), 3), ((27, 1, 0, 0, []), 1)] 152 _ _ _ (by decide +kernel) ?_
      obtain ⟨⟨vq17, σq17⟩, hq17, h⟩ := px_bind h
      dsimp only at h
      refine Exists.intro 0 (Exists.intro vq17 (Exists.intro σq17 (And.intro (Nat.le_of_ble_eq_true rfl) (And.intro (ok_M_here_84 hq17) ?_))))
      rcases px_ite h with ⟨c18, h⟩ | ⟨c18, h⟩
      · refine And.intro (fun _ => ?_) (fun hn => absurd c18 hn)
        exact ok_M_readsCondition_84_p180 H hk_40  _ h
      · refine And.intro (fun hp => absurd hp c18) (fun _ => ?_)
        obtain ⟨⟨vq25, σq25⟩, hq25, h⟩ := px_bind h
        dsimp only at h
        refine Exists.intro 0 (Exists.intro vq25 (Exists.intro σq25 (And.intro (Nat.le_of_ble_eq_true rfl) (And.intro (ok_M_here_84 hq25) ?_))))
        rcases px_ite h with ⟨c26, h⟩ | ⟨c26, h⟩
        · refine And.intro (fun _ => ?_) (fun hn => absurd c26 hn)
          exact ok_M_readsCondition_84_p180 H hk_40  _ h
        · refine And.intro (fun hp => absurd hp c26) (fun _ => ?_)
          obtain ⟨⟨vq27, σq27⟩, hq27, h⟩ := px_bind h
          dsimp only at h
          refine Exists.intro 0 (Exists.intro vq27 (Exists.intro σq27 (And.intro (Nat.le_of_ble_eq_true rfl) (And.intro (ok_M_wrongAt_84 hq27) ?_))))
          obtain ⟨g28, h⟩ := px_gd h
          refine And.intro g28 ?_
          exact Prod.mk.inj (Option.some.inj h)
theorem ok_M_readsCondition_84_p40 {l : Launch} {rv : Int} {rσ : pS} {G : Nat → pL → List pV → pS → Prop} (H : px_R l 6 157 rv rσ G) : ∀ (n : Nat) (σ : pS), f_M_readsCondition_84_p40 n  σ = some (rv, rσ) → G 40 [some (.inr 84)] [] σ := by
  intro n
  induction n with
  | zero =>
    intro  σ h
    unfold f_M_readsCondition_84_p40 at h
    cases h
  | succ n ih =>
    intro  σ h
    unfold f_M_readsCondition_84_p40 at h
    refine H [((2, 0, 0, 0, []), 1), ((23, 144, 0, 1, [(0, 84)]), 3), ((0, 0, 0, 33, []), 2), ((13, 0, 58, 0, []), 3), ((2, 0, 0, 0, []), 1), ((23, 144, 0, 1, [(0, 84)]), 3), ((0, 0, 0, 40, []), 2), ((13, 1, 83, 0, []), 3)] 40 _ _ _ (by decide +kernel) ?_
    obtain ⟨⟨vq5, σq5⟩, hq5, h⟩ := px_bind h
    dsimp only at h
    refine Exists.intro 0 (Exists.intro vq5 (Exists.intro σq5 (And.intro (Nat.le_of_ble_eq_true rfl) (And.intro (ok_M_here_84 hq5) ?_))))
    rcases px_ite h with ⟨c6, h⟩ | ⟨c6, h⟩
    · refine And.intro (fun _ => ?_) (fun hn => absurd c6 hn)
      exact ok_M_readsCondition_84_p58 H ih  _ h
    · refine And.intro (fun hp => absurd hp c6) (fun _ => ?_)
      obtain ⟨⟨vq11, σq11⟩, hq11, h⟩ := px_bind h
      dsimp only at h
      refine Exists.intro 0 (Exists.intro vq11 (Exists.intro σq11 (And.intro (Nat.le_of_ble_eq_true rfl) (And.intro (ok_M_here_84 hq11) ?_))))
      rcases px_ite h with ⟨c12, h⟩ | ⟨c12, h⟩
      · refine And.intro (fun hp => absurd c12 hp) (fun _ => ?_)
        exact ok_M_readsCondition_84_p58 H ih  _ h
      · refine And.intro (fun _ => ?_) (fun hn => absurd c12 hn)
        refine H [((2, 0, 0, 0, []), 1), ((23, 158, 0, 1, [(0, 84)]), 3), ((14, 1, 92, 0, []), 3), ((0, 0, 0, 0, []), 1), ((27, 1, 0, 0, []), 1)] 83 _ _ _ (by decide +kernel) ?_
        obtain ⟨⟨vq13, σq13⟩, hq13, h⟩ := px_bind h
        dsimp only at h
        refine Exists.intro 5 (Exists.intro vq13 (Exists.intro σq13 (And.intro (Nat.le_of_ble_eq_true rfl) (And.intro (ok_M_readsCompared_84 hq13) ?_))))
        rcases px_ite h with ⟨c14, h⟩ | ⟨c14, h⟩
        · refine And.intro (fun hp => absurd c14 hp) (fun _ => ?_)
          refine And.intro (show (0 : Int) ≤ 0 ∧ (0 : Int) ≤ 1 from by decide) ?_
          exact Prod.mk.inj (Option.some.inj h)
        · refine And.intro (fun _ => ?_) (fun hn => absurd c14 hn)
          exact ok_M_readsCondition_84_p92 H ih _  _ h
theorem ok_M_readsCondition_84_w {l : Launch} {rv : Int} {rσ : pS} {G : Nat → pL → List pV → pS → Prop} (H : px_R l 6 157 rv rσ G) : ∀ (σ : pS), f_M_readsCondition_84  σ = some (rv, rσ) → G 0 [some (.inr 84)] [] σ := by
  intro  σ h
  unfold f_M_readsCondition_84 at h
  refine H [((2, 0, 0, 0, []), 1), ((23, 144, 0, 1, [(0, 84)]), 3), ((0, 0, 0, 40, []), 2), ((13, 0, 19, 0, []), 3), ((2, 0, 0, 0, []), 1), ((0, 0, 0, 1, []), 1), ((2, 0, 0, 0, []), 1), ((16, 84, 19, 0, []), 3), ((23, 145, 2, 1, [(0, 84)]), 3), ((27, 1, 0, 0, []), 1)] 0 _ _ _ (by decide +kernel) ?_
  obtain ⟨⟨vq1, σq1⟩, hq1, h⟩ := px_bind h
  dsimp only at h
  refine Exists.intro 0 (Exists.intro vq1 (Exists.intro σq1 (And.intro (Nat.le_of_ble_eq_true rfl) (And.intro (ok_M_here_84 hq1) ?_))))
  rcases px_ite h with ⟨c2, h⟩ | ⟨c2, h⟩
  · refine And.intro (fun _ => ?_) (fun hn => absurd c2 hn)
    refine H [((2, 0, 0, 0, []), 1), ((0, 0, 0, 0, []), 1), ((18, 84, 23, 0, []), 3), ((2, 0, 0, 0, []), 1), ((0, 0, 0, 0, []), 1), ((18, 84, 25, 0, []), 3), ((2, 0, 0, 0, []), 1), ((0, 0, 0, 13, []), 2), ((23, 148, 1, 1, [(0, 84)]), 3), ((14, 1, 40, 0, []), 3), ((0, 0, 0, 0, []), 1), ((27, 1, 0, 0, []), 1)] 19 _ _ _ (by decide +kernel) ?_
    obtain ⟨⟨vq3, σq3⟩, hq3, h⟩ := px_bind h
    dsimp only at h
    refine Exists.intro 1 (Exists.intro vq3 (Exists.intro σq3 (And.intro (Nat.le_of_ble_eq_true rfl) (And.intro (ok_M_opens_84 hq3) ?_))))
    rcases px_ite h with ⟨c4, h⟩ | ⟨c4, h⟩
    · refine And.intro (fun hp => absurd c4 hp) (fun _ => ?_)
      refine And.intro (show (0 : Int) ≤ 0 ∧ (0 : Int) ≤ 1 from by decide) ?_
      exact Prod.mk.inj (Option.some.inj h)
    · refine And.intro (fun _ => ?_) (fun hn => absurd c4 hn)
      exact ok_M_readsCondition_84_p40 H _  _ h
  · refine And.intro (fun hp => absurd hp c2) (fun _ => ?_)
    obtain ⟨⟨vq32, σq32⟩, hq32, h⟩ := px_bind h
    dsimp only at h
    refine Exists.intro 0 (Exists.intro vq32 (Exists.intro σq32 (And.intro (Nat.le_of_ble_eq_true rfl) (And.intro (ok_M_wrongAt_84 hq32) ?_))))
    obtain ⟨g33, h⟩ := px_gd h
    refine And.intro g33 ?_
    exact Prod.mk.inj (Option.some.inj h)
theorem ok_M_readsCondition_84 {l : Launch} {σ : pS} {v : Int} {σ1 : pS} (h : f_M_readsCondition_84  σ = some (v, σ1)) : Con l 6 157 [.inr 84] σ v σ1 := Con_mk 1 1 rfl (by decide +kernel) (fun _ H => ok_M_readsCondition_84_w H  _ h)
