theorem ok_X_register_0_w {l : Launch} {rv : Int} {rσ : pS} {G : Nat → pL → List pV → pS → Prop} (H : px_R l 0 10 rv rσ G) : ∀ (a1 a2 : Int) (σ : pS), f_X_register_0 a1 a2 σ = some (rv, rσ) → G 0 [some (.inr 0), some (.inl a1), some (.inl a2)] [] σ := by
  intro a1 a2 σ h
  unfold f_X_register_0 at h
  refine H [((1, 1, 0, 0, []), 1), ((14, 2, 10, 0, []), 3), ((1, 1, 0, 0, []), 1), ((0, 0, 0, 8, []), 2), ((13, 2, 12, 0, []), 3), ((0, 0, 0, 0, []), 1), ((27, 1, 0, 0, []), 1)] 0 _ _ _ (by decide +kernel) ?_
  rcases px_ite h with ⟨c1, h⟩ | ⟨c1, h⟩
  · refine And.intro (fun _ => ?_) (fun hn => absurd c1 hn)
    refine H [((0, 0, 0, 0, []), 1), ((27, 1, 0, 0, []), 1)] 10 _ _ _ (by decide +kernel) ?_
    refine And.intro (show (0 : Int) ≤ 0 ∧ (0 : Int) ≤ 1 from by decide) ?_
    exact Prod.mk.inj (Option.some.inj h)
  · refine And.intro (fun hp => absurd hp c1) (fun _ => ?_)
    rcases px_ite h with ⟨c2, h⟩ | ⟨c2, h⟩
    · refine And.intro (fun _ => ?_) (fun hn => absurd c2 hn)
      refine H [((2, 0, 0, 0, []), 1), ((17, 0, 3, 0, []), 3), ((17, 3, 24, 0, []), 3), ((17, 24, 25, 0, []), 3), ((1, 1, 0, 0, []), 1), ((1, 2, 0, 0, []), 1), ((20, 25, 8, 0, []), 1), ((0, 0, 0, 1, []), 1), ((27, 1, 0, 0, []), 1)] 12 _ _ _ (by decide +kernel) ?_
      obtain ⟨g3, h⟩ := px_gd h
      refine And.intro g3 ?_
      refine And.intro (show (0 : Int) ≤ 1 ∧ (1 : Int) ≤ 1 from by decide) ?_
      exact Prod.mk.inj (Option.some.inj h)
    · refine And.intro (fun hp => absurd hp c2) (fun _ => ?_)
      refine And.intro (show (0 : Int) ≤ 0 ∧ (0 : Int) ≤ 1 from by decide) ?_
      exact Prod.mk.inj (Option.some.inj h)
theorem ok_X_register_0 {l : Launch} {a1 a2 : Int} {σ : pS} {v : Int} {σ1 : pS} (h : f_X_register_0 a1 a2 σ = some (v, σ1)) : Con l 0 10 [.inr 0, .inl a1, .inl a2] σ v σ1 := Con_mk 3 3 rfl (by decide +kernel) (fun _ H => ok_X_register_0_w H _ _ _ h)
theorem ok_M_register_84_w {l : Launch} {rv : Int} {rσ : pS} {G : Nat → pL → List pV → pS → Prop} (H : px_R l 1 136 rv rσ G) : ∀ (a1 a2 : Int) (σ : pS), f_M_register_84 a1 a2 σ = some (rv, rσ) → G 0 [some (.inr 84), some (.inl a1), some (.inl a2)] [] σ := by
  intro a1 a2 σ h
  unfold f_M_register_84 at h
  refine H [((1, 1, 0, 0, []), 1), ((0, 0, 0, 0, []), 1), ((0, 0, 0, 7, []), 2), ((24, 137, 3, 1, []), 3), ((14, 1, 12, 0, []), 3), ((0, 0, 0, 0, []), 1), ((27, 1, 0, 0, []), 1)] 0 _ _ _ (by decide +kernel) ?_
  obtain ⟨⟨vq1, σq1⟩, hq1, h⟩ := px_bind h
  dsimp only at h
  refine Exists.intro 0 (Exists.intro vq1 (Exists.intro σq1 (And.intro (Nat.le_of_ble_eq_true rfl) (And.intro (ok_M_in hq1) ?_))))
  rcases px_ite h with ⟨c2, h⟩ | ⟨c2, h⟩
  · refine And.intro (fun hp => absurd c2 hp) (fun _ => ?_)
    refine And.intro (show (0 : Int) ≤ 0 ∧ (0 : Int) ≤ 1 from by decide) ?_
    exact Prod.mk.inj (Option.some.inj h)
  · refine And.intro (fun _ => ?_) (fun hn => absurd c2 hn)
    refine H [((2, 0, 0, 0, []), 1), ((17, 84, 85, 0, []), 3), ((1, 1, 0, 0, []), 1), ((1, 2, 0, 0, []), 1), ((20, 85, 8, 0, []), 1), ((0, 0, 0, 1, []), 1), ((27, 1, 0, 0, []), 1)] 12 _ _ _ (by decide +kernel) ?_
    obtain ⟨g3, h⟩ := px_gd h
    refine And.intro g3 ?_
    refine And.intro (show (0 : Int) ≤ 1 ∧ (1 : Int) ≤ 1 from by decide) ?_
    exact Prod.mk.inj (Option.some.inj h)
theorem ok_M_register_84 {l : Launch} {a1 a2 : Int} {σ : pS} {v : Int} {σ1 : pS} (h : f_M_register_84 a1 a2 σ = some (v, σ1)) : Con l 1 136 [.inr 84, .inl a1, .inl a2] σ v σ1 := Con_mk 3 3 rfl (by decide +kernel) (fun _ H => ok_M_register_84_w H _ _ _ h)
theorem ok_X_poke_0_w {l : Launch} {rv : Int} {rσ : pS} {G : Nat → pL → List pV → pS → Prop} (H : px_R l 0 11 rv rσ G) : ∀ (a1 a2 : Int) (σ : pS), f_X_poke_0 a1 a2 σ = some (rv, rσ) → G 0 [some (.inr 0), some (.inl a1), some (.inl a2)] [] σ := by
  intro a1 a2 σ h
  unfold f_X_poke_0 at h
  refine H [((1, 1, 0, 0, []), 1), ((14, 2, 21, 0, []), 3), ((1, 1, 0, 0, []), 1), ((0, 0, 0, 64, []), 2), ((13, 3, 21, 0, []), 3), ((1, 2, 0, 0, []), 1), ((14, 2, 21, 0, []), 3), ((1, 2, 0, 0, []), 1), ((0, 0, 0, 255, []), 3), ((13, 5, 23, 0, []), 3), ((0, 0, 0, 0, []), 1), ((27, 1, 0, 0, []), 1)] 0 _ _ _ (by decide +kernel) ?_
  rcases px_ite h with ⟨c1, h⟩ | ⟨c1, h⟩
  · refine And.intro (fun _ => ?_) (fun hn => absurd c1 hn)
    refine H [((0, 0, 0, 0, []), 1), ((27, 1, 0, 0, []), 1)] 21 _ _ _ (by decide +kernel) ?_
    refine And.intro (show (0 : Int) ≤ 0 ∧ (0 : Int) ≤ 1 from by decide) ?_
    exact Prod.mk.inj (Option.some.inj h)
  · refine And.intro (fun hp => absurd hp c1) (fun _ => ?_)
    rcases px_ite h with ⟨c2, h⟩ | ⟨c2, h⟩
    · refine And.intro (fun _ => ?_) (fun hn => absurd c2 hn)
      refine H [((0, 0, 0, 0, []), 1), ((27, 1, 0, 0, []), 1)] 21 _ _ _ (by decide +kernel) ?_
      refine And.intro (show (0 : Int) ≤ 0 ∧ (0 : Int) ≤ 1 from by decide) ?_
      exact Prod.mk.inj (Option.some.inj h)
    · refine And.intro (fun hp => absurd hp c2) (fun _ => ?_)
      rcases px_ite h with ⟨c3, h⟩ | ⟨c3, h⟩
      · refine And.intro (fun _ => ?_) (fun hn => absurd c3 hn)
        refine H [((0, 0, 0, 0, []), 1), ((27, 1, 0, 0, []), 1)] 21 _ _ _ (by decide +kernel) ?_
        refine And.intro (show (0 : Int) ≤ 0 ∧ (0 : Int) ≤ 1 from by decide) ?_
        exact Prod.mk.inj (Option.some.inj h)
      · refine And.intro (fun hp => absurd hp c3) (fun _ => ?_)
        rcases px_ite h with ⟨c4, h⟩ | ⟨c4, h⟩
        · refine And.intro (fun _ => ?_) (fun hn => absurd c4 hn)
          refine H [((2, 0, 0, 0, []), 1), ((17, 0, 3, 0, []), 3), ((17, 3, 24, 0, []), 3), ((17, 24, 26, 0, []), 3), ((1, 1, 0, 0, []), 1), ((1, 2, 0, 0, []), 1), ((20, 26, 64, 0, []), 1), ((0, 0, 0, 1, []), 1), ((27, 1, 0, 0, []), 1)] 23 _ _ _ (by decide +kernel) ?_
          obtain ⟨g5, h⟩ := px_gd h
          refine And.intro g5 ?_
          refine And.intro (show (0 : Int) ≤ 1 ∧ (1 : Int) ≤ 1 from by decide) ?_
          exact Prod.mk.inj (Option.some.inj h)
        · refine And.intro (fun hp => absurd hp c4) (fun _ => ?_)
          refine And.intro (show (0 : Int) ≤ 0 ∧ (0 : Int) ≤ 1 from by decide) ?_
          exact Prod.mk.inj (Option.some.inj h)
theorem ok_X_poke_0 {l : Launch} {a1 a2 : Int} {σ : pS} {v : Int} {σ1 : pS} (h : f_X_poke_0 a1 a2 σ = some (v, σ1)) : Con l 0 11 [.inr 0, .inl a1, .inl a2] σ v σ1 := Con_mk 3 3 rfl (by decide +kernel) (fun _ H => ok_X_poke_0_w H _ _ _ h)
theorem ok_M_poke_84_w {l : Launch} {rv : Int} {rσ : pS} {G : Nat → pL → List pV → pS → Prop} (H : px_R l 1 138 rv rσ G) : ∀ (a1 a2 : Int) (σ : pS), f_M_poke_84 a1 a2 σ = some (rv, rσ) → G 0 [some (.inr 84), some (.inl a1), some (.inl a2)] [] σ := by
  intro a1 a2 σ h
  unfold f_M_poke_84 at h
  refine H [((1, 1, 0, 0, []), 1), ((0, 0, 0, 0, []), 1), ((0, 0, 0, 63, []), 2), ((24, 137, 3, 1, []), 3), ((14, 0, 21, 0, []), 3), ((1, 2, 0, 0, []), 1), ((0, 0, 0, 0, []), 1), ((0, 0, 0, 255, []), 3), ((24, 137, 3, 1, []), 3), ((14, 1, 23, 0, []), 3), ((0, 0, 0, 0, []), 1), ((27, 1, 0, 0, []), 1)] 0 _ _ _ (by decide +kernel) ?_
  obtain ⟨⟨vq1, σq1⟩, hq1, h⟩ := px_bind h
  dsimp only at h
  refine Exists.intro 0 (Exists.intro vq1 (Exists.intro σq1 (And.intro (Nat.le_of_ble_eq_true rfl) (And.intro (ok_M_in hq1) ?_))))
  rcases px_ite h with ⟨c2, h⟩ | ⟨c2, h⟩
  · refine And.intro (fun _ => ?_) (fun hn => absurd c2 hn)
    refine H [((0, 0, 0, 0, []), 1), ((27, 1, 0, 0, []), 1)] 21 _ _ _ (by decide +kernel) ?_
    refine And.intro (show (0 : Int) ≤ 0 ∧ (0 : Int) ≤ 1 from by decide) ?_
    exact Prod.mk.inj (Option.some.inj h)
  · refine And.intro (fun hp => absurd hp c2) (fun _ => ?_)
    obtain ⟨⟨vq3, σq3⟩, hq3, h⟩ := px_bind h
    dsimp only at h
    refine Exists.intro 0 (Exists.intro vq3 (Exists.intro σq3 (And.intro (Nat.le_of_ble_eq_true rfl) (And.intro (ok_M_in hq3) ?_))))
    rcases px_ite h with ⟨c4, h⟩ | ⟨c4, h⟩
    · refine And.intro (fun hp => absurd c4 hp) (fun _ => ?_)
      refine And.intro (show (0 : Int) ≤ 0 ∧ (0 : Int) ≤ 1 from by decide) ?_
      exact Prod.mk.inj (Option.some.inj h)
    · refine And.intro (fun _ => ?_) (fun hn => absurd c4 hn)
      refine H [((2, 0, 0, 0, []), 1), ((17, 84, 86, 0, []), 3), ((1, 1, 0, 0, []), 1), ((1, 2, 0, 0, []), 1), ((20, 86, 64, 0, []), 1), ((0, 0, 0, 1, []), 1), ((27, 1, 0, 0, []), 1)] 23 _ _ _ (by decide +kernel) ?_
      obtain ⟨g5, h⟩ := px_gd h
      refine And.intro g5 ?_
      refine And.intro (show (0 : Int) ≤ 1 ∧ (1 : Int) ≤ 1 from by decide) ?_
      exact Prod.mk.inj (Option.some.inj h)
theorem ok_M_poke_84 {l : Launch} {a1 a2 : Int} {σ : pS} {v : Int} {σ1 : pS} (h : f_M_poke_84 a1 a2 σ = some (v, σ1)) : Con l 1 138 [.inr 84, .inl a1, .inl a2] σ v σ1 := Con_mk 3 3 rfl (by decide +kernel) (fun _ H => ok_M_poke_84_w H _ _ _ h)
theorem ok_X_isTotal_w {l : Launch} {rv : Int} {rσ : pS} {G : Nat → pL → List pV → pS → Prop} (H : px_R l 0 100 rv rσ G) : ∀ (a0 : Int) (σ : pS), f_X_isTotal a0 σ = some (rv, rσ) → G 0 [some (.inl a0)] [] σ := by
  intro a0 σ h
  unfold f_X_isTotal at h
  refine H [((1, 0, 0, 0, []), 1), ((14, 2, 14, 0, []), 3), ((1, 0, 0, 0, []), 1), ((0, 0, 0, 6, []), 2), ((13, 3, 14, 0, []), 3), ((0, 0, 0, 1, []), 1), ((12, 0, 15, 0, []), 3), ((27, 1, 0, 0, []), 1)] 0 _ _ _ (by decide +kernel) ?_
  rcases px_ite h with ⟨c1, h⟩ | ⟨c1, h⟩
  · refine And.intro (fun _ => ?_) (fun hn => absurd c1 hn)
    refine H [((0, 0, 0, 0, []), 1), ((27, 1, 0, 0, []), 1)] 14 _ _ _ (by decide +kernel) ?_
    refine And.intro (show (0 : Int) ≤ 0 ∧ (0 : Int) ≤ 1 from by decide) ?_
    exact Prod.mk.inj (Option.some.inj h)
  · refine And.intro (fun hp => absurd hp c1) (fun _ => ?_)
    rcases px_ite h with ⟨c2, h⟩ | ⟨c2, h⟩
    · refine And.intro (fun _ => ?_) (fun hn => absurd c2 hn)
      refine H [((0, 0, 0, 0, []), 1), ((27, 1, 0, 0, []), 1)] 14 _ _ _ (by decide +kernel) ?_
      refine And.intro (show (0 : Int) ≤ 0 ∧ (0 : Int) ≤ 1 from by decide) ?_
      exact Prod.mk.inj (Option.some.inj h)
    · refine And.intro (fun hp => absurd hp c2) (fun _ => ?_)
      refine And.intro (show (0 : Int) ≤ 1 ∧ (1 : Int) ≤ 1 from by decide) ?_
      exact Prod.mk.inj (Option.some.inj h)
theorem ok_X_isTotal {l : Launch} {a0 : Int} {σ : pS} {v : Int} {σ1 : pS} (h : f_X_isTotal a0 σ = some (v, σ1)) : Con l 0 100 [.inl a0] σ v σ1 := Con_mk 1 1 rfl (by decide +kernel) (fun _ H => ok_X_isTotal_w H _ _ h)
theorem ok_X_isByte_w {l : Launch} {rv : Int} {rσ : pS} {G : Nat → pL → List pV → pS → Prop} (H : px_R l 0 101 rv rσ G) : ∀ (a0 : Int) (σ : pS), f_X_isByte a0 σ = some (rv, rσ) → G 0 [some (.inl a0)] [] σ := by
  intro a0 σ h
  unfold f_X_isByte at h
  refine H [((1, 0, 0, 0, []), 1), ((0, 0, 0, 100, []), 2), ((13, 2, 17, 0, []), 3), ((1, 0, 0, 0, []), 1), ((0, 0, 0, 164, []), 3), ((13, 3, 17, 0, []), 3), ((0, 0, 0, 1, []), 1), ((12, 0, 18, 0, []), 3), ((27, 1, 0, 0, []), 1)] 0 _ _ _ (by decide +kernel) ?_
  rcases px_ite h with ⟨c1, h⟩ | ⟨c1, h⟩
  · refine And.intro (fun _ => ?_) (fun hn => absurd c1 hn)
    refine H [((0, 0, 0, 0, []), 1), ((27, 1, 0, 0, []), 1)] 17 _ _ _ (by decide +kernel) ?_
    refine And.intro (show (0 : Int) ≤ 0 ∧ (0 : Int) ≤ 1 from by decide) ?_
    exact Prod.mk.inj (Option.some.inj h)
  · refine And.intro (fun hp => absurd hp c1) (fun _ => ?_)
    rcases px_ite h with ⟨c2, h⟩ | ⟨c2, h⟩
    · refine And.intro (fun _ => ?_) (fun hn => absurd c2 hn)
      refine H [((0, 0, 0, 0, []), 1), ((27, 1, 0, 0, []), 1)] 17 _ _ _ (by decide +kernel) ?_
      refine And.intro (show (0 : Int) ≤ 0 ∧ (0 : Int) ≤ 1 from by decide) ?_
      exact Prod.mk.inj (Option.some.inj h)
    · refine And.intro (fun hp => absurd hp c2) (fun _ => ?_)
      refine And.intro (show (0 : Int) ≤ 1 ∧ (1 : Int) ≤ 1 from by decide) ?_
      exact Prod.mk.inj (Option.some.inj h)
theorem ok_X_isByte {l : Launch} {a0 : Int} {σ : pS} {v : Int} {σ1 : pS} (h : f_X_isByte a0 σ = some (v, σ1)) : Con l 0 101 [.inl a0] σ v σ1 := Con_mk 1 1 rfl (by decide +kernel) (fun _ H => ok_X_isByte_w H _ _ h)
theorem ok_X_tried_0_p75 {l : Launch} {rv : Int} {rσ : pS} {G : Nat → pL → List pV → pS → Prop} (H : px_R l 6 99 rv rσ G) : ∀ (a2 a3 : Int) (σ : pS), f_X_tried_0_p75 a2 a3 σ = some (rv, rσ) → G 75 [some (.inr 0), none, some (.inl a2), some (.inl a3), none] [.inr 24] σ := by
  intro a2 a3 σ h
  unfold f_X_tried_0_p75 at h
  refine H [((4, 4, 0, 0, []), 2), ((1, 2, 0, 0, []), 1), ((24, 101, 1, 1, []), 3), ((14, 0, 95, 0, []), 3), ((2, 4, 0, 0, []), 2), ((17, 24, 26, 0, []), 3), ((1, 2, 0, 0, []), 1), ((0, 0, 0, 100, []), 2), ((6, 1, 0, 0, []), 1), ((19, 26, 64, 0, []), 1), ((27, 0, 0, 0, []), 1)] 75 _ _ _ (by decide +kernel) ?_
  obtain ⟨⟨vq8, σq8⟩, hq8, h⟩ := px_bind h
  dsimp only at h
  refine Exists.intro 0 (Exists.intro vq8 (Exists.intro σq8 (And.intro (Nat.le_of_ble_eq_true rfl) (And.intro (ok_X_isByte hq8) ?_))))
  rcases px_ite h with ⟨c9, h⟩ | ⟨c9, h⟩
  · refine And.intro (fun _ => ?_) (fun hn => absurd c9 hn)
    refine H [((1, 2, 0, 0, []), 1), ((0, 0, 0, 10, []), 2), ((6, 1, 0, 0, []), 1), ((24, 52, 1, 1, []), 3), ((14, 0, 116, 0, []), 3), ((2, 4, 0, 0, []), 2), ((17, 24, 25, 0, []), 3), ((1, 2, 0, 0, []), 1), ((0, 0, 0, 10, []), 2), ((6, 1, 0, 0, []), 1), ((19, 25, 8, 0, []), 1), ((27, 0, 0, 0, []), 1)] 95 _ _ _ (by decide +kernel) ?_
    obtain ⟨⟨vq10, σq10⟩, hq10, h⟩ := px_bind h
    dsimp only at h
    refine Exists.intro 0 (Exists.intro vq10 (Exists.intro σq10 (And.intro (Nat.le_of_ble_eq_true rfl) (And.intro (ok_X_isCell hq10) ?_))))
    rcases px_ite h with ⟨c11, h⟩ | ⟨c11, h⟩
    · refine And.intro (fun _ => ?_) (fun hn => absurd c11 hn)
      refine H [((1, 3, 0, 0, []), 1), ((14, 0, 135, 0, []), 3), ((2, 0, 0, 0, []), 1), ((17, 0, 3, 0, []), 3), ((17, 3, 32, 0, []), 3), ((17, 32, 33, 0, []), 3), ((1, 2, 0, 0, []), 1), ((19, 33, 6, 0, []), 1), ((12, 0, 137, 0, []), 3), ((27, 0, 0, 0, []), 1)] 116 _ _ _ (by decide +kernel) ?_
      rcases px_ite h with ⟨c12, h⟩ | ⟨c12, h⟩
      · refine And.intro (fun _ => ?_) (fun hn => absurd c12 hn)
        refine H [((0, 0, 0, (-5), []), 2), ((27, 0, 0, 0, []), 1)] 135 _ _ _ (by decide +kernel) ?_
        exact Prod.mk.inj (Option.some.inj h)
      · refine And.intro (fun hp => absurd hp c12) (fun _ => ?_)
        obtain ⟨g13, h⟩ := px_gd h
        refine And.intro g13 ?_
        exact Prod.mk.inj (Option.some.inj h)
    · refine And.intro (fun hp => absurd hp c11) (fun _ => ?_)
      obtain ⟨g14, h⟩ := px_gd h
      refine And.intro g14 ?_
      exact Prod.mk.inj (Option.some.inj h)
  · refine And.intro (fun hp => absurd hp c9) (fun _ => ?_)
    obtain ⟨g15, h⟩ := px_gd h
    refine And.intro g15 ?_
    exact Prod.mk.inj (Option.some.inj h)
theorem ok_X_tried_0_p75b {l : Launch} {rv : Int} {rσ : pS} {G : Nat → pL → List pV → pS → Prop} (H : px_R l 6 99 rv rσ G) : ∀ (a2 a3 : Int) (σ : pS), f_X_tried_0_p75b a2 a3 σ = some (rv, rσ) → G 75 [some (.inr 0), none, some (.inl a2), some (.inl a3), none] [.inr 28] σ := by
  intro a2 a3 σ h
  unfold f_X_tried_0_p75b at h
  refine H [((4, 4, 0, 0, []), 2), ((1, 2, 0, 0, []), 1), ((24, 101, 1, 1, []), 3), ((14, 0, 95, 0, []), 3), ((2, 4, 0, 0, []), 2), ((17, 28, 30, 0, []), 3), ((1, 2, 0, 0, []), 1), ((0, 0, 0, 100, []), 2), ((6, 1, 0, 0, []), 1), ((19, 30, 64, 0, []), 1), ((27, 0, 0, 0, []), 1)] 75 _ _ _ (by decide +kernel) ?_
  obtain ⟨⟨vq16, σq16⟩, hq16, h⟩ := px_bind h
  dsimp only at h
  refine Exists.intro 0 (Exists.intro vq16 (Exists.intro σq16 (And.intro (Nat.le_of_ble_eq_true rfl) (And.intro (ok_X_isByte hq16) ?_))))
  rcases px_ite h with ⟨c17, h⟩ | ⟨c17, h⟩
  · refine And.intro (fun _ => ?_) (fun hn => absurd c17 hn)
    refine H [((1, 2, 0, 0, []), 1), ((0, 0, 0, 10, []), 2), ((6, 1, 0, 0, []), 1), ((24, 52, 1, 1, []), 3), ((14, 0, 116, 0, []), 3), ((2, 4, 0, 0, []), 2), ((17, 28, 29, 0, []), 3), ((1, 2, 0, 0, []), 1), ((0, 0, 0, 10, []), 2), ((6, 1, 0, 0, []), 1), ((19, 29, 8, 0, []), 1), ((27, 0, 0, 0, []), 1)] 95 _ _ _ (by decide +kernel) ?_
    obtain ⟨⟨vq18, σq18⟩, hq18, h⟩ := px_bind h
    dsimp only at h
    refine Exists.intro 0 (Exists.intro vq18 (Exists.intro σq18 (And.intro (Nat.le_of_ble_eq_true rfl) (And.intro (ok_X_isCell hq18) ?_))))
    rcases px_ite h with ⟨c19, h⟩ | ⟨c19, h⟩
    · refine And.intro (fun _ => ?_) (fun hn => absurd c19 hn)
      refine H [((1, 3, 0, 0, []), 1), ((14, 0, 135, 0, []), 3), ((2, 0, 0, 0, []), 1), ((17, 0, 3, 0, []), 3), ((17, 3, 32, 0, []), 3), ((17, 32, 33, 0, []), 3), ((1, 2, 0, 0, []), 1), ((19, 33, 6, 0, []), 1), ((12, 0, 137, 0, []), 3), ((27, 0, 0, 0, []), 1)] 116 _ _ _ (by decide +kernel) ?_
      rcases px_ite h with ⟨c20, h⟩ | ⟨c20, h⟩
      · refine And.intro (fun _ => ?_) (fun hn => absurd c20 hn)
        refine H [((0, 0, 0, (-5), []), 2), ((27, 0, 0, 0, []), 1)] 135 _ _ _ (by decide +kernel) ?_
        exact Prod.mk.inj (Option.some.inj h)
      · refine And.intro (fun hp => absurd hp c20) (fun _ => ?_)
        obtain ⟨g21, h⟩ := px_gd h
        refine And.intro g21 ?_
        exact Prod.mk.inj (Option.some.inj h)
    · refine And.intro (fun hp => absurd hp c19) (fun _ => ?_)
      obtain ⟨g22, h⟩ := px_gd h
      refine And.intro g22 ?_
      exact Prod.mk.inj (Option.some.inj h)
  · refine And.intro (fun hp => absurd hp c17) (fun _ => ?_)
    obtain ⟨g23, h⟩ := px_gd h
    refine And.intro g23 ?_
    exact Prod.mk.inj (Option.some.inj h)
theorem ok_X_tried_0_p53 {l : Launch} {rv : Int} {rσ : pS} {G : Nat → pL → List pV → pS → Prop} (H : px_R l 6 99 rv rσ G) : ∀ (a2 s0 : Int) (σ : pS), f_X_tried_0_p53 a2 s0 σ = some (rv, rσ) → G 53 [some (.inr 0), none, some (.inl a2), none, none] [.inl s0] σ := by
  intro a2 s0 σ h
  unfold f_X_tried_0_p53 at h
  refine H [((3, 3, 0, 0, []), 1), ((1, 3, 0, 0, []), 1), ((14, 0, 68, 0, []), 3), ((2, 0, 0, 0, []), 1), ((17, 0, 3, 0, []), 3), ((17, 3, 28, 0, []), 3), ((12, 0, 75, 0, []), 3)] 53 _ _ _ (by decide +kernel) ?_
  rcases px_ite h with ⟨c7, h⟩ | ⟨c7, h⟩
  · refine And.intro (fun _ => ?_) (fun hn => absurd c7 hn)
    refine H [((2, 0, 0, 0, []), 1), ((17, 0, 3, 0, []), 3), ((17, 3, 24, 0, []), 3)] 68 _ _ _ (by decide +kernel) ?_
    exact ok_X_tried_0_p75 H _ _ _ h
  · refine And.intro (fun hp => absurd hp c7) (fun _ => ?_)
    exact ok_X_tried_0_p75b H _ _ _ h
theorem ok_X_tried_0_p34 {l : Launch} {rv : Int} {rσ : pS} {G : Nat → pL → List pV → pS → Prop} (H : px_R l 6 99 rv rσ G) : ∀ (a1 a2 : Int) (σ : pS), f_X_tried_0_p34 a1 a2 σ = some (rv, rσ) → G 34 [some (.inr 0), some (.inl a1), some (.inl a2), none, none] [] σ := by
  intro a1 a2 σ h
  unfold f_X_tried_0_p34 at h
  refine H [((2, 0, 0, 0, []), 1), ((17, 0, 3, 0, []), 3), ((1, 1, 0, 0, []), 1), ((0, 0, 0, 0, []), 1), ((23, 59, 2, 1, [(0, 3)]), 3), ((0, 0, 0, (-5), []), 2), ((13, 0, 52, 0, []), 3), ((0, 0, 0, 1, []), 1), ((12, 0, 53, 0, []), 3), ((29, 1, 0, 0, []), 0)] 34 _ _ _ (by decide +kernel) ?_
  obtain ⟨⟨vq5, σq5⟩, hq5, h⟩ := px_bind h
  dsimp only at h
  refine Exists.intro 5 (Exists.intro vq5 (Exists.intro σq5 (And.intro (Nat.le_of_ble_eq_true rfl) (And.intro (ok_Mach_go_3 hq5) ?_))))
  rcases px_ite h with ⟨c6, h⟩ | ⟨c6, h⟩
  · refine And.intro (fun _ => ?_) (fun hn => absurd c6 hn)
    refine H [((0, 0, 0, 0, []), 1), ((29, 1, 0, 0, []), 0)] 52 _ _ _ (by decide +kernel) ?_
    exact ok_X_tried_0_p53 H _ _ _ h
  · refine And.intro (fun hp => absurd hp c6) (fun _ => ?_)
    exact ok_X_tried_0_p53 H _ _ _ h
theorem ok_X_tried_0_w {l : Launch} {rv : Int} {rσ : pS} {G : Nat → pL → List pV → pS → Prop} (H : px_R l 6 99 rv rσ G) : ∀ (a1 a2 : Int) (σ : pS), f_X_tried_0 a1 a2 σ = some (rv, rσ) → G 0 [some (.inr 0), some (.inl a1), some (.inl a2), none, none] [] σ := by
  intro a1 a2 σ h
  unfold f_X_tried_0 at h
  refine H [((2, 0, 0, 0, []), 1), ((1, 1, 0, 0, []), 1), ((23, 58, 1, 1, [(0, 0)]), 3), ((14, 0, 32, 0, []), 3), ((1, 2, 0, 0, []), 1), ((24, 100, 1, 1, []), 3), ((14, 1, 34, 0, []), 3), ((1, 2, 0, 0, []), 1), ((0, 0, 0, 10, []), 2), ((6, 1, 0, 0, []), 1), ((24, 52, 1, 1, []), 3), ((14, 1, 34, 0, []), 3), ((1, 2, 0, 0, []), 1), ((24, 101, 1, 1, []), 3), ((14, 1, 34, 0, []), 3), ((0, 0, 0, (-1), []), 1), ((27, 0, 0, 0, []), 1)] 0 _ _ _ (by decide +kernel) ?_
  obtain ⟨⟨vq1, σq1⟩, hq1, h⟩ := px_bind h
  dsimp only at h
  refine Exists.intro 0 (Exists.intro vq1 (Exists.intro σq1 (And.intro (Nat.le_of_ble_eq_true rfl) (And.intro (ok_X_canRun_0 hq1) ?_))))
  rcases px_ite h with ⟨c2, h⟩ | ⟨c2, h⟩
  · refine And.intro (fun _ => ?_) (fun hn => absurd c2 hn)
    refine H [((0, 0, 0, (-1), []), 1), ((27, 0, 0, 0, []), 1)] 32 _ _ _ (by decide +kernel) ?_
    exact Prod.mk.inj (Option.some.inj h)
  · refine And.intro (fun hp => absurd hp c2) (fun _ => ?_)
    obtain ⟨⟨vq3, σq3⟩, hq3, h⟩ := px_bind h
    dsimp only at h
    refine Exists.intro 0 (Exists.intro vq3 (Exists.intro σq3 (And.intro (Nat.le_of_ble_eq_true rfl) (And.intro (ok_X_isTotal hq3) ?_))))
    rcases px_ite h with ⟨c4, h⟩ | ⟨c4, h⟩
    · refine And.intro (fun hp => absurd c4 hp) (fun _ => ?_)
      obtain ⟨⟨vq24, σq24⟩, hq24, h⟩ := px_bind h
      dsimp only at h
      refine Exists.intro 0 (Exists.intro vq24 (Exists.intro σq24 (And.intro (Nat.le_of_ble_eq_true rfl) (And.intro (ok_X_isCell hq24) ?_))))
      rcases px_ite h with ⟨c25, h⟩ | ⟨c25, h⟩
      · refine And.intro (fun hp => absurd c25 hp) (fun _ => ?_)
        obtain ⟨⟨vq26, σq26⟩, hq26, h⟩ := px_bind h
        dsimp only at h
        refine Exists.intro 0 (Exists.intro vq26 (Exists.intro σq26 (And.intro (Nat.le_of_ble_eq_true rfl) (And.intro (ok_X_isByte hq26) ?_))))
        rcases px_ite h with ⟨c27, h⟩ | ⟨c27, h⟩
        · refine And.intro (fun hp => absurd c27 hp) (fun _ => ?_)
          exact Prod.mk.inj (Option.some.inj h)
        · refine And.intro (fun _ => ?_) (fun hn => absurd c27 hn)
          exact ok_X_tried_0_p34 H _ _ _ h
      · refine And.intro (fun _ => ?_) (fun hn => absurd c25 hn)
        exact ok_X_tried_0_p34 H _ _ _ h
    · refine And.intro (fun _ => ?_) (fun hn => absurd c4 hn)
      exact ok_X_tried_0_p34 H _ _ _ h
theorem ok_X_tried_0 {l : Launch} {a1 a2 : Int} {σ : pS} {v : Int} {σ1 : pS} (h : f_X_tried_0 a1 a2 σ = some (v, σ1)) : Con l 6 99 [.inr 0, .inl a1, .inl a2] σ v σ1 := Con_mk 3 5 rfl (by decide +kernel) (fun _ H => ok_X_tried_0_w H _ _ _ h)
theorem ok_M_isTried_84_w {l : Launch} {rv : Int} {rσ : pS} {G : Nat → pL → List pV → pS → Prop} (H : px_R l 9 213 rv rσ G) : ∀ (a1 a2 : Int) (σ : pS), f_M_isTried_84 a1 a2 σ = some (rv, rσ) → G 0 [some (.inr 84), some (.inl a1), some (.inl a2), none, none] [] σ := by
  intro a1 a2 σ h
  unfold f_M_isTried_84 at h
  refine H [((2, 0, 0, 0, []), 1), ((16, 84, 0, 0, []), 3), ((3, 3, 0, 0, []), 1), ((2, 0, 0, 0, []), 1), ((1, 1, 0, 0, []), 1), ((1, 2, 0, 0, []), 1), ((23, 177, 2, 1, [(0, 84)]), 3), ((3, 4, 0, 0, []), 2), ((2, 0, 0, 0, []), 1), ((1, 3, 0, 0, []), 1), ((18, 84, 0, 0, []), 3), ((2, 0, 0, 0, []), 1), ((23, 210, 0, 0, [(0, 84)]), 3), ((1, 4, 0, 0, []), 2), ((27, 1, 0, 0, []), 1)] 0 _ _ _ (by decide +kernel) ?_
  obtain ⟨⟨vq1, σq1⟩, hq1, h⟩ := px_bind h
  dsimp only at h
  refine Exists.intro 8 (Exists.intro vq1 (Exists.intro σq1 (And.intro (Nat.le_of_ble_eq_true rfl) (And.intro (ok_M_goesThrough_84 hq1) ?_))))
  obtain ⟨⟨vq2, σq2⟩, hq2, h⟩ := px_bind h
  dsimp only at h
  refine Exists.intro 0 (Exists.intro vq2 (Exists.intro σq2 (And.intro (Nat.le_of_ble_eq_true rfl) (And.intro (ok_M_putsSetsBack_84 hq2) ?_))))
  obtain ⟨g3, h⟩ := px_gd h
  refine And.intro g3 ?_
  exact Prod.mk.inj (Option.some.inj h)
theorem ok_M_isTried_84 {l : Launch} {a1 a2 : Int} {σ : pS} {v : Int} {σ1 : pS} (h : f_M_isTried_84 a1 a2 σ = some (v, σ1)) : Con l 9 213 [.inr 84, .inl a1, .inl a2] σ v σ1 := Con_mk 3 5 rfl (by decide +kernel) (fun _ H => ok_M_isTried_84_w H _ _ _ h)
theorem ok_M_tried_84_p37 {l : Launch} {rv : Int} {rσ : pS} {G : Nat → pL → List pV → pS → Prop} (H : px_R l 10 212 rv rσ G) : ∀ (a1 a2 s0 : Int) (σ : pS), f_M_tried_84_p37 a1 a2 s0 σ = some (rv, rσ) → G 37 [some (.inr 84), some (.inl a1), some (.inl a2), none, none] [.inl s0] σ := by
  intro a1 a2 s0 σ h
  unfold f_M_tried_84_p37 at h
  refine H [((3, 3, 0, 0, []), 1), ((2, 0, 0, 0, []), 1), ((1, 1, 0, 0, []), 1), ((23, 176, 1, 1, [(0, 84)]), 3), ((14, 0, 50, 0, []), 3), ((1, 3, 0, 0, []), 1), ((14, 1, 52, 0, []), 3), ((0, 0, 0, (-1), []), 1), ((27, 0, 0, 0, []), 1)] 37 _ _ _ (by decide +kernel) ?_
  obtain ⟨⟨vq3, σq3⟩, hq3, h⟩ := px_bind h
  dsimp only at h
  refine Exists.intro 1 (Exists.intro vq3 (Exists.intro σq3 (And.intro (Nat.le_of_ble_eq_true rfl) (And.intro (ok_M_canRun_84 hq3) ?_))))
  rcases px_ite h with ⟨c4, h⟩ | ⟨c4, h⟩
  · refine And.intro (fun _ => ?_) (fun hn => absurd c4 hn)
    refine H [((0, 0, 0, (-1), []), 1), ((27, 0, 0, 0, []), 1)] 50 _ _ _ (by decide +kernel) ?_
    exact Prod.mk.inj (Option.some.inj h)
  · refine And.intro (fun hp => absurd hp c4) (fun _ => ?_)
    rcases px_ite h with ⟨c5, h⟩ | ⟨c5, h⟩
    · refine And.intro (fun hp => absurd c5 hp) (fun _ => ?_)
      exact Prod.mk.inj (Option.some.inj h)
    · refine And.intro (fun _ => ?_) (fun hn => absurd c5 hn)
      refine H [((2, 0, 0, 0, []), 1), ((1, 1, 0, 0, []), 1), ((0, 0, 0, 0, []), 1), ((23, 213, 2, 1, [(0, 84)]), 3), ((3, 4, 0, 0, []), 2), ((1, 2, 0, 0, []), 1), ((0, 0, 0, 6, []), 2), ((13, 3, 82, 0, []), 3), ((1, 4, 0, 0, []), 2), ((14, 0, 79, 0, []), 3), ((2, 0, 0, 0, []), 1), ((1, 2, 0, 0, []), 1), ((23, 211, 1, 1, [(0, 84)]), 3), ((12, 0, 81, 0, []), 3), ((27, 0, 0, 0, []), 1)] 52 _ _ _ (by decide +kernel) ?_
      obtain ⟨⟨vq6, σq6⟩, hq6, h⟩ := px_bind h
      dsimp only at h
      refine Exists.intro 9 (Exists.intro vq6 (Exists.intro σq6 (And.intro (Nat.le_of_ble_eq_true rfl) (And.intro (ok_M_isTried_84 hq6) ?_))))
      rcases px_ite h with ⟨c7, h⟩ | ⟨c7, h⟩
      · refine And.intro (fun _ => ?_) (fun hn => absurd c7 hn)
        refine H [((1, 2, 0, 0, []), 1), ((0, 0, 0, 100, []), 2), ((13, 3, 115, 0, []), 3), ((1, 4, 0, 0, []), 2), ((14, 0, 105, 0, []), 3), ((2, 0, 0, 0, []), 1), ((17, 84, 130, 0, []), 3), ((1, 2, 0, 0, []), 1), ((0, 0, 0, 10, []), 2), ((6, 1, 0, 0, []), 1), ((19, 130, 8, 0, []), 1), ((12, 0, 114, 0, []), 3), ((27, 0, 0, 0, []), 1)] 82 _ _ _ (by decide +kernel) ?_
        rcases px_ite h with ⟨c8, h⟩ | ⟨c8, h⟩
        · refine And.intro (fun _ => ?_) (fun hn => absurd c8 hn)
          refine H [((1, 4, 0, 0, []), 2), ((14, 0, 132, 0, []), 3), ((2, 0, 0, 0, []), 1), ((17, 84, 128, 0, []), 3), ((1, 2, 0, 0, []), 1), ((0, 0, 0, 100, []), 2), ((6, 1, 0, 0, []), 1), ((19, 128, 64, 0, []), 1), ((12, 0, 141, 0, []), 3), ((27, 0, 0, 0, []), 1)] 115 _ _ _ (by decide +kernel) ?_
          rcases px_ite h with ⟨c9, h⟩ | ⟨c9, h⟩
          · refine And.intro (fun _ => ?_) (fun hn => absurd c9 hn)
            refine H [((2, 0, 0, 0, []), 1), ((17, 84, 86, 0, []), 3), ((1, 2, 0, 0, []), 1), ((0, 0, 0, 100, []), 2), ((6, 1, 0, 0, []), 1), ((19, 86, 64, 0, []), 1), ((27, 0, 0, 0, []), 1)] 132 _ _ _ (by decide +kernel) ?_
            obtain ⟨g10, h⟩ := px_gd h
            refine And.intro g10 ?_
            exact Prod.mk.inj (Option.some.inj h)
          · refine And.intro (fun hp => absurd hp c9) (fun _ => ?_)
            obtain ⟨g11, h⟩ := px_gd h
            refine And.intro g11 ?_
            exact Prod.mk.inj (Option.some.inj h)
        · refine And.intro (fun hp => absurd hp c8) (fun _ => ?_)
          rcases px_ite h with ⟨c12, h⟩ | ⟨c12, h⟩
          · refine And.intro (fun _ => ?_) (fun hn => absurd c12 hn)
            refine H [((2, 0, 0, 0, []), 1), ((17, 84, 85, 0, []), 3), ((1, 2, 0, 0, []), 1), ((0, 0, 0, 10, []), 2), ((6, 1, 0, 0, []), 1), ((19, 85, 8, 0, []), 1), ((27, 0, 0, 0, []), 1)] 105 _ _ _ (by decide +kernel) ?_
            obtain ⟨g13, h⟩ := px_gd h
            refine And.intro g13 ?_
            exact Prod.mk.inj (Option.some.inj h)
          · refine And.intro (fun hp => absurd hp c12) (fun _ => ?_)
            obtain ⟨g14, h⟩ := px_gd h
            refine And.intro g14 ?_
            exact Prod.mk.inj (Option.some.inj h)
      · refine And.intro (fun hp => absurd hp c7) (fun _ => ?_)
        rcases px_ite h with ⟨c15, h⟩ | ⟨c15, h⟩
        · refine And.intro (fun _ => ?_) (fun hn => absurd c15 hn)
          refine H [((0, 0, 0, (-5), []), 2), ((27, 0, 0, 0, []), 1)] 79 _ _ _ (by decide +kernel) ?_
          exact Prod.mk.inj (Option.some.inj h)
        · refine And.intro (fun hp => absurd hp c15) (fun _ => ?_)
          obtain ⟨⟨vq16, σq16⟩, hq16, h⟩ := px_bind h
          dsimp only at h
          refine Exists.intro 0 (Exists.intro vq16 (Exists.intro σq16 (And.intro (Nat.le_of_ble_eq_true rfl) (And.intro (ok_M_toldOf_84 hq16) ?_))))
          exact Prod.mk.inj (Option.some.inj h)
theorem ok_M_tried_84_p32 {l : Launch} {rv : Int} {rσ : pS} {G : Nat → pL → List pV → pS → Prop} (H : px_R l 10 212 rv rσ G) : ∀ (a1 a2 : Int) (σ : pS), f_M_tried_84_p32 a1 a2 σ = some (rv, rσ) → G 32 [some (.inr 84), some (.inl a1), some (.inl a2), none, none] [] σ := by
  intro a1 a2 σ h
  unfold f_M_tried_84_p32 at h
  refine H [((0, 0, 0, 1, []), 1), ((12, 0, 37, 0, []), 3)] 32 _ _ _ (by decide +kernel) ?_
  exact ok_M_tried_84_p37 H _ _ _ _ h
theorem ok_M_tried_84_w {l : Launch} {rv : Int} {rσ : pS} {G : Nat → pL → List pV → pS → Prop} (H : px_R l 10 212 rv rσ G) : ∀ (a1 a2 : Int) (σ : pS), f_M_tried_84 a1 a2 σ = some (rv, rσ) → G 0 [some (.inr 84), some (.inl a1), some (.inl a2), none, none] [] σ := by
  intro a1 a2 σ h
  unfold f_M_tried_84 at h
  refine H [((1, 2, 0, 0, []), 1), ((0, 0, 0, 0, []), 1), ((0, 0, 0, 5, []), 1), ((24, 137, 3, 1, []), 3), ((14, 1, 32, 0, []), 3), ((1, 2, 0, 0, []), 1), ((0, 0, 0, 10, []), 2), ((0, 0, 0, 17, []), 2), ((24, 137, 3, 1, []), 3), ((14, 1, 32, 0, []), 3), ((1, 2, 0, 0, []), 1), ((0, 0, 0, 100, []), 2), ((0, 0, 0, 163, []), 3), ((24, 137, 3, 1, []), 3), ((14, 0, 36, 0, []), 3)] 0 _ _ _ (by decide +kernel) ?_
  obtain ⟨⟨vq1, σq1⟩, hq1, h⟩ := px_bind h
  dsimp only at h
  refine Exists.intro 0 (Exists.intro vq1 (Exists.intro σq1 (And.intro (Nat.le_of_ble_eq_true rfl) (And.intro (ok_M_in hq1) ?_))))
  rcases px_ite h with ⟨c2, h⟩ | ⟨c2, h⟩
  · refine And.intro (fun hp => absurd c2 hp) (fun _ => ?_)
    obtain ⟨⟨vq17, σq17⟩, hq17, h⟩ := px_bind h
    dsimp only at h
    refine Exists.intro 0 (Exists.intro vq17 (Exists.intro σq17 (And.intro (Nat.le_of_ble_eq_true rfl) (And.intro (ok_M_in hq17) ?_))))
    rcases px_ite h with ⟨c18, h⟩ | ⟨c18, h⟩
    · refine And.intro (fun hp => absurd c18 hp) (fun _ => ?_)
      obtain ⟨⟨vq19, σq19⟩, hq19, h⟩ := px_bind h
      dsimp only at h
      refine Exists.intro 0 (Exists.intro vq19 (Exists.intro σq19 (And.intro (Nat.le_of_ble_eq_true rfl) (And.intro (ok_M_in hq19) ?_))))
      rcases px_ite h with ⟨c20, h⟩ | ⟨c20, h⟩
      · refine And.intro (fun _ => ?_) (fun hn => absurd c20 hn)
        refine H [((0, 0, 0, 0, []), 1)] 36 _ _ _ (by decide +kernel) ?_
        exact ok_M_tried_84_p37 H _ _ _ _ h
      · refine And.intro (fun hp => absurd hp c20) (fun _ => ?_)
        exact ok_M_tried_84_p32 H _ _ _ h
    · refine And.intro (fun _ => ?_) (fun hn => absurd c18 hn)
      exact ok_M_tried_84_p32 H _ _ _ h
  · refine And.intro (fun _ => ?_) (fun hn => absurd c2 hn)
    exact ok_M_tried_84_p32 H _ _ _ h
theorem ok_M_tried_84 {l : Launch} {a1 a2 : Int} {σ : pS} {v : Int} {σ1 : pS} (h : f_M_tried_84 a1 a2 σ = some (v, σ1)) : Con l 10 212 [.inr 84, .inl a1, .inl a2] σ v σ1 := Con_mk 3 5 rfl (by decide +kernel) (fun _ H => ok_M_tried_84_w H _ _ _ h)
theorem ok_X_lastRun_0_w {l : Launch} {rv : Int} {rσ : pS} {G : Nat → pL → List pV → pS → Prop} (H : px_R l 1 102 rv rσ G) : ∀ (a1 : Int) (σ : pS), f_X_lastRun_0 a1 σ = some (rv, rσ) → G 0 [some (.inr 0), some (.inl a1)] [] σ := by
  intro a1 σ h
  unfold f_X_lastRun_0 at h
  refine H [((1, 1, 0, 0, []), 1), ((24, 100, 1, 1, []), 3), ((14, 1, 9, 0, []), 3), ((0, 0, 0, (-1), []), 1), ((27, 0, 0, 0, []), 1)] 0 _ _ _ (by decide +kernel) ?_
  obtain ⟨⟨vq1, σq1⟩, hq1, h⟩ := px_bind h
  dsimp only at h
  refine Exists.intro 0 (Exists.intro vq1 (Exists.intro σq1 (And.intro (Nat.le_of_ble_eq_true rfl) (And.intro (ok_X_isTotal hq1) ?_))))
  rcases px_ite h with ⟨c2, h⟩ | ⟨c2, h⟩
  · refine And.intro (fun hp => absurd c2 hp) (fun _ => ?_)
    exact Prod.mk.inj (Option.some.inj h)
  · refine And.intro (fun _ => ?_) (fun hn => absurd c2 hn)
    refine H [((2, 0, 0, 0, []), 1), ((16, 0, 8, 0, []), 3), ((14, 0, 28, 0, []), 3), ((2, 0, 0, 0, []), 1), ((17, 0, 71, 0, []), 3), ((17, 71, 72, 0, []), 3), ((1, 1, 0, 0, []), 1), ((19, 72, 6, 0, []), 1), ((12, 0, 30, 0, []), 3), ((27, 0, 0, 0, []), 1)] 9 _ _ _ (by decide +kernel) ?_
    rcases px_ite h with ⟨c3, h⟩ | ⟨c3, h⟩
    · refine And.intro (fun _ => ?_) (fun hn => absurd c3 hn)
      refine H [((0, 0, 0, (-2), []), 2), ((27, 0, 0, 0, []), 1)] 28 _ _ _ (by decide +kernel) ?_
      exact Prod.mk.inj (Option.some.inj h)
    · refine And.intro (fun hp => absurd hp c3) (fun _ => ?_)
      obtain ⟨g4, h⟩ := px_gd h
      refine And.intro g4 ?_
      exact Prod.mk.inj (Option.some.inj h)
theorem ok_X_lastRun_0 {l : Launch} {a1 : Int} {σ : pS} {v : Int} {σ1 : pS} (h : f_X_lastRun_0 a1 σ = some (v, σ1)) : Con l 1 102 [.inr 0, .inl a1] σ v σ1 := Con_mk 2 2 rfl (by decide +kernel) (fun _ H => ok_X_lastRun_0_w H _ _ h)
theorem ok_M_lastRun_84_w {l : Launch} {rv : Int} {rσ : pS} {G : Nat → pL → List pV → pS → Prop} (H : px_R l 1 216 rv rσ G) : ∀ (a1 : Int) (σ : pS), f_M_lastRun_84 a1 σ = some (rv, rσ) → G 0 [some (.inr 84), some (.inl a1)] [] σ := by
  intro a1 σ h
  unfold f_M_lastRun_84 at h
  refine H [((1, 1, 0, 0, []), 1), ((0, 0, 0, 0, []), 1), ((0, 0, 0, 5, []), 1), ((24, 137, 3, 1, []), 3), ((14, 1, 11, 0, []), 3), ((0, 0, 0, (-1), []), 1), ((27, 0, 0, 0, []), 1)] 0 _ _ _ (by decide +kernel) ?_
  obtain ⟨⟨vq1, σq1⟩, hq1, h⟩ := px_bind h
  dsimp only at h
  refine Exists.intro 0 (Exists.intro vq1 (Exists.intro σq1 (And.intro (Nat.le_of_ble_eq_true rfl) (And.intro (ok_M_in hq1) ?_))))
  rcases px_ite h with ⟨c2, h⟩ | ⟨c2, h⟩
  · refine And.intro (fun hp => absurd c2 hp) (fun _ => ?_)
    exact Prod.mk.inj (Option.some.inj h)
  · refine And.intro (fun _ => ?_) (fun hn => absurd c2 hn)
    refine H [((2, 0, 0, 0, []), 1), ((16, 84, 75, 0, []), 3), ((14, 0, 27, 0, []), 3), ((2, 0, 0, 0, []), 1), ((17, 84, 134, 0, []), 3), ((1, 1, 0, 0, []), 1), ((19, 134, 6, 0, []), 1), ((12, 0, 29, 0, []), 3), ((27, 0, 0, 0, []), 1)] 11 _ _ _ (by decide +kernel) ?_
    rcases px_ite h with ⟨c3, h⟩ | ⟨c3, h⟩
    · refine And.intro (fun _ => ?_) (fun hn => absurd c3 hn)
      refine H [((0, 0, 0, (-2), []), 2), ((27, 0, 0, 0, []), 1)] 27 _ _ _ (by decide +kernel) ?_
      exact Prod.mk.inj (Option.some.inj h)
    · refine And.intro (fun hp => absurd hp c3) (fun _ => ?_)
      obtain ⟨g4, h⟩ := px_gd h
      refine And.intro g4 ?_
      exact Prod.mk.inj (Option.some.inj h)
theorem ok_M_lastRun_84 {l : Launch} {a1 : Int} {σ : pS} {v : Int} {σ1 : pS} (h : f_M_lastRun_84 a1 σ = some (v, σ1)) : Con l 1 216 [.inr 84, .inl a1] σ v σ1 := Con_mk 2 2 rfl (by decide +kernel) (fun _ H => ok_M_lastRun_84_w H _ _ h)
theorem ok_Prog_moves_4_w {l : Launch} {rv : Int} {rσ : pS} {G : Nat → pL → List pV → pS → Prop} (H : px_R l 0 107 rv rσ G) : ∀ (a1 : Int) (σ : pS), f_Prog_moves_4 a1 σ = some (rv, rσ) → G 0 [some (.inr 4), some (.inl a1)] [] σ := by
  intro a1 σ h
  unfold f_Prog_moves_4 at h
  refine H [((2, 0, 0, 0, []), 1), ((17, 4, 5, 0, []), 3), ((1, 1, 0, 0, []), 1), ((19, 5, 20, 0, []), 1), ((0, 0, 0, 2, []), 1), ((13, 0, 20, 0, []), 3), ((2, 0, 0, 0, []), 1), ((17, 4, 5, 0, []), 3), ((1, 1, 0, 0, []), 1), ((19, 5, 20, 0, []), 1), ((0, 0, 0, 3, []), 1), ((13, 1, 24, 0, []), 3), ((0, 0, 0, 1, []), 1), ((12, 0, 25, 0, []), 3), ((27, 1, 0, 0, []), 1)] 0 _ _ _ (by decide +kernel) ?_
  obtain ⟨g1, h⟩ := px_gd h
  refine And.intro g1 ?_
  rcases px_ite h with ⟨c2, h⟩ | ⟨c2, h⟩
  · refine And.intro (fun _ => ?_) (fun hn => absurd c2 hn)
    refine H [((0, 0, 0, 1, []), 1), ((12, 0, 25, 0, []), 3), ((27, 1, 0, 0, []), 1)] 20 _ _ _ (by decide +kernel) ?_
    refine And.intro (show (0 : Int) ≤ 1 ∧ (1 : Int) ≤ 1 from by decide) ?_
    exact Prod.mk.inj (Option.some.inj h)
  · refine And.intro (fun hp => absurd hp c2) (fun _ => ?_)
    obtain ⟨g3, h⟩ := px_gd h
    refine And.intro g3 ?_
    rcases px_ite h with ⟨c4, h⟩ | ⟨c4, h⟩
    · refine And.intro (fun hp => absurd c4 hp) (fun _ => ?_)
      refine And.intro (show (0 : Int) ≤ 1 ∧ (1 : Int) ≤ 1 from by decide) ?_
      exact Prod.mk.inj (Option.some.inj h)
    · refine And.intro (fun _ => ?_) (fun hn => absurd c4 hn)
      refine H [((0, 0, 0, 0, []), 1), ((27, 1, 0, 0, []), 1)] 24 _ _ _ (by decide +kernel) ?_
      refine And.intro (show (0 : Int) ≤ 0 ∧ (0 : Int) ≤ 1 from by decide) ?_
      exact Prod.mk.inj (Option.some.inj h)
theorem ok_Prog_moves_4 {l : Launch} {a1 : Int} {σ : pS} {v : Int} {σ1 : pS} (h : f_Prog_moves_4 a1 σ = some (v, σ1)) : Con l 0 107 [.inr 4, .inl a1] σ v σ1 := Con_mk 2 2 rfl (by decide +kernel) (fun _ H => ok_Prog_moves_4_w H _ _ h)
theorem ok_X_giverOf_0_w {l : Launch} {rv : Int} {rσ : pS} {G : Nat → pL → List pV → pS → Prop} (H : px_R l 1 105 rv rσ G) : ∀ (a1 a2 : Int) (σ : pS), f_X_giverOf_0 a1 a2 σ = some (rv, rσ) → G 0 [some (.inr 0), some (.inl a1), some (.inl a2)] [] σ := by
  intro a1 a2 σ h
  unfold f_X_giverOf_0 at h
  refine H [((2, 0, 0, 0, []), 1), ((17, 0, 3, 0, []), 3), ((17, 3, 4, 0, []), 3), ((17, 4, 5, 0, []), 3), ((1, 1, 0, 0, []), 1), ((19, 5, 20, 0, []), 1), ((0, 0, 0, 2, []), 1), ((13, 1, 32, 0, []), 3), ((1, 2, 0, 0, []), 1), ((2, 0, 0, 0, []), 1), ((17, 0, 3, 0, []), 3), ((17, 3, 4, 0, []), 3), ((17, 4, 7, 0, []), 3), ((1, 1, 0, 0, []), 1), ((19, 7, 20, 0, []), 1), ((13, 2, 35, 0, []), 3), ((0, 0, 0, (-4), []), 2), ((27, 0, 0, 0, []), 1)] 0 _ _ _ (by decide +kernel) ?_
  obtain ⟨g1, h⟩ := px_gd h
  refine And.intro g1 ?_
  rcases px_ite h with ⟨c2, h⟩ | ⟨c2, h⟩
  · refine And.intro (fun hp => absurd c2 hp) (fun _ => ?_)
    obtain ⟨g3, h⟩ := px_gd h
    refine And.intro g3 ?_
    rcases px_ite h with ⟨c4, h⟩ | ⟨c4, h⟩
    · refine And.intro (fun _ => ?_) (fun hn => absurd c4 hn)
      refine H [((2, 0, 0, 0, []), 1), ((16, 0, 8, 0, []), 3), ((14, 0, 61, 0, []), 3), ((2, 0, 0, 0, []), 1), ((17, 0, 71, 0, []), 3), ((17, 71, 77, 0, []), 3), ((1, 1, 0, 0, []), 1), ((0, 0, 0, 4, []), 1), ((6, 2, 0, 0, []), 1), ((1, 2, 0, 0, []), 1), ((6, 0, 0, 0, []), 1), ((19, 77, 80, 0, []), 1), ((24, 106, 1, 1, []), 3), ((12, 0, 63, 0, []), 3), ((27, 0, 0, 0, []), 1)] 35 _ _ _ (by decide +kernel) ?_
      rcases px_ite h with ⟨c5, h⟩ | ⟨c5, h⟩
      · refine And.intro (fun _ => ?_) (fun hn => absurd c5 hn)
        refine H [((0, 0, 0, (-2), []), 2), ((27, 0, 0, 0, []), 1)] 61 _ _ _ (by decide +kernel) ?_
        exact Prod.mk.inj (Option.some.inj h)
      · refine And.intro (fun hp => absurd hp c5) (fun _ => ?_)
        obtain ⟨g6, h⟩ := px_gd h
        refine And.intro g6 ?_
        obtain ⟨⟨vq7, σq7⟩, hq7, h⟩ := px_bind h
        dsimp only at h
        refine Exists.intro 0 (Exists.intro vq7 (Exists.intro σq7 (And.intro (Nat.le_of_ble_eq_true rfl) (And.intro (ok_X_orAbsent hq7) ?_))))
        exact Prod.mk.inj (Option.some.inj h)
    · refine And.intro (fun hp => absurd hp c4) (fun _ => ?_)
      exact Prod.mk.inj (Option.some.inj h)
  · refine And.intro (fun _ => ?_) (fun hn => absurd c2 hn)
    refine H [((0, 0, 0, (-4), []), 2), ((27, 0, 0, 0, []), 1)] 32 _ _ _ (by decide +kernel) ?_
    exact Prod.mk.inj (Option.some.inj h)
theorem ok_X_giverOf_0 {l : Launch} {a1 a2 : Int} {σ : pS} {v : Int} {σ1 : pS} (h : f_X_giverOf_0 a1 a2 σ = some (v, σ1)) : Con l 1 105 [.inr 0, .inl a1, .inl a2] σ v σ1 := Con_mk 3 3 rfl (by decide +kernel) (fun _ H => ok_X_giverOf_0_w H _ _ _ h)
theorem ok_X_opIs_0_p26 {l : Launch} {rv : Int} {rσ : pS} {G : Nat → pL → List pV → pS → Prop} (H : px_R l 2 103 rv rσ G) : ∀ (a1 a2 : Int) (σ : pS), f_X_opIs_0_p26 a1 a2 σ = some (rv, rσ) → G 26 [some (.inr 0), some (.inl a1), some (.inl a2)] [] σ := by
  intro a1 a2 σ h
  unfold f_X_opIs_0_p26 at h
  refine H [((1, 2, 0, 0, []), 1), ((0, 0, 0, 10, []), 2), ((13, 2, 42, 0, []), 3), ((2, 0, 0, 0, []), 1), ((1, 1, 0, 0, []), 1), ((1, 2, 0, 0, []), 1), ((0, 0, 0, 10, []), 2), ((6, 1, 0, 0, []), 1), ((23, 105, 2, 1, [(0, 0)]), 3), ((27, 0, 0, 0, []), 1)] 26 _ _ _ (by decide +kernel) ?_
  rcases px_ite h with ⟨c5, h⟩ | ⟨c5, h⟩
  · refine And.intro (fun _ => ?_) (fun hn => absurd c5 hn)
    refine H [((1, 2, 0, 0, []), 1), ((14, 1, 59, 0, []), 3), ((2, 0, 0, 0, []), 1), ((17, 0, 3, 0, []), 3), ((17, 3, 4, 0, []), 3), ((17, 4, 5, 0, []), 3), ((1, 1, 0, 0, []), 1), ((19, 5, 20, 0, []), 1), ((27, 0, 0, 0, []), 1)] 42 _ _ _ (by decide +kernel) ?_
    rcases px_ite h with ⟨c6, h⟩ | ⟨c6, h⟩
    · refine And.intro (fun hp => absurd c6 hp) (fun _ => ?_)
      obtain ⟨g20, h⟩ := px_gd h
      refine And.intro g20 ?_
      exact Prod.mk.inj (Option.some.inj h)
    · refine And.intro (fun _ => ?_) (fun hn => absurd c6 hn)
      refine H [((1, 2, 0, 0, []), 1), ((0, 0, 0, 1, []), 1), ((13, 1, 80, 0, []), 3), ((2, 0, 0, 0, []), 1), ((17, 0, 3, 0, []), 3), ((17, 3, 24, 0, []), 3), ((17, 24, 27, 0, []), 3), ((1, 1, 0, 0, []), 1), ((19, 27, 20, 0, []), 1), ((24, 106, 1, 1, []), 3), ((27, 0, 0, 0, []), 1)] 59 _ _ _ (by decide +kernel) ?_
      rcases px_ite h with ⟨c7, h⟩ | ⟨c7, h⟩
      · refine And.intro (fun hp => absurd c7 hp) (fun _ => ?_)
        obtain ⟨g18, h⟩ := px_gd h
        refine And.intro g18 ?_
        obtain ⟨⟨vq19, σq19⟩, hq19, h⟩ := px_bind h
        dsimp only at h
        refine Exists.intro 0 (Exists.intro vq19 (Exists.intro σq19 (And.intro (Nat.le_of_ble_eq_true rfl) (And.intro (ok_X_orAbsent hq19) ?_))))
        exact Prod.mk.inj (Option.some.inj h)
      · refine And.intro (fun _ => ?_) (fun hn => absurd c7 hn)
        refine H [((2, 0, 0, 0, []), 1), ((16, 0, 8, 0, []), 3), ((14, 1, 90, 0, []), 3), ((0, 0, 0, (-2), []), 2), ((27, 0, 0, 0, []), 1)] 80 _ _ _ (by decide +kernel) ?_
        rcases px_ite h with ⟨c8, h⟩ | ⟨c8, h⟩
        · refine And.intro (fun hp => absurd c8 hp) (fun _ => ?_)
          exact Prod.mk.inj (Option.some.inj h)
        · refine And.intro (fun _ => ?_) (fun hn => absurd c8 hn)
          refine H [((1, 2, 0, 0, []), 1), ((15, 0, 146, 0, [(2, 116), (3, 126), (4, 136)]), 25)] 90 _ _ _ (by decide +kernel) ?_
          rcases px_ite h with ⟨c9, h⟩ | ⟨c9, h⟩
          · refine And.intro (fun _ => ?_) (fun hn => absurd c9 hn)
            refine H [((2, 0, 0, 0, []), 1), ((17, 0, 71, 0, []), 3), ((17, 71, 73, 0, []), 3), ((1, 1, 0, 0, []), 1), ((19, 73, 20, 0, []), 1), ((27, 0, 0, 0, []), 1)] 116 _ _ _ (by decide +kernel) ?_
            obtain ⟨g10, h⟩ := px_gd h
            refine And.intro g10 ?_
            exact Prod.mk.inj (Option.some.inj h)
          · refine And.intro (fun hp => absurd hp c9) (fun _ => ?_)
            rcases px_ite h with ⟨c11, h⟩ | ⟨c11, h⟩
            · refine And.intro (fun _ => ?_) (fun hn => absurd c11 hn)
              refine H [((2, 0, 0, 0, []), 1), ((17, 0, 71, 0, []), 3), ((17, 71, 74, 0, []), 3), ((1, 1, 0, 0, []), 1), ((19, 74, 20, 0, []), 1), ((27, 0, 0, 0, []), 1)] 126 _ _ _ (by decide +kernel) ?_
              obtain ⟨g12, h⟩ := px_gd h
              refine And.intro g12 ?_
              exact Prod.mk.inj (Option.some.inj h)
            · refine And.intro (fun hp => absurd hp c11) (fun _ => ?_)
              rcases px_ite h with ⟨c13, h⟩ | ⟨c13, h⟩
              · refine And.intro (fun _ => ?_) (fun hn => absurd c13 hn)
                refine H [((2, 0, 0, 0, []), 1), ((17, 0, 71, 0, []), 3), ((17, 71, 75, 0, []), 3), ((1, 1, 0, 0, []), 1), ((19, 75, 20, 0, []), 1), ((27, 0, 0, 0, []), 1)] 136 _ _ _ (by decide +kernel) ?_
                obtain ⟨g14, h⟩ := px_gd h
                refine And.intro g14 ?_
                exact Prod.mk.inj (Option.some.inj h)
              · refine And.intro (fun hp => absurd hp c13) (fun _ => ?_)
                refine H [((2, 0, 0, 0, []), 1), ((17, 0, 3, 0, []), 3), ((17, 3, 4, 0, []), 3), ((1, 1, 0, 0, []), 1), ((23, 107, 1, 1, [(0, 4)]), 3), ((14, 0, 172, 0, []), 3), ((2, 0, 0, 0, []), 1), ((17, 0, 71, 0, []), 3), ((17, 71, 76, 0, []), 3), ((1, 1, 0, 0, []), 1), ((19, 76, 20, 0, []), 1), ((12, 0, 174, 0, []), 3), ((27, 0, 0, 0, []), 1)] 146 _ _ _ (by decide +kernel) ?_
                obtain ⟨⟨vq15, σq15⟩, hq15, h⟩ := px_bind h
                dsimp only at h
                refine Exists.intro 0 (Exists.intro vq15 (Exists.intro σq15 (And.intro (Nat.le_of_ble_eq_true rfl) (And.intro (ok_Prog_moves_4 hq15) ?_))))
                rcases px_ite h with ⟨c16, h⟩ | ⟨c16, h⟩
                · refine And.intro (fun _ => ?_) (fun hn => absurd c16 hn)
                  refine H [((0, 0, 0, (-2), []), 2), ((27, 0, 0, 0, []), 1)] 172 _ _ _ (by decide +kernel) ?_
                  exact Prod.mk.inj (Option.some.inj h)
                · refine And.intro (fun hp => absurd hp c16) (fun _ => ?_)
                  obtain ⟨g17, h⟩ := px_gd h
                  refine And.intro g17 ?_
                  exact Prod.mk.inj (Option.some.inj h)
  · refine And.intro (fun hp => absurd hp c5) (fun _ => ?_)
    obtain ⟨⟨vq21, σq21⟩, hq21, h⟩ := px_bind h
    dsimp only at h
    refine Exists.intro 1 (Exists.intro vq21 (Exists.intro σq21 (And.intro (Nat.le_of_ble_eq_true rfl) (And.intro (ok_X_giverOf_0 hq21) ?_))))
    exact Prod.mk.inj (Option.some.inj h)
theorem ok_X_opIs_0_w {l : Launch} {rv : Int} {rσ : pS} {G : Nat → pL → List pV → pS → Prop} (H : px_R l 2 103 rv rσ G) : ∀ (a1 a2 : Int) (σ : pS), f_X_opIs_0 a1 a2 σ = some (rv, rσ) → G 0 [some (.inr 0), some (.inl a1), some (.inl a2)] [] σ := by
  intro a1 a2 σ h
  unfold f_X_opIs_0 at h
  refine H [((2, 0, 0, 0, []), 1), ((1, 1, 0, 0, []), 1), ((23, 104, 1, 1, [(0, 0)]), 3), ((14, 0, 23, 0, []), 3), ((1, 2, 0, 0, []), 1), ((14, 2, 23, 0, []), 3), ((1, 2, 0, 0, []), 1), ((0, 0, 0, 5, []), 1), ((13, 5, 26, 0, []), 3), ((1, 2, 0, 0, []), 1), ((0, 0, 0, 10, []), 2), ((13, 3, 26, 0, []), 3), ((0, 0, 0, (-100000), []), 2), ((27, 0, 0, 0, []), 1)] 0 _ _ _ (by decide +kernel) ?_
  obtain ⟨⟨vq1, σq1⟩, hq1, h⟩ := px_bind h
  dsimp only at h
  refine Exists.intro 0 (Exists.intro vq1 (Exists.intro σq1 (And.intro (Nat.le_of_ble_eq_true rfl) (And.intro (ok_X_isOp_0 hq1) ?_))))
  rcases px_ite h with ⟨c2, h⟩ | ⟨c2, h⟩
  · refine And.intro (fun _ => ?_) (fun hn => absurd c2 hn)
    refine H [((0, 0, 0, (-100000), []), 2), ((27, 0, 0, 0, []), 1)] 23 _ _ _ (by decide +kernel) ?_
    exact Prod.mk.inj (Option.some.inj h)
  · refine And.intro (fun hp => absurd hp c2) (fun _ => ?_)
    rcases px_ite h with ⟨c3, h⟩ | ⟨c3, h⟩
    · refine And.intro (fun _ => ?_) (fun hn => absurd c3 hn)
      refine H [((0, 0, 0, (-100000), []), 2), ((27, 0, 0, 0, []), 1)] 23 _ _ _ (by decide +kernel) ?_
      exact Prod.mk.inj (Option.some.inj h)
    · refine And.intro (fun hp => absurd hp c3) (fun _ => ?_)
      rcases px_ite h with ⟨c4, h⟩ | ⟨c4, h⟩
      · refine And.intro (fun _ => ?_) (fun hn => absurd c4 hn)
        exact ok_X_opIs_0_p26 H _ _ _ h
      · refine And.intro (fun hp => absurd hp c4) (fun _ => ?_)
        rcases px_ite h with ⟨c22, h⟩ | ⟨c22, h⟩
        · refine And.intro (fun _ => ?_) (fun hn => absurd c22 hn)
          exact ok_X_opIs_0_p26 H _ _ _ h
        · refine And.intro (fun hp => absurd hp c22) (fun _ => ?_)
          exact Prod.mk.inj (Option.some.inj h)
theorem ok_X_opIs_0 {l : Launch} {a1 a2 : Int} {σ : pS} {v : Int} {σ1 : pS} (h : f_X_opIs_0 a1 a2 σ = some (v, σ1)) : Con l 2 103 [.inr 0, .inl a1, .inl a2] σ v σ1 := Con_mk 3 3 rfl (by decide +kernel) (fun _ H => ok_X_opIs_0_w H _ _ _ h)
